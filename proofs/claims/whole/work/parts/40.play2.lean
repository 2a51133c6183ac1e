/-! play: both answer alike -/
section
variable {q q' : Nat → Nat} {c d : Nat} {I I1 I2 : am_TI} {L : am_TL} {R : am_TR}
theorem sq_stepU : ∀ w, w < 6 → ∀ x, x < 25 → ∀ o, o < 25 → w = 0 ∨ x = o ∨ (if (am_abs ((nI o - nI o / nI w * nI w) - (nI x - nI x / nI w * nI w))) < (am_abs ((nI o / nI w) - (nI x / nI w))) then (if 0 ≤ ((nI o / nI w) - (nI x / nI w)) then (if ((nI o / nI w) - (nI x / nI w)) = 0 then nI x + nI w * 0 else nI x + nI w * 1) else nI x + nI w * (-1)) else (if 0 ≤ ((nI o - nI o / nI w * nI w) - (nI x - nI x / nI w * nI w)) then (if ((nI o - nI o / nI w * nI w) - (nI x - nI x / nI w * nI w)) = 0 then nI x + 0 else nI x + 1) else nI x + (-1))) = nI (sq_step w o x) := by decide +kernel
theorem sq_stepM : ∀ w, w < 6 → ∀ x, x < 25 → ∀ o, o < 25 → w = 0 ∨ x = o ∨ (if (((nI o - nI o / nI w * nI w) - (nI x - nI x / nI w * nI w)) * ((nI o - nI o / nI w * nI w) - (nI x - nI x / nI w * nI w))) < (((nI o / nI w) - (nI x / nI w)) * ((nI o / nI w) - (nI x / nI w))) then (if ((nI o / nI w) - (nI x / nI w)) ≤ 0 then nI x - nI w else nI x + nI w) else (if ((nI o - nI o / nI w * nI w) - (nI x - nI x / nI w * nI w)) ≤ 0 then nI x - 1 else nI x + 1)) = nI (sq_step w o x) := by decide +kernel
theorem sq_stepM0 : ∀ w, w < 6 → ∀ x, x < 25 → ∀ o, o < 25 → w = 0 ∨ x = o ∨ ¬ ((nI o - nI o / nI w * nI w) - (nI x - nI x / nI w * nI w)) = 0 ∨ ¬ ((nI o / nI w) - (nI x / nI w)) = 0 := by decide +kernel
theorem su_step (h : sq_U q c d I L) (ok : sq_Ok q) {x : Nat} (hx : x < 25) (hxo : x ≠ q 6) {Q : Int32 → Prop} (k : Q (nI (sq_step (q 0) (q 6) x))) : wp_Square_aStepNearer I L R c (nI x) Q := by
  have o := ok.1.1
  have e := ((sq_stepU (q 0) (by omega) x hx (q 6) ok.or25).resolve_left (by omega)).resolve_left hxo
  unfold wp_Square_aStepNearer wp_Integer_compare
  rw [h.n0, h.n6]
  have n0 := nI_ne0 (n := q 0) (by omega) (by omega)
  refine ⟨fun _ => ⟨n0, n0, n0, n0, ⟨fun g => ⟨fun g1 => ⟨fun g2 => ?_, fun g2 => ?_⟩, fun g1 => ?_⟩, fun g => ⟨fun g1 => ⟨fun g2 => ?_, fun g2 => ?_⟩, fun g1 => ?_⟩⟩⟩, fun g => absurd ((nI_ltI (a := 0) (by omega) (by omega)).mpr (by omega)) g⟩
  · rw [if_pos g, if_pos g1, if_pos g2] at e; exact (congrArg Q e).mpr k
  · rw [if_pos g, if_pos g1, if_neg g2] at e; exact (congrArg Q e).mpr k
  · rw [if_pos g, if_neg g1] at e; exact (congrArg Q e).mpr k
  · rw [if_neg g, if_pos g1, if_pos g2] at e; exact (congrArg Q e).mpr k
  · rw [if_neg g, if_pos g1, if_neg g2] at e; exact (congrArg Q e).mpr k
  · rw [if_neg g, if_neg g1] at e; exact (congrArg Q e).mpr k
theorem sm_step (h : sq_M q 0 I L) (ok : sq_Ok q) {x : Nat} (hx : x < 25) (hxo : x ≠ q 6) {Q : Int32 → Prop} (k : Q (nI (sq_step (q 0) (q 6) x))) : wp_M_nearer I L R 103 (nI x) Q := by
  have o := ok.1.1
  have e := ((sq_stepM (q 0) (by omega) x hx (q 6) ok.or25).resolve_left (by omega)).resolve_left hxo
  have e0 := ((sq_stepM0 (q 0) (by omega) x hx (q 6) ok.or25).resolve_left (by omega)).resolve_left hxo
  unfold wp_M_nearer
  simp only [Nat.reduceAdd]
  rw [h.n0, h.n6]
  have n0 := nI_ne0 (n := q 0) (by omega) (by omega)
  have fin : wb_M_nearer_47 I L R 103 (nI x) Q (nI (q 0)) (nI (q 6) - nI (q 6) / nI (q 0) * nI (q 0) - (nI x - nI x / nI (q 0) * nI (q 0))) (nI (q 6) / nI (q 0) - nI x / nI (q 0)) := by
    unfold wb_M_nearer_47
    refine ⟨fun g => ⟨fun g1 => ?_, fun g1 => ?_⟩, fun g => ⟨fun g1 => ?_, fun g1 => ?_⟩⟩
    · rw [if_pos g, if_pos g1] at e; exact (congrArg Q e).mpr k
    · rw [if_pos g, if_neg g1] at e; exact (congrArg Q e).mpr k
    · rw [if_neg g, if_pos g1] at e; exact (congrArg Q e).mpr k
    · rw [if_neg g, if_neg g1] at e; exact (congrArg Q e).mpr k
  refine ⟨n0, n0, n0, n0, fun g => ⟨fun g1 => absurd g1 (e0.resolve_left fun z => z g), fun _ => fin⟩, fun _ => fin⟩
/-- what a tune does to the first m hearers -/
def pl_q (q : Nat → Nat) (t : Nat) : Nat → Nat → Nat
  | 0 => q
  | m + 1 => if (q (11 + 4 * m)).testBit t = true then (if q (10 + 4 * m) = q 6 then (if q (12 + 4 * m) = 0 then pl_q q t m else zu (pl_q q t m) (12 + 4 * m) (q (12 + 4 * m) - 1)) else zu (pl_q q t m) (10 + 4 * m) (sq_step (q 0) (q 6) (q (10 + 4 * m)))) else pl_q q t m
def pl_g (q : Nat → Nat) (t m : Nat) : Nat := if (q (11 + 4 * m)).testBit t = true ∧ q (10 + 4 * m) = q 6 ∧ q (12 + 4 * m) ≠ 0 then 1 else 0
def pl_c (q : Nat → Nat) (t : Nat) : Nat → Nat
  | 0 => 0
  | m + 1 => pl_c q t m + pl_g q t m
theorem pl_o (t : Nat) {i : Nat} : ∀ m, (i < 10 ∨ 10 + 4 * m ≤ i ∨ i % 4 = 3 ∨ i % 4 = 1) → pl_q q t m i = q i
  | 0, _ => rfl
  | m + 1, h => by
    rw [pl_q]
    split
    · split
      · split
        · exact pl_o t m (by omega)
        · rw [zu_n (by omega)]; exact pl_o t m (by omega)
      · rw [zu_n (by omega)]; exact pl_o t m (by omega)
    · exact pl_o t m (by omega)
def ph_at (q : Nat → Nat) (t h : Nat) : Nat := if (q (11 + 4 * h)).testBit t = true ∧ q (10 + 4 * h) ≠ q 6 then sq_step (q 0) (q 6) (q (10 + 4 * h)) else q (10 + 4 * h)
theorem pl_at (t : Nat) {h : Nat} : ∀ m, h < m → pl_q q t m (10 + 4 * h) = ph_at q t h
  | 0, hh => by omega
  | m + 1, hh => by
    have step : h < m → pl_q q t m (10 + 4 * h) = ph_at q t h := fun g => pl_at t m g
    have e0 : h = m → pl_q q t m (10 + 4 * h) = q (10 + 4 * h) := fun g => pl_o t m (by omega)
    rcases Nat.lt_or_ge h m with g | g
    · rw [pl_q]
      split
      · split
        · split
          · exact step g
          · rw [zu_n (by omega)]; exact step g
        · rw [zu_n (by omega)]; exact step g
      · exact step g
    · have e : h = m := by omega
      subst e
      rw [pl_q]
      unfold ph_at
      split
      · rename_i g1
        split
        · rename_i g2
          rw [if_neg (show ¬ ((q (11 + 4 * h)).testBit t = true ∧ q (10 + 4 * h) ≠ q 6) from fun x => x.2 g2)]
          split
          · exact e0 rfl
          · rw [zu_n (by omega)]; exact e0 rfl
        · rename_i g2
          rw [if_pos ⟨g1, g2⟩, zu_s]
      · rename_i g1
        rw [if_neg (fun x => g1 x.1)]; exact e0 rfl
theorem pl_cn (t : Nat) {h : Nat} : ∀ m, h < m → pl_q q t m (12 + 4 * h) = q (12 + 4 * h) - pl_g q t h
  | 0, hh => by omega
  | m + 1, hh => by
    have step : h < m → pl_q q t m (12 + 4 * h) = q (12 + 4 * h) - pl_g q t h := fun g => pl_cn t m g
    have e0 : h = m → pl_q q t m (12 + 4 * h) = q (12 + 4 * h) := fun g => pl_o t m (by omega)
    rcases Nat.lt_or_ge h m with g | g
    · rw [pl_q]
      split
      · split
        · split
          · exact step g
          · rw [zu_n (by omega)]; exact step g
        · rw [zu_n (by omega)]; exact step g
      · exact step g
    · have e : h = m := by omega
      subst e
      rw [pl_q]
      unfold pl_g
      split
      · rename_i g1
        split
        · rename_i g2
          split
          · rename_i g3
            rw [if_neg (fun x => x.2.2 g3)]; exact e0 rfl
          · rename_i g3
            rw [if_pos ⟨g1, g2, g3⟩, zu_s]
        · rename_i g2
          rw [if_neg (fun x => g2 x.2.1), zu_n (by omega)]; exact e0 rfl
      · rename_i g1
        rw [if_neg (fun x => g1 x.1)]; exact e0 rfl
def sq_play (q : Nat → Nat) (t : Nat) : Nat → Nat := zu (zu (pl_q q t (q 3)) 8 (min 9999 (q 8 + pl_c q t (q 3)))) 9 (q 9 + 1)
theorem sq_Ok.stepc (ok : sq_Ok q) {x : Nat} (hx : x < q 0 * q 1) (hxo : x ≠ q 6) : sq_step (q 0) (q 6) x < q 0 * q 1 ∧ sq_far (q 0) (sq_step (q 0) (q 6) x) (q 6) + 1 = sq_far (q 0) x (q 6) :=
  (sq_step_far (q 0) (by have := ok.1.1; omega) (q 1) (by have := ok.1.2.1; omega) (q 6) ok.1.2.2.2.1 x hx).resolve_left hxo
theorem pl_ok (ok : sq_Ok q) (t : Nat) : ∀ m, m ≤ q 3 → sq_Ok (pl_q q t m)
  | 0, _ => ok
  | m + 1, hm => by
    have ih := pl_ok ok t m (by omega)
    have o3 := ok.1.2.2.1
    have e0 : pl_q q t m 0 = q 0 := pl_o t m (by omega)
    have e1 : pl_q q t m 1 = q 1 := pl_o t m (by omega)
    obtain ⟨a, b, cc, e⟩ := ok.2.1 m (by omega)
    rw [pl_q]
    split
    · split
      · split
        · exact ih
        · exact ih.put _ (Or.inr (Or.inr (Or.inr (Or.inr ⟨m, by omega⟩))))
      · rename_i g
        exact ih.put _ (Or.inr (Or.inr (Or.inr (Or.inr ⟨m, by omega, Or.inl ⟨rfl, by rw [e0, e1]; exact (ok.stepc a g).1⟩⟩))))
    · exact ih
theorem sq_play_ok (ok : sq_Ok q) (t : Nat) : sq_Ok (sq_play q t) := by
  refine (sq_Ok.put (sq_Ok.put (pl_ok ok t (q 3) (Nat.le_refl _)) _ ?_) _ ?_)
  · refine Or.inr (Or.inr (Or.inl ⟨rfl, Nat.min_le_left _ _⟩))
  · refine Or.inr (Or.inr (Or.inr (Or.inl rfl)))
theorem zn_min {a b : Nat} (ha : a < 2 ^ 31) (hb : b < 2 ^ 31) : am_min (nI a) (nI b) = nI (min a b) := by
  unfold am_min
  simp only [nI_ltI hb ha]
  split <;> congr 1 <;> omega
theorem pl_c_le (t : Nat) : ∀ m, pl_c q t m ≤ m
  | 0 => Nat.le_refl _
  | m + 1 => by
    have := pl_c_le t m
    rw [pl_c, pl_g]; split <;> omega
theorem su_plays (h : sq_U q c d I L) (hcd : sq_cd c d) (ok : sq_Ok q) {t : Nat} (ht : t < 31) {Q : Int32 → am_TI → Prop} (k : ∀ I1, sq_U (sq_play q t) c d I1 L → fr_S c I I1 → Q (nI (pl_c q t (q 3))) I1) : ∃ z, wl_Square_playTune_14 L R c (nI t) Q z I (nI 0) (nI 0) := by
  have o := ok.1.2.2.1
  have o8 := ok.1.2.2.2.2
  refine (zl_up (P := fun f m => ∀ I1, sq_U (pl_q q t m) c d I1 L → fr_S c I I1 → wl_Square_playTune_14 L R c (nI t) Q f I1 (nI (pl_c q t m)) (nI m)) (q 3) (fun f I1 h1 f1 => ?_) (fun f m hm ih I1 h1 f1 => ?_) 0 (by omega)).elim fun z hz => ⟨z, hz I h fr_S.rfl⟩
  · have e3 := h1.n3
    have e8 := h1.n8
    have e9 := h1.n9
    rw [pl_o t _ (by omega)] at e3 e8 e9
    have cl := pl_c_le t (q 3) (q := q)
    simp (disch := omega) only [wl_Square_playTune_14, e3, e8, e9, am_u2_ne, zn_min, zi_0, zi_1, zi_2, zi_3, zi_4, zi_5, zi_6, zi_7, zi_8, zi_9, zi_10, zi_11, zi_12, zi_13, zi_14, zi_15, zi_16, zi_17, zi_18, zi_19, zi_20, zi_21, zi_22, zi_23, zi_24, zi_25, zi_26, zi_30, zi_31, zi_32, zi_34, zi_38, zi_59, zi_60, zi_61, zi_63, zi_64, zi_80, zi_96, zi_97, zi_99, zi_100, zi_122, zi_255, zi_256, zi_300, zi_398, zi_406, zi_900, zi_1000, zi_1024, zi_1624, zi_1662, zi_2030, zi_2031, zi_2068, zi_2258, zi_9999, zi_48, zi_57, zi_65536, zi_3257, zi_11483, zi_1000000, zi_729, zi_81, zi_m1, nI_add, pk_mul, nI_ltI, nI_leI, nI_eq, nI_clamp, zn_in, zn_sub1lt, zn_M, zn_Ml, zn_Mg, zn_Mle, zn_Mge, zn_sub, Nat.reduceAdd, Nat.reduceMul, forall_eq, true_imp_iff, false_imp_iff, and_true, true_and, not_true_eq_false, not_false_eq_true, reduceCtorEq, imp_self, eq_self, false_and, and_false, implies_true]
    refine ⟨fun _ => ?_, fun g => absurd (Nat.le_refl _) g⟩
    refine k _ ((h1.putS hcd (k := 8) (s := 13) (by omega) _).putS hcd (k := 9) (s := 14) (by omega) _) ?_
    exact f1.trans ((fr_S.row (by omega) (by omega) _ _).trans (fr_S.row (by omega) (by omega) _ _))
  · have okm := pl_ok ok t m (by omega)
    have e3 := h1.n3
    have e6 := h1.n6
    have ea := h1.at (k := m) (by rw [pl_o t _ (by omega)]; exact hm)
    have el := h1.lk (k := m) (by rw [pl_o t _ (by omega)]; exact hm)
    have ec := h1.cn (k := m) (by rw [pl_o t _ (by omega)]; exact hm)
    rw [pl_o t _ (by omega)] at e3 e6 ea el ec
    have lk := ok.lk31 hm
    have a25 := ok.at25 hm
    have o6 := ok.or25
    have c99 := (ok.2.1 m hm).2.2.1
    simp (disch := omega) only [wl_Square_playTune_14, wp_Square_doesLike, e3, e6, ea, el, ec, zn_bit, zi_0, zi_1, zi_2, zi_3, zi_4, zi_5, zi_6, zi_7, zi_8, zi_9, zi_10, zi_11, zi_12, zi_13, zi_14, zi_15, zi_16, zi_17, zi_18, zi_19, zi_20, zi_21, zi_22, zi_23, zi_24, zi_25, zi_26, zi_30, zi_31, zi_32, zi_34, zi_38, zi_59, zi_60, zi_61, zi_63, zi_64, zi_80, zi_96, zi_97, zi_99, zi_100, zi_122, zi_255, zi_256, zi_300, zi_398, zi_406, zi_900, zi_1000, zi_1024, zi_1624, zi_1662, zi_2030, zi_2031, zi_2068, zi_2258, zi_9999, zi_48, zi_57, zi_65536, zi_3257, zi_11483, zi_1000000, zi_729, zi_81, zi_m1, nI_add, pk_mul, nI_ltI, nI_leI, nI_eq, nI_clamp, zn_in, zn_sub1lt, zn_M, zn_Ml, zn_Mg, zn_Mle, zn_Mge, zn_sub, Nat.reduceAdd, Nat.reduceMul, forall_eq, true_imp_iff, false_imp_iff, and_true, true_and, not_true_eq_false, not_false_eq_true, reduceCtorEq, imp_self, eq_self, false_and, and_false, implies_true]
    refine ⟨fun g => absurd g (by omega), fun _ => ⟨by omega, fun g => ⟨by omega, fun g1 => ⟨by omega, fun g2 => ?_, fun g2 => ⟨by omega, by omega, ?_⟩⟩, fun g1 => ⟨by omega, ?_⟩⟩, fun g => ?_⟩⟩
    · have e : pl_q q t (m + 1) = pl_q q t m := by rw [pl_q, if_pos g, if_pos g1, if_pos (by omega)]
      have ec : pl_c q t (m + 1) = pl_c q t m := by rw [pl_c, pl_g, if_neg (by omega)]; rfl
      rw [e, ec] at ih
      exact ih _ h1 f1
    · have e : pl_q q t (m + 1) = zu (pl_q q t m) (12 + 4 * m) (q (12 + 4 * m) - 1) := by rw [pl_q, if_pos g, if_pos g1, if_neg (by omega)]
      have ec : pl_c q t (m + 1) = pl_c q t m + 1 := by rw [pl_c, pl_g, if_pos ⟨g, g1, by omega⟩]
      rw [e, ec] at ih
      rw [zn_sub (by omega)]
      exact ih _ (h1.putCn hcd (by omega) _) (f1.trans (fr_S.row (by omega) (by omega) _ _))
    · have es : sq_step (pl_q q t m 0) (pl_q q t m 6) (q (10 + 4 * m)) = sq_step (q 0) (q 6) (q (10 + 4 * m)) := by rw [pl_o t _ (by omega), pl_o t _ (by omega)]
      refine su_step h1 okm a25 (by rw [pl_o t _ (by omega)]; exact g1) ?_
      rw [es]
      refine ⟨by omega, ?_⟩
      have e : pl_q q t (m + 1) = zu (pl_q q t m) (10 + 4 * m) (sq_step (q 0) (q 6) (q (10 + 4 * m))) := by rw [pl_q, if_pos g, if_neg g1]
      have ec : pl_c q t (m + 1) = pl_c q t m := by rw [pl_c, pl_g, if_neg (fun x => g1 x.2.1)]; rfl
      rw [e, ec] at ih
      exact ih _ (h1.putAt hcd (by omega) _) (f1.trans (fr_S.row (by omega) (by omega) _ _))
    · have e : pl_q q t (m + 1) = pl_q q t m := by rw [pl_q, if_neg g]
      have ec : pl_c q t (m + 1) = pl_c q t m := by rw [pl_c, pl_g, if_neg (fun x => g x.1)]; rfl
      rw [e, ec] at ih
      exact ih _ h1 f1
theorem sm_plays (h : sq_M q 0 I L) (ok : sq_Ok q) {t : Nat} (ht : t < 31) {Q : Int32 → am_TI → Prop} (k : ∀ I1, sq_M (sq_play q t) 0 I1 L → fr_P I I1 → Q (nI (pl_c q t (q 3))) I1) : wp_M_plays I L R 103 (nI t) Q := by
  have o := ok.1.2.2.1
  have o8 := ok.1.2.2.2.2
  refine (zl_up (P := fun f m => ∀ I1, sq_M (pl_q q t m) 0 I1 L → fr_P I I1 → wl_M_plays_4 L R 103 (nI t) Q f I1 (nI (pl_c q t m)) (nI m)) (q 3) (fun f I1 h1 f1 => ?_) (fun f m hm ih I1 h1 f1 => ?_) 0 (by omega)).elim fun z hz => ⟨z, hz I h fr_P.rfl⟩
  · have e3 := h1.n3
    have e8 := h1.n8
    have e9 := h1.n9
    rw [pl_o t _ (by omega)] at e3 e8 e9
    have cl := pl_c_le t (q 3) (q := q)
    simp (disch := omega) only [wl_M_plays_4, e3, e8, e9, am_u2_ne, zn_min, zi_0, zi_1, zi_2, zi_3, zi_4, zi_5, zi_6, zi_7, zi_8, zi_9, zi_10, zi_11, zi_12, zi_13, zi_14, zi_15, zi_16, zi_17, zi_18, zi_19, zi_20, zi_21, zi_22, zi_23, zi_24, zi_25, zi_26, zi_30, zi_31, zi_32, zi_34, zi_38, zi_59, zi_60, zi_61, zi_63, zi_64, zi_80, zi_96, zi_97, zi_99, zi_100, zi_122, zi_255, zi_256, zi_300, zi_398, zi_406, zi_900, zi_1000, zi_1024, zi_1624, zi_1662, zi_2030, zi_2031, zi_2068, zi_2258, zi_9999, zi_48, zi_57, zi_65536, zi_3257, zi_11483, zi_1000000, zi_729, zi_81, zi_m1, nI_add, pk_mul, nI_ltI, nI_leI, nI_eq, nI_clamp, zn_in, zn_sub1lt, zn_M, zn_Ml, zn_Mg, zn_Mle, zn_Mge, zn_sub, Nat.reduceAdd, Nat.reduceMul, forall_eq, true_imp_iff, false_imp_iff, and_true, true_and, not_true_eq_false, not_false_eq_true, reduceCtorEq, imp_self, eq_self, false_and, and_false, implies_true]
    refine ⟨fun _ => ?_, fun g => absurd (Nat.le_refl _) g⟩
    refine k _ ((h1.put (k := 8) (by omega) (by omega) (by omega) _).put (k := 9) (by omega) (by omega) (by omega) _) ?_
    exact f1.trans ((fr_P.row (k := 8) (by omega) _).trans (fr_P.row (by omega) _))
  · have okm := pl_ok ok t m (by omega)
    have e3 := h1.n3
    have e6 := h1.n6
    have ea := h1.nk (k := 10 + 4 * m) (by omega) (by omega)
    have el := h1.nk (k := 10 + 4 * m + 1) (by omega) (by omega)
    have ec := h1.nk (k := 10 + 4 * m + 2) (by omega) (by omega)
    rw [pl_o t _ (by omega)] at e3 e6 ea el ec
    rw [show q (10 + 4 * m + 1) = q (11 + 4 * m) by congr 1; omega] at el
    rw [show q (10 + 4 * m + 2) = q (12 + 4 * m) by congr 1; omega] at ec
    have lk := ok.lk31 hm
    have a25 := ok.at25 hm
    have o6 := ok.or25
    have c99 := (ok.2.1 m hm).2.2.1
    simp (disch := omega) only [wl_M_plays_4, wp_M_hearerRow, wp_M_isIn, e3, e6, ea, el, ec, zn_bit, zi_0, zi_1, zi_2, zi_3, zi_4, zi_5, zi_6, zi_7, zi_8, zi_9, zi_10, zi_11, zi_12, zi_13, zi_14, zi_15, zi_16, zi_17, zi_18, zi_19, zi_20, zi_21, zi_22, zi_23, zi_24, zi_25, zi_26, zi_30, zi_31, zi_32, zi_34, zi_38, zi_59, zi_60, zi_61, zi_63, zi_64, zi_80, zi_96, zi_97, zi_99, zi_100, zi_122, zi_255, zi_256, zi_300, zi_398, zi_406, zi_900, zi_1000, zi_1024, zi_1624, zi_1662, zi_2030, zi_2031, zi_2068, zi_2258, zi_9999, zi_48, zi_57, zi_65536, zi_3257, zi_11483, zi_1000000, zi_729, zi_81, zi_m1, nI_add, pk_mul, nI_ltI, nI_leI, nI_eq, nI_clamp, zn_in, zn_sub1lt, zn_M, zn_Ml, zn_Mg, zn_Mle, zn_Mge, zn_sub, Nat.reduceAdd, Nat.reduceMul, forall_eq, true_imp_iff, false_imp_iff, and_true, true_and, not_true_eq_false, not_false_eq_true, reduceCtorEq, imp_self, eq_self, false_and, and_false, implies_true]
    refine ⟨fun g => absurd g (by omega), fun _ => ⟨by omega, fun g => ⟨by omega, fun g1 => ⟨by omega, fun g2 => ?_, fun g2 => ⟨by omega, by omega, ?_⟩⟩, fun g1 => ⟨by omega, ?_⟩⟩, fun g => ?_⟩⟩
    · have e : pl_q q t (m + 1) = pl_q q t m := by rw [pl_q, if_pos g, if_pos g1, if_pos (by omega)]
      have ec : pl_c q t (m + 1) = pl_c q t m := by rw [pl_c, pl_g, if_neg (by omega)]; rfl
      rw [e, ec] at ih
      exact ih _ h1 f1
    · have e : pl_q q t (m + 1) = zu (pl_q q t m) (12 + 4 * m) (q (12 + 4 * m) - 1) := by rw [pl_q, if_pos g, if_pos g1, if_neg (by omega)]
      have ec : pl_c q t (m + 1) = pl_c q t m + 1 := by rw [pl_c, pl_g, if_pos ⟨g, g1, by omega⟩]
      rw [e, ec] at ih
      rw [zn_sub (by omega), show 10 + 4 * m + 2 = 12 + 4 * m by omega]
      exact ih _ (h1.put (k := 12 + 4 * m) (by omega) (by omega) (by omega) _) (f1.trans (fr_P.row (by omega) _))
    · have es : sq_step (pl_q q t m 0) (pl_q q t m 6) (q (10 + 4 * m)) = sq_step (q 0) (q 6) (q (10 + 4 * m)) := by rw [pl_o t _ (by omega), pl_o t _ (by omega)]
      refine sm_step h1 okm a25 (by rw [pl_o t _ (by omega)]; exact g1) ?_
      rw [es]
      refine ⟨by omega, ?_⟩
      have e : pl_q q t (m + 1) = zu (pl_q q t m) (10 + 4 * m) (sq_step (q 0) (q 6) (q (10 + 4 * m))) := by rw [pl_q, if_pos g, if_neg g1]
      have ec : pl_c q t (m + 1) = pl_c q t m := by rw [pl_c, pl_g, if_neg (fun x => g1 x.2.1)]; rfl
      rw [e, ec] at ih
      exact ih _ (h1.put (k := 10 + 4 * m) (by omega) (by omega) (by omega) _) (f1.trans (fr_P.row (by omega) _))
    · have e : pl_q q t (m + 1) = pl_q q t m := by rw [pl_q, if_neg g]
      have ec : pl_c q t (m + 1) = pl_c q t m := by rw [pl_c, pl_g, if_neg (fun x => g x.1)]; rfl
      rw [e, ec] at ih
      exact ih _ h1 f1
theorem su_playTune (h : sq_U q c d I L) (hcd : sq_cd c d) (ok : sq_Ok q) {t : Nat} (ht : t < 31) {Q : Int32 → am_TI → Prop} (k0 : sq_likers q t = 0 → Q nM I) (k : sq_likers q t ≠ 0 → ∀ I1, sq_U (sq_play q t) c d I1 L → fr_S c I I1 → Q (nI (pl_c q t (q 3))) I1) : wp_Square_playTune I L R c (nI t) Q := by
  simp (disch := omega) only [wp_Square_playTune, zi_0, zi_1, zi_2, zi_3, zi_4, zi_5, zi_6, zi_7, zi_8, zi_9, zi_10, zi_11, zi_12, zi_13, zi_14, zi_15, zi_16, zi_17, zi_18, zi_19, zi_20, zi_21, zi_22, zi_23, zi_24, zi_25, zi_26, zi_30, zi_31, zi_32, zi_34, zi_38, zi_59, zi_60, zi_61, zi_63, zi_64, zi_80, zi_96, zi_97, zi_99, zi_100, zi_122, zi_255, zi_256, zi_300, zi_398, zi_406, zi_900, zi_1000, zi_1024, zi_1624, zi_1662, zi_2030, zi_2031, zi_2068, zi_2258, zi_9999, zi_48, zi_57, zi_65536, zi_3257, zi_11483, zi_1000000, zi_729, zi_81, zi_m1, nI_add, pk_mul, nI_ltI, nI_leI, nI_eq, nI_clamp, zn_in, zn_sub1lt, zn_M, zn_Ml, zn_Mg, zn_Mle, zn_Mge, zn_sub, Nat.reduceAdd, Nat.reduceMul, forall_eq, true_imp_iff, false_imp_iff, and_true, true_and, not_true_eq_false, not_false_eq_true, reduceCtorEq, imp_self, eq_self, false_and, and_false, implies_true]
  refine su_likers h ok ht ?_
  have ll := sq_likers_lt ok t
  simp (disch := omega) only [zi_0, zi_1, zi_2, zi_3, zi_4, zi_5, zi_6, zi_7, zi_8, zi_9, zi_10, zi_11, zi_12, zi_13, zi_14, zi_15, zi_16, zi_17, zi_18, zi_19, zi_20, zi_21, zi_22, zi_23, zi_24, zi_25, zi_26, zi_30, zi_31, zi_32, zi_34, zi_38, zi_59, zi_60, zi_61, zi_63, zi_64, zi_80, zi_96, zi_97, zi_99, zi_100, zi_122, zi_255, zi_256, zi_300, zi_398, zi_406, zi_900, zi_1000, zi_1024, zi_1624, zi_1662, zi_2030, zi_2031, zi_2068, zi_2258, zi_9999, zi_48, zi_57, zi_65536, zi_3257, zi_11483, zi_1000000, zi_729, zi_81, zi_m1, nI_add, pk_mul, nI_ltI, nI_leI, nI_eq, nI_clamp, zn_in, zn_sub1lt, zn_M, zn_Ml, zn_Mg, zn_Mle, zn_Mge, zn_sub, Nat.reduceAdd, Nat.reduceMul, forall_eq, true_imp_iff, false_imp_iff, and_true, true_and, not_true_eq_false, not_false_eq_true, reduceCtorEq, imp_self, eq_self, false_and, and_false, implies_true]
  exact ⟨fun g => k0 g, fun g => su_plays h hcd ok ht (k g)⟩
theorem op_play (ok : sq_Ok q) (p1 : Int32) : si_I q (fun I L R Q => wp_U_play I L R 0 p1 Q) (fun I L R Q => wp_M_play I L R 103 p1 Q) := by
  have o3 := ok.1.2.2.1
  rcases zc p1 with hp | ⟨j, hj, rfl⟩
  · refine ⟨nM, 1, q, ok, ?_, ?_⟩
    · intro c d I L R hcd h hc hd hz Q K
      simp (disch := omega) only [wp_U_play, wp_Square_hasTune, wp_U_answeredIfItCanBe, wp_U_within, wp_U_refused, wp_U_answered, hc, h.n2, hp, zi_0, zi_1, zi_2, zi_3, zi_4, zi_5, zi_6, zi_7, zi_8, zi_9, zi_10, zi_11, zi_12, zi_13, zi_14, zi_15, zi_16, zi_17, zi_18, zi_19, zi_20, zi_21, zi_22, zi_23, zi_24, zi_25, zi_26, zi_30, zi_31, zi_32, zi_34, zi_38, zi_59, zi_60, zi_61, zi_63, zi_64, zi_80, zi_96, zi_97, zi_99, zi_100, zi_122, zi_255, zi_256, zi_300, zi_398, zi_406, zi_900, zi_1000, zi_1024, zi_1624, zi_1662, zi_2030, zi_2031, zi_2068, zi_2258, zi_9999, zi_48, zi_57, zi_65536, zi_3257, zi_11483, zi_1000000, zi_729, zi_81, zi_m1, nI_add, pk_mul, nI_ltI, nI_leI, nI_eq, nI_clamp, zn_in, zn_sub1lt, zn_M, zn_Ml, zn_Mg, zn_Mle, zn_Mge, zn_sub, Nat.reduceAdd, Nat.reduceMul, forall_eq, true_imp_iff, false_imp_iff, and_true, true_and, not_true_eq_false, not_false_eq_true, reduceCtorEq, imp_self, eq_self, false_and, and_false, implies_true]
      exact K _ (po_U.q0 h hcd _)
    · intro I L R h Q K
      simp (disch := omega) only [wp_M_play, wp_M_isTune, wp_M_gives, wp_M_refuse, h.n2, hp, zc_e hp, zi_0, zi_1, zi_2, zi_3, zi_4, zi_5, zi_6, zi_7, zi_8, zi_9, zi_10, zi_11, zi_12, zi_13, zi_14, zi_15, zi_16, zi_17, zi_18, zi_19, zi_20, zi_21, zi_22, zi_23, zi_24, zi_25, zi_26, zi_30, zi_31, zi_32, zi_34, zi_38, zi_59, zi_60, zi_61, zi_63, zi_64, zi_80, zi_96, zi_97, zi_99, zi_100, zi_122, zi_255, zi_256, zi_300, zi_398, zi_406, zi_900, zi_1000, zi_1024, zi_1624, zi_1662, zi_2030, zi_2031, zi_2068, zi_2258, zi_9999, zi_48, zi_57, zi_65536, zi_3257, zi_11483, zi_1000000, zi_729, zi_81, zi_m1, nI_add, pk_mul, nI_ltI, nI_leI, nI_eq, nI_clamp, zn_in, zn_sub1lt, zn_M, zn_Ml, zn_Mg, zn_Mle, zn_Mge, zn_sub, Nat.reduceAdd, Nat.reduceMul, forall_eq, true_imp_iff, false_imp_iff, and_true, true_and, not_true_eq_false, not_false_eq_true, reduceCtorEq, imp_self, eq_self, false_and, and_false, implies_true]
      exact K _ (po_M.q0 h ok _)
  by_cases g : q 2 ≤ j
  · refine ⟨nM, 1, q, ok, ?_, ?_⟩
    · intro c d I L R hcd h hc hd hz Q K
      simp (disch := omega) only [wp_U_play, wp_Square_hasTune, wp_U_answeredIfItCanBe, wp_U_within, wp_U_refused, wp_U_answered, hc, h.n2, zi_0, zi_1, zi_2, zi_3, zi_4, zi_5, zi_6, zi_7, zi_8, zi_9, zi_10, zi_11, zi_12, zi_13, zi_14, zi_15, zi_16, zi_17, zi_18, zi_19, zi_20, zi_21, zi_22, zi_23, zi_24, zi_25, zi_26, zi_30, zi_31, zi_32, zi_34, zi_38, zi_59, zi_60, zi_61, zi_63, zi_64, zi_80, zi_96, zi_97, zi_99, zi_100, zi_122, zi_255, zi_256, zi_300, zi_398, zi_406, zi_900, zi_1000, zi_1024, zi_1624, zi_1662, zi_2030, zi_2031, zi_2068, zi_2258, zi_9999, zi_48, zi_57, zi_65536, zi_3257, zi_11483, zi_1000000, zi_729, zi_81, zi_m1, nI_add, pk_mul, nI_ltI, nI_leI, nI_eq, nI_clamp, zn_in, zn_sub1lt, zn_M, zn_Ml, zn_Mg, zn_Mle, zn_Mge, zn_sub, Nat.reduceAdd, Nat.reduceMul, forall_eq, true_imp_iff, false_imp_iff, and_true, true_and, not_true_eq_false, not_false_eq_true, reduceCtorEq, imp_self, eq_self, false_and, and_false, implies_true]
      repeat' (first | omega | with_reducible refine And.intro ?_ ?_ | with_reducible intro g)
      exact K _ (po_U.q0 h hcd _)
    · intro I L R h Q K
      simp (disch := omega) only [wp_M_play, wp_M_isTune, wp_M_gives, wp_M_refuse, h.n2, zi_0, zi_1, zi_2, zi_3, zi_4, zi_5, zi_6, zi_7, zi_8, zi_9, zi_10, zi_11, zi_12, zi_13, zi_14, zi_15, zi_16, zi_17, zi_18, zi_19, zi_20, zi_21, zi_22, zi_23, zi_24, zi_25, zi_26, zi_30, zi_31, zi_32, zi_34, zi_38, zi_59, zi_60, zi_61, zi_63, zi_64, zi_80, zi_96, zi_97, zi_99, zi_100, zi_122, zi_255, zi_256, zi_300, zi_398, zi_406, zi_900, zi_1000, zi_1024, zi_1624, zi_1662, zi_2030, zi_2031, zi_2068, zi_2258, zi_9999, zi_48, zi_57, zi_65536, zi_3257, zi_11483, zi_1000000, zi_729, zi_81, zi_m1, nI_add, pk_mul, nI_ltI, nI_leI, nI_eq, nI_clamp, zn_in, zn_sub1lt, zn_M, zn_Ml, zn_Mg, zn_Mle, zn_Mge, zn_sub, Nat.reduceAdd, Nat.reduceMul, forall_eq, true_imp_iff, false_imp_iff, and_true, true_and, not_true_eq_false, not_false_eq_true, reduceCtorEq, imp_self, eq_self, false_and, and_false, implies_true]
      repeat' (first | omega | with_reducible refine And.intro ?_ ?_ | with_reducible intro g)
      exact K _ (po_M.q0 h ok _)
  have ll := sq_likers_lt ok j
  have cl := pl_c_le j (q 3) (q := q)
  by_cases e : sq_likers q j = 0
  · refine ⟨nM, 7, q, ok, ?_, ?_⟩
    · intro c d I L R hcd h hc hd hz Q K
      simp (disch := omega) only [wp_U_play, wp_Square_hasTune, wp_U_answeredIfItCanBe, wp_U_within, wp_U_refused, wp_U_answered, hc, h.n2, zi_0, zi_1, zi_2, zi_3, zi_4, zi_5, zi_6, zi_7, zi_8, zi_9, zi_10, zi_11, zi_12, zi_13, zi_14, zi_15, zi_16, zi_17, zi_18, zi_19, zi_20, zi_21, zi_22, zi_23, zi_24, zi_25, zi_26, zi_30, zi_31, zi_32, zi_34, zi_38, zi_59, zi_60, zi_61, zi_63, zi_64, zi_80, zi_96, zi_97, zi_99, zi_100, zi_122, zi_255, zi_256, zi_300, zi_398, zi_406, zi_900, zi_1000, zi_1024, zi_1624, zi_1662, zi_2030, zi_2031, zi_2068, zi_2258, zi_9999, zi_48, zi_57, zi_65536, zi_3257, zi_11483, zi_1000000, zi_729, zi_81, zi_m1, nI_add, pk_mul, nI_ltI, nI_leI, nI_eq, nI_clamp, zn_in, zn_sub1lt, zn_M, zn_Ml, zn_Mg, zn_Mle, zn_Mge, zn_sub, Nat.reduceAdd, Nat.reduceMul, forall_eq, true_imp_iff, false_imp_iff, and_true, true_and, not_true_eq_false, not_false_eq_true, reduceCtorEq, imp_self, eq_self, false_and, and_false, implies_true]
      repeat' (first | omega | with_reducible refine And.intro ?_ ?_ | with_reducible intro g)
      refine su_playTune h hcd ok (by omega) (fun _ => ?_) (fun g => absurd e g)
      try simp (disch := omega) only [zi_0, zi_1, zi_2, zi_3, zi_4, zi_5, zi_6, zi_7, zi_8, zi_9, zi_10, zi_11, zi_12, zi_13, zi_14, zi_15, zi_16, zi_17, zi_18, zi_19, zi_20, zi_21, zi_22, zi_23, zi_24, zi_25, zi_26, zi_30, zi_31, zi_32, zi_34, zi_38, zi_59, zi_60, zi_61, zi_63, zi_64, zi_80, zi_96, zi_97, zi_99, zi_100, zi_122, zi_255, zi_256, zi_300, zi_398, zi_406, zi_900, zi_1000, zi_1024, zi_1624, zi_1662, zi_2030, zi_2031, zi_2068, zi_2258, zi_9999, zi_48, zi_57, zi_65536, zi_3257, zi_11483, zi_1000000, zi_729, zi_81, zi_m1, nI_add, pk_mul, nI_ltI, nI_leI, nI_eq, nI_clamp, zn_in, zn_sub1lt, zn_M, zn_Ml, zn_Mg, zn_Mle, zn_Mge, zn_sub, Nat.reduceAdd, Nat.reduceMul, forall_eq, true_imp_iff, false_imp_iff, and_true, true_and, not_true_eq_false, not_false_eq_true, reduceCtorEq, imp_self, eq_self, false_and, and_false, implies_true]
      repeat' (first | omega | with_reducible refine And.intro ?_ ?_ | with_reducible intro g)
      exact K _ (po_U.q0 h hcd _)
    · intro I L R h Q K
      simp (disch := omega) only [wp_M_play, wp_M_isTune, wp_M_gives, wp_M_refuse, h.n2, zi_0, zi_1, zi_2, zi_3, zi_4, zi_5, zi_6, zi_7, zi_8, zi_9, zi_10, zi_11, zi_12, zi_13, zi_14, zi_15, zi_16, zi_17, zi_18, zi_19, zi_20, zi_21, zi_22, zi_23, zi_24, zi_25, zi_26, zi_30, zi_31, zi_32, zi_34, zi_38, zi_59, zi_60, zi_61, zi_63, zi_64, zi_80, zi_96, zi_97, zi_99, zi_100, zi_122, zi_255, zi_256, zi_300, zi_398, zi_406, zi_900, zi_1000, zi_1024, zi_1624, zi_1662, zi_2030, zi_2031, zi_2068, zi_2258, zi_9999, zi_48, zi_57, zi_65536, zi_3257, zi_11483, zi_1000000, zi_729, zi_81, zi_m1, nI_add, pk_mul, nI_ltI, nI_leI, nI_eq, nI_clamp, zn_in, zn_sub1lt, zn_M, zn_Ml, zn_Mg, zn_Mle, zn_Mge, zn_sub, Nat.reduceAdd, Nat.reduceMul, forall_eq, true_imp_iff, false_imp_iff, and_true, true_and, not_true_eq_false, not_false_eq_true, reduceCtorEq, imp_self, eq_self, false_and, and_false, implies_true]
      repeat' (first | omega | with_reducible refine And.intro ?_ ?_ | with_reducible intro g)
      refine sm_likers h ok (by omega) ?_
      try simp (disch := omega) only [zi_0, zi_1, zi_2, zi_3, zi_4, zi_5, zi_6, zi_7, zi_8, zi_9, zi_10, zi_11, zi_12, zi_13, zi_14, zi_15, zi_16, zi_17, zi_18, zi_19, zi_20, zi_21, zi_22, zi_23, zi_24, zi_25, zi_26, zi_30, zi_31, zi_32, zi_34, zi_38, zi_59, zi_60, zi_61, zi_63, zi_64, zi_80, zi_96, zi_97, zi_99, zi_100, zi_122, zi_255, zi_256, zi_300, zi_398, zi_406, zi_900, zi_1000, zi_1024, zi_1624, zi_1662, zi_2030, zi_2031, zi_2068, zi_2258, zi_9999, zi_48, zi_57, zi_65536, zi_3257, zi_11483, zi_1000000, zi_729, zi_81, zi_m1, nI_add, pk_mul, nI_ltI, nI_leI, nI_eq, nI_clamp, zn_in, zn_sub1lt, zn_M, zn_Ml, zn_Mg, zn_Mle, zn_Mge, zn_sub, Nat.reduceAdd, Nat.reduceMul, forall_eq, true_imp_iff, false_imp_iff, and_true, true_and, not_true_eq_false, not_false_eq_true, reduceCtorEq, imp_self, eq_self, false_and, and_false, implies_true]
      repeat' (first | omega | with_reducible refine And.intro ?_ ?_ | with_reducible intro g)
      exact K _ (po_M.q0 h ok _)
  · refine ⟨nI (pl_c q j (q 3)), 0, sq_play q j, sq_play_ok ok j, ?_, ?_⟩
    · intro c d I L R hcd h hc hd hz Q K
      simp (disch := omega) only [wp_U_play, wp_Square_hasTune, wp_U_answeredIfItCanBe, wp_U_within, wp_U_refused, wp_U_answered, hc, h.n2, zi_0, zi_1, zi_2, zi_3, zi_4, zi_5, zi_6, zi_7, zi_8, zi_9, zi_10, zi_11, zi_12, zi_13, zi_14, zi_15, zi_16, zi_17, zi_18, zi_19, zi_20, zi_21, zi_22, zi_23, zi_24, zi_25, zi_26, zi_30, zi_31, zi_32, zi_34, zi_38, zi_59, zi_60, zi_61, zi_63, zi_64, zi_80, zi_96, zi_97, zi_99, zi_100, zi_122, zi_255, zi_256, zi_300, zi_398, zi_406, zi_900, zi_1000, zi_1024, zi_1624, zi_1662, zi_2030, zi_2031, zi_2068, zi_2258, zi_9999, zi_48, zi_57, zi_65536, zi_3257, zi_11483, zi_1000000, zi_729, zi_81, zi_m1, nI_add, pk_mul, nI_ltI, nI_leI, nI_eq, nI_clamp, zn_in, zn_sub1lt, zn_M, zn_Ml, zn_Mg, zn_Mle, zn_Mge, zn_sub, Nat.reduceAdd, Nat.reduceMul, forall_eq, true_imp_iff, false_imp_iff, and_true, true_and, not_true_eq_false, not_false_eq_true, reduceCtorEq, imp_self, eq_self, false_and, and_false, implies_true]
      repeat' (first | omega | with_reducible refine And.intro ?_ ?_ | with_reducible intro g)
      refine su_playTune h hcd ok (by omega) (fun g => absurd g e) (fun _ I1 h1 f1 => ?_)
      try simp (disch := omega) only [zi_0, zi_1, zi_2, zi_3, zi_4, zi_5, zi_6, zi_7, zi_8, zi_9, zi_10, zi_11, zi_12, zi_13, zi_14, zi_15, zi_16, zi_17, zi_18, zi_19, zi_20, zi_21, zi_22, zi_23, zi_24, zi_25, zi_26, zi_30, zi_31, zi_32, zi_34, zi_38, zi_59, zi_60, zi_61, zi_63, zi_64, zi_80, zi_96, zi_97, zi_99, zi_100, zi_122, zi_255, zi_256, zi_300, zi_398, zi_406, zi_900, zi_1000, zi_1024, zi_1624, zi_1662, zi_2030, zi_2031, zi_2068, zi_2258, zi_9999, zi_48, zi_57, zi_65536, zi_3257, zi_11483, zi_1000000, zi_729, zi_81, zi_m1, nI_add, pk_mul, nI_ltI, nI_leI, nI_eq, nI_clamp, zn_in, zn_sub1lt, zn_M, zn_Ml, zn_Mg, zn_Mle, zn_Mge, zn_sub, Nat.reduceAdd, Nat.reduceMul, forall_eq, true_imp_iff, false_imp_iff, and_true, true_and, not_true_eq_false, not_false_eq_true, reduceCtorEq, imp_self, eq_self, false_and, and_false, implies_true]
      repeat' (first | omega | with_reducible refine And.intro ?_ ?_ | with_reducible intro g)
      exact K _ (po_U.of h1 hcd (f1.toU hcd) _)
    · intro I L R h Q K
      simp (disch := omega) only [wp_M_play, wp_M_isTune, wp_M_gives, wp_M_refuse, h.n2, zi_0, zi_1, zi_2, zi_3, zi_4, zi_5, zi_6, zi_7, zi_8, zi_9, zi_10, zi_11, zi_12, zi_13, zi_14, zi_15, zi_16, zi_17, zi_18, zi_19, zi_20, zi_21, zi_22, zi_23, zi_24, zi_25, zi_26, zi_30, zi_31, zi_32, zi_34, zi_38, zi_59, zi_60, zi_61, zi_63, zi_64, zi_80, zi_96, zi_97, zi_99, zi_100, zi_122, zi_255, zi_256, zi_300, zi_398, zi_406, zi_900, zi_1000, zi_1024, zi_1624, zi_1662, zi_2030, zi_2031, zi_2068, zi_2258, zi_9999, zi_48, zi_57, zi_65536, zi_3257, zi_11483, zi_1000000, zi_729, zi_81, zi_m1, nI_add, pk_mul, nI_ltI, nI_leI, nI_eq, nI_clamp, zn_in, zn_sub1lt, zn_M, zn_Ml, zn_Mg, zn_Mle, zn_Mge, zn_sub, Nat.reduceAdd, Nat.reduceMul, forall_eq, true_imp_iff, false_imp_iff, and_true, true_and, not_true_eq_false, not_false_eq_true, reduceCtorEq, imp_self, eq_self, false_and, and_false, implies_true]
      repeat' (first | omega | with_reducible refine And.intro ?_ ?_ | with_reducible intro g)
      refine sm_likers h ok (by omega) ?_
      try simp (disch := omega) only [zi_0, zi_1, zi_2, zi_3, zi_4, zi_5, zi_6, zi_7, zi_8, zi_9, zi_10, zi_11, zi_12, zi_13, zi_14, zi_15, zi_16, zi_17, zi_18, zi_19, zi_20, zi_21, zi_22, zi_23, zi_24, zi_25, zi_26, zi_30, zi_31, zi_32, zi_34, zi_38, zi_59, zi_60, zi_61, zi_63, zi_64, zi_80, zi_96, zi_97, zi_99, zi_100, zi_122, zi_255, zi_256, zi_300, zi_398, zi_406, zi_900, zi_1000, zi_1024, zi_1624, zi_1662, zi_2030, zi_2031, zi_2068, zi_2258, zi_9999, zi_48, zi_57, zi_65536, zi_3257, zi_11483, zi_1000000, zi_729, zi_81, zi_m1, nI_add, pk_mul, nI_ltI, nI_leI, nI_eq, nI_clamp, zn_in, zn_sub1lt, zn_M, zn_Ml, zn_Mg, zn_Mle, zn_Mge, zn_sub, Nat.reduceAdd, Nat.reduceMul, forall_eq, true_imp_iff, false_imp_iff, and_true, true_and, not_true_eq_false, not_false_eq_true, reduceCtorEq, imp_self, eq_self, false_and, and_false, implies_true]
      repeat' (first | omega | with_reducible refine And.intro ?_ ?_ | with_reducible intro g)
      refine sm_plays h ok (by omega) (fun I1 h1 f1 => ?_)
      exact K _ (po_M.of h1 (sq_play_ok ok j) f1.toM _)
end
