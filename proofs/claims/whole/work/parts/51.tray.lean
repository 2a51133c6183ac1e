/-! trays: tm t is 0 (missing) or one more than how many numbers there are, ts its sort, tv its numbers -/
def tr_U (tm ts : Nat → Nat) (tv : Nat → Nat → Int64) (I : am_TI) (L : am_TL) (R : am_TR) : Prop := ∀ t, t < 4 → am_rd R 1 t = 59 + 2 * t ∧ I (59 + 2 * t) 1 = (if tm t = 0 then nM else nI (ts t)) ∧ (0 < tm t → I (59 + 2 * t) 2 = nI (tm t - 1)) ∧ ∀ i, i + 1 < tm t → L (59 + 2 * t + 1) i = tv t i
def tr_M (tm ts : Nat → Nat) (tv : Nat → Nat → Int64) (I : am_TI) (L : am_TL) : Prop := ∀ t, t < 4 → I 107 t = nI (tm t) - nI 1 ∧ (0 < tm t → I 106 t = nI (ts t)) ∧ ∀ i, i + 1 < tm t → L 108 (60 * t + i) = tv t i
def tr_Ok (tm ts : Nat → Nat) : Prop := ∀ t, t < 4 → tm t ≤ 61 ∧ ts t ≤ 3
def fy_U (I I1 : am_TI) : Prop := ∀ r k, ¬ (r = 0 ∧ k = 15) → ¬ (14 ≤ r ∧ r ≤ 28 ∧ ¬ (r = 26 ∧ k = 0)) → ¬ (59 ≤ r ∧ r ≤ 66) → I1 r k = I r k
def fy_UL (L L1 : am_TL) : Prop := ∀ r, ¬ (59 ≤ r ∧ r ≤ 66) → L1 r = L r
def fy_M (I I1 : am_TI) : Prop := ∀ r k, ¬ (r = 103 ∧ k = 2) → r ≠ 106 → r ≠ 107 → r ≠ 120 → I1 r k = I r k
def fy_ML (L L1 : am_TL) : Prop := ∀ r, r ≠ 108 → L1 r = L r
/-- both answer alike: calls with trays -/
def si_Y {α : Type} (q : Nat → Nat) (tm ts : Nat → Nat) (tv : Nat → Nat → Int64) (U M : am_TI → am_TL → am_TR → (α → am_TI → am_TL → Prop) → Prop) : Prop :=
  ∃ (ans : α) (st : Nat) (tm' ts' : Nat → Nat) (tv' : Nat → Nat → Int64), tr_Ok tm' ts' ∧
    (∀ c d I L R, sq_cd c d → sq_U q c d I L → am_rd R 0 11 = c → I 26 0 = nI 0 → tr_U tm ts tv I L R → ∀ Q : α → am_TI → am_TL → Prop, (∀ I1 L1, tr_U tm' ts' tv' I1 L1 R → I1 0 15 = nI st → fy_U I I1 → fy_UL L L1 → Q ans I1 L1) → U I L R Q) ∧
    (∀ I L R, sq_M q 0 I L → tr_M tm ts tv I L → ∀ Q : α → am_TI → am_TL → Prop, (∀ I1 L1, tr_M tm' ts' tv' I1 L1 → I1 103 2 = nI st → fy_M I I1 → fy_ML L L1 → Q ans I1 L1) → M I L R Q)
theorem zc_t {p : Int32} (h : p < nI 0) {n : Nat} (hn : n < 2 ^ 31) : nI n ≤ p ↔ False := (zc_n h hn).2.1 ▸ Iff.rfl
theorem zc_l {p : Int32} (h : p < nI 0) {n : Nat} (hn : n < 2 ^ 31) : nI n < p ↔ False := (zc_n h hn).2.2.1 ▸ Iff.rfl
theorem zc_m {p : Int32} (h : p < nI 0) {n : Nat} (hn : n < 2 ^ 31) : p < nI n ↔ True := (zc_n h hn).2.2.2.1 ▸ Iff.rfl
theorem zc_k {p : Int32} (h : p < nI 0) {n : Nat} (hn : n < 2 ^ 31) : p ≤ nI n ↔ True := (zc_n h hn).2.2.2.2 ▸ Iff.rfl
theorem zl_m1 : Int32.toInt64 nM = -1 := by decide
section
variable {q : Nat → Nat} {c d : Nat} {I I1 I2 : am_TI} {L L1 L2 : am_TL} {R : am_TR} {tm ts : Nat → Nat} {tv : Nat → Nat → Int64}
theorem fy_U.st (v : Int32) : fy_U I (am_u2 I 0 15 v) := fun r k g _ _ => by unfold am_u2; rw [if_neg g]
theorem fy_U.rfl : fy_U I I := fun _ _ _ _ _ => Eq.refl _
theorem fy_UL.rfl : fy_UL L L := fun _ _ => Eq.refl _
theorem fy_M.st (v : Int32) : fy_M I (am_u2 I 103 2 v) := fun r k g _ _ _ => by unfold am_u2; rw [if_neg g]
theorem fy_M.rfl : fy_M I I := fun _ _ _ _ _ _ => Eq.refl _
theorem fy_ML.rfl : fy_ML L L := fun _ _ => Eq.refl _
theorem fy_U.trans (h : fy_U I I1) (h2 : fy_U I1 I2) : fy_U I I2 := fun r k a b e => (h2 r k a b e).trans (h r k a b e)
theorem fy_UL.trans (h : fy_UL L L1) (h2 : fy_UL L1 L2) : fy_UL L L2 := fun r a => (h2 r a).trans (h r a)
theorem fy_M.trans (h : fy_M I I1) (h2 : fy_M I1 I2) : fy_M I I2 := fun r k a b e f => (h2 r k a b e f).trans (h r k a b e f)
theorem fy_ML.trans (h : fy_ML L L1) (h2 : fy_ML L1 L2) : fy_ML L L2 := fun r a => (h2 r a).trans (h r a)
theorem tr_U.st (y : tr_U tm ts tv I L R) (v : Int32) : tr_U tm ts tv (am_u2 I 0 15 v) L R := fun t ht => by
  obtain ⟨a, b, e, f⟩ := y t ht
  exact ⟨a, by rw [am_u2_row _ _ _ _ (by omega)]; exact b, fun g => by rw [am_u2_row _ _ _ _ (by omega)]; exact e g, f⟩
theorem tr_U.keep (y : tr_U tm ts tv I L R) (e : ∀ r, 59 ≤ r → r ≤ 66 → I1 r = I r) (eL : ∀ r, 59 ≤ r → r ≤ 66 → L1 r = L r) : tr_U tm ts tv I1 L1 R := fun t ht => by
  obtain ⟨a, b, f, g⟩ := y t ht
  rw [e _ (by omega) (by omega), eL _ (by omega) (by omega)]
  exact ⟨a, b, f, g⟩
theorem tr_M.keep (y : tr_M tm ts tv I L) (e1 : I1 106 = I 106) (e2 : I1 107 = I 107) (eL : L1 108 = L 108) : tr_M tm ts tv I1 L1 := fun t ht => by
  rw [e1, e2, eL]
  exact y t ht
theorem tr_M.st (y : tr_M tm ts tv I L) (v : Int32) : tr_M tm ts tv (am_u2 I 103 2 v) L := y.keep (am_u2_row _ _ _ _ (by omega)) (am_u2_row _ _ _ _ (by omega)) rfl
theorem tr_U.r (y : tr_U tm ts tv I L R) {t : Nat} (ht : t < 4) : am_rd R 1 t = 59 + 2 * t := (y t ht).1
theorem tr_U.no (y : tr_U tm ts tv I L R) {t : Nat} (ht : t < 4) (h : tm t = 0) : I (59 + 2 * t) 1 = nM := by rw [(y t ht).2.1, if_pos h]
theorem tr_U.so (y : tr_U tm ts tv I L R) {t : Nat} (ht : t < 4) (h : ¬ tm t = 0) : I (59 + 2 * t) 1 = nI (ts t) := by rw [(y t ht).2.1, if_neg h]
theorem tr_U.mn (y : tr_U tm ts tv I L R) {t : Nat} (ht : t < 4) (h : ¬ tm t = 0) : I (59 + 2 * t) 2 = nI (tm t - 1) := (y t ht).2.2.1 (by omega)
theorem tr_U.at (y : tr_U tm ts tv I L R) {t i : Nat} (ht : t < 4) (h : i + 1 < tm t) : L (59 + 2 * t + 1) i = tv t i := (y t ht).2.2.2 i h
theorem tr_M.no (y : tr_M tm ts tv I L) {t : Nat} (ht : t < 4) (h : tm t = 0) : I 107 t = nM := by rw [(y t ht).1, h]; rfl
theorem tr_M.mn (y : tr_M tm ts tv I L) {t : Nat} (ht : t < 4) (h : ¬ tm t = 0) : I 107 t = nI (tm t - 1) := by rw [(y t ht).1, zn_sub (by omega)]
theorem tr_M.so (y : tr_M tm ts tv I L) {t : Nat} (ht : t < 4) (h : ¬ tm t = 0) : I 106 t = nI (ts t) := (y t ht).2.1 (by omega)
theorem tr_M.at (y : tr_M tm ts tv I L) {t i : Nat} (ht : t < 4) (h : i + 1 < tm t) : L 108 (60 * t + i) = tv t i := (y t ht).2.2 i h
/-- a number comes to a place of a tray -/
def tv_put (tv : Nat → Nat → Int64) (t i : Nat) (v : Int64) : Nat → Nat → Int64 := fun a b => if a = t ∧ b = i then v else tv a b
theorem tr_U.put (y : tr_U tm ts tv I L R) {t i : Nat} (ht : t < 4) (v : Int64) : tr_U tm ts (tv_put tv t i v) I (am_u2 L (59 + 2 * t + 1) i v) R := fun s hs => by
  obtain ⟨a, b, e, f⟩ := y s hs
  refine ⟨a, b, e, fun j hj => ?_⟩
  unfold am_u2 tv_put
  by_cases g : s = t ∧ j = i
  · rw [if_pos (by omega), if_pos g]
  · rw [if_neg (by omega), if_neg g]; exact f j hj
theorem tr_M.put (y : tr_M tm ts tv I L) {t i : Nat} (ht : t < 4) (hi : i < 60) (v : Int64) (ok : tr_Ok tm ts) : tr_M tm ts (tv_put tv t i v) I (am_u2 L 108 (60 * t + i) v) := fun s hs => by
  obtain ⟨a, b, e⟩ := y s hs
  have := (ok s hs).1
  refine ⟨a, b, fun j hj => ?_⟩
  unfold am_u2 tv_put
  by_cases g : s = t ∧ j = i
  · rw [if_pos (by omega), if_pos g]
  · rw [if_neg (by omega), if_neg g]; exact e j hj
/-- cut to a sort -/
def tr_cut (s : Nat) (v : Int64) : Int64 := if s = 0 then Int32.toInt64 (Int8.toInt32 (Int32.toInt8 (Int64.toInt32 v))) else if s = 1 then Int32.toInt64 (Int16.toInt32 (Int32.toInt16 (Int64.toInt32 v))) else if s = 2 then Int32.toInt64 (Int64.toInt32 v) else v
theorem su_cut {x s : Nat} (hs : s ≤ 3) (h : I x 1 = nI s) {v : Int64} {Q : Int64 → Prop} (k : Q (tr_cut s v)) : wp_Tray_cut I L R x v Q := by
  unfold wp_Tray_cut
  rw [h]
  unfold tr_cut at k
  simp (disch := omega) only [zi_0, zi_1, zi_2, zi_3, zi_4, zi_5, zi_6, zi_7, zi_8, zi_9, zi_10, zi_11, zi_12, zi_13, zi_14, zi_15, zi_16, zi_17, zi_18, zi_19, zi_20, zi_21, zi_22, zi_23, zi_24, zi_25, zi_26, zi_30, zi_31, zi_32, zi_34, zi_38, zi_59, zi_60, zi_61, zi_63, zi_64, zi_80, zi_96, zi_97, zi_99, zi_100, zi_122, zi_255, zi_256, zi_300, zi_398, zi_406, zi_900, zi_1000, zi_1024, zi_1624, zi_1662, zi_2030, zi_2031, zi_2068, zi_2258, zi_9999, zi_48, zi_57, zi_65536, zi_3257, zi_11483, zi_1000000, zi_729, zi_81, zi_m1, nI_add, pk_mul, nI_ltI, nI_leI, nI_eq, nI_clamp, zn_in, zn_sub1lt, zn_M, zn_Ml, zn_Mg, zn_Mle, zn_Mge, zn_sub, Nat.reduceAdd, Nat.reduceMul]
  refine ⟨fun g => ?_, fun g => ?_, fun g => ?_, fun g1 g2 g3 => ?_⟩
  · rw [if_pos g] at k; exact k
  · rw [if_neg (by omega), if_pos g] at k; exact k
  · rw [if_neg (by omega), if_neg (by omega), if_pos g] at k; exact k
  · rw [if_neg g1, if_neg g2, if_neg g3] at k; exact k
theorem sm_cut {s : Nat} (hs : s ≤ 3) {v : Int64} {Q : Int64 → Prop} (k : Q (tr_cut s v)) : wp_M_cut I L R v (nI s) Q := by
  unfold wp_M_cut
  unfold tr_cut at k
  simp (disch := omega) only [zi_0, zi_1, zi_2, zi_3, zi_4, zi_5, zi_6, zi_7, zi_8, zi_9, zi_10, zi_11, zi_12, zi_13, zi_14, zi_15, zi_16, zi_17, zi_18, zi_19, zi_20, zi_21, zi_22, zi_23, zi_24, zi_25, zi_26, zi_30, zi_31, zi_32, zi_34, zi_38, zi_59, zi_60, zi_61, zi_63, zi_64, zi_80, zi_96, zi_97, zi_99, zi_100, zi_122, zi_255, zi_256, zi_300, zi_398, zi_406, zi_900, zi_1000, zi_1024, zi_1624, zi_1662, zi_2030, zi_2031, zi_2068, zi_2258, zi_9999, zi_48, zi_57, zi_65536, zi_3257, zi_11483, zi_1000000, zi_729, zi_81, zi_m1, nI_add, pk_mul, nI_ltI, nI_leI, nI_eq, nI_clamp, zn_in, zn_sub1lt, zn_M, zn_Ml, zn_Mg, zn_Mle, zn_Mge, zn_sub, Nat.reduceAdd, Nat.reduceMul]
  refine ⟨fun g => ?_, fun g => ⟨fun g1 => ?_, fun g1 => ⟨fun g2 => ?_, fun g2 => ?_⟩⟩⟩
  · rw [if_pos g] at k; exact k
  · rw [if_neg g, if_pos g1] at k; exact k
  · rw [if_neg g, if_neg g1, if_pos g2] at k; exact k
  · rw [if_neg g, if_neg g1, if_neg g2] at k; exact k
theorem su_fillJ {p0 w : Nat} (hw : w < 2 ^ 31) {v : Int64} {Q : am_TL → Prop} (k : ∀ L1, (∀ i, i < w → L1 p0 i = v) → (∀ r, r ≠ p0 → L1 r = L r) → Q L1) : wp_Arrays_fillJ I L R p0 w v Q := by
  unfold wp_Arrays_fillJ
  refine (zl_up (P := fun f m => ∀ L1, (∀ i, i < m → L1 p0 i = v) → (∀ r, r ≠ p0 → L1 r = L r) → wl_Arrays_fillJ_6 I R p0 w v Q f L1 (nI m) (nI w)) w (fun f L1 a b => ?_) (fun f m hm ih L1 a b => ?_) 0 (by omega)).elim fun z hz => ⟨z, hz L (fun i hi => absurd hi (by omega)) (fun _ _ => rfl)⟩
  · simp (disch := omega) only [wl_Arrays_fillJ_6, zi_0, zi_1, zi_2, zi_3, zi_4, zi_5, zi_6, zi_7, zi_8, zi_9, zi_10, zi_11, zi_12, zi_13, zi_14, zi_15, zi_16, zi_17, zi_18, zi_19, zi_20, zi_21, zi_22, zi_23, zi_24, zi_25, zi_26, zi_30, zi_31, zi_32, zi_34, zi_38, zi_59, zi_60, zi_61, zi_63, zi_64, zi_80, zi_96, zi_97, zi_99, zi_100, zi_122, zi_255, zi_256, zi_300, zi_398, zi_406, zi_900, zi_1000, zi_1024, zi_1624, zi_1662, zi_2030, zi_2031, zi_2068, zi_2258, zi_9999, zi_48, zi_57, zi_65536, zi_3257, zi_11483, zi_1000000, zi_729, zi_81, zi_m1, nI_add, pk_mul, nI_ltI, nI_leI, nI_eq, nI_clamp, zn_in, zn_sub1lt, zn_M, zn_Ml, zn_Mg, zn_Mle, zn_Mge, zn_sub, Nat.reduceAdd, Nat.reduceMul, forall_eq, true_imp_iff, false_imp_iff, and_true, true_and, not_true_eq_false, not_false_eq_true, reduceCtorEq, imp_self, eq_self, false_and, and_false, implies_true]
    exact ⟨fun _ => k L1 a b, fun g => absurd (Nat.le_refl _) g⟩
  · simp (disch := omega) only [wl_Arrays_fillJ_6, zi_0, zi_1, zi_2, zi_3, zi_4, zi_5, zi_6, zi_7, zi_8, zi_9, zi_10, zi_11, zi_12, zi_13, zi_14, zi_15, zi_16, zi_17, zi_18, zi_19, zi_20, zi_21, zi_22, zi_23, zi_24, zi_25, zi_26, zi_30, zi_31, zi_32, zi_34, zi_38, zi_59, zi_60, zi_61, zi_63, zi_64, zi_80, zi_96, zi_97, zi_99, zi_100, zi_122, zi_255, zi_256, zi_300, zi_398, zi_406, zi_900, zi_1000, zi_1024, zi_1624, zi_1662, zi_2030, zi_2031, zi_2068, zi_2258, zi_9999, zi_48, zi_57, zi_65536, zi_3257, zi_11483, zi_1000000, zi_729, zi_81, zi_m1, nI_add, pk_mul, nI_ltI, nI_leI, nI_eq, nI_clamp, zn_in, zn_sub1lt, zn_M, zn_Ml, zn_Mg, zn_Mle, zn_Mge, zn_sub, Nat.reduceAdd, Nat.reduceMul, forall_eq, true_imp_iff, false_imp_iff, and_true, true_and, not_true_eq_false, not_false_eq_true, reduceCtorEq, imp_self, eq_self, false_and, and_false, implies_true]
    refine ⟨fun g => absurd g (by omega), fun _ => ⟨hm, ih _ (fun i hi => ?_) (fun r g => ?_)⟩⟩
    · by_cases e : i = m
      · rw [e, am_u2_at]
      · rw [am_u2_ne _ _ _ _ e]; exact a i (by omega)
    · rw [am_u2_row _ _ _ _ g]; exact b r g
theorem tr_U.lay (y : tr_U tm ts tv I L R) {t s n : Nat} (ht : t < 4) (hL1 : ∀ i, i < 60 → L1 (59 + 2 * t + 1) i = 0) (hL2 : ∀ r, r ≠ 59 + 2 * t + 1 → L1 r = L r) (hn : n ≤ 60) : tr_U (zu tm t (n + 1)) (zu ts t s) (fun a b => if a = t then 0 else tv a b) (am_u2 (am_u2 I (59 + 2 * t) 1 (nI s)) (59 + 2 * t) 2 (nI n)) L1 R := fun x hx => by
  obtain ⟨a, b, e, f⟩ := y x hx
  refine ⟨a, ?_, fun g => ?_, fun j hj => ?_⟩
  · unfold am_u2 zu
    by_cases g : x = t
    · subst g; simp
    · rw [if_neg (by omega), if_neg (by omega), if_neg g, if_neg g]; exact b
  · unfold am_u2
    unfold zu at g ⊢
    by_cases g1 : x = t
    · subst g1; simp
    · rw [if_neg g1] at g
      rw [if_neg (by omega), if_neg (by omega), if_neg g1]; exact e g
  · unfold zu at hj
    by_cases g1 : x = t
    · rw [if_pos g1] at hj
      dsimp only
      rw [if_pos g1, g1]; exact hL1 j (by omega)
    · rw [if_neg g1] at hj
      dsimp only
      rw [if_neg g1, hL2 _ (by omega)]; exact f j hj
theorem tr_Ok.lay (ok : tr_Ok tm ts) {t s n : Nat} (hs : s ≤ 3) (hn : n ≤ 60) : tr_Ok (zu tm t (n + 1)) (zu ts t s) := fun x hx => by
  have := ok x hx
  unfold zu
  by_cases g : x = t
  · rw [if_pos g, if_pos g]; omega
  · rw [if_neg g, if_neg g]; exact this
theorem op_tray (ok : tr_Ok tm ts) (p1 p2 p3 : Int32) : si_Y q tm ts tv (fun I L R Q => wp_U_tray I L R 0 p1 p2 p3 Q) (fun I L R Q => wp_M_tray I L R 103 p1 p2 p3 Q) := by
  rcases zc p1 with hp | ⟨t, ht, rfl⟩
  · refine ⟨false, 1, tm, ts, tv, ok, ?_, ?_⟩
    · intro c d I L R hcd h hc hz y Q K
      simp (disch := omega) only [wp_U_tray, wb_U_tray_26, wp_U_isTray, wp_U_within, wp_U_settled, wp_Tray_lay, hp, zc_t hp, zc_l hp, zc_m hp, zc_k hp, zi_0, zi_1, zi_2, zi_3, zi_4, zi_5, zi_6, zi_7, zi_8, zi_9, zi_10, zi_11, zi_12, zi_13, zi_14, zi_15, zi_16, zi_17, zi_18, zi_19, zi_20, zi_21, zi_22, zi_23, zi_24, zi_25, zi_26, zi_30, zi_31, zi_32, zi_34, zi_38, zi_59, zi_60, zi_61, zi_63, zi_64, zi_80, zi_96, zi_97, zi_99, zi_100, zi_122, zi_255, zi_256, zi_300, zi_398, zi_406, zi_900, zi_1000, zi_1024, zi_1624, zi_1662, zi_2030, zi_2031, zi_2068, zi_2258, zi_9999, zi_48, zi_57, zi_65536, zi_3257, zi_11483, zi_1000000, zi_729, zi_81, zi_m1, nI_add, pk_mul, nI_ltI, nI_leI, nI_eq, nI_clamp, zn_in, zn_sub1lt, zn_M, zn_Ml, zn_Mg, zn_Mle, zn_Mge, zn_sub, Nat.reduceAdd, Nat.reduceMul, forall_eq, true_imp_iff, false_imp_iff, and_true, true_and, not_true_eq_false, not_false_eq_true, reduceCtorEq, imp_self, eq_self, false_and, and_false, implies_true]
      repeat' (first | omega | with_reducible refine And.intro ?_ ?_ | with_reducible intro g)
      all_goals exact K _ _ (y.st _) (am_u2_at _ _ _ _) (fy_U.st _) fy_UL.rfl
    · intro I L R h y Q K
      simp (disch := omega) only [wp_M_tray, wb_M_tray_26, wp_M_isTray, wp_M_is, hp, zc_e hp, zf_n hp, zc_t hp, zc_l hp, zc_m hp, zc_k hp, zi_0, zi_1, zi_2, zi_3, zi_4, zi_5, zi_6, zi_7, zi_8, zi_9, zi_10, zi_11, zi_12, zi_13, zi_14, zi_15, zi_16, zi_17, zi_18, zi_19, zi_20, zi_21, zi_22, zi_23, zi_24, zi_25, zi_26, zi_30, zi_31, zi_32, zi_34, zi_38, zi_59, zi_60, zi_61, zi_63, zi_64, zi_80, zi_96, zi_97, zi_99, zi_100, zi_122, zi_255, zi_256, zi_300, zi_398, zi_406, zi_900, zi_1000, zi_1024, zi_1624, zi_1662, zi_2030, zi_2031, zi_2068, zi_2258, zi_9999, zi_48, zi_57, zi_65536, zi_3257, zi_11483, zi_1000000, zi_729, zi_81, zi_m1, nI_add, pk_mul, nI_ltI, nI_leI, nI_eq, nI_clamp, zn_in, zn_sub1lt, zn_M, zn_Ml, zn_Mg, zn_Mle, zn_Mge, zn_sub, Nat.reduceAdd, Nat.reduceMul, forall_eq, true_imp_iff, false_imp_iff, and_true, true_and, not_true_eq_false, not_false_eq_true, reduceCtorEq, imp_self, eq_self, false_and, and_false, implies_true]
      repeat' (first | omega | with_reducible refine And.intro ?_ ?_ | with_reducible intro g)
      all_goals exact K _ _ (y.st _) (am_u2_at _ _ _ _) (fy_M.st _) fy_ML.rfl
  by_cases g : 3 < t
  · refine ⟨false, 1, tm, ts, tv, ok, ?_, ?_⟩
    · intro c d I L R hcd h hc hz y Q K
      simp (disch := omega) only [wp_U_tray, wb_U_tray_26, wp_U_isTray, wp_U_within, wp_U_settled, wp_Tray_lay, zi_0, zi_1, zi_2, zi_3, zi_4, zi_5, zi_6, zi_7, zi_8, zi_9, zi_10, zi_11, zi_12, zi_13, zi_14, zi_15, zi_16, zi_17, zi_18, zi_19, zi_20, zi_21, zi_22, zi_23, zi_24, zi_25, zi_26, zi_30, zi_31, zi_32, zi_34, zi_38, zi_59, zi_60, zi_61, zi_63, zi_64, zi_80, zi_96, zi_97, zi_99, zi_100, zi_122, zi_255, zi_256, zi_300, zi_398, zi_406, zi_900, zi_1000, zi_1024, zi_1624, zi_1662, zi_2030, zi_2031, zi_2068, zi_2258, zi_9999, zi_48, zi_57, zi_65536, zi_3257, zi_11483, zi_1000000, zi_729, zi_81, zi_m1, nI_add, pk_mul, nI_ltI, nI_leI, nI_eq, nI_clamp, zn_in, zn_sub1lt, zn_M, zn_Ml, zn_Mg, zn_Mle, zn_Mge, zn_sub, Nat.reduceAdd, Nat.reduceMul, forall_eq, true_imp_iff, false_imp_iff, and_true, true_and, not_true_eq_false, not_false_eq_true, reduceCtorEq, imp_self, eq_self, false_and, and_false, implies_true]
      repeat' (first | omega | with_reducible refine And.intro ?_ ?_ | with_reducible intro g)
      all_goals exact K _ _ (y.st _) (am_u2_at _ _ _ _) (fy_U.st _) fy_UL.rfl
    · intro I L R h y Q K
      simp (disch := omega) only [wp_M_tray, wb_M_tray_26, wp_M_isTray, wp_M_is, zi_0, zi_1, zi_2, zi_3, zi_4, zi_5, zi_6, zi_7, zi_8, zi_9, zi_10, zi_11, zi_12, zi_13, zi_14, zi_15, zi_16, zi_17, zi_18, zi_19, zi_20, zi_21, zi_22, zi_23, zi_24, zi_25, zi_26, zi_30, zi_31, zi_32, zi_34, zi_38, zi_59, zi_60, zi_61, zi_63, zi_64, zi_80, zi_96, zi_97, zi_99, zi_100, zi_122, zi_255, zi_256, zi_300, zi_398, zi_406, zi_900, zi_1000, zi_1024, zi_1624, zi_1662, zi_2030, zi_2031, zi_2068, zi_2258, zi_9999, zi_48, zi_57, zi_65536, zi_3257, zi_11483, zi_1000000, zi_729, zi_81, zi_m1, nI_add, pk_mul, nI_ltI, nI_leI, nI_eq, nI_clamp, zn_in, zn_sub1lt, zn_M, zn_Ml, zn_Mg, zn_Mle, zn_Mge, zn_sub, Nat.reduceAdd, Nat.reduceMul, forall_eq, true_imp_iff, false_imp_iff, and_true, true_and, not_true_eq_false, not_false_eq_true, reduceCtorEq, imp_self, eq_self, false_and, and_false, implies_true]
      repeat' (first | omega | with_reducible refine And.intro ?_ ?_ | with_reducible intro g)
      all_goals exact K _ _ (y.st _) (am_u2_at _ _ _ _) (fy_M.st _) fy_ML.rfl
  rcases zc p2 with hp | ⟨s, hs, rfl⟩
  · refine ⟨false, 1, tm, ts, tv, ok, ?_, ?_⟩
    · intro c d I L R hcd h hc hz y Q K
      simp (disch := omega) only [wp_U_tray, wb_U_tray_26, wp_U_isTray, wp_U_within, wp_U_settled, wp_Tray_lay, hp, zc_t hp, zc_l hp, zc_m hp, zc_k hp, zi_0, zi_1, zi_2, zi_3, zi_4, zi_5, zi_6, zi_7, zi_8, zi_9, zi_10, zi_11, zi_12, zi_13, zi_14, zi_15, zi_16, zi_17, zi_18, zi_19, zi_20, zi_21, zi_22, zi_23, zi_24, zi_25, zi_26, zi_30, zi_31, zi_32, zi_34, zi_38, zi_59, zi_60, zi_61, zi_63, zi_64, zi_80, zi_96, zi_97, zi_99, zi_100, zi_122, zi_255, zi_256, zi_300, zi_398, zi_406, zi_900, zi_1000, zi_1024, zi_1624, zi_1662, zi_2030, zi_2031, zi_2068, zi_2258, zi_9999, zi_48, zi_57, zi_65536, zi_3257, zi_11483, zi_1000000, zi_729, zi_81, zi_m1, nI_add, pk_mul, nI_ltI, nI_leI, nI_eq, nI_clamp, zn_in, zn_sub1lt, zn_M, zn_Ml, zn_Mg, zn_Mle, zn_Mge, zn_sub, Nat.reduceAdd, Nat.reduceMul, forall_eq, true_imp_iff, false_imp_iff, and_true, true_and, not_true_eq_false, not_false_eq_true, reduceCtorEq, imp_self, eq_self, false_and, and_false, implies_true]
      repeat' (first | omega | with_reducible refine And.intro ?_ ?_ | with_reducible intro g)
      all_goals exact K _ _ (y.st _) (am_u2_at _ _ _ _) (fy_U.st _) fy_UL.rfl
    · intro I L R h y Q K
      simp (disch := omega) only [wp_M_tray, wb_M_tray_26, wp_M_isTray, wp_M_is, hp, zc_e hp, zf_n hp, zc_t hp, zc_l hp, zc_m hp, zc_k hp, zi_0, zi_1, zi_2, zi_3, zi_4, zi_5, zi_6, zi_7, zi_8, zi_9, zi_10, zi_11, zi_12, zi_13, zi_14, zi_15, zi_16, zi_17, zi_18, zi_19, zi_20, zi_21, zi_22, zi_23, zi_24, zi_25, zi_26, zi_30, zi_31, zi_32, zi_34, zi_38, zi_59, zi_60, zi_61, zi_63, zi_64, zi_80, zi_96, zi_97, zi_99, zi_100, zi_122, zi_255, zi_256, zi_300, zi_398, zi_406, zi_900, zi_1000, zi_1024, zi_1624, zi_1662, zi_2030, zi_2031, zi_2068, zi_2258, zi_9999, zi_48, zi_57, zi_65536, zi_3257, zi_11483, zi_1000000, zi_729, zi_81, zi_m1, nI_add, pk_mul, nI_ltI, nI_leI, nI_eq, nI_clamp, zn_in, zn_sub1lt, zn_M, zn_Ml, zn_Mg, zn_Mle, zn_Mge, zn_sub, Nat.reduceAdd, Nat.reduceMul, forall_eq, true_imp_iff, false_imp_iff, and_true, true_and, not_true_eq_false, not_false_eq_true, reduceCtorEq, imp_self, eq_self, false_and, and_false, implies_true]
      repeat' (first | omega | with_reducible refine And.intro ?_ ?_ | with_reducible intro g)
      all_goals exact K _ _ (y.st _) (am_u2_at _ _ _ _) (fy_M.st _) fy_ML.rfl
  by_cases g1 : 3 < s
  · refine ⟨false, 1, tm, ts, tv, ok, ?_, ?_⟩
    · intro c d I L R hcd h hc hz y Q K
      simp (disch := omega) only [wp_U_tray, wb_U_tray_26, wp_U_isTray, wp_U_within, wp_U_settled, wp_Tray_lay, zi_0, zi_1, zi_2, zi_3, zi_4, zi_5, zi_6, zi_7, zi_8, zi_9, zi_10, zi_11, zi_12, zi_13, zi_14, zi_15, zi_16, zi_17, zi_18, zi_19, zi_20, zi_21, zi_22, zi_23, zi_24, zi_25, zi_26, zi_30, zi_31, zi_32, zi_34, zi_38, zi_59, zi_60, zi_61, zi_63, zi_64, zi_80, zi_96, zi_97, zi_99, zi_100, zi_122, zi_255, zi_256, zi_300, zi_398, zi_406, zi_900, zi_1000, zi_1024, zi_1624, zi_1662, zi_2030, zi_2031, zi_2068, zi_2258, zi_9999, zi_48, zi_57, zi_65536, zi_3257, zi_11483, zi_1000000, zi_729, zi_81, zi_m1, nI_add, pk_mul, nI_ltI, nI_leI, nI_eq, nI_clamp, zn_in, zn_sub1lt, zn_M, zn_Ml, zn_Mg, zn_Mle, zn_Mge, zn_sub, Nat.reduceAdd, Nat.reduceMul, forall_eq, true_imp_iff, false_imp_iff, and_true, true_and, not_true_eq_false, not_false_eq_true, reduceCtorEq, imp_self, eq_self, false_and, and_false, implies_true]
      repeat' (first | omega | with_reducible refine And.intro ?_ ?_ | with_reducible intro g)
      all_goals exact K _ _ (y.st _) (am_u2_at _ _ _ _) (fy_U.st _) fy_UL.rfl
    · intro I L R h y Q K
      simp (disch := omega) only [wp_M_tray, wb_M_tray_26, wp_M_isTray, wp_M_is, zi_0, zi_1, zi_2, zi_3, zi_4, zi_5, zi_6, zi_7, zi_8, zi_9, zi_10, zi_11, zi_12, zi_13, zi_14, zi_15, zi_16, zi_17, zi_18, zi_19, zi_20, zi_21, zi_22, zi_23, zi_24, zi_25, zi_26, zi_30, zi_31, zi_32, zi_34, zi_38, zi_59, zi_60, zi_61, zi_63, zi_64, zi_80, zi_96, zi_97, zi_99, zi_100, zi_122, zi_255, zi_256, zi_300, zi_398, zi_406, zi_900, zi_1000, zi_1024, zi_1624, zi_1662, zi_2030, zi_2031, zi_2068, zi_2258, zi_9999, zi_48, zi_57, zi_65536, zi_3257, zi_11483, zi_1000000, zi_729, zi_81, zi_m1, nI_add, pk_mul, nI_ltI, nI_leI, nI_eq, nI_clamp, zn_in, zn_sub1lt, zn_M, zn_Ml, zn_Mg, zn_Mle, zn_Mge, zn_sub, Nat.reduceAdd, Nat.reduceMul, forall_eq, true_imp_iff, false_imp_iff, and_true, true_and, not_true_eq_false, not_false_eq_true, reduceCtorEq, imp_self, eq_self, false_and, and_false, implies_true]
      repeat' (first | omega | with_reducible refine And.intro ?_ ?_ | with_reducible intro g)
      all_goals exact K _ _ (y.st _) (am_u2_at _ _ _ _) (fy_M.st _) fy_ML.rfl
  rcases zc p3 with hp | ⟨n, hn, rfl⟩
  · refine ⟨false, 1, tm, ts, tv, ok, ?_, ?_⟩
    · intro c d I L R hcd h hc hz y Q K
      simp (disch := omega) only [wp_U_tray, wb_U_tray_26, wp_U_isTray, wp_U_within, wp_U_settled, wp_Tray_lay, hp, zc_t hp, zc_l hp, zc_m hp, zc_k hp, zi_0, zi_1, zi_2, zi_3, zi_4, zi_5, zi_6, zi_7, zi_8, zi_9, zi_10, zi_11, zi_12, zi_13, zi_14, zi_15, zi_16, zi_17, zi_18, zi_19, zi_20, zi_21, zi_22, zi_23, zi_24, zi_25, zi_26, zi_30, zi_31, zi_32, zi_34, zi_38, zi_59, zi_60, zi_61, zi_63, zi_64, zi_80, zi_96, zi_97, zi_99, zi_100, zi_122, zi_255, zi_256, zi_300, zi_398, zi_406, zi_900, zi_1000, zi_1024, zi_1624, zi_1662, zi_2030, zi_2031, zi_2068, zi_2258, zi_9999, zi_48, zi_57, zi_65536, zi_3257, zi_11483, zi_1000000, zi_729, zi_81, zi_m1, nI_add, pk_mul, nI_ltI, nI_leI, nI_eq, nI_clamp, zn_in, zn_sub1lt, zn_M, zn_Ml, zn_Mg, zn_Mle, zn_Mge, zn_sub, Nat.reduceAdd, Nat.reduceMul, forall_eq, true_imp_iff, false_imp_iff, and_true, true_and, not_true_eq_false, not_false_eq_true, reduceCtorEq, imp_self, eq_self, false_and, and_false, implies_true]
      repeat' (first | omega | with_reducible refine And.intro ?_ ?_ | with_reducible intro g)
      all_goals exact K _ _ (y.st _) (am_u2_at _ _ _ _) (fy_U.st _) fy_UL.rfl
    · intro I L R h y Q K
      simp (disch := omega) only [wp_M_tray, wb_M_tray_26, wp_M_isTray, wp_M_is, hp, zc_e hp, zf_n hp, zc_t hp, zc_l hp, zc_m hp, zc_k hp, zi_0, zi_1, zi_2, zi_3, zi_4, zi_5, zi_6, zi_7, zi_8, zi_9, zi_10, zi_11, zi_12, zi_13, zi_14, zi_15, zi_16, zi_17, zi_18, zi_19, zi_20, zi_21, zi_22, zi_23, zi_24, zi_25, zi_26, zi_30, zi_31, zi_32, zi_34, zi_38, zi_59, zi_60, zi_61, zi_63, zi_64, zi_80, zi_96, zi_97, zi_99, zi_100, zi_122, zi_255, zi_256, zi_300, zi_398, zi_406, zi_900, zi_1000, zi_1024, zi_1624, zi_1662, zi_2030, zi_2031, zi_2068, zi_2258, zi_9999, zi_48, zi_57, zi_65536, zi_3257, zi_11483, zi_1000000, zi_729, zi_81, zi_m1, nI_add, pk_mul, nI_ltI, nI_leI, nI_eq, nI_clamp, zn_in, zn_sub1lt, zn_M, zn_Ml, zn_Mg, zn_Mle, zn_Mge, zn_sub, Nat.reduceAdd, Nat.reduceMul, forall_eq, true_imp_iff, false_imp_iff, and_true, true_and, not_true_eq_false, not_false_eq_true, reduceCtorEq, imp_self, eq_self, false_and, and_false, implies_true]
      repeat' (first | omega | with_reducible refine And.intro ?_ ?_ | with_reducible intro g)
      all_goals exact K _ _ (y.st _) (am_u2_at _ _ _ _) (fy_M.st _) fy_ML.rfl
  by_cases g2 : 60 < n
  · refine ⟨false, 1, tm, ts, tv, ok, ?_, ?_⟩
    · intro c d I L R hcd h hc hz y Q K
      simp (disch := omega) only [wp_U_tray, wb_U_tray_26, wp_U_isTray, wp_U_within, wp_U_settled, wp_Tray_lay, zi_0, zi_1, zi_2, zi_3, zi_4, zi_5, zi_6, zi_7, zi_8, zi_9, zi_10, zi_11, zi_12, zi_13, zi_14, zi_15, zi_16, zi_17, zi_18, zi_19, zi_20, zi_21, zi_22, zi_23, zi_24, zi_25, zi_26, zi_30, zi_31, zi_32, zi_34, zi_38, zi_59, zi_60, zi_61, zi_63, zi_64, zi_80, zi_96, zi_97, zi_99, zi_100, zi_122, zi_255, zi_256, zi_300, zi_398, zi_406, zi_900, zi_1000, zi_1024, zi_1624, zi_1662, zi_2030, zi_2031, zi_2068, zi_2258, zi_9999, zi_48, zi_57, zi_65536, zi_3257, zi_11483, zi_1000000, zi_729, zi_81, zi_m1, nI_add, pk_mul, nI_ltI, nI_leI, nI_eq, nI_clamp, zn_in, zn_sub1lt, zn_M, zn_Ml, zn_Mg, zn_Mle, zn_Mge, zn_sub, Nat.reduceAdd, Nat.reduceMul, forall_eq, true_imp_iff, false_imp_iff, and_true, true_and, not_true_eq_false, not_false_eq_true, reduceCtorEq, imp_self, eq_self, false_and, and_false, implies_true]
      repeat' (first | omega | with_reducible refine And.intro ?_ ?_ | with_reducible intro g)
      all_goals exact K _ _ (y.st _) (am_u2_at _ _ _ _) (fy_U.st _) fy_UL.rfl
    · intro I L R h y Q K
      simp (disch := omega) only [wp_M_tray, wb_M_tray_26, wp_M_isTray, wp_M_is, zi_0, zi_1, zi_2, zi_3, zi_4, zi_5, zi_6, zi_7, zi_8, zi_9, zi_10, zi_11, zi_12, zi_13, zi_14, zi_15, zi_16, zi_17, zi_18, zi_19, zi_20, zi_21, zi_22, zi_23, zi_24, zi_25, zi_26, zi_30, zi_31, zi_32, zi_34, zi_38, zi_59, zi_60, zi_61, zi_63, zi_64, zi_80, zi_96, zi_97, zi_99, zi_100, zi_122, zi_255, zi_256, zi_300, zi_398, zi_406, zi_900, zi_1000, zi_1024, zi_1624, zi_1662, zi_2030, zi_2031, zi_2068, zi_2258, zi_9999, zi_48, zi_57, zi_65536, zi_3257, zi_11483, zi_1000000, zi_729, zi_81, zi_m1, nI_add, pk_mul, nI_ltI, nI_leI, nI_eq, nI_clamp, zn_in, zn_sub1lt, zn_M, zn_Ml, zn_Mg, zn_Mle, zn_Mge, zn_sub, Nat.reduceAdd, Nat.reduceMul, forall_eq, true_imp_iff, false_imp_iff, and_true, true_and, not_true_eq_false, not_false_eq_true, reduceCtorEq, imp_self, eq_self, false_and, and_false, implies_true]
      repeat' (first | omega | with_reducible refine And.intro ?_ ?_ | with_reducible intro g)
      all_goals exact K _ _ (y.st _) (am_u2_at _ _ _ _) (fy_M.st _) fy_ML.rfl
  have ht : t < 4 := by omega
  refine ⟨true, 0, zu tm t (n + 1), zu ts t s, (fun a b => if a = t then 0 else tv a b), ok.lay (by omega) (by omega), ?_, ?_⟩
  · intro c d I L R hcd h hc hz y Q K
    simp (disch := omega) only [wp_U_tray, wb_U_tray_26, wp_U_isTray, wp_U_within, wp_U_settled, wp_Tray_lay, zi_0, zi_1, zi_2, zi_3, zi_4, zi_5, zi_6, zi_7, zi_8, zi_9, zi_10, zi_11, zi_12, zi_13, zi_14, zi_15, zi_16, zi_17, zi_18, zi_19, zi_20, zi_21, zi_22, zi_23, zi_24, zi_25, zi_26, zi_30, zi_31, zi_32, zi_34, zi_38, zi_59, zi_60, zi_61, zi_63, zi_64, zi_80, zi_96, zi_97, zi_99, zi_100, zi_122, zi_255, zi_256, zi_300, zi_398, zi_406, zi_900, zi_1000, zi_1024, zi_1624, zi_1662, zi_2030, zi_2031, zi_2068, zi_2258, zi_9999, zi_48, zi_57, zi_65536, zi_3257, zi_11483, zi_1000000, zi_729, zi_81, zi_m1, nI_add, pk_mul, nI_ltI, nI_leI, nI_eq, nI_clamp, zn_in, zn_sub1lt, zn_M, zn_Ml, zn_Mg, zn_Mle, zn_Mge, zn_sub, Nat.reduceAdd, Nat.reduceMul, forall_eq, true_imp_iff, false_imp_iff, and_true, true_and, not_true_eq_false, not_false_eq_true, reduceCtorEq, imp_self, eq_self, false_and, and_false, implies_true]
    repeat' (first | omega | with_reducible refine And.intro ?_ ?_ | with_reducible intro g)
    rw [y.r ht]
    refine su_fillJ (by omega) (fun L1 a b => ?_)
    try simp (disch := omega) only [wp_U_settled, zi_0, zi_1, zi_2, zi_3, zi_4, zi_5, zi_6, zi_7, zi_8, zi_9, zi_10, zi_11, zi_12, zi_13, zi_14, zi_15, zi_16, zi_17, zi_18, zi_19, zi_20, zi_21, zi_22, zi_23, zi_24, zi_25, zi_26, zi_30, zi_31, zi_32, zi_34, zi_38, zi_59, zi_60, zi_61, zi_63, zi_64, zi_80, zi_96, zi_97, zi_99, zi_100, zi_122, zi_255, zi_256, zi_300, zi_398, zi_406, zi_900, zi_1000, zi_1024, zi_1624, zi_1662, zi_2030, zi_2031, zi_2068, zi_2258, zi_9999, zi_48, zi_57, zi_65536, zi_3257, zi_11483, zi_1000000, zi_729, zi_81, zi_m1, nI_add, pk_mul, nI_ltI, nI_leI, nI_eq, nI_clamp, zn_in, zn_sub1lt, zn_M, zn_Ml, zn_Mg, zn_Mle, zn_Mge, zn_sub, Nat.reduceAdd, Nat.reduceMul, forall_eq, true_imp_iff, false_imp_iff, and_true, true_and, not_true_eq_false, not_false_eq_true, reduceCtorEq, imp_self, eq_self, false_and, and_false, implies_true]
    refine K _ _ ((y.lay ht a b (by omega)).st _) (am_u2_at _ _ _ _) (fun r k g1 g2 g3 => ?_) (fun r g => b r (by omega))
    rw [fy_U.st _ r k g1 g2 g3, am_u2_row _ _ _ _ (by omega), am_u2_row _ _ _ _ (by omega)]
  · intro I L R h y Q K
    simp (disch := omega) only [wp_M_tray, wb_M_tray_26, wp_M_isTray, wp_M_is, zi_0, zi_1, zi_2, zi_3, zi_4, zi_5, zi_6, zi_7, zi_8, zi_9, zi_10, zi_11, zi_12, zi_13, zi_14, zi_15, zi_16, zi_17, zi_18, zi_19, zi_20, zi_21, zi_22, zi_23, zi_24, zi_25, zi_26, zi_30, zi_31, zi_32, zi_34, zi_38, zi_59, zi_60, zi_61, zi_63, zi_64, zi_80, zi_96, zi_97, zi_99, zi_100, zi_122, zi_255, zi_256, zi_300, zi_398, zi_406, zi_900, zi_1000, zi_1024, zi_1624, zi_1662, zi_2030, zi_2031, zi_2068, zi_2258, zi_9999, zi_48, zi_57, zi_65536, zi_3257, zi_11483, zi_1000000, zi_729, zi_81, zi_m1, nI_add, pk_mul, nI_ltI, nI_leI, nI_eq, nI_clamp, zn_in, zn_sub1lt, zn_M, zn_Ml, zn_Mg, zn_Mle, zn_Mge, zn_sub, Nat.reduceAdd, Nat.reduceMul, forall_eq, true_imp_iff, false_imp_iff, and_true, true_and, not_true_eq_false, not_false_eq_true, reduceCtorEq, imp_self, eq_self, false_and, and_false, implies_true]
    repeat' (first | omega | with_reducible refine And.intro ?_ ?_ | with_reducible intro g)
    refine (zl_up (P := fun f m => ∀ L1, (∀ i, i < m → L1 108 (60 * t + i) = 0) → (∀ j, (j < 60 * t ∨ 60 * t + 60 ≤ j) → L1 108 j = L 108 j) → (∀ r, r ≠ 108 → L1 r = L r) → wl_M_tray_49 R 103 (nI t) (nI s) (nI n) Q f (am_u2 (am_u2 I 106 t (nI s)) 107 t (nI n)) L1 (nI m)) n (fun f L1 a b e => ?_) (fun f m hm ih L1 a b e => ?_) 0 (by omega)).elim fun z hz => ⟨z, hz L (fun i hi => absurd hi (by omega)) (fun _ _ => rfl) (fun _ _ => rfl)⟩
    · simp (disch := omega) only [wl_M_tray_49, wp_M_is, zi_0, zi_1, zi_2, zi_3, zi_4, zi_5, zi_6, zi_7, zi_8, zi_9, zi_10, zi_11, zi_12, zi_13, zi_14, zi_15, zi_16, zi_17, zi_18, zi_19, zi_20, zi_21, zi_22, zi_23, zi_24, zi_25, zi_26, zi_30, zi_31, zi_32, zi_34, zi_38, zi_59, zi_60, zi_61, zi_63, zi_64, zi_80, zi_96, zi_97, zi_99, zi_100, zi_122, zi_255, zi_256, zi_300, zi_398, zi_406, zi_900, zi_1000, zi_1024, zi_1624, zi_1662, zi_2030, zi_2031, zi_2068, zi_2258, zi_9999, zi_48, zi_57, zi_65536, zi_3257, zi_11483, zi_1000000, zi_729, zi_81, zi_m1, nI_add, pk_mul, nI_ltI, nI_leI, nI_eq, nI_clamp, zn_in, zn_sub1lt, zn_M, zn_Ml, zn_Mg, zn_Mle, zn_Mge, zn_sub, Nat.reduceAdd, Nat.reduceMul, forall_eq, true_imp_iff, false_imp_iff, and_true, true_and, not_true_eq_false, not_false_eq_true, reduceCtorEq, imp_self, eq_self, false_and, and_false, implies_true]
      refine ⟨fun _ => ?_, fun g => absurd (Nat.le_refl _) g⟩
      refine K _ _ (tr_M.st (fun x hx => ?_) _) (am_u2_at _ _ _ _) (fun r k g1 g2 g3 g4 => ?_) e
      · obtain ⟨h1, h2, h3⟩ := y x hx
        have hk := (ok x hx).1
        unfold am_u2 zu
        by_cases gx : x = t
        · subst gx
          refine ⟨?_, fun _ => by simp, fun j hj => ?_⟩
          · simp only [and_self, if_true]; rw [zn_sub (by omega)]; rfl
          · rw [if_pos rfl] at hj
            simp only [if_true]; exact a j (by omega)
        · simp only [gx, and_false, if_false]
          exact ⟨h1, h2, fun j hj => by rw [b _ (by omega)]; exact h3 j hj⟩
      · rw [fy_M.st _ r k g1 g2 g3 g4, am_u2_row _ _ _ _ g3, am_u2_row _ _ _ _ g2]
    · simp (disch := omega) only [wl_M_tray_49, wp_M_is, zi_0, zi_1, zi_2, zi_3, zi_4, zi_5, zi_6, zi_7, zi_8, zi_9, zi_10, zi_11, zi_12, zi_13, zi_14, zi_15, zi_16, zi_17, zi_18, zi_19, zi_20, zi_21, zi_22, zi_23, zi_24, zi_25, zi_26, zi_30, zi_31, zi_32, zi_34, zi_38, zi_59, zi_60, zi_61, zi_63, zi_64, zi_80, zi_96, zi_97, zi_99, zi_100, zi_122, zi_255, zi_256, zi_300, zi_398, zi_406, zi_900, zi_1000, zi_1024, zi_1624, zi_1662, zi_2030, zi_2031, zi_2068, zi_2258, zi_9999, zi_48, zi_57, zi_65536, zi_3257, zi_11483, zi_1000000, zi_729, zi_81, zi_m1, nI_add, pk_mul, nI_ltI, nI_leI, nI_eq, nI_clamp, zn_in, zn_sub1lt, zn_M, zn_Ml, zn_Mg, zn_Mle, zn_Mge, zn_sub, Nat.reduceAdd, Nat.reduceMul, forall_eq, true_imp_iff, false_imp_iff, and_true, true_and, not_true_eq_false, not_false_eq_true, reduceCtorEq, imp_self, eq_self, false_and, and_false, implies_true]
      refine ⟨fun g => absurd g (by omega), fun _ => ⟨by omega, ih _ (fun i hi => ?_) (fun j hj => ?_) (fun r hr => ?_)⟩⟩
      · by_cases e2 : i = m
        · rw [e2, am_u2_at]
        · rw [am_u2_ne _ _ _ _ (by omega)]; exact a i (by omega)
      · rw [am_u2_ne _ _ _ _ (by omega)]; exact b j hj
      · rw [am_u2_row _ _ _ _ hr]; exact e r hr
theorem op_write (ok : tr_Ok tm ts) (p1 p2 : Int32) (v : Int64) : si_Y q tm ts tv (fun I L R Q => wp_U_write I L R 0 p1 p2 v Q) (fun I L R Q => wp_M_write I L R 103 p1 p2 v Q) := by
  rcases zc p1 with hp | ⟨t, ht, rfl⟩
  · refine ⟨false, 1, tm, ts, tv, ok, ?_, ?_⟩
    · intro c d I L R hcd h hc hz y Q K
      simp (disch := omega) only [wp_U_write, wb_U_write_24, wp_U_placeStatus, wp_U_trayStatus, wp_Tray_isMissing, wp_U_isTray, wp_U_within, wp_U_settled, wp_Tray_put, hp, zc_t hp, zc_l hp, zc_m hp, zc_k hp, zi_0, zi_1, zi_2, zi_3, zi_4, zi_5, zi_6, zi_7, zi_8, zi_9, zi_10, zi_11, zi_12, zi_13, zi_14, zi_15, zi_16, zi_17, zi_18, zi_19, zi_20, zi_21, zi_22, zi_23, zi_24, zi_25, zi_26, zi_30, zi_31, zi_32, zi_34, zi_38, zi_59, zi_60, zi_61, zi_63, zi_64, zi_80, zi_96, zi_97, zi_99, zi_100, zi_122, zi_255, zi_256, zi_300, zi_398, zi_406, zi_900, zi_1000, zi_1024, zi_1624, zi_1662, zi_2030, zi_2031, zi_2068, zi_2258, zi_9999, zi_48, zi_57, zi_65536, zi_3257, zi_11483, zi_1000000, zi_729, zi_81, zi_m1, nI_add, pk_mul, nI_ltI, nI_leI, nI_eq, nI_clamp, zn_in, zn_sub1lt, zn_M, zn_Ml, zn_Mg, zn_Mle, zn_Mge, zn_sub, Nat.reduceAdd, Nat.reduceMul, forall_eq, true_imp_iff, false_imp_iff, and_true, true_and, not_true_eq_false, not_false_eq_true, reduceCtorEq, imp_self, eq_self, false_and, and_false, implies_true]
      repeat' (first | omega | with_reducible refine And.intro ?_ ?_ | with_reducible intro g)
      all_goals exact K _ _ (y.st _) (am_u2_at _ _ _ _) (fy_U.st _) fy_UL.rfl
    · intro I L R h y Q K
      simp (disch := omega) only [wp_M_write, wb_M_write_34, wp_M_wrongPlace, wb_M_wrongPlace_39, wp_M_isTray, wp_M_is, hp, zc_e hp, zf_n hp, zc_t hp, zc_l hp, zc_m hp, zc_k hp, zi_0, zi_1, zi_2, zi_3, zi_4, zi_5, zi_6, zi_7, zi_8, zi_9, zi_10, zi_11, zi_12, zi_13, zi_14, zi_15, zi_16, zi_17, zi_18, zi_19, zi_20, zi_21, zi_22, zi_23, zi_24, zi_25, zi_26, zi_30, zi_31, zi_32, zi_34, zi_38, zi_59, zi_60, zi_61, zi_63, zi_64, zi_80, zi_96, zi_97, zi_99, zi_100, zi_122, zi_255, zi_256, zi_300, zi_398, zi_406, zi_900, zi_1000, zi_1024, zi_1624, zi_1662, zi_2030, zi_2031, zi_2068, zi_2258, zi_9999, zi_48, zi_57, zi_65536, zi_3257, zi_11483, zi_1000000, zi_729, zi_81, zi_m1, nI_add, pk_mul, nI_ltI, nI_leI, nI_eq, nI_clamp, zn_in, zn_sub1lt, zn_M, zn_Ml, zn_Mg, zn_Mle, zn_Mge, zn_sub, Nat.reduceAdd, Nat.reduceMul, forall_eq, true_imp_iff, false_imp_iff, and_true, true_and, not_true_eq_false, not_false_eq_true, reduceCtorEq, imp_self, eq_self, false_and, and_false, implies_true]
      repeat' (first | omega | with_reducible refine And.intro ?_ ?_ | with_reducible intro g)
      all_goals exact K _ _ (y.st _) (am_u2_at _ _ _ _) (fy_M.st _) fy_ML.rfl
  by_cases g : 3 < t
  · refine ⟨false, 1, tm, ts, tv, ok, ?_, ?_⟩
    · intro c d I L R hcd h hc hz y Q K
      simp (disch := omega) only [wp_U_write, wb_U_write_24, wp_U_placeStatus, wp_U_trayStatus, wp_Tray_isMissing, wp_U_isTray, wp_U_within, wp_U_settled, wp_Tray_put, zi_0, zi_1, zi_2, zi_3, zi_4, zi_5, zi_6, zi_7, zi_8, zi_9, zi_10, zi_11, zi_12, zi_13, zi_14, zi_15, zi_16, zi_17, zi_18, zi_19, zi_20, zi_21, zi_22, zi_23, zi_24, zi_25, zi_26, zi_30, zi_31, zi_32, zi_34, zi_38, zi_59, zi_60, zi_61, zi_63, zi_64, zi_80, zi_96, zi_97, zi_99, zi_100, zi_122, zi_255, zi_256, zi_300, zi_398, zi_406, zi_900, zi_1000, zi_1024, zi_1624, zi_1662, zi_2030, zi_2031, zi_2068, zi_2258, zi_9999, zi_48, zi_57, zi_65536, zi_3257, zi_11483, zi_1000000, zi_729, zi_81, zi_m1, nI_add, pk_mul, nI_ltI, nI_leI, nI_eq, nI_clamp, zn_in, zn_sub1lt, zn_M, zn_Ml, zn_Mg, zn_Mle, zn_Mge, zn_sub, Nat.reduceAdd, Nat.reduceMul, forall_eq, true_imp_iff, false_imp_iff, and_true, true_and, not_true_eq_false, not_false_eq_true, reduceCtorEq, imp_self, eq_self, false_and, and_false, implies_true]
      repeat' (first | omega | with_reducible refine And.intro ?_ ?_ | with_reducible intro g)
      all_goals exact K _ _ (y.st _) (am_u2_at _ _ _ _) (fy_U.st _) fy_UL.rfl
    · intro I L R h y Q K
      simp (disch := omega) only [wp_M_write, wb_M_write_34, wp_M_wrongPlace, wb_M_wrongPlace_39, wp_M_isTray, wp_M_is, zi_0, zi_1, zi_2, zi_3, zi_4, zi_5, zi_6, zi_7, zi_8, zi_9, zi_10, zi_11, zi_12, zi_13, zi_14, zi_15, zi_16, zi_17, zi_18, zi_19, zi_20, zi_21, zi_22, zi_23, zi_24, zi_25, zi_26, zi_30, zi_31, zi_32, zi_34, zi_38, zi_59, zi_60, zi_61, zi_63, zi_64, zi_80, zi_96, zi_97, zi_99, zi_100, zi_122, zi_255, zi_256, zi_300, zi_398, zi_406, zi_900, zi_1000, zi_1024, zi_1624, zi_1662, zi_2030, zi_2031, zi_2068, zi_2258, zi_9999, zi_48, zi_57, zi_65536, zi_3257, zi_11483, zi_1000000, zi_729, zi_81, zi_m1, nI_add, pk_mul, nI_ltI, nI_leI, nI_eq, nI_clamp, zn_in, zn_sub1lt, zn_M, zn_Ml, zn_Mg, zn_Mle, zn_Mge, zn_sub, Nat.reduceAdd, Nat.reduceMul, forall_eq, true_imp_iff, false_imp_iff, and_true, true_and, not_true_eq_false, not_false_eq_true, reduceCtorEq, imp_self, eq_self, false_and, and_false, implies_true]
      repeat' (first | omega | with_reducible refine And.intro ?_ ?_ | with_reducible intro g)
      all_goals exact K _ _ (y.st _) (am_u2_at _ _ _ _) (fy_M.st _) fy_ML.rfl
  have ht : t < 4 := by omega
  have ok1 := ok t ht
  by_cases g1 : tm t = 0
  · refine ⟨false, 2, tm, ts, tv, ok, ?_, ?_⟩
    · intro c d I L R hcd h hc hz y Q K
      simp (disch := omega) only [wp_U_write, wb_U_write_24, wp_U_placeStatus, wp_U_trayStatus, wp_Tray_isMissing, wp_U_isTray, wp_U_within, wp_U_settled, wp_Tray_put, y.r ht, y.no ht g1, zi_0, zi_1, zi_2, zi_3, zi_4, zi_5, zi_6, zi_7, zi_8, zi_9, zi_10, zi_11, zi_12, zi_13, zi_14, zi_15, zi_16, zi_17, zi_18, zi_19, zi_20, zi_21, zi_22, zi_23, zi_24, zi_25, zi_26, zi_30, zi_31, zi_32, zi_34, zi_38, zi_59, zi_60, zi_61, zi_63, zi_64, zi_80, zi_96, zi_97, zi_99, zi_100, zi_122, zi_255, zi_256, zi_300, zi_398, zi_406, zi_900, zi_1000, zi_1024, zi_1624, zi_1662, zi_2030, zi_2031, zi_2068, zi_2258, zi_9999, zi_48, zi_57, zi_65536, zi_3257, zi_11483, zi_1000000, zi_729, zi_81, zi_m1, nI_add, pk_mul, nI_ltI, nI_leI, nI_eq, nI_clamp, zn_in, zn_sub1lt, zn_M, zn_Ml, zn_Mg, zn_Mle, zn_Mge, zn_sub, Nat.reduceAdd, Nat.reduceMul, forall_eq, true_imp_iff, false_imp_iff, and_true, true_and, not_true_eq_false, not_false_eq_true, reduceCtorEq, imp_self, eq_self, false_and, and_false, implies_true]
      repeat' (first | omega | with_reducible refine And.intro ?_ ?_ | with_reducible intro g)
      all_goals exact K _ _ (y.st _) (am_u2_at _ _ _ _) (fy_U.st _) fy_UL.rfl
    · intro I L R h y Q K
      simp (disch := omega) only [wp_M_write, wb_M_write_34, wp_M_wrongPlace, wb_M_wrongPlace_39, wp_M_isTray, wp_M_is, y.no ht g1, zi_0, zi_1, zi_2, zi_3, zi_4, zi_5, zi_6, zi_7, zi_8, zi_9, zi_10, zi_11, zi_12, zi_13, zi_14, zi_15, zi_16, zi_17, zi_18, zi_19, zi_20, zi_21, zi_22, zi_23, zi_24, zi_25, zi_26, zi_30, zi_31, zi_32, zi_34, zi_38, zi_59, zi_60, zi_61, zi_63, zi_64, zi_80, zi_96, zi_97, zi_99, zi_100, zi_122, zi_255, zi_256, zi_300, zi_398, zi_406, zi_900, zi_1000, zi_1024, zi_1624, zi_1662, zi_2030, zi_2031, zi_2068, zi_2258, zi_9999, zi_48, zi_57, zi_65536, zi_3257, zi_11483, zi_1000000, zi_729, zi_81, zi_m1, nI_add, pk_mul, nI_ltI, nI_leI, nI_eq, nI_clamp, zn_in, zn_sub1lt, zn_M, zn_Ml, zn_Mg, zn_Mle, zn_Mge, zn_sub, Nat.reduceAdd, Nat.reduceMul, forall_eq, true_imp_iff, false_imp_iff, and_true, true_and, not_true_eq_false, not_false_eq_true, reduceCtorEq, imp_self, eq_self, false_and, and_false, implies_true]
      repeat' (first | omega | with_reducible refine And.intro ?_ ?_ | with_reducible intro g)
      all_goals exact K _ _ (y.st _) (am_u2_at _ _ _ _) (fy_M.st _) fy_ML.rfl
  rcases zc p2 with hp | ⟨i, hi, rfl⟩
  · refine ⟨false, 3, tm, ts, tv, ok, ?_, ?_⟩
    · intro c d I L R hcd h hc hz y Q K
      simp (disch := omega) only [wp_U_write, wb_U_write_24, wp_U_placeStatus, wp_U_trayStatus, wp_Tray_isMissing, wp_U_isTray, wp_U_within, wp_U_settled, wp_Tray_put, hp, zc_e hp, zc_t hp, y.r ht, y.so ht g1, y.mn ht g1, zi_0, zi_1, zi_2, zi_3, zi_4, zi_5, zi_6, zi_7, zi_8, zi_9, zi_10, zi_11, zi_12, zi_13, zi_14, zi_15, zi_16, zi_17, zi_18, zi_19, zi_20, zi_21, zi_22, zi_23, zi_24, zi_25, zi_26, zi_30, zi_31, zi_32, zi_34, zi_38, zi_59, zi_60, zi_61, zi_63, zi_64, zi_80, zi_96, zi_97, zi_99, zi_100, zi_122, zi_255, zi_256, zi_300, zi_398, zi_406, zi_900, zi_1000, zi_1024, zi_1624, zi_1662, zi_2030, zi_2031, zi_2068, zi_2258, zi_9999, zi_48, zi_57, zi_65536, zi_3257, zi_11483, zi_1000000, zi_729, zi_81, zi_m1, nI_add, pk_mul, nI_ltI, nI_leI, nI_eq, nI_clamp, zn_in, zn_sub1lt, zn_M, zn_Ml, zn_Mg, zn_Mle, zn_Mge, zn_sub, Nat.reduceAdd, Nat.reduceMul, forall_eq, true_imp_iff, false_imp_iff, and_true, true_and, not_true_eq_false, not_false_eq_true, reduceCtorEq, imp_self, eq_self, false_and, and_false, implies_true]
      repeat' (first | omega | with_reducible refine And.intro ?_ ?_ | with_reducible intro g)
      all_goals exact K _ _ (y.st _) (am_u2_at _ _ _ _) (fy_U.st _) fy_UL.rfl
    · intro I L R h y Q K
      simp (disch := omega) only [wp_M_write, wb_M_write_34, wp_M_wrongPlace, wb_M_wrongPlace_39, wp_M_isTray, wp_M_is, hp, zc_e hp, zc_t hp, y.mn ht g1, zi_0, zi_1, zi_2, zi_3, zi_4, zi_5, zi_6, zi_7, zi_8, zi_9, zi_10, zi_11, zi_12, zi_13, zi_14, zi_15, zi_16, zi_17, zi_18, zi_19, zi_20, zi_21, zi_22, zi_23, zi_24, zi_25, zi_26, zi_30, zi_31, zi_32, zi_34, zi_38, zi_59, zi_60, zi_61, zi_63, zi_64, zi_80, zi_96, zi_97, zi_99, zi_100, zi_122, zi_255, zi_256, zi_300, zi_398, zi_406, zi_900, zi_1000, zi_1024, zi_1624, zi_1662, zi_2030, zi_2031, zi_2068, zi_2258, zi_9999, zi_48, zi_57, zi_65536, zi_3257, zi_11483, zi_1000000, zi_729, zi_81, zi_m1, nI_add, pk_mul, nI_ltI, nI_leI, nI_eq, nI_clamp, zn_in, zn_sub1lt, zn_M, zn_Ml, zn_Mg, zn_Mle, zn_Mge, zn_sub, Nat.reduceAdd, Nat.reduceMul, forall_eq, true_imp_iff, false_imp_iff, and_true, true_and, not_true_eq_false, not_false_eq_true, reduceCtorEq, imp_self, eq_self, false_and, and_false, implies_true]
      repeat' (first | omega | with_reducible refine And.intro ?_ ?_ | with_reducible intro g)
      all_goals exact K _ _ (y.st _) (am_u2_at _ _ _ _) (fy_M.st _) fy_ML.rfl
  by_cases g2 : tm t - 1 ≤ i
  · refine ⟨false, 3, tm, ts, tv, ok, ?_, ?_⟩
    · intro c d I L R hcd h hc hz y Q K
      simp (disch := omega) only [wp_U_write, wb_U_write_24, wp_U_placeStatus, wp_U_trayStatus, wp_Tray_isMissing, wp_U_isTray, wp_U_within, wp_U_settled, wp_Tray_put, y.r ht, y.so ht g1, y.mn ht g1, zi_0, zi_1, zi_2, zi_3, zi_4, zi_5, zi_6, zi_7, zi_8, zi_9, zi_10, zi_11, zi_12, zi_13, zi_14, zi_15, zi_16, zi_17, zi_18, zi_19, zi_20, zi_21, zi_22, zi_23, zi_24, zi_25, zi_26, zi_30, zi_31, zi_32, zi_34, zi_38, zi_59, zi_60, zi_61, zi_63, zi_64, zi_80, zi_96, zi_97, zi_99, zi_100, zi_122, zi_255, zi_256, zi_300, zi_398, zi_406, zi_900, zi_1000, zi_1024, zi_1624, zi_1662, zi_2030, zi_2031, zi_2068, zi_2258, zi_9999, zi_48, zi_57, zi_65536, zi_3257, zi_11483, zi_1000000, zi_729, zi_81, zi_m1, nI_add, pk_mul, nI_ltI, nI_leI, nI_eq, nI_clamp, zn_in, zn_sub1lt, zn_M, zn_Ml, zn_Mg, zn_Mle, zn_Mge, zn_sub, Nat.reduceAdd, Nat.reduceMul, forall_eq, true_imp_iff, false_imp_iff, and_true, true_and, not_true_eq_false, not_false_eq_true, reduceCtorEq, imp_self, eq_self, false_and, and_false, implies_true]
      repeat' (first | omega | with_reducible refine And.intro ?_ ?_ | with_reducible intro g)
      all_goals exact K _ _ (y.st _) (am_u2_at _ _ _ _) (fy_U.st _) fy_UL.rfl
    · intro I L R h y Q K
      simp (disch := omega) only [wp_M_write, wb_M_write_34, wp_M_wrongPlace, wb_M_wrongPlace_39, wp_M_isTray, wp_M_is, y.mn ht g1, zi_0, zi_1, zi_2, zi_3, zi_4, zi_5, zi_6, zi_7, zi_8, zi_9, zi_10, zi_11, zi_12, zi_13, zi_14, zi_15, zi_16, zi_17, zi_18, zi_19, zi_20, zi_21, zi_22, zi_23, zi_24, zi_25, zi_26, zi_30, zi_31, zi_32, zi_34, zi_38, zi_59, zi_60, zi_61, zi_63, zi_64, zi_80, zi_96, zi_97, zi_99, zi_100, zi_122, zi_255, zi_256, zi_300, zi_398, zi_406, zi_900, zi_1000, zi_1024, zi_1624, zi_1662, zi_2030, zi_2031, zi_2068, zi_2258, zi_9999, zi_48, zi_57, zi_65536, zi_3257, zi_11483, zi_1000000, zi_729, zi_81, zi_m1, nI_add, pk_mul, nI_ltI, nI_leI, nI_eq, nI_clamp, zn_in, zn_sub1lt, zn_M, zn_Ml, zn_Mg, zn_Mle, zn_Mge, zn_sub, Nat.reduceAdd, Nat.reduceMul, forall_eq, true_imp_iff, false_imp_iff, and_true, true_and, not_true_eq_false, not_false_eq_true, reduceCtorEq, imp_self, eq_self, false_and, and_false, implies_true]
      repeat' (first | omega | with_reducible refine And.intro ?_ ?_ | with_reducible intro g)
      all_goals exact K _ _ (y.st _) (am_u2_at _ _ _ _) (fy_M.st _) fy_ML.rfl
  refine ⟨true, 0, tm, ts, tv_put tv t i (tr_cut (ts t) v), ok, ?_, ?_⟩
  · intro c d I L R hcd h hc hz y Q K
    simp (disch := omega) only [wp_U_write, wb_U_write_24, wp_U_placeStatus, wp_U_trayStatus, wp_Tray_isMissing, wp_U_isTray, wp_U_within, wp_U_settled, wp_Tray_put, y.r ht, y.so ht g1, y.mn ht g1, zi_0, zi_1, zi_2, zi_3, zi_4, zi_5, zi_6, zi_7, zi_8, zi_9, zi_10, zi_11, zi_12, zi_13, zi_14, zi_15, zi_16, zi_17, zi_18, zi_19, zi_20, zi_21, zi_22, zi_23, zi_24, zi_25, zi_26, zi_30, zi_31, zi_32, zi_34, zi_38, zi_59, zi_60, zi_61, zi_63, zi_64, zi_80, zi_96, zi_97, zi_99, zi_100, zi_122, zi_255, zi_256, zi_300, zi_398, zi_406, zi_900, zi_1000, zi_1024, zi_1624, zi_1662, zi_2030, zi_2031, zi_2068, zi_2258, zi_9999, zi_48, zi_57, zi_65536, zi_3257, zi_11483, zi_1000000, zi_729, zi_81, zi_m1, nI_add, pk_mul, nI_ltI, nI_leI, nI_eq, nI_clamp, zn_in, zn_sub1lt, zn_M, zn_Ml, zn_Mg, zn_Mle, zn_Mge, zn_sub, Nat.reduceAdd, Nat.reduceMul, forall_eq, true_imp_iff, false_imp_iff, and_true, true_and, not_true_eq_false, not_false_eq_true, reduceCtorEq, imp_self, eq_self, false_and, and_false, implies_true]
    repeat' (first | omega | with_reducible refine And.intro ?_ ?_ | with_reducible intro g)
    refine su_cut (s := ts t) (by omega) (y.so ht g1) ?_
    try simp (disch := omega) only [zi_0, zi_1, zi_2, zi_3, zi_4, zi_5, zi_6, zi_7, zi_8, zi_9, zi_10, zi_11, zi_12, zi_13, zi_14, zi_15, zi_16, zi_17, zi_18, zi_19, zi_20, zi_21, zi_22, zi_23, zi_24, zi_25, zi_26, zi_30, zi_31, zi_32, zi_34, zi_38, zi_59, zi_60, zi_61, zi_63, zi_64, zi_80, zi_96, zi_97, zi_99, zi_100, zi_122, zi_255, zi_256, zi_300, zi_398, zi_406, zi_900, zi_1000, zi_1024, zi_1624, zi_1662, zi_2030, zi_2031, zi_2068, zi_2258, zi_9999, zi_48, zi_57, zi_65536, zi_3257, zi_11483, zi_1000000, zi_729, zi_81, zi_m1, nI_add, pk_mul, nI_ltI, nI_leI, nI_eq, nI_clamp, zn_in, zn_sub1lt, zn_M, zn_Ml, zn_Mg, zn_Mle, zn_Mge, zn_sub, Nat.reduceAdd, Nat.reduceMul, forall_eq, true_imp_iff, false_imp_iff, and_true, true_and, not_true_eq_false, not_false_eq_true, reduceCtorEq, imp_self, eq_self, false_and, and_false, implies_true]
    refine ⟨by omega, ?_⟩
    exact K _ _ ((y.put ht _).st _) (am_u2_at _ _ _ _) (fy_U.st _) (fun r g => am_u2_row _ _ _ _ (by omega))
  · intro I L R h y Q K
    simp (disch := omega) only [wp_M_write, wb_M_write_34, wp_M_wrongPlace, wb_M_wrongPlace_39, wp_M_isTray, wp_M_is, y.mn ht g1, y.so ht g1, zi_0, zi_1, zi_2, zi_3, zi_4, zi_5, zi_6, zi_7, zi_8, zi_9, zi_10, zi_11, zi_12, zi_13, zi_14, zi_15, zi_16, zi_17, zi_18, zi_19, zi_20, zi_21, zi_22, zi_23, zi_24, zi_25, zi_26, zi_30, zi_31, zi_32, zi_34, zi_38, zi_59, zi_60, zi_61, zi_63, zi_64, zi_80, zi_96, zi_97, zi_99, zi_100, zi_122, zi_255, zi_256, zi_300, zi_398, zi_406, zi_900, zi_1000, zi_1024, zi_1624, zi_1662, zi_2030, zi_2031, zi_2068, zi_2258, zi_9999, zi_48, zi_57, zi_65536, zi_3257, zi_11483, zi_1000000, zi_729, zi_81, zi_m1, nI_add, pk_mul, nI_ltI, nI_leI, nI_eq, nI_clamp, zn_in, zn_sub1lt, zn_M, zn_Ml, zn_Mg, zn_Mle, zn_Mge, zn_sub, Nat.reduceAdd, Nat.reduceMul, forall_eq, true_imp_iff, false_imp_iff, and_true, true_and, not_true_eq_false, not_false_eq_true, reduceCtorEq, imp_self, eq_self, false_and, and_false, implies_true]
    repeat' (first | omega | with_reducible refine And.intro ?_ ?_ | with_reducible intro g)
    refine sm_cut (s := ts t) (by omega) ?_
    try simp (disch := omega) only [zi_0, zi_1, zi_2, zi_3, zi_4, zi_5, zi_6, zi_7, zi_8, zi_9, zi_10, zi_11, zi_12, zi_13, zi_14, zi_15, zi_16, zi_17, zi_18, zi_19, zi_20, zi_21, zi_22, zi_23, zi_24, zi_25, zi_26, zi_30, zi_31, zi_32, zi_34, zi_38, zi_59, zi_60, zi_61, zi_63, zi_64, zi_80, zi_96, zi_97, zi_99, zi_100, zi_122, zi_255, zi_256, zi_300, zi_398, zi_406, zi_900, zi_1000, zi_1024, zi_1624, zi_1662, zi_2030, zi_2031, zi_2068, zi_2258, zi_9999, zi_48, zi_57, zi_65536, zi_3257, zi_11483, zi_1000000, zi_729, zi_81, zi_m1, nI_add, pk_mul, nI_ltI, nI_leI, nI_eq, nI_clamp, zn_in, zn_sub1lt, zn_M, zn_Ml, zn_Mg, zn_Mle, zn_Mge, zn_sub, Nat.reduceAdd, Nat.reduceMul, forall_eq, true_imp_iff, false_imp_iff, and_true, true_and, not_true_eq_false, not_false_eq_true, reduceCtorEq, imp_self, eq_self, false_and, and_false, implies_true]
    refine ⟨by omega, ?_⟩
    exact K _ _ ((y.put ht (by omega) _ ok).st _) (am_u2_at _ _ _ _) (fy_M.st _) (fun r g => am_u2_row _ _ _ _ g)
theorem op_read (ok : tr_Ok tm ts) (p1 p2 : Int32) : si_Y q tm ts tv (fun I L R Q => wp_U_read I L R 0 p1 p2 (fun a I1 => Q a I1 L)) (fun I L R Q => wp_M_read I L R 103 p1 p2 (fun a I1 => Q a I1 L)) := by
  rcases zc p1 with hp | ⟨t, ht, rfl⟩
  · refine ⟨(-1), 1, tm, ts, tv, ok, ?_, ?_⟩
    · intro c d I L R hcd h hc hz y Q K
      simp (disch := omega) only [wp_U_read, wp_U_placeStatus, wp_U_trayStatus, wp_Tray_isMissing, wp_U_isTray, wp_U_within, wp_U_refused, wp_Tray_numberAt, zl_m1, hp, zc_t hp, zc_l hp, zc_m hp, zc_k hp, zi_0, zi_1, zi_2, zi_3, zi_4, zi_5, zi_6, zi_7, zi_8, zi_9, zi_10, zi_11, zi_12, zi_13, zi_14, zi_15, zi_16, zi_17, zi_18, zi_19, zi_20, zi_21, zi_22, zi_23, zi_24, zi_25, zi_26, zi_30, zi_31, zi_32, zi_34, zi_38, zi_59, zi_60, zi_61, zi_63, zi_64, zi_80, zi_96, zi_97, zi_99, zi_100, zi_122, zi_255, zi_256, zi_300, zi_398, zi_406, zi_900, zi_1000, zi_1024, zi_1624, zi_1662, zi_2030, zi_2031, zi_2068, zi_2258, zi_9999, zi_48, zi_57, zi_65536, zi_3257, zi_11483, zi_1000000, zi_729, zi_81, zi_m1, nI_add, pk_mul, nI_ltI, nI_leI, nI_eq, nI_clamp, zn_in, zn_sub1lt, zn_M, zn_Ml, zn_Mg, zn_Mle, zn_Mge, zn_sub, Nat.reduceAdd, Nat.reduceMul, forall_eq, true_imp_iff, false_imp_iff, and_true, true_and, not_true_eq_false, not_false_eq_true, reduceCtorEq, imp_self, eq_self, false_and, and_false, implies_true]
      repeat' (first | omega | with_reducible refine And.intro ?_ ?_ | with_reducible intro g)
      all_goals exact K _ _ (y.st _) (am_u2_at _ _ _ _) (fy_U.st _) fy_UL.rfl
    · intro I L R h y Q K
      simp (disch := omega) only [wp_M_read, wp_M_wrongPlace, wb_M_wrongPlace_39, wp_M_isTray, am_u2_at, hp, zc_e hp, zf_n hp, zc_t hp, zc_l hp, zc_m hp, zc_k hp, zi_0, zi_1, zi_2, zi_3, zi_4, zi_5, zi_6, zi_7, zi_8, zi_9, zi_10, zi_11, zi_12, zi_13, zi_14, zi_15, zi_16, zi_17, zi_18, zi_19, zi_20, zi_21, zi_22, zi_23, zi_24, zi_25, zi_26, zi_30, zi_31, zi_32, zi_34, zi_38, zi_59, zi_60, zi_61, zi_63, zi_64, zi_80, zi_96, zi_97, zi_99, zi_100, zi_122, zi_255, zi_256, zi_300, zi_398, zi_406, zi_900, zi_1000, zi_1024, zi_1624, zi_1662, zi_2030, zi_2031, zi_2068, zi_2258, zi_9999, zi_48, zi_57, zi_65536, zi_3257, zi_11483, zi_1000000, zi_729, zi_81, zi_m1, nI_add, pk_mul, nI_ltI, nI_leI, nI_eq, nI_clamp, zn_in, zn_sub1lt, zn_M, zn_Ml, zn_Mg, zn_Mle, zn_Mge, zn_sub, Nat.reduceAdd, Nat.reduceMul, forall_eq, true_imp_iff, false_imp_iff, and_true, true_and, not_true_eq_false, not_false_eq_true, reduceCtorEq, imp_self, eq_self, false_and, and_false, implies_true]
      repeat' (first | omega | with_reducible refine And.intro ?_ ?_ | with_reducible intro g)
      all_goals exact K _ _ (y.st _) (am_u2_at _ _ _ _) (fy_M.st _) fy_ML.rfl
  by_cases g : 3 < t
  · refine ⟨(-1), 1, tm, ts, tv, ok, ?_, ?_⟩
    · intro c d I L R hcd h hc hz y Q K
      simp (disch := omega) only [wp_U_read, wp_U_placeStatus, wp_U_trayStatus, wp_Tray_isMissing, wp_U_isTray, wp_U_within, wp_U_refused, wp_Tray_numberAt, zl_m1, zi_0, zi_1, zi_2, zi_3, zi_4, zi_5, zi_6, zi_7, zi_8, zi_9, zi_10, zi_11, zi_12, zi_13, zi_14, zi_15, zi_16, zi_17, zi_18, zi_19, zi_20, zi_21, zi_22, zi_23, zi_24, zi_25, zi_26, zi_30, zi_31, zi_32, zi_34, zi_38, zi_59, zi_60, zi_61, zi_63, zi_64, zi_80, zi_96, zi_97, zi_99, zi_100, zi_122, zi_255, zi_256, zi_300, zi_398, zi_406, zi_900, zi_1000, zi_1024, zi_1624, zi_1662, zi_2030, zi_2031, zi_2068, zi_2258, zi_9999, zi_48, zi_57, zi_65536, zi_3257, zi_11483, zi_1000000, zi_729, zi_81, zi_m1, nI_add, pk_mul, nI_ltI, nI_leI, nI_eq, nI_clamp, zn_in, zn_sub1lt, zn_M, zn_Ml, zn_Mg, zn_Mle, zn_Mge, zn_sub, Nat.reduceAdd, Nat.reduceMul, forall_eq, true_imp_iff, false_imp_iff, and_true, true_and, not_true_eq_false, not_false_eq_true, reduceCtorEq, imp_self, eq_self, false_and, and_false, implies_true]
      repeat' (first | omega | with_reducible refine And.intro ?_ ?_ | with_reducible intro g)
      all_goals exact K _ _ (y.st _) (am_u2_at _ _ _ _) (fy_U.st _) fy_UL.rfl
    · intro I L R h y Q K
      simp (disch := omega) only [wp_M_read, wp_M_wrongPlace, wb_M_wrongPlace_39, wp_M_isTray, am_u2_at, zi_0, zi_1, zi_2, zi_3, zi_4, zi_5, zi_6, zi_7, zi_8, zi_9, zi_10, zi_11, zi_12, zi_13, zi_14, zi_15, zi_16, zi_17, zi_18, zi_19, zi_20, zi_21, zi_22, zi_23, zi_24, zi_25, zi_26, zi_30, zi_31, zi_32, zi_34, zi_38, zi_59, zi_60, zi_61, zi_63, zi_64, zi_80, zi_96, zi_97, zi_99, zi_100, zi_122, zi_255, zi_256, zi_300, zi_398, zi_406, zi_900, zi_1000, zi_1024, zi_1624, zi_1662, zi_2030, zi_2031, zi_2068, zi_2258, zi_9999, zi_48, zi_57, zi_65536, zi_3257, zi_11483, zi_1000000, zi_729, zi_81, zi_m1, nI_add, pk_mul, nI_ltI, nI_leI, nI_eq, nI_clamp, zn_in, zn_sub1lt, zn_M, zn_Ml, zn_Mg, zn_Mle, zn_Mge, zn_sub, Nat.reduceAdd, Nat.reduceMul, forall_eq, true_imp_iff, false_imp_iff, and_true, true_and, not_true_eq_false, not_false_eq_true, reduceCtorEq, imp_self, eq_self, false_and, and_false, implies_true]
      repeat' (first | omega | with_reducible refine And.intro ?_ ?_ | with_reducible intro g)
      all_goals exact K _ _ (y.st _) (am_u2_at _ _ _ _) (fy_M.st _) fy_ML.rfl
  have ht : t < 4 := by omega
  have ok1 := ok t ht
  by_cases g1 : tm t = 0
  · refine ⟨(-1), 2, tm, ts, tv, ok, ?_, ?_⟩
    · intro c d I L R hcd h hc hz y Q K
      simp (disch := omega) only [wp_U_read, wp_U_placeStatus, wp_U_trayStatus, wp_Tray_isMissing, wp_U_isTray, wp_U_within, wp_U_refused, wp_Tray_numberAt, zl_m1, y.r ht, y.no ht g1, zi_0, zi_1, zi_2, zi_3, zi_4, zi_5, zi_6, zi_7, zi_8, zi_9, zi_10, zi_11, zi_12, zi_13, zi_14, zi_15, zi_16, zi_17, zi_18, zi_19, zi_20, zi_21, zi_22, zi_23, zi_24, zi_25, zi_26, zi_30, zi_31, zi_32, zi_34, zi_38, zi_59, zi_60, zi_61, zi_63, zi_64, zi_80, zi_96, zi_97, zi_99, zi_100, zi_122, zi_255, zi_256, zi_300, zi_398, zi_406, zi_900, zi_1000, zi_1024, zi_1624, zi_1662, zi_2030, zi_2031, zi_2068, zi_2258, zi_9999, zi_48, zi_57, zi_65536, zi_3257, zi_11483, zi_1000000, zi_729, zi_81, zi_m1, nI_add, pk_mul, nI_ltI, nI_leI, nI_eq, nI_clamp, zn_in, zn_sub1lt, zn_M, zn_Ml, zn_Mg, zn_Mle, zn_Mge, zn_sub, Nat.reduceAdd, Nat.reduceMul, forall_eq, true_imp_iff, false_imp_iff, and_true, true_and, not_true_eq_false, not_false_eq_true, reduceCtorEq, imp_self, eq_self, false_and, and_false, implies_true]
      repeat' (first | omega | with_reducible refine And.intro ?_ ?_ | with_reducible intro g)
      all_goals exact K _ _ (y.st _) (am_u2_at _ _ _ _) (fy_U.st _) fy_UL.rfl
    · intro I L R h y Q K
      simp (disch := omega) only [wp_M_read, wp_M_wrongPlace, wb_M_wrongPlace_39, wp_M_isTray, am_u2_at, y.no ht g1, zi_0, zi_1, zi_2, zi_3, zi_4, zi_5, zi_6, zi_7, zi_8, zi_9, zi_10, zi_11, zi_12, zi_13, zi_14, zi_15, zi_16, zi_17, zi_18, zi_19, zi_20, zi_21, zi_22, zi_23, zi_24, zi_25, zi_26, zi_30, zi_31, zi_32, zi_34, zi_38, zi_59, zi_60, zi_61, zi_63, zi_64, zi_80, zi_96, zi_97, zi_99, zi_100, zi_122, zi_255, zi_256, zi_300, zi_398, zi_406, zi_900, zi_1000, zi_1024, zi_1624, zi_1662, zi_2030, zi_2031, zi_2068, zi_2258, zi_9999, zi_48, zi_57, zi_65536, zi_3257, zi_11483, zi_1000000, zi_729, zi_81, zi_m1, nI_add, pk_mul, nI_ltI, nI_leI, nI_eq, nI_clamp, zn_in, zn_sub1lt, zn_M, zn_Ml, zn_Mg, zn_Mle, zn_Mge, zn_sub, Nat.reduceAdd, Nat.reduceMul, forall_eq, true_imp_iff, false_imp_iff, and_true, true_and, not_true_eq_false, not_false_eq_true, reduceCtorEq, imp_self, eq_self, false_and, and_false, implies_true]
      repeat' (first | omega | with_reducible refine And.intro ?_ ?_ | with_reducible intro g)
      all_goals exact K _ _ (y.st _) (am_u2_at _ _ _ _) (fy_M.st _) fy_ML.rfl
  rcases zc p2 with hp | ⟨i, hi, rfl⟩
  · refine ⟨(-1), 3, tm, ts, tv, ok, ?_, ?_⟩
    · intro c d I L R hcd h hc hz y Q K
      simp (disch := omega) only [wp_U_read, wp_U_placeStatus, wp_U_trayStatus, wp_Tray_isMissing, wp_U_isTray, wp_U_within, wp_U_refused, wp_Tray_numberAt, zl_m1, hp, zc_e hp, zc_t hp, y.r ht, y.so ht g1, y.mn ht g1, zi_0, zi_1, zi_2, zi_3, zi_4, zi_5, zi_6, zi_7, zi_8, zi_9, zi_10, zi_11, zi_12, zi_13, zi_14, zi_15, zi_16, zi_17, zi_18, zi_19, zi_20, zi_21, zi_22, zi_23, zi_24, zi_25, zi_26, zi_30, zi_31, zi_32, zi_34, zi_38, zi_59, zi_60, zi_61, zi_63, zi_64, zi_80, zi_96, zi_97, zi_99, zi_100, zi_122, zi_255, zi_256, zi_300, zi_398, zi_406, zi_900, zi_1000, zi_1024, zi_1624, zi_1662, zi_2030, zi_2031, zi_2068, zi_2258, zi_9999, zi_48, zi_57, zi_65536, zi_3257, zi_11483, zi_1000000, zi_729, zi_81, zi_m1, nI_add, pk_mul, nI_ltI, nI_leI, nI_eq, nI_clamp, zn_in, zn_sub1lt, zn_M, zn_Ml, zn_Mg, zn_Mle, zn_Mge, zn_sub, Nat.reduceAdd, Nat.reduceMul, forall_eq, true_imp_iff, false_imp_iff, and_true, true_and, not_true_eq_false, not_false_eq_true, reduceCtorEq, imp_self, eq_self, false_and, and_false, implies_true]
      repeat' (first | omega | with_reducible refine And.intro ?_ ?_ | with_reducible intro g)
      all_goals exact K _ _ (y.st _) (am_u2_at _ _ _ _) (fy_U.st _) fy_UL.rfl
    · intro I L R h y Q K
      simp (disch := omega) only [wp_M_read, wp_M_wrongPlace, wb_M_wrongPlace_39, wp_M_isTray, am_u2_at, hp, zc_e hp, zc_t hp, y.mn ht g1, zi_0, zi_1, zi_2, zi_3, zi_4, zi_5, zi_6, zi_7, zi_8, zi_9, zi_10, zi_11, zi_12, zi_13, zi_14, zi_15, zi_16, zi_17, zi_18, zi_19, zi_20, zi_21, zi_22, zi_23, zi_24, zi_25, zi_26, zi_30, zi_31, zi_32, zi_34, zi_38, zi_59, zi_60, zi_61, zi_63, zi_64, zi_80, zi_96, zi_97, zi_99, zi_100, zi_122, zi_255, zi_256, zi_300, zi_398, zi_406, zi_900, zi_1000, zi_1024, zi_1624, zi_1662, zi_2030, zi_2031, zi_2068, zi_2258, zi_9999, zi_48, zi_57, zi_65536, zi_3257, zi_11483, zi_1000000, zi_729, zi_81, zi_m1, nI_add, pk_mul, nI_ltI, nI_leI, nI_eq, nI_clamp, zn_in, zn_sub1lt, zn_M, zn_Ml, zn_Mg, zn_Mle, zn_Mge, zn_sub, Nat.reduceAdd, Nat.reduceMul, forall_eq, true_imp_iff, false_imp_iff, and_true, true_and, not_true_eq_false, not_false_eq_true, reduceCtorEq, imp_self, eq_self, false_and, and_false, implies_true]
      repeat' (first | omega | with_reducible refine And.intro ?_ ?_ | with_reducible intro g)
      all_goals exact K _ _ (y.st _) (am_u2_at _ _ _ _) (fy_M.st _) fy_ML.rfl
  by_cases g2 : tm t - 1 ≤ i
  · refine ⟨(-1), 3, tm, ts, tv, ok, ?_, ?_⟩
    · intro c d I L R hcd h hc hz y Q K
      simp (disch := omega) only [wp_U_read, wp_U_placeStatus, wp_U_trayStatus, wp_Tray_isMissing, wp_U_isTray, wp_U_within, wp_U_refused, wp_Tray_numberAt, zl_m1, y.r ht, y.so ht g1, y.mn ht g1, zi_0, zi_1, zi_2, zi_3, zi_4, zi_5, zi_6, zi_7, zi_8, zi_9, zi_10, zi_11, zi_12, zi_13, zi_14, zi_15, zi_16, zi_17, zi_18, zi_19, zi_20, zi_21, zi_22, zi_23, zi_24, zi_25, zi_26, zi_30, zi_31, zi_32, zi_34, zi_38, zi_59, zi_60, zi_61, zi_63, zi_64, zi_80, zi_96, zi_97, zi_99, zi_100, zi_122, zi_255, zi_256, zi_300, zi_398, zi_406, zi_900, zi_1000, zi_1024, zi_1624, zi_1662, zi_2030, zi_2031, zi_2068, zi_2258, zi_9999, zi_48, zi_57, zi_65536, zi_3257, zi_11483, zi_1000000, zi_729, zi_81, zi_m1, nI_add, pk_mul, nI_ltI, nI_leI, nI_eq, nI_clamp, zn_in, zn_sub1lt, zn_M, zn_Ml, zn_Mg, zn_Mle, zn_Mge, zn_sub, Nat.reduceAdd, Nat.reduceMul, forall_eq, true_imp_iff, false_imp_iff, and_true, true_and, not_true_eq_false, not_false_eq_true, reduceCtorEq, imp_self, eq_self, false_and, and_false, implies_true]
      repeat' (first | omega | with_reducible refine And.intro ?_ ?_ | with_reducible intro g)
      all_goals exact K _ _ (y.st _) (am_u2_at _ _ _ _) (fy_U.st _) fy_UL.rfl
    · intro I L R h y Q K
      simp (disch := omega) only [wp_M_read, wp_M_wrongPlace, wb_M_wrongPlace_39, wp_M_isTray, am_u2_at, y.mn ht g1, zi_0, zi_1, zi_2, zi_3, zi_4, zi_5, zi_6, zi_7, zi_8, zi_9, zi_10, zi_11, zi_12, zi_13, zi_14, zi_15, zi_16, zi_17, zi_18, zi_19, zi_20, zi_21, zi_22, zi_23, zi_24, zi_25, zi_26, zi_30, zi_31, zi_32, zi_34, zi_38, zi_59, zi_60, zi_61, zi_63, zi_64, zi_80, zi_96, zi_97, zi_99, zi_100, zi_122, zi_255, zi_256, zi_300, zi_398, zi_406, zi_900, zi_1000, zi_1024, zi_1624, zi_1662, zi_2030, zi_2031, zi_2068, zi_2258, zi_9999, zi_48, zi_57, zi_65536, zi_3257, zi_11483, zi_1000000, zi_729, zi_81, zi_m1, nI_add, pk_mul, nI_ltI, nI_leI, nI_eq, nI_clamp, zn_in, zn_sub1lt, zn_M, zn_Ml, zn_Mg, zn_Mle, zn_Mge, zn_sub, Nat.reduceAdd, Nat.reduceMul, forall_eq, true_imp_iff, false_imp_iff, and_true, true_and, not_true_eq_false, not_false_eq_true, reduceCtorEq, imp_self, eq_self, false_and, and_false, implies_true]
      repeat' (first | omega | with_reducible refine And.intro ?_ ?_ | with_reducible intro g)
      all_goals exact K _ _ (y.st _) (am_u2_at _ _ _ _) (fy_M.st _) fy_ML.rfl
  refine ⟨tv t i, 0, tm, ts, tv, ok, ?_, ?_⟩
  · intro c d I L R hcd h hc hz y Q K
    simp (disch := omega) only [wp_U_read, wp_U_placeStatus, wp_U_trayStatus, wp_Tray_isMissing, wp_U_isTray, wp_U_within, wp_U_refused, wp_Tray_numberAt, zl_m1, y.r ht, y.so ht g1, y.mn ht g1, am_u2o, y.at ht (show i + 1 < tm t by omega), zi_0, zi_1, zi_2, zi_3, zi_4, zi_5, zi_6, zi_7, zi_8, zi_9, zi_10, zi_11, zi_12, zi_13, zi_14, zi_15, zi_16, zi_17, zi_18, zi_19, zi_20, zi_21, zi_22, zi_23, zi_24, zi_25, zi_26, zi_30, zi_31, zi_32, zi_34, zi_38, zi_59, zi_60, zi_61, zi_63, zi_64, zi_80, zi_96, zi_97, zi_99, zi_100, zi_122, zi_255, zi_256, zi_300, zi_398, zi_406, zi_900, zi_1000, zi_1024, zi_1624, zi_1662, zi_2030, zi_2031, zi_2068, zi_2258, zi_9999, zi_48, zi_57, zi_65536, zi_3257, zi_11483, zi_1000000, zi_729, zi_81, zi_m1, nI_add, pk_mul, nI_ltI, nI_leI, nI_eq, nI_clamp, zn_in, zn_sub1lt, zn_M, zn_Ml, zn_Mg, zn_Mle, zn_Mge, zn_sub, Nat.reduceAdd, Nat.reduceMul, forall_eq, true_imp_iff, false_imp_iff, and_true, true_and, not_true_eq_false, not_false_eq_true, reduceCtorEq, imp_self, eq_self, false_and, and_false, implies_true]
    repeat' (first | omega | with_reducible refine And.intro ?_ ?_ | with_reducible intro g)
    all_goals exact K _ _ (y.st _) (am_u2_at _ _ _ _) (fy_U.st _) fy_UL.rfl
  · intro I L R h y Q K
    simp (disch := omega) only [wp_M_read, wp_M_wrongPlace, wb_M_wrongPlace_39, wp_M_isTray, am_u2_at, y.mn ht g1, y.so ht g1, y.at ht (show i + 1 < tm t by omega), zi_0, zi_1, zi_2, zi_3, zi_4, zi_5, zi_6, zi_7, zi_8, zi_9, zi_10, zi_11, zi_12, zi_13, zi_14, zi_15, zi_16, zi_17, zi_18, zi_19, zi_20, zi_21, zi_22, zi_23, zi_24, zi_25, zi_26, zi_30, zi_31, zi_32, zi_34, zi_38, zi_59, zi_60, zi_61, zi_63, zi_64, zi_80, zi_96, zi_97, zi_99, zi_100, zi_122, zi_255, zi_256, zi_300, zi_398, zi_406, zi_900, zi_1000, zi_1024, zi_1624, zi_1662, zi_2030, zi_2031, zi_2068, zi_2258, zi_9999, zi_48, zi_57, zi_65536, zi_3257, zi_11483, zi_1000000, zi_729, zi_81, zi_m1, nI_add, pk_mul, nI_ltI, nI_leI, nI_eq, nI_clamp, zn_in, zn_sub1lt, zn_M, zn_Ml, zn_Mg, zn_Mle, zn_Mge, zn_sub, Nat.reduceAdd, Nat.reduceMul, forall_eq, true_imp_iff, false_imp_iff, and_true, true_and, not_true_eq_false, not_false_eq_true, reduceCtorEq, imp_self, eq_self, false_and, and_false, implies_true]
    repeat' (first | omega | with_reducible refine And.intro ?_ ?_ | with_reducible intro g)
    all_goals exact K _ _ (y.st _) (am_u2_at _ _ _ _) (fy_M.st _) fy_ML.rfl
end
