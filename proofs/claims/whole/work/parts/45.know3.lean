/-! rounds, knowers: both answer alike -/
theorem zk_sub {a b : Nat} (h : b ≤ a) : lN a - lN b = lN (a - b) := by
  obtain ⟨m, rfl⟩ : ∃ m, a = m + b := ⟨a - b, by omega⟩
  rw [← zk_add, Nat.add_sub_cancel]
  exact Int64.add_sub_cancel (lN m) (lN b)
theorem zk_shl {k : Nat} (h : k < 64) : lN 1 <<< (lN k &&& lN 63) = lN (2 ^ k) := by
  have : ∀ k, k < 64 → lN 1 <<< (lN k &&& lN 63) = lN (2 ^ k) := by decide +kernel
  exact this k h
theorem zsum_mono {f g : Nat → Nat} : ∀ {n : Nat}, (∀ i, i < n → f i ≤ g i) → zsum f n ≤ zsum g n
  | 0, _ => Nat.le_refl _
  | n + 1, h => by
    have := zsum_mono (fun i hi => h i (Nat.lt_succ_of_lt hi))
    have h2 := h n (by omega)
    rw [zsum, zsum]; omega
theorem zsum_lt {f g : Nat → Nat} {j : Nat} : ∀ {n : Nat}, (∀ i, i < n → f i ≤ g i) → j < n → f j < g j → zsum f n < zsum g n
  | 0, _, hj, _ => by omega
  | n + 1, h, hj, hl => by
    have h2 := h n (by omega)
    rw [zsum, zsum]
    by_cases e : j = n
    · subst e
      have := zsum_mono (fun i hi => h i (Nat.lt_succ_of_lt hi))
      omega
    · have := zsum_lt (fun i hi => h i (Nat.lt_succ_of_lt hi)) (show j < n by omega) hl
      omega
def kn_cnt (P : Nat → Bool) : Nat := zsum (fun w => (P w).toNat) 64
section
variable {q : Nat → Nat} {c d : Nat} {I I1 I2 : am_TI} {L L1 L2 : am_TL} {R : am_TR} {s : Nat → Nat} {N : Nat} {P : Nat → Bool}
theorem sm_lays (h : sq_M q 0 I L) (ok : sq_Ok q) {r : Nat} (hr : r < 1000) {Q : am_TI → Prop} (k : ∀ I1, kn_M (kn_s q r) (q 3) (kn_P0 (q 3)) I1 → (∀ r, r ≠ 121 → r ≠ 123 → I1 r = I r) → Q I1) : wp_M_laysWorlds I L R 103 (nI r) Q := by
  have o := ok.1.2.2.1
  have n6 := zn_pow6 (N := q 3) (by omega)
  refine (zl_up (P := fun f m => ∀ I1, (∀ w, w < m → I1 121 w = nI (kn_P0 (q 3) w).toNat) → (∀ r, r ≠ 121 → r ≠ 123 → I1 r = I r) → wl_M_laysWorlds_2 L R 103 (nI r) Q f I1 (nI m)) 64 (fun f I1 e1 e2 => ?_) (fun f m hm ih I1 e1 e2 => ?_) 0 (by omega)).elim fun z hz => ⟨z, hz _ (fun i hi => absurd hi (by omega)) (fun r a b => rfl)⟩
  · simp (disch := omega) only [wl_M_laysWorlds_2, zi_0, zi_1, zi_2, zi_3, zi_4, zi_5, zi_6, zi_7, zi_8, zi_9, zi_10, zi_11, zi_12, zi_13, zi_14, zi_15, zi_16, zi_17, zi_18, zi_19, zi_20, zi_21, zi_22, zi_23, zi_24, zi_25, zi_26, zi_30, zi_31, zi_32, zi_34, zi_38, zi_59, zi_60, zi_61, zi_63, zi_64, zi_80, zi_96, zi_97, zi_99, zi_100, zi_122, zi_255, zi_256, zi_300, zi_398, zi_406, zi_900, zi_1000, zi_1024, zi_1624, zi_1662, zi_2030, zi_2031, zi_2068, zi_2258, zi_9999, zi_48, zi_57, zi_65536, zi_3257, zi_11483, zi_1000000, zi_729, zi_81, zi_m1, nI_add, pk_mul, nI_ltI, nI_leI, nI_eq, nI_clamp, zn_in, zn_sub1lt, zn_M, zn_Ml, zn_Mg, zn_Mle, zn_Mge, zn_sub, Nat.reduceAdd, Nat.reduceMul]
    refine ⟨fun _ => ?_, fun g => absurd (Nat.le_refl _) g⟩
    refine (zl_up (P := fun f m => ∀ I2, (∀ w, w < 64 → I2 121 w = nI (kn_P0 (q 3) w).toNat) → (∀ i, i < m → I2 123 i = nI (kn_s q r i)) → (∀ r, r ≠ 121 → r ≠ 123 → I2 r = I r) → wl_M_laysWorlds_43 L R 103 (nI r) Q f I2 (nI m)) (q 3) (fun f I2 a1 a2 a3 => ?_) (fun f m hm ih I2 a1 a2 a3 => ?_) 0 (by omega)).elim fun z hz => ⟨z, hz _ e1 (fun i hi => absurd hi (by omega)) e2⟩
    · have e3 : I2 104 3 = nI (q 3) := by rw [a3 104 (by omega) (by omega)]; exact h.n3
      simp (disch := omega) only [wl_M_laysWorlds_43, e3, zi_0, zi_1, zi_2, zi_3, zi_4, zi_5, zi_6, zi_7, zi_8, zi_9, zi_10, zi_11, zi_12, zi_13, zi_14, zi_15, zi_16, zi_17, zi_18, zi_19, zi_20, zi_21, zi_22, zi_23, zi_24, zi_25, zi_26, zi_30, zi_31, zi_32, zi_34, zi_38, zi_59, zi_60, zi_61, zi_63, zi_64, zi_80, zi_96, zi_97, zi_99, zi_100, zi_122, zi_255, zi_256, zi_300, zi_398, zi_406, zi_900, zi_1000, zi_1024, zi_1624, zi_1662, zi_2030, zi_2031, zi_2068, zi_2258, zi_9999, zi_48, zi_57, zi_65536, zi_3257, zi_11483, zi_1000000, zi_729, zi_81, zi_m1, nI_add, pk_mul, nI_ltI, nI_leI, nI_eq, nI_clamp, zn_in, zn_sub1lt, zn_M, zn_Ml, zn_Mg, zn_Mle, zn_Mge, zn_sub, Nat.reduceAdd, Nat.reduceMul]
      exact ⟨fun _ => k I2 ⟨e3, a2, a1⟩ a3, fun g => absurd (Nat.le_refl _) g⟩
    · have h1 : sq_M q 0 I2 L := h.keep (fun k _ _ => by rw [a3 104 (by omega) (by omega)]) rfl ok.2.2.2.2.1
      simp (disch := omega) only [wl_M_laysWorlds_43, h1.n3, zi_0, zi_1, zi_2, zi_3, zi_4, zi_5, zi_6, zi_7, zi_8, zi_9, zi_10, zi_11, zi_12, zi_13, zi_14, zi_15, zi_16, zi_17, zi_18, zi_19, zi_20, zi_21, zi_22, zi_23, zi_24, zi_25, zi_26, zi_30, zi_31, zi_32, zi_34, zi_38, zi_59, zi_60, zi_61, zi_63, zi_64, zi_80, zi_96, zi_97, zi_99, zi_100, zi_122, zi_255, zi_256, zi_300, zi_398, zi_406, zi_900, zi_1000, zi_1024, zi_1624, zi_1662, zi_2030, zi_2031, zi_2068, zi_2258, zi_9999, zi_48, zi_57, zi_65536, zi_3257, zi_11483, zi_1000000, zi_729, zi_81, zi_m1, nI_add, pk_mul, nI_ltI, nI_leI, nI_eq, nI_clamp, zn_in, zn_sub1lt, zn_M, zn_Ml, zn_Mg, zn_Mle, zn_Mge, zn_sub, Nat.reduceAdd, Nat.reduceMul]
      refine ⟨fun g => absurd g (by omega), fun _ => sm_hearerOf h1 (by omega) (by omega) (sm_near h1 ok (ok.at25 hm) hr ⟨by omega, fun I3 hI3 => ?_⟩)⟩
      subst hI3
      rw [zn_shl (by omega), zn_an]
      refine ih _ (fun w hw => by rw [am_u2o (by omega)]; exact a1 w hw) (fun i hi => ?_) (fun r a b => by rw [am_u2_row _ _ _ _ (by omega)]; exact a3 r a b)
      by_cases e : i = m
      · subst e; rw [am_u2_at]; rfl
      · rw [am_u2_ne _ _ _ _ e]; exact a2 i (by omega)
  · have e3 : I1 104 3 = nI (q 3) := by rw [e2 104 (by omega) (by omega)]; exact h.n3
    simp (disch := omega) only [wl_M_laysWorlds_2, e3, zn_shl, zv0, zv1, zi_0, zi_1, zi_2, zi_3, zi_4, zi_5, zi_6, zi_7, zi_8, zi_9, zi_10, zi_11, zi_12, zi_13, zi_14, zi_15, zi_16, zi_17, zi_18, zi_19, zi_20, zi_21, zi_22, zi_23, zi_24, zi_25, zi_26, zi_30, zi_31, zi_32, zi_34, zi_38, zi_59, zi_60, zi_61, zi_63, zi_64, zi_80, zi_96, zi_97, zi_99, zi_100, zi_122, zi_255, zi_256, zi_300, zi_398, zi_406, zi_900, zi_1000, zi_1024, zi_1624, zi_1662, zi_2030, zi_2031, zi_2068, zi_2258, zi_9999, zi_48, zi_57, zi_65536, zi_3257, zi_11483, zi_1000000, zi_729, zi_81, zi_m1, nI_add, pk_mul, nI_ltI, nI_leI, nI_eq, nI_clamp, zn_in, zn_sub1lt, zn_M, zn_Ml, zn_Mg, zn_Mle, zn_Mge, zn_sub, Nat.reduceAdd, Nat.reduceMul]
    have step : ∀ b : Bool, kn_P0 (q 3) m = b → wl_M_laysWorlds_2 L R 103 (nI r) Q f (am_u2 I1 121 m (nI b.toNat)) (nI (m + 1)) := by
      intro b hb
      refine ih _ (fun w hw => ?_) (fun r a b => by rw [am_u2_row _ _ _ _ (by omega)]; exact e2 r a b)
      by_cases e : w = m
      · subst e; rw [am_u2_at, hb]
      · rw [am_u2_ne _ _ _ _ e]; exact e1 w (by omega)
    unfold kn_P0 at step
    refine ⟨fun g => absurd g (by omega), fun _ => ⟨fun g => ⟨by omega, fun I2 h2 => ?_⟩, fun g => ⟨fun g2 => ⟨by omega, fun I2 h2 => ?_⟩, fun g2 => ⟨by omega, fun I2 h2 => ?_⟩⟩⟩⟩
    · subst h2; exact step false (by simp; omega)
    · subst h2; exact step false (by simp; omega)
    · subst h2; exact step true (by simp; omega)
theorem sm_tell (hN : N ≤ 6) (h : kn_M s N P I) (hs : ∀ i, i < N → s i < 2 ^ N ∧ (s i).testBit i = false) (hP : kn_Ok N P) {t : Nat} (ht : t < 64) {Q : Bool → am_TI → Prop} (k : ∀ I1, kn_M s N (kn_hear s N P t) I1 → (∀ r, r ≠ 121 → r ≠ 122 → I1 r = I r) → Q (kn_news s N P t) I1) : wp_M_tellsAll I L R 103 (nI t) Q := by
  have n6 := zn_pow6 hN
  refine (zl_up (P := fun f m => ∀ I1, (∀ w, w < m → I1 122 w = nI (kn_hear s N P t w).toNat) → (∀ r, r ≠ 122 → I1 r = I r) → wl_M_tellsAll_4 L R 103 (nI t) Q f I1 (decide (zs_bs P m ≠ zs_bs (kn_hear s N P t) m)) (nI m)) 64 (fun f I1 e1 e2 => ?_) (fun f m hm ih I1 e1 e2 => ?_) 0 (by omega)).elim fun z hz => ⟨z, hz _ (fun i hi => absurd hi (by omega)) (fun r a => rfl)⟩
  · simp (disch := omega) only [wl_M_tellsAll_4, zi_0, zi_1, zi_2, zi_3, zi_4, zi_5, zi_6, zi_7, zi_8, zi_9, zi_10, zi_11, zi_12, zi_13, zi_14, zi_15, zi_16, zi_17, zi_18, zi_19, zi_20, zi_21, zi_22, zi_23, zi_24, zi_25, zi_26, zi_30, zi_31, zi_32, zi_34, zi_38, zi_59, zi_60, zi_61, zi_63, zi_64, zi_80, zi_96, zi_97, zi_99, zi_100, zi_122, zi_255, zi_256, zi_300, zi_398, zi_406, zi_900, zi_1000, zi_1024, zi_1624, zi_1662, zi_2030, zi_2031, zi_2068, zi_2258, zi_9999, zi_48, zi_57, zi_65536, zi_3257, zi_11483, zi_1000000, zi_729, zi_81, zi_m1, nI_add, pk_mul, nI_ltI, nI_leI, nI_eq, nI_clamp, zn_in, zn_sub1lt, zn_M, zn_Ml, zn_Mg, zn_Mle, zn_Mge, zn_sub, Nat.reduceAdd, Nat.reduceMul]
    refine ⟨fun _ => ?_, fun g => absurd (Nat.le_refl _) g⟩
    refine (zl_up (P := fun f m => ∀ I2, (∀ w, w < 64 → I2 122 w = nI (kn_hear s N P t w).toNat) → (∀ w, w < m → I2 121 w = nI (kn_hear s N P t w).toNat) → (∀ r, r ≠ 121 → r ≠ 122 → I2 r = I r) → wl_M_tellsAll_72 L R 103 (nI t) Q f I2 (kn_news s N P t) (nI m)) 64 (fun f I2 a1 a2 a3 => ?_) (fun f m hm ih I2 a1 a2 a3 => ?_) 0 (by omega)).elim fun z hz => ⟨z, hz I1 e1 (fun i hi => absurd hi (by omega)) (fun r _ b => e2 r b)⟩
    · simp (disch := omega) only [wl_M_tellsAll_72, zi_0, zi_1, zi_2, zi_3, zi_4, zi_5, zi_6, zi_7, zi_8, zi_9, zi_10, zi_11, zi_12, zi_13, zi_14, zi_15, zi_16, zi_17, zi_18, zi_19, zi_20, zi_21, zi_22, zi_23, zi_24, zi_25, zi_26, zi_30, zi_31, zi_32, zi_34, zi_38, zi_59, zi_60, zi_61, zi_63, zi_64, zi_80, zi_96, zi_97, zi_99, zi_100, zi_122, zi_255, zi_256, zi_300, zi_398, zi_406, zi_900, zi_1000, zi_1024, zi_1624, zi_1662, zi_2030, zi_2031, zi_2068, zi_2258, zi_9999, zi_48, zi_57, zi_65536, zi_3257, zi_11483, zi_1000000, zi_729, zi_81, zi_m1, nI_add, pk_mul, nI_ltI, nI_leI, nI_eq, nI_clamp, zn_in, zn_sub1lt, zn_M, zn_Ml, zn_Mg, zn_Mle, zn_Mge, zn_sub, Nat.reduceAdd, Nat.reduceMul]
      refine ⟨fun _ => k I2 ⟨by rw [a3 104 (by omega) (by omega)]; exact h.1, fun i hi => by rw [a3 123 (by omega) (by omega)]; exact h.2.1 i hi, a2⟩ a3, fun g => absurd (Nat.le_refl _) g⟩
    · simp (disch := omega) only [wl_M_tellsAll_72, a1 m hm, zvb, zi_0, zi_1, zi_2, zi_3, zi_4, zi_5, zi_6, zi_7, zi_8, zi_9, zi_10, zi_11, zi_12, zi_13, zi_14, zi_15, zi_16, zi_17, zi_18, zi_19, zi_20, zi_21, zi_22, zi_23, zi_24, zi_25, zi_26, zi_30, zi_31, zi_32, zi_34, zi_38, zi_59, zi_60, zi_61, zi_63, zi_64, zi_80, zi_96, zi_97, zi_99, zi_100, zi_122, zi_255, zi_256, zi_300, zi_398, zi_406, zi_900, zi_1000, zi_1024, zi_1624, zi_1662, zi_2030, zi_2031, zi_2068, zi_2258, zi_9999, zi_48, zi_57, zi_65536, zi_3257, zi_11483, zi_1000000, zi_729, zi_81, zi_m1, nI_add, pk_mul, nI_ltI, nI_leI, nI_eq, nI_clamp, zn_in, zn_sub1lt, zn_M, zn_Ml, zn_Mg, zn_Mle, zn_Mge, zn_sub, Nat.reduceAdd, Nat.reduceMul]
      refine ⟨fun g => absurd g (by omega), fun _ => ⟨by omega, by omega, fun I3 hI3 => ?_⟩⟩
      subst hI3
      refine ih _ (fun w hw => by rw [am_u2o (by omega)]; exact a1 w hw) (fun w hw => ?_) (fun r a b => by rw [am_u2_row _ _ _ _ (by omega)]; exact a3 r a b)
      by_cases e : w = m
      · subst e; rw [am_u2_at]
      · rw [am_u2_ne _ _ _ _ e]; exact a2 w (by omega)
  · have h1 : kn_M s N P I1 := ⟨by rw [e2 104 (by omega)]; exact h.1, fun i hi => by rw [e2 123 (by omega)]; exact h.2.1 i hi, fun w hw => by rw [e2 121 (by omega)]; exact h.2.2 w hw⟩
    have step : ∀ b : Bool, kn_hear s N P t m = b → wb_M_tellsAll_38 L R 103 (nI t) Q (wl_M_tellsAll_4 L R 103 (nI t) Q f) I1 (decide (zs_bs P m ≠ zs_bs (kn_hear s N P t) m)) (nI m) 122 (nI m) b := by
      intro b hb
      simp (disch := omega) only [wb_M_tellsAll_38, wb_M_tellsAll_58, zab, zvb, zi_0, zi_1, zi_2, zi_3, zi_4, zi_5, zi_6, zi_7, zi_8, zi_9, zi_10, zi_11, zi_12, zi_13, zi_14, zi_15, zi_16, zi_17, zi_18, zi_19, zi_20, zi_21, zi_22, zi_23, zi_24, zi_25, zi_26, zi_30, zi_31, zi_32, zi_34, zi_38, zi_59, zi_60, zi_61, zi_63, zi_64, zi_80, zi_96, zi_97, zi_99, zi_100, zi_122, zi_255, zi_256, zi_300, zi_398, zi_406, zi_900, zi_1000, zi_1024, zi_1624, zi_1662, zi_2030, zi_2031, zi_2068, zi_2258, zi_9999, zi_48, zi_57, zi_65536, zi_3257, zi_11483, zi_1000000, zi_729, zi_81, zi_m1, nI_add, pk_mul, nI_ltI, nI_leI, nI_eq, nI_clamp, zn_in, zn_sub1lt, zn_M, zn_Ml, zn_Mg, zn_Mle, zn_Mge, zn_sub, Nat.reduceAdd, Nat.reduceMul]
      refine ⟨hm, fun I2 hI2 => ?_⟩
      subst hI2
      have nx := ih (am_u2 I1 122 m (nI b.toNat)) (fun w hw => by
        by_cases e : w = m
        · subst e; rw [am_u2_at, hb]
        · rw [am_u2_ne _ _ _ _ e]; exact e1 w (by omega)) (fun r a => by rw [am_u2_row _ _ _ _ a]; exact e2 r a)
      have e121 : am_u2 I1 122 m (nI b.toNat) 121 m = nI (P m).toNat := by rw [am_u2o (by omega)]; exact h1.2.2 m hm
      rw [e121, am_u2_at]
      have tn : ∀ x y : Bool, (nI x.toNat = nI y.toNat ↔ x = y) := by decide
      rw [tn]
      have zz : zs_bs P (m + 1) = zs_bs (kn_hear s N P t) (m + 1) ↔ zs_bs P m = zs_bs (kn_hear s N P t) m ∧ P m = b := by
        rw [zs_inj, zs_inj, ← hb]
        constructor
        · intro a; exact ⟨fun i hi => a i (by omega), a m (by omega)⟩
        · rintro ⟨a, e⟩ i hi
          rcases Nat.lt_or_ge i m with g | g
          · exact a i g
          · rw [show i = m by omega]; exact e
      refine ⟨fun g => ⟨by omega, by omega, fun g2 => ?_, fun g2 => ?_⟩, fun g => ?_⟩
      · have : decide (zs_bs P (m + 1) ≠ zs_bs (kn_hear s N P t) (m + 1)) = false := by
          simp only [ne_eq, decide_eq_false_iff_not, Decidable.not_not] at g ⊢
          exact zz.mpr ⟨g, g2⟩
        rw [this] at nx; exact nx
      · have : decide (zs_bs P (m + 1) ≠ zs_bs (kn_hear s N P t) (m + 1)) = true := by
          simp only [ne_eq, decide_eq_true_eq]
          exact fun e => g2 (zz.mp e).2
        rw [this] at nx; exact nx
      · have : decide (zs_bs P (m + 1) ≠ zs_bs (kn_hear s N P t) (m + 1)) = true := by
          simp only [ne_eq, decide_eq_true_eq] at g ⊢
          exact fun e => g (zz.mp e).1
        rw [this] at nx; exact nx
    have kl := kn_lt s N P m
    simp (disch := omega) only [wl_M_tellsAll_4, wb_M_tellsAll_37, h1.2.2 m hm, zi_0, zi_1, zi_2, zi_3, zi_4, zi_5, zi_6, zi_7, zi_8, zi_9, zi_10, zi_11, zi_12, zi_13, zi_14, zi_15, zi_16, zi_17, zi_18, zi_19, zi_20, zi_21, zi_22, zi_23, zi_24, zi_25, zi_26, zi_30, zi_31, zi_32, zi_34, zi_38, zi_59, zi_60, zi_61, zi_63, zi_64, zi_80, zi_96, zi_97, zi_99, zi_100, zi_122, zi_255, zi_256, zi_300, zi_398, zi_406, zi_900, zi_1000, zi_1024, zi_1624, zi_1662, zi_2030, zi_2031, zi_2068, zi_2258, zi_9999, zi_48, zi_57, zi_65536, zi_3257, zi_11483, zi_1000000, zi_729, zi_81, zi_m1, nI_add, pk_mul, nI_ltI, nI_leI, nI_eq, nI_clamp, zn_in, zn_sub1lt, zn_M, zn_Ml, zn_Mg, zn_Mle, zn_Mge, zn_sub, Nat.reduceAdd, Nat.reduceMul]
    refine ⟨fun g => absurd g (by omega), fun _ => ⟨by omega, fun g => ?_, fun g => sm_kn hN h1 hs hP hm ?_⟩⟩
    · refine step false ?_
      cases hp : P m with
      | false => simp [kn_hear, hp]
      | true => rw [hp] at g; exact absurd g (by decide)
    · simp (disch := omega) only [zi_0, zi_1, zi_2, zi_3, zi_4, zi_5, zi_6, zi_7, zi_8, zi_9, zi_10, zi_11, zi_12, zi_13, zi_14, zi_15, zi_16, zi_17, zi_18, zi_19, zi_20, zi_21, zi_22, zi_23, zi_24, zi_25, zi_26, zi_30, zi_31, zi_32, zi_34, zi_38, zi_59, zi_60, zi_61, zi_63, zi_64, zi_80, zi_96, zi_97, zi_99, zi_100, zi_122, zi_255, zi_256, zi_300, zi_398, zi_406, zi_900, zi_1000, zi_1024, zi_1624, zi_1662, zi_2030, zi_2031, zi_2068, zi_2258, zi_9999, zi_48, zi_57, zi_65536, zi_3257, zi_11483, zi_1000000, zi_729, zi_81, zi_m1, nI_add, pk_mul, nI_ltI, nI_leI, nI_eq, nI_clamp, zn_in, zn_sub1lt, zn_M, zn_Ml, zn_Mg, zn_Mle, zn_Mge, zn_sub, Nat.reduceAdd, Nat.reduceMul]
      have hp : P m = true := by
        cases hp : P m with
        | false => rw [hp] at g; exact absurd rfl g
        | true => rfl
      refine ⟨fun g2 => step true (by simp [kn_hear, hp, g2]), fun g2 => step false (by simp [kn_hear, hp, g2])⟩
/-- after how many rounds -/
def kn_rn (s : Nat → Nat) (N fl : Nat) : Nat → (Nat → Bool) → Nat → Option Nat
  | 0, _, r => some r
  | k + 1, P, r => if kn s N P fl ≠ 0 then some r else if kn_news s N P 0 = true then kn_rn s N fl k (kn_hear s N P 0) (r + 1) else none
def kn_v : Option Nat → Int32
  | some r => nI r
  | none => nM
theorem kn_cnt_hear {t : Nat} (h : kn_news s N P t = true) : kn_cnt (kn_hear s N P t) < kn_cnt P := by
  unfold kn_news at h
  rw [decide_eq_true_eq, Ne, zs_inj] at h
  have : ∃ i, i < 64 ∧ P i ≠ kn_hear s N P t i := by
    apply Classical.byContradiction
    intro g
    exact h fun i hi => Classical.byContradiction fun e => g ⟨i, hi, e⟩
  obtain ⟨i, hi, e⟩ := this
  have le : ∀ i, (kn_hear s N P t i).toNat ≤ (P i).toNat := by
    intro i
    unfold kn_hear
    cases P i <;> cases (kn s N P i == t) <;> decide
  refine zsum_lt (fun i _ => le i) hi ?_
  have := le i
  revert this e
  cases P i <;> cases kn_hear s N P t i <;> simp
theorem kn_cnt_0 (h : kn_cnt P = 0) : ∀ w, w < 64 → P w = false := by
  intro w hw
  cases hp : P w with
  | false => rfl
  | true =>
    have := zsum_lt (f := fun _ => 0) (g := fun w => (P w).toNat) (j := w) (n := 64) (fun i _ => Nat.zero_le _) hw (by simp [hp])
    unfold kn_cnt at h
    rw [zsum_0 (fun _ _ => rfl)] at this
    omega
theorem kn_cnt_p0 (N : Nat) : kn_cnt (kn_P0 N) ≤ 63 := by
  have := zsum_lt (f := fun w => (kn_P0 N w).toNat) (g := fun _ => 1) (j := 0) (n := 64) (fun i _ => by cases kn_P0 N i <;> decide) (by decide) (by simp [kn_P0])
  have e : zsum (fun _ => 1) 64 = 64 := by decide
  unfold kn_cnt
  omega
theorem kn_empty (hN : N ≤ 6) (h : ∀ w, w < 64 → P w = false) {fl : Nat} (hf : fl < 2 ^ N) : kn s N P fl = fl := by
  have n6 := zn_pow6 hN
  apply Nat.eq_of_testBit_eq
  intro i
  unfold kn
  rw [zs_bit]
  have e : kn_ex s P i fl (2 ^ N) = false := by
    cases e : kn_ex s P i fl (2 ^ N) with
    | false => rfl
    | true =>
      obtain ⟨o, h1, h2⟩ := (kn_ex_iff s P i fl _).mp e
      unfold kn_cond at h2
      rw [h o (by omega)] at h2; simp at h2
  rw [e]
  by_cases hi : i < N
  · simp [hi]
  · rw [Nat.testBit_lt_two_pow (Nat.lt_of_lt_of_le hf (Nat.pow_le_pow_right (by decide) (by omega)))]
    simp
theorem su_first (hN : N ≤ 6) (hs : ∀ i, i < N → s i < 2 ^ N ∧ (s i).testBit i = false) {fl r0 : Nat} (hf : fl < 2 ^ N) (f0 : fl ≠ 0) {Q : Int32 → am_TI → am_TL → Prop} : ∀ k P r L, k + r = 64 → kn_cnt P ≤ k → kn_U s N P I L → kn_Ok N P → (∀ L1, (∀ r j, ¬ (r = 27 ∧ j = 2) → L1 r j = L r j) → Q (kn_v (kn_rn s N fl k P r)) I L1) → wl_Knowing_firstRound_9 R 27 c (nI fl) (nI r0) Q (k + 1) I L (nI r) := by
  have n6 := zn_pow6 hN
  intro k
  induction k with
  | zero =>
    intro P r L hr hc h hP K
    have e := kn_empty (s := s) hN (kn_cnt_0 (P := P) (by omega)) hf
    simp (disch := omega) only [wl_Knowing_firstRound_9, zi_0, zi_1, zi_2, zi_3, zi_4, zi_5, zi_6, zi_7, zi_8, zi_9, zi_10, zi_11, zi_12, zi_13, zi_14, zi_15, zi_16, zi_17, zi_18, zi_19, zi_20, zi_21, zi_22, zi_23, zi_24, zi_25, zi_26, zi_30, zi_31, zi_32, zi_34, zi_38, zi_59, zi_60, zi_61, zi_63, zi_64, zi_80, zi_96, zi_97, zi_99, zi_100, zi_122, zi_255, zi_256, zi_300, zi_398, zi_406, zi_900, zi_1000, zi_1024, zi_1624, zi_1662, zi_2030, zi_2031, zi_2068, zi_2258, zi_9999, zi_48, zi_57, zi_65536, zi_3257, zi_11483, zi_1000000, zi_729, zi_81, zi_m1, nI_add, pk_mul, nI_ltI, nI_leI, nI_eq, nI_clamp, zn_in, zn_sub1lt, zn_M, zn_Ml, zn_Mg, zn_Mle, zn_Mge, zn_sub, Nat.reduceAdd, Nat.reduceMul]
    refine ⟨fun g => absurd g (by omega), fun _ => su_kn hN h hs hP hf ?_⟩
    rw [e]
    simp (disch := omega) only [zi_0, zi_1, zi_2, zi_3, zi_4, zi_5, zi_6, zi_7, zi_8, zi_9, zi_10, zi_11, zi_12, zi_13, zi_14, zi_15, zi_16, zi_17, zi_18, zi_19, zi_20, zi_21, zi_22, zi_23, zi_24, zi_25, zi_26, zi_30, zi_31, zi_32, zi_34, zi_38, zi_59, zi_60, zi_61, zi_63, zi_64, zi_80, zi_96, zi_97, zi_99, zi_100, zi_122, zi_255, zi_256, zi_300, zi_398, zi_406, zi_900, zi_1000, zi_1024, zi_1624, zi_1662, zi_2030, zi_2031, zi_2068, zi_2258, zi_9999, zi_48, zi_57, zi_65536, zi_3257, zi_11483, zi_1000000, zi_729, zi_81, zi_m1, nI_add, pk_mul, nI_ltI, nI_leI, nI_eq, nI_clamp, zn_in, zn_sub1lt, zn_M, zn_Ml, zn_Mg, zn_Mle, zn_Mge, zn_sub, Nat.reduceAdd, Nat.reduceMul]
    exact ⟨fun g => absurd g f0, fun _ => K L (fun _ _ _ => rfl)⟩
  | succ k ih =>
    intro P r L hr hc h hP K
    have kl := kn_lt s N P fl
    rw [wl_Knowing_firstRound_9]
    simp (disch := omega) only [zi_0, zi_1, zi_2, zi_3, zi_4, zi_5, zi_6, zi_7, zi_8, zi_9, zi_10, zi_11, zi_12, zi_13, zi_14, zi_15, zi_16, zi_17, zi_18, zi_19, zi_20, zi_21, zi_22, zi_23, zi_24, zi_25, zi_26, zi_30, zi_31, zi_32, zi_34, zi_38, zi_59, zi_60, zi_61, zi_63, zi_64, zi_80, zi_96, zi_97, zi_99, zi_100, zi_122, zi_255, zi_256, zi_300, zi_398, zi_406, zi_900, zi_1000, zi_1024, zi_1624, zi_1662, zi_2030, zi_2031, zi_2068, zi_2258, zi_9999, zi_48, zi_57, zi_65536, zi_3257, zi_11483, zi_1000000, zi_729, zi_81, zi_m1, nI_add, pk_mul, nI_ltI, nI_leI, nI_eq, nI_clamp, zn_in, zn_sub1lt, zn_M, zn_Ml, zn_Mg, zn_Mle, zn_Mge, zn_sub, Nat.reduceAdd, Nat.reduceMul]
    refine ⟨fun g => absurd g (by omega), fun _ => su_kn hN h hs hP hf ?_⟩
    simp (disch := omega) only [zi_0, zi_1, zi_2, zi_3, zi_4, zi_5, zi_6, zi_7, zi_8, zi_9, zi_10, zi_11, zi_12, zi_13, zi_14, zi_15, zi_16, zi_17, zi_18, zi_19, zi_20, zi_21, zi_22, zi_23, zi_24, zi_25, zi_26, zi_30, zi_31, zi_32, zi_34, zi_38, zi_59, zi_60, zi_61, zi_63, zi_64, zi_80, zi_96, zi_97, zi_99, zi_100, zi_122, zi_255, zi_256, zi_300, zi_398, zi_406, zi_900, zi_1000, zi_1024, zi_1624, zi_1662, zi_2030, zi_2031, zi_2068, zi_2258, zi_9999, zi_48, zi_57, zi_65536, zi_3257, zi_11483, zi_1000000, zi_729, zi_81, zi_m1, nI_add, pk_mul, nI_ltI, nI_leI, nI_eq, nI_clamp, zn_in, zn_sub1lt, zn_M, zn_Ml, zn_Mg, zn_Mle, zn_Mge, zn_sub, Nat.reduceAdd, Nat.reduceMul]
    rw [kn_rn] at K
    refine ⟨fun g => ?_, fun g => ?_⟩
    · refine su_hear hN h hs hP hf (fun L1 h1 f1 => ?_)
      rw [if_neg (fun e => e g)] at K
      rw [g] at h1 ⊢
      refine ⟨fun g2 => ?_, fun g2 => ?_⟩
      · rw [if_neg (by rw [g2]; decide)] at K
        exact K L1 f1
      · rw [if_pos g2] at K
        have := kn_cnt_hear g2
        exact ih _ (r + 1) L1 (by omega) (by omega) h1 (hP.hear _) (fun L2 f2 => K L2 (fun r j g => (f2 r j g).trans (f1 r j g)))
    · rw [if_pos g] at K
      exact K L (fun _ _ _ => rfl)
theorem sm_first (hN : N ≤ 6) (hs : ∀ i, i < N → s i < 2 ^ N ∧ (s i).testBit i = false) {fl r0 : Nat} (hf : fl < 2 ^ N) (f0 : fl ≠ 0) {Q : Int32 → am_TI → Prop} : ∀ k P r I, k + r = 64 → kn_cnt P ≤ k → kn_M s N P I → kn_Ok N P → (∀ I1 a, (∀ r, r ≠ 121 → r ≠ 122 → I1 r = I r) → (kn_rn s N fl k P r = some a → Q (nI a) (am_u2 I1 103 2 (nI 0))) ∧ (kn_rn s N fl k P r = none → Q nM (am_u2 I1 103 2 (nI 6)))) → wl_M_rounds_22 L R 103 (nI fl) (nI r0) Q (k + 1) I (nI r) := by
  have n6 := zn_pow6 hN
  intro k
  induction k with
  | zero =>
    intro P r I hr hc h hP K
    have e := kn_empty (s := s) hN (kn_cnt_0 (P := P) (by omega)) hf
    simp (disch := omega) only [wl_M_rounds_22, wp_M_gives, wp_M_refuse, zi_0, zi_1, zi_2, zi_3, zi_4, zi_5, zi_6, zi_7, zi_8, zi_9, zi_10, zi_11, zi_12, zi_13, zi_14, zi_15, zi_16, zi_17, zi_18, zi_19, zi_20, zi_21, zi_22, zi_23, zi_24, zi_25, zi_26, zi_30, zi_31, zi_32, zi_34, zi_38, zi_59, zi_60, zi_61, zi_63, zi_64, zi_80, zi_96, zi_97, zi_99, zi_100, zi_122, zi_255, zi_256, zi_300, zi_398, zi_406, zi_900, zi_1000, zi_1024, zi_1624, zi_1662, zi_2030, zi_2031, zi_2068, zi_2258, zi_9999, zi_48, zi_57, zi_65536, zi_3257, zi_11483, zi_1000000, zi_729, zi_81, zi_m1, nI_add, pk_mul, nI_ltI, nI_leI, nI_eq, nI_clamp, zn_in, zn_sub1lt, zn_M, zn_Ml, zn_Mg, zn_Mle, zn_Mge, zn_sub, Nat.reduceAdd, Nat.reduceMul, forall_eq, true_imp_iff, false_imp_iff, and_true, true_and, not_true_eq_false, not_false_eq_true, reduceCtorEq, imp_self, eq_self, false_and, and_false, implies_true]
    refine sm_kn hN h hs hP (by omega) ?_
    rw [e]
    simp (disch := omega) only [zi_0, zi_1, zi_2, zi_3, zi_4, zi_5, zi_6, zi_7, zi_8, zi_9, zi_10, zi_11, zi_12, zi_13, zi_14, zi_15, zi_16, zi_17, zi_18, zi_19, zi_20, zi_21, zi_22, zi_23, zi_24, zi_25, zi_26, zi_30, zi_31, zi_32, zi_34, zi_38, zi_59, zi_60, zi_61, zi_63, zi_64, zi_80, zi_96, zi_97, zi_99, zi_100, zi_122, zi_255, zi_256, zi_300, zi_398, zi_406, zi_900, zi_1000, zi_1024, zi_1624, zi_1662, zi_2030, zi_2031, zi_2068, zi_2258, zi_9999, zi_48, zi_57, zi_65536, zi_3257, zi_11483, zi_1000000, zi_729, zi_81, zi_m1, nI_add, pk_mul, nI_ltI, nI_leI, nI_eq, nI_clamp, zn_in, zn_sub1lt, zn_M, zn_Ml, zn_Mg, zn_Mle, zn_Mge, zn_sub, Nat.reduceAdd, Nat.reduceMul]
    exact ⟨fun g => absurd g f0, fun _ => (K I r (fun _ _ _ => rfl)).1 rfl⟩
  | succ k ih =>
    intro P r I hr hc h hP K
    have kl := kn_lt s N P fl
    rw [wl_M_rounds_22]
    simp (disch := omega) only [wp_M_gives, wp_M_refuse, zi_0, zi_1, zi_2, zi_3, zi_4, zi_5, zi_6, zi_7, zi_8, zi_9, zi_10, zi_11, zi_12, zi_13, zi_14, zi_15, zi_16, zi_17, zi_18, zi_19, zi_20, zi_21, zi_22, zi_23, zi_24, zi_25, zi_26, zi_30, zi_31, zi_32, zi_34, zi_38, zi_59, zi_60, zi_61, zi_63, zi_64, zi_80, zi_96, zi_97, zi_99, zi_100, zi_122, zi_255, zi_256, zi_300, zi_398, zi_406, zi_900, zi_1000, zi_1024, zi_1624, zi_1662, zi_2030, zi_2031, zi_2068, zi_2258, zi_9999, zi_48, zi_57, zi_65536, zi_3257, zi_11483, zi_1000000, zi_729, zi_81, zi_m1, nI_add, pk_mul, nI_ltI, nI_leI, nI_eq, nI_clamp, zn_in, zn_sub1lt, zn_M, zn_Ml, zn_Mg, zn_Mle, zn_Mge, zn_sub, Nat.reduceAdd, Nat.reduceMul, forall_eq, true_imp_iff, false_imp_iff, and_true, true_and, not_true_eq_false, not_false_eq_true, reduceCtorEq, imp_self, eq_self, false_and, and_false, implies_true]
    refine sm_kn hN h hs hP (by omega) ?_
    simp (disch := omega) only [zi_0, zi_1, zi_2, zi_3, zi_4, zi_5, zi_6, zi_7, zi_8, zi_9, zi_10, zi_11, zi_12, zi_13, zi_14, zi_15, zi_16, zi_17, zi_18, zi_19, zi_20, zi_21, zi_22, zi_23, zi_24, zi_25, zi_26, zi_30, zi_31, zi_32, zi_34, zi_38, zi_59, zi_60, zi_61, zi_63, zi_64, zi_80, zi_96, zi_97, zi_99, zi_100, zi_122, zi_255, zi_256, zi_300, zi_398, zi_406, zi_900, zi_1000, zi_1024, zi_1624, zi_1662, zi_2030, zi_2031, zi_2068, zi_2258, zi_9999, zi_48, zi_57, zi_65536, zi_3257, zi_11483, zi_1000000, zi_729, zi_81, zi_m1, nI_add, pk_mul, nI_ltI, nI_leI, nI_eq, nI_clamp, zn_in, zn_sub1lt, zn_M, zn_Ml, zn_Mg, zn_Mle, zn_Mge, zn_sub, Nat.reduceAdd, Nat.reduceMul]
    rw [kn_rn] at K
    refine ⟨fun g => ?_, fun g => ?_⟩
    · refine sm_tell hN h hs hP (by omega) (fun I1 h1 f1 => ?_)
      rw [if_neg (fun e => e g)] at K
      refine ⟨fun g2 => ?_, fun g2 => ?_⟩
      · rw [if_neg (by rw [g2]; decide)] at K
        exact (K I1 0 f1).2 rfl
      · rw [if_pos g2] at K
        have := kn_cnt_hear g2
        exact ih _ (r + 1) I1 (by omega) (by omega) h1 (hP.hear _) (fun I2 a f2 => K I2 a (fun r g1 g2 => (f2 r g1 g2).trans (f1 r g1 g2)))
    · rw [if_pos g] at K
      exact (K I r (fun _ _ _ => rfl)).1 rfl
end
