/-! crowd, share: both answer alike -/
theorem zk_mul (a b : Nat) : lN a * lN b = lN (a * b) := (Int64.ofNat_mul a b).symm
def cd (o : Nat) : Nat → Nat → Nat
  | 0, i => if i = 0 then 1 else 0
  | h + 1, i => cd o h i * (16 - o) + (if i = 0 then 0 else cd o h (i - 1) * o)
theorem cd_eq : ∀ o, o < 17 → ∀ h, h < 7 → ∀ i, i < 7 → (h < i → cd o h i = 0) ∧ (i ≤ h → pc_c h i * o ^ i * (16 - o) ^ (h - i) = cd o h i) := by decide +kernel
theorem cd_le : ∀ o, o < 17 → ∀ h, h < 7 → ∀ i, i < 7 → cd o h i ≤ 16777216 := by decide +kernel
theorem p16_le : ∀ h, h < 7 → 16 ^ h ≤ 16777216 ∧ 1 ≤ 16 ^ h := by decide +kernel
theorem zsum_stop {f : Nat → Nat} {a : Nat} : ∀ {n : Nat}, a ≤ n → (∀ i, a ≤ i → i < n → f i = 0) → zsum f n = zsum f a
  | 0, h, _ => by rw [show a = 0 by omega]
  | n + 1, h, h0 => by
    rcases Nat.lt_or_ge n a with g | g
    · rw [show a = n + 1 by omega]
    · rw [zsum, h0 n g (by omega), Nat.add_zero]
      exact zsum_stop g (fun i h1 h2 => h0 i h1 (by omega))
section
variable {q : Nat → Nat} {c d : Nat} {I I1 I2 : am_TI} {L L1 L2 : am_TL} {R : am_TR}
theorem su_power {b t : Nat} (hb : b < 2 ^ 31) (ht : t < 100) {Q : Int64 → Prop} (k : Q (lN (b ^ t))) : wp_U_power I L R (nI b) (nI t) Q := by
  refine zl_up (P := fun f m => wl_U_power_5 I L R (nI b) (nI t) Q f (lN (b ^ m)) (nI m)) t (fun f => ?_) (fun f m hm ih => ?_) 0 (by omega)
  · simp (disch := omega) only [wl_U_power_5, zi_0, zi_1, zi_2, zi_3, zi_4, zi_5, zi_6, zi_7, zi_8, zi_9, zi_10, zi_11, zi_12, zi_13, zi_14, zi_15, zi_16, zi_17, zi_18, zi_19, zi_20, zi_21, zi_22, zi_23, zi_24, zi_25, zi_26, zi_30, zi_31, zi_32, zi_34, zi_38, zi_59, zi_60, zi_61, zi_63, zi_64, zi_80, zi_96, zi_97, zi_99, zi_100, zi_122, zi_255, zi_256, zi_300, zi_398, zi_406, zi_900, zi_1000, zi_1024, zi_1624, zi_1662, zi_2030, zi_2031, zi_2068, zi_2258, zi_9999, zi_48, zi_57, zi_65536, zi_3257, zi_11483, zi_1000000, zi_729, zi_81, zi_m1, nI_add, pk_mul, nI_ltI, nI_leI, nI_eq, nI_clamp, zn_in, zn_sub1lt, zn_M, zn_Ml, zn_Mg, zn_Mle, zn_Mge, zn_sub, Nat.reduceAdd, Nat.reduceMul]
    exact ⟨fun _ => k, fun g => absurd (Nat.le_refl _) g⟩
  · rw [Nat.pow_succ, ← zk_mul] at ih
    simp (disch := omega) only [wl_U_power_5, nI_l, zi_0, zi_1, zi_2, zi_3, zi_4, zi_5, zi_6, zi_7, zi_8, zi_9, zi_10, zi_11, zi_12, zi_13, zi_14, zi_15, zi_16, zi_17, zi_18, zi_19, zi_20, zi_21, zi_22, zi_23, zi_24, zi_25, zi_26, zi_30, zi_31, zi_32, zi_34, zi_38, zi_59, zi_60, zi_61, zi_63, zi_64, zi_80, zi_96, zi_97, zi_99, zi_100, zi_122, zi_255, zi_256, zi_300, zi_398, zi_406, zi_900, zi_1000, zi_1024, zi_1624, zi_1662, zi_2030, zi_2031, zi_2068, zi_2258, zi_9999, zi_48, zi_57, zi_65536, zi_3257, zi_11483, zi_1000000, zi_729, zi_81, zi_m1, nI_add, pk_mul, nI_ltI, nI_leI, nI_eq, nI_clamp, zn_in, zn_sub1lt, zn_M, zn_Ml, zn_Mg, zn_Mle, zn_Mge, zn_sub, Nat.reduceAdd, Nat.reduceMul]
    exact ⟨fun g => absurd g (by omega), fun _ => ih⟩
/-- those from k on -/
def cd_f (o h k i : Nat) : Nat := if k ≤ i then cd o h i else 0
theorem cd_f0 (o h k : Nat) : zsum (cd_f o h k) k = 0 := zsum_0 (fun i hi => by unfold cd_f; rw [if_neg (by omega)])
theorem su_crowd (h : sq_U q c d I L) (hc : am_rd R 0 11 = c) (ok : sq_Ok q) {k : Nat} (hk : k ≤ 6) {Q : Bool → am_TI → am_TL → Prop} (kk : wp_U_tellFraction I L R 0 (lN (zsum (cd_f (q 5) (q 3) k) 7)) (lN (16 ^ q 3)) (fun L1 => wp_U_settled I L1 R 0 0 (fun r3 I1 => Q r3 I1 L1))) : ∃ z, wl_U_crowd_29 R 0 (nI k) Q z I L (nI (q 3)) 0 (nI k) := by
  have o := ok.1.2.2.1
  have N7 : max k (q 3 + 1) ≤ 7 := by omega
  have e7 : zsum (cd_f (q 5) (q 3) k) 7 = zsum (cd_f (q 5) (q 3) k) (max k (q 3 + 1)) := zsum_stop N7 (fun i h1 h2 => by
    unfold cd_f
    rw [(cd_eq (q 5) (by omega) (q 3) (by omega) i (by omega)).1 (by omega), ite_self])
  rw [e7] at kk
  have st := zl_up (P := fun f m => k ≤ m → wl_U_crowd_29 R 0 (nI k) Q f I L (nI (q 3)) (lN (zsum (cd_f (q 5) (q 3) k) m)) (nI m)) (max k (q 3 + 1)) (fun f _ => by
    rw [wl_U_crowd_29]
    simp (disch := omega) only [zi_0, zi_1, zi_2, zi_3, zi_4, zi_5, zi_6, zi_7, zi_8, zi_9, zi_10, zi_11, zi_12, zi_13, zi_14, zi_15, zi_16, zi_17, zi_18, zi_19, zi_20, zi_21, zi_22, zi_23, zi_24, zi_25, zi_26, zi_30, zi_31, zi_32, zi_34, zi_38, zi_59, zi_60, zi_61, zi_63, zi_64, zi_80, zi_96, zi_97, zi_99, zi_100, zi_122, zi_255, zi_256, zi_300, zi_398, zi_406, zi_900, zi_1000, zi_1024, zi_1624, zi_1662, zi_2030, zi_2031, zi_2068, zi_2258, zi_9999, zi_48, zi_57, zi_65536, zi_3257, zi_11483, zi_1000000, zi_729, zi_81, zi_m1, nI_add, pk_mul, nI_ltI, nI_leI, nI_eq, nI_clamp, zn_in, zn_sub1lt, zn_M, zn_Ml, zn_Mg, zn_Mle, zn_Mge, zn_sub, Nat.reduceAdd, Nat.reduceMul]
    exact ⟨fun _ => su_power (by omega) (by omega) kk, fun g => absurd (by omega) g⟩) (fun f m hm ih hkm => by
    have i2 := ih (by omega)
    rw [zsum, cd_f, if_pos hkm, ← (cd_eq (q 5) (by omega) (q 3) (by omega) m (by omega)).2 (by omega), ← zk_add, ← zk_mul, ← zk_mul] at i2
    rw [wl_U_crowd_29]
    simp (disch := omega) only [hc, h.n5, zi_0, zi_1, zi_2, zi_3, zi_4, zi_5, zi_6, zi_7, zi_8, zi_9, zi_10, zi_11, zi_12, zi_13, zi_14, zi_15, zi_16, zi_17, zi_18, zi_19, zi_20, zi_21, zi_22, zi_23, zi_24, zi_25, zi_26, zi_30, zi_31, zi_32, zi_34, zi_38, zi_59, zi_60, zi_61, zi_63, zi_64, zi_80, zi_96, zi_97, zi_99, zi_100, zi_122, zi_255, zi_256, zi_300, zi_398, zi_406, zi_900, zi_1000, zi_1024, zi_1624, zi_1662, zi_2030, zi_2031, zi_2068, zi_2258, zi_9999, zi_48, zi_57, zi_65536, zi_3257, zi_11483, zi_1000000, zi_729, zi_81, zi_m1, nI_add, pk_mul, nI_ltI, nI_leI, nI_eq, nI_clamp, zn_in, zn_sub1lt, zn_M, zn_Ml, zn_Mg, zn_Mle, zn_Mge, zn_sub, Nat.reduceAdd, Nat.reduceMul]
    refine ⟨fun g => absurd g (by omega), fun _ => su_choose (Or.inr ⟨by omega, by omega⟩) (su_power (by omega) (by omega) (su_power (by omega) (by omega) ?_))⟩
    have pl : pc_c (q 3) m < 2 ^ 31 := by
      have : ∀ a, a < 7 → ∀ b, b < 7 → pc_c a b ≤ 20 := by decide +kernel
      have := this (q 3) (by omega) m (by omega)
      omega
    rw [nI_l pl]
    exact i2) k (by omega)
  rw [cd_f0] at st
  exact st.elim fun z hz => ⟨z, hz (Nat.le_refl _)⟩
theorem sm_crowd (h : sq_M q 0 I L) (ok : sq_Ok q) {k : Nat} (hk : k ≤ 6) {Q : Bool → am_TI → am_TL → Prop} (kk : ∀ L1, (∀ r, r ≠ 129 → L1 r = L r) → wp_M_tellsBy I L1 R 103 (lN (zsum (cd_f (q 5) (q 3) k) 7)) (lN (16 ^ q 3)) (fun r2 I1 L2 => Q r2 I1 L2)) : ∃ z, wl_M_crowd_23 R 103 (nI k) Q z I L 1 0 := by
  have o := ok.1.2.2.1
  have tail : ∀ L1, (∀ j, j < 7 → L1 129 j = lN (cd (q 5) (q 3) j)) → (∀ r, r ≠ 129 → L1 r = L r) → ∃ z, wl_M_crowd_152 R 103 (nI k) Q z I L1 (lN (16 ^ q 3)) 0 (nI k) := by
    intro L1 a e
    have st := zl_up (P := fun f m => k ≤ m → wl_M_crowd_152 R 103 (nI k) Q f I L1 (lN (16 ^ q 3)) (lN (zsum (cd_f (q 5) (q 3) k) m)) (nI m)) 7 (fun f _ => by
      rw [wl_M_crowd_152]
      simp (disch := omega) only [zi_0, zi_1, zi_2, zi_3, zi_4, zi_5, zi_6, zi_7, zi_8, zi_9, zi_10, zi_11, zi_12, zi_13, zi_14, zi_15, zi_16, zi_17, zi_18, zi_19, zi_20, zi_21, zi_22, zi_23, zi_24, zi_25, zi_26, zi_30, zi_31, zi_32, zi_34, zi_38, zi_59, zi_60, zi_61, zi_63, zi_64, zi_80, zi_96, zi_97, zi_99, zi_100, zi_122, zi_255, zi_256, zi_300, zi_398, zi_406, zi_900, zi_1000, zi_1024, zi_1624, zi_1662, zi_2030, zi_2031, zi_2068, zi_2258, zi_9999, zi_48, zi_57, zi_65536, zi_3257, zi_11483, zi_1000000, zi_729, zi_81, zi_m1, nI_add, pk_mul, nI_ltI, nI_leI, nI_eq, nI_clamp, zn_in, zn_sub1lt, zn_M, zn_Ml, zn_Mg, zn_Mle, zn_Mge, zn_sub, Nat.reduceAdd, Nat.reduceMul]
      exact ⟨fun _ => kk L1 e, fun g => absurd (Nat.le_refl _) g⟩) (fun f m hm ih hkm => by
      have i2 := ih (by omega)
      rw [zsum, cd_f, if_pos hkm, ← zk_add] at i2
      rw [wl_M_crowd_152]
      simp (disch := omega) only [a m hm, zi_0, zi_1, zi_2, zi_3, zi_4, zi_5, zi_6, zi_7, zi_8, zi_9, zi_10, zi_11, zi_12, zi_13, zi_14, zi_15, zi_16, zi_17, zi_18, zi_19, zi_20, zi_21, zi_22, zi_23, zi_24, zi_25, zi_26, zi_30, zi_31, zi_32, zi_34, zi_38, zi_59, zi_60, zi_61, zi_63, zi_64, zi_80, zi_96, zi_97, zi_99, zi_100, zi_122, zi_255, zi_256, zi_300, zi_398, zi_406, zi_900, zi_1000, zi_1024, zi_1624, zi_1662, zi_2030, zi_2031, zi_2068, zi_2258, zi_9999, zi_48, zi_57, zi_65536, zi_3257, zi_11483, zi_1000000, zi_729, zi_81, zi_m1, nI_add, pk_mul, nI_ltI, nI_leI, nI_eq, nI_clamp, zn_in, zn_sub1lt, zn_M, zn_Ml, zn_Mg, zn_Mle, zn_Mge, zn_sub, Nat.reduceAdd, Nat.reduceMul]
      exact ⟨fun g => absurd g (by omega), fun _ => ⟨hm, i2⟩⟩) k (by omega)
    rw [cd_f0] at st
    exact st.elim fun z hz => ⟨z, hz (Nat.le_refl _)⟩
  have inner : ∀ x, x < q 3 → ∀ K : am_TI → am_TL → Int64 → Int32 → Prop, (∀ L2, (∀ j, j < 7 → L2 129 j = lN (cd (q 5) (x + 1) j)) → (∀ r, r ≠ 129 → L2 r = L r) → K I L2 (lN (16 ^ (x + 1))) (nI (x + 1))) → ∀ i, i < 7 → ∀ L1, (∀ j, j ≤ i → L1 129 j = lN (cd (q 5) x j)) → (∀ j, i < j → j < 7 → L1 129 j = lN (cd (q 5) (x + 1) j)) → (∀ r, r ≠ 129 → L1 r = L r) → wl_M_crowd_71 R 103 (nI k) Q K (i + 2) I L1 (lN (16 ^ x)) (nI x) (nI i) := by
    intro x hx K hK i
    induction i with
    | zero =>
      intro _ L1 a b e
      have c0 : lN (cd (q 5) x 0) * lN (16 - q 5) = lN (cd (q 5) (x + 1) 0) := by
        rw [zk_mul, cd, if_pos rfl]; rfl
      rw [wl_M_crowd_71]
      simp (disch := omega) only [h.n5, a 0 (Nat.le_refl _), nI_l, zi_0, zi_1, zi_2, zi_3, zi_4, zi_5, zi_6, zi_7, zi_8, zi_9, zi_10, zi_11, zi_12, zi_13, zi_14, zi_15, zi_16, zi_17, zi_18, zi_19, zi_20, zi_21, zi_22, zi_23, zi_24, zi_25, zi_26, zi_30, zi_31, zi_32, zi_34, zi_38, zi_59, zi_60, zi_61, zi_63, zi_64, zi_80, zi_96, zi_97, zi_99, zi_100, zi_122, zi_255, zi_256, zi_300, zi_398, zi_406, zi_900, zi_1000, zi_1024, zi_1624, zi_1662, zi_2030, zi_2031, zi_2068, zi_2258, zi_9999, zi_48, zi_57, zi_65536, zi_3257, zi_11483, zi_1000000, zi_729, zi_81, zi_m1, nI_add, pk_mul, nI_ltI, nI_leI, nI_eq, nI_clamp, zn_in, zn_sub1lt, zn_M, zn_Ml, zn_Mg, zn_Mle, zn_Mge, zn_sub, Nat.reduceAdd, Nat.reduceMul]
      refine ⟨fun g => absurd g (by omega), fun _ => ⟨by omega, fun _ => ⟨by omega, fun L3 h3 => ?_⟩, fun g => absurd trivial g⟩⟩
      rw [wl_M_crowd_71]
      refine ⟨fun _ => ?_, fun g => absurd (by decide) g⟩
      have r1 : lN (16 ^ x) * 16 = lN (16 ^ (x + 1)) := by rw [Nat.pow_succ, ← zk_mul]; rfl
      have r2 : nI x + 1 = nI (x + 1) := nI_add x 1
      rw [r1, r2]
      refine hK L3 (fun j hj => ?_) (fun r hr => by rw [h3, am_u2_row _ _ _ _ hr]; exact e r hr)
      rw [h3]
      by_cases ej : j = 0
      · subst ej
        rw [am_u2_at, c0]; exact Int64.add_zero _
      · rw [am_u2_ne _ _ _ _ ej]; exact b j (by omega) hj
    | succ i ih =>
      intro hi L1 a b e
      have c0 : lN (cd (q 5) x (i + 1)) * lN (16 - q 5) + lN (cd (q 5) x i) * lN (q 5) = lN (cd (q 5) (x + 1) (i + 1)) := by
        rw [zk_mul, zk_mul, zk_add, cd, if_neg (by omega), Nat.add_sub_cancel]
      rw [wl_M_crowd_71]
      simp (disch := omega) only [h.n5, a (i + 1) (Nat.le_refl _), a i (by omega), Nat.add_sub_cancel, nI_l, zi_0, zi_1, zi_2, zi_3, zi_4, zi_5, zi_6, zi_7, zi_8, zi_9, zi_10, zi_11, zi_12, zi_13, zi_14, zi_15, zi_16, zi_17, zi_18, zi_19, zi_20, zi_21, zi_22, zi_23, zi_24, zi_25, zi_26, zi_30, zi_31, zi_32, zi_34, zi_38, zi_59, zi_60, zi_61, zi_63, zi_64, zi_80, zi_96, zi_97, zi_99, zi_100, zi_122, zi_255, zi_256, zi_300, zi_398, zi_406, zi_900, zi_1000, zi_1024, zi_1624, zi_1662, zi_2030, zi_2031, zi_2068, zi_2258, zi_9999, zi_48, zi_57, zi_65536, zi_3257, zi_11483, zi_1000000, zi_729, zi_81, zi_m1, nI_add, pk_mul, nI_ltI, nI_leI, nI_eq, nI_clamp, zn_in, zn_sub1lt, zn_M, zn_Ml, zn_Mg, zn_Mle, zn_Mge, zn_sub, Nat.reduceAdd, Nat.reduceMul]
      refine ⟨fun g => absurd g (by omega), fun _ => ⟨by omega, fun g => absurd g (by omega), fun _ => ⟨by omega, by omega, fun L3 h3 => ?_⟩⟩⟩
      have r2 : nI (i + 1) + nM = nI i := pk_m1 i
      rw [r2]
      refine ih (by omega) L3 (fun j hj => ?_) (fun j h1 h2 => ?_) (fun r hr => by rw [h3, am_u2_row _ _ _ _ hr]; exact e r hr)
      · rw [h3, am_u2_ne _ _ _ _ (by omega)]; exact a j (by omega)
      · rw [h3]
        by_cases ej : j = i + 1
        · subst ej; rw [am_u2_at, c0]
        · rw [am_u2_ne _ _ _ _ ej]; exact b j (by omega) h2
  refine (zl_up (P := fun f m => ∀ L1, (∀ j, j < m → L1 129 j = lN (cd (q 5) 0 j)) → (∀ r, r ≠ 129 → L1 r = L r) → wl_M_crowd_23 R 103 (nI k) Q f I L1 1 (nI m)) 7 (fun f L1 a e => ?_) (fun f m hm ih L1 a e => ?_) 0 (by omega)).elim fun z hz => ⟨z, hz L (fun j hj => absurd hj (by omega)) (fun _ _ => rfl)⟩
  · rw [wl_M_crowd_23]
    simp (disch := omega) only [zi_0, zi_1, zi_2, zi_3, zi_4, zi_5, zi_6, zi_7, zi_8, zi_9, zi_10, zi_11, zi_12, zi_13, zi_14, zi_15, zi_16, zi_17, zi_18, zi_19, zi_20, zi_21, zi_22, zi_23, zi_24, zi_25, zi_26, zi_30, zi_31, zi_32, zi_34, zi_38, zi_59, zi_60, zi_61, zi_63, zi_64, zi_80, zi_96, zi_97, zi_99, zi_100, zi_122, zi_255, zi_256, zi_300, zi_398, zi_406, zi_900, zi_1000, zi_1024, zi_1624, zi_1662, zi_2030, zi_2031, zi_2068, zi_2258, zi_9999, zi_48, zi_57, zi_65536, zi_3257, zi_11483, zi_1000000, zi_729, zi_81, zi_m1, nI_add, pk_mul, nI_ltI, nI_leI, nI_eq, nI_clamp, zn_in, zn_sub1lt, zn_M, zn_Ml, zn_Mg, zn_Mle, zn_Mge, zn_sub, Nat.reduceAdd, Nat.reduceMul]
    refine ⟨fun _ => ?_, fun g => absurd (Nat.le_refl _) g⟩
    refine (zl_up (P := fun f x => ∀ L1, (∀ j, j < 7 → L1 129 j = lN (cd (q 5) x j)) → (∀ r, r ≠ 129 → L1 r = L r) → wl_M_crowd_56 R 103 (nI k) Q f I L1 (lN (16 ^ x)) (nI x)) (q 3) (fun f L1 a e => ?_) (fun f x hx ih L1 a e => ?_) 0 (by omega)).elim fun z hz => ⟨z, hz L1 a e⟩
    · rw [wl_M_crowd_56]
      simp (disch := omega) only [h.n3, zi_0, zi_1, zi_2, zi_3, zi_4, zi_5, zi_6, zi_7, zi_8, zi_9, zi_10, zi_11, zi_12, zi_13, zi_14, zi_15, zi_16, zi_17, zi_18, zi_19, zi_20, zi_21, zi_22, zi_23, zi_24, zi_25, zi_26, zi_30, zi_31, zi_32, zi_34, zi_38, zi_59, zi_60, zi_61, zi_63, zi_64, zi_80, zi_96, zi_97, zi_99, zi_100, zi_122, zi_255, zi_256, zi_300, zi_398, zi_406, zi_900, zi_1000, zi_1024, zi_1624, zi_1662, zi_2030, zi_2031, zi_2068, zi_2258, zi_9999, zi_48, zi_57, zi_65536, zi_3257, zi_11483, zi_1000000, zi_729, zi_81, zi_m1, nI_add, pk_mul, nI_ltI, nI_leI, nI_eq, nI_clamp, zn_in, zn_sub1lt, zn_M, zn_Ml, zn_Mg, zn_Mle, zn_Mge, zn_sub, Nat.reduceAdd, Nat.reduceMul]
      exact ⟨fun _ => tail L1 a e, fun g => absurd (Nat.le_refl _) g⟩
    · rw [wl_M_crowd_56]
      simp (disch := omega) only [h.n3, zi_0, zi_1, zi_2, zi_3, zi_4, zi_5, zi_6, zi_7, zi_8, zi_9, zi_10, zi_11, zi_12, zi_13, zi_14, zi_15, zi_16, zi_17, zi_18, zi_19, zi_20, zi_21, zi_22, zi_23, zi_24, zi_25, zi_26, zi_30, zi_31, zi_32, zi_34, zi_38, zi_59, zi_60, zi_61, zi_63, zi_64, zi_80, zi_96, zi_97, zi_99, zi_100, zi_122, zi_255, zi_256, zi_300, zi_398, zi_406, zi_900, zi_1000, zi_1024, zi_1624, zi_1662, zi_2030, zi_2031, zi_2068, zi_2258, zi_9999, zi_48, zi_57, zi_65536, zi_3257, zi_11483, zi_1000000, zi_729, zi_81, zi_m1, nI_add, pk_mul, nI_ltI, nI_leI, nI_eq, nI_clamp, zn_in, zn_sub1lt, zn_M, zn_Ml, zn_Mg, zn_Mle, zn_Mge, zn_sub, Nat.reduceAdd, Nat.reduceMul]
      exact ⟨fun g => absurd g (by omega), fun _ => ⟨_, inner x hx _ (fun L2 a2 e2 => ih L2 a2 e2) 6 (by omega) L1 (fun j hj => a j (by omega)) (fun j h1 h2 => absurd h1 (by omega)) e⟩⟩
  · have nx : ∀ v : Int64, v = lN (cd (q 5) 0 m) → wl_M_crowd_23 R 103 (nI k) Q f I (am_u2 L1 129 m v) 1 (nI (m + 1)) := by
      intro v hv
      refine ih _ (fun j hj => ?_) (fun r hr => by rw [am_u2_row _ _ _ _ hr]; exact e r hr)
      by_cases ej : j = m
      · subst ej; rw [am_u2_at, hv]
      · rw [am_u2_ne _ _ _ _ ej]; exact a j (by omega)
    rw [wl_M_crowd_23]
    simp (disch := omega) only [zi_0, zi_1, zi_2, zi_3, zi_4, zi_5, zi_6, zi_7, zi_8, zi_9, zi_10, zi_11, zi_12, zi_13, zi_14, zi_15, zi_16, zi_17, zi_18, zi_19, zi_20, zi_21, zi_22, zi_23, zi_24, zi_25, zi_26, zi_30, zi_31, zi_32, zi_34, zi_38, zi_59, zi_60, zi_61, zi_63, zi_64, zi_80, zi_96, zi_97, zi_99, zi_100, zi_122, zi_255, zi_256, zi_300, zi_398, zi_406, zi_900, zi_1000, zi_1024, zi_1624, zi_1662, zi_2030, zi_2031, zi_2068, zi_2258, zi_9999, zi_48, zi_57, zi_65536, zi_3257, zi_11483, zi_1000000, zi_729, zi_81, zi_m1, nI_add, pk_mul, nI_ltI, nI_leI, nI_eq, nI_clamp, zn_in, zn_sub1lt, zn_M, zn_Ml, zn_Mg, zn_Mle, zn_Mge, zn_sub, Nat.reduceAdd, Nat.reduceMul]
    refine ⟨fun g => absurd g (by omega), fun _ => ⟨fun g => ⟨by omega, fun L3 h3 => ?_⟩, fun g => ⟨by omega, fun L3 h3 => ?_⟩⟩⟩
    · rw [h3]; exact nx _ (by rw [g]; rfl)
    · rw [h3]; exact nx _ (by rw [cd, if_neg g]; rfl)
theorem op_crowd (ok : sq_Ok q) (T B : Int64) (p1 : Int32) : si_T q T B (fun I L R Q => wp_U_crowd I L R 0 p1 Q) (fun I L R Q => wp_M_crowd I L R 103 p1 Q) := by
  have o := ok.1.2.2.1
  rcases zc p1 with hp | ⟨k, hk, rfl⟩
  · refine ⟨false, 1, q, T, B, ok, ?_, ?_⟩
    · intro c d I L R hcd h hc hd hz hT hB Q K
      simp (disch := omega) only [wp_U_crowd, wp_U_within, wp_U_settled, hc, h.n3, hp, zi_0, zi_1, zi_2, zi_3, zi_4, zi_5, zi_6, zi_7, zi_8, zi_9, zi_10, zi_11, zi_12, zi_13, zi_14, zi_15, zi_16, zi_17, zi_18, zi_19, zi_20, zi_21, zi_22, zi_23, zi_24, zi_25, zi_26, zi_30, zi_31, zi_32, zi_34, zi_38, zi_59, zi_60, zi_61, zi_63, zi_64, zi_80, zi_96, zi_97, zi_99, zi_100, zi_122, zi_255, zi_256, zi_300, zi_398, zi_406, zi_900, zi_1000, zi_1024, zi_1624, zi_1662, zi_2030, zi_2031, zi_2068, zi_2258, zi_9999, zi_48, zi_57, zi_65536, zi_3257, zi_11483, zi_1000000, zi_729, zi_81, zi_m1, nI_add, pk_mul, nI_ltI, nI_leI, nI_eq, nI_clamp, zn_in, zn_sub1lt, zn_M, zn_Ml, zn_Mg, zn_Mle, zn_Mge, zn_sub, Nat.reduceAdd, Nat.reduceMul, forall_eq, true_imp_iff, false_imp_iff, and_true, true_and, not_true_eq_false, not_false_eq_true, reduceCtorEq, imp_self, eq_self, false_and, and_false, implies_true]
      all_goals exact K _ _ (pt_U.q0 h hcd hT hB _)
    · intro I L R h hT hB Q K
      simp (disch := omega) only [wp_M_crowd, wp_M_isFrom, wp_M_is, zj_0, zj_1, zj_2, zj_4, zj_6, zj_7, zj_8, zj_16, zj_20, zj_60, zj_63, zj_64, zj_99, zj_9999, nI_l, zk_lt, zk_le, zk_eq, zk_add, zk_in, hp, zc_e hp, zf_n hp, zi_0, zi_1, zi_2, zi_3, zi_4, zi_5, zi_6, zi_7, zi_8, zi_9, zi_10, zi_11, zi_12, zi_13, zi_14, zi_15, zi_16, zi_17, zi_18, zi_19, zi_20, zi_21, zi_22, zi_23, zi_24, zi_25, zi_26, zi_30, zi_31, zi_32, zi_34, zi_38, zi_59, zi_60, zi_61, zi_63, zi_64, zi_80, zi_96, zi_97, zi_99, zi_100, zi_122, zi_255, zi_256, zi_300, zi_398, zi_406, zi_900, zi_1000, zi_1024, zi_1624, zi_1662, zi_2030, zi_2031, zi_2068, zi_2258, zi_9999, zi_48, zi_57, zi_65536, zi_3257, zi_11483, zi_1000000, zi_729, zi_81, zi_m1, nI_add, pk_mul, nI_ltI, nI_leI, nI_eq, nI_clamp, zn_in, zn_sub1lt, zn_M, zn_Ml, zn_Mg, zn_Mle, zn_Mge, zn_sub, Nat.reduceAdd, Nat.reduceMul, forall_eq, true_imp_iff, false_imp_iff, and_true, true_and, not_true_eq_false, not_false_eq_true, reduceCtorEq, imp_self, eq_self, false_and, and_false, implies_true]
      all_goals exact K _ _ (pt_M.q0 h ok hT hB _)
  by_cases g : 6 < k
  · refine ⟨false, 1, q, T, B, ok, ?_, ?_⟩
    · intro c d I L R hcd h hc hd hz hT hB Q K
      simp (disch := omega) only [wp_U_crowd, wp_U_within, wp_U_settled, hc, h.n3, zi_0, zi_1, zi_2, zi_3, zi_4, zi_5, zi_6, zi_7, zi_8, zi_9, zi_10, zi_11, zi_12, zi_13, zi_14, zi_15, zi_16, zi_17, zi_18, zi_19, zi_20, zi_21, zi_22, zi_23, zi_24, zi_25, zi_26, zi_30, zi_31, zi_32, zi_34, zi_38, zi_59, zi_60, zi_61, zi_63, zi_64, zi_80, zi_96, zi_97, zi_99, zi_100, zi_122, zi_255, zi_256, zi_300, zi_398, zi_406, zi_900, zi_1000, zi_1024, zi_1624, zi_1662, zi_2030, zi_2031, zi_2068, zi_2258, zi_9999, zi_48, zi_57, zi_65536, zi_3257, zi_11483, zi_1000000, zi_729, zi_81, zi_m1, nI_add, pk_mul, nI_ltI, nI_leI, nI_eq, nI_clamp, zn_in, zn_sub1lt, zn_M, zn_Ml, zn_Mg, zn_Mle, zn_Mge, zn_sub, Nat.reduceAdd, Nat.reduceMul, forall_eq, true_imp_iff, false_imp_iff, and_true, true_and, not_true_eq_false, not_false_eq_true, reduceCtorEq, imp_self, eq_self, false_and, and_false, implies_true]
      repeat' (first | omega | with_reducible refine And.intro ?_ ?_ | with_reducible intro g)
      all_goals exact K _ _ (pt_U.q0 h hcd hT hB _)
    · intro I L R h hT hB Q K
      simp (disch := omega) only [wp_M_crowd, wp_M_isFrom, wp_M_is, zj_0, zj_1, zj_2, zj_4, zj_6, zj_7, zj_8, zj_16, zj_20, zj_60, zj_63, zj_64, zj_99, zj_9999, nI_l, zk_lt, zk_le, zk_eq, zk_add, zk_in, zi_0, zi_1, zi_2, zi_3, zi_4, zi_5, zi_6, zi_7, zi_8, zi_9, zi_10, zi_11, zi_12, zi_13, zi_14, zi_15, zi_16, zi_17, zi_18, zi_19, zi_20, zi_21, zi_22, zi_23, zi_24, zi_25, zi_26, zi_30, zi_31, zi_32, zi_34, zi_38, zi_59, zi_60, zi_61, zi_63, zi_64, zi_80, zi_96, zi_97, zi_99, zi_100, zi_122, zi_255, zi_256, zi_300, zi_398, zi_406, zi_900, zi_1000, zi_1024, zi_1624, zi_1662, zi_2030, zi_2031, zi_2068, zi_2258, zi_9999, zi_48, zi_57, zi_65536, zi_3257, zi_11483, zi_1000000, zi_729, zi_81, zi_m1, nI_add, pk_mul, nI_ltI, nI_leI, nI_eq, nI_clamp, zn_in, zn_sub1lt, zn_M, zn_Ml, zn_Mg, zn_Mle, zn_Mge, zn_sub, Nat.reduceAdd, Nat.reduceMul, forall_eq, true_imp_iff, false_imp_iff, and_true, true_and, not_true_eq_false, not_false_eq_true, reduceCtorEq, imp_self, eq_self, false_and, and_false, implies_true]
      repeat' (first | omega | with_reducible refine And.intro ?_ ?_ | with_reducible intro g)
      all_goals exact K _ _ (pt_M.q0 h ok hT hB _)
  have yl := p16_le (q 3) (by omega)
  have xl : zsum (cd_f (q 5) (q 3) k) 7 < 2 ^ 40 := by
    have := zsum_le (n := 7) (b := 16777216) (f := cd_f (q 5) (q 3) k) (fun i hi => by
      unfold cd_f
      split
      · exact cd_le (q 5) (by omega) (q 3) (by omega) i hi
      · omega)
    omega
  generalize hX : zsum (cd_f (q 5) (q 3) k) 7 = X at *
  generalize hY : 16 ^ q 3 = Y at *
  refine ⟨true, 0, q, lN X / lN (Nat.gcd X Y), lN Y / lN (Nat.gcd X Y), ok, ?_, ?_⟩
  · intro c d I L R hcd h hc hd hz hT hB Q K
    simp (disch := omega) only [wp_U_crowd, wp_U_within, wp_U_settled, hc, h.n3, zi_0, zi_1, zi_2, zi_3, zi_4, zi_5, zi_6, zi_7, zi_8, zi_9, zi_10, zi_11, zi_12, zi_13, zi_14, zi_15, zi_16, zi_17, zi_18, zi_19, zi_20, zi_21, zi_22, zi_23, zi_24, zi_25, zi_26, zi_30, zi_31, zi_32, zi_34, zi_38, zi_59, zi_60, zi_61, zi_63, zi_64, zi_80, zi_96, zi_97, zi_99, zi_100, zi_122, zi_255, zi_256, zi_300, zi_398, zi_406, zi_900, zi_1000, zi_1024, zi_1624, zi_1662, zi_2030, zi_2031, zi_2068, zi_2258, zi_9999, zi_48, zi_57, zi_65536, zi_3257, zi_11483, zi_1000000, zi_729, zi_81, zi_m1, nI_add, pk_mul, nI_ltI, nI_leI, nI_eq, nI_clamp, zn_in, zn_sub1lt, zn_M, zn_Ml, zn_Mg, zn_Mle, zn_Mge, zn_sub, Nat.reduceAdd, Nat.reduceMul, forall_eq, true_imp_iff, false_imp_iff, and_true, true_and, not_true_eq_false, not_false_eq_true, reduceCtorEq, imp_self, eq_self, false_and, and_false, implies_true]
    repeat' (first | omega | with_reducible refine And.intro ?_ ?_ | with_reducible intro g)
    refine su_crowd h hc ok (by omega) ?_
    rw [hX, hY]
    refine su_tellF xl (by omega) (by omega) ?_
    try simp (disch := omega) only [wp_U_settled, zi_0, zi_1, zi_2, zi_3, zi_4, zi_5, zi_6, zi_7, zi_8, zi_9, zi_10, zi_11, zi_12, zi_13, zi_14, zi_15, zi_16, zi_17, zi_18, zi_19, zi_20, zi_21, zi_22, zi_23, zi_24, zi_25, zi_26, zi_30, zi_31, zi_32, zi_34, zi_38, zi_59, zi_60, zi_61, zi_63, zi_64, zi_80, zi_96, zi_97, zi_99, zi_100, zi_122, zi_255, zi_256, zi_300, zi_398, zi_406, zi_900, zi_1000, zi_1024, zi_1624, zi_1662, zi_2030, zi_2031, zi_2068, zi_2258, zi_9999, zi_48, zi_57, zi_65536, zi_3257, zi_11483, zi_1000000, zi_729, zi_81, zi_m1, nI_add, pk_mul, nI_ltI, nI_leI, nI_eq, nI_clamp, zn_in, zn_sub1lt, zn_M, zn_Ml, zn_Mg, zn_Mle, zn_Mge, zn_sub, Nat.reduceAdd, Nat.reduceMul, forall_eq, true_imp_iff, false_imp_iff, and_true, true_and, not_true_eq_false, not_false_eq_true, reduceCtorEq, imp_self, eq_self, false_and, and_false, implies_true]
    have fl : fl_U L (am_u2 (am_u2 L 0 16 (lN X / lN (Nat.gcd X Y))) 0 17 (lN Y / lN (Nat.gcd X Y))) := fun r k a b => by
      unfold am_u2
      rw [if_neg (by omega), if_neg (by omega)]
    exact K _ _ (pt_U.of (fl.sq h hcd) hcd fr_U.rfl (by rw [am_u2_ne _ _ _ _ (by omega), am_u2_at]) (am_u2_at _ _ _ _) fl _)
  · intro I L R h hT hB Q K
    simp (disch := omega) only [wp_M_crowd, wp_M_isFrom, wp_M_is, zj_0, zj_1, zj_2, zj_4, zj_6, zj_7, zj_8, zj_16, zj_20, zj_60, zj_63, zj_64, zj_99, zj_9999, nI_l, zk_lt, zk_le, zk_eq, zk_add, zk_in, zi_0, zi_1, zi_2, zi_3, zi_4, zi_5, zi_6, zi_7, zi_8, zi_9, zi_10, zi_11, zi_12, zi_13, zi_14, zi_15, zi_16, zi_17, zi_18, zi_19, zi_20, zi_21, zi_22, zi_23, zi_24, zi_25, zi_26, zi_30, zi_31, zi_32, zi_34, zi_38, zi_59, zi_60, zi_61, zi_63, zi_64, zi_80, zi_96, zi_97, zi_99, zi_100, zi_122, zi_255, zi_256, zi_300, zi_398, zi_406, zi_900, zi_1000, zi_1024, zi_1624, zi_1662, zi_2030, zi_2031, zi_2068, zi_2258, zi_9999, zi_48, zi_57, zi_65536, zi_3257, zi_11483, zi_1000000, zi_729, zi_81, zi_m1, nI_add, pk_mul, nI_ltI, nI_leI, nI_eq, nI_clamp, zn_in, zn_sub1lt, zn_M, zn_Ml, zn_Mg, zn_Mle, zn_Mge, zn_sub, Nat.reduceAdd, Nat.reduceMul, forall_eq, true_imp_iff, false_imp_iff, and_true, true_and, not_true_eq_false, not_false_eq_true, reduceCtorEq, imp_self, eq_self, false_and, and_false, implies_true]
    repeat' (first | omega | with_reducible refine And.intro ?_ ?_ | with_reducible intro g)
    refine sm_crowd h ok (by omega) (fun L1 e1 => ?_)
    rw [hX, hY]
    refine sm_tellF xl (by omega) (by omega) ?_
    have fl : fl_M L (am_u2 (am_u2 L1 103 3 (lN X / lN (Nat.gcd X Y))) 103 4 (lN Y / lN (Nat.gcd X Y))) := fun r k a b => by
      unfold am_u2
      rw [if_neg (by omega), if_neg (by omega)]
      rw [e1 r a]
    exact K _ _ (pt_M.of (fl.sq h ok) ok fr_M.rfl (by rw [am_u2_ne _ _ _ _ (by omega), am_u2_at]) (am_u2_at _ _ _ _) fl _)
theorem op_share (ok : sq_Ok q) (T B : Int64) (p1 : Int32) : si_T q T B (fun I L R Q => wp_U_share I L R 0 p1 Q) (fun I L R Q => wp_M_share I L R 103 p1 Q) := by
  have o := ok.1.2.2.1
  rcases zc p1 with hp | ⟨j, hj, rfl⟩
  · refine ⟨false, 1, q, T, B, ok, ?_, ?_⟩
    · intro c d I L R hcd h hc hd hz hT hB Q K
      simp (disch := omega) only [wp_U_share, wp_Square_hasHearer, wp_U_within, wp_U_settled, hc, h.n3, hp, zi_0, zi_1, zi_2, zi_3, zi_4, zi_5, zi_6, zi_7, zi_8, zi_9, zi_10, zi_11, zi_12, zi_13, zi_14, zi_15, zi_16, zi_17, zi_18, zi_19, zi_20, zi_21, zi_22, zi_23, zi_24, zi_25, zi_26, zi_30, zi_31, zi_32, zi_34, zi_38, zi_59, zi_60, zi_61, zi_63, zi_64, zi_80, zi_96, zi_97, zi_99, zi_100, zi_122, zi_255, zi_256, zi_300, zi_398, zi_406, zi_900, zi_1000, zi_1024, zi_1624, zi_1662, zi_2030, zi_2031, zi_2068, zi_2258, zi_9999, zi_48, zi_57, zi_65536, zi_3257, zi_11483, zi_1000000, zi_729, zi_81, zi_m1, nI_add, pk_mul, nI_ltI, nI_leI, nI_eq, nI_clamp, zn_in, zn_sub1lt, zn_M, zn_Ml, zn_Mg, zn_Mle, zn_Mge, zn_sub, Nat.reduceAdd, Nat.reduceMul, forall_eq, true_imp_iff, false_imp_iff, and_true, true_and, not_true_eq_false, not_false_eq_true, reduceCtorEq, imp_self, eq_self, false_and, and_false, implies_true]
      all_goals exact K _ _ (pt_U.q0 h hcd hT hB _)
    · intro I L R h hT hB Q K
      simp (disch := omega) only [wp_M_share, wp_M_isHearer, wp_M_is, h.n3, hp, zc_e hp, zf_n hp, zi_0, zi_1, zi_2, zi_3, zi_4, zi_5, zi_6, zi_7, zi_8, zi_9, zi_10, zi_11, zi_12, zi_13, zi_14, zi_15, zi_16, zi_17, zi_18, zi_19, zi_20, zi_21, zi_22, zi_23, zi_24, zi_25, zi_26, zi_30, zi_31, zi_32, zi_34, zi_38, zi_59, zi_60, zi_61, zi_63, zi_64, zi_80, zi_96, zi_97, zi_99, zi_100, zi_122, zi_255, zi_256, zi_300, zi_398, zi_406, zi_900, zi_1000, zi_1024, zi_1624, zi_1662, zi_2030, zi_2031, zi_2068, zi_2258, zi_9999, zi_48, zi_57, zi_65536, zi_3257, zi_11483, zi_1000000, zi_729, zi_81, zi_m1, nI_add, pk_mul, nI_ltI, nI_leI, nI_eq, nI_clamp, zn_in, zn_sub1lt, zn_M, zn_Ml, zn_Mg, zn_Mle, zn_Mge, zn_sub, Nat.reduceAdd, Nat.reduceMul, forall_eq, true_imp_iff, false_imp_iff, and_true, true_and, not_true_eq_false, not_false_eq_true, reduceCtorEq, imp_self, eq_self, false_and, and_false, implies_true]
      all_goals exact K _ _ (pt_M.q0 h ok hT hB _)
  by_cases g : q 3 ≤ j
  · refine ⟨false, 1, q, T, B, ok, ?_, ?_⟩
    · intro c d I L R hcd h hc hd hz hT hB Q K
      simp (disch := omega) only [wp_U_share, wp_Square_hasHearer, wp_U_within, wp_U_settled, hc, h.n3, zi_0, zi_1, zi_2, zi_3, zi_4, zi_5, zi_6, zi_7, zi_8, zi_9, zi_10, zi_11, zi_12, zi_13, zi_14, zi_15, zi_16, zi_17, zi_18, zi_19, zi_20, zi_21, zi_22, zi_23, zi_24, zi_25, zi_26, zi_30, zi_31, zi_32, zi_34, zi_38, zi_59, zi_60, zi_61, zi_63, zi_64, zi_80, zi_96, zi_97, zi_99, zi_100, zi_122, zi_255, zi_256, zi_300, zi_398, zi_406, zi_900, zi_1000, zi_1024, zi_1624, zi_1662, zi_2030, zi_2031, zi_2068, zi_2258, zi_9999, zi_48, zi_57, zi_65536, zi_3257, zi_11483, zi_1000000, zi_729, zi_81, zi_m1, nI_add, pk_mul, nI_ltI, nI_leI, nI_eq, nI_clamp, zn_in, zn_sub1lt, zn_M, zn_Ml, zn_Mg, zn_Mle, zn_Mge, zn_sub, Nat.reduceAdd, Nat.reduceMul, forall_eq, true_imp_iff, false_imp_iff, and_true, true_and, not_true_eq_false, not_false_eq_true, reduceCtorEq, imp_self, eq_self, false_and, and_false, implies_true]
      repeat' (first | omega | with_reducible refine And.intro ?_ ?_ | with_reducible intro g)
      all_goals exact K _ _ (pt_U.q0 h hcd hT hB _)
    · intro I L R h hT hB Q K
      simp (disch := omega) only [wp_M_share, wp_M_isHearer, wp_M_is, h.n3, zi_0, zi_1, zi_2, zi_3, zi_4, zi_5, zi_6, zi_7, zi_8, zi_9, zi_10, zi_11, zi_12, zi_13, zi_14, zi_15, zi_16, zi_17, zi_18, zi_19, zi_20, zi_21, zi_22, zi_23, zi_24, zi_25, zi_26, zi_30, zi_31, zi_32, zi_34, zi_38, zi_59, zi_60, zi_61, zi_63, zi_64, zi_80, zi_96, zi_97, zi_99, zi_100, zi_122, zi_255, zi_256, zi_300, zi_398, zi_406, zi_900, zi_1000, zi_1024, zi_1624, zi_1662, zi_2030, zi_2031, zi_2068, zi_2258, zi_9999, zi_48, zi_57, zi_65536, zi_3257, zi_11483, zi_1000000, zi_729, zi_81, zi_m1, nI_add, pk_mul, nI_ltI, nI_leI, nI_eq, nI_clamp, zn_in, zn_sub1lt, zn_M, zn_Ml, zn_Mg, zn_Mle, zn_Mge, zn_sub, Nat.reduceAdd, Nat.reduceMul, forall_eq, true_imp_iff, false_imp_iff, and_true, true_and, not_true_eq_false, not_false_eq_true, reduceCtorEq, imp_self, eq_self, false_and, and_false, implies_true]
      repeat' (first | omega | with_reducible refine And.intro ?_ ?_ | with_reducible intro g)
      all_goals exact K _ _ (pt_M.q0 h ok hT hB _)
  have hj3 : j < q 3 := by omega
  have X99 := (ok.2.1 j hj3).2.2.1
  have yl : zsum (fun i => q (12 + 4 * i)) (q 3) ≤ 594 := by
    have := zsum_le (n := q 3) (b := 99) (f := fun i => q (12 + 4 * i)) (fun i hi => (ok.2.1 i hi).2.2.1)
    omega
  have yx : q (12 + 4 * j) ≤ zsum (fun i => q (12 + 4 * i)) (q 3) := by
    have : ∀ n, j < n → q (12 + 4 * j) ≤ zsum (fun i => q (12 + 4 * i)) n := by
      intro n
      induction n with
      | zero => intro h; omega
      | succ n ih =>
        intro h
        rw [zsum]
        by_cases e : j = n
        · subst e; omega
        · have := ih (by omega); omega
    exact this _ hj3
  have mc : ∀ {I : am_TI} {L : am_TL} {R : am_TR} {Q : Int32 → Prop}, sq_M q 0 I L → Q (nI (zsum (fun i => q (12 + 4 * i)) (q 3))) → wp_M_allCoins I L R 103 Q := by
    intro I L R Q h k
    refine zl_up (P := fun f m => wl_M_allCoins_4 I L R 103 Q f (nI (zsum (fun i => q (12 + 4 * i)) m)) (nI m)) (q 3) (fun f => ?_) (fun f m hm ih => ?_) 0 (by omega)
    · rw [wl_M_allCoins_4]
      simp (disch := omega) only [h.n3, zi_0, zi_1, zi_2, zi_3, zi_4, zi_5, zi_6, zi_7, zi_8, zi_9, zi_10, zi_11, zi_12, zi_13, zi_14, zi_15, zi_16, zi_17, zi_18, zi_19, zi_20, zi_21, zi_22, zi_23, zi_24, zi_25, zi_26, zi_30, zi_31, zi_32, zi_34, zi_38, zi_59, zi_60, zi_61, zi_63, zi_64, zi_80, zi_96, zi_97, zi_99, zi_100, zi_122, zi_255, zi_256, zi_300, zi_398, zi_406, zi_900, zi_1000, zi_1024, zi_1624, zi_1662, zi_2030, zi_2031, zi_2068, zi_2258, zi_9999, zi_48, zi_57, zi_65536, zi_3257, zi_11483, zi_1000000, zi_729, zi_81, zi_m1, nI_add, pk_mul, nI_ltI, nI_leI, nI_eq, nI_clamp, zn_in, zn_sub1lt, zn_M, zn_Ml, zn_Mg, zn_Mle, zn_Mge, zn_sub, Nat.reduceAdd, Nat.reduceMul]
      exact ⟨fun _ => k, fun g => absurd (Nat.le_refl _) g⟩
    · rw [zsum, ← nI_add] at ih
      rw [wl_M_allCoins_4]
      simp (disch := omega) only [h.n3, zi_0, zi_1, zi_2, nI_leI, Nat.reduceAdd]
      refine ⟨fun g => absurd g (by omega), fun _ => sm_hearerOf h (by omega) (by omega) ?_⟩
      rw [show 10 + 4 * m + 2 = 12 + 4 * m by omega, nI_add m 1]
      exact ih
  generalize hX : q (12 + 4 * j) = X at *
  generalize hY : zsum (fun i => q (12 + 4 * i)) (q 3) = Y at *
  by_cases e : Y = 0
  · refine ⟨false, 6, q, T, B, ok, ?_, ?_⟩
    · intro c d I L R hcd h hc hd hz hT hB Q K
      simp (disch := omega) only [wp_U_share, wp_Square_hasHearer, wp_U_within, wp_U_settled, hc, h.n3, zi_0, zi_1, zi_2, zi_3, zi_4, zi_5, zi_6, zi_7, zi_8, zi_9, zi_10, zi_11, zi_12, zi_13, zi_14, zi_15, zi_16, zi_17, zi_18, zi_19, zi_20, zi_21, zi_22, zi_23, zi_24, zi_25, zi_26, zi_30, zi_31, zi_32, zi_34, zi_38, zi_59, zi_60, zi_61, zi_63, zi_64, zi_80, zi_96, zi_97, zi_99, zi_100, zi_122, zi_255, zi_256, zi_300, zi_398, zi_406, zi_900, zi_1000, zi_1024, zi_1624, zi_1662, zi_2030, zi_2031, zi_2068, zi_2258, zi_9999, zi_48, zi_57, zi_65536, zi_3257, zi_11483, zi_1000000, zi_729, zi_81, zi_m1, nI_add, pk_mul, nI_ltI, nI_leI, nI_eq, nI_clamp, zn_in, zn_sub1lt, zn_M, zn_Ml, zn_Mg, zn_Mle, zn_Mge, zn_sub, Nat.reduceAdd, Nat.reduceMul, forall_eq, true_imp_iff, false_imp_iff, and_true, true_and, not_true_eq_false, not_false_eq_true, reduceCtorEq, imp_self, eq_self, false_and, and_false, implies_true]
      repeat' (first | omega | with_reducible refine And.intro ?_ ?_ | with_reducible intro g)
      refine (zl_up (P := fun f m => wl_U_share_21 R 0 (nI j) Q f I L (nI (zsum (fun i => q (12 + 4 * i)) m)) (nI m)) (q 3) (fun f => ?_) (fun f m hm ih => ?_) 0 (by omega))
      rotate_left
      · rw [zsum] at ih
        rw [wl_U_share_21]
        simp (disch := omega) only [hc, h.n3, h.cn hm, zi_0, zi_1, zi_2, zi_3, zi_4, zi_5, zi_6, zi_7, zi_8, zi_9, zi_10, zi_11, zi_12, zi_13, zi_14, zi_15, zi_16, zi_17, zi_18, zi_19, zi_20, zi_21, zi_22, zi_23, zi_24, zi_25, zi_26, zi_30, zi_31, zi_32, zi_34, zi_38, zi_59, zi_60, zi_61, zi_63, zi_64, zi_80, zi_96, zi_97, zi_99, zi_100, zi_122, zi_255, zi_256, zi_300, zi_398, zi_406, zi_900, zi_1000, zi_1024, zi_1624, zi_1662, zi_2030, zi_2031, zi_2068, zi_2258, zi_9999, zi_48, zi_57, zi_65536, zi_3257, zi_11483, zi_1000000, zi_729, zi_81, zi_m1, nI_add, pk_mul, nI_ltI, nI_leI, nI_eq, nI_clamp, zn_in, zn_sub1lt, zn_M, zn_Ml, zn_Mg, zn_Mle, zn_Mge, zn_sub, Nat.reduceAdd, Nat.reduceMul]
        exact ⟨fun g => absurd g (by omega), fun _ => ⟨by omega, ih⟩⟩
      rw [hY, wl_U_share_21]
      simp (disch := omega) only [wp_U_settled, hc, h.n3, h.cn hj3, hX, nI_l, zi_0, zi_1, zi_2, zi_3, zi_4, zi_5, zi_6, zi_7, zi_8, zi_9, zi_10, zi_11, zi_12, zi_13, zi_14, zi_15, zi_16, zi_17, zi_18, zi_19, zi_20, zi_21, zi_22, zi_23, zi_24, zi_25, zi_26, zi_30, zi_31, zi_32, zi_34, zi_38, zi_59, zi_60, zi_61, zi_63, zi_64, zi_80, zi_96, zi_97, zi_99, zi_100, zi_122, zi_255, zi_256, zi_300, zi_398, zi_406, zi_900, zi_1000, zi_1024, zi_1624, zi_1662, zi_2030, zi_2031, zi_2068, zi_2258, zi_9999, zi_48, zi_57, zi_65536, zi_3257, zi_11483, zi_1000000, zi_729, zi_81, zi_m1, nI_add, pk_mul, nI_ltI, nI_leI, nI_eq, nI_clamp, zn_in, zn_sub1lt, zn_M, zn_Ml, zn_Mg, zn_Mle, zn_Mge, zn_sub, Nat.reduceAdd, Nat.reduceMul, forall_eq, true_imp_iff, false_imp_iff, and_true, true_and, not_true_eq_false, not_false_eq_true, reduceCtorEq, imp_self, eq_self, false_and, and_false, implies_true]
      refine ⟨fun _ => ⟨fun _ => ?_, fun g => absurd e g⟩, fun g => absurd (Nat.le_refl _) g⟩
      exact K _ _ (pt_U.q0 h hcd hT hB _)
    · intro I L R h hT hB Q K
      simp (disch := omega) only [wp_M_share, wp_M_isHearer, wp_M_is, h.n3, zi_0, zi_1, zi_2, zi_3, zi_4, zi_5, zi_6, zi_7, zi_8, zi_9, zi_10, zi_11, zi_12, zi_13, zi_14, zi_15, zi_16, zi_17, zi_18, zi_19, zi_20, zi_21, zi_22, zi_23, zi_24, zi_25, zi_26, zi_30, zi_31, zi_32, zi_34, zi_38, zi_59, zi_60, zi_61, zi_63, zi_64, zi_80, zi_96, zi_97, zi_99, zi_100, zi_122, zi_255, zi_256, zi_300, zi_398, zi_406, zi_900, zi_1000, zi_1024, zi_1624, zi_1662, zi_2030, zi_2031, zi_2068, zi_2258, zi_9999, zi_48, zi_57, zi_65536, zi_3257, zi_11483, zi_1000000, zi_729, zi_81, zi_m1, nI_add, pk_mul, nI_ltI, nI_leI, nI_eq, nI_clamp, zn_in, zn_sub1lt, zn_M, zn_Ml, zn_Mg, zn_Mle, zn_Mge, zn_sub, Nat.reduceAdd, Nat.reduceMul, forall_eq, true_imp_iff, false_imp_iff, and_true, true_and, not_true_eq_false, not_false_eq_true, reduceCtorEq, imp_self, eq_self, false_and, and_false, implies_true]
      repeat' (first | omega | with_reducible refine And.intro ?_ ?_ | with_reducible intro g)
      refine mc h ?_
      simp (disch := omega) only [zi_0, zi_1, zi_2, zi_3, zi_4, zi_5, zi_6, zi_7, zi_8, zi_9, zi_10, zi_11, zi_12, zi_13, zi_14, zi_15, zi_16, zi_17, zi_18, zi_19, zi_20, zi_21, zi_22, zi_23, zi_24, zi_25, zi_26, zi_30, zi_31, zi_32, zi_34, zi_38, zi_59, zi_60, zi_61, zi_63, zi_64, zi_80, zi_96, zi_97, zi_99, zi_100, zi_122, zi_255, zi_256, zi_300, zi_398, zi_406, zi_900, zi_1000, zi_1024, zi_1624, zi_1662, zi_2030, zi_2031, zi_2068, zi_2258, zi_9999, zi_48, zi_57, zi_65536, zi_3257, zi_11483, zi_1000000, zi_729, zi_81, zi_m1, nI_add, pk_mul, nI_ltI, nI_leI, nI_eq, nI_clamp, zn_in, zn_sub1lt, zn_M, zn_Ml, zn_Mg, zn_Mle, zn_Mge, zn_sub, Nat.reduceAdd, Nat.reduceMul]
      refine ⟨fun _ => ?_, fun g => absurd e g⟩
      exact K _ _ (pt_M.q0 h ok hT hB _)
  · have xl : X < 2 ^ 40 := by omega
    refine ⟨true, 0, q, lN X / lN (Nat.gcd X Y), lN Y / lN (Nat.gcd X Y), ok, ?_, ?_⟩
    · intro c d I L R hcd h hc hd hz hT hB Q K
      simp (disch := omega) only [wp_U_share, wp_Square_hasHearer, wp_U_within, wp_U_settled, hc, h.n3, zi_0, zi_1, zi_2, zi_3, zi_4, zi_5, zi_6, zi_7, zi_8, zi_9, zi_10, zi_11, zi_12, zi_13, zi_14, zi_15, zi_16, zi_17, zi_18, zi_19, zi_20, zi_21, zi_22, zi_23, zi_24, zi_25, zi_26, zi_30, zi_31, zi_32, zi_34, zi_38, zi_59, zi_60, zi_61, zi_63, zi_64, zi_80, zi_96, zi_97, zi_99, zi_100, zi_122, zi_255, zi_256, zi_300, zi_398, zi_406, zi_900, zi_1000, zi_1024, zi_1624, zi_1662, zi_2030, zi_2031, zi_2068, zi_2258, zi_9999, zi_48, zi_57, zi_65536, zi_3257, zi_11483, zi_1000000, zi_729, zi_81, zi_m1, nI_add, pk_mul, nI_ltI, nI_leI, nI_eq, nI_clamp, zn_in, zn_sub1lt, zn_M, zn_Ml, zn_Mg, zn_Mle, zn_Mge, zn_sub, Nat.reduceAdd, Nat.reduceMul, forall_eq, true_imp_iff, false_imp_iff, and_true, true_and, not_true_eq_false, not_false_eq_true, reduceCtorEq, imp_self, eq_self, false_and, and_false, implies_true]
      repeat' (first | omega | with_reducible refine And.intro ?_ ?_ | with_reducible intro g)
      refine (zl_up (P := fun f m => wl_U_share_21 R 0 (nI j) Q f I L (nI (zsum (fun i => q (12 + 4 * i)) m)) (nI m)) (q 3) (fun f => ?_) (fun f m hm ih => ?_) 0 (by omega))
      rotate_left
      · rw [zsum] at ih
        rw [wl_U_share_21]
        simp (disch := omega) only [hc, h.n3, h.cn hm, zi_0, zi_1, zi_2, zi_3, zi_4, zi_5, zi_6, zi_7, zi_8, zi_9, zi_10, zi_11, zi_12, zi_13, zi_14, zi_15, zi_16, zi_17, zi_18, zi_19, zi_20, zi_21, zi_22, zi_23, zi_24, zi_25, zi_26, zi_30, zi_31, zi_32, zi_34, zi_38, zi_59, zi_60, zi_61, zi_63, zi_64, zi_80, zi_96, zi_97, zi_99, zi_100, zi_122, zi_255, zi_256, zi_300, zi_398, zi_406, zi_900, zi_1000, zi_1024, zi_1624, zi_1662, zi_2030, zi_2031, zi_2068, zi_2258, zi_9999, zi_48, zi_57, zi_65536, zi_3257, zi_11483, zi_1000000, zi_729, zi_81, zi_m1, nI_add, pk_mul, nI_ltI, nI_leI, nI_eq, nI_clamp, zn_in, zn_sub1lt, zn_M, zn_Ml, zn_Mg, zn_Mle, zn_Mge, zn_sub, Nat.reduceAdd, Nat.reduceMul]
        exact ⟨fun g => absurd g (by omega), fun _ => ⟨by omega, ih⟩⟩
      rw [hY, wl_U_share_21]
      simp (disch := omega) only [wp_U_settled, hc, h.n3, h.cn hj3, hX, nI_l, zi_0, zi_1, zi_2, zi_3, zi_4, zi_5, zi_6, zi_7, zi_8, zi_9, zi_10, zi_11, zi_12, zi_13, zi_14, zi_15, zi_16, zi_17, zi_18, zi_19, zi_20, zi_21, zi_22, zi_23, zi_24, zi_25, zi_26, zi_30, zi_31, zi_32, zi_34, zi_38, zi_59, zi_60, zi_61, zi_63, zi_64, zi_80, zi_96, zi_97, zi_99, zi_100, zi_122, zi_255, zi_256, zi_300, zi_398, zi_406, zi_900, zi_1000, zi_1024, zi_1624, zi_1662, zi_2030, zi_2031, zi_2068, zi_2258, zi_9999, zi_48, zi_57, zi_65536, zi_3257, zi_11483, zi_1000000, zi_729, zi_81, zi_m1, nI_add, pk_mul, nI_ltI, nI_leI, nI_eq, nI_clamp, zn_in, zn_sub1lt, zn_M, zn_Ml, zn_Mg, zn_Mle, zn_Mge, zn_sub, Nat.reduceAdd, Nat.reduceMul, forall_eq, true_imp_iff, false_imp_iff, and_true, true_and, not_true_eq_false, not_false_eq_true, reduceCtorEq, imp_self, eq_self, false_and, and_false, implies_true]
      refine ⟨fun _ => ⟨fun g => absurd g e, fun _ => ⟨by omega, ?_⟩⟩, fun g => absurd (Nat.le_refl _) g⟩
      refine su_tellF xl (by omega) (by omega) ?_
      try simp (disch := omega) only [wp_U_settled, zi_0, zi_1, zi_2, zi_3, zi_4, zi_5, zi_6, zi_7, zi_8, zi_9, zi_10, zi_11, zi_12, zi_13, zi_14, zi_15, zi_16, zi_17, zi_18, zi_19, zi_20, zi_21, zi_22, zi_23, zi_24, zi_25, zi_26, zi_30, zi_31, zi_32, zi_34, zi_38, zi_59, zi_60, zi_61, zi_63, zi_64, zi_80, zi_96, zi_97, zi_99, zi_100, zi_122, zi_255, zi_256, zi_300, zi_398, zi_406, zi_900, zi_1000, zi_1024, zi_1624, zi_1662, zi_2030, zi_2031, zi_2068, zi_2258, zi_9999, zi_48, zi_57, zi_65536, zi_3257, zi_11483, zi_1000000, zi_729, zi_81, zi_m1, nI_add, pk_mul, nI_ltI, nI_leI, nI_eq, nI_clamp, zn_in, zn_sub1lt, zn_M, zn_Ml, zn_Mg, zn_Mle, zn_Mge, zn_sub, Nat.reduceAdd, Nat.reduceMul, forall_eq, true_imp_iff, false_imp_iff, and_true, true_and, not_true_eq_false, not_false_eq_true, reduceCtorEq, imp_self, eq_self, false_and, and_false, implies_true]
      have fl : fl_U L (am_u2 (am_u2 L 0 16 (lN X / lN (Nat.gcd X Y))) 0 17 (lN Y / lN (Nat.gcd X Y))) := fun r k a b => by
        unfold am_u2
        rw [if_neg (by omega), if_neg (by omega)]
      exact K _ _ (pt_U.of (fl.sq h hcd) hcd fr_U.rfl (by rw [am_u2_ne _ _ _ _ (by omega), am_u2_at]) (am_u2_at _ _ _ _) fl _)
    · intro I L R h hT hB Q K
      simp (disch := omega) only [wp_M_share, wp_M_isHearer, wp_M_is, h.n3, zi_0, zi_1, zi_2, zi_3, zi_4, zi_5, zi_6, zi_7, zi_8, zi_9, zi_10, zi_11, zi_12, zi_13, zi_14, zi_15, zi_16, zi_17, zi_18, zi_19, zi_20, zi_21, zi_22, zi_23, zi_24, zi_25, zi_26, zi_30, zi_31, zi_32, zi_34, zi_38, zi_59, zi_60, zi_61, zi_63, zi_64, zi_80, zi_96, zi_97, zi_99, zi_100, zi_122, zi_255, zi_256, zi_300, zi_398, zi_406, zi_900, zi_1000, zi_1024, zi_1624, zi_1662, zi_2030, zi_2031, zi_2068, zi_2258, zi_9999, zi_48, zi_57, zi_65536, zi_3257, zi_11483, zi_1000000, zi_729, zi_81, zi_m1, nI_add, pk_mul, nI_ltI, nI_leI, nI_eq, nI_clamp, zn_in, zn_sub1lt, zn_M, zn_Ml, zn_Mg, zn_Mle, zn_Mge, zn_sub, Nat.reduceAdd, Nat.reduceMul, forall_eq, true_imp_iff, false_imp_iff, and_true, true_and, not_true_eq_false, not_false_eq_true, reduceCtorEq, imp_self, eq_self, false_and, and_false, implies_true]
      repeat' (first | omega | with_reducible refine And.intro ?_ ?_ | with_reducible intro g)
      refine mc h ?_
      simp (disch := omega) only [zi_0, zi_1, zi_2, zi_3, zi_4, zi_5, zi_6, zi_7, zi_8, zi_9, zi_10, zi_11, zi_12, zi_13, zi_14, zi_15, zi_16, zi_17, zi_18, zi_19, zi_20, zi_21, zi_22, zi_23, zi_24, zi_25, zi_26, zi_30, zi_31, zi_32, zi_34, zi_38, zi_59, zi_60, zi_61, zi_63, zi_64, zi_80, zi_96, zi_97, zi_99, zi_100, zi_122, zi_255, zi_256, zi_300, zi_398, zi_406, zi_900, zi_1000, zi_1024, zi_1624, zi_1662, zi_2030, zi_2031, zi_2068, zi_2258, zi_9999, zi_48, zi_57, zi_65536, zi_3257, zi_11483, zi_1000000, zi_729, zi_81, zi_m1, nI_add, pk_mul, nI_ltI, nI_leI, nI_eq, nI_clamp, zn_in, zn_sub1lt, zn_M, zn_Ml, zn_Mg, zn_Mle, zn_Mge, zn_sub, Nat.reduceAdd, Nat.reduceMul]
      refine ⟨fun g => absurd g e, fun _ => sm_hearerOf h (by omega) (by omega) (mc h ?_)⟩
      rw [show 10 + 4 * j + 2 = 12 + 4 * j by omega, hX, nI_l (by omega), nI_l (by omega)]
      refine sm_tellF xl (by omega) (by omega) ?_
      have fl : fl_M L (am_u2 (am_u2 L 103 3 (lN X / lN (Nat.gcd X Y))) 103 4 (lN Y / lN (Nat.gcd X Y))) := fun r k a b => by
        unfold am_u2
        rw [if_neg (by omega), if_neg (by omega)]
      exact K _ _ (pt_M.of (fl.sq h ok) ok fr_M.rfl (by rw [am_u2_ne _ _ _ _ (by omega), am_u2_at]) (am_u2_at _ _ _ _) fl _)
end
