/-! mean: both answer alike -/
def si_E {α : Type} (q : Nat → Nat) (T B : Int64) (U M : am_TI → am_TL → am_TR → (α → am_TI → am_TL → Prop) → Prop) : Prop :=
  ∃ (ans : α) (st : Nat) (T' B' : Int64),
    (∀ c d t e I L R, (sq_cd c d ∧ sq_cd t e ∧ t ≠ c ∧ e ≠ d) → sq_U q c d I L → (am_rd R 0 11 = c ∧ am_rd R c 5 = d ∧ am_rd R 0 12 = t ∧ am_rd R t 5 = e) → I 26 0 = nI 0 → I d 6 = nI (q 7 - 1) → L 0 16 = T → L 0 17 = B → ∀ Q : α → am_TI → am_TL → Prop, (∀ I1 L1, sq_U q c d I1 L1 → I1 0 15 = nI st → fr_U d I I1 → L1 0 16 = T' → L1 0 17 = B' → (∀ r k, r ≠ t + 1 → ¬ (r = 0 ∧ (k = 16 ∨ k = 17)) → L1 r k = L r k) → Q ans I1 L1) → U I L R Q) ∧
    (∀ I L R, sq_M q 0 I L → L 103 3 = T → L 103 4 = B → ∀ Q : α → am_TI → am_TL → Prop, (∀ I1 L1, sq_M q 0 I1 L1 → I1 103 2 = nI st → fr_M I I1 → L1 103 3 = T' → L1 103 4 = B' → fl_M L L1 → Q ans I1 L1) → M I L R Q)
section
variable {q : Nat → Nat} {c d : Nat} {I I0 I1 I2 : am_TI} {L L1 L2 : am_TL} {R : am_TR} {T B : Int64}
theorem zf_1 {p : Int32} (hp : p < nI 0) : (Int32.toInt64 p < lN 1) ↔ True := by
  have h := (zf_n hp).2 trivial
  refine ⟨fun _ => trivial, fun _ => ?_⟩
  rw [Int64.lt_iff_toInt_lt] at h ⊢
  exact Int.lt_trans h (by decide)
theorem sm_keepA {Q : am_TI → Prop} : ∀ n k I, k + n = 38 → (∀ I1, (∀ j, k ≤ j → j < 38 → I1 104 (2030 + j) = I 104 j) → (∀ r j, ¬ (r = 104 ∧ 2030 + k ≤ j ∧ j < 2068) → I1 r j = I r j) → Q I1) → wl_M_keeps_2 L R 103 (nI 2030) Q (n + 1) I (nI k) := by
  intro n
  induction n with
  | zero =>
    intro k I hk K
    have k2 := K I (fun j a b => absurd a (by omega)) (fun _ _ _ => rfl)
    rw [wl_M_keeps_2]
    simp (disch := omega) only [zi_0, zi_1, zi_2, zi_3, zi_4, zi_5, zi_6, zi_7, zi_8, zi_9, zi_10, zi_11, zi_12, zi_13, zi_14, zi_15, zi_16, zi_17, zi_18, zi_19, zi_20, zi_21, zi_22, zi_23, zi_24, zi_25, zi_26, zi_30, zi_31, zi_32, zi_34, zi_38, zi_59, zi_60, zi_61, zi_63, zi_64, zi_80, zi_96, zi_97, zi_99, zi_100, zi_122, zi_255, zi_256, zi_300, zi_398, zi_406, zi_900, zi_1000, zi_1024, zi_1624, zi_1662, zi_2030, zi_2031, zi_2068, zi_2258, zi_9999, zi_48, zi_57, zi_65536, zi_3257, zi_11483, zi_1000000, zi_729, zi_81, zi_m1, nI_add, pk_mul, nI_ltI, nI_leI, nI_eq, nI_clamp, zn_in, zn_sub1lt, zn_M, zn_Ml, zn_Mg, zn_Mle, zn_Mge, zn_sub, Nat.reduceAdd, Nat.reduceMul, forall_eq, true_imp_iff, false_imp_iff, and_true, true_and, not_true_eq_false, not_false_eq_true, reduceCtorEq, imp_self, eq_self, false_and, and_false, implies_true]
    repeat' (first | omega | with_reducible refine And.intro ?_ ?_ | with_reducible intro g)
    all_goals exact k2
  | succ n ih =>
    intro k I hk K
    rw [wl_M_keeps_2]
    simp (disch := omega) only [zi_0, zi_1, zi_2, zi_3, zi_4, zi_5, zi_6, zi_7, zi_8, zi_9, zi_10, zi_11, zi_12, zi_13, zi_14, zi_15, zi_16, zi_17, zi_18, zi_19, zi_20, zi_21, zi_22, zi_23, zi_24, zi_25, zi_26, zi_30, zi_31, zi_32, zi_34, zi_38, zi_59, zi_60, zi_61, zi_63, zi_64, zi_80, zi_96, zi_97, zi_99, zi_100, zi_122, zi_255, zi_256, zi_300, zi_398, zi_406, zi_900, zi_1000, zi_1024, zi_1624, zi_1662, zi_2030, zi_2031, zi_2068, zi_2258, zi_9999, zi_48, zi_57, zi_65536, zi_3257, zi_11483, zi_1000000, zi_729, zi_81, zi_m1, nI_add, pk_mul, nI_ltI, nI_leI, nI_eq, nI_clamp, zn_in, zn_sub1lt, zn_M, zn_Ml, zn_Mg, zn_Mle, zn_Mge, zn_sub, Nat.reduceAdd, Nat.reduceMul, forall_eq, true_imp_iff, false_imp_iff, and_true, true_and, not_true_eq_false, not_false_eq_true, reduceCtorEq, imp_self, eq_self, false_and, and_false, implies_true]
    repeat' (first | omega | with_reducible refine And.intro ?_ ?_ | with_reducible intro g)
    refine ih (k + 1) _ (by omega) (fun I1 a b => K I1 (fun j x y => ?_) (fun r j g => ?_))
    · by_cases e : j = k
      · subst e
        rw [b 104 (2030 + j) (by omega), am_u2_at]
      · rw [a j (by omega) y, am_u2_ne _ _ _ _ (by omega)]
    · rw [b r j (by omega)]
      unfold am_u2
      rw [if_neg (by omega)]
theorem sm_restA {Q : am_TI → Prop} : ∀ n k I, k + n = 38 → (∀ I1, (∀ j, k ≤ j → j < 38 → I1 104 j = I 104 (2030 + j)) → (∀ r j, ¬ (r = 104 ∧ k ≤ j ∧ j < 38) → I1 r j = I r j) → Q I1) → wl_M_restores_2 L R 103 (nI 2030) Q (n + 1) I (nI k) := by
  intro n
  induction n with
  | zero =>
    intro k I hk K
    have k2 := K I (fun j a b => absurd a (by omega)) (fun _ _ _ => rfl)
    rw [wl_M_restores_2]
    simp (disch := omega) only [zi_0, zi_1, zi_2, zi_3, zi_4, zi_5, zi_6, zi_7, zi_8, zi_9, zi_10, zi_11, zi_12, zi_13, zi_14, zi_15, zi_16, zi_17, zi_18, zi_19, zi_20, zi_21, zi_22, zi_23, zi_24, zi_25, zi_26, zi_30, zi_31, zi_32, zi_34, zi_38, zi_59, zi_60, zi_61, zi_63, zi_64, zi_80, zi_96, zi_97, zi_99, zi_100, zi_122, zi_255, zi_256, zi_300, zi_398, zi_406, zi_900, zi_1000, zi_1024, zi_1624, zi_1662, zi_2030, zi_2031, zi_2068, zi_2258, zi_9999, zi_48, zi_57, zi_65536, zi_3257, zi_11483, zi_1000000, zi_729, zi_81, zi_m1, nI_add, pk_mul, nI_ltI, nI_leI, nI_eq, nI_clamp, zn_in, zn_sub1lt, zn_M, zn_Ml, zn_Mg, zn_Mle, zn_Mge, zn_sub, Nat.reduceAdd, Nat.reduceMul, forall_eq, true_imp_iff, false_imp_iff, and_true, true_and, not_true_eq_false, not_false_eq_true, reduceCtorEq, imp_self, eq_self, false_and, and_false, implies_true]
    repeat' (first | omega | with_reducible refine And.intro ?_ ?_ | with_reducible intro g)
    all_goals exact k2
  | succ n ih =>
    intro k I hk K
    rw [wl_M_restores_2]
    simp (disch := omega) only [zi_0, zi_1, zi_2, zi_3, zi_4, zi_5, zi_6, zi_7, zi_8, zi_9, zi_10, zi_11, zi_12, zi_13, zi_14, zi_15, zi_16, zi_17, zi_18, zi_19, zi_20, zi_21, zi_22, zi_23, zi_24, zi_25, zi_26, zi_30, zi_31, zi_32, zi_34, zi_38, zi_59, zi_60, zi_61, zi_63, zi_64, zi_80, zi_96, zi_97, zi_99, zi_100, zi_122, zi_255, zi_256, zi_300, zi_398, zi_406, zi_900, zi_1000, zi_1024, zi_1624, zi_1662, zi_2030, zi_2031, zi_2068, zi_2258, zi_9999, zi_48, zi_57, zi_65536, zi_3257, zi_11483, zi_1000000, zi_729, zi_81, zi_m1, nI_add, pk_mul, nI_ltI, nI_leI, nI_eq, nI_clamp, zn_in, zn_sub1lt, zn_M, zn_Ml, zn_Mg, zn_Mle, zn_Mge, zn_sub, Nat.reduceAdd, Nat.reduceMul, forall_eq, true_imp_iff, false_imp_iff, and_true, true_and, not_true_eq_false, not_false_eq_true, reduceCtorEq, imp_self, eq_self, false_and, and_false, implies_true]
    repeat' (first | omega | with_reducible refine And.intro ?_ ?_ | with_reducible intro g)
    refine ih (k + 1) _ (by omega) (fun I1 a b => K I1 (fun j x y => ?_) (fun r j g => ?_))
    · by_cases e : j = k
      · subst e
        rw [b 104 j (by omega), am_u2_at]
      · rw [a j (by omega) y, am_u2_ne _ _ _ _ (by omega)]
    · rw [b r j (by omega)]
      unfold am_u2
      rw [if_neg (by omega)]
theorem mn_all (ok : sq_Ok q) (h7 : 0 < q 7) {p1 p2 : Nat} (hp : p1 + p2 ≤ 10000) (hp2 : 1 ≤ p2 ∧ p2 ≤ 20) : ∀ n i a, i + n = p2 → a ≤ 9999 * i → ∃ A, A ≤ 9999 * p2 ∧
    (∀ c d t e I L R Q, (sq_cd c d ∧ sq_cd t e ∧ t ≠ c ∧ e ≠ d) → sq_U q c d I L → (am_rd R 0 11 = c ∧ am_rd R c 5 = d ∧ am_rd R 0 12 = t ∧ am_rd R t 5 = e) → I d 6 = nI (q 7 - 1) → (∀ I1 L1, sq_U q c d I1 L1 → fr_U d I I1 → (∀ r, r ≠ t + 1 → L1 r = L r) → wp_U_tellFraction I1 L1 R 0 (lN A) (lN p2) (fun L2 => wp_U_settled I1 L2 R 0 (nI 0) (fun r4 I2 => Q r4 I2 L2))) → wl_U_mean_56 R 0 (nI p1) (nI p2) Q (n + 1) I L (lN a) (nI i)) ∧
    (∀ I L R Q, sq_M q 0 I L → (∀ k, k < 38 → I 104 (2030 + k) = I 104 k) → (∀ I1, sq_M q 0 I1 L → fr_M I I1 → wp_M_tellsBy I1 L R 103 (lN A) (lN p2) (fun r I3 L1 => Q r I3 L1)) → wl_M_mean_71 R 103 (nI p1) (nI p2) Q (n + 1) I L (lN a) (nI i)) := by
  have o7 := ok.2.2.2.2.1
  intro n
  induction n with
  | zero =>
    intro i a hi ha
    refine ⟨a, by omega, ?_, ?_⟩
    · intro c d t e I L R Q hcd h hr h6 K
      have k2 := K I L h (fun _ _ _ => rfl) (fun _ _ => rfl)
      rw [wl_U_mean_56]
      simp (disch := omega) only [zj_0, zj_1, zj_2, zj_4, zj_6, zj_7, zj_8, zj_16, zj_20, zj_60, zj_63, zj_64, zj_99, zj_9999, nI_l, zk_lt, zk_le, zk_eq, zk_add, zk_in, zi_0, zi_1, zi_2, zi_3, zi_4, zi_5, zi_6, zi_7, zi_8, zi_9, zi_10, zi_11, zi_12, zi_13, zi_14, zi_15, zi_16, zi_17, zi_18, zi_19, zi_20, zi_21, zi_22, zi_23, zi_24, zi_25, zi_26, zi_30, zi_31, zi_32, zi_34, zi_38, zi_59, zi_60, zi_61, zi_63, zi_64, zi_80, zi_96, zi_97, zi_99, zi_100, zi_122, zi_255, zi_256, zi_300, zi_398, zi_406, zi_900, zi_1000, zi_1024, zi_1624, zi_1662, zi_2030, zi_2031, zi_2068, zi_2258, zi_9999, zi_48, zi_57, zi_65536, zi_3257, zi_11483, zi_1000000, zi_729, zi_81, zi_m1, nI_add, pk_mul, nI_ltI, nI_leI, nI_eq, nI_clamp, zn_in, zn_sub1lt, zn_M, zn_Ml, zn_Mg, zn_Mle, zn_Mge, zn_sub, Nat.reduceAdd, Nat.reduceMul]
      exact ⟨fun _ => k2, fun x => absurd (by omega) x⟩
    · intro I L R Q h hk K
      have k2 := K I h (fun _ _ _ => rfl)
      rw [wl_M_mean_71]
      simp (disch := omega) only [zj_0, zj_1, zj_2, zj_4, zj_6, zj_7, zj_8, zj_16, zj_20, zj_60, zj_63, zj_64, zj_99, zj_9999, nI_l, zk_lt, zk_le, zk_eq, zk_add, zk_in, zi_0, zi_1, zi_2, zi_3, zi_4, zi_5, zi_6, zi_7, zi_8, zi_9, zi_10, zi_11, zi_12, zi_13, zi_14, zi_15, zi_16, zi_17, zi_18, zi_19, zi_20, zi_21, zi_22, zi_23, zi_24, zi_25, zi_26, zi_30, zi_31, zi_32, zi_34, zi_38, zi_59, zi_60, zi_61, zi_63, zi_64, zi_80, zi_96, zi_97, zi_99, zi_100, zi_122, zi_255, zi_256, zi_300, zi_398, zi_406, zi_900, zi_1000, zi_1024, zi_1624, zi_1662, zi_2030, zi_2031, zi_2068, zi_2258, zi_9999, zi_48, zi_57, zi_65536, zi_3257, zi_11483, zi_1000000, zi_729, zi_81, zi_m1, nI_add, pk_mul, nI_ltI, nI_leI, nI_eq, nI_clamp, zn_in, zn_sub1lt, zn_M, zn_Ml, zn_Mg, zn_Mle, zn_Mge, zn_sub, Nat.reduceAdd, Nat.reduceMul]
      exact ⟨fun _ => k2, fun x => absurd (by omega) x⟩
  | succ n ih =>
    intro i a hi ha
    obtain ⟨qf, tm, tp, tc, th, lf, sf, okf, ef, hlf, hsf, hU, hM⟩ := lv_all ok h7 (s := p1 + i) (by omega)
    have o8 := okf.1.2.2.2.2
    obtain ⟨A, hA, iU, iM⟩ := ih (i + 1) (a + qf 8) (by omega) (by omega)
    refine ⟨A, hA, ?_, ?_⟩
    · intro c d t e I L R Q hcd h hr h6 K
      have hcd' := hcd
      obtain ⟨⟨c1, c2⟩, ⟨c3, c4⟩, c5, c6⟩ := hcd'
      have hr' := hr
      obtain ⟨r1, r2, r3, r4⟩ := hr'
      rw [wl_U_mean_56]
      simp (disch := omega) only [r1, r3, zi_0, zi_1, zi_2, zi_3, zi_4, zi_5, zi_6, zi_7, zi_8, zi_9, zi_10, zi_11, zi_12, zi_13, zi_14, zi_15, zi_16, zi_17, zi_18, zi_19, zi_20, zi_21, zi_22, zi_23, zi_24, zi_25, zi_26, zi_30, zi_31, zi_32, zi_34, zi_38, zi_59, zi_60, zi_61, zi_63, zi_64, zi_80, zi_96, zi_97, zi_99, zi_100, zi_122, zi_255, zi_256, zi_300, zi_398, zi_406, zi_900, zi_1000, zi_1024, zi_1624, zi_1662, zi_2030, zi_2031, zi_2068, zi_2258, zi_9999, zi_48, zi_57, zi_65536, zi_3257, zi_11483, zi_1000000, zi_729, zi_81, zi_m1, nI_add, pk_mul, nI_ltI, nI_leI, nI_eq, nI_clamp, zn_in, zn_sub1lt, zn_M, zn_Ml, zn_Mg, zn_Mle, zn_Mge, zn_sub, Nat.reduceAdd, Nat.reduceMul]
      refine ⟨fun x => absurd x (by omega), fun _ => ?_⟩
      refine su_copy h ok r4 r2 (by omega) (by omega) (by omega) (by omega) (by omega) h6 (fun I3 L2 s3 e3 f3 l3 => ?_)
      refine hU t e 14 I3 L2 R _ hcd.2.1 (Or.inr rfl) r4 s3 (fun I4 s4 _ _ _ _ _ _ _ f4 => ?_)
      have fr : ∀ r, ¬ (t ≤ r ∧ r ≤ t + 5) → ¬ (e ≤ r ∧ r ≤ e + 5) → r ≠ 14 → r ≠ 15 → I4 r = I r := fun r x y w v => by rw [f4 r x w v, f3 r x y]
      have hh : sq_U q c d I4 L2 := h.keep (fun r hr => fr r (by omega) (by omega) (by omega) (by omega)) (l3 _ (by omega))
      simp (disch := omega) only [s4.n8, zj_0, zj_1, zj_2, zj_4, zj_6, zj_7, zj_8, zj_16, zj_20, zj_60, zj_63, zj_64, zj_99, zj_9999, nI_l, zk_lt, zk_le, zk_eq, zk_add, zk_in, zi_0, zi_1, zi_2, zi_3, zi_4, zi_5, zi_6, zi_7, zi_8, zi_9, zi_10, zi_11, zi_12, zi_13, zi_14, zi_15, zi_16, zi_17, zi_18, zi_19, zi_20, zi_21, zi_22, zi_23, zi_24, zi_25, zi_26, zi_30, zi_31, zi_32, zi_34, zi_38, zi_59, zi_60, zi_61, zi_63, zi_64, zi_80, zi_96, zi_97, zi_99, zi_100, zi_122, zi_255, zi_256, zi_300, zi_398, zi_406, zi_900, zi_1000, zi_1024, zi_1624, zi_1662, zi_2030, zi_2031, zi_2068, zi_2258, zi_9999, zi_48, zi_57, zi_65536, zi_3257, zi_11483, zi_1000000, zi_729, zi_81, zi_m1, nI_add, pk_mul, nI_ltI, nI_leI, nI_eq, nI_clamp, zn_in, zn_sub1lt, zn_M, zn_Ml, zn_Mg, zn_Mle, zn_Mge, zn_sub, Nat.reduceAdd, Nat.reduceMul]
      refine iU c d t e I4 L2 R Q hcd hh hr (by rw [fr d (by omega) (by omega) (by omega) (by omega)]; exact h6) (fun I5 L5 s5 f5 l5 => K I5 L5 s5 (fun r k g => ?_) (fun r hr => by rw [l5 r hr, l3 r hr]))
      rw [f5 r k g, fr r (by omega) (by omega) (by omega) (by omega)]
    · intro I L R Q h hk K
      rw [wl_M_mean_71]
      simp (disch := omega) only [wp_M_restores, zi_0, zi_1, zi_2, zi_3, zi_4, zi_5, zi_6, zi_7, zi_8, zi_9, zi_10, zi_11, zi_12, zi_13, zi_14, zi_15, zi_16, zi_17, zi_18, zi_19, zi_20, zi_21, zi_22, zi_23, zi_24, zi_25, zi_26, zi_30, zi_31, zi_32, zi_34, zi_38, zi_59, zi_60, zi_61, zi_63, zi_64, zi_80, zi_96, zi_97, zi_99, zi_100, zi_122, zi_255, zi_256, zi_300, zi_398, zi_406, zi_900, zi_1000, zi_1024, zi_1624, zi_1662, zi_2030, zi_2031, zi_2068, zi_2258, zi_9999, zi_48, zi_57, zi_65536, zi_3257, zi_11483, zi_1000000, zi_729, zi_81, zi_m1, nI_add, pk_mul, nI_ltI, nI_leI, nI_eq, nI_clamp, zn_in, zn_sub1lt, zn_M, zn_Ml, zn_Mg, zn_Mle, zn_Mge, zn_sub, Nat.reduceAdd, Nat.reduceMul]
      refine ⟨fun x => absurd x (by omega), fun _ => ?_⟩
      refine hM I L R _ h (fun I4 s4 _ _ _ _ _ _ f4 => ?_)
      refine ⟨39, sm_restA 38 0 I4 (by omega) (fun I5 a5 f5 => ?_)⟩
      have e38 : ∀ j, j < 38 → I5 104 j = I 104 j := fun j hj => by rw [a5 j (by omega) hj, f4 104 (2030 + j) (by omega) (by omega) (by omega) (by omega), hk j hj]
      have eo : ∀ j, 38 ≤ j → I5 104 j = I 104 j := fun j hj => by rw [f5 104 j (by omega), f4 104 j (by omega) (by omega) (by omega) (by omega)]
      have ea : ∀ j, I5 104 j = I 104 j := fun j => by
        rcases Nat.lt_or_ge j 38 with g | g
        · exact e38 j g
        · exact eo j g
      have hh : sq_M q 0 I5 L := h.keep (fun k _ _ => ea k) rfl o7
      simp (disch := omega) only [s4.n8, zj_0, zj_1, zj_2, zj_4, zj_6, zj_7, zj_8, zj_16, zj_20, zj_60, zj_63, zj_64, zj_99, zj_9999, nI_l, zk_lt, zk_le, zk_eq, zk_add, zk_in, zi_0, zi_1, zi_2, zi_3, zi_4, zi_5, zi_6, zi_7, zi_8, zi_9, zi_10, zi_11, zi_12, zi_13, zi_14, zi_15, zi_16, zi_17, zi_18, zi_19, zi_20, zi_21, zi_22, zi_23, zi_24, zi_25, zi_26, zi_30, zi_31, zi_32, zi_34, zi_38, zi_59, zi_60, zi_61, zi_63, zi_64, zi_80, zi_96, zi_97, zi_99, zi_100, zi_122, zi_255, zi_256, zi_300, zi_398, zi_406, zi_900, zi_1000, zi_1024, zi_1624, zi_1662, zi_2030, zi_2031, zi_2068, zi_2258, zi_9999, zi_48, zi_57, zi_65536, zi_3257, zi_11483, zi_1000000, zi_729, zi_81, zi_m1, nI_add, pk_mul, nI_ltI, nI_leI, nI_eq, nI_clamp, zn_in, zn_sub1lt, zn_M, zn_Ml, zn_Mg, zn_Mle, zn_Mge, zn_sub, Nat.reduceAdd, Nat.reduceMul]
      refine iM I5 L R Q hh (fun k hk2 => by rw [ea, ea]; exact hk k hk2) (fun I6 s6 f6 => K I6 s6 (fun r k g => ?_))
      rw [f6 r k g, f5 r k (by omega), f4 r k (by omega) (by omega) (by omega) (by omega)]
theorem op_mean (ok : sq_Ok q) (p1 p2 : Int32) : si_E q T B (fun I L R Q => wp_U_mean I L R 0 p1 p2 Q) (fun I L R Q => wp_M_mean I L R 103 p1 p2 Q) := by
  have o7 := ok.2.2.2.2.1
  rcases zc p2 with hp | ⟨k, hk, rfl⟩
  · refine ⟨false, 1, T, B, ?_, ?_⟩
    · intro c d t e I L R hcd h hr hz h6 hT hB Q K
      simp (disch := omega) only [wp_U_mean, wp_U_within, wb_U_mean_25, wp_U_settled, hp, zc_t hp, zc_l hp, zc_m hp, zc_k hp, zi_0, zi_1, zi_2, zi_3, zi_4, zi_5, zi_6, zi_7, zi_8, zi_9, zi_10, zi_11, zi_12, zi_13, zi_14, zi_15, zi_16, zi_17, zi_18, zi_19, zi_20, zi_21, zi_22, zi_23, zi_24, zi_25, zi_26, zi_30, zi_31, zi_32, zi_34, zi_38, zi_59, zi_60, zi_61, zi_63, zi_64, zi_80, zi_96, zi_97, zi_99, zi_100, zi_122, zi_255, zi_256, zi_300, zi_398, zi_406, zi_900, zi_1000, zi_1024, zi_1624, zi_1662, zi_2030, zi_2031, zi_2068, zi_2258, zi_9999, zi_48, zi_57, zi_65536, zi_3257, zi_11483, zi_1000000, zi_729, zi_81, zi_m1, nI_add, pk_mul, nI_ltI, nI_leI, nI_eq, nI_clamp, zn_in, zn_sub1lt, zn_M, zn_Ml, zn_Mg, zn_Mle, zn_Mge, zn_sub, Nat.reduceAdd, Nat.reduceMul, forall_eq, true_imp_iff, false_imp_iff, and_true, true_and, not_true_eq_false, not_false_eq_true, reduceCtorEq, imp_self, eq_self, false_and, and_false, implies_true]
      repeat' (first | omega | with_reducible refine And.intro ?_ ?_ | with_reducible intro g)
      all_goals exact K _ _ (po_U.q0 h hcd.1 _).1 (am_u2_at _ _ _ _) (po_U.q0 h hcd.1 _).2.2 hT hB (fun _ _ _ _ => rfl)
    · intro I L R h hT hB Q K
      simp (disch := omega) only [wp_M_mean, wp_M_isFrom, wb_M_mean_35, wp_M_is, zj_0, zj_1, zj_2, zj_4, zj_6, zj_7, zj_8, zj_16, zj_20, zj_60, zj_63, zj_64, zj_99, zj_9999, nI_l, zk_lt, zk_le, zk_eq, zk_add, zk_in, hp, zc_e hp, zf_n hp, zf_1 hp, zc_t hp, zc_l hp, zc_m hp, zc_k hp, zi_0, zi_1, zi_2, zi_3, zi_4, zi_5, zi_6, zi_7, zi_8, zi_9, zi_10, zi_11, zi_12, zi_13, zi_14, zi_15, zi_16, zi_17, zi_18, zi_19, zi_20, zi_21, zi_22, zi_23, zi_24, zi_25, zi_26, zi_30, zi_31, zi_32, zi_34, zi_38, zi_59, zi_60, zi_61, zi_63, zi_64, zi_80, zi_96, zi_97, zi_99, zi_100, zi_122, zi_255, zi_256, zi_300, zi_398, zi_406, zi_900, zi_1000, zi_1024, zi_1624, zi_1662, zi_2030, zi_2031, zi_2068, zi_2258, zi_9999, zi_48, zi_57, zi_65536, zi_3257, zi_11483, zi_1000000, zi_729, zi_81, zi_m1, nI_add, pk_mul, nI_ltI, nI_leI, nI_eq, nI_clamp, zn_in, zn_sub1lt, zn_M, zn_Ml, zn_Mg, zn_Mle, zn_Mge, zn_sub, Nat.reduceAdd, Nat.reduceMul, forall_eq, true_imp_iff, false_imp_iff, and_true, true_and, not_true_eq_false, not_false_eq_true, reduceCtorEq, imp_self, eq_self, false_and, and_false, implies_true]
      repeat' (first | omega | with_reducible refine And.intro ?_ ?_ | with_reducible intro g)
      all_goals exact K _ _ (po_M.q0 h ok _).1 (am_u2_at _ _ _ _) (po_M.q0 h ok _).2.2 hT hB fl_M.rfl
  by_cases gk : k = 0 ∨ 20 < k
  · refine ⟨false, 1, T, B, ?_, ?_⟩
    · intro c d t e I L R hcd h hr hz h6 hT hB Q K
      simp (disch := omega) only [wp_U_mean, wp_U_within, wb_U_mean_25, wp_U_settled, zi_0, zi_1, zi_2, zi_3, zi_4, zi_5, zi_6, zi_7, zi_8, zi_9, zi_10, zi_11, zi_12, zi_13, zi_14, zi_15, zi_16, zi_17, zi_18, zi_19, zi_20, zi_21, zi_22, zi_23, zi_24, zi_25, zi_26, zi_30, zi_31, zi_32, zi_34, zi_38, zi_59, zi_60, zi_61, zi_63, zi_64, zi_80, zi_96, zi_97, zi_99, zi_100, zi_122, zi_255, zi_256, zi_300, zi_398, zi_406, zi_900, zi_1000, zi_1024, zi_1624, zi_1662, zi_2030, zi_2031, zi_2068, zi_2258, zi_9999, zi_48, zi_57, zi_65536, zi_3257, zi_11483, zi_1000000, zi_729, zi_81, zi_m1, nI_add, pk_mul, nI_ltI, nI_leI, nI_eq, nI_clamp, zn_in, zn_sub1lt, zn_M, zn_Ml, zn_Mg, zn_Mle, zn_Mge, zn_sub, Nat.reduceAdd, Nat.reduceMul, forall_eq, true_imp_iff, false_imp_iff, and_true, true_and, not_true_eq_false, not_false_eq_true, reduceCtorEq, imp_self, eq_self, false_and, and_false, implies_true]
      repeat' (first | omega | with_reducible refine And.intro ?_ ?_ | with_reducible intro g)
      all_goals exact K _ _ (po_U.q0 h hcd.1 _).1 (am_u2_at _ _ _ _) (po_U.q0 h hcd.1 _).2.2 hT hB (fun _ _ _ _ => rfl)
    · intro I L R h hT hB Q K
      simp (disch := omega) only [wp_M_mean, wp_M_isFrom, wb_M_mean_35, wp_M_is, zj_0, zj_1, zj_2, zj_4, zj_6, zj_7, zj_8, zj_16, zj_20, zj_60, zj_63, zj_64, zj_99, zj_9999, nI_l, zk_lt, zk_le, zk_eq, zk_add, zk_in, zi_0, zi_1, zi_2, zi_3, zi_4, zi_5, zi_6, zi_7, zi_8, zi_9, zi_10, zi_11, zi_12, zi_13, zi_14, zi_15, zi_16, zi_17, zi_18, zi_19, zi_20, zi_21, zi_22, zi_23, zi_24, zi_25, zi_26, zi_30, zi_31, zi_32, zi_34, zi_38, zi_59, zi_60, zi_61, zi_63, zi_64, zi_80, zi_96, zi_97, zi_99, zi_100, zi_122, zi_255, zi_256, zi_300, zi_398, zi_406, zi_900, zi_1000, zi_1024, zi_1624, zi_1662, zi_2030, zi_2031, zi_2068, zi_2258, zi_9999, zi_48, zi_57, zi_65536, zi_3257, zi_11483, zi_1000000, zi_729, zi_81, zi_m1, nI_add, pk_mul, nI_ltI, nI_leI, nI_eq, nI_clamp, zn_in, zn_sub1lt, zn_M, zn_Ml, zn_Mg, zn_Mle, zn_Mge, zn_sub, Nat.reduceAdd, Nat.reduceMul, forall_eq, true_imp_iff, false_imp_iff, and_true, true_and, not_true_eq_false, not_false_eq_true, reduceCtorEq, imp_self, eq_self, false_and, and_false, implies_true]
      repeat' (first | omega | with_reducible refine And.intro ?_ ?_ | with_reducible intro g)
      all_goals exact K _ _ (po_M.q0 h ok _).1 (am_u2_at _ _ _ _) (po_M.q0 h ok _).2.2 hT hB fl_M.rfl
  have hk : 1 ≤ k ∧ k ≤ 20 := by omega
  rcases zc p1 with hp | ⟨j, hj, rfl⟩
  · refine ⟨false, 1, T, B, ?_, ?_⟩
    · intro c d t e I L R hcd h hr hz h6 hT hB Q K
      simp (disch := omega) only [wp_U_mean, wp_U_within, wb_U_mean_25, wp_U_settled, hp, zc_t hp, zc_l hp, zc_m hp, zc_k hp, zi_0, zi_1, zi_2, zi_3, zi_4, zi_5, zi_6, zi_7, zi_8, zi_9, zi_10, zi_11, zi_12, zi_13, zi_14, zi_15, zi_16, zi_17, zi_18, zi_19, zi_20, zi_21, zi_22, zi_23, zi_24, zi_25, zi_26, zi_30, zi_31, zi_32, zi_34, zi_38, zi_59, zi_60, zi_61, zi_63, zi_64, zi_80, zi_96, zi_97, zi_99, zi_100, zi_122, zi_255, zi_256, zi_300, zi_398, zi_406, zi_900, zi_1000, zi_1024, zi_1624, zi_1662, zi_2030, zi_2031, zi_2068, zi_2258, zi_9999, zi_48, zi_57, zi_65536, zi_3257, zi_11483, zi_1000000, zi_729, zi_81, zi_m1, nI_add, pk_mul, nI_ltI, nI_leI, nI_eq, nI_clamp, zn_in, zn_sub1lt, zn_M, zn_Ml, zn_Mg, zn_Mle, zn_Mge, zn_sub, Nat.reduceAdd, Nat.reduceMul, forall_eq, true_imp_iff, false_imp_iff, and_true, true_and, not_true_eq_false, not_false_eq_true, reduceCtorEq, imp_self, eq_self, false_and, and_false, implies_true]
      repeat' (first | omega | with_reducible refine And.intro ?_ ?_ | with_reducible intro g)
      all_goals exact K _ _ (po_U.q0 h hcd.1 _).1 (am_u2_at _ _ _ _) (po_U.q0 h hcd.1 _).2.2 hT hB (fun _ _ _ _ => rfl)
    · intro I L R h hT hB Q K
      simp (disch := omega) only [wp_M_mean, wp_M_isFrom, wb_M_mean_35, wp_M_is, zj_0, zj_1, zj_2, zj_4, zj_6, zj_7, zj_8, zj_16, zj_20, zj_60, zj_63, zj_64, zj_99, zj_9999, nI_l, zk_lt, zk_le, zk_eq, zk_add, zk_in, hp, zc_e hp, zf_n hp, zf_1 hp, zc_t hp, zc_l hp, zc_m hp, zc_k hp, zi_0, zi_1, zi_2, zi_3, zi_4, zi_5, zi_6, zi_7, zi_8, zi_9, zi_10, zi_11, zi_12, zi_13, zi_14, zi_15, zi_16, zi_17, zi_18, zi_19, zi_20, zi_21, zi_22, zi_23, zi_24, zi_25, zi_26, zi_30, zi_31, zi_32, zi_34, zi_38, zi_59, zi_60, zi_61, zi_63, zi_64, zi_80, zi_96, zi_97, zi_99, zi_100, zi_122, zi_255, zi_256, zi_300, zi_398, zi_406, zi_900, zi_1000, zi_1024, zi_1624, zi_1662, zi_2030, zi_2031, zi_2068, zi_2258, zi_9999, zi_48, zi_57, zi_65536, zi_3257, zi_11483, zi_1000000, zi_729, zi_81, zi_m1, nI_add, pk_mul, nI_ltI, nI_leI, nI_eq, nI_clamp, zn_in, zn_sub1lt, zn_M, zn_Ml, zn_Mg, zn_Mle, zn_Mge, zn_sub, Nat.reduceAdd, Nat.reduceMul, forall_eq, true_imp_iff, false_imp_iff, and_true, true_and, not_true_eq_false, not_false_eq_true, reduceCtorEq, imp_self, eq_self, false_and, and_false, implies_true]
      repeat' (first | omega | with_reducible refine And.intro ?_ ?_ | with_reducible intro g)
      all_goals exact K _ _ (po_M.q0 h ok _).1 (am_u2_at _ _ _ _) (po_M.q0 h ok _).2.2 hT hB fl_M.rfl
  by_cases gj : 9999 < j
  · refine ⟨false, 1, T, B, ?_, ?_⟩
    · intro c d t e I L R hcd h hr hz h6 hT hB Q K
      simp (disch := omega) only [wp_U_mean, wp_U_within, wb_U_mean_25, wp_U_settled, zi_0, zi_1, zi_2, zi_3, zi_4, zi_5, zi_6, zi_7, zi_8, zi_9, zi_10, zi_11, zi_12, zi_13, zi_14, zi_15, zi_16, zi_17, zi_18, zi_19, zi_20, zi_21, zi_22, zi_23, zi_24, zi_25, zi_26, zi_30, zi_31, zi_32, zi_34, zi_38, zi_59, zi_60, zi_61, zi_63, zi_64, zi_80, zi_96, zi_97, zi_99, zi_100, zi_122, zi_255, zi_256, zi_300, zi_398, zi_406, zi_900, zi_1000, zi_1024, zi_1624, zi_1662, zi_2030, zi_2031, zi_2068, zi_2258, zi_9999, zi_48, zi_57, zi_65536, zi_3257, zi_11483, zi_1000000, zi_729, zi_81, zi_m1, nI_add, pk_mul, nI_ltI, nI_leI, nI_eq, nI_clamp, zn_in, zn_sub1lt, zn_M, zn_Ml, zn_Mg, zn_Mle, zn_Mge, zn_sub, Nat.reduceAdd, Nat.reduceMul, forall_eq, true_imp_iff, false_imp_iff, and_true, true_and, not_true_eq_false, not_false_eq_true, reduceCtorEq, imp_self, eq_self, false_and, and_false, implies_true]
      repeat' (first | omega | with_reducible refine And.intro ?_ ?_ | with_reducible intro g)
      all_goals exact K _ _ (po_U.q0 h hcd.1 _).1 (am_u2_at _ _ _ _) (po_U.q0 h hcd.1 _).2.2 hT hB (fun _ _ _ _ => rfl)
    · intro I L R h hT hB Q K
      simp (disch := omega) only [wp_M_mean, wp_M_isFrom, wb_M_mean_35, wp_M_is, zj_0, zj_1, zj_2, zj_4, zj_6, zj_7, zj_8, zj_16, zj_20, zj_60, zj_63, zj_64, zj_99, zj_9999, nI_l, zk_lt, zk_le, zk_eq, zk_add, zk_in, zi_0, zi_1, zi_2, zi_3, zi_4, zi_5, zi_6, zi_7, zi_8, zi_9, zi_10, zi_11, zi_12, zi_13, zi_14, zi_15, zi_16, zi_17, zi_18, zi_19, zi_20, zi_21, zi_22, zi_23, zi_24, zi_25, zi_26, zi_30, zi_31, zi_32, zi_34, zi_38, zi_59, zi_60, zi_61, zi_63, zi_64, zi_80, zi_96, zi_97, zi_99, zi_100, zi_122, zi_255, zi_256, zi_300, zi_398, zi_406, zi_900, zi_1000, zi_1024, zi_1624, zi_1662, zi_2030, zi_2031, zi_2068, zi_2258, zi_9999, zi_48, zi_57, zi_65536, zi_3257, zi_11483, zi_1000000, zi_729, zi_81, zi_m1, nI_add, pk_mul, nI_ltI, nI_leI, nI_eq, nI_clamp, zn_in, zn_sub1lt, zn_M, zn_Ml, zn_Mg, zn_Mle, zn_Mge, zn_sub, Nat.reduceAdd, Nat.reduceMul, forall_eq, true_imp_iff, false_imp_iff, and_true, true_and, not_true_eq_false, not_false_eq_true, reduceCtorEq, imp_self, eq_self, false_and, and_false, implies_true]
      repeat' (first | omega | with_reducible refine And.intro ?_ ?_ | with_reducible intro g)
      all_goals exact K _ _ (po_M.q0 h ok _).1 (am_u2_at _ _ _ _) (po_M.q0 h ok _).2.2 hT hB fl_M.rfl
  by_cases gjk : 10000 < j + k
  · refine ⟨false, 1, T, B, ?_, ?_⟩
    · intro c d t e I L R hcd h hr hz h6 hT hB Q K
      simp (disch := omega) only [wp_U_mean, wp_U_within, wb_U_mean_25, wp_U_settled, zi_0, zi_1, zi_2, zi_3, zi_4, zi_5, zi_6, zi_7, zi_8, zi_9, zi_10, zi_11, zi_12, zi_13, zi_14, zi_15, zi_16, zi_17, zi_18, zi_19, zi_20, zi_21, zi_22, zi_23, zi_24, zi_25, zi_26, zi_30, zi_31, zi_32, zi_34, zi_38, zi_59, zi_60, zi_61, zi_63, zi_64, zi_80, zi_96, zi_97, zi_99, zi_100, zi_122, zi_255, zi_256, zi_300, zi_398, zi_406, zi_900, zi_1000, zi_1024, zi_1624, zi_1662, zi_2030, zi_2031, zi_2068, zi_2258, zi_9999, zi_48, zi_57, zi_65536, zi_3257, zi_11483, zi_1000000, zi_729, zi_81, zi_m1, nI_add, pk_mul, nI_ltI, nI_leI, nI_eq, nI_clamp, zn_in, zn_sub1lt, zn_M, zn_Ml, zn_Mg, zn_Mle, zn_Mge, zn_sub, Nat.reduceAdd, Nat.reduceMul, forall_eq, true_imp_iff, false_imp_iff, and_true, true_and, not_true_eq_false, not_false_eq_true, reduceCtorEq, imp_self, eq_self, false_and, and_false, implies_true]
      repeat' (first | omega | with_reducible refine And.intro ?_ ?_ | with_reducible intro g)
      all_goals exact K _ _ (po_U.q0 h hcd.1 _).1 (am_u2_at _ _ _ _) (po_U.q0 h hcd.1 _).2.2 hT hB (fun _ _ _ _ => rfl)
    · intro I L R h hT hB Q K
      simp (disch := omega) only [wp_M_mean, wp_M_isFrom, wb_M_mean_35, wp_M_is, zj_0, zj_1, zj_2, zj_4, zj_6, zj_7, zj_8, zj_16, zj_20, zj_60, zj_63, zj_64, zj_99, zj_9999, nI_l, zk_lt, zk_le, zk_eq, zk_add, zk_in, zi_0, zi_1, zi_2, zi_3, zi_4, zi_5, zi_6, zi_7, zi_8, zi_9, zi_10, zi_11, zi_12, zi_13, zi_14, zi_15, zi_16, zi_17, zi_18, zi_19, zi_20, zi_21, zi_22, zi_23, zi_24, zi_25, zi_26, zi_30, zi_31, zi_32, zi_34, zi_38, zi_59, zi_60, zi_61, zi_63, zi_64, zi_80, zi_96, zi_97, zi_99, zi_100, zi_122, zi_255, zi_256, zi_300, zi_398, zi_406, zi_900, zi_1000, zi_1024, zi_1624, zi_1662, zi_2030, zi_2031, zi_2068, zi_2258, zi_9999, zi_48, zi_57, zi_65536, zi_3257, zi_11483, zi_1000000, zi_729, zi_81, zi_m1, nI_add, pk_mul, nI_ltI, nI_leI, nI_eq, nI_clamp, zn_in, zn_sub1lt, zn_M, zn_Ml, zn_Mg, zn_Mle, zn_Mge, zn_sub, Nat.reduceAdd, Nat.reduceMul, forall_eq, true_imp_iff, false_imp_iff, and_true, true_and, not_true_eq_false, not_false_eq_true, reduceCtorEq, imp_self, eq_self, false_and, and_false, implies_true]
      repeat' (first | omega | with_reducible refine And.intro ?_ ?_ | with_reducible intro g)
      all_goals exact K _ _ (po_M.q0 h ok _).1 (am_u2_at _ _ _ _) (po_M.q0 h ok _).2.2 hT hB fl_M.rfl
  by_cases g7 : q 7 = 0
  · have e7 : nI (q 7) - nI 1 = nM := by rw [g7]; rfl
    have e5 : ∀ {d : Nat} {I : am_TI}, dy_U q d I → I d 5 = nI 0 := fun h => by rw [h.1, if_pos g7]
    refine ⟨false, 6, T, B, ?_, ?_⟩
    · intro c d t e I L R hcd h hr hz h6 hT hB Q K
      simp (disch := omega) only [wp_U_mean, wp_U_within, wb_U_mean_25, wp_U_settled, hr.1, hr.2.1, e5 h.dy, zi_0, zi_1, zi_2, zi_3, zi_4, zi_5, zi_6, zi_7, zi_8, zi_9, zi_10, zi_11, zi_12, zi_13, zi_14, zi_15, zi_16, zi_17, zi_18, zi_19, zi_20, zi_21, zi_22, zi_23, zi_24, zi_25, zi_26, zi_30, zi_31, zi_32, zi_34, zi_38, zi_59, zi_60, zi_61, zi_63, zi_64, zi_80, zi_96, zi_97, zi_99, zi_100, zi_122, zi_255, zi_256, zi_300, zi_398, zi_406, zi_900, zi_1000, zi_1024, zi_1624, zi_1662, zi_2030, zi_2031, zi_2068, zi_2258, zi_9999, zi_48, zi_57, zi_65536, zi_3257, zi_11483, zi_1000000, zi_729, zi_81, zi_m1, nI_add, pk_mul, nI_ltI, nI_leI, nI_eq, nI_clamp, zn_in, zn_sub1lt, zn_M, zn_Ml, zn_Mg, zn_Mle, zn_Mge, zn_sub, Nat.reduceAdd, Nat.reduceMul, forall_eq, true_imp_iff, false_imp_iff, and_true, true_and, not_true_eq_false, not_false_eq_true, reduceCtorEq, imp_self, eq_self, false_and, and_false, implies_true]
      repeat' (first | omega | with_reducible refine And.intro ?_ ?_ | with_reducible intro g)
      all_goals exact K _ _ (po_U.q0 h hcd.1 _).1 (am_u2_at _ _ _ _) (po_U.q0 h hcd.1 _).2.2 hT hB (fun _ _ _ _ => rfl)
    · intro I L R h hT hB Q K
      simp (disch := omega) only [wp_M_mean, wp_M_isFrom, wb_M_mean_35, wp_M_is, zj_0, zj_1, zj_2, zj_4, zj_6, zj_7, zj_8, zj_16, zj_20, zj_60, zj_63, zj_64, zj_99, zj_9999, nI_l, zk_lt, zk_le, zk_eq, zk_add, zk_in, h.n7, e7, zi_0, zi_1, zi_2, zi_3, zi_4, zi_5, zi_6, zi_7, zi_8, zi_9, zi_10, zi_11, zi_12, zi_13, zi_14, zi_15, zi_16, zi_17, zi_18, zi_19, zi_20, zi_21, zi_22, zi_23, zi_24, zi_25, zi_26, zi_30, zi_31, zi_32, zi_34, zi_38, zi_59, zi_60, zi_61, zi_63, zi_64, zi_80, zi_96, zi_97, zi_99, zi_100, zi_122, zi_255, zi_256, zi_300, zi_398, zi_406, zi_900, zi_1000, zi_1024, zi_1624, zi_1662, zi_2030, zi_2031, zi_2068, zi_2258, zi_9999, zi_48, zi_57, zi_65536, zi_3257, zi_11483, zi_1000000, zi_729, zi_81, zi_m1, nI_add, pk_mul, nI_ltI, nI_leI, nI_eq, nI_clamp, zn_in, zn_sub1lt, zn_M, zn_Ml, zn_Mg, zn_Mle, zn_Mge, zn_sub, Nat.reduceAdd, Nat.reduceMul, forall_eq, true_imp_iff, false_imp_iff, and_true, true_and, not_true_eq_false, not_false_eq_true, reduceCtorEq, imp_self, eq_self, false_and, and_false, implies_true]
      repeat' (first | omega | with_reducible refine And.intro ?_ ?_ | with_reducible intro g)
      all_goals exact K _ _ (po_M.q0 h ok _).1 (am_u2_at _ _ _ _) (po_M.q0 h ok _).2.2 hT hB fl_M.rfl
  obtain ⟨A, hA, iU, iM⟩ := mn_all ok (by omega) (p1 := j) (p2 := k) (by omega) hk k 0 0 (by omega) (by omega)
  have e5 : ∀ {d : Nat} {I : am_TI}, dy_U q d I → I d 5 = nI 1 := fun h => by rw [h.1, if_neg g7]
  have e7 : nI (q 7) - nI 1 = nI (q 7 - 1) := zn_sub (by omega)
  refine ⟨true, 0, lN A / lN (Nat.gcd A k), lN k / lN (Nat.gcd A k), ?_, ?_⟩
  · intro c d t e I L R hcd h hr hz h6 hT hB Q K
    simp (disch := omega) only [wp_U_mean, wp_U_within, wb_U_mean_25, wp_U_settled, hr.1, hr.2.1, e5 h.dy, zi_0, zi_1, zi_2, zi_3, zi_4, zi_5, zi_6, zi_7, zi_8, zi_9, zi_10, zi_11, zi_12, zi_13, zi_14, zi_15, zi_16, zi_17, zi_18, zi_19, zi_20, zi_21, zi_22, zi_23, zi_24, zi_25, zi_26, zi_30, zi_31, zi_32, zi_34, zi_38, zi_59, zi_60, zi_61, zi_63, zi_64, zi_80, zi_96, zi_97, zi_99, zi_100, zi_122, zi_255, zi_256, zi_300, zi_398, zi_406, zi_900, zi_1000, zi_1024, zi_1624, zi_1662, zi_2030, zi_2031, zi_2068, zi_2258, zi_9999, zi_48, zi_57, zi_65536, zi_3257, zi_11483, zi_1000000, zi_729, zi_81, zi_m1, nI_add, pk_mul, nI_ltI, nI_leI, nI_eq, nI_clamp, zn_in, zn_sub1lt, zn_M, zn_Ml, zn_Mg, zn_Mle, zn_Mge, zn_sub, Nat.reduceAdd, Nat.reduceMul, forall_eq, true_imp_iff, false_imp_iff, and_true, true_and, not_true_eq_false, not_false_eq_true, reduceCtorEq, imp_self, eq_self, false_and, and_false, implies_true]
    repeat' (first | omega | with_reducible refine And.intro ?_ ?_ | with_reducible intro g)
    refine ⟨k + 1, iU c d t e I L R Q hcd h hr h6 (fun I1 L1 s1 f1 l1 => ?_)⟩
    refine su_tellF (by omega) (by omega) (by omega) ?_
    simp (disch := omega) only [wp_U_settled, zi_0, zi_1, zi_2, zi_3, zi_4, zi_5, zi_6, zi_7, zi_8, zi_9, zi_10, zi_11, zi_12, zi_13, zi_14, zi_15, zi_16, zi_17, zi_18, zi_19, zi_20, zi_21, zi_22, zi_23, zi_24, zi_25, zi_26, zi_30, zi_31, zi_32, zi_34, zi_38, zi_59, zi_60, zi_61, zi_63, zi_64, zi_80, zi_96, zi_97, zi_99, zi_100, zi_122, zi_255, zi_256, zi_300, zi_398, zi_406, zi_900, zi_1000, zi_1024, zi_1624, zi_1662, zi_2030, zi_2031, zi_2068, zi_2258, zi_9999, zi_48, zi_57, zi_65536, zi_3257, zi_11483, zi_1000000, zi_729, zi_81, zi_m1, nI_add, pk_mul, nI_ltI, nI_leI, nI_eq, nI_clamp, zn_in, zn_sub1lt, zn_M, zn_Ml, zn_Mg, zn_Mle, zn_Mge, zn_sub, Nat.reduceAdd, Nat.reduceMul, forall_eq, true_imp_iff, false_imp_iff, and_true, true_and, not_true_eq_false, not_false_eq_true, reduceCtorEq, imp_self, eq_self, false_and, and_false, implies_true]
    have s2 : sq_U q c d I1 (am_u2 (am_u2 L1 0 16 (lN A / lN (Nat.gcd A k))) 0 17 (lN k / lN (Nat.gcd A k))) := s1.keep (fun _ _ => rfl) (by have := hcd.1.1; rw [am_u2_row _ _ _ _ (by omega), am_u2_row _ _ _ _ (by omega)])
    refine K _ _ (po_U.q0 s2 hcd.1 _).1 (am_u2_at _ _ _ _) (f1.trans (po_U.q0 s2 hcd.1 0).2.2) (by rw [am_u2_ne _ _ _ _ (by omega), am_u2_at]) (am_u2_at _ _ _ _) (fun r x y w => ?_)
    unfold am_u2
    rw [if_neg (by omega), if_neg (by omega), l1 r y]
  · intro I L R h hT hB Q K
    simp (disch := omega) only [wp_M_mean, wp_M_isFrom, wb_M_mean_35, wp_M_is, zj_0, zj_1, zj_2, zj_4, zj_6, zj_7, zj_8, zj_16, zj_20, zj_60, zj_63, zj_64, zj_99, zj_9999, nI_l, zk_lt, zk_le, zk_eq, zk_add, zk_in, h.n7, e7, zi_0, zi_1, zi_2, zi_3, zi_4, zi_5, zi_6, zi_7, zi_8, zi_9, zi_10, zi_11, zi_12, zi_13, zi_14, zi_15, zi_16, zi_17, zi_18, zi_19, zi_20, zi_21, zi_22, zi_23, zi_24, zi_25, zi_26, zi_30, zi_31, zi_32, zi_34, zi_38, zi_59, zi_60, zi_61, zi_63, zi_64, zi_80, zi_96, zi_97, zi_99, zi_100, zi_122, zi_255, zi_256, zi_300, zi_398, zi_406, zi_900, zi_1000, zi_1024, zi_1624, zi_1662, zi_2030, zi_2031, zi_2068, zi_2258, zi_9999, zi_48, zi_57, zi_65536, zi_3257, zi_11483, zi_1000000, zi_729, zi_81, zi_m1, nI_add, pk_mul, nI_ltI, nI_leI, nI_eq, nI_clamp, zn_in, zn_sub1lt, zn_M, zn_Ml, zn_Mg, zn_Mle, zn_Mge, zn_sub, Nat.reduceAdd, Nat.reduceMul, forall_eq, true_imp_iff, false_imp_iff, and_true, true_and, not_true_eq_false, not_false_eq_true, reduceCtorEq, imp_self, eq_self, false_and, and_false, implies_true]
    repeat' (first | omega | with_reducible refine And.intro ?_ ?_ | with_reducible intro g)
    unfold wp_M_keeps
    refine ⟨39, sm_keepA 38 0 I (by omega) (fun I1 a1 f1 => ?_)⟩
    have s1 : sq_M q 0 I1 L := h.keep (fun x _ _ => by rw [f1 104 x (by omega)]) rfl o7
    refine ⟨k + 1, iM I1 L R Q s1 (fun x hx => by rw [a1 x (by omega) hx, f1 104 x (by omega)]) (fun I2 s2 f2 => ?_)⟩
    refine sm_tellF (by omega) (by omega) (by omega) ?_
    have s3 : sq_M q 0 I2 (am_u2 (am_u2 L 103 3 (lN A / lN (Nat.gcd A k))) 103 4 (lN k / lN (Nat.gcd A k))) := s2.keep (fun _ _ _ => rfl) (by rw [am_u2_row _ _ _ _ (by omega), am_u2_row _ _ _ _ (by omega)]) o7
    refine K _ _ (po_M.q0 s3 ok _).1 (am_u2_at _ _ _ _) (fr_M.trans (fun r x g => ?_) (f2.trans (po_M.q0 s3 ok 0).2.2)) (by rw [am_u2_ne _ _ _ _ (by omega), am_u2_at]) (am_u2_at _ _ _ _) (fun r x y w => ?_)
    · rw [f1 r x (by omega)]
    · unfold am_u2
      rw [if_neg (by omega), if_neg (by omega)]
end
