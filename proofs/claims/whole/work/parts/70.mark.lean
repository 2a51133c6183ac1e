/-! mark, undo: both answer alike -/
def ma_U (n : Nat) (mk : Nat → Nat → Nat) (I : am_TI) (L : am_TL) : Prop := I 0 14 = nI n ∧ ∀ i, i < n → sq_U (mk i) (67 + 12 * i) (73 + 12 * i) I L ∧ I (73 + 12 * i) 6 = nI (mk i 7 - 1)
def ma_M (n : Nat) (mk : Nat → Nat → Nat) (I : am_TI) (L : am_TL) : Prop := I 103 50 = nI n ∧ ∀ i, i < n → sq_M (mk i) (i + 1) I L
def ma_R (R : am_TR) : Prop := ∀ i, i < 3 → am_rd R 11 i = 67 + 12 * i ∧ am_rd R (67 + 12 * i) 5 = 73 + 12 * i
def ma_Ok (n : Nat) (mk : Nat → Nat → Nat) : Prop := n ≤ 3 ∧ ∀ i, i < n → sq_Ok (mk i)
def fm_U (c d : Nat) (I I1 : am_TI) : Prop := ∀ r k, ¬ (r = 0 ∧ (k = 14 ∨ k = 15)) → ¬ (67 ≤ r ∧ r ≤ 102) → ¬ (c ≤ r ∧ r ≤ c + 5) → ¬ (d ≤ r ∧ r ≤ d + 5) → I1 r k = I r k
def fm_UL (c : Nat) (L L1 : am_TL) : Prop := ∀ r, r ≠ c + 1 → ¬ (67 ≤ r ∧ r ≤ 102) → L1 r = L r
def fm_M (I I1 : am_TI) : Prop := ∀ r k, ¬ (r = 103 ∧ (k = 2 ∨ k = 50)) → ¬ (r = 104 ∧ k < 1624) → I1 r k = I r k
def fm_ML (L L1 : am_TL) : Prop := ∀ r, r ≠ 105 → L1 r = L r
def si_K {α : Type} (q : Nat → Nat) (n : Nat) (mk : Nat → Nat → Nat) (U M : am_TI → am_TL → am_TR → (α → am_TI → am_TL → Prop) → Prop) : Prop :=
  ∃ (ans : α) (st : Nat) (q' : Nat → Nat) (n' : Nat) (mk' : Nat → Nat → Nat), (sq_Ok q' ∧ ma_Ok n' mk') ∧
    (∀ c d I L R, sq_cd c d → sq_U q c d I L → (am_rd R 0 11 = c ∧ am_rd R c 5 = d ∧ ma_R R) → I d 6 = nI (q 7 - 1) → ma_U n mk I L → ∀ Q : α → am_TI → am_TL → Prop, (∀ I1 L1, sq_U q' c d I1 L1 → I1 d 6 = nI (q' 7 - 1) → I1 0 15 = nI st → ma_U n' mk' I1 L1 → fm_U c d I I1 → fm_UL c L L1 → Q ans I1 L1) → U I L R Q) ∧
    (∀ I L R, sq_M q 0 I L → ma_M n mk I L → ∀ Q : α → am_TI → am_TL → Prop, (∀ I1 L1, sq_M q' 0 I1 L1 → I1 103 2 = nI st → ma_M n' mk' I1 L1 → fm_M I I1 → fm_ML L L1 → Q ans I1 L1) → M I L R Q)
section
variable {q : Nat → Nat} {c d n : Nat} {mk : Nat → Nat → Nat} {I I0 I1 I2 : am_TI} {L L1 L2 : am_TL} {R : am_TR}
theorem sm_copy41 {p1 p2 : Nat} (h1 : p1 ≤ 3) (h2 : p2 ≤ 3) (hn : p1 ≠ p2) {Q : am_TI → am_TL → Prop} : ∀ n k L, k + n = 6 → (∀ L1, (∀ j, k ≤ j → j < 6 → L1 105 (6 * p2 + j) = L 105 (6 * p1 + j)) → (∀ r j, ¬ (r = 105 ∧ 6 * p2 + k ≤ j ∧ j < 6 * p2 + 6) → L1 r j = L r j) → Q I L1) → wl_M_copies_41 R 103 (nI p1) (nI p2) Q (n + 1) I L (nI k) := by
  intro n
  induction n with
  | zero =>
    intro k L hk K
    have k2 := K L (fun j a b => absurd a (by omega)) (fun _ _ _ => rfl)
    rw [wl_M_copies_41]
    simp (disch := omega) only [zi_0, zi_1, zi_2, zi_3, zi_4, zi_5, zi_6, zi_7, zi_8, zi_9, zi_10, zi_11, zi_12, zi_13, zi_14, zi_15, zi_16, zi_17, zi_18, zi_19, zi_20, zi_21, zi_22, zi_23, zi_24, zi_25, zi_26, zi_30, zi_31, zi_32, zi_34, zi_38, zi_59, zi_60, zi_61, zi_63, zi_64, zi_80, zi_96, zi_97, zi_99, zi_100, zi_122, zi_255, zi_256, zi_300, zi_398, zi_406, zi_900, zi_1000, zi_1024, zi_1624, zi_1662, zi_2030, zi_2031, zi_2068, zi_2258, zi_9999, zi_48, zi_57, zi_65536, zi_3257, zi_11483, zi_1000000, zi_729, zi_81, zi_m1, nI_add, pk_mul, nI_ltI, nI_leI, nI_eq, nI_clamp, zn_in, zn_sub1lt, zn_M, zn_Ml, zn_Mg, zn_Mle, zn_Mge, zn_sub, Nat.reduceAdd, Nat.reduceMul, forall_eq, true_imp_iff, false_imp_iff, and_true, true_and, not_true_eq_false, not_false_eq_true, reduceCtorEq, imp_self, eq_self, false_and, and_false, implies_true]
    repeat' (first | omega | with_reducible refine And.intro ?_ ?_ | with_reducible intro g)
    all_goals exact k2
  | succ n ih =>
    intro k L hk K
    rw [wl_M_copies_41]
    simp (disch := omega) only [zi_0, zi_1, zi_2, zi_3, zi_4, zi_5, zi_6, zi_7, zi_8, zi_9, zi_10, zi_11, zi_12, zi_13, zi_14, zi_15, zi_16, zi_17, zi_18, zi_19, zi_20, zi_21, zi_22, zi_23, zi_24, zi_25, zi_26, zi_30, zi_31, zi_32, zi_34, zi_38, zi_59, zi_60, zi_61, zi_63, zi_64, zi_80, zi_96, zi_97, zi_99, zi_100, zi_122, zi_255, zi_256, zi_300, zi_398, zi_406, zi_900, zi_1000, zi_1024, zi_1624, zi_1662, zi_2030, zi_2031, zi_2068, zi_2258, zi_9999, zi_48, zi_57, zi_65536, zi_3257, zi_11483, zi_1000000, zi_729, zi_81, zi_m1, nI_add, pk_mul, nI_ltI, nI_leI, nI_eq, nI_clamp, zn_in, zn_sub1lt, zn_M, zn_Ml, zn_Mg, zn_Mle, zn_Mge, zn_sub, Nat.reduceAdd, Nat.reduceMul, forall_eq, true_imp_iff, false_imp_iff, and_true, true_and, not_true_eq_false, not_false_eq_true, reduceCtorEq, imp_self, eq_self, false_and, and_false, implies_true]
    repeat' (first | omega | with_reducible refine And.intro ?_ ?_ | with_reducible intro g)
    refine ih (k + 1) _ (by omega) (fun I1 a b => K I1 (fun j x y => ?_) (fun r j g => ?_))
    · by_cases e : j = k
      · subst e
        rw [b 105 (6 * p2 + j) (by omega), am_u2_at]
      · rw [a j (by omega) y, am_u2_ne _ _ _ _ (by omega)]
    · rw [b r j (by omega)]
      unfold am_u2
      rw [if_neg (by omega)]
theorem sm_copy2 {p1 p2 : Nat} (h1 : p1 ≤ 3) (h2 : p2 ≤ 3) (hn : p1 ≠ p2) {Q : am_TI → am_TL → Prop} : ∀ n k I, k + n = 406 → (∀ I1, (∀ j, k ≤ j → j < 406 → I1 104 (406 * p2 + j) = I 104 (406 * p1 + j)) → (∀ r j, ¬ (r = 104 ∧ 406 * p2 + k ≤ j ∧ j < 406 * p2 + 406) → I1 r j = I r j) → ∃ z, wl_M_copies_41 R 103 (nI p1) (nI p2) Q z I1 L (nI 0)) → wl_M_copies_2 R 103 (nI p1) (nI p2) Q (n + 1) I L (nI k) := by
  intro n
  induction n with
  | zero =>
    intro k I hk K
    have k2 := K I (fun j a b => absurd a (by omega)) (fun _ _ _ => rfl)
    rw [wl_M_copies_2]
    simp (disch := omega) only [zi_0, zi_1, zi_2, zi_3, zi_4, zi_5, zi_6, zi_7, zi_8, zi_9, zi_10, zi_11, zi_12, zi_13, zi_14, zi_15, zi_16, zi_17, zi_18, zi_19, zi_20, zi_21, zi_22, zi_23, zi_24, zi_25, zi_26, zi_30, zi_31, zi_32, zi_34, zi_38, zi_59, zi_60, zi_61, zi_63, zi_64, zi_80, zi_96, zi_97, zi_99, zi_100, zi_122, zi_255, zi_256, zi_300, zi_398, zi_406, zi_900, zi_1000, zi_1024, zi_1624, zi_1662, zi_2030, zi_2031, zi_2068, zi_2258, zi_9999, zi_48, zi_57, zi_65536, zi_3257, zi_11483, zi_1000000, zi_729, zi_81, zi_m1, nI_add, pk_mul, nI_ltI, nI_leI, nI_eq, nI_clamp, zn_in, zn_sub1lt, zn_M, zn_Ml, zn_Mg, zn_Mle, zn_Mge, zn_sub, Nat.reduceAdd, Nat.reduceMul, forall_eq, true_imp_iff, false_imp_iff, and_true, true_and, not_true_eq_false, not_false_eq_true, reduceCtorEq, imp_self, eq_self, false_and, and_false, implies_true]
    repeat' (first | omega | with_reducible refine And.intro ?_ ?_ | with_reducible intro g)
    all_goals exact k2
  | succ n ih =>
    intro k I hk K
    rw [wl_M_copies_2]
    simp (disch := omega) only [zi_0, zi_1, zi_2, zi_3, zi_4, zi_5, zi_6, zi_7, zi_8, zi_9, zi_10, zi_11, zi_12, zi_13, zi_14, zi_15, zi_16, zi_17, zi_18, zi_19, zi_20, zi_21, zi_22, zi_23, zi_24, zi_25, zi_26, zi_30, zi_31, zi_32, zi_34, zi_38, zi_59, zi_60, zi_61, zi_63, zi_64, zi_80, zi_96, zi_97, zi_99, zi_100, zi_122, zi_255, zi_256, zi_300, zi_398, zi_406, zi_900, zi_1000, zi_1024, zi_1624, zi_1662, zi_2030, zi_2031, zi_2068, zi_2258, zi_9999, zi_48, zi_57, zi_65536, zi_3257, zi_11483, zi_1000000, zi_729, zi_81, zi_m1, nI_add, pk_mul, nI_ltI, nI_leI, nI_eq, nI_clamp, zn_in, zn_sub1lt, zn_M, zn_Ml, zn_Mg, zn_Mle, zn_Mge, zn_sub, Nat.reduceAdd, Nat.reduceMul, forall_eq, true_imp_iff, false_imp_iff, and_true, true_and, not_true_eq_false, not_false_eq_true, reduceCtorEq, imp_self, eq_self, false_and, and_false, implies_true]
    repeat' (first | omega | with_reducible refine And.intro ?_ ?_ | with_reducible intro g)
    refine ih (k + 1) _ (by omega) (fun I1 a b => K I1 (fun j x y => ?_) (fun r j g => ?_))
    · by_cases e : j = k
      · subst e
        rw [b 104 (406 * p2 + j) (by omega), am_u2_at]
      · rw [a j (by omega) y, am_u2_ne _ _ _ _ (by omega)]
    · rw [b r j (by omega)]
      unfold am_u2
      rw [if_neg (by omega)]
theorem sm_copies {p1 p2 : Nat} (h : sq_M q p1 I L) (ok : sq_Ok q) (h1 : p1 ≤ 3) (h2 : p2 ≤ 3) (hn : p1 ≠ p2) {Q : am_TI → am_TL → Prop} (K : ∀ I1 L1, sq_M q p2 I1 L1 → (∀ r k, ¬ (r = 104 ∧ 406 * p2 ≤ k ∧ k < 406 * p2 + 406) → I1 r k = I r k) → (∀ r k, ¬ (r = 105 ∧ 6 * p2 ≤ k ∧ k < 6 * p2 + 6) → L1 r k = L r k) → Q I1 L1) : wp_M_copies I L R 103 (nI p1) (nI p2) Q := by
  have o7 := ok.2.2.2.2.1
  have o2 := ok.1.2.2.1.1
  refine ⟨407, sm_copy2 h1 h2 hn 406 0 I (by omega) (fun I1 a1 f1 => ⟨7, sm_copy41 h1 h2 hn 6 0 L (by omega) (fun L1 a2 f2 => K I1 L1 ⟨fun k hk g => ?_, ?_, fun j hj i hi g => ?_, fun t ht => ?_⟩ (fun r k g => f1 r k (by omega)) (fun r k g => f2 r k (by omega)))⟩)⟩
  · rw [a1 k (by omega) (by omega)]; exact h.1 k hk g
  · rw [a1 7 (by omega) (by omega)]; exact h.2.1
  · rw [a1 (38 + 6 * j + i) (by omega) (by omega)]; exact h.2.2.1 j hj i hi g
  · rw [a2 t (by omega) (by omega)]; exact h.2.2.2 t ht
theorem sq_M.keepS {s : Nat} (h : sq_M q s I L) (ok : sq_Ok q) (e : ∀ k, 406 * s ≤ k → k < 406 * s + 406 → I1 104 k = I 104 k) (eL : ∀ k, 6 * s ≤ k → k < 6 * s + 6 → L1 105 k = L 105 k) : sq_M q s I1 L1 := by
  have o7 := ok.2.2.2.2.1
  have o2 := ok.1.2.2.1.1
  refine ⟨fun k hk g => ?_, ?_, fun j hj i hi g => ?_, fun t ht => ?_⟩
  · rw [e _ (by omega) (by omega)]; exact h.1 k hk g
  · rw [e _ (by omega) (by omega)]; exact h.2.1
  · rw [e _ (by omega) (by omega)]; exact h.2.2.1 j hj i hi g
  · rw [eL _ (by omega) (by omega)]; exact h.2.2.2 t ht
theorem op_mark (ok : sq_Ok q) (mok : ma_Ok n mk) : si_K q n mk (fun I L R Q => wp_U_mark I L R 0 Q) (fun I L R Q => wp_M_mark I L R 103 Q) := by
  obtain ⟨n3, mo⟩ := mok
  by_cases g : n = 3
  · refine ⟨nM, 4, q, n, mk, ⟨ok, n3, mo⟩, ?_, ?_⟩
    · intro c d I L R hcd h hr h6 m Q K
      have hcd' := hcd
      obtain ⟨c1, c2⟩ := hcd'
      have k2 := K (am_u2 I 0 15 (nI 4)) L (po_U.q0 h hcd _).1 (by rw [am_u2o (by omega)]; exact h6) (am_u2_at _ _ _ _) ⟨by rw [am_u2_ne _ _ _ _ (by omega)]; exact m.1, fun i hi => ⟨((m.2 i hi).1).keep (fun r hr => am_u2_row _ _ _ _ (by omega)) rfl, by rw [am_u2o (by omega)]; exact (m.2 i hi).2⟩⟩ (fun r k x _ _ _ => by unfold am_u2; rw [if_neg (by omega)]) (fun _ _ _ => rfl)
      simp (disch := omega) only [wp_U_mark, wp_U_refused, m.1, zi_0, zi_1, zi_2, zi_3, zi_4, zi_5, zi_6, zi_7, zi_8, zi_9, zi_10, zi_11, zi_12, zi_13, zi_14, zi_15, zi_16, zi_17, zi_18, zi_19, zi_20, zi_21, zi_22, zi_23, zi_24, zi_25, zi_26, zi_30, zi_31, zi_32, zi_34, zi_38, zi_59, zi_60, zi_61, zi_63, zi_64, zi_80, zi_96, zi_97, zi_99, zi_100, zi_122, zi_255, zi_256, zi_300, zi_398, zi_406, zi_900, zi_1000, zi_1024, zi_1624, zi_1662, zi_2030, zi_2031, zi_2068, zi_2258, zi_9999, zi_48, zi_57, zi_65536, zi_3257, zi_11483, zi_1000000, zi_729, zi_81, zi_m1, nI_add, pk_mul, nI_ltI, nI_leI, nI_eq, nI_clamp, zn_in, zn_sub1lt, zn_M, zn_Ml, zn_Mg, zn_Mle, zn_Mge, zn_sub, Nat.reduceAdd, Nat.reduceMul, forall_eq, true_imp_iff, false_imp_iff, and_true, true_and, not_true_eq_false, not_false_eq_true, reduceCtorEq, imp_self, eq_self, false_and, and_false, implies_true]
      repeat' (first | omega | with_reducible refine And.intro ?_ ?_ | with_reducible intro g)
      all_goals exact k2
    · intro I L R h m Q K
      have k2 := K (am_u2 I 103 2 (nI 4)) L (po_M.q0 h ok _).1 (am_u2_at _ _ _ _) ⟨by rw [am_u2_ne _ _ _ _ (by omega)]; exact m.1, fun i hi => (m.2 i hi).keepS (mo i hi) (fun k _ _ => am_u2o (by omega)) (fun _ _ _ => rfl)⟩ (fun r k x _ => by unfold am_u2; rw [if_neg (by omega)]) (fun _ _ => rfl)
      simp (disch := omega) only [wp_M_mark, wp_M_refuse, m.1, g, zi_0, zi_1, zi_2, zi_3, zi_4, zi_5, zi_6, zi_7, zi_8, zi_9, zi_10, zi_11, zi_12, zi_13, zi_14, zi_15, zi_16, zi_17, zi_18, zi_19, zi_20, zi_21, zi_22, zi_23, zi_24, zi_25, zi_26, zi_30, zi_31, zi_32, zi_34, zi_38, zi_59, zi_60, zi_61, zi_63, zi_64, zi_80, zi_96, zi_97, zi_99, zi_100, zi_122, zi_255, zi_256, zi_300, zi_398, zi_406, zi_900, zi_1000, zi_1024, zi_1624, zi_1662, zi_2030, zi_2031, zi_2068, zi_2258, zi_9999, zi_48, zi_57, zi_65536, zi_3257, zi_11483, zi_1000000, zi_729, zi_81, zi_m1, nI_add, pk_mul, nI_ltI, nI_leI, nI_eq, nI_clamp, zn_in, zn_sub1lt, zn_M, zn_Ml, zn_Mg, zn_Mle, zn_Mge, zn_sub, Nat.reduceAdd, Nat.reduceMul, forall_eq, true_imp_iff, false_imp_iff, and_true, true_and, not_true_eq_false, not_false_eq_true, reduceCtorEq, imp_self, eq_self, false_and, and_false, implies_true]
      repeat' (first | omega | with_reducible refine And.intro ?_ ?_ | with_reducible intro g)
      all_goals exact k2
  · have mk2 : ∀ i, (if i = n then q else mk i) = if i = n then q else mk i := fun _ => rfl
    refine ⟨nI (n + 1), 0, q, n + 1, fun i => if i = n then q else mk i, ⟨ok, by omega, fun i hi => ?_⟩, ?_, ?_⟩
    · show sq_Ok (if i = n then q else mk i)
      split
      · exact ok
      · exact mo i (by omega)
    · intro c d I L R hcd h hr h6 m Q K
      have hcd' := hcd
      obtain ⟨c1, c2⟩ := hcd'
      obtain ⟨r1, r2, r3⟩ := hr
      obtain ⟨r3a, r3b⟩ := r3 n (by omega)
      have main : wp_Square_copyFrom I L R (67 + 12 * n) c (fun I1 L1 => ∀ I2, I2 = am_u2 I1 0 14 (I1 0 14 + nI 1) → wp_U_answered I2 L1 R 0 (I2 0 14) (fun r1 I3 => Q r1 I3 L1)) := by
        refine su_copy h ok r3b r2 (by omega) (by omega) (by omega) (by omega) (by omega) h6 (fun I1 L1 s1 e1 f1 l1 => ?_)
        have i14 : I1 0 14 = nI n := by rw [f1 0 (by omega) (by omega)]; exact m.1
        have hh : sq_U q c d I1 L1 := h.keep (fun r hr => f1 r (by omega) (by omega)) (l1 _ (by omega))
        have h2 : sq_U q c d (am_u2 (am_u2 I1 0 14 (nI (n + 1))) 0 15 (nI 0)) L1 := hh.keep (fun r hr => by rw [am_u2_row _ _ _ _ (by omega), am_u2_row _ _ _ _ (by omega)]) rfl
        simp (disch := omega) only [wp_U_answered, i14, am_u2_at, zi_0, zi_1, zi_2, zi_3, zi_4, zi_5, zi_6, zi_7, zi_8, zi_9, zi_10, zi_11, zi_12, zi_13, zi_14, zi_15, zi_16, zi_17, zi_18, zi_19, zi_20, zi_21, zi_22, zi_23, zi_24, zi_25, zi_26, zi_30, zi_31, zi_32, zi_34, zi_38, zi_59, zi_60, zi_61, zi_63, zi_64, zi_80, zi_96, zi_97, zi_99, zi_100, zi_122, zi_255, zi_256, zi_300, zi_398, zi_406, zi_900, zi_1000, zi_1024, zi_1624, zi_1662, zi_2030, zi_2031, zi_2068, zi_2258, zi_9999, zi_48, zi_57, zi_65536, zi_3257, zi_11483, zi_1000000, zi_729, zi_81, zi_m1, nI_add, pk_mul, nI_ltI, nI_leI, nI_eq, nI_clamp, zn_in, zn_sub1lt, zn_M, zn_Ml, zn_Mg, zn_Mle, zn_Mge, zn_sub, Nat.reduceAdd, Nat.reduceMul, forall_eq, true_imp_iff, false_imp_iff, and_true, true_and, not_true_eq_false, not_false_eq_true, reduceCtorEq, imp_self, eq_self, false_and, and_false, implies_true]
        refine K _ _ h2 (by rw [am_u2o (by omega), am_u2o (by omega), f1 d (by omega) (by omega)]; exact h6) (am_u2_at _ _ _ _) ⟨by rw [am_u2_ne _ _ _ _ (by omega), am_u2_at], fun i hi => ?_⟩ (fun r k x y w u => ?_) (fun r x y => l1 r (by omega))
        · dsimp only
          split
          · next e =>
            subst e
            exact ⟨s1.keep (fun r hr => by rw [am_u2_row _ _ _ _ (by omega), am_u2_row _ _ _ _ (by omega)]) rfl, by rw [am_u2o (by omega), am_u2o (by omega)]; exact e1⟩
          · next e =>
            exact ⟨((m.2 i (by omega)).1).keep (fun r hr => by rw [am_u2_row _ _ _ _ (by omega), am_u2_row _ _ _ _ (by omega), f1 r (by omega) (by omega)]) (l1 _ (by omega)), by rw [am_u2o (by omega), am_u2o (by omega), f1 _ (by omega) (by omega)]; exact (m.2 i (by omega)).2⟩
        · unfold am_u2
          rw [if_neg (by omega), if_neg (by omega), f1 r (by omega) (by omega)]
      simp (disch := omega) only [wp_U_mark, m.1, r1, r3a, zi_0, zi_1, zi_2, zi_3, zi_4, zi_5, zi_6, zi_7, zi_8, zi_9, zi_10, zi_11, zi_12, zi_13, zi_14, zi_15, zi_16, zi_17, zi_18, zi_19, zi_20, zi_21, zi_22, zi_23, zi_24, zi_25, zi_26, zi_30, zi_31, zi_32, zi_34, zi_38, zi_59, zi_60, zi_61, zi_63, zi_64, zi_80, zi_96, zi_97, zi_99, zi_100, zi_122, zi_255, zi_256, zi_300, zi_398, zi_406, zi_900, zi_1000, zi_1024, zi_1624, zi_1662, zi_2030, zi_2031, zi_2068, zi_2258, zi_9999, zi_48, zi_57, zi_65536, zi_3257, zi_11483, zi_1000000, zi_729, zi_81, zi_m1, nI_add, pk_mul, nI_ltI, nI_leI, nI_eq, nI_clamp, zn_in, zn_sub1lt, zn_M, zn_Ml, zn_Mg, zn_Mle, zn_Mge, zn_sub, Nat.reduceAdd, Nat.reduceMul]
      exact ⟨fun _ => ⟨by omega, main⟩, fun x => absurd (by omega) x⟩
    · intro I L R h m Q K
      have h1 : sq_M q 0 (am_u2 I 103 50 (nI (n + 1))) L := h.keepV ok (by omega) _ _
      have main : wp_M_copies (am_u2 I 103 50 (nI (n + 1))) L R 103 (nI 0) (nI (n + 1)) (fun I2 L1 => wp_M_gives I2 L1 R 103 (I2 103 50) (fun r1 I3 => Q r1 I3 L1)) := by
        refine sm_copies h1 ok (by omega) (by omega) (by omega) (fun I1 L1 s1 f1 l1 => ?_)
        have i50 : I1 103 50 = nI (n + 1) := by rw [f1 103 50 (by omega), am_u2_at]
        have hh : sq_M q 0 I1 L1 := h1.keepS ok (fun k a b => f1 104 k (by omega)) (fun k a b => l1 105 k (by omega))
        simp (disch := omega) only [wp_M_gives, i50, zi_0, zi_1, zi_2, zi_3, zi_4, zi_5, zi_6, zi_7, zi_8, zi_9, zi_10, zi_11, zi_12, zi_13, zi_14, zi_15, zi_16, zi_17, zi_18, zi_19, zi_20, zi_21, zi_22, zi_23, zi_24, zi_25, zi_26, zi_30, zi_31, zi_32, zi_34, zi_38, zi_59, zi_60, zi_61, zi_63, zi_64, zi_80, zi_96, zi_97, zi_99, zi_100, zi_122, zi_255, zi_256, zi_300, zi_398, zi_406, zi_900, zi_1000, zi_1024, zi_1624, zi_1662, zi_2030, zi_2031, zi_2068, zi_2258, zi_9999, zi_48, zi_57, zi_65536, zi_3257, zi_11483, zi_1000000, zi_729, zi_81, zi_m1, nI_add, pk_mul, nI_ltI, nI_leI, nI_eq, nI_clamp, zn_in, zn_sub1lt, zn_M, zn_Ml, zn_Mg, zn_Mle, zn_Mge, zn_sub, Nat.reduceAdd, Nat.reduceMul, forall_eq, true_imp_iff, false_imp_iff, and_true, true_and, not_true_eq_false, not_false_eq_true, reduceCtorEq, imp_self, eq_self, false_and, and_false, implies_true]
        refine K _ _ (po_M.q0 hh ok _).1 (am_u2_at _ _ _ _) ⟨by rw [am_u2_ne _ _ _ _ (by omega)]; exact i50, fun i hi => ?_⟩ (fun r k x y => ?_) (fun r x => by funext k; exact l1 r k (by omega))
        · dsimp only
          split
          · next e =>
            subst e
            exact s1.keepS ok (fun k _ _ => am_u2o (by omega)) (fun _ _ _ => rfl)
          · next e =>
            exact (m.2 i (by omega)).keepS (mo i (by omega)) (fun k _ _ => by rw [am_u2o (by omega), f1 104 k (by omega), am_u2o (by omega)]) (fun k _ _ => l1 105 k (by omega))
        · unfold am_u2
          rw [if_neg (by omega), f1 r k (by omega)]
          unfold am_u2
          rw [if_neg (by omega)]
      simp (disch := omega) only [wp_M_mark, m.1, am_u2_at, zi_0, zi_1, zi_2, zi_3, zi_4, zi_5, zi_6, zi_7, zi_8, zi_9, zi_10, zi_11, zi_12, zi_13, zi_14, zi_15, zi_16, zi_17, zi_18, zi_19, zi_20, zi_21, zi_22, zi_23, zi_24, zi_25, zi_26, zi_30, zi_31, zi_32, zi_34, zi_38, zi_59, zi_60, zi_61, zi_63, zi_64, zi_80, zi_96, zi_97, zi_99, zi_100, zi_122, zi_255, zi_256, zi_300, zi_398, zi_406, zi_900, zi_1000, zi_1024, zi_1624, zi_1662, zi_2030, zi_2031, zi_2068, zi_2258, zi_9999, zi_48, zi_57, zi_65536, zi_3257, zi_11483, zi_1000000, zi_729, zi_81, zi_m1, nI_add, pk_mul, nI_ltI, nI_leI, nI_eq, nI_clamp, zn_in, zn_sub1lt, zn_M, zn_Ml, zn_Mg, zn_Mle, zn_Mge, zn_sub, Nat.reduceAdd, Nat.reduceMul, forall_eq, true_imp_iff, false_imp_iff, and_true, true_and, not_true_eq_false, not_false_eq_true, reduceCtorEq, imp_self, eq_self, false_and, and_false, implies_true]
      repeat' (first | omega | with_reducible refine And.intro ?_ ?_ | with_reducible intro g)
      all_goals exact main
theorem op_undo (ok : sq_Ok q) (mok : ma_Ok n mk) : si_K q n mk (fun I L R Q => wp_U_undo I L R 0 Q) (fun I L R Q => wp_M_undo I L R 103 Q) := by
  obtain ⟨n3, mo⟩ := mok
  by_cases g : n = 0
  · refine ⟨nM, 6, q, n, mk, ⟨ok, n3, mo⟩, ?_, ?_⟩
    · intro c d I L R hcd h hr h6 m Q K
      have hcd' := hcd
      obtain ⟨c1, c2⟩ := hcd'
      have k2 := K (am_u2 I 0 15 (nI 6)) L (po_U.q0 h hcd _).1 (by rw [am_u2o (by omega)]; exact h6) (am_u2_at _ _ _ _) ⟨by rw [am_u2_ne _ _ _ _ (by omega)]; exact m.1, fun i hi => ⟨((m.2 i hi).1).keep (fun r hr => am_u2_row _ _ _ _ (by omega)) rfl, by rw [am_u2o (by omega)]; exact (m.2 i hi).2⟩⟩ (fun r k x _ _ _ => by unfold am_u2; rw [if_neg (by omega)]) (fun _ _ _ => rfl)
      simp (disch := omega) only [wp_U_undo, wp_U_refused, m.1, zi_0, zi_1, zi_2, zi_3, zi_4, zi_5, zi_6, zi_7, zi_8, zi_9, zi_10, zi_11, zi_12, zi_13, zi_14, zi_15, zi_16, zi_17, zi_18, zi_19, zi_20, zi_21, zi_22, zi_23, zi_24, zi_25, zi_26, zi_30, zi_31, zi_32, zi_34, zi_38, zi_59, zi_60, zi_61, zi_63, zi_64, zi_80, zi_96, zi_97, zi_99, zi_100, zi_122, zi_255, zi_256, zi_300, zi_398, zi_406, zi_900, zi_1000, zi_1024, zi_1624, zi_1662, zi_2030, zi_2031, zi_2068, zi_2258, zi_9999, zi_48, zi_57, zi_65536, zi_3257, zi_11483, zi_1000000, zi_729, zi_81, zi_m1, nI_add, pk_mul, nI_ltI, nI_leI, nI_eq, nI_clamp, zn_in, zn_sub1lt, zn_M, zn_Ml, zn_Mg, zn_Mle, zn_Mge, zn_sub, Nat.reduceAdd, Nat.reduceMul, forall_eq, true_imp_iff, false_imp_iff, and_true, true_and, not_true_eq_false, not_false_eq_true, reduceCtorEq, imp_self, eq_self, false_and, and_false, implies_true]
      repeat' (first | omega | with_reducible refine And.intro ?_ ?_ | with_reducible intro g)
      all_goals exact k2
    · intro I L R h m Q K
      have k2 := K (am_u2 I 103 2 (nI 6)) L (po_M.q0 h ok _).1 (am_u2_at _ _ _ _) ⟨by rw [am_u2_ne _ _ _ _ (by omega)]; exact m.1, fun i hi => (m.2 i hi).keepS (mo i hi) (fun k _ _ => am_u2o (by omega)) (fun _ _ _ => rfl)⟩ (fun r k x _ => by unfold am_u2; rw [if_neg (by omega)]) (fun _ _ => rfl)
      simp (disch := omega) only [wp_M_undo, wp_M_refuse, m.1, g, zi_0, zi_1, zi_2, zi_3, zi_4, zi_5, zi_6, zi_7, zi_8, zi_9, zi_10, zi_11, zi_12, zi_13, zi_14, zi_15, zi_16, zi_17, zi_18, zi_19, zi_20, zi_21, zi_22, zi_23, zi_24, zi_25, zi_26, zi_30, zi_31, zi_32, zi_34, zi_38, zi_59, zi_60, zi_61, zi_63, zi_64, zi_80, zi_96, zi_97, zi_99, zi_100, zi_122, zi_255, zi_256, zi_300, zi_398, zi_406, zi_900, zi_1000, zi_1024, zi_1624, zi_1662, zi_2030, zi_2031, zi_2068, zi_2258, zi_9999, zi_48, zi_57, zi_65536, zi_3257, zi_11483, zi_1000000, zi_729, zi_81, zi_m1, nI_add, pk_mul, nI_ltI, nI_leI, nI_eq, nI_clamp, zn_in, zn_sub1lt, zn_M, zn_Ml, zn_Mg, zn_Mle, zn_Mge, zn_sub, Nat.reduceAdd, Nat.reduceMul, forall_eq, true_imp_iff, false_imp_iff, and_true, true_and, not_true_eq_false, not_false_eq_true, reduceCtorEq, imp_self, eq_self, false_and, and_false, implies_true]
      repeat' (first | omega | with_reducible refine And.intro ?_ ?_ | with_reducible intro g)
      all_goals exact k2
  · obtain ⟨n, rfl⟩ : ∃ x, n = x + 1 := ⟨n - 1, by omega⟩
    have okn := mo n (by omega)
    refine ⟨nI n, 0, mk n, n, mk, ⟨okn, by omega, fun i hi => mo i (by omega)⟩, ?_, ?_⟩
    · intro c d I L R hcd h hr h6 m Q K
      have hcd' := hcd
      obtain ⟨c1, c2⟩ := hcd'
      obtain ⟨r1, r2, r3⟩ := hr
      obtain ⟨r3a, r3b⟩ := r3 n (by omega)
      obtain ⟨mn1, mn2⟩ := m.2 n (by omega)
      have main : wp_Square_copyFrom (am_u2 I 0 14 (nI n)) L R c (67 + 12 * n) (fun I1 L1 => wp_U_answered I1 L1 R 0 (I1 0 14) (fun r1 I3 => Q r1 I3 L1)) := by
        refine su_copy (mn1.keep (fun r hr => am_u2_row _ _ _ _ (by omega)) rfl) okn r2 r3b (by omega) (by omega) (by omega) (by omega) (by omega) (by rw [am_u2o (by omega)]; exact mn2) (fun I1 L1 s1 e1 f1 l1 => ?_)
        have i14 : I1 0 14 = nI n := by rw [f1 0 (by omega) (by omega), am_u2_at]
        simp (disch := omega) only [wp_U_answered, i14, zi_0, zi_1, zi_2, zi_3, zi_4, zi_5, zi_6, zi_7, zi_8, zi_9, zi_10, zi_11, zi_12, zi_13, zi_14, zi_15, zi_16, zi_17, zi_18, zi_19, zi_20, zi_21, zi_22, zi_23, zi_24, zi_25, zi_26, zi_30, zi_31, zi_32, zi_34, zi_38, zi_59, zi_60, zi_61, zi_63, zi_64, zi_80, zi_96, zi_97, zi_99, zi_100, zi_122, zi_255, zi_256, zi_300, zi_398, zi_406, zi_900, zi_1000, zi_1024, zi_1624, zi_1662, zi_2030, zi_2031, zi_2068, zi_2258, zi_9999, zi_48, zi_57, zi_65536, zi_3257, zi_11483, zi_1000000, zi_729, zi_81, zi_m1, nI_add, pk_mul, nI_ltI, nI_leI, nI_eq, nI_clamp, zn_in, zn_sub1lt, zn_M, zn_Ml, zn_Mg, zn_Mle, zn_Mge, zn_sub, Nat.reduceAdd, Nat.reduceMul, forall_eq, true_imp_iff, false_imp_iff, and_true, true_and, not_true_eq_false, not_false_eq_true, reduceCtorEq, imp_self, eq_self, false_and, and_false, implies_true]
        refine K _ _ (po_U.q0 s1 hcd _).1 (by rw [am_u2o (by omega)]; exact e1) (am_u2_at _ _ _ _) ⟨by rw [am_u2_ne _ _ _ _ (by omega)]; exact i14, fun i hi => ?_⟩ (fun r k x y w u => ?_) (fun r x y => l1 r (by omega))
        · exact ⟨((m.2 i (by omega)).1).keep (fun r hr => by rw [am_u2_row _ _ _ _ (by omega), f1 r (by omega) (by omega), am_u2_row _ _ _ _ (by omega)]) (l1 _ (by omega)), by rw [am_u2o (by omega), f1 _ (by omega) (by omega), am_u2o (by omega)]; exact (m.2 i (by omega)).2⟩
        · unfold am_u2
          rw [if_neg (by omega), f1 r (by omega) (by omega)]
          unfold am_u2
          rw [if_neg (by omega)]
      have e1 : n + 1 - 1 = n := by omega
      simp (disch := omega) only [wp_U_undo, m.1, r1, e1, r3a, am_u2_at, zi_0, zi_1, zi_2, zi_3, zi_4, zi_5, zi_6, zi_7, zi_8, zi_9, zi_10, zi_11, zi_12, zi_13, zi_14, zi_15, zi_16, zi_17, zi_18, zi_19, zi_20, zi_21, zi_22, zi_23, zi_24, zi_25, zi_26, zi_30, zi_31, zi_32, zi_34, zi_38, zi_59, zi_60, zi_61, zi_63, zi_64, zi_80, zi_96, zi_97, zi_99, zi_100, zi_122, zi_255, zi_256, zi_300, zi_398, zi_406, zi_900, zi_1000, zi_1024, zi_1624, zi_1662, zi_2030, zi_2031, zi_2068, zi_2258, zi_9999, zi_48, zi_57, zi_65536, zi_3257, zi_11483, zi_1000000, zi_729, zi_81, zi_m1, nI_add, pk_mul, nI_ltI, nI_leI, nI_eq, nI_clamp, zn_in, zn_sub1lt, zn_M, zn_Ml, zn_Mg, zn_Mle, zn_Mge, zn_sub, Nat.reduceAdd, Nat.reduceMul, forall_eq, true_imp_iff, false_imp_iff, and_true, true_and, not_true_eq_false, not_false_eq_true, reduceCtorEq, imp_self, eq_self, false_and, and_false, implies_true]
      repeat' (first | omega | with_reducible refine And.intro ?_ ?_ | with_reducible intro g)
      all_goals exact main
    · intro I L R h m Q K
      have main : wp_M_copies I L R 103 (nI (n + 1)) (nI 0) (fun I1 L1 => ∀ I2, I2 = am_u2 I1 103 50 (I1 103 50 - nI 1) → wp_M_gives I2 L1 R 103 (I2 103 50) (fun r1 I3 => Q r1 I3 L1)) := by
        refine sm_copies (m.2 n (by omega)) okn (by omega) (by omega) (by omega) (fun I1 L1 s1 f1 l1 => ?_)
        have i50 : I1 103 50 = nI (n + 1) := by rw [f1 103 50 (by omega)]; exact m.1
        have hh : sq_M (mk n) 0 (am_u2 I1 103 50 (nI n)) L1 := s1.keepS okn (fun k _ _ => am_u2o (by omega)) (fun _ _ _ => rfl)
        have e1 : n + 1 - 1 = n := by omega
        simp (disch := omega) only [wp_M_gives, i50, e1, am_u2_at, zi_0, zi_1, zi_2, zi_3, zi_4, zi_5, zi_6, zi_7, zi_8, zi_9, zi_10, zi_11, zi_12, zi_13, zi_14, zi_15, zi_16, zi_17, zi_18, zi_19, zi_20, zi_21, zi_22, zi_23, zi_24, zi_25, zi_26, zi_30, zi_31, zi_32, zi_34, zi_38, zi_59, zi_60, zi_61, zi_63, zi_64, zi_80, zi_96, zi_97, zi_99, zi_100, zi_122, zi_255, zi_256, zi_300, zi_398, zi_406, zi_900, zi_1000, zi_1024, zi_1624, zi_1662, zi_2030, zi_2031, zi_2068, zi_2258, zi_9999, zi_48, zi_57, zi_65536, zi_3257, zi_11483, zi_1000000, zi_729, zi_81, zi_m1, nI_add, pk_mul, nI_ltI, nI_leI, nI_eq, nI_clamp, zn_in, zn_sub1lt, zn_M, zn_Ml, zn_Mg, zn_Mle, zn_Mge, zn_sub, Nat.reduceAdd, Nat.reduceMul, forall_eq, true_imp_iff, false_imp_iff, and_true, true_and, not_true_eq_false, not_false_eq_true, reduceCtorEq, imp_self, eq_self, false_and, and_false, implies_true]
        refine K _ _ (po_M.q0 hh okn _).1 (am_u2_at _ _ _ _) ⟨by rw [am_u2_ne _ _ _ _ (by omega), am_u2_at], fun i hi => ?_⟩ (fun r k x y => ?_) (fun r x => by funext k; exact l1 r k (by omega))
        · exact (m.2 i (by omega)).keepS (mo i (by omega)) (fun k _ _ => by rw [am_u2o (by omega), am_u2o (by omega), f1 104 k (by omega)]) (fun k _ _ => l1 105 k (by omega))
        · unfold am_u2
          rw [if_neg (by omega), if_neg (by omega), f1 r k (by omega)]
      simp (disch := omega) only [wp_M_undo, m.1, zi_0, zi_1, zi_2, zi_3, zi_4, zi_5, zi_6, zi_7, zi_8, zi_9, zi_10, zi_11, zi_12, zi_13, zi_14, zi_15, zi_16, zi_17, zi_18, zi_19, zi_20, zi_21, zi_22, zi_23, zi_24, zi_25, zi_26, zi_30, zi_31, zi_32, zi_34, zi_38, zi_59, zi_60, zi_61, zi_63, zi_64, zi_80, zi_96, zi_97, zi_99, zi_100, zi_122, zi_255, zi_256, zi_300, zi_398, zi_406, zi_900, zi_1000, zi_1024, zi_1624, zi_1662, zi_2030, zi_2031, zi_2068, zi_2258, zi_9999, zi_48, zi_57, zi_65536, zi_3257, zi_11483, zi_1000000, zi_729, zi_81, zi_m1, nI_add, pk_mul, nI_ltI, nI_leI, nI_eq, nI_clamp, zn_in, zn_sub1lt, zn_M, zn_Ml, zn_Mg, zn_Mle, zn_Mge, zn_sub, Nat.reduceAdd, Nat.reduceMul]
      exact ⟨fun x => absurd x (by omega), fun _ => main⟩
end
