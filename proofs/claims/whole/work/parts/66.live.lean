/-! days: a whole run; live, lived: both answer alike -/
section
variable {q : Nat → Nat} {c d : Nat} {I I0 I1 I2 : am_TI} {L L1 L2 : am_TL} {R : am_TR}
/-- the class's position behind a step; the reference's, ahead of the ends -/
def dn_M (q : Nat → Nat) (q' : Nat → Nat) (k : Nat) : Nat := if 1700 ≤ q (38 + 6 * k) ∧ dho q' k = false then q (42 + 6 * k) + 1 else k + 1
theorem dl_cong {q' : Nat → Nat} (e : ∀ k, (k < 6 ∨ k = 7 ∨ 34 ≤ k) → q' k = q k) (k o : Nat) : dl q' k o ↔ dl q k o := by
  unfold dl
  rw [e 7 (by omega), e (38 + 6 * o) (by omega), e (42 + 6 * o) (by omega)]
/-- how the class's and the reference's counts end -/
def lf_U (c v : Nat) (I I1 : am_TI) (tm tp tc th lf st : Nat) : Prop := I1 v 5 = I v 5 + nI tm ∧ I1 v 6 = I v 6 + nI tp ∧ I1 v 7 = I v 7 + nI tc ∧ I1 v 8 = I v 8 + nI th ∧ I1 v 9 = nI lf ∧ I1 v 10 = nI st ∧ I1 v 11 = I v 11 ∧ ∀ r, ¬ (c ≤ r ∧ r ≤ c + 5) → r ≠ v → r ≠ v + 1 → I1 r = I r
def lf_M (I I1 : am_TI) (tm tp tc th lf st : Nat) : Prop := I1 131 0 = I 131 0 + nI tm ∧ I1 131 1 = I 131 1 + nI tp ∧ I1 131 2 = I 131 2 + nI tc ∧ I1 131 3 = I 131 3 + nI th ∧ I1 131 4 = (if lf = 1 then nI 1 else I 131 4) ∧ I1 103 45 = nI st ∧ ∀ r k, r ≠ 130 → r ≠ 131 → ¬ (r = 103 ∧ (k = 44 ∨ k = 45)) → ¬ (r = 104 ∧ k < 38) → I1 r k = I r k
def ru (q : Nat → Nat) (s k : Nat) (tl : Nat → Nat) (n st : Nat) : Prop := ∃ (qf : Nat → Nat) (tm tp tc th lf sf : Nat), sq_Ok qf ∧ (∀ k, (k < 6 ∨ k = 7 ∨ 34 ≤ k) → qf k = q k) ∧ lf ≤ 1 ∧ sf ≤ 300 ∧
  (∃ z, ∀ c d v I L R p2 Q i, sq_cd c d → (v = 12 ∨ v = 14) → am_rd R c 5 = d → sq_U q c d I L → I v 1 = nI s → I v 9 = nI 0 → I v 10 = nI st → (∀ o, dl q k o → I (v + 1) o = nI (tl o + 1)) → i + 130 * n + 200 ≤ 100000 → (∀ I1, sq_U qf c d I1 L → lf_U c v I I1 tm tp tc th lf sf → Q I1) → wl_Life_run_51 L R v c p2 Q z I d (nI k) (nI i)) ∧
  (∃ z, ∀ I L R p1 Q, sq_M q 0 I L → I 103 44 = nI s → I 103 45 = nI st → (∀ o, dl q k o → I 130 o = nI (tl o)) → (∀ I1, sq_M qf 0 I1 L → lf_M I I1 tm tp tc th lf sf → Q I1) → wl_M_lives_32 L R 103 p1 Q z I (nI k))
theorem ru_end (ok : sq_Ok q) (h7 : 0 < q 7) {s k n st : Nat} {tl : Nat → Nat} (hk : k + 1 = q 7) (hst : st ≤ 300) : ru q s k tl n st := by
  have z : ∀ x : Int32, x = x + nI 0 := fun x => (Int32.add_zero x).symm
  have o7 := ok.2.2.2.2.1
  refine ⟨q, 0, 0, 0, 0, 0, st, ok, fun _ _ => rfl, by omega, hst, ⟨1, ?_⟩, ⟨1, ?_⟩⟩
  · intro c d v I L R p2 Q i hcd hv hd h e1 e9 e10 et hi K
    have e6 : I d 6 = nI (q 7 - 1) := h.dy.2.1 (by omega)
    have k2 := K I h ⟨z _, z _, z _, z _, e9, e10, rfl, fun _ _ _ _ => rfl⟩
    rw [wl_Life_run_51]
    simp (disch := omega) only [zi_100000, e6, zi_0, zi_1, zi_2, zi_3, zi_4, zi_5, zi_6, zi_7, zi_8, zi_9, zi_10, zi_11, zi_12, zi_13, zi_14, zi_15, zi_16, zi_17, zi_18, zi_19, zi_20, zi_21, zi_22, zi_23, zi_24, zi_25, zi_26, zi_30, zi_31, zi_32, zi_34, zi_38, zi_59, zi_60, zi_61, zi_63, zi_64, zi_80, zi_96, zi_97, zi_99, zi_100, zi_122, zi_255, zi_256, zi_300, zi_398, zi_406, zi_900, zi_1000, zi_1024, zi_1624, zi_1662, zi_2030, zi_2031, zi_2068, zi_2258, zi_9999, zi_48, zi_57, zi_65536, zi_3257, zi_11483, zi_1000000, zi_729, zi_81, zi_m1, nI_add, pk_mul, nI_ltI, nI_leI, nI_eq, nI_clamp, zn_in, zn_sub1lt, zn_M, zn_Ml, zn_Mg, zn_Mle, zn_Mge, zn_sub, Nat.reduceAdd, Nat.reduceMul]
    exact ⟨fun x => absurd x (by omega), fun _ => ⟨fun _ => k2, fun x => absurd (by omega) x⟩⟩
  · intro I L R p1 Q h e44 e45 et K
    have e7 : I 104 7 = nI (q 7 - 1) := by rw [h.n7, zn_sub (by omega)]
    have k2 := K I h ⟨z _, z _, z _, z _, by rw [if_neg (by omega)], e45, fun _ _ _ _ _ _ => rfl⟩
    rw [wl_M_lives_32]
    simp (disch := omega) only [e7, zi_0, zi_1, zi_2, zi_3, zi_4, zi_5, zi_6, zi_7, zi_8, zi_9, zi_10, zi_11, zi_12, zi_13, zi_14, zi_15, zi_16, zi_17, zi_18, zi_19, zi_20, zi_21, zi_22, zi_23, zi_24, zi_25, zi_26, zi_30, zi_31, zi_32, zi_34, zi_38, zi_59, zi_60, zi_61, zi_63, zi_64, zi_80, zi_96, zi_97, zi_99, zi_100, zi_122, zi_255, zi_256, zi_300, zi_398, zi_406, zi_900, zi_1000, zi_1024, zi_1624, zi_1662, zi_2030, zi_2031, zi_2068, zi_2258, zi_9999, zi_48, zi_57, zi_65536, zi_3257, zi_11483, zi_1000000, zi_729, zi_81, zi_m1, nI_add, pk_mul, nI_ltI, nI_leI, nI_eq, nI_clamp, zn_in, zn_sub1lt, zn_M, zn_Ml, zn_Mg, zn_Mle, zn_Mge, zn_sub, Nat.reduceAdd, Nat.reduceMul]
    exact ⟨fun _ => k2, fun x => absurd (by omega) x⟩
theorem dy_wl (ok : sq_Ok q) {k : Nat} (g : k + 1 < q 7) : q (38 + 6 * k) < 2000 ∧ dy_w (q (38 + 6 * k)) < 100 ∧ (dy_w (q (38 + 6 * k)) = 23 → q (38 + 6 * k) = 19) := by
  have r := ok.2.2.2.2.2.1 k g
  unfold dy_row at r
  have : q (38 + 6 * k) = 10 ∨ q (38 + 6 * k) = 11 ∨ q (38 + 6 * k) = 12 ∨ q (38 + 6 * k) = 13 ∨ q (38 + 6 * k) = 14 ∨ q (38 + 6 * k) = 15 ∨ q (38 + 6 * k) = 16 ∨ q (38 + 6 * k) = 18 ∨ q (38 + 6 * k) = 19 ∨ q (38 + 6 * k) = 20 ∨ q (38 + 6 * k) = 1721 ∨ q (38 + 6 * k) = 1722 ∨ q (38 + 6 * k) = 1723 ∨ q (38 + 6 * k) = 1724 := by omega
  rcases this with e | e | e | e | e | e | e | e | e | e | e | e | e | e <;> rw [e] <;> decide
theorem ru_sim : ∀ n q s k (tl : Nat → Nat) st, sq_Ok q → 0 < q 7 → s < 65536 → st + n = 300 → k < q 7 → (k + 1 < q 7 → q (38 + 6 * k) ≠ 19) → (∀ o, dl q k o → tl o ≤ 98) → ru q s k tl n st := by
  have z : ∀ x : Int32, x = x + nI 0 := fun x => (Int32.add_zero x).symm
  intro n
  induction n with
  | zero =>
    intro q s k tl st ok h7 hs hst hk h19 ht
    by_cases g : k + 1 < q 7
    rotate_left
    · exact ru_end ok h7 (by omega) (by omega)
    have o7 := ok.2.2.2.2.1
    obtain ⟨w1, w2, w3⟩ := dy_wl ok g
    refine ⟨q, 0, 0, 0, 0, 1, st, ok, fun _ _ => rfl, by omega, by omega, ⟨2, ?_⟩, ⟨1, ?_⟩⟩
    · intro c d v I L R p2 Q i hcd hv hd h e1 e9 e10 et hi K
      have e6 : I d 6 = nI (q 7 - 1) := h.dy.2.1 (by omega)
      have ew := (h.dy.2.2 k g).1
      have n9 : ¬ dy_w (q (38 + 6 * k)) = 23 := fun x => h19 g (w3 x)
      have k2 := K (am_u2 I v 9 (nI 1)) (h.keepV hcd hv _ _) ⟨by rw [am_u2_ne _ _ _ _ (by omega)]; exact z _, by rw [am_u2_ne _ _ _ _ (by omega)]; exact z _, by rw [am_u2_ne _ _ _ _ (by omega)]; exact z _, by rw [am_u2_ne _ _ _ _ (by omega)]; exact z _, am_u2_at _ _ _ _, by rw [am_u2_ne _ _ _ _ (by omega)]; exact e10, by rw [am_u2_ne _ _ _ _ (by omega)], fun r x y w => am_u2_row _ _ _ _ y⟩
      have e62 : am_u2 I v 9 (nI 1) d 6 = nI (q 7 - 1) := by rw [am_u2_ne _ _ _ _ (by omega)]; exact e6
      rw [wl_Life_run_51]
      simp (disch := omega) only [zi_100000, e6, e9, ew, e10, zi_0, zi_1, zi_2, zi_3, zi_4, zi_5, zi_6, zi_7, zi_8, zi_9, zi_10, zi_11, zi_12, zi_13, zi_14, zi_15, zi_16, zi_17, zi_18, zi_19, zi_20, zi_21, zi_22, zi_23, zi_24, zi_25, zi_26, zi_30, zi_31, zi_32, zi_34, zi_38, zi_59, zi_60, zi_61, zi_63, zi_64, zi_80, zi_96, zi_97, zi_99, zi_100, zi_122, zi_255, zi_256, zi_300, zi_398, zi_406, zi_900, zi_1000, zi_1024, zi_1624, zi_1662, zi_2030, zi_2031, zi_2068, zi_2258, zi_9999, zi_48, zi_57, zi_65536, zi_3257, zi_11483, zi_1000000, zi_729, zi_81, zi_m1, nI_add, pk_mul, nI_ltI, nI_leI, nI_eq, nI_clamp, zn_in, zn_sub1lt, zn_M, zn_Ml, zn_Mg, zn_Mle, zn_Mge, zn_sub, Nat.reduceAdd, Nat.reduceMul]
      refine ⟨fun x => absurd x (by omega), fun _ => ⟨fun x => absurd x (by omega), fun _ => ⟨fun _ => ⟨by omega, fun x => absurd x n9, fun _ => ⟨fun x => absurd x (by omega), fun _ I12 h12 => ?_⟩⟩, fun x => absurd trivial x⟩⟩⟩
      rw [h12, wl_Life_run_51]
      simp (disch := omega) only [zi_100000, e62, am_u2_at, zi_0, zi_1, zi_2, zi_3, zi_4, zi_5, zi_6, zi_7, zi_8, zi_9, zi_10, zi_11, zi_12, zi_13, zi_14, zi_15, zi_16, zi_17, zi_18, zi_19, zi_20, zi_21, zi_22, zi_23, zi_24, zi_25, zi_26, zi_30, zi_31, zi_32, zi_34, zi_38, zi_59, zi_60, zi_61, zi_63, zi_64, zi_80, zi_96, zi_97, zi_99, zi_100, zi_122, zi_255, zi_256, zi_300, zi_398, zi_406, zi_900, zi_1000, zi_1024, zi_1624, zi_1662, zi_2030, zi_2031, zi_2068, zi_2258, zi_9999, zi_48, zi_57, zi_65536, zi_3257, zi_11483, zi_1000000, zi_729, zi_81, zi_m1, nI_add, pk_mul, nI_ltI, nI_leI, nI_eq, nI_clamp, zn_in, zn_sub1lt, zn_M, zn_Ml, zn_Mg, zn_Mle, zn_Mge, zn_sub, Nat.reduceAdd, Nat.reduceMul]
      exact ⟨fun x => absurd x (by omega), fun _ => ⟨fun x => absurd x (by omega), fun _ => ⟨fun x => absurd x (by omega), fun _ => k2⟩⟩⟩
    · intro I L R p1 Q h e44 e45 et K
      have e7 : I 104 7 = nI (q 7 - 1) := by rw [h.n7, zn_sub (by omega)]
      have k2 := K (am_u2 I 131 4 (nI 1)) (h.keepV ok (by omega) _ _) ⟨by rw [am_u2_ne _ _ _ _ (by omega)]; exact z _, by rw [am_u2_ne _ _ _ _ (by omega)]; exact z _, by rw [am_u2_ne _ _ _ _ (by omega)]; exact z _, by rw [am_u2_ne _ _ _ _ (by omega)]; exact z _, by rw [am_u2_at, if_pos rfl], by rw [am_u2o (by omega)]; exact e45, fun r k _ y _ _ => by rw [am_u2o y]⟩
      rw [wl_M_lives_32]
      simp (disch := omega) only [e7, e45, zi_0, zi_1, zi_2, zi_3, zi_4, zi_5, zi_6, zi_7, zi_8, zi_9, zi_10, zi_11, zi_12, zi_13, zi_14, zi_15, zi_16, zi_17, zi_18, zi_19, zi_20, zi_21, zi_22, zi_23, zi_24, zi_25, zi_26, zi_30, zi_31, zi_32, zi_34, zi_38, zi_59, zi_60, zi_61, zi_63, zi_64, zi_80, zi_96, zi_97, zi_99, zi_100, zi_122, zi_255, zi_256, zi_300, zi_398, zi_406, zi_900, zi_1000, zi_1024, zi_1624, zi_1662, zi_2030, zi_2031, zi_2068, zi_2258, zi_9999, zi_48, zi_57, zi_65536, zi_3257, zi_11483, zi_1000000, zi_729, zi_81, zi_m1, nI_add, pk_mul, nI_ltI, nI_leI, nI_eq, nI_clamp, zn_in, zn_sub1lt, zn_M, zn_Ml, zn_Mg, zn_Mle, zn_Mge, zn_sub, Nat.reduceAdd, Nat.reduceMul, forall_eq, true_imp_iff, false_imp_iff, and_true, true_and, not_true_eq_false, not_false_eq_true, reduceCtorEq, imp_self, eq_self, false_and, and_false, implies_true]
      exact ⟨fun x => absurd x (by omega), fun _ => ⟨fun _ => k2, fun x => absurd (by omega) x⟩⟩
  | succ n ih =>
    intro q s k tl st ok h7 hs hst hk h19 ht
    by_cases g : k + 1 < q 7
    rotate_left
    · exact ru_end ok h7 (by omega) (by omega)
    have o7 := ok.2.2.2.2.1
    obtain ⟨w1, w2, w3⟩ := dy_wl ok g
    have n9 : ¬ dy_w (q (38 + 6 * k)) = 23 := fun x => h19 g (w3 x)
    -- the class's turn with a step
    have turnU : ∀ (c d v : Nat) (I : am_TI) (L : am_TL) (R : am_TR) (p2 : Int32) (Q : am_TI → Prop) (z i : Nat), sq_cd c d → (v = 12 ∨ v = 14) → sq_U q c d I L → I v 9 = nI 0 → I v 10 = nI st → i < 100000 → wp_Life_act (am_u2 I v 10 (nI (st + 1))) L R v c (nI k) (fun I10 => wp_Life_behindStep I10 L R v c (nI k) (fun r1 I11 => wl_Life_run_51 L R v c p2 Q z I11 d r1 (nI (i + 1)))) → wl_Life_run_51 L R v c p2 Q (z + 1) I d (nI k) (nI i) := by
      intro c d v I L R p2 Q z i hcd hv h e9 e10 hi K
      have e6 : I d 6 = nI (q 7 - 1) := h.dy.2.1 (by omega)
      have ew := (h.dy.2.2 k g).1
      rw [wl_Life_run_51]
      simp (disch := omega) only [zi_100000, e6, e9, ew, e10, zi_0, zi_1, zi_2, zi_3, zi_4, zi_5, zi_6, zi_7, zi_8, zi_9, zi_10, zi_11, zi_12, zi_13, zi_14, zi_15, zi_16, zi_17, zi_18, zi_19, zi_20, zi_21, zi_22, zi_23, zi_24, zi_25, zi_26, zi_30, zi_31, zi_32, zi_34, zi_38, zi_59, zi_60, zi_61, zi_63, zi_64, zi_80, zi_96, zi_97, zi_99, zi_100, zi_122, zi_255, zi_256, zi_300, zi_398, zi_406, zi_900, zi_1000, zi_1024, zi_1624, zi_1662, zi_2030, zi_2031, zi_2068, zi_2258, zi_9999, zi_48, zi_57, zi_65536, zi_3257, zi_11483, zi_1000000, zi_729, zi_81, zi_m1, nI_add, pk_mul, nI_ltI, nI_leI, nI_eq, nI_clamp, zn_in, zn_sub1lt, zn_M, zn_Ml, zn_Mg, zn_Mle, zn_Mge, zn_sub, Nat.reduceAdd, Nat.reduceMul]
      refine ⟨fun x => absurd x (by omega), fun _ => ⟨fun x => absurd x (by omega), fun _ => ⟨fun _ => ⟨by omega, fun x => absurd x n9, fun _ => ⟨fun _ I9 h9 => ?_, fun x => absurd (by omega) x⟩⟩, fun x => absurd trivial x⟩⟩⟩
      rw [h9]; exact K
    by_cases w20 : q (38 + 6 * k) = 20
    · -- stop
      refine ⟨q, 0, 0, 0, 0, 0, st + 1, ok, fun _ _ => rfl, by omega, by omega, ⟨2, ?_⟩, ⟨1, ?_⟩⟩
      · intro c d v I L R p2 Q i hcd hv hd h e1 e9 e10 et hi K
        refine turnU c d v I L R p2 Q 1 i hcd hv h e9 e10 (by omega) ?_
        have h1 : sq_U q c d (am_u2 I v 10 (nI (st + 1))) L := h.keepV hcd hv _ _
        have k2 := K _ h1 ⟨by rw [am_u2_ne _ _ _ _ (by omega)]; exact z _, by rw [am_u2_ne _ _ _ _ (by omega)]; exact z _, by rw [am_u2_ne _ _ _ _ (by omega)]; exact z _, by rw [am_u2_ne _ _ _ _ (by omega)]; exact z _, by rw [am_u2_ne _ _ _ _ (by omega)]; exact e9, am_u2_at _ _ _ _, by rw [am_u2_ne _ _ _ _ (by omega)], fun r x y w => am_u2_row _ _ _ _ y⟩
        have ew := dy_word h1 g w20 (show dy_w 20 = 24 from rfl)
        have e6 : am_u2 I v 10 (nI (st + 1)) d 6 = nI (q 7 - 1) := h1.dy.2.1 (by omega)
        have fin : wl_Life_run_51 L R v c p2 Q 1 (am_u2 I v 10 (nI (st + 1))) d (nI (q 7 - 1)) (nI (i + 1)) := by
          rw [wl_Life_run_51]
          simp (disch := omega) only [zi_100000, e6, zi_0, zi_1, zi_2, zi_3, zi_4, zi_5, zi_6, zi_7, zi_8, zi_9, zi_10, zi_11, zi_12, zi_13, zi_14, zi_15, zi_16, zi_17, zi_18, zi_19, zi_20, zi_21, zi_22, zi_23, zi_24, zi_25, zi_26, zi_30, zi_31, zi_32, zi_34, zi_38, zi_59, zi_60, zi_61, zi_63, zi_64, zi_80, zi_96, zi_97, zi_99, zi_100, zi_122, zi_255, zi_256, zi_300, zi_398, zi_406, zi_900, zi_1000, zi_1024, zi_1624, zi_1662, zi_2030, zi_2031, zi_2068, zi_2258, zi_9999, zi_48, zi_57, zi_65536, zi_3257, zi_11483, zi_1000000, zi_729, zi_81, zi_m1, nI_add, pk_mul, nI_ltI, nI_leI, nI_eq, nI_clamp, zn_in, zn_sub1lt, zn_M, zn_Ml, zn_Mg, zn_Mle, zn_Mge, zn_sub, Nat.reduceAdd, Nat.reduceMul]
          exact ⟨fun x => absurd x (by omega), fun _ => ⟨fun _ => k2, fun x => absurd (by omega) x⟩⟩
        simp (disch := omega) only [wp_Life_act, wp_Life_behindStep, hd, ew, e6, zi_0, zi_1, zi_2, zi_3, zi_4, zi_5, zi_6, zi_7, zi_8, zi_9, zi_10, zi_11, zi_12, zi_13, zi_14, zi_15, zi_16, zi_17, zi_18, zi_19, zi_20, zi_21, zi_22, zi_23, zi_24, zi_25, zi_26, zi_30, zi_31, zi_32, zi_34, zi_38, zi_59, zi_60, zi_61, zi_63, zi_64, zi_80, zi_96, zi_97, zi_99, zi_100, zi_122, zi_255, zi_256, zi_300, zi_398, zi_406, zi_900, zi_1000, zi_1024, zi_1624, zi_1662, zi_2030, zi_2031, zi_2068, zi_2258, zi_9999, zi_48, zi_57, zi_65536, zi_3257, zi_11483, zi_1000000, zi_729, zi_81, zi_m1, nI_add, pk_mul, nI_ltI, nI_leI, nI_eq, nI_clamp, zn_in, zn_sub1lt, zn_M, zn_Ml, zn_Mg, zn_Mle, zn_Mge, zn_sub, Nat.reduceAdd, Nat.reduceMul, forall_eq, true_imp_iff, false_imp_iff, and_true, true_and, not_true_eq_false, not_false_eq_true, reduceCtorEq, imp_self, eq_self, false_and, and_false, implies_true]
        repeat' (first | omega | with_reducible refine And.intro ?_ ?_ | with_reducible intro g)
        all_goals exact fin
      · intro I L R p1 Q h e44 e45 et K
        have e7 : I 104 7 = nI (q 7 - 1) := by rw [h.n7, zn_sub (by omega)]
        have h1 : sq_M q 0 (am_u2 I 103 45 (nI (st + 1))) L := h.keepV ok (by omega) _ _
        have e0 := h1.r0 g
        rw [w20] at e0
        have k2 := K _ h1 ⟨by rw [am_u2o (by omega)]; exact z _, by rw [am_u2o (by omega)]; exact z _, by rw [am_u2o (by omega)]; exact z _, by rw [am_u2o (by omega)]; exact z _, by rw [am_u2o (by omega), if_neg (by omega)], am_u2_at _ _ _ _, fun r k x y w v => by unfold am_u2; rw [if_neg (by omega)]⟩
        rw [wl_M_lives_32]
        simp (disch := omega) only [e7, e45, e0, zi_0, zi_1, zi_2, zi_3, zi_4, zi_5, zi_6, zi_7, zi_8, zi_9, zi_10, zi_11, zi_12, zi_13, zi_14, zi_15, zi_16, zi_17, zi_18, zi_19, zi_20, zi_21, zi_22, zi_23, zi_24, zi_25, zi_26, zi_30, zi_31, zi_32, zi_34, zi_38, zi_59, zi_60, zi_61, zi_63, zi_64, zi_80, zi_96, zi_97, zi_99, zi_100, zi_122, zi_255, zi_256, zi_300, zi_398, zi_406, zi_900, zi_1000, zi_1024, zi_1624, zi_1662, zi_2030, zi_2031, zi_2068, zi_2258, zi_9999, zi_48, zi_57, zi_65536, zi_3257, zi_11483, zi_1000000, zi_729, zi_81, zi_m1, nI_add, pk_mul, nI_ltI, nI_leI, nI_eq, nI_clamp, zn_in, zn_sub1lt, zn_M, zn_Ml, zn_Mg, zn_Mle, zn_Mge, zn_sub, Nat.reduceAdd, Nat.reduceMul, forall_eq, true_imp_iff, false_imp_iff, and_true, true_and, not_true_eq_false, not_false_eq_true, reduceCtorEq, imp_self, eq_self, false_and, and_false, implies_true]
        repeat' (first | omega | with_reducible refine And.intro ?_ ?_ | with_reducible intro g)
        all_goals exact k2
    -- a step
    obtain ⟨q', s', dm, dp, dc, dh, ok', eo, hs', hdm, aU, aM⟩ := ac_all ok hs g (h19 g) w20
    have q7 : q' 7 = q 7 := eo 7 (by omega)
    have eow : q' (38 + 6 * k) = q (38 + 6 * k) := eo _ (by omega)
    -- where both are ahead of the ends, with the loops' turns
    have key : ∀ k' (tl' : Nat → Nat), k' < q 7 → dpc q' k' → (∀ o, dl q' k' o → tl' o ≤ 98) →
        (∀ (c d v : Nat) (I10 : am_TI) (L : am_TL) (R : am_TR) (Q : Int32 → am_TI → Prop), sq_cd c d → (v = 12 ∨ v = 14) → am_rd R c 5 = d → sq_U q' c d I10 L → (∀ o, dl q k o → I10 (v + 1) o = nI (tl o + 1)) → (∀ I11, sq_U q' c d I11 L → (∀ o, dl q' k' o → I11 (v + 1) o = nI (tl' o + 1)) → (∀ r, r ≠ v + 1 → I11 r = I10 r) → Q (nI k') I11) → wp_Life_behindStep I10 L R v c (nI k) Q) →
        (∀ (I5 : am_TI) (L : am_TL) (R : am_TR) (K32 : am_TI → Int32 → Prop) (p1 : Int32) (QQ : am_TI → Prop) (b : Bool), sq_M q' 0 I5 L → (∀ o, dl q k o → I5 130 o = nI (tl o)) → (∀ I7, sq_M q' 0 I7 L → (∀ o, dl q' k' o → I7 130 o = nI (tl' o)) → (∀ r, r ≠ 130 → r ≠ 131 → I7 r = I5 r) → I7 131 0 = I5 131 0 + am_b b → (∀ x, x ≠ 0 → I7 131 x = I5 131 x) → ∀ pp : Int32, ∃ z, wl_M_behindEnds_2 L R 103 pp (fun r2 I6 => K32 I6 r2) z I7 (nI k')) → wb_M_lives_111 L R 103 p1 QQ K32 I5 (nI k) (nI (38 + 6 * k)) 131 false (I5 131 0) b) → ru q s k tl (n + 1) st := by
      intro k' tl' hk' hp' ht' bU bM
      obtain ⟨k2, tl2, nE, r1, r2, r3, r4, eU, eM⟩ := en_sim ok' (q 7 - 1 - k') k' tl' (by omega) hp' ht'
      obtain ⟨qf, tm, tp, tc, th, lf, sf, okf, ef, hlf, hsf, ⟨zU, hU⟩, ⟨zM, hM⟩⟩ := ih q' s' k2 tl2 (st + 1) ok' (by omega) hs' (by omega) (by omega) (fun x => r2 x) r4
      refine ⟨qf, dm + tm, dp + tp, dc + tc, dh + th, lf, sf, okf, fun k hk => by rw [ef k hk, eo k hk], hlf, hsf, ⟨zU + nE + 1, ?_⟩, ⟨zM + 1, ?_⟩⟩
      · intro c d v I L R p2 Q i hcd hv hd h e1 e9 e10 et hi K
        have hcd' := hcd
        obtain ⟨hc, hdd⟩ := hcd'
        refine turnU c d v I L R p2 Q (zU + nE) i hcd hv h e9 e10 (by omega) ?_
        refine aU c d v _ L R _ hcd hv hd (h.keepV hcd hv _ _) (by rw [am_u2_ne _ _ _ _ (by omega)]; exact e1) (fun I10 h10 l10 => ?_)
        obtain ⟨a1, a2, a3, a4, a5, a6, a7⟩ := l10
        rw [am_u2_ne _ _ _ _ (by omega)] at a2 a3 a4 a5
        refine bU c d v I10 L R _ hcd hv hd h10 (fun o ho => ?_) (fun I11 h11 t11 f11 => ?_)
        · rw [a7 (v + 1) (by omega) (by omega), am_u2_row _ _ _ _ (by omega)]; exact et o ho
        · have ev : I11 v = I10 v := f11 v (by omega)
          refine eU c d v I11 L R p2 Q zU (i + 1) hcd hv h11 (by rw [ev, a6 9 (by omega), am_u2_ne _ _ _ _ (by omega)]; exact e9) t11 (by omega) (fun I12 h12 t12 f12 => ?_)
          have ev2 : I12 v = I10 v := by rw [f12 v (by omega), ev]
          refine hU c d v I12 L R p2 Q (i + 1 + nE) hcd hv hd h12 (by rw [ev2]; exact a1) (by rw [ev2, a6 9 (by omega), am_u2_ne _ _ _ _ (by omega)]; exact e9) (by rw [ev2, a6 10 (by omega), am_u2_at]) t12 (by omega) (fun I1 h1 l1 => ?_)
          obtain ⟨b1, b2, b3, b4, b5, b6, b7, b8⟩ := l1
          rw [ev2] at b1 b2 b3 b4 b7
          refine K I1 h1 ⟨?_, ?_, ?_, ?_, b5, b6, ?_, fun r x y w => ?_⟩
          · rw [b1, a2, Int32.add_assoc, nI_add]
          · rw [b2, a3, Int32.add_assoc, nI_add]
          · rw [b3, a4, Int32.add_assoc, nI_add]
          · rw [b4, a5, Int32.add_assoc, nI_add]
          · rw [b7, a6 11 (by omega), am_u2_ne _ _ _ _ (by omega)]
          · rw [b8 r x y w, f12 r w, f11 r w, a7 r x y, am_u2_row _ _ _ _ y]
      · intro I L R p1 Q h e44 e45 et K
        have e7 : I 104 7 = nI (q 7 - 1) := by rw [h.n7, zn_sub (by omega)]
        have h3 : sq_M q 0 (am_u2 I 103 45 (nI (st + 1))) L := h.keepV ok (by omega) _ _
        have e0 := h3.r0 g
        rw [wl_M_lives_32]
        simp (disch := omega) only [e7, e45, zi_0, zi_1, zi_2, zi_3, zi_4, zi_5, zi_6, zi_7, zi_8, zi_9, zi_10, zi_11, zi_12, zi_13, zi_14, zi_15, zi_16, zi_17, zi_18, zi_19, zi_20, zi_21, zi_22, zi_23, zi_24, zi_25, zi_26, zi_30, zi_31, zi_32, zi_34, zi_38, zi_59, zi_60, zi_61, zi_63, zi_64, zi_80, zi_96, zi_97, zi_99, zi_100, zi_122, zi_255, zi_256, zi_300, zi_398, zi_406, zi_900, zi_1000, zi_1024, zi_1624, zi_1662, zi_2030, zi_2031, zi_2068, zi_2258, zi_9999, zi_48, zi_57, zi_65536, zi_3257, zi_11483, zi_1000000, zi_729, zi_81, zi_m1, nI_add, pk_mul, nI_ltI, nI_leI, nI_eq, nI_clamp, zn_in, zn_sub1lt, zn_M, zn_Ml, zn_Mg, zn_Mle, zn_Mge, zn_sub, Nat.reduceAdd, Nat.reduceMul]
        refine ⟨fun x => absurd x (by omega), fun _ => ⟨fun x => absurd x (by omega), fun _ I3 hI3 => ?_⟩⟩
        rw [← hI3] at h3 e0
        refine ⟨by omega, fun x => ?_, fun _ => ?_⟩
        · rw [e0, nI_eq (by omega) (by omega)] at x; exact absurd x w20
        refine aM I3 L R _ h3 (by rw [hI3, am_u2_ne _ _ _ _ (by omega)]; exact e44) (fun I4 h4 l4 => ?_)
        obtain ⟨a1, a2, a3, a4, a5, a6, a7⟩ := l4
        have fin : ∀ b : Bool, am_b b = nI dm → wb_M_lives_111 L R 103 p1 Q (wl_M_lives_32 L R 103 p1 Q zM) I4 (nI k) (nI (38 + 6 * k)) 131 false (I3 131 0) b := by
          intro b hb
          rw [← a2]
          refine bM I4 L R _ p1 Q b h4 (fun o ho => ?_) (fun I7 h7 t7 f7 m7 x7 pp => ?_)
          · rw [a7 130 o (by omega) (by omega) (by omega), hI3, am_u2o (by omega)]; exact et o ho
          · refine eM I7 L R pp _ h7 t7 (fun I8 h8 t8 f8 => ?_)
            refine hM I8 L R p1 Q h8 (by rw [f8 103 (by omega), f7 103 (by omega) (by omega)]; exact a1) (by rw [f8 103 (by omega), f7 103 (by omega) (by omega), a7 103 45 (by omega) (by omega) (by omega), hI3, am_u2_at]) t8 (fun I1 h1 l1 => ?_)
            obtain ⟨b1, b2, b3, b4, b5, b6, b7⟩ := l1
            rw [f8 131 (by omega)] at b1 b2 b3 b4 b5
            have i3 : ∀ x, I3 131 x = I 131 x := fun x => by rw [hI3, am_u2o (by omega)]
            refine K I1 h1 ⟨?_, ?_, ?_, ?_, ?_, b6, fun r x y1 y2 y3 y4 => ?_⟩
            · rw [b1, m7, hb, a2, i3, Int32.add_assoc, nI_add]
            · rw [b2, x7 1 (by omega), a3, i3, Int32.add_assoc, nI_add]
            · rw [b3, x7 2 (by omega), a4, i3, Int32.add_assoc, nI_add]
            · rw [b4, x7 3 (by omega), a5, i3, Int32.add_assoc, nI_add]
            · rw [b5, x7 4 (by omega), a6, i3]
            · rw [b7 r x y1 y2 y3 y4, f8 r y1, f7 r y1 y2, a7 r x y2 (by omega) y4, hI3]
              unfold am_u2
              rw [if_neg (by omega)]
        refine ⟨fun x => fin true ?_, fun x => fin false ?_⟩
        · have : ¬ dm = 0 := by simpa using x
          rw [show dm = 1 by omega]; rfl
        · have : dm = 0 := by simpa using x
          rw [this]; rfl
    by_cases wh : 1700 ≤ q (38 + 6 * k)
    · -- a when
      obtain ⟨op, wk⟩ := dy_when ok g wh
      obtain ⟨o1, o2, o3, o4⟩ := op
      have wh' : 1700 ≤ q' (38 + 6 * k) := by rw [eow]; exact wh
      have g' : k + 1 < q' 7 := by omega
      have n18 : ∀ o, dl q k o → o ≠ k := fun o ho => by have := ho.2.2.1; omega
      have wd : dy_w (q (38 + 6 * k)) = 18 ∨ dy_w (q (38 + 6 * k)) = 19 ∨ dy_w (q (38 + 6 * k)) = 20 ∨ dy_w (q (38 + 6 * k)) = 21 := by
        rcases wk with ⟨e, _⟩ | ⟨e, _⟩ | ⟨e, _⟩ | ⟨e, _⟩ <;> rw [e] <;> decide
      have e4q : q' (42 + 6 * k) = q (42 + 6 * k) := eo _ (by omega)
      -- either way
      have both : ∀ k', k' = (if dho q' k = true then k + 1 else q (42 + 6 * k) + 1) → ru q s k tl (n + 1) st := by
        intro k' hk'
        have sub : ∀ o, dl q' k' o → dl q k o := fun o ho => by
          rw [dl_cong eo] at ho
          obtain ⟨a, b, e, f⟩ := ho
          split at hk'
          · refine ⟨a, b, ?_, by omega⟩
            rcases Nat.lt_or_ge o k with x | x
            · exact x
            · have : o = k := by omega
              subst this; omega
          · have ne : o ≠ q (42 + 6 * k) := fun x => by subst x; omega
            have ne2 : o ≠ k := fun x => by subst x; omega
            rcases Nat.lt_or_ge o k with x | x
            · exact ⟨a, b, x, by omega⟩
            · exfalso
              have nn := ok.2.2.2.2.2.2 k o (by omega) (by omega) a (Or.inr wh) (Or.inl b)
              omega
        have pc : dpc q' k' := by
          intro x1 x2 x3 x4
          rw [q7] at x1
          rw [eo _ (by omega)] at x2 x3
          rw [eo (42 + 6 * k') (by omega)] at x3 x4
          split at hk'
          · have : q (42 + 6 * k') = k := by omega
            rw [this] at x3; omega
          · have : q (42 + 6 * k') = q (42 + 6 * k) := by omega
            rw [this] at x3; omega
        refine key k' tl (by split at hk' <;> omega) pc (fun o ho => ht o (sub o ho)) ?_ ?_
        · intro c d v I10 L R Q hcd hv hd h et K
          have ew := (h.dy.2.2 k g').1
          rw [eow] at ew
          have e5 := (h.dy.2.2 k g').2.2.2.2 (Or.inr (Or.inr wh'))
          rw [e4q] at e5
          have k2 := K I10 h (fun o ho => et o (sub o ho)) (fun _ _ => rfl)
          have fin : ∀ {Q' : Bool → Prop}, ((dho q' k = false → Q' false) ∧ (dho q' k = true → Q' true)) → wp_Life_holds I10 L R v c (nI k) Q' := fun hq => su_holds h ok' hd g' wh' (by
            cases e : dho q' k with
            | false => exact hq.1 e
            | true => exact hq.2 e)
          have leaf : ∀ (A : Int32), A = nI (q (42 + 6 * k)) → ((dho q' k = false → ((k < 60) ∧ Q (A + nI 1) I10)) ∧ (dho q' k = true → Q (nI (k + 1)) I10)) := by
            intro A hA
            refine ⟨fun e => ⟨by omega, ?_⟩, fun e => ?_⟩
            · rw [if_neg (by rw [e]; decide)] at hk'
              rw [hA, nI_add, ← hk']; exact k2
            · rw [if_pos e] at hk'
              rw [← hk']; exact k2
          simp (disch := omega) only [wp_Life_behindStep, hd, ew, e5, zi_0, zi_1, zi_2, zi_3, zi_4, zi_5, zi_6, zi_7, zi_8, zi_9, zi_10, zi_11, zi_12, zi_13, zi_14, zi_15, zi_16, zi_17, zi_18, zi_19, zi_20, zi_21, zi_22, zi_23, zi_24, zi_25, zi_26, zi_30, zi_31, zi_32, zi_34, zi_38, zi_59, zi_60, zi_61, zi_63, zi_64, zi_80, zi_96, zi_97, zi_99, zi_100, zi_122, zi_255, zi_256, zi_300, zi_398, zi_406, zi_900, zi_1000, zi_1024, zi_1624, zi_1662, zi_2030, zi_2031, zi_2068, zi_2258, zi_9999, zi_48, zi_57, zi_65536, zi_3257, zi_11483, zi_1000000, zi_729, zi_81, zi_m1, nI_add, pk_mul, nI_ltI, nI_leI, nI_eq, nI_clamp, zn_in, zn_sub1lt, zn_M, zn_Ml, zn_Mg, zn_Mle, zn_Mge, zn_sub, Nat.reduceAdd, Nat.reduceMul]
          have lf := leaf _ rfl
          simp only [nI_add] at lf
          refine ⟨by omega, fun _ => fin ⟨fun e => ⟨fun _ => lf.1 e, fun x => (by cases x)⟩, fun e => ⟨fun x => (by cases x), fun _ => lf.2 e⟩⟩, fun _ => fin ⟨fun e => ⟨fun _ => lf.1 e, fun x => (by cases x)⟩, fun e => ⟨fun x => (by cases x), fun _ => lf.2 e⟩⟩, fun _ => fin ⟨fun e => ⟨fun _ => lf.1 e, fun x => (by cases x)⟩, fun e => ⟨fun x => (by cases x), fun _ => lf.2 e⟩⟩, fun _ => fin ⟨fun e => ⟨fun _ => lf.1 e, fun x => (by cases x)⟩, fun e => ⟨fun x => (by cases x), fun _ => lf.2 e⟩⟩, fun x => absurd x (by omega), fun x => absurd x (by omega), fun x => absurd x (by omega), fun x1 x2 x3 x4 _ _ _ => absurd wd (by omega)⟩
        · intro I5 L R K32 p1 QQ b h et K
          have e0 := h.r0 g'
          rw [eow] at e0
          have e4 := h.r4 g'
          rw [e4q] at e4
          have h1 : sq_M q' 0 (am_u2 I5 131 0 (I5 131 0 + am_b b)) L := h.keepV ok' (by omega) _ _
          obtain ⟨zz, hz⟩ := K _ h1 (fun o ho => by rw [am_u2o (by omega)]; exact et o (sub o ho)) (fun r x y => by rw [am_u2_row _ _ _ _ y]) (am_u2_at _ _ _ _) (fun x hx => by rw [am_u2_ne _ _ _ _ hx]) (nI k')
          have e01 := h1.r0 g'
          rw [eow] at e01
          have e41 := h1.r4 g'
          rw [e4q] at e41
          have h0 : am_b false = nI 0 := rfl
          simp (disch := omega) only [wb_M_lives_111, wb_M_lives_140, wb_M_lives_174, wb_M_lives_177, wp_M_behindEnds, h0, zi_1700, zi_0, zi_1, zi_2, zi_3, zi_4, zi_5, zi_6, zi_7, zi_8, zi_9, zi_10, zi_11, zi_12, zi_13, zi_14, zi_15, zi_16, zi_17, zi_18, zi_19, zi_20, zi_21, zi_22, zi_23, zi_24, zi_25, zi_26, zi_30, zi_31, zi_32, zi_34, zi_38, zi_59, zi_60, zi_61, zi_63, zi_64, zi_80, zi_96, zi_97, zi_99, zi_100, zi_122, zi_255, zi_256, zi_300, zi_398, zi_406, zi_900, zi_1000, zi_1024, zi_1624, zi_1662, zi_2030, zi_2031, zi_2068, zi_2258, zi_9999, zi_48, zi_57, zi_65536, zi_3257, zi_11483, zi_1000000, zi_729, zi_81, zi_m1, nI_add, pk_mul, nI_ltI, nI_leI, nI_eq, nI_clamp, zn_in, zn_sub1lt, zn_M, zn_Ml, zn_Mg, zn_Mle, zn_Mge, zn_sub, Nat.reduceAdd, Nat.reduceMul]
          refine ⟨by omega, fun I6 h6 => ⟨by omega, ?_⟩⟩
          rw [← h6] at h1 e01 e41 hz
          rw [e01, e41]
          simp (disch := omega) only [zi_0, zi_1, zi_2, zi_3, zi_4, zi_5, zi_6, zi_7, zi_8, zi_9, zi_10, zi_11, zi_12, zi_13, zi_14, zi_15, zi_16, zi_17, zi_18, zi_19, zi_20, zi_21, zi_22, zi_23, zi_24, zi_25, zi_26, zi_30, zi_31, zi_32, zi_34, zi_38, zi_59, zi_60, zi_61, zi_63, zi_64, zi_80, zi_96, zi_97, zi_99, zi_100, zi_122, zi_255, zi_256, zi_300, zi_398, zi_406, zi_900, zi_1000, zi_1024, zi_1624, zi_1662, zi_2030, zi_2031, zi_2068, zi_2258, zi_9999, zi_48, zi_57, zi_65536, zi_3257, zi_11483, zi_1000000, zi_729, zi_81, zi_m1, nI_add, pk_mul, nI_ltI, nI_leI, nI_eq, nI_clamp, zn_in, zn_sub1lt, zn_M, zn_Ml, zn_Mg, zn_Mle, zn_Mge, zn_sub, Nat.reduceAdd, Nat.reduceMul]
          refine ⟨fun x => absurd x (by omega), fun _ => ⟨by omega, fun x => absurd x (by omega), fun _ => sm_holds h1 ok' g' wh' ⟨fun e => ⟨by omega, ?_⟩, fun e => ?_⟩⟩⟩
          · rw [if_neg (by rw [e]; decide)] at hk'
            rw [← hk']; exact ⟨zz, hz⟩
          · rw [if_pos e] at hk'
            rw [← hk']; exact ⟨zz, hz⟩
      exact both _ rfl
    by_cases w18 : q (38 + 6 * k) = 18
    · -- a loop
      obtain ⟨⟨o1, o2, o3, o4⟩, l1, l2⟩ := dy_opn ok g w18
      have g' : k + 1 < q' 7 := by omega
      have e1q : q' (39 + 6 * k) = q (39 + 6 * k) := eo _ (by omega)
      have e4q : q' (42 + 6 * k) = q (42 + 6 * k) := eo _ (by omega)
      have w18' : q' (38 + 6 * k) = 18 := by rw [eow]; exact w18
      by_cases em : q (42 + 6 * k) = k + 1
      · -- nothing in it
        have sub : ∀ o, dl q' (k + 2) o → dl q k o ∧ o ≠ k := fun o ho => by
          rw [dl_cong eo] at ho
          obtain ⟨a, b, e, f⟩ := ho
          have n1 : o ≠ k + 1 := fun x => by subst x; rw [em] at o3; omega
          have n2 : o ≠ k := fun x => by subst x; omega
          exact ⟨⟨a, b, by omega, by omega⟩, n2⟩
        have pc : dpc q' (k + 2) := by
          intro x1 x2 x3 x4
          rw [eo _ (by omega)] at x3
          rw [eo (42 + 6 * (k + 2)) (by omega)] at x3 x4
          have : q (42 + 6 * (k + 2)) = k + 1 := by omega
          rw [this] at x3
          rw [em] at o3; omega
        refine key (k + 2) tl (by omega) pc (fun o ho => ht o (sub o ho).1) ?_ ?_
        · intro c d v I10 L R Q hcd hv hd h et K
          have hcd' := hcd
          obtain ⟨hc, hdd⟩ := hcd'
          have ew := dy_word h g' w18' (show dy_w 18 = 22 from rfl)
          have e1 := (h.dy.2.2 k g').2.1 (by omega)
          have e5 := (h.dy.2.2 k g').2.2.2.2 (by omega)
          rw [e4q, em] at e5
          have e51 : am_u2 I10 (v + 1) k (nI (q' (39 + 6 * k))) (d + 5) k = nI (k + 1) := by rw [am_u2o (by omega)]; exact e5
          have k2 := K (am_u2 I10 (v + 1) k (nI (q' (39 + 6 * k)))) (h.keep (fun r hr => am_u2_row _ _ _ _ (by omega)) rfl) (fun o ho => by rw [am_u2_ne _ _ _ _ (sub o ho).2]; exact et o (sub o ho).1) (fun r hr => am_u2_row _ _ _ _ hr)
          simp (disch := omega) only [wp_Life_behindStep, hd, ew, e1, e51, zi_0, zi_1, zi_2, zi_3, zi_4, zi_5, zi_6, zi_7, zi_8, zi_9, zi_10, zi_11, zi_12, zi_13, zi_14, zi_15, zi_16, zi_17, zi_18, zi_19, zi_20, zi_21, zi_22, zi_23, zi_24, zi_25, zi_26, zi_30, zi_31, zi_32, zi_34, zi_38, zi_59, zi_60, zi_61, zi_63, zi_64, zi_80, zi_96, zi_97, zi_99, zi_100, zi_122, zi_255, zi_256, zi_300, zi_398, zi_406, zi_900, zi_1000, zi_1024, zi_1624, zi_1662, zi_2030, zi_2031, zi_2068, zi_2258, zi_9999, zi_48, zi_57, zi_65536, zi_3257, zi_11483, zi_1000000, zi_729, zi_81, zi_m1, nI_add, pk_mul, nI_ltI, nI_leI, nI_eq, nI_clamp, zn_in, zn_sub1lt, zn_M, zn_Ml, zn_Mg, zn_Mle, zn_Mge, zn_sub, Nat.reduceAdd, Nat.reduceMul, forall_eq, true_imp_iff, false_imp_iff, and_true, true_and, not_true_eq_false, not_false_eq_true, reduceCtorEq, imp_self, eq_self, false_and, and_false, implies_true]
          repeat' (first | omega | with_reducible refine And.intro ?_ ?_ | with_reducible intro g)
          all_goals exact k2
        · intro I5 L R K32 p1 QQ b h et K
          have e0 := h.r0 g'
          rw [w18'] at e0
          have e1 := h.r1 g'
          have h1 : sq_M q' 0 (am_u2 I5 131 0 (I5 131 0 + am_b b)) L := h.keepV ok' (by omega) _ _
          have h2 : sq_M q' 0 (am_u2 (am_u2 I5 131 0 (I5 131 0 + am_b b)) 130 k (nI (q' (39 + 6 * k) - 1))) L := h1.keepV ok' (by omega) _ _
          have e01 := h1.r0 g'
          rw [w18'] at e01
          have e11 := h1.r1 g'
          have e02 := h2.r0 g'
          rw [w18'] at e02
          have st2 := en_empty (R := R) (p1 := nI (k + 1)) (Q := fun r2 I6 => K32 I6 r2) ok' (o := k) (by omega) w18' (by rw [e4q]; exact em) (q' (39 + 6 * k) - 1) _ (by omega) h2 (am_u2_at _ _ _ _) (fun I7 h7 f7 => K I7 h7 (fun o ho => by
            rw [f7 130 o (fun x => (sub o ho).2 x.2), am_u2_ne _ _ _ _ (sub o ho).2, am_u2o (by omega)]; exact et o (sub o ho).1) (fun r x y => by
            funext j
            rw [f7 r j (by omega), am_u2o x, am_u2o y]) (by rw [f7 131 0 (by omega), am_u2o (by omega), am_u2_at]) (fun x hx => by rw [f7 131 x (by omega), am_u2o (by omega), am_u2_ne _ _ _ _ hx]) (nI (k + 1)))
          have h0 : am_b false = nI 0 := rfl
          simp (disch := omega) only [wb_M_lives_111, wb_M_lives_140, wb_M_lives_174, wb_M_lives_177, wp_M_behindEnds, h0, zi_1700, zi_0, zi_1, zi_2, zi_3, zi_4, zi_5, zi_6, zi_7, zi_8, zi_9, zi_10, zi_11, zi_12, zi_13, zi_14, zi_15, zi_16, zi_17, zi_18, zi_19, zi_20, zi_21, zi_22, zi_23, zi_24, zi_25, zi_26, zi_30, zi_31, zi_32, zi_34, zi_38, zi_59, zi_60, zi_61, zi_63, zi_64, zi_80, zi_96, zi_97, zi_99, zi_100, zi_122, zi_255, zi_256, zi_300, zi_398, zi_406, zi_900, zi_1000, zi_1024, zi_1624, zi_1662, zi_2030, zi_2031, zi_2068, zi_2258, zi_9999, zi_48, zi_57, zi_65536, zi_3257, zi_11483, zi_1000000, zi_729, zi_81, zi_m1, nI_add, pk_mul, nI_ltI, nI_leI, nI_eq, nI_clamp, zn_in, zn_sub1lt, zn_M, zn_Ml, zn_Mg, zn_Mle, zn_Mge, zn_sub, Nat.reduceAdd, Nat.reduceMul]
          refine ⟨by omega, fun I6 h6 => ⟨by omega, ?_⟩⟩
          rw [← h6] at h2 e01 e11 e02 st2
          rw [e01, e11]
          simp (disch := omega) only [zi_0, zi_1, zi_2, zi_3, zi_4, zi_5, zi_6, zi_7, zi_8, zi_9, zi_10, zi_11, zi_12, zi_13, zi_14, zi_15, zi_16, zi_17, zi_18, zi_19, zi_20, zi_21, zi_22, zi_23, zi_24, zi_25, zi_26, zi_30, zi_31, zi_32, zi_34, zi_38, zi_59, zi_60, zi_61, zi_63, zi_64, zi_80, zi_96, zi_97, zi_99, zi_100, zi_122, zi_255, zi_256, zi_300, zi_398, zi_406, zi_900, zi_1000, zi_1024, zi_1624, zi_1662, zi_2030, zi_2031, zi_2068, zi_2258, zi_9999, zi_48, zi_57, zi_65536, zi_3257, zi_11483, zi_1000000, zi_729, zi_81, zi_m1, nI_add, pk_mul, nI_ltI, nI_leI, nI_eq, nI_clamp, zn_in, zn_sub1lt, zn_M, zn_Ml, zn_Mg, zn_Mle, zn_Mge, zn_sub, Nat.reduceAdd, Nat.reduceMul]
          refine ⟨fun _ => ⟨by omega, by omega, fun I7 h7 => ?_⟩, fun x => absurd trivial x⟩
          rw [← h7] at h2 e02 st2
          rw [e02]
          simp (disch := omega) only [zi_0, zi_1, zi_2, zi_3, zi_4, zi_5, zi_6, zi_7, zi_8, zi_9, zi_10, zi_11, zi_12, zi_13, zi_14, zi_15, zi_16, zi_17, zi_18, zi_19, zi_20, zi_21, zi_22, zi_23, zi_24, zi_25, zi_26, zi_30, zi_31, zi_32, zi_34, zi_38, zi_59, zi_60, zi_61, zi_63, zi_64, zi_80, zi_96, zi_97, zi_99, zi_100, zi_122, zi_255, zi_256, zi_300, zi_398, zi_406, zi_900, zi_1000, zi_1024, zi_1624, zi_1662, zi_2030, zi_2031, zi_2068, zi_2258, zi_9999, zi_48, zi_57, zi_65536, zi_3257, zi_11483, zi_1000000, zi_729, zi_81, zi_m1, nI_add, pk_mul, nI_ltI, nI_leI, nI_eq, nI_clamp, zn_in, zn_sub1lt, zn_M, zn_Ml, zn_Mg, zn_Mle, zn_Mge, zn_sub, Nat.reduceAdd, Nat.reduceMul]
          exact ⟨by omega, fun _ => st2, fun x => absurd (by omega) x⟩
      · -- something in it
        have sub : ∀ o, dl q' (k + 1) o → o ≠ k → dl q k o := fun o ho hn => by
          rw [dl_cong eo] at ho
          obtain ⟨a, b, e, f⟩ := ho
          exact ⟨a, b, by omega, by omega⟩
        have pc : dpc q' (k + 1) := by
          intro x1 x2 x3 x4
          rw [q7] at x1
          rw [eo _ (by omega)] at x2
          rw [eo (42 + 6 * (k + 1)) (by omega)] at x4
          obtain ⟨_, _, c4, _⟩ := dy_cls ok x1 x2
          rw [show q (42 + 6 * (k + 1)) = k by omega] at c4
          omega
        refine key (k + 1) (zu tl k (q (39 + 6 * k) - 1)) (by omega) pc (fun o ho => ?_) ?_ ?_
        · by_cases e : o = k
          · subst e; rw [zu_s]; omega
          · rw [zu_n e]; exact ht o (sub o ho e)
        · intro c d v I10 L R Q hcd hv hd h et K
          have hcd' := hcd
          obtain ⟨hc, hdd⟩ := hcd'
          have ew := dy_word h g' w18' (show dy_w 18 = 22 from rfl)
          have e1 := (h.dy.2.2 k g').2.1 (by omega)
          have e5 := (h.dy.2.2 k g').2.2.2.2 (by omega)
          rw [e4q] at e5
          have e51 : am_u2 I10 (v + 1) k (nI (q' (39 + 6 * k))) (d + 5) k = nI (q (42 + 6 * k)) := by rw [am_u2o (by omega)]; exact e5
          have k2 := K (am_u2 I10 (v + 1) k (nI (q' (39 + 6 * k)))) (h.keep (fun r hr => am_u2_row _ _ _ _ (by omega)) rfl) (fun o ho => by
            by_cases e : o = k
            · subst e; rw [am_u2_at, zu_s, e1q]; congr 1; omega
            · rw [am_u2_ne _ _ _ _ e, zu_n e]; exact et o (sub o ho e)) (fun r hr => am_u2_row _ _ _ _ hr)
          simp (disch := omega) only [wp_Life_behindStep, hd, ew, e1, e51, em, zi_0, zi_1, zi_2, zi_3, zi_4, zi_5, zi_6, zi_7, zi_8, zi_9, zi_10, zi_11, zi_12, zi_13, zi_14, zi_15, zi_16, zi_17, zi_18, zi_19, zi_20, zi_21, zi_22, zi_23, zi_24, zi_25, zi_26, zi_30, zi_31, zi_32, zi_34, zi_38, zi_59, zi_60, zi_61, zi_63, zi_64, zi_80, zi_96, zi_97, zi_99, zi_100, zi_122, zi_255, zi_256, zi_300, zi_398, zi_406, zi_900, zi_1000, zi_1024, zi_1624, zi_1662, zi_2030, zi_2031, zi_2068, zi_2258, zi_9999, zi_48, zi_57, zi_65536, zi_3257, zi_11483, zi_1000000, zi_729, zi_81, zi_m1, nI_add, pk_mul, nI_ltI, nI_leI, nI_eq, nI_clamp, zn_in, zn_sub1lt, zn_M, zn_Ml, zn_Mg, zn_Mle, zn_Mge, zn_sub, Nat.reduceAdd, Nat.reduceMul, forall_eq, true_imp_iff, false_imp_iff, and_true, true_and, not_true_eq_false, not_false_eq_true, reduceCtorEq, imp_self, eq_self, false_and, and_false, implies_true]
          repeat' (first | omega | with_reducible refine And.intro ?_ ?_ | with_reducible intro g)
          all_goals exact k2
        · intro I5 L R K32 p1 QQ b h et K
          have e0 := h.r0 g'
          rw [w18'] at e0
          have e1 := h.r1 g'
          have h1 : sq_M q' 0 (am_u2 I5 131 0 (I5 131 0 + am_b b)) L := h.keepV ok' (by omega) _ _
          have h2 : sq_M q' 0 (am_u2 (am_u2 I5 131 0 (I5 131 0 + am_b b)) 130 k (nI (q' (39 + 6 * k) - 1))) L := h1.keepV ok' (by omega) _ _
          have e01 := h1.r0 g'
          rw [w18'] at e01
          have e11 := h1.r1 g'
          have e02 := h2.r0 g'
          rw [w18'] at e02
          have st2 := K _ h2 (fun o ho => by
            by_cases e : o = k
            · subst e; rw [am_u2_at, zu_s, e1q]
            · rw [am_u2_ne _ _ _ _ e, zu_n e, am_u2o (by omega)]; exact et o (sub o ho e)) (fun r x y => by
            funext j
            rw [am_u2o x, am_u2o y]) (by rw [am_u2o (by omega), am_u2_at]) (fun x hx => by rw [am_u2o (by omega), am_u2_ne _ _ _ _ hx]) (nI (k + 1))
          have h0 : am_b false = nI 0 := rfl
          simp (disch := omega) only [wb_M_lives_111, wb_M_lives_140, wb_M_lives_174, wb_M_lives_177, wp_M_behindEnds, h0, zi_1700, zi_0, zi_1, zi_2, zi_3, zi_4, zi_5, zi_6, zi_7, zi_8, zi_9, zi_10, zi_11, zi_12, zi_13, zi_14, zi_15, zi_16, zi_17, zi_18, zi_19, zi_20, zi_21, zi_22, zi_23, zi_24, zi_25, zi_26, zi_30, zi_31, zi_32, zi_34, zi_38, zi_59, zi_60, zi_61, zi_63, zi_64, zi_80, zi_96, zi_97, zi_99, zi_100, zi_122, zi_255, zi_256, zi_300, zi_398, zi_406, zi_900, zi_1000, zi_1024, zi_1624, zi_1662, zi_2030, zi_2031, zi_2068, zi_2258, zi_9999, zi_48, zi_57, zi_65536, zi_3257, zi_11483, zi_1000000, zi_729, zi_81, zi_m1, nI_add, pk_mul, nI_ltI, nI_leI, nI_eq, nI_clamp, zn_in, zn_sub1lt, zn_M, zn_Ml, zn_Mg, zn_Mle, zn_Mge, zn_sub, Nat.reduceAdd, Nat.reduceMul]
          refine ⟨by omega, fun I6 h6 => ⟨by omega, ?_⟩⟩
          rw [← h6] at h2 e01 e11 e02 st2
          rw [e01, e11]
          simp (disch := omega) only [zi_0, zi_1, zi_2, zi_3, zi_4, zi_5, zi_6, zi_7, zi_8, zi_9, zi_10, zi_11, zi_12, zi_13, zi_14, zi_15, zi_16, zi_17, zi_18, zi_19, zi_20, zi_21, zi_22, zi_23, zi_24, zi_25, zi_26, zi_30, zi_31, zi_32, zi_34, zi_38, zi_59, zi_60, zi_61, zi_63, zi_64, zi_80, zi_96, zi_97, zi_99, zi_100, zi_122, zi_255, zi_256, zi_300, zi_398, zi_406, zi_900, zi_1000, zi_1024, zi_1624, zi_1662, zi_2030, zi_2031, zi_2068, zi_2258, zi_9999, zi_48, zi_57, zi_65536, zi_3257, zi_11483, zi_1000000, zi_729, zi_81, zi_m1, nI_add, pk_mul, nI_ltI, nI_leI, nI_eq, nI_clamp, zn_in, zn_sub1lt, zn_M, zn_Ml, zn_Mg, zn_Mle, zn_Mge, zn_sub, Nat.reduceAdd, Nat.reduceMul]
          refine ⟨fun _ => ⟨by omega, by omega, fun I7 h7 => ?_⟩, fun x => absurd trivial x⟩
          rw [← h7] at h2 e02 st2
          rw [e02]
          simp (disch := omega) only [zi_0, zi_1, zi_2, zi_3, zi_4, zi_5, zi_6, zi_7, zi_8, zi_9, zi_10, zi_11, zi_12, zi_13, zi_14, zi_15, zi_16, zi_17, zi_18, zi_19, zi_20, zi_21, zi_22, zi_23, zi_24, zi_25, zi_26, zi_30, zi_31, zi_32, zi_34, zi_38, zi_59, zi_60, zi_61, zi_63, zi_64, zi_80, zi_96, zi_97, zi_99, zi_100, zi_122, zi_255, zi_256, zi_300, zi_398, zi_406, zi_900, zi_1000, zi_1024, zi_1624, zi_1662, zi_2030, zi_2031, zi_2068, zi_2258, zi_9999, zi_48, zi_57, zi_65536, zi_3257, zi_11483, zi_1000000, zi_729, zi_81, zi_m1, nI_add, pk_mul, nI_ltI, nI_leI, nI_eq, nI_clamp, zn_in, zn_sub1lt, zn_M, zn_Ml, zn_Mg, zn_Mle, zn_Mge, zn_sub, Nat.reduceAdd, Nat.reduceMul]
          exact ⟨by omega, fun _ => st2, fun x => absurd (by omega) x⟩
    · -- another step
      have g' : k + 1 < q' 7 := by omega
      have wd : q (38 + 6 * k) < 1700 ∧ ¬ dy_w (q (38 + 6 * k)) = 18 ∧ ¬ dy_w (q (38 + 6 * k)) = 19 ∧ ¬ dy_w (q (38 + 6 * k)) = 20 ∧ ¬ dy_w (q (38 + 6 * k)) = 21 ∧ ¬ dy_w (q (38 + 6 * k)) = 22 ∧ ¬ dy_w (q (38 + 6 * k)) = 24 := by
        have r := ok.2.2.2.2.2.1 k g
        have h19' := h19 g
        unfold dy_row at r
        have : q (38 + 6 * k) = 10 ∨ q (38 + 6 * k) = 11 ∨ q (38 + 6 * k) = 12 ∨ q (38 + 6 * k) = 13 ∨ q (38 + 6 * k) = 14 ∨ q (38 + 6 * k) = 15 ∨ q (38 + 6 * k) = 16 := by omega
        rcases this with e | e | e | e | e | e | e <;> rw [e] <;> decide
      have sub : ∀ o, dl q' (k + 1) o → dl q k o := fun o ho => by
        rw [dl_cong eo] at ho
        obtain ⟨a, b, e, f⟩ := ho
        have : o ≠ k := fun x => by subst x; omega
        exact ⟨a, b, by omega, by omega⟩
      have pc : dpc q' (k + 1) := by
        intro x1 x2 x3 x4
        rw [eo _ (by omega)] at x3
        rw [eo (42 + 6 * (k + 1)) (by omega)] at x3 x4
        rw [show q (42 + 6 * (k + 1)) = k by omega] at x3
        omega
      refine key (k + 1) tl (by omega) pc (fun o ho => ht o (sub o ho)) ?_ ?_
      · intro c d v I10 L R Q hcd hv hd h et K
        have ew := (h.dy.2.2 k g').1
        rw [eow] at ew
        have k2 := K I10 h (fun o ho => et o (sub o ho)) (fun _ _ => rfl)
        simp (disch := omega) only [wp_Life_behindStep, hd, ew, zi_0, zi_1, zi_2, zi_3, zi_4, zi_5, zi_6, zi_7, zi_8, zi_9, zi_10, zi_11, zi_12, zi_13, zi_14, zi_15, zi_16, zi_17, zi_18, zi_19, zi_20, zi_21, zi_22, zi_23, zi_24, zi_25, zi_26, zi_30, zi_31, zi_32, zi_34, zi_38, zi_59, zi_60, zi_61, zi_63, zi_64, zi_80, zi_96, zi_97, zi_99, zi_100, zi_122, zi_255, zi_256, zi_300, zi_398, zi_406, zi_900, zi_1000, zi_1024, zi_1624, zi_1662, zi_2030, zi_2031, zi_2068, zi_2258, zi_9999, zi_48, zi_57, zi_65536, zi_3257, zi_11483, zi_1000000, zi_729, zi_81, zi_m1, nI_add, pk_mul, nI_ltI, nI_leI, nI_eq, nI_clamp, zn_in, zn_sub1lt, zn_M, zn_Ml, zn_Mg, zn_Mle, zn_Mge, zn_sub, Nat.reduceAdd, Nat.reduceMul]
        exact ⟨by omega, fun x => absurd x (by omega), fun x => absurd x (by omega), fun x => absurd x (by omega), fun x => absurd x (by omega), fun x => absurd x (by omega), fun x => absurd x (by omega), fun x => absurd x (by omega), fun _ _ _ _ _ _ _ => k2⟩
      · intro I5 L R K32 p1 QQ b h et K
        have h1 : sq_M q' 0 (am_u2 I5 131 0 (I5 131 0 + am_b b)) L := h.keepV ok' (by omega) _ _
        have st2 := K _ h1 (fun o ho => by rw [am_u2o (by omega)]; exact et o (sub o ho)) (fun r x y => by rw [am_u2_row _ _ _ _ y]) (am_u2_at _ _ _ _) (fun x hx => by rw [am_u2_ne _ _ _ _ hx]) (nI (k + 1))
        have e01 := h1.r0 g'
        rw [eow] at e01
        have h0 : am_b false = nI 0 := rfl
        simp (disch := omega) only [wb_M_lives_111, wb_M_lives_140, wb_M_lives_174, wb_M_lives_177, wp_M_behindEnds, h0, zi_1700, zi_0, zi_1, zi_2, zi_3, zi_4, zi_5, zi_6, zi_7, zi_8, zi_9, zi_10, zi_11, zi_12, zi_13, zi_14, zi_15, zi_16, zi_17, zi_18, zi_19, zi_20, zi_21, zi_22, zi_23, zi_24, zi_25, zi_26, zi_30, zi_31, zi_32, zi_34, zi_38, zi_59, zi_60, zi_61, zi_63, zi_64, zi_80, zi_96, zi_97, zi_99, zi_100, zi_122, zi_255, zi_256, zi_300, zi_398, zi_406, zi_900, zi_1000, zi_1024, zi_1624, zi_1662, zi_2030, zi_2031, zi_2068, zi_2258, zi_9999, zi_48, zi_57, zi_65536, zi_3257, zi_11483, zi_1000000, zi_729, zi_81, zi_m1, nI_add, pk_mul, nI_ltI, nI_leI, nI_eq, nI_clamp, zn_in, zn_sub1lt, zn_M, zn_Ml, zn_Mg, zn_Mle, zn_Mge, zn_sub, Nat.reduceAdd, Nat.reduceMul]
        refine ⟨by omega, fun I6 h6 => ⟨by omega, ?_⟩⟩
        rw [← h6] at e01 st2
        rw [e01]
        simp (disch := omega) only [zi_0, zi_1, zi_2, zi_3, zi_4, zi_5, zi_6, zi_7, zi_8, zi_9, zi_10, zi_11, zi_12, zi_13, zi_14, zi_15, zi_16, zi_17, zi_18, zi_19, zi_20, zi_21, zi_22, zi_23, zi_24, zi_25, zi_26, zi_30, zi_31, zi_32, zi_34, zi_38, zi_59, zi_60, zi_61, zi_63, zi_64, zi_80, zi_96, zi_97, zi_99, zi_100, zi_122, zi_255, zi_256, zi_300, zi_398, zi_406, zi_900, zi_1000, zi_1024, zi_1624, zi_1662, zi_2030, zi_2031, zi_2068, zi_2258, zi_9999, zi_48, zi_57, zi_65536, zi_3257, zi_11483, zi_1000000, zi_729, zi_81, zi_m1, nI_add, pk_mul, nI_ltI, nI_leI, nI_eq, nI_clamp, zn_in, zn_sub1lt, zn_M, zn_Ml, zn_Mg, zn_Mle, zn_Mge, zn_sub, Nat.reduceAdd, Nat.reduceMul]
        exact ⟨fun x => absurd x w18, fun _ => ⟨by omega, fun _ => st2, fun x => absurd (by omega) x⟩⟩
end
