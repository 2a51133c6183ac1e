/-! live, lived: both answer alike -/
def li_U (lv : Nat → Nat) (I : am_TI) : Prop := I 12 11 = nI (lv 5) ∧ (lv 5 = 1 → I 12 5 = nI (lv 0) ∧ I 12 6 = nI (lv 1) ∧ I 12 7 = nI (lv 2) ∧ I 12 8 = nI (lv 3) ∧ I 12 9 = nI (lv 4))
def li_M (lv : Nat → Nat) (I : am_TI) : Prop := I 103 49 = nI (lv 5) ∧ (lv 5 = 1 → ∀ k, k < 5 → I 132 k = nI (lv k))
def li_Ok (lv : Nat → Nat) : Prop := lv 5 ≤ 1 ∧ lv 4 ≤ 1
def fk_U (d : Nat) (I I1 : am_TI) : Prop := ∀ r k, ((r = 0 ∧ k ≠ 15) ∨ (1 ≤ r ∧ r ≤ 11) ∨ (d ≤ r ∧ r ≤ d + 5) ∨ 59 ≤ r ∨ (r = 26 ∧ k = 0)) → I1 r k = I r k
def fk_M (I I1 : am_TI) : Prop := ∀ r k, (r < 103 ∨ 133 ≤ r ∨ (r = 103 ∧ (k = 10 ∨ k = 16 ∨ k = 17 ∨ k = 50)) ∨ (r = 104 ∧ 38 ≤ k ∧ k < 1624) ∨ r = 106 ∨ r = 107 ∨ r = 109) → I1 r k = I r k
def si_L {α : Type} (q lv : Nat → Nat) (U M : am_TI → am_TL → am_TR → (α → am_TI → Prop) → Prop) : Prop :=
  ∃ (ans : α) (st : Nat) (q' lv' : Nat → Nat), (sq_Ok q' ∧ li_Ok lv') ∧
    (∀ c d I L R, sq_cd c d → sq_U q c d I L → am_rd R 0 11 = c → am_rd R c 5 = d → I 26 0 = nI 0 → li_U lv I → ∀ Q : α → am_TI → Prop, (∀ I1, sq_U q' c d I1 L → I1 0 15 = nI st → li_U lv' I1 → fk_U d I I1 → Q ans I1) → U I L R Q) ∧
    (∀ I L R, sq_M q 0 I L → li_M lv I → ∀ Q : α → am_TI → Prop, (∀ I1, sq_M q' 0 I1 L → I1 103 2 = nI st → li_M lv' I1 → fk_M I I1 → Q ans I1) → M I L R Q)
section
variable {q lv : Nat → Nat} {c d : Nat} {I I0 I1 I2 : am_TI} {L L1 L2 : am_TL} {R : am_TR}
/-- one life, from its beginning, in both -/
theorem lv_all (ok : sq_Ok q) (h7 : 0 < q 7) {s : Nat} (hs : s < 65536) : ∃ (qf : Nat → Nat) (tm tp tc th lf sf : Nat), sq_Ok qf ∧ (∀ k, (k < 6 ∨ k = 7 ∨ 34 ≤ k) → qf k = q k) ∧ lf ≤ 1 ∧ sf ≤ 300 ∧
    (∀ c d v I L R Q, sq_cd c d → (v = 12 ∨ v = 14) → am_rd R c 5 = d → sq_U q c d I L → (∀ I1, sq_U qf c d I1 L → I1 v 5 = nI tm → I1 v 6 = nI tp → I1 v 7 = nI tc → I1 v 8 = nI th → I1 v 9 = nI lf → I1 v 10 = nI sf → I1 v 11 = nI 1 → (∀ r, ¬ (c ≤ r ∧ r ≤ c + 5) → r ≠ v → r ≠ v + 1 → I1 r = I r) → Q I1) → wp_Life_run I L R v c (nI s) Q) ∧
    (∀ I L R Q, sq_M q 0 I L → (∀ I1, sq_M qf 0 I1 L → I1 131 0 = nI tm → I1 131 1 = nI tp → I1 131 2 = nI tc → I1 131 3 = nI th → I1 131 4 = nI lf → I1 103 45 = nI sf → (∀ r k, r ≠ 130 → r ≠ 131 → ¬ (r = 103 ∧ (k = 44 ∨ k = 45)) → ¬ (r = 104 ∧ k < 38) → I1 r k = I r k) → Q I1) → wp_M_lives I L R 103 (nI s) Q) := by
  have h19 : 0 + 1 < q 7 → q (38 + 6 * 0) ≠ 19 := fun g e => by
    have := (dy_cls ok g e).1
    omega
  obtain ⟨qf, tm, tp, tc, th, lf, sf, okf, ef, hlf, hsf, ⟨zU, hU⟩, ⟨zM, hM⟩⟩ := ru_sim 300 q s 0 (fun _ => 0) 0 ok h7 hs rfl h7 h19 (fun o ho => absurd ho.2.2.1 (by omega))
  have z0 : ∀ x : Nat, nI 0 + nI x = nI x := fun x => by rw [nI_add, Nat.zero_add]
  refine ⟨qf, tm, tp, tc, th, lf, sf, okf, ef, hlf, hsf, ?_, ?_⟩
  · intro c d v I L R Q hcd hv hd h K
    simp (disch := omega) only [wp_Life_run, hd, zi_0, zi_1, zi_2, zi_3, zi_4, zi_5, zi_6, zi_7, zi_8, zi_9, zi_10, zi_11, zi_12, zi_13, zi_14, zi_15, zi_16, zi_17, zi_18, zi_19, zi_20, zi_21, zi_22, zi_23, zi_24, zi_25, zi_26, zi_30, zi_31, zi_32, zi_34, zi_38, zi_59, zi_60, zi_61, zi_63, zi_64, zi_80, zi_96, zi_97, zi_99, zi_100, zi_122, zi_255, zi_256, zi_300, zi_398, zi_406, zi_900, zi_1000, zi_1024, zi_1624, zi_1662, zi_2030, zi_2031, zi_2068, zi_2258, zi_9999, zi_48, zi_57, zi_65536, zi_3257, zi_11483, zi_1000000, zi_729, zi_81, zi_m1, nI_add, pk_mul, nI_ltI, nI_leI, nI_eq, nI_clamp, zn_in, zn_sub1lt, zn_M, zn_Ml, zn_Mg, zn_Mle, zn_Mge, zn_sub, Nat.reduceAdd, Nat.reduceMul]
    intro I1 h1 I2 h2 I3 h3 I4 h4 I5 h5 I6 h6 I7 h7 I8 h8
    have s8 : sq_U q c d I8 L := by
      rw [h8, h7, h6, h5, h4, h3, h2, h1]
      exact (((((((h.keepV hcd hv _ _).keepV hcd hv _ _).keepV hcd hv _ _).keepV hcd hv _ _).keepV hcd hv _ _).keepV hcd hv _ _).keepV hcd hv _ _).keepV hcd hv _ _
    have fr : ∀ r, r ≠ v → I8 r = I r := fun r hr => by
      rw [h8, h7, h6, h5, h4, h3, h2, h1]
      simp only [am_u2_row _ _ _ _ hr]
    have e1 : I8 v 1 = nI s := by rw [h8, h7, h6, h5, h4, h3, h2, h1]; simp [am_u2]
    have e5 : I8 v 5 = nI 0 := by rw [h8, h7, h6, h5, h4, h3, h2, h1]; simp [am_u2]
    have e6 : I8 v 6 = nI 0 := by rw [h8, h7, h6, h5, h4, h3, h2, h1]; simp [am_u2]
    have e7 : I8 v 7 = nI 0 := by rw [h8, h7, h6, h5, h4, h3, h2, h1]; simp [am_u2]
    have e8 : I8 v 8 = nI 0 := by rw [h8, h7, h6, h5, h4, h3, h2, h1]; simp [am_u2]
    have e9 : I8 v 9 = nI 0 := by rw [h8, h7, h6, h5, h4, h3, h2, h1]; simp [am_u2]
    have e10 : I8 v 10 = nI 0 := by rw [h8, h7, h6, h5, h4, h3, h2, h1]; simp [am_u2]
    have e11 : I8 v 11 = nI 1 := by rw [h8, h7, h6, h5, h4, h3, h2, h1]; simp [am_u2]
    refine ⟨zU, hU c d v I8 L R (nI s) Q 0 hcd hv hd s8 e1 e9 e10 (fun o ho => absurd ho.2.2.1 (by omega)) (by omega) (fun I9 s9 l9 => ?_)⟩
    obtain ⟨b1, b2, b3, b4, b5, b6, b7, b8⟩ := l9
    rw [e5, z0] at b1
    rw [e6, z0] at b2
    rw [e7, z0] at b3
    rw [e8, z0] at b4
    rw [e11] at b7
    exact K I9 s9 b1 b2 b3 b4 b5 b6 b7 (fun r x y w => by rw [b8 r x y w, fr r y])
  · intro I L R Q h K
    simp (disch := omega) only [wp_M_lives, zi_0, zi_1, zi_2, zi_3, zi_4, zi_5, zi_6, zi_7, zi_8, zi_9, zi_10, zi_11, zi_12, zi_13, zi_14, zi_15, zi_16, zi_17, zi_18, zi_19, zi_20, zi_21, zi_22, zi_23, zi_24, zi_25, zi_26, zi_30, zi_31, zi_32, zi_34, zi_38, zi_59, zi_60, zi_61, zi_63, zi_64, zi_80, zi_96, zi_97, zi_99, zi_100, zi_122, zi_255, zi_256, zi_300, zi_398, zi_406, zi_900, zi_1000, zi_1024, zi_1624, zi_1662, zi_2030, zi_2031, zi_2068, zi_2258, zi_9999, zi_48, zi_57, zi_65536, zi_3257, zi_11483, zi_1000000, zi_729, zi_81, zi_m1, nI_add, pk_mul, nI_ltI, nI_leI, nI_eq, nI_clamp, zn_in, zn_sub1lt, zn_M, zn_Ml, zn_Mg, zn_Mle, zn_Mge, zn_sub, Nat.reduceAdd, Nat.reduceMul]
    intro I1 h1 I2 h2
    have s2 : sq_M q 0 I2 L := by
      rw [h2, h1]
      exact (h.keepV ok (by omega) _ _).keepV ok (by omega) _ _
    have s3 : sq_M q 0 (am_u2 (am_u2 (am_u2 (am_u2 (am_u2 I2 131 0 (nI 0)) 131 1 (nI 0)) 131 2 (nI 0)) 131 3 (nI 0)) 131 4 (nI 0)) L := ((((s2.keepV ok (by omega) _ _).keepV ok (by omega) _ _).keepV ok (by omega) _ _).keepV ok (by omega) _ _).keepV ok (by omega) _ _
    have fin : ∃ z, wl_M_lives_32 L R 103 (nI s) Q z (am_u2 (am_u2 (am_u2 (am_u2 (am_u2 I2 131 0 (nI 0)) 131 1 (nI 0)) 131 2 (nI 0)) 131 3 (nI 0)) 131 4 (nI 0)) (nI 0) := by
      refine ⟨zM, hM _ L R (nI s) Q s3 (by simp [am_u2, h2, h1]) (by simp [am_u2, h2]) (fun o ho => absurd ho.2.2.1 (by omega)) (fun I9 s9 l9 => ?_)⟩
      obtain ⟨b1, b2, b3, b4, b5, b6, b7⟩ := l9
      have e0 : am_u2 (am_u2 (am_u2 (am_u2 (am_u2 I2 131 0 (nI 0)) 131 1 (nI 0)) 131 2 (nI 0)) 131 3 (nI 0)) 131 4 (nI 0) 131 0 = nI 0 := by simp [am_u2]
      have e1 : am_u2 (am_u2 (am_u2 (am_u2 (am_u2 I2 131 0 (nI 0)) 131 1 (nI 0)) 131 2 (nI 0)) 131 3 (nI 0)) 131 4 (nI 0) 131 1 = nI 0 := by simp [am_u2]
      have e2 : am_u2 (am_u2 (am_u2 (am_u2 (am_u2 I2 131 0 (nI 0)) 131 1 (nI 0)) 131 2 (nI 0)) 131 3 (nI 0)) 131 4 (nI 0) 131 2 = nI 0 := by simp [am_u2]
      have e3 : am_u2 (am_u2 (am_u2 (am_u2 (am_u2 I2 131 0 (nI 0)) 131 1 (nI 0)) 131 2 (nI 0)) 131 3 (nI 0)) 131 4 (nI 0) 131 3 = nI 0 := by simp [am_u2]
      have e4 : am_u2 (am_u2 (am_u2 (am_u2 (am_u2 I2 131 0 (nI 0)) 131 1 (nI 0)) 131 2 (nI 0)) 131 3 (nI 0)) 131 4 (nI 0) 131 4 = nI 0 := by simp [am_u2]
      rw [e0, z0] at b1
      rw [e1, z0] at b2
      rw [e2, z0] at b3
      rw [e3, z0] at b4
      rw [e4] at b5
      refine K I9 s9 b1 b2 b3 b4 ?_ b6 (fun r k x y w u => ?_)
      · rw [b5]
        by_cases g : lf = 1
        · rw [if_pos g, g]
        · rw [if_neg g, show lf = 0 by omega]
      · rw [b7 r k x y w u]
        simp only [am_u2o y]
        rw [h2, h1]
        unfold am_u2
        rw [if_neg (by omega), if_neg (by omega)]
    refine ⟨6, ?_⟩
    rw [wl_M_lives_12]
    simp (disch := omega) only [zi_0, zi_1, zi_2, zi_3, zi_4, zi_5, zi_6, zi_7, zi_8, zi_9, zi_10, zi_11, zi_12, zi_13, zi_14, zi_15, zi_16, zi_17, zi_18, zi_19, zi_20, zi_21, zi_22, zi_23, zi_24, zi_25, zi_26, zi_30, zi_31, zi_32, zi_34, zi_38, zi_59, zi_60, zi_61, zi_63, zi_64, zi_80, zi_96, zi_97, zi_99, zi_100, zi_122, zi_255, zi_256, zi_300, zi_398, zi_406, zi_900, zi_1000, zi_1024, zi_1624, zi_1662, zi_2030, zi_2031, zi_2068, zi_2258, zi_9999, zi_48, zi_57, zi_65536, zi_3257, zi_11483, zi_1000000, zi_729, zi_81, zi_m1, nI_add, pk_mul, nI_ltI, nI_leI, nI_eq, nI_clamp, zn_in, zn_sub1lt, zn_M, zn_Ml, zn_Mg, zn_Mle, zn_Mge, zn_sub, Nat.reduceAdd, Nat.reduceMul, forall_eq, true_imp_iff, false_imp_iff, and_true, true_and, not_true_eq_false, not_false_eq_true, reduceCtorEq, imp_self, eq_self, false_and, and_false, implies_true]
    refine ⟨fun x => absurd x (by omega), fun _ => ⟨by omega, ?_⟩⟩
    rw [wl_M_lives_12]
    simp (disch := omega) only [zi_0, zi_1, zi_2, zi_3, zi_4, zi_5, zi_6, zi_7, zi_8, zi_9, zi_10, zi_11, zi_12, zi_13, zi_14, zi_15, zi_16, zi_17, zi_18, zi_19, zi_20, zi_21, zi_22, zi_23, zi_24, zi_25, zi_26, zi_30, zi_31, zi_32, zi_34, zi_38, zi_59, zi_60, zi_61, zi_63, zi_64, zi_80, zi_96, zi_97, zi_99, zi_100, zi_122, zi_255, zi_256, zi_300, zi_398, zi_406, zi_900, zi_1000, zi_1024, zi_1624, zi_1662, zi_2030, zi_2031, zi_2068, zi_2258, zi_9999, zi_48, zi_57, zi_65536, zi_3257, zi_11483, zi_1000000, zi_729, zi_81, zi_m1, nI_add, pk_mul, nI_ltI, nI_leI, nI_eq, nI_clamp, zn_in, zn_sub1lt, zn_M, zn_Ml, zn_Mg, zn_Mle, zn_Mge, zn_sub, Nat.reduceAdd, Nat.reduceMul, forall_eq, true_imp_iff, false_imp_iff, and_true, true_and, not_true_eq_false, not_false_eq_true, reduceCtorEq, imp_self, eq_self, false_and, and_false, implies_true]
    refine ⟨fun x => absurd x (by omega), fun _ => ⟨by omega, ?_⟩⟩
    rw [wl_M_lives_12]
    simp (disch := omega) only [zi_0, zi_1, zi_2, zi_3, zi_4, zi_5, zi_6, zi_7, zi_8, zi_9, zi_10, zi_11, zi_12, zi_13, zi_14, zi_15, zi_16, zi_17, zi_18, zi_19, zi_20, zi_21, zi_22, zi_23, zi_24, zi_25, zi_26, zi_30, zi_31, zi_32, zi_34, zi_38, zi_59, zi_60, zi_61, zi_63, zi_64, zi_80, zi_96, zi_97, zi_99, zi_100, zi_122, zi_255, zi_256, zi_300, zi_398, zi_406, zi_900, zi_1000, zi_1024, zi_1624, zi_1662, zi_2030, zi_2031, zi_2068, zi_2258, zi_9999, zi_48, zi_57, zi_65536, zi_3257, zi_11483, zi_1000000, zi_729, zi_81, zi_m1, nI_add, pk_mul, nI_ltI, nI_leI, nI_eq, nI_clamp, zn_in, zn_sub1lt, zn_M, zn_Ml, zn_Mg, zn_Mle, zn_Mge, zn_sub, Nat.reduceAdd, Nat.reduceMul, forall_eq, true_imp_iff, false_imp_iff, and_true, true_and, not_true_eq_false, not_false_eq_true, reduceCtorEq, imp_self, eq_self, false_and, and_false, implies_true]
    refine ⟨fun x => absurd x (by omega), fun _ => ⟨by omega, ?_⟩⟩
    rw [wl_M_lives_12]
    simp (disch := omega) only [zi_0, zi_1, zi_2, zi_3, zi_4, zi_5, zi_6, zi_7, zi_8, zi_9, zi_10, zi_11, zi_12, zi_13, zi_14, zi_15, zi_16, zi_17, zi_18, zi_19, zi_20, zi_21, zi_22, zi_23, zi_24, zi_25, zi_26, zi_30, zi_31, zi_32, zi_34, zi_38, zi_59, zi_60, zi_61, zi_63, zi_64, zi_80, zi_96, zi_97, zi_99, zi_100, zi_122, zi_255, zi_256, zi_300, zi_398, zi_406, zi_900, zi_1000, zi_1024, zi_1624, zi_1662, zi_2030, zi_2031, zi_2068, zi_2258, zi_9999, zi_48, zi_57, zi_65536, zi_3257, zi_11483, zi_1000000, zi_729, zi_81, zi_m1, nI_add, pk_mul, nI_ltI, nI_leI, nI_eq, nI_clamp, zn_in, zn_sub1lt, zn_M, zn_Ml, zn_Mg, zn_Mle, zn_Mge, zn_sub, Nat.reduceAdd, Nat.reduceMul, forall_eq, true_imp_iff, false_imp_iff, and_true, true_and, not_true_eq_false, not_false_eq_true, reduceCtorEq, imp_self, eq_self, false_and, and_false, implies_true]
    refine ⟨fun x => absurd x (by omega), fun _ => ⟨by omega, ?_⟩⟩
    rw [wl_M_lives_12]
    simp (disch := omega) only [zi_0, zi_1, zi_2, zi_3, zi_4, zi_5, zi_6, zi_7, zi_8, zi_9, zi_10, zi_11, zi_12, zi_13, zi_14, zi_15, zi_16, zi_17, zi_18, zi_19, zi_20, zi_21, zi_22, zi_23, zi_24, zi_25, zi_26, zi_30, zi_31, zi_32, zi_34, zi_38, zi_59, zi_60, zi_61, zi_63, zi_64, zi_80, zi_96, zi_97, zi_99, zi_100, zi_122, zi_255, zi_256, zi_300, zi_398, zi_406, zi_900, zi_1000, zi_1024, zi_1624, zi_1662, zi_2030, zi_2031, zi_2068, zi_2258, zi_9999, zi_48, zi_57, zi_65536, zi_3257, zi_11483, zi_1000000, zi_729, zi_81, zi_m1, nI_add, pk_mul, nI_ltI, nI_leI, nI_eq, nI_clamp, zn_in, zn_sub1lt, zn_M, zn_Ml, zn_Mg, zn_Mle, zn_Mge, zn_sub, Nat.reduceAdd, Nat.reduceMul, forall_eq, true_imp_iff, false_imp_iff, and_true, true_and, not_true_eq_false, not_false_eq_true, reduceCtorEq, imp_self, eq_self, false_and, and_false, implies_true]
    refine ⟨fun x => absurd x (by omega), fun _ => ⟨by omega, ?_⟩⟩
    rw [wl_M_lives_12]
    simp (disch := omega) only [zi_0, zi_1, zi_2, zi_3, zi_4, zi_5, zi_6, zi_7, zi_8, zi_9, zi_10, zi_11, zi_12, zi_13, zi_14, zi_15, zi_16, zi_17, zi_18, zi_19, zi_20, zi_21, zi_22, zi_23, zi_24, zi_25, zi_26, zi_30, zi_31, zi_32, zi_34, zi_38, zi_59, zi_60, zi_61, zi_63, zi_64, zi_80, zi_96, zi_97, zi_99, zi_100, zi_122, zi_255, zi_256, zi_300, zi_398, zi_406, zi_900, zi_1000, zi_1024, zi_1624, zi_1662, zi_2030, zi_2031, zi_2068, zi_2258, zi_9999, zi_48, zi_57, zi_65536, zi_3257, zi_11483, zi_1000000, zi_729, zi_81, zi_m1, nI_add, pk_mul, nI_ltI, nI_leI, nI_eq, nI_clamp, zn_in, zn_sub1lt, zn_M, zn_Ml, zn_Mg, zn_Mle, zn_Mge, zn_sub, Nat.reduceAdd, Nat.reduceMul, forall_eq, true_imp_iff, false_imp_iff, and_true, true_and, not_true_eq_false, not_false_eq_true, reduceCtorEq, imp_self, eq_self, false_and, and_false, implies_true]
    exact ⟨fun _ => fin, fun x => absurd (by omega) x⟩
theorem fk_U.st (hd : 35 ≤ d) (v : Int32) : fk_U d I (am_u2 I 0 15 v) := fun r k g => by unfold am_u2; rw [if_neg]; omega
theorem sq_cd.d35 (h : sq_cd c d) : 35 ≤ d := by have := h.2; omega
theorem fk_M.st (v : Int32) : fk_M I (am_u2 I 103 2 v) := fun r k g => by unfold am_u2; rw [if_neg]; omega
theorem fk_M.trans (h : fk_M I I1) (h2 : fk_M I1 I2) : fk_M I I2 := fun r k g => (h2 r k g).trans (h r k g)
theorem fk_U.trans (h : fk_U d I I1) (h2 : fk_U d I1 I2) : fk_U d I I2 := fun r k g => (h2 r k g).trans (h r k g)
theorem li_U.keep (h : li_U lv I) (e : I1 12 = I 12) : li_U lv I1 := by unfold li_U; rw [e]; exact h
theorem li_M.keep (h : li_M lv I) (e : I1 103 49 = I 103 49) (e2 : ∀ k, k < 5 → I1 132 k = I 132 k) : li_M lv I1 := by
  refine ⟨by rw [e]; exact h.1, fun g k hk => ?_⟩
  rw [e2 k hk]; exact h.2 g k hk
theorem op_lived (ok : sq_Ok q) (lok : li_Ok lv) (p1 : Int32) : si_L q lv (fun I L R Q => wp_U_lived I L R 0 p1 Q) (fun I L R Q => wp_M_lived I L R 103 p1 Q) := by
  obtain ⟨l5, l4⟩ := lok
  have lok : li_Ok lv := ⟨l5, l4⟩
  rcases zc p1 with hp | ⟨j, hj, rfl⟩
  · refine ⟨nM, 1, q, lv, ⟨ok, lok⟩, ?_, ?_⟩
    · intro c d I L R hcd h hc hd hz l Q K
      simp (disch := omega) only [wp_U_lived, wp_U_within, wp_U_refused, hp, zc_t hp, zc_l hp, zc_m hp, zc_k hp, zi_0, zi_1, zi_2, zi_3, zi_4, zi_5, zi_6, zi_7, zi_8, zi_9, zi_10, zi_11, zi_12, zi_13, zi_14, zi_15, zi_16, zi_17, zi_18, zi_19, zi_20, zi_21, zi_22, zi_23, zi_24, zi_25, zi_26, zi_30, zi_31, zi_32, zi_34, zi_38, zi_59, zi_60, zi_61, zi_63, zi_64, zi_80, zi_96, zi_97, zi_99, zi_100, zi_122, zi_255, zi_256, zi_300, zi_398, zi_406, zi_900, zi_1000, zi_1024, zi_1624, zi_1662, zi_2030, zi_2031, zi_2068, zi_2258, zi_9999, zi_48, zi_57, zi_65536, zi_3257, zi_11483, zi_1000000, zi_729, zi_81, zi_m1, nI_add, pk_mul, nI_ltI, nI_leI, nI_eq, nI_clamp, zn_in, zn_sub1lt, zn_M, zn_Ml, zn_Mg, zn_Mle, zn_Mge, zn_sub, Nat.reduceAdd, Nat.reduceMul, forall_eq, true_imp_iff, false_imp_iff, and_true, true_and, not_true_eq_false, not_false_eq_true, reduceCtorEq, imp_self, eq_self, false_and, and_false, implies_true]
      repeat' (first | omega | with_reducible refine And.intro ?_ ?_ | with_reducible intro g)
      all_goals exact K _ (po_U.q0 h hcd _).1 (am_u2_at _ _ _ _) (l.keep (am_u2_row _ _ _ _ (by omega))) (fk_U.st hcd.d35 _)
    · intro I L R h l Q K
      simp (disch := omega) only [wp_M_lived, wb_M_lived_9, wp_M_refuse, hp, zc_e hp, zf_n hp, zc_t hp, zc_l hp, zc_m hp, zc_k hp, zi_0, zi_1, zi_2, zi_3, zi_4, zi_5, zi_6, zi_7, zi_8, zi_9, zi_10, zi_11, zi_12, zi_13, zi_14, zi_15, zi_16, zi_17, zi_18, zi_19, zi_20, zi_21, zi_22, zi_23, zi_24, zi_25, zi_26, zi_30, zi_31, zi_32, zi_34, zi_38, zi_59, zi_60, zi_61, zi_63, zi_64, zi_80, zi_96, zi_97, zi_99, zi_100, zi_122, zi_255, zi_256, zi_300, zi_398, zi_406, zi_900, zi_1000, zi_1024, zi_1624, zi_1662, zi_2030, zi_2031, zi_2068, zi_2258, zi_9999, zi_48, zi_57, zi_65536, zi_3257, zi_11483, zi_1000000, zi_729, zi_81, zi_m1, nI_add, pk_mul, nI_ltI, nI_leI, nI_eq, nI_clamp, zn_in, zn_sub1lt, zn_M, zn_Ml, zn_Mg, zn_Mle, zn_Mge, zn_sub, Nat.reduceAdd, Nat.reduceMul, forall_eq, true_imp_iff, false_imp_iff, and_true, true_and, not_true_eq_false, not_false_eq_true, reduceCtorEq, imp_self, eq_self, false_and, and_false, implies_true]
      repeat' (first | omega | with_reducible refine And.intro ?_ ?_ | with_reducible intro g)
      all_goals exact K _ (po_M.q0 h ok _).1 (am_u2_at _ _ _ _) (l.keep (am_u2_ne _ _ _ _ (by omega) _) (fun k _ => am_u2o (by omega))) (fk_M.st _)
  by_cases g : 4 < j
  · refine ⟨nM, 1, q, lv, ⟨ok, lok⟩, ?_, ?_⟩
    · intro c d I L R hcd h hc hd hz l Q K
      simp (disch := omega) only [wp_U_lived, wp_U_within, wp_U_refused, zi_0, zi_1, zi_2, zi_3, zi_4, zi_5, zi_6, zi_7, zi_8, zi_9, zi_10, zi_11, zi_12, zi_13, zi_14, zi_15, zi_16, zi_17, zi_18, zi_19, zi_20, zi_21, zi_22, zi_23, zi_24, zi_25, zi_26, zi_30, zi_31, zi_32, zi_34, zi_38, zi_59, zi_60, zi_61, zi_63, zi_64, zi_80, zi_96, zi_97, zi_99, zi_100, zi_122, zi_255, zi_256, zi_300, zi_398, zi_406, zi_900, zi_1000, zi_1024, zi_1624, zi_1662, zi_2030, zi_2031, zi_2068, zi_2258, zi_9999, zi_48, zi_57, zi_65536, zi_3257, zi_11483, zi_1000000, zi_729, zi_81, zi_m1, nI_add, pk_mul, nI_ltI, nI_leI, nI_eq, nI_clamp, zn_in, zn_sub1lt, zn_M, zn_Ml, zn_Mg, zn_Mle, zn_Mge, zn_sub, Nat.reduceAdd, Nat.reduceMul, forall_eq, true_imp_iff, false_imp_iff, and_true, true_and, not_true_eq_false, not_false_eq_true, reduceCtorEq, imp_self, eq_self, false_and, and_false, implies_true]
      repeat' (first | omega | with_reducible refine And.intro ?_ ?_ | with_reducible intro g)
      all_goals exact K _ (po_U.q0 h hcd _).1 (am_u2_at _ _ _ _) (l.keep (am_u2_row _ _ _ _ (by omega))) (fk_U.st hcd.d35 _)
    · intro I L R h l Q K
      simp (disch := omega) only [wp_M_lived, wb_M_lived_9, wp_M_refuse, zi_0, zi_1, zi_2, zi_3, zi_4, zi_5, zi_6, zi_7, zi_8, zi_9, zi_10, zi_11, zi_12, zi_13, zi_14, zi_15, zi_16, zi_17, zi_18, zi_19, zi_20, zi_21, zi_22, zi_23, zi_24, zi_25, zi_26, zi_30, zi_31, zi_32, zi_34, zi_38, zi_59, zi_60, zi_61, zi_63, zi_64, zi_80, zi_96, zi_97, zi_99, zi_100, zi_122, zi_255, zi_256, zi_300, zi_398, zi_406, zi_900, zi_1000, zi_1024, zi_1624, zi_1662, zi_2030, zi_2031, zi_2068, zi_2258, zi_9999, zi_48, zi_57, zi_65536, zi_3257, zi_11483, zi_1000000, zi_729, zi_81, zi_m1, nI_add, pk_mul, nI_ltI, nI_leI, nI_eq, nI_clamp, zn_in, zn_sub1lt, zn_M, zn_Ml, zn_Mg, zn_Mle, zn_Mge, zn_sub, Nat.reduceAdd, Nat.reduceMul, forall_eq, true_imp_iff, false_imp_iff, and_true, true_and, not_true_eq_false, not_false_eq_true, reduceCtorEq, imp_self, eq_self, false_and, and_false, implies_true]
      repeat' (first | omega | with_reducible refine And.intro ?_ ?_ | with_reducible intro g)
      all_goals exact K _ (po_M.q0 h ok _).1 (am_u2_at _ _ _ _) (l.keep (am_u2_ne _ _ _ _ (by omega) _) (fun k _ => am_u2o (by omega))) (fk_M.st _)
  by_cases g5 : lv 5 = 0
  · refine ⟨nM, 6, q, lv, ⟨ok, lok⟩, ?_, ?_⟩
    · intro c d I L R hcd h hc hd hz l Q K
      simp (disch := omega) only [wp_U_lived, wp_U_within, wp_U_refused, l.1, zi_0, zi_1, zi_2, zi_3, zi_4, zi_5, zi_6, zi_7, zi_8, zi_9, zi_10, zi_11, zi_12, zi_13, zi_14, zi_15, zi_16, zi_17, zi_18, zi_19, zi_20, zi_21, zi_22, zi_23, zi_24, zi_25, zi_26, zi_30, zi_31, zi_32, zi_34, zi_38, zi_59, zi_60, zi_61, zi_63, zi_64, zi_80, zi_96, zi_97, zi_99, zi_100, zi_122, zi_255, zi_256, zi_300, zi_398, zi_406, zi_900, zi_1000, zi_1024, zi_1624, zi_1662, zi_2030, zi_2031, zi_2068, zi_2258, zi_9999, zi_48, zi_57, zi_65536, zi_3257, zi_11483, zi_1000000, zi_729, zi_81, zi_m1, nI_add, pk_mul, nI_ltI, nI_leI, nI_eq, nI_clamp, zn_in, zn_sub1lt, zn_M, zn_Ml, zn_Mg, zn_Mle, zn_Mge, zn_sub, Nat.reduceAdd, Nat.reduceMul, forall_eq, true_imp_iff, false_imp_iff, and_true, true_and, not_true_eq_false, not_false_eq_true, reduceCtorEq, imp_self, eq_self, false_and, and_false, implies_true]
      repeat' (first | omega | with_reducible refine And.intro ?_ ?_ | with_reducible intro g)
      all_goals exact K _ (po_U.q0 h hcd _).1 (am_u2_at _ _ _ _) (l.keep (am_u2_row _ _ _ _ (by omega))) (fk_U.st hcd.d35 _)
    · intro I L R h l Q K
      simp (disch := omega) only [wp_M_lived, wb_M_lived_9, wp_M_refuse, l.1, zi_0, zi_1, zi_2, zi_3, zi_4, zi_5, zi_6, zi_7, zi_8, zi_9, zi_10, zi_11, zi_12, zi_13, zi_14, zi_15, zi_16, zi_17, zi_18, zi_19, zi_20, zi_21, zi_22, zi_23, zi_24, zi_25, zi_26, zi_30, zi_31, zi_32, zi_34, zi_38, zi_59, zi_60, zi_61, zi_63, zi_64, zi_80, zi_96, zi_97, zi_99, zi_100, zi_122, zi_255, zi_256, zi_300, zi_398, zi_406, zi_900, zi_1000, zi_1024, zi_1624, zi_1662, zi_2030, zi_2031, zi_2068, zi_2258, zi_9999, zi_48, zi_57, zi_65536, zi_3257, zi_11483, zi_1000000, zi_729, zi_81, zi_m1, nI_add, pk_mul, nI_ltI, nI_leI, nI_eq, nI_clamp, zn_in, zn_sub1lt, zn_M, zn_Ml, zn_Mg, zn_Mle, zn_Mge, zn_sub, Nat.reduceAdd, Nat.reduceMul, forall_eq, true_imp_iff, false_imp_iff, and_true, true_and, not_true_eq_false, not_false_eq_true, reduceCtorEq, imp_self, eq_self, false_and, and_false, implies_true]
      repeat' (first | omega | with_reducible refine And.intro ?_ ?_ | with_reducible intro g)
      all_goals exact K _ (po_M.q0 h ok _).1 (am_u2_at _ _ _ _) (l.keep (am_u2_ne _ _ _ _ (by omega) _) (fun k _ => am_u2o (by omega))) (fk_M.st _)
  have g51 : lv 5 = 1 := by omega
  have gj : j = 0 ∨ j = 1 ∨ j = 2 ∨ j = 3 ∨ j = 4 := by omega
  rcases gj with rfl | rfl | rfl | rfl | rfl
  · refine ⟨nI (lv 0), 0, q, lv, ⟨ok, lok⟩, ?_, ?_⟩
    · intro c d I L R hcd h hc hd hz l Q K
      simp (disch := omega) only [wp_U_lived, wp_U_within, wp_U_refused, wp_Life_count, wp_U_answered, l.1, g51, (l.2 g51).1, zi_0, zi_1, zi_2, zi_3, zi_4, zi_5, zi_6, zi_7, zi_8, zi_9, zi_10, zi_11, zi_12, zi_13, zi_14, zi_15, zi_16, zi_17, zi_18, zi_19, zi_20, zi_21, zi_22, zi_23, zi_24, zi_25, zi_26, zi_30, zi_31, zi_32, zi_34, zi_38, zi_59, zi_60, zi_61, zi_63, zi_64, zi_80, zi_96, zi_97, zi_99, zi_100, zi_122, zi_255, zi_256, zi_300, zi_398, zi_406, zi_900, zi_1000, zi_1024, zi_1624, zi_1662, zi_2030, zi_2031, zi_2068, zi_2258, zi_9999, zi_48, zi_57, zi_65536, zi_3257, zi_11483, zi_1000000, zi_729, zi_81, zi_m1, nI_add, pk_mul, nI_ltI, nI_leI, nI_eq, nI_clamp, zn_in, zn_sub1lt, zn_M, zn_Ml, zn_Mg, zn_Mle, zn_Mge, zn_sub, Nat.reduceAdd, Nat.reduceMul, forall_eq, true_imp_iff, false_imp_iff, and_true, true_and, not_true_eq_false, not_false_eq_true, reduceCtorEq, imp_self, eq_self, false_and, and_false, implies_true]
      repeat' (first | omega | with_reducible refine And.intro ?_ ?_ | with_reducible intro g)
      all_goals exact K _ (po_U.q0 h hcd _).1 (am_u2_at _ _ _ _) (l.keep (am_u2_row _ _ _ _ (by omega))) (fk_U.st hcd.d35 _)
    · intro I L R h l Q K
      simp (disch := omega) only [wp_M_lived, wb_M_lived_9, wp_M_refuse, wp_M_gives, l.1, g51, l.2 g51 0 (by omega), zi_0, zi_1, zi_2, zi_3, zi_4, zi_5, zi_6, zi_7, zi_8, zi_9, zi_10, zi_11, zi_12, zi_13, zi_14, zi_15, zi_16, zi_17, zi_18, zi_19, zi_20, zi_21, zi_22, zi_23, zi_24, zi_25, zi_26, zi_30, zi_31, zi_32, zi_34, zi_38, zi_59, zi_60, zi_61, zi_63, zi_64, zi_80, zi_96, zi_97, zi_99, zi_100, zi_122, zi_255, zi_256, zi_300, zi_398, zi_406, zi_900, zi_1000, zi_1024, zi_1624, zi_1662, zi_2030, zi_2031, zi_2068, zi_2258, zi_9999, zi_48, zi_57, zi_65536, zi_3257, zi_11483, zi_1000000, zi_729, zi_81, zi_m1, nI_add, pk_mul, nI_ltI, nI_leI, nI_eq, nI_clamp, zn_in, zn_sub1lt, zn_M, zn_Ml, zn_Mg, zn_Mle, zn_Mge, zn_sub, Nat.reduceAdd, Nat.reduceMul, forall_eq, true_imp_iff, false_imp_iff, and_true, true_and, not_true_eq_false, not_false_eq_true, reduceCtorEq, imp_self, eq_self, false_and, and_false, implies_true]
      repeat' (first | omega | with_reducible refine And.intro ?_ ?_ | with_reducible intro g)
      all_goals exact K _ (po_M.q0 h ok _).1 (am_u2_at _ _ _ _) (l.keep (am_u2_ne _ _ _ _ (by omega) _) (fun k _ => am_u2o (by omega))) (fk_M.st _)
  · refine ⟨nI (lv 1), 0, q, lv, ⟨ok, lok⟩, ?_, ?_⟩
    · intro c d I L R hcd h hc hd hz l Q K
      simp (disch := omega) only [wp_U_lived, wp_U_within, wp_U_refused, wp_Life_count, wp_U_answered, l.1, g51, (l.2 g51).2.1, zi_0, zi_1, zi_2, zi_3, zi_4, zi_5, zi_6, zi_7, zi_8, zi_9, zi_10, zi_11, zi_12, zi_13, zi_14, zi_15, zi_16, zi_17, zi_18, zi_19, zi_20, zi_21, zi_22, zi_23, zi_24, zi_25, zi_26, zi_30, zi_31, zi_32, zi_34, zi_38, zi_59, zi_60, zi_61, zi_63, zi_64, zi_80, zi_96, zi_97, zi_99, zi_100, zi_122, zi_255, zi_256, zi_300, zi_398, zi_406, zi_900, zi_1000, zi_1024, zi_1624, zi_1662, zi_2030, zi_2031, zi_2068, zi_2258, zi_9999, zi_48, zi_57, zi_65536, zi_3257, zi_11483, zi_1000000, zi_729, zi_81, zi_m1, nI_add, pk_mul, nI_ltI, nI_leI, nI_eq, nI_clamp, zn_in, zn_sub1lt, zn_M, zn_Ml, zn_Mg, zn_Mle, zn_Mge, zn_sub, Nat.reduceAdd, Nat.reduceMul, forall_eq, true_imp_iff, false_imp_iff, and_true, true_and, not_true_eq_false, not_false_eq_true, reduceCtorEq, imp_self, eq_self, false_and, and_false, implies_true]
      repeat' (first | omega | with_reducible refine And.intro ?_ ?_ | with_reducible intro g)
      all_goals exact K _ (po_U.q0 h hcd _).1 (am_u2_at _ _ _ _) (l.keep (am_u2_row _ _ _ _ (by omega))) (fk_U.st hcd.d35 _)
    · intro I L R h l Q K
      simp (disch := omega) only [wp_M_lived, wb_M_lived_9, wp_M_refuse, wp_M_gives, l.1, g51, l.2 g51 1 (by omega), zi_0, zi_1, zi_2, zi_3, zi_4, zi_5, zi_6, zi_7, zi_8, zi_9, zi_10, zi_11, zi_12, zi_13, zi_14, zi_15, zi_16, zi_17, zi_18, zi_19, zi_20, zi_21, zi_22, zi_23, zi_24, zi_25, zi_26, zi_30, zi_31, zi_32, zi_34, zi_38, zi_59, zi_60, zi_61, zi_63, zi_64, zi_80, zi_96, zi_97, zi_99, zi_100, zi_122, zi_255, zi_256, zi_300, zi_398, zi_406, zi_900, zi_1000, zi_1024, zi_1624, zi_1662, zi_2030, zi_2031, zi_2068, zi_2258, zi_9999, zi_48, zi_57, zi_65536, zi_3257, zi_11483, zi_1000000, zi_729, zi_81, zi_m1, nI_add, pk_mul, nI_ltI, nI_leI, nI_eq, nI_clamp, zn_in, zn_sub1lt, zn_M, zn_Ml, zn_Mg, zn_Mle, zn_Mge, zn_sub, Nat.reduceAdd, Nat.reduceMul, forall_eq, true_imp_iff, false_imp_iff, and_true, true_and, not_true_eq_false, not_false_eq_true, reduceCtorEq, imp_self, eq_self, false_and, and_false, implies_true]
      repeat' (first | omega | with_reducible refine And.intro ?_ ?_ | with_reducible intro g)
      all_goals exact K _ (po_M.q0 h ok _).1 (am_u2_at _ _ _ _) (l.keep (am_u2_ne _ _ _ _ (by omega) _) (fun k _ => am_u2o (by omega))) (fk_M.st _)
  · refine ⟨nI (lv 2), 0, q, lv, ⟨ok, lok⟩, ?_, ?_⟩
    · intro c d I L R hcd h hc hd hz l Q K
      simp (disch := omega) only [wp_U_lived, wp_U_within, wp_U_refused, wp_Life_count, wp_U_answered, l.1, g51, (l.2 g51).2.2.1, zi_0, zi_1, zi_2, zi_3, zi_4, zi_5, zi_6, zi_7, zi_8, zi_9, zi_10, zi_11, zi_12, zi_13, zi_14, zi_15, zi_16, zi_17, zi_18, zi_19, zi_20, zi_21, zi_22, zi_23, zi_24, zi_25, zi_26, zi_30, zi_31, zi_32, zi_34, zi_38, zi_59, zi_60, zi_61, zi_63, zi_64, zi_80, zi_96, zi_97, zi_99, zi_100, zi_122, zi_255, zi_256, zi_300, zi_398, zi_406, zi_900, zi_1000, zi_1024, zi_1624, zi_1662, zi_2030, zi_2031, zi_2068, zi_2258, zi_9999, zi_48, zi_57, zi_65536, zi_3257, zi_11483, zi_1000000, zi_729, zi_81, zi_m1, nI_add, pk_mul, nI_ltI, nI_leI, nI_eq, nI_clamp, zn_in, zn_sub1lt, zn_M, zn_Ml, zn_Mg, zn_Mle, zn_Mge, zn_sub, Nat.reduceAdd, Nat.reduceMul, forall_eq, true_imp_iff, false_imp_iff, and_true, true_and, not_true_eq_false, not_false_eq_true, reduceCtorEq, imp_self, eq_self, false_and, and_false, implies_true]
      repeat' (first | omega | with_reducible refine And.intro ?_ ?_ | with_reducible intro g)
      all_goals exact K _ (po_U.q0 h hcd _).1 (am_u2_at _ _ _ _) (l.keep (am_u2_row _ _ _ _ (by omega))) (fk_U.st hcd.d35 _)
    · intro I L R h l Q K
      simp (disch := omega) only [wp_M_lived, wb_M_lived_9, wp_M_refuse, wp_M_gives, l.1, g51, l.2 g51 2 (by omega), zi_0, zi_1, zi_2, zi_3, zi_4, zi_5, zi_6, zi_7, zi_8, zi_9, zi_10, zi_11, zi_12, zi_13, zi_14, zi_15, zi_16, zi_17, zi_18, zi_19, zi_20, zi_21, zi_22, zi_23, zi_24, zi_25, zi_26, zi_30, zi_31, zi_32, zi_34, zi_38, zi_59, zi_60, zi_61, zi_63, zi_64, zi_80, zi_96, zi_97, zi_99, zi_100, zi_122, zi_255, zi_256, zi_300, zi_398, zi_406, zi_900, zi_1000, zi_1024, zi_1624, zi_1662, zi_2030, zi_2031, zi_2068, zi_2258, zi_9999, zi_48, zi_57, zi_65536, zi_3257, zi_11483, zi_1000000, zi_729, zi_81, zi_m1, nI_add, pk_mul, nI_ltI, nI_leI, nI_eq, nI_clamp, zn_in, zn_sub1lt, zn_M, zn_Ml, zn_Mg, zn_Mle, zn_Mge, zn_sub, Nat.reduceAdd, Nat.reduceMul, forall_eq, true_imp_iff, false_imp_iff, and_true, true_and, not_true_eq_false, not_false_eq_true, reduceCtorEq, imp_self, eq_self, false_and, and_false, implies_true]
      repeat' (first | omega | with_reducible refine And.intro ?_ ?_ | with_reducible intro g)
      all_goals exact K _ (po_M.q0 h ok _).1 (am_u2_at _ _ _ _) (l.keep (am_u2_ne _ _ _ _ (by omega) _) (fun k _ => am_u2o (by omega))) (fk_M.st _)
  · refine ⟨nI (lv 3), 0, q, lv, ⟨ok, lok⟩, ?_, ?_⟩
    · intro c d I L R hcd h hc hd hz l Q K
      simp (disch := omega) only [wp_U_lived, wp_U_within, wp_U_refused, wp_Life_count, wp_U_answered, l.1, g51, (l.2 g51).2.2.2.1, zi_0, zi_1, zi_2, zi_3, zi_4, zi_5, zi_6, zi_7, zi_8, zi_9, zi_10, zi_11, zi_12, zi_13, zi_14, zi_15, zi_16, zi_17, zi_18, zi_19, zi_20, zi_21, zi_22, zi_23, zi_24, zi_25, zi_26, zi_30, zi_31, zi_32, zi_34, zi_38, zi_59, zi_60, zi_61, zi_63, zi_64, zi_80, zi_96, zi_97, zi_99, zi_100, zi_122, zi_255, zi_256, zi_300, zi_398, zi_406, zi_900, zi_1000, zi_1024, zi_1624, zi_1662, zi_2030, zi_2031, zi_2068, zi_2258, zi_9999, zi_48, zi_57, zi_65536, zi_3257, zi_11483, zi_1000000, zi_729, zi_81, zi_m1, nI_add, pk_mul, nI_ltI, nI_leI, nI_eq, nI_clamp, zn_in, zn_sub1lt, zn_M, zn_Ml, zn_Mg, zn_Mle, zn_Mge, zn_sub, Nat.reduceAdd, Nat.reduceMul, forall_eq, true_imp_iff, false_imp_iff, and_true, true_and, not_true_eq_false, not_false_eq_true, reduceCtorEq, imp_self, eq_self, false_and, and_false, implies_true]
      repeat' (first | omega | with_reducible refine And.intro ?_ ?_ | with_reducible intro g)
      all_goals exact K _ (po_U.q0 h hcd _).1 (am_u2_at _ _ _ _) (l.keep (am_u2_row _ _ _ _ (by omega))) (fk_U.st hcd.d35 _)
    · intro I L R h l Q K
      simp (disch := omega) only [wp_M_lived, wb_M_lived_9, wp_M_refuse, wp_M_gives, l.1, g51, l.2 g51 3 (by omega), zi_0, zi_1, zi_2, zi_3, zi_4, zi_5, zi_6, zi_7, zi_8, zi_9, zi_10, zi_11, zi_12, zi_13, zi_14, zi_15, zi_16, zi_17, zi_18, zi_19, zi_20, zi_21, zi_22, zi_23, zi_24, zi_25, zi_26, zi_30, zi_31, zi_32, zi_34, zi_38, zi_59, zi_60, zi_61, zi_63, zi_64, zi_80, zi_96, zi_97, zi_99, zi_100, zi_122, zi_255, zi_256, zi_300, zi_398, zi_406, zi_900, zi_1000, zi_1024, zi_1624, zi_1662, zi_2030, zi_2031, zi_2068, zi_2258, zi_9999, zi_48, zi_57, zi_65536, zi_3257, zi_11483, zi_1000000, zi_729, zi_81, zi_m1, nI_add, pk_mul, nI_ltI, nI_leI, nI_eq, nI_clamp, zn_in, zn_sub1lt, zn_M, zn_Ml, zn_Mg, zn_Mle, zn_Mge, zn_sub, Nat.reduceAdd, Nat.reduceMul, forall_eq, true_imp_iff, false_imp_iff, and_true, true_and, not_true_eq_false, not_false_eq_true, reduceCtorEq, imp_self, eq_self, false_and, and_false, implies_true]
      repeat' (first | omega | with_reducible refine And.intro ?_ ?_ | with_reducible intro g)
      all_goals exact K _ (po_M.q0 h ok _).1 (am_u2_at _ _ _ _) (l.keep (am_u2_ne _ _ _ _ (by omega) _) (fun k _ => am_u2o (by omega))) (fk_M.st _)
  · have g4 : lv 4 = 0 ∨ lv 4 = 1 := by omega
    rcases g4 with g4 | g4
    · refine ⟨nI 0, 0, q, lv, ⟨ok, lok⟩, ?_, ?_⟩
      · intro c d I L R hcd h hc hd hz l Q K
        simp (disch := omega) only [wp_U_lived, wp_U_within, wp_U_refused, wp_Life_count, wp_U_answered, l.1, g51, g4, (l.2 g51).2.2.2.2, zi_0, zi_1, zi_2, zi_3, zi_4, zi_5, zi_6, zi_7, zi_8, zi_9, zi_10, zi_11, zi_12, zi_13, zi_14, zi_15, zi_16, zi_17, zi_18, zi_19, zi_20, zi_21, zi_22, zi_23, zi_24, zi_25, zi_26, zi_30, zi_31, zi_32, zi_34, zi_38, zi_59, zi_60, zi_61, zi_63, zi_64, zi_80, zi_96, zi_97, zi_99, zi_100, zi_122, zi_255, zi_256, zi_300, zi_398, zi_406, zi_900, zi_1000, zi_1024, zi_1624, zi_1662, zi_2030, zi_2031, zi_2068, zi_2258, zi_9999, zi_48, zi_57, zi_65536, zi_3257, zi_11483, zi_1000000, zi_729, zi_81, zi_m1, nI_add, pk_mul, nI_ltI, nI_leI, nI_eq, nI_clamp, zn_in, zn_sub1lt, zn_M, zn_Ml, zn_Mg, zn_Mle, zn_Mge, zn_sub, Nat.reduceAdd, Nat.reduceMul, forall_eq, true_imp_iff, false_imp_iff, and_true, true_and, not_true_eq_false, not_false_eq_true, reduceCtorEq, imp_self, eq_self, false_and, and_false, implies_true]
        repeat' (first | omega | with_reducible refine And.intro ?_ ?_ | with_reducible intro g)
        all_goals exact K _ (po_U.q0 h hcd _).1 (am_u2_at _ _ _ _) (l.keep (am_u2_row _ _ _ _ (by omega))) (fk_U.st hcd.d35 _)
      · intro I L R h l Q K
        simp (disch := omega) only [wp_M_lived, wb_M_lived_9, wp_M_refuse, wp_M_gives, l.1, g51, g4, l.2 g51 4 (by omega), zi_0, zi_1, zi_2, zi_3, zi_4, zi_5, zi_6, zi_7, zi_8, zi_9, zi_10, zi_11, zi_12, zi_13, zi_14, zi_15, zi_16, zi_17, zi_18, zi_19, zi_20, zi_21, zi_22, zi_23, zi_24, zi_25, zi_26, zi_30, zi_31, zi_32, zi_34, zi_38, zi_59, zi_60, zi_61, zi_63, zi_64, zi_80, zi_96, zi_97, zi_99, zi_100, zi_122, zi_255, zi_256, zi_300, zi_398, zi_406, zi_900, zi_1000, zi_1024, zi_1624, zi_1662, zi_2030, zi_2031, zi_2068, zi_2258, zi_9999, zi_48, zi_57, zi_65536, zi_3257, zi_11483, zi_1000000, zi_729, zi_81, zi_m1, nI_add, pk_mul, nI_ltI, nI_leI, nI_eq, nI_clamp, zn_in, zn_sub1lt, zn_M, zn_Ml, zn_Mg, zn_Mle, zn_Mge, zn_sub, Nat.reduceAdd, Nat.reduceMul, forall_eq, true_imp_iff, false_imp_iff, and_true, true_and, not_true_eq_false, not_false_eq_true, reduceCtorEq, imp_self, eq_self, false_and, and_false, implies_true]
        repeat' (first | omega | with_reducible refine And.intro ?_ ?_ | with_reducible intro g)
        all_goals exact K _ (po_M.q0 h ok _).1 (am_u2_at _ _ _ _) (l.keep (am_u2_ne _ _ _ _ (by omega) _) (fun k _ => am_u2o (by omega))) (fk_M.st _)
    · refine ⟨nI 1, 0, q, lv, ⟨ok, lok⟩, ?_, ?_⟩
      · intro c d I L R hcd h hc hd hz l Q K
        simp (disch := omega) only [wp_U_lived, wp_U_within, wp_U_refused, wp_Life_count, wp_U_answered, l.1, g51, g4, (l.2 g51).2.2.2.2, zi_0, zi_1, zi_2, zi_3, zi_4, zi_5, zi_6, zi_7, zi_8, zi_9, zi_10, zi_11, zi_12, zi_13, zi_14, zi_15, zi_16, zi_17, zi_18, zi_19, zi_20, zi_21, zi_22, zi_23, zi_24, zi_25, zi_26, zi_30, zi_31, zi_32, zi_34, zi_38, zi_59, zi_60, zi_61, zi_63, zi_64, zi_80, zi_96, zi_97, zi_99, zi_100, zi_122, zi_255, zi_256, zi_300, zi_398, zi_406, zi_900, zi_1000, zi_1024, zi_1624, zi_1662, zi_2030, zi_2031, zi_2068, zi_2258, zi_9999, zi_48, zi_57, zi_65536, zi_3257, zi_11483, zi_1000000, zi_729, zi_81, zi_m1, nI_add, pk_mul, nI_ltI, nI_leI, nI_eq, nI_clamp, zn_in, zn_sub1lt, zn_M, zn_Ml, zn_Mg, zn_Mle, zn_Mge, zn_sub, Nat.reduceAdd, Nat.reduceMul, forall_eq, true_imp_iff, false_imp_iff, and_true, true_and, not_true_eq_false, not_false_eq_true, reduceCtorEq, imp_self, eq_self, false_and, and_false, implies_true]
        repeat' (first | omega | with_reducible refine And.intro ?_ ?_ | with_reducible intro g)
        all_goals exact K _ (po_U.q0 h hcd _).1 (am_u2_at _ _ _ _) (l.keep (am_u2_row _ _ _ _ (by omega))) (fk_U.st hcd.d35 _)
      · intro I L R h l Q K
        simp (disch := omega) only [wp_M_lived, wb_M_lived_9, wp_M_refuse, wp_M_gives, l.1, g51, g4, l.2 g51 4 (by omega), zi_0, zi_1, zi_2, zi_3, zi_4, zi_5, zi_6, zi_7, zi_8, zi_9, zi_10, zi_11, zi_12, zi_13, zi_14, zi_15, zi_16, zi_17, zi_18, zi_19, zi_20, zi_21, zi_22, zi_23, zi_24, zi_25, zi_26, zi_30, zi_31, zi_32, zi_34, zi_38, zi_59, zi_60, zi_61, zi_63, zi_64, zi_80, zi_96, zi_97, zi_99, zi_100, zi_122, zi_255, zi_256, zi_300, zi_398, zi_406, zi_900, zi_1000, zi_1024, zi_1624, zi_1662, zi_2030, zi_2031, zi_2068, zi_2258, zi_9999, zi_48, zi_57, zi_65536, zi_3257, zi_11483, zi_1000000, zi_729, zi_81, zi_m1, nI_add, pk_mul, nI_ltI, nI_leI, nI_eq, nI_clamp, zn_in, zn_sub1lt, zn_M, zn_Ml, zn_Mg, zn_Mle, zn_Mge, zn_sub, Nat.reduceAdd, Nat.reduceMul, forall_eq, true_imp_iff, false_imp_iff, and_true, true_and, not_true_eq_false, not_false_eq_true, reduceCtorEq, imp_self, eq_self, false_and, and_false, implies_true]
        repeat' (first | omega | with_reducible refine And.intro ?_ ?_ | with_reducible intro g)
        all_goals exact K _ (po_M.q0 h ok _).1 (am_u2_at _ _ _ _) (l.keep (am_u2_ne _ _ _ _ (by omega) _) (fun k _ => am_u2o (by omega))) (fk_M.st _)
theorem op_live (ok : sq_Ok q) (lok : li_Ok lv) (p1 : Int32) : si_L q lv (fun I L R Q => wp_U_live I L R 0 p1 Q) (fun I L R Q => wp_M_live I L R 103 p1 Q) := by
  have o7 := ok.2.2.2.2.1
  rcases zc p1 with hp | ⟨j, hj, rfl⟩
  · refine ⟨nM, 1, q, lv, ⟨ok, lok⟩, ?_, ?_⟩
    · intro c d I L R hcd h hc hd hz l Q K
      simp (disch := omega) only [wp_U_live, wp_U_within, wp_U_refused, hp, zc_t hp, zc_l hp, zc_m hp, zc_k hp, zi_0, zi_1, zi_2, zi_3, zi_4, zi_5, zi_6, zi_7, zi_8, zi_9, zi_10, zi_11, zi_12, zi_13, zi_14, zi_15, zi_16, zi_17, zi_18, zi_19, zi_20, zi_21, zi_22, zi_23, zi_24, zi_25, zi_26, zi_30, zi_31, zi_32, zi_34, zi_38, zi_59, zi_60, zi_61, zi_63, zi_64, zi_80, zi_96, zi_97, zi_99, zi_100, zi_122, zi_255, zi_256, zi_300, zi_398, zi_406, zi_900, zi_1000, zi_1024, zi_1624, zi_1662, zi_2030, zi_2031, zi_2068, zi_2258, zi_9999, zi_48, zi_57, zi_65536, zi_3257, zi_11483, zi_1000000, zi_729, zi_81, zi_m1, nI_add, pk_mul, nI_ltI, nI_leI, nI_eq, nI_clamp, zn_in, zn_sub1lt, zn_M, zn_Ml, zn_Mg, zn_Mle, zn_Mge, zn_sub, Nat.reduceAdd, Nat.reduceMul, forall_eq, true_imp_iff, false_imp_iff, and_true, true_and, not_true_eq_false, not_false_eq_true, reduceCtorEq, imp_self, eq_self, false_and, and_false, implies_true]
      repeat' (first | omega | with_reducible refine And.intro ?_ ?_ | with_reducible intro g)
      all_goals exact K _ (po_U.q0 h hcd _).1 (am_u2_at _ _ _ _) (l.keep (am_u2_row _ _ _ _ (by omega))) (fk_U.st hcd.d35 _)
    · intro I L R h l Q K
      simp (disch := omega) only [wp_M_live, wp_M_isFrom, wp_M_refuse, zj_0, zj_1, zj_2, zj_4, zj_6, zj_7, zj_8, zj_16, zj_20, zj_60, zj_63, zj_64, zj_99, zj_9999, nI_l, zk_lt, zk_le, zk_eq, zk_add, zk_in, hp, zc_e hp, zf_n hp, zc_t hp, zc_l hp, zc_m hp, zc_k hp, zi_0, zi_1, zi_2, zi_3, zi_4, zi_5, zi_6, zi_7, zi_8, zi_9, zi_10, zi_11, zi_12, zi_13, zi_14, zi_15, zi_16, zi_17, zi_18, zi_19, zi_20, zi_21, zi_22, zi_23, zi_24, zi_25, zi_26, zi_30, zi_31, zi_32, zi_34, zi_38, zi_59, zi_60, zi_61, zi_63, zi_64, zi_80, zi_96, zi_97, zi_99, zi_100, zi_122, zi_255, zi_256, zi_300, zi_398, zi_406, zi_900, zi_1000, zi_1024, zi_1624, zi_1662, zi_2030, zi_2031, zi_2068, zi_2258, zi_9999, zi_48, zi_57, zi_65536, zi_3257, zi_11483, zi_1000000, zi_729, zi_81, zi_m1, nI_add, pk_mul, nI_ltI, nI_leI, nI_eq, nI_clamp, zn_in, zn_sub1lt, zn_M, zn_Ml, zn_Mg, zn_Mle, zn_Mge, zn_sub, Nat.reduceAdd, Nat.reduceMul, forall_eq, true_imp_iff, false_imp_iff, and_true, true_and, not_true_eq_false, not_false_eq_true, reduceCtorEq, imp_self, eq_self, false_and, and_false, implies_true]
      repeat' (first | omega | with_reducible refine And.intro ?_ ?_ | with_reducible intro g)
      all_goals exact K _ (po_M.q0 h ok _).1 (am_u2_at _ _ _ _) (l.keep (am_u2_ne _ _ _ _ (by omega) _) (fun k _ => am_u2o (by omega))) (fk_M.st _)
  by_cases g : 9999 < j
  · refine ⟨nM, 1, q, lv, ⟨ok, lok⟩, ?_, ?_⟩
    · intro c d I L R hcd h hc hd hz l Q K
      simp (disch := omega) only [wp_U_live, wp_U_within, wp_U_refused, zi_0, zi_1, zi_2, zi_3, zi_4, zi_5, zi_6, zi_7, zi_8, zi_9, zi_10, zi_11, zi_12, zi_13, zi_14, zi_15, zi_16, zi_17, zi_18, zi_19, zi_20, zi_21, zi_22, zi_23, zi_24, zi_25, zi_26, zi_30, zi_31, zi_32, zi_34, zi_38, zi_59, zi_60, zi_61, zi_63, zi_64, zi_80, zi_96, zi_97, zi_99, zi_100, zi_122, zi_255, zi_256, zi_300, zi_398, zi_406, zi_900, zi_1000, zi_1024, zi_1624, zi_1662, zi_2030, zi_2031, zi_2068, zi_2258, zi_9999, zi_48, zi_57, zi_65536, zi_3257, zi_11483, zi_1000000, zi_729, zi_81, zi_m1, nI_add, pk_mul, nI_ltI, nI_leI, nI_eq, nI_clamp, zn_in, zn_sub1lt, zn_M, zn_Ml, zn_Mg, zn_Mle, zn_Mge, zn_sub, Nat.reduceAdd, Nat.reduceMul, forall_eq, true_imp_iff, false_imp_iff, and_true, true_and, not_true_eq_false, not_false_eq_true, reduceCtorEq, imp_self, eq_self, false_and, and_false, implies_true]
      repeat' (first | omega | with_reducible refine And.intro ?_ ?_ | with_reducible intro g)
      all_goals exact K _ (po_U.q0 h hcd _).1 (am_u2_at _ _ _ _) (l.keep (am_u2_row _ _ _ _ (by omega))) (fk_U.st hcd.d35 _)
    · intro I L R h l Q K
      simp (disch := omega) only [wp_M_live, wp_M_isFrom, wp_M_refuse, zj_0, zj_1, zj_2, zj_4, zj_6, zj_7, zj_8, zj_16, zj_20, zj_60, zj_63, zj_64, zj_99, zj_9999, nI_l, zk_lt, zk_le, zk_eq, zk_add, zk_in, zi_0, zi_1, zi_2, zi_3, zi_4, zi_5, zi_6, zi_7, zi_8, zi_9, zi_10, zi_11, zi_12, zi_13, zi_14, zi_15, zi_16, zi_17, zi_18, zi_19, zi_20, zi_21, zi_22, zi_23, zi_24, zi_25, zi_26, zi_30, zi_31, zi_32, zi_34, zi_38, zi_59, zi_60, zi_61, zi_63, zi_64, zi_80, zi_96, zi_97, zi_99, zi_100, zi_122, zi_255, zi_256, zi_300, zi_398, zi_406, zi_900, zi_1000, zi_1024, zi_1624, zi_1662, zi_2030, zi_2031, zi_2068, zi_2258, zi_9999, zi_48, zi_57, zi_65536, zi_3257, zi_11483, zi_1000000, zi_729, zi_81, zi_m1, nI_add, pk_mul, nI_ltI, nI_leI, nI_eq, nI_clamp, zn_in, zn_sub1lt, zn_M, zn_Ml, zn_Mg, zn_Mle, zn_Mge, zn_sub, Nat.reduceAdd, Nat.reduceMul, forall_eq, true_imp_iff, false_imp_iff, and_true, true_and, not_true_eq_false, not_false_eq_true, reduceCtorEq, imp_self, eq_self, false_and, and_false, implies_true]
      repeat' (first | omega | with_reducible refine And.intro ?_ ?_ | with_reducible intro g)
      all_goals exact K _ (po_M.q0 h ok _).1 (am_u2_at _ _ _ _) (l.keep (am_u2_ne _ _ _ _ (by omega) _) (fun k _ => am_u2o (by omega))) (fk_M.st _)
  by_cases g7 : q 7 = 0
  · have e7 : nI (q 7) - nI 1 = nM := by rw [g7]; rfl
    have e5 : ∀ {d : Nat} {I : am_TI}, dy_U q d I → I d 5 = nI 0 := fun h => by rw [h.1, if_pos g7]
    refine ⟨nM, 6, q, lv, ⟨ok, lok⟩, ?_, ?_⟩
    · intro c d I L R hcd h hc hd hz l Q K
      simp (disch := omega) only [wp_U_live, wp_U_within, wp_U_refused, hc, hd, e5 h.dy, zi_0, zi_1, zi_2, zi_3, zi_4, zi_5, zi_6, zi_7, zi_8, zi_9, zi_10, zi_11, zi_12, zi_13, zi_14, zi_15, zi_16, zi_17, zi_18, zi_19, zi_20, zi_21, zi_22, zi_23, zi_24, zi_25, zi_26, zi_30, zi_31, zi_32, zi_34, zi_38, zi_59, zi_60, zi_61, zi_63, zi_64, zi_80, zi_96, zi_97, zi_99, zi_100, zi_122, zi_255, zi_256, zi_300, zi_398, zi_406, zi_900, zi_1000, zi_1024, zi_1624, zi_1662, zi_2030, zi_2031, zi_2068, zi_2258, zi_9999, zi_48, zi_57, zi_65536, zi_3257, zi_11483, zi_1000000, zi_729, zi_81, zi_m1, nI_add, pk_mul, nI_ltI, nI_leI, nI_eq, nI_clamp, zn_in, zn_sub1lt, zn_M, zn_Ml, zn_Mg, zn_Mle, zn_Mge, zn_sub, Nat.reduceAdd, Nat.reduceMul, forall_eq, true_imp_iff, false_imp_iff, and_true, true_and, not_true_eq_false, not_false_eq_true, reduceCtorEq, imp_self, eq_self, false_and, and_false, implies_true]
      repeat' (first | omega | with_reducible refine And.intro ?_ ?_ | with_reducible intro g)
      all_goals exact K _ (po_U.q0 h hcd _).1 (am_u2_at _ _ _ _) (l.keep (am_u2_row _ _ _ _ (by omega))) (fk_U.st hcd.d35 _)
    · intro I L R h l Q K
      simp (disch := omega) only [wp_M_live, wp_M_isFrom, wp_M_refuse, zj_0, zj_1, zj_2, zj_4, zj_6, zj_7, zj_8, zj_16, zj_20, zj_60, zj_63, zj_64, zj_99, zj_9999, nI_l, zk_lt, zk_le, zk_eq, zk_add, zk_in, h.n7, e7, zi_0, zi_1, zi_2, zi_3, zi_4, zi_5, zi_6, zi_7, zi_8, zi_9, zi_10, zi_11, zi_12, zi_13, zi_14, zi_15, zi_16, zi_17, zi_18, zi_19, zi_20, zi_21, zi_22, zi_23, zi_24, zi_25, zi_26, zi_30, zi_31, zi_32, zi_34, zi_38, zi_59, zi_60, zi_61, zi_63, zi_64, zi_80, zi_96, zi_97, zi_99, zi_100, zi_122, zi_255, zi_256, zi_300, zi_398, zi_406, zi_900, zi_1000, zi_1024, zi_1624, zi_1662, zi_2030, zi_2031, zi_2068, zi_2258, zi_9999, zi_48, zi_57, zi_65536, zi_3257, zi_11483, zi_1000000, zi_729, zi_81, zi_m1, nI_add, pk_mul, nI_ltI, nI_leI, nI_eq, nI_clamp, zn_in, zn_sub1lt, zn_M, zn_Ml, zn_Mg, zn_Mle, zn_Mge, zn_sub, Nat.reduceAdd, Nat.reduceMul, forall_eq, true_imp_iff, false_imp_iff, and_true, true_and, not_true_eq_false, not_false_eq_true, reduceCtorEq, imp_self, eq_self, false_and, and_false, implies_true]
      repeat' (first | omega | with_reducible refine And.intro ?_ ?_ | with_reducible intro g)
      all_goals exact K _ (po_M.q0 h ok _).1 (am_u2_at _ _ _ _) (l.keep (am_u2_ne _ _ _ _ (by omega) _) (fun k _ => am_u2o (by omega))) (fk_M.st _)
  obtain ⟨qf, tm, tp, tc, th, lf, sf, okf, ef, hlf, hsf, hU, hM⟩ := lv_all ok (by omega) (s := j) (by omega)
  have e5 : ∀ {d : Nat} {I : am_TI}, dy_U q d I → I d 5 = nI 1 := fun h => by rw [h.1, if_neg g7]
  have e7 : nI (q 7) - nI 1 = nI (q 7 - 1) := zn_sub (by omega)
  refine ⟨nI sf, 0, qf, (fun k => if k = 0 then tm else if k = 1 then tp else if k = 2 then tc else if k = 3 then th else if k = 4 then lf else 1), ⟨okf, ⟨by simp, by simpa using hlf⟩⟩, ?_, ?_⟩
  · intro c d I L R hcd h hc hd hz l Q K
    simp (disch := omega) only [wp_U_live, wp_U_within, wp_U_refused, hc, hd, e5 h.dy, zi_0, zi_1, zi_2, zi_3, zi_4, zi_5, zi_6, zi_7, zi_8, zi_9, zi_10, zi_11, zi_12, zi_13, zi_14, zi_15, zi_16, zi_17, zi_18, zi_19, zi_20, zi_21, zi_22, zi_23, zi_24, zi_25, zi_26, zi_30, zi_31, zi_32, zi_34, zi_38, zi_59, zi_60, zi_61, zi_63, zi_64, zi_80, zi_96, zi_97, zi_99, zi_100, zi_122, zi_255, zi_256, zi_300, zi_398, zi_406, zi_900, zi_1000, zi_1024, zi_1624, zi_1662, zi_2030, zi_2031, zi_2068, zi_2258, zi_9999, zi_48, zi_57, zi_65536, zi_3257, zi_11483, zi_1000000, zi_729, zi_81, zi_m1, nI_add, pk_mul, nI_ltI, nI_leI, nI_eq, nI_clamp, zn_in, zn_sub1lt, zn_M, zn_Ml, zn_Mg, zn_Mle, zn_Mge, zn_sub, Nat.reduceAdd, Nat.reduceMul, forall_eq, true_imp_iff, false_imp_iff, and_true, true_and, not_true_eq_false, not_false_eq_true, reduceCtorEq, imp_self, eq_self, false_and, and_false, implies_true]
    repeat' (first | omega | with_reducible refine And.intro ?_ ?_ | with_reducible intro g)
    refine hU c d 12 I L R _ hcd (Or.inl rfl) hd h (fun I1 s1 b1 b2 b3 b4 b5 b6 b7 f1 => ?_)
    simp (disch := omega) only [wp_U_answered, b6, zi_0, zi_1, zi_2, zi_3, zi_4, zi_5, zi_6, zi_7, zi_8, zi_9, zi_10, zi_11, zi_12, zi_13, zi_14, zi_15, zi_16, zi_17, zi_18, zi_19, zi_20, zi_21, zi_22, zi_23, zi_24, zi_25, zi_26, zi_30, zi_31, zi_32, zi_34, zi_38, zi_59, zi_60, zi_61, zi_63, zi_64, zi_80, zi_96, zi_97, zi_99, zi_100, zi_122, zi_255, zi_256, zi_300, zi_398, zi_406, zi_900, zi_1000, zi_1024, zi_1624, zi_1662, zi_2030, zi_2031, zi_2068, zi_2258, zi_9999, zi_48, zi_57, zi_65536, zi_3257, zi_11483, zi_1000000, zi_729, zi_81, zi_m1, nI_add, pk_mul, nI_ltI, nI_leI, nI_eq, nI_clamp, zn_in, zn_sub1lt, zn_M, zn_Ml, zn_Mg, zn_Mle, zn_Mge, zn_sub, Nat.reduceAdd, Nat.reduceMul, forall_eq, true_imp_iff, false_imp_iff, and_true, true_and, not_true_eq_false, not_false_eq_true, reduceCtorEq, imp_self, eq_self, false_and, and_false, implies_true]
    refine K _ (po_U.q0 s1 hcd _).1 (am_u2_at _ _ _ _) ?_ (fun r k g => ?_)
    · refine li_U.keep (I := I1) ⟨b7, fun _ => ⟨b1, b2, b3, b4, b5⟩⟩ (am_u2_row _ _ _ _ (by omega))
    · rw [fk_U.st (d := d) hcd.d35 _ r k g, f1 r (by have := hcd.1; have := hcd.2; omega) (by have := hcd.2; omega) (by have := hcd.2; omega)]
  · intro I L R h l Q K
    simp (disch := omega) only [wp_M_live, wp_M_isFrom, wp_M_refuse, zj_0, zj_1, zj_2, zj_4, zj_6, zj_7, zj_8, zj_16, zj_20, zj_60, zj_63, zj_64, zj_99, zj_9999, nI_l, zk_lt, zk_le, zk_eq, zk_add, zk_in, h.n7, e7, zi_0, zi_1, zi_2, zi_3, zi_4, zi_5, zi_6, zi_7, zi_8, zi_9, zi_10, zi_11, zi_12, zi_13, zi_14, zi_15, zi_16, zi_17, zi_18, zi_19, zi_20, zi_21, zi_22, zi_23, zi_24, zi_25, zi_26, zi_30, zi_31, zi_32, zi_34, zi_38, zi_59, zi_60, zi_61, zi_63, zi_64, zi_80, zi_96, zi_97, zi_99, zi_100, zi_122, zi_255, zi_256, zi_300, zi_398, zi_406, zi_900, zi_1000, zi_1024, zi_1624, zi_1662, zi_2030, zi_2031, zi_2068, zi_2258, zi_9999, zi_48, zi_57, zi_65536, zi_3257, zi_11483, zi_1000000, zi_729, zi_81, zi_m1, nI_add, pk_mul, nI_ltI, nI_leI, nI_eq, nI_clamp, zn_in, zn_sub1lt, zn_M, zn_Ml, zn_Mg, zn_Mle, zn_Mge, zn_sub, Nat.reduceAdd, Nat.reduceMul, forall_eq, true_imp_iff, false_imp_iff, and_true, true_and, not_true_eq_false, not_false_eq_true, reduceCtorEq, imp_self, eq_self, false_and, and_false, implies_true]
    repeat' (first | omega | with_reducible refine And.intro ?_ ?_ | with_reducible intro g)
    refine hM I L R _ h (fun I1 s1 b1 b2 b3 b4 b5 b6 f1 => ?_)
    have s5 : sq_M qf 0 (am_u2 (am_u2 (am_u2 (am_u2 (am_u2 I1 132 0 (nI tm)) 132 1 (nI tp)) 132 2 (nI tc)) 132 3 (nI th)) 132 4 (nI lf)) L := ((((s1.keepV okf (by omega) _ _).keepV okf (by omega) _ _).keepV okf (by omega) _ _).keepV okf (by omega) _ _).keepV okf (by omega) _ _
    have s6 := s5.keepV okf (r := 103) (by omega) 49 (nI 1)
    have fin := K _ (s6.keepV okf (r := 103) (by omega) 2 (nI 0)) (am_u2_at _ _ _ _) (by
      refine ⟨by simp [am_u2], fun _ k hk => ?_⟩
      have : k = 0 ∨ k = 1 ∨ k = 2 ∨ k = 3 ∨ k = 4 := by omega
      rcases this with rfl | rfl | rfl | rfl | rfl <;> simp [am_u2]) (fun r k g => by
      rw [fk_M.st _ r k g]
      unfold am_u2
      rw [if_neg (by omega), if_neg (by omega), if_neg (by omega), if_neg (by omega), if_neg (by omega), if_neg (by omega), f1 r k (by omega) (by omega) (by omega) (by omega)])
    refine ⟨6, ?_⟩
    rw [wl_M_live_43]
    simp (disch := omega) only [am_u2o, b1, b2, b3, b4, b5, zi_0, zi_1, zi_2, zi_3, zi_4, zi_5, zi_6, zi_7, zi_8, zi_9, zi_10, zi_11, zi_12, zi_13, zi_14, zi_15, zi_16, zi_17, zi_18, zi_19, zi_20, zi_21, zi_22, zi_23, zi_24, zi_25, zi_26, zi_30, zi_31, zi_32, zi_34, zi_38, zi_59, zi_60, zi_61, zi_63, zi_64, zi_80, zi_96, zi_97, zi_99, zi_100, zi_122, zi_255, zi_256, zi_300, zi_398, zi_406, zi_900, zi_1000, zi_1024, zi_1624, zi_1662, zi_2030, zi_2031, zi_2068, zi_2258, zi_9999, zi_48, zi_57, zi_65536, zi_3257, zi_11483, zi_1000000, zi_729, zi_81, zi_m1, nI_add, pk_mul, nI_ltI, nI_leI, nI_eq, nI_clamp, zn_in, zn_sub1lt, zn_M, zn_Ml, zn_Mg, zn_Mle, zn_Mge, zn_sub, Nat.reduceAdd, Nat.reduceMul, forall_eq, true_imp_iff, false_imp_iff, and_true, true_and, not_true_eq_false, not_false_eq_true, reduceCtorEq, imp_self, eq_self, false_and, and_false, implies_true]
    repeat' (first | omega | with_reducible refine And.intro ?_ ?_ | with_reducible intro g)
    rw [wl_M_live_43]
    simp (disch := omega) only [am_u2o, b1, b2, b3, b4, b5, zi_0, zi_1, zi_2, zi_3, zi_4, zi_5, zi_6, zi_7, zi_8, zi_9, zi_10, zi_11, zi_12, zi_13, zi_14, zi_15, zi_16, zi_17, zi_18, zi_19, zi_20, zi_21, zi_22, zi_23, zi_24, zi_25, zi_26, zi_30, zi_31, zi_32, zi_34, zi_38, zi_59, zi_60, zi_61, zi_63, zi_64, zi_80, zi_96, zi_97, zi_99, zi_100, zi_122, zi_255, zi_256, zi_300, zi_398, zi_406, zi_900, zi_1000, zi_1024, zi_1624, zi_1662, zi_2030, zi_2031, zi_2068, zi_2258, zi_9999, zi_48, zi_57, zi_65536, zi_3257, zi_11483, zi_1000000, zi_729, zi_81, zi_m1, nI_add, pk_mul, nI_ltI, nI_leI, nI_eq, nI_clamp, zn_in, zn_sub1lt, zn_M, zn_Ml, zn_Mg, zn_Mle, zn_Mge, zn_sub, Nat.reduceAdd, Nat.reduceMul, forall_eq, true_imp_iff, false_imp_iff, and_true, true_and, not_true_eq_false, not_false_eq_true, reduceCtorEq, imp_self, eq_self, false_and, and_false, implies_true]
    repeat' (first | omega | with_reducible refine And.intro ?_ ?_ | with_reducible intro g)
    rw [wl_M_live_43]
    simp (disch := omega) only [am_u2o, b1, b2, b3, b4, b5, zi_0, zi_1, zi_2, zi_3, zi_4, zi_5, zi_6, zi_7, zi_8, zi_9, zi_10, zi_11, zi_12, zi_13, zi_14, zi_15, zi_16, zi_17, zi_18, zi_19, zi_20, zi_21, zi_22, zi_23, zi_24, zi_25, zi_26, zi_30, zi_31, zi_32, zi_34, zi_38, zi_59, zi_60, zi_61, zi_63, zi_64, zi_80, zi_96, zi_97, zi_99, zi_100, zi_122, zi_255, zi_256, zi_300, zi_398, zi_406, zi_900, zi_1000, zi_1024, zi_1624, zi_1662, zi_2030, zi_2031, zi_2068, zi_2258, zi_9999, zi_48, zi_57, zi_65536, zi_3257, zi_11483, zi_1000000, zi_729, zi_81, zi_m1, nI_add, pk_mul, nI_ltI, nI_leI, nI_eq, nI_clamp, zn_in, zn_sub1lt, zn_M, zn_Ml, zn_Mg, zn_Mle, zn_Mge, zn_sub, Nat.reduceAdd, Nat.reduceMul, forall_eq, true_imp_iff, false_imp_iff, and_true, true_and, not_true_eq_false, not_false_eq_true, reduceCtorEq, imp_self, eq_self, false_and, and_false, implies_true]
    repeat' (first | omega | with_reducible refine And.intro ?_ ?_ | with_reducible intro g)
    rw [wl_M_live_43]
    simp (disch := omega) only [am_u2o, b1, b2, b3, b4, b5, zi_0, zi_1, zi_2, zi_3, zi_4, zi_5, zi_6, zi_7, zi_8, zi_9, zi_10, zi_11, zi_12, zi_13, zi_14, zi_15, zi_16, zi_17, zi_18, zi_19, zi_20, zi_21, zi_22, zi_23, zi_24, zi_25, zi_26, zi_30, zi_31, zi_32, zi_34, zi_38, zi_59, zi_60, zi_61, zi_63, zi_64, zi_80, zi_96, zi_97, zi_99, zi_100, zi_122, zi_255, zi_256, zi_300, zi_398, zi_406, zi_900, zi_1000, zi_1024, zi_1624, zi_1662, zi_2030, zi_2031, zi_2068, zi_2258, zi_9999, zi_48, zi_57, zi_65536, zi_3257, zi_11483, zi_1000000, zi_729, zi_81, zi_m1, nI_add, pk_mul, nI_ltI, nI_leI, nI_eq, nI_clamp, zn_in, zn_sub1lt, zn_M, zn_Ml, zn_Mg, zn_Mle, zn_Mge, zn_sub, Nat.reduceAdd, Nat.reduceMul, forall_eq, true_imp_iff, false_imp_iff, and_true, true_and, not_true_eq_false, not_false_eq_true, reduceCtorEq, imp_self, eq_self, false_and, and_false, implies_true]
    repeat' (first | omega | with_reducible refine And.intro ?_ ?_ | with_reducible intro g)
    rw [wl_M_live_43]
    simp (disch := omega) only [am_u2o, b1, b2, b3, b4, b5, zi_0, zi_1, zi_2, zi_3, zi_4, zi_5, zi_6, zi_7, zi_8, zi_9, zi_10, zi_11, zi_12, zi_13, zi_14, zi_15, zi_16, zi_17, zi_18, zi_19, zi_20, zi_21, zi_22, zi_23, zi_24, zi_25, zi_26, zi_30, zi_31, zi_32, zi_34, zi_38, zi_59, zi_60, zi_61, zi_63, zi_64, zi_80, zi_96, zi_97, zi_99, zi_100, zi_122, zi_255, zi_256, zi_300, zi_398, zi_406, zi_900, zi_1000, zi_1024, zi_1624, zi_1662, zi_2030, zi_2031, zi_2068, zi_2258, zi_9999, zi_48, zi_57, zi_65536, zi_3257, zi_11483, zi_1000000, zi_729, zi_81, zi_m1, nI_add, pk_mul, nI_ltI, nI_leI, nI_eq, nI_clamp, zn_in, zn_sub1lt, zn_M, zn_Ml, zn_Mg, zn_Mle, zn_Mge, zn_sub, Nat.reduceAdd, Nat.reduceMul, forall_eq, true_imp_iff, false_imp_iff, and_true, true_and, not_true_eq_false, not_false_eq_true, reduceCtorEq, imp_self, eq_self, false_and, and_false, implies_true]
    repeat' (first | omega | with_reducible refine And.intro ?_ ?_ | with_reducible intro g)
    rw [wl_M_live_43]
    simp (disch := omega) only [am_u2o, am_u2_ne, b6, wp_M_gives, zi_0, zi_1, zi_2, zi_3, zi_4, zi_5, zi_6, zi_7, zi_8, zi_9, zi_10, zi_11, zi_12, zi_13, zi_14, zi_15, zi_16, zi_17, zi_18, zi_19, zi_20, zi_21, zi_22, zi_23, zi_24, zi_25, zi_26, zi_30, zi_31, zi_32, zi_34, zi_38, zi_59, zi_60, zi_61, zi_63, zi_64, zi_80, zi_96, zi_97, zi_99, zi_100, zi_122, zi_255, zi_256, zi_300, zi_398, zi_406, zi_900, zi_1000, zi_1024, zi_1624, zi_1662, zi_2030, zi_2031, zi_2068, zi_2258, zi_9999, zi_48, zi_57, zi_65536, zi_3257, zi_11483, zi_1000000, zi_729, zi_81, zi_m1, nI_add, pk_mul, nI_ltI, nI_leI, nI_eq, nI_clamp, zn_in, zn_sub1lt, zn_M, zn_Ml, zn_Mg, zn_Mle, zn_Mge, zn_sub, Nat.reduceAdd, Nat.reduceMul, forall_eq, true_imp_iff, false_imp_iff, and_true, true_and, not_true_eq_false, not_false_eq_true, reduceCtorEq, imp_self, eq_self, false_and, and_false, implies_true]
    repeat' (first | omega | with_reducible refine And.intro ?_ ?_ | with_reducible intro g)
    all_goals exact fin
end
