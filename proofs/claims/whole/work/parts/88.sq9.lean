/-! the square's text: a hearer, whole -/
section
variable {y : Nat → Nat} {n lb : Nat} {q f g q1 f1 g1 : Nat → Nat} {tp p tp1 p1 : Nat} {I I1 I2 : am_TI} {L L1 L2 : am_TL} {R : am_TR} {U U1 : Nat → sT} {M M1 FM : sT} {t e : Nat}
theorem SP.hearer (hn : n ≤ 900) (hpn : p < n) (hg : sG q f tp) (hw : tI y n p = 5) : SP y n (p + 1) q f q tp p (fun t I L R Q => wp_SquareReader_readHearer I L R 8 2 t (fun r I1 => Q r I1 L)) (fun I L R Q => wp_M_squarePart I L R 103 Q) := by
  have hg' := hg
  obtain ⟨ok, ⟨f0, f1, f2⟩, h6, h7, t64, b0, b1, b2⟩ := hg'
  have o := ok.1.2.2.1
  have cl25 := ok.cells
  have p1 : p < tN y n p := tN_gt hpn
  have p2 : tN y n p ≤ n := tN_le (by omega)
  have p3 : tN y n p ≤ tN y n (tN y n p) := tN_ge
  have p4 : tN y n (tN y n p) ≤ n := tN_le p2
  have p5 : tN y n (tN y n p) ≤ tN y n (tN y n (tN y n p)) := tN_ge
  have p6 : tN y n (tN y n (tN y n p)) ≤ n := tN_le p4
  refine SP.pre (q1 := q) (f1 := f) (p1 := p) (g1 := q) (tp1 := tp ||| 17) (U1 := fun t I L R Q => wp_SquareReader_readHearer I L R 8 2 t (fun r I1 => Q r I1 L)) (M1 := fun I L R Q => wp_M_aHearer I L R 103 (fun r9 I9 => wb_M_squarePart_170 R 103 Q I9 L r9)) (fun t e I L R Q hc s K => K I L s ku.refl) (fun I L R Q s K => sm_part4 hn t64 hw s (fun I1 L1 s1 k1 => ⟨fun x => absurd x (by decide), fun x => absurd x (by decide), fun x => absurd x (by decide), fun x => absurd x (by decide), fun _ => K I1 L1 s1 k1, fun _ _ _ _ x => absurd rfl x⟩)) ?_
  by_cases c : q 3 = 6
  · refine SP.fault (v := ff y n p 6) (ff_b (by omega)) (by omega) ?_ ?_
    · intro t e I L R Q hc s K
      unfold wp_SquareReader_readHearer
      rw [s.2.1.n3, c]
      exact ⟨fun x => absurd x (by decide), fun _ => su_ref s.1 K⟩
    · intro I L R Q s K
      refine s.full (k := 3) (m := 6) (by omega) (by omega) (by omega) (by omega) ?_
      rw [decide_eq_true c]
      exact ⟨fun x => (by cases x), fun _ => sm_fail s.1 (fun I1 u => f170 _ _ _ _ (K I1 u))⟩
  have h3 : q 3 < 6 := by omega
  refine SP.pre (q1 := q) (f1 := f) (p1 := tN y n p) (g1 := q) (tp1 := tp ||| 17) (U1 := fun t I1 L R Q => wp_Tokens_takeWord I1 L R 2 (nI 6) (fun r1 I2 => (r1 = false → Q false I2 L) ∧ (r1 = true → wp_Square_cells I2 L R t (fun r2 => wp_Tokens_takeNumber I2 L R 2 (nI 0) (r2 - nI 1) (fun r3 I3 => (r3 = nM → Q false I3 L) ∧ (¬ r3 = nM → (I3 2 9 = 7 → wp_Tokens_advance I3 L R 2 (fun I7 => wp_Tokens_takeNumber I7 L R 2 (nI 0) (nI 99) (fun r6 I8 => wb_SquareReader_readHearer_75 L R 8 2 t (fun r I1 => Q r I1 L) I8 r3 r6))) ∧ (¬ I3 2 9 = 7 → wb_SquareReader_readHearer_75 L R 8 2 t (fun r I1 => Q r I1 L) I3 r3 (nI 3)))))))) (M1 := fun I1 L R Q => wp_M_wantWord I1 L R 103 1002 (nI (rwT.getD 6 25)) (fun r2 I2 => (r2 = false → wb_M_squarePart_170 R 103 Q I2 L false) ∧ (r2 = true → wp_M_newCellTo I2 L R 103 (nI (1624 + (10 + 4 * q 3))) (fun r4 I3 => (r4 = false → wb_M_squarePart_170 R 103 Q I3 L false) ∧ (r4 = true → wp_M_perhaps I3 L R 103 8 (nI (1624 + (12 + 4 * q 3))) (nI 0) (nI 99) (nI 3) (fun r5 I => (r5 = false → wb_M_squarePart_170 R 103 Q I L false) ∧ (r5 = true → vp_in (nI (1624 + (10 + 4 * q 3)) + 1) 2258 ∧ ∀ I5, I5 = am_u2 I 104 (Int32.toNatClampNeg (nI (1624 + (10 + 4 * q 3)) + 1)) 0 → vp_in (nI (1624 + (10 + 4 * q 3)) + 3) 2258 ∧ ∀ I6, I6 = am_u2 I5 104 (Int32.toNatClampNeg (nI (1624 + (10 + 4 * q 3)) + 3)) 0 → wp_M_isThere I6 L R 103 9 (fun r6 I7 => ∃ z, wl_M_aHearer_99 L R 103 (fun r I8 => wb_M_squarePart_170 R 103 Q I8 L r) z I7 (nI (1624 + (10 + 4 * q 3))) r6)))))))) ?_ ?_ ?_
  · intro t e I L R Q hc s K
    unfold wp_SquareReader_readHearer
    refine ⟨fun _ => su_adv s.1 (fun I1 h1 f1 => K I1 L (s.tok hc h1 f1).1 (s.tok hc h1 f1).2), fun x => absurd ?_ x⟩
    rw [s.2.1.n3]
    show nI (q 3) < nI 6
    rw [nI_ltI (by omega) (by omega)]; exact h3
  · intro I L R Q s K
    refine s.full (k := 3) (m := 6) (by omega) (by omega) (by omega) (by omega) ?_
    rw [decide_eq_false c]
    have a : I (103 + 1) 1627 = nI (q 3) := s.2.1.1 3 (by omega) (by omega)
    refine ⟨fun _ => ?_, fun x => (by cases x)⟩
    unfold wp_M_hearerRow
    rw [a]
    have er : (1624 : Int32) + (10 + 4 * nI (q 3)) = nI (1624 + (10 + 4 * q 3)) := by
      simp (disch := omega) only [zi_0, zi_1, zi_2, zi_3, zi_4, zi_5, zi_6, zi_7, zi_8, zi_9, zi_10, zi_11, zi_12, zi_13, zi_14, zi_15, zi_16, zi_17, zi_18, zi_19, zi_20, zi_21, zi_22, zi_23, zi_24, zi_25, zi_26, zi_30, zi_31, zi_32, zi_34, zi_38, zi_59, zi_60, zi_61, zi_63, zi_64, zi_80, zi_96, zi_97, zi_99, zi_100, zi_122, zi_255, zi_256, zi_300, zi_398, zi_406, zi_900, zi_1000, zi_1024, zi_1624, zi_1662, zi_2030, zi_2031, zi_2068, zi_2258, zi_9999, zi_48, zi_57, zi_65536, zi_3257, zi_11483, zi_1000000, zi_729, zi_81, zi_m1, nI_add, pk_mul, nI_ltI, nI_leI, nI_eq, nI_clamp, zn_in, zn_sub1lt, zn_M, zn_Ml, zn_Mg, zn_Mle, zn_Mge, zn_sub, Nat.reduceAdd, Nat.reduceMul]
    have er2 : nI (1624 + (10 + 4 * q 3)) + 2 = nI (1624 + (12 + 4 * q 3)) := by
      rw [show (2 : Int32) = nI 2 from rfl, nI_add]; congr 1; omega
    dsimp only
    rw [er, er2]
    exact sm_ahead hn s.1 (fun I1 h1 f1 => K I1 L (s.tok h1 f1).1 (s.tok h1 f1).2)
  refine SP.wordF (FM := fun I1 L R Q => wb_M_squarePart_170 R 103 Q I1 L false) (w := 6) (U := fun t I2 L R Q => wp_Square_cells I2 L R t (fun r2 => wp_Tokens_takeNumber I2 L R 2 (nI 0) (r2 - nI 1) (fun r3 I3 => (r3 = nM → Q false I3 L) ∧ (¬ r3 = nM → (I3 2 9 = 7 → wp_Tokens_advance I3 L R 2 (fun I7 => wp_Tokens_takeNumber I7 L R 2 (nI 0) (nI 99) (fun r6 I8 => wb_SquareReader_readHearer_75 L R 8 2 t (fun r I1 => Q r I1 L) I8 r3 r6))) ∧ (¬ I3 2 9 = 7 → wb_SquareReader_readHearer_75 L R 8 2 t (fun r I1 => Q r I1 L) I3 r3 (nI 3)))))) (M := fun I2 L R Q => wp_M_newCellTo I2 L R 103 (nI (1624 + (10 + 4 * q 3))) (fun r4 I3 => (r4 = false → wb_M_squarePart_170 R 103 Q I3 L false) ∧ (r4 = true → wp_M_perhaps I3 L R 103 8 (nI (1624 + (12 + 4 * q 3))) (nI 0) (nI 99) (nI 3) (fun r5 I => (r5 = false → wb_M_squarePart_170 R 103 Q I L false) ∧ (r5 = true → vp_in (nI (1624 + (10 + 4 * q 3)) + 1) 2258 ∧ ∀ I5, I5 = am_u2 I 104 (Int32.toNatClampNeg (nI (1624 + (10 + 4 * q 3)) + 1)) 0 → vp_in (nI (1624 + (10 + 4 * q 3)) + 3) 2258 ∧ ∀ I6, I6 = am_u2 I5 104 (Int32.toNatClampNeg (nI (1624 + (10 + 4 * q 3)) + 3)) 0 → wp_M_isThere I6 L R 103 9 (fun r6 I7 => ∃ z, wl_M_aHearer_99 L R 103 (fun r I8 => wb_M_squarePart_170 R 103 Q I8 L r) z I7 (nI (1624 + (10 + 4 * q 3))) r6)))))) hn p2 (by omega) f170 (fun _ => ?_)
  refine SP.pre (q1 := q) (f1 := f) (p1 := tN y n (tN y n p)) (g1 := q) (tp1 := tp ||| 17) (U1 := fun t I2 L R Q => wp_Tokens_takeNumber I2 L R 2 (nI 0) (nI (q 0 * q 1) - nI 1) (fun r3 I3 => (r3 = nM → Q false I3 L) ∧ (¬ r3 = nM → (I3 2 9 = 7 → wp_Tokens_advance I3 L R 2 (fun I7 => wp_Tokens_takeNumber I7 L R 2 (nI 0) (nI 99) (fun r6 I8 => wb_SquareReader_readHearer_75 L R 8 2 t (fun r I1 => Q r I1 L) I8 r3 r6))) ∧ (¬ I3 2 9 = 7 → wb_SquareReader_readHearer_75 L R 8 2 t (fun r I1 => Q r I1 L) I3 r3 (nI 3))))) (M1 := fun I2 L R Q => wp_M_number I2 L R 103 (nI (1624 + (10 + 4 * q 3))) (nI 0) (nI (q 0 * q 1) - nI 1) (fun r4 I3 => (r4 = false → wb_M_squarePart_170 R 103 Q I3 L false) ∧ (r4 = true → wp_M_perhaps I3 L R 103 8 (nI (1624 + (12 + 4 * q 3))) (nI 0) (nI 99) (nI 3) (fun r5 I => (r5 = false → wb_M_squarePart_170 R 103 Q I L false) ∧ (r5 = true → vp_in (nI (1624 + (10 + 4 * q 3)) + 1) 2258 ∧ ∀ I5, I5 = am_u2 I 104 (Int32.toNatClampNeg (nI (1624 + (10 + 4 * q 3)) + 1)) 0 → vp_in (nI (1624 + (10 + 4 * q 3)) + 3) 2258 ∧ ∀ I6, I6 = am_u2 I5 104 (Int32.toNatClampNeg (nI (1624 + (10 + 4 * q 3)) + 3)) 0 → wp_M_isThere I6 L R 103 9 (fun r6 I7 => ∃ z, wl_M_aHearer_99 L R 103 (fun r I8 => wb_M_squarePart_170 R 103 Q I8 L r) z I7 (nI (1624 + (10 + 4 * q 3))) r6)))))) (fun t e I L R Q hc s K => s.cells (K I L s ku.refl)) (fun I L R Q s K => s.cells (K I L s km.refl)) ?_
  refine SP.numF (FM := fun I1 L R Q => wb_M_squarePart_170 R 103 Q I1 L false) (hi := q 0 * q 1) (k := 10 + 4 * q 3) (U := fun t r3 I3 L R Q => (I3 2 9 = 7 → wp_Tokens_advance I3 L R 2 (fun I7 => wp_Tokens_takeNumber I7 L R 2 (nI 0) (nI 99) (fun r6 I8 => wb_SquareReader_readHearer_75 L R 8 2 t (fun r I1 => Q r I1 L) I8 r3 r6))) ∧ (¬ I3 2 9 = 7 → wb_SquareReader_readHearer_75 L R 8 2 t (fun r I1 => Q r I1 L) I3 r3 (nI 3))) (M := fun I3 L R Q => wp_M_perhaps I3 L R 103 8 (nI (1624 + (12 + 4 * q 3))) (nI 0) (nI 99) (nI 3) (fun r5 I => (r5 = false → wb_M_squarePart_170 R 103 Q I L false) ∧ (r5 = true → vp_in (nI (1624 + (10 + 4 * q 3)) + 1) 2258 ∧ ∀ I5, I5 = am_u2 I 104 (Int32.toNatClampNeg (nI (1624 + (10 + 4 * q 3)) + 1)) 0 → vp_in (nI (1624 + (10 + 4 * q 3)) + 3) 2258 ∧ ∀ I6, I6 = am_u2 I5 104 (Int32.toNatClampNeg (nI (1624 + (10 + 4 * q 3)) + 3)) 0 → wp_M_isThere I6 L R 103 9 (fun r6 I7 => ∃ z, wl_M_aHearer_99 L R 103 (fun r I8 => wb_M_squarePart_170 R 103 Q I8 L r) z I7 (nI (1624 + (10 + 4 * q 3))) r6)))) hn p4 (by omega) (by omega) (by omega) (by omega) (by omega) rfl rfl f170 (fun _ _ d2 => ?_)
  exact SP.hCoins hn p6 hg h3 d2 (by omega)
end
