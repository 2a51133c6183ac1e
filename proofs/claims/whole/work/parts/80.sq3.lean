/-! the square's text: a dog -/
section
variable {y : Nat → Nat} {n lb : Nat} {q f g q1 f1 g1 : Nat → Nat} {tp p tp1 p1 : Nat} {I I1 I2 : am_TI} {L L1 L2 : am_TL} {R : am_TR} {U U1 : Nat → sT} {M M1 FM : sT} {t e : Nat}
theorem sq_U.putDog (h : sq_U q t e I L) (hcd : sq_cd t e) (h3 : q 3 ≤ 6) (h4 : q 4 < 4) (v : Nat) : sq_U (zu (zu q (34 + q 4) v) 4 (q 4 + 1)) t e (am_u2 (am_u2 I (t + 5) (q 4) (nI v)) t 12 (nI (q 4 + 1))) L := by
  obtain ⟨hc, hd⟩ := hcd
  have z : ∀ i, i ≠ 4 → i ≠ 34 + q 4 → zu (zu q (34 + q 4) v) 4 (q 4 + 1) i = q i := fun i h0 h1 => by rw [zu_n h0, zu_n h1]
  have es : sq_seen (zu (zu q (34 + q 4) v) 4 (q 4 + 1)) = sq_seen q := by
    unfold sq_seen
    rw [z 3 (by omega) (by omega)]
    apply zs_cong
    intro i hi
    rw [z (13 + 4 * i) (by omega) (by omega)]
  refine ⟨?_, fun i hi => ?_, fun i hi => ?_, fun i hi => ?_, (h.dy.keep (fun r _ _ => by rw [am_u2_row _ _ _ _ (by omega), am_u2_row _ _ _ _ (by omega)])).cong (z 7 (by omega) (by omega)) (fun k hk => z k (by omega) (by omega))⟩
  · obtain ⟨a0, a1, a2, a3, a4, a5, a6, a7, a8, a9⟩ := h.1
    have r : ∀ k, k ≠ 12 → am_u2 (am_u2 I (t + 5) (q 4) (nI v)) t 12 (nI (q 4 + 1)) t k = I t k := fun k hk => by rw [am_u2_ne _ _ _ _ hk, am_u2o (by omega)]
    rw [es, r 6 (by omega), r 7 (by omega), r 10 (by omega), r 11 (by omega), r 8 (by omega), r 9 (by omega), r 13 (by omega), r 14 (by omega), r 15 (by omega), am_u2_at, zu_s, z 0 (by omega) (by omega), z 1 (by omega) (by omega), z 2 (by omega) (by omega), z 3 (by omega) (by omega), z 5 (by omega) (by omega), z 6 (by omega) (by omega), z 8 (by omega) (by omega), z 9 (by omega) (by omega)]
    exact ⟨a0, a1, a2, a3, rfl, a5, a6, a7, a8, a9⟩
  · rw [z 3 (by omega) (by omega)] at hi
    have r : ∀ j k, 2 ≤ j → j ≤ 4 → am_u2 (am_u2 I (t + 5) (q 4) (nI v)) t 12 (nI (q 4 + 1)) (t + j) k = I (t + j) k := fun j k a b => by rw [am_u2o (by omega), am_u2o (by omega)]
    rw [r 2 i (by omega) (by omega), r 3 i (by omega) (by omega), r 4 i (by omega) (by omega), z _ (by omega) (by omega), z _ (by omega) (by omega), z _ (by omega) (by omega)]
    exact h.2.1 i hi
  · rw [zu_s] at hi
    rw [am_u2_row _ _ _ _ (by omega)]
    by_cases g : i = q 4
    · rw [g, am_u2_at, zu_n (by omega), zu_s]
    · rw [am_u2_ne _ _ _ _ g, z _ (by omega) (by omega)]; exact h.dg (by omega)
  · rw [z 2 (by omega) (by omega)] at hi
    rw [z _ (by omega) (by omega)]; exact h.nm hi
theorem sM.full (s : sM y n g tp p I L) {k m : Nat} (hk : k < 38) (h7 : k ≠ 7) (hm : m < 100) (hg : g k < 100) {Q : Bool → Prop} (K : Q (decide (g k = m))) : wp_M_isFull I L R 103 (nI k) (nI m) Q := by
  have a := s.2.1.1 k hk h7
  rw [show 406 * 4 + k = 1624 + k by omega] at a
  unfold wp_M_isFull
  simp (disch := omega) only [a, zi_0, zi_1, zi_2, zi_3, zi_4, zi_5, zi_6, zi_7, zi_8, zi_9, zi_10, zi_11, zi_12, zi_13, zi_14, zi_15, zi_16, zi_17, zi_18, zi_19, zi_20, zi_21, zi_22, zi_23, zi_24, zi_25, zi_26, zi_30, zi_31, zi_32, zi_34, zi_38, zi_59, zi_60, zi_61, zi_63, zi_64, zi_80, zi_96, zi_97, zi_99, zi_100, zi_122, zi_255, zi_256, zi_300, zi_398, zi_406, zi_900, zi_1000, zi_1024, zi_1624, zi_1662, zi_2030, zi_2031, zi_2068, zi_2258, zi_9999, zi_48, zi_57, zi_65536, zi_3257, zi_11483, zi_1000000, zi_729, zi_81, zi_m1, nI_add, pk_mul, nI_ltI, nI_leI, nI_eq, nI_clamp, zn_in, zn_sub1lt, zn_M, zn_Ml, zn_Mg, zn_Mle, zn_Mge, zn_sub, Nat.reduceAdd, Nat.reduceMul]
  refine ⟨by omega, fun x => ?_, fun x => ?_⟩
  · rw [decide_eq_true x] at K; exact K
  · rw [decide_eq_false x] at K; exact K
/-- a dog -/
theorem SP.dog (hn : n ≤ 900) (hpn : p < n) (hg : sG q f tp) (hw : tI y n p = 9) : SP y n (p + 1) q f q tp p (fun t I L R Q => wp_SquareReader_readDog I L R 8 2 t (fun r I1 => Q r I1 L)) (fun I L R Q => wp_M_squarePart I L R 103 Q) := by
  have hg' := hg
  obtain ⟨ok, ⟨f0, f1, f2⟩, h6, h7, t64, b0, b1, b2⟩ := hg'
  have o := ok.1.2.2.1
  have cl25 := ok.cells
  have p1 : p < tN y n p := tN_gt hpn
  have p2 : tN y n p ≤ n := tN_le (by omega)
  have p3 : tN y n p ≤ tN y n (tN y n p) := tN_ge
  have p4 : tN y n (tN y n p) ≤ n := tN_le p2
  have p5 : tN y n (tN y n p) ≤ tN y n (tN y n (tN y n p)) := tN_ge
  have p6 : tN y n (tN y n (tN y n p)) ≤ n := tN_le p4
  have p7 : tN y n (tN y n (tN y n p)) ≤ tN y n (tN y n (tN y n (tN y n p))) := tN_ge
  refine SP.pre (q1 := q) (f1 := f) (p1 := p) (g1 := q) (tp1 := tp ||| 33) (U1 := fun t I L R Q => wp_SquareReader_readDog I L R 8 2 t (fun r I1 => Q r I1 L)) (M1 := fun I L R Q => wp_M_aDog I L R 103 (fun r9 I9 => wb_M_squarePart_170 R 103 Q I9 L r9)) (fun t e I L R Q hc s K => K I L s ku.refl) (fun I L R Q s K => sm_part5 hn t64 hw s (fun I1 L1 s1 k1 => ⟨fun x => absurd x (by decide), fun x => absurd x (by decide), fun x => absurd x (by decide), fun x => absurd x (by decide), fun x => absurd x (by decide), fun _ _ _ _ _ => K I1 L1 s1 k1⟩)) ?_
  by_cases c : q 4 = 4
  · refine SP.fault (v := ff y n p 6) (ff_b (by omega)) (by omega) ?_ ?_
    · intro t e I L R Q hc s K
      unfold wp_SquareReader_readDog
      rw [s.2.1.n4, c]
      exact ⟨fun x => absurd x (by decide), fun _ => su_ref s.1 K⟩
    · intro I L R Q s K
      refine s.full (k := 4) (m := 4) (by omega) (by omega) (by omega) (by omega) ?_
      rw [decide_eq_true c]
      exact ⟨fun x => (by cases x), fun _ => sm_fail s.1 (fun I1 u => f170 _ _ _ _ (K I1 u))⟩
  · have h4 : q 4 < 4 := by omega
    refine SP.pre (q1 := q) (f1 := f) (p1 := p) (g1 := q) (tp1 := tp ||| 33) (U1 := fun t I L R Q => wp_Tokens_advance I L R 2 (fun I1 => wp_Tokens_takeWord I1 L R 2 (nI 6) (fun r1 I2 => (r1 = false → Q false I2 L) ∧ (r1 = true → wp_Square_cells I2 L R t (fun r2 => wp_Tokens_takeNumber I2 L R 2 (nI 0) (r2 - nI 1) (fun r3 I3 => (r3 = nM → Q false I3 L) ∧ (¬ r3 = nM → (vp_in (I3 t 12) 4 ∧ ∀ I4, I4 = am_u2 I3 (t + 5) (Int32.toNatClampNeg (I3 t 12)) r3 → ∀ I5, I5 = am_u2 I4 t 12 (I4 t 12 + nI 1) → wp_Tokens_takeSemicolon I5 L R 2 (fun r4 I6 => Q r4 I6 L))))))))) (M1 := fun I L R Q => wp_M_ahead I L R 103 (fun I1 => wp_M_wantWord I1 L R 103 1002 (nI (rwT.getD 6 25)) (fun r2 I2 => (r2 = false → wb_M_squarePart_170 R 103 Q I2 L false) ∧ (r2 = true → wp_M_newCellTo I2 L R 103 (nI 1658 + I2 104 1628) (fun r3 I3 => (r3 = false → wb_M_squarePart_170 R 103 Q I3 L false) ∧ (r3 = true → ∀ I4, I4 = am_u2 I3 104 1628 (I3 104 1628 + nI 1) → wb_M_squarePart_170 R 103 Q I4 L true)))))) ?_ ?_ ?_
    · intro t e I L R Q hc s K
      have k2 := K I L s ku.refl
      unfold wp_SquareReader_readDog
      rw [s.2.1.n4]
      refine ⟨fun _ => k2, fun x => absurd ?_ x⟩
      show nI (q 4) < nI 4
      rw [nI_ltI (by omega) (by omega)]; exact h4
    · intro I L R Q s K
      have k2 := K I L s km.refl
      refine s.full (k := 4) (m := 4) (by omega) (by omega) (by omega) (by omega) ?_
      rw [decide_eq_false c]
      exact ⟨fun _ => k2, fun x => (by cases x)⟩
    refine SP.adv hn (U := fun t I1 L R Q => wp_Tokens_takeWord I1 L R 2 (nI 6) (fun r1 I2 => (r1 = false → Q false I2 L) ∧ (r1 = true → wp_Square_cells I2 L R t (fun r2 => wp_Tokens_takeNumber I2 L R 2 (nI 0) (r2 - nI 1) (fun r3 I3 => (r3 = nM → Q false I3 L) ∧ (¬ r3 = nM → (vp_in (I3 t 12) 4 ∧ ∀ I4, I4 = am_u2 I3 (t + 5) (Int32.toNatClampNeg (I3 t 12)) r3 → ∀ I5, I5 = am_u2 I4 t 12 (I4 t 12 + nI 1) → wp_Tokens_takeSemicolon I5 L R 2 (fun r4 I6 => Q r4 I6 L)))))))) (M := fun I1 L R Q => wp_M_wantWord I1 L R 103 1002 (nI (rwT.getD 6 25)) (fun r2 I2 => (r2 = false → wb_M_squarePart_170 R 103 Q I2 L false) ∧ (r2 = true → wp_M_newCellTo I2 L R 103 (nI 1658 + I2 104 1628) (fun r3 I3 => (r3 = false → wb_M_squarePart_170 R 103 Q I3 L false) ∧ (r3 = true → ∀ I4, I4 = am_u2 I3 104 1628 (I3 104 1628 + nI 1) → wb_M_squarePart_170 R 103 Q I4 L true))))) ?_
    refine SP.wordF (FM := fun I1 L R Q => wb_M_squarePart_170 R 103 Q I1 L false) (w := 6) (U := fun t I2 L R Q => wp_Square_cells I2 L R t (fun r2 => wp_Tokens_takeNumber I2 L R 2 (nI 0) (r2 - nI 1) (fun r3 I3 => (r3 = nM → Q false I3 L) ∧ (¬ r3 = nM → (vp_in (I3 t 12) 4 ∧ ∀ I4, I4 = am_u2 I3 (t + 5) (Int32.toNatClampNeg (I3 t 12)) r3 → ∀ I5, I5 = am_u2 I4 t 12 (I4 t 12 + nI 1) → wp_Tokens_takeSemicolon I5 L R 2 (fun r4 I6 => Q r4 I6 L)))))) (M := fun I2 L R Q => wp_M_newCellTo I2 L R 103 (nI 1658 + I2 104 1628) (fun r3 I3 => (r3 = false → wb_M_squarePart_170 R 103 Q I3 L false) ∧ (r3 = true → ∀ I4, I4 = am_u2 I3 104 1628 (I3 104 1628 + nI 1) → wb_M_squarePart_170 R 103 Q I4 L true))) hn p2 (by omega) f170 (fun _ => ?_)
    refine SP.pre (q1 := q) (f1 := f) (p1 := tN y n (tN y n p)) (g1 := q) (tp1 := tp ||| 33) (U1 := fun t I2 L R Q => wp_Tokens_takeNumber I2 L R 2 (nI 0) (nI (q 0 * q 1) - nI 1) (fun r3 I3 => (r3 = nM → Q false I3 L) ∧ (¬ r3 = nM → (vp_in (I3 t 12) 4 ∧ ∀ I4, I4 = am_u2 I3 (t + 5) (Int32.toNatClampNeg (I3 t 12)) r3 → ∀ I5, I5 = am_u2 I4 t 12 (I4 t 12 + nI 1) → wp_Tokens_takeSemicolon I5 L R 2 (fun r4 I6 => Q r4 I6 L))))) (M1 := fun I2 L R Q => wp_M_number I2 L R 103 (nI (1624 + (34 + q 4))) (nI 0) (nI (q 0 * q 1) - nI 1) (fun r3 I3 => (r3 = false → wb_M_squarePart_170 R 103 Q I3 L false) ∧ (r3 = true → ∀ I4, I4 = am_u2 I3 104 1628 (I3 104 1628 + nI 1) → wb_M_squarePart_170 R 103 Q I4 L true))) (fun t e I L R Q hc s K => s.cells (K I L s ku.refl)) ?_ ?_
    · intro I L R Q s K
      have k2 := K I L s km.refl
      have a : I 104 1628 = nI (q 4) := s.2.1.1 4 (by omega) (by omega)
      rw [show 1624 + (34 + q 4) = 1658 + q 4 by omega, ← nI_add, ← a] at k2
      exact s.cells k2
    refine SP.numF (FM := fun I1 L R Q => wb_M_squarePart_170 R 103 Q I1 L false) (hi := q 0 * q 1) (k := 34 + q 4) (U := fun t r3 I3 L R Q => (vp_in (I3 t 12) 4 ∧ ∀ I4, I4 = am_u2 I3 (t + 5) (Int32.toNatClampNeg (I3 t 12)) r3 → ∀ I5, I5 = am_u2 I4 t 12 (I4 t 12 + nI 1) → wp_Tokens_takeSemicolon I5 L R 2 (fun r4 I6 => Q r4 I6 L))) (M := fun I3 L R Q => ∀ I4, I4 = am_u2 I3 104 1628 (I3 104 1628 + nI 1) → wb_M_squarePart_170 R 103 Q I4 L true) hn p4 (by omega) (by omega) (by omega) (by omega) (by omega) rfl rfl f170 (fun _ _ d2 => ?_)
    generalize hv : tW y n (tN y n (tN y n p)) = v at d2 ⊢
    have z : ∀ i, i ≠ 4 → i ≠ 34 + q 4 → zu (zu q (34 + q 4) v) 4 (q 4 + 1) i = q i := fun i h0 h1 => by rw [zu_n h0, zu_n h1]
    refine SP.pre (q1 := zu (zu q (34 + q 4) v) 4 (q 4 + 1)) (f1 := f) (p1 := tN y n (tN y n (tN y n p))) (g1 := zu (zu q (34 + q 4) v) 4 (q 4 + 1)) (tp1 := tp ||| 33) (U1 := fun _ I L R Q => wp_Tokens_takeSemicolon I L R 2 (fun r I1 => Q r I1 L)) (M1 := fun I L R Q => wp_M_wantSign I L R 103 (nI 59) (fun r I1 => (r = false → Q false I1 L) ∧ (r = true → Q true I1 L))) ?_ ?_ ?_
    · intro t e I L R Q hc s K
      obtain ⟨s1, s2, s3, s4, s5⟩ := s
      have c1' := hc.1
      have e12 := s2.n4
      rw [e12]
      refine ⟨(zn_in (by omega)).2 h4, fun I4 h4' I5 h5' => ?_⟩
      rw [nI_clamp (by omega)] at h4'
      have e2 : I4 t 12 = nI (q 4) := by rw [h4', am_u2o (by omega)]; exact e12
      rw [e2, nI_add] at h5'
      rw [h5', h4']
      exact K _ L ⟨s1.keep (fun k hk => by rw [am_u2o (by omega), am_u2o (by omega)]) (fun _ => by rw [am_u2o (by omega), am_u2o (by omega)]) (fun _ => by rw [am_u2o (by omega), am_u2o (by omega)]) rfl, s2.putDog hc (by omega) h4 v, by rw [am_u2o (by omega), am_u2o (by omega)]; exact s3, by rw [am_u2o (by omega), am_u2o (by omega)]; exact s4, by rw [am_u2o (by omega), am_u2o (by omega)]; exact s5⟩ ⟨by rw [am_u2o (by omega), am_u2o (by omega)], by rw [am_u2o (by omega), am_u2o (by omega)], fun r k _ _ x => by rw [am_u2o (by omega), am_u2o (by omega)], fun _ _ => rfl⟩
    · intro I L R Q s K I4 h4'
      have a : I 104 1628 = nI (q 4) := by
        have := s.2.1.1 4 (by omega) (by omega)
        rw [zu_n (by omega)] at this
        exact this
      rw [a, nI_add] at h4'
      have b := s.put (k := 4) (by omega) (by omega) (by omega) (q 4 + 1)
      rw [h4']
      exact t170 _ L R Q (K _ L b.1 b.2)
    · have d0 : (33 : Nat).testBit 0 = true := by decide
      have d1' : ¬ (33 : Nat).testBit 1 = true := by decide
      have d2' : ¬ (33 : Nat).testBit 2 = true := by decide
      obtain ⟨⟨o0, o1, o2, o6, o8⟩, oh, od, on, oy⟩ := ok
      refine SP.semi hn p6 ⟨⟨⟨by rw [z 0 (by omega) (by omega)]; exact o0, by rw [z 1 (by omega) (by omega)]; exact o1, by rw [z 2 (by omega) (by omega), z 3 (by omega) (by omega), z 5 (by omega) (by omega), zu_s]; omega, by rw [z 0 (by omega) (by omega), z 1 (by omega) (by omega), z 6 (by omega) (by omega)]; exact o6, by rw [z 8 (by omega) (by omega)]; exact o8⟩, fun i hi => ?_, fun i hi => ?_, fun i hi => ?_, dy_Ok.no (by rw [z 7 (by omega) (by omega)]; exact h7)⟩, ⟨f0, f1, f2⟩, by rw [z 6 (by omega) (by omega)]; exact h6, by rw [z 7 (by omega) (by omega)]; exact h7, tp_lt t64 (by omega), ?_, ?_, ?_⟩ (by omega)
      · rw [z 3 (by omega) (by omega)] at hi
        rw [z 0 (by omega) (by omega), z 1 (by omega) (by omega), z 2 (by omega) (by omega), z (10 + 4 * i) (by omega) (by omega), z (11 + 4 * i) (by omega) (by omega), z (12 + 4 * i) (by omega) (by omega), z (13 + 4 * i) (by omega) (by omega)]
        exact oh i hi
      · rw [zu_s] at hi
        rw [z 0 (by omega) (by omega), z 1 (by omega) (by omega)]
        by_cases g : i = q 4
        · rw [g, zu_n (by omega), zu_s]; exact d2
        · rw [z (34 + i) (by omega) (by omega)]; exact od i (by omega)
      · rw [z 2 (by omega) (by omega)] at hi
        rw [z (400 + i) (by omega) (by omega)]; exact on i hi
      · rw [tp_or]; exact ⟨fun _ => Or.inr (Or.inr (Or.inr (by rw [zu_s]; omega))), fun _ => Or.inr d0⟩
      · rw [tp_or, b1]; exact ⟨fun x => x.resolve_right d1', Or.inl⟩
      · rw [tp_or, b2]; exact ⟨fun x => x.resolve_right d2', Or.inl⟩
end
