/-! the square's text: a tune -/
section
variable {y : Nat → Nat} {n lb : Nat} {q f g q1 f1 g1 : Nat → Nat} {tp p tp1 p1 : Nat} {I I1 I2 : am_TI} {L L1 L2 : am_TL} {R : am_TR} {U U1 : Nat → sT} {M M1 FM : sT} {t e : Nat}
theorem sq_U.putTune (h : sq_U q t e I L) (hcd : sq_cd t e) (h3 : q 3 ≤ 6) (h2 : q 2 < 6) (h4 : q 4 ≤ 4) (h7 : q 7 = 0) (x : Nat) : sq_U (zu (zu q (400 + q 2) x) 2 (q 2 + 1)) t e (am_u2 I t 10 (nI (q 2 + 1))) (am_u2 L (t + 1) (q 2) (lN x)) := by
  obtain ⟨hc, hd⟩ := hcd
  have z : ∀ i, i ≠ 2 → i ≠ 400 + q 2 → zu (zu q (400 + q 2) x) 2 (q 2 + 1) i = q i := fun i h0 h1 => by rw [zu_n h0, zu_n h1]
  have es : sq_seen (zu (zu q (400 + q 2) x) 2 (q 2 + 1)) = sq_seen q := by
    unfold sq_seen
    rw [z 3 (by omega) (by omega)]
    apply zs_cong
    intro i hi
    rw [z (13 + 4 * i) (by omega) (by omega)]
  have y7 := z 7 (by omega) (by omega)
  refine ⟨?_, fun i hi => ?_, fun i hi => ?_, fun i hi => ?_, ?_⟩
  · obtain ⟨a0, a1, a2, a3, a4, a5, a6, a7, a8, a9⟩ := h.1
    have r : ∀ k, k ≠ 10 → am_u2 I t 10 (nI (q 2 + 1)) t k = I t k := fun k hk => am_u2_ne _ _ _ _ hk _
    rw [es, r 6 (by omega), r 7 (by omega), am_u2_at, r 11 (by omega), r 12 (by omega), r 8 (by omega), r 9 (by omega), r 13 (by omega), r 14 (by omega), r 15 (by omega), zu_s, z 0 (by omega) (by omega), z 1 (by omega) (by omega), z 3 (by omega) (by omega), z 4 (by omega) (by omega), z 5 (by omega) (by omega), z 6 (by omega) (by omega), z 8 (by omega) (by omega), z 9 (by omega) (by omega)]
    exact ⟨a0, a1, rfl, a3, a4, a5, a6, a7, a8, a9⟩
  · rw [z 3 (by omega) (by omega)] at hi
    rw [am_u2o (by omega), am_u2o (by omega), am_u2o (by omega), z _ (by omega) (by omega), z _ (by omega) (by omega), z _ (by omega) (by omega)]
    exact h.2.1 i hi
  · rw [z 4 (by omega) (by omega)] at hi
    rw [am_u2o (by omega), z _ (by omega) (by omega)]; exact h.dg hi
  · rw [zu_s] at hi
    by_cases g : i = q 2
    · rw [g, am_u2_at, zu_n (by omega), zu_s]
    · rw [am_u2_ne _ _ _ _ g, z _ (by omega) (by omega)]; exact h.nm (by omega)
  · have d := h.dy.keep (I1 := am_u2 I t 10 (nI (q 2 + 1))) (fun r _ _ => am_u2_row _ _ _ _ (by omega))
    exact ⟨by rw [y7]; exact d.1, fun x => absurd x (by omega), fun j hj => absurd hj (by omega)⟩
theorem sM.putTune (s : sM y n g tp p I L) (h2 : g 2 < 6) (h7 : g 7 = 0) (x : Nat) : sM y n (zu (zu g (400 + g 2) x) 2 (g 2 + 1)) tp p (am_u2 I 104 1626 (nI (g 2 + 1))) (am_u2 L 105 (24 + g 2) (lN (nm_cv 8 x))) ∧ km I L (am_u2 I 104 1626 (nI (g 2 + 1))) (am_u2 L 105 (24 + g 2) (lN (nm_cv 8 x))) := by
  obtain ⟨s1, s2, s3⟩ := s
  have z : ∀ i, i ≠ 2 → i ≠ 400 + g 2 → zu (zu g (400 + g 2) x) 2 (g 2 + 1) i = g i := fun i h0 h1 => by rw [zu_n h0, zu_n h1]
  have y7 := z 7 (by omega) (by omega)
  refine ⟨⟨s1.keep (fun _ _ => am_u2o (by omega)) (fun _ => am_u2o (by omega)), ⟨fun k hk g7 => ?_, ?_, fun j hj => absurd hj (by omega), fun k hk => ?_⟩, by rw [am_u2o (by omega)]; exact s3⟩, fun r j _ x => by unfold am_u2; rw [if_neg (by omega)], fun r j x => by unfold am_u2; rw [if_neg (by omega)]⟩
  · by_cases e : k = 2
    · subst e; rw [zu_s]; exact am_u2_at _ _ _ _
    · rw [am_u2_ne _ _ _ _ (by omega), z k e (by omega)]; exact s2.1 k hk g7
  · rw [am_u2_ne _ _ _ _ (by omega), y7]; exact s2.2.1
  · rw [zu_s] at hk
    by_cases e : k = g 2
    · subst e; rw [zu_n (by omega), zu_s]; exact am_u2_at _ _ _ _
    · rw [am_u2_ne _ _ _ _ (by omega), z _ (by omega) (by omega)]; exact s2.2.2.2 k (by omega)
/-- a tune -/
theorem SP.tune (hn : n ≤ 900) (hpn : p < n) (hg : sG q f tp) (hw : tI y n p = 4) : SP y n (p + 1) q f q tp p (fun t I L R Q => wp_SquareReader_readTune I L R 8 2 t Q) (fun I L R Q => wp_M_squarePart I L R 103 Q) := by
  have hg' := hg
  obtain ⟨ok, ⟨f0, f1, f2⟩, h6, h7, t64, b0, b1, b2⟩ := hg'
  have o := ok.1.2.2.1
  have p1 : p < tN y n p := tN_gt hpn
  have p2 : tN y n p ≤ n := tN_le (by omega)
  have p3 : tN y n p ≤ tN y n (tN y n p) := tN_ge
  have p4 : tN y n (tN y n p) ≤ n := tN_le p2
  have p5 : tN y n (tN y n p) ≤ tN y n (tN y n (tN y n p)) := tN_ge
  refine SP.pre (q1 := q) (f1 := f) (p1 := p) (g1 := q) (tp1 := tp ||| 8) (U1 := fun t I L R Q => wp_SquareReader_readTune I L R 8 2 t Q) (M1 := fun I L R Q => wp_M_aTune I L R 103 (fun r I7 L1 => wb_M_squarePart_170 R 103 Q I7 L1 r)) (fun t e I L R Q hc s K => K I L s ku.refl) (fun I L R Q s K => sm_part3 hn t64 hw s (fun I1 L1 s1 k1 => ⟨fun x => absurd x (by decide), fun x => absurd x (by decide), fun x => absurd x (by decide), fun _ => K I1 L1 s1 k1, fun x => absurd x (by decide), fun _ _ _ x => absurd rfl x⟩)) ?_
  by_cases c : q 2 = 6
  · refine SP.fault (v := ff y n p 6) (ff_b (by omega)) (by omega) ?_ ?_
    · intro t e I L R Q hc s K
      unfold wp_SquareReader_readTune
      rw [s.2.1.n2, c]
      exact ⟨fun x => absurd x (by decide), fun _ => su_ref s.1 K⟩
    · intro I L R Q s K
      refine s.full (k := 2) (m := 6) (by omega) (by omega) (by omega) (by omega) ?_
      rw [decide_eq_true c]
      exact ⟨fun x => (by cases x), fun _ => sm_fail s.1 (fun I1 u => f170 _ _ _ _ (K I1 u))⟩
  have h2 : q 2 < 6 := by omega
  refine SP.pre (q1 := q) (f1 := f) (p1 := tN y n p) (g1 := q) (tp1 := tp ||| 8) (U1 := fun t I1 L R Q => wp_Tokens_nameHere I1 L R 2 (fun r1 I2 => (r1 = 0 → Q false I2 L) ∧ (¬ r1 = 0 → wp_Square_tuneNamed I2 L R t r1 (fun r2 => (r2 = (-1) → (vp_in (I2 t 10) 6 ∧ ∀ L1, L1 = am_u2 L (t + 1) (Int32.toNatClampNeg (I2 t 10)) r1 → ∀ I3, I3 = am_u2 I2 t 10 (I2 t 10 + 1) → wp_Tokens_advance I3 L1 R 2 (fun I4 => wp_Tokens_takeSemicolon I4 L1 R 2 (fun r3 I5 => Q r3 I5 L1)))) ∧ (¬ r2 = (-1) → wp_Tokens_refuse I2 L R 2 3 (fun r4 I6 => Q r4 I6 L)))))) (M1 := fun I1 L R Q => wp_M_isName I1 L R 103 1002 (fun r2 => (r2 = false → wp_M_fails I1 L R 103 2 (fun r6 I5 => wb_M_squarePart_170 R 103 Q I5 L r6)) ∧ (r2 = true → wp_M_findHere I1 L R 103 24 (nI (q 2)) (fun r3 => (r3 = (-1) → wp_M_nameHere I1 L R 103 (fun r4 => vp_in (24 + nI (q 2)) 36 ∧ ∀ L1, L1 = am_u2 L 105 (Int32.toNatClampNeg (24 + nI (q 2))) r4 → ∀ I2, I2 = am_u2 I1 104 1626 (I1 104 1626 + 1) → wp_M_ahead I2 L1 R 103 (fun I3 => wb_M_squarePart_170 R 103 Q I3 L1 true))) ∧ (¬ r3 = (-1) → wp_M_fails I1 L R 103 3 (fun r5 I4 => wb_M_squarePart_170 R 103 Q I4 L r5)))))) ?_ ?_ ?_
  · intro t e I L R Q hc s K
    unfold wp_SquareReader_readTune
    refine ⟨fun _ => su_adv s.1 (fun I1 h1 f1 => K I1 L (s.tok hc h1 f1).1 (s.tok hc h1 f1).2), fun x => absurd ?_ x⟩
    rw [s.2.1.n2]
    show nI (q 2) < nI 6
    rw [nI_ltI (by omega) (by omega)]; exact h2
  · intro I L R Q s K
    refine s.full (k := 2) (m := 6) (by omega) (by omega) (by omega) (by omega) ?_
    rw [decide_eq_false c]
    have a : I 104 1626 = nI (q 2) := s.2.1.1 2 (by omega) (by omega)
    refine ⟨fun _ => sm_ahead hn s.1 (fun I1 h1 f1 => ?_), fun x => (by cases x)⟩
    have k2 := K I1 L (s.tok h1 f1).1 (s.tok h1 f1).2
    rw [← a] at k2
    exact k2
  by_cases k1 : tK y n (tN y n p) = 1
  rotate_left
  · refine SP.fault (v := ff y n (tN y n p) 2) (ff_b (by omega)) p2 ?_ ?_
    · intro t e I L R Q hc s K
      exact su_name s.1 (fun x => absurd x k1) (fun _ I1 u => ⟨fun _ => K I1 u, fun x => absurd rfl x⟩)
    · intro I L R Q s K
      refine sm_isName hn s.1 ?_
      rw [decide_eq_false k1]
      exact ⟨fun _ => sm_fail s.1 (fun I1 u => f170 _ _ _ _ (K I1 u)), fun x => (by cases x)⟩
  have hm := tM_w (y := y) (n := n) (p := tN y n p) (by omega)
  have k8 := tK_w hm
  have l8 : tE y n (tN y n p) - tN y n p ≤ 8 := by
    rcases Nat.lt_or_ge 8 (tE y n (tN y n p) - tN y n p) with z | z
    · rw [if_pos z] at k8; omega
    · exact z
  have q40 := tQ_40 hm l8
  have q1' : 0 < tQ y n (tN y n p) := by
    obtain ⟨_, _, z1, z2⟩ := tQ_l hm
    obtain ⟨m, hm2⟩ : ∃ m, tE y n (tN y n p) - tN y n p = m + 1 := ⟨tE y n (tN y n p) - tN y n p - 1, by omega⟩
    rw [hm2] at z2
    have a := tpk_ge z2
    have b : 0 < 32 ^ m := Nat.pow_pos (by omega)
    unfold tQ
    rw [hm2]; omega
  have q0' : ¬ lN (tQ y n (tN y n p)) = 0 := fun z => by
    have : lN (tQ y n (tN y n p)) = lN 0 := z
    rw [zk_eq (by omega) (by omega)] at this; omega
  obtain ⟨r, hr⟩ := tn_ex q (tQ y n (tN y n p))
  by_cases hr2 : r < q 2
  · refine SP.fault (v := ff y n (tN y n p) 3) (ff_b (by omega)) p2 ?_ ?_
    · intro t e I L R Q hc s K
      refine su_name s.1 (fun _ => ⟨fun x => absurd x q0', fun _ => su_tune s.2.1 ok q40 hr ?_⟩) (fun x => absurd k1 x)
      rw [if_pos hr2]
      exact ⟨fun x => absurd x (fun x => (zn_M (n := r) (by omega)).1 x), fun _ => su_ref s.1 K⟩
    · intro I L R Q s K
      refine sm_isName hn s.1 ?_
      rw [decide_eq_true k1]
      refine ⟨fun x => (by cases x), fun _ => sm_find hn s.1 k1 (s := 4) (by omega) s.2.1 ok hr ?_⟩
      rw [if_pos hr2]
      exact ⟨fun x => absurd x (fun x => (zn_M (n := r) (by omega)).1 x), fun _ => sm_fail s.1 (fun I1 u => f170 _ _ _ _ (K I1 u))⟩
  generalize hx : tQ y n (tN y n p) = x at q40 q1' q0' hr
  refine SP.pre (q1 := zu (zu q (400 + q 2) x) 2 (q 2 + 1)) (f1 := f) (p1 := tN y n (tN y n p)) (g1 := zu (zu q (400 + q 2) x) 2 (q 2 + 1)) (tp1 := tp ||| 8) (U1 := fun _ I L R Q => wp_Tokens_takeSemicolon I L R 2 (fun r I1 => Q r I1 L)) (M1 := fun I L R Q => wp_M_wantSign I L R 103 (nI 59) (fun r I1 => (r = false → Q false I1 L) ∧ (r = true → Q true I1 L))) ?_ ?_ ?_
  · intro t e I L R Q hc s K
    refine su_name s.1 (fun _ => ?_) (fun x => absurd k1 x)
    rw [hx]
    refine ⟨fun x => absurd x q0', fun _ => su_tune s.2.1 ok q40 hr ?_⟩
    rw [if_neg hr2, s.2.1.n2]
    refine ⟨fun _ => ⟨(zn_in (by omega)).2 h2, fun L1 hL1 I3 h3 => ?_⟩, fun x => absurd (by decide) x⟩
    rw [nI_clamp (by omega)] at hL1
    rw [zi_1, nI_add] at h3
    obtain ⟨s1, s2, s3, s4, s5⟩ := s
    have c1' := hc.1
    have sn : sU y n (zu (zu q (400 + q 2) x) 2 (q 2 + 1)) f (tN y n p) t e I3 L1 := by
      rw [h3, hL1]
      exact ⟨s1.keep (fun k hk => am_u2o (by omega)) (fun _ => am_u2o (by omega)) (fun _ => am_u2o (by omega)) (am_u2_row _ _ _ _ (by omega)), s2.putTune hc (by omega) h2 (by omega) h7 x, by rw [am_u2o (by omega)]; exact s3, by rw [am_u2o (by omega)]; exact s4, by rw [am_u2o (by omega)]; exact s5⟩
    have kn : ku t I L I3 L1 := by
      rw [h3, hL1]
      exact ⟨am_u2o (by omega), am_u2o (by omega), fun r k _ _ x => am_u2o (by omega), fun r x => am_u2_row _ _ _ _ x⟩
    exact su_adv sn.1 (fun I4 h4 f4 => K I4 L1 (sn.tok hc h4 f4).1 (kn.trans (sn.tok hc h4 f4).2))
  · intro I L R Q s K
    refine sm_isName hn s.1 ?_
    rw [decide_eq_true k1]
    refine ⟨fun x => (by cases x), fun _ => sm_find hn s.1 k1 (s := 4) (by omega) s.2.1 ok (by rw [hx]; exact hr) ?_⟩
    rw [if_neg hr2]
    refine ⟨fun _ => sm_nameHere hn s.1 k1 ?_, fun x => absurd (by decide) x⟩
    rw [hx, show (24 : Int32) = nI 24 from rfl, nI_add, nI_clamp (by omega)]
    refine ⟨(zn_in (by omega)).2 (by omega), fun L1 hL1 I2 hI2 => ?_⟩
    have a : I 104 1626 = nI (q 2) := s.2.1.1 2 (by omega) (by omega)
    rw [a, zi_1, nI_add] at hI2
    have b := s.putTune h2 h7 x
    rw [hI2, hL1]
    exact sm_ahead hn b.1.1 (fun I3 h3 f3 => t170 _ _ _ _ (K I3 _ (b.1.tok h3 f3).1 (b.2.trans (b.1.tok h3 f3).2)))
  · have z : ∀ i, i ≠ 2 → i ≠ 400 + q 2 → zu (zu q (400 + q 2) x) 2 (q 2 + 1) i = q i := fun i h0 h1 => by rw [zu_n h0, zu_n h1]
    have d0 : ¬ (8 : Nat).testBit 0 = true := by decide
    have d1' : ¬ (8 : Nat).testBit 1 = true := by decide
    have d2' : ¬ (8 : Nat).testBit 2 = true := by decide
    obtain ⟨⟨o0, o1, o2, o6, o8⟩, oh, od, on, oy⟩ := ok
    refine SP.semi hn p4 ⟨⟨⟨by rw [z 0 (by omega) (by omega)]; exact o0, by rw [z 1 (by omega) (by omega)]; exact o1, by rw [zu_s, z 3 (by omega) (by omega), z 4 (by omega) (by omega), z 5 (by omega) (by omega)]; omega, by rw [z 0 (by omega) (by omega), z 1 (by omega) (by omega), z 6 (by omega) (by omega)]; exact o6, by rw [z 8 (by omega) (by omega)]; exact o8⟩, fun i hi => ?_, fun i hi => ?_, fun i hi => ?_, dy_Ok.no (by rw [z 7 (by omega) (by omega)]; exact h7)⟩, ⟨f0, f1, f2⟩, by rw [z 6 (by omega) (by omega)]; exact h6, by rw [z 7 (by omega) (by omega)]; exact h7, tp_lt t64 (by omega), ?_, ?_, ?_⟩ (by omega)
    · rw [z 3 (by omega) (by omega)] at hi
      rw [z 0 (by omega) (by omega), z 1 (by omega) (by omega), zu_s, z (10 + 4 * i) (by omega) (by omega), z (11 + 4 * i) (by omega) (by omega), z (12 + 4 * i) (by omega) (by omega), z (13 + 4 * i) (by omega) (by omega)]
      obtain ⟨u1, u2, u3, u4⟩ := oh i hi
      exact ⟨u1, by rw [Nat.pow_succ]; omega, u3, u4⟩
    · rw [z 4 (by omega) (by omega)] at hi
      rw [z 0 (by omega) (by omega), z 1 (by omega) (by omega), z (34 + i) (by omega) (by omega)]; exact od i hi
    · rw [zu_s] at hi
      by_cases g : i = q 2
      · rw [g, zu_n (by omega), zu_s]; exact q40
      · rw [z (400 + i) (by omega) (by omega)]; exact on i (by omega)
    · rw [tp_or, b0, z 3 (by omega) (by omega), z 4 (by omega) (by omega)]; exact ⟨fun x => x.resolve_right d0, Or.inl⟩
    · rw [tp_or, b1]; exact ⟨fun x => x.resolve_right d1', Or.inl⟩
    · rw [tp_or, b2]; exact ⟨fun x => x.resolve_right d2', Or.inl⟩
end
