/-! the square's text: its size, a dog -/
section
variable {y : Nat → Nat} {n lb : Nat} {q f g q1 f1 g1 : Nat → Nat} {tp p tp1 p1 : Nat} {I I1 I2 : am_TI} {L L1 L2 : am_TL} {R : am_TR} {U U1 : Nat → sT} {M M1 FM : sT} {t e : Nat}
theorem dy_Ok.no (h : q 7 = 0) : dy_Ok q := ⟨by omega, fun j hj => absurd hj (by omega), fun i j _ _ hj => absurd hj (by omega)⟩
theorem SP.wordF (hn : n ≤ 900) (hp : p ≤ n) {w : Nat} (hw : w < 25) (hF : ∀ I L R Q, Q false I L → FM I L R Q) (h : tI y n p = w → SP y n lb q f g tp (tN y n p) U M) : SP y n lb q f g tp p (fun t I L R Q => wp_Tokens_takeWord I L R 2 (nI w) (fun r I1 => (r = false → Q false I1 L) ∧ (r = true → U t I1 L R Q))) (fun I L R Q => wp_M_wantWord I L R 103 1002 (nI (rwT.getD w 25)) (fun r I1 => (r = false → FM I1 L R Q) ∧ (r = true → M I1 L R Q))) := by
  by_cases e : tI y n p = w
  · refine (h e).pre (fun t e' I L R Q hc s K => su_takeWord s.1 hw (fun _ I1 h1 f1 => ⟨fun x => (by cases x), fun _ => K I1 L (s.tok hc h1 f1).1 (s.tok hc h1 f1).2⟩) (fun x => absurd e x)) (fun I L R Q s K => sm_wantWord hn s.1 hw (fun _ I1 h1 f1 => ⟨fun x => (by cases x), fun _ => K I1 L (s.tok h1 f1).1 (s.tok h1 f1).2⟩) (fun x => absurd e x))
  · exact SP.fault (ff_b (v := 2) (by omega)) hp (fun t e' I L R Q hc s K => su_takeWord s.1 hw (fun x => absurd x e) (fun _ I1 u => ⟨fun _ => K I1 u, fun x => (by cases x)⟩)) (fun I L R Q s K => sm_wantWord hn s.1 hw (fun x => absurd x e) (fun _ I1 u => ⟨fun _ => hF _ _ _ _ (K I1 u), fun x => (by cases x)⟩))
theorem SP.numF (hn : n ≤ 900) (hp : p ≤ n) {lo hi k : Nat} (hlo : lo < 2 ^ 31) (hhi : hi < 2 ^ 31) (hk : k < 38) (h2 : k ≠ 2) (h7 : k ≠ 7) {p2 p3 : Int32} (e2 : p2 = nI hi - nI 1) (e3 : p3 = nI hi - nI 1) (hF : ∀ I L R Q, Q false I L → FM I L R Q) {U : Nat → Int32 → sT} (h : tK y n p = 4 → lo ≤ tW y n p → tW y n p < hi → SP y n lb q f (zu g k (tW y n p)) tp (tN y n p) (fun t => U t (nI (tW y n p))) M) : SP y n lb q f g tp p (fun t I L R Q => wp_Tokens_takeNumber I L R 2 (nI lo) p2 (fun r I1 => (r = nM → Q false I1 L) ∧ (¬ r = nM → U t r I1 L R Q))) (fun I L R Q => wp_M_number I L R 103 (nI (1624 + k)) (nI lo) p3 (fun r I1 => (r = false → FM I1 L R Q) ∧ (r = true → M I1 L R Q))) := by
  by_cases c : tK y n p = 4 ∧ lo ≤ tW y n p ∧ tW y n p < hi
  · obtain ⟨c1, c2, c3⟩ := c
    have b := tW_4 c1
    refine (h c1 c2 c3).pre (fun t e' I L R Q hc s K => su_num s.1 hlo hhi e2 (fun _ _ _ I1 h1 f1 => ⟨fun x => absurd x (fun x => (zn_M (by omega)).1 x), fun _ => K I1 L (s.tok hc h1 f1).1 (s.tok hc h1 f1).2⟩) (fun x => absurd ⟨c1, c2, c3⟩ x)) (fun I L R Q s K => sm_num hn s.1 hlo hhi (by omega) e3 (fun _ _ _ I1 h1 f1 => ⟨fun x => (by cases x), fun _ => ?_⟩) (fun x => absurd ⟨c1, c2, c3⟩ x))
    have a := s.put hk h2 h7 (tW y n p)
    have a2 := a.1.tok h1 f1
    exact K I1 L a2.1 (a.2.trans a2.2)
  · exact SP.fault (ff_b (v := if tK y n p = 4 then 4 else 2) (by split <;> omega)) hp (fun t e' I L R Q hc s K => su_num s.1 hlo hhi e2 (fun x1 x2 x3 => absurd ⟨x1, x2, x3⟩ c) (fun _ I1 u => ⟨fun _ => K I1 u, fun x => absurd rfl x⟩)) (fun I L R Q s K => sm_num hn s.1 hlo hhi (by omega) e3 (fun x1 x2 x3 => absurd ⟨x1, x2, x3⟩ c) (fun _ I1 u => ⟨fun _ => hF _ _ _ _ (K I1 u), fun x => (by cases x)⟩))
theorem f170 : ∀ I L R (Q : Bool → am_TI → am_TL → Prop), Q false I L → wb_M_squarePart_170 R 103 Q I L false := fun I L R Q h => ⟨fun _ => h, fun x => (by cases x)⟩
theorem t170 : ∀ I L R (Q : Bool → am_TI → am_TL → Prop), wp_M_wantSign I L R 103 (nI 59) (fun r I1 => (r = false → Q false I1 L) ∧ (r = true → Q true I1 L)) → wb_M_squarePart_170 R 103 Q I L true := fun I L R Q h => ⟨fun x => (by cases x), fun _ => h⟩
theorem sq_U.putWH (h : sq_U q t e I L) (hcd : sq_cd t e) (a b : Nat) : sq_U (zu (zu q 0 a) 1 b) t e (am_u2 (am_u2 I t 6 (nI a)) t 7 (nI b)) L := by
  obtain ⟨hc, hd⟩ := hcd
  have z : ∀ i, i ≠ 0 → i ≠ 1 → zu (zu q 0 a) 1 b i = q i := fun i h0 h1 => by rw [zu_n h1, zu_n h0]
  have es : sq_seen (zu (zu q 0 a) 1 b) = sq_seen q := by rw [zu_seen (by omega) (by omega), zu_seen (by omega) (by omega)]
  refine ⟨?_, fun i hi => ?_, fun i hi => ?_, fun i hi => ?_, (h.dy.keep (fun r _ _ => by rw [am_u2_row _ _ _ _ (by omega), am_u2_row _ _ _ _ (by omega)])).cong (z 7 (by omega) (by omega)) (fun k hk => z k (by omega) (by omega))⟩
  · obtain ⟨a0, a1, a2, a3, a4, a5, a6, a7, a8, a9⟩ := h.1
    rw [es]
    unfold am_u2 zu
    simp [a0, a1, a2, a3, a4, a5, a6, a7, a8, a9]
  · rw [z 3 (by omega) (by omega)] at hi
    rw [am_u2_row _ _ _ _ (by omega), am_u2_row _ _ _ _ (by omega), am_u2_row _ _ _ _ (by omega), am_u2_row _ _ _ _ (by omega), am_u2_row _ _ _ _ (by omega), am_u2_row _ _ _ _ (by omega), z _ (by omega) (by omega), z _ (by omega) (by omega), z _ (by omega) (by omega)]
    exact h.2.1 i hi
  · rw [z 4 (by omega) (by omega)] at hi
    rw [am_u2_row _ _ _ _ (by omega), am_u2_row _ _ _ _ (by omega), z _ (by omega) (by omega)]; exact h.dg hi
  · rw [z 2 (by omega) (by omega)] at hi
    rw [z _ (by omega) (by omega)]; exact h.nm hi
/-- the size -/
theorem SP.size (hn : n ≤ 900) (hpn : p < n) (hg : sG q f tp) (hw : tI y n p = 0) : SP y n (p + 1) q f q tp p (fun t I L R Q => wp_SquareReader_readSize I L R 8 2 t (fun r I1 => Q r I1 L)) (fun I L R Q => wp_M_squarePart I L R 103 Q) := by
  have hg' := hg
  obtain ⟨ok, ⟨f0, f1, f2⟩, h6, h7, t64, b0, b1, b2⟩ := hg'
  have o := ok.1.2.2.1
  have p1 : p < tN y n p := tN_gt hpn
  have p2 : tN y n p ≤ n := tN_le (by omega)
  have p3 : tN y n p ≤ tN y n (tN y n p) := tN_ge
  have p4 : tN y n (tN y n p) ≤ n := tN_le p2
  have p5 : tN y n (tN y n p) ≤ tN y n (tN y n (tN y n p)) := tN_ge
  have p6 : tN y n (tN y n (tN y n p)) ≤ n := tN_le p4
  have p7 : tN y n (tN y n (tN y n p)) ≤ tN y n (tN y n (tN y n (tN y n p))) := tN_ge
  have p8 : tN y n (tN y n (tN y n (tN y n p))) ≤ n := tN_le p6
  have p9 : tN y n (tN y n (tN y n (tN y n p))) ≤ tN y n (tN y n (tN y n (tN y n (tN y n p)))) := tN_ge
  by_cases c : f 0 = 0 ∧ f 2 = 0 ∧ q 3 = 0 ∧ q 4 = 0
  · obtain ⟨c0, c2, c3, c4⟩ := c
    refine SP.pre (q1 := q) (f1 := zu f 0 1) (p1 := p) (g1 := q) (tp1 := tp ||| 1) (U1 := fun t I2 L R Q => wp_Tokens_advance I2 L R 2 (fun I3 => wp_Tokens_takeNumber I3 L R 2 (nI 1) (nI 5) (fun r2 I4 => (r2 = nM → Q false I4 L) ∧ (¬ r2 = nM → wp_Tokens_takeWord I4 L R 2 (nI 1) (fun r3 I5 => (r3 = false → Q false I5 L) ∧ (r3 = true → wp_Tokens_takeNumber I5 L R 2 (nI 1) (nI 5) (fun r4 I6 => (r4 = nM → Q false I6 L) ∧ (¬ r4 = nM → ∀ I7, I7 = am_u2 I6 t 6 r2 → ∀ I8, I8 = am_u2 I7 t 7 r4 → wp_Tokens_takeSemicolon I8 L R 2 (fun r5 I9 => Q r5 I9 L))))))))) (M1 := fun I L R Q => wp_M_ahead I L R 103 (fun I10 => wb_M_squarePart_82 R 103 Q I10 L (nI 0))) ?_ ?_ ?_
    · intro t e I L R Q hc s K
      have a := s.flag hc (i := 0) (by omega)
      have k2 := K _ _ a.1 a.2
      unfold wp_SquareReader_readSize
      rw [s.2.2.1, s.2.2.2.2, s.2.1.n3, s.2.1.n4, c0, c2, c3, c4]
      refine ⟨fun _ => ⟨fun _ => ⟨fun x => absurd x (by decide), fun _ => ⟨fun _ I2 h2 => ?_, fun x => absurd (by decide) x⟩⟩, fun x => absurd rfl x⟩, fun x => absurd rfl x⟩
      rw [h2]; exact k2
    · intro I L R Q s K
      exact sm_part0 hn t64 hw (fun x => absurd (b0.1 x) (by omega)) s K
    · refine SP.adv hn (U := fun t I3 L R Q => wp_Tokens_takeNumber I3 L R 2 (nI 1) (nI 5) (fun r2 I4 => (r2 = nM → Q false I4 L) ∧ (¬ r2 = nM → wp_Tokens_takeWord I4 L R 2 (nI 1) (fun r3 I5 => (r3 = false → Q false I5 L) ∧ (r3 = true → wp_Tokens_takeNumber I5 L R 2 (nI 1) (nI 5) (fun r4 I6 => (r4 = nM → Q false I6 L) ∧ (¬ r4 = nM → ∀ I7, I7 = am_u2 I6 t 6 r2 → ∀ I8, I8 = am_u2 I7 t 7 r4 → wp_Tokens_takeSemicolon I8 L R 2 (fun r5 I9 => Q r5 I9 L)))))))) (M := fun I L R Q => wb_M_squarePart_82 R 103 Q I L (nI 0)) ?_
      refine SP.imp (fun t I L R Q h => h) (M1 := fun I L R Q => wp_M_number I L R 103 (nI (1624 + 0)) (nI 1) (nI 5) (fun r1 I1 => (r1 = false → wb_M_squarePart_170 R 103 Q I1 L false) ∧ (r1 = true → wp_M_wantWord I1 L R 103 1002 (nI (rwT.getD 1 25)) (fun r2 I2 => (r2 = false → wb_M_squarePart_170 R 103 Q I2 L false) ∧ (r2 = true → wp_M_number I2 L R 103 (nI (1624 + 1)) (nI 1) (nI 5) (fun r3 I3 => (r3 = false → wb_M_squarePart_170 R 103 Q I3 L false) ∧ (r3 = true → wb_M_squarePart_170 R 103 Q I3 L true))))))) (fun I L R Q h => ⟨fun _ => h, fun x => absurd x (by decide), fun x => absurd x (by decide), fun x => absurd x (by decide), fun x => absurd x (by decide), fun x => absurd rfl x⟩) ?_
      refine SP.numF (FM := fun I1 L R Q => wb_M_squarePart_170 R 103 Q I1 L false) (hi := 6) (k := 0) (U := fun t r2 I4 L R Q => wp_Tokens_takeWord I4 L R 2 (nI 1) (fun r3 I5 => (r3 = false → Q false I5 L) ∧ (r3 = true → wp_Tokens_takeNumber I5 L R 2 (nI 1) (nI 5) (fun r4 I6 => (r4 = nM → Q false I6 L) ∧ (¬ r4 = nM → ∀ I7, I7 = am_u2 I6 t 6 r2 → ∀ I8, I8 = am_u2 I7 t 7 r4 → wp_Tokens_takeSemicolon I8 L R 2 (fun r5 I9 => Q r5 I9 L)))))) hn p2 (by omega) (by omega) (by omega) (by omega) (by omega) (by decide) (by decide) f170 (fun _ a1 a2 => ?_)
      generalize hwv : tW y n (tN y n p) = wv at a1 a2 ⊢
      refine SP.wordF (FM := fun I1 L R Q => wb_M_squarePart_170 R 103 Q I1 L false) (w := 1) (U := fun t I5 L R Q => wp_Tokens_takeNumber I5 L R 2 (nI 1) (nI 5) (fun r4 I6 => (r4 = nM → Q false I6 L) ∧ (¬ r4 = nM → ∀ I7, I7 = am_u2 I6 t 6 (nI wv) → ∀ I8, I8 = am_u2 I7 t 7 r4 → wp_Tokens_takeSemicolon I8 L R 2 (fun r5 I9 => Q r5 I9 L)))) hn p4 (by omega) f170 (fun _ => ?_)
      refine SP.numF (FM := fun I1 L R Q => wb_M_squarePart_170 R 103 Q I1 L false) (hi := 6) (k := 1) (U := fun t r4 I6 L R Q => ∀ I7, I7 = am_u2 I6 t 6 (nI wv) → ∀ I8, I8 = am_u2 I7 t 7 r4 → wp_Tokens_takeSemicolon I8 L R 2 (fun r5 I9 => Q r5 I9 L)) hn p6 (by omega) (by omega) (by omega) (by omega) (by omega) (by decide) (by decide) f170 (fun _ d1 d2 => ?_)
      generalize hhv : tW y n (tN y n (tN y n (tN y n p))) = hv at d1 d2 ⊢
      have z : ∀ i, i ≠ 0 → i ≠ 1 → zu (zu q 0 wv) 1 hv i = q i := fun i x0 x1 => by rw [zu_n x1, zu_n x0]
      have z0 : zu (zu q 0 wv) 1 hv 0 = wv := by rw [zu_n (by omega), zu_s]
      have z1 : zu (zu q 0 wv) 1 hv 1 = hv := zu_s _ _ _
      have pos : 0 < wv * hv := Nat.mul_pos a1 d1
      refine SP.pre (q1 := zu (zu q 0 wv) 1 hv) (f1 := zu f 0 1) (p1 := tN y n (tN y n (tN y n (tN y n p)))) (g1 := zu (zu q 0 wv) 1 hv) (tp1 := tp ||| 1) (U1 := fun _ I L R Q => wp_Tokens_takeSemicolon I L R 2 (fun r I1 => Q r I1 L)) (M1 := fun I L R Q => wp_M_wantSign I L R 103 (nI 59) (fun r I1 => (r = false → Q false I1 L) ∧ (r = true → Q true I1 L))) ?_ ?_ ?_
      · intro t e I L R Q hc s K I7 h7' I8 h8'
        obtain ⟨s1, s2, s3, s4, s5⟩ := s
        have c1' := hc.1
        rw [h8', h7']
        refine K _ L ⟨s1.keep (fun k hk => by rw [am_u2o (by omega), am_u2o (by omega)]) (fun _ => by rw [am_u2o (by omega), am_u2o (by omega)]) (fun _ => by rw [am_u2o (by omega), am_u2o (by omega)]) rfl, s2.putWH hc wv hv, by rw [am_u2o (by omega), am_u2o (by omega)]; exact s3, by rw [am_u2o (by omega), am_u2o (by omega)]; exact s4, by rw [am_u2o (by omega), am_u2o (by omega)]; exact s5⟩ ⟨by rw [am_u2o (by omega), am_u2o (by omega)], by rw [am_u2o (by omega), am_u2o (by omega)], fun r k _ _ x => by rw [am_u2o (by omega), am_u2o (by omega)], fun _ _ => rfl⟩
      · intro I L R Q s K
        exact t170 I L R Q (K I L s km.refl)
      · have d0 : (1 : Nat).testBit 0 = true := by decide
        have d1' : ¬ (1 : Nat).testBit 1 = true := by decide
        have d2' : ¬ (1 : Nat).testBit 2 = true := by decide
        have y0 : zu f 0 1 0 = 1 := zu_s _ _ _
        have y1 : zu f 0 1 1 = f 1 := zu_n (by omega)
        have y2 : zu f 0 1 2 = f 2 := zu_n (by omega)
        refine SP.semi hn p8 ⟨⟨⟨by omega, by omega, by rw [z 2 (by omega) (by omega), z 3 (by omega) (by omega), z 4 (by omega) (by omega), z 5 (by omega) (by omega)]; exact o, by rw [z0, z1, z 6 (by omega) (by omega), h6 c2]; exact pos, by rw [z 8 (by omega) (by omega)]; exact ok.1.2.2.2.2⟩, fun i hi => absurd hi (by rw [z 3 (by omega) (by omega), c3]; omega), fun i hi => absurd hi (by rw [z 4 (by omega) (by omega), c4]; omega), fun i hi => by rw [z 2 (by omega) (by omega)] at hi; rw [z _ (by omega) (by omega)]; exact ok.2.2.2.1 i hi, dy_Ok.no (by rw [z 7 (by omega) (by omega)]; exact h7)⟩, ⟨by omega, by omega, by omega⟩, fun _ => by rw [z 6 (by omega) (by omega)]; exact h6 c2, by rw [z 7 (by omega) (by omega)]; exact h7, tp_lt t64 (by omega), ?_, ?_, ?_⟩ (by omega)
        · rw [tp_or]; exact ⟨fun _ => Or.inl y0, fun _ => Or.inr d0⟩
        · rw [tp_or, b1, y1]; exact ⟨fun x => x.resolve_right d1', Or.inl⟩
        · rw [tp_or, b2, y2]; exact ⟨fun x => x.resolve_right d2', Or.inl⟩
  · refine SP.pre (q1 := q) (f1 := f) (p1 := p) (g1 := q) (tp1 := tp) (U1 := fun _ I L R Q => wp_Tokens_refuse I L R 2 (nI 5) (fun r I1 => Q r I1 L)) (M1 := fun I L R Q => wp_M_fails I L R 103 (nI 5) (fun r I1 => Q r I1 L)) ?_ ?_ (SP.ref (by omega) (by omega))
    · intro t e I L R Q hc s K
      have k2 := K I L s ku.refl
      unfold wp_SquareReader_readSize wb_SquareReader_readSize_28
      rw [s.2.2.1, s.2.2.2.2, s.2.1.n3, s.2.1.n4]
      simp (disch := omega) only [zi_0, zi_1, zi_2, zi_3, zi_4, zi_5, zi_6, zi_7, zi_8, zi_9, zi_10, zi_11, zi_12, zi_13, zi_14, zi_15, zi_16, zi_17, zi_18, zi_19, zi_20, zi_21, zi_22, zi_23, zi_24, zi_25, zi_26, zi_30, zi_31, zi_32, zi_34, zi_38, zi_59, zi_60, zi_61, zi_63, zi_64, zi_80, zi_96, zi_97, zi_99, zi_100, zi_122, zi_255, zi_256, zi_300, zi_398, zi_406, zi_900, zi_1000, zi_1024, zi_1624, zi_1662, zi_2030, zi_2031, zi_2068, zi_2258, zi_9999, zi_48, zi_57, zi_65536, zi_3257, zi_11483, zi_1000000, zi_729, zi_81, zi_m1, nI_add, pk_mul, nI_ltI, nI_leI, nI_eq, nI_clamp, zn_in, zn_sub1lt, zn_M, zn_Ml, zn_Mg, zn_Mle, zn_Mge, zn_sub, Nat.reduceAdd, Nat.reduceMul]
      exact ⟨fun _ => ⟨fun _ => ⟨fun _ => k2, fun _ => ⟨fun x => absurd c (by omega), fun _ => k2⟩⟩, fun _ => k2⟩, fun _ => k2⟩
    · intro I L R Q s K
      exact sm_part0x hn t64 hw (b0.2 (by omega)) s (K I L s km.refl)
end
