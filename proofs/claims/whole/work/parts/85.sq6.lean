/-! the square's text: a hearer's end -/
section
variable {y : Nat → Nat} {n lb : Nat} {q f g q1 f1 g1 : Nat → Nat} {tp p tp1 p1 : Nat} {I I1 I2 : am_TI} {L L1 L2 : am_TL} {R : am_TR} {U U1 : Nat → sT} {M M1 FM : sT} {t e : Nat}
theorem SP.hEnd (hn : n ≤ 900) (hp : p ≤ n) (hg : sG q f tp) (h3 : q 3 < 6) {a b v : Nat} (ha : a < q 0 * q 1) (hb : b ≤ 99) (hv : v < 2 ^ q 2) (hlb : lb ≤ tN y n p) : SP y n lb q f (hq q a b v) (tp ||| 17) p (fun t I L R Q => wb_SquareReader_readHearer_102 L R 8 2 t (fun r I1 => Q r I1 L) I (nI a) (nI b) (nI v)) (fun I L R Q => wb_M_aHearer_181 L R 103 (fun r I8 => wb_M_squarePart_170 R 103 Q I8 L r) I) := by
  obtain ⟨ok, ⟨f0, f1, f2⟩, h6, h7, t64, b0, b1, b2⟩ := hg
  have o := ok.1.2.2.1
  have v31 : v < 2 ^ 31 := Nat.lt_of_lt_of_le hv (Nat.pow_le_pow_right (by omega) (by omega))
  refine SP.pre (q1 := zu (hq q a b v) 3 (q 3 + 1)) (f1 := f) (p1 := p) (g1 := zu (hq q a b v) 3 (q 3 + 1)) (tp1 := tp ||| 17) (U1 := fun _ I L R Q => wp_Tokens_takeSemicolon I L R 2 (fun r I1 => Q r I1 L)) (M1 := fun I L R Q => wp_M_wantSign I L R 103 (nI 59) (fun r I1 => (r = false → Q false I1 L) ∧ (r = true → Q true I1 L))) ?_ ?_ ?_
  · intro t e I L R Q hc s K
    obtain ⟨s1, s2, s3, s4, s5⟩ := s
    have c1' := hc.1
    have e3 := s2.n3
    have sn : sU y n (zu (hq q a b v) 3 (q 3 + 1)) f p t e (am_u2 (am_u2 (am_u2 (am_u2 I (t + 2) (q 3) (nI a)) (t + 3) (q 3) (nI b)) (t + 4) (q 3) (nI v)) t 11 (nI (q 3 + 1))) L := by
      refine ⟨s1.keep (fun k hk => ?_) (fun _ => ?_) (fun _ => ?_) rfl, s2.putHearer hc h3 h7 a b v, ?_, ?_, ?_⟩
      · rw [am_u2o (by omega), am_u2o (by omega), am_u2o (by omega), am_u2o (by omega)]
      · rw [am_u2o (by omega), am_u2o (by omega), am_u2o (by omega), am_u2o (by omega)]
      · rw [am_u2o (by omega), am_u2o (by omega), am_u2o (by omega), am_u2o (by omega)]
      · rw [am_u2o (by omega), am_u2o (by omega), am_u2o (by omega), am_u2o (by omega)]; exact s3
      · rw [am_u2o (by omega), am_u2o (by omega), am_u2o (by omega), am_u2o (by omega)]; exact s4
      · rw [am_u2o (by omega), am_u2o (by omega), am_u2o (by omega), am_u2o (by omega)]; exact s5
    have k2 := K _ L sn ⟨by rw [am_u2o (by omega), am_u2o (by omega), am_u2o (by omega), am_u2o (by omega)], by rw [am_u2o (by omega), am_u2o (by omega), am_u2o (by omega), am_u2o (by omega)], fun r k _ _ x => by rw [am_u2o (by omega), am_u2o (by omega), am_u2o (by omega), am_u2o (by omega)], fun _ _ => rfl⟩
    simp (disch := omega) only [wb_SquareReader_readHearer_102, wp_Square_addHearer, e3, am_u2o, zi_0, zi_1, zi_2, zi_3, zi_4, zi_5, zi_6, zi_7, zi_8, zi_9, zi_10, zi_11, zi_12, zi_13, zi_14, zi_15, zi_16, zi_17, zi_18, zi_19, zi_20, zi_21, zi_22, zi_23, zi_24, zi_25, zi_26, zi_30, zi_31, zi_32, zi_34, zi_38, zi_59, zi_60, zi_61, zi_63, zi_64, zi_80, zi_96, zi_97, zi_99, zi_100, zi_122, zi_255, zi_256, zi_300, zi_398, zi_406, zi_900, zi_1000, zi_1024, zi_1624, zi_1662, zi_2030, zi_2031, zi_2068, zi_2258, zi_9999, zi_48, zi_57, zi_65536, zi_3257, zi_11483, zi_1000000, zi_729, zi_81, zi_m1, nI_add, pk_mul, nI_ltI, nI_leI, nI_eq, nI_clamp, zn_in, zn_sub1lt, zn_M, zn_Ml, zn_Mg, zn_Mle, zn_Mge, zn_sub, Nat.reduceAdd, Nat.reduceMul, forall_eq, true_imp_iff, false_imp_iff, and_true, true_and, not_true_eq_false, not_false_eq_true, reduceCtorEq, imp_self, eq_self, false_and, and_false, implies_true]
    repeat' (first | omega | with_reducible refine And.intro ?_ ?_ | with_reducible intro g)
    all_goals exact k2
  · intro I L R Q s K I8 h8
    have a3 : I 104 1627 = nI (q 3) := by
      have := s.2.1.1 3 (by omega) (by omega)
      rw [hq_n (by omega)] at this
      exact this
    have bb := s.put (k := 3) (by omega) (by omega) (by omega) (q 3 + 1)
    rw [show I (103 + 1) 1627 = nI (q 3) from a3, zi_1, nI_add] at h8
    rw [h8]
    exact t170 _ L R Q (K _ L bb.1 bb.2)
  · have z : ∀ i, i ≠ 3 → (i < 10 + 4 * q 3 ∨ 14 + 4 * q 3 ≤ i) → zu (hq q a b v) 3 (q 3 + 1) i = q i := fun i h0 h1 => by rw [zu_n h0, hq_n h1]
    obtain ⟨v0, v1, v2, v3⟩ := hq_v (q := q) (a := a) (b := b) (v := v)
    have d0 : (17 : Nat).testBit 0 = true := by decide
    have d1' : ¬ (17 : Nat).testBit 1 = true := by decide
    have d2' : ¬ (17 : Nat).testBit 2 = true := by decide
    obtain ⟨⟨o0, o1, o2, o6, o8⟩, oh, od, on, oy⟩ := ok
    refine SP.semi hn hp ⟨⟨⟨by rw [z 0 (by omega) (by omega)]; exact o0, by rw [z 1 (by omega) (by omega)]; exact o1, by rw [z 2 (by omega) (by omega), zu_s, z 4 (by omega) (by omega), z 5 (by omega) (by omega)]; omega, by rw [z 0 (by omega) (by omega), z 1 (by omega) (by omega), z 6 (by omega) (by omega)]; exact o6, by rw [z 8 (by omega) (by omega)]; exact o8⟩, fun i hi => ?_, fun i hi => ?_, fun i hi => ?_, dy_Ok.no (by rw [z 7 (by omega) (by omega)]; exact h7)⟩, ⟨f0, f1, f2⟩, by rw [z 6 (by omega) (by omega)]; exact h6, by rw [z 7 (by omega) (by omega)]; exact h7, tp_lt t64 (by omega), ?_, ?_, ?_⟩ hlb
    · rw [zu_s] at hi
      rw [z 0 (by omega) (by omega), z 1 (by omega) (by omega), z 2 (by omega) (by omega)]
      by_cases g : i = q 3
      · subst g
        rw [zu_n (by omega), zu_n (by omega), zu_n (by omega), zu_n (by omega), v0, v1, v2, v3]
        exact ⟨ha, hv, hb, by omega⟩
      · rw [z (10 + 4 * i) (by omega) (by omega), z (11 + 4 * i) (by omega) (by omega), z (12 + 4 * i) (by omega) (by omega), z (13 + 4 * i) (by omega) (by omega)]
        exact oh i (by omega)
    · rw [z 4 (by omega) (by omega)] at hi
      rw [z 0 (by omega) (by omega), z 1 (by omega) (by omega), z (34 + i) (by omega) (by omega)]; exact od i hi
    · rw [z 2 (by omega) (by omega)] at hi
      rw [z (400 + i) (by omega) (by omega)]; exact on i hi
    · rw [tp_or]; exact ⟨fun _ => Or.inr (Or.inr (Or.inl (by rw [zu_s]; omega))), fun _ => Or.inr d0⟩
    · rw [tp_or, b1]; exact ⟨fun x => x.resolve_right d1', Or.inl⟩
    · rw [tp_or, b2]; exact ⟨fun x => x.resolve_right d2', Or.inl⟩
end
