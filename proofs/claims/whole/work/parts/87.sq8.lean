/-! the square's text: a hearer -/
section
variable {y : Nat → Nat} {n lb : Nat} {q f g q1 f1 g1 : Nat → Nat} {tp p tp1 p1 : Nat} {I I1 I2 : am_TI} {L L1 L2 : am_TL} {R : am_TR} {U U1 : Nat → sT} {M M1 FM : sT} {t e : Nat}
/-- the coins, and on -/
theorem SP.hCoins (hn : n ≤ 900) (hp : p ≤ n) (hg : sG q f tp) (h3 : q 3 < 6) {a : Nat} (ha : a < q 0 * q 1) (hlb : lb ≤ p) : SP y n lb q f (zu q (10 + 4 * q 3) a) (tp ||| 17) p (fun t I3 L R Q => (I3 2 9 = 7 → wp_Tokens_advance I3 L R 2 (fun I7 => wp_Tokens_takeNumber I7 L R 2 (nI 0) (nI 99) (fun r6 I8 => wb_SquareReader_readHearer_75 L R 8 2 t (fun r I1 => Q r I1 L) I8 (nI a) r6))) ∧ (¬ I3 2 9 = 7 → wb_SquareReader_readHearer_75 L R 8 2 t (fun r I1 => Q r I1 L) I3 (nI a) (nI 3))) (fun I3 L R Q => wp_M_perhaps I3 L R 103 8 (nI (1624 + (12 + 4 * q 3))) (nI 0) (nI 99) (nI 3) (fun r5 I => (r5 = false → wb_M_squarePart_170 R 103 Q I L false) ∧ (r5 = true → vp_in (nI (1624 + (10 + 4 * q 3)) + 1) 2258 ∧ ∀ I5, I5 = am_u2 I 104 (Int32.toNatClampNeg (nI (1624 + (10 + 4 * q 3)) + 1)) 0 → vp_in (nI (1624 + (10 + 4 * q 3)) + 3) 2258 ∧ ∀ I6, I6 = am_u2 I5 104 (Int32.toNatClampNeg (nI (1624 + (10 + 4 * q 3)) + 3)) 0 → wp_M_isThere I6 L R 103 9 (fun r6 I7 => ∃ z, wl_M_aHearer_99 L R 103 (fun r I8 => wb_M_squarePart_170 R 103 Q I8 L r) z I7 (nI (1624 + (10 + 4 * q 3))) r6)))) := by
  have pg : p ≤ tN y n p := tN_ge
  have pg2 : tN y n p ≤ tN y n (tN y n p) := tN_ge
  have pn2 : tN y n p ≤ n := tN_le hp
  have pn3 : tN y n (tN y n p) ≤ n := tN_le pn2
  have t8 : rwT.getD 7 25 = 8 := rfl
  by_cases w : tI y n p = 7
  rotate_left
  · refine SP.pre (q1 := q) (f1 := f) (p1 := p) (g1 := zu (zu q (10 + 4 * q 3) a) (12 + 4 * q 3) 3) (tp1 := tp ||| 17) ?_ ?_ (SP.hLikes (lb := lb) hn hp hg h3 ha (b := 3) (by omega) hlb)
    · intro t e I L R Q hc s K
      have nw : ¬ I 2 9 = 7 := by
        rw [s.1.w]
        by_cases c : tI y n p < 25
        · rw [if_pos c, show (7 : Int32) = nI 7 from rfl, nI_eq (by omega) (by omega)]; exact w
        · rw [if_neg c]; decide
      exact ⟨fun x => absurd x nw, fun _ => K I L s ku.refl⟩
    · intro I L R Q s K
      refine sm_inW hn s.1 ?_
      have nw : ¬ (if tI y n p < 25 then nI (rwT.getD (tI y n p) 25) else nM) = 8 := by
        by_cases c : tI y n p < 25
        · rw [if_pos c, show (8 : Int32) = nI (rwT.getD 7 25) from rfl, nI_eq (by have := rwT_lt _ c; omega) (by decide), rwT_inj _ (by omega) _ (by omega)]; exact w
        · rw [if_neg c]; decide
      refine ⟨fun x => absurd x nw, fun _ => ⟨fun _ => ⟨(zn_in (by omega)).2 (by omega), fun I2 h2 => ⟨fun x => (by cases x), fun _ => ?_⟩⟩, fun x => (by cases x)⟩⟩
      rw [nI_clamp (by omega)] at h2
      have b := s.put (k := 12 + 4 * q 3) (by omega) (by omega) (by omega) 3
      rw [h2]
      exact K _ L b.1 b.2
  refine SP.pre (q1 := q) (f1 := f) (p1 := tN y n p) (g1 := zu q (10 + 4 * q 3) a) (tp1 := tp ||| 17) (U1 := fun t I7 L R Q => wp_Tokens_takeNumber I7 L R 2 (nI 0) (nI 99) (fun r6 I8 => wb_SquareReader_readHearer_75 L R 8 2 t (fun r I1 => Q r I1 L) I8 (nI a) r6)) (M1 := fun I3 L R Q => wp_M_number I3 L R 103 (nI (1624 + (12 + 4 * q 3))) (nI 0) (nI 99) (fun r5 I => (r5 = false → wb_M_squarePart_170 R 103 Q I L false) ∧ (r5 = true → vp_in (nI (1624 + (10 + 4 * q 3)) + 1) 2258 ∧ ∀ I5, I5 = am_u2 I 104 (Int32.toNatClampNeg (nI (1624 + (10 + 4 * q 3)) + 1)) 0 → vp_in (nI (1624 + (10 + 4 * q 3)) + 3) 2258 ∧ ∀ I6, I6 = am_u2 I5 104 (Int32.toNatClampNeg (nI (1624 + (10 + 4 * q 3)) + 3)) 0 → wp_M_isThere I6 L R 103 9 (fun r6 I7 => ∃ z, wl_M_aHearer_99 L R 103 (fun r I8 => wb_M_squarePart_170 R 103 Q I8 L r) z I7 (nI (1624 + (10 + 4 * q 3))) r6)))) ?_ ?_ ?_
  · intro t e I L R Q hc s K
    have iw : I 2 9 = 7 := by rw [s.1.w, w, if_pos (by omega)]; rfl
    exact ⟨fun _ => su_adv s.1 (fun I1 h1 f1 => K I1 L (s.tok hc h1 f1).1 (s.tok hc h1 f1).2), fun x => absurd iw x⟩
  · intro I L R Q s K
    refine sm_inW hn s.1 ?_
    rw [w, if_pos (by omega), t8]
    exact ⟨fun _ => sm_ahead hn s.1 (fun I1 h1 f1 => ⟨fun x => (by cases x), fun _ => K I1 L (s.tok h1 f1).1 (s.tok h1 f1).2⟩), fun x => absurd rfl x⟩
  have e99 : nI 99 = nI 100 - nI 1 := by decide
  by_cases c : tK y n (tN y n p) = 4 ∧ 0 ≤ tW y n (tN y n p) ∧ tW y n (tN y n p) < 100
  · have b4 := tW_4 c.1
    refine SP.pre (q1 := q) (f1 := f) (p1 := tN y n (tN y n p)) (g1 := zu (zu q (10 + 4 * q 3) a) (12 + 4 * q 3) (tW y n (tN y n p))) (tp1 := tp ||| 17) ?_ ?_ (SP.hLikes (lb := lb) hn pn3 hg h3 ha (b := tW y n (tN y n p)) (by omega) (by omega))
    · intro t e I L R Q hc s K
      exact su_num s.1 (by omega) (by omega) e99 (fun _ _ _ I1 h1 f1 => K I1 L (s.tok hc h1 f1).1 (s.tok hc h1 f1).2) (fun x => absurd c x)
    · intro I L R Q s K
      refine sm_num hn s.1 (by omega) (by omega) (by omega) e99 (fun _ _ _ I1 h1 f1 => ⟨fun x => (by cases x), fun _ => ?_⟩) (fun x => absurd c x)
      have b := s.put (k := 12 + 4 * q 3) (by omega) (by omega) (by omega) (tW y n (tN y n p))
      exact K I1 L (b.1.tok h1 f1).1 (b.2.trans (b.1.tok h1 f1).2)
  · refine SP.fault (v := ff y n (tN y n p) (if tK y n (tN y n p) = 4 then 4 else 2)) (ff_b (by split <;> omega)) pn2 ?_ ?_
    · intro t e I L R Q hc s K
      exact su_num s.1 (by omega) (by omega) e99 (fun z1 z2 z3 => absurd ⟨z1, z2, z3⟩ c) (fun _ I1 u => ⟨fun _ => K I1 u, fun x => absurd rfl x⟩)
    · intro I L R Q s K
      exact sm_num hn s.1 (by omega) (by omega) (by omega) e99 (fun z1 z2 z3 => absurd ⟨z1, z2, z3⟩ c) (fun _ I1 u => ⟨fun _ => f170 _ _ _ _ (K I1 u), fun x => (by cases x)⟩)
end
