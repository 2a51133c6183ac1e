/-! the square's text: a hearer, from the likes on -/
theorem bc_0 : ∀ k, bc 0 k = 0 := by
  intro k
  induction k with
  | zero => rfl
  | succ k ih =>
    show bc 0 k + (if Nat.testBit 0 k = true then 1 else 0) = 0
    rw [ih, Nat.zero_testBit, if_neg (by decide)]
theorem zu_comm (g : Nat → Nat) {k j : Nat} (h : k ≠ j) (a b : Nat) : zu (zu g k a) j b = zu (zu g j b) k a := by
  funext i
  by_cases e : i = k
  · subst e; rw [zu_n h, zu_s, zu_s]
  · by_cases e2 : i = j
    · subst e2; rw [zu_s, zu_n e, zu_s]
    · rw [zu_n e2, zu_n e, zu_n e, zu_n e2]
section
variable {y : Nat → Nat} {n lb : Nat} {q f g q1 f1 g1 : Nat → Nat} {tp p tp1 p1 : Nat} {I I1 I2 : am_TI} {L L1 L2 : am_TL} {R : am_TR} {U U1 : Nat → sT} {M M1 FM : sT} {t e : Nat}
theorem SP.hLikes (hn : n ≤ 900) (hp : p ≤ n) (hg : sG q f tp) (h3 : q 3 < 6) {a b : Nat} (ha : a < q 0 * q 1) (hb : b ≤ 99) (hlb : lb ≤ p) : SP y n lb q f (zu (zu q (10 + 4 * q 3) a) (12 + 4 * q 3) b) (tp ||| 17) p (fun t I L R Q => wb_SquareReader_readHearer_75 L R 8 2 t (fun r I1 => Q r I1 L) I (nI a) (nI b)) (fun I L R Q => vp_in (nI (1624 + (10 + 4 * q 3)) + 1) 2258 ∧ ∀ I5, I5 = am_u2 I 104 (Int32.toNatClampNeg (nI (1624 + (10 + 4 * q 3)) + 1)) 0 → vp_in (nI (1624 + (10 + 4 * q 3)) + 3) 2258 ∧ ∀ I6, I6 = am_u2 I5 104 (Int32.toNatClampNeg (nI (1624 + (10 + 4 * q 3)) + 3)) 0 → wp_M_isThere I6 L R 103 9 (fun r6 I7 => ∃ z, wl_M_aHearer_99 L R 103 (fun r I8 => wb_M_squarePart_170 R 103 Q I8 L r) z I7 (nI (1624 + (10 + 4 * q 3))) r6)) := by
  have hg' := hg
  obtain ⟨ok, ⟨f0, f1, f2⟩, h6, h7, t64, b0, b1, b2⟩ := hg'
  have o := ok.1.2.2.1
  have pg : p ≤ tN y n p := tN_ge
  have b1n : ¬ nI b = -1 := fun x => (zn_M (n := b) (by omega)).1 x
  have x1 : nI (1624 + (10 + 4 * q 3)) + 1 = nI (1624 + (11 + 4 * q 3)) := by
    rw [zi_1, nI_add]; congr 1; omega
  have x3 : nI (1624 + (10 + 4 * q 3)) + 3 = nI (1624 + (13 + 4 * q 3)) := by
    rw [show (3 : Int32) = nI 3 from rfl, nI_add]; congr 1; omega
  refine SP.pre (q1 := q) (f1 := f) (p1 := p) (g1 := hq q a b 0) (tp1 := tp ||| 17) (U1 := fun t I L R Q => (I 2 9 = 8 → wp_SquareReader_readLikes I L R 8 2 t (fun r5 I6 => wb_SquareReader_readHearer_102 L R 8 2 t (fun r I1 => Q r I1 L) I6 (nI a) (nI b) r5)) ∧ (¬ I 2 9 = 8 → wb_SquareReader_readHearer_102 L R 8 2 t (fun r I1 => Q r I1 L) I (nI a) (nI b) 0)) (M1 := fun I L R Q => wp_M_isThere I L R 103 9 (fun r6 I7 => ∃ z, wl_M_aHearer_99 L R 103 (fun r I8 => wb_M_squarePart_170 R 103 Q I8 L r) z I7 (nI (1624 + (10 + 4 * q 3))) r6)) ?_ ?_ ?_
  · intro t e I L R Q hc s K
    exact ⟨fun x => absurd x b1n, fun _ => K I L s ku.refl⟩
  · intro I L R Q s K
    have c1 := s.put (k := 11 + 4 * q 3) (by omega) (by omega) (by omega) 0
    have c2 := c1.1.put (k := 13 + 4 * q 3) (by omega) (by omega) (by omega) 0
    rw [zu_comm _ (show 11 + 4 * q 3 ≠ 13 + 4 * q 3 by omega)] at c2
    refine ⟨by rw [x1]; exact (zn_in (by omega)).2 (by omega), fun I5 h5 => ⟨by rw [x3]; exact (zn_in (by omega)).2 (by omega), fun I6 h6' => ?_⟩⟩
    rw [x1, nI_clamp (by omega)] at h5
    rw [x3, nI_clamp (by omega)] at h6'
    rw [h6', h5]
    exact K _ L c2.1 (c1.2.trans c2.2)
  have ok0 := hq_ok ok h3 a b 0
  have e3 : hq q a b 0 3 = q 3 := hq_n (by omega)
  have e2 : hq q a b 0 2 = q 2 := hq_n (by omega)
  have ez : ∀ v, zu (hq q a b 0) (11 + 4 * hq q a b 0 3) v = hq q a b v := fun v => by
    rw [e3]
    unfold hq
    rw [zu_zu]
  have t9 : rwT.getD 8 25 = 9 := rfl
  have v1 : 0 < 2 ^ q 2 := Nat.pow_pos (by omega)
  by_cases w : tI y n p = 8
  rotate_left
  · refine SP.pre (q1 := q) (f1 := f) (p1 := p) (g1 := hq q a b 0) (tp1 := tp ||| 17) ?_ ?_ (SP.hEnd (lb := lb) hn hp hg h3 ha hb v1 (by omega))
    · intro t e I L R Q hc s K
      have nw : ¬ I 2 9 = 8 := by
        rw [s.1.w]
        by_cases c : tI y n p < 25
        · rw [if_pos c, show (8 : Int32) = nI 8 from rfl, nI_eq (by omega) (by omega)]; exact w
        · rw [if_neg c]; decide
      exact ⟨fun x => absurd x nw, fun _ => K I L s ku.refl⟩
    · intro I L R Q s K
      refine sm_inW hn s.1 ?_
      have nw : ¬ (if tI y n p < 25 then nI (rwT.getD (tI y n p) 25) else nM) = 9 := by
        by_cases c : tI y n p < 25
        · rw [if_pos c, show (9 : Int32) = nI (rwT.getD 8 25) from rfl, nI_eq (by have := rwT_lt _ c; omega) (by decide), rwT_inj _ (by omega) _ (by omega)]; exact w
        · rw [if_neg c]; decide
      refine ⟨fun x => absurd x nw, fun _ => ⟨1, ?_⟩⟩
      rw [wl_M_aHearer_99]
      exact ⟨fun _ => K I L s km.refl, fun x => (by cases x)⟩
  have pn2 : tN y n p ≤ n := tN_le hp
  have iU : ∀ {t e : Nat} {I : am_TI} {L : am_TL}, sU y n q f p t e I L → I 2 9 = 8 := fun s => by rw [s.1.w, w, if_pos (by omega)]; rfl
  have iM : ∀ {I : am_TI} {L : am_TL} {R : am_TR} {Q : Bool → am_TI → Prop}, sM y n (hq q a b 0) (tp ||| 17) p I L → (∀ I1, sM y n (hq q a b 0) (tp ||| 17) (tN y n p) I1 L → km I L I1 L → Q true I1) → wp_M_isThere I L R 103 9 Q := fun s K => by
    refine sm_inW hn s.1 ?_
    rw [w, if_pos (by omega), t9]
    exact ⟨fun _ => sm_ahead hn s.1 (fun I1 h1 f1 => K I1 (s.tok h1 f1).1 (s.tok h1 f1).2), fun x => absurd rfl x⟩
  rcases lk_all (y := y) hn ok ok0 e2 (fun j hj => hq_n (by omega)) (by omega) (n - tN y n p) (tN y n p) 0 (Nat.le_refl _) pn2 v1 with ⟨fv, pl, hf, ua, ma⟩ | ⟨v', p', ⟨g1, g2, g3⟩, ua, ma⟩
  · rw [ez 0, e3] at ma
    rw [bc_0] at ua
    refine Or.inl ⟨fv, pl, hf, ?_, ?_⟩
    · intro t e I L R Q hc s K
      refine ⟨fun _ => su_adv s.1 (fun I1 h1 f1 => ⟨_, ua t e f I1 L R _ hc (s.tok hc h1 f1).1 (fun I2 z1 z2 z3 => ⟨fun _ => K I2 L z1 z2 (fun r k w1 w2 w3 => (z3 r k w1 w2 w3).trans ((s.tok hc h1 f1).2.2.2.1 r k w1 w2 w3)) (fun _ _ => rfl), fun x => absurd rfl x⟩)⟩), fun x => absurd (iU s) x⟩
    · intro I L R Q s K
      exact iM s (fun I1 s1 k1 => ⟨_, ma _ I1 L R _ s1 (fun I2 z1 z2 z3 => f170 _ _ _ _ (K I2 L z1 z2 (fun r k w1 w2 => (z3 r k w1 w2).trans (k1.1 r k (by omega) w2)) (fun _ _ _ => rfl)))⟩)
  · rw [ez 0, ez v', e3] at ma
    rw [bc_0] at ua
    refine SP.pre (q1 := q) (f1 := f) (p1 := p') (g1 := hq q a b v') (tp1 := tp ||| 17) ?_ ?_ (SP.hEnd (lb := lb) hn g3 hg h3 ha hb g1 (by have : p' ≤ tN y n p' := tN_ge; omega))
    · intro t e I L R Q hc s K
      exact ⟨fun _ => su_adv s.1 (fun I1 h1 f1 => ⟨_, ua t e f I1 L R _ hc (s.tok hc h1 f1).1 (fun I2 s2 k2 => K I2 L s2 ((s.tok hc h1 f1).2.trans k2))⟩), fun x => absurd (iU s) x⟩
    · intro I L R Q s K
      exact iM s (fun I1 s1 k1 => ⟨_, ma _ I1 L R _ s1 (fun I2 s2 k2 => K I2 L s2 (k1.trans k2))⟩)
end
