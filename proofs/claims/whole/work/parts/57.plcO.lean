/-! explain, placings, oddsThat, aim: both answer alike -/
section
variable {q : Nat → Nat} {c d : Nat} {I I1 I2 : am_TI} {L L1 L2 : am_TL} {R : am_TR}
theorem sm_laysP (h : sq_M q 0 I L) (ok : sq_Ok q) {dg k : Nat} (hd : dg < 16) (hk : k ≤ 4) {Q : am_TI → Prop} (kk : ∀ I1, pe q (pw_all q dg k) (pw_wo q dg k) (pw_mis q dg k) I1 → fz I I1 → Q I1) : wp_M_laysPlacings I L R 103 (nI dg) (nI k) Q := by
  have o := ok.cells
  intro I0 hI0
  have f0 : fz I I0 := fun r j g _ _ _ _ => by rw [hI0]; unfold am_u2; rw [if_neg g]
  have e0 : I0 103 33 = nI 0 := by rw [hI0, am_u2_at]; rfl
  clear hI0
  have fin : ∀ I4 A V W, pe q A V W I4 → fz I I4 → (k = 0 → A = pw_all q dg k ∧ (∀ y, V y = pw_wo q dg k y) ∧ (∀ y, W y = pw_mis q dg k y)) → (¬ k = 0 → A = 0 ∧ (∀ y, V y = 0) ∧ (∀ y, W y = 0)) → wb_M_laysPlacings_52 L R 103 (nI dg) (nI k) Q I4 false := by
    intro I4 A V W p4 f4 k0 k1
    intro I5 h5 I6 h6
    have f6 : fz I I6 := fun r j g1 g2 g3 g4 g5 => by rw [h6, h5, am_u2o g3, am_u2o g2]; exact f4 r j g1 g2 g3 g4 g5
    have p6 : pe q A V W I6 := by
      unfold pe
      rw [h6, h5, am_u2o (by omega), am_u2o (by omega)]
      refine ⟨p4.1, fun y hy => ?_⟩
      rw [am_u2o (by omega), am_u2o (by omega), am_u2o (by omega), am_u2o (by omega)]; exact p4.2 y hy
    by_cases gk : k = 0
    · obtain ⟨a, b, e⟩ := k0 gk
      refine ⟨1, ?_⟩
      rw [wl_M_laysPlacings_66, gk]
      refine ⟨fun g => absurd g (by decide), fun _ => ⟨fun _ => kk I6 ?_ f6, fun g => absurd (by decide) g⟩⟩
      have eV : V = pw_wo q dg k := funext b
      have eW : W = pw_mis q dg k := funext e
      rw [a, eV, eW] at p6; exact p6
    · obtain ⟨a, b, e⟩ := k1 gk
      have eV : V = fun _ => 0 := funext b
      have eW : W = fun _ => 0 := funext e
      subst a eV eW
      have e1 : I6 114 0 = nI 0 - nI 1 := by rw [h6, am_u2o (by omega), h5, am_u2_at]; rfl
      have e2 : I6 115 0 = nI 0 := by rw [h6, am_u2_at]; rfl
      refine ⟨_, sm_enum ok hd hk k (by omega) (Nat.le_refl _) (q 0 * q 1) I6 0 0 (fun _ => 0) 0 _ _ 0 (by omega) (by omega) (by omega) (f6.sq h ok) e1 e2 (fun i hi => absurd hi (by omega)) (fun i j a b => absurd b (by omega)) p6 1 (fun I' _ p' f' => ?_)⟩
      rw [wl_M_laysPlacings_66]
      refine ⟨fun _ => kk I' ?_ (f6.trans f'), fun g => absurd (by decide) g⟩
      simp only [pa, Nat.zero_add, Nat.one_mul] at p'
      exact p'
  refine (zl_up (P := fun f m => ∀ I1, I1 103 33 = nI 0 → (∀ y, y < m → I1 116 y = nI 0 ∧ I1 117 y = nI 0) → fz I I1 → wl_M_laysPlacings_10 L R 103 (nI dg) (nI k) Q f I1 false (nI m)) 25 (fun f I1 a b g => ?_) (fun f m hm ih I1 a b g => ?_) 0 (by omega)).elim fun z hz => ⟨z, hz I0 e0 (fun y hy => absurd hy (by omega)) f0⟩
  · have p1 : pe q 0 (fun _ => 0) (fun _ => 0) I1 := ⟨a, fun y hy => b y (by omega)⟩
    rw [wl_M_laysPlacings_10]
    simp (disch := omega) only [zi_0, zi_1, zi_2, zi_3, zi_4, zi_5, zi_6, zi_7, zi_8, zi_9, zi_10, zi_11, zi_12, zi_13, zi_14, zi_15, zi_16, zi_17, zi_18, zi_19, zi_20, zi_21, zi_22, zi_23, zi_24, zi_25, zi_26, zi_30, zi_31, zi_32, zi_34, zi_38, zi_59, zi_60, zi_61, zi_63, zi_64, zi_80, zi_96, zi_97, zi_99, zi_100, zi_122, zi_255, zi_256, zi_300, zi_398, zi_406, zi_900, zi_1000, zi_1024, zi_1624, zi_1662, zi_2030, zi_2031, zi_2068, zi_2258, zi_9999, zi_48, zi_57, zi_65536, zi_3257, zi_11483, zi_1000000, zi_729, zi_81, zi_m1, nI_add, pk_mul, nI_ltI, nI_leI, nI_eq, nI_clamp, zn_in, zn_sub1lt, zn_M, zn_Ml, zn_Mg, zn_Mle, zn_Mge, zn_sub, Nat.reduceAdd, Nat.reduceMul]
    refine ⟨fun _ => ⟨fun gk => ⟨fun gd => ?_, fun gd => ?_⟩, fun gk => ?_⟩, fun g => absurd (Nat.le_refl _) g⟩
    · subst gk gd
      refine sm_counts (g.sq h ok) ok (k := 0) (by omega) (x := fun _ => 0) (fun i hi => absurd hi (by omega)) (fun i hi => absurd hi (by omega)) (fun I8 c1 c2 c3 => ?_)
      refine fin I8 1 (fun _ => 1) (fun _ => 1) ⟨?_, fun y hy => ?_⟩ (fun r j g1 g2 g3 g4 g5 => ?_) (fun _ => ⟨?_, fun y => ?_, fun y => ?_⟩) (fun g => absurd rfl g)
      · rw [c1, a]; rfl
      · obtain ⟨d1, d2⟩ := c2 y hy
        rw [d1, d2, (b y (by omega)).1, (b y (by omega)).2]; exact ⟨rfl, rfl⟩
      · rw [c3 r j g1 g4 g5]; exact g r j g1 g2 g3 g4 g5
      · rw [pw_all, wd_k0, if_pos rfl]
      · rw [pw_wo, wd_k0, if_pos rfl]
      · rw [pw_mis, wd_k0, if_pos rfl]
    · subst gk
      refine fin I1 0 (fun _ => 0) (fun _ => 0) p1 g (fun _ => ⟨?_, fun y => ?_, fun y => ?_⟩) (fun g => absurd rfl g)
      · rw [pw_all, wd_k0, if_neg (fun e => gd e.symm)]
      · rw [pw_wo, wd_k0, if_neg (fun e => gd e.symm)]
      · rw [pw_mis, wd_k0, if_neg (fun e => gd e.symm)]
    · exact fin I1 0 (fun _ => 0) (fun _ => 0) p1 g (fun e => absurd e gk) (fun _ => ⟨rfl, fun _ => rfl, fun _ => rfl⟩)
  · rw [wl_M_laysPlacings_10]
    simp (disch := omega) only [zi_0, zi_1, zi_2, zi_3, zi_4, zi_5, zi_6, zi_7, zi_8, zi_9, zi_10, zi_11, zi_12, zi_13, zi_14, zi_15, zi_16, zi_17, zi_18, zi_19, zi_20, zi_21, zi_22, zi_23, zi_24, zi_25, zi_26, zi_30, zi_31, zi_32, zi_34, zi_38, zi_59, zi_60, zi_61, zi_63, zi_64, zi_80, zi_96, zi_97, zi_99, zi_100, zi_122, zi_255, zi_256, zi_300, zi_398, zi_406, zi_900, zi_1000, zi_1024, zi_1624, zi_1662, zi_2030, zi_2031, zi_2068, zi_2258, zi_9999, zi_48, zi_57, zi_65536, zi_3257, zi_11483, zi_1000000, zi_729, zi_81, zi_m1, nI_add, pk_mul, nI_ltI, nI_leI, nI_eq, nI_clamp, zn_in, zn_sub1lt, zn_M, zn_Ml, zn_Mg, zn_Mle, zn_Mge, zn_sub, Nat.reduceAdd, Nat.reduceMul, forall_eq, true_imp_iff, false_imp_iff, and_true, true_and, not_true_eq_false, not_false_eq_true, reduceCtorEq, imp_self, eq_self, false_and, and_false, implies_true]
    refine ⟨fun g => absurd g (by omega), fun _ => ⟨by omega, by omega, ih _ ?_ (fun y hy => ?_) (fun r j g1 g2 g3 g4 g5 => ?_)⟩⟩
    · rw [am_u2o (by omega), am_u2o (by omega)]; exact a
    · by_cases e : y = m
      · subst e; rw [am_u2o (by omega), am_u2_at, am_u2_at]; exact ⟨rfl, rfl⟩
      · rw [am_u2o (by omega), am_u2_ne _ _ _ _ e, am_u2_ne _ _ _ _ e, am_u2o (by omega)]; exact b y (by omega)
    · rw [am_u2o g5, am_u2o g4]; exact g r j g1 g2 g3 g4 g5
theorem fz.toM (f : fz I I1) : fr_M I I1 := fun r k g => f r k (by omega) (by omega) (by omega) (by omega) (by omega)
theorem pl_frU (hcd : sq_cd c d) (h : sq_U q c d I L) (f : ∀ r, r ≠ 21 → r ≠ 22 → r ≠ 23 → I1 r = I r) : sq_U q c d I1 L ∧ fr_U d I I1 := by
  obtain ⟨hc, hd⟩ := hcd
  refine ⟨h.keep (fun r hr => f r (by omega) (by omega) (by omega)) rfl, fun r k g => ?_⟩
  rw [f r (by omega) (by omega) (by omega)]
/-! the reference's table of ways -/
theorem or_blk : ∀ b, b < 4 → ∀ E, E < 16 → ∀ u, u < 16 → (16 * b + E) ||| u = 16 * b + (E ||| u) := by decide +kernel
theorem zsum_app (f : Nat → Nat) (a : Nat) : ∀ b, zsum f (a + b) = zsum f a + zsum (fun i => f (a + i)) b
  | 0 => rfl
  | b + 1 => by rw [← Nat.add_assoc, zsum, zsum_app f a b, zsum, Nat.add_assoc]
def wy (u : Nat → Nat) (c j : Nat) : Nat := wb u c (j / 16) (j % 16)
theorem wy_s (u : Nat → Nat) (hu : ∀ c, u c < 16) (c : Nat) {j : Nat} (hj : j < 80) : wy u c j + zsum (fun e => if 16 + (e ||| u c) = j then wy u c e else 0) 64 = wy u (c + 1) j := by
  have blk : ∀ b, b < 4 → zsum (fun E => if 16 + ((16 * b + E) ||| u c) = j then wy u c (16 * b + E) else 0) 16 = if j / 16 = b + 1 then zsum (fun E => if E ||| u c = j % 16 then wb u c b E else 0) 16 else 0 := by
    intro b hb
    by_cases g : j / 16 = b + 1
    · rw [if_pos g]
      apply zsum_cong
      intro E hE
      have ol := or16 hE (hu c)
      try dsimp only
      rw [or_blk b hb E hE _ (hu c), wy, show (16 * b + E) / 16 = b by omega, show (16 * b + E) % 16 = E by omega]
      by_cases g2 : E ||| u c = j % 16
      · rw [if_pos (by omega), if_pos g2]
      · rw [if_neg (by omega), if_neg g2]
    · rw [if_neg g]
      apply zsum_0
      intro E hE
      have ol := or16 hE (hu c)
      try dsimp only
      rw [or_blk b hb E hE _ (hu c), if_neg (by omega)]
  have e64 : zsum (fun e => if 16 + (e ||| u c) = j then wy u c e else 0) 64 = zsum (fun E => if 16 + ((16 * 0 + E) ||| u c) = j then wy u c (16 * 0 + E) else 0) 16 + zsum (fun E => if 16 + ((16 * 1 + E) ||| u c) = j then wy u c (16 * 1 + E) else 0) 16 + zsum (fun E => if 16 + ((16 * 2 + E) ||| u c) = j then wy u c (16 * 2 + E) else 0) 16 + zsum (fun E => if 16 + ((16 * 3 + E) ||| u c) = j then wy u c (16 * 3 + E) else 0) 16 := by
    have a1 := zsum_app (fun e => if 16 + (e ||| u c) = j then wy u c e else 0) 48 16
    have a2 := zsum_app (fun e => if 16 + (e ||| u c) = j then wy u c e else 0) 32 16
    have a3 := zsum_app (fun e => if 16 + (e ||| u c) = j then wy u c e else 0) 16 16
    have a4 := zsum_app (fun e => if 16 + (e ||| u c) = j then wy u c e else 0) 0 16
    simp only [Nat.reduceAdd, Nat.reduceMul] at a1 a2 a3 a4 ⊢
    rw [a1, a2, a3, a4]
    rw [show zsum (fun e => if 16 + (e ||| u c) = j then wy u c e else 0) 0 = 0 from rfl, Nat.zero_add]
  rw [e64, blk 0 (by omega), blk 1 (by omega), blk 2 (by omega), blk 3 (by omega)]
  show wb u c (j / 16) (j % 16) + _ = wb u (c + 1) (j / 16) (j % 16)
  rw [wb]
  have k5 : j / 16 < 5 := by omega
  generalize j / 16 = k at *
  generalize j % 16 = D
  have : k = 0 ∨ k = 1 ∨ k = 2 ∨ k = 3 ∨ k = 4 := by omega
  rcases this with rfl | rfl | rfl | rfl | rfl <;> simp
theorem sm_placingsOf (h : sq_M q 0 I L) (ok : sq_Ok q) {dg k : Nat} (hd : dg < 16) (hk : k ≤ 4) {Q : Int32 → am_TI → Prop} (kk : ∀ I1, (∀ r, r ≠ 118 → r ≠ 119 → I1 r = I r) → Q (nI (pw_all q dg k)) I1) : wp_M_placingsOf I L R 103 (nI dg) (nI k) Q := by
  have o := ok.cells
  have hu : ∀ x, sq_dogsBy q x < 16 := fun x => sq_dogsBy_lt ok x
  have ea : pw_all q dg k = wy (sq_dogsBy q) (q 0 * q 1) (16 * k + dg) := by
    rw [wy, show (16 * k + dg) / 16 = k by omega, show (16 * k + dg) % 16 = dg by omega, wb_wd hu hd]; rfl
  rw [ea] at kk
  refine (zl_up (P := fun f m => ∀ I1, (∀ j, j < m → I1 118 j = nI (wy (sq_dogsBy q) 0 j)) → (∀ r, r ≠ 118 → r ≠ 119 → I1 r = I r) → wl_M_placingsOf_2 L R 103 (nI dg) (nI k) Q f I1 (nI m)) 80 (fun f I1 a e => ?_) (fun f m hm ih I1 a e => ?_) 0 (by omega)).elim fun z hz => ⟨z, hz I (fun j hj => absurd hj (by omega)) (fun _ _ _ => rfl)⟩
  · rw [wl_M_placingsOf_2]
    simp (disch := omega) only [zi_0, zi_1, zi_2, zi_3, zi_4, zi_5, zi_6, zi_7, zi_8, zi_9, zi_10, zi_11, zi_12, zi_13, zi_14, zi_15, zi_16, zi_17, zi_18, zi_19, zi_20, zi_21, zi_22, zi_23, zi_24, zi_25, zi_26, zi_30, zi_31, zi_32, zi_34, zi_38, zi_59, zi_60, zi_61, zi_63, zi_64, zi_80, zi_96, zi_97, zi_99, zi_100, zi_122, zi_255, zi_256, zi_300, zi_398, zi_406, zi_900, zi_1000, zi_1024, zi_1624, zi_1662, zi_2030, zi_2031, zi_2068, zi_2258, zi_9999, zi_48, zi_57, zi_65536, zi_3257, zi_11483, zi_1000000, zi_729, zi_81, zi_m1, nI_add, pk_mul, nI_ltI, nI_leI, nI_eq, nI_clamp, zn_in, zn_sub1lt, zn_M, zn_Ml, zn_Mg, zn_Mle, zn_Mge, zn_sub, Nat.reduceAdd, Nat.reduceMul]
    refine ⟨fun _ => ?_, fun g => absurd (Nat.le_refl _) g⟩
    refine (zl_up (P := fun f x => ∀ I2, (∀ j, j < 80 → I2 118 j = nI (wy (sq_dogsBy q) x j)) → (∀ r, r ≠ 118 → r ≠ 119 → I2 r = I r) → wl_M_placingsOf_31 L R 103 (nI dg) (nI k) Q f I2 (nI x)) (q 0 * q 1) (fun f I2 a2 e2 => ?_) (fun f x hx ih I2 a2 e2 => ?_) 0 (by omega)).elim fun z hz => ⟨z, hz I1 a e⟩
    · have h2 : sq_M q 0 I2 L := h.keep (fun k _ _ => by rw [e2 104 (by omega) (by omega)]) rfl ok.2.2.2.2.1
      rw [wl_M_placingsOf_31]
      refine sm_cells h2 ?_
      simp (disch := omega) only [a2 (16 * k + dg) (by omega), zi_0, zi_1, zi_2, zi_3, zi_4, zi_5, zi_6, zi_7, zi_8, zi_9, zi_10, zi_11, zi_12, zi_13, zi_14, zi_15, zi_16, zi_17, zi_18, zi_19, zi_20, zi_21, zi_22, zi_23, zi_24, zi_25, zi_26, zi_30, zi_31, zi_32, zi_34, zi_38, zi_59, zi_60, zi_61, zi_63, zi_64, zi_80, zi_96, zi_97, zi_99, zi_100, zi_122, zi_255, zi_256, zi_300, zi_398, zi_406, zi_900, zi_1000, zi_1024, zi_1624, zi_1662, zi_2030, zi_2031, zi_2068, zi_2258, zi_9999, zi_48, zi_57, zi_65536, zi_3257, zi_11483, zi_1000000, zi_729, zi_81, zi_m1, nI_add, pk_mul, nI_ltI, nI_leI, nI_eq, nI_clamp, zn_in, zn_sub1lt, zn_M, zn_Ml, zn_Mg, zn_Mle, zn_Mge, zn_sub, Nat.reduceAdd, Nat.reduceMul]
      exact ⟨fun _ => ⟨by omega, kk I2 e2⟩, fun g => absurd (Nat.le_refl _) g⟩
    · have h2 : sq_M q 0 I2 L := h.keep (fun k _ _ => by rw [e2 104 (by omega) (by omega)]) rfl ok.2.2.2.2.1
      have ux := hu x
      rw [wl_M_placingsOf_31]
      refine sm_cells h2 ?_
      simp (disch := omega) only [zi_0, zi_1, zi_2, zi_3, zi_4, zi_5, zi_6, zi_7, zi_8, zi_9, zi_10, zi_11, zi_12, zi_13, zi_14, zi_15, zi_16, zi_17, zi_18, zi_19, zi_20, zi_21, zi_22, zi_23, zi_24, zi_25, zi_26, zi_30, zi_31, zi_32, zi_34, zi_38, zi_59, zi_60, zi_61, zi_63, zi_64, zi_80, zi_96, zi_97, zi_99, zi_100, zi_122, zi_255, zi_256, zi_300, zi_398, zi_406, zi_900, zi_1000, zi_1024, zi_1624, zi_1662, zi_2030, zi_2031, zi_2068, zi_2258, zi_9999, zi_48, zi_57, zi_65536, zi_3257, zi_11483, zi_1000000, zi_729, zi_81, zi_m1, nI_add, pk_mul, nI_ltI, nI_leI, nI_eq, nI_clamp, zn_in, zn_sub1lt, zn_M, zn_Ml, zn_Mg, zn_Mle, zn_Mge, zn_sub, Nat.reduceAdd, Nat.reduceMul]
      refine ⟨fun g => absurd g (by omega), fun _ => sm_dogsBy h2 ok (by omega) ?_⟩
      -- copy
      refine (zl_up (P := fun f2 m => ∀ I3, (∀ j, j < m → I3 119 j = nI (wy (sq_dogsBy q) x j)) → (∀ j, j < 80 → I3 118 j = nI (wy (sq_dogsBy q) x j)) → (∀ r, r ≠ 118 → r ≠ 119 → I3 r = I r) → wl_M_placingsOf_50 L R 103 (nI dg) (nI k) Q (wl_M_placingsOf_31 L R 103 (nI dg) (nI k) Q f) f2 I3 (nI x) (nI (sq_dogsBy q x)) (nI m)) 80 (fun f2 I3 b3 a3 e3 => ?_) (fun f2 m hm ih2 I3 b3 a3 e3 => ?_) 0 (by omega)).elim fun z hz => ⟨z, hz I2 (fun j hj => absurd hj (by omega)) a2 e2⟩
      · rw [wl_M_placingsOf_50]
        simp (disch := omega) only [zi_0, zi_1, zi_2, zi_3, zi_4, zi_5, zi_6, zi_7, zi_8, zi_9, zi_10, zi_11, zi_12, zi_13, zi_14, zi_15, zi_16, zi_17, zi_18, zi_19, zi_20, zi_21, zi_22, zi_23, zi_24, zi_25, zi_26, zi_30, zi_31, zi_32, zi_34, zi_38, zi_59, zi_60, zi_61, zi_63, zi_64, zi_80, zi_96, zi_97, zi_99, zi_100, zi_122, zi_255, zi_256, zi_300, zi_398, zi_406, zi_900, zi_1000, zi_1024, zi_1624, zi_1662, zi_2030, zi_2031, zi_2068, zi_2258, zi_9999, zi_48, zi_57, zi_65536, zi_3257, zi_11483, zi_1000000, zi_729, zi_81, zi_m1, nI_add, pk_mul, nI_ltI, nI_leI, nI_eq, nI_clamp, zn_in, zn_sub1lt, zn_M, zn_Ml, zn_Mg, zn_Mle, zn_Mge, zn_sub, Nat.reduceAdd, Nat.reduceMul]
        refine ⟨fun _ => ?_, fun g => absurd (Nat.le_refl _) g⟩
        -- add
        refine (zl_up (P := fun f3 m => ∀ I4, (∀ j, j < 80 → I4 119 j = nI (wy (sq_dogsBy q) x j + zsum (fun e => if 16 + (e ||| sq_dogsBy q x) = j then wy (sq_dogsBy q) x e else 0) m)) → (∀ j, j < 80 → I4 118 j = nI (wy (sq_dogsBy q) x j)) → (∀ r, r ≠ 118 → r ≠ 119 → I4 r = I r) → wl_M_placingsOf_80 L R 103 (nI dg) (nI k) Q (wl_M_placingsOf_31 L R 103 (nI dg) (nI k) Q f) f3 I4 (nI x) (nI (sq_dogsBy q x)) (nI m)) 64 (fun f3 I4 b4 a4 e4 => ?_) (fun f3 m hm ih3 I4 b4 a4 e4 => ?_) 0 (by omega)).elim fun z hz => ⟨z, hz I3 (fun j hj => by rw [b3 j hj, zsum]; rfl) a3 e3⟩
        · rw [wl_M_placingsOf_80]
          simp (disch := omega) only [zi_0, zi_1, zi_2, zi_3, zi_4, zi_5, zi_6, zi_7, zi_8, zi_9, zi_10, zi_11, zi_12, zi_13, zi_14, zi_15, zi_16, zi_17, zi_18, zi_19, zi_20, zi_21, zi_22, zi_23, zi_24, zi_25, zi_26, zi_30, zi_31, zi_32, zi_34, zi_38, zi_59, zi_60, zi_61, zi_63, zi_64, zi_80, zi_96, zi_97, zi_99, zi_100, zi_122, zi_255, zi_256, zi_300, zi_398, zi_406, zi_900, zi_1000, zi_1024, zi_1624, zi_1662, zi_2030, zi_2031, zi_2068, zi_2258, zi_9999, zi_48, zi_57, zi_65536, zi_3257, zi_11483, zi_1000000, zi_729, zi_81, zi_m1, nI_add, pk_mul, nI_ltI, nI_leI, nI_eq, nI_clamp, zn_in, zn_sub1lt, zn_M, zn_Ml, zn_Mg, zn_Mle, zn_Mge, zn_sub, Nat.reduceAdd, Nat.reduceMul]
          refine ⟨fun _ => ?_, fun g => absurd (Nat.le_refl _) g⟩
          -- copy back
          have b5 : ∀ j, j < 80 → I4 119 j = nI (wy (sq_dogsBy q) (x + 1) j) := fun j hj => by rw [b4 j hj, wy_s _ hu x hj]
          refine (zl_up (P := fun f4 m => ∀ I5, (∀ j, j < m → I5 118 j = nI (wy (sq_dogsBy q) (x + 1) j)) → (∀ j, j < 80 → I5 119 j = nI (wy (sq_dogsBy q) (x + 1) j)) → (∀ r, r ≠ 118 → r ≠ 119 → I5 r = I r) → wl_M_placingsOf_119 L R 103 (nI dg) (nI k) Q (wl_M_placingsOf_31 L R 103 (nI dg) (nI k) Q f) f4 I5 (nI x) (nI m)) 80 (fun f4 I5 c5 b5 e5 => ?_) (fun f4 m hm ih4 I5 c5 b5 e5 => ?_) 0 (by omega)).elim fun z hz => ⟨z, hz I4 (fun j hj => absurd hj (by omega)) b5 e4⟩
          · rw [wl_M_placingsOf_119]
            simp (disch := omega) only [zi_0, zi_1, zi_2, zi_3, zi_4, zi_5, zi_6, zi_7, zi_8, zi_9, zi_10, zi_11, zi_12, zi_13, zi_14, zi_15, zi_16, zi_17, zi_18, zi_19, zi_20, zi_21, zi_22, zi_23, zi_24, zi_25, zi_26, zi_30, zi_31, zi_32, zi_34, zi_38, zi_59, zi_60, zi_61, zi_63, zi_64, zi_80, zi_96, zi_97, zi_99, zi_100, zi_122, zi_255, zi_256, zi_300, zi_398, zi_406, zi_900, zi_1000, zi_1024, zi_1624, zi_1662, zi_2030, zi_2031, zi_2068, zi_2258, zi_9999, zi_48, zi_57, zi_65536, zi_3257, zi_11483, zi_1000000, zi_729, zi_81, zi_m1, nI_add, pk_mul, nI_ltI, nI_leI, nI_eq, nI_clamp, zn_in, zn_sub1lt, zn_M, zn_Ml, zn_Mg, zn_Mle, zn_Mge, zn_sub, Nat.reduceAdd, Nat.reduceMul]
            exact ⟨fun _ => ih I5 c5 e5, fun g => absurd (Nat.le_refl _) g⟩
          · rw [wl_M_placingsOf_119]
            simp (disch := omega) only [b5 m hm, zi_0, zi_1, zi_2, zi_3, zi_4, zi_5, zi_6, zi_7, zi_8, zi_9, zi_10, zi_11, zi_12, zi_13, zi_14, zi_15, zi_16, zi_17, zi_18, zi_19, zi_20, zi_21, zi_22, zi_23, zi_24, zi_25, zi_26, zi_30, zi_31, zi_32, zi_34, zi_38, zi_59, zi_60, zi_61, zi_63, zi_64, zi_80, zi_96, zi_97, zi_99, zi_100, zi_122, zi_255, zi_256, zi_300, zi_398, zi_406, zi_900, zi_1000, zi_1024, zi_1624, zi_1662, zi_2030, zi_2031, zi_2068, zi_2258, zi_9999, zi_48, zi_57, zi_65536, zi_3257, zi_11483, zi_1000000, zi_729, zi_81, zi_m1, nI_add, pk_mul, nI_ltI, nI_leI, nI_eq, nI_clamp, zn_in, zn_sub1lt, zn_M, zn_Ml, zn_Mg, zn_Mle, zn_Mge, zn_sub, Nat.reduceAdd, Nat.reduceMul, forall_eq, true_imp_iff, false_imp_iff, and_true, true_and, not_true_eq_false, not_false_eq_true, reduceCtorEq, imp_self, eq_self, false_and, and_false, implies_true]
            refine ⟨fun g => absurd g (by omega), fun _ => ⟨by omega, by omega, ih4 _ (fun j hj => ?_) (fun j hj => by rw [am_u2o (by omega)]; exact b5 j hj) (fun r g1 g2 => by rw [am_u2_row _ _ _ _ g1]; exact e5 r g1 g2)⟩⟩
            by_cases e : j = m
            · subst e; rw [am_u2_at]
            · rw [am_u2_ne _ _ _ _ e]; exact c5 j (by omega)
        · have ol : m ||| sq_dogsBy q x < 64 := Nat.or_lt_two_pow (n := 6) (by omega) (by omega)
          rw [wl_M_placingsOf_80]
          simp (disch := omega) only [ze_or, a4 m (by omega), b4 (16 + (m ||| sq_dogsBy q x)) (by omega), zi_0, zi_1, zi_2, zi_3, zi_4, zi_5, zi_6, zi_7, zi_8, zi_9, zi_10, zi_11, zi_12, zi_13, zi_14, zi_15, zi_16, zi_17, zi_18, zi_19, zi_20, zi_21, zi_22, zi_23, zi_24, zi_25, zi_26, zi_30, zi_31, zi_32, zi_34, zi_38, zi_59, zi_60, zi_61, zi_63, zi_64, zi_80, zi_96, zi_97, zi_99, zi_100, zi_122, zi_255, zi_256, zi_300, zi_398, zi_406, zi_900, zi_1000, zi_1024, zi_1624, zi_1662, zi_2030, zi_2031, zi_2068, zi_2258, zi_9999, zi_48, zi_57, zi_65536, zi_3257, zi_11483, zi_1000000, zi_729, zi_81, zi_m1, nI_add, pk_mul, nI_ltI, nI_leI, nI_eq, nI_clamp, zn_in, zn_sub1lt, zn_M, zn_Ml, zn_Mg, zn_Mle, zn_Mge, zn_sub, Nat.reduceAdd, Nat.reduceMul, forall_eq, true_imp_iff, false_imp_iff, and_true, true_and, not_true_eq_false, not_false_eq_true, reduceCtorEq, imp_self, eq_self, false_and, and_false, implies_true]
          refine ⟨fun g => absurd g (by omega), fun _ => ⟨by omega, by omega, by omega, ih3 _ (fun j hj => ?_) (fun j hj => by rw [am_u2o (by omega)]; exact a4 j hj) (fun r g1 g2 => by rw [am_u2_row _ _ _ _ g2]; exact e4 r g1 g2)⟩⟩
          rw [zsum]
          by_cases e : j = 16 + (m ||| sq_dogsBy q x)
          · rw [if_pos e.symm, ← Nat.add_assoc]
            rw [e, am_u2_at]
          · rw [if_neg (fun z => e z.symm), am_u2_ne _ _ _ _ e, Nat.add_zero]; exact b4 j hj
      · rw [wl_M_placingsOf_50]
        simp (disch := omega) only [a3 m hm, zi_0, zi_1, zi_2, zi_3, zi_4, zi_5, zi_6, zi_7, zi_8, zi_9, zi_10, zi_11, zi_12, zi_13, zi_14, zi_15, zi_16, zi_17, zi_18, zi_19, zi_20, zi_21, zi_22, zi_23, zi_24, zi_25, zi_26, zi_30, zi_31, zi_32, zi_34, zi_38, zi_59, zi_60, zi_61, zi_63, zi_64, zi_80, zi_96, zi_97, zi_99, zi_100, zi_122, zi_255, zi_256, zi_300, zi_398, zi_406, zi_900, zi_1000, zi_1024, zi_1624, zi_1662, zi_2030, zi_2031, zi_2068, zi_2258, zi_9999, zi_48, zi_57, zi_65536, zi_3257, zi_11483, zi_1000000, zi_729, zi_81, zi_m1, nI_add, pk_mul, nI_ltI, nI_leI, nI_eq, nI_clamp, zn_in, zn_sub1lt, zn_M, zn_Ml, zn_Mg, zn_Mle, zn_Mge, zn_sub, Nat.reduceAdd, Nat.reduceMul, forall_eq, true_imp_iff, false_imp_iff, and_true, true_and, not_true_eq_false, not_false_eq_true, reduceCtorEq, imp_self, eq_self, false_and, and_false, implies_true]
        refine ⟨fun g => absurd g (by omega), fun _ => ⟨by omega, by omega, ih2 _ (fun j hj => ?_) (fun j hj => by rw [am_u2o (by omega)]; exact a3 j hj) (fun r g1 g2 => by rw [am_u2_row _ _ _ _ g2]; exact e3 r g1 g2)⟩⟩
        by_cases e : j = m
        · subst e; rw [am_u2_at]
        · rw [am_u2_ne _ _ _ _ e]; exact b3 j (by omega)
  · rw [wl_M_placingsOf_2]
    simp (disch := omega) only [zi_0, zi_1, zi_2, zi_3, zi_4, zi_5, zi_6, zi_7, zi_8, zi_9, zi_10, zi_11, zi_12, zi_13, zi_14, zi_15, zi_16, zi_17, zi_18, zi_19, zi_20, zi_21, zi_22, zi_23, zi_24, zi_25, zi_26, zi_30, zi_31, zi_32, zi_34, zi_38, zi_59, zi_60, zi_61, zi_63, zi_64, zi_80, zi_96, zi_97, zi_99, zi_100, zi_122, zi_255, zi_256, zi_300, zi_398, zi_406, zi_900, zi_1000, zi_1024, zi_1624, zi_1662, zi_2030, zi_2031, zi_2068, zi_2258, zi_9999, zi_48, zi_57, zi_65536, zi_3257, zi_11483, zi_1000000, zi_729, zi_81, zi_m1, nI_add, pk_mul, nI_ltI, nI_leI, nI_eq, nI_clamp, zn_in, zn_sub1lt, zn_M, zn_Ml, zn_Mg, zn_Mle, zn_Mge, zn_sub, Nat.reduceAdd, Nat.reduceMul, forall_eq, true_imp_iff, false_imp_iff, and_true, true_and, not_true_eq_false, not_false_eq_true, reduceCtorEq, imp_self, eq_self, false_and, and_false, implies_true]
    have nx : ∀ v, v = wy (sq_dogsBy q) 0 m → wl_M_placingsOf_2 L R 103 (nI dg) (nI k) Q f (am_u2 I1 118 m (nI v)) (nI (m + 1)) := by
      intro v hv
      refine ih _ (fun j hj => ?_) (fun r g1 g2 => by rw [am_u2_row _ _ _ _ g1]; exact e r g1 g2)
      by_cases e : j = m
      · subst e; rw [am_u2_at, hv]
      · rw [am_u2_ne _ _ _ _ e]; exact a j (by omega)
    refine ⟨fun g => absurd g (by omega), fun _ => ⟨fun g => ⟨by omega, nx 1 ?_⟩, fun g => ⟨by omega, nx 0 ?_⟩⟩⟩
    · subst g; rfl
    · rw [wy, wb, if_neg (by omega)]
theorem op_explain (ok : sq_Ok q) (p1 : Int32) : si_I q (fun I L R Q => wp_U_explain I L R 0 p1 Q) (fun I L R Q => wp_M_explain I L R 103 p1 Q) := by
  have o4 := ok.1.2.2.1
  have o := ok.cells
  have n4 : 2 ^ q 4 ≤ 16 ∧ 1 ≤ 2 ^ q 4 := ⟨Nat.pow_le_pow_right (n := 2) (by decide) o4.2.2.1, Nat.one_le_two_pow⟩
  rcases zc p1 with hp | ⟨j, hj, rfl⟩
  · refine ⟨nM, 1, q, ok, ?_, ?_⟩
    · intro c d I L R hcd h hc hd hz Q K
      simp (disch := omega) only [wp_U_explain, wp_U_isSet, wp_U_within, wp_U_refused, hc, h.n4, zn_shl, hp, zi_0, zi_1, zi_2, zi_3, zi_4, zi_5, zi_6, zi_7, zi_8, zi_9, zi_10, zi_11, zi_12, zi_13, zi_14, zi_15, zi_16, zi_17, zi_18, zi_19, zi_20, zi_21, zi_22, zi_23, zi_24, zi_25, zi_26, zi_30, zi_31, zi_32, zi_34, zi_38, zi_59, zi_60, zi_61, zi_63, zi_64, zi_80, zi_96, zi_97, zi_99, zi_100, zi_122, zi_255, zi_256, zi_300, zi_398, zi_406, zi_900, zi_1000, zi_1024, zi_1624, zi_1662, zi_2030, zi_2031, zi_2068, zi_2258, zi_9999, zi_48, zi_57, zi_65536, zi_3257, zi_11483, zi_1000000, zi_729, zi_81, zi_m1, nI_add, pk_mul, nI_ltI, nI_leI, nI_eq, nI_clamp, zn_in, zn_sub1lt, zn_M, zn_Ml, zn_Mg, zn_Mle, zn_Mge, zn_sub, Nat.reduceAdd, Nat.reduceMul, forall_eq, true_imp_iff, false_imp_iff, and_true, true_and, not_true_eq_false, not_false_eq_true, reduceCtorEq, imp_self, eq_self, false_and, and_false, implies_true]
      exact K _ (po_U.q0 h hcd _)
    · intro I L R h Q K
      simp (disch := omega) only [wp_M_explain, wp_M_areDogs, wp_M_isFrom, wp_M_refuse, h.n4, zk_shl, zk_sub, zj_0, zj_1, zj_2, zj_4, zj_6, zj_7, zj_8, zj_16, zj_20, zj_60, zj_63, zj_64, zj_99, zj_9999, nI_l, zk_lt, zk_le, zk_eq, zk_add, zk_in, hp, zf_n hp, zi_0, zi_1, zi_2, zi_3, zi_4, zi_5, zi_6, zi_7, zi_8, zi_9, zi_10, zi_11, zi_12, zi_13, zi_14, zi_15, zi_16, zi_17, zi_18, zi_19, zi_20, zi_21, zi_22, zi_23, zi_24, zi_25, zi_26, zi_30, zi_31, zi_32, zi_34, zi_38, zi_59, zi_60, zi_61, zi_63, zi_64, zi_80, zi_96, zi_97, zi_99, zi_100, zi_122, zi_255, zi_256, zi_300, zi_398, zi_406, zi_900, zi_1000, zi_1024, zi_1624, zi_1662, zi_2030, zi_2031, zi_2068, zi_2258, zi_9999, zi_48, zi_57, zi_65536, zi_3257, zi_11483, zi_1000000, zi_729, zi_81, zi_m1, nI_add, pk_mul, nI_ltI, nI_leI, nI_eq, nI_clamp, zn_in, zn_sub1lt, zn_M, zn_Ml, zn_Mg, zn_Mle, zn_Mge, zn_sub, Nat.reduceAdd, Nat.reduceMul, forall_eq, true_imp_iff, false_imp_iff, and_true, true_and, not_true_eq_false, not_false_eq_true, reduceCtorEq, imp_self, eq_self, false_and, and_false, implies_true]
      exact K _ (po_M.q0 h ok _)
  by_cases g : 2 ^ q 4 - 1 < j
  · refine ⟨nM, 1, q, ok, ?_, ?_⟩
    · intro c d I L R hcd h hc hd hz Q K
      simp (disch := omega) only [wp_U_explain, wp_U_isSet, wp_U_within, wp_U_refused, hc, h.n4, zn_shl, zi_0, zi_1, zi_2, zi_3, zi_4, zi_5, zi_6, zi_7, zi_8, zi_9, zi_10, zi_11, zi_12, zi_13, zi_14, zi_15, zi_16, zi_17, zi_18, zi_19, zi_20, zi_21, zi_22, zi_23, zi_24, zi_25, zi_26, zi_30, zi_31, zi_32, zi_34, zi_38, zi_59, zi_60, zi_61, zi_63, zi_64, zi_80, zi_96, zi_97, zi_99, zi_100, zi_122, zi_255, zi_256, zi_300, zi_398, zi_406, zi_900, zi_1000, zi_1024, zi_1624, zi_1662, zi_2030, zi_2031, zi_2068, zi_2258, zi_9999, zi_48, zi_57, zi_65536, zi_3257, zi_11483, zi_1000000, zi_729, zi_81, zi_m1, nI_add, pk_mul, nI_ltI, nI_leI, nI_eq, nI_clamp, zn_in, zn_sub1lt, zn_M, zn_Ml, zn_Mg, zn_Mle, zn_Mge, zn_sub, Nat.reduceAdd, Nat.reduceMul, forall_eq, true_imp_iff, false_imp_iff, and_true, true_and, not_true_eq_false, not_false_eq_true, reduceCtorEq, imp_self, eq_self, false_and, and_false, implies_true]
      repeat' (first | omega | with_reducible refine And.intro ?_ ?_ | with_reducible intro g)
      exact K _ (po_U.q0 h hcd _)
    · intro I L R h Q K
      simp (disch := omega) only [wp_M_explain, wp_M_areDogs, wp_M_isFrom, wp_M_refuse, h.n4, zk_shl, zk_sub, zj_0, zj_1, zj_2, zj_4, zj_6, zj_7, zj_8, zj_16, zj_20, zj_60, zj_63, zj_64, zj_99, zj_9999, nI_l, zk_lt, zk_le, zk_eq, zk_add, zk_in, zi_0, zi_1, zi_2, zi_3, zi_4, zi_5, zi_6, zi_7, zi_8, zi_9, zi_10, zi_11, zi_12, zi_13, zi_14, zi_15, zi_16, zi_17, zi_18, zi_19, zi_20, zi_21, zi_22, zi_23, zi_24, zi_25, zi_26, zi_30, zi_31, zi_32, zi_34, zi_38, zi_59, zi_60, zi_61, zi_63, zi_64, zi_80, zi_96, zi_97, zi_99, zi_100, zi_122, zi_255, zi_256, zi_300, zi_398, zi_406, zi_900, zi_1000, zi_1024, zi_1624, zi_1662, zi_2030, zi_2031, zi_2068, zi_2258, zi_9999, zi_48, zi_57, zi_65536, zi_3257, zi_11483, zi_1000000, zi_729, zi_81, zi_m1, nI_add, pk_mul, nI_ltI, nI_leI, nI_eq, nI_clamp, zn_in, zn_sub1lt, zn_M, zn_Ml, zn_Mg, zn_Mle, zn_Mge, zn_sub, Nat.reduceAdd, Nat.reduceMul, forall_eq, true_imp_iff, false_imp_iff, and_true, true_and, not_true_eq_false, not_false_eq_true, reduceCtorEq, imp_self, eq_self, false_and, and_false, implies_true]
      repeat' (first | omega | with_reducible refine And.intro ?_ ?_ | with_reducible intro g)
      exact K _ (po_M.q0 h ok _)
  have j16 : j < 16 := by omega
  have hu : ∀ x, sq_dogsBy q x < 16 := fun x => sq_dogsBy_lt ok x
  by_cases e : ex_s (sq_dogsBy q) j (q 0 * q 1) 16 j < 1000
  · have e4 := (ex_some j16 hu e).1
    refine ⟨nI (ex_s (sq_dogsBy q) j (q 0 * q 1) 16 j), 0, q, ok, ?_, ?_⟩
    · intro c d I L R hcd h hc hd hz Q K
      simp (disch := omega) only [wp_U_explain, wp_U_isSet, wp_U_within, wp_U_refused, hc, h.n4, zn_shl, zi_0, zi_1, zi_2, zi_3, zi_4, zi_5, zi_6, zi_7, zi_8, zi_9, zi_10, zi_11, zi_12, zi_13, zi_14, zi_15, zi_16, zi_17, zi_18, zi_19, zi_20, zi_21, zi_22, zi_23, zi_24, zi_25, zi_26, zi_30, zi_31, zi_32, zi_34, zi_38, zi_59, zi_60, zi_61, zi_63, zi_64, zi_80, zi_96, zi_97, zi_99, zi_100, zi_122, zi_255, zi_256, zi_300, zi_398, zi_406, zi_900, zi_1000, zi_1024, zi_1624, zi_1662, zi_2030, zi_2031, zi_2068, zi_2258, zi_9999, zi_48, zi_57, zi_65536, zi_3257, zi_11483, zi_1000000, zi_729, zi_81, zi_m1, nI_add, pk_mul, nI_ltI, nI_leI, nI_eq, nI_clamp, zn_in, zn_sub1lt, zn_M, zn_Ml, zn_Mg, zn_Mle, zn_Mge, zn_sub, Nat.reduceAdd, Nat.reduceMul, forall_eq, true_imp_iff, false_imp_iff, and_true, true_and, not_true_eq_false, not_false_eq_true, reduceCtorEq, imp_self, eq_self, false_and, and_false, implies_true]
      repeat' (first | omega | with_reducible refine And.intro ?_ ?_ | with_reducible intro g)
      refine su_lookP h hcd ok (fun I1 p1 f1 => su_fewC p1 ok j16 (fun I2 f2 => ?_))
      obtain ⟨s1, s2⟩ := pl_frU hcd h (I1 := I2) (fun r a b e => (f2 r e).trans (f1 r a b))
      rw [if_pos e]
      simp (disch := omega) only [wp_U_answeredIfThereIs, wp_U_refused, wp_U_answered, zi_0, zi_1, zi_2, zi_3, zi_4, zi_5, zi_6, zi_7, zi_8, zi_9, zi_10, zi_11, zi_12, zi_13, zi_14, zi_15, zi_16, zi_17, zi_18, zi_19, zi_20, zi_21, zi_22, zi_23, zi_24, zi_25, zi_26, zi_30, zi_31, zi_32, zi_34, zi_38, zi_59, zi_60, zi_61, zi_63, zi_64, zi_80, zi_96, zi_97, zi_99, zi_100, zi_122, zi_255, zi_256, zi_300, zi_398, zi_406, zi_900, zi_1000, zi_1024, zi_1624, zi_1662, zi_2030, zi_2031, zi_2068, zi_2258, zi_9999, zi_48, zi_57, zi_65536, zi_3257, zi_11483, zi_1000000, zi_729, zi_81, zi_m1, nI_add, pk_mul, nI_ltI, nI_leI, nI_eq, nI_clamp, zn_in, zn_sub1lt, zn_M, zn_Ml, zn_Mg, zn_Mle, zn_Mge, zn_sub, Nat.reduceAdd, Nat.reduceMul, forall_eq, true_imp_iff, false_imp_iff, and_true, true_and, not_true_eq_false, not_false_eq_true, reduceCtorEq, imp_self, eq_self, false_and, and_false, implies_true]
      repeat' (first | omega | with_reducible refine And.intro ?_ ?_ | with_reducible intro g)
      exact K _ (po_U.of s1 hcd s2 _)
    · intro I L R h Q K
      simp (disch := omega) only [wp_M_explain, wp_M_areDogs, wp_M_isFrom, wp_M_refuse, h.n4, zk_shl, zk_sub, zj_0, zj_1, zj_2, zj_4, zj_6, zj_7, zj_8, zj_16, zj_20, zj_60, zj_63, zj_64, zj_99, zj_9999, nI_l, zk_lt, zk_le, zk_eq, zk_add, zk_in, zi_0, zi_1, zi_2, zi_3, zi_4, zi_5, zi_6, zi_7, zi_8, zi_9, zi_10, zi_11, zi_12, zi_13, zi_14, zi_15, zi_16, zi_17, zi_18, zi_19, zi_20, zi_21, zi_22, zi_23, zi_24, zi_25, zi_26, zi_30, zi_31, zi_32, zi_34, zi_38, zi_59, zi_60, zi_61, zi_63, zi_64, zi_80, zi_96, zi_97, zi_99, zi_100, zi_122, zi_255, zi_256, zi_300, zi_398, zi_406, zi_900, zi_1000, zi_1024, zi_1624, zi_1662, zi_2030, zi_2031, zi_2068, zi_2258, zi_9999, zi_48, zi_57, zi_65536, zi_3257, zi_11483, zi_1000000, zi_729, zi_81, zi_m1, nI_add, pk_mul, nI_ltI, nI_leI, nI_eq, nI_clamp, zn_in, zn_sub1lt, zn_M, zn_Ml, zn_Mg, zn_Mle, zn_Mge, zn_sub, Nat.reduceAdd, Nat.reduceMul, forall_eq, true_imp_iff, false_imp_iff, and_true, true_and, not_true_eq_false, not_false_eq_true, reduceCtorEq, imp_self, eq_self, false_and, and_false, implies_true]
      repeat' (first | omega | with_reducible refine And.intro ?_ ?_ | with_reducible intro g)
      refine (zl_up (P := fun f m => ∀ I1, fz I I1 → wl_M_explain_17 L R 103 (nI j) Q f I1 (nI m)) (ex_s (sq_dogsBy q) j (q 0 * q 1) 16 j) (fun f I1 f1 => ?_) (fun f m hm ih I1 f1 => ?_) 0 (by omega)).elim fun z hz => ⟨z, hz I (fun _ _ _ _ _ _ _ => rfl)⟩
      · obtain ⟨x4, xp⟩ := ex_some j16 hu e
        have al : pw_all q j (ex_s (sq_dogsBy q) j (q 0 * q 1) 16 j) < 2 ^ 26 := pw_lt ok _ _ _
        have xp : 0 < pw_all q j (ex_s (sq_dogsBy q) j (q 0 * q 1) 16 j) := xp
        rw [wl_M_explain_17]
        simp (disch := omega) only [zi_0, zi_1, zi_2, zi_3, zi_4, zi_5, zi_6, zi_7, zi_8, zi_9, zi_10, zi_11, zi_12, zi_13, zi_14, zi_15, zi_16, zi_17, zi_18, zi_19, zi_20, zi_21, zi_22, zi_23, zi_24, zi_25, zi_26, zi_30, zi_31, zi_32, zi_34, zi_38, zi_59, zi_60, zi_61, zi_63, zi_64, zi_80, zi_96, zi_97, zi_99, zi_100, zi_122, zi_255, zi_256, zi_300, zi_398, zi_406, zi_900, zi_1000, zi_1024, zi_1624, zi_1662, zi_2030, zi_2031, zi_2068, zi_2258, zi_9999, zi_48, zi_57, zi_65536, zi_3257, zi_11483, zi_1000000, zi_729, zi_81, zi_m1, nI_add, pk_mul, nI_ltI, nI_leI, nI_eq, nI_clamp, zn_in, zn_sub1lt, zn_M, zn_Ml, zn_Mg, zn_Mle, zn_Mge, zn_sub, Nat.reduceAdd, Nat.reduceMul]
        refine ⟨fun g => absurd g (by omega), fun _ => sm_laysP (f1.sq h ok) ok j16 (by omega) (fun I2 p2 f2 => ?_)⟩
        rw [p2.1]
        simp (disch := omega) only [wp_M_gives, zi_0, zi_1, zi_2, zi_3, zi_4, zi_5, zi_6, zi_7, zi_8, zi_9, zi_10, zi_11, zi_12, zi_13, zi_14, zi_15, zi_16, zi_17, zi_18, zi_19, zi_20, zi_21, zi_22, zi_23, zi_24, zi_25, zi_26, zi_30, zi_31, zi_32, zi_34, zi_38, zi_59, zi_60, zi_61, zi_63, zi_64, zi_80, zi_96, zi_97, zi_99, zi_100, zi_122, zi_255, zi_256, zi_300, zi_398, zi_406, zi_900, zi_1000, zi_1024, zi_1624, zi_1662, zi_2030, zi_2031, zi_2068, zi_2258, zi_9999, zi_48, zi_57, zi_65536, zi_3257, zi_11483, zi_1000000, zi_729, zi_81, zi_m1, nI_add, pk_mul, nI_ltI, nI_leI, nI_eq, nI_clamp, zn_in, zn_sub1lt, zn_M, zn_Ml, zn_Mg, zn_Mle, zn_Mge, zn_sub, Nat.reduceAdd, Nat.reduceMul, forall_eq, true_imp_iff, false_imp_iff, and_true, true_and, not_true_eq_false, not_false_eq_true, reduceCtorEq, imp_self, eq_self, false_and, and_false, implies_true]
        refine ⟨fun g => absurd g (by omega), fun _ => ?_⟩
        exact K _ (po_M.of ((f1.trans f2).sq h ok) ok (f1.trans f2).toM _)
      · have z0 : pw_all q j m = 0 := ex_none j16 hu (by omega)
        rw [wl_M_explain_17]
        simp (disch := omega) only [zi_0, zi_1, zi_2, zi_3, zi_4, zi_5, zi_6, zi_7, zi_8, zi_9, zi_10, zi_11, zi_12, zi_13, zi_14, zi_15, zi_16, zi_17, zi_18, zi_19, zi_20, zi_21, zi_22, zi_23, zi_24, zi_25, zi_26, zi_30, zi_31, zi_32, zi_34, zi_38, zi_59, zi_60, zi_61, zi_63, zi_64, zi_80, zi_96, zi_97, zi_99, zi_100, zi_122, zi_255, zi_256, zi_300, zi_398, zi_406, zi_900, zi_1000, zi_1024, zi_1624, zi_1662, zi_2030, zi_2031, zi_2068, zi_2258, zi_9999, zi_48, zi_57, zi_65536, zi_3257, zi_11483, zi_1000000, zi_729, zi_81, zi_m1, nI_add, pk_mul, nI_ltI, nI_leI, nI_eq, nI_clamp, zn_in, zn_sub1lt, zn_M, zn_Ml, zn_Mg, zn_Mle, zn_Mge, zn_sub, Nat.reduceAdd, Nat.reduceMul]
        refine ⟨fun g => absurd g (by omega), fun _ => sm_laysP (f1.sq h ok) ok j16 (by omega) (fun I2 p2 f2 => ?_)⟩
        rw [p2.1, z0]
        exact ⟨fun _ => ih I2 (f1.trans f2), fun g => absurd (by decide) g⟩
  · refine ⟨nM, 6, q, ok, ?_, ?_⟩
    · intro c d I L R hcd h hc hd hz Q K
      simp (disch := omega) only [wp_U_explain, wp_U_isSet, wp_U_within, wp_U_refused, hc, h.n4, zn_shl, zi_0, zi_1, zi_2, zi_3, zi_4, zi_5, zi_6, zi_7, zi_8, zi_9, zi_10, zi_11, zi_12, zi_13, zi_14, zi_15, zi_16, zi_17, zi_18, zi_19, zi_20, zi_21, zi_22, zi_23, zi_24, zi_25, zi_26, zi_30, zi_31, zi_32, zi_34, zi_38, zi_59, zi_60, zi_61, zi_63, zi_64, zi_80, zi_96, zi_97, zi_99, zi_100, zi_122, zi_255, zi_256, zi_300, zi_398, zi_406, zi_900, zi_1000, zi_1024, zi_1624, zi_1662, zi_2030, zi_2031, zi_2068, zi_2258, zi_9999, zi_48, zi_57, zi_65536, zi_3257, zi_11483, zi_1000000, zi_729, zi_81, zi_m1, nI_add, pk_mul, nI_ltI, nI_leI, nI_eq, nI_clamp, zn_in, zn_sub1lt, zn_M, zn_Ml, zn_Mg, zn_Mle, zn_Mge, zn_sub, Nat.reduceAdd, Nat.reduceMul, forall_eq, true_imp_iff, false_imp_iff, and_true, true_and, not_true_eq_false, not_false_eq_true, reduceCtorEq, imp_self, eq_self, false_and, and_false, implies_true]
      repeat' (first | omega | with_reducible refine And.intro ?_ ?_ | with_reducible intro g)
      refine su_lookP h hcd ok (fun I1 p1 f1 => su_fewC p1 ok j16 (fun I2 f2 => ?_))
      obtain ⟨s1, s2⟩ := pl_frU hcd h (I1 := I2) (fun r a b e => (f2 r e).trans (f1 r a b))
      rw [if_neg e]
      simp (disch := omega) only [wp_U_answeredIfThereIs, wp_U_refused, wp_U_answered, zi_0, zi_1, zi_2, zi_3, zi_4, zi_5, zi_6, zi_7, zi_8, zi_9, zi_10, zi_11, zi_12, zi_13, zi_14, zi_15, zi_16, zi_17, zi_18, zi_19, zi_20, zi_21, zi_22, zi_23, zi_24, zi_25, zi_26, zi_30, zi_31, zi_32, zi_34, zi_38, zi_59, zi_60, zi_61, zi_63, zi_64, zi_80, zi_96, zi_97, zi_99, zi_100, zi_122, zi_255, zi_256, zi_300, zi_398, zi_406, zi_900, zi_1000, zi_1024, zi_1624, zi_1662, zi_2030, zi_2031, zi_2068, zi_2258, zi_9999, zi_48, zi_57, zi_65536, zi_3257, zi_11483, zi_1000000, zi_729, zi_81, zi_m1, nI_add, pk_mul, nI_ltI, nI_leI, nI_eq, nI_clamp, zn_in, zn_sub1lt, zn_M, zn_Ml, zn_Mg, zn_Mle, zn_Mge, zn_sub, Nat.reduceAdd, Nat.reduceMul, forall_eq, true_imp_iff, false_imp_iff, and_true, true_and, not_true_eq_false, not_false_eq_true, reduceCtorEq, imp_self, eq_self, false_and, and_false, implies_true]
      repeat' (first | omega | with_reducible refine And.intro ?_ ?_ | with_reducible intro g)
      exact K _ (po_U.of s1 hcd s2 _)
    · intro I L R h Q K
      simp (disch := omega) only [wp_M_explain, wp_M_areDogs, wp_M_isFrom, wp_M_refuse, h.n4, zk_shl, zk_sub, zj_0, zj_1, zj_2, zj_4, zj_6, zj_7, zj_8, zj_16, zj_20, zj_60, zj_63, zj_64, zj_99, zj_9999, nI_l, zk_lt, zk_le, zk_eq, zk_add, zk_in, zi_0, zi_1, zi_2, zi_3, zi_4, zi_5, zi_6, zi_7, zi_8, zi_9, zi_10, zi_11, zi_12, zi_13, zi_14, zi_15, zi_16, zi_17, zi_18, zi_19, zi_20, zi_21, zi_22, zi_23, zi_24, zi_25, zi_26, zi_30, zi_31, zi_32, zi_34, zi_38, zi_59, zi_60, zi_61, zi_63, zi_64, zi_80, zi_96, zi_97, zi_99, zi_100, zi_122, zi_255, zi_256, zi_300, zi_398, zi_406, zi_900, zi_1000, zi_1024, zi_1624, zi_1662, zi_2030, zi_2031, zi_2068, zi_2258, zi_9999, zi_48, zi_57, zi_65536, zi_3257, zi_11483, zi_1000000, zi_729, zi_81, zi_m1, nI_add, pk_mul, nI_ltI, nI_leI, nI_eq, nI_clamp, zn_in, zn_sub1lt, zn_M, zn_Ml, zn_Mg, zn_Mle, zn_Mge, zn_sub, Nat.reduceAdd, Nat.reduceMul, forall_eq, true_imp_iff, false_imp_iff, and_true, true_and, not_true_eq_false, not_false_eq_true, reduceCtorEq, imp_self, eq_self, false_and, and_false, implies_true]
      repeat' (first | omega | with_reducible refine And.intro ?_ ?_ | with_reducible intro g)
      refine (zl_up (P := fun f m => ∀ I1, fz I I1 → wl_M_explain_17 L R 103 (nI j) Q f I1 (nI m)) 5 (fun f I1 f1 => ?_) (fun f m hm ih I1 f1 => ?_) 0 (by omega)).elim fun z hz => ⟨z, hz I (fun _ _ _ _ _ _ _ => rfl)⟩
      · rw [wl_M_explain_17]
        simp (disch := omega) only [wp_M_refuse, zi_0, zi_1, zi_2, zi_3, zi_4, zi_5, zi_6, zi_7, zi_8, zi_9, zi_10, zi_11, zi_12, zi_13, zi_14, zi_15, zi_16, zi_17, zi_18, zi_19, zi_20, zi_21, zi_22, zi_23, zi_24, zi_25, zi_26, zi_30, zi_31, zi_32, zi_34, zi_38, zi_59, zi_60, zi_61, zi_63, zi_64, zi_80, zi_96, zi_97, zi_99, zi_100, zi_122, zi_255, zi_256, zi_300, zi_398, zi_406, zi_900, zi_1000, zi_1024, zi_1624, zi_1662, zi_2030, zi_2031, zi_2068, zi_2258, zi_9999, zi_48, zi_57, zi_65536, zi_3257, zi_11483, zi_1000000, zi_729, zi_81, zi_m1, nI_add, pk_mul, nI_ltI, nI_leI, nI_eq, nI_clamp, zn_in, zn_sub1lt, zn_M, zn_Ml, zn_Mg, zn_Mle, zn_Mge, zn_sub, Nat.reduceAdd, Nat.reduceMul, forall_eq, true_imp_iff, false_imp_iff, and_true, true_and, not_true_eq_false, not_false_eq_true, reduceCtorEq, imp_self, eq_self, false_and, and_false, implies_true]
        refine ⟨fun _ => ?_, fun g => absurd (by omega) g⟩
        exact K _ (po_M.of (f1.sq h ok) ok f1.toM _)
      · have z0 : pw_all q j m = 0 := ex_none j16 hu (by omega)
        rw [wl_M_explain_17]
        simp (disch := omega) only [zi_0, zi_1, zi_2, zi_3, zi_4, zi_5, zi_6, zi_7, zi_8, zi_9, zi_10, zi_11, zi_12, zi_13, zi_14, zi_15, zi_16, zi_17, zi_18, zi_19, zi_20, zi_21, zi_22, zi_23, zi_24, zi_25, zi_26, zi_30, zi_31, zi_32, zi_34, zi_38, zi_59, zi_60, zi_61, zi_63, zi_64, zi_80, zi_96, zi_97, zi_99, zi_100, zi_122, zi_255, zi_256, zi_300, zi_398, zi_406, zi_900, zi_1000, zi_1024, zi_1624, zi_1662, zi_2030, zi_2031, zi_2068, zi_2258, zi_9999, zi_48, zi_57, zi_65536, zi_3257, zi_11483, zi_1000000, zi_729, zi_81, zi_m1, nI_add, pk_mul, nI_ltI, nI_leI, nI_eq, nI_clamp, zn_in, zn_sub1lt, zn_M, zn_Ml, zn_Mg, zn_Mle, zn_Mge, zn_sub, Nat.reduceAdd, Nat.reduceMul]
        refine ⟨fun g => absurd g (by omega), fun _ => sm_laysP (f1.sq h ok) ok j16 (by omega) (fun I2 p2 f2 => ?_)⟩
        rw [p2.1, z0]
        exact ⟨fun _ => ih I2 (f1.trans f2), fun g => absurd (by decide) g⟩
theorem op_placings (ok : sq_Ok q) (p1 p2 : Int32) : si_I q (fun I L R Q => wp_U_placings I L R 0 p1 p2 Q) (fun I L R Q => wp_M_placings I L R 103 p1 p2 Q) := by
  have o4 := ok.1.2.2.1
  have o := ok.cells
  have n4 : 2 ^ q 4 ≤ 16 ∧ 1 ≤ 2 ^ q 4 := ⟨Nat.pow_le_pow_right (n := 2) (by decide) o4.2.2.1, Nat.one_le_two_pow⟩
  rcases zc p1 with hp | ⟨j, hj, rfl⟩
  · refine ⟨nM, 1, q, ok, ?_, ?_⟩
    · intro c d I L R hcd h hc hd hz Q K
      simp (disch := omega) only [wp_U_placings, wp_U_isPlacing, wp_U_isSet, wp_U_within, wp_U_refused, hc, h.n4, zn_shl, hp, zi_0, zi_1, zi_2, zi_3, zi_4, zi_5, zi_6, zi_7, zi_8, zi_9, zi_10, zi_11, zi_12, zi_13, zi_14, zi_15, zi_16, zi_17, zi_18, zi_19, zi_20, zi_21, zi_22, zi_23, zi_24, zi_25, zi_26, zi_30, zi_31, zi_32, zi_34, zi_38, zi_59, zi_60, zi_61, zi_63, zi_64, zi_80, zi_96, zi_97, zi_99, zi_100, zi_122, zi_255, zi_256, zi_300, zi_398, zi_406, zi_900, zi_1000, zi_1024, zi_1624, zi_1662, zi_2030, zi_2031, zi_2068, zi_2258, zi_9999, zi_48, zi_57, zi_65536, zi_3257, zi_11483, zi_1000000, zi_729, zi_81, zi_m1, nI_add, pk_mul, nI_ltI, nI_leI, nI_eq, nI_clamp, zn_in, zn_sub1lt, zn_M, zn_Ml, zn_Mg, zn_Mle, zn_Mge, zn_sub, Nat.reduceAdd, Nat.reduceMul, forall_eq, true_imp_iff, false_imp_iff, and_true, true_and, not_true_eq_false, not_false_eq_true, reduceCtorEq, imp_self, eq_self, false_and, and_false, implies_true]
      exact K _ (po_U.q0 h hcd _)
    · intro I L R h Q K
      simp (disch := omega) only [wp_M_placings, wp_M_isPlacing, wp_M_areDogs, wp_M_isFrom, wp_M_refuse, h.n4, zk_shl, zk_sub, zj_0, zj_1, zj_2, zj_4, zj_6, zj_7, zj_8, zj_16, zj_20, zj_60, zj_63, zj_64, zj_99, zj_9999, nI_l, zk_lt, zk_le, zk_eq, zk_add, zk_in, hp, zf_n hp, zi_0, zi_1, zi_2, zi_3, zi_4, zi_5, zi_6, zi_7, zi_8, zi_9, zi_10, zi_11, zi_12, zi_13, zi_14, zi_15, zi_16, zi_17, zi_18, zi_19, zi_20, zi_21, zi_22, zi_23, zi_24, zi_25, zi_26, zi_30, zi_31, zi_32, zi_34, zi_38, zi_59, zi_60, zi_61, zi_63, zi_64, zi_80, zi_96, zi_97, zi_99, zi_100, zi_122, zi_255, zi_256, zi_300, zi_398, zi_406, zi_900, zi_1000, zi_1024, zi_1624, zi_1662, zi_2030, zi_2031, zi_2068, zi_2258, zi_9999, zi_48, zi_57, zi_65536, zi_3257, zi_11483, zi_1000000, zi_729, zi_81, zi_m1, nI_add, pk_mul, nI_ltI, nI_leI, nI_eq, nI_clamp, zn_in, zn_sub1lt, zn_M, zn_Ml, zn_Mg, zn_Mle, zn_Mge, zn_sub, Nat.reduceAdd, Nat.reduceMul, forall_eq, true_imp_iff, false_imp_iff, and_true, true_and, not_true_eq_false, not_false_eq_true, reduceCtorEq, imp_self, eq_self, false_and, and_false, implies_true]
      exact K _ (po_M.q0 h ok _)
  by_cases g : 2 ^ q 4 - 1 < j
  · refine ⟨nM, 1, q, ok, ?_, ?_⟩
    · intro c d I L R hcd h hc hd hz Q K
      simp (disch := omega) only [wp_U_placings, wp_U_isPlacing, wp_U_isSet, wp_U_within, wp_U_refused, hc, h.n4, zn_shl, zi_0, zi_1, zi_2, zi_3, zi_4, zi_5, zi_6, zi_7, zi_8, zi_9, zi_10, zi_11, zi_12, zi_13, zi_14, zi_15, zi_16, zi_17, zi_18, zi_19, zi_20, zi_21, zi_22, zi_23, zi_24, zi_25, zi_26, zi_30, zi_31, zi_32, zi_34, zi_38, zi_59, zi_60, zi_61, zi_63, zi_64, zi_80, zi_96, zi_97, zi_99, zi_100, zi_122, zi_255, zi_256, zi_300, zi_398, zi_406, zi_900, zi_1000, zi_1024, zi_1624, zi_1662, zi_2030, zi_2031, zi_2068, zi_2258, zi_9999, zi_48, zi_57, zi_65536, zi_3257, zi_11483, zi_1000000, zi_729, zi_81, zi_m1, nI_add, pk_mul, nI_ltI, nI_leI, nI_eq, nI_clamp, zn_in, zn_sub1lt, zn_M, zn_Ml, zn_Mg, zn_Mle, zn_Mge, zn_sub, Nat.reduceAdd, Nat.reduceMul, forall_eq, true_imp_iff, false_imp_iff, and_true, true_and, not_true_eq_false, not_false_eq_true, reduceCtorEq, imp_self, eq_self, false_and, and_false, implies_true]
      repeat' (first | omega | with_reducible refine And.intro ?_ ?_ | with_reducible intro g)
      exact K _ (po_U.q0 h hcd _)
    · intro I L R h Q K
      simp (disch := omega) only [wp_M_placings, wp_M_isPlacing, wp_M_areDogs, wp_M_isFrom, wp_M_refuse, h.n4, zk_shl, zk_sub, zj_0, zj_1, zj_2, zj_4, zj_6, zj_7, zj_8, zj_16, zj_20, zj_60, zj_63, zj_64, zj_99, zj_9999, nI_l, zk_lt, zk_le, zk_eq, zk_add, zk_in, zi_0, zi_1, zi_2, zi_3, zi_4, zi_5, zi_6, zi_7, zi_8, zi_9, zi_10, zi_11, zi_12, zi_13, zi_14, zi_15, zi_16, zi_17, zi_18, zi_19, zi_20, zi_21, zi_22, zi_23, zi_24, zi_25, zi_26, zi_30, zi_31, zi_32, zi_34, zi_38, zi_59, zi_60, zi_61, zi_63, zi_64, zi_80, zi_96, zi_97, zi_99, zi_100, zi_122, zi_255, zi_256, zi_300, zi_398, zi_406, zi_900, zi_1000, zi_1024, zi_1624, zi_1662, zi_2030, zi_2031, zi_2068, zi_2258, zi_9999, zi_48, zi_57, zi_65536, zi_3257, zi_11483, zi_1000000, zi_729, zi_81, zi_m1, nI_add, pk_mul, nI_ltI, nI_leI, nI_eq, nI_clamp, zn_in, zn_sub1lt, zn_M, zn_Ml, zn_Mg, zn_Mle, zn_Mge, zn_sub, Nat.reduceAdd, Nat.reduceMul, forall_eq, true_imp_iff, false_imp_iff, and_true, true_and, not_true_eq_false, not_false_eq_true, reduceCtorEq, imp_self, eq_self, false_and, and_false, implies_true]
      repeat' (first | omega | with_reducible refine And.intro ?_ ?_ | with_reducible intro g)
      exact K _ (po_M.q0 h ok _)
  have j16 : j < 16 := by omega
  rcases zc p2 with hp | ⟨k, hk, rfl⟩
  · refine ⟨nM, 1, q, ok, ?_, ?_⟩
    · intro c d I L R hcd h hc hd hz Q K
      simp (disch := omega) only [wp_U_placings, wp_U_isPlacing, wp_U_isSet, wp_U_within, wp_U_refused, hc, h.n4, zn_shl, hp, zi_0, zi_1, zi_2, zi_3, zi_4, zi_5, zi_6, zi_7, zi_8, zi_9, zi_10, zi_11, zi_12, zi_13, zi_14, zi_15, zi_16, zi_17, zi_18, zi_19, zi_20, zi_21, zi_22, zi_23, zi_24, zi_25, zi_26, zi_30, zi_31, zi_32, zi_34, zi_38, zi_59, zi_60, zi_61, zi_63, zi_64, zi_80, zi_96, zi_97, zi_99, zi_100, zi_122, zi_255, zi_256, zi_300, zi_398, zi_406, zi_900, zi_1000, zi_1024, zi_1624, zi_1662, zi_2030, zi_2031, zi_2068, zi_2258, zi_9999, zi_48, zi_57, zi_65536, zi_3257, zi_11483, zi_1000000, zi_729, zi_81, zi_m1, nI_add, pk_mul, nI_ltI, nI_leI, nI_eq, nI_clamp, zn_in, zn_sub1lt, zn_M, zn_Ml, zn_Mg, zn_Mle, zn_Mge, zn_sub, Nat.reduceAdd, Nat.reduceMul, forall_eq, true_imp_iff, false_imp_iff, and_true, true_and, not_true_eq_false, not_false_eq_true, reduceCtorEq, imp_self, eq_self, false_and, and_false, implies_true]
      repeat' (first | omega | with_reducible refine And.intro ?_ ?_ | with_reducible intro g)
      exact K _ (po_U.q0 h hcd _)
    · intro I L R h Q K
      simp (disch := omega) only [wp_M_placings, wp_M_isPlacing, wp_M_areDogs, wp_M_isFrom, wp_M_refuse, h.n4, zk_shl, zk_sub, zj_0, zj_1, zj_2, zj_4, zj_6, zj_7, zj_8, zj_16, zj_20, zj_60, zj_63, zj_64, zj_99, zj_9999, nI_l, zk_lt, zk_le, zk_eq, zk_add, zk_in, hp, zf_n hp, zi_0, zi_1, zi_2, zi_3, zi_4, zi_5, zi_6, zi_7, zi_8, zi_9, zi_10, zi_11, zi_12, zi_13, zi_14, zi_15, zi_16, zi_17, zi_18, zi_19, zi_20, zi_21, zi_22, zi_23, zi_24, zi_25, zi_26, zi_30, zi_31, zi_32, zi_34, zi_38, zi_59, zi_60, zi_61, zi_63, zi_64, zi_80, zi_96, zi_97, zi_99, zi_100, zi_122, zi_255, zi_256, zi_300, zi_398, zi_406, zi_900, zi_1000, zi_1024, zi_1624, zi_1662, zi_2030, zi_2031, zi_2068, zi_2258, zi_9999, zi_48, zi_57, zi_65536, zi_3257, zi_11483, zi_1000000, zi_729, zi_81, zi_m1, nI_add, pk_mul, nI_ltI, nI_leI, nI_eq, nI_clamp, zn_in, zn_sub1lt, zn_M, zn_Ml, zn_Mg, zn_Mle, zn_Mge, zn_sub, Nat.reduceAdd, Nat.reduceMul, forall_eq, true_imp_iff, false_imp_iff, and_true, true_and, not_true_eq_false, not_false_eq_true, reduceCtorEq, imp_self, eq_self, false_and, and_false, implies_true]
      repeat' (first | omega | with_reducible refine And.intro ?_ ?_ | with_reducible intro g)
      exact K _ (po_M.q0 h ok _)
  by_cases gk : 4 < k
  · refine ⟨nM, 1, q, ok, ?_, ?_⟩
    · intro c d I L R hcd h hc hd hz Q K
      simp (disch := omega) only [wp_U_placings, wp_U_isPlacing, wp_U_isSet, wp_U_within, wp_U_refused, hc, h.n4, zn_shl, zi_0, zi_1, zi_2, zi_3, zi_4, zi_5, zi_6, zi_7, zi_8, zi_9, zi_10, zi_11, zi_12, zi_13, zi_14, zi_15, zi_16, zi_17, zi_18, zi_19, zi_20, zi_21, zi_22, zi_23, zi_24, zi_25, zi_26, zi_30, zi_31, zi_32, zi_34, zi_38, zi_59, zi_60, zi_61, zi_63, zi_64, zi_80, zi_96, zi_97, zi_99, zi_100, zi_122, zi_255, zi_256, zi_300, zi_398, zi_406, zi_900, zi_1000, zi_1024, zi_1624, zi_1662, zi_2030, zi_2031, zi_2068, zi_2258, zi_9999, zi_48, zi_57, zi_65536, zi_3257, zi_11483, zi_1000000, zi_729, zi_81, zi_m1, nI_add, pk_mul, nI_ltI, nI_leI, nI_eq, nI_clamp, zn_in, zn_sub1lt, zn_M, zn_Ml, zn_Mg, zn_Mle, zn_Mge, zn_sub, Nat.reduceAdd, Nat.reduceMul, forall_eq, true_imp_iff, false_imp_iff, and_true, true_and, not_true_eq_false, not_false_eq_true, reduceCtorEq, imp_self, eq_self, false_and, and_false, implies_true]
      repeat' (first | omega | with_reducible refine And.intro ?_ ?_ | with_reducible intro g)
      exact K _ (po_U.q0 h hcd _)
    · intro I L R h Q K
      simp (disch := omega) only [wp_M_placings, wp_M_isPlacing, wp_M_areDogs, wp_M_isFrom, wp_M_refuse, h.n4, zk_shl, zk_sub, zj_0, zj_1, zj_2, zj_4, zj_6, zj_7, zj_8, zj_16, zj_20, zj_60, zj_63, zj_64, zj_99, zj_9999, nI_l, zk_lt, zk_le, zk_eq, zk_add, zk_in, zi_0, zi_1, zi_2, zi_3, zi_4, zi_5, zi_6, zi_7, zi_8, zi_9, zi_10, zi_11, zi_12, zi_13, zi_14, zi_15, zi_16, zi_17, zi_18, zi_19, zi_20, zi_21, zi_22, zi_23, zi_24, zi_25, zi_26, zi_30, zi_31, zi_32, zi_34, zi_38, zi_59, zi_60, zi_61, zi_63, zi_64, zi_80, zi_96, zi_97, zi_99, zi_100, zi_122, zi_255, zi_256, zi_300, zi_398, zi_406, zi_900, zi_1000, zi_1024, zi_1624, zi_1662, zi_2030, zi_2031, zi_2068, zi_2258, zi_9999, zi_48, zi_57, zi_65536, zi_3257, zi_11483, zi_1000000, zi_729, zi_81, zi_m1, nI_add, pk_mul, nI_ltI, nI_leI, nI_eq, nI_clamp, zn_in, zn_sub1lt, zn_M, zn_Ml, zn_Mg, zn_Mle, zn_Mge, zn_sub, Nat.reduceAdd, Nat.reduceMul, forall_eq, true_imp_iff, false_imp_iff, and_true, true_and, not_true_eq_false, not_false_eq_true, reduceCtorEq, imp_self, eq_self, false_and, and_false, implies_true]
      repeat' (first | omega | with_reducible refine And.intro ?_ ?_ | with_reducible intro g)
      exact K _ (po_M.q0 h ok _)
  refine ⟨nI (pw_all q j k), 0, q, ok, ?_, ?_⟩
  · intro c d I L R hcd h hc hd hz Q K
    simp (disch := omega) only [wp_U_placings, wp_U_isPlacing, wp_U_isSet, wp_U_within, wp_U_refused, hc, h.n4, zn_shl, zi_0, zi_1, zi_2, zi_3, zi_4, zi_5, zi_6, zi_7, zi_8, zi_9, zi_10, zi_11, zi_12, zi_13, zi_14, zi_15, zi_16, zi_17, zi_18, zi_19, zi_20, zi_21, zi_22, zi_23, zi_24, zi_25, zi_26, zi_30, zi_31, zi_32, zi_34, zi_38, zi_59, zi_60, zi_61, zi_63, zi_64, zi_80, zi_96, zi_97, zi_99, zi_100, zi_122, zi_255, zi_256, zi_300, zi_398, zi_406, zi_900, zi_1000, zi_1024, zi_1624, zi_1662, zi_2030, zi_2031, zi_2068, zi_2258, zi_9999, zi_48, zi_57, zi_65536, zi_3257, zi_11483, zi_1000000, zi_729, zi_81, zi_m1, nI_add, pk_mul, nI_ltI, nI_leI, nI_eq, nI_clamp, zn_in, zn_sub1lt, zn_M, zn_Ml, zn_Mg, zn_Mle, zn_Mge, zn_sub, Nat.reduceAdd, Nat.reduceMul, forall_eq, true_imp_iff, false_imp_iff, and_true, true_and, not_true_eq_false, not_false_eq_true, reduceCtorEq, imp_self, eq_self, false_and, and_false, implies_true]
    repeat' (first | omega | with_reducible refine And.intro ?_ ?_ | with_reducible intro g)
    refine su_lookP h hcd ok (fun I1 p1 f1 => su_count0 p1 ok j16 (by omega) ?_)
    obtain ⟨s1, s2⟩ := pl_frU hcd h (I1 := I1) (fun r a b _ => f1 r a b)
    simp (disch := omega) only [wp_U_answered, zi_0, zi_1, zi_2, zi_3, zi_4, zi_5, zi_6, zi_7, zi_8, zi_9, zi_10, zi_11, zi_12, zi_13, zi_14, zi_15, zi_16, zi_17, zi_18, zi_19, zi_20, zi_21, zi_22, zi_23, zi_24, zi_25, zi_26, zi_30, zi_31, zi_32, zi_34, zi_38, zi_59, zi_60, zi_61, zi_63, zi_64, zi_80, zi_96, zi_97, zi_99, zi_100, zi_122, zi_255, zi_256, zi_300, zi_398, zi_406, zi_900, zi_1000, zi_1024, zi_1624, zi_1662, zi_2030, zi_2031, zi_2068, zi_2258, zi_9999, zi_48, zi_57, zi_65536, zi_3257, zi_11483, zi_1000000, zi_729, zi_81, zi_m1, nI_add, pk_mul, nI_ltI, nI_leI, nI_eq, nI_clamp, zn_in, zn_sub1lt, zn_M, zn_Ml, zn_Mg, zn_Mle, zn_Mge, zn_sub, Nat.reduceAdd, Nat.reduceMul, forall_eq, true_imp_iff, false_imp_iff, and_true, true_and, not_true_eq_false, not_false_eq_true, reduceCtorEq, imp_self, eq_self, false_and, and_false, implies_true]
    exact K _ (po_U.of s1 hcd s2 _)
  · intro I L R h Q K
    simp (disch := omega) only [wp_M_placings, wp_M_isPlacing, wp_M_areDogs, wp_M_isFrom, wp_M_refuse, h.n4, zk_shl, zk_sub, zj_0, zj_1, zj_2, zj_4, zj_6, zj_7, zj_8, zj_16, zj_20, zj_60, zj_63, zj_64, zj_99, zj_9999, nI_l, zk_lt, zk_le, zk_eq, zk_add, zk_in, zi_0, zi_1, zi_2, zi_3, zi_4, zi_5, zi_6, zi_7, zi_8, zi_9, zi_10, zi_11, zi_12, zi_13, zi_14, zi_15, zi_16, zi_17, zi_18, zi_19, zi_20, zi_21, zi_22, zi_23, zi_24, zi_25, zi_26, zi_30, zi_31, zi_32, zi_34, zi_38, zi_59, zi_60, zi_61, zi_63, zi_64, zi_80, zi_96, zi_97, zi_99, zi_100, zi_122, zi_255, zi_256, zi_300, zi_398, zi_406, zi_900, zi_1000, zi_1024, zi_1624, zi_1662, zi_2030, zi_2031, zi_2068, zi_2258, zi_9999, zi_48, zi_57, zi_65536, zi_3257, zi_11483, zi_1000000, zi_729, zi_81, zi_m1, nI_add, pk_mul, nI_ltI, nI_leI, nI_eq, nI_clamp, zn_in, zn_sub1lt, zn_M, zn_Ml, zn_Mg, zn_Mle, zn_Mge, zn_sub, Nat.reduceAdd, Nat.reduceMul, forall_eq, true_imp_iff, false_imp_iff, and_true, true_and, not_true_eq_false, not_false_eq_true, reduceCtorEq, imp_self, eq_self, false_and, and_false, implies_true]
    repeat' (first | omega | with_reducible refine And.intro ?_ ?_ | with_reducible intro g)
    refine sm_placingsOf h ok j16 (by omega) (fun I1 f1 => ?_)
    simp (disch := omega) only [wp_M_gives, zi_0, zi_1, zi_2, zi_3, zi_4, zi_5, zi_6, zi_7, zi_8, zi_9, zi_10, zi_11, zi_12, zi_13, zi_14, zi_15, zi_16, zi_17, zi_18, zi_19, zi_20, zi_21, zi_22, zi_23, zi_24, zi_25, zi_26, zi_30, zi_31, zi_32, zi_34, zi_38, zi_59, zi_60, zi_61, zi_63, zi_64, zi_80, zi_96, zi_97, zi_99, zi_100, zi_122, zi_255, zi_256, zi_300, zi_398, zi_406, zi_900, zi_1000, zi_1024, zi_1624, zi_1662, zi_2030, zi_2031, zi_2068, zi_2258, zi_9999, zi_48, zi_57, zi_65536, zi_3257, zi_11483, zi_1000000, zi_729, zi_81, zi_m1, nI_add, pk_mul, nI_ltI, nI_leI, nI_eq, nI_clamp, zn_in, zn_sub1lt, zn_M, zn_Ml, zn_Mg, zn_Mle, zn_Mge, zn_sub, Nat.reduceAdd, Nat.reduceMul, forall_eq, true_imp_iff, false_imp_iff, and_true, true_and, not_true_eq_false, not_false_eq_true, reduceCtorEq, imp_self, eq_self, false_and, and_false, implies_true]
    exact K _ (po_M.of (h.keep (fun k _ _ => by rw [f1 104 (by omega) (by omega)]) rfl ok.2.2.2.2.1) ok (fun r k g => by rw [f1 r (by omega) (by omega)]) _)
theorem op_aim (ok : sq_Ok q) (p1 p2 : Int32) : si_I q (fun I L R Q => wp_U_aim I L R 0 p1 p2 Q) (fun I L R Q => wp_M_aim I L R 103 p1 p2 Q) := by
  have o4 := ok.1.2.2.1
  have o := ok.cells
  have n4 : 2 ^ q 4 ≤ 16 ∧ 1 ≤ 2 ^ q 4 := ⟨Nat.pow_le_pow_right (n := 2) (by decide) o4.2.2.1, Nat.one_le_two_pow⟩
  rcases zc p1 with hp | ⟨j, hj, rfl⟩
  · refine ⟨nM, 1, q, ok, ?_, ?_⟩
    · intro c d I L R hcd h hc hd hz Q K
      simp (disch := omega) only [wp_U_aim, wp_U_isPlacing, wp_U_isSet, wp_U_within, wp_U_refused, hc, h.n4, zn_shl, hp, zi_0, zi_1, zi_2, zi_3, zi_4, zi_5, zi_6, zi_7, zi_8, zi_9, zi_10, zi_11, zi_12, zi_13, zi_14, zi_15, zi_16, zi_17, zi_18, zi_19, zi_20, zi_21, zi_22, zi_23, zi_24, zi_25, zi_26, zi_30, zi_31, zi_32, zi_34, zi_38, zi_59, zi_60, zi_61, zi_63, zi_64, zi_80, zi_96, zi_97, zi_99, zi_100, zi_122, zi_255, zi_256, zi_300, zi_398, zi_406, zi_900, zi_1000, zi_1024, zi_1624, zi_1662, zi_2030, zi_2031, zi_2068, zi_2258, zi_9999, zi_48, zi_57, zi_65536, zi_3257, zi_11483, zi_1000000, zi_729, zi_81, zi_m1, nI_add, pk_mul, nI_ltI, nI_leI, nI_eq, nI_clamp, zn_in, zn_sub1lt, zn_M, zn_Ml, zn_Mg, zn_Mle, zn_Mge, zn_sub, Nat.reduceAdd, Nat.reduceMul, forall_eq, true_imp_iff, false_imp_iff, and_true, true_and, not_true_eq_false, not_false_eq_true, reduceCtorEq, imp_self, eq_self, false_and, and_false, implies_true]
      exact K _ (po_U.q0 h hcd _)
    · intro I L R h Q K
      simp (disch := omega) only [wp_M_aim, wp_M_isPlacing, wp_M_areDogs, wp_M_isFrom, wp_M_refuse, h.n4, zk_shl, zk_sub, zj_0, zj_1, zj_2, zj_4, zj_6, zj_7, zj_8, zj_16, zj_20, zj_60, zj_63, zj_64, zj_99, zj_9999, nI_l, zk_lt, zk_le, zk_eq, zk_add, zk_in, hp, zf_n hp, zi_0, zi_1, zi_2, zi_3, zi_4, zi_5, zi_6, zi_7, zi_8, zi_9, zi_10, zi_11, zi_12, zi_13, zi_14, zi_15, zi_16, zi_17, zi_18, zi_19, zi_20, zi_21, zi_22, zi_23, zi_24, zi_25, zi_26, zi_30, zi_31, zi_32, zi_34, zi_38, zi_59, zi_60, zi_61, zi_63, zi_64, zi_80, zi_96, zi_97, zi_99, zi_100, zi_122, zi_255, zi_256, zi_300, zi_398, zi_406, zi_900, zi_1000, zi_1024, zi_1624, zi_1662, zi_2030, zi_2031, zi_2068, zi_2258, zi_9999, zi_48, zi_57, zi_65536, zi_3257, zi_11483, zi_1000000, zi_729, zi_81, zi_m1, nI_add, pk_mul, nI_ltI, nI_leI, nI_eq, nI_clamp, zn_in, zn_sub1lt, zn_M, zn_Ml, zn_Mg, zn_Mle, zn_Mge, zn_sub, Nat.reduceAdd, Nat.reduceMul, forall_eq, true_imp_iff, false_imp_iff, and_true, true_and, not_true_eq_false, not_false_eq_true, reduceCtorEq, imp_self, eq_self, false_and, and_false, implies_true]
      exact K _ (po_M.q0 h ok _)
  by_cases g : 2 ^ q 4 - 1 < j
  · refine ⟨nM, 1, q, ok, ?_, ?_⟩
    · intro c d I L R hcd h hc hd hz Q K
      simp (disch := omega) only [wp_U_aim, wp_U_isPlacing, wp_U_isSet, wp_U_within, wp_U_refused, hc, h.n4, zn_shl, zi_0, zi_1, zi_2, zi_3, zi_4, zi_5, zi_6, zi_7, zi_8, zi_9, zi_10, zi_11, zi_12, zi_13, zi_14, zi_15, zi_16, zi_17, zi_18, zi_19, zi_20, zi_21, zi_22, zi_23, zi_24, zi_25, zi_26, zi_30, zi_31, zi_32, zi_34, zi_38, zi_59, zi_60, zi_61, zi_63, zi_64, zi_80, zi_96, zi_97, zi_99, zi_100, zi_122, zi_255, zi_256, zi_300, zi_398, zi_406, zi_900, zi_1000, zi_1024, zi_1624, zi_1662, zi_2030, zi_2031, zi_2068, zi_2258, zi_9999, zi_48, zi_57, zi_65536, zi_3257, zi_11483, zi_1000000, zi_729, zi_81, zi_m1, nI_add, pk_mul, nI_ltI, nI_leI, nI_eq, nI_clamp, zn_in, zn_sub1lt, zn_M, zn_Ml, zn_Mg, zn_Mle, zn_Mge, zn_sub, Nat.reduceAdd, Nat.reduceMul, forall_eq, true_imp_iff, false_imp_iff, and_true, true_and, not_true_eq_false, not_false_eq_true, reduceCtorEq, imp_self, eq_self, false_and, and_false, implies_true]
      repeat' (first | omega | with_reducible refine And.intro ?_ ?_ | with_reducible intro g)
      exact K _ (po_U.q0 h hcd _)
    · intro I L R h Q K
      simp (disch := omega) only [wp_M_aim, wp_M_isPlacing, wp_M_areDogs, wp_M_isFrom, wp_M_refuse, h.n4, zk_shl, zk_sub, zj_0, zj_1, zj_2, zj_4, zj_6, zj_7, zj_8, zj_16, zj_20, zj_60, zj_63, zj_64, zj_99, zj_9999, nI_l, zk_lt, zk_le, zk_eq, zk_add, zk_in, zi_0, zi_1, zi_2, zi_3, zi_4, zi_5, zi_6, zi_7, zi_8, zi_9, zi_10, zi_11, zi_12, zi_13, zi_14, zi_15, zi_16, zi_17, zi_18, zi_19, zi_20, zi_21, zi_22, zi_23, zi_24, zi_25, zi_26, zi_30, zi_31, zi_32, zi_34, zi_38, zi_59, zi_60, zi_61, zi_63, zi_64, zi_80, zi_96, zi_97, zi_99, zi_100, zi_122, zi_255, zi_256, zi_300, zi_398, zi_406, zi_900, zi_1000, zi_1024, zi_1624, zi_1662, zi_2030, zi_2031, zi_2068, zi_2258, zi_9999, zi_48, zi_57, zi_65536, zi_3257, zi_11483, zi_1000000, zi_729, zi_81, zi_m1, nI_add, pk_mul, nI_ltI, nI_leI, nI_eq, nI_clamp, zn_in, zn_sub1lt, zn_M, zn_Ml, zn_Mg, zn_Mle, zn_Mge, zn_sub, Nat.reduceAdd, Nat.reduceMul, forall_eq, true_imp_iff, false_imp_iff, and_true, true_and, not_true_eq_false, not_false_eq_true, reduceCtorEq, imp_self, eq_self, false_and, and_false, implies_true]
      repeat' (first | omega | with_reducible refine And.intro ?_ ?_ | with_reducible intro g)
      exact K _ (po_M.q0 h ok _)
  have j16 : j < 16 := by omega
  rcases zc p2 with hp | ⟨k, hk, rfl⟩
  · refine ⟨nM, 1, q, ok, ?_, ?_⟩
    · intro c d I L R hcd h hc hd hz Q K
      simp (disch := omega) only [wp_U_aim, wp_U_isPlacing, wp_U_isSet, wp_U_within, wp_U_refused, hc, h.n4, zn_shl, hp, zi_0, zi_1, zi_2, zi_3, zi_4, zi_5, zi_6, zi_7, zi_8, zi_9, zi_10, zi_11, zi_12, zi_13, zi_14, zi_15, zi_16, zi_17, zi_18, zi_19, zi_20, zi_21, zi_22, zi_23, zi_24, zi_25, zi_26, zi_30, zi_31, zi_32, zi_34, zi_38, zi_59, zi_60, zi_61, zi_63, zi_64, zi_80, zi_96, zi_97, zi_99, zi_100, zi_122, zi_255, zi_256, zi_300, zi_398, zi_406, zi_900, zi_1000, zi_1024, zi_1624, zi_1662, zi_2030, zi_2031, zi_2068, zi_2258, zi_9999, zi_48, zi_57, zi_65536, zi_3257, zi_11483, zi_1000000, zi_729, zi_81, zi_m1, nI_add, pk_mul, nI_ltI, nI_leI, nI_eq, nI_clamp, zn_in, zn_sub1lt, zn_M, zn_Ml, zn_Mg, zn_Mle, zn_Mge, zn_sub, Nat.reduceAdd, Nat.reduceMul, forall_eq, true_imp_iff, false_imp_iff, and_true, true_and, not_true_eq_false, not_false_eq_true, reduceCtorEq, imp_self, eq_self, false_and, and_false, implies_true]
      repeat' (first | omega | with_reducible refine And.intro ?_ ?_ | with_reducible intro g)
      exact K _ (po_U.q0 h hcd _)
    · intro I L R h Q K
      simp (disch := omega) only [wp_M_aim, wp_M_isPlacing, wp_M_areDogs, wp_M_isFrom, wp_M_refuse, h.n4, zk_shl, zk_sub, zj_0, zj_1, zj_2, zj_4, zj_6, zj_7, zj_8, zj_16, zj_20, zj_60, zj_63, zj_64, zj_99, zj_9999, nI_l, zk_lt, zk_le, zk_eq, zk_add, zk_in, hp, zf_n hp, zi_0, zi_1, zi_2, zi_3, zi_4, zi_5, zi_6, zi_7, zi_8, zi_9, zi_10, zi_11, zi_12, zi_13, zi_14, zi_15, zi_16, zi_17, zi_18, zi_19, zi_20, zi_21, zi_22, zi_23, zi_24, zi_25, zi_26, zi_30, zi_31, zi_32, zi_34, zi_38, zi_59, zi_60, zi_61, zi_63, zi_64, zi_80, zi_96, zi_97, zi_99, zi_100, zi_122, zi_255, zi_256, zi_300, zi_398, zi_406, zi_900, zi_1000, zi_1024, zi_1624, zi_1662, zi_2030, zi_2031, zi_2068, zi_2258, zi_9999, zi_48, zi_57, zi_65536, zi_3257, zi_11483, zi_1000000, zi_729, zi_81, zi_m1, nI_add, pk_mul, nI_ltI, nI_leI, nI_eq, nI_clamp, zn_in, zn_sub1lt, zn_M, zn_Ml, zn_Mg, zn_Mle, zn_Mge, zn_sub, Nat.reduceAdd, Nat.reduceMul, forall_eq, true_imp_iff, false_imp_iff, and_true, true_and, not_true_eq_false, not_false_eq_true, reduceCtorEq, imp_self, eq_self, false_and, and_false, implies_true]
      repeat' (first | omega | with_reducible refine And.intro ?_ ?_ | with_reducible intro g)
      exact K _ (po_M.q0 h ok _)
  by_cases gk : 4 < k
  · refine ⟨nM, 1, q, ok, ?_, ?_⟩
    · intro c d I L R hcd h hc hd hz Q K
      simp (disch := omega) only [wp_U_aim, wp_U_isPlacing, wp_U_isSet, wp_U_within, wp_U_refused, hc, h.n4, zn_shl, zi_0, zi_1, zi_2, zi_3, zi_4, zi_5, zi_6, zi_7, zi_8, zi_9, zi_10, zi_11, zi_12, zi_13, zi_14, zi_15, zi_16, zi_17, zi_18, zi_19, zi_20, zi_21, zi_22, zi_23, zi_24, zi_25, zi_26, zi_30, zi_31, zi_32, zi_34, zi_38, zi_59, zi_60, zi_61, zi_63, zi_64, zi_80, zi_96, zi_97, zi_99, zi_100, zi_122, zi_255, zi_256, zi_300, zi_398, zi_406, zi_900, zi_1000, zi_1024, zi_1624, zi_1662, zi_2030, zi_2031, zi_2068, zi_2258, zi_9999, zi_48, zi_57, zi_65536, zi_3257, zi_11483, zi_1000000, zi_729, zi_81, zi_m1, nI_add, pk_mul, nI_ltI, nI_leI, nI_eq, nI_clamp, zn_in, zn_sub1lt, zn_M, zn_Ml, zn_Mg, zn_Mle, zn_Mge, zn_sub, Nat.reduceAdd, Nat.reduceMul, forall_eq, true_imp_iff, false_imp_iff, and_true, true_and, not_true_eq_false, not_false_eq_true, reduceCtorEq, imp_self, eq_self, false_and, and_false, implies_true]
      repeat' (first | omega | with_reducible refine And.intro ?_ ?_ | with_reducible intro g)
      exact K _ (po_U.q0 h hcd _)
    · intro I L R h Q K
      simp (disch := omega) only [wp_M_aim, wp_M_isPlacing, wp_M_areDogs, wp_M_isFrom, wp_M_refuse, h.n4, zk_shl, zk_sub, zj_0, zj_1, zj_2, zj_4, zj_6, zj_7, zj_8, zj_16, zj_20, zj_60, zj_63, zj_64, zj_99, zj_9999, nI_l, zk_lt, zk_le, zk_eq, zk_add, zk_in, zi_0, zi_1, zi_2, zi_3, zi_4, zi_5, zi_6, zi_7, zi_8, zi_9, zi_10, zi_11, zi_12, zi_13, zi_14, zi_15, zi_16, zi_17, zi_18, zi_19, zi_20, zi_21, zi_22, zi_23, zi_24, zi_25, zi_26, zi_30, zi_31, zi_32, zi_34, zi_38, zi_59, zi_60, zi_61, zi_63, zi_64, zi_80, zi_96, zi_97, zi_99, zi_100, zi_122, zi_255, zi_256, zi_300, zi_398, zi_406, zi_900, zi_1000, zi_1024, zi_1624, zi_1662, zi_2030, zi_2031, zi_2068, zi_2258, zi_9999, zi_48, zi_57, zi_65536, zi_3257, zi_11483, zi_1000000, zi_729, zi_81, zi_m1, nI_add, pk_mul, nI_ltI, nI_leI, nI_eq, nI_clamp, zn_in, zn_sub1lt, zn_M, zn_Ml, zn_Mg, zn_Mle, zn_Mge, zn_sub, Nat.reduceAdd, Nat.reduceMul, forall_eq, true_imp_iff, false_imp_iff, and_true, true_and, not_true_eq_false, not_false_eq_true, reduceCtorEq, imp_self, eq_self, false_and, and_false, implies_true]
      repeat' (first | omega | with_reducible refine And.intro ?_ ?_ | with_reducible intro g)
      exact K _ (po_M.q0 h ok _)
  have al : pw_all q j k < 2 ^ 26 := pw_lt ok _ _ _
  have bl := pw_best_lt (q := q) j k (q 0 * q 1) (by omega)
  by_cases e : pw_all q j k = 0
  · refine ⟨nM, 6, q, ok, ?_, ?_⟩
    · intro c d I L R hcd h hc hd hz Q K
      simp (disch := omega) only [wp_U_aim, wp_U_isPlacing, wp_U_isSet, wp_U_within, wp_U_refused, hc, h.n4, zn_shl, zi_0, zi_1, zi_2, zi_3, zi_4, zi_5, zi_6, zi_7, zi_8, zi_9, zi_10, zi_11, zi_12, zi_13, zi_14, zi_15, zi_16, zi_17, zi_18, zi_19, zi_20, zi_21, zi_22, zi_23, zi_24, zi_25, zi_26, zi_30, zi_31, zi_32, zi_34, zi_38, zi_59, zi_60, zi_61, zi_63, zi_64, zi_80, zi_96, zi_97, zi_99, zi_100, zi_122, zi_255, zi_256, zi_300, zi_398, zi_406, zi_900, zi_1000, zi_1024, zi_1624, zi_1662, zi_2030, zi_2031, zi_2068, zi_2258, zi_9999, zi_48, zi_57, zi_65536, zi_3257, zi_11483, zi_1000000, zi_729, zi_81, zi_m1, nI_add, pk_mul, nI_ltI, nI_leI, nI_eq, nI_clamp, zn_in, zn_sub1lt, zn_M, zn_Ml, zn_Mg, zn_Mle, zn_Mge, zn_sub, Nat.reduceAdd, Nat.reduceMul, forall_eq, true_imp_iff, false_imp_iff, and_true, true_and, not_true_eq_false, not_false_eq_true, reduceCtorEq, imp_self, eq_self, false_and, and_false, implies_true]
      repeat' (first | omega | with_reducible refine And.intro ?_ ?_ | with_reducible intro g)
      refine su_lookP h hcd ok (fun I1 p1 f1 => ?_)
      obtain ⟨s1, s2⟩ := pl_frU hcd h (I1 := I1) (fun r a b _ => f1 r a b)
      refine su_most s1 p1 ok j16 (by omega) ?_
      rw [if_pos e]
      simp (disch := omega) only [wp_U_answeredIfThereIs, wp_U_refused, wp_U_answered, zi_0, zi_1, zi_2, zi_3, zi_4, zi_5, zi_6, zi_7, zi_8, zi_9, zi_10, zi_11, zi_12, zi_13, zi_14, zi_15, zi_16, zi_17, zi_18, zi_19, zi_20, zi_21, zi_22, zi_23, zi_24, zi_25, zi_26, zi_30, zi_31, zi_32, zi_34, zi_38, zi_59, zi_60, zi_61, zi_63, zi_64, zi_80, zi_96, zi_97, zi_99, zi_100, zi_122, zi_255, zi_256, zi_300, zi_398, zi_406, zi_900, zi_1000, zi_1024, zi_1624, zi_1662, zi_2030, zi_2031, zi_2068, zi_2258, zi_9999, zi_48, zi_57, zi_65536, zi_3257, zi_11483, zi_1000000, zi_729, zi_81, zi_m1, nI_add, pk_mul, nI_ltI, nI_leI, nI_eq, nI_clamp, zn_in, zn_sub1lt, zn_M, zn_Ml, zn_Mg, zn_Mle, zn_Mge, zn_sub, Nat.reduceAdd, Nat.reduceMul, forall_eq, true_imp_iff, false_imp_iff, and_true, true_and, not_true_eq_false, not_false_eq_true, reduceCtorEq, imp_self, eq_self, false_and, and_false, implies_true]
      repeat' (first | omega | with_reducible refine And.intro ?_ ?_ | with_reducible intro g)
      exact K _ (po_U.of s1 hcd s2 _)
    · intro I L R h Q K
      simp (disch := omega) only [wp_M_aim, wp_M_isPlacing, wp_M_areDogs, wp_M_isFrom, wp_M_refuse, h.n4, zk_shl, zk_sub, zj_0, zj_1, zj_2, zj_4, zj_6, zj_7, zj_8, zj_16, zj_20, zj_60, zj_63, zj_64, zj_99, zj_9999, nI_l, zk_lt, zk_le, zk_eq, zk_add, zk_in, zi_0, zi_1, zi_2, zi_3, zi_4, zi_5, zi_6, zi_7, zi_8, zi_9, zi_10, zi_11, zi_12, zi_13, zi_14, zi_15, zi_16, zi_17, zi_18, zi_19, zi_20, zi_21, zi_22, zi_23, zi_24, zi_25, zi_26, zi_30, zi_31, zi_32, zi_34, zi_38, zi_59, zi_60, zi_61, zi_63, zi_64, zi_80, zi_96, zi_97, zi_99, zi_100, zi_122, zi_255, zi_256, zi_300, zi_398, zi_406, zi_900, zi_1000, zi_1024, zi_1624, zi_1662, zi_2030, zi_2031, zi_2068, zi_2258, zi_9999, zi_48, zi_57, zi_65536, zi_3257, zi_11483, zi_1000000, zi_729, zi_81, zi_m1, nI_add, pk_mul, nI_ltI, nI_leI, nI_eq, nI_clamp, zn_in, zn_sub1lt, zn_M, zn_Ml, zn_Mg, zn_Mle, zn_Mge, zn_sub, Nat.reduceAdd, Nat.reduceMul, forall_eq, true_imp_iff, false_imp_iff, and_true, true_and, not_true_eq_false, not_false_eq_true, reduceCtorEq, imp_self, eq_self, false_and, and_false, implies_true]
      repeat' (first | omega | with_reducible refine And.intro ?_ ?_ | with_reducible intro g)
      refine sm_laysP h ok j16 (by omega) (fun I1 p1 f1 => ?_)
      rw [p1.1]
      simp (disch := omega) only [wp_M_refuse, zi_0, zi_1, zi_2, zi_3, zi_4, zi_5, zi_6, zi_7, zi_8, zi_9, zi_10, zi_11, zi_12, zi_13, zi_14, zi_15, zi_16, zi_17, zi_18, zi_19, zi_20, zi_21, zi_22, zi_23, zi_24, zi_25, zi_26, zi_30, zi_31, zi_32, zi_34, zi_38, zi_59, zi_60, zi_61, zi_63, zi_64, zi_80, zi_96, zi_97, zi_99, zi_100, zi_122, zi_255, zi_256, zi_300, zi_398, zi_406, zi_900, zi_1000, zi_1024, zi_1624, zi_1662, zi_2030, zi_2031, zi_2068, zi_2258, zi_9999, zi_48, zi_57, zi_65536, zi_3257, zi_11483, zi_1000000, zi_729, zi_81, zi_m1, nI_add, pk_mul, nI_ltI, nI_leI, nI_eq, nI_clamp, zn_in, zn_sub1lt, zn_M, zn_Ml, zn_Mg, zn_Mle, zn_Mge, zn_sub, Nat.reduceAdd, Nat.reduceMul, forall_eq, true_imp_iff, false_imp_iff, and_true, true_and, not_true_eq_false, not_false_eq_true, reduceCtorEq, imp_self, eq_self, false_and, and_false, implies_true]
      refine ⟨fun _ => ?_, fun g => absurd e g⟩
      exact K _ (po_M.of (f1.sq h ok) ok f1.toM _)
  · refine ⟨nI (pw_best q j k (q 0 * q 1)), 0, q, ok, ?_, ?_⟩
    · intro c d I L R hcd h hc hd hz Q K
      simp (disch := omega) only [wp_U_aim, wp_U_isPlacing, wp_U_isSet, wp_U_within, wp_U_refused, hc, h.n4, zn_shl, zi_0, zi_1, zi_2, zi_3, zi_4, zi_5, zi_6, zi_7, zi_8, zi_9, zi_10, zi_11, zi_12, zi_13, zi_14, zi_15, zi_16, zi_17, zi_18, zi_19, zi_20, zi_21, zi_22, zi_23, zi_24, zi_25, zi_26, zi_30, zi_31, zi_32, zi_34, zi_38, zi_59, zi_60, zi_61, zi_63, zi_64, zi_80, zi_96, zi_97, zi_99, zi_100, zi_122, zi_255, zi_256, zi_300, zi_398, zi_406, zi_900, zi_1000, zi_1024, zi_1624, zi_1662, zi_2030, zi_2031, zi_2068, zi_2258, zi_9999, zi_48, zi_57, zi_65536, zi_3257, zi_11483, zi_1000000, zi_729, zi_81, zi_m1, nI_add, pk_mul, nI_ltI, nI_leI, nI_eq, nI_clamp, zn_in, zn_sub1lt, zn_M, zn_Ml, zn_Mg, zn_Mle, zn_Mge, zn_sub, Nat.reduceAdd, Nat.reduceMul, forall_eq, true_imp_iff, false_imp_iff, and_true, true_and, not_true_eq_false, not_false_eq_true, reduceCtorEq, imp_self, eq_self, false_and, and_false, implies_true]
      repeat' (first | omega | with_reducible refine And.intro ?_ ?_ | with_reducible intro g)
      refine su_lookP h hcd ok (fun I1 p1 f1 => ?_)
      obtain ⟨s1, s2⟩ := pl_frU hcd h (I1 := I1) (fun r a b _ => f1 r a b)
      refine su_most s1 p1 ok j16 (by omega) ?_
      rw [if_neg e]
      simp (disch := omega) only [wp_U_answeredIfThereIs, wp_U_refused, wp_U_answered, zi_0, zi_1, zi_2, zi_3, zi_4, zi_5, zi_6, zi_7, zi_8, zi_9, zi_10, zi_11, zi_12, zi_13, zi_14, zi_15, zi_16, zi_17, zi_18, zi_19, zi_20, zi_21, zi_22, zi_23, zi_24, zi_25, zi_26, zi_30, zi_31, zi_32, zi_34, zi_38, zi_59, zi_60, zi_61, zi_63, zi_64, zi_80, zi_96, zi_97, zi_99, zi_100, zi_122, zi_255, zi_256, zi_300, zi_398, zi_406, zi_900, zi_1000, zi_1024, zi_1624, zi_1662, zi_2030, zi_2031, zi_2068, zi_2258, zi_9999, zi_48, zi_57, zi_65536, zi_3257, zi_11483, zi_1000000, zi_729, zi_81, zi_m1, nI_add, pk_mul, nI_ltI, nI_leI, nI_eq, nI_clamp, zn_in, zn_sub1lt, zn_M, zn_Ml, zn_Mg, zn_Mle, zn_Mge, zn_sub, Nat.reduceAdd, Nat.reduceMul, forall_eq, true_imp_iff, false_imp_iff, and_true, true_and, not_true_eq_false, not_false_eq_true, reduceCtorEq, imp_self, eq_self, false_and, and_false, implies_true]
      repeat' (first | omega | with_reducible refine And.intro ?_ ?_ | with_reducible intro g)
      exact K _ (po_U.of s1 hcd s2 _)
    · intro I L R h Q K
      simp (disch := omega) only [wp_M_aim, wp_M_isPlacing, wp_M_areDogs, wp_M_isFrom, wp_M_refuse, h.n4, zk_shl, zk_sub, zj_0, zj_1, zj_2, zj_4, zj_6, zj_7, zj_8, zj_16, zj_20, zj_60, zj_63, zj_64, zj_99, zj_9999, nI_l, zk_lt, zk_le, zk_eq, zk_add, zk_in, zi_0, zi_1, zi_2, zi_3, zi_4, zi_5, zi_6, zi_7, zi_8, zi_9, zi_10, zi_11, zi_12, zi_13, zi_14, zi_15, zi_16, zi_17, zi_18, zi_19, zi_20, zi_21, zi_22, zi_23, zi_24, zi_25, zi_26, zi_30, zi_31, zi_32, zi_34, zi_38, zi_59, zi_60, zi_61, zi_63, zi_64, zi_80, zi_96, zi_97, zi_99, zi_100, zi_122, zi_255, zi_256, zi_300, zi_398, zi_406, zi_900, zi_1000, zi_1024, zi_1624, zi_1662, zi_2030, zi_2031, zi_2068, zi_2258, zi_9999, zi_48, zi_57, zi_65536, zi_3257, zi_11483, zi_1000000, zi_729, zi_81, zi_m1, nI_add, pk_mul, nI_ltI, nI_leI, nI_eq, nI_clamp, zn_in, zn_sub1lt, zn_M, zn_Ml, zn_Mg, zn_Mle, zn_Mge, zn_sub, Nat.reduceAdd, Nat.reduceMul, forall_eq, true_imp_iff, false_imp_iff, and_true, true_and, not_true_eq_false, not_false_eq_true, reduceCtorEq, imp_self, eq_self, false_and, and_false, implies_true]
      repeat' (first | omega | with_reducible refine And.intro ?_ ?_ | with_reducible intro g)
      refine sm_laysP h ok j16 (by omega) (fun I1 p1 f1 => ?_)
      rw [p1.1]
      simp (disch := omega) only [wp_M_refuse, zi_0, zi_1, zi_2, zi_3, zi_4, zi_5, zi_6, zi_7, zi_8, zi_9, zi_10, zi_11, zi_12, zi_13, zi_14, zi_15, zi_16, zi_17, zi_18, zi_19, zi_20, zi_21, zi_22, zi_23, zi_24, zi_25, zi_26, zi_30, zi_31, zi_32, zi_34, zi_38, zi_59, zi_60, zi_61, zi_63, zi_64, zi_80, zi_96, zi_97, zi_99, zi_100, zi_122, zi_255, zi_256, zi_300, zi_398, zi_406, zi_900, zi_1000, zi_1024, zi_1624, zi_1662, zi_2030, zi_2031, zi_2068, zi_2258, zi_9999, zi_48, zi_57, zi_65536, zi_3257, zi_11483, zi_1000000, zi_729, zi_81, zi_m1, nI_add, pk_mul, nI_ltI, nI_leI, nI_eq, nI_clamp, zn_in, zn_sub1lt, zn_M, zn_Ml, zn_Mg, zn_Mle, zn_Mge, zn_sub, Nat.reduceAdd, Nat.reduceMul, forall_eq, true_imp_iff, false_imp_iff, and_true, true_and, not_true_eq_false, not_false_eq_true, reduceCtorEq, imp_self, eq_self, false_and, and_false, implies_true]
      refine ⟨fun g => absurd g e, fun _ => ?_⟩
      have b1 : pw_best q j k 1 = 0 := by rw [pw_best, if_pos rfl]
      have cmp : ∀ a b, iI ((pw_all q j k : Int) - pw_mis q j k a) ≤ iI ((pw_all q j k : Int) - pw_mis q j k b) ↔ pw_mis q j k b ≤ pw_mis q j k a := fun a b => by
        have ha : pw_mis q j k a ≤ pw_all q j k := wd_le _ _ _
        have hb : pw_mis q j k b ≤ pw_all q j k := wd_le _ _ _
        rw [show (pw_all q j k : Int) - pw_mis q j k a = ((pw_all q j k - pw_mis q j k a : Nat) : Int) by omega, show (pw_all q j k : Int) - pw_mis q j k b = ((pw_all q j k - pw_mis q j k b : Nat) : Int) by omega, ← iI_n, ← iI_n, nI_leI (by omega) (by omega)]
        omega
      have st := zl_up (P := fun f m => 0 < m → wl_M_aim_40 L R 103 (nI j) (nI k) Q f I1 (nI (pw_best q j k m)) (nI m)) (q 0 * q 1) (fun f _ => by
        rw [wl_M_aim_40]
        refine sm_cells (f1.sq h ok) ?_
        simp (disch := omega) only [wp_M_gives, zi_0, zi_1, zi_2, zi_3, zi_4, zi_5, zi_6, zi_7, zi_8, zi_9, zi_10, zi_11, zi_12, zi_13, zi_14, zi_15, zi_16, zi_17, zi_18, zi_19, zi_20, zi_21, zi_22, zi_23, zi_24, zi_25, zi_26, zi_30, zi_31, zi_32, zi_34, zi_38, zi_59, zi_60, zi_61, zi_63, zi_64, zi_80, zi_96, zi_97, zi_99, zi_100, zi_122, zi_255, zi_256, zi_300, zi_398, zi_406, zi_900, zi_1000, zi_1024, zi_1624, zi_1662, zi_2030, zi_2031, zi_2068, zi_2258, zi_9999, zi_48, zi_57, zi_65536, zi_3257, zi_11483, zi_1000000, zi_729, zi_81, zi_m1, nI_add, pk_mul, nI_ltI, nI_leI, nI_eq, nI_clamp, zn_in, zn_sub1lt, zn_M, zn_Ml, zn_Mg, zn_Mle, zn_Mge, zn_sub, Nat.reduceAdd, Nat.reduceMul, forall_eq, true_imp_iff, false_imp_iff, and_true, true_and, not_true_eq_false, not_false_eq_true, reduceCtorEq, imp_self, eq_self, false_and, and_false, implies_true]
        refine ⟨fun _ => ?_, fun g => absurd (Nat.le_refl _) g⟩
        exact K _ (po_M.of (f1.sq h ok) ok f1.toM _)) (fun f m hm ih h0 => by
        have i2 := ih (by omega)
        have bl := pw_best_lt (q := q) j k m h0
        rw [pw_best, if_neg (by omega)] at i2
        rw [wl_M_aim_40]
        refine sm_cells (f1.sq h ok) ?_
        simp (disch := omega) only [(p1.2 m hm).2, (p1.2 (pw_best q j k m) (by omega)).2, cmp, zi_0, zi_1, zi_2, zi_3, zi_4, zi_5, zi_6, zi_7, zi_8, zi_9, zi_10, zi_11, zi_12, zi_13, zi_14, zi_15, zi_16, zi_17, zi_18, zi_19, zi_20, zi_21, zi_22, zi_23, zi_24, zi_25, zi_26, zi_30, zi_31, zi_32, zi_34, zi_38, zi_59, zi_60, zi_61, zi_63, zi_64, zi_80, zi_96, zi_97, zi_99, zi_100, zi_122, zi_255, zi_256, zi_300, zi_398, zi_406, zi_900, zi_1000, zi_1024, zi_1624, zi_1662, zi_2030, zi_2031, zi_2068, zi_2258, zi_9999, zi_48, zi_57, zi_65536, zi_3257, zi_11483, zi_1000000, zi_729, zi_81, zi_m1, nI_add, pk_mul, nI_ltI, nI_leI, nI_eq, nI_clamp, zn_in, zn_sub1lt, zn_M, zn_Ml, zn_Mg, zn_Mle, zn_Mge, zn_sub, Nat.reduceAdd, Nat.reduceMul]
        refine ⟨fun g => absurd g (by omega), fun _ => ⟨by omega, by omega, fun g => ?_, fun g => ?_⟩⟩
        · rw [if_neg (by omega)] at i2; exact i2
        · rw [if_pos (by omega)] at i2; exact i2) 1 (by omega)
      rw [b1] at st
      exact st.elim fun z hz => ⟨z, hz (by omega)⟩
theorem op_oddsThat (ok : sq_Ok q) (T B : Int64) (p1 p2 p3 : Int32) : si_T q T B (fun I L R Q => wp_U_oddsThat I L R 0 p1 p2 p3 Q) (fun I L R Q => wp_M_oddsThat I L R 103 p1 p2 p3 Q) := by
  have o4 := ok.1.2.2.1
  have o := ok.cells
  have n4 : 2 ^ q 4 ≤ 16 ∧ 1 ≤ 2 ^ q 4 := ⟨Nat.pow_le_pow_right (n := 2) (by decide) o4.2.2.1, Nat.one_le_two_pow⟩
  rcases zc p1 with hp | ⟨j, hj, rfl⟩
  · refine ⟨false, 1, q, T, B, ok, ?_, ?_⟩
    · intro c d I L R hcd h hc hd hz hT hB Q K
      simp (disch := omega) only [wp_U_oddsThat, wb_U_oddsThat_20, wp_U_isPlacing, wp_Square_hasCell, wp_Square_cells, wp_U_isSet, wp_U_within, wp_U_settled, hc, h.n0, h.n1, h.n4, zn_shl, hp, zi_0, zi_1, zi_2, zi_3, zi_4, zi_5, zi_6, zi_7, zi_8, zi_9, zi_10, zi_11, zi_12, zi_13, zi_14, zi_15, zi_16, zi_17, zi_18, zi_19, zi_20, zi_21, zi_22, zi_23, zi_24, zi_25, zi_26, zi_30, zi_31, zi_32, zi_34, zi_38, zi_59, zi_60, zi_61, zi_63, zi_64, zi_80, zi_96, zi_97, zi_99, zi_100, zi_122, zi_255, zi_256, zi_300, zi_398, zi_406, zi_900, zi_1000, zi_1024, zi_1624, zi_1662, zi_2030, zi_2031, zi_2068, zi_2258, zi_9999, zi_48, zi_57, zi_65536, zi_3257, zi_11483, zi_1000000, zi_729, zi_81, zi_m1, nI_add, pk_mul, nI_ltI, nI_leI, nI_eq, nI_clamp, zn_in, zn_sub1lt, zn_M, zn_Ml, zn_Mg, zn_Mle, zn_Mge, zn_sub, Nat.reduceAdd, Nat.reduceMul, forall_eq, true_imp_iff, false_imp_iff, and_true, true_and, not_true_eq_false, not_false_eq_true, reduceCtorEq, imp_self, eq_self, false_and, and_false, implies_true]
      repeat' (first | omega | with_reducible refine And.intro ?_ ?_ | with_reducible intro g)
      all_goals exact K _ _ (pt_U.q0 h hcd hT hB _)
    · intro I L R h hT hB Q K
      simp (disch := omega) only [wp_M_oddsThat, wb_M_oddsThat_17, wp_M_isPlacing, wp_M_isCell, wp_M_cellsOf, wp_M_areDogs, wp_M_isFrom, wp_M_is, h.n0, h.n1, h.n4, zk_shl, zk_sub, zj_0, zj_1, zj_2, zj_4, zj_6, zj_7, zj_8, zj_16, zj_20, zj_60, zj_63, zj_64, zj_99, zj_9999, nI_l, zk_lt, zk_le, zk_eq, zk_add, zk_in, hp, zc_e hp, zf_n hp, zi_0, zi_1, zi_2, zi_3, zi_4, zi_5, zi_6, zi_7, zi_8, zi_9, zi_10, zi_11, zi_12, zi_13, zi_14, zi_15, zi_16, zi_17, zi_18, zi_19, zi_20, zi_21, zi_22, zi_23, zi_24, zi_25, zi_26, zi_30, zi_31, zi_32, zi_34, zi_38, zi_59, zi_60, zi_61, zi_63, zi_64, zi_80, zi_96, zi_97, zi_99, zi_100, zi_122, zi_255, zi_256, zi_300, zi_398, zi_406, zi_900, zi_1000, zi_1024, zi_1624, zi_1662, zi_2030, zi_2031, zi_2068, zi_2258, zi_9999, zi_48, zi_57, zi_65536, zi_3257, zi_11483, zi_1000000, zi_729, zi_81, zi_m1, nI_add, pk_mul, nI_ltI, nI_leI, nI_eq, nI_clamp, zn_in, zn_sub1lt, zn_M, zn_Ml, zn_Mg, zn_Mle, zn_Mge, zn_sub, Nat.reduceAdd, Nat.reduceMul, forall_eq, true_imp_iff, false_imp_iff, and_true, true_and, not_true_eq_false, not_false_eq_true, reduceCtorEq, imp_self, eq_self, false_and, and_false, implies_true]
      repeat' (first | omega | with_reducible refine And.intro ?_ ?_ | with_reducible intro g)
      all_goals exact K _ _ (pt_M.q0 h ok hT hB _)
  by_cases g : 2 ^ q 4 - 1 < j
  · refine ⟨false, 1, q, T, B, ok, ?_, ?_⟩
    · intro c d I L R hcd h hc hd hz hT hB Q K
      simp (disch := omega) only [wp_U_oddsThat, wb_U_oddsThat_20, wp_U_isPlacing, wp_Square_hasCell, wp_Square_cells, wp_U_isSet, wp_U_within, wp_U_settled, hc, h.n0, h.n1, h.n4, zn_shl, zi_0, zi_1, zi_2, zi_3, zi_4, zi_5, zi_6, zi_7, zi_8, zi_9, zi_10, zi_11, zi_12, zi_13, zi_14, zi_15, zi_16, zi_17, zi_18, zi_19, zi_20, zi_21, zi_22, zi_23, zi_24, zi_25, zi_26, zi_30, zi_31, zi_32, zi_34, zi_38, zi_59, zi_60, zi_61, zi_63, zi_64, zi_80, zi_96, zi_97, zi_99, zi_100, zi_122, zi_255, zi_256, zi_300, zi_398, zi_406, zi_900, zi_1000, zi_1024, zi_1624, zi_1662, zi_2030, zi_2031, zi_2068, zi_2258, zi_9999, zi_48, zi_57, zi_65536, zi_3257, zi_11483, zi_1000000, zi_729, zi_81, zi_m1, nI_add, pk_mul, nI_ltI, nI_leI, nI_eq, nI_clamp, zn_in, zn_sub1lt, zn_M, zn_Ml, zn_Mg, zn_Mle, zn_Mge, zn_sub, Nat.reduceAdd, Nat.reduceMul, forall_eq, true_imp_iff, false_imp_iff, and_true, true_and, not_true_eq_false, not_false_eq_true, reduceCtorEq, imp_self, eq_self, false_and, and_false, implies_true]
      repeat' (first | omega | with_reducible refine And.intro ?_ ?_ | with_reducible intro g)
      all_goals exact K _ _ (pt_U.q0 h hcd hT hB _)
    · intro I L R h hT hB Q K
      simp (disch := omega) only [wp_M_oddsThat, wb_M_oddsThat_17, wp_M_isPlacing, wp_M_isCell, wp_M_cellsOf, wp_M_areDogs, wp_M_isFrom, wp_M_is, h.n0, h.n1, h.n4, zk_shl, zk_sub, zj_0, zj_1, zj_2, zj_4, zj_6, zj_7, zj_8, zj_16, zj_20, zj_60, zj_63, zj_64, zj_99, zj_9999, nI_l, zk_lt, zk_le, zk_eq, zk_add, zk_in, zi_0, zi_1, zi_2, zi_3, zi_4, zi_5, zi_6, zi_7, zi_8, zi_9, zi_10, zi_11, zi_12, zi_13, zi_14, zi_15, zi_16, zi_17, zi_18, zi_19, zi_20, zi_21, zi_22, zi_23, zi_24, zi_25, zi_26, zi_30, zi_31, zi_32, zi_34, zi_38, zi_59, zi_60, zi_61, zi_63, zi_64, zi_80, zi_96, zi_97, zi_99, zi_100, zi_122, zi_255, zi_256, zi_300, zi_398, zi_406, zi_900, zi_1000, zi_1024, zi_1624, zi_1662, zi_2030, zi_2031, zi_2068, zi_2258, zi_9999, zi_48, zi_57, zi_65536, zi_3257, zi_11483, zi_1000000, zi_729, zi_81, zi_m1, nI_add, pk_mul, nI_ltI, nI_leI, nI_eq, nI_clamp, zn_in, zn_sub1lt, zn_M, zn_Ml, zn_Mg, zn_Mle, zn_Mge, zn_sub, Nat.reduceAdd, Nat.reduceMul, forall_eq, true_imp_iff, false_imp_iff, and_true, true_and, not_true_eq_false, not_false_eq_true, reduceCtorEq, imp_self, eq_self, false_and, and_false, implies_true]
      repeat' (first | omega | with_reducible refine And.intro ?_ ?_ | with_reducible intro g)
      all_goals exact K _ _ (pt_M.q0 h ok hT hB _)
  have j16 : j < 16 := by omega
  rcases zc p2 with hp | ⟨k, hk, rfl⟩
  · refine ⟨false, 1, q, T, B, ok, ?_, ?_⟩
    · intro c d I L R hcd h hc hd hz hT hB Q K
      simp (disch := omega) only [wp_U_oddsThat, wb_U_oddsThat_20, wp_U_isPlacing, wp_Square_hasCell, wp_Square_cells, wp_U_isSet, wp_U_within, wp_U_settled, hc, h.n0, h.n1, h.n4, zn_shl, hp, zi_0, zi_1, zi_2, zi_3, zi_4, zi_5, zi_6, zi_7, zi_8, zi_9, zi_10, zi_11, zi_12, zi_13, zi_14, zi_15, zi_16, zi_17, zi_18, zi_19, zi_20, zi_21, zi_22, zi_23, zi_24, zi_25, zi_26, zi_30, zi_31, zi_32, zi_34, zi_38, zi_59, zi_60, zi_61, zi_63, zi_64, zi_80, zi_96, zi_97, zi_99, zi_100, zi_122, zi_255, zi_256, zi_300, zi_398, zi_406, zi_900, zi_1000, zi_1024, zi_1624, zi_1662, zi_2030, zi_2031, zi_2068, zi_2258, zi_9999, zi_48, zi_57, zi_65536, zi_3257, zi_11483, zi_1000000, zi_729, zi_81, zi_m1, nI_add, pk_mul, nI_ltI, nI_leI, nI_eq, nI_clamp, zn_in, zn_sub1lt, zn_M, zn_Ml, zn_Mg, zn_Mle, zn_Mge, zn_sub, Nat.reduceAdd, Nat.reduceMul, forall_eq, true_imp_iff, false_imp_iff, and_true, true_and, not_true_eq_false, not_false_eq_true, reduceCtorEq, imp_self, eq_self, false_and, and_false, implies_true]
      repeat' (first | omega | with_reducible refine And.intro ?_ ?_ | with_reducible intro g)
      all_goals exact K _ _ (pt_U.q0 h hcd hT hB _)
    · intro I L R h hT hB Q K
      simp (disch := omega) only [wp_M_oddsThat, wb_M_oddsThat_17, wp_M_isPlacing, wp_M_isCell, wp_M_cellsOf, wp_M_areDogs, wp_M_isFrom, wp_M_is, h.n0, h.n1, h.n4, zk_shl, zk_sub, zj_0, zj_1, zj_2, zj_4, zj_6, zj_7, zj_8, zj_16, zj_20, zj_60, zj_63, zj_64, zj_99, zj_9999, nI_l, zk_lt, zk_le, zk_eq, zk_add, zk_in, hp, zf_n hp, zi_0, zi_1, zi_2, zi_3, zi_4, zi_5, zi_6, zi_7, zi_8, zi_9, zi_10, zi_11, zi_12, zi_13, zi_14, zi_15, zi_16, zi_17, zi_18, zi_19, zi_20, zi_21, zi_22, zi_23, zi_24, zi_25, zi_26, zi_30, zi_31, zi_32, zi_34, zi_38, zi_59, zi_60, zi_61, zi_63, zi_64, zi_80, zi_96, zi_97, zi_99, zi_100, zi_122, zi_255, zi_256, zi_300, zi_398, zi_406, zi_900, zi_1000, zi_1024, zi_1624, zi_1662, zi_2030, zi_2031, zi_2068, zi_2258, zi_9999, zi_48, zi_57, zi_65536, zi_3257, zi_11483, zi_1000000, zi_729, zi_81, zi_m1, nI_add, pk_mul, nI_ltI, nI_leI, nI_eq, nI_clamp, zn_in, zn_sub1lt, zn_M, zn_Ml, zn_Mg, zn_Mle, zn_Mge, zn_sub, Nat.reduceAdd, Nat.reduceMul, forall_eq, true_imp_iff, false_imp_iff, and_true, true_and, not_true_eq_false, not_false_eq_true, reduceCtorEq, imp_self, eq_self, false_and, and_false, implies_true]
      repeat' (first | omega | with_reducible refine And.intro ?_ ?_ | with_reducible intro g)
      all_goals exact K _ _ (pt_M.q0 h ok hT hB _)
  by_cases gk : 4 < k
  · refine ⟨false, 1, q, T, B, ok, ?_, ?_⟩
    · intro c d I L R hcd h hc hd hz hT hB Q K
      simp (disch := omega) only [wp_U_oddsThat, wb_U_oddsThat_20, wp_U_isPlacing, wp_Square_hasCell, wp_Square_cells, wp_U_isSet, wp_U_within, wp_U_settled, hc, h.n0, h.n1, h.n4, zn_shl, zi_0, zi_1, zi_2, zi_3, zi_4, zi_5, zi_6, zi_7, zi_8, zi_9, zi_10, zi_11, zi_12, zi_13, zi_14, zi_15, zi_16, zi_17, zi_18, zi_19, zi_20, zi_21, zi_22, zi_23, zi_24, zi_25, zi_26, zi_30, zi_31, zi_32, zi_34, zi_38, zi_59, zi_60, zi_61, zi_63, zi_64, zi_80, zi_96, zi_97, zi_99, zi_100, zi_122, zi_255, zi_256, zi_300, zi_398, zi_406, zi_900, zi_1000, zi_1024, zi_1624, zi_1662, zi_2030, zi_2031, zi_2068, zi_2258, zi_9999, zi_48, zi_57, zi_65536, zi_3257, zi_11483, zi_1000000, zi_729, zi_81, zi_m1, nI_add, pk_mul, nI_ltI, nI_leI, nI_eq, nI_clamp, zn_in, zn_sub1lt, zn_M, zn_Ml, zn_Mg, zn_Mle, zn_Mge, zn_sub, Nat.reduceAdd, Nat.reduceMul, forall_eq, true_imp_iff, false_imp_iff, and_true, true_and, not_true_eq_false, not_false_eq_true, reduceCtorEq, imp_self, eq_self, false_and, and_false, implies_true]
      repeat' (first | omega | with_reducible refine And.intro ?_ ?_ | with_reducible intro g)
      all_goals exact K _ _ (pt_U.q0 h hcd hT hB _)
    · intro I L R h hT hB Q K
      simp (disch := omega) only [wp_M_oddsThat, wb_M_oddsThat_17, wp_M_isPlacing, wp_M_isCell, wp_M_cellsOf, wp_M_areDogs, wp_M_isFrom, wp_M_is, h.n0, h.n1, h.n4, zk_shl, zk_sub, zj_0, zj_1, zj_2, zj_4, zj_6, zj_7, zj_8, zj_16, zj_20, zj_60, zj_63, zj_64, zj_99, zj_9999, nI_l, zk_lt, zk_le, zk_eq, zk_add, zk_in, zi_0, zi_1, zi_2, zi_3, zi_4, zi_5, zi_6, zi_7, zi_8, zi_9, zi_10, zi_11, zi_12, zi_13, zi_14, zi_15, zi_16, zi_17, zi_18, zi_19, zi_20, zi_21, zi_22, zi_23, zi_24, zi_25, zi_26, zi_30, zi_31, zi_32, zi_34, zi_38, zi_59, zi_60, zi_61, zi_63, zi_64, zi_80, zi_96, zi_97, zi_99, zi_100, zi_122, zi_255, zi_256, zi_300, zi_398, zi_406, zi_900, zi_1000, zi_1024, zi_1624, zi_1662, zi_2030, zi_2031, zi_2068, zi_2258, zi_9999, zi_48, zi_57, zi_65536, zi_3257, zi_11483, zi_1000000, zi_729, zi_81, zi_m1, nI_add, pk_mul, nI_ltI, nI_leI, nI_eq, nI_clamp, zn_in, zn_sub1lt, zn_M, zn_Ml, zn_Mg, zn_Mle, zn_Mge, zn_sub, Nat.reduceAdd, Nat.reduceMul, forall_eq, true_imp_iff, false_imp_iff, and_true, true_and, not_true_eq_false, not_false_eq_true, reduceCtorEq, imp_self, eq_self, false_and, and_false, implies_true]
      repeat' (first | omega | with_reducible refine And.intro ?_ ?_ | with_reducible intro g)
      all_goals exact K _ _ (pt_M.q0 h ok hT hB _)
  rcases zc p3 with hp | ⟨x, hx, rfl⟩
  · refine ⟨false, 1, q, T, B, ok, ?_, ?_⟩
    · intro c d I L R hcd h hc hd hz hT hB Q K
      simp (disch := omega) only [wp_U_oddsThat, wb_U_oddsThat_20, wp_U_isPlacing, wp_Square_hasCell, wp_Square_cells, wp_U_isSet, wp_U_within, wp_U_settled, hc, h.n0, h.n1, h.n4, zn_shl, hp, zi_0, zi_1, zi_2, zi_3, zi_4, zi_5, zi_6, zi_7, zi_8, zi_9, zi_10, zi_11, zi_12, zi_13, zi_14, zi_15, zi_16, zi_17, zi_18, zi_19, zi_20, zi_21, zi_22, zi_23, zi_24, zi_25, zi_26, zi_30, zi_31, zi_32, zi_34, zi_38, zi_59, zi_60, zi_61, zi_63, zi_64, zi_80, zi_96, zi_97, zi_99, zi_100, zi_122, zi_255, zi_256, zi_300, zi_398, zi_406, zi_900, zi_1000, zi_1024, zi_1624, zi_1662, zi_2030, zi_2031, zi_2068, zi_2258, zi_9999, zi_48, zi_57, zi_65536, zi_3257, zi_11483, zi_1000000, zi_729, zi_81, zi_m1, nI_add, pk_mul, nI_ltI, nI_leI, nI_eq, nI_clamp, zn_in, zn_sub1lt, zn_M, zn_Ml, zn_Mg, zn_Mle, zn_Mge, zn_sub, Nat.reduceAdd, Nat.reduceMul, forall_eq, true_imp_iff, false_imp_iff, and_true, true_and, not_true_eq_false, not_false_eq_true, reduceCtorEq, imp_self, eq_self, false_and, and_false, implies_true]
      repeat' (first | omega | with_reducible refine And.intro ?_ ?_ | with_reducible intro g)
      all_goals exact K _ _ (pt_U.q0 h hcd hT hB _)
    · intro I L R h hT hB Q K
      simp (disch := omega) only [wp_M_oddsThat, wb_M_oddsThat_17, wp_M_isPlacing, wp_M_isCell, wp_M_cellsOf, wp_M_areDogs, wp_M_isFrom, wp_M_is, h.n0, h.n1, h.n4, zk_shl, zk_sub, zj_0, zj_1, zj_2, zj_4, zj_6, zj_7, zj_8, zj_16, zj_20, zj_60, zj_63, zj_64, zj_99, zj_9999, nI_l, zk_lt, zk_le, zk_eq, zk_add, zk_in, hp, zf_n hp, zi_0, zi_1, zi_2, zi_3, zi_4, zi_5, zi_6, zi_7, zi_8, zi_9, zi_10, zi_11, zi_12, zi_13, zi_14, zi_15, zi_16, zi_17, zi_18, zi_19, zi_20, zi_21, zi_22, zi_23, zi_24, zi_25, zi_26, zi_30, zi_31, zi_32, zi_34, zi_38, zi_59, zi_60, zi_61, zi_63, zi_64, zi_80, zi_96, zi_97, zi_99, zi_100, zi_122, zi_255, zi_256, zi_300, zi_398, zi_406, zi_900, zi_1000, zi_1024, zi_1624, zi_1662, zi_2030, zi_2031, zi_2068, zi_2258, zi_9999, zi_48, zi_57, zi_65536, zi_3257, zi_11483, zi_1000000, zi_729, zi_81, zi_m1, nI_add, pk_mul, nI_ltI, nI_leI, nI_eq, nI_clamp, zn_in, zn_sub1lt, zn_M, zn_Ml, zn_Mg, zn_Mle, zn_Mge, zn_sub, Nat.reduceAdd, Nat.reduceMul, forall_eq, true_imp_iff, false_imp_iff, and_true, true_and, not_true_eq_false, not_false_eq_true, reduceCtorEq, imp_self, eq_self, false_and, and_false, implies_true]
      repeat' (first | omega | with_reducible refine And.intro ?_ ?_ | with_reducible intro g)
      all_goals exact K _ _ (pt_M.q0 h ok hT hB _)
  by_cases gx : q 0 * q 1 ≤ x
  · refine ⟨false, 1, q, T, B, ok, ?_, ?_⟩
    · intro c d I L R hcd h hc hd hz hT hB Q K
      simp (disch := omega) only [wp_U_oddsThat, wb_U_oddsThat_20, wp_U_isPlacing, wp_Square_hasCell, wp_Square_cells, wp_U_isSet, wp_U_within, wp_U_settled, hc, h.n0, h.n1, h.n4, zn_shl, zi_0, zi_1, zi_2, zi_3, zi_4, zi_5, zi_6, zi_7, zi_8, zi_9, zi_10, zi_11, zi_12, zi_13, zi_14, zi_15, zi_16, zi_17, zi_18, zi_19, zi_20, zi_21, zi_22, zi_23, zi_24, zi_25, zi_26, zi_30, zi_31, zi_32, zi_34, zi_38, zi_59, zi_60, zi_61, zi_63, zi_64, zi_80, zi_96, zi_97, zi_99, zi_100, zi_122, zi_255, zi_256, zi_300, zi_398, zi_406, zi_900, zi_1000, zi_1024, zi_1624, zi_1662, zi_2030, zi_2031, zi_2068, zi_2258, zi_9999, zi_48, zi_57, zi_65536, zi_3257, zi_11483, zi_1000000, zi_729, zi_81, zi_m1, nI_add, pk_mul, nI_ltI, nI_leI, nI_eq, nI_clamp, zn_in, zn_sub1lt, zn_M, zn_Ml, zn_Mg, zn_Mle, zn_Mge, zn_sub, Nat.reduceAdd, Nat.reduceMul, forall_eq, true_imp_iff, false_imp_iff, and_true, true_and, not_true_eq_false, not_false_eq_true, reduceCtorEq, imp_self, eq_self, false_and, and_false, implies_true]
      repeat' (first | omega | with_reducible refine And.intro ?_ ?_ | with_reducible intro g)
      all_goals exact K _ _ (pt_U.q0 h hcd hT hB _)
    · intro I L R h hT hB Q K
      simp (disch := omega) only [wp_M_oddsThat, wb_M_oddsThat_17, wp_M_isPlacing, wp_M_isCell, wp_M_cellsOf, wp_M_areDogs, wp_M_isFrom, wp_M_is, h.n0, h.n1, h.n4, zk_shl, zk_sub, zj_0, zj_1, zj_2, zj_4, zj_6, zj_7, zj_8, zj_16, zj_20, zj_60, zj_63, zj_64, zj_99, zj_9999, nI_l, zk_lt, zk_le, zk_eq, zk_add, zk_in, zi_0, zi_1, zi_2, zi_3, zi_4, zi_5, zi_6, zi_7, zi_8, zi_9, zi_10, zi_11, zi_12, zi_13, zi_14, zi_15, zi_16, zi_17, zi_18, zi_19, zi_20, zi_21, zi_22, zi_23, zi_24, zi_25, zi_26, zi_30, zi_31, zi_32, zi_34, zi_38, zi_59, zi_60, zi_61, zi_63, zi_64, zi_80, zi_96, zi_97, zi_99, zi_100, zi_122, zi_255, zi_256, zi_300, zi_398, zi_406, zi_900, zi_1000, zi_1024, zi_1624, zi_1662, zi_2030, zi_2031, zi_2068, zi_2258, zi_9999, zi_48, zi_57, zi_65536, zi_3257, zi_11483, zi_1000000, zi_729, zi_81, zi_m1, nI_add, pk_mul, nI_ltI, nI_leI, nI_eq, nI_clamp, zn_in, zn_sub1lt, zn_M, zn_Ml, zn_Mg, zn_Mle, zn_Mge, zn_sub, Nat.reduceAdd, Nat.reduceMul, forall_eq, true_imp_iff, false_imp_iff, and_true, true_and, not_true_eq_false, not_false_eq_true, reduceCtorEq, imp_self, eq_self, false_and, and_false, implies_true]
      repeat' (first | omega | with_reducible refine And.intro ?_ ?_ | with_reducible intro g)
      all_goals exact K _ _ (pt_M.q0 h ok hT hB _)
  have al : pw_all q j k < 2 ^ 26 := pw_lt ok _ _ _
  have wl : pw_wo q j k x ≤ pw_all q j k := wd_le _ _ _
  by_cases e : pw_all q j k = 0
  · refine ⟨false, 6, q, T, B, ok, ?_, ?_⟩
    · intro c d I L R hcd h hc hd hz hT hB Q K
      simp (disch := omega) only [wp_U_oddsThat, wb_U_oddsThat_20, wp_U_isPlacing, wp_Square_hasCell, wp_Square_cells, wp_U_isSet, wp_U_within, wp_U_settled, hc, h.n0, h.n1, h.n4, zn_shl, zi_0, zi_1, zi_2, zi_3, zi_4, zi_5, zi_6, zi_7, zi_8, zi_9, zi_10, zi_11, zi_12, zi_13, zi_14, zi_15, zi_16, zi_17, zi_18, zi_19, zi_20, zi_21, zi_22, zi_23, zi_24, zi_25, zi_26, zi_30, zi_31, zi_32, zi_34, zi_38, zi_59, zi_60, zi_61, zi_63, zi_64, zi_80, zi_96, zi_97, zi_99, zi_100, zi_122, zi_255, zi_256, zi_300, zi_398, zi_406, zi_900, zi_1000, zi_1024, zi_1624, zi_1662, zi_2030, zi_2031, zi_2068, zi_2258, zi_9999, zi_48, zi_57, zi_65536, zi_3257, zi_11483, zi_1000000, zi_729, zi_81, zi_m1, nI_add, pk_mul, nI_ltI, nI_leI, nI_eq, nI_clamp, zn_in, zn_sub1lt, zn_M, zn_Ml, zn_Mg, zn_Mle, zn_Mge, zn_sub, Nat.reduceAdd, Nat.reduceMul, forall_eq, true_imp_iff, false_imp_iff, and_true, true_and, not_true_eq_false, not_false_eq_true, reduceCtorEq, imp_self, eq_self, false_and, and_false, implies_true]
      repeat' (first | omega | with_reducible refine And.intro ?_ ?_ | with_reducible intro g)
      refine su_lookP h hcd ok (fun I1 p1 f1 => ?_)
      obtain ⟨s1, s2⟩ := pl_frU hcd h (I1 := I1) (fun r a b _ => f1 r a b)
      refine su_count0 p1 ok j16 (by omega) ?_
      simp (disch := omega) only [wp_U_settled, zi_0, zi_1, zi_2, zi_3, zi_4, zi_5, zi_6, zi_7, zi_8, zi_9, zi_10, zi_11, zi_12, zi_13, zi_14, zi_15, zi_16, zi_17, zi_18, zi_19, zi_20, zi_21, zi_22, zi_23, zi_24, zi_25, zi_26, zi_30, zi_31, zi_32, zi_34, zi_38, zi_59, zi_60, zi_61, zi_63, zi_64, zi_80, zi_96, zi_97, zi_99, zi_100, zi_122, zi_255, zi_256, zi_300, zi_398, zi_406, zi_900, zi_1000, zi_1024, zi_1624, zi_1662, zi_2030, zi_2031, zi_2068, zi_2258, zi_9999, zi_48, zi_57, zi_65536, zi_3257, zi_11483, zi_1000000, zi_729, zi_81, zi_m1, nI_add, pk_mul, nI_ltI, nI_leI, nI_eq, nI_clamp, zn_in, zn_sub1lt, zn_M, zn_Ml, zn_Mg, zn_Mle, zn_Mge, zn_sub, Nat.reduceAdd, Nat.reduceMul, forall_eq, true_imp_iff, false_imp_iff, and_true, true_and, not_true_eq_false, not_false_eq_true, reduceCtorEq, imp_self, eq_self, false_and, and_false, implies_true]
      refine ⟨fun _ => ?_, fun g => absurd e g⟩
      exact K _ _ (pt_U.of s1 hcd s2 hT hB fl_U.rfl _)
    · intro I L R h hT hB Q K
      simp (disch := omega) only [wp_M_oddsThat, wb_M_oddsThat_17, wp_M_isPlacing, wp_M_isCell, wp_M_cellsOf, wp_M_areDogs, wp_M_isFrom, wp_M_is, h.n0, h.n1, h.n4, zk_shl, zk_sub, zj_0, zj_1, zj_2, zj_4, zj_6, zj_7, zj_8, zj_16, zj_20, zj_60, zj_63, zj_64, zj_99, zj_9999, nI_l, zk_lt, zk_le, zk_eq, zk_add, zk_in, zi_0, zi_1, zi_2, zi_3, zi_4, zi_5, zi_6, zi_7, zi_8, zi_9, zi_10, zi_11, zi_12, zi_13, zi_14, zi_15, zi_16, zi_17, zi_18, zi_19, zi_20, zi_21, zi_22, zi_23, zi_24, zi_25, zi_26, zi_30, zi_31, zi_32, zi_34, zi_38, zi_59, zi_60, zi_61, zi_63, zi_64, zi_80, zi_96, zi_97, zi_99, zi_100, zi_122, zi_255, zi_256, zi_300, zi_398, zi_406, zi_900, zi_1000, zi_1024, zi_1624, zi_1662, zi_2030, zi_2031, zi_2068, zi_2258, zi_9999, zi_48, zi_57, zi_65536, zi_3257, zi_11483, zi_1000000, zi_729, zi_81, zi_m1, nI_add, pk_mul, nI_ltI, nI_leI, nI_eq, nI_clamp, zn_in, zn_sub1lt, zn_M, zn_Ml, zn_Mg, zn_Mle, zn_Mge, zn_sub, Nat.reduceAdd, Nat.reduceMul, forall_eq, true_imp_iff, false_imp_iff, and_true, true_and, not_true_eq_false, not_false_eq_true, reduceCtorEq, imp_self, eq_self, false_and, and_false, implies_true]
      repeat' (first | omega | with_reducible refine And.intro ?_ ?_ | with_reducible intro g)
      refine sm_laysP h ok j16 (by omega) (fun I1 p1 f1 => ?_)
      rw [p1.1]
      simp (disch := omega) only [zi_0, zi_1, zi_2, zi_3, zi_4, zi_5, zi_6, zi_7, zi_8, zi_9, zi_10, zi_11, zi_12, zi_13, zi_14, zi_15, zi_16, zi_17, zi_18, zi_19, zi_20, zi_21, zi_22, zi_23, zi_24, zi_25, zi_26, zi_30, zi_31, zi_32, zi_34, zi_38, zi_59, zi_60, zi_61, zi_63, zi_64, zi_80, zi_96, zi_97, zi_99, zi_100, zi_122, zi_255, zi_256, zi_300, zi_398, zi_406, zi_900, zi_1000, zi_1024, zi_1624, zi_1662, zi_2030, zi_2031, zi_2068, zi_2258, zi_9999, zi_48, zi_57, zi_65536, zi_3257, zi_11483, zi_1000000, zi_729, zi_81, zi_m1, nI_add, pk_mul, nI_ltI, nI_leI, nI_eq, nI_clamp, zn_in, zn_sub1lt, zn_M, zn_Ml, zn_Mg, zn_Mle, zn_Mge, zn_sub, Nat.reduceAdd, Nat.reduceMul, forall_eq, true_imp_iff, false_imp_iff, and_true, true_and, not_true_eq_false, not_false_eq_true, reduceCtorEq, imp_self, eq_self, false_and, and_false, implies_true]
      refine ⟨fun _ => ?_, fun g => absurd e g⟩
      exact K _ _ (pt_M.of (f1.sq h ok) ok f1.toM hT hB fl_M.rfl _)
  · refine ⟨true, 0, q, lN (pw_all q j k - pw_wo q j k x) / lN (Nat.gcd (pw_all q j k - pw_wo q j k x) (pw_all q j k)), lN (pw_all q j k) / lN (Nat.gcd (pw_all q j k - pw_wo q j k x) (pw_all q j k)), ok, ?_, ?_⟩
    · intro c d I L R hcd h hc hd hz hT hB Q K
      simp (disch := omega) only [wp_U_oddsThat, wb_U_oddsThat_20, wp_U_isPlacing, wp_Square_hasCell, wp_Square_cells, wp_U_isSet, wp_U_within, wp_U_settled, hc, h.n0, h.n1, h.n4, zn_shl, zi_0, zi_1, zi_2, zi_3, zi_4, zi_5, zi_6, zi_7, zi_8, zi_9, zi_10, zi_11, zi_12, zi_13, zi_14, zi_15, zi_16, zi_17, zi_18, zi_19, zi_20, zi_21, zi_22, zi_23, zi_24, zi_25, zi_26, zi_30, zi_31, zi_32, zi_34, zi_38, zi_59, zi_60, zi_61, zi_63, zi_64, zi_80, zi_96, zi_97, zi_99, zi_100, zi_122, zi_255, zi_256, zi_300, zi_398, zi_406, zi_900, zi_1000, zi_1024, zi_1624, zi_1662, zi_2030, zi_2031, zi_2068, zi_2258, zi_9999, zi_48, zi_57, zi_65536, zi_3257, zi_11483, zi_1000000, zi_729, zi_81, zi_m1, nI_add, pk_mul, nI_ltI, nI_leI, nI_eq, nI_clamp, zn_in, zn_sub1lt, zn_M, zn_Ml, zn_Mg, zn_Mle, zn_Mge, zn_sub, Nat.reduceAdd, Nat.reduceMul, forall_eq, true_imp_iff, false_imp_iff, and_true, true_and, not_true_eq_false, not_false_eq_true, reduceCtorEq, imp_self, eq_self, false_and, and_false, implies_true]
      repeat' (first | omega | with_reducible refine And.intro ?_ ?_ | with_reducible intro g)
      refine su_lookP h hcd ok (fun I1 p1 f1 => ?_)
      obtain ⟨s1, s2⟩ := pl_frU hcd h (I1 := I1) (fun r a b _ => f1 r a b)
      refine su_count0 p1 ok j16 (by omega) ?_
      simp (disch := omega) only [zi_0, zi_1, zi_2, zi_3, zi_4, zi_5, zi_6, zi_7, zi_8, zi_9, zi_10, zi_11, zi_12, zi_13, zi_14, zi_15, zi_16, zi_17, zi_18, zi_19, zi_20, zi_21, zi_22, zi_23, zi_24, zi_25, zi_26, zi_30, zi_31, zi_32, zi_34, zi_38, zi_59, zi_60, zi_61, zi_63, zi_64, zi_80, zi_96, zi_97, zi_99, zi_100, zi_122, zi_255, zi_256, zi_300, zi_398, zi_406, zi_900, zi_1000, zi_1024, zi_1624, zi_1662, zi_2030, zi_2031, zi_2068, zi_2258, zi_9999, zi_48, zi_57, zi_65536, zi_3257, zi_11483, zi_1000000, zi_729, zi_81, zi_m1, nI_add, pk_mul, nI_ltI, nI_leI, nI_eq, nI_clamp, zn_in, zn_sub1lt, zn_M, zn_Ml, zn_Mg, zn_Mle, zn_Mge, zn_sub, Nat.reduceAdd, Nat.reduceMul]
      refine ⟨fun g => absurd g e, fun _ => ?_⟩
      refine su_countW p1 ok j16 (by omega) (by omega) ?_
      rw [zn_sub wl, nI_l (by omega), nI_l (by omega)]
      refine su_tellF (by omega) (by omega) (by omega) ?_
      try simp (disch := omega) only [wp_U_settled, zi_0, zi_1, zi_2, zi_3, zi_4, zi_5, zi_6, zi_7, zi_8, zi_9, zi_10, zi_11, zi_12, zi_13, zi_14, zi_15, zi_16, zi_17, zi_18, zi_19, zi_20, zi_21, zi_22, zi_23, zi_24, zi_25, zi_26, zi_30, zi_31, zi_32, zi_34, zi_38, zi_59, zi_60, zi_61, zi_63, zi_64, zi_80, zi_96, zi_97, zi_99, zi_100, zi_122, zi_255, zi_256, zi_300, zi_398, zi_406, zi_900, zi_1000, zi_1024, zi_1624, zi_1662, zi_2030, zi_2031, zi_2068, zi_2258, zi_9999, zi_48, zi_57, zi_65536, zi_3257, zi_11483, zi_1000000, zi_729, zi_81, zi_m1, nI_add, pk_mul, nI_ltI, nI_leI, nI_eq, nI_clamp, zn_in, zn_sub1lt, zn_M, zn_Ml, zn_Mg, zn_Mle, zn_Mge, zn_sub, Nat.reduceAdd, Nat.reduceMul, forall_eq, true_imp_iff, false_imp_iff, and_true, true_and, not_true_eq_false, not_false_eq_true, reduceCtorEq, imp_self, eq_self, false_and, and_false, implies_true]
      have fl : fl_U L (am_u2 (am_u2 L 0 16 (lN (pw_all q j k - pw_wo q j k x) / lN (Nat.gcd (pw_all q j k - pw_wo q j k x) (pw_all q j k)))) 0 17 (lN (pw_all q j k) / lN (Nat.gcd (pw_all q j k - pw_wo q j k x) (pw_all q j k)))) := fun r k a b => by
        unfold am_u2
        rw [if_neg (by omega), if_neg (by omega)]
      exact K _ _ (pt_U.of (fl.sq s1 hcd) hcd s2 (by rw [am_u2_ne _ _ _ _ (by omega), am_u2_at]) (am_u2_at _ _ _ _) fl _)
    · intro I L R h hT hB Q K
      simp (disch := omega) only [wp_M_oddsThat, wb_M_oddsThat_17, wp_M_isPlacing, wp_M_isCell, wp_M_cellsOf, wp_M_areDogs, wp_M_isFrom, wp_M_is, h.n0, h.n1, h.n4, zk_shl, zk_sub, zj_0, zj_1, zj_2, zj_4, zj_6, zj_7, zj_8, zj_16, zj_20, zj_60, zj_63, zj_64, zj_99, zj_9999, nI_l, zk_lt, zk_le, zk_eq, zk_add, zk_in, zi_0, zi_1, zi_2, zi_3, zi_4, zi_5, zi_6, zi_7, zi_8, zi_9, zi_10, zi_11, zi_12, zi_13, zi_14, zi_15, zi_16, zi_17, zi_18, zi_19, zi_20, zi_21, zi_22, zi_23, zi_24, zi_25, zi_26, zi_30, zi_31, zi_32, zi_34, zi_38, zi_59, zi_60, zi_61, zi_63, zi_64, zi_80, zi_96, zi_97, zi_99, zi_100, zi_122, zi_255, zi_256, zi_300, zi_398, zi_406, zi_900, zi_1000, zi_1024, zi_1624, zi_1662, zi_2030, zi_2031, zi_2068, zi_2258, zi_9999, zi_48, zi_57, zi_65536, zi_3257, zi_11483, zi_1000000, zi_729, zi_81, zi_m1, nI_add, pk_mul, nI_ltI, nI_leI, nI_eq, nI_clamp, zn_in, zn_sub1lt, zn_M, zn_Ml, zn_Mg, zn_Mle, zn_Mge, zn_sub, Nat.reduceAdd, Nat.reduceMul, forall_eq, true_imp_iff, false_imp_iff, and_true, true_and, not_true_eq_false, not_false_eq_true, reduceCtorEq, imp_self, eq_self, false_and, and_false, implies_true]
      repeat' (first | omega | with_reducible refine And.intro ?_ ?_ | with_reducible intro g)
      refine sm_laysP h ok j16 (by omega) (fun I1 p1 f1 => ?_)
      rw [p1.1]
      simp (disch := omega) only [zi_0, zi_1, zi_2, zi_3, zi_4, zi_5, zi_6, zi_7, zi_8, zi_9, zi_10, zi_11, zi_12, zi_13, zi_14, zi_15, zi_16, zi_17, zi_18, zi_19, zi_20, zi_21, zi_22, zi_23, zi_24, zi_25, zi_26, zi_30, zi_31, zi_32, zi_34, zi_38, zi_59, zi_60, zi_61, zi_63, zi_64, zi_80, zi_96, zi_97, zi_99, zi_100, zi_122, zi_255, zi_256, zi_300, zi_398, zi_406, zi_900, zi_1000, zi_1024, zi_1624, zi_1662, zi_2030, zi_2031, zi_2068, zi_2258, zi_9999, zi_48, zi_57, zi_65536, zi_3257, zi_11483, zi_1000000, zi_729, zi_81, zi_m1, nI_add, pk_mul, nI_ltI, nI_leI, nI_eq, nI_clamp, zn_in, zn_sub1lt, zn_M, zn_Ml, zn_Mg, zn_Mle, zn_Mge, zn_sub, Nat.reduceAdd, Nat.reduceMul]
      refine ⟨fun g => absurd g e, fun _ => ⟨by omega, ?_⟩⟩
      rw [(p1.2 x (by omega)).1, show (pw_all q j k : Int) - pw_wo q j k x = ((pw_all q j k - pw_wo q j k x : Nat) : Int) by omega, ← iI_n, nI_l (by omega), nI_l (by omega)]
      refine sm_tellF (by omega) (by omega) (by omega) ?_
      have fl : fl_M L (am_u2 (am_u2 L 103 3 (lN (pw_all q j k - pw_wo q j k x) / lN (Nat.gcd (pw_all q j k - pw_wo q j k x) (pw_all q j k)))) 103 4 (lN (pw_all q j k) / lN (Nat.gcd (pw_all q j k - pw_wo q j k x) (pw_all q j k)))) := fun r k a b => by
        unfold am_u2
        rw [if_neg (by omega), if_neg (by omega)]
      exact K _ _ (pt_M.of (fl.sq (f1.sq h ok) ok) ok f1.toM (by rw [am_u2_ne _ _ _ _ (by omega), am_u2_at]) (am_u2_at _ _ _ _) fl _)
end
