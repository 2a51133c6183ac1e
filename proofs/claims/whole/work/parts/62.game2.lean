/-! games: the reference's side; both answer alike -/
/-- both answer alike: calls that change a reference of the rows' too -/
def si_G {α : Type} (q : Nat → Nat) (U : am_TI → am_TL → am_TR → (α → am_TI → am_TR → Prop) → Prop) (M : am_TI → am_TL → am_TR → (α → am_TI → Prop) → Prop) : Prop :=
  ∃ (ans : α) (st : Nat),
    (∀ c d I L R, sq_cd c d → sq_U q c d I L → am_rd R 0 11 = c → am_rd R c 5 = d → I 26 0 = nI 0 → ∀ Q : α → am_TI → am_TR → Prop, (∀ I1 R1, po_U q c d I L st I1 → (R1 = R ∨ R1 = am_u2 R 16 4 (some c)) → Q ans I1 R1) → U I L R Q) ∧
    (∀ I L R, sq_M q 0 I L → ∀ Q : α → am_TI → Prop, (∀ I1, po_M q I L st I1 → Q ans I1) → M I L R Q)
section
variable {q : Nat → Nat} {c d : Nat} {I I1 I2 : am_TI} {L L1 L2 : am_TL} {R : am_TR}
/-- a level's square: what is the same in all of them; what came and comes -/
def gl_q (q ql : Nat → Nat) (cs : Nat) (p : Nat → Nat) : Prop := sq_Ok ql ∧ (∀ k, (k < 8 ∨ 34 ≤ k) → ql k = q k) ∧ (∀ h, h < q 3 → ql (11 + 4 * h) = q (11 + 4 * h)) ∧ ∀ g : Nat → Nat, cs + sq_tot ql g (q 3) = sq_tot q (fun h => g h + gh q p h) (q 3)
theorem gl_0 (ok : sq_Ok q) : gl_q q q 0 (fun _ => 0) := ⟨ok, fun _ _ => rfl, fun _ _ => rfl, fun g => by
  rw [Nat.zero_add]
  unfold sq_tot
  apply zsum_cong
  intro i _
  have e : gh q (fun _ => 0) i = 0 := zsum_0 (fun t _ => ite_self _)
  try dsimp only
  rw [e]; rfl⟩
theorem gh_b (p : Nat → Nat) {t h : Nat} (ht : t < q 2) : gh q (gp_b p t) h = gh q p h + if (q (11 + 4 * h)).testBit t = true then 1 else 0 := by
  have key : ∀ n, zsum (fun i => if (q (11 + 4 * h)).testBit i = true then gp_b p t i else 0) n = zsum (fun i => if (q (11 + 4 * h)).testBit i = true then p i else 0) n + if t < n ∧ (q (11 + 4 * h)).testBit t = true then 1 else 0 := by
    intro n
    induction n with
    | zero => simp [zsum]
    | succ n ih =>
      rw [zsum, zsum, ih]
      unfold gp_b
      by_cases e : n = t
      · subst e
        cases g : (q (11 + 4 * h)).testBit n <;> simp
        omega
      · have e2 : (t < n + 1 ↔ t < n) := by omega
        simp only [e, if_false, Nat.add_zero, e2]
        omega
  unfold gh
  rw [key]
  simp only [ht, true_and]
theorem gl_s (ok : sq_Ok q) {ql p : Nat → Nat} {cs t : Nat} (g : gl_q q ql cs p) (ht : t < q 2) : gl_q q (sq_play ql t) (cs + pl_c ql t (ql 3)) (gp_b p t) := by
  obtain ⟨a, b, e, f⟩ := g
  have o := ok.1.2.2.1
  have q3 : ql 3 = q 3 := b 3 (by omega)
  refine ⟨sq_play_ok a t, fun k hk => ?_, fun h hh => ?_, fun g => ?_⟩
  · rw [sq_play_o t (by omega) (by omega)]; exact b k hk
  · rw [sq_play_o t (by omega) (by omega)]; exact e h hh
  · have st := sq_tot_step a t g (q 3) (by omega)
    have f2 := f (fun h => g h + if (ql (11 + 4 * h)).testBit t = true then 1 else 0)
    rw [q3, Nat.add_assoc, st, f2]
    unfold sq_tot
    apply zsum_cong
    intro i hi
    try dsimp only
    rw [gh_b p ht, e i hi]
    congr 2
    omega
theorem gl_c {ql p : Nat → Nat} {cs : Nat} (g : gl_q q ql cs p) : cs = gc q p := by
  have := g.2.2.2 (fun _ => 0)
  have z : sq_tot ql (fun _ => 0) (q 3) = 0 := zsum_0 (fun i _ => by
    try dsimp only
    rw [Nat.zero_sub, Nat.min_zero])
  rw [z, Nat.add_zero] at this
  rw [this]
  unfold gc sq_tot
  apply zsum_cong
  intro i _
  try dsimp only
  rw [Nat.zero_add]
/-- the square of a level, kept -/
def gl_k (q ql : Nat → Nat) (l : Nat) (I : am_TI) : Prop := ∀ k, k < 38 → I 104 (2068 + 38 * l + k) = if k = 7 then nI (q 7) - nI 1 else nI (ql k)
def gd_i : Option (Nat × Nat) → Int32
  | none => nM
  | some (d, _) => nI d
/-- a level's rows -/
def gl_I (q ql : Nat → Nat) (cs b l m : Nat) (w : Nat → Nat) (I : am_TI) : Prop := gl_k q ql l I ∧ I 124 l = nI m - nI 1 ∧ I 125 l = nI cs ∧ I 126 l = nI b ∧ I 128 l = gd_i (gb (decide (l % 2 = 0)) (gsk q b) w m) ∧ (∀ x v, gb (decide (l % 2 = 0)) (gsk q b) w m = some (x, v) → I 127 l = nI v)
/-- what a level leaves alone -/
def gl_f (l : Nat) (I I1 : am_TI) : Prop := (∀ j, j < l → I1 124 j = I 124 j ∧ I1 125 j = I 125 j ∧ I1 126 j = I 126 j ∧ I1 127 j = I 127 j ∧ I1 128 j = I 128 j) ∧ (∀ k, 38 ≤ k → k < 2068 + 38 * l → I1 104 k = I 104 k) ∧ ∀ r, ¬ (124 ≤ r ∧ r ≤ 128) → r ≠ 104 → I1 r = I r
theorem gl_f.rfl {l : Nat} : gl_f l I I := ⟨fun _ _ => ⟨Eq.refl _, Eq.refl _, Eq.refl _, Eq.refl _, Eq.refl _⟩, fun _ _ _ => Eq.refl _, fun _ _ _ => Eq.refl _⟩
theorem gl_f.trans {l : Nat} (h : gl_f l I I1) (h2 : gl_f l I1 I2) : gl_f l I I2 := ⟨fun j hj => by
  obtain ⟨a1, a2, a3, a4, a5⟩ := h.1 j hj
  obtain ⟨b1, b2, b3, b4, b5⟩ := h2.1 j hj
  exact ⟨b1.trans a1, b2.trans a2, b3.trans a3, b4.trans a4, b5.trans a5⟩, fun k a b => (h2.2.1 k a b).trans (h.2.1 k a b), fun r a b => (h2.2.2 r a b).trans (h.2.2 r a b)⟩
theorem gl_f.down {l l' : Nat} (h : gl_f l' I I1) (hl : l ≤ l') : gl_f l I I1 := ⟨fun j hj => h.1 j (by omega), fun k a b => h.2.1 k a (by omega), h.2.2⟩
/-- the square of slot 0, by what is restored -/
theorem gl_sq {ql p : Nat → Nat} {cs l : Nat} (h : sq_M q 0 I L) (ok : sq_Ok q) (g : gl_q q ql cs p) (gk : gl_k q ql l I1) (hl : l < 5) (e1 : ∀ i, i < 38 → I2 104 i = I1 104 (2068 + 38 * l + i)) (e2 : ∀ k, 38 ≤ k → k < 406 → I2 104 k = I 104 k) : sq_M ql 0 I2 L := by
  obtain ⟨a, b, e, f⟩ := g
  have o7 := ok.2.2.2.2.1
  refine ⟨fun k hk h7 => ?_, ?_, fun j hj i hi h3 => ?_, fun t ht => ?_⟩
  · rw [Nat.mul_zero, Nat.zero_add, e1 k hk, gk k hk, if_neg h7]
  · rw [Nat.mul_zero, Nat.zero_add, e1 7 (by omega), gk 7 (by omega), if_pos rfl, b 7 (by omega)]
  · rw [b 7 (by omega)] at hj
    have := h.2.2.1 j hj i hi h3
    rw [Nat.mul_zero, Nat.zero_add] at this ⊢
    rw [e2 _ (by omega) (by omega), this, b _ (by omega)]
  · rw [b 2 (by omega)] at ht
    rw [b _ (by omega)]
    exact h.2.2.2 t ht
theorem zn_odd : ∀ l, l < 5 → nI l - nI l / nI 2 * nI 2 = nI (l % 2) := fun l hl => zn_par l (by omega)
/-- the better of two is taken -/
theorem sm_settles {l v m : Nat} {b : Nat} {w : Nat → Nat} (hl : l < 5) (hm : m < 100) (hv : w m = v) (vb : v ≤ 594) (wb : ∀ t, w t ≤ 594) (hs : gsk q b m = false) (e1 : I 124 l = nI m) (e2 : I 128 l = gd_i (gb (decide (l % 2 = 0)) (gsk q b) w m)) (e3 : ∀ x v, gb (decide (l % 2 = 0)) (gsk q b) w m = some (x, v) → I 127 l = nI v) {Q : am_TI → Prop} (k : ∀ I1, I1 128 l = gd_i (gb (decide (l % 2 = 0)) (gsk q b) w (m + 1)) → (∀ x v, gb (decide (l % 2 = 0)) (gsk q b) w (m + 1) = some (x, v) → I1 127 l = nI v) → (∀ r j, ¬ ((r = 127 ∨ r = 128) ∧ j = l) → I1 r j = I r j) → Q I1) : wp_M_settles I L R 103 (nI l) (nI v) Q := by
  have fin : gb (decide (l % 2 = 0)) (gsk q b) w (m + 1) = some (m, v) → wb_M_settles_50 L R 103 (nI l) (nI v) Q I := by
    intro g
    simp (disch := omega) only [wb_M_settles_50, am_u2o, e1, zi_0, zi_1, zi_2, zi_3, zi_4, zi_5, zi_6, zi_7, zi_8, zi_9, zi_10, zi_11, zi_12, zi_13, zi_14, zi_15, zi_16, zi_17, zi_18, zi_19, zi_20, zi_21, zi_22, zi_23, zi_24, zi_25, zi_26, zi_30, zi_31, zi_32, zi_34, zi_38, zi_59, zi_60, zi_61, zi_63, zi_64, zi_80, zi_96, zi_97, zi_99, zi_100, zi_122, zi_255, zi_256, zi_300, zi_398, zi_406, zi_900, zi_1000, zi_1024, zi_1624, zi_1662, zi_2030, zi_2031, zi_2068, zi_2258, zi_9999, zi_48, zi_57, zi_65536, zi_3257, zi_11483, zi_1000000, zi_729, zi_81, zi_m1, nI_add, pk_mul, nI_ltI, nI_leI, nI_eq, nI_clamp, zn_in, zn_sub1lt, zn_M, zn_Ml, zn_Mg, zn_Mle, zn_Mge, zn_sub, Nat.reduceAdd, Nat.reduceMul, forall_eq, true_imp_iff, false_imp_iff, and_true, true_and, not_true_eq_false, not_false_eq_true, reduceCtorEq, imp_self, eq_self, false_and, and_false, implies_true]
    refine ⟨by omega, by omega, by omega, k _ ?_ (fun x u hx => ?_) (fun r j z => ?_)⟩
    · rw [am_u2_at, g]; rfl
    · rw [g] at hx; cases hx
      rw [am_u2o (by omega), am_u2_at]
    · unfold am_u2
      rw [if_neg (by omega), if_neg (by omega)]
  unfold wp_M_settles
  simp (disch := omega) only [zi_0, zi_1, zi_2, zi_3, zi_4, zi_5, zi_6, zi_7, zi_8, zi_9, zi_10, zi_11, zi_12, zi_13, zi_14, zi_15, zi_16, zi_17, zi_18, zi_19, zi_20, zi_21, zi_22, zi_23, zi_24, zi_25, zi_26, zi_30, zi_31, zi_32, zi_34, zi_38, zi_59, zi_60, zi_61, zi_63, zi_64, zi_80, zi_96, zi_97, zi_99, zi_100, zi_122, zi_255, zi_256, zi_300, zi_398, zi_406, zi_900, zi_1000, zi_1024, zi_1624, zi_1662, zi_2030, zi_2031, zi_2068, zi_2258, zi_9999, zi_48, zi_57, zi_65536, zi_3257, zi_11483, zi_1000000, zi_729, zi_81, zi_m1, nI_add, pk_mul, nI_ltI, nI_leI, nI_eq, nI_clamp, zn_in, zn_sub1lt, zn_M, zn_Ml, zn_Mg, zn_Mle, zn_Mge, zn_sub, Nat.reduceAdd, Nat.reduceMul]
  refine ⟨hl, fun z => ?_, fun z => ?_⟩
  · cases g : gb (decide (l % 2 = 0)) (gsk q b) w m with
    | none =>
      have g2 := gb_n hs g
      rw [hv] at g2
      exact ⟨fun z => (by cases z), fun _ => fin g2⟩
    | some x =>
      obtain ⟨dd, u⟩ := x
      have dl := gb_lt g
      rw [e2, g] at z
      exact absurd z (ze_nm1 (n := dd) (by omega))
  · cases g : gb (decide (l % 2 = 0)) (gsk q b) w m with
    | none => rw [e2, g] at z; exact absurd rfl z
    | some x =>
      obtain ⟨dd, u⟩ := x
      have g2 := gb_y hs g
      have ub := gb_b wb g
      rw [hv] at g2
      have stay : gb_t (decide (l % 2 = 0)) v u = false → Q I := by
        intro gt
        rw [if_neg (by rw [gt]; decide)] at g2
        refine k I (by rw [e2, g, g2]) (fun x y hx => ?_) (fun _ _ _ => Eq.refl _)
        rw [g2] at hx
        exact e3 x y (by rw [g]; exact hx)
      refine ⟨fun _ => ?_, fun z => (by cases z)⟩
      rw [zi_2, zi_0, zn_odd l hl, nI_eq (by omega) (by omega)]
      simp (disch := omega) only [e3 dd u g, zi_0, zi_1, zi_2, zi_3, zi_4, zi_5, zi_6, zi_7, zi_8, zi_9, zi_10, zi_11, zi_12, zi_13, zi_14, zi_15, zi_16, zi_17, zi_18, zi_19, zi_20, zi_21, zi_22, zi_23, zi_24, zi_25, zi_26, zi_30, zi_31, zi_32, zi_34, zi_38, zi_59, zi_60, zi_61, zi_63, zi_64, zi_80, zi_96, zi_97, zi_99, zi_100, zi_122, zi_255, zi_256, zi_300, zi_398, zi_406, zi_900, zi_1000, zi_1024, zi_1624, zi_1662, zi_2030, zi_2031, zi_2068, zi_2258, zi_9999, zi_48, zi_57, zi_65536, zi_3257, zi_11483, zi_1000000, zi_729, zi_81, zi_m1, nI_add, pk_mul, nI_ltI, nI_leI, nI_eq, nI_clamp, zn_in, zn_sub1lt, zn_M, zn_Ml, zn_Mg, zn_Mle, zn_Mge, zn_sub, Nat.reduceAdd, Nat.reduceMul]
      refine ⟨fun ev => ⟨hl, fun z => ?_, fun z => ?_⟩, fun od => ⟨hl, fun z => ?_, fun z => ?_⟩⟩
      · have gt : gb_t (decide (l % 2 = 0)) v u = true := by unfold gb_t; rw [if_pos (by simpa using ev)]; simpa using z
        rw [if_pos gt] at g2
        exact fin g2
      · exact stay (by unfold gb_t; rw [if_pos (by simpa using ev)]; simpa using z)
      · have gt : gb_t (decide (l % 2 = 0)) v u = true := by unfold gb_t; rw [if_neg (by simpa using od)]; simpa using z
        rw [if_pos gt] at g2
        exact fin g2
      · exact stay (by unfold gb_t; rw [if_neg (by simpa using od)]; simpa using z)
/-- behind a level's last deed -/
def gE (L : am_TL) (R : am_TR) (N : Nat) (Q : Int32 → am_TI → Prop) (z : Nat) (I : am_TI) (v2 : Int32) : Prop := ((v2 = 0 → wp_M_levelAt I L R 0 (fun (r4 : Int32) => wp_M_restores I L R 103 r4 (fun (I8 : am_TI) => Q (I8 (103 + 24) 0) I8))) ∧ (¬ v2 = 0 → (vp_in ((v2 + (-1)) + 1) 5 ∧ wp_M_settles I L R 103 (v2 + (-1)) (I (103 + 24) (Int32.toNatClampNeg ((v2 + (-1)) + 1))) (fun (I7 : am_TI) => wl_M_playing_15 L R 103 (nI N) Q z I7 (v2 + (-1))))))
theorem sm_begins {l cs b : Nat} (hl : l < 5) (h : sq_M q 0 I L) {Q : am_TI → Prop} (k : ∀ I1, (∀ i, i < 38 → I1 104 (2068 + 38 * l + i) = I 104 i) → I1 124 l = nM → I1 128 l = nM → I1 125 l = nI cs → I1 126 l = nI b → gl_f l I I1 → (∀ k, k < 38 → I1 104 k = I 104 k) → Q I1) : wp_M_beginsAt I L R 103 (nI l) (nI cs) (nI b) Q := by
  simp (disch := omega) only [wp_M_beginsAt, wp_M_levelAt, zi_0, zi_1, zi_2, zi_3, zi_4, zi_5, zi_6, zi_7, zi_8, zi_9, zi_10, zi_11, zi_12, zi_13, zi_14, zi_15, zi_16, zi_17, zi_18, zi_19, zi_20, zi_21, zi_22, zi_23, zi_24, zi_25, zi_26, zi_30, zi_31, zi_32, zi_34, zi_38, zi_59, zi_60, zi_61, zi_63, zi_64, zi_80, zi_96, zi_97, zi_99, zi_100, zi_122, zi_255, zi_256, zi_300, zi_398, zi_406, zi_900, zi_1000, zi_1024, zi_1624, zi_1662, zi_2030, zi_2031, zi_2068, zi_2258, zi_9999, zi_48, zi_57, zi_65536, zi_3257, zi_11483, zi_1000000, zi_729, zi_81, zi_m1, nI_add, pk_mul, nI_ltI, nI_leI, nI_eq, nI_clamp, zn_in, zn_sub1lt, zn_M, zn_Ml, zn_Mg, zn_Mle, zn_Mge, zn_sub, Nat.reduceAdd, Nat.reduceMul]
  refine sm_keeps (by omega) (by omega) (fun I1 a1 b1 => ?_)
  simp (disch := omega) only [zi_0, zi_1, zi_2, zi_3, zi_4, zi_5, zi_6, zi_7, zi_8, zi_9, zi_10, zi_11, zi_12, zi_13, zi_14, zi_15, zi_16, zi_17, zi_18, zi_19, zi_20, zi_21, zi_22, zi_23, zi_24, zi_25, zi_26, zi_30, zi_31, zi_32, zi_34, zi_38, zi_59, zi_60, zi_61, zi_63, zi_64, zi_80, zi_96, zi_97, zi_99, zi_100, zi_122, zi_255, zi_256, zi_300, zi_398, zi_406, zi_900, zi_1000, zi_1024, zi_1624, zi_1662, zi_2030, zi_2031, zi_2068, zi_2258, zi_9999, zi_48, zi_57, zi_65536, zi_3257, zi_11483, zi_1000000, zi_729, zi_81, zi_m1, nI_add, pk_mul, nI_ltI, nI_leI, nI_eq, nI_clamp, zn_in, zn_sub1lt, zn_M, zn_Ml, zn_Mg, zn_Mle, zn_Mge, zn_sub, Nat.reduceAdd, Nat.reduceMul, forall_eq, true_imp_iff, false_imp_iff, and_true, true_and, not_true_eq_false, not_false_eq_true, reduceCtorEq, imp_self, eq_self, false_and, and_false, implies_true]
  refine ⟨hl, hl, hl, hl, k _ (fun i hi => ?_) ?_ ?_ ?_ ?_ ⟨fun j hj => ?_, fun k h1 h2 => ?_, fun r h1 h2 => ?_⟩ (fun k hk => ?_)⟩
  · rw [am_u2o (by omega), am_u2o (by omega), am_u2o (by omega), am_u2o (by omega)]; exact a1 i hi
  · rw [am_u2o (by omega), am_u2o (by omega), am_u2o (by omega), am_u2_at]
  · rw [am_u2o (by omega), am_u2o (by omega), am_u2_at]
  · rw [am_u2o (by omega), am_u2_at]
  · rw [am_u2_at]
  · refine ⟨?_, ?_, ?_, ?_, ?_⟩
    · rw [am_u2o (by omega), am_u2o (by omega), am_u2o (by omega), am_u2_ne _ _ _ _ (by omega), b1 124 j (by omega)]
    · rw [am_u2o (by omega), am_u2_ne _ _ _ _ (by omega), am_u2o (by omega), am_u2o (by omega), b1 125 j (by omega)]
    · rw [am_u2_ne _ _ _ _ (by omega), am_u2o (by omega), am_u2o (by omega), am_u2o (by omega), b1 126 j (by omega)]
    · rw [am_u2o (by omega), am_u2o (by omega), am_u2o (by omega), am_u2o (by omega), b1 127 j (by omega)]
    · rw [am_u2o (by omega), am_u2o (by omega), am_u2_ne _ _ _ _ (by omega), am_u2o (by omega), b1 128 j (by omega)]
  · rw [am_u2o (by omega), am_u2o (by omega), am_u2o (by omega), am_u2o (by omega), b1 104 k (by omega)]
  · funext j
    rw [am_u2o (by omega), am_u2o (by omega), am_u2o (by omega), am_u2o (by omega), b1 r j (by omega)]
  · rw [am_u2o (by omega), am_u2o (by omega), am_u2o (by omega), am_u2o (by omega), b1 104 k (by omega)]
def gqt (q : Nat → Nat) (l : Nat) (ql : Nat → Nat) (t : Nat) : Nat → Nat := if l % 2 = 0 ∧ t < q 2 then sq_play ql t else ql
def gct (q : Nat → Nat) (l : Nat) (ql : Nat → Nat) (cs t : Nat) : Nat := if l % 2 = 0 ∧ t < q 2 then cs + pl_c ql t (ql 3) else cs
theorem gl_t (ok : sq_Ok q) {ql p : Nat → Nat} {cs l t : Nat} (g : gl_q q ql cs p) : gl_q q (gqt q l ql t) (gct q l ql cs t) (gpt q l p t) := by
  unfold gqt gct gpt
  by_cases e : l % 2 = 0 ∧ t < q 2
  · rw [if_pos e, if_pos e, if_pos e]; exact gl_s ok g e.2
  · rw [if_neg e, if_neg e, if_neg e]; exact g
theorem gl_le (ok : sq_Ok q) {ql p : Nat → Nat} {cs : Nat} (g : gl_q q ql cs p) : cs ≤ 594 := by rw [gl_c g]; exact gc_le ok p
/-- one turn of the loop -/
theorem sm_turn (h : sq_M q 0 I L) (ok : sq_Ok q) {N : Nat} (hN : N ≤ 4) {Q : Int32 → am_TI → Prop} {l : Nat} (hl : l < N) {ql p : Nat → Nat} {b cs m : Nat} (g : gl_q q ql cs p) (hb : b < 64) (hm : m ≤ q 2 + 1) {w : Nat → Nat} (b1 : ∀ k, 38 ≤ k → k < 406 → I1 104 k = I 104 k) (gi : gl_I q ql cs b l m w I1) (z : Nat)
    (kE : m = q 2 + 1 → ∀ I3, gl_f l I1 I3 → gl_k q ql l I3 → (∀ j, j = 127 ∨ j = 128 → I3 j l = I1 j l) → gE L R N Q z I3 (nI l))
    (kS : gsk q b m = true → ∀ I3, gl_f l I1 I3 → gl_k q ql l I3 → I3 124 l = nI m → (∀ j, 125 ≤ j → j ≤ 128 → I3 j l = I1 j l) → wl_M_playing_15 L R 103 (nI N) Q z I3 (nI l))
    (kO : m ≤ q 2 → gsk q b m = false → ∀ I6, sq_M (gqt q l ql m) 0 I6 L → gl_f l I1 I6 → gl_k q ql l I6 → I6 124 l = nI m → (∀ j, 125 ≤ j → j ≤ 128 → I6 j l = I1 j l) → (l + 1 = N → wp_M_settles I6 L R 103 (nI l) (nI (gct q l ql cs m)) (fun I5 => wl_M_playing_15 L R 103 (nI N) Q z I5 (nI l))) ∧ (¬ l + 1 = N → wp_M_beginsAt I6 L R 103 (nI (l + 1)) (nI (gct q l ql cs m)) (nI (gbt q l b m)) (fun I4 => wl_M_playing_15 L R 103 (nI N) Q z I4 (nI (l + 1))))) : wl_M_playing_15 L R 103 (nI N) Q (z + 1) I1 (nI l) := by
  have o := ok.1.2.2.1
  obtain ⟨i1, i2, i3, i4, i5, i6⟩ := gi
  rw [wl_M_playing_15]
  simp (disch := omega) only [wp_M_levelAt, zi_0, zi_1, zi_2, zi_3, zi_4, zi_5, zi_6, zi_7, zi_8, zi_9, zi_10, zi_11, zi_12, zi_13, zi_14, zi_15, zi_16, zi_17, zi_18, zi_19, zi_20, zi_21, zi_22, zi_23, zi_24, zi_25, zi_26, zi_30, zi_31, zi_32, zi_34, zi_38, zi_59, zi_60, zi_61, zi_63, zi_64, zi_80, zi_96, zi_97, zi_99, zi_100, zi_122, zi_255, zi_256, zi_300, zi_398, zi_406, zi_900, zi_1000, zi_1024, zi_1624, zi_1662, zi_2030, zi_2031, zi_2068, zi_2258, zi_9999, zi_48, zi_57, zi_65536, zi_3257, zi_11483, zi_1000000, zi_729, zi_81, zi_m1, nI_add, pk_mul, nI_ltI, nI_leI, nI_eq, nI_clamp, zn_in, zn_sub1lt, zn_M, zn_Ml, zn_Mg, zn_Mle, zn_Mge, zn_sub, Nat.reduceAdd, Nat.reduceMul]
  refine sm_restores (by omega) (by omega) (fun I2 a2 f2 => ⟨by omega, by omega, fun I3 h3 => ⟨by omega, ?_⟩⟩)
  have h2 : sq_M ql 0 I2 L := gl_sq h ok g i1 (by omega) a2 (fun k h1 h2 => by rw [f2 104 k (by omega)]; exact b1 k h1 h2)
  have e24 : I2 124 l + nI 1 = nI m := by rw [f2 124 l (by omega), i2]; exact Int32.sub_add_cancel _ _
  rw [e24] at h3
  have s3 : ∀ r j, ¬ (r = 124 ∧ j = l) → I3 r j = I2 r j := fun r j z => by rw [h3]; unfold am_u2; rw [if_neg z]
  have h3' : sq_M ql 0 I3 L := h2.keep (fun k _ _ => s3 104 k (by omega)) rfl g.1.2.2.2.2.1
  have m3 : I3 124 l = nI m := by rw [h3, am_u2_at]
  have q2 : ql 2 = q 2 := g.2.1 2 (by omega)
  have n3 : I3 104 2 = nI (q 2) := by rw [h3'.n2, q2]
  have j3 : ∀ j, 125 ≤ j → j ≤ 128 → I3 j l = I1 j l := fun j x y => by rw [s3 j l (by omega), f2 j l (by omega)]
  have f3 : gl_f l I1 I3 := ⟨fun j hj => by
    rw [s3 124 j (by omega), s3 125 j (by omega), s3 126 j (by omega), s3 127 j (by omega), s3 128 j (by omega), f2 124 j (by omega), f2 125 j (by omega), f2 126 j (by omega), f2 127 j (by omega), f2 128 j (by omega)]
    exact ⟨rfl, rfl, rfl, rfl, rfl⟩, fun k x y => by rw [s3 104 k (by omega), f2 104 k (by omega)], fun r x y => by
    funext j
    rw [s3 r j (by omega), f2 r j (by omega)]⟩
  have k3 : gl_k q ql l I3 := fun k hk => by rw [s3 104 _ (by omega), f2 104 _ (by omega)]; exact i1 k hk
  simp (disch := omega) only [wb_M_playing_91, m3, n3, zi_0, zi_1, zi_2, zi_3, zi_4, zi_5, zi_6, zi_7, zi_8, zi_9, zi_10, zi_11, zi_12, zi_13, zi_14, zi_15, zi_16, zi_17, zi_18, zi_19, zi_20, zi_21, zi_22, zi_23, zi_24, zi_25, zi_26, zi_30, zi_31, zi_32, zi_34, zi_38, zi_59, zi_60, zi_61, zi_63, zi_64, zi_80, zi_96, zi_97, zi_99, zi_100, zi_122, zi_255, zi_256, zi_300, zi_398, zi_406, zi_900, zi_1000, zi_1024, zi_1624, zi_1662, zi_2030, zi_2031, zi_2068, zi_2258, zi_9999, zi_48, zi_57, zi_65536, zi_3257, zi_11483, zi_1000000, zi_729, zi_81, zi_m1, nI_add, pk_mul, nI_ltI, nI_leI, nI_eq, nI_clamp, zn_in, zn_sub1lt, zn_M, zn_Ml, zn_Mg, zn_Mle, zn_Mge, zn_sub, Nat.reduceAdd, Nat.reduceMul]
  refine ⟨fun y => ?_, fun y => ?_⟩
  rotate_left
  · have E := kE (by omega) I3 f3 k3 (fun j hj => j3 j (by omega) (by omega))
    unfold gE at E
    simp (disch := omega) only [wp_M_levelAt, m3, n3, zi_0, zi_1, zi_2, zi_3, zi_4, zi_5, zi_6, zi_7, zi_8, zi_9, zi_10, zi_11, zi_12, zi_13, zi_14, zi_15, zi_16, zi_17, zi_18, zi_19, zi_20, zi_21, zi_22, zi_23, zi_24, zi_25, zi_26, zi_30, zi_31, zi_32, zi_34, zi_38, zi_59, zi_60, zi_61, zi_63, zi_64, zi_80, zi_96, zi_97, zi_99, zi_100, zi_122, zi_255, zi_256, zi_300, zi_398, zi_406, zi_900, zi_1000, zi_1024, zi_1624, zi_1662, zi_2030, zi_2031, zi_2068, zi_2258, zi_9999, zi_48, zi_57, zi_65536, zi_3257, zi_11483, zi_1000000, zi_729, zi_81, zi_m1, nI_add, pk_mul, nI_ltI, nI_leI, nI_eq, nI_clamp, zn_in, zn_sub1lt, zn_M, zn_Ml, zn_Mg, zn_Mle, zn_Mge, zn_sub, Nat.reduceAdd, Nat.reduceMul] at E
    exact E
  have kO' := kO y
  have e25 : I3 125 l = nI cs := by rw [j3 125 (by omega) (by omega)]; exact i3
  have e26 : I3 126 l = nI b := by rw [j3 126 (by omega) (by omega)]; exact i4
  refine ⟨fun y2 => ?_, fun y2 => ?_⟩
  · -- none
    have me : m = q 2 := by omega
    have sk : gsk q b m = false := by unfold gsk; simp [me]
    have kk := kO' sk I3 (by unfold gqt; rw [if_neg (by omega)]; exact h3') f3 k3 m3 j3
    rw [show gct q l ql cs m = cs by unfold gct; rw [if_neg (by omega)], show gbt q l b m = b by unfold gbt; rw [if_neg (by omega)]] at kk
    refine ⟨fun _ => ?_, fun e => (by cases e)⟩
    simp (disch := omega) only [wb_M_playing_115, wb_M_playing_140, wb_M_playing_141, wb_M_playing_168, wb_M_playing_169, e25, e26, zn_or0, zi_0, zi_1, zi_2, zi_3, zi_4, zi_5, zi_6, zi_7, zi_8, zi_9, zi_10, zi_11, zi_12, zi_13, zi_14, zi_15, zi_16, zi_17, zi_18, zi_19, zi_20, zi_21, zi_22, zi_23, zi_24, zi_25, zi_26, zi_30, zi_31, zi_32, zi_34, zi_38, zi_59, zi_60, zi_61, zi_63, zi_64, zi_80, zi_96, zi_97, zi_99, zi_100, zi_122, zi_255, zi_256, zi_300, zi_398, zi_406, zi_900, zi_1000, zi_1024, zi_1624, zi_1662, zi_2030, zi_2031, zi_2068, zi_2258, zi_9999, zi_48, zi_57, zi_65536, zi_3257, zi_11483, zi_1000000, zi_729, zi_81, zi_m1, nI_add, pk_mul, nI_ltI, nI_leI, nI_eq, nI_clamp, zn_in, zn_sub1lt, zn_M, zn_Ml, zn_Mg, zn_Mle, zn_Mge, zn_sub, Nat.reduceAdd, Nat.reduceMul, forall_eq, true_imp_iff, false_imp_iff, and_true, true_and, not_true_eq_false, not_false_eq_true, reduceCtorEq, imp_self, eq_self, false_and, and_false, implies_true]
    exact ⟨by omega, by omega, kk.1, kk.2⟩
  · have ml : m < q 2 := by omega
    refine ⟨fun e => (by cases e), fun _ => ⟨by omega, ?_⟩⟩
    simp (disch := omega) only [wp_M_isIn, e26, zn_bit, zi_0, zi_1, zi_2, zi_3, zi_4, zi_5, zi_6, zi_7, zi_8, zi_9, zi_10, zi_11, zi_12, zi_13, zi_14, zi_15, zi_16, zi_17, zi_18, zi_19, zi_20, zi_21, zi_22, zi_23, zi_24, zi_25, zi_26, zi_30, zi_31, zi_32, zi_34, zi_38, zi_59, zi_60, zi_61, zi_63, zi_64, zi_80, zi_96, zi_97, zi_99, zi_100, zi_122, zi_255, zi_256, zi_300, zi_398, zi_406, zi_900, zi_1000, zi_1024, zi_1624, zi_1662, zi_2030, zi_2031, zi_2068, zi_2258, zi_9999, zi_48, zi_57, zi_65536, zi_3257, zi_11483, zi_1000000, zi_729, zi_81, zi_m1, nI_add, pk_mul, nI_ltI, nI_leI, nI_eq, nI_clamp, zn_in, zn_sub1lt, zn_M, zn_Ml, zn_Mg, zn_Mle, zn_Mge, zn_sub, Nat.reduceAdd, Nat.reduceMul, forall_eq, true_imp_iff, false_imp_iff, and_true, true_and, not_true_eq_false, not_false_eq_true, reduceCtorEq, imp_self, eq_self, false_and, and_false, implies_true]
    refine ⟨fun bt => kS (by unfold gsk; rw [bt]; simpa using ml) I3 f3 k3 m3 j3, fun bt => ?_⟩
    have sk : gsk q b m = false := by unfold gsk; simp at bt; simp [bt]
    have kO2 := kO' sk
    simp (disch := omega) only [wb_M_playing_115, wb_M_playing_140, e25, zi_0, zi_1, zi_2, zi_3, zi_4, zi_5, zi_6, zi_7, zi_8, zi_9, zi_10, zi_11, zi_12, zi_13, zi_14, zi_15, zi_16, zi_17, zi_18, zi_19, zi_20, zi_21, zi_22, zi_23, zi_24, zi_25, zi_26, zi_30, zi_31, zi_32, zi_34, zi_38, zi_59, zi_60, zi_61, zi_63, zi_64, zi_80, zi_96, zi_97, zi_99, zi_100, zi_122, zi_255, zi_256, zi_300, zi_398, zi_406, zi_900, zi_1000, zi_1024, zi_1624, zi_1662, zi_2030, zi_2031, zi_2068, zi_2258, zi_9999, zi_48, zi_57, zi_65536, zi_3257, zi_11483, zi_1000000, zi_729, zi_81, zi_m1, nI_add, pk_mul, nI_ltI, nI_leI, nI_eq, nI_clamp, zn_in, zn_sub1lt, zn_M, zn_Ml, zn_Mg, zn_Mle, zn_Mge, zn_sub, Nat.reduceAdd, Nat.reduceMul, forall_eq, true_imp_iff, false_imp_iff, and_true, true_and, not_true_eq_false, not_false_eq_true, reduceCtorEq, imp_self, eq_self, false_and, and_false, implies_true]
    have odd := zn_odd l (by omega)
    simp only [odd]
    refine ⟨by omega, fun ev => ?_, fun od => ?_⟩
    · rw [nI_eq (by omega) (by omega)] at ev
      refine sm_plays h3' g.1 (by omega) (fun I6 h6 f6 => ?_)
      have kk := kO2 I6 (by unfold gqt; rw [if_pos ⟨ev, ml⟩]; exact h6) (f3.trans ⟨fun j hj => by rw [f6 124 j (by omega), f6 125 j (by omega), f6 126 j (by omega), f6 127 j (by omega), f6 128 j (by omega)]; exact ⟨rfl, rfl, rfl, rfl, rfl⟩, fun k x y => f6 104 k (by omega), fun r x y => by funext j; exact f6 r j (by omega)⟩) (fun k hk => by rw [f6 104 _ (by omega)]; exact k3 k hk) (by rw [f6 124 l (by omega)]; exact m3) (fun j x y => by rw [f6 j l (by omega)]; exact j3 j x y)
      rw [show gct q l ql cs m = cs + pl_c ql m (ql 3) by unfold gct; rw [if_pos ⟨ev, ml⟩], show gbt q l b m = b by unfold gbt; rw [if_neg (by omega)]] at kk
      have e266 : I6 126 l = nI b := by rw [f6 126 l (by omega)]; exact e26
      simp (disch := omega) only [wb_M_playing_141, wb_M_playing_168, wb_M_playing_169, e266, odd, zn_or0, zi_0, zi_1, zi_2, zi_3, zi_4, zi_5, zi_6, zi_7, zi_8, zi_9, zi_10, zi_11, zi_12, zi_13, zi_14, zi_15, zi_16, zi_17, zi_18, zi_19, zi_20, zi_21, zi_22, zi_23, zi_24, zi_25, zi_26, zi_30, zi_31, zi_32, zi_34, zi_38, zi_59, zi_60, zi_61, zi_63, zi_64, zi_80, zi_96, zi_97, zi_99, zi_100, zi_122, zi_255, zi_256, zi_300, zi_398, zi_406, zi_900, zi_1000, zi_1024, zi_1624, zi_1662, zi_2030, zi_2031, zi_2068, zi_2258, zi_9999, zi_48, zi_57, zi_65536, zi_3257, zi_11483, zi_1000000, zi_729, zi_81, zi_m1, nI_add, pk_mul, nI_ltI, nI_leI, nI_eq, nI_clamp, zn_in, zn_sub1lt, zn_M, zn_Ml, zn_Mg, zn_Mle, zn_Mge, zn_sub, Nat.reduceAdd, Nat.reduceMul, forall_eq, true_imp_iff, false_imp_iff, and_true, true_and, not_true_eq_false, not_false_eq_true, reduceCtorEq, imp_self, eq_self, false_and, and_false, implies_true]
      exact ⟨by omega, fun x => absurd x (by omega), fun _ => ⟨kk.1, kk.2⟩⟩
    · rw [nI_eq (by omega) (by omega)] at od
      have kk := kO2 I3 (by unfold gqt; rw [if_neg (by omega)]; exact h3') f3 k3 m3 j3
      rw [show gct q l ql cs m = cs by unfold gct; rw [if_neg (by omega)], show gbt q l b m = b ||| 2 ^ m by unfold gbt; rw [if_pos ⟨by omega, ml⟩]] at kk
      simp (disch := omega) only [wb_M_playing_141, wb_M_playing_168, wb_M_playing_169, e26, odd, zn_shl, ze_or, zi_0, zi_1, zi_2, zi_3, zi_4, zi_5, zi_6, zi_7, zi_8, zi_9, zi_10, zi_11, zi_12, zi_13, zi_14, zi_15, zi_16, zi_17, zi_18, zi_19, zi_20, zi_21, zi_22, zi_23, zi_24, zi_25, zi_26, zi_30, zi_31, zi_32, zi_34, zi_38, zi_59, zi_60, zi_61, zi_63, zi_64, zi_80, zi_96, zi_97, zi_99, zi_100, zi_122, zi_255, zi_256, zi_300, zi_398, zi_406, zi_900, zi_1000, zi_1024, zi_1624, zi_1662, zi_2030, zi_2031, zi_2068, zi_2258, zi_9999, zi_48, zi_57, zi_65536, zi_3257, zi_11483, zi_1000000, zi_729, zi_81, zi_m1, nI_add, pk_mul, nI_ltI, nI_leI, nI_eq, nI_clamp, zn_in, zn_sub1lt, zn_M, zn_Ml, zn_Mg, zn_Mle, zn_Mge, zn_sub, Nat.reduceAdd, Nat.reduceMul, forall_eq, true_imp_iff, false_imp_iff, and_true, true_and, not_true_eq_false, not_false_eq_true, reduceCtorEq, imp_self, eq_self, false_and, and_false, implies_true]
      exact ⟨by omega, fun _ => ⟨kk.1, kk.2⟩, fun x => absurd (by omega) x⟩
theorem sm_lvl (h : sq_M q 0 I L) (ok : sq_Ok q) {N : Nat} (hN : N ≤ 4) {Q : Int32 → am_TI → Prop} : ∀ r l, l + r + 1 = N → ∀ ql p b cs, gl_q q ql cs p → b < 64 → ∀ n m, m + n = q 2 + 1 → ∃ F, ∀ I1, (∀ k, 38 ≤ k → k < 406 → I1 104 k = I 104 k) → gl_I q ql cs b l m (fun t => gv q r (l + 1) (gpt q l p t) (gbt q l b t)) I1 → ∀ z, (∀ I3, gl_f l I1 I3 → gl_k q ql l I3 → I3 128 l = gd_i (gb (decide (l % 2 = 0)) (gsk q b) (fun t => gv q r (l + 1) (gpt q l p t) (gbt q l b t)) (q 2 + 1)) → I3 127 l = nI (gv q (r + 1) l p b) → gE L R N Q z I3 (nI l)) → wl_M_playing_15 L R 103 (nI N) Q (z + F) I1 (nI l) := by
  have o := ok.1.2.2.1
  intro r
  induction r with
  | zero =>
    intro l hl ql p b cs g hb n
    induction n with
    | zero =>
      intro m hm
      refine ⟨1, fun I1 b1 gi z K => sm_turn h ok hN (by omega) g hb (by omega) b1 gi z (fun _ I3 f3 k3 j3 => ?_) (fun sk => ?_) (fun x => absurd x (by omega))⟩
      · obtain ⟨i1, i2, i3, i4, i5, i6⟩ := gi
        have me : m = q 2 + 1 := by omega
        rw [me] at i5 i6
        refine K I3 f3 k3 (by rw [j3 128 (Or.inr rfl)]; exact i5) ?_
        rw [j3 127 (Or.inl rfl), gv]
        cases gg : gb (decide (l % 2 = 0)) (gsk q b) (fun t => gv q 0 (l + 1) (gpt q l p t) (gbt q l b t)) (q 2 + 1) with
        | none =>
          exfalso
          have hT : gsk q b (q 2) = false := by unfold gsk; simp
          cases g2 : gb (decide (l % 2 = 0)) (gsk q b) (fun t => gv q 0 (l + 1) (gpt q l p t) (gbt q l b t)) (q 2) with
          | none => rw [gb_n hT g2] at gg; cases gg
          | some x =>
            obtain ⟨d1, v1⟩ := x
            rw [gb_y hT g2] at gg
            split at gg <;> cases gg
        | some x => obtain ⟨d1, v1⟩ := x; exact i6 d1 v1 gg
      · exfalso
        unfold gsk at sk
        simp at sk
        omega
    | succ n ih =>
      intro m hm
      obtain ⟨F, hF⟩ := ih (m + 1) (by omega)
      refine ⟨F + 1, fun I1 b1 gi z K => ?_⟩
      rw [← Nat.add_assoc]
      have gi' := gi
      obtain ⟨i1, i2, i3, i4, i5, i6⟩ := gi'
      refine sm_turn h ok hN (by omega) g hb (by omega) b1 gi (z + F) (fun x => absurd x (by omega)) (fun sk I3 f3 k3 m3 j3 => ?_) (fun x sk I6 h6 f6 k6 m6 j6 => ⟨fun _ => ?_, fun x => absurd hl x⟩)
      · refine hF I3 (fun k x y => by rw [f3.2.1 k x (by omega)]; exact b1 k x y) ⟨k3, ?_, ?_, ?_, ?_, ?_⟩ z (fun I4 f4 => K I4 (f3.trans f4))
        · rw [m3, zn_sub (by omega)]; rfl
        · rw [j3 125 (by omega) (by omega)]; exact i3
        · rw [j3 126 (by omega) (by omega)]; exact i4
        · rw [j3 128 (by omega) (by omega), gb_s sk]; exact i5
        · intro x v hx
          rw [gb_s sk] at hx
          rw [j3 127 (by omega) (by omega)]; exact i6 x v hx
      · have cl := gl_le ok (gl_t (l := l) (t := m) ok g)
        refine sm_settles (w := fun t => gv q 0 (l + 1) (gpt q l p t) (gbt q l b t)) (b := b) (q := q) (by omega) (by omega) ?_ cl (fun t => gv_le ok _ _ _ _) sk m6 (by rw [j6 128 (by omega) (by omega)]; exact i5) (fun x v hx => by rw [j6 127 (by omega) (by omega)]; exact i6 x v hx) (fun I5 s1 s2 s3 => ?_)
        · show gv q 0 (l + 1) (gpt q l p m) (gbt q l b m) = _
          rw [gv, ← gl_c (gl_t (l := l) (t := m) ok g)]
        · have f5 : gl_f l I6 I5 := ⟨fun j hj => by rw [s3 124 j (by omega), s3 125 j (by omega), s3 126 j (by omega), s3 127 j (by omega), s3 128 j (by omega)]; exact ⟨rfl, rfl, rfl, rfl, rfl⟩, fun k x y => s3 104 k (by omega), fun r x y => by funext j; exact s3 r j (by omega)⟩
          refine hF I5 (fun k x y => by rw [f5.2.1 k x (by omega), f6.2.1 k x (by omega)]; exact b1 k x y) ⟨fun k hk => by rw [s3 104 _ (by omega)]; exact k6 k hk, ?_, ?_, ?_, s1, s2⟩ z (fun I4 f4 => K I4 ((f6.trans f5).trans f4))
          · rw [s3 124 l (by omega), m6, zn_sub (by omega)]; rfl
          · rw [s3 125 l (by omega), j6 125 (by omega) (by omega)]; exact i3
          · rw [s3 126 l (by omega), j6 126 (by omega) (by omega)]; exact i4
  | succ r ihr =>
    intro l hl ql p b cs g hb n
    induction n with
    | zero =>
      intro m hm
      refine ⟨1, fun I1 b1 gi z K => sm_turn h ok hN (by omega) g hb (by omega) b1 gi z (fun _ I3 f3 k3 j3 => ?_) (fun sk => ?_) (fun x => absurd x (by omega))⟩
      · obtain ⟨i1, i2, i3, i4, i5, i6⟩ := gi
        have me : m = q 2 + 1 := by omega
        rw [me] at i5 i6
        refine K I3 f3 k3 (by rw [j3 128 (Or.inr rfl)]; exact i5) ?_
        rw [j3 127 (Or.inl rfl), gv]
        cases gg : gb (decide (l % 2 = 0)) (gsk q b) (fun t => gv q (r + 1) (l + 1) (gpt q l p t) (gbt q l b t)) (q 2 + 1) with
        | none =>
          exfalso
          have hT : gsk q b (q 2) = false := by unfold gsk; simp
          cases g2 : gb (decide (l % 2 = 0)) (gsk q b) (fun t => gv q (r + 1) (l + 1) (gpt q l p t) (gbt q l b t)) (q 2) with
          | none => rw [gb_n hT g2] at gg; cases gg
          | some x =>
            obtain ⟨d1, v1⟩ := x
            rw [gb_y hT g2] at gg
            split at gg <;> cases gg
        | some x => obtain ⟨d1, v1⟩ := x; exact i6 d1 v1 gg
      · exfalso
        unfold gsk at sk
        simp at sk
        omega
    | succ n ih =>
      intro m hm
      obtain ⟨F, hF⟩ := ih (m + 1) (by omega)
      have b6 : gbt q l b m < 64 := by
        unfold gbt
        split
        · rename_i e
          exact Nat.or_lt_two_pow (n := 6) hb (Nat.pow_lt_pow_right (by decide) (by omega))
        · exact hb
      obtain ⟨F', hF'⟩ := ihr (l + 1) (by omega) (gqt q l ql m) (gpt q l p m) (gbt q l b m) (gct q l ql cs m) (gl_t ok g) b6 (q 2 + 1) 0 (by omega)
      cases sk : gsk q b m with
      | true =>
        refine ⟨F + 1, fun I1 b1 gi z K => ?_⟩
        rw [← Nat.add_assoc]
        have gi' := gi
        obtain ⟨i1, i2, i3, i4, i5, i6⟩ := gi'
        refine sm_turn h ok hN (by omega) g hb (by omega) b1 gi (z + F) (fun x => absurd x (by omega)) (fun _ I3 f3 k3 m3 j3 => ?_) (fun x sk2 => by rw [sk] at sk2; cases sk2)
        refine hF I3 (fun k x y => by rw [f3.2.1 k x (by omega)]; exact b1 k x y) ⟨k3, ?_, ?_, ?_, ?_, ?_⟩ z (fun I4 f4 => K I4 (f3.trans f4))
        · rw [m3, zn_sub (by omega)]; rfl
        · rw [j3 125 (by omega) (by omega)]; exact i3
        · rw [j3 126 (by omega) (by omega)]; exact i4
        · rw [j3 128 (by omega) (by omega), gb_s sk]; exact i5
        · intro x v hx
          rw [gb_s sk] at hx
          rw [j3 127 (by omega) (by omega)]; exact i6 x v hx
      | false =>
        refine ⟨F + F' + 1, fun I1 b1 gi z K => ?_⟩
        rw [← Nat.add_assoc, ← Nat.add_assoc]
        have gi' := gi
        obtain ⟨i1, i2, i3, i4, i5, i6⟩ := gi'
        refine sm_turn h ok hN (by omega) g hb (by omega) b1 gi (z + F + F') (fun x => absurd x (by omega)) (fun sk2 => by rw [sk] at sk2; cases sk2) (fun x _ I6 h6 f6 k6 m6 j6 => ⟨fun x => absurd x (by omega), fun _ => ?_⟩)
        refine sm_begins (by omega) h6 (fun I4 c1 c2 c3 c4 c5 c6 c7 => ?_)
        refine hF' I4 (fun k x y => by rw [c6.2.1 k x (by omega), f6.2.1 k x (by omega)]; exact b1 k x y) ⟨fun k hk => ?_, c2, c4, c5, c3, fun x v hx => by cases hx⟩ (z + F) (fun I5 f5 k5 d5 v5 => ?_)
        · rw [c1 k hk]
          by_cases e7 : k = 7
          · subst e7
            rw [if_pos rfl, h6.n7, (gl_t (l := l) (t := m) ok g).2.1 7 (by omega)]
          · rw [if_neg e7]; exact h6.nk hk e7
        · have el : nI (l + 1) + -1 = nI l := pk_m1 l
          have el2 : nI l + 1 = nI (l + 1) := nI_add l 1
          refine ⟨fun x => ?_, fun _ => ?_⟩
          · have x2 : nI (l + 1) = nI 0 := x
            rw [nI_eq (by omega) (by omega)] at x2; omega
          · rw [el, el2]
            have ec : Int32.toNatClampNeg (nI (l + 1)) = l + 1 := nI_clamp (by omega)
            rw [ec, show 103 + 24 = 127 from rfl, v5]
            refine ⟨(zn_in (by omega)).mpr (by omega), ?_⟩
            obtain ⟨w1, w2, w3, w4, w5⟩ := f5.1 l (by omega)
            obtain ⟨y1, y2, y3, y4, y5⟩ := c6.1 l (by omega)
            have f65 : gl_f l I6 I5 := (c6.down (by omega)).trans (f5.down (by omega))
            refine sm_settles (w := fun t => gv q (r + 1) (l + 1) (gpt q l p t) (gbt q l b t)) (b := b) (q := q) (by omega) (by omega) rfl (gv_le ok _ _ _ _) (fun t => gv_le ok _ _ _ _) sk (by rw [w1, y1]; exact m6) (by rw [w5, y5, j6 128 (by omega) (by omega)]; exact i5) (fun x v hx => by rw [w4, y4, j6 127 (by omega) (by omega)]; exact i6 x v hx) (fun I7 s1 s2 s3 => ?_)
            have f7 : gl_f l I5 I7 := ⟨fun j hj => by rw [s3 124 j (by omega), s3 125 j (by omega), s3 126 j (by omega), s3 127 j (by omega), s3 128 j (by omega)]; exact ⟨rfl, rfl, rfl, rfl, rfl⟩, fun k x y => s3 104 k (by omega), fun r x y => by funext j; exact s3 r j (by omega)⟩
            refine hF I7 (fun k x y => by rw [f7.2.1 k x (by omega), f65.2.1 k x (by omega), f6.2.1 k x (by omega)]; exact b1 k x y) ⟨fun k hk => ?_, ?_, ?_, ?_, s1, s2⟩ z (fun I8 f8 => K I8 (((f6.trans f65).trans f7).trans f8))
            · rw [s3 104 _ (by omega), f5.2.1 _ (by omega) (by omega), c6.2.1 _ (by omega) (by omega)]; exact k6 k hk
            · rw [s3 124 l (by omega), w1, y1, m6, zn_sub (by omega)]; rfl
            · rw [s3 125 l (by omega), w2, y2, j6 125 (by omega) (by omega)]; exact i3
            · rw [s3 126 l (by omega), w3, y3, j6 126 (by omega) (by omega)]; exact i4
theorem sm_playing (h : sq_M q 0 I L) (ok : sq_Ok q) {r : Nat} (hr : r < 4) {Q : Int32 → am_TI → Prop} (k : ∀ I1, sq_M q 0 I1 L → fr_M I I1 → I1 128 0 = gd_i (gb true (gsk q 0) (fun t => gv q r (0 + 1) (gpt q 0 (fun _ => 0) t) (gbt q 0 0 t)) (q 2 + 1)) → Q (nI (gv q (r + 1) 0 (fun _ => 0) 0)) I1) : wp_M_playing I L R 103 (nI (r + 1)) Q := by
  have o := ok.1.2.2.1
  have n0 : ¬ nI (r + 1) = nI 0 := by rw [nI_eq (by omega) (by omega)]; omega
  refine ⟨fun x => absurd x n0, fun _ => ?_⟩
  refine sm_begins (l := 0) (cs := 0) (b := 0) (by omega) h (fun I1 c1 c2 c3 c4 c5 c6 c7 => ?_)
  obtain ⟨F, hF⟩ := sm_lvl (R := R) (Q := Q) h ok (N := r + 1) (by omega) r 0 (by omega) q (fun _ => 0) 0 0 (gl_0 ok) (by omega) (q 2 + 1) 0 (by omega)
  refine ⟨0 + F, hF I1 (fun k x y => c6.2.1 k x (by omega)) ⟨fun k hk => ?_, c2, c4, c5, c3, fun x v hx => by cases hx⟩ 0 (fun I3 f3 k3 d3 v3 => ⟨fun _ => ?_, fun x => absurd rfl x⟩)⟩
  · rw [c1 k hk]
    by_cases e7 : k = 7
    · subst e7
      rw [if_pos rfl, h.n7]
    · rw [if_neg e7]; exact h.nk hk e7
  · have el : wp_M_levelAt I3 L R 0 (fun r4 => wp_M_restores I3 L R 103 r4 (fun I8 => Q (I8 (103 + 24) 0) I8)) ↔ wp_M_restores I3 L R 103 (nI 2068) (fun I8 => Q (I8 127 0) I8) := Iff.rfl
    rw [el]
    refine sm_restores (by omega) (by omega) (fun I8 a8 f8 => ?_)
    have f13 : gl_f 0 I I3 := c6.trans f3
    have s8 : sq_M q 0 I8 L := gl_sq h ok (gl_0 ok) k3 (by omega) a8 (fun k x y => by rw [f8 104 k (by omega), f13.2.1 k x (by omega)])
    rw [f8 127 0 (by omega), v3]
    refine k I8 s8 (fun r j hh => ?_) (by rw [f8 128 0 (by omega)]; exact d3)
    by_cases e4 : r = 104
    · subst e4
      rw [f8 104 j (by omega), f13.2.1 j (by omega) (by omega)]
    · rw [f8 r j (by omega), f13.2.2 r (by omega) e4]
theorem ga_frU2 (hcd : sq_cd c d) (h : sq_U q c d I L) (f : ∀ r j, ¬ (16 ≤ r ∧ r ≤ 20) → I1 r j = I r j) : sq_U q c d I1 L ∧ fr_U d I I1 := by
  obtain ⟨hc, hd⟩ := hcd
  exact ⟨h.keep (fun r hr => by funext j; exact f r j (by omega)) rfl, fun r k g => f r k (by omega)⟩
def gd_v : Option (Nat × Nat) → Int32
  | none => nM
  | some (_, v) => nI v
theorem op_game (ok : sq_Ok q) (p1 : Int32) : si_G q (fun I L R Q => wp_U_game I L R 0 p1 Q) (fun I L R Q => wp_M_game I L R 103 p1 Q) := by
  have o := ok.1.2.2.1
  rcases zc p1 with hp | ⟨n, hn, rfl⟩
  · refine ⟨nM, 1, ?_, ?_⟩
    · intro c d I L R hcd h hc hd hz Q K
      simp (disch := omega) only [wp_U_game, wp_U_within, wp_U_refused, hc, hp, zi_0, zi_1, zi_2, zi_3, zi_4, zi_5, zi_6, zi_7, zi_8, zi_9, zi_10, zi_11, zi_12, zi_13, zi_14, zi_15, zi_16, zi_17, zi_18, zi_19, zi_20, zi_21, zi_22, zi_23, zi_24, zi_25, zi_26, zi_30, zi_31, zi_32, zi_34, zi_38, zi_59, zi_60, zi_61, zi_63, zi_64, zi_80, zi_96, zi_97, zi_99, zi_100, zi_122, zi_255, zi_256, zi_300, zi_398, zi_406, zi_900, zi_1000, zi_1024, zi_1624, zi_1662, zi_2030, zi_2031, zi_2068, zi_2258, zi_9999, zi_48, zi_57, zi_65536, zi_3257, zi_11483, zi_1000000, zi_729, zi_81, zi_m1, nI_add, pk_mul, nI_ltI, nI_leI, nI_eq, nI_clamp, zn_in, zn_sub1lt, zn_M, zn_Ml, zn_Mg, zn_Mle, zn_Mge, zn_sub, Nat.reduceAdd, Nat.reduceMul, forall_eq, true_imp_iff, false_imp_iff, and_true, true_and, not_true_eq_false, not_false_eq_true, reduceCtorEq, imp_self, eq_self, false_and, and_false, implies_true]
      exact K _ _ (po_U.q0 h hcd _) (Or.inl rfl)
    · intro I L R h Q K
      simp (disch := omega) only [wp_M_game, wp_M_isFrom, wp_M_refuse, hp, zf_n hp, zj_0, zj_1, zj_2, zj_4, zj_6, zj_7, zj_8, zj_16, zj_20, zj_60, zj_63, zj_64, zj_99, zj_9999, nI_l, zk_lt, zk_le, zk_eq, zk_add, zk_in, zi_0, zi_1, zi_2, zi_3, zi_4, zi_5, zi_6, zi_7, zi_8, zi_9, zi_10, zi_11, zi_12, zi_13, zi_14, zi_15, zi_16, zi_17, zi_18, zi_19, zi_20, zi_21, zi_22, zi_23, zi_24, zi_25, zi_26, zi_30, zi_31, zi_32, zi_34, zi_38, zi_59, zi_60, zi_61, zi_63, zi_64, zi_80, zi_96, zi_97, zi_99, zi_100, zi_122, zi_255, zi_256, zi_300, zi_398, zi_406, zi_900, zi_1000, zi_1024, zi_1624, zi_1662, zi_2030, zi_2031, zi_2068, zi_2258, zi_9999, zi_48, zi_57, zi_65536, zi_3257, zi_11483, zi_1000000, zi_729, zi_81, zi_m1, nI_add, pk_mul, nI_ltI, nI_leI, nI_eq, nI_clamp, zn_in, zn_sub1lt, zn_M, zn_Ml, zn_Mg, zn_Mle, zn_Mge, zn_sub, Nat.reduceAdd, Nat.reduceMul, forall_eq, true_imp_iff, false_imp_iff, and_true, true_and, not_true_eq_false, not_false_eq_true, reduceCtorEq, imp_self, eq_self, false_and, and_false, implies_true]
      exact K _ (po_M.q0 h ok _)
  by_cases g : 4 < n
  · refine ⟨nM, 1, ?_, ?_⟩
    · intro c d I L R hcd h hc hd hz Q K
      simp (disch := omega) only [wp_U_game, wp_U_within, wp_U_refused, hc, zi_0, zi_1, zi_2, zi_3, zi_4, zi_5, zi_6, zi_7, zi_8, zi_9, zi_10, zi_11, zi_12, zi_13, zi_14, zi_15, zi_16, zi_17, zi_18, zi_19, zi_20, zi_21, zi_22, zi_23, zi_24, zi_25, zi_26, zi_30, zi_31, zi_32, zi_34, zi_38, zi_59, zi_60, zi_61, zi_63, zi_64, zi_80, zi_96, zi_97, zi_99, zi_100, zi_122, zi_255, zi_256, zi_300, zi_398, zi_406, zi_900, zi_1000, zi_1024, zi_1624, zi_1662, zi_2030, zi_2031, zi_2068, zi_2258, zi_9999, zi_48, zi_57, zi_65536, zi_3257, zi_11483, zi_1000000, zi_729, zi_81, zi_m1, nI_add, pk_mul, nI_ltI, nI_leI, nI_eq, nI_clamp, zn_in, zn_sub1lt, zn_M, zn_Ml, zn_Mg, zn_Mle, zn_Mge, zn_sub, Nat.reduceAdd, Nat.reduceMul, forall_eq, true_imp_iff, false_imp_iff, and_true, true_and, not_true_eq_false, not_false_eq_true, reduceCtorEq, imp_self, eq_self, false_and, and_false, implies_true]
      repeat' (first | omega | with_reducible refine And.intro ?_ ?_ | with_reducible intro g)
      exact K _ _ (po_U.q0 h hcd _) (Or.inl rfl)
    · intro I L R h Q K
      simp (disch := omega) only [wp_M_game, wp_M_isFrom, wp_M_refuse, zj_0, zj_1, zj_2, zj_4, zj_6, zj_7, zj_8, zj_16, zj_20, zj_60, zj_63, zj_64, zj_99, zj_9999, nI_l, zk_lt, zk_le, zk_eq, zk_add, zk_in, zi_0, zi_1, zi_2, zi_3, zi_4, zi_5, zi_6, zi_7, zi_8, zi_9, zi_10, zi_11, zi_12, zi_13, zi_14, zi_15, zi_16, zi_17, zi_18, zi_19, zi_20, zi_21, zi_22, zi_23, zi_24, zi_25, zi_26, zi_30, zi_31, zi_32, zi_34, zi_38, zi_59, zi_60, zi_61, zi_63, zi_64, zi_80, zi_96, zi_97, zi_99, zi_100, zi_122, zi_255, zi_256, zi_300, zi_398, zi_406, zi_900, zi_1000, zi_1024, zi_1624, zi_1662, zi_2030, zi_2031, zi_2068, zi_2258, zi_9999, zi_48, zi_57, zi_65536, zi_3257, zi_11483, zi_1000000, zi_729, zi_81, zi_m1, nI_add, pk_mul, nI_ltI, nI_leI, nI_eq, nI_clamp, zn_in, zn_sub1lt, zn_M, zn_Ml, zn_Mg, zn_Mle, zn_Mge, zn_sub, Nat.reduceAdd, Nat.reduceMul, forall_eq, true_imp_iff, false_imp_iff, and_true, true_and, not_true_eq_false, not_false_eq_true, reduceCtorEq, imp_self, eq_self, false_and, and_false, implies_true]
      repeat' (first | omega | with_reducible refine And.intro ?_ ?_ | with_reducible intro g)
      exact K _ (po_M.q0 h ok _)
  refine ⟨nI (gv q n 0 (fun _ => 0) 0), 0, ?_, ?_⟩
  · intro c d I L R hcd h hc hd hz Q K
    simp (disch := omega) only [wp_U_game, wp_U_within, wp_Rows_coinsOfGame, hc, zi_0, zi_1, zi_2, zi_3, zi_4, zi_5, zi_6, zi_7, zi_8, zi_9, zi_10, zi_11, zi_12, zi_13, zi_14, zi_15, zi_16, zi_17, zi_18, zi_19, zi_20, zi_21, zi_22, zi_23, zi_24, zi_25, zi_26, zi_30, zi_31, zi_32, zi_34, zi_38, zi_59, zi_60, zi_61, zi_63, zi_64, zi_80, zi_96, zi_97, zi_99, zi_100, zi_122, zi_255, zi_256, zi_300, zi_398, zi_406, zi_900, zi_1000, zi_1024, zi_1624, zi_1662, zi_2030, zi_2031, zi_2068, zi_2258, zi_9999, zi_48, zi_57, zi_65536, zi_3257, zi_11483, zi_1000000, zi_729, zi_81, zi_m1, nI_add, pk_mul, nI_ltI, nI_leI, nI_eq, nI_clamp, zn_in, zn_sub1lt, zn_M, zn_Ml, zn_Mg, zn_Mle, zn_Mge, zn_sub, Nat.reduceAdd, Nat.reduceMul]
    refine ⟨fun x => absurd x (by omega), fun _ => ⟨fun x => absurd x (by omega), fun _ => ⟨fun x => (by cases x), fun _ => ?_⟩⟩⟩
    refine su_setUp h hcd ok (fun I1 h1 g1 e1 => ?_)
    refine su_value (d := d) hcd ok (by omega) n 0 (fun _ => 0) 0 6 I1 _ (by omega) (by omega) (fun _ => by omega) (by omega) h1 g1 (fun I2 a2 e2 => ?_)
    obtain ⟨s1, s2⟩ := ga_frU2 hcd h (I1 := I2) (fun r j x => by rw [e2 r j (by omega), e1 r (by omega)])
    simp (disch := omega) only [wp_U_answered, zi_0, zi_1, zi_2, zi_3, zi_4, zi_5, zi_6, zi_7, zi_8, zi_9, zi_10, zi_11, zi_12, zi_13, zi_14, zi_15, zi_16, zi_17, zi_18, zi_19, zi_20, zi_21, zi_22, zi_23, zi_24, zi_25, zi_26, zi_30, zi_31, zi_32, zi_34, zi_38, zi_59, zi_60, zi_61, zi_63, zi_64, zi_80, zi_96, zi_97, zi_99, zi_100, zi_122, zi_255, zi_256, zi_300, zi_398, zi_406, zi_900, zi_1000, zi_1024, zi_1624, zi_1662, zi_2030, zi_2031, zi_2068, zi_2258, zi_9999, zi_48, zi_57, zi_65536, zi_3257, zi_11483, zi_1000000, zi_729, zi_81, zi_m1, nI_add, pk_mul, nI_ltI, nI_leI, nI_eq, nI_clamp, zn_in, zn_sub1lt, zn_M, zn_Ml, zn_Mg, zn_Mle, zn_Mge, zn_sub, Nat.reduceAdd, Nat.reduceMul, forall_eq, true_imp_iff, false_imp_iff, and_true, true_and, not_true_eq_false, not_false_eq_true, reduceCtorEq, imp_self, eq_self, false_and, and_false, implies_true]
    exact K _ _ (po_U.of s1 hcd s2 _) (Or.inr rfl)
  · intro I L R h Q K
    simp (disch := omega) only [wp_M_game, wp_M_isFrom, zj_0, zj_1, zj_2, zj_4, zj_6, zj_7, zj_8, zj_16, zj_20, zj_60, zj_63, zj_64, zj_99, zj_9999, nI_l, zk_lt, zk_le, zk_eq, zk_add, zk_in, zi_0, zi_1, zi_2, zi_3, zi_4, zi_5, zi_6, zi_7, zi_8, zi_9, zi_10, zi_11, zi_12, zi_13, zi_14, zi_15, zi_16, zi_17, zi_18, zi_19, zi_20, zi_21, zi_22, zi_23, zi_24, zi_25, zi_26, zi_30, zi_31, zi_32, zi_34, zi_38, zi_59, zi_60, zi_61, zi_63, zi_64, zi_80, zi_96, zi_97, zi_99, zi_100, zi_122, zi_255, zi_256, zi_300, zi_398, zi_406, zi_900, zi_1000, zi_1024, zi_1624, zi_1662, zi_2030, zi_2031, zi_2068, zi_2258, zi_9999, zi_48, zi_57, zi_65536, zi_3257, zi_11483, zi_1000000, zi_729, zi_81, zi_m1, nI_add, pk_mul, nI_ltI, nI_leI, nI_eq, nI_clamp, zn_in, zn_sub1lt, zn_M, zn_Ml, zn_Mg, zn_Mle, zn_Mge, zn_sub, Nat.reduceAdd, Nat.reduceMul, forall_eq, true_imp_iff, false_imp_iff, and_true, true_and, not_true_eq_false, not_false_eq_true, reduceCtorEq, imp_self, eq_self, false_and, and_false, implies_true]
    refine ⟨fun x => absurd x (by omega), fun _ => ⟨fun x => absurd x (by omega), fun _ => ?_⟩⟩
    cases n with
    | zero =>
      refine ⟨fun _ => ?_, fun x => absurd rfl x⟩
      simp (disch := omega) only [wp_M_gives, zi_0, zi_1, zi_2, zi_3, zi_4, zi_5, zi_6, zi_7, zi_8, zi_9, zi_10, zi_11, zi_12, zi_13, zi_14, zi_15, zi_16, zi_17, zi_18, zi_19, zi_20, zi_21, zi_22, zi_23, zi_24, zi_25, zi_26, zi_30, zi_31, zi_32, zi_34, zi_38, zi_59, zi_60, zi_61, zi_63, zi_64, zi_80, zi_96, zi_97, zi_99, zi_100, zi_122, zi_255, zi_256, zi_300, zi_398, zi_406, zi_900, zi_1000, zi_1024, zi_1624, zi_1662, zi_2030, zi_2031, zi_2068, zi_2258, zi_9999, zi_48, zi_57, zi_65536, zi_3257, zi_11483, zi_1000000, zi_729, zi_81, zi_m1, nI_add, pk_mul, nI_ltI, nI_leI, nI_eq, nI_clamp, zn_in, zn_sub1lt, zn_M, zn_Ml, zn_Mg, zn_Mle, zn_Mge, zn_sub, Nat.reduceAdd, Nat.reduceMul, forall_eq, true_imp_iff, false_imp_iff, and_true, true_and, not_true_eq_false, not_false_eq_true, reduceCtorEq, imp_self, eq_self, false_and, and_false, implies_true]
      have e : gv q 0 0 (fun _ => 0) 0 = 0 := by
        rw [gv, ← gl_c (gl_0 ok)]
      rw [e] at K
      exact K _ (po_M.q0 h ok _)
    | succ r =>
      refine sm_playing h ok (by omega) (fun I1 h1 f1 d1 => ?_)
      simp (disch := omega) only [wp_M_gives, zi_0, zi_1, zi_2, zi_3, zi_4, zi_5, zi_6, zi_7, zi_8, zi_9, zi_10, zi_11, zi_12, zi_13, zi_14, zi_15, zi_16, zi_17, zi_18, zi_19, zi_20, zi_21, zi_22, zi_23, zi_24, zi_25, zi_26, zi_30, zi_31, zi_32, zi_34, zi_38, zi_59, zi_60, zi_61, zi_63, zi_64, zi_80, zi_96, zi_97, zi_99, zi_100, zi_122, zi_255, zi_256, zi_300, zi_398, zi_406, zi_900, zi_1000, zi_1024, zi_1624, zi_1662, zi_2030, zi_2031, zi_2068, zi_2258, zi_9999, zi_48, zi_57, zi_65536, zi_3257, zi_11483, zi_1000000, zi_729, zi_81, zi_m1, nI_add, pk_mul, nI_ltI, nI_leI, nI_eq, nI_clamp, zn_in, zn_sub1lt, zn_M, zn_Ml, zn_Mg, zn_Mle, zn_Mge, zn_sub, Nat.reduceAdd, Nat.reduceMul, forall_eq, true_imp_iff, false_imp_iff, and_true, true_and, not_true_eq_false, not_false_eq_true, reduceCtorEq, imp_self, eq_self, false_and, and_false, implies_true]
      exact K _ (po_M.of h1 ok f1 _)
theorem op_moveOf (ok : sq_Ok q) (p1 : Int32) : si_G q (fun I L R Q => wp_U_moveOf I L R 0 p1 Q) (fun I L R Q => wp_M_moveOf I L R 103 p1 Q) := by
  have o := ok.1.2.2.1
  rcases zc p1 with hp | ⟨n, hn, rfl⟩
  · have hp1 : p1 < nI 1 := (ze_neg hp (n := 1) (by omega)).1
    have hp2 : Int32.toInt64 p1 < lN 1 := by
      rw [Int64.lt_iff_toInt_lt, Int32.toInt_toInt64]
      rw [ze_lt] at hp1
      exact hp1
    refine ⟨nM, 1, ?_, ?_⟩
    · intro c d I L R hcd h hc hd hz Q K
      simp (disch := omega) only [wp_U_moveOf, wp_U_within, wp_U_refused, hc, hp1, zi_0, zi_1, zi_2, zi_3, zi_4, zi_5, zi_6, zi_7, zi_8, zi_9, zi_10, zi_11, zi_12, zi_13, zi_14, zi_15, zi_16, zi_17, zi_18, zi_19, zi_20, zi_21, zi_22, zi_23, zi_24, zi_25, zi_26, zi_30, zi_31, zi_32, zi_34, zi_38, zi_59, zi_60, zi_61, zi_63, zi_64, zi_80, zi_96, zi_97, zi_99, zi_100, zi_122, zi_255, zi_256, zi_300, zi_398, zi_406, zi_900, zi_1000, zi_1024, zi_1624, zi_1662, zi_2030, zi_2031, zi_2068, zi_2258, zi_9999, zi_48, zi_57, zi_65536, zi_3257, zi_11483, zi_1000000, zi_729, zi_81, zi_m1, nI_add, pk_mul, nI_ltI, nI_leI, nI_eq, nI_clamp, zn_in, zn_sub1lt, zn_M, zn_Ml, zn_Mg, zn_Mle, zn_Mge, zn_sub, Nat.reduceAdd, Nat.reduceMul, forall_eq, true_imp_iff, false_imp_iff, and_true, true_and, not_true_eq_false, not_false_eq_true, reduceCtorEq, imp_self, eq_self, false_and, and_false, implies_true]
      exact K _ _ (po_U.q0 h hcd _) (Or.inl rfl)
    · intro I L R h Q K
      simp (disch := omega) only [wp_M_moveOf, wp_M_isFrom, wp_M_refuse, hp2, zj_0, zj_1, zj_2, zj_4, zj_6, zj_7, zj_8, zj_16, zj_20, zj_60, zj_63, zj_64, zj_99, zj_9999, nI_l, zk_lt, zk_le, zk_eq, zk_add, zk_in, zi_0, zi_1, zi_2, zi_3, zi_4, zi_5, zi_6, zi_7, zi_8, zi_9, zi_10, zi_11, zi_12, zi_13, zi_14, zi_15, zi_16, zi_17, zi_18, zi_19, zi_20, zi_21, zi_22, zi_23, zi_24, zi_25, zi_26, zi_30, zi_31, zi_32, zi_34, zi_38, zi_59, zi_60, zi_61, zi_63, zi_64, zi_80, zi_96, zi_97, zi_99, zi_100, zi_122, zi_255, zi_256, zi_300, zi_398, zi_406, zi_900, zi_1000, zi_1024, zi_1624, zi_1662, zi_2030, zi_2031, zi_2068, zi_2258, zi_9999, zi_48, zi_57, zi_65536, zi_3257, zi_11483, zi_1000000, zi_729, zi_81, zi_m1, nI_add, pk_mul, nI_ltI, nI_leI, nI_eq, nI_clamp, zn_in, zn_sub1lt, zn_M, zn_Ml, zn_Mg, zn_Mle, zn_Mge, zn_sub, Nat.reduceAdd, Nat.reduceMul, forall_eq, true_imp_iff, false_imp_iff, and_true, true_and, not_true_eq_false, not_false_eq_true, reduceCtorEq, imp_self, eq_self, false_and, and_false, implies_true]
      exact K _ (po_M.q0 h ok _)
  by_cases g : n = 0 ∨ 4 < n
  · refine ⟨nM, 1, ?_, ?_⟩
    · intro c d I L R hcd h hc hd hz Q K
      simp (disch := omega) only [wp_U_moveOf, wp_U_within, wp_U_refused, hc, zi_0, zi_1, zi_2, zi_3, zi_4, zi_5, zi_6, zi_7, zi_8, zi_9, zi_10, zi_11, zi_12, zi_13, zi_14, zi_15, zi_16, zi_17, zi_18, zi_19, zi_20, zi_21, zi_22, zi_23, zi_24, zi_25, zi_26, zi_30, zi_31, zi_32, zi_34, zi_38, zi_59, zi_60, zi_61, zi_63, zi_64, zi_80, zi_96, zi_97, zi_99, zi_100, zi_122, zi_255, zi_256, zi_300, zi_398, zi_406, zi_900, zi_1000, zi_1024, zi_1624, zi_1662, zi_2030, zi_2031, zi_2068, zi_2258, zi_9999, zi_48, zi_57, zi_65536, zi_3257, zi_11483, zi_1000000, zi_729, zi_81, zi_m1, nI_add, pk_mul, nI_ltI, nI_leI, nI_eq, nI_clamp, zn_in, zn_sub1lt, zn_M, zn_Ml, zn_Mg, zn_Mle, zn_Mge, zn_sub, Nat.reduceAdd, Nat.reduceMul, forall_eq, true_imp_iff, false_imp_iff, and_true, true_and, not_true_eq_false, not_false_eq_true, reduceCtorEq, imp_self, eq_self, false_and, and_false, implies_true]
      repeat' (first | omega | with_reducible refine And.intro ?_ ?_ | with_reducible intro g)
      all_goals exact K _ _ (po_U.q0 h hcd _) (Or.inl rfl)
    · intro I L R h Q K
      simp (disch := omega) only [wp_M_moveOf, wp_M_isFrom, wp_M_refuse, zj_0, zj_1, zj_2, zj_4, zj_6, zj_7, zj_8, zj_16, zj_20, zj_60, zj_63, zj_64, zj_99, zj_9999, nI_l, zk_lt, zk_le, zk_eq, zk_add, zk_in, zi_0, zi_1, zi_2, zi_3, zi_4, zi_5, zi_6, zi_7, zi_8, zi_9, zi_10, zi_11, zi_12, zi_13, zi_14, zi_15, zi_16, zi_17, zi_18, zi_19, zi_20, zi_21, zi_22, zi_23, zi_24, zi_25, zi_26, zi_30, zi_31, zi_32, zi_34, zi_38, zi_59, zi_60, zi_61, zi_63, zi_64, zi_80, zi_96, zi_97, zi_99, zi_100, zi_122, zi_255, zi_256, zi_300, zi_398, zi_406, zi_900, zi_1000, zi_1024, zi_1624, zi_1662, zi_2030, zi_2031, zi_2068, zi_2258, zi_9999, zi_48, zi_57, zi_65536, zi_3257, zi_11483, zi_1000000, zi_729, zi_81, zi_m1, nI_add, pk_mul, nI_ltI, nI_leI, nI_eq, nI_clamp, zn_in, zn_sub1lt, zn_M, zn_Ml, zn_Mg, zn_Mle, zn_Mge, zn_sub, Nat.reduceAdd, Nat.reduceMul, forall_eq, true_imp_iff, false_imp_iff, and_true, true_and, not_true_eq_false, not_false_eq_true, reduceCtorEq, imp_self, eq_self, false_and, and_false, implies_true]
      repeat' (first | omega | with_reducible refine And.intro ?_ ?_ | with_reducible intro g)
      all_goals exact K _ (po_M.q0 h ok _)
  obtain ⟨r, rfl⟩ : ∃ r, n = r + 1 := ⟨n - 1, by omega⟩
  have sk0 : ∀ t, gsk q 0 t = false := fun t => by unfold gsk; simp
  have wl : ∀ t, (fun t => gv q r (0 + 1) (gpt q 0 (fun _ => 0) t) (gbt q 0 0 t)) t ≤ 594 := fun t => gv_le ok _ _ _ _
  obtain ⟨A, hA⟩ : ∃ A, A = gb true (gsk q 0) (fun t => gv q r (0 + 1) (gpt q 0 (fun _ => 0) t) (gbt q 0 0 t)) (q 2) := ⟨_, rfl⟩
  have wT : (fun t => gv q r (0 + 1) (gpt q 0 (fun _ => 0) t) (gbt q 0 0 t)) (q 2) = gv q r 1 (fun _ => 0) 0 := by
    show gv q r (0 + 1) (gpt q 0 (fun _ => 0) (q 2)) (gbt q 0 0 (q 2)) = _
    rw [gpt, if_neg (by omega), gbt, if_neg (by omega)]
  -- the class's loop
  have uu : ∀ {c d : Nat} {I : am_TI} {L : am_TL} {R : am_TR} {Q : Int32 → am_TI → am_TR → Prop}, sq_cd c d → sq_U q c d I L → (∀ I1, (∀ r j, ¬ (16 ≤ r ∧ r ≤ 20) → I1 r j = I r j) → Q (match A with
      | none => nM
      | some (x, v) => if (fun t => gv q r (0 + 1) (gpt q 0 (fun _ => 0) t) (gbt q 0 0 t)) (q 2) ≤ v then nI x else nM) I1 (am_u2 R 16 4 (some c))) → wp_Rows_firstTuneOfGame I L R 16 c (nI (r + 1)) Q := by
    intro c d I L R Q hcd h K
    unfold wp_Rows_firstTuneOfGame
    refine su_setUp h hcd ok (fun I1 h1 g1 e1 => ?_)
    have gk1 : ∀ I2, (∀ t, t < 6 → I2 20 t = nI 0) → (∀ r j, ¬ (r = 20 ∧ j < 6) → I2 r j = I1 r j) → sq_U q c d I2 L ∧ gq_U q c (fun _ => 0) I2 (am_u2 R 16 4 (some c)) := fun I2 a e => by
      have hcd' := hcd
      obtain ⟨hc, hd⟩ := hcd'
      exact ⟨h1.keep (fun r hr => by funext j; exact e r j (by omega)) rfl, by rw [e 16 5 (by omega)]; exact g1.1, fun x hx => by rw [e 18 x (by omega)]; exact g1.2.1 x hx, a, g1.2.2.2⟩
    refine (zl_up (P := fun f m => ∀ I2, (∀ t, t < 6 → I2 20 t = nI 0) → (∀ r j, ¬ (r = 20 ∧ j < 6) → I2 r j = I1 r j) → wl_Rows_firstTuneOfGame_13 L 16 c (nI (r + 1)) Q f I2 (am_u2 R 16 4 (some c)) (gd_i (gb true (gsk q 0) (fun t => gv q r (0 + 1) (gpt q 0 (fun _ => 0) t) (gbt q 0 0 t)) m)) (gd_v (gb true (gsk q 0) (fun t => gv q r (0 + 1) (gpt q 0 (fun _ => 0) t) (gbt q 0 0 t)) m)) (nI m)) (q 2) (fun f I2 a2 e2 => ?_) (fun f m hm ih I2 a2 e2 => ?_) 0 (by omega)).elim fun z hz => ⟨z, hz I1 g1.2.2.1 (fun _ _ _ => rfl)⟩
    · obtain ⟨h2, g2⟩ := gk1 I2 a2 e2
      rw [wl_Rows_firstTuneOfGame_13]
      simp (disch := omega) only [g2.1, zi_0, zi_1, zi_2, zi_3, zi_4, zi_5, zi_6, zi_7, zi_8, zi_9, zi_10, zi_11, zi_12, zi_13, zi_14, zi_15, zi_16, zi_17, zi_18, zi_19, zi_20, zi_21, zi_22, zi_23, zi_24, zi_25, zi_26, zi_30, zi_31, zi_32, zi_34, zi_38, zi_59, zi_60, zi_61, zi_63, zi_64, zi_80, zi_96, zi_97, zi_99, zi_100, zi_122, zi_255, zi_256, zi_300, zi_398, zi_406, zi_900, zi_1000, zi_1024, zi_1624, zi_1662, zi_2030, zi_2031, zi_2068, zi_2258, zi_9999, zi_48, zi_57, zi_65536, zi_3257, zi_11483, zi_1000000, zi_729, zi_81, zi_m1, nI_add, pk_mul, nI_ltI, nI_leI, nI_eq, nI_clamp, zn_in, zn_sub1lt, zn_M, zn_Ml, zn_Mg, zn_Mle, zn_Mge, zn_sub, Nat.reduceAdd, Nat.reduceMul]
      refine ⟨fun _ => ?_, fun x => absurd (Nat.le_refl _) x⟩
      rw [← hA]
      refine su_value (d := d) hcd ok (N := r + 1) (by omega) r 1 (fun _ => 0) 0 6 I2 _ (by omega) (by omega) (fun _ => by omega) (by omega) h2 g2 (fun I3 a3 e3 => ?_)
      have kk := K I3 (fun r j x => by rw [e3 r j (by omega), e2 r j (by omega), e1 r (by omega)])
      rw [wT] at kk
      have vl := gv_le ok r 1 (fun _ => 0) 0
      cases A with
      | none =>
        refine ⟨fun x => ?_, fun _ => kk⟩
        exact absurd x (ze_m1le (by omega))
      | some y =>
        obtain ⟨x, v⟩ := y
        have vb := gb_b wl hA.symm
        rw [gd_i, gd_v, nI_leI (by omega) (by omega)]
        refine ⟨fun x => ?_, fun x => ?_⟩
        · have kk2 := kk
          simp only [if_pos x] at kk2; exact kk2
        · have kk2 := kk
          simp only [if_neg x] at kk2; exact kk2
    · obtain ⟨h2, g2⟩ := gk1 I2 a2 e2
      have wm : (fun t => gv q r (0 + 1) (gpt q 0 (fun _ => 0) t) (gbt q 0 0 t)) m = gv q r 1 (gp_b (fun _ => 0) m) 0 := by
        show gv q r (0 + 1) (gpt q 0 (fun _ => 0) m) (gbt q 0 0 m) = _
        rw [gpt, if_pos ⟨rfl, hm⟩, gbt, if_neg (by omega)]
      have vl := gv_le ok r 1 (gp_b (fun _ => 0) m) 0
      rw [wl_Rows_firstTuneOfGame_13]
      simp (disch := omega) only [g2.1, wp_Rows_valueBehind, a2 m (by omega), zi_0, zi_1, zi_2, zi_3, zi_4, zi_5, zi_6, zi_7, zi_8, zi_9, zi_10, zi_11, zi_12, zi_13, zi_14, zi_15, zi_16, zi_17, zi_18, zi_19, zi_20, zi_21, zi_22, zi_23, zi_24, zi_25, zi_26, zi_30, zi_31, zi_32, zi_34, zi_38, zi_59, zi_60, zi_61, zi_63, zi_64, zi_80, zi_96, zi_97, zi_99, zi_100, zi_122, zi_255, zi_256, zi_300, zi_398, zi_406, zi_900, zi_1000, zi_1024, zi_1624, zi_1662, zi_2030, zi_2031, zi_2068, zi_2258, zi_9999, zi_48, zi_57, zi_65536, zi_3257, zi_11483, zi_1000000, zi_729, zi_81, zi_m1, nI_add, pk_mul, nI_ltI, nI_leI, nI_eq, nI_clamp, zn_in, zn_sub1lt, zn_M, zn_Ml, zn_Mg, zn_Mle, zn_Mge, zn_sub, Nat.reduceAdd, Nat.reduceMul]
      refine ⟨fun x => absurd x (by omega), fun _ => ⟨by omega, by omega, fun I3 h3 => ?_⟩⟩
      have a3 : ∀ t, t < 6 → I3 20 t = nI (gp_b (fun _ => 0) m t) := fun t ht => by
        rw [h3]
        unfold gp_b
        by_cases e : t = m
        · subst e; rw [am_u2_at, if_pos rfl]
        · rw [am_u2_ne _ _ _ _ e, if_neg e]; exact a2 t ht
      have e3 : ∀ r j, ¬ (r = 20 ∧ j < 6) → I3 r j = I1 r j := fun r j z => by
        rw [h3]
        unfold am_u2
        rw [if_neg (by omega)]; exact e2 r j z
      have h3' : sq_U q c d I3 L := by
        have hcd' := hcd
        obtain ⟨hc, hd⟩ := hcd'
        exact h1.keep (fun r hr => by funext j; exact e3 r j (by omega)) rfl
      refine su_value (d := d) hcd ok (N := r + 1) (by omega) r 1 (gp_b (fun _ => 0) m) 0 6 I3 _ (by omega) (by omega) (gp_b_le (fun _ => Nat.le_refl 0) m) (by omega) h3' ⟨by rw [e3 16 5 (by omega)]; exact g1.1, fun x hx => by rw [e3 18 x (by omega)]; exact g1.2.1 x hx, a3, g1.2.2.2⟩ (fun I4 a4 e4 => ⟨by omega, by omega, fun I5 h5 => ?_⟩)
      have a5 : ∀ t, t < 6 → I5 20 t = nI 0 := fun t ht => by
        rw [h5]
        by_cases e : t = m
        · subst e
          rw [am_u2_at, a4 t ht]
          unfold gp_b
          rw [if_pos rfl]
          show nI 1 - nI 1 = nI 0
          decide
        · rw [am_u2_ne _ _ _ _ e, a4 t ht]
          unfold gp_b
          rw [if_neg e]
      have e5 : ∀ r j, ¬ (r = 20 ∧ j < 6) → I5 r j = I1 r j := fun r j z => by
        rw [h5]
        unfold am_u2
        rw [if_neg (by omega), e4 r j z, e3 r j z]
      have i2 := ih I5 a5 e5
      cases gm : gb true (gsk q 0) (fun t => gv q r (0 + 1) (gpt q 0 (fun _ => 0) t) (gbt q 0 0 t)) m with
      | none =>
        rw [gb_n (sk0 m) gm] at i2
        refine ⟨fun x => absurd x (ze_m1le (by omega)), fun _ => ?_⟩
        rw [← wm]; exact i2
      | some y =>
        obtain ⟨x, v⟩ := y
        have vb := gb_b wl gm
        have wm' : gv q r (0 + 1) (gpt q 0 (fun _ => 0) m) (gbt q 0 0 m) = gv q r 1 (gp_b (fun _ => 0) m) 0 := wm
        rw [gb_y (sk0 m) gm, wm'] at i2
        rw [gd_i, gd_v, nI_leI (by omega) (by omega)]
        unfold gb_t at i2
        simp only [if_true, decide_eq_true_eq] at i2
        refine ⟨fun z => ?_, fun z => ?_⟩
        · rw [if_neg (by omega)] at i2; exact i2
        · rw [if_pos (by omega)] at i2; exact i2
  have fin : ∀ (ans : Int32) (st : Nat), (∀ {I : am_TI} {L : am_TL} {R : am_TR} {s0 : Int32} {Q : Int32 → am_TI → Prop}, s0 = (match A with
      | none => nM
      | some (x, v) => if (fun t => gv q r (0 + 1) (gpt q 0 (fun _ => 0) t) (gbt q 0 0 t)) (q 2) ≤ v then nI x else nM) → Q ans (am_u2 I 0 15 (nI st)) → wp_U_answeredIfThereIs I L R 0 s0 Q) → (∀ {I : am_TI} {Q : Int32 → am_TI → Prop} {L : am_TL} {R : am_TR}, sq_M q 0 I L → I 128 0 = gd_i (gb true (gsk q 0) (fun t => gv q r (0 + 1) (gpt q 0 (fun _ => 0) t) (gbt q 0 0 t)) (q 2 + 1)) → Q ans (am_u2 I 103 2 (nI st)) → ((I (103 + 25) 0 = I (103 + 1) 2 → wp_M_refuse I L R 103 6 (fun r4 I3 => Q r4 I3)) ∧ (¬ I (103 + 25) 0 = I (103 + 1) 2 → wp_M_gives I L R 103 (I (103 + 25) 0) (fun r3 I2 => Q r3 I2)))) → si_G q (fun I L R Q => wp_U_moveOf I L R 0 (nI (r + 1)) Q) (fun I L R Q => wp_M_moveOf I L R 103 (nI (r + 1)) Q) := by
    intro ans st hU hM
    refine ⟨ans, st, ?_, ?_⟩
    · intro c d I L R hcd h hc hd hz Q K
      simp (disch := omega) only [wp_U_moveOf, wp_U_within, hc, zi_0, zi_1, zi_2, zi_3, zi_4, zi_5, zi_6, zi_7, zi_8, zi_9, zi_10, zi_11, zi_12, zi_13, zi_14, zi_15, zi_16, zi_17, zi_18, zi_19, zi_20, zi_21, zi_22, zi_23, zi_24, zi_25, zi_26, zi_30, zi_31, zi_32, zi_34, zi_38, zi_59, zi_60, zi_61, zi_63, zi_64, zi_80, zi_96, zi_97, zi_99, zi_100, zi_122, zi_255, zi_256, zi_300, zi_398, zi_406, zi_900, zi_1000, zi_1024, zi_1624, zi_1662, zi_2030, zi_2031, zi_2068, zi_2258, zi_9999, zi_48, zi_57, zi_65536, zi_3257, zi_11483, zi_1000000, zi_729, zi_81, zi_m1, nI_add, pk_mul, nI_ltI, nI_leI, nI_eq, nI_clamp, zn_in, zn_sub1lt, zn_M, zn_Ml, zn_Mg, zn_Mle, zn_Mge, zn_sub, Nat.reduceAdd, Nat.reduceMul]
      refine ⟨fun x => absurd x (by omega), fun _ => ⟨fun x => absurd x (by omega), fun _ => ⟨fun x => (by cases x), fun _ => ?_⟩⟩⟩
      refine uu hcd h (fun I1 e1 => hU rfl ?_)
      obtain ⟨s1, s2⟩ := ga_frU2 hcd h e1
      exact K _ _ (po_U.of s1 hcd s2 _) (Or.inr rfl)
    · intro I L R h Q K
      simp (disch := omega) only [wp_M_moveOf, wp_M_isFrom, zj_0, zj_1, zj_2, zj_4, zj_6, zj_7, zj_8, zj_16, zj_20, zj_60, zj_63, zj_64, zj_99, zj_9999, nI_l, zk_lt, zk_le, zk_eq, zk_add, zk_in, zi_0, zi_1, zi_2, zi_3, zi_4, zi_5, zi_6, zi_7, zi_8, zi_9, zi_10, zi_11, zi_12, zi_13, zi_14, zi_15, zi_16, zi_17, zi_18, zi_19, zi_20, zi_21, zi_22, zi_23, zi_24, zi_25, zi_26, zi_30, zi_31, zi_32, zi_34, zi_38, zi_59, zi_60, zi_61, zi_63, zi_64, zi_80, zi_96, zi_97, zi_99, zi_100, zi_122, zi_255, zi_256, zi_300, zi_398, zi_406, zi_900, zi_1000, zi_1024, zi_1624, zi_1662, zi_2030, zi_2031, zi_2068, zi_2258, zi_9999, zi_48, zi_57, zi_65536, zi_3257, zi_11483, zi_1000000, zi_729, zi_81, zi_m1, nI_add, pk_mul, nI_ltI, nI_leI, nI_eq, nI_clamp, zn_in, zn_sub1lt, zn_M, zn_Ml, zn_Mg, zn_Mle, zn_Mge, zn_sub, Nat.reduceAdd, Nat.reduceMul, forall_eq, true_imp_iff, false_imp_iff, and_true, true_and, not_true_eq_false, not_false_eq_true, reduceCtorEq, imp_self, eq_self, false_and, and_false, implies_true]
      refine ⟨fun x => absurd x (by omega), fun _ => ⟨fun x => absurd x (by omega), fun _ => ?_⟩⟩
      refine sm_playing h ok (by omega) (fun I1 h1 f1 d1 => ?_)
      exact hM h1 d1 (K _ (po_M.of h1 ok f1 _))
  have last : (A = none → gb true (gsk q 0) (fun t => gv q r (0 + 1) (gpt q 0 (fun _ => 0) t) (gbt q 0 0 t)) (q 2 + 1) = some (q 2, (fun t => gv q r (0 + 1) (gpt q 0 (fun _ => 0) t) (gbt q 0 0 t)) (q 2))) ∧ (∀ x v, A = some (x, v) → gb true (gsk q 0) (fun t => gv q r (0 + 1) (gpt q 0 (fun _ => 0) t) (gbt q 0 0 t)) (q 2 + 1) = if v < (fun t => gv q r (0 + 1) (gpt q 0 (fun _ => 0) t) (gbt q 0 0 t)) (q 2) then some (q 2, (fun t => gv q r (0 + 1) (gpt q 0 (fun _ => 0) t) (gbt q 0 0 t)) (q 2)) else some (x, v)) := by
    refine ⟨fun e => gb_n (sk0 _) (by rw [← hA]; exact e), fun x v e => ?_⟩
    rw [gb_y (sk0 _) (by rw [← hA]; exact e)]
    unfold gb_t
    simp only [if_true, decide_eq_true_eq]
  have none6 : (match A with
      | none => nM
      | some (x, v) => if (fun t => gv q r (0 + 1) (gpt q 0 (fun _ => 0) t) (gbt q 0 0 t)) (q 2) ≤ v then nI x else nM) = nM → gb true (gsk q 0) (fun t => gv q r (0 + 1) (gpt q 0 (fun _ => 0) t) (gbt q 0 0 t)) (q 2 + 1) = some (q 2, (fun t => gv q r (0 + 1) (gpt q 0 (fun _ => 0) t) (gbt q 0 0 t)) (q 2)) → si_G q (fun I L R Q => wp_U_moveOf I L R 0 (nI (r + 1)) Q) (fun I L R Q => wp_M_moveOf I L R 103 (nI (r + 1)) Q) := by
    intro e1 e2
    refine fin nM 6 (fun e k => ?_) (fun {I Q L R} h d k => ?_)
    · rw [e, e1]
      simp (disch := omega) only [wp_U_answeredIfThereIs, wp_U_refused, zi_0, zi_1, zi_2, zi_3, zi_4, zi_5, zi_6, zi_7, zi_8, zi_9, zi_10, zi_11, zi_12, zi_13, zi_14, zi_15, zi_16, zi_17, zi_18, zi_19, zi_20, zi_21, zi_22, zi_23, zi_24, zi_25, zi_26, zi_30, zi_31, zi_32, zi_34, zi_38, zi_59, zi_60, zi_61, zi_63, zi_64, zi_80, zi_96, zi_97, zi_99, zi_100, zi_122, zi_255, zi_256, zi_300, zi_398, zi_406, zi_900, zi_1000, zi_1024, zi_1624, zi_1662, zi_2030, zi_2031, zi_2068, zi_2258, zi_9999, zi_48, zi_57, zi_65536, zi_3257, zi_11483, zi_1000000, zi_729, zi_81, zi_m1, nI_add, pk_mul, nI_ltI, nI_leI, nI_eq, nI_clamp, zn_in, zn_sub1lt, zn_M, zn_Ml, zn_Mg, zn_Mle, zn_Mge, zn_sub, Nat.reduceAdd, Nat.reduceMul, forall_eq, true_imp_iff, false_imp_iff, and_true, true_and, not_true_eq_false, not_false_eq_true, reduceCtorEq, imp_self, eq_self, false_and, and_false, implies_true]
      exact k
    · rw [e2] at d
      have e28 : I (103 + 25) 0 = nI (q 2) := d
      have e2' : I (103 + 1) 2 = nI (q 2) := h.n2
      rw [e28, e2']
      refine ⟨fun _ => ?_, fun x => absurd rfl x⟩
      simp (disch := omega) only [wp_M_refuse, zi_0, zi_1, zi_2, zi_3, zi_4, zi_5, zi_6, zi_7, zi_8, zi_9, zi_10, zi_11, zi_12, zi_13, zi_14, zi_15, zi_16, zi_17, zi_18, zi_19, zi_20, zi_21, zi_22, zi_23, zi_24, zi_25, zi_26, zi_30, zi_31, zi_32, zi_34, zi_38, zi_59, zi_60, zi_61, zi_63, zi_64, zi_80, zi_96, zi_97, zi_99, zi_100, zi_122, zi_255, zi_256, zi_300, zi_398, zi_406, zi_900, zi_1000, zi_1024, zi_1624, zi_1662, zi_2030, zi_2031, zi_2068, zi_2258, zi_9999, zi_48, zi_57, zi_65536, zi_3257, zi_11483, zi_1000000, zi_729, zi_81, zi_m1, nI_add, pk_mul, nI_ltI, nI_leI, nI_eq, nI_clamp, zn_in, zn_sub1lt, zn_M, zn_Ml, zn_Mg, zn_Mle, zn_Mge, zn_sub, Nat.reduceAdd, Nat.reduceMul, forall_eq, true_imp_iff, false_imp_iff, and_true, true_and, not_true_eq_false, not_false_eq_true, reduceCtorEq, imp_self, eq_self, false_and, and_false, implies_true]
      exact k
  cases A with
  | none => exact none6 rfl (last.1 rfl)
  | some y =>
    obtain ⟨x, v⟩ := y
    have l2 := last.2 x v rfl
    by_cases e : v < (fun t => gv q r (0 + 1) (gpt q 0 (fun _ => 0) t) (gbt q 0 0 t)) (q 2)
    · rw [if_pos e] at l2
      refine none6 ?_ l2
      show (if (fun t => gv q r (0 + 1) (gpt q 0 (fun _ => 0) t) (gbt q 0 0 t)) (q 2) ≤ v then nI x else nM) = nM
      rw [if_neg (by omega)]
    · rw [if_neg e] at l2
      have xl := gb_lt hA.symm
      refine fin (nI x) 0 (fun e1 k => ?_) (fun {I Q L R} h d k => ?_)
      · have e2 : (if (fun t => gv q r (0 + 1) (gpt q 0 (fun _ => 0) t) (gbt q 0 0 t)) (q 2) ≤ v then nI x else nM) = nI x := if_pos (by omega)
        rw [e1]
        show wp_U_answeredIfThereIs _ _ _ 0 (if (fun t => gv q r (0 + 1) (gpt q 0 (fun _ => 0) t) (gbt q 0 0 t)) (q 2) ≤ v then nI x else nM) _
        rw [e2]
        simp (disch := omega) only [wp_U_answeredIfThereIs, wp_U_answered, zi_0, zi_1, zi_2, zi_3, zi_4, zi_5, zi_6, zi_7, zi_8, zi_9, zi_10, zi_11, zi_12, zi_13, zi_14, zi_15, zi_16, zi_17, zi_18, zi_19, zi_20, zi_21, zi_22, zi_23, zi_24, zi_25, zi_26, zi_30, zi_31, zi_32, zi_34, zi_38, zi_59, zi_60, zi_61, zi_63, zi_64, zi_80, zi_96, zi_97, zi_99, zi_100, zi_122, zi_255, zi_256, zi_300, zi_398, zi_406, zi_900, zi_1000, zi_1024, zi_1624, zi_1662, zi_2030, zi_2031, zi_2068, zi_2258, zi_9999, zi_48, zi_57, zi_65536, zi_3257, zi_11483, zi_1000000, zi_729, zi_81, zi_m1, nI_add, pk_mul, nI_ltI, nI_leI, nI_eq, nI_clamp, zn_in, zn_sub1lt, zn_M, zn_Ml, zn_Mg, zn_Mle, zn_Mge, zn_sub, Nat.reduceAdd, Nat.reduceMul, forall_eq, true_imp_iff, false_imp_iff, and_true, true_and, not_true_eq_false, not_false_eq_true, reduceCtorEq, imp_self, eq_self, false_and, and_false, implies_true]
        exact k
      · rw [l2] at d
        have e28 : I (103 + 25) 0 = nI x := d
        have e2' : I (103 + 1) 2 = nI (q 2) := h.n2
        rw [e28, e2', nI_eq (by omega) (by omega)]
        refine ⟨fun z => absurd z (by omega), fun _ => ?_⟩
        simp (disch := omega) only [wp_M_gives, zi_0, zi_1, zi_2, zi_3, zi_4, zi_5, zi_6, zi_7, zi_8, zi_9, zi_10, zi_11, zi_12, zi_13, zi_14, zi_15, zi_16, zi_17, zi_18, zi_19, zi_20, zi_21, zi_22, zi_23, zi_24, zi_25, zi_26, zi_30, zi_31, zi_32, zi_34, zi_38, zi_59, zi_60, zi_61, zi_63, zi_64, zi_80, zi_96, zi_97, zi_99, zi_100, zi_122, zi_255, zi_256, zi_300, zi_398, zi_406, zi_900, zi_1000, zi_1024, zi_1624, zi_1662, zi_2030, zi_2031, zi_2068, zi_2258, zi_9999, zi_48, zi_57, zi_65536, zi_3257, zi_11483, zi_1000000, zi_729, zi_81, zi_m1, nI_add, pk_mul, nI_ltI, nI_leI, nI_eq, nI_clamp, zn_in, zn_sub1lt, zn_M, zn_Ml, zn_Mg, zn_Mle, zn_Mge, zn_sub, Nat.reduceAdd, Nat.reduceMul, forall_eq, true_imp_iff, false_imp_iff, and_true, true_and, not_true_eq_false, not_false_eq_true, reduceCtorEq, imp_self, eq_self, false_and, and_false, implies_true]
        exact k
end
