/-! the square's text: which tune has a name, in both -/
theorem nm_63 : ∀ f w, w < 32 ^ (f + 1) → nm_cv (f + 1) w < 2 ^ (8 * f + 7) := by
  intro f
  induction f with
  | zero =>
    intro w hw
    show (if w = 0 then 0 else 256 * 0 + (w % 32 + 96)) < 2 ^ 7
    split <;> omega
  | succ f ih =>
    intro w hw
    rw [Nat.pow_succ] at hw
    have a := ih (w / 32) (by omega)
    show (if w = 0 then 0 else 256 * nm_cv (f + 1) (w / 32) + (w % 32 + 96)) < 2 ^ (8 * (f + 1) + 7)
    rw [show 8 * (f + 1) + 7 = (8 * f + 7) + 8 by omega, Nat.pow_add]
    have b : 0 < 2 ^ (8 * f + 7) := Nat.pow_pos (by omega)
    split <;> omega
theorem nm_eq {a b : Nat} (ha : a < 2 ^ 40) (hb : b < 2 ^ 40) : lN (nm_cv 8 a) = lN (nm_cv 8 b) ↔ a = b := by
  have e : (32 : Nat) ^ 8 = 2 ^ 40 := by decide
  have la := nm_63 7 a (by omega)
  have lb := nm_63 7 b (by omega)
  rw [zk_eq (by omega) (by omega)]
  exact ⟨fun x => nm_inj 8 a b (by omega) (by omega) x, fun x => by rw [x]⟩
/-- the first tune of a name, or how many there are -/
def tn (q : Nat → Nat) (x r : Nat) : Prop := r ≤ q 2 ∧ (∀ j, j < r → q (400 + j) ≠ x) ∧ (r < q 2 → q (400 + r) = x)
theorem tn_ex (q : Nat → Nat) (x : Nat) : ∃ r, tn q x r := by
  have go : ∀ m k, k + m = q 2 → (∀ j, j < k → q (400 + j) ≠ x) → ∃ r, tn q x r := by
    intro m
    induction m with
    | zero => intro k hk h; exact ⟨k, by omega, h, fun g => absurd g (by omega)⟩
    | succ m ih =>
      intro k hk h
      by_cases g : q (400 + k) = x
      · exact ⟨k, by omega, h, fun _ => g⟩
      · refine ih (k + 1) (by omega) (fun j hj => ?_)
        by_cases e : j = k
        · rw [e]; exact g
        · exact h j (by omega)
  exact go (q 2) 0 (by omega) (fun j hj => absurd hj (by omega))
section
variable {y : Nat → Nat} {n lb : Nat} {q f g : Nat → Nat} {tp p t e : Nat} {I I1 I2 : am_TI} {L L1 L2 : am_TL} {R : am_TR}
theorem su_tune (h : sq_U q t e I L) (ok : sq_Ok q) {x r : Nat} (hx : x < 2 ^ 40) (hr : tn q x r) {Q : Int32 → Prop} (K : Q (if r < q 2 then nI r else nM)) : wp_Square_tuneNamed I L R t (lN x) Q := by
  obtain ⟨r1, r2, r3⟩ := hr
  have o := ok.1.2.2.1
  have go : ∀ m k, k + m = r → wl_Square_tuneNamed_2 I L R t (lN x) Q (m + 1) (nI k) := by
    intro m
    induction m with
    | zero =>
      intro k hk
      have ek : k = r := by omega
      subst ek
      rw [wl_Square_tuneNamed_2]
      by_cases g : k < q 2
      · rw [if_pos g] at K
        have en := h.nm g
        rw [r3 g] at en
        simp (disch := omega) only [h.n2, en, zi_0, zi_1, zi_2, zi_3, zi_4, zi_5, zi_6, zi_7, zi_8, zi_9, zi_10, zi_11, zi_12, zi_13, zi_14, zi_15, zi_16, zi_17, zi_18, zi_19, zi_20, zi_21, zi_22, zi_23, zi_24, zi_25, zi_26, zi_30, zi_31, zi_32, zi_34, zi_38, zi_59, zi_60, zi_61, zi_63, zi_64, zi_80, zi_96, zi_97, zi_99, zi_100, zi_122, zi_255, zi_256, zi_300, zi_398, zi_406, zi_900, zi_1000, zi_1024, zi_1624, zi_1662, zi_2030, zi_2031, zi_2068, zi_2258, zi_9999, zi_48, zi_57, zi_65536, zi_3257, zi_11483, zi_1000000, zi_729, zi_81, zi_m1, nI_add, pk_mul, nI_ltI, nI_leI, nI_eq, nI_clamp, zn_in, zn_sub1lt, zn_M, zn_Ml, zn_Mg, zn_Mle, zn_Mge, zn_sub, Nat.reduceAdd, Nat.reduceMul]
        exact ⟨fun z => absurd z (by omega), fun _ => ⟨by omega, fun _ => K, fun z => absurd trivial z⟩⟩
      · rw [if_neg g] at K
        simp (disch := omega) only [h.n2, zi_0, zi_1, zi_2, zi_3, zi_4, zi_5, zi_6, zi_7, zi_8, zi_9, zi_10, zi_11, zi_12, zi_13, zi_14, zi_15, zi_16, zi_17, zi_18, zi_19, zi_20, zi_21, zi_22, zi_23, zi_24, zi_25, zi_26, zi_30, zi_31, zi_32, zi_34, zi_38, zi_59, zi_60, zi_61, zi_63, zi_64, zi_80, zi_96, zi_97, zi_99, zi_100, zi_122, zi_255, zi_256, zi_300, zi_398, zi_406, zi_900, zi_1000, zi_1024, zi_1624, zi_1662, zi_2030, zi_2031, zi_2068, zi_2258, zi_9999, zi_48, zi_57, zi_65536, zi_3257, zi_11483, zi_1000000, zi_729, zi_81, zi_m1, nI_add, pk_mul, nI_ltI, nI_leI, nI_eq, nI_clamp, zn_in, zn_sub1lt, zn_M, zn_Ml, zn_Mg, zn_Mle, zn_Mge, zn_sub, Nat.reduceAdd, Nat.reduceMul]
        exact ⟨fun _ => K, fun z => absurd (by omega) z⟩
    | succ m ih =>
      intro k hk
      have nx := ih (k + 1) (by omega)
      have en := h.nm (k := k) (by omega)
      have ne := r2 k (by omega)
      have b := ok.2.2.2.1 k (by omega)
      rw [wl_Square_tuneNamed_2]
      simp (disch := omega) only [h.n2, en, zk_eq, zi_0, zi_1, zi_2, zi_3, zi_4, zi_5, zi_6, zi_7, zi_8, zi_9, zi_10, zi_11, zi_12, zi_13, zi_14, zi_15, zi_16, zi_17, zi_18, zi_19, zi_20, zi_21, zi_22, zi_23, zi_24, zi_25, zi_26, zi_30, zi_31, zi_32, zi_34, zi_38, zi_59, zi_60, zi_61, zi_63, zi_64, zi_80, zi_96, zi_97, zi_99, zi_100, zi_122, zi_255, zi_256, zi_300, zi_398, zi_406, zi_900, zi_1000, zi_1024, zi_1624, zi_1662, zi_2030, zi_2031, zi_2068, zi_2258, zi_9999, zi_48, zi_57, zi_65536, zi_3257, zi_11483, zi_1000000, zi_729, zi_81, zi_m1, nI_add, pk_mul, nI_ltI, nI_leI, nI_eq, nI_clamp, zn_in, zn_sub1lt, zn_M, zn_Ml, zn_Mg, zn_Mle, zn_Mge, zn_sub, Nat.reduceAdd, Nat.reduceMul]
      exact ⟨fun z => absurd z (by omega), fun _ => ⟨by omega, fun z => absurd z ne, fun _ => nx⟩⟩
  exact ⟨_, go r 0 (by omega)⟩
/-- in the reference, in a slot -/
theorem sm_find (hn : n ≤ 900) (ht : tk_M y n p I) (h1 : tK y n p = 1) {s : Nat} (hs : s = 0 ∨ s = 4) (h : sq_M g s I L) (ok : sq_Ok g) {r : Nat} (hr : tn g (tQ y n p) r) {Q : Int32 → Prop} (K : Q (if r < g 2 then nI r else nM)) : wp_M_findHere I L R 103 (nI (6 * s)) (nI (g 2)) Q := by
  obtain ⟨r1, r2, r3⟩ := hr
  have o := ok.1.2.2.1
  have hw := tM_w (y := y) (n := n) (p := p) (by omega)
  have k8 := tK_w hw
  have l8 : tE y n p - p ≤ 8 := by
    rcases Nat.lt_or_ge 8 (tE y n p - p) with z | z
    · rw [if_pos z] at k8; omega
    · exact z
  have q40 := tQ_40 hw l8
  have go : ∀ m k, k + m = r → wl_M_findHere_2 I L R 103 (nI (6 * s)) (nI (g 2)) Q (m + 1) (nI k) := by
    intro m
    induction m with
    | zero =>
      intro k hk
      have ek : k = r := by omega
      subst ek
      rw [wl_M_findHere_2]
      by_cases z : k < g 2
      · rw [if_pos z] at K
        have en := h.2.2.2 k z
        rw [r3 z] at en
        simp (disch := omega) only [zi_0, zi_1, zi_2, zi_3, zi_4, zi_5, zi_6, zi_7, zi_8, zi_9, zi_10, zi_11, zi_12, zi_13, zi_14, zi_15, zi_16, zi_17, zi_18, zi_19, zi_20, zi_21, zi_22, zi_23, zi_24, zi_25, zi_26, zi_30, zi_31, zi_32, zi_34, zi_38, zi_59, zi_60, zi_61, zi_63, zi_64, zi_80, zi_96, zi_97, zi_99, zi_100, zi_122, zi_255, zi_256, zi_300, zi_398, zi_406, zi_900, zi_1000, zi_1024, zi_1624, zi_1662, zi_2030, zi_2031, zi_2068, zi_2258, zi_9999, zi_48, zi_57, zi_65536, zi_3257, zi_11483, zi_1000000, zi_729, zi_81, zi_m1, nI_add, pk_mul, nI_ltI, nI_leI, nI_eq, nI_clamp, zn_in, zn_sub1lt, zn_M, zn_Ml, zn_Mg, zn_Mle, zn_Mge, zn_sub, Nat.reduceAdd, Nat.reduceMul]
        refine ⟨fun x => absurd x (by omega), fun _ => ⟨by omega, sm_nameHere hn ht h1 ?_⟩⟩
        exact ⟨fun _ => K, fun x => absurd en x⟩
      · rw [if_neg z] at K
        simp (disch := omega) only [zi_0, zi_1, zi_2, zi_3, zi_4, zi_5, zi_6, zi_7, zi_8, zi_9, zi_10, zi_11, zi_12, zi_13, zi_14, zi_15, zi_16, zi_17, zi_18, zi_19, zi_20, zi_21, zi_22, zi_23, zi_24, zi_25, zi_26, zi_30, zi_31, zi_32, zi_34, zi_38, zi_59, zi_60, zi_61, zi_63, zi_64, zi_80, zi_96, zi_97, zi_99, zi_100, zi_122, zi_255, zi_256, zi_300, zi_398, zi_406, zi_900, zi_1000, zi_1024, zi_1624, zi_1662, zi_2030, zi_2031, zi_2068, zi_2258, zi_9999, zi_48, zi_57, zi_65536, zi_3257, zi_11483, zi_1000000, zi_729, zi_81, zi_m1, nI_add, pk_mul, nI_ltI, nI_leI, nI_eq, nI_clamp, zn_in, zn_sub1lt, zn_M, zn_Ml, zn_Mg, zn_Mle, zn_Mge, zn_sub, Nat.reduceAdd, Nat.reduceMul]
        exact ⟨fun _ => K, fun x => absurd (by omega) x⟩
    | succ m ih =>
      intro k hk
      have nx := ih (k + 1) (by omega)
      have en := h.2.2.2 k (by omega)
      have ne := r2 k (by omega)
      have b := ok.2.2.2.1 k (by omega)
      rw [wl_M_findHere_2]
      simp (disch := omega) only [zi_0, zi_1, zi_2, zi_3, zi_4, zi_5, zi_6, zi_7, zi_8, zi_9, zi_10, zi_11, zi_12, zi_13, zi_14, zi_15, zi_16, zi_17, zi_18, zi_19, zi_20, zi_21, zi_22, zi_23, zi_24, zi_25, zi_26, zi_30, zi_31, zi_32, zi_34, zi_38, zi_59, zi_60, zi_61, zi_63, zi_64, zi_80, zi_96, zi_97, zi_99, zi_100, zi_122, zi_255, zi_256, zi_300, zi_398, zi_406, zi_900, zi_1000, zi_1024, zi_1624, zi_1662, zi_2030, zi_2031, zi_2068, zi_2258, zi_9999, zi_48, zi_57, zi_65536, zi_3257, zi_11483, zi_1000000, zi_729, zi_81, zi_m1, nI_add, pk_mul, nI_ltI, nI_leI, nI_eq, nI_clamp, zn_in, zn_sub1lt, zn_M, zn_Ml, zn_Mg, zn_Mle, zn_Mge, zn_sub, Nat.reduceAdd, Nat.reduceMul]
      refine ⟨fun x => absurd x (by omega), fun _ => ⟨by omega, sm_nameHere hn ht h1 ?_⟩⟩
      refine ⟨fun x => ?_, fun _ => nx⟩
      have x' : L 105 (6 * s + k) = lN (nm_cv 8 (tQ y n p)) := x
      rw [en, nm_eq b q40] at x'
      exact absurd x' ne
  exact ⟨_, go r 0 (by omega)⟩
/-- the class's value of a name -/
theorem su_name (h : tk_U y n p I L) {Q : Int64 → am_TI → Prop} (K1 : tK y n p = 1 → Q (lN (tQ y n p)) I) (K2 : tK y n p ≠ 1 → ∀ I1, uf (ff y n p 2) p I I1 → Q 0 I1) : wp_Tokens_nameHere I L R 2 Q := by
  have k7 : tK y n p < 7 := tK_lt
  unfold wp_Tokens_nameHere
  rw [h.k, show (1 : Int32) = nI 1 from rfl, nI_eq (by omega) (by omega)]
  refine ⟨fun g => ?_, fun g => su_ref h (K2 g)⟩
  obtain ⟨i, hi9, e6, e7⟩ := h.v (by omega)
  have hw := tM_w (y := y) (n := n) (p := p) (by omega)
  have k8 := tK_w hw
  have ew : tW y n p = tQ y n p := by
    have r25 := rwI_le (tQ y n p)
    have nl : ¬ rwI (tQ y n p) < 25 := fun z => by
      rw [g] at k8
      split at k8
      · omega
      · omega
    have cl1 : cl (y p) = true := by
      obtain ⟨_, _, z1, z2⟩ := tQ_l hw
      exact z2 0 (by omega)
    unfold tW
    rw [if_pos cl1, if_neg nl]
  rw [e6, nI_clamp (by omega)]
  refine ⟨(zn_in (by omega)).2 hi9, ?_⟩
  rw [show L (2 + 5) i = lN (tW y n p) from e7, ew]
  exact K1 g
end
