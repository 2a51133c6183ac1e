/-! texts: the reference's tokens -/
def tx_M (y : Nat → Nat) (n : Nat) (I : am_TI) : Prop := I 103 11 = nI n ∧ ∀ k, k < n → yb (I 110 k) = y k
def tk_M (y : Nat → Nat) (n p : Nat) (I : am_TI) : Prop := tx_M y n I ∧ p ≤ n ∧ I 103 13 = nI p ∧ I 103 14 = nI (tE y n p) ∧ I 103 12 = nI (tM y n p) ∧ ((tM y n p = 3 ∨ tM y n p = 4) → I 103 15 = nI (tW y n p)) ∧ I 103 18 = nI 0
def fa_M (I I1 : am_TI) : Prop := ∀ r k, ¬ (r = 103 ∧ (k = 12 ∨ k = 13 ∨ k = 14 ∨ k = 15)) → I1 r k = I r k
def mu (y : Nat → Nat) (p : Nat) : Nat → Nat
  | 0 => 0
  | m + 1 => min 100000 (10 * mu y p m + y (p + m) - 48)
section
variable {y : Nat → Nat} {n p : Nat} {I I0 I1 I2 : am_TI} {L : am_TL} {R : am_TR}
theorem mu_le {m : Nat} : mu y p m ≤ 100000 := by
  cases m with
  | zero => exact Nat.zero_le _
  | succ m => exact Nat.min_le_left _ _
theorem mu_nu {m : Nat} (h : ∀ k, k < m → cdg (y (p + k)) = true) (hm : m ≤ 4) : mu y p m = nu y p m := by
  induction m with
  | zero => rfl
  | succ m ih =>
    have b := cdg_iff.1 (h m (by omega))
    have i := ih (fun k hk => h k (by omega)) (by omega)
    have l := nu_lt (y := y) (p := p) (m := m) (fun k hk => h k (by omega))
    have e : (10 : Nat) ^ m ≤ 10 ^ 3 := Nat.pow_le_pow_right (by omega) (by omega)
    show min 100000 (10 * mu y p m + y (p + m) - 48) = 10 * nu y p m + (y (p + m) - 48)
    rw [i]
    omega
theorem tx_M.keep (h : tx_M y n I) (e : I1 103 11 = I 103 11) (e2 : ∀ k, I1 110 k = I 110 k) : tx_M y n I1 := ⟨e.trans h.1, fun k hk => by rw [e2]; exact h.2 k hk⟩
theorem sm_byte (h : tx_M y n I) (hn : n ≤ 900) {k : Nat} (hk : k < 2 ^ 31) {Q : Int32 → Prop} (K : Q (if n ≤ k then nM else nI (y k))) : wp_M_byteAt I L R 103 (nI k) Q := by
  unfold wp_M_byteAt
  by_cases g : n ≤ k
  · rw [if_pos g] at K
    simp (disch := omega) only [h.1, zi_0, zi_1, zi_2, zi_3, zi_4, zi_5, zi_6, zi_7, zi_8, zi_9, zi_10, zi_11, zi_12, zi_13, zi_14, zi_15, zi_16, zi_17, zi_18, zi_19, zi_20, zi_21, zi_22, zi_23, zi_24, zi_25, zi_26, zi_30, zi_31, zi_32, zi_34, zi_38, zi_59, zi_60, zi_61, zi_63, zi_64, zi_80, zi_96, zi_97, zi_99, zi_100, zi_122, zi_255, zi_256, zi_300, zi_398, zi_406, zi_900, zi_1000, zi_1024, zi_1624, zi_1662, zi_2030, zi_2031, zi_2068, zi_2258, zi_9999, zi_48, zi_57, zi_65536, zi_3257, zi_11483, zi_1000000, zi_729, zi_81, zi_m1, nI_add, pk_mul, nI_ltI, nI_leI, nI_eq, nI_clamp, zn_in, zn_sub1lt, zn_M, zn_Ml, zn_Mg, zn_Mle, zn_Mge, zn_sub, Nat.reduceAdd, Nat.reduceMul, forall_eq, true_imp_iff, false_imp_iff, and_true, true_and, not_true_eq_false, not_false_eq_true, reduceCtorEq, imp_self, eq_self, false_and, and_false, implies_true]
    repeat' (first | omega | with_reducible refine And.intro ?_ ?_ | with_reducible intro g)
    all_goals exact K
  · rw [if_neg g] at K
    have hb := yb_and (I 110 k)
    rw [h.2 k (by omega)] at hb
    simp (disch := omega) only [zi_255] at hb
    simp (disch := omega) only [h.1, hb, zi_0, zi_1, zi_2, zi_3, zi_4, zi_5, zi_6, zi_7, zi_8, zi_9, zi_10, zi_11, zi_12, zi_13, zi_14, zi_15, zi_16, zi_17, zi_18, zi_19, zi_20, zi_21, zi_22, zi_23, zi_24, zi_25, zi_26, zi_30, zi_31, zi_32, zi_34, zi_38, zi_59, zi_60, zi_61, zi_63, zi_64, zi_80, zi_96, zi_97, zi_99, zi_100, zi_122, zi_255, zi_256, zi_300, zi_398, zi_406, zi_900, zi_1000, zi_1024, zi_1624, zi_1662, zi_2030, zi_2031, zi_2068, zi_2258, zi_9999, zi_48, zi_57, zi_65536, zi_3257, zi_11483, zi_1000000, zi_729, zi_81, zi_m1, nI_add, pk_mul, nI_ltI, nI_leI, nI_eq, nI_clamp, zn_in, zn_sub1lt, zn_M, zn_Ml, zn_Mg, zn_Mle, zn_Mge, zn_sub, Nat.reduceAdd, Nat.reduceMul, forall_eq, true_imp_iff, false_imp_iff, and_true, true_and, not_true_eq_false, not_false_eq_true, reduceCtorEq, imp_self, eq_self, false_and, and_false, implies_true]
    repeat' (first | omega | with_reducible refine And.intro ?_ ?_ | with_reducible intro g)
    all_goals exact K
theorem sm_yl (h : tx_M y n I) {k : Nat} (hk : k < n) : y k < 256 := by
  rw [← h.2 k hk]; exact yb_lt _
theorem sm_small {x : Nat} (hx : x < 256) {Q : Bool → Prop} (K : Q (cl x)) : wp_M_isSmall I L R (nI x) Q := by
  simp (disch := omega) only [wp_M_isSmall, zi_0, zi_1, zi_2, zi_3, zi_4, zi_5, zi_6, zi_7, zi_8, zi_9, zi_10, zi_11, zi_12, zi_13, zi_14, zi_15, zi_16, zi_17, zi_18, zi_19, zi_20, zi_21, zi_22, zi_23, zi_24, zi_25, zi_26, zi_30, zi_31, zi_32, zi_34, zi_38, zi_59, zi_60, zi_61, zi_63, zi_64, zi_80, zi_96, zi_97, zi_99, zi_100, zi_122, zi_255, zi_256, zi_300, zi_398, zi_406, zi_900, zi_1000, zi_1024, zi_1624, zi_1662, zi_2030, zi_2031, zi_2068, zi_2258, zi_9999, zi_48, zi_57, zi_65536, zi_3257, zi_11483, zi_1000000, zi_729, zi_81, zi_m1, nI_add, pk_mul, nI_ltI, nI_leI, nI_eq, nI_clamp, zn_in, zn_sub1lt, zn_M, zn_Ml, zn_Mg, zn_Mle, zn_Mge, zn_sub, Nat.reduceAdd, Nat.reduceMul]
  cases e : cl x with
  | true =>
    rw [e] at K
    rw [cl_iff] at e
    exact ⟨fun g => absurd g (by omega), fun _ => ⟨fun g => absurd g (by omega), fun _ => K⟩⟩
  | false =>
    rw [e] at K
    have e' : ¬ cl x = true := by rw [e]; decide
    rw [cl_iff] at e'
    exact ⟨fun _ => K, fun _ => ⟨fun _ => K, fun g => absurd e' (by omega)⟩⟩
theorem sm_digit {x : Nat} (hx : x < 256) {Q : Bool → Prop} (K : Q (cdg x)) : wp_M_isDigit I L R (nI x) Q := by
  simp (disch := omega) only [wp_M_isDigit, zi_0, zi_1, zi_2, zi_3, zi_4, zi_5, zi_6, zi_7, zi_8, zi_9, zi_10, zi_11, zi_12, zi_13, zi_14, zi_15, zi_16, zi_17, zi_18, zi_19, zi_20, zi_21, zi_22, zi_23, zi_24, zi_25, zi_26, zi_30, zi_31, zi_32, zi_34, zi_38, zi_59, zi_60, zi_61, zi_63, zi_64, zi_80, zi_96, zi_97, zi_99, zi_100, zi_122, zi_255, zi_256, zi_300, zi_398, zi_406, zi_900, zi_1000, zi_1024, zi_1624, zi_1662, zi_2030, zi_2031, zi_2068, zi_2258, zi_9999, zi_48, zi_57, zi_65536, zi_3257, zi_11483, zi_1000000, zi_729, zi_81, zi_m1, nI_add, pk_mul, nI_ltI, nI_leI, nI_eq, nI_clamp, zn_in, zn_sub1lt, zn_M, zn_Ml, zn_Mg, zn_Mle, zn_Mge, zn_sub, Nat.reduceAdd, Nat.reduceMul]
  cases e : cdg x with
  | true =>
    rw [e] at K
    rw [cdg_iff] at e
    exact ⟨fun g => absurd g (by omega), fun _ => ⟨fun g => absurd g (by omega), fun _ => K⟩⟩
  | false =>
    rw [e] at K
    have e' : ¬ cdg x = true := by rw [e]; decide
    rw [cdg_iff] at e'
    exact ⟨fun _ => K, fun _ => ⟨fun _ => K, fun g => absurd e' (by omega)⟩⟩
theorem sm_smallM {Q : Bool → Prop} (K : Q false) : wp_M_isSmall I L R nM Q := by
  simp (disch := omega) only [wp_M_isSmall, zi_0, zi_1, zi_2, zi_3, zi_4, zi_5, zi_6, zi_7, zi_8, zi_9, zi_10, zi_11, zi_12, zi_13, zi_14, zi_15, zi_16, zi_17, zi_18, zi_19, zi_20, zi_21, zi_22, zi_23, zi_24, zi_25, zi_26, zi_30, zi_31, zi_32, zi_34, zi_38, zi_59, zi_60, zi_61, zi_63, zi_64, zi_80, zi_96, zi_97, zi_99, zi_100, zi_122, zi_255, zi_256, zi_300, zi_398, zi_406, zi_900, zi_1000, zi_1024, zi_1624, zi_1662, zi_2030, zi_2031, zi_2068, zi_2258, zi_9999, zi_48, zi_57, zi_65536, zi_3257, zi_11483, zi_1000000, zi_729, zi_81, zi_m1, nI_add, pk_mul, nI_ltI, nI_leI, nI_eq, nI_clamp, zn_in, zn_sub1lt, zn_M, zn_Ml, zn_Mg, zn_Mle, zn_Mge, zn_sub, Nat.reduceAdd, Nat.reduceMul]
  exact ⟨fun _ => K, fun x => absurd trivial x⟩
theorem sm_digitM {Q : Bool → Prop} (K : Q false) : wp_M_isDigit I L R nM Q := by
  simp (disch := omega) only [wp_M_isDigit, zi_0, zi_1, zi_2, zi_3, zi_4, zi_5, zi_6, zi_7, zi_8, zi_9, zi_10, zi_11, zi_12, zi_13, zi_14, zi_15, zi_16, zi_17, zi_18, zi_19, zi_20, zi_21, zi_22, zi_23, zi_24, zi_25, zi_26, zi_30, zi_31, zi_32, zi_34, zi_38, zi_59, zi_60, zi_61, zi_63, zi_64, zi_80, zi_96, zi_97, zi_99, zi_100, zi_122, zi_255, zi_256, zi_300, zi_398, zi_406, zi_900, zi_1000, zi_1024, zi_1624, zi_1662, zi_2030, zi_2031, zi_2068, zi_2258, zi_9999, zi_48, zi_57, zi_65536, zi_3257, zi_11483, zi_1000000, zi_729, zi_81, zi_m1, nI_add, pk_mul, nI_ltI, nI_leI, nI_eq, nI_clamp, zn_in, zn_sub1lt, zn_M, zn_Ml, zn_Mg, zn_Mle, zn_Mge, zn_sub, Nat.reduceAdd, Nat.reduceMul]
  exact ⟨fun _ => K, fun x => absurd trivial x⟩
theorem sm_letters (hn : n ≤ 900) (hp : p ≤ n) {Q : am_TI → Prop} : ∀ m k I0, k + m = rn cl y n p → p ≤ k → tx_M y n I0 → I0 103 14 = nI k → (∀ I1, I1 103 14 = nI (rn cl y n p) → I1 103 12 = nI 2 → (∀ r j, ¬ (r = 103 ∧ (j = 12 ∨ j = 14)) → I1 r j = I0 r j) → Q I1) → wl_M_ahead_81 L R 103 Q (m + 1) I0 := by
  have en : rn cl y n p ≤ n := rn_le hp
  intro m
  induction m with
  | zero =>
    intro k I0 hk hpk tx e K
    have ek : k = rn cl y n p := by omega
    have k2 := K (am_u2 I0 103 12 (nI 2)) (by rw [am_u2_ne _ _ _ _ (by omega), ← ek]; exact e) (am_u2_at _ _ _ _) (fun r j g => by unfold am_u2; rw [if_neg (by omega)])
    have re := rn_end (P := cl) (y := y) (n := n) (p := p)
    rw [← ek] at re
    rw [wl_M_ahead_81]
    dsimp only
    rw [e]
    refine sm_byte tx hn (by omega) ?_
    by_cases g : n ≤ k
    · rw [if_pos g]
      refine sm_smallM ⟨fun _ I11 h11 => ?_, fun x => (by cases x)⟩
      rw [h11]; exact k2
    · rw [if_neg g]
      refine sm_small (sm_yl tx (by omega)) ⟨fun _ I11 h11 => ?_, fun x => absurd ⟨by omega, x⟩ re⟩
      rw [h11]; exact k2
  | succ m ih =>
    intro k I0 hk hpk tx e K
    have ck := rn_all (P := cl) (y := y) (n := n) hpk (show k < rn cl y n p by omega)
    rw [wl_M_ahead_81]
    dsimp only
    rw [e]
    refine sm_byte tx hn (by omega) ?_
    rw [if_neg (by omega)]
    refine sm_small (sm_yl tx (by omega)) ⟨fun x => absurd (x.symm.trans ck) (by decide), fun _ I12 h12 => ?_⟩
    rw [zi_1, nI_add] at h12
    refine ih (k + 1) I12 (by omega) (by omega) (tx.keep (by rw [h12, am_u2_ne _ _ _ _ (by omega)]) (fun j => by rw [h12, am_u2o (by omega)])) (by rw [h12, am_u2_at]) (fun I1 a b f => K I1 a b (fun r j g => ?_))
    rw [f r j g, h12]
    unfold am_u2
    rw [if_neg (by omega)]
theorem sm_digits (hn : n ≤ 900) (hp : p ≤ n) {Q : am_TI → Prop} : ∀ m k I0, k + m = rn cdg y n p → p ≤ k → tx_M y n I0 → I0 103 13 = nI p → I0 103 14 = nI k → I0 103 15 = nI (mu y p (k - p)) → (∀ I1, I1 103 14 = nI (rn cdg y n p) → I1 103 15 = nI (mu y p (rn cdg y n p - p)) → I1 103 12 = nI (if 4 < rn cdg y n p - p then 1 else 3) → (∀ r j, ¬ (r = 103 ∧ (j = 12 ∨ j = 14 ∨ j = 15)) → I1 r j = I0 r j) → Q I1) → wl_M_ahead_128 L R 103 Q (m + 1) I0 := by
  have en : rn cdg y n p ≤ n := rn_le hp
  intro m
  induction m with
  | zero =>
    intro k I0 hk hpk tx e13 e e15 K
    have ek : k = rn cdg y n p := by omega
    rw [← ek] at K
    have k2 := K (am_u2 I0 103 12 (nI (if 4 < k - p then 1 else 3))) (by rw [am_u2_ne _ _ _ _ (by omega)]; exact e) (by rw [am_u2_ne _ _ _ _ (by omega)]; exact e15) (am_u2_at _ _ _ _) (fun r j g => by unfold am_u2; rw [if_neg (by omega)])
    have re := rn_end (P := cdg) (y := y) (n := n) (p := p)
    rw [← ek] at re
    have fin : (nI k - nI p ≤ 4 → wb_M_ahead_202 L R 103 Q I0 103 3) ∧ (¬ nI k - nI p ≤ 4 → wb_M_ahead_202 L R 103 Q I0 103 1) := by
      simp (disch := omega) only [wb_M_ahead_202, zi_0, zi_1, zi_2, zi_3, zi_4, zi_5, zi_6, zi_7, zi_8, zi_9, zi_10, zi_11, zi_12, zi_13, zi_14, zi_15, zi_16, zi_17, zi_18, zi_19, zi_20, zi_21, zi_22, zi_23, zi_24, zi_25, zi_26, zi_30, zi_31, zi_32, zi_34, zi_38, zi_59, zi_60, zi_61, zi_63, zi_64, zi_80, zi_96, zi_97, zi_99, zi_100, zi_122, zi_255, zi_256, zi_300, zi_398, zi_406, zi_900, zi_1000, zi_1024, zi_1624, zi_1662, zi_2030, zi_2031, zi_2068, zi_2258, zi_9999, zi_48, zi_57, zi_65536, zi_3257, zi_11483, zi_1000000, zi_729, zi_81, zi_m1, nI_add, pk_mul, nI_ltI, nI_leI, nI_eq, nI_clamp, zn_in, zn_sub1lt, zn_M, zn_Ml, zn_Mg, zn_Mle, zn_Mge, zn_sub, Nat.reduceAdd, Nat.reduceMul, forall_eq, true_imp_iff, false_imp_iff, and_true, true_and, not_true_eq_false, not_false_eq_true, reduceCtorEq, imp_self, eq_self, false_and, and_false, implies_true]
      by_cases g : 4 < k - p
      · rw [if_pos g] at k2
        exact ⟨fun x => absurd x (by omega), fun _ => k2⟩
      · rw [if_neg g] at k2
        exact ⟨fun _ => k2, fun x => absurd (by omega) x⟩
    rw [wl_M_ahead_128]
    dsimp only
    rw [e, e13]
    refine sm_byte tx hn (by omega) ?_
    by_cases g : n ≤ k
    · rw [if_pos g]
      exact sm_digitM ⟨fun _ => fin, fun x => (by cases x)⟩
    · rw [if_neg g]
      exact sm_digit (sm_yl tx (by omega)) ⟨fun _ => fin, fun x => absurd ⟨by omega, x⟩ re⟩
  | succ m ih =>
    intro k I0 hk hpk tx e13 e e15 K
    have ck := rn_all (P := cdg) (y := y) (n := n) hpk (show k < rn cdg y n p by omega)
    have ck' := cdg_iff.1 ck
    have ml := mu_le (y := y) (p := p) (m := k - p)
    rw [wl_M_ahead_128]
    dsimp only
    rw [e, e15]
    refine sm_byte tx hn (by omega) ?_
    rw [if_neg (by omega)]
    refine sm_digit (sm_yl tx (by omega)) ⟨fun x => absurd (x.symm.trans ck) (by decide), fun _ => ?_⟩
    refine sm_byte tx hn (by omega) ?_
    rw [if_neg (by omega)]
    simp (disch := omega) only [zi_100000, zn_min, zi_0, zi_1, zi_2, zi_3, zi_4, zi_5, zi_6, zi_7, zi_8, zi_9, zi_10, zi_11, zi_12, zi_13, zi_14, zi_15, zi_16, zi_17, zi_18, zi_19, zi_20, zi_21, zi_22, zi_23, zi_24, zi_25, zi_26, zi_30, zi_31, zi_32, zi_34, zi_38, zi_59, zi_60, zi_61, zi_63, zi_64, zi_80, zi_96, zi_97, zi_99, zi_100, zi_122, zi_255, zi_256, zi_300, zi_398, zi_406, zi_900, zi_1000, zi_1024, zi_1624, zi_1662, zi_2030, zi_2031, zi_2068, zi_2258, zi_9999, zi_48, zi_57, zi_65536, zi_3257, zi_11483, zi_1000000, zi_729, zi_81, zi_m1, nI_add, pk_mul, nI_ltI, nI_leI, nI_eq, nI_clamp, zn_in, zn_sub1lt, zn_M, zn_Ml, zn_Mg, zn_Mle, zn_Mge, zn_sub, Nat.reduceAdd, Nat.reduceMul]
    intro I9 h9 I10 h10
    have ev : mu y p (k + 1 - p) = min 100000 (10 * mu y p (k - p) + y k - 48) := by
      rw [show k + 1 - p = (k - p) + 1 by omega]
      show min 100000 (10 * mu y p (k - p) + y (p + (k - p)) - 48) = _
      rw [show p + (k - p) = k by omega]
    have e14 : I9 103 14 = nI k := by rw [h9, am_u2_ne _ _ _ _ (by omega)]; exact e
    rw [e14, nI_add] at h10
    refine ih (k + 1) I10 (by omega) (by omega) (tx.keep (by rw [h10, h9, am_u2_ne _ _ _ _ (by omega), am_u2_ne _ _ _ _ (by omega)]) (fun j => by rw [h10, h9, am_u2o (by omega), am_u2o (by omega)])) (by rw [h10, h9, am_u2_ne _ _ _ _ (by omega), am_u2_ne _ _ _ _ (by omega)]; exact e13) (by rw [h10, am_u2_at]) (by rw [h10, h9, am_u2_ne _ _ _ _ (by omega), am_u2_at, ev]) (fun I1 a b c f => K I1 a b c (fun r j g => ?_))
    rw [f r j g, h10, h9]
    unfold am_u2
    rw [if_neg (by omega), if_neg (by omega)]
theorem sm_aheadE (hn : n ≤ 900) {Q : am_TI → Prop} : ∀ m e I0, n - e = m → e ≤ n → tx_M y n I0 → I0 103 14 = nI e → I0 103 18 = nI 0 → (∀ I1, tk_M y n (rn cb y n e) I1 → fa_M I0 I1 → Q I1) → ∃ z, wl_M_ahead_0 L R 103 Q z I0 := by
  intro m
  induction m with
  | zero =>
    intro e I0 hm he tx e14 e18 K
    have ee : e = n := by omega
    subst ee
    rw [rn_no (by omega)] at K
    have tE0 : tE y e e = e := by unfold tE; rw [if_pos (Nat.le_refl _)]
    have tM0 : tM y e e = 0 := by unfold tM; rw [if_pos (Nat.le_refl _)]
    refine ⟨1, ?_⟩
    rw [wl_M_ahead_0]
    dsimp only
    rw [e14]
    refine sm_byte tx hn (by omega) ?_
    rw [if_pos (Nat.le_refl _)]
    refine ⟨fun x => absurd x (by decide), fun _ => sm_byte tx hn (by omega) ?_⟩
    rw [if_pos (Nat.le_refl _)]
    refine ⟨fun x => absurd x (by decide), fun _ I2 h2 => ?_⟩
    have x2 : tx_M y e I2 := tx.keep (by rw [h2, am_u2_ne _ _ _ _ (by omega)]) (fun j => by rw [h2, am_u2o (by omega)])
    have e2 : I2 103 14 = nI e := by rw [h2, am_u2_ne _ _ _ _ (by omega)]; exact e14
    rw [e2]
    refine sm_byte x2 hn (by omega) ?_
    rw [if_pos (Nat.le_refl _)]
    refine fun I3 h3 => ⟨fun _ I13 h13 => ?_, fun x => absurd rfl x⟩
    refine K I13 ⟨x2.keep (by rw [h13, h3, am_u2_ne _ _ _ _ (by omega), am_u2_ne _ _ _ _ (by omega)]) (fun j => by rw [h13, h3, am_u2o (by omega), am_u2o (by omega)]), Nat.le_refl _, by rw [h13, h3, h2, am_u2_ne _ _ _ _ (by omega), am_u2_ne _ _ _ _ (by omega), am_u2_at], by rw [tE0, h13, h3, am_u2_ne _ _ _ _ (by omega), am_u2_ne _ _ _ _ (by omega)]; exact e2, by rw [tM0, h13, am_u2_at]; rfl, fun x => absurd tM0 (by omega), by rw [h13, h3, h2, am_u2_ne _ _ _ _ (by omega), am_u2_ne _ _ _ _ (by omega), am_u2_ne _ _ _ _ (by omega)]; exact e18⟩ (fun r k g => ?_)
    rw [h13, h3, h2]
    unfold am_u2
    rw [if_neg (by omega), if_neg (by omega), if_neg (by omega)]
  | succ m ih =>
    intro e I0 hm he tx e14 e18 K
    have hlt : e < n := by omega
    have yl := sm_yl tx hlt
    by_cases gb : cb (y e) = true
    · -- a blank
      rw [rn_yes hlt gb] at K
      obtain ⟨z, hz⟩ := ih (e + 1) (am_u2 I0 103 14 (nI (e + 1))) (by omega) (by omega) (tx.keep (am_u2_ne _ _ _ _ (by omega) _) (fun j => am_u2o (by omega))) (am_u2_at _ _ _ _) (by rw [am_u2_ne _ _ _ _ (by omega)]; exact e18) (fun I1 t f => K I1 t (fun r k g => by
        rw [f r k g]
        unfold am_u2
        rw [if_neg (by omega)]))
      refine ⟨z + 1, ?_⟩
      have bl : wb_M_ahead_26 L R 103 Q (wl_M_ahead_0 L R 103 Q z) I0 := by
        intro I1 h1
        rw [e14, zi_1, nI_add] at h1
        rw [h1]; exact hz
      rw [wl_M_ahead_0]
      dsimp only
      rw [e14]
      refine sm_byte tx hn (by omega) ?_
      rw [if_neg (by omega)]
      refine ⟨fun _ => bl, fun g => sm_byte tx hn (by omega) ?_⟩
      rw [if_neg (by omega)]
      refine ⟨fun _ => bl, fun g2 => ?_⟩
      rw [cb_iff] at gb
      rcases gb with gb | gb
      · rw [gb] at g; exact absurd rfl g
      · rw [gb] at g2; exact absurd rfl g2
    rw [rn_no (fun x => gb x.2)] at K
    have gb' := gb
    rw [cb_iff] at gb'
    refine ⟨1, ?_⟩
    rw [wl_M_ahead_0]
    dsimp only
    rw [e14]
    refine sm_byte tx hn (by omega) ?_
    rw [if_neg (by omega)]
    have n32 : ¬ nI (y e) = 32 := by rw [zi_32, nI_eq (by omega) (by omega)]; omega
    have n10 : ¬ nI (y e) = 10 := by rw [zi_10, nI_eq (by omega) (by omega)]; omega
    refine ⟨fun x => absurd x n32, fun _ => sm_byte tx hn (by omega) ?_⟩
    rw [if_neg (by omega)]
    refine ⟨fun x => absurd x n10, fun _ I2 h2 => ?_⟩
    have x2 : tx_M y n I2 := tx.keep (by rw [h2, am_u2_ne _ _ _ _ (by omega)]) (fun j => by rw [h2, am_u2o (by omega)])
    have e2 : I2 103 14 = nI e := by rw [h2, am_u2_ne _ _ _ _ (by omega)]; exact e14
    rw [e2]
    refine sm_byte x2 hn (by omega) ?_
    rw [if_neg (by omega)]
    intro I3 h3
    have f3 : ∀ r k, ¬ (r = 103 ∧ (k = 13 ∨ k = 15)) → I3 r k = I0 r k := fun r k g => by
      rw [h3, h2]
      unfold am_u2
      rw [if_neg (by omega), if_neg (by omega)]
    have x3 : tx_M y n I3 := tx.keep (f3 _ _ (by omega)) (fun j => f3 _ _ (by omega))
    have a13 : I3 103 13 = nI e := by rw [h3, h2, am_u2_ne _ _ _ _ (by omega), am_u2_at]
    have a14 : I3 103 14 = nI e := (f3 _ _ (by omega)).trans e14
    have a15 : I3 103 15 = nI (y e) := by rw [h3, am_u2_at]
    have a18 : I3 103 18 = nI 0 := (f3 _ _ (by omega)).trans e18
    have nm : ¬ nI (y e) = -1 := fun x => (zn_M (n := y e) (by omega)).1 (x.trans (show (-1 : Int32) = nM by decide))
    refine ⟨fun x => absurd x nm, fun _ => sm_small yl ⟨fun gl => ?_, fun gl => ?_⟩⟩
    rotate_left
    · -- a word
      have eE : tE y n e = rn cl y n e := by unfold tE; rw [if_neg (by omega), if_pos gl]
      have eM : tM y n e = 2 := by unfold tM; rw [if_neg (by omega), if_pos gl]
      refine ⟨_, sm_letters hn he (rn cl y n e - e) e I3 (by have := rn_ge (P := cl) (y := y) (n := n) (p := e); omega) (Nat.le_refl _) x3 a14 (fun I1 b1 b2 f => K I1 ⟨x3.keep (f _ _ (by omega)) (fun j => f _ _ (by omega)), he, (f _ _ (by omega)).trans a13, by rw [eE]; exact b1, by rw [eM]; exact b2, fun x => absurd eM (by omega), (f _ _ (by omega)).trans a18⟩ (fun r k g => by rw [f r k (by omega), f3 r k (by omega)]))⟩
    have gl' : ¬ cl (y e) = true := by rw [gl]; decide
    refine sm_digit yl ⟨fun gd => ?_, fun gd I7 h7 => ?_⟩
    rotate_left
    · -- a number
      have f7 : ∀ r k, ¬ (r = 103 ∧ k = 15) → I7 r k = I3 r k := fun r k g => by rw [h7]; unfold am_u2; rw [if_neg g]
      have eE : tE y n e = rn cdg y n e := by unfold tE; rw [if_neg (by omega), if_neg gl', if_pos gd]
      have eM : tM y n e = if 4 < rn cdg y n e - e then 1 else 3 := by unfold tM; rw [if_neg (by omega), if_neg gl', if_pos gd, eE]
      have eW : tW y n e = nu y e (rn cdg y n e - e) := by unfold tW; rw [if_neg gl', if_pos gd, eE]
      refine ⟨_, sm_digits hn he (rn cdg y n e - e) e I7 (by have := rn_ge (P := cdg) (y := y) (n := n) (p := e); omega) (Nat.le_refl _) (x3.keep (f7 _ _ (by omega)) (fun j => f7 _ _ (by omega))) ((f7 _ _ (by omega)).trans a13) ((f7 _ _ (by omega)).trans a14) (by rw [h7, am_u2_at, Nat.sub_self]; rfl) (fun I1 b1 b2 b3 f => K I1 ⟨x3.keep ((f _ _ (by omega)).trans (f7 _ _ (by omega))) (fun j => (f _ _ (by omega)).trans (f7 _ _ (by omega))), he, ((f _ _ (by omega)).trans (f7 _ _ (by omega))).trans a13, by rw [eE]; exact b1, by rw [eM]; exact b3, fun x => ?_, ((f _ _ (by omega)).trans (f7 _ _ (by omega))).trans a18⟩ (fun r k g => by rw [f r k (by omega), f7 r k (by omega), f3 r k (by omega)]))⟩
      have l4 : ¬ 4 < rn cdg y n e - e := fun z => by rw [eM, if_pos z] at x; omega
      rw [b2, eW, mu_nu (fun k hk => rn_all (by omega) (show e + k < rn cdg y n e by omega)) (by omega)]
    have gd' : ¬ cdg (y e) = true := by rw [gd]; decide
    have eE : tE y n e = e + 1 := by unfold tE; rw [if_neg (by omega), if_neg gl', if_neg gd']
    have eM : tM y n e = if cs (y e) = true then 4 else 1 := by unfold tM; rw [if_neg (by omega), if_neg gl', if_neg gd']
    have eW : tW y n e = y e := by unfold tW; rw [if_neg gl', if_neg gd']
    intro I4 h4
    rw [a14, zi_1, nI_add] at h4
    have fin : ∀ v : Nat, v = tM y n e → Q (am_u2 I4 103 12 (nI v)) := fun v hv => K _ ⟨x3.keep (by rw [h4, am_u2_ne _ _ _ _ (by omega), am_u2_ne _ _ _ _ (by omega)]) (fun j => by rw [h4, am_u2o (by omega), am_u2o (by omega)]), he, by rw [h4, am_u2_ne _ _ _ _ (by omega), am_u2_ne _ _ _ _ (by omega)]; exact a13, by rw [eE, h4, am_u2_ne _ _ _ _ (by omega), am_u2_at], by rw [am_u2_at, hv], fun _ => by rw [eW, h4, am_u2_ne _ _ _ _ (by omega), am_u2_ne _ _ _ _ (by omega)]; exact a15, by rw [h4, am_u2_ne _ _ _ _ (by omega), am_u2_ne _ _ _ _ (by omega)]; exact a18⟩ (fun r k g => by
      rw [h4]
      unfold am_u2
      rw [if_neg (by omega), if_neg (by omega), f3 r k (by omega)])
    have z61 : (61 : Int32) = nI 61 := rfl
    simp (disch := omega) only [wb_M_ahead_243, zi_62, z61, zi_0, zi_1, zi_2, zi_3, zi_4, zi_5, zi_6, zi_7, zi_8, zi_9, zi_10, zi_11, zi_12, zi_13, zi_14, zi_15, zi_16, zi_17, zi_18, zi_19, zi_20, zi_21, zi_22, zi_23, zi_24, zi_25, zi_26, zi_30, zi_31, zi_32, zi_34, zi_38, zi_59, zi_60, zi_61, zi_63, zi_64, zi_80, zi_96, zi_97, zi_99, zi_100, zi_122, zi_255, zi_256, zi_300, zi_398, zi_406, zi_900, zi_1000, zi_1024, zi_1624, zi_1662, zi_2030, zi_2031, zi_2068, zi_2258, zi_9999, zi_48, zi_57, zi_65536, zi_3257, zi_11483, zi_1000000, zi_729, zi_81, zi_m1, nI_add, pk_mul, nI_ltI, nI_leI, nI_eq, nI_clamp, zn_in, zn_sub1lt, zn_M, zn_Ml, zn_Mg, zn_Mle, zn_Mge, zn_sub, Nat.reduceAdd, Nat.reduceMul, forall_eq, true_imp_iff, false_imp_iff, and_true, true_and, not_true_eq_false, not_false_eq_true, reduceCtorEq, imp_self, eq_self, false_and, and_false, implies_true]
    by_cases g : cs (y e) = true
    · rw [if_pos g] at eM
      have a := fin 4 eM.symm
      rw [cs_iff] at g
      exact ⟨fun _ => a, fun _ => ⟨fun _ => a, fun _ => ⟨fun _ => a, fun _ => ⟨fun _ => a, fun _ => (by omega)⟩⟩⟩⟩
    · rw [if_neg g] at eM
      have a := fin 1 eM.symm
      rw [cs_iff] at g
      exact ⟨fun x => absurd x (by omega), fun _ => ⟨fun x => absurd x (by omega), fun _ => ⟨fun x => absurd x (by omega), fun _ => ⟨fun x => absurd x (by omega), fun _ => a⟩⟩⟩⟩
theorem sm_ahead (hn : n ≤ 900) (h : tk_M y n p I) {Q : am_TI → Prop} (K : ∀ I1, tk_M y n (tN y n p) I1 → fa_M I I1 → Q I1) : wp_M_ahead I L R 103 Q := by
  obtain ⟨tx, hp, e13, e14, e12, e15, e18⟩ := h
  exact sm_aheadE hn _ (tE y n p) I rfl (tE_le hp) tx e14 e18 K
theorem sm_fails (h : tk_M y n p I) {f : Nat} {Q : Bool → am_TI → Prop} (K : ∀ I1, I1 103 18 = nI (if tM y n p = 1 then 1 else f) → I1 103 17 = nI p → (∀ r k, ¬ (r = 103 ∧ (k = 17 ∨ k = 18)) → I1 r k = I r k) → Q false I1) : wp_M_fails I L R 103 (nI f) Q := by
  obtain ⟨tx, hp, e13, e14, e12, e15, e18⟩ := h
  have m5 : tM y n p < 5 := by
    unfold tM
    repeat' split
    all_goals omega
  have k2 := K (am_u2 (am_u2 I 103 18 (nI (if tM y n p = 1 then 1 else f))) 103 17 (nI p)) (by rw [am_u2_ne _ _ _ _ (by omega), am_u2_at]) (am_u2_at _ _ _ _) (fun r k g => by unfold am_u2; rw [if_neg (by omega), if_neg (by omega)])
  unfold wp_M_fails wb_M_fails_21
  by_cases g : tM y n p = 1
  · rw [if_pos g] at k2
    simp (disch := omega) only [e18, e12, e13, g, am_u2_ne, zi_0, zi_1, zi_2, zi_3, zi_4, zi_5, zi_6, zi_7, zi_8, zi_9, zi_10, zi_11, zi_12, zi_13, zi_14, zi_15, zi_16, zi_17, zi_18, zi_19, zi_20, zi_21, zi_22, zi_23, zi_24, zi_25, zi_26, zi_30, zi_31, zi_32, zi_34, zi_38, zi_59, zi_60, zi_61, zi_63, zi_64, zi_80, zi_96, zi_97, zi_99, zi_100, zi_122, zi_255, zi_256, zi_300, zi_398, zi_406, zi_900, zi_1000, zi_1024, zi_1624, zi_1662, zi_2030, zi_2031, zi_2068, zi_2258, zi_9999, zi_48, zi_57, zi_65536, zi_3257, zi_11483, zi_1000000, zi_729, zi_81, zi_m1, nI_add, pk_mul, nI_ltI, nI_leI, nI_eq, nI_clamp, zn_in, zn_sub1lt, zn_M, zn_Ml, zn_Mg, zn_Mle, zn_Mge, zn_sub, Nat.reduceAdd, Nat.reduceMul, forall_eq, true_imp_iff, false_imp_iff, and_true, true_and, not_true_eq_false, not_false_eq_true, reduceCtorEq, imp_self, eq_self, false_and, and_false, implies_true]
    repeat' (first | omega | with_reducible refine And.intro ?_ ?_ | with_reducible intro g)
    all_goals exact k2
  · rw [if_neg g] at k2
    simp (disch := omega) only [e18, e12, e13, g, am_u2_ne, zi_0, zi_1, zi_2, zi_3, zi_4, zi_5, zi_6, zi_7, zi_8, zi_9, zi_10, zi_11, zi_12, zi_13, zi_14, zi_15, zi_16, zi_17, zi_18, zi_19, zi_20, zi_21, zi_22, zi_23, zi_24, zi_25, zi_26, zi_30, zi_31, zi_32, zi_34, zi_38, zi_59, zi_60, zi_61, zi_63, zi_64, zi_80, zi_96, zi_97, zi_99, zi_100, zi_122, zi_255, zi_256, zi_300, zi_398, zi_406, zi_900, zi_1000, zi_1024, zi_1624, zi_1662, zi_2030, zi_2031, zi_2068, zi_2258, zi_9999, zi_48, zi_57, zi_65536, zi_3257, zi_11483, zi_1000000, zi_729, zi_81, zi_m1, nI_add, pk_mul, nI_ltI, nI_leI, nI_eq, nI_clamp, zn_in, zn_sub1lt, zn_M, zn_Ml, zn_Mg, zn_Mle, zn_Mge, zn_sub, Nat.reduceAdd, Nat.reduceMul, forall_eq, true_imp_iff, false_imp_iff, and_true, true_and, not_true_eq_false, not_false_eq_true, reduceCtorEq, imp_self, eq_self, false_and, and_false, implies_true]
    repeat' (first | omega | with_reducible refine And.intro ?_ ?_ | with_reducible intro g)
    all_goals exact k2
/-- a fault's kind in both -/
theorem tM_6 : tM y n p = 1 ↔ tK y n p = 6 := by
  unfold tM tK
  repeat' split
  all_goals simp_all
end
