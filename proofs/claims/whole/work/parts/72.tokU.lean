/-! texts: the class's tokens -/
theorem zj_32 : (32 : Int64) = lN 32 := rfl
theorem zj_59 : (59 : Int64) = lN 59 := rfl
def rs_U (L : am_TL) : Prop := ∀ i, i < 25 → L 4 i = lN (rwL.getD i 0)
theorem rw_at : ∀ i, i < 25 → rwI (rwL.getD i 0) = i := by decide
theorem rw_40 : ∀ i, i < 25 → rwL.getD i 0 < 2 ^ 40 := by decide
theorem rw_none {x : Nat} (h : ∀ j, j < 25 → rwL.getD j 0 ≠ x) : rwI x = 25 := by
  refine List.idxOf_eq_length (fun hm => ?_)
  obtain ⟨j, hj, e⟩ := List.getElem_of_mem hm
  have hj' : j < 25 := hj
  refine h j hj' ?_
  rw [List.getD_eq_getElem?_getD, List.getElem?_eq_getElem hj]
  exact e
/-- what a scan fills -/
def tt_U (y : Nat → Nat) (n cnt : Nat) (I : am_TI) (L : am_TL) : Prop := I 2 5 = nI cnt ∧ ∀ j, j < cnt → I 5 j = nI (tK y n (tS y n j)) ∧ I 6 j = nI (tS y n j) ∧ ((tK y n (tS y n j) = 1 ∨ tK y n (tS y n j) = 3 ∨ tK y n (tS y n j) = 4 ∨ tK y n (tS y n j) = 5) → L 7 j = lN (tW y n (tS y n j)))
def ft_U (I I1 : am_TI) : Prop := ∀ r k, r ≠ 5 → r ≠ 6 → ¬ (r = 2 ∧ k = 5) → I1 r k = I r k
def ft_L (L L1 : am_TL) : Prop := ∀ r, r ≠ 7 → L1 r = L r
section
variable {y : Nat → Nat} {n p cnt : Nat} {I I1 I2 : am_TI} {L L1 L2 : am_TL} {R : am_TR}
theorem ft_U.trans (h : ft_U I I1) (h2 : ft_U I1 I2) : ft_U I I2 := fun r k a b c => (h2 r k a b c).trans (h r k a b c)
theorem ft_L.trans (h : ft_L L L1) (h2 : ft_L L1 L2) : ft_L L L2 := fun r a => (h2 r a).trans (h r a)
theorem su_resv {x : Nat} (hx : x < 2 ^ 40) (rs : rs_U L) {Q : Int32 → Prop} (K : Q (if rwI x < 25 then nI (rwI x) else nM)) : wp_Tokens_reservedWord I L R 2 (lN x) Q := by
  have go : ∀ m i, i + m = 25 → (∀ j, j < i → rwL.getD j 0 ≠ x) → wl_Tokens_reservedWord_2 I L R 2 (lN x) Q (m + 1) (nI i) := by
    intro m
    induction m with
    | zero =>
      intro i hi hn
      rw [rw_none (x := x) (fun j hj => hn j (by omega)), if_neg (by omega)] at K
      rw [wl_Tokens_reservedWord_2]
      simp (disch := omega) only [zi_0, zi_1, zi_2, zi_3, zi_4, zi_5, zi_6, zi_7, zi_8, zi_9, zi_10, zi_11, zi_12, zi_13, zi_14, zi_15, zi_16, zi_17, zi_18, zi_19, zi_20, zi_21, zi_22, zi_23, zi_24, zi_25, zi_26, zi_30, zi_31, zi_32, zi_34, zi_38, zi_59, zi_60, zi_61, zi_63, zi_64, zi_80, zi_96, zi_97, zi_99, zi_100, zi_122, zi_255, zi_256, zi_300, zi_398, zi_406, zi_900, zi_1000, zi_1024, zi_1624, zi_1662, zi_2030, zi_2031, zi_2068, zi_2258, zi_9999, zi_48, zi_57, zi_65536, zi_3257, zi_11483, zi_1000000, zi_729, zi_81, zi_m1, nI_add, pk_mul, nI_ltI, nI_leI, nI_eq, nI_clamp, zn_in, zn_sub1lt, zn_M, zn_Ml, zn_Mg, zn_Mle, zn_Mge, zn_sub, Nat.reduceAdd, Nat.reduceMul, forall_eq, true_imp_iff, false_imp_iff, and_true, true_and, not_true_eq_false, not_false_eq_true, reduceCtorEq, imp_self, eq_self, false_and, and_false, implies_true]
      repeat' (first | omega | with_reducible refine And.intro ?_ ?_ | with_reducible intro g)
      all_goals exact K
    | succ m ih =>
      intro i hi hn
      have e := rs i (by omega)
      have b := rw_40 i (by omega)
      rw [wl_Tokens_reservedWord_2]
      simp (disch := omega) only [e, zk_eq, zi_0, zi_1, zi_2, zi_3, zi_4, zi_5, zi_6, zi_7, zi_8, zi_9, zi_10, zi_11, zi_12, zi_13, zi_14, zi_15, zi_16, zi_17, zi_18, zi_19, zi_20, zi_21, zi_22, zi_23, zi_24, zi_25, zi_26, zi_30, zi_31, zi_32, zi_34, zi_38, zi_59, zi_60, zi_61, zi_63, zi_64, zi_80, zi_96, zi_97, zi_99, zi_100, zi_122, zi_255, zi_256, zi_300, zi_398, zi_406, zi_900, zi_1000, zi_1024, zi_1624, zi_1662, zi_2030, zi_2031, zi_2068, zi_2258, zi_9999, zi_48, zi_57, zi_65536, zi_3257, zi_11483, zi_1000000, zi_729, zi_81, zi_m1, nI_add, pk_mul, nI_ltI, nI_leI, nI_eq, nI_clamp, zn_in, zn_sub1lt, zn_M, zn_Ml, zn_Mg, zn_Mle, zn_Mge, zn_sub, Nat.reduceAdd, Nat.reduceMul]
      refine ⟨fun g => absurd g (by omega), fun _ => ⟨by omega, fun g => ?_, fun g => ?_⟩⟩
      · have := rw_at i (by omega)
        rw [g] at this
        rw [this, if_pos (by omega)] at K
        exact K
      · refine ih (i + 1) (by omega) (fun j hj => ?_)
        by_cases x : j = i
        · rw [x]; exact g
        · exact hn j (by omega)
  exact ⟨26, go 25 0 (by omega) (fun j hj => absurd hj (by omega))⟩
theorem su_addT (h : tt_U y n cnt I L) (hc : cnt ≤ 900) {v : Int64} (hv : (tK y n (tS y n cnt) = 1 ∨ tK y n (tS y n cnt) = 3 ∨ tK y n (tS y n cnt) = 4 ∨ tK y n (tS y n cnt) = 5) → v = lN (tW y n (tS y n cnt))) {Q : am_TI → am_TL → Prop} (K : ∀ I1 L1, tt_U y n (cnt + 1) I1 L1 → ft_U I I1 → ft_L L L1 → Q I1 L1) : wp_Tokens_add I L R 2 (nI (tK y n (tS y n cnt))) (nI (tS y n cnt)) v Q := by
  obtain ⟨h5, hh⟩ := h
  have k2 := K (am_u2 (am_u2 (am_u2 I 5 cnt (nI (tK y n (tS y n cnt)))) 6 cnt (nI (tS y n cnt))) 2 5 (nI (cnt + 1))) (am_u2 L 7 cnt v) ⟨am_u2_at _ _ _ _, fun j hj => by
    by_cases e : j = cnt
    · subst e
      refine ⟨by rw [am_u2o (by omega), am_u2o (by omega), am_u2_at], by rw [am_u2o (by omega), am_u2_at], fun g => by rw [am_u2_at]; exact hv g⟩
    · obtain ⟨a, b, f⟩ := hh j (by omega)
      exact ⟨by rw [am_u2o (by omega), am_u2o (by omega), am_u2_ne _ _ _ _ e]; exact a, by rw [am_u2o (by omega), am_u2_ne _ _ _ _ e, am_u2o (by omega)]; exact b, fun g => by rw [am_u2_ne _ _ _ _ e]; exact f g⟩⟩ (fun r k a b f => by unfold am_u2; rw [if_neg (by omega), if_neg (by omega), if_neg (by omega)]) (fun r a => am_u2_row _ _ _ _ a)
  unfold wp_Tokens_add
  simp (disch := omega) only [h5, am_u2o, zi_0, zi_1, zi_2, zi_3, zi_4, zi_5, zi_6, zi_7, zi_8, zi_9, zi_10, zi_11, zi_12, zi_13, zi_14, zi_15, zi_16, zi_17, zi_18, zi_19, zi_20, zi_21, zi_22, zi_23, zi_24, zi_25, zi_26, zi_30, zi_31, zi_32, zi_34, zi_38, zi_59, zi_60, zi_61, zi_63, zi_64, zi_80, zi_96, zi_97, zi_99, zi_100, zi_122, zi_255, zi_256, zi_300, zi_398, zi_406, zi_900, zi_1000, zi_1024, zi_1624, zi_1662, zi_2030, zi_2031, zi_2068, zi_2258, zi_9999, zi_48, zi_57, zi_65536, zi_3257, zi_11483, zi_1000000, zi_729, zi_81, zi_m1, nI_add, pk_mul, nI_ltI, nI_leI, nI_eq, nI_clamp, zn_in, zn_sub1lt, zn_M, zn_Ml, zn_Mg, zn_Mle, zn_Mge, zn_sub, Nat.reduceAdd, Nat.reduceMul, forall_eq, true_imp_iff, false_imp_iff, and_true, true_and, not_true_eq_false, not_false_eq_true, reduceCtorEq, imp_self, eq_self, false_and, and_false, implies_true]
  repeat' (first | omega | with_reducible refine And.intro ?_ ?_ | with_reducible intro g)
  all_goals exact k2
theorem su_scanW (h : tt_U y n cnt I L) (hc : cnt ≤ 900) (hn : n ≤ 900) (hy : ∀ k, k < n → yb (I 3 k) = y k) (rs : rs_U L) (hp : tS y n cnt = p) (hpn : p < n) (hl : cl (y p) = true) {Q : Int32 → am_TI → am_TL → Prop} (K : ∀ I1 L1, tt_U y n (cnt + 1) I1 L1 → ft_U I I1 → ft_L L L1 → Q (nI (tE y n p)) I1 L1) : wp_Tokens_scanWord I L R 2 (nI p) (nI n) Q := by
  have eE : tE y n p = rn cl y n p := by unfold tE; rw [if_neg (by omega), if_pos hl]
  have en : rn cl y n p ≤ n := rn_le (by omega)
  have ep : p < rn cl y n p := rn_lt hpn hl
  have fin : wb_Tokens_scanWord_59 R 2 (nI p) (nI n) Q I L (lN (tpk y p (rn cl y n p - p))) (nI (rn cl y n p)) := by
    have kk : tK y n p = (if 8 < rn cl y n p - p then 2 else if rwI (tpk y p (rn cl y n p - p)) < 25 then 3 else 1) := by
      unfold tK tQ
      rw [if_neg (by omega), if_pos hl, eE]
    have kw : tW y n p = (if rwI (tpk y p (rn cl y n p - p)) < 25 then rwI (tpk y p (rn cl y n p - p)) else tpk y p (rn cl y n p - p)) := by
      unfold tW tQ
      rw [if_pos hl, eE]
    have ad := fun (v : Int64) (hv : (tK y n p = 1 ∨ tK y n p = 3 ∨ tK y n p = 4 ∨ tK y n p = 5) → v = lN (tW y n p)) => su_addT (R := R) h hc (v := v) (by rw [hp]; exact hv) (Q := fun I1 L1 => Q (nI (rn cl y n p)) I1 L1) (fun I1 L1 a b c => by
      have := K I1 L1 a b c
      rw [eE] at this
      exact this)
    rw [hp] at ad
    unfold wb_Tokens_scanWord_59
    simp (disch := omega) only [zi_0, zi_1, zi_2, zi_3, zi_4, zi_5, zi_6, zi_7, zi_8, zi_9, zi_10, zi_11, zi_12, zi_13, zi_14, zi_15, zi_16, zi_17, zi_18, zi_19, zi_20, zi_21, zi_22, zi_23, zi_24, zi_25, zi_26, zi_30, zi_31, zi_32, zi_34, zi_38, zi_59, zi_60, zi_61, zi_63, zi_64, zi_80, zi_96, zi_97, zi_99, zi_100, zi_122, zi_255, zi_256, zi_300, zi_398, zi_406, zi_900, zi_1000, zi_1024, zi_1624, zi_1662, zi_2030, zi_2031, zi_2068, zi_2258, zi_9999, zi_48, zi_57, zi_65536, zi_3257, zi_11483, zi_1000000, zi_729, zi_81, zi_m1, nI_add, pk_mul, nI_ltI, nI_leI, nI_eq, nI_clamp, zn_in, zn_sub1lt, zn_M, zn_Ml, zn_Mg, zn_Mle, zn_Mge, zn_sub, Nat.reduceAdd, Nat.reduceMul]
    refine ⟨fun g => ?_, fun g => ?_⟩
    · have b40 : tpk y p (rn cl y n p - p) < 2 ^ 40 := by
        have a := tpk_lt (y := y) (p := p) (m := rn cl y n p - p) (fun k hk => rn_all (by omega) (show p + k < rn cl y n p by omega))
        have b : (32 : Nat) ^ (rn cl y n p - p) ≤ 32 ^ 8 := Nat.pow_le_pow_right (by omega) g
        have c : (32 : Nat) ^ 8 = 2 ^ 40 := by decide
        omega
      refine su_resv b40 rs ?_
      have r25 := rwI_le (tpk y p (rn cl y n p - p))
      rw [if_neg (by omega)] at kk
      by_cases e : rwI (tpk y p (rn cl y n p - p)) < 25
      · rw [if_pos e]
        rw [if_pos e] at kk kw
        have a := ad (Int32.toInt64 (nI (rwI (tpk y p (rn cl y n p - p))))) (fun _ => by rw [nI_l (by omega), kw])
        rw [kk] at a
        simp (disch := omega) only [zi_0, zi_1, zi_2, zi_3, zi_4, zi_5, zi_6, zi_7, zi_8, zi_9, zi_10, zi_11, zi_12, zi_13, zi_14, zi_15, zi_16, zi_17, zi_18, zi_19, zi_20, zi_21, zi_22, zi_23, zi_24, zi_25, zi_26, zi_30, zi_31, zi_32, zi_34, zi_38, zi_59, zi_60, zi_61, zi_63, zi_64, zi_80, zi_96, zi_97, zi_99, zi_100, zi_122, zi_255, zi_256, zi_300, zi_398, zi_406, zi_900, zi_1000, zi_1024, zi_1624, zi_1662, zi_2030, zi_2031, zi_2068, zi_2258, zi_9999, zi_48, zi_57, zi_65536, zi_3257, zi_11483, zi_1000000, zi_729, zi_81, zi_m1, nI_add, pk_mul, nI_ltI, nI_leI, nI_eq, nI_clamp, zn_in, zn_sub1lt, zn_M, zn_Ml, zn_Mg, zn_Mle, zn_Mge, zn_sub, Nat.reduceAdd, Nat.reduceMul, forall_eq, true_imp_iff, false_imp_iff, and_true, true_and, not_true_eq_false, not_false_eq_true, reduceCtorEq, imp_self, eq_self, false_and, and_false, implies_true]
        exact a
      · rw [if_neg e]
        rw [if_neg e] at kk kw
        have a := ad (lN (tpk y p (rn cl y n p - p))) (fun _ => by rw [kw])
        rw [kk] at a
        simp (disch := omega) only [zi_0, zi_1, zi_2, zi_3, zi_4, zi_5, zi_6, zi_7, zi_8, zi_9, zi_10, zi_11, zi_12, zi_13, zi_14, zi_15, zi_16, zi_17, zi_18, zi_19, zi_20, zi_21, zi_22, zi_23, zi_24, zi_25, zi_26, zi_30, zi_31, zi_32, zi_34, zi_38, zi_59, zi_60, zi_61, zi_63, zi_64, zi_80, zi_96, zi_97, zi_99, zi_100, zi_122, zi_255, zi_256, zi_300, zi_398, zi_406, zi_900, zi_1000, zi_1024, zi_1624, zi_1662, zi_2030, zi_2031, zi_2068, zi_2258, zi_9999, zi_48, zi_57, zi_65536, zi_3257, zi_11483, zi_1000000, zi_729, zi_81, zi_m1, nI_add, pk_mul, nI_ltI, nI_leI, nI_eq, nI_clamp, zn_in, zn_sub1lt, zn_M, zn_Ml, zn_Mg, zn_Mle, zn_Mge, zn_sub, Nat.reduceAdd, Nat.reduceMul, forall_eq, true_imp_iff, false_imp_iff, and_true, true_and, not_true_eq_false, not_false_eq_true, reduceCtorEq, imp_self, eq_self, false_and, and_false, implies_true]
        exact a
    · rw [if_pos (by omega)] at kk
      have a := ad 0 (fun g => absurd kk (by omega))
      rw [kk] at a
      exact a
  have go : ∀ m k, k + m = rn cl y n p → p ≤ k → wl_Tokens_scanWord_8 R 2 (nI p) (nI n) Q (m + 1) I L (lN (tpk y p (k - p))) (nI k) (nI k) := by
    intro m
    induction m with
    | zero =>
      intro k hk hpk
      have ek : k = rn cl y n p := by omega
      rw [← ek] at fin
      have re := rn_end (P := cl) (y := y) (n := n) (p := p)
      rw [← ek, cl_iff] at re
      rw [wl_Tokens_scanWord_8]
      by_cases g : k < n
      · have yl := yb_lt (I 3 k)
        have hb := yb_and (I 3 k)
        rw [hy k g] at hb yl
        simp (disch := omega) only [zi_255] at hb
        simp (disch := omega) only [wp_Tokens_isLetter, hb, zi_0, zi_1, zi_2, zi_3, zi_4, zi_5, zi_6, zi_7, zi_8, zi_9, zi_10, zi_11, zi_12, zi_13, zi_14, zi_15, zi_16, zi_17, zi_18, zi_19, zi_20, zi_21, zi_22, zi_23, zi_24, zi_25, zi_26, zi_30, zi_31, zi_32, zi_34, zi_38, zi_59, zi_60, zi_61, zi_63, zi_64, zi_80, zi_96, zi_97, zi_99, zi_100, zi_122, zi_255, zi_256, zi_300, zi_398, zi_406, zi_900, zi_1000, zi_1024, zi_1624, zi_1662, zi_2030, zi_2031, zi_2068, zi_2258, zi_9999, zi_48, zi_57, zi_65536, zi_3257, zi_11483, zi_1000000, zi_729, zi_81, zi_m1, nI_add, pk_mul, nI_ltI, nI_leI, nI_eq, nI_clamp, zn_in, zn_sub1lt, zn_M, zn_Ml, zn_Mg, zn_Mle, zn_Mge, zn_sub, Nat.reduceAdd, Nat.reduceMul, forall_eq, true_imp_iff, false_imp_iff, and_true, true_and, not_true_eq_false, not_false_eq_true, reduceCtorEq, imp_self, eq_self, false_and, and_false, implies_true]
        repeat' (first | omega | with_reducible refine And.intro ?_ ?_ | with_reducible intro g)
        all_goals first | exact fin | (exfalso; omega)
      · simp (disch := omega) only [zi_0, zi_1, zi_2, zi_3, zi_4, zi_5, zi_6, zi_7, zi_8, zi_9, zi_10, zi_11, zi_12, zi_13, zi_14, zi_15, zi_16, zi_17, zi_18, zi_19, zi_20, zi_21, zi_22, zi_23, zi_24, zi_25, zi_26, zi_30, zi_31, zi_32, zi_34, zi_38, zi_59, zi_60, zi_61, zi_63, zi_64, zi_80, zi_96, zi_97, zi_99, zi_100, zi_122, zi_255, zi_256, zi_300, zi_398, zi_406, zi_900, zi_1000, zi_1024, zi_1624, zi_1662, zi_2030, zi_2031, zi_2068, zi_2258, zi_9999, zi_48, zi_57, zi_65536, zi_3257, zi_11483, zi_1000000, zi_729, zi_81, zi_m1, nI_add, pk_mul, nI_ltI, nI_leI, nI_eq, nI_clamp, zn_in, zn_sub1lt, zn_M, zn_Ml, zn_Mg, zn_Mle, zn_Mge, zn_sub, Nat.reduceAdd, Nat.reduceMul]
        exact ⟨fun _ => fin, fun x => absurd (by omega) x⟩
    | succ m ih =>
      intro k hk hpk
      have g : k < n := by omega
      have ck := cl_iff.1 (rn_all (P := cl) (y := y) (n := n) hpk (show k < rn cl y n p by omega))
      have hb := yb_and (I 3 k)
      rw [hy k g] at hb
      simp (disch := omega) only [zi_255] at hb
      have nx := ih (k + 1) (by omega) (by omega)
      have ev : lN (tpk y p (k - p)) * lN 32 + lN (y k - 97 + 1) = lN (tpk y p (k + 1 - p)) := by
        rw [zk_mul, zk_add, show k + 1 - p = (k - p) + 1 by omega]
        show _ = lN (32 * tpk y p (k - p) + (y (p + (k - p)) - 96))
        rw [show p + (k - p) = k by omega]
        congr 1
        omega
      rw [wl_Tokens_scanWord_8]
      simp (disch := omega) only [wp_Tokens_isLetter, wp_Tokens_withLetter, hb, zj_32, nI_l, ev, zi_0, zi_1, zi_2, zi_3, zi_4, zi_5, zi_6, zi_7, zi_8, zi_9, zi_10, zi_11, zi_12, zi_13, zi_14, zi_15, zi_16, zi_17, zi_18, zi_19, zi_20, zi_21, zi_22, zi_23, zi_24, zi_25, zi_26, zi_30, zi_31, zi_32, zi_34, zi_38, zi_59, zi_60, zi_61, zi_63, zi_64, zi_80, zi_96, zi_97, zi_99, zi_100, zi_122, zi_255, zi_256, zi_300, zi_398, zi_406, zi_900, zi_1000, zi_1024, zi_1624, zi_1662, zi_2030, zi_2031, zi_2068, zi_2258, zi_9999, zi_48, zi_57, zi_65536, zi_3257, zi_11483, zi_1000000, zi_729, zi_81, zi_m1, nI_add, pk_mul, nI_ltI, nI_leI, nI_eq, nI_clamp, zn_in, zn_sub1lt, zn_M, zn_Ml, zn_Mg, zn_Mle, zn_Mge, zn_sub, Nat.reduceAdd, Nat.reduceMul, forall_eq, true_imp_iff, false_imp_iff, and_true, true_and, not_true_eq_false, not_false_eq_true, reduceCtorEq, imp_self, eq_self, false_and, and_false, implies_true]
      repeat' (first | omega | with_reducible refine And.intro ?_ ?_ | with_reducible intro g)
      all_goals first | exact nx | (exfalso; omega)
  have := go (rn cl y n p - p) p (by omega) (Nat.le_refl _)
  rw [Nat.sub_self] at this
  exact ⟨_, this⟩
theorem nu_lt {m : Nat} (h : ∀ k, k < m → cdg (y (p + k)) = true) : nu y p m < 10 ^ m := by
  induction m with
  | zero => exact Nat.one_pos
  | succ m ih =>
    have a := ih (fun k hk => h k (by omega))
    have b := cdg_iff.1 (h m (by omega))
    show 10 * nu y p m + (y (p + m) - 48) < 10 ^ (m + 1)
    rw [Nat.pow_succ]
    omega
theorem su_scanN (h : tt_U y n cnt I L) (hc : cnt ≤ 900) (hn : n ≤ 900) (hy : ∀ k, k < n → yb (I 3 k) = y k) (hp : tS y n cnt = p) (hpn : p < n) (hl : cl (y p) = false) (hd : cdg (y p) = true) {Q : Int32 → am_TI → am_TL → Prop} (K : ∀ I1 L1, tt_U y n (cnt + 1) I1 L1 → ft_U I I1 → ft_L L L1 → Q (nI (tE y n p)) I1 L1) : wp_Tokens_scanNumber I L R 2 (nI p) (nI n) Q := by
  have hl' : ¬ cl (y p) = true := by rw [hl]; decide
  have eE : tE y n p = rn cdg y n p := by unfold tE; rw [if_neg (by omega), if_neg hl', if_pos hd]
  have en : rn cdg y n p ≤ n := rn_le (by omega)
  have ep : p < rn cdg y n p := rn_lt hpn hd
  have fin : wb_Tokens_scanNumber_63 R 2 (nI p) (nI n) Q I L (nI (nu y p (rn cdg y n p - p))) (nI (rn cdg y n p)) := by
    have kk : tK y n p = (if 4 < rn cdg y n p - p then 6 else 4) := by
      unfold tK
      rw [if_neg (by omega), if_neg hl', if_pos hd, eE]
    have kw : tW y n p = nu y p (rn cdg y n p - p) := by
      unfold tW
      rw [if_neg hl', if_pos hd, eE]
    have ad := fun (v : Int64) (hv : (tK y n p = 1 ∨ tK y n p = 3 ∨ tK y n p = 4 ∨ tK y n p = 5) → v = lN (tW y n p)) => su_addT (R := R) h hc (v := v) (by rw [hp]; exact hv) (Q := fun I1 L1 => Q (nI (rn cdg y n p)) I1 L1) (fun I1 L1 a b c => by
      have := K I1 L1 a b c
      rw [eE] at this
      exact this)
    rw [hp] at ad
    unfold wb_Tokens_scanNumber_63 wb_Tokens_scanNumber_78
    simp (disch := omega) only [zi_0, zi_1, zi_2, zi_3, zi_4, zi_5, zi_6, zi_7, zi_8, zi_9, zi_10, zi_11, zi_12, zi_13, zi_14, zi_15, zi_16, zi_17, zi_18, zi_19, zi_20, zi_21, zi_22, zi_23, zi_24, zi_25, zi_26, zi_30, zi_31, zi_32, zi_34, zi_38, zi_59, zi_60, zi_61, zi_63, zi_64, zi_80, zi_96, zi_97, zi_99, zi_100, zi_122, zi_255, zi_256, zi_300, zi_398, zi_406, zi_900, zi_1000, zi_1024, zi_1624, zi_1662, zi_2030, zi_2031, zi_2068, zi_2258, zi_9999, zi_48, zi_57, zi_65536, zi_3257, zi_11483, zi_1000000, zi_729, zi_81, zi_m1, nI_add, pk_mul, nI_ltI, nI_leI, nI_eq, nI_clamp, zn_in, zn_sub1lt, zn_M, zn_Ml, zn_Mg, zn_Mle, zn_Mge, zn_sub, Nat.reduceAdd, Nat.reduceMul]
    refine ⟨fun g => ?_, fun g => ?_⟩
    · rw [if_pos g] at kk
      have a := ad (Int32.toInt64 (nI (nu y p (rn cdg y n p - p)))) (fun g => absurd kk (by omega))
      rw [kk] at a
      exact a
    · rw [if_neg g] at kk
      have a := nu_lt (y := y) (p := p) (m := rn cdg y n p - p) (fun k hk => rn_all (by omega) (show p + k < rn cdg y n p by omega))
      have b : (10 : Nat) ^ (rn cdg y n p - p) ≤ 10 ^ 4 := Nat.pow_le_pow_right (by omega) (by omega)
      have a := ad (Int32.toInt64 (nI (nu y p (rn cdg y n p - p)))) (fun _ => by rw [nI_l (by omega), kw])
      rw [kk] at a
      exact a
  have go : ∀ m k, k + m = rn cdg y n p → p ≤ k → wl_Tokens_scanNumber_8 R 2 (nI p) (nI n) Q (m + 1) I L (nI (nu y p (k - p))) (nI k) (nI k) := by
    intro m
    induction m with
    | zero =>
      intro k hk hpk
      have ek : k = rn cdg y n p := by omega
      rw [← ek] at fin
      have re := rn_end (P := cdg) (y := y) (n := n) (p := p)
      rw [← ek, cdg_iff] at re
      rw [wl_Tokens_scanNumber_8]
      by_cases g : k < n
      · have yl := yb_lt (I 3 k)
        have hb := yb_and (I 3 k)
        rw [hy k g] at hb yl
        simp (disch := omega) only [zi_255] at hb
        simp (disch := omega) only [wp_Tokens_isDigit, hb, zi_0, zi_1, zi_2, zi_3, zi_4, zi_5, zi_6, zi_7, zi_8, zi_9, zi_10, zi_11, zi_12, zi_13, zi_14, zi_15, zi_16, zi_17, zi_18, zi_19, zi_20, zi_21, zi_22, zi_23, zi_24, zi_25, zi_26, zi_30, zi_31, zi_32, zi_34, zi_38, zi_59, zi_60, zi_61, zi_63, zi_64, zi_80, zi_96, zi_97, zi_99, zi_100, zi_122, zi_255, zi_256, zi_300, zi_398, zi_406, zi_900, zi_1000, zi_1024, zi_1624, zi_1662, zi_2030, zi_2031, zi_2068, zi_2258, zi_9999, zi_48, zi_57, zi_65536, zi_3257, zi_11483, zi_1000000, zi_729, zi_81, zi_m1, nI_add, pk_mul, nI_ltI, nI_leI, nI_eq, nI_clamp, zn_in, zn_sub1lt, zn_M, zn_Ml, zn_Mg, zn_Mle, zn_Mge, zn_sub, Nat.reduceAdd, Nat.reduceMul, forall_eq, true_imp_iff, false_imp_iff, and_true, true_and, not_true_eq_false, not_false_eq_true, reduceCtorEq, imp_self, eq_self, false_and, and_false, implies_true]
        repeat' (first | omega | with_reducible refine And.intro ?_ ?_ | with_reducible intro g)
        all_goals first | exact fin | (exfalso; omega)
      · simp (disch := omega) only [zi_0, zi_1, zi_2, zi_3, zi_4, zi_5, zi_6, zi_7, zi_8, zi_9, zi_10, zi_11, zi_12, zi_13, zi_14, zi_15, zi_16, zi_17, zi_18, zi_19, zi_20, zi_21, zi_22, zi_23, zi_24, zi_25, zi_26, zi_30, zi_31, zi_32, zi_34, zi_38, zi_59, zi_60, zi_61, zi_63, zi_64, zi_80, zi_96, zi_97, zi_99, zi_100, zi_122, zi_255, zi_256, zi_300, zi_398, zi_406, zi_900, zi_1000, zi_1024, zi_1624, zi_1662, zi_2030, zi_2031, zi_2068, zi_2258, zi_9999, zi_48, zi_57, zi_65536, zi_3257, zi_11483, zi_1000000, zi_729, zi_81, zi_m1, nI_add, pk_mul, nI_ltI, nI_leI, nI_eq, nI_clamp, zn_in, zn_sub1lt, zn_M, zn_Ml, zn_Mg, zn_Mle, zn_Mge, zn_sub, Nat.reduceAdd, Nat.reduceMul]
        exact ⟨fun _ => fin, fun x => absurd (by omega) x⟩
    | succ m ih =>
      intro k hk hpk
      have g : k < n := by omega
      have ck := cdg_iff.1 (rn_all (P := cdg) (y := y) (n := n) hpk (show k < rn cdg y n p by omega))
      have hb := yb_and (I 3 k)
      rw [hy k g] at hb
      simp (disch := omega) only [zi_255] at hb
      have nx := ih (k + 1) (by omega) (by omega)
      have ev : nu y p (k + 1 - p) = nu y p (k - p) * 10 + (y k - 48) := by
        rw [show k + 1 - p = (k - p) + 1 by omega]
        show 10 * nu y p (k - p) + (y (p + (k - p)) - 48) = _
        rw [show p + (k - p) = k by omega]
        omega
      rw [ev] at nx
      rw [wl_Tokens_scanNumber_8]
      simp (disch := omega) only [wp_Tokens_isDigit, hb, zi_0, zi_1, zi_2, zi_3, zi_4, zi_5, zi_6, zi_7, zi_8, zi_9, zi_10, zi_11, zi_12, zi_13, zi_14, zi_15, zi_16, zi_17, zi_18, zi_19, zi_20, zi_21, zi_22, zi_23, zi_24, zi_25, zi_26, zi_30, zi_31, zi_32, zi_34, zi_38, zi_59, zi_60, zi_61, zi_63, zi_64, zi_80, zi_96, zi_97, zi_99, zi_100, zi_122, zi_255, zi_256, zi_300, zi_398, zi_406, zi_900, zi_1000, zi_1024, zi_1624, zi_1662, zi_2030, zi_2031, zi_2068, zi_2258, zi_9999, zi_48, zi_57, zi_65536, zi_3257, zi_11483, zi_1000000, zi_729, zi_81, zi_m1, nI_add, pk_mul, nI_ltI, nI_leI, nI_eq, nI_clamp, zn_in, zn_sub1lt, zn_M, zn_Ml, zn_Mg, zn_Mle, zn_Mge, zn_sub, Nat.reduceAdd, Nat.reduceMul, forall_eq, true_imp_iff, false_imp_iff, and_true, true_and, not_true_eq_false, not_false_eq_true, reduceCtorEq, imp_self, eq_self, false_and, and_false, implies_true]
      repeat' (first | omega | with_reducible refine And.intro ?_ ?_ | with_reducible intro g)
      all_goals first | exact nx | (exfalso; omega)
  have := go (rn cdg y n p - p) p (by omega) (Nat.le_refl _)
  rw [Nat.sub_self] at this
  exact ⟨_, this⟩
end
