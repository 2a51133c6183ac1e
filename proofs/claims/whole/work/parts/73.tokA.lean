/-! texts: the class's scan, its steps -/
section
variable {y : Nat → Nat} {n p cnt : Nat} {I I1 I2 : am_TI} {L L1 L2 : am_TL} {R : am_TR}
theorem rn_b1 (hpn : p < n) (hb : cb (y p) = true) : rn cb y n p = rn cb y n (p + 1) := rn_yes hpn hb
theorem su_scanS (h : tt_U y n cnt I L) (hc : cnt ≤ 900) (hyl : y p < 256) (hp : tS y n cnt = p) (hpn : p < n) (hl : cl (y p) = false) (hd : cdg (y p) = false) (hb : cb (y p) = false) {Q : am_TI → am_TL → Prop} (K : ∀ I1 L1, tt_U y n (cnt + 1) I1 L1 → ft_U I I1 → ft_L L L1 → Q I1 L1) : wp_Tokens_scanSign I L R 2 (nI p) (nI (y p)) Q := by
  have hl' : ¬ cl (y p) = true := by rw [hl]; decide
  have hd' : ¬ cdg (y p) = true := by rw [hd]; decide
  have hb' : ¬ cb (y p) = true := by rw [hb]; decide
  rw [cb_iff] at hb'
  have kw : tW y n p = y p := by
    unfold tW
    rw [if_neg hl', if_neg hd']
  have kk : tK y n p = if cs (y p) = true then 5 else 6 := by
    unfold tK
    rw [if_neg (by omega), if_neg hl', if_neg hd']
  have ad := fun (v : Int64) (hv : (tK y n p = 1 ∨ tK y n p = 3 ∨ tK y n p = 4 ∨ tK y n p = 5) → v = lN (tW y n p)) => su_addT (R := R) h hc (v := v) (by rw [hp]; exact hv) K
  rw [hp] at ad
  have a := ad (Int32.toInt64 (nI (y p))) (fun _ => by rw [nI_l (by omega), kw])
  have z61 : (61 : Int32) = nI 61 := rfl
  by_cases g : cs (y p) = true
  · rw [if_pos g] at kk
    rw [kk] at a
    rw [cs_iff] at g
    simp (disch := omega) only [wp_Tokens_scanSign, wb_Tokens_scanSign_24, zi_62, z61, zi_0, zi_1, zi_2, zi_3, zi_4, zi_5, zi_6, zi_7, zi_8, zi_9, zi_10, zi_11, zi_12, zi_13, zi_14, zi_15, zi_16, zi_17, zi_18, zi_19, zi_20, zi_21, zi_22, zi_23, zi_24, zi_25, zi_26, zi_30, zi_31, zi_32, zi_34, zi_38, zi_59, zi_60, zi_61, zi_63, zi_64, zi_80, zi_96, zi_97, zi_99, zi_100, zi_122, zi_255, zi_256, zi_300, zi_398, zi_406, zi_900, zi_1000, zi_1024, zi_1624, zi_1662, zi_2030, zi_2031, zi_2068, zi_2258, zi_9999, zi_48, zi_57, zi_65536, zi_3257, zi_11483, zi_1000000, zi_729, zi_81, zi_m1, nI_add, pk_mul, nI_ltI, nI_leI, nI_eq, nI_clamp, zn_in, zn_sub1lt, zn_M, zn_Ml, zn_Mg, zn_Mle, zn_Mge, zn_sub, Nat.reduceAdd, Nat.reduceMul]
    exact ⟨fun _ => a, fun _ => ⟨fun _ => a, fun _ => ⟨fun _ => a, fun _ => ⟨fun _ => a, fun _ => (by omega)⟩⟩⟩⟩
  · rw [if_neg g] at kk
    rw [kk] at a
    rw [cs_iff] at g
    simp (disch := omega) only [wp_Tokens_scanSign, wb_Tokens_scanSign_24, zi_62, z61, zi_0, zi_1, zi_2, zi_3, zi_4, zi_5, zi_6, zi_7, zi_8, zi_9, zi_10, zi_11, zi_12, zi_13, zi_14, zi_15, zi_16, zi_17, zi_18, zi_19, zi_20, zi_21, zi_22, zi_23, zi_24, zi_25, zi_26, zi_30, zi_31, zi_32, zi_34, zi_38, zi_59, zi_60, zi_61, zi_63, zi_64, zi_80, zi_96, zi_97, zi_99, zi_100, zi_122, zi_255, zi_256, zi_300, zi_398, zi_406, zi_900, zi_1000, zi_1024, zi_1624, zi_1662, zi_2030, zi_2031, zi_2068, zi_2258, zi_9999, zi_48, zi_57, zi_65536, zi_3257, zi_11483, zi_1000000, zi_729, zi_81, zi_m1, nI_add, pk_mul, nI_ltI, nI_leI, nI_eq, nI_clamp, zn_in, zn_sub1lt, zn_M, zn_Ml, zn_Mg, zn_Mle, zn_Mge, zn_sub, Nat.reduceAdd, Nat.reduceMul]
    exact ⟨fun x => absurd x (by omega), fun _ => ⟨fun x => absurd x (by omega), fun _ => ⟨fun x => absurd x (by omega), fun _ => ⟨fun x => absurd x (by omega), fun _ => ⟨fun x => absurd x (by omega), fun _ => ⟨fun x => absurd x (by omega), fun _ => a⟩⟩⟩⟩⟩⟩
theorem su_scan (hn : n ≤ 900) (hy : ∀ k, k < n → yb (I 3 k) = y k) (rs : rs_U L) {Q : am_TI → am_TL → Prop} (K : ∀ I1 L1 cnt, tt_U y n cnt I1 L1 → 1 ≤ cnt → cnt ≤ 901 → tS y n (cnt - 1) = n → ft_U I I1 → ft_L L L1 → Q I1 L1) : wp_Tokens_scanAll I L R 2 (nI n) Q := by
  have go : ∀ m next i cnt I1 L1, n - next ≤ m → next ≤ n → i ≤ next → cnt ≤ next → tt_U y n cnt I1 L1 → rn cb y n next = tS y n cnt → ft_U I I1 → ft_L L L1 → wl_Tokens_scanAll_9 R 2 (nI n) Q (m + 1) I1 L1 (nI next) (nI i) := by
    intro m
    have last : ∀ cnt I1 L1, cnt ≤ n → tt_U y n cnt I1 L1 → rn cb y n n = tS y n cnt → ft_U I I1 → ft_L L L1 → wb_Tokens_scanAll_85 R 2 (nI n) Q I1 L1 := by
      intro cnt I1 L1 hc t hr f l
      rw [rn_no (by omega)] at hr
      have k0 : tK y n (tS y n cnt) = 0 := by unfold tK; rw [← hr, if_pos (Nat.le_refl _)]
      have a := su_addT (R := R) t (by omega) (v := 0) (fun x => absurd k0 (by omega)) (Q := fun I2 L1 => Q I2 L1) (fun I2 L2 t2 f2 l2 => K I2 L2 (cnt + 1) t2 (by omega) (by omega) hr.symm (f.trans f2) (l.trans l2))
      rw [k0, ← hr] at a
      exact a
    induction m with
    | zero =>
      intro next i cnt I1 L1 hm hx hi hc t hr f l
      have en : next = n := by omega
      subst en
      have a := last cnt I1 L1 hc t hr f l
      rw [wl_Tokens_scanAll_9]
      simp (disch := omega) only [zi_0, zi_1, zi_2, zi_3, zi_4, zi_5, zi_6, zi_7, zi_8, zi_9, zi_10, zi_11, zi_12, zi_13, zi_14, zi_15, zi_16, zi_17, zi_18, zi_19, zi_20, zi_21, zi_22, zi_23, zi_24, zi_25, zi_26, zi_30, zi_31, zi_32, zi_34, zi_38, zi_59, zi_60, zi_61, zi_63, zi_64, zi_80, zi_96, zi_97, zi_99, zi_100, zi_122, zi_255, zi_256, zi_300, zi_398, zi_406, zi_900, zi_1000, zi_1024, zi_1624, zi_1662, zi_2030, zi_2031, zi_2068, zi_2258, zi_9999, zi_48, zi_57, zi_65536, zi_3257, zi_11483, zi_1000000, zi_729, zi_81, zi_m1, nI_add, pk_mul, nI_ltI, nI_leI, nI_eq, nI_clamp, zn_in, zn_sub1lt, zn_M, zn_Ml, zn_Mg, zn_Mle, zn_Mge, zn_sub, Nat.reduceAdd, Nat.reduceMul]
      exact ⟨fun _ => a, fun _ => ⟨fun _ => a, fun x => absurd (by omega) x⟩⟩
    | succ m ih =>
      intro next i cnt I1 L1 hm hx hi hc t hr f l
      by_cases en : next = n
      · subst en
        have a := last cnt I1 L1 hc t hr f l
        rw [wl_Tokens_scanAll_9]
        simp (disch := omega) only [zi_0, zi_1, zi_2, zi_3, zi_4, zi_5, zi_6, zi_7, zi_8, zi_9, zi_10, zi_11, zi_12, zi_13, zi_14, zi_15, zi_16, zi_17, zi_18, zi_19, zi_20, zi_21, zi_22, zi_23, zi_24, zi_25, zi_26, zi_30, zi_31, zi_32, zi_34, zi_38, zi_59, zi_60, zi_61, zi_63, zi_64, zi_80, zi_96, zi_97, zi_99, zi_100, zi_122, zi_255, zi_256, zi_300, zi_398, zi_406, zi_900, zi_1000, zi_1024, zi_1624, zi_1662, zi_2030, zi_2031, zi_2068, zi_2258, zi_9999, zi_48, zi_57, zi_65536, zi_3257, zi_11483, zi_1000000, zi_729, zi_81, zi_m1, nI_add, pk_mul, nI_ltI, nI_leI, nI_eq, nI_clamp, zn_in, zn_sub1lt, zn_M, zn_Ml, zn_Mg, zn_Mle, zn_Mge, zn_sub, Nat.reduceAdd, Nat.reduceMul]
        exact ⟨fun _ => a, fun _ => ⟨fun _ => a, fun x => absurd (by omega) x⟩⟩
      have hlt : next < n := by omega
      have i3 : ∀ k, I1 3 k = I 3 k := fun k => f 3 k (by omega) (by omega) (by omega)
      have hy1 : ∀ k, k < n → yb (I1 3 k) = y k := fun k hk => by rw [i3]; exact hy k hk
      have rs1 : rs_U L1 := fun j hj => by rw [l 4 (by omega)]; exact rs j hj
      have yl := yb_lt (I1 3 next)
      have hb := yb_and (I1 3 next)
      rw [hy1 next hlt] at hb yl
      simp (disch := omega) only [zi_255] at hb
      rw [wl_Tokens_scanAll_9]
      simp (disch := omega) only [wp_Tokens_isLetter, wp_Tokens_isDigit, hb, zi_0, zi_1, zi_2, zi_3, zi_4, zi_5, zi_6, zi_7, zi_8, zi_9, zi_10, zi_11, zi_12, zi_13, zi_14, zi_15, zi_16, zi_17, zi_18, zi_19, zi_20, zi_21, zi_22, zi_23, zi_24, zi_25, zi_26, zi_30, zi_31, zi_32, zi_34, zi_38, zi_59, zi_60, zi_61, zi_63, zi_64, zi_80, zi_96, zi_97, zi_99, zi_100, zi_122, zi_255, zi_256, zi_300, zi_398, zi_406, zi_900, zi_1000, zi_1024, zi_1624, zi_1662, zi_2030, zi_2031, zi_2068, zi_2258, zi_9999, zi_48, zi_57, zi_65536, zi_3257, zi_11483, zi_1000000, zi_729, zi_81, zi_m1, nI_add, pk_mul, nI_ltI, nI_leI, nI_eq, nI_clamp, zn_in, zn_sub1lt, zn_M, zn_Ml, zn_Mg, zn_Mle, zn_Mge, zn_sub, Nat.reduceAdd, Nat.reduceMul]
      refine ⟨fun x => absurd x (by omega), fun _ => ⟨fun x => absurd x (by omega), fun _ => ⟨by omega, ?_⟩⟩⟩
      by_cases gl : cl (y next) = true
      · have nb : ¬ cb (y next) = true := by rw [cb_iff]; rw [cl_iff] at gl; omega
        rw [rn_no (fun x => nb x.2)] at hr
        have e1 : next < tE y n next := tE_gt hlt
        have e2 : tE y n next ≤ n := tE_le (by omega)
        have a := su_scanW (R := R) t (by omega) hn hy1 rs1 hr.symm hlt gl (Q := fun r4 I5 L4 => wl_Tokens_scanAll_9 R 2 (nI n) Q (m + 1) I5 L4 r4 (nI (i + 1))) (fun I2 L2 t2 f2 l2 => ih _ (i + 1) (cnt + 1) I2 L2 (by omega) (by omega) (by omega) (by omega) t2 (by rw [hr]; rfl) (f.trans f2) (l.trans l2))
        rw [cl_iff] at gl
        exact ⟨fun x => absurd x (by omega), fun _ => ⟨fun x => absurd x (by omega), fun _ => ⟨fun x => (by cases x), fun _ => a⟩⟩⟩
      have gl' : cl (y next) = false := by simpa using gl
      have rest : wp_Tokens_isDigit I1 L1 R (nI (y next)) (fun r2 => (r2 = false → wp_Tokens_scanSign I1 L1 R 2 (nI next) (nI (y next)) (fun I3 L2 => wl_Tokens_scanAll_9 R 2 (nI n) Q (m + 1) I3 L2 (nI (next + 1)) (nI (i + 1)))) ∧ (r2 = true → wp_Tokens_scanNumber I1 L1 R 2 (nI next) (nI n) (fun r3 I4 L3 => wl_Tokens_scanAll_9 R 2 (nI n) Q (m + 1) I4 L3 r3 (nI (i + 1))))) := by
        simp (disch := omega) only [wp_Tokens_isDigit, zi_0, zi_1, zi_2, zi_3, zi_4, zi_5, zi_6, zi_7, zi_8, zi_9, zi_10, zi_11, zi_12, zi_13, zi_14, zi_15, zi_16, zi_17, zi_18, zi_19, zi_20, zi_21, zi_22, zi_23, zi_24, zi_25, zi_26, zi_30, zi_31, zi_32, zi_34, zi_38, zi_59, zi_60, zi_61, zi_63, zi_64, zi_80, zi_96, zi_97, zi_99, zi_100, zi_122, zi_255, zi_256, zi_300, zi_398, zi_406, zi_900, zi_1000, zi_1024, zi_1624, zi_1662, zi_2030, zi_2031, zi_2068, zi_2258, zi_9999, zi_48, zi_57, zi_65536, zi_3257, zi_11483, zi_1000000, zi_729, zi_81, zi_m1, nI_add, pk_mul, nI_ltI, nI_leI, nI_eq, nI_clamp, zn_in, zn_sub1lt, zn_M, zn_Ml, zn_Mg, zn_Mle, zn_Mge, zn_sub, Nat.reduceAdd, Nat.reduceMul]
        by_cases gd : cdg (y next) = true
        · have nb : ¬ cb (y next) = true := by rw [cb_iff]; rw [cdg_iff] at gd; omega
          rw [rn_no (fun x => nb x.2)] at hr
          have e1 : next < tE y n next := tE_gt hlt
          have e2 : tE y n next ≤ n := tE_le (by omega)
          have a := su_scanN (R := R) t (by omega) hn hy1 hr.symm hlt gl' gd (Q := fun r4 I5 L4 => wl_Tokens_scanAll_9 R 2 (nI n) Q (m + 1) I5 L4 r4 (nI (i + 1))) (fun I2 L2 t2 f2 l2 => ih _ (i + 1) (cnt + 1) I2 L2 (by omega) (by omega) (by omega) (by omega) t2 (by rw [hr]; rfl) (f.trans f2) (l.trans l2))
          rw [cdg_iff] at gd
          exact ⟨fun x => absurd x (by omega), fun _ => ⟨fun x => absurd x (by omega), fun _ => ⟨fun x => (by cases x), fun _ => a⟩⟩⟩
        have gd' : cdg (y next) = false := by simpa using gd
        have a : wp_Tokens_scanSign I1 L1 R 2 (nI next) (nI (y next)) (fun I3 L2 => wl_Tokens_scanAll_9 R 2 (nI n) Q (m + 1) I3 L2 (nI (next + 1)) (nI (i + 1))) := by
          by_cases gb : cb (y next) = true
          · have nx := ih (next + 1) (i + 1) cnt I1 L1 (by omega) (by omega) (by omega) (by omega) t (by rw [← rn_b1 hlt gb]; exact hr) f l
            have z61 : (61 : Int32) = nI 61 := rfl
            rw [cb_iff] at gb
            simp (disch := omega) only [wp_Tokens_scanSign, wb_Tokens_scanSign_24, zi_62, z61, zi_0, zi_1, zi_2, zi_3, zi_4, zi_5, zi_6, zi_7, zi_8, zi_9, zi_10, zi_11, zi_12, zi_13, zi_14, zi_15, zi_16, zi_17, zi_18, zi_19, zi_20, zi_21, zi_22, zi_23, zi_24, zi_25, zi_26, zi_30, zi_31, zi_32, zi_34, zi_38, zi_59, zi_60, zi_61, zi_63, zi_64, zi_80, zi_96, zi_97, zi_99, zi_100, zi_122, zi_255, zi_256, zi_300, zi_398, zi_406, zi_900, zi_1000, zi_1024, zi_1624, zi_1662, zi_2030, zi_2031, zi_2068, zi_2258, zi_9999, zi_48, zi_57, zi_65536, zi_3257, zi_11483, zi_1000000, zi_729, zi_81, zi_m1, nI_add, pk_mul, nI_ltI, nI_leI, nI_eq, nI_clamp, zn_in, zn_sub1lt, zn_M, zn_Ml, zn_Mg, zn_Mle, zn_Mge, zn_sub, Nat.reduceAdd, Nat.reduceMul]
            exact ⟨fun x => absurd x (by omega), fun _ => ⟨fun x => absurd x (by omega), fun _ => ⟨fun x => absurd x (by omega), fun _ => ⟨fun x => absurd x (by omega), fun _ => ⟨fun _ => nx, fun _ => ⟨fun _ => nx, fun x => absurd gb (by omega)⟩⟩⟩⟩⟩⟩
          · have gb' : cb (y next) = false := by simpa using gb
            rw [rn_no (fun x => gb x.2)] at hr
            have e1 : tE y n next = next + 1 := by unfold tE; rw [if_neg (by omega), if_neg gl, if_neg gd]
            exact su_scanS (R := R) t (by omega) yl hr.symm hlt gl' gd' gb' (fun I2 L2 t2 f2 l2 => ih (next + 1) (i + 1) (cnt + 1) I2 L2 (by omega) (by omega) (by omega) (by omega) t2 (by
              show _ = tN y n (tS y n cnt)
              rw [← hr, tN, e1]) (f.trans f2) (l.trans l2))
        rw [cdg_iff] at gd
        exact ⟨fun _ => ⟨fun _ => a, fun x => (by cases x)⟩, fun _ => ⟨fun _ => ⟨fun _ => a, fun x => (by cases x)⟩, fun x => absurd gd (by omega)⟩⟩
      simp (disch := omega) only [wp_Tokens_isDigit, zi_0, zi_1, zi_2, zi_3, zi_4, zi_5, zi_6, zi_7, zi_8, zi_9, zi_10, zi_11, zi_12, zi_13, zi_14, zi_15, zi_16, zi_17, zi_18, zi_19, zi_20, zi_21, zi_22, zi_23, zi_24, zi_25, zi_26, zi_30, zi_31, zi_32, zi_34, zi_38, zi_59, zi_60, zi_61, zi_63, zi_64, zi_80, zi_96, zi_97, zi_99, zi_100, zi_122, zi_255, zi_256, zi_300, zi_398, zi_406, zi_900, zi_1000, zi_1024, zi_1624, zi_1662, zi_2030, zi_2031, zi_2068, zi_2258, zi_9999, zi_48, zi_57, zi_65536, zi_3257, zi_11483, zi_1000000, zi_729, zi_81, zi_m1, nI_add, pk_mul, nI_ltI, nI_leI, nI_eq, nI_clamp, zn_in, zn_sub1lt, zn_M, zn_Ml, zn_Mg, zn_Mle, zn_Mge, zn_sub, Nat.reduceAdd, Nat.reduceMul] at rest
      rw [cl_iff] at gl
      exact ⟨fun _ => ⟨fun _ => rest, fun x => (by cases x)⟩, fun _ => ⟨fun _ => ⟨fun _ => rest, fun x => (by cases x)⟩, fun x => absurd gl (by omega)⟩⟩
  unfold wp_Tokens_scanAll
  simp (disch := omega) only [zi_0, zi_1, zi_2, zi_3, zi_4, zi_5, zi_6, zi_7, zi_8, zi_9, zi_10, zi_11, zi_12, zi_13, zi_14, zi_15, zi_16, zi_17, zi_18, zi_19, zi_20, zi_21, zi_22, zi_23, zi_24, zi_25, zi_26, zi_30, zi_31, zi_32, zi_34, zi_38, zi_59, zi_60, zi_61, zi_63, zi_64, zi_80, zi_96, zi_97, zi_99, zi_100, zi_122, zi_255, zi_256, zi_300, zi_398, zi_406, zi_900, zi_1000, zi_1024, zi_1624, zi_1662, zi_2030, zi_2031, zi_2068, zi_2258, zi_9999, zi_48, zi_57, zi_65536, zi_3257, zi_11483, zi_1000000, zi_729, zi_81, zi_m1, nI_add, pk_mul, nI_ltI, nI_leI, nI_eq, nI_clamp, zn_in, zn_sub1lt, zn_M, zn_Ml, zn_Mg, zn_Mle, zn_Mge, zn_sub, Nat.reduceAdd, Nat.reduceMul, forall_eq, true_imp_iff, false_imp_iff, and_true, true_and, not_true_eq_false, not_false_eq_true, reduceCtorEq, imp_self, eq_self, false_and, and_false, implies_true]
  refine ⟨n + 1, go n 0 0 0 _ L (by omega) (by omega) (by omega) (by omega) ⟨am_u2_at _ _ _ _, fun j hj => absurd hj (by omega)⟩ rfl (fun r k a b c => by unfold am_u2; rw [if_neg c]) (fun _ _ => rfl)⟩
/-- the class is at a token -/
def tk_U (y : Nat → Nat) (n p : Nat) (I : am_TI) (L : am_TL) : Prop := ∃ cnt i, tt_U y n cnt I L ∧ cnt ≤ 901 ∧ i < cnt ∧ tS y n (cnt - 1) = n ∧ p = tS y n i ∧ I 2 6 = nI i ∧ I 2 8 = nI (tK y n p) ∧ I 2 9 = (if tK y n p = 3 then nI (rwI (tQ y n p)) else nM)
def fa_U (I I1 : am_TI) : Prop := ∀ r k, ¬ (r = 2 ∧ (k = 6 ∨ k = 8 ∨ k = 9)) → I1 r k = I r k
theorem tK_lt : tK y n p < 7 := by
  unfold tK
  repeat' split
  all_goals omega
theorem tW_3 (h : tK y n p = 3) : tW y n p = rwI (tQ y n p) ∧ rwI (tQ y n p) < 25 := by
  unfold tK at h
  unfold tW
  split at h
  · omega
  · split at h
    · next g =>
      rw [if_pos g]
      split at h
      · omega
      · split at h
        · next e => exact ⟨if_pos e, e⟩
        · omega
    · split at h
      · split at h <;> omega
      · split at h <;> omega
theorem su_adv23 {i : Nat} (t : tt_U y n cnt I L) (hc : cnt ≤ 901) (hi : i < cnt) (h6 : I 2 6 = nI i) {Q : am_TI → Prop} (K : ∀ I1, I1 2 8 = nI (tK y n (tS y n i)) → I1 2 9 = (if tK y n (tS y n i) = 3 then nI (rwI (tQ y n (tS y n i))) else nM) → (∀ r k, ¬ (r = 2 ∧ (k = 8 ∨ k = 9)) → I1 r k = I r k) → Q I1) : wb_Tokens_advance_23 L R 2 Q I := by
  obtain ⟨a, b, e⟩ := t.2 i hi
  have k7 : tK y n (tS y n i) < 7 := tK_lt
  have hx := fun (v : Int32) (hv : v = (if tK y n (tS y n i) = 3 then nI (rwI (tQ y n (tS y n i))) else nM)) => K (am_u2 (am_u2 I 2 8 (nI (tK y n (tS y n i)))) 2 9 v) (by rw [am_u2_ne _ _ _ _ (by omega), am_u2_at]) (by rw [am_u2_at]; exact hv) (fun r k g => by unfold am_u2; rw [if_neg (by omega), if_neg (by omega)])
  unfold wb_Tokens_advance_23
  by_cases g : tK y n (tS y n i) = 3
  · obtain ⟨w1, w2⟩ := tW_3 g
    have ev := e (by omega)
    rw [w1] at ev
    have k2 := hx (nI (rwI (tQ y n (tS y n i)))) (by rw [if_pos g])
    rw [g] at k2
    simp (disch := omega) only [h6, a, g, am_u2_at, am_u2_ne, ev, zk_in, zi_0, zi_1, zi_2, zi_3, zi_4, zi_5, zi_6, zi_7, zi_8, zi_9, zi_10, zi_11, zi_12, zi_13, zi_14, zi_15, zi_16, zi_17, zi_18, zi_19, zi_20, zi_21, zi_22, zi_23, zi_24, zi_25, zi_26, zi_30, zi_31, zi_32, zi_34, zi_38, zi_59, zi_60, zi_61, zi_63, zi_64, zi_80, zi_96, zi_97, zi_99, zi_100, zi_122, zi_255, zi_256, zi_300, zi_398, zi_406, zi_900, zi_1000, zi_1024, zi_1624, zi_1662, zi_2030, zi_2031, zi_2068, zi_2258, zi_9999, zi_48, zi_57, zi_65536, zi_3257, zi_11483, zi_1000000, zi_729, zi_81, zi_m1, nI_add, pk_mul, nI_ltI, nI_leI, nI_eq, nI_clamp, zn_in, zn_sub1lt, zn_M, zn_Ml, zn_Mg, zn_Mle, zn_Mge, zn_sub, Nat.reduceAdd, Nat.reduceMul, forall_eq, true_imp_iff, false_imp_iff, and_true, true_and, not_true_eq_false, not_false_eq_true, reduceCtorEq, imp_self, eq_self, false_and, and_false, implies_true]
    repeat' (first | omega | with_reducible refine And.intro ?_ ?_ | with_reducible intro g)
    all_goals exact k2
  · have k2 := hx nM (by rw [if_neg g])
    simp (disch := omega) only [h6, a, am_u2_at, am_u2_ne, g, zi_0, zi_1, zi_2, zi_3, zi_4, zi_5, zi_6, zi_7, zi_8, zi_9, zi_10, zi_11, zi_12, zi_13, zi_14, zi_15, zi_16, zi_17, zi_18, zi_19, zi_20, zi_21, zi_22, zi_23, zi_24, zi_25, zi_26, zi_30, zi_31, zi_32, zi_34, zi_38, zi_59, zi_60, zi_61, zi_63, zi_64, zi_80, zi_96, zi_97, zi_99, zi_100, zi_122, zi_255, zi_256, zi_300, zi_398, zi_406, zi_900, zi_1000, zi_1024, zi_1624, zi_1662, zi_2030, zi_2031, zi_2068, zi_2258, zi_9999, zi_48, zi_57, zi_65536, zi_3257, zi_11483, zi_1000000, zi_729, zi_81, zi_m1, nI_add, pk_mul, nI_ltI, nI_leI, nI_eq, nI_clamp, zn_in, zn_sub1lt, zn_M, zn_Ml, zn_Mg, zn_Mle, zn_Mge, zn_sub, Nat.reduceAdd, Nat.reduceMul, forall_eq, true_imp_iff, false_imp_iff, and_true, true_and, not_true_eq_false, not_false_eq_true, reduceCtorEq, imp_self, eq_self, false_and, and_false, implies_true]
    repeat' (first | omega | with_reducible refine And.intro ?_ ?_ | with_reducible intro g)
    all_goals exact k2
theorem su_adv (h : tk_U y n p I L) {Q : am_TI → Prop} (K : ∀ I1, tk_U y n (tN y n p) I1 L → fa_U I I1 → Q I1) : wp_Tokens_advance I L R 2 Q := by
  obtain ⟨cnt, i, t, hc, hi, hl, hp, h6, h8, h9⟩ := h
  have t5 := t.1
  unfold wp_Tokens_advance
  by_cases g : i = cnt - 1
  · have ep : p = n := by rw [hp, g]; exact hl
    have main := su_adv23 (R := R) t hc hi h6 (Q := Q) (fun I1 a b f => K I1 ⟨cnt, i, ⟨by rw [f 2 5 (by omega)]; exact t.1, fun j hj => by rw [f 5 j (by omega), f 6 j (by omega)]; exact t.2 j hj⟩, hc, hi, hl, by rw [ep, tN_n]; exact ep.symm.trans hp, by rw [f 2 6 (by omega)]; exact h6, by rw [a, ← hp, ep, tN_n], by rw [b, ← hp, ep, tN_n]⟩ (fun r k g => f r k (by omega)))
    simp (disch := omega) only [t5, h6, zi_0, zi_1, zi_2, zi_3, zi_4, zi_5, zi_6, zi_7, zi_8, zi_9, zi_10, zi_11, zi_12, zi_13, zi_14, zi_15, zi_16, zi_17, zi_18, zi_19, zi_20, zi_21, zi_22, zi_23, zi_24, zi_25, zi_26, zi_30, zi_31, zi_32, zi_34, zi_38, zi_59, zi_60, zi_61, zi_63, zi_64, zi_80, zi_96, zi_97, zi_99, zi_100, zi_122, zi_255, zi_256, zi_300, zi_398, zi_406, zi_900, zi_1000, zi_1024, zi_1624, zi_1662, zi_2030, zi_2031, zi_2068, zi_2258, zi_9999, zi_48, zi_57, zi_65536, zi_3257, zi_11483, zi_1000000, zi_729, zi_81, zi_m1, nI_add, pk_mul, nI_ltI, nI_leI, nI_eq, nI_clamp, zn_in, zn_sub1lt, zn_M, zn_Ml, zn_Mg, zn_Mle, zn_Mge, zn_sub, Nat.reduceAdd, Nat.reduceMul]
    exact ⟨fun _ => main, fun x => absurd (by omega) x⟩
  · have t' : tt_U y n cnt (am_u2 I 2 6 (nI (i + 1))) L := ⟨by rw [am_u2_ne _ _ _ _ (by omega)]; exact t.1, fun j hj => by rw [am_u2o (by omega), am_u2o (by omega)]; exact t.2 j hj⟩
    have main := su_adv23 (R := R) t' hc (i := i + 1) (by omega) (am_u2_at _ _ _ _) (Q := Q) (fun I1 a b f => K I1 ⟨cnt, i + 1, ⟨by rw [f 2 5 (by omega)]; exact t'.1, fun j hj => by rw [f 5 j (by omega), f 6 j (by omega)]; exact t'.2 j hj⟩, hc, by omega, hl, by rw [hp]; rfl, by rw [f 2 6 (by omega), am_u2_at], by rw [a, hp]; rfl, by rw [b, hp]; rfl⟩ (fun r k g => by
      rw [f r k (by omega)]
      unfold am_u2
      rw [if_neg (by omega)]))
    simp (disch := omega) only [t5, h6, zi_0, zi_1, zi_2, zi_3, zi_4, zi_5, zi_6, zi_7, zi_8, zi_9, zi_10, zi_11, zi_12, zi_13, zi_14, zi_15, zi_16, zi_17, zi_18, zi_19, zi_20, zi_21, zi_22, zi_23, zi_24, zi_25, zi_26, zi_30, zi_31, zi_32, zi_34, zi_38, zi_59, zi_60, zi_61, zi_63, zi_64, zi_80, zi_96, zi_97, zi_99, zi_100, zi_122, zi_255, zi_256, zi_300, zi_398, zi_406, zi_900, zi_1000, zi_1024, zi_1624, zi_1662, zi_2030, zi_2031, zi_2068, zi_2258, zi_9999, zi_48, zi_57, zi_65536, zi_3257, zi_11483, zi_1000000, zi_729, zi_81, zi_m1, nI_add, pk_mul, nI_ltI, nI_leI, nI_eq, nI_clamp, zn_in, zn_sub1lt, zn_M, zn_Ml, zn_Mg, zn_Mle, zn_Mge, zn_sub, Nat.reduceAdd, Nat.reduceMul]
    refine ⟨fun x => absurd x (by omega), fun _ I4 h4 => ?_⟩
    rw [h4]; exact main
theorem su_refuse (h : tk_U y n p I L) {f : Nat} {Q : Bool → am_TI → Prop} (K : ∀ I1, I1 2 10 = nI (if tK y n p = 6 then 1 else f) → I1 2 11 = nI p → (∀ r k, ¬ (r = 2 ∧ (k = 10 ∨ k = 11)) → I1 r k = I r k) → Q false I1) : wp_Tokens_refuse I L R 2 (nI f) Q := by
  obtain ⟨cnt, i, t, hc, hi, hl, hp, h6, h8, h9⟩ := h
  obtain ⟨a, b, e⟩ := t.2 i hi
  rw [← hp] at a b
  have k7 : tK y n p < 7 := tK_lt
  have k2 := K (am_u2 (am_u2 I 2 10 (nI (if tK y n p = 6 then 1 else f))) 2 11 (nI p)) (by rw [am_u2_ne _ _ _ _ (by omega), am_u2_at]) (am_u2_at _ _ _ _) (fun r k g => by unfold am_u2; rw [if_neg (by omega), if_neg (by omega)])
  unfold wp_Tokens_refuse wb_Tokens_refuse_15
  by_cases g : tK y n p = 6
  · rw [if_pos g] at k2
    simp (disch := omega) only [h8, g, h6, b, am_u2_ne, am_u2o, zi_0, zi_1, zi_2, zi_3, zi_4, zi_5, zi_6, zi_7, zi_8, zi_9, zi_10, zi_11, zi_12, zi_13, zi_14, zi_15, zi_16, zi_17, zi_18, zi_19, zi_20, zi_21, zi_22, zi_23, zi_24, zi_25, zi_26, zi_30, zi_31, zi_32, zi_34, zi_38, zi_59, zi_60, zi_61, zi_63, zi_64, zi_80, zi_96, zi_97, zi_99, zi_100, zi_122, zi_255, zi_256, zi_300, zi_398, zi_406, zi_900, zi_1000, zi_1024, zi_1624, zi_1662, zi_2030, zi_2031, zi_2068, zi_2258, zi_9999, zi_48, zi_57, zi_65536, zi_3257, zi_11483, zi_1000000, zi_729, zi_81, zi_m1, nI_add, pk_mul, nI_ltI, nI_leI, nI_eq, nI_clamp, zn_in, zn_sub1lt, zn_M, zn_Ml, zn_Mg, zn_Mle, zn_Mge, zn_sub, Nat.reduceAdd, Nat.reduceMul, forall_eq, true_imp_iff, false_imp_iff, and_true, true_and, not_true_eq_false, not_false_eq_true, reduceCtorEq, imp_self, eq_self, false_and, and_false, implies_true]
    repeat' (first | omega | with_reducible refine And.intro ?_ ?_ | with_reducible intro g)
    all_goals exact k2
  · rw [if_neg g] at k2
    simp (disch := omega) only [h8, g, h6, b, am_u2_ne, am_u2o, zi_0, zi_1, zi_2, zi_3, zi_4, zi_5, zi_6, zi_7, zi_8, zi_9, zi_10, zi_11, zi_12, zi_13, zi_14, zi_15, zi_16, zi_17, zi_18, zi_19, zi_20, zi_21, zi_22, zi_23, zi_24, zi_25, zi_26, zi_30, zi_31, zi_32, zi_34, zi_38, zi_59, zi_60, zi_61, zi_63, zi_64, zi_80, zi_96, zi_97, zi_99, zi_100, zi_122, zi_255, zi_256, zi_300, zi_398, zi_406, zi_900, zi_1000, zi_1024, zi_1624, zi_1662, zi_2030, zi_2031, zi_2068, zi_2258, zi_9999, zi_48, zi_57, zi_65536, zi_3257, zi_11483, zi_1000000, zi_729, zi_81, zi_m1, nI_add, pk_mul, nI_ltI, nI_leI, nI_eq, nI_clamp, zn_in, zn_sub1lt, zn_M, zn_Ml, zn_Mg, zn_Mle, zn_Mge, zn_sub, Nat.reduceAdd, Nat.reduceMul, forall_eq, true_imp_iff, false_imp_iff, and_true, true_and, not_true_eq_false, not_false_eq_true, reduceCtorEq, imp_self, eq_self, false_and, and_false, implies_true]
    repeat' (first | omega | with_reducible refine And.intro ?_ ?_ | with_reducible intro g)
    all_goals exact k2
end
