/-! fits, sure: both answer alike -/
theorem zlv (v : Int64) : v < lN 0 ∨ (v = lN v.toInt.toNat ∧ v.toInt.toNat < 2 ^ 63) := by
  by_cases h : v.toInt < 0
  · left
    rw [Int64.lt_iff_toInt_lt]
    have : (lN 0).toInt = 0 := by decide
    omega
  · right
    have h2 : v.toInt < 2 ^ 63 := Int64.toInt_lt v
    have h3 : v.toInt.toNat < 2 ^ 63 := by omega
    refine ⟨?_, h3⟩
    apply Int64.toInt_inj.mp
    rw [pk_lT h3]; omega
theorem zk_neg {v : Int64} (h : v < lN 0) {n : Nat} (hn : n < 2 ^ 63) : (lN n ≤ v ↔ False) ∧ (lN n < v ↔ False) ∧ (v ≤ lN n ↔ True) := by
  rw [Int64.lt_iff_toInt_lt] at h
  have e : (lN 0).toInt = 0 := by decide
  rw [Int64.le_iff_toInt_le, Int64.lt_iff_toInt_lt, Int64.le_iff_toInt_le, pk_lT hn]
  refine ⟨⟨fun g => ?_, False.elim⟩, ⟨fun g => ?_, False.elim⟩, ⟨fun _ => trivial, fun _ => ?_⟩⟩ <;> omega
theorem zk_sub1 {n x : Nat} (hn : n < 2 ^ 62) (hx : x < 2 ^ 63) : lN n - lN 1 < lN x ↔ n ≤ x := by
  have e : (lN n - lN 1).toInt = (n : Int) - 1 := by
    rw [Int64.toInt_sub, pk_lT (by omega), pk_lT (by omega), Int.bmod_eq_of_le (by omega) (by omega)]; rfl
  rw [Int64.lt_iff_toInt_lt, e, pk_lT hx]; omega
theorem zn_addM {n : Nat} (h : 0 < n) : nI n + nM = nI (n - 1) := by
  rw [← ze_pred h, Int32.sub_eq_add_neg]; rfl
theorem zn_Mand (x : Int32) : nM &&& x = x := by
  apply Int32.toBitVec_inj.1
  show (-1 : Int32).toBitVec &&& x.toBitVec = x.toBitVec
  have e : (-1 : Int32).toBitVec = BitVec.allOnes 32 := by decide
  rw [e, BitVec.allOnes_and]
/-- does one come so near by liking just these -/
def fi (tn fn : Nat → Nat) (lk : Nat) : Nat → Nat → Nat → Bool
  | 0, _, _ => true
  | r + 1, i, x => if ga_lf lk (tn i) x = fn i then fi tn fn lk r (i + 1) (ga_lf lk (tn i) x) else false
def fi_s (tn fn : Nat → Nat) (n x : Nat) : Nat → Option Nat
  | 0 => none
  | m + 1 => if fi tn fn m n 0 x = true then (match fi_s tn fn n x m with
    | none => some m
    | some a => some (a &&& m)) else fi_s tn fn n x m
def fi_v : Option Nat → Int32
  | none => nM
  | some a => nI a
def fg (q : Nat → Nat) (tv : Nat → Nat → Int64) (t i : Nat) : Prop := (tv t (2 * i) = lN (tv t (2 * i)).toInt.toNat ∧ (tv t (2 * i)).toInt.toNat < q 2) ∧ (tv t (2 * i + 1) = lN (tv t (2 * i + 1)).toInt.toNat ∧ (tv t (2 * i + 1)).toInt.toNat ≤ 8)
section
variable {q : Nat → Nat} {c d : Nat} {I I1 I2 : am_TI} {L L1 L2 : am_TL} {R : am_TR} {tm ts : Nat → Nat} {tv : Nat → Nat → Int64}
theorem fi_s_lt (tn fn : Nat → Nat) (n x : Nat) : ∀ m a, fi_s tn fn n x m = some a → a < m
  | 0, a, h => by cases h
  | m + 1, a, h => by
    rw [fi_s] at h
    split at h
    · cases e : fi_s tn fn n x m with
      | none => rw [e] at h; cases h; omega
      | some b =>
        rw [e] at h; cases h
        have : b &&& m ≤ m := Nat.and_le_right
        omega
    · have := fi_s_lt tn fn n x m a h; omega
/-- what is wrong with the numbers, class and reference -/
theorem fg_bad {t i : Nat} (h : ¬ fg q tv t i) : tv t (2 * i) < lN 0 ∨ (∃ x, x < 2 ^ 63 ∧ tv t (2 * i) = lN x ∧ (q 2 ≤ x ∨ (x < q 2 ∧ (tv t (2 * i + 1) < lN 0 ∨ ∃ y, y < 2 ^ 63 ∧ tv t (2 * i + 1) = lN y ∧ 8 < y)))) := by
  rcases zlv (tv t (2 * i)) with g | ⟨g1, g2⟩
  · exact Or.inl g
  · right
    refine ⟨_, g2, g1, ?_⟩
    rcases Nat.lt_or_ge (tv t (2 * i)).toInt.toNat (q 2) with g3 | g3
    · refine Or.inr ⟨g3, ?_⟩
      rcases zlv (tv t (2 * i + 1)) with g4 | ⟨g4, g5⟩
      · exact Or.inl g4
      · refine Or.inr ⟨_, g5, g4, ?_⟩
        apply Classical.byContradiction
        intro g6
        exact h ⟨⟨g1, g3⟩, g4, by omega⟩
    · exact Or.inl g3
theorem su_fitS (hc : am_rd R 0 11 = c) (h : sq_U q c d I L) (o2 : q 2 ≤ 6) (y : tr_U tm ts tv I L R) {t n i0 : Nat} (ht : t < 4) (hn : n ≤ 20) (h2 : 2 * n < tm t) {Q : Int32 → Prop} (k0 : (∀ i, i < n → fg q tv t i) → Q (nI 0)) (k5 : ¬ (∀ i, i < n → fg q tv t i) → Q (nI 5)) : ∃ z, wl_U_fitStatus_44 I L R 0 (nI i0) (nI t) (nI n) Q z 0 := by
  have body : ∀ m, m < n → ∀ w, (fg q tv t m → wl_U_fitStatus_44 I L R 0 (nI i0) (nI t) (nI n) Q w (nI (m + 1))) → (¬ fg q tv t m → Q (nI 5)) → wl_U_fitStatus_44 I L R 0 (nI i0) (nI t) (nI n) Q (w + 1) (nI m) := by
    intro m hm w k1 k2
    rw [wl_U_fitStatus_44]
    simp (disch := omega) only [wp_Tray_numberAt, wp_U_within, hc, h.n2, y.r ht, y.at ht (show 2 * m + 1 < tm t by omega), y.at ht (show 2 * m + 1 + 1 < tm t by omega), zj_0, zj_1, zj_2, zj_4, zj_6, zj_7, zj_8, zj_16, zj_20, zj_60, zj_63, zj_64, zj_99, zj_9999, nI_l, zk_lt, zk_le, zk_eq, zk_add, zk_in, zi_0, zi_1, zi_2, zi_3, zi_4, zi_5, zi_6, zi_7, zi_8, zi_9, zi_10, zi_11, zi_12, zi_13, zi_14, zi_15, zi_16, zi_17, zi_18, zi_19, zi_20, zi_21, zi_22, zi_23, zi_24, zi_25, zi_26, zi_30, zi_31, zi_32, zi_34, zi_38, zi_59, zi_60, zi_61, zi_63, zi_64, zi_80, zi_96, zi_97, zi_99, zi_100, zi_122, zi_255, zi_256, zi_300, zi_398, zi_406, zi_900, zi_1000, zi_1024, zi_1624, zi_1662, zi_2030, zi_2031, zi_2068, zi_2258, zi_9999, zi_48, zi_57, zi_65536, zi_3257, zi_11483, zi_1000000, zi_729, zi_81, zi_m1, nI_add, pk_mul, nI_ltI, nI_leI, nI_eq, nI_clamp, zn_in, zn_sub1lt, zn_M, zn_Ml, zn_Mg, zn_Mle, zn_Mge, zn_sub, Nat.reduceAdd, Nat.reduceMul, forall_eq, true_imp_iff, false_imp_iff, and_true, true_and, not_true_eq_false, not_false_eq_true, reduceCtorEq, imp_self, eq_self, false_and, and_false, implies_true]
    refine ⟨fun g => absurd g (by omega), fun _ => ⟨by omega, fun g => absurd g (by omega), fun _ => ⟨fun g => absurd g (by omega), fun _ => ⟨by omega, by omega, fun g => absurd g (by omega), fun _ => ⟨fun g => absurd g (by omega), fun _ => ⟨by omega, ?_⟩⟩⟩⟩⟩⟩
    by_cases g : fg q tv t m
    · obtain ⟨⟨g1, g2⟩, g3, g4⟩ := id g
      rw [g1, g3]
      simp (disch := omega) only [zj_0, zj_1, zj_2, zj_4, zj_6, zj_7, zj_8, zj_16, zj_20, zj_60, zj_63, zj_64, zj_99, zj_9999, nI_l, zk_lt, zk_le, zk_eq, zk_add, zk_in]
      exact ⟨fun z => absurd z (by omega), fun _ => ⟨fun z => absurd z (by omega), fun _ => ⟨fun z => absurd z (by omega), fun _ => ⟨fun _ => k1 g, fun z => absurd g4 z⟩⟩⟩⟩
    · have k5 := k2 g
      rcases fg_bad g with g1 | ⟨x, hx, g1, g2⟩
      · exact ⟨fun _ => k5, fun z => absurd g1 z⟩
      · rw [g1]
        simp (disch := omega) only [zj_0, zj_1, zj_2, zj_4, zj_6, zj_7, zj_8, zj_16, zj_20, zj_60, zj_63, zj_64, zj_99, zj_9999, nI_l, zk_lt, zk_le, zk_eq, zk_add, zk_in]
        rcases g2 with g2 | ⟨g2, g3 | ⟨y', hy, g3, g4⟩⟩
        · exact ⟨fun _ => k5, fun _ => ⟨fun _ => k5, fun z => absurd g2 z⟩⟩
        · exact ⟨fun _ => k5, fun _ => ⟨fun _ => k5, fun _ => ⟨fun _ => k5, fun z => absurd g3 z⟩⟩⟩
        · rw [g3]
          simp (disch := omega) only [zj_0, zj_1, zj_2, zj_4, zj_6, zj_7, zj_8, zj_16, zj_20, zj_60, zj_63, zj_64, zj_99, zj_9999, nI_l, zk_lt, zk_le, zk_eq, zk_add, zk_in]
          exact ⟨fun _ => k5, fun _ => ⟨fun _ => k5, fun _ => ⟨fun _ => k5, fun _ => ⟨fun z => absurd z (by omega), fun _ => k5⟩⟩⟩⟩
  by_cases g : ∀ i, i < n → fg q tv t i
  · refine zl_up (P := fun w m => wl_U_fitStatus_44 I L R 0 (nI i0) (nI t) (nI n) Q w (nI m)) n (fun w => ?_) (fun w m hm ih => ?_) 0 (by omega)
    · rw [wl_U_fitStatus_44]
      simp (disch := omega) only [zi_0, zi_1, zi_2, zi_3, zi_4, zi_5, zi_6, zi_7, zi_8, zi_9, zi_10, zi_11, zi_12, zi_13, zi_14, zi_15, zi_16, zi_17, zi_18, zi_19, zi_20, zi_21, zi_22, zi_23, zi_24, zi_25, zi_26, zi_30, zi_31, zi_32, zi_34, zi_38, zi_59, zi_60, zi_61, zi_63, zi_64, zi_80, zi_96, zi_97, zi_99, zi_100, zi_122, zi_255, zi_256, zi_300, zi_398, zi_406, zi_900, zi_1000, zi_1024, zi_1624, zi_1662, zi_2030, zi_2031, zi_2068, zi_2258, zi_9999, zi_48, zi_57, zi_65536, zi_3257, zi_11483, zi_1000000, zi_729, zi_81, zi_m1, nI_add, pk_mul, nI_ltI, nI_leI, nI_eq, nI_clamp, zn_in, zn_sub1lt, zn_M, zn_Ml, zn_Mg, zn_Mle, zn_Mge, zn_sub, Nat.reduceAdd, Nat.reduceMul, forall_eq, true_imp_iff, false_imp_iff, and_true, true_and, not_true_eq_false, not_false_eq_true, reduceCtorEq, imp_self, eq_self, false_and, and_false, implies_true]
      exact ⟨fun _ => k0 g, fun z => absurd (Nat.le_refl _) z⟩
    · exact body m hm w (fun _ => ih) (fun z => absurd (g m hm) z)
  · obtain ⟨m, hm, h0⟩ := pk_least (fun m => m < n ∧ ¬ fg q tv t m) (by
      apply Classical.byContradiction
      intro e
      exact g fun i hi => Classical.byContradiction fun z => e ⟨i, hi, z⟩)
    refine zl_up (P := fun w m => wl_U_fitStatus_44 I L R 0 (nI i0) (nI t) (nI n) Q w (nI m)) m (fun w => ?_) (fun w i hi ih => ?_) 0 (by omega)
    · exact body m hm.1 w (fun z => absurd z hm.2) (fun _ => k5 g)
    · exact body i (by omega) w (fun _ => ih) (fun z => absurd ⟨by omega, z⟩ (h0 i hi))
theorem sm_fitS (h : sq_M q 0 I L) (o2 : q 2 ≤ 6) (y : tr_M tm ts tv I L) {t n i0 : Nat} (ht : t < 4) (hn : n ≤ 20) (h2 : 2 * n < tm t) {Q : Int32 → Prop} (k0 : (∀ i, i < n → fg q tv t i) → Q (nI 0)) (k5 : ¬ (∀ i, i < n → fg q tv t i) → Q (nI 5)) : ∃ z, wl_M_wrongSeen_58 I L R 103 (nI i0) (nI t) (nI n) Q z 0 := by
  have body : ∀ m, m < n → ∀ w, (fg q tv t m → wl_M_wrongSeen_58 I L R 103 (nI i0) (nI t) (nI n) Q w (nI (m + 1))) → (¬ fg q tv t m → Q (nI 5)) → wl_M_wrongSeen_58 I L R 103 (nI i0) (nI t) (nI n) Q (w + 1) (nI m) := by
    intro m hm w k1 k2
    have e1 := y.at ht (show 2 * m + 1 < tm t by omega)
    have e2 := y.at ht (show 2 * m + 1 + 1 < tm t by omega)
    rw [← Nat.add_assoc] at e2
    rw [wl_M_wrongSeen_58]
    simp (disch := omega) only [wp_M_isFrom, h.n2, e1, e2, zj_0, zj_1, zj_2, zj_4, zj_6, zj_7, zj_8, zj_16, zj_20, zj_60, zj_63, zj_64, zj_99, zj_9999, nI_l, zk_lt, zk_le, zk_eq, zk_add, zk_in, zi_0, zi_1, zi_2, zi_3, zi_4, zi_5, zi_6, zi_7, zi_8, zi_9, zi_10, zi_11, zi_12, zi_13, zi_14, zi_15, zi_16, zi_17, zi_18, zi_19, zi_20, zi_21, zi_22, zi_23, zi_24, zi_25, zi_26, zi_30, zi_31, zi_32, zi_34, zi_38, zi_59, zi_60, zi_61, zi_63, zi_64, zi_80, zi_96, zi_97, zi_99, zi_100, zi_122, zi_255, zi_256, zi_300, zi_398, zi_406, zi_900, zi_1000, zi_1024, zi_1624, zi_1662, zi_2030, zi_2031, zi_2068, zi_2258, zi_9999, zi_48, zi_57, zi_65536, zi_3257, zi_11483, zi_1000000, zi_729, zi_81, zi_m1, nI_add, pk_mul, nI_ltI, nI_leI, nI_eq, nI_clamp, zn_in, zn_sub1lt, zn_M, zn_Ml, zn_Mg, zn_Mle, zn_Mge, zn_sub, Nat.reduceAdd, Nat.reduceMul, forall_eq, true_imp_iff, false_imp_iff, and_true, true_and, not_true_eq_false, not_false_eq_true, reduceCtorEq, imp_self, eq_self, false_and, and_false, implies_true]
    refine ⟨fun g => absurd g (by omega), fun _ => ⟨by omega, ?_⟩⟩
    by_cases g : fg q tv t m
    · obtain ⟨⟨g1, g2⟩, g3, g4⟩ := id g
      rw [g1, g3]
      simp (disch := omega) only [zk_sub1, zj_0, zj_1, zj_2, zj_4, zj_6, zj_7, zj_8, zj_16, zj_20, zj_60, zj_63, zj_64, zj_99, zj_9999, nI_l, zk_lt, zk_le, zk_eq, zk_add, zk_in]
      exact ⟨fun z => absurd z (by omega), fun _ => ⟨fun z => absurd z (by omega), fun _ => ⟨by omega, fun z => absurd z (by omega), fun _ => ⟨fun z => absurd z (by omega), fun _ => k1 g⟩⟩⟩⟩
    · have k5 := k2 g
      rcases fg_bad g with g1 | ⟨x, hx, g1, g2⟩
      · exact ⟨fun _ => k5, fun z => absurd g1 z⟩
      · rw [g1]
        simp (disch := omega) only [zk_sub1, zj_0, zj_1, zj_2, zj_4, zj_6, zj_7, zj_8, zj_16, zj_20, zj_60, zj_63, zj_64, zj_99, zj_9999, nI_l, zk_lt, zk_le, zk_eq, zk_add, zk_in]
        rcases g2 with g2 | ⟨g2, g3 | ⟨y', hy, g3, g4⟩⟩
        · exact ⟨fun _ => k5, fun _ => ⟨fun _ => k5, fun z => absurd g2 z⟩⟩
        · exact ⟨fun _ => k5, fun _ => ⟨fun _ => k5, fun _ => ⟨by omega, fun _ => k5, fun z => absurd g3 z⟩⟩⟩
        · rw [g3]
          simp (disch := omega) only [zj_0, zj_1, zj_2, zj_4, zj_6, zj_7, zj_8, zj_16, zj_20, zj_60, zj_63, zj_64, zj_99, zj_9999, nI_l, zk_lt, zk_le, zk_eq, zk_add, zk_in]
          exact ⟨fun _ => k5, fun _ => ⟨fun _ => k5, fun _ => ⟨by omega, fun _ => k5, fun _ => ⟨fun _ => k5, fun z => absurd g4 z⟩⟩⟩⟩
  by_cases g : ∀ i, i < n → fg q tv t i
  · refine zl_up (P := fun w m => wl_M_wrongSeen_58 I L R 103 (nI i0) (nI t) (nI n) Q w (nI m)) n (fun w => ?_) (fun w m hm ih => ?_) 0 (by omega)
    · rw [wl_M_wrongSeen_58]
      simp (disch := omega) only [zi_0, zi_1, zi_2, zi_3, zi_4, zi_5, zi_6, zi_7, zi_8, zi_9, zi_10, zi_11, zi_12, zi_13, zi_14, zi_15, zi_16, zi_17, zi_18, zi_19, zi_20, zi_21, zi_22, zi_23, zi_24, zi_25, zi_26, zi_30, zi_31, zi_32, zi_34, zi_38, zi_59, zi_60, zi_61, zi_63, zi_64, zi_80, zi_96, zi_97, zi_99, zi_100, zi_122, zi_255, zi_256, zi_300, zi_398, zi_406, zi_900, zi_1000, zi_1024, zi_1624, zi_1662, zi_2030, zi_2031, zi_2068, zi_2258, zi_9999, zi_48, zi_57, zi_65536, zi_3257, zi_11483, zi_1000000, zi_729, zi_81, zi_m1, nI_add, pk_mul, nI_ltI, nI_leI, nI_eq, nI_clamp, zn_in, zn_sub1lt, zn_M, zn_Ml, zn_Mg, zn_Mle, zn_Mge, zn_sub, Nat.reduceAdd, Nat.reduceMul, forall_eq, true_imp_iff, false_imp_iff, and_true, true_and, not_true_eq_false, not_false_eq_true, reduceCtorEq, imp_self, eq_self, false_and, and_false, implies_true]
      exact ⟨fun _ => k0 g, fun z => absurd (Nat.le_refl _) z⟩
    · exact body m hm w (fun _ => ih) (fun z => absurd (g m hm) z)
  · obtain ⟨m, hm, h0⟩ := pk_least (fun m => m < n ∧ ¬ fg q tv t m) (by
      apply Classical.byContradiction
      intro e
      exact g fun i hi => Classical.byContradiction fun z => e ⟨i, hi, z⟩)
    refine zl_up (P := fun w m => wl_M_wrongSeen_58 I L R 103 (nI i0) (nI t) (nI n) Q w (nI m)) m (fun w => ?_) (fun w i hi ih => ?_) 0 (by omega)
    · exact body m hm.1 w (fun z => absurd z hm.2) (fun _ => k5 g)
    · exact body i (by omega) w (fun _ => ih) (fun z => absurd ⟨by omega, z⟩ (h0 i hi))
theorem su_fit (h : sq_U q c d I L) (hc : am_rd R 0 11 = c) (ok : sq_Ok q) (y : tr_U tm ts tv I L R) {t n j lk : Nat} (ht : t < 4) (hn : n ≤ 20) (h2 : 2 * n < tm t) (hj : j < q 3) (hl : lk < 2 ^ 31) (hg : ∀ i, i < n → fg q tv t i) {Q : Bool → Prop} (k : Q (fi (fun i => (tv t (2 * i)).toInt.toNat) (fun i => (tv t (2 * i + 1)).toInt.toNat) lk n 0 (sq_far (q 0) (q (10 + 4 * j)) (q 6)))) : wp_U_doesFit I L R 0 (nI lk) (nI j) (59 + 2 * t) (nI n) Q := by
  have o := ok.1.2.2.1
  unfold wp_U_doesFit
  rw [hc]
  refine su_farO h ok hj ?_
  have f8 := ok.far8 (ok.2.1 j hj).1 ok.1.2.2.2.1
  have go : ∀ r i x, i + r = n → x ≤ 8 → Q (fi (fun i => (tv t (2 * i)).toInt.toNat) (fun i => (tv t (2 * i + 1)).toInt.toNat) lk r i x) → wl_U_doesFit_13 I L R 0 (nI lk) (nI j) (59 + 2 * t) (nI n) Q (r + 1) (nI x) (nI i) := by
    intro r
    induction r with
    | zero =>
      intro i x hi hx k
      rw [wl_U_doesFit_13]
      simp (disch := omega) only [zi_0, zi_1, zi_2, zi_3, zi_4, zi_5, zi_6, zi_7, zi_8, zi_9, zi_10, zi_11, zi_12, zi_13, zi_14, zi_15, zi_16, zi_17, zi_18, zi_19, zi_20, zi_21, zi_22, zi_23, zi_24, zi_25, zi_26, zi_30, zi_31, zi_32, zi_34, zi_38, zi_59, zi_60, zi_61, zi_63, zi_64, zi_80, zi_96, zi_97, zi_99, zi_100, zi_122, zi_255, zi_256, zi_300, zi_398, zi_406, zi_900, zi_1000, zi_1024, zi_1624, zi_1662, zi_2030, zi_2031, zi_2068, zi_2258, zi_9999, zi_48, zi_57, zi_65536, zi_3257, zi_11483, zi_1000000, zi_729, zi_81, zi_m1, nI_add, pk_mul, nI_ltI, nI_leI, nI_eq, nI_clamp, zn_in, zn_sub1lt, zn_M, zn_Ml, zn_Mg, zn_Mle, zn_Mge, zn_sub, Nat.reduceAdd, Nat.reduceMul, forall_eq, true_imp_iff, false_imp_iff, and_true, true_and, not_true_eq_false, not_false_eq_true, reduceCtorEq, imp_self, eq_self, false_and, and_false, implies_true]
      exact ⟨fun _ => k, fun z => absurd (by omega) z⟩
    | succ r ih =>
      intro i x hi hx k
      obtain ⟨⟨g1, g2⟩, g3, g4⟩ := hg i (by omega)
      have xl := ga_lf_le lk (tv t (2 * i)).toInt.toNat x
      have tail : ∀ x', x' = ga_lf lk (tv t (2 * i)).toInt.toNat x → wb_U_doesFit_49 I L R 0 (nI lk) (nI j) (59 + 2 * t) (nI n) Q (wl_U_doesFit_13 I L R 0 (nI lk) (nI j) (59 + 2 * t) (nI n) Q (r + 1)) (nI x') (nI i) := by
        intro x' hx'
        rw [fi] at k
        rw [← hx'] at k
        simp (disch := omega) only [wb_U_doesFit_49, wp_Tray_numberAt, wp_U_within, y.at ht (show 2 * i + 1 + 1 < tm t by omega), zj_0, zj_1, zj_2, zj_4, zj_6, zj_7, zj_8, zj_16, zj_20, zj_60, zj_63, zj_64, zj_99, zj_9999, nI_l, zk_lt, zk_le, zk_eq, zk_add, zk_in, zi_0, zi_1, zi_2, zi_3, zi_4, zi_5, zi_6, zi_7, zi_8, zi_9, zi_10, zi_11, zi_12, zi_13, zi_14, zi_15, zi_16, zi_17, zi_18, zi_19, zi_20, zi_21, zi_22, zi_23, zi_24, zi_25, zi_26, zi_30, zi_31, zi_32, zi_34, zi_38, zi_59, zi_60, zi_61, zi_63, zi_64, zi_80, zi_96, zi_97, zi_99, zi_100, zi_122, zi_255, zi_256, zi_300, zi_398, zi_406, zi_900, zi_1000, zi_1024, zi_1624, zi_1662, zi_2030, zi_2031, zi_2068, zi_2258, zi_9999, zi_48, zi_57, zi_65536, zi_3257, zi_11483, zi_1000000, zi_729, zi_81, zi_m1, nI_add, pk_mul, nI_ltI, nI_leI, nI_eq, nI_clamp, zn_in, zn_sub1lt, zn_M, zn_Ml, zn_Mg, zn_Mle, zn_Mge, zn_sub, Nat.reduceAdd, Nat.reduceMul, forall_eq, true_imp_iff, false_imp_iff, and_true, true_and, not_true_eq_false, not_false_eq_true, reduceCtorEq, imp_self, eq_self, false_and, and_false, implies_true]
        refine ⟨fun z => absurd z (by omega), fun _ => ⟨fun z => absurd z (by omega), fun _ => ⟨by omega, ?_⟩⟩⟩
        rw [g3]
        simp (disch := omega) only [zj_0, zj_1, zj_2, zj_4, zj_6, zj_7, zj_8, zj_16, zj_20, zj_60, zj_63, zj_64, zj_99, zj_9999, nI_l, zk_lt, zk_le, zk_eq, zk_add, zk_in]
        refine ⟨fun z => ?_, fun z => ?_⟩
        · rw [if_pos z] at k
          exact ih (i + 1) x' (by omega) (by omega) k
        · rw [if_neg z] at k; exact k
      rw [wl_U_doesFit_13]
      simp (disch := omega) only [wp_Tray_numberAt, wp_U_within, y.at ht (show 2 * i + 1 < tm t by omega), zi_0, zi_1, zi_2, zi_3, zi_4, zi_5, zi_6, zi_7, zi_8, zi_9, zi_10, zi_11, zi_12, zi_13, zi_14, zi_15, zi_16, zi_17, zi_18, zi_19, zi_20, zi_21, zi_22, zi_23, zi_24, zi_25, zi_26, zi_30, zi_31, zi_32, zi_34, zi_38, zi_59, zi_60, zi_61, zi_63, zi_64, zi_80, zi_96, zi_97, zi_99, zi_100, zi_122, zi_255, zi_256, zi_300, zi_398, zi_406, zi_900, zi_1000, zi_1024, zi_1624, zi_1662, zi_2030, zi_2031, zi_2068, zi_2258, zi_9999, zi_48, zi_57, zi_65536, zi_3257, zi_11483, zi_1000000, zi_729, zi_81, zi_m1, nI_add, pk_mul, nI_ltI, nI_leI, nI_eq, nI_clamp, zn_in, zn_sub1lt, zn_M, zn_Ml, zn_Mg, zn_Mle, zn_Mge, zn_sub, Nat.reduceAdd, Nat.reduceMul, forall_eq, true_imp_iff, false_imp_iff, and_true, true_and, not_true_eq_false, not_false_eq_true, reduceCtorEq, imp_self, eq_self, false_and, and_false, implies_true]
      refine ⟨fun z => absurd z (by omega), fun _ => ⟨fun z => absurd z (by omega), fun _ => ⟨fun z => absurd z (by omega), fun _ => ⟨by omega, ?_⟩⟩⟩⟩
      rw [g1, lN_i, zn_bit hl (by omega)]
      refine ⟨fun z => tail x (by unfold ga_lf; rw [if_neg (by omega)]), fun z => ⟨fun z2 => ?_, fun z2 => tail x (by unfold ga_lf; rw [if_neg (fun w => z2 w.2)])⟩⟩
      rw [zn_addM (by omega)]
      exact tail (x - 1) (by unfold ga_lf; rw [if_pos ⟨by omega, z2⟩])
  exact ⟨n + 1, go n 0 _ (by omega) f8 k⟩
theorem sm_fit (h : sq_M q 0 I L) (ok : sq_Ok q) (y : tr_M tm ts tv I L) {t n j lk : Nat} (ht : t < 4) (hn : n ≤ 20) (h2 : 2 * n < tm t) (hj : j < q 3) (hl : lk < 2 ^ 31) (hg : ∀ i, i < n → fg q tv t i) {Q : Bool → Prop} (k : Q (fi (fun i => (tv t (2 * i)).toInt.toNat) (fun i => (tv t (2 * i + 1)).toInt.toNat) lk n 0 (sq_far (q 0) (q (10 + 4 * j)) (q 6)))) : wp_M_isLiking I L R 103 (nI j) (nI lk) (nI t) (nI n) Q := by
  have o := ok.1.2.2.1
  unfold wp_M_isLiking
  refine sm_farO h ok hj ?_
  have f8 := ok.far8 (ok.2.1 j hj).1 ok.1.2.2.2.1
  have go : ∀ r i x, i + r = n → x ≤ 8 → Q (fi (fun i => (tv t (2 * i)).toInt.toNat) (fun i => (tv t (2 * i + 1)).toInt.toNat) lk r i x) → wl_M_isLiking_10 I L R 103 (nI j) (nI lk) (nI t) (nI n) Q (r + 1) (nI x) (nI i) := by
    intro r
    induction r with
    | zero =>
      intro i x hi hx k
      rw [wl_M_isLiking_10]
      simp (disch := omega) only [zi_0, zi_1, zi_2, zi_3, zi_4, zi_5, zi_6, zi_7, zi_8, zi_9, zi_10, zi_11, zi_12, zi_13, zi_14, zi_15, zi_16, zi_17, zi_18, zi_19, zi_20, zi_21, zi_22, zi_23, zi_24, zi_25, zi_26, zi_30, zi_31, zi_32, zi_34, zi_38, zi_59, zi_60, zi_61, zi_63, zi_64, zi_80, zi_96, zi_97, zi_99, zi_100, zi_122, zi_255, zi_256, zi_300, zi_398, zi_406, zi_900, zi_1000, zi_1024, zi_1624, zi_1662, zi_2030, zi_2031, zi_2068, zi_2258, zi_9999, zi_48, zi_57, zi_65536, zi_3257, zi_11483, zi_1000000, zi_729, zi_81, zi_m1, nI_add, pk_mul, nI_ltI, nI_leI, nI_eq, nI_clamp, zn_in, zn_sub1lt, zn_M, zn_Ml, zn_Mg, zn_Mle, zn_Mge, zn_sub, Nat.reduceAdd, Nat.reduceMul, forall_eq, true_imp_iff, false_imp_iff, and_true, true_and, not_true_eq_false, not_false_eq_true, reduceCtorEq, imp_self, eq_self, false_and, and_false, implies_true]
      exact ⟨fun _ => k, fun z => absurd (by omega) z⟩
    | succ r ih =>
      intro i x hi hx k
      obtain ⟨⟨g1, g2⟩, g3, g4⟩ := hg i (by omega)
      have xl := ga_lf_le lk (tv t (2 * i)).toInt.toNat x
      have e1 := y.at ht (show 2 * i + 1 < tm t by omega)
      have e2 := y.at ht (show 2 * i + 1 + 1 < tm t by omega)
      rw [← Nat.add_assoc] at e2
      have tail : ∀ x', x' = ga_lf lk (tv t (2 * i)).toInt.toNat x → wb_M_isLiking_52 I L R 103 (nI j) (nI lk) (nI t) (nI n) Q (wl_M_isLiking_10 I L R 103 (nI j) (nI lk) (nI t) (nI n) Q (r + 1)) (nI x') (nI i) (nI (60 * t + 2 * i)) := by
        intro x' hx'
        rw [fi] at k
        rw [← hx'] at k
        simp (disch := omega) only [wb_M_isLiking_52, e2, zj_0, zj_1, zj_2, zj_4, zj_6, zj_7, zj_8, zj_16, zj_20, zj_60, zj_63, zj_64, zj_99, zj_9999, nI_l, zk_lt, zk_le, zk_eq, zk_add, zk_in, zi_0, zi_1, zi_2, zi_3, zi_4, zi_5, zi_6, zi_7, zi_8, zi_9, zi_10, zi_11, zi_12, zi_13, zi_14, zi_15, zi_16, zi_17, zi_18, zi_19, zi_20, zi_21, zi_22, zi_23, zi_24, zi_25, zi_26, zi_30, zi_31, zi_32, zi_34, zi_38, zi_59, zi_60, zi_61, zi_63, zi_64, zi_80, zi_96, zi_97, zi_99, zi_100, zi_122, zi_255, zi_256, zi_300, zi_398, zi_406, zi_900, zi_1000, zi_1024, zi_1624, zi_1662, zi_2030, zi_2031, zi_2068, zi_2258, zi_9999, zi_48, zi_57, zi_65536, zi_3257, zi_11483, zi_1000000, zi_729, zi_81, zi_m1, nI_add, pk_mul, nI_ltI, nI_leI, nI_eq, nI_clamp, zn_in, zn_sub1lt, zn_M, zn_Ml, zn_Mg, zn_Mle, zn_Mge, zn_sub, Nat.reduceAdd, Nat.reduceMul, forall_eq, true_imp_iff, false_imp_iff, and_true, true_and, not_true_eq_false, not_false_eq_true, reduceCtorEq, imp_self, eq_self, false_and, and_false, implies_true]
        refine ⟨by omega, ?_⟩
        rw [g3]
        simp (disch := omega) only [zj_0, zj_1, zj_2, zj_4, zj_6, zj_7, zj_8, zj_16, zj_20, zj_60, zj_63, zj_64, zj_99, zj_9999, nI_l, zk_lt, zk_le, zk_eq, zk_add, zk_in]
        refine ⟨fun z => ?_, fun z => ?_⟩
        · rw [if_pos z] at k
          exact ih (i + 1) x' (by omega) (by omega) k
        · rw [if_neg z] at k; exact k
      rw [wl_M_isLiking_10]
      simp (disch := omega) only [wp_M_isIn, e1, zi_0, zi_1, zi_2, zi_3, zi_4, zi_5, zi_6, zi_7, zi_8, zi_9, zi_10, zi_11, zi_12, zi_13, zi_14, zi_15, zi_16, zi_17, zi_18, zi_19, zi_20, zi_21, zi_22, zi_23, zi_24, zi_25, zi_26, zi_30, zi_31, zi_32, zi_34, zi_38, zi_59, zi_60, zi_61, zi_63, zi_64, zi_80, zi_96, zi_97, zi_99, zi_100, zi_122, zi_255, zi_256, zi_300, zi_398, zi_406, zi_900, zi_1000, zi_1024, zi_1624, zi_1662, zi_2030, zi_2031, zi_2068, zi_2258, zi_9999, zi_48, zi_57, zi_65536, zi_3257, zi_11483, zi_1000000, zi_729, zi_81, zi_m1, nI_add, pk_mul, nI_ltI, nI_leI, nI_eq, nI_clamp, zn_in, zn_sub1lt, zn_M, zn_Ml, zn_Mg, zn_Mle, zn_Mge, zn_sub, Nat.reduceAdd, Nat.reduceMul, forall_eq, true_imp_iff, false_imp_iff, and_true, true_and, not_true_eq_false, not_false_eq_true, reduceCtorEq, imp_self, eq_self, false_and, and_false, implies_true]
      refine ⟨fun z => absurd z (by omega), fun _ => ⟨fun z => tail x (by unfold ga_lf; rw [if_neg (by omega)]), fun z => ⟨by omega, ?_⟩⟩⟩
      rw [g1, lN_i, zn_bit hl (by omega)]
      refine ⟨fun z2 => ?_, fun z2 => tail x (by unfold ga_lf; rw [if_neg (fun w => z2 w.2)])⟩
      rw [zn_addM (by omega)]
      exact tail (x - 1) (by unfold ga_lf; rw [if_pos ⟨by omega, z2⟩])
  exact ⟨n + 1, go n 0 _ (by omega) f8 k⟩
theorem op_fits (okq : sq_Ok q) (ok : tr_Ok tm ts) (p1 p2 p3 : Int32) : si_Y q tm ts tv (fun I L R Q => wp_U_fits I L R 0 p1 p2 p3 (fun a I1 => Q a I1 L)) (fun I L R Q => wp_M_fits I L R 103 p1 p2 p3 (fun a I1 => Q a I1 L)) := by
  have o := okq.1.2.2.1
  have p64 : 2 ^ q 2 ≤ 64 ∧ 1 ≤ 2 ^ q 2 := zn_pow6 o.1
  rcases zc p1 with hp | ⟨j, hj, rfl⟩
  · refine ⟨nM, 1, tm, ts, tv, ok, ?_, ?_⟩
    · intro c d I L R hcd h hc hz y Q K
      simp (disch := omega) only [wp_U_fits, wp_U_fitStatus, wp_U_trayStatus, wp_Tray_isMissing, wp_U_isTray, wp_Square_hasHearer, wp_U_within, wp_U_refused, hc, h.n3, hp, zc_t hp, zc_l hp, zc_m hp, zc_k hp, zi_0, zi_1, zi_2, zi_3, zi_4, zi_5, zi_6, zi_7, zi_8, zi_9, zi_10, zi_11, zi_12, zi_13, zi_14, zi_15, zi_16, zi_17, zi_18, zi_19, zi_20, zi_21, zi_22, zi_23, zi_24, zi_25, zi_26, zi_30, zi_31, zi_32, zi_34, zi_38, zi_59, zi_60, zi_61, zi_63, zi_64, zi_80, zi_96, zi_97, zi_99, zi_100, zi_122, zi_255, zi_256, zi_300, zi_398, zi_406, zi_900, zi_1000, zi_1024, zi_1624, zi_1662, zi_2030, zi_2031, zi_2068, zi_2258, zi_9999, zi_48, zi_57, zi_65536, zi_3257, zi_11483, zi_1000000, zi_729, zi_81, zi_m1, nI_add, pk_mul, nI_ltI, nI_leI, nI_eq, nI_clamp, zn_in, zn_sub1lt, zn_M, zn_Ml, zn_Mg, zn_Mle, zn_Mge, zn_sub, Nat.reduceAdd, Nat.reduceMul, forall_eq, true_imp_iff, false_imp_iff, and_true, true_and, not_true_eq_false, not_false_eq_true, reduceCtorEq, imp_self, eq_self, false_and, and_false, implies_true]
      repeat' (first | omega | with_reducible refine And.intro ?_ ?_ | with_reducible intro g)
      all_goals exact K _ _ (y.st _) (am_u2_at _ _ _ _) (fy_U.st _) fy_UL.rfl
    · intro I L R h y Q K
      simp (disch := omega) only [wp_M_fits, wp_M_wrongSeen, wp_M_isHearer, wp_M_isTray, wp_M_isFrom, wp_M_refuse, h.n3, zj_0, zj_1, zj_2, zj_4, zj_6, zj_7, zj_8, zj_16, zj_20, zj_60, zj_63, zj_64, zj_99, zj_9999, nI_l, zk_lt, zk_le, zk_eq, zk_add, zk_in, hp, zc_e hp, zf_n hp, zc_t hp, zc_l hp, zc_m hp, zc_k hp, zi_0, zi_1, zi_2, zi_3, zi_4, zi_5, zi_6, zi_7, zi_8, zi_9, zi_10, zi_11, zi_12, zi_13, zi_14, zi_15, zi_16, zi_17, zi_18, zi_19, zi_20, zi_21, zi_22, zi_23, zi_24, zi_25, zi_26, zi_30, zi_31, zi_32, zi_34, zi_38, zi_59, zi_60, zi_61, zi_63, zi_64, zi_80, zi_96, zi_97, zi_99, zi_100, zi_122, zi_255, zi_256, zi_300, zi_398, zi_406, zi_900, zi_1000, zi_1024, zi_1624, zi_1662, zi_2030, zi_2031, zi_2068, zi_2258, zi_9999, zi_48, zi_57, zi_65536, zi_3257, zi_11483, zi_1000000, zi_729, zi_81, zi_m1, nI_add, pk_mul, nI_ltI, nI_leI, nI_eq, nI_clamp, zn_in, zn_sub1lt, zn_M, zn_Ml, zn_Mg, zn_Mle, zn_Mge, zn_sub, Nat.reduceAdd, Nat.reduceMul, forall_eq, true_imp_iff, false_imp_iff, and_true, true_and, not_true_eq_false, not_false_eq_true, reduceCtorEq, imp_self, eq_self, false_and, and_false, implies_true]
      repeat' (first | omega | with_reducible refine And.intro ?_ ?_ | with_reducible intro g)
      all_goals exact K _ _ (y.st _) (am_u2_at _ _ _ _) (fy_M.st _) fy_ML.rfl
  by_cases g : q 3 ≤ j
  · refine ⟨nM, 1, tm, ts, tv, ok, ?_, ?_⟩
    · intro c d I L R hcd h hc hz y Q K
      simp (disch := omega) only [wp_U_fits, wp_U_fitStatus, wp_U_trayStatus, wp_Tray_isMissing, wp_U_isTray, wp_Square_hasHearer, wp_U_within, wp_U_refused, hc, h.n3, zi_0, zi_1, zi_2, zi_3, zi_4, zi_5, zi_6, zi_7, zi_8, zi_9, zi_10, zi_11, zi_12, zi_13, zi_14, zi_15, zi_16, zi_17, zi_18, zi_19, zi_20, zi_21, zi_22, zi_23, zi_24, zi_25, zi_26, zi_30, zi_31, zi_32, zi_34, zi_38, zi_59, zi_60, zi_61, zi_63, zi_64, zi_80, zi_96, zi_97, zi_99, zi_100, zi_122, zi_255, zi_256, zi_300, zi_398, zi_406, zi_900, zi_1000, zi_1024, zi_1624, zi_1662, zi_2030, zi_2031, zi_2068, zi_2258, zi_9999, zi_48, zi_57, zi_65536, zi_3257, zi_11483, zi_1000000, zi_729, zi_81, zi_m1, nI_add, pk_mul, nI_ltI, nI_leI, nI_eq, nI_clamp, zn_in, zn_sub1lt, zn_M, zn_Ml, zn_Mg, zn_Mle, zn_Mge, zn_sub, Nat.reduceAdd, Nat.reduceMul, forall_eq, true_imp_iff, false_imp_iff, and_true, true_and, not_true_eq_false, not_false_eq_true, reduceCtorEq, imp_self, eq_self, false_and, and_false, implies_true]
      repeat' (first | omega | with_reducible refine And.intro ?_ ?_ | with_reducible intro g)
      all_goals exact K _ _ (y.st _) (am_u2_at _ _ _ _) (fy_U.st _) fy_UL.rfl
    · intro I L R h y Q K
      simp (disch := omega) only [wp_M_fits, wp_M_wrongSeen, wp_M_isHearer, wp_M_isTray, wp_M_isFrom, wp_M_refuse, h.n3, zj_0, zj_1, zj_2, zj_4, zj_6, zj_7, zj_8, zj_16, zj_20, zj_60, zj_63, zj_64, zj_99, zj_9999, nI_l, zk_lt, zk_le, zk_eq, zk_add, zk_in, zi_0, zi_1, zi_2, zi_3, zi_4, zi_5, zi_6, zi_7, zi_8, zi_9, zi_10, zi_11, zi_12, zi_13, zi_14, zi_15, zi_16, zi_17, zi_18, zi_19, zi_20, zi_21, zi_22, zi_23, zi_24, zi_25, zi_26, zi_30, zi_31, zi_32, zi_34, zi_38, zi_59, zi_60, zi_61, zi_63, zi_64, zi_80, zi_96, zi_97, zi_99, zi_100, zi_122, zi_255, zi_256, zi_300, zi_398, zi_406, zi_900, zi_1000, zi_1024, zi_1624, zi_1662, zi_2030, zi_2031, zi_2068, zi_2258, zi_9999, zi_48, zi_57, zi_65536, zi_3257, zi_11483, zi_1000000, zi_729, zi_81, zi_m1, nI_add, pk_mul, nI_ltI, nI_leI, nI_eq, nI_clamp, zn_in, zn_sub1lt, zn_M, zn_Ml, zn_Mg, zn_Mle, zn_Mge, zn_sub, Nat.reduceAdd, Nat.reduceMul, forall_eq, true_imp_iff, false_imp_iff, and_true, true_and, not_true_eq_false, not_false_eq_true, reduceCtorEq, imp_self, eq_self, false_and, and_false, implies_true]
      repeat' (first | omega | with_reducible refine And.intro ?_ ?_ | with_reducible intro g)
      all_goals exact K _ _ (y.st _) (am_u2_at _ _ _ _) (fy_M.st _) fy_ML.rfl
  have hj3 : j < q 3 := by omega
  rcases zc p3 with hp | ⟨n, hn, rfl⟩
  · refine ⟨nM, 1, tm, ts, tv, ok, ?_, ?_⟩
    · intro c d I L R hcd h hc hz y Q K
      simp (disch := omega) only [wp_U_fits, wp_U_fitStatus, wp_U_trayStatus, wp_Tray_isMissing, wp_U_isTray, wp_Square_hasHearer, wp_U_within, wp_U_refused, hc, h.n3, hp, zc_e hp, zc_t hp, zc_l hp, zc_m hp, zc_k hp, zi_0, zi_1, zi_2, zi_3, zi_4, zi_5, zi_6, zi_7, zi_8, zi_9, zi_10, zi_11, zi_12, zi_13, zi_14, zi_15, zi_16, zi_17, zi_18, zi_19, zi_20, zi_21, zi_22, zi_23, zi_24, zi_25, zi_26, zi_30, zi_31, zi_32, zi_34, zi_38, zi_59, zi_60, zi_61, zi_63, zi_64, zi_80, zi_96, zi_97, zi_99, zi_100, zi_122, zi_255, zi_256, zi_300, zi_398, zi_406, zi_900, zi_1000, zi_1024, zi_1624, zi_1662, zi_2030, zi_2031, zi_2068, zi_2258, zi_9999, zi_48, zi_57, zi_65536, zi_3257, zi_11483, zi_1000000, zi_729, zi_81, zi_m1, nI_add, pk_mul, nI_ltI, nI_leI, nI_eq, nI_clamp, zn_in, zn_sub1lt, zn_M, zn_Ml, zn_Mg, zn_Mle, zn_Mge, zn_sub, Nat.reduceAdd, Nat.reduceMul, forall_eq, true_imp_iff, false_imp_iff, and_true, true_and, not_true_eq_false, not_false_eq_true, reduceCtorEq, imp_self, eq_self, false_and, and_false, implies_true]
      repeat' (first | omega | with_reducible refine And.intro ?_ ?_ | with_reducible intro g)
      all_goals exact K _ _ (y.st _) (am_u2_at _ _ _ _) (fy_U.st _) fy_UL.rfl
    · intro I L R h y Q K
      simp (disch := omega) only [wp_M_fits, wp_M_wrongSeen, wp_M_isHearer, wp_M_isTray, wp_M_isFrom, wp_M_refuse, h.n3, zj_0, zj_1, zj_2, zj_4, zj_6, zj_7, zj_8, zj_16, zj_20, zj_60, zj_63, zj_64, zj_99, zj_9999, nI_l, zk_lt, zk_le, zk_eq, zk_add, zk_in, hp, zc_e hp, zf_n hp, zc_t hp, zc_l hp, zc_m hp, zc_k hp, zi_0, zi_1, zi_2, zi_3, zi_4, zi_5, zi_6, zi_7, zi_8, zi_9, zi_10, zi_11, zi_12, zi_13, zi_14, zi_15, zi_16, zi_17, zi_18, zi_19, zi_20, zi_21, zi_22, zi_23, zi_24, zi_25, zi_26, zi_30, zi_31, zi_32, zi_34, zi_38, zi_59, zi_60, zi_61, zi_63, zi_64, zi_80, zi_96, zi_97, zi_99, zi_100, zi_122, zi_255, zi_256, zi_300, zi_398, zi_406, zi_900, zi_1000, zi_1024, zi_1624, zi_1662, zi_2030, zi_2031, zi_2068, zi_2258, zi_9999, zi_48, zi_57, zi_65536, zi_3257, zi_11483, zi_1000000, zi_729, zi_81, zi_m1, nI_add, pk_mul, nI_ltI, nI_leI, nI_eq, nI_clamp, zn_in, zn_sub1lt, zn_M, zn_Ml, zn_Mg, zn_Mle, zn_Mge, zn_sub, Nat.reduceAdd, Nat.reduceMul, forall_eq, true_imp_iff, false_imp_iff, and_true, true_and, not_true_eq_false, not_false_eq_true, reduceCtorEq, imp_self, eq_self, false_and, and_false, implies_true]
      repeat' (first | omega | with_reducible refine And.intro ?_ ?_ | with_reducible intro g)
      all_goals exact K _ _ (y.st _) (am_u2_at _ _ _ _) (fy_M.st _) fy_ML.rfl
  by_cases gn : 20 < n
  · refine ⟨nM, 1, tm, ts, tv, ok, ?_, ?_⟩
    · intro c d I L R hcd h hc hz y Q K
      simp (disch := omega) only [wp_U_fits, wp_U_fitStatus, wp_U_trayStatus, wp_Tray_isMissing, wp_U_isTray, wp_Square_hasHearer, wp_U_within, wp_U_refused, hc, h.n3, zi_0, zi_1, zi_2, zi_3, zi_4, zi_5, zi_6, zi_7, zi_8, zi_9, zi_10, zi_11, zi_12, zi_13, zi_14, zi_15, zi_16, zi_17, zi_18, zi_19, zi_20, zi_21, zi_22, zi_23, zi_24, zi_25, zi_26, zi_30, zi_31, zi_32, zi_34, zi_38, zi_59, zi_60, zi_61, zi_63, zi_64, zi_80, zi_96, zi_97, zi_99, zi_100, zi_122, zi_255, zi_256, zi_300, zi_398, zi_406, zi_900, zi_1000, zi_1024, zi_1624, zi_1662, zi_2030, zi_2031, zi_2068, zi_2258, zi_9999, zi_48, zi_57, zi_65536, zi_3257, zi_11483, zi_1000000, zi_729, zi_81, zi_m1, nI_add, pk_mul, nI_ltI, nI_leI, nI_eq, nI_clamp, zn_in, zn_sub1lt, zn_M, zn_Ml, zn_Mg, zn_Mle, zn_Mge, zn_sub, Nat.reduceAdd, Nat.reduceMul, forall_eq, true_imp_iff, false_imp_iff, and_true, true_and, not_true_eq_false, not_false_eq_true, reduceCtorEq, imp_self, eq_self, false_and, and_false, implies_true]
      repeat' (first | omega | with_reducible refine And.intro ?_ ?_ | with_reducible intro g)
      all_goals exact K _ _ (y.st _) (am_u2_at _ _ _ _) (fy_U.st _) fy_UL.rfl
    · intro I L R h y Q K
      simp (disch := omega) only [wp_M_fits, wp_M_wrongSeen, wp_M_isHearer, wp_M_isTray, wp_M_isFrom, wp_M_refuse, h.n3, zj_0, zj_1, zj_2, zj_4, zj_6, zj_7, zj_8, zj_16, zj_20, zj_60, zj_63, zj_64, zj_99, zj_9999, nI_l, zk_lt, zk_le, zk_eq, zk_add, zk_in, zi_0, zi_1, zi_2, zi_3, zi_4, zi_5, zi_6, zi_7, zi_8, zi_9, zi_10, zi_11, zi_12, zi_13, zi_14, zi_15, zi_16, zi_17, zi_18, zi_19, zi_20, zi_21, zi_22, zi_23, zi_24, zi_25, zi_26, zi_30, zi_31, zi_32, zi_34, zi_38, zi_59, zi_60, zi_61, zi_63, zi_64, zi_80, zi_96, zi_97, zi_99, zi_100, zi_122, zi_255, zi_256, zi_300, zi_398, zi_406, zi_900, zi_1000, zi_1024, zi_1624, zi_1662, zi_2030, zi_2031, zi_2068, zi_2258, zi_9999, zi_48, zi_57, zi_65536, zi_3257, zi_11483, zi_1000000, zi_729, zi_81, zi_m1, nI_add, pk_mul, nI_ltI, nI_leI, nI_eq, nI_clamp, zn_in, zn_sub1lt, zn_M, zn_Ml, zn_Mg, zn_Mle, zn_Mge, zn_sub, Nat.reduceAdd, Nat.reduceMul, forall_eq, true_imp_iff, false_imp_iff, and_true, true_and, not_true_eq_false, not_false_eq_true, reduceCtorEq, imp_self, eq_self, false_and, and_false, implies_true]
      repeat' (first | omega | with_reducible refine And.intro ?_ ?_ | with_reducible intro g)
      all_goals exact K _ _ (y.st _) (am_u2_at _ _ _ _) (fy_M.st _) fy_ML.rfl
  rcases zc p2 with hp | ⟨t, ht, rfl⟩
  · refine ⟨nM, 1, tm, ts, tv, ok, ?_, ?_⟩
    · intro c d I L R hcd h hc hz y Q K
      simp (disch := omega) only [wp_U_fits, wp_U_fitStatus, wp_U_trayStatus, wp_Tray_isMissing, wp_U_isTray, wp_Square_hasHearer, wp_U_within, wp_U_refused, hc, h.n3, hp, zc_t hp, zc_l hp, zc_m hp, zc_k hp, zi_0, zi_1, zi_2, zi_3, zi_4, zi_5, zi_6, zi_7, zi_8, zi_9, zi_10, zi_11, zi_12, zi_13, zi_14, zi_15, zi_16, zi_17, zi_18, zi_19, zi_20, zi_21, zi_22, zi_23, zi_24, zi_25, zi_26, zi_30, zi_31, zi_32, zi_34, zi_38, zi_59, zi_60, zi_61, zi_63, zi_64, zi_80, zi_96, zi_97, zi_99, zi_100, zi_122, zi_255, zi_256, zi_300, zi_398, zi_406, zi_900, zi_1000, zi_1024, zi_1624, zi_1662, zi_2030, zi_2031, zi_2068, zi_2258, zi_9999, zi_48, zi_57, zi_65536, zi_3257, zi_11483, zi_1000000, zi_729, zi_81, zi_m1, nI_add, pk_mul, nI_ltI, nI_leI, nI_eq, nI_clamp, zn_in, zn_sub1lt, zn_M, zn_Ml, zn_Mg, zn_Mle, zn_Mge, zn_sub, Nat.reduceAdd, Nat.reduceMul, forall_eq, true_imp_iff, false_imp_iff, and_true, true_and, not_true_eq_false, not_false_eq_true, reduceCtorEq, imp_self, eq_self, false_and, and_false, implies_true]
      repeat' (first | omega | with_reducible refine And.intro ?_ ?_ | with_reducible intro g)
      all_goals exact K _ _ (y.st _) (am_u2_at _ _ _ _) (fy_U.st _) fy_UL.rfl
    · intro I L R h y Q K
      simp (disch := omega) only [wp_M_fits, wp_M_wrongSeen, wp_M_isHearer, wp_M_isTray, wp_M_isFrom, wp_M_refuse, h.n3, zj_0, zj_1, zj_2, zj_4, zj_6, zj_7, zj_8, zj_16, zj_20, zj_60, zj_63, zj_64, zj_99, zj_9999, nI_l, zk_lt, zk_le, zk_eq, zk_add, zk_in, hp, zc_e hp, zf_n hp, zc_t hp, zc_l hp, zc_m hp, zc_k hp, zi_0, zi_1, zi_2, zi_3, zi_4, zi_5, zi_6, zi_7, zi_8, zi_9, zi_10, zi_11, zi_12, zi_13, zi_14, zi_15, zi_16, zi_17, zi_18, zi_19, zi_20, zi_21, zi_22, zi_23, zi_24, zi_25, zi_26, zi_30, zi_31, zi_32, zi_34, zi_38, zi_59, zi_60, zi_61, zi_63, zi_64, zi_80, zi_96, zi_97, zi_99, zi_100, zi_122, zi_255, zi_256, zi_300, zi_398, zi_406, zi_900, zi_1000, zi_1024, zi_1624, zi_1662, zi_2030, zi_2031, zi_2068, zi_2258, zi_9999, zi_48, zi_57, zi_65536, zi_3257, zi_11483, zi_1000000, zi_729, zi_81, zi_m1, nI_add, pk_mul, nI_ltI, nI_leI, nI_eq, nI_clamp, zn_in, zn_sub1lt, zn_M, zn_Ml, zn_Mg, zn_Mle, zn_Mge, zn_sub, Nat.reduceAdd, Nat.reduceMul, forall_eq, true_imp_iff, false_imp_iff, and_true, true_and, not_true_eq_false, not_false_eq_true, reduceCtorEq, imp_self, eq_self, false_and, and_false, implies_true]
      repeat' (first | omega | with_reducible refine And.intro ?_ ?_ | with_reducible intro g)
      all_goals exact K _ _ (y.st _) (am_u2_at _ _ _ _) (fy_M.st _) fy_ML.rfl
  by_cases g1 : 3 < t
  · refine ⟨nM, 1, tm, ts, tv, ok, ?_, ?_⟩
    · intro c d I L R hcd h hc hz y Q K
      simp (disch := omega) only [wp_U_fits, wp_U_fitStatus, wp_U_trayStatus, wp_Tray_isMissing, wp_U_isTray, wp_Square_hasHearer, wp_U_within, wp_U_refused, hc, h.n3, zi_0, zi_1, zi_2, zi_3, zi_4, zi_5, zi_6, zi_7, zi_8, zi_9, zi_10, zi_11, zi_12, zi_13, zi_14, zi_15, zi_16, zi_17, zi_18, zi_19, zi_20, zi_21, zi_22, zi_23, zi_24, zi_25, zi_26, zi_30, zi_31, zi_32, zi_34, zi_38, zi_59, zi_60, zi_61, zi_63, zi_64, zi_80, zi_96, zi_97, zi_99, zi_100, zi_122, zi_255, zi_256, zi_300, zi_398, zi_406, zi_900, zi_1000, zi_1024, zi_1624, zi_1662, zi_2030, zi_2031, zi_2068, zi_2258, zi_9999, zi_48, zi_57, zi_65536, zi_3257, zi_11483, zi_1000000, zi_729, zi_81, zi_m1, nI_add, pk_mul, nI_ltI, nI_leI, nI_eq, nI_clamp, zn_in, zn_sub1lt, zn_M, zn_Ml, zn_Mg, zn_Mle, zn_Mge, zn_sub, Nat.reduceAdd, Nat.reduceMul, forall_eq, true_imp_iff, false_imp_iff, and_true, true_and, not_true_eq_false, not_false_eq_true, reduceCtorEq, imp_self, eq_self, false_and, and_false, implies_true]
      repeat' (first | omega | with_reducible refine And.intro ?_ ?_ | with_reducible intro g)
      all_goals exact K _ _ (y.st _) (am_u2_at _ _ _ _) (fy_U.st _) fy_UL.rfl
    · intro I L R h y Q K
      simp (disch := omega) only [wp_M_fits, wp_M_wrongSeen, wp_M_isHearer, wp_M_isTray, wp_M_isFrom, wp_M_refuse, h.n3, zj_0, zj_1, zj_2, zj_4, zj_6, zj_7, zj_8, zj_16, zj_20, zj_60, zj_63, zj_64, zj_99, zj_9999, nI_l, zk_lt, zk_le, zk_eq, zk_add, zk_in, zi_0, zi_1, zi_2, zi_3, zi_4, zi_5, zi_6, zi_7, zi_8, zi_9, zi_10, zi_11, zi_12, zi_13, zi_14, zi_15, zi_16, zi_17, zi_18, zi_19, zi_20, zi_21, zi_22, zi_23, zi_24, zi_25, zi_26, zi_30, zi_31, zi_32, zi_34, zi_38, zi_59, zi_60, zi_61, zi_63, zi_64, zi_80, zi_96, zi_97, zi_99, zi_100, zi_122, zi_255, zi_256, zi_300, zi_398, zi_406, zi_900, zi_1000, zi_1024, zi_1624, zi_1662, zi_2030, zi_2031, zi_2068, zi_2258, zi_9999, zi_48, zi_57, zi_65536, zi_3257, zi_11483, zi_1000000, zi_729, zi_81, zi_m1, nI_add, pk_mul, nI_ltI, nI_leI, nI_eq, nI_clamp, zn_in, zn_sub1lt, zn_M, zn_Ml, zn_Mg, zn_Mle, zn_Mge, zn_sub, Nat.reduceAdd, Nat.reduceMul, forall_eq, true_imp_iff, false_imp_iff, and_true, true_and, not_true_eq_false, not_false_eq_true, reduceCtorEq, imp_self, eq_self, false_and, and_false, implies_true]
      repeat' (first | omega | with_reducible refine And.intro ?_ ?_ | with_reducible intro g)
      all_goals exact K _ _ (y.st _) (am_u2_at _ _ _ _) (fy_M.st _) fy_ML.rfl
  have ht4 : t < 4 := by omega
  have ok1 := ok t ht4
  by_cases g2 : tm t = 0
  · refine ⟨nM, 2, tm, ts, tv, ok, ?_, ?_⟩
    · intro c d I L R hcd h hc hz y Q K
      simp (disch := omega) only [wp_U_fits, wp_U_fitStatus, wp_U_trayStatus, wp_Tray_isMissing, wp_U_isTray, wp_Square_hasHearer, wp_U_within, wp_U_refused, hc, h.n3, y.r ht4, y.no ht4 g2, zi_0, zi_1, zi_2, zi_3, zi_4, zi_5, zi_6, zi_7, zi_8, zi_9, zi_10, zi_11, zi_12, zi_13, zi_14, zi_15, zi_16, zi_17, zi_18, zi_19, zi_20, zi_21, zi_22, zi_23, zi_24, zi_25, zi_26, zi_30, zi_31, zi_32, zi_34, zi_38, zi_59, zi_60, zi_61, zi_63, zi_64, zi_80, zi_96, zi_97, zi_99, zi_100, zi_122, zi_255, zi_256, zi_300, zi_398, zi_406, zi_900, zi_1000, zi_1024, zi_1624, zi_1662, zi_2030, zi_2031, zi_2068, zi_2258, zi_9999, zi_48, zi_57, zi_65536, zi_3257, zi_11483, zi_1000000, zi_729, zi_81, zi_m1, nI_add, pk_mul, nI_ltI, nI_leI, nI_eq, nI_clamp, zn_in, zn_sub1lt, zn_M, zn_Ml, zn_Mg, zn_Mle, zn_Mge, zn_sub, Nat.reduceAdd, Nat.reduceMul, forall_eq, true_imp_iff, false_imp_iff, and_true, true_and, not_true_eq_false, not_false_eq_true, reduceCtorEq, imp_self, eq_self, false_and, and_false, implies_true]
      repeat' (first | omega | with_reducible refine And.intro ?_ ?_ | with_reducible intro g)
      all_goals exact K _ _ (y.st _) (am_u2_at _ _ _ _) (fy_U.st _) fy_UL.rfl
    · intro I L R h y Q K
      simp (disch := omega) only [wp_M_fits, wp_M_wrongSeen, wp_M_isHearer, wp_M_isTray, wp_M_isFrom, wp_M_refuse, h.n3, zj_0, zj_1, zj_2, zj_4, zj_6, zj_7, zj_8, zj_16, zj_20, zj_60, zj_63, zj_64, zj_99, zj_9999, nI_l, zk_lt, zk_le, zk_eq, zk_add, zk_in, y.no ht4 g2, zi_0, zi_1, zi_2, zi_3, zi_4, zi_5, zi_6, zi_7, zi_8, zi_9, zi_10, zi_11, zi_12, zi_13, zi_14, zi_15, zi_16, zi_17, zi_18, zi_19, zi_20, zi_21, zi_22, zi_23, zi_24, zi_25, zi_26, zi_30, zi_31, zi_32, zi_34, zi_38, zi_59, zi_60, zi_61, zi_63, zi_64, zi_80, zi_96, zi_97, zi_99, zi_100, zi_122, zi_255, zi_256, zi_300, zi_398, zi_406, zi_900, zi_1000, zi_1024, zi_1624, zi_1662, zi_2030, zi_2031, zi_2068, zi_2258, zi_9999, zi_48, zi_57, zi_65536, zi_3257, zi_11483, zi_1000000, zi_729, zi_81, zi_m1, nI_add, pk_mul, nI_ltI, nI_leI, nI_eq, nI_clamp, zn_in, zn_sub1lt, zn_M, zn_Ml, zn_Mg, zn_Mle, zn_Mge, zn_sub, Nat.reduceAdd, Nat.reduceMul, forall_eq, true_imp_iff, false_imp_iff, and_true, true_and, not_true_eq_false, not_false_eq_true, reduceCtorEq, imp_self, eq_self, false_and, and_false, implies_true]
      repeat' (first | omega | with_reducible refine And.intro ?_ ?_ | with_reducible intro g)
      all_goals exact K _ _ (y.st _) (am_u2_at _ _ _ _) (fy_M.st _) fy_ML.rfl
  by_cases g3 : tm t - 1 < 2 * n
  · refine ⟨nM, 3, tm, ts, tv, ok, ?_, ?_⟩
    · intro c d I L R hcd h hc hz y Q K
      simp (disch := omega) only [wp_U_fits, wp_U_fitStatus, wp_U_trayStatus, wp_Tray_isMissing, wp_U_isTray, wp_Square_hasHearer, wp_U_within, wp_U_refused, hc, h.n3, y.r ht4, y.so ht4 g2, y.mn ht4 g2, zi_0, zi_1, zi_2, zi_3, zi_4, zi_5, zi_6, zi_7, zi_8, zi_9, zi_10, zi_11, zi_12, zi_13, zi_14, zi_15, zi_16, zi_17, zi_18, zi_19, zi_20, zi_21, zi_22, zi_23, zi_24, zi_25, zi_26, zi_30, zi_31, zi_32, zi_34, zi_38, zi_59, zi_60, zi_61, zi_63, zi_64, zi_80, zi_96, zi_97, zi_99, zi_100, zi_122, zi_255, zi_256, zi_300, zi_398, zi_406, zi_900, zi_1000, zi_1024, zi_1624, zi_1662, zi_2030, zi_2031, zi_2068, zi_2258, zi_9999, zi_48, zi_57, zi_65536, zi_3257, zi_11483, zi_1000000, zi_729, zi_81, zi_m1, nI_add, pk_mul, nI_ltI, nI_leI, nI_eq, nI_clamp, zn_in, zn_sub1lt, zn_M, zn_Ml, zn_Mg, zn_Mle, zn_Mge, zn_sub, Nat.reduceAdd, Nat.reduceMul, forall_eq, true_imp_iff, false_imp_iff, and_true, true_and, not_true_eq_false, not_false_eq_true, reduceCtorEq, imp_self, eq_self, false_and, and_false, implies_true]
      repeat' (first | omega | with_reducible refine And.intro ?_ ?_ | with_reducible intro g)
      all_goals exact K _ _ (y.st _) (am_u2_at _ _ _ _) (fy_U.st _) fy_UL.rfl
    · intro I L R h y Q K
      simp (disch := omega) only [wp_M_fits, wp_M_wrongSeen, wp_M_isHearer, wp_M_isTray, wp_M_isFrom, wp_M_refuse, h.n3, zj_0, zj_1, zj_2, zj_4, zj_6, zj_7, zj_8, zj_16, zj_20, zj_60, zj_63, zj_64, zj_99, zj_9999, nI_l, zk_lt, zk_le, zk_eq, zk_add, zk_in, y.mn ht4 g2, zi_0, zi_1, zi_2, zi_3, zi_4, zi_5, zi_6, zi_7, zi_8, zi_9, zi_10, zi_11, zi_12, zi_13, zi_14, zi_15, zi_16, zi_17, zi_18, zi_19, zi_20, zi_21, zi_22, zi_23, zi_24, zi_25, zi_26, zi_30, zi_31, zi_32, zi_34, zi_38, zi_59, zi_60, zi_61, zi_63, zi_64, zi_80, zi_96, zi_97, zi_99, zi_100, zi_122, zi_255, zi_256, zi_300, zi_398, zi_406, zi_900, zi_1000, zi_1024, zi_1624, zi_1662, zi_2030, zi_2031, zi_2068, zi_2258, zi_9999, zi_48, zi_57, zi_65536, zi_3257, zi_11483, zi_1000000, zi_729, zi_81, zi_m1, nI_add, pk_mul, nI_ltI, nI_leI, nI_eq, nI_clamp, zn_in, zn_sub1lt, zn_M, zn_Ml, zn_Mg, zn_Mle, zn_Mge, zn_sub, Nat.reduceAdd, Nat.reduceMul, forall_eq, true_imp_iff, false_imp_iff, and_true, true_and, not_true_eq_false, not_false_eq_true, reduceCtorEq, imp_self, eq_self, false_and, and_false, implies_true]
      repeat' (first | omega | with_reducible refine And.intro ?_ ?_ | with_reducible intro g)
      all_goals exact K _ _ (y.st _) (am_u2_at _ _ _ _) (fy_M.st _) fy_ML.rfl
  by_cases gv : ∀ i, i < n → fg q tv t i
  rotate_left
  · refine ⟨nM, 5, tm, ts, tv, ok, ?_, ?_⟩
    · intro c d I L R hcd h hc hz y Q K
      simp (disch := omega) only [wp_U_fits, wp_U_fitStatus, wp_U_trayStatus, wp_Tray_isMissing, wp_U_isTray, wp_Square_hasHearer, wp_U_within, wp_U_refused, hc, h.n3, y.r ht4, y.so ht4 g2, y.mn ht4 g2, zi_0, zi_1, zi_2, zi_3, zi_4, zi_5, zi_6, zi_7, zi_8, zi_9, zi_10, zi_11, zi_12, zi_13, zi_14, zi_15, zi_16, zi_17, zi_18, zi_19, zi_20, zi_21, zi_22, zi_23, zi_24, zi_25, zi_26, zi_30, zi_31, zi_32, zi_34, zi_38, zi_59, zi_60, zi_61, zi_63, zi_64, zi_80, zi_96, zi_97, zi_99, zi_100, zi_122, zi_255, zi_256, zi_300, zi_398, zi_406, zi_900, zi_1000, zi_1024, zi_1624, zi_1662, zi_2030, zi_2031, zi_2068, zi_2258, zi_9999, zi_48, zi_57, zi_65536, zi_3257, zi_11483, zi_1000000, zi_729, zi_81, zi_m1, nI_add, pk_mul, nI_ltI, nI_leI, nI_eq, nI_clamp, zn_in, zn_sub1lt, zn_M, zn_Ml, zn_Mg, zn_Mle, zn_Mge, zn_sub, Nat.reduceAdd, Nat.reduceMul, forall_eq, true_imp_iff, false_imp_iff, and_true, true_and, not_true_eq_false, not_false_eq_true, reduceCtorEq, imp_self, eq_self, false_and, and_false, implies_true]
      repeat' (first | omega | with_reducible refine And.intro ?_ ?_ | with_reducible intro g)
      refine su_fitS hc h (by omega) y ht4 (by omega) (by omega) (fun z => absurd z gv) (fun z => ?_)
      try simp (disch := omega) only [zi_0, zi_1, zi_2, zi_3, zi_4, zi_5, zi_6, zi_7, zi_8, zi_9, zi_10, zi_11, zi_12, zi_13, zi_14, zi_15, zi_16, zi_17, zi_18, zi_19, zi_20, zi_21, zi_22, zi_23, zi_24, zi_25, zi_26, zi_30, zi_31, zi_32, zi_34, zi_38, zi_59, zi_60, zi_61, zi_63, zi_64, zi_80, zi_96, zi_97, zi_99, zi_100, zi_122, zi_255, zi_256, zi_300, zi_398, zi_406, zi_900, zi_1000, zi_1024, zi_1624, zi_1662, zi_2030, zi_2031, zi_2068, zi_2258, zi_9999, zi_48, zi_57, zi_65536, zi_3257, zi_11483, zi_1000000, zi_729, zi_81, zi_m1, nI_add, pk_mul, nI_ltI, nI_leI, nI_eq, nI_clamp, zn_in, zn_sub1lt, zn_M, zn_Ml, zn_Mg, zn_Mle, zn_Mge, zn_sub, Nat.reduceAdd, Nat.reduceMul, forall_eq, true_imp_iff, false_imp_iff, and_true, true_and, not_true_eq_false, not_false_eq_true, reduceCtorEq, imp_self, eq_self, false_and, and_false, implies_true]
      exact K _ _ (y.st _) (am_u2_at _ _ _ _) (fy_U.st _) fy_UL.rfl
    · intro I L R h y Q K
      simp (disch := omega) only [wp_M_fits, wp_M_wrongSeen, wp_M_isHearer, wp_M_isTray, wp_M_isFrom, wp_M_refuse, h.n3, zj_0, zj_1, zj_2, zj_4, zj_6, zj_7, zj_8, zj_16, zj_20, zj_60, zj_63, zj_64, zj_99, zj_9999, nI_l, zk_lt, zk_le, zk_eq, zk_add, zk_in, y.mn ht4 g2, zi_0, zi_1, zi_2, zi_3, zi_4, zi_5, zi_6, zi_7, zi_8, zi_9, zi_10, zi_11, zi_12, zi_13, zi_14, zi_15, zi_16, zi_17, zi_18, zi_19, zi_20, zi_21, zi_22, zi_23, zi_24, zi_25, zi_26, zi_30, zi_31, zi_32, zi_34, zi_38, zi_59, zi_60, zi_61, zi_63, zi_64, zi_80, zi_96, zi_97, zi_99, zi_100, zi_122, zi_255, zi_256, zi_300, zi_398, zi_406, zi_900, zi_1000, zi_1024, zi_1624, zi_1662, zi_2030, zi_2031, zi_2068, zi_2258, zi_9999, zi_48, zi_57, zi_65536, zi_3257, zi_11483, zi_1000000, zi_729, zi_81, zi_m1, nI_add, pk_mul, nI_ltI, nI_leI, nI_eq, nI_clamp, zn_in, zn_sub1lt, zn_M, zn_Ml, zn_Mg, zn_Mle, zn_Mge, zn_sub, Nat.reduceAdd, Nat.reduceMul, forall_eq, true_imp_iff, false_imp_iff, and_true, true_and, not_true_eq_false, not_false_eq_true, reduceCtorEq, imp_self, eq_self, false_and, and_false, implies_true]
      repeat' (first | omega | with_reducible refine And.intro ?_ ?_ | with_reducible intro g)
      refine sm_fitS h (by omega) y ht4 (by omega) (by omega) (fun z => absurd z gv) (fun z => ?_)
      try simp (disch := omega) only [zi_0, zi_1, zi_2, zi_3, zi_4, zi_5, zi_6, zi_7, zi_8, zi_9, zi_10, zi_11, zi_12, zi_13, zi_14, zi_15, zi_16, zi_17, zi_18, zi_19, zi_20, zi_21, zi_22, zi_23, zi_24, zi_25, zi_26, zi_30, zi_31, zi_32, zi_34, zi_38, zi_59, zi_60, zi_61, zi_63, zi_64, zi_80, zi_96, zi_97, zi_99, zi_100, zi_122, zi_255, zi_256, zi_300, zi_398, zi_406, zi_900, zi_1000, zi_1024, zi_1624, zi_1662, zi_2030, zi_2031, zi_2068, zi_2258, zi_9999, zi_48, zi_57, zi_65536, zi_3257, zi_11483, zi_1000000, zi_729, zi_81, zi_m1, nI_add, pk_mul, nI_ltI, nI_leI, nI_eq, nI_clamp, zn_in, zn_sub1lt, zn_M, zn_Ml, zn_Mg, zn_Mle, zn_Mge, zn_sub, Nat.reduceAdd, Nat.reduceMul, forall_eq, true_imp_iff, false_imp_iff, and_true, true_and, not_true_eq_false, not_false_eq_true, reduceCtorEq, imp_self, eq_self, false_and, and_false, implies_true]
      exact ⟨fun g => absurd g (by omega), fun _ => K _ _ (y.st _) (am_u2_at _ _ _ _) (fy_M.st _) fy_ML.rfl⟩
  refine ⟨nI (zsum (fun l => (fi (fun i => (tv t (2 * i)).toInt.toNat) (fun i => (tv t (2 * i + 1)).toInt.toNat) l n 0 (sq_far (q 0) (q (10 + 4 * j)) (q 6))).toNat) (2 ^ q 2)), 0, tm, ts, tv, ok, ?_, ?_⟩
  · intro c d I L R hcd h hc hz y Q K
    simp (disch := omega) only [wp_U_fits, wp_U_fitStatus, wp_U_trayStatus, wp_Tray_isMissing, wp_U_isTray, wp_Square_hasHearer, wp_U_within, wp_U_refused, hc, h.n3, y.r ht4, y.so ht4 g2, y.mn ht4 g2, zi_0, zi_1, zi_2, zi_3, zi_4, zi_5, zi_6, zi_7, zi_8, zi_9, zi_10, zi_11, zi_12, zi_13, zi_14, zi_15, zi_16, zi_17, zi_18, zi_19, zi_20, zi_21, zi_22, zi_23, zi_24, zi_25, zi_26, zi_30, zi_31, zi_32, zi_34, zi_38, zi_59, zi_60, zi_61, zi_63, zi_64, zi_80, zi_96, zi_97, zi_99, zi_100, zi_122, zi_255, zi_256, zi_300, zi_398, zi_406, zi_900, zi_1000, zi_1024, zi_1624, zi_1662, zi_2030, zi_2031, zi_2068, zi_2258, zi_9999, zi_48, zi_57, zi_65536, zi_3257, zi_11483, zi_1000000, zi_729, zi_81, zi_m1, nI_add, pk_mul, nI_ltI, nI_leI, nI_eq, nI_clamp, zn_in, zn_sub1lt, zn_M, zn_Ml, zn_Mg, zn_Mle, zn_Mge, zn_sub, Nat.reduceAdd, Nat.reduceMul, forall_eq, true_imp_iff, false_imp_iff, and_true, true_and, not_true_eq_false, not_false_eq_true, reduceCtorEq, imp_self, eq_self, false_and, and_false, implies_true]
    repeat' (first | omega | with_reducible refine And.intro ?_ ?_ | with_reducible intro g)
    refine su_fitS hc h (by omega) y ht4 (by omega) (by omega) (fun z => ?_) (fun z => absurd gv z)
    try simp (disch := omega) only [zi_0, zi_1, zi_2, zi_3, zi_4, zi_5, zi_6, zi_7, zi_8, zi_9, zi_10, zi_11, zi_12, zi_13, zi_14, zi_15, zi_16, zi_17, zi_18, zi_19, zi_20, zi_21, zi_22, zi_23, zi_24, zi_25, zi_26, zi_30, zi_31, zi_32, zi_34, zi_38, zi_59, zi_60, zi_61, zi_63, zi_64, zi_80, zi_96, zi_97, zi_99, zi_100, zi_122, zi_255, zi_256, zi_300, zi_398, zi_406, zi_900, zi_1000, zi_1024, zi_1624, zi_1662, zi_2030, zi_2031, zi_2068, zi_2258, zi_9999, zi_48, zi_57, zi_65536, zi_3257, zi_11483, zi_1000000, zi_729, zi_81, zi_m1, nI_add, pk_mul, nI_ltI, nI_leI, nI_eq, nI_clamp, zn_in, zn_sub1lt, zn_M, zn_Ml, zn_Mg, zn_Mle, zn_Mge, zn_sub, Nat.reduceAdd, Nat.reduceMul, forall_eq, true_imp_iff, false_imp_iff, and_true, true_and, not_true_eq_false, not_false_eq_true, reduceCtorEq, imp_self, eq_self, false_and, and_false, implies_true]
    refine zl_up (P := fun f m => wl_U_fits_27 L R 0 (nI j) (nI t) (nI n) (fun a I1 => Q a I1 L) f I (nI (zsum (fun l => (fi (fun i => (tv t (2 * i)).toInt.toNat) (fun i => (tv t (2 * i + 1)).toInt.toNat) l n 0 (sq_far (q 0) (q (10 + 4 * j)) (q 6))).toNat) m)) (nI m)) (2 ^ q 2) (fun f => ?_) (fun f m hm ih => ?_) 0 (by omega)
    · simp (disch := omega) only [wl_U_fits_27, wp_U_answered, hc, h.n2, zn_shl, zi_0, zi_1, zi_2, zi_3, zi_4, zi_5, zi_6, zi_7, zi_8, zi_9, zi_10, zi_11, zi_12, zi_13, zi_14, zi_15, zi_16, zi_17, zi_18, zi_19, zi_20, zi_21, zi_22, zi_23, zi_24, zi_25, zi_26, zi_30, zi_31, zi_32, zi_34, zi_38, zi_59, zi_60, zi_61, zi_63, zi_64, zi_80, zi_96, zi_97, zi_99, zi_100, zi_122, zi_255, zi_256, zi_300, zi_398, zi_406, zi_900, zi_1000, zi_1024, zi_1624, zi_1662, zi_2030, zi_2031, zi_2068, zi_2258, zi_9999, zi_48, zi_57, zi_65536, zi_3257, zi_11483, zi_1000000, zi_729, zi_81, zi_m1, nI_add, pk_mul, nI_ltI, nI_leI, nI_eq, nI_clamp, zn_in, zn_sub1lt, zn_M, zn_Ml, zn_Mg, zn_Mle, zn_Mge, zn_sub, Nat.reduceAdd, Nat.reduceMul, forall_eq, true_imp_iff, false_imp_iff, and_true, true_and, not_true_eq_false, not_false_eq_true, reduceCtorEq, imp_self, eq_self, false_and, and_false, implies_true]
      exact ⟨fun _ => K _ _ (y.st _) (am_u2_at _ _ _ _) (fy_U.st _) fy_UL.rfl, fun g => absurd (Nat.le_refl _) g⟩
    · rw [zsum] at ih
      simp (disch := omega) only [wl_U_fits_27, hc, h.n2, zn_shl, y.r ht4, zi_0, zi_1, zi_2, zi_3, zi_4, zi_5, zi_6, zi_7, zi_8, zi_9, zi_10, zi_11, zi_12, zi_13, zi_14, zi_15, zi_16, zi_17, zi_18, zi_19, zi_20, zi_21, zi_22, zi_23, zi_24, zi_25, zi_26, zi_30, zi_31, zi_32, zi_34, zi_38, zi_59, zi_60, zi_61, zi_63, zi_64, zi_80, zi_96, zi_97, zi_99, zi_100, zi_122, zi_255, zi_256, zi_300, zi_398, zi_406, zi_900, zi_1000, zi_1024, zi_1624, zi_1662, zi_2030, zi_2031, zi_2068, zi_2258, zi_9999, zi_48, zi_57, zi_65536, zi_3257, zi_11483, zi_1000000, zi_729, zi_81, zi_m1, nI_add, pk_mul, nI_ltI, nI_leI, nI_eq, nI_clamp, zn_in, zn_sub1lt, zn_M, zn_Ml, zn_Mg, zn_Mle, zn_Mge, zn_sub, Nat.reduceAdd, Nat.reduceMul]
      refine ⟨fun g => absurd g (by omega), fun _ => ⟨by omega, su_fit h hc okq y ht4 (by omega) (by omega) hj3 (by omega) gv ⟨fun e => ?_, fun e => ?_⟩⟩⟩
      · rw [e] at ih; exact ih
      · rw [e] at ih; exact ih
  · intro I L R h y Q K
    simp (disch := omega) only [wp_M_fits, wp_M_wrongSeen, wp_M_isHearer, wp_M_isTray, wp_M_isFrom, wp_M_refuse, h.n3, zj_0, zj_1, zj_2, zj_4, zj_6, zj_7, zj_8, zj_16, zj_20, zj_60, zj_63, zj_64, zj_99, zj_9999, nI_l, zk_lt, zk_le, zk_eq, zk_add, zk_in, y.mn ht4 g2, zi_0, zi_1, zi_2, zi_3, zi_4, zi_5, zi_6, zi_7, zi_8, zi_9, zi_10, zi_11, zi_12, zi_13, zi_14, zi_15, zi_16, zi_17, zi_18, zi_19, zi_20, zi_21, zi_22, zi_23, zi_24, zi_25, zi_26, zi_30, zi_31, zi_32, zi_34, zi_38, zi_59, zi_60, zi_61, zi_63, zi_64, zi_80, zi_96, zi_97, zi_99, zi_100, zi_122, zi_255, zi_256, zi_300, zi_398, zi_406, zi_900, zi_1000, zi_1024, zi_1624, zi_1662, zi_2030, zi_2031, zi_2068, zi_2258, zi_9999, zi_48, zi_57, zi_65536, zi_3257, zi_11483, zi_1000000, zi_729, zi_81, zi_m1, nI_add, pk_mul, nI_ltI, nI_leI, nI_eq, nI_clamp, zn_in, zn_sub1lt, zn_M, zn_Ml, zn_Mg, zn_Mle, zn_Mge, zn_sub, Nat.reduceAdd, Nat.reduceMul, forall_eq, true_imp_iff, false_imp_iff, and_true, true_and, not_true_eq_false, not_false_eq_true, reduceCtorEq, imp_self, eq_self, false_and, and_false, implies_true]
    repeat' (first | omega | with_reducible refine And.intro ?_ ?_ | with_reducible intro g)
    refine sm_fitS h (by omega) y ht4 (by omega) (by omega) (fun z => ?_) (fun z => absurd gv z)
    try simp (disch := omega) only [zi_0, zi_1, zi_2, zi_3, zi_4, zi_5, zi_6, zi_7, zi_8, zi_9, zi_10, zi_11, zi_12, zi_13, zi_14, zi_15, zi_16, zi_17, zi_18, zi_19, zi_20, zi_21, zi_22, zi_23, zi_24, zi_25, zi_26, zi_30, zi_31, zi_32, zi_34, zi_38, zi_59, zi_60, zi_61, zi_63, zi_64, zi_80, zi_96, zi_97, zi_99, zi_100, zi_122, zi_255, zi_256, zi_300, zi_398, zi_406, zi_900, zi_1000, zi_1024, zi_1624, zi_1662, zi_2030, zi_2031, zi_2068, zi_2258, zi_9999, zi_48, zi_57, zi_65536, zi_3257, zi_11483, zi_1000000, zi_729, zi_81, zi_m1, nI_add, pk_mul, nI_ltI, nI_leI, nI_eq, nI_clamp, zn_in, zn_sub1lt, zn_M, zn_Ml, zn_Mg, zn_Mle, zn_Mge, zn_sub, Nat.reduceAdd, Nat.reduceMul, forall_eq, true_imp_iff, false_imp_iff, and_true, true_and, not_true_eq_false, not_false_eq_true, reduceCtorEq, imp_self, eq_self, false_and, and_false, implies_true]
    refine ⟨fun _ => ?_, fun g => absurd (by omega) g⟩
    refine zl_up (P := fun f m => wl_M_fits_27 L R 103 (nI j) (nI t) (nI n) (fun a I1 => Q a I1 L) f I (nI (zsum (fun l => (fi (fun i => (tv t (2 * i)).toInt.toNat) (fun i => (tv t (2 * i + 1)).toInt.toNat) l n 0 (sq_far (q 0) (q (10 + 4 * j)) (q 6))).toNat) m)) (nI m)) (2 ^ q 2) (fun f => ?_) (fun f m hm ih => ?_) 0 (by omega)
    · simp (disch := omega) only [wl_M_fits_27, wp_M_gives, h.n2, zn_shl, zi_0, zi_1, zi_2, zi_3, zi_4, zi_5, zi_6, zi_7, zi_8, zi_9, zi_10, zi_11, zi_12, zi_13, zi_14, zi_15, zi_16, zi_17, zi_18, zi_19, zi_20, zi_21, zi_22, zi_23, zi_24, zi_25, zi_26, zi_30, zi_31, zi_32, zi_34, zi_38, zi_59, zi_60, zi_61, zi_63, zi_64, zi_80, zi_96, zi_97, zi_99, zi_100, zi_122, zi_255, zi_256, zi_300, zi_398, zi_406, zi_900, zi_1000, zi_1024, zi_1624, zi_1662, zi_2030, zi_2031, zi_2068, zi_2258, zi_9999, zi_48, zi_57, zi_65536, zi_3257, zi_11483, zi_1000000, zi_729, zi_81, zi_m1, nI_add, pk_mul, nI_ltI, nI_leI, nI_eq, nI_clamp, zn_in, zn_sub1lt, zn_M, zn_Ml, zn_Mg, zn_Mle, zn_Mge, zn_sub, Nat.reduceAdd, Nat.reduceMul, forall_eq, true_imp_iff, false_imp_iff, and_true, true_and, not_true_eq_false, not_false_eq_true, reduceCtorEq, imp_self, eq_self, false_and, and_false, implies_true]
      exact ⟨fun _ => K _ _ (y.st _) (am_u2_at _ _ _ _) (fy_M.st _) fy_ML.rfl, fun g => absurd (Nat.le_refl _) g⟩
    · rw [zsum] at ih
      simp (disch := omega) only [wl_M_fits_27, h.n2, zn_shl, zi_0, zi_1, zi_2, zi_3, zi_4, zi_5, zi_6, zi_7, zi_8, zi_9, zi_10, zi_11, zi_12, zi_13, zi_14, zi_15, zi_16, zi_17, zi_18, zi_19, zi_20, zi_21, zi_22, zi_23, zi_24, zi_25, zi_26, zi_30, zi_31, zi_32, zi_34, zi_38, zi_59, zi_60, zi_61, zi_63, zi_64, zi_80, zi_96, zi_97, zi_99, zi_100, zi_122, zi_255, zi_256, zi_300, zi_398, zi_406, zi_900, zi_1000, zi_1024, zi_1624, zi_1662, zi_2030, zi_2031, zi_2068, zi_2258, zi_9999, zi_48, zi_57, zi_65536, zi_3257, zi_11483, zi_1000000, zi_729, zi_81, zi_m1, nI_add, pk_mul, nI_ltI, nI_leI, nI_eq, nI_clamp, zn_in, zn_sub1lt, zn_M, zn_Ml, zn_Mg, zn_Mle, zn_Mge, zn_sub, Nat.reduceAdd, Nat.reduceMul]
      refine ⟨fun g => absurd g (by omega), fun _ => sm_fit h okq y ht4 (by omega) (by omega) hj3 (by omega) gv ⟨fun e => ?_, fun e => ?_⟩⟩
      · rw [e] at ih; exact ih
      · rw [e] at ih; exact ih
theorem op_sure (okq : sq_Ok q) (ok : tr_Ok tm ts) (p1 p2 p3 : Int32) : si_Y q tm ts tv (fun I L R Q => wp_U_sure I L R 0 p1 p2 p3 (fun a I1 => Q a I1 L)) (fun I L R Q => wp_M_sure I L R 103 p1 p2 p3 (fun a I1 => Q a I1 L)) := by
  have o := okq.1.2.2.1
  have p64 : 2 ^ q 2 ≤ 64 ∧ 1 ≤ 2 ^ q 2 := zn_pow6 o.1
  rcases zc p1 with hp | ⟨j, hj, rfl⟩
  · refine ⟨nM, 1, tm, ts, tv, ok, ?_, ?_⟩
    · intro c d I L R hcd h hc hz y Q K
      simp (disch := omega) only [wp_U_sure, wp_U_fitStatus, wp_U_trayStatus, wp_Tray_isMissing, wp_U_isTray, wp_Square_hasHearer, wp_U_within, wp_U_refused, hc, h.n3, hp, zc_t hp, zc_l hp, zc_m hp, zc_k hp, zi_0, zi_1, zi_2, zi_3, zi_4, zi_5, zi_6, zi_7, zi_8, zi_9, zi_10, zi_11, zi_12, zi_13, zi_14, zi_15, zi_16, zi_17, zi_18, zi_19, zi_20, zi_21, zi_22, zi_23, zi_24, zi_25, zi_26, zi_30, zi_31, zi_32, zi_34, zi_38, zi_59, zi_60, zi_61, zi_63, zi_64, zi_80, zi_96, zi_97, zi_99, zi_100, zi_122, zi_255, zi_256, zi_300, zi_398, zi_406, zi_900, zi_1000, zi_1024, zi_1624, zi_1662, zi_2030, zi_2031, zi_2068, zi_2258, zi_9999, zi_48, zi_57, zi_65536, zi_3257, zi_11483, zi_1000000, zi_729, zi_81, zi_m1, nI_add, pk_mul, nI_ltI, nI_leI, nI_eq, nI_clamp, zn_in, zn_sub1lt, zn_M, zn_Ml, zn_Mg, zn_Mle, zn_Mge, zn_sub, Nat.reduceAdd, Nat.reduceMul, forall_eq, true_imp_iff, false_imp_iff, and_true, true_and, not_true_eq_false, not_false_eq_true, reduceCtorEq, imp_self, eq_self, false_and, and_false, implies_true]
      repeat' (first | omega | with_reducible refine And.intro ?_ ?_ | with_reducible intro g)
      all_goals exact K _ _ (y.st _) (am_u2_at _ _ _ _) (fy_U.st _) fy_UL.rfl
    · intro I L R h y Q K
      simp (disch := omega) only [wp_M_sure, h.n2, zn_shl, wp_M_wrongSeen, wp_M_isHearer, wp_M_isTray, wp_M_isFrom, wp_M_refuse, h.n3, zj_0, zj_1, zj_2, zj_4, zj_6, zj_7, zj_8, zj_16, zj_20, zj_60, zj_63, zj_64, zj_99, zj_9999, nI_l, zk_lt, zk_le, zk_eq, zk_add, zk_in, hp, zc_e hp, zf_n hp, zc_t hp, zc_l hp, zc_m hp, zc_k hp, zi_0, zi_1, zi_2, zi_3, zi_4, zi_5, zi_6, zi_7, zi_8, zi_9, zi_10, zi_11, zi_12, zi_13, zi_14, zi_15, zi_16, zi_17, zi_18, zi_19, zi_20, zi_21, zi_22, zi_23, zi_24, zi_25, zi_26, zi_30, zi_31, zi_32, zi_34, zi_38, zi_59, zi_60, zi_61, zi_63, zi_64, zi_80, zi_96, zi_97, zi_99, zi_100, zi_122, zi_255, zi_256, zi_300, zi_398, zi_406, zi_900, zi_1000, zi_1024, zi_1624, zi_1662, zi_2030, zi_2031, zi_2068, zi_2258, zi_9999, zi_48, zi_57, zi_65536, zi_3257, zi_11483, zi_1000000, zi_729, zi_81, zi_m1, nI_add, pk_mul, nI_ltI, nI_leI, nI_eq, nI_clamp, zn_in, zn_sub1lt, zn_M, zn_Ml, zn_Mg, zn_Mle, zn_Mge, zn_sub, Nat.reduceAdd, Nat.reduceMul, forall_eq, true_imp_iff, false_imp_iff, and_true, true_and, not_true_eq_false, not_false_eq_true, reduceCtorEq, imp_self, eq_self, false_and, and_false, implies_true]
      repeat' (first | omega | with_reducible refine And.intro ?_ ?_ | with_reducible intro g)
      all_goals exact K _ _ (y.st _) (am_u2_at _ _ _ _) (fy_M.st _) fy_ML.rfl
  by_cases g : q 3 ≤ j
  · refine ⟨nM, 1, tm, ts, tv, ok, ?_, ?_⟩
    · intro c d I L R hcd h hc hz y Q K
      simp (disch := omega) only [wp_U_sure, wp_U_fitStatus, wp_U_trayStatus, wp_Tray_isMissing, wp_U_isTray, wp_Square_hasHearer, wp_U_within, wp_U_refused, hc, h.n3, zi_0, zi_1, zi_2, zi_3, zi_4, zi_5, zi_6, zi_7, zi_8, zi_9, zi_10, zi_11, zi_12, zi_13, zi_14, zi_15, zi_16, zi_17, zi_18, zi_19, zi_20, zi_21, zi_22, zi_23, zi_24, zi_25, zi_26, zi_30, zi_31, zi_32, zi_34, zi_38, zi_59, zi_60, zi_61, zi_63, zi_64, zi_80, zi_96, zi_97, zi_99, zi_100, zi_122, zi_255, zi_256, zi_300, zi_398, zi_406, zi_900, zi_1000, zi_1024, zi_1624, zi_1662, zi_2030, zi_2031, zi_2068, zi_2258, zi_9999, zi_48, zi_57, zi_65536, zi_3257, zi_11483, zi_1000000, zi_729, zi_81, zi_m1, nI_add, pk_mul, nI_ltI, nI_leI, nI_eq, nI_clamp, zn_in, zn_sub1lt, zn_M, zn_Ml, zn_Mg, zn_Mle, zn_Mge, zn_sub, Nat.reduceAdd, Nat.reduceMul, forall_eq, true_imp_iff, false_imp_iff, and_true, true_and, not_true_eq_false, not_false_eq_true, reduceCtorEq, imp_self, eq_self, false_and, and_false, implies_true]
      repeat' (first | omega | with_reducible refine And.intro ?_ ?_ | with_reducible intro g)
      all_goals exact K _ _ (y.st _) (am_u2_at _ _ _ _) (fy_U.st _) fy_UL.rfl
    · intro I L R h y Q K
      simp (disch := omega) only [wp_M_sure, h.n2, zn_shl, wp_M_wrongSeen, wp_M_isHearer, wp_M_isTray, wp_M_isFrom, wp_M_refuse, h.n3, zj_0, zj_1, zj_2, zj_4, zj_6, zj_7, zj_8, zj_16, zj_20, zj_60, zj_63, zj_64, zj_99, zj_9999, nI_l, zk_lt, zk_le, zk_eq, zk_add, zk_in, zi_0, zi_1, zi_2, zi_3, zi_4, zi_5, zi_6, zi_7, zi_8, zi_9, zi_10, zi_11, zi_12, zi_13, zi_14, zi_15, zi_16, zi_17, zi_18, zi_19, zi_20, zi_21, zi_22, zi_23, zi_24, zi_25, zi_26, zi_30, zi_31, zi_32, zi_34, zi_38, zi_59, zi_60, zi_61, zi_63, zi_64, zi_80, zi_96, zi_97, zi_99, zi_100, zi_122, zi_255, zi_256, zi_300, zi_398, zi_406, zi_900, zi_1000, zi_1024, zi_1624, zi_1662, zi_2030, zi_2031, zi_2068, zi_2258, zi_9999, zi_48, zi_57, zi_65536, zi_3257, zi_11483, zi_1000000, zi_729, zi_81, zi_m1, nI_add, pk_mul, nI_ltI, nI_leI, nI_eq, nI_clamp, zn_in, zn_sub1lt, zn_M, zn_Ml, zn_Mg, zn_Mle, zn_Mge, zn_sub, Nat.reduceAdd, Nat.reduceMul, forall_eq, true_imp_iff, false_imp_iff, and_true, true_and, not_true_eq_false, not_false_eq_true, reduceCtorEq, imp_self, eq_self, false_and, and_false, implies_true]
      repeat' (first | omega | with_reducible refine And.intro ?_ ?_ | with_reducible intro g)
      all_goals exact K _ _ (y.st _) (am_u2_at _ _ _ _) (fy_M.st _) fy_ML.rfl
  have hj3 : j < q 3 := by omega
  rcases zc p3 with hp | ⟨n, hn, rfl⟩
  · refine ⟨nM, 1, tm, ts, tv, ok, ?_, ?_⟩
    · intro c d I L R hcd h hc hz y Q K
      simp (disch := omega) only [wp_U_sure, wp_U_fitStatus, wp_U_trayStatus, wp_Tray_isMissing, wp_U_isTray, wp_Square_hasHearer, wp_U_within, wp_U_refused, hc, h.n3, hp, zc_e hp, zc_t hp, zc_l hp, zc_m hp, zc_k hp, zi_0, zi_1, zi_2, zi_3, zi_4, zi_5, zi_6, zi_7, zi_8, zi_9, zi_10, zi_11, zi_12, zi_13, zi_14, zi_15, zi_16, zi_17, zi_18, zi_19, zi_20, zi_21, zi_22, zi_23, zi_24, zi_25, zi_26, zi_30, zi_31, zi_32, zi_34, zi_38, zi_59, zi_60, zi_61, zi_63, zi_64, zi_80, zi_96, zi_97, zi_99, zi_100, zi_122, zi_255, zi_256, zi_300, zi_398, zi_406, zi_900, zi_1000, zi_1024, zi_1624, zi_1662, zi_2030, zi_2031, zi_2068, zi_2258, zi_9999, zi_48, zi_57, zi_65536, zi_3257, zi_11483, zi_1000000, zi_729, zi_81, zi_m1, nI_add, pk_mul, nI_ltI, nI_leI, nI_eq, nI_clamp, zn_in, zn_sub1lt, zn_M, zn_Ml, zn_Mg, zn_Mle, zn_Mge, zn_sub, Nat.reduceAdd, Nat.reduceMul, forall_eq, true_imp_iff, false_imp_iff, and_true, true_and, not_true_eq_false, not_false_eq_true, reduceCtorEq, imp_self, eq_self, false_and, and_false, implies_true]
      repeat' (first | omega | with_reducible refine And.intro ?_ ?_ | with_reducible intro g)
      all_goals exact K _ _ (y.st _) (am_u2_at _ _ _ _) (fy_U.st _) fy_UL.rfl
    · intro I L R h y Q K
      simp (disch := omega) only [wp_M_sure, h.n2, zn_shl, wp_M_wrongSeen, wp_M_isHearer, wp_M_isTray, wp_M_isFrom, wp_M_refuse, h.n3, zj_0, zj_1, zj_2, zj_4, zj_6, zj_7, zj_8, zj_16, zj_20, zj_60, zj_63, zj_64, zj_99, zj_9999, nI_l, zk_lt, zk_le, zk_eq, zk_add, zk_in, hp, zc_e hp, zf_n hp, zc_t hp, zc_l hp, zc_m hp, zc_k hp, zi_0, zi_1, zi_2, zi_3, zi_4, zi_5, zi_6, zi_7, zi_8, zi_9, zi_10, zi_11, zi_12, zi_13, zi_14, zi_15, zi_16, zi_17, zi_18, zi_19, zi_20, zi_21, zi_22, zi_23, zi_24, zi_25, zi_26, zi_30, zi_31, zi_32, zi_34, zi_38, zi_59, zi_60, zi_61, zi_63, zi_64, zi_80, zi_96, zi_97, zi_99, zi_100, zi_122, zi_255, zi_256, zi_300, zi_398, zi_406, zi_900, zi_1000, zi_1024, zi_1624, zi_1662, zi_2030, zi_2031, zi_2068, zi_2258, zi_9999, zi_48, zi_57, zi_65536, zi_3257, zi_11483, zi_1000000, zi_729, zi_81, zi_m1, nI_add, pk_mul, nI_ltI, nI_leI, nI_eq, nI_clamp, zn_in, zn_sub1lt, zn_M, zn_Ml, zn_Mg, zn_Mle, zn_Mge, zn_sub, Nat.reduceAdd, Nat.reduceMul, forall_eq, true_imp_iff, false_imp_iff, and_true, true_and, not_true_eq_false, not_false_eq_true, reduceCtorEq, imp_self, eq_self, false_and, and_false, implies_true]
      repeat' (first | omega | with_reducible refine And.intro ?_ ?_ | with_reducible intro g)
      all_goals exact K _ _ (y.st _) (am_u2_at _ _ _ _) (fy_M.st _) fy_ML.rfl
  by_cases gn : 20 < n
  · refine ⟨nM, 1, tm, ts, tv, ok, ?_, ?_⟩
    · intro c d I L R hcd h hc hz y Q K
      simp (disch := omega) only [wp_U_sure, wp_U_fitStatus, wp_U_trayStatus, wp_Tray_isMissing, wp_U_isTray, wp_Square_hasHearer, wp_U_within, wp_U_refused, hc, h.n3, zi_0, zi_1, zi_2, zi_3, zi_4, zi_5, zi_6, zi_7, zi_8, zi_9, zi_10, zi_11, zi_12, zi_13, zi_14, zi_15, zi_16, zi_17, zi_18, zi_19, zi_20, zi_21, zi_22, zi_23, zi_24, zi_25, zi_26, zi_30, zi_31, zi_32, zi_34, zi_38, zi_59, zi_60, zi_61, zi_63, zi_64, zi_80, zi_96, zi_97, zi_99, zi_100, zi_122, zi_255, zi_256, zi_300, zi_398, zi_406, zi_900, zi_1000, zi_1024, zi_1624, zi_1662, zi_2030, zi_2031, zi_2068, zi_2258, zi_9999, zi_48, zi_57, zi_65536, zi_3257, zi_11483, zi_1000000, zi_729, zi_81, zi_m1, nI_add, pk_mul, nI_ltI, nI_leI, nI_eq, nI_clamp, zn_in, zn_sub1lt, zn_M, zn_Ml, zn_Mg, zn_Mle, zn_Mge, zn_sub, Nat.reduceAdd, Nat.reduceMul, forall_eq, true_imp_iff, false_imp_iff, and_true, true_and, not_true_eq_false, not_false_eq_true, reduceCtorEq, imp_self, eq_self, false_and, and_false, implies_true]
      repeat' (first | omega | with_reducible refine And.intro ?_ ?_ | with_reducible intro g)
      all_goals exact K _ _ (y.st _) (am_u2_at _ _ _ _) (fy_U.st _) fy_UL.rfl
    · intro I L R h y Q K
      simp (disch := omega) only [wp_M_sure, h.n2, zn_shl, wp_M_wrongSeen, wp_M_isHearer, wp_M_isTray, wp_M_isFrom, wp_M_refuse, h.n3, zj_0, zj_1, zj_2, zj_4, zj_6, zj_7, zj_8, zj_16, zj_20, zj_60, zj_63, zj_64, zj_99, zj_9999, nI_l, zk_lt, zk_le, zk_eq, zk_add, zk_in, zi_0, zi_1, zi_2, zi_3, zi_4, zi_5, zi_6, zi_7, zi_8, zi_9, zi_10, zi_11, zi_12, zi_13, zi_14, zi_15, zi_16, zi_17, zi_18, zi_19, zi_20, zi_21, zi_22, zi_23, zi_24, zi_25, zi_26, zi_30, zi_31, zi_32, zi_34, zi_38, zi_59, zi_60, zi_61, zi_63, zi_64, zi_80, zi_96, zi_97, zi_99, zi_100, zi_122, zi_255, zi_256, zi_300, zi_398, zi_406, zi_900, zi_1000, zi_1024, zi_1624, zi_1662, zi_2030, zi_2031, zi_2068, zi_2258, zi_9999, zi_48, zi_57, zi_65536, zi_3257, zi_11483, zi_1000000, zi_729, zi_81, zi_m1, nI_add, pk_mul, nI_ltI, nI_leI, nI_eq, nI_clamp, zn_in, zn_sub1lt, zn_M, zn_Ml, zn_Mg, zn_Mle, zn_Mge, zn_sub, Nat.reduceAdd, Nat.reduceMul, forall_eq, true_imp_iff, false_imp_iff, and_true, true_and, not_true_eq_false, not_false_eq_true, reduceCtorEq, imp_self, eq_self, false_and, and_false, implies_true]
      repeat' (first | omega | with_reducible refine And.intro ?_ ?_ | with_reducible intro g)
      all_goals exact K _ _ (y.st _) (am_u2_at _ _ _ _) (fy_M.st _) fy_ML.rfl
  rcases zc p2 with hp | ⟨t, ht, rfl⟩
  · refine ⟨nM, 1, tm, ts, tv, ok, ?_, ?_⟩
    · intro c d I L R hcd h hc hz y Q K
      simp (disch := omega) only [wp_U_sure, wp_U_fitStatus, wp_U_trayStatus, wp_Tray_isMissing, wp_U_isTray, wp_Square_hasHearer, wp_U_within, wp_U_refused, hc, h.n3, hp, zc_t hp, zc_l hp, zc_m hp, zc_k hp, zi_0, zi_1, zi_2, zi_3, zi_4, zi_5, zi_6, zi_7, zi_8, zi_9, zi_10, zi_11, zi_12, zi_13, zi_14, zi_15, zi_16, zi_17, zi_18, zi_19, zi_20, zi_21, zi_22, zi_23, zi_24, zi_25, zi_26, zi_30, zi_31, zi_32, zi_34, zi_38, zi_59, zi_60, zi_61, zi_63, zi_64, zi_80, zi_96, zi_97, zi_99, zi_100, zi_122, zi_255, zi_256, zi_300, zi_398, zi_406, zi_900, zi_1000, zi_1024, zi_1624, zi_1662, zi_2030, zi_2031, zi_2068, zi_2258, zi_9999, zi_48, zi_57, zi_65536, zi_3257, zi_11483, zi_1000000, zi_729, zi_81, zi_m1, nI_add, pk_mul, nI_ltI, nI_leI, nI_eq, nI_clamp, zn_in, zn_sub1lt, zn_M, zn_Ml, zn_Mg, zn_Mle, zn_Mge, zn_sub, Nat.reduceAdd, Nat.reduceMul, forall_eq, true_imp_iff, false_imp_iff, and_true, true_and, not_true_eq_false, not_false_eq_true, reduceCtorEq, imp_self, eq_self, false_and, and_false, implies_true]
      repeat' (first | omega | with_reducible refine And.intro ?_ ?_ | with_reducible intro g)
      all_goals exact K _ _ (y.st _) (am_u2_at _ _ _ _) (fy_U.st _) fy_UL.rfl
    · intro I L R h y Q K
      simp (disch := omega) only [wp_M_sure, h.n2, zn_shl, wp_M_wrongSeen, wp_M_isHearer, wp_M_isTray, wp_M_isFrom, wp_M_refuse, h.n3, zj_0, zj_1, zj_2, zj_4, zj_6, zj_7, zj_8, zj_16, zj_20, zj_60, zj_63, zj_64, zj_99, zj_9999, nI_l, zk_lt, zk_le, zk_eq, zk_add, zk_in, hp, zc_e hp, zf_n hp, zc_t hp, zc_l hp, zc_m hp, zc_k hp, zi_0, zi_1, zi_2, zi_3, zi_4, zi_5, zi_6, zi_7, zi_8, zi_9, zi_10, zi_11, zi_12, zi_13, zi_14, zi_15, zi_16, zi_17, zi_18, zi_19, zi_20, zi_21, zi_22, zi_23, zi_24, zi_25, zi_26, zi_30, zi_31, zi_32, zi_34, zi_38, zi_59, zi_60, zi_61, zi_63, zi_64, zi_80, zi_96, zi_97, zi_99, zi_100, zi_122, zi_255, zi_256, zi_300, zi_398, zi_406, zi_900, zi_1000, zi_1024, zi_1624, zi_1662, zi_2030, zi_2031, zi_2068, zi_2258, zi_9999, zi_48, zi_57, zi_65536, zi_3257, zi_11483, zi_1000000, zi_729, zi_81, zi_m1, nI_add, pk_mul, nI_ltI, nI_leI, nI_eq, nI_clamp, zn_in, zn_sub1lt, zn_M, zn_Ml, zn_Mg, zn_Mle, zn_Mge, zn_sub, Nat.reduceAdd, Nat.reduceMul, forall_eq, true_imp_iff, false_imp_iff, and_true, true_and, not_true_eq_false, not_false_eq_true, reduceCtorEq, imp_self, eq_self, false_and, and_false, implies_true]
      repeat' (first | omega | with_reducible refine And.intro ?_ ?_ | with_reducible intro g)
      all_goals exact K _ _ (y.st _) (am_u2_at _ _ _ _) (fy_M.st _) fy_ML.rfl
  by_cases g1 : 3 < t
  · refine ⟨nM, 1, tm, ts, tv, ok, ?_, ?_⟩
    · intro c d I L R hcd h hc hz y Q K
      simp (disch := omega) only [wp_U_sure, wp_U_fitStatus, wp_U_trayStatus, wp_Tray_isMissing, wp_U_isTray, wp_Square_hasHearer, wp_U_within, wp_U_refused, hc, h.n3, zi_0, zi_1, zi_2, zi_3, zi_4, zi_5, zi_6, zi_7, zi_8, zi_9, zi_10, zi_11, zi_12, zi_13, zi_14, zi_15, zi_16, zi_17, zi_18, zi_19, zi_20, zi_21, zi_22, zi_23, zi_24, zi_25, zi_26, zi_30, zi_31, zi_32, zi_34, zi_38, zi_59, zi_60, zi_61, zi_63, zi_64, zi_80, zi_96, zi_97, zi_99, zi_100, zi_122, zi_255, zi_256, zi_300, zi_398, zi_406, zi_900, zi_1000, zi_1024, zi_1624, zi_1662, zi_2030, zi_2031, zi_2068, zi_2258, zi_9999, zi_48, zi_57, zi_65536, zi_3257, zi_11483, zi_1000000, zi_729, zi_81, zi_m1, nI_add, pk_mul, nI_ltI, nI_leI, nI_eq, nI_clamp, zn_in, zn_sub1lt, zn_M, zn_Ml, zn_Mg, zn_Mle, zn_Mge, zn_sub, Nat.reduceAdd, Nat.reduceMul, forall_eq, true_imp_iff, false_imp_iff, and_true, true_and, not_true_eq_false, not_false_eq_true, reduceCtorEq, imp_self, eq_self, false_and, and_false, implies_true]
      repeat' (first | omega | with_reducible refine And.intro ?_ ?_ | with_reducible intro g)
      all_goals exact K _ _ (y.st _) (am_u2_at _ _ _ _) (fy_U.st _) fy_UL.rfl
    · intro I L R h y Q K
      simp (disch := omega) only [wp_M_sure, h.n2, zn_shl, wp_M_wrongSeen, wp_M_isHearer, wp_M_isTray, wp_M_isFrom, wp_M_refuse, h.n3, zj_0, zj_1, zj_2, zj_4, zj_6, zj_7, zj_8, zj_16, zj_20, zj_60, zj_63, zj_64, zj_99, zj_9999, nI_l, zk_lt, zk_le, zk_eq, zk_add, zk_in, zi_0, zi_1, zi_2, zi_3, zi_4, zi_5, zi_6, zi_7, zi_8, zi_9, zi_10, zi_11, zi_12, zi_13, zi_14, zi_15, zi_16, zi_17, zi_18, zi_19, zi_20, zi_21, zi_22, zi_23, zi_24, zi_25, zi_26, zi_30, zi_31, zi_32, zi_34, zi_38, zi_59, zi_60, zi_61, zi_63, zi_64, zi_80, zi_96, zi_97, zi_99, zi_100, zi_122, zi_255, zi_256, zi_300, zi_398, zi_406, zi_900, zi_1000, zi_1024, zi_1624, zi_1662, zi_2030, zi_2031, zi_2068, zi_2258, zi_9999, zi_48, zi_57, zi_65536, zi_3257, zi_11483, zi_1000000, zi_729, zi_81, zi_m1, nI_add, pk_mul, nI_ltI, nI_leI, nI_eq, nI_clamp, zn_in, zn_sub1lt, zn_M, zn_Ml, zn_Mg, zn_Mle, zn_Mge, zn_sub, Nat.reduceAdd, Nat.reduceMul, forall_eq, true_imp_iff, false_imp_iff, and_true, true_and, not_true_eq_false, not_false_eq_true, reduceCtorEq, imp_self, eq_self, false_and, and_false, implies_true]
      repeat' (first | omega | with_reducible refine And.intro ?_ ?_ | with_reducible intro g)
      all_goals exact K _ _ (y.st _) (am_u2_at _ _ _ _) (fy_M.st _) fy_ML.rfl
  have ht4 : t < 4 := by omega
  have ok1 := ok t ht4
  by_cases g2 : tm t = 0
  · refine ⟨nM, 2, tm, ts, tv, ok, ?_, ?_⟩
    · intro c d I L R hcd h hc hz y Q K
      simp (disch := omega) only [wp_U_sure, wp_U_fitStatus, wp_U_trayStatus, wp_Tray_isMissing, wp_U_isTray, wp_Square_hasHearer, wp_U_within, wp_U_refused, hc, h.n3, y.r ht4, y.no ht4 g2, zi_0, zi_1, zi_2, zi_3, zi_4, zi_5, zi_6, zi_7, zi_8, zi_9, zi_10, zi_11, zi_12, zi_13, zi_14, zi_15, zi_16, zi_17, zi_18, zi_19, zi_20, zi_21, zi_22, zi_23, zi_24, zi_25, zi_26, zi_30, zi_31, zi_32, zi_34, zi_38, zi_59, zi_60, zi_61, zi_63, zi_64, zi_80, zi_96, zi_97, zi_99, zi_100, zi_122, zi_255, zi_256, zi_300, zi_398, zi_406, zi_900, zi_1000, zi_1024, zi_1624, zi_1662, zi_2030, zi_2031, zi_2068, zi_2258, zi_9999, zi_48, zi_57, zi_65536, zi_3257, zi_11483, zi_1000000, zi_729, zi_81, zi_m1, nI_add, pk_mul, nI_ltI, nI_leI, nI_eq, nI_clamp, zn_in, zn_sub1lt, zn_M, zn_Ml, zn_Mg, zn_Mle, zn_Mge, zn_sub, Nat.reduceAdd, Nat.reduceMul, forall_eq, true_imp_iff, false_imp_iff, and_true, true_and, not_true_eq_false, not_false_eq_true, reduceCtorEq, imp_self, eq_self, false_and, and_false, implies_true]
      repeat' (first | omega | with_reducible refine And.intro ?_ ?_ | with_reducible intro g)
      all_goals exact K _ _ (y.st _) (am_u2_at _ _ _ _) (fy_U.st _) fy_UL.rfl
    · intro I L R h y Q K
      simp (disch := omega) only [wp_M_sure, h.n2, zn_shl, wp_M_wrongSeen, wp_M_isHearer, wp_M_isTray, wp_M_isFrom, wp_M_refuse, h.n3, zj_0, zj_1, zj_2, zj_4, zj_6, zj_7, zj_8, zj_16, zj_20, zj_60, zj_63, zj_64, zj_99, zj_9999, nI_l, zk_lt, zk_le, zk_eq, zk_add, zk_in, y.no ht4 g2, zi_0, zi_1, zi_2, zi_3, zi_4, zi_5, zi_6, zi_7, zi_8, zi_9, zi_10, zi_11, zi_12, zi_13, zi_14, zi_15, zi_16, zi_17, zi_18, zi_19, zi_20, zi_21, zi_22, zi_23, zi_24, zi_25, zi_26, zi_30, zi_31, zi_32, zi_34, zi_38, zi_59, zi_60, zi_61, zi_63, zi_64, zi_80, zi_96, zi_97, zi_99, zi_100, zi_122, zi_255, zi_256, zi_300, zi_398, zi_406, zi_900, zi_1000, zi_1024, zi_1624, zi_1662, zi_2030, zi_2031, zi_2068, zi_2258, zi_9999, zi_48, zi_57, zi_65536, zi_3257, zi_11483, zi_1000000, zi_729, zi_81, zi_m1, nI_add, pk_mul, nI_ltI, nI_leI, nI_eq, nI_clamp, zn_in, zn_sub1lt, zn_M, zn_Ml, zn_Mg, zn_Mle, zn_Mge, zn_sub, Nat.reduceAdd, Nat.reduceMul, forall_eq, true_imp_iff, false_imp_iff, and_true, true_and, not_true_eq_false, not_false_eq_true, reduceCtorEq, imp_self, eq_self, false_and, and_false, implies_true]
      repeat' (first | omega | with_reducible refine And.intro ?_ ?_ | with_reducible intro g)
      all_goals exact K _ _ (y.st _) (am_u2_at _ _ _ _) (fy_M.st _) fy_ML.rfl
  by_cases g3 : tm t - 1 < 2 * n
  · refine ⟨nM, 3, tm, ts, tv, ok, ?_, ?_⟩
    · intro c d I L R hcd h hc hz y Q K
      simp (disch := omega) only [wp_U_sure, wp_U_fitStatus, wp_U_trayStatus, wp_Tray_isMissing, wp_U_isTray, wp_Square_hasHearer, wp_U_within, wp_U_refused, hc, h.n3, y.r ht4, y.so ht4 g2, y.mn ht4 g2, zi_0, zi_1, zi_2, zi_3, zi_4, zi_5, zi_6, zi_7, zi_8, zi_9, zi_10, zi_11, zi_12, zi_13, zi_14, zi_15, zi_16, zi_17, zi_18, zi_19, zi_20, zi_21, zi_22, zi_23, zi_24, zi_25, zi_26, zi_30, zi_31, zi_32, zi_34, zi_38, zi_59, zi_60, zi_61, zi_63, zi_64, zi_80, zi_96, zi_97, zi_99, zi_100, zi_122, zi_255, zi_256, zi_300, zi_398, zi_406, zi_900, zi_1000, zi_1024, zi_1624, zi_1662, zi_2030, zi_2031, zi_2068, zi_2258, zi_9999, zi_48, zi_57, zi_65536, zi_3257, zi_11483, zi_1000000, zi_729, zi_81, zi_m1, nI_add, pk_mul, nI_ltI, nI_leI, nI_eq, nI_clamp, zn_in, zn_sub1lt, zn_M, zn_Ml, zn_Mg, zn_Mle, zn_Mge, zn_sub, Nat.reduceAdd, Nat.reduceMul, forall_eq, true_imp_iff, false_imp_iff, and_true, true_and, not_true_eq_false, not_false_eq_true, reduceCtorEq, imp_self, eq_self, false_and, and_false, implies_true]
      repeat' (first | omega | with_reducible refine And.intro ?_ ?_ | with_reducible intro g)
      all_goals exact K _ _ (y.st _) (am_u2_at _ _ _ _) (fy_U.st _) fy_UL.rfl
    · intro I L R h y Q K
      simp (disch := omega) only [wp_M_sure, h.n2, zn_shl, wp_M_wrongSeen, wp_M_isHearer, wp_M_isTray, wp_M_isFrom, wp_M_refuse, h.n3, zj_0, zj_1, zj_2, zj_4, zj_6, zj_7, zj_8, zj_16, zj_20, zj_60, zj_63, zj_64, zj_99, zj_9999, nI_l, zk_lt, zk_le, zk_eq, zk_add, zk_in, y.mn ht4 g2, zi_0, zi_1, zi_2, zi_3, zi_4, zi_5, zi_6, zi_7, zi_8, zi_9, zi_10, zi_11, zi_12, zi_13, zi_14, zi_15, zi_16, zi_17, zi_18, zi_19, zi_20, zi_21, zi_22, zi_23, zi_24, zi_25, zi_26, zi_30, zi_31, zi_32, zi_34, zi_38, zi_59, zi_60, zi_61, zi_63, zi_64, zi_80, zi_96, zi_97, zi_99, zi_100, zi_122, zi_255, zi_256, zi_300, zi_398, zi_406, zi_900, zi_1000, zi_1024, zi_1624, zi_1662, zi_2030, zi_2031, zi_2068, zi_2258, zi_9999, zi_48, zi_57, zi_65536, zi_3257, zi_11483, zi_1000000, zi_729, zi_81, zi_m1, nI_add, pk_mul, nI_ltI, nI_leI, nI_eq, nI_clamp, zn_in, zn_sub1lt, zn_M, zn_Ml, zn_Mg, zn_Mle, zn_Mge, zn_sub, Nat.reduceAdd, Nat.reduceMul, forall_eq, true_imp_iff, false_imp_iff, and_true, true_and, not_true_eq_false, not_false_eq_true, reduceCtorEq, imp_self, eq_self, false_and, and_false, implies_true]
      repeat' (first | omega | with_reducible refine And.intro ?_ ?_ | with_reducible intro g)
      all_goals exact K _ _ (y.st _) (am_u2_at _ _ _ _) (fy_M.st _) fy_ML.rfl
  by_cases gv : ∀ i, i < n → fg q tv t i
  rotate_left
  · refine ⟨nM, 5, tm, ts, tv, ok, ?_, ?_⟩
    · intro c d I L R hcd h hc hz y Q K
      simp (disch := omega) only [wp_U_sure, wp_U_fitStatus, wp_U_trayStatus, wp_Tray_isMissing, wp_U_isTray, wp_Square_hasHearer, wp_U_within, wp_U_refused, hc, h.n3, y.r ht4, y.so ht4 g2, y.mn ht4 g2, zi_0, zi_1, zi_2, zi_3, zi_4, zi_5, zi_6, zi_7, zi_8, zi_9, zi_10, zi_11, zi_12, zi_13, zi_14, zi_15, zi_16, zi_17, zi_18, zi_19, zi_20, zi_21, zi_22, zi_23, zi_24, zi_25, zi_26, zi_30, zi_31, zi_32, zi_34, zi_38, zi_59, zi_60, zi_61, zi_63, zi_64, zi_80, zi_96, zi_97, zi_99, zi_100, zi_122, zi_255, zi_256, zi_300, zi_398, zi_406, zi_900, zi_1000, zi_1024, zi_1624, zi_1662, zi_2030, zi_2031, zi_2068, zi_2258, zi_9999, zi_48, zi_57, zi_65536, zi_3257, zi_11483, zi_1000000, zi_729, zi_81, zi_m1, nI_add, pk_mul, nI_ltI, nI_leI, nI_eq, nI_clamp, zn_in, zn_sub1lt, zn_M, zn_Ml, zn_Mg, zn_Mle, zn_Mge, zn_sub, Nat.reduceAdd, Nat.reduceMul, forall_eq, true_imp_iff, false_imp_iff, and_true, true_and, not_true_eq_false, not_false_eq_true, reduceCtorEq, imp_self, eq_self, false_and, and_false, implies_true]
      repeat' (first | omega | with_reducible refine And.intro ?_ ?_ | with_reducible intro g)
      refine su_fitS hc h (by omega) y ht4 (by omega) (by omega) (fun z => absurd z gv) (fun z => ?_)
      try simp (disch := omega) only [zi_0, zi_1, zi_2, zi_3, zi_4, zi_5, zi_6, zi_7, zi_8, zi_9, zi_10, zi_11, zi_12, zi_13, zi_14, zi_15, zi_16, zi_17, zi_18, zi_19, zi_20, zi_21, zi_22, zi_23, zi_24, zi_25, zi_26, zi_30, zi_31, zi_32, zi_34, zi_38, zi_59, zi_60, zi_61, zi_63, zi_64, zi_80, zi_96, zi_97, zi_99, zi_100, zi_122, zi_255, zi_256, zi_300, zi_398, zi_406, zi_900, zi_1000, zi_1024, zi_1624, zi_1662, zi_2030, zi_2031, zi_2068, zi_2258, zi_9999, zi_48, zi_57, zi_65536, zi_3257, zi_11483, zi_1000000, zi_729, zi_81, zi_m1, nI_add, pk_mul, nI_ltI, nI_leI, nI_eq, nI_clamp, zn_in, zn_sub1lt, zn_M, zn_Ml, zn_Mg, zn_Mle, zn_Mge, zn_sub, Nat.reduceAdd, Nat.reduceMul, forall_eq, true_imp_iff, false_imp_iff, and_true, true_and, not_true_eq_false, not_false_eq_true, reduceCtorEq, imp_self, eq_self, false_and, and_false, implies_true]
      exact K _ _ (y.st _) (am_u2_at _ _ _ _) (fy_U.st _) fy_UL.rfl
    · intro I L R h y Q K
      simp (disch := omega) only [wp_M_sure, h.n2, zn_shl, wp_M_wrongSeen, wp_M_isHearer, wp_M_isTray, wp_M_isFrom, wp_M_refuse, h.n3, zj_0, zj_1, zj_2, zj_4, zj_6, zj_7, zj_8, zj_16, zj_20, zj_60, zj_63, zj_64, zj_99, zj_9999, nI_l, zk_lt, zk_le, zk_eq, zk_add, zk_in, y.mn ht4 g2, zi_0, zi_1, zi_2, zi_3, zi_4, zi_5, zi_6, zi_7, zi_8, zi_9, zi_10, zi_11, zi_12, zi_13, zi_14, zi_15, zi_16, zi_17, zi_18, zi_19, zi_20, zi_21, zi_22, zi_23, zi_24, zi_25, zi_26, zi_30, zi_31, zi_32, zi_34, zi_38, zi_59, zi_60, zi_61, zi_63, zi_64, zi_80, zi_96, zi_97, zi_99, zi_100, zi_122, zi_255, zi_256, zi_300, zi_398, zi_406, zi_900, zi_1000, zi_1024, zi_1624, zi_1662, zi_2030, zi_2031, zi_2068, zi_2258, zi_9999, zi_48, zi_57, zi_65536, zi_3257, zi_11483, zi_1000000, zi_729, zi_81, zi_m1, nI_add, pk_mul, nI_ltI, nI_leI, nI_eq, nI_clamp, zn_in, zn_sub1lt, zn_M, zn_Ml, zn_Mg, zn_Mle, zn_Mge, zn_sub, Nat.reduceAdd, Nat.reduceMul, forall_eq, true_imp_iff, false_imp_iff, and_true, true_and, not_true_eq_false, not_false_eq_true, reduceCtorEq, imp_self, eq_self, false_and, and_false, implies_true]
      repeat' (first | omega | with_reducible refine And.intro ?_ ?_ | with_reducible intro g)
      refine sm_fitS h (by omega) y ht4 (by omega) (by omega) (fun z => absurd z gv) (fun z => ?_)
      try simp (disch := omega) only [zi_0, zi_1, zi_2, zi_3, zi_4, zi_5, zi_6, zi_7, zi_8, zi_9, zi_10, zi_11, zi_12, zi_13, zi_14, zi_15, zi_16, zi_17, zi_18, zi_19, zi_20, zi_21, zi_22, zi_23, zi_24, zi_25, zi_26, zi_30, zi_31, zi_32, zi_34, zi_38, zi_59, zi_60, zi_61, zi_63, zi_64, zi_80, zi_96, zi_97, zi_99, zi_100, zi_122, zi_255, zi_256, zi_300, zi_398, zi_406, zi_900, zi_1000, zi_1024, zi_1624, zi_1662, zi_2030, zi_2031, zi_2068, zi_2258, zi_9999, zi_48, zi_57, zi_65536, zi_3257, zi_11483, zi_1000000, zi_729, zi_81, zi_m1, nI_add, pk_mul, nI_ltI, nI_leI, nI_eq, nI_clamp, zn_in, zn_sub1lt, zn_M, zn_Ml, zn_Mg, zn_Mle, zn_Mge, zn_sub, Nat.reduceAdd, Nat.reduceMul, forall_eq, true_imp_iff, false_imp_iff, and_true, true_and, not_true_eq_false, not_false_eq_true, reduceCtorEq, imp_self, eq_self, false_and, and_false, implies_true]
      exact ⟨fun g => absurd g (by omega), fun _ => K _ _ (y.st _) (am_u2_at _ _ _ _) (fy_M.st _) fy_ML.rfl⟩
  have fl := fi_s_lt (fun i => (tv t (2 * i)).toInt.toNat) (fun i => (tv t (2 * i + 1)).toInt.toNat) n (sq_far (q 0) (q (10 + 4 * j)) (q 6))
  obtain ⟨A, hA⟩ : ∃ A, A = (fi_s (fun i => (tv t (2 * i)).toInt.toNat) (fun i => (tv t (2 * i + 1)).toInt.toNat) n (sq_far (q 0) (q (10 + 4 * j)) (q 6)) (2 ^ q 2)) := ⟨_, rfl⟩
  cases A with
  | none =>
    refine ⟨nM, 6, tm, ts, tv, ok, ?_, ?_⟩
    · intro c d I L R hcd h hc hz y Q K
      simp (disch := omega) only [wp_U_sure, wp_U_fitStatus, wp_U_trayStatus, wp_Tray_isMissing, wp_U_isTray, wp_Square_hasHearer, wp_U_within, wp_U_refused, hc, h.n3, y.r ht4, y.so ht4 g2, y.mn ht4 g2, zi_0, zi_1, zi_2, zi_3, zi_4, zi_5, zi_6, zi_7, zi_8, zi_9, zi_10, zi_11, zi_12, zi_13, zi_14, zi_15, zi_16, zi_17, zi_18, zi_19, zi_20, zi_21, zi_22, zi_23, zi_24, zi_25, zi_26, zi_30, zi_31, zi_32, zi_34, zi_38, zi_59, zi_60, zi_61, zi_63, zi_64, zi_80, zi_96, zi_97, zi_99, zi_100, zi_122, zi_255, zi_256, zi_300, zi_398, zi_406, zi_900, zi_1000, zi_1024, zi_1624, zi_1662, zi_2030, zi_2031, zi_2068, zi_2258, zi_9999, zi_48, zi_57, zi_65536, zi_3257, zi_11483, zi_1000000, zi_729, zi_81, zi_m1, nI_add, pk_mul, nI_ltI, nI_leI, nI_eq, nI_clamp, zn_in, zn_sub1lt, zn_M, zn_Ml, zn_Mg, zn_Mle, zn_Mge, zn_sub, Nat.reduceAdd, Nat.reduceMul, forall_eq, true_imp_iff, false_imp_iff, and_true, true_and, not_true_eq_false, not_false_eq_true, reduceCtorEq, imp_self, eq_self, false_and, and_false, implies_true]
      repeat' (first | omega | with_reducible refine And.intro ?_ ?_ | with_reducible intro g)
      refine su_fitS hc h (by omega) y ht4 (by omega) (by omega) (fun z => ?_) (fun z => absurd gv z)
      try simp (disch := omega) only [zi_0, zi_1, zi_2, zi_3, zi_4, zi_5, zi_6, zi_7, zi_8, zi_9, zi_10, zi_11, zi_12, zi_13, zi_14, zi_15, zi_16, zi_17, zi_18, zi_19, zi_20, zi_21, zi_22, zi_23, zi_24, zi_25, zi_26, zi_30, zi_31, zi_32, zi_34, zi_38, zi_59, zi_60, zi_61, zi_63, zi_64, zi_80, zi_96, zi_97, zi_99, zi_100, zi_122, zi_255, zi_256, zi_300, zi_398, zi_406, zi_900, zi_1000, zi_1024, zi_1624, zi_1662, zi_2030, zi_2031, zi_2068, zi_2258, zi_9999, zi_48, zi_57, zi_65536, zi_3257, zi_11483, zi_1000000, zi_729, zi_81, zi_m1, nI_add, pk_mul, nI_ltI, nI_leI, nI_eq, nI_clamp, zn_in, zn_sub1lt, zn_M, zn_Ml, zn_Mg, zn_Mle, zn_Mge, zn_sub, Nat.reduceAdd, Nat.reduceMul, forall_eq, true_imp_iff, false_imp_iff, and_true, true_and, not_true_eq_false, not_false_eq_true, reduceCtorEq, imp_self, eq_self, false_and, and_false, implies_true]
      refine zl_up (P := fun f m => wl_U_sure_27 L R 0 (nI j) (nI t) (nI n) (fun a I1 => Q a I1 L) f I (fi_v (fi_s (fun i => (tv t (2 * i)).toInt.toNat) (fun i => (tv t (2 * i + 1)).toInt.toNat) n (sq_far (q 0) (q (10 + 4 * j)) (q 6)) m)) (nI m)) (2 ^ q 2) (fun f => ?_) (fun f m hm ih => ?_) 0 (by omega)
      · rw [← hA]
        simp (disch := omega) only [wl_U_sure_27, wp_U_answeredIfThereIs, wp_U_answered, wp_U_refused, fi_v, hc, h.n2, zn_shl, zi_0, zi_1, zi_2, zi_3, zi_4, zi_5, zi_6, zi_7, zi_8, zi_9, zi_10, zi_11, zi_12, zi_13, zi_14, zi_15, zi_16, zi_17, zi_18, zi_19, zi_20, zi_21, zi_22, zi_23, zi_24, zi_25, zi_26, zi_30, zi_31, zi_32, zi_34, zi_38, zi_59, zi_60, zi_61, zi_63, zi_64, zi_80, zi_96, zi_97, zi_99, zi_100, zi_122, zi_255, zi_256, zi_300, zi_398, zi_406, zi_900, zi_1000, zi_1024, zi_1624, zi_1662, zi_2030, zi_2031, zi_2068, zi_2258, zi_9999, zi_48, zi_57, zi_65536, zi_3257, zi_11483, zi_1000000, zi_729, zi_81, zi_m1, nI_add, pk_mul, nI_ltI, nI_leI, nI_eq, nI_clamp, zn_in, zn_sub1lt, zn_M, zn_Ml, zn_Mg, zn_Mle, zn_Mge, zn_sub, Nat.reduceAdd, Nat.reduceMul, forall_eq, true_imp_iff, false_imp_iff, and_true, true_and, not_true_eq_false, not_false_eq_true, reduceCtorEq, imp_self, eq_self, false_and, and_false, implies_true]
        exact ⟨fun _ => K _ _ (y.st _) (am_u2_at _ _ _ _) (fy_U.st _) fy_UL.rfl, fun g => absurd (Nat.le_refl _) g⟩
      · rw [fi_s] at ih
        have flm := fl m
        simp (disch := omega) only [wl_U_sure_27, hc, h.n2, zn_shl, y.r ht4, zi_0, zi_1, zi_2, zi_3, zi_4, zi_5, zi_6, zi_7, zi_8, zi_9, zi_10, zi_11, zi_12, zi_13, zi_14, zi_15, zi_16, zi_17, zi_18, zi_19, zi_20, zi_21, zi_22, zi_23, zi_24, zi_25, zi_26, zi_30, zi_31, zi_32, zi_34, zi_38, zi_59, zi_60, zi_61, zi_63, zi_64, zi_80, zi_96, zi_97, zi_99, zi_100, zi_122, zi_255, zi_256, zi_300, zi_398, zi_406, zi_900, zi_1000, zi_1024, zi_1624, zi_1662, zi_2030, zi_2031, zi_2068, zi_2258, zi_9999, zi_48, zi_57, zi_65536, zi_3257, zi_11483, zi_1000000, zi_729, zi_81, zi_m1, nI_add, pk_mul, nI_ltI, nI_leI, nI_eq, nI_clamp, zn_in, zn_sub1lt, zn_M, zn_Ml, zn_Mg, zn_Mle, zn_Mge, zn_sub, Nat.reduceAdd, Nat.reduceMul]
        refine ⟨fun g => absurd g (by omega), fun _ => ⟨by omega, su_fit h hc okq y ht4 (by omega) (by omega) hj3 (by omega) gv ⟨fun e => ?_, fun e => ?_⟩⟩⟩
        · rw [if_neg (by rw [e]; decide)] at ih; exact ih
        · rw [if_pos e] at ih
          cases es : (fi_s (fun i => (tv t (2 * i)).toInt.toNat) (fun i => (tv t (2 * i + 1)).toInt.toNat) n (sq_far (q 0) (q (10 + 4 * j)) (q 6)) m) with
          | none => rw [es] at ih; rw [fi_v, zn_Mand]; exact ih
          | some a => rw [es] at ih; rw [fi_v, ze_and]; exact ih
    · intro I L R h y Q K
      simp (disch := omega) only [wp_M_sure, h.n2, zn_shl, wp_M_wrongSeen, wp_M_isHearer, wp_M_isTray, wp_M_isFrom, wp_M_refuse, h.n3, zj_0, zj_1, zj_2, zj_4, zj_6, zj_7, zj_8, zj_16, zj_20, zj_60, zj_63, zj_64, zj_99, zj_9999, nI_l, zk_lt, zk_le, zk_eq, zk_add, zk_in, y.mn ht4 g2, zi_0, zi_1, zi_2, zi_3, zi_4, zi_5, zi_6, zi_7, zi_8, zi_9, zi_10, zi_11, zi_12, zi_13, zi_14, zi_15, zi_16, zi_17, zi_18, zi_19, zi_20, zi_21, zi_22, zi_23, zi_24, zi_25, zi_26, zi_30, zi_31, zi_32, zi_34, zi_38, zi_59, zi_60, zi_61, zi_63, zi_64, zi_80, zi_96, zi_97, zi_99, zi_100, zi_122, zi_255, zi_256, zi_300, zi_398, zi_406, zi_900, zi_1000, zi_1024, zi_1624, zi_1662, zi_2030, zi_2031, zi_2068, zi_2258, zi_9999, zi_48, zi_57, zi_65536, zi_3257, zi_11483, zi_1000000, zi_729, zi_81, zi_m1, nI_add, pk_mul, nI_ltI, nI_leI, nI_eq, nI_clamp, zn_in, zn_sub1lt, zn_M, zn_Ml, zn_Mg, zn_Mle, zn_Mge, zn_sub, Nat.reduceAdd, Nat.reduceMul, forall_eq, true_imp_iff, false_imp_iff, and_true, true_and, not_true_eq_false, not_false_eq_true, reduceCtorEq, imp_self, eq_self, false_and, and_false, implies_true]
      repeat' (first | omega | with_reducible refine And.intro ?_ ?_ | with_reducible intro g)
      refine sm_fitS h (by omega) y ht4 (by omega) (by omega) (fun z => ?_) (fun z => absurd gv z)
      try simp (disch := omega) only [zi_0, zi_1, zi_2, zi_3, zi_4, zi_5, zi_6, zi_7, zi_8, zi_9, zi_10, zi_11, zi_12, zi_13, zi_14, zi_15, zi_16, zi_17, zi_18, zi_19, zi_20, zi_21, zi_22, zi_23, zi_24, zi_25, zi_26, zi_30, zi_31, zi_32, zi_34, zi_38, zi_59, zi_60, zi_61, zi_63, zi_64, zi_80, zi_96, zi_97, zi_99, zi_100, zi_122, zi_255, zi_256, zi_300, zi_398, zi_406, zi_900, zi_1000, zi_1024, zi_1624, zi_1662, zi_2030, zi_2031, zi_2068, zi_2258, zi_9999, zi_48, zi_57, zi_65536, zi_3257, zi_11483, zi_1000000, zi_729, zi_81, zi_m1, nI_add, pk_mul, nI_ltI, nI_leI, nI_eq, nI_clamp, zn_in, zn_sub1lt, zn_M, zn_Ml, zn_Mg, zn_Mle, zn_Mge, zn_sub, Nat.reduceAdd, Nat.reduceMul, forall_eq, true_imp_iff, false_imp_iff, and_true, true_and, not_true_eq_false, not_false_eq_true, reduceCtorEq, imp_self, eq_self, false_and, and_false, implies_true]
      refine ⟨fun _ => ?_, fun g => absurd (by omega) g⟩
      refine zl_up (P := fun f m => wl_M_sure_39 L R 103 (nI j) (nI t) (nI n) (fun a I1 => Q a I1 L) f I (nI (2 ^ q 2 - 1)) (fi_v (fi_s (fun i => (tv t (2 * i)).toInt.toNat) (fun i => (tv t (2 * i + 1)).toInt.toNat) n (sq_far (q 0) (q (10 + 4 * j)) (q 6)) m)) (nI m)) (2 ^ q 2) (fun f => ?_) (fun f m hm ih => ?_) 0 (by omega)
      · rw [← hA]
        simp (disch := omega) only [wl_M_sure_39, wp_M_orNone, wp_M_gives, wp_M_refuse, fi_v, zi_0, zi_1, zi_2, zi_3, zi_4, zi_5, zi_6, zi_7, zi_8, zi_9, zi_10, zi_11, zi_12, zi_13, zi_14, zi_15, zi_16, zi_17, zi_18, zi_19, zi_20, zi_21, zi_22, zi_23, zi_24, zi_25, zi_26, zi_30, zi_31, zi_32, zi_34, zi_38, zi_59, zi_60, zi_61, zi_63, zi_64, zi_80, zi_96, zi_97, zi_99, zi_100, zi_122, zi_255, zi_256, zi_300, zi_398, zi_406, zi_900, zi_1000, zi_1024, zi_1624, zi_1662, zi_2030, zi_2031, zi_2068, zi_2258, zi_9999, zi_48, zi_57, zi_65536, zi_3257, zi_11483, zi_1000000, zi_729, zi_81, zi_m1, nI_add, pk_mul, nI_ltI, nI_leI, nI_eq, nI_clamp, zn_in, zn_sub1lt, zn_M, zn_Ml, zn_Mg, zn_Mle, zn_Mge, zn_sub, Nat.reduceAdd, Nat.reduceMul, forall_eq, true_imp_iff, false_imp_iff, and_true, true_and, not_true_eq_false, not_false_eq_true, reduceCtorEq, imp_self, eq_self, false_and, and_false, implies_true]
        exact ⟨fun _ => K _ _ (y.st _) (am_u2_at _ _ _ _) (fy_M.st _) fy_ML.rfl, fun g => absurd (by omega) g⟩
      · rw [fi_s] at ih
        have flm := fl m
        simp (disch := omega) only [wl_M_sure_39, zi_0, zi_1, zi_2, zi_3, zi_4, zi_5, zi_6, zi_7, zi_8, zi_9, zi_10, zi_11, zi_12, zi_13, zi_14, zi_15, zi_16, zi_17, zi_18, zi_19, zi_20, zi_21, zi_22, zi_23, zi_24, zi_25, zi_26, zi_30, zi_31, zi_32, zi_34, zi_38, zi_59, zi_60, zi_61, zi_63, zi_64, zi_80, zi_96, zi_97, zi_99, zi_100, zi_122, zi_255, zi_256, zi_300, zi_398, zi_406, zi_900, zi_1000, zi_1024, zi_1624, zi_1662, zi_2030, zi_2031, zi_2068, zi_2258, zi_9999, zi_48, zi_57, zi_65536, zi_3257, zi_11483, zi_1000000, zi_729, zi_81, zi_m1, nI_add, pk_mul, nI_ltI, nI_leI, nI_eq, nI_clamp, zn_in, zn_sub1lt, zn_M, zn_Ml, zn_Mg, zn_Mle, zn_Mge, zn_sub, Nat.reduceAdd, Nat.reduceMul]
        refine ⟨fun g => absurd g (by omega), fun _ => sm_fit h okq y ht4 (by omega) (by omega) hj3 (by omega) gv ⟨fun e => ?_, fun e => ?_⟩⟩
        · rw [if_neg (by rw [e]; decide)] at ih; exact ih
        · rw [if_pos e] at ih
          cases es : (fi_s (fun i => (tv t (2 * i)).toInt.toNat) (fun i => (tv t (2 * i + 1)).toInt.toNat) n (sq_far (q 0) (q (10 + 4 * j)) (q 6)) m) with
          | none => rw [es] at ih; rw [fi_v]; exact ⟨fun _ => ih, fun g => absurd rfl g⟩
          | some a =>
            have al := flm a es
            rw [es] at ih; rw [fi_v, ze_and, zn_M (by omega)]; exact ⟨fun g => g.elim, fun _ => ih⟩
  | some v =>
    have vl := fl _ v hA.symm
    refine ⟨nI v, 0, tm, ts, tv, ok, ?_, ?_⟩
    · intro c d I L R hcd h hc hz y Q K
      simp (disch := omega) only [wp_U_sure, wp_U_fitStatus, wp_U_trayStatus, wp_Tray_isMissing, wp_U_isTray, wp_Square_hasHearer, wp_U_within, wp_U_refused, hc, h.n3, y.r ht4, y.so ht4 g2, y.mn ht4 g2, zi_0, zi_1, zi_2, zi_3, zi_4, zi_5, zi_6, zi_7, zi_8, zi_9, zi_10, zi_11, zi_12, zi_13, zi_14, zi_15, zi_16, zi_17, zi_18, zi_19, zi_20, zi_21, zi_22, zi_23, zi_24, zi_25, zi_26, zi_30, zi_31, zi_32, zi_34, zi_38, zi_59, zi_60, zi_61, zi_63, zi_64, zi_80, zi_96, zi_97, zi_99, zi_100, zi_122, zi_255, zi_256, zi_300, zi_398, zi_406, zi_900, zi_1000, zi_1024, zi_1624, zi_1662, zi_2030, zi_2031, zi_2068, zi_2258, zi_9999, zi_48, zi_57, zi_65536, zi_3257, zi_11483, zi_1000000, zi_729, zi_81, zi_m1, nI_add, pk_mul, nI_ltI, nI_leI, nI_eq, nI_clamp, zn_in, zn_sub1lt, zn_M, zn_Ml, zn_Mg, zn_Mle, zn_Mge, zn_sub, Nat.reduceAdd, Nat.reduceMul, forall_eq, true_imp_iff, false_imp_iff, and_true, true_and, not_true_eq_false, not_false_eq_true, reduceCtorEq, imp_self, eq_self, false_and, and_false, implies_true]
      repeat' (first | omega | with_reducible refine And.intro ?_ ?_ | with_reducible intro g)
      refine su_fitS hc h (by omega) y ht4 (by omega) (by omega) (fun z => ?_) (fun z => absurd gv z)
      try simp (disch := omega) only [zi_0, zi_1, zi_2, zi_3, zi_4, zi_5, zi_6, zi_7, zi_8, zi_9, zi_10, zi_11, zi_12, zi_13, zi_14, zi_15, zi_16, zi_17, zi_18, zi_19, zi_20, zi_21, zi_22, zi_23, zi_24, zi_25, zi_26, zi_30, zi_31, zi_32, zi_34, zi_38, zi_59, zi_60, zi_61, zi_63, zi_64, zi_80, zi_96, zi_97, zi_99, zi_100, zi_122, zi_255, zi_256, zi_300, zi_398, zi_406, zi_900, zi_1000, zi_1024, zi_1624, zi_1662, zi_2030, zi_2031, zi_2068, zi_2258, zi_9999, zi_48, zi_57, zi_65536, zi_3257, zi_11483, zi_1000000, zi_729, zi_81, zi_m1, nI_add, pk_mul, nI_ltI, nI_leI, nI_eq, nI_clamp, zn_in, zn_sub1lt, zn_M, zn_Ml, zn_Mg, zn_Mle, zn_Mge, zn_sub, Nat.reduceAdd, Nat.reduceMul, forall_eq, true_imp_iff, false_imp_iff, and_true, true_and, not_true_eq_false, not_false_eq_true, reduceCtorEq, imp_self, eq_self, false_and, and_false, implies_true]
      refine zl_up (P := fun f m => wl_U_sure_27 L R 0 (nI j) (nI t) (nI n) (fun a I1 => Q a I1 L) f I (fi_v (fi_s (fun i => (tv t (2 * i)).toInt.toNat) (fun i => (tv t (2 * i + 1)).toInt.toNat) n (sq_far (q 0) (q (10 + 4 * j)) (q 6)) m)) (nI m)) (2 ^ q 2) (fun f => ?_) (fun f m hm ih => ?_) 0 (by omega)
      · rw [← hA]
        simp (disch := omega) only [wl_U_sure_27, wp_U_answeredIfThereIs, wp_U_answered, wp_U_refused, fi_v, hc, h.n2, zn_shl, zi_0, zi_1, zi_2, zi_3, zi_4, zi_5, zi_6, zi_7, zi_8, zi_9, zi_10, zi_11, zi_12, zi_13, zi_14, zi_15, zi_16, zi_17, zi_18, zi_19, zi_20, zi_21, zi_22, zi_23, zi_24, zi_25, zi_26, zi_30, zi_31, zi_32, zi_34, zi_38, zi_59, zi_60, zi_61, zi_63, zi_64, zi_80, zi_96, zi_97, zi_99, zi_100, zi_122, zi_255, zi_256, zi_300, zi_398, zi_406, zi_900, zi_1000, zi_1024, zi_1624, zi_1662, zi_2030, zi_2031, zi_2068, zi_2258, zi_9999, zi_48, zi_57, zi_65536, zi_3257, zi_11483, zi_1000000, zi_729, zi_81, zi_m1, nI_add, pk_mul, nI_ltI, nI_leI, nI_eq, nI_clamp, zn_in, zn_sub1lt, zn_M, zn_Ml, zn_Mg, zn_Mle, zn_Mge, zn_sub, Nat.reduceAdd, Nat.reduceMul, forall_eq, true_imp_iff, false_imp_iff, and_true, true_and, not_true_eq_false, not_false_eq_true, reduceCtorEq, imp_self, eq_self, false_and, and_false, implies_true]
        exact ⟨fun _ => K _ _ (y.st _) (am_u2_at _ _ _ _) (fy_U.st _) fy_UL.rfl, fun g => absurd (Nat.le_refl _) g⟩
      · rw [fi_s] at ih
        have flm := fl m
        simp (disch := omega) only [wl_U_sure_27, hc, h.n2, zn_shl, y.r ht4, zi_0, zi_1, zi_2, zi_3, zi_4, zi_5, zi_6, zi_7, zi_8, zi_9, zi_10, zi_11, zi_12, zi_13, zi_14, zi_15, zi_16, zi_17, zi_18, zi_19, zi_20, zi_21, zi_22, zi_23, zi_24, zi_25, zi_26, zi_30, zi_31, zi_32, zi_34, zi_38, zi_59, zi_60, zi_61, zi_63, zi_64, zi_80, zi_96, zi_97, zi_99, zi_100, zi_122, zi_255, zi_256, zi_300, zi_398, zi_406, zi_900, zi_1000, zi_1024, zi_1624, zi_1662, zi_2030, zi_2031, zi_2068, zi_2258, zi_9999, zi_48, zi_57, zi_65536, zi_3257, zi_11483, zi_1000000, zi_729, zi_81, zi_m1, nI_add, pk_mul, nI_ltI, nI_leI, nI_eq, nI_clamp, zn_in, zn_sub1lt, zn_M, zn_Ml, zn_Mg, zn_Mle, zn_Mge, zn_sub, Nat.reduceAdd, Nat.reduceMul]
        refine ⟨fun g => absurd g (by omega), fun _ => ⟨by omega, su_fit h hc okq y ht4 (by omega) (by omega) hj3 (by omega) gv ⟨fun e => ?_, fun e => ?_⟩⟩⟩
        · rw [if_neg (by rw [e]; decide)] at ih; exact ih
        · rw [if_pos e] at ih
          cases es : (fi_s (fun i => (tv t (2 * i)).toInt.toNat) (fun i => (tv t (2 * i + 1)).toInt.toNat) n (sq_far (q 0) (q (10 + 4 * j)) (q 6)) m) with
          | none => rw [es] at ih; rw [fi_v, zn_Mand]; exact ih
          | some a => rw [es] at ih; rw [fi_v, ze_and]; exact ih
    · intro I L R h y Q K
      simp (disch := omega) only [wp_M_sure, h.n2, zn_shl, wp_M_wrongSeen, wp_M_isHearer, wp_M_isTray, wp_M_isFrom, wp_M_refuse, h.n3, zj_0, zj_1, zj_2, zj_4, zj_6, zj_7, zj_8, zj_16, zj_20, zj_60, zj_63, zj_64, zj_99, zj_9999, nI_l, zk_lt, zk_le, zk_eq, zk_add, zk_in, y.mn ht4 g2, zi_0, zi_1, zi_2, zi_3, zi_4, zi_5, zi_6, zi_7, zi_8, zi_9, zi_10, zi_11, zi_12, zi_13, zi_14, zi_15, zi_16, zi_17, zi_18, zi_19, zi_20, zi_21, zi_22, zi_23, zi_24, zi_25, zi_26, zi_30, zi_31, zi_32, zi_34, zi_38, zi_59, zi_60, zi_61, zi_63, zi_64, zi_80, zi_96, zi_97, zi_99, zi_100, zi_122, zi_255, zi_256, zi_300, zi_398, zi_406, zi_900, zi_1000, zi_1024, zi_1624, zi_1662, zi_2030, zi_2031, zi_2068, zi_2258, zi_9999, zi_48, zi_57, zi_65536, zi_3257, zi_11483, zi_1000000, zi_729, zi_81, zi_m1, nI_add, pk_mul, nI_ltI, nI_leI, nI_eq, nI_clamp, zn_in, zn_sub1lt, zn_M, zn_Ml, zn_Mg, zn_Mle, zn_Mge, zn_sub, Nat.reduceAdd, Nat.reduceMul, forall_eq, true_imp_iff, false_imp_iff, and_true, true_and, not_true_eq_false, not_false_eq_true, reduceCtorEq, imp_self, eq_self, false_and, and_false, implies_true]
      repeat' (first | omega | with_reducible refine And.intro ?_ ?_ | with_reducible intro g)
      refine sm_fitS h (by omega) y ht4 (by omega) (by omega) (fun z => ?_) (fun z => absurd gv z)
      try simp (disch := omega) only [zi_0, zi_1, zi_2, zi_3, zi_4, zi_5, zi_6, zi_7, zi_8, zi_9, zi_10, zi_11, zi_12, zi_13, zi_14, zi_15, zi_16, zi_17, zi_18, zi_19, zi_20, zi_21, zi_22, zi_23, zi_24, zi_25, zi_26, zi_30, zi_31, zi_32, zi_34, zi_38, zi_59, zi_60, zi_61, zi_63, zi_64, zi_80, zi_96, zi_97, zi_99, zi_100, zi_122, zi_255, zi_256, zi_300, zi_398, zi_406, zi_900, zi_1000, zi_1024, zi_1624, zi_1662, zi_2030, zi_2031, zi_2068, zi_2258, zi_9999, zi_48, zi_57, zi_65536, zi_3257, zi_11483, zi_1000000, zi_729, zi_81, zi_m1, nI_add, pk_mul, nI_ltI, nI_leI, nI_eq, nI_clamp, zn_in, zn_sub1lt, zn_M, zn_Ml, zn_Mg, zn_Mle, zn_Mge, zn_sub, Nat.reduceAdd, Nat.reduceMul, forall_eq, true_imp_iff, false_imp_iff, and_true, true_and, not_true_eq_false, not_false_eq_true, reduceCtorEq, imp_self, eq_self, false_and, and_false, implies_true]
      refine ⟨fun _ => ?_, fun g => absurd (by omega) g⟩
      refine zl_up (P := fun f m => wl_M_sure_39 L R 103 (nI j) (nI t) (nI n) (fun a I1 => Q a I1 L) f I (nI (2 ^ q 2 - 1)) (fi_v (fi_s (fun i => (tv t (2 * i)).toInt.toNat) (fun i => (tv t (2 * i + 1)).toInt.toNat) n (sq_far (q 0) (q (10 + 4 * j)) (q 6)) m)) (nI m)) (2 ^ q 2) (fun f => ?_) (fun f m hm ih => ?_) 0 (by omega)
      · rw [← hA]
        simp (disch := omega) only [wl_M_sure_39, wp_M_orNone, wp_M_gives, wp_M_refuse, fi_v, zi_0, zi_1, zi_2, zi_3, zi_4, zi_5, zi_6, zi_7, zi_8, zi_9, zi_10, zi_11, zi_12, zi_13, zi_14, zi_15, zi_16, zi_17, zi_18, zi_19, zi_20, zi_21, zi_22, zi_23, zi_24, zi_25, zi_26, zi_30, zi_31, zi_32, zi_34, zi_38, zi_59, zi_60, zi_61, zi_63, zi_64, zi_80, zi_96, zi_97, zi_99, zi_100, zi_122, zi_255, zi_256, zi_300, zi_398, zi_406, zi_900, zi_1000, zi_1024, zi_1624, zi_1662, zi_2030, zi_2031, zi_2068, zi_2258, zi_9999, zi_48, zi_57, zi_65536, zi_3257, zi_11483, zi_1000000, zi_729, zi_81, zi_m1, nI_add, pk_mul, nI_ltI, nI_leI, nI_eq, nI_clamp, zn_in, zn_sub1lt, zn_M, zn_Ml, zn_Mg, zn_Mle, zn_Mge, zn_sub, Nat.reduceAdd, Nat.reduceMul, forall_eq, true_imp_iff, false_imp_iff, and_true, true_and, not_true_eq_false, not_false_eq_true, reduceCtorEq, imp_self, eq_self, false_and, and_false, implies_true]
        exact ⟨fun _ => K _ _ (y.st _) (am_u2_at _ _ _ _) (fy_M.st _) fy_ML.rfl, fun g => absurd (by omega) g⟩
      · rw [fi_s] at ih
        have flm := fl m
        simp (disch := omega) only [wl_M_sure_39, zi_0, zi_1, zi_2, zi_3, zi_4, zi_5, zi_6, zi_7, zi_8, zi_9, zi_10, zi_11, zi_12, zi_13, zi_14, zi_15, zi_16, zi_17, zi_18, zi_19, zi_20, zi_21, zi_22, zi_23, zi_24, zi_25, zi_26, zi_30, zi_31, zi_32, zi_34, zi_38, zi_59, zi_60, zi_61, zi_63, zi_64, zi_80, zi_96, zi_97, zi_99, zi_100, zi_122, zi_255, zi_256, zi_300, zi_398, zi_406, zi_900, zi_1000, zi_1024, zi_1624, zi_1662, zi_2030, zi_2031, zi_2068, zi_2258, zi_9999, zi_48, zi_57, zi_65536, zi_3257, zi_11483, zi_1000000, zi_729, zi_81, zi_m1, nI_add, pk_mul, nI_ltI, nI_leI, nI_eq, nI_clamp, zn_in, zn_sub1lt, zn_M, zn_Ml, zn_Mg, zn_Mle, zn_Mge, zn_sub, Nat.reduceAdd, Nat.reduceMul]
        refine ⟨fun g => absurd g (by omega), fun _ => sm_fit h okq y ht4 (by omega) (by omega) hj3 (by omega) gv ⟨fun e => ?_, fun e => ?_⟩⟩
        · rw [if_neg (by rw [e]; decide)] at ih; exact ih
        · rw [if_pos e] at ih
          cases es : (fi_s (fun i => (tv t (2 * i)).toInt.toNat) (fun i => (tv t (2 * i + 1)).toInt.toNat) n (sq_far (q 0) (q (10 + 4 * j)) (q 6)) m) with
          | none => rw [es] at ih; rw [fi_v]; exact ⟨fun _ => ih, fun g => absurd rfl g⟩
          | some a =>
            have al := flm a es
            rw [es] at ih; rw [fi_v, ze_and, zn_M (by omega)]; exact ⟨fun g => g.elim, fun _ => ih⟩
end
