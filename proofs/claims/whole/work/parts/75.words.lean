/-! texts: words, names, beginnings -/
def kcL : List Nat := [32, 115, 113, 117, 97, 114, 101, 32, 111, 100, 100, 115, 32, 111, 114, 103, 97, 110, 32, 116, 117, 110, 101, 32, 104, 101, 97, 114, 101, 114, 32, 100, 111, 103, 32, 98, 121, 32, 97, 116, 32, 99, 111, 105, 110, 115, 32, 108, 105, 107, 101, 115, 32, 112, 108, 97, 121, 32, 103, 114, 105, 110, 100, 32, 116, 104, 114, 111, 119, 32, 98, 114, 117, 115, 104, 32, 115, 101, 110, 100, 32, 101, 109, 112, 116, 121, 32, 97, 110, 121, 32, 119, 104, 101, 110, 32, 108, 111, 111, 112, 32, 101, 110, 100, 32, 115, 116, 111, 112, 32, 117, 112, 32, 115, 101, 101, 110, 32, 99, 117, 112, 32, 102, 97, 114, 32]
def ksL : List Nat := [1, 8, 13, 19, 24, 31, 35, 38, 41, 47, 53, 58, 64, 70, 76, 81, 87, 91, 96, 101, 105, 110, 113, 118, 122, 126]
def kc (k : Nat) : Nat := kcL.getD k 0
def ks (j : Nat) : Nat := ksL.getD j 0
theorem kc_b : ∀ k, k < 126 → ((am_byt.getD 1 []).getD k 0 &&& 255) = nI (kc k) := by decide +kernel
theorem kc_lt : ∀ k, k < 126 → kc k < 256 := by decide +kernel
theorem ks_ok : ∀ j, j < 25 → ks j + 2 ≤ ks (j + 1) ∧ ks (j + 1) ≤ 126 ∧ kc (ks (j + 1) - 1) = 32 ∧ tpk kc (ks j) (ks (j + 1) - 1 - ks j) = rwM.getD j 0 := by decide +kernel
theorem ks_l : ∀ j, j < 25 → ∀ i, i < 126 → ks j ≤ i → i < ks (j + 1) - 1 → cl (kc i) = true := by decide +kernel
theorem rwM_at : ∀ i, i < 25 → rwJ (rwM.getD i 0) = i := by decide +kernel
theorem rwM_none {x : Nat} (h : ∀ j, j < 25 → rwM.getD j 0 ≠ x) : rwJ x = 25 := by
  refine List.idxOf_eq_length (fun hm => ?_)
  obtain ⟨j, hj, e⟩ := List.getElem_of_mem hm
  have hj' : j < 25 := hj
  refine h j hj' ?_
  rw [List.getD_eq_getElem?_getD, List.getElem?_eq_getElem hj]
  exact e
theorem rwM_40 : ∀ i, i < 25 → rwM.getD i 0 < 2 ^ 40 := by decide +kernel
section
variable (y : Nat → Nat) (n p : Nat)
/-- the reserved word that stands here, in the class's and in the reference's order -/
def tI : Nat := if tK y n p = 3 then rwI (tQ y n p) else 25
def tJ : Nat := if tM y n p = 2 then rwJ (tQ y n p) else 25
end
section
variable {y : Nat → Nat} {n p : Nat} {I I0 I1 I2 : am_TI} {L L1 : am_TL} {R : am_TR}
theorem tQ_l (h : tM y n p = 2) : p < n ∧ tE y n p = rn cl y n p ∧ p < tE y n p ∧ ∀ k, k < tE y n p - p → cl (y (p + k)) = true := by
  unfold tM at h
  split at h
  · omega
  · split at h
    · next g1 g =>
      have e : tE y n p = rn cl y n p := by unfold tE; rw [if_neg g1, if_pos g]
      have l := rn_lt (P := cl) (y := y) (n := n) (p := p) (by omega) g
      refine ⟨by omega, e, by omega, fun k hk => rn_all (n := n) (p := p) (by omega) (by omega)⟩
    · split at h
      · split at h <;> omega
      · split at h <;> omega
theorem tK_w (h : tM y n p = 2) : tK y n p = (if 8 < tE y n p - p then 2 else if rwI (tQ y n p) < 25 then 3 else 1) := by
  unfold tM at h
  unfold tK
  split at h
  · omega
  · split at h
    · next g1 g => rw [if_neg g1, if_pos g]
    · split at h
      · split at h <;> omega
      · split at h <;> omega
theorem tM_w (h : tK y n p = 1 ∨ tK y n p = 2 ∨ tK y n p = 3) : tM y n p = 2 := by
  unfold tK at h
  unfold tM
  split at h
  · omega
  · split at h
    · next g1 g => rw [if_neg g1, if_pos g]
    · split at h
      · split at h <;> omega
      · split at h <;> omega
theorem tQ_40 (h : tM y n p = 2) (h8 : tE y n p - p ≤ 8) : tQ y n p < 2 ^ 40 := by
  obtain ⟨_, _, _, hl⟩ := tQ_l h
  have a := tpk_lt hl
  have b : (32 : Nat) ^ (tE y n p - p) ≤ 32 ^ 8 := Nat.pow_le_pow_right (by omega) h8
  have c : (32 : Nat) ^ 8 = 2 ^ 40 := by decide
  show tpk y p (tE y n p - p) < 2 ^ 40
  omega
theorem tI_le : tI y n p ≤ 25 := by
  unfold tI
  split
  · exact rwI_le _
  · omega
theorem tI_3 : tI y n p < 25 ↔ tK y n p = 3 := by
  unfold tI
  constructor
  · intro h
    split at h
    · next g => exact g
    · omega
  · intro h
    rw [if_pos h]
    exact (tW_3 h).2
theorem tJ_T : tJ y n p = rwT.getD (tI y n p) 25 := by
  unfold tJ
  by_cases h : tM y n p = 2
  · rw [if_pos h, rw_T]
    have k := tK_w h
    by_cases h8 : 8 < tE y n p - p
    · rw [if_pos h8] at k
      obtain ⟨_, _, _, hl⟩ := tQ_l h
      have e : tI y n p = 25 := by unfold tI; rw [if_neg (by omega)]
      have e2 : rwI (tQ y n p) = 25 := by
        refine rw_none (fun j hj x => ?_)
        have a := rw_40 j hj
        obtain ⟨m, hm⟩ : ∃ m, tE y n p - p = m + 1 := ⟨tE y n p - p - 1, by omega⟩
        rw [hm] at hl
        have b := tpk_ge hl
        have c : (32 : Nat) ^ 8 ≤ 32 ^ m := Nat.pow_le_pow_right (by omega) (by omega)
        have d : (32 : Nat) ^ 8 = 2 ^ 40 := by decide
        have e : tQ y n p = tpk y p (m + 1) := by unfold tQ; rw [hm]
        omega
      rw [e, e2]
    · rw [if_neg h8] at k
      by_cases g : rwI (tQ y n p) < 25
      · rw [if_pos g] at k
        unfold tI
        rw [if_pos k]
      · rw [if_neg g] at k
        have e : tI y n p = 25 := by unfold tI; rw [if_neg (by omega)]
        have := rwI_le (tQ y n p)
        rw [e, show rwI (tQ y n p) = 25 by omega]
  · rw [if_neg h]
    have e : tI y n p = 25 := by
      unfold tI
      rw [if_neg (fun x => h (tM_w (by omega)))]
    rw [e]; rfl
theorem sm_len {Q : Int32 → Prop} (K : Q (nI 126)) : wp_String_length I L R 1002 Q := ⟨1, by omega, rfl, K⟩
theorem sm_char {k : Nat} (hk : k < 126) {Q : Int32 → Prop} (K : Q (nI (kc k))) : wp_String_charAt I L R 1002 (nI k) Q := by
  refine ⟨1, by omega, rfl, (zn_in (by omega)).2 hk, ?_⟩
  rw [nI_clamp (by omega), kc_b k hk]
  exact K
theorem sm_inWords (hn : n ≤ 900) (h : tk_M y n p I) {Q : Int32 → Prop} (K : Q (if tJ y n p < 25 then nI (tJ y n p) else nM)) : wp_M_inWords I L R 103 1002 Q := by
  obtain ⟨tx, hp, e13, e14, e12, e15, e18⟩ := h
  have m5 : tM y n p < 5 := by
    unfold tM
    repeat' split
    all_goals omega
  unfold wp_M_inWords
  rw [e12]
  by_cases hw : tM y n p = 2
  rotate_left
  · have e : tJ y n p = 25 := by unfold tJ; rw [if_neg hw]
    rw [e, if_neg (by omega)] at K
    simp (disch := omega) only [zi_0, zi_1, zi_2, zi_3, zi_4, zi_5, zi_6, zi_7, zi_8, zi_9, zi_10, zi_11, zi_12, zi_13, zi_14, zi_15, zi_16, zi_17, zi_18, zi_19, zi_20, zi_21, zi_22, zi_23, zi_24, zi_25, zi_26, zi_30, zi_31, zi_32, zi_34, zi_38, zi_59, zi_60, zi_61, zi_63, zi_64, zi_80, zi_96, zi_97, zi_99, zi_100, zi_122, zi_255, zi_256, zi_300, zi_398, zi_406, zi_900, zi_1000, zi_1024, zi_1624, zi_1662, zi_2030, zi_2031, zi_2068, zi_2258, zi_9999, zi_48, zi_57, zi_65536, zi_3257, zi_11483, zi_1000000, zi_729, zi_81, zi_m1, nI_add, pk_mul, nI_ltI, nI_leI, nI_eq, nI_clamp, zn_in, zn_sub1lt, zn_M, zn_Ml, zn_Mg, zn_Mle, zn_Mge, zn_sub, Nat.reduceAdd, Nat.reduceMul]
    exact ⟨fun x => absurd x hw, fun _ => K⟩
  obtain ⟨hpn, eE, hE, hl⟩ := tQ_l hw
  have hEn : tE y n p ≤ n := tE_le hp
  have eJ : tJ y n p = rwJ (tQ y n p) := by unfold tJ; rw [if_pos hw]
  rw [eJ] at K
  have go : ∀ m j, j + m = 25 → (∀ i, i < j → rwM.getD i 0 ≠ tQ y n p) → wl_M_inWords_14 I L R 103 1002 Q (m + 1) (nI j) (nI (ks j)) := by
    intro m
    induction m with
    | zero =>
      intro j hj hno
      have ej : j = 25 := by omega
      subst ej
      rw [rwM_none hno, if_neg (by omega)] at K
      rw [wl_M_inWords_14]
      refine sm_len ⟨fun _ => K, fun x => absurd ?_ x⟩
      show nI 126 ≤ nI 126
      rw [nI_leI (by omega) (by omega)]; omega
    | succ m ih =>
      intro j hj hno
      obtain ⟨k1, k2, k3, k4⟩ := ks_ok j (by omega)
      have kl := ks_l j (by omega)
      have klr : ∀ k, k < ks (j + 1) - 1 - ks j → cl (kc (ks j + k)) = true := fun k hk => kl (ks j + k) (by omega) (by omega) (by omega)
      have yes : rwM.getD j 0 = tQ y n p → Q (nI j) := fun e => by
        have := rwM_at j (by omega)
        rw [e] at this
        rw [this, if_pos (by omega)] at K
        exact K
      have no : rwM.getD j 0 ≠ tQ y n p → wl_M_inWords_14 I L R 103 1002 Q (m + 1) (nI (j + 1)) (nI (ks (j + 1) - 1 + 1)) := fun e => by
        rw [show ks (j + 1) - 1 + 1 = ks (j + 1) by omega]
        refine ih (j + 1) (by omega) (fun i hi => ?_)
        by_cases x : i = j
        · rw [x]; exact e
        · exact hno i (by omega)
      have cmp : ks (j + 1) - 1 - ks j = tE y n p - p → ∀ m2 v b, v + m2 = ks (j + 1) - 1 → ks j ≤ v → ((b = true → ∀ i, i < v - ks j → y (p + i) = kc (ks j + i)) ∧ (b = false → rwM.getD j 0 ≠ tQ y n p)) → wl_M_inWords_68 I L R 103 1002 Q (wl_M_inWords_14 I L R 103 1002 Q (m + 1)) (m2 + 1) (nI j) (nI (ks j)) (nI (ks (j + 1) - 1)) b (nI v) := by
        intro hlen m2
        have leaf : ∀ v b, ((b = false) ∨ v = ks (j + 1) - 1) → ((b = true → ∀ i, i < v - ks j → y (p + i) = kc (ks j + i)) ∧ (b = false → rwM.getD j 0 ≠ tQ y n p)) → wb_M_inWords_115 I L R 103 1002 Q (wl_M_inWords_14 I L R 103 1002 Q (m + 1)) (nI j) (nI (ks (j + 1) - 1)) b := by
          intro v b hv hb
          unfold wb_M_inWords_115
          simp (disch := omega) only [zi_0, zi_1, zi_2, zi_3, zi_4, zi_5, zi_6, zi_7, zi_8, zi_9, zi_10, zi_11, zi_12, zi_13, zi_14, zi_15, zi_16, zi_17, zi_18, zi_19, zi_20, zi_21, zi_22, zi_23, zi_24, zi_25, zi_26, zi_30, zi_31, zi_32, zi_34, zi_38, zi_59, zi_60, zi_61, zi_63, zi_64, zi_80, zi_96, zi_97, zi_99, zi_100, zi_122, zi_255, zi_256, zi_300, zi_398, zi_406, zi_900, zi_1000, zi_1024, zi_1624, zi_1662, zi_2030, zi_2031, zi_2068, zi_2258, zi_9999, zi_48, zi_57, zi_65536, zi_3257, zi_11483, zi_1000000, zi_729, zi_81, zi_m1, nI_add, pk_mul, nI_ltI, nI_leI, nI_eq, nI_clamp, zn_in, zn_sub1lt, zn_M, zn_Ml, zn_Mg, zn_Mle, zn_Mge, zn_sub, Nat.reduceAdd, Nat.reduceMul]
          refine ⟨fun e => no (hb.2 e), fun e => yes ?_⟩
          have ev : v = ks (j + 1) - 1 := hv.resolve_left (by rw [e]; decide)
          rw [← k4, hlen]
          show _ = tpk y p (tE y n p - p)
          refine (tpk_inj (fun k hk => klr k (by omega)) hl).2 (fun k hk => ?_)
          exact (hb.1 e k (by omega)).symm
        induction m2 with
        | zero =>
          intro v b hv hks hb
          have a := leaf v b (Or.inr (by omega)) hb
          rw [wl_M_inWords_68]
          simp (disch := omega) only [zi_0, zi_1, zi_2, zi_3, zi_4, zi_5, zi_6, zi_7, zi_8, zi_9, zi_10, zi_11, zi_12, zi_13, zi_14, zi_15, zi_16, zi_17, zi_18, zi_19, zi_20, zi_21, zi_22, zi_23, zi_24, zi_25, zi_26, zi_30, zi_31, zi_32, zi_34, zi_38, zi_59, zi_60, zi_61, zi_63, zi_64, zi_80, zi_96, zi_97, zi_99, zi_100, zi_122, zi_255, zi_256, zi_300, zi_398, zi_406, zi_900, zi_1000, zi_1024, zi_1624, zi_1662, zi_2030, zi_2031, zi_2068, zi_2258, zi_9999, zi_48, zi_57, zi_65536, zi_3257, zi_11483, zi_1000000, zi_729, zi_81, zi_m1, nI_add, pk_mul, nI_ltI, nI_leI, nI_eq, nI_clamp, zn_in, zn_sub1lt, zn_M, zn_Ml, zn_Mg, zn_Mle, zn_Mge, zn_sub, Nat.reduceAdd, Nat.reduceMul]
          exact ⟨fun _ => a, fun x => absurd (by omega) x⟩
        | succ m2 ih2 =>
          intro v b hv hks hb
          cases b with
          | false =>
            have a := leaf v false (Or.inl rfl) hb
            rw [wl_M_inWords_68]
            simp (disch := omega) only [zi_0, zi_1, zi_2, zi_3, zi_4, zi_5, zi_6, zi_7, zi_8, zi_9, zi_10, zi_11, zi_12, zi_13, zi_14, zi_15, zi_16, zi_17, zi_18, zi_19, zi_20, zi_21, zi_22, zi_23, zi_24, zi_25, zi_26, zi_30, zi_31, zi_32, zi_34, zi_38, zi_59, zi_60, zi_61, zi_63, zi_64, zi_80, zi_96, zi_97, zi_99, zi_100, zi_122, zi_255, zi_256, zi_300, zi_398, zi_406, zi_900, zi_1000, zi_1024, zi_1624, zi_1662, zi_2030, zi_2031, zi_2068, zi_2258, zi_9999, zi_48, zi_57, zi_65536, zi_3257, zi_11483, zi_1000000, zi_729, zi_81, zi_m1, nI_add, pk_mul, nI_ltI, nI_leI, nI_eq, nI_clamp, zn_in, zn_sub1lt, zn_M, zn_Ml, zn_Mg, zn_Mle, zn_Mge, zn_sub, Nat.reduceAdd, Nat.reduceMul]
            exact ⟨fun x => absurd x (by omega), fun _ => ⟨fun _ => a, fun x => (by cases x)⟩⟩
          | true =>
            rw [wl_M_inWords_68]
            simp (disch := omega) only [e13, zi_0, zi_1, zi_2, zi_3, zi_4, zi_5, zi_6, zi_7, zi_8, zi_9, zi_10, zi_11, zi_12, zi_13, zi_14, zi_15, zi_16, zi_17, zi_18, zi_19, zi_20, zi_21, zi_22, zi_23, zi_24, zi_25, zi_26, zi_30, zi_31, zi_32, zi_34, zi_38, zi_59, zi_60, zi_61, zi_63, zi_64, zi_80, zi_96, zi_97, zi_99, zi_100, zi_122, zi_255, zi_256, zi_300, zi_398, zi_406, zi_900, zi_1000, zi_1024, zi_1624, zi_1662, zi_2030, zi_2031, zi_2068, zi_2258, zi_9999, zi_48, zi_57, zi_65536, zi_3257, zi_11483, zi_1000000, zi_729, zi_81, zi_m1, nI_add, pk_mul, nI_ltI, nI_leI, nI_eq, nI_clamp, zn_in, zn_sub1lt, zn_M, zn_Ml, zn_Mg, zn_Mle, zn_Mge, zn_sub, Nat.reduceAdd, Nat.reduceMul]
            refine ⟨fun x => absurd x (by omega), fun _ => ⟨fun x => (by cases x), fun _ => sm_char (by omega) (sm_byte tx hn (by omega) ?_)⟩⟩
            rw [if_neg (by omega)]
            have yl := sm_yl tx (k := p + v - ks j) (by omega)
            have kl2 := kc_lt v (by omega)
            rw [nI_eq (by omega) (by omega)]
            refine ⟨fun e => ih2 (v + 1) true (by omega) (by omega) ⟨fun _ i hi => ?_, fun x => (by cases x)⟩, fun e => ih2 (v + 1) false (by omega) (by omega) ⟨fun x => (by cases x), fun _ x => ?_⟩⟩
            · by_cases g : i = v - ks j
              · rw [g, show ks j + (v - ks j) = v by omega, e]; congr 1; omega
              · exact hb.1 rfl i (by omega)
            · rw [← k4, hlen] at x
              have x' : tpk kc (ks j) (tE y n p - p) = tpk y p (tE y n p - p) := x
              have := (tpk_inj (fun k hk => klr k (by omega)) hl).1 x' (v - ks j) (by omega)
              rw [show ks j + (v - ks j) = v by omega] at this
              refine e (this.trans ?_)
              congr 1
              omega
      have inn : ∀ m2 v, v + m2 = ks (j + 1) - 1 → ks j ≤ v → wl_M_inWords_25 I L R 103 1002 Q (wl_M_inWords_14 I L R 103 1002 Q (m + 1)) (m2 + 1) (nI j) (nI (ks j)) (nI v) := by
        intro m2
        induction m2 with
        | zero =>
          intro v hv hks
          have ev : v = ks (j + 1) - 1 := by omega
          rw [wl_M_inWords_25]
          refine sm_char (by omega) ?_
          rw [ev, k3, e13, e14]
          simp (disch := omega) only [wb_M_inWords_63, zi_0, zi_1, zi_2, zi_3, zi_4, zi_5, zi_6, zi_7, zi_8, zi_9, zi_10, zi_11, zi_12, zi_13, zi_14, zi_15, zi_16, zi_17, zi_18, zi_19, zi_20, zi_21, zi_22, zi_23, zi_24, zi_25, zi_26, zi_30, zi_31, zi_32, zi_34, zi_38, zi_59, zi_60, zi_61, zi_63, zi_64, zi_80, zi_96, zi_97, zi_99, zi_100, zi_122, zi_255, zi_256, zi_300, zi_398, zi_406, zi_900, zi_1000, zi_1024, zi_1624, zi_1662, zi_2030, zi_2031, zi_2068, zi_2258, zi_9999, zi_48, zi_57, zi_65536, zi_3257, zi_11483, zi_1000000, zi_729, zi_81, zi_m1, nI_add, pk_mul, nI_ltI, nI_leI, nI_eq, nI_clamp, zn_in, zn_sub1lt, zn_M, zn_Ml, zn_Mg, zn_Mle, zn_Mge, zn_sub, Nat.reduceAdd, Nat.reduceMul]
          refine ⟨fun _ => ⟨fun e => ⟨_, cmp e (ks (j + 1) - 1 - ks j) (ks j) true (by omega) (Nat.le_refl _) ⟨fun _ i hi => absurd hi (by omega), fun x => (by cases x)⟩⟩, fun e => ?_⟩, fun x => absurd trivial x⟩
          have ne : rwM.getD j 0 ≠ tQ y n p := fun x => by
            rw [← k4] at x
            exact e (tpk_len klr hl x)
          refine ⟨1, ?_⟩
          have a : wb_M_inWords_115 I L R 103 1002 Q (wl_M_inWords_14 I L R 103 1002 Q (m + 1)) (nI j) (nI (ks (j + 1) - 1)) false := by
            unfold wb_M_inWords_115
            simp (disch := omega) only [zi_0, zi_1, zi_2, zi_3, zi_4, zi_5, zi_6, zi_7, zi_8, zi_9, zi_10, zi_11, zi_12, zi_13, zi_14, zi_15, zi_16, zi_17, zi_18, zi_19, zi_20, zi_21, zi_22, zi_23, zi_24, zi_25, zi_26, zi_30, zi_31, zi_32, zi_34, zi_38, zi_59, zi_60, zi_61, zi_63, zi_64, zi_80, zi_96, zi_97, zi_99, zi_100, zi_122, zi_255, zi_256, zi_300, zi_398, zi_406, zi_900, zi_1000, zi_1024, zi_1624, zi_1662, zi_2030, zi_2031, zi_2068, zi_2258, zi_9999, zi_48, zi_57, zi_65536, zi_3257, zi_11483, zi_1000000, zi_729, zi_81, zi_m1, nI_add, pk_mul, nI_ltI, nI_leI, nI_eq, nI_clamp, zn_in, zn_sub1lt, zn_M, zn_Ml, zn_Mg, zn_Mle, zn_Mge, zn_sub, Nat.reduceAdd, Nat.reduceMul]
            exact ⟨fun _ => no ne, fun x => (by cases x)⟩
          rw [wl_M_inWords_68]
          exact ⟨fun _ => a, fun _ => ⟨fun _ => a, fun x => (by cases x)⟩⟩
        | succ m2 ih2 =>
          intro v hv hks
          have c := cl_iff.1 (kl v (by omega) hks (by omega))
          have nx := ih2 (v + 1) (by omega) (by omega)
          rw [wl_M_inWords_25]
          refine sm_char (by omega) ?_
          simp (disch := omega) only [zi_0, zi_1, zi_2, zi_3, zi_4, zi_5, zi_6, zi_7, zi_8, zi_9, zi_10, zi_11, zi_12, zi_13, zi_14, zi_15, zi_16, zi_17, zi_18, zi_19, zi_20, zi_21, zi_22, zi_23, zi_24, zi_25, zi_26, zi_30, zi_31, zi_32, zi_34, zi_38, zi_59, zi_60, zi_61, zi_63, zi_64, zi_80, zi_96, zi_97, zi_99, zi_100, zi_122, zi_255, zi_256, zi_300, zi_398, zi_406, zi_900, zi_1000, zi_1024, zi_1624, zi_1662, zi_2030, zi_2031, zi_2068, zi_2258, zi_9999, zi_48, zi_57, zi_65536, zi_3257, zi_11483, zi_1000000, zi_729, zi_81, zi_m1, nI_add, pk_mul, nI_ltI, nI_leI, nI_eq, nI_clamp, zn_in, zn_sub1lt, zn_M, zn_Ml, zn_Mg, zn_Mle, zn_Mge, zn_sub, Nat.reduceAdd, Nat.reduceMul]
          exact ⟨fun x => absurd x (by omega), fun _ => nx⟩
      rw [wl_M_inWords_14]
      refine sm_len ⟨fun x => ?_, fun _ => ⟨_, inn (ks (j + 1) - 1 - ks j) (ks j) (by omega) (Nat.le_refl _)⟩⟩
      rw [nI_leI (by omega) (by omega)] at x
      omega
  have main := go 25 0 (by omega) (fun i hi => absurd hi (by omega))
  rw [hw]
  exact ⟨fun _ => ⟨26, main⟩, fun x => absurd rfl x⟩
theorem sm_isName (hn : n ≤ 900) (h : tk_M y n p I) {Q : Bool → Prop} (K : Q (decide (tK y n p = 1))) : wp_M_isName I L R 103 1002 Q := by
  have h' := h
  obtain ⟨tx, hp, e13, e14, e12, e15, e18⟩ := h'
  have m5 : tM y n p < 5 := by
    unfold tM
    repeat' split
    all_goals omega
  have hE : p ≤ tE y n p := tE_ge
  have hEn : tE y n p ≤ n := tE_le hp
  unfold wp_M_isName
  simp (disch := omega) only [e12, e13, e14, zi_0, zi_1, zi_2, zi_3, zi_4, zi_5, zi_6, zi_7, zi_8, zi_9, zi_10, zi_11, zi_12, zi_13, zi_14, zi_15, zi_16, zi_17, zi_18, zi_19, zi_20, zi_21, zi_22, zi_23, zi_24, zi_25, zi_26, zi_30, zi_31, zi_32, zi_34, zi_38, zi_59, zi_60, zi_61, zi_63, zi_64, zi_80, zi_96, zi_97, zi_99, zi_100, zi_122, zi_255, zi_256, zi_300, zi_398, zi_406, zi_900, zi_1000, zi_1024, zi_1624, zi_1662, zi_2030, zi_2031, zi_2068, zi_2258, zi_9999, zi_48, zi_57, zi_65536, zi_3257, zi_11483, zi_1000000, zi_729, zi_81, zi_m1, nI_add, pk_mul, nI_ltI, nI_leI, nI_eq, nI_clamp, zn_in, zn_sub1lt, zn_M, zn_Ml, zn_Mg, zn_Mle, zn_Mge, zn_sub, Nat.reduceAdd, Nat.reduceMul]
  by_cases hw : tM y n p = 2
  rotate_left
  · rw [decide_eq_false (fun x => hw (tM_w (by omega)))] at K
    exact ⟨fun x => absurd x hw, fun _ => K⟩
  have k := tK_w hw
  refine ⟨fun _ => ⟨fun g => ?_, fun g => sm_inWords hn h ?_⟩, fun x => absurd hw x⟩
  · rw [if_pos g] at k
    rw [decide_eq_false (by omega)] at K
    exact K
  · rw [if_neg (by omega)] at k
    have eJ : tJ y n p = rwJ (tQ y n p) := by unfold tJ; rw [if_pos hw]
    have eT := tJ_T (y := y) (n := n) (p := p)
    by_cases g2 : rwI (tQ y n p) < 25
    · rw [if_pos g2] at k
      rw [decide_eq_false (by omega)] at K
      have eI : tI y n p = rwI (tQ y n p) := by unfold tI; rw [if_pos k]
      have b : ∀ i, i < 25 → rwT.getD i 25 < 25 := by decide
      have bb := b _ g2
      rw [eI] at eT
      rw [if_pos (by omega)]
      simp (disch := omega) only [zi_0, zi_1, zi_2, zi_3, zi_4, zi_5, zi_6, zi_7, zi_8, zi_9, zi_10, zi_11, zi_12, zi_13, zi_14, zi_15, zi_16, zi_17, zi_18, zi_19, zi_20, zi_21, zi_22, zi_23, zi_24, zi_25, zi_26, zi_30, zi_31, zi_32, zi_34, zi_38, zi_59, zi_60, zi_61, zi_63, zi_64, zi_80, zi_96, zi_97, zi_99, zi_100, zi_122, zi_255, zi_256, zi_300, zi_398, zi_406, zi_900, zi_1000, zi_1024, zi_1624, zi_1662, zi_2030, zi_2031, zi_2068, zi_2258, zi_9999, zi_48, zi_57, zi_65536, zi_3257, zi_11483, zi_1000000, zi_729, zi_81, zi_m1, nI_add, pk_mul, nI_ltI, nI_leI, nI_eq, nI_clamp, zn_in, zn_sub1lt, zn_M, zn_Ml, zn_Mg, zn_Mle, zn_Mge, zn_sub, Nat.reduceAdd, Nat.reduceMul]
      exact ⟨fun x => absurd x id, fun _ => K⟩
    · rw [if_neg g2] at k
      rw [decide_eq_true (by omega)] at K
      have eI : tI y n p = 25 := by unfold tI; rw [if_neg (by omega)]
      rw [eI] at eT
      have e25 : tJ y n p = 25 := eT
      rw [if_neg (by omega)]
      exact ⟨fun _ => K, fun x => absurd (by decide) x⟩
theorem zb_shl8 {a b : Nat} (ha : a < 2 ^ 56) (hb : b < 256) : (lN a <<< (Int32.toInt64 8 &&& 63)) ||| Int32.toInt64 (nI b) = lN (256 * a + b) := by
  rw [nI_l (by omega), show (Int32.toInt64 8 &&& 63) = (8 : Int64) by decide]
  apply Int64.toBitVec_inj.mp
  apply BitVec.eq_of_toNat_eq
  show ((BitVec.ofNat 64 a <<< ((8 : Int64).toBitVec.smod 64)) ||| BitVec.ofNat 64 b).toNat = (BitVec.ofNat 64 (256 * a + b)).toNat
  rw [show (8 : Int64).toBitVec.smod 64 = 8#64 by decide]
  rw [BitVec.toNat_or, BitVec.toNat_ofNat, BitVec.toNat_ofNat]
  have e1 : (BitVec.ofNat 64 a <<< 8#64).toNat = a <<< 8 := by
    show (BitVec.ofNat 64 a <<< (8#64).toNat).toNat = _
    rw [BitVec.toNat_shiftLeft, BitVec.toNat_ofNat, Nat.mod_eq_of_lt (a := a) (by omega)]
    rw [show (8#64).toNat = 8 by decide, Nat.mod_eq_of_lt]
    rw [Nat.shiftLeft_eq]
    omega
  rw [e1, Nat.mod_eq_of_lt (a := b) (by omega), ← Nat.shiftLeft_add_eq_or_of_lt (by omega), Nat.shiftLeft_eq, Nat.mod_eq_of_lt (by omega)]
  omega
theorem tpm_lt {m : Nat} (h : ∀ k, k < m → y (p + k) < 256) : tpm y p m < 256 ^ m := by
  induction m with
  | zero => exact Nat.one_pos
  | succ m ih =>
    have a := ih (fun k hk => h k (by omega))
    have b := h m (by omega)
    show 256 * tpm y p m + y (p + m) < 256 ^ (m + 1)
    rw [Nat.pow_succ]
    omega
theorem sm_nameHere (hn : n ≤ 900) (h : tk_M y n p I) (h1 : tK y n p = 1) {Q : Int64 → Prop} (K : Q (lN (nm_cv 8 (tQ y n p)))) : wp_M_nameHere I L R 103 Q := by
  obtain ⟨tx, hp, e13, e14, e12, e15, e18⟩ := h
  have hw := tM_w (y := y) (n := n) (p := p) (by omega)
  have k := tK_w hw
  obtain ⟨hpn, eE, hE, hl⟩ := tQ_l hw
  have hEn : tE y n p ≤ n := tE_le hp
  have l8 : tE y n p - p ≤ 8 := by
    rcases Nat.lt_or_ge 8 (tE y n p - p) with g | g
    · rw [if_pos g] at k; omega
    · exact g
  have ev : nm_cv 8 (tQ y n p) = tpm y p (tE y n p - p) := nm_pk hl 8 l8
  rw [ev] at K
  have go : ∀ m v, v + m = tE y n p → p ≤ v → wl_M_nameHere_7 I L R 103 Q (m + 1) (lN (tpm y p (v - p))) (nI v) := by
    intro m
    induction m with
    | zero =>
      intro v hv hpv
      have e : v = tE y n p := by omega
      rw [← e] at K
      rw [wl_M_nameHere_7]
      dsimp only
      rw [e14, nI_leI (by omega) (by omega)]
      exact ⟨fun _ => K, fun x => absurd (by omega) x⟩
    | succ m ih =>
      intro v hv hpv
      have nx := ih (v + 1) (by omega) (by omega)
      have a := tpm_lt (y := y) (p := p) (m := v - p) (fun j hj => sm_yl tx (by omega))
      have b : (256 : Nat) ^ (v - p) ≤ 256 ^ 7 := Nat.pow_le_pow_right (by omega) (by omega)
      have c : (256 : Nat) ^ 7 = 2 ^ 56 := by decide
      have yl := sm_yl tx (k := v) (by omega)
      rw [wl_M_nameHere_7]
      dsimp only
      rw [e14, nI_leI (by omega) (by omega)]
      refine ⟨fun x => absurd x (by omega), fun _ => sm_byte tx hn (by omega) ?_⟩
      rw [if_neg (by omega), zb_shl8 (by omega) yl, zi_1, nI_add]
      have e : tpm y p (v + 1 - p) = 256 * tpm y p (v - p) + y v := by
        rw [show v + 1 - p = (v - p) + 1 by omega]
        show 256 * tpm y p (v - p) + y (p + (v - p)) = _
        rw [show p + (v - p) = v by omega]
      rw [← e]; exact nx
  have := go (tE y n p - p) p (by omega) (Nat.le_refl _)
  rw [Nat.sub_self] at this
  unfold wp_M_nameHere
  rw [e13]
  exact ⟨_, this⟩
end
