/-! the call square, in both -/
def fx_U (t e : Nat) (I I1 : am_TI) : Prop := ∀ r k, ¬ (r = 0 ∧ k = 15) → ¬ (r = 2 ∧ 5 ≤ k ∧ k ≤ 11) → r ≠ 5 → r ≠ 6 → ¬ (8 ≤ r ∧ r ≤ 10) → ¬ (t ≤ r ∧ r ≤ t + 5) → ¬ (e ≤ r ∧ r ≤ e + 5) → I1 r k = I r k
def fx_L (t : Nat) (L L1 : am_TL) : Prop := ∀ r, r ≠ 7 → r ≠ t + 1 → L1 r = L r
def fx_M (lo : Nat) (I I1 : am_TI) : Prop := ∀ r k, ¬ (r = 103 ∧ (k = 2 ∨ (10 ≤ k ∧ k ≤ 23))) → r ≠ 110 → r ≠ 111 → ¬ (r = 104 ∧ (k < lo ∨ (1624 ≤ k ∧ k < 2030))) → I1 r k = I r k
def fx_N (lo : Nat) (L L1 : am_TL) : Prop := ∀ r k, ¬ (r = 105 ∧ (k < lo ∨ (24 ≤ k ∧ k < 30))) → L1 r k = L r k
section
variable {n len t e : Nat} {b : Nat → Int32} {I I1 : am_TI} {L L1 : am_TL} {R : am_TR}
set_option maxHeartbeats 1000000 in
theorem su_sqT (h : tp_U len b I) (rs : rs_U L) (hn : n ≤ len) (h9 : len ≤ 900) (hc : sq_cd t e) (hr : am_rd R t 5 = e) {Q : Bool → am_TI → am_TL → Prop} (K : ∀ I1 L1, sU (fun k => yb (b k)) n qz (fun _ => 0) (tS (fun k => yb (b k)) n 0) t e I1 L1 → I1 2 10 = nI 0 → I1 2 11 = nM → I1 e 6 = nI 0 → fx_U t e I I1 → ft_L L L1 → ∃ z, wl_SquareReader_readText_27 R 8 2 (nI n) t Q z I1 L1 (nI 0)) : wp_SquareReader_readText I L R 8 2 (nI n) t Q := by
  unfold wp_SquareReader_readText wp_Square_reset wp_Days_clear
  rw [hr]
  intro I1 h1 I2 h2 I3 h3 I4 h4 I5 h5 I6 h6 I7 h7 I8 h8 I9 h9' I10 h10 I11 h11 I12 h12 I13 h13 I14 h14 I15 h15 I16 h16
  have fr : ∀ r k, r ≠ 8 → ¬ (t ≤ r ∧ r ≤ t + 5) → ¬ (e ≤ r ∧ r ≤ e + 5) → I16 r k = I r k := fun r k x1 x2 x3 => by
    rw [h16, h15, h14, h13, h12, h11, h10, h9', h8, h7, h6, h5, h4, h3, h2, h1]
    repeat rw [am_u2o (by omega)]
  have v : (I16 t 6 = nI 4 ∧ I16 t 7 = nI 4 ∧ I16 t 10 = nI 0 ∧ I16 t 11 = nI 0 ∧ I16 t 12 = nI 0 ∧ I16 t 8 = nI 8 ∧ I16 t 9 = nI 0 ∧ I16 t 13 = nI 0 ∧ I16 t 14 = nI 0 ∧ I16 t 15 = nI 0) ∧ I16 e 5 = nI 0 ∧ I16 e 6 = nI 0 ∧ I16 8 0 = nI 0 ∧ I16 8 1 = nI 0 ∧ I16 8 2 = nI 0 := by
    rw [h16, h15, h14, h13, h12, h11, h10, h9', h8, h7, h6, h5, h4, h3, h2, h1]
    obtain ⟨c1, c2⟩ := hc
    rcases c1 with c1 | c1 <;> rcases c2 with c2 | c2 | c2 <;> subst c1 <;> subst c2 <;> exact ⟨⟨rfl, rfl, rfl, rfl, rfl, rfl, rfl, rfl, rfl, rfl⟩, rfl, rfl, rfl, rfl, rfl⟩
  obtain ⟨v1, v2, v3, v4, v5, v6⟩ := v
  obtain ⟨c1, c2⟩ := id hc
  have tp : tp_U len b I16 := ⟨by rw [fr 2 7 (by omega) (by omega) (by omega)]; exact h.1, fun i hi => by rw [fr 3 i (by omega) (by omega) (by omega)]; exact h.2 i hi⟩
  have z0 : ∀ k, k = 2 ∨ k = 3 ∨ k = 4 ∨ k = 7 → qz k = 0 := by
    intro k hk
    rcases hk with rfl | rfl | rfl | rfl <;> rfl
  refine su_begin tp rs hn h9 (fun I17 L1 tk e10 e11 f17 l17 => ?_)
  have g17 : ∀ r k, r ≠ 5 → r ≠ 6 → r ≠ 2 → I17 r k = I16 r k := fun r k x1 x2 x3 => f17 r k x1 x2 (by omega)
  have gt : I17 t = I16 t := by funext k; exact g17 t k (by omega) (by omega) (by omega)
  have ge : I17 e = I16 e := by funext k; exact g17 e k (by omega) (by omega) (by omega)
  refine K I17 L1 ⟨tk, ⟨?_, ?_, ?_, ?_, ?_⟩, ?_, ?_, ?_⟩ e10 e11 ?_ ?_ l17
  · rw [gt]; exact v1
  · intro j hj; rw [z0 3 (by omega)] at hj; omega
  · intro j hj; rw [z0 4 (by omega)] at hj; omega
  · intro j hj; rw [z0 2 (by omega)] at hj; omega
  · refine ⟨?_, fun x => ?_, fun j hj => ?_⟩
    · rw [ge, v2, z0 7 (by omega)]; rfl
    · rw [z0 7 (by omega)] at x; omega
    · rw [z0 7 (by omega)] at hj; omega
  · rw [g17 8 0 (by omega) (by omega) (by omega)]; exact v4
  · rw [g17 8 1 (by omega) (by omega) (by omega)]; exact v5
  · rw [g17 8 2 (by omega) (by omega) (by omega)]; exact v6
  · rw [ge]; exact v3
  · exact fun r k x1 x2 x3 x4 x5 x6 x7 => (f17 r k x3 x4 (by omega)).trans (fr r k (by omega) x6 x7)
theorem sm_sq90 {p1 : Int32} {Q : Int32 → am_TI → am_TL → Prop} : ∀ m k L, k + m = 6 → (∀ L1, (∀ j, k ≤ j → j < 6 → L1 105 j = L 105 (24 + j)) → (∀ r j, ¬ (r = 105 ∧ k ≤ j ∧ j < 6) → L1 r j = L r j) → wb_M_square_117 R 103 p1 Q I L1) → wl_M_square_90 R 103 p1 Q (m + 1) I L (nI k) := by
  intro m
  induction m with
  | zero =>
    intro k L hk K
    have k2 := K L (fun j a b => absurd a (by omega)) (fun _ _ _ => rfl)
    rw [wl_M_square_90]
    simp (disch := omega) only [zi_0, zi_1, zi_2, zi_3, zi_4, zi_5, zi_6, zi_7, zi_8, zi_9, zi_10, zi_11, zi_12, zi_13, zi_14, zi_15, zi_16, zi_17, zi_18, zi_19, zi_20, zi_21, zi_22, zi_23, zi_24, zi_25, zi_26, zi_30, zi_31, zi_32, zi_34, zi_38, zi_59, zi_60, zi_61, zi_63, zi_64, zi_80, zi_96, zi_97, zi_99, zi_100, zi_122, zi_255, zi_256, zi_300, zi_398, zi_406, zi_900, zi_1000, zi_1024, zi_1624, zi_1662, zi_2030, zi_2031, zi_2068, zi_2258, zi_9999, zi_48, zi_57, zi_65536, zi_3257, zi_11483, zi_1000000, zi_729, zi_81, zi_m1, nI_add, pk_mul, nI_ltI, nI_leI, nI_eq, nI_clamp, zn_in, zn_sub1lt, zn_M, zn_Ml, zn_Mg, zn_Mle, zn_Mge, zn_sub, Nat.reduceAdd, Nat.reduceMul]
    exact ⟨fun _ => k2, fun x => absurd (by omega) x⟩
  | succ m ih =>
    intro k L hk K
    rw [wl_M_square_90]
    simp (disch := omega) only [zi_0, zi_1, zi_2, zi_3, zi_4, zi_5, zi_6, zi_7, zi_8, zi_9, zi_10, zi_11, zi_12, zi_13, zi_14, zi_15, zi_16, zi_17, zi_18, zi_19, zi_20, zi_21, zi_22, zi_23, zi_24, zi_25, zi_26, zi_30, zi_31, zi_32, zi_34, zi_38, zi_59, zi_60, zi_61, zi_63, zi_64, zi_80, zi_96, zi_97, zi_99, zi_100, zi_122, zi_255, zi_256, zi_300, zi_398, zi_406, zi_900, zi_1000, zi_1024, zi_1624, zi_1662, zi_2030, zi_2031, zi_2068, zi_2258, zi_9999, zi_48, zi_57, zi_65536, zi_3257, zi_11483, zi_1000000, zi_729, zi_81, zi_m1, nI_add, pk_mul, nI_ltI, nI_leI, nI_eq, nI_clamp, zn_in, zn_sub1lt, zn_M, zn_Ml, zn_Mg, zn_Mle, zn_Mge, zn_sub, Nat.reduceAdd, Nat.reduceMul]
    refine ⟨fun x => absurd x (by omega), fun _ => ⟨by omega, by omega, fun L1 h1 => ?_⟩⟩
    refine ih (k + 1) L1 (by omega) (fun L2 a b => K L2 (fun j x y => ?_) (fun r j g => ?_))
    · by_cases c : j = k
      · subst c
        rw [b 105 j (by omega), h1, am_u2_at]
      · rw [a j (by omega) y, h1, am_u2_ne _ _ _ _ (by omega)]
    · rw [b r j (by omega), h1]
      unfold am_u2
      rw [if_neg (by omega)]
theorem sm_sq59 {p1 : Int32} {Q : Int32 → am_TI → am_TL → Prop} : ∀ m k I, k + m = 406 → (∀ I1, (∀ j, k ≤ j → j < 406 → I1 104 j = I 104 (1624 + j)) → (∀ r j, ¬ (r = 104 ∧ k ≤ j ∧ j < 406) → I1 r j = I r j) → ∃ z, wl_M_square_90 R 103 p1 Q z I1 L (nI 0)) → wl_M_square_59 R 103 p1 Q (m + 1) I L (nI k) := by
  intro m
  induction m with
  | zero =>
    intro k I hk K
    have k2 := K I (fun j a b => absurd a (by omega)) (fun _ _ _ => rfl)
    rw [wl_M_square_59]
    simp (disch := omega) only [zi_0, zi_1, zi_2, zi_3, zi_4, zi_5, zi_6, zi_7, zi_8, zi_9, zi_10, zi_11, zi_12, zi_13, zi_14, zi_15, zi_16, zi_17, zi_18, zi_19, zi_20, zi_21, zi_22, zi_23, zi_24, zi_25, zi_26, zi_30, zi_31, zi_32, zi_34, zi_38, zi_59, zi_60, zi_61, zi_63, zi_64, zi_80, zi_96, zi_97, zi_99, zi_100, zi_122, zi_255, zi_256, zi_300, zi_398, zi_406, zi_900, zi_1000, zi_1024, zi_1624, zi_1662, zi_2030, zi_2031, zi_2068, zi_2258, zi_9999, zi_48, zi_57, zi_65536, zi_3257, zi_11483, zi_1000000, zi_729, zi_81, zi_m1, nI_add, pk_mul, nI_ltI, nI_leI, nI_eq, nI_clamp, zn_in, zn_sub1lt, zn_M, zn_Ml, zn_Mg, zn_Mle, zn_Mge, zn_sub, Nat.reduceAdd, Nat.reduceMul]
    exact ⟨fun _ => k2, fun x => absurd (by omega) x⟩
  | succ m ih =>
    intro k I hk K
    rw [wl_M_square_59]
    simp (disch := omega) only [zi_0, zi_1, zi_2, zi_3, zi_4, zi_5, zi_6, zi_7, zi_8, zi_9, zi_10, zi_11, zi_12, zi_13, zi_14, zi_15, zi_16, zi_17, zi_18, zi_19, zi_20, zi_21, zi_22, zi_23, zi_24, zi_25, zi_26, zi_30, zi_31, zi_32, zi_34, zi_38, zi_59, zi_60, zi_61, zi_63, zi_64, zi_80, zi_96, zi_97, zi_99, zi_100, zi_122, zi_255, zi_256, zi_300, zi_398, zi_406, zi_900, zi_1000, zi_1024, zi_1624, zi_1662, zi_2030, zi_2031, zi_2068, zi_2258, zi_9999, zi_48, zi_57, zi_65536, zi_3257, zi_11483, zi_1000000, zi_729, zi_81, zi_m1, nI_add, pk_mul, nI_ltI, nI_leI, nI_eq, nI_clamp, zn_in, zn_sub1lt, zn_M, zn_Ml, zn_Mg, zn_Mle, zn_Mge, zn_sub, Nat.reduceAdd, Nat.reduceMul]
    refine ⟨fun x => absurd x (by omega), fun _ => ⟨by omega, by omega, fun I1 h1 => ?_⟩⟩
    refine ih (k + 1) I1 (by omega) (fun I2 a b => K I2 (fun j x y => ?_) (fun r j g => ?_))
    · by_cases c : j = k
      · subst c
        rw [b 104 j (by omega), h1, am_u2_at]
      · rw [a j (by omega) y, h1, am_u2_ne _ _ _ _ (by omega)]
    · rw [b r j (by omega), h1]
      unfold am_u2
      rw [if_neg (by omega)]
/-- the reference's end of a text -/
theorem sm_taken9 {v : Nat} (h : I 103 18 = nI v) (hv : 0 < v ∧ v < 10) {p : Int32} {Q : Int32 → am_TI → Prop} (K : Q nM (am_u2 (am_u2 I 103 16 (nI v)) 103 2 (nI 9))) : wp_M_taken I L R 103 p Q := by
  intro I1 h1
  have e : I1 103 18 = nI v := by rw [h1, am_u2_ne _ _ _ _ (by omega)]; exact h
  refine ⟨fun x => ?_, fun _ I2 h2 => ?_⟩
  · rw [e, zi_0, nI_leI (by omega) (by omega)] at x; omega
  · rw [h2, h1, h]; exact K
theorem sm_taken0 (h : I 103 18 = nI 0) {p : Int32} {Q : Int32 → am_TI → Prop} (K : Q p (am_u2 (am_u2 I 103 16 (nI 0)) 103 2 (nI 0))) : wp_M_taken I L R 103 p Q := by
  intro I1 h1
  have e : I1 103 18 = nI 0 := by rw [h1, am_u2_ne _ _ _ _ (by omega)]; exact h
  refine ⟨fun _ I2 h2 => ?_, fun x => absurd ?_ x⟩
  · rw [h2, h1, h]; exact K
  · rw [e]; decide
/-- the reference's beginning -/
theorem sm_sqT (h : tp_M len b I) (hn : n ≤ len) (h9 : len ≤ 900) {Q : Int32 → am_TI → am_TL → Prop} (K : ∀ I1, sM (fun k => yb (b k)) n qz 0 (tS (fun k => yb (b k)) n 0) I1 L → I1 103 10 = nI 0 → I1 103 17 = nM → fx_M 0 I I1 → ∃ z, wl_M_square_31 R 103 (nI n) Q z I1 L true) : wp_M_square I L R 103 (nI n) Q := by
  unfold wp_M_square
  rw [zi_900]
  refine sm_begin h hn h9 (by omega) (by omega) (fun I1 t1 e10 e17 f1 => ⟨fun x => (by cases x), fun _ => ?_⟩)
  rw [show (1624 : Int32) = nI (406 * 4) from rfl]
  refine sm_plain (s := 4) (by omega) (fun I2 z2 f2 I3 h3 => K I3 ?_ ?_ ?_ ?_)
  · refine ⟨t1.keep (fun k hk => ?_) (fun k => ?_), (sq_M.z z2).keep4 (fun k => ?_), ?_⟩
    · rw [h3, am_u2_ne _ _ _ _ (by omega), f2 _ _ (by omega)]
    · rw [h3, am_u2o (by omega), f2 _ _ (by omega)]
    · rw [h3, am_u2o (by omega)]
    · rw [h3, am_u2_at]; rfl
  · rw [h3, am_u2_ne _ _ _ _ (by omega), f2 _ _ (by omega)]; exact e10
  · rw [h3, am_u2_ne _ _ _ _ (by omega), f2 _ _ (by omega)]; exact e17
  · intro r k x1 x2 x3 x4
    rw [h3]
    unfold am_u2
    rw [if_neg (by omega), f2 r k (by omega), f1 r k (by omega) (by omega)]
end
