/-! texts: beginnings, words, numbers, signs in both -/
def ff (y : Nat → Nat) (n p f : Nat) : Nat := if tK y n p = 6 then 1 else f
def uf (v pl : Nat) (I I1 : am_TI) : Prop := I1 2 10 = nI v ∧ I1 2 11 = nI pl ∧ ∀ r k, ¬ (r = 2 ∧ (k = 10 ∨ k = 11)) → I1 r k = I r k
def mf (v pl : Nat) (I I1 : am_TI) : Prop := I1 103 18 = nI v ∧ I1 103 17 = nI pl ∧ ∀ r k, ¬ (r = 103 ∧ (k = 17 ∨ k = 18)) → I1 r k = I r k
theorem zn_lesub1 {v h : Nat} (hv : v < 2 ^ 31) (hh : h < 2 ^ 31) : nI v ≤ nI h - nI 1 ↔ v < h := by
  rcases Nat.eq_zero_or_pos h with g | g
  · subst g
    have e : nI 0 - nI 1 = nM := by decide
    rw [e, zn_Mle hv]
    exact ⟨False.elim, fun x => absurd x (by omega)⟩
  · rw [zn_sub g, nI_leI hv (by omega)]
    omega
section
variable {y : Nat → Nat} {n p : Nat} {I I0 I1 I2 : am_TI} {L L1 : am_TL} {R : am_TR}
theorem tM_3 : tM y n p = 3 ↔ tK y n p = 4 := by
  unfold tM tK
  repeat' split
  all_goals simp_all
theorem tM_4 : tM y n p = 4 ↔ tK y n p = 5 := by
  unfold tM tK
  repeat' split
  all_goals simp_all
theorem tM_0 : tM y n p = 0 ↔ tK y n p = 0 := by
  unfold tM tK
  repeat' split
  all_goals simp_all
theorem tM_5 : tM y n p < 5 := by
  unfold tM
  repeat' split
  all_goals omega
theorem tK_0 : tK y n p = 0 ↔ n ≤ p := by
  unfold tK
  repeat' split
  all_goals simp_all
theorem tW_4 (h : tK y n p = 4) : tW y n p < 10000 := by
  unfold tK at h
  unfold tW
  split at h
  · omega
  · split at h
    · split at h
      · omega
      · split at h <;> omega
    · split at h
      · next g0 gl gd =>
        split at h
        · omega
        · next g4 =>
          rw [if_neg gl, if_pos gd]
          have eE : tE y n p = rn cdg y n p := by unfold tE; rw [if_neg g0, if_neg gl, if_pos gd]
          have a := nu_lt (y := y) (p := p) (m := tE y n p - p) (fun k hk => rn_all (n := n) (p := p) (by omega) (by omega))
          have b : (10 : Nat) ^ (tE y n p - p) ≤ 10 ^ 4 := Nat.pow_le_pow_right (by omega) (by omega)
          omega
      · split at h <;> omega
theorem tW_5 (h : tK y n p = 5) : tW y n p = 59 ∨ tW y n p = 60 ∨ tW y n p = 62 ∨ tW y n p = 61 := by
  unfold tK at h
  unfold tW
  split at h
  · omega
  · split at h
    · split at h
      · omega
      · split at h <;> omega
    · split at h
      · split at h <;> omega
      · split at h
        · next g0 gl gd gs =>
          rw [if_neg gl, if_neg gd]
          exact cs_iff.1 gs
        · omega
/-- refusals -/
theorem su_ref (h : tk_U y n p I L) {f : Nat} {Q : Bool → am_TI → Prop} (K : ∀ I1, uf (ff y n p f) p I I1 → Q false I1) : wp_Tokens_refuse I L R 2 (nI f) Q := su_refuse h (fun I1 a b c => K I1 ⟨a, b, c⟩)
theorem sm_fail (h : tk_M y n p I) {f : Nat} {Q : Bool → am_TI → Prop} (K : ∀ I1, mf (ff y n p f) p I I1 → Q false I1) : wp_M_fails I L R 103 (nI f) Q := sm_fails h (fun I1 a b c => K I1 ⟨by
  rw [a]
  unfold ff
  by_cases g : tM y n p = 1
  · rw [if_pos g, if_pos (tM_6.1 g)]
  · rw [if_neg g, if_neg (fun x => g (tM_6.2 x))], b, c⟩)
/-- which word -/
theorem tk_U.w (h : tk_U y n p I L) : I 2 9 = if tI y n p < 25 then nI (tI y n p) else nM := by
  obtain ⟨cnt, i, t, hc, hi, hl, hp, h6, h8, h9⟩ := h
  rw [h9]
  by_cases g : tK y n p = 3
  · rw [if_pos g, if_pos (tI_3.2 g)]
    unfold tI
    rw [if_pos g]
  · rw [if_neg g, if_neg (fun x => g (tI_3.1 x))]
theorem tk_U.k (h : tk_U y n p I L) : I 2 8 = nI (tK y n p) := by
  obtain ⟨cnt, i, t, hc, hi, hl, hp, h6, h8, h9⟩ := h
  exact h8
theorem tk_U.v (h : tk_U y n p I L) (g : tK y n p = 1 ∨ tK y n p = 3 ∨ tK y n p = 4 ∨ tK y n p = 5) : ∃ i, i < 901 ∧ I 2 6 = nI i ∧ L 7 i = lN (tW y n p) := by
  obtain ⟨cnt, i, t, hc, hi, hl, hp, h6, h8, h9⟩ := h
  refine ⟨i, by omega, h6, ?_⟩
  rw [hp] at g ⊢
  exact (t.2 i hi).2.2 g
theorem tk_U.le (h : tk_U y n p I L) : p ≤ n := by
  obtain ⟨cnt, i, t, hc, hi, hl, hp, h6, h8, h9⟩ := h
  rw [hp]; exact tS_le i
theorem tk_U.keep (h : tk_U y n p I L) (e2 : ∀ k, (k = 5 ∨ k = 6 ∨ k = 8 ∨ k = 9) → I1 2 k = I 2 k) (e5 : ∀ k, I1 5 k = I 5 k) (e6 : ∀ k, I1 6 k = I 6 k) (e7 : L1 7 = L 7) : tk_U y n p I1 L1 := by
  obtain ⟨cnt, i, t, hc, hi, hl, hp, h6, h8, h9⟩ := h
  exact ⟨cnt, i, ⟨by rw [e2 5 (by omega)]; exact t.1, fun j hj => by rw [e5, e6, e7]; exact t.2 j hj⟩, hc, hi, hl, hp, by rw [e2 6 (by omega)]; exact h6, by rw [e2 8 (by omega)]; exact h8, by rw [e2 9 (by omega)]; exact h9⟩
theorem tk_M.keep (h : tk_M y n p I) (e : ∀ k, (k = 11 ∨ k = 12 ∨ k = 13 ∨ k = 14 ∨ k = 15 ∨ k = 18) → I1 103 k = I 103 k) (e2 : ∀ k, I1 110 k = I 110 k) : tk_M y n p I1 := by
  obtain ⟨tx, hp, e13, e14, e12, e15, e18⟩ := h
  exact ⟨tx.keep (e 11 (by omega)) e2, hp, by rw [e 13 (by omega)]; exact e13, by rw [e 14 (by omega)]; exact e14, by rw [e 12 (by omega)]; exact e12, fun g => by rw [e 15 (by omega)]; exact e15 g, by rw [e 18 (by omega)]; exact e18⟩
theorem su_takeWord (h : tk_U y n p I L) {w : Nat} (hw : w < 25) {Q : Bool → am_TI → Prop} (K1 : tI y n p = w → ∀ I1, tk_U y n (tN y n p) I1 L → fa_U I I1 → Q true I1) (K2 : tI y n p ≠ w → ∀ I1, uf (ff y n p 2) p I I1 → Q false I1) : wp_Tokens_takeWord I L R 2 (nI w) Q := by
  unfold wp_Tokens_takeWord
  rw [h.w]
  by_cases g : tI y n p < 25
  · rw [if_pos g, nI_eq (by omega) (by omega)]
    exact ⟨fun e => su_adv h (K1 e), fun e => su_ref h (K2 e)⟩
  · rw [if_neg g]
    exact ⟨fun e => absurd e.symm (fun x => (zn_M (by omega)).1 x), fun e => su_ref h (K2 (by omega))⟩
theorem tJ_le : tJ y n p ≤ 25 := by
  unfold tJ
  split
  · exact rwJ_le _
  · omega
theorem rwT_inj : ∀ i, i < 26 → ∀ j, j < 25 → (rwT.getD i 25 = rwT.getD j 25 ↔ i = j) := by decide
theorem rwT_lt : ∀ i, i < 25 → rwT.getD i 25 < 25 := by decide
/-- the reference's word -/
theorem sm_inW (hn : n ≤ 900) (h : tk_M y n p I) {Q : Int32 → Prop} (K : Q (if tI y n p < 25 then nI (rwT.getD (tI y n p) 25) else nM)) : wp_M_inWords I L R 103 1002 Q := by
  refine sm_inWords hn h ?_
  rw [tJ_T]
  by_cases g : tI y n p < 25
  · rw [if_pos (rwT_lt _ g)]
    rw [if_pos g] at K
    exact K
  · have e : tI y n p = 25 := by have := tI_le (y := y) (n := n) (p := p); omega
    rw [e, if_neg (by decide)]
    rw [if_neg g] at K
    exact K
theorem sm_wantWord (hn : n ≤ 900) (h : tk_M y n p I) {w : Nat} (hw : w < 25) {Q : Bool → am_TI → Prop} (K1 : tI y n p = w → ∀ I1, tk_M y n (tN y n p) I1 → fa_M I I1 → Q true I1) (K2 : tI y n p ≠ w → ∀ I1, mf (ff y n p 2) p I I1 → Q false I1) : wp_M_wantWord I L R 103 1002 (nI (rwT.getD w 25)) Q := by
  unfold wp_M_wantWord
  refine sm_inW hn h ?_
  have b := rwT_lt w hw
  by_cases g : tI y n p < 25
  · have b2 := rwT_lt _ g
    rw [if_pos g, nI_eq (by omega) (by omega), rwT_inj _ (by omega) _ hw]
    exact ⟨fun e => sm_ahead hn h (K1 e), fun e => sm_fail h (K2 e)⟩
  · rw [if_neg g]
    exact ⟨fun e => absurd e.symm (fun x => (zn_M (by omega)).1 x), fun e => sm_fail h (K2 (by omega))⟩
/-- numbers -/
theorem su_num (h : tk_U y n p I L) {lo hi : Nat} (hlo : lo < 2 ^ 31) (hhi : hi < 2 ^ 31) {p2 : Int32} (e2 : p2 = nI hi - nI 1) {Q : Int32 → am_TI → Prop} (K1 : tK y n p = 4 → lo ≤ tW y n p → tW y n p < hi → ∀ I1, tk_U y n (tN y n p) I1 L → fa_U I I1 → Q (nI (tW y n p)) I1) (K2 : ¬ (tK y n p = 4 ∧ lo ≤ tW y n p ∧ tW y n p < hi) → ∀ I1, uf (ff y n p (if tK y n p = 4 then 4 else 2)) p I I1 → Q nM I1) : wp_Tokens_takeNumber I L R 2 (nI lo) p2 Q := by
  have k7 : tK y n p < 7 := tK_lt
  unfold wp_Tokens_takeNumber
  rw [h.k]
  by_cases g : tK y n p = 4
  · obtain ⟨i, hi9, e6, e7⟩ := h.v (by omega)
    have b := tW_4 g
    rw [if_pos g] at K2
    have i7 : Int64.toInt32 (L 7 i) = nI (tW y n p) := by rw [e7, zk_in (by omega)]
    rw [e6]
    simp (disch := omega) only [wp_U_within, i7, e2, zn_sub1lt, zi_4, nI_eq, nI_clamp, zn_in, nI_ltI]
    refine ⟨fun _ => ⟨by omega, fun x => ⟨fun _ => su_ref h (K2 (by omega)), fun z => (by cases z)⟩, fun x => ⟨fun x2 => ⟨fun _ => su_ref h (K2 (by omega)), fun z => (by cases z)⟩, fun x2 => ⟨fun z => (by cases z), fun _ => su_adv h (K1 g (by omega) (by omega))⟩⟩⟩, fun x => absurd g x⟩
  · rw [if_neg g] at K2
    rw [zi_4, nI_eq (by omega) (by omega)]
    exact ⟨fun x => absurd x g, fun _ => su_ref h (K2 (fun x => g x.1))⟩
theorem sm_num (hn : n ≤ 900) (h : tk_M y n p I) {lo hi to : Nat} (hlo : lo < 2 ^ 31) (hhi : hi < 2 ^ 31) (hto : to < 2258) {p3 : Int32} (e3 : p3 = nI hi - nI 1) {Q : Bool → am_TI → Prop} (K1 : tK y n p = 4 → lo ≤ tW y n p → tW y n p < hi → ∀ I1, tk_M y n (tN y n p) I1 → fa_M (am_u2 I 104 to (nI (tW y n p))) I1 → Q true I1) (K2 : ¬ (tK y n p = 4 ∧ lo ≤ tW y n p ∧ tW y n p < hi) → ∀ I1, mf (ff y n p (if tK y n p = 4 then 4 else 2)) p I I1 → Q false I1) : wp_M_number I L R 103 (nI to) (nI lo) p3 Q := by
  have h' := h
  obtain ⟨tx, hp, e13, e14, e12, e15, e18⟩ := h'
  have m5 : tM y n p < 5 := tM_5
  unfold wp_M_number wb_M_number_30
  rw [e12]
  by_cases g : tK y n p = 4
  · have g3 := tM_3.2 g
    have b := tW_4 g
    have ev := e15 (Or.inl g3)
    rw [if_pos g] at K2
    have t1 : tk_M y n p (am_u2 I 104 to (nI (tW y n p))) := h.keep (fun k _ => am_u2o (by omega)) (fun k => am_u2o (by omega))
    rw [ev, e3]
    simp (disch := omega) only [zi_3, zn_lesub1, nI_eq, nI_clamp, zn_in, nI_ltI]
    refine ⟨fun _ => ⟨fun x => sm_fail h (K2 (by omega)), fun x => ⟨fun x2 => ⟨hto, fun I2 h2 => ?_⟩, fun x2 => sm_fail h (K2 (by omega))⟩⟩, fun x => absurd g3 x⟩
    rw [h2]
    exact sm_ahead hn t1 (K1 g (by omega) (by omega))
  · rw [if_neg g] at K2
    rw [zi_3, nI_eq (by omega) (by omega)]
    exact ⟨fun x => absurd (tM_3.1 x) g, fun _ => sm_fail h (K2 (fun x => g x.1))⟩
/-- semicolons -/
theorem su_semi (h : tk_U y n p I L) {Q : Bool → am_TI → Prop} (K1 : tK y n p = 5 → tW y n p = 59 → ∀ I1, tk_U y n (tN y n p) I1 L → fa_U I I1 → Q true I1) (K2 : ¬ (tK y n p = 5 ∧ tW y n p = 59) → ∀ I1, uf (ff y n p 2) p I I1 → Q false I1) : wp_Tokens_takeSemicolon I L R 2 Q := by
  have k7 : tK y n p < 7 := tK_lt
  unfold wp_Tokens_takeSemicolon wb_Tokens_takeSemicolon_24
  rw [h.k]
  by_cases g : tK y n p = 5
  · obtain ⟨i, hi9, e6, e7⟩ := h.v (by omega)
    have b := tW_5 g
    rw [e6]
    simp (disch := omega) only [e7, zi_5, nI_eq, nI_clamp, zn_in, zj_59, zk_eq]
    exact ⟨fun _ => ⟨by omega, fun x => su_adv h (K1 g x), fun x => su_ref h (K2 (fun z => x z.2))⟩, fun x => absurd g x⟩
  · rw [zi_5, nI_eq (by omega) (by omega)]
    exact ⟨fun x => absurd x g, fun _ => su_ref h (K2 (fun x => g x.1))⟩
theorem sm_sign (hn : n ≤ 900) (h : tk_M y n p I) {c : Nat} (hc : c < 256) {Q : Bool → Prop} (K : Q (decide (tK y n p = 5 ∧ tW y n p = c))) : wp_M_isSign I L R 103 (nI c) Q := by
  obtain ⟨tx, hp, e13, e14, e12, e15, e18⟩ := h
  have m5 : tM y n p < 5 := tM_5
  unfold wp_M_isSign
  rw [e12]
  by_cases g : tK y n p = 5
  · have g3 := tM_4.2 g
    have b := tW_5 g
    rw [e15 (Or.inr g3), zi_4, nI_eq (by omega) (by omega), nI_eq (by omega) (by omega)]
    refine ⟨fun _ => ⟨fun x => ?_, fun x => ?_⟩, fun x => absurd g3 x⟩
    · rw [decide_eq_true ⟨g, x⟩] at K; exact K
    · rw [decide_eq_false (fun z => x z.2)] at K; exact K
  · rw [decide_eq_false (fun z => g z.1)] at K
    rw [zi_4, nI_eq (by omega) (by omega)]
    exact ⟨fun x => absurd (tM_4.1 x) g, fun _ => K⟩
theorem sm_semi (hn : n ≤ 900) (h : tk_M y n p I) {Q : Bool → am_TI → Prop} (K1 : tK y n p = 5 → tW y n p = 59 → ∀ I1, tk_M y n (tN y n p) I1 → fa_M I I1 → Q true I1) (K2 : ¬ (tK y n p = 5 ∧ tW y n p = 59) → ∀ I1, mf (ff y n p 2) p I I1 → Q false I1) : wp_M_wantSign I L R 103 (nI 59) Q := by
  unfold wp_M_wantSign
  refine sm_sign hn h (by omega) ?_
  by_cases g : tK y n p = 5 ∧ tW y n p = 59
  · rw [decide_eq_true g]
    exact ⟨fun x => (by cases x), fun _ => sm_ahead hn h (K1 g.1 g.2)⟩
  · rw [decide_eq_false g]
    exact ⟨fun _ => sm_fail h (K2 g), fun x => (by cases x)⟩
/-- a text begins -/
theorem su_begin {len : Nat} {b : Nat → Int32} (h : tp_U len b I) (rs : rs_U L) (hn : n ≤ len) (h9 : len ≤ 900) {Q : am_TI → am_TL → Prop} (K : ∀ I1 L1, tk_U (fun k => yb (b k)) n (tS (fun k => yb (b k)) n 0) I1 L1 → I1 2 10 = nI 0 → I1 2 11 = nM → (∀ r k, r ≠ 5 → r ≠ 6 → ¬ (r = 2 ∧ (k = 5 ∨ k = 6 ∨ k = 8 ∨ k = 9 ∨ k = 10 ∨ k = 11)) → I1 r k = I r k) → ft_L L L1 → Q I1 L1) : wp_Tokens_begin I L R 2 (nI n) Q := by
  unfold wp_Tokens_begin
  rw [h.1, zn_min (by omega) (by omega), Nat.min_eq_left hn]
  refine su_scan (y := fun k => yb (b k)) (by omega) (fun k hk => by rw [h.2 k (by omega)]) rs (fun I1 L1 cnt t c1 c2 hl f l => ?_)
  intro I2 h2 I3 h3 I4 h4
  have f4 : ∀ r k, ¬ (r = 2 ∧ (k = 6 ∨ k = 10 ∨ k = 11)) → I4 r k = I1 r k := fun r k g => by
    rw [h4, h3, h2]
    unfold am_u2
    rw [if_neg (by omega), if_neg (by omega), if_neg (by omega)]
  have t4 : tt_U (fun k => yb (b k)) n cnt (am_u2 I4 2 6 (nI 0)) L1 := ⟨by rw [am_u2_ne _ _ _ _ (by omega), f4 _ _ (by omega)]; exact t.1, fun j hj => by rw [am_u2o (by omega), am_u2o (by omega), f4 _ _ (by omega), f4 _ _ (by omega)]; exact t.2 j hj⟩
  have e5 : I4 2 5 = nI cnt := (f4 _ _ (by omega)).trans t.1
  have e6 : I4 2 6 = nM := by rw [h4, am_u2_at]; rfl
  have main := su_adv23 (R := R) t4 (by omega) (i := 0) (by omega) (am_u2_at _ _ _ _) (Q := fun I5 => Q I5 L1) (fun I5 a8 a9 f5 => K I5 L1 ⟨cnt, 0, ⟨by rw [f5 2 5 (by omega)]; exact t4.1, fun j hj => by rw [f5 5 j (by omega), f5 6 j (by omega)]; exact t4.2 j hj⟩, by omega, by omega, hl, rfl, by rw [f5 2 6 (by omega), am_u2_at], a8, a9⟩ (by rw [f5 2 10 (by omega), am_u2_ne _ _ _ _ (by omega), h4, h3, h2, am_u2_ne _ _ _ _ (by omega), am_u2_ne _ _ _ _ (by omega), am_u2_at]; rfl) (by rw [f5 2 11 (by omega), am_u2_ne _ _ _ _ (by omega), h4, h3, am_u2_ne _ _ _ _ (by omega), am_u2_at]; rfl) (fun r k x1 x2 x3 => by
    rw [f5 r k (by omega)]
    unfold am_u2
    rw [if_neg (by omega), f4 r k (by omega), f r k x1 x2 (by omega)]) l)
  have eM : nM + nI 1 = nI 0 := by decide
  unfold wp_Tokens_advance
  simp (disch := omega) only [e5, e6, eM, zi_0, zi_1, zi_2, zi_3, zi_4, zi_5, zi_6, zi_7, zi_8, zi_9, zi_10, zi_11, zi_12, zi_13, zi_14, zi_15, zi_16, zi_17, zi_18, zi_19, zi_20, zi_21, zi_22, zi_23, zi_24, zi_25, zi_26, zi_30, zi_31, zi_32, zi_34, zi_38, zi_59, zi_60, zi_61, zi_63, zi_64, zi_80, zi_96, zi_97, zi_99, zi_100, zi_122, zi_255, zi_256, zi_300, zi_398, zi_406, zi_900, zi_1000, zi_1024, zi_1624, zi_1662, zi_2030, zi_2031, zi_2068, zi_2258, zi_9999, zi_48, zi_57, zi_65536, zi_3257, zi_11483, zi_1000000, zi_729, zi_81, zi_m1, nI_add, pk_mul, nI_ltI, nI_leI, nI_eq, nI_clamp, zn_in, zn_sub1lt, zn_M, zn_Ml, zn_Mg, zn_Mle, zn_Mge, zn_sub, Nat.reduceAdd, Nat.reduceMul]
  refine ⟨fun x => absurd x id, fun _ I5 h5 => ?_⟩
  rw [h5]; exact main
theorem sm_begin {len most : Nat} {b : Nat → Int32} (h : tp_M len b I) (hn : n ≤ len) (h9 : len ≤ 900) (hm : n ≤ most) (hm9 : most < 2 ^ 31) {Q : Bool → am_TI → Prop} (K : ∀ I1, tk_M (fun k => yb (b k)) n (tS (fun k => yb (b k)) n 0) I1 → I1 103 10 = nI 0 → I1 103 17 = nM → (∀ r k, r ≠ 110 → ¬ (r = 103 ∧ 10 ≤ k ∧ k ≤ 19 ∧ k ≠ 16) → I1 r k = I r k) → Q true I1) : wp_M_begins I L R 103 (nI n) (nI most) Q := by
  have go : ∀ m v I0, v + m = n → I0 103 11 = nI n → (∀ k, k < n → I0 109 k = b k) → (∀ k, k < v → yb (I0 110 k) = yb (b k)) → (∀ r k, r ≠ 110 → ¬ (r = 103 ∧ k = 11) → I0 r k = I r k) → wl_M_begins_26 L R 103 (nI n) (nI most) Q (m + 1) I0 (nI v) := by
    intro m
    induction m with
    | zero =>
      intro v I0 hv e11 e109 e110 f
      have ev : v = n := by omega
      subst ev
      rw [wl_M_begins_26]
      simp (disch := omega) only [zi_0, zi_1, zi_2, zi_3, zi_4, zi_5, zi_6, zi_7, zi_8, zi_9, zi_10, zi_11, zi_12, zi_13, zi_14, zi_15, zi_16, zi_17, zi_18, zi_19, zi_20, zi_21, zi_22, zi_23, zi_24, zi_25, zi_26, zi_30, zi_31, zi_32, zi_34, zi_38, zi_59, zi_60, zi_61, zi_63, zi_64, zi_80, zi_96, zi_97, zi_99, zi_100, zi_122, zi_255, zi_256, zi_300, zi_398, zi_406, zi_900, zi_1000, zi_1024, zi_1624, zi_1662, zi_2030, zi_2031, zi_2068, zi_2258, zi_9999, zi_48, zi_57, zi_65536, zi_3257, zi_11483, zi_1000000, zi_729, zi_81, zi_m1, nI_add, pk_mul, nI_ltI, nI_leI, nI_eq, nI_clamp, zn_in, zn_sub1lt, zn_M, zn_Ml, zn_Mg, zn_Mle, zn_Mge, zn_sub, Nat.reduceAdd, Nat.reduceMul]
      refine ⟨fun _ I2 h2 I3 h3 I4 h4 I5 h5 I6 h6 => ?_, fun x => absurd (by omega) x⟩
      have f6 : ∀ r k, ¬ (r = 103 ∧ (k = 10 ∨ k = 14 ∨ k = 17 ∨ k = 18 ∨ k = 19)) → I6 r k = I0 r k := fun r k g => by
        rw [h6, h5, h4, h3, h2]
        unfold am_u2
        rw [if_neg (by omega), if_neg (by omega), if_neg (by omega), if_neg (by omega), if_neg (by omega)]
      have e10 : I6 103 10 = nI 0 := by
        rw [h6, h5, h4, h3, h2, am_u2_ne _ _ _ _ (by omega), am_u2_ne _ _ _ _ (by omega), am_u2_ne _ _ _ _ (by omega), am_u2_ne _ _ _ _ (by omega), am_u2_at]
      have e14 : I6 103 14 = nI 0 := by rw [h6, h5, am_u2_ne _ _ _ _ (by omega), am_u2_at]
      have e17 : I6 103 17 = nM := by rw [h6, h5, h4, am_u2_ne _ _ _ _ (by omega), am_u2_ne _ _ _ _ (by omega), am_u2_at]
      have e18 : I6 103 18 = nI 0 := by rw [h6, h5, h4, h3, am_u2_ne _ _ _ _ (by omega), am_u2_ne _ _ _ _ (by omega), am_u2_ne _ _ _ _ (by omega), am_u2_at]
      have tx : tx_M (fun k => yb (b k)) v I6 := ⟨(f6 _ _ (by omega)).trans e11, fun k hk => by rw [f6 _ _ (by omega)]; exact e110 k hk⟩
      exact sm_aheadE (by omega) _ 0 I6 rfl (by omega) tx e14 e18 (fun I1 t f1 => K I1 t ((f1 _ _ (by omega)).trans e10) ((f1 _ _ (by omega)).trans e17) (fun r k x1 x2 => by rw [f1 r k (by omega), f6 r k (by omega), f r k x1 (by omega)]))
    | succ m ih =>
      intro v I0 hv e11 e109 e110 f
      rw [wl_M_begins_26]
      simp (disch := omega) only [zi_0, zi_1, zi_2, zi_3, zi_4, zi_5, zi_6, zi_7, zi_8, zi_9, zi_10, zi_11, zi_12, zi_13, zi_14, zi_15, zi_16, zi_17, zi_18, zi_19, zi_20, zi_21, zi_22, zi_23, zi_24, zi_25, zi_26, zi_30, zi_31, zi_32, zi_34, zi_38, zi_59, zi_60, zi_61, zi_63, zi_64, zi_80, zi_96, zi_97, zi_99, zi_100, zi_122, zi_255, zi_256, zi_300, zi_398, zi_406, zi_900, zi_1000, zi_1024, zi_1624, zi_1662, zi_2030, zi_2031, zi_2068, zi_2258, zi_9999, zi_48, zi_57, zi_65536, zi_3257, zi_11483, zi_1000000, zi_729, zi_81, zi_m1, nI_add, pk_mul, nI_ltI, nI_leI, nI_eq, nI_clamp, zn_in, zn_sub1lt, zn_M, zn_Ml, zn_Mg, zn_Mle, zn_Mge, zn_sub, Nat.reduceAdd, Nat.reduceMul]
      refine ⟨fun x => absurd x (by omega), fun _ => ⟨by omega, by omega, fun I8 h8 => ?_⟩⟩
      have f8 : ∀ r k, ¬ (r = 110 ∧ k = v) → I8 r k = I0 r k := fun r k g => by rw [h8]; unfold am_u2; rw [if_neg g]
      refine ih (v + 1) I8 (by omega) ((f8 _ _ (by omega)).trans e11) (fun k hk => (f8 _ _ (by omega)).trans (e109 k hk)) (fun k hk => ?_) (fun r k x1 x2 => (f8 r k (by omega)).trans (f r k x1 x2))
      by_cases g : k = v
      · rw [g, h8, am_u2_at, yb_nar, e109 v (by omega)]
      · rw [f8 _ _ (by omega)]; exact e110 k (by omega)
  unfold wp_M_begins
  simp (disch := omega) only [h.1, zi_0, zi_1, zi_2, zi_3, zi_4, zi_5, zi_6, zi_7, zi_8, zi_9, zi_10, zi_11, zi_12, zi_13, zi_14, zi_15, zi_16, zi_17, zi_18, zi_19, zi_20, zi_21, zi_22, zi_23, zi_24, zi_25, zi_26, zi_30, zi_31, zi_32, zi_34, zi_38, zi_59, zi_60, zi_61, zi_63, zi_64, zi_80, zi_96, zi_97, zi_99, zi_100, zi_122, zi_255, zi_256, zi_300, zi_398, zi_406, zi_900, zi_1000, zi_1024, zi_1624, zi_1662, zi_2030, zi_2031, zi_2068, zi_2258, zi_9999, zi_48, zi_57, zi_65536, zi_3257, zi_11483, zi_1000000, zi_729, zi_81, zi_m1, nI_add, pk_mul, nI_ltI, nI_leI, nI_eq, nI_clamp, zn_in, zn_sub1lt, zn_M, zn_Ml, zn_Mg, zn_Mle, zn_Mge, zn_sub, Nat.reduceAdd, Nat.reduceMul]
  refine ⟨fun x => absurd x (by omega), fun _ => ⟨fun x => absurd x (by omega), fun _ => ⟨fun _ I1 h1 => ⟨n + 1, ?_⟩, fun x => absurd hm x⟩⟩⟩
  refine go n 0 I1 (by omega) (by rw [h1, am_u2_at]) (fun k hk => by rw [h1, am_u2o (by omega)]; exact h.2 k (by omega)) (fun k hk => absurd hk (by omega)) (fun r k _ g => by rw [h1]; unfold am_u2; rw [if_neg g])
end
