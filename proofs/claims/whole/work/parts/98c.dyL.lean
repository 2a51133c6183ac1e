/-! the days' text: the loop of steps; the call days -/
section
variable {y : Nat → Nat} {n lb : Nat} {q g g' : Nat → Nat} {s k dp p t : Nat} {op : Nat → Nat} {x c d : Nat} {I I0 I1 J0 : am_TI} {L : am_TL} {R : am_TR}
theorem tk_U.k0 (h : tk_U y n p I L) : I 2 8 = 0 ↔ n ≤ p := by
  have k7 : tK y n p < 7 := tK_lt
  rw [h.k, zi_0, nI_eq (by omega) (by omega)]
  exact tK_0
theorem SD.loopE (inv : dI q g s dp k op) (hp : n ≤ p) (pn : Int32) (m i : Nat) : SD y n q 0 (dA y n q g s s k dp op p) (dB y n q g s k dp op p) (fun x c d I L R Q => ∀ (Q2 : Bool → am_TI → am_TL → Prop), (∀ I1, Q false I1 → Q2 false I1 L) → (∀ I1, Q true I1 → wb_DaysReader_readText_52 R 9 2 pn c x Q2 I1 L) → wl_DaysReader_readText_18 R 9 2 pn c x Q2 (m + 1) I L (nI i)) (fun I L R Q => ∀ (p1 : Int32) (Q' : Int32 → am_TI → Prop), (∀ b I1, Q b I1 → wb_M_days_57 L R 103 p1 Q' I1) → wl_M_days_38 L R 103 p1 Q' (m + 1) I true) := by
  refine Or.inr ⟨g, s, k, dp, op, p, ⟨inv, Nat.zero_le _⟩, fun x c d I0 I L R Q a K Q2 H1 H2 => ?_, fun J0 I L R Q b K p1 Q' H => ?_⟩
  · rw [wl_DaysReader_readText_18]
    have h := H2 I (K I a)
    exact ⟨fun _ => h, fun _ => ⟨fun _ => h, fun z => absurd (a.2.1.k0.2 hp) z⟩⟩
  · rw [wl_M_days_38]
    exact ⟨fun z => (by cases z), fun _ => ⟨fun _ => H true I (K I b), fun z => absurd (b.2.1.k0.2 hp) z⟩⟩
theorem SD.loop (hn : n ≤ 300) (ok : sq_Ok q) (pn : Int32) : ∀ m g s k dp op p i, n - p ≤ m → i + (n - p) ≤ 300 → dI q g s dp k op → SD y n q 0 (dA y n q g s s k dp op p) (dB y n q g s k dp op p) (fun x c d I L R Q => ∀ (Q2 : Bool → am_TI → am_TL → Prop), (∀ I1, Q false I1 → Q2 false I1 L) → (∀ I1, Q true I1 → wb_DaysReader_readText_52 R 9 2 pn c x Q2 I1 L) → wl_DaysReader_readText_18 R 9 2 pn c x Q2 (m + 1) I L (nI i)) (fun I L R Q => ∀ (p1 : Int32) (Q' : Int32 → am_TI → Prop), (∀ b I1, Q b I1 → wb_M_days_57 L R 103 p1 Q' I1) → wl_M_days_38 L R 103 p1 Q' (m + 1) I true) := by
  intro m
  induction m with
  | zero => exact fun g s k dp op p i hm hi inv => SD.loopE inv (by omega) pn 0 i
  | succ m ih =>
    intro g s k dp op p i hm hi inv
    by_cases hp : n ≤ p
    · exact SD.loopE inv hp pn (m + 1) i
    have i9 : ¬ (300 : Int32) ≤ nI i := by rw [zi_300, nI_leI (by omega) (by omega)]; omega
    have i1 : nI i + 1 = nI (i + 1) := by rw [zi_1, nI_add]
    rcases SD.step (y := y) (n := n) (p := p) (by omega) (by omega) ok inv with ⟨v, pl, hv, a, b⟩ | ⟨g', s', k', dp', op', p', ⟨inv', hl⟩, a, b⟩
    · refine Or.inl ⟨v, pl, hv, fun x c d I0 I L R Q s K Q2 H1 H2 => ?_, fun J0 I L R Q s K p1 Q' H => ?_⟩
      · rw [wl_DaysReader_readText_18]
        exact ⟨fun z => absurd z i9, fun _ => ⟨fun z => absurd (s.2.1.k0.1 z) hp, fun _ => a x c d I0 I L R _ s (fun I1 x1 x2 x3 => ⟨fun _ => H1 I1 (K I1 x1 x2 x3), fun z => (by cases z)⟩)⟩⟩
      · rw [wl_M_days_38]
        refine ⟨fun z => (by cases z), fun _ => ⟨fun z => absurd (s.2.1.k0.1 z) hp, fun _ => b J0 I L R _ s (fun I1 x1 x2 x3 => ?_)⟩⟩
        show wl_M_days_38 L R 103 p1 Q' (m + 1) I1 false
        rw [wl_M_days_38]
        exact ⟨fun _ => H false I1 (K I1 x1 x2 x3), fun z => (by cases z)⟩
    · refine (ih g' s' k' dp' op' p' (i + 1) (by omega) (by omega) inv').pre (fun x c d I0 I L R Q s K Q2 H1 H2 => ?_) (fun J0 I L R Q s K p1 Q' H => ?_)
      · rw [wl_DaysReader_readText_18]
        refine ⟨fun z => absurd z i9, fun _ => ⟨fun z => absurd (s.2.1.k0.1 z) hp, fun _ => a x c d I0 I L R _ s (fun I1 s1 => ⟨fun z => (by cases z), fun _ => ?_⟩)⟩⟩
        rw [i1]
        exact K I1 s1 Q2 H1 H2
      · rw [wl_M_days_38]
        exact ⟨fun z => (by cases z), fun _ => ⟨fun z => absurd (s.2.1.k0.1 z) hp, fun _ => b J0 I L R _ s (fun I1 s1 => K I1 s1 p1 Q' H)⟩⟩
variable {len : Nat} {b : Nat → Int32}
theorem su_dyT (h : tp_U len b I) (rs : rs_U L) (hn : n ≤ len) (h9 : len ≤ 900) (hc : dcx c d x) (sq : sq_U q c d I L) {Q : Bool → am_TI → am_TL → Prop} (K : ∀ I1 L1, dA (fun k => yb (b k)) n q (fun _ => 0) 0 0 0 0 (fun _ => 0) (tS (fun k => yb (b k)) n 0) x c d I1 L1 I1 → I1 2 10 = nI 0 → I1 2 11 = nM → fx_U x x I I1 → ft_L L L1 → ∃ z, wl_DaysReader_readText_18 R 9 2 (nI n) c x Q z I1 L1 (nI 0)) : wp_DaysReader_readText I L R 9 2 (nI n) c x Q := by
  unfold wp_DaysReader_readText wp_Days_clear
  intro I1 h1 I2 h2 I3 h3 I4 h4
  obtain ⟨⟨c1, c2⟩, c3, c4⟩ := id hc
  have fr : ∀ r k, ¬ (r = x ∧ (k = 5 ∨ k = 6 ∨ k = 7)) → ¬ (r = 9 ∧ k = 1) → I4 r k = I r k := fun r k z1 z2 => by
    rw [h4, h3, h2, h1]
    unfold am_u2
    rw [if_neg z2, if_neg (by omega), if_neg (by omega), if_neg (by omega)]
  have v9 : I4 9 1 = nI 0 := by rw [h4]; exact am_u2_at _ _ _ _
  have v7 : I4 x 7 = nI 0 := by rw [h4, am_u2o (by omega), h3]; exact am_u2_at _ _ _ _
  have v6 : I4 x 6 = nI 0 := by rw [h4, am_u2o (by omega), h3, am_u2_ne _ _ _ _ (by omega), h2]; exact am_u2_at _ _ _ _
  have tp : tp_U len b I4 := ⟨by rw [fr 2 7 (by omega) (by omega)]; exact h.1, fun i hi => by rw [fr 3 i (by omega) (by omega)]; exact h.2 i hi⟩
  refine su_begin tp rs hn h9 (fun I5 L1 tk e10 e11 f5 l5 => ?_)
  have g5 : ∀ r k, r ≠ 5 → r ≠ 6 → r ≠ 2 → I5 r k = I4 r k := fun r k x1 x2 x3 => f5 r k x1 x2 (by omega)
  refine K I5 L1 ⟨⟨hc, sq.keep (fun r hr => ?_) (l5 _ (by omega)), fun _ _ _ _ _ _ => rfl⟩, tk, ⟨by rw [g5 x 6 (by omega) (by omega) (by omega)]; exact v6, by rw [g5 x 7 (by omega) (by omega) (by omega)]; exact v7, by rw [g5 9 1 (by omega) (by omega) (by omega)]; exact v9, fun i hi => absurd hi (by omega)⟩, fun j hj => absurd hj (by omega)⟩ e10 e11 (fun r k z1 z2 z3 z4 z5 z6 z7 => ?_) l5
  · funext k
    rw [g5 r k (by omega) (by omega) (by omega), fr r k (by omega) (by omega)]
  · rw [f5 r k z3 z4 (by omega), fr r k (by omega) (by omega)]
theorem sm_dyT (h : tp_M len b I) (hn : n ≤ len) (h9 : len ≤ 900) (h3 : n ≤ 300) (ok : sq_Ok q) (sq : sq_M q 0 I L) {Q : Int32 → am_TI → Prop} (K : ∀ I1, dB (fun k => yb (b k)) n q (fun _ => 0) 0 0 0 (fun _ => 0) (tS (fun k => yb (b k)) n 0) I1 L I1 → I1 103 10 = nI 0 → I1 103 17 = nM → fx_M 0 I I1 → ∃ z, wl_M_days_38 L R 103 (nI n) Q z I1 true) : wp_M_days I L R 103 (nI n) Q := by
  unfold wp_M_days
  rw [zi_300]
  refine sm_begin h hn h9 h3 (by omega) (fun I1 t1 e10 e17 f1 => ⟨fun z => (by cases z), fun _ I2 h2 I3 h3 I4 h4 => ?_⟩)
  have fr : ∀ r k, ¬ (r = 104 ∧ k = 1631) → ¬ (r = 103 ∧ (k = 22 ∨ k = 23)) → I4 r k = I1 r k := fun r k z1 z2 => by
    rw [h4, h3, h2]
    unfold am_u2
    rw [if_neg (by omega), if_neg (by omega), if_neg (by omega)]
  refine K I4 ⟨⟨sq.keep (fun k z1 z2 => ?_) rfl ok.2.2.2.2.1, fun _ _ _ _ _ => rfl⟩, t1.keep (fun k hk => fr _ _ (by omega) (by omega)) (fun k => fr _ _ (by omega) (by omega)), ⟨?_, ?_, ?_, fun i hi => absurd hi (by omega)⟩, fun j hj => absurd hj (by omega)⟩ ?_ ?_ (fun r k z1 z2 z3 z4 => ?_)
  · rw [fr 104 k (by omega) (by omega), f1 104 k (by omega) (by omega)]
  · rw [h4, am_u2o (by omega), h3, am_u2o (by omega), h2]; exact am_u2_at _ _ _ _
  · rw [h4]; exact am_u2_at _ _ _ _
  · rw [h4, am_u2_ne _ _ _ _ (by omega), h3]; exact am_u2_at _ _ _ _
  · rw [fr _ _ (by omega) (by omega)]; exact e10
  · rw [fr _ _ (by omega) (by omega)]; exact e17
  · rw [fr r k (by omega) (by omega), f1 r k (by omega) (by omega)]
theorem sm_dy102 {p1 : Int32} {Q : Int32 → am_TI → Prop} : ∀ m k I, k + m = 398 → 38 ≤ k → (∀ I1, (∀ j, k ≤ j → j < 398 → I1 104 j = I 104 (1624 + j)) → (∀ r j, ¬ (r = 104 ∧ k ≤ j ∧ j < 398) → I1 r j = I r j) → wb_M_days_131 L R 103 p1 Q I1) → wl_M_days_102 L R 103 p1 Q (m + 1) I (nI k) := by
  intro m
  induction m with
  | zero =>
    intro k I hk h38 K
    have k2 := K I (fun j a b => absurd a (by omega)) (fun _ _ _ => rfl)
    rw [wl_M_days_102]
    simp (disch := omega) only [zi_0, zi_1, zi_2, zi_3, zi_4, zi_5, zi_6, zi_7, zi_8, zi_9, zi_10, zi_11, zi_12, zi_13, zi_14, zi_15, zi_16, zi_17, zi_18, zi_19, zi_20, zi_21, zi_22, zi_23, zi_24, zi_25, zi_26, zi_30, zi_31, zi_32, zi_34, zi_38, zi_59, zi_60, zi_61, zi_63, zi_64, zi_80, zi_96, zi_97, zi_99, zi_100, zi_122, zi_255, zi_256, zi_300, zi_398, zi_406, zi_900, zi_1000, zi_1024, zi_1624, zi_1662, zi_2030, zi_2031, zi_2068, zi_2258, zi_9999, zi_48, zi_57, zi_65536, zi_3257, zi_11483, zi_1000000, zi_729, zi_81, zi_m1, nI_add, pk_mul, nI_ltI, nI_leI, nI_eq, nI_clamp, zn_in, zn_sub1lt, zn_M, zn_Ml, zn_Mg, zn_Mle, zn_Mge, zn_sub, Nat.reduceAdd, Nat.reduceMul]
    exact ⟨fun _ => k2, fun x => absurd (by omega) x⟩
  | succ m ih =>
    intro k I hk h38 K
    rw [wl_M_days_102]
    simp (disch := omega) only [zi_0, zi_1, zi_2, zi_3, zi_4, zi_5, zi_6, zi_7, zi_8, zi_9, zi_10, zi_11, zi_12, zi_13, zi_14, zi_15, zi_16, zi_17, zi_18, zi_19, zi_20, zi_21, zi_22, zi_23, zi_24, zi_25, zi_26, zi_30, zi_31, zi_32, zi_34, zi_38, zi_59, zi_60, zi_61, zi_63, zi_64, zi_80, zi_96, zi_97, zi_99, zi_100, zi_122, zi_255, zi_256, zi_300, zi_398, zi_406, zi_900, zi_1000, zi_1024, zi_1624, zi_1662, zi_2030, zi_2031, zi_2068, zi_2258, zi_9999, zi_48, zi_57, zi_65536, zi_3257, zi_11483, zi_1000000, zi_729, zi_81, zi_m1, nI_add, pk_mul, nI_ltI, nI_leI, nI_eq, nI_clamp, zn_in, zn_sub1lt, zn_M, zn_Ml, zn_Mg, zn_Mle, zn_Mge, zn_sub, Nat.reduceAdd, Nat.reduceMul]
    refine ⟨fun x => absurd x (by omega), fun _ => ⟨by omega, by omega, fun I1 h1 => ?_⟩⟩
    refine ih (k + 1) I1 (by omega) (by omega) (fun I2 a b => K I2 (fun j x y => ?_) (fun r j g => ?_))
    · by_cases c : j = k
      · subst c
        rw [b 104 j (by omega), h1, am_u2_at]
      · rw [a j (by omega) y, h1, am_u2_ne _ _ _ _ (by omega)]
    · rw [b r j (by omega), h1]
      unfold am_u2
      rw [if_neg (by omega)]
end
