/-! the days' text: numbers, signs, tunes, a step's end, in both -/
def dTM (b : Bool) (m s : Nat) (L : am_TL) (R : am_TR) (Q : Bool → am_TI → Prop) (r : Bool) (I : am_TI) : Prop :=
  (r = false → Q false I) ∧ (r = true → ((b = false → wb_M_dayStep_222 L R 103 Q I (nI m) (nI s) (nI (1662 + 6 * s))) ∧ (b = true → (vp_in (I 103 22) 3 ∧ (∀ I11, I11 = am_u2 I (103 + 8) (Int32.toNatClampNeg (I 103 22)) (nI s) → (∀ I12, I12 = am_u2 I11 103 22 ((I11 103 22) + 1) → wb_M_dayStep_222 L R 103 Q I12 (nI m) (nI s) (nI (1662 + 6 * s))))))))
def dpb (b : Bool) (dp : Nat) : Nat := if b = true then dp + 1 else dp
def opb (b : Bool) (op : Nat → Nat) (dp s : Nat) : Nat → Nat := if b = true then zu op dp s else op
section
variable {y : Nat → Nat} {n lb : Nat} {q g g' : Nat → Nat} {s k dp p kM dpM : Nat} {op opM : Nat → Nat} {x c d : Nat} {I I0 I1 J J0 J1 : am_TI} {L : am_TL} {R : am_TR} {w : Nat} {f1 f2 f3 : Option Nat} {CU : Nat → Nat → Nat → am_TL → am_TR → (Bool → am_TI → Prop) → Bool → am_TI → Prop} {CM : am_TL → am_TR → (Bool → am_TI → Prop) → Bool → am_TI → Prop}
theorem SD.first (hn : n ≤ 900) (hp : p ≤ n) (hs : s < 60) {lo hi : Nat} (hlo : lo < 2 ^ 31) (hhi : hi < 2 ^ 31) (c0 : ∀ x c d L R Q I1, Q false I1 → CU x c d L R Q false I1) (m0 : ∀ L R Q I1, Q false I1 → CM L R Q false I1) (h : tK y n p = 4 → lo ≤ tW y n p → tW y n p < hi → SD y n q lb (dA1 y n q g s k dp op w (some (tW y n p)) f2 f3 (tN y n p)) (dB y n q (zu g' (38 + 6 * s + 1) (tW y n p)) (s + 1) kM dpM opM (tN y n p)) (fun x c d I L R Q => CU x c d L R Q true I) (fun I L R Q => CM L R Q true I)) : SD y n q lb (dA1 y n q g s k dp op w f1 f2 f3 p) (dB y n q g' (s + 1) kM dpM opM p) (fun x c d I L R Q => wp_DaysReader_readFirst I L R 9 2 (nI lo) (nI hi - nI 1) x (fun r I1 => CU x c d L R Q r I1)) (fun I L R Q => wp_M_number I L R 103 (nI (1662 + 6 * s + 1)) (nI lo) (nI hi - nI 1) (fun r I1 => CM L R Q r I1)) := by
  by_cases cc : tK y n p = 4 ∧ lo ≤ tW y n p ∧ tW y n p < hi
  · refine (h cc.1 cc.2.1 cc.2.2).pre (fun x c d I0 I L R Q a K => su_dayFirst a hlo hhi rfl (fun _ _ _ I1 a1 => K I1 a1) (fun z => absurd cc z)) (fun J0 I L R Q b K => sm_num hn b.2.1 hlo hhi (by omega) rfl (fun _ _ _ I1 t1 fr => K I1 ((b.put (by omega) (by omega) (by omega) _).tok t1 fr)) (fun z => absurd cc z))
  · have hf := ff_b (y := y) (n := n) (p := p) (v := if tK y n p = 4 then 4 else 2) (by split <;> omega)
    refine Or.inl ⟨_, p, ⟨hf.1, hf.2, hp⟩, fun x c d I0 I L R Q a K => su_dayFirst a hlo hhi rfl (fun z1 z2 z3 => absurd ⟨z1, z2, z3⟩ cc) (fun _ I1 u1 u2 u3 => c0 _ _ _ _ _ _ _ (K I1 u1 u2 u3)), fun J0 I L R Q b K => sm_num hn b.2.1 hlo hhi (by omega) rfl (fun z1 z2 z3 => absurd ⟨z1, z2, z3⟩ cc) (fun _ I1 u => m0 _ _ _ _ (K I1 (b.mf u).1 (b.mf u).2.1 (b.mf u).2.2))⟩
theorem SD.second (hn : n ≤ 900) (hp : p ≤ n) (hs : s < 60) {lo hi : Nat} (hlo : lo < 2 ^ 31) (hhi : hi < 2 ^ 31) (c0 : ∀ x c d L R Q I1, Q false I1 → CU x c d L R Q false I1) (m0 : ∀ L R Q I1, Q false I1 → CM L R Q false I1) (h : tK y n p = 4 → lo ≤ tW y n p → tW y n p < hi → SD y n q lb (dA1 y n q g s k dp op w f1 (some (tW y n p)) f3 (tN y n p)) (dB y n q (zu g' (38 + 6 * s + 2) (tW y n p)) (s + 1) kM dpM opM (tN y n p)) (fun x c d I L R Q => CU x c d L R Q true I) (fun I L R Q => CM L R Q true I)) : SD y n q lb (dA1 y n q g s k dp op w f1 f2 f3 p) (dB y n q g' (s + 1) kM dpM opM p) (fun x c d I L R Q => wp_DaysReader_readSecond I L R 9 2 (nI lo) (nI hi - nI 1) x (fun r I1 => CU x c d L R Q r I1)) (fun I L R Q => wp_M_number I L R 103 (nI (1662 + 6 * s + 2)) (nI lo) (nI hi - nI 1) (fun r I1 => CM L R Q r I1)) := by
  by_cases cc : tK y n p = 4 ∧ lo ≤ tW y n p ∧ tW y n p < hi
  · refine (h cc.1 cc.2.1 cc.2.2).pre (fun x c d I0 I L R Q a K => su_daySecond a hlo hhi rfl (fun _ _ _ I1 a1 => K I1 a1) (fun z => absurd cc z)) (fun J0 I L R Q b K => sm_num hn b.2.1 hlo hhi (by omega) rfl (fun _ _ _ I1 t1 fr => K I1 ((b.put (by omega) (by omega) (by omega) _).tok t1 fr)) (fun z => absurd cc z))
  · have hf := ff_b (y := y) (n := n) (p := p) (v := if tK y n p = 4 then 4 else 2) (by split <;> omega)
    refine Or.inl ⟨_, p, ⟨hf.1, hf.2, hp⟩, fun x c d I0 I L R Q a K => su_daySecond a hlo hhi rfl (fun z1 z2 z3 => absurd ⟨z1, z2, z3⟩ cc) (fun _ I1 u1 u2 u3 => c0 _ _ _ _ _ _ _ (K I1 u1 u2 u3)), fun J0 I L R Q b K => sm_num hn b.2.1 hlo hhi (by omega) rfl (fun z1 z2 z3 => absurd ⟨z1, z2, z3⟩ cc) (fun _ I1 u => m0 _ _ _ _ (K I1 (b.mf u).1 (b.mf u).2.1 (b.mf u).2.2))⟩
/-- a sign, in the class -/
theorem su_dayCmp (h : dA1 y n q g s k dp op w f1 f2 f3 p x c d I0 L I) {Q : Bool → am_TI → Prop} (K1 : tK y n p = 5 → tW y n p ≠ 59 → ∀ I1, dA1 y n q g s k dp op w f1 f2 (some (tW y n p)) (tN y n p) x c d I0 L I1 → Q true I1) (K2 : ¬ (tK y n p = 5 ∧ tW y n p ≠ 59) → ∀ I1, I1 2 10 = nI (ff y n p 2) → I1 2 11 = nI p → dg_U x I0 I1 → Q false I1) : wp_DaysReader_readCompares I L R 9 2 x Q := by
  obtain ⟨b1, b2, b3⟩ := id h.2.1.1.1
  have s60 := h.1
  have k7 : tK y n p < 7 := tK_lt
  have t0 := h.2.1.2.1
  have bad : ¬ (tK y n p = 5 ∧ tW y n p ≠ 59) → wb_Tokens_takeCompares_24 L R 2 (fun r1 I1 => (vp_in ((I1 x 6) - 1) 60 ∧ (∀ I2, I2 = am_u2 I1 (x + 4) (Int32.toNatClampNeg ((I1 x 6) - 1)) r1 → ((r1 = (-1) → Q false I2) ∧ (¬ r1 = (-1) → Q true I2))))) I := by
    intro cc
    unfold wb_Tokens_takeCompares_24
    refine su_ref (f := 2) t0 (fun I1 u => ?_)
    have e6 : I1 x 6 - 1 = nI s := by rw [u.2.2 x 6 (by omega), h.2.1.2.2.1.1, zi_1, zn_sub (by omega)]; rfl
    dsimp only
    rw [e6, nI_clamp (by omega)]
    refine ⟨(zn_in (by omega)).2 s60, fun I2 h2 => ⟨fun _ => ?_, fun z => absurd rfl z⟩⟩
    have g2 : ∀ r i, ¬ (r = x + 4 ∧ i = s) → I2 r i = I1 r i := fun r i z => by rw [h2]; unfold am_u2; rw [if_neg z]
    obtain ⟨u1, u2, u3⟩ := h.2.1.uf u
    exact K2 cc I2 (by rw [g2 2 10 (by omega)]; exact u1) (by rw [g2 2 11 (by omega)]; exact u2) (fun r i z1 z2 z3 z4 => (g2 r i (by omega)).trans (u3 r i z1 z2 z3 z4))
  unfold wp_DaysReader_readCompares wp_Tokens_takeCompares
  rw [t0.k]
  by_cases c5 : tK y n p = 5
  · obtain ⟨i, hi9, e6, e7⟩ := t0.v (by omega)
    have b := tW_5 c5
    have e7' : L (2 + 5) i = lN (tW y n p) := e7
    rw [e6, nI_clamp (by omega), e7', c5, show (59 : Int64) = lN 59 from rfl, zk_eq (by omega) (by omega), zk_in (by omega)]
    refine ⟨fun _ => ⟨(zn_in (by omega)).2 hi9, fun z => bad (fun z2 => z2.2 z), fun z => ⟨(zn_in (by omega)).2 hi9, su_adv t0 (fun I1 t1 fr => ?_)⟩⟩, fun z => absurd rfl z⟩
    have h1 := h.tok t1 fr
    have e6 : I1 x 6 - 1 = nI s := by rw [h1.2.1.2.2.1.1, zi_1, zn_sub (by omega)]; rfl
    dsimp only
    rw [e6, nI_clamp (by omega)]
    refine ⟨(zn_in (by omega)).2 s60, fun I2 h2 => ⟨fun z => absurd z (fun z => (zn_M (by omega)).1 z), fun _ => K1 c5 z I2 ?_⟩⟩
    obtain ⟨a0, a1, a2, a3, a4, a5⟩ := h1
    obtain ⟨_, _, ⟨k1, k2, k3, k4⟩, k5⟩ := id a1
    have g2 : ∀ r i, ¬ (r = x + 4 ∧ i = s) → I2 r i = I1 r i := fun r i z => by rw [h2]; unfold am_u2; rw [if_neg z]
    have gv : I2 (x + 4) s = nI (tW y n p) := by rw [h2, am_u2_at]
    refine ⟨a0, a1.chg (fun r i z1 z2 z3 => g2 r i (by omega)) (by rw [g2 x 6 (by omega)]; exact k1) (by rw [g2 x 7 (by omega)]; exact k2) (by rw [g2 9 1 (by omega)]; exact k3) (fun i hi => by rw [g2 10 i (by omega)]; exact k4 i hi) (fun j hj => (k5 j hj).keep (fun r z1 z2 => g2 r j (by omega))), by rw [g2 (x + 1) s (by omega)]; exact a2, ?_, ?_, ?_⟩
    · intro v hv; rw [g2 (x + 2) s (by omega)]; exact a3 v hv
    · intro v hv; rw [g2 (x + 3) s (by omega)]; exact a4 v hv
    · intro v hv; cases hv; exact gv
  · rw [show (5 : Int32) = nI 5 from rfl, nI_eq (by omega) (by omega)]
    exact ⟨fun z => absurd z c5, fun _ => bad (fun z => c5 z.1)⟩
/-- a sign, in both -/
theorem SD.cmp (hn : n ≤ 900) (hp : p ≤ n) (hs : s < 60) {m : Nat} (hm : m = 23 ∨ m = 24) (c0 : ∀ x c d L R Q I1, Q false I1 → CU x c d L R Q false I1) (h : tK y n p = 5 → tW y n p ≠ 59 → SD y n q lb (dA1 y n q g s k dp op w f1 f2 (some (tW y n p)) (tN y n p)) (dB y n q (zu g' (38 + 6 * s + 5) (tW y n p)) (s + 1) kM dpM opM (tN y n p)) (fun x c d I L R Q => CU x c d L R Q true I) (fun I L R Q => wp_M_number I L R 103 (nI (1662 + 6 * s + 2)) (nI 0) (nI (if m = 23 then 10000 else 9) - nI 1) (fun r I1 => CM L R Q r I1))) (m0 : ∀ L R Q I1, Q false I1 → CM L R Q false I1) : SD y n q lb (dA1 y n q g s k dp op w f1 f2 f3 p) (dB y n q g' (s + 1) kM dpM opM p) (fun x c d I L R Q => wp_DaysReader_readCompares I L R 9 2 x (fun r I1 => CU x c d L R Q r I1)) (fun I L R Q => wb_M_test_75 L R 103 (nI (1662 + 6 * s)) (fun r I1 => CM L R Q r I1) I (nI m)) := by
  have m22 : ¬ nI m = 22 := by rw [show (22 : Int32) = nI 22 from rfl, nI_eq (by omega) (by omega)]; omega
  by_cases cc : tK y n p = 5 ∧ tW y n p ≠ 59
  · have b := tW_5 cc.1
    refine (h cc.1 cc.2).pre (fun x c d I0 I L R Q a K => su_dayCmp a (fun _ _ I1 a1 => K I1 a1) (fun z => absurd cc z)) (fun J0 I L R Q b K => ?_)
    have main : wb_M_test_116 L R 103 (nI (1662 + 6 * s)) (fun r I1 => CM L R Q r I1) I (nI m) := by
      unfold wb_M_test_116 wb_M_test_151
      rw [show (5 : Int32) = nI 5 from rfl, nI_add, nI_clamp (by omega)]
      refine ⟨(zn_in (by omega)).2 (by omega), fun I3 h3 => ?_⟩
      have ev : I 103 15 = nI (tW y n p) := b.2.1.2.2.2.2.2.1 (Or.inr (tM_4.2 cc.1))
      have b3 : dB y n q (zu g' (38 + 6 * s + 5) (tW y n p)) (s + 1) kM dpM opM p J0 L I3 := by
        rw [h3, ev]
        exact b.put (by omega) (by omega) (by omega) _
      refine sm_ahead hn b3.2.1 (fun I4 t4 fr => ?_)
      have kk := K I4 (b3.tok t4 fr)
      rw [show (23 : Int32) = nI 23 from rfl, nI_eq (by omega) (by omega), show (2 : Int32) = nI 2 from rfl, nI_add]
      refine ⟨fun z => ?_, fun z => ?_⟩
      · rw [if_pos z] at kk; exact kk
      · rw [if_neg z] at kk; exact kk
    unfold wb_M_test_75
    refine ⟨fun z => absurd z m22, fun _ => sm_sign (c := 60) hn b.2.1 (by omega) ⟨fun z => sm_sign (c := 62) hn b.2.1 (by omega) ⟨fun z2 => sm_sign (c := 61) hn b.2.1 (by omega) ⟨fun z3 => ?_, fun _ => main⟩, fun _ => main⟩, fun _ => main⟩⟩
    have z := of_decide_eq_false z
    have z2 := of_decide_eq_false z2
    have z3 := of_decide_eq_false z3
    omega
  · have hf := ff_b (y := y) (n := n) (p := p) (v := 2) (by omega)
    refine Or.inl ⟨ff y n p 2, p, ⟨hf.1, hf.2, hp⟩, fun x c d I0 I L R Q a K => su_dayCmp a (fun z1 z2 => absurd ⟨z1, z2⟩ cc) (fun _ I1 u1 u2 u3 => c0 _ _ _ _ _ _ _ (K I1 u1 u2 u3)), fun J0 I L R Q b K => ?_⟩
    have no : ∀ c, c = 60 ∨ c = 61 ∨ c = 62 → ¬ (tK y n p = 5 ∧ tW y n p = c) := fun c hc z => cc ⟨z.1, by omega⟩
    have fin : wp_M_fails I L R 103 2 (fun r6 I6 => CM L R Q r6 I6) := sm_fail (f := 2) b.2.1 (fun I1 u => m0 _ _ _ _ (K I1 (b.mf u).1 (b.mf u).2.1 (b.mf u).2.2))
    unfold wb_M_test_75
    exact ⟨fun z => absurd z m22, fun _ => sm_sign (c := 60) hn b.2.1 (by omega) ⟨fun _ => sm_sign (c := 62) hn b.2.1 (by omega) ⟨fun _ => sm_sign (c := 61) hn b.2.1 (by omega) ⟨fun _ => fin, fun z => absurd (of_decide_eq_true z) (no 61 (by omega))⟩, fun z => absurd (of_decide_eq_true z) (no 62 (by omega))⟩, fun z => absurd (of_decide_eq_true z) (no 60 (by omega))⟩⟩
/-- a step's end, in both -/
theorem dA1.done {k' dp' : Nat} {op' : Nat → Nat} (h : dA1 y n q g s k' dp' op' w f1 f2 f3 p x c d I0 L I) (e : ∀ i, i < 38 + 6 * s → g' i = g i) (hw : w = dy_w (g' (38 + 6 * s))) (h1 : dW1 (g' (38 + 6 * s)) → f1 = some (g' (39 + 6 * s))) (h2 : dW2 (g' (38 + 6 * s)) → f2 = some (g' (40 + 6 * s))) (h3 : dW3 (g' (38 + 6 * s)) → f3 = some (g' (43 + 6 * s))) (h5 : dW5 (g' (38 + 6 * s)) → ∃ i, i < dp' ∧ op' i = s) : dA y n q g' (s + 1) (s + 1) k' dp' op' p x c d I0 L I := by
  obtain ⟨a0, a1, a2, a3, a4, a5⟩ := h
  obtain ⟨_, _, ⟨k1, k2, k3, k4⟩, k5⟩ := id a1
  refine a1.chg (fun _ _ _ _ _ => rfl) k1 k2 k3 k4 (fun j hj => ?_)
  by_cases c : j = s
  · subst c
    exact ⟨by rw [a2, hw], fun z => a3 _ (h1 z), fun z => a4 _ (h2 z), fun z => a5 _ (h3 z), fun z => Or.inl (h5 z)⟩
  · have z := k5 j (by omega)
    unfold dR at z ⊢
    rw [e (38 + 6 * j) (by omega), e (39 + 6 * j) (by omega), e (40 + 6 * j) (by omega), e (42 + 6 * j) (by omega), e (43 + 6 * j) (by omega)]
    exact z
theorem sm_dayTail {b : Bool} {m : Nat} (hm : m < 19 ∨ m = 20) (h : dB y n q g' (s + 1) k dp op p J0 L I) (hb : b = true → dp < 3) {Q : Bool → am_TI → Prop} (K : ∀ I1, dB y n q g' (s + 1) k (dpb b dp) (opb b op dp s) p J0 L I1 → wp_M_wantSign I1 L R 103 (nI 59) (fun r I1 => Q r I1)) : dTM b m s L R Q true I := by
  have m19 : ¬ nI m = 19 := by rw [show (19 : Int32) = nI 19 from rfl, nI_eq (by omega) (by omega)]; omega
  obtain ⟨_, _, ⟨k1, k2, k3, k4⟩, k5⟩ := id h
  refine ⟨fun z => (by cases z), fun _ => ⟨fun z => ⟨fun z => absurd z m19, fun _ => ?_⟩, fun z => ?_⟩⟩
  · subst z
    exact K I h
  · have d3 := hb z
    subst z
    rw [k3, nI_clamp (by omega)]
    refine ⟨(zn_in (by omega)).2 d3, fun I11 h11 I12 h12 => ⟨fun z => absurd z m19, fun _ => K I12 ?_⟩⟩
    have e11 : I11 103 22 + 1 = nI (dp + 1) := by rw [h11, am_u2o (by omega), k3, zi_1, nI_add]
    rw [e11] at h12
    have g1 : ∀ r i, ¬ (r = 103 ∧ i = 22) → ¬ (r = 111 ∧ i = dp) → I12 r i = I r i := fun r i z1 z2 => by
      rw [h12]
      unfold am_u2
      rw [if_neg z1, h11]
      unfold am_u2
      rw [if_neg (by omega)]
    show dB y n q g' (s + 1) k (dp + 1) (zu op dp s) p J0 L I12
    refine h.chg (fun r i z1 z2 z3 => g1 r i (by omega) (by omega)) (by rw [g1 _ _ (by omega) (by omega)]; exact k1) (by rw [g1 _ _ (by omega) (by omega)]; exact k2) (by rw [h12, am_u2_at]) (fun i hi => ?_) (fun j hj i hi z => by rw [g1 _ _ (by omega) (by omega)]; exact k5 j hj i hi z)
    by_cases c : i = dp
    · subst c
      rw [h12, am_u2o (by omega), h11, zu_s]
      exact am_u2_at _ _ _ _
    · rw [g1 111 i (by omega) (by omega), zu_n c]
      exact k4 i (by omega)
theorem SD.tail (hn : n ≤ 900) (hp : p ≤ n) {b : Bool} {m : Nat} (hm : m < 19 ∨ m = 20) (hb : b = true → dp < 3) (e : ∀ i, i < 38 + 6 * s → g' i = g i) (hw : w = dy_w (g' (38 + 6 * s))) (h1 : dW1 (g' (38 + 6 * s)) → f1 = some (g' (39 + 6 * s))) (h2 : dW2 (g' (38 + 6 * s)) → f2 = some (g' (40 + 6 * s))) (h3 : dW3 (g' (38 + 6 * s)) → f3 = some (g' (43 + 6 * s))) (h5 : dW5 (g' (38 + 6 * s)) → ∃ i, i < dpb b dp ∧ opb b op dp s i = s) (hI : dI q g' (s + 1) (dpb b dp) k (opb b op dp s)) (hlb : lb ≤ tN y n p) : SD y n q lb (dA1 y n q g s k (dpb b dp) (opb b op dp s) w f1 f2 f3 p) (dB y n q g' (s + 1) k dp op p) (fun x c d I L R Q => wb_DaysReader_readStep_183 L R 9 2 c x Q I true) (fun I L R Q => dTM b m s L R Q true I) := by
  by_cases cc : tK y n p = 5 ∧ tW y n p = 59
  · refine Or.inr ⟨g', s + 1, k, dpb b dp, opb b op dp s, tN y n p, ⟨hI, hlb⟩, fun x c d I0 I L R Q a K => ?_, fun J0 I L R Q a K => ?_⟩
    · have a2 := a.done e hw h1 h2 h3 h5
      exact ⟨fun z => (by cases z), fun _ => su_semi a2.2.1 (fun _ _ I1 t1 fr => ⟨fun z => (by cases z), fun _ => K I1 (a2.tok t1 fr)⟩) (fun z => absurd cc z)⟩
    · exact sm_dayTail hm a hb (fun I1 a1 => sm_semi hn a1.2.1 (fun _ _ I2 t2 fr => K I2 (a1.tok t2 fr)) (fun z => absurd cc z))
  · have hf := ff_b (y := y) (n := n) (p := p) (v := 2) (by omega)
    refine Or.inl ⟨ff y n p 2, p, ⟨hf.1, hf.2, hp⟩, fun x c d I0 I L R Q a K => ?_, fun J0 I L R Q a K => ?_⟩
    · have a2 := a.done e hw h1 h2 h3 h5
      exact ⟨fun z => (by cases z), fun _ => su_semi a2.2.1 (fun z1 z2 => absurd ⟨z1, z2⟩ cc) (fun _ I1 u => ⟨fun _ => K I1 (a2.uf u).1 (a2.uf u).2.1 (a2.uf u).2.2, fun z => (by cases z)⟩)⟩
    · exact sm_dayTail hm a hb (fun I1 a1 => sm_semi hn a1.2.1 (fun z1 z2 => absurd ⟨z1, z2⟩ cc) (fun _ I2 u => K I2 (a1.mf u).1 (a1.mf u).2.1 (a1.mf u).2.2))
end
