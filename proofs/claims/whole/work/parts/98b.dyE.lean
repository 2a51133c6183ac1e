/-! the days' text: an end; a step; the loop of steps -/
def clo (g : Nat → Nat) (s t : Nat) : Nat → Nat := zu (zu (row0 g s 19) (38 + 6 * s + 4) t) (38 + 6 * t + 4) s
section
variable {y : Nat → Nat} {n lb : Nat} {q g g' : Nat → Nat} {s k dp p t : Nat} {op : Nat → Nat} {x c d : Nat} {I I0 I1 J0 : am_TI} {L : am_TL} {R : am_TR}
theorem clo_lt {i : Nat} (h : i < 38 + 6 * s) (h2 : i ≠ 42 + 6 * t) : clo g s t i = g i := by
  unfold clo
  rw [zu_n (by omega), zu_n (by omega), row0_lt h]
theorem clo_w (h : t < s) : clo g s t (38 + 6 * s) = 19 := by
  unfold clo
  rw [zu_n (by omega), zu_n (by omega), row0_w]
theorem clo_s (h : t < s) : clo g s t (42 + 6 * s) = t := by
  unfold clo
  rw [zu_n (by omega)]
  unfold zu
  rw [if_pos (by omega)]
theorem clo_t : clo g s t (42 + 6 * t) = s := by
  unfold clo zu
  rw [if_pos (by omega)]
theorem su_dayEnd (h : dA y n q g s s k dp op p x c d I0 L I) (inv : dI q g s dp k op) (h0 : 0 < dp) (ht : op (dp - 1) = t) {Q : Bool → am_TI → Prop} (K : ∀ I1, dA y n q (clo g s t) (s + 1) (s + 1) k (dp - 1) op (tN y n p) x c d I0 L I1 → wp_Tokens_takeSemicolon I1 L R 2 (fun r I5 => Q r I5)) : wp_DaysReader_readEnd I L R 9 2 x Q := by
  obtain ⟨⟨i1, i2, i3⟩, iO, iM, _⟩ := id inv
  obtain ⟨t1, t2, _, _⟩ := iO (dp - 1) (by omega)
  rw [ht] at t1 t2
  obtain ⟨b1, b2, b3⟩ := id h.1.1
  have d0 : (0 : Int32) < I 9 1 := by rw [h.2.2.1.2.2.1, zi_0, nI_ltI (by omega) (by omega)]; exact h0
  unfold wp_DaysReader_readEnd
  refine ⟨fun _ => su_adv h.2.1 (fun I1 tk fr => ?_), fun z => absurd d0 z⟩
  have h1 := h.tok tk fr
  obtain ⟨_, _, ⟨k1, k2, k3, k4⟩, k5⟩ := id h1
  intro I2 h2
  rw [k3, zi_1, zn_sub (by omega)] at h2
  have e2 : I2 x 6 = nI s := by rw [h2, am_u2o (by omega)]; exact k1
  unfold wp_Days_add
  rw [e2, nI_clamp (by omega)]
  refine ⟨fun z => absurd z (by rw [zi_60, nI_leI (by omega) (by omega)]; omega), fun _ => ⟨(zn_in (by omega)).2 (by omega), fun I3 h3 I4 h4 => ?_⟩⟩
  have e3 : I3 x 6 + 1 = nI (s + 1) := by rw [h3, am_u2o (by omega), e2, zi_1, nI_add]
  rw [e3] at h4
  have g4 : ∀ r i, ¬ (r = x + 1 ∧ i = s) → ¬ (r = x ∧ i = 6) → ¬ (r = 9 ∧ i = 1) → I4 r i = I1 r i := fun r i z1 z2 z3 => by
    rw [h4]
    unfold am_u2
    rw [if_neg z2, h3]
    unfold am_u2
    rw [if_neg z1, h2]
    unfold am_u2
    rw [if_neg z3]
  have v9 : I4 9 1 = nI (dp - 1) := by rw [h4, am_u2o (by omega), h3, am_u2o (by omega), h2, am_u2_at]
  have v6 : I4 x 6 = nI (s + 1) := by rw [h4, am_u2_at]
  have v1 : I4 (x + 1) s = nI 23 := by rw [h4, am_u2o (by omega), h3]; exact am_u2_at _ _ _ _
  have v10 : I4 (9 + 1) (dp - 1) = nI t := by
    rw [show I4 (9 + 1) (dp - 1) = I1 10 (dp - 1) from g4 10 (dp - 1) (by omega) (by omega) (by omega), k4 (dp - 1) (by omega), ht]
  have e6 : I4 x 6 - 1 = nI s := by rw [v6, zi_1, zn_sub (by omega)]; rfl
  unfold wp_Days_join
  dsimp only
  rw [v9, nI_clamp (by omega), v10, e6, nI_clamp (by omega), nI_clamp (by omega)]
  refine ⟨(zn_in (by omega)).2 (by omega), (zn_in (by omega)).2 (by omega), fun I5 h5 => ⟨(zn_in (by omega)).2 (by omega), fun I6 h6 => K I6 ?_⟩⟩
  have g6 : ∀ r i, ¬ (r = x + 5 ∧ (i = t ∨ i = s)) → I6 r i = I4 r i := fun r i z => by
    rw [h6]
    unfold am_u2
    rw [if_neg (by omega), h5]
    unfold am_u2
    rw [if_neg (by omega)]
  have w1 : I6 (x + 5) s = nI t := by rw [h6, am_u2_at]
  have w2 : I6 (x + 5) t = nI s := by rw [h6, am_u2_ne _ _ _ _ (by omega), h5, am_u2_at]
  have ga : ∀ r i, ¬ (r = x + 1 ∧ i = s) → ¬ (r = x ∧ i = 6) → ¬ (r = 9 ∧ i = 1) → ¬ (r = x + 5 ∧ (i = t ∨ i = s)) → I6 r i = I1 r i := fun r i z1 z2 z3 z4 => (g6 r i z4).trans (g4 r i z1 z2 z3)
  refine h1.chg (fun r i z1 z2 z3 => ga r i (by omega) (by omega) (by omega) (by omega)) (by rw [g6 x 6 (by omega)]; exact v6) (by rw [ga x 7 (by omega) (by omega) (by omega) (by omega)]; exact k2) (by rw [g6 9 1 (by omega)]; exact v9) (fun i hi => by rw [ga 10 i (by omega) (by omega) (by omega) (by omega)]; exact k4 i (by omega)) (fun j hj => ?_)
  by_cases ej : j = s
  · subst ej
    unfold dR
    rw [clo_w t1, clo_s t1]
    exact ⟨by rw [g6 (x + 1) j (by omega)]; exact v1, fun z => (by unfold dW1 at z; omega), fun z => (by unfold dW2 at z; omega), fun z => (by unfold dW3 at z; omega), fun _ => Or.inr w1⟩
  · have js : j < s := by omega
    obtain ⟨a1, a2, a3, a4, a5⟩ := k5 j js
    unfold dR
    rw [clo_lt (i := 38 + 6 * j) (by omega) (by omega), clo_lt (i := 39 + 6 * j) (by omega) (by omega), clo_lt (i := 40 + 6 * j) (by omega) (by omega), clo_lt (i := 43 + 6 * j) (by omega) (by omega)]
    refine ⟨by rw [ga (x + 1) j (by omega) (by omega) (by omega) (by omega)]; exact a1, fun z => by rw [ga (x + 2) j (by omega) (by omega) (by omega) (by omega)]; exact a2 z, fun z => by rw [ga (x + 3) j (by omega) (by omega) (by omega) (by omega)]; exact a3 z, fun z => by rw [ga (x + 4) j (by omega) (by omega) (by omega) (by omega)]; exact a4 z, fun z => ?_⟩
    by_cases et : j = t
    · subst et
      rw [clo_t]
      exact Or.inr w2
    · rcases a5 z with ⟨i, z1, z2⟩ | z1
      · have ni : i ≠ dp - 1 := fun z3 => by rw [z3, ht] at z2; exact et z2.symm
        exact Or.inl ⟨i, by omega, z2⟩
      · rw [clo_lt (by omega) (by omega), ga (x + 5) j (by omega) (by omega) (by omega) (by omega)]
        exact Or.inr z1
theorem sm_dayEnd (hn : n ≤ 900) (h : dB y n q g s k dp op p J0 L I) (inv : dI q g s dp k op) (hw : tI y n p = 23) (h0 : 0 < dp) (ht : op (dp - 1) = t) {Q : Bool → am_TI → Prop} (K : ∀ I1, dB y n q (clo g s t) (s + 1) k (dp - 1) op (tN y n p) J0 L I1 → wp_M_wantSign I1 L R 103 (nI 59) (fun r I1 => Q r I1)) : wp_M_dayStep I L R 103 Q := by
  obtain ⟨⟨i1, i2, i3⟩, iO, iM, _⟩ := id inv
  obtain ⟨t1, t2, _, _⟩ := iO (dp - 1) (by omega)
  rw [ht] at t1 t2
  obtain ⟨_, _, ⟨k1, k2, k3, k4⟩, k5⟩ := id h
  have d0 : ¬ I 103 22 = 0 := by rw [k3, zi_0, nI_eq (by omega) (by omega)]; omega
  unfold wp_M_dayStep
  refine sm_inW hn h.2.1 ?_
  rw [hw, if_pos (by omega), show rwT.getD 23 25 = 19 from rfl, show I (103 + 1) 1631 = nI s from k1, show (1662 : Int32) + 6 * nI s = nI (1662 + 6 * s) by rw [zi_6, zi_1662, pk_mul, nI_add]]
  refine ⟨fun z => absurd z (by decide), fun _ => ⟨fun z => absurd z (by decide), fun _ => ⟨fun z => absurd z (by decide), fun _ => ⟨fun z => absurd z (by decide), fun _ => ⟨fun _ => ⟨fun z => absurd z d0, fun _ => ⟨fun _ => ⟨fun _ => ⟨fun _ => ?_, fun z => absurd rfl z⟩, fun z => (by cases z)⟩, fun z => absurd rfl z⟩⟩, fun z => absurd rfl z⟩⟩⟩⟩⟩
  rw [k2]
  refine sm_dayRow (m := 19) (u := false) (kk := k) hn h (by omega) (by omega) (by rw [show am_b false = nI 0 from rfl, nI_add]; rfl) (fun I6 b6 => ?_)
  obtain ⟨_, _, ⟨l1, l2, l3, l4⟩, l5⟩ := id b6
  have main : dTM false 19 s L R Q true I6 := by
    refine ⟨fun z => (by cases z), fun _ => ⟨fun _ => ⟨fun _ I8 h8 => ?_, fun z => absurd rfl z⟩, fun z => (by cases z)⟩⟩
    rw [l3, zi_1, zn_sub (by omega)] at h8
    have g8 : ∀ r i, ¬ (r = 103 ∧ i = 22) → I8 r i = I6 r i := fun r i z => by rw [h8]; unfold am_u2; rw [if_neg z]
    have v8 : I8 103 22 = nI (dp - 1) := by rw [h8, am_u2_at]
    have b8 : dB y n q (row0 g s 19) (s + 1) k (dp - 1) op (tN y n p) J0 L I8 := b6.chg (fun r i z1 z2 z3 => g8 r i (by omega)) (by rw [g8 _ _ (by omega)]; exact l1) (by rw [g8 _ _ (by omega)]; exact l2) v8 (fun i hi => by rw [g8 _ _ (by omega)]; exact l4 i (by omega)) (fun j hj i hi z => by rw [g8 _ _ (by omega)]; exact l5 j hj i hi z)
    have o8 : I8 (103 + 8) (dp - 1) = nI t := by
      rw [show I8 (103 + 8) (dp - 1) = I6 111 (dp - 1) from g8 111 (dp - 1) (by omega), l4 (dp - 1) (by omega), ht]
    rw [v8, nI_clamp (by omega), o8, show nI (1662 + 6 * s) + 4 = nI (1662 + 6 * s + 4) by rw [zi_4, nI_add], nI_clamp (by omega)]
    refine ⟨(zn_in (by omega)).2 (by omega), (zn_in (by omega)).2 (by omega), fun I9 h9 => ?_⟩
    have b9 : dB y n q (zu (row0 g s 19) (38 + 6 * s + 4) t) (s + 1) k (dp - 1) op (tN y n p) J0 L I9 := by
      rw [h9]
      exact b8.put (j := s) (i := 4) (by omega) (by omega) (by omega) t
    have v9 : I9 103 22 = nI (dp - 1) := b9.2.2.1.2.2.1
    have o9 : I9 (103 + 8) (dp - 1) = nI t := by
      rw [h9]
      rw [show am_u2 I8 (103 + 1) (1662 + 6 * s + 4) (nI t) (103 + 8) (dp - 1) = I8 (103 + 8) (dp - 1) from am_u2o (by omega), o8]
    rw [v9, nI_clamp (by omega), o9, show (1662 : Int32) + 6 * nI t + 4 = nI (1662 + 6 * t + 4) by rw [zi_6, zi_1662, pk_mul, nI_add, zi_4, nI_add], nI_clamp (by omega)]
    refine ⟨(zn_in (by omega)).2 (by omega), (zn_in (by omega)).2 (by omega), fun I10 h10 => K I10 ?_⟩
    rw [h10]
    exact b9.put (j := t) (i := 4) (by omega) (by omega) (by omega) s
  exact ⟨fun z => absurd z (by decide), fun z => absurd z (by decide), fun z => absurd z (by decide), fun z => absurd z (by decide), fun z => absurd z (by decide), fun z => absurd z (by decide), fun z => absurd z (by decide), fun z => absurd z (by decide), fun z => absurd z (by decide), fun _ _ _ _ _ _ _ _ _ => main⟩
theorem SD.oEnd (hn : n ≤ 900) (hp : p ≤ n) (inv : dI q g s dp k op) (hw : tI y n p = 23) (h0 : 0 < dp) (hlb : lb ≤ tN y n p) : SD y n q lb (dA y n q g s s k dp op p) (dB y n q g s k dp op p) (fun x c d I L R Q => wp_DaysReader_readStep I L R 9 2 c x Q) (fun I L R Q => wp_M_dayStep I L R 103 Q) := by
  obtain ⟨t1, t2, _, _⟩ := inv.2.1 (dp - 1) (by omega)
  have z1 := tN_le (y := y) hp
  have z2 := tN_ge (y := y) (n := n) (p := tN y n p)
  have iC := inv.close (g' := clo g s (op (dp - 1))) h0 rfl (fun i a b => clo_lt a b) (clo_w t1) (clo_s t1) clo_t
  have cU : ∀ {x c d I0 I L R} {Q : Bool → am_TI → Prop}, dA y n q g s s k dp op p x c d I0 L I → (∀ I1, dA y n q (clo g s (op (dp - 1))) (s + 1) (s + 1) k (dp - 1) op (tN y n p) x c d I0 L I1 → wp_Tokens_takeSemicolon I1 L R 2 (fun r I5 => Q r I5)) → wp_DaysReader_readStep I L R 9 2 c x Q := by
    intro x c d I0 I L R Q a K
    have e9 : I 2 9 = 23 := by rw [a.2.1.w, hw, if_pos (by omega)]; rfl
    exact ⟨fun _ => su_dayEnd a inv h0 rfl K, fun z => absurd e9 z⟩
  by_cases cc : tK y n (tN y n p) = 5 ∧ tW y n (tN y n p) = 59
  · refine Or.inr ⟨_, s + 1, k, dp - 1, op, tN y n (tN y n p), ⟨iC, by omega⟩, fun x c d I0 I L R Q a K => cU a (fun I1 a1 => su_semi a1.2.1 (fun _ _ I2 t2 fr => K I2 (a1.tok t2 fr)) (fun z => absurd cc z)), fun J0 I L R Q b K => sm_dayEnd hn b inv hw h0 rfl (fun I1 b1 => sm_semi hn b1.2.1 (fun _ _ I2 t2 fr => K I2 (b1.tok t2 fr)) (fun z => absurd cc z))⟩
  · have hf := ff_b (y := y) (n := n) (p := tN y n p) (v := 2) (by omega)
    exact Or.inl ⟨ff y n (tN y n p) 2, tN y n p, ⟨hf.1, hf.2, z1⟩, fun x c d I0 I L R Q a K => cU a (fun I1 a1 => su_semi a1.2.1 (fun z1 z2 => absurd ⟨z1, z2⟩ cc) (fun _ I2 u => K I2 (a1.uf u).1 (a1.uf u).2.1 (a1.uf u).2.2)), fun J0 I L R Q b K => sm_dayEnd hn b inv hw h0 rfl (fun I1 b1 => sm_semi hn b1.2.1 (fun z1 z2 => absurd ⟨z1, z2⟩ cc) (fun _ I2 u => K I2 (b1.mf u).1 (b1.mf u).2.1 (b1.mf u).2.2))⟩
/-- a step that isn't an end -/
theorem SD.stepG {w m : Nat} {b : Bool} (hn : n ≤ 900) (hp : p ≤ n) (inv : dI q g s dp k op) (hw : tI y n p = w) (w25 : w < 25) (hm : rwT.getD w 25 = m) (hb : (b = true ∧ (w = 17 ∨ w = 22)) ∨ (b = false ∧ ((10 ≤ w ∧ w ≤ 16) ∨ w = 24))) (hb2 : (b = true ∧ (m = 17 ∨ m = 18)) ∨ (b = false ∧ ((10 ≤ m ∧ m ≤ 16) ∨ m = 20))) (h : k < 30 → (b = true → dp < 3) → SD y n q lb (dA1 y n q g s (k + 1) (dpb b dp) (opb b op dp s) w none none none (tN y n p)) (dB y n q (row0 g s m) (s + 1) (k + 1) dp op (tN y n p)) (fun x c d I L R Q => wb_DaysReader_readStep_157 L R 9 2 c x Q I (nI w)) (fun I L R Q => wp_M_dayOrder I L R 103 (nI m) (nI (1662 + 6 * s)) (fun r I6 => dTM b m s L R Q r I6))) : SD y n q lb (dA y n q g s s k dp op p) (dB y n q g s k dp op p) (fun x c d I L R Q => wp_DaysReader_readStep I L R 9 2 c x Q) (fun I L R Q => wp_M_dayStep I L R 103 Q) := by
  obtain ⟨i1, i2, i3⟩ := inv.1
  by_cases k30 : k = 30
  · have hf := ff_b (y := y) (n := n) (p := p) (v := 6) (by omega)
    exact Or.inl ⟨ff y n p 6, p, ⟨hf.1, hf.2, hp⟩, fun x c d I0 I L R Q a K => su_dayStep a inv hw hb (fun _ I1 u => K I1 (a.uf u).1 (a.uf u).2.1 (a.uf u).2.2) (fun z => absurd k30 (by omega)) (fun z => absurd k30 (by omega)), fun J0 I L R Q a K => sm_dayStep hn a inv hw w25 hm hb2 (fun _ I1 u => K I1 (a.mf u).1 (a.mf u).2.1 (a.mf u).2.2) (fun z => absurd k30 (by omega)) (fun z => absurd k30 (by omega))⟩
  by_cases d3 : b = true ∧ dp = 3
  · have hf := ff_b (y := y) (n := n) (p := p) (v := 7) (by omega)
    exact Or.inl ⟨ff y n p 7, p, ⟨hf.1, hf.2, hp⟩, fun x c d I0 I L R Q a K => su_dayStep a inv hw hb (fun z => absurd z k30) (fun _ _ _ I1 u => K I1 (a.uf u).1 (a.uf u).2.1 (a.uf u).2.2) (fun _ z => absurd (z d3.1) (by omega)), fun J0 I L R Q a K => sm_dayStep hn a inv hw w25 hm hb2 (fun z => absurd z k30) (fun _ _ _ I1 u => K I1 (a.mf u).1 (a.mf u).2.1 (a.mf u).2.2) (fun _ z => absurd (z d3.1) (by omega))⟩
  · have hd : b = true → dp < 3 := fun z => by
      have : dp ≠ 3 := fun z2 => d3 ⟨z, z2⟩
      omega
    exact (h (by omega) hd).pre (fun x c d I0 I L R Q a K => su_dayStep a inv hw hb (fun z => absurd z k30) (fun _ z1 z2 => absurd ⟨z1, z2⟩ d3) (fun _ _ I1 a1 => K I1 a1)) (fun J0 I L R Q a K => sm_dayStep hn a inv hw w25 hm hb2 (fun z => absurd z k30) (fun _ z1 z2 => absurd ⟨z1, z2⟩ d3) (fun _ _ I1 a1 => K I1 a1))
theorem rwT_step : ∀ i, i < 25 → ¬ ((10 ≤ i ∧ i ≤ 17) ∨ i = 22 ∨ i = 23 ∨ i = 24) → rwT.getD i 25 < 10 ∨ 20 < rwT.getD i 25 := by decide
theorem SD.step (hn : n ≤ 900) (hpn : p < n) (ok : sq_Ok q) (inv : dI q g s dp k op) : SD y n q (p + 1) (dA y n q g s s k dp op p) (dB y n q g s k dp op p) (fun x c d I L R Q => wp_DaysReader_readStep I L R 9 2 c x Q) (fun I L R Q => wp_M_dayStep I L R 103 Q) := by
  have z1 := tN_gt (y := y) hpn
  have hp : p ≤ n := by omega
  have z2 := tN_le (y := y) hp
  by_cases w10 : tI y n p = 10
  · exact SD.stepG (m := 10) (b := false) hn hp inv w10 (by omega) rfl (Or.inr ⟨rfl, by omega⟩) (Or.inr ⟨rfl, by omega⟩) (fun hk _ => SD.o10 hn z2 ok inv hk (by omega))
  by_cases w11 : tI y n p = 11
  · exact SD.stepG (m := 11) (b := false) hn hp inv w11 (by omega) rfl (Or.inr ⟨rfl, by omega⟩) (Or.inr ⟨rfl, by omega⟩) (fun hk _ => SD.o11 hn z2 ok inv hk (by omega))
  by_cases w12 : tI y n p = 12
  · exact SD.stepG (m := 12) (b := false) hn hp inv w12 (by omega) rfl (Or.inr ⟨rfl, by omega⟩) (Or.inr ⟨rfl, by omega⟩) (fun hk _ => SD.o12 hn z2 ok inv hk (by omega))
  by_cases w13 : tI y n p = 13
  · exact SD.stepG (m := 13) (b := false) hn hp inv w13 (by omega) rfl (Or.inr ⟨rfl, by omega⟩) (Or.inr ⟨rfl, by omega⟩) (fun hk _ => SD.o13 hn z2 ok inv hk (by omega))
  by_cases w14 : tI y n p = 14
  · exact SD.stepG (m := 14) (b := false) hn hp inv w14 (by omega) rfl (Or.inr ⟨rfl, by omega⟩) (Or.inr ⟨rfl, by omega⟩) (fun hk _ => SD.o14 hn z2 ok inv hk (by omega))
  by_cases w15 : tI y n p = 15
  · exact SD.stepG (m := 15) (b := false) hn hp inv w15 (by omega) rfl (Or.inr ⟨rfl, by omega⟩) (Or.inr ⟨rfl, by omega⟩) (fun hk _ => SD.o15 hn z2 ok inv hk (by omega))
  by_cases w16 : tI y n p = 16
  · exact SD.stepG (m := 16) (b := false) hn hp inv w16 (by omega) rfl (Or.inr ⟨rfl, by omega⟩) (Or.inr ⟨rfl, by omega⟩) (fun hk _ => SD.o16 hn z2 ok inv hk (by omega))
  by_cases w24 : tI y n p = 24
  · exact SD.stepG (m := 20) (b := false) hn hp inv w24 (by omega) rfl (Or.inr ⟨rfl, by omega⟩) (Or.inr ⟨rfl, by omega⟩) (fun hk _ => SD.o24 hn z2 ok inv hk (by omega))
  by_cases w22 : tI y n p = 22
  · exact SD.stepG (m := 18) (b := true) hn hp inv w22 (by omega) rfl (Or.inl ⟨rfl, by omega⟩) (Or.inl ⟨rfl, by omega⟩) (fun hk hd => SD.o22 hn z2 ok inv hk (hd rfl) (by omega))
  by_cases w17 : tI y n p = 17
  · refine SD.stepG (m := 17) (b := true) hn hp inv w17 (by omega) rfl (Or.inl ⟨rfl, by omega⟩) (Or.inl ⟨rfl, by omega⟩) (fun hk hd => ?_)
    by_cases v18 : tI y n (tN y n p) = 18
    · exact SD.wUp hn z2 ok inv hk (hd rfl) v18 (by omega)
    by_cases v19 : tI y n (tN y n p) = 19
    · exact SD.wSeen hn z2 ok inv hk (hd rfl) v19 (by omega)
    by_cases v20 : tI y n (tN y n p) = 20
    · exact SD.wCup hn z2 ok inv hk (hd rfl) v20 (by omega)
    by_cases v21 : tI y n (tN y n p) = 21
    · exact SD.wFar hn z2 ok inv hk (hd rfl) v21 (by omega)
    exact SD.wNo hn z2 ok inv hk (hd rfl) (by omega) (by omega)
  have hf := ff_b (y := y) (n := n) (p := p) (v := 2) (by omega)
  by_cases w23 : tI y n p = 23
  · by_cases h0 : 0 < dp
    · exact SD.oEnd hn hp inv w23 h0 (by omega)
    · refine Or.inl ⟨ff y n p 2, p, ⟨hf.1, hf.2, hp⟩, fun x c d I0 I L R Q a K => ?_, fun J0 I L R Q b K => ?_⟩
      · have e9 : I 2 9 = 23 := by rw [a.2.1.w, w23, if_pos (by omega)]; rfl
        have d0 : ¬ (0 : Int32) < I 9 1 := by rw [a.2.2.1.2.2.1, zi_0, nI_ltI (by omega) (by have := inv.1; omega)]; exact h0
        exact ⟨fun _ => ⟨fun z => absurd z d0, fun _ => su_ref (f := 2) a.2.1 (fun I1 u => K I1 (a.uf u).1 (a.uf u).2.1 (a.uf u).2.2)⟩, fun z => absurd e9 z⟩
      · have d0 : I 103 22 = 0 := by rw [b.2.2.1.2.2.1, show dp = 0 by omega]; rfl
        unfold wp_M_dayStep
        refine sm_inW hn b.2.1 ?_
        rw [w23, if_pos (by omega), show rwT.getD 23 25 = 19 from rfl]
        exact ⟨fun z => absurd z (by decide), fun _ => ⟨fun z => absurd z (by decide), fun _ => ⟨fun z => absurd z (by decide), fun _ => ⟨fun z => absurd z (by decide), fun _ => ⟨fun _ => ⟨fun _ => sm_fail (f := 2) b.2.1 (fun I1 u => K I1 (b.mf u).1 (b.mf u).2.1 (b.mf u).2.2), fun z => absurd d0 z⟩, fun z => absurd rfl z⟩⟩⟩⟩⟩
  · have hno : ¬ ((10 ≤ tI y n p ∧ tI y n p ≤ 17) ∨ tI y n p = 22 ∨ tI y n p = 23 ∨ tI y n p = 24) := by omega
    refine Or.inl ⟨ff y n p 2, p, ⟨hf.1, hf.2, hp⟩, fun x c d I0 I L R Q a K => ?_, fun J0 I L R Q b K => ?_⟩
    · have bad : wp_Tokens_refuse I L R 2 2 (fun r7 I11 => Q r7 I11) := su_ref (f := 2) a.2.1 (fun I1 u => K I1 (a.uf u).1 (a.uf u).2.1 (a.uf u).2.2)
      have nw : ∀ w, w < 25 → tI y n p ≠ w → ¬ I 2 9 = nI w := fun w h0 h1 => by
        rw [a.2.1.w]
        by_cases c : tI y n p < 25
        · rw [if_pos c, nI_eq (by omega) (by omega)]; exact h1
        · rw [if_neg c]; exact fun x => (zn_M (n := w) (by omega)).1 x.symm
      refine ⟨fun z => absurd z (nw 23 (by omega) w23), fun _ => ⟨fun z => absurd z (nw 17 (by omega) w17), fun _ => ⟨fun z => absurd z (nw 22 (by omega) w22), fun _ => ⟨fun _ => ⟨fun z => absurd z (nw 24 (by omega) w24), fun _ => ?_⟩, fun z => (by cases z)⟩⟩⟩⟩
      unfold wp_U_within
      rw [a.2.1.w]
      by_cases g0 : tI y n p < 25
      · rw [if_pos g0, zi_10, zi_16, nI_ltI (by omega) (by omega), nI_ltI (by omega) (by omega)]
        exact ⟨fun _ => ⟨fun _ => bad, fun z => (by cases z)⟩, fun z1 => ⟨fun _ => ⟨fun _ => bad, fun z => (by cases z)⟩, fun z2 => absurd hno (by omega)⟩⟩
      · rw [if_neg g0]
        exact ⟨fun _ => ⟨fun _ => bad, fun z => (by cases z)⟩, fun z => absurd (by decide) z⟩
    · have bad : wb_M_dayStep_69 L R 103 Q I := sm_fail (f := 2) b.2.1 (fun I1 u => K I1 (b.mf u).1 (b.mf u).2.1 (b.mf u).2.2)
      unfold wp_M_dayStep
      refine sm_inW hn b.2.1 ?_
      by_cases g0 : tI y n p < 25
      · have lt := rwT_step _ g0 hno
        have l25 := rwT_lt _ g0
        rw [if_pos g0]
        generalize rwT.getD (tI y n p) 25 = m at lt l25
        have ne : ∀ j, j < 100 → (nI m = nI j ↔ m = j) := fun j hj => nI_eq (by omega) (by omega)
        rw [show (17 : Int32) = nI 17 from rfl, show (18 : Int32) = nI 18 from rfl, ne 17 (by omega), ne 18 (by omega)]
        refine ⟨fun z => absurd z (by omega), fun _ => ⟨fun z => absurd z (by omega), fun _ => ?_⟩⟩
        unfold wb_M_dayStep_42
        rw [zi_10, zi_20, nI_ltI (by omega) (by omega), nI_ltI (by omega) (by omega)]
        exact ⟨fun _ => bad, fun z1 => ⟨fun _ => bad, fun z2 => absurd lt (by omega)⟩⟩
      · rw [if_neg g0]
        exact ⟨fun z => absurd z (by decide), fun _ => ⟨fun z => absurd z (by decide), fun _ => ⟨fun _ => bad, fun z => absurd (by decide) z⟩⟩⟩
end
