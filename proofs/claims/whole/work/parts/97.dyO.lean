/-! the days' text: a step's beginning; the orders -/
section
variable {y : Nat → Nat} {n lb : Nat} {q g g' : Nat → Nat} {s k dp p : Nat} {op : Nat → Nat} {x c d : Nat} {I I0 I1 J J0 J1 : am_TI} {L : am_TL} {R : am_TR} {w m : Nat}
theorem su_dayStep {b : Bool} (h : dA y n q g s s k dp op p x c d I0 L I) (inv : dI q g s dp k op) (hw : tI y n p = w) (hb : (b = true ∧ (w = 17 ∨ w = 22)) ∨ (b = false ∧ ((10 ≤ w ∧ w ≤ 16) ∨ w = 24))) {Q : Bool → am_TI → Prop} (K6 : k = 30 → ∀ I1, uf (ff y n p 6) p I I1 → Q false I1) (K7 : k < 30 → b = true → dp = 3 → ∀ I1, uf (ff y n p 7) p I I1 → Q false I1) (K : k < 30 → (b = true → dp < 3) → ∀ I1, dA1 y n q g s (k + 1) (dpb b dp) (opb b op dp s) w none none none (tN y n p) x c d I0 L I1 → wb_DaysReader_readStep_157 L R 9 2 c x Q I1 (nI w)) : wp_DaysReader_readStep I L R 9 2 c x Q := by
  obtain ⟨⟨i1, i2, i3⟩, _⟩ := id inv
  obtain ⟨_, _, ⟨k1, k2, k3, k4⟩, k5⟩ := id h
  have w25 : w < 25 := by omega
  have e9 : I 2 9 = nI w := by rw [h.2.1.w, hw, if_pos w25]
  have main : wb_DaysReader_readStep_71 L R 9 2 c x Q I (nI w) b := by
    unfold wb_DaysReader_readStep_71
    rw [k2, k3, zi_30, show (3 : Int32) = nI 3 from rfl, nI_ltI (by omega) (by omega), nI_ltI (by omega) (by omega)]
    refine ⟨fun z => ⟨fun z2 => su_day107 h (by omega) z (fun z3 => ?_) (K z (fun z3 => ?_)), fun z2 => ⟨fun z3 => su_day107 h (by omega) z (fun _ => z3) (K z (fun _ => z3)), fun z3 => su_ref (f := 7) h.2.1 (K7 z z2 (by omega))⟩⟩, fun z => su_ref (f := 6) h.2.1 (K6 (by omega))⟩
    · rw [z2] at z3; cases z3
    · rw [z2] at z3; cases z3
  have ne : ∀ j, j < 100 → (nI w = nI j ↔ w = j) := fun j hj => nI_eq (by omega) (by omega)
  unfold wp_DaysReader_readStep
  rw [e9, show (23 : Int32) = nI 23 from rfl, show (17 : Int32) = nI 17 from rfl, show (22 : Int32) = nI 22 from rfl, ne 23 (by omega), ne 17 (by omega), ne 22 (by omega)]
  refine ⟨fun z => absurd z (by omega), fun _ => ⟨fun z => ?_, fun z1 => ⟨fun z2 => ?_, fun z2 => ?_⟩⟩⟩
  · have hbt : b = true := by
      rcases hb with ⟨h1, _⟩ | ⟨_, h2⟩
      · exact h1
      · omega
    subst hbt
    exact ⟨fun z => (by cases z), fun _ => main⟩
  · have hbt : b = true := by
      rcases hb with ⟨h1, _⟩ | ⟨_, h2⟩
      · exact h1
      · omega
    subst hbt
    exact ⟨fun z => (by cases z), fun _ => main⟩
  · rcases hb with ⟨h1, h2⟩ | ⟨h1, h2⟩
    · omega
    subst h1
    refine ⟨fun _ => ⟨fun _ => main, fun z3 => ?_⟩, fun z => (by cases z)⟩
    rw [show (24 : Int32) = nI 24 from rfl, ne 24 (by omega)] at z3
    unfold wp_U_within
    rw [zi_10, zi_16, nI_ltI (by omega) (by omega), nI_ltI (by omega) (by omega)]
    exact ⟨fun z => absurd z (by omega), fun _ => ⟨fun z => absurd z (by omega), fun _ => ⟨fun z => (by cases z), fun _ => main⟩⟩⟩
theorem sm_dayStep {b : Bool} (hn : n ≤ 900) (h : dB y n q g s k dp op p J0 L I) (inv : dI q g s dp k op) (hw : tI y n p = w) (w25 : w < 25) (hm : rwT.getD w 25 = m) (hb : (b = true ∧ (m = 17 ∨ m = 18)) ∨ (b = false ∧ ((10 ≤ m ∧ m ≤ 16) ∨ m = 20))) {Q : Bool → am_TI → Prop} (K6 : k = 30 → ∀ I1, mf (ff y n p 6) p I I1 → Q false I1) (K7 : k < 30 → b = true → dp = 3 → ∀ I1, mf (ff y n p 7) p I I1 → Q false I1) (K : k < 30 → (b = true → dp < 3) → ∀ I1, dB y n q (row0 g s m) (s + 1) (k + 1) dp op (tN y n p) J0 L I1 → wp_M_dayOrder I1 L R 103 (nI m) (nI (1662 + 6 * s)) (fun r I6 => dTM b m s L R Q r I6)) : wp_M_dayStep I L R 103 Q := by
  obtain ⟨⟨i1, i2, i3⟩, _⟩ := id inv
  obtain ⟨_, _, ⟨k1, k2, k3, k4⟩, k5⟩ := id h
  have ne : ∀ j, j < 100 → (nI m = nI j ↔ m = j) := fun j hj => nI_eq (by omega) (by omega)
  have m19 : ¬ nI m = 19 := by rw [show (19 : Int32) = nI 19 from rfl, ne 19 (by omega)]; omega
  have m117 : k < 30 → (b = true → dp < 3) → wb_M_dayStep_117 L R 103 Q I (nI m) (nI s) (nI (1662 + 6 * s)) b := fun hk hd => by
    refine ⟨fun z => absurd z m19, fun _ => ?_⟩
    rw [k2]
    exact sm_dayRow (u := true) (kk := k + 1) hn h (by omega) (by omega) (by rw [show am_b true = nI 1 from rfl, nI_add]) (K hk hd)
  have m97 : k < 30 → wb_M_dayStep_97 L R 103 Q I (nI m) (nI s) (nI (1662 + 6 * s)) b := fun hk => by
    unfold wb_M_dayStep_97
    rw [k3, show (3 : Int32) = nI 3 from rfl, nI_eq (by omega) (by omega)]
    refine ⟨fun z => m117 hk (fun z2 => ?_), fun z => ⟨fun z2 => sm_fail (f := 7) h.2.1 (K7 hk z z2), fun z2 => m117 hk (fun _ => by omega)⟩⟩
    rw [z] at z2; cases z2
  have m42 : wb_M_dayStep_42 L R 103 Q I (nI m) (nI s) (nI (1662 + 6 * s)) b := by
    unfold wb_M_dayStep_42 wb_M_dayStep_75
    rw [k2, zi_10, zi_20, zi_30, nI_ltI (by omega) (by omega), nI_ltI (by omega) (by omega), nI_eq (a := k) (by omega) (by omega)]
    exact ⟨fun z => absurd z (by omega), fun _ => ⟨fun z => absurd z (by omega), fun _ => ⟨fun z => absurd z m19, fun _ => ⟨fun z => absurd z m19, fun _ => ⟨fun z => sm_fail (f := 6) h.2.1 (K6 z), fun z => m97 (by omega)⟩⟩⟩⟩⟩
  unfold wp_M_dayStep
  refine sm_inW hn h.2.1 ?_
  rw [hw, if_pos w25, hm, show I (103 + 1) 1631 = nI s from k1, show (1662 : Int32) + 6 * nI s = nI (1662 + 6 * s) by rw [zi_6, zi_1662, pk_mul, nI_add], show (17 : Int32) = nI 17 from rfl, show (18 : Int32) = nI 18 from rfl, ne 17 (by omega), ne 18 (by omega)]
  have bt : m = 17 ∨ m = 18 → b = true := fun z => by
    rcases hb with ⟨h1, _⟩ | ⟨_, h2⟩
    · exact h1
    · omega
  refine ⟨fun z => ?_, fun z => ⟨fun z2 => ?_, fun z2 => ?_⟩⟩
  · have e := bt (Or.inl z)
    subst e
    exact m42
  · have e := bt (Or.inr z2)
    subst e
    exact m42
  · have e : b = false := by
      rcases hb with ⟨_, h1⟩ | ⟨h2, _⟩
      · omega
      · exact h2
    subst e
    exact m42
/-- tails -/
theorem c183_0 (x c : Nat) (L : am_TL) (R : am_TR) (Q : Bool → am_TI → Prop) (I1 : am_TI) (h : Q false I1) : wb_DaysReader_readStep_183 L R 9 2 c x Q I1 false := ⟨fun _ => h, fun z => (by cases z)⟩
theorem dTM_0 {b : Bool} {m s : Nat} (L : am_TL) (R : am_TR) (Q : Bool → am_TI → Prop) (I1 : am_TI) (h : Q false I1) : dTM b m s L R Q false I1 := ⟨fun _ => h, fun z => (by cases z)⟩
/-- a step's end, with the row's numbers told -/
theorem SD.fin (hn : n ≤ 900) (hp : p ≤ n) {b : Bool} {f1 f2 f3 : Option Nat} {W F V G : Nat} (hm : m < 19 ∨ m = 20) (inv : dI q g s dp k op) (hk : k < 30) (hb : b = true → dp < 3) (e : ∀ i, i < 38 + 6 * s → g' i = g i) (gw : g' (38 + 6 * s) = W) (g1 : g' (39 + 6 * s) = F) (g2 : g' (40 + 6 * s) = V) (g3 : g' (43 + 6 * s) = G) (hw : w = dy_w W) (h1 : dW1 W → f1 = some F) (h2 : dW2 W → f2 = some V) (h3 : dW3 W → f3 = some G) (hbb : b = true ↔ (W = 18 ∨ 1700 ≤ W)) (h19 : W ≠ 19) (hj : dJ q g' s) (hlb : lb ≤ p) : SD y n q lb (dA1 y n q g s (k + 1) (dpb b dp) (opb b op dp s) w f1 f2 f3 p) (dB y n q g' (s + 1) (k + 1) dp op p) (fun x c d I L R Q => wb_DaysReader_readStep_183 L R 9 2 c x Q I true) (fun I L R Q => dTM b m s L R Q true I) := by
  have t := tN_ge (y := y) (n := n) (p := p)
  refine SD.tail hn hp hm hb e (by rw [gw]; exact hw) (by rw [gw, g1]; exact h1) (by rw [gw, g2]; exact h2) (by rw [gw, g3]; exact h3) (fun z => ?_) ?_ (by omega)
  · rw [gw] at z
    unfold dW5 at z
    have e : b = true := hbb.2 (by omega)
    subst e
    exact ⟨dp, Nat.lt_succ_self _, zu_s _ _ _⟩
  · cases b with
    | false => exact inv.row hk e hj (by rw [gw]; exact h19) (fun z => by unfold dy_beg at z; rw [gw] at z; exact absurd (hbb.2 z) (by decide))
    | true => exact inv.blk hk e hj (by rw [gw]; exact h19) (by unfold dy_beg; rw [gw]; exact hbb.1 rfl) (hb rfl)
end
