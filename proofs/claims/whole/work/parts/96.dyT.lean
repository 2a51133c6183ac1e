/-! the days' text: a tune; a row begins; a block ends -/
def row0 (g : Nat → Nat) (s m : Nat) : Nat → Nat := fun i => if i = 38 + 6 * s then m else if 38 + 6 * s < i ∧ i < 44 + 6 * s then 0 else g i
theorem row0_w {g : Nat → Nat} {s m : Nat} : row0 g s m (38 + 6 * s) = m := if_pos rfl
theorem row0_lt {g : Nat → Nat} {s m i : Nat} (h : i < 38 + 6 * s) : row0 g s m i = g i := by
  unfold row0
  rw [if_neg (by omega), if_neg (by omega)]
theorem row0_z {g : Nat → Nat} {s m i : Nat} (h : 38 + 6 * s < i) (h2 : i < 44 + 6 * s) : row0 g s m i = 0 := by
  unfold row0
  rw [if_neg (by omega), if_pos ⟨h, h2⟩]
section
variable {y : Nat → Nat} {n lb : Nat} {q g g' : Nat → Nat} {s k dp p kM dpM : Nat} {op opM : Nat → Nat} {x c d : Nat} {I I0 I1 J J0 J1 : am_TI} {L : am_TL} {R : am_TR} {w m : Nat} {f1 f2 f3 : Option Nat} {CU : Nat → Nat → Nat → am_TL → am_TR → (Bool → am_TI → Prop) → Bool → am_TI → Prop} {CM : am_TL → am_TR → (Bool → am_TI → Prop) → Bool → am_TI → Prop}
theorem dA1.put1 (h : dA1 y n q g s k dp op w f1 f2 f3 p x c d I0 L I) (v : Nat) : dA1 y n q g s k dp op w (some v) f2 f3 p x c d I0 L (am_u2 I (x + 2) s (nI v)) := by
  obtain ⟨a0, a1, a2, a3, a4, a5⟩ := h
  obtain ⟨⟨⟨b1, b2, b3⟩, _, _⟩, _, ⟨k1, k2, k3, k4⟩, k5⟩ := id a1
  have g2 : ∀ r i, ¬ (r = x + 2 ∧ i = s) → am_u2 I (x + 2) s (nI v) r i = I r i := fun r i z => by unfold am_u2; rw [if_neg z]
  refine ⟨a0, a1.chg (fun r i z1 z2 z3 => g2 r i (by omega)) (by rw [g2 x 6 (by omega)]; exact k1) (by rw [g2 x 7 (by omega)]; exact k2) (by rw [g2 9 1 (by omega)]; exact k3) (fun i hi => by rw [g2 10 i (by omega)]; exact k4 i hi) (fun j hj => (k5 j hj).keep (fun r z1 z2 => g2 r j (by omega))), by rw [g2 (x + 1) s (by omega)]; exact a2, ?_, ?_, ?_⟩
  · intro v2 hv; cases hv; exact am_u2_at _ _ _ _
  · intro v2 hv; rw [g2 (x + 3) s (by omega)]; exact a4 v2 hv
  · intro v2 hv; rw [g2 (x + 4) s (by omega)]; exact a5 v2 hv
theorem SD.tune (ok : sq_Ok q) (hn : n ≤ 900) (hp : p ≤ n) (hs : s < 60) (c0 : ∀ x c d L R Q I1, Q false I1 → CU x c d L R Q false I1) (m0 : ∀ L R Q I1, Q false I1 → CM L R Q false I1) (h : ∀ r, tK y n p = 1 → r < q 2 → SD y n q lb (dA1 y n q g s k dp op w (some r) f2 f3 (tN y n p)) (dB y n q (zu g' (38 + 6 * s + 1) r) (s + 1) kM dpM opM (tN y n p)) (fun x c d I L R Q => CU x c d L R Q true I) (fun I L R Q => CM L R Q true I)) : SD y n q lb (dA1 y n q g s k dp op w f1 f2 f3 p) (dB y n q g' (s + 1) kM dpM opM p) (fun x c d I L R Q => wp_DaysReader_readTune I L R 9 2 c x (fun r I1 => CU x c d L R Q r I1)) (fun I L R Q => wp_M_tuneTo I L R 103 (nI (1662 + 6 * s + 1)) (fun r I1 => CM L R Q r I1)) := by
  have o2 := ok.1.2.2.1.1
  by_cases k1 : tK y n p = 1
  rotate_left
  · have hf := ff_b (y := y) (n := n) (p := p) (v := 2) (by omega)
    refine Or.inl ⟨ff y n p 2, p, ⟨hf.1, hf.2, hp⟩, fun x c d I0 I L R Q a K => ?_, fun J0 I L R Q b K => ?_⟩
    · have a' := a.2.1
      unfold wp_DaysReader_readTune
      exact su_name a'.2.1 (fun z => absurd z k1) (fun _ I1 u => ⟨fun _ => c0 _ _ _ _ _ _ _ (K I1 (a'.uf u).1 (a'.uf u).2.1 (a'.uf u).2.2), fun z => absurd rfl z⟩)
    · unfold wp_M_tuneTo
      refine sm_isName hn b.2.1 ?_
      rw [decide_eq_false k1]
      exact ⟨fun _ => sm_fail (f := 2) b.2.1 (fun I1 u => m0 _ _ _ _ (K I1 (b.mf u).1 (b.mf u).2.1 (b.mf u).2.2)), fun z => (by cases z)⟩
  have hm := tM_w (y := y) (n := n) (p := p) (by omega)
  have k8 := tK_w hm
  have l8 : tE y n p - p ≤ 8 := by
    rcases Nat.lt_or_ge 8 (tE y n p - p) with z | z
    · rw [if_pos z] at k8; omega
    · exact z
  have q40 := tQ_40 hm l8
  have q1' : 0 < tQ y n p := by
    obtain ⟨_, _, z1, z2⟩ := tQ_l hm
    obtain ⟨m, hm2⟩ : ∃ m, tE y n p - p = m + 1 := ⟨tE y n p - p - 1, by omega⟩
    rw [hm2] at z2
    have a := tpk_ge z2
    have b : 0 < 32 ^ m := Nat.pow_pos (by omega)
    unfold tQ
    rw [hm2]; omega
  have q0' : ¬ lN (tQ y n p) = 0 := fun z => by
    have : lN (tQ y n p) = lN 0 := z
    rw [zk_eq (by omega) (by omega)] at this; omega
  obtain ⟨r, hr⟩ := tn_ex q (tQ y n p)
  by_cases hr2 : r < q 2
  · refine (h r k1 hr2).pre (fun x c d I0 I L R Q a K => ?_) (fun J0 I L R Q b K => ?_)
    · unfold wp_DaysReader_readTune
      refine su_name a.2.1.2.1 (fun _ => ⟨fun z => absurd z q0', fun _ => su_tune a.2.1.sq ok q40 hr ?_⟩) (fun z => absurd k1 z)
      rw [if_pos hr2]
      have s60 := a.1
      have e6 : I x 6 - 1 = nI s := by rw [a.2.1.2.2.1.1, zi_1, zn_sub (by omega)]; rfl
      rw [e6, nI_clamp (by omega)]
      refine ⟨fun z => absurd z (fun z => (zn_M (by omega)).1 z), fun _ => ⟨(zn_in (by omega)).2 s60, fun I2 h2 => ?_⟩⟩
      have a2 := a.put1 r
      rw [← h2] at a2
      exact su_adv a2.2.1.2.1 (fun I3 t3 fr => K I3 (a2.tok t3 fr))
    · unfold wp_M_tuneTo
      refine sm_isName hn b.2.1 ?_
      rw [decide_eq_true k1]
      have n2 : I (103 + 1) 2 = nI (q 2) := (b.sq ok).n2
      rw [n2, nI_clamp (by omega)]
      refine ⟨fun z => (by cases z), fun _ => sm_find hn b.2.1 k1 (s := 0) (by omega) (b.sq ok) ok hr ?_⟩
      rw [if_pos hr2]
      refine ⟨(zn_in (by omega)).2 (by omega), fun I2 h2 => ⟨(zn_in (by omega)).2 (by omega), ?_⟩⟩
      have b2 := b.put (j := s) (i := 1) (by omega) (by omega) (by omega) r
      have h2' : I2 = am_u2 I 104 (1662 + 6 * s + 1) (nI r) := h2
      rw [← h2'] at b2
      have e1 : I2 (103 + 1) (1662 + 6 * s + 1) = nI r := by rw [h2']; exact am_u2_at _ _ _ _
      rw [e1]
      exact ⟨fun z => absurd z (fun z => (zn_M (by omega)).1 z), fun _ => sm_ahead hn b2.2.1 (fun I3 t3 fr => K I3 (b2.tok t3 fr))⟩
  · have hf := ff_b (y := y) (n := n) (p := p) (v := 3) (by omega)
    refine Or.inl ⟨ff y n p 3, p, ⟨hf.1, hf.2, hp⟩, fun x c d I0 I L R Q a K => ?_, fun J0 I L R Q b K => ?_⟩
    · have a' := a.2.1
      unfold wp_DaysReader_readTune
      refine su_name a.2.1.2.1 (fun _ => ⟨fun z => absurd z q0', fun _ => su_tune a.2.1.sq ok q40 hr ?_⟩) (fun z => absurd k1 z)
      rw [if_neg hr2]
      exact ⟨fun _ => su_ref (f := 3) a'.2.1 (fun I1 u => c0 _ _ _ _ _ _ _ (K I1 (a'.uf u).1 (a'.uf u).2.1 (a'.uf u).2.2)), fun z => absurd rfl z⟩
    · unfold wp_M_tuneTo
      refine sm_isName hn b.2.1 ?_
      rw [decide_eq_true k1]
      have n2 : I (103 + 1) 2 = nI (q 2) := (b.sq ok).n2
      rw [n2, nI_clamp (by omega)]
      refine ⟨fun z => (by cases z), fun _ => sm_find hn b.2.1 k1 (s := 0) (by omega) (b.sq ok) ok hr ?_⟩
      rw [if_neg hr2]
      refine ⟨(zn_in (by omega)).2 (by omega), fun I2 h2 => ⟨(zn_in (by omega)).2 (by omega), ?_⟩⟩
      have h2' : I2 = am_u2 I 104 (1662 + 6 * s + 1) nM := h2
      have e1 : I2 (103 + 1) (1662 + 6 * s + 1) = nM := by rw [h2']; exact am_u2_at _ _ _ _
      have g2 : ∀ r i, ¬ (r = 104 ∧ i = 1662 + 6 * s + 1) → I2 r i = I r i := fun r i z => by rw [h2']; unfold am_u2; rw [if_neg z]
      rw [e1]
      refine ⟨fun _ => sm_fail (f := 3) (b.2.1.keep (fun i _ => g2 103 i (by omega)) (fun i => g2 110 i (by omega))) (fun I3 u => m0 _ _ _ _ (K I3 u.1 u.2.1 (fun r i z1 z2 z3 => ?_))), fun z => absurd rfl z⟩
      rw [u.2.2 r i (by omega), g2 r i (by omega)]
      exact b.1.2 r i (by omega) z2 z3
/-- a row begins, in the class -/
theorem dR.opn (h : dR g x dp op I w) (s : Nat) : dR g x (dp + 1) (zu op dp s) I w := by
  obtain ⟨a1, a2, a3, a4, a5⟩ := h
  refine ⟨a1, a2, a3, a4, fun z => ?_⟩
  rcases a5 z with ⟨i, i1, i2⟩ | v
  · exact Or.inl ⟨i, by omega, by rw [zu_n (by omega)]; exact i2⟩
  · exact Or.inr v
theorem su_day107 {b : Bool} (h : dA y n q g s s k dp op p x c d I0 L I) (hs : s < 60) (hk : k < 30) (hd : b = true → dp < 3) {Q : Bool → am_TI → Prop} (K : ∀ I1, dA1 y n q g s (k + 1) (dpb b dp) (opb b op dp s) w none none none (tN y n p) x c d I0 L I1 → wb_DaysReader_readStep_157 L R 9 2 c x Q I1 (nI w)) : wb_DaysReader_readStep_107 L R 9 2 c x Q I (nI w) b := by
  obtain ⟨b1, b2, b3⟩ := id h.1.1
  unfold wb_DaysReader_readStep_107 wp_Days_add
  refine su_adv h.2.1 (fun I1 t1 fr => ?_)
  have h1 := h.tok t1 fr
  obtain ⟨_, _, ⟨k1, k2, k3, k4⟩, k5⟩ := id h1
  rw [k1, nI_clamp (by omega)]
  refine ⟨fun z => absurd z (by rw [zi_60, nI_leI (by omega) (by omega)]; omega), fun _ => ⟨(zn_in (by omega)).2 hs, fun I2 h2 I3 h3 I4 h4 => ?_⟩⟩
  have e3 : I2 x 6 + 1 = nI (s + 1) := by rw [h2, am_u2o (by omega), k1, zi_1, nI_add]
  rw [e3] at h3
  have e4 : I3 x 7 + 1 = nI (k + 1) := by rw [h3, am_u2_ne _ _ _ _ (by omega), h2, am_u2o (by omega), k2, zi_1, nI_add]
  rw [e4] at h4
  have g4 : ∀ r i, ¬ (r = x + 1 ∧ i = s) → ¬ (r = x ∧ (i = 6 ∨ i = 7)) → I4 r i = I1 r i := fun r i z1 z2 => by
    rw [h4]
    unfold am_u2
    rw [if_neg (by omega), h3]
    unfold am_u2
    rw [if_neg (by omega), h2]
    unfold am_u2
    rw [if_neg (by omega)]
  have v1 : I4 (x + 1) s = nI w := by rw [h4, am_u2o (by omega), h3, am_u2o (by omega), h2, am_u2_at]
  have v6 : I4 x 6 = nI (s + 1) := by rw [h4, am_u2_ne _ _ _ _ (by omega), h3, am_u2_at]
  have v7 : I4 x 7 = nI (k + 1) := by rw [h4, am_u2_at]
  have v9 : I4 9 1 = nI dp := by rw [g4 9 1 (by omega) (by omega)]; exact k3
  refine ⟨fun z => ?_, fun z => ?_⟩
  · subst z
    exact K I4 ⟨hs, h1.chg (fun r i z1 z2 z3 => g4 r i (by omega) (by omega)) v6 v7 v9 (fun i hi => by rw [g4 10 i (by omega) (by omega)]; exact k4 i hi) (fun j hj => (k5 j hj).keep (fun r z1 z2 => g4 r j (by omega) (by omega))), v1, fun v hv => (by cases hv), fun v hv => (by cases hv), fun v hv => (by cases hv)⟩
  · have d3 := hd z
    subst z
    have e6 : I4 x 6 - 1 = nI s := by rw [v6, zi_1, zn_sub (by omega)]; rfl
    rw [v9, nI_clamp (by omega), e6]
    refine ⟨(zn_in (by omega)).2 d3, fun I7 h7 I8 h8 => K I8 ?_⟩
    have e7 : I7 9 1 + 1 = nI (dp + 1) := by rw [h7, am_u2o (by omega), v9, zi_1, nI_add]
    rw [e7] at h8
    have g8 : ∀ r i, ¬ (r = 9 ∧ i = 1) → ¬ (r = 10 ∧ i = dp) → I8 r i = I4 r i := fun r i z1 z2 => by
      rw [h8]
      unfold am_u2
      rw [if_neg z1, h7]
      unfold am_u2
      rw [if_neg (by omega)]
    refine ⟨hs, h1.chg (fun r i z1 z2 z3 => (g8 r i (by omega) (by omega)).trans (g4 r i (by omega) (by omega))) (by rw [g8 x 6 (by omega) (by omega)]; exact v6) (by rw [g8 x 7 (by omega) (by omega)]; exact v7) (by rw [h8, am_u2_at]; rfl) (fun i hi => ?_) (fun j hj => ?_), by rw [g8 (x + 1) s (by omega) (by omega)]; exact v1, fun v hv => (by cases hv), fun v hv => (by cases hv), fun v hv => (by cases hv)⟩
    · show I8 10 i = nI (zu op dp s i)
      by_cases e : i = dp
      · subst e
        rw [h8, am_u2o (by omega), h7, zu_s]
        exact am_u2_at _ _ _ _
      · have hi2 : i < dp + 1 := hi
        rw [g8 10 i (by omega) (by omega), g4 10 i (by omega) (by omega), zu_n e]
        exact k4 i (by omega)
    · exact ((k5 j hj).opn s).keep (fun r z1 z2 => (g8 r j (by omega) (by omega)).trans (g4 r j (by omega) (by omega)))
/-- a row begins, in the reference -/
theorem sm_dayRow {b : Bool} {kk : Nat} (hn : n ≤ 900) (h : dB y n q g s k dp op p J0 L I) (hs : s < 60) (hm : m < 100) {u : Bool} (hk : nI k + am_b u = nI kk) {Q : Bool → am_TI → Prop} (K : ∀ I1, dB y n q (row0 g s m) (s + 1) kk dp op (tN y n p) J0 L I1 → wp_M_dayOrder I1 L R 103 (nI m) (nI (1662 + 6 * s)) (fun r I6 => dTM b m s L R Q r I6)) : wb_M_dayStep_133 L R 103 Q I (nI m) (nI s) (nI (1662 + 6 * s)) b 103 (nI k) u := by
  obtain ⟨_, _, ⟨k1, k2, k3, k4⟩, k5⟩ := id h
  intro I2 h2
  rw [hk] at h2
  rw [nI_clamp (by omega)]
  refine ⟨(zn_in (by omega)).2 (by omega), fun I3 h3 => ⟨6, ?_⟩⟩
  have g3 : ∀ r i, ¬ (r = 103 ∧ i = 23) → ¬ (r = 104 ∧ i = 1662 + 6 * s) → I3 r i = I r i := fun r i z1 z2 => by
    rw [h3]
    unfold am_u2
    rw [if_neg (by omega), h2]
    unfold am_u2
    rw [if_neg (by omega)]
  have v3 : I3 104 (1662 + 6 * s) = nI m := by rw [h3]; exact am_u2_at _ _ _ _
  have v23 : I3 103 23 = nI kk := by rw [h3, am_u2o (by omega), h2, am_u2_at]
  have go : ∀ f v J, v + f = 6 → 1 ≤ v → (∀ i, 1 ≤ i → i < v → J 104 (1662 + 6 * s + i) = nI 0) → (∀ r i, ¬ (r = 104 ∧ 1662 + 6 * s < i ∧ i < 1662 + 6 * s + 6) → J r i = I3 r i) → wl_M_dayStep_147 L R 103 Q (f + 1) J (nI m) (nI s) (nI (1662 + 6 * s)) b (nI v) := by
    intro f
    induction f with
    | zero =>
      intro v J hv h1 hz hf
      have ev : v = 6 := by omega
      subst ev
      rw [wl_M_dayStep_147]
      refine ⟨fun _ I4 h4 => ?_, fun z => absurd (by decide) z⟩
      have e4 : J (103 + 1) 1631 + 1 = nI (s + 1) := by rw [show J (103 + 1) 1631 = nI s from (hf _ _ (by omega)).trans ((g3 _ _ (by omega) (by omega)).trans k1), zi_1, nI_add]
      rw [e4] at h4
      have g4 : ∀ r i, ¬ (r = 104 ∧ i = 1631) → I4 r i = J r i := fun r i z => by
        rw [h4]
        unfold am_u2
        rw [if_neg (by omega)]
      have b4 : dB y n q (row0 g s m) (s + 1) kk dp op p J0 L I4 := by
        refine h.chg (fun r i z1 z2 z3 => ?_) (by rw [h4]; exact am_u2_at _ _ _ _) ?_ ?_ (fun i hi => ?_) (fun j hj i hi z => ?_)
        · rw [g4 r i (by omega), hf r i (by omega), g3 r i (by omega) (by omega)]
        · rw [g4 _ _ (by omega), hf _ _ (by omega)]; exact v23
        · rw [g4 _ _ (by omega), hf _ _ (by omega), g3 _ _ (by omega) (by omega)]; exact k3
        · rw [g4 _ _ (by omega), hf _ _ (by omega), g3 _ _ (by omega) (by omega)]; exact k4 i hi
        · rw [g4 _ _ (by omega)]
          by_cases ej : j = s
          · subst ej
            by_cases ei : i = 0
            · subst ei
              rw [hf _ _ (by omega), show 38 + 6 * j + 0 = 38 + 6 * j from rfl, row0_w]
              exact v3
            · rw [hz i (by omega) (by omega), row0_z (by omega) (by omega)]
          · rw [hf _ _ (by omega), g3 _ _ (by omega) (by omega), row0_lt (by omega)]
            exact k5 j (by omega) i hi z
      exact sm_ahead hn b4.2.1 (fun I5 t5 fr => K I5 (b4.tok t5 fr))
    | succ f ih =>
      intro v J hv h1 hz hf
      have v5 : ¬ (6 : Int32) ≤ nI v := by rw [show (6 : Int32) = nI 6 from rfl, nI_leI (by omega) (by omega)]; omega
      rw [wl_M_dayStep_147]
      refine ⟨fun z => absurd z v5, fun _ => ?_⟩
      rw [nI_add, nI_clamp (by omega), show nI v + 1 = nI (v + 1) by rw [zi_1, nI_add]]
      refine ⟨(zn_in (by omega)).2 (by omega), fun I13 h13 => ih (v + 1) I13 (by omega) (by omega) (fun i i1 i2 => ?_) (fun r i z => ?_)⟩
      · by_cases e : i = v
        · subst e
          rw [h13]; exact am_u2_at _ _ _ _
        · rw [h13, am_u2_ne _ _ _ _ (by omega)]; exact hz i i1 (by omega)
      · rw [h13]
        unfold am_u2
        rw [if_neg (by omega)]
        exact hf r i z
  exact go 5 1 I3 (by omega) (by omega) (fun i i1 i2 => absurd i1 (by omega)) (fun _ _ _ => rfl)
end
