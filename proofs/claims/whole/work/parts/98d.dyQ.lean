/-! the call days: both answer alike -/
def si_D (q : Nat → Nat) (len : Nat) (b : Nat → Int32) (U : am_TI → am_TL → am_TR → (Int32 → am_TI → am_TL → am_TR → Prop) → Prop) (M : am_TI → am_TL → am_TR → (Int32 → am_TI → Prop) → Prop) : Prop :=
  ((∀ I L R, tp_U len b I → ∀ Q : Int32 → am_TI → am_TL → am_TR → Prop, Q nM (am_u2 I 0 15 (nI 1)) L R → U I L R Q) ∧ (∀ I L R, tp_M len b I → ∀ Q : Int32 → am_TI → Prop, Q nM (am_u2 I 103 2 (nI 1)) → M I L R Q)) ∨
  (∃ v pl : Nat,
    (∀ c d x I L R, tp_U len b I → rs_U L → dcx c d x → sq_U q c d I L → am_rd R 0 11 = c → am_rd R 0 13 = x → ∀ Q : Int32 → am_TI → am_TL → am_TR → Prop, (∀ I1 L1, I1 0 15 = nI 9 → I1 2 7 = nI 0 → I1 2 10 = nI v → I1 2 11 = nI pl → fx_U x x I I1 → fx_L x L L1 → Q nM I1 L1 R) → U I L R Q) ∧
    (∀ I L R, tp_M len b I → sq_M q 0 I L → ∀ Q : Int32 → am_TI → Prop, (∀ I1, I1 103 2 = nI 9 → I1 103 10 = nI 0 → I1 103 16 = nI v → I1 103 17 = nI pl → fx_M 0 I I1 → Q nM I1) → M I L R Q)) ∨
  (∃ (ans : Int32) (q' : Nat → Nat), sq_Ok q' ∧
    (∀ c d x I L R, tp_U len b I → rs_U L → dcx c d x → sq_U q c d I L → am_rd R 0 11 = c → am_rd R 0 13 = x → am_rd R c 5 = d → ∀ Q : Int32 → am_TI → am_TL → am_TR → Prop, (∀ I1 L1, sq_U q' c x I1 L1 → I1 x 6 = nI (q' 7 - 1) → I1 0 15 = nI 0 → I1 2 7 = nI 0 → I1 2 10 = nI 0 → I1 2 11 = nM → fx_U x x I I1 → fx_L x L L1 → Q ans I1 L1 (am_u2 (am_u2 R c 5 (some x)) 0 13 (some d))) → U I L R Q) ∧
    (∀ I L R, tp_M len b I → sq_M q 0 I L → ∀ Q : Int32 → am_TI → Prop, (∀ I1, sq_M q' 0 I1 L → I1 103 2 = nI 0 → I1 103 10 = nI 0 → I1 103 16 = nI 0 → I1 103 17 = nM → fx_M 406 I I1 → Q ans I1) → M I L R Q))
section
variable {q : Nat → Nat} {len : Nat} {b : Nat → Int32}
theorem sq_seen_dq {g : Nat → Nat} {s : Nat} (h3 : q 3 ≤ 6) : sq_seen (dq q g s) = sq_seen q := by
  unfold sq_seen
  rw [dq_q (by omega) (by omega)]
  apply zs_cong
  intro i hi
  rw [dq_q (by omega) (by omega)]
/-- the class's square with its new days -/
theorem dA.new {y : Nat → Nat} {n : Nat} {g : Nat → Nat} {s k p : Nat} {op : Nat → Nat} {x c d : Nat} {I I0 I1 : am_TI} {L : am_TL} (h : dA y n q g s s k 0 op p x c d I0 L I) (ok : sq_Ok q) (s60 : s ≤ 60) (e5 : I1 x 5 = nI 1) (f : ∀ r i, ¬ (r = x ∧ i = 5) → ¬ (r = 0 ∧ i = 15) → ¬ (r = 2 ∧ i = 7) → I1 r i = I r i) : sq_U (dq q g s) c x I1 L := by
  obtain ⟨⟨o0, o1, ⟨o2, o3, o4, o5⟩, o6, o8⟩, oH, oD, oN, oY⟩ := id ok
  have sq := h.sq
  obtain ⟨⟨⟨b1, b4⟩, b2, b3⟩, _⟩ := id h.1
  have fr : ∀ r, (c ≤ r ∧ r ≤ c + 5) → I1 r = I r := fun r hr => by funext i; exact f r i (by omega) (by omega) (by omega)
  have z : ∀ i, i < 38 → i ≠ 7 → dq q g s i = q i := fun i a b => dq_q b (by omega)
  refine ⟨?_, fun i hi => ?_, fun i hi => ?_, fun i hi => ?_, ?_, fun _ => ?_, fun j hj => ?_⟩
  · rw [fr c (by omega), z 0 (by omega) (by omega), z 1 (by omega) (by omega), z 2 (by omega) (by omega), z 3 (by omega) (by omega), z 4 (by omega) (by omega), z 5 (by omega) (by omega), z 6 (by omega) (by omega), z 8 (by omega) (by omega), z 9 (by omega) (by omega), sq_seen_dq o3]
    exact sq.1
  · rw [z 3 (by omega) (by omega)] at hi
    rw [fr (c + 2) (by omega), fr (c + 3) (by omega), fr (c + 4) (by omega), z (10 + 4 * i) (by omega) (by omega), z (11 + 4 * i) (by omega) (by omega), z (12 + 4 * i) (by omega) (by omega)]
    exact sq.2.1 i hi
  · rw [z 4 (by omega) (by omega)] at hi
    rw [fr (c + 5) (by omega), z (34 + i) (by omega) (by omega)]
    exact sq.dg hi
  · rw [z 2 (by omega) (by omega)] at hi
    rw [dq_q (by omega) (by omega)]
    exact sq.nm hi
  · rw [dq_7, if_neg (by omega)]; exact e5
  · rw [dq_7, f x 6 (by omega) (by omega) (by omega), h.2.2.1.1]; rfl
  · rw [dq_7] at hj
    have js : j < s := by omega
    obtain ⟨a1, a2, a3, a4, a5⟩ := h.2.2.2 j js
    unfold dy_rowU
    rw [dq_g (i := 38 + 6 * j) (by omega) (by omega), dq_g (i := 39 + 6 * j) (by omega) (by omega), dq_g (i := 40 + 6 * j) (by omega) (by omega), dq_g (i := 42 + 6 * j) (by omega) (by omega), dq_g (i := 43 + 6 * j) (by omega) (by omega), f (x + 1) j (by omega) (by omega) (by omega), f (x + 2) j (by omega) (by omega) (by omega), f (x + 3) j (by omega) (by omega) (by omega), f (x + 4) j (by omega) (by omega) (by omega), f (x + 5) j (by omega) (by omega) (by omega)]
    refine ⟨a1, a2, a3, a4, fun z => ?_⟩
    rcases a5 z with ⟨i, i1, _⟩ | w
    · omega
    · exact w
set_option maxHeartbeats 1000000 in
theorem op_days (ok : sq_Ok q) (h9 : len ≤ 900) (p : Int32) : si_D q len b (fun I L R Q => wp_U_days I L R 0 p Q) (fun I L R Q => wp_M_days I L R 103 p Q) := by
  rcases zc p with hp | ⟨n, hn, rfl⟩
  · refine Or.inl ⟨fun I L R h Q K => ?_, fun I L R h Q K => ?_⟩
    · unfold wp_U_days wp_U_within
      refine ⟨fun _ => ⟨fun _ I1 h1 => ?_, fun x => (by cases x)⟩, fun x => absurd hp x⟩
      rw [h1]; exact K
    · unfold wp_M_days wp_M_begins
      refine ⟨fun _ => ⟨fun _ I1 h1 => ?_, fun x => (by cases x)⟩, fun x => absurd hp x⟩
      rw [h1]; exact K
  have n0 : ¬ nI n < 0 := by rw [zi_0, nI_ltI (by omega) (by omega)]; omega
  by_cases g : len < n
  · refine Or.inl ⟨fun I L R h Q K => ?_, fun I L R h Q K => ?_⟩
    · have c1 : I (0 + 2) 7 < nI n := by rw [show I (0 + 2) 7 = nI len from h.1, nI_ltI (by omega) (by omega)]; exact g
      unfold wp_U_days wp_U_within
      refine ⟨fun x => absurd x n0, fun _ => ⟨fun _ => ⟨fun _ I1 h1 => ?_, fun x => (by cases x)⟩, fun x => absurd c1 x⟩⟩
      rw [h1]; exact K
    · have c1 : I 103 10 < nI n := by rw [h.1, nI_ltI (by omega) (by omega)]; exact g
      unfold wp_M_days wp_M_begins
      refine ⟨fun x => absurd x n0, fun _ => ⟨fun _ => ⟨fun _ I1 h1 => ?_, fun x => (by cases x)⟩, fun x => absurd c1 x⟩⟩
      rw [h1]; exact K
  have c1 : ∀ I : am_TI, tp_U len b I → ¬ I (0 + 2) 7 < nI n := fun I h => by
    rw [show I (0 + 2) 7 = nI len from h.1, nI_ltI (by omega) (by omega)]; exact g
  have c2 : ∀ I : am_TI, tp_M len b I → ¬ I 103 10 < nI n := fun I h => by
    rw [h.1, nI_ltI (by omega) (by omega)]; exact g
  by_cases g3 : n ≤ 300
  rotate_left
  · have m3 : ¬ nI n ≤ 300 := by rw [zi_300, nI_leI (by omega) (by omega)]; exact g3
    refine Or.inl ⟨fun I L R h Q K => ?_, fun I L R h Q K => ?_⟩
    · unfold wp_U_days wp_U_within
      refine ⟨fun x => absurd x n0, fun _ => ⟨fun x => absurd x (c1 I h), fun _ => ⟨fun x => (by cases x), fun _ => ⟨fun x => absurd x m3, fun _ I1 h1 => ?_⟩⟩⟩⟩
      rw [h1]; exact K
    · unfold wp_M_days wp_M_begins
      refine ⟨fun x => absurd x n0, fun _ => ⟨fun x => absurd x (c2 I h), fun _ => ⟨fun x => absurd x m3, fun _ => ⟨fun _ I1 h1 => ?_, fun x => (by cases x)⟩⟩⟩⟩
      rw [h1]; exact K
  have m3 : nI n ≤ 300 := by rw [zi_300, nI_leI (by omega) (by omega)]; exact g3
  /- faults, in both -/
  have fU : ∀ {v pl c d x : Nat} {I I1 : am_TI} {L L1 : am_TL} {R : am_TR} {Q : Int32 → am_TI → am_TL → am_TR → Prop}, dcx c d x → fx_U x x I I1 → ft_L L L1 → (∀ I1 L1, I1 0 15 = nI 9 → I1 2 7 = nI 0 → I1 2 10 = nI v → I1 2 11 = nI pl → fx_U x x I I1 → fx_L x L L1 → Q nM I1 L1 R) → ∀ I2, I2 2 10 = nI v → I2 2 11 = nI pl → dg_U x I1 I2 → ∀ I3, I3 = am_u2 I2 (0 + 2) 7 0 → ∀ I5, I5 = am_u2 I3 0 15 9 → Q (-1) I5 L1 R := by
    intro v pl c d x I I1 L L1 R Q hc f l K I2 x1 x2 x3 I3 h3 I5 h5
    obtain ⟨_, d2, d3⟩ := id hc
    have fr : ∀ r k, ¬ (r = 0 ∧ k = 15) → ¬ (r = 2 ∧ k = 7) → I5 r k = I2 r k := fun r k y1 y2 => by
      rw [h5]
      unfold am_u2
      rw [if_neg y1, h3]
      unfold am_u2
      rw [if_neg (by omega)]
    refine K I5 L1 ?_ ?_ ?_ ?_ ?_ (fun r y1 _ => l r y1)
    · rw [h5]; exact am_u2_at _ _ _ _
    · rw [h5, am_u2o (by omega), h3]; exact am_u2_at _ _ _ _
    · rw [fr 2 10 (by omega) (by omega)]; exact x1
    · rw [fr 2 11 (by omega) (by omega)]; exact x2
    · exact fun r k y1 y2 y3 y4 y5 y6 y7 => ((fr r k y1 (by omega)).trans (x3 r k (by omega) (by omega) (by omega) y6)).trans (f r k y1 y2 y3 y4 y5 y6 y7)
  have fM : ∀ {v pl : Nat} {I I1 : am_TI} {L : am_TL} {R : am_TR} {p1 : Int32} {Q : Int32 → am_TI → Prop}, (0 < v ∧ v < 10) → I1 103 10 = nI 0 → fx_M 0 I I1 → (∀ I1, I1 103 2 = nI 9 → I1 103 10 = nI 0 → I1 103 16 = nI v → I1 103 17 = nI pl → fx_M 0 I I1 → Q nM I1) → ∀ I2, I2 103 18 = nI v → I2 103 17 = nI pl → dg_M I1 I2 → wb_M_days_77 L R 103 p1 Q I2 := by
    intro v pl I I1 L R p1 Q hv e10 f K I2 x1 x2 x3
    refine ⟨fun z => absurd z ?_, fun _ => sm_taken9 x1 hv (K _ (am_u2_at _ _ _ _) ?_ ?_ ?_ ?_)⟩
    · rw [x1, zi_0, nI_eq (by omega) (by omega)]; omega
    · rw [am_u2_ne _ _ _ _ (by omega), am_u2_ne _ _ _ _ (by omega), x3 _ _ (by omega) (by omega) (by omega)]; exact e10
    · rw [am_u2_ne _ _ _ _ (by omega), am_u2_at]
    · rw [am_u2_ne _ _ _ _ (by omega), am_u2_ne _ _ _ _ (by omega)]; exact x2
    · intro r k y1 y2 y3 y4
      unfold am_u2
      rw [if_neg (by omega), if_neg (by omega), x3 r k (by omega) (by omega) (by omega)]
      exact f r k y1 y2 y3 y4
  rcases SD.loop (y := fun k => yb (b k)) (n := n) (q := q) g3 ok (nI n) n (fun _ => 0) 0 0 0 (fun _ => 0) (tS (fun k => yb (b k)) n 0) 0 (by omega) (by omega) dI_0 with ⟨v, pl, hv, a, bb⟩ | ⟨gg, s, k, dp, op, p', ⟨inv, _⟩, a, bb⟩
  · refine Or.inr (Or.inl ⟨v, pl, fun c d x I L R h rs hc sq hr hx Q K => ?_, fun I L R h sq Q K => ?_⟩)
    · unfold wp_U_days wp_U_within
      refine ⟨fun z => absurd z n0, fun _ => ⟨fun z => absurd z (c1 I h), fun _ => ⟨fun z => (by cases z), fun _ => ⟨fun _ => ?_, fun z => absurd m3 z⟩⟩⟩⟩
      rw [hr, hx]
      refine su_dyT h rs (by omega) h9 hc sq (fun I1 L1 s1 e10 e11 f l => ⟨n + 1, a x c d I1 I1 L1 R (fun r I2 => r = false ∧ I2 2 10 = nI v ∧ I2 2 11 = nI pl ∧ dg_U x I1 I2) s1 (fun I2 x1 x2 x3 => ⟨rfl, x1, x2, x3⟩) _ (fun I2 z I3 h3 => ⟨fun _ I5 h5 => fU hc f l K I2 z.2.1 z.2.2.1 z.2.2.2 I3 h3 I5 h5, fun z => (by cases z)⟩) (fun I2 z => absurd z.1 (by decide))⟩)
    · refine sm_dyT h (by omega) h9 g3 ok sq (fun I1 s1 e10 e17 f => ⟨n + 1, bb I1 I1 L R (fun r I2 => I2 103 18 = nI v ∧ I2 103 17 = nI pl ∧ dg_M I1 I2) s1 (fun I2 x1 x2 x3 => ⟨x1, x2, x3⟩) (nI n) Q (fun _ I2 z => ⟨fun w => absurd w ?_, fun _ => fM ⟨hv.1, hv.2.1⟩ e10 f K I2 z.1 z.2.1 z.2.2⟩)⟩)
      rw [z.1, zi_0, nI_eq (by omega) (by omega)]; omega
  obtain ⟨i1, i2, i3⟩ := inv.1
  by_cases d0 : 0 < dp
  · have hf := ff_b (y := fun k => yb (b k)) (n := n) (p := p') (v := 2) (by omega)
    refine Or.inr (Or.inl ⟨ff (fun k => yb (b k)) n p' 2, p', fun c d x I L R h rs hc sq hr hx Q K => ?_, fun I L R h sq Q K => ?_⟩)
    · unfold wp_U_days wp_U_within
      refine ⟨fun z => absurd z n0, fun _ => ⟨fun z => absurd z (c1 I h), fun _ => ⟨fun z => (by cases z), fun _ => ⟨fun _ => ?_, fun z => absurd m3 z⟩⟩⟩⟩
      rw [hr, hx]
      refine su_dyT h rs (by omega) h9 hc sq (fun I1 L1 s1 e10 e11 f l => ⟨n + 1, a x c d I1 I1 L1 R (fun r I2 => r = true ∧ dA (fun k => yb (b k)) n q gg s s k dp op p' x c d I1 L1 I2) s1 (fun I2 x1 => ⟨rfl, x1⟩) _ (fun I2 z => absurd z.1 (by decide)) (fun I2 z => ⟨fun w => absurd w ?_, fun _ => su_ref (f := 2) z.2.2.1 (fun I4 u I3 h3 => ⟨fun _ I5 h5 => fU hc f l K I4 (z.2.uf u).1 (z.2.uf u).2.1 (z.2.uf u).2.2 I3 h3 I5 h5, fun z => (by cases z)⟩)⟩)⟩)
      rw [z.2.2.2.1.2.2.1, zi_0, nI_leI (by omega) (by omega)]; omega
    · refine sm_dyT h (by omega) h9 g3 ok sq (fun I1 s1 e10 e17 f => ⟨n + 1, bb I1 I1 L R (fun r I2 => dB (fun k => yb (b k)) n q gg s k dp op p' I1 L I2) s1 (fun I2 x1 => x1) (nI n) Q (fun _ I2 z => ⟨fun _ => ⟨fun w => absurd w ?_, fun _ => sm_fail (f := 2) z.2.1 (fun I4 u => fM hf e10 f K I4 (z.mf u).1 (z.mf u).2.1 (z.mf u).2.2)⟩, fun w => absurd z.2.1.2.2.2.2.2.2 w⟩)⟩)
      rw [z.2.2.1.2.2.1, zi_0, nI_leI (by omega) (by omega)]; omega
  have ed : dp = 0 := by omega
  subst ed
  have okn := inv.Ok ok
  have s60 : s ≤ 60 := by omega
  refine Or.inr (Or.inr ⟨nI k, dq q gg s, okn, fun c d x I L R h rs hc sq hr hx hd Q K => ?_, fun I L R h sq Q K => ?_⟩)
  · obtain ⟨⟨d1, d4⟩, d2, d3⟩ := id hc
    unfold wp_U_days wp_U_within
    refine ⟨fun z => absurd z n0, fun _ => ⟨fun z => absurd z (c1 I h), fun _ => ⟨fun z => (by cases z), fun _ => ⟨fun _ => ?_, fun z => absurd m3 z⟩⟩⟩⟩
    rw [hr, hx, hd]
    refine su_dyT h rs (by omega) h9 hc sq (fun I1 L1 s1 e10 e11 f l => ⟨n + 1, a x c d I1 I1 L1 R (fun r I2 => r = true ∧ dA (fun k => yb (b k)) n q gg s s k 0 op p' x c d I1 L1 I2) s1 (fun I2 x1 => ⟨rfl, x1⟩) _ (fun I2 z => absurd z.1 (by decide)) (fun I2 z => ⟨fun _ I6 h6 I3 h3 => ⟨fun z => (by cases z), fun _ R1 hR1 R2 hR2 I4 h4 => ?_⟩, fun w => absurd ?_ w⟩)⟩)
    · have a2 := z.2
      have fr : ∀ r i, ¬ (r = x ∧ i = 5) → ¬ (r = 0 ∧ i = 15) → ¬ (r = 2 ∧ i = 7) → I4 r i = I2 r i := fun r i y1 y2 y3 => by
        rw [h4]
        unfold am_u2
        rw [if_neg y2, h3]
        unfold am_u2
        rw [if_neg (by omega), h6]
        unfold am_u2
        rw [if_neg y1]
      have v5 : I4 x 5 = nI 1 := by rw [h4, am_u2o (by omega), h3, am_u2o (by omega), h6]; exact am_u2_at _ _ _ _
      have er : am_rd R2 (am_rd R2 0 11) 5 = x := by
        have e1 : am_rd R2 0 11 = c := by
          rw [hR2, hR1]
          unfold am_rd
          rw [am_u2_ne _ _ _ _ (by omega), am_u2_ne _ _ _ _ (by omega)]
          exact hr
        rw [e1, hR2, hR1]
        unfold am_rd
        rw [am_u2o (by omega), am_u2_at]
        rfl
      have ea : I3 (am_rd R2 (am_rd R2 0 11) 5) 7 = nI k := by
        rw [er, h3, am_u2o (by omega), h6, am_u2_ne _ _ _ _ (by omega)]
        exact a2.2.2.1.2.1
      rw [ea, hR2, hR1]
      refine K I4 L1 (a2.new ok s60 v5 fr) ?_ ?_ ?_ ?_ ?_ ?_ (fun r y1 _ => l r y1)
      · rw [fr x 6 (by omega) (by omega) (by omega), dq_7, a2.2.2.1.1]; rfl
      · rw [h4]; exact am_u2_at _ _ _ _
      · rw [h4, am_u2o (by omega), h3]; exact am_u2_at _ _ _ _
      · rw [fr 2 10 (by omega) (by omega) (by omega), a2.1.2.2 2 10 (by omega) (by omega) (by omega) (by omega)]; exact e10
      · rw [fr 2 11 (by omega) (by omega) (by omega), a2.1.2.2 2 11 (by omega) (by omega) (by omega) (by omega)]; exact e11
      · exact fun r i y1 y2 y3 y4 y5 y6 y7 => ((fr r i (by omega) y1 (by omega)).trans (a2.1.2.2 r i (by omega) (by omega) (by omega) y6)).trans (f r i y1 y2 y3 y4 y5 y6 y7)
    · rw [z.2.2.2.1.2.2.1]; decide
  · refine sm_dyT h (by omega) h9 g3 ok sq (fun I1 s1 e10 e17 f => ⟨n + 1, bb I1 I1 L R (fun r I2 => dB (fun k => yb (b k)) n q gg s k 0 op p' I1 L I2) s1 (fun I2 x1 => x1) (nI n) Q (fun _ I2 z => ⟨fun _ => ⟨fun _ => ⟨fun _ I6 h6 => ⟨361, ?_⟩, fun w => absurd z.2.1.2.2.2.2.2.2 w⟩, fun w => absurd ?_ w⟩, fun w => absurd z.2.1.2.2.2.2.2.2 w⟩)⟩)
    · obtain ⟨⟨z1, z2⟩, z3, ⟨z4, z5, z6, z7⟩, z8⟩ := id z
      have sqz := z.sq ok
      have e6 : I2 (103 + 1) 1631 = nI s := z4
      rw [e6] at h6
      have h6' : I6 = am_u2 I2 104 7 (nI s) := h6
      refine sm_dy102 360 38 I6 (by omega) (by omega) (fun I7 a7 f7 => ?_)
      have g6 : ∀ r i, ¬ (r = 104 ∧ i = 7) → I6 r i = I2 r i := fun r i y => by rw [h6']; unfold am_u2; rw [if_neg y]
      have v7 : I7 104 7 = nI s := by rw [f7 _ _ (by omega), h6', am_u2_at]
      have m0 : sq_M (dq q gg s) 0 I7 L := by
        have o := ok.1.2.2.1
        refine ⟨fun i hi y => ?_, ?_, fun j hj i hi y => ?_, fun t ht => ?_⟩
        · rw [Nat.mul_zero, Nat.zero_add, f7 _ _ (by omega), g6 _ _ (by omega), dq_q y (by omega)]
          exact sqz.nk hi y
        · rw [Nat.mul_zero, Nat.zero_add, v7, dq_7, zn_sub (by omega)]; rfl
        · rw [dq_7] at hj
          rw [Nat.mul_zero, Nat.zero_add, a7 _ (by omega) (by omega), g6 _ _ (by omega), dq_g (by omega) (by omega), show 1624 + (38 + 6 * j + i) = 1662 + 6 * j + i by omega]
          exact z8 j (by omega) i hi y
        · rw [dq_q (by omega) (by omega)] at ht
          rw [dq_q (by omega) (by omega)]
          exact sqz.2.2.2 t ht
      unfold wb_M_days_131
      have e23 : I7 103 23 = nI k := by rw [f7 _ _ (by omega), g6 _ _ (by omega)]; exact z5
      rw [e23]
      refine sm_taken0 (by rw [f7 _ _ (by omega), g6 _ _ (by omega)]; exact z3.2.2.2.2.2.2) (K _ (m0.keep (fun i _ _ => ?_) rfl okn.2.2.2.2.1) (am_u2_at _ _ _ _) ?_ ?_ ?_ ?_)
      · rw [am_u2o (by omega), am_u2o (by omega)]
      · rw [am_u2_ne _ _ _ _ (by omega), am_u2_ne _ _ _ _ (by omega), f7 _ _ (by omega), g6 _ _ (by omega), z2 _ _ (by omega) (by omega) (by omega)]; exact e10
      · rw [am_u2_ne _ _ _ _ (by omega), am_u2_at]
      · rw [am_u2_ne _ _ _ _ (by omega), am_u2_ne _ _ _ _ (by omega), f7 _ _ (by omega), g6 _ _ (by omega), z2 _ _ (by omega) (by omega) (by omega)]; exact e17
      · intro r i y1 y2 y3 y4
        unfold am_u2
        rw [if_neg (by omega), if_neg (by omega), f7 r i (by omega), g6 r i (by omega), z2 r i (by omega) (by omega) (by omega)]
        exact f r i y1 y2 y3 (by omega)
    · rw [z.2.2.1.2.2.1]; decide
end
