/-! the call square: both answer alike -/
def si_S (len : Nat) (b : Nat → Int32) (U : am_TI → am_TL → am_TR → (Int32 → am_TI → am_TL → am_TR → Prop) → Prop) (M : am_TI → am_TL → am_TR → (Int32 → am_TI → am_TL → Prop) → Prop) : Prop :=
  ((∀ I L R, tp_U len b I → ∀ Q : Int32 → am_TI → am_TL → am_TR → Prop, Q nM (am_u2 I 0 15 (nI 1)) L R → U I L R Q) ∧ (∀ I L R, tp_M len b I → ∀ Q : Int32 → am_TI → am_TL → Prop, Q nM (am_u2 I 103 2 (nI 1)) L → M I L R Q)) ∨
  (∃ v pl : Nat,
    (∀ t e I L R, tp_U len b I → rs_U L → sq_cd t e → am_rd R 0 12 = t → am_rd R t 5 = e → ∀ Q : Int32 → am_TI → am_TL → am_TR → Prop, (∀ I1 L1, I1 0 15 = nI 9 → I1 2 7 = nI 0 → I1 2 10 = nI v → I1 2 11 = nI pl → fx_U t e I I1 → fx_L t L L1 → Q nM I1 L1 R) → U I L R Q) ∧
    (∀ I L R, tp_M len b I → ∀ Q : Int32 → am_TI → am_TL → Prop, (∀ I1 L1, I1 103 2 = nI 9 → I1 103 10 = nI 0 → I1 103 16 = nI v → I1 103 17 = nI pl → fx_M 0 I I1 → fx_N 0 L L1 → Q nM I1 L1) → M I L R Q)) ∨
  (∃ (ans : Int32) (q' : Nat → Nat), sq_Ok q' ∧
    (∀ c t e I L R, tp_U len b I → rs_U L → sq_cd t e → am_rd R 0 11 = c → am_rd R 0 12 = t → am_rd R t 5 = e → ∀ Q : Int32 → am_TI → am_TL → am_TR → Prop, (∀ I1 L1, sq_U q' t e I1 L1 → I1 e 6 = nI (q' 7 - 1) → I1 0 15 = nI 0 → I1 2 7 = nI 0 → I1 2 10 = nI 0 → I1 2 11 = nM → fx_U t e I I1 → fx_L t L L1 → Q ans I1 L1 (am_u2 (am_u2 R 0 11 (some t)) 0 12 (some c))) → U I L R Q) ∧
    (∀ I L R, tp_M len b I → ∀ Q : Int32 → am_TI → am_TL → Prop, (∀ I1 L1, sq_M q' 0 I1 L1 → I1 103 2 = nI 0 → I1 103 10 = nI 0 → I1 103 16 = nI 0 → I1 103 17 = nM → fx_M 406 I I1 → fx_N 6 L L1 → Q ans I1 L1) → M I L R Q))
section
variable {len : Nat} {b : Nat → Int32}
set_option maxHeartbeats 1000000 in
theorem op_square (h9 : len ≤ 900) (p : Int32) : si_S len b (fun I L R Q => wp_U_square I L R 0 p Q) (fun I L R Q => wp_M_square I L R 103 p Q) := by
  rcases zc p with hp | ⟨n, hn, rfl⟩
  · refine Or.inl ⟨fun I L R h Q K => ?_, fun I L R h Q K => ?_⟩
    · unfold wp_U_square wp_U_within
      refine ⟨fun _ => ⟨fun _ I1 h1 => ?_, fun x => (by cases x)⟩, fun x => absurd hp x⟩
      rw [h1]; exact K
    · unfold wp_M_square wp_M_begins
      refine ⟨fun _ => ⟨fun _ I1 h1 => ?_, fun x => (by cases x)⟩, fun x => absurd hp x⟩
      rw [h1]; exact K
  have n0 : ¬ nI n < 0 := by rw [zi_0, nI_ltI (by omega) (by omega)]; omega
  by_cases g : len < n
  · refine Or.inl ⟨fun I L R h Q K => ?_, fun I L R h Q K => ?_⟩
    · have c1 : I (0 + 2) 7 < nI n := by rw [show I (0 + 2) 7 = nI len from h.1, nI_ltI (by omega) (by omega)]; exact g
      unfold wp_U_square wp_U_within
      refine ⟨fun x => absurd x n0, fun _ => ⟨fun _ => ⟨fun _ I1 h1 => ?_, fun x => (by cases x)⟩, fun x => absurd c1 x⟩⟩
      rw [h1]; exact K
    · have c1 : I 103 10 < nI n := by rw [h.1, nI_ltI (by omega) (by omega)]; exact g
      unfold wp_M_square wp_M_begins
      refine ⟨fun x => absurd x n0, fun _ => ⟨fun _ => ⟨fun _ I1 h1 => ?_, fun x => (by cases x)⟩, fun x => absurd c1 x⟩⟩
      rw [h1]; exact K
  have c1 : ∀ I : am_TI, tp_U len b I → ¬ I (0 + 2) 7 < nI n := fun I h => by
    rw [show I (0 + 2) 7 = nI len from h.1, nI_ltI (by omega) (by omega)]; exact g
  rcases SP.loop (y := fun k => yb (b k)) (n := n) (by omega) (nI n) n qz (fun _ => 0) 0 (tS (fun k => yb (b k)) n 0) 0 (by omega) (by omega) qz_G with ⟨v, pl, hv, a, bb⟩ | ⟨q', f', tp', p', ⟨hg, _⟩, a, bb⟩
  · refine Or.inr (Or.inl ⟨v, pl, fun t e I L R h rs hc ht he Q K => ?_, fun I L R h Q K => ?_⟩)
    · obtain ⟨d1, d2⟩ := id hc
      unfold wp_U_square wp_U_within
      refine ⟨fun x => absurd x n0, fun _ => ⟨fun x => absurd x (c1 I h), fun _ => ⟨fun x => (by cases x), fun _ => ?_⟩⟩⟩
      rw [ht]
      refine su_sqT h rs (by omega) h9 hc he (fun I1 L1 s e10 e11 e6 f l => ⟨n + 1, a t e I1 L1 R _ hc s (fun I2 L2 x1 x2 x3 x4 I3 h3 => ⟨fun _ I4 h4 => ?_, fun x => (by cases x)⟩)⟩)
      have fr : ∀ r k, ¬ (r = 0 ∧ k = 15) → ¬ (r = 2 ∧ k = 7) → I4 r k = I2 r k := fun r k y1 y2 => by
        rw [h4]
        unfold am_u2
        rw [if_neg y1, h3]
        unfold am_u2
        rw [if_neg (by omega)]
      refine K I4 L2 ?_ ?_ ?_ ?_ ?_ ?_
      · rw [h4]; exact am_u2_at _ _ _ _
      · rw [h4, am_u2o (by omega), h3]; exact am_u2_at _ _ _ _
      · rw [fr 2 10 (by omega) (by omega)]; exact x1
      · rw [fr 2 11 (by omega) (by omega)]; exact x2
      · exact fun r k y1 y2 y3 y4 y5 y6 y7 => ((fr r k y1 (by omega)).trans (x3 r k (by omega) (by omega) y6)).trans (f r k y1 y2 y3 y4 y5 y6 y7)
      · exact fun r y1 y2 => (x4 r y2).trans (l r y1)
    · refine sm_sqT h (by omega) h9 (fun I1 s e10 e17 f => ⟨n + 1, bb I1 L R (fun _ I2 L2 => wb_M_square_50 R 103 (nI n) Q I2 L2) s (fun I2 L2 x1 x2 x3 x4 => ⟨fun x => absurd x ?_, fun _ => ?_⟩) (nI n) Q (fun _ _ _ x => x)⟩)
      · rw [x1, zi_0, nI_eq (by omega) (by omega)]; omega
      · unfold wb_M_square_117
        refine sm_taken9 x1 ⟨hv.1, hv.2.1⟩ (K _ L2 (am_u2_at _ _ _ _) ?_ ?_ ?_ ?_ ?_)
        · rw [am_u2_ne _ _ _ _ (by omega), am_u2_ne _ _ _ _ (by omega), x3 _ _ (by omega) (by omega)]; exact e10
        · rw [am_u2_ne _ _ _ _ (by omega), am_u2_at]
        · rw [am_u2_ne _ _ _ _ (by omega), am_u2_ne _ _ _ _ (by omega)]; exact x2
        · intro r k y1 y2 y3 y4
          unfold am_u2
          rw [if_neg (by omega), if_neg (by omega), x3 r k (by omega) (by omega)]
          exact f r k y1 y2 y3 y4
        · exact fun r k y1 => x4 r k (by omega)
  · have ok := hg.1
    have q7 : q' 7 = 0 := hg.2.2.2.1
    refine Or.inr (Or.inr ⟨nI (q' 3), q', ok, fun c t e I L R h rs hc hr ht he Q K => ?_, fun I L R h Q K => ?_⟩)
    · obtain ⟨d1, d2⟩ := id hc
      unfold wp_U_square wp_U_within
      refine ⟨fun x => absurd x n0, fun _ => ⟨fun x => absurd x (c1 I h), fun _ => ⟨fun x => (by cases x), fun _ => ?_⟩⟩⟩
      rw [ht, hr]
      refine su_sqT h rs (by omega) h9 hc he (fun I1 L1 s e10 e11 e6 f l => ⟨n + 1, a t e I1 L1 R _ hc s (fun I2 L2 s2 k2 I3 h3 => ⟨fun x => (by cases x), fun _ R1 hR1 R2 hR2 I4 h4 => ?_⟩)⟩)
      obtain ⟨k10, k11, ku3, ku4⟩ := k2
      have fr : ∀ r k, ¬ (r = 0 ∧ k = 15) → ¬ (r = 2 ∧ k = 7) → I4 r k = I2 r k := fun r k y1 y2 => by
        rw [h4]
        unfold am_u2
        rw [if_neg y1, h3]
        unfold am_u2
        rw [if_neg (by omega)]
      have er : am_rd R2 0 11 = t := by rw [hR2, hR1]; rfl
      have ea : I3 (am_rd R2 0 11) 11 = nI (q' 3) := by
        rw [er, h3, am_u2o (by omega)]; exact s2.2.1.n3
      rw [ea, hR2, hR1]
      refine K I4 L2 (s2.2.1.keep (fun r hr => ?_) rfl) ?_ ?_ ?_ ?_ ?_ ?_ ?_
      · funext k; exact fr r k (by omega) (by omega)
      · rw [fr e 6 (by omega) (by omega), ku3 e 6 (by omega) (by omega) (by omega), e6, q7]
      · rw [h4]; exact am_u2_at _ _ _ _
      · rw [h4, am_u2o (by omega), h3]; exact am_u2_at _ _ _ _
      · rw [fr 2 10 (by omega) (by omega), k10]; exact e10
      · rw [fr 2 11 (by omega) (by omega), k11]; exact e11
      · exact fun r k y1 y2 y3 y4 y5 y6 y7 => ((fr r k y1 (by omega)).trans (ku3 r k (by omega) (by omega) y6)).trans (f r k y1 y2 y3 y4 y5 y6 y7)
      · exact fun r y1 y2 => (ku4 r y2).trans (l r y1)
    · refine sm_sqT h (by omega) h9 (fun I1 s e10 e17 f => ⟨n + 1, bb I1 L R (fun _ I2 L2 => wb_M_square_50 R 103 (nI n) Q I2 L2) s (fun I2 L2 s2 k2 => ⟨fun _ => ⟨407, ?_⟩, fun x => absurd s2.1.2.2.2.2.2.2 x⟩) (nI n) Q (fun _ _ _ x => x)⟩)
      have o7 := ok.2.2.2.2.1
      have o2 := ok.1.2.2.1.1
      have t18 := s2.1.2.2.2.2.2.2
      refine sm_sq59 406 0 I2 (by omega) (fun I3 a3 f3 => ⟨7, sm_sq90 6 0 L2 (by omega) (fun L3 a4 f4 => ?_)⟩)
      unfold wb_M_square_117
      have e4 : I3 (103 + 1) 3 = nI (q' 3) := by
        rw [a3 3 (by omega) (by omega)]
        exact s2.2.1.1 3 (by omega) (by omega)
      rw [e4]
      have m0 : sq_M q' 0 I3 L3 := by
        refine ⟨fun k hk g => ?_, ?_, fun j hj => absurd hj (by omega), fun x hx => ?_⟩
        · rw [Nat.mul_zero, Nat.zero_add, a3 k (by omega) (by omega)]; exact s2.2.1.1 k hk g
        · rw [Nat.mul_zero, Nat.zero_add, a3 7 (by omega) (by omega)]; exact s2.2.1.2.1
        · rw [Nat.mul_zero, Nat.zero_add, a4 x (by omega) (by omega)]; exact s2.2.1.2.2.2 x hx
      refine sm_taken0 (by rw [f3 _ _ (by omega)]; exact t18) (K _ L3 (m0.keep (fun k _ _ => ?_) rfl o7) (am_u2_at _ _ _ _) ?_ ?_ ?_ ?_ ?_)
      · rw [am_u2o (by omega), am_u2o (by omega)]
      · rw [am_u2_ne _ _ _ _ (by omega), am_u2_ne _ _ _ _ (by omega), f3 _ _ (by omega), k2.1 _ _ (by omega) (by omega)]; exact e10
      · rw [am_u2_ne _ _ _ _ (by omega), am_u2_at]
      · rw [am_u2_ne _ _ _ _ (by omega), am_u2_ne _ _ _ _ (by omega), f3 _ _ (by omega), k2.1 _ _ (by omega) (by omega)]; exact e17
      · intro r k y1 y2 y3 y4
        unfold am_u2
        rw [if_neg (by omega), if_neg (by omega), f3 r k (by omega), k2.1 r k (by omega) (by omega)]
        exact f r k y1 y2 y3 (by omega)
      · exact fun r k y1 => (f4 r k (by omega)).trans (k2.2 r k (by omega))
end
