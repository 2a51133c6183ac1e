/-! the days' text: when -/
section
variable {y : Nat → Nat} {n lb : Nat} {q g g' : Nat → Nat} {s k dp p : Nat} {op : Nat → Nat} {x c d : Nat} {I I0 I1 J0 : am_TI} {L : am_TL} {R : am_TR} {w : Nat} {f1 f2 f3 : Option Nat}
theorem dA1.putW (h : dA1 y n q g s k dp op w f1 f2 f3 p x c d I0 L I) (v : Nat) : dA1 y n q g s k dp op v f1 f2 f3 p x c d I0 L (am_u2 I (x + 1) s (nI v)) := by
  obtain ⟨a0, a1, a2, a3, a4, a5⟩ := h
  obtain ⟨⟨⟨b1, b2, b3⟩, _, _⟩, _, ⟨k1, k2, k3, k4⟩, k5⟩ := id a1
  have g2 : ∀ r i, ¬ (r = x + 1 ∧ i = s) → am_u2 I (x + 1) s (nI v) r i = I r i := fun r i z => by unfold am_u2; rw [if_neg z]
  refine ⟨a0, a1.chg (fun r i z1 z2 z3 => g2 r i (by omega)) (by rw [g2 x 6 (by omega)]; exact k1) (by rw [g2 x 7 (by omega)]; exact k2) (by rw [g2 9 1 (by omega)]; exact k3) (fun i hi => by rw [g2 10 i (by omega)]; exact k4 i hi) (fun j hj => (k5 j hj).keep (fun r z1 z2 => g2 r j (by omega))), am_u2_at _ _ _ _, ?_, ?_, ?_⟩
  · intro v2 hv; rw [g2 (x + 2) s (by omega)]; exact a3 v2 hv
  · intro v2 hv; rw [g2 (x + 3) s (by omega)]; exact a4 v2 hv
  · intro v2 hv; rw [g2 (x + 4) s (by omega)]; exact a5 v2 hv
theorem rwT_test : ∀ i, i < 25 → ¬ (18 ≤ i ∧ i ≤ 21) → rwT.getD i 25 < 21 := by decide
theorem SD.wUp (hn : n ≤ 900) (hp : p ≤ n) (ok : sq_Ok q) (inv : dI q g s dp k op) (hk : k < 30) (hd : dp < 3) (hw : tI y n p = 18) (hlb : lb ≤ p) : SD y n q lb (dA1 y n q g s (k + 1) (dpb true dp) (opb true op dp s) 17 none none none p) (dB y n q (row0 g s 17) (s + 1) (k + 1) dp op p) (fun x c d I L R Q => wb_DaysReader_readStep_157 L R 9 2 c x Q I (nI 17)) (fun I L R Q => wp_M_dayOrder I L R 103 (nI 17) (nI (1662 + 6 * s)) (fun r I6 => dTM true 17 s L R Q r I6)) := by
  have s60 : s < 60 := by have := inv.1; omega
  have cl := ok.cells
  have oo := ok.1.2.2.1
  have t1 := tN_ge (y := y) (n := n) (p := p)
  have t2 := tN_le (y := y) hp
  have t3 := tN_ge (y := y) (n := n) (p := tN y n p)
  have t4 := tN_le (y := y) t2
  refine SD.pre (A1 := dA1 y n q g s (k + 1) (dpb true dp) (opb true op dp s) 18 none none none (tN y n p)) (B1 := dB y n q (zu (row0 g s 17) (38 + 6 * s + 0) 1721) (s + 1) (k + 1) dp op (tN y n p)) (U1 := fun x c d I L R Q => wp_DaysReader_readFirst I L R 9 2 (nI 0) (nI (q 4) - nI 1) x (fun r I1 => wb_DaysReader_readStep_183 L R 9 2 c x Q I1 r)) (M1 := fun I L R Q => wp_M_number I L R 103 (nI (1662 + 6 * s + 1)) (nI 0) (nI (q 4) - nI 1) (fun r I1 => dTM true 17 s L R Q r I1)) (fun x c d I0 I L R Q a K => ?_) (fun J0 I L R Q b K => ?_) ?_
  · have e9 : I 2 9 = nI 18 := by rw [a.2.1.2.1.w, hw, if_pos (by omega)]
    refine ⟨fun _ => ?_, fun z => absurd rfl z⟩
    unfold wp_DaysReader_readTest wp_U_within
    rw [e9]
    refine ⟨fun z => absurd z (by decide), fun _ => ⟨fun z => absurd z (by decide), fun _ => ⟨fun z => (by cases z), fun _ => su_adv a.2.1.2.1 (fun I1 t1 fr => ?_)⟩⟩⟩
    have a1 := a.tok t1 fr
    have e6 : I1 x 6 - 1 = nI s := by rw [a1.2.1.2.2.1.1, zi_1, zn_sub (by omega)]; rfl
    rw [e6, nI_clamp (by omega)]
    refine ⟨(zn_in (by omega)).2 s60, fun I2 h2 => ?_⟩
    have a2 := a1.putW 18
    rw [← h2] at a2
    have h := K I2 a2
    rw [← a2.2.1.sq.n4] at h
    exact ⟨fun _ => h, fun z => absurd z (by decide), fun z => absurd z (by decide), fun z _ _ => absurd rfl z⟩
  · have h : ∀ I1, dB y n q (zu (row0 g s 17) (38 + 6 * s + 0) 1721) (s + 1) (k + 1) dp op (tN y n p) J0 L I1 → (wp_M_number I1 L R 103 (nI (1662 + 6 * s + 1)) (nI 0) (nI (q 4) - nI 1) (fun r I1 => dTM true 17 s L R Q r I1)) := K
    have main : wp_M_test I L R 103 (nI (1662 + 6 * s)) (fun r6 I6 => dTM true 17 s L R Q r6 I6) := by
      unfold wp_M_test
      refine sm_inW hn b.2.1 ?_
      rw [hw, if_pos (by omega), show rwT.getD 18 25 = 21 from rfl, nI_clamp (by omega)]
      refine ⟨fun _ => ⟨(zn_in (by omega)).2 (by omega), fun I1 h1 => ?_⟩, fun z => absurd (by decide) z⟩
      have b1 : dB y n q (zu (row0 g s 17) (38 + 6 * s + 0) 1721) (s + 1) (k + 1) dp op p J0 L I1 := by
        rw [h1]
        exact b.put (j := s) (i := 0) (by omega) (by omega) (by omega) 1721
      refine sm_ahead hn b1.2.1 (fun I2 t2 fr => ?_)
      have b2 := b1.tok t2 fr
      have h := h I2 b2
      rw [← (b2.sq ok).n4, ← nI_add] at h
      exact ⟨fun _ => h, fun z => absurd rfl z⟩
    exact ⟨fun z => absurd z (by decide), fun z => absurd z (by decide), fun z => absurd z (by decide), fun z => absurd z (by decide), fun z => absurd z (by decide), fun z => absurd z (by decide), fun z => absurd z (by decide), fun _ => main, fun z => absurd z (by decide), fun _ _ _ _ _ _ _ z _ => absurd rfl z⟩
  refine SD.first hn t2 s60 (by omega) (by omega) (fun x c d L R Q I1 h => c183_0 x c L R Q I1 h) (fun L R Q I1 h => dTM_0 L R Q I1 h) (fun c1 c2 c3 => ?_)
  have gw : (zu (zu (row0 g s 17) (38 + 6 * s + 0) (1721)) (38 + 6 * s + 1) (tW y n (tN y n p))) (38 + 6 * s) = 1721 := (by unfold zu; rw [if_neg (by omega), if_pos (by omega)])
  have g1 : (zu (zu (row0 g s 17) (38 + 6 * s + 0) (1721)) (38 + 6 * s + 1) (tW y n (tN y n p))) (39 + 6 * s) = tW y n (tN y n p) := (by unfold zu; rw [if_pos (by omega)])
  have g2 : (zu (zu (row0 g s 17) (38 + 6 * s + 0) (1721)) (38 + 6 * s + 1) (tW y n (tN y n p))) (40 + 6 * s) = 0 := (by unfold zu; rw [if_neg (by omega), if_neg (by omega)]; exact row0_z (by omega) (by omega))
  have g3 : (zu (zu (row0 g s 17) (38 + 6 * s + 0) (1721)) (38 + 6 * s + 1) (tW y n (tN y n p))) (43 + 6 * s) = 0 := (by unfold zu; rw [if_neg (by omega), if_neg (by omega)]; exact row0_z (by omega) (by omega))
  exact SD.fin hn t4 (by omega) inv hk (fun _ => hd) (fun i hi => by unfold zu; rw [if_neg (by omega), if_neg (by omega)]; exact row0_lt hi) gw g1 g2 g3 (by decide) (fun _ => rfl) (fun z => (by unfold dW2 at z; omega)) (fun z => (by unfold dW3 at z; omega)) (by decide) (by decide) (by
      unfold dJ
      rw [gw, g1, g2, g3]
      omega) (by omega)
theorem SD.wSeen (hn : n ≤ 900) (hp : p ≤ n) (ok : sq_Ok q) (inv : dI q g s dp k op) (hk : k < 30) (hd : dp < 3) (hw : tI y n p = 19) (hlb : lb ≤ p) : SD y n q lb (dA1 y n q g s (k + 1) (dpb true dp) (opb true op dp s) 17 none none none p) (dB y n q (row0 g s 17) (s + 1) (k + 1) dp op p) (fun x c d I L R Q => wb_DaysReader_readStep_157 L R 9 2 c x Q I (nI 17)) (fun I L R Q => wp_M_dayOrder I L R 103 (nI 17) (nI (1662 + 6 * s)) (fun r I6 => dTM true 17 s L R Q r I6)) := by
  have s60 : s < 60 := by have := inv.1; omega
  have cl := ok.cells
  have oo := ok.1.2.2.1
  have t1 := tN_ge (y := y) (n := n) (p := p)
  have t2 := tN_le (y := y) hp
  have t3 := tN_ge (y := y) (n := n) (p := tN y n p)
  have t4 := tN_le (y := y) t2
  refine SD.pre (A1 := dA1 y n q g s (k + 1) (dpb true dp) (opb true op dp s) 19 none none none (tN y n p)) (B1 := dB y n q (zu (row0 g s 17) (38 + 6 * s + 0) 1722) (s + 1) (k + 1) dp op (tN y n p)) (U1 := fun x c d I L R Q => wp_DaysReader_readFirst I L R 9 2 (nI 0) (nI (q 3) - nI 1) x (fun r I1 => wb_DaysReader_readStep_183 L R 9 2 c x Q I1 r)) (M1 := fun I L R Q => wp_M_number I L R 103 (nI (1662 + 6 * s + 1)) (nI 0) (nI (q 3) - nI 1) (fun r I1 => (r = false → dTM true 17 s L R Q false I1) ∧ (r = true → wb_M_test_75 L R 103 (nI (1662 + 6 * s)) (fun r I1 => dTM true 17 s L R Q r I1) I1 (nI 22)))) (fun x c d I0 I L R Q a K => ?_) (fun J0 I L R Q b K => ?_) ?_
  · have e9 : I 2 9 = nI 19 := by rw [a.2.1.2.1.w, hw, if_pos (by omega)]
    refine ⟨fun _ => ?_, fun z => absurd rfl z⟩
    unfold wp_DaysReader_readTest wp_U_within
    rw [e9]
    refine ⟨fun z => absurd z (by decide), fun _ => ⟨fun z => absurd z (by decide), fun _ => ⟨fun z => (by cases z), fun _ => su_adv a.2.1.2.1 (fun I1 t1 fr => ?_)⟩⟩⟩
    have a1 := a.tok t1 fr
    have e6 : I1 x 6 - 1 = nI s := by rw [a1.2.1.2.2.1.1, zi_1, zn_sub (by omega)]; rfl
    rw [e6, nI_clamp (by omega)]
    refine ⟨(zn_in (by omega)).2 s60, fun I2 h2 => ?_⟩
    have a2 := a1.putW 19
    rw [← h2] at a2
    have h := K I2 a2
    rw [← a2.2.1.sq.n3] at h
    exact ⟨fun z => absurd z (by decide), fun _ => h, fun z => absurd z (by decide), fun _ z _ => absurd rfl z⟩
  · have h : ∀ I1, dB y n q (zu (row0 g s 17) (38 + 6 * s + 0) 1722) (s + 1) (k + 1) dp op (tN y n p) J0 L I1 → (wp_M_number I1 L R 103 (nI (1662 + 6 * s + 1)) (nI 0) (nI (q 3) - nI 1) (fun r I1 => (r = false → dTM true 17 s L R Q false I1) ∧ (r = true → wb_M_test_75 L R 103 (nI (1662 + 6 * s)) (fun r I1 => dTM true 17 s L R Q r I1) I1 (nI 22)))) := K
    have main : wp_M_test I L R 103 (nI (1662 + 6 * s)) (fun r6 I6 => dTM true 17 s L R Q r6 I6) := by
      unfold wp_M_test
      refine sm_inW hn b.2.1 ?_
      rw [hw, if_pos (by omega), show rwT.getD 19 25 = 22 from rfl, nI_clamp (by omega)]
      refine ⟨fun _ => ⟨(zn_in (by omega)).2 (by omega), fun I1 h1 => ?_⟩, fun z => absurd (by decide) z⟩
      have b1 : dB y n q (zu (row0 g s 17) (38 + 6 * s + 0) 1722) (s + 1) (k + 1) dp op p J0 L I1 := by
        rw [h1]
        exact b.put (j := s) (i := 0) (by omega) (by omega) (by omega) 1722
      refine sm_ahead hn b1.2.1 (fun I2 t2 fr => ?_)
      have b2 := b1.tok t2 fr
      have h := h I2 b2
      have h := sm_dayHear ok b2 (p1 := nI (1662 + 6 * s) + 1) (nI_add _ _) h
      exact ⟨fun z => absurd z (by decide), fun _ => ⟨fun z => absurd z (by decide), fun _ => h⟩⟩
    exact ⟨fun z => absurd z (by decide), fun z => absurd z (by decide), fun z => absurd z (by decide), fun z => absurd z (by decide), fun z => absurd z (by decide), fun z => absurd z (by decide), fun z => absurd z (by decide), fun _ => main, fun z => absurd z (by decide), fun _ _ _ _ _ _ _ z _ => absurd rfl z⟩
  refine SD.first hn t2 s60 (by omega) (by omega) (fun x c d L R Q I1 h => c183_0 x c L R Q I1 h) (fun L R Q I1 h => ⟨fun _ => dTM_0 L R Q I1 h, fun z => (by cases z)⟩) (fun c1 c2 c3 => SD.imp (U1 := fun x c d I L R Q => wb_DaysReader_readStep_183 L R 9 2 c x Q I true) (M1 := fun I L R Q => dTM true 17 s L R Q true I) (fun x c d I0 I L R Q a h => h) (fun J0 I L R Q b h => ⟨fun z => (by cases z), fun _ => ⟨fun _ => h, fun z => absurd rfl z⟩⟩) ?_)
  have gw : (zu (zu (row0 g s 17) (38 + 6 * s + 0) (1722)) (38 + 6 * s + 1) (tW y n (tN y n p))) (38 + 6 * s) = 1722 := (by unfold zu; rw [if_neg (by omega), if_pos (by omega)])
  have g1 : (zu (zu (row0 g s 17) (38 + 6 * s + 0) (1722)) (38 + 6 * s + 1) (tW y n (tN y n p))) (39 + 6 * s) = tW y n (tN y n p) := (by unfold zu; rw [if_pos (by omega)])
  have g2 : (zu (zu (row0 g s 17) (38 + 6 * s + 0) (1722)) (38 + 6 * s + 1) (tW y n (tN y n p))) (40 + 6 * s) = 0 := (by unfold zu; rw [if_neg (by omega), if_neg (by omega)]; exact row0_z (by omega) (by omega))
  have g3 : (zu (zu (row0 g s 17) (38 + 6 * s + 0) (1722)) (38 + 6 * s + 1) (tW y n (tN y n p))) (43 + 6 * s) = 0 := (by unfold zu; rw [if_neg (by omega), if_neg (by omega)]; exact row0_z (by omega) (by omega))
  exact SD.fin hn t4 (by omega) inv hk (fun _ => hd) (fun i hi => by unfold zu; rw [if_neg (by omega), if_neg (by omega)]; exact row0_lt hi) gw g1 g2 g3 (by decide) (fun _ => rfl) (fun z => (by unfold dW2 at z; omega)) (fun z => (by unfold dW3 at z; omega)) (by decide) (by decide) (by
      unfold dJ
      rw [gw, g1, g2, g3]
      omega) (by omega)
theorem SD.wCup (hn : n ≤ 900) (hp : p ≤ n) (ok : sq_Ok q) (inv : dI q g s dp k op) (hk : k < 30) (hd : dp < 3) (hw : tI y n p = 20) (hlb : lb ≤ p) : SD y n q lb (dA1 y n q g s (k + 1) (dpb true dp) (opb true op dp s) 17 none none none p) (dB y n q (row0 g s 17) (s + 1) (k + 1) dp op p) (fun x c d I L R Q => wb_DaysReader_readStep_157 L R 9 2 c x Q I (nI 17)) (fun I L R Q => wp_M_dayOrder I L R 103 (nI 17) (nI (1662 + 6 * s)) (fun r I6 => dTM true 17 s L R Q r I6)) := by
  have s60 : s < 60 := by have := inv.1; omega
  have cl := ok.cells
  have oo := ok.1.2.2.1
  have t1 := tN_ge (y := y) (n := n) (p := p)
  have t2 := tN_le (y := y) hp
  have t3 := tN_ge (y := y) (n := n) (p := tN y n p)
  have t4 := tN_le (y := y) t2
  refine SD.pre (A1 := dA1 y n q g s (k + 1) (dpb true dp) (opb true op dp s) 20 none none none (tN y n p)) (B1 := dB y n q (zu (row0 g s 17) (38 + 6 * s + 0) 1723) (s + 1) (k + 1) dp op (tN y n p)) (U1 := fun x c d I L R Q => wp_DaysReader_readCompares I L R 9 2 x (fun r I1 => (r = false → wb_DaysReader_readStep_183 L R 9 2 c x Q I1 false) ∧ (r = true → wp_DaysReader_readSecond I1 L R 9 2 0 9999 x (fun r I1 => (r = false → wb_DaysReader_readStep_183 L R 9 2 c x Q I1 false) ∧ (r = true → wb_DaysReader_readStep_183 L R 9 2 c x Q I1 true))))) (M1 := fun I L R Q => wb_M_test_75 L R 103 (nI (1662 + 6 * s)) (fun r I1 => dTM true 17 s L R Q r I1) I (nI 23)) (fun x c d I0 I L R Q a K => ?_) (fun J0 I L R Q b K => ?_) ?_
  · have e9 : I 2 9 = nI 20 := by rw [a.2.1.2.1.w, hw, if_pos (by omega)]
    refine ⟨fun _ => ?_, fun z => absurd rfl z⟩
    unfold wp_DaysReader_readTest wp_U_within
    rw [e9]
    refine ⟨fun z => absurd z (by decide), fun _ => ⟨fun z => absurd z (by decide), fun _ => ⟨fun z => (by cases z), fun _ => su_adv a.2.1.2.1 (fun I1 t1 fr => ?_)⟩⟩⟩
    have a1 := a.tok t1 fr
    have e6 : I1 x 6 - 1 = nI s := by rw [a1.2.1.2.2.1.1, zi_1, zn_sub (by omega)]; rfl
    rw [e6, nI_clamp (by omega)]
    refine ⟨(zn_in (by omega)).2 s60, fun I2 h2 => ?_⟩
    have a2 := a1.putW 20
    rw [← h2] at a2
    have h := K I2 a2
    exact ⟨fun z => absurd z (by decide), fun z => absurd z (by decide), fun _ => h, fun _ _ z => absurd rfl z⟩
  · have h : ∀ I1, dB y n q (zu (row0 g s 17) (38 + 6 * s + 0) 1723) (s + 1) (k + 1) dp op (tN y n p) J0 L I1 → (wb_M_test_75 L R 103 (nI (1662 + 6 * s)) (fun r I1 => dTM true 17 s L R Q r I1) I1 (nI 23)) := K
    have main : wp_M_test I L R 103 (nI (1662 + 6 * s)) (fun r6 I6 => dTM true 17 s L R Q r6 I6) := by
      unfold wp_M_test
      refine sm_inW hn b.2.1 ?_
      rw [hw, if_pos (by omega), show rwT.getD 20 25 = 23 from rfl, nI_clamp (by omega)]
      refine ⟨fun _ => ⟨(zn_in (by omega)).2 (by omega), fun I1 h1 => ?_⟩, fun z => absurd (by decide) z⟩
      have b1 : dB y n q (zu (row0 g s 17) (38 + 6 * s + 0) 1723) (s + 1) (k + 1) dp op p J0 L I1 := by
        rw [h1]
        exact b.put (j := s) (i := 0) (by omega) (by omega) (by omega) 1723
      refine sm_ahead hn b1.2.1 (fun I2 t2 fr => ?_)
      have b2 := b1.tok t2 fr
      have h := h I2 b2
      exact ⟨fun z => absurd z (by decide), fun _ => ⟨fun _ => h, fun z => absurd rfl z⟩⟩
    exact ⟨fun z => absurd z (by decide), fun z => absurd z (by decide), fun z => absurd z (by decide), fun z => absurd z (by decide), fun z => absurd z (by decide), fun z => absurd z (by decide), fun z => absurd z (by decide), fun _ => main, fun z => absurd z (by decide), fun _ _ _ _ _ _ _ z _ => absurd rfl z⟩
  have t5 := tN_ge (y := y) (n := n) (p := tN y n (tN y n p))
  have t6 := tN_le (y := y) t4
  refine SD.cmp (m := 23) hn t2 s60 (by omega) (fun x c d L R Q I1 h => ⟨fun _ => c183_0 x c L R Q I1 h, fun z => (by cases z)⟩) (fun c1 c2 => SD.imp (U1 := fun x c d I L R Q => wp_DaysReader_readSecond I L R 9 2 (nI 0) (nI (10000) - nI 1) x (fun r I1 => (r = false → wb_DaysReader_readStep_183 L R 9 2 c x Q I1 false) ∧ (r = true → wb_DaysReader_readStep_183 L R 9 2 c x Q I1 true))) (M1 := fun I L R Q => wp_M_number I L R 103 (nI (1662 + 6 * s + 2)) (nI 0) (nI (10000) - nI 1) (fun r I1 => dTM true 17 s L R Q r I1)) (fun x c d I0 I L R Q a h => ⟨fun z => (by cases z), fun _ => h⟩) (fun J0 I L R Q b h => h) (SD.second hn t4 s60 (by omega) (by omega) (fun x c d L R Q I1 h => ⟨fun _ => c183_0 x c L R Q I1 h, fun z => (by cases z)⟩) (fun L R Q I1 h => dTM_0 L R Q I1 h) (fun c7 c8 c9 => SD.imp (U1 := fun x c d I L R Q => wb_DaysReader_readStep_183 L R 9 2 c x Q I true) (M1 := fun I L R Q => dTM true 17 s L R Q true I) (fun x c d I0 I L R Q a h => ⟨fun z => (by cases z), fun _ => h⟩) (fun J0 I L R Q b h => h) ?_))) (fun L R Q I1 h => dTM_0 L R Q I1 h)
  have g0 := tW_5 c1
  have gw : (zu (zu (zu (row0 g s 17) (38 + 6 * s + 0) (1723)) (38 + 6 * s + 5) (tW y n (tN y n p))) (38 + 6 * s + 2) (tW y n (tN y n (tN y n p)))) (38 + 6 * s) = 1723 := (by unfold zu; rw [if_neg (by omega), if_neg (by omega), if_pos (by omega)])
  have g1 : (zu (zu (zu (row0 g s 17) (38 + 6 * s + 0) (1723)) (38 + 6 * s + 5) (tW y n (tN y n p))) (38 + 6 * s + 2) (tW y n (tN y n (tN y n p)))) (39 + 6 * s) = 0 := (by unfold zu; rw [if_neg (by omega), if_neg (by omega), if_neg (by omega)]; exact row0_z (by omega) (by omega))
  have g2 : (zu (zu (zu (row0 g s 17) (38 + 6 * s + 0) (1723)) (38 + 6 * s + 5) (tW y n (tN y n p))) (38 + 6 * s + 2) (tW y n (tN y n (tN y n p)))) (40 + 6 * s) = tW y n (tN y n (tN y n p)) := (by unfold zu; rw [if_pos (by omega)])
  have g3 : (zu (zu (zu (row0 g s 17) (38 + 6 * s + 0) (1723)) (38 + 6 * s + 5) (tW y n (tN y n p))) (38 + 6 * s + 2) (tW y n (tN y n (tN y n p)))) (43 + 6 * s) = tW y n (tN y n p) := (by unfold zu; rw [if_neg (by omega), if_pos (by omega)])
  exact SD.fin hn t6 (by omega) inv hk (fun _ => hd) (fun i hi => by unfold zu; rw [if_neg (by omega), if_neg (by omega), if_neg (by omega)]; exact row0_lt hi) gw g1 g2 g3 (by decide) (fun z => (by unfold dW1 at z; omega)) (fun _ => rfl) (fun _ => rfl) (by decide) (by decide) (by
      unfold dJ
      rw [gw, g1, g2, g3]
      omega) (by omega)
theorem SD.wFar (hn : n ≤ 900) (hp : p ≤ n) (ok : sq_Ok q) (inv : dI q g s dp k op) (hk : k < 30) (hd : dp < 3) (hw : tI y n p = 21) (hlb : lb ≤ p) : SD y n q lb (dA1 y n q g s (k + 1) (dpb true dp) (opb true op dp s) 17 none none none p) (dB y n q (row0 g s 17) (s + 1) (k + 1) dp op p) (fun x c d I L R Q => wb_DaysReader_readStep_157 L R 9 2 c x Q I (nI 17)) (fun I L R Q => wp_M_dayOrder I L R 103 (nI 17) (nI (1662 + 6 * s)) (fun r I6 => dTM true 17 s L R Q r I6)) := by
  have s60 : s < 60 := by have := inv.1; omega
  have cl := ok.cells
  have oo := ok.1.2.2.1
  have t1 := tN_ge (y := y) (n := n) (p := p)
  have t2 := tN_le (y := y) hp
  have t3 := tN_ge (y := y) (n := n) (p := tN y n p)
  have t4 := tN_le (y := y) t2
  refine SD.pre (A1 := dA1 y n q g s (k + 1) (dpb true dp) (opb true op dp s) 21 none none none (tN y n p)) (B1 := dB y n q (zu (row0 g s 17) (38 + 6 * s + 0) 1724) (s + 1) (k + 1) dp op (tN y n p)) (U1 := fun x c d I L R Q => wp_DaysReader_readFirst I L R 9 2 (nI 0) (nI (q 3) - nI 1) x (fun r I1 => (r = false → wb_DaysReader_readStep_183 L R 9 2 c x Q I1 false) ∧ (r = true → wp_DaysReader_readCompares I1 L R 9 2 x (fun r I1 => (r = false → wb_DaysReader_readStep_183 L R 9 2 c x Q I1 false) ∧ (r = true → wp_DaysReader_readSecond I1 L R 9 2 0 8 x (fun r I1 => (r = false → wb_DaysReader_readStep_183 L R 9 2 c x Q I1 false) ∧ (r = true → wb_DaysReader_readStep_183 L R 9 2 c x Q I1 true))))))) (M1 := fun I L R Q => wp_M_number I L R 103 (nI (1662 + 6 * s + 1)) (nI 0) (nI (q 3) - nI 1) (fun r I1 => (r = false → dTM true 17 s L R Q false I1) ∧ (r = true → wb_M_test_75 L R 103 (nI (1662 + 6 * s)) (fun r I1 => dTM true 17 s L R Q r I1) I1 (nI 24)))) (fun x c d I0 I L R Q a K => ?_) (fun J0 I L R Q b K => ?_) ?_
  · have e9 : I 2 9 = nI 21 := by rw [a.2.1.2.1.w, hw, if_pos (by omega)]
    refine ⟨fun _ => ?_, fun z => absurd rfl z⟩
    unfold wp_DaysReader_readTest wp_U_within
    rw [e9]
    refine ⟨fun z => absurd z (by decide), fun _ => ⟨fun z => absurd z (by decide), fun _ => ⟨fun z => (by cases z), fun _ => su_adv a.2.1.2.1 (fun I1 t1 fr => ?_)⟩⟩⟩
    have a1 := a.tok t1 fr
    have e6 : I1 x 6 - 1 = nI s := by rw [a1.2.1.2.2.1.1, zi_1, zn_sub (by omega)]; rfl
    rw [e6, nI_clamp (by omega)]
    refine ⟨(zn_in (by omega)).2 s60, fun I2 h2 => ?_⟩
    have a2 := a1.putW 21
    rw [← h2] at a2
    have h := K I2 a2
    rw [← a2.2.1.sq.n3] at h
    exact ⟨fun z => absurd z (by decide), fun z => absurd z (by decide), fun z => absurd z (by decide), fun _ _ _ => h⟩
  · have h : ∀ I1, dB y n q (zu (row0 g s 17) (38 + 6 * s + 0) 1724) (s + 1) (k + 1) dp op (tN y n p) J0 L I1 → (wp_M_number I1 L R 103 (nI (1662 + 6 * s + 1)) (nI 0) (nI (q 3) - nI 1) (fun r I1 => (r = false → dTM true 17 s L R Q false I1) ∧ (r = true → wb_M_test_75 L R 103 (nI (1662 + 6 * s)) (fun r I1 => dTM true 17 s L R Q r I1) I1 (nI 24)))) := K
    have main : wp_M_test I L R 103 (nI (1662 + 6 * s)) (fun r6 I6 => dTM true 17 s L R Q r6 I6) := by
      unfold wp_M_test
      refine sm_inW hn b.2.1 ?_
      rw [hw, if_pos (by omega), show rwT.getD 21 25 = 24 from rfl, nI_clamp (by omega)]
      refine ⟨fun _ => ⟨(zn_in (by omega)).2 (by omega), fun I1 h1 => ?_⟩, fun z => absurd (by decide) z⟩
      have b1 : dB y n q (zu (row0 g s 17) (38 + 6 * s + 0) 1724) (s + 1) (k + 1) dp op p J0 L I1 := by
        rw [h1]
        exact b.put (j := s) (i := 0) (by omega) (by omega) (by omega) 1724
      refine sm_ahead hn b1.2.1 (fun I2 t2 fr => ?_)
      have b2 := b1.tok t2 fr
      have h := h I2 b2
      have h := sm_dayHear ok b2 (p1 := nI (1662 + 6 * s) + 1) (nI_add _ _) h
      exact ⟨fun z => absurd z (by decide), fun _ => ⟨fun z => absurd z (by decide), fun _ => h⟩⟩
    exact ⟨fun z => absurd z (by decide), fun z => absurd z (by decide), fun z => absurd z (by decide), fun z => absurd z (by decide), fun z => absurd z (by decide), fun z => absurd z (by decide), fun z => absurd z (by decide), fun _ => main, fun z => absurd z (by decide), fun _ _ _ _ _ _ _ z _ => absurd rfl z⟩
  have t5 := tN_ge (y := y) (n := n) (p := tN y n (tN y n p))
  have t6 := tN_le (y := y) t4
  have t7 := tN_ge (y := y) (n := n) (p := tN y n (tN y n (tN y n p)))
  have t8 := tN_le (y := y) t6
  refine SD.first hn t2 s60 (by omega) (by omega) (fun x c d L R Q I1 h => ⟨fun _ => c183_0 x c L R Q I1 h, fun z => (by cases z)⟩) (fun L R Q I1 h => ⟨fun _ => dTM_0 L R Q I1 h, fun z => (by cases z)⟩) (fun c1 c2 c3 => SD.imp (U1 := fun x c d I L R Q => wp_DaysReader_readCompares I L R 9 2 x (fun r I1 => (r = false → wb_DaysReader_readStep_183 L R 9 2 c x Q I1 false) ∧ (r = true → wp_DaysReader_readSecond I1 L R 9 2 0 8 x (fun r I1 => (r = false → wb_DaysReader_readStep_183 L R 9 2 c x Q I1 false) ∧ (r = true → wb_DaysReader_readStep_183 L R 9 2 c x Q I1 true))))) (M1 := fun I L R Q => wb_M_test_75 L R 103 (nI (1662 + 6 * s)) (fun r I1 => dTM true 17 s L R Q r I1) I (nI 24)) (fun x c d I0 I L R Q a h => ⟨fun z => (by cases z), fun _ => h⟩) (fun J0 I L R Q b h => ⟨fun z => (by cases z), fun _ => h⟩) (SD.cmp (m := 24) hn t4 s60 (by omega) (fun x c d L R Q I1 h => ⟨fun _ => c183_0 x c L R Q I1 h, fun z => (by cases z)⟩) (fun c4 c5 => SD.imp (U1 := fun x c d I L R Q => wp_DaysReader_readSecond I L R 9 2 (nI 0) (nI (9) - nI 1) x (fun r I1 => (r = false → wb_DaysReader_readStep_183 L R 9 2 c x Q I1 false) ∧ (r = true → wb_DaysReader_readStep_183 L R 9 2 c x Q I1 true))) (M1 := fun I L R Q => wp_M_number I L R 103 (nI (1662 + 6 * s + 2)) (nI 0) (nI (9) - nI 1) (fun r I1 => dTM true 17 s L R Q r I1)) (fun x c d I0 I L R Q a h => ⟨fun z => (by cases z), fun _ => h⟩) (fun J0 I L R Q b h => h) (SD.second hn t6 s60 (by omega) (by omega) (fun x c d L R Q I1 h => ⟨fun _ => c183_0 x c L R Q I1 h, fun z => (by cases z)⟩) (fun L R Q I1 h => dTM_0 L R Q I1 h) (fun c7 c8 c9 => SD.imp (U1 := fun x c d I L R Q => wb_DaysReader_readStep_183 L R 9 2 c x Q I true) (M1 := fun I L R Q => dTM true 17 s L R Q true I) (fun x c d I0 I L R Q a h => ⟨fun z => (by cases z), fun _ => h⟩) (fun J0 I L R Q b h => h) ?_))) (fun L R Q I1 h => dTM_0 L R Q I1 h)))
  have g0 := tW_5 c4
  have gw : (zu (zu (zu (zu (row0 g s 17) (38 + 6 * s + 0) (1724)) (38 + 6 * s + 1) (tW y n (tN y n p))) (38 + 6 * s + 5) (tW y n (tN y n (tN y n p)))) (38 + 6 * s + 2) (tW y n (tN y n (tN y n (tN y n p))))) (38 + 6 * s) = 1724 := (by unfold zu; rw [if_neg (by omega), if_neg (by omega), if_neg (by omega), if_pos (by omega)])
  have g1 : (zu (zu (zu (zu (row0 g s 17) (38 + 6 * s + 0) (1724)) (38 + 6 * s + 1) (tW y n (tN y n p))) (38 + 6 * s + 5) (tW y n (tN y n (tN y n p)))) (38 + 6 * s + 2) (tW y n (tN y n (tN y n (tN y n p))))) (39 + 6 * s) = tW y n (tN y n p) := (by unfold zu; rw [if_neg (by omega), if_neg (by omega), if_pos (by omega)])
  have g2 : (zu (zu (zu (zu (row0 g s 17) (38 + 6 * s + 0) (1724)) (38 + 6 * s + 1) (tW y n (tN y n p))) (38 + 6 * s + 5) (tW y n (tN y n (tN y n p)))) (38 + 6 * s + 2) (tW y n (tN y n (tN y n (tN y n p))))) (40 + 6 * s) = tW y n (tN y n (tN y n (tN y n p))) := (by unfold zu; rw [if_pos (by omega)])
  have g3 : (zu (zu (zu (zu (row0 g s 17) (38 + 6 * s + 0) (1724)) (38 + 6 * s + 1) (tW y n (tN y n p))) (38 + 6 * s + 5) (tW y n (tN y n (tN y n p)))) (38 + 6 * s + 2) (tW y n (tN y n (tN y n (tN y n p))))) (43 + 6 * s) = tW y n (tN y n (tN y n p)) := (by unfold zu; rw [if_neg (by omega), if_pos (by omega)])
  exact SD.fin hn t8 (by omega) inv hk (fun _ => hd) (fun i hi => by unfold zu; rw [if_neg (by omega), if_neg (by omega), if_neg (by omega), if_neg (by omega)]; exact row0_lt hi) gw g1 g2 g3 (by decide) (fun _ => rfl) (fun _ => rfl) (fun _ => rfl) (by decide) (by decide) (by
      unfold dJ
      rw [gw, g1, g2, g3]
      omega) (by omega)
theorem SD.wNo (hn : n ≤ 900) (hp : p ≤ n) (ok : sq_Ok q) (inv : dI q g s dp k op) (hk : k < 30) (hd : dp < 3) (hw : ¬ (18 ≤ tI y n p ∧ tI y n p ≤ 21)) (hlb : lb ≤ p) : SD y n q lb (dA1 y n q g s (k + 1) (dpb true dp) (opb true op dp s) 17 none none none p) (dB y n q (row0 g s 17) (s + 1) (k + 1) dp op p) (fun x c d I L R Q => wb_DaysReader_readStep_157 L R 9 2 c x Q I (nI 17)) (fun I L R Q => wp_M_dayOrder I L R 103 (nI 17) (nI (1662 + 6 * s)) (fun r I6 => dTM true 17 s L R Q r I6)) := by
  have s60 : s < 60 := by have := inv.1; omega
  have cl := ok.cells
  have oo := ok.1.2.2.1
  have t1 := tN_ge (y := y) (n := n) (p := p)
  have t2 := tN_le (y := y) hp
  have t3 := tN_ge (y := y) (n := n) (p := tN y n p)
  have t4 := tN_le (y := y) t2
  have hf := ff_b (y := y) (n := n) (p := p) (v := 2) (by omega)
  refine Or.inl ⟨ff y n p 2, p, ⟨hf.1, hf.2, hp⟩, fun x c d I0 I L R Q a K => ?_, fun J0 I L R Q b K => ?_⟩
  · have bad : wp_Tokens_refuse I L R 2 2 (fun r9 I10 => wb_DaysReader_readStep_183 L R 9 2 c x Q I10 r9) := su_ref (f := 2) a.2.1.2.1 (fun I1 u => c183_0 x c L R Q I1 (K I1 (a.2.1.uf u).1 (a.2.1.uf u).2.1 (a.2.1.uf u).2.2))
    refine ⟨fun _ => ?_, fun z => absurd rfl z⟩
    unfold wp_DaysReader_readTest wp_U_within
    rw [a.2.1.2.1.w]
    by_cases g0 : tI y n p < 25
    · rw [if_pos g0, show (18 : Int32) = nI 18 from rfl, show (21 : Int32) = nI 21 from rfl, nI_ltI (by omega) (by omega), nI_ltI (by omega) (by omega)]
      exact ⟨fun _ => ⟨fun _ => bad, fun z => (by cases z)⟩, fun z1 => ⟨fun _ => ⟨fun _ => bad, fun z => (by cases z)⟩, fun z2 => absurd hw (by omega)⟩⟩
    · rw [if_neg g0]
      exact ⟨fun _ => ⟨fun _ => bad, fun z => (by cases z)⟩, fun z => absurd (by decide) z⟩
  · have bad : wp_M_fails I L R 103 2 (fun r9 I9 => dTM true 17 s L R Q r9 I9) := sm_fail (f := 2) b.2.1 (fun I1 u => dTM_0 L R Q I1 (K I1 (b.mf u).1 (b.mf u).2.1 (b.mf u).2.2))
    have main : wp_M_test I L R 103 (nI (1662 + 6 * s)) (fun r6 I6 => dTM true 17 s L R Q r6 I6) := by
      unfold wp_M_test
      refine sm_inW hn b.2.1 ?_
      by_cases g0 : tI y n p < 25
      · have lt := rwT_test _ g0 hw
        rw [if_pos g0]
        refine ⟨fun z => absurd z ?_, fun _ => bad⟩
        rw [show (21 : Int32) = nI 21 from rfl, nI_leI (by omega) (by omega)]
        omega
      · rw [if_neg g0]
        exact ⟨fun z => absurd z (by decide), fun _ => bad⟩
    exact ⟨fun z => absurd z (by decide), fun z => absurd z (by decide), fun z => absurd z (by decide), fun z => absurd z (by decide), fun z => absurd z (by decide), fun z => absurd z (by decide), fun z => absurd z (by decide), fun _ => main, fun z => absurd z (by decide), fun _ _ _ _ _ _ _ z _ => absurd rfl z⟩
end
