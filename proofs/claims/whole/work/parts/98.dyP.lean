/-! the days' text: the orders -/
section
variable {y : Nat → Nat} {n lb : Nat} {q g : Nat → Nat} {s k dp p : Nat} {op : Nat → Nat}
theorem vz0 : vp_in ((0 : Int32) + 0) 2258 := (zn_in (j := 0) (n := 2258) (by omega)).2 (by omega)
theorem vz1 : vp_in ((0 : Int32) + 1) 2258 := (zn_in (j := 1) (n := 2258) (by omega)).2 (by omega)
theorem sm_dayCell (ok : sq_Ok q) {g' : Nat → Nat} {S kM dpM : Nat} {opM : Nat → Nat} {J0 I : am_TI} {L : am_TL} {R : am_TR} (b : dB y n q g' S kM dpM opM p J0 L I) {to : Nat} {p1 : Int32} (e : p1 = nI to) {Q : Bool → am_TI → Prop} (h : wp_M_number I L R 103 (nI to) (nI 0) (nI (q 0 * q 1) - nI 1) Q) : wp_M_cellTo I L R 103 p1 (fun r I1 => Q r I1) := by
  unfold wp_M_cellTo wp_M_cellsOf
  refine ⟨vz0, vz1, ?_⟩
  rw [show I (103 + 1) (Int32.toNatClampNeg ((0 : Int32) + 0)) = nI (q 0) from (b.sq ok).n0, show I (103 + 1) (Int32.toNatClampNeg ((0 : Int32) + 1)) = nI (q 1) from (b.sq ok).n1, pk_mul, e]
  exact h
theorem sm_dayHear (ok : sq_Ok q) {g' : Nat → Nat} {S kM dpM : Nat} {opM : Nat → Nat} {J0 I : am_TI} {L : am_TL} {R : am_TR} (b : dB y n q g' S kM dpM opM p J0 L I) {to : Nat} {p1 : Int32} (e : p1 = nI to) {Q : Bool → am_TI → Prop} (h : wp_M_number I L R 103 (nI to) (nI 0) (nI (q 3) - nI 1) Q) : wp_M_hearerTo I L R 103 p1 (fun r I1 => Q r I1) := by
  unfold wp_M_hearerTo
  rw [show I (103 + 1) 3 = nI (q 3) from (b.sq ok).n3, e]
  exact h
theorem SD.o13 (hn : n ≤ 900) (hp : p ≤ n) (ok : sq_Ok q) (inv : dI q g s dp k op) (hk : k < 30) (hlb : lb ≤ p) : SD y n q lb (dA1 y n q g s (k + 1) (dpb false dp) (opb false op dp s) 13 none none none p) (dB y n q (row0 g s 13) (s + 1) (k + 1) dp op p) (fun x c d I L R Q => wb_DaysReader_readStep_157 L R 9 2 c x Q I (nI 13)) (fun I L R Q => wp_M_dayOrder I L R 103 (nI 13) (nI (1662 + 6 * s)) (fun r I6 => dTM false 13 s L R Q r I6)) := by
  have s60 : s < 60 := by have := inv.1; omega
  have cl := ok.cells
  have oo := ok.1.2.2.1
  have t1 := tN_ge (y := y) (n := n) (p := p)
  have t2 := tN_le (y := y) hp
  have t3 := tN_ge (y := y) (n := n) (p := tN y n p)
  have t4 := tN_le (y := y) t2
  refine SD.imp (U1 := fun x c d I L R Q => wb_DaysReader_readStep_183 L R 9 2 c x Q I true) (M1 := fun I L R Q => dTM false 13 s L R Q true I) (fun x c d I0 I L R Q a h => ⟨fun z => absurd z (by decide), fun _ => ⟨fun z => absurd z (by decide), fun z => absurd z (by decide), fun z => absurd z (by decide), fun _ => h, fun z => absurd z (by decide), fun z => absurd z (by decide), fun z => absurd z (by decide), fun z => absurd z (by decide), fun z => absurd z (by decide), fun z => absurd z (by decide), fun z => absurd z (by decide), fun z => absurd z (by decide), fun z => absurd z (by decide), fun _ _ _ z _ _ _ _ _ _ _ _ _ => absurd rfl z⟩⟩) (fun J0 I L R Q b h => ⟨fun z => absurd z (by decide), fun z => absurd z (by decide), fun z => absurd z (by decide), fun _ => h, fun z => absurd z (by decide), fun z => absurd z (by decide), fun z => absurd z (by decide), fun z => absurd z (by decide), fun z => absurd z (by decide), fun _ _ _ z _ _ _ _ _ => absurd rfl z⟩) ?_
  have gw : (row0 g s 13) (38 + 6 * s) = 13 := row0_w
  have g1 : (row0 g s 13) (39 + 6 * s) = 0 := (row0_z (by omega) (by omega))
  have g2 : (row0 g s 13) (40 + 6 * s) = 0 := (row0_z (by omega) (by omega))
  have g3 : (row0 g s 13) (43 + 6 * s) = 0 := (row0_z (by omega) (by omega))
  exact SD.fin hn hp (by omega) inv hk (fun z => (by cases z)) (fun i hi => by exact row0_lt hi) gw g1 g2 g3 (by decide) (fun z => (by unfold dW1 at z; omega)) (fun z => (by unfold dW2 at z; omega)) (fun z => (by unfold dW3 at z; omega)) (by decide) (by decide) (by
      unfold dJ
      rw [gw, g1, g2, g3]
      omega) hlb
theorem SD.o15 (hn : n ≤ 900) (hp : p ≤ n) (ok : sq_Ok q) (inv : dI q g s dp k op) (hk : k < 30) (hlb : lb ≤ p) : SD y n q lb (dA1 y n q g s (k + 1) (dpb false dp) (opb false op dp s) 15 none none none p) (dB y n q (row0 g s 15) (s + 1) (k + 1) dp op p) (fun x c d I L R Q => wb_DaysReader_readStep_157 L R 9 2 c x Q I (nI 15)) (fun I L R Q => wp_M_dayOrder I L R 103 (nI 15) (nI (1662 + 6 * s)) (fun r I6 => dTM false 15 s L R Q r I6)) := by
  have s60 : s < 60 := by have := inv.1; omega
  have cl := ok.cells
  have oo := ok.1.2.2.1
  have t1 := tN_ge (y := y) (n := n) (p := p)
  have t2 := tN_le (y := y) hp
  have t3 := tN_ge (y := y) (n := n) (p := tN y n p)
  have t4 := tN_le (y := y) t2
  refine SD.imp (U1 := fun x c d I L R Q => wb_DaysReader_readStep_183 L R 9 2 c x Q I true) (M1 := fun I L R Q => dTM false 15 s L R Q true I) (fun x c d I0 I L R Q a h => ⟨fun z => absurd z (by decide), fun _ => ⟨fun z => absurd z (by decide), fun z => absurd z (by decide), fun z => absurd z (by decide), fun z => absurd z (by decide), fun z => absurd z (by decide), fun _ => h, fun z => absurd z (by decide), fun z => absurd z (by decide), fun z => absurd z (by decide), fun z => absurd z (by decide), fun z => absurd z (by decide), fun z => absurd z (by decide), fun z => absurd z (by decide), fun _ _ _ _ _ z _ _ _ _ _ _ _ => absurd rfl z⟩⟩) (fun J0 I L R Q b h => ⟨fun z => absurd z (by decide), fun z => absurd z (by decide), fun z => absurd z (by decide), fun z => absurd z (by decide), fun z => absurd z (by decide), fun _ => h, fun z => absurd z (by decide), fun z => absurd z (by decide), fun z => absurd z (by decide), fun _ _ _ _ _ z _ _ _ => absurd rfl z⟩) ?_
  have gw : (row0 g s 15) (38 + 6 * s) = 15 := row0_w
  have g1 : (row0 g s 15) (39 + 6 * s) = 0 := (row0_z (by omega) (by omega))
  have g2 : (row0 g s 15) (40 + 6 * s) = 0 := (row0_z (by omega) (by omega))
  have g3 : (row0 g s 15) (43 + 6 * s) = 0 := (row0_z (by omega) (by omega))
  exact SD.fin hn hp (by omega) inv hk (fun z => (by cases z)) (fun i hi => by exact row0_lt hi) gw g1 g2 g3 (by decide) (fun z => (by unfold dW1 at z; omega)) (fun z => (by unfold dW2 at z; omega)) (fun z => (by unfold dW3 at z; omega)) (by decide) (by decide) (by
      unfold dJ
      rw [gw, g1, g2, g3]
      omega) hlb
theorem SD.o16 (hn : n ≤ 900) (hp : p ≤ n) (ok : sq_Ok q) (inv : dI q g s dp k op) (hk : k < 30) (hlb : lb ≤ p) : SD y n q lb (dA1 y n q g s (k + 1) (dpb false dp) (opb false op dp s) 16 none none none p) (dB y n q (row0 g s 16) (s + 1) (k + 1) dp op p) (fun x c d I L R Q => wb_DaysReader_readStep_157 L R 9 2 c x Q I (nI 16)) (fun I L R Q => wp_M_dayOrder I L R 103 (nI 16) (nI (1662 + 6 * s)) (fun r I6 => dTM false 16 s L R Q r I6)) := by
  have s60 : s < 60 := by have := inv.1; omega
  have cl := ok.cells
  have oo := ok.1.2.2.1
  have t1 := tN_ge (y := y) (n := n) (p := p)
  have t2 := tN_le (y := y) hp
  have t3 := tN_ge (y := y) (n := n) (p := tN y n p)
  have t4 := tN_le (y := y) t2
  refine SD.imp (U1 := fun x c d I L R Q => wb_DaysReader_readStep_183 L R 9 2 c x Q I true) (M1 := fun I L R Q => dTM false 16 s L R Q true I) (fun x c d I0 I L R Q a h => ⟨fun z => absurd z (by decide), fun _ => ⟨fun z => absurd z (by decide), fun z => absurd z (by decide), fun z => absurd z (by decide), fun z => absurd z (by decide), fun z => absurd z (by decide), fun z => absurd z (by decide), fun _ => h, fun z => absurd z (by decide), fun z => absurd z (by decide), fun z => absurd z (by decide), fun z => absurd z (by decide), fun z => absurd z (by decide), fun z => absurd z (by decide), fun _ _ _ _ _ _ z _ _ _ _ _ _ => absurd rfl z⟩⟩) (fun J0 I L R Q b h => ⟨fun z => absurd z (by decide), fun z => absurd z (by decide), fun z => absurd z (by decide), fun z => absurd z (by decide), fun z => absurd z (by decide), fun z => absurd z (by decide), fun _ => h, fun z => absurd z (by decide), fun z => absurd z (by decide), fun _ _ _ _ _ _ z _ _ => absurd rfl z⟩) ?_
  have gw : (row0 g s 16) (38 + 6 * s) = 16 := row0_w
  have g1 : (row0 g s 16) (39 + 6 * s) = 0 := (row0_z (by omega) (by omega))
  have g2 : (row0 g s 16) (40 + 6 * s) = 0 := (row0_z (by omega) (by omega))
  have g3 : (row0 g s 16) (43 + 6 * s) = 0 := (row0_z (by omega) (by omega))
  exact SD.fin hn hp (by omega) inv hk (fun z => (by cases z)) (fun i hi => by exact row0_lt hi) gw g1 g2 g3 (by decide) (fun z => (by unfold dW1 at z; omega)) (fun z => (by unfold dW2 at z; omega)) (fun z => (by unfold dW3 at z; omega)) (by decide) (by decide) (by
      unfold dJ
      rw [gw, g1, g2, g3]
      omega) hlb
theorem SD.o24 (hn : n ≤ 900) (hp : p ≤ n) (ok : sq_Ok q) (inv : dI q g s dp k op) (hk : k < 30) (hlb : lb ≤ p) : SD y n q lb (dA1 y n q g s (k + 1) (dpb false dp) (opb false op dp s) 24 none none none p) (dB y n q (row0 g s 20) (s + 1) (k + 1) dp op p) (fun x c d I L R Q => wb_DaysReader_readStep_157 L R 9 2 c x Q I (nI 24)) (fun I L R Q => wp_M_dayOrder I L R 103 (nI 20) (nI (1662 + 6 * s)) (fun r I6 => dTM false 20 s L R Q r I6)) := by
  have s60 : s < 60 := by have := inv.1; omega
  have cl := ok.cells
  have oo := ok.1.2.2.1
  have t1 := tN_ge (y := y) (n := n) (p := p)
  have t2 := tN_le (y := y) hp
  have t3 := tN_ge (y := y) (n := n) (p := tN y n p)
  have t4 := tN_le (y := y) t2
  refine SD.imp (U1 := fun x c d I L R Q => wb_DaysReader_readStep_183 L R 9 2 c x Q I true) (M1 := fun I L R Q => dTM false 20 s L R Q true I) (fun x c d I0 I L R Q a h => ⟨fun z => absurd z (by decide), fun _ => ⟨fun z => absurd z (by decide), fun z => absurd z (by decide), fun z => absurd z (by decide), fun z => absurd z (by decide), fun z => absurd z (by decide), fun z => absurd z (by decide), fun z => absurd z (by decide), fun z => absurd z (by decide), fun z => absurd z (by decide), fun z => absurd z (by decide), fun z => absurd z (by decide), fun z => absurd z (by decide), fun z => absurd z (by decide), fun _ _ _ _ _ _ _ _ _ _ _ _ _ => h⟩⟩) (fun J0 I L R Q b h => ⟨fun z => absurd z (by decide), fun z => absurd z (by decide), fun z => absurd z (by decide), fun z => absurd z (by decide), fun z => absurd z (by decide), fun z => absurd z (by decide), fun z => absurd z (by decide), fun z => absurd z (by decide), fun z => absurd z (by decide), fun _ _ _ _ _ _ _ _ _ => h⟩) ?_
  have gw : (row0 g s 20) (38 + 6 * s) = 20 := row0_w
  have g1 : (row0 g s 20) (39 + 6 * s) = 0 := (row0_z (by omega) (by omega))
  have g2 : (row0 g s 20) (40 + 6 * s) = 0 := (row0_z (by omega) (by omega))
  have g3 : (row0 g s 20) (43 + 6 * s) = 0 := (row0_z (by omega) (by omega))
  exact SD.fin hn hp (by omega) inv hk (fun z => (by cases z)) (fun i hi => by exact row0_lt hi) gw g1 g2 g3 (by decide) (fun z => (by unfold dW1 at z; omega)) (fun z => (by unfold dW2 at z; omega)) (fun z => (by unfold dW3 at z; omega)) (by decide) (by decide) (by
      unfold dJ
      rw [gw, g1, g2, g3]
      omega) hlb
theorem SD.o10 (hn : n ≤ 900) (hp : p ≤ n) (ok : sq_Ok q) (inv : dI q g s dp k op) (hk : k < 30) (hlb : lb ≤ p) : SD y n q lb (dA1 y n q g s (k + 1) (dpb false dp) (opb false op dp s) 10 none none none p) (dB y n q (row0 g s 10) (s + 1) (k + 1) dp op p) (fun x c d I L R Q => wb_DaysReader_readStep_157 L R 9 2 c x Q I (nI 10)) (fun I L R Q => wp_M_dayOrder I L R 103 (nI 10) (nI (1662 + 6 * s)) (fun r I6 => dTM false 10 s L R Q r I6)) := by
  have s60 : s < 60 := by have := inv.1; omega
  have cl := ok.cells
  have oo := ok.1.2.2.1
  have t1 := tN_ge (y := y) (n := n) (p := p)
  have t2 := tN_le (y := y) hp
  have t3 := tN_ge (y := y) (n := n) (p := tN y n p)
  have t4 := tN_le (y := y) t2
  refine SD.imp (U1 := fun x c d I L R Q => wp_DaysReader_readTune I L R 9 2 c x (fun r I1 => wb_DaysReader_readStep_183 L R 9 2 c x Q I1 r)) (M1 := fun I L R Q => wp_M_tuneTo I L R 103 (nI (1662 + 6 * s + 1)) (fun r I1 => dTM false 10 s L R Q r I1)) (fun x c d I0 I L R Q a h => ⟨fun z => absurd z (by decide), fun _ => ⟨fun _ => h, fun z => absurd z (by decide), fun z => absurd z (by decide), fun z => absurd z (by decide), fun z => absurd z (by decide), fun z => absurd z (by decide), fun z => absurd z (by decide), fun z => absurd z (by decide), fun z => absurd z (by decide), fun z => absurd z (by decide), fun z => absurd z (by decide), fun z => absurd z (by decide), fun z => absurd z (by decide), fun z _ _ _ _ _ _ _ _ _ _ _ _ => absurd rfl z⟩⟩) (fun J0 I L R Q b h => ?_) (SD.tune ok hn hp s60 (fun x c d L R Q I1 h => c183_0 x c L R Q I1 h) (fun L R Q I1 h => dTM_0 L R Q I1 h) (fun r c1 c2 => ?_))
  · rw [← nI_add] at h
    exact ⟨fun _ => h, fun z => absurd z (by decide), fun z => absurd z (by decide), fun z => absurd z (by decide), fun z => absurd z (by decide), fun z => absurd z (by decide), fun z => absurd z (by decide), fun z => absurd z (by decide), fun z => absurd z (by decide), fun z _ _ _ _ _ _ _ _ => absurd rfl z⟩
  have gw : (zu (row0 g s 10) (38 + 6 * s + 1) (r)) (38 + 6 * s) = 10 := (by unfold zu; rw [if_neg (by omega)]; exact row0_w)
  have g1 : (zu (row0 g s 10) (38 + 6 * s + 1) (r)) (39 + 6 * s) = r := (by unfold zu; rw [if_pos (by omega)])
  have g2 : (zu (row0 g s 10) (38 + 6 * s + 1) (r)) (40 + 6 * s) = 0 := (by unfold zu; rw [if_neg (by omega)]; exact row0_z (by omega) (by omega))
  have g3 : (zu (row0 g s 10) (38 + 6 * s + 1) (r)) (43 + 6 * s) = 0 := (by unfold zu; rw [if_neg (by omega)]; exact row0_z (by omega) (by omega))
  exact SD.fin hn t2 (by omega) inv hk (fun z => (by cases z)) (fun i hi => by unfold zu; rw [if_neg (by omega)]; exact row0_lt hi) gw g1 g2 g3 (by decide) (fun _ => rfl) (fun z => (by unfold dW2 at z; omega)) (fun z => (by unfold dW3 at z; omega)) (by decide) (by decide) (by
      unfold dJ
      rw [gw, g1, g2, g3]
      omega) (by omega)
theorem SD.o11 (hn : n ≤ 900) (hp : p ≤ n) (ok : sq_Ok q) (inv : dI q g s dp k op) (hk : k < 30) (hlb : lb ≤ p) : SD y n q lb (dA1 y n q g s (k + 1) (dpb false dp) (opb false op dp s) 11 none none none p) (dB y n q (row0 g s 11) (s + 1) (k + 1) dp op p) (fun x c d I L R Q => wb_DaysReader_readStep_157 L R 9 2 c x Q I (nI 11)) (fun I L R Q => wp_M_dayOrder I L R 103 (nI 11) (nI (1662 + 6 * s)) (fun r I6 => dTM false 11 s L R Q r I6)) := by
  have s60 : s < 60 := by have := inv.1; omega
  have cl := ok.cells
  have oo := ok.1.2.2.1
  have t1 := tN_ge (y := y) (n := n) (p := p)
  have t2 := tN_le (y := y) hp
  have t3 := tN_ge (y := y) (n := n) (p := tN y n p)
  have t4 := tN_le (y := y) t2
  refine SD.imp (U1 := fun x c d I L R Q => wp_DaysReader_readFirst I L R 9 2 (nI 0) (nI (q 0 * q 1) - nI 1) x (fun r I1 => wb_DaysReader_readStep_183 L R 9 2 c x Q I1 r)) (M1 := fun I L R Q => wp_M_number I L R 103 (nI (1662 + 6 * s + 1)) (nI 0) (nI (q 0 * q 1) - nI 1) (fun r I1 => dTM false 11 s L R Q r I1)) (fun x c d I0 I L R Q a h => ?_) (fun J0 I L R Q b h => ?_) (SD.first hn hp s60 (by omega) (by omega) (fun x c d L R Q I1 h => c183_0 x c L R Q I1 h) (fun L R Q I1 h => dTM_0 L R Q I1 h) (fun c1 c2 c3 => ?_))
  · rw [← pk_mul, ← a.2.1.sq.n0, ← a.2.1.sq.n1] at h
    exact ⟨fun z => absurd z (by decide), fun _ => ⟨fun z => absurd z (by decide), fun _ => h, fun z => absurd z (by decide), fun z => absurd z (by decide), fun z => absurd z (by decide), fun z => absurd z (by decide), fun z => absurd z (by decide), fun z => absurd z (by decide), fun z => absurd z (by decide), fun z => absurd z (by decide), fun z => absurd z (by decide), fun z => absurd z (by decide), fun z => absurd z (by decide), fun _ z _ _ _ _ _ _ _ _ _ _ _ => absurd rfl z⟩⟩
  · have h := sm_dayCell ok b (p1 := nI (1662 + 6 * s) + 1) (nI_add _ _) h
    exact ⟨fun z => absurd z (by decide), fun _ => h, fun z => absurd z (by decide), fun z => absurd z (by decide), fun z => absurd z (by decide), fun z => absurd z (by decide), fun z => absurd z (by decide), fun z => absurd z (by decide), fun z => absurd z (by decide), fun _ z _ _ _ _ _ _ _ => absurd rfl z⟩
  have gw : (zu (row0 g s 11) (38 + 6 * s + 1) (tW y n p)) (38 + 6 * s) = 11 := (by unfold zu; rw [if_neg (by omega)]; exact row0_w)
  have g1 : (zu (row0 g s 11) (38 + 6 * s + 1) (tW y n p)) (39 + 6 * s) = tW y n p := (by unfold zu; rw [if_pos (by omega)])
  have g2 : (zu (row0 g s 11) (38 + 6 * s + 1) (tW y n p)) (40 + 6 * s) = 0 := (by unfold zu; rw [if_neg (by omega)]; exact row0_z (by omega) (by omega))
  have g3 : (zu (row0 g s 11) (38 + 6 * s + 1) (tW y n p)) (43 + 6 * s) = 0 := (by unfold zu; rw [if_neg (by omega)]; exact row0_z (by omega) (by omega))
  exact SD.fin hn t2 (by omega) inv hk (fun z => (by cases z)) (fun i hi => by unfold zu; rw [if_neg (by omega)]; exact row0_lt hi) gw g1 g2 g3 (by decide) (fun _ => rfl) (fun z => (by unfold dW2 at z; omega)) (fun z => (by unfold dW3 at z; omega)) (by decide) (by decide) (by
      unfold dJ
      rw [gw, g1, g2, g3]
      omega) (by omega)
theorem SD.o12 (hn : n ≤ 900) (hp : p ≤ n) (ok : sq_Ok q) (inv : dI q g s dp k op) (hk : k < 30) (hlb : lb ≤ p) : SD y n q lb (dA1 y n q g s (k + 1) (dpb false dp) (opb false op dp s) 12 none none none p) (dB y n q (row0 g s 12) (s + 1) (k + 1) dp op p) (fun x c d I L R Q => wb_DaysReader_readStep_157 L R 9 2 c x Q I (nI 12)) (fun I L R Q => wp_M_dayOrder I L R 103 (nI 12) (nI (1662 + 6 * s)) (fun r I6 => dTM false 12 s L R Q r I6)) := by
  have s60 : s < 60 := by have := inv.1; omega
  have cl := ok.cells
  have oo := ok.1.2.2.1
  have t1 := tN_ge (y := y) (n := n) (p := p)
  have t2 := tN_le (y := y) hp
  have t3 := tN_ge (y := y) (n := n) (p := tN y n p)
  have t4 := tN_le (y := y) t2
  refine SD.imp (U1 := fun x c d I L R Q => wp_DaysReader_readFirst I L R 9 2 (nI 0) (nI (q 0 * q 1) - nI 1) x (fun r I1 => wb_DaysReader_readStep_183 L R 9 2 c x Q I1 r)) (M1 := fun I L R Q => wp_M_number I L R 103 (nI (1662 + 6 * s + 1)) (nI 0) (nI (q 0 * q 1) - nI 1) (fun r I1 => dTM false 12 s L R Q r I1)) (fun x c d I0 I L R Q a h => ?_) (fun J0 I L R Q b h => ?_) (SD.first hn hp s60 (by omega) (by omega) (fun x c d L R Q I1 h => c183_0 x c L R Q I1 h) (fun L R Q I1 h => dTM_0 L R Q I1 h) (fun c1 c2 c3 => ?_))
  · rw [← pk_mul, ← a.2.1.sq.n0, ← a.2.1.sq.n1] at h
    exact ⟨fun z => absurd z (by decide), fun _ => ⟨fun z => absurd z (by decide), fun z => absurd z (by decide), fun _ => h, fun z => absurd z (by decide), fun z => absurd z (by decide), fun z => absurd z (by decide), fun z => absurd z (by decide), fun z => absurd z (by decide), fun z => absurd z (by decide), fun z => absurd z (by decide), fun z => absurd z (by decide), fun z => absurd z (by decide), fun z => absurd z (by decide), fun _ _ z _ _ _ _ _ _ _ _ _ _ => absurd rfl z⟩⟩
  · have h := sm_dayCell ok b (p1 := nI (1662 + 6 * s) + 1) (nI_add _ _) h
    exact ⟨fun z => absurd z (by decide), fun z => absurd z (by decide), fun _ => h, fun z => absurd z (by decide), fun z => absurd z (by decide), fun z => absurd z (by decide), fun z => absurd z (by decide), fun z => absurd z (by decide), fun z => absurd z (by decide), fun _ _ z _ _ _ _ _ _ => absurd rfl z⟩
  have gw : (zu (row0 g s 12) (38 + 6 * s + 1) (tW y n p)) (38 + 6 * s) = 12 := (by unfold zu; rw [if_neg (by omega)]; exact row0_w)
  have g1 : (zu (row0 g s 12) (38 + 6 * s + 1) (tW y n p)) (39 + 6 * s) = tW y n p := (by unfold zu; rw [if_pos (by omega)])
  have g2 : (zu (row0 g s 12) (38 + 6 * s + 1) (tW y n p)) (40 + 6 * s) = 0 := (by unfold zu; rw [if_neg (by omega)]; exact row0_z (by omega) (by omega))
  have g3 : (zu (row0 g s 12) (38 + 6 * s + 1) (tW y n p)) (43 + 6 * s) = 0 := (by unfold zu; rw [if_neg (by omega)]; exact row0_z (by omega) (by omega))
  exact SD.fin hn t2 (by omega) inv hk (fun z => (by cases z)) (fun i hi => by unfold zu; rw [if_neg (by omega)]; exact row0_lt hi) gw g1 g2 g3 (by decide) (fun _ => rfl) (fun z => (by unfold dW2 at z; omega)) (fun z => (by unfold dW3 at z; omega)) (by decide) (by decide) (by
      unfold dJ
      rw [gw, g1, g2, g3]
      omega) (by omega)
theorem SD.o22 (hn : n ≤ 900) (hp : p ≤ n) (ok : sq_Ok q) (inv : dI q g s dp k op) (hk : k < 30) (hd : dp < 3) (hlb : lb ≤ p) : SD y n q lb (dA1 y n q g s (k + 1) (dpb true dp) (opb true op dp s) 22 none none none p) (dB y n q (row0 g s 18) (s + 1) (k + 1) dp op p) (fun x c d I L R Q => wb_DaysReader_readStep_157 L R 9 2 c x Q I (nI 22)) (fun I L R Q => wp_M_dayOrder I L R 103 (nI 18) (nI (1662 + 6 * s)) (fun r I6 => dTM true 18 s L R Q r I6)) := by
  have s60 : s < 60 := by have := inv.1; omega
  have cl := ok.cells
  have oo := ok.1.2.2.1
  have t1 := tN_ge (y := y) (n := n) (p := p)
  have t2 := tN_le (y := y) hp
  have t3 := tN_ge (y := y) (n := n) (p := tN y n p)
  have t4 := tN_le (y := y) t2
  refine SD.imp (U1 := fun x c d I L R Q => wp_DaysReader_readFirst I L R 9 2 (nI 1) (nI 100 - nI 1) x (fun r I1 => wb_DaysReader_readStep_183 L R 9 2 c x Q I1 r)) (M1 := fun I L R Q => wp_M_number I L R 103 (nI (1662 + 6 * s + 1)) (nI 1) (nI 100 - nI 1) (fun r I1 => dTM true 18 s L R Q r I1)) (fun x c d I0 I L R Q a h => ⟨fun z => absurd z (by decide), fun _ => ⟨fun z => absurd z (by decide), fun z => absurd z (by decide), fun z => absurd z (by decide), fun z => absurd z (by decide), fun z => absurd z (by decide), fun z => absurd z (by decide), fun z => absurd z (by decide), fun z => absurd z (by decide), fun z => absurd z (by decide), fun z => absurd z (by decide), fun z => absurd z (by decide), fun z => absurd z (by decide), fun _ => h, fun _ _ _ _ _ _ _ _ _ _ _ _ z => absurd rfl z⟩⟩) (fun J0 I L R Q b h => ?_) (SD.first hn hp s60 (by omega) (by omega) (fun x c d L R Q I1 h => c183_0 x c L R Q I1 h) (fun L R Q I1 h => dTM_0 L R Q I1 h) (fun c1 c2 c3 => ?_))
  · rw [← nI_add] at h
    exact ⟨fun z => absurd z (by decide), fun z => absurd z (by decide), fun z => absurd z (by decide), fun z => absurd z (by decide), fun z => absurd z (by decide), fun z => absurd z (by decide), fun z => absurd z (by decide), fun z => absurd z (by decide), fun _ => h, fun _ _ _ _ _ _ _ _ z => absurd rfl z⟩
  have gw : (zu (row0 g s 18) (38 + 6 * s + 1) (tW y n p)) (38 + 6 * s) = 18 := (by unfold zu; rw [if_neg (by omega)]; exact row0_w)
  have g1 : (zu (row0 g s 18) (38 + 6 * s + 1) (tW y n p)) (39 + 6 * s) = tW y n p := (by unfold zu; rw [if_pos (by omega)])
  have g2 : (zu (row0 g s 18) (38 + 6 * s + 1) (tW y n p)) (40 + 6 * s) = 0 := (by unfold zu; rw [if_neg (by omega)]; exact row0_z (by omega) (by omega))
  have g3 : (zu (row0 g s 18) (38 + 6 * s + 1) (tW y n p)) (43 + 6 * s) = 0 := (by unfold zu; rw [if_neg (by omega)]; exact row0_z (by omega) (by omega))
  exact SD.fin hn t2 (by omega) inv hk (fun _ => hd) (fun i hi => by unfold zu; rw [if_neg (by omega)]; exact row0_lt hi) gw g1 g2 g3 (by decide) (fun _ => rfl) (fun z => (by unfold dW2 at z; omega)) (fun z => (by unfold dW3 at z; omega)) (by decide) (by decide) (by
      unfold dJ
      rw [gw, g1, g2, g3]
      omega) (by omega)
theorem SD.o14 (hn : n ≤ 900) (hp : p ≤ n) (ok : sq_Ok q) (inv : dI q g s dp k op) (hk : k < 30) (hlb : lb ≤ p) : SD y n q lb (dA1 y n q g s (k + 1) (dpb false dp) (opb false op dp s) 14 none none none p) (dB y n q (row0 g s 14) (s + 1) (k + 1) dp op p) (fun x c d I L R Q => wb_DaysReader_readStep_157 L R 9 2 c x Q I (nI 14)) (fun I L R Q => wp_M_dayOrder I L R 103 (nI 14) (nI (1662 + 6 * s)) (fun r I6 => dTM false 14 s L R Q r I6)) := by
  have s60 : s < 60 := by have := inv.1; omega
  have cl := ok.cells
  have oo := ok.1.2.2.1
  have t1 := tN_ge (y := y) (n := n) (p := p)
  have t2 := tN_le (y := y) hp
  have t3 := tN_ge (y := y) (n := n) (p := tN y n p)
  have t4 := tN_le (y := y) t2
  refine SD.imp (U1 := fun x c d I L R Q => wp_DaysReader_readFirst I L R 9 2 (nI 0) (nI (q 3) - nI 1) x (fun r I1 => (r = false → wb_DaysReader_readStep_183 L R 9 2 c x Q I1 false) ∧ (r = true → wp_Square_cells I1 L R c (fun r7 => wp_DaysReader_readSecond I1 L R 9 2 0 (r7 - 1) x (fun r I1 => (r = false → wb_DaysReader_readStep_183 L R 9 2 c x Q I1 false) ∧ (r = true → wb_DaysReader_readStep_183 L R 9 2 c x Q I1 true)))))) (M1 := fun I L R Q => wp_M_number I L R 103 (nI (1662 + 6 * s + 1)) (nI 0) (nI (q 3) - nI 1) (fun r I1 => (r = false → dTM false 14 s L R Q false I1) ∧ (r = true → wp_M_cellTo I1 L R 103 (nI (1662 + 6 * s) + 2) (fun r I1 => (r = false → dTM false 14 s L R Q false I1) ∧ (r = true → dTM false 14 s L R Q true I1))))) (fun x c d I0 I L R Q a h => ?_) (fun J0 I L R Q b h => ?_) (SD.first hn hp s60 (by omega) (by omega) (fun x c d L R Q I1 h => ⟨fun _ => c183_0 x c L R Q I1 h, fun z => (by cases z)⟩) (fun L R Q I1 h => ⟨fun _ => dTM_0 L R Q I1 h, fun z => (by cases z)⟩) (fun c1 c2 c3 => ?_))
  · rw [← a.2.1.sq.n3] at h
    exact ⟨fun z => absurd z (by decide), fun _ => ⟨fun z => absurd z (by decide), fun z => absurd z (by decide), fun z => absurd z (by decide), fun z => absurd z (by decide), fun _ => h, fun z => absurd z (by decide), fun z => absurd z (by decide), fun z => absurd z (by decide), fun z => absurd z (by decide), fun z => absurd z (by decide), fun z => absurd z (by decide), fun z => absurd z (by decide), fun z => absurd z (by decide), fun _ _ _ _ z _ _ _ _ _ _ _ _ => absurd rfl z⟩⟩
  · have h := sm_dayHear ok b (p1 := nI (1662 + 6 * s) + 1) (nI_add _ _) h
    exact ⟨fun z => absurd z (by decide), fun z => absurd z (by decide), fun z => absurd z (by decide), fun z => absurd z (by decide), fun _ => h, fun z => absurd z (by decide), fun z => absurd z (by decide), fun z => absurd z (by decide), fun z => absurd z (by decide), fun _ _ _ _ z _ _ _ _ => absurd rfl z⟩
  refine SD.imp (U1 := fun x c d I L R Q => wp_DaysReader_readSecond I L R 9 2 (nI 0) (nI (q 0 * q 1) - nI 1) x (fun r I1 => (r = false → wb_DaysReader_readStep_183 L R 9 2 c x Q I1 false) ∧ (r = true → wb_DaysReader_readStep_183 L R 9 2 c x Q I1 true))) (M1 := fun I L R Q => wp_M_number I L R 103 (nI (1662 + 6 * s + 2)) (nI 0) (nI (q 0 * q 1) - nI 1) (fun r I1 => (r = false → dTM false 14 s L R Q false I1) ∧ (r = true → dTM false 14 s L R Q true I1))) (fun x c d I0 I L R Q a h => ⟨fun z => (by cases z), fun _ => ?_⟩) (fun J0 I L R Q b h => ⟨fun z => (by cases z), fun _ => sm_dayCell ok b (p1 := nI (1662 + 6 * s) + 2) (nI_add _ _) h⟩) (SD.second hn t2 s60 (by omega) (by omega) (fun x c d L R Q I1 h => ⟨fun _ => c183_0 x c L R Q I1 h, fun z => (by cases z)⟩) (fun L R Q I1 h => ⟨fun _ => dTM_0 L R Q I1 h, fun z => (by cases z)⟩) (fun c4 c5 c6 => SD.imp (U1 := fun x c d I L R Q => wb_DaysReader_readStep_183 L R 9 2 c x Q I true) (M1 := fun I L R Q => dTM false 14 s L R Q true I) (fun x c d I0 I L R Q a h => ⟨fun z => (by cases z), fun _ => h⟩) (fun J0 I L R Q b h => ⟨fun z => (by cases z), fun _ => h⟩) ?_))
  · rw [← pk_mul, ← a.2.1.sq.n0, ← a.2.1.sq.n1] at h
    exact h
  have gw : (zu (zu (row0 g s 14) (38 + 6 * s + 1) (tW y n p)) (38 + 6 * s + 2) (tW y n (tN y n p))) (38 + 6 * s) = 14 := (by unfold zu; rw [if_neg (by omega), if_neg (by omega)]; exact row0_w)
  have g1 : (zu (zu (row0 g s 14) (38 + 6 * s + 1) (tW y n p)) (38 + 6 * s + 2) (tW y n (tN y n p))) (39 + 6 * s) = tW y n p := (by unfold zu; rw [if_neg (by omega), if_pos (by omega)])
  have g2 : (zu (zu (row0 g s 14) (38 + 6 * s + 1) (tW y n p)) (38 + 6 * s + 2) (tW y n (tN y n p))) (40 + 6 * s) = tW y n (tN y n p) := (by unfold zu; rw [if_pos (by omega)])
  have g3 : (zu (zu (row0 g s 14) (38 + 6 * s + 1) (tW y n p)) (38 + 6 * s + 2) (tW y n (tN y n p))) (43 + 6 * s) = 0 := (by unfold zu; rw [if_neg (by omega), if_neg (by omega)]; exact row0_z (by omega) (by omega))
  exact SD.fin hn t4 (by omega) inv hk (fun z => (by cases z)) (fun i hi => by unfold zu; rw [if_neg (by omega), if_neg (by omega)]; exact row0_lt hi) gw g1 g2 g3 (by decide) (fun _ => rfl) (fun _ => rfl) (fun z => (by unfold dW3 at z; omega)) (by decide) (by decide) (by
      unfold dJ
      rw [gw, g1, g2, g3]
      omega) (by omega)
end
