/-! days: one step, both sides -/
section
variable {q : Nat → Nat} {c d : Nat} {I I1 I2 : am_TI} {L L1 L2 : am_TL} {R : am_TR}
theorem sq_M.row (h : sq_M q 0 I L) {j i : Nat} (hj : j + 1 < q 7) (hi : i < 6) (h3 : i ≠ 3) : I 104 (38 + 6 * j + i) = nI (q (38 + 6 * j + i)) := by
  have := h.2.2.1 j hj i hi h3
  rwa [Nat.mul_zero, Nat.zero_add] at this
theorem sq_M.r0 (h : sq_M q 0 I L) {j : Nat} (hj : j + 1 < q 7) : I 104 (38 + 6 * j) = nI (q (38 + 6 * j)) := h.row (i := 0) hj (by omega) (by omega)
theorem sq_M.r1 (h : sq_M q 0 I L) {j : Nat} (hj : j + 1 < q 7) : I 104 (38 + 6 * j + 1) = nI (q (39 + 6 * j)) := by rw [h.row hj (by omega) (by omega), show 38 + 6 * j + 1 = 39 + 6 * j by omega]
theorem sq_M.r2 (h : sq_M q 0 I L) {j : Nat} (hj : j + 1 < q 7) : I 104 (38 + 6 * j + 2) = nI (q (40 + 6 * j)) := by rw [h.row hj (by omega) (by omega), show 38 + 6 * j + 2 = 40 + 6 * j by omega]
theorem sq_M.r4 (h : sq_M q 0 I L) {j : Nat} (hj : j + 1 < q 7) : I 104 (38 + 6 * j + 4) = nI (q (42 + 6 * j)) := by rw [h.row hj (by omega) (by omega), show 38 + 6 * j + 4 = 42 + 6 * j by omega]
theorem sq_M.r5 (h : sq_M q 0 I L) {j : Nat} (hj : j + 1 < q 7) : I 104 (38 + 6 * j + 5) = nI (q (43 + 6 * j)) := by rw [h.row hj (by omega) (by omega), show 38 + 6 * j + 5 = 43 + 6 * j by omega]
/-- the class's counts, the reference's -/
def lk_U (c v : Nat) (I I1 : am_TI) (s' dm dp dc dh : Nat) : Prop := I1 v 1 = nI s' ∧ I1 v 5 = I v 5 + nI dm ∧ I1 v 6 = I v 6 + nI dp ∧ I1 v 7 = I v 7 + nI dc ∧ I1 v 8 = I v 8 + nI dh ∧ (∀ k, 9 ≤ k → I1 v k = I v k) ∧ ∀ r, ¬ (c ≤ r ∧ r ≤ c + 5) → r ≠ v → I1 r = I r
def lk_M (I I1 : am_TI) (s' dp dc dh : Nat) : Prop := I1 103 44 = nI s' ∧ I1 131 0 = I 131 0 ∧ I1 131 1 = I 131 1 + nI dp ∧ I1 131 2 = I 131 2 + nI dc ∧ I1 131 3 = I 131 3 + nI dh ∧ I1 131 4 = I 131 4 ∧ ∀ r k, r ≠ 131 → ¬ (r = 103 ∧ k = 44) → ¬ (r = 104 ∧ k < 38) → I1 r k = I r k
def ac (q : Nat → Nat) (j s : Nat) : Prop := ∃ (q' : Nat → Nat) (s' dm dp dc dh : Nat), sq_Ok q' ∧ (∀ k, (k < 6 ∨ k = 7 ∨ 34 ≤ k) → q' k = q k) ∧ s' < 65536 ∧ dm ≤ 1 ∧
  (∀ c d v I L R Q, sq_cd c d → (v = 12 ∨ v = 14) → am_rd R c 5 = d → sq_U q c d I L → I v 1 = nI s → (∀ I1, sq_U q' c d I1 L → lk_U c v I I1 s' dm dp dc dh → Q I1) → wp_Life_act I L R v c (nI j) Q) ∧
  (∀ I L R Q, sq_M q 0 I L → I 103 44 = nI s → (∀ I1, sq_M q' 0 I1 L → lk_M I I1 s' dp dc dh → Q (decide (dm = 0)) I1) → wp_M_does I L R 103 (nI (38 + 6 * j)) Q)
theorem lk_U.z {v s : Nat} (h : fr_S c I I1) (hc : c = 29 ∨ c = 41) (hv : v = 12 ∨ v = 14) (hs : I v 1 = nI s) : lk_U c v I I1 s 0 0 0 0 := by
  have e : I1 v = I v := h v (by omega)
  have z : ∀ x : Int32, x = x + nI 0 := fun x => (Int32.add_zero x).symm
  refine ⟨by rw [e]; exact hs, by rw [e]; exact z _, by rw [e]; exact z _, by rw [e]; exact z _, by rw [e]; exact z _, fun k _ => by rw [e], fun r h1 h2 => h r h1⟩
theorem lk_M.z {s : Nat} (h : fr_P I I1) (hs : I 103 44 = nI s) : lk_M I I1 s 0 0 0 := by
  have z : ∀ x : Int32, x = x + nI 0 := fun x => (Int32.add_zero x).symm
  exact ⟨by rw [h 103 44 (by omega)]; exact hs, h _ _ (by omega), by rw [h 131 1 (by omega)]; exact z _, by rw [h 131 2 (by omega)]; exact z _, by rw [h 131 3 (by omega)]; exact z _, h _ _ (by omega), fun r k _ _ g => h r k (by omega)⟩
/-- one more is missed -/
theorem lk_U.miss {v s : Nat} (h : lk_U c v I I1 s 0 0 0 0) (hc : c = 29 ∨ c = 41) (hv : v = 12 ∨ v = 14) : lk_U c v I (am_u2 I1 v 5 (I1 v 5 + nI 1)) s 1 0 0 0 := by
  obtain ⟨a1, a2, a3, a4, a5, a6, a7⟩ := h
  have z : ∀ x : Int32, x + nI 0 = x := fun x => Int32.add_zero x
  refine ⟨by rw [am_u2_ne _ _ _ _ (by omega)]; exact a1, by rw [am_u2_at, a2, z], by rw [am_u2_ne _ _ _ _ (by omega)]; exact a3, by rw [am_u2_ne _ _ _ _ (by omega)]; exact a4, by rw [am_u2_ne _ _ _ _ (by omega)]; exact a5, fun k hk => by rw [am_u2_ne _ _ _ _ (by omega)]; exact a6 k hk, fun r h1 h2 => by rw [am_u2_row _ _ _ _ h2]; exact a7 r h1 h2⟩
theorem sq_U.keepV {v : Nat} (h : sq_U q c d I L) (hcd : sq_cd c d) (hv : v = 12 ∨ v = 14) (k : Nat) (x : Int32) : sq_U q c d (am_u2 I v k x) L := by
  obtain ⟨h1, h2⟩ := hcd
  exact h.keep (fun r hr => am_u2_row _ _ _ _ (by omega)) rfl
theorem sq_M.keepV (h : sq_M q 0 I L) (ok : sq_Ok q) {r : Nat} (hr : r ≠ 104) (k : Nat) (x : Int32) : sq_M q 0 (am_u2 I r k x) L := h.keep (fun k _ _ => by rw [am_u2_row _ _ _ _ (fun e => hr e.symm)]) rfl ok.2.2.2.2.1
/-- a count of a miss, class -/
theorem su_miss {v s : Nat} (h : sq_U q c d I1 L) (hcd : sq_cd c d) (hv : v = 12 ∨ v = 14) (g : lk_U c v I I1 s 0 0 0 0) {x : Int32} {Q : am_TI → Prop} {dm : Nat} (hx : (x = nM ∧ dm = 1) ∨ (¬ x = nM ∧ dm = 0)) (k : ∀ I2, sq_U q c d I2 L → lk_U c v I I2 s dm 0 0 0 → Q I2) : wp_Life_countMissed I1 L R v x Q := by
  have hc := hcd.1
  unfold wp_Life_countMissed
  rcases hx with ⟨rfl, rfl⟩ | ⟨hx, rfl⟩
  · refine ⟨fun _ I2 h2 => ?_, fun e => absurd rfl e⟩
    rw [h2]
    exact k _ (h.keepV hcd hv _ _) (g.miss hc hv)
  · exact ⟨fun e => absurd e hx, fun _ => k _ h g⟩
/-- the row's numbers, class -/
theorem dy_word (h : sq_U q c d I L) {j : Nat} (hj : j + 1 < q 7) {w w' : Nat} (e : q (38 + 6 * j) = w) (e2 : dy_w w = w') : I (d + 1) j = nI w' := by
  rw [(h.dy.2.2 j hj).1, e, e2]
theorem ac_play {s t : Nat} (ok : sq_Ok q) (ht : t < 6) : ∃ (q' : Nat → Nat) (dm dp dc : Nat), sq_Ok q' ∧ (∀ k, (k < 6 ∨ k = 7 ∨ 34 ≤ k) → q' k = q k) ∧ dm ≤ 1 ∧
    (∀ c d v I I0 L R Q, sq_cd c d → (v = 12 ∨ v = 14) → sq_U q c d I L → lk_U c v I0 I s 0 0 0 0 → (∀ I1, sq_U q' c d I1 L → lk_U c v I0 I1 s dm dp dc 0 → Q I1) → wp_Life_playOne I L R v c (nI t) Q) ∧
    (∀ I I0 L R Q, sq_M q 0 I L → lk_M I0 I s 0 0 0 → (∀ I1, sq_M q' 0 I1 L → lk_M I0 I1 s dp dc 0 → Q (decide (dm = 0)) I1) → wp_M_playsBy I L R 103 (nI t) Q) := by
  have o := ok.1.2.2.1
  have z : ∀ x : Int32, x + nI 0 = x := fun x => Int32.add_zero x
  have ll := sq_likers_lt ok t
  by_cases e : sq_likers q t = 0
  · refine ⟨q, 1, 0, 0, ok, fun _ _ => rfl, by omega, ?_, ?_⟩
    · intro c d v I I0 L R Q hcd hv h g K
      have hc := hcd.1
      unfold wp_Life_playOne
      refine su_playTune h hcd ok (by omega) (fun _ => ?_) (fun e2 => absurd e e2)
      refine ⟨fun _ I2 h2 => ?_, fun e => absurd rfl e⟩
      rw [h2]
      exact K _ (h.keepV hcd hv _ _) (g.miss hc hv)
    · intro I I0 L R Q h g K
      unfold wp_M_playsBy
      refine sm_likers h ok (by omega) ?_
      rw [e]
      exact ⟨fun _ => K I h g, fun x => absurd rfl x⟩
  · refine ⟨sq_play q t, 0, 1, pl_c q t (q 3), sq_play_ok ok t, fun k hk => sq_play_o t (by omega) (by omega), by omega, ?_, ?_⟩
    · intro c d v I I0 L R Q hcd hv h g K
      have hc := hcd.1
      have pl := pl_c_le (q := q) t (q 3)
      unfold wp_Life_playOne
      refine su_playTune h hcd ok (by omega) (fun e2 => absurd e2 e) (fun _ I1 h1 f1 => ?_)
      refine ⟨fun x => absurd x (ze_nm1 (by omega)), fun _ I2 h2 I3 h3 => ?_⟩
      obtain ⟨a1, a2, a3, a4, a5, a6, a7⟩ := g
      have ev : I1 v = I v := f1 v (by omega)
      rw [h3, h2]
      refine K _ ((h1.keepV hcd hv _ _).keepV hcd hv _ _) ⟨?_, ?_, ?_, ?_, ?_, fun k hk => ?_, fun r g1 g2 => ?_⟩
      · rw [am_u2_ne _ _ _ _ (by omega), am_u2_ne _ _ _ _ (by omega), ev]; exact a1
      · rw [am_u2_ne _ _ _ _ (by omega), am_u2_ne _ _ _ _ (by omega), ev]; exact a2
      · rw [am_u2_ne _ _ _ _ (by omega), am_u2_at, ev, a3, z]; rfl
      · rw [am_u2_at, am_u2_ne _ _ _ _ (by omega), ev, a4, z]
      · rw [am_u2_ne _ _ _ _ (by omega), am_u2_ne _ _ _ _ (by omega), ev]; exact a5
      · rw [am_u2_ne _ _ _ _ (by omega), am_u2_ne _ _ _ _ (by omega), ev]; exact a6 k hk
      · rw [am_u2_row _ _ _ _ g2, am_u2_row _ _ _ _ g2, f1 r g1]; exact a7 r g1 g2
    · intro I I0 L R Q h g K
      unfold wp_M_playsBy
      refine sm_likers h ok (by omega) ?_
      refine ⟨fun x => ?_, fun _ => ?_⟩
      · have : nI (sq_likers q t) = nI 0 := x
        rw [nI_eq (by omega) (by omega)] at this
        exact absurd this e
      · refine sm_plays h ok (by omega) (fun I1 h1 f1 I2 h2 I3 h3 => ?_)
        have ok' := sq_play_ok ok t
        obtain ⟨a1, a2, a3, a4, a5, a6, a7⟩ := g
        rw [h3, h2]
        refine K _ ((h1.keepV ok' (by omega) _ _).keepV ok' (by omega) _ _) ⟨?_, ?_, ?_, ?_, ?_, ?_, fun r k g1 g2 g3 => ?_⟩
        · rw [am_u2o (by omega), am_u2o (by omega), f1 103 44 (by omega)]; exact a1
        · rw [am_u2_ne _ _ _ _ (by omega), am_u2_ne _ _ _ _ (by omega), f1 131 0 (by omega)]; exact a2
        · rw [am_u2_at, am_u2_ne _ _ _ _ (by omega), f1 131 1 (by omega), a3, z]; rfl
        · rw [am_u2_ne _ _ _ _ (by omega), am_u2_at, a4, z]
        · rw [am_u2_ne _ _ _ _ (by omega), am_u2_ne _ _ _ _ (by omega), f1 131 3 (by omega)]; exact a5
        · rw [am_u2_ne _ _ _ _ (by omega), am_u2_ne _ _ _ _ (by omega), f1 131 4 (by omega)]; exact a6
        · rw [am_u2o g1, am_u2o g1, f1 r k (by omega)]; exact a7 r k g1 g2 g3
theorem ac_thr {s x : Nat} (ok : sq_Ok q) (hx : x < 25) : ∃ (q' : Nat → Nat) (dm dh : Nat), sq_Ok q' ∧ (∀ k, (k < 6 ∨ k = 7 ∨ 34 ≤ k) → q' k = q k) ∧ dm ≤ 1 ∧
    (∀ c d v I I0 L R Q, sq_cd c d → (v = 12 ∨ v = 14) → sq_U q c d I L → lk_U c v I0 I s 0 0 0 0 → (∀ I1, sq_U q' c d I1 L → lk_U c v I0 I1 s dm 0 0 dh → Q I1) → wp_Life_throwOne I L R v c (nI x) Q) ∧
    (∀ I I0 L R Q, sq_M q 0 I L → lk_M I0 I s 0 0 0 → (∀ I1, sq_M q' 0 I1 L → lk_M I0 I1 s 0 0 dh → Q (decide (dm = 0)) I1) → wp_M_hitsBy I L R 103 (nI x) Q) := by
  have o := ok.1.2.2.1
  have z : ∀ x : Int32, x + nI 0 = x := fun x => Int32.add_zero x
  have l1 := sq_near_lt ok x 1
  have ok' := sq_thr_ok ok (sq_near q x 1) (q 3) (by omega)
  have eo : ∀ k, (k < 6 ∨ k = 7 ∨ 34 ≤ k) → sq_thr q (sq_near q x 1) (q 3) k = q k := fun k hk => sq_thr_o _ _ (by omega)
  by_cases e : sq_near q x 1 = 0
  · refine ⟨sq_thr q (sq_near q x 1) (q 3), 1, 0, ok', eo, by omega, ?_, ?_⟩
    · intro c d v I I0 L R Q hcd hv h g K
      have hc := hcd.1
      unfold wp_Life_throwOne
      refine su_flour h hcd ok hx (fun I1 h1 f1 => ?_)
      rw [if_pos e]
      refine ⟨fun _ I2 h2 => ?_, fun e => absurd rfl e⟩
      obtain ⟨a1, a2, a3, a4, a5, a6, a7⟩ := g
      have ev : I1 v = I v := f1 v (by omega)
      have g1 : lk_U c v I0 I1 s 0 0 0 0 := ⟨by rw [ev]; exact a1, by rw [ev]; exact a2, by rw [ev]; exact a3, by rw [ev]; exact a4, by rw [ev]; exact a5, fun k hk => by rw [ev]; exact a6 k hk, fun r x y => by rw [f1 r x]; exact a7 r x y⟩
      rw [h2]
      exact K _ (h1.keepV hcd hv _ _) (g1.miss hc hv)
    · intro I I0 L R Q h g K
      unfold wp_M_hitsBy
      refine sm_hits h ok hx (fun I1 h1 f1 => ?_)
      obtain ⟨a1, a2, a3, a4, a5, a6, a7⟩ := g
      have k2 := K I1 h1 ⟨by rw [f1 103 44 (by omega)]; exact a1, by rw [f1 131 0 (by omega)]; exact a2, by rw [f1 131 1 (by omega)]; exact a3, by rw [f1 131 2 (by omega)]; exact a4, by rw [f1 131 3 (by omega)]; exact a5, by rw [f1 131 4 (by omega)]; exact a6, fun r k x y w => by rw [f1 r k (by omega)]; exact a7 r k x y w⟩
      rw [e]
      exact ⟨fun _ => k2, fun x => absurd rfl x⟩
  · refine ⟨sq_thr q (sq_near q x 1) (q 3), 0, 1, ok', eo, by omega, ?_, ?_⟩
    · intro c d v I I0 L R Q hcd hv h g K
      have hc := hcd.1
      unfold wp_Life_throwOne
      refine su_flour h hcd ok hx (fun I1 h1 f1 => ?_)
      rw [if_neg e]
      refine ⟨fun x => absurd x (ze_nm1 (by omega)), fun _ I2 h2 => ?_⟩
      obtain ⟨a1, a2, a3, a4, a5, a6, a7⟩ := g
      have ev : I1 v = I v := f1 v (by omega)
      rw [h2]
      refine K _ (h1.keepV hcd hv _ _) ⟨?_, ?_, ?_, ?_, ?_, fun k hk => ?_, fun r g1 g2 => ?_⟩
      · rw [am_u2_ne _ _ _ _ (by omega), ev]; exact a1
      · rw [am_u2_ne _ _ _ _ (by omega), ev]; exact a2
      · rw [am_u2_ne _ _ _ _ (by omega), ev]; exact a3
      · rw [am_u2_ne _ _ _ _ (by omega), ev]; exact a4
      · rw [am_u2_at, ev, a5, z]; rfl
      · rw [am_u2_ne _ _ _ _ (by omega), ev]; exact a6 k hk
      · rw [am_u2_row _ _ _ _ g2, f1 r g1]; exact a7 r g1 g2
    · intro I I0 L R Q h g K
      unfold wp_M_hitsBy
      refine sm_hits h ok hx (fun I1 h1 f1 => ?_)
      refine ⟨fun y => ?_, fun _ I2 h2 => ?_⟩
      · have : nI (sq_near q x 1) = nI 0 := y
        rw [nI_eq (by omega) (by omega)] at this
        exact absurd this e
      · obtain ⟨a1, a2, a3, a4, a5, a6, a7⟩ := g
        rw [h2]
        refine K _ (h1.keepV ok' (by omega) _ _) ⟨?_, ?_, ?_, ?_, ?_, ?_, fun r k g1 g2 g3 => ?_⟩
        · rw [am_u2o (by omega), f1 103 44 (by omega)]; exact a1
        · rw [am_u2_ne _ _ _ _ (by omega), f1 131 0 (by omega)]; exact a2
        · rw [am_u2_ne _ _ _ _ (by omega), f1 131 1 (by omega)]; exact a3
        · rw [am_u2_ne _ _ _ _ (by omega), f1 131 2 (by omega)]; exact a4
        · rw [am_u2_at, f1 131 3 (by omega), a5, z]; rfl
        · rw [am_u2_ne _ _ _ _ (by omega), f1 131 4 (by omega)]; exact a6
        · rw [am_u2o g1, f1 r k (by omega)]; exact a7 r k g1 g2 g3
end
