/-! the square's text: a hearer -/
section
variable {y : Nat → Nat} {n lb : Nat} {q f g q1 f1 g1 : Nat → Nat} {tp p tp1 p1 : Nat} {I I1 I2 : am_TI} {L L1 L2 : am_TL} {R : am_TR} {U U1 : Nat → sT} {M M1 FM : sT} {t e : Nat}
/-- the new hearer's numbers -/
def hq (q : Nat → Nat) (a b v : Nat) : Nat → Nat := zu (zu (zu (zu q (10 + 4 * q 3) a) (12 + 4 * q 3) b) (13 + 4 * q 3) 0) (11 + 4 * q 3) v
theorem hq_n {a b v i : Nat} (h : i < 10 + 4 * q 3 ∨ 14 + 4 * q 3 ≤ i) : hq q a b v i = q i := by
  unfold hq
  rw [zu_n (by omega), zu_n (by omega), zu_n (by omega), zu_n (by omega)]
theorem hq_ok (ok : sq_Ok q) (h3 : q 3 < 6) (a b v : Nat) : sq_Ok (hq q a b v) := by
  have o1 := ok.row (k := 10 + 4 * q 3) (by omega) (by omega) a
  have e1 : zu q (10 + 4 * q 3) a 3 = q 3 := zu_n (by omega)
  have o2 := o1.row (k := 12 + 4 * q 3) (by omega) (by omega) b
  have e2 : zu (zu q (10 + 4 * q 3) a) (12 + 4 * q 3) b 3 = q 3 := by rw [zu_n (by omega)]; exact e1
  have o3 := o2.row (k := 13 + 4 * q 3) (by omega) (by omega) 0
  have e3 : zu (zu (zu q (10 + 4 * q 3) a) (12 + 4 * q 3) b) (13 + 4 * q 3) 0 3 = q 3 := by rw [zu_n (by omega)]; exact e2
  exact o3.row (k := 11 + 4 * q 3) (by omega) (by omega) v
theorem hq_v {a b v : Nat} : hq q a b v (10 + 4 * q 3) = a ∧ hq q a b v (11 + 4 * q 3) = v ∧ hq q a b v (12 + 4 * q 3) = b ∧ hq q a b v (13 + 4 * q 3) = 0 := by
  unfold hq
  refine ⟨by rw [zu_n (by omega), zu_n (by omega), zu_n (by omega), zu_s], zu_s _ _ _, by rw [zu_n (by omega), zu_n (by omega), zu_s], by rw [zu_n (by omega), zu_s]⟩
/-- the class adds a hearer -/
theorem sq_U.putHearer (h : sq_U q t e I L) (hcd : sq_cd t e) (h3 : q 3 < 6) (h7 : q 7 = 0) (a b v : Nat) : sq_U (zu (hq q a b v) 3 (q 3 + 1)) t e (am_u2 (am_u2 (am_u2 (am_u2 I (t + 2) (q 3) (nI a)) (t + 3) (q 3) (nI b)) (t + 4) (q 3) (nI v)) t 11 (nI (q 3 + 1))) L := by
  obtain ⟨hc, hd⟩ := hcd
  have z : ∀ i, i ≠ 3 → (i < 10 + 4 * q 3 ∨ 14 + 4 * q 3 ≤ i) → zu (hq q a b v) 3 (q 3 + 1) i = q i := fun i h0 h1 => by rw [zu_n h0, hq_n h1]
  obtain ⟨v0, v1, v2, v3⟩ := hq_v (q := q) (a := a) (b := b) (v := v)
  have es : sq_seen (zu (hq q a b v) 3 (q 3 + 1)) = sq_seen q := by
    unfold sq_seen
    rw [zu_s, zs_or]
    have e0 : (zu (hq q a b v) 3 (q 3 + 1) (13 + 4 * q 3) == 1) = false := by rw [zu_n (by omega), v3]; rfl
    rw [e0]
    show _ ||| 0 = _
    rw [Nat.or_zero]
    apply zs_cong
    intro i hi
    rw [z (13 + 4 * i) (by omega) (by omega)]
  have y7 := z 7 (by omega) (by omega)
  refine ⟨?_, fun i hi => ?_, fun i hi => ?_, fun i hi => ?_, ?_⟩
  · obtain ⟨a0, a1, a2, a3, a4, a5, a6, a7, a8, a9⟩ := h.1
    have r : ∀ k, k ≠ 11 → am_u2 (am_u2 (am_u2 (am_u2 I (t + 2) (q 3) (nI a)) (t + 3) (q 3) (nI b)) (t + 4) (q 3) (nI v)) t 11 (nI (q 3 + 1)) t k = I t k := fun k hk => by rw [am_u2_ne _ _ _ _ hk, am_u2o (by omega), am_u2o (by omega), am_u2o (by omega)]
    rw [es, r 6 (by omega), r 7 (by omega), r 10 (by omega), am_u2_at, r 12 (by omega), r 8 (by omega), r 9 (by omega), r 13 (by omega), r 14 (by omega), r 15 (by omega), zu_s, z 0 (by omega) (by omega), z 1 (by omega) (by omega), z 2 (by omega) (by omega), z 4 (by omega) (by omega), z 5 (by omega) (by omega), z 6 (by omega) (by omega), z 8 (by omega) (by omega), z 9 (by omega) (by omega)]
    exact ⟨a0, a1, a2, rfl, a4, a5, a6, a7, a8, a9⟩
  · rw [zu_s] at hi
    by_cases g : i = q 3
    · subst g
      rw [zu_n (by omega), zu_n (by omega), zu_n (by omega), v0, v1, v2]
      exact ⟨by rw [am_u2o (by omega), am_u2o (by omega), am_u2o (by omega), am_u2_at], by rw [am_u2o (by omega), am_u2_at], by rw [am_u2o (by omega), am_u2o (by omega), am_u2_at]⟩
    · obtain ⟨u1, u2, u3⟩ := h.2.1 i (by omega)
      rw [z _ (by omega) (by omega), z _ (by omega) (by omega), z _ (by omega) (by omega)]
      exact ⟨by rw [am_u2o (by omega), am_u2o (by omega), am_u2o (by omega), am_u2_ne _ _ _ _ g]; exact u1, by rw [am_u2o (by omega), am_u2_ne _ _ _ _ g, am_u2o (by omega), am_u2o (by omega)]; exact u2, by rw [am_u2o (by omega), am_u2o (by omega), am_u2_ne _ _ _ _ g, am_u2o (by omega)]; exact u3⟩
  · rw [z 4 (by omega) (by omega)] at hi
    rw [am_u2o (by omega), am_u2o (by omega), am_u2o (by omega), am_u2o (by omega), z _ (by omega) (by omega)]; exact h.dg hi
  · rw [z 2 (by omega) (by omega)] at hi
    rw [z _ (by omega) (by omega)]; exact h.nm hi
  · have d := h.dy.keep (I1 := am_u2 (am_u2 (am_u2 (am_u2 I (t + 2) (q 3) (nI a)) (t + 3) (q 3) (nI b)) (t + 4) (q 3) (nI v)) t 11 (nI (q 3 + 1))) (fun r _ _ => by rw [am_u2_row _ _ _ _ (by omega), am_u2_row _ _ _ _ (by omega), am_u2_row _ _ _ _ (by omega), am_u2_row _ _ _ _ (by omega)])
    exact ⟨by rw [y7]; exact d.1, fun x => absurd x (by omega), fun j hj => absurd hj (by omega)⟩
end
