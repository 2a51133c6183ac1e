/-! the days' text: what is known of the rows that are read -/
def dC (g : Nat → Nat) (s j : Nat) : Prop := j < g (42 + 6 * j) ∧ g (42 + 6 * j) < s ∧ g (38 + 6 * g (42 + 6 * j)) = 19 ∧ g (42 + 6 * g (42 + 6 * j)) = j
def dJ (q g : Nat → Nat) (j : Nat) : Prop :=
  (g (38 + 6 * j) = 10 ∧ g (39 + 6 * j) < q 2) ∨ ((g (38 + 6 * j) = 11 ∨ g (38 + 6 * j) = 12) ∧ g (39 + 6 * j) < q 0 * q 1) ∨ g (38 + 6 * j) = 13 ∨
  (g (38 + 6 * j) = 14 ∧ g (39 + 6 * j) < q 3 ∧ g (40 + 6 * j) < q 0 * q 1) ∨ g (38 + 6 * j) = 15 ∨ g (38 + 6 * j) = 16 ∨
  (g (38 + 6 * j) = 18 ∧ 1 ≤ g (39 + 6 * j) ∧ g (39 + 6 * j) ≤ 99) ∨ g (38 + 6 * j) = 19 ∨ g (38 + 6 * j) = 20 ∨
  (g (38 + 6 * j) = 1721 ∧ g (39 + 6 * j) < q 4) ∨ (g (38 + 6 * j) = 1722 ∧ g (39 + 6 * j) < q 3) ∨
  (g (38 + 6 * j) = 1723 ∧ g (40 + 6 * j) ≤ 9999 ∧ (g (43 + 6 * j) = 60 ∨ g (43 + 6 * j) = 61 ∨ g (43 + 6 * j) = 62)) ∨
  (g (38 + 6 * j) = 1724 ∧ g (39 + 6 * j) < q 3 ∧ g (40 + 6 * j) ≤ 8 ∧ (g (43 + 6 * j) = 60 ∨ g (43 + 6 * j) = 61 ∨ g (43 + 6 * j) = 62))
def dI (q g : Nat → Nat) (s dp k : Nat) (op : Nat → Nat) : Prop :=
  (s + dp ≤ 2 * k ∧ k ≤ 30 ∧ dp ≤ 3) ∧
  (∀ i, i < dp → op i < s ∧ dy_beg g (op i) ∧ (op i + 1 < s → g (38 + 6 * (op i + 1)) ≠ 19) ∧ ¬ dC g s (op i)) ∧
  (∀ i j, i < j → j < dp → op i < op j) ∧
  (∀ j, j < s → dJ q g j ∧ (dy_beg g j → (∃ i, i < dp ∧ op i = j) ∨ dC g s j) ∧ (g (38 + 6 * j) = 19 → dy_close g j)) ∧
  (∀ i j, i < j → j < s → dy_beg g i → dy_beg g j → dC g s i → j < g (42 + 6 * i) → dC g s j ∧ g (42 + 6 * j) < g (42 + 6 * i))
section
variable {q g g' : Nat → Nat} {s dp k j b : Nat} {op op' : Nat → Nat}
theorem dI_0 : dI q g 0 0 0 op := ⟨⟨by omega, by omega, by omega⟩, fun _ h => absurd h (by omega), fun _ _ _ h => absurd h (by omega), fun _ h => absurd h (by omega), fun _ _ _ h => absurd h (by omega)⟩
theorem dJ.cong (h : dJ q g j) (e : ∀ i, i = 38 ∨ i = 39 ∨ i = 40 ∨ i = 43 → g' (i + 6 * j) = g (i + 6 * j)) : dJ q g' j := by
  unfold dJ at h ⊢
  rw [e 38 (by omega), e 39 (by omega), e 40 (by omega), e 43 (by omega)]
  exact h
theorem dC.up (h : dC g s j) (hj : j < s) (e : ∀ i, i < 38 + 6 * s → g' i = g i) : dC g' (s + 1) j := by
  obtain ⟨h1, h2, h3, h4⟩ := h
  unfold dC
  rw [e (42 + 6 * j) (by omega), e (38 + 6 * g (42 + 6 * j)) (by omega), e (42 + 6 * g (42 + 6 * j)) (by omega)]
  exact ⟨h1, by omega, h3, h4⟩
theorem dC.down (h : dC g' (s + 1) j) (hj : j < s) (e : ∀ i, i < 38 + 6 * s → g' i = g i) (h19 : g' (38 + 6 * s) ≠ 19) : dC g s j := by
  unfold dC at h
  rw [e (42 + 6 * j) (by omega)] at h
  obtain ⟨h1, h2, h3, h4⟩ := h
  have ne : g (42 + 6 * j) ≠ s := fun x => by rw [x] at h3; exact h19 h3
  rw [e (38 + 6 * g (42 + 6 * j)) (by omega)] at h3
  rw [e (42 + 6 * g (42 + 6 * j)) (by omega)] at h4
  exact ⟨h1, by omega, h3, h4⟩
theorem dy_close.up (h : dy_close g j) (hj : j < s) (e : ∀ i, i < 38 + 6 * s → g' i = g i) : dy_close g' j := by
  obtain ⟨h1, h2, h3, h4⟩ := h
  unfold dy_close
  rw [e (42 + 6 * j) (by omega), e (38 + 6 * g (42 + 6 * j)) (by omega), e (42 + 6 * g (42 + 6 * j)) (by omega), e (38 + 6 * (g (42 + 6 * j) + 1)) (by omega)]
  exact ⟨h1, h2, h3, h4⟩
theorem dI.step (h : dI q g s dp k op) (hk : k < 30) (e : ∀ i, i < 38 + 6 * s → g' i = g i) (hj : dJ q g' s) (h19 : g' (38 + 6 * s) ≠ 19) {dp' : Nat} (d3 : dp' ≤ 3) (dk : s + 1 + dp' ≤ 2 * (k + 1)) (o1 : ∀ i, i < dp' → (i < dp ∧ op' i = op i) ∨ (i = dp ∧ op' i = s ∧ dy_beg g' s)) (o2 : ∀ i, i < dp → i < dp' ∧ op' i = op i) (o3 : dy_beg g' s → ∃ i, i < dp' ∧ op' i = s) : dI q g' (s + 1) dp' (k + 1) op' := by
  obtain ⟨h1, h2, h3, h4, h5⟩ := h
  have bg : ∀ j, j < s → (dy_beg g' j ↔ dy_beg g j) := fun j hj => by
    unfold dy_beg
    rw [e (38 + 6 * j) (by omega)]
  refine ⟨⟨dk, by omega, d3⟩, fun i hi => ?_, fun i j hij hjd => ?_, fun j hj2 => ?_, fun i j hij hjs bi bj ci hji => ?_⟩
  · rcases o1 i hi with ⟨a, b⟩ | ⟨a, b, c⟩
    · rw [b]
      obtain ⟨x1, x2, x3, x4⟩ := h2 i a
      refine ⟨by omega, (bg _ x1).2 x2, fun z => ?_, fun z => x4 (z.down x1 e h19)⟩
      by_cases c : op i + 1 = s
      · rw [c]; exact h19
      · rw [e _ (by omega)]; exact x3 (by omega)
    · rw [b]
      exact ⟨by omega, c, fun z => absurd z (by omega), fun z => absurd z.1 (by have := z.2.1; omega)⟩
  · rcases o1 j hjd with ⟨a, b⟩ | ⟨a, b, c⟩
    · rw [b, (o2 i (by omega)).2]; exact h3 i j hij a
    · rw [b, (o2 i (by omega)).2]; exact (h2 i (by omega)).1
  · by_cases c : j = s
    · rw [c]
      exact ⟨hj, fun z => Or.inl (o3 z), fun z => absurd z h19⟩
    · have js : j < s := by omega
      obtain ⟨x1, x2, x3⟩ := h4 j js
      refine ⟨x1.cong (fun i hi => e _ (by omega)), fun z => ?_, fun z => ?_⟩
      · rcases x2 ((bg j js).1 z) with ⟨i, i1, i2⟩ | w
        · exact Or.inl ⟨i, (o2 i i1).1, by rw [(o2 i i1).2]; exact i2⟩
        · exact Or.inr (w.up js e)
      · rw [e _ (by omega)] at z
        exact (x3 z).up js e
  · have is : i < s := by omega
    have ci2 := ci.down is e h19
    rw [e (42 + 6 * i) (by omega)] at hji ⊢
    have js : j < s := by have := ci2.2.1; omega
    obtain ⟨x1, x2⟩ := h5 i j hij js ((bg i is).1 bi) ((bg j js).1 bj) ci2 hji
    rw [e (42 + 6 * j) (by omega)]
    exact ⟨x1.up js e, x2⟩
theorem dI.row (h : dI q g s dp k op) (hk : k < 30) (e : ∀ i, i < 38 + 6 * s → g' i = g i) (hj : dJ q g' s) (h19 : g' (38 + 6 * s) ≠ 19) (hb : ¬ dy_beg g' s) : dI q g' (s + 1) dp (k + 1) op :=
  h.step hk e hj h19 h.1.2.2 (by have := h.1.1; omega) (fun i hi => Or.inl ⟨hi, rfl⟩) (fun i hi => ⟨hi, rfl⟩) (fun z => absurd z hb)
theorem dI.blk (h : dI q g s dp k op) (hk : k < 30) (e : ∀ i, i < 38 + 6 * s → g' i = g i) (hj : dJ q g' s) (h19 : g' (38 + 6 * s) ≠ 19) (hb : dy_beg g' s) (h3 : dp < 3) : dI q g' (s + 1) (dp + 1) (k + 1) (zu op dp s) := by
  refine h.step hk e hj h19 (by omega) (by have := h.1.1; omega) (fun i hi => ?_) (fun i hi => ⟨by omega, zu_n (by omega)⟩) (fun _ => ⟨dp, by omega, zu_s _ _ _⟩)
  by_cases c : i = dp
  · subst c
    exact Or.inr ⟨rfl, zu_s _ _ _, hb⟩
  · exact Or.inl ⟨by omega, zu_n c⟩
theorem dI.close (h : dI q g s dp k op) (h0 : 0 < dp) (hb : op (dp - 1) = b) (e : ∀ i, i < 38 + 6 * s → i ≠ 42 + 6 * b → g' i = g i) (e1 : g' (38 + 6 * s) = 19) (e2 : g' (42 + 6 * s) = b) (e3 : g' (42 + 6 * b) = s) : dI q g' (s + 1) (dp - 1) k op := by
  obtain ⟨h1, h2, h3, h4, h5⟩ := h
  obtain ⟨b1, b2, b3, b4⟩ := h2 (dp - 1) (by omega)
  rw [hb] at b1 b2 b3 b4
  have bg : ∀ j, j < s → (dy_beg g' j ↔ dy_beg g j) := fun j hj => by
    unfold dy_beg
    rw [e (38 + 6 * j) (by omega) (by omega)]
  have b19 : g (38 + 6 * b) ≠ 19 := by
    unfold dy_beg at b2
    omega
  have up : ∀ j, j < s → j ≠ b → dC g s j → dC g' (s + 1) j := by
    intro j hj nb ⟨c1, c2, c3, c4⟩
    have ne : g (42 + 6 * j) ≠ b := fun x => by rw [x] at c3; exact b19 c3
    unfold dC
    rw [e (42 + 6 * j) (by omega) (by omega), e (38 + 6 * g (42 + 6 * j)) (by omega) (by omega), e (42 + 6 * g (42 + 6 * j)) (by omega) (by omega)]
    exact ⟨c1, by omega, c3, c4⟩
  have down : ∀ j, j < s → j ≠ b → dC g' (s + 1) j → dC g s j := by
    intro j hj nb c
    unfold dC at c
    rw [e (42 + 6 * j) (by omega) (by omega)] at c
    obtain ⟨c1, c2, c3, c4⟩ := c
    have ne : g (42 + 6 * j) ≠ s := fun x => by
      rw [x, e2] at c4
      exact nb c4.symm
    rw [e (38 + 6 * g (42 + 6 * j)) (by omega) (by omega)] at c3
    have nb2 : g (42 + 6 * j) ≠ b := fun x => by rw [x] at c3; exact b19 c3
    rw [e (42 + 6 * g (42 + 6 * j)) (by omega) (by omega)] at c4
    exact ⟨c1, by omega, c3, c4⟩
  refine ⟨by omega, fun i hi => ?_, fun i j hij hjd => h3 i j hij (by omega), fun j hj2 => ?_, fun i j hij hjs bi bj ci hji => ?_⟩
  · obtain ⟨x1, x2, x3, x4⟩ := h2 i (by omega)
    have lt := h3 i (dp - 1) (by omega) (by omega)
    rw [hb] at lt
    refine ⟨by omega, (bg _ x1).2 x2, fun z => ?_, fun z => x4 (down _ x1 (by omega) z)⟩
    rw [e _ (by omega) (by omega)]
    exact x3 (by omega)
  · by_cases c : j = s
    · subst c
      refine ⟨?_, fun z => ?_, fun _ => ?_⟩
      · unfold dJ
        omega
      · unfold dy_beg at z
        omega
      · unfold dy_close
        rw [e2, e3, e (38 + 6 * b) (by omega) (by omega)]
        refine ⟨b1, b2, rfl, ?_⟩
        by_cases c2 : b + 1 = j
        · exact Or.inl c2
        · rw [e (38 + 6 * (b + 1)) (by omega) (by omega)]
          exact Or.inr (b3 (by omega))
    · have js : j < s := by omega
      obtain ⟨x1, x2, x3⟩ := h4 j js
      refine ⟨x1.cong (fun i hi => e _ (by omega) (by omega)), fun z => ?_, fun z => ?_⟩
      · by_cases nb : j = b
        · subst nb
          refine Or.inr ?_
          unfold dC
          rw [e3, e1, e2]
          exact ⟨b1, by omega, rfl, rfl⟩
        · rcases x2 ((bg j js).1 z) with ⟨i, i1, i2⟩ | w
          · have ni : i ≠ dp - 1 := fun x => by rw [x, hb] at i2; exact nb i2.symm
            exact Or.inl ⟨i, by omega, i2⟩
          · exact Or.inr (up j js nb w)
      · rw [e _ (by omega) (by omega)] at z
        have nb : j ≠ b := fun x => by rw [x] at z; exact b19 z
        obtain ⟨y1, y2, y3, y4⟩ := x3 z
        have nb2 : g (42 + 6 * j) ≠ b := fun x => by
          refine b4 ?_
          rw [x] at y1 y3
          unfold dC
          rw [y3]
          exact ⟨y1, js, z, x⟩
        unfold dy_close
        rw [e (42 + 6 * j) (by omega) (by omega), e (38 + 6 * g (42 + 6 * j)) (by omega) (by omega), e (42 + 6 * g (42 + 6 * j)) (by omega) (by omega), e (38 + 6 * (g (42 + 6 * j) + 1)) (by omega) (by omega)]
        exact ⟨y1, y2, y3, y4⟩
  · have js : j < s := by
      rcases Nat.lt_or_ge j s with z | z
      · exact z
      · have ej : j = s := by omega
        rw [ej] at bj
        unfold dy_beg at bj
        omega
    have is : i < s := by omega
    have bj2 := (bg j js).1 bj
    by_cases ib : i = b
    · subst ib
      rw [e3]
      rcases (h4 j js).2.1 bj2 with ⟨i', i1, i2⟩ | w
      · exfalso
        by_cases c : i' = dp - 1
        · rw [c, hb] at i2; omega
        · have := h3 i' (dp - 1) (by omega) (by omega)
          rw [hb] at this; omega
      · have w2 := w.2.1
        rw [e (42 + 6 * j) (by omega) (by omega)]
        exact ⟨up j js (by omega) w, w2⟩
    · have ci2 := down i is ib ci
      rw [e (42 + 6 * i) (by omega) (by omega)] at hji ⊢
      obtain ⟨x1, x2⟩ := h5 i j hij js ((bg i is).1 bi) bj2 ci2 hji
      have jb : j ≠ b := fun x => by rw [x] at x1; exact b4 x1
      rw [e (42 + 6 * j) (by omega) (by omega)]
      exact ⟨up j js jb x1, x2⟩
/-- the square with new days -/
def dq (q g : Nat → Nat) (s : Nat) : Nat → Nat := fun i => if i = 7 then s + 1 else if 38 ≤ i ∧ i < 398 then g i else q i
theorem dq_7 : dq q g s 7 = s + 1 := if_pos rfl
theorem dq_g {i : Nat} (h : 38 ≤ i) (h2 : i < 398) : dq q g s i = g i := by
  unfold dq
  rw [if_neg (by omega), if_pos ⟨h, h2⟩]
theorem dq_q {i : Nat} (h : i ≠ 7) (h2 : ¬ (38 ≤ i ∧ i < 398)) : dq q g s i = q i := by
  unfold dq
  rw [if_neg h, if_neg h2]
theorem dI.Ok (h : dI q g s 0 k op) (ok : sq_Ok q) : sq_Ok (dq q g s) := by
  obtain ⟨h1, h2, h3, h4, h5⟩ := h
  have s60 : s ≤ 60 := by omega
  have z : ∀ i, i < 38 → i ≠ 7 → dq q g s i = q i := fun i a b => dq_q b (by omega)
  have x0 : ∀ j, j < s → dq q g s (38 + 6 * j) = g (38 + 6 * j) := fun j a => dq_g (by omega) (by omega)
  have x1 : ∀ j, j < s → dq q g s (39 + 6 * j) = g (39 + 6 * j) := fun j a => dq_g (by omega) (by omega)
  have x2 : ∀ j, j < s → dq q g s (40 + 6 * j) = g (40 + 6 * j) := fun j a => dq_g (by omega) (by omega)
  have x4 : ∀ j, j < s → dq q g s (42 + 6 * j) = g (42 + 6 * j) := fun j a => dq_g (by omega) (by omega)
  have x5 : ∀ j, j < s → dq q g s (43 + 6 * j) = g (43 + 6 * j) := fun j a => dq_g (by omega) (by omega)
  have cl : ∀ j, j < s → dy_beg g j → dC g s j := fun j hj b => by
    rcases (h4 j hj).2.1 b with ⟨i, i1, _⟩ | w
    · omega
    · exact w
  have bg : ∀ j, j < s → (dy_beg (dq q g s) j ↔ dy_beg g j) := fun j hj => by
    unfold dy_beg
    rw [x0 j hj]
  have op2 : ∀ j, j < s → dC g s j → dy_open (dq q g s) j := fun j hj ⟨c1, c2, c3, c4⟩ => by
    unfold dy_open
    rw [dq_7, x4 j hj, x0 (g (42 + 6 * j)) c2, x4 (g (42 + 6 * j)) c2]
    exact ⟨c1, by omega, c3, c4⟩
  obtain ⟨o1, o2, o3, o4, o5⟩ := ok
  refine ⟨?_, fun h hh => ?_, fun j hj => ?_, fun t ht => ?_, ?_, fun j hj => ?_, fun i j hij hji hjs bi bj => ?_⟩
  · rw [z 0 (by omega) (by omega), z 1 (by omega) (by omega), z 2 (by omega) (by omega), z 3 (by omega) (by omega), z 4 (by omega) (by omega), z 5 (by omega) (by omega), z 6 (by omega) (by omega), z 8 (by omega) (by omega)]
    exact o1
  · rw [z 3 (by omega) (by omega)] at hh
    rw [z 0 (by omega) (by omega), z 1 (by omega) (by omega), z 2 (by omega) (by omega), z (10 + 4 * h) (by omega) (by omega), z (11 + 4 * h) (by omega) (by omega), z (12 + 4 * h) (by omega) (by omega), z (13 + 4 * h) (by omega) (by omega)]
    exact o2 h hh
  · rw [z 4 (by omega) (by omega)] at hj
    rw [z 0 (by omega) (by omega), z 1 (by omega) (by omega), z (34 + j) (by omega) (by omega)]
    exact o3 j hj
  · rw [z 2 (by omega) (by omega)] at ht
    rw [dq_q (by omega) (by omega)]
    exact o4 t ht
  · rw [dq_7]; omega
  · rw [dq_7] at hj
    have js : j < s := by omega
    obtain ⟨v1, v2, v3⟩ := h4 j js
    have opn : dy_beg g j → dy_open (dq q g s) j := fun b => op2 j js (cl j js b)
    have cls : g (38 + 6 * j) = 19 → dy_close (dq q g s) j := fun b => by
      obtain ⟨y1, y2, y3, y4⟩ := v3 b
      unfold dy_close
      rw [x4 j js, x0 (g (42 + 6 * j)) (by omega), x4 (g (42 + 6 * j)) (by omega), x0 (g (42 + 6 * j) + 1) (by omega)]
      exact ⟨y1, y2, y3, y4⟩
    unfold dy_row
    rw [z 0 (by omega) (by omega), z 1 (by omega) (by omega), z 2 (by omega) (by omega), z 3 (by omega) (by omega), z 4 (by omega) (by omega), x0 j js, x1 j js, x2 j js, x5 j js]
    unfold dJ at v1
    unfold dy_beg at opn
    rcases v1 with w | w | w | w | w | w | w | w | w | w | w | w | w
    · exact Or.inl w
    · exact Or.inr (Or.inl w)
    · exact Or.inr (Or.inr (Or.inl w))
    · exact Or.inr (Or.inr (Or.inr (Or.inl w)))
    · exact Or.inr (Or.inr (Or.inr (Or.inr (Or.inl w))))
    · exact Or.inr (Or.inr (Or.inr (Or.inr (Or.inr (Or.inl w)))))
    · exact Or.inr (Or.inr (Or.inr (Or.inr (Or.inr (Or.inr (Or.inl ⟨w.1, w.2.1, w.2.2, opn (by omega)⟩))))))
    · exact Or.inr (Or.inr (Or.inr (Or.inr (Or.inr (Or.inr (Or.inr (Or.inl ⟨w, cls w⟩)))))))
    · exact Or.inr (Or.inr (Or.inr (Or.inr (Or.inr (Or.inr (Or.inr (Or.inr (Or.inl w))))))))
    · exact Or.inr (Or.inr (Or.inr (Or.inr (Or.inr (Or.inr (Or.inr (Or.inr (Or.inr (Or.inl ⟨w.1, w.2, opn (by omega)⟩)))))))))
    · exact Or.inr (Or.inr (Or.inr (Or.inr (Or.inr (Or.inr (Or.inr (Or.inr (Or.inr (Or.inr (Or.inl ⟨w.1, w.2, opn (by omega)⟩))))))))))
    · exact Or.inr (Or.inr (Or.inr (Or.inr (Or.inr (Or.inr (Or.inr (Or.inr (Or.inr (Or.inr (Or.inr (Or.inl ⟨w.1, w.2.1, w.2.2, opn (by omega)⟩)))))))))))
    · exact Or.inr (Or.inr (Or.inr (Or.inr (Or.inr (Or.inr (Or.inr (Or.inr (Or.inr (Or.inr (Or.inr (Or.inr ⟨w.1, w.2.1, w.2.2.1, w.2.2.2, opn (by omega)⟩)))))))))))
  · rw [dq_7] at hjs
    have js : j < s := by omega
    rw [x4 i (by omega)] at hji ⊢
    rw [x4 j js]
    exact (h5 i j hij js ((bg i (by omega)).1 bi) ((bg j js).1 bj) (cl i (by omega) ((bg i (by omega)).1 bi)) hji).2
end
