/-! the square: what the class and the reference hold of it; frames -/
/-- the words of days, the reference's number to the class's -/
def dy_w (k : Nat) : Nat := if k = 18 then 22 else if k = 19 then 23 else if k = 20 then 24 else if 1700 ≤ k then k - 1703 else k
def dy_rowU (q : Nat → Nat) (d : Nat) (I : am_TI) (j : Nat) : Prop :=
  I (d + 1) j = nI (dy_w (q (38 + 6 * j))) ∧
  ((q (38 + 6 * j) = 10 ∨ q (38 + 6 * j) = 11 ∨ q (38 + 6 * j) = 12 ∨ q (38 + 6 * j) = 14 ∨ q (38 + 6 * j) = 18 ∨ q (38 + 6 * j) = 1721 ∨ q (38 + 6 * j) = 1722 ∨ q (38 + 6 * j) = 1724) → I (d + 2) j = nI (q (39 + 6 * j))) ∧
  ((q (38 + 6 * j) = 14 ∨ q (38 + 6 * j) = 1723 ∨ q (38 + 6 * j) = 1724) → I (d + 3) j = nI (q (40 + 6 * j))) ∧
  ((q (38 + 6 * j) = 1723 ∨ q (38 + 6 * j) = 1724) → I (d + 4) j = nI (q (43 + 6 * j))) ∧
  ((q (38 + 6 * j) = 18 ∨ q (38 + 6 * j) = 19 ∨ 1700 ≤ q (38 + 6 * j)) → I (d + 5) j = nI (q (42 + 6 * j)))
def dy_U (q : Nat → Nat) (d : Nat) (I : am_TI) : Prop :=
  I d 5 = nI (if q 7 = 0 then 0 else 1) ∧ (0 < q 7 → I d 6 = nI (q 7 - 1)) ∧ ∀ j, j + 1 < q 7 → dy_rowU q d I j
/-- a block's beginning and its end -/
def dy_open (q : Nat → Nat) (j : Nat) : Prop := j < q (42 + 6 * j) ∧ q (42 + 6 * j) + 1 < q 7 ∧ q (38 + 6 * q (42 + 6 * j)) = 19 ∧ q (42 + 6 * q (42 + 6 * j)) = j
def dy_close (q : Nat → Nat) (j : Nat) : Prop := q (42 + 6 * j) < j ∧ (q (38 + 6 * q (42 + 6 * j)) = 18 ∨ 1700 ≤ q (38 + 6 * q (42 + 6 * j))) ∧ q (42 + 6 * q (42 + 6 * j)) = j ∧ (q (42 + 6 * j) + 1 = j ∨ q (38 + 6 * (q (42 + 6 * j) + 1)) ≠ 19)
def dy_row (q : Nat → Nat) (j : Nat) : Prop :=
  (q (38 + 6 * j) = 10 ∧ q (39 + 6 * j) < q 2) ∨ ((q (38 + 6 * j) = 11 ∨ q (38 + 6 * j) = 12) ∧ q (39 + 6 * j) < q 0 * q 1) ∨ q (38 + 6 * j) = 13 ∨
  (q (38 + 6 * j) = 14 ∧ q (39 + 6 * j) < q 3 ∧ q (40 + 6 * j) < q 0 * q 1) ∨ q (38 + 6 * j) = 15 ∨ q (38 + 6 * j) = 16 ∨
  (q (38 + 6 * j) = 18 ∧ 1 ≤ q (39 + 6 * j) ∧ q (39 + 6 * j) ≤ 99 ∧ dy_open q j) ∨ (q (38 + 6 * j) = 19 ∧ dy_close q j) ∨ q (38 + 6 * j) = 20 ∨
  (q (38 + 6 * j) = 1721 ∧ q (39 + 6 * j) < q 4 ∧ dy_open q j) ∨ (q (38 + 6 * j) = 1722 ∧ q (39 + 6 * j) < q 3 ∧ dy_open q j) ∨
  (q (38 + 6 * j) = 1723 ∧ q (40 + 6 * j) ≤ 9999 ∧ (q (43 + 6 * j) = 60 ∨ q (43 + 6 * j) = 61 ∨ q (43 + 6 * j) = 62) ∧ dy_open q j) ∨
  (q (38 + 6 * j) = 1724 ∧ q (39 + 6 * j) < q 3 ∧ q (40 + 6 * j) ≤ 8 ∧ (q (43 + 6 * j) = 60 ∨ q (43 + 6 * j) = 61 ∨ q (43 + 6 * j) = 62) ∧ dy_open q j)
/-- blocks lie within each other -/
def dy_beg (q : Nat → Nat) (i : Nat) : Prop := q (38 + 6 * i) = 18 ∨ 1700 ≤ q (38 + 6 * i)
def dy_nest (q : Nat → Nat) : Prop := ∀ i j, i < j → j < q (42 + 6 * i) → j + 1 < q 7 → dy_beg q i → dy_beg q j → q (42 + 6 * j) < q (42 + 6 * i)
def dy_Ok (q : Nat → Nat) : Prop := q 7 ≤ 61 ∧ (∀ j, j + 1 < q 7 → dy_row q j) ∧ dy_nest q
/-- the numbers of a square that can be -/
def sq_Ok (q : Nat → Nat) : Prop :=
  ((1 ≤ q 0 ∧ q 0 ≤ 5) ∧ (1 ≤ q 1 ∧ q 1 ≤ 5) ∧ (q 2 ≤ 6 ∧ q 3 ≤ 6 ∧ q 4 ≤ 4 ∧ q 5 ≤ 16) ∧ q 6 < q 0 * q 1 ∧ q 8 ≤ 9999) ∧
  (∀ h, h < q 3 → q (10 + 4 * h) < q 0 * q 1 ∧ q (11 + 4 * h) < 2 ^ q 2 ∧ q (12 + 4 * h) ≤ 99 ∧ q (13 + 4 * h) ≤ 1) ∧
  (∀ k, k < q 4 → q (34 + k) < q 0 * q 1) ∧ (∀ t, t < q 2 → q (400 + t) < 2 ^ 40) ∧ dy_Ok q
theorem sq_Ok.cells {q : Nat → Nat} (h : sq_Ok q) : 1 ≤ q 0 * q 1 ∧ q 0 * q 1 ≤ 25 := ⟨Nat.mul_le_mul h.1.1.1 h.1.2.1.1, Nat.mul_le_mul h.1.1.2 h.1.2.1.2⟩
/-- who is seen, as a set -/
def sq_seen (q : Nat → Nat) : Nat := zs_bs (fun h => q (13 + 4 * h) == 1) (q 3)
/-- the class's square: the object's cell, its days' cell -/
def sq_U (q : Nat → Nat) (c d : Nat) (I : am_TI) (L : am_TL) : Prop :=
  (I c 6 = nI (q 0) ∧ I c 7 = nI (q 1) ∧ I c 10 = nI (q 2) ∧ I c 11 = nI (q 3) ∧ I c 12 = nI (q 4) ∧ I c 8 = nI (q 5) ∧ I c 9 = nI (q 6) ∧ I c 13 = nI (q 8) ∧ I c 14 = nI (q 9) ∧ I c 15 = nI (sq_seen q)) ∧
  (∀ h, h < q 3 → I (c + 2) h = nI (q (10 + 4 * h)) ∧ I (c + 4) h = nI (q (11 + 4 * h)) ∧ I (c + 3) h = nI (q (12 + 4 * h))) ∧
  (∀ k, k < q 4 → I (c + 5) k = nI (q (34 + k))) ∧ (∀ t, t < q 2 → L (c + 1) t = lN (q (400 + t))) ∧ dy_U q d I
/-- a name: the class's number to the reference's -/
def nm_cv : Nat → Nat → Nat
  | 0, _ => 0
  | f + 1, w => if w = 0 then 0 else 256 * nm_cv f (w / 32) + (w % 32 + 96)
/-- the reference's square, in a slot -/
def sq_M (q : Nat → Nat) (s : Nat) (I : am_TI) (L : am_TL) : Prop :=
  (∀ k, k < 38 → k ≠ 7 → I 104 (406 * s + k) = nI (q k)) ∧ I 104 (406 * s + 7) = nI (q 7) - nI 1 ∧
  (∀ j, j + 1 < q 7 → ∀ i, i < 6 → i ≠ 3 → I 104 (406 * s + (38 + 6 * j + i)) = nI (q (38 + 6 * j + i))) ∧
  (∀ t, t < q 2 → L 105 (6 * s + t) = lN (nm_cv 8 (q (400 + t))))
/-- where the class's square and its days lie -/
def sq_cd (c d : Nat) : Prop := (c = 29 ∨ c = 41) ∧ (d = 35 ∨ d = 47 ∨ d = 53)
/-- what a call on the square leaves alone -/
def fr_U (d : Nat) (I I1 : am_TI) : Prop := ∀ r k, ((r = 0 ∧ k ≠ 15) ∨ (1 ≤ r ∧ r ≤ 13) ∨ (d ≤ r ∧ r ≤ d + 5) ∨ 59 ≤ r ∨ (r = 26 ∧ k = 0)) → I1 r k = I r k
def fr_M (I I1 : am_TI) : Prop := ∀ r k, (r < 103 ∨ 133 ≤ r ∨ (r = 103 ∧ (k = 10 ∨ k = 16 ∨ k = 17 ∨ k = 49 ∨ k = 50)) ∨ (r = 104 ∧ 38 ≤ k ∧ k < 1624) ∨ r = 106 ∨ r = 107 ∨ r = 109 ∨ r = 132) → I1 r k = I r k
def po_U (q : Nat → Nat) (c d : Nat) (I : am_TI) (L : am_TL) (st : Nat) (I1 : am_TI) : Prop := sq_U q c d I1 L ∧ I1 0 15 = nI st ∧ fr_U d I I1
def po_M (q : Nat → Nat) (I : am_TI) (L : am_TL) (st : Nat) (I1 : am_TI) : Prop := sq_M q 0 I1 L ∧ I1 103 2 = nI st ∧ fr_M I I1
/-- both answer alike: calls that change the square alone -/
def si_I {α : Type} (q : Nat → Nat) (U M : am_TI → am_TL → am_TR → (α → am_TI → Prop) → Prop) : Prop :=
  ∃ (ans : α) (st : Nat) (q' : Nat → Nat), sq_Ok q' ∧
    (∀ c d I L R, sq_cd c d → sq_U q c d I L → am_rd R 0 11 = c → am_rd R c 5 = d → I 26 0 = nI 0 → ∀ Q : α → am_TI → Prop, (∀ I1, po_U q' c d I L st I1 → Q ans I1) → U I L R Q) ∧
    (∀ I L R, sq_M q 0 I L → ∀ Q : α → am_TI → Prop, (∀ I1, po_M q' I L st I1 → Q ans I1) → M I L R Q)
/-! reads -/
section
variable {q : Nat → Nat} {c d : Nat} {I I1 : am_TI} {L : am_TL} {R : am_TR}
theorem sq_U.n0 (h : sq_U q c d I L) : I c 6 = nI (q 0) := h.1.1
theorem sq_U.n1 (h : sq_U q c d I L) : I c 7 = nI (q 1) := h.1.2.1
theorem sq_U.n2 (h : sq_U q c d I L) : I c 10 = nI (q 2) := h.1.2.2.1
theorem sq_U.n3 (h : sq_U q c d I L) : I c 11 = nI (q 3) := h.1.2.2.2.1
theorem sq_U.n4 (h : sq_U q c d I L) : I c 12 = nI (q 4) := h.1.2.2.2.2.1
theorem sq_U.n5 (h : sq_U q c d I L) : I c 8 = nI (q 5) := h.1.2.2.2.2.2.1
theorem sq_U.n6 (h : sq_U q c d I L) : I c 9 = nI (q 6) := h.1.2.2.2.2.2.2.1
theorem sq_U.n8 (h : sq_U q c d I L) : I c 13 = nI (q 8) := h.1.2.2.2.2.2.2.2.1
theorem sq_U.n9 (h : sq_U q c d I L) : I c 14 = nI (q 9) := h.1.2.2.2.2.2.2.2.2.1
theorem sq_U.sn (h : sq_U q c d I L) : I c 15 = nI (sq_seen q) := h.1.2.2.2.2.2.2.2.2.2
theorem sq_U.at (h : sq_U q c d I L) {k : Nat} (hk : k < q 3) : I (c + 2) k = nI (q (10 + 4 * k)) := (h.2.1 k hk).1
theorem sq_U.lk (h : sq_U q c d I L) {k : Nat} (hk : k < q 3) : I (c + 4) k = nI (q (11 + 4 * k)) := (h.2.1 k hk).2.1
theorem sq_U.cn (h : sq_U q c d I L) {k : Nat} (hk : k < q 3) : I (c + 3) k = nI (q (12 + 4 * k)) := (h.2.1 k hk).2.2
theorem sq_U.dg (h : sq_U q c d I L) {k : Nat} (hk : k < q 4) : I (c + 5) k = nI (q (34 + k)) := h.2.2.1 k hk
theorem sq_U.nm (h : sq_U q c d I L) {k : Nat} (hk : k < q 2) : L (c + 1) k = lN (q (400 + k)) := h.2.2.2.1 k hk
theorem sq_U.dy (h : sq_U q c d I L) : dy_U q d I := h.2.2.2.2
theorem dy_U.keep (h : dy_U q d I) (e : ∀ r, d ≤ r → r ≤ d + 5 → I1 r = I r) : dy_U q d I1 := by
  obtain ⟨h1, h2, h3⟩ := h
  refine ⟨by rw [e d (by omega) (by omega)]; exact h1, fun g => by rw [e d (by omega) (by omega)]; exact h2 g, fun j hj => ?_⟩
  obtain ⟨a1, a2, a3, a4, a5⟩ := h3 j hj
  refine ⟨by rw [e _ (by omega) (by omega)]; exact a1, fun g => by rw [e _ (by omega) (by omega)]; exact a2 g, fun g => by rw [e _ (by omega) (by omega)]; exact a3 g, fun g => by rw [e _ (by omega) (by omega)]; exact a4 g, fun g => by rw [e _ (by omega) (by omega)]; exact a5 g⟩
theorem sq_U.keep {L1 : am_TL} (h : sq_U q c d I L) (e : ∀ r, (c ≤ r ∧ r ≤ c + 5) ∨ (d ≤ r ∧ r ≤ d + 5) → I1 r = I r) (eL : L1 (c + 1) = L (c + 1)) : sq_U q c d I1 L1 := by
  refine ⟨?_, fun k hk => ?_, fun k hk => ?_, fun k hk => ?_, h.dy.keep fun r h1 h2 => e r (Or.inr ⟨h1, h2⟩)⟩
  · rw [e c (by omega)]; exact h.1
  · rw [e (c + 2) (by omega), e (c + 3) (by omega), e (c + 4) (by omega)]; exact h.2.1 k hk
  · rw [e (c + 5) (by omega)]; exact h.dg hk
  · rw [eL]; exact h.nm hk
theorem sq_M.nk (h : sq_M q 0 I L) {k : Nat} (hk : k < 38) (h7 : k ≠ 7) : I 104 k = nI (q k) := by
  have := h.1 k hk h7
  rwa [Nat.mul_zero, Nat.zero_add] at this
theorem sq_M.n7 (h : sq_M q 0 I L) : I 104 7 = nI (q 7) - nI 1 := h.2.1
theorem sq_M.n0 (h : sq_M q 0 I L) : I 104 0 = nI (q 0) := h.nk (by decide) (by decide)
theorem sq_M.n1 (h : sq_M q 0 I L) : I 104 1 = nI (q 1) := h.nk (by decide) (by decide)
theorem sq_M.n2 (h : sq_M q 0 I L) : I 104 2 = nI (q 2) := h.nk (by decide) (by decide)
theorem sq_M.n3 (h : sq_M q 0 I L) : I 104 3 = nI (q 3) := h.nk (by decide) (by decide)
theorem sq_M.n4 (h : sq_M q 0 I L) : I 104 4 = nI (q 4) := h.nk (by decide) (by decide)
theorem sq_M.n5 (h : sq_M q 0 I L) : I 104 5 = nI (q 5) := h.nk (by decide) (by decide)
theorem sq_M.n6 (h : sq_M q 0 I L) : I 104 6 = nI (q 6) := h.nk (by decide) (by decide)
theorem sq_M.n8 (h : sq_M q 0 I L) : I 104 8 = nI (q 8) := h.nk (by decide) (by decide)
theorem sq_M.n9 (h : sq_M q 0 I L) : I 104 9 = nI (q 9) := h.nk (by decide) (by decide)
theorem sq_M.keep {s : Nat} {L1 : am_TL} (h : sq_M q s I L) (e : ∀ k, 406 * s ≤ k → k < 406 * s + 406 → I1 104 k = I 104 k) (eL : L1 105 = L 105) (h7 : q 7 ≤ 61) : sq_M q s I1 L1 := by
  refine ⟨fun k hk g => ?_, ?_, fun j hj i hi g => ?_, fun t ht => ?_⟩
  · rw [e _ (by omega) (by omega)]; exact h.1 k hk g
  · rw [e _ (by omega) (by omega)]; exact h.2.1
  · rw [e _ (by omega) (by omega)]; exact h.2.2.1 j hj i hi g
  · rw [eL]; exact h.2.2.2 t ht
theorem fr_U.st (d : Nat) (hd : 1 ≤ d) (I : am_TI) (v : Int32) : fr_U d I (am_u2 I 0 15 v) := by
  intro r k h
  unfold am_u2
  rw [if_neg (by omega)]
theorem fr_M.st (I : am_TI) (v : Int32) : fr_M I (am_u2 I 103 2 v) := by
  intro r k h
  unfold am_u2
  rw [if_neg (by omega)]
theorem po_U.q0 (h : sq_U q c d I L) (hcd : sq_cd c d) (st : Nat) : po_U q c d I L st (am_u2 I 0 15 (nI st)) := by
  obtain ⟨h1, h2⟩ := hcd
  refine ⟨h.keep (fun r hr => am_u2_row _ _ _ _ (by omega)) rfl, am_u2_at _ _ _ _, fr_U.st d (by omega) I _⟩
theorem po_M.q0 (h : sq_M q 0 I L) (ok : sq_Ok q) (st : Nat) : po_M q I L st (am_u2 I 103 2 (nI st)) :=
  ⟨h.keep (fun k _ _ => by rw [am_u2_row _ _ _ _ (by decide)]) rfl ok.2.2.2.2.1, am_u2_at _ _ _ _, fr_M.st I _⟩
end
