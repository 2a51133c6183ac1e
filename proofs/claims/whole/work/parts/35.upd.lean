/-! changes of the square -/
def zu (q : Nat → Nat) (k v : Nat) : Nat → Nat := fun i => if i = k then v else q i
theorem zu_s (q : Nat → Nat) (k v : Nat) : zu q k v k = v := if_pos rfl
theorem zu_n {q : Nat → Nat} {k v i : Nat} (h : i ≠ k) : zu q k v i = q i := if_neg h
theorem zu_id (q : Nat → Nat) (k : Nat) : zu q k (q k) = q := by
  funext i
  unfold zu
  split
  · rename_i h; rw [h]
  · rfl
section
variable {q q' : Nat → Nat} {c d : Nat} {I I1 I2 : am_TI} {L : am_TL} {R : am_TR}
theorem dy_Ok.keep (h : dy_Ok q) (e0 : ∀ k, k < 5 → q' k = q k) (e7 : q' 7 = q 7) (e : ∀ k, 38 ≤ k → q' k = q k) : dy_Ok q' := by
  refine ⟨e7 ▸ h.1, fun j hj => ?_, ?_⟩
  rotate_left
  · have := h.2.2
    unfold dy_nest dy_beg at this ⊢
    simp (disch := omega) only [e, e7]
    exact this
  have := h.2.1 j (e7 ▸ hj)
  unfold dy_row dy_open dy_close at this ⊢
  simp (disch := omega) only [e, e0, e7]
  exact this
theorem dy_U.cong (h : dy_U q d I) (e7 : q' 7 = q 7) (e : ∀ k, 38 ≤ k → q' k = q k) : dy_U q' d I := by
  refine ⟨by rw [e7]; exact h.1, fun g => by rw [e7] at g ⊢; exact h.2.1 g, fun j hj => ?_⟩
  have := h.2.2 j (e7 ▸ hj)
  unfold dy_rowU at this ⊢
  simp (disch := omega) only [e]
  exact this
theorem fr_U.rfl : fr_U d I I := fun _ _ _ => Eq.refl _
theorem fr_U.trans (h : fr_U d I I1) (h2 : fr_U d I1 I2) : fr_U d I I2 := fun r k g => (h2 r k g).trans (h r k g)
theorem fr_M.rfl : fr_M I I := fun _ _ _ => Eq.refl _
theorem fr_M.trans (h : fr_M I I1) (h2 : fr_M I1 I2) : fr_M I I2 := fun r k g => (h2 r k g).trans (h r k g)
theorem fr_U.row (hcd : sq_cd c d) {r : Nat} (h1 : c ≤ r) (h2 : r ≤ c + 5) (k : Nat) (v : Int32) : fr_U d I (am_u2 I r k v) := by
  intro r' k' g
  unfold am_u2
  rw [if_neg]
  obtain ⟨a, b⟩ := hcd
  omega
theorem fr_M.row {k : Nat} (hk : k < 38) (v : Int32) : fr_M I (am_u2 I 104 k v) := by
  intro r' k' g
  unfold am_u2
  rw [if_neg]
  omega
theorem po_U.of (h : sq_U q c d I1 L) (hcd : sq_cd c d) (f : fr_U d I I1) (st : Nat) : po_U q c d I L st (am_u2 I1 0 15 (nI st)) := by
  obtain ⟨a, b, e⟩ := po_U.q0 h hcd st
  exact ⟨a, b, f.trans e⟩
theorem po_M.of (h : sq_M q 0 I1 L) (ok : sq_Ok q) (f : fr_M I I1) (st : Nat) : po_M q I L st (am_u2 I1 103 2 (nI st)) := by
  obtain ⟨a, b, e⟩ := po_M.q0 h ok st
  exact ⟨a, b, f.trans e⟩
theorem sq_M.put (h : sq_M q 0 I L) {k : Nat} (hk : k < 38) (h2 : k ≠ 2) (h7 : k ≠ 7) (v : Nat) : sq_M (zu q k v) 0 (am_u2 I 104 k (nI v)) L := by
  refine ⟨fun i hi g => ?_, ?_, fun j hj i hi g => ?_, fun t ht => ?_⟩
  · rw [Nat.mul_zero, Nat.zero_add]
    unfold am_u2 zu
    by_cases e : i = k
    · subst e; simp
    · rw [if_neg (by omega), if_neg e]; exact h.nk hi g
  · have := h.2.1
    rw [Nat.mul_zero, Nat.zero_add] at this ⊢
    rw [zu_n (by omega)]
    unfold am_u2
    rw [if_neg (by omega)]; exact this
  · rw [zu_n (by omega)] at hj
    have := h.2.2.1 j hj i hi g
    rw [Nat.mul_zero, Nat.zero_add] at this ⊢
    rw [zu_n (by omega)]
    unfold am_u2
    rw [if_neg (by omega)]; exact this
  · rw [zu_n (by omega)] at ht ⊢
    exact h.2.2.2 t ht
theorem zu_seen {k : Nat} (h3 : k ≠ 3) (hk : ∀ h, k ≠ 13 + 4 * h) (v : Nat) : sq_seen (zu q k v) = sq_seen q := by
  unfold sq_seen
  rw [zu_n (by omega)]
  apply zs_cong
  intro i _
  rw [zu_n (fun e => hk i e.symm)]
theorem sq_U.putAt (h : sq_U q c d I L) (hcd : sq_cd c d) {m : Nat} (hm : m < 6) (v : Nat) : sq_U (zu q (10 + 4 * m) v) c d (am_u2 I (c + 2) m (nI v)) L := by
  obtain ⟨hc, hd⟩ := hcd
  refine ⟨?_, fun i hi => ?_, fun i hi => ?_, fun i hi => ?_, (h.dy.keep (fun r _ _ => am_u2_row _ _ _ _ (by omega))).cong (zu_n (by omega)) (fun k hk => zu_n (by omega))⟩
  · rw [am_u2_row _ _ _ _ (by omega), zu_seen (by omega) (by omega)]
    simp (disch := omega) only [zu_n]
    exact h.1
  · rw [zu_n (by omega)] at hi
    rw [am_u2_row I (c + 2) m (nI v) (a := c + 3) (by omega), am_u2_row I (c + 2) m (nI v) (a := c + 4) (by omega)]
    simp (disch := omega) only [zu_n]
    refine ⟨?_, h.lk hi, h.cn hi⟩
    unfold am_u2 zu
    by_cases e : i = m
    · subst e; simp
    · rw [if_neg (by omega), if_neg (by omega)]; exact h.at hi
  · rw [zu_n (by omega)] at hi
    rw [am_u2_row _ _ _ _ (by omega), zu_n (by omega)]; exact h.dg hi
  · rw [zu_n (by omega)] at hi ⊢; exact h.nm hi
theorem sq_U.putCn (h : sq_U q c d I L) (hcd : sq_cd c d) {m : Nat} (hm : m < 6) (v : Nat) : sq_U (zu q (12 + 4 * m) v) c d (am_u2 I (c + 3) m (nI v)) L := by
  obtain ⟨hc, hd⟩ := hcd
  refine ⟨?_, fun i hi => ?_, fun i hi => ?_, fun i hi => ?_, (h.dy.keep (fun r _ _ => am_u2_row _ _ _ _ (by omega))).cong (zu_n (by omega)) (fun k hk => zu_n (by omega))⟩
  · rw [am_u2_row _ _ _ _ (by omega), zu_seen (by omega) (by omega)]
    simp (disch := omega) only [zu_n]
    exact h.1
  · rw [zu_n (by omega)] at hi
    rw [am_u2_row I (c + 3) m (nI v) (a := c + 2) (by omega), am_u2_row I (c + 3) m (nI v) (a := c + 4) (by omega)]
    simp (disch := omega) only [zu_n]
    refine ⟨h.at hi, h.lk hi, ?_⟩
    unfold am_u2 zu
    by_cases e : i = m
    · subst e; simp
    · rw [if_neg (by omega), if_neg (by omega)]; exact h.cn hi
  · rw [zu_n (by omega)] at hi
    rw [am_u2_row _ _ _ _ (by omega), zu_n (by omega)]; exact h.dg hi
  · rw [zu_n (by omega)] at hi ⊢; exact h.nm hi
theorem sq_U.putLk (h : sq_U q c d I L) (hcd : sq_cd c d) {m : Nat} (hm : m < 6) (v : Nat) : sq_U (zu q (11 + 4 * m) v) c d (am_u2 I (c + 4) m (nI v)) L := by
  obtain ⟨hc, hd⟩ := hcd
  refine ⟨?_, fun i hi => ?_, fun i hi => ?_, fun i hi => ?_, (h.dy.keep (fun r _ _ => am_u2_row _ _ _ _ (by omega))).cong (zu_n (by omega)) (fun k hk => zu_n (by omega))⟩
  · rw [am_u2_row _ _ _ _ (by omega), zu_seen (by omega) (by omega)]
    simp (disch := omega) only [zu_n]
    exact h.1
  · rw [zu_n (by omega)] at hi
    rw [am_u2_row I (c + 4) m (nI v) (a := c + 2) (by omega), am_u2_row I (c + 4) m (nI v) (a := c + 3) (by omega)]
    simp (disch := omega) only [zu_n]
    refine ⟨h.at hi, ?_, h.cn hi⟩
    unfold am_u2 zu
    by_cases e : i = m
    · subst e; simp
    · rw [if_neg (by omega), if_neg (by omega)]; exact h.lk hi
  · rw [zu_n (by omega)] at hi
    rw [am_u2_row _ _ _ _ (by omega), zu_n (by omega)]; exact h.dg hi
  · rw [zu_n (by omega)] at hi ⊢; exact h.nm hi
/-- the object's own row changes at one of its numbers -/
theorem sq_U.putS (h : sq_U q c d I L) (hcd : sq_cd c d) {k s : Nat} (hk : k = 5 ∧ s = 8 ∨ k = 6 ∧ s = 9 ∨ k = 8 ∧ s = 13 ∨ k = 9 ∧ s = 14) (v : Nat) : sq_U (zu q k v) c d (am_u2 I c s (nI v)) L := by
  obtain ⟨hc, hd⟩ := hcd
  refine ⟨?_, fun i hi => ?_, fun i hi => ?_, fun i hi => ?_, (h.dy.keep (fun r _ _ => am_u2_row _ _ _ _ (by omega))).cong (zu_n (by omega)) (fun k hk => zu_n (by omega))⟩
  · rw [zu_seen (by omega) (by omega)]
    obtain ⟨a0, a1, a2, a3, a4, a5, a6, a7, a8, a9⟩ := h.1
    unfold am_u2 zu
    rcases hk with ⟨rfl, rfl⟩ | ⟨rfl, rfl⟩ | ⟨rfl, rfl⟩ | ⟨rfl, rfl⟩ <;> simp [a0, a1, a2, a3, a4, a5, a6, a7, a8, a9]
  · rw [zu_n (by omega)] at hi
    rw [am_u2_row _ _ _ _ (by omega), am_u2_row _ _ _ _ (by omega), am_u2_row _ _ _ _ (by omega)]
    simp (disch := omega) only [zu_n]
    exact h.2.1 i hi
  · rw [zu_n (by omega)] at hi
    rw [am_u2_row _ _ _ _ (by omega), zu_n (by omega)]; exact h.dg hi
  · rw [zu_n (by omega)] at hi ⊢; exact h.nm hi
theorem sq_Ok.put (ok : sq_Ok q) {k : Nat} (v : Nat) (h : (k = 5 ∧ v ≤ 16) ∨ (k = 6 ∧ v < q 0 * q 1) ∨ (k = 8 ∧ v ≤ 9999) ∨ k = 9 ∨ (∃ m, m < 6 ∧ ((k = 10 + 4 * m ∧ v < q 0 * q 1) ∨ (k = 11 + 4 * m ∧ v < 2 ^ q 2) ∨ (k = 12 + 4 * m ∧ v ≤ 99) ∨ (k = 13 + 4 * m ∧ v ≤ 1)))) : sq_Ok (zu q k v) := by
  have hk : 5 ≤ k ∧ k ≠ 7 ∧ k < 34 := by
    rcases h with h | h | h | h | ⟨m, h⟩ <;> omega
  obtain ⟨⟨o0, o1, o2, o6, o8⟩, oh, od, on, oy⟩ := ok
  refine ⟨?_, fun i hi => ?_, fun i hi => ?_, fun i hi => ?_, oy.keep (fun k hk => zu_n (by omega)) (zu_n (by omega)) (fun k hk => zu_n (by omega))⟩
  · simp (disch := omega) only [zu_n (i := 0), zu_n (i := 1), zu_n (i := 2), zu_n (i := 3), zu_n (i := 4)]
    refine ⟨o0, o1, ⟨o2.1, o2.2.1, o2.2.2.1, ?_⟩, ?_, ?_⟩
    · unfold zu; split
      · rcases h with h | h | h | h | ⟨m, h⟩ <;> omega
      · exact o2.2.2.2
    · unfold zu; split
      · rcases h with h | h | h | h | ⟨m, h⟩ <;> omega
      · exact o6
    · unfold zu; split
      · rcases h with h | h | h | h | ⟨m, h⟩ <;> omega
      · exact o8
  · simp (disch := omega) only [zu_n (i := 0), zu_n (i := 1), zu_n (i := 2), zu_n (i := 3)] at hi ⊢
    obtain ⟨a, b, e, f⟩ := oh i hi
    unfold zu
    refine ⟨?_, ?_, ?_, ?_⟩ <;> split <;> first | assumption | (rcases h with h | h | h | h | ⟨m, h⟩ <;> omega)
  · simp (disch := omega) only [zu_n (i := 0), zu_n (i := 1), zu_n (i := 4), zu_n (i := 34 + i)] at hi ⊢
    exact od i hi
  · simp (disch := omega) only [zu_n (i := 2), zu_n (i := 400 + i)] at hi ⊢
    exact on i hi
end
