/-! the cells in the order of their making (the class, then the reference), where final references point, and what stays so of the references -/
def am_SH : List am_Sh := [.inl 11, .inr (4, 4), .inl 9, .inr (1, 900), .inr (3, 25), .inr (0, 901), .inr (0, 901), .inr (3, 901), .inl 8, .inl 2, .inr (0, 3), .inr (5, 3), .inl 4, .inr (0, 60), .inl 4, .inr (0, 60), .inl 6, .inr (0, 729), .inr (0, 6), .inr (0, 6), .inr (0, 6), .inl 5, .inr (0, 25), .inr (0, 16), .inl 0, .inr (0, 25), .inr (0, 256), .inl 3, .inr (0, 6), .inl 7, .inr (3, 6), .inr (0, 6), .inr (0, 6), .inr (0, 6), .inr (0, 4), .inl 1, .inr (0, 60), .inr (0, 60), .inr (0, 60), .inr (0, 60), .inr (0, 60), .inl 7, .inr (3, 6), .inr (0, 6), .inr (0, 6), .inr (0, 6), .inr (0, 4), .inl 1, .inr (0, 60), .inr (0, 60), .inr (0, 60), .inr (0, 60), .inr (0, 60), .inl 1, .inr (0, 60), .inr (0, 60), .inr (0, 60), .inr (0, 60), .inr (0, 60), .inl 10, .inr (3, 60), .inl 10, .inr (3, 60), .inl 10, .inr (3, 60), .inl 10, .inr (3, 60), .inl 7, .inr (3, 6), .inr (0, 6), .inr (0, 6), .inr (0, 6), .inr (0, 4), .inl 1, .inr (0, 60), .inr (0, 60), .inr (0, 60), .inr (0, 60), .inr (0, 60), .inl 7, .inr (3, 6), .inr (0, 6), .inr (0, 6), .inr (0, 6), .inr (0, 4), .inl 1, .inr (0, 60), .inr (0, 60), .inr (0, 60), .inr (0, 60), .inr (0, 60), .inl 7, .inr (3, 6), .inr (0, 6), .inr (0, 6), .inr (0, 6), .inr (0, 4), .inl 1, .inr (0, 60), .inr (0, 60), .inr (0, 60), .inr (0, 60), .inr (0, 60), .inl 12, .inr (0, 2258), .inr (3, 36), .inr (0, 4), .inr (0, 4), .inr (3, 240), .inr (1, 900), .inr (1, 900), .inr (0, 3), .inr (0, 729), .inr (0, 3), .inr (0, 5), .inr (0, 5), .inr (0, 25), .inr (0, 25), .inr (0, 80), .inr (0, 80), .inr (0, 6656), .inr (2, 64), .inr (2, 64), .inr (0, 6), .inr (0, 5), .inr (0, 5), .inr (0, 5), .inr (0, 5), .inr (0, 5), .inr (3, 7), .inr (0, 80), .inr (0, 5), .inr (0, 5)]
def am_offs : List (List (Option Nat)) := [[some 1, some 2, none, none], [some 1, some 2, some 3, some 4, some 5, none, none, none], [some 1, none], [some 1, none, none], [some 1, none, none, none, none, none, none, none, none, none, none, none], [some 1, some 2, none], [some 1, some 2, some 3, some 4, none, none], [some 1, some 2, some 3, some 4, some 5, none, none, none, none, none, none, none, none, none, none, none], [none, none, none], [some 1, some 2, some 3, some 4, some 5, none, none, none, none, none, none, none], [some 1, none, none], [some 1, some 2, some 8, some 9, some 11, some 12, some 14, some 16, some 21, some 24, some 27, none, none, none, none, none, none, none], [some 1, some 2, none, none, none, some 3, some 4, some 5, some 6, some 7, none, none, none, none, none, none, none, none, none, none, none, some 8, none, none, some 9, some 10, none, some 11, some 12, some 13, some 14, some 15, some 16, none, some 17, some 18, some 19, some 20, some 21, some 22, some 23, some 24, some 25, some 26, none, none, some 27, some 28, some 29, none, none]]
def am_oshs : List (List am_Sh) := [[.inr (0, 25), .inr (0, 256), .inl 0, .inl 0], [.inr (0, 60), .inr (0, 60), .inr (0, 60), .inr (0, 60), .inr (0, 60), .inl 0, .inl 0, .inl 0], [.inr (0, 3), .inl 0], [.inr (0, 6), .inl 0, .inl 0], [.inr (0, 60), .inl 0, .inl 0, .inl 0, .inl 0, .inl 0, .inl 0, .inl 0, .inl 0, .inl 0, .inl 0, .inl 0], [.inr (0, 25), .inr (0, 16), .inl 0], [.inr (0, 729), .inr (0, 6), .inr (0, 6), .inr (0, 6), .inl 0, .inl 0], [.inr (3, 6), .inr (0, 6), .inr (0, 6), .inr (0, 6), .inr (0, 4), .inl 0, .inl 0, .inl 0, .inl 0, .inl 0, .inl 0, .inl 0, .inl 0, .inl 0, .inl 0, .inl 0], [.inl 0, .inl 0, .inl 0], [.inr (1, 900), .inr (3, 25), .inr (0, 901), .inr (0, 901), .inr (3, 901), .inl 0, .inl 0, .inl 0, .inl 0, .inl 0, .inl 0, .inl 0], [.inr (3, 60), .inl 0, .inl 0], [.inr (4, 4), .inl 9, .inl 8, .inl 2, .inr (5, 3), .inl 4, .inl 4, .inl 6, .inl 5, .inl 0, .inl 3, .inl 0, .inl 0, .inl 0, .inl 0, .inl 0, .inl 0, .inl 0], [.inr (0, 2258), .inr (3, 36), .inl 0, .inl 0, .inl 0, .inr (0, 4), .inr (0, 4), .inr (3, 240), .inr (1, 900), .inr (1, 900), .inl 0, .inl 0, .inl 0, .inl 0, .inl 0, .inl 0, .inl 0, .inl 0, .inl 0, .inl 0, .inl 0, .inr (0, 3), .inl 0, .inl 0, .inr (0, 729), .inr (0, 3), .inl 0, .inr (0, 5), .inr (0, 5), .inr (0, 25), .inr (0, 25), .inr (0, 80), .inr (0, 80), .inl 0, .inr (0, 6656), .inr (2, 64), .inr (2, 64), .inr (0, 6), .inr (0, 5), .inr (0, 5), .inr (0, 5), .inr (0, 5), .inr (0, 5), .inr (3, 7), .inl 0, .inl 0, .inr (0, 80), .inr (0, 5), .inr (0, 5), .inl 0, .inl 0]]
def am_tgts : List (List (Option Nat)) := [[none, none, none, none], [none, none, none, none, none, none, none, none], [none, none], [none, none, none], [none, none, none, none, none, none, none, none, none, none, none, none], [none, none, none], [none, none, none, none, none, none], [none, none, none, none, none, some 1, none, none, none, none, none, none, none, none, none, none], [none, none, none], [none, none, none, none, none, none, none, none, none, none, none, none], [none, none, none], [none, none, none, none, none, none, none, none, none, none, none, some 7, some 7, some 1, none, none, none, none], [none, none, none, none, none, none, none, none, none, none, none, none, none, none, none, none, none, none, none, none, none, none, none, none, none, none, none, none, none, none, none, none, none, none, none, none, none, none, none, none, none, none, none, none, none, none, none, none, none, none, none]]
def am_off (ci k : Nat) : Option Nat := (am_offs.getD ci []).getD k none
def am_osh (ci k : Nat) : am_Sh := (am_oshs.getD ci []).getD k (.inl 0)
def am_tgt (ci k : Nat) : Option Nat := (am_tgts.getD ci []).getD k none
theorem am_sho_all : ∀ q, q < 133 → ∀ ci, ci < 13 → am_SH[q]? = some (.inl ci) → ∀ k, k < 51 → ∀ o, o < 30 → am_off ci k = some o → am_SH[q + o]? = some (am_osh ci k) := by
  have h : (List.range 133).all (fun q => (List.range 13).all (fun ci => !(decide (am_SH[q]? = some (.inl ci))) || (List.range 51).all (fun k => match am_off ci k with
    | some o => decide (am_SH[q + o]? = some (am_osh ci k))
    | none => true))) = true := by decide +kernel
  intro q hq ci hci hs k hk o ho hoff
  have h1 := List.all_eq_true.mp (List.all_eq_true.mp h q (List.mem_range.mpr hq)) ci (List.mem_range.mpr hci)
  simp only [hs, decide_true, Bool.not_true, Bool.false_or] at h1
  have h2 := List.all_eq_true.mp h1 k (List.mem_range.mpr hk)
  rw [hoff] at h2
  exact of_decide_eq_true h2
theorem am_SH_lt {q : Nat} {h : am_Sh} (hq : am_SH[q]? = some h) : q < 133 := (List.getElem?_eq_some_iff.mp hq).1
theorem am_sho {q ci k o : Nat} (hq : am_SH[q]? = some (.inl ci)) (hci : ci < 13) (hk : k < 51) (ho : o < 30) (h : am_off ci k = some o) : am_SH[q + o]? = some (am_osh ci k) := am_sho_all q (am_SH_lt hq) ci hci hq k hk o ho h
/-- the references are well formed: final fields point where they were made, the others at an object of their class; the rows of trays and of marks -/
def am_Wf (R : Nat → Nat → Option Nat) : Prop :=
  (∀ q ci k o, am_SH[q]? = some (.inl ci) → am_off ci k = some o → R q k = some (q + o)) ∧
  (∀ q ci k t, am_SH[q]? = some (.inl ci) → am_tgt ci k = some t → ∃ x, R q k = some x ∧ am_SH[x]? = some (.inl t)) ∧
  (∀ i, i < 4 → R 1 i = some (59 + 2 * i)) ∧ (∀ i, i < 3 → R 11 i = some (67 + 12 * i))
/-- the cell that a reference names -/
def am_rd (R : Nat → Nat → Option Nat) (q k : Nat) : Nat := (R q k).getD 0
theorem am_Wf.rd {R : Nat → Nat → Option Nat} (h : am_Wf R) {q ci k t : Nat} (hq : am_SH[q]? = some (.inl ci)) (ht : am_tgt ci k = some t) : R q k = some (am_rd R q k) ∧ am_SH[am_rd R q k]? = some (.inl t) := by
  obtain ⟨x, h1, h2⟩ := h.2.1 q ci k t hq ht
  rw [am_rd, h1]
  exact ⟨rfl, h2⟩
theorem am_Wf.put {R : Nat → Nat → Option Nat} (h : am_Wf R) {q ci k t x : Nat} (hq : am_SH[q]? = some (.inl ci)) (hof : am_off ci k = none) (ht : am_tgt ci k = some t) (hx : am_SH[x]? = some (.inl t)) : am_Wf (am_u2 R q k (some x)) := by
  refine ⟨fun q' ci' k' o' g1 g2 => ?_, fun q' ci' k' t' g1 g2 => ?_, fun i hi => ?_, fun i hi => ?_⟩
  · unfold am_u2
    rw [if_neg]
    · exact h.1 q' ci' k' o' g1 g2
    · rintro ⟨rfl, rfl⟩
      rw [hq] at g1; cases g1
      rw [hof] at g2; cases g2
  · by_cases e : q' = q ∧ k' = k
    · obtain ⟨rfl, rfl⟩ := e
      rw [hq] at g1; cases g1
      rw [ht] at g2; cases g2
      exact ⟨x, am_u2_at _ _ _ _, hx⟩
    · obtain ⟨y, a1, a2⟩ := h.2.1 q' ci' k' t' g1 g2
      refine ⟨y, ?_, a2⟩
      unfold am_u2
      rw [if_neg e]; exact a1
  · unfold am_u2
    rw [if_neg]
    · exact h.2.2.1 i hi
    · rintro ⟨rfl, -⟩; cases hq
  · unfold am_u2
    rw [if_neg]
    · exact h.2.2.2 i hi
    · rintro ⟨rfl, -⟩; cases hq
theorem am_Wf.putFree {R : Nat → Nat → Option Nat} (h : am_Wf R) {q ci k : Nat} (v : Option Nat) (hq : am_SH[q]? = some (.inl ci)) (hof : am_off ci k = none) (ht : am_tgt ci k = none) : am_Wf (am_u2 R q k v) := by
  refine ⟨fun q' ci' k' o' g1 g2 => ?_, fun q' ci' k' t' g1 g2 => ?_, fun i hi => ?_, fun i hi => ?_⟩
  · unfold am_u2
    rw [if_neg]
    · exact h.1 q' ci' k' o' g1 g2
    · rintro ⟨rfl, rfl⟩
      rw [hq] at g1; cases g1
      rw [hof] at g2; cases g2
  · unfold am_u2
    rw [if_neg]
    · exact h.2.1 q' ci' k' t' g1 g2
    · rintro ⟨rfl, rfl⟩
      rw [hq] at g1; cases g1
      rw [ht] at g2; cases g2
  · unfold am_u2
    rw [if_neg]
    · exact h.2.2.1 i hi
    · rintro ⟨rfl, -⟩; cases hq
  · unfold am_u2
    rw [if_neg]
    · exact h.2.2.2 i hi
    · rintro ⟨rfl, -⟩; cases hq
theorem am_in_lt {i : Int32} {w : Nat} (h : vp_in i w) : i.toNatClampNeg < w := Nat.not_le.mp fun q => h (Or.inr q)
theorem am_Wf.tray {R : Nat → Nat → Option Nat} (h : am_Wf R) {q : Nat} (hq : am_SH[q]? = some (.inr (4, 4))) {i : Nat} (hi : i < 4) : R q i = some (am_rd R q i) ∧ am_SH[am_rd R q i]? = some (.inl 10) := by
  have hu : ∀ z, z < 133 → am_SH[z]? = some (.inr (4, 4)) → z = 1 := by decide +kernel
  cases hu q (am_SH_lt hq) hq
  rw [am_rd, h.2.2.1 i hi]
  have : ∀ i, i < 4 → am_SH[59 + 2 * i]? = some (.inl 10) := by decide +kernel
  exact ⟨rfl, this i hi⟩
theorem am_Wf.marked {R : Nat → Nat → Option Nat} (h : am_Wf R) {q : Nat} (hq : am_SH[q]? = some (.inr (5, 3))) {i : Nat} (hi : i < 3) : R q i = some (am_rd R q i) ∧ am_SH[am_rd R q i]? = some (.inl 7) := by
  have hu : ∀ z, z < 133 → am_SH[z]? = some (.inr (5, 3)) → z = 11 := by decide +kernel
  cases hu q (am_SH_lt hq) hq
  rw [am_rd, h.2.2.2 i hi]
  have : ∀ i, i < 3 → am_SH[67 + 12 * i]? = some (.inl 7) := by decide +kernel
  exact ⟨rfl, this i hi⟩
/-- booleans as ints -/
def am_b : Bool → Int32
  | true => 1
  | false => 0
theorem am_b_01 (b : Bool) : am_b b = 0 ∨ am_b b = 1 := by cases b <;> first | exact Or.inl rfl | exact Or.inr rfl
theorem am_b_nar (b : Bool) : narrow .boolean (.int (am_b b)) = .int (am_b b) := by cases b <;> rfl
theorem am_b_0 {b : Bool} (h : am_b b = 0) : b = false := by
  cases b with
  | false => rfl
  | true => exact absurd h (by decide)
theorem am_b_n0 {b : Bool} (h : ¬ am_b b = 0) : b = true := by
  cases b with
  | true => rfl
  | false => exact absurd rfl h
/-- fewer locals told -/
def am_le : List (Option Value) → List (Option Value) → Prop
  | [], _ => True
  | none :: a, _ :: b => am_le a b
  | some v :: a, o :: b => o = some v ∧ am_le a b
  | _ :: _, [] => False
theorem am_le_at : ∀ (a b : List (Option Value)), am_le a b → ∀ (i : Nat) (v : Value), a[i]? = some (some v) → b[i]? = some (some v)
  | [], _, _, i, v, h => by simp at h
  | none :: a, o :: b, hl, i, v, h => by
    match i, h with
    | 0, h => cases h
    | i + 1, h => exact am_le_at a b hl i v h
  | some w :: a, o :: b, hl, i, v, h => by
    match i, h with
    | 0, h => cases h; exact congrArg some hl.1
    | i + 1, h => exact am_le_at a b hl.2 i v h
  | none :: _, [], hl, _, _, _ => hl.elim
  | some _ :: _, [], hl, _, _, _ => hl.elim
theorem am_forget {μ : am_M} {kc ks pc : Nat} {ls ls' : List (Option Value)} {st : List Value} {σ : am_St} {Q : Option Value → am_St → Prop} (hl : am_le ls' ls) (k : am_Wp μ kc ks pc ls' st σ Q) : am_Wp μ kc ks pc ls st σ Q :=
  fun p l e Rm s m args below meth c H locs cells slots QQ G ad A lsA hC h1 h2 h3 hR hret => k p l e Rm s m args below meth c H locs cells slots QQ G ad A lsA hC h1 h2 ⟨h3.1, h3.2.1, fun i v hi => h3.2.2 i v (am_le_at ls' ls hl i v hi)⟩ hR hret
