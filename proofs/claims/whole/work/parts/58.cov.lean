/-! the fewest throws: pure -/
theorem zan_sub (x y : Nat) : zan x y = 0 ↔ ∀ i, x.testBit i = true → y.testBit i = true := by
  constructor
  · intro h i hi
    have := zan_bit x y i
    rw [h, hi] at this
    simpa using this.symm
  · intro h
    apply Nat.eq_of_testBit_eq
    intro i
    rw [zan_bit, Nat.zero_testBit]
    cases e : x.testBit i with
    | false => rfl
    | true => rw [h i e]; rfl
theorem zan_or2 (a b c : Nat) : zan a (b ||| c) = zan (zan a b) c := by
  apply Nat.eq_of_testBit_eq
  intro i
  rw [zan_bit, zan_bit, zan_bit, Nat.testBit_or]
  cases a.testBit i <;> cases b.testBit i <;> cases c.testBit i <;> rfl
theorem zan_com (a b c : Nat) : zan (zan a b) c = zan (zan a c) b := by rw [← zan_or2, ← zan_or2, Nat.or_comm]
theorem zan_idem (a b : Nat) : zan (zan a b) b = zan a b := by rw [← zan_or2, Nat.or_self]
theorem zan_z (b : Nat) : zan 0 b = 0 := by unfold zan; rw [Nat.zero_and, Nat.xor_self]
theorem zan_lt {a b i : Nat} (h1 : a.testBit i = true) (h2 : b.testBit i = true) : zan a b < a := by
  have l := zan_le a b
  rcases Nat.lt_or_ge (zan a b) a with g | g
  · exact g
  · have e : zan a b = a := by omega
    have := zan_bit a b i
    rw [e, h1, h2] at this
    cases this
/-- the lowest member -/
def zlb (S : Nat) : Nat := zfind (fun i => S.testBit i) 8
theorem zlb_ok : ∀ S, S < 256 → S = 0 ∨ (zan S (S - 1) = 2 ^ zlb S ∧ S.testBit (zlb S) = true) := by decide +kernel
theorem zlow_i : ∀ S, S < 256 → nI S &&& (-nI S) = nI (if S = 0 then 0 else 2 ^ zlb S) := by decide +kernel
theorem and_pow (x b : Nat) : x &&& 2 ^ b = 0 ↔ x.testBit b = false := by
  constructor
  · intro h
    have := congrArg (fun y => y.testBit b) h
    simp only [Nat.testBit_and, Nat.testBit_two_pow_self, Bool.and_true, Nat.zero_testBit] at this
    exact this
  · intro h
    apply Nat.eq_of_testBit_eq
    intro i
    rw [Nat.testBit_and, Nat.testBit_two_pow, Nat.zero_testBit]
    by_cases e : b = i
    · subst e; rw [h]; rfl
    · simp [e]
section
variable {h : Nat → Nat} {C : Nat}
def cf (h : Nat → Nat) (C : Nat) : Nat → Nat → Nat
  | 0, _ => 0
  | m + 1, S => if S = 0 then 0 else zmin (fun c => if (h c).testBit (zlb S) = false then 1000 else cf h C m (zan S (h c)) + 1) 1000 C
theorem cf_fuel : ∀ m m' S, S < 256 → S ≤ m → S ≤ m' → cf h C m S = cf h C m' S := by
  intro m
  induction m with
  | zero =>
    intro m' S _ h1 h2
    cases m' with
    | zero => rfl
    | succ m' => rw [cf, cf, if_pos (by omega)]
  | succ m ih =>
    intro m' S hS h1 h2
    cases m' with
    | zero => rw [cf, cf, if_pos (by omega)]
    | succ m' =>
      rw [cf, cf]
      by_cases e : S = 0
      · rw [if_pos e, if_pos e]
      · rw [if_neg e, if_neg e]
        have zb := ((zlb_ok S hS).resolve_left e).2
        apply zmin_cong
        intro c _
        try dsimp only
        cases g : (h c).testBit (zlb S) with
        | false => rw [if_pos rfl, if_pos rfl]
        | true =>
          have zl := zan_lt zb g
          rw [if_neg (by decide), if_neg (by decide), ih m' _ (by omega) (by omega) (by omega)]
def cF (h : Nat → Nat) (C S : Nat) : Nat := cf h C S S
theorem cF_0 : cF h C 0 = 0 := rfl
theorem cF_rec {S : Nat} (hS : S < 256) (h0 : S ≠ 0) : cF h C S = zmin (fun c => if (h c).testBit (zlb S) = false then 1000 else cF h C (zan S (h c)) + 1) 1000 C := by
  have zb := ((zlb_ok S hS).resolve_left h0).2
  obtain ⟨m, hm⟩ : ∃ m, S = m + 1 := ⟨S - 1, by omega⟩
  have e : cF h C S = cf h C (m + 1) S := by rw [cF, hm]
  rw [e, cf, if_neg h0]
  apply zmin_cong
  intro c _
  try dsimp only
  cases g : (h c).testBit (zlb S) with
  | false => rw [if_pos rfl, if_pos rfl]
  | true =>
    have zl := zan_lt zb g
    rw [if_neg (by decide), if_neg (by decide), cF, cf_fuel m _ _ (by omega) (by omega) (Nat.le_refl _)]
theorem cF_le {S : Nat} (hS : S < 256) : cF h C S ≤ 1000 := by
  by_cases e : S = 0
  · rw [e, cF_0]; omega
  · rw [cF_rec hS e]; exact zmin_le C
/-- by k throws or fewer -/
def cv (h : Nat → Nat) (C : Nat) : Nat → Nat → Prop
  | 0, S => S = 0
  | k + 1, S => S = 0 ∨ ∃ c, c < C ∧ cv h C k (zan S (h c))
theorem cv_0 : ∀ k, cv h C k 0
  | 0 => rfl
  | _ + 1 => Or.inl rfl
theorem cv_mono : ∀ k S, cv h C k S → cv h C (k + 1) S
  | 0, S, g => Or.inl g
  | k + 1, S, g => by
    rcases g with g | ⟨c, hc, g⟩
    · exact Or.inl g
    · exact Or.inr ⟨c, hc, cv_mono k _ g⟩
theorem cv_swap : ∀ k S b, cv h C k S → S.testBit b = true → ∃ c k', c < C ∧ (h c).testBit b = true ∧ k = k' + 1 ∧ cv h C k' (zan S (h c))
  | 0, S, b, g, hb => by
    rw [show S = 0 from g, Nat.zero_testBit] at hb; cases hb
  | k + 1, S, b, g, hb => by
    rcases g with g | ⟨c, hc, g⟩
    · rw [g, Nat.zero_testBit] at hb; cases hb
    · cases e : (h c).testBit b with
      | true => exact ⟨c, k, hc, e, rfl, g⟩
      | false =>
        obtain ⟨c', k', h1, h2, h3, h4⟩ := cv_swap k (zan S (h c)) b g (by rw [zan_bit, hb, e]; rfl)
        refine ⟨c', k, h1, h2, rfl, ?_⟩
        rw [h3]
        exact Or.inr ⟨c, hc, by rw [zan_com]; exact h4⟩
theorem cF_cv : ∀ n S, S ≤ n → S < 256 → cF h C S < 1000 → cv h C (cF h C S) S := by
  intro n
  induction n with
  | zero => intro S hn _ _; rw [show S = 0 by omega]; exact cv_0 _
  | succ n ih =>
    intro S hn hS hl
    by_cases e : S = 0
    · rw [e]; exact cv_0 _
    · have zb := ((zlb_ok S hS).resolve_left e).2
      have r := cF_rec (h := h) (C := C) hS e
      rcases zmin_at (f := fun c => if (h c).testBit (zlb S) = false then 1000 else cF h C (zan S (h c)) + 1) (Z := 1000) C with g | ⟨c, hc, g⟩
      · omega
      · rw [← r] at g
        try dsimp only at g
        cases e2 : (h c).testBit (zlb S) with
        | false => rw [if_pos e2] at g; omega
        | true =>
          rw [if_neg (by rw [e2]; decide)] at g
          have zl := zan_lt zb e2
          rw [g]
          exact Or.inr ⟨c, hc, ih _ (by omega) (by omega) (by omega)⟩
theorem cv_cF : ∀ k S, S < 256 → cv h C k S → cF h C S ≤ k := by
  intro k
  induction k with
  | zero => intro S _ g; rw [show S = 0 from g, cF_0]; exact Nat.le_refl 0
  | succ k ih =>
    intro S hS g
    by_cases e : S = 0
    · rw [e, cF_0]; omega
    · have zb := ((zlb_ok S hS).resolve_left e).2
      obtain ⟨c, k', h1, h2, h3, h4⟩ := cv_swap _ _ _ g zb
      have hk : k = k' := by omega
      subst hk
      have zl := zan_le S (h c)
      have := ih _ (by omega) h4
      rw [cF_rec hS e]
      have z := zmin_i (f := fun c => if (h c).testBit (zlb S) = false then 1000 else cF h C (zan S (h c)) + 1) (Z := 1000) h1
      try dsimp only at z
      rw [if_neg (by rw [h2]; decide)] at z
      omega
theorem cF_step {S c : Nat} (hS : S < 256) (hc : c < C) (hl : cF h C (zan S (h c)) < 1000) : cF h C S ≤ cF h C (zan S (h c)) + 1 := by
  have zl := zan_le S (h c)
  exact cv_cF _ S hS (Or.inr ⟨c, hc, cF_cv _ _ (Nat.le_refl _) (by omega) hl⟩)
/-- by the last r cells, one by one -/
def cG (h : Nat → Nat) (C Z : Nat) : Nat → Nat → Nat
  | 0, S => if S = 0 then 0 else Z
  | r + 1, S => if S = 0 then 0 else min (cG h C Z r S) (1 + cG h C Z r (zan S (h (C - (r + 1)))))
section
variable {Z : Nat}
theorem cG_0 : ∀ r, cG h C Z r 0 = 0
  | 0 => by rw [cG, if_pos rfl]
  | r + 1 => by rw [cG, if_pos rfl]
theorem cG_le : ∀ r S, cG h C Z r S ≤ Z
  | 0, S => by rw [cG]; split <;> omega
  | r + 1, S => by
    have := cG_le r S
    rw [cG]; split <;> omega
theorem cG_down (r S : Nat) : cG h C Z (r + 1) S ≤ cG h C Z r S := by
  by_cases e : S = 0
  · rw [e, cG_0, cG_0]; exact Nat.le_refl 0
  · rw [cG, if_neg e]; omega
theorem cG_cv : ∀ r S, r ≤ C → cG h C Z r S < Z → cv h C (cG h C Z r S) S
  | 0, S, _, hl => by
    rw [cG] at hl ⊢
    split at hl
    · rename_i e; rw [e]; exact cv_0 _
    · omega
  | r + 1, S, hr, hl => by
    by_cases e : S = 0
    · rw [e]; exact cv_0 _
    · rw [cG, if_neg e] at hl ⊢
      rcases Nat.le_total (cG h C Z r S) (1 + cG h C Z r (zan S (h (C - (r + 1))))) with g | g
      · rw [Nat.min_eq_left g] at hl ⊢; exact cG_cv r S (by omega) hl
      · rw [Nat.min_eq_right g] at hl ⊢
        rw [Nat.add_comm]
        exact Or.inr ⟨C - (r + 1), by omega, cG_cv r _ (by omega) (by omega)⟩
theorem cG_any : ∀ r j S, j < r → cG h C Z r S ≤ 1 + cG h C Z r (zan S (h (C - (j + 1))))
  | 0, j, S, hj => by omega
  | r + 1, j, S, hj => by
    by_cases e : S = 0
    · rw [e, cG_0]; omega
    · rw [cG, if_neg e]
      by_cases ej : j = r
      · subst ej
        by_cases e2 : zan S (h (C - (j + 1))) = 0
        · rw [e2, cG_0, cG_0]; omega
        · have e3 : cG h C Z (j + 1) (zan S (h (C - (j + 1)))) = min (cG h C Z j (zan S (h (C - (j + 1))))) (1 + cG h C Z j (zan (zan S (h (C - (j + 1)))) (h (C - (j + 1))))) := by rw [cG, if_neg e2]
          rw [e3, zan_idem]; omega
      · have i1 := cG_any r j S (by omega)
        have i2 := cG_any r j (zan S (h (C - (r + 1)))) (by omega)
        by_cases e2 : zan S (h (C - (j + 1))) = 0
        · rw [e2, cG_0] at i1
          rw [e2, cG_0]; omega
        · have e3 : cG h C Z (r + 1) (zan S (h (C - (j + 1)))) = min (cG h C Z r (zan S (h (C - (j + 1))))) (1 + cG h C Z r (zan (zan S (h (C - (j + 1)))) (h (C - (r + 1))))) := by rw [cG, if_neg e2]
          rw [e3, zan_com]; omega
theorem cv_cG : ∀ k S, cv h C k S → cG h C Z C S ≤ k
  | 0, S, g => by rw [show S = 0 from g, cG_0]; exact Nat.le_refl 0
  | k + 1, S, g => by
    rcases g with g | ⟨c, hc, g⟩
    · rw [g, cG_0]; omega
    · have i := cv_cG k _ g
      have a := cG_any (h := h) (Z := Z) (C := C) C (C - (c + 1)) S (by omega)
      rw [show C - (C - (c + 1) + 1) = c by omega] at a
      omega
theorem cF_cG {S : Nat} (hS : S < 256) (hl : cF h C S < 1000) (hZ : 1000 < Z) : cG h C Z C S = cF h C S := by
  have a := cv_cG (Z := Z) _ _ (cF_cv _ S (Nat.le_refl _) hS hl)
  have b := cv_cF _ _ hS (cG_cv (h := h) (Z := Z) C S (Nat.le_refl _) (by omega))
  omega
theorem cF_leG {S r : Nat} (hS : S < 256) (hr : r ≤ C) (hl : cG h C Z r S < Z) : cF h C S ≤ cG h C Z r S := cv_cF _ _ hS (cG_cv r S hr hl)
/-- a cell with which a shortest row can begin -/
def cr_P (h : Nat → Nat) (C S c : Nat) : Bool := cF h C (zan S (h c)) + 1 == cF h C S
def cr (h : Nat → Nat) (C : Nat) : Nat → Nat → Nat
  | 0, S => zfind (cr_P h C S) C
  | k + 1, S => cr h C k (zan S (h (zfind (cr_P h C S) C)))
theorem cr_ex {S : Nat} (hS : S < 256) (h0 : S ≠ 0) (hl : cF h C S < 1000) : ∃ c, c < C ∧ cr_P h C S c = true := by
  have r := cF_rec (h := h) (C := C) hS h0
  rcases zmin_at (f := fun c => if (h c).testBit (zlb S) = false then 1000 else cF h C (zan S (h c)) + 1) (Z := 1000) C with g | ⟨c, hc, g⟩
  · omega
  · rw [← r] at g
    try dsimp only at g
    refine ⟨c, hc, ?_⟩
    unfold cr_P
    rw [beq_iff_eq]
    split at g <;> omega
theorem cF_pos {S : Nat} (hS : S < 256) (h0 : S ≠ 0) (hl : cF h C S < 1000) : 0 < cF h C S := by
  obtain ⟨c, _, g⟩ := cr_ex hS h0 hl
  unfold cr_P at g
  rw [beq_iff_eq] at g
  omega
/-- what the reference keeps as it goes along the cells: those behind are as good, none ahead is good -/
def cI (h : Nat → Nat) (C Z c S : Nat) : Prop := cG h C Z (C - c) S = cF h C S ∧ ∀ c', c' < c → S ≠ 0 → cr_P h C S c' = false
theorem cI_no {c S M : Nat} (hM : M ≤ 256) (hSM : S < M) (hc : c < C) (hZ : 1000 < Z) (f0 : ∀ S, S < M → cF h C S < 1000) (hi : cI h C Z c S) (h0 : S ≠ 0) (hn : ¬ 1 + cG h C Z (C - (c + 1)) (zan S (h c)) = cG h C Z (C - c) S) : cI h C Z (c + 1) S ∧ cr_P h C S c = false := by
  have hS : S < 256 := by omega
  obtain ⟨a, b⟩ := hi
  have cr1 : C - c = C - (c + 1) + 1 := by omega
  have cc : C - (C - (c + 1) + 1) = c := by omega
  have fl := f0 S hSM
  have zl := zan_le S (h c)
  have e1 : cG h C Z (C - (c + 1)) S = cF h C S := by
    have a' := a
    rw [cr1, cG, if_neg h0, cc] at a'
    rw [a] at hn
    omega
  have good : cr_P h C S c = false := by
    cases g : cr_P h C S c with
    | false => rfl
    | true =>
      exfalso
      unfold cr_P at g
      rw [beq_iff_eq] at g
      have hT : zan S (h c) < 256 := by omega
      have hall : ∀ x, x ≤ c + 1 → cG h C Z (C - x) (zan S (h c)) = cF h C (zan S (h c)) := by
        intro x
        induction x with
        | zero => intro _; exact cF_cG hT (f0 _ (by omega)) hZ
        | succ x ih =>
          intro hx
          have i := ih (by omega)
          by_cases e0 : zan S (h c) = 0
          · rw [e0, cG_0, cF_0]
          · rw [show C - x = C - (x + 1) + 1 by omega, cG, if_neg e0, show C - (C - (x + 1) + 1) = x by omega] at i
            rcases Nat.le_total (cG h C Z (C - (x + 1)) (zan S (h c))) (1 + cG h C Z (C - (x + 1)) (zan (zan S (h c)) (h x))) with g1 | g1
            · rw [Nat.min_eq_left g1] at i; exact i
            · rw [Nat.min_eq_right g1] at i
              exfalso
              have z2 := zan_le (zan S (h c)) (h x)
              have l := cF_leG (h := h) (C := C) (Z := Z) (S := zan (zan S (h c)) (h x)) (r := C - (x + 1)) (by omega) (by omega) (by omega)
              by_cases ex : x = c
              · subst ex
                rw [zan_idem] at l i
                omega
              · have hx2 : zan S (h x) < 256 := by have := zan_le S (h x); omega
                have s := cF_step (h := h) (C := C) (S := zan S (h x)) (c := c) hx2 hc (f0 _ (by have := zan_le (zan S (h x)) (h c); have := zan_le S (h x); omega))
                rw [zan_com] at s
                have s2 := cF_step (h := h) (C := C) (S := S) (c := x) hS (by omega) (f0 _ (by have := zan_le S (h x); omega))
                have bx := b x (by omega) h0
                unfold cr_P at bx
                have bx2 : ¬ cF h C (zan S (h x)) + 1 = cF h C S := by simpa using bx
                omega
      have e3 := hall (c + 1) (Nat.le_refl _)
      rw [e3, a] at hn
      omega
  refine ⟨⟨e1, fun c' hc' _ => ?_⟩, good⟩
  by_cases e : c' = c
  · rw [e]; exact good
  · exact b c' (by omega) h0
theorem cI_yes {c S M : Nat} (hM : M ≤ 256) (hSM : S < M) (hc : c < C) (hZ : 1000 < Z) (f0 : ∀ S, S < M → cF h C S < 1000) (hi : cI h C Z c S) (h0 : S ≠ 0) (hy : 1 + cG h C Z (C - (c + 1)) (zan S (h c)) = cG h C Z (C - c) S) : cI h C Z (c + 1) (zan S (h c)) ∧ zfind (cr_P h C S) C = c ∧ cF h C (zan S (h c)) + 1 = cF h C S := by
  obtain ⟨a, b⟩ := hi
  have hS : S < 256 := by omega
  have fl := f0 S hSM
  have zl := zan_le S (h c)
  have hT : zan S (h c) < 256 := by omega
  have l := cF_leG (h := h) (C := C) (Z := Z) (S := zan S (h c)) (r := C - (c + 1)) hT (by omega) (by omega)
  have s := cF_step (h := h) (C := C) (S := S) (c := c) hS hc (f0 _ (by omega))
  have e : cF h C (zan S (h c)) + 1 = cF h C S := by omega
  have g : cr_P h C S c = true := by unfold cr_P; rw [beq_iff_eq]; exact e
  refine ⟨⟨by omega, fun c' hc' hz => ?_⟩, zfind_eq g (fun j hj => b j hj h0) hc, e⟩
  cases g2 : cr_P h C (zan S (h c)) c' with
  | false => rfl
  | true =>
    exfalso
    unfold cr_P at g2
    rw [beq_iff_eq] at g2
    by_cases ex : c' = c
    · subst ex
      rw [zan_idem] at g2; omega
    · have hx2 : zan S (h c') < 256 := by have := zan_le S (h c'); omega
      have s1 := cF_step (h := h) (C := C) (S := zan S (h c')) (c := c) hx2 hc (f0 _ (by have := zan_le (zan S (h c')) (h c); have := zan_le S (h c'); omega))
      rw [zan_com] at s1
      have s2 := cF_step (h := h) (C := C) (S := S) (c := c') hS (by omega) (f0 _ (by have := zan_le S (h c'); omega))
      have bx := b c' (by omega) h0
      unfold cr_P at bx
      have bx2 : ¬ cF h C (zan S (h c')) + 1 = cF h C S := by simpa using bx
      omega
end
/-- each of the wanted is hit by a throw at its own cell -/
theorem cv_all {w : Nat → Nat} {n : Nat} (hw : ∀ i, i < n → w i < C ∧ (h (w i)).testBit i = true) : ∀ k S, k ≤ n → S < 2 ^ k → cv h C k S
  | 0, S, _, hS => by
    have : S = 0 := by simpa using hS
    exact this
  | k + 1, S, hk, hS => by
    obtain ⟨a, b⟩ := hw k (by omega)
    refine Or.inr ⟨w k, a, cv_all hw k _ (by omega) ?_⟩
    have zl := zan_le S (h (w k))
    apply Nat.lt_pow_two_of_testBit
    intro i hi
    rw [zan_bit]
    by_cases e : i = k
    · subst e; rw [b]; simp
    · rw [Nat.testBit_lt_two_pow (Nat.lt_of_lt_of_le hS (Nat.pow_le_pow_right (by decide) (by omega)))]; rfl
end
