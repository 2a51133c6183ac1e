/-! the fewest tunes by which some gather: pure -/
def zmin (f : Nat → Nat) (Z : Nat) : Nat → Nat
  | 0 => Z
  | n + 1 => min (zmin f Z n) (f n)
theorem zmin_le {f : Nat → Nat} {Z : Nat} : ∀ n, zmin f Z n ≤ Z
  | 0 => Nat.le_refl _
  | n + 1 => by have := zmin_le (f := f) (Z := Z) n; rw [zmin]; omega
theorem zmin_cong {f g : Nat → Nat} {Z : Nat} : ∀ {n}, (∀ i, i < n → f i = g i) → zmin f Z n = zmin g Z n
  | 0, _ => rfl
  | n + 1, h => by rw [zmin, zmin, zmin_cong (fun i hi => h i (by omega)), h n (by omega)]
theorem zmin_i {f : Nat → Nat} {Z : Nat} : ∀ {n i}, i < n → zmin f Z n ≤ f i
  | 0, i, h => by omega
  | n + 1, i, h => by
    rw [zmin]
    rcases Nat.lt_or_ge i n with g | g
    · have := zmin_i (f := f) (Z := Z) g; omega
    · rw [show i = n by omega]; omega
theorem zmin_at {f : Nat → Nat} {Z : Nat} : ∀ n, zmin f Z n = Z ∨ ∃ i, i < n ∧ zmin f Z n = f i
  | 0 => Or.inl rfl
  | n + 1 => by
    rw [zmin]
    rcases Nat.le_total (zmin f Z n) (f n) with g | g
    · rw [Nat.min_eq_left g]
      rcases zmin_at (f := f) (Z := Z) n with h | ⟨i, h1, h2⟩
      · exact Or.inl h
      · exact Or.inr ⟨i, by omega, h2⟩
    · rw [Nat.min_eq_right g]; exact Or.inr ⟨n, by omega, rfl⟩
theorem zmin_two {f g : Nat → Nat} {Z1 Z2 B : Nat} (h1 : B < Z1) (h2 : B < Z2) : ∀ n, (∀ i, i < n → (Z1 ≤ f i ∧ Z2 ≤ g i) ∨ (f i = g i ∧ f i ≤ B)) → (zmin f Z1 n = Z1 ∧ zmin g Z2 n = Z2) ∨ (zmin f Z1 n = zmin g Z2 n ∧ zmin f Z1 n ≤ B)
  | 0, _ => Or.inl ⟨rfl, rfl⟩
  | n + 1, h => by
    have a := zmin_two h1 h2 n (fun i hi => h i (by omega))
    have b := h n (by omega)
    rw [zmin, zmin]
    omega
/-- the first of n for which something holds, or n -/
def zfind (P : Nat → Bool) : Nat → Nat
  | 0 => 0
  | n + 1 => if zfind P n < n then zfind P n else if P n = true then n else n + 1
theorem zfind_le (P : Nat → Bool) : ∀ n, zfind P n ≤ n
  | 0 => Nat.le_refl _
  | n + 1 => by
    have := zfind_le P n
    rw [zfind]
    split
    · omega
    · split <;> omega
theorem zfind_no {P : Nat → Bool} : ∀ {n}, (∀ j, j < n → P j = false) → zfind P n = n
  | 0, _ => rfl
  | n + 1, h => by
    rw [zfind, zfind_no (fun j hj => h j (by omega)), if_neg (Nat.lt_irrefl _), h n (by omega), if_neg (by decide)]
theorem zfind_eq {P : Nat → Bool} {m : Nat} (h1 : P m = true) (h0 : ∀ j, j < m → P j = false) : ∀ {n}, m < n → zfind P n = m
  | 0, h => by omega
  | n + 1, h => by
    rw [zfind]
    rcases Nat.lt_or_ge m n with g | g
    · rw [zfind_eq h1 h0 g, if_pos g]
    · rw [show n = m by omega, zfind_no h0, if_neg (Nat.lt_irrefl _), if_pos h1]
theorem zfind_ex {P : Nat → Bool} {n : Nat} (h : ∃ j, j < n ∧ P j = true) : zfind P n < n ∧ P (zfind P n) = true ∧ ∀ j, j < zfind P n → P j = false := by
  obtain ⟨j, hj, hp⟩ := h
  obtain ⟨m, hm, h0⟩ := pk_least (fun j => P j = true) ⟨j, hp⟩
  have h0' : ∀ i, i < m → P i = false := fun i hi => by simpa using h0 i hi
  have hmn : m < n := by
    apply Classical.byContradiction
    intro g
    have := h0' j (by omega)
    rw [hp] at this; cases this
  rw [zfind_eq hm h0' hmn]
  exact ⟨hmn, hm, h0'⟩
/-- how far one still is behind a tune -/
def ga_lf (l t x : Nat) : Nat := if 0 < x ∧ l.testBit t = true then x - 1 else x
theorem ga_lf_le (l t x : Nat) : ga_lf l t x ≤ x := by unfold ga_lf; split <;> omega
theorem ga_lf_0 (l t : Nat) : ga_lf l t 0 = 0 := by unfold ga_lf; rw [if_neg (by omega)]
def ga (Z T l0 l1 l2 : Nat) : Nat → Nat → Nat → Nat → Nat
  | 0, _, _, _ => 0
  | n + 1, a, b, c => if a + b + c = 0 then 0 else zmin (fun t => if ga_lf l0 t a + ga_lf l1 t b + ga_lf l2 t c = a + b + c then Z else ga Z T l0 l1 l2 n (ga_lf l0 t a) (ga_lf l1 t b) (ga_lf l2 t c) + 1) Z T
section
variable {Z T l0 l1 l2 : Nat}
theorem ga_fuel : ∀ n m a b c, a + b + c ≤ n → a + b + c ≤ m → ga Z T l0 l1 l2 n a b c = ga Z T l0 l1 l2 m a b c := by
  intro n
  induction n with
  | zero =>
    intro m a b c h1 h2
    cases m with
    | zero => rfl
    | succ m => rw [ga, ga, if_pos (by omega)]
  | succ n ih =>
    intro m a b c h1 h2
    cases m with
    | zero => rw [ga, ga, if_pos (by omega)]
    | succ m =>
      rw [ga, ga]
      by_cases e : a + b + c = 0
      · rw [if_pos e, if_pos e]
      · rw [if_neg e, if_neg e]
        apply zmin_cong
        intro t _
        try dsimp only
        have x0 := ga_lf_le l0 t a
        have x1 := ga_lf_le l1 t b
        have x2 := ga_lf_le l2 t c
        by_cases e2 : ga_lf l0 t a + ga_lf l1 t b + ga_lf l2 t c = a + b + c
        · rw [if_pos e2, if_pos e2]
        · rw [if_neg e2, if_neg e2, ih m _ _ _ (by omega) (by omega)]
end
def gG (Z T l0 l1 l2 a b c : Nat) : Nat := ga Z T l0 l1 l2 (a + b + c) a b c
section
variable {Z Z1 Z2 T l0 l1 l2 : Nat}
theorem gG_rec (a b c : Nat) : gG Z T l0 l1 l2 a b c = if a + b + c = 0 then 0 else zmin (fun t => if ga_lf l0 t a + ga_lf l1 t b + ga_lf l2 t c = a + b + c then Z else gG Z T l0 l1 l2 (ga_lf l0 t a) (ga_lf l1 t b) (ga_lf l2 t c) + 1) Z T := by
  unfold gG
  rcases Nat.eq_zero_or_pos (a + b + c) with h | h
  · rw [h, if_pos rfl]; rfl
  · obtain ⟨n, hn⟩ : ∃ n, a + b + c = n + 1 := ⟨a + b + c - 1, by omega⟩
    rw [if_neg (by omega)]
    have e : ga Z T l0 l1 l2 (a + b + c) a b c = ga Z T l0 l1 l2 (n + 1) a b c := by rw [hn]
    rw [e, ga, if_neg (by omega)]
    apply zmin_cong
    intro t _
    try dsimp only
    have x0 := ga_lf_le l0 t a
    have x1 := ga_lf_le l1 t b
    have x2 := ga_lf_le l2 t c
    by_cases e2 : ga_lf l0 t a + ga_lf l1 t b + ga_lf l2 t c = a + b + c
    · rw [if_pos e2, if_pos e2]
    · rw [if_neg e2, if_neg e2, ga_fuel n _ _ _ _ (by omega) (Nat.le_refl _)]
theorem gG_two : ∀ n a b c, a + b + c ≤ n → n < Z1 → n < Z2 → (gG Z1 T l0 l1 l2 a b c = Z1 ∧ gG Z2 T l0 l1 l2 a b c = Z2) ∨ (gG Z1 T l0 l1 l2 a b c = gG Z2 T l0 l1 l2 a b c ∧ gG Z1 T l0 l1 l2 a b c ≤ n) := by
  intro n
  induction n with
  | zero =>
    intro a b c h h1 h2
    rw [gG_rec, gG_rec, if_pos (by omega), if_pos (by omega)]
    exact Or.inr ⟨rfl, Nat.le_refl _⟩
  | succ n ih =>
    intro a b c h h1 h2
    rw [gG_rec, gG_rec]
    by_cases e : a + b + c = 0
    · rw [if_pos e, if_pos e]; exact Or.inr ⟨rfl, by omega⟩
    · rw [if_neg e, if_neg e]
      refine zmin_two h1 h2 T (fun t _ => ?_)
      have x0 := ga_lf_le l0 t a
      have x1 := ga_lf_le l1 t b
      have x2 := ga_lf_le l2 t c
      try dsimp only
      by_cases e2 : ga_lf l0 t a + ga_lf l1 t b + ga_lf l2 t c = a + b + c
      · rw [if_pos e2, if_pos e2]; omega
      · rw [if_neg e2, if_neg e2]
        have := ih (ga_lf l0 t a) (ga_lf l1 t b) (ga_lf l2 t c) (by omega) (by omega) (by omega)
        omega
theorem gG_le (a b c : Nat) : gG Z T l0 l1 l2 a b c ≤ Z := by
  rw [gG_rec]
  split
  · omega
  · exact zmin_le T
/-- a tune that is the first of a shortest row -/
def gr_P (T l0 l1 l2 a b c t : Nat) : Bool := gG 1000 T l0 l1 l2 (ga_lf l0 t a) (ga_lf l1 t b) (ga_lf l2 t c) + 1 == gG 1000 T l0 l1 l2 a b c
def gr (T l0 l1 l2 : Nat) : Nat → Nat → Nat → Nat → Nat
  | 0, a, b, c => zfind (gr_P T l0 l1 l2 a b c) T
  | k + 1, a, b, c => gr T l0 l1 l2 k (ga_lf l0 (zfind (gr_P T l0 l1 l2 a b c) T) a) (ga_lf l1 (zfind (gr_P T l0 l1 l2 a b c) T) b) (ga_lf l2 (zfind (gr_P T l0 l1 l2 a b c) T) c)
theorem gr_ex {a b c : Nat} (h : 0 < gG 1000 T l0 l1 l2 a b c) (h2 : gG 1000 T l0 l1 l2 a b c < 1000) : ∃ t, t < T ∧ gr_P T l0 l1 l2 a b c t = true := by
  have e := gG_rec (Z := 1000) (T := T) (l0 := l0) (l1 := l1) (l2 := l2) a b c
  by_cases e0 : a + b + c = 0
  · rw [if_pos e0] at e; omega
  · rw [if_neg e0] at e
    rcases zmin_at (f := fun t => if ga_lf l0 t a + ga_lf l1 t b + ga_lf l2 t c = a + b + c then 1000 else gG 1000 T l0 l1 l2 (ga_lf l0 t a) (ga_lf l1 t b) (ga_lf l2 t c) + 1) (Z := 1000) T with g | ⟨t, h1, g⟩
    · omega
    · refine ⟨t, h1, ?_⟩
      rw [← e] at g
      unfold gr_P
      rw [beq_iff_eq]
      split at g <;> omega
theorem gr_P_Z {a b c : Nat} (h1000 : a + b + c < 1000) (h : 0 < gG 1000 T l0 l1 l2 a b c) (h2 : gG 1000 T l0 l1 l2 a b c < 1000) (t : Nat) : gr_P T l0 l1 l2 a b c t = true ↔ gG 1000000 T l0 l1 l2 (ga_lf l0 t a) (ga_lf l1 t b) (ga_lf l2 t c) = gG 1000000 T l0 l1 l2 a b c - 1 := by
  have x0 := ga_lf_le l0 t a
  have x1 := ga_lf_le l1 t b
  have x2 := ga_lf_le l2 t c
  have a1 := gG_two (Z1 := 1000) (Z2 := 1000000) (T := T) (l0 := l0) (l1 := l1) (l2 := l2) _ a b c (Nat.le_refl _) h1000 (by omega)
  have a2 := gG_two (Z1 := 1000) (Z2 := 1000000) (T := T) (l0 := l0) (l1 := l1) (l2 := l2) (a + b + c) (ga_lf l0 t a) (ga_lf l1 t b) (ga_lf l2 t c) (by omega) h1000 (by omega)
  unfold gr_P
  rw [beq_iff_eq]
  omega
end
/-- who is in a set: how many of the first m, and the i-th of them -/
def gw_c (s m : Nat) : Nat := zsum (fun h => (s.testBit h).toNat) m
def gw (s : Nat) : Nat → Nat → Nat
  | 0, _ => 0
  | m + 1, i => if s.testBit m = true ∧ i = gw_c s m then m else gw s m i
theorem gw_c_s (s m : Nat) : gw_c s (m + 1) = gw_c s m + (s.testBit m).toNat := rfl
theorem gw_lt (s : Nat) {i : Nat} : ∀ m, i < gw_c s m → gw s m i < m
  | 0, h => by rw [gw_c, zsum] at h; omega
  | m + 1, h => by
    rw [gw]
    split
    · omega
    · rename_i e
      rw [gw_c_s] at h
      have : i < gw_c s m := by
        cases g : s.testBit m with
        | false => rw [g] at h; exact h
        | true =>
          rw [g] at h e
          simp only [true_and] at e
          simp only [Bool.toNat_true] at h
          omega
      have := gw_lt s m this
      omega
theorem gw_3 : ∀ s, s < 64 → zp s ≤ 3 → ∀ m, m < 7 → gw_c s m ≤ 3 := by decide +kernel
theorem gw_b : ∀ s, s < 64 → zp s ≤ 3 → ∀ m, m < 6 → s.testBit m = true → gw_c s m < 3 := by decide +kernel
theorem gw_z : ∀ s, s < 64 → zp s ≤ 3 → ∀ m, m < 6 → gw_c s m = 3 → s.testBit m = false := by decide +kernel
section
variable {q : Nat → Nat}
def gw_f (q : Nat → Nat) (s m i : Nat) : Nat := if i < gw_c s m then sq_far (q 0) (q (10 + 4 * gw s m i)) (q 6) else 0
def gw_l (q : Nat → Nat) (s m i : Nat) : Nat := if i < gw_c s m then q (11 + 4 * gw s m i) else 0
theorem gw_no {s m : Nat} (h : s.testBit m = false) : gw_c s (m + 1) = gw_c s m ∧ gw s (m + 1) = gw s m := by
  refine ⟨by rw [gw_c_s, h]; rfl, ?_⟩
  funext i
  rw [gw, if_neg (by rw [h]; simp)]
theorem gw_yes {s m : Nat} (h : s.testBit m = true) (i : Nat) : gw_c s (m + 1) = gw_c s m + 1 ∧ (i = gw_c s m → gw s (m + 1) i = m) ∧ (i ≠ gw_c s m → gw s (m + 1) i = gw s m i) := by
  refine ⟨by rw [gw_c_s, h]; rfl, fun e => ?_, fun e => ?_⟩
  · rw [gw, if_pos ⟨h, e⟩]
  · rw [gw, if_neg (fun g => e g.2)]
theorem gw_f_no {s m : Nat} (h : s.testBit m = false) : gw_f q s (m + 1) = gw_f q s m ∧ gw_l q s (m + 1) = gw_l q s m := by
  obtain ⟨a, b⟩ := gw_no h
  refine ⟨?_, ?_⟩ <;> (funext i; simp only [gw_f, gw_l, a, b])
theorem gw_f_yes {s m : Nat} (h : s.testBit m = true) : gw_f q s (m + 1) = zu (gw_f q s m) (gw_c s m) (sq_far (q 0) (q (10 + 4 * m)) (q 6)) ∧ gw_l q s (m + 1) = zu (gw_l q s m) (gw_c s m) (q (11 + 4 * m)) := by
  have key : ∀ (g : Nat → Nat) (i : Nat), (if i < gw_c s (m + 1) then g (gw s (m + 1) i) else 0) = zu (fun i => if i < gw_c s m then g (gw s m i) else 0) (gw_c s m) (g m) i := by
    intro g i
    obtain ⟨a, b, c⟩ := gw_yes h i
    by_cases e : i = gw_c s m
    · rw [b e, if_pos (by omega)]; subst e; rw [zu_s]
    · rw [c e, zu_n e, a]
      simp only [show (i < gw_c s m + 1 ↔ i < gw_c s m) by omega]
  exact ⟨funext fun i => key (fun v => sq_far (q 0) (q (10 + 4 * v)) (q 6)) i, funext fun i => key (fun v => q (11 + 4 * v)) i⟩
theorem gw_f_le (ok : sq_Ok q) {s : Nat} (m i : Nat) (hm : m ≤ q 3) : gw_f q s m i ≤ 8 ∧ gw_l q s m i < 64 := by
  unfold gw_f gw_l
  by_cases e : i < gw_c s m
  · rw [if_pos e, if_pos e]
    have g := gw_lt s m e
    exact ⟨ok.far8 (ok.2.1 _ (by omega)).1 ok.1.2.2.2.1, ok.lk31 (by omega)⟩
  · rw [if_neg e, if_neg e]; omega
theorem gw_stop {s m : Nat} (hs : s < 64) (hz : zp s ≤ 3) (h : gw_c s m = 3) : ∀ n, m ≤ n → n ≤ 6 → gw_c s n = 3 ∧ gw_f q s n = gw_f q s m ∧ gw_l q s n = gw_l q s m := by
  intro n
  induction n with
  | zero => intro h1 _; rw [show m = 0 by omega] at h ⊢; exact ⟨h, rfl, rfl⟩
  | succ n ih =>
    intro h1 h2
    rcases Nat.lt_or_ge n m with g | g
    · rw [show m = n + 1 by omega] at h ⊢; exact ⟨h, rfl, rfl⟩
    · obtain ⟨a, b, c⟩ := ih g (by omega)
      have z := gw_z s hs hz n (by omega) a
      exact ⟨by rw [(gw_no z).1]; exact a, (gw_f_no z).1.trans b, (gw_f_no z).2.trans c⟩
end
