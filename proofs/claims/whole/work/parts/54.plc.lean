/-! sets of cells by the dogs that would be up: in- and exclusion (pure) -/
def zsI (f : Nat → Int) : Nat → Int
  | 0 => 0
  | n + 1 => zsI f n + f n
theorem zsI_cong {f g : Nat → Int} : ∀ {n}, (∀ i, i < n → f i = g i) → zsI f n = zsI g n
  | 0, _ => rfl
  | n + 1, h => by rw [zsI, zsI, zsI_cong (fun i hi => h i (by omega)), h n (by omega)]
theorem zsI_add (f g : Nat → Int) : ∀ n, zsI (fun i => f i + g i) n = zsI f n + zsI g n
  | 0 => rfl
  | n + 1 => by rw [zsI, zsI, zsI, zsI_add f g n]; omega
theorem zsI_0 : ∀ n, zsI (fun _ => 0) n = 0
  | 0 => rfl
  | n + 1 => by rw [zsI, zsI_0 n]; rfl
theorem zsI_mul (f : Nat → Int) (x : Int) : ∀ n, zsI (fun i => f i * x) n = zsI f n * x
  | 0 => by rw [zsI, zsI, Int.zero_mul]
  | n + 1 => by rw [zsI, zsI, zsI_mul f x n, Int.add_mul]
theorem zsI_comm (f : Nat → Nat → Int) (m : Nat) : ∀ n, zsI (fun i => zsI (fun j => f i j) m) n = zsI (fun j => zsI (fun i => f i j) n) m
  | 0 => by
    rw [zsI]
    exact (zsI_0 m).symm
  | n + 1 => by
    rw [zsI, zsI_comm f m n, ← zsI_add]
    exact zsI_cong (fun j _ => by rw [zsI])
/-- how many sets of k out of n -/
def pc_c : Nat → Nat → Nat
  | _, 0 => 1
  | 0, _ + 1 => 0
  | n + 1, k + 1 => pc_c n (k + 1) + pc_c n k
theorem pc_c0 (n : Nat) : pc_c n 0 = 1 := by cases n <;> rfl
theorem pc_z (k : Nat) : pc_c 0 (k + 1) = 0 := rfl
theorem pc_s (n k : Nat) : pc_c (n + 1) (k + 1) = pc_c n (k + 1) + pc_c n k := rfl
theorem pc_lt : ∀ n k, n < k → pc_c n k = 0
  | 0, 0, h => by omega
  | 0, k + 1, _ => rfl
  | n + 1, 0, h => by omega
  | n + 1, k + 1, h => by rw [pc_s, pc_lt n (k + 1) (by omega), pc_lt n k (by omega)]
/-- the sign with which a set is counted -/
def pc_co (D S : Nat) : Int := if zan S D = 0 then (if zp (D ^^^ S) % 2 = 0 then 1 else -1) else 0
theorem zan_or (a b s : Nat) : zan (a ||| b) s = 0 ↔ zan a s = 0 ∧ zan b s = 0 := by
  have key : ∀ x y : Nat, zan x y = 0 ↔ ∀ i, x.testBit i = true → y.testBit i = true := by
    intro x y
    constructor
    · intro h i hi
      have := zan_bit x y i
      rw [h, hi] at this
      simpa using this.symm
    · intro h
      apply Nat.eq_of_testBit_eq
      intro i
      rw [zan_bit, Nat.zero_testBit]
      cases e : x.testBit i with
      | false => rfl
      | true => rw [h i e]; rfl
  rw [key, key, key]
  constructor
  · intro h
    exact ⟨fun i hi => h i (by rw [Nat.testBit_or, hi]; rfl), fun i hi => h i (by rw [Nat.testBit_or, hi, Bool.or_true])⟩
  · rintro ⟨h1, h2⟩ i hi
    rw [Nat.testBit_or, Bool.or_eq_true] at hi
    rcases hi with hi | hi
    · exact h1 i hi
    · exact h2 i hi
theorem pc_id0 : ∀ dg, dg < 16 → ∀ D, D < 16 → zsI (fun S => if zan D S = 0 then pc_co dg S else 0) 16 = if D = dg then 1 else 0 := by decide +kernel
theorem pc_id1 : ∀ u, u < 16 → ∀ D, D < 16 → ∀ S, S < 16 → zsI (fun E => if E ||| u = D then pc_co E S else 0) 16 = if zan u S = 0 then pc_co D S else 0 := by decide +kernel
theorem pc_id2 : ∀ D, D < 16 → zsI (fun S => pc_co D S) 16 = if D = 0 then 1 else 0 := by decide +kernel
section
variable {u : Nat → Nat} {lo : Nat → Bool} {n dg : Nat}
def pc_in (u : Nat → Nat) (lo : Nat → Bool) (S c : Nat) : Nat := if zan (u c) S = 0 ∧ lo c = false then 1 else 0
/-- of the last r cells those that wake none but some dogs -/
def pm (u : Nat → Nat) (lo : Nat → Bool) (n S : Nat) : Nat → Nat
  | 0 => 0
  | r + 1 => pm u lo n S r + pc_in u lo S (n - (r + 1))
/-- ways to choose k of the last r cells, when the dogs D are up, by which just dg are -/
def wd (u : Nat → Nat) (lo : Nat → Bool) (n dg : Nat) : Nat → Nat → Nat → Nat
  | 0, k, D => if k = 0 ∧ D = dg then 1 else 0
  | r + 1, k, D => if k = 0 then (if D = dg then 1 else 0) else wd u lo n dg r k D + (if lo (n - (r + 1)) = true then 0 else wd u lo n dg r (k - 1) (D ||| u (n - (r + 1))))
theorem wd_k0 (r D : Nat) : wd u lo n dg r 0 D = if D = dg then 1 else 0 := by
  cases r with
  | zero => rw [wd]; simp
  | succ r => rw [wd, if_pos rfl]
theorem pm_sum (u : Nat → Nat) (lo : Nat → Bool) (n S : Nat) : ∀ r, r ≤ n → pm u lo n S r + zsum (pc_in u lo S) (n - r) = zsum (pc_in u lo S) n
  | 0, _ => by rw [pm, Nat.zero_add]; rfl
  | r + 1, h => by
    have ih := pm_sum u lo n S r (by omega)
    rw [show n - r = n - (r + 1) + 1 by omega, zsum] at ih
    rw [pm]; omega
theorem or16 {a b : Nat} (ha : a < 16) (hb : b < 16) : a ||| b < 16 := Nat.or_lt_two_pow (n := 4) ha hb
theorem wd_eq (hdg : dg < 16) (hu : ∀ c, u c < 16) : ∀ r k D, D < 16 → (wd u lo n dg r k D : Int) = zsI (fun S => if zan D S = 0 then pc_co dg S * (pc_c (pm u lo n S r) k : Int) else 0) 16 := by
  have z : ∀ r D, D < 16 → (((if D = dg then 1 else 0 : Nat)) : Int) = zsI (fun S => if zan D S = 0 then pc_co dg S * (pc_c (pm u lo n S r) 0 : Int) else 0) 16 := by
    intro r D hD
    have e : zsI (fun S => if zan D S = 0 then pc_co dg S * (pc_c (pm u lo n S r) 0 : Int) else 0) 16 = zsI (fun S => if zan D S = 0 then pc_co dg S else 0) 16 := zsI_cong (fun S _ => by
      try dsimp only
      rw [pc_c0, Int.natCast_one, Int.mul_one])
    rw [e, pc_id0 dg hdg D hD]
    split <;> rfl
  intro r
  induction r with
  | zero =>
    intro k D hD
    cases k with
    | zero => rw [wd_k0]; exact z 0 D hD
    | succ k =>
      rw [wd, if_neg (by omega)]
      refine Eq.trans ?_ (zsI_cong (f := fun _ => 0) (fun S _ => ?_))
      · rw [zsI_0]; rfl
      · rw [pm, pc_z, Int.natCast_zero, Int.mul_zero, ite_self]
  | succ r ih =>
    intro k D hD
    cases k with
    | zero => rw [wd_k0]; exact z (r + 1) D hD
    | succ k =>
      rw [wd, if_neg (by omega), Nat.add_sub_cancel]
      by_cases hl : lo (n - (r + 1)) = true
      · rw [if_pos hl, Nat.add_zero, ih (k + 1) D hD]
        apply zsI_cong
        intro S _
        try dsimp only
        have e0 : pc_in u lo S (n - (r + 1)) = 0 := by
          unfold pc_in
          rw [if_neg (fun e => by rw [hl] at e; cases e.2)]
        rw [pm, e0]; rfl
      · rw [if_neg hl, Int.natCast_add, ih (k + 1) D hD, ih k _ (or16 hD (hu _)), ← zsI_add]
        apply zsI_cong
        intro S _
        try dsimp only
        rw [pm, pc_in]
        have e := zan_or D (u (n - (r + 1))) S
        by_cases g1 : zan D S = 0
        · by_cases g2 : zan (u (n - (r + 1))) S = 0
          · rw [if_pos g1, if_pos (e.mpr ⟨g1, g2⟩), if_pos g1, if_pos ⟨g2, by simpa using hl⟩, pc_s, Int.natCast_add, Int.mul_add]
          · rw [if_pos g1, if_neg (fun x => g2 (e.mp x).2), if_pos g1, if_neg (fun x => g2 x.1), Int.add_zero]; rfl
        · rw [if_neg g1, if_neg (fun x => g1 (e.mp x).1), if_neg g1]; rfl
/-- in- and exclusion -/
def pc_ie (u : Nat → Nat) (lo : Nat → Bool) (n k dg : Nat) : Int := zsI (fun S => pc_co dg S * (pc_c (zsum (pc_in u lo S) n) k : Int)) 16
theorem pc_ie_eq (hdg : dg < 16) (hu : ∀ c, u c < 16) (k : Nat) : pc_ie u lo n k dg = (wd u lo n dg n k 0 : Int) := by
  rw [wd_eq hdg hu n k 0 (by omega)]
  apply zsI_cong
  intro S _
  try dsimp only
  have e := pm_sum u lo n S n (Nat.le_refl _)
  rw [Nat.sub_self, zsum, Nat.add_zero] at e
  have z : zan 0 S = 0 := by unfold zan; rw [Nat.zero_and, Nat.xor_self]
  rw [if_pos z, e]
/-- cell by cell, from the first on -/
def wb (u : Nat → Nat) : Nat → Nat → Nat → Nat
  | 0, k, D => if k = 0 ∧ D = 0 then 1 else 0
  | c + 1, k, D => wb u c k D + (if k = 0 then 0 else zsum (fun E => if E ||| u c = D then wb u c (k - 1) E else 0) 16)
theorem zs_cast (f : Nat → Nat) : ∀ n, (zsum f n : Int) = zsI (fun i => (f i : Int)) n
  | 0 => rfl
  | n + 1 => by rw [zsum, zsI, Int.natCast_add, zs_cast f n]
theorem wb_eq (hu : ∀ c, u c < 16) : ∀ c k D, D < 16 → (wb u c k D : Int) = pc_ie u (fun _ => false) c k D := by
  intro c
  induction c with
  | zero =>
    intro k D hD
    rw [wb, pc_ie]
    cases k with
    | zero =>
      refine Eq.trans ?_ (zsI_cong (f := fun S => pc_co D S) (fun S _ => ?_))
      · rw [pc_id2 D hD]; simp only [true_and]; split <;> rfl
      · rw [pc_c0, Int.natCast_one, Int.mul_one]
    | succ k =>
      rw [if_neg (by omega)]
      refine Eq.trans ?_ (zsI_cong (f := fun _ => 0) (fun S _ => ?_))
      · rw [zsI_0]; rfl
      · rw [zsum, pc_z, Int.natCast_zero, Int.mul_zero]
  | succ c ih =>
    intro k D hD
    cases k with
    | zero =>
      rw [wb, if_pos rfl, Nat.add_zero, ih 0 D hD]
      apply zsI_cong
      intro S _
      try dsimp only
      rw [pc_c0, pc_c0]
    | succ k =>
      rw [wb, if_neg (by omega), Int.natCast_add, ih (k + 1) D hD, Nat.add_sub_cancel, zs_cast]
      have e1 : zsI (fun E => ((if E ||| u c = D then wb u c k E else 0 : Nat) : Int)) 16 = zsI (fun E => zsI (fun S => (if E ||| u c = D then pc_co E S else 0) * (pc_c (zsum (pc_in u (fun _ => false) S) c) k : Int)) 16) 16 := by
        apply zsI_cong
        intro E hE
        try dsimp only
        by_cases g : E ||| u c = D
        · rw [if_pos g, ih k E hE]
          apply zsI_cong
          intro S _
          try dsimp only
          rw [if_pos g]
        · rw [if_neg g]
          refine Eq.trans ?_ (zsI_cong (f := fun _ => 0) (fun S _ => ?_))
          · rw [zsI_0]; rfl
          · rw [if_neg g, Int.zero_mul]
      rw [e1, zsI_comm, pc_ie, pc_ie, ← zsI_add]
      apply zsI_cong
      intro S hS
      try dsimp only
      rw [zsI_mul, pc_id1 (u c) (hu c) D hD S hS, zsum, pc_in]
      by_cases g : zan (u c) S = 0
      · rw [if_pos g, if_pos ⟨g, rfl⟩, pc_s, Int.natCast_add, Int.mul_add]
      · rw [if_neg g, if_neg (fun x => g x.1), Int.zero_mul, Int.add_zero]; rfl
theorem wb_wd (hu : ∀ c, u c < 16) (hdg : dg < 16) (n k : Nat) : wb u n k dg = wd u (fun _ => false) n dg n k 0 := by
  have := wb_eq hu n k dg hdg
  rw [pc_ie_eq hdg hu k] at this
  omega
/-! the fewest cells -/
theorem wd_pos {t : Nat → Nat} (hdg : dg < 16) (hu : ∀ c, u c < 16) (hn : ∀ c, n ≤ c + 0 → True) (ht : ∀ S c, S < 16 → c < n → zan (u c) dg = 0 → t (S ||| u c) ≤ t S + 1) : ∀ r k D, r ≤ n → D < 16 → 0 < wd u lo n dg r k D → zan D dg = 0 ∧ t dg ≤ t D + k := by
  have zz : zan dg dg = 0 := by unfold zan; rw [Nat.and_self, Nat.xor_self]
  intro r
  induction r with
  | zero =>
    intro k D hr hD h
    rw [wd] at h
    split at h
    · rename_i g; rw [g.1, g.2]; exact ⟨zz, by omega⟩
    · omega
  | succ r ih =>
    intro k D hr hD h
    rw [wd] at h
    split at h
    · rename_i g
      split at h
      · rename_i g2; rw [g, g2]; exact ⟨zz, by omega⟩
      · omega
    · rename_i g
      rcases Nat.eq_zero_or_pos (wd u lo n dg r k D) with g1 | g1
      · rw [g1, Nat.zero_add] at h
        split at h
        · omega
        · have i2 := ih (k - 1) (D ||| u (n - (r + 1))) (by omega) (or16 hD (hu _)) h
          rw [zan_or] at i2
          have i3 := ht D (n - (r + 1)) hD (by omega) i2.1.2
          exact ⟨i2.1.1, by omega⟩
      · exact ih k D (by omega) hD g1
/-- a set of cells: how many, which dogs -/
def ps_n (P : Nat → Bool) (n : Nat) : Nat → Nat
  | 0 => 0
  | r + 1 => ps_n P n r + (P (n - (r + 1))).toNat
def ps_u (u : Nat → Nat) (P : Nat → Bool) (n : Nat) : Nat → Nat
  | 0 => 0
  | r + 1 => ps_u u P n r ||| (if P (n - (r + 1)) = true then u (n - (r + 1)) else 0)
theorem wd_of (P : Nat → Bool) : ∀ r D, D ||| ps_u u P n r = dg → 0 < wd u (fun _ => false) n dg r (ps_n P n r) D := by
  intro r
  induction r with
  | zero =>
    intro D h
    rw [ps_u, Nat.or_zero] at h
    rw [wd, ps_n, if_pos ⟨rfl, h⟩]; omega
  | succ r ih =>
    intro D h
    rw [ps_u] at h
    rw [ps_n]
    cases g : P (n - (r + 1)) with
    | false =>
      rw [g, if_neg (by decide), Nat.or_zero] at h
      have i := ih D h
      rw [show ps_n P n r + Bool.toNat false = ps_n P n r from rfl]
      by_cases k0 : ps_n P n r = 0
      · rw [k0] at i ⊢
        rw [wd_k0] at i ⊢; exact i
      · rw [wd, if_neg k0]; omega
    | true =>
      rw [g, if_pos rfl] at h
      have i := ih (D ||| u (n - (r + 1))) (by rw [← h, Nat.or_assoc, Nat.or_comm (u _)])
      rw [Bool.toNat_true, wd, if_neg (by omega), if_neg (by decide), Nat.add_sub_cancel]; omega
theorem ps_bit (P : Nat → Bool) (i : Nat) : ∀ r, r ≤ n → ((ps_u u P n r).testBit i = true ↔ ∃ c, n - r ≤ c ∧ c < n ∧ P c = true ∧ (u c).testBit i = true)
  | 0, _ => by
    rw [ps_u, Nat.zero_testBit]
    constructor
    · intro h; cases h
    · rintro ⟨c, a, b, _⟩; omega
  | r + 1, hr => by
    rw [ps_u, Nat.testBit_or, Bool.or_eq_true, ps_bit P i r (by omega)]
    constructor
    · rintro (⟨c, a, b, e, f⟩ | h)
      · exact ⟨c, by omega, b, e, f⟩
      · split at h
        · rename_i g; exact ⟨n - (r + 1), by omega, by omega, g, h⟩
        · rw [Nat.zero_testBit] at h; cases h
    · rintro ⟨c, a, b, e, f⟩
      by_cases g : c = n - (r + 1)
      · right; rw [← g, if_pos e]; exact f
      · left; exact ⟨c, by omega, b, e, f⟩
def ps_add (P : Nat → Bool) (c : Nat) : Nat → Bool := fun i => P i || decide (i = c)
theorem ps_add_n (P : Nat → Bool) {c : Nat} (hc : P c = false) : ∀ r, r ≤ n → ps_n (ps_add P c) n r = ps_n P n r + (if n - r ≤ c ∧ c < n then 1 else 0)
  | 0, _ => by rw [ps_n, ps_n, if_neg (by omega)]
  | r + 1, hr => by
    rw [ps_n, ps_n, ps_add_n P hc r (by omega)]
    unfold ps_add
    by_cases g : n - (r + 1) = c
    · rw [g, hc]
      simp only [decide_true, Bool.or_true, Bool.toNat_true, Bool.toNat_false]
      rw [if_neg (by omega), if_pos (by omega)]
    · simp only [g, decide_false, Bool.or_false]
      by_cases g2 : n - r ≤ c ∧ c < n
      · rw [if_pos g2, if_pos (by omega)]; omega
      · rw [if_neg g2, if_neg (by omega)]; omega
theorem ps_add_u (P : Nat → Bool) {c : Nat} (hc : c < n) : ps_u u (ps_add P c) n n = ps_u u P n n ||| u c := by
  apply Nat.eq_of_testBit_eq
  intro i
  rw [Bool.eq_iff_iff, Nat.testBit_or, Bool.or_eq_true, ps_bit _ i n (Nat.le_refl _), ps_bit _ i n (Nat.le_refl _)]
  unfold ps_add
  constructor
  · rintro ⟨x, a, b, e, f⟩
    rw [Bool.or_eq_true, decide_eq_true_eq] at e
    rcases e with e | e
    · exact Or.inl ⟨x, a, b, e, f⟩
    · subst e; exact Or.inr f
  · rintro (⟨x, a, b, e, f⟩ | f)
    · exact ⟨x, a, b, by rw [e]; rfl, f⟩
    · exact ⟨c, by omega, hc, by simp, f⟩
theorem zp_or : ∀ a, a < 16 → ∀ b, b < 16 → a ||| b = a ∨ zp a + 1 ≤ zp (a ||| b) := by decide +kernel
theorem zp_16 : ∀ a, a < 16 → zp a ≤ 4 := by decide +kernel
/-- the class's table: after some cells of a set; after some sets -/
def ex_c (u : Nat → Nat) (dg : Nat) (t : Nat → Nat) (s : Nat) : Nat → Nat → Nat
  | 0 => t
  | c + 1 => if zan (u c) dg = 0 then zu (ex_c u dg t s c) (s ||| u c) (min (ex_c u dg t s c (s ||| u c)) (ex_c u dg t s c s + 1)) else ex_c u dg t s c
def ex_s (u : Nat → Nat) (dg n : Nat) : Nat → Nat → Nat
  | 0 => fun D => if D = 0 then 0 else 1000
  | s + 1 => ex_c u dg (ex_s u dg n s) s n
def ex_J (u : Nat → Nat) (n : Nat) (t : Nat → Nat) : Prop := ∀ D, D < 16 → t D ≤ 1000 ∧ (t D < 1000 → t D ≤ zp D ∧ ∃ P : Nat → Bool, ps_n P n n = t D ∧ ps_u u P n n = D)
theorem ex_c_s (t : Nat → Nat) (s : Nat) : ∀ c, ex_c u dg t s c s = t s
  | 0 => rfl
  | c + 1 => by
    rw [ex_c]
    split
    · have ih := ex_c_s t s c
      by_cases g : s = s ||| u c
      · rw [← g, zu_s, ih]; omega
      · rw [zu_n g]; exact ih
    · exact ex_c_s t s c
theorem ex_c_le (t : Nat → Nat) (s D : Nat) : ∀ c, ex_c u dg t s c D ≤ t D
  | 0 => Nat.le_refl _
  | c + 1 => by
    have ih := ex_c_le t s D c
    rw [ex_c]
    split
    · by_cases g : D = s ||| u c
      · subst g; rw [zu_s]; omega
      · rw [zu_n g]; exact ih
    · exact ih
theorem ex_c_lo (t : Nat → Nat) {s D : Nat} (h : D < s) : ∀ c, ex_c u dg t s c D = t D
  | 0 => rfl
  | c + 1 => by
    have ih := ex_c_lo t h c
    rw [ex_c]
    split
    · have : s ≤ s ||| u c := Nat.left_le_or
      rw [zu_n (by omega)]; exact ih
    · exact ih
theorem ex_c_J (hu : ∀ c, u c < 16) {t : Nat → Nat} {s : Nat} (hs : s < 16) (h : ex_J u n t) : ∀ c, c ≤ n → ex_J u n (ex_c u dg t s c)
  | 0, _ => h
  | c + 1, hc => by
    have ih := ex_c_J hu hs h c (by omega)
    rw [ex_c]
    split
    · intro D hD
      by_cases g : D = s ||| u c
      · subst g
        rw [zu_s]
        have a := ih _ hD
        have b := ih s hs
        refine ⟨by omega, fun lt => ?_⟩
        rcases Nat.le_total (ex_c u dg t s c (s ||| u c)) (ex_c u dg t s c s + 1) with g | g
        · rw [Nat.min_eq_left g] at lt ⊢; exact a.2 lt
        · rw [Nat.min_eq_right g] at lt ⊢
          obtain ⟨b1, P, b2, b3⟩ := b.2 (by omega)
          rcases zp_or s hs (u c) (hu c) with e | e
          · rw [e] at a g ⊢
            have gg : ex_c u dg t s c s + 1 ≤ ex_c u dg t s c s := g
            omega
          · refine ⟨by omega, ps_add P c, ?_, by rw [ps_add_u P (by omega), b3]⟩
            have pc : P c = false := by
              cases q : P c with
              | false => rfl
              | true =>
                have : s ||| u c = s := by
                  apply Nat.eq_of_testBit_eq
                  intro i
                  rw [Nat.testBit_or]
                  cases q2 : (u c).testBit i with
                  | false => rw [Bool.or_false]
                  | true =>
                    have := (ps_bit (u := u) P i n (Nat.le_refl _)).mpr ⟨c, by omega, by omega, q, q2⟩
                    rw [b3] at this
                    rw [this]; rfl
                rw [this] at e; omega
            rw [ps_add_n P pc n (Nat.le_refl _), if_pos (by omega), b2]
      · rw [zu_n g]; exact ih D hD
    · exact ih
theorem ex_s_J (hu : ∀ c, u c < 16) : ∀ s, s ≤ 16 → ex_J u n (ex_s u dg n s)
  | 0, _ => fun D hD => by
    have e0 : ex_s u dg n 0 D = if D = 0 then 0 else 1000 := rfl
    rw [e0]
    by_cases g : D = 0
    · rw [if_pos g, g]
      have z1 : ∀ r, ps_n (fun _ => false) n r = 0 := fun r => by
        induction r with
        | zero => rfl
        | succ r ih => rw [ps_n, ih]; rfl
      have z2 : ∀ r, ps_u u (fun _ => false) n r = 0 := fun r => by
        induction r with
        | zero => rfl
        | succ r ih => simp [ps_u, ih]
      exact ⟨by omega, fun _ => ⟨by omega, fun _ => false, z1 n, z2 n⟩⟩
    · rw [if_neg g]; exact ⟨by omega, fun h => by omega⟩
  | s + 1, hs => ex_c_J hu (by omega) (ex_s_J hu s (by omega)) n (Nat.le_refl _)
theorem ex_c_in (t : Nat → Nat) {s i : Nat} (hz : zan (u i) dg = 0) : ∀ c, i < c → ex_c u dg t s c (s ||| u i) ≤ t s + 1
  | 0, h => by omega
  | c + 1, h => by
    rw [ex_c]
    by_cases e : i = c
    · subst e
      rw [if_pos hz, zu_s, ex_c_s]; omega
    · have ih := ex_c_in (s := s) t hz c (by omega)
      split
      · by_cases g : s ||| u i = s ||| u c
        · rw [g, zu_s]; rw [g] at ih; omega
        · rw [zu_n g]; exact ih
      · exact ih
theorem ex_s_full (hu : ∀ c, u c < 16) {S i : Nat} (hi : i < n) (hz : zan (u i) dg = 0) : ∀ s, S < s → ex_s u dg n s (S ||| u i) ≤ ex_s u dg n s S + 1
  | 0, h => by omega
  | s + 1, h => by
    rw [ex_s]
    by_cases e : S = s
    · subst e
      rw [ex_c_s]; exact ex_c_in _ hz n hi
    · have ih := ex_s_full (S := S) hu hi hz s (by omega)
      have l := ex_c_le (u := u) (dg := dg) (ex_s u dg n s) s (S ||| u i) n
      rw [ex_c_lo (ex_s u dg n s) (show S < s by omega) n]; omega
/-- the fewest cells by which just these are up -/
theorem ex_none (hdg : dg < 16) (hu : ∀ c, u c < 16) {k : Nat} (h : k < ex_s u dg n 16 dg) : wd u (fun _ => false) n dg n k 0 = 0 := by
  rcases Nat.eq_zero_or_pos (wd u (fun _ => false) n dg n k 0) with g | g
  · exact g
  · have := wd_pos (t := ex_s u dg n 16) hdg hu (fun _ _ => trivial) (fun S c hS hc hz => ex_s_full hu hc hz 16 hS) n k 0 (Nat.le_refl _) (by omega) g
    have z : ∀ s, ex_s u dg n s 0 = 0 := by
      intro s
      have j : ∀ s, ex_s u dg n s 0 ≤ 0 := fun s => by
        induction s with
        | zero => exact Nat.le_refl 0
        | succ s ih => rw [ex_s]; exact Nat.le_trans (ex_c_le _ _ _ _) ih
      have := j s; omega
    rw [z] at this; omega
theorem ex_some (hdg : dg < 16) (hu : ∀ c, u c < 16) (h : ex_s u dg n 16 dg < 1000) : ex_s u dg n 16 dg ≤ 4 ∧ 0 < wd u (fun _ => false) n dg n (ex_s u dg n 16 dg) 0 := by
  obtain ⟨a, P, b, e⟩ := (ex_s_J (dg := dg) (n := n) hu 16 (Nat.le_refl _) dg hdg).2 h
  have z := zp_16 dg hdg
  refine ⟨by omega, ?_⟩
  rw [← b]
  exact wd_of P n 0 (by rw [Nat.zero_or]; exact e)
end
