/-! numbers for the pure layer: ints as nI n, bits, sets of bits, how far -/
theorem zi_0 : (0 : Int32) = nI 0 := rfl
theorem zi_1 : (1 : Int32) = nI 1 := rfl
theorem zi_2 : (2 : Int32) = nI 2 := rfl
theorem zi_3 : (3 : Int32) = nI 3 := rfl
theorem zi_4 : (4 : Int32) = nI 4 := rfl
theorem zi_5 : (5 : Int32) = nI 5 := rfl
theorem zi_6 : (6 : Int32) = nI 6 := rfl
theorem zi_7 : (7 : Int32) = nI 7 := rfl
theorem zi_8 : (8 : Int32) = nI 8 := rfl
theorem zi_9 : (9 : Int32) = nI 9 := rfl
theorem zi_10 : (10 : Int32) = nI 10 := rfl
theorem zi_11 : (11 : Int32) = nI 11 := rfl
theorem zi_12 : (12 : Int32) = nI 12 := rfl
theorem zi_13 : (13 : Int32) = nI 13 := rfl
theorem zi_14 : (14 : Int32) = nI 14 := rfl
theorem zi_15 : (15 : Int32) = nI 15 := rfl
theorem zi_16 : (16 : Int32) = nI 16 := rfl
theorem zi_17 : (17 : Int32) = nI 17 := rfl
theorem zi_18 : (18 : Int32) = nI 18 := rfl
theorem zi_19 : (19 : Int32) = nI 19 := rfl
theorem zi_20 : (20 : Int32) = nI 20 := rfl
theorem zi_21 : (21 : Int32) = nI 21 := rfl
theorem zi_22 : (22 : Int32) = nI 22 := rfl
theorem zi_23 : (23 : Int32) = nI 23 := rfl
theorem zi_24 : (24 : Int32) = nI 24 := rfl
theorem zi_25 : (25 : Int32) = nI 25 := rfl
theorem zi_26 : (26 : Int32) = nI 26 := rfl
theorem zi_30 : (30 : Int32) = nI 30 := rfl
theorem zi_31 : (31 : Int32) = nI 31 := rfl
theorem zi_32 : (32 : Int32) = nI 32 := rfl
theorem zi_34 : (34 : Int32) = nI 34 := rfl
theorem zi_38 : (38 : Int32) = nI 38 := rfl
theorem zi_59 : (59 : Int32) = nI 59 := rfl
theorem zi_60 : (60 : Int32) = nI 60 := rfl
theorem zi_61 : (61 : Int32) = nI 61 := rfl
theorem zi_63 : (63 : Int32) = nI 63 := rfl
theorem zi_64 : (64 : Int32) = nI 64 := rfl
theorem zi_80 : (80 : Int32) = nI 80 := rfl
theorem zi_96 : (96 : Int32) = nI 96 := rfl
theorem zi_97 : (97 : Int32) = nI 97 := rfl
theorem zi_99 : (99 : Int32) = nI 99 := rfl
theorem zi_100 : (100 : Int32) = nI 100 := rfl
theorem zi_122 : (122 : Int32) = nI 122 := rfl
theorem zi_255 : (255 : Int32) = nI 255 := rfl
theorem zi_256 : (256 : Int32) = nI 256 := rfl
theorem zi_300 : (300 : Int32) = nI 300 := rfl
theorem zi_398 : (398 : Int32) = nI 398 := rfl
theorem zi_406 : (406 : Int32) = nI 406 := rfl
theorem zi_900 : (900 : Int32) = nI 900 := rfl
theorem zi_1000 : (1000 : Int32) = nI 1000 := rfl
theorem zi_1024 : (1024 : Int32) = nI 1024 := rfl
theorem zi_1624 : (1624 : Int32) = nI 1624 := rfl
theorem zi_1662 : (1662 : Int32) = nI 1662 := rfl
theorem zi_2030 : (2030 : Int32) = nI 2030 := rfl
theorem zi_2031 : (2031 : Int32) = nI 2031 := rfl
theorem zi_2068 : (2068 : Int32) = nI 2068 := rfl
theorem zi_2258 : (2258 : Int32) = nI 2258 := rfl
theorem zi_9999 : (9999 : Int32) = nI 9999 := rfl
theorem zi_48 : (48 : Int32) = nI 48 := rfl
theorem zi_57 : (57 : Int32) = nI 57 := rfl
theorem zi_65536 : (65536 : Int32) = nI 65536 := rfl
theorem zi_3257 : (3257 : Int32) = nI 3257 := rfl
theorem zi_11483 : (11483 : Int32) = nI 11483 := rfl
theorem zi_1000000 : (1000000 : Int32) = nI 1000000 := rfl
theorem zi_729 : (729 : Int32) = nI 729 := rfl
theorem zi_81 : (81 : Int32) = nI 81 := rfl
theorem ze_lt (a b : Int32) : a < b ↔ a.toInt < b.toInt := Int32.lt_iff_toInt_lt
theorem ze_le (a b : Int32) : a ≤ b ↔ a.toInt ≤ b.toInt := Int32.le_iff_toInt_le
theorem ze_eq (a b : Int32) : a = b ↔ a.toInt = b.toInt := Int32.toInt_inj.symm
theorem ze_and (a b : Nat) : nI a &&& nI b = nI (a &&& b) := by
  apply Int32.toBitVec_inj.1
  show BitVec.ofNat 32 a &&& BitVec.ofNat 32 b = BitVec.ofNat 32 (a &&& b)
  apply BitVec.eq_of_getLsbD_eq
  intro i hi
  simp [hi]
theorem ze_or (a b : Nat) : nI a ||| nI b = nI (a ||| b) := by
  apply Int32.toBitVec_inj.1
  show BitVec.ofNat 32 a ||| BitVec.ofNat 32 b = BitVec.ofNat 32 (a ||| b)
  apply BitVec.eq_of_getLsbD_eq
  intro i hi
  simp [hi]
theorem ze_xor (a b : Nat) : nI a ^^^ nI b = nI (a ^^^ b) := by
  apply Int32.toBitVec_inj.1
  show BitVec.ofNat 32 a ^^^ BitVec.ofNat 32 b = BitVec.ofNat 32 (a ^^^ b)
  apply BitVec.eq_of_getLsbD_eq
  intro i hi
  simp [hi]
theorem ze_sl : ∀ n, n < 32 → ((nI n &&& 31).toBitVec.smod 32).toNat = n := by decide +kernel
theorem ze_shl : ∀ m, m < 31 → (1 : Int32) <<< (nI m &&& 31) = nI (2 ^ m) := by decide +kernel
theorem ze_shr {a k : Nat} (ha : a < 2 ^ 31) (hk : k < 32) : nI a >>> (nI k &&& 31) = nI (a / 2 ^ k) := pk_shrN ha _ k (ze_sl k hk)
theorem ze_shl0 {m : Nat} (hm : m < 31) : (0 : Int32) <<< (nI m &&& 31) = 0 := by
  have : ∀ m, m < 31 → (0 : Int32) <<< (nI m &&& 31) = 0 := by decide +kernel
  exact this m hm
theorem ze_bit {a k : Nat} (ha : a < 2 ^ 31) (hk : k < 31) : ((nI a >>> (nI k &&& 31)) &&& 1 = 1) ↔ a.testBit k = true := by
  rw [ze_shr ha (by omega), zi_1, ze_and, Nat.and_one_is_mod, nI_eq (by omega) (by decide), Nat.testBit_eq_decide_div_mod_eq]
  simp
theorem ze_bit1 {a k : Nat} (ha : a < 2 ^ 31) (hk : k < 31) : (nI a >>> (nI k &&& 31)) &&& 1 = nI (a.testBit k).toNat := by
  rw [ze_shr ha (by omega), zi_1, ze_and, Nat.and_one_is_mod, Nat.testBit_eq_decide_div_mod_eq]
  rcases Nat.mod_two_eq_zero_or_one (a / 2 ^ k) with h | h <;> simp [h]
theorem ze_0or (a : Nat) : nI a ||| 0 = nI a := by rw [zi_0, ze_or, Nat.or_zero]
theorem ze_m1 (n : Nat) : nI n ≠ -1 ∨ n % 2 ^ 32 = 2 ^ 32 - 1 := by
  by_cases h : nI n = -1
  · right
    have := congrArg (fun x : Int32 => x.toBitVec.toNat) h
    have e : (nI n).toBitVec.toNat = n % 2 ^ 32 := by simp [nI, Int32.toBitVec_ofNat]
    simpa [e] using this
  · exact Or.inl h
theorem ze_nm1 {n : Nat} (h : n < 2 ^ 31) : ¬ nI n = -1 := by
  intro e
  rcases ze_m1 n with g | g
  · exact g e
  · omega
theorem ze_pred {n : Nat} (h : 0 < n) : nI n - 1 = nI (n - 1) := by
  obtain ⟨m, rfl⟩ : ∃ m, n = m + 1 := ⟨n - 1, by omega⟩
  exact nI_pred m
theorem ze_m1eq : nI 0 - 1 = -1 := by decide
theorem ze_m1lt {n : Nat} (h : n < 2 ^ 31) : (-1 : Int32) < nI n := by
  rw [ze_lt, nI_toInt h]
  have : (-1 : Int32).toInt = -1 := by decide
  omega
theorem ze_m1le {n : Nat} (h : n < 2 ^ 31) : ¬ nI n ≤ (-1 : Int32) := by
  rw [ze_le, nI_toInt h]
  have : (-1 : Int32).toInt = -1 := by decide
  omega
/-- an int that is told to lie between 0 and a number -/
theorem ze_get {x : Int32} {n : Nat} (hn : n < 2 ^ 31) (h0 : ¬ x < 0) (h1 : ¬ nI n < x) : ∃ j : Nat, j ≤ n ∧ x = nI j := by
  obtain ⟨j, hj, rfl⟩ := nI_of h0
  refine ⟨j, ?_, rfl⟩
  rw [nI_ltI hn hj] at h1
  omega
theorem ze_neg {x : Int32} (h : x < 0) {n : Nat} (hn : n < 2 ^ 31) : x < nI n ∧ ¬ nI n ≤ x ∧ ¬ x = nI n ∧ ¬ nI n < x ∧ x ≤ nI n := by
  rw [ze_lt] at h
  simp only [ze_lt, ze_le, ze_eq, nI_toInt hn]
  have : (0 : Int32).toInt = 0 := by decide
  omega
/-- a set of bits by its members -/
def zs_bs (f : Nat → Bool) : Nat → Nat
  | 0 => 0
  | n + 1 => zs_bs f n + (if f n then 2 ^ n else 0)
theorem zs_lt (f : Nat → Bool) : ∀ n, zs_bs f n < 2 ^ n
  | 0 => by simp [zs_bs]
  | n + 1 => by
    have := zs_lt f n
    rw [zs_bs, Nat.pow_succ]
    split <;> omega
theorem zs_or (f : Nat → Bool) (n : Nat) : zs_bs f (n + 1) = zs_bs f n ||| (if f n then 2 ^ n else 0) := by
  rw [zs_bs]
  split
  · have := Nat.two_pow_add_eq_or_of_lt (zs_lt f n) 1
    rw [Nat.mul_one] at this
    rw [Nat.add_comm, this, Nat.or_comm]
  · rw [Nat.or_zero, Nat.add_zero]
theorem zs_bit (f : Nat → Bool) (i : Nat) : ∀ n, (zs_bs f n).testBit i = (decide (i < n) && f i)
  | 0 => by simp [zs_bs]
  | n + 1 => by
    rw [zs_or, Nat.testBit_or, zs_bit f i n]
    by_cases h : f n
    · rw [if_pos h, Nat.testBit_two_pow]
      by_cases e : n = i
      · subst e; simp [h]
      · simp only [e, decide_false, Bool.or_false]
        congr 1
        simp only [decide_eq_decide]
        omega
    · rw [if_neg h, Nat.zero_testBit, Bool.or_false]
      by_cases e : i = n
      · subst e; simp at h; simp [h]
      · congr 1
        simp only [decide_eq_decide]
        omega
theorem zs_cong {f g : Nat → Bool} : ∀ {n}, (∀ i, i < n → f i = g i) → zs_bs f n = zs_bs g n
  | 0, _ => rfl
  | n + 1, h => by rw [zs_bs, zs_bs, zs_cong (fun i hi => h i (by omega)), h n (by omega)]
theorem zs_eq0 (f : Nat → Bool) (n : Nat) : zs_bs f n = 0 ↔ ∀ i, i < n → f i = false := by
  constructor
  · intro h i hi
    have := zs_bit f i n
    rw [h] at this
    simpa [hi] using this.symm
  · intro h
    rw [zs_cong (g := fun _ => false) h]
    clear h
    induction n with
    | zero => rfl
    | succ n ih => rw [zs_bs, ih]; rfl
theorem zs_31 (f : Nat → Bool) {n : Nat} (h : n ≤ 30) : zs_bs f n < 2 ^ 31 := Nat.lt_trans (zs_lt f n) (Nat.pow_lt_pow_right (by decide) (by omega))
theorem zs_yes {f : Nat → Bool} {n : Nat} (h : f n = true) (hn : n < 31) : nI (zs_bs f n) ||| ((1 : Int32) <<< (nI n &&& 31)) = nI (zs_bs f (n + 1)) := by
  rw [ze_shl n hn, ze_or, zs_or, if_pos h]
theorem zs_no {f : Nat → Bool} {n : Nat} (h : f n = false) : nI (zs_bs f n) = nI (zs_bs f (n + 1)) := by
  rw [zs_or, if_neg (by rw [h]; decide), Nat.or_zero]
/-- how far two cells are from each other -/
def sq_far (w x y : Nat) : Nat := (x % w - y % w) + (y % w - x % w) + ((x / w - y / w) + (y / w - x / w))
theorem sq_far_comm (w x y : Nat) : sq_far w x y = sq_far w y x := by unfold sq_far; omega
theorem sq_farU : ∀ w, w < 6 → ∀ x, x < 25 → ∀ y, y < 25 → (am_abs ((nI x - nI x / nI w * nI w) - (nI y - nI y / nI w * nI w))) + (am_abs ((nI x / nI w) - (nI y / nI w))) = nI (sq_far w x y) ∨ w = 0 := by decide +kernel
theorem sq_farM : ∀ w, w < 6 → ∀ x, x < 25 → ∀ y, y < 25 → (am_max ((nI x - nI x / nI w * nI w) - (nI y - nI y / nI w * nI w)) (-((nI x - nI x / nI w * nI w) - (nI y - nI y / nI w * nI w)))) + (am_max ((nI x / nI w) - (nI y / nI w)) (-((nI x / nI w) - (nI y / nI w)))) = nI (sq_far w x y) ∨ w = 0 := by decide +kernel
theorem sq_far_le : ∀ w, w < 6 → ∀ h, h < 6 → ∀ x, x < w * h → ∀ y, y < w * h → sq_far w x y ≤ 8 := by decide +kernel
theorem sq_far_le30 : ∀ w, w < 6 → ∀ x, x < 25 → ∀ y, y < 25 → sq_far w x y ≤ 50 := by decide +kernel
theorem sq_far_0 : ∀ w, w < 6 → ∀ x, x < 25 → ∀ y, y < 25 → w ≠ 0 → (sq_far w x y = 0 ↔ x = y) := by decide +kernel
/-- one step nearer to a place -/
def sq_step (w o x : Nat) : Nat := if (o % w - x % w) + (x % w - o % w) < (o / w - x / w) + (x / w - o / w) then (if x / w < o / w then x + w else x - w) else (if x % w < o % w then x + 1 else if o % w < x % w then x - 1 else x)
theorem sq_step_far : ∀ w, w < 6 → ∀ h, h < 6 → ∀ o, o < w * h → ∀ x, x < w * h → x = o ∨ (sq_step w o x < w * h ∧ sq_far w (sq_step w o x) o + 1 = sq_far w x o) := by decide +kernel

/-- -1, as a name that simp leaves alone -/
def nM : Int32 := -1
theorem zi_m1 : -nI 1 = nM := rfl
theorem zn_shl {m : Nat} (h : m < 31) : nI 1 <<< (nI m &&& nI 31) = nI (2 ^ m) := ze_shl m h
theorem zn_bit {a k : Nat} (ha : a < 2 ^ 31) (hk : k < 31) : ((nI a >>> (nI k &&& nI 31)) &&& nI 1 = nI 1) ↔ a.testBit k = true := ze_bit ha hk
theorem zn_bit1 {a k : Nat} (ha : a < 2 ^ 31) (hk : k < 31) : (nI a >>> (nI k &&& nI 31)) &&& nI 1 = nI (a.testBit k).toNat := ze_bit1 ha hk
theorem zn_in {j n : Nat} (h : j < 2 ^ 31) : vp_in (nI j) n ↔ j < n := by
  unfold vp_in
  rw [nI_clamp h]
  constructor
  · intro g
    exact Nat.lt_of_not_le fun e => g (Or.inr e)
  · rintro g (e | e)
    · exact nI_pos h e
    · omega
theorem zn_sub1lt {n j : Nat} (hn : n < 2 ^ 31) (hj : j < 2 ^ 31) : nI n - nI 1 < nI j ↔ n ≤ j := by
  rcases Nat.eq_zero_or_pos n with rfl | h
  · have : nI 0 - nI 1 = -1 := by decide
    rw [this]
    exact ⟨fun _ => Nat.zero_le _, fun _ => ze_m1lt hj⟩
  · have : nI n - nI 1 = nI (n - 1) := ze_pred h
    rw [this, nI_ltI (by omega) hj]
    omega
theorem zn_sub {a b : Nat} (h : b ≤ a) : nI a - nI b = nI (a - b) := pk_sub h
theorem zn_M {n : Nat} (h : n < 2 ^ 31) : nI n = nM ↔ False := ⟨fun e => ze_nm1 h e, False.elim⟩
theorem zn_Ml {n : Nat} (h : n < 2 ^ 31) : nM < nI n ↔ True := ⟨fun _ => trivial, fun _ => ze_m1lt h⟩
theorem zn_Mg {n : Nat} (h : n < 2 ^ 31) : nI n < nM ↔ False := ⟨fun e => by
  rw [ze_lt, nI_toInt h] at e
  have : nM.toInt = -1 := by decide
  omega, False.elim⟩
theorem zn_Mle {n : Nat} (h : n < 2 ^ 31) : nI n ≤ nM ↔ False := ⟨fun e => ze_m1le h e, False.elim⟩
theorem zn_Mge {n : Nat} (h : n < 2 ^ 31) : nM ≤ nI n ↔ True := ⟨fun _ => trivial, fun _ => by
  rw [ze_le, nI_toInt h]
  have : nM.toInt = -1 := by decide
  omega⟩
theorem zn_yes {f : Nat → Bool} {n : Nat} (h : f n = true) (hn : n < 31) : nI (zs_bs f n) ||| (nI 1 <<< (nI n &&& nI 31)) = nI (zs_bs f (n + 1)) := zs_yes h hn
theorem zn_or0 (a : Nat) : nI a ||| nI 0 = nI a := ze_0or a
/-- a parameter is negative or a number -/
theorem zc (p : Int32) : p < nI 0 ∨ ∃ j : Nat, j < 2 ^ 31 ∧ p = nI j := by
  by_cases h : p < 0
  · exact Or.inl h
  · exact Or.inr (nI_of h)
theorem zc_n {p : Int32} (h : p < nI 0) {n : Nat} (hn : n < 2 ^ 31) : (p = nI n) = False ∧ (nI n ≤ p) = False ∧ (nI n < p) = False ∧ (p < nI n) = True ∧ (p ≤ nI n) = True := by
  obtain ⟨a, b, c, d, e⟩ := ze_neg h hn
  exact ⟨eq_false c, eq_false b, eq_false d, eq_true a, eq_true e⟩
theorem zc_e {p : Int32} (h : p < nI 0) {n : Nat} (hn : n < 2 ^ 31) : p = nI n ↔ False := (zc_n h hn).1 ▸ Iff.rfl
/-- loops that count up -/
theorem zl_up {P : Nat → Nat → Prop} (N : Nat) (h0 : ∀ f, P (f + 1) N) (h1 : ∀ f m, m < N → P f (m + 1) → P (f + 1) m) (a : Nat) (ha : a ≤ N) : ∃ z, P z a := by
  have go : ∀ j m, m + j = N → P (j + 1) m := by
    intro j
    induction j with
    | zero => intro m hm; rw [show m = N by omega]; exact h0 0
    | succ j ih => intro m hm; exact h1 _ m (by omega) (ih (m + 1) (by omega))
  exact ⟨N - a + 1, go (N - a) a (by omega)⟩
