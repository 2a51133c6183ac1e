/-! texts: bytes, tokens, names, as numbers -/
def yb (x : Int32) : Nat := x.toBitVec.toNat % 256
theorem yb_lt (x : Int32) : yb x < 256 := Nat.mod_lt _ (by omega)
theorem yb_and (x : Int32) : x &&& 255 = nI (yb x) := by
  apply Int32.toBitVec_inj.mp
  apply BitVec.eq_of_toNat_eq
  show (x.toBitVec &&& 255#32).toNat = (BitVec.ofNat 32 (x.toBitVec.toNat % 256)).toNat
  rw [BitVec.toNat_and, BitVec.toNat_ofNat, BitVec.toNat_ofNat]
  rw [show 255 % 2 ^ 32 = 2 ^ 8 - 1 by decide, Nat.and_two_pow_sub_one_eq_mod]
  rw [Nat.mod_eq_of_lt (a := x.toBitVec.toNat % 256) (by have := Nat.mod_lt x.toBitVec.toNat (y := 256) (by omega); omega)]
theorem yb_nar (x : Int32) : yb (vp_nar .byte x) = yb x := by
  show (x.toInt8.toInt32).toBitVec.toNat % 256 = x.toBitVec.toNat % 256
  have e : (x.toInt8.toInt32).toBitVec.setWidth 8 = x.toBitVec.setWidth 8 := by
    show ((x.toBitVec.signExtend 8).signExtend 32).setWidth 8 = x.toBitVec.setWidth 8
    apply BitVec.eq_of_getLsbD_eq
    intro i hi
    have h32 : i < 32 := by omega
    rw [BitVec.getLsbD_setWidth, BitVec.getLsbD_setWidth, BitVec.getLsbD_signExtend, BitVec.getLsbD_signExtend]
    simp [hi, h32]
  have := congrArg BitVec.toNat e
  rw [BitVec.toNat_setWidth, BitVec.toNat_setWidth] at this
  exact this
/-! runs of bytes -/
def tr (P : Nat → Bool) (y : Nat → Nat) (n : Nat) : Nat → Nat → Nat
  | 0, p => p
  | f + 1, p => if p < n ∧ P (y p) = true then tr P y n f (p + 1) else p
def rn (P : Nat → Bool) (y : Nat → Nat) (n p : Nat) : Nat := tr P y n (n - p) p
section
variable {P : Nat → Bool} {y : Nat → Nat} {n p : Nat}
theorem rn_no (h : ¬ (p < n ∧ P (y p) = true)) : rn P y n p = p := by
  unfold rn
  cases n - p with
  | zero => rfl
  | succ f => rw [tr, if_neg h]
theorem rn_yes (h : p < n) (h2 : P (y p) = true) : rn P y n p = rn P y n (p + 1) := by
  unfold rn
  rw [show n - p = (n - (p + 1)) + 1 by omega, tr, if_pos ⟨h, h2⟩]
theorem rn_ind : ∀ m p, n - p = m → p ≤ rn P y n p ∧ (p ≤ n → rn P y n p ≤ n) ∧ (∀ k, p ≤ k → k < rn P y n p → P (y k) = true) ∧ ¬ (rn P y n p < n ∧ P (y (rn P y n p)) = true) := by
  intro m
  induction m with
  | zero =>
    intro p hp
    rw [rn_no (by omega)]
    exact ⟨Nat.le_refl _, id, fun k a b => absurd b (by omega), by omega⟩
  | succ m ih =>
    intro p hp
    by_cases g : P (y p) = true
    · obtain ⟨a, b, e, f⟩ := ih (p + 1) (by omega)
      rw [rn_yes (by omega) g]
      refine ⟨by omega, fun _ => b (by omega), fun k h1 h2 => ?_, f⟩
      by_cases x : k = p
      · rw [x]; exact g
      · exact e k (by omega) h2
    · rw [rn_no (fun x => g x.2)]
      exact ⟨Nat.le_refl _, id, fun k a b => absurd b (by omega), fun x => g x.2⟩
theorem rn_ge : p ≤ rn P y n p := (rn_ind _ p rfl).1
theorem rn_le (h : p ≤ n) : rn P y n p ≤ n := (rn_ind _ p rfl).2.1 h
theorem rn_all {k : Nat} (h : p ≤ k) (h2 : k < rn P y n p) : P (y k) = true := (rn_ind _ p rfl).2.2.1 k h h2
theorem rn_end : ¬ (rn P y n p < n ∧ P (y (rn P y n p)) = true) := (rn_ind _ p rfl).2.2.2
theorem rn_lt (h : p < n) (h2 : P (y p) = true) : p < rn P y n p := by
  rw [rn_yes h h2]
  have := rn_ge (P := P) (y := y) (n := n) (p := p + 1)
  omega
theorem rn_idem : rn P y n (rn P y n p) = rn P y n p := rn_no rn_end
end
def cb (c : Nat) : Bool := c == 32 || c == 10
def cl (c : Nat) : Bool := decide (97 ≤ c) && decide (c ≤ 122)
def cdg (c : Nat) : Bool := decide (48 ≤ c) && decide (c ≤ 57)
def cs (c : Nat) : Bool := c == 59 || c == 60 || c == 62 || c == 61
theorem cb_iff {c : Nat} : cb c = true ↔ c = 32 ∨ c = 10 := by simp [cb]
theorem cl_iff {c : Nat} : cl c = true ↔ 97 ≤ c ∧ c ≤ 122 := by simp [cl]
theorem cdg_iff {c : Nat} : cdg c = true ↔ 48 ≤ c ∧ c ≤ 57 := by simp [cdg]
theorem cs_iff {c : Nat} : cs c = true ↔ c = 59 ∨ c = 60 ∨ c = 62 ∨ c = 61 := by simp [cs, or_assoc]
/-- where a token ends, where the next begins -/
def tE (y : Nat → Nat) (n p : Nat) : Nat := if n ≤ p then p else if cl (y p) = true then rn cl y n p else if cdg (y p) = true then rn cdg y n p else p + 1
def tN (y : Nat → Nat) (n p : Nat) : Nat := rn cb y n (tE y n p)
def tS (y : Nat → Nat) (n : Nat) : Nat → Nat
  | 0 => rn cb y n 0
  | i + 1 => tN y n (tS y n i)
/-- a word's and a number's value; a name's letters as the reference keeps them -/
def tpk (y : Nat → Nat) (p : Nat) : Nat → Nat
  | 0 => 0
  | m + 1 => 32 * tpk y p m + (y (p + m) - 96)
def nu (y : Nat → Nat) (p : Nat) : Nat → Nat
  | 0 => 0
  | m + 1 => 10 * nu y p m + (y (p + m) - 48)
def tpm (y : Nat → Nat) (p : Nat) : Nat → Nat
  | 0 => 0
  | m + 1 => 256 * tpm y p m + y (p + m)
section
variable {y : Nat → Nat} {n p : Nat}
theorem tE_ge : p ≤ tE y n p := by
  unfold tE
  split
  · exact Nat.le_refl _
  · split
    · exact rn_ge
    · split
      · exact rn_ge
      · omega
theorem tE_gt (h : p < n) : p < tE y n p := by
  unfold tE
  rw [if_neg (by omega)]
  split
  · next g => exact rn_lt h g
  · split
    · next g => exact rn_lt h g
    · omega
theorem tE_le (h : p ≤ n) : tE y n p ≤ n := by
  unfold tE
  split
  · exact h
  · split
    · exact rn_le h
    · split
      · exact rn_le h
      · omega
theorem tN_ge : p ≤ tN y n p := Nat.le_trans tE_ge rn_ge
theorem tN_gt (h : p < n) : p < tN y n p := Nat.lt_of_lt_of_le (tE_gt h) rn_ge
theorem tN_le (h : p ≤ n) : tN y n p ≤ n := rn_le (tE_le h)
theorem tN_n : tN y n n = n := by
  have : tE y n n = n := by unfold tE; rw [if_pos (Nat.le_refl _)]
  unfold tN
  rw [this, rn_no (by omega)]
theorem tS_le (i : Nat) : tS y n i ≤ n := by
  induction i with
  | zero => exact rn_le (Nat.zero_le _)
  | succ i ih => exact tN_le ih
/-- no token begins with a blank -/
theorem tS_nb (i : Nat) : ¬ (tS y n i < n ∧ cb (y (tS y n i)) = true) := by
  cases i with
  | zero => exact rn_end
  | succ i => exact rn_end
theorem tS_mono (i : Nat) : i ≤ tS y n i ∨ tS y n i = n := by
  induction i with
  | zero => exact Or.inl (Nat.zero_le _)
  | succ i ih =>
    rcases ih with h | h
    · rcases Nat.lt_or_ge (tS y n i) n with g | g
      · have := tN_gt (y := y) g
        exact Or.inl (by show i + 1 ≤ tN y n (tS y n i); omega)
      · have e : tS y n i = n := by have := tS_le (y := y) (n := n) i; omega
        refine Or.inr ?_
        show tN y n (tS y n i) = n
        rw [e, tN_n]
    · refine Or.inr ?_
      show tN y n (tS y n i) = n
      rw [h, tN_n]
/-! packed words -/
theorem tpk_lt {m : Nat} (h : ∀ k, k < m → cl (y (p + k)) = true) : tpk y p m < 32 ^ m := by
  induction m with
  | zero => exact Nat.one_pos
  | succ m ih =>
    have a := ih (fun k hk => h k (by omega))
    have b := cl_iff.1 (h m (by omega))
    show 32 * tpk y p m + (y (p + m) - 96) < 32 ^ (m + 1)
    rw [Nat.pow_succ]
    omega
theorem tpk_ge {m : Nat} (h : ∀ k, k < m + 1 → cl (y (p + k)) = true) : 32 ^ m ≤ tpk y p (m + 1) := by
  induction m with
  | zero =>
    have b := cl_iff.1 (h 0 (by omega))
    show 1 ≤ 32 * 0 + (y (p + 0) - 96)
    omega
  | succ m ih =>
    have a := ih (fun k hk => h k (by omega))
    show 32 ^ (m + 1) ≤ 32 * tpk y p (m + 1) + (y (p + (m + 1)) - 96)
    rw [Nat.pow_succ]
    omega
theorem tpk_inj {y2 : Nat → Nat} {p2 m : Nat} (h : ∀ k, k < m → cl (y (p + k)) = true) (h2 : ∀ k, k < m → cl (y2 (p2 + k)) = true) : tpk y p m = tpk y2 p2 m ↔ ∀ k, k < m → y (p + k) = y2 (p2 + k) := by
  induction m with
  | zero => exact ⟨fun _ k hk => absurd hk (by omega), fun _ => rfl⟩
  | succ m ih =>
    have b := cl_iff.1 (h m (by omega))
    have b2 := cl_iff.1 (h2 m (by omega))
    have i := ih (fun k hk => h k (by omega)) (fun k hk => h2 k (by omega))
    show 32 * tpk y p m + (y (p + m) - 96) = 32 * tpk y2 p2 m + (y2 (p2 + m) - 96) ↔ _
    constructor
    · intro e k hk
      by_cases g : k = m
      · subst g; omega
      · exact i.1 (by omega) k (by omega)
    · intro e
      have e1 := i.2 (fun k hk => e k (by omega))
      have e2 := e m (by omega)
      omega
theorem tpk_len {y2 : Nat → Nat} {p2 m m2 : Nat} (h : ∀ k, k < m → cl (y (p + k)) = true) (h2 : ∀ k, k < m2 → cl (y2 (p2 + k)) = true) (e : tpk y p m = tpk y2 p2 m2) : m = m2 := by
  have key : ∀ {y y2 : Nat → Nat} {p p2 m m2 : Nat}, (∀ k, k < m → cl (y (p + k)) = true) → (∀ k, k < m2 → cl (y2 (p2 + k)) = true) → tpk y p m = tpk y2 p2 m2 → ¬ m < m2 := by
    intro y y2 p p2 m m2 h h2 e g
    obtain ⟨x, rfl⟩ : ∃ x, m2 = x + 1 := ⟨m2 - 1, by omega⟩
    have a := tpk_lt h
    have b := tpk_ge h2
    have c : (32 : Nat) ^ m ≤ 32 ^ x := Nat.pow_le_pow_right (by omega) (by omega)
    omega
  have a := key h h2 e
  have b := key h2 h e.symm
  omega
/-- a name's number in the reference -/
theorem nm_pk {m : Nat} (h : ∀ k, k < m → cl (y (p + k)) = true) : ∀ f, m ≤ f → nm_cv f (tpk y p m) = tpm y p m := by
  induction m with
  | zero => intro f _; cases f <;> rfl
  | succ m ih =>
    intro f hf
    obtain ⟨f, rfl⟩ : ∃ x, f = x + 1 := ⟨f - 1, by omega⟩
    have b := cl_iff.1 (h m (by omega))
    show (if 32 * tpk y p m + (y (p + m) - 96) = 0 then 0 else 256 * nm_cv f ((32 * tpk y p m + (y (p + m) - 96)) / 32) + ((32 * tpk y p m + (y (p + m) - 96)) % 32 + 96)) = 256 * tpm y p m + y (p + m)
    rw [if_neg (by omega), show (32 * tpk y p m + (y (p + m) - 96)) / 32 = tpk y p m by omega, show (32 * tpk y p m + (y (p + m) - 96)) % 32 = y (p + m) - 96 by omega, ih (fun k hk => h k (by omega)) f (by omega)]
    omega
end
theorem nm_lt : ∀ f w, w < 32 ^ f → nm_cv f w < 256 ^ f := by
  intro f
  induction f with
  | zero => intro w _; exact Nat.one_pos
  | succ f ih =>
    intro w hw
    rw [Nat.pow_succ] at hw
    have := ih (w / 32) (by omega)
    show (if w = 0 then 0 else 256 * nm_cv f (w / 32) + (w % 32 + 96)) < 256 ^ (f + 1)
    rw [Nat.pow_succ]
    split <;> omega
theorem nm_inj : ∀ f a b, a < 32 ^ f → b < 32 ^ f → nm_cv f a = nm_cv f b → a = b := by
  intro f
  induction f with
  | zero => intro a b ha hb _; simp at ha hb; omega
  | succ f ih =>
    intro a b ha hb e
    rw [Nat.pow_succ] at ha hb
    change (if a = 0 then 0 else 256 * nm_cv f (a / 32) + (a % 32 + 96)) = (if b = 0 then 0 else 256 * nm_cv f (b / 32) + (b % 32 + 96)) at e
    by_cases ga : a = 0
    · by_cases gb : b = 0
      · omega
      · rw [if_pos ga, if_neg gb] at e; omega
    · by_cases gb : b = 0
      · rw [if_neg ga, if_pos gb] at e; omega
      · rw [if_neg ga, if_neg gb] at e
        have := ih (a / 32) (b / 32) (by omega) (by omega) (by omega)
        omega
/-! the reserved words: the class's order, the reference's -/
def rwL : List Nat := [656049733, 89, 495763, 16325678, 677317, 273729714, 52, 3646931, 12889267, 4583, 536633, 7939524, 21252599, 2709096, 628164, 5685913, 1497, 762030, 688, 627886, 3760, 6194, 409072, 5572, 643568]
def rwM : List Nat := [656049733, 495763, 16325678, 677317, 273729714, 4583, 89, 52, 3646931, 12889267, 536633, 7939524, 21252599, 2709096, 628164, 5685913, 1497, 762030, 409072, 5572, 643568, 688, 627886, 3760, 6194]
def rwI (x : Nat) : Nat := rwL.idxOf x
def rwJ (x : Nat) : Nat := rwM.idxOf x
def rwT : List Nat := [0, 6, 1, 2, 3, 4, 7, 8, 9, 5, 10, 11, 12, 13, 14, 15, 16, 17, 21, 22, 23, 24, 18, 19, 20]
theorem rwI_le (x : Nat) : rwI x ≤ 25 := List.idxOf_le_length
theorem rwJ_le (x : Nat) : rwJ x ≤ 25 := List.idxOf_le_length
theorem rw_mem : ∀ x, x ∈ rwL → rwT.getD (rwI x) 25 = rwJ x := by decide
theorem rw_sub : ∀ x, x ∈ rwM → x ∈ rwL := by decide
/-- the reference's number of a word -/
theorem rw_T (x : Nat) : rwJ x = rwT.getD (rwI x) 25 := by
  by_cases g : x ∈ rwL
  · exact (rw_mem x g).symm
  · have h1 : rwI x = 25 := List.idxOf_eq_length g
    have h2 : rwJ x = 25 := List.idxOf_eq_length (fun h => g (rw_sub x h))
    rw [h1, h2]; rfl
/-! a token -/
section
variable (y : Nat → Nat) (n p : Nat)
/-- the class's kinds, and values; the reference's kinds -/
def tQ : Nat := tpk y p (tE y n p - p)
def tK : Nat := if n ≤ p then 0 else if cl (y p) = true then (if 8 < tE y n p - p then 2 else if rwI (tQ y n p) < 25 then 3 else 1) else if cdg (y p) = true then (if 4 < tE y n p - p then 6 else 4) else if cs (y p) = true then 5 else 6
def tW : Nat := if cl (y p) = true then (if rwI (tQ y n p) < 25 then rwI (tQ y n p) else tQ y n p) else if cdg (y p) = true then nu y p (tE y n p - p) else y p
def tM : Nat := if n ≤ p then 0 else if cl (y p) = true then 2 else if cdg (y p) = true then (if 4 < tE y n p - p then 1 else 3) else if cs (y p) = true then 4 else 1
end
