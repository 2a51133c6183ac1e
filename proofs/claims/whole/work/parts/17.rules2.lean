abbrev am_TI : Type := Nat → Nat → Int32
abbrev am_TL : Type := Nat → Nat → Int64
abbrev am_TR : Type := Nat → Nat → Option Nat
theorem am_le_e {b : List (Option Value)} : am_le [] b := trivial
theorem am_le_n {a b : List (Option Value)} {o : Option Value} (h : am_le a b) : am_le (none :: a) (o :: b) := h
theorem am_le_s {a b : List (Option Value)} {v : Value} (h : am_le a b) : am_le (some v :: a) (some v :: b) := ⟨rfl, h⟩
theorem am_in_c {i : Int32} {w : Nat} (h : ¬ (i < 0 ∨ w ≤ i.toNatClampNeg)) : vp_in i w := h
theorem am_in_j {i : Int32} {w j : Nat} (h : vp_in i w) (hj : i.toNatClampNeg = j) : j < w := hj ▸ am_in_lt h
theorem am_cmp_lt {x y : Int64} : lg_cmp x y < 0 ↔ x < y := by
  unfold lg_cmp
  by_cases h1 : y < x
  · have h2 : ¬ x < y := fun z => by rw [Int64.lt_iff_toInt_lt] at h1 z; omega
    simp [h1, h2]
  · by_cases h2 : y = x
    · simp [h1, h2]
    · have h3 : x < y := by
        rw [Int64.lt_iff_toInt_lt] at h1 ⊢
        have : ¬ y.toInt = x.toInt := fun z => h2 (Int64.toInt_inj.mp z)
        omega
      have h4 : ¬ x = y := fun z => h2 z.symm
      simp [h1, h4, h3]
theorem am_cmp_gt {x y : Int64} : 0 < lg_cmp x y ↔ y < x := by
  unfold lg_cmp
  by_cases h1 : y < x
  · simp [h1]
  · by_cases h2 : y = x
    · simp [h1, h2]
    · have h4 : ¬ x = y := fun z => h2 z.symm
      simp [h1, h4]
theorem am_cmp_eq {x y : Int64} : lg_cmp x y = 0 ↔ x = y := by
  unfold lg_cmp
  by_cases h1 : y < x
  · have h2 : ¬ x = y := fun z => by rw [Int64.lt_iff_toInt_lt, z] at h1; omega
    simp [h1, h2]
  · by_cases h2 : y = x
    · simp [h1, h2]
    · have h3 : ¬ x = y := fun z => h2 z.symm
      simp [h1, h2, h3]
theorem am_cmp_ge {x y : Int64} : 0 ≤ lg_cmp x y ↔ y ≤ x := by
  have h := am_cmp_lt (x := x) (y := y)
  rw [Int32.le_iff_toInt_le, Int64.le_iff_toInt_le]
  rw [Int32.lt_iff_toInt_lt, Int64.lt_iff_toInt_lt] at h
  omega
theorem am_cmp_le {x y : Int64} : lg_cmp x y ≤ 0 ↔ x ≤ y := by
  have h := am_cmp_gt (x := x) (y := y)
  rw [Int32.le_iff_toInt_le, Int64.le_iff_toInt_le]
  rw [Int32.lt_iff_toInt_lt, Int64.lt_iff_toInt_lt] at h
  omega
section AM2
variable {d : Nat} {own : String} {cc : ByteArray} {nL : Nat} {ini : Bool} {kc ks : Nat} {pc : Nat} {ls : List (Option Value)} {st : List Value} {Q : Option Value → am_St → Prop} {I : am_TI} {L : am_TL} {R : am_TR} {sh : List am_Sh}
theorem am_iald2 {q n w j : Nat} {i : Int32} (hd : decode cc pc = .ok (.iaload, 1)) (hn : pc + 1 = n) (hs : sh[q]? = some (.inr (0, w))) (hi : vp_in i w) (hj : i.toNatClampNeg = j) (kk : am_Wp (d, own, cc, nL, ini) kc ks n ls (.int (I q j) :: st) (I, L, R, sh) Q) : am_Wp (d, own, cc, nL, ini) kc ks pc ls (.int i :: .ref q :: st) (I, L, R, sh) Q := by subst hj; exact am_iald hd hn hs hi kk
theorem am_bald2 {q n w j : Nat} {i : Int32} (hd : decode cc pc = .ok (.baload, 1)) (hn : pc + 1 = n) (hs : sh[q]? = some (.inr (1, w))) (hi : vp_in i w) (hj : i.toNatClampNeg = j) (kk : am_Wp (d, own, cc, nL, ini) kc ks n ls (.int (I q j) :: st) (I, L, R, sh) Q) : am_Wp (d, own, cc, nL, ini) kc ks pc ls (.int i :: .ref q :: st) (I, L, R, sh) Q := by subst hj; exact am_bald hd hn hs hi kk
theorem am_zald2 {q n w j : Nat} {i : Int32} (hd : decode cc pc = .ok (.baload, 1)) (hn : pc + 1 = n) (hs : sh[q]? = some (.inr (2, w))) (hi : vp_in i w) (hj : i.toNatClampNeg = j) (kk : am_Wp (d, own, cc, nL, ini) kc ks n ls (.int (I q j) :: st) (I, L, R, sh) Q) : am_Wp (d, own, cc, nL, ini) kc ks pc ls (.int i :: .ref q :: st) (I, L, R, sh) Q := by subst hj; exact am_zald hd hn hs hi kk
theorem am_lald2 {q n w j : Nat} {i : Int32} (hd : decode cc pc = .ok (.laload, 1)) (hn : pc + 1 = n) (hs : sh[q]? = some (.inr (3, w))) (hi : vp_in i w) (hj : i.toNatClampNeg = j) (kk : am_Wp (d, own, cc, nL, ini) kc ks n ls (.long (L q j) :: st) (I, L, R, sh) Q) : am_Wp (d, own, cc, nL, ini) kc ks pc ls (.int i :: .ref q :: st) (I, L, R, sh) Q := by subst hj; exact am_lald hd hn hs hi kk
theorem am_aald42 {q n w j x : Nat} {i : Int32} (hd : decode cc pc = .ok (.aaload, 1)) (hn : pc + 1 = n) (hs : sh[q]? = some (.inr (4, w))) (hi : vp_in i w) (hj : i.toNatClampNeg = j) (hx : R q j = some x) (kk : am_Wp (d, own, cc, nL, ini) kc ks n ls (.ref x :: st) (I, L, R, sh) Q) : am_Wp (d, own, cc, nL, ini) kc ks pc ls (.int i :: .ref q :: st) (I, L, R, sh) Q := by subst hj; exact am_aald4 hd hn hs hi hx kk
theorem am_aald52 {q n w j x : Nat} {i : Int32} (hd : decode cc pc = .ok (.aaload, 1)) (hn : pc + 1 = n) (hs : sh[q]? = some (.inr (5, w))) (hi : vp_in i w) (hj : i.toNatClampNeg = j) (hx : R q j = some x) (kk : am_Wp (d, own, cc, nL, ini) kc ks n ls (.ref x :: st) (I, L, R, sh) Q) : am_Wp (d, own, cc, nL, ini) kc ks pc ls (.int i :: .ref q :: st) (I, L, R, sh) Q := by subst hj; exact am_aald5 hd hn hs hi hx kk
theorem am_iast2 {q n w j : Nat} {i x : Int32} (hd : decode cc pc = .ok (.iastore, 1)) (hn : pc + 1 = n) (hs : sh[q]? = some (.inr (0, w))) (hi : vp_in i w) (hj : i.toNatClampNeg = j) (kk : am_Wp (d, own, cc, nL, ini) kc ks n ls st (am_u2 I q j x, L, R, sh) Q) : am_Wp (d, own, cc, nL, ini) kc ks pc ls (.int x :: .int i :: .ref q :: st) (I, L, R, sh) Q := by subst hj; exact am_iast hd hn hs hi kk
theorem am_bast2 {q n w j : Nat} {i x : Int32} (hd : decode cc pc = .ok (.bastore, 1)) (hn : pc + 1 = n) (hs : sh[q]? = some (.inr (1, w))) (hi : vp_in i w) (hj : i.toNatClampNeg = j) (kk : am_Wp (d, own, cc, nL, ini) kc ks n ls st (am_u2 I q j (vp_nar .byte x), L, R, sh) Q) : am_Wp (d, own, cc, nL, ini) kc ks pc ls (.int x :: .int i :: .ref q :: st) (I, L, R, sh) Q := by subst hj; exact am_bast hd hn hs hi kk
theorem am_zast2 {q n w j : Nat} {i x : Int32} (hd : decode cc pc = .ok (.bastore, 1)) (hn : pc + 1 = n) (hs : sh[q]? = some (.inr (2, w))) (hi : vp_in i w) (hj : i.toNatClampNeg = j) (kk : am_Wp (d, own, cc, nL, ini) kc ks n ls st (am_u2 I q j (vp_nar .boolean x), L, R, sh) Q) : am_Wp (d, own, cc, nL, ini) kc ks pc ls (.int x :: .int i :: .ref q :: st) (I, L, R, sh) Q := by subst hj; exact am_zast hd hn hs hi kk
theorem am_last2 {q n w j : Nat} {i : Int32} {x : Int64} (hd : decode cc pc = .ok (.lastore, 1)) (hn : pc + 1 = n) (hs : sh[q]? = some (.inr (3, w))) (hi : vp_in i w) (hj : i.toNatClampNeg = j) (kk : am_Wp (d, own, cc, nL, ini) kc ks n ls st (I, am_u2 L q j x, R, sh) Q) : am_Wp (d, own, cc, nL, ini) kc ks pc ls (.long x :: .int i :: .ref q :: st) (I, L, R, sh) Q := by subst hj; exact am_last hd hn hs hi kk
def am_max (x y : Int32) : Int32 := if x < y then y else x
def am_min (x y : Int32) : Int32 := if y < x then y else x
def am_abs (x : Int32) : Int32 := if 0 ≤ x then x else 0 - x
theorem mx_c : Cond.code Lib.Math.max.name Lib.Math.max.code 2 (some .int) ∈ am_gt := ce_Math_max.1
theorem mn_c : Cond.code Lib.Math.min.name Lib.Math.min.code 2 (some .int) ∈ am_gt := ce_Math_min.1
theorem mb_c : Cond.code Lib.Math.abs.name Lib.Math.abs.code 1 (some .int) ∈ am_gt := ce_Math_abs.1
theorem am_mmax2 {idx n : Nat} {x y : Int32} (hd : decode cc pc = .ok (.invokestatic idx, 3)) (hn : pc + 3 = n) (hc1 : Cond.methodLink own idx Lib.Math.max.name ∈ am_gt) (hst : (st.map fun v => v.category).sum ≤ 8) (hdd : 0 < d) (kk : am_Wp (d, own, cc, nL, ini) kc ks n ls (.int (am_max x y) :: st) (I, L, R, sh) Q) : am_Wp (d, own, cc, nL, ini) kc ks pc ls (.int y :: .int x :: st) (I, L, R, sh) Q := by
  obtain ⟨e, rfl⟩ : ∃ e, d = e + 1 := ⟨d - 1, by omega⟩
  exact am_mmax hd hn hc1 st_Math_max ini_Math mx_c hst kk
theorem am_mmin2 {idx n : Nat} {x y : Int32} (hd : decode cc pc = .ok (.invokestatic idx, 3)) (hn : pc + 3 = n) (hc1 : Cond.methodLink own idx Lib.Math.min.name ∈ am_gt) (hst : (st.map fun v => v.category).sum ≤ 8) (hdd : 0 < d) (kk : am_Wp (d, own, cc, nL, ini) kc ks n ls (.int (am_min x y) :: st) (I, L, R, sh) Q) : am_Wp (d, own, cc, nL, ini) kc ks pc ls (.int y :: .int x :: st) (I, L, R, sh) Q := by
  obtain ⟨e, rfl⟩ : ∃ e, d = e + 1 := ⟨d - 1, by omega⟩
  exact am_mmin hd hn hc1 st_Math_min ini_Math mn_c hst kk
theorem am_mabs2 {idx n : Nat} {x : Int32} (hd : decode cc pc = .ok (.invokestatic idx, 3)) (hn : pc + 3 = n) (hc1 : Cond.methodLink own idx Lib.Math.abs.name ∈ am_gt) (hst : (st.map fun v => v.category).sum ≤ 8) (hdd : 0 < d) (kk : am_Wp (d, own, cc, nL, ini) kc ks n ls (.int (am_abs x) :: st) (I, L, R, sh) Q) : am_Wp (d, own, cc, nL, ini) kc ks pc ls (.int x :: st) (I, L, R, sh) Q := by
  obtain ⟨e, rfl⟩ : ∃ e, d = e + 1 := ⟨d - 1, by omega⟩
  exact am_mabs (y := 0) hd hn hc1 st_Math_abs ini_Math mb_c hst kk
theorem am_copyI2 {idx q0 q1 n w0 w1 : Nat} {sp dp z : Int32} (hd : decode cc pc = .ok (.invokestatic idx, 3)) (hn : pc + 3 = n) (hc1 : Cond.methodLink own idx arraycopyName ∈ am_gt) (hs0 : sh[q0]? = some (.inr (0, w0))) (hs1 : sh[q1]? = some (.inr (0, w1))) (g1 : ¬ sp < 0) (g2 : ¬ dp < 0) (g3 : ¬ z < 0) (g4 : sp.toNatClampNeg + z.toNatClampNeg ≤ w0) (g5 : dp.toNatClampNeg + z.toNatClampNeg ≤ w1) (hst : (st.map fun v => v.category).sum ≤ 8) (hdd : 0 < d) (kk : am_Wp (d, own, cc, nL, ini) kc ks n ls st (am_row I q1 (va_cpy (I q0) (I q1) sp.toNatClampNeg dp.toNatClampNeg z.toNatClampNeg), L, R, sh) Q) : am_Wp (d, own, cc, nL, ini) kc ks pc ls (.int z :: .int dp :: .ref q1 :: .int sp :: .ref q0 :: st) (I, L, R, sh) Q := by
  obtain ⟨e, rfl⟩ : ∃ e, d = e + 1 := ⟨d - 1, by omega⟩
  exact am_copyI hd hn hc1 na_copy sa_copy is_copy hs0 hs1 g1 g2 g3 g4 g5 hst kk
theorem am_copyL2 {idx q0 q1 n w0 w1 : Nat} {sp dp z : Int32} (hd : decode cc pc = .ok (.invokestatic idx, 3)) (hn : pc + 3 = n) (hc1 : Cond.methodLink own idx arraycopyName ∈ am_gt) (hs0 : sh[q0]? = some (.inr (3, w0))) (hs1 : sh[q1]? = some (.inr (3, w1))) (g1 : ¬ sp < 0) (g2 : ¬ dp < 0) (g3 : ¬ z < 0) (g4 : sp.toNatClampNeg + z.toNatClampNeg ≤ w0) (g5 : dp.toNatClampNeg + z.toNatClampNeg ≤ w1) (hst : (st.map fun v => v.category).sum ≤ 8) (hdd : 0 < d) (kk : am_Wp (d, own, cc, nL, ini) kc ks n ls st (I, am_row L q1 (va_cpy (L q0) (L q1) sp.toNatClampNeg dp.toNatClampNeg z.toNatClampNeg), R, sh) Q) : am_Wp (d, own, cc, nL, ini) kc ks pc ls (.int z :: .int dp :: .ref q1 :: .int sp :: .ref q0 :: st) (I, L, R, sh) Q := by
  obtain ⟨e, rfl⟩ : ∃ e, d = e + 1 := ⟨d - 1, by omega⟩
  exact am_copyL hd hn hc1 na_copy sa_copy is_copy hs0 hs1 g1 g2 g3 g4 g5 hst kk
end AM2
