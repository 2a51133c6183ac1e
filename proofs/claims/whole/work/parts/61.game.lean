/-! games: the value, the class's side -/
/-- the best of some, with who it is -/
def gb_t (ev : Bool) (x v : Nat) : Bool := if ev = true then decide (v < x) else decide (x < v)
def gb (ev : Bool) (sk : Nat → Bool) (w : Nat → Nat) : Nat → Option (Nat × Nat)
  | 0 => none
  | m + 1 => if sk m = true then gb ev sk w m else (match gb ev sk w m with
    | none => some (m, w m)
    | some (d, v) => if gb_t ev (w m) v = true then some (m, w m) else some (d, v))
def gb_op (ev : Bool) (a b : Nat) : Nat := if ev = true then max a b else min a b
def gb_v : Option (Nat × Nat) → Nat
  | none => 0
  | some (_, v) => v
theorem gb_s {ev : Bool} {sk : Nat → Bool} {w : Nat → Nat} {m : Nat} (h : sk m = true) : gb ev sk w (m + 1) = gb ev sk w m := by rw [gb, if_pos h]
theorem gb_n {ev : Bool} {sk : Nat → Bool} {w : Nat → Nat} {m : Nat} (h : sk m = false) (g : gb ev sk w m = none) : gb ev sk w (m + 1) = some (m, w m) := by
  rw [gb, if_neg (by rw [h]; decide), g]
theorem gb_y {ev : Bool} {sk : Nat → Bool} {w : Nat → Nat} {m d v : Nat} (h : sk m = false) (g : gb ev sk w m = some (d, v)) : gb ev sk w (m + 1) = if gb_t ev (w m) v = true then some (m, w m) else some (d, v) := by
  rw [gb, if_neg (by rw [h]; decide), g]
theorem gb_lt {ev : Bool} {sk : Nat → Bool} {w : Nat → Nat} : ∀ {m d v : Nat}, gb ev sk w m = some (d, v) → d < m
  | 0, d, v, h => by cases h
  | m + 1, d, v, h => by
    rw [gb] at h
    split at h
    · have := gb_lt h; omega
    · split at h
      · cases h; omega
      · rename_i d' v' g
        split at h
        · cases h; omega
        · cases h
          have := gb_lt g; omega
theorem gb_b {ev : Bool} {sk : Nat → Bool} {w : Nat → Nat} {B : Nat} (hw : ∀ t, w t ≤ B) : ∀ {m d v : Nat}, gb ev sk w m = some (d, v) → v ≤ B
  | 0, d, v, h => by cases h
  | m + 1, d, v, h => by
    rw [gb] at h
    split at h
    · exact gb_b hw h
    · split at h
      · cases h; exact hw _
      · rename_i d' v' g
        split at h
        · cases h; exact hw _
        · cases h
          exact gb_b hw g
theorem gb_opv (ev : Bool) (x v : Nat) : (if gb_t ev x v = true then x else v) = gb_op ev v x := by
  unfold gb_t gb_op
  cases ev
  · simp only [Bool.false_eq_true, if_false, decide_eq_true_eq]; split <;> omega
  · simp only [if_true, decide_eq_true_eq]; split <;> omega
theorem gb_const {ev : Bool} {sk : Nat → Bool} {w : Nat → Nat} {B : Nat} (hw : ∀ t, w t = B) : ∀ m, gb ev sk w m = none ∨ ∃ d, gb ev sk w m = some (d, B)
  | 0 => Or.inl rfl
  | m + 1 => by
    cases h : sk m with
    | true => rw [gb_s h]; exact gb_const hw m
    | false =>
      rcases gb_const hw m with g | ⟨d, g⟩
      · rw [gb_n h g, hw]; exact Or.inr ⟨m, rfl⟩
      · rw [gb_y h g, hw]
        split
        · exact Or.inr ⟨m, rfl⟩
        · exact Or.inr ⟨d, rfl⟩
/-- as the class goes: none first -/
def gk (ev : Bool) (sk : Nat → Bool) (w : Nat → Nat) (z : Nat) : Nat → Nat
  | 0 => z
  | m + 1 => if sk m = true then gk ev sk w z m else gb_op ev (gk ev sk w z m) (w m)
theorem gk_gb {ev : Bool} {sk : Nat → Bool} {w : Nat → Nat} {z : Nat} : ∀ m, gk ev sk w z m = (match gb ev sk w m with
    | none => z
    | some (_, v) => gb_op ev z v)
  | 0 => rfl
  | m + 1 => by
    have ih := gk_gb (ev := ev) (sk := sk) (w := w) (z := z) m
    cases h : sk m with
    | true => rw [gk, if_pos h, gb_s h]; exact ih
    | false =>
      rw [gk, if_neg (by rw [h]; decide), ih]
      cases g : gb ev sk w m with
      | none => rw [gb_n h g]
      | some x =>
        obtain ⟨d, v⟩ := x
        rw [gb_y h g]
        have e : (match (if gb_t ev (w m) v = true then some (m, w m) else some (d, v)) with
          | none => z
          | some (_, v) => gb_op ev z v) = gb_op ev z (if gb_t ev (w m) v = true then w m else v) := by cases gb_t ev (w m) v <;> rfl
        rw [e, gb_opv]
        unfold gb_op
        cases ev
        · simp only [Bool.false_eq_true, if_false]; omega
        · simp only [if_true]; omega
theorem gk_end {ev : Bool} {sk : Nat → Bool} {w : Nat → Nat} {T : Nat} (hT : sk T = false) : gk ev sk w (w T) T = gb_v (gb ev sk w (T + 1)) := by
  rw [gk_gb]
  cases g : gb ev sk w T with
  | none => rw [gb_n hT g]; rfl
  | some x =>
    obtain ⟨d, v⟩ := x
    rw [gb_y hT g]
    have e : gb_v (if gb_t ev (w T) v = true then some (T, w T) else some (d, v)) = (if gb_t ev (w T) v = true then w T else v) := by split <;> rfl
    rw [e, gb_opv]
    unfold gb_op
    cases ev
    · simp only [Bool.false_eq_true, if_false]; omega
    · simp only [if_true]; omega
/-- one play more of a tune -/
def gp_b (p : Nat → Nat) (t : Nat) : Nat → Nat := fun i => p i + if i = t then 1 else 0
/-- how often one hears what he likes -/
def gh (q p : Nat → Nat) (h : Nat) : Nat := zsum (fun t => if (q (11 + 4 * h)).testBit t = true then p t else 0) (q 2)
def gc (q p : Nat → Nat) : Nat := sq_tot q (gh q p) (q 3)
def gpt (q : Nat → Nat) (l : Nat) (p : Nat → Nat) (t : Nat) : Nat → Nat := if l % 2 = 0 ∧ t < q 2 then gp_b p t else p
def gbt (q : Nat → Nat) (l b t : Nat) : Nat := if l % 2 = 1 ∧ t < q 2 then b ||| 2 ^ t else b
def gsk (q : Nat → Nat) (b t : Nat) : Bool := decide (t < q 2) && b.testBit t
def gv (q : Nat → Nat) : Nat → Nat → (Nat → Nat) → Nat → Nat
  | 0, _, p, _ => gc q p
  | r + 1, l, p, b => gb_v (gb (decide (l % 2 = 0)) (gsk q b) (fun t => gv q r (l + 1) (gpt q l p t) (gbt q l b t)) (q 2 + 1))
section
variable {q : Nat → Nat} {c d : Nat} {I I1 I2 : am_TI} {L L1 L2 : am_TL} {R : am_TR}
theorem gc_le (ok : sq_Ok q) (p : Nat → Nat) : gc q p ≤ 594 := by
  have o := ok.1.2.2.1
  have := zsum_le (n := q 3) (b := 99) (f := fun h => min (q (12 + 4 * h)) (gh q p h - sq_far (q 0) (q (10 + 4 * h)) (q 6))) (fun i hi => by
    have := (ok.2.1 i hi).2.2.1
    omega)
  unfold gc sq_tot
  omega
theorem gv_le (ok : sq_Ok q) : ∀ r l p b, gv q r l p b ≤ 594
  | 0, l, p, b => by rw [gv]; exact gc_le ok p
  | r + 1, l, p, b => by
    rw [gv]
    cases g : gb (decide (l % 2 = 0)) (gsk q b) (fun t => gv q r (l + 1) (gpt q l p t) (gbt q l b t)) (q 2 + 1) with
    | none => exact Nat.zero_le _
    | some x =>
      obtain ⟨dd, v⟩ := x
      exact gb_b (B := 594) (fun t => gv_le ok r _ _ _) g
theorem gv_odd {l : Nat} (hl : l % 2 = 1) (p : Nat → Nat) (b : Nat) : gv q 1 l p b = gc q p := by
  rw [gv]
  have hw : ∀ t, (fun t => gv q 0 (l + 1) (gpt q l p t) (gbt q l b t)) t = gc q p := fun t => by
    show gv q 0 (l + 1) (gpt q l p t) (gbt q l b t) = gc q p
    rw [gv, gpt, if_neg (by omega)]
  rcases gb_const (ev := decide (l % 2 = 0)) (sk := gsk q b) hw (q 2 + 1) with g | ⟨dd, g⟩
  · exfalso
    have hT : gsk q b (q 2) = false := by unfold gsk; simp
    cases g2 : gb (decide (l % 2 = 0)) (gsk q b) (fun t => gv q 0 (l + 1) (gpt q l p t) (gbt q l b t)) (q 2) with
    | none => rw [gb_n hT g2] at g; cases g
    | some x =>
      obtain ⟨d1, v1⟩ := x
      rw [gb_y hT g2] at g
      split at g <;> cases g
  · rw [g]; rfl
/-- the class's rows -/
def gq_U (q : Nat → Nat) (c : Nat) (p : Nat → Nat) (I : am_TI) (R : am_TR) : Prop := I 16 5 = nI (q 2) ∧ (∀ h, h < q 3 → I 18 h = nI (sq_far (q 0) (q (10 + 4 * h)) (q 6))) ∧ (∀ t, t < 6 → I 20 t = nI (p t)) ∧ R 16 4 = some c
theorem gsh (hcd : sq_cd c d) : am_SH[c]? = some (.inl 7) := by
  obtain ⟨h, _⟩ := hcd
  rcases h with rfl | rfl <;> decide
theorem su_coins (h : sq_U q c d I L) (hcd : sq_cd c d) (ok : sq_Ok q) {p : Nat → Nat} (g : gq_U q c p I R) (hp : ∀ t, p t ≤ 10) {Q : Int32 → Prop} (k : Q (nI (gc q p))) : wp_Rows_coinsCome I L R 16 Q := by
  have o := ok.1.2.2.1
  have rc : am_rd R 16 4 = c := by unfold am_rd; rw [g.2.2.2]; rfl
  have rr : R 16 4 = some (am_rd R 16 4) ∧ am_SH[am_rd R 16 4]? = some (.inl 7) := by rw [rc]; exact ⟨g.2.2.2, gsh hcd⟩
  refine zl_up (P := fun f m => wl_Rows_coinsCome_4 I L R 16 Q f (nI (sq_tot q (gh q p) m)) (nI m)) (q 3) (fun f => ?_) (fun f m hm ih => ?_) 0 (by omega)
  · rw [wl_Rows_coinsCome_4]
    simp (disch := omega) only [rc, h.n3, zi_0, zi_1, zi_2, zi_3, zi_4, zi_5, zi_6, zi_7, zi_8, zi_9, zi_10, zi_11, zi_12, zi_13, zi_14, zi_15, zi_16, zi_17, zi_18, zi_19, zi_20, zi_21, zi_22, zi_23, zi_24, zi_25, zi_26, zi_30, zi_31, zi_32, zi_34, zi_38, zi_59, zi_60, zi_61, zi_63, zi_64, zi_80, zi_96, zi_97, zi_99, zi_100, zi_122, zi_255, zi_256, zi_300, zi_398, zi_406, zi_900, zi_1000, zi_1024, zi_1624, zi_1662, zi_2030, zi_2031, zi_2068, zi_2258, zi_9999, zi_48, zi_57, zi_65536, zi_3257, zi_11483, zi_1000000, zi_729, zi_81, zi_m1, nI_add, pk_mul, nI_ltI, nI_leI, nI_eq, nI_clamp, zn_in, zn_sub1lt, zn_M, zn_Ml, zn_Mg, zn_Mle, zn_Mge, zn_sub, Nat.reduceAdd, Nat.reduceMul]
    rw [rc] at rr
    exact ⟨rr, rr, fun _ => k, fun z => absurd (Nat.le_refl _) z⟩
  · have f8 := ok.far8 (ok.2.1 m hm).1 ok.1.2.2.2.1
    have lk := ok.lk31 hm
    have c99 := (ok.2.1 m hm).2.2.1
    have hb : ∀ n, zsum (fun t => if (q (11 + 4 * m)).testBit t = true then p t else 0) n ≤ n * 10 := fun n => zsum_le (fun i _ => by
      have := hp i
      split <;> omega)
    have hb2 := hb (q 2)
    rw [wl_Rows_coinsCome_4]
    simp (disch := omega) only [rc, h.n3, zi_0, zi_1, zi_2, zi_3, zi_4, zi_5, zi_6, zi_7, zi_8, zi_9, zi_10, zi_11, zi_12, zi_13, zi_14, zi_15, zi_16, zi_17, zi_18, zi_19, zi_20, zi_21, zi_22, zi_23, zi_24, zi_25, zi_26, zi_30, zi_31, zi_32, zi_34, zi_38, zi_59, zi_60, zi_61, zi_63, zi_64, zi_80, zi_96, zi_97, zi_99, zi_100, zi_122, zi_255, zi_256, zi_300, zi_398, zi_406, zi_900, zi_1000, zi_1024, zi_1624, zi_1662, zi_2030, zi_2031, zi_2068, zi_2258, zi_9999, zi_48, zi_57, zi_65536, zi_3257, zi_11483, zi_1000000, zi_729, zi_81, zi_m1, nI_add, pk_mul, nI_ltI, nI_leI, nI_eq, nI_clamp, zn_in, zn_sub1lt, zn_M, zn_Ml, zn_Mg, zn_Mle, zn_Mge, zn_sub, Nat.reduceAdd, Nat.reduceMul]
    have rr' := rr
    rw [rc] at rr'
    refine ⟨rr', rr', fun z => absurd z (by omega), fun _ => ?_⟩
    refine zl_up (P := fun f2 t => wl_Rows_coinsCome_27 I L R 16 Q (wl_Rows_coinsCome_4 I L R 16 Q f) f2 (nI (sq_tot q (gh q p) m)) (nI m) (nI (zsum (fun t => if (q (11 + 4 * m)).testBit t = true then p t else 0) t)) (nI t)) (q 2) (fun f2 => ?_) (fun f2 t ht ih2 => ?_) 0 (by omega)
    · rw [sq_tot_s] at ih
      have e : gh q p m = zsum (fun t => if (q (11 + 4 * m)).testBit t = true then p t else 0) (q 2) := rfl
      rw [wl_Rows_coinsCome_27]
      simp (disch := omega) only [rc, g.1, g.2.1 m hm, h.cn hm, zn_max0, zn_min, zi_0, zi_1, zi_2, zi_3, zi_4, zi_5, zi_6, zi_7, zi_8, zi_9, zi_10, zi_11, zi_12, zi_13, zi_14, zi_15, zi_16, zi_17, zi_18, zi_19, zi_20, zi_21, zi_22, zi_23, zi_24, zi_25, zi_26, zi_30, zi_31, zi_32, zi_34, zi_38, zi_59, zi_60, zi_61, zi_63, zi_64, zi_80, zi_96, zi_97, zi_99, zi_100, zi_122, zi_255, zi_256, zi_300, zi_398, zi_406, zi_900, zi_1000, zi_1024, zi_1624, zi_1662, zi_2030, zi_2031, zi_2068, zi_2258, zi_9999, zi_48, zi_57, zi_65536, zi_3257, zi_11483, zi_1000000, zi_729, zi_81, zi_m1, nI_add, pk_mul, nI_ltI, nI_leI, nI_eq, nI_clamp, zn_in, zn_sub1lt, zn_M, zn_Ml, zn_Mg, zn_Mle, zn_Mge, zn_sub, Nat.reduceAdd, Nat.reduceMul]
      rw [e] at ih
      exact ⟨fun _ => ⟨rr', by omega, by omega, ih⟩, fun z => absurd (Nat.le_refl _) z⟩
    · rw [zsum] at ih2
      rw [wl_Rows_coinsCome_27]
      simp (disch := omega) only [rc, g.1, wp_Square_doesLike, h.lk hm, zn_bit, g.2.2.1 t (by omega), zi_0, zi_1, zi_2, zi_3, zi_4, zi_5, zi_6, zi_7, zi_8, zi_9, zi_10, zi_11, zi_12, zi_13, zi_14, zi_15, zi_16, zi_17, zi_18, zi_19, zi_20, zi_21, zi_22, zi_23, zi_24, zi_25, zi_26, zi_30, zi_31, zi_32, zi_34, zi_38, zi_59, zi_60, zi_61, zi_63, zi_64, zi_80, zi_96, zi_97, zi_99, zi_100, zi_122, zi_255, zi_256, zi_300, zi_398, zi_406, zi_900, zi_1000, zi_1024, zi_1624, zi_1662, zi_2030, zi_2031, zi_2068, zi_2258, zi_9999, zi_48, zi_57, zi_65536, zi_3257, zi_11483, zi_1000000, zi_729, zi_81, zi_m1, nI_add, pk_mul, nI_ltI, nI_leI, nI_eq, nI_clamp, zn_in, zn_sub1lt, zn_M, zn_Ml, zn_Mg, zn_Mle, zn_Mge, zn_sub, Nat.reduceAdd, Nat.reduceMul, forall_eq, true_imp_iff, false_imp_iff, and_true, true_and, not_true_eq_false, not_false_eq_true, reduceCtorEq, imp_self, eq_self, false_and, and_false, implies_true]
      refine ⟨fun z => absurd z (by omega), fun _ => ⟨rr', by omega, fun z => ⟨by omega, ?_⟩, fun z => ?_⟩⟩
      · rw [if_pos z] at ih2; exact ih2
      · rw [if_neg z] at ih2; exact ih2
theorem gp_b_le {p : Nat → Nat} {B : Nat} (hp : ∀ t, p t ≤ B) (t i : Nat) : gp_b p t i ≤ B + 1 := by
  have := hp i
  unfold gp_b
  split <;> omega
/-- the class's value -/
theorem su_value (hcd : sq_cd c d) (ok : sq_Ok q) {N : Nat} (hN : N ≤ 4) : ∀ r l p b k I Q, l + r = N → r < k → (∀ t, p t ≤ l) → b < 64 → sq_U q c d I L → gq_U q c p I R → (∀ I1, (∀ t, t < 6 → I1 20 t = nI (p t)) → (∀ r j, ¬ (r = 20 ∧ j < 6) → I1 r j = I r j) → Q (nI (gv q r l p b)) I1) → wp_Rows_value k I L R 16 (nI l) (nI N) (nI b) Q := by
  have o := ok.1.2.2.1
  have par : ∀ l, l < 7 → nI l - nI l / nI 2 * nI 2 = nI (l % 2) := zn_par
  intro r
  induction r with
  | zero =>
    intro l p b k I Q hl hk hp hb h g K
    obtain ⟨k', rfl⟩ : ∃ k', k = k' + 1 := ⟨k - 1, by omega⟩
    have fin : wb_Rows_value_38 L R 16 (nI l) (nI N) (nI b) (wp_Rows_value k') Q I := su_coins h hcd ok g (fun t => by have := hp t; omega) (K I g.2.2.1 (fun _ _ _ => rfl))
    rw [wp_Rows_value]
    unfold wps_Rows_value
    dsimp only
    rw [zi_2, zi_0, par l (by omega), nI_eq (by omega) (by omega)]
    refine ⟨fun _ => ⟨fun z => (by cases z), fun _ => ⟨fun _ => fin, fun z => absurd ?_ z⟩⟩, fun _ => ⟨fun _ => ⟨fun _ => fin, fun z => absurd ?_ z⟩, fun z => (by cases z)⟩⟩
    · rw [nI_leI (by omega) (by omega)]; omega
    · have : nI N - 1 ≤ nI l := by
        rw [ze_le]
        have e1 := pk_sub_toInt (a := N) (b := 1) (by omega) (by omega)
        have e2 : (nI N - 1).toInt = (N : Int) - 1 := e1
        rw [e2, nI_toInt (by omega)]; omega
      exact this
  | succ r ih =>
    intro l p b k I Q hl hk hp hb h g K
    obtain ⟨k', rfl⟩ : ∃ k', k = k' + 1 := ⟨k - 1, by omega⟩
    have keepS : ∀ I1, (∀ r j, ¬ (r = 20 ∧ j < 6) → I1 r j = I r j) → sq_U q c d I1 L := fun I1 e => by
      obtain ⟨hc, hd⟩ := hcd
      exact h.keep (fun r hr => by funext j; exact e r j (by omega)) rfl
    have keepG : ∀ I1 p', (∀ t, t < 6 → I1 20 t = nI (p' t)) → (∀ r j, ¬ (r = 20 ∧ j < 6) → I1 r j = I r j) → gq_U q c p' I1 R := fun I1 p' a e => ⟨by rw [e 16 5 (by omega)]; exact g.1, fun x hx => by rw [e 18 x (by omega)]; exact g.2.1 x hx, a, g.2.2.2⟩
    have eT : gsk q b (q 2) = false := by unfold gsk; simp
    have wT : gv q r (l + 1) (gpt q l p (q 2)) (gbt q l b (q 2)) = gv q r (l + 1) p b := by rw [gpt, if_neg (by omega), gbt, if_neg (by omega)]
    have hgk : gk (decide (l % 2 = 0)) (gsk q b) (fun t => gv q r (l + 1) (gpt q l p t) (gbt q l b t)) (gv q r (l + 1) p b) (q 2) = gv q (r + 1) l p b := by
      rw [gv, ← gk_end eT]
      show _ = gk (decide (l % 2 = 0)) (gsk q b) (fun t => gv q r (l + 1) (gpt q l p t) (gbt q l b t)) (gv q r (l + 1) (gpt q l p (q 2)) (gbt q l b (q 2))) (q 2)
      rw [wT]
    -- the loop over the tunes
    have loop : ∀ ev : Bool, ev = decide (l % 2 = 0) → wp_Rows_value k' I L R 16 (nI l + 1) (nI N) (nI b) (fun r2 I1 => ∃ z, wl_Rows_value_57 L R 16 (nI l) (nI N) (nI b) (wp_Rows_value k') Q z I1 ev r2 0) := by
      intro ev hev
      rw [show nI l + 1 = nI (l + 1) from nI_add l 1]
      refine ih (l + 1) p b k' I _ (by omega) (by omega) (fun t => by have := hp t; omega) hb h g (fun I1 a1 e1 => ?_)
      have kb : ∀ m, gk (decide (l % 2 = 0)) (gsk q b) (fun t => gv q r (l + 1) (gpt q l p t) (gbt q l b t)) (gv q r (l + 1) p b) m ≤ 594 := fun m => by
        have w1 : ∀ t, gv q r (l + 1) (gpt q l p t) (gbt q l b t) ≤ 594 := fun t => gv_le ok _ _ _ _
        have w2 := gv_le ok r (l + 1) p b
        induction m with
        | zero => rw [gk]; exact w2
        | succ m im =>
          have := w1 m
          rw [gk]
          split
          · exact im
          · unfold gb_op; split <;> omega
      refine (zl_up (P := fun f m => ∀ I2, (∀ t, t < 6 → I2 20 t = nI (p t)) → (∀ r j, ¬ (r = 20 ∧ j < 6) → I2 r j = I r j) → wl_Rows_value_57 L R 16 (nI l) (nI N) (nI b) (wp_Rows_value k') Q f I2 ev (nI (gk (decide (l % 2 = 0)) (gsk q b) (fun t => gv q r (l + 1) (gpt q l p t) (gbt q l b t)) (gv q r (l + 1) p b) m)) (nI m)) (q 2) (fun f I2 a2 e2 => ?_) (fun f m hm im I2 a2 e2 => ?_) 0 (by omega)).elim fun z hz => ⟨z, hz I1 a1 e1⟩
      · have g2 := keepG I2 p a2 e2
        rw [wl_Rows_value_57]
        simp (disch := omega) only [g2.1, zi_0, zi_1, zi_2, zi_3, zi_4, zi_5, zi_6, zi_7, zi_8, zi_9, zi_10, zi_11, zi_12, zi_13, zi_14, zi_15, zi_16, zi_17, zi_18, zi_19, zi_20, zi_21, zi_22, zi_23, zi_24, zi_25, zi_26, zi_30, zi_31, zi_32, zi_34, zi_38, zi_59, zi_60, zi_61, zi_63, zi_64, zi_80, zi_96, zi_97, zi_99, zi_100, zi_122, zi_255, zi_256, zi_300, zi_398, zi_406, zi_900, zi_1000, zi_1024, zi_1624, zi_1662, zi_2030, zi_2031, zi_2068, zi_2258, zi_9999, zi_48, zi_57, zi_65536, zi_3257, zi_11483, zi_1000000, zi_729, zi_81, zi_m1, nI_add, pk_mul, nI_ltI, nI_leI, nI_eq, nI_clamp, zn_in, zn_sub1lt, zn_M, zn_Ml, zn_Mg, zn_Mle, zn_Mge, zn_sub, Nat.reduceAdd, Nat.reduceMul]
        refine ⟨fun _ => ?_, fun z => absurd (Nat.le_refl _) z⟩
        rw [hgk]; exact K I2 a2 e2
      · have g2 := keepG I2 p a2 e2
        have kbm := kb m
        have wm : gv q r (l + 1) (gpt q l p m) (gbt q l b m) ≤ 594 := gv_le ok _ _ _ _
        rw [gk] at im
        rw [wl_Rows_value_57]
        simp (disch := omega) only [g2.1, zn_bit, zn_shl, ze_or, zi_0, zi_1, zi_2, zi_3, zi_4, zi_5, zi_6, zi_7, zi_8, zi_9, zi_10, zi_11, zi_12, zi_13, zi_14, zi_15, zi_16, zi_17, zi_18, zi_19, zi_20, zi_21, zi_22, zi_23, zi_24, zi_25, zi_26, zi_30, zi_31, zi_32, zi_34, zi_38, zi_59, zi_60, zi_61, zi_63, zi_64, zi_80, zi_96, zi_97, zi_99, zi_100, zi_122, zi_255, zi_256, zi_300, zi_398, zi_406, zi_900, zi_1000, zi_1024, zi_1624, zi_1662, zi_2030, zi_2031, zi_2068, zi_2258, zi_9999, zi_48, zi_57, zi_65536, zi_3257, zi_11483, zi_1000000, zi_729, zi_81, zi_m1, nI_add, pk_mul, nI_ltI, nI_leI, nI_eq, nI_clamp, zn_in, zn_sub1lt, zn_M, zn_Ml, zn_Mg, zn_Mle, zn_Mge, zn_sub, Nat.reduceAdd, Nat.reduceMul]
        refine ⟨fun z => absurd z (by omega), fun _ => ⟨fun z => ?_, fun z => ?_⟩⟩
        · rw [if_pos (by unfold gsk; rw [z]; simpa using hm)] at im
          exact im I2 a2 e2
        · rw [if_neg (by unfold gsk; simp at z; simp [z])] at im
          have b64 : b ||| 2 ^ m < 64 := Nat.or_lt_two_pow (n := 6) hb (Nat.pow_lt_pow_right (by decide) (by omega))
          refine ⟨fun ev0 => ?_, fun ev1 => ?_⟩
          · have lo : l % 2 = 1 := by rw [ev0] at hev; simp at hev; omega
            rw [gpt, if_neg (by omega), gbt, if_pos ⟨lo, hm⟩] at im wm
            refine ih (l + 1) p (b ||| 2 ^ m) k' I2 _ (by omega) (by omega) (fun t => by have := hp t; omega) b64 (keepS I2 e2) g2 (fun I3 a3 e3 => ?_)
            rw [zn_min (by omega) (by omega)]
            rw [gb_op, if_neg (by simp; omega)] at im
            exact im I3 a3 (fun r j z => (e3 r j z).trans (e2 r j z))
          · have le : l % 2 = 0 := by rw [ev1] at hev; simpa using hev.symm
            rw [gpt, if_pos ⟨le, hm⟩, gbt, if_neg (by omega)] at im wm
            have pm := hp m
            simp (disch := omega) only [wp_Rows_valueBehind, a2 m (by omega), zi_0, zi_1, zi_2, zi_3, zi_4, zi_5, zi_6, zi_7, zi_8, zi_9, zi_10, zi_11, zi_12, zi_13, zi_14, zi_15, zi_16, zi_17, zi_18, zi_19, zi_20, zi_21, zi_22, zi_23, zi_24, zi_25, zi_26, zi_30, zi_31, zi_32, zi_34, zi_38, zi_59, zi_60, zi_61, zi_63, zi_64, zi_80, zi_96, zi_97, zi_99, zi_100, zi_122, zi_255, zi_256, zi_300, zi_398, zi_406, zi_900, zi_1000, zi_1024, zi_1624, zi_1662, zi_2030, zi_2031, zi_2068, zi_2258, zi_9999, zi_48, zi_57, zi_65536, zi_3257, zi_11483, zi_1000000, zi_729, zi_81, zi_m1, nI_add, pk_mul, nI_ltI, nI_leI, nI_eq, nI_clamp, zn_in, zn_sub1lt, zn_M, zn_Ml, zn_Mg, zn_Mle, zn_Mge, zn_sub, Nat.reduceAdd, Nat.reduceMul]
            refine ⟨by omega, by omega, fun I3 h3 => ?_⟩
            have a3 : ∀ t, t < 6 → I3 20 t = nI (gp_b p m t) := fun t ht => by
              rw [h3]
              unfold gp_b
              by_cases e : t = m
              · subst e; rw [am_u2_at, if_pos rfl]
              · rw [am_u2_ne _ _ _ _ e, if_neg e]; exact a2 t ht
            have e3 : ∀ r j, ¬ (r = 20 ∧ j < 6) → I3 r j = I r j := fun r j z => by
              rw [h3]
              unfold am_u2
              rw [if_neg (by omega)]; exact e2 r j z
            refine ih (l + 1) (gp_b p m) b k' I3 _ (by omega) (by omega) (gp_b_le hp m) hb (keepS I3 e3) (keepG I3 _ a3 e3) (fun I4 a4 e4 => ⟨by omega, by omega, fun I5 h5 => ?_⟩)
            have mx : am_max (nI (gk (decide (l % 2 = 0)) (gsk q b) (fun t => gv q r (l + 1) (gpt q l p t) (gbt q l b t)) (gv q r (l + 1) p b) m)) (nI (gv q r (l + 1) (gp_b p m) b)) = nI (max (gk (decide (l % 2 = 0)) (gsk q b) (fun t => gv q r (l + 1) (gpt q l p t) (gbt q l b t)) (gv q r (l + 1) p b) m) (gv q r (l + 1) (gp_b p m) b)) := by
              unfold am_max
              simp only [nI_ltI (show gk (decide (l % 2 = 0)) (gsk q b) (fun t => gv q r (l + 1) (gpt q l p t) (gbt q l b t)) (gv q r (l + 1) p b) m < 2 ^ 31 by omega) (show gv q r (l + 1) (gp_b p m) b < 2 ^ 31 by omega)]
              split <;> congr 1 <;> omega
            rw [mx]
            rw [gb_op, if_pos (by simpa using le)] at im
            refine im I5 (fun t ht => ?_) (fun r j z => ?_)
            · rw [h5]
              by_cases e : t = m
              · subst e
                rw [am_u2_at, a4 t ht]
                unfold gp_b
                rw [if_pos rfl, zn_sub (by omega)]; rfl
              · rw [am_u2_ne _ _ _ _ e, a4 t ht]
                unfold gp_b
                rw [if_neg e]; rfl
            · rw [h5]
              unfold am_u2
              rw [if_neg (by omega), e4 r j z, e3 r j z]
    rw [wp_Rows_value]
    unfold wps_Rows_value
    dsimp only
    rw [zi_2, zi_0, par l (by omega), nI_eq (by omega) (by omega)]
    refine ⟨fun ev => ⟨fun z => (by cases z), fun _ => ⟨fun z => ?_, fun _ => ⟨fun _ => loop true (by simpa using ev), fun z => absurd ?_ z⟩⟩⟩, fun od => ⟨fun _ => ⟨fun z => ?_, fun _ => ⟨fun _ => loop false (by simpa using od), fun z => absurd ?_ z⟩⟩, fun z => (by cases z)⟩⟩
    · rw [nI_leI (by omega) (by omega)] at z; omega
    · exact (nI_ltI (a := l) (b := 4) (by omega) (by omega)).mpr (by omega)
    · have z2 : nI N - 1 ≤ nI l := z
      rw [ze_le] at z2
      have e1 := pk_sub_toInt (a := N) (b := 1) (by omega) (by omega)
      have e2 : (nI N - 1).toInt = (N : Int) - 1 := e1
      rw [e2, nI_toInt (by omega)] at z2
      have r0 : r = 0 := by omega
      subst r0
      rw [gv_odd (by omega)] at K
      exact su_coins h hcd ok g (fun t => by have := hp t; omega) (K I g.2.2.1 (fun _ _ _ => rfl))
    · exact (nI_ltI (a := l) (b := 4) (by omega) (by omega)).mpr (by omega)
theorem su_setUp (h : sq_U q c d I L) (hcd : sq_cd c d) (ok : sq_Ok q) {Q : am_TI → am_TR → Prop} (k : ∀ I1, sq_U q c d I1 L → gq_U q c (fun _ => 0) I1 (am_u2 R 16 4 (some c)) → (∀ r, (r < 16 ∨ 20 < r) → I1 r = I r) → Q I1 (am_u2 R 16 4 (some c))) : wp_Rows_setUp I L R 16 c Q := by
  have o := ok.1.2.2.1
  have hcd' := hcd
  obtain ⟨hc, hd⟩ := hcd'
  intro R1 hR1 I0 hI0
  subst hR1
  refine su_fillI (by omega) (fun I1 a1 b1 => ?_)
  have e1 : ∀ r, (r < 16 ∨ 20 < r) → I1 r = I r := fun r hr => by
    funext j
    rw [b1 r j (by omega), hI0, am_u2o (by omega)]
  have t1 : I1 16 5 = nI (q 2) := by rw [b1 16 5 (by omega), hI0, am_u2_at]; exact h.n2
  refine (zl_up (P := fun f m => ∀ I2, I2 16 5 = nI (q 2) → (∀ x, x < m → I2 18 x = nI (sq_far (q 0) (q (10 + 4 * x)) (q 6))) → (∀ t, t < 6 → I2 20 t = nI 0) → (∀ r, (r < 16 ∨ 20 < r) → I2 r = I r) → wl_Rows_setUp_23 L 16 c Q f I2 (am_u2 R 16 4 (some c)) (nI m)) (q 3) (fun f I2 c1 c2 c3 c4 => ?_) (fun f m hm ih I2 c1 c2 c3 c4 => ?_) 0 (by omega)).elim fun z hz => ⟨z, hz I1 t1 (fun x hx => absurd hx (by omega)) (fun t ht => a1 t ht) e1⟩
  · have h2 : sq_U q c d I2 L := h.keep (fun r hr => c4 r (by omega)) rfl
    rw [wl_Rows_setUp_23]
    simp (disch := omega) only [h2.n3, zi_0, zi_1, zi_2, zi_3, zi_4, zi_5, zi_6, zi_7, zi_8, zi_9, zi_10, zi_11, zi_12, zi_13, zi_14, zi_15, zi_16, zi_17, zi_18, zi_19, zi_20, zi_21, zi_22, zi_23, zi_24, zi_25, zi_26, zi_30, zi_31, zi_32, zi_34, zi_38, zi_59, zi_60, zi_61, zi_63, zi_64, zi_80, zi_96, zi_97, zi_99, zi_100, zi_122, zi_255, zi_256, zi_300, zi_398, zi_406, zi_900, zi_1000, zi_1024, zi_1624, zi_1662, zi_2030, zi_2031, zi_2068, zi_2258, zi_9999, zi_48, zi_57, zi_65536, zi_3257, zi_11483, zi_1000000, zi_729, zi_81, zi_m1, nI_add, pk_mul, nI_ltI, nI_leI, nI_eq, nI_clamp, zn_in, zn_sub1lt, zn_M, zn_Ml, zn_Mg, zn_Mle, zn_Mge, zn_sub, Nat.reduceAdd, Nat.reduceMul]
    exact ⟨fun _ => k I2 h2 ⟨c1, c2, c3, am_u2_at _ _ _ _⟩ c4, fun g => absurd (Nat.le_refl _) g⟩
  · have h2 : sq_U q c d I2 L := h.keep (fun r hr => c4 r (by omega)) rfl
    rw [wl_Rows_setUp_23]
    simp (disch := omega) only [h2.n3, zi_0, zi_1, zi_2, zi_3, zi_4, zi_5, zi_6, zi_7, zi_8, zi_9, zi_10, zi_11, zi_12, zi_13, zi_14, zi_15, zi_16, zi_17, zi_18, zi_19, zi_20, zi_21, zi_22, zi_23, zi_24, zi_25, zi_26, zi_30, zi_31, zi_32, zi_34, zi_38, zi_59, zi_60, zi_61, zi_63, zi_64, zi_80, zi_96, zi_97, zi_99, zi_100, zi_122, zi_255, zi_256, zi_300, zi_398, zi_406, zi_900, zi_1000, zi_1024, zi_1624, zi_1662, zi_2030, zi_2031, zi_2068, zi_2258, zi_9999, zi_48, zi_57, zi_65536, zi_3257, zi_11483, zi_1000000, zi_729, zi_81, zi_m1, nI_add, pk_mul, nI_ltI, nI_leI, nI_eq, nI_clamp, zn_in, zn_sub1lt, zn_M, zn_Ml, zn_Mg, zn_Mle, zn_Mge, zn_sub, Nat.reduceAdd, Nat.reduceMul]
    refine ⟨fun g => absurd g (by omega), fun _ => su_farO h2 ok hm ⟨by omega, fun I3 h3 => ?_⟩⟩
    subst h3
    refine ih _ (by rw [am_u2o (by omega)]; exact c1) (fun x hx => ?_) (fun t ht => by rw [am_u2o (by omega)]; exact c3 t ht) (fun r hr => by rw [am_u2_row _ _ _ _ (by omega)]; exact c4 r hr)
    by_cases e : x = m
    · subst e; rw [am_u2_at]
    · rw [am_u2_ne _ _ _ _ e]; exact c2 x (by omega)
end
