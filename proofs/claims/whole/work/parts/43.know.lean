/-! who knows: worlds -/
theorem zx0 (a b : Nat) : a ^^^ b = 0 ↔ a = b := by
  constructor
  · intro h
    apply Nat.eq_of_testBit_eq
    intro i
    have := congrArg (fun x => x.testBit i) h
    simpa using this
  · rintro rfl; exact Nat.xor_self a
/-- a world that looks the same to one and in which he isn't floured -/
def kn_cond (s : Nat → Nat) (P : Nat → Bool) (h w o : Nat) : Bool := P o && ((o ^^^ zan w (2 ^ h)) &&& s h == 0) && !o.testBit h
def kn_ex (s : Nat → Nat) (P : Nat → Bool) (h w : Nat) : Nat → Bool
  | 0 => false
  | m + 1 => kn_ex s P h w m || kn_cond s P h w m
theorem kn_ex_iff (s : Nat → Nat) (P : Nat → Bool) (h w : Nat) : ∀ m, kn_ex s P h w m = true ↔ ∃ o, o < m ∧ kn_cond s P h w o = true
  | 0 => by simp [kn_ex]
  | m + 1 => by
    rw [kn_ex, Bool.or_eq_true, kn_ex_iff s P h w m]
    constructor
    · rintro (⟨o, a, b⟩ | b)
      · exact ⟨o, by omega, b⟩
      · exact ⟨m, by omega, b⟩
    · rintro ⟨o, a, b⟩
      rcases Nat.lt_or_ge o m with g | g
      · exact Or.inl ⟨o, g, b⟩
      · rw [show o = m by omega] at b; exact Or.inr b
/-- who of a world knows it -/
def kn (s : Nat → Nat) (N : Nat) (P : Nat → Bool) (w : Nat) : Nat := zs_bs (fun h => w.testBit h && !kn_ex s P h w (2 ^ N)) N
def kn_hear (s : Nat → Nat) (N : Nat) (P : Nat → Bool) (told : Nat) : Nat → Bool := fun w => P w && (kn s N P w == told)
def kn_news (s : Nat → Nat) (N : Nat) (P : Nat → Bool) (told : Nat) : Bool := decide (zs_bs P 64 ≠ zs_bs (kn_hear s N P told) 64)
def kn_P0 (N : Nat) : Nat → Bool := fun w => decide (0 < w) && decide (w < 2 ^ N)
def kn_s (q : Nat → Nat) (r h : Nat) : Nat := zan (sq_near q (q (10 + 4 * h)) r) (2 ^ h)
/-- what the worlds keep -/
def kn_Ok (N : Nat) (P : Nat → Bool) : Prop := P 0 = false ∧ ∀ w, 2 ^ N ≤ w → P w = false
theorem kn_Ok.hear {s : Nat → Nat} {N : Nat} {P : Nat → Bool} (h : kn_Ok N P) (told : Nat) : kn_Ok N (kn_hear s N P told) := ⟨by simp [kn_hear, h.1], fun w hw => by simp [kn_hear, h.2 w hw]⟩
theorem kn_Ok.p0 (N : Nat) : kn_Ok N (kn_P0 N) := ⟨rfl, fun w hw => by simp [kn_P0]; omega⟩
theorem kn_s_bit (q : Nat → Nat) (r h : Nat) : (kn_s q r h).testBit h = false := by
  unfold kn_s
  rw [zan_bit, Nat.testBit_two_pow_self]; simp
theorem kn_lt (s : Nat → Nat) (N : Nat) (P : Nat → Bool) (w : Nat) : kn s N P w < 2 ^ N := zs_lt _ _
section
variable {q : Nat → Nat} {c d : Nat} {I I1 I2 : am_TI} {L L1 L2 : am_TL} {R : am_TR} {s : Nat → Nat} {N : Nat} {P : Nat → Bool}
theorem zn_pow6 (h : N ≤ 6) : 2 ^ N ≤ 64 ∧ 1 ≤ 2 ^ N := ⟨Nat.pow_le_pow_right (n := 2) (by decide) h, Nat.one_le_two_pow⟩
/-- the class's picture of the worlds -/
def kn_U (s : Nat → Nat) (N : Nat) (P : Nat → Bool) (I : am_TI) (L : am_TL) : Prop := I 27 1 = nI N ∧ (∀ h, h < N → I 28 h = nI (s h)) ∧ ∀ w, w < 64 → (L 27 2).toBitVec.getLsbD w = P w
theorem su_possible (h : kn_U s N P I L) {w : Nat} (hw : w < 64) {Q : Bool → Prop} (k : Q (P w)) : wp_Knowing_isPossible I L R 27 (nI w) Q := by
  unfold wp_Knowing_isPossible
  rw [← h.2.2 w hw] at k
  simp only [zb_get _ hw]
  refine ⟨fun g => ?_, fun g => ?_⟩
  · rw [g] at k; exact k
  · rw [Bool.not_eq_true] at g; rw [g] at k; exact k
theorem su_knows (hN : N ≤ 6) (h : kn_U s N P I L) (hs : ∀ i, i < N → s i < 2 ^ N ∧ (s i).testBit i = false) (hP : kn_Ok N P) {i w : Nat} (hi : i < N) (hw : w < 2 ^ N) {Q : Bool → Prop} (k : Q (!kn_ex s P i w (2 ^ N))) : wp_Knowing_knows I L R 27 (nI i) (nI w) Q := by
  have n6 := zn_pow6 hN
  obtain ⟨s1, s2⟩ := hs i hi
  simp (disch := omega) only [wp_Knowing_knows, h.1, h.2.1 i hi, zi_0, zi_1, zi_2, zi_3, zi_4, zi_5, zi_6, zi_7, zi_8, zi_9, zi_10, zi_11, zi_12, zi_13, zi_14, zi_15, zi_16, zi_17, zi_18, zi_19, zi_20, zi_21, zi_22, zi_23, zi_24, zi_25, zi_26, zi_30, zi_31, zi_32, zi_34, zi_38, zi_59, zi_60, zi_61, zi_63, zi_64, zi_80, zi_96, zi_97, zi_99, zi_100, zi_122, zi_255, zi_256, zi_300, zi_398, zi_406, zi_900, zi_1000, zi_1024, zi_1624, zi_1662, zi_2030, zi_2031, zi_2068, zi_2258, zi_9999, zi_48, zi_57, zi_65536, zi_3257, zi_11483, zi_1000000, zi_729, zi_81, zi_m1, nI_add, pk_mul, nI_ltI, nI_leI, nI_eq, nI_clamp, zn_in, zn_sub1lt, zn_M, zn_Ml, zn_Mg, zn_Mle, zn_Mge, zn_sub, Nat.reduceAdd, Nat.reduceMul, forall_eq, true_imp_iff, false_imp_iff, and_true, true_and, not_true_eq_false, not_false_eq_true, reduceCtorEq, imp_self, eq_self, false_and, and_false, implies_true]
  refine ⟨by omega, by omega, ?_⟩
  have hh : (nI 1 <<< (nI N &&& nI 31) - nI 1 &&& (nI (s i) ^^^ nM)) &&& (nI 1 <<< (nI i &&& nI 31) ^^^ nM) = nI (zan (zan (2 ^ N - 1) (s i)) (2 ^ i)) := by
    rw [zn_shl (by omega), zn_shl (by omega), zn_sub n6.2, zn_an, zn_an]
  rw [hh, ze_and]
  have hid : ∀ v, (v &&& zan (zan (2 ^ N - 1) (s i)) (2 ^ i) = v) ↔ ∀ b, v.testBit b = true → b < N ∧ (s i).testBit b = false ∧ b ≠ i := by
    intro v
    constructor
    · intro e b hb
      rw [← e, Nat.testBit_and, zan_bit, zan_bit, Nat.testBit_two_pow_sub_one, Nat.testBit_two_pow] at hb
      simp at hb
      exact ⟨hb.2.1.1, hb.2.1.2, fun e => hb.2.2 e.symm⟩
    · intro e
      apply Nat.eq_of_testBit_eq
      intro b
      rw [Nat.testBit_and, zan_bit, zan_bit, Nat.testBit_two_pow_sub_one, Nat.testBit_two_pow]
      cases hb : v.testBit b with
      | false => rfl
      | true =>
        obtain ⟨e1, e2, e3⟩ := e b hb
        simp [e1, e2, Ne.symm e3]
  have zh : ∀ v, zan v (zan (zan (2 ^ N - 1) (s i)) (2 ^ i)) = 0 ↔ v &&& zan (zan (2 ^ N - 1) (s i)) (2 ^ i) = v := by
    intro v
    unfold zan
    rw [zx0]
    exact eq_comm
  have hl : zan (zan (2 ^ N - 1) (s i)) (2 ^ i) < 2 ^ N := by
    have a := zan_le (zan (2 ^ N - 1) (s i)) (2 ^ i)
    have b := zan_le (2 ^ N - 1) (s i)
    omega
  generalize hH : zan (zan (2 ^ N - 1) (s i)) (2 ^ i) = H at *
  have sl : w &&& s i < 2 ^ N := Nat.lt_of_le_of_lt Nat.and_le_left hw
  have orl : ∀ v, v ≤ H → (w &&& s i) ||| v < 2 ^ N := fun v hv => Nat.or_lt_two_pow sl (by omega)
  have good : ∀ v, v ≤ H → v &&& H = v → (P ((w &&& s i) ||| v) = true ↔ kn_cond s P i w ((w &&& s i) ||| v) = true) := by
    intro v hv e
    have e' := (hid v).mp e
    unfold kn_cond
    have a1 : ((w &&& s i ||| v) ^^^ zan w (2 ^ i)) &&& s i = 0 := by
      apply Nat.eq_of_testBit_eq
      intro b
      rw [Nat.testBit_and, Nat.testBit_xor, Nat.testBit_or, Nat.testBit_and, zan_bit, Nat.testBit_two_pow, Nat.zero_testBit]
      cases hb : (s i).testBit b with
      | false => simp
      | true =>
        have n1 : v.testBit b = false := by
          cases hv : v.testBit b with
          | false => rfl
          | true => rw [(e' b hv).2.1] at hb; cases hb
        have n2 : i ≠ b := fun e => by subst e; rw [s2] at hb; cases hb
        simp [n1, n2]
    have a2 : (w &&& s i ||| v).testBit i = false := by
      rw [Nat.testBit_or, Nat.testBit_and, s2]
      cases hv : v.testBit i with
      | false => simp
      | true => exact absurd rfl (e' i hv).2.2
    rw [a1, a2]; simp
  have fwd : kn_ex s P i w (2 ^ N) = false → ∀ v, v ≤ H → v &&& H = v → P ((w &&& s i) ||| v) = false := by
    intro e v hv e2
    cases hp : P ((w &&& s i) ||| v) with
    | false => rfl
    | true =>
      have := (kn_ex_iff s P i w (2 ^ N)).mpr ⟨_, orl v hv, (good v hv e2).mp hp⟩
      rw [e] at this; cases this
  have bwd : kn_ex s P i w (2 ^ N) = true → ∃ v, v ≤ H ∧ v &&& H = v ∧ P ((w &&& s i) ||| v) = true := by
    intro e
    obtain ⟨o, ho, hc⟩ := (kn_ex_iff s P i w (2 ^ N)).mp e
    unfold kn_cond at hc
    simp only [Bool.and_eq_true, beq_iff_eq, Bool.not_eq_true'] at hc
    obtain ⟨⟨c1, c2⟩, c3⟩ := hc
    have fit : ((w &&& s i) ||| (o &&& H)) = o := by
      apply Nat.eq_of_testBit_eq
      intro b
      have hc2 := congrArg (fun x => x.testBit b) c2
      simp only [Nat.testBit_and, Nat.testBit_xor, zan_bit, Nat.testBit_two_pow, Nat.zero_testBit] at hc2
      rw [Nat.testBit_or, Nat.testBit_and, Nat.testBit_and, ← hH, zan_bit, zan_bit, Nat.testBit_two_pow_sub_one, Nat.testBit_two_pow]
      have ob : o.testBit b = true → b < N := fun g => by
        apply Classical.byContradiction
        intro g2
        rw [Nat.testBit_lt_two_pow (Nat.lt_of_lt_of_le ho (Nat.pow_le_pow_right (by decide) (by omega)))] at g
        cases g
      by_cases hb : i = b
      · subst hb
        rw [s2, c3]; simp
      · cases e1 : o.testBit b <;> cases e2 : w.testBit b <;> cases e3 : (s i).testBit b <;> simp [e1, e2, e3, hb] at hc2 ⊢
        all_goals exact ob e1
    refine ⟨o &&& H, Nat.and_le_right, ?_, by rw [fit]; exact c1⟩
    rw [Nat.and_assoc, Nat.and_self]
  refine (zl_up (P := fun f m => (kn_ex s P i w (2 ^ N) = true → ∃ v, m ≤ v ∧ v ≤ H ∧ v &&& H = v ∧ P ((w &&& s i) ||| v) = true) → wl_Knowing_knows_37 I L R 27 (nI i) (nI w) Q f (nI (w &&& s i)) (nI H) (nI m)) (H + 1) (fun f e => ?_) (fun f m hm ih e => ?_) 0 (by omega)).elim fun z hz => ⟨z, hz fun e => by
    obtain ⟨v, a, b, cc⟩ := bwd e
    exact ⟨v, by omega, a, b, cc⟩⟩
  · simp (disch := omega) only [wl_Knowing_knows_37, zi_0, zi_1, zi_2, zi_3, zi_4, zi_5, zi_6, zi_7, zi_8, zi_9, zi_10, zi_11, zi_12, zi_13, zi_14, zi_15, zi_16, zi_17, zi_18, zi_19, zi_20, zi_21, zi_22, zi_23, zi_24, zi_25, zi_26, zi_30, zi_31, zi_32, zi_34, zi_38, zi_59, zi_60, zi_61, zi_63, zi_64, zi_80, zi_96, zi_97, zi_99, zi_100, zi_122, zi_255, zi_256, zi_300, zi_398, zi_406, zi_900, zi_1000, zi_1024, zi_1624, zi_1662, zi_2030, zi_2031, zi_2068, zi_2258, zi_9999, zi_48, zi_57, zi_65536, zi_3257, zi_11483, zi_1000000, zi_729, zi_81, zi_m1, nI_add, pk_mul, nI_ltI, nI_leI, nI_eq, nI_clamp, zn_in, zn_sub1lt, zn_M, zn_Ml, zn_Mg, zn_Mle, zn_Mge, zn_sub, Nat.reduceAdd, Nat.reduceMul, forall_eq, true_imp_iff, false_imp_iff, and_true, true_and, not_true_eq_false, not_false_eq_true, reduceCtorEq, imp_self, eq_self, false_and, and_false, implies_true]
    refine ⟨fun _ => ?_, fun g => absurd (Nat.lt_succ_self _) g⟩
    cases ee : kn_ex s P i w (2 ^ N) with
    | false => rw [ee] at k; exact k
    | true => obtain ⟨v, a, b, _⟩ := e ee; omega
  · simp (disch := omega) only [wl_Knowing_knows_37, zn_an, ze_or, zi_0, zi_1, zi_2, zi_3, zi_4, zi_5, zi_6, zi_7, zi_8, zi_9, zi_10, zi_11, zi_12, zi_13, zi_14, zi_15, zi_16, zi_17, zi_18, zi_19, zi_20, zi_21, zi_22, zi_23, zi_24, zi_25, zi_26, zi_30, zi_31, zi_32, zi_34, zi_38, zi_59, zi_60, zi_61, zi_63, zi_64, zi_80, zi_96, zi_97, zi_99, zi_100, zi_122, zi_255, zi_256, zi_300, zi_398, zi_406, zi_900, zi_1000, zi_1024, zi_1624, zi_1662, zi_2030, zi_2031, zi_2068, zi_2258, zi_9999, zi_48, zi_57, zi_65536, zi_3257, zi_11483, zi_1000000, zi_729, zi_81, zi_m1, nI_add, pk_mul, nI_ltI, nI_leI, nI_eq, nI_clamp, zn_in, zn_sub1lt, zn_M, zn_Ml, zn_Mg, zn_Mle, zn_Mge, zn_sub, Nat.reduceAdd, Nat.reduceMul, forall_eq, true_imp_iff, false_imp_iff, and_true, true_and, not_true_eq_false, not_false_eq_true, reduceCtorEq, imp_self, eq_self, false_and, and_false, implies_true]
    refine ⟨fun g => absurd g (by omega), fun _ => ?_⟩
    have zl := zan_le m H
    simp (disch := omega) only [zi_0, zi_1, zi_2, zi_3, zi_4, zi_5, zi_6, zi_7, zi_8, zi_9, zi_10, zi_11, zi_12, zi_13, zi_14, zi_15, zi_16, zi_17, zi_18, zi_19, zi_20, zi_21, zi_22, zi_23, zi_24, zi_25, zi_26, zi_30, zi_31, zi_32, zi_34, zi_38, zi_59, zi_60, zi_61, zi_63, zi_64, zi_80, zi_96, zi_97, zi_99, zi_100, zi_122, zi_255, zi_256, zi_300, zi_398, zi_406, zi_900, zi_1000, zi_1024, zi_1624, zi_1662, zi_2030, zi_2031, zi_2068, zi_2258, zi_9999, zi_48, zi_57, zi_65536, zi_3257, zi_11483, zi_1000000, zi_729, zi_81, zi_m1, nI_add, pk_mul, nI_ltI, nI_leI, nI_eq, nI_clamp, zn_in, zn_sub1lt, zn_M, zn_Ml, zn_Mg, zn_Mle, zn_Mge, zn_sub, Nat.reduceAdd, Nat.reduceMul, forall_eq, true_imp_iff, false_imp_iff, and_true, true_and, not_true_eq_false, not_false_eq_true, reduceCtorEq, imp_self, eq_self, false_and, and_false, implies_true]
    rw [zh]
    refine ⟨fun g => ?_, fun g => ?_⟩
    · refine su_possible h (by have := orl m (by omega); omega) ?_
      refine ⟨fun g2 => ih fun ee => ?_, fun g2 => ?_⟩
      · obtain ⟨v, a, b, cc, dd⟩ := e ee
        refine ⟨v, ?_, b, cc, dd⟩
        have : v ≠ m := fun e => by subst e; rw [g2] at dd; cases dd
        omega
      · cases ee : kn_ex s P i w (2 ^ N) with
        | true => rw [ee] at k; exact k
        | false => rw [fwd ee m (by omega) g] at g2; cases g2
    · refine ih fun ee => ?_
      obtain ⟨v, a, b, cc, dd⟩ := e ee
      refine ⟨v, ?_, b, cc, dd⟩
      have : v ≠ m := fun e => by subst e; exact g cc
      omega
theorem su_kn (hN : N ≤ 6) (h : kn_U s N P I L) (hs : ∀ i, i < N → s i < 2 ^ N ∧ (s i).testBit i = false) (hP : kn_Ok N P) {w : Nat} (hw : w < 2 ^ N) {Q : Int32 → Prop} (k : Q (nI (kn s N P w))) : wp_Knowing_knowersIn I L R 27 (nI w) Q := by
  have n6 := zn_pow6 hN
  refine zl_up (P := fun f m => wl_Knowing_knowersIn_4 I L R 27 (nI w) Q f (nI (zs_bs (fun h => w.testBit h && !kn_ex s P h w (2 ^ N)) m)) (nI m)) N (fun f => ?_) (fun f m hm ih => ?_) 0 (by omega)
  · simp (disch := omega) only [wl_Knowing_knowersIn_4, h.1, zi_0, zi_1, zi_2, zi_3, zi_4, zi_5, zi_6, zi_7, zi_8, zi_9, zi_10, zi_11, zi_12, zi_13, zi_14, zi_15, zi_16, zi_17, zi_18, zi_19, zi_20, zi_21, zi_22, zi_23, zi_24, zi_25, zi_26, zi_30, zi_31, zi_32, zi_34, zi_38, zi_59, zi_60, zi_61, zi_63, zi_64, zi_80, zi_96, zi_97, zi_99, zi_100, zi_122, zi_255, zi_256, zi_300, zi_398, zi_406, zi_900, zi_1000, zi_1024, zi_1624, zi_1662, zi_2030, zi_2031, zi_2068, zi_2258, zi_9999, zi_48, zi_57, zi_65536, zi_3257, zi_11483, zi_1000000, zi_729, zi_81, zi_m1, nI_add, pk_mul, nI_ltI, nI_leI, nI_eq, nI_clamp, zn_in, zn_sub1lt, zn_M, zn_Ml, zn_Mg, zn_Mle, zn_Mge, zn_sub, Nat.reduceAdd, Nat.reduceMul, forall_eq, true_imp_iff, false_imp_iff, and_true, true_and, not_true_eq_false, not_false_eq_true, reduceCtorEq, imp_self, eq_self, false_and, and_false, implies_true]
    exact ⟨fun _ => k, fun g => absurd (Nat.le_refl _) g⟩
  · simp (disch := omega) only [wl_Knowing_knowersIn_4, h.1, zn_bit, zi_0, zi_1, zi_2, zi_3, zi_4, zi_5, zi_6, zi_7, zi_8, zi_9, zi_10, zi_11, zi_12, zi_13, zi_14, zi_15, zi_16, zi_17, zi_18, zi_19, zi_20, zi_21, zi_22, zi_23, zi_24, zi_25, zi_26, zi_30, zi_31, zi_32, zi_34, zi_38, zi_59, zi_60, zi_61, zi_63, zi_64, zi_80, zi_96, zi_97, zi_99, zi_100, zi_122, zi_255, zi_256, zi_300, zi_398, zi_406, zi_900, zi_1000, zi_1024, zi_1624, zi_1662, zi_2030, zi_2031, zi_2068, zi_2258, zi_9999, zi_48, zi_57, zi_65536, zi_3257, zi_11483, zi_1000000, zi_729, zi_81, zi_m1, nI_add, pk_mul, nI_ltI, nI_leI, nI_eq, nI_clamp, zn_in, zn_sub1lt, zn_M, zn_Ml, zn_Mg, zn_Mle, zn_Mge, zn_sub, Nat.reduceAdd, Nat.reduceMul, forall_eq, true_imp_iff, false_imp_iff, and_true, true_and, not_true_eq_false, not_false_eq_true, reduceCtorEq, imp_self, eq_self, false_and, and_false, implies_true]
    refine ⟨fun g => absurd g (by omega), fun _ => ⟨fun g => su_knows hN h hs hP hm hw ⟨fun g2 => ?_, fun g2 => ?_⟩, fun g => ?_⟩⟩
    · rw [zs_no (by rw [g2]; simp)]; exact ih
    · rw [zn_yes (by rw [g, g2]; rfl) (by omega)]; exact ih
    · rw [zs_no (by rw [Bool.not_eq_true] at g; rw [g]; rfl)]; exact ih
theorem su_hear (hN : N ≤ 6) (h : kn_U s N P I L) (hs : ∀ i, i < N → s i < 2 ^ N ∧ (s i).testBit i = false) (hP : kn_Ok N P) {w : Nat} (hw : w < 2 ^ N) {Q : Bool → am_TL → Prop} (k : ∀ L1, kn_U s N (kn_hear s N P (kn s N P w)) I L1 → (∀ r j, ¬ (r = 27 ∧ j = 2) → L1 r j = L r j) → Q (kn_news s N P (kn s N P w)) L1) : wp_Knowing_hearAll I L R 27 (nI w) Q := by
  have n6 := zn_pow6 hN
  have kl := kn_lt s N P w
  unfold wp_Knowing_hearAll
  refine su_kn hN h hs hP hw ?_
  refine (zl_up (P := fun f m => 0 < m → ∀ x : Int64, (∀ v, v < 64 → x.toBitVec.getLsbD v = (decide (v < m) && kn_hear s N P (kn s N P w) v)) → wl_Knowing_hearAll_11 I R 27 (nI w) Q f L (nI (kn s N P w)) x (nI m)) (2 ^ N) (fun f _ x hx => ?_) (fun f m hm ih h0 x hx => ?_) 1 (by omega)).elim fun z hz => ⟨z, hz (by omega) 0 (fun v hv => ?_)⟩
  · simp (disch := omega) only [wl_Knowing_hearAll_11, h.1, zn_shl, wb_Knowing_hearAll_68, zi_0, zi_1, zi_2, zi_3, zi_4, zi_5, zi_6, zi_7, zi_8, zi_9, zi_10, zi_11, zi_12, zi_13, zi_14, zi_15, zi_16, zi_17, zi_18, zi_19, zi_20, zi_21, zi_22, zi_23, zi_24, zi_25, zi_26, zi_30, zi_31, zi_32, zi_34, zi_38, zi_59, zi_60, zi_61, zi_63, zi_64, zi_80, zi_96, zi_97, zi_99, zi_100, zi_122, zi_255, zi_256, zi_300, zi_398, zi_406, zi_900, zi_1000, zi_1024, zi_1624, zi_1662, zi_2030, zi_2031, zi_2068, zi_2258, zi_9999, zi_48, zi_57, zi_65536, zi_3257, zi_11483, zi_1000000, zi_729, zi_81, zi_m1, nI_add, pk_mul, nI_ltI, nI_leI, nI_eq, nI_clamp, zn_in, zn_sub1lt, zn_M, zn_Ml, zn_Mg, zn_Mle, zn_Mge, zn_sub, Nat.reduceAdd, Nat.reduceMul, forall_eq, true_imp_iff, false_imp_iff, and_true, true_and, not_true_eq_false, not_false_eq_true, reduceCtorEq, imp_self, eq_self, false_and, and_false, implies_true]
    refine ⟨fun _ => ?_, fun g => absurd (Nat.le_refl _) g⟩
    have hx2 : ∀ v, v < 64 → x.toBitVec.getLsbD v = kn_hear s N P (kn s N P w) v := fun v hv => by
      rw [hx v hv]
      by_cases g : v < 2 ^ N
      · simp [g]
      · rw [(hP.hear _).2 v (by omega)]; simp
    have k2 := k (am_u2 L 27 2 x) ⟨h.1, h.2.1, fun v hv => by rw [am_u2_at]; exact hx2 v hv⟩ (fun r j g => by unfold am_u2; rw [if_neg g])
    have e : x = L 27 2 ↔ kn_news s N P (kn s N P w) = false := by
      unfold kn_news
      rw [decide_eq_false_iff_not, Decidable.not_not, zs_inj, ← Int64.toBitVec_inj]
      constructor
      · intro e i hi
        rw [← hx2 i hi, ← h.2.2 i hi, e]
      · intro e
        apply BitVec.eq_of_getLsbD_eq
        intro i hi
        rw [hx2 i hi, h.2.2 i hi, e i hi]
    refine ⟨fun g => ?_, fun g => ?_⟩
    · rw [e.mp g] at k2; exact k2
    · rw [e, Bool.not_eq_false] at g; rw [g] at k2; exact k2
  · simp (disch := omega) only [wl_Knowing_hearAll_11, h.1, zn_shl, zi_0, zi_1, zi_2, zi_3, zi_4, zi_5, zi_6, zi_7, zi_8, zi_9, zi_10, zi_11, zi_12, zi_13, zi_14, zi_15, zi_16, zi_17, zi_18, zi_19, zi_20, zi_21, zi_22, zi_23, zi_24, zi_25, zi_26, zi_30, zi_31, zi_32, zi_34, zi_38, zi_59, zi_60, zi_61, zi_63, zi_64, zi_80, zi_96, zi_97, zi_99, zi_100, zi_122, zi_255, zi_256, zi_300, zi_398, zi_406, zi_900, zi_1000, zi_1024, zi_1624, zi_1662, zi_2030, zi_2031, zi_2068, zi_2258, zi_9999, zi_48, zi_57, zi_65536, zi_3257, zi_11483, zi_1000000, zi_729, zi_81, zi_m1, nI_add, pk_mul, nI_ltI, nI_leI, nI_eq, nI_clamp, zn_in, zn_sub1lt, zn_M, zn_Ml, zn_Mg, zn_Mle, zn_Mge, zn_sub, Nat.reduceAdd, Nat.reduceMul]
    refine ⟨fun g => absurd g (by omega), fun _ => su_possible h (by omega) ⟨fun g => ?_, fun g => su_kn hN h hs hP hm ?_⟩⟩
    · refine ih (by omega) x (fun v hv => ?_)
      rw [hx v hv]
      by_cases e : v = m
      · subst e; simp [kn_hear, g]
      · simp only [show (v < m ↔ v < m + 1) by omega]
    · have kl2 := kn_lt s N P m
      simp (disch := omega) only [zi_0, zi_1, zi_2, zi_3, zi_4, zi_5, zi_6, zi_7, zi_8, zi_9, zi_10, zi_11, zi_12, zi_13, zi_14, zi_15, zi_16, zi_17, zi_18, zi_19, zi_20, zi_21, zi_22, zi_23, zi_24, zi_25, zi_26, zi_30, zi_31, zi_32, zi_34, zi_38, zi_59, zi_60, zi_61, zi_63, zi_64, zi_80, zi_96, zi_97, zi_99, zi_100, zi_122, zi_255, zi_256, zi_300, zi_398, zi_406, zi_900, zi_1000, zi_1024, zi_1624, zi_1662, zi_2030, zi_2031, zi_2068, zi_2258, zi_9999, zi_48, zi_57, zi_65536, zi_3257, zi_11483, zi_1000000, zi_729, zi_81, zi_m1, nI_add, pk_mul, nI_ltI, nI_leI, nI_eq, nI_clamp, zn_in, zn_sub1lt, zn_M, zn_Ml, zn_Mg, zn_Mle, zn_Mge, zn_sub, Nat.reduceAdd, Nat.reduceMul]
      refine ⟨fun g2 => ?_, fun g2 => ?_⟩
      · refine ih (by omega) _ (fun v hv => ?_)
        have z := zb_or x (k := m) (w := v) (by omega) hv
        refine Eq.trans z ?_
        rw [hx v hv]
        by_cases e : v = m
        · subst e; simp [kn_hear, g, g2]
        · simp only [show (v < m ↔ v < m + 1) by omega, e, decide_false, Bool.or_false]
      · refine ih (by omega) x (fun v hv => ?_)
        rw [hx v hv]
        by_cases e : v = m
        · subst e; simp [kn_hear, g, g2]
        · simp only [show (v < m ↔ v < m + 1) by omega]
  · have : ∀ v, v < 64 → (0 : Int64).toBitVec.getLsbD v = false := by decide +kernel
    rw [this v hv]
    by_cases e : v = 0
    · subst e; rw [(hP.hear _).1]; simp
    · simp; omega
end
