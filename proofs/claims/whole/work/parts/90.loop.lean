/-! the square's text: the loop of parts; a square of nobody -/
section
variable {y : Nat → Nat} {n p : Nat} {q f : Nat → Nat} {tp : Nat} {I : am_TI} {L : am_TL}
theorem sU.k0 {t e : Nat} (s : sU y n q f p t e I L) : I 2 8 = 0 ↔ n ≤ p := by
  have k7 : tK y n p < 7 := tK_lt
  rw [s.1.k, zi_0, nI_eq (by omega) (by omega)]
  exact tK_0
theorem tk_M.k0 (s : tk_M y n p I) : I 103 12 = 0 ↔ n ≤ p := by
  have m5 : tM y n p < 5 := tM_5
  rw [s.2.2.2.2.1, zi_0, nI_eq (by omega) (by omega), tM_0]
  exact tK_0
theorem SP.loopE (hg : sG q f tp) (c : n ≤ p) (pn : Int32) (m i : Nat) : SP y n 0 q f q tp p (fun t I L R Q => wl_SquareReader_readText_27 R 8 2 pn t Q (m + 1) I L (nI i)) (fun I L R Q => ∀ (p1 : Int32) (Q' : Int32 → am_TI → am_TL → Prop), (∀ b I1 L1, Q b I1 L1 → wb_M_square_50 R 103 p1 Q' I1 L1) → wl_M_square_31 R 103 p1 Q' (m + 1) I L true) := by
  refine Or.inr ⟨q, f, tp, p, ⟨hg, Nat.zero_le _⟩, fun t e I L R Q hc s K => ?_, fun I L R Q s K p1 Q' H => ?_⟩
  · show wl_SquareReader_readText_27 R 8 2 pn t Q (m + 1) I L (nI i)
    rw [wl_SquareReader_readText_27]
    exact ⟨fun _ => K I L s ku.refl, fun _ => ⟨fun _ => K I L s ku.refl, fun x => absurd (s.k0.2 c) x⟩⟩
  · rw [wl_M_square_31]
    exact ⟨fun x => (by cases x), fun _ => ⟨fun _ => H true I L (K I L s km.refl), fun x => absurd (s.1.k0.2 c) x⟩⟩
theorem SP.loop (hn : n ≤ 900) (pn : Int32) : ∀ m q f tp p i, n - p ≤ m → i + (n - p) ≤ 900 → sG q f tp → SP y n 0 q f q tp p (fun t I L R Q => wl_SquareReader_readText_27 R 8 2 pn t Q (m + 1) I L (nI i)) (fun I L R Q => ∀ (p1 : Int32) (Q' : Int32 → am_TI → am_TL → Prop), (∀ b I1 L1, Q b I1 L1 → wb_M_square_50 R 103 p1 Q' I1 L1) → wl_M_square_31 R 103 p1 Q' (m + 1) I L true) := by
  intro m
  induction m with
  | zero => exact fun q f tp p i hm hi hg => SP.loopE hg (by omega) pn 0 i
  | succ m ih =>
    intro q f tp p i hm hi hg
    by_cases c : n ≤ p
    · exact SP.loopE hg c pn (m + 1) i
    have i9 : ¬ (900 : Int32) ≤ nI i := by rw [zi_900, nI_leI (by omega) (by omega)]; omega
    have i1 : nI i + 1 = nI (i + 1) := by rw [zi_1, nI_add]
    rcases SP.part (y := y) (p := p) hn (by omega) hg with ⟨v, pl, hv, a, b⟩ | ⟨q', f', tp', p', ⟨hg', hl⟩, a, b⟩
    · refine Or.inl ⟨v, pl, hv, fun t e I L R Q hc s K => ?_, fun I L R Q s K p1 Q' H => ?_⟩
      · show wl_SquareReader_readText_27 R 8 2 pn t Q (m + 1 + 1) I L (nI i)
        rw [wl_SquareReader_readText_27]
        exact ⟨fun x => absurd x i9, fun _ => ⟨fun x => absurd (s.k0.1 x) c, fun _ => a t e I L R _ hc s (fun I1 L1 x1 x2 x3 x4 => ⟨fun _ => K I1 L1 x1 x2 x3 x4, fun x => (by cases x)⟩)⟩⟩
      · rw [wl_M_square_31]
        refine ⟨fun x => (by cases x), fun _ => ⟨fun x => absurd (s.1.k0.1 x) c, fun _ => b I L R _ s (fun I1 L1 x1 x2 x3 x4 => ?_)⟩⟩
        show wl_M_square_31 R 103 p1 Q' (m + 1) I1 L1 false
        rw [wl_M_square_31]
        exact ⟨fun _ => H false I1 L1 (K I1 L1 x1 x2 x3 x4), fun x => (by cases x)⟩
    · refine (ih q' f' tp' p' (i + 1) (by omega) (by omega) hg').pre (fun t e I L R Q hc s K => ?_) (fun I L R Q s K p1 Q' H => ?_)
      · show wl_SquareReader_readText_27 R 8 2 pn t Q (m + 1 + 1) I L (nI i)
        rw [wl_SquareReader_readText_27]
        refine ⟨fun x => absurd x i9, fun _ => ⟨fun x => absurd (s.k0.1 x) c, fun _ => a t e I L R _ hc s (fun I1 L1 s1 k1 => ⟨fun x => (by cases x), fun _ => ?_⟩)⟩⟩
        rw [i1]
        exact K I1 L1 s1 k1
      · rw [wl_M_square_31]
        exact ⟨fun x => (by cases x), fun _ => ⟨fun x => absurd (s.1.k0.1 x) c, fun _ => b I L R _ s (fun I1 L1 s1 k1 => K I1 L1 s1 k1 p1 Q' H)⟩⟩
end
/-- a square of nobody -/
def qz (k : Nat) : Nat := if k < 2 then 4 else if k = 5 then 8 else 0
theorem qz_Ok : sq_Ok qz := by
  refine ⟨by decide, fun h hh => absurd hh (Nat.not_lt_zero h), fun h hh => absurd hh (Nat.not_lt_zero h), fun h hh => absurd hh (Nat.not_lt_zero h), by decide, fun j hj => absurd hj ?_, fun i j _ _ h3 _ _ => absurd h3 ?_⟩
  · show ¬ j + 1 < 0
    omega
  · show ¬ j + 1 < 0
    omega
theorem qz_G : sG qz (fun _ => 0) 0 := by
  refine ⟨qz_Ok, by decide, fun _ => rfl, rfl, by decide, ?_, ?_, ?_⟩ <;> decide
section
variable {I : am_TI} {L : am_TL} {R : am_TR}
theorem sm_plain {s : Nat} (hs : s ≤ 4) {Q : am_TI → Prop} (K : ∀ I1, (∀ k, k < 406 → I1 104 (406 * s + k) = if k = 7 then nM else nI (qz k)) → (∀ r k, ¬ (r = 104 ∧ 406 * s ≤ k ∧ k < 406 * s + 406) → I1 r k = I r k) → Q I1) : wp_M_plain I L R 103 (nI (406 * s)) Q := by
  have go : ∀ m v I0, v + m = 406 → (∀ k, k < v → I0 104 (406 * s + k) = nI 0) → (∀ r k, ¬ (r = 104 ∧ 406 * s ≤ k ∧ k < 406 * s + 406) → I0 r k = I r k) → wl_M_plain_2 L R 103 (nI (406 * s)) Q (m + 1) I0 (nI v) := by
    intro m
    induction m with
    | zero =>
      intro v I0 hv h0 hf
      have ev : v = 406 := by omega
      subst ev
      rw [wl_M_plain_2]
      simp (disch := omega) only [zi_0, zi_1, zi_2, zi_3, zi_4, zi_5, zi_6, zi_7, zi_8, zi_9, zi_10, zi_11, zi_12, zi_13, zi_14, zi_15, zi_16, zi_17, zi_18, zi_19, zi_20, zi_21, zi_22, zi_23, zi_24, zi_25, zi_26, zi_30, zi_31, zi_32, zi_34, zi_38, zi_59, zi_60, zi_61, zi_63, zi_64, zi_80, zi_96, zi_97, zi_99, zi_100, zi_122, zi_255, zi_256, zi_300, zi_398, zi_406, zi_900, zi_1000, zi_1024, zi_1624, zi_1662, zi_2030, zi_2031, zi_2068, zi_2258, zi_9999, zi_48, zi_57, zi_65536, zi_3257, zi_11483, zi_1000000, zi_729, zi_81, zi_m1, nI_add, pk_mul, nI_ltI, nI_leI, nI_eq, nI_clamp, zn_in, zn_sub1lt, zn_M, zn_Ml, zn_Mg, zn_Mle, zn_Mge, zn_sub, Nat.reduceAdd, Nat.reduceMul]
      refine ⟨fun _ => ⟨by omega, fun I1 h1 => ⟨by omega, fun I2 h2 => ⟨by omega, fun I3 h3 => ⟨by omega, fun I4 h4 => K I4 (fun k hk => ?_) (fun r k x => ?_)⟩⟩⟩⟩, fun x => absurd (by omega) x⟩
      · by_cases c7 : k = 7
        · subst c7
          rw [if_pos rfl, h4, am_u2_at]
        rw [if_neg c7, h4, am_u2_ne _ _ _ _ (by omega)]
        by_cases c5 : k = 5
        · subst c5
          rw [h3, am_u2_at]; rfl
        rw [h3, am_u2_ne _ _ _ _ (by omega)]
        by_cases c1 : k = 1
        · subst c1
          rw [h2, am_u2_at]; rfl
        rw [h2, am_u2_ne _ _ _ _ (by omega)]
        by_cases c0 : k = 0
        · subst c0
          rw [h1, am_u2_at]; rfl
        rw [h1, am_u2_ne _ _ _ _ (by omega), h0 k hk]
        unfold qz
        rw [if_neg (by omega), if_neg c5]
      · rw [h4, h3, h2, h1]
        unfold am_u2
        rw [if_neg (by omega), if_neg (by omega), if_neg (by omega), if_neg (by omega)]
        exact hf r k x
    | succ m ih =>
      intro v I0 hv h0 hf
      rw [wl_M_plain_2]
      simp (disch := omega) only [zi_0, zi_1, zi_2, zi_3, zi_4, zi_5, zi_6, zi_7, zi_8, zi_9, zi_10, zi_11, zi_12, zi_13, zi_14, zi_15, zi_16, zi_17, zi_18, zi_19, zi_20, zi_21, zi_22, zi_23, zi_24, zi_25, zi_26, zi_30, zi_31, zi_32, zi_34, zi_38, zi_59, zi_60, zi_61, zi_63, zi_64, zi_80, zi_96, zi_97, zi_99, zi_100, zi_122, zi_255, zi_256, zi_300, zi_398, zi_406, zi_900, zi_1000, zi_1024, zi_1624, zi_1662, zi_2030, zi_2031, zi_2068, zi_2258, zi_9999, zi_48, zi_57, zi_65536, zi_3257, zi_11483, zi_1000000, zi_729, zi_81, zi_m1, nI_add, pk_mul, nI_ltI, nI_leI, nI_eq, nI_clamp, zn_in, zn_sub1lt, zn_M, zn_Ml, zn_Mg, zn_Mle, zn_Mge, zn_sub, Nat.reduceAdd, Nat.reduceMul]
      refine ⟨fun x => absurd x (by omega), fun _ => ⟨by omega, fun I5 h5 => ih (v + 1) I5 (by omega) (fun k hk => ?_) (fun r k x => ?_)⟩⟩
      · by_cases c : k = v
        · subst c
          rw [h5, am_u2_at]
        · rw [h5, am_u2_ne _ _ _ _ (by omega)]; exact h0 k (by omega)
      · rw [h5]
        unfold am_u2
        rw [if_neg (by omega)]
        exact hf r k x
  exact ⟨407, go 406 0 I (by omega) (fun k hk => absurd hk (by omega)) (fun _ _ _ => rfl)⟩
theorem sq_M.z {s : Nat} (h : ∀ k, k < 406 → I 104 (406 * s + k) = if k = 7 then nM else nI (qz k)) : sq_M qz s I L := by
  refine ⟨fun k hk h7 => ?_, ?_, fun j hj => absurd hj ?_, fun x hx => absurd hx ?_⟩
  · rw [h k (by omega), if_neg h7]
  · rw [h 7 (by omega), if_pos rfl]; decide
  · show ¬ j + 1 < 0
    omega
  · show ¬ x < 0
    omega
end
