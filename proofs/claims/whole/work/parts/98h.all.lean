/-! the law's loop, and its beginning -/
theorem lt6_neg : ∀ N, N < 6 → nI N - 6 < nI 0 := by decide +kernel
theorem lt6 {N i : Nat} (hi : i < 10000) (h : N < i + 6) : nI N - 6 < nI i := by
  by_cases g : N < 6
  · exact (zc_m (lt6_neg N g) (by omega)).2 trivial
  · rw [zi_6, zn_sub (by omega), nI_ltI (by omega) (by omega)]
    omega
set_option maxRecDepth 20000 in
theorem lw_loop {N : Nat} (h3 : N ≤ 3072) : ∀ f i I L R, gA I L R → I 1001 0 = nI N → i < 6 + N → N < i + 6 + 6 * f → wl_Law_law_18 (fun b _ _ _ => b = true) (f + 1) I L R (nI i) := by
  intro f
  induction f with
  | zero =>
    intro i I L R hG hN hi hf
    rw [wl_Law_law_18]
    exact ⟨fun _ => rfl, fun z => absurd (by rw [hN]; exact lt6 (by omega) (by omega)) z⟩
  | succ f ih =>
    intro i I L R hG hN hi hf
    rw [wl_Law_law_18]
    refine ⟨fun _ => rfl, fun z => ?_⟩
    have i6 : i + 6 ≤ N := by
      rcases Nat.lt_or_ge N (i + 6) with g | g
      · exact absurd (by rw [hN]; exact lt6 (by omega) (by omega)) z
      · exact g
    have nx : ∀ I2 L2 R2, gA I2 L2 R2 → I2 1000 = I 1000 → I2 1001 = I 1001 → wl_Law_law_18 (fun b _ _ _ => b = true) (f + 1) I2 L2 R2 (nI i + 6) := fun I2 L2 R2 h e1 e2 => by
      rw [show nI i + 6 = nI (i + 6) from nI_add i 6]
      exact ih (i + 6) I2 L2 R2 h (by rw [e2]; exact hN) (by omega) (by omega)
    exact ⟨N, ⟨hN.symm, h3, (zn_in (by omega)).2 (by omega)⟩, fun _ => lc_0 (Q := fun b _ _ _ => b = true) hG hN h3 i6 nx, fun _ => lc_1 (Q := fun b _ _ _ => b = true) hG hN h3 i6 nx, fun _ => lc_2 (Q := fun b _ _ _ => b = true) hG hN h3 i6 nx, fun _ => lc_3 (Q := fun b _ _ _ => b = true) hG hN h3 i6 nx, fun _ => lc_4 (Q := fun b _ _ _ => b = true) hG hN h3 i6 nx, fun _ => lc_5 (Q := fun b _ _ _ => b = true) hG hN h3 i6 nx, fun _ => lc_6 (Q := fun b _ _ _ => b = true) hG hN h3 i6 nx, fun _ => lc_7 (Q := fun b _ _ _ => b = true) hG hN h3 i6 nx, fun _ => lc_8 (Q := fun b _ _ _ => b = true) hG hN h3 i6 nx, fun _ => lc_9 (Q := fun b _ _ _ => b = true) hG hN h3 i6 nx, fun _ => lc_10 (Q := fun b _ _ _ => b = true) hG hN h3 i6 nx, fun _ => lc_11 (Q := fun b _ _ _ => b = true) hG hN h3 i6 nx, fun _ => lc_12 (Q := fun b _ _ _ => b = true) hG hN h3 i6 nx, fun _ => lc_13 (Q := fun b _ _ _ => b = true) hG hN h3 i6 nx, fun _ => lc_14 (Q := fun b _ _ _ => b = true) hG hN h3 i6 nx, fun _ => lc_15 (Q := fun b _ _ _ => b = true) hG hN h3 i6 nx, fun _ => lc_16 (Q := fun b _ _ _ => b = true) hG hN h3 i6 nx, fun _ => lc_17 (Q := fun b _ _ _ => b = true) hG hN h3 i6 nx, fun _ => lc_18 (Q := fun b _ _ _ => b = true) hG hN h3 i6 nx, fun _ => lc_19 (Q := fun b _ _ _ => b = true) hG hN h3 i6 nx, fun _ => lc_20 (Q := fun b _ _ _ => b = true) hG hN h3 i6 nx, fun _ => lc_21 (Q := fun b _ _ _ => b = true) hG hN h3 i6 nx, fun _ => lc_22 (Q := fun b _ _ _ => b = true) hG hN h3 i6 nx, fun _ => lc_23 (Q := fun b _ _ _ => b = true) hG hN h3 i6 nx, fun _ => lc_24 (Q := fun b _ _ _ => b = true) hG hN h3 i6 nx, fun _ => lc_25 (Q := fun b _ _ _ => b = true) hG hN h3 i6 nx, fun _ => lc_26 (Q := fun b _ _ _ => b = true) hG hN h3 i6 nx, fun _ => lc_27 (Q := fun b _ _ _ => b = true) hG hN h3 i6 nx, fun _ => lc_28 (Q := fun b _ _ _ => b = true) hG hN h3 i6 nx, fun _ => lc_29 (Q := fun b _ _ _ => b = true) hG hN h3 i6 nx, fun _ => lc_30 (Q := fun b _ _ _ => b = true) hG hN h3 i6 nx, fun _ => lc_31 (Q := fun b _ _ _ => b = true) hG hN h3 i6 nx, fun _ => lc_32 (Q := fun b _ _ _ => b = true) hG hN h3 i6 nx, fun _ => lc_33 (Q := fun b _ _ _ => b = true) hG hN h3 i6 nx, fun _ => lc_34 (Q := fun b _ _ _ => b = true) hG hN h3 i6 nx, fun _ => lc_35 (Q := fun b _ _ _ => b = true) hG hN h3 i6 nx, fun _ => lc_36 (Q := fun b _ _ _ => b = true) hG hN h3 i6 nx, fun _ => lc_37 (Q := fun b _ _ _ => b = true) hG hN h3 i6 nx, fun _ => lc_38 (Q := fun b _ _ _ => b = true) hG hN h3 i6 nx, fun _ => lc_39 (Q := fun b _ _ _ => b = true) hG hN h3 i6 nx, fun _ => lc_40 (Q := fun b _ _ _ => b = true) hG hN h3 i6 nx, fun _ => lc_41 (Q := fun b _ _ _ => b = true) hG hN h3 i6 nx, fun _ => lc_42 (Q := fun b _ _ _ => b = true) hG hN h3 i6 nx, fun _ => lc_43 (Q := fun b _ _ _ => b = true) hG hN h3 i6 nx, fun _ => lc_44 (Q := fun b _ _ _ => b = true) hG hN h3 i6 nx, fun _ => lc_45 (Q := fun b _ _ _ => b = true) hG hN h3 i6 nx, fun _ => lc_46 (Q := fun b _ _ _ => b = true) hG hN h3 i6 nx, fun _ => lc_47 (Q := fun b _ _ _ => b = true) hG hN h3 i6 nx, fun _ => lc_48 (Q := fun b _ _ _ => b = true) hG hN h3 i6 nx, fun _ => lc_49 (Q := fun b _ _ _ => b = true) hG hN h3 i6 nx, fun _ => lc_50 (Q := fun b _ _ _ => b = true) hG hN h3 i6 nx, fun _ => lc_51 (Q := fun b _ _ _ => b = true) hG hN h3 i6 nx, fun _ _ _ _ _ _ _ _ _ _ _ _ _ _ _ _ _ _ _ _ _ _ _ _ _ _ _ _ _ _ _ _ _ _ _ _ _ _ _ _ _ _ _ _ _ _ _ _ _ _ _ _ => nx I L R hG rfl rfl⟩
def lw_G0 : gT := (qz, 0, 0, 1, nM, nM, 0, (fun _ => 0), (fun _ => 0), (fun _ => 0), (fun _ _ => 0), (fun _ => 0), 0, (fun _ => qz))
theorem lw_G0ok : gOk lw_G0 := ⟨qz_Ok, Nat.zero_le _, fun _ _ => ⟨Nat.zero_le _, Nat.zero_le _⟩, ⟨Nat.zero_le _, Nat.zero_le _⟩, Nat.zero_le _, fun i hi => absurd hi (Nat.not_lt_zero i)⟩
theorem lw_rs : rs_U lw_LM := by
  have h : ∀ i, i < 25 → lw_LM 4 i = lN (rwL.getD i 0) := by decide +kernel
  exact h
theorem lw_ma : ma_R lw_RM := by
  have h : ∀ i, i < 3 → am_rd lw_RM 11 i = 67 + 12 * i ∧ am_rd lw_RM (67 + 12 * i) 5 = 73 + 12 * i := by decide +kernel
  exact h
theorem lw_tr1 : ∀ t, t < 4 → am_rd lw_RM 1 t = 59 + 2 * t := by decide +kernel
theorem lw_gR : gR 29 35 41 47 53 lw_RM := ⟨⟨⟨⟨Or.inl rfl, Or.inl rfl⟩, ⟨Or.inr rfl, Or.inr (Or.inl rfl)⟩, by omega, by omega⟩, Or.inr (Or.inr rfl), by omega, by omega⟩, ⟨by decide +kernel, by decide +kernel, by decide +kernel, by decide +kernel⟩, by decide +kernel, lw_ma⟩
set_option maxRecDepth 20000 in
set_option maxHeartbeats 2000000 in
theorem lw_gU {xs : Nat → Int32} {n : Nat} {I1 : am_TI} (e : ∀ r k, r ≠ 104 → I1 r k = lw_IM (lw_I0 xs n) r k) : gU lw_G0 I1 lw_LM lw_RM := by
  refine ⟨29, 35, 41, 47, 53, lw_gR, ⟨⟨?_, fun i hi => absurd hi (Nat.not_lt_zero i), fun i hi => absurd hi (Nat.not_lt_zero i), fun i hi => absurd hi (Nat.not_lt_zero i), ?_, fun z => absurd z (Nat.lt_irrefl 0), fun j hj => absurd hj (Nat.not_lt_zero _)⟩, ?_⟩, ?_, ⟨by decide +kernel, by decide +kernel⟩, ⟨?_, ?_⟩, ⟨?_, fun i hi => absurd hi (Nat.not_lt_zero i)⟩, ⟨lw_rs, ?_⟩, fun t ht => ?_, ⟨?_, fun z => absurd z (by decide)⟩, ?_, fun i hi => absurd hi (Nat.not_lt_zero i)⟩
  · refine ⟨?_, ?_, ?_, ?_, ?_, ?_, ?_, ?_, ?_, ?_⟩ <;> (rw [e _ _ (by omega)]; rfl)
  · rw [e _ _ (by omega)]; rfl
  · rw [e _ _ (by omega)]; rfl
  · rw [e _ _ (by omega)]; rfl
  · rw [e _ _ (by omega)]; rfl
  · rw [e _ _ (by omega)]; rfl
  · rw [e _ _ (by omega)]; rfl
  · rw [e _ _ (by omega)]; rfl
  · refine ⟨lw_tr1 t ht, ?_, fun z => absurd z (Nat.lt_irrefl 0), fun i hi => absurd hi (Nat.not_lt_zero _)⟩
    have h4 : t = 0 ∨ t = 1 ∨ t = 2 ∨ t = 3 := by omega
    rcases h4 with h | h | h | h <;> subst h <;> (rw [e _ _ (by omega)]; rfl)
  · rw [e _ _ (by omega)]; rfl
  · rw [e _ _ (by omega)]; rfl
set_option maxRecDepth 20000 in
set_option maxHeartbeats 2000000 in
theorem lw_gM {xs : Nat → Int32} {n : Nat} {I1 : am_TI} (e : ∀ r k, r ≠ 104 → I1 r k = lw_IM (lw_I0 xs n) r k) (z : ∀ k, k < 406 → I1 104 (406 * 0 + k) = if k = 7 then nM else nI (qz k)) : gM lw_G0 I1 lw_LM := by
  refine ⟨sq_M.z z, ?_, ⟨by decide +kernel, by decide +kernel⟩, ⟨?_, ?_⟩, ⟨?_, fun i hi => absurd hi (Nat.not_lt_zero i)⟩, fun t ht => ⟨?_, fun z => absurd z (Nat.lt_irrefl 0), fun i hi => absurd hi (Nat.not_lt_zero _)⟩, ⟨?_, fun z => absurd z (by decide)⟩, ?_, fun i hi => absurd hi (Nat.not_lt_zero i)⟩
  · rw [e _ _ (by omega)]; rfl
  · rw [e _ _ (by omega)]; rfl
  · rw [e _ _ (by omega)]; rfl
  · rw [e _ _ (by omega)]; rfl
  · have h4 : t = 0 ∨ t = 1 ∨ t = 2 ∨ t = 3 := by omega
    rcases h4 with h | h | h | h <;> subst h <;> (rw [e _ _ (by omega)]; rfl)
  · rw [e _ _ (by omega)]; rfl
  · rw [e _ _ (by omega)]; rfl
set_option maxRecDepth 20000 in
theorem lw_all (xs : Nat → Int32) (n : Nat) (hn : n ≤ 3072) : lw_pure xs n := by
  show wp_M_plain (lw_IM (lw_I0 xs n)) lw_LM lw_RM 103 (nI (406 * 0)) (fun I' => ∃ z, wl_Law_law_18 (fun b _ _ _ => b = true) z I' lw_LM lw_RM 0)
  refine sm_plain (s := 0) (by omega) (fun I1 z1 f1 => ⟨n + 1, ?_⟩)
  have e : ∀ r k, r ≠ 104 → I1 r k = lw_IM (lw_I0 xs n) r k := fun r k z => f1 r k (by omega)
  refine lw_loop hn n 0 I1 lw_LM lw_RM ⟨lw_G0, lw_G0ok, lw_gU e, lw_gM e z1⟩ ?_ (by omega) (by omega)
  rw [e _ _ (by omega)]; rfl
