/-! copies of squares -/
section
variable {q : Nat → Nat} {c d : Nat} {I I0 I1 I2 : am_TI} {L L1 L2 : am_TL} {R : am_TR}
theorem va_cpy0 {α : Type} (f g : Nat → α) {n k : Nat} (h : k < n) : va_cpy f g 0 0 n k = f k := by
  unfold va_cpy
  rw [if_pos (by omega), Nat.zero_add, Nat.sub_zero]
/-- days -/
theorem su_copyD {d e n b : Nat} (hde : d + 5 < e ∨ e + 5 < d) (h6 : I d 6 = nI n) (hn : n ≤ 60) (h5 : I d 5 = nI b) (hb : b ≤ 1) {Q : am_TI → Prop} (K : ∀ I1, I1 e 5 = nI b → I1 e 6 = nI n → (∀ i, 1 ≤ i → i ≤ 5 → ∀ k, k < n → I1 (e + i) k = I (d + i) k) → (∀ r, ¬ (e ≤ r ∧ r ≤ e + 5) → I1 r = I r) → Q I1) : wp_Days_copyFrom I L R e d Q := by
  unfold wp_Days_copyFrom
  have hc0 : Int32.toNatClampNeg 0 = 0 := rfl
  have nn : ¬ nI n < (0 : Int32) := by rw [show (0 : Int32) = nI 0 from rfl, nI_ltI (by omega) (by omega)]; omega
  have cc : Int32.toNatClampNeg 0 + Int32.toNatClampNeg (nI n) ≤ 60 := by rw [hc0, nI_clamp (by omega)]; omega
  refine ⟨by rw [h6]; exact nn, by rw [h6]; exact cc, by rw [h6]; exact cc, fun J1 e1 => ?_⟩
  rw [h6, hc0, nI_clamp (by omega)] at e1
  have f1 : ∀ r, r ≠ e + 1 → J1 r = I r := fun r hr => by rw [e1]; exact am_row_ne _ _ _ hr
  have a1 : ∀ k, k < n → J1 (e + 1) k = I (d + 1) k := fun k hk => by rw [e1, am_row_at]; exact va_cpy0 _ _ hk
  have g1 : J1 d 6 = nI n := by rw [f1 d (by omega)]; exact h6
  refine ⟨by rw [g1]; exact nn, by rw [g1]; exact cc, by rw [g1]; exact cc, fun J2 e2 => ?_⟩
  rw [g1, hc0, nI_clamp (by omega)] at e2
  have f2 : ∀ r, r ≠ e + 2 → J2 r = J1 r := fun r hr => by rw [e2]; exact am_row_ne _ _ _ hr
  have a2 : ∀ k, k < n → J2 (e + 2) k = J1 (d + 2) k := fun k hk => by rw [e2, am_row_at]; exact va_cpy0 _ _ hk
  have g2 : J2 d 6 = nI n := by rw [f2 d (by omega)]; exact g1
  refine ⟨by rw [g2]; exact nn, by rw [g2]; exact cc, by rw [g2]; exact cc, fun J3 e3 => ?_⟩
  rw [g2, hc0, nI_clamp (by omega)] at e3
  have f3 : ∀ r, r ≠ e + 3 → J3 r = J2 r := fun r hr => by rw [e3]; exact am_row_ne _ _ _ hr
  have a3 : ∀ k, k < n → J3 (e + 3) k = J2 (d + 3) k := fun k hk => by rw [e3, am_row_at]; exact va_cpy0 _ _ hk
  have g3 : J3 d 6 = nI n := by rw [f3 d (by omega)]; exact g2
  refine ⟨by rw [g3]; exact nn, by rw [g3]; exact cc, by rw [g3]; exact cc, fun J4 e4 => ?_⟩
  rw [g3, hc0, nI_clamp (by omega)] at e4
  have f4 : ∀ r, r ≠ e + 4 → J4 r = J3 r := fun r hr => by rw [e4]; exact am_row_ne _ _ _ hr
  have a4 : ∀ k, k < n → J4 (e + 4) k = J3 (d + 4) k := fun k hk => by rw [e4, am_row_at]; exact va_cpy0 _ _ hk
  have g4 : J4 d 6 = nI n := by rw [f4 d (by omega)]; exact g3
  refine ⟨by rw [g4]; exact nn, by rw [g4]; exact cc, by rw [g4]; exact cc, fun J5 e5 => ?_⟩
  rw [g4, hc0, nI_clamp (by omega)] at e5
  have f5 : ∀ r, r ≠ e + 5 → J5 r = J4 r := fun r hr => by rw [e5]; exact am_row_ne _ _ _ hr
  have a5 : ∀ k, k < n → J5 (e + 5) k = J4 (d + 5) k := fun k hk => by rw [e5, am_row_at]; exact va_cpy0 _ _ hk
  have g5 : J5 d 6 = nI n := by rw [f5 d (by omega)]; exact g4
  have fa : ∀ r, ¬ (e < r ∧ r ≤ e + 5) → J5 r = I r := fun r hr => by rw [f5 r (by omega), f4 r (by omega), f3 r (by omega), f2 r (by omega), f1 r (by omega)]
  have e5 : J5 d 5 = nI b := by rw [fa d (by omega)]; exact h5
  rw [e5]
  refine ⟨?_, fun I6 h6' I7 h7 I8 h8 => ?_⟩
  · rcases (show b = 0 ∨ b = 1 by omega) with rfl | rfl
    · exact Or.inl rfl
    · exact Or.inr rfl
  have k7 : I7 = am_u2 I6 e 6 (nI n) := by rw [h7, h6', am_u2o (by omega), g5]
  have fr : ∀ r, r ≠ e → I8 r = J5 r := fun r hr => by rw [h8, h7, h6', am_u2_row _ _ _ _ hr, am_u2_row _ _ _ _ hr, am_u2_row _ _ _ _ hr]
  refine K I8 (by rw [h8, k7, h6', am_u2_ne _ _ _ _ (by omega), am_u2_ne _ _ _ _ (by omega), am_u2_at]) (by rw [h8, k7, am_u2_ne _ _ _ _ (by omega), am_u2_at]) (fun i i1 i5 k hk => ?_) (fun r hr => by rw [fr r (by omega), fa r (by omega)])
  rw [fr _ (by omega)]
  rcases (show i = 1 ∨ i = 2 ∨ i = 3 ∨ i = 4 ∨ i = 5 by omega) with rfl | rfl | rfl | rfl | rfl
  · rw [f5 (e + 1) (by omega), f4 (e + 1) (by omega), f3 (e + 1) (by omega), f2 (e + 1) (by omega), a1 k hk]
  · rw [f5 (e + 2) (by omega), f4 (e + 2) (by omega), f3 (e + 2) (by omega), a2 k hk, f1 (d + 2) (by omega)]
  · rw [f5 (e + 3) (by omega), f4 (e + 3) (by omega), a3 k hk, f2 (d + 3) (by omega), f1 (d + 3) (by omega)]
  · rw [f5 (e + 4) (by omega), a4 k hk, f3 (d + 4) (by omega), f2 (d + 4) (by omega), f1 (d + 4) (by omega)]
  · rw [a5 k hk, f4 (d + 5) (by omega), f3 (d + 5) (by omega), f2 (d + 5) (by omega), f1 (d + 5) (by omega)]
/-- a square -/
theorem su_copy {t e : Nat} (h : sq_U q c d I L) (ok : sq_Ok q) (he : am_rd R t 5 = e) (hd : am_rd R c 5 = d) (d1 : d + 5 < e ∨ e + 5 < d) (d2 : c + 5 < t ∨ t + 5 < c) (d3 : c + 5 < e ∨ e + 5 < c) (d4 : d + 5 < t ∨ t + 5 < d) (d5 : e + 5 < t ∨ t + 5 < e) (h6 : I d 6 = nI (q 7 - 1)) {Q : am_TI → am_TL → Prop} (K : ∀ I1 L1, sq_U q t e I1 L1 → I1 e 6 = nI (q 7 - 1) → (∀ r, ¬ (t ≤ r ∧ r ≤ t + 5) → ¬ (e ≤ r ∧ r ≤ e + 5) → I1 r = I r) → (∀ r, r ≠ t + 1 → L1 r = L r) → Q I1 L1) : wp_Square_copyFrom I L R t c Q := by
  have o := ok.1.2.2.1
  have o7 := ok.2.2.2.2.1
  have hc0 : Int32.toNatClampNeg 0 = 0 := rfl
  have hc6 : Int32.toNatClampNeg 6 = 6 := rfl
  have hc4 : Int32.toNatClampNeg 4 = 4 := rfl
  unfold wp_Square_copyFrom
  rw [hc0, hc6, hc4, he, hd]
  intro L1 l1 I1 e1 I2 e2 I3 e3 I4 e4
  have f2 : ∀ r, r ≠ t + 2 → I1 r = I r := fun r hr => by rw [e1]; exact am_row_ne _ _ _ hr
  have a2 : ∀ k, k < 6 → I1 (t + 2) k = I (c + 2) k := fun k hk => by rw [e1, am_row_at]; exact va_cpy0 _ _ hk
  have f3 : ∀ r, r ≠ t + 3 → I2 r = I1 r := fun r hr => by rw [e2]; exact am_row_ne _ _ _ hr
  have a3 : ∀ k, k < 6 → I2 (t + 3) k = I1 (c + 3) k := fun k hk => by rw [e2, am_row_at]; exact va_cpy0 _ _ hk
  have f4 : ∀ r, r ≠ t + 4 → I3 r = I2 r := fun r hr => by rw [e3]; exact am_row_ne _ _ _ hr
  have a4 : ∀ k, k < 6 → I3 (t + 4) k = I2 (c + 4) k := fun k hk => by rw [e3, am_row_at]; exact va_cpy0 _ _ hk
  have f5 : ∀ r, r ≠ t + 5 → I4 r = I3 r := fun r hr => by rw [e4]; exact am_row_ne _ _ _ hr
  have a5 : ∀ k, k < 4 → I4 (t + 5) k = I3 (c + 5) k := fun k hk => by rw [e4, am_row_at]; exact va_cpy0 _ _ hk
  have fa : ∀ r, ¬ (t ≤ r ∧ r ≤ t + 5) → I4 r = I r := fun r hr => by rw [f5 r (by omega), f4 r (by omega), f3 r (by omega), f2 r (by omega)]
  refine su_copyD d1 (by rw [fa d (by omega)]; exact h6) (by omega) (by rw [fa d (by omega)]; exact h.dy.1) (by split <;> omega) (fun I5 b5 b6 bk bf => ?_)
  intro I6 h6n I7 h7 I8 h8 I9 h9 I10 h10 I11 h11 I12 h12 I13 h13 I14 h14 I15 h15
  have r6 : ∀ r, r ≠ t → I6 r = I5 r := fun r hr => by rw [h6n, am_u2_row _ _ _ _ hr]
  have v6 : I6 t 6 = I5 c 6 := by rw [h6n, am_u2_at]
  have w6 : ∀ k, k ≠ 6 → I6 t k = I5 t k := fun k hk => by rw [h6n, am_u2_ne _ _ _ _ hk]
  have r7 : ∀ r, r ≠ t → I7 r = I5 r := fun r hr => by rw [h7, am_u2_row _ _ _ _ hr]; exact r6 r hr
  have v7 : I7 t 7 = I5 c 7 := by rw [h7, am_u2_at, r6 c (by omega)]
  have w7 : ∀ k, k ≠ 7 → I7 t k = I6 t k := fun k hk => by rw [h7, am_u2_ne _ _ _ _ hk]
  have r8 : ∀ r, r ≠ t → I8 r = I5 r := fun r hr => by rw [h8, am_u2_row _ _ _ _ hr]; exact r7 r hr
  have v8 : I8 t 8 = I5 c 8 := by rw [h8, am_u2_at, r7 c (by omega)]
  have w8 : ∀ k, k ≠ 8 → I8 t k = I7 t k := fun k hk => by rw [h8, am_u2_ne _ _ _ _ hk]
  have r9 : ∀ r, r ≠ t → I9 r = I5 r := fun r hr => by rw [h9, am_u2_row _ _ _ _ hr]; exact r8 r hr
  have v9 : I9 t 9 = I5 c 9 := by rw [h9, am_u2_at, r8 c (by omega)]
  have w9 : ∀ k, k ≠ 9 → I9 t k = I8 t k := fun k hk => by rw [h9, am_u2_ne _ _ _ _ hk]
  have r10 : ∀ r, r ≠ t → I10 r = I5 r := fun r hr => by rw [h10, am_u2_row _ _ _ _ hr]; exact r9 r hr
  have v10 : I10 t 10 = I5 c 10 := by rw [h10, am_u2_at, r9 c (by omega)]
  have w10 : ∀ k, k ≠ 10 → I10 t k = I9 t k := fun k hk => by rw [h10, am_u2_ne _ _ _ _ hk]
  have r11 : ∀ r, r ≠ t → I11 r = I5 r := fun r hr => by rw [h11, am_u2_row _ _ _ _ hr]; exact r10 r hr
  have v11 : I11 t 11 = I5 c 11 := by rw [h11, am_u2_at, r10 c (by omega)]
  have w11 : ∀ k, k ≠ 11 → I11 t k = I10 t k := fun k hk => by rw [h11, am_u2_ne _ _ _ _ hk]
  have r12 : ∀ r, r ≠ t → I12 r = I5 r := fun r hr => by rw [h12, am_u2_row _ _ _ _ hr]; exact r11 r hr
  have v12 : I12 t 12 = I5 c 12 := by rw [h12, am_u2_at, r11 c (by omega)]
  have w12 : ∀ k, k ≠ 12 → I12 t k = I11 t k := fun k hk => by rw [h12, am_u2_ne _ _ _ _ hk]
  have r13 : ∀ r, r ≠ t → I13 r = I5 r := fun r hr => by rw [h13, am_u2_row _ _ _ _ hr]; exact r12 r hr
  have v13 : I13 t 13 = I5 c 13 := by rw [h13, am_u2_at, r12 c (by omega)]
  have w13 : ∀ k, k ≠ 13 → I13 t k = I12 t k := fun k hk => by rw [h13, am_u2_ne _ _ _ _ hk]
  have r14 : ∀ r, r ≠ t → I14 r = I5 r := fun r hr => by rw [h14, am_u2_row _ _ _ _ hr]; exact r13 r hr
  have v14 : I14 t 14 = I5 c 14 := by rw [h14, am_u2_at, r13 c (by omega)]
  have w14 : ∀ k, k ≠ 14 → I14 t k = I13 t k := fun k hk => by rw [h14, am_u2_ne _ _ _ _ hk]
  have r15 : ∀ r, r ≠ t → I15 r = I5 r := fun r hr => by rw [h15, am_u2_row _ _ _ _ hr]; exact r14 r hr
  have v15 : I15 t 15 = I5 c 15 := by rw [h15, am_u2_at, r14 c (by omega)]
  have w15 : ∀ k, k ≠ 15 → I15 t k = I14 t k := fun k hk => by rw [h15, am_u2_ne _ _ _ _ hk]
  have ic : ∀ r, ¬ (t ≤ r ∧ r ≤ t + 5) → ¬ (e ≤ r ∧ r ≤ e + 5) → I15 r = I r := fun r x y => by rw [r15 r (by omega), bf r y, fa r x]
  have c5 : I5 c = I c := by rw [bf c (by omega), fa c (by omega)]
  rw [c5] at v6 v7 v8 v9 v10 v11 v12 v13 v14 v15
  rw [← w7 6 (by omega), ← w8 6 (by omega), ← w9 6 (by omega), ← w10 6 (by omega), ← w11 6 (by omega), ← w12 6 (by omega), ← w13 6 (by omega), ← w14 6 (by omega), ← w15 6 (by omega)] at v6
  rw [← w8 7 (by omega), ← w9 7 (by omega), ← w10 7 (by omega), ← w11 7 (by omega), ← w12 7 (by omega), ← w13 7 (by omega), ← w14 7 (by omega), ← w15 7 (by omega)] at v7
  rw [← w9 8 (by omega), ← w10 8 (by omega), ← w11 8 (by omega), ← w12 8 (by omega), ← w13 8 (by omega), ← w14 8 (by omega), ← w15 8 (by omega)] at v8
  rw [← w10 9 (by omega), ← w11 9 (by omega), ← w12 9 (by omega), ← w13 9 (by omega), ← w14 9 (by omega), ← w15 9 (by omega)] at v9
  rw [← w11 10 (by omega), ← w12 10 (by omega), ← w13 10 (by omega), ← w14 10 (by omega), ← w15 10 (by omega)] at v10
  rw [← w12 11 (by omega), ← w13 11 (by omega), ← w14 11 (by omega), ← w15 11 (by omega)] at v11
  rw [← w13 12 (by omega), ← w14 12 (by omega), ← w15 12 (by omega)] at v12
  rw [← w14 13 (by omega), ← w15 13 (by omega)] at v13
  rw [← w15 14 (by omega)] at v14
  have ie : ∀ r, e ≤ r ∧ r ≤ e + 5 → I15 r = I5 r := fun r hr => r15 r (by omega)
  have it : ∀ i, 2 ≤ i → i ≤ 5 → I15 (t + i) = I4 (t + i) := fun i x y => by rw [r15 _ (by omega), bf _ (by omega)]
  obtain ⟨⟨s1, s2, s3, s4, s5, s6, s7, s8, s9, s10⟩, hh, hg, hn, hdy⟩ := h
  refine K I15 L1 ⟨⟨v6.trans s1, v7.trans s2, v10.trans s3, v11.trans s4, v12.trans s5, v8.trans s6, v9.trans s7, v13.trans s8, v14.trans s9, v15.trans s10⟩, fun x hx => ⟨?_, ?_, ?_⟩, fun k hk => ?_, fun x hx => ?_, ?_, fun _ => ?_, fun j hj => ?_⟩ ?_ ic (fun r hr => by rw [l1]; exact am_row_ne _ _ _ hr)
  · rw [it 2 (by omega) (by omega), f5 _ (by omega), f4 _ (by omega), f3 _ (by omega), a2 x (by omega)]; exact (hh x hx).1
  · rw [it 4 (by omega) (by omega), f5 _ (by omega), a4 x (by omega), f3 _ (by omega), f2 _ (by omega)]; exact (hh x hx).2.1
  · rw [it 3 (by omega) (by omega), f5 _ (by omega), f4 _ (by omega), a3 x (by omega), f2 _ (by omega)]; exact (hh x hx).2.2
  · rw [it 5 (by omega) (by omega), a5 k (by omega), f4 _ (by omega), f3 _ (by omega), f2 _ (by omega)]; exact hg k hk
  · rw [l1, am_row_at, va_cpy0 _ _ (by omega)]; exact hn x hx
  · rw [ie e (by omega)]; exact b5
  · rw [ie e (by omega)]; exact b6
  · have bb : ∀ i, 1 ≤ i → i ≤ 5 → I15 (e + i) j = I (d + i) j := fun i x y => by rw [ie (e + i) (by omega), bk i x y j (by omega), fa (d + i) (by omega)]
    have := hdy.2.2 j hj
    unfold dy_rowU at this ⊢
    rw [bb 1 (by omega) (by omega), bb 2 (by omega) (by omega), bb 3 (by omega) (by omega), bb 4 (by omega) (by omega), bb 5 (by omega) (by omega)]
    exact this
  · rw [ie e (by omega)]; exact b6
end
