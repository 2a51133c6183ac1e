/-! what holds between two calls of the law -/
abbrev gT := (Nat → Nat) × Nat × Int64 × Int64 × Int32 × Int32 × Nat × (Nat → Int32) × (Nat → Nat) × (Nat → Nat) × (Nat → Nat → Int64) × (Nat → Nat) × Nat × (Nat → Nat → Nat)
def gR (c d t e x : Nat) (R : am_TR) : Prop := ((sq_cd c d ∧ sq_cd t e ∧ t ≠ c ∧ e ≠ d) ∧ (x = 35 ∨ x = 47 ∨ x = 53) ∧ x ≠ d ∧ x ≠ e) ∧ (am_rd R 0 11 = c ∧ am_rd R c 5 = d ∧ am_rd R 0 12 = t ∧ am_rd R t 5 = e) ∧ am_rd R 0 13 = x ∧ ma_R R
def gOk : gT → Prop
  | (q, _, _, _, _, _, len, _, tm, ts, _, lv, n, mm) => sq_Ok q ∧ len ≤ 900 ∧ tr_Ok tm ts ∧ li_Ok lv ∧ ma_Ok n mm
def gU : gT → am_TI → am_TL → am_TR → Prop
  | (q, st, T, B, fk, fp, len, b, tm, ts, tv, lv, n, mm), I, L, R => ∃ c d t e x, gR c d t e x R ∧ (sq_U q c d I L ∧ I d 6 = nI (q 7 - 1)) ∧ I 0 15 = nI st ∧ (L 0 16 = T ∧ L 0 17 = B) ∧ (I 2 10 = fk ∧ I 2 11 = fp) ∧ tp_U len b I ∧ (rs_U L ∧ I 26 0 = nI 0) ∧ tr_U tm ts tv I L R ∧ li_U lv I ∧ ma_U n mm I L
def gM : gT → am_TI → am_TL → Prop
  | (q, st, T, B, fk, fp, len, b, tm, ts, tv, lv, n, mm), I, L => sq_M q 0 I L ∧ I 103 2 = nI st ∧ (L 103 3 = T ∧ L 103 4 = B) ∧ (I 103 16 = fk ∧ I 103 17 = fp) ∧ tp_M len b I ∧ tr_M tm ts tv I L ∧ li_M lv I ∧ ma_M n mm I L
/-- both answer alike, and go on so -/
def bo {α : Type} (U : am_TI → am_TL → am_TR → (α → am_TI → am_TL → am_TR → Prop) → Prop) (M : am_TI → am_TL → am_TR → (α → am_TI → am_TL → Prop) → Prop) : Prop :=
  ∀ G, gOk G → ∃ (ans : α) (G' : gT), gOk G' ∧
    (∀ I L R, gU G I L R → ∀ Q : α → am_TI → am_TL → am_TR → Prop, (∀ I1 L1 R1, gU G' I1 L1 R1 → (∀ r, 103 ≤ r → I1 r = I r) → (∀ r, 103 ≤ r → L1 r = L r) → Q ans I1 L1 R1) → U I L R Q) ∧
    (∀ I L R, gM G I L → ∀ Q : α → am_TI → am_TL → Prop, (∀ I1 L1, gM G' I1 L1 → (∀ r, (r < 103 ∨ 133 ≤ r) → I1 r = I r) → (∀ r, r < 103 → L1 r = L r) → Q ans I1 L1) → M I L R Q)
def gA (I : am_TI) (L : am_TL) (R : am_TR) : Prop := ∃ G, gOk G ∧ gU G I L R ∧ gM G I L
section
variable {I I1 : am_TI} {L L1 : am_TL} {R R1 : am_TR} {q q' : Nat → Nat} {c d len n : Nat} {b : Nat → Int32} {tm ts lv : Nat → Nat} {tv : Nat → Nat → Int64} {mk : Nat → Nat → Nat}
theorem tp_U.kp (h : tp_U len b I) (e7 : I1 2 7 = I 2 7) (e3 : ∀ k, I1 3 k = I 3 k) : tp_U len b I1 := ⟨by rw [e7]; exact h.1, fun i hi => by rw [e3]; exact h.2 i hi⟩
theorem tp_M.kp (h : tp_M len b I) (e : I1 103 10 = I 103 10) (e2 : ∀ k, I1 109 k = I 109 k) : tp_M len b I1 := ⟨by rw [e]; exact h.1, fun i hi => by rw [e2]; exact h.2 i hi⟩
theorem tr_U.kp (h : tr_U tm ts tv I L R) (e : ∀ r k, 59 ≤ r → r ≤ 66 → I1 r k = I r k) (eL : ∀ r k, 59 ≤ r → r ≤ 66 → L1 r k = L r k) (eR : ∀ k, R1 1 k = R 1 k) : tr_U tm ts tv I1 L1 R1 := fun t ht => by
  obtain ⟨h1, h2, h3, h4⟩ := h t ht
  refine ⟨by unfold am_rd at h1 ⊢; rw [eR]; exact h1, by rw [e _ _ (by omega) (by omega)]; exact h2, fun z => by rw [e _ _ (by omega) (by omega)]; exact h3 z, fun i hi => by rw [eL _ _ (by omega) (by omega)]; exact h4 i hi⟩
theorem tr_M.kp (h : tr_M tm ts tv I L) (e6 : ∀ k, I1 106 k = I 106 k) (e7 : ∀ k, I1 107 k = I 107 k) (e8 : ∀ k, L1 108 k = L 108 k) : tr_M tm ts tv I1 L1 := fun t ht => by
  obtain ⟨h1, h2, h3⟩ := h t ht
  exact ⟨by rw [e7]; exact h1, fun z => by rw [e6]; exact h2 z, fun i hi => by rw [e8]; exact h3 i hi⟩
theorem li_U.kp (h : li_U lv I) (e : ∀ k, I1 12 k = I 12 k) : li_U lv I1 := by
  unfold li_U at h ⊢
  rw [e, e, e, e, e, e]
  exact h
theorem li_M.kp (h : li_M lv I) (e : I1 103 49 = I 103 49) (e2 : ∀ k, I1 132 k = I 132 k) : li_M lv I1 := ⟨by rw [e]; exact h.1, fun z k hk => by rw [e2]; exact h.2 z k hk⟩
theorem ma_U.kp (h : ma_U n mk I L) (hn : n ≤ 3) (e14 : I1 0 14 = I 0 14) (e : ∀ r k, 67 ≤ r → r ≤ 102 → I1 r k = I r k) (eL : ∀ r k, 67 ≤ r → r ≤ 102 → L1 r k = L r k) : ma_U n mk I1 L1 := by
  refine ⟨by rw [e14]; exact h.1, fun i hi => ⟨((h.2 i hi).1).keep (fun r hr => ?_) ?_, by rw [e _ _ (by omega) (by omega)]; exact (h.2 i hi).2⟩⟩
  · funext k; exact e r k (by omega) (by omega)
  · funext k; exact eL _ k (by omega) (by omega)
theorem ma_M.kp (h : ma_M n mk I L) (hn : ma_Ok n mk) (e : I1 103 50 = I 103 50) (e4 : ∀ k, 406 ≤ k → k < 1624 → I1 104 k = I 104 k) (e5 : ∀ k, 6 ≤ k → k < 24 → L1 105 k = L 105 k) : ma_M n mk I1 L1 := by
  obtain ⟨n3, mo⟩ := hn
  exact ⟨by rw [e]; exact h.1, fun i hi => (h.2 i hi).keepS (mo i hi) (fun k z1 z2 => e4 k (by omega) (by omega)) (fun k z1 z2 => e5 k (by omega) (by omega))⟩
theorem rs_U.kp (h : rs_U L) (e : ∀ k, L1 4 k = L 4 k) : rs_U L1 := fun i hi => by rw [e]; exact h i hi
/-- how many rows of days there are -/
theorem d6_of (h : sq_U q c d I L) (h6 : I d 6 = nI (q 7 - 1)) (h' : sq_U q' c d I1 L1) (e5 : I1 d 5 = I d 5) (e6 : I1 d 6 = I d 6) : I1 d 6 = nI (q' 7 - 1) := by
  by_cases g : q' 7 = 0
  · have a := h'.dy.1
    have b := h.dy.1
    rw [if_pos g, e5, b] at a
    have q0 : q 7 = 0 := by
      by_cases g2 : q 7 = 0
      · exact g2
      · rw [if_neg g2] at a
        exact absurd a (by decide)
    rw [e6, h6, q0, g]
  · exact h'.dy.2.1 (by omega)
theorem gU.kp {G : gT} (ok : gOk G) (h : gU G I L R) (e : ∀ r, r < 103 → I1 r = I r) (eL : ∀ r, r < 103 → L1 r = L r) : gU G I1 L1 R := by
  obtain ⟨q, st, T, B, fk, fp, len, b, tm, ts, tv, lv, n, mk⟩ := G
  obtain ⟨o1, o2, o3, o4, o5⟩ := ok
  obtain ⟨c, d, t, e', x, hr, ⟨a1, a2⟩, a3, ⟨a4, a5⟩, ⟨a6, a7⟩, a8, ⟨a9, a10⟩, a11, a12, a13⟩ := h
  have hcd := hr.1.1.1
  obtain ⟨c1, c2⟩ := id hcd
  exact ⟨c, d, t, e', x, hr, ⟨a1.keep (fun r hr => e r (by omega)) (eL _ (by omega)), by rw [e d (by omega)]; exact a2⟩, by rw [e 0 (by omega)]; exact a3, ⟨by rw [eL 0 (by omega)]; exact a4, by rw [eL 0 (by omega)]; exact a5⟩, ⟨by rw [e 2 (by omega)]; exact a6, by rw [e 2 (by omega)]; exact a7⟩, a8.kp (by rw [e 2 (by omega)]) (fun k => by rw [e 3 (by omega)]), ⟨a9.kp (fun k => by rw [eL 4 (by omega)]), by rw [e 26 (by omega)]; exact a10⟩, a11.kp (fun r k _ _ => by rw [e r (by omega)]) (fun r k _ _ => by rw [eL r (by omega)]) (fun _ => rfl), a12.kp (fun k => by rw [e 12 (by omega)]), a13.kp o5.1 (by rw [e 0 (by omega)]) (fun r k _ _ => by rw [e r (by omega)]) (fun r k _ _ => by rw [eL r (by omega)])⟩
theorem gM.kp {G : gT} (ok : gOk G) (h : gM G I L) (e : ∀ r, 103 ≤ r → I1 r = I r) (eL : ∀ r, 103 ≤ r → L1 r = L r) : gM G I1 L1 := by
  obtain ⟨q, st, T, B, fk, fp, len, b, tm, ts, tv, lv, n, mk⟩ := G
  obtain ⟨o1, o2, o3, o4, o5⟩ := ok
  obtain ⟨a1, a2, ⟨a3, a4⟩, ⟨a5, a6⟩, a7, a8, a9, a10⟩ := h
  exact ⟨a1.keep (fun k _ _ => by rw [e 104 (by omega)]) (eL 105 (by omega)) o1.2.2.2.2.1, by rw [e 103 (by omega)]; exact a2, ⟨by rw [eL 103 (by omega)]; exact a3, by rw [eL 103 (by omega)]; exact a4⟩, ⟨by rw [e 103 (by omega)]; exact a5, by rw [e 103 (by omega)]; exact a6⟩, a7.kp (by rw [e 103 (by omega)]) (fun k => by rw [e 109 (by omega)]), a8.kp (fun k => by rw [e 106 (by omega)]) (fun k => by rw [e 107 (by omega)]) (fun k => by rw [eL 108 (by omega)]), a9.kp (by rw [e 103 (by omega)]) (fun k => by rw [e 132 (by omega)]), a10.kp o5 (by rw [e 103 (by omega)]) (fun k _ _ => by rw [e 104 (by omega)]) (fun k _ _ => by rw [eL 105 (by omega)])⟩
theorem bo.go {α : Type} {U : am_TI → am_TL → am_TR → (α → am_TI → am_TL → am_TR → Prop) → Prop} {M : am_TI → am_TL → am_TR → (α → am_TI → am_TL → Prop) → Prop} (h : bo U M) (hG : gA I L R) {X : α → am_TI → am_TL → am_TR → Prop} (hX : ∀ ans I1 L1 R1, I1 1000 = I 1000 → I1 1001 = I 1001 → (∀ Q : α → am_TI → am_TL → Prop, (∀ I2 L2, gA I2 L2 R1 → I2 1000 = I 1000 → I2 1001 = I 1001 → Q ans I2 L2) → M I1 L1 R1 Q) → X ans I1 L1 R1) : U I L R X := by
  obtain ⟨G, ok, hu, hm⟩ := hG
  obtain ⟨ans, G', ok', a, b⟩ := h G ok
  exact a I L R hu X (fun I1 L1 R1 hu' fI fL => hX ans I1 L1 R1 (fI _ (by omega)) (fI _ (by omega)) (fun Q K => b I1 L1 R1 (hm.kp ok fI fL) Q (fun I2 L2 hm' gI gL => K I2 L2 ⟨G', ok', hu'.kp ok' (fun r hr => gI r (by omega)) gL, hm'⟩ ((gI _ (by omega)).trans (fI _ (by omega))) ((gI _ (by omega)).trans (fI _ (by omega))))))
end
