theorem lw_wf : am_Wf lw_RM := by
  have h1 : ∀ q, q < 133 → ∀ ci, ci < 13 → am_SH[q]? = some (.inl ci) → ∀ k, k < 51 → ∀ o, o < 30 → am_off ci k = some o → lw_RM q k = some (q + o) := by
    have h : (List.range 133).all (fun q => (List.range 13).all (fun ci => !(decide (am_SH[q]? = some (.inl ci))) || (List.range 51).all (fun k => match am_off ci k with
      | some o => decide (lw_RM q k = some (q + o))
      | none => true))) = true := by decide +kernel
    intro q hq ci hci hs k hk o ho hoff
    have h1 := List.all_eq_true.mp (List.all_eq_true.mp h q (List.mem_range.mpr hq)) ci (List.mem_range.mpr hci)
    simp only [hs, decide_true, Bool.not_true, Bool.false_or] at h1
    have h2 := List.all_eq_true.mp h1 k (List.mem_range.mpr hk)
    rw [hoff] at h2
    exact of_decide_eq_true h2
  have h2 : ∀ q, q < 133 → ∀ ci, ci < 13 → am_SH[q]? = some (.inl ci) → ∀ k, k < 51 → ∀ t, t < 13 → am_tgt ci k = some t → ∃ x, lw_RM q k = some x ∧ am_SH[x]? = some (.inl t) := by
    have h : (List.range 133).all (fun q => (List.range 13).all (fun ci => !(decide (am_SH[q]? = some (.inl ci))) || (List.range 51).all (fun k => match am_tgt ci k with
      | some t => (match lw_RM q k with
        | some x => decide (am_SH[x]? = some (.inl t))
        | none => false)
      | none => true))) = true := by decide +kernel
    intro q hq ci hci hs k hk t ht htg
    have h1 := List.all_eq_true.mp (List.all_eq_true.mp h q (List.mem_range.mpr hq)) ci (List.mem_range.mpr hci)
    simp only [hs, decide_true, Bool.not_true, Bool.false_or] at h1
    have h2 := List.all_eq_true.mp h1 k (List.mem_range.mpr hk)
    rw [htg] at h2
    dsimp only at h2
    split at h2
    · rename_i x hx
      exact ⟨x, hx, of_decide_eq_true h2⟩
    · cases h2
  have b1 : ∀ ci k o, am_off ci k = some o → ci < 13 ∧ k < 51 ∧ o < 30 := by
    intro ci k o h
    have hc : ci < 13 := by
      rcases Nat.lt_or_ge ci 13 with q | q
      · exact q
      · exfalso
        have : am_offs.getD ci [] = [] := by rw [List.getD_eq_getElem?_getD, List.getElem?_eq_none_iff.mpr (show am_offs.length ≤ ci from q)]; rfl
        rw [am_off, this] at h; cases h
    have hk : k < 51 := by
      rcases Nat.lt_or_ge k 51 with q | q
      · exact q
      · exfalso
        have hl : ∀ c, c < 13 → (am_offs.getD c []).length ≤ 51 := by decide +kernel
        rw [am_off, List.getD_eq_getElem?_getD, List.getElem?_eq_none_iff.mpr (Nat.le_trans (hl ci hc) q)] at h
        cases h
    have ho : ∀ c, c < 13 → ∀ k, k < 51 → (match am_off c k with
      | some o => decide (o < 30)
      | none => true) = true := by decide +kernel
    have := ho ci hc k hk
    rw [h] at this
    exact ⟨hc, hk, of_decide_eq_true this⟩
  have b2 : ∀ ci k t, am_tgt ci k = some t → ci < 13 ∧ k < 51 ∧ t < 13 := by
    intro ci k t h
    have hc : ci < 13 := by
      rcases Nat.lt_or_ge ci 13 with q | q
      · exact q
      · exfalso
        have : am_tgts.getD ci [] = [] := by rw [List.getD_eq_getElem?_getD, List.getElem?_eq_none_iff.mpr (show am_tgts.length ≤ ci from q)]; rfl
        rw [am_tgt, this] at h; cases h
    have hk : k < 51 := by
      rcases Nat.lt_or_ge k 51 with q | q
      · exact q
      · exfalso
        have hl : ∀ c, c < 13 → (am_tgts.getD c []).length ≤ 51 := by decide +kernel
        rw [am_tgt, List.getD_eq_getElem?_getD, List.getElem?_eq_none_iff.mpr (Nat.le_trans (hl ci hc) q)] at h
        cases h
    have ho : ∀ c, c < 13 → ∀ k, k < 51 → (match am_tgt c k with
      | some o => decide (o < 13)
      | none => true) = true := by decide +kernel
    have := ho ci hc k hk
    rw [h] at this
    exact ⟨hc, hk, of_decide_eq_true this⟩
  refine ⟨fun q ci k o g1 g2 => ?_, fun q ci k t g1 g2 => ?_, by decide +kernel, by decide +kernel⟩
  · obtain ⟨a, b, c⟩ := b1 ci k o g2
    exact h1 q (am_SH_lt g1) ci a g1 k b o c g2
  · obtain ⟨a, b, c⟩ := b2 ci k t g2
    exact h2 q (am_SH_lt g1) ci a g1 k b t c g2
