abbrev po_Life_holds (I : am_TI) (L : am_TL) (R : am_TR) (Q : Bool → Prop) : Option Value → am_St → Prop := fun r σ' => ∃ (x : Bool), r = some (.int (am_b x)) ∧ σ' = (I, L, R, am_SH) ∧ Q x
def wp_Life_holds (I : am_TI) (L : am_TL) (R : am_TR) (q : Nat) (p1 : Nat) (p2 : Int32)  (Q : Bool → Prop) : Prop := (vp_in p2 60 ∧ (vp_in p2 60 ∧ (((I ((am_rd R p1 5) + 1) (Int32.toNatClampNeg p2)) = 18 → wp_Square_isUp I L R p1 (I ((am_rd R p1 5) + 2) (Int32.toNatClampNeg p2)) (fun (r1 : Bool) => Q r1)) ∧ ((I ((am_rd R p1 5) + 1) (Int32.toNatClampNeg p2)) = 19 → wp_Square_isSeen I L R p1 (I ((am_rd R p1 5) + 2) (Int32.toNatClampNeg p2)) (fun (r2 : Bool) => Q r2)) ∧ ((I ((am_rd R p1 5) + 1) (Int32.toNatClampNeg p2)) = 20 → (vp_in p2 60 ∧ (vp_in p2 60 ∧ wp_Life_compares I L R (I p1 13) (I ((am_rd R p1 5) + 4) (Int32.toNatClampNeg p2)) (I ((am_rd R p1 5) + 3) (Int32.toNatClampNeg p2)) (fun (r3 : Bool) => Q r3)))) ∧ (¬ (I ((am_rd R p1 5) + 1) (Int32.toNatClampNeg p2)) = 18 → ¬ (I ((am_rd R p1 5) + 1) (Int32.toNatClampNeg p2)) = 19 → ¬ (I ((am_rd R p1 5) + 1) (Int32.toNatClampNeg p2)) = 20 → wp_Square_farFromOrgan I L R p1 (I ((am_rd R p1 5) + 2) (Int32.toNatClampNeg p2)) (fun (r4 : Int32) => (vp_in p2 60 ∧ (vp_in p2 60 ∧ wp_Life_compares I L R r4 (I ((am_rd R p1 5) + 4) (Int32.toNatClampNeg p2)) (I ((am_rd R p1 5) + 3) (Int32.toNatClampNeg p2)) (fun (r5 : Bool) => Q r5))))))))
set_option maxRecDepth 20000 in
theorem cm_Life_holds {d : Nat} {I : am_TI} {L : am_TL} {R : am_TR}  (hw : am_Wf R)   {q : Nat} {p1 : Nat} {p2 : Int32} {Q : Bool → Prop} (hd : 4 ≤ d) (hq : am_SH[q]? = some (.inl 4)) (hp1 : am_SH[p1]? = some (.inl 7)) (h : wp_Life_holds I L R q p1 p2  Q) : am_Cm d 0 0 y_Life_holds b_Life_holds 5 (some .boolean) [.ref q, .ref p1, .int p2] (I, L, R, am_SH) (po_Life_holds I L R Q) := by
  refine am_Cm_of (ini := false) (by decide +kernel) (fun z => by cases z) (by simp [Value.category]) (fun r σ' z => by obtain ⟨x, rfl, -⟩ := z; exact ⟨_, rfl, am_b_nar x⟩) ?_
  unfold wp_Life_holds at h
  show am_Wp (d, "UnseenRing$Life", b_Life_holds, 5, false) 0 0 0 [some (.ref q), some (.ref p1), some (.int p2), none, none] [] (I, L, R, am_SH) (po_Life_holds I L R Q)
  refine am_aload_n (n := 1) d_Life_holds_0 rfl rfl ?_
  refine am_getR (x := (am_rd R p1 5)) (n := 4) f_Life_52 d_Life_holds_1 rfl rfl hp1 (hw.rd (k := 5) hp1 rfl).1 ?_
  refine am_astore_n (ls' := [some (.ref q), some (.ref p1), some (.int p2), some (.ref (am_rd R p1 5)), none]) (n := 5) d_Life_holds_4 (by decide) rfl rfl ?_
  refine am_aload_n (n := 6) d_Life_holds_5 rfl rfl ?_
  refine am_getR (x := ((am_rd R p1 5) + 2)) (n := 9) f_Life_82 d_Life_holds_6 rfl rfl (hw.rd (k := 5) hp1 rfl).2 (hw.1 (am_rd R p1 5) 1 1 2 (hw.rd (k := 5) hp1 rfl).2 rfl) ?_
  refine am_iload_n (n := 10) d_Life_holds_9 rfl rfl ?_
  obtain ⟨g1, h⟩ := h
  refine am_iald2 (n := 11) d_Life_holds_10 rfl (am_sho (k := 1) (o := 2) (hw.rd (k := 5) hp1 rfl).2 (by decide) (by decide) (by decide) rfl) g1 rfl ?_
  refine am_istore (ls' := [some (.ref q), some (.ref p1), some (.int p2), some (.ref (am_rd R p1 5)), some (.int (I ((am_rd R p1 5) + 2) (Int32.toNatClampNeg p2)))]) (n := 13) d_Life_holds_11 (by decide) rfl rfl ?_
  refine am_aload_n (n := 14) d_Life_holds_13 rfl rfl ?_
  refine am_getR (x := ((am_rd R p1 5) + 1)) (n := 17) f_Life_62 d_Life_holds_14 rfl rfl (hw.rd (k := 5) hp1 rfl).2 (hw.1 (am_rd R p1 5) 1 0 1 (hw.rd (k := 5) hp1 rfl).2 rfl) ?_
  refine am_iload_n (n := 18) d_Life_holds_17 rfl rfl ?_
  obtain ⟨g2, h⟩ := h
  refine am_iald2 (n := 19) d_Life_holds_18 rfl (am_sho (k := 0) (o := 1) (hw.rd (k := 5) hp1 rfl).2 (by decide) (by decide) (by decide) rfl) g2 rfl ?_
  by_cases c1 : (I ((am_rd R p1 5) + 1) (Int32.toNatClampNeg p2)) = 18
  · have h := h.1 c1
    refine am_tableIn (off := 25) (tgt := 44) d_Life_holds_19 (by rw [c1]; decide) (by rw [c1]; decide) (by rw [c1]; decide +kernel) rfl ?_
    refine am_aload_n (n := 45) d_Life_holds_44 rfl rfl ?_
    refine am_iload (n := 47) d_Life_holds_45 rfl rfl ?_
    refine am_callV (kc := 0) (ks := 0) (As := [.int (I ((am_rd R p1 5) + 2) (Int32.toNatClampNeg p2))]) (n := 50) d_Life_holds_47 rfl ce_Square_isUp lk_Life_89 in_Square_isUp rfl rfl hp1 rfl rfl (Nat.le_of_ble_eq_true rfl) (Or.inl rfl) (cm_Square_isUp (d := d - 1) hw (by omega) hp1 h) (by omega) ?_
    rintro _ _ ⟨r1, rfl, rfl, h⟩
    show am_Wp (d, "UnseenRing$Life", b_Life_holds, 5, false) 0 0 50 [some (.ref q), some (.ref p1), some (.int p2), some (.ref (am_rd R p1 5)), some (.int (I ((am_rd R p1 5) + 2) (Int32.toNatClampNeg p2)))] [.int (am_b r1)] (I, L, R, am_SH) (po_Life_holds I L R Q)
    exact am_iret d_Life_holds_50 ⟨r1, rfl, rfl, h⟩
  by_cases c2 : (I ((am_rd R p1 5) + 1) (Int32.toNatClampNeg p2)) = 19
  · have h := h.2.1 c2
    refine am_tableIn (off := 32) (tgt := 51) d_Life_holds_19 (by rw [c2]; decide) (by rw [c2]; decide) (by rw [c2]; decide +kernel) rfl ?_
    refine am_aload_n (n := 52) d_Life_holds_51 rfl rfl ?_
    refine am_iload (n := 54) d_Life_holds_52 rfl rfl ?_
    refine am_callV (kc := 0) (ks := 0) (As := [.int (I ((am_rd R p1 5) + 2) (Int32.toNatClampNeg p2))]) (n := 57) d_Life_holds_54 rfl ce_Square_isSeen lk_Life_93 in_Square_isSeen rfl rfl hp1 rfl rfl (Nat.le_of_ble_eq_true rfl) (Or.inl rfl) (cm_Square_isSeen (d := d - 1) hw (by omega) hp1 h) (by omega) ?_
    rintro _ _ ⟨r2, rfl, rfl, h⟩
    show am_Wp (d, "UnseenRing$Life", b_Life_holds, 5, false) 0 0 57 [some (.ref q), some (.ref p1), some (.int p2), some (.ref (am_rd R p1 5)), some (.int (I ((am_rd R p1 5) + 2) (Int32.toNatClampNeg p2)))] [.int (am_b r2)] (I, L, R, am_SH) (po_Life_holds I L R Q)
    exact am_iret d_Life_holds_57 ⟨r2, rfl, rfl, h⟩
  by_cases c3 : (I ((am_rd R p1 5) + 1) (Int32.toNatClampNeg p2)) = 20
  · have h := h.2.2.1 c3
    refine am_tableIn (off := 39) (tgt := 58) d_Life_holds_19 (by rw [c3]; decide) (by rw [c3]; decide) (by rw [c3]; decide +kernel) rfl ?_
    refine am_aload_n (n := 59) d_Life_holds_58 rfl rfl ?_
    refine am_getI (n := 62) f_Life_96 d_Life_holds_59 rfl rfl hp1 ?_
    refine am_aload_n (n := 63) d_Life_holds_62 rfl rfl ?_
    refine am_getR (x := ((am_rd R p1 5) + 4)) (n := 66) f_Life_99 d_Life_holds_63 rfl rfl (hw.rd (k := 5) hp1 rfl).2 (hw.1 (am_rd R p1 5) 1 3 4 (hw.rd (k := 5) hp1 rfl).2 rfl) ?_
    refine am_iload_n (n := 67) d_Life_holds_66 rfl rfl ?_
    obtain ⟨g3, h⟩ := h
    refine am_iald2 (n := 68) d_Life_holds_67 rfl (am_sho (k := 3) (o := 4) (hw.rd (k := 5) hp1 rfl).2 (by decide) (by decide) (by decide) rfl) g3 rfl ?_
    refine am_aload_n (n := 69) d_Life_holds_68 rfl rfl ?_
    refine am_getR (x := ((am_rd R p1 5) + 3)) (n := 72) f_Life_102 d_Life_holds_69 rfl rfl (hw.rd (k := 5) hp1 rfl).2 (hw.1 (am_rd R p1 5) 1 2 3 (hw.rd (k := 5) hp1 rfl).2 rfl) ?_
    refine am_iload_n (n := 73) d_Life_holds_72 rfl rfl ?_
    obtain ⟨g4, h⟩ := h
    refine am_iald2 (n := 74) d_Life_holds_73 rfl (am_sho (k := 2) (o := 3) (hw.rd (k := 5) hp1 rfl).2 (by decide) (by decide) (by decide) rfl) g4 rfl ?_
    refine am_callS (kc := 0) (ks := 0) (As := [.int (I p1 13), .int (I ((am_rd R p1 5) + 4) (Int32.toNatClampNeg p2)), .int (I ((am_rd R p1 5) + 3) (Int32.toNatClampNeg p2))]) (n := 77) d_Life_holds_74 rfl ce_Life_compares lk_Life_105 st_Life_compares rfl rfl (Nat.le_of_ble_eq_true rfl) (Or.inl rfl) (cm_Life_compares (d := d - 1) hw (by omega)  h) (by omega) ?_
    rintro _ _ ⟨r3, rfl, rfl, h⟩
    show am_Wp (d, "UnseenRing$Life", b_Life_holds, 5, false) 0 0 77 [some (.ref q), some (.ref p1), some (.int p2), some (.ref (am_rd R p1 5)), some (.int (I ((am_rd R p1 5) + 2) (Int32.toNatClampNeg p2)))] [.int (am_b r3)] (I, L, R, am_SH) (po_Life_holds I L R Q)
    exact am_iret d_Life_holds_77 ⟨r3, rfl, rfl, h⟩
  have h := h.2.2.2 c1 c2 c3
  have z0 := lv_neT c1 (a := 18) (by decide)
  have z1 := lv_neT c2 (a := 19) (by decide)
  have z2 := lv_neT c3 (a := 20) (by decide)
  refine am_tableOut (tgt := 78) d_Life_holds_19 (by omega) rfl ?_
  refine am_aload_n (n := 79) d_Life_holds_78 rfl rfl ?_
  refine am_iload (n := 81) d_Life_holds_79 rfl rfl ?_
  refine am_callV (kc := 0) (ks := 0) (As := [.int (I ((am_rd R p1 5) + 2) (Int32.toNatClampNeg p2))]) (n := 84) d_Life_holds_81 rfl ce_Square_farFromOrgan lk_Life_109 in_Square_farFromOrgan rfl rfl hp1 rfl rfl (Nat.le_of_ble_eq_true rfl) (Or.inl rfl) (cm_Square_farFromOrgan (d := d - 1) hw (by omega) hp1 h) (by omega) ?_
  rintro _ _ ⟨r4, rfl, rfl, h⟩
  show am_Wp (d, "UnseenRing$Life", b_Life_holds, 5, false) 0 0 84 [some (.ref q), some (.ref p1), some (.int p2), some (.ref (am_rd R p1 5)), some (.int (I ((am_rd R p1 5) + 2) (Int32.toNatClampNeg p2)))] [.int r4] (I, L, R, am_SH) (po_Life_holds I L R Q)
  refine am_aload_n (n := 85) d_Life_holds_84 rfl rfl ?_
  refine am_getR (x := ((am_rd R p1 5) + 4)) (n := 88) f_Life_99 d_Life_holds_85 rfl rfl (hw.rd (k := 5) hp1 rfl).2 (hw.1 (am_rd R p1 5) 1 3 4 (hw.rd (k := 5) hp1 rfl).2 rfl) ?_
  refine am_iload_n (n := 89) d_Life_holds_88 rfl rfl ?_
  obtain ⟨g5, h⟩ := h
  refine am_iald2 (n := 90) d_Life_holds_89 rfl (am_sho (k := 3) (o := 4) (hw.rd (k := 5) hp1 rfl).2 (by decide) (by decide) (by decide) rfl) g5 rfl ?_
  refine am_aload_n (n := 91) d_Life_holds_90 rfl rfl ?_
  refine am_getR (x := ((am_rd R p1 5) + 3)) (n := 94) f_Life_102 d_Life_holds_91 rfl rfl (hw.rd (k := 5) hp1 rfl).2 (hw.1 (am_rd R p1 5) 1 2 3 (hw.rd (k := 5) hp1 rfl).2 rfl) ?_
  refine am_iload_n (n := 95) d_Life_holds_94 rfl rfl ?_
  obtain ⟨g6, h⟩ := h
  refine am_iald2 (n := 96) d_Life_holds_95 rfl (am_sho (k := 2) (o := 3) (hw.rd (k := 5) hp1 rfl).2 (by decide) (by decide) (by decide) rfl) g6 rfl ?_
  refine am_callS (kc := 0) (ks := 0) (As := [.int r4, .int (I ((am_rd R p1 5) + 4) (Int32.toNatClampNeg p2)), .int (I ((am_rd R p1 5) + 3) (Int32.toNatClampNeg p2))]) (n := 99) d_Life_holds_96 rfl ce_Life_compares lk_Life_105 st_Life_compares rfl rfl (Nat.le_of_ble_eq_true rfl) (Or.inl rfl) (cm_Life_compares (d := d - 1) hw (by omega)  h) (by omega) ?_
  rintro _ _ ⟨r5, rfl, rfl, h⟩
  show am_Wp (d, "UnseenRing$Life", b_Life_holds, 5, false) 0 0 99 [some (.ref q), some (.ref p1), some (.int p2), some (.ref (am_rd R p1 5)), some (.int (I ((am_rd R p1 5) + 2) (Int32.toNatClampNeg p2)))] [.int (am_b r5)] (I, L, R, am_SH) (po_Life_holds I L R Q)
  exact am_iret d_Life_holds_99 ⟨r5, rfl, rfl, h⟩
abbrev po_Life_behindStep (L : am_TL) (R : am_TR) (Q : Int32 → am_TI → Prop) : Option Value → am_St → Prop := fun r σ' => ∃ (x : Int32) (I' : am_TI), r = some (.int x) ∧ σ' = (I', L, R, am_SH) ∧ Q x I'
def wp_Life_behindStep (I : am_TI) (L : am_TL) (R : am_TR) (q : Nat) (p1 : Nat) (p2 : Int32)  (Q : Int32 → am_TI → Prop) : Prop := (vp_in p2 60 ∧ (((I ((am_rd R p1 5) + 1) (Int32.toNatClampNeg p2)) = 18 → wp_Life_holds I L R q p1 p2 (fun (r1 : Bool) => ((r1 = false → (vp_in p2 60 ∧ Q ((I ((am_rd R p1 5) + 5) (Int32.toNatClampNeg p2)) + 1) I)) ∧ (r1 = true → Q (p2 + 1) I)))) ∧ ((I ((am_rd R p1 5) + 1) (Int32.toNatClampNeg p2)) = 19 → wp_Life_holds I L R q p1 p2 (fun (r2 : Bool) => ((r2 = false → (vp_in p2 60 ∧ Q ((I ((am_rd R p1 5) + 5) (Int32.toNatClampNeg p2)) + 1) I)) ∧ (r2 = true → Q (p2 + 1) I)))) ∧ ((I ((am_rd R p1 5) + 1) (Int32.toNatClampNeg p2)) = 20 → wp_Life_holds I L R q p1 p2 (fun (r3 : Bool) => ((r3 = false → (vp_in p2 60 ∧ Q ((I ((am_rd R p1 5) + 5) (Int32.toNatClampNeg p2)) + 1) I)) ∧ (r3 = true → Q (p2 + 1) I)))) ∧ ((I ((am_rd R p1 5) + 1) (Int32.toNatClampNeg p2)) = 21 → wp_Life_holds I L R q p1 p2 (fun (r4 : Bool) => ((r4 = false → (vp_in p2 60 ∧ Q ((I ((am_rd R p1 5) + 5) (Int32.toNatClampNeg p2)) + 1) I)) ∧ (r4 = true → Q (p2 + 1) I)))) ∧ ((I ((am_rd R p1 5) + 1) (Int32.toNatClampNeg p2)) = 22 → (vp_in p2 60 ∧ (vp_in p2 60 ∧ (∀ I1, I1 = am_u2 I (q + 1) (Int32.toNatClampNeg p2) (I ((am_rd R p1 5) + 2) (Int32.toNatClampNeg p2)) → (vp_in p2 60 ∧ (((I1 ((am_rd R p1 5) + 5) (Int32.toNatClampNeg p2)) = (p2 + 1) → Q (p2 + 2) I1) ∧ (¬ (I1 ((am_rd R p1 5) + 5) (Int32.toNatClampNeg p2)) = (p2 + 1) → Q (p2 + 1) I1))))))) ∧ ((I ((am_rd R p1 5) + 1) (Int32.toNatClampNeg p2)) = 23 → Q (p2 + 1) I) ∧ ((I ((am_rd R p1 5) + 1) (Int32.toNatClampNeg p2)) = 24 → Q (I (am_rd R p1 5) 6) I) ∧ (¬ (I ((am_rd R p1 5) + 1) (Int32.toNatClampNeg p2)) = 18 → ¬ (I ((am_rd R p1 5) + 1) (Int32.toNatClampNeg p2)) = 19 → ¬ (I ((am_rd R p1 5) + 1) (Int32.toNatClampNeg p2)) = 20 → ¬ (I ((am_rd R p1 5) + 1) (Int32.toNatClampNeg p2)) = 21 → ¬ (I ((am_rd R p1 5) + 1) (Int32.toNatClampNeg p2)) = 22 → ¬ (I ((am_rd R p1 5) + 1) (Int32.toNatClampNeg p2)) = 23 → ¬ (I ((am_rd R p1 5) + 1) (Int32.toNatClampNeg p2)) = 24 → Q (p2 + 1) I)))
set_option maxRecDepth 20000 in
theorem cm_Life_behindStep {d : Nat} {I : am_TI} {L : am_TL} {R : am_TR}  (hw : am_Wf R)   {q : Nat} {p1 : Nat} {p2 : Int32} {Q : Int32 → am_TI → Prop} (hd : 5 ≤ d) (hq : am_SH[q]? = some (.inl 4)) (hp1 : am_SH[p1]? = some (.inl 7)) (h : wp_Life_behindStep I L R q p1 p2  Q) : am_Cm d 0 0 y_Life_behindStep b_Life_behindStep 4 (some .int) [.ref q, .ref p1, .int p2] (I, L, R, am_SH) (po_Life_behindStep L R Q) := by
  refine am_Cm_of (ini := false) (by decide +kernel) (fun z => by cases z) (by simp [Value.category]) (fun r σ' z => by obtain ⟨x, _, rfl, -⟩ := z; exact ⟨_, rfl, rfl⟩) ?_
  unfold wp_Life_behindStep at h
  show am_Wp (d, "UnseenRing$Life", b_Life_behindStep, 4, false) 0 0 0 [some (.ref q), some (.ref p1), some (.int p2), none] [] (I, L, R, am_SH) (po_Life_behindStep L R Q)
  refine am_aload_n (n := 1) d_Life_behindStep_0 rfl rfl ?_
  refine am_getR (x := (am_rd R p1 5)) (n := 4) f_Life_52 d_Life_behindStep_1 rfl rfl hp1 (hw.rd (k := 5) hp1 rfl).1 ?_
  refine am_astore_n (ls' := [some (.ref q), some (.ref p1), some (.int p2), some (.ref (am_rd R p1 5))]) (n := 5) d_Life_behindStep_4 (by decide) rfl rfl ?_
  refine am_aload_n (n := 6) d_Life_behindStep_5 rfl rfl ?_
  refine am_getR (x := ((am_rd R p1 5) + 1)) (n := 9) f_Life_62 d_Life_behindStep_6 rfl rfl (hw.rd (k := 5) hp1 rfl).2 (hw.1 (am_rd R p1 5) 1 0 1 (hw.rd (k := 5) hp1 rfl).2 rfl) ?_
  refine am_iload_n (n := 10) d_Life_behindStep_9 rfl rfl ?_
  obtain ⟨g1, h⟩ := h
  refine am_iald2 (n := 11) d_Life_behindStep_10 rfl (am_sho (k := 0) (o := 1) (hw.rd (k := 5) hp1 rfl).2 (by decide) (by decide) (by decide) rfl) g1 rfl ?_
  by_cases c1 : (I ((am_rd R p1 5) + 1) (Int32.toNatClampNeg p2)) = 18
  · have h := h.1 c1
    refine am_tableIn (off := 80) (tgt := 91) d_Life_behindStep_11 (by rw [c1]; decide) (by rw [c1]; decide) (by rw [c1]; decide +kernel) rfl ?_
    refine am_aload_n (n := 92) d_Life_behindStep_91 rfl rfl ?_
    refine am_aload_n (n := 93) d_Life_behindStep_92 rfl rfl ?_
    refine am_iload_n (n := 94) d_Life_behindStep_93 rfl rfl ?_
    refine am_callV (kc := 0) (ks := 0) (As := [.ref p1, .int p2]) (n := 97) d_Life_behindStep_94 rfl ce_Life_holds lk_Life_85 in_Life_holds rfl rfl hq rfl rfl (Nat.le_of_ble_eq_true rfl) (Or.inl rfl) (cm_Life_holds (d := d - 1) hw (by omega) hq hp1 h) (by omega) ?_
    rintro _ _ ⟨r1, rfl, rfl, h⟩
    show am_Wp (d, "UnseenRing$Life", b_Life_behindStep, 4, false) 0 0 97 [some (.ref q), some (.ref p1), some (.int p2), some (.ref (am_rd R p1 5))] [.int (am_b r1)] (I, L, R, am_SH) (po_Life_behindStep L R Q)
    refine am_if_eq (y := 0) (tgt := 106) (n := 100) d_Life_behindStep_97 rfl rfl (fun c2 => ?_) (fun c2 => ?_)
    · have h := h.1 (am_b_0 c2)
      refine am_aload_n (n := 107) d_Life_behindStep_106 rfl rfl ?_
      refine am_getR (x := ((am_rd R p1 5) + 5)) (n := 110) f_Life_79 d_Life_behindStep_107 rfl rfl (hw.rd (k := 5) hp1 rfl).2 (hw.1 (am_rd R p1 5) 1 4 5 (hw.rd (k := 5) hp1 rfl).2 rfl) ?_
      refine am_iload_n (n := 111) d_Life_behindStep_110 rfl rfl ?_
      obtain ⟨g2, h⟩ := h
      refine am_iald2 (n := 112) d_Life_behindStep_111 rfl (am_sho (k := 4) (o := 5) (hw.rd (k := 5) hp1 rfl).2 (by decide) (by decide) (by decide) rfl) g2 rfl ?_
      refine am_iconst (n := 113) d_Life_behindStep_112 ci_1 rfl ?_
      refine am_iadd (n := 114) d_Life_behindStep_113 rfl ?_
      exact am_iret d_Life_behindStep_114 ⟨((I ((am_rd R p1 5) + 5) (Int32.toNatClampNeg p2)) + 1), I, rfl, rfl, h⟩
    · have h := h.2 (am_b_n0 c2)
      refine am_iload_n (n := 101) d_Life_behindStep_100 rfl rfl ?_
      refine am_iconst (n := 102) d_Life_behindStep_101 ci_1 rfl ?_
      refine am_iadd (n := 103) d_Life_behindStep_102 rfl ?_
      refine am_goto (tgt := 114) d_Life_behindStep_103 rfl ?_
      exact am_iret d_Life_behindStep_114 ⟨(p2 + 1), I, rfl, rfl, h⟩
  by_cases c3 : (I ((am_rd R p1 5) + 1) (Int32.toNatClampNeg p2)) = 19
  · have h := h.2.1 c3
    refine am_tableIn (off := 80) (tgt := 91) d_Life_behindStep_11 (by rw [c3]; decide) (by rw [c3]; decide) (by rw [c3]; decide +kernel) rfl ?_
    refine am_aload_n (n := 92) d_Life_behindStep_91 rfl rfl ?_
    refine am_aload_n (n := 93) d_Life_behindStep_92 rfl rfl ?_
    refine am_iload_n (n := 94) d_Life_behindStep_93 rfl rfl ?_
    refine am_callV (kc := 0) (ks := 0) (As := [.ref p1, .int p2]) (n := 97) d_Life_behindStep_94 rfl ce_Life_holds lk_Life_85 in_Life_holds rfl rfl hq rfl rfl (Nat.le_of_ble_eq_true rfl) (Or.inl rfl) (cm_Life_holds (d := d - 1) hw (by omega) hq hp1 h) (by omega) ?_
    rintro _ _ ⟨r2, rfl, rfl, h⟩
    show am_Wp (d, "UnseenRing$Life", b_Life_behindStep, 4, false) 0 0 97 [some (.ref q), some (.ref p1), some (.int p2), some (.ref (am_rd R p1 5))] [.int (am_b r2)] (I, L, R, am_SH) (po_Life_behindStep L R Q)
    refine am_if_eq (y := 0) (tgt := 106) (n := 100) d_Life_behindStep_97 rfl rfl (fun c4 => ?_) (fun c4 => ?_)
    · have h := h.1 (am_b_0 c4)
      refine am_aload_n (n := 107) d_Life_behindStep_106 rfl rfl ?_
      refine am_getR (x := ((am_rd R p1 5) + 5)) (n := 110) f_Life_79 d_Life_behindStep_107 rfl rfl (hw.rd (k := 5) hp1 rfl).2 (hw.1 (am_rd R p1 5) 1 4 5 (hw.rd (k := 5) hp1 rfl).2 rfl) ?_
      refine am_iload_n (n := 111) d_Life_behindStep_110 rfl rfl ?_
      obtain ⟨g3, h⟩ := h
      refine am_iald2 (n := 112) d_Life_behindStep_111 rfl (am_sho (k := 4) (o := 5) (hw.rd (k := 5) hp1 rfl).2 (by decide) (by decide) (by decide) rfl) g3 rfl ?_
      refine am_iconst (n := 113) d_Life_behindStep_112 ci_1 rfl ?_
      refine am_iadd (n := 114) d_Life_behindStep_113 rfl ?_
      exact am_iret d_Life_behindStep_114 ⟨((I ((am_rd R p1 5) + 5) (Int32.toNatClampNeg p2)) + 1), I, rfl, rfl, h⟩
    · have h := h.2 (am_b_n0 c4)
      refine am_iload_n (n := 101) d_Life_behindStep_100 rfl rfl ?_
      refine am_iconst (n := 102) d_Life_behindStep_101 ci_1 rfl ?_
      refine am_iadd (n := 103) d_Life_behindStep_102 rfl ?_
      refine am_goto (tgt := 114) d_Life_behindStep_103 rfl ?_
      exact am_iret d_Life_behindStep_114 ⟨(p2 + 1), I, rfl, rfl, h⟩
  by_cases c5 : (I ((am_rd R p1 5) + 1) (Int32.toNatClampNeg p2)) = 20
  · have h := h.2.2.1 c5
    refine am_tableIn (off := 80) (tgt := 91) d_Life_behindStep_11 (by rw [c5]; decide) (by rw [c5]; decide) (by rw [c5]; decide +kernel) rfl ?_
    refine am_aload_n (n := 92) d_Life_behindStep_91 rfl rfl ?_
    refine am_aload_n (n := 93) d_Life_behindStep_92 rfl rfl ?_
    refine am_iload_n (n := 94) d_Life_behindStep_93 rfl rfl ?_
    refine am_callV (kc := 0) (ks := 0) (As := [.ref p1, .int p2]) (n := 97) d_Life_behindStep_94 rfl ce_Life_holds lk_Life_85 in_Life_holds rfl rfl hq rfl rfl (Nat.le_of_ble_eq_true rfl) (Or.inl rfl) (cm_Life_holds (d := d - 1) hw (by omega) hq hp1 h) (by omega) ?_
    rintro _ _ ⟨r3, rfl, rfl, h⟩
    show am_Wp (d, "UnseenRing$Life", b_Life_behindStep, 4, false) 0 0 97 [some (.ref q), some (.ref p1), some (.int p2), some (.ref (am_rd R p1 5))] [.int (am_b r3)] (I, L, R, am_SH) (po_Life_behindStep L R Q)
    refine am_if_eq (y := 0) (tgt := 106) (n := 100) d_Life_behindStep_97 rfl rfl (fun c6 => ?_) (fun c6 => ?_)
    · have h := h.1 (am_b_0 c6)
      refine am_aload_n (n := 107) d_Life_behindStep_106 rfl rfl ?_
      refine am_getR (x := ((am_rd R p1 5) + 5)) (n := 110) f_Life_79 d_Life_behindStep_107 rfl rfl (hw.rd (k := 5) hp1 rfl).2 (hw.1 (am_rd R p1 5) 1 4 5 (hw.rd (k := 5) hp1 rfl).2 rfl) ?_
      refine am_iload_n (n := 111) d_Life_behindStep_110 rfl rfl ?_
      obtain ⟨g4, h⟩ := h
      refine am_iald2 (n := 112) d_Life_behindStep_111 rfl (am_sho (k := 4) (o := 5) (hw.rd (k := 5) hp1 rfl).2 (by decide) (by decide) (by decide) rfl) g4 rfl ?_
      refine am_iconst (n := 113) d_Life_behindStep_112 ci_1 rfl ?_
      refine am_iadd (n := 114) d_Life_behindStep_113 rfl ?_
      exact am_iret d_Life_behindStep_114 ⟨((I ((am_rd R p1 5) + 5) (Int32.toNatClampNeg p2)) + 1), I, rfl, rfl, h⟩
    · have h := h.2 (am_b_n0 c6)
      refine am_iload_n (n := 101) d_Life_behindStep_100 rfl rfl ?_
      refine am_iconst (n := 102) d_Life_behindStep_101 ci_1 rfl ?_
      refine am_iadd (n := 103) d_Life_behindStep_102 rfl ?_
      refine am_goto (tgt := 114) d_Life_behindStep_103 rfl ?_
      exact am_iret d_Life_behindStep_114 ⟨(p2 + 1), I, rfl, rfl, h⟩
  by_cases c7 : (I ((am_rd R p1 5) + 1) (Int32.toNatClampNeg p2)) = 21
  · have h := h.2.2.2.1 c7
    refine am_tableIn (off := 80) (tgt := 91) d_Life_behindStep_11 (by rw [c7]; decide) (by rw [c7]; decide) (by rw [c7]; decide +kernel) rfl ?_
    refine am_aload_n (n := 92) d_Life_behindStep_91 rfl rfl ?_
    refine am_aload_n (n := 93) d_Life_behindStep_92 rfl rfl ?_
    refine am_iload_n (n := 94) d_Life_behindStep_93 rfl rfl ?_
    refine am_callV (kc := 0) (ks := 0) (As := [.ref p1, .int p2]) (n := 97) d_Life_behindStep_94 rfl ce_Life_holds lk_Life_85 in_Life_holds rfl rfl hq rfl rfl (Nat.le_of_ble_eq_true rfl) (Or.inl rfl) (cm_Life_holds (d := d - 1) hw (by omega) hq hp1 h) (by omega) ?_
    rintro _ _ ⟨r4, rfl, rfl, h⟩
    show am_Wp (d, "UnseenRing$Life", b_Life_behindStep, 4, false) 0 0 97 [some (.ref q), some (.ref p1), some (.int p2), some (.ref (am_rd R p1 5))] [.int (am_b r4)] (I, L, R, am_SH) (po_Life_behindStep L R Q)
    refine am_if_eq (y := 0) (tgt := 106) (n := 100) d_Life_behindStep_97 rfl rfl (fun c8 => ?_) (fun c8 => ?_)
    · have h := h.1 (am_b_0 c8)
      refine am_aload_n (n := 107) d_Life_behindStep_106 rfl rfl ?_
      refine am_getR (x := ((am_rd R p1 5) + 5)) (n := 110) f_Life_79 d_Life_behindStep_107 rfl rfl (hw.rd (k := 5) hp1 rfl).2 (hw.1 (am_rd R p1 5) 1 4 5 (hw.rd (k := 5) hp1 rfl).2 rfl) ?_
      refine am_iload_n (n := 111) d_Life_behindStep_110 rfl rfl ?_
      obtain ⟨g5, h⟩ := h
      refine am_iald2 (n := 112) d_Life_behindStep_111 rfl (am_sho (k := 4) (o := 5) (hw.rd (k := 5) hp1 rfl).2 (by decide) (by decide) (by decide) rfl) g5 rfl ?_
      refine am_iconst (n := 113) d_Life_behindStep_112 ci_1 rfl ?_
      refine am_iadd (n := 114) d_Life_behindStep_113 rfl ?_
      exact am_iret d_Life_behindStep_114 ⟨((I ((am_rd R p1 5) + 5) (Int32.toNatClampNeg p2)) + 1), I, rfl, rfl, h⟩
    · have h := h.2 (am_b_n0 c8)
      refine am_iload_n (n := 101) d_Life_behindStep_100 rfl rfl ?_
      refine am_iconst (n := 102) d_Life_behindStep_101 ci_1 rfl ?_
      refine am_iadd (n := 103) d_Life_behindStep_102 rfl ?_
      refine am_goto (tgt := 114) d_Life_behindStep_103 rfl ?_
      exact am_iret d_Life_behindStep_114 ⟨(p2 + 1), I, rfl, rfl, h⟩
  by_cases c9 : (I ((am_rd R p1 5) + 1) (Int32.toNatClampNeg p2)) = 22
  · have h := h.2.2.2.2.1 c9
    refine am_tableIn (off := 46) (tgt := 57) d_Life_behindStep_11 (by rw [c9]; decide) (by rw [c9]; decide) (by rw [c9]; decide +kernel) rfl ?_
    refine am_aload_n (n := 58) d_Life_behindStep_57 rfl rfl ?_
    refine am_getR (x := (q + 1)) (n := 61) f_Life_11 d_Life_behindStep_58 rfl rfl hq (hw.1 q 4 0 1 hq rfl) ?_
    refine am_iload_n (n := 62) d_Life_behindStep_61 rfl rfl ?_
    refine am_aload_n (n := 63) d_Life_behindStep_62 rfl rfl ?_
    refine am_getR (x := ((am_rd R p1 5) + 2)) (n := 66) f_Life_82 d_Life_behindStep_63 rfl rfl (hw.rd (k := 5) hp1 rfl).2 (hw.1 (am_rd R p1 5) 1 1 2 (hw.rd (k := 5) hp1 rfl).2 rfl) ?_
    refine am_iload_n (n := 67) d_Life_behindStep_66 rfl rfl ?_
    obtain ⟨g6, h⟩ := h
    refine am_iald2 (n := 68) d_Life_behindStep_67 rfl (am_sho (k := 1) (o := 2) (hw.rd (k := 5) hp1 rfl).2 (by decide) (by decide) (by decide) rfl) g6 rfl ?_
    obtain ⟨g7, h⟩ := h
    refine am_iast2 (n := 69) d_Life_behindStep_68 rfl (am_sho (k := 0) (o := 1) hq (by decide) (by decide) (by decide) rfl) g7 rfl ?_
    generalize eI1 : am_u2 I (q + 1) (Int32.toNatClampNeg p2) (I ((am_rd R p1 5) + 2) (Int32.toNatClampNeg p2)) = I1
    have h := h I1 eI1.symm
    refine am_aload_n (n := 70) d_Life_behindStep_69 rfl rfl ?_
    refine am_getR (x := ((am_rd R p1 5) + 5)) (n := 73) f_Life_79 d_Life_behindStep_70 rfl rfl (hw.rd (k := 5) hp1 rfl).2 (hw.1 (am_rd R p1 5) 1 4 5 (hw.rd (k := 5) hp1 rfl).2 rfl) ?_
    refine am_iload_n (n := 74) d_Life_behindStep_73 rfl rfl ?_
    obtain ⟨g8, h⟩ := h
    refine am_iald2 (n := 75) d_Life_behindStep_74 rfl (am_sho (k := 4) (o := 5) (hw.rd (k := 5) hp1 rfl).2 (by decide) (by decide) (by decide) rfl) g8 rfl ?_
    refine am_iload_n (n := 76) d_Life_behindStep_75 rfl rfl ?_
    refine am_iconst (n := 77) d_Life_behindStep_76 ci_1 rfl ?_
    refine am_iadd (n := 78) d_Life_behindStep_77 rfl ?_
    refine am_icmp_ne (tgt := 87) (n := 81) d_Life_behindStep_78 rfl rfl (fun c10 => ?_) (fun c10 => ?_)
    · have h := h.2 c10
      refine am_iload_n (n := 88) d_Life_behindStep_87 rfl rfl ?_
      refine am_iconst (n := 89) d_Life_behindStep_88 ci_1 rfl ?_
      refine am_iadd (n := 90) d_Life_behindStep_89 rfl ?_
      exact am_iret d_Life_behindStep_90 ⟨(p2 + 1), I1, rfl, rfl, h⟩
    · have h := h.1 c10
      refine am_iload_n (n := 82) d_Life_behindStep_81 rfl rfl ?_
      refine am_iconst (n := 83) d_Life_behindStep_82 ci_2 rfl ?_
      refine am_iadd (n := 84) d_Life_behindStep_83 rfl ?_
      refine am_goto (tgt := 90) d_Life_behindStep_84 rfl ?_
      exact am_iret d_Life_behindStep_90 ⟨(p2 + 2), I1, rfl, rfl, h⟩
  by_cases c11 : (I ((am_rd R p1 5) + 1) (Int32.toNatClampNeg p2)) = 23
  · have h := h.2.2.2.2.2.1 c11
    refine am_tableIn (off := 104) (tgt := 115) d_Life_behindStep_11 (by rw [c11]; decide) (by rw [c11]; decide) (by rw [c11]; decide +kernel) rfl ?_
    refine am_iload_n (n := 116) d_Life_behindStep_115 rfl rfl ?_
    refine am_iconst (n := 117) d_Life_behindStep_116 ci_1 rfl ?_
    refine am_iadd (n := 118) d_Life_behindStep_117 rfl ?_
    exact am_iret d_Life_behindStep_118 ⟨(p2 + 1), I, rfl, rfl, h⟩
  by_cases c12 : (I ((am_rd R p1 5) + 1) (Int32.toNatClampNeg p2)) = 24
  · have h := h.2.2.2.2.2.2.1 c12
    refine am_tableIn (off := 41) (tgt := 52) d_Life_behindStep_11 (by rw [c12]; decide) (by rw [c12]; decide) (by rw [c12]; decide +kernel) rfl ?_
    refine am_aload_n (n := 53) d_Life_behindStep_52 rfl rfl ?_
    refine am_getI (n := 56) f_Life_59 d_Life_behindStep_53 rfl rfl (hw.rd (k := 5) hp1 rfl).2 ?_
    exact am_iret d_Life_behindStep_56 ⟨(I (am_rd R p1 5) 6), I, rfl, rfl, h⟩
  have h := h.2.2.2.2.2.2.2 c1 c3 c5 c7 c9 c11 c12
  have z0 := lv_neT c1 (a := 18) (by decide)
  have z1 := lv_neT c3 (a := 19) (by decide)
  have z2 := lv_neT c5 (a := 20) (by decide)
  have z3 := lv_neT c7 (a := 21) (by decide)
  have z4 := lv_neT c9 (a := 22) (by decide)
  have z5 := lv_neT c11 (a := 23) (by decide)
  have z6 := lv_neT c12 (a := 24) (by decide)
  refine am_tableOut (tgt := 115) d_Life_behindStep_11 (by omega) rfl ?_
  refine am_iload_n (n := 116) d_Life_behindStep_115 rfl rfl ?_
  refine am_iconst (n := 117) d_Life_behindStep_116 ci_1 rfl ?_
  refine am_iadd (n := 118) d_Life_behindStep_117 rfl ?_
  exact am_iret d_Life_behindStep_118 ⟨(p2 + 1), I, rfl, rfl, h⟩
abbrev po_Life_run (L : am_TL) (R : am_TR) (Q : am_TI → Prop) : Option Value → am_St → Prop := fun r σ' => ∃ (I' : am_TI), r = none ∧ σ' = (I', L, R, am_SH) ∧ Q I'
def wl_Life_run_51 (L : am_TL) (R : am_TR) (q : Nat) (p1 : Nat) (p2 : Int32) (Q : am_TI → Prop)  : Nat → am_TI → Nat → Int32 → Int32 → Prop
  | 0 => fun _ _ _ _ => False
  | f51 + 1 => fun I v3 v4 v5 => ((100000 ≤ v5 → Q I) ∧ (¬ 100000 ≤ v5 → (((I v3 6) ≤ v4 → Q I) ∧ (¬ (I v3 6) ≤ v4 → (((I q 9) = 0 → (vp_in v4 60 ∧ (((I (v3 + 1) (Int32.toNatClampNeg v4)) = 23 → wp_Life_behindEnd I L R q v3 v4 (fun (r2 : Int32) (I13 : am_TI) => wl_Life_run_51 L R q p1 p2 Q f51 I13 v3 r2 (v5 + 1))) ∧ (¬ (I (v3 + 1) (Int32.toNatClampNeg v4)) = 23 → (((I q 10) < 300 → (∀ I9, I9 = am_u2 I q 10 ((I q 10) + 1) → wp_Life_act I9 L R q p1 v4 (fun (I10 : am_TI) => wp_Life_behindStep I10 L R q p1 v4 (fun (r1 : Int32) (I11 : am_TI) => wl_Life_run_51 L R q p1 p2 Q f51 I11 v3 r1 (v5 + 1))))) ∧ (¬ (I q 10) < 300 → (∀ I12, I12 = am_u2 I q 9 1 → wl_Life_run_51 L R q p1 p2 Q f51 I12 v3 v4 (v5 + 1)))))))) ∧ (¬ (I q 9) = 0 → Q I))))))
set_option maxRecDepth 20000 in
theorem tl_Life_run_51 {d : Nat}  {L : am_TL} {R : am_TR} {q : Nat} {p1 : Nat} {p2 : Int32} {Q : am_TI → Prop}  (hw : am_Wf R) (hq : am_SH[q]? = some (.inl 4)) (hp1 : am_SH[p1]? = some (.inl 7)) (hd : 6 ≤ d) : ∀ (n : Nat) (I : am_TI) (v3 : Nat) (v4 : Int32) (v5 : Int32) (hv3 : am_SH[v3]? = some (.inl 1)), wl_Life_run_51 L R q p1 p2 Q  n I v3 v4 v5 → am_Wp (d, "UnseenRing$Life", b_Life_run, 6, false) 0 0 51 [some (.ref q), some (.ref p1), some (.int p2), some (.ref v3), some (.int v4), some (.int v5)] [] (I, L, R, am_SH) (po_Life_run L R Q) := by
  intro n
  induction n with
  | zero => intro I v3 v4 v5 hv3 h; exact h.elim
  | succ n ih =>
    intro I v3 v4 v5 hv3 h
    unfold wl_Life_run_51 at h
    refine am_iload (n := 53) d_Life_run_51 rfl rfl ?_
    refine am_ldc (n := 55) d_Life_run_53 k_Life_58 rfl ?_
    refine am_icmp_ge (tgt := 148) (n := 58) d_Life_run_55 rfl rfl (fun c1 => ?_) (fun c1 => ?_)
    · have h := h.1 c1
      exact am_vret d_Life_run_148 ⟨I, rfl, rfl, h⟩
    · have h := h.2 c1
      refine am_iload (n := 60) d_Life_run_58 rfl rfl ?_
      refine am_aload_n (n := 61) d_Life_run_60 rfl rfl ?_
      refine am_getI (n := 64) f_Life_59 d_Life_run_61 rfl rfl hv3 ?_
      refine am_icmp_ge (tgt := 148) (n := 67) d_Life_run_64 rfl rfl (fun c2 => ?_) (fun c2 => ?_)
      · have h := h.1 c2
        exact am_vret d_Life_run_148 ⟨I, rfl, rfl, h⟩
      · have h := h.2 c2
        refine am_aload_n (n := 68) d_Life_run_67 rfl rfl ?_
        refine am_getZ (n := 71) f_Life_43 d_Life_run_68 rfl rfl hq ?_
        refine am_if_ne (y := 0) (tgt := 148) (n := 74) d_Life_run_71 rfl rfl (fun c3 => ?_) (fun c3 => ?_)
        · have h := h.2 c3
          exact am_vret d_Life_run_148 ⟨I, rfl, rfl, h⟩
        · have h := h.1 c3
          refine am_aload_n (n := 75) d_Life_run_74 rfl rfl ?_
          refine am_getR (x := (v3 + 1)) (n := 78) f_Life_62 d_Life_run_75 rfl rfl hv3 (hw.1 v3 1 0 1 hv3 rfl) ?_
          refine am_iload (n := 80) d_Life_run_78 rfl rfl ?_
          obtain ⟨g1, h⟩ := h
          refine am_iald2 (n := 81) d_Life_run_80 rfl (am_sho (k := 0) (o := 1) hv3 (by decide) (by decide) (by decide) rfl) g1 rfl ?_
          refine am_bipush (n := 83) d_Life_run_81 cb_23 rfl ?_
          refine am_icmp_ne (tgt := 98) (n := 86) d_Life_run_83 rfl rfl (fun c4 => ?_) (fun c4 => ?_)
          · have h := h.2 c4
            refine am_aload_n (n := 99) d_Life_run_98 rfl rfl ?_
            refine am_getI (n := 102) f_Life_46 d_Life_run_99 rfl rfl hq ?_
            refine am_sipush (n := 105) d_Life_run_102 cs_300 rfl ?_
            refine am_icmp_lt (tgt := 116) (n := 108) d_Life_run_105 rfl rfl (fun c5 => ?_) (fun c5 => ?_)
            · have h := h.1 c5
              refine am_aload_n (n := 117) d_Life_run_116 rfl rfl ?_
              refine am_dup (n := 118) d_Life_run_117 rfl rfl ?_
              refine am_getI (n := 121) f_Life_46 d_Life_run_118 rfl rfl hq ?_
              refine am_iconst (n := 122) d_Life_run_121 ci_1 rfl ?_
              refine am_iadd (n := 123) d_Life_run_122 rfl ?_
              refine am_putI (n := 126) f_Life_46 d_Life_run_123 rfl ⟨_, rfl, Or.inl rfl⟩ rfl rfl hq ?_
              generalize eI9 : am_u2 I q 10 ((I q 10) + 1) = I9
              have h := h I9 eI9.symm
              refine am_aload_n (n := 127) d_Life_run_126 rfl rfl ?_
              refine am_aload_n (n := 128) d_Life_run_127 rfl rfl ?_
              refine am_iload (n := 130) d_Life_run_128 rfl rfl ?_
              refine am_callV (kc := 0) (ks := 0) (As := [.ref p1, .int v4]) (n := 133) d_Life_run_130 rfl ce_Life_act lk_Life_71 in_Life_act rfl rfl hq rfl rfl (Nat.le_of_ble_eq_true rfl) (Or.inl rfl) (cm_Life_act (d := d - 1) hw (by omega) hq hp1 h) (by omega) ?_
              rintro _ _ ⟨I10, rfl, rfl, h⟩
              show am_Wp (d, "UnseenRing$Life", b_Life_run, 6, false) 0 0 133 [some (.ref q), some (.ref p1), some (.int p2), some (.ref v3), some (.int v4), some (.int v5)] [] (I10, L, R, am_SH) (po_Life_run L R Q)
              refine am_aload_n (n := 134) d_Life_run_133 rfl rfl ?_
              refine am_aload_n (n := 135) d_Life_run_134 rfl rfl ?_
              refine am_iload (n := 137) d_Life_run_135 rfl rfl ?_
              refine am_callV (kc := 0) (ks := 0) (As := [.ref p1, .int v4]) (n := 140) d_Life_run_137 rfl ce_Life_behindStep lk_Life_75 in_Life_behindStep rfl rfl hq rfl rfl (Nat.le_of_ble_eq_true rfl) (Or.inl rfl) (cm_Life_behindStep (d := d - 1) hw (by omega) hq hp1 h) (by omega) ?_
              rintro _ _ ⟨r1, I11, rfl, rfl, h⟩
              show am_Wp (d, "UnseenRing$Life", b_Life_run, 6, false) 0 0 140 [some (.ref q), some (.ref p1), some (.int p2), some (.ref v3), some (.int v4), some (.int v5)] [.int r1] (I11, L, R, am_SH) (po_Life_run L R Q)
              refine am_istore (ls' := [some (.ref q), some (.ref p1), some (.int p2), some (.ref v3), some (.int r1), some (.int v5)]) (n := 142) d_Life_run_140 (by decide) rfl rfl ?_
              refine am_iinc (v := v5 + 1) (ls' := [some (.ref q), some (.ref p1), some (.int p2), some (.ref v3), some (.int r1), some (.int (v5 + 1))]) (n := 145) d_Life_run_142 rfl (congrArg _ ci_1) (by decide) rfl rfl ?_
              refine am_goto (tgt := 51) d_Life_run_145 rfl ?_
              exact ih I11 v3 r1 (v5 + 1)  hv3 h
            · have h := h.2 c5
              refine am_aload_n (n := 109) d_Life_run_108 rfl rfl ?_
              refine am_iconst (n := 110) d_Life_run_109 ci_1 rfl ?_
              refine am_putZ (n := 113) f_Life_43 d_Life_run_110 rfl ⟨_, rfl, Or.inl rfl⟩ rfl rfl hq (Or.inr rfl) ?_
              generalize eI12 : am_u2 I q 9 1 = I12
              have h := h I12 eI12.symm
              refine am_goto (tgt := 142) d_Life_run_113 rfl ?_
              refine am_iinc (v := v5 + 1) (ls' := [some (.ref q), some (.ref p1), some (.int p2), some (.ref v3), some (.int v4), some (.int (v5 + 1))]) (n := 145) d_Life_run_142 rfl (congrArg _ ci_1) (by decide) rfl rfl ?_
              refine am_goto (tgt := 51) d_Life_run_145 rfl ?_
              exact ih I12 v3 v4 (v5 + 1)  hv3 h
          · have h := h.1 c4
            refine am_aload_n (n := 87) d_Life_run_86 rfl rfl ?_
            refine am_aload_n (n := 88) d_Life_run_87 rfl rfl ?_
            refine am_iload (n := 90) d_Life_run_88 rfl rfl ?_
            refine am_callV (kc := 0) (ks := 0) (As := [.ref v3, .int v4]) (n := 93) d_Life_run_90 rfl ce_Life_behindEnd lk_Life_67 in_Life_behindEnd rfl rfl hq rfl rfl (Nat.le_of_ble_eq_true rfl) (Or.inl rfl) (cm_Life_behindEnd (d := d - 1) hw (by omega) hq hv3 h) (by omega) ?_
            rintro _ _ ⟨r2, I13, rfl, rfl, h⟩
            show am_Wp (d, "UnseenRing$Life", b_Life_run, 6, false) 0 0 93 [some (.ref q), some (.ref p1), some (.int p2), some (.ref v3), some (.int v4), some (.int v5)] [.int r2] (I13, L, R, am_SH) (po_Life_run L R Q)
            refine am_istore (ls' := [some (.ref q), some (.ref p1), some (.int p2), some (.ref v3), some (.int r2), some (.int v5)]) (n := 95) d_Life_run_93 (by decide) rfl rfl ?_
            refine am_goto (tgt := 142) d_Life_run_95 rfl ?_
            refine am_iinc (v := v5 + 1) (ls' := [some (.ref q), some (.ref p1), some (.int p2), some (.ref v3), some (.int r2), some (.int (v5 + 1))]) (n := 145) d_Life_run_142 rfl (congrArg _ ci_1) (by decide) rfl rfl ?_
            refine am_goto (tgt := 51) d_Life_run_145 rfl ?_
            exact ih I13 v3 r2 (v5 + 1)  hv3 h
def wp_Life_run (I : am_TI) (L : am_TL) (R : am_TR) (q : Nat) (p1 : Nat) (p2 : Int32)  (Q : am_TI → Prop) : Prop := (∀ I1, I1 = am_u2 I q 1 p2 → (∀ I2, I2 = am_u2 I1 q 10 0 → (∀ I3, I3 = am_u2 I2 q 5 0 → (∀ I4, I4 = am_u2 I3 q 6 0 → (∀ I5, I5 = am_u2 I4 q 7 0 → (∀ I6, I6 = am_u2 I5 q 8 0 → (∀ I7, I7 = am_u2 I6 q 9 0 → (∀ I8, I8 = am_u2 I7 q 11 1 → (∃ z, wl_Life_run_51 L R q p1 p2 Q z I8 (am_rd R p1 5) 0 0)))))))))
set_option maxRecDepth 20000 in
theorem cm_Life_run {d : Nat} {I : am_TI} {L : am_TL} {R : am_TR}  (hw : am_Wf R)   {q : Nat} {p1 : Nat} {p2 : Int32} {Q : am_TI → Prop} (hd : 6 ≤ d) (hq : am_SH[q]? = some (.inl 4)) (hp1 : am_SH[p1]? = some (.inl 7)) (h : wp_Life_run I L R q p1 p2  Q) : am_Cm d 0 0 y_Life_run b_Life_run 6 (none) [.ref q, .ref p1, .int p2] (I, L, R, am_SH) (po_Life_run L R Q) := by
  refine am_Cm_of (ini := false) (by decide +kernel) (fun z => by cases z) (by simp [Value.category]) (fun r σ' z => by obtain ⟨_, rfl, -⟩ := z; rfl) ?_
  unfold wp_Life_run at h
  show am_Wp (d, "UnseenRing$Life", b_Life_run, 6, false) 0 0 0 [some (.ref q), some (.ref p1), some (.int p2), none, none, none] [] (I, L, R, am_SH) (po_Life_run L R Q)
  refine am_aload_n (n := 1) d_Life_run_0 rfl rfl ?_
  refine am_iload_n (n := 2) d_Life_run_1 rfl rfl ?_
  refine am_putI (n := 5) f_Life_17 d_Life_run_2 rfl ⟨_, rfl, Or.inl rfl⟩ rfl rfl hq ?_
  generalize eI1 : am_u2 I q 1 p2 = I1
  have h := h I1 eI1.symm
  refine am_aload_n (n := 6) d_Life_run_5 rfl rfl ?_
  refine am_iconst (n := 7) d_Life_run_6 ci_0 rfl ?_
  refine am_putI (n := 10) f_Life_46 d_Life_run_7 rfl ⟨_, rfl, Or.inl rfl⟩ rfl rfl hq ?_
  generalize eI2 : am_u2 I1 q 10 0 = I2
  have h := h I2 eI2.symm
  refine am_aload_n (n := 11) d_Life_run_10 rfl rfl ?_
  refine am_iconst (n := 12) d_Life_run_11 ci_0 rfl ?_
  refine am_putI (n := 15) f_Life_31 d_Life_run_12 rfl ⟨_, rfl, Or.inl rfl⟩ rfl rfl hq ?_
  generalize eI3 : am_u2 I2 q 5 0 = I3
  have h := h I3 eI3.symm
  refine am_aload_n (n := 16) d_Life_run_15 rfl rfl ?_
  refine am_iconst (n := 17) d_Life_run_16 ci_0 rfl ?_
  refine am_putI (n := 20) f_Life_34 d_Life_run_17 rfl ⟨_, rfl, Or.inl rfl⟩ rfl rfl hq ?_
  generalize eI4 : am_u2 I3 q 6 0 = I4
  have h := h I4 eI4.symm
  refine am_aload_n (n := 21) d_Life_run_20 rfl rfl ?_
  refine am_iconst (n := 22) d_Life_run_21 ci_0 rfl ?_
  refine am_putI (n := 25) f_Life_37 d_Life_run_22 rfl ⟨_, rfl, Or.inl rfl⟩ rfl rfl hq ?_
  generalize eI5 : am_u2 I4 q 7 0 = I5
  have h := h I5 eI5.symm
  refine am_aload_n (n := 26) d_Life_run_25 rfl rfl ?_
  refine am_iconst (n := 27) d_Life_run_26 ci_0 rfl ?_
  refine am_putI (n := 30) f_Life_40 d_Life_run_27 rfl ⟨_, rfl, Or.inl rfl⟩ rfl rfl hq ?_
  generalize eI6 : am_u2 I5 q 8 0 = I6
  have h := h I6 eI6.symm
  refine am_aload_n (n := 31) d_Life_run_30 rfl rfl ?_
  refine am_iconst (n := 32) d_Life_run_31 ci_0 rfl ?_
  refine am_putZ (n := 35) f_Life_43 d_Life_run_32 rfl ⟨_, rfl, Or.inl rfl⟩ rfl rfl hq (Or.inl rfl) ?_
  generalize eI7 : am_u2 I6 q 9 0 = I7
  have h := h I7 eI7.symm
  refine am_aload_n (n := 36) d_Life_run_35 rfl rfl ?_
  refine am_iconst (n := 37) d_Life_run_36 ci_1 rfl ?_
  refine am_putZ (n := 40) f_Life_49 d_Life_run_37 rfl ⟨_, rfl, Or.inl rfl⟩ rfl rfl hq (Or.inr rfl) ?_
  generalize eI8 : am_u2 I7 q 11 1 = I8
  have h := h I8 eI8.symm
  refine am_aload_n (n := 41) d_Life_run_40 rfl rfl ?_
  refine am_getR (x := (am_rd R p1 5)) (n := 44) f_Life_52 d_Life_run_41 rfl rfl hp1 (hw.rd (k := 5) hp1 rfl).1 ?_
  refine am_astore_n (ls' := [some (.ref q), some (.ref p1), some (.int p2), some (.ref (am_rd R p1 5)), none, none]) (n := 45) d_Life_run_44 (by decide) rfl rfl ?_
  refine am_iconst (n := 46) d_Life_run_45 ci_0 rfl ?_
  refine am_istore (ls' := [some (.ref q), some (.ref p1), some (.int p2), some (.ref (am_rd R p1 5)), some (.int 0), none]) (n := 48) d_Life_run_46 (by decide) rfl rfl ?_
  refine am_iconst (n := 49) d_Life_run_48 ci_0 rfl ?_
  refine am_istore (ls' := [some (.ref q), some (.ref p1), some (.int p2), some (.ref (am_rd R p1 5)), some (.int 0), some (.int 0)]) (n := 51) d_Life_run_49 (by decide) rfl rfl ?_
  obtain ⟨n, h⟩ := h
  exact tl_Life_run_51 hw hq hp1 hd n I8 (am_rd R p1 5) 0 0 (hw.rd (k := 5) hp1 rfl).2 h
abbrev po_U_live (L : am_TL) (R : am_TR) (Q : Int32 → am_TI → Prop) : Option Value → am_St → Prop := fun r σ' => ∃ (x : Int32) (I' : am_TI), r = some (.int x) ∧ σ' = (I', L, R, am_SH) ∧ Q x I'
def wp_U_live (I : am_TI) (L : am_TL) (R : am_TR) (q : Nat) (p1 : Int32)  (Q : Int32 → am_TI → Prop) : Prop := wp_U_within I L R p1 0 9999 (fun (r1 : Bool) => ((r1 = false → wp_U_refused I L R q 1 (fun (r4 : Int32) (I4 : am_TI) => Q r4 I4)) ∧ (r1 = true → (((I (am_rd R (am_rd R q 11) 5) 5) = 0 → wp_U_refused I L R q 6 (fun (r3 : Int32) (I3 : am_TI) => Q r3 I3)) ∧ (¬ (I (am_rd R (am_rd R q 11) 5) 5) = 0 → wp_Life_run I L R (q + 12) (am_rd R q 11) p1 (fun (I1 : am_TI) => wp_U_answered I1 L R q (I1 (q + 12) 10) (fun (r2 : Int32) (I2 : am_TI) => Q r2 I2)))))))
set_option maxRecDepth 20000 in
theorem cm_U_live {d : Nat} {I : am_TI} {L : am_TL} {R : am_TR}  (hw : am_Wf R)   {q : Nat} {p1 : Int32} {Q : Int32 → am_TI → Prop} (hd : 7 ≤ d) (hq : am_SH[q]? = some (.inl 11)) (h : wp_U_live I L R q p1  Q) : am_Cm d 0 0 y_U_live b_U_live 2 (some .int) [.ref q, .int p1] (I, L, R, am_SH) (po_U_live L R Q) := by
  refine am_Cm_of (ini := false) (by decide +kernel) (fun z => by cases z) (by simp [Value.category]) (fun r σ' z => by obtain ⟨x, _, rfl, -⟩ := z; exact ⟨_, rfl, rfl⟩) ?_
  unfold wp_U_live at h
  show am_Wp (d, "UnseenRing", b_U_live, 2, false) 0 0 0 [some (.ref q), some (.int p1)] [] (I, L, R, am_SH) (po_U_live L R Q)
  refine am_iload_n (n := 1) d_U_live_0 rfl rfl ?_
  refine am_iconst (n := 2) d_U_live_1 ci_0 rfl ?_
  refine am_sipush (n := 5) d_U_live_2 cs_9999 rfl ?_
  refine am_callS (kc := 0) (ks := 0) (As := [.int p1, .int 0, .int 9999]) (n := 8) d_U_live_5 rfl ce_U_within lk_U_114 st_U_within rfl rfl (Nat.le_of_ble_eq_true rfl) (Or.inl rfl) (cm_U_within (d := d - 1) hw (by omega)  h) (by omega) ?_
  rintro _ _ ⟨r1, rfl, rfl, h⟩
  show am_Wp (d, "UnseenRing", b_U_live, 2, false) 0 0 8 [some (.ref q), some (.int p1)] [.int (am_b r1)] (I, L, R, am_SH) (po_U_live L R Q)
  refine am_if_ne (y := 0) (tgt := 17) (n := 11) d_U_live_8 rfl rfl (fun c1 => ?_) (fun c1 => ?_)
  · have h := h.2 (am_b_n0 c1)
    refine am_aload_n (n := 18) d_U_live_17 rfl rfl ?_
    refine am_getR (x := (am_rd R q 11)) (n := 21) f_U_81 d_U_live_18 rfl rfl hq (hw.rd (k := 11) hq rfl).1 ?_
    refine am_getR (x := (am_rd R (am_rd R q 11) 5)) (n := 24) f_U_190 d_U_live_21 rfl rfl (hw.rd (k := 11) hq rfl).2 (hw.rd (k := 5) (hw.rd (k := 11) hq rfl).2 rfl).1 ?_
    refine am_getZ (n := 27) f_U_390 d_U_live_24 rfl rfl (hw.rd (k := 5) (hw.rd (k := 11) hq rfl).2 rfl).2 ?_
    refine am_if_ne (y := 0) (tgt := 37) (n := 30) d_U_live_27 rfl rfl (fun c2 => ?_) (fun c2 => ?_)
    · have h := h.2 c2
      refine am_aload_n (n := 38) d_U_live_37 rfl rfl ?_
      refine am_getR (x := (q + 12)) (n := 41) f_U_45 d_U_live_38 rfl rfl hq (hw.1 q 11 5 12 hq rfl) ?_
      refine am_aload_n (n := 42) d_U_live_41 rfl rfl ?_
      refine am_getR (x := (am_rd R q 11)) (n := 45) f_U_81 d_U_live_42 rfl rfl hq (hw.rd (k := 11) hq rfl).1 ?_
      refine am_iload_n (n := 46) d_U_live_45 rfl rfl ?_
      refine am_callV (kc := 0) (ks := 0) (As := [.ref (am_rd R q 11), .int p1]) (n := 49) d_U_live_46 rfl ce_Life_run lk_U_394 in_Life_run rfl rfl (am_sho (k := 5) (o := 12) hq (by decide) (by decide) (by decide) rfl) rfl rfl (Nat.le_of_ble_eq_true rfl) (Or.inl rfl) (cm_Life_run (d := d - 1) hw (by omega) (am_sho (k := 5) (o := 12) hq (by decide) (by decide) (by decide) rfl) (hw.rd (k := 11) hq rfl).2 h) (by omega) ?_
      rintro _ _ ⟨I1, rfl, rfl, h⟩
      show am_Wp (d, "UnseenRing", b_U_live, 2, false) 0 0 49 [some (.ref q), some (.int p1)] [] (I1, L, R, am_SH) (po_U_live L R Q)
      refine am_aload_n (n := 50) d_U_live_49 rfl rfl ?_
      refine am_aload_n (n := 51) d_U_live_50 rfl rfl ?_
      refine am_getR (x := (q + 12)) (n := 54) f_U_45 d_U_live_51 rfl rfl hq (hw.1 q 11 5 12 hq rfl) ?_
      refine am_getI (n := 57) f_U_398 d_U_live_54 rfl rfl (am_sho (k := 5) (o := 12) hq (by decide) (by decide) (by decide) rfl) ?_
      refine am_callV (kc := 0) (ks := 0) (As := [.int (I1 (q + 12) 10)]) (n := 60) d_U_live_57 rfl ce_U_answered lk_U_184 in_U_answered rfl rfl hq rfl rfl (Nat.le_of_ble_eq_true rfl) (Or.inl rfl) (cm_U_answered (d := d - 1) hw (by omega) hq h) (by omega) ?_
      rintro _ _ ⟨r2, I2, rfl, rfl, h⟩
      show am_Wp (d, "UnseenRing", b_U_live, 2, false) 0 0 60 [some (.ref q), some (.int p1)] [.int r2] (I2, L, R, am_SH) (po_U_live L R Q)
      exact am_iret d_U_live_60 ⟨r2, I2, rfl, rfl, h⟩
    · have h := h.1 c2
      refine am_aload_n (n := 31) d_U_live_30 rfl rfl ?_
      refine am_bipush (n := 33) d_U_live_31 cb_6 rfl ?_
      refine am_callV (kc := 0) (ks := 0) (As := [.int 6]) (n := 36) d_U_live_33 rfl ce_U_refused lk_U_133 in_U_refused rfl rfl hq rfl rfl (Nat.le_of_ble_eq_true rfl) (Or.inl rfl) (cm_U_refused (d := d - 1) hw (by omega) hq h) (by omega) ?_
      rintro _ _ ⟨r3, I3, rfl, rfl, h⟩
      show am_Wp (d, "UnseenRing", b_U_live, 2, false) 0 0 36 [some (.ref q), some (.int p1)] [.int r3] (I3, L, R, am_SH) (po_U_live L R Q)
      exact am_iret d_U_live_36 ⟨r3, I3, rfl, rfl, h⟩
  · have h := h.1 (am_b_0 c1)
    refine am_aload_n (n := 12) d_U_live_11 rfl rfl ?_
    refine am_iconst (n := 13) d_U_live_12 ci_1 rfl ?_
    refine am_callV (kc := 0) (ks := 0) (As := [.int 1]) (n := 16) d_U_live_13 rfl ce_U_refused lk_U_133 in_U_refused rfl rfl hq rfl rfl (Nat.le_of_ble_eq_true rfl) (Or.inl rfl) (cm_U_refused (d := d - 1) hw (by omega) hq h) (by omega) ?_
    rintro _ _ ⟨r4, I4, rfl, rfl, h⟩
    show am_Wp (d, "UnseenRing", b_U_live, 2, false) 0 0 16 [some (.ref q), some (.int p1)] [.int r4] (I4, L, R, am_SH) (po_U_live L R Q)
    exact am_iret d_U_live_16 ⟨r4, I4, rfl, rfl, h⟩
abbrev po_Life_count (I : am_TI) (L : am_TL) (R : am_TR) (Q : Int32 → Prop) : Option Value → am_St → Prop := fun r σ' => ∃ (x : Int32), r = some (.int x) ∧ σ' = (I, L, R, am_SH) ∧ Q x
def wp_Life_count (I : am_TI) (L : am_TL) (R : am_TR) (q : Nat) (p1 : Int32)  (Q : Int32 → Prop) : Prop := ((p1 = 0 → Q (I q 5)) ∧ (p1 = 1 → Q (I q 6)) ∧ (p1 = 2 → Q (I q 7)) ∧ (p1 = 3 → Q (I q 8)) ∧ (¬ p1 = 0 → ¬ p1 = 1 → ¬ p1 = 2 → ¬ p1 = 3 → (((I q 9) = 0 → Q 0) ∧ (¬ (I q 9) = 0 → Q 1))))
set_option maxRecDepth 20000 in
theorem cm_Life_count {d : Nat} {I : am_TI} {L : am_TL} {R : am_TR}  (hw : am_Wf R)   {q : Nat} {p1 : Int32} {Q : Int32 → Prop} (hd : 0 ≤ d) (hq : am_SH[q]? = some (.inl 4)) (h : wp_Life_count I L R q p1  Q) : am_Cm d 0 0 y_Life_count b_Life_count 2 (some .int) [.ref q, .int p1] (I, L, R, am_SH) (po_Life_count I L R Q) := by
  refine am_Cm_of (ini := false) (by decide +kernel) (fun z => by cases z) (by simp [Value.category]) (fun r σ' z => by obtain ⟨x, rfl, -⟩ := z; exact ⟨_, rfl, rfl⟩) ?_
  unfold wp_Life_count at h
  show am_Wp (d, "UnseenRing$Life", b_Life_count, 2, false) 0 0 0 [some (.ref q), some (.int p1)] [] (I, L, R, am_SH) (po_Life_count I L R Q)
  refine am_iload_n (n := 1) d_Life_count_0 rfl rfl ?_
  by_cases c1 : p1 = 0
  · have h := h.1 c1
    refine am_tableIn (off := 31) (tgt := 32) d_Life_count_1 (by rw [c1]; decide) (by rw [c1]; decide) (by rw [c1]; decide +kernel) rfl ?_
    refine am_aload_n (n := 33) d_Life_count_32 rfl rfl ?_
    refine am_getI (n := 36) f_Life_31 d_Life_count_33 rfl rfl hq ?_
    exact am_iret d_Life_count_36 ⟨(I q 5), rfl, rfl, h⟩
  by_cases c2 : p1 = 1
  · have h := h.2.1 c2
    refine am_tableIn (off := 36) (tgt := 37) d_Life_count_1 (by rw [c2]; decide) (by rw [c2]; decide) (by rw [c2]; decide +kernel) rfl ?_
    refine am_aload_n (n := 38) d_Life_count_37 rfl rfl ?_
    refine am_getI (n := 41) f_Life_34 d_Life_count_38 rfl rfl hq ?_
    exact am_iret d_Life_count_41 ⟨(I q 6), rfl, rfl, h⟩
  by_cases c3 : p1 = 2
  · have h := h.2.2.1 c3
    refine am_tableIn (off := 41) (tgt := 42) d_Life_count_1 (by rw [c3]; decide) (by rw [c3]; decide) (by rw [c3]; decide +kernel) rfl ?_
    refine am_aload_n (n := 43) d_Life_count_42 rfl rfl ?_
    refine am_getI (n := 46) f_Life_37 d_Life_count_43 rfl rfl hq ?_
    exact am_iret d_Life_count_46 ⟨(I q 7), rfl, rfl, h⟩
  by_cases c4 : p1 = 3
  · have h := h.2.2.2.1 c4
    refine am_tableIn (off := 46) (tgt := 47) d_Life_count_1 (by rw [c4]; decide) (by rw [c4]; decide) (by rw [c4]; decide +kernel) rfl ?_
    refine am_aload_n (n := 48) d_Life_count_47 rfl rfl ?_
    refine am_getI (n := 51) f_Life_40 d_Life_count_48 rfl rfl hq ?_
    exact am_iret d_Life_count_51 ⟨(I q 8), rfl, rfl, h⟩
  have h := h.2.2.2.2 c1 c2 c3 c4
  have z0 := lv_neT c1 (a := 0) (by decide)
  have z1 := lv_neT c2 (a := 1) (by decide)
  have z2 := lv_neT c3 (a := 2) (by decide)
  have z3 := lv_neT c4 (a := 3) (by decide)
  refine am_tableOut (tgt := 52) d_Life_count_1 (by omega) rfl ?_
  refine am_aload_n (n := 53) d_Life_count_52 rfl rfl ?_
  refine am_getZ (n := 56) f_Life_43 d_Life_count_53 rfl rfl hq ?_
  refine am_if_eq (y := 0) (tgt := 63) (n := 59) d_Life_count_56 rfl rfl (fun c5 => ?_) (fun c5 => ?_)
  · have h := h.1 c5
    refine am_iconst (n := 64) d_Life_count_63 ci_0 rfl ?_
    exact am_iret d_Life_count_64 ⟨0, rfl, rfl, h⟩
  · have h := h.2 c5
    refine am_iconst (n := 60) d_Life_count_59 ci_1 rfl ?_
    refine am_goto (tgt := 64) d_Life_count_60 rfl ?_
    exact am_iret d_Life_count_64 ⟨1, rfl, rfl, h⟩
abbrev po_U_lived (L : am_TL) (R : am_TR) (Q : Int32 → am_TI → Prop) : Option Value → am_St → Prop := fun r σ' => ∃ (x : Int32) (I' : am_TI), r = some (.int x) ∧ σ' = (I', L, R, am_SH) ∧ Q x I'
def wp_U_lived (I : am_TI) (L : am_TL) (R : am_TR) (q : Nat) (p1 : Int32)  (Q : Int32 → am_TI → Prop) : Prop := wp_U_within I L R p1 0 4 (fun (r1 : Bool) => ((r1 = false → wp_U_refused I L R q 1 (fun (r5 : Int32) (I3 : am_TI) => Q r5 I3)) ∧ (r1 = true → (((I (q + 12) 11) = 0 → wp_U_refused I L R q 6 (fun (r2 : Int32) (I1 : am_TI) => Q r2 I1)) ∧ (¬ (I (q + 12) 11) = 0 → wp_Life_count I L R (q + 12) p1 (fun (r3 : Int32) => wp_U_answered I L R q r3 (fun (r4 : Int32) (I2 : am_TI) => Q r4 I2)))))))
set_option maxRecDepth 20000 in
theorem cm_U_lived {d : Nat} {I : am_TI} {L : am_TL} {R : am_TR}  (hw : am_Wf R)   {q : Nat} {p1 : Int32} {Q : Int32 → am_TI → Prop} (hd : 1 ≤ d) (hq : am_SH[q]? = some (.inl 11)) (h : wp_U_lived I L R q p1  Q) : am_Cm d 0 0 y_U_lived b_U_lived 2 (some .int) [.ref q, .int p1] (I, L, R, am_SH) (po_U_lived L R Q) := by
  refine am_Cm_of (ini := false) (by decide +kernel) (fun z => by cases z) (by simp [Value.category]) (fun r σ' z => by obtain ⟨x, _, rfl, -⟩ := z; exact ⟨_, rfl, rfl⟩) ?_
  unfold wp_U_lived at h
  show am_Wp (d, "UnseenRing", b_U_lived, 2, false) 0 0 0 [some (.ref q), some (.int p1)] [] (I, L, R, am_SH) (po_U_lived L R Q)
  refine am_iload_n (n := 1) d_U_lived_0 rfl rfl ?_
  refine am_iconst (n := 2) d_U_lived_1 ci_0 rfl ?_
  refine am_iconst (n := 3) d_U_lived_2 ci_4 rfl ?_
  refine am_callS (kc := 0) (ks := 0) (As := [.int p1, .int 0, .int 4]) (n := 6) d_U_lived_3 rfl ce_U_within lk_U_114 st_U_within rfl rfl (Nat.le_of_ble_eq_true rfl) (Or.inl rfl) (cm_U_within (d := d - 1) hw (by omega)  h) (by omega) ?_
  rintro _ _ ⟨r1, rfl, rfl, h⟩
  show am_Wp (d, "UnseenRing", b_U_lived, 2, false) 0 0 6 [some (.ref q), some (.int p1)] [.int (am_b r1)] (I, L, R, am_SH) (po_U_lived L R Q)
  refine am_if_ne (y := 0) (tgt := 15) (n := 9) d_U_lived_6 rfl rfl (fun c1 => ?_) (fun c1 => ?_)
  · have h := h.2 (am_b_n0 c1)
    refine am_aload_n (n := 16) d_U_lived_15 rfl rfl ?_
    refine am_getR (x := (q + 12)) (n := 19) f_U_45 d_U_lived_16 rfl rfl hq (hw.1 q 11 5 12 hq rfl) ?_
    refine am_getZ (n := 22) f_U_399 d_U_lived_19 rfl rfl (am_sho (k := 5) (o := 12) hq (by decide) (by decide) (by decide) rfl) ?_
    refine am_if_eq (y := 0) (tgt := 40) (n := 25) d_U_lived_22 rfl rfl (fun c2 => ?_) (fun c2 => ?_)
    · have h := h.1 c2
      refine am_aload_n (n := 41) d_U_lived_40 rfl rfl ?_
      refine am_bipush (n := 43) d_U_lived_41 cb_6 rfl ?_
      refine am_callV (kc := 0) (ks := 0) (As := [.int 6]) (n := 46) d_U_lived_43 rfl ce_U_refused lk_U_133 in_U_refused rfl rfl hq rfl rfl (Nat.le_of_ble_eq_true rfl) (Or.inl rfl) (cm_U_refused (d := d - 1) hw (by omega) hq h) (by omega) ?_
      rintro _ _ ⟨r2, I1, rfl, rfl, h⟩
      show am_Wp (d, "UnseenRing", b_U_lived, 2, false) 0 0 46 [some (.ref q), some (.int p1)] [.int r2] (I1, L, R, am_SH) (po_U_lived L R Q)
      exact am_iret d_U_lived_46 ⟨r2, I1, rfl, rfl, h⟩
    · have h := h.2 c2
      refine am_aload_n (n := 26) d_U_lived_25 rfl rfl ?_
      refine am_aload_n (n := 27) d_U_lived_26 rfl rfl ?_
      refine am_getR (x := (q + 12)) (n := 30) f_U_45 d_U_lived_27 rfl rfl hq (hw.1 q 11 5 12 hq rfl) ?_
      refine am_iload_n (n := 31) d_U_lived_30 rfl rfl ?_
      refine am_callV (kc := 0) (ks := 0) (As := [.int p1]) (n := 34) d_U_lived_31 rfl ce_Life_count lk_U_402 in_Life_count rfl rfl (am_sho (k := 5) (o := 12) hq (by decide) (by decide) (by decide) rfl) rfl rfl (Nat.le_of_ble_eq_true rfl) (Or.inl rfl) (cm_Life_count (d := d - 1) hw (by omega) (am_sho (k := 5) (o := 12) hq (by decide) (by decide) (by decide) rfl) h) (by omega) ?_
      rintro _ _ ⟨r3, rfl, rfl, h⟩
      show am_Wp (d, "UnseenRing", b_U_lived, 2, false) 0 0 34 [some (.ref q), some (.int p1)] [.int r3, .ref q] (I, L, R, am_SH) (po_U_lived L R Q)
      refine am_callV (kc := 0) (ks := 0) (As := [.int r3]) (n := 37) d_U_lived_34 rfl ce_U_answered lk_U_184 in_U_answered rfl rfl hq rfl rfl (Nat.le_of_ble_eq_true rfl) (Or.inl rfl) (cm_U_answered (d := d - 1) hw (by omega) hq h) (by omega) ?_
      rintro _ _ ⟨r4, I2, rfl, rfl, h⟩
      show am_Wp (d, "UnseenRing", b_U_lived, 2, false) 0 0 37 [some (.ref q), some (.int p1)] [.int r4] (I2, L, R, am_SH) (po_U_lived L R Q)
      refine am_goto (tgt := 46) d_U_lived_37 rfl ?_
      exact am_iret d_U_lived_46 ⟨r4, I2, rfl, rfl, h⟩
  · have h := h.1 (am_b_0 c1)
    refine am_aload_n (n := 10) d_U_lived_9 rfl rfl ?_
    refine am_iconst (n := 11) d_U_lived_10 ci_1 rfl ?_
    refine am_callV (kc := 0) (ks := 0) (As := [.int 1]) (n := 14) d_U_lived_11 rfl ce_U_refused lk_U_133 in_U_refused rfl rfl hq rfl rfl (Nat.le_of_ble_eq_true rfl) (Or.inl rfl) (cm_U_refused (d := d - 1) hw (by omega) hq h) (by omega) ?_
    rintro _ _ ⟨r5, I3, rfl, rfl, h⟩
    show am_Wp (d, "UnseenRing", b_U_lived, 2, false) 0 0 14 [some (.ref q), some (.int p1)] [.int r5] (I3, L, R, am_SH) (po_U_lived L R Q)
    exact am_iret d_U_lived_14 ⟨r5, I3, rfl, rfl, h⟩
abbrev po_Days_copyFrom (L : am_TL) (R : am_TR) (Q : am_TI → Prop) : Option Value → am_St → Prop := fun r σ' => ∃ (I' : am_TI), r = none ∧ σ' = (I', L, R, am_SH) ∧ Q I'
def wp_Days_copyFrom (I : am_TI) (L : am_TL) (R : am_TR) (q : Nat) (p1 : Nat)  (Q : am_TI → Prop) : Prop := (¬ (I p1 6) < 0 ∧ (Int32.toNatClampNeg 0 + Int32.toNatClampNeg (I p1 6) ≤ 60 ∧ (Int32.toNatClampNeg 0 + Int32.toNatClampNeg (I p1 6) ≤ 60 ∧ (∀ I1, I1 = am_row I (q + 1) (va_cpy (I (p1 + 1)) (I (q + 1)) (Int32.toNatClampNeg 0) (Int32.toNatClampNeg 0) (Int32.toNatClampNeg (I p1 6))) → (¬ (I1 p1 6) < 0 ∧ (Int32.toNatClampNeg 0 + Int32.toNatClampNeg (I1 p1 6) ≤ 60 ∧ (Int32.toNatClampNeg 0 + Int32.toNatClampNeg (I1 p1 6) ≤ 60 ∧ (∀ I2, I2 = am_row I1 (q + 2) (va_cpy (I1 (p1 + 2)) (I1 (q + 2)) (Int32.toNatClampNeg 0) (Int32.toNatClampNeg 0) (Int32.toNatClampNeg (I1 p1 6))) → (¬ (I2 p1 6) < 0 ∧ (Int32.toNatClampNeg 0 + Int32.toNatClampNeg (I2 p1 6) ≤ 60 ∧ (Int32.toNatClampNeg 0 + Int32.toNatClampNeg (I2 p1 6) ≤ 60 ∧ (∀ I3, I3 = am_row I2 (q + 3) (va_cpy (I2 (p1 + 3)) (I2 (q + 3)) (Int32.toNatClampNeg 0) (Int32.toNatClampNeg 0) (Int32.toNatClampNeg (I2 p1 6))) → (¬ (I3 p1 6) < 0 ∧ (Int32.toNatClampNeg 0 + Int32.toNatClampNeg (I3 p1 6) ≤ 60 ∧ (Int32.toNatClampNeg 0 + Int32.toNatClampNeg (I3 p1 6) ≤ 60 ∧ (∀ I4, I4 = am_row I3 (q + 4) (va_cpy (I3 (p1 + 4)) (I3 (q + 4)) (Int32.toNatClampNeg 0) (Int32.toNatClampNeg 0) (Int32.toNatClampNeg (I3 p1 6))) → (¬ (I4 p1 6) < 0 ∧ (Int32.toNatClampNeg 0 + Int32.toNatClampNeg (I4 p1 6) ≤ 60 ∧ (Int32.toNatClampNeg 0 + Int32.toNatClampNeg (I4 p1 6) ≤ 60 ∧ (∀ I5, I5 = am_row I4 (q + 5) (va_cpy (I4 (p1 + 5)) (I4 (q + 5)) (Int32.toNatClampNeg 0) (Int32.toNatClampNeg 0) (Int32.toNatClampNeg (I4 p1 6))) → (((I5 p1 5) = 0 ∨ (I5 p1 5) = 1) ∧ (∀ I6, I6 = am_u2 I5 q 5 (I5 p1 5) → (∀ I7, I7 = am_u2 I6 q 6 (I6 p1 6) → (∀ I8, I8 = am_u2 I7 q 7 (I7 p1 7) → Q I8))))))))))))))))))))))))
set_option maxRecDepth 20000 in
theorem cm_Days_copyFrom {d : Nat} {I : am_TI} {L : am_TL} {R : am_TR}  (hw : am_Wf R)   {q : Nat} {p1 : Nat} {Q : am_TI → Prop} (hd : 1 ≤ d) (hq : am_SH[q]? = some (.inl 1)) (hp1 : am_SH[p1]? = some (.inl 1)) (h : wp_Days_copyFrom I L R q p1  Q) : am_Cm d 0 0 y_Days_copyFrom b_Days_copyFrom 2 (none) [.ref q, .ref p1] (I, L, R, am_SH) (po_Days_copyFrom L R Q) := by
  refine am_Cm_of (ini := false) (by decide +kernel) (fun z => by cases z) (by simp [Value.category]) (fun r σ' z => by obtain ⟨_, rfl, -⟩ := z; rfl) ?_
  unfold wp_Days_copyFrom at h
  show am_Wp (d, "UnseenRing$Days", b_Days_copyFrom, 2, false) 0 0 0 [some (.ref q), some (.ref p1)] [] (I, L, R, am_SH) (po_Days_copyFrom L R Q)
  refine am_aload_n (n := 1) d_Days_copyFrom_0 rfl rfl ?_
  refine am_getR (x := (p1 + 1)) (n := 4) f_Days_9 d_Days_copyFrom_1 rfl rfl hp1 (hw.1 p1 1 0 1 hp1 rfl) ?_
  refine am_iconst (n := 5) d_Days_copyFrom_4 ci_0 rfl ?_
  refine am_aload_n (n := 6) d_Days_copyFrom_5 rfl rfl ?_
  refine am_getR (x := (q + 1)) (n := 9) f_Days_9 d_Days_copyFrom_6 rfl rfl hq (hw.1 q 1 0 1 hq rfl) ?_
  refine am_iconst (n := 10) d_Days_copyFrom_9 ci_0 rfl ?_
  refine am_aload_n (n := 11) d_Days_copyFrom_10 rfl rfl ?_
  refine am_getI (n := 14) f_Days_29 d_Days_copyFrom_11 rfl rfl hp1 ?_
  obtain ⟨g1, h⟩ := h
  obtain ⟨g2, h⟩ := h
  obtain ⟨g3, h⟩ := h
  refine am_copyI2 (n := 17) d_Days_copyFrom_14 rfl la_Days_36 (am_sho (k := 0) (o := 1) hp1 (by decide) (by decide) (by decide) rfl) (am_sho (k := 0) (o := 1) hq (by decide) (by decide) (by decide) rfl) (by decide) (by decide) g1 g2 g3 (Nat.le_of_ble_eq_true rfl) (by omega) ?_
  generalize eI1 : am_row I (q + 1) (va_cpy (I (p1 + 1)) (I (q + 1)) (Int32.toNatClampNeg 0) (Int32.toNatClampNeg 0) (Int32.toNatClampNeg (I p1 6))) = I1
  have h := h I1 eI1.symm
  refine am_aload_n (n := 18) d_Days_copyFrom_17 rfl rfl ?_
  refine am_getR (x := (p1 + 2)) (n := 21) f_Days_13 d_Days_copyFrom_18 rfl rfl hp1 (hw.1 p1 1 1 2 hp1 rfl) ?_
  refine am_iconst (n := 22) d_Days_copyFrom_21 ci_0 rfl ?_
  refine am_aload_n (n := 23) d_Days_copyFrom_22 rfl rfl ?_
  refine am_getR (x := (q + 2)) (n := 26) f_Days_13 d_Days_copyFrom_23 rfl rfl hq (hw.1 q 1 1 2 hq rfl) ?_
  refine am_iconst (n := 27) d_Days_copyFrom_26 ci_0 rfl ?_
  refine am_aload_n (n := 28) d_Days_copyFrom_27 rfl rfl ?_
  refine am_getI (n := 31) f_Days_29 d_Days_copyFrom_28 rfl rfl hp1 ?_
  obtain ⟨g4, h⟩ := h
  obtain ⟨g5, h⟩ := h
  obtain ⟨g6, h⟩ := h
  refine am_copyI2 (n := 34) d_Days_copyFrom_31 rfl la_Days_36 (am_sho (k := 1) (o := 2) hp1 (by decide) (by decide) (by decide) rfl) (am_sho (k := 1) (o := 2) hq (by decide) (by decide) (by decide) rfl) (by decide) (by decide) g4 g5 g6 (Nat.le_of_ble_eq_true rfl) (by omega) ?_
  generalize eI2 : am_row I1 (q + 2) (va_cpy (I1 (p1 + 2)) (I1 (q + 2)) (Int32.toNatClampNeg 0) (Int32.toNatClampNeg 0) (Int32.toNatClampNeg (I1 p1 6))) = I2
  have h := h I2 eI2.symm
  refine am_aload_n (n := 35) d_Days_copyFrom_34 rfl rfl ?_
  refine am_getR (x := (p1 + 3)) (n := 38) f_Days_16 d_Days_copyFrom_35 rfl rfl hp1 (hw.1 p1 1 2 3 hp1 rfl) ?_
  refine am_iconst (n := 39) d_Days_copyFrom_38 ci_0 rfl ?_
  refine am_aload_n (n := 40) d_Days_copyFrom_39 rfl rfl ?_
  refine am_getR (x := (q + 3)) (n := 43) f_Days_16 d_Days_copyFrom_40 rfl rfl hq (hw.1 q 1 2 3 hq rfl) ?_
  refine am_iconst (n := 44) d_Days_copyFrom_43 ci_0 rfl ?_
  refine am_aload_n (n := 45) d_Days_copyFrom_44 rfl rfl ?_
  refine am_getI (n := 48) f_Days_29 d_Days_copyFrom_45 rfl rfl hp1 ?_
  obtain ⟨g7, h⟩ := h
  obtain ⟨g8, h⟩ := h
  obtain ⟨g9, h⟩ := h
  refine am_copyI2 (n := 51) d_Days_copyFrom_48 rfl la_Days_36 (am_sho (k := 2) (o := 3) hp1 (by decide) (by decide) (by decide) rfl) (am_sho (k := 2) (o := 3) hq (by decide) (by decide) (by decide) rfl) (by decide) (by decide) g7 g8 g9 (Nat.le_of_ble_eq_true rfl) (by omega) ?_
  generalize eI3 : am_row I2 (q + 3) (va_cpy (I2 (p1 + 3)) (I2 (q + 3)) (Int32.toNatClampNeg 0) (Int32.toNatClampNeg 0) (Int32.toNatClampNeg (I2 p1 6))) = I3
  have h := h I3 eI3.symm
  refine am_aload_n (n := 52) d_Days_copyFrom_51 rfl rfl ?_
  refine am_getR (x := (p1 + 4)) (n := 55) f_Days_19 d_Days_copyFrom_52 rfl rfl hp1 (hw.1 p1 1 3 4 hp1 rfl) ?_
  refine am_iconst (n := 56) d_Days_copyFrom_55 ci_0 rfl ?_
  refine am_aload_n (n := 57) d_Days_copyFrom_56 rfl rfl ?_
  refine am_getR (x := (q + 4)) (n := 60) f_Days_19 d_Days_copyFrom_57 rfl rfl hq (hw.1 q 1 3 4 hq rfl) ?_
  refine am_iconst (n := 61) d_Days_copyFrom_60 ci_0 rfl ?_
  refine am_aload_n (n := 62) d_Days_copyFrom_61 rfl rfl ?_
  refine am_getI (n := 65) f_Days_29 d_Days_copyFrom_62 rfl rfl hp1 ?_
  obtain ⟨g10, h⟩ := h
  obtain ⟨g11, h⟩ := h
  obtain ⟨g12, h⟩ := h
  refine am_copyI2 (n := 68) d_Days_copyFrom_65 rfl la_Days_36 (am_sho (k := 3) (o := 4) hp1 (by decide) (by decide) (by decide) rfl) (am_sho (k := 3) (o := 4) hq (by decide) (by decide) (by decide) rfl) (by decide) (by decide) g10 g11 g12 (Nat.le_of_ble_eq_true rfl) (by omega) ?_
  generalize eI4 : am_row I3 (q + 4) (va_cpy (I3 (p1 + 4)) (I3 (q + 4)) (Int32.toNatClampNeg 0) (Int32.toNatClampNeg 0) (Int32.toNatClampNeg (I3 p1 6))) = I4
  have h := h I4 eI4.symm
  refine am_aload_n (n := 69) d_Days_copyFrom_68 rfl rfl ?_
  refine am_getR (x := (p1 + 5)) (n := 72) f_Days_22 d_Days_copyFrom_69 rfl rfl hp1 (hw.1 p1 1 4 5 hp1 rfl) ?_
  refine am_iconst (n := 73) d_Days_copyFrom_72 ci_0 rfl ?_
  refine am_aload_n (n := 74) d_Days_copyFrom_73 rfl rfl ?_
  refine am_getR (x := (q + 5)) (n := 77) f_Days_22 d_Days_copyFrom_74 rfl rfl hq (hw.1 q 1 4 5 hq rfl) ?_
  refine am_iconst (n := 78) d_Days_copyFrom_77 ci_0 rfl ?_
  refine am_aload_n (n := 79) d_Days_copyFrom_78 rfl rfl ?_
  refine am_getI (n := 82) f_Days_29 d_Days_copyFrom_79 rfl rfl hp1 ?_
  obtain ⟨g13, h⟩ := h
  obtain ⟨g14, h⟩ := h
  obtain ⟨g15, h⟩ := h
  refine am_copyI2 (n := 85) d_Days_copyFrom_82 rfl la_Days_36 (am_sho (k := 4) (o := 5) hp1 (by decide) (by decide) (by decide) rfl) (am_sho (k := 4) (o := 5) hq (by decide) (by decide) (by decide) rfl) (by decide) (by decide) g13 g14 g15 (Nat.le_of_ble_eq_true rfl) (by omega) ?_
  generalize eI5 : am_row I4 (q + 5) (va_cpy (I4 (p1 + 5)) (I4 (q + 5)) (Int32.toNatClampNeg 0) (Int32.toNatClampNeg 0) (Int32.toNatClampNeg (I4 p1 6))) = I5
  have h := h I5 eI5.symm
  refine am_aload_n (n := 86) d_Days_copyFrom_85 rfl rfl ?_
  refine am_aload_n (n := 87) d_Days_copyFrom_86 rfl rfl ?_
  refine am_getZ (n := 90) f_Days_25 d_Days_copyFrom_87 rfl rfl hp1 ?_
  obtain ⟨g16, h⟩ := h
  refine am_putZ (n := 93) f_Days_25 d_Days_copyFrom_90 rfl ⟨_, rfl, Or.inl rfl⟩ rfl rfl hq g16 ?_
  generalize eI6 : am_u2 I5 q 5 (I5 p1 5) = I6
  have h := h I6 eI6.symm
  refine am_aload_n (n := 94) d_Days_copyFrom_93 rfl rfl ?_
  refine am_aload_n (n := 95) d_Days_copyFrom_94 rfl rfl ?_
  refine am_getI (n := 98) f_Days_29 d_Days_copyFrom_95 rfl rfl hp1 ?_
  refine am_putI (n := 101) f_Days_29 d_Days_copyFrom_98 rfl ⟨_, rfl, Or.inl rfl⟩ rfl rfl hq ?_
  generalize eI7 : am_u2 I6 q 6 (I6 p1 6) = I7
  have h := h I7 eI7.symm
  refine am_aload_n (n := 102) d_Days_copyFrom_101 rfl rfl ?_
  refine am_aload_n (n := 103) d_Days_copyFrom_102 rfl rfl ?_
  refine am_getI (n := 106) f_Days_33 d_Days_copyFrom_103 rfl rfl hp1 ?_
  refine am_putI (n := 109) f_Days_33 d_Days_copyFrom_106 rfl ⟨_, rfl, Or.inl rfl⟩ rfl rfl hq ?_
  generalize eI8 : am_u2 I7 q 7 (I7 p1 7) = I8
  have h := h I8 eI8.symm
  exact am_vret d_Days_copyFrom_109 ⟨I8, rfl, rfl, h⟩
abbrev po_Square_copyFrom (R : am_TR) (Q : am_TI → am_TL → Prop) : Option Value → am_St → Prop := fun r σ' => ∃ (I' : am_TI) (L' : am_TL), r = none ∧ σ' = (I', L', R, am_SH) ∧ Q I' L'
def wp_Square_copyFrom (I : am_TI) (L : am_TL) (R : am_TR) (q : Nat) (p1 : Nat)  (Q : am_TI → am_TL → Prop) : Prop := (∀ L1, L1 = am_row L (q + 1) (va_cpy (L (p1 + 1)) (L (q + 1)) (Int32.toNatClampNeg 0) (Int32.toNatClampNeg 0) (Int32.toNatClampNeg 6)) → (∀ I1, I1 = am_row I (q + 2) (va_cpy (I (p1 + 2)) (I (q + 2)) (Int32.toNatClampNeg 0) (Int32.toNatClampNeg 0) (Int32.toNatClampNeg 6)) → (∀ I2, I2 = am_row I1 (q + 3) (va_cpy (I1 (p1 + 3)) (I1 (q + 3)) (Int32.toNatClampNeg 0) (Int32.toNatClampNeg 0) (Int32.toNatClampNeg 6)) → (∀ I3, I3 = am_row I2 (q + 4) (va_cpy (I2 (p1 + 4)) (I2 (q + 4)) (Int32.toNatClampNeg 0) (Int32.toNatClampNeg 0) (Int32.toNatClampNeg 6)) → (∀ I4, I4 = am_row I3 (q + 5) (va_cpy (I3 (p1 + 5)) (I3 (q + 5)) (Int32.toNatClampNeg 0) (Int32.toNatClampNeg 0) (Int32.toNatClampNeg 4)) → wp_Days_copyFrom I4 L1 R (am_rd R q 5) (am_rd R p1 5) (fun (I5 : am_TI) => (∀ I6, I6 = am_u2 I5 q 6 (I5 p1 6) → (∀ I7, I7 = am_u2 I6 q 7 (I6 p1 7) → (∀ I8, I8 = am_u2 I7 q 8 (I7 p1 8) → (∀ I9, I9 = am_u2 I8 q 9 (I8 p1 9) → (∀ I10, I10 = am_u2 I9 q 10 (I9 p1 10) → (∀ I11, I11 = am_u2 I10 q 11 (I10 p1 11) → (∀ I12, I12 = am_u2 I11 q 12 (I11 p1 12) → (∀ I13, I13 = am_u2 I12 q 13 (I12 p1 13) → (∀ I14, I14 = am_u2 I13 q 14 (I13 p1 14) → (∀ I15, I15 = am_u2 I14 q 15 (I14 p1 15) → Q I15 L1))))))))))))))))
set_option maxRecDepth 20000 in
theorem cm_Square_copyFrom {d : Nat} {I : am_TI} {L : am_TL} {R : am_TR}  (hw : am_Wf R)   {q : Nat} {p1 : Nat} {Q : am_TI → am_TL → Prop} (hd : 2 ≤ d) (hq : am_SH[q]? = some (.inl 7)) (hp1 : am_SH[p1]? = some (.inl 7)) (h : wp_Square_copyFrom I L R q p1  Q) : am_Cm d 0 0 y_Square_copyFrom b_Square_copyFrom 2 (none) [.ref q, .ref p1] (I, L, R, am_SH) (po_Square_copyFrom R Q) := by
  refine am_Cm_of (ini := false) (by decide +kernel) (fun z => by cases z) (by simp [Value.category]) (fun r σ' z => by obtain ⟨_, _, rfl, -⟩ := z; rfl) ?_
  unfold wp_Square_copyFrom at h
  show am_Wp (d, "UnseenRing$Square", b_Square_copyFrom, 2, false) 0 0 0 [some (.ref q), some (.ref p1)] [] (I, L, R, am_SH) (po_Square_copyFrom R Q)
  refine am_aload_n (n := 1) d_Square_copyFrom_0 rfl rfl ?_
  refine am_getR (x := (p1 + 1)) (n := 4) f_Square_9 d_Square_copyFrom_1 rfl rfl hp1 (hw.1 p1 7 0 1 hp1 rfl) ?_
  refine am_iconst (n := 5) d_Square_copyFrom_4 ci_0 rfl ?_
  refine am_aload_n (n := 6) d_Square_copyFrom_5 rfl rfl ?_
  refine am_getR (x := (q + 1)) (n := 9) f_Square_9 d_Square_copyFrom_6 rfl rfl hq (hw.1 q 7 0 1 hq rfl) ?_
  refine am_iconst (n := 10) d_Square_copyFrom_9 ci_0 rfl ?_
  refine am_bipush (n := 12) d_Square_copyFrom_10 cb_6 rfl ?_
  refine am_copyL2 (n := 15) d_Square_copyFrom_12 rfl la_Square_69 (am_sho (k := 0) (o := 1) hp1 (by decide) (by decide) (by decide) rfl) (am_sho (k := 0) (o := 1) hq (by decide) (by decide) (by decide) rfl) (by decide) (by decide) (by decide) (by decide) (by decide) (Nat.le_of_ble_eq_true rfl) (by omega) ?_
  generalize eL1 : am_row L (q + 1) (va_cpy (L (p1 + 1)) (L (q + 1)) (Int32.toNatClampNeg 0) (Int32.toNatClampNeg 0) (Int32.toNatClampNeg 6)) = L1
  have h := h L1 eL1.symm
  refine am_aload_n (n := 16) d_Square_copyFrom_15 rfl rfl ?_
  refine am_getR (x := (p1 + 2)) (n := 19) f_Square_15 d_Square_copyFrom_16 rfl rfl hp1 (hw.1 p1 7 1 2 hp1 rfl) ?_
  refine am_iconst (n := 20) d_Square_copyFrom_19 ci_0 rfl ?_
  refine am_aload_n (n := 21) d_Square_copyFrom_20 rfl rfl ?_
  refine am_getR (x := (q + 2)) (n := 24) f_Square_15 d_Square_copyFrom_21 rfl rfl hq (hw.1 q 7 1 2 hq rfl) ?_
  refine am_iconst (n := 25) d_Square_copyFrom_24 ci_0 rfl ?_
  refine am_bipush (n := 27) d_Square_copyFrom_25 cb_6 rfl ?_
  refine am_copyI2 (n := 30) d_Square_copyFrom_27 rfl la_Square_69 (am_sho (k := 1) (o := 2) hp1 (by decide) (by decide) (by decide) rfl) (am_sho (k := 1) (o := 2) hq (by decide) (by decide) (by decide) rfl) (by decide) (by decide) (by decide) (by decide) (by decide) (Nat.le_of_ble_eq_true rfl) (by omega) ?_
  generalize eI1 : am_row I (q + 2) (va_cpy (I (p1 + 2)) (I (q + 2)) (Int32.toNatClampNeg 0) (Int32.toNatClampNeg 0) (Int32.toNatClampNeg 6)) = I1
  have h := h I1 eI1.symm
  refine am_aload_n (n := 31) d_Square_copyFrom_30 rfl rfl ?_
  refine am_getR (x := (p1 + 3)) (n := 34) f_Square_19 d_Square_copyFrom_31 rfl rfl hp1 (hw.1 p1 7 2 3 hp1 rfl) ?_
  refine am_iconst (n := 35) d_Square_copyFrom_34 ci_0 rfl ?_
  refine am_aload_n (n := 36) d_Square_copyFrom_35 rfl rfl ?_
  refine am_getR (x := (q + 3)) (n := 39) f_Square_19 d_Square_copyFrom_36 rfl rfl hq (hw.1 q 7 2 3 hq rfl) ?_
  refine am_iconst (n := 40) d_Square_copyFrom_39 ci_0 rfl ?_
  refine am_bipush (n := 42) d_Square_copyFrom_40 cb_6 rfl ?_
  refine am_copyI2 (n := 45) d_Square_copyFrom_42 rfl la_Square_69 (am_sho (k := 2) (o := 3) hp1 (by decide) (by decide) (by decide) rfl) (am_sho (k := 2) (o := 3) hq (by decide) (by decide) (by decide) rfl) (by decide) (by decide) (by decide) (by decide) (by decide) (Nat.le_of_ble_eq_true rfl) (by omega) ?_
  generalize eI2 : am_row I1 (q + 3) (va_cpy (I1 (p1 + 3)) (I1 (q + 3)) (Int32.toNatClampNeg 0) (Int32.toNatClampNeg 0) (Int32.toNatClampNeg 6)) = I2
  have h := h I2 eI2.symm
  refine am_aload_n (n := 46) d_Square_copyFrom_45 rfl rfl ?_
  refine am_getR (x := (p1 + 4)) (n := 49) f_Square_22 d_Square_copyFrom_46 rfl rfl hp1 (hw.1 p1 7 3 4 hp1 rfl) ?_
  refine am_iconst (n := 50) d_Square_copyFrom_49 ci_0 rfl ?_
  refine am_aload_n (n := 51) d_Square_copyFrom_50 rfl rfl ?_
  refine am_getR (x := (q + 4)) (n := 54) f_Square_22 d_Square_copyFrom_51 rfl rfl hq (hw.1 q 7 3 4 hq rfl) ?_
  refine am_iconst (n := 55) d_Square_copyFrom_54 ci_0 rfl ?_
  refine am_bipush (n := 57) d_Square_copyFrom_55 cb_6 rfl ?_
  refine am_copyI2 (n := 60) d_Square_copyFrom_57 rfl la_Square_69 (am_sho (k := 3) (o := 4) hp1 (by decide) (by decide) (by decide) rfl) (am_sho (k := 3) (o := 4) hq (by decide) (by decide) (by decide) rfl) (by decide) (by decide) (by decide) (by decide) (by decide) (Nat.le_of_ble_eq_true rfl) (by omega) ?_
  generalize eI3 : am_row I2 (q + 4) (va_cpy (I2 (p1 + 4)) (I2 (q + 4)) (Int32.toNatClampNeg 0) (Int32.toNatClampNeg 0) (Int32.toNatClampNeg 6)) = I3
  have h := h I3 eI3.symm
  refine am_aload_n (n := 61) d_Square_copyFrom_60 rfl rfl ?_
  refine am_getR (x := (p1 + 5)) (n := 64) f_Square_25 d_Square_copyFrom_61 rfl rfl hp1 (hw.1 p1 7 4 5 hp1 rfl) ?_
  refine am_iconst (n := 65) d_Square_copyFrom_64 ci_0 rfl ?_
  refine am_aload_n (n := 66) d_Square_copyFrom_65 rfl rfl ?_
  refine am_getR (x := (q + 5)) (n := 69) f_Square_25 d_Square_copyFrom_66 rfl rfl hq (hw.1 q 7 4 5 hq rfl) ?_
  refine am_iconst (n := 70) d_Square_copyFrom_69 ci_0 rfl ?_
  refine am_iconst (n := 71) d_Square_copyFrom_70 ci_4 rfl ?_
  refine am_copyI2 (n := 74) d_Square_copyFrom_71 rfl la_Square_69 (am_sho (k := 4) (o := 5) hp1 (by decide) (by decide) (by decide) rfl) (am_sho (k := 4) (o := 5) hq (by decide) (by decide) (by decide) rfl) (by decide) (by decide) (by decide) (by decide) (by decide) (Nat.le_of_ble_eq_true rfl) (by omega) ?_
  generalize eI4 : am_row I3 (q + 5) (va_cpy (I3 (p1 + 5)) (I3 (q + 5)) (Int32.toNatClampNeg 0) (Int32.toNatClampNeg 0) (Int32.toNatClampNeg 4)) = I4
  have h := h I4 eI4.symm
  refine am_aload_n (n := 75) d_Square_copyFrom_74 rfl rfl ?_
  refine am_getR (x := (am_rd R q 5)) (n := 78) f_Square_31 d_Square_copyFrom_75 rfl rfl hq (hw.rd (k := 5) hq rfl).1 ?_
  refine am_aload_n (n := 79) d_Square_copyFrom_78 rfl rfl ?_
  refine am_getR (x := (am_rd R p1 5)) (n := 82) f_Square_31 d_Square_copyFrom_79 rfl rfl hp1 (hw.rd (k := 5) hp1 rfl).1 ?_
  refine am_callV (kc := 0) (ks := 0) (As := [.ref (am_rd R p1 5)]) (n := 85) d_Square_copyFrom_82 rfl ce_Days_copyFrom lk_Square_75 in_Days_copyFrom rfl rfl (hw.rd (k := 5) hq rfl).2 rfl rfl (Nat.le_of_ble_eq_true rfl) (Or.inl rfl) (cm_Days_copyFrom (d := d - 1) hw (by omega) (hw.rd (k := 5) hq rfl).2 (hw.rd (k := 5) hp1 rfl).2 h) (by omega) ?_
  rintro _ _ ⟨I5, rfl, rfl, h⟩
  show am_Wp (d, "UnseenRing$Square", b_Square_copyFrom, 2, false) 0 0 85 [some (.ref q), some (.ref p1)] [] (I5, L1, R, am_SH) (po_Square_copyFrom R Q)
  refine am_aload_n (n := 86) d_Square_copyFrom_85 rfl rfl ?_
  refine am_aload_n (n := 87) d_Square_copyFrom_86 rfl rfl ?_
  refine am_getI (n := 90) f_Square_35 d_Square_copyFrom_87 rfl rfl hp1 ?_
  refine am_putI (n := 93) f_Square_35 d_Square_copyFrom_90 rfl ⟨_, rfl, Or.inl rfl⟩ rfl rfl hq ?_
  generalize eI6 : am_u2 I5 q 6 (I5 p1 6) = I6
  have h := h I6 eI6.symm
  refine am_aload_n (n := 94) d_Square_copyFrom_93 rfl rfl ?_
  refine am_aload_n (n := 95) d_Square_copyFrom_94 rfl rfl ?_
  refine am_getI (n := 98) f_Square_39 d_Square_copyFrom_95 rfl rfl hp1 ?_
  refine am_putI (n := 101) f_Square_39 d_Square_copyFrom_98 rfl ⟨_, rfl, Or.inl rfl⟩ rfl rfl hq ?_
  generalize eI7 : am_u2 I6 q 7 (I6 p1 7) = I7
  have h := h I7 eI7.symm
  refine am_aload_n (n := 102) d_Square_copyFrom_101 rfl rfl ?_
  refine am_aload_n (n := 103) d_Square_copyFrom_102 rfl rfl ?_
  refine am_getI (n := 106) f_Square_42 d_Square_copyFrom_103 rfl rfl hp1 ?_
  refine am_putI (n := 109) f_Square_42 d_Square_copyFrom_106 rfl ⟨_, rfl, Or.inl rfl⟩ rfl rfl hq ?_
  generalize eI8 : am_u2 I7 q 8 (I7 p1 8) = I8
  have h := h I8 eI8.symm
  refine am_aload_n (n := 110) d_Square_copyFrom_109 rfl rfl ?_
  refine am_aload_n (n := 111) d_Square_copyFrom_110 rfl rfl ?_
  refine am_getI (n := 114) f_Square_45 d_Square_copyFrom_111 rfl rfl hp1 ?_
  refine am_putI (n := 117) f_Square_45 d_Square_copyFrom_114 rfl ⟨_, rfl, Or.inl rfl⟩ rfl rfl hq ?_
  generalize eI9 : am_u2 I8 q 9 (I8 p1 9) = I9
  have h := h I9 eI9.symm
  refine am_aload_n (n := 118) d_Square_copyFrom_117 rfl rfl ?_
  refine am_aload_n (n := 119) d_Square_copyFrom_118 rfl rfl ?_
  refine am_getI (n := 122) f_Square_48 d_Square_copyFrom_119 rfl rfl hp1 ?_
  refine am_putI (n := 125) f_Square_48 d_Square_copyFrom_122 rfl ⟨_, rfl, Or.inl rfl⟩ rfl rfl hq ?_
  generalize eI10 : am_u2 I9 q 10 (I9 p1 10) = I10
  have h := h I10 eI10.symm
  refine am_aload_n (n := 126) d_Square_copyFrom_125 rfl rfl ?_
  refine am_aload_n (n := 127) d_Square_copyFrom_126 rfl rfl ?_
  refine am_getI (n := 130) f_Square_51 d_Square_copyFrom_127 rfl rfl hp1 ?_
  refine am_putI (n := 133) f_Square_51 d_Square_copyFrom_130 rfl ⟨_, rfl, Or.inl rfl⟩ rfl rfl hq ?_
  generalize eI11 : am_u2 I10 q 11 (I10 p1 11) = I11
  have h := h I11 eI11.symm
  refine am_aload_n (n := 134) d_Square_copyFrom_133 rfl rfl ?_
  refine am_aload_n (n := 135) d_Square_copyFrom_134 rfl rfl ?_
  refine am_getI (n := 138) f_Square_54 d_Square_copyFrom_135 rfl rfl hp1 ?_
  refine am_putI (n := 141) f_Square_54 d_Square_copyFrom_138 rfl ⟨_, rfl, Or.inl rfl⟩ rfl rfl hq ?_
  generalize eI12 : am_u2 I11 q 12 (I11 p1 12) = I12
  have h := h I12 eI12.symm
  refine am_aload_n (n := 142) d_Square_copyFrom_141 rfl rfl ?_
  refine am_aload_n (n := 143) d_Square_copyFrom_142 rfl rfl ?_
  refine am_getI (n := 146) f_Square_57 d_Square_copyFrom_143 rfl rfl hp1 ?_
  refine am_putI (n := 149) f_Square_57 d_Square_copyFrom_146 rfl ⟨_, rfl, Or.inl rfl⟩ rfl rfl hq ?_
  generalize eI13 : am_u2 I12 q 13 (I12 p1 13) = I13
  have h := h I13 eI13.symm
  refine am_aload_n (n := 150) d_Square_copyFrom_149 rfl rfl ?_
  refine am_aload_n (n := 151) d_Square_copyFrom_150 rfl rfl ?_
  refine am_getI (n := 154) f_Square_60 d_Square_copyFrom_151 rfl rfl hp1 ?_
  refine am_putI (n := 157) f_Square_60 d_Square_copyFrom_154 rfl ⟨_, rfl, Or.inl rfl⟩ rfl rfl hq ?_
  generalize eI14 : am_u2 I13 q 14 (I13 p1 14) = I14
  have h := h I14 eI14.symm
  refine am_aload_n (n := 158) d_Square_copyFrom_157 rfl rfl ?_
  refine am_aload_n (n := 159) d_Square_copyFrom_158 rfl rfl ?_
  refine am_getI (n := 162) f_Square_63 d_Square_copyFrom_159 rfl rfl hp1 ?_
  refine am_putI (n := 165) f_Square_63 d_Square_copyFrom_162 rfl ⟨_, rfl, Or.inl rfl⟩ rfl rfl hq ?_
  generalize eI15 : am_u2 I14 q 15 (I14 p1 15) = I15
  have h := h I15 eI15.symm
  exact am_vret d_Square_copyFrom_165 ⟨I15, L1, rfl, rfl, h⟩
abbrev po_U_mean (R : am_TR) (Q : Bool → am_TI → am_TL → Prop) : Option Value → am_St → Prop := fun r σ' => ∃ (x : Bool) (I' : am_TI) (L' : am_TL), r = some (.int (am_b x)) ∧ σ' = (I', L', R, am_SH) ∧ Q x I' L'
def wb_U_mean_25 (R : am_TR) (q : Nat) (p1 : Int32) (p2 : Int32) (Q : Bool → am_TI → am_TL → Prop)  (I : am_TI) (L : am_TL) : Prop := wp_U_settled I L R q 1 (fun (r2 : Bool) (I1 : am_TI) => Q r2 I1 L)
set_option maxRecDepth 20000 in
theorem tb_U_mean_25 {d : Nat}  {R : am_TR} {q : Nat} {p1 : Int32} {p2 : Int32} {Q : Bool → am_TI → am_TL → Prop}  (hw : am_Wf R) (hq : am_SH[q]? = some (.inl 11)) (hd : 7 ≤ d) (I : am_TI) (L : am_TL) (h : wb_U_mean_25 R q p1 p2 Q  I L) : am_Wp (d, "UnseenRing", b_U_mean, 6, false) 0 0 25 [some (.ref q), some (.int p1), some (.int p2), none, none, none] [] (I, L, R, am_SH) (po_U_mean R Q) := by
  unfold wb_U_mean_25 at h
  refine am_aload_n (n := 26) d_U_mean_25 rfl rfl ?_
  refine am_iconst (n := 27) d_U_mean_26 ci_1 rfl ?_
  refine am_callV (kc := 0) (ks := 0) (As := [.int 1]) (n := 30) d_U_mean_27 rfl ce_U_settled lk_U_118 in_U_settled rfl rfl hq rfl rfl (Nat.le_of_ble_eq_true rfl) (Or.inl rfl) (cm_U_settled (d := d - 1) hw (by omega) hq h) (by omega) ?_
  rintro _ _ ⟨r2, I1, rfl, rfl, h⟩
  show am_Wp (d, "UnseenRing", b_U_mean, 6, false) 0 0 30 [some (.ref q), some (.int p1), some (.int p2), none, none, none] [.int (am_b r2)] (I1, L, R, am_SH) (po_U_mean R Q)
  exact am_iret d_U_mean_30 ⟨r2, I1, L, rfl, rfl, h⟩
def wl_U_mean_56 (R : am_TR) (q : Nat) (p1 : Int32) (p2 : Int32) (Q : Bool → am_TI → am_TL → Prop)  : Nat → am_TI → am_TL → Int64 → Int32 → Prop
  | 0 => fun _ _ _ _ => False
  | f56 + 1 => fun I L v3 v5 => ((p2 ≤ v5 → wp_U_tellFraction I L R q v3 (Int32.toInt64 p2) (fun (L1 : am_TL) => wp_U_settled I L1 R q 0 (fun (r4 : Bool) (I2 : am_TI) => Q r4 I2 L1))) ∧ (¬ p2 ≤ v5 → wp_Square_copyFrom I L R (am_rd R q 12) (am_rd R q 11) (fun (I3 : am_TI) (L2 : am_TL) => wp_Life_run I3 L2 R (q + 14) (am_rd R q 12) (p1 + v5) (fun (I4 : am_TI) => wl_U_mean_56 R q p1 p2 Q f56 I4 L2 (v3 + (Int32.toInt64 (I4 (am_rd R q 12) 13))) (v5 + 1)))))
set_option maxRecDepth 20000 in
theorem tl_U_mean_56 {d : Nat}  {R : am_TR} {q : Nat} {p1 : Int32} {p2 : Int32} {Q : Bool → am_TI → am_TL → Prop}  (hw : am_Wf R) (hq : am_SH[q]? = some (.inl 11)) (hd : 7 ≤ d) : ∀ (n : Nat) (I : am_TI) (L : am_TL) (v3 : Int64) (v5 : Int32), wl_U_mean_56 R q p1 p2 Q  n I L v3 v5 → am_Wp (d, "UnseenRing", b_U_mean, 6, false) 0 0 56 [some (.ref q), some (.int p1), some (.int p2), some (.long v3), none, some (.int v5)] [] (I, L, R, am_SH) (po_U_mean R Q) := by
  intro n
  induction n with
  | zero => intro I L v3 v5 h; exact h.elim
  | succ n ih =>
    intro I L v3 v5 h
    unfold wl_U_mean_56 at h
    refine am_iload (n := 58) d_U_mean_56 rfl rfl ?_
    refine am_iload_n (n := 59) d_U_mean_58 rfl rfl ?_
    refine am_icmp_ge (tgt := 105) (n := 62) d_U_mean_59 rfl rfl (fun c4 => ?_) (fun c4 => ?_)
    · have h := h.1 c4
      refine am_aload_n (n := 106) d_U_mean_105 rfl rfl ?_
      refine am_lload_n (n := 107) d_U_mean_106 rfl rfl ?_
      refine am_iload_n (n := 108) d_U_mean_107 rfl rfl ?_
      refine am_i2l (n := 109) d_U_mean_108 rfl ?_
      refine am_callV (kc := 0) (ks := 0) (As := [.long v3, .long (Int32.toInt64 p2)]) (n := 112) d_U_mean_109 rfl ce_U_tellFraction lk_U_331 in_U_tellFraction rfl rfl hq rfl rfl (Nat.le_of_ble_eq_true rfl) (Or.inl rfl) (cm_U_tellFraction (d := d - 1) hw (by omega) hq h) (by omega) ?_
      rintro _ _ ⟨L1, rfl, rfl, h⟩
      show am_Wp (d, "UnseenRing", b_U_mean, 6, false) 0 0 112 [some (.ref q), some (.int p1), some (.int p2), some (.long v3), none, some (.int v5)] [] (I, L1, R, am_SH) (po_U_mean R Q)
      refine am_aload_n (n := 113) d_U_mean_112 rfl rfl ?_
      refine am_iconst (n := 114) d_U_mean_113 ci_0 rfl ?_
      refine am_callV (kc := 0) (ks := 0) (As := [.int 0]) (n := 117) d_U_mean_114 rfl ce_U_settled lk_U_118 in_U_settled rfl rfl hq rfl rfl (Nat.le_of_ble_eq_true rfl) (Or.inl rfl) (cm_U_settled (d := d - 1) hw (by omega) hq h) (by omega) ?_
      rintro _ _ ⟨r4, I2, rfl, rfl, h⟩
      show am_Wp (d, "UnseenRing", b_U_mean, 6, false) 0 0 117 [some (.ref q), some (.int p1), some (.int p2), some (.long v3), none, some (.int v5)] [.int (am_b r4)] (I2, L1, R, am_SH) (po_U_mean R Q)
      exact am_iret d_U_mean_117 ⟨r4, I2, L1, rfl, rfl, h⟩
    · have h := h.2 c4
      refine am_aload_n (n := 63) d_U_mean_62 rfl rfl ?_
      refine am_getR (x := (am_rd R q 12)) (n := 66) f_U_85 d_U_mean_63 rfl rfl hq (hw.rd (k := 12) hq rfl).1 ?_
      refine am_aload_n (n := 67) d_U_mean_66 rfl rfl ?_
      refine am_getR (x := (am_rd R q 11)) (n := 70) f_U_81 d_U_mean_67 rfl rfl hq (hw.rd (k := 11) hq rfl).1 ?_
      refine am_callV (kc := 0) (ks := 0) (As := [.ref (am_rd R q 11)]) (n := 73) d_U_mean_70 rfl ce_Square_copyFrom lk_U_405 in_Square_copyFrom rfl rfl (hw.rd (k := 12) hq rfl).2 rfl rfl (Nat.le_of_ble_eq_true rfl) (Or.inl rfl) (cm_Square_copyFrom (d := d - 1) hw (by omega) (hw.rd (k := 12) hq rfl).2 (hw.rd (k := 11) hq rfl).2 h) (by omega) ?_
      rintro _ _ ⟨I3, L2, rfl, rfl, h⟩
      show am_Wp (d, "UnseenRing", b_U_mean, 6, false) 0 0 73 [some (.ref q), some (.int p1), some (.int p2), some (.long v3), none, some (.int v5)] [] (I3, L2, R, am_SH) (po_U_mean R Q)
      refine am_aload_n (n := 74) d_U_mean_73 rfl rfl ?_
      refine am_getR (x := (q + 14)) (n := 77) f_U_49 d_U_mean_74 rfl rfl hq (hw.1 q 11 6 14 hq rfl) ?_
      refine am_aload_n (n := 78) d_U_mean_77 rfl rfl ?_
      refine am_getR (x := (am_rd R q 12)) (n := 81) f_U_85 d_U_mean_78 rfl rfl hq (hw.rd (k := 12) hq rfl).1 ?_
      refine am_iload_n (n := 82) d_U_mean_81 rfl rfl ?_
      refine am_iload (n := 84) d_U_mean_82 rfl rfl ?_
      refine am_iadd (n := 85) d_U_mean_84 rfl ?_
      refine am_callV (kc := 0) (ks := 0) (As := [.ref (am_rd R q 12), .int (p1 + v5)]) (n := 88) d_U_mean_85 rfl ce_Life_run lk_U_394 in_Life_run rfl rfl (am_sho (k := 6) (o := 14) hq (by decide) (by decide) (by decide) rfl) rfl rfl (Nat.le_of_ble_eq_true rfl) (Or.inl rfl) (cm_Life_run (d := d - 1) hw (by omega) (am_sho (k := 6) (o := 14) hq (by decide) (by decide) (by decide) rfl) (hw.rd (k := 12) hq rfl).2 h) (by omega) ?_
      rintro _ _ ⟨I4, rfl, rfl, h⟩
      show am_Wp (d, "UnseenRing", b_U_mean, 6, false) 0 0 88 [some (.ref q), some (.int p1), some (.int p2), some (.long v3), none, some (.int v5)] [] (I4, L2, R, am_SH) (po_U_mean R Q)
      refine am_lload_n (n := 89) d_U_mean_88 rfl rfl ?_
      refine am_aload_n (n := 90) d_U_mean_89 rfl rfl ?_
      refine am_getR (x := (am_rd R q 12)) (n := 93) f_U_85 d_U_mean_90 rfl rfl hq (hw.rd (k := 12) hq rfl).1 ?_
      refine am_getI (n := 96) f_U_408 d_U_mean_93 rfl rfl (hw.rd (k := 12) hq rfl).2 ?_
      refine am_i2l (n := 97) d_U_mean_96 rfl ?_
      refine am_ladd (n := 98) d_U_mean_97 rfl ?_
      refine am_lstore_n (ls' := [some (.ref q), some (.int p1), some (.int p2), some (.long (v3 + (Int32.toInt64 (I4 (am_rd R q 12) 13)))), none, some (.int v5)]) (n := 99) d_U_mean_98 (by decide) rfl rfl ?_
      refine am_iinc (v := v5 + 1) (ls' := [some (.ref q), some (.int p1), some (.int p2), some (.long (v3 + (Int32.toInt64 (I4 (am_rd R q 12) 13)))), none, some (.int (v5 + 1))]) (n := 102) d_U_mean_99 rfl (congrArg _ ci_1) (by decide) rfl rfl ?_
      refine am_goto (tgt := 56) d_U_mean_102 rfl ?_
      exact ih I4 L2 (v3 + (Int32.toInt64 (I4 (am_rd R q 12) 13))) (v5 + 1)  h
def wp_U_mean (I : am_TI) (L : am_TL) (R : am_TR) (q : Nat) (p1 : Int32) (p2 : Int32)  (Q : Bool → am_TI → am_TL → Prop) : Prop := wp_U_within I L R p2 1 20 (fun (r1 : Bool) => ((r1 = false → wb_U_mean_25 R q p1 p2 Q I L) ∧ (r1 = true → wp_U_within I L R p1 0 ((9999 - p2) + 1) (fun (r3 : Bool) => ((r3 = false → wb_U_mean_25 R q p1 p2 Q I L) ∧ (r3 = true → (((I (am_rd R (am_rd R q 11) 5) 5) = 0 → wp_U_settled I L R q 6 (fun (r5 : Bool) (I5 : am_TI) => Q r5 I5 L)) ∧ (¬ (I (am_rd R (am_rd R q 11) 5) 5) = 0 → (∃ z, wl_U_mean_56 R q p1 p2 Q z I L 0 0)))))))))
set_option maxRecDepth 20000 in
theorem cm_U_mean {d : Nat} {I : am_TI} {L : am_TL} {R : am_TR}  (hw : am_Wf R)   {q : Nat} {p1 : Int32} {p2 : Int32} {Q : Bool → am_TI → am_TL → Prop} (hd : 7 ≤ d) (hq : am_SH[q]? = some (.inl 11)) (h : wp_U_mean I L R q p1 p2  Q) : am_Cm d 0 0 y_U_mean b_U_mean 6 (some .boolean) [.ref q, .int p1, .int p2] (I, L, R, am_SH) (po_U_mean R Q) := by
  refine am_Cm_of (ini := false) (by decide +kernel) (fun z => by cases z) (by simp [Value.category]) (fun r σ' z => by obtain ⟨x, _, _, rfl, -⟩ := z; exact ⟨_, rfl, am_b_nar x⟩) ?_
  unfold wp_U_mean at h
  show am_Wp (d, "UnseenRing", b_U_mean, 6, false) 0 0 0 [some (.ref q), some (.int p1), some (.int p2), none, none, none] [] (I, L, R, am_SH) (po_U_mean R Q)
  refine am_iload_n (n := 1) d_U_mean_0 rfl rfl ?_
  refine am_iconst (n := 2) d_U_mean_1 ci_1 rfl ?_
  refine am_bipush (n := 4) d_U_mean_2 cb_20 rfl ?_
  refine am_callS (kc := 0) (ks := 0) (As := [.int p2, .int 1, .int 20]) (n := 7) d_U_mean_4 rfl ce_U_within lk_U_114 st_U_within rfl rfl (Nat.le_of_ble_eq_true rfl) (Or.inl rfl) (cm_U_within (d := d - 1) hw (by omega)  h) (by omega) ?_
  rintro _ _ ⟨r1, rfl, rfl, h⟩
  show am_Wp (d, "UnseenRing", b_U_mean, 6, false) 0 0 7 [some (.ref q), some (.int p1), some (.int p2), none, none, none] [.int (am_b r1)] (I, L, R, am_SH) (po_U_mean R Q)
  refine am_if_eq (y := 0) (tgt := 25) (n := 10) d_U_mean_7 rfl rfl (fun c1 => ?_) (fun c1 => ?_)
  · have h := h.1 (am_b_0 c1)
    exact tb_U_mean_25 hw hq hd I L h
  · have h := h.2 (am_b_n0 c1)
    refine am_iload_n (n := 11) d_U_mean_10 rfl rfl ?_
    refine am_iconst (n := 12) d_U_mean_11 ci_0 rfl ?_
    refine am_sipush (n := 15) d_U_mean_12 cs_9999 rfl ?_
    refine am_iload_n (n := 16) d_U_mean_15 rfl rfl ?_
    refine am_isub (n := 17) d_U_mean_16 rfl ?_
    refine am_iconst (n := 18) d_U_mean_17 ci_1 rfl ?_
    refine am_iadd (n := 19) d_U_mean_18 rfl ?_
    refine am_callS (kc := 0) (ks := 0) (As := [.int p1, .int 0, .int ((9999 - p2) + 1)]) (n := 22) d_U_mean_19 rfl ce_U_within lk_U_114 st_U_within rfl rfl (Nat.le_of_ble_eq_true rfl) (Or.inl rfl) (cm_U_within (d := d - 1) hw (by omega)  h) (by omega) ?_
    rintro _ _ ⟨r3, rfl, rfl, h⟩
    show am_Wp (d, "UnseenRing", b_U_mean, 6, false) 0 0 22 [some (.ref q), some (.int p1), some (.int p2), none, none, none] [.int (am_b r3)] (I, L, R, am_SH) (po_U_mean R Q)
    refine am_if_ne (y := 0) (tgt := 31) (n := 25) d_U_mean_22 rfl rfl (fun c2 => ?_) (fun c2 => ?_)
    · have h := h.2 (am_b_n0 c2)
      refine am_aload_n (n := 32) d_U_mean_31 rfl rfl ?_
      refine am_getR (x := (am_rd R q 11)) (n := 35) f_U_81 d_U_mean_32 rfl rfl hq (hw.rd (k := 11) hq rfl).1 ?_
      refine am_getR (x := (am_rd R (am_rd R q 11) 5)) (n := 38) f_U_190 d_U_mean_35 rfl rfl (hw.rd (k := 11) hq rfl).2 (hw.rd (k := 5) (hw.rd (k := 11) hq rfl).2 rfl).1 ?_
      refine am_getZ (n := 41) f_U_390 d_U_mean_38 rfl rfl (hw.rd (k := 5) (hw.rd (k := 11) hq rfl).2 rfl).2 ?_
      refine am_if_ne (y := 0) (tgt := 51) (n := 44) d_U_mean_41 rfl rfl (fun c3 => ?_) (fun c3 => ?_)
      · have h := h.2 c3
        refine am_lconst (v := 0) (n := 52) d_U_mean_51 rfl rfl ?_
        refine am_lstore_n (ls' := [some (.ref q), some (.int p1), some (.int p2), some (.long 0), none, none]) (n := 53) d_U_mean_52 (by decide) rfl rfl ?_
        refine am_iconst (n := 54) d_U_mean_53 ci_0 rfl ?_
        refine am_istore (ls' := [some (.ref q), some (.int p1), some (.int p2), some (.long 0), none, some (.int 0)]) (n := 56) d_U_mean_54 (by decide) rfl rfl ?_
        obtain ⟨n, h⟩ := h
        exact tl_U_mean_56 hw hq hd n I L 0 0 h
      · have h := h.1 c3
        refine am_aload_n (n := 45) d_U_mean_44 rfl rfl ?_
        refine am_bipush (n := 47) d_U_mean_45 cb_6 rfl ?_
        refine am_callV (kc := 0) (ks := 0) (As := [.int 6]) (n := 50) d_U_mean_47 rfl ce_U_settled lk_U_118 in_U_settled rfl rfl hq rfl rfl (Nat.le_of_ble_eq_true rfl) (Or.inl rfl) (cm_U_settled (d := d - 1) hw (by omega) hq h) (by omega) ?_
        rintro _ _ ⟨r5, I5, rfl, rfl, h⟩
        show am_Wp (d, "UnseenRing", b_U_mean, 6, false) 0 0 50 [some (.ref q), some (.int p1), some (.int p2), none, none, none] [.int (am_b r5)] (I5, L, R, am_SH) (po_U_mean R Q)
        exact am_iret d_U_mean_50 ⟨r5, I5, L, rfl, rfl, h⟩
    · have h := h.1 (am_b_0 c2)
      exact tb_U_mean_25 hw hq hd I L h
