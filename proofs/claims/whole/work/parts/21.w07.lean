abbrev po_U_play (L : am_TL) (R : am_TR) (Q : Int32 → am_TI → Prop) : Option Value → am_St → Prop := fun r σ' => ∃ (x : Int32) (I' : am_TI), r = some (.int x) ∧ σ' = (I', L, R, am_SH) ∧ Q x I'
def wp_U_play (I : am_TI) (L : am_TL) (R : am_TR) (q : Nat) (p1 : Int32)  (Q : Int32 → am_TI → Prop) : Prop := wp_Square_hasTune I L R (am_rd R q 11) p1 (fun (r1 : Bool) => ((r1 = false → wp_U_refused I L R q 1 (fun (r4 : Int32) (I3 : am_TI) => Q r4 I3)) ∧ (r1 = true → wp_Square_playTune I L R (am_rd R q 11) p1 (fun (r2 : Int32) (I1 : am_TI) => wp_U_answeredIfItCanBe I1 L R q r2 (fun (r3 : Int32) (I2 : am_TI) => Q r3 I2)))))
set_option maxRecDepth 20000 in
theorem cm_U_play {d : Nat} {I : am_TI} {L : am_TL} {R : am_TR}  (hw : am_Wf R)   {q : Nat} {p1 : Int32} {Q : Int32 → am_TI → Prop} (hd : 3 ≤ d) (hq : am_SH[q]? = some (.inl 11)) (h : wp_U_play I L R q p1  Q) : am_Cm d 0 0 y_U_play b_U_play 2 (some .int) [.ref q, .int p1] (I, L, R, am_SH) (po_U_play L R Q) := by
  refine am_Cm_of (ini := false) (by decide +kernel) (fun z => by cases z) (by simp [Value.category]) (fun r σ' z => by obtain ⟨x, _, rfl, -⟩ := z; exact ⟨_, rfl, rfl⟩) ?_
  unfold wp_U_play at h
  show am_Wp (d, "UnseenRing", b_U_play, 2, false) 0 0 0 [some (.ref q), some (.int p1)] [] (I, L, R, am_SH) (po_U_play L R Q)
  refine am_aload_n (n := 1) d_U_play_0 rfl rfl ?_
  refine am_getR (x := (am_rd R q 11)) (n := 4) f_U_81 d_U_play_1 rfl rfl hq (hw.rd (k := 11) hq rfl).1 ?_
  refine am_iload_n (n := 5) d_U_play_4 rfl rfl ?_
  refine am_callV (kc := 0) (ks := 0) (As := [.int p1]) (n := 8) d_U_play_5 rfl ce_Square_hasTune lk_U_236 in_Square_hasTune rfl rfl (hw.rd (k := 11) hq rfl).2 rfl rfl (Nat.le_of_ble_eq_true rfl) (Or.inl rfl) (cm_Square_hasTune (d := d - 1) hw (by omega) (hw.rd (k := 11) hq rfl).2 h) (by omega) ?_
  rintro _ _ ⟨r1, rfl, rfl, h⟩
  show am_Wp (d, "UnseenRing", b_U_play, 2, false) 0 0 8 [some (.ref q), some (.int p1)] [.int (am_b r1)] (I, L, R, am_SH) (po_U_play L R Q)
  refine am_if_ne (y := 0) (tgt := 17) (n := 11) d_U_play_8 rfl rfl (fun c1 => ?_) (fun c1 => ?_)
  · have h := h.2 (am_b_n0 c1)
    refine am_aload_n (n := 18) d_U_play_17 rfl rfl ?_
    refine am_aload_n (n := 19) d_U_play_18 rfl rfl ?_
    refine am_getR (x := (am_rd R q 11)) (n := 22) f_U_81 d_U_play_19 rfl rfl hq (hw.rd (k := 11) hq rfl).1 ?_
    refine am_iload_n (n := 23) d_U_play_22 rfl rfl ?_
    refine am_callV (kc := 0) (ks := 0) (As := [.int p1]) (n := 26) d_U_play_23 rfl ce_Square_playTune lk_U_242 in_Square_playTune rfl rfl (hw.rd (k := 11) hq rfl).2 rfl rfl (Nat.le_of_ble_eq_true rfl) (Or.inl rfl) (cm_Square_playTune (d := d - 1) hw (by omega) (hw.rd (k := 11) hq rfl).2 h) (by omega) ?_
    rintro _ _ ⟨r2, I1, rfl, rfl, h⟩
    show am_Wp (d, "UnseenRing", b_U_play, 2, false) 0 0 26 [some (.ref q), some (.int p1)] [.int r2, .ref q] (I1, L, R, am_SH) (po_U_play L R Q)
    refine am_callV (kc := 0) (ks := 0) (As := [.int r2]) (n := 29) d_U_play_26 rfl ce_U_answeredIfItCanBe lk_U_245 in_U_answeredIfItCanBe rfl rfl hq rfl rfl (Nat.le_of_ble_eq_true rfl) (Or.inl rfl) (cm_U_answeredIfItCanBe (d := d - 1) hw (by omega) hq h) (by omega) ?_
    rintro _ _ ⟨r3, I2, rfl, rfl, h⟩
    show am_Wp (d, "UnseenRing", b_U_play, 2, false) 0 0 29 [some (.ref q), some (.int p1)] [.int r3] (I2, L, R, am_SH) (po_U_play L R Q)
    exact am_iret d_U_play_29 ⟨r3, I2, rfl, rfl, h⟩
  · have h := h.1 (am_b_0 c1)
    refine am_aload_n (n := 12) d_U_play_11 rfl rfl ?_
    refine am_iconst (n := 13) d_U_play_12 ci_1 rfl ?_
    refine am_callV (kc := 0) (ks := 0) (As := [.int 1]) (n := 16) d_U_play_13 rfl ce_U_refused lk_U_133 in_U_refused rfl rfl hq rfl rfl (Nat.le_of_ble_eq_true rfl) (Or.inl rfl) (cm_U_refused (d := d - 1) hw (by omega) hq h) (by omega) ?_
    rintro _ _ ⟨r4, I3, rfl, rfl, h⟩
    show am_Wp (d, "UnseenRing", b_U_play, 2, false) 0 0 16 [some (.ref q), some (.int p1)] [.int r4] (I3, L, R, am_SH) (po_U_play L R Q)
    exact am_iret d_U_play_16 ⟨r4, I3, rfl, rfl, h⟩
abbrev po_Square_moveOrgan (L : am_TL) (R : am_TR) (Q : Int32 → am_TI → Prop) : Option Value → am_St → Prop := fun r σ' => ∃ (x : Int32) (I' : am_TI), r = some (.int x) ∧ σ' = (I', L, R, am_SH) ∧ Q x I'
def wp_Square_moveOrgan (I : am_TI) (L : am_TL) (R : am_TR) (q : Nat) (p1 : Int32)  (Q : Int32 → am_TI → Prop) : Prop := (((I q 9) = p1 → Q (-1) I) ∧ (¬ (I q 9) = p1 → wp_Square_far I L R q (I q 9) p1 (fun (r1 : Int32) => (∀ I1, I1 = am_u2 I q 9 p1 → Q r1 I1))))
set_option maxRecDepth 20000 in
theorem cm_Square_moveOrgan {d : Nat} {I : am_TI} {L : am_TL} {R : am_TR}  (hw : am_Wf R)   {q : Nat} {p1 : Int32} {Q : Int32 → am_TI → Prop} (hd : 2 ≤ d) (hq : am_SH[q]? = some (.inl 7)) (h : wp_Square_moveOrgan I L R q p1  Q) : am_Cm d 0 0 y_Square_moveOrgan b_Square_moveOrgan 3 (some .int) [.ref q, .int p1] (I, L, R, am_SH) (po_Square_moveOrgan L R Q) := by
  refine am_Cm_of (ini := false) (by decide +kernel) (fun z => by cases z) (by simp [Value.category]) (fun r σ' z => by obtain ⟨x, _, rfl, -⟩ := z; exact ⟨_, rfl, rfl⟩) ?_
  unfold wp_Square_moveOrgan at h
  show am_Wp (d, "UnseenRing$Square", b_Square_moveOrgan, 3, false) 0 0 0 [some (.ref q), some (.int p1), none] [] (I, L, R, am_SH) (po_Square_moveOrgan L R Q)
  refine am_aload_n (n := 1) d_Square_moveOrgan_0 rfl rfl ?_
  refine am_getI (n := 4) f_Square_45 d_Square_moveOrgan_1 rfl rfl hq ?_
  refine am_iload_n (n := 5) d_Square_moveOrgan_4 rfl rfl ?_
  refine am_icmp_ne (tgt := 10) (n := 8) d_Square_moveOrgan_5 rfl rfl (fun c1 => ?_) (fun c1 => ?_)
  · have h := h.2 c1
    refine am_aload_n (n := 11) d_Square_moveOrgan_10 rfl rfl ?_
    refine am_aload_n (n := 12) d_Square_moveOrgan_11 rfl rfl ?_
    refine am_getI (n := 15) f_Square_45 d_Square_moveOrgan_12 rfl rfl hq ?_
    refine am_iload_n (n := 16) d_Square_moveOrgan_15 rfl rfl ?_
    refine am_callV (kc := 0) (ks := 0) (As := [.int (I q 9), .int p1]) (n := 19) d_Square_moveOrgan_16 rfl ce_Square_far lk_Square_103 in_Square_far rfl rfl hq rfl rfl (Nat.le_of_ble_eq_true rfl) (Or.inl rfl) (cm_Square_far (d := d - 1) hw (by omega) hq h) (by omega) ?_
    rintro _ _ ⟨r1, rfl, rfl, h⟩
    show am_Wp (d, "UnseenRing$Square", b_Square_moveOrgan, 3, false) 0 0 19 [some (.ref q), some (.int p1), none] [.int r1] (I, L, R, am_SH) (po_Square_moveOrgan L R Q)
    refine am_istore_n (ls' := [some (.ref q), some (.int p1), some (.int r1)]) (n := 20) d_Square_moveOrgan_19 (by decide) rfl rfl ?_
    refine am_aload_n (n := 21) d_Square_moveOrgan_20 rfl rfl ?_
    refine am_iload_n (n := 22) d_Square_moveOrgan_21 rfl rfl ?_
    refine am_putI (n := 25) f_Square_45 d_Square_moveOrgan_22 rfl ⟨_, rfl, Or.inl rfl⟩ rfl rfl hq ?_
    generalize eI1 : am_u2 I q 9 p1 = I1
    have h := h I1 eI1.symm
    refine am_iload_n (n := 26) d_Square_moveOrgan_25 rfl rfl ?_
    exact am_iret d_Square_moveOrgan_26 ⟨r1, I1, rfl, rfl, h⟩
  · have h := h.1 c1
    refine am_iconst (n := 9) d_Square_moveOrgan_8 ci_m1 rfl ?_
    exact am_iret d_Square_moveOrgan_9 ⟨(-1), I, rfl, rfl, h⟩
abbrev po_U_grind (L : am_TL) (R : am_TR) (Q : Int32 → am_TI → Prop) : Option Value → am_St → Prop := fun r σ' => ∃ (x : Int32) (I' : am_TI), r = some (.int x) ∧ σ' = (I', L, R, am_SH) ∧ Q x I'
def wp_U_grind (I : am_TI) (L : am_TL) (R : am_TR) (q : Nat) (p1 : Int32)  (Q : Int32 → am_TI → Prop) : Prop := wp_Square_hasCell I L R (am_rd R q 11) p1 (fun (r1 : Bool) => ((r1 = false → wp_U_refused I L R q 1 (fun (r4 : Int32) (I3 : am_TI) => Q r4 I3)) ∧ (r1 = true → wp_Square_moveOrgan I L R (am_rd R q 11) p1 (fun (r2 : Int32) (I1 : am_TI) => wp_U_answeredIfItCanBe I1 L R q r2 (fun (r3 : Int32) (I2 : am_TI) => Q r3 I2)))))
set_option maxRecDepth 20000 in
theorem cm_U_grind {d : Nat} {I : am_TI} {L : am_TL} {R : am_TR}  (hw : am_Wf R)   {q : Nat} {p1 : Int32} {Q : Int32 → am_TI → Prop} (hd : 3 ≤ d) (hq : am_SH[q]? = some (.inl 11)) (h : wp_U_grind I L R q p1  Q) : am_Cm d 0 0 y_U_grind b_U_grind 2 (some .int) [.ref q, .int p1] (I, L, R, am_SH) (po_U_grind L R Q) := by
  refine am_Cm_of (ini := false) (by decide +kernel) (fun z => by cases z) (by simp [Value.category]) (fun r σ' z => by obtain ⟨x, _, rfl, -⟩ := z; exact ⟨_, rfl, rfl⟩) ?_
  unfold wp_U_grind at h
  show am_Wp (d, "UnseenRing", b_U_grind, 2, false) 0 0 0 [some (.ref q), some (.int p1)] [] (I, L, R, am_SH) (po_U_grind L R Q)
  refine am_aload_n (n := 1) d_U_grind_0 rfl rfl ?_
  refine am_getR (x := (am_rd R q 11)) (n := 4) f_U_81 d_U_grind_1 rfl rfl hq (hw.rd (k := 11) hq rfl).1 ?_
  refine am_iload_n (n := 5) d_U_grind_4 rfl rfl ?_
  refine am_callV (kc := 0) (ks := 0) (As := [.int p1]) (n := 8) d_U_grind_5 rfl ce_Square_hasCell lk_U_221 in_Square_hasCell rfl rfl (hw.rd (k := 11) hq rfl).2 rfl rfl (Nat.le_of_ble_eq_true rfl) (Or.inl rfl) (cm_Square_hasCell (d := d - 1) hw (by omega) (hw.rd (k := 11) hq rfl).2 h) (by omega) ?_
  rintro _ _ ⟨r1, rfl, rfl, h⟩
  show am_Wp (d, "UnseenRing", b_U_grind, 2, false) 0 0 8 [some (.ref q), some (.int p1)] [.int (am_b r1)] (I, L, R, am_SH) (po_U_grind L R Q)
  refine am_if_ne (y := 0) (tgt := 17) (n := 11) d_U_grind_8 rfl rfl (fun c1 => ?_) (fun c1 => ?_)
  · have h := h.2 (am_b_n0 c1)
    refine am_aload_n (n := 18) d_U_grind_17 rfl rfl ?_
    refine am_aload_n (n := 19) d_U_grind_18 rfl rfl ?_
    refine am_getR (x := (am_rd R q 11)) (n := 22) f_U_81 d_U_grind_19 rfl rfl hq (hw.rd (k := 11) hq rfl).1 ?_
    refine am_iload_n (n := 23) d_U_grind_22 rfl rfl ?_
    refine am_callV (kc := 0) (ks := 0) (As := [.int p1]) (n := 26) d_U_grind_23 rfl ce_Square_moveOrgan lk_U_248 in_Square_moveOrgan rfl rfl (hw.rd (k := 11) hq rfl).2 rfl rfl (Nat.le_of_ble_eq_true rfl) (Or.inl rfl) (cm_Square_moveOrgan (d := d - 1) hw (by omega) (hw.rd (k := 11) hq rfl).2 h) (by omega) ?_
    rintro _ _ ⟨r2, I1, rfl, rfl, h⟩
    show am_Wp (d, "UnseenRing", b_U_grind, 2, false) 0 0 26 [some (.ref q), some (.int p1)] [.int r2, .ref q] (I1, L, R, am_SH) (po_U_grind L R Q)
    refine am_callV (kc := 0) (ks := 0) (As := [.int r2]) (n := 29) d_U_grind_26 rfl ce_U_answeredIfItCanBe lk_U_245 in_U_answeredIfItCanBe rfl rfl hq rfl rfl (Nat.le_of_ble_eq_true rfl) (Or.inl rfl) (cm_U_answeredIfItCanBe (d := d - 1) hw (by omega) hq h) (by omega) ?_
    rintro _ _ ⟨r3, I2, rfl, rfl, h⟩
    show am_Wp (d, "UnseenRing", b_U_grind, 2, false) 0 0 29 [some (.ref q), some (.int p1)] [.int r3] (I2, L, R, am_SH) (po_U_grind L R Q)
    exact am_iret d_U_grind_29 ⟨r3, I2, rfl, rfl, h⟩
  · have h := h.1 (am_b_0 c1)
    refine am_aload_n (n := 12) d_U_grind_11 rfl rfl ?_
    refine am_iconst (n := 13) d_U_grind_12 ci_1 rfl ?_
    refine am_callV (kc := 0) (ks := 0) (As := [.int 1]) (n := 16) d_U_grind_13 rfl ce_U_refused lk_U_133 in_U_refused rfl rfl hq rfl rfl (Nat.le_of_ble_eq_true rfl) (Or.inl rfl) (cm_U_refused (d := d - 1) hw (by omega) hq h) (by omega) ?_
    rintro _ _ ⟨r4, I3, rfl, rfl, h⟩
    show am_Wp (d, "UnseenRing", b_U_grind, 2, false) 0 0 16 [some (.ref q), some (.int p1)] [.int r4] (I3, L, R, am_SH) (po_U_grind L R Q)
    exact am_iret d_U_grind_16 ⟨r4, I3, rfl, rfl, h⟩
abbrev po_Square_flour (L : am_TL) (R : am_TR) (Q : Int32 → am_TI → Prop) : Option Value → am_St → Prop := fun r σ' => ∃ (x : Int32) (I' : am_TI), r = some (.int x) ∧ σ' = (I', L, R, am_SH) ∧ Q x I'
def wp_Square_flour (I : am_TI) (L : am_TL) (R : am_TR) (q : Nat) (p1 : Int32)  (Q : Int32 → am_TI → Prop) : Prop := wp_Square_hearersNear I L R q p1 1 (fun (r1 : Int32) => (∀ I1, I1 = am_u2 I q 15 ((I q 15) ||| r1) → ((r1 = 0 → Q (-1) I1) ∧ (¬ r1 = 0 → Q r1 I1))))
set_option maxRecDepth 20000 in
theorem cm_Square_flour {d : Nat} {I : am_TI} {L : am_TL} {R : am_TR}  (hw : am_Wf R)   {q : Nat} {p1 : Int32} {Q : Int32 → am_TI → Prop} (hd : 3 ≤ d) (hq : am_SH[q]? = some (.inl 7)) (h : wp_Square_flour I L R q p1  Q) : am_Cm d 0 0 y_Square_flour b_Square_flour 3 (some .int) [.ref q, .int p1] (I, L, R, am_SH) (po_Square_flour L R Q) := by
  refine am_Cm_of (ini := false) (by decide +kernel) (fun z => by cases z) (by simp [Value.category]) (fun r σ' z => by obtain ⟨x, _, rfl, -⟩ := z; exact ⟨_, rfl, rfl⟩) ?_
  unfold wp_Square_flour at h
  show am_Wp (d, "UnseenRing$Square", b_Square_flour, 3, false) 0 0 0 [some (.ref q), some (.int p1), none] [] (I, L, R, am_SH) (po_Square_flour L R Q)
  refine am_aload_n (n := 1) d_Square_flour_0 rfl rfl ?_
  refine am_iload_n (n := 2) d_Square_flour_1 rfl rfl ?_
  refine am_iconst (n := 3) d_Square_flour_2 ci_1 rfl ?_
  refine am_callV (kc := 0) (ks := 0) (As := [.int p1, .int 1]) (n := 6) d_Square_flour_3 rfl ce_Square_hearersNear lk_Square_107 in_Square_hearersNear rfl rfl hq rfl rfl (Nat.le_of_ble_eq_true rfl) (Or.inl rfl) (cm_Square_hearersNear (d := d - 1) hw (by omega) hq h) (by omega) ?_
  rintro _ _ ⟨r1, rfl, rfl, h⟩
  show am_Wp (d, "UnseenRing$Square", b_Square_flour, 3, false) 0 0 6 [some (.ref q), some (.int p1), none] [.int r1] (I, L, R, am_SH) (po_Square_flour L R Q)
  refine am_istore_n (ls' := [some (.ref q), some (.int p1), some (.int r1)]) (n := 7) d_Square_flour_6 (by decide) rfl rfl ?_
  refine am_aload_n (n := 8) d_Square_flour_7 rfl rfl ?_
  refine am_dup (n := 9) d_Square_flour_8 rfl rfl ?_
  refine am_getI (n := 12) f_Square_63 d_Square_flour_9 rfl rfl hq ?_
  refine am_iload_n (n := 13) d_Square_flour_12 rfl rfl ?_
  refine am_ior (n := 14) d_Square_flour_13 rfl ?_
  refine am_putI (n := 17) f_Square_63 d_Square_flour_14 rfl ⟨_, rfl, Or.inl rfl⟩ rfl rfl hq ?_
  generalize eI1 : am_u2 I q 15 ((I q 15) ||| r1) = I1
  have h := h I1 eI1.symm
  refine am_iload_n (n := 18) d_Square_flour_17 rfl rfl ?_
  refine am_if_ne (y := 0) (tgt := 25) (n := 21) d_Square_flour_18 rfl rfl (fun c1 => ?_) (fun c1 => ?_)
  · have h := h.2 c1
    refine am_iload_n (n := 26) d_Square_flour_25 rfl rfl ?_
    exact am_iret d_Square_flour_26 ⟨r1, I1, rfl, rfl, h⟩
  · have h := h.1 c1
    refine am_iconst (n := 22) d_Square_flour_21 ci_m1 rfl ?_
    refine am_goto (tgt := 26) d_Square_flour_22 rfl ?_
    exact am_iret d_Square_flour_26 ⟨(-1), I1, rfl, rfl, h⟩
abbrev po_U_throwAt (L : am_TL) (R : am_TR) (Q : Int32 → am_TI → Prop) : Option Value → am_St → Prop := fun r σ' => ∃ (x : Int32) (I' : am_TI), r = some (.int x) ∧ σ' = (I', L, R, am_SH) ∧ Q x I'
def wp_U_throwAt (I : am_TI) (L : am_TL) (R : am_TR) (q : Nat) (p1 : Int32)  (Q : Int32 → am_TI → Prop) : Prop := wp_Square_hasCell I L R (am_rd R q 11) p1 (fun (r1 : Bool) => ((r1 = false → wp_U_refused I L R q 1 (fun (r4 : Int32) (I3 : am_TI) => Q r4 I3)) ∧ (r1 = true → wp_Square_flour I L R (am_rd R q 11) p1 (fun (r2 : Int32) (I1 : am_TI) => wp_U_answeredIfItCanBe I1 L R q r2 (fun (r3 : Int32) (I2 : am_TI) => Q r3 I2)))))
set_option maxRecDepth 20000 in
theorem cm_U_throwAt {d : Nat} {I : am_TI} {L : am_TL} {R : am_TR}  (hw : am_Wf R)   {q : Nat} {p1 : Int32} {Q : Int32 → am_TI → Prop} (hd : 4 ≤ d) (hq : am_SH[q]? = some (.inl 11)) (h : wp_U_throwAt I L R q p1  Q) : am_Cm d 0 0 y_U_throwAt b_U_throwAt 2 (some .int) [.ref q, .int p1] (I, L, R, am_SH) (po_U_throwAt L R Q) := by
  refine am_Cm_of (ini := false) (by decide +kernel) (fun z => by cases z) (by simp [Value.category]) (fun r σ' z => by obtain ⟨x, _, rfl, -⟩ := z; exact ⟨_, rfl, rfl⟩) ?_
  unfold wp_U_throwAt at h
  show am_Wp (d, "UnseenRing", b_U_throwAt, 2, false) 0 0 0 [some (.ref q), some (.int p1)] [] (I, L, R, am_SH) (po_U_throwAt L R Q)
  refine am_aload_n (n := 1) d_U_throwAt_0 rfl rfl ?_
  refine am_getR (x := (am_rd R q 11)) (n := 4) f_U_81 d_U_throwAt_1 rfl rfl hq (hw.rd (k := 11) hq rfl).1 ?_
  refine am_iload_n (n := 5) d_U_throwAt_4 rfl rfl ?_
  refine am_callV (kc := 0) (ks := 0) (As := [.int p1]) (n := 8) d_U_throwAt_5 rfl ce_Square_hasCell lk_U_221 in_Square_hasCell rfl rfl (hw.rd (k := 11) hq rfl).2 rfl rfl (Nat.le_of_ble_eq_true rfl) (Or.inl rfl) (cm_Square_hasCell (d := d - 1) hw (by omega) (hw.rd (k := 11) hq rfl).2 h) (by omega) ?_
  rintro _ _ ⟨r1, rfl, rfl, h⟩
  show am_Wp (d, "UnseenRing", b_U_throwAt, 2, false) 0 0 8 [some (.ref q), some (.int p1)] [.int (am_b r1)] (I, L, R, am_SH) (po_U_throwAt L R Q)
  refine am_if_ne (y := 0) (tgt := 17) (n := 11) d_U_throwAt_8 rfl rfl (fun c1 => ?_) (fun c1 => ?_)
  · have h := h.2 (am_b_n0 c1)
    refine am_aload_n (n := 18) d_U_throwAt_17 rfl rfl ?_
    refine am_aload_n (n := 19) d_U_throwAt_18 rfl rfl ?_
    refine am_getR (x := (am_rd R q 11)) (n := 22) f_U_81 d_U_throwAt_19 rfl rfl hq (hw.rd (k := 11) hq rfl).1 ?_
    refine am_iload_n (n := 23) d_U_throwAt_22 rfl rfl ?_
    refine am_callV (kc := 0) (ks := 0) (As := [.int p1]) (n := 26) d_U_throwAt_23 rfl ce_Square_flour lk_U_251 in_Square_flour rfl rfl (hw.rd (k := 11) hq rfl).2 rfl rfl (Nat.le_of_ble_eq_true rfl) (Or.inl rfl) (cm_Square_flour (d := d - 1) hw (by omega) (hw.rd (k := 11) hq rfl).2 h) (by omega) ?_
    rintro _ _ ⟨r2, I1, rfl, rfl, h⟩
    show am_Wp (d, "UnseenRing", b_U_throwAt, 2, false) 0 0 26 [some (.ref q), some (.int p1)] [.int r2, .ref q] (I1, L, R, am_SH) (po_U_throwAt L R Q)
    refine am_callV (kc := 0) (ks := 0) (As := [.int r2]) (n := 29) d_U_throwAt_26 rfl ce_U_answeredIfItCanBe lk_U_245 in_U_answeredIfItCanBe rfl rfl hq rfl rfl (Nat.le_of_ble_eq_true rfl) (Or.inl rfl) (cm_U_answeredIfItCanBe (d := d - 1) hw (by omega) hq h) (by omega) ?_
    rintro _ _ ⟨r3, I2, rfl, rfl, h⟩
    show am_Wp (d, "UnseenRing", b_U_throwAt, 2, false) 0 0 29 [some (.ref q), some (.int p1)] [.int r3] (I2, L, R, am_SH) (po_U_throwAt L R Q)
    exact am_iret d_U_throwAt_29 ⟨r3, I2, rfl, rfl, h⟩
  · have h := h.1 (am_b_0 c1)
    refine am_aload_n (n := 12) d_U_throwAt_11 rfl rfl ?_
    refine am_iconst (n := 13) d_U_throwAt_12 ci_1 rfl ?_
    refine am_callV (kc := 0) (ks := 0) (As := [.int 1]) (n := 16) d_U_throwAt_13 rfl ce_U_refused lk_U_133 in_U_refused rfl rfl hq rfl rfl (Nat.le_of_ble_eq_true rfl) (Or.inl rfl) (cm_U_refused (d := d - 1) hw (by omega) hq h) (by omega) ?_
    rintro _ _ ⟨r4, I3, rfl, rfl, h⟩
    show am_Wp (d, "UnseenRing", b_U_throwAt, 2, false) 0 0 16 [some (.ref q), some (.int p1)] [.int r4] (I3, L, R, am_SH) (po_U_throwAt L R Q)
    exact am_iret d_U_throwAt_16 ⟨r4, I3, rfl, rfl, h⟩
abbrev po_Square_brushOff (L : am_TL) (R : am_TR) (Q : Int32 → am_TI → Prop) : Option Value → am_St → Prop := fun r σ' => ∃ (x : Int32) (I' : am_TI), r = some (.int x) ∧ σ' = (I', L, R, am_SH) ∧ Q x I'
def wp_Square_brushOff (I : am_TI) (L : am_TL) (R : am_TR) (q : Nat)  (Q : Int32 → am_TI → Prop) : Prop := wp_Integer_bitCount I L R (I q 15) (fun (r1 : Int32) => (∀ I1, I1 = am_u2 I q 15 0 → ((r1 = 0 → Q (-1) I1) ∧ (¬ r1 = 0 → Q r1 I1))))
set_option maxRecDepth 20000 in
theorem cm_Square_brushOff {d : Nat} {I : am_TI} {L : am_TL} {R : am_TR}  (hw : am_Wf R)   {q : Nat} {Q : Int32 → am_TI → Prop} (hd : 1 ≤ d) (hq : am_SH[q]? = some (.inl 7)) (h : wp_Square_brushOff I L R q  Q) : am_Cm d 0 0 y_Square_brushOff b_Square_brushOff 2 (some .int) [.ref q] (I, L, R, am_SH) (po_Square_brushOff L R Q) := by
  refine am_Cm_of (ini := false) (by decide +kernel) (fun z => by cases z) (by simp [Value.category]) (fun r σ' z => by obtain ⟨x, _, rfl, -⟩ := z; exact ⟨_, rfl, rfl⟩) ?_
  unfold wp_Square_brushOff at h
  show am_Wp (d, "UnseenRing$Square", b_Square_brushOff, 2, false) 0 0 0 [some (.ref q), none] [] (I, L, R, am_SH) (po_Square_brushOff L R Q)
  refine am_aload_n (n := 1) d_Square_brushOff_0 rfl rfl ?_
  refine am_getI (n := 4) f_Square_63 d_Square_brushOff_1 rfl rfl hq ?_
  refine am_callS (kc := 0) (ks := 0) (As := [.int (I q 15)]) (n := 7) d_Square_brushOff_4 rfl ce_Integer_bitCount lk_Square_134 st_Integer_bitCount rfl rfl (Nat.le_of_ble_eq_true rfl) (Or.inl rfl) (cm_Integer_bitCount (d := d - 1) hw (by omega)  h) (by omega) ?_
  rintro _ _ ⟨r1, rfl, rfl, h⟩
  show am_Wp (d, "UnseenRing$Square", b_Square_brushOff, 2, false) 0 0 7 [some (.ref q), none] [.int r1] (I, L, R, am_SH) (po_Square_brushOff L R Q)
  refine am_istore_n (ls' := [some (.ref q), some (.int r1)]) (n := 8) d_Square_brushOff_7 (by decide) rfl rfl ?_
  refine am_aload_n (n := 9) d_Square_brushOff_8 rfl rfl ?_
  refine am_iconst (n := 10) d_Square_brushOff_9 ci_0 rfl ?_
  refine am_putI (n := 13) f_Square_63 d_Square_brushOff_10 rfl ⟨_, rfl, Or.inl rfl⟩ rfl rfl hq ?_
  generalize eI1 : am_u2 I q 15 0 = I1
  have h := h I1 eI1.symm
  refine am_iload_n (n := 14) d_Square_brushOff_13 rfl rfl ?_
  refine am_if_ne (y := 0) (tgt := 21) (n := 17) d_Square_brushOff_14 rfl rfl (fun c1 => ?_) (fun c1 => ?_)
  · have h := h.2 c1
    refine am_iload_n (n := 22) d_Square_brushOff_21 rfl rfl ?_
    exact am_iret d_Square_brushOff_22 ⟨r1, I1, rfl, rfl, h⟩
  · have h := h.1 c1
    refine am_iconst (n := 18) d_Square_brushOff_17 ci_m1 rfl ?_
    refine am_goto (tgt := 22) d_Square_brushOff_18 rfl ?_
    exact am_iret d_Square_brushOff_22 ⟨(-1), I1, rfl, rfl, h⟩
abbrev po_U_brush (L : am_TL) (R : am_TR) (Q : Int32 → am_TI → Prop) : Option Value → am_St → Prop := fun r σ' => ∃ (x : Int32) (I' : am_TI), r = some (.int x) ∧ σ' = (I', L, R, am_SH) ∧ Q x I'
def wp_U_brush (I : am_TI) (L : am_TL) (R : am_TR) (q : Nat)  (Q : Int32 → am_TI → Prop) : Prop := wp_Square_brushOff I L R (am_rd R q 11) (fun (r1 : Int32) (I1 : am_TI) => wp_U_answeredIfItCanBe I1 L R q r1 (fun (r2 : Int32) (I2 : am_TI) => Q r2 I2))
set_option maxRecDepth 20000 in
theorem cm_U_brush {d : Nat} {I : am_TI} {L : am_TL} {R : am_TR}  (hw : am_Wf R)   {q : Nat} {Q : Int32 → am_TI → Prop} (hd : 2 ≤ d) (hq : am_SH[q]? = some (.inl 11)) (h : wp_U_brush I L R q  Q) : am_Cm d 0 0 y_U_brush b_U_brush 1 (some .int) [.ref q] (I, L, R, am_SH) (po_U_brush L R Q) := by
  refine am_Cm_of (ini := false) (by decide +kernel) (fun z => by cases z) (by simp [Value.category]) (fun r σ' z => by obtain ⟨x, _, rfl, -⟩ := z; exact ⟨_, rfl, rfl⟩) ?_
  unfold wp_U_brush at h
  show am_Wp (d, "UnseenRing", b_U_brush, 1, false) 0 0 0 [some (.ref q)] [] (I, L, R, am_SH) (po_U_brush L R Q)
  refine am_aload_n (n := 1) d_U_brush_0 rfl rfl ?_
  refine am_aload_n (n := 2) d_U_brush_1 rfl rfl ?_
  refine am_getR (x := (am_rd R q 11)) (n := 5) f_U_81 d_U_brush_2 rfl rfl hq (hw.rd (k := 11) hq rfl).1 ?_
  refine am_callV (kc := 0) (ks := 0) (As := []) (n := 8) d_U_brush_5 rfl ce_Square_brushOff lk_U_254 in_Square_brushOff rfl rfl (hw.rd (k := 11) hq rfl).2 rfl rfl (Nat.le_of_ble_eq_true rfl) (Or.inl rfl) (cm_Square_brushOff (d := d - 1) hw (by omega) (hw.rd (k := 11) hq rfl).2 h) (by omega) ?_
  rintro _ _ ⟨r1, I1, rfl, rfl, h⟩
  show am_Wp (d, "UnseenRing", b_U_brush, 1, false) 0 0 8 [some (.ref q)] [.int r1, .ref q] (I1, L, R, am_SH) (po_U_brush L R Q)
  refine am_callV (kc := 0) (ks := 0) (As := [.int r1]) (n := 11) d_U_brush_8 rfl ce_U_answeredIfItCanBe lk_U_245 in_U_answeredIfItCanBe rfl rfl hq rfl rfl (Nat.le_of_ble_eq_true rfl) (Or.inl rfl) (cm_U_answeredIfItCanBe (d := d - 1) hw (by omega) hq h) (by omega) ?_
  rintro _ _ ⟨r2, I2, rfl, rfl, h⟩
  show am_Wp (d, "UnseenRing", b_U_brush, 1, false) 0 0 11 [some (.ref q)] [.int r2] (I2, L, R, am_SH) (po_U_brush L R Q)
  exact am_iret d_U_brush_11 ⟨r2, I2, rfl, rfl, h⟩
abbrev po_Square_moveHearer (L : am_TL) (R : am_TR) (Q : Int32 → am_TI → Prop) : Option Value → am_St → Prop := fun r σ' => ∃ (x : Int32) (I' : am_TI), r = some (.int x) ∧ σ' = (I', L, R, am_SH) ∧ Q x I'
def wp_Square_moveHearer (I : am_TI) (L : am_TL) (R : am_TR) (q : Nat) (p1 : Int32) (p2 : Int32)  (Q : Int32 → am_TI → Prop) : Prop := (vp_in p1 6 ∧ (((I (q + 2) (Int32.toNatClampNeg p1)) = p2 → Q (-1) I) ∧ (¬ (I (q + 2) (Int32.toNatClampNeg p1)) = p2 → (vp_in p1 6 ∧ wp_Square_far I L R q (I (q + 2) (Int32.toNatClampNeg p1)) p2 (fun (r1 : Int32) => (vp_in p1 6 ∧ (∀ I1, I1 = am_u2 I (q + 2) (Int32.toNatClampNeg p1) p2 → Q r1 I1)))))))
set_option maxRecDepth 20000 in
theorem cm_Square_moveHearer {d : Nat} {I : am_TI} {L : am_TL} {R : am_TR}  (hw : am_Wf R)   {q : Nat} {p1 : Int32} {p2 : Int32} {Q : Int32 → am_TI → Prop} (hd : 2 ≤ d) (hq : am_SH[q]? = some (.inl 7)) (h : wp_Square_moveHearer I L R q p1 p2  Q) : am_Cm d 0 0 y_Square_moveHearer b_Square_moveHearer 4 (some .int) [.ref q, .int p1, .int p2] (I, L, R, am_SH) (po_Square_moveHearer L R Q) := by
  refine am_Cm_of (ini := false) (by decide +kernel) (fun z => by cases z) (by simp [Value.category]) (fun r σ' z => by obtain ⟨x, _, rfl, -⟩ := z; exact ⟨_, rfl, rfl⟩) ?_
  unfold wp_Square_moveHearer at h
  show am_Wp (d, "UnseenRing$Square", b_Square_moveHearer, 4, false) 0 0 0 [some (.ref q), some (.int p1), some (.int p2), none] [] (I, L, R, am_SH) (po_Square_moveHearer L R Q)
  refine am_aload_n (n := 1) d_Square_moveHearer_0 rfl rfl ?_
  refine am_getR (x := (q + 2)) (n := 4) f_Square_15 d_Square_moveHearer_1 rfl rfl hq (hw.1 q 7 1 2 hq rfl) ?_
  refine am_iload_n (n := 5) d_Square_moveHearer_4 rfl rfl ?_
  obtain ⟨g1, h⟩ := h
  refine am_iald2 (n := 6) d_Square_moveHearer_5 rfl (am_sho (k := 1) (o := 2) hq (by decide) (by decide) (by decide) rfl) g1 rfl ?_
  refine am_iload_n (n := 7) d_Square_moveHearer_6 rfl rfl ?_
  refine am_icmp_ne (tgt := 12) (n := 10) d_Square_moveHearer_7 rfl rfl (fun c1 => ?_) (fun c1 => ?_)
  · have h := h.2 c1
    refine am_aload_n (n := 13) d_Square_moveHearer_12 rfl rfl ?_
    refine am_aload_n (n := 14) d_Square_moveHearer_13 rfl rfl ?_
    refine am_getR (x := (q + 2)) (n := 17) f_Square_15 d_Square_moveHearer_14 rfl rfl hq (hw.1 q 7 1 2 hq rfl) ?_
    refine am_iload_n (n := 18) d_Square_moveHearer_17 rfl rfl ?_
    obtain ⟨g2, h⟩ := h
    refine am_iald2 (n := 19) d_Square_moveHearer_18 rfl (am_sho (k := 1) (o := 2) hq (by decide) (by decide) (by decide) rfl) g2 rfl ?_
    refine am_iload_n (n := 20) d_Square_moveHearer_19 rfl rfl ?_
    refine am_callV (kc := 0) (ks := 0) (As := [.int (I (q + 2) (Int32.toNatClampNeg p1)), .int p2]) (n := 23) d_Square_moveHearer_20 rfl ce_Square_far lk_Square_103 in_Square_far rfl rfl hq rfl rfl (Nat.le_of_ble_eq_true rfl) (Or.inl rfl) (cm_Square_far (d := d - 1) hw (by omega) hq h) (by omega) ?_
    rintro _ _ ⟨r1, rfl, rfl, h⟩
    show am_Wp (d, "UnseenRing$Square", b_Square_moveHearer, 4, false) 0 0 23 [some (.ref q), some (.int p1), some (.int p2), none] [.int r1] (I, L, R, am_SH) (po_Square_moveHearer L R Q)
    refine am_istore_n (ls' := [some (.ref q), some (.int p1), some (.int p2), some (.int r1)]) (n := 24) d_Square_moveHearer_23 (by decide) rfl rfl ?_
    refine am_aload_n (n := 25) d_Square_moveHearer_24 rfl rfl ?_
    refine am_getR (x := (q + 2)) (n := 28) f_Square_15 d_Square_moveHearer_25 rfl rfl hq (hw.1 q 7 1 2 hq rfl) ?_
    refine am_iload_n (n := 29) d_Square_moveHearer_28 rfl rfl ?_
    refine am_iload_n (n := 30) d_Square_moveHearer_29 rfl rfl ?_
    obtain ⟨g3, h⟩ := h
    refine am_iast2 (n := 31) d_Square_moveHearer_30 rfl (am_sho (k := 1) (o := 2) hq (by decide) (by decide) (by decide) rfl) g3 rfl ?_
    generalize eI1 : am_u2 I (q + 2) (Int32.toNatClampNeg p1) p2 = I1
    have h := h I1 eI1.symm
    refine am_iload_n (n := 32) d_Square_moveHearer_31 rfl rfl ?_
    exact am_iret d_Square_moveHearer_32 ⟨r1, I1, rfl, rfl, h⟩
  · have h := h.1 c1
    refine am_iconst (n := 11) d_Square_moveHearer_10 ci_m1 rfl ?_
    exact am_iret d_Square_moveHearer_11 ⟨(-1), I, rfl, rfl, h⟩
abbrev po_U_send (L : am_TL) (R : am_TR) (Q : Int32 → am_TI → Prop) : Option Value → am_St → Prop := fun r σ' => ∃ (x : Int32) (I' : am_TI), r = some (.int x) ∧ σ' = (I', L, R, am_SH) ∧ Q x I'
def wb_U_send_22 (L : am_TL) (R : am_TR) (q : Nat) (p1 : Int32) (p2 : Int32) (Q : Int32 → am_TI → Prop)  (I : am_TI) : Prop := wp_U_refused I L R q 1 (fun (r2 : Int32) (I1 : am_TI) => Q r2 I1)
set_option maxRecDepth 20000 in
theorem tb_U_send_22 {d : Nat}  {L : am_TL} {R : am_TR} {q : Nat} {p1 : Int32} {p2 : Int32} {Q : Int32 → am_TI → Prop}  (hw : am_Wf R) (hq : am_SH[q]? = some (.inl 11)) (hd : 3 ≤ d) (I : am_TI) (h : wb_U_send_22 L R q p1 p2 Q  I) : am_Wp (d, "UnseenRing", b_U_send, 3, false) 0 0 22 [some (.ref q), some (.int p1), some (.int p2)] [] (I, L, R, am_SH) (po_U_send L R Q) := by
  unfold wb_U_send_22 at h
  refine am_aload_n (n := 23) d_U_send_22 rfl rfl ?_
  refine am_iconst (n := 24) d_U_send_23 ci_1 rfl ?_
  refine am_callV (kc := 0) (ks := 0) (As := [.int 1]) (n := 27) d_U_send_24 rfl ce_U_refused lk_U_133 in_U_refused rfl rfl hq rfl rfl (Nat.le_of_ble_eq_true rfl) (Or.inl rfl) (cm_U_refused (d := d - 1) hw (by omega) hq h) (by omega) ?_
  rintro _ _ ⟨r2, I1, rfl, rfl, h⟩
  show am_Wp (d, "UnseenRing", b_U_send, 3, false) 0 0 27 [some (.ref q), some (.int p1), some (.int p2)] [.int r2] (I1, L, R, am_SH) (po_U_send L R Q)
  exact am_iret d_U_send_27 ⟨r2, I1, rfl, rfl, h⟩
def wp_U_send (I : am_TI) (L : am_TL) (R : am_TR) (q : Nat) (p1 : Int32) (p2 : Int32)  (Q : Int32 → am_TI → Prop) : Prop := wp_Square_hasHearer I L R (am_rd R q 11) p1 (fun (r1 : Bool) => ((r1 = false → wb_U_send_22 L R q p1 p2 Q I) ∧ (r1 = true → wp_Square_hasCell I L R (am_rd R q 11) p2 (fun (r3 : Bool) => ((r3 = false → wb_U_send_22 L R q p1 p2 Q I) ∧ (r3 = true → wp_Square_moveHearer I L R (am_rd R q 11) p1 p2 (fun (r4 : Int32) (I2 : am_TI) => wp_U_answeredIfItCanBe I2 L R q r4 (fun (r5 : Int32) (I3 : am_TI) => Q r5 I3))))))))
set_option maxRecDepth 20000 in
theorem cm_U_send {d : Nat} {I : am_TI} {L : am_TL} {R : am_TR}  (hw : am_Wf R)   {q : Nat} {p1 : Int32} {p2 : Int32} {Q : Int32 → am_TI → Prop} (hd : 3 ≤ d) (hq : am_SH[q]? = some (.inl 11)) (h : wp_U_send I L R q p1 p2  Q) : am_Cm d 0 0 y_U_send b_U_send 3 (some .int) [.ref q, .int p1, .int p2] (I, L, R, am_SH) (po_U_send L R Q) := by
  refine am_Cm_of (ini := false) (by decide +kernel) (fun z => by cases z) (by simp [Value.category]) (fun r σ' z => by obtain ⟨x, _, rfl, -⟩ := z; exact ⟨_, rfl, rfl⟩) ?_
  unfold wp_U_send at h
  show am_Wp (d, "UnseenRing", b_U_send, 3, false) 0 0 0 [some (.ref q), some (.int p1), some (.int p2)] [] (I, L, R, am_SH) (po_U_send L R Q)
  refine am_aload_n (n := 1) d_U_send_0 rfl rfl ?_
  refine am_getR (x := (am_rd R q 11)) (n := 4) f_U_81 d_U_send_1 rfl rfl hq (hw.rd (k := 11) hq rfl).1 ?_
  refine am_iload_n (n := 5) d_U_send_4 rfl rfl ?_
  refine am_callV (kc := 0) (ks := 0) (As := [.int p1]) (n := 8) d_U_send_5 rfl ce_Square_hasHearer lk_U_205 in_Square_hasHearer rfl rfl (hw.rd (k := 11) hq rfl).2 rfl rfl (Nat.le_of_ble_eq_true rfl) (Or.inl rfl) (cm_Square_hasHearer (d := d - 1) hw (by omega) (hw.rd (k := 11) hq rfl).2 h) (by omega) ?_
  rintro _ _ ⟨r1, rfl, rfl, h⟩
  show am_Wp (d, "UnseenRing", b_U_send, 3, false) 0 0 8 [some (.ref q), some (.int p1), some (.int p2)] [.int (am_b r1)] (I, L, R, am_SH) (po_U_send L R Q)
  refine am_if_eq (y := 0) (tgt := 22) (n := 11) d_U_send_8 rfl rfl (fun c1 => ?_) (fun c1 => ?_)
  · have h := h.1 (am_b_0 c1)
    exact tb_U_send_22 hw hq hd I h
  · have h := h.2 (am_b_n0 c1)
    refine am_aload_n (n := 12) d_U_send_11 rfl rfl ?_
    refine am_getR (x := (am_rd R q 11)) (n := 15) f_U_81 d_U_send_12 rfl rfl hq (hw.rd (k := 11) hq rfl).1 ?_
    refine am_iload_n (n := 16) d_U_send_15 rfl rfl ?_
    refine am_callV (kc := 0) (ks := 0) (As := [.int p2]) (n := 19) d_U_send_16 rfl ce_Square_hasCell lk_U_221 in_Square_hasCell rfl rfl (hw.rd (k := 11) hq rfl).2 rfl rfl (Nat.le_of_ble_eq_true rfl) (Or.inl rfl) (cm_Square_hasCell (d := d - 1) hw (by omega) (hw.rd (k := 11) hq rfl).2 h) (by omega) ?_
    rintro _ _ ⟨r3, rfl, rfl, h⟩
    show am_Wp (d, "UnseenRing", b_U_send, 3, false) 0 0 19 [some (.ref q), some (.int p1), some (.int p2)] [.int (am_b r3)] (I, L, R, am_SH) (po_U_send L R Q)
    refine am_if_ne (y := 0) (tgt := 28) (n := 22) d_U_send_19 rfl rfl (fun c2 => ?_) (fun c2 => ?_)
    · have h := h.2 (am_b_n0 c2)
      refine am_aload_n (n := 29) d_U_send_28 rfl rfl ?_
      refine am_aload_n (n := 30) d_U_send_29 rfl rfl ?_
      refine am_getR (x := (am_rd R q 11)) (n := 33) f_U_81 d_U_send_30 rfl rfl hq (hw.rd (k := 11) hq rfl).1 ?_
      refine am_iload_n (n := 34) d_U_send_33 rfl rfl ?_
      refine am_iload_n (n := 35) d_U_send_34 rfl rfl ?_
      refine am_callV (kc := 0) (ks := 0) (As := [.int p1, .int p2]) (n := 38) d_U_send_35 rfl ce_Square_moveHearer lk_U_258 in_Square_moveHearer rfl rfl (hw.rd (k := 11) hq rfl).2 rfl rfl (Nat.le_of_ble_eq_true rfl) (Or.inl rfl) (cm_Square_moveHearer (d := d - 1) hw (by omega) (hw.rd (k := 11) hq rfl).2 h) (by omega) ?_
      rintro _ _ ⟨r4, I2, rfl, rfl, h⟩
      show am_Wp (d, "UnseenRing", b_U_send, 3, false) 0 0 38 [some (.ref q), some (.int p1), some (.int p2)] [.int r4, .ref q] (I2, L, R, am_SH) (po_U_send L R Q)
      refine am_callV (kc := 0) (ks := 0) (As := [.int r4]) (n := 41) d_U_send_38 rfl ce_U_answeredIfItCanBe lk_U_245 in_U_answeredIfItCanBe rfl rfl hq rfl rfl (Nat.le_of_ble_eq_true rfl) (Or.inl rfl) (cm_U_answeredIfItCanBe (d := d - 1) hw (by omega) hq h) (by omega) ?_
      rintro _ _ ⟨r5, I3, rfl, rfl, h⟩
      show am_Wp (d, "UnseenRing", b_U_send, 3, false) 0 0 41 [some (.ref q), some (.int p1), some (.int p2)] [.int r5] (I3, L, R, am_SH) (po_U_send L R Q)
      exact am_iret d_U_send_41 ⟨r5, I3, rfl, rfl, h⟩
    · have h := h.1 (am_b_0 c2)
      exact tb_U_send_22 hw hq hd I h
abbrev po_U_give (L : am_TL) (R : am_TR) (Q : Int32 → am_TI → Prop) : Option Value → am_St → Prop := fun r σ' => ∃ (x : Int32) (I' : am_TI), r = some (.int x) ∧ σ' = (I', L, R, am_SH) ∧ Q x I'
def wb_U_give_21 (L : am_TL) (R : am_TR) (q : Nat) (p1 : Int32) (p2 : Int32) (Q : Int32 → am_TI → Prop)  (I : am_TI) : Prop := wp_U_refused I L R q 1 (fun (r2 : Int32) (I1 : am_TI) => Q r2 I1)
set_option maxRecDepth 20000 in
theorem tb_U_give_21 {d : Nat}  {L : am_TL} {R : am_TR} {q : Nat} {p1 : Int32} {p2 : Int32} {Q : Int32 → am_TI → Prop}  (hw : am_Wf R) (hq : am_SH[q]? = some (.inl 11)) (hd : 2 ≤ d) (I : am_TI) (h : wb_U_give_21 L R q p1 p2 Q  I) : am_Wp (d, "UnseenRing", b_U_give, 4, false) 0 0 21 [some (.ref q), some (.int p1), some (.int p2), none] [] (I, L, R, am_SH) (po_U_give L R Q) := by
  unfold wb_U_give_21 at h
  refine am_aload_n (n := 22) d_U_give_21 rfl rfl ?_
  refine am_iconst (n := 23) d_U_give_22 ci_1 rfl ?_
  refine am_callV (kc := 0) (ks := 0) (As := [.int 1]) (n := 26) d_U_give_23 rfl ce_U_refused lk_U_133 in_U_refused rfl rfl hq rfl rfl (Nat.le_of_ble_eq_true rfl) (Or.inl rfl) (cm_U_refused (d := d - 1) hw (by omega) hq h) (by omega) ?_
  rintro _ _ ⟨r2, I1, rfl, rfl, h⟩
  show am_Wp (d, "UnseenRing", b_U_give, 4, false) 0 0 26 [some (.ref q), some (.int p1), some (.int p2), none] [.int r2] (I1, L, R, am_SH) (po_U_give L R Q)
  exact am_iret d_U_give_26 ⟨r2, I1, rfl, rfl, h⟩
def wp_U_give (I : am_TI) (L : am_TL) (R : am_TR) (q : Nat) (p1 : Int32) (p2 : Int32)  (Q : Int32 → am_TI → Prop) : Prop := wp_Square_hasHearer I L R (am_rd R q 11) p1 (fun (r1 : Bool) => ((r1 = false → wb_U_give_21 L R q p1 p2 Q I) ∧ (r1 = true → wp_U_within I L R p2 0 99 (fun (r3 : Bool) => ((r3 = false → wb_U_give_21 L R q p1 p2 Q I) ∧ (r3 = true → (vp_in p1 6 ∧ (vp_in p1 6 ∧ (∀ I2, I2 = am_u2 I ((am_rd R q 11) + 3) (Int32.toNatClampNeg p1) p2 → wp_U_answered I2 L R q (I ((am_rd R q 11) + 3) (Int32.toNatClampNeg p1)) (fun (r4 : Int32) (I3 : am_TI) => Q r4 I3))))))))))
set_option maxRecDepth 20000 in
theorem cm_U_give {d : Nat} {I : am_TI} {L : am_TL} {R : am_TR}  (hw : am_Wf R)   {q : Nat} {p1 : Int32} {p2 : Int32} {Q : Int32 → am_TI → Prop} (hd : 2 ≤ d) (hq : am_SH[q]? = some (.inl 11)) (h : wp_U_give I L R q p1 p2  Q) : am_Cm d 0 0 y_U_give b_U_give 4 (some .int) [.ref q, .int p1, .int p2] (I, L, R, am_SH) (po_U_give L R Q) := by
  refine am_Cm_of (ini := false) (by decide +kernel) (fun z => by cases z) (by simp [Value.category]) (fun r σ' z => by obtain ⟨x, _, rfl, -⟩ := z; exact ⟨_, rfl, rfl⟩) ?_
  unfold wp_U_give at h
  show am_Wp (d, "UnseenRing", b_U_give, 4, false) 0 0 0 [some (.ref q), some (.int p1), some (.int p2), none] [] (I, L, R, am_SH) (po_U_give L R Q)
  refine am_aload_n (n := 1) d_U_give_0 rfl rfl ?_
  refine am_getR (x := (am_rd R q 11)) (n := 4) f_U_81 d_U_give_1 rfl rfl hq (hw.rd (k := 11) hq rfl).1 ?_
  refine am_iload_n (n := 5) d_U_give_4 rfl rfl ?_
  refine am_callV (kc := 0) (ks := 0) (As := [.int p1]) (n := 8) d_U_give_5 rfl ce_Square_hasHearer lk_U_205 in_Square_hasHearer rfl rfl (hw.rd (k := 11) hq rfl).2 rfl rfl (Nat.le_of_ble_eq_true rfl) (Or.inl rfl) (cm_Square_hasHearer (d := d - 1) hw (by omega) (hw.rd (k := 11) hq rfl).2 h) (by omega) ?_
  rintro _ _ ⟨r1, rfl, rfl, h⟩
  show am_Wp (d, "UnseenRing", b_U_give, 4, false) 0 0 8 [some (.ref q), some (.int p1), some (.int p2), none] [.int (am_b r1)] (I, L, R, am_SH) (po_U_give L R Q)
  refine am_if_eq (y := 0) (tgt := 21) (n := 11) d_U_give_8 rfl rfl (fun c1 => ?_) (fun c1 => ?_)
  · have h := h.1 (am_b_0 c1)
    exact tb_U_give_21 hw hq hd I h
  · have h := h.2 (am_b_n0 c1)
    refine am_iload_n (n := 12) d_U_give_11 rfl rfl ?_
    refine am_iconst (n := 13) d_U_give_12 ci_0 rfl ?_
    refine am_bipush (n := 15) d_U_give_13 cb_99 rfl ?_
    refine am_callS (kc := 0) (ks := 0) (As := [.int p2, .int 0, .int 99]) (n := 18) d_U_give_15 rfl ce_U_within lk_U_114 st_U_within rfl rfl (Nat.le_of_ble_eq_true rfl) (Or.inl rfl) (cm_U_within (d := d - 1) hw (by omega)  h) (by omega) ?_
    rintro _ _ ⟨r3, rfl, rfl, h⟩
    show am_Wp (d, "UnseenRing", b_U_give, 4, false) 0 0 18 [some (.ref q), some (.int p1), some (.int p2), none] [.int (am_b r3)] (I, L, R, am_SH) (po_U_give L R Q)
    refine am_if_ne (y := 0) (tgt := 27) (n := 21) d_U_give_18 rfl rfl (fun c2 => ?_) (fun c2 => ?_)
    · have h := h.2 (am_b_n0 c2)
      refine am_aload_n (n := 28) d_U_give_27 rfl rfl ?_
      refine am_getR (x := (am_rd R q 11)) (n := 31) f_U_81 d_U_give_28 rfl rfl hq (hw.rd (k := 11) hq rfl).1 ?_
      refine am_getR (x := ((am_rd R q 11) + 3)) (n := 34) f_U_261 d_U_give_31 rfl rfl (hw.rd (k := 11) hq rfl).2 (hw.1 (am_rd R q 11) 7 2 3 (hw.rd (k := 11) hq rfl).2 rfl) ?_
      refine am_iload_n (n := 35) d_U_give_34 rfl rfl ?_
      obtain ⟨g1, h⟩ := h
      refine am_iald2 (n := 36) d_U_give_35 rfl (am_sho (k := 2) (o := 3) (hw.rd (k := 11) hq rfl).2 (by decide) (by decide) (by decide) rfl) g1 rfl ?_
      refine am_istore_n (ls' := [some (.ref q), some (.int p1), some (.int p2), some (.int (I ((am_rd R q 11) + 3) (Int32.toNatClampNeg p1)))]) (n := 37) d_U_give_36 (by decide) rfl rfl ?_
      refine am_aload_n (n := 38) d_U_give_37 rfl rfl ?_
      refine am_getR (x := (am_rd R q 11)) (n := 41) f_U_81 d_U_give_38 rfl rfl hq (hw.rd (k := 11) hq rfl).1 ?_
      refine am_getR (x := ((am_rd R q 11) + 3)) (n := 44) f_U_261 d_U_give_41 rfl rfl (hw.rd (k := 11) hq rfl).2 (hw.1 (am_rd R q 11) 7 2 3 (hw.rd (k := 11) hq rfl).2 rfl) ?_
      refine am_iload_n (n := 45) d_U_give_44 rfl rfl ?_
      refine am_iload_n (n := 46) d_U_give_45 rfl rfl ?_
      obtain ⟨g2, h⟩ := h
      refine am_iast2 (n := 47) d_U_give_46 rfl (am_sho (k := 2) (o := 3) (hw.rd (k := 11) hq rfl).2 (by decide) (by decide) (by decide) rfl) g2 rfl ?_
      generalize eI2 : am_u2 I ((am_rd R q 11) + 3) (Int32.toNatClampNeg p1) p2 = I2
      have h := h I2 eI2.symm
      refine am_aload_n (n := 48) d_U_give_47 rfl rfl ?_
      refine am_iload_n (n := 49) d_U_give_48 rfl rfl ?_
      refine am_callV (kc := 0) (ks := 0) (As := [.int (I ((am_rd R q 11) + 3) (Int32.toNatClampNeg p1))]) (n := 52) d_U_give_49 rfl ce_U_answered lk_U_184 in_U_answered rfl rfl hq rfl rfl (Nat.le_of_ble_eq_true rfl) (Or.inl rfl) (cm_U_answered (d := d - 1) hw (by omega) hq h) (by omega) ?_
      rintro _ _ ⟨r4, I3, rfl, rfl, h⟩
      show am_Wp (d, "UnseenRing", b_U_give, 4, false) 0 0 52 [some (.ref q), some (.int p1), some (.int p2), some (.int (I ((am_rd R q 11) + 3) (Int32.toNatClampNeg p1)))] [.int r4] (I3, L, R, am_SH) (po_U_give L R Q)
      exact am_iret d_U_give_52 ⟨r4, I3, rfl, rfl, h⟩
    · have h := h.1 (am_b_0 c2)
      exact tb_U_give_21 hw hq hd I h
abbrev po_U_teach (L : am_TL) (R : am_TR) (Q : Bool → am_TI → Prop) : Option Value → am_St → Prop := fun r σ' => ∃ (x : Bool) (I' : am_TI), r = some (.int (am_b x)) ∧ σ' = (I', L, R, am_SH) ∧ Q x I'
def wb_U_teach_22 (L : am_TL) (R : am_TR) (q : Nat) (p1 : Int32) (p2 : Int32) (p3 : Int32) (Q : Bool → am_TI → Prop)  (I : am_TI) : Prop := wp_U_settled I L R q 1 (fun (r2 : Bool) (I1 : am_TI) => Q r2 I1)
set_option maxRecDepth 20000 in
theorem tb_U_teach_22 {d : Nat}  {L : am_TL} {R : am_TR} {q : Nat} {p1 : Int32} {p2 : Int32} {p3 : Int32} {Q : Bool → am_TI → Prop}  (hw : am_Wf R) (hq : am_SH[q]? = some (.inl 11)) (hd : 2 ≤ d) (I : am_TI) (h : wb_U_teach_22 L R q p1 p2 p3 Q  I) : am_Wp (d, "UnseenRing", b_U_teach, 4, false) 0 0 22 [some (.ref q), some (.int p1), some (.int p2), some (.int p3)] [] (I, L, R, am_SH) (po_U_teach L R Q) := by
  unfold wb_U_teach_22 at h
  refine am_aload_n (n := 23) d_U_teach_22 rfl rfl ?_
  refine am_iconst (n := 24) d_U_teach_23 ci_1 rfl ?_
  refine am_callV (kc := 0) (ks := 0) (As := [.int 1]) (n := 27) d_U_teach_24 rfl ce_U_settled lk_U_118 in_U_settled rfl rfl hq rfl rfl (Nat.le_of_ble_eq_true rfl) (Or.inl rfl) (cm_U_settled (d := d - 1) hw (by omega) hq h) (by omega) ?_
  rintro _ _ ⟨r2, I1, rfl, rfl, h⟩
  show am_Wp (d, "UnseenRing", b_U_teach, 4, false) 0 0 27 [some (.ref q), some (.int p1), some (.int p2), some (.int p3)] [.int (am_b r2)] (I1, L, R, am_SH) (po_U_teach L R Q)
  exact am_iret d_U_teach_27 ⟨r2, I1, rfl, rfl, h⟩
def wp_U_teach (I : am_TI) (L : am_TL) (R : am_TR) (q : Nat) (p1 : Int32) (p2 : Int32) (p3 : Int32)  (Q : Bool → am_TI → Prop) : Prop := wp_Square_hasHearer I L R (am_rd R q 11) p1 (fun (r1 : Bool) => ((r1 = false → wb_U_teach_22 L R q p1 p2 p3 Q I) ∧ (r1 = true → wp_Square_hasTune I L R (am_rd R q 11) p2 (fun (r3 : Bool) => ((r3 = false → wb_U_teach_22 L R q p1 p2 p3 Q I) ∧ (r3 = true → wp_Square_doesLike I L R (am_rd R q 11) p1 p2 (fun (r4 : Bool) => (((am_b r4) = p3 → wp_U_settled I L R q 7 (fun (r6 : Bool) (I4 : am_TI) => Q r6 I4)) ∧ (¬ (am_b r4) = p3 → (vp_in p1 6 ∧ (vp_in p1 6 ∧ (∀ I2, I2 = am_u2 I ((am_rd R q 11) + 4) (Int32.toNatClampNeg p1) ((I ((am_rd R q 11) + 4) (Int32.toNatClampNeg p1)) ^^^ ((1 : Int32) <<< (p2 &&& 31))) → wp_U_settled I2 L R q 0 (fun (r5 : Bool) (I3 : am_TI) => Q r5 I3)))))))))))))
set_option maxRecDepth 20000 in
theorem cm_U_teach {d : Nat} {I : am_TI} {L : am_TL} {R : am_TR}  (hw : am_Wf R)   {q : Nat} {p1 : Int32} {p2 : Int32} {p3 : Int32} {Q : Bool → am_TI → Prop} (hd : 2 ≤ d) (hq : am_SH[q]? = some (.inl 11)) (h : wp_U_teach I L R q p1 p2 p3  Q) : am_Cm d 0 0 y_U_teach b_U_teach 4 (some .boolean) [.ref q, .int p1, .int p2, .int p3] (I, L, R, am_SH) (po_U_teach L R Q) := by
  refine am_Cm_of (ini := false) (by decide +kernel) (fun z => by cases z) (by simp [Value.category]) (fun r σ' z => by obtain ⟨x, _, rfl, -⟩ := z; exact ⟨_, rfl, am_b_nar x⟩) ?_
  unfold wp_U_teach at h
  show am_Wp (d, "UnseenRing", b_U_teach, 4, false) 0 0 0 [some (.ref q), some (.int p1), some (.int p2), some (.int p3)] [] (I, L, R, am_SH) (po_U_teach L R Q)
  refine am_aload_n (n := 1) d_U_teach_0 rfl rfl ?_
  refine am_getR (x := (am_rd R q 11)) (n := 4) f_U_81 d_U_teach_1 rfl rfl hq (hw.rd (k := 11) hq rfl).1 ?_
  refine am_iload_n (n := 5) d_U_teach_4 rfl rfl ?_
  refine am_callV (kc := 0) (ks := 0) (As := [.int p1]) (n := 8) d_U_teach_5 rfl ce_Square_hasHearer lk_U_205 in_Square_hasHearer rfl rfl (hw.rd (k := 11) hq rfl).2 rfl rfl (Nat.le_of_ble_eq_true rfl) (Or.inl rfl) (cm_Square_hasHearer (d := d - 1) hw (by omega) (hw.rd (k := 11) hq rfl).2 h) (by omega) ?_
  rintro _ _ ⟨r1, rfl, rfl, h⟩
  show am_Wp (d, "UnseenRing", b_U_teach, 4, false) 0 0 8 [some (.ref q), some (.int p1), some (.int p2), some (.int p3)] [.int (am_b r1)] (I, L, R, am_SH) (po_U_teach L R Q)
  refine am_if_eq (y := 0) (tgt := 22) (n := 11) d_U_teach_8 rfl rfl (fun c1 => ?_) (fun c1 => ?_)
  · have h := h.1 (am_b_0 c1)
    exact tb_U_teach_22 hw hq hd I h
  · have h := h.2 (am_b_n0 c1)
    refine am_aload_n (n := 12) d_U_teach_11 rfl rfl ?_
    refine am_getR (x := (am_rd R q 11)) (n := 15) f_U_81 d_U_teach_12 rfl rfl hq (hw.rd (k := 11) hq rfl).1 ?_
    refine am_iload_n (n := 16) d_U_teach_15 rfl rfl ?_
    refine am_callV (kc := 0) (ks := 0) (As := [.int p2]) (n := 19) d_U_teach_16 rfl ce_Square_hasTune lk_U_236 in_Square_hasTune rfl rfl (hw.rd (k := 11) hq rfl).2 rfl rfl (Nat.le_of_ble_eq_true rfl) (Or.inl rfl) (cm_Square_hasTune (d := d - 1) hw (by omega) (hw.rd (k := 11) hq rfl).2 h) (by omega) ?_
    rintro _ _ ⟨r3, rfl, rfl, h⟩
    show am_Wp (d, "UnseenRing", b_U_teach, 4, false) 0 0 19 [some (.ref q), some (.int p1), some (.int p2), some (.int p3)] [.int (am_b r3)] (I, L, R, am_SH) (po_U_teach L R Q)
    refine am_if_ne (y := 0) (tgt := 28) (n := 22) d_U_teach_19 rfl rfl (fun c2 => ?_) (fun c2 => ?_)
    · have h := h.2 (am_b_n0 c2)
      refine am_aload_n (n := 29) d_U_teach_28 rfl rfl ?_
      refine am_getR (x := (am_rd R q 11)) (n := 32) f_U_81 d_U_teach_29 rfl rfl hq (hw.rd (k := 11) hq rfl).1 ?_
      refine am_iload_n (n := 33) d_U_teach_32 rfl rfl ?_
      refine am_iload_n (n := 34) d_U_teach_33 rfl rfl ?_
      refine am_callV (kc := 0) (ks := 0) (As := [.int p1, .int p2]) (n := 37) d_U_teach_34 rfl ce_Square_doesLike lk_U_264 in_Square_doesLike rfl rfl (hw.rd (k := 11) hq rfl).2 rfl rfl (Nat.le_of_ble_eq_true rfl) (Or.inl rfl) (cm_Square_doesLike (d := d - 1) hw (by omega) (hw.rd (k := 11) hq rfl).2 h) (by omega) ?_
      rintro _ _ ⟨r4, rfl, rfl, h⟩
      show am_Wp (d, "UnseenRing", b_U_teach, 4, false) 0 0 37 [some (.ref q), some (.int p1), some (.int p2), some (.int p3)] [.int (am_b r4)] (I, L, R, am_SH) (po_U_teach L R Q)
      refine am_iload_n (n := 38) d_U_teach_37 rfl rfl ?_
      refine am_icmp_ne (tgt := 48) (n := 41) d_U_teach_38 rfl rfl (fun c3 => ?_) (fun c3 => ?_)
      · have h := h.2 c3
        refine am_aload_n (n := 49) d_U_teach_48 rfl rfl ?_
        refine am_getR (x := (am_rd R q 11)) (n := 52) f_U_81 d_U_teach_49 rfl rfl hq (hw.rd (k := 11) hq rfl).1 ?_
        refine am_getR (x := ((am_rd R q 11) + 4)) (n := 55) f_U_268 d_U_teach_52 rfl rfl (hw.rd (k := 11) hq rfl).2 (hw.1 (am_rd R q 11) 7 3 4 (hw.rd (k := 11) hq rfl).2 rfl) ?_
        refine am_iload_n (n := 56) d_U_teach_55 rfl rfl ?_
        refine am_dup2 (n := 57) d_U_teach_56 rfl rfl rfl ?_
        obtain ⟨g1, h⟩ := h
        refine am_iald2 (n := 58) d_U_teach_57 rfl (am_sho (k := 3) (o := 4) (hw.rd (k := 11) hq rfl).2 (by decide) (by decide) (by decide) rfl) g1 rfl ?_
        refine am_iconst (n := 59) d_U_teach_58 ci_1 rfl ?_
        refine am_iload_n (n := 60) d_U_teach_59 rfl rfl ?_
        refine am_ishl (n := 61) d_U_teach_60 rfl ?_
        refine am_ixor (n := 62) d_U_teach_61 rfl ?_
        obtain ⟨g2, h⟩ := h
        refine am_iast2 (n := 63) d_U_teach_62 rfl (am_sho (k := 3) (o := 4) (hw.rd (k := 11) hq rfl).2 (by decide) (by decide) (by decide) rfl) g2 rfl ?_
        generalize eI2 : am_u2 I ((am_rd R q 11) + 4) (Int32.toNatClampNeg p1) ((I ((am_rd R q 11) + 4) (Int32.toNatClampNeg p1)) ^^^ ((1 : Int32) <<< (p2 &&& 31))) = I2
        have h := h I2 eI2.symm
        refine am_aload_n (n := 64) d_U_teach_63 rfl rfl ?_
        refine am_iconst (n := 65) d_U_teach_64 ci_0 rfl ?_
        refine am_callV (kc := 0) (ks := 0) (As := [.int 0]) (n := 68) d_U_teach_65 rfl ce_U_settled lk_U_118 in_U_settled rfl rfl hq rfl rfl (Nat.le_of_ble_eq_true rfl) (Or.inl rfl) (cm_U_settled (d := d - 1) hw (by omega) hq h) (by omega) ?_
        rintro _ _ ⟨r5, I3, rfl, rfl, h⟩
        show am_Wp (d, "UnseenRing", b_U_teach, 4, false) 0 0 68 [some (.ref q), some (.int p1), some (.int p2), some (.int p3)] [.int (am_b r5)] (I3, L, R, am_SH) (po_U_teach L R Q)
        exact am_iret d_U_teach_68 ⟨r5, I3, rfl, rfl, h⟩
      · have h := h.1 c3
        refine am_aload_n (n := 42) d_U_teach_41 rfl rfl ?_
        refine am_bipush (n := 44) d_U_teach_42 cb_7 rfl ?_
        refine am_callV (kc := 0) (ks := 0) (As := [.int 7]) (n := 47) d_U_teach_44 rfl ce_U_settled lk_U_118 in_U_settled rfl rfl hq rfl rfl (Nat.le_of_ble_eq_true rfl) (Or.inl rfl) (cm_U_settled (d := d - 1) hw (by omega) hq h) (by omega) ?_
        rintro _ _ ⟨r6, I4, rfl, rfl, h⟩
        show am_Wp (d, "UnseenRing", b_U_teach, 4, false) 0 0 47 [some (.ref q), some (.int p1), some (.int p2), some (.int p3)] [.int (am_b r6)] (I4, L, R, am_SH) (po_U_teach L R Q)
        exact am_iret d_U_teach_47 ⟨r6, I4, rfl, rfl, h⟩
    · have h := h.1 (am_b_0 c2)
      exact tb_U_teach_22 hw hq hd I h
abbrev po_U_come (L : am_TL) (R : am_TR) (Q : Int32 → am_TI → Prop) : Option Value → am_St → Prop := fun r σ' => ∃ (x : Int32) (I' : am_TI), r = some (.int x) ∧ σ' = (I', L, R, am_SH) ∧ Q x I'
def wp_U_come (I : am_TI) (L : am_TL) (R : am_TR) (q : Nat) (p1 : Int32)  (Q : Int32 → am_TI → Prop) : Prop := wp_Square_hasCell I L R (am_rd R q 11) p1 (fun (r1 : Bool) => ((r1 = false → wp_U_refused I L R q 1 (fun (r4 : Int32) (I4 : am_TI) => Q r4 I4)) ∧ (r1 = true → (((I (am_rd R q 11) 11) < 6 → wp_Square_addHearer I L R (am_rd R q 11) p1 3 0 (fun (I1 : am_TI) => wp_U_answered I1 L R q ((I1 (am_rd R q 11) 11) - 1) (fun (r2 : Int32) (I2 : am_TI) => Q r2 I2))) ∧ (¬ (I (am_rd R q 11) 11) < 6 → wp_U_refused I L R q 4 (fun (r3 : Int32) (I3 : am_TI) => Q r3 I3))))))
set_option maxRecDepth 20000 in
theorem cm_U_come {d : Nat} {I : am_TI} {L : am_TL} {R : am_TR}  (hw : am_Wf R)   {q : Nat} {p1 : Int32} {Q : Int32 → am_TI → Prop} (hd : 2 ≤ d) (hq : am_SH[q]? = some (.inl 11)) (h : wp_U_come I L R q p1  Q) : am_Cm d 0 0 y_U_come b_U_come 2 (some .int) [.ref q, .int p1] (I, L, R, am_SH) (po_U_come L R Q) := by
  refine am_Cm_of (ini := false) (by decide +kernel) (fun z => by cases z) (by simp [Value.category]) (fun r σ' z => by obtain ⟨x, _, rfl, -⟩ := z; exact ⟨_, rfl, rfl⟩) ?_
  unfold wp_U_come at h
  show am_Wp (d, "UnseenRing", b_U_come, 2, false) 0 0 0 [some (.ref q), some (.int p1)] [] (I, L, R, am_SH) (po_U_come L R Q)
  refine am_aload_n (n := 1) d_U_come_0 rfl rfl ?_
  refine am_getR (x := (am_rd R q 11)) (n := 4) f_U_81 d_U_come_1 rfl rfl hq (hw.rd (k := 11) hq rfl).1 ?_
  refine am_iload_n (n := 5) d_U_come_4 rfl rfl ?_
  refine am_callV (kc := 0) (ks := 0) (As := [.int p1]) (n := 8) d_U_come_5 rfl ce_Square_hasCell lk_U_221 in_Square_hasCell rfl rfl (hw.rd (k := 11) hq rfl).2 rfl rfl (Nat.le_of_ble_eq_true rfl) (Or.inl rfl) (cm_Square_hasCell (d := d - 1) hw (by omega) (hw.rd (k := 11) hq rfl).2 h) (by omega) ?_
  rintro _ _ ⟨r1, rfl, rfl, h⟩
  show am_Wp (d, "UnseenRing", b_U_come, 2, false) 0 0 8 [some (.ref q), some (.int p1)] [.int (am_b r1)] (I, L, R, am_SH) (po_U_come L R Q)
  refine am_if_ne (y := 0) (tgt := 17) (n := 11) d_U_come_8 rfl rfl (fun c1 => ?_) (fun c1 => ?_)
  · have h := h.2 (am_b_n0 c1)
    refine am_aload_n (n := 18) d_U_come_17 rfl rfl ?_
    refine am_getR (x := (am_rd R q 11)) (n := 21) f_U_81 d_U_come_18 rfl rfl hq (hw.rd (k := 11) hq rfl).1 ?_
    refine am_getI (n := 24) f_U_181 d_U_come_21 rfl rfl (hw.rd (k := 11) hq rfl).2 ?_
    refine am_bipush (n := 26) d_U_come_24 cb_6 rfl ?_
    refine am_icmp_lt (tgt := 35) (n := 29) d_U_come_26 rfl rfl (fun c2 => ?_) (fun c2 => ?_)
    · have h := h.1 c2
      refine am_aload_n (n := 36) d_U_come_35 rfl rfl ?_
      refine am_getR (x := (am_rd R q 11)) (n := 39) f_U_81 d_U_come_36 rfl rfl hq (hw.rd (k := 11) hq rfl).1 ?_
      refine am_iload_n (n := 40) d_U_come_39 rfl rfl ?_
      refine am_iconst (n := 41) d_U_come_40 ci_3 rfl ?_
      refine am_iconst (n := 42) d_U_come_41 ci_0 rfl ?_
      refine am_callV (kc := 0) (ks := 0) (As := [.int p1, .int 3, .int 0]) (n := 45) d_U_come_42 rfl ce_Square_addHearer lk_U_271 in_Square_addHearer rfl rfl (hw.rd (k := 11) hq rfl).2 rfl rfl (Nat.le_of_ble_eq_true rfl) (Or.inl rfl) (cm_Square_addHearer (d := d - 1) hw (by omega) (hw.rd (k := 11) hq rfl).2 h) (by omega) ?_
      rintro _ _ ⟨I1, rfl, rfl, h⟩
      show am_Wp (d, "UnseenRing", b_U_come, 2, false) 0 0 45 [some (.ref q), some (.int p1)] [] (I1, L, R, am_SH) (po_U_come L R Q)
      refine am_aload_n (n := 46) d_U_come_45 rfl rfl ?_
      refine am_aload_n (n := 47) d_U_come_46 rfl rfl ?_
      refine am_getR (x := (am_rd R q 11)) (n := 50) f_U_81 d_U_come_47 rfl rfl hq (hw.rd (k := 11) hq rfl).1 ?_
      refine am_getI (n := 53) f_U_181 d_U_come_50 rfl rfl (hw.rd (k := 11) hq rfl).2 ?_
      refine am_iconst (n := 54) d_U_come_53 ci_1 rfl ?_
      refine am_isub (n := 55) d_U_come_54 rfl ?_
      refine am_callV (kc := 0) (ks := 0) (As := [.int ((I1 (am_rd R q 11) 11) - 1)]) (n := 58) d_U_come_55 rfl ce_U_answered lk_U_184 in_U_answered rfl rfl hq rfl rfl (Nat.le_of_ble_eq_true rfl) (Or.inl rfl) (cm_U_answered (d := d - 1) hw (by omega) hq h) (by omega) ?_
      rintro _ _ ⟨r2, I2, rfl, rfl, h⟩
      show am_Wp (d, "UnseenRing", b_U_come, 2, false) 0 0 58 [some (.ref q), some (.int p1)] [.int r2] (I2, L, R, am_SH) (po_U_come L R Q)
      exact am_iret d_U_come_58 ⟨r2, I2, rfl, rfl, h⟩
    · have h := h.2 c2
      refine am_aload_n (n := 30) d_U_come_29 rfl rfl ?_
      refine am_iconst (n := 31) d_U_come_30 ci_4 rfl ?_
      refine am_callV (kc := 0) (ks := 0) (As := [.int 4]) (n := 34) d_U_come_31 rfl ce_U_refused lk_U_133 in_U_refused rfl rfl hq rfl rfl (Nat.le_of_ble_eq_true rfl) (Or.inl rfl) (cm_U_refused (d := d - 1) hw (by omega) hq h) (by omega) ?_
      rintro _ _ ⟨r3, I3, rfl, rfl, h⟩
      show am_Wp (d, "UnseenRing", b_U_come, 2, false) 0 0 34 [some (.ref q), some (.int p1)] [.int r3] (I3, L, R, am_SH) (po_U_come L R Q)
      exact am_iret d_U_come_34 ⟨r3, I3, rfl, rfl, h⟩
  · have h := h.1 (am_b_0 c1)
    refine am_aload_n (n := 12) d_U_come_11 rfl rfl ?_
    refine am_iconst (n := 13) d_U_come_12 ci_1 rfl ?_
    refine am_callV (kc := 0) (ks := 0) (As := [.int 1]) (n := 16) d_U_come_13 rfl ce_U_refused lk_U_133 in_U_refused rfl rfl hq rfl rfl (Nat.le_of_ble_eq_true rfl) (Or.inl rfl) (cm_U_refused (d := d - 1) hw (by omega) hq h) (by omega) ?_
    rintro _ _ ⟨r4, I4, rfl, rfl, h⟩
    show am_Wp (d, "UnseenRing", b_U_come, 2, false) 0 0 16 [some (.ref q), some (.int p1)] [.int r4] (I4, L, R, am_SH) (po_U_come L R Q)
    exact am_iret d_U_come_16 ⟨r4, I4, rfl, rfl, h⟩
abbrev po_Square_emptyCup (L : am_TL) (R : am_TR) (Q : Int32 → am_TI → Prop) : Option Value → am_St → Prop := fun r σ' => ∃ (x : Int32) (I' : am_TI), r = some (.int x) ∧ σ' = (I', L, R, am_SH) ∧ Q x I'
def wp_Square_emptyCup (I : am_TI) (L : am_TL) (R : am_TR) (q : Nat)  (Q : Int32 → am_TI → Prop) : Prop := (∀ I1, I1 = am_u2 I q 13 0 → (((I q 13) = 0 → Q (-1) I1) ∧ (¬ (I q 13) = 0 → Q (I q 13) I1)))
set_option maxRecDepth 20000 in
theorem cm_Square_emptyCup {d : Nat} {I : am_TI} {L : am_TL} {R : am_TR}  (hw : am_Wf R)   {q : Nat} {Q : Int32 → am_TI → Prop} (hd : 0 ≤ d) (hq : am_SH[q]? = some (.inl 7)) (h : wp_Square_emptyCup I L R q  Q) : am_Cm d 0 0 y_Square_emptyCup b_Square_emptyCup 2 (some .int) [.ref q] (I, L, R, am_SH) (po_Square_emptyCup L R Q) := by
  refine am_Cm_of (ini := false) (by decide +kernel) (fun z => by cases z) (by simp [Value.category]) (fun r σ' z => by obtain ⟨x, _, rfl, -⟩ := z; exact ⟨_, rfl, rfl⟩) ?_
  unfold wp_Square_emptyCup at h
  show am_Wp (d, "UnseenRing$Square", b_Square_emptyCup, 2, false) 0 0 0 [some (.ref q), none] [] (I, L, R, am_SH) (po_Square_emptyCup L R Q)
  refine am_aload_n (n := 1) d_Square_emptyCup_0 rfl rfl ?_
  refine am_getI (n := 4) f_Square_57 d_Square_emptyCup_1 rfl rfl hq ?_
  refine am_istore_n (ls' := [some (.ref q), some (.int (I q 13))]) (n := 5) d_Square_emptyCup_4 (by decide) rfl rfl ?_
  refine am_aload_n (n := 6) d_Square_emptyCup_5 rfl rfl ?_
  refine am_iconst (n := 7) d_Square_emptyCup_6 ci_0 rfl ?_
  refine am_putI (n := 10) f_Square_57 d_Square_emptyCup_7 rfl ⟨_, rfl, Or.inl rfl⟩ rfl rfl hq ?_
  generalize eI1 : am_u2 I q 13 0 = I1
  have h := h I1 eI1.symm
  refine am_iload_n (n := 11) d_Square_emptyCup_10 rfl rfl ?_
  refine am_if_ne (y := 0) (tgt := 18) (n := 14) d_Square_emptyCup_11 rfl rfl (fun c1 => ?_) (fun c1 => ?_)
  · have h := h.2 c1
    refine am_iload_n (n := 19) d_Square_emptyCup_18 rfl rfl ?_
    exact am_iret d_Square_emptyCup_19 ⟨(I q 13), I1, rfl, rfl, h⟩
  · have h := h.1 c1
    refine am_iconst (n := 15) d_Square_emptyCup_14 ci_m1 rfl ?_
    refine am_goto (tgt := 19) d_Square_emptyCup_15 rfl ?_
    exact am_iret d_Square_emptyCup_19 ⟨(-1), I1, rfl, rfl, h⟩
abbrev po_U_empty (L : am_TL) (R : am_TR) (Q : Int32 → am_TI → Prop) : Option Value → am_St → Prop := fun r σ' => ∃ (x : Int32) (I' : am_TI), r = some (.int x) ∧ σ' = (I', L, R, am_SH) ∧ Q x I'
def wp_U_empty (I : am_TI) (L : am_TL) (R : am_TR) (q : Nat)  (Q : Int32 → am_TI → Prop) : Prop := wp_Square_emptyCup I L R (am_rd R q 11) (fun (r1 : Int32) (I1 : am_TI) => wp_U_answeredIfItCanBe I1 L R q r1 (fun (r2 : Int32) (I2 : am_TI) => Q r2 I2))
set_option maxRecDepth 20000 in
theorem cm_U_empty {d : Nat} {I : am_TI} {L : am_TL} {R : am_TR}  (hw : am_Wf R)   {q : Nat} {Q : Int32 → am_TI → Prop} (hd : 2 ≤ d) (hq : am_SH[q]? = some (.inl 11)) (h : wp_U_empty I L R q  Q) : am_Cm d 0 0 y_U_empty b_U_empty 1 (some .int) [.ref q] (I, L, R, am_SH) (po_U_empty L R Q) := by
  refine am_Cm_of (ini := false) (by decide +kernel) (fun z => by cases z) (by simp [Value.category]) (fun r σ' z => by obtain ⟨x, _, rfl, -⟩ := z; exact ⟨_, rfl, rfl⟩) ?_
  unfold wp_U_empty at h
  show am_Wp (d, "UnseenRing", b_U_empty, 1, false) 0 0 0 [some (.ref q)] [] (I, L, R, am_SH) (po_U_empty L R Q)
  refine am_aload_n (n := 1) d_U_empty_0 rfl rfl ?_
  refine am_aload_n (n := 2) d_U_empty_1 rfl rfl ?_
  refine am_getR (x := (am_rd R q 11)) (n := 5) f_U_81 d_U_empty_2 rfl rfl hq (hw.rd (k := 11) hq rfl).1 ?_
  refine am_callV (kc := 0) (ks := 0) (As := []) (n := 8) d_U_empty_5 rfl ce_Square_emptyCup lk_U_275 in_Square_emptyCup rfl rfl (hw.rd (k := 11) hq rfl).2 rfl rfl (Nat.le_of_ble_eq_true rfl) (Or.inl rfl) (cm_Square_emptyCup (d := d - 1) hw (by omega) (hw.rd (k := 11) hq rfl).2 h) (by omega) ?_
  rintro _ _ ⟨r1, I1, rfl, rfl, h⟩
  show am_Wp (d, "UnseenRing", b_U_empty, 1, false) 0 0 8 [some (.ref q)] [.int r1, .ref q] (I1, L, R, am_SH) (po_U_empty L R Q)
  refine am_callV (kc := 0) (ks := 0) (As := [.int r1]) (n := 11) d_U_empty_8 rfl ce_U_answeredIfItCanBe lk_U_245 in_U_answeredIfItCanBe rfl rfl hq rfl rfl (Nat.le_of_ble_eq_true rfl) (Or.inl rfl) (cm_U_answeredIfItCanBe (d := d - 1) hw (by omega) hq h) (by omega) ?_
  rintro _ _ ⟨r2, I2, rfl, rfl, h⟩
  show am_Wp (d, "UnseenRing", b_U_empty, 1, false) 0 0 11 [some (.ref q)] [.int r2] (I2, L, R, am_SH) (po_U_empty L R Q)
  exact am_iret d_U_empty_11 ⟨r2, I2, rfl, rfl, h⟩
abbrev po_U_rule (L : am_TL) (R : am_TR) (Q : Bool → am_TI → Prop) : Option Value → am_St → Prop := fun r σ' => ∃ (x : Bool) (I' : am_TI), r = some (.int (am_b x)) ∧ σ' = (I', L, R, am_SH) ∧ Q x I'
def wp_U_rule (I : am_TI) (L : am_TL) (R : am_TR) (q : Nat) (p1 : Int32)  (Q : Bool → am_TI → Prop) : Prop := wp_U_within I L R p1 0 16 (fun (r1 : Bool) => ((r1 = false → wp_U_settled I L R q 1 (fun (r3 : Bool) (I3 : am_TI) => Q r3 I3)) ∧ (r1 = true → (∀ I1, I1 = am_u2 I (am_rd R q 11) 8 p1 → wp_U_settled I1 L R q 0 (fun (r2 : Bool) (I2 : am_TI) => Q r2 I2)))))
set_option maxRecDepth 20000 in
theorem cm_U_rule {d : Nat} {I : am_TI} {L : am_TL} {R : am_TR}  (hw : am_Wf R)   {q : Nat} {p1 : Int32} {Q : Bool → am_TI → Prop} (hd : 1 ≤ d) (hq : am_SH[q]? = some (.inl 11)) (h : wp_U_rule I L R q p1  Q) : am_Cm d 0 0 y_U_rule b_U_rule 2 (some .boolean) [.ref q, .int p1] (I, L, R, am_SH) (po_U_rule L R Q) := by
  refine am_Cm_of (ini := false) (by decide +kernel) (fun z => by cases z) (by simp [Value.category]) (fun r σ' z => by obtain ⟨x, _, rfl, -⟩ := z; exact ⟨_, rfl, am_b_nar x⟩) ?_
  unfold wp_U_rule at h
  show am_Wp (d, "UnseenRing", b_U_rule, 2, false) 0 0 0 [some (.ref q), some (.int p1)] [] (I, L, R, am_SH) (po_U_rule L R Q)
  refine am_iload_n (n := 1) d_U_rule_0 rfl rfl ?_
  refine am_iconst (n := 2) d_U_rule_1 ci_0 rfl ?_
  refine am_bipush (n := 4) d_U_rule_2 cb_16 rfl ?_
  refine am_callS (kc := 0) (ks := 0) (As := [.int p1, .int 0, .int 16]) (n := 7) d_U_rule_4 rfl ce_U_within lk_U_114 st_U_within rfl rfl (Nat.le_of_ble_eq_true rfl) (Or.inl rfl) (cm_U_within (d := d - 1) hw (by omega)  h) (by omega) ?_
  rintro _ _ ⟨r1, rfl, rfl, h⟩
  show am_Wp (d, "UnseenRing", b_U_rule, 2, false) 0 0 7 [some (.ref q), some (.int p1)] [.int (am_b r1)] (I, L, R, am_SH) (po_U_rule L R Q)
  refine am_if_ne (y := 0) (tgt := 16) (n := 10) d_U_rule_7 rfl rfl (fun c1 => ?_) (fun c1 => ?_)
  · have h := h.2 (am_b_n0 c1)
    refine am_aload_n (n := 17) d_U_rule_16 rfl rfl ?_
    refine am_getR (x := (am_rd R q 11)) (n := 20) f_U_81 d_U_rule_17 rfl rfl hq (hw.rd (k := 11) hq rfl).1 ?_
    refine am_iload_n (n := 21) d_U_rule_20 rfl rfl ?_
    refine am_putI (n := 24) f_U_278 d_U_rule_21 rfl ⟨_, rfl, Or.inl rfl⟩ rfl rfl (hw.rd (k := 11) hq rfl).2 ?_
    generalize eI1 : am_u2 I (am_rd R q 11) 8 p1 = I1
    have h := h I1 eI1.symm
    refine am_aload_n (n := 25) d_U_rule_24 rfl rfl ?_
    refine am_iconst (n := 26) d_U_rule_25 ci_0 rfl ?_
    refine am_callV (kc := 0) (ks := 0) (As := [.int 0]) (n := 29) d_U_rule_26 rfl ce_U_settled lk_U_118 in_U_settled rfl rfl hq rfl rfl (Nat.le_of_ble_eq_true rfl) (Or.inl rfl) (cm_U_settled (d := d - 1) hw (by omega) hq h) (by omega) ?_
    rintro _ _ ⟨r2, I2, rfl, rfl, h⟩
    show am_Wp (d, "UnseenRing", b_U_rule, 2, false) 0 0 29 [some (.ref q), some (.int p1)] [.int (am_b r2)] (I2, L, R, am_SH) (po_U_rule L R Q)
    exact am_iret d_U_rule_29 ⟨r2, I2, rfl, rfl, h⟩
  · have h := h.1 (am_b_0 c1)
    refine am_aload_n (n := 11) d_U_rule_10 rfl rfl ?_
    refine am_iconst (n := 12) d_U_rule_11 ci_1 rfl ?_
    refine am_callV (kc := 0) (ks := 0) (As := [.int 1]) (n := 15) d_U_rule_12 rfl ce_U_settled lk_U_118 in_U_settled rfl rfl hq rfl rfl (Nat.le_of_ble_eq_true rfl) (Or.inl rfl) (cm_U_settled (d := d - 1) hw (by omega) hq h) (by omega) ?_
    rintro _ _ ⟨r3, I3, rfl, rfl, h⟩
    show am_Wp (d, "UnseenRing", b_U_rule, 2, false) 0 0 15 [some (.ref q), some (.int p1)] [.int (am_b r3)] (I3, L, R, am_SH) (po_U_rule L R Q)
    exact am_iret d_U_rule_15 ⟨r3, I3, rfl, rfl, h⟩
abbrev po_Square_coinsFrom (I : am_TI) (L : am_TL) (R : am_TR) (Q : Int32 → Prop) : Option Value → am_St → Prop := fun r σ' => ∃ (x : Int32), r = some (.int x) ∧ σ' = (I, L, R, am_SH) ∧ Q x
def wl_Square_coinsFrom_6 (I : am_TI) (L : am_TL) (R : am_TR) (q : Nat) (p1 : Int32) (p2 : Int32) (p3 : Int32) (Q : Int32 → Prop)  : Nat → Int32 → Int32 → Prop
  | 0 => fun _ _ => False
  | f6 + 1 => fun v4 v5 => (((I q 11) ≤ v5 → Q v4) ∧ (¬ (I q 11) ≤ v5 → wp_Square_doesLike I L R q v5 p2 (fun (r1 : Bool) => ((r1 = false → wl_Square_coinsFrom_6 I L R q p1 p2 p3 Q f6 v4 (v5 + 1)) ∧ (r1 = true → (vp_in v5 6 ∧ (vp_in v5 6 ∧ wp_Square_far I L R q (I (q + 2) (Int32.toNatClampNeg v5)) p1 (fun (r2 : Int32) => wl_Square_coinsFrom_6 I L R q p1 p2 p3 Q f6 (v4 + (am_min (I (q + 3) (Int32.toNatClampNeg v5)) (am_max 0 (p3 - r2)))) (v5 + 1)))))))))
set_option maxRecDepth 20000 in
theorem tl_Square_coinsFrom_6 {d : Nat}  {I : am_TI} {L : am_TL} {R : am_TR} {q : Nat} {p1 : Int32} {p2 : Int32} {p3 : Int32} {Q : Int32 → Prop}  (hw : am_Wf R) (hq : am_SH[q]? = some (.inl 7)) (hd : 2 ≤ d) : ∀ (n : Nat) (v4 : Int32) (v5 : Int32), wl_Square_coinsFrom_6 I L R q p1 p2 p3 Q  n v4 v5 → am_Wp (d, "UnseenRing$Square", b_Square_coinsFrom, 6, false) 0 0 6 [some (.ref q), some (.int p1), some (.int p2), some (.int p3), some (.int v4), some (.int v5)] [] (I, L, R, am_SH) (po_Square_coinsFrom I L R Q) := by
  intro n
  induction n with
  | zero => intro v4 v5 h; exact h.elim
  | succ n ih =>
    intro v4 v5 h
    unfold wl_Square_coinsFrom_6 at h
    refine am_iload (n := 8) d_Square_coinsFrom_6 rfl rfl ?_
    refine am_aload_n (n := 9) d_Square_coinsFrom_8 rfl rfl ?_
    refine am_getI (n := 12) f_Square_51 d_Square_coinsFrom_9 rfl rfl hq ?_
    refine am_icmp_ge (tgt := 64) (n := 15) d_Square_coinsFrom_12 rfl rfl (fun c1 => ?_) (fun c1 => ?_)
    · have h := h.1 c1
      refine am_iload (n := 66) d_Square_coinsFrom_64 rfl rfl ?_
      exact am_iret d_Square_coinsFrom_66 ⟨v4, rfl, rfl, h⟩
    · have h := h.2 c1
      refine am_aload_n (n := 16) d_Square_coinsFrom_15 rfl rfl ?_
      refine am_iload (n := 18) d_Square_coinsFrom_16 rfl rfl ?_
      refine am_iload_n (n := 19) d_Square_coinsFrom_18 rfl rfl ?_
      refine am_callV (kc := 0) (ks := 0) (As := [.int v5, .int p2]) (n := 22) d_Square_coinsFrom_19 rfl ce_Square_doesLike lk_Square_110 in_Square_doesLike rfl rfl hq rfl rfl (Nat.le_of_ble_eq_true rfl) (Or.inl rfl) (cm_Square_doesLike (d := d - 1) hw (by omega) hq h) (by omega) ?_
      rintro _ _ ⟨r1, rfl, rfl, h⟩
      show am_Wp (d, "UnseenRing$Square", b_Square_coinsFrom, 6, false) 0 0 22 [some (.ref q), some (.int p1), some (.int p2), some (.int p3), some (.int v4), some (.int v5)] [.int (am_b r1)] (I, L, R, am_SH) (po_Square_coinsFrom I L R Q)
      refine am_if_eq (y := 0) (tgt := 58) (n := 25) d_Square_coinsFrom_22 rfl rfl (fun c2 => ?_) (fun c2 => ?_)
      · have h := h.1 (am_b_0 c2)
        refine am_iinc (v := v5 + 1) (ls' := [some (.ref q), some (.int p1), some (.int p2), some (.int p3), some (.int v4), some (.int (v5 + 1))]) (n := 61) d_Square_coinsFrom_58 rfl (congrArg _ ci_1) (by decide) rfl rfl ?_
        refine am_goto (tgt := 6) d_Square_coinsFrom_61 rfl ?_
        exact ih v4 (v5 + 1)  h
      · have h := h.2 (am_b_n0 c2)
        refine am_iload (n := 27) d_Square_coinsFrom_25 rfl rfl ?_
        refine am_aload_n (n := 28) d_Square_coinsFrom_27 rfl rfl ?_
        refine am_getR (x := (q + 3)) (n := 31) f_Square_19 d_Square_coinsFrom_28 rfl rfl hq (hw.1 q 7 2 3 hq rfl) ?_
        refine am_iload (n := 33) d_Square_coinsFrom_31 rfl rfl ?_
        obtain ⟨g1, h⟩ := h
        refine am_iald2 (n := 34) d_Square_coinsFrom_33 rfl (am_sho (k := 2) (o := 3) hq (by decide) (by decide) (by decide) rfl) g1 rfl ?_
        refine am_iconst (n := 35) d_Square_coinsFrom_34 ci_0 rfl ?_
        refine am_iload_n (n := 36) d_Square_coinsFrom_35 rfl rfl ?_
        refine am_aload_n (n := 37) d_Square_coinsFrom_36 rfl rfl ?_
        refine am_aload_n (n := 38) d_Square_coinsFrom_37 rfl rfl ?_
        refine am_getR (x := (q + 2)) (n := 41) f_Square_15 d_Square_coinsFrom_38 rfl rfl hq (hw.1 q 7 1 2 hq rfl) ?_
        refine am_iload (n := 43) d_Square_coinsFrom_41 rfl rfl ?_
        obtain ⟨g2, h⟩ := h
        refine am_iald2 (n := 44) d_Square_coinsFrom_43 rfl (am_sho (k := 1) (o := 2) hq (by decide) (by decide) (by decide) rfl) g2 rfl ?_
        refine am_iload_n (n := 45) d_Square_coinsFrom_44 rfl rfl ?_
        refine am_callV (kc := 0) (ks := 0) (As := [.int (I (q + 2) (Int32.toNatClampNeg v5)), .int p1]) (n := 48) d_Square_coinsFrom_45 rfl ce_Square_far lk_Square_103 in_Square_far rfl rfl hq rfl rfl (Nat.le_of_ble_eq_true rfl) (Or.inl rfl) (cm_Square_far (d := d - 1) hw (by omega) hq h) (by omega) ?_
        rintro _ _ ⟨r2, rfl, rfl, h⟩
        show am_Wp (d, "UnseenRing$Square", b_Square_coinsFrom, 6, false) 0 0 48 [some (.ref q), some (.int p1), some (.int p2), some (.int p3), some (.int v4), some (.int v5)] [.int r2, .int p3, .int 0, .int (I (q + 3) (Int32.toNatClampNeg v5)), .int v4] (I, L, R, am_SH) (po_Square_coinsFrom I L R Q)
        refine am_isub (n := 49) d_Square_coinsFrom_48 rfl ?_
        refine am_mmax2 (n := 52) d_Square_coinsFrom_49 rfl lm_Square_137 (Nat.le_of_ble_eq_true rfl) (by omega) ?_
        refine am_mmin2 (n := 55) d_Square_coinsFrom_52 rfl lm_Square_126 (Nat.le_of_ble_eq_true rfl) (by omega) ?_
        refine am_iadd (n := 56) d_Square_coinsFrom_55 rfl ?_
        refine am_istore (ls' := [some (.ref q), some (.int p1), some (.int p2), some (.int p3), some (.int (v4 + (am_min (I (q + 3) (Int32.toNatClampNeg v5)) (am_max 0 (p3 - r2))))), some (.int v5)]) (n := 58) d_Square_coinsFrom_56 (by decide) rfl rfl ?_
        refine am_iinc (v := v5 + 1) (ls' := [some (.ref q), some (.int p1), some (.int p2), some (.int p3), some (.int (v4 + (am_min (I (q + 3) (Int32.toNatClampNeg v5)) (am_max 0 (p3 - r2))))), some (.int (v5 + 1))]) (n := 61) d_Square_coinsFrom_58 rfl (congrArg _ ci_1) (by decide) rfl rfl ?_
        refine am_goto (tgt := 6) d_Square_coinsFrom_61 rfl ?_
        exact ih (v4 + (am_min (I (q + 3) (Int32.toNatClampNeg v5)) (am_max 0 (p3 - r2)))) (v5 + 1)  h
def wp_Square_coinsFrom (I : am_TI) (L : am_TL) (R : am_TR) (q : Nat) (p1 : Int32) (p2 : Int32) (p3 : Int32)  (Q : Int32 → Prop) : Prop := (∃ z, wl_Square_coinsFrom_6 I L R q p1 p2 p3 Q z 0 0)
set_option maxRecDepth 20000 in
theorem cm_Square_coinsFrom {d : Nat} {I : am_TI} {L : am_TL} {R : am_TR}  (hw : am_Wf R)   {q : Nat} {p1 : Int32} {p2 : Int32} {p3 : Int32} {Q : Int32 → Prop} (hd : 2 ≤ d) (hq : am_SH[q]? = some (.inl 7)) (h : wp_Square_coinsFrom I L R q p1 p2 p3  Q) : am_Cm d 0 0 y_Square_coinsFrom b_Square_coinsFrom 6 (some .int) [.ref q, .int p1, .int p2, .int p3] (I, L, R, am_SH) (po_Square_coinsFrom I L R Q) := by
  refine am_Cm_of (ini := false) (by decide +kernel) (fun z => by cases z) (by simp [Value.category]) (fun r σ' z => by obtain ⟨x, rfl, -⟩ := z; exact ⟨_, rfl, rfl⟩) ?_
  unfold wp_Square_coinsFrom at h
  show am_Wp (d, "UnseenRing$Square", b_Square_coinsFrom, 6, false) 0 0 0 [some (.ref q), some (.int p1), some (.int p2), some (.int p3), none, none] [] (I, L, R, am_SH) (po_Square_coinsFrom I L R Q)
  refine am_iconst (n := 1) d_Square_coinsFrom_0 ci_0 rfl ?_
  refine am_istore (ls' := [some (.ref q), some (.int p1), some (.int p2), some (.int p3), some (.int 0), none]) (n := 3) d_Square_coinsFrom_1 (by decide) rfl rfl ?_
  refine am_iconst (n := 4) d_Square_coinsFrom_3 ci_0 rfl ?_
  refine am_istore (ls' := [some (.ref q), some (.int p1), some (.int p2), some (.int p3), some (.int 0), some (.int 0)]) (n := 6) d_Square_coinsFrom_4 (by decide) rfl rfl ?_
  obtain ⟨n, h⟩ := h
  exact tl_Square_coinsFrom_6 hw hq hd n 0 0 h
abbrev po_U_pitch (L : am_TL) (R : am_TR) (Q : Int32 → am_TI → Prop) : Option Value → am_St → Prop := fun r σ' => ∃ (x : Int32) (I' : am_TI), r = some (.int x) ∧ σ' = (I', L, R, am_SH) ∧ Q x I'
def wb_U_pitch_32 (L : am_TL) (R : am_TR) (q : Nat) (p1 : Int32) (p2 : Int32) (p3 : Int32) (Q : Int32 → am_TI → Prop)  (I : am_TI) : Prop := wp_U_refused I L R q 1 (fun (r2 : Int32) (I1 : am_TI) => Q r2 I1)
set_option maxRecDepth 20000 in
theorem tb_U_pitch_32 {d : Nat}  {L : am_TL} {R : am_TR} {q : Nat} {p1 : Int32} {p2 : Int32} {p3 : Int32} {Q : Int32 → am_TI → Prop}  (hw : am_Wf R) (hq : am_SH[q]? = some (.inl 11)) (hd : 3 ≤ d) (I : am_TI) (h : wb_U_pitch_32 L R q p1 p2 p3 Q  I) : am_Wp (d, "UnseenRing", b_U_pitch, 4, false) 0 0 32 [some (.ref q), some (.int p1), some (.int p2), some (.int p3)] [] (I, L, R, am_SH) (po_U_pitch L R Q) := by
  unfold wb_U_pitch_32 at h
  refine am_aload_n (n := 33) d_U_pitch_32 rfl rfl ?_
  refine am_iconst (n := 34) d_U_pitch_33 ci_1 rfl ?_
  refine am_callV (kc := 0) (ks := 0) (As := [.int 1]) (n := 37) d_U_pitch_34 rfl ce_U_refused lk_U_133 in_U_refused rfl rfl hq rfl rfl (Nat.le_of_ble_eq_true rfl) (Or.inl rfl) (cm_U_refused (d := d - 1) hw (by omega) hq h) (by omega) ?_
  rintro _ _ ⟨r2, I1, rfl, rfl, h⟩
  show am_Wp (d, "UnseenRing", b_U_pitch, 4, false) 0 0 37 [some (.ref q), some (.int p1), some (.int p2), some (.int p3)] [.int r2] (I1, L, R, am_SH) (po_U_pitch L R Q)
  exact am_iret d_U_pitch_37 ⟨r2, I1, rfl, rfl, h⟩
def wp_U_pitch (I : am_TI) (L : am_TL) (R : am_TR) (q : Nat) (p1 : Int32) (p2 : Int32) (p3 : Int32)  (Q : Int32 → am_TI → Prop) : Prop := wp_Square_hasCell I L R (am_rd R q 11) p1 (fun (r1 : Bool) => ((r1 = false → wb_U_pitch_32 L R q p1 p2 p3 Q I) ∧ (r1 = true → wp_Square_hasTune I L R (am_rd R q 11) p2 (fun (r3 : Bool) => ((r3 = false → wb_U_pitch_32 L R q p1 p2 p3 Q I) ∧ (r3 = true → wp_U_within I L R p3 0 20 (fun (r4 : Bool) => ((r4 = false → wb_U_pitch_32 L R q p1 p2 p3 Q I) ∧ (r4 = true → wp_Square_coinsFrom I L R (am_rd R q 11) p1 p2 p3 (fun (r5 : Int32) => wp_U_answered I L R q r5 (fun (r6 : Int32) (I2 : am_TI) => Q r6 I2)))))))))))
set_option maxRecDepth 20000 in
theorem cm_U_pitch {d : Nat} {I : am_TI} {L : am_TL} {R : am_TR}  (hw : am_Wf R)   {q : Nat} {p1 : Int32} {p2 : Int32} {p3 : Int32} {Q : Int32 → am_TI → Prop} (hd : 3 ≤ d) (hq : am_SH[q]? = some (.inl 11)) (h : wp_U_pitch I L R q p1 p2 p3  Q) : am_Cm d 0 0 y_U_pitch b_U_pitch 4 (some .int) [.ref q, .int p1, .int p2, .int p3] (I, L, R, am_SH) (po_U_pitch L R Q) := by
  refine am_Cm_of (ini := false) (by decide +kernel) (fun z => by cases z) (by simp [Value.category]) (fun r σ' z => by obtain ⟨x, _, rfl, -⟩ := z; exact ⟨_, rfl, rfl⟩) ?_
  unfold wp_U_pitch at h
  show am_Wp (d, "UnseenRing", b_U_pitch, 4, false) 0 0 0 [some (.ref q), some (.int p1), some (.int p2), some (.int p3)] [] (I, L, R, am_SH) (po_U_pitch L R Q)
  refine am_aload_n (n := 1) d_U_pitch_0 rfl rfl ?_
  refine am_getR (x := (am_rd R q 11)) (n := 4) f_U_81 d_U_pitch_1 rfl rfl hq (hw.rd (k := 11) hq rfl).1 ?_
  refine am_iload_n (n := 5) d_U_pitch_4 rfl rfl ?_
  refine am_callV (kc := 0) (ks := 0) (As := [.int p1]) (n := 8) d_U_pitch_5 rfl ce_Square_hasCell lk_U_221 in_Square_hasCell rfl rfl (hw.rd (k := 11) hq rfl).2 rfl rfl (Nat.le_of_ble_eq_true rfl) (Or.inl rfl) (cm_Square_hasCell (d := d - 1) hw (by omega) (hw.rd (k := 11) hq rfl).2 h) (by omega) ?_
  rintro _ _ ⟨r1, rfl, rfl, h⟩
  show am_Wp (d, "UnseenRing", b_U_pitch, 4, false) 0 0 8 [some (.ref q), some (.int p1), some (.int p2), some (.int p3)] [.int (am_b r1)] (I, L, R, am_SH) (po_U_pitch L R Q)
  refine am_if_eq (y := 0) (tgt := 32) (n := 11) d_U_pitch_8 rfl rfl (fun c1 => ?_) (fun c1 => ?_)
  · have h := h.1 (am_b_0 c1)
    exact tb_U_pitch_32 hw hq hd I h
  · have h := h.2 (am_b_n0 c1)
    refine am_aload_n (n := 12) d_U_pitch_11 rfl rfl ?_
    refine am_getR (x := (am_rd R q 11)) (n := 15) f_U_81 d_U_pitch_12 rfl rfl hq (hw.rd (k := 11) hq rfl).1 ?_
    refine am_iload_n (n := 16) d_U_pitch_15 rfl rfl ?_
    refine am_callV (kc := 0) (ks := 0) (As := [.int p2]) (n := 19) d_U_pitch_16 rfl ce_Square_hasTune lk_U_236 in_Square_hasTune rfl rfl (hw.rd (k := 11) hq rfl).2 rfl rfl (Nat.le_of_ble_eq_true rfl) (Or.inl rfl) (cm_Square_hasTune (d := d - 1) hw (by omega) (hw.rd (k := 11) hq rfl).2 h) (by omega) ?_
    rintro _ _ ⟨r3, rfl, rfl, h⟩
    show am_Wp (d, "UnseenRing", b_U_pitch, 4, false) 0 0 19 [some (.ref q), some (.int p1), some (.int p2), some (.int p3)] [.int (am_b r3)] (I, L, R, am_SH) (po_U_pitch L R Q)
    refine am_if_eq (y := 0) (tgt := 32) (n := 22) d_U_pitch_19 rfl rfl (fun c2 => ?_) (fun c2 => ?_)
    · have h := h.1 (am_b_0 c2)
      exact tb_U_pitch_32 hw hq hd I h
    · have h := h.2 (am_b_n0 c2)
      refine am_iload_n (n := 23) d_U_pitch_22 rfl rfl ?_
      refine am_iconst (n := 24) d_U_pitch_23 ci_0 rfl ?_
      refine am_bipush (n := 26) d_U_pitch_24 cb_20 rfl ?_
      refine am_callS (kc := 0) (ks := 0) (As := [.int p3, .int 0, .int 20]) (n := 29) d_U_pitch_26 rfl ce_U_within lk_U_114 st_U_within rfl rfl (Nat.le_of_ble_eq_true rfl) (Or.inl rfl) (cm_U_within (d := d - 1) hw (by omega)  h) (by omega) ?_
      rintro _ _ ⟨r4, rfl, rfl, h⟩
      show am_Wp (d, "UnseenRing", b_U_pitch, 4, false) 0 0 29 [some (.ref q), some (.int p1), some (.int p2), some (.int p3)] [.int (am_b r4)] (I, L, R, am_SH) (po_U_pitch L R Q)
      refine am_if_ne (y := 0) (tgt := 38) (n := 32) d_U_pitch_29 rfl rfl (fun c3 => ?_) (fun c3 => ?_)
      · have h := h.2 (am_b_n0 c3)
        refine am_aload_n (n := 39) d_U_pitch_38 rfl rfl ?_
        refine am_aload_n (n := 40) d_U_pitch_39 rfl rfl ?_
        refine am_getR (x := (am_rd R q 11)) (n := 43) f_U_81 d_U_pitch_40 rfl rfl hq (hw.rd (k := 11) hq rfl).1 ?_
        refine am_iload_n (n := 44) d_U_pitch_43 rfl rfl ?_
        refine am_iload_n (n := 45) d_U_pitch_44 rfl rfl ?_
        refine am_iload_n (n := 46) d_U_pitch_45 rfl rfl ?_
        refine am_callV (kc := 0) (ks := 0) (As := [.int p1, .int p2, .int p3]) (n := 49) d_U_pitch_46 rfl ce_Square_coinsFrom lk_U_285 in_Square_coinsFrom rfl rfl (hw.rd (k := 11) hq rfl).2 rfl rfl (Nat.le_of_ble_eq_true rfl) (Or.inl rfl) (cm_Square_coinsFrom (d := d - 1) hw (by omega) (hw.rd (k := 11) hq rfl).2 h) (by omega) ?_
        rintro _ _ ⟨r5, rfl, rfl, h⟩
        show am_Wp (d, "UnseenRing", b_U_pitch, 4, false) 0 0 49 [some (.ref q), some (.int p1), some (.int p2), some (.int p3)] [.int r5, .ref q] (I, L, R, am_SH) (po_U_pitch L R Q)
        refine am_callV (kc := 0) (ks := 0) (As := [.int r5]) (n := 52) d_U_pitch_49 rfl ce_U_answered lk_U_184 in_U_answered rfl rfl hq rfl rfl (Nat.le_of_ble_eq_true rfl) (Or.inl rfl) (cm_U_answered (d := d - 1) hw (by omega) hq h) (by omega) ?_
        rintro _ _ ⟨r6, I2, rfl, rfl, h⟩
        show am_Wp (d, "UnseenRing", b_U_pitch, 4, false) 0 0 52 [some (.ref q), some (.int p1), some (.int p2), some (.int p3)] [.int r6] (I2, L, R, am_SH) (po_U_pitch L R Q)
        exact am_iret d_U_pitch_52 ⟨r6, I2, rfl, rfl, h⟩
      · have h := h.1 (am_b_0 c3)
        exact tb_U_pitch_32 hw hq hd I h
abbrev po_U_takings (L : am_TL) (R : am_TR) (Q : Int32 → am_TI → Prop) : Option Value → am_St → Prop := fun r σ' => ∃ (x : Int32) (I' : am_TI), r = some (.int x) ∧ σ' = (I', L, R, am_SH) ∧ Q x I'
def wp_U_takings (I : am_TI) (L : am_TL) (R : am_TR) (q : Nat) (p1 : Int32) (p2 : Int32)  (Q : Int32 → am_TI → Prop) : Prop := wp_U_pitch I L R q (I (am_rd R q 11) 9) p1 p2 (fun (r1 : Int32) (I1 : am_TI) => Q r1 I1)
set_option maxRecDepth 20000 in
theorem cm_U_takings {d : Nat} {I : am_TI} {L : am_TL} {R : am_TR}  (hw : am_Wf R)   {q : Nat} {p1 : Int32} {p2 : Int32} {Q : Int32 → am_TI → Prop} (hd : 4 ≤ d) (hq : am_SH[q]? = some (.inl 11)) (h : wp_U_takings I L R q p1 p2  Q) : am_Cm d 0 0 y_U_takings b_U_takings 3 (some .int) [.ref q, .int p1, .int p2] (I, L, R, am_SH) (po_U_takings L R Q) := by
  refine am_Cm_of (ini := false) (by decide +kernel) (fun z => by cases z) (by simp [Value.category]) (fun r σ' z => by obtain ⟨x, _, rfl, -⟩ := z; exact ⟨_, rfl, rfl⟩) ?_
  unfold wp_U_takings at h
  show am_Wp (d, "UnseenRing", b_U_takings, 3, false) 0 0 0 [some (.ref q), some (.int p1), some (.int p2)] [] (I, L, R, am_SH) (po_U_takings L R Q)
  refine am_aload_n (n := 1) d_U_takings_0 rfl rfl ?_
  refine am_aload_n (n := 2) d_U_takings_1 rfl rfl ?_
  refine am_getR (x := (am_rd R q 11)) (n := 5) f_U_81 d_U_takings_2 rfl rfl hq (hw.rd (k := 11) hq rfl).1 ?_
  refine am_getI (n := 8) f_U_227 d_U_takings_5 rfl rfl (hw.rd (k := 11) hq rfl).2 ?_
  refine am_iload_n (n := 9) d_U_takings_8 rfl rfl ?_
  refine am_iload_n (n := 10) d_U_takings_9 rfl rfl ?_
  refine am_callV (kc := 0) (ks := 0) (As := [.int (I (am_rd R q 11) 9), .int p1, .int p2]) (n := 13) d_U_takings_10 rfl ce_U_pitch lk_U_281 in_U_pitch rfl rfl hq rfl rfl (Nat.le_of_ble_eq_true rfl) (Or.inl rfl) (cm_U_pitch (d := d - 1) hw (by omega) hq h) (by omega) ?_
  rintro _ _ ⟨r1, I1, rfl, rfl, h⟩
  show am_Wp (d, "UnseenRing", b_U_takings, 3, false) 0 0 13 [some (.ref q), some (.int p1), some (.int p2)] [.int r1] (I1, L, R, am_SH) (po_U_takings L R Q)
  exact am_iret d_U_takings_13 ⟨r1, I1, rfl, rfl, h⟩
abbrev po_U_bestPitch (L : am_TL) (R : am_TR) (Q : Int32 → am_TI → Prop) : Option Value → am_St → Prop := fun r σ' => ∃ (x : Int32) (I' : am_TI), r = some (.int x) ∧ σ' = (I', L, R, am_SH) ∧ Q x I'
def wb_U_bestPitch_21 (L : am_TL) (R : am_TR) (q : Nat) (p1 : Int32) (p2 : Int32) (Q : Int32 → am_TI → Prop)  (I : am_TI) : Prop := wp_U_refused I L R q 1 (fun (r2 : Int32) (I1 : am_TI) => Q r2 I1)
set_option maxRecDepth 20000 in
theorem tb_U_bestPitch_21 {d : Nat}  {L : am_TL} {R : am_TR} {q : Nat} {p1 : Int32} {p2 : Int32} {Q : Int32 → am_TI → Prop}  (hw : am_Wf R) (hq : am_SH[q]? = some (.inl 11)) (hd : 3 ≤ d) (I : am_TI) (h : wb_U_bestPitch_21 L R q p1 p2 Q  I) : am_Wp (d, "UnseenRing", b_U_bestPitch, 7, false) 0 0 21 [some (.ref q), some (.int p1), some (.int p2), none, none, none, none] [] (I, L, R, am_SH) (po_U_bestPitch L R Q) := by
  unfold wb_U_bestPitch_21 at h
  refine am_aload_n (n := 22) d_U_bestPitch_21 rfl rfl ?_
  refine am_iconst (n := 23) d_U_bestPitch_22 ci_1 rfl ?_
  refine am_callV (kc := 0) (ks := 0) (As := [.int 1]) (n := 26) d_U_bestPitch_23 rfl ce_U_refused lk_U_133 in_U_refused rfl rfl hq rfl rfl (Nat.le_of_ble_eq_true rfl) (Or.inl rfl) (cm_U_refused (d := d - 1) hw (by omega) hq h) (by omega) ?_
  rintro _ _ ⟨r2, I1, rfl, rfl, h⟩
  show am_Wp (d, "UnseenRing", b_U_bestPitch, 7, false) 0 0 26 [some (.ref q), some (.int p1), some (.int p2), none, none, none, none] [.int r2] (I1, L, R, am_SH) (po_U_bestPitch L R Q)
  exact am_iret d_U_bestPitch_26 ⟨r2, I1, rfl, rfl, h⟩
def wl_U_bestPitch_44 (L : am_TL) (R : am_TR) (q : Nat) (p1 : Int32) (p2 : Int32) (Q : Int32 → am_TI → Prop)  : Nat → am_TI → Int32 → Int32 → Int32 → Prop
  | 0 => fun _ _ _ _ => False
  | f44 + 1 => fun I v3 v4 v5 => wp_Square_cells I L R (am_rd R q 11) (fun (r5 : Int32) => ((r5 ≤ v5 → wp_U_answered I L R q v3 (fun (r6 : Int32) (I2 : am_TI) => Q r6 I2)) ∧ (¬ r5 ≤ v5 → wp_Square_coinsFrom I L R (am_rd R q 11) v5 p1 p2 (fun (r7 : Int32) => ((r7 ≤ v4 → wl_U_bestPitch_44 L R q p1 p2 Q f44 I v3 v4 (v5 + 1)) ∧ (¬ r7 ≤ v4 → wl_U_bestPitch_44 L R q p1 p2 Q f44 I v5 r7 (v5 + 1)))))))
set_option maxRecDepth 20000 in
theorem tl_U_bestPitch_44 {d : Nat}  {L : am_TL} {R : am_TR} {q : Nat} {p1 : Int32} {p2 : Int32} {Q : Int32 → am_TI → Prop}  (hw : am_Wf R) (hq : am_SH[q]? = some (.inl 11)) (hd : 3 ≤ d) : ∀ (n : Nat) (I : am_TI) (v3 : Int32) (v4 : Int32) (v5 : Int32), wl_U_bestPitch_44 L R q p1 p2 Q  n I v3 v4 v5 → am_Wp (d, "UnseenRing", b_U_bestPitch, 7, false) 0 0 44 [some (.ref q), some (.int p1), some (.int p2), some (.int v3), some (.int v4), some (.int v5), none] [] (I, L, R, am_SH) (po_U_bestPitch L R Q) := by
  intro n
  induction n with
  | zero => intro I v3 v4 v5 h; exact h.elim
  | succ n ih =>
    intro I v3 v4 v5 h
    unfold wl_U_bestPitch_44 at h
    refine am_iload (n := 46) d_U_bestPitch_44 rfl rfl ?_
    refine am_aload_n (n := 47) d_U_bestPitch_46 rfl rfl ?_
    refine am_getR (x := (am_rd R q 11)) (n := 50) f_U_81 d_U_bestPitch_47 rfl rfl hq (hw.rd (k := 11) hq rfl).1 ?_
    refine am_callV (kc := 0) (ks := 0) (As := []) (n := 53) d_U_bestPitch_50 rfl ce_Square_cells lk_U_288 in_Square_cells rfl rfl (hw.rd (k := 11) hq rfl).2 rfl rfl (Nat.le_of_ble_eq_true rfl) (Or.inl rfl) (cm_Square_cells (d := d - 1) hw (by omega) (hw.rd (k := 11) hq rfl).2 h) (by omega) ?_
    rintro _ _ ⟨r5, rfl, rfl, h⟩
    show am_Wp (d, "UnseenRing", b_U_bestPitch, 7, false) 0 0 53 [some (.ref q), some (.int p1), some (.int p2), some (.int v3), some (.int v4), some (.int v5), none] [.int r5, .int v5] (I, L, R, am_SH) (po_U_bestPitch L R Q)
    refine am_icmp_ge (tgt := 89) (n := 56) d_U_bestPitch_53 rfl rfl (fun c3 => ?_) (fun c3 => ?_)
    · have h := h.1 c3
      refine am_aload_n (n := 90) d_U_bestPitch_89 rfl rfl ?_
      refine am_iload_n (n := 91) d_U_bestPitch_90 rfl rfl ?_
      refine am_callV (kc := 0) (ks := 0) (As := [.int v3]) (n := 94) d_U_bestPitch_91 rfl ce_U_answered lk_U_184 in_U_answered rfl rfl hq rfl rfl (Nat.le_of_ble_eq_true rfl) (Or.inl rfl) (cm_U_answered (d := d - 1) hw (by omega) hq h) (by omega) ?_
      rintro _ _ ⟨r6, I2, rfl, rfl, h⟩
      show am_Wp (d, "UnseenRing", b_U_bestPitch, 7, false) 0 0 94 [some (.ref q), some (.int p1), some (.int p2), some (.int v3), some (.int v4), some (.int v5), none] [.int r6] (I2, L, R, am_SH) (po_U_bestPitch L R Q)
      exact am_iret d_U_bestPitch_94 ⟨r6, I2, rfl, rfl, h⟩
    · have h := h.2 c3
      refine am_aload_n (n := 57) d_U_bestPitch_56 rfl rfl ?_
      refine am_getR (x := (am_rd R q 11)) (n := 60) f_U_81 d_U_bestPitch_57 rfl rfl hq (hw.rd (k := 11) hq rfl).1 ?_
      refine am_iload (n := 62) d_U_bestPitch_60 rfl rfl ?_
      refine am_iload_n (n := 63) d_U_bestPitch_62 rfl rfl ?_
      refine am_iload_n (n := 64) d_U_bestPitch_63 rfl rfl ?_
      refine am_callV (kc := 0) (ks := 0) (As := [.int v5, .int p1, .int p2]) (n := 67) d_U_bestPitch_64 rfl ce_Square_coinsFrom lk_U_285 in_Square_coinsFrom rfl rfl (hw.rd (k := 11) hq rfl).2 rfl rfl (Nat.le_of_ble_eq_true rfl) (Or.inl rfl) (cm_Square_coinsFrom (d := d - 1) hw (by omega) (hw.rd (k := 11) hq rfl).2 h) (by omega) ?_
      rintro _ _ ⟨r7, rfl, rfl, h⟩
      show am_Wp (d, "UnseenRing", b_U_bestPitch, 7, false) 0 0 67 [some (.ref q), some (.int p1), some (.int p2), some (.int v3), some (.int v4), some (.int v5), none] [.int r7] (I, L, R, am_SH) (po_U_bestPitch L R Q)
      refine am_istore (ls' := [some (.ref q), some (.int p1), some (.int p2), some (.int v3), some (.int v4), some (.int v5), some (.int r7)]) (n := 69) d_U_bestPitch_67 (by decide) rfl rfl ?_
      refine am_iload (n := 71) d_U_bestPitch_69 rfl rfl ?_
      refine am_iload (n := 73) d_U_bestPitch_71 rfl rfl ?_
      refine am_icmp_le (tgt := 83) (n := 76) d_U_bestPitch_73 rfl rfl (fun c4 => ?_) (fun c4 => ?_)
      · have h := h.1 c4
        refine am_iinc (v := v5 + 1) (ls' := [some (.ref q), some (.int p1), some (.int p2), some (.int v3), some (.int v4), some (.int (v5 + 1)), some (.int r7)]) (n := 86) d_U_bestPitch_83 rfl (congrArg _ ci_1) (by decide) rfl rfl ?_
        refine am_goto (tgt := 44) d_U_bestPitch_86 rfl ?_
        refine am_forget (ls' := [some (.ref q), some (.int p1), some (.int p2), some (.int v3), some (.int v4), some (.int (v5 + 1)), none]) (am_le_s (am_le_s (am_le_s (am_le_s (am_le_s (am_le_s (am_le_n am_le_e))))))) ?_
        exact ih I v3 v4 (v5 + 1)  h
      · have h := h.2 c4
        refine am_iload (n := 78) d_U_bestPitch_76 rfl rfl ?_
        refine am_istore_n (ls' := [some (.ref q), some (.int p1), some (.int p2), some (.int v5), some (.int v4), some (.int v5), some (.int r7)]) (n := 79) d_U_bestPitch_78 (by decide) rfl rfl ?_
        refine am_iload (n := 81) d_U_bestPitch_79 rfl rfl ?_
        refine am_istore (ls' := [some (.ref q), some (.int p1), some (.int p2), some (.int v5), some (.int r7), some (.int v5), some (.int r7)]) (n := 83) d_U_bestPitch_81 (by decide) rfl rfl ?_
        refine am_iinc (v := v5 + 1) (ls' := [some (.ref q), some (.int p1), some (.int p2), some (.int v5), some (.int r7), some (.int (v5 + 1)), some (.int r7)]) (n := 86) d_U_bestPitch_83 rfl (congrArg _ ci_1) (by decide) rfl rfl ?_
        refine am_goto (tgt := 44) d_U_bestPitch_86 rfl ?_
        refine am_forget (ls' := [some (.ref q), some (.int p1), some (.int p2), some (.int v5), some (.int r7), some (.int (v5 + 1)), none]) (am_le_s (am_le_s (am_le_s (am_le_s (am_le_s (am_le_s (am_le_n am_le_e))))))) ?_
        exact ih I v5 r7 (v5 + 1)  h
def wp_U_bestPitch (I : am_TI) (L : am_TL) (R : am_TR) (q : Nat) (p1 : Int32) (p2 : Int32)  (Q : Int32 → am_TI → Prop) : Prop := wp_Square_hasTune I L R (am_rd R q 11) p1 (fun (r1 : Bool) => ((r1 = false → wb_U_bestPitch_21 L R q p1 p2 Q I) ∧ (r1 = true → wp_U_within I L R p2 0 20 (fun (r3 : Bool) => ((r3 = false → wb_U_bestPitch_21 L R q p1 p2 Q I) ∧ (r3 = true → wp_Square_coinsFrom I L R (am_rd R q 11) 0 p1 p2 (fun (r4 : Int32) => (∃ z, wl_U_bestPitch_44 L R q p1 p2 Q z I 0 r4 1))))))))
set_option maxRecDepth 20000 in
theorem cm_U_bestPitch {d : Nat} {I : am_TI} {L : am_TL} {R : am_TR}  (hw : am_Wf R)   {q : Nat} {p1 : Int32} {p2 : Int32} {Q : Int32 → am_TI → Prop} (hd : 3 ≤ d) (hq : am_SH[q]? = some (.inl 11)) (h : wp_U_bestPitch I L R q p1 p2  Q) : am_Cm d 0 0 y_U_bestPitch b_U_bestPitch 7 (some .int) [.ref q, .int p1, .int p2] (I, L, R, am_SH) (po_U_bestPitch L R Q) := by
  refine am_Cm_of (ini := false) (by decide +kernel) (fun z => by cases z) (by simp [Value.category]) (fun r σ' z => by obtain ⟨x, _, rfl, -⟩ := z; exact ⟨_, rfl, rfl⟩) ?_
  unfold wp_U_bestPitch at h
  show am_Wp (d, "UnseenRing", b_U_bestPitch, 7, false) 0 0 0 [some (.ref q), some (.int p1), some (.int p2), none, none, none, none] [] (I, L, R, am_SH) (po_U_bestPitch L R Q)
  refine am_aload_n (n := 1) d_U_bestPitch_0 rfl rfl ?_
  refine am_getR (x := (am_rd R q 11)) (n := 4) f_U_81 d_U_bestPitch_1 rfl rfl hq (hw.rd (k := 11) hq rfl).1 ?_
  refine am_iload_n (n := 5) d_U_bestPitch_4 rfl rfl ?_
  refine am_callV (kc := 0) (ks := 0) (As := [.int p1]) (n := 8) d_U_bestPitch_5 rfl ce_Square_hasTune lk_U_236 in_Square_hasTune rfl rfl (hw.rd (k := 11) hq rfl).2 rfl rfl (Nat.le_of_ble_eq_true rfl) (Or.inl rfl) (cm_Square_hasTune (d := d - 1) hw (by omega) (hw.rd (k := 11) hq rfl).2 h) (by omega) ?_
  rintro _ _ ⟨r1, rfl, rfl, h⟩
  show am_Wp (d, "UnseenRing", b_U_bestPitch, 7, false) 0 0 8 [some (.ref q), some (.int p1), some (.int p2), none, none, none, none] [.int (am_b r1)] (I, L, R, am_SH) (po_U_bestPitch L R Q)
  refine am_if_eq (y := 0) (tgt := 21) (n := 11) d_U_bestPitch_8 rfl rfl (fun c1 => ?_) (fun c1 => ?_)
  · have h := h.1 (am_b_0 c1)
    exact tb_U_bestPitch_21 hw hq hd I h
  · have h := h.2 (am_b_n0 c1)
    refine am_iload_n (n := 12) d_U_bestPitch_11 rfl rfl ?_
    refine am_iconst (n := 13) d_U_bestPitch_12 ci_0 rfl ?_
    refine am_bipush (n := 15) d_U_bestPitch_13 cb_20 rfl ?_
    refine am_callS (kc := 0) (ks := 0) (As := [.int p2, .int 0, .int 20]) (n := 18) d_U_bestPitch_15 rfl ce_U_within lk_U_114 st_U_within rfl rfl (Nat.le_of_ble_eq_true rfl) (Or.inl rfl) (cm_U_within (d := d - 1) hw (by omega)  h) (by omega) ?_
    rintro _ _ ⟨r3, rfl, rfl, h⟩
    show am_Wp (d, "UnseenRing", b_U_bestPitch, 7, false) 0 0 18 [some (.ref q), some (.int p1), some (.int p2), none, none, none, none] [.int (am_b r3)] (I, L, R, am_SH) (po_U_bestPitch L R Q)
    refine am_if_ne (y := 0) (tgt := 27) (n := 21) d_U_bestPitch_18 rfl rfl (fun c2 => ?_) (fun c2 => ?_)
    · have h := h.2 (am_b_n0 c2)
      refine am_iconst (n := 28) d_U_bestPitch_27 ci_0 rfl ?_
      refine am_istore_n (ls' := [some (.ref q), some (.int p1), some (.int p2), some (.int 0), none, none, none]) (n := 29) d_U_bestPitch_28 (by decide) rfl rfl ?_
      refine am_aload_n (n := 30) d_U_bestPitch_29 rfl rfl ?_
      refine am_getR (x := (am_rd R q 11)) (n := 33) f_U_81 d_U_bestPitch_30 rfl rfl hq (hw.rd (k := 11) hq rfl).1 ?_
      refine am_iconst (n := 34) d_U_bestPitch_33 ci_0 rfl ?_
      refine am_iload_n (n := 35) d_U_bestPitch_34 rfl rfl ?_
      refine am_iload_n (n := 36) d_U_bestPitch_35 rfl rfl ?_
      refine am_callV (kc := 0) (ks := 0) (As := [.int 0, .int p1, .int p2]) (n := 39) d_U_bestPitch_36 rfl ce_Square_coinsFrom lk_U_285 in_Square_coinsFrom rfl rfl (hw.rd (k := 11) hq rfl).2 rfl rfl (Nat.le_of_ble_eq_true rfl) (Or.inl rfl) (cm_Square_coinsFrom (d := d - 1) hw (by omega) (hw.rd (k := 11) hq rfl).2 h) (by omega) ?_
      rintro _ _ ⟨r4, rfl, rfl, h⟩
      show am_Wp (d, "UnseenRing", b_U_bestPitch, 7, false) 0 0 39 [some (.ref q), some (.int p1), some (.int p2), some (.int 0), none, none, none] [.int r4] (I, L, R, am_SH) (po_U_bestPitch L R Q)
      refine am_istore (ls' := [some (.ref q), some (.int p1), some (.int p2), some (.int 0), some (.int r4), none, none]) (n := 41) d_U_bestPitch_39 (by decide) rfl rfl ?_
      refine am_iconst (n := 42) d_U_bestPitch_41 ci_1 rfl ?_
      refine am_istore (ls' := [some (.ref q), some (.int p1), some (.int p2), some (.int 0), some (.int r4), some (.int 1), none]) (n := 44) d_U_bestPitch_42 (by decide) rfl rfl ?_
      obtain ⟨n, h⟩ := h
      exact tl_U_bestPitch_44 hw hq hd n I 0 r4 1 h
    · have h := h.1 (am_b_0 c2)
      exact tb_U_bestPitch_21 hw hq hd I h
