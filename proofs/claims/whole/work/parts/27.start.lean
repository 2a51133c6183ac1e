/-! the law from its entry; the claim out of one pure statement (lw_pure) -/
def lw_I0 (xs : Nat → Int32) (n : Nat) : am_TI := fun a b => if a = 1000 then xs b else if a = 1001 then nI n else 0
def lw_L0 : am_TL := fun _ _ => 0
def lw_R0 : am_TR := fun _ _ => none
def lw_IM (I0 : am_TI) : am_TI := ci_M_103 (am_clr (ci_U_0 (am_clr I0 0 0)) 103 0)
def lw_LM : am_TL := cl_M_103 (am_clr (cl_U_0 (am_clr lw_L0 0 0)) 103 0)
def lw_RM : am_TR := cr_M_103 (am_clr (cr_U_0 (am_clr lw_R0 0 none)) 103 none)
theorem lw_rok0 : am_Rok lw_R0 (am_SHp 0) := fun i k x hi => by cases hi
def lw_pure (xs : Nat → Int32) (n : Nat) : Prop := wp_M_plain (lw_IM (lw_I0 xs n)) lw_LM lw_RM 103 0 (fun I' => ∃ z, wl_Law_law_18 (fun b _ _ _ => b = true) z I' lw_LM lw_RM 0)
set_option maxRecDepth 20000 in
theorem lw_entry {d : Nat} (hd : 100 ≤ d) {I0 : am_TI} (hwf : am_Wf lw_RM) {Q : Bool → am_TI → am_TL → am_TR → Prop} (h : wp_M_plain (lw_IM I0) lw_LM lw_RM 103 0 (fun I' => ∃ z, wl_Law_law_18 Q z I' lw_LM lw_RM 0)) : am_Wp (d, "UnseenRingLaw", b_Law_law, 4, false) 133 19488 0 [some (.ref 1000), none, none, none] [] (I0, lw_L0, lw_R0, am_SHp 0) (po_Law Q) := by
  refine am_newC (ci := 11) (kc := 132) (ks := 19470) (N := 18) (n := 3) d_Law_law_0 rfl rfl rfl cl_Law_7 it_U ini_U df_U lw_rok0 (sl_ 0 (by decide)) rfl rfl (by decide) ?_
  refine am_dup (n := 4) d_Law_law_3 rfl rfl ?_
  refine am_callI (kc := 30) (ks := 12260) (kc' := 102) (ks' := 7210) (As := []) (q := 0) (n := 7) d_Law_law_4 rfl ce_U_init lk_Law_9 in_U_init rfl rfl (Nat.le_of_ble_eq_true rfl) (Or.inr (am_ok_of rfl)) (cc_U_0 (d := d - 1) (am_rok_clr lw_rok0 (sl_ 0 (by decide)) (sl_ 1 (by decide))) (by omega)) (by omega) ?_
  rintro _ _ ⟨rfl, rfl⟩
  refine am_astore_n (ls' := [some (.ref 1000), some (.ref 0), none, none]) (n := 8) d_Law_law_7 (by decide) rfl rfl ?_
  refine am_newC (ci := 12) (kc := 29) (ks := 12209) (N := 51) (n := 11) d_Law_law_8 rfl rfl rfl cl_Law_10 it_M ini_M df_M (rk_U_0 (am_rok_clr lw_rok0 (sl_ 0 (by decide)) (sl_ 1 (by decide)))) (sl_ 103 (by decide)) rfl rfl (by decide) ?_
  refine am_dup (n := 12) d_Law_law_11 rfl rfl ?_
  refine am_callI (kc := 0) (ks := 0) (kc' := 29) (ks' := 12209) (As := []) (q := 103) (n := 15) d_Law_law_12 rfl ce_M_init lk_Law_12 in_M_init rfl rfl (Nat.le_of_ble_eq_true rfl) (Or.inr (am_ok_of rfl)) (cc_M_103 (d := d - 1) (am_rok_clr (rk_U_0 (am_rok_clr lw_rok0 (sl_ 0 (by decide)) (sl_ 1 (by decide)))) (sl_ 103 (by decide)) (sl_ 104 (by decide))) hwf (by omega) h) (by omega) ?_
  rintro _ _ ⟨I1, rfl, rfl, z, h⟩
  refine am_astore_n (ls' := [some (.ref 1000), some (.ref 0), some (.ref 103), none]) (n := 16) d_Law_law_15 (by decide) rfl rfl ?_
  refine am_iconst (n := 17) d_Law_law_16 ci_0 rfl ?_
  refine am_istore_n (ls' := [some (.ref 1000), some (.ref 0), some (.ref 103), some (.int 0)]) (n := 18) d_Law_law_17 (by decide) rfl rfl ?_
  exact tl_Law_law_18 (by omega) z I1 lw_LM lw_RM 0 hwf h
/-- the texts' terms -/
def lw_tm (i : Nat) : Term := if i = 0 then .string "UnseenRing$Tokens" 51 else .string "UnseenRingModel" 214
def lw_fl : List Cond := flatC (Jvm.Cond.and given_1 narrow_1)
theorem lw_el0 : ∀ j, j < 125 → lw_fl[39 + j]? = some (Cond.eq (.elem (.field (.string "UnseenRing$Tokens" 51) "java/lang/String" "value" "[B") (.int (Int32.ofNat j))) (.int (am_byt0.getD j 0))) := by decide +kernel
theorem lw_el1 : ∀ j, j < 126 → lw_fl[168 + j]? = some (Cond.eq (.elem (.field (.string "UnseenRingModel" 214) "java/lang/String" "value" "[B") (.int (Int32.ofNat j))) (.int (am_byt1.getD j 0))) := by decide +kernel
theorem lw_str {args : Array Value} {s : State} {A : Nat → Prop} (hs : ∀ c ∈ lw_fl, c.before args s = true) (hA : ∀ a : Nat, a < s.heap.size → ¬ A a) : ∃ adK adV : Nat → Nat, vk_S 2 am_len am_byt adK adV A s s.heap ∧ ∀ i : Nat, i < 2 → (lw_tm i).eval args s none [] s = some (.ref (adK i)) := by
  have two : ∀ {P : Nat → Prop}, P 0 → P 1 → ∀ i, i < 2 → P i := fun h0 h1 i hi => by
    match i, hi with
    | 0, _ => exact h0
    | 1, _ => exact h1
  refine vk_Sof (tm := lw_tm) (by decide +kernel) (two ?_ ?_) (two ?_ ?_) (two ?_ ?_) (two ?_ ?_) (two ?_ ?_) ?_ hA
  · exact hs _ (List.mem_of_getElem? (i := 35) (by decide +kernel))
  · exact hs _ (List.mem_of_getElem? (i := 164) (by decide +kernel))
  · exact hs _ (List.mem_of_getElem? (i := 36) (by decide +kernel))
  · exact hs _ (List.mem_of_getElem? (i := 165) (by decide +kernel))
  · exact hs _ (List.mem_of_getElem? (i := 37) (by decide +kernel))
  · exact hs _ (List.mem_of_getElem? (i := 166) (by decide +kernel))
  · exact hs _ (List.mem_of_getElem? (i := 38) (by decide +kernel))
  · exact hs _ (List.mem_of_getElem? (i := 167) (by decide +kernel))
  · intro j hj; exact hs _ (List.mem_of_getElem? (lw_el0 j hj))
  · intro j hj; exact hs _ (List.mem_of_getElem? (lw_el1 j hj))
  · intro i j hi hj hij
    have h01 := hs _ (List.mem_of_getElem? (i := 294) (a := Cond.not (Cond.eq (lw_tm 0) (lw_tm 1))) (by decide +kernel))
    match i, j, hi, hj, hij with
    | 0, 0, _, _, h => exact absurd rfl h
    | 0, 1, _, _, _ => exact Or.inl h01
    | 1, 0, _, _, _ => exact Or.inr h01
    | 1, 1, _, _, h => exact absurd rfl h
theorem lw_arr {args : Array Value} {s : State} (hts : ∀ w ∈ lw_tbl, w.before args s = true) : ∃ cA : Nat → ClassId, ∀ (k : Nat) (q : ClassId × FieldType), (am_tys cA)[k]? = some q → ArrOfT s q.1 q.2 ∧ va_RA s q.1 q.2 := by
  obtain ⟨c0, k0, m0, f0, g0, e0⟩ := Cond.arrayClass_spec (hts _ (List.mem_filter.mp ar_int).1)
  obtain ⟨c1, k1, m1, f1, g1, e1⟩ := Cond.arrayClass_spec (hts _ (List.mem_filter.mp ar_byte).1)
  obtain ⟨c2, k2, m2, f2, g2, e2⟩ := Cond.arrayClass_spec (hts _ (List.mem_filter.mp ar_boolean).1)
  obtain ⟨c3, k3, m3, f3, g3, e3⟩ := Cond.arrayClass_spec (hts _ (List.mem_filter.mp ar_long).1)
  obtain ⟨m4, c4, k4, n4, -, g4, e4, f4⟩ := Cond.arrayOver_spec (n := "UnseenRing$Tray") (hts _ (by decide +kernel))
  obtain ⟨m5, c5, k5, n5, -, g5, e5, f5⟩ := Cond.arrayOver_spec (n := "UnseenRing$Square") (hts _ (by decide +kernel))
  refine ⟨fun i => if i = 0 then c0 else if i = 1 then c1 else if i = 2 then c2 else if i = 3 then c3 else if i = 4 then c4 else c5, fun k q hq => ?_⟩
  match k, hq with
  | 0, hq => cases hq; exact ⟨fun n z => ⟨fun k h => (by cases h), k0, g0, m0, e0⟩, f0⟩
  | 1, hq => cases hq; exact ⟨fun n z => ⟨fun k h => (by cases h), k1, g1, m1, e1⟩, f1⟩
  | 2, hq => cases hq; exact ⟨fun n z => ⟨fun k h => (by cases h), k2, g2, m2, e2⟩, f2⟩
  | 3, hq => cases hq; exact ⟨fun n z => ⟨fun k h => (by cases h), k3, g3, m3, e3⟩, f3⟩
  | 4, hq => cases hq; exact ⟨fun n z => ⟨fun k h => (by cases h), k4, g4, m4, e4⟩, k4, m4, g4, e4, n4, f4⟩
  | 5, hq => cases hq; exact ⟨fun n z => ⟨fun k h => (by cases h), k5, g5, m5, e5⟩, k5, m5, g5, e5, n5, f5⟩
  | k + 6, hq => simp [am_tys] at hq
theorem lw_cls {args : Array Value} {s : State} (hts : ∀ w ∈ am_gt, w.before args s = true) : ∃ (dC : Nat → ClassId) (dI : Nat → Nat → Nat), ∀ (k : Nat) (q : vw_C), am_cl[k]? = some q → u_Kn s q.1 q.2.1 q.2.2 (dC k) (dI k) := by
  have inst : ∀ (k : Nat) (q : vw_C), am_cl[k]? = some q → Cond.instantiable q.1 q.2.2 ∈ am_gt := by
    intro k q h
    match k, h with
    | 0, h => cases h; exact it_Covering
    | 1, h => cases h; exact it_Days
    | 2, h => cases h; exact it_DaysReader
    | 3, h => cases h; exact it_Knowing
    | 4, h => cases h; exact it_Life
    | 5, h => cases h; exact it_Placings
    | 6, h => cases h; exact it_Rows
    | 7, h => cases h; exact it_Square
    | 8, h => cases h; exact it_SquareReader
    | 9, h => cases h; exact it_Tokens
    | 10, h => cases h; exact it_Tray
    | 11, h => cases h; exact it_U
    | 12, h => cases h; exact it_M
    | k + 13, h => simp [am_cl] at h
  have h0 : ∀ k : Nat, ∃ x : ClassId × (Nat → Nat), ∀ q : vw_C, am_cl[k]? = some q → u_Kn s q.1 q.2.1 q.2.2 x.1 x.2 := by
    intro k
    cases hk : am_cl[k]? with
    | none => exact ⟨(0, fun _ => 0), fun q h => by cases h⟩
    | some q =>
      obtain ⟨cC, iS, hK⟩ := u_known (C := q.1) (T := q.2.1) (N := q.2.2) hts (am_cl_ok hk).1 (hts _ (inst k q hk))
      exact ⟨(cC, iS), fun q' h => by cases h; exact hK⟩
  obtain ⟨x, hx⟩ := Classical.axiomOfChoice h0
  exact ⟨fun k => (x k).1, fun k => (x k).2, fun k q h => hx k q h⟩
