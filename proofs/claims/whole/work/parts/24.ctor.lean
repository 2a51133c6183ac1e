theorem cs_901 : (Int16.ofInt (901)).toInt32 = 901 := by decide +kernel
theorem cs_729 : (Int16.ofInt (729)).toInt32 = 729 := by decide +kernel
theorem cs_2258 : (Int16.ofInt (2258)).toInt32 = 2258 := by decide +kernel
theorem cb_36 : (Int8.ofInt (36)).toInt32 = 36 := by decide +kernel
theorem cs_240 : (Int16.ofInt (240)).toInt32 = 240 := by decide +kernel
theorem cs_6656 : (Int16.ofInt (6656)).toInt32 = 6656 := by decide +kernel
/-! constructors: the cells as they are made -/
def am_SHp (n : Nat) : List am_Sh := am_SH.take n
def am_okb (n : Nat) (ls : List (Option Value)) (st : List Value) : Bool := ls.all (fun o => match o with
  | some (.ref i) => decide (i < n) || decide (1000 ≤ i)
  | _ => true) && st.all (fun v => match v with
  | .ref i => decide (i < n) || decide (1000 ≤ i)
  | _ => true)
theorem am_ok_of {n : Nat} {ls : List (Option Value)} {st : List Value} (h : am_okb n ls st = true) : am_ok n ls st := by
  unfold am_okb at h
  rw [Bool.and_eq_true] at h
  refine ⟨fun v hv => ?_, fun v hv => ?_⟩
  · have := List.all_eq_true.mp h.1 (some v) hv
    cases v <;> first | trivial | (simp only [Bool.or_eq_true, decide_eq_true_eq] at this; exact this)
  · have := List.all_eq_true.mp h.2 v hv
    cases v <;> first | trivial | (simp only [Bool.or_eq_true, decide_eq_true_eq] at this; exact this)
theorem am_rok_clr {R : am_TR} {n : Nat} (h : am_Rok R (am_SHp n)) (hl : (am_SHp n).length = n) (hl2 : (am_SHp (n + 1)).length = n + 1) : am_Rok (am_clr R n none) (am_SHp (n + 1)) := by
  intro i k x hi hx
  rw [hl2] at hi ⊢
  unfold am_clr at hx
  split at hx
  · cases hx
  · have := h i k x (by rw [hl]; omega) hx
    rw [hl] at this; omega
theorem am_rok_put {R : am_TR} {n q k x : Nat} (h : am_Rok R (am_SHp n)) (hx : x < (am_SHp n).length) : am_Rok (am_u2 R q k (some x)) (am_SHp n) := by
  intro i k' y hi hy
  unfold am_u2 at hy
  split at hy
  · cases hy; exact hx
  · exact h i k' y hi hy
theorem am_rok_putN {R : am_TR} {n q k : Nat} (h : am_Rok R (am_SHp n)) : am_Rok (am_u2 R q k none) (am_SHp n) := by
  intro i k' y hi hy
  unfold am_u2 at hy
  split at hy
  · cases hy
  · exact h i k' y hi hy
theorem am_u2o {α : Type} {f : Nat → Nat → α} {i k : Nat} {v : α} {a b : Nat} (h : a ≠ i) : am_u2 f i k v a b = f a b := by simp [am_u2, h]
theorem am_clro {α : Type} {f : Nat → Nat → α} {n : Nat} {z : α} {a b : Nat} (h : a ≠ n) : am_clr f n z a b = f a b := by simp [am_clr, h]
section AMN
variable {d : Nat} {own : String} {cc : ByteArray} {nL : Nat} {ini : Bool} {kc ks : Nat} {pc : Nat} {ls : List (Option Value)} {st : List Value} {Q : Option Value → am_St → Prop} {I : am_TI} {L : am_TL} {R : am_TR}
theorem am_newC {idx ci n N q : Nat} (hd : decode cc pc = .ok (.new idx, 3)) (hn : pc + 3 = n) {r : vw_C} (hr : am_cl[ci]? = some r) (hN : r.2.2 = N) (hc1 : Cond.classLink own idx r.1 ∈ am_gt) (hc2 : Cond.instantiable r.1 r.2.2 ∈ am_gt) (hc3 : Cond.initialized r.1 ∈ am_gt) (hdf : ∀ j, j < r.2.2 → defaultValue ((am_ty.getD ci t_Covering) j) = vp_V ((am_kinds.getD ci []).map (fun kd => if kd = 1 then Value.long 0 else if kd = 2 then .null else .int 0)) j)
    (hR : am_Rok R (am_SHp q)) (hl : (am_SHp q).length = q) (hs : am_SHp q ++ [.inl ci] = am_SHp (q + 1)) (hok : am_okb q ls st = true) (hlen : q < 1000) (kk : am_Wp (d, own, cc, nL, ini) kc ks n ls (.ref q :: st) (am_clr I q 0, am_clr L q 0, am_clr R q none, am_SHp (q + 1)) Q) : am_Wp (d, own, cc, nL, ini) (kc + 1) (ks + N) pc ls st (I, L, R, am_SHp q) Q := by
  refine am_new hd hn hr hN hc1 hc2 hc3 hdf hR (by rw [hl]; exact am_ok_of hok) (by rw [hl]; exact hlen) ?_
  rw [am_push, hl, hs]
  exact kk
theorem am_newaC_int {n w q : Nat} {z : Int32} (hd : decode cc pc = .ok (.newarray .int, 2)) (hn : pc + 2 = n) (hz : ¬ z < 0) (hw : z.toNatClampNeg = w) (hb : w ≤ 10000) (hR : am_Rok R (am_SHp q)) (hl : (am_SHp q).length = q) (hs : am_SHp q ++ [.inr (0, w)] = am_SHp (q + 1)) (hok : am_okb q ls st = true) (hlen : q < 1000) (kk : am_Wp (d, own, cc, nL, ini) kc ks n ls (.ref q :: st) (am_clr I q 0, am_clr L q 0, am_clr R q none, am_SHp (q + 1)) Q) : am_Wp (d, own, cc, nL, ini) (kc + 1) (ks + w) pc ls (.int z :: st) (I, L, R, am_SHp q) Q := by
  refine am_newa_int hd hn ar_int hz hw hb hR (by rw [hl]; exact am_ok_of hok) (by rw [hl]; exact hlen) ?_
  rw [am_push, hl, hs]
  exact kk
theorem am_newaC_byte {n w q : Nat} {z : Int32} (hd : decode cc pc = .ok (.newarray .byte, 2)) (hn : pc + 2 = n) (hz : ¬ z < 0) (hw : z.toNatClampNeg = w) (hb : w ≤ 10000) (hR : am_Rok R (am_SHp q)) (hl : (am_SHp q).length = q) (hs : am_SHp q ++ [.inr (1, w)] = am_SHp (q + 1)) (hok : am_okb q ls st = true) (hlen : q < 1000) (kk : am_Wp (d, own, cc, nL, ini) kc ks n ls (.ref q :: st) (am_clr I q 0, am_clr L q 0, am_clr R q none, am_SHp (q + 1)) Q) : am_Wp (d, own, cc, nL, ini) (kc + 1) (ks + w) pc ls (.int z :: st) (I, L, R, am_SHp q) Q := by
  refine am_newa_byte hd hn ar_byte hz hw hb hR (by rw [hl]; exact am_ok_of hok) (by rw [hl]; exact hlen) ?_
  rw [am_push, hl, hs]
  exact kk
theorem am_newaC_boolean {n w q : Nat} {z : Int32} (hd : decode cc pc = .ok (.newarray .boolean, 2)) (hn : pc + 2 = n) (hz : ¬ z < 0) (hw : z.toNatClampNeg = w) (hb : w ≤ 10000) (hR : am_Rok R (am_SHp q)) (hl : (am_SHp q).length = q) (hs : am_SHp q ++ [.inr (2, w)] = am_SHp (q + 1)) (hok : am_okb q ls st = true) (hlen : q < 1000) (kk : am_Wp (d, own, cc, nL, ini) kc ks n ls (.ref q :: st) (am_clr I q 0, am_clr L q 0, am_clr R q none, am_SHp (q + 1)) Q) : am_Wp (d, own, cc, nL, ini) (kc + 1) (ks + w) pc ls (.int z :: st) (I, L, R, am_SHp q) Q := by
  refine am_newa_boolean hd hn ar_boolean hz hw hb hR (by rw [hl]; exact am_ok_of hok) (by rw [hl]; exact hlen) ?_
  rw [am_push, hl, hs]
  exact kk
theorem am_newaC_long {n w q : Nat} {z : Int32} (hd : decode cc pc = .ok (.newarray .long, 2)) (hn : pc + 2 = n) (hz : ¬ z < 0) (hw : z.toNatClampNeg = w) (hb : w ≤ 10000) (hR : am_Rok R (am_SHp q)) (hl : (am_SHp q).length = q) (hs : am_SHp q ++ [.inr (3, w)] = am_SHp (q + 1)) (hok : am_okb q ls st = true) (hlen : q < 1000) (kk : am_Wp (d, own, cc, nL, ini) kc ks n ls (.ref q :: st) (am_clr I q 0, am_clr L q 0, am_clr R q none, am_SHp (q + 1)) Q) : am_Wp (d, own, cc, nL, ini) (kc + 1) (ks + w) pc ls (.int z :: st) (I, L, R, am_SHp q) Q := by
  refine am_newa_long hd hn ar_long hz hw hb hR (by rw [hl]; exact am_ok_of hok) (by rw [hl]; exact hlen) ?_
  rw [am_push, hl, hs]
  exact kk
theorem am_anewC4 {n w q idx : Nat} {z : Int32} (hd : decode cc pc = .ok (.anewarray idx, 3)) (hn : pc + 3 = n) (hc : Cond.classLink own idx "UnseenRing$Tray" ∈ am_gt) (hz : ¬ z < 0) (hw : z.toNatClampNeg = w) (hb : w ≤ 10000) (hR : am_Rok R (am_SHp q)) (hl : (am_SHp q).length = q) (hs : am_SHp q ++ [.inr (4, w)] = am_SHp (q + 1)) (hok : am_okb q ls st = true) (hlen : q < 1000) (kk : am_Wp (d, own, cc, nL, ini) kc ks n ls (.ref q :: st) (am_clr I q 0, am_clr L q 0, am_clr R q none, am_SHp (q + 1)) Q) : am_Wp (d, own, cc, nL, ini) (kc + 1) (ks + w) pc ls (.int z :: st) (I, L, R, am_SHp q) Q := by
  refine am_anew4 hd hn hc hz hw hb hR (by rw [hl]; exact am_ok_of hok) (by rw [hl]; exact hlen) ?_
  rw [am_push, hl, hs]
  exact kk
theorem am_anewC5 {n w q idx : Nat} {z : Int32} (hd : decode cc pc = .ok (.anewarray idx, 3)) (hn : pc + 3 = n) (hc : Cond.classLink own idx "UnseenRing$Square" ∈ am_gt) (hz : ¬ z < 0) (hw : z.toNatClampNeg = w) (hb : w ≤ 10000) (hR : am_Rok R (am_SHp q)) (hl : (am_SHp q).length = q) (hs : am_SHp q ++ [.inr (5, w)] = am_SHp (q + 1)) (hok : am_okb q ls st = true) (hlen : q < 1000) (kk : am_Wp (d, own, cc, nL, ini) kc ks n ls (.ref q :: st) (am_clr I q 0, am_clr L q 0, am_clr R q none, am_SHp (q + 1)) Q) : am_Wp (d, own, cc, nL, ini) (kc + 1) (ks + w) pc ls (.int z :: st) (I, L, R, am_SHp q) Q := by
  refine am_anew5 hd hn hc hz hw hb hR (by rw [hl]; exact am_ok_of hok) (by rw [hl]; exact hlen) ?_
  rw [am_push, hl, hs]
  exact kk
theorem am_objInit2 {idx q n : Nat} {sh : List am_Sh} (hd : decode cc pc = .ok (.invokespecial idx, 3)) (hn : pc + 3 = n) (hc1 : Cond.methodLink own idx Lib.objectInit ∈ am_gt) (hst : (st.map fun v => v.category).sum ≤ 8) (hdd : 0 < d) (kk : am_Wp (d, own, cc, nL, ini) kc ks n ls st (I, L, R, sh) Q) : am_Wp (d, own, cc, nL, ini) kc ks pc ls (.ref q :: st) (I, L, R, sh) Q := by
  obtain ⟨e, rfl⟩ : ∃ e, d = e + 1 := ⟨d - 1, by omega⟩
  exact am_objInit hd hn hc1 oi_i oi_c hst kk
theorem am_aastC4 {q n w x j : Nat} {i : Int32} {sh : List am_Sh} (hd : decode cc pc = .ok (.aastore, 1)) (hn : pc + 1 = n) (hs : sh[q]? = some (.inr (4, w))) (hx : sh[x]? = some (.inl 10)) (hi : vp_in i w) (hj : i.toNatClampNeg = j) (kk : am_Wp (d, own, cc, nL, ini) kc ks n ls st (I, L, am_u2 R q j (some x), sh) Q) : am_Wp (d, own, cc, nL, ini) kc ks pc ls (.ref x :: .int i :: .ref q :: st) (I, L, R, sh) Q := by subst hj; exact am_aast4 hd hn hs hx hi kk
theorem am_aastC5 {q n w x j : Nat} {i : Int32} {sh : List am_Sh} (hd : decode cc pc = .ok (.aastore, 1)) (hn : pc + 1 = n) (hs : sh[q]? = some (.inr (5, w))) (hx : sh[x]? = some (.inl 7)) (hi : vp_in i w) (hj : i.toNatClampNeg = j) (kk : am_Wp (d, own, cc, nL, ini) kc ks n ls st (I, L, am_u2 R q j (some x), sh) Q) : am_Wp (d, own, cc, nL, ini) kc ks pc ls (.ref x :: .int i :: .ref q :: st) (I, L, R, sh) Q := by subst hj; exact am_aast5 hd hn hs hx hi kk
end AMN
theorem df_Covering : ∀ j, j < 4 → defaultValue ((am_ty.getD 0 t_Covering) j) = vp_V ((am_kinds.getD 0 []).map (fun kd => if kd = 1 then Value.long 0 else if kd = 2 then .null else .int 0)) j := by decide +kernel
theorem df_Days : ∀ j, j < 8 → defaultValue ((am_ty.getD 1 t_Covering) j) = vp_V ((am_kinds.getD 1 []).map (fun kd => if kd = 1 then Value.long 0 else if kd = 2 then .null else .int 0)) j := by decide +kernel
theorem df_DaysReader : ∀ j, j < 2 → defaultValue ((am_ty.getD 2 t_Covering) j) = vp_V ((am_kinds.getD 2 []).map (fun kd => if kd = 1 then Value.long 0 else if kd = 2 then .null else .int 0)) j := by decide +kernel
theorem df_Knowing : ∀ j, j < 3 → defaultValue ((am_ty.getD 3 t_Covering) j) = vp_V ((am_kinds.getD 3 []).map (fun kd => if kd = 1 then Value.long 0 else if kd = 2 then .null else .int 0)) j := by decide +kernel
theorem df_Life : ∀ j, j < 12 → defaultValue ((am_ty.getD 4 t_Covering) j) = vp_V ((am_kinds.getD 4 []).map (fun kd => if kd = 1 then Value.long 0 else if kd = 2 then .null else .int 0)) j := by decide +kernel
theorem df_Placings : ∀ j, j < 3 → defaultValue ((am_ty.getD 5 t_Covering) j) = vp_V ((am_kinds.getD 5 []).map (fun kd => if kd = 1 then Value.long 0 else if kd = 2 then .null else .int 0)) j := by decide +kernel
theorem df_Rows : ∀ j, j < 6 → defaultValue ((am_ty.getD 6 t_Covering) j) = vp_V ((am_kinds.getD 6 []).map (fun kd => if kd = 1 then Value.long 0 else if kd = 2 then .null else .int 0)) j := by decide +kernel
theorem df_Square : ∀ j, j < 16 → defaultValue ((am_ty.getD 7 t_Covering) j) = vp_V ((am_kinds.getD 7 []).map (fun kd => if kd = 1 then Value.long 0 else if kd = 2 then .null else .int 0)) j := by decide +kernel
theorem df_SquareReader : ∀ j, j < 3 → defaultValue ((am_ty.getD 8 t_Covering) j) = vp_V ((am_kinds.getD 8 []).map (fun kd => if kd = 1 then Value.long 0 else if kd = 2 then .null else .int 0)) j := by decide +kernel
theorem df_Tokens : ∀ j, j < 12 → defaultValue ((am_ty.getD 9 t_Covering) j) = vp_V ((am_kinds.getD 9 []).map (fun kd => if kd = 1 then Value.long 0 else if kd = 2 then .null else .int 0)) j := by decide +kernel
theorem df_Tray : ∀ j, j < 3 → defaultValue ((am_ty.getD 10 t_Covering) j) = vp_V ((am_kinds.getD 10 []).map (fun kd => if kd = 1 then Value.long 0 else if kd = 2 then .null else .int 0)) j := by decide +kernel
theorem df_U : ∀ j, j < 18 → defaultValue ((am_ty.getD 11 t_Covering) j) = vp_V ((am_kinds.getD 11 []).map (fun kd => if kd = 1 then Value.long 0 else if kd = 2 then .null else .int 0)) j := by decide +kernel
theorem df_M : ∀ j, j < 51 → defaultValue ((am_ty.getD 12 t_Covering) j) = vp_V ((am_kinds.getD 12 []).map (fun kd => if kd = 1 then Value.long 0 else if kd = 2 then .null else .int 0)) j := by decide +kernel
theorem sl_ : ∀ n, n < 134 → (am_SHp n).length = n := by decide +kernel
/-- the reserved words, as the constructor of Tokens packs them -/
def tk_run : Nat → Nat → Nat → Int64 → am_TL → am_TL
  | 0, _, _, _, L => L
  | m + 1, i, ix, pk, L => if am_byt0.getD i 0 &&& 255 = 32 then (if ix < 25 then tk_run m (i + 1) (ix + 1) 0 (am_u2 L 4 ix pk) else tk_run m (i + 1) ix pk L) else tk_run m (i + 1) ix (pk * 32 + Int32.toInt64 ((am_byt0.getD i 0 &&& 255) - 97 + 1)) L
theorem cg_withLetter {d : Nat} {p0 : Int64} {p2 : Int32} {σ : am_St} : am_Cm d 0 0 y_Tokens_withLetter b_Tokens_withLetter 3 (some .long) [.long p0, .int p2] σ (fun r σ' => r = some (.long (p0 * 32 + Int32.toInt64 (p2 - 97 + 1))) ∧ σ' = σ) := by
  refine am_Cm_of (ini := false) (by decide +kernel) (fun z => by cases z) (by simp [Value.category]) (fun r σ' z => by obtain ⟨rfl, -⟩ := z; rfl) ?_
  show am_Wp (d, "UnseenRing$Tokens", b_Tokens_withLetter, 3, false) 0 0 0 [some (.long p0), none, some (.int p2)] [] σ _
  refine am_lload_n (n := 1) d_Tokens_withLetter_0 rfl rfl ?_
  refine am_ldc2 (n := 4) d_Tokens_withLetter_1 k_Tokens_113 rfl ?_
  refine am_lmul (n := 5) d_Tokens_withLetter_4 rfl ?_
  refine am_iload_n (n := 6) d_Tokens_withLetter_5 rfl rfl ?_
  refine am_bipush (n := 8) d_Tokens_withLetter_6 cb_97 rfl ?_
  refine am_isub (n := 9) d_Tokens_withLetter_8 rfl ?_
  refine am_iconst (n := 10) d_Tokens_withLetter_9 ci_1 rfl ?_
  refine am_iadd (n := 11) d_Tokens_withLetter_10 rfl ?_
  refine am_i2l (n := 12) d_Tokens_withLetter_11 rfl ?_
  refine am_ladd (n := 13) d_Tokens_withLetter_12 rfl ?_
  exact am_lret d_Tokens_withLetter_13 ⟨rfl, rfl⟩
theorem cg_length {d i : Nat} (hi : i < 2) (hd : 1 ≤ d) {σ : am_St} : am_Cm d 0 0 y_String_length b_String_length 1 (some .int) [.ref (1001 + i)] σ (fun r σ' => r = some (.int (nI (am_len.getD i 0))) ∧ σ' = σ) := by
  refine am_Cm_of (ini := false) (by decide +kernel) (fun z => by cases z) (by simp [Value.category]) (fun r σ' z => by obtain ⟨rfl, -⟩ := z; exact ⟨_, rfl, rfl⟩) ?_
  show am_Wp (d, "java/lang/String", b_String_length, 1, false) 0 0 0 [some (.ref (1001 + i))] [] σ _
  refine am_aload_n (n := 1) d_String_length_0 rfl rfl ?_
  refine am_getSV (n := 4) hi d_String_length_1 rfl fs_String_9 ?_
  refine am_lenS (n := 5) hi d_String_length_4 rfl ?_
  refine am_aload_n (n := 6) d_String_length_5 rfl rfl ?_
  refine am_callStr (As := []) (n := 9) d_String_length_6 rfl ce_String_coder lk_String_335 in_String_coder rfl ⟨i, hi, rfl⟩ rfl rfl (Nat.le_of_ble_eq_true rfl) (cm_String_coder (d := d - 1) hi) (by omega) ?_
  rintro _ _ ⟨rfl, rfl⟩
  show am_Wp (d, "java/lang/String", b_String_length, 1, false) 0 0 9 [some (.ref (1001 + i))] [.int 0, .int (nI (am_len.getD i 0))] _ _
  refine am_ishr (n := 10) d_String_length_9 rfl ?_
  rw [sc_shr0 (by have := am_len_lt i hi; omega)]
  exact am_iret d_String_length_10 ⟨rfl, rfl⟩
theorem cg_charAt {d i : Nat} {k : Int32} (hi : i < 2) (hd : 3 ≤ d) (hk : vp_in k (am_len.getD i 0)) {σ : am_St} : am_Cm d 0 0 y_String_charAt b_String_charAt 2 (some .char) [.ref (1001 + i), .int k] σ (fun r σ' => r = some (.int ((am_byt.getD i []).getD k.toNatClampNeg 0 &&& 255)) ∧ σ' = σ) := by
  refine am_Cm_of (ini := false) (by decide +kernel) (fun z => by cases z) (by simp [Value.category]) (fun r σ' z => by obtain ⟨rfl, -⟩ := z; exact ⟨_, rfl, sc_nar _⟩) ?_
  show am_Wp (d, "java/lang/String", b_String_charAt, 2, false) 0 0 0 [some (.ref (1001 + i)), some (.int k)] [] σ _
  refine am_aload_n (n := 1) d_String_charAt_0 rfl rfl ?_
  refine am_callStr (As := []) (n := 4) d_String_charAt_1 rfl ce_String_isLatin1 lk_String_492 in_String_isLatin1 rfl ⟨i, hi, rfl⟩ rfl rfl (Nat.le_of_ble_eq_true rfl) (cm_String_isLatin1 (d := d - 1) hi) (by omega) ?_
  rintro _ _ ⟨rfl, rfl⟩
  show am_Wp (d, "java/lang/String", b_String_charAt, 2, false) 0 0 4 [some (.ref (1001 + i)), some (.int k)] [.int 1] _ _
  refine am_if_eq (y := 0) (tgt := 16) (n := 7) d_String_charAt_4 rfl rfl (fun c => absurd c (by decide)) (fun c => ?_)
  refine am_aload_n (n := 8) d_String_charAt_7 rfl rfl ?_
  refine am_getSV (n := 11) hi d_String_charAt_8 rfl fs_String_9 ?_
  refine am_iload_n (n := 12) d_String_charAt_11 rfl rfl ?_
  refine am_callS (kc := 0) (ks := 0) (As := [.ref (1011 + i), .int k]) (n := 15) d_String_charAt_12 rfl ce_StringLatin1_charAt lk_String_495 st_StringLatin1_charAt rfl rfl (Nat.le_of_ble_eq_true rfl) (Or.inl rfl) (cm_Latin1_charAt (d := d - 1) hi (by omega) hk) (by omega) ?_
  rintro _ _ ⟨rfl, rfl⟩
  exact am_iret d_String_charAt_15 ⟨rfl, rfl⟩
theorem ct_loop {d : Nat} (hd : 4 ≤ d) {I : am_TI} {R : am_TR} (h4 : R 2 1 = some 4) {Q : Option Value → am_St → Prop} : ∀ (m i ix : Nat) (pk : Int64) (L : am_TL), i + m = 125 → ix ≤ 25 → Q none (I, tk_run m i ix pk L, R, am_SHp 8) → am_Wp (d, "UnseenRing$Tokens", b_Tokens_init, 6, true) 0 0 90 [some (.ref 2), some (.int (nI ix)), some (.long pk), none, some (.int (nI i)), none] [] (I, L, R, am_SHp 8) Q := by
  intro m
  induction m with
  | zero =>
    intro i ix pk L hi hx h
    refine am_iload (n := 92) d_Tokens_init_90 rfl rfl ?_
    refine am_ldcS0 (n := 94) d_Tokens_init_92 rfl ?_
    refine am_callStr (As := []) (n := 97) d_Tokens_init_94 rfl ce_String_length lk_Tokens_53 in_String_length rfl ⟨0, by decide, rfl⟩ rfl rfl (Nat.le_of_ble_eq_true rfl) (cg_length (d := d - 1) (i := 0) (by decide) (by omega)) (by omega) ?_
    rintro _ _ ⟨rfl, rfl⟩
    show am_Wp (d, "UnseenRing$Tokens", b_Tokens_init, 6, true) 0 0 97 [some (.ref 2), some (.int (nI ix)), some (.long pk), none, some (.int (nI i)), none] [.int (nI 125), .int (nI i)] _ _
    refine am_icmp_ge (tgt := 150) (n := 100) d_Tokens_init_97 rfl rfl (fun c => ?_) (fun c => absurd (nI_le (by omega) (by omega)) c)
    exact am_vret d_Tokens_init_150 h
  | succ m ih =>
    intro i ix pk L hi hx h
    have hin : vp_in (nI i) 125 := vp_in_nI (by omega) (by omega)
    refine am_iload (n := 92) d_Tokens_init_90 rfl rfl ?_
    refine am_ldcS0 (n := 94) d_Tokens_init_92 rfl ?_
    refine am_callStr (As := []) (n := 97) d_Tokens_init_94 rfl ce_String_length lk_Tokens_53 in_String_length rfl ⟨0, by decide, rfl⟩ rfl rfl (Nat.le_of_ble_eq_true rfl) (cg_length (d := d - 1) (i := 0) (by decide) (by omega)) (by omega) ?_
    rintro _ _ ⟨rfl, rfl⟩
    show am_Wp (d, "UnseenRing$Tokens", b_Tokens_init, 6, true) 0 0 97 [some (.ref 2), some (.int (nI ix)), some (.long pk), none, some (.int (nI i)), none] [.int (nI 125), .int (nI i)] _ _
    refine am_icmp_ge (tgt := 150) (n := 100) d_Tokens_init_97 rfl rfl (fun c => absurd c (nI_ge (by omega) (by omega))) (fun c => ?_)
    refine am_ldcS0 (n := 102) d_Tokens_init_100 rfl ?_
    refine am_iload (n := 104) d_Tokens_init_102 rfl rfl ?_
    refine am_callStr (As := [.int (nI i)]) (n := 107) d_Tokens_init_104 rfl ce_String_charAt lk_Tokens_58 in_String_charAt rfl ⟨0, by decide, rfl⟩ rfl rfl (Nat.le_of_ble_eq_true rfl) (cg_charAt (d := d - 1) (i := 0) (by decide) (by omega) hin) (by omega) ?_
    rintro _ _ ⟨rfl, rfl⟩
    show am_Wp (d, "UnseenRing$Tokens", b_Tokens_init, 6, true) 0 0 107 [some (.ref 2), some (.int (nI ix)), some (.long pk), none, some (.int (nI i)), none] [.int (am_byt0.getD (nI i).toNatClampNeg 0 &&& 255)] _ _
    rw [nI_clamp (by omega)]
    refine am_istore (ls' := [some (.ref 2), some (.int (nI ix)), some (.long pk), none, some (.int (nI i)), some (.int (am_byt0.getD i 0 &&& 255))]) (n := 109) d_Tokens_init_107 (by decide) rfl rfl ?_
    refine am_iload (n := 111) d_Tokens_init_109 rfl rfl ?_
    refine am_bipush (n := 113) (v := 32) d_Tokens_init_111 (by decide) rfl ?_
    unfold tk_run at h
    refine am_icmp_eq (tgt := 126) (n := 116) d_Tokens_init_113 rfl rfl (fun c => ?_) (fun c => ?_)
    · rw [if_pos c] at h
      refine am_iload_n (n := 127) d_Tokens_init_126 rfl rfl ?_
      refine am_bipush (n := 129) (v := nI 25) d_Tokens_init_127 (by decide +kernel) rfl ?_
      by_cases h25 : ix < 25
      · rw [if_pos h25] at h
        refine am_icmp_ge (tgt := 144) (n := 132) d_Tokens_init_129 rfl rfl (fun z => absurd z (nI_ge h25 (by omega))) (fun c => ?_)
        refine am_aload_n (n := 133) d_Tokens_init_132 rfl rfl ?_
        refine am_getR (x := 4) (n := 136) f_Tokens_15 d_Tokens_init_133 rfl rfl rfl h4 ?_
        refine am_iload_n (n := 137) d_Tokens_init_136 rfl rfl ?_
        refine am_lload_n (n := 138) d_Tokens_init_137 rfl rfl ?_
        refine am_last2 (j := ix) (n := 139) d_Tokens_init_138 rfl rfl (vp_in_nI h25 (by omega)) (nI_clamp (by omega)) ?_
        refine am_iinc (v := nI (ix + 1)) (ls' := [some (.ref 2), some (.int (nI (ix + 1))), some (.long pk), none, some (.int (nI i)), some (.int (am_byt0.getD i 0 &&& 255))]) (n := 142) d_Tokens_init_139 rfl (nI_1 ix) (by decide) rfl rfl ?_
        refine am_lconst (v := 0) (n := 143) d_Tokens_init_142 rfl rfl ?_
        refine am_lstore_n (ls' := [some (.ref 2), some (.int (nI (ix + 1))), some (.long 0), none, some (.int (nI i)), some (.int (am_byt0.getD i 0 &&& 255))]) (n := 144) d_Tokens_init_143 (by decide) rfl rfl ?_
        refine am_iinc (v := nI (i + 1)) (ls' := [some (.ref 2), some (.int (nI (ix + 1))), some (.long 0), none, some (.int (nI (i + 1))), some (.int (am_byt0.getD i 0 &&& 255))]) (n := 147) d_Tokens_init_144 rfl (nI_1 i) (by decide) rfl rfl ?_
        refine am_goto (tgt := 90) d_Tokens_init_147 rfl ?_
        refine am_forget (ls' := [some (.ref 2), some (.int (nI (ix + 1))), some (.long 0), none, some (.int (nI (i + 1))), none]) (am_le_s (am_le_s (am_le_s (am_le_n (am_le_s (am_le_n am_le_e)))))) ?_
        exact ih (i + 1) (ix + 1) 0 _ (by omega) (by omega) h
      · rw [if_neg h25] at h
        refine am_icmp_ge (tgt := 144) (n := 132) d_Tokens_init_129 rfl rfl (fun c => ?_) (fun z => absurd (nI_le (by omega) (by omega)) z)
        refine am_iinc (v := nI (i + 1)) (ls' := [some (.ref 2), some (.int (nI ix)), some (.long pk), none, some (.int (nI (i + 1))), some (.int (am_byt0.getD i 0 &&& 255))]) (n := 147) d_Tokens_init_144 rfl (nI_1 i) (by decide) rfl rfl ?_
        refine am_goto (tgt := 90) d_Tokens_init_147 rfl ?_
        refine am_forget (ls' := [some (.ref 2), some (.int (nI ix)), some (.long pk), none, some (.int (nI (i + 1))), none]) (am_le_s (am_le_s (am_le_s (am_le_n (am_le_s (am_le_n am_le_e)))))) ?_
        exact ih (i + 1) ix pk _ (by omega) hx h
    · rw [if_neg c] at h
      refine am_lload_n (n := 117) d_Tokens_init_116 rfl rfl ?_
      refine am_iload (n := 119) d_Tokens_init_117 rfl rfl ?_
      refine am_callS (kc := 0) (ks := 0) (As := [.long pk, .int (am_byt0.getD i 0 &&& 255)]) (n := 122) d_Tokens_init_119 rfl ce_Tokens_withLetter lk_Tokens_62 st_Tokens_withLetter rfl rfl (Nat.le_of_ble_eq_true rfl) (Or.inl rfl) (cg_withLetter (d := d - 1)) (by omega) ?_
      rintro _ _ ⟨rfl, rfl⟩
      show am_Wp (d, "UnseenRing$Tokens", b_Tokens_init, 6, true) 0 0 122 [some (.ref 2), some (.int (nI ix)), some (.long pk), none, some (.int (nI i)), some (.int (am_byt0.getD i 0 &&& 255))] [.long (pk * 32 + Int32.toInt64 ((am_byt0.getD i 0 &&& 255) - 97 + 1))] _ _
      refine am_lstore_n (ls' := [some (.ref 2), some (.int (nI ix)), some (.long (pk * 32 + Int32.toInt64 ((am_byt0.getD i 0 &&& 255) - 97 + 1))), none, some (.int (nI i)), some (.int (am_byt0.getD i 0 &&& 255))]) (n := 123) d_Tokens_init_122 (by decide) rfl rfl ?_
      refine am_goto (tgt := 144) d_Tokens_init_123 rfl ?_
      refine am_iinc (v := nI (i + 1)) (ls' := [some (.ref 2), some (.int (nI ix)), some (.long (pk * 32 + Int32.toInt64 ((am_byt0.getD i 0 &&& 255) - 97 + 1))), none, some (.int (nI (i + 1))), some (.int (am_byt0.getD i 0 &&& 255))]) (n := 147) d_Tokens_init_144 rfl (nI_1 i) (by decide) rfl rfl ?_
      refine am_goto (tgt := 90) d_Tokens_init_147 rfl ?_
      refine am_forget (ls' := [some (.ref 2), some (.int (nI ix)), some (.long (pk * 32 + Int32.toInt64 ((am_byt0.getD i 0 &&& 255) - 97 + 1))), none, some (.int (nI (i + 1))), none]) (am_le_s (am_le_s (am_le_s (am_le_n (am_le_s (am_le_n am_le_e)))))) ?_
      exact ih (i + 1) ix _ _ (by omega) hx h
def ci_Tokens_2 (I : am_TI) : am_TI := (am_u2 (am_u2 (am_u2 (am_u2 (am_u2 (am_u2 (am_u2 (am_clr (am_clr (am_clr (am_clr (am_clr I 3 0) 4 0) 5 0) 6 0) 7 0) 2 5 0) 2 6 0) 2 7 0) 2 8 0) 2 9 (-1)) 2 10 (-1)) 2 11 (-1))
def cl_Tokens_2 (L : am_TL) : am_TL := tk_run 125 0 0 0 (am_clr (am_clr (am_clr (am_clr (am_clr L 3 0) 4 0) 5 0) 6 0) 7 0)
def cr_Tokens_2 (R : am_TR) : am_TR := (am_u2 (am_clr (am_u2 (am_clr (am_u2 (am_clr (am_u2 (am_clr (am_u2 (am_clr R 3 none) 2 0 (some 3)) 4 none) 2 1 (some 4)) 5 none) 2 2 (some 5)) 6 none) 2 3 (some 6)) 7 none) 2 4 (some 7))
theorem rk_Tokens_2 {R : am_TR} (hR : am_Rok R (am_SHp 3)) : am_Rok (cr_Tokens_2 R) (am_SHp 8) := (am_rok_put (am_rok_clr (am_rok_put (am_rok_clr (am_rok_put (am_rok_clr (am_rok_put (am_rok_clr (am_rok_put (am_rok_clr hR (sl_ 3 (by decide)) (sl_ 4 (by decide))) (by decide +kernel)) (sl_ 4 (by decide)) (sl_ 5 (by decide))) (by decide +kernel)) (sl_ 5 (by decide)) (sl_ 6 (by decide))) (by decide +kernel)) (sl_ 6 (by decide)) (sl_ 7 (by decide))) (by decide +kernel)) (sl_ 7 (by decide)) (sl_ 8 (by decide))) (by decide +kernel))
theorem cro_Tokens_2 {R : am_TR} {a k : Nat} (h : a < 2) : cr_Tokens_2 R a k = R a k := by
  unfold cr_Tokens_2
  repeat first | rw [am_u2o (by omega)] | rw [am_clro (by omega)]
  try rfl
set_option maxRecDepth 20000 in
theorem cc_Tokens_2 {d : Nat} {I : am_TI} {L : am_TL} {R : am_TR} (hR : am_Rok R (am_SHp 3)) (hd : 5 ≤ d) : am_Cm d 5 3628 y_Tokens_init b_Tokens_init 6 none [.ref 2] (I, L, R, am_SHp 3) (fun r σ' => r = none ∧ σ' = (ci_Tokens_2 I, cl_Tokens_2 L, cr_Tokens_2 R, am_SHp 8)) := by
  refine am_Cm_of (ini := true) (by decide +kernel) (fun _ => rfl) (by simp [Value.category]) (fun r σ' z => by obtain ⟨rfl, -⟩ := z; rfl) ?_
  show am_Wp (d, "UnseenRing$Tokens", b_Tokens_init, 6, true) 5 3628 0 [some (.ref 2), none, none, none, none, none] [] (I, L, R, am_SHp 3) _
  refine am_aload_n (n := 1) d_Tokens_init_0 rfl rfl ?_
  refine am_objInit2 (n := 4) d_Tokens_init_1 rfl lo_Tokens_3 (Nat.le_of_ble_eq_true rfl) (by omega) ?_
  refine am_aload_n (n := 5) d_Tokens_init_4 rfl rfl ?_
  refine am_sipush (n := 8) d_Tokens_init_5 cs_900 rfl ?_
  refine am_newaC_byte (kc := 4) (ks := 2728) (w := 900) (n := 10) d_Tokens_init_8 rfl (by decide) (by decide +kernel) (by decide) hR (sl_ 3 (by decide)) rfl rfl (by decide) ?_
  refine am_putR (n := 13) f_Tokens_11 d_Tokens_init_10 rfl ⟨_, rfl, Or.inr ⟨rfl, rfl, rfl⟩⟩ rfl rfl rfl ?_
  refine am_aload_n (n := 14) d_Tokens_init_13 rfl rfl ?_
  refine am_bipush (n := 16) d_Tokens_init_14 cb_25 rfl ?_
  refine am_newaC_long (kc := 3) (ks := 2703) (w := 25) (n := 18) d_Tokens_init_16 rfl (by decide) (by decide +kernel) (by decide) (am_rok_put (am_rok_clr hR (sl_ 3 (by decide)) (sl_ 4 (by decide))) (by decide +kernel)) (sl_ 4 (by decide)) rfl rfl (by decide) ?_
  refine am_putR (n := 21) f_Tokens_15 d_Tokens_init_18 rfl ⟨_, rfl, Or.inr ⟨rfl, rfl, rfl⟩⟩ rfl rfl rfl ?_
  refine am_aload_n (n := 22) d_Tokens_init_21 rfl rfl ?_
  refine am_sipush (n := 25) d_Tokens_init_22 cs_901 rfl ?_
  refine am_newaC_int (kc := 2) (ks := 1802) (w := 901) (n := 27) d_Tokens_init_25 rfl (by decide) (by decide +kernel) (by decide) (am_rok_put (am_rok_clr (am_rok_put (am_rok_clr hR (sl_ 3 (by decide)) (sl_ 4 (by decide))) (by decide +kernel)) (sl_ 4 (by decide)) (sl_ 5 (by decide))) (by decide +kernel)) (sl_ 5 (by decide)) rfl rfl (by decide) ?_
  refine am_putR (n := 30) f_Tokens_19 d_Tokens_init_27 rfl ⟨_, rfl, Or.inr ⟨rfl, rfl, rfl⟩⟩ rfl rfl rfl ?_
  refine am_aload_n (n := 31) d_Tokens_init_30 rfl rfl ?_
  refine am_sipush (n := 34) d_Tokens_init_31 cs_901 rfl ?_
  refine am_newaC_int (kc := 1) (ks := 901) (w := 901) (n := 36) d_Tokens_init_34 rfl (by decide) (by decide +kernel) (by decide) (am_rok_put (am_rok_clr (am_rok_put (am_rok_clr (am_rok_put (am_rok_clr hR (sl_ 3 (by decide)) (sl_ 4 (by decide))) (by decide +kernel)) (sl_ 4 (by decide)) (sl_ 5 (by decide))) (by decide +kernel)) (sl_ 5 (by decide)) (sl_ 6 (by decide))) (by decide +kernel)) (sl_ 6 (by decide)) rfl rfl (by decide) ?_
  refine am_putR (n := 39) f_Tokens_23 d_Tokens_init_36 rfl ⟨_, rfl, Or.inr ⟨rfl, rfl, rfl⟩⟩ rfl rfl rfl ?_
  refine am_aload_n (n := 40) d_Tokens_init_39 rfl rfl ?_
  refine am_sipush (n := 43) d_Tokens_init_40 cs_901 rfl ?_
  refine am_newaC_long (kc := 0) (ks := 0) (w := 901) (n := 45) d_Tokens_init_43 rfl (by decide) (by decide +kernel) (by decide) (am_rok_put (am_rok_clr (am_rok_put (am_rok_clr (am_rok_put (am_rok_clr (am_rok_put (am_rok_clr hR (sl_ 3 (by decide)) (sl_ 4 (by decide))) (by decide +kernel)) (sl_ 4 (by decide)) (sl_ 5 (by decide))) (by decide +kernel)) (sl_ 5 (by decide)) (sl_ 6 (by decide))) (by decide +kernel)) (sl_ 6 (by decide)) (sl_ 7 (by decide))) (by decide +kernel)) (sl_ 7 (by decide)) rfl rfl (by decide) ?_
  refine am_putR (n := 48) f_Tokens_26 d_Tokens_init_45 rfl ⟨_, rfl, Or.inr ⟨rfl, rfl, rfl⟩⟩ rfl rfl rfl ?_
  refine am_aload_n (n := 49) d_Tokens_init_48 rfl rfl ?_
  refine am_iconst (n := 50) d_Tokens_init_49 ci_0 rfl ?_
  refine am_putI (n := 53) f_Tokens_29 d_Tokens_init_50 rfl ⟨_, rfl, Or.inl rfl⟩ rfl rfl rfl ?_
  refine am_aload_n (n := 54) d_Tokens_init_53 rfl rfl ?_
  refine am_iconst (n := 55) d_Tokens_init_54 ci_0 rfl ?_
  refine am_putI (n := 58) f_Tokens_33 d_Tokens_init_55 rfl ⟨_, rfl, Or.inl rfl⟩ rfl rfl rfl ?_
  refine am_aload_n (n := 59) d_Tokens_init_58 rfl rfl ?_
  refine am_iconst (n := 60) d_Tokens_init_59 ci_0 rfl ?_
  refine am_putI (n := 63) f_Tokens_36 d_Tokens_init_60 rfl ⟨_, rfl, Or.inl rfl⟩ rfl rfl rfl ?_
  refine am_aload_n (n := 64) d_Tokens_init_63 rfl rfl ?_
  refine am_iconst (n := 65) d_Tokens_init_64 ci_0 rfl ?_
  refine am_putI (n := 68) f_Tokens_39 d_Tokens_init_65 rfl ⟨_, rfl, Or.inl rfl⟩ rfl rfl rfl ?_
  refine am_aload_n (n := 69) d_Tokens_init_68 rfl rfl ?_
  refine am_iconst (n := 70) d_Tokens_init_69 ci_m1 rfl ?_
  refine am_putI (n := 73) f_Tokens_42 d_Tokens_init_70 rfl ⟨_, rfl, Or.inl rfl⟩ rfl rfl rfl ?_
  refine am_aload_n (n := 74) d_Tokens_init_73 rfl rfl ?_
  refine am_iconst (n := 75) d_Tokens_init_74 ci_m1 rfl ?_
  refine am_putI (n := 78) f_Tokens_45 d_Tokens_init_75 rfl ⟨_, rfl, Or.inl rfl⟩ rfl rfl rfl ?_
  refine am_aload_n (n := 79) d_Tokens_init_78 rfl rfl ?_
  refine am_iconst (n := 80) d_Tokens_init_79 ci_m1 rfl ?_
  refine am_putI (n := 83) f_Tokens_48 d_Tokens_init_80 rfl ⟨_, rfl, Or.inl rfl⟩ rfl rfl rfl ?_
  refine am_iconst (n := 84) d_Tokens_init_83 ci_0 rfl ?_
  refine am_istore_n (ls' := [some (.ref 2), some (.int 0), none, none, none, none]) (n := 85) d_Tokens_init_84 (by decide) rfl rfl ?_
  refine am_lconst (v := 0) (n := 86) d_Tokens_init_85 rfl rfl ?_
  refine am_lstore_n (ls' := [some (.ref 2), some (.int 0), some (.long 0), none, none, none]) (n := 87) d_Tokens_init_86 (by decide) rfl rfl ?_
  refine am_iconst (n := 88) d_Tokens_init_87 ci_0 rfl ?_
  refine am_istore (ls' := [some (.ref 2), some (.int 0), some (.long 0), none, some (.int 0), none]) (n := 90) d_Tokens_init_88 (by decide) rfl rfl ?_
  exact ct_loop (by omega) (by simp [am_u2, am_clr]) 125 0 0 0 _ (by decide) (by decide) ⟨rfl, rfl⟩
def ci_SquareReader_8 (I : am_TI) : am_TI := (am_u2 (am_u2 (am_u2 I 8 0 0) 8 1 0) 8 2 0)
def cl_SquareReader_8 (L : am_TL) : am_TL := L
def cr_SquareReader_8 (R : am_TR) : am_TR := R
theorem rk_SquareReader_8 {R : am_TR} (hR : am_Rok R (am_SHp 9)) : am_Rok (cr_SquareReader_8 R) (am_SHp 9) := hR
theorem cro_SquareReader_8 {R : am_TR} {a k : Nat} (h : a < 8) : cr_SquareReader_8 R a k = R a k := by
  unfold cr_SquareReader_8
  repeat first | rw [am_u2o (by omega)] | rw [am_clro (by omega)]
  try rfl
set_option maxRecDepth 20000 in
theorem cc_SquareReader_8 {d : Nat} {I : am_TI} {L : am_TL} {R : am_TR} (hR : am_Rok R (am_SHp 9)) (hd : 1 ≤ d) : am_Cm d 0 0 y_SquareReader_init b_SquareReader_init 1 none [.ref 8] (I, L, R, am_SHp 9) (fun r σ' => r = none ∧ σ' = (ci_SquareReader_8 I, cl_SquareReader_8 L, cr_SquareReader_8 R, am_SHp 9)) := by
  refine am_Cm_of (ini := true) (by decide +kernel) (fun _ => rfl) (by simp [Value.category]) (fun r σ' z => by obtain ⟨rfl, -⟩ := z; rfl) ?_
  show am_Wp (d, "UnseenRing$SquareReader", b_SquareReader_init, 1, true) 0 0 0 [some (.ref 8)] [] (I, L, R, am_SHp 9) _
  refine am_aload_n (n := 1) d_SquareReader_init_0 rfl rfl ?_
  refine am_objInit2 (n := 4) d_SquareReader_init_1 rfl lo_SquareReader_3 (Nat.le_of_ble_eq_true rfl) (by omega) ?_
  refine am_aload_n (n := 5) d_SquareReader_init_4 rfl rfl ?_
  refine am_iconst (n := 6) d_SquareReader_init_5 ci_0 rfl ?_
  refine am_putZ (n := 9) f_SquareReader_9 d_SquareReader_init_6 rfl ⟨_, rfl, Or.inl rfl⟩ rfl rfl rfl (Or.inl rfl) ?_
  refine am_aload_n (n := 10) d_SquareReader_init_9 rfl rfl ?_
  refine am_iconst (n := 11) d_SquareReader_init_10 ci_0 rfl ?_
  refine am_putZ (n := 14) f_SquareReader_15 d_SquareReader_init_11 rfl ⟨_, rfl, Or.inl rfl⟩ rfl rfl rfl (Or.inl rfl) ?_
  refine am_aload_n (n := 15) d_SquareReader_init_14 rfl rfl ?_
  refine am_iconst (n := 16) d_SquareReader_init_15 ci_0 rfl ?_
  refine am_putZ (n := 19) f_SquareReader_18 d_SquareReader_init_16 rfl ⟨_, rfl, Or.inl rfl⟩ rfl rfl rfl (Or.inl rfl) ?_
  exact am_vret d_SquareReader_init_19 ⟨rfl, rfl⟩
def ci_DaysReader_9 (I : am_TI) : am_TI := (am_u2 (am_clr I 10 0) 9 1 0)
def cl_DaysReader_9 (L : am_TL) : am_TL := (am_clr L 10 0)
def cr_DaysReader_9 (R : am_TR) : am_TR := (am_u2 (am_clr R 10 none) 9 0 (some 10))
theorem rk_DaysReader_9 {R : am_TR} (hR : am_Rok R (am_SHp 10)) : am_Rok (cr_DaysReader_9 R) (am_SHp 11) := (am_rok_put (am_rok_clr hR (sl_ 10 (by decide)) (sl_ 11 (by decide))) (by decide +kernel))
theorem cro_DaysReader_9 {R : am_TR} {a k : Nat} (h : a < 9) : cr_DaysReader_9 R a k = R a k := by
  unfold cr_DaysReader_9
  repeat first | rw [am_u2o (by omega)] | rw [am_clro (by omega)]
  try rfl
set_option maxRecDepth 20000 in
theorem cc_DaysReader_9 {d : Nat} {I : am_TI} {L : am_TL} {R : am_TR} (hR : am_Rok R (am_SHp 10)) (hd : 1 ≤ d) : am_Cm d 1 3 y_DaysReader_init b_DaysReader_init 1 none [.ref 9] (I, L, R, am_SHp 10) (fun r σ' => r = none ∧ σ' = (ci_DaysReader_9 I, cl_DaysReader_9 L, cr_DaysReader_9 R, am_SHp 11)) := by
  refine am_Cm_of (ini := true) (by decide +kernel) (fun _ => rfl) (by simp [Value.category]) (fun r σ' z => by obtain ⟨rfl, -⟩ := z; rfl) ?_
  show am_Wp (d, "UnseenRing$DaysReader", b_DaysReader_init, 1, true) 1 3 0 [some (.ref 9)] [] (I, L, R, am_SHp 10) _
  refine am_aload_n (n := 1) d_DaysReader_init_0 rfl rfl ?_
  refine am_objInit2 (n := 4) d_DaysReader_init_1 rfl lo_DaysReader_3 (Nat.le_of_ble_eq_true rfl) (by omega) ?_
  refine am_aload_n (n := 5) d_DaysReader_init_4 rfl rfl ?_
  refine am_iconst (n := 6) d_DaysReader_init_5 ci_3 rfl ?_
  refine am_newaC_int (kc := 0) (ks := 0) (w := 3) (n := 8) d_DaysReader_init_6 rfl (by decide) (by decide +kernel) (by decide) hR (sl_ 10 (by decide)) rfl rfl (by decide) ?_
  refine am_putR (n := 11) f_DaysReader_11 d_DaysReader_init_8 rfl ⟨_, rfl, Or.inr ⟨rfl, rfl, rfl⟩⟩ rfl rfl rfl ?_
  refine am_aload_n (n := 12) d_DaysReader_init_11 rfl rfl ?_
  refine am_iconst (n := 13) d_DaysReader_init_12 ci_0 rfl ?_
  refine am_putI (n := 16) f_DaysReader_15 d_DaysReader_init_13 rfl ⟨_, rfl, Or.inl rfl⟩ rfl rfl rfl ?_
  exact am_vret d_DaysReader_init_16 ⟨rfl, rfl⟩
def ci_Life_12 (I : am_TI) : am_TI := (am_u2 (am_u2 (am_u2 (am_u2 (am_u2 (am_u2 (am_u2 (am_u2 (am_u2 (am_u2 (am_u2 (am_clr I 13 0) 12 1 0) 12 2 0) 12 3 0) 12 4 0) 12 5 0) 12 6 0) 12 7 0) 12 8 0) 12 9 0) 12 10 0) 12 11 0)
def cl_Life_12 (L : am_TL) : am_TL := (am_clr L 13 0)
def cr_Life_12 (R : am_TR) : am_TR := (am_u2 (am_clr R 13 none) 12 0 (some 13))
theorem rk_Life_12 {R : am_TR} (hR : am_Rok R (am_SHp 13)) : am_Rok (cr_Life_12 R) (am_SHp 14) := (am_rok_put (am_rok_clr hR (sl_ 13 (by decide)) (sl_ 14 (by decide))) (by decide +kernel))
theorem cro_Life_12 {R : am_TR} {a k : Nat} (h : a < 12) : cr_Life_12 R a k = R a k := by
  unfold cr_Life_12
  repeat first | rw [am_u2o (by omega)] | rw [am_clro (by omega)]
  try rfl
set_option maxRecDepth 20000 in
theorem cc_Life_12 {d : Nat} {I : am_TI} {L : am_TL} {R : am_TR} (hR : am_Rok R (am_SHp 13)) (hd : 1 ≤ d) : am_Cm d 1 60 y_Life_init b_Life_init 1 none [.ref 12] (I, L, R, am_SHp 13) (fun r σ' => r = none ∧ σ' = (ci_Life_12 I, cl_Life_12 L, cr_Life_12 R, am_SHp 14)) := by
  refine am_Cm_of (ini := true) (by decide +kernel) (fun _ => rfl) (by simp [Value.category]) (fun r σ' z => by obtain ⟨rfl, -⟩ := z; rfl) ?_
  show am_Wp (d, "UnseenRing$Life", b_Life_init, 1, true) 1 60 0 [some (.ref 12)] [] (I, L, R, am_SHp 13) _
  refine am_aload_n (n := 1) d_Life_init_0 rfl rfl ?_
  refine am_objInit2 (n := 4) d_Life_init_1 rfl lo_Life_3 (Nat.le_of_ble_eq_true rfl) (by omega) ?_
  refine am_aload_n (n := 5) d_Life_init_4 rfl rfl ?_
  refine am_bipush (n := 7) d_Life_init_5 cb_60 rfl ?_
  refine am_newaC_int (kc := 0) (ks := 0) (w := 60) (n := 9) d_Life_init_7 rfl (by decide) (by decide +kernel) (by decide) hR (sl_ 13 (by decide)) rfl rfl (by decide) ?_
  refine am_putR (n := 12) f_Life_11 d_Life_init_9 rfl ⟨_, rfl, Or.inr ⟨rfl, rfl, rfl⟩⟩ rfl rfl rfl ?_
  refine am_aload_n (n := 13) d_Life_init_12 rfl rfl ?_
  refine am_iconst (n := 14) d_Life_init_13 ci_0 rfl ?_
  refine am_putI (n := 17) f_Life_17 d_Life_init_14 rfl ⟨_, rfl, Or.inl rfl⟩ rfl rfl rfl ?_
  refine am_aload_n (n := 18) d_Life_init_17 rfl rfl ?_
  refine am_iconst (n := 19) d_Life_init_18 ci_0 rfl ?_
  refine am_putI (n := 22) f_Life_21 d_Life_init_19 rfl ⟨_, rfl, Or.inl rfl⟩ rfl rfl rfl ?_
  refine am_aload_n (n := 23) d_Life_init_22 rfl rfl ?_
  refine am_iconst (n := 24) d_Life_init_23 ci_0 rfl ?_
  refine am_putI (n := 27) f_Life_24 d_Life_init_24 rfl ⟨_, rfl, Or.inl rfl⟩ rfl rfl rfl ?_
  refine am_aload_n (n := 28) d_Life_init_27 rfl rfl ?_
  refine am_iconst (n := 29) d_Life_init_28 ci_0 rfl ?_
  refine am_putZ (n := 32) f_Life_27 d_Life_init_29 rfl ⟨_, rfl, Or.inl rfl⟩ rfl rfl rfl (Or.inl rfl) ?_
  refine am_aload_n (n := 33) d_Life_init_32 rfl rfl ?_
  refine am_iconst (n := 34) d_Life_init_33 ci_0 rfl ?_
  refine am_putI (n := 37) f_Life_31 d_Life_init_34 rfl ⟨_, rfl, Or.inl rfl⟩ rfl rfl rfl ?_
  refine am_aload_n (n := 38) d_Life_init_37 rfl rfl ?_
  refine am_iconst (n := 39) d_Life_init_38 ci_0 rfl ?_
  refine am_putI (n := 42) f_Life_34 d_Life_init_39 rfl ⟨_, rfl, Or.inl rfl⟩ rfl rfl rfl ?_
  refine am_aload_n (n := 43) d_Life_init_42 rfl rfl ?_
  refine am_iconst (n := 44) d_Life_init_43 ci_0 rfl ?_
  refine am_putI (n := 47) f_Life_37 d_Life_init_44 rfl ⟨_, rfl, Or.inl rfl⟩ rfl rfl rfl ?_
  refine am_aload_n (n := 48) d_Life_init_47 rfl rfl ?_
  refine am_iconst (n := 49) d_Life_init_48 ci_0 rfl ?_
  refine am_putI (n := 52) f_Life_40 d_Life_init_49 rfl ⟨_, rfl, Or.inl rfl⟩ rfl rfl rfl ?_
  refine am_aload_n (n := 53) d_Life_init_52 rfl rfl ?_
  refine am_iconst (n := 54) d_Life_init_53 ci_0 rfl ?_
  refine am_putZ (n := 57) f_Life_43 d_Life_init_54 rfl ⟨_, rfl, Or.inl rfl⟩ rfl rfl rfl (Or.inl rfl) ?_
  refine am_aload_n (n := 58) d_Life_init_57 rfl rfl ?_
  refine am_iconst (n := 59) d_Life_init_58 ci_0 rfl ?_
  refine am_putI (n := 62) f_Life_46 d_Life_init_59 rfl ⟨_, rfl, Or.inl rfl⟩ rfl rfl rfl ?_
  refine am_aload_n (n := 63) d_Life_init_62 rfl rfl ?_
  refine am_iconst (n := 64) d_Life_init_63 ci_0 rfl ?_
  refine am_putZ (n := 67) f_Life_49 d_Life_init_64 rfl ⟨_, rfl, Or.inl rfl⟩ rfl rfl rfl (Or.inl rfl) ?_
  exact am_vret d_Life_init_67 ⟨rfl, rfl⟩
def ci_Life_14 (I : am_TI) : am_TI := (am_u2 (am_u2 (am_u2 (am_u2 (am_u2 (am_u2 (am_u2 (am_u2 (am_u2 (am_u2 (am_u2 (am_clr I 15 0) 14 1 0) 14 2 0) 14 3 0) 14 4 0) 14 5 0) 14 6 0) 14 7 0) 14 8 0) 14 9 0) 14 10 0) 14 11 0)
def cl_Life_14 (L : am_TL) : am_TL := (am_clr L 15 0)
def cr_Life_14 (R : am_TR) : am_TR := (am_u2 (am_clr R 15 none) 14 0 (some 15))
theorem rk_Life_14 {R : am_TR} (hR : am_Rok R (am_SHp 15)) : am_Rok (cr_Life_14 R) (am_SHp 16) := (am_rok_put (am_rok_clr hR (sl_ 15 (by decide)) (sl_ 16 (by decide))) (by decide +kernel))
theorem cro_Life_14 {R : am_TR} {a k : Nat} (h : a < 14) : cr_Life_14 R a k = R a k := by
  unfold cr_Life_14
  repeat first | rw [am_u2o (by omega)] | rw [am_clro (by omega)]
  try rfl
set_option maxRecDepth 20000 in
theorem cc_Life_14 {d : Nat} {I : am_TI} {L : am_TL} {R : am_TR} (hR : am_Rok R (am_SHp 15)) (hd : 1 ≤ d) : am_Cm d 1 60 y_Life_init b_Life_init 1 none [.ref 14] (I, L, R, am_SHp 15) (fun r σ' => r = none ∧ σ' = (ci_Life_14 I, cl_Life_14 L, cr_Life_14 R, am_SHp 16)) := by
  refine am_Cm_of (ini := true) (by decide +kernel) (fun _ => rfl) (by simp [Value.category]) (fun r σ' z => by obtain ⟨rfl, -⟩ := z; rfl) ?_
  show am_Wp (d, "UnseenRing$Life", b_Life_init, 1, true) 1 60 0 [some (.ref 14)] [] (I, L, R, am_SHp 15) _
  refine am_aload_n (n := 1) d_Life_init_0 rfl rfl ?_
  refine am_objInit2 (n := 4) d_Life_init_1 rfl lo_Life_3 (Nat.le_of_ble_eq_true rfl) (by omega) ?_
  refine am_aload_n (n := 5) d_Life_init_4 rfl rfl ?_
  refine am_bipush (n := 7) d_Life_init_5 cb_60 rfl ?_
  refine am_newaC_int (kc := 0) (ks := 0) (w := 60) (n := 9) d_Life_init_7 rfl (by decide) (by decide +kernel) (by decide) hR (sl_ 15 (by decide)) rfl rfl (by decide) ?_
  refine am_putR (n := 12) f_Life_11 d_Life_init_9 rfl ⟨_, rfl, Or.inr ⟨rfl, rfl, rfl⟩⟩ rfl rfl rfl ?_
  refine am_aload_n (n := 13) d_Life_init_12 rfl rfl ?_
  refine am_iconst (n := 14) d_Life_init_13 ci_0 rfl ?_
  refine am_putI (n := 17) f_Life_17 d_Life_init_14 rfl ⟨_, rfl, Or.inl rfl⟩ rfl rfl rfl ?_
  refine am_aload_n (n := 18) d_Life_init_17 rfl rfl ?_
  refine am_iconst (n := 19) d_Life_init_18 ci_0 rfl ?_
  refine am_putI (n := 22) f_Life_21 d_Life_init_19 rfl ⟨_, rfl, Or.inl rfl⟩ rfl rfl rfl ?_
  refine am_aload_n (n := 23) d_Life_init_22 rfl rfl ?_
  refine am_iconst (n := 24) d_Life_init_23 ci_0 rfl ?_
  refine am_putI (n := 27) f_Life_24 d_Life_init_24 rfl ⟨_, rfl, Or.inl rfl⟩ rfl rfl rfl ?_
  refine am_aload_n (n := 28) d_Life_init_27 rfl rfl ?_
  refine am_iconst (n := 29) d_Life_init_28 ci_0 rfl ?_
  refine am_putZ (n := 32) f_Life_27 d_Life_init_29 rfl ⟨_, rfl, Or.inl rfl⟩ rfl rfl rfl (Or.inl rfl) ?_
  refine am_aload_n (n := 33) d_Life_init_32 rfl rfl ?_
  refine am_iconst (n := 34) d_Life_init_33 ci_0 rfl ?_
  refine am_putI (n := 37) f_Life_31 d_Life_init_34 rfl ⟨_, rfl, Or.inl rfl⟩ rfl rfl rfl ?_
  refine am_aload_n (n := 38) d_Life_init_37 rfl rfl ?_
  refine am_iconst (n := 39) d_Life_init_38 ci_0 rfl ?_
  refine am_putI (n := 42) f_Life_34 d_Life_init_39 rfl ⟨_, rfl, Or.inl rfl⟩ rfl rfl rfl ?_
  refine am_aload_n (n := 43) d_Life_init_42 rfl rfl ?_
  refine am_iconst (n := 44) d_Life_init_43 ci_0 rfl ?_
  refine am_putI (n := 47) f_Life_37 d_Life_init_44 rfl ⟨_, rfl, Or.inl rfl⟩ rfl rfl rfl ?_
  refine am_aload_n (n := 48) d_Life_init_47 rfl rfl ?_
  refine am_iconst (n := 49) d_Life_init_48 ci_0 rfl ?_
  refine am_putI (n := 52) f_Life_40 d_Life_init_49 rfl ⟨_, rfl, Or.inl rfl⟩ rfl rfl rfl ?_
  refine am_aload_n (n := 53) d_Life_init_52 rfl rfl ?_
  refine am_iconst (n := 54) d_Life_init_53 ci_0 rfl ?_
  refine am_putZ (n := 57) f_Life_43 d_Life_init_54 rfl ⟨_, rfl, Or.inl rfl⟩ rfl rfl rfl (Or.inl rfl) ?_
  refine am_aload_n (n := 58) d_Life_init_57 rfl rfl ?_
  refine am_iconst (n := 59) d_Life_init_58 ci_0 rfl ?_
  refine am_putI (n := 62) f_Life_46 d_Life_init_59 rfl ⟨_, rfl, Or.inl rfl⟩ rfl rfl rfl ?_
  refine am_aload_n (n := 63) d_Life_init_62 rfl rfl ?_
  refine am_iconst (n := 64) d_Life_init_63 ci_0 rfl ?_
  refine am_putZ (n := 67) f_Life_49 d_Life_init_64 rfl ⟨_, rfl, Or.inl rfl⟩ rfl rfl rfl (Or.inl rfl) ?_
  exact am_vret d_Life_init_67 ⟨rfl, rfl⟩
def ci_Rows_16 (I : am_TI) : am_TI := (am_u2 (am_clr (am_clr (am_clr (am_clr I 17 0) 18 0) 19 0) 20 0) 16 5 0)
def cl_Rows_16 (L : am_TL) : am_TL := (am_clr (am_clr (am_clr (am_clr L 17 0) 18 0) 19 0) 20 0)
def cr_Rows_16 (R : am_TR) : am_TR := (am_u2 (am_u2 (am_clr (am_u2 (am_clr (am_u2 (am_clr (am_u2 (am_clr R 17 none) 16 0 (some 17)) 18 none) 16 1 (some 18)) 19 none) 16 2 (some 19)) 20 none) 16 3 (some 20)) 16 4 none)
theorem rk_Rows_16 {R : am_TR} (hR : am_Rok R (am_SHp 17)) : am_Rok (cr_Rows_16 R) (am_SHp 21) := (am_rok_putN (am_rok_put (am_rok_clr (am_rok_put (am_rok_clr (am_rok_put (am_rok_clr (am_rok_put (am_rok_clr hR (sl_ 17 (by decide)) (sl_ 18 (by decide))) (by decide +kernel)) (sl_ 18 (by decide)) (sl_ 19 (by decide))) (by decide +kernel)) (sl_ 19 (by decide)) (sl_ 20 (by decide))) (by decide +kernel)) (sl_ 20 (by decide)) (sl_ 21 (by decide))) (by decide +kernel)))
theorem cro_Rows_16 {R : am_TR} {a k : Nat} (h : a < 16) : cr_Rows_16 R a k = R a k := by
  unfold cr_Rows_16
  repeat first | rw [am_u2o (by omega)] | rw [am_clro (by omega)]
  try rfl
set_option maxRecDepth 20000 in
theorem cc_Rows_16 {d : Nat} {I : am_TI} {L : am_TL} {R : am_TR} (hR : am_Rok R (am_SHp 17)) (hd : 1 ≤ d) : am_Cm d 4 747 y_Rows_init b_Rows_init 1 none [.ref 16] (I, L, R, am_SHp 17) (fun r σ' => r = none ∧ σ' = (ci_Rows_16 I, cl_Rows_16 L, cr_Rows_16 R, am_SHp 21)) := by
  refine am_Cm_of (ini := true) (by decide +kernel) (fun _ => rfl) (by simp [Value.category]) (fun r σ' z => by obtain ⟨rfl, -⟩ := z; rfl) ?_
  show am_Wp (d, "UnseenRing$Rows", b_Rows_init, 1, true) 4 747 0 [some (.ref 16)] [] (I, L, R, am_SHp 17) _
  refine am_aload_n (n := 1) d_Rows_init_0 rfl rfl ?_
  refine am_objInit2 (n := 4) d_Rows_init_1 rfl lo_Rows_3 (Nat.le_of_ble_eq_true rfl) (by omega) ?_
  refine am_aload_n (n := 5) d_Rows_init_4 rfl rfl ?_
  refine am_sipush (n := 8) d_Rows_init_5 cs_729 rfl ?_
  refine am_newaC_int (kc := 3) (ks := 18) (w := 729) (n := 10) d_Rows_init_8 rfl (by decide) (by decide +kernel) (by decide) hR (sl_ 17 (by decide)) rfl rfl (by decide) ?_
  refine am_putR (n := 13) f_Rows_11 d_Rows_init_10 rfl ⟨_, rfl, Or.inr ⟨rfl, rfl, rfl⟩⟩ rfl rfl rfl ?_
  refine am_aload_n (n := 14) d_Rows_init_13 rfl rfl ?_
  refine am_bipush (n := 16) d_Rows_init_14 cb_6 rfl ?_
  refine am_newaC_int (kc := 2) (ks := 12) (w := 6) (n := 18) d_Rows_init_16 rfl (by decide) (by decide +kernel) (by decide) (am_rok_put (am_rok_clr hR (sl_ 17 (by decide)) (sl_ 18 (by decide))) (by decide +kernel)) (sl_ 18 (by decide)) rfl rfl (by decide) ?_
  refine am_putR (n := 21) f_Rows_15 d_Rows_init_18 rfl ⟨_, rfl, Or.inr ⟨rfl, rfl, rfl⟩⟩ rfl rfl rfl ?_
  refine am_aload_n (n := 22) d_Rows_init_21 rfl rfl ?_
  refine am_bipush (n := 24) d_Rows_init_22 cb_6 rfl ?_
  refine am_newaC_int (kc := 1) (ks := 6) (w := 6) (n := 26) d_Rows_init_24 rfl (by decide) (by decide +kernel) (by decide) (am_rok_put (am_rok_clr (am_rok_put (am_rok_clr hR (sl_ 17 (by decide)) (sl_ 18 (by decide))) (by decide +kernel)) (sl_ 18 (by decide)) (sl_ 19 (by decide))) (by decide +kernel)) (sl_ 19 (by decide)) rfl rfl (by decide) ?_
  refine am_putR (n := 29) f_Rows_18 d_Rows_init_26 rfl ⟨_, rfl, Or.inr ⟨rfl, rfl, rfl⟩⟩ rfl rfl rfl ?_
  refine am_aload_n (n := 30) d_Rows_init_29 rfl rfl ?_
  refine am_bipush (n := 32) d_Rows_init_30 cb_6 rfl ?_
  refine am_newaC_int (kc := 0) (ks := 0) (w := 6) (n := 34) d_Rows_init_32 rfl (by decide) (by decide +kernel) (by decide) (am_rok_put (am_rok_clr (am_rok_put (am_rok_clr (am_rok_put (am_rok_clr hR (sl_ 17 (by decide)) (sl_ 18 (by decide))) (by decide +kernel)) (sl_ 18 (by decide)) (sl_ 19 (by decide))) (by decide +kernel)) (sl_ 19 (by decide)) (sl_ 20 (by decide))) (by decide +kernel)) (sl_ 20 (by decide)) rfl rfl (by decide) ?_
  refine am_putR (n := 37) f_Rows_21 d_Rows_init_34 rfl ⟨_, rfl, Or.inr ⟨rfl, rfl, rfl⟩⟩ rfl rfl rfl ?_
  refine am_aload_n (n := 38) d_Rows_init_37 rfl rfl ?_
  refine am_null (n := 39) d_Rows_init_38 rfl ?_
  refine am_putN (n := 42) f_Rows_24 d_Rows_init_39 rfl ⟨_, rfl, Or.inl rfl⟩ rfl rfl rfl ?_
  refine am_aload_n (n := 43) d_Rows_init_42 rfl rfl ?_
  refine am_iconst (n := 44) d_Rows_init_43 ci_0 rfl ?_
  refine am_putI (n := 47) f_Rows_28 d_Rows_init_44 rfl ⟨_, rfl, Or.inl rfl⟩ rfl rfl rfl ?_
  exact am_vret d_Rows_init_47 ⟨rfl, rfl⟩
def ci_Placings_21 (I : am_TI) : am_TI := (am_u2 (am_clr (am_clr I 22 0) 23 0) 21 2 0)
def cl_Placings_21 (L : am_TL) : am_TL := (am_clr (am_clr L 22 0) 23 0)
def cr_Placings_21 (R : am_TR) : am_TR := (am_u2 (am_clr (am_u2 (am_clr R 22 none) 21 0 (some 22)) 23 none) 21 1 (some 23))
theorem rk_Placings_21 {R : am_TR} (hR : am_Rok R (am_SHp 22)) : am_Rok (cr_Placings_21 R) (am_SHp 24) := (am_rok_put (am_rok_clr (am_rok_put (am_rok_clr hR (sl_ 22 (by decide)) (sl_ 23 (by decide))) (by decide +kernel)) (sl_ 23 (by decide)) (sl_ 24 (by decide))) (by decide +kernel))
theorem cro_Placings_21 {R : am_TR} {a k : Nat} (h : a < 21) : cr_Placings_21 R a k = R a k := by
  unfold cr_Placings_21
  repeat first | rw [am_u2o (by omega)] | rw [am_clro (by omega)]
  try rfl
set_option maxRecDepth 20000 in
theorem cc_Placings_21 {d : Nat} {I : am_TI} {L : am_TL} {R : am_TR} (hR : am_Rok R (am_SHp 22)) (hd : 1 ≤ d) : am_Cm d 2 41 y_Placings_init b_Placings_init 1 none [.ref 21] (I, L, R, am_SHp 22) (fun r σ' => r = none ∧ σ' = (ci_Placings_21 I, cl_Placings_21 L, cr_Placings_21 R, am_SHp 24)) := by
  refine am_Cm_of (ini := true) (by decide +kernel) (fun _ => rfl) (by simp [Value.category]) (fun r σ' z => by obtain ⟨rfl, -⟩ := z; rfl) ?_
  show am_Wp (d, "UnseenRing$Placings", b_Placings_init, 1, true) 2 41 0 [some (.ref 21)] [] (I, L, R, am_SHp 22) _
  refine am_aload_n (n := 1) d_Placings_init_0 rfl rfl ?_
  refine am_objInit2 (n := 4) d_Placings_init_1 rfl lo_Placings_3 (Nat.le_of_ble_eq_true rfl) (by omega) ?_
  refine am_aload_n (n := 5) d_Placings_init_4 rfl rfl ?_
  refine am_bipush (n := 7) d_Placings_init_5 cb_25 rfl ?_
  refine am_newaC_int (kc := 1) (ks := 16) (w := 25) (n := 9) d_Placings_init_7 rfl (by decide) (by decide +kernel) (by decide) hR (sl_ 22 (by decide)) rfl rfl (by decide) ?_
  refine am_putR (n := 12) f_Placings_9 d_Placings_init_9 rfl ⟨_, rfl, Or.inr ⟨rfl, rfl, rfl⟩⟩ rfl rfl rfl ?_
  refine am_aload_n (n := 13) d_Placings_init_12 rfl rfl ?_
  refine am_bipush (n := 15) d_Placings_init_13 cb_16 rfl ?_
  refine am_newaC_int (kc := 0) (ks := 0) (w := 16) (n := 17) d_Placings_init_15 rfl (by decide) (by decide +kernel) (by decide) (am_rok_put (am_rok_clr hR (sl_ 22 (by decide)) (sl_ 23 (by decide))) (by decide +kernel)) (sl_ 23 (by decide)) rfl rfl (by decide) ?_
  refine am_putR (n := 20) f_Placings_15 d_Placings_init_17 rfl ⟨_, rfl, Or.inr ⟨rfl, rfl, rfl⟩⟩ rfl rfl rfl ?_
  refine am_aload_n (n := 21) d_Placings_init_20 rfl rfl ?_
  refine am_iconst (n := 22) d_Placings_init_21 ci_0 rfl ?_
  refine am_putI (n := 25) f_Placings_18 d_Placings_init_22 rfl ⟨_, rfl, Or.inl rfl⟩ rfl rfl rfl ?_
  exact am_vret d_Placings_init_25 ⟨rfl, rfl⟩
def ci_Covering_24 (I : am_TI) : am_TI := (am_u2 (am_u2 (am_clr (am_clr I 25 0) 26 0) 24 2 0) 24 3 0)
def cl_Covering_24 (L : am_TL) : am_TL := (am_clr (am_clr L 25 0) 26 0)
def cr_Covering_24 (R : am_TR) : am_TR := (am_u2 (am_clr (am_u2 (am_clr R 25 none) 24 0 (some 25)) 26 none) 24 1 (some 26))
theorem rk_Covering_24 {R : am_TR} (hR : am_Rok R (am_SHp 25)) : am_Rok (cr_Covering_24 R) (am_SHp 27) := (am_rok_put (am_rok_clr (am_rok_put (am_rok_clr hR (sl_ 25 (by decide)) (sl_ 26 (by decide))) (by decide +kernel)) (sl_ 26 (by decide)) (sl_ 27 (by decide))) (by decide +kernel))
theorem cro_Covering_24 {R : am_TR} {a k : Nat} (h : a < 24) : cr_Covering_24 R a k = R a k := by
  unfold cr_Covering_24
  repeat first | rw [am_u2o (by omega)] | rw [am_clro (by omega)]
  try rfl
set_option maxRecDepth 20000 in
theorem cc_Covering_24 {d : Nat} {I : am_TI} {L : am_TL} {R : am_TR} (hR : am_Rok R (am_SHp 25)) (hd : 1 ≤ d) : am_Cm d 2 281 y_Covering_init b_Covering_init 1 none [.ref 24] (I, L, R, am_SHp 25) (fun r σ' => r = none ∧ σ' = (ci_Covering_24 I, cl_Covering_24 L, cr_Covering_24 R, am_SHp 27)) := by
  refine am_Cm_of (ini := true) (by decide +kernel) (fun _ => rfl) (by simp [Value.category]) (fun r σ' z => by obtain ⟨rfl, -⟩ := z; rfl) ?_
  show am_Wp (d, "UnseenRing$Covering", b_Covering_init, 1, true) 2 281 0 [some (.ref 24)] [] (I, L, R, am_SHp 25) _
  refine am_aload_n (n := 1) d_Covering_init_0 rfl rfl ?_
  refine am_objInit2 (n := 4) d_Covering_init_1 rfl lo_Covering_3 (Nat.le_of_ble_eq_true rfl) (by omega) ?_
  refine am_aload_n (n := 5) d_Covering_init_4 rfl rfl ?_
  refine am_bipush (n := 7) d_Covering_init_5 cb_25 rfl ?_
  refine am_newaC_int (kc := 1) (ks := 256) (w := 25) (n := 9) d_Covering_init_7 rfl (by decide) (by decide +kernel) (by decide) hR (sl_ 25 (by decide)) rfl rfl (by decide) ?_
  refine am_putR (n := 12) f_Covering_9 d_Covering_init_9 rfl ⟨_, rfl, Or.inr ⟨rfl, rfl, rfl⟩⟩ rfl rfl rfl ?_
  refine am_aload_n (n := 13) d_Covering_init_12 rfl rfl ?_
  refine am_sipush (n := 16) d_Covering_init_13 cs_256 rfl ?_
  refine am_newaC_int (kc := 0) (ks := 0) (w := 256) (n := 18) d_Covering_init_16 rfl (by decide) (by decide +kernel) (by decide) (am_rok_put (am_rok_clr hR (sl_ 25 (by decide)) (sl_ 26 (by decide))) (by decide +kernel)) (sl_ 26 (by decide)) rfl rfl (by decide) ?_
  refine am_putR (n := 21) f_Covering_15 d_Covering_init_18 rfl ⟨_, rfl, Or.inr ⟨rfl, rfl, rfl⟩⟩ rfl rfl rfl ?_
  refine am_aload_n (n := 22) d_Covering_init_21 rfl rfl ?_
  refine am_iconst (n := 23) d_Covering_init_22 ci_0 rfl ?_
  refine am_putI (n := 26) f_Covering_18 d_Covering_init_23 rfl ⟨_, rfl, Or.inl rfl⟩ rfl rfl rfl ?_
  refine am_aload_n (n := 27) d_Covering_init_26 rfl rfl ?_
  refine am_iconst (n := 28) d_Covering_init_27 ci_0 rfl ?_
  refine am_putI (n := 31) f_Covering_22 d_Covering_init_28 rfl ⟨_, rfl, Or.inl rfl⟩ rfl rfl rfl ?_
  exact am_vret d_Covering_init_31 ⟨rfl, rfl⟩
def ci_Knowing_27 (I : am_TI) : am_TI := (am_u2 (am_clr I 28 0) 27 1 0)
def cl_Knowing_27 (L : am_TL) : am_TL := (am_u2 (am_clr L 28 0) 27 2 0)
def cr_Knowing_27 (R : am_TR) : am_TR := (am_u2 (am_clr R 28 none) 27 0 (some 28))
theorem rk_Knowing_27 {R : am_TR} (hR : am_Rok R (am_SHp 28)) : am_Rok (cr_Knowing_27 R) (am_SHp 29) := (am_rok_put (am_rok_clr hR (sl_ 28 (by decide)) (sl_ 29 (by decide))) (by decide +kernel))
theorem cro_Knowing_27 {R : am_TR} {a k : Nat} (h : a < 27) : cr_Knowing_27 R a k = R a k := by
  unfold cr_Knowing_27
  repeat first | rw [am_u2o (by omega)] | rw [am_clro (by omega)]
  try rfl
set_option maxRecDepth 20000 in
theorem cc_Knowing_27 {d : Nat} {I : am_TI} {L : am_TL} {R : am_TR} (hR : am_Rok R (am_SHp 28)) (hd : 1 ≤ d) : am_Cm d 1 6 y_Knowing_init b_Knowing_init 1 none [.ref 27] (I, L, R, am_SHp 28) (fun r σ' => r = none ∧ σ' = (ci_Knowing_27 I, cl_Knowing_27 L, cr_Knowing_27 R, am_SHp 29)) := by
  refine am_Cm_of (ini := true) (by decide +kernel) (fun _ => rfl) (by simp [Value.category]) (fun r σ' z => by obtain ⟨rfl, -⟩ := z; rfl) ?_
  show am_Wp (d, "UnseenRing$Knowing", b_Knowing_init, 1, true) 1 6 0 [some (.ref 27)] [] (I, L, R, am_SHp 28) _
  refine am_aload_n (n := 1) d_Knowing_init_0 rfl rfl ?_
  refine am_objInit2 (n := 4) d_Knowing_init_1 rfl lo_Knowing_3 (Nat.le_of_ble_eq_true rfl) (by omega) ?_
  refine am_aload_n (n := 5) d_Knowing_init_4 rfl rfl ?_
  refine am_bipush (n := 7) d_Knowing_init_5 cb_6 rfl ?_
  refine am_newaC_int (kc := 0) (ks := 0) (w := 6) (n := 9) d_Knowing_init_7 rfl (by decide) (by decide +kernel) (by decide) hR (sl_ 28 (by decide)) rfl rfl (by decide) ?_
  refine am_putR (n := 12) f_Knowing_9 d_Knowing_init_9 rfl ⟨_, rfl, Or.inr ⟨rfl, rfl, rfl⟩⟩ rfl rfl rfl ?_
  refine am_aload_n (n := 13) d_Knowing_init_12 rfl rfl ?_
  refine am_iconst (n := 14) d_Knowing_init_13 ci_0 rfl ?_
  refine am_putI (n := 17) f_Knowing_15 d_Knowing_init_14 rfl ⟨_, rfl, Or.inl rfl⟩ rfl rfl rfl ?_
  refine am_aload_n (n := 18) d_Knowing_init_17 rfl rfl ?_
  refine am_lconst (v := 0) (n := 19) d_Knowing_init_18 rfl rfl ?_
  refine am_putL (n := 22) f_Knowing_19 d_Knowing_init_19 rfl ⟨_, rfl, Or.inl rfl⟩ rfl rfl rfl ?_
  exact am_vret d_Knowing_init_22 ⟨rfl, rfl⟩
def ci_Days_35 (I : am_TI) : am_TI := (am_u2 (am_u2 (am_u2 (am_clr (am_clr (am_clr (am_clr (am_clr I 36 0) 37 0) 38 0) 39 0) 40 0) 35 5 0) 35 6 0) 35 7 0)
def cl_Days_35 (L : am_TL) : am_TL := (am_clr (am_clr (am_clr (am_clr (am_clr L 36 0) 37 0) 38 0) 39 0) 40 0)
def cr_Days_35 (R : am_TR) : am_TR := (am_u2 (am_clr (am_u2 (am_clr (am_u2 (am_clr (am_u2 (am_clr (am_u2 (am_clr R 36 none) 35 0 (some 36)) 37 none) 35 1 (some 37)) 38 none) 35 2 (some 38)) 39 none) 35 3 (some 39)) 40 none) 35 4 (some 40))
theorem rk_Days_35 {R : am_TR} (hR : am_Rok R (am_SHp 36)) : am_Rok (cr_Days_35 R) (am_SHp 41) := (am_rok_put (am_rok_clr (am_rok_put (am_rok_clr (am_rok_put (am_rok_clr (am_rok_put (am_rok_clr (am_rok_put (am_rok_clr hR (sl_ 36 (by decide)) (sl_ 37 (by decide))) (by decide +kernel)) (sl_ 37 (by decide)) (sl_ 38 (by decide))) (by decide +kernel)) (sl_ 38 (by decide)) (sl_ 39 (by decide))) (by decide +kernel)) (sl_ 39 (by decide)) (sl_ 40 (by decide))) (by decide +kernel)) (sl_ 40 (by decide)) (sl_ 41 (by decide))) (by decide +kernel))
theorem cro_Days_35 {R : am_TR} {a k : Nat} (h : a < 35) : cr_Days_35 R a k = R a k := by
  unfold cr_Days_35
  repeat first | rw [am_u2o (by omega)] | rw [am_clro (by omega)]
  try rfl
set_option maxRecDepth 20000 in
theorem cc_Days_35 {d : Nat} {I : am_TI} {L : am_TL} {R : am_TR} (hR : am_Rok R (am_SHp 36)) (hd : 1 ≤ d) : am_Cm d 5 300 y_Days_init b_Days_init 1 none [.ref 35] (I, L, R, am_SHp 36) (fun r σ' => r = none ∧ σ' = (ci_Days_35 I, cl_Days_35 L, cr_Days_35 R, am_SHp 41)) := by
  refine am_Cm_of (ini := true) (by decide +kernel) (fun _ => rfl) (by simp [Value.category]) (fun r σ' z => by obtain ⟨rfl, -⟩ := z; rfl) ?_
  show am_Wp (d, "UnseenRing$Days", b_Days_init, 1, true) 5 300 0 [some (.ref 35)] [] (I, L, R, am_SHp 36) _
  refine am_aload_n (n := 1) d_Days_init_0 rfl rfl ?_
  refine am_objInit2 (n := 4) d_Days_init_1 rfl lo_Days_3 (Nat.le_of_ble_eq_true rfl) (by omega) ?_
  refine am_aload_n (n := 5) d_Days_init_4 rfl rfl ?_
  refine am_bipush (n := 7) d_Days_init_5 cb_60 rfl ?_
  refine am_newaC_int (kc := 4) (ks := 240) (w := 60) (n := 9) d_Days_init_7 rfl (by decide) (by decide +kernel) (by decide) hR (sl_ 36 (by decide)) rfl rfl (by decide) ?_
  refine am_putR (n := 12) f_Days_9 d_Days_init_9 rfl ⟨_, rfl, Or.inr ⟨rfl, rfl, rfl⟩⟩ rfl rfl rfl ?_
  refine am_aload_n (n := 13) d_Days_init_12 rfl rfl ?_
  refine am_bipush (n := 15) d_Days_init_13 cb_60 rfl ?_
  refine am_newaC_int (kc := 3) (ks := 180) (w := 60) (n := 17) d_Days_init_15 rfl (by decide) (by decide +kernel) (by decide) (am_rok_put (am_rok_clr hR (sl_ 36 (by decide)) (sl_ 37 (by decide))) (by decide +kernel)) (sl_ 37 (by decide)) rfl rfl (by decide) ?_
  refine am_putR (n := 20) f_Days_13 d_Days_init_17 rfl ⟨_, rfl, Or.inr ⟨rfl, rfl, rfl⟩⟩ rfl rfl rfl ?_
  refine am_aload_n (n := 21) d_Days_init_20 rfl rfl ?_
  refine am_bipush (n := 23) d_Days_init_21 cb_60 rfl ?_
  refine am_newaC_int (kc := 2) (ks := 120) (w := 60) (n := 25) d_Days_init_23 rfl (by decide) (by decide +kernel) (by decide) (am_rok_put (am_rok_clr (am_rok_put (am_rok_clr hR (sl_ 36 (by decide)) (sl_ 37 (by decide))) (by decide +kernel)) (sl_ 37 (by decide)) (sl_ 38 (by decide))) (by decide +kernel)) (sl_ 38 (by decide)) rfl rfl (by decide) ?_
  refine am_putR (n := 28) f_Days_16 d_Days_init_25 rfl ⟨_, rfl, Or.inr ⟨rfl, rfl, rfl⟩⟩ rfl rfl rfl ?_
  refine am_aload_n (n := 29) d_Days_init_28 rfl rfl ?_
  refine am_bipush (n := 31) d_Days_init_29 cb_60 rfl ?_
  refine am_newaC_int (kc := 1) (ks := 60) (w := 60) (n := 33) d_Days_init_31 rfl (by decide) (by decide +kernel) (by decide) (am_rok_put (am_rok_clr (am_rok_put (am_rok_clr (am_rok_put (am_rok_clr hR (sl_ 36 (by decide)) (sl_ 37 (by decide))) (by decide +kernel)) (sl_ 37 (by decide)) (sl_ 38 (by decide))) (by decide +kernel)) (sl_ 38 (by decide)) (sl_ 39 (by decide))) (by decide +kernel)) (sl_ 39 (by decide)) rfl rfl (by decide) ?_
  refine am_putR (n := 36) f_Days_19 d_Days_init_33 rfl ⟨_, rfl, Or.inr ⟨rfl, rfl, rfl⟩⟩ rfl rfl rfl ?_
  refine am_aload_n (n := 37) d_Days_init_36 rfl rfl ?_
  refine am_bipush (n := 39) d_Days_init_37 cb_60 rfl ?_
  refine am_newaC_int (kc := 0) (ks := 0) (w := 60) (n := 41) d_Days_init_39 rfl (by decide) (by decide +kernel) (by decide) (am_rok_put (am_rok_clr (am_rok_put (am_rok_clr (am_rok_put (am_rok_clr (am_rok_put (am_rok_clr hR (sl_ 36 (by decide)) (sl_ 37 (by decide))) (by decide +kernel)) (sl_ 37 (by decide)) (sl_ 38 (by decide))) (by decide +kernel)) (sl_ 38 (by decide)) (sl_ 39 (by decide))) (by decide +kernel)) (sl_ 39 (by decide)) (sl_ 40 (by decide))) (by decide +kernel)) (sl_ 40 (by decide)) rfl rfl (by decide) ?_
  refine am_putR (n := 44) f_Days_22 d_Days_init_41 rfl ⟨_, rfl, Or.inr ⟨rfl, rfl, rfl⟩⟩ rfl rfl rfl ?_
  refine am_aload_n (n := 45) d_Days_init_44 rfl rfl ?_
  refine am_iconst (n := 46) d_Days_init_45 ci_0 rfl ?_
  refine am_putZ (n := 49) f_Days_25 d_Days_init_46 rfl ⟨_, rfl, Or.inl rfl⟩ rfl rfl rfl (Or.inl rfl) ?_
  refine am_aload_n (n := 50) d_Days_init_49 rfl rfl ?_
  refine am_iconst (n := 51) d_Days_init_50 ci_0 rfl ?_
  refine am_putI (n := 54) f_Days_29 d_Days_init_51 rfl ⟨_, rfl, Or.inl rfl⟩ rfl rfl rfl ?_
  refine am_aload_n (n := 55) d_Days_init_54 rfl rfl ?_
  refine am_iconst (n := 56) d_Days_init_55 ci_0 rfl ?_
  refine am_putI (n := 59) f_Days_33 d_Days_init_56 rfl ⟨_, rfl, Or.inl rfl⟩ rfl rfl rfl ?_
  exact am_vret d_Days_init_59 ⟨rfl, rfl⟩
def ci_Square_29 (I : am_TI) : am_TI := (am_u2 (am_u2 (am_u2 (am_u2 (am_u2 (am_u2 (am_u2 (am_u2 (am_u2 (am_u2 (ci_Days_35 (am_clr (am_clr (am_clr (am_clr (am_clr (am_clr I 30 0) 31 0) 32 0) 33 0) 34 0) 35 0)) 29 6 4) 29 7 4) 29 8 8) 29 9 0) 29 10 0) 29 11 0) 29 12 0) 29 13 0) 29 14 0) 29 15 0)
def cl_Square_29 (L : am_TL) : am_TL := (cl_Days_35 (am_clr (am_clr (am_clr (am_clr (am_clr (am_clr L 30 0) 31 0) 32 0) 33 0) 34 0) 35 0))
def cr_Square_29 (R : am_TR) : am_TR := (am_u2 (cr_Days_35 (am_clr (am_u2 (am_clr (am_u2 (am_clr (am_u2 (am_clr (am_u2 (am_clr (am_u2 (am_clr R 30 none) 29 0 (some 30)) 31 none) 29 1 (some 31)) 32 none) 29 2 (some 32)) 33 none) 29 3 (some 33)) 34 none) 29 4 (some 34)) 35 none)) 29 5 (some 35))
theorem rk_Square_29 {R : am_TR} (hR : am_Rok R (am_SHp 30)) : am_Rok (cr_Square_29 R) (am_SHp 41) := (am_rok_put (rk_Days_35 (am_rok_clr (am_rok_put (am_rok_clr (am_rok_put (am_rok_clr (am_rok_put (am_rok_clr (am_rok_put (am_rok_clr (am_rok_put (am_rok_clr hR (sl_ 30 (by decide)) (sl_ 31 (by decide))) (by decide +kernel)) (sl_ 31 (by decide)) (sl_ 32 (by decide))) (by decide +kernel)) (sl_ 32 (by decide)) (sl_ 33 (by decide))) (by decide +kernel)) (sl_ 33 (by decide)) (sl_ 34 (by decide))) (by decide +kernel)) (sl_ 34 (by decide)) (sl_ 35 (by decide))) (by decide +kernel)) (sl_ 35 (by decide)) (sl_ 36 (by decide)))) (by decide +kernel))
theorem cro_Square_29 {R : am_TR} {a k : Nat} (h : a < 29) : cr_Square_29 R a k = R a k := by
  unfold cr_Square_29
  repeat first | rw [am_u2o (by omega)] | rw [am_clro (by omega)] | rw [cro_Days_35 (by omega)]
  try rfl
set_option maxRecDepth 20000 in
theorem cc_Square_29 {d : Nat} {I : am_TI} {L : am_TL} {R : am_TR} (hR : am_Rok R (am_SHp 30)) (hd : 2 ≤ d) : am_Cm d 11 336 y_Square_init b_Square_init 1 none [.ref 29] (I, L, R, am_SHp 30) (fun r σ' => r = none ∧ σ' = (ci_Square_29 I, cl_Square_29 L, cr_Square_29 R, am_SHp 41)) := by
  refine am_Cm_of (ini := true) (by decide +kernel) (fun _ => rfl) (by simp [Value.category]) (fun r σ' z => by obtain ⟨rfl, -⟩ := z; rfl) ?_
  show am_Wp (d, "UnseenRing$Square", b_Square_init, 1, true) 11 336 0 [some (.ref 29)] [] (I, L, R, am_SHp 30) _
  refine am_aload_n (n := 1) d_Square_init_0 rfl rfl ?_
  refine am_objInit2 (n := 4) d_Square_init_1 rfl lo_Square_3 (Nat.le_of_ble_eq_true rfl) (by omega) ?_
  refine am_aload_n (n := 5) d_Square_init_4 rfl rfl ?_
  refine am_bipush (n := 7) d_Square_init_5 cb_6 rfl ?_
  refine am_newaC_long (kc := 10) (ks := 330) (w := 6) (n := 9) d_Square_init_7 rfl (by decide) (by decide +kernel) (by decide) hR (sl_ 30 (by decide)) rfl rfl (by decide) ?_
  refine am_putR (n := 12) f_Square_9 d_Square_init_9 rfl ⟨_, rfl, Or.inr ⟨rfl, rfl, rfl⟩⟩ rfl rfl rfl ?_
  refine am_aload_n (n := 13) d_Square_init_12 rfl rfl ?_
  refine am_bipush (n := 15) d_Square_init_13 cb_6 rfl ?_
  refine am_newaC_int (kc := 9) (ks := 324) (w := 6) (n := 17) d_Square_init_15 rfl (by decide) (by decide +kernel) (by decide) (am_rok_put (am_rok_clr hR (sl_ 30 (by decide)) (sl_ 31 (by decide))) (by decide +kernel)) (sl_ 31 (by decide)) rfl rfl (by decide) ?_
  refine am_putR (n := 20) f_Square_15 d_Square_init_17 rfl ⟨_, rfl, Or.inr ⟨rfl, rfl, rfl⟩⟩ rfl rfl rfl ?_
  refine am_aload_n (n := 21) d_Square_init_20 rfl rfl ?_
  refine am_bipush (n := 23) d_Square_init_21 cb_6 rfl ?_
  refine am_newaC_int (kc := 8) (ks := 318) (w := 6) (n := 25) d_Square_init_23 rfl (by decide) (by decide +kernel) (by decide) (am_rok_put (am_rok_clr (am_rok_put (am_rok_clr hR (sl_ 30 (by decide)) (sl_ 31 (by decide))) (by decide +kernel)) (sl_ 31 (by decide)) (sl_ 32 (by decide))) (by decide +kernel)) (sl_ 32 (by decide)) rfl rfl (by decide) ?_
  refine am_putR (n := 28) f_Square_19 d_Square_init_25 rfl ⟨_, rfl, Or.inr ⟨rfl, rfl, rfl⟩⟩ rfl rfl rfl ?_
  refine am_aload_n (n := 29) d_Square_init_28 rfl rfl ?_
  refine am_bipush (n := 31) d_Square_init_29 cb_6 rfl ?_
  refine am_newaC_int (kc := 7) (ks := 312) (w := 6) (n := 33) d_Square_init_31 rfl (by decide) (by decide +kernel) (by decide) (am_rok_put (am_rok_clr (am_rok_put (am_rok_clr (am_rok_put (am_rok_clr hR (sl_ 30 (by decide)) (sl_ 31 (by decide))) (by decide +kernel)) (sl_ 31 (by decide)) (sl_ 32 (by decide))) (by decide +kernel)) (sl_ 32 (by decide)) (sl_ 33 (by decide))) (by decide +kernel)) (sl_ 33 (by decide)) rfl rfl (by decide) ?_
  refine am_putR (n := 36) f_Square_22 d_Square_init_33 rfl ⟨_, rfl, Or.inr ⟨rfl, rfl, rfl⟩⟩ rfl rfl rfl ?_
  refine am_aload_n (n := 37) d_Square_init_36 rfl rfl ?_
  refine am_iconst (n := 38) d_Square_init_37 ci_4 rfl ?_
  refine am_newaC_int (kc := 6) (ks := 308) (w := 4) (n := 40) d_Square_init_38 rfl (by decide) (by decide +kernel) (by decide) (am_rok_put (am_rok_clr (am_rok_put (am_rok_clr (am_rok_put (am_rok_clr (am_rok_put (am_rok_clr hR (sl_ 30 (by decide)) (sl_ 31 (by decide))) (by decide +kernel)) (sl_ 31 (by decide)) (sl_ 32 (by decide))) (by decide +kernel)) (sl_ 32 (by decide)) (sl_ 33 (by decide))) (by decide +kernel)) (sl_ 33 (by decide)) (sl_ 34 (by decide))) (by decide +kernel)) (sl_ 34 (by decide)) rfl rfl (by decide) ?_
  refine am_putR (n := 43) f_Square_25 d_Square_init_40 rfl ⟨_, rfl, Or.inr ⟨rfl, rfl, rfl⟩⟩ rfl rfl rfl ?_
  refine am_aload_n (n := 44) d_Square_init_43 rfl rfl ?_
  refine am_newC (ci := 1) (kc := 5) (ks := 300) (N := 8) (n := 47) d_Square_init_44 rfl rfl rfl cl_Square_28 it_Days ini_Days df_Days (am_rok_put (am_rok_clr (am_rok_put (am_rok_clr (am_rok_put (am_rok_clr (am_rok_put (am_rok_clr (am_rok_put (am_rok_clr hR (sl_ 30 (by decide)) (sl_ 31 (by decide))) (by decide +kernel)) (sl_ 31 (by decide)) (sl_ 32 (by decide))) (by decide +kernel)) (sl_ 32 (by decide)) (sl_ 33 (by decide))) (by decide +kernel)) (sl_ 33 (by decide)) (sl_ 34 (by decide))) (by decide +kernel)) (sl_ 34 (by decide)) (sl_ 35 (by decide))) (by decide +kernel)) (sl_ 35 (by decide)) rfl rfl (by decide) ?_
  refine am_dup (n := 48) d_Square_init_47 rfl rfl ?_
  refine am_callI (kc := 0) (ks := 0) (kc' := 5) (ks' := 300) (As := []) (q := 35) (n := 51) d_Square_init_48 rfl ce_Days_init lk_Square_30 in_Days_init rfl rfl (Nat.le_of_ble_eq_true rfl) (Or.inr (am_ok_of rfl)) (cc_Days_35 (d := d - 1) (am_rok_clr (am_rok_put (am_rok_clr (am_rok_put (am_rok_clr (am_rok_put (am_rok_clr (am_rok_put (am_rok_clr (am_rok_put (am_rok_clr hR (sl_ 30 (by decide)) (sl_ 31 (by decide))) (by decide +kernel)) (sl_ 31 (by decide)) (sl_ 32 (by decide))) (by decide +kernel)) (sl_ 32 (by decide)) (sl_ 33 (by decide))) (by decide +kernel)) (sl_ 33 (by decide)) (sl_ 34 (by decide))) (by decide +kernel)) (sl_ 34 (by decide)) (sl_ 35 (by decide))) (by decide +kernel)) (sl_ 35 (by decide)) (sl_ 36 (by decide))) (by omega)) (by omega) ?_
  rintro _ _ ⟨rfl, rfl⟩
  refine am_putR (n := 54) f_Square_31 d_Square_init_51 rfl ⟨_, rfl, Or.inl rfl⟩ rfl rfl rfl ?_
  refine am_aload_n (n := 55) d_Square_init_54 rfl rfl ?_
  refine am_iconst (n := 56) d_Square_init_55 ci_4 rfl ?_
  refine am_putI (n := 59) f_Square_35 d_Square_init_56 rfl ⟨_, rfl, Or.inl rfl⟩ rfl rfl rfl ?_
  refine am_aload_n (n := 60) d_Square_init_59 rfl rfl ?_
  refine am_iconst (n := 61) d_Square_init_60 ci_4 rfl ?_
  refine am_putI (n := 64) f_Square_39 d_Square_init_61 rfl ⟨_, rfl, Or.inl rfl⟩ rfl rfl rfl ?_
  refine am_aload_n (n := 65) d_Square_init_64 rfl rfl ?_
  refine am_bipush (n := 67) d_Square_init_65 cb_8 rfl ?_
  refine am_putI (n := 70) f_Square_42 d_Square_init_67 rfl ⟨_, rfl, Or.inl rfl⟩ rfl rfl rfl ?_
  refine am_aload_n (n := 71) d_Square_init_70 rfl rfl ?_
  refine am_iconst (n := 72) d_Square_init_71 ci_0 rfl ?_
  refine am_putI (n := 75) f_Square_45 d_Square_init_72 rfl ⟨_, rfl, Or.inl rfl⟩ rfl rfl rfl ?_
  refine am_aload_n (n := 76) d_Square_init_75 rfl rfl ?_
  refine am_iconst (n := 77) d_Square_init_76 ci_0 rfl ?_
  refine am_putI (n := 80) f_Square_48 d_Square_init_77 rfl ⟨_, rfl, Or.inl rfl⟩ rfl rfl rfl ?_
  refine am_aload_n (n := 81) d_Square_init_80 rfl rfl ?_
  refine am_iconst (n := 82) d_Square_init_81 ci_0 rfl ?_
  refine am_putI (n := 85) f_Square_51 d_Square_init_82 rfl ⟨_, rfl, Or.inl rfl⟩ rfl rfl rfl ?_
  refine am_aload_n (n := 86) d_Square_init_85 rfl rfl ?_
  refine am_iconst (n := 87) d_Square_init_86 ci_0 rfl ?_
  refine am_putI (n := 90) f_Square_54 d_Square_init_87 rfl ⟨_, rfl, Or.inl rfl⟩ rfl rfl rfl ?_
  refine am_aload_n (n := 91) d_Square_init_90 rfl rfl ?_
  refine am_iconst (n := 92) d_Square_init_91 ci_0 rfl ?_
  refine am_putI (n := 95) f_Square_57 d_Square_init_92 rfl ⟨_, rfl, Or.inl rfl⟩ rfl rfl rfl ?_
  refine am_aload_n (n := 96) d_Square_init_95 rfl rfl ?_
  refine am_iconst (n := 97) d_Square_init_96 ci_0 rfl ?_
  refine am_putI (n := 100) f_Square_60 d_Square_init_97 rfl ⟨_, rfl, Or.inl rfl⟩ rfl rfl rfl ?_
  refine am_aload_n (n := 101) d_Square_init_100 rfl rfl ?_
  refine am_iconst (n := 102) d_Square_init_101 ci_0 rfl ?_
  refine am_putI (n := 105) f_Square_63 d_Square_init_102 rfl ⟨_, rfl, Or.inl rfl⟩ rfl rfl rfl ?_
  exact am_vret d_Square_init_105 ⟨rfl, rfl⟩
def ci_Days_47 (I : am_TI) : am_TI := (am_u2 (am_u2 (am_u2 (am_clr (am_clr (am_clr (am_clr (am_clr I 48 0) 49 0) 50 0) 51 0) 52 0) 47 5 0) 47 6 0) 47 7 0)
def cl_Days_47 (L : am_TL) : am_TL := (am_clr (am_clr (am_clr (am_clr (am_clr L 48 0) 49 0) 50 0) 51 0) 52 0)
def cr_Days_47 (R : am_TR) : am_TR := (am_u2 (am_clr (am_u2 (am_clr (am_u2 (am_clr (am_u2 (am_clr (am_u2 (am_clr R 48 none) 47 0 (some 48)) 49 none) 47 1 (some 49)) 50 none) 47 2 (some 50)) 51 none) 47 3 (some 51)) 52 none) 47 4 (some 52))
theorem rk_Days_47 {R : am_TR} (hR : am_Rok R (am_SHp 48)) : am_Rok (cr_Days_47 R) (am_SHp 53) := (am_rok_put (am_rok_clr (am_rok_put (am_rok_clr (am_rok_put (am_rok_clr (am_rok_put (am_rok_clr (am_rok_put (am_rok_clr hR (sl_ 48 (by decide)) (sl_ 49 (by decide))) (by decide +kernel)) (sl_ 49 (by decide)) (sl_ 50 (by decide))) (by decide +kernel)) (sl_ 50 (by decide)) (sl_ 51 (by decide))) (by decide +kernel)) (sl_ 51 (by decide)) (sl_ 52 (by decide))) (by decide +kernel)) (sl_ 52 (by decide)) (sl_ 53 (by decide))) (by decide +kernel))
theorem cro_Days_47 {R : am_TR} {a k : Nat} (h : a < 47) : cr_Days_47 R a k = R a k := by
  unfold cr_Days_47
  repeat first | rw [am_u2o (by omega)] | rw [am_clro (by omega)]
  try rfl
set_option maxRecDepth 20000 in
theorem cc_Days_47 {d : Nat} {I : am_TI} {L : am_TL} {R : am_TR} (hR : am_Rok R (am_SHp 48)) (hd : 1 ≤ d) : am_Cm d 5 300 y_Days_init b_Days_init 1 none [.ref 47] (I, L, R, am_SHp 48) (fun r σ' => r = none ∧ σ' = (ci_Days_47 I, cl_Days_47 L, cr_Days_47 R, am_SHp 53)) := by
  refine am_Cm_of (ini := true) (by decide +kernel) (fun _ => rfl) (by simp [Value.category]) (fun r σ' z => by obtain ⟨rfl, -⟩ := z; rfl) ?_
  show am_Wp (d, "UnseenRing$Days", b_Days_init, 1, true) 5 300 0 [some (.ref 47)] [] (I, L, R, am_SHp 48) _
  refine am_aload_n (n := 1) d_Days_init_0 rfl rfl ?_
  refine am_objInit2 (n := 4) d_Days_init_1 rfl lo_Days_3 (Nat.le_of_ble_eq_true rfl) (by omega) ?_
  refine am_aload_n (n := 5) d_Days_init_4 rfl rfl ?_
  refine am_bipush (n := 7) d_Days_init_5 cb_60 rfl ?_
  refine am_newaC_int (kc := 4) (ks := 240) (w := 60) (n := 9) d_Days_init_7 rfl (by decide) (by decide +kernel) (by decide) hR (sl_ 48 (by decide)) rfl rfl (by decide) ?_
  refine am_putR (n := 12) f_Days_9 d_Days_init_9 rfl ⟨_, rfl, Or.inr ⟨rfl, rfl, rfl⟩⟩ rfl rfl rfl ?_
  refine am_aload_n (n := 13) d_Days_init_12 rfl rfl ?_
  refine am_bipush (n := 15) d_Days_init_13 cb_60 rfl ?_
  refine am_newaC_int (kc := 3) (ks := 180) (w := 60) (n := 17) d_Days_init_15 rfl (by decide) (by decide +kernel) (by decide) (am_rok_put (am_rok_clr hR (sl_ 48 (by decide)) (sl_ 49 (by decide))) (by decide +kernel)) (sl_ 49 (by decide)) rfl rfl (by decide) ?_
  refine am_putR (n := 20) f_Days_13 d_Days_init_17 rfl ⟨_, rfl, Or.inr ⟨rfl, rfl, rfl⟩⟩ rfl rfl rfl ?_
  refine am_aload_n (n := 21) d_Days_init_20 rfl rfl ?_
  refine am_bipush (n := 23) d_Days_init_21 cb_60 rfl ?_
  refine am_newaC_int (kc := 2) (ks := 120) (w := 60) (n := 25) d_Days_init_23 rfl (by decide) (by decide +kernel) (by decide) (am_rok_put (am_rok_clr (am_rok_put (am_rok_clr hR (sl_ 48 (by decide)) (sl_ 49 (by decide))) (by decide +kernel)) (sl_ 49 (by decide)) (sl_ 50 (by decide))) (by decide +kernel)) (sl_ 50 (by decide)) rfl rfl (by decide) ?_
  refine am_putR (n := 28) f_Days_16 d_Days_init_25 rfl ⟨_, rfl, Or.inr ⟨rfl, rfl, rfl⟩⟩ rfl rfl rfl ?_
  refine am_aload_n (n := 29) d_Days_init_28 rfl rfl ?_
  refine am_bipush (n := 31) d_Days_init_29 cb_60 rfl ?_
  refine am_newaC_int (kc := 1) (ks := 60) (w := 60) (n := 33) d_Days_init_31 rfl (by decide) (by decide +kernel) (by decide) (am_rok_put (am_rok_clr (am_rok_put (am_rok_clr (am_rok_put (am_rok_clr hR (sl_ 48 (by decide)) (sl_ 49 (by decide))) (by decide +kernel)) (sl_ 49 (by decide)) (sl_ 50 (by decide))) (by decide +kernel)) (sl_ 50 (by decide)) (sl_ 51 (by decide))) (by decide +kernel)) (sl_ 51 (by decide)) rfl rfl (by decide) ?_
  refine am_putR (n := 36) f_Days_19 d_Days_init_33 rfl ⟨_, rfl, Or.inr ⟨rfl, rfl, rfl⟩⟩ rfl rfl rfl ?_
  refine am_aload_n (n := 37) d_Days_init_36 rfl rfl ?_
  refine am_bipush (n := 39) d_Days_init_37 cb_60 rfl ?_
  refine am_newaC_int (kc := 0) (ks := 0) (w := 60) (n := 41) d_Days_init_39 rfl (by decide) (by decide +kernel) (by decide) (am_rok_put (am_rok_clr (am_rok_put (am_rok_clr (am_rok_put (am_rok_clr (am_rok_put (am_rok_clr hR (sl_ 48 (by decide)) (sl_ 49 (by decide))) (by decide +kernel)) (sl_ 49 (by decide)) (sl_ 50 (by decide))) (by decide +kernel)) (sl_ 50 (by decide)) (sl_ 51 (by decide))) (by decide +kernel)) (sl_ 51 (by decide)) (sl_ 52 (by decide))) (by decide +kernel)) (sl_ 52 (by decide)) rfl rfl (by decide) ?_
  refine am_putR (n := 44) f_Days_22 d_Days_init_41 rfl ⟨_, rfl, Or.inr ⟨rfl, rfl, rfl⟩⟩ rfl rfl rfl ?_
  refine am_aload_n (n := 45) d_Days_init_44 rfl rfl ?_
  refine am_iconst (n := 46) d_Days_init_45 ci_0 rfl ?_
  refine am_putZ (n := 49) f_Days_25 d_Days_init_46 rfl ⟨_, rfl, Or.inl rfl⟩ rfl rfl rfl (Or.inl rfl) ?_
  refine am_aload_n (n := 50) d_Days_init_49 rfl rfl ?_
  refine am_iconst (n := 51) d_Days_init_50 ci_0 rfl ?_
  refine am_putI (n := 54) f_Days_29 d_Days_init_51 rfl ⟨_, rfl, Or.inl rfl⟩ rfl rfl rfl ?_
  refine am_aload_n (n := 55) d_Days_init_54 rfl rfl ?_
  refine am_iconst (n := 56) d_Days_init_55 ci_0 rfl ?_
  refine am_putI (n := 59) f_Days_33 d_Days_init_56 rfl ⟨_, rfl, Or.inl rfl⟩ rfl rfl rfl ?_
  exact am_vret d_Days_init_59 ⟨rfl, rfl⟩
def ci_Square_41 (I : am_TI) : am_TI := (am_u2 (am_u2 (am_u2 (am_u2 (am_u2 (am_u2 (am_u2 (am_u2 (am_u2 (am_u2 (ci_Days_47 (am_clr (am_clr (am_clr (am_clr (am_clr (am_clr I 42 0) 43 0) 44 0) 45 0) 46 0) 47 0)) 41 6 4) 41 7 4) 41 8 8) 41 9 0) 41 10 0) 41 11 0) 41 12 0) 41 13 0) 41 14 0) 41 15 0)
def cl_Square_41 (L : am_TL) : am_TL := (cl_Days_47 (am_clr (am_clr (am_clr (am_clr (am_clr (am_clr L 42 0) 43 0) 44 0) 45 0) 46 0) 47 0))
def cr_Square_41 (R : am_TR) : am_TR := (am_u2 (cr_Days_47 (am_clr (am_u2 (am_clr (am_u2 (am_clr (am_u2 (am_clr (am_u2 (am_clr (am_u2 (am_clr R 42 none) 41 0 (some 42)) 43 none) 41 1 (some 43)) 44 none) 41 2 (some 44)) 45 none) 41 3 (some 45)) 46 none) 41 4 (some 46)) 47 none)) 41 5 (some 47))
theorem rk_Square_41 {R : am_TR} (hR : am_Rok R (am_SHp 42)) : am_Rok (cr_Square_41 R) (am_SHp 53) := (am_rok_put (rk_Days_47 (am_rok_clr (am_rok_put (am_rok_clr (am_rok_put (am_rok_clr (am_rok_put (am_rok_clr (am_rok_put (am_rok_clr (am_rok_put (am_rok_clr hR (sl_ 42 (by decide)) (sl_ 43 (by decide))) (by decide +kernel)) (sl_ 43 (by decide)) (sl_ 44 (by decide))) (by decide +kernel)) (sl_ 44 (by decide)) (sl_ 45 (by decide))) (by decide +kernel)) (sl_ 45 (by decide)) (sl_ 46 (by decide))) (by decide +kernel)) (sl_ 46 (by decide)) (sl_ 47 (by decide))) (by decide +kernel)) (sl_ 47 (by decide)) (sl_ 48 (by decide)))) (by decide +kernel))
theorem cro_Square_41 {R : am_TR} {a k : Nat} (h : a < 41) : cr_Square_41 R a k = R a k := by
  unfold cr_Square_41
  repeat first | rw [am_u2o (by omega)] | rw [am_clro (by omega)] | rw [cro_Days_47 (by omega)]
  try rfl
set_option maxRecDepth 20000 in
theorem cc_Square_41 {d : Nat} {I : am_TI} {L : am_TL} {R : am_TR} (hR : am_Rok R (am_SHp 42)) (hd : 2 ≤ d) : am_Cm d 11 336 y_Square_init b_Square_init 1 none [.ref 41] (I, L, R, am_SHp 42) (fun r σ' => r = none ∧ σ' = (ci_Square_41 I, cl_Square_41 L, cr_Square_41 R, am_SHp 53)) := by
  refine am_Cm_of (ini := true) (by decide +kernel) (fun _ => rfl) (by simp [Value.category]) (fun r σ' z => by obtain ⟨rfl, -⟩ := z; rfl) ?_
  show am_Wp (d, "UnseenRing$Square", b_Square_init, 1, true) 11 336 0 [some (.ref 41)] [] (I, L, R, am_SHp 42) _
  refine am_aload_n (n := 1) d_Square_init_0 rfl rfl ?_
  refine am_objInit2 (n := 4) d_Square_init_1 rfl lo_Square_3 (Nat.le_of_ble_eq_true rfl) (by omega) ?_
  refine am_aload_n (n := 5) d_Square_init_4 rfl rfl ?_
  refine am_bipush (n := 7) d_Square_init_5 cb_6 rfl ?_
  refine am_newaC_long (kc := 10) (ks := 330) (w := 6) (n := 9) d_Square_init_7 rfl (by decide) (by decide +kernel) (by decide) hR (sl_ 42 (by decide)) rfl rfl (by decide) ?_
  refine am_putR (n := 12) f_Square_9 d_Square_init_9 rfl ⟨_, rfl, Or.inr ⟨rfl, rfl, rfl⟩⟩ rfl rfl rfl ?_
  refine am_aload_n (n := 13) d_Square_init_12 rfl rfl ?_
  refine am_bipush (n := 15) d_Square_init_13 cb_6 rfl ?_
  refine am_newaC_int (kc := 9) (ks := 324) (w := 6) (n := 17) d_Square_init_15 rfl (by decide) (by decide +kernel) (by decide) (am_rok_put (am_rok_clr hR (sl_ 42 (by decide)) (sl_ 43 (by decide))) (by decide +kernel)) (sl_ 43 (by decide)) rfl rfl (by decide) ?_
  refine am_putR (n := 20) f_Square_15 d_Square_init_17 rfl ⟨_, rfl, Or.inr ⟨rfl, rfl, rfl⟩⟩ rfl rfl rfl ?_
  refine am_aload_n (n := 21) d_Square_init_20 rfl rfl ?_
  refine am_bipush (n := 23) d_Square_init_21 cb_6 rfl ?_
  refine am_newaC_int (kc := 8) (ks := 318) (w := 6) (n := 25) d_Square_init_23 rfl (by decide) (by decide +kernel) (by decide) (am_rok_put (am_rok_clr (am_rok_put (am_rok_clr hR (sl_ 42 (by decide)) (sl_ 43 (by decide))) (by decide +kernel)) (sl_ 43 (by decide)) (sl_ 44 (by decide))) (by decide +kernel)) (sl_ 44 (by decide)) rfl rfl (by decide) ?_
  refine am_putR (n := 28) f_Square_19 d_Square_init_25 rfl ⟨_, rfl, Or.inr ⟨rfl, rfl, rfl⟩⟩ rfl rfl rfl ?_
  refine am_aload_n (n := 29) d_Square_init_28 rfl rfl ?_
  refine am_bipush (n := 31) d_Square_init_29 cb_6 rfl ?_
  refine am_newaC_int (kc := 7) (ks := 312) (w := 6) (n := 33) d_Square_init_31 rfl (by decide) (by decide +kernel) (by decide) (am_rok_put (am_rok_clr (am_rok_put (am_rok_clr (am_rok_put (am_rok_clr hR (sl_ 42 (by decide)) (sl_ 43 (by decide))) (by decide +kernel)) (sl_ 43 (by decide)) (sl_ 44 (by decide))) (by decide +kernel)) (sl_ 44 (by decide)) (sl_ 45 (by decide))) (by decide +kernel)) (sl_ 45 (by decide)) rfl rfl (by decide) ?_
  refine am_putR (n := 36) f_Square_22 d_Square_init_33 rfl ⟨_, rfl, Or.inr ⟨rfl, rfl, rfl⟩⟩ rfl rfl rfl ?_
  refine am_aload_n (n := 37) d_Square_init_36 rfl rfl ?_
  refine am_iconst (n := 38) d_Square_init_37 ci_4 rfl ?_
  refine am_newaC_int (kc := 6) (ks := 308) (w := 4) (n := 40) d_Square_init_38 rfl (by decide) (by decide +kernel) (by decide) (am_rok_put (am_rok_clr (am_rok_put (am_rok_clr (am_rok_put (am_rok_clr (am_rok_put (am_rok_clr hR (sl_ 42 (by decide)) (sl_ 43 (by decide))) (by decide +kernel)) (sl_ 43 (by decide)) (sl_ 44 (by decide))) (by decide +kernel)) (sl_ 44 (by decide)) (sl_ 45 (by decide))) (by decide +kernel)) (sl_ 45 (by decide)) (sl_ 46 (by decide))) (by decide +kernel)) (sl_ 46 (by decide)) rfl rfl (by decide) ?_
  refine am_putR (n := 43) f_Square_25 d_Square_init_40 rfl ⟨_, rfl, Or.inr ⟨rfl, rfl, rfl⟩⟩ rfl rfl rfl ?_
  refine am_aload_n (n := 44) d_Square_init_43 rfl rfl ?_
  refine am_newC (ci := 1) (kc := 5) (ks := 300) (N := 8) (n := 47) d_Square_init_44 rfl rfl rfl cl_Square_28 it_Days ini_Days df_Days (am_rok_put (am_rok_clr (am_rok_put (am_rok_clr (am_rok_put (am_rok_clr (am_rok_put (am_rok_clr (am_rok_put (am_rok_clr hR (sl_ 42 (by decide)) (sl_ 43 (by decide))) (by decide +kernel)) (sl_ 43 (by decide)) (sl_ 44 (by decide))) (by decide +kernel)) (sl_ 44 (by decide)) (sl_ 45 (by decide))) (by decide +kernel)) (sl_ 45 (by decide)) (sl_ 46 (by decide))) (by decide +kernel)) (sl_ 46 (by decide)) (sl_ 47 (by decide))) (by decide +kernel)) (sl_ 47 (by decide)) rfl rfl (by decide) ?_
  refine am_dup (n := 48) d_Square_init_47 rfl rfl ?_
  refine am_callI (kc := 0) (ks := 0) (kc' := 5) (ks' := 300) (As := []) (q := 47) (n := 51) d_Square_init_48 rfl ce_Days_init lk_Square_30 in_Days_init rfl rfl (Nat.le_of_ble_eq_true rfl) (Or.inr (am_ok_of rfl)) (cc_Days_47 (d := d - 1) (am_rok_clr (am_rok_put (am_rok_clr (am_rok_put (am_rok_clr (am_rok_put (am_rok_clr (am_rok_put (am_rok_clr (am_rok_put (am_rok_clr hR (sl_ 42 (by decide)) (sl_ 43 (by decide))) (by decide +kernel)) (sl_ 43 (by decide)) (sl_ 44 (by decide))) (by decide +kernel)) (sl_ 44 (by decide)) (sl_ 45 (by decide))) (by decide +kernel)) (sl_ 45 (by decide)) (sl_ 46 (by decide))) (by decide +kernel)) (sl_ 46 (by decide)) (sl_ 47 (by decide))) (by decide +kernel)) (sl_ 47 (by decide)) (sl_ 48 (by decide))) (by omega)) (by omega) ?_
  rintro _ _ ⟨rfl, rfl⟩
  refine am_putR (n := 54) f_Square_31 d_Square_init_51 rfl ⟨_, rfl, Or.inl rfl⟩ rfl rfl rfl ?_
  refine am_aload_n (n := 55) d_Square_init_54 rfl rfl ?_
  refine am_iconst (n := 56) d_Square_init_55 ci_4 rfl ?_
  refine am_putI (n := 59) f_Square_35 d_Square_init_56 rfl ⟨_, rfl, Or.inl rfl⟩ rfl rfl rfl ?_
  refine am_aload_n (n := 60) d_Square_init_59 rfl rfl ?_
  refine am_iconst (n := 61) d_Square_init_60 ci_4 rfl ?_
  refine am_putI (n := 64) f_Square_39 d_Square_init_61 rfl ⟨_, rfl, Or.inl rfl⟩ rfl rfl rfl ?_
  refine am_aload_n (n := 65) d_Square_init_64 rfl rfl ?_
  refine am_bipush (n := 67) d_Square_init_65 cb_8 rfl ?_
  refine am_putI (n := 70) f_Square_42 d_Square_init_67 rfl ⟨_, rfl, Or.inl rfl⟩ rfl rfl rfl ?_
  refine am_aload_n (n := 71) d_Square_init_70 rfl rfl ?_
  refine am_iconst (n := 72) d_Square_init_71 ci_0 rfl ?_
  refine am_putI (n := 75) f_Square_45 d_Square_init_72 rfl ⟨_, rfl, Or.inl rfl⟩ rfl rfl rfl ?_
  refine am_aload_n (n := 76) d_Square_init_75 rfl rfl ?_
  refine am_iconst (n := 77) d_Square_init_76 ci_0 rfl ?_
  refine am_putI (n := 80) f_Square_48 d_Square_init_77 rfl ⟨_, rfl, Or.inl rfl⟩ rfl rfl rfl ?_
  refine am_aload_n (n := 81) d_Square_init_80 rfl rfl ?_
  refine am_iconst (n := 82) d_Square_init_81 ci_0 rfl ?_
  refine am_putI (n := 85) f_Square_51 d_Square_init_82 rfl ⟨_, rfl, Or.inl rfl⟩ rfl rfl rfl ?_
  refine am_aload_n (n := 86) d_Square_init_85 rfl rfl ?_
  refine am_iconst (n := 87) d_Square_init_86 ci_0 rfl ?_
  refine am_putI (n := 90) f_Square_54 d_Square_init_87 rfl ⟨_, rfl, Or.inl rfl⟩ rfl rfl rfl ?_
  refine am_aload_n (n := 91) d_Square_init_90 rfl rfl ?_
  refine am_iconst (n := 92) d_Square_init_91 ci_0 rfl ?_
  refine am_putI (n := 95) f_Square_57 d_Square_init_92 rfl ⟨_, rfl, Or.inl rfl⟩ rfl rfl rfl ?_
  refine am_aload_n (n := 96) d_Square_init_95 rfl rfl ?_
  refine am_iconst (n := 97) d_Square_init_96 ci_0 rfl ?_
  refine am_putI (n := 100) f_Square_60 d_Square_init_97 rfl ⟨_, rfl, Or.inl rfl⟩ rfl rfl rfl ?_
  refine am_aload_n (n := 101) d_Square_init_100 rfl rfl ?_
  refine am_iconst (n := 102) d_Square_init_101 ci_0 rfl ?_
  refine am_putI (n := 105) f_Square_63 d_Square_init_102 rfl ⟨_, rfl, Or.inl rfl⟩ rfl rfl rfl ?_
  exact am_vret d_Square_init_105 ⟨rfl, rfl⟩
def ci_Days_53 (I : am_TI) : am_TI := (am_u2 (am_u2 (am_u2 (am_clr (am_clr (am_clr (am_clr (am_clr I 54 0) 55 0) 56 0) 57 0) 58 0) 53 5 0) 53 6 0) 53 7 0)
def cl_Days_53 (L : am_TL) : am_TL := (am_clr (am_clr (am_clr (am_clr (am_clr L 54 0) 55 0) 56 0) 57 0) 58 0)
def cr_Days_53 (R : am_TR) : am_TR := (am_u2 (am_clr (am_u2 (am_clr (am_u2 (am_clr (am_u2 (am_clr (am_u2 (am_clr R 54 none) 53 0 (some 54)) 55 none) 53 1 (some 55)) 56 none) 53 2 (some 56)) 57 none) 53 3 (some 57)) 58 none) 53 4 (some 58))
theorem rk_Days_53 {R : am_TR} (hR : am_Rok R (am_SHp 54)) : am_Rok (cr_Days_53 R) (am_SHp 59) := (am_rok_put (am_rok_clr (am_rok_put (am_rok_clr (am_rok_put (am_rok_clr (am_rok_put (am_rok_clr (am_rok_put (am_rok_clr hR (sl_ 54 (by decide)) (sl_ 55 (by decide))) (by decide +kernel)) (sl_ 55 (by decide)) (sl_ 56 (by decide))) (by decide +kernel)) (sl_ 56 (by decide)) (sl_ 57 (by decide))) (by decide +kernel)) (sl_ 57 (by decide)) (sl_ 58 (by decide))) (by decide +kernel)) (sl_ 58 (by decide)) (sl_ 59 (by decide))) (by decide +kernel))
theorem cro_Days_53 {R : am_TR} {a k : Nat} (h : a < 53) : cr_Days_53 R a k = R a k := by
  unfold cr_Days_53
  repeat first | rw [am_u2o (by omega)] | rw [am_clro (by omega)]
  try rfl
set_option maxRecDepth 20000 in
theorem cc_Days_53 {d : Nat} {I : am_TI} {L : am_TL} {R : am_TR} (hR : am_Rok R (am_SHp 54)) (hd : 1 ≤ d) : am_Cm d 5 300 y_Days_init b_Days_init 1 none [.ref 53] (I, L, R, am_SHp 54) (fun r σ' => r = none ∧ σ' = (ci_Days_53 I, cl_Days_53 L, cr_Days_53 R, am_SHp 59)) := by
  refine am_Cm_of (ini := true) (by decide +kernel) (fun _ => rfl) (by simp [Value.category]) (fun r σ' z => by obtain ⟨rfl, -⟩ := z; rfl) ?_
  show am_Wp (d, "UnseenRing$Days", b_Days_init, 1, true) 5 300 0 [some (.ref 53)] [] (I, L, R, am_SHp 54) _
  refine am_aload_n (n := 1) d_Days_init_0 rfl rfl ?_
  refine am_objInit2 (n := 4) d_Days_init_1 rfl lo_Days_3 (Nat.le_of_ble_eq_true rfl) (by omega) ?_
  refine am_aload_n (n := 5) d_Days_init_4 rfl rfl ?_
  refine am_bipush (n := 7) d_Days_init_5 cb_60 rfl ?_
  refine am_newaC_int (kc := 4) (ks := 240) (w := 60) (n := 9) d_Days_init_7 rfl (by decide) (by decide +kernel) (by decide) hR (sl_ 54 (by decide)) rfl rfl (by decide) ?_
  refine am_putR (n := 12) f_Days_9 d_Days_init_9 rfl ⟨_, rfl, Or.inr ⟨rfl, rfl, rfl⟩⟩ rfl rfl rfl ?_
  refine am_aload_n (n := 13) d_Days_init_12 rfl rfl ?_
  refine am_bipush (n := 15) d_Days_init_13 cb_60 rfl ?_
  refine am_newaC_int (kc := 3) (ks := 180) (w := 60) (n := 17) d_Days_init_15 rfl (by decide) (by decide +kernel) (by decide) (am_rok_put (am_rok_clr hR (sl_ 54 (by decide)) (sl_ 55 (by decide))) (by decide +kernel)) (sl_ 55 (by decide)) rfl rfl (by decide) ?_
  refine am_putR (n := 20) f_Days_13 d_Days_init_17 rfl ⟨_, rfl, Or.inr ⟨rfl, rfl, rfl⟩⟩ rfl rfl rfl ?_
  refine am_aload_n (n := 21) d_Days_init_20 rfl rfl ?_
  refine am_bipush (n := 23) d_Days_init_21 cb_60 rfl ?_
  refine am_newaC_int (kc := 2) (ks := 120) (w := 60) (n := 25) d_Days_init_23 rfl (by decide) (by decide +kernel) (by decide) (am_rok_put (am_rok_clr (am_rok_put (am_rok_clr hR (sl_ 54 (by decide)) (sl_ 55 (by decide))) (by decide +kernel)) (sl_ 55 (by decide)) (sl_ 56 (by decide))) (by decide +kernel)) (sl_ 56 (by decide)) rfl rfl (by decide) ?_
  refine am_putR (n := 28) f_Days_16 d_Days_init_25 rfl ⟨_, rfl, Or.inr ⟨rfl, rfl, rfl⟩⟩ rfl rfl rfl ?_
  refine am_aload_n (n := 29) d_Days_init_28 rfl rfl ?_
  refine am_bipush (n := 31) d_Days_init_29 cb_60 rfl ?_
  refine am_newaC_int (kc := 1) (ks := 60) (w := 60) (n := 33) d_Days_init_31 rfl (by decide) (by decide +kernel) (by decide) (am_rok_put (am_rok_clr (am_rok_put (am_rok_clr (am_rok_put (am_rok_clr hR (sl_ 54 (by decide)) (sl_ 55 (by decide))) (by decide +kernel)) (sl_ 55 (by decide)) (sl_ 56 (by decide))) (by decide +kernel)) (sl_ 56 (by decide)) (sl_ 57 (by decide))) (by decide +kernel)) (sl_ 57 (by decide)) rfl rfl (by decide) ?_
  refine am_putR (n := 36) f_Days_19 d_Days_init_33 rfl ⟨_, rfl, Or.inr ⟨rfl, rfl, rfl⟩⟩ rfl rfl rfl ?_
  refine am_aload_n (n := 37) d_Days_init_36 rfl rfl ?_
  refine am_bipush (n := 39) d_Days_init_37 cb_60 rfl ?_
  refine am_newaC_int (kc := 0) (ks := 0) (w := 60) (n := 41) d_Days_init_39 rfl (by decide) (by decide +kernel) (by decide) (am_rok_put (am_rok_clr (am_rok_put (am_rok_clr (am_rok_put (am_rok_clr (am_rok_put (am_rok_clr hR (sl_ 54 (by decide)) (sl_ 55 (by decide))) (by decide +kernel)) (sl_ 55 (by decide)) (sl_ 56 (by decide))) (by decide +kernel)) (sl_ 56 (by decide)) (sl_ 57 (by decide))) (by decide +kernel)) (sl_ 57 (by decide)) (sl_ 58 (by decide))) (by decide +kernel)) (sl_ 58 (by decide)) rfl rfl (by decide) ?_
  refine am_putR (n := 44) f_Days_22 d_Days_init_41 rfl ⟨_, rfl, Or.inr ⟨rfl, rfl, rfl⟩⟩ rfl rfl rfl ?_
  refine am_aload_n (n := 45) d_Days_init_44 rfl rfl ?_
  refine am_iconst (n := 46) d_Days_init_45 ci_0 rfl ?_
  refine am_putZ (n := 49) f_Days_25 d_Days_init_46 rfl ⟨_, rfl, Or.inl rfl⟩ rfl rfl rfl (Or.inl rfl) ?_
  refine am_aload_n (n := 50) d_Days_init_49 rfl rfl ?_
  refine am_iconst (n := 51) d_Days_init_50 ci_0 rfl ?_
  refine am_putI (n := 54) f_Days_29 d_Days_init_51 rfl ⟨_, rfl, Or.inl rfl⟩ rfl rfl rfl ?_
  refine am_aload_n (n := 55) d_Days_init_54 rfl rfl ?_
  refine am_iconst (n := 56) d_Days_init_55 ci_0 rfl ?_
  refine am_putI (n := 59) f_Days_33 d_Days_init_56 rfl ⟨_, rfl, Or.inl rfl⟩ rfl rfl rfl ?_
  exact am_vret d_Days_init_59 ⟨rfl, rfl⟩
def ci_Tray_59 (I : am_TI) : am_TI := (am_u2 (am_u2 (am_clr I 60 0) 59 1 (-1)) 59 2 0)
def cl_Tray_59 (L : am_TL) : am_TL := (am_clr L 60 0)
def cr_Tray_59 (R : am_TR) : am_TR := (am_u2 (am_clr R 60 none) 59 0 (some 60))
theorem rk_Tray_59 {R : am_TR} (hR : am_Rok R (am_SHp 60)) : am_Rok (cr_Tray_59 R) (am_SHp 61) := (am_rok_put (am_rok_clr hR (sl_ 60 (by decide)) (sl_ 61 (by decide))) (by decide +kernel))
theorem cro_Tray_59 {R : am_TR} {a k : Nat} (h : a < 59) : cr_Tray_59 R a k = R a k := by
  unfold cr_Tray_59
  repeat first | rw [am_u2o (by omega)] | rw [am_clro (by omega)]
  try rfl
set_option maxRecDepth 20000 in
theorem cc_Tray_59 {d : Nat} {I : am_TI} {L : am_TL} {R : am_TR} (hR : am_Rok R (am_SHp 60)) (hd : 1 ≤ d) : am_Cm d 1 60 y_Tray_init b_Tray_init 1 none [.ref 59] (I, L, R, am_SHp 60) (fun r σ' => r = none ∧ σ' = (ci_Tray_59 I, cl_Tray_59 L, cr_Tray_59 R, am_SHp 61)) := by
  refine am_Cm_of (ini := true) (by decide +kernel) (fun _ => rfl) (by simp [Value.category]) (fun r σ' z => by obtain ⟨rfl, -⟩ := z; rfl) ?_
  show am_Wp (d, "UnseenRing$Tray", b_Tray_init, 1, true) 1 60 0 [some (.ref 59)] [] (I, L, R, am_SHp 60) _
  refine am_aload_n (n := 1) d_Tray_init_0 rfl rfl ?_
  refine am_objInit2 (n := 4) d_Tray_init_1 rfl lo_Tray_3 (Nat.le_of_ble_eq_true rfl) (by omega) ?_
  refine am_aload_n (n := 5) d_Tray_init_4 rfl rfl ?_
  refine am_bipush (n := 7) d_Tray_init_5 cb_60 rfl ?_
  refine am_newaC_long (kc := 0) (ks := 0) (w := 60) (n := 9) d_Tray_init_7 rfl (by decide) (by decide +kernel) (by decide) hR (sl_ 60 (by decide)) rfl rfl (by decide) ?_
  refine am_putR (n := 12) f_Tray_9 d_Tray_init_9 rfl ⟨_, rfl, Or.inr ⟨rfl, rfl, rfl⟩⟩ rfl rfl rfl ?_
  refine am_aload_n (n := 13) d_Tray_init_12 rfl rfl ?_
  refine am_iconst (n := 14) d_Tray_init_13 ci_m1 rfl ?_
  refine am_putI (n := 17) f_Tray_15 d_Tray_init_14 rfl ⟨_, rfl, Or.inl rfl⟩ rfl rfl rfl ?_
  refine am_aload_n (n := 18) d_Tray_init_17 rfl rfl ?_
  refine am_iconst (n := 19) d_Tray_init_18 ci_0 rfl ?_
  refine am_putI (n := 22) f_Tray_19 d_Tray_init_19 rfl ⟨_, rfl, Or.inl rfl⟩ rfl rfl rfl ?_
  exact am_vret d_Tray_init_22 ⟨rfl, rfl⟩
def ci_Tray_61 (I : am_TI) : am_TI := (am_u2 (am_u2 (am_clr I 62 0) 61 1 (-1)) 61 2 0)
def cl_Tray_61 (L : am_TL) : am_TL := (am_clr L 62 0)
def cr_Tray_61 (R : am_TR) : am_TR := (am_u2 (am_clr R 62 none) 61 0 (some 62))
theorem rk_Tray_61 {R : am_TR} (hR : am_Rok R (am_SHp 62)) : am_Rok (cr_Tray_61 R) (am_SHp 63) := (am_rok_put (am_rok_clr hR (sl_ 62 (by decide)) (sl_ 63 (by decide))) (by decide +kernel))
theorem cro_Tray_61 {R : am_TR} {a k : Nat} (h : a < 61) : cr_Tray_61 R a k = R a k := by
  unfold cr_Tray_61
  repeat first | rw [am_u2o (by omega)] | rw [am_clro (by omega)]
  try rfl
set_option maxRecDepth 20000 in
theorem cc_Tray_61 {d : Nat} {I : am_TI} {L : am_TL} {R : am_TR} (hR : am_Rok R (am_SHp 62)) (hd : 1 ≤ d) : am_Cm d 1 60 y_Tray_init b_Tray_init 1 none [.ref 61] (I, L, R, am_SHp 62) (fun r σ' => r = none ∧ σ' = (ci_Tray_61 I, cl_Tray_61 L, cr_Tray_61 R, am_SHp 63)) := by
  refine am_Cm_of (ini := true) (by decide +kernel) (fun _ => rfl) (by simp [Value.category]) (fun r σ' z => by obtain ⟨rfl, -⟩ := z; rfl) ?_
  show am_Wp (d, "UnseenRing$Tray", b_Tray_init, 1, true) 1 60 0 [some (.ref 61)] [] (I, L, R, am_SHp 62) _
  refine am_aload_n (n := 1) d_Tray_init_0 rfl rfl ?_
  refine am_objInit2 (n := 4) d_Tray_init_1 rfl lo_Tray_3 (Nat.le_of_ble_eq_true rfl) (by omega) ?_
  refine am_aload_n (n := 5) d_Tray_init_4 rfl rfl ?_
  refine am_bipush (n := 7) d_Tray_init_5 cb_60 rfl ?_
  refine am_newaC_long (kc := 0) (ks := 0) (w := 60) (n := 9) d_Tray_init_7 rfl (by decide) (by decide +kernel) (by decide) hR (sl_ 62 (by decide)) rfl rfl (by decide) ?_
  refine am_putR (n := 12) f_Tray_9 d_Tray_init_9 rfl ⟨_, rfl, Or.inr ⟨rfl, rfl, rfl⟩⟩ rfl rfl rfl ?_
  refine am_aload_n (n := 13) d_Tray_init_12 rfl rfl ?_
  refine am_iconst (n := 14) d_Tray_init_13 ci_m1 rfl ?_
  refine am_putI (n := 17) f_Tray_15 d_Tray_init_14 rfl ⟨_, rfl, Or.inl rfl⟩ rfl rfl rfl ?_
  refine am_aload_n (n := 18) d_Tray_init_17 rfl rfl ?_
  refine am_iconst (n := 19) d_Tray_init_18 ci_0 rfl ?_
  refine am_putI (n := 22) f_Tray_19 d_Tray_init_19 rfl ⟨_, rfl, Or.inl rfl⟩ rfl rfl rfl ?_
  exact am_vret d_Tray_init_22 ⟨rfl, rfl⟩
def ci_Tray_63 (I : am_TI) : am_TI := (am_u2 (am_u2 (am_clr I 64 0) 63 1 (-1)) 63 2 0)
def cl_Tray_63 (L : am_TL) : am_TL := (am_clr L 64 0)
def cr_Tray_63 (R : am_TR) : am_TR := (am_u2 (am_clr R 64 none) 63 0 (some 64))
theorem rk_Tray_63 {R : am_TR} (hR : am_Rok R (am_SHp 64)) : am_Rok (cr_Tray_63 R) (am_SHp 65) := (am_rok_put (am_rok_clr hR (sl_ 64 (by decide)) (sl_ 65 (by decide))) (by decide +kernel))
theorem cro_Tray_63 {R : am_TR} {a k : Nat} (h : a < 63) : cr_Tray_63 R a k = R a k := by
  unfold cr_Tray_63
  repeat first | rw [am_u2o (by omega)] | rw [am_clro (by omega)]
  try rfl
set_option maxRecDepth 20000 in
theorem cc_Tray_63 {d : Nat} {I : am_TI} {L : am_TL} {R : am_TR} (hR : am_Rok R (am_SHp 64)) (hd : 1 ≤ d) : am_Cm d 1 60 y_Tray_init b_Tray_init 1 none [.ref 63] (I, L, R, am_SHp 64) (fun r σ' => r = none ∧ σ' = (ci_Tray_63 I, cl_Tray_63 L, cr_Tray_63 R, am_SHp 65)) := by
  refine am_Cm_of (ini := true) (by decide +kernel) (fun _ => rfl) (by simp [Value.category]) (fun r σ' z => by obtain ⟨rfl, -⟩ := z; rfl) ?_
  show am_Wp (d, "UnseenRing$Tray", b_Tray_init, 1, true) 1 60 0 [some (.ref 63)] [] (I, L, R, am_SHp 64) _
  refine am_aload_n (n := 1) d_Tray_init_0 rfl rfl ?_
  refine am_objInit2 (n := 4) d_Tray_init_1 rfl lo_Tray_3 (Nat.le_of_ble_eq_true rfl) (by omega) ?_
  refine am_aload_n (n := 5) d_Tray_init_4 rfl rfl ?_
  refine am_bipush (n := 7) d_Tray_init_5 cb_60 rfl ?_
  refine am_newaC_long (kc := 0) (ks := 0) (w := 60) (n := 9) d_Tray_init_7 rfl (by decide) (by decide +kernel) (by decide) hR (sl_ 64 (by decide)) rfl rfl (by decide) ?_
  refine am_putR (n := 12) f_Tray_9 d_Tray_init_9 rfl ⟨_, rfl, Or.inr ⟨rfl, rfl, rfl⟩⟩ rfl rfl rfl ?_
  refine am_aload_n (n := 13) d_Tray_init_12 rfl rfl ?_
  refine am_iconst (n := 14) d_Tray_init_13 ci_m1 rfl ?_
  refine am_putI (n := 17) f_Tray_15 d_Tray_init_14 rfl ⟨_, rfl, Or.inl rfl⟩ rfl rfl rfl ?_
  refine am_aload_n (n := 18) d_Tray_init_17 rfl rfl ?_
  refine am_iconst (n := 19) d_Tray_init_18 ci_0 rfl ?_
  refine am_putI (n := 22) f_Tray_19 d_Tray_init_19 rfl ⟨_, rfl, Or.inl rfl⟩ rfl rfl rfl ?_
  exact am_vret d_Tray_init_22 ⟨rfl, rfl⟩
def ci_Tray_65 (I : am_TI) : am_TI := (am_u2 (am_u2 (am_clr I 66 0) 65 1 (-1)) 65 2 0)
def cl_Tray_65 (L : am_TL) : am_TL := (am_clr L 66 0)
def cr_Tray_65 (R : am_TR) : am_TR := (am_u2 (am_clr R 66 none) 65 0 (some 66))
theorem rk_Tray_65 {R : am_TR} (hR : am_Rok R (am_SHp 66)) : am_Rok (cr_Tray_65 R) (am_SHp 67) := (am_rok_put (am_rok_clr hR (sl_ 66 (by decide)) (sl_ 67 (by decide))) (by decide +kernel))
theorem cro_Tray_65 {R : am_TR} {a k : Nat} (h : a < 65) : cr_Tray_65 R a k = R a k := by
  unfold cr_Tray_65
  repeat first | rw [am_u2o (by omega)] | rw [am_clro (by omega)]
  try rfl
set_option maxRecDepth 20000 in
theorem cc_Tray_65 {d : Nat} {I : am_TI} {L : am_TL} {R : am_TR} (hR : am_Rok R (am_SHp 66)) (hd : 1 ≤ d) : am_Cm d 1 60 y_Tray_init b_Tray_init 1 none [.ref 65] (I, L, R, am_SHp 66) (fun r σ' => r = none ∧ σ' = (ci_Tray_65 I, cl_Tray_65 L, cr_Tray_65 R, am_SHp 67)) := by
  refine am_Cm_of (ini := true) (by decide +kernel) (fun _ => rfl) (by simp [Value.category]) (fun r σ' z => by obtain ⟨rfl, -⟩ := z; rfl) ?_
  show am_Wp (d, "UnseenRing$Tray", b_Tray_init, 1, true) 1 60 0 [some (.ref 65)] [] (I, L, R, am_SHp 66) _
  refine am_aload_n (n := 1) d_Tray_init_0 rfl rfl ?_
  refine am_objInit2 (n := 4) d_Tray_init_1 rfl lo_Tray_3 (Nat.le_of_ble_eq_true rfl) (by omega) ?_
  refine am_aload_n (n := 5) d_Tray_init_4 rfl rfl ?_
  refine am_bipush (n := 7) d_Tray_init_5 cb_60 rfl ?_
  refine am_newaC_long (kc := 0) (ks := 0) (w := 60) (n := 9) d_Tray_init_7 rfl (by decide) (by decide +kernel) (by decide) hR (sl_ 66 (by decide)) rfl rfl (by decide) ?_
  refine am_putR (n := 12) f_Tray_9 d_Tray_init_9 rfl ⟨_, rfl, Or.inr ⟨rfl, rfl, rfl⟩⟩ rfl rfl rfl ?_
  refine am_aload_n (n := 13) d_Tray_init_12 rfl rfl ?_
  refine am_iconst (n := 14) d_Tray_init_13 ci_m1 rfl ?_
  refine am_putI (n := 17) f_Tray_15 d_Tray_init_14 rfl ⟨_, rfl, Or.inl rfl⟩ rfl rfl rfl ?_
  refine am_aload_n (n := 18) d_Tray_init_17 rfl rfl ?_
  refine am_iconst (n := 19) d_Tray_init_18 ci_0 rfl ?_
  refine am_putI (n := 22) f_Tray_19 d_Tray_init_19 rfl ⟨_, rfl, Or.inl rfl⟩ rfl rfl rfl ?_
  exact am_vret d_Tray_init_22 ⟨rfl, rfl⟩
def ci_Days_73 (I : am_TI) : am_TI := (am_u2 (am_u2 (am_u2 (am_clr (am_clr (am_clr (am_clr (am_clr I 74 0) 75 0) 76 0) 77 0) 78 0) 73 5 0) 73 6 0) 73 7 0)
def cl_Days_73 (L : am_TL) : am_TL := (am_clr (am_clr (am_clr (am_clr (am_clr L 74 0) 75 0) 76 0) 77 0) 78 0)
def cr_Days_73 (R : am_TR) : am_TR := (am_u2 (am_clr (am_u2 (am_clr (am_u2 (am_clr (am_u2 (am_clr (am_u2 (am_clr R 74 none) 73 0 (some 74)) 75 none) 73 1 (some 75)) 76 none) 73 2 (some 76)) 77 none) 73 3 (some 77)) 78 none) 73 4 (some 78))
theorem rk_Days_73 {R : am_TR} (hR : am_Rok R (am_SHp 74)) : am_Rok (cr_Days_73 R) (am_SHp 79) := (am_rok_put (am_rok_clr (am_rok_put (am_rok_clr (am_rok_put (am_rok_clr (am_rok_put (am_rok_clr (am_rok_put (am_rok_clr hR (sl_ 74 (by decide)) (sl_ 75 (by decide))) (by decide +kernel)) (sl_ 75 (by decide)) (sl_ 76 (by decide))) (by decide +kernel)) (sl_ 76 (by decide)) (sl_ 77 (by decide))) (by decide +kernel)) (sl_ 77 (by decide)) (sl_ 78 (by decide))) (by decide +kernel)) (sl_ 78 (by decide)) (sl_ 79 (by decide))) (by decide +kernel))
theorem cro_Days_73 {R : am_TR} {a k : Nat} (h : a < 73) : cr_Days_73 R a k = R a k := by
  unfold cr_Days_73
  repeat first | rw [am_u2o (by omega)] | rw [am_clro (by omega)]
  try rfl
set_option maxRecDepth 20000 in
theorem cc_Days_73 {d : Nat} {I : am_TI} {L : am_TL} {R : am_TR} (hR : am_Rok R (am_SHp 74)) (hd : 1 ≤ d) : am_Cm d 5 300 y_Days_init b_Days_init 1 none [.ref 73] (I, L, R, am_SHp 74) (fun r σ' => r = none ∧ σ' = (ci_Days_73 I, cl_Days_73 L, cr_Days_73 R, am_SHp 79)) := by
  refine am_Cm_of (ini := true) (by decide +kernel) (fun _ => rfl) (by simp [Value.category]) (fun r σ' z => by obtain ⟨rfl, -⟩ := z; rfl) ?_
  show am_Wp (d, "UnseenRing$Days", b_Days_init, 1, true) 5 300 0 [some (.ref 73)] [] (I, L, R, am_SHp 74) _
  refine am_aload_n (n := 1) d_Days_init_0 rfl rfl ?_
  refine am_objInit2 (n := 4) d_Days_init_1 rfl lo_Days_3 (Nat.le_of_ble_eq_true rfl) (by omega) ?_
  refine am_aload_n (n := 5) d_Days_init_4 rfl rfl ?_
  refine am_bipush (n := 7) d_Days_init_5 cb_60 rfl ?_
  refine am_newaC_int (kc := 4) (ks := 240) (w := 60) (n := 9) d_Days_init_7 rfl (by decide) (by decide +kernel) (by decide) hR (sl_ 74 (by decide)) rfl rfl (by decide) ?_
  refine am_putR (n := 12) f_Days_9 d_Days_init_9 rfl ⟨_, rfl, Or.inr ⟨rfl, rfl, rfl⟩⟩ rfl rfl rfl ?_
  refine am_aload_n (n := 13) d_Days_init_12 rfl rfl ?_
  refine am_bipush (n := 15) d_Days_init_13 cb_60 rfl ?_
  refine am_newaC_int (kc := 3) (ks := 180) (w := 60) (n := 17) d_Days_init_15 rfl (by decide) (by decide +kernel) (by decide) (am_rok_put (am_rok_clr hR (sl_ 74 (by decide)) (sl_ 75 (by decide))) (by decide +kernel)) (sl_ 75 (by decide)) rfl rfl (by decide) ?_
  refine am_putR (n := 20) f_Days_13 d_Days_init_17 rfl ⟨_, rfl, Or.inr ⟨rfl, rfl, rfl⟩⟩ rfl rfl rfl ?_
  refine am_aload_n (n := 21) d_Days_init_20 rfl rfl ?_
  refine am_bipush (n := 23) d_Days_init_21 cb_60 rfl ?_
  refine am_newaC_int (kc := 2) (ks := 120) (w := 60) (n := 25) d_Days_init_23 rfl (by decide) (by decide +kernel) (by decide) (am_rok_put (am_rok_clr (am_rok_put (am_rok_clr hR (sl_ 74 (by decide)) (sl_ 75 (by decide))) (by decide +kernel)) (sl_ 75 (by decide)) (sl_ 76 (by decide))) (by decide +kernel)) (sl_ 76 (by decide)) rfl rfl (by decide) ?_
  refine am_putR (n := 28) f_Days_16 d_Days_init_25 rfl ⟨_, rfl, Or.inr ⟨rfl, rfl, rfl⟩⟩ rfl rfl rfl ?_
  refine am_aload_n (n := 29) d_Days_init_28 rfl rfl ?_
  refine am_bipush (n := 31) d_Days_init_29 cb_60 rfl ?_
  refine am_newaC_int (kc := 1) (ks := 60) (w := 60) (n := 33) d_Days_init_31 rfl (by decide) (by decide +kernel) (by decide) (am_rok_put (am_rok_clr (am_rok_put (am_rok_clr (am_rok_put (am_rok_clr hR (sl_ 74 (by decide)) (sl_ 75 (by decide))) (by decide +kernel)) (sl_ 75 (by decide)) (sl_ 76 (by decide))) (by decide +kernel)) (sl_ 76 (by decide)) (sl_ 77 (by decide))) (by decide +kernel)) (sl_ 77 (by decide)) rfl rfl (by decide) ?_
  refine am_putR (n := 36) f_Days_19 d_Days_init_33 rfl ⟨_, rfl, Or.inr ⟨rfl, rfl, rfl⟩⟩ rfl rfl rfl ?_
  refine am_aload_n (n := 37) d_Days_init_36 rfl rfl ?_
  refine am_bipush (n := 39) d_Days_init_37 cb_60 rfl ?_
  refine am_newaC_int (kc := 0) (ks := 0) (w := 60) (n := 41) d_Days_init_39 rfl (by decide) (by decide +kernel) (by decide) (am_rok_put (am_rok_clr (am_rok_put (am_rok_clr (am_rok_put (am_rok_clr (am_rok_put (am_rok_clr hR (sl_ 74 (by decide)) (sl_ 75 (by decide))) (by decide +kernel)) (sl_ 75 (by decide)) (sl_ 76 (by decide))) (by decide +kernel)) (sl_ 76 (by decide)) (sl_ 77 (by decide))) (by decide +kernel)) (sl_ 77 (by decide)) (sl_ 78 (by decide))) (by decide +kernel)) (sl_ 78 (by decide)) rfl rfl (by decide) ?_
  refine am_putR (n := 44) f_Days_22 d_Days_init_41 rfl ⟨_, rfl, Or.inr ⟨rfl, rfl, rfl⟩⟩ rfl rfl rfl ?_
  refine am_aload_n (n := 45) d_Days_init_44 rfl rfl ?_
  refine am_iconst (n := 46) d_Days_init_45 ci_0 rfl ?_
  refine am_putZ (n := 49) f_Days_25 d_Days_init_46 rfl ⟨_, rfl, Or.inl rfl⟩ rfl rfl rfl (Or.inl rfl) ?_
  refine am_aload_n (n := 50) d_Days_init_49 rfl rfl ?_
  refine am_iconst (n := 51) d_Days_init_50 ci_0 rfl ?_
  refine am_putI (n := 54) f_Days_29 d_Days_init_51 rfl ⟨_, rfl, Or.inl rfl⟩ rfl rfl rfl ?_
  refine am_aload_n (n := 55) d_Days_init_54 rfl rfl ?_
  refine am_iconst (n := 56) d_Days_init_55 ci_0 rfl ?_
  refine am_putI (n := 59) f_Days_33 d_Days_init_56 rfl ⟨_, rfl, Or.inl rfl⟩ rfl rfl rfl ?_
  exact am_vret d_Days_init_59 ⟨rfl, rfl⟩
def ci_Square_67 (I : am_TI) : am_TI := (am_u2 (am_u2 (am_u2 (am_u2 (am_u2 (am_u2 (am_u2 (am_u2 (am_u2 (am_u2 (ci_Days_73 (am_clr (am_clr (am_clr (am_clr (am_clr (am_clr I 68 0) 69 0) 70 0) 71 0) 72 0) 73 0)) 67 6 4) 67 7 4) 67 8 8) 67 9 0) 67 10 0) 67 11 0) 67 12 0) 67 13 0) 67 14 0) 67 15 0)
def cl_Square_67 (L : am_TL) : am_TL := (cl_Days_73 (am_clr (am_clr (am_clr (am_clr (am_clr (am_clr L 68 0) 69 0) 70 0) 71 0) 72 0) 73 0))
def cr_Square_67 (R : am_TR) : am_TR := (am_u2 (cr_Days_73 (am_clr (am_u2 (am_clr (am_u2 (am_clr (am_u2 (am_clr (am_u2 (am_clr (am_u2 (am_clr R 68 none) 67 0 (some 68)) 69 none) 67 1 (some 69)) 70 none) 67 2 (some 70)) 71 none) 67 3 (some 71)) 72 none) 67 4 (some 72)) 73 none)) 67 5 (some 73))
theorem rk_Square_67 {R : am_TR} (hR : am_Rok R (am_SHp 68)) : am_Rok (cr_Square_67 R) (am_SHp 79) := (am_rok_put (rk_Days_73 (am_rok_clr (am_rok_put (am_rok_clr (am_rok_put (am_rok_clr (am_rok_put (am_rok_clr (am_rok_put (am_rok_clr (am_rok_put (am_rok_clr hR (sl_ 68 (by decide)) (sl_ 69 (by decide))) (by decide +kernel)) (sl_ 69 (by decide)) (sl_ 70 (by decide))) (by decide +kernel)) (sl_ 70 (by decide)) (sl_ 71 (by decide))) (by decide +kernel)) (sl_ 71 (by decide)) (sl_ 72 (by decide))) (by decide +kernel)) (sl_ 72 (by decide)) (sl_ 73 (by decide))) (by decide +kernel)) (sl_ 73 (by decide)) (sl_ 74 (by decide)))) (by decide +kernel))
theorem cro_Square_67 {R : am_TR} {a k : Nat} (h : a < 67) : cr_Square_67 R a k = R a k := by
  unfold cr_Square_67
  repeat first | rw [am_u2o (by omega)] | rw [am_clro (by omega)] | rw [cro_Days_73 (by omega)]
  try rfl
set_option maxRecDepth 20000 in
theorem cc_Square_67 {d : Nat} {I : am_TI} {L : am_TL} {R : am_TR} (hR : am_Rok R (am_SHp 68)) (hd : 2 ≤ d) : am_Cm d 11 336 y_Square_init b_Square_init 1 none [.ref 67] (I, L, R, am_SHp 68) (fun r σ' => r = none ∧ σ' = (ci_Square_67 I, cl_Square_67 L, cr_Square_67 R, am_SHp 79)) := by
  refine am_Cm_of (ini := true) (by decide +kernel) (fun _ => rfl) (by simp [Value.category]) (fun r σ' z => by obtain ⟨rfl, -⟩ := z; rfl) ?_
  show am_Wp (d, "UnseenRing$Square", b_Square_init, 1, true) 11 336 0 [some (.ref 67)] [] (I, L, R, am_SHp 68) _
  refine am_aload_n (n := 1) d_Square_init_0 rfl rfl ?_
  refine am_objInit2 (n := 4) d_Square_init_1 rfl lo_Square_3 (Nat.le_of_ble_eq_true rfl) (by omega) ?_
  refine am_aload_n (n := 5) d_Square_init_4 rfl rfl ?_
  refine am_bipush (n := 7) d_Square_init_5 cb_6 rfl ?_
  refine am_newaC_long (kc := 10) (ks := 330) (w := 6) (n := 9) d_Square_init_7 rfl (by decide) (by decide +kernel) (by decide) hR (sl_ 68 (by decide)) rfl rfl (by decide) ?_
  refine am_putR (n := 12) f_Square_9 d_Square_init_9 rfl ⟨_, rfl, Or.inr ⟨rfl, rfl, rfl⟩⟩ rfl rfl rfl ?_
  refine am_aload_n (n := 13) d_Square_init_12 rfl rfl ?_
  refine am_bipush (n := 15) d_Square_init_13 cb_6 rfl ?_
  refine am_newaC_int (kc := 9) (ks := 324) (w := 6) (n := 17) d_Square_init_15 rfl (by decide) (by decide +kernel) (by decide) (am_rok_put (am_rok_clr hR (sl_ 68 (by decide)) (sl_ 69 (by decide))) (by decide +kernel)) (sl_ 69 (by decide)) rfl rfl (by decide) ?_
  refine am_putR (n := 20) f_Square_15 d_Square_init_17 rfl ⟨_, rfl, Or.inr ⟨rfl, rfl, rfl⟩⟩ rfl rfl rfl ?_
  refine am_aload_n (n := 21) d_Square_init_20 rfl rfl ?_
  refine am_bipush (n := 23) d_Square_init_21 cb_6 rfl ?_
  refine am_newaC_int (kc := 8) (ks := 318) (w := 6) (n := 25) d_Square_init_23 rfl (by decide) (by decide +kernel) (by decide) (am_rok_put (am_rok_clr (am_rok_put (am_rok_clr hR (sl_ 68 (by decide)) (sl_ 69 (by decide))) (by decide +kernel)) (sl_ 69 (by decide)) (sl_ 70 (by decide))) (by decide +kernel)) (sl_ 70 (by decide)) rfl rfl (by decide) ?_
  refine am_putR (n := 28) f_Square_19 d_Square_init_25 rfl ⟨_, rfl, Or.inr ⟨rfl, rfl, rfl⟩⟩ rfl rfl rfl ?_
  refine am_aload_n (n := 29) d_Square_init_28 rfl rfl ?_
  refine am_bipush (n := 31) d_Square_init_29 cb_6 rfl ?_
  refine am_newaC_int (kc := 7) (ks := 312) (w := 6) (n := 33) d_Square_init_31 rfl (by decide) (by decide +kernel) (by decide) (am_rok_put (am_rok_clr (am_rok_put (am_rok_clr (am_rok_put (am_rok_clr hR (sl_ 68 (by decide)) (sl_ 69 (by decide))) (by decide +kernel)) (sl_ 69 (by decide)) (sl_ 70 (by decide))) (by decide +kernel)) (sl_ 70 (by decide)) (sl_ 71 (by decide))) (by decide +kernel)) (sl_ 71 (by decide)) rfl rfl (by decide) ?_
  refine am_putR (n := 36) f_Square_22 d_Square_init_33 rfl ⟨_, rfl, Or.inr ⟨rfl, rfl, rfl⟩⟩ rfl rfl rfl ?_
  refine am_aload_n (n := 37) d_Square_init_36 rfl rfl ?_
  refine am_iconst (n := 38) d_Square_init_37 ci_4 rfl ?_
  refine am_newaC_int (kc := 6) (ks := 308) (w := 4) (n := 40) d_Square_init_38 rfl (by decide) (by decide +kernel) (by decide) (am_rok_put (am_rok_clr (am_rok_put (am_rok_clr (am_rok_put (am_rok_clr (am_rok_put (am_rok_clr hR (sl_ 68 (by decide)) (sl_ 69 (by decide))) (by decide +kernel)) (sl_ 69 (by decide)) (sl_ 70 (by decide))) (by decide +kernel)) (sl_ 70 (by decide)) (sl_ 71 (by decide))) (by decide +kernel)) (sl_ 71 (by decide)) (sl_ 72 (by decide))) (by decide +kernel)) (sl_ 72 (by decide)) rfl rfl (by decide) ?_
  refine am_putR (n := 43) f_Square_25 d_Square_init_40 rfl ⟨_, rfl, Or.inr ⟨rfl, rfl, rfl⟩⟩ rfl rfl rfl ?_
  refine am_aload_n (n := 44) d_Square_init_43 rfl rfl ?_
  refine am_newC (ci := 1) (kc := 5) (ks := 300) (N := 8) (n := 47) d_Square_init_44 rfl rfl rfl cl_Square_28 it_Days ini_Days df_Days (am_rok_put (am_rok_clr (am_rok_put (am_rok_clr (am_rok_put (am_rok_clr (am_rok_put (am_rok_clr (am_rok_put (am_rok_clr hR (sl_ 68 (by decide)) (sl_ 69 (by decide))) (by decide +kernel)) (sl_ 69 (by decide)) (sl_ 70 (by decide))) (by decide +kernel)) (sl_ 70 (by decide)) (sl_ 71 (by decide))) (by decide +kernel)) (sl_ 71 (by decide)) (sl_ 72 (by decide))) (by decide +kernel)) (sl_ 72 (by decide)) (sl_ 73 (by decide))) (by decide +kernel)) (sl_ 73 (by decide)) rfl rfl (by decide) ?_
  refine am_dup (n := 48) d_Square_init_47 rfl rfl ?_
  refine am_callI (kc := 0) (ks := 0) (kc' := 5) (ks' := 300) (As := []) (q := 73) (n := 51) d_Square_init_48 rfl ce_Days_init lk_Square_30 in_Days_init rfl rfl (Nat.le_of_ble_eq_true rfl) (Or.inr (am_ok_of rfl)) (cc_Days_73 (d := d - 1) (am_rok_clr (am_rok_put (am_rok_clr (am_rok_put (am_rok_clr (am_rok_put (am_rok_clr (am_rok_put (am_rok_clr (am_rok_put (am_rok_clr hR (sl_ 68 (by decide)) (sl_ 69 (by decide))) (by decide +kernel)) (sl_ 69 (by decide)) (sl_ 70 (by decide))) (by decide +kernel)) (sl_ 70 (by decide)) (sl_ 71 (by decide))) (by decide +kernel)) (sl_ 71 (by decide)) (sl_ 72 (by decide))) (by decide +kernel)) (sl_ 72 (by decide)) (sl_ 73 (by decide))) (by decide +kernel)) (sl_ 73 (by decide)) (sl_ 74 (by decide))) (by omega)) (by omega) ?_
  rintro _ _ ⟨rfl, rfl⟩
  refine am_putR (n := 54) f_Square_31 d_Square_init_51 rfl ⟨_, rfl, Or.inl rfl⟩ rfl rfl rfl ?_
  refine am_aload_n (n := 55) d_Square_init_54 rfl rfl ?_
  refine am_iconst (n := 56) d_Square_init_55 ci_4 rfl ?_
  refine am_putI (n := 59) f_Square_35 d_Square_init_56 rfl ⟨_, rfl, Or.inl rfl⟩ rfl rfl rfl ?_
  refine am_aload_n (n := 60) d_Square_init_59 rfl rfl ?_
  refine am_iconst (n := 61) d_Square_init_60 ci_4 rfl ?_
  refine am_putI (n := 64) f_Square_39 d_Square_init_61 rfl ⟨_, rfl, Or.inl rfl⟩ rfl rfl rfl ?_
  refine am_aload_n (n := 65) d_Square_init_64 rfl rfl ?_
  refine am_bipush (n := 67) d_Square_init_65 cb_8 rfl ?_
  refine am_putI (n := 70) f_Square_42 d_Square_init_67 rfl ⟨_, rfl, Or.inl rfl⟩ rfl rfl rfl ?_
  refine am_aload_n (n := 71) d_Square_init_70 rfl rfl ?_
  refine am_iconst (n := 72) d_Square_init_71 ci_0 rfl ?_
  refine am_putI (n := 75) f_Square_45 d_Square_init_72 rfl ⟨_, rfl, Or.inl rfl⟩ rfl rfl rfl ?_
  refine am_aload_n (n := 76) d_Square_init_75 rfl rfl ?_
  refine am_iconst (n := 77) d_Square_init_76 ci_0 rfl ?_
  refine am_putI (n := 80) f_Square_48 d_Square_init_77 rfl ⟨_, rfl, Or.inl rfl⟩ rfl rfl rfl ?_
  refine am_aload_n (n := 81) d_Square_init_80 rfl rfl ?_
  refine am_iconst (n := 82) d_Square_init_81 ci_0 rfl ?_
  refine am_putI (n := 85) f_Square_51 d_Square_init_82 rfl ⟨_, rfl, Or.inl rfl⟩ rfl rfl rfl ?_
  refine am_aload_n (n := 86) d_Square_init_85 rfl rfl ?_
  refine am_iconst (n := 87) d_Square_init_86 ci_0 rfl ?_
  refine am_putI (n := 90) f_Square_54 d_Square_init_87 rfl ⟨_, rfl, Or.inl rfl⟩ rfl rfl rfl ?_
  refine am_aload_n (n := 91) d_Square_init_90 rfl rfl ?_
  refine am_iconst (n := 92) d_Square_init_91 ci_0 rfl ?_
  refine am_putI (n := 95) f_Square_57 d_Square_init_92 rfl ⟨_, rfl, Or.inl rfl⟩ rfl rfl rfl ?_
  refine am_aload_n (n := 96) d_Square_init_95 rfl rfl ?_
  refine am_iconst (n := 97) d_Square_init_96 ci_0 rfl ?_
  refine am_putI (n := 100) f_Square_60 d_Square_init_97 rfl ⟨_, rfl, Or.inl rfl⟩ rfl rfl rfl ?_
  refine am_aload_n (n := 101) d_Square_init_100 rfl rfl ?_
  refine am_iconst (n := 102) d_Square_init_101 ci_0 rfl ?_
  refine am_putI (n := 105) f_Square_63 d_Square_init_102 rfl ⟨_, rfl, Or.inl rfl⟩ rfl rfl rfl ?_
  exact am_vret d_Square_init_105 ⟨rfl, rfl⟩
def ci_Days_85 (I : am_TI) : am_TI := (am_u2 (am_u2 (am_u2 (am_clr (am_clr (am_clr (am_clr (am_clr I 86 0) 87 0) 88 0) 89 0) 90 0) 85 5 0) 85 6 0) 85 7 0)
def cl_Days_85 (L : am_TL) : am_TL := (am_clr (am_clr (am_clr (am_clr (am_clr L 86 0) 87 0) 88 0) 89 0) 90 0)
def cr_Days_85 (R : am_TR) : am_TR := (am_u2 (am_clr (am_u2 (am_clr (am_u2 (am_clr (am_u2 (am_clr (am_u2 (am_clr R 86 none) 85 0 (some 86)) 87 none) 85 1 (some 87)) 88 none) 85 2 (some 88)) 89 none) 85 3 (some 89)) 90 none) 85 4 (some 90))
theorem rk_Days_85 {R : am_TR} (hR : am_Rok R (am_SHp 86)) : am_Rok (cr_Days_85 R) (am_SHp 91) := (am_rok_put (am_rok_clr (am_rok_put (am_rok_clr (am_rok_put (am_rok_clr (am_rok_put (am_rok_clr (am_rok_put (am_rok_clr hR (sl_ 86 (by decide)) (sl_ 87 (by decide))) (by decide +kernel)) (sl_ 87 (by decide)) (sl_ 88 (by decide))) (by decide +kernel)) (sl_ 88 (by decide)) (sl_ 89 (by decide))) (by decide +kernel)) (sl_ 89 (by decide)) (sl_ 90 (by decide))) (by decide +kernel)) (sl_ 90 (by decide)) (sl_ 91 (by decide))) (by decide +kernel))
theorem cro_Days_85 {R : am_TR} {a k : Nat} (h : a < 85) : cr_Days_85 R a k = R a k := by
  unfold cr_Days_85
  repeat first | rw [am_u2o (by omega)] | rw [am_clro (by omega)]
  try rfl
set_option maxRecDepth 20000 in
theorem cc_Days_85 {d : Nat} {I : am_TI} {L : am_TL} {R : am_TR} (hR : am_Rok R (am_SHp 86)) (hd : 1 ≤ d) : am_Cm d 5 300 y_Days_init b_Days_init 1 none [.ref 85] (I, L, R, am_SHp 86) (fun r σ' => r = none ∧ σ' = (ci_Days_85 I, cl_Days_85 L, cr_Days_85 R, am_SHp 91)) := by
  refine am_Cm_of (ini := true) (by decide +kernel) (fun _ => rfl) (by simp [Value.category]) (fun r σ' z => by obtain ⟨rfl, -⟩ := z; rfl) ?_
  show am_Wp (d, "UnseenRing$Days", b_Days_init, 1, true) 5 300 0 [some (.ref 85)] [] (I, L, R, am_SHp 86) _
  refine am_aload_n (n := 1) d_Days_init_0 rfl rfl ?_
  refine am_objInit2 (n := 4) d_Days_init_1 rfl lo_Days_3 (Nat.le_of_ble_eq_true rfl) (by omega) ?_
  refine am_aload_n (n := 5) d_Days_init_4 rfl rfl ?_
  refine am_bipush (n := 7) d_Days_init_5 cb_60 rfl ?_
  refine am_newaC_int (kc := 4) (ks := 240) (w := 60) (n := 9) d_Days_init_7 rfl (by decide) (by decide +kernel) (by decide) hR (sl_ 86 (by decide)) rfl rfl (by decide) ?_
  refine am_putR (n := 12) f_Days_9 d_Days_init_9 rfl ⟨_, rfl, Or.inr ⟨rfl, rfl, rfl⟩⟩ rfl rfl rfl ?_
  refine am_aload_n (n := 13) d_Days_init_12 rfl rfl ?_
  refine am_bipush (n := 15) d_Days_init_13 cb_60 rfl ?_
  refine am_newaC_int (kc := 3) (ks := 180) (w := 60) (n := 17) d_Days_init_15 rfl (by decide) (by decide +kernel) (by decide) (am_rok_put (am_rok_clr hR (sl_ 86 (by decide)) (sl_ 87 (by decide))) (by decide +kernel)) (sl_ 87 (by decide)) rfl rfl (by decide) ?_
  refine am_putR (n := 20) f_Days_13 d_Days_init_17 rfl ⟨_, rfl, Or.inr ⟨rfl, rfl, rfl⟩⟩ rfl rfl rfl ?_
  refine am_aload_n (n := 21) d_Days_init_20 rfl rfl ?_
  refine am_bipush (n := 23) d_Days_init_21 cb_60 rfl ?_
  refine am_newaC_int (kc := 2) (ks := 120) (w := 60) (n := 25) d_Days_init_23 rfl (by decide) (by decide +kernel) (by decide) (am_rok_put (am_rok_clr (am_rok_put (am_rok_clr hR (sl_ 86 (by decide)) (sl_ 87 (by decide))) (by decide +kernel)) (sl_ 87 (by decide)) (sl_ 88 (by decide))) (by decide +kernel)) (sl_ 88 (by decide)) rfl rfl (by decide) ?_
  refine am_putR (n := 28) f_Days_16 d_Days_init_25 rfl ⟨_, rfl, Or.inr ⟨rfl, rfl, rfl⟩⟩ rfl rfl rfl ?_
  refine am_aload_n (n := 29) d_Days_init_28 rfl rfl ?_
  refine am_bipush (n := 31) d_Days_init_29 cb_60 rfl ?_
  refine am_newaC_int (kc := 1) (ks := 60) (w := 60) (n := 33) d_Days_init_31 rfl (by decide) (by decide +kernel) (by decide) (am_rok_put (am_rok_clr (am_rok_put (am_rok_clr (am_rok_put (am_rok_clr hR (sl_ 86 (by decide)) (sl_ 87 (by decide))) (by decide +kernel)) (sl_ 87 (by decide)) (sl_ 88 (by decide))) (by decide +kernel)) (sl_ 88 (by decide)) (sl_ 89 (by decide))) (by decide +kernel)) (sl_ 89 (by decide)) rfl rfl (by decide) ?_
  refine am_putR (n := 36) f_Days_19 d_Days_init_33 rfl ⟨_, rfl, Or.inr ⟨rfl, rfl, rfl⟩⟩ rfl rfl rfl ?_
  refine am_aload_n (n := 37) d_Days_init_36 rfl rfl ?_
  refine am_bipush (n := 39) d_Days_init_37 cb_60 rfl ?_
  refine am_newaC_int (kc := 0) (ks := 0) (w := 60) (n := 41) d_Days_init_39 rfl (by decide) (by decide +kernel) (by decide) (am_rok_put (am_rok_clr (am_rok_put (am_rok_clr (am_rok_put (am_rok_clr (am_rok_put (am_rok_clr hR (sl_ 86 (by decide)) (sl_ 87 (by decide))) (by decide +kernel)) (sl_ 87 (by decide)) (sl_ 88 (by decide))) (by decide +kernel)) (sl_ 88 (by decide)) (sl_ 89 (by decide))) (by decide +kernel)) (sl_ 89 (by decide)) (sl_ 90 (by decide))) (by decide +kernel)) (sl_ 90 (by decide)) rfl rfl (by decide) ?_
  refine am_putR (n := 44) f_Days_22 d_Days_init_41 rfl ⟨_, rfl, Or.inr ⟨rfl, rfl, rfl⟩⟩ rfl rfl rfl ?_
  refine am_aload_n (n := 45) d_Days_init_44 rfl rfl ?_
  refine am_iconst (n := 46) d_Days_init_45 ci_0 rfl ?_
  refine am_putZ (n := 49) f_Days_25 d_Days_init_46 rfl ⟨_, rfl, Or.inl rfl⟩ rfl rfl rfl (Or.inl rfl) ?_
  refine am_aload_n (n := 50) d_Days_init_49 rfl rfl ?_
  refine am_iconst (n := 51) d_Days_init_50 ci_0 rfl ?_
  refine am_putI (n := 54) f_Days_29 d_Days_init_51 rfl ⟨_, rfl, Or.inl rfl⟩ rfl rfl rfl ?_
  refine am_aload_n (n := 55) d_Days_init_54 rfl rfl ?_
  refine am_iconst (n := 56) d_Days_init_55 ci_0 rfl ?_
  refine am_putI (n := 59) f_Days_33 d_Days_init_56 rfl ⟨_, rfl, Or.inl rfl⟩ rfl rfl rfl ?_
  exact am_vret d_Days_init_59 ⟨rfl, rfl⟩
def ci_Square_79 (I : am_TI) : am_TI := (am_u2 (am_u2 (am_u2 (am_u2 (am_u2 (am_u2 (am_u2 (am_u2 (am_u2 (am_u2 (ci_Days_85 (am_clr (am_clr (am_clr (am_clr (am_clr (am_clr I 80 0) 81 0) 82 0) 83 0) 84 0) 85 0)) 79 6 4) 79 7 4) 79 8 8) 79 9 0) 79 10 0) 79 11 0) 79 12 0) 79 13 0) 79 14 0) 79 15 0)
def cl_Square_79 (L : am_TL) : am_TL := (cl_Days_85 (am_clr (am_clr (am_clr (am_clr (am_clr (am_clr L 80 0) 81 0) 82 0) 83 0) 84 0) 85 0))
def cr_Square_79 (R : am_TR) : am_TR := (am_u2 (cr_Days_85 (am_clr (am_u2 (am_clr (am_u2 (am_clr (am_u2 (am_clr (am_u2 (am_clr (am_u2 (am_clr R 80 none) 79 0 (some 80)) 81 none) 79 1 (some 81)) 82 none) 79 2 (some 82)) 83 none) 79 3 (some 83)) 84 none) 79 4 (some 84)) 85 none)) 79 5 (some 85))
theorem rk_Square_79 {R : am_TR} (hR : am_Rok R (am_SHp 80)) : am_Rok (cr_Square_79 R) (am_SHp 91) := (am_rok_put (rk_Days_85 (am_rok_clr (am_rok_put (am_rok_clr (am_rok_put (am_rok_clr (am_rok_put (am_rok_clr (am_rok_put (am_rok_clr (am_rok_put (am_rok_clr hR (sl_ 80 (by decide)) (sl_ 81 (by decide))) (by decide +kernel)) (sl_ 81 (by decide)) (sl_ 82 (by decide))) (by decide +kernel)) (sl_ 82 (by decide)) (sl_ 83 (by decide))) (by decide +kernel)) (sl_ 83 (by decide)) (sl_ 84 (by decide))) (by decide +kernel)) (sl_ 84 (by decide)) (sl_ 85 (by decide))) (by decide +kernel)) (sl_ 85 (by decide)) (sl_ 86 (by decide)))) (by decide +kernel))
theorem cro_Square_79 {R : am_TR} {a k : Nat} (h : a < 79) : cr_Square_79 R a k = R a k := by
  unfold cr_Square_79
  repeat first | rw [am_u2o (by omega)] | rw [am_clro (by omega)] | rw [cro_Days_85 (by omega)]
  try rfl
set_option maxRecDepth 20000 in
theorem cc_Square_79 {d : Nat} {I : am_TI} {L : am_TL} {R : am_TR} (hR : am_Rok R (am_SHp 80)) (hd : 2 ≤ d) : am_Cm d 11 336 y_Square_init b_Square_init 1 none [.ref 79] (I, L, R, am_SHp 80) (fun r σ' => r = none ∧ σ' = (ci_Square_79 I, cl_Square_79 L, cr_Square_79 R, am_SHp 91)) := by
  refine am_Cm_of (ini := true) (by decide +kernel) (fun _ => rfl) (by simp [Value.category]) (fun r σ' z => by obtain ⟨rfl, -⟩ := z; rfl) ?_
  show am_Wp (d, "UnseenRing$Square", b_Square_init, 1, true) 11 336 0 [some (.ref 79)] [] (I, L, R, am_SHp 80) _
  refine am_aload_n (n := 1) d_Square_init_0 rfl rfl ?_
  refine am_objInit2 (n := 4) d_Square_init_1 rfl lo_Square_3 (Nat.le_of_ble_eq_true rfl) (by omega) ?_
  refine am_aload_n (n := 5) d_Square_init_4 rfl rfl ?_
  refine am_bipush (n := 7) d_Square_init_5 cb_6 rfl ?_
  refine am_newaC_long (kc := 10) (ks := 330) (w := 6) (n := 9) d_Square_init_7 rfl (by decide) (by decide +kernel) (by decide) hR (sl_ 80 (by decide)) rfl rfl (by decide) ?_
  refine am_putR (n := 12) f_Square_9 d_Square_init_9 rfl ⟨_, rfl, Or.inr ⟨rfl, rfl, rfl⟩⟩ rfl rfl rfl ?_
  refine am_aload_n (n := 13) d_Square_init_12 rfl rfl ?_
  refine am_bipush (n := 15) d_Square_init_13 cb_6 rfl ?_
  refine am_newaC_int (kc := 9) (ks := 324) (w := 6) (n := 17) d_Square_init_15 rfl (by decide) (by decide +kernel) (by decide) (am_rok_put (am_rok_clr hR (sl_ 80 (by decide)) (sl_ 81 (by decide))) (by decide +kernel)) (sl_ 81 (by decide)) rfl rfl (by decide) ?_
  refine am_putR (n := 20) f_Square_15 d_Square_init_17 rfl ⟨_, rfl, Or.inr ⟨rfl, rfl, rfl⟩⟩ rfl rfl rfl ?_
  refine am_aload_n (n := 21) d_Square_init_20 rfl rfl ?_
  refine am_bipush (n := 23) d_Square_init_21 cb_6 rfl ?_
  refine am_newaC_int (kc := 8) (ks := 318) (w := 6) (n := 25) d_Square_init_23 rfl (by decide) (by decide +kernel) (by decide) (am_rok_put (am_rok_clr (am_rok_put (am_rok_clr hR (sl_ 80 (by decide)) (sl_ 81 (by decide))) (by decide +kernel)) (sl_ 81 (by decide)) (sl_ 82 (by decide))) (by decide +kernel)) (sl_ 82 (by decide)) rfl rfl (by decide) ?_
  refine am_putR (n := 28) f_Square_19 d_Square_init_25 rfl ⟨_, rfl, Or.inr ⟨rfl, rfl, rfl⟩⟩ rfl rfl rfl ?_
  refine am_aload_n (n := 29) d_Square_init_28 rfl rfl ?_
  refine am_bipush (n := 31) d_Square_init_29 cb_6 rfl ?_
  refine am_newaC_int (kc := 7) (ks := 312) (w := 6) (n := 33) d_Square_init_31 rfl (by decide) (by decide +kernel) (by decide) (am_rok_put (am_rok_clr (am_rok_put (am_rok_clr (am_rok_put (am_rok_clr hR (sl_ 80 (by decide)) (sl_ 81 (by decide))) (by decide +kernel)) (sl_ 81 (by decide)) (sl_ 82 (by decide))) (by decide +kernel)) (sl_ 82 (by decide)) (sl_ 83 (by decide))) (by decide +kernel)) (sl_ 83 (by decide)) rfl rfl (by decide) ?_
  refine am_putR (n := 36) f_Square_22 d_Square_init_33 rfl ⟨_, rfl, Or.inr ⟨rfl, rfl, rfl⟩⟩ rfl rfl rfl ?_
  refine am_aload_n (n := 37) d_Square_init_36 rfl rfl ?_
  refine am_iconst (n := 38) d_Square_init_37 ci_4 rfl ?_
  refine am_newaC_int (kc := 6) (ks := 308) (w := 4) (n := 40) d_Square_init_38 rfl (by decide) (by decide +kernel) (by decide) (am_rok_put (am_rok_clr (am_rok_put (am_rok_clr (am_rok_put (am_rok_clr (am_rok_put (am_rok_clr hR (sl_ 80 (by decide)) (sl_ 81 (by decide))) (by decide +kernel)) (sl_ 81 (by decide)) (sl_ 82 (by decide))) (by decide +kernel)) (sl_ 82 (by decide)) (sl_ 83 (by decide))) (by decide +kernel)) (sl_ 83 (by decide)) (sl_ 84 (by decide))) (by decide +kernel)) (sl_ 84 (by decide)) rfl rfl (by decide) ?_
  refine am_putR (n := 43) f_Square_25 d_Square_init_40 rfl ⟨_, rfl, Or.inr ⟨rfl, rfl, rfl⟩⟩ rfl rfl rfl ?_
  refine am_aload_n (n := 44) d_Square_init_43 rfl rfl ?_
  refine am_newC (ci := 1) (kc := 5) (ks := 300) (N := 8) (n := 47) d_Square_init_44 rfl rfl rfl cl_Square_28 it_Days ini_Days df_Days (am_rok_put (am_rok_clr (am_rok_put (am_rok_clr (am_rok_put (am_rok_clr (am_rok_put (am_rok_clr (am_rok_put (am_rok_clr hR (sl_ 80 (by decide)) (sl_ 81 (by decide))) (by decide +kernel)) (sl_ 81 (by decide)) (sl_ 82 (by decide))) (by decide +kernel)) (sl_ 82 (by decide)) (sl_ 83 (by decide))) (by decide +kernel)) (sl_ 83 (by decide)) (sl_ 84 (by decide))) (by decide +kernel)) (sl_ 84 (by decide)) (sl_ 85 (by decide))) (by decide +kernel)) (sl_ 85 (by decide)) rfl rfl (by decide) ?_
  refine am_dup (n := 48) d_Square_init_47 rfl rfl ?_
  refine am_callI (kc := 0) (ks := 0) (kc' := 5) (ks' := 300) (As := []) (q := 85) (n := 51) d_Square_init_48 rfl ce_Days_init lk_Square_30 in_Days_init rfl rfl (Nat.le_of_ble_eq_true rfl) (Or.inr (am_ok_of rfl)) (cc_Days_85 (d := d - 1) (am_rok_clr (am_rok_put (am_rok_clr (am_rok_put (am_rok_clr (am_rok_put (am_rok_clr (am_rok_put (am_rok_clr (am_rok_put (am_rok_clr hR (sl_ 80 (by decide)) (sl_ 81 (by decide))) (by decide +kernel)) (sl_ 81 (by decide)) (sl_ 82 (by decide))) (by decide +kernel)) (sl_ 82 (by decide)) (sl_ 83 (by decide))) (by decide +kernel)) (sl_ 83 (by decide)) (sl_ 84 (by decide))) (by decide +kernel)) (sl_ 84 (by decide)) (sl_ 85 (by decide))) (by decide +kernel)) (sl_ 85 (by decide)) (sl_ 86 (by decide))) (by omega)) (by omega) ?_
  rintro _ _ ⟨rfl, rfl⟩
  refine am_putR (n := 54) f_Square_31 d_Square_init_51 rfl ⟨_, rfl, Or.inl rfl⟩ rfl rfl rfl ?_
  refine am_aload_n (n := 55) d_Square_init_54 rfl rfl ?_
  refine am_iconst (n := 56) d_Square_init_55 ci_4 rfl ?_
  refine am_putI (n := 59) f_Square_35 d_Square_init_56 rfl ⟨_, rfl, Or.inl rfl⟩ rfl rfl rfl ?_
  refine am_aload_n (n := 60) d_Square_init_59 rfl rfl ?_
  refine am_iconst (n := 61) d_Square_init_60 ci_4 rfl ?_
  refine am_putI (n := 64) f_Square_39 d_Square_init_61 rfl ⟨_, rfl, Or.inl rfl⟩ rfl rfl rfl ?_
  refine am_aload_n (n := 65) d_Square_init_64 rfl rfl ?_
  refine am_bipush (n := 67) d_Square_init_65 cb_8 rfl ?_
  refine am_putI (n := 70) f_Square_42 d_Square_init_67 rfl ⟨_, rfl, Or.inl rfl⟩ rfl rfl rfl ?_
  refine am_aload_n (n := 71) d_Square_init_70 rfl rfl ?_
  refine am_iconst (n := 72) d_Square_init_71 ci_0 rfl ?_
  refine am_putI (n := 75) f_Square_45 d_Square_init_72 rfl ⟨_, rfl, Or.inl rfl⟩ rfl rfl rfl ?_
  refine am_aload_n (n := 76) d_Square_init_75 rfl rfl ?_
  refine am_iconst (n := 77) d_Square_init_76 ci_0 rfl ?_
  refine am_putI (n := 80) f_Square_48 d_Square_init_77 rfl ⟨_, rfl, Or.inl rfl⟩ rfl rfl rfl ?_
  refine am_aload_n (n := 81) d_Square_init_80 rfl rfl ?_
  refine am_iconst (n := 82) d_Square_init_81 ci_0 rfl ?_
  refine am_putI (n := 85) f_Square_51 d_Square_init_82 rfl ⟨_, rfl, Or.inl rfl⟩ rfl rfl rfl ?_
  refine am_aload_n (n := 86) d_Square_init_85 rfl rfl ?_
  refine am_iconst (n := 87) d_Square_init_86 ci_0 rfl ?_
  refine am_putI (n := 90) f_Square_54 d_Square_init_87 rfl ⟨_, rfl, Or.inl rfl⟩ rfl rfl rfl ?_
  refine am_aload_n (n := 91) d_Square_init_90 rfl rfl ?_
  refine am_iconst (n := 92) d_Square_init_91 ci_0 rfl ?_
  refine am_putI (n := 95) f_Square_57 d_Square_init_92 rfl ⟨_, rfl, Or.inl rfl⟩ rfl rfl rfl ?_
  refine am_aload_n (n := 96) d_Square_init_95 rfl rfl ?_
  refine am_iconst (n := 97) d_Square_init_96 ci_0 rfl ?_
  refine am_putI (n := 100) f_Square_60 d_Square_init_97 rfl ⟨_, rfl, Or.inl rfl⟩ rfl rfl rfl ?_
  refine am_aload_n (n := 101) d_Square_init_100 rfl rfl ?_
  refine am_iconst (n := 102) d_Square_init_101 ci_0 rfl ?_
  refine am_putI (n := 105) f_Square_63 d_Square_init_102 rfl ⟨_, rfl, Or.inl rfl⟩ rfl rfl rfl ?_
  exact am_vret d_Square_init_105 ⟨rfl, rfl⟩
def ci_Days_97 (I : am_TI) : am_TI := (am_u2 (am_u2 (am_u2 (am_clr (am_clr (am_clr (am_clr (am_clr I 98 0) 99 0) 100 0) 101 0) 102 0) 97 5 0) 97 6 0) 97 7 0)
def cl_Days_97 (L : am_TL) : am_TL := (am_clr (am_clr (am_clr (am_clr (am_clr L 98 0) 99 0) 100 0) 101 0) 102 0)
def cr_Days_97 (R : am_TR) : am_TR := (am_u2 (am_clr (am_u2 (am_clr (am_u2 (am_clr (am_u2 (am_clr (am_u2 (am_clr R 98 none) 97 0 (some 98)) 99 none) 97 1 (some 99)) 100 none) 97 2 (some 100)) 101 none) 97 3 (some 101)) 102 none) 97 4 (some 102))
theorem rk_Days_97 {R : am_TR} (hR : am_Rok R (am_SHp 98)) : am_Rok (cr_Days_97 R) (am_SHp 103) := (am_rok_put (am_rok_clr (am_rok_put (am_rok_clr (am_rok_put (am_rok_clr (am_rok_put (am_rok_clr (am_rok_put (am_rok_clr hR (sl_ 98 (by decide)) (sl_ 99 (by decide))) (by decide +kernel)) (sl_ 99 (by decide)) (sl_ 100 (by decide))) (by decide +kernel)) (sl_ 100 (by decide)) (sl_ 101 (by decide))) (by decide +kernel)) (sl_ 101 (by decide)) (sl_ 102 (by decide))) (by decide +kernel)) (sl_ 102 (by decide)) (sl_ 103 (by decide))) (by decide +kernel))
theorem cro_Days_97 {R : am_TR} {a k : Nat} (h : a < 97) : cr_Days_97 R a k = R a k := by
  unfold cr_Days_97
  repeat first | rw [am_u2o (by omega)] | rw [am_clro (by omega)]
  try rfl
set_option maxRecDepth 20000 in
theorem cc_Days_97 {d : Nat} {I : am_TI} {L : am_TL} {R : am_TR} (hR : am_Rok R (am_SHp 98)) (hd : 1 ≤ d) : am_Cm d 5 300 y_Days_init b_Days_init 1 none [.ref 97] (I, L, R, am_SHp 98) (fun r σ' => r = none ∧ σ' = (ci_Days_97 I, cl_Days_97 L, cr_Days_97 R, am_SHp 103)) := by
  refine am_Cm_of (ini := true) (by decide +kernel) (fun _ => rfl) (by simp [Value.category]) (fun r σ' z => by obtain ⟨rfl, -⟩ := z; rfl) ?_
  show am_Wp (d, "UnseenRing$Days", b_Days_init, 1, true) 5 300 0 [some (.ref 97)] [] (I, L, R, am_SHp 98) _
  refine am_aload_n (n := 1) d_Days_init_0 rfl rfl ?_
  refine am_objInit2 (n := 4) d_Days_init_1 rfl lo_Days_3 (Nat.le_of_ble_eq_true rfl) (by omega) ?_
  refine am_aload_n (n := 5) d_Days_init_4 rfl rfl ?_
  refine am_bipush (n := 7) d_Days_init_5 cb_60 rfl ?_
  refine am_newaC_int (kc := 4) (ks := 240) (w := 60) (n := 9) d_Days_init_7 rfl (by decide) (by decide +kernel) (by decide) hR (sl_ 98 (by decide)) rfl rfl (by decide) ?_
  refine am_putR (n := 12) f_Days_9 d_Days_init_9 rfl ⟨_, rfl, Or.inr ⟨rfl, rfl, rfl⟩⟩ rfl rfl rfl ?_
  refine am_aload_n (n := 13) d_Days_init_12 rfl rfl ?_
  refine am_bipush (n := 15) d_Days_init_13 cb_60 rfl ?_
  refine am_newaC_int (kc := 3) (ks := 180) (w := 60) (n := 17) d_Days_init_15 rfl (by decide) (by decide +kernel) (by decide) (am_rok_put (am_rok_clr hR (sl_ 98 (by decide)) (sl_ 99 (by decide))) (by decide +kernel)) (sl_ 99 (by decide)) rfl rfl (by decide) ?_
  refine am_putR (n := 20) f_Days_13 d_Days_init_17 rfl ⟨_, rfl, Or.inr ⟨rfl, rfl, rfl⟩⟩ rfl rfl rfl ?_
  refine am_aload_n (n := 21) d_Days_init_20 rfl rfl ?_
  refine am_bipush (n := 23) d_Days_init_21 cb_60 rfl ?_
  refine am_newaC_int (kc := 2) (ks := 120) (w := 60) (n := 25) d_Days_init_23 rfl (by decide) (by decide +kernel) (by decide) (am_rok_put (am_rok_clr (am_rok_put (am_rok_clr hR (sl_ 98 (by decide)) (sl_ 99 (by decide))) (by decide +kernel)) (sl_ 99 (by decide)) (sl_ 100 (by decide))) (by decide +kernel)) (sl_ 100 (by decide)) rfl rfl (by decide) ?_
  refine am_putR (n := 28) f_Days_16 d_Days_init_25 rfl ⟨_, rfl, Or.inr ⟨rfl, rfl, rfl⟩⟩ rfl rfl rfl ?_
  refine am_aload_n (n := 29) d_Days_init_28 rfl rfl ?_
  refine am_bipush (n := 31) d_Days_init_29 cb_60 rfl ?_
  refine am_newaC_int (kc := 1) (ks := 60) (w := 60) (n := 33) d_Days_init_31 rfl (by decide) (by decide +kernel) (by decide) (am_rok_put (am_rok_clr (am_rok_put (am_rok_clr (am_rok_put (am_rok_clr hR (sl_ 98 (by decide)) (sl_ 99 (by decide))) (by decide +kernel)) (sl_ 99 (by decide)) (sl_ 100 (by decide))) (by decide +kernel)) (sl_ 100 (by decide)) (sl_ 101 (by decide))) (by decide +kernel)) (sl_ 101 (by decide)) rfl rfl (by decide) ?_
  refine am_putR (n := 36) f_Days_19 d_Days_init_33 rfl ⟨_, rfl, Or.inr ⟨rfl, rfl, rfl⟩⟩ rfl rfl rfl ?_
  refine am_aload_n (n := 37) d_Days_init_36 rfl rfl ?_
  refine am_bipush (n := 39) d_Days_init_37 cb_60 rfl ?_
  refine am_newaC_int (kc := 0) (ks := 0) (w := 60) (n := 41) d_Days_init_39 rfl (by decide) (by decide +kernel) (by decide) (am_rok_put (am_rok_clr (am_rok_put (am_rok_clr (am_rok_put (am_rok_clr (am_rok_put (am_rok_clr hR (sl_ 98 (by decide)) (sl_ 99 (by decide))) (by decide +kernel)) (sl_ 99 (by decide)) (sl_ 100 (by decide))) (by decide +kernel)) (sl_ 100 (by decide)) (sl_ 101 (by decide))) (by decide +kernel)) (sl_ 101 (by decide)) (sl_ 102 (by decide))) (by decide +kernel)) (sl_ 102 (by decide)) rfl rfl (by decide) ?_
  refine am_putR (n := 44) f_Days_22 d_Days_init_41 rfl ⟨_, rfl, Or.inr ⟨rfl, rfl, rfl⟩⟩ rfl rfl rfl ?_
  refine am_aload_n (n := 45) d_Days_init_44 rfl rfl ?_
  refine am_iconst (n := 46) d_Days_init_45 ci_0 rfl ?_
  refine am_putZ (n := 49) f_Days_25 d_Days_init_46 rfl ⟨_, rfl, Or.inl rfl⟩ rfl rfl rfl (Or.inl rfl) ?_
  refine am_aload_n (n := 50) d_Days_init_49 rfl rfl ?_
  refine am_iconst (n := 51) d_Days_init_50 ci_0 rfl ?_
  refine am_putI (n := 54) f_Days_29 d_Days_init_51 rfl ⟨_, rfl, Or.inl rfl⟩ rfl rfl rfl ?_
  refine am_aload_n (n := 55) d_Days_init_54 rfl rfl ?_
  refine am_iconst (n := 56) d_Days_init_55 ci_0 rfl ?_
  refine am_putI (n := 59) f_Days_33 d_Days_init_56 rfl ⟨_, rfl, Or.inl rfl⟩ rfl rfl rfl ?_
  exact am_vret d_Days_init_59 ⟨rfl, rfl⟩
def ci_Square_91 (I : am_TI) : am_TI := (am_u2 (am_u2 (am_u2 (am_u2 (am_u2 (am_u2 (am_u2 (am_u2 (am_u2 (am_u2 (ci_Days_97 (am_clr (am_clr (am_clr (am_clr (am_clr (am_clr I 92 0) 93 0) 94 0) 95 0) 96 0) 97 0)) 91 6 4) 91 7 4) 91 8 8) 91 9 0) 91 10 0) 91 11 0) 91 12 0) 91 13 0) 91 14 0) 91 15 0)
def cl_Square_91 (L : am_TL) : am_TL := (cl_Days_97 (am_clr (am_clr (am_clr (am_clr (am_clr (am_clr L 92 0) 93 0) 94 0) 95 0) 96 0) 97 0))
def cr_Square_91 (R : am_TR) : am_TR := (am_u2 (cr_Days_97 (am_clr (am_u2 (am_clr (am_u2 (am_clr (am_u2 (am_clr (am_u2 (am_clr (am_u2 (am_clr R 92 none) 91 0 (some 92)) 93 none) 91 1 (some 93)) 94 none) 91 2 (some 94)) 95 none) 91 3 (some 95)) 96 none) 91 4 (some 96)) 97 none)) 91 5 (some 97))
theorem rk_Square_91 {R : am_TR} (hR : am_Rok R (am_SHp 92)) : am_Rok (cr_Square_91 R) (am_SHp 103) := (am_rok_put (rk_Days_97 (am_rok_clr (am_rok_put (am_rok_clr (am_rok_put (am_rok_clr (am_rok_put (am_rok_clr (am_rok_put (am_rok_clr (am_rok_put (am_rok_clr hR (sl_ 92 (by decide)) (sl_ 93 (by decide))) (by decide +kernel)) (sl_ 93 (by decide)) (sl_ 94 (by decide))) (by decide +kernel)) (sl_ 94 (by decide)) (sl_ 95 (by decide))) (by decide +kernel)) (sl_ 95 (by decide)) (sl_ 96 (by decide))) (by decide +kernel)) (sl_ 96 (by decide)) (sl_ 97 (by decide))) (by decide +kernel)) (sl_ 97 (by decide)) (sl_ 98 (by decide)))) (by decide +kernel))
theorem cro_Square_91 {R : am_TR} {a k : Nat} (h : a < 91) : cr_Square_91 R a k = R a k := by
  unfold cr_Square_91
  repeat first | rw [am_u2o (by omega)] | rw [am_clro (by omega)] | rw [cro_Days_97 (by omega)]
  try rfl
set_option maxRecDepth 20000 in
theorem cc_Square_91 {d : Nat} {I : am_TI} {L : am_TL} {R : am_TR} (hR : am_Rok R (am_SHp 92)) (hd : 2 ≤ d) : am_Cm d 11 336 y_Square_init b_Square_init 1 none [.ref 91] (I, L, R, am_SHp 92) (fun r σ' => r = none ∧ σ' = (ci_Square_91 I, cl_Square_91 L, cr_Square_91 R, am_SHp 103)) := by
  refine am_Cm_of (ini := true) (by decide +kernel) (fun _ => rfl) (by simp [Value.category]) (fun r σ' z => by obtain ⟨rfl, -⟩ := z; rfl) ?_
  show am_Wp (d, "UnseenRing$Square", b_Square_init, 1, true) 11 336 0 [some (.ref 91)] [] (I, L, R, am_SHp 92) _
  refine am_aload_n (n := 1) d_Square_init_0 rfl rfl ?_
  refine am_objInit2 (n := 4) d_Square_init_1 rfl lo_Square_3 (Nat.le_of_ble_eq_true rfl) (by omega) ?_
  refine am_aload_n (n := 5) d_Square_init_4 rfl rfl ?_
  refine am_bipush (n := 7) d_Square_init_5 cb_6 rfl ?_
  refine am_newaC_long (kc := 10) (ks := 330) (w := 6) (n := 9) d_Square_init_7 rfl (by decide) (by decide +kernel) (by decide) hR (sl_ 92 (by decide)) rfl rfl (by decide) ?_
  refine am_putR (n := 12) f_Square_9 d_Square_init_9 rfl ⟨_, rfl, Or.inr ⟨rfl, rfl, rfl⟩⟩ rfl rfl rfl ?_
  refine am_aload_n (n := 13) d_Square_init_12 rfl rfl ?_
  refine am_bipush (n := 15) d_Square_init_13 cb_6 rfl ?_
  refine am_newaC_int (kc := 9) (ks := 324) (w := 6) (n := 17) d_Square_init_15 rfl (by decide) (by decide +kernel) (by decide) (am_rok_put (am_rok_clr hR (sl_ 92 (by decide)) (sl_ 93 (by decide))) (by decide +kernel)) (sl_ 93 (by decide)) rfl rfl (by decide) ?_
  refine am_putR (n := 20) f_Square_15 d_Square_init_17 rfl ⟨_, rfl, Or.inr ⟨rfl, rfl, rfl⟩⟩ rfl rfl rfl ?_
  refine am_aload_n (n := 21) d_Square_init_20 rfl rfl ?_
  refine am_bipush (n := 23) d_Square_init_21 cb_6 rfl ?_
  refine am_newaC_int (kc := 8) (ks := 318) (w := 6) (n := 25) d_Square_init_23 rfl (by decide) (by decide +kernel) (by decide) (am_rok_put (am_rok_clr (am_rok_put (am_rok_clr hR (sl_ 92 (by decide)) (sl_ 93 (by decide))) (by decide +kernel)) (sl_ 93 (by decide)) (sl_ 94 (by decide))) (by decide +kernel)) (sl_ 94 (by decide)) rfl rfl (by decide) ?_
  refine am_putR (n := 28) f_Square_19 d_Square_init_25 rfl ⟨_, rfl, Or.inr ⟨rfl, rfl, rfl⟩⟩ rfl rfl rfl ?_
  refine am_aload_n (n := 29) d_Square_init_28 rfl rfl ?_
  refine am_bipush (n := 31) d_Square_init_29 cb_6 rfl ?_
  refine am_newaC_int (kc := 7) (ks := 312) (w := 6) (n := 33) d_Square_init_31 rfl (by decide) (by decide +kernel) (by decide) (am_rok_put (am_rok_clr (am_rok_put (am_rok_clr (am_rok_put (am_rok_clr hR (sl_ 92 (by decide)) (sl_ 93 (by decide))) (by decide +kernel)) (sl_ 93 (by decide)) (sl_ 94 (by decide))) (by decide +kernel)) (sl_ 94 (by decide)) (sl_ 95 (by decide))) (by decide +kernel)) (sl_ 95 (by decide)) rfl rfl (by decide) ?_
  refine am_putR (n := 36) f_Square_22 d_Square_init_33 rfl ⟨_, rfl, Or.inr ⟨rfl, rfl, rfl⟩⟩ rfl rfl rfl ?_
  refine am_aload_n (n := 37) d_Square_init_36 rfl rfl ?_
  refine am_iconst (n := 38) d_Square_init_37 ci_4 rfl ?_
  refine am_newaC_int (kc := 6) (ks := 308) (w := 4) (n := 40) d_Square_init_38 rfl (by decide) (by decide +kernel) (by decide) (am_rok_put (am_rok_clr (am_rok_put (am_rok_clr (am_rok_put (am_rok_clr (am_rok_put (am_rok_clr hR (sl_ 92 (by decide)) (sl_ 93 (by decide))) (by decide +kernel)) (sl_ 93 (by decide)) (sl_ 94 (by decide))) (by decide +kernel)) (sl_ 94 (by decide)) (sl_ 95 (by decide))) (by decide +kernel)) (sl_ 95 (by decide)) (sl_ 96 (by decide))) (by decide +kernel)) (sl_ 96 (by decide)) rfl rfl (by decide) ?_
  refine am_putR (n := 43) f_Square_25 d_Square_init_40 rfl ⟨_, rfl, Or.inr ⟨rfl, rfl, rfl⟩⟩ rfl rfl rfl ?_
  refine am_aload_n (n := 44) d_Square_init_43 rfl rfl ?_
  refine am_newC (ci := 1) (kc := 5) (ks := 300) (N := 8) (n := 47) d_Square_init_44 rfl rfl rfl cl_Square_28 it_Days ini_Days df_Days (am_rok_put (am_rok_clr (am_rok_put (am_rok_clr (am_rok_put (am_rok_clr (am_rok_put (am_rok_clr (am_rok_put (am_rok_clr hR (sl_ 92 (by decide)) (sl_ 93 (by decide))) (by decide +kernel)) (sl_ 93 (by decide)) (sl_ 94 (by decide))) (by decide +kernel)) (sl_ 94 (by decide)) (sl_ 95 (by decide))) (by decide +kernel)) (sl_ 95 (by decide)) (sl_ 96 (by decide))) (by decide +kernel)) (sl_ 96 (by decide)) (sl_ 97 (by decide))) (by decide +kernel)) (sl_ 97 (by decide)) rfl rfl (by decide) ?_
  refine am_dup (n := 48) d_Square_init_47 rfl rfl ?_
  refine am_callI (kc := 0) (ks := 0) (kc' := 5) (ks' := 300) (As := []) (q := 97) (n := 51) d_Square_init_48 rfl ce_Days_init lk_Square_30 in_Days_init rfl rfl (Nat.le_of_ble_eq_true rfl) (Or.inr (am_ok_of rfl)) (cc_Days_97 (d := d - 1) (am_rok_clr (am_rok_put (am_rok_clr (am_rok_put (am_rok_clr (am_rok_put (am_rok_clr (am_rok_put (am_rok_clr (am_rok_put (am_rok_clr hR (sl_ 92 (by decide)) (sl_ 93 (by decide))) (by decide +kernel)) (sl_ 93 (by decide)) (sl_ 94 (by decide))) (by decide +kernel)) (sl_ 94 (by decide)) (sl_ 95 (by decide))) (by decide +kernel)) (sl_ 95 (by decide)) (sl_ 96 (by decide))) (by decide +kernel)) (sl_ 96 (by decide)) (sl_ 97 (by decide))) (by decide +kernel)) (sl_ 97 (by decide)) (sl_ 98 (by decide))) (by omega)) (by omega) ?_
  rintro _ _ ⟨rfl, rfl⟩
  refine am_putR (n := 54) f_Square_31 d_Square_init_51 rfl ⟨_, rfl, Or.inl rfl⟩ rfl rfl rfl ?_
  refine am_aload_n (n := 55) d_Square_init_54 rfl rfl ?_
  refine am_iconst (n := 56) d_Square_init_55 ci_4 rfl ?_
  refine am_putI (n := 59) f_Square_35 d_Square_init_56 rfl ⟨_, rfl, Or.inl rfl⟩ rfl rfl rfl ?_
  refine am_aload_n (n := 60) d_Square_init_59 rfl rfl ?_
  refine am_iconst (n := 61) d_Square_init_60 ci_4 rfl ?_
  refine am_putI (n := 64) f_Square_39 d_Square_init_61 rfl ⟨_, rfl, Or.inl rfl⟩ rfl rfl rfl ?_
  refine am_aload_n (n := 65) d_Square_init_64 rfl rfl ?_
  refine am_bipush (n := 67) d_Square_init_65 cb_8 rfl ?_
  refine am_putI (n := 70) f_Square_42 d_Square_init_67 rfl ⟨_, rfl, Or.inl rfl⟩ rfl rfl rfl ?_
  refine am_aload_n (n := 71) d_Square_init_70 rfl rfl ?_
  refine am_iconst (n := 72) d_Square_init_71 ci_0 rfl ?_
  refine am_putI (n := 75) f_Square_45 d_Square_init_72 rfl ⟨_, rfl, Or.inl rfl⟩ rfl rfl rfl ?_
  refine am_aload_n (n := 76) d_Square_init_75 rfl rfl ?_
  refine am_iconst (n := 77) d_Square_init_76 ci_0 rfl ?_
  refine am_putI (n := 80) f_Square_48 d_Square_init_77 rfl ⟨_, rfl, Or.inl rfl⟩ rfl rfl rfl ?_
  refine am_aload_n (n := 81) d_Square_init_80 rfl rfl ?_
  refine am_iconst (n := 82) d_Square_init_81 ci_0 rfl ?_
  refine am_putI (n := 85) f_Square_51 d_Square_init_82 rfl ⟨_, rfl, Or.inl rfl⟩ rfl rfl rfl ?_
  refine am_aload_n (n := 86) d_Square_init_85 rfl rfl ?_
  refine am_iconst (n := 87) d_Square_init_86 ci_0 rfl ?_
  refine am_putI (n := 90) f_Square_54 d_Square_init_87 rfl ⟨_, rfl, Or.inl rfl⟩ rfl rfl rfl ?_
  refine am_aload_n (n := 91) d_Square_init_90 rfl rfl ?_
  refine am_iconst (n := 92) d_Square_init_91 ci_0 rfl ?_
  refine am_putI (n := 95) f_Square_57 d_Square_init_92 rfl ⟨_, rfl, Or.inl rfl⟩ rfl rfl rfl ?_
  refine am_aload_n (n := 96) d_Square_init_95 rfl rfl ?_
  refine am_iconst (n := 97) d_Square_init_96 ci_0 rfl ?_
  refine am_putI (n := 100) f_Square_60 d_Square_init_97 rfl ⟨_, rfl, Or.inl rfl⟩ rfl rfl rfl ?_
  refine am_aload_n (n := 101) d_Square_init_100 rfl rfl ?_
  refine am_iconst (n := 102) d_Square_init_101 ci_0 rfl ?_
  refine am_putI (n := 105) f_Square_63 d_Square_init_102 rfl ⟨_, rfl, Or.inl rfl⟩ rfl rfl rfl ?_
  exact am_vret d_Square_init_105 ⟨rfl, rfl⟩
def ci_U_0 (I : am_TI) : am_TI := (ci_Square_91 (am_clr (ci_Square_79 (am_clr (ci_Square_67 (am_clr (ci_Tray_65 (am_clr (ci_Tray_63 (am_clr (ci_Tray_61 (am_clr (ci_Tray_59 (am_clr (am_u2 (am_u2 (ci_Days_53 (am_clr (ci_Square_41 (am_clr (ci_Square_29 (am_clr (ci_Knowing_27 (am_clr (ci_Covering_24 (am_clr (ci_Placings_21 (am_clr (ci_Rows_16 (am_clr (ci_Life_14 (am_clr (ci_Life_12 (am_clr (am_clr (ci_DaysReader_9 (am_clr (ci_SquareReader_8 (am_clr (ci_Tokens_2 (am_clr (am_clr I 1 0) 2 0)) 8 0)) 9 0)) 11 0) 12 0)) 14 0)) 16 0)) 21 0)) 24 0)) 27 0)) 29 0)) 41 0)) 53 0)) 0 14 0) 0 15 0) 59 0)) 61 0)) 63 0)) 65 0)) 67 0)) 79 0)) 91 0))
def cl_U_0 (L : am_TL) : am_TL := (cl_Square_91 (am_clr (cl_Square_79 (am_clr (cl_Square_67 (am_clr (cl_Tray_65 (am_clr (cl_Tray_63 (am_clr (cl_Tray_61 (am_clr (cl_Tray_59 (am_clr (am_u2 (am_u2 (cl_Days_53 (am_clr (cl_Square_41 (am_clr (cl_Square_29 (am_clr (cl_Knowing_27 (am_clr (cl_Covering_24 (am_clr (cl_Placings_21 (am_clr (cl_Rows_16 (am_clr (cl_Life_14 (am_clr (cl_Life_12 (am_clr (am_clr (cl_DaysReader_9 (am_clr (cl_SquareReader_8 (am_clr (cl_Tokens_2 (am_clr (am_clr L 1 0) 2 0)) 8 0)) 9 0)) 11 0) 12 0)) 14 0)) 16 0)) 21 0)) 24 0)) 27 0)) 29 0)) 41 0)) 53 0)) 0 16 0) 0 17 1) 59 0)) 61 0)) 63 0)) 65 0)) 67 0)) 79 0)) 91 0))
def cr_U_0 (R : am_TR) : am_TR := (am_u2 (cr_Square_91 (am_clr (am_u2 (cr_Square_79 (am_clr (am_u2 (cr_Square_67 (am_clr (am_u2 (cr_Tray_65 (am_clr (am_u2 (cr_Tray_63 (am_clr (am_u2 (cr_Tray_61 (am_clr (am_u2 (cr_Tray_59 (am_clr (am_u2 (cr_Days_53 (am_clr (am_u2 (cr_Square_41 (am_clr (am_u2 (cr_Square_29 (am_clr (am_u2 (cr_Knowing_27 (am_clr (am_u2 (cr_Covering_24 (am_clr (am_u2 (cr_Placings_21 (am_clr (am_u2 (cr_Rows_16 (am_clr (am_u2 (cr_Life_14 (am_clr (am_u2 (cr_Life_12 (am_clr (am_u2 (am_clr (am_u2 (cr_DaysReader_9 (am_clr (am_u2 (cr_SquareReader_8 (am_clr (am_u2 (cr_Tokens_2 (am_clr (am_u2 (am_clr R 1 none) 0 0 (some 1)) 2 none)) 0 1 (some 2)) 8 none)) 0 2 (some 8)) 9 none)) 0 3 (some 9)) 11 none) 0 4 (some 11)) 12 none)) 0 5 (some 12)) 14 none)) 0 6 (some 14)) 16 none)) 0 7 (some 16)) 21 none)) 0 8 (some 21)) 24 none)) 0 9 (some 24)) 27 none)) 0 10 (some 27)) 29 none)) 0 11 (some 29)) 41 none)) 0 12 (some 41)) 53 none)) 0 13 (some 53)) 59 none)) 1 0 (some 59)) 61 none)) 1 1 (some 61)) 63 none)) 1 2 (some 63)) 65 none)) 1 3 (some 65)) 67 none)) 11 0 (some 67)) 79 none)) 11 1 (some 79)) 91 none)) 11 2 (some 91))
theorem rk_U_0 {R : am_TR} (hR : am_Rok R (am_SHp 1)) : am_Rok (cr_U_0 R) (am_SHp 103) := (am_rok_put (rk_Square_91 (am_rok_clr (am_rok_put (rk_Square_79 (am_rok_clr (am_rok_put (rk_Square_67 (am_rok_clr (am_rok_put (rk_Tray_65 (am_rok_clr (am_rok_put (rk_Tray_63 (am_rok_clr (am_rok_put (rk_Tray_61 (am_rok_clr (am_rok_put (rk_Tray_59 (am_rok_clr (am_rok_put (rk_Days_53 (am_rok_clr (am_rok_put (rk_Square_41 (am_rok_clr (am_rok_put (rk_Square_29 (am_rok_clr (am_rok_put (rk_Knowing_27 (am_rok_clr (am_rok_put (rk_Covering_24 (am_rok_clr (am_rok_put (rk_Placings_21 (am_rok_clr (am_rok_put (rk_Rows_16 (am_rok_clr (am_rok_put (rk_Life_14 (am_rok_clr (am_rok_put (rk_Life_12 (am_rok_clr (am_rok_put (am_rok_clr (am_rok_put (rk_DaysReader_9 (am_rok_clr (am_rok_put (rk_SquareReader_8 (am_rok_clr (am_rok_put (rk_Tokens_2 (am_rok_clr (am_rok_put (am_rok_clr hR (sl_ 1 (by decide)) (sl_ 2 (by decide))) (by decide +kernel)) (sl_ 2 (by decide)) (sl_ 3 (by decide)))) (by decide +kernel)) (sl_ 8 (by decide)) (sl_ 9 (by decide)))) (by decide +kernel)) (sl_ 9 (by decide)) (sl_ 10 (by decide)))) (by decide +kernel)) (sl_ 11 (by decide)) (sl_ 12 (by decide))) (by decide +kernel)) (sl_ 12 (by decide)) (sl_ 13 (by decide)))) (by decide +kernel)) (sl_ 14 (by decide)) (sl_ 15 (by decide)))) (by decide +kernel)) (sl_ 16 (by decide)) (sl_ 17 (by decide)))) (by decide +kernel)) (sl_ 21 (by decide)) (sl_ 22 (by decide)))) (by decide +kernel)) (sl_ 24 (by decide)) (sl_ 25 (by decide)))) (by decide +kernel)) (sl_ 27 (by decide)) (sl_ 28 (by decide)))) (by decide +kernel)) (sl_ 29 (by decide)) (sl_ 30 (by decide)))) (by decide +kernel)) (sl_ 41 (by decide)) (sl_ 42 (by decide)))) (by decide +kernel)) (sl_ 53 (by decide)) (sl_ 54 (by decide)))) (by decide +kernel)) (sl_ 59 (by decide)) (sl_ 60 (by decide)))) (by decide +kernel)) (sl_ 61 (by decide)) (sl_ 62 (by decide)))) (by decide +kernel)) (sl_ 63 (by decide)) (sl_ 64 (by decide)))) (by decide +kernel)) (sl_ 65 (by decide)) (sl_ 66 (by decide)))) (by decide +kernel)) (sl_ 67 (by decide)) (sl_ 68 (by decide)))) (by decide +kernel)) (sl_ 79 (by decide)) (sl_ 80 (by decide)))) (by decide +kernel)) (sl_ 91 (by decide)) (sl_ 92 (by decide)))) (by decide +kernel))
set_option maxRecDepth 20000 in
theorem cc_U_0 {d : Nat} {I : am_TI} {L : am_TL} {R : am_TR} (hR : am_Rok R (am_SHp 1)) (hd : 6 ≤ d) : am_Cm d 102 7210 y_U_init b_U_init 2 none [.ref 0] (I, L, R, am_SHp 1) (fun r σ' => r = none ∧ σ' = (ci_U_0 I, cl_U_0 L, cr_U_0 R, am_SHp 103)) := by
  refine am_Cm_of (ini := true) (by decide +kernel) (fun _ => rfl) (by simp [Value.category]) (fun r σ' z => by obtain ⟨rfl, -⟩ := z; rfl) ?_
  show am_Wp (d, "UnseenRing", b_U_init, 2, true) 102 7210 0 [some (.ref 0), none] [] (I, L, R, am_SHp 1) _
  refine am_aload_n (n := 1) d_U_init_0 rfl rfl ?_
  refine am_objInit2 (n := 4) d_U_init_1 rfl lo_U_1 (Nat.le_of_ble_eq_true rfl) (by omega) ?_
  refine am_aload_n (n := 5) d_U_init_4 rfl rfl ?_
  refine am_iconst (n := 6) d_U_init_5 ci_4 rfl ?_
  refine am_anewC4 (kc := 101) (ks := 7206) (w := 4) (n := 9) d_U_init_6 rfl cl_U_9 (by decide) (by decide +kernel) (by decide) hR (sl_ 1 (by decide)) rfl rfl (by decide) ?_
  refine am_putR (n := 12) f_U_11 d_U_init_9 rfl ⟨_, rfl, Or.inr ⟨rfl, rfl, rfl⟩⟩ rfl rfl rfl ?_
  refine am_aload_n (n := 13) d_U_init_12 rfl rfl ?_
  refine am_newC (ci := 9) (kc := 100) (ks := 7194) (N := 12) (n := 16) d_U_init_13 rfl rfl rfl cl_U_15 it_Tokens ini_Tokens df_Tokens (am_rok_put (am_rok_clr hR (sl_ 1 (by decide)) (sl_ 2 (by decide))) (by decide +kernel)) (sl_ 2 (by decide)) rfl rfl (by decide) ?_
  refine am_dup (n := 17) d_U_init_16 rfl rfl ?_
  refine am_callI (kc := 95) (ks := 3566) (kc' := 5) (ks' := 3628) (As := []) (q := 2) (n := 20) d_U_init_17 rfl ce_Tokens_init lk_U_17 in_Tokens_init rfl rfl (Nat.le_of_ble_eq_true rfl) (Or.inr (am_ok_of rfl)) (cc_Tokens_2 (d := d - 1) (am_rok_clr (am_rok_put (am_rok_clr hR (sl_ 1 (by decide)) (sl_ 2 (by decide))) (by decide +kernel)) (sl_ 2 (by decide)) (sl_ 3 (by decide))) (by omega)) (by omega) ?_
  rintro _ _ ⟨rfl, rfl⟩
  refine am_putR (n := 23) f_U_18 d_U_init_20 rfl ⟨_, rfl, Or.inr ⟨rfl, rfl, rfl⟩⟩ rfl rfl rfl ?_
  refine am_aload_n (n := 24) d_U_init_23 rfl rfl ?_
  refine am_newC (ci := 8) (kc := 94) (ks := 3563) (N := 3) (n := 27) d_U_init_24 rfl rfl rfl cl_U_22 it_SquareReader ini_SquareReader df_SquareReader (am_rok_put (rk_Tokens_2 (am_rok_clr (am_rok_put (am_rok_clr hR (sl_ 1 (by decide)) (sl_ 2 (by decide))) (by decide +kernel)) (sl_ 2 (by decide)) (sl_ 3 (by decide)))) (by decide +kernel)) (sl_ 8 (by decide)) rfl rfl (by decide) ?_
  refine am_dup (n := 28) d_U_init_27 rfl rfl ?_
  refine am_callI (kc := 94) (ks := 3563) (kc' := 0) (ks' := 0) (As := []) (q := 8) (n := 31) d_U_init_28 rfl ce_SquareReader_init lk_U_24 in_SquareReader_init rfl rfl (Nat.le_of_ble_eq_true rfl) (Or.inr (am_ok_of rfl)) (cc_SquareReader_8 (d := d - 1) (am_rok_clr (am_rok_put (rk_Tokens_2 (am_rok_clr (am_rok_put (am_rok_clr hR (sl_ 1 (by decide)) (sl_ 2 (by decide))) (by decide +kernel)) (sl_ 2 (by decide)) (sl_ 3 (by decide)))) (by decide +kernel)) (sl_ 8 (by decide)) (sl_ 9 (by decide))) (by omega)) (by omega) ?_
  rintro _ _ ⟨rfl, rfl⟩
  refine am_putR (n := 34) f_U_25 d_U_init_31 rfl ⟨_, rfl, Or.inr ⟨rfl, rfl, rfl⟩⟩ rfl rfl rfl ?_
  refine am_aload_n (n := 35) d_U_init_34 rfl rfl ?_
  refine am_newC (ci := 2) (kc := 93) (ks := 3561) (N := 2) (n := 38) d_U_init_35 rfl rfl rfl cl_U_29 it_DaysReader ini_DaysReader df_DaysReader (am_rok_put (rk_SquareReader_8 (am_rok_clr (am_rok_put (rk_Tokens_2 (am_rok_clr (am_rok_put (am_rok_clr hR (sl_ 1 (by decide)) (sl_ 2 (by decide))) (by decide +kernel)) (sl_ 2 (by decide)) (sl_ 3 (by decide)))) (by decide +kernel)) (sl_ 8 (by decide)) (sl_ 9 (by decide)))) (by decide +kernel)) (sl_ 9 (by decide)) rfl rfl (by decide) ?_
  refine am_dup (n := 39) d_U_init_38 rfl rfl ?_
  refine am_callI (kc := 92) (ks := 3558) (kc' := 1) (ks' := 3) (As := []) (q := 9) (n := 42) d_U_init_39 rfl ce_DaysReader_init lk_U_31 in_DaysReader_init rfl rfl (Nat.le_of_ble_eq_true rfl) (Or.inr (am_ok_of rfl)) (cc_DaysReader_9 (d := d - 1) (am_rok_clr (am_rok_put (rk_SquareReader_8 (am_rok_clr (am_rok_put (rk_Tokens_2 (am_rok_clr (am_rok_put (am_rok_clr hR (sl_ 1 (by decide)) (sl_ 2 (by decide))) (by decide +kernel)) (sl_ 2 (by decide)) (sl_ 3 (by decide)))) (by decide +kernel)) (sl_ 8 (by decide)) (sl_ 9 (by decide)))) (by decide +kernel)) (sl_ 9 (by decide)) (sl_ 10 (by decide))) (by omega)) (by omega) ?_
  rintro _ _ ⟨rfl, rfl⟩
  refine am_putR (n := 45) f_U_32 d_U_init_42 rfl ⟨_, rfl, Or.inr ⟨rfl, rfl, rfl⟩⟩ rfl rfl rfl ?_
  refine am_aload_n (n := 46) d_U_init_45 rfl rfl ?_
  refine am_iconst (n := 47) d_U_init_46 ci_3 rfl ?_
  refine am_anewC5 (kc := 91) (ks := 3555) (w := 3) (n := 50) d_U_init_47 rfl cl_U_36 (by decide) (by decide +kernel) (by decide) (am_rok_put (rk_DaysReader_9 (am_rok_clr (am_rok_put (rk_SquareReader_8 (am_rok_clr (am_rok_put (rk_Tokens_2 (am_rok_clr (am_rok_put (am_rok_clr hR (sl_ 1 (by decide)) (sl_ 2 (by decide))) (by decide +kernel)) (sl_ 2 (by decide)) (sl_ 3 (by decide)))) (by decide +kernel)) (sl_ 8 (by decide)) (sl_ 9 (by decide)))) (by decide +kernel)) (sl_ 9 (by decide)) (sl_ 10 (by decide)))) (by decide +kernel)) (sl_ 11 (by decide)) rfl rfl (by decide) ?_
  refine am_putR (n := 53) f_U_38 d_U_init_50 rfl ⟨_, rfl, Or.inr ⟨rfl, rfl, rfl⟩⟩ rfl rfl rfl ?_
  refine am_aload_n (n := 54) d_U_init_53 rfl rfl ?_
  refine am_newC (ci := 4) (kc := 90) (ks := 3543) (N := 12) (n := 57) d_U_init_54 rfl rfl rfl cl_U_42 it_Life ini_Life df_Life (am_rok_put (am_rok_clr (am_rok_put (rk_DaysReader_9 (am_rok_clr (am_rok_put (rk_SquareReader_8 (am_rok_clr (am_rok_put (rk_Tokens_2 (am_rok_clr (am_rok_put (am_rok_clr hR (sl_ 1 (by decide)) (sl_ 2 (by decide))) (by decide +kernel)) (sl_ 2 (by decide)) (sl_ 3 (by decide)))) (by decide +kernel)) (sl_ 8 (by decide)) (sl_ 9 (by decide)))) (by decide +kernel)) (sl_ 9 (by decide)) (sl_ 10 (by decide)))) (by decide +kernel)) (sl_ 11 (by decide)) (sl_ 12 (by decide))) (by decide +kernel)) (sl_ 12 (by decide)) rfl rfl (by decide) ?_
  refine am_dup (n := 58) d_U_init_57 rfl rfl ?_
  refine am_callI (kc := 89) (ks := 3483) (kc' := 1) (ks' := 60) (As := []) (q := 12) (n := 61) d_U_init_58 rfl ce_Life_init lk_U_44 in_Life_init rfl rfl (Nat.le_of_ble_eq_true rfl) (Or.inr (am_ok_of rfl)) (cc_Life_12 (d := d - 1) (am_rok_clr (am_rok_put (am_rok_clr (am_rok_put (rk_DaysReader_9 (am_rok_clr (am_rok_put (rk_SquareReader_8 (am_rok_clr (am_rok_put (rk_Tokens_2 (am_rok_clr (am_rok_put (am_rok_clr hR (sl_ 1 (by decide)) (sl_ 2 (by decide))) (by decide +kernel)) (sl_ 2 (by decide)) (sl_ 3 (by decide)))) (by decide +kernel)) (sl_ 8 (by decide)) (sl_ 9 (by decide)))) (by decide +kernel)) (sl_ 9 (by decide)) (sl_ 10 (by decide)))) (by decide +kernel)) (sl_ 11 (by decide)) (sl_ 12 (by decide))) (by decide +kernel)) (sl_ 12 (by decide)) (sl_ 13 (by decide))) (by omega)) (by omega) ?_
  rintro _ _ ⟨rfl, rfl⟩
  refine am_putR (n := 64) f_U_45 d_U_init_61 rfl ⟨_, rfl, Or.inr ⟨rfl, rfl, rfl⟩⟩ rfl rfl rfl ?_
  refine am_aload_n (n := 65) d_U_init_64 rfl rfl ?_
  refine am_newC (ci := 4) (kc := 88) (ks := 3471) (N := 12) (n := 68) d_U_init_65 rfl rfl rfl cl_U_42 it_Life ini_Life df_Life (am_rok_put (rk_Life_12 (am_rok_clr (am_rok_put (am_rok_clr (am_rok_put (rk_DaysReader_9 (am_rok_clr (am_rok_put (rk_SquareReader_8 (am_rok_clr (am_rok_put (rk_Tokens_2 (am_rok_clr (am_rok_put (am_rok_clr hR (sl_ 1 (by decide)) (sl_ 2 (by decide))) (by decide +kernel)) (sl_ 2 (by decide)) (sl_ 3 (by decide)))) (by decide +kernel)) (sl_ 8 (by decide)) (sl_ 9 (by decide)))) (by decide +kernel)) (sl_ 9 (by decide)) (sl_ 10 (by decide)))) (by decide +kernel)) (sl_ 11 (by decide)) (sl_ 12 (by decide))) (by decide +kernel)) (sl_ 12 (by decide)) (sl_ 13 (by decide)))) (by decide +kernel)) (sl_ 14 (by decide)) rfl rfl (by decide) ?_
  refine am_dup (n := 69) d_U_init_68 rfl rfl ?_
  refine am_callI (kc := 87) (ks := 3411) (kc' := 1) (ks' := 60) (As := []) (q := 14) (n := 72) d_U_init_69 rfl ce_Life_init lk_U_44 in_Life_init rfl rfl (Nat.le_of_ble_eq_true rfl) (Or.inr (am_ok_of rfl)) (cc_Life_14 (d := d - 1) (am_rok_clr (am_rok_put (rk_Life_12 (am_rok_clr (am_rok_put (am_rok_clr (am_rok_put (rk_DaysReader_9 (am_rok_clr (am_rok_put (rk_SquareReader_8 (am_rok_clr (am_rok_put (rk_Tokens_2 (am_rok_clr (am_rok_put (am_rok_clr hR (sl_ 1 (by decide)) (sl_ 2 (by decide))) (by decide +kernel)) (sl_ 2 (by decide)) (sl_ 3 (by decide)))) (by decide +kernel)) (sl_ 8 (by decide)) (sl_ 9 (by decide)))) (by decide +kernel)) (sl_ 9 (by decide)) (sl_ 10 (by decide)))) (by decide +kernel)) (sl_ 11 (by decide)) (sl_ 12 (by decide))) (by decide +kernel)) (sl_ 12 (by decide)) (sl_ 13 (by decide)))) (by decide +kernel)) (sl_ 14 (by decide)) (sl_ 15 (by decide))) (by omega)) (by omega) ?_
  rintro _ _ ⟨rfl, rfl⟩
  refine am_putR (n := 75) f_U_49 d_U_init_72 rfl ⟨_, rfl, Or.inr ⟨rfl, rfl, rfl⟩⟩ rfl rfl rfl ?_
  refine am_aload_n (n := 76) d_U_init_75 rfl rfl ?_
  refine am_newC (ci := 6) (kc := 86) (ks := 3405) (N := 6) (n := 79) d_U_init_76 rfl rfl rfl cl_U_52 it_Rows ini_Rows df_Rows (am_rok_put (rk_Life_14 (am_rok_clr (am_rok_put (rk_Life_12 (am_rok_clr (am_rok_put (am_rok_clr (am_rok_put (rk_DaysReader_9 (am_rok_clr (am_rok_put (rk_SquareReader_8 (am_rok_clr (am_rok_put (rk_Tokens_2 (am_rok_clr (am_rok_put (am_rok_clr hR (sl_ 1 (by decide)) (sl_ 2 (by decide))) (by decide +kernel)) (sl_ 2 (by decide)) (sl_ 3 (by decide)))) (by decide +kernel)) (sl_ 8 (by decide)) (sl_ 9 (by decide)))) (by decide +kernel)) (sl_ 9 (by decide)) (sl_ 10 (by decide)))) (by decide +kernel)) (sl_ 11 (by decide)) (sl_ 12 (by decide))) (by decide +kernel)) (sl_ 12 (by decide)) (sl_ 13 (by decide)))) (by decide +kernel)) (sl_ 14 (by decide)) (sl_ 15 (by decide)))) (by decide +kernel)) (sl_ 16 (by decide)) rfl rfl (by decide) ?_
  refine am_dup (n := 80) d_U_init_79 rfl rfl ?_
  refine am_callI (kc := 82) (ks := 2658) (kc' := 4) (ks' := 747) (As := []) (q := 16) (n := 83) d_U_init_80 rfl ce_Rows_init lk_U_54 in_Rows_init rfl rfl (Nat.le_of_ble_eq_true rfl) (Or.inr (am_ok_of rfl)) (cc_Rows_16 (d := d - 1) (am_rok_clr (am_rok_put (rk_Life_14 (am_rok_clr (am_rok_put (rk_Life_12 (am_rok_clr (am_rok_put (am_rok_clr (am_rok_put (rk_DaysReader_9 (am_rok_clr (am_rok_put (rk_SquareReader_8 (am_rok_clr (am_rok_put (rk_Tokens_2 (am_rok_clr (am_rok_put (am_rok_clr hR (sl_ 1 (by decide)) (sl_ 2 (by decide))) (by decide +kernel)) (sl_ 2 (by decide)) (sl_ 3 (by decide)))) (by decide +kernel)) (sl_ 8 (by decide)) (sl_ 9 (by decide)))) (by decide +kernel)) (sl_ 9 (by decide)) (sl_ 10 (by decide)))) (by decide +kernel)) (sl_ 11 (by decide)) (sl_ 12 (by decide))) (by decide +kernel)) (sl_ 12 (by decide)) (sl_ 13 (by decide)))) (by decide +kernel)) (sl_ 14 (by decide)) (sl_ 15 (by decide)))) (by decide +kernel)) (sl_ 16 (by decide)) (sl_ 17 (by decide))) (by omega)) (by omega) ?_
  rintro _ _ ⟨rfl, rfl⟩
  refine am_putR (n := 86) f_U_55 d_U_init_83 rfl ⟨_, rfl, Or.inr ⟨rfl, rfl, rfl⟩⟩ rfl rfl rfl ?_
  refine am_aload_n (n := 87) d_U_init_86 rfl rfl ?_
  refine am_newC (ci := 5) (kc := 81) (ks := 2655) (N := 3) (n := 90) d_U_init_87 rfl rfl rfl cl_U_59 it_Placings ini_Placings df_Placings (am_rok_put (rk_Rows_16 (am_rok_clr (am_rok_put (rk_Life_14 (am_rok_clr (am_rok_put (rk_Life_12 (am_rok_clr (am_rok_put (am_rok_clr (am_rok_put (rk_DaysReader_9 (am_rok_clr (am_rok_put (rk_SquareReader_8 (am_rok_clr (am_rok_put (rk_Tokens_2 (am_rok_clr (am_rok_put (am_rok_clr hR (sl_ 1 (by decide)) (sl_ 2 (by decide))) (by decide +kernel)) (sl_ 2 (by decide)) (sl_ 3 (by decide)))) (by decide +kernel)) (sl_ 8 (by decide)) (sl_ 9 (by decide)))) (by decide +kernel)) (sl_ 9 (by decide)) (sl_ 10 (by decide)))) (by decide +kernel)) (sl_ 11 (by decide)) (sl_ 12 (by decide))) (by decide +kernel)) (sl_ 12 (by decide)) (sl_ 13 (by decide)))) (by decide +kernel)) (sl_ 14 (by decide)) (sl_ 15 (by decide)))) (by decide +kernel)) (sl_ 16 (by decide)) (sl_ 17 (by decide)))) (by decide +kernel)) (sl_ 21 (by decide)) rfl rfl (by decide) ?_
  refine am_dup (n := 91) d_U_init_90 rfl rfl ?_
  refine am_callI (kc := 79) (ks := 2614) (kc' := 2) (ks' := 41) (As := []) (q := 21) (n := 94) d_U_init_91 rfl ce_Placings_init lk_U_61 in_Placings_init rfl rfl (Nat.le_of_ble_eq_true rfl) (Or.inr (am_ok_of rfl)) (cc_Placings_21 (d := d - 1) (am_rok_clr (am_rok_put (rk_Rows_16 (am_rok_clr (am_rok_put (rk_Life_14 (am_rok_clr (am_rok_put (rk_Life_12 (am_rok_clr (am_rok_put (am_rok_clr (am_rok_put (rk_DaysReader_9 (am_rok_clr (am_rok_put (rk_SquareReader_8 (am_rok_clr (am_rok_put (rk_Tokens_2 (am_rok_clr (am_rok_put (am_rok_clr hR (sl_ 1 (by decide)) (sl_ 2 (by decide))) (by decide +kernel)) (sl_ 2 (by decide)) (sl_ 3 (by decide)))) (by decide +kernel)) (sl_ 8 (by decide)) (sl_ 9 (by decide)))) (by decide +kernel)) (sl_ 9 (by decide)) (sl_ 10 (by decide)))) (by decide +kernel)) (sl_ 11 (by decide)) (sl_ 12 (by decide))) (by decide +kernel)) (sl_ 12 (by decide)) (sl_ 13 (by decide)))) (by decide +kernel)) (sl_ 14 (by decide)) (sl_ 15 (by decide)))) (by decide +kernel)) (sl_ 16 (by decide)) (sl_ 17 (by decide)))) (by decide +kernel)) (sl_ 21 (by decide)) (sl_ 22 (by decide))) (by omega)) (by omega) ?_
  rintro _ _ ⟨rfl, rfl⟩
  refine am_putR (n := 97) f_U_62 d_U_init_94 rfl ⟨_, rfl, Or.inr ⟨rfl, rfl, rfl⟩⟩ rfl rfl rfl ?_
  refine am_aload_n (n := 98) d_U_init_97 rfl rfl ?_
  refine am_newC (ci := 0) (kc := 78) (ks := 2610) (N := 4) (n := 101) d_U_init_98 rfl rfl rfl cl_U_66 it_Covering ini_Covering df_Covering (am_rok_put (rk_Placings_21 (am_rok_clr (am_rok_put (rk_Rows_16 (am_rok_clr (am_rok_put (rk_Life_14 (am_rok_clr (am_rok_put (rk_Life_12 (am_rok_clr (am_rok_put (am_rok_clr (am_rok_put (rk_DaysReader_9 (am_rok_clr (am_rok_put (rk_SquareReader_8 (am_rok_clr (am_rok_put (rk_Tokens_2 (am_rok_clr (am_rok_put (am_rok_clr hR (sl_ 1 (by decide)) (sl_ 2 (by decide))) (by decide +kernel)) (sl_ 2 (by decide)) (sl_ 3 (by decide)))) (by decide +kernel)) (sl_ 8 (by decide)) (sl_ 9 (by decide)))) (by decide +kernel)) (sl_ 9 (by decide)) (sl_ 10 (by decide)))) (by decide +kernel)) (sl_ 11 (by decide)) (sl_ 12 (by decide))) (by decide +kernel)) (sl_ 12 (by decide)) (sl_ 13 (by decide)))) (by decide +kernel)) (sl_ 14 (by decide)) (sl_ 15 (by decide)))) (by decide +kernel)) (sl_ 16 (by decide)) (sl_ 17 (by decide)))) (by decide +kernel)) (sl_ 21 (by decide)) (sl_ 22 (by decide)))) (by decide +kernel)) (sl_ 24 (by decide)) rfl rfl (by decide) ?_
  refine am_dup (n := 102) d_U_init_101 rfl rfl ?_
  refine am_callI (kc := 76) (ks := 2329) (kc' := 2) (ks' := 281) (As := []) (q := 24) (n := 105) d_U_init_102 rfl ce_Covering_init lk_U_68 in_Covering_init rfl rfl (Nat.le_of_ble_eq_true rfl) (Or.inr (am_ok_of rfl)) (cc_Covering_24 (d := d - 1) (am_rok_clr (am_rok_put (rk_Placings_21 (am_rok_clr (am_rok_put (rk_Rows_16 (am_rok_clr (am_rok_put (rk_Life_14 (am_rok_clr (am_rok_put (rk_Life_12 (am_rok_clr (am_rok_put (am_rok_clr (am_rok_put (rk_DaysReader_9 (am_rok_clr (am_rok_put (rk_SquareReader_8 (am_rok_clr (am_rok_put (rk_Tokens_2 (am_rok_clr (am_rok_put (am_rok_clr hR (sl_ 1 (by decide)) (sl_ 2 (by decide))) (by decide +kernel)) (sl_ 2 (by decide)) (sl_ 3 (by decide)))) (by decide +kernel)) (sl_ 8 (by decide)) (sl_ 9 (by decide)))) (by decide +kernel)) (sl_ 9 (by decide)) (sl_ 10 (by decide)))) (by decide +kernel)) (sl_ 11 (by decide)) (sl_ 12 (by decide))) (by decide +kernel)) (sl_ 12 (by decide)) (sl_ 13 (by decide)))) (by decide +kernel)) (sl_ 14 (by decide)) (sl_ 15 (by decide)))) (by decide +kernel)) (sl_ 16 (by decide)) (sl_ 17 (by decide)))) (by decide +kernel)) (sl_ 21 (by decide)) (sl_ 22 (by decide)))) (by decide +kernel)) (sl_ 24 (by decide)) (sl_ 25 (by decide))) (by omega)) (by omega) ?_
  rintro _ _ ⟨rfl, rfl⟩
  refine am_putR (n := 108) f_U_69 d_U_init_105 rfl ⟨_, rfl, Or.inr ⟨rfl, rfl, rfl⟩⟩ rfl rfl rfl ?_
  refine am_aload_n (n := 109) d_U_init_108 rfl rfl ?_
  refine am_newC (ci := 3) (kc := 75) (ks := 2326) (N := 3) (n := 112) d_U_init_109 rfl rfl rfl cl_U_73 it_Knowing ini_Knowing df_Knowing (am_rok_put (rk_Covering_24 (am_rok_clr (am_rok_put (rk_Placings_21 (am_rok_clr (am_rok_put (rk_Rows_16 (am_rok_clr (am_rok_put (rk_Life_14 (am_rok_clr (am_rok_put (rk_Life_12 (am_rok_clr (am_rok_put (am_rok_clr (am_rok_put (rk_DaysReader_9 (am_rok_clr (am_rok_put (rk_SquareReader_8 (am_rok_clr (am_rok_put (rk_Tokens_2 (am_rok_clr (am_rok_put (am_rok_clr hR (sl_ 1 (by decide)) (sl_ 2 (by decide))) (by decide +kernel)) (sl_ 2 (by decide)) (sl_ 3 (by decide)))) (by decide +kernel)) (sl_ 8 (by decide)) (sl_ 9 (by decide)))) (by decide +kernel)) (sl_ 9 (by decide)) (sl_ 10 (by decide)))) (by decide +kernel)) (sl_ 11 (by decide)) (sl_ 12 (by decide))) (by decide +kernel)) (sl_ 12 (by decide)) (sl_ 13 (by decide)))) (by decide +kernel)) (sl_ 14 (by decide)) (sl_ 15 (by decide)))) (by decide +kernel)) (sl_ 16 (by decide)) (sl_ 17 (by decide)))) (by decide +kernel)) (sl_ 21 (by decide)) (sl_ 22 (by decide)))) (by decide +kernel)) (sl_ 24 (by decide)) (sl_ 25 (by decide)))) (by decide +kernel)) (sl_ 27 (by decide)) rfl rfl (by decide) ?_
  refine am_dup (n := 113) d_U_init_112 rfl rfl ?_
  refine am_callI (kc := 74) (ks := 2320) (kc' := 1) (ks' := 6) (As := []) (q := 27) (n := 116) d_U_init_113 rfl ce_Knowing_init lk_U_75 in_Knowing_init rfl rfl (Nat.le_of_ble_eq_true rfl) (Or.inr (am_ok_of rfl)) (cc_Knowing_27 (d := d - 1) (am_rok_clr (am_rok_put (rk_Covering_24 (am_rok_clr (am_rok_put (rk_Placings_21 (am_rok_clr (am_rok_put (rk_Rows_16 (am_rok_clr (am_rok_put (rk_Life_14 (am_rok_clr (am_rok_put (rk_Life_12 (am_rok_clr (am_rok_put (am_rok_clr (am_rok_put (rk_DaysReader_9 (am_rok_clr (am_rok_put (rk_SquareReader_8 (am_rok_clr (am_rok_put (rk_Tokens_2 (am_rok_clr (am_rok_put (am_rok_clr hR (sl_ 1 (by decide)) (sl_ 2 (by decide))) (by decide +kernel)) (sl_ 2 (by decide)) (sl_ 3 (by decide)))) (by decide +kernel)) (sl_ 8 (by decide)) (sl_ 9 (by decide)))) (by decide +kernel)) (sl_ 9 (by decide)) (sl_ 10 (by decide)))) (by decide +kernel)) (sl_ 11 (by decide)) (sl_ 12 (by decide))) (by decide +kernel)) (sl_ 12 (by decide)) (sl_ 13 (by decide)))) (by decide +kernel)) (sl_ 14 (by decide)) (sl_ 15 (by decide)))) (by decide +kernel)) (sl_ 16 (by decide)) (sl_ 17 (by decide)))) (by decide +kernel)) (sl_ 21 (by decide)) (sl_ 22 (by decide)))) (by decide +kernel)) (sl_ 24 (by decide)) (sl_ 25 (by decide)))) (by decide +kernel)) (sl_ 27 (by decide)) (sl_ 28 (by decide))) (by omega)) (by omega) ?_
  rintro _ _ ⟨rfl, rfl⟩
  refine am_putR (n := 119) f_U_76 d_U_init_116 rfl ⟨_, rfl, Or.inr ⟨rfl, rfl, rfl⟩⟩ rfl rfl rfl ?_
  refine am_aload_n (n := 120) d_U_init_119 rfl rfl ?_
  refine am_newC (ci := 7) (kc := 73) (ks := 2304) (N := 16) (n := 123) d_U_init_120 rfl rfl rfl cl_U_36 it_Square ini_Square df_Square (am_rok_put (rk_Knowing_27 (am_rok_clr (am_rok_put (rk_Covering_24 (am_rok_clr (am_rok_put (rk_Placings_21 (am_rok_clr (am_rok_put (rk_Rows_16 (am_rok_clr (am_rok_put (rk_Life_14 (am_rok_clr (am_rok_put (rk_Life_12 (am_rok_clr (am_rok_put (am_rok_clr (am_rok_put (rk_DaysReader_9 (am_rok_clr (am_rok_put (rk_SquareReader_8 (am_rok_clr (am_rok_put (rk_Tokens_2 (am_rok_clr (am_rok_put (am_rok_clr hR (sl_ 1 (by decide)) (sl_ 2 (by decide))) (by decide +kernel)) (sl_ 2 (by decide)) (sl_ 3 (by decide)))) (by decide +kernel)) (sl_ 8 (by decide)) (sl_ 9 (by decide)))) (by decide +kernel)) (sl_ 9 (by decide)) (sl_ 10 (by decide)))) (by decide +kernel)) (sl_ 11 (by decide)) (sl_ 12 (by decide))) (by decide +kernel)) (sl_ 12 (by decide)) (sl_ 13 (by decide)))) (by decide +kernel)) (sl_ 14 (by decide)) (sl_ 15 (by decide)))) (by decide +kernel)) (sl_ 16 (by decide)) (sl_ 17 (by decide)))) (by decide +kernel)) (sl_ 21 (by decide)) (sl_ 22 (by decide)))) (by decide +kernel)) (sl_ 24 (by decide)) (sl_ 25 (by decide)))) (by decide +kernel)) (sl_ 27 (by decide)) (sl_ 28 (by decide)))) (by decide +kernel)) (sl_ 29 (by decide)) rfl rfl (by decide) ?_
  refine am_dup (n := 124) d_U_init_123 rfl rfl ?_
  refine am_callI (kc := 62) (ks := 1968) (kc' := 11) (ks' := 336) (As := []) (q := 29) (n := 127) d_U_init_124 rfl ce_Square_init lk_U_80 in_Square_init rfl rfl (Nat.le_of_ble_eq_true rfl) (Or.inr (am_ok_of rfl)) (cc_Square_29 (d := d - 1) (am_rok_clr (am_rok_put (rk_Knowing_27 (am_rok_clr (am_rok_put (rk_Covering_24 (am_rok_clr (am_rok_put (rk_Placings_21 (am_rok_clr (am_rok_put (rk_Rows_16 (am_rok_clr (am_rok_put (rk_Life_14 (am_rok_clr (am_rok_put (rk_Life_12 (am_rok_clr (am_rok_put (am_rok_clr (am_rok_put (rk_DaysReader_9 (am_rok_clr (am_rok_put (rk_SquareReader_8 (am_rok_clr (am_rok_put (rk_Tokens_2 (am_rok_clr (am_rok_put (am_rok_clr hR (sl_ 1 (by decide)) (sl_ 2 (by decide))) (by decide +kernel)) (sl_ 2 (by decide)) (sl_ 3 (by decide)))) (by decide +kernel)) (sl_ 8 (by decide)) (sl_ 9 (by decide)))) (by decide +kernel)) (sl_ 9 (by decide)) (sl_ 10 (by decide)))) (by decide +kernel)) (sl_ 11 (by decide)) (sl_ 12 (by decide))) (by decide +kernel)) (sl_ 12 (by decide)) (sl_ 13 (by decide)))) (by decide +kernel)) (sl_ 14 (by decide)) (sl_ 15 (by decide)))) (by decide +kernel)) (sl_ 16 (by decide)) (sl_ 17 (by decide)))) (by decide +kernel)) (sl_ 21 (by decide)) (sl_ 22 (by decide)))) (by decide +kernel)) (sl_ 24 (by decide)) (sl_ 25 (by decide)))) (by decide +kernel)) (sl_ 27 (by decide)) (sl_ 28 (by decide)))) (by decide +kernel)) (sl_ 29 (by decide)) (sl_ 30 (by decide))) (by omega)) (by omega) ?_
  rintro _ _ ⟨rfl, rfl⟩
  refine am_putR (n := 130) f_U_81 d_U_init_127 rfl ⟨_, rfl, Or.inl rfl⟩ rfl rfl rfl ?_
  refine am_aload_n (n := 131) d_U_init_130 rfl rfl ?_
  refine am_newC (ci := 7) (kc := 61) (ks := 1952) (N := 16) (n := 134) d_U_init_131 rfl rfl rfl cl_U_36 it_Square ini_Square df_Square (am_rok_put (rk_Square_29 (am_rok_clr (am_rok_put (rk_Knowing_27 (am_rok_clr (am_rok_put (rk_Covering_24 (am_rok_clr (am_rok_put (rk_Placings_21 (am_rok_clr (am_rok_put (rk_Rows_16 (am_rok_clr (am_rok_put (rk_Life_14 (am_rok_clr (am_rok_put (rk_Life_12 (am_rok_clr (am_rok_put (am_rok_clr (am_rok_put (rk_DaysReader_9 (am_rok_clr (am_rok_put (rk_SquareReader_8 (am_rok_clr (am_rok_put (rk_Tokens_2 (am_rok_clr (am_rok_put (am_rok_clr hR (sl_ 1 (by decide)) (sl_ 2 (by decide))) (by decide +kernel)) (sl_ 2 (by decide)) (sl_ 3 (by decide)))) (by decide +kernel)) (sl_ 8 (by decide)) (sl_ 9 (by decide)))) (by decide +kernel)) (sl_ 9 (by decide)) (sl_ 10 (by decide)))) (by decide +kernel)) (sl_ 11 (by decide)) (sl_ 12 (by decide))) (by decide +kernel)) (sl_ 12 (by decide)) (sl_ 13 (by decide)))) (by decide +kernel)) (sl_ 14 (by decide)) (sl_ 15 (by decide)))) (by decide +kernel)) (sl_ 16 (by decide)) (sl_ 17 (by decide)))) (by decide +kernel)) (sl_ 21 (by decide)) (sl_ 22 (by decide)))) (by decide +kernel)) (sl_ 24 (by decide)) (sl_ 25 (by decide)))) (by decide +kernel)) (sl_ 27 (by decide)) (sl_ 28 (by decide)))) (by decide +kernel)) (sl_ 29 (by decide)) (sl_ 30 (by decide)))) (by decide +kernel)) (sl_ 41 (by decide)) rfl rfl (by decide) ?_
  refine am_dup (n := 135) d_U_init_134 rfl rfl ?_
  refine am_callI (kc := 50) (ks := 1616) (kc' := 11) (ks' := 336) (As := []) (q := 41) (n := 138) d_U_init_135 rfl ce_Square_init lk_U_80 in_Square_init rfl rfl (Nat.le_of_ble_eq_true rfl) (Or.inr (am_ok_of rfl)) (cc_Square_41 (d := d - 1) (am_rok_clr (am_rok_put (rk_Square_29 (am_rok_clr (am_rok_put (rk_Knowing_27 (am_rok_clr (am_rok_put (rk_Covering_24 (am_rok_clr (am_rok_put (rk_Placings_21 (am_rok_clr (am_rok_put (rk_Rows_16 (am_rok_clr (am_rok_put (rk_Life_14 (am_rok_clr (am_rok_put (rk_Life_12 (am_rok_clr (am_rok_put (am_rok_clr (am_rok_put (rk_DaysReader_9 (am_rok_clr (am_rok_put (rk_SquareReader_8 (am_rok_clr (am_rok_put (rk_Tokens_2 (am_rok_clr (am_rok_put (am_rok_clr hR (sl_ 1 (by decide)) (sl_ 2 (by decide))) (by decide +kernel)) (sl_ 2 (by decide)) (sl_ 3 (by decide)))) (by decide +kernel)) (sl_ 8 (by decide)) (sl_ 9 (by decide)))) (by decide +kernel)) (sl_ 9 (by decide)) (sl_ 10 (by decide)))) (by decide +kernel)) (sl_ 11 (by decide)) (sl_ 12 (by decide))) (by decide +kernel)) (sl_ 12 (by decide)) (sl_ 13 (by decide)))) (by decide +kernel)) (sl_ 14 (by decide)) (sl_ 15 (by decide)))) (by decide +kernel)) (sl_ 16 (by decide)) (sl_ 17 (by decide)))) (by decide +kernel)) (sl_ 21 (by decide)) (sl_ 22 (by decide)))) (by decide +kernel)) (sl_ 24 (by decide)) (sl_ 25 (by decide)))) (by decide +kernel)) (sl_ 27 (by decide)) (sl_ 28 (by decide)))) (by decide +kernel)) (sl_ 29 (by decide)) (sl_ 30 (by decide)))) (by decide +kernel)) (sl_ 41 (by decide)) (sl_ 42 (by decide))) (by omega)) (by omega) ?_
  rintro _ _ ⟨rfl, rfl⟩
  refine am_putR (n := 141) f_U_85 d_U_init_138 rfl ⟨_, rfl, Or.inl rfl⟩ rfl rfl rfl ?_
  refine am_aload_n (n := 142) d_U_init_141 rfl rfl ?_
  refine am_newC (ci := 1) (kc := 49) (ks := 1608) (N := 8) (n := 145) d_U_init_142 rfl rfl rfl cl_U_88 it_Days ini_Days df_Days (am_rok_put (rk_Square_41 (am_rok_clr (am_rok_put (rk_Square_29 (am_rok_clr (am_rok_put (rk_Knowing_27 (am_rok_clr (am_rok_put (rk_Covering_24 (am_rok_clr (am_rok_put (rk_Placings_21 (am_rok_clr (am_rok_put (rk_Rows_16 (am_rok_clr (am_rok_put (rk_Life_14 (am_rok_clr (am_rok_put (rk_Life_12 (am_rok_clr (am_rok_put (am_rok_clr (am_rok_put (rk_DaysReader_9 (am_rok_clr (am_rok_put (rk_SquareReader_8 (am_rok_clr (am_rok_put (rk_Tokens_2 (am_rok_clr (am_rok_put (am_rok_clr hR (sl_ 1 (by decide)) (sl_ 2 (by decide))) (by decide +kernel)) (sl_ 2 (by decide)) (sl_ 3 (by decide)))) (by decide +kernel)) (sl_ 8 (by decide)) (sl_ 9 (by decide)))) (by decide +kernel)) (sl_ 9 (by decide)) (sl_ 10 (by decide)))) (by decide +kernel)) (sl_ 11 (by decide)) (sl_ 12 (by decide))) (by decide +kernel)) (sl_ 12 (by decide)) (sl_ 13 (by decide)))) (by decide +kernel)) (sl_ 14 (by decide)) (sl_ 15 (by decide)))) (by decide +kernel)) (sl_ 16 (by decide)) (sl_ 17 (by decide)))) (by decide +kernel)) (sl_ 21 (by decide)) (sl_ 22 (by decide)))) (by decide +kernel)) (sl_ 24 (by decide)) (sl_ 25 (by decide)))) (by decide +kernel)) (sl_ 27 (by decide)) (sl_ 28 (by decide)))) (by decide +kernel)) (sl_ 29 (by decide)) (sl_ 30 (by decide)))) (by decide +kernel)) (sl_ 41 (by decide)) (sl_ 42 (by decide)))) (by decide +kernel)) (sl_ 53 (by decide)) rfl rfl (by decide) ?_
  refine am_dup (n := 146) d_U_init_145 rfl rfl ?_
  refine am_callI (kc := 44) (ks := 1308) (kc' := 5) (ks' := 300) (As := []) (q := 53) (n := 149) d_U_init_146 rfl ce_Days_init lk_U_90 in_Days_init rfl rfl (Nat.le_of_ble_eq_true rfl) (Or.inr (am_ok_of rfl)) (cc_Days_53 (d := d - 1) (am_rok_clr (am_rok_put (rk_Square_41 (am_rok_clr (am_rok_put (rk_Square_29 (am_rok_clr (am_rok_put (rk_Knowing_27 (am_rok_clr (am_rok_put (rk_Covering_24 (am_rok_clr (am_rok_put (rk_Placings_21 (am_rok_clr (am_rok_put (rk_Rows_16 (am_rok_clr (am_rok_put (rk_Life_14 (am_rok_clr (am_rok_put (rk_Life_12 (am_rok_clr (am_rok_put (am_rok_clr (am_rok_put (rk_DaysReader_9 (am_rok_clr (am_rok_put (rk_SquareReader_8 (am_rok_clr (am_rok_put (rk_Tokens_2 (am_rok_clr (am_rok_put (am_rok_clr hR (sl_ 1 (by decide)) (sl_ 2 (by decide))) (by decide +kernel)) (sl_ 2 (by decide)) (sl_ 3 (by decide)))) (by decide +kernel)) (sl_ 8 (by decide)) (sl_ 9 (by decide)))) (by decide +kernel)) (sl_ 9 (by decide)) (sl_ 10 (by decide)))) (by decide +kernel)) (sl_ 11 (by decide)) (sl_ 12 (by decide))) (by decide +kernel)) (sl_ 12 (by decide)) (sl_ 13 (by decide)))) (by decide +kernel)) (sl_ 14 (by decide)) (sl_ 15 (by decide)))) (by decide +kernel)) (sl_ 16 (by decide)) (sl_ 17 (by decide)))) (by decide +kernel)) (sl_ 21 (by decide)) (sl_ 22 (by decide)))) (by decide +kernel)) (sl_ 24 (by decide)) (sl_ 25 (by decide)))) (by decide +kernel)) (sl_ 27 (by decide)) (sl_ 28 (by decide)))) (by decide +kernel)) (sl_ 29 (by decide)) (sl_ 30 (by decide)))) (by decide +kernel)) (sl_ 41 (by decide)) (sl_ 42 (by decide)))) (by decide +kernel)) (sl_ 53 (by decide)) (sl_ 54 (by decide))) (by omega)) (by omega) ?_
  rintro _ _ ⟨rfl, rfl⟩
  refine am_putR (n := 152) f_U_91 d_U_init_149 rfl ⟨_, rfl, Or.inl rfl⟩ rfl rfl rfl ?_
  refine am_aload_n (n := 153) d_U_init_152 rfl rfl ?_
  refine am_iconst (n := 154) d_U_init_153 ci_0 rfl ?_
  refine am_putI (n := 157) f_U_95 d_U_init_154 rfl ⟨_, rfl, Or.inl rfl⟩ rfl rfl rfl ?_
  refine am_aload_n (n := 158) d_U_init_157 rfl rfl ?_
  refine am_iconst (n := 159) d_U_init_158 ci_0 rfl ?_
  refine am_putI (n := 162) f_U_99 d_U_init_159 rfl ⟨_, rfl, Or.inl rfl⟩ rfl rfl rfl ?_
  refine am_aload_n (n := 163) d_U_init_162 rfl rfl ?_
  refine am_lconst (v := 0) (n := 164) d_U_init_163 rfl rfl ?_
  refine am_putL (n := 167) f_U_102 d_U_init_164 rfl ⟨_, rfl, Or.inl rfl⟩ rfl rfl rfl ?_
  refine am_aload_n (n := 168) d_U_init_167 rfl rfl ?_
  refine am_lconst (v := 1) (n := 169) d_U_init_168 rfl rfl ?_
  refine am_putL (n := 172) f_U_106 d_U_init_169 rfl ⟨_, rfl, Or.inl rfl⟩ rfl rfl rfl ?_
  refine am_iconst (n := 173) d_U_init_172 ci_0 rfl ?_
  refine am_istore_n (ls' := [some (.ref 0), some (.int 0)]) (n := 174) d_U_init_173 (by decide) rfl rfl ?_
  refine am_iload_n (n := 175) d_U_init_174 rfl rfl ?_
  refine am_iconst (n := 176) d_U_init_175 ci_4 rfl ?_
  refine am_icmp_ge (tgt := 198) (n := 179) d_U_init_176 rfl rfl (fun z => absurd z (by decide)) (fun _ => ?_)
  refine am_aload_n (n := 180) d_U_init_179 rfl rfl ?_
  refine am_getR (x := 1) (n := 183) f_U_11 d_U_init_180 rfl rfl rfl (by simp [am_u2, am_clr, cro_Covering_24, cro_DaysReader_9, cro_Days_53, cro_Knowing_27, cro_Life_12, cro_Life_14, cro_Placings_21, cro_Rows_16, cro_SquareReader_8, cro_Square_29, cro_Square_41, cro_Square_67, cro_Square_79, cro_Square_91, cro_Tokens_2, cro_Tray_59, cro_Tray_61, cro_Tray_63, cro_Tray_65]) ?_
  refine am_iload_n (n := 184) d_U_init_183 rfl rfl ?_
  refine am_newC (ci := 10) (kc := 43) (ks := 1305) (N := 3) (n := 187) d_U_init_184 rfl rfl rfl cl_U_9 it_Tray ini_Tray df_Tray (am_rok_put (rk_Days_53 (am_rok_clr (am_rok_put (rk_Square_41 (am_rok_clr (am_rok_put (rk_Square_29 (am_rok_clr (am_rok_put (rk_Knowing_27 (am_rok_clr (am_rok_put (rk_Covering_24 (am_rok_clr (am_rok_put (rk_Placings_21 (am_rok_clr (am_rok_put (rk_Rows_16 (am_rok_clr (am_rok_put (rk_Life_14 (am_rok_clr (am_rok_put (rk_Life_12 (am_rok_clr (am_rok_put (am_rok_clr (am_rok_put (rk_DaysReader_9 (am_rok_clr (am_rok_put (rk_SquareReader_8 (am_rok_clr (am_rok_put (rk_Tokens_2 (am_rok_clr (am_rok_put (am_rok_clr hR (sl_ 1 (by decide)) (sl_ 2 (by decide))) (by decide +kernel)) (sl_ 2 (by decide)) (sl_ 3 (by decide)))) (by decide +kernel)) (sl_ 8 (by decide)) (sl_ 9 (by decide)))) (by decide +kernel)) (sl_ 9 (by decide)) (sl_ 10 (by decide)))) (by decide +kernel)) (sl_ 11 (by decide)) (sl_ 12 (by decide))) (by decide +kernel)) (sl_ 12 (by decide)) (sl_ 13 (by decide)))) (by decide +kernel)) (sl_ 14 (by decide)) (sl_ 15 (by decide)))) (by decide +kernel)) (sl_ 16 (by decide)) (sl_ 17 (by decide)))) (by decide +kernel)) (sl_ 21 (by decide)) (sl_ 22 (by decide)))) (by decide +kernel)) (sl_ 24 (by decide)) (sl_ 25 (by decide)))) (by decide +kernel)) (sl_ 27 (by decide)) (sl_ 28 (by decide)))) (by decide +kernel)) (sl_ 29 (by decide)) (sl_ 30 (by decide)))) (by decide +kernel)) (sl_ 41 (by decide)) (sl_ 42 (by decide)))) (by decide +kernel)) (sl_ 53 (by decide)) (sl_ 54 (by decide)))) (by decide +kernel)) (sl_ 59 (by decide)) rfl rfl (by decide) ?_
  refine am_dup (n := 188) d_U_init_187 rfl rfl ?_
  refine am_callI (kc := 42) (ks := 1245) (kc' := 1) (ks' := 60) (As := []) (q := 59) (n := 191) d_U_init_188 rfl ce_Tray_init lk_U_109 in_Tray_init rfl rfl (Nat.le_of_ble_eq_true rfl) (Or.inr (am_ok_of rfl)) (cc_Tray_59 (d := d - 1) (am_rok_clr (am_rok_put (rk_Days_53 (am_rok_clr (am_rok_put (rk_Square_41 (am_rok_clr (am_rok_put (rk_Square_29 (am_rok_clr (am_rok_put (rk_Knowing_27 (am_rok_clr (am_rok_put (rk_Covering_24 (am_rok_clr (am_rok_put (rk_Placings_21 (am_rok_clr (am_rok_put (rk_Rows_16 (am_rok_clr (am_rok_put (rk_Life_14 (am_rok_clr (am_rok_put (rk_Life_12 (am_rok_clr (am_rok_put (am_rok_clr (am_rok_put (rk_DaysReader_9 (am_rok_clr (am_rok_put (rk_SquareReader_8 (am_rok_clr (am_rok_put (rk_Tokens_2 (am_rok_clr (am_rok_put (am_rok_clr hR (sl_ 1 (by decide)) (sl_ 2 (by decide))) (by decide +kernel)) (sl_ 2 (by decide)) (sl_ 3 (by decide)))) (by decide +kernel)) (sl_ 8 (by decide)) (sl_ 9 (by decide)))) (by decide +kernel)) (sl_ 9 (by decide)) (sl_ 10 (by decide)))) (by decide +kernel)) (sl_ 11 (by decide)) (sl_ 12 (by decide))) (by decide +kernel)) (sl_ 12 (by decide)) (sl_ 13 (by decide)))) (by decide +kernel)) (sl_ 14 (by decide)) (sl_ 15 (by decide)))) (by decide +kernel)) (sl_ 16 (by decide)) (sl_ 17 (by decide)))) (by decide +kernel)) (sl_ 21 (by decide)) (sl_ 22 (by decide)))) (by decide +kernel)) (sl_ 24 (by decide)) (sl_ 25 (by decide)))) (by decide +kernel)) (sl_ 27 (by decide)) (sl_ 28 (by decide)))) (by decide +kernel)) (sl_ 29 (by decide)) (sl_ 30 (by decide)))) (by decide +kernel)) (sl_ 41 (by decide)) (sl_ 42 (by decide)))) (by decide +kernel)) (sl_ 53 (by decide)) (sl_ 54 (by decide)))) (by decide +kernel)) (sl_ 59 (by decide)) (sl_ 60 (by decide))) (by omega)) (by omega) ?_
  rintro _ _ ⟨rfl, rfl⟩
  refine am_aastC4 (j := 0) (n := 192) d_U_init_191 rfl rfl rfl (am_in_c (by decide +kernel)) (by decide +kernel) ?_
  refine am_iinc (v := 1) (ls' := [some (.ref 0), some (.int 1)]) (n := 195) d_U_init_192 rfl (by decide) (by decide) rfl rfl ?_
  refine am_goto (tgt := 174) d_U_init_195 rfl ?_
  refine am_iload_n (n := 175) d_U_init_174 rfl rfl ?_
  refine am_iconst (n := 176) d_U_init_175 ci_4 rfl ?_
  refine am_icmp_ge (tgt := 198) (n := 179) d_U_init_176 rfl rfl (fun z => absurd z (by decide)) (fun _ => ?_)
  refine am_aload_n (n := 180) d_U_init_179 rfl rfl ?_
  refine am_getR (x := 1) (n := 183) f_U_11 d_U_init_180 rfl rfl rfl (by simp [am_u2, am_clr, cro_Covering_24, cro_DaysReader_9, cro_Days_53, cro_Knowing_27, cro_Life_12, cro_Life_14, cro_Placings_21, cro_Rows_16, cro_SquareReader_8, cro_Square_29, cro_Square_41, cro_Square_67, cro_Square_79, cro_Square_91, cro_Tokens_2, cro_Tray_59, cro_Tray_61, cro_Tray_63, cro_Tray_65]) ?_
  refine am_iload_n (n := 184) d_U_init_183 rfl rfl ?_
  refine am_newC (ci := 10) (kc := 41) (ks := 1242) (N := 3) (n := 187) d_U_init_184 rfl rfl rfl cl_U_9 it_Tray ini_Tray df_Tray (am_rok_put (rk_Tray_59 (am_rok_clr (am_rok_put (rk_Days_53 (am_rok_clr (am_rok_put (rk_Square_41 (am_rok_clr (am_rok_put (rk_Square_29 (am_rok_clr (am_rok_put (rk_Knowing_27 (am_rok_clr (am_rok_put (rk_Covering_24 (am_rok_clr (am_rok_put (rk_Placings_21 (am_rok_clr (am_rok_put (rk_Rows_16 (am_rok_clr (am_rok_put (rk_Life_14 (am_rok_clr (am_rok_put (rk_Life_12 (am_rok_clr (am_rok_put (am_rok_clr (am_rok_put (rk_DaysReader_9 (am_rok_clr (am_rok_put (rk_SquareReader_8 (am_rok_clr (am_rok_put (rk_Tokens_2 (am_rok_clr (am_rok_put (am_rok_clr hR (sl_ 1 (by decide)) (sl_ 2 (by decide))) (by decide +kernel)) (sl_ 2 (by decide)) (sl_ 3 (by decide)))) (by decide +kernel)) (sl_ 8 (by decide)) (sl_ 9 (by decide)))) (by decide +kernel)) (sl_ 9 (by decide)) (sl_ 10 (by decide)))) (by decide +kernel)) (sl_ 11 (by decide)) (sl_ 12 (by decide))) (by decide +kernel)) (sl_ 12 (by decide)) (sl_ 13 (by decide)))) (by decide +kernel)) (sl_ 14 (by decide)) (sl_ 15 (by decide)))) (by decide +kernel)) (sl_ 16 (by decide)) (sl_ 17 (by decide)))) (by decide +kernel)) (sl_ 21 (by decide)) (sl_ 22 (by decide)))) (by decide +kernel)) (sl_ 24 (by decide)) (sl_ 25 (by decide)))) (by decide +kernel)) (sl_ 27 (by decide)) (sl_ 28 (by decide)))) (by decide +kernel)) (sl_ 29 (by decide)) (sl_ 30 (by decide)))) (by decide +kernel)) (sl_ 41 (by decide)) (sl_ 42 (by decide)))) (by decide +kernel)) (sl_ 53 (by decide)) (sl_ 54 (by decide)))) (by decide +kernel)) (sl_ 59 (by decide)) (sl_ 60 (by decide)))) (by decide +kernel)) (sl_ 61 (by decide)) rfl rfl (by decide) ?_
  refine am_dup (n := 188) d_U_init_187 rfl rfl ?_
  refine am_callI (kc := 40) (ks := 1182) (kc' := 1) (ks' := 60) (As := []) (q := 61) (n := 191) d_U_init_188 rfl ce_Tray_init lk_U_109 in_Tray_init rfl rfl (Nat.le_of_ble_eq_true rfl) (Or.inr (am_ok_of rfl)) (cc_Tray_61 (d := d - 1) (am_rok_clr (am_rok_put (rk_Tray_59 (am_rok_clr (am_rok_put (rk_Days_53 (am_rok_clr (am_rok_put (rk_Square_41 (am_rok_clr (am_rok_put (rk_Square_29 (am_rok_clr (am_rok_put (rk_Knowing_27 (am_rok_clr (am_rok_put (rk_Covering_24 (am_rok_clr (am_rok_put (rk_Placings_21 (am_rok_clr (am_rok_put (rk_Rows_16 (am_rok_clr (am_rok_put (rk_Life_14 (am_rok_clr (am_rok_put (rk_Life_12 (am_rok_clr (am_rok_put (am_rok_clr (am_rok_put (rk_DaysReader_9 (am_rok_clr (am_rok_put (rk_SquareReader_8 (am_rok_clr (am_rok_put (rk_Tokens_2 (am_rok_clr (am_rok_put (am_rok_clr hR (sl_ 1 (by decide)) (sl_ 2 (by decide))) (by decide +kernel)) (sl_ 2 (by decide)) (sl_ 3 (by decide)))) (by decide +kernel)) (sl_ 8 (by decide)) (sl_ 9 (by decide)))) (by decide +kernel)) (sl_ 9 (by decide)) (sl_ 10 (by decide)))) (by decide +kernel)) (sl_ 11 (by decide)) (sl_ 12 (by decide))) (by decide +kernel)) (sl_ 12 (by decide)) (sl_ 13 (by decide)))) (by decide +kernel)) (sl_ 14 (by decide)) (sl_ 15 (by decide)))) (by decide +kernel)) (sl_ 16 (by decide)) (sl_ 17 (by decide)))) (by decide +kernel)) (sl_ 21 (by decide)) (sl_ 22 (by decide)))) (by decide +kernel)) (sl_ 24 (by decide)) (sl_ 25 (by decide)))) (by decide +kernel)) (sl_ 27 (by decide)) (sl_ 28 (by decide)))) (by decide +kernel)) (sl_ 29 (by decide)) (sl_ 30 (by decide)))) (by decide +kernel)) (sl_ 41 (by decide)) (sl_ 42 (by decide)))) (by decide +kernel)) (sl_ 53 (by decide)) (sl_ 54 (by decide)))) (by decide +kernel)) (sl_ 59 (by decide)) (sl_ 60 (by decide)))) (by decide +kernel)) (sl_ 61 (by decide)) (sl_ 62 (by decide))) (by omega)) (by omega) ?_
  rintro _ _ ⟨rfl, rfl⟩
  refine am_aastC4 (j := 1) (n := 192) d_U_init_191 rfl rfl rfl (am_in_c (by decide +kernel)) (by decide +kernel) ?_
  refine am_iinc (v := 2) (ls' := [some (.ref 0), some (.int 2)]) (n := 195) d_U_init_192 rfl (by decide) (by decide) rfl rfl ?_
  refine am_goto (tgt := 174) d_U_init_195 rfl ?_
  refine am_iload_n (n := 175) d_U_init_174 rfl rfl ?_
  refine am_iconst (n := 176) d_U_init_175 ci_4 rfl ?_
  refine am_icmp_ge (tgt := 198) (n := 179) d_U_init_176 rfl rfl (fun z => absurd z (by decide)) (fun _ => ?_)
  refine am_aload_n (n := 180) d_U_init_179 rfl rfl ?_
  refine am_getR (x := 1) (n := 183) f_U_11 d_U_init_180 rfl rfl rfl (by simp [am_u2, am_clr, cro_Covering_24, cro_DaysReader_9, cro_Days_53, cro_Knowing_27, cro_Life_12, cro_Life_14, cro_Placings_21, cro_Rows_16, cro_SquareReader_8, cro_Square_29, cro_Square_41, cro_Square_67, cro_Square_79, cro_Square_91, cro_Tokens_2, cro_Tray_59, cro_Tray_61, cro_Tray_63, cro_Tray_65]) ?_
  refine am_iload_n (n := 184) d_U_init_183 rfl rfl ?_
  refine am_newC (ci := 10) (kc := 39) (ks := 1179) (N := 3) (n := 187) d_U_init_184 rfl rfl rfl cl_U_9 it_Tray ini_Tray df_Tray (am_rok_put (rk_Tray_61 (am_rok_clr (am_rok_put (rk_Tray_59 (am_rok_clr (am_rok_put (rk_Days_53 (am_rok_clr (am_rok_put (rk_Square_41 (am_rok_clr (am_rok_put (rk_Square_29 (am_rok_clr (am_rok_put (rk_Knowing_27 (am_rok_clr (am_rok_put (rk_Covering_24 (am_rok_clr (am_rok_put (rk_Placings_21 (am_rok_clr (am_rok_put (rk_Rows_16 (am_rok_clr (am_rok_put (rk_Life_14 (am_rok_clr (am_rok_put (rk_Life_12 (am_rok_clr (am_rok_put (am_rok_clr (am_rok_put (rk_DaysReader_9 (am_rok_clr (am_rok_put (rk_SquareReader_8 (am_rok_clr (am_rok_put (rk_Tokens_2 (am_rok_clr (am_rok_put (am_rok_clr hR (sl_ 1 (by decide)) (sl_ 2 (by decide))) (by decide +kernel)) (sl_ 2 (by decide)) (sl_ 3 (by decide)))) (by decide +kernel)) (sl_ 8 (by decide)) (sl_ 9 (by decide)))) (by decide +kernel)) (sl_ 9 (by decide)) (sl_ 10 (by decide)))) (by decide +kernel)) (sl_ 11 (by decide)) (sl_ 12 (by decide))) (by decide +kernel)) (sl_ 12 (by decide)) (sl_ 13 (by decide)))) (by decide +kernel)) (sl_ 14 (by decide)) (sl_ 15 (by decide)))) (by decide +kernel)) (sl_ 16 (by decide)) (sl_ 17 (by decide)))) (by decide +kernel)) (sl_ 21 (by decide)) (sl_ 22 (by decide)))) (by decide +kernel)) (sl_ 24 (by decide)) (sl_ 25 (by decide)))) (by decide +kernel)) (sl_ 27 (by decide)) (sl_ 28 (by decide)))) (by decide +kernel)) (sl_ 29 (by decide)) (sl_ 30 (by decide)))) (by decide +kernel)) (sl_ 41 (by decide)) (sl_ 42 (by decide)))) (by decide +kernel)) (sl_ 53 (by decide)) (sl_ 54 (by decide)))) (by decide +kernel)) (sl_ 59 (by decide)) (sl_ 60 (by decide)))) (by decide +kernel)) (sl_ 61 (by decide)) (sl_ 62 (by decide)))) (by decide +kernel)) (sl_ 63 (by decide)) rfl rfl (by decide) ?_
  refine am_dup (n := 188) d_U_init_187 rfl rfl ?_
  refine am_callI (kc := 38) (ks := 1119) (kc' := 1) (ks' := 60) (As := []) (q := 63) (n := 191) d_U_init_188 rfl ce_Tray_init lk_U_109 in_Tray_init rfl rfl (Nat.le_of_ble_eq_true rfl) (Or.inr (am_ok_of rfl)) (cc_Tray_63 (d := d - 1) (am_rok_clr (am_rok_put (rk_Tray_61 (am_rok_clr (am_rok_put (rk_Tray_59 (am_rok_clr (am_rok_put (rk_Days_53 (am_rok_clr (am_rok_put (rk_Square_41 (am_rok_clr (am_rok_put (rk_Square_29 (am_rok_clr (am_rok_put (rk_Knowing_27 (am_rok_clr (am_rok_put (rk_Covering_24 (am_rok_clr (am_rok_put (rk_Placings_21 (am_rok_clr (am_rok_put (rk_Rows_16 (am_rok_clr (am_rok_put (rk_Life_14 (am_rok_clr (am_rok_put (rk_Life_12 (am_rok_clr (am_rok_put (am_rok_clr (am_rok_put (rk_DaysReader_9 (am_rok_clr (am_rok_put (rk_SquareReader_8 (am_rok_clr (am_rok_put (rk_Tokens_2 (am_rok_clr (am_rok_put (am_rok_clr hR (sl_ 1 (by decide)) (sl_ 2 (by decide))) (by decide +kernel)) (sl_ 2 (by decide)) (sl_ 3 (by decide)))) (by decide +kernel)) (sl_ 8 (by decide)) (sl_ 9 (by decide)))) (by decide +kernel)) (sl_ 9 (by decide)) (sl_ 10 (by decide)))) (by decide +kernel)) (sl_ 11 (by decide)) (sl_ 12 (by decide))) (by decide +kernel)) (sl_ 12 (by decide)) (sl_ 13 (by decide)))) (by decide +kernel)) (sl_ 14 (by decide)) (sl_ 15 (by decide)))) (by decide +kernel)) (sl_ 16 (by decide)) (sl_ 17 (by decide)))) (by decide +kernel)) (sl_ 21 (by decide)) (sl_ 22 (by decide)))) (by decide +kernel)) (sl_ 24 (by decide)) (sl_ 25 (by decide)))) (by decide +kernel)) (sl_ 27 (by decide)) (sl_ 28 (by decide)))) (by decide +kernel)) (sl_ 29 (by decide)) (sl_ 30 (by decide)))) (by decide +kernel)) (sl_ 41 (by decide)) (sl_ 42 (by decide)))) (by decide +kernel)) (sl_ 53 (by decide)) (sl_ 54 (by decide)))) (by decide +kernel)) (sl_ 59 (by decide)) (sl_ 60 (by decide)))) (by decide +kernel)) (sl_ 61 (by decide)) (sl_ 62 (by decide)))) (by decide +kernel)) (sl_ 63 (by decide)) (sl_ 64 (by decide))) (by omega)) (by omega) ?_
  rintro _ _ ⟨rfl, rfl⟩
  refine am_aastC4 (j := 2) (n := 192) d_U_init_191 rfl rfl rfl (am_in_c (by decide +kernel)) (by decide +kernel) ?_
  refine am_iinc (v := 3) (ls' := [some (.ref 0), some (.int 3)]) (n := 195) d_U_init_192 rfl (by decide) (by decide) rfl rfl ?_
  refine am_goto (tgt := 174) d_U_init_195 rfl ?_
  refine am_iload_n (n := 175) d_U_init_174 rfl rfl ?_
  refine am_iconst (n := 176) d_U_init_175 ci_4 rfl ?_
  refine am_icmp_ge (tgt := 198) (n := 179) d_U_init_176 rfl rfl (fun z => absurd z (by decide)) (fun _ => ?_)
  refine am_aload_n (n := 180) d_U_init_179 rfl rfl ?_
  refine am_getR (x := 1) (n := 183) f_U_11 d_U_init_180 rfl rfl rfl (by simp [am_u2, am_clr, cro_Covering_24, cro_DaysReader_9, cro_Days_53, cro_Knowing_27, cro_Life_12, cro_Life_14, cro_Placings_21, cro_Rows_16, cro_SquareReader_8, cro_Square_29, cro_Square_41, cro_Square_67, cro_Square_79, cro_Square_91, cro_Tokens_2, cro_Tray_59, cro_Tray_61, cro_Tray_63, cro_Tray_65]) ?_
  refine am_iload_n (n := 184) d_U_init_183 rfl rfl ?_
  refine am_newC (ci := 10) (kc := 37) (ks := 1116) (N := 3) (n := 187) d_U_init_184 rfl rfl rfl cl_U_9 it_Tray ini_Tray df_Tray (am_rok_put (rk_Tray_63 (am_rok_clr (am_rok_put (rk_Tray_61 (am_rok_clr (am_rok_put (rk_Tray_59 (am_rok_clr (am_rok_put (rk_Days_53 (am_rok_clr (am_rok_put (rk_Square_41 (am_rok_clr (am_rok_put (rk_Square_29 (am_rok_clr (am_rok_put (rk_Knowing_27 (am_rok_clr (am_rok_put (rk_Covering_24 (am_rok_clr (am_rok_put (rk_Placings_21 (am_rok_clr (am_rok_put (rk_Rows_16 (am_rok_clr (am_rok_put (rk_Life_14 (am_rok_clr (am_rok_put (rk_Life_12 (am_rok_clr (am_rok_put (am_rok_clr (am_rok_put (rk_DaysReader_9 (am_rok_clr (am_rok_put (rk_SquareReader_8 (am_rok_clr (am_rok_put (rk_Tokens_2 (am_rok_clr (am_rok_put (am_rok_clr hR (sl_ 1 (by decide)) (sl_ 2 (by decide))) (by decide +kernel)) (sl_ 2 (by decide)) (sl_ 3 (by decide)))) (by decide +kernel)) (sl_ 8 (by decide)) (sl_ 9 (by decide)))) (by decide +kernel)) (sl_ 9 (by decide)) (sl_ 10 (by decide)))) (by decide +kernel)) (sl_ 11 (by decide)) (sl_ 12 (by decide))) (by decide +kernel)) (sl_ 12 (by decide)) (sl_ 13 (by decide)))) (by decide +kernel)) (sl_ 14 (by decide)) (sl_ 15 (by decide)))) (by decide +kernel)) (sl_ 16 (by decide)) (sl_ 17 (by decide)))) (by decide +kernel)) (sl_ 21 (by decide)) (sl_ 22 (by decide)))) (by decide +kernel)) (sl_ 24 (by decide)) (sl_ 25 (by decide)))) (by decide +kernel)) (sl_ 27 (by decide)) (sl_ 28 (by decide)))) (by decide +kernel)) (sl_ 29 (by decide)) (sl_ 30 (by decide)))) (by decide +kernel)) (sl_ 41 (by decide)) (sl_ 42 (by decide)))) (by decide +kernel)) (sl_ 53 (by decide)) (sl_ 54 (by decide)))) (by decide +kernel)) (sl_ 59 (by decide)) (sl_ 60 (by decide)))) (by decide +kernel)) (sl_ 61 (by decide)) (sl_ 62 (by decide)))) (by decide +kernel)) (sl_ 63 (by decide)) (sl_ 64 (by decide)))) (by decide +kernel)) (sl_ 65 (by decide)) rfl rfl (by decide) ?_
  refine am_dup (n := 188) d_U_init_187 rfl rfl ?_
  refine am_callI (kc := 36) (ks := 1056) (kc' := 1) (ks' := 60) (As := []) (q := 65) (n := 191) d_U_init_188 rfl ce_Tray_init lk_U_109 in_Tray_init rfl rfl (Nat.le_of_ble_eq_true rfl) (Or.inr (am_ok_of rfl)) (cc_Tray_65 (d := d - 1) (am_rok_clr (am_rok_put (rk_Tray_63 (am_rok_clr (am_rok_put (rk_Tray_61 (am_rok_clr (am_rok_put (rk_Tray_59 (am_rok_clr (am_rok_put (rk_Days_53 (am_rok_clr (am_rok_put (rk_Square_41 (am_rok_clr (am_rok_put (rk_Square_29 (am_rok_clr (am_rok_put (rk_Knowing_27 (am_rok_clr (am_rok_put (rk_Covering_24 (am_rok_clr (am_rok_put (rk_Placings_21 (am_rok_clr (am_rok_put (rk_Rows_16 (am_rok_clr (am_rok_put (rk_Life_14 (am_rok_clr (am_rok_put (rk_Life_12 (am_rok_clr (am_rok_put (am_rok_clr (am_rok_put (rk_DaysReader_9 (am_rok_clr (am_rok_put (rk_SquareReader_8 (am_rok_clr (am_rok_put (rk_Tokens_2 (am_rok_clr (am_rok_put (am_rok_clr hR (sl_ 1 (by decide)) (sl_ 2 (by decide))) (by decide +kernel)) (sl_ 2 (by decide)) (sl_ 3 (by decide)))) (by decide +kernel)) (sl_ 8 (by decide)) (sl_ 9 (by decide)))) (by decide +kernel)) (sl_ 9 (by decide)) (sl_ 10 (by decide)))) (by decide +kernel)) (sl_ 11 (by decide)) (sl_ 12 (by decide))) (by decide +kernel)) (sl_ 12 (by decide)) (sl_ 13 (by decide)))) (by decide +kernel)) (sl_ 14 (by decide)) (sl_ 15 (by decide)))) (by decide +kernel)) (sl_ 16 (by decide)) (sl_ 17 (by decide)))) (by decide +kernel)) (sl_ 21 (by decide)) (sl_ 22 (by decide)))) (by decide +kernel)) (sl_ 24 (by decide)) (sl_ 25 (by decide)))) (by decide +kernel)) (sl_ 27 (by decide)) (sl_ 28 (by decide)))) (by decide +kernel)) (sl_ 29 (by decide)) (sl_ 30 (by decide)))) (by decide +kernel)) (sl_ 41 (by decide)) (sl_ 42 (by decide)))) (by decide +kernel)) (sl_ 53 (by decide)) (sl_ 54 (by decide)))) (by decide +kernel)) (sl_ 59 (by decide)) (sl_ 60 (by decide)))) (by decide +kernel)) (sl_ 61 (by decide)) (sl_ 62 (by decide)))) (by decide +kernel)) (sl_ 63 (by decide)) (sl_ 64 (by decide)))) (by decide +kernel)) (sl_ 65 (by decide)) (sl_ 66 (by decide))) (by omega)) (by omega) ?_
  rintro _ _ ⟨rfl, rfl⟩
  refine am_aastC4 (j := 3) (n := 192) d_U_init_191 rfl rfl rfl (am_in_c (by decide +kernel)) (by decide +kernel) ?_
  refine am_iinc (v := 4) (ls' := [some (.ref 0), some (.int 4)]) (n := 195) d_U_init_192 rfl (by decide) (by decide) rfl rfl ?_
  refine am_goto (tgt := 174) d_U_init_195 rfl ?_
  refine am_iload_n (n := 175) d_U_init_174 rfl rfl ?_
  refine am_iconst (n := 176) d_U_init_175 ci_4 rfl ?_
  refine am_icmp_ge (tgt := 198) (n := 179) d_U_init_176 rfl rfl (fun _ => ?_) (fun z => absurd (by decide) z)
  refine am_iconst (n := 199) d_U_init_198 ci_0 rfl ?_
  refine am_istore_n (ls' := [some (.ref 0), some (.int 0)]) (n := 200) d_U_init_199 (by decide) rfl rfl ?_
  refine am_iload_n (n := 201) d_U_init_200 rfl rfl ?_
  refine am_iconst (n := 202) d_U_init_201 ci_3 rfl ?_
  refine am_icmp_ge (tgt := 224) (n := 205) d_U_init_202 rfl rfl (fun z => absurd z (by decide)) (fun _ => ?_)
  refine am_aload_n (n := 206) d_U_init_205 rfl rfl ?_
  refine am_getR (x := 11) (n := 209) f_U_38 d_U_init_206 rfl rfl rfl (by simp [am_u2, am_clr, cro_Covering_24, cro_DaysReader_9, cro_Days_53, cro_Knowing_27, cro_Life_12, cro_Life_14, cro_Placings_21, cro_Rows_16, cro_SquareReader_8, cro_Square_29, cro_Square_41, cro_Square_67, cro_Square_79, cro_Square_91, cro_Tokens_2, cro_Tray_59, cro_Tray_61, cro_Tray_63, cro_Tray_65]) ?_
  refine am_iload_n (n := 210) d_U_init_209 rfl rfl ?_
  refine am_newC (ci := 7) (kc := 35) (ks := 1040) (N := 16) (n := 213) d_U_init_210 rfl rfl rfl cl_U_36 it_Square ini_Square df_Square (am_rok_put (rk_Tray_65 (am_rok_clr (am_rok_put (rk_Tray_63 (am_rok_clr (am_rok_put (rk_Tray_61 (am_rok_clr (am_rok_put (rk_Tray_59 (am_rok_clr (am_rok_put (rk_Days_53 (am_rok_clr (am_rok_put (rk_Square_41 (am_rok_clr (am_rok_put (rk_Square_29 (am_rok_clr (am_rok_put (rk_Knowing_27 (am_rok_clr (am_rok_put (rk_Covering_24 (am_rok_clr (am_rok_put (rk_Placings_21 (am_rok_clr (am_rok_put (rk_Rows_16 (am_rok_clr (am_rok_put (rk_Life_14 (am_rok_clr (am_rok_put (rk_Life_12 (am_rok_clr (am_rok_put (am_rok_clr (am_rok_put (rk_DaysReader_9 (am_rok_clr (am_rok_put (rk_SquareReader_8 (am_rok_clr (am_rok_put (rk_Tokens_2 (am_rok_clr (am_rok_put (am_rok_clr hR (sl_ 1 (by decide)) (sl_ 2 (by decide))) (by decide +kernel)) (sl_ 2 (by decide)) (sl_ 3 (by decide)))) (by decide +kernel)) (sl_ 8 (by decide)) (sl_ 9 (by decide)))) (by decide +kernel)) (sl_ 9 (by decide)) (sl_ 10 (by decide)))) (by decide +kernel)) (sl_ 11 (by decide)) (sl_ 12 (by decide))) (by decide +kernel)) (sl_ 12 (by decide)) (sl_ 13 (by decide)))) (by decide +kernel)) (sl_ 14 (by decide)) (sl_ 15 (by decide)))) (by decide +kernel)) (sl_ 16 (by decide)) (sl_ 17 (by decide)))) (by decide +kernel)) (sl_ 21 (by decide)) (sl_ 22 (by decide)))) (by decide +kernel)) (sl_ 24 (by decide)) (sl_ 25 (by decide)))) (by decide +kernel)) (sl_ 27 (by decide)) (sl_ 28 (by decide)))) (by decide +kernel)) (sl_ 29 (by decide)) (sl_ 30 (by decide)))) (by decide +kernel)) (sl_ 41 (by decide)) (sl_ 42 (by decide)))) (by decide +kernel)) (sl_ 53 (by decide)) (sl_ 54 (by decide)))) (by decide +kernel)) (sl_ 59 (by decide)) (sl_ 60 (by decide)))) (by decide +kernel)) (sl_ 61 (by decide)) (sl_ 62 (by decide)))) (by decide +kernel)) (sl_ 63 (by decide)) (sl_ 64 (by decide)))) (by decide +kernel)) (sl_ 65 (by decide)) (sl_ 66 (by decide)))) (by decide +kernel)) (sl_ 67 (by decide)) rfl rfl (by decide) ?_
  refine am_dup (n := 214) d_U_init_213 rfl rfl ?_
  refine am_callI (kc := 24) (ks := 704) (kc' := 11) (ks' := 336) (As := []) (q := 67) (n := 217) d_U_init_214 rfl ce_Square_init lk_U_80 in_Square_init rfl rfl (Nat.le_of_ble_eq_true rfl) (Or.inr (am_ok_of rfl)) (cc_Square_67 (d := d - 1) (am_rok_clr (am_rok_put (rk_Tray_65 (am_rok_clr (am_rok_put (rk_Tray_63 (am_rok_clr (am_rok_put (rk_Tray_61 (am_rok_clr (am_rok_put (rk_Tray_59 (am_rok_clr (am_rok_put (rk_Days_53 (am_rok_clr (am_rok_put (rk_Square_41 (am_rok_clr (am_rok_put (rk_Square_29 (am_rok_clr (am_rok_put (rk_Knowing_27 (am_rok_clr (am_rok_put (rk_Covering_24 (am_rok_clr (am_rok_put (rk_Placings_21 (am_rok_clr (am_rok_put (rk_Rows_16 (am_rok_clr (am_rok_put (rk_Life_14 (am_rok_clr (am_rok_put (rk_Life_12 (am_rok_clr (am_rok_put (am_rok_clr (am_rok_put (rk_DaysReader_9 (am_rok_clr (am_rok_put (rk_SquareReader_8 (am_rok_clr (am_rok_put (rk_Tokens_2 (am_rok_clr (am_rok_put (am_rok_clr hR (sl_ 1 (by decide)) (sl_ 2 (by decide))) (by decide +kernel)) (sl_ 2 (by decide)) (sl_ 3 (by decide)))) (by decide +kernel)) (sl_ 8 (by decide)) (sl_ 9 (by decide)))) (by decide +kernel)) (sl_ 9 (by decide)) (sl_ 10 (by decide)))) (by decide +kernel)) (sl_ 11 (by decide)) (sl_ 12 (by decide))) (by decide +kernel)) (sl_ 12 (by decide)) (sl_ 13 (by decide)))) (by decide +kernel)) (sl_ 14 (by decide)) (sl_ 15 (by decide)))) (by decide +kernel)) (sl_ 16 (by decide)) (sl_ 17 (by decide)))) (by decide +kernel)) (sl_ 21 (by decide)) (sl_ 22 (by decide)))) (by decide +kernel)) (sl_ 24 (by decide)) (sl_ 25 (by decide)))) (by decide +kernel)) (sl_ 27 (by decide)) (sl_ 28 (by decide)))) (by decide +kernel)) (sl_ 29 (by decide)) (sl_ 30 (by decide)))) (by decide +kernel)) (sl_ 41 (by decide)) (sl_ 42 (by decide)))) (by decide +kernel)) (sl_ 53 (by decide)) (sl_ 54 (by decide)))) (by decide +kernel)) (sl_ 59 (by decide)) (sl_ 60 (by decide)))) (by decide +kernel)) (sl_ 61 (by decide)) (sl_ 62 (by decide)))) (by decide +kernel)) (sl_ 63 (by decide)) (sl_ 64 (by decide)))) (by decide +kernel)) (sl_ 65 (by decide)) (sl_ 66 (by decide)))) (by decide +kernel)) (sl_ 67 (by decide)) (sl_ 68 (by decide))) (by omega)) (by omega) ?_
  rintro _ _ ⟨rfl, rfl⟩
  refine am_aastC5 (j := 0) (n := 218) d_U_init_217 rfl rfl rfl (am_in_c (by decide +kernel)) (by decide +kernel) ?_
  refine am_iinc (v := 1) (ls' := [some (.ref 0), some (.int 1)]) (n := 221) d_U_init_218 rfl (by decide) (by decide) rfl rfl ?_
  refine am_goto (tgt := 200) d_U_init_221 rfl ?_
  refine am_iload_n (n := 201) d_U_init_200 rfl rfl ?_
  refine am_iconst (n := 202) d_U_init_201 ci_3 rfl ?_
  refine am_icmp_ge (tgt := 224) (n := 205) d_U_init_202 rfl rfl (fun z => absurd z (by decide)) (fun _ => ?_)
  refine am_aload_n (n := 206) d_U_init_205 rfl rfl ?_
  refine am_getR (x := 11) (n := 209) f_U_38 d_U_init_206 rfl rfl rfl (by simp [am_u2, am_clr, cro_Covering_24, cro_DaysReader_9, cro_Days_53, cro_Knowing_27, cro_Life_12, cro_Life_14, cro_Placings_21, cro_Rows_16, cro_SquareReader_8, cro_Square_29, cro_Square_41, cro_Square_67, cro_Square_79, cro_Square_91, cro_Tokens_2, cro_Tray_59, cro_Tray_61, cro_Tray_63, cro_Tray_65]) ?_
  refine am_iload_n (n := 210) d_U_init_209 rfl rfl ?_
  refine am_newC (ci := 7) (kc := 23) (ks := 688) (N := 16) (n := 213) d_U_init_210 rfl rfl rfl cl_U_36 it_Square ini_Square df_Square (am_rok_put (rk_Square_67 (am_rok_clr (am_rok_put (rk_Tray_65 (am_rok_clr (am_rok_put (rk_Tray_63 (am_rok_clr (am_rok_put (rk_Tray_61 (am_rok_clr (am_rok_put (rk_Tray_59 (am_rok_clr (am_rok_put (rk_Days_53 (am_rok_clr (am_rok_put (rk_Square_41 (am_rok_clr (am_rok_put (rk_Square_29 (am_rok_clr (am_rok_put (rk_Knowing_27 (am_rok_clr (am_rok_put (rk_Covering_24 (am_rok_clr (am_rok_put (rk_Placings_21 (am_rok_clr (am_rok_put (rk_Rows_16 (am_rok_clr (am_rok_put (rk_Life_14 (am_rok_clr (am_rok_put (rk_Life_12 (am_rok_clr (am_rok_put (am_rok_clr (am_rok_put (rk_DaysReader_9 (am_rok_clr (am_rok_put (rk_SquareReader_8 (am_rok_clr (am_rok_put (rk_Tokens_2 (am_rok_clr (am_rok_put (am_rok_clr hR (sl_ 1 (by decide)) (sl_ 2 (by decide))) (by decide +kernel)) (sl_ 2 (by decide)) (sl_ 3 (by decide)))) (by decide +kernel)) (sl_ 8 (by decide)) (sl_ 9 (by decide)))) (by decide +kernel)) (sl_ 9 (by decide)) (sl_ 10 (by decide)))) (by decide +kernel)) (sl_ 11 (by decide)) (sl_ 12 (by decide))) (by decide +kernel)) (sl_ 12 (by decide)) (sl_ 13 (by decide)))) (by decide +kernel)) (sl_ 14 (by decide)) (sl_ 15 (by decide)))) (by decide +kernel)) (sl_ 16 (by decide)) (sl_ 17 (by decide)))) (by decide +kernel)) (sl_ 21 (by decide)) (sl_ 22 (by decide)))) (by decide +kernel)) (sl_ 24 (by decide)) (sl_ 25 (by decide)))) (by decide +kernel)) (sl_ 27 (by decide)) (sl_ 28 (by decide)))) (by decide +kernel)) (sl_ 29 (by decide)) (sl_ 30 (by decide)))) (by decide +kernel)) (sl_ 41 (by decide)) (sl_ 42 (by decide)))) (by decide +kernel)) (sl_ 53 (by decide)) (sl_ 54 (by decide)))) (by decide +kernel)) (sl_ 59 (by decide)) (sl_ 60 (by decide)))) (by decide +kernel)) (sl_ 61 (by decide)) (sl_ 62 (by decide)))) (by decide +kernel)) (sl_ 63 (by decide)) (sl_ 64 (by decide)))) (by decide +kernel)) (sl_ 65 (by decide)) (sl_ 66 (by decide)))) (by decide +kernel)) (sl_ 67 (by decide)) (sl_ 68 (by decide)))) (by decide +kernel)) (sl_ 79 (by decide)) rfl rfl (by decide) ?_
  refine am_dup (n := 214) d_U_init_213 rfl rfl ?_
  refine am_callI (kc := 12) (ks := 352) (kc' := 11) (ks' := 336) (As := []) (q := 79) (n := 217) d_U_init_214 rfl ce_Square_init lk_U_80 in_Square_init rfl rfl (Nat.le_of_ble_eq_true rfl) (Or.inr (am_ok_of rfl)) (cc_Square_79 (d := d - 1) (am_rok_clr (am_rok_put (rk_Square_67 (am_rok_clr (am_rok_put (rk_Tray_65 (am_rok_clr (am_rok_put (rk_Tray_63 (am_rok_clr (am_rok_put (rk_Tray_61 (am_rok_clr (am_rok_put (rk_Tray_59 (am_rok_clr (am_rok_put (rk_Days_53 (am_rok_clr (am_rok_put (rk_Square_41 (am_rok_clr (am_rok_put (rk_Square_29 (am_rok_clr (am_rok_put (rk_Knowing_27 (am_rok_clr (am_rok_put (rk_Covering_24 (am_rok_clr (am_rok_put (rk_Placings_21 (am_rok_clr (am_rok_put (rk_Rows_16 (am_rok_clr (am_rok_put (rk_Life_14 (am_rok_clr (am_rok_put (rk_Life_12 (am_rok_clr (am_rok_put (am_rok_clr (am_rok_put (rk_DaysReader_9 (am_rok_clr (am_rok_put (rk_SquareReader_8 (am_rok_clr (am_rok_put (rk_Tokens_2 (am_rok_clr (am_rok_put (am_rok_clr hR (sl_ 1 (by decide)) (sl_ 2 (by decide))) (by decide +kernel)) (sl_ 2 (by decide)) (sl_ 3 (by decide)))) (by decide +kernel)) (sl_ 8 (by decide)) (sl_ 9 (by decide)))) (by decide +kernel)) (sl_ 9 (by decide)) (sl_ 10 (by decide)))) (by decide +kernel)) (sl_ 11 (by decide)) (sl_ 12 (by decide))) (by decide +kernel)) (sl_ 12 (by decide)) (sl_ 13 (by decide)))) (by decide +kernel)) (sl_ 14 (by decide)) (sl_ 15 (by decide)))) (by decide +kernel)) (sl_ 16 (by decide)) (sl_ 17 (by decide)))) (by decide +kernel)) (sl_ 21 (by decide)) (sl_ 22 (by decide)))) (by decide +kernel)) (sl_ 24 (by decide)) (sl_ 25 (by decide)))) (by decide +kernel)) (sl_ 27 (by decide)) (sl_ 28 (by decide)))) (by decide +kernel)) (sl_ 29 (by decide)) (sl_ 30 (by decide)))) (by decide +kernel)) (sl_ 41 (by decide)) (sl_ 42 (by decide)))) (by decide +kernel)) (sl_ 53 (by decide)) (sl_ 54 (by decide)))) (by decide +kernel)) (sl_ 59 (by decide)) (sl_ 60 (by decide)))) (by decide +kernel)) (sl_ 61 (by decide)) (sl_ 62 (by decide)))) (by decide +kernel)) (sl_ 63 (by decide)) (sl_ 64 (by decide)))) (by decide +kernel)) (sl_ 65 (by decide)) (sl_ 66 (by decide)))) (by decide +kernel)) (sl_ 67 (by decide)) (sl_ 68 (by decide)))) (by decide +kernel)) (sl_ 79 (by decide)) (sl_ 80 (by decide))) (by omega)) (by omega) ?_
  rintro _ _ ⟨rfl, rfl⟩
  refine am_aastC5 (j := 1) (n := 218) d_U_init_217 rfl rfl rfl (am_in_c (by decide +kernel)) (by decide +kernel) ?_
  refine am_iinc (v := 2) (ls' := [some (.ref 0), some (.int 2)]) (n := 221) d_U_init_218 rfl (by decide) (by decide) rfl rfl ?_
  refine am_goto (tgt := 200) d_U_init_221 rfl ?_
  refine am_iload_n (n := 201) d_U_init_200 rfl rfl ?_
  refine am_iconst (n := 202) d_U_init_201 ci_3 rfl ?_
  refine am_icmp_ge (tgt := 224) (n := 205) d_U_init_202 rfl rfl (fun z => absurd z (by decide)) (fun _ => ?_)
  refine am_aload_n (n := 206) d_U_init_205 rfl rfl ?_
  refine am_getR (x := 11) (n := 209) f_U_38 d_U_init_206 rfl rfl rfl (by simp [am_u2, am_clr, cro_Covering_24, cro_DaysReader_9, cro_Days_53, cro_Knowing_27, cro_Life_12, cro_Life_14, cro_Placings_21, cro_Rows_16, cro_SquareReader_8, cro_Square_29, cro_Square_41, cro_Square_67, cro_Square_79, cro_Square_91, cro_Tokens_2, cro_Tray_59, cro_Tray_61, cro_Tray_63, cro_Tray_65]) ?_
  refine am_iload_n (n := 210) d_U_init_209 rfl rfl ?_
  refine am_newC (ci := 7) (kc := 11) (ks := 336) (N := 16) (n := 213) d_U_init_210 rfl rfl rfl cl_U_36 it_Square ini_Square df_Square (am_rok_put (rk_Square_79 (am_rok_clr (am_rok_put (rk_Square_67 (am_rok_clr (am_rok_put (rk_Tray_65 (am_rok_clr (am_rok_put (rk_Tray_63 (am_rok_clr (am_rok_put (rk_Tray_61 (am_rok_clr (am_rok_put (rk_Tray_59 (am_rok_clr (am_rok_put (rk_Days_53 (am_rok_clr (am_rok_put (rk_Square_41 (am_rok_clr (am_rok_put (rk_Square_29 (am_rok_clr (am_rok_put (rk_Knowing_27 (am_rok_clr (am_rok_put (rk_Covering_24 (am_rok_clr (am_rok_put (rk_Placings_21 (am_rok_clr (am_rok_put (rk_Rows_16 (am_rok_clr (am_rok_put (rk_Life_14 (am_rok_clr (am_rok_put (rk_Life_12 (am_rok_clr (am_rok_put (am_rok_clr (am_rok_put (rk_DaysReader_9 (am_rok_clr (am_rok_put (rk_SquareReader_8 (am_rok_clr (am_rok_put (rk_Tokens_2 (am_rok_clr (am_rok_put (am_rok_clr hR (sl_ 1 (by decide)) (sl_ 2 (by decide))) (by decide +kernel)) (sl_ 2 (by decide)) (sl_ 3 (by decide)))) (by decide +kernel)) (sl_ 8 (by decide)) (sl_ 9 (by decide)))) (by decide +kernel)) (sl_ 9 (by decide)) (sl_ 10 (by decide)))) (by decide +kernel)) (sl_ 11 (by decide)) (sl_ 12 (by decide))) (by decide +kernel)) (sl_ 12 (by decide)) (sl_ 13 (by decide)))) (by decide +kernel)) (sl_ 14 (by decide)) (sl_ 15 (by decide)))) (by decide +kernel)) (sl_ 16 (by decide)) (sl_ 17 (by decide)))) (by decide +kernel)) (sl_ 21 (by decide)) (sl_ 22 (by decide)))) (by decide +kernel)) (sl_ 24 (by decide)) (sl_ 25 (by decide)))) (by decide +kernel)) (sl_ 27 (by decide)) (sl_ 28 (by decide)))) (by decide +kernel)) (sl_ 29 (by decide)) (sl_ 30 (by decide)))) (by decide +kernel)) (sl_ 41 (by decide)) (sl_ 42 (by decide)))) (by decide +kernel)) (sl_ 53 (by decide)) (sl_ 54 (by decide)))) (by decide +kernel)) (sl_ 59 (by decide)) (sl_ 60 (by decide)))) (by decide +kernel)) (sl_ 61 (by decide)) (sl_ 62 (by decide)))) (by decide +kernel)) (sl_ 63 (by decide)) (sl_ 64 (by decide)))) (by decide +kernel)) (sl_ 65 (by decide)) (sl_ 66 (by decide)))) (by decide +kernel)) (sl_ 67 (by decide)) (sl_ 68 (by decide)))) (by decide +kernel)) (sl_ 79 (by decide)) (sl_ 80 (by decide)))) (by decide +kernel)) (sl_ 91 (by decide)) rfl rfl (by decide) ?_
  refine am_dup (n := 214) d_U_init_213 rfl rfl ?_
  refine am_callI (kc := 0) (ks := 0) (kc' := 11) (ks' := 336) (As := []) (q := 91) (n := 217) d_U_init_214 rfl ce_Square_init lk_U_80 in_Square_init rfl rfl (Nat.le_of_ble_eq_true rfl) (Or.inr (am_ok_of rfl)) (cc_Square_91 (d := d - 1) (am_rok_clr (am_rok_put (rk_Square_79 (am_rok_clr (am_rok_put (rk_Square_67 (am_rok_clr (am_rok_put (rk_Tray_65 (am_rok_clr (am_rok_put (rk_Tray_63 (am_rok_clr (am_rok_put (rk_Tray_61 (am_rok_clr (am_rok_put (rk_Tray_59 (am_rok_clr (am_rok_put (rk_Days_53 (am_rok_clr (am_rok_put (rk_Square_41 (am_rok_clr (am_rok_put (rk_Square_29 (am_rok_clr (am_rok_put (rk_Knowing_27 (am_rok_clr (am_rok_put (rk_Covering_24 (am_rok_clr (am_rok_put (rk_Placings_21 (am_rok_clr (am_rok_put (rk_Rows_16 (am_rok_clr (am_rok_put (rk_Life_14 (am_rok_clr (am_rok_put (rk_Life_12 (am_rok_clr (am_rok_put (am_rok_clr (am_rok_put (rk_DaysReader_9 (am_rok_clr (am_rok_put (rk_SquareReader_8 (am_rok_clr (am_rok_put (rk_Tokens_2 (am_rok_clr (am_rok_put (am_rok_clr hR (sl_ 1 (by decide)) (sl_ 2 (by decide))) (by decide +kernel)) (sl_ 2 (by decide)) (sl_ 3 (by decide)))) (by decide +kernel)) (sl_ 8 (by decide)) (sl_ 9 (by decide)))) (by decide +kernel)) (sl_ 9 (by decide)) (sl_ 10 (by decide)))) (by decide +kernel)) (sl_ 11 (by decide)) (sl_ 12 (by decide))) (by decide +kernel)) (sl_ 12 (by decide)) (sl_ 13 (by decide)))) (by decide +kernel)) (sl_ 14 (by decide)) (sl_ 15 (by decide)))) (by decide +kernel)) (sl_ 16 (by decide)) (sl_ 17 (by decide)))) (by decide +kernel)) (sl_ 21 (by decide)) (sl_ 22 (by decide)))) (by decide +kernel)) (sl_ 24 (by decide)) (sl_ 25 (by decide)))) (by decide +kernel)) (sl_ 27 (by decide)) (sl_ 28 (by decide)))) (by decide +kernel)) (sl_ 29 (by decide)) (sl_ 30 (by decide)))) (by decide +kernel)) (sl_ 41 (by decide)) (sl_ 42 (by decide)))) (by decide +kernel)) (sl_ 53 (by decide)) (sl_ 54 (by decide)))) (by decide +kernel)) (sl_ 59 (by decide)) (sl_ 60 (by decide)))) (by decide +kernel)) (sl_ 61 (by decide)) (sl_ 62 (by decide)))) (by decide +kernel)) (sl_ 63 (by decide)) (sl_ 64 (by decide)))) (by decide +kernel)) (sl_ 65 (by decide)) (sl_ 66 (by decide)))) (by decide +kernel)) (sl_ 67 (by decide)) (sl_ 68 (by decide)))) (by decide +kernel)) (sl_ 79 (by decide)) (sl_ 80 (by decide)))) (by decide +kernel)) (sl_ 91 (by decide)) (sl_ 92 (by decide))) (by omega)) (by omega) ?_
  rintro _ _ ⟨rfl, rfl⟩
  refine am_aastC5 (j := 2) (n := 218) d_U_init_217 rfl rfl rfl (am_in_c (by decide +kernel)) (by decide +kernel) ?_
  refine am_iinc (v := 3) (ls' := [some (.ref 0), some (.int 3)]) (n := 221) d_U_init_218 rfl (by decide) (by decide) rfl rfl ?_
  refine am_goto (tgt := 200) d_U_init_221 rfl ?_
  refine am_iload_n (n := 201) d_U_init_200 rfl rfl ?_
  refine am_iconst (n := 202) d_U_init_201 ci_3 rfl ?_
  refine am_icmp_ge (tgt := 224) (n := 205) d_U_init_202 rfl rfl (fun _ => ?_) (fun z => absurd (by decide) z)
  exact am_vret d_U_init_224 ⟨rfl, rfl⟩
def ci_M_103 (I : am_TI) : am_TI := (am_clr (am_clr (am_clr (am_clr (am_clr (am_clr (am_clr (am_clr (am_clr (am_clr (am_clr (am_clr (am_clr (am_clr (am_clr (am_clr (am_clr (am_clr (am_clr (am_clr (am_clr (am_clr (am_u2 (am_u2 (am_clr (am_clr (am_clr (am_u2 (am_u2 (am_u2 (am_u2 (am_clr (am_clr (am_clr (am_clr I 104 0) 105 0) 106 0) 107 0) 107 0 (-1)) 107 1 (-1)) 107 2 (-1)) 107 3 (-1)) 108 0) 109 0) 110 0) 103 16 (-1)) 103 17 (-1)) 111 0) 112 0) 113 0) 114 0) 115 0) 116 0) 117 0) 118 0) 119 0) 120 0) 121 0) 122 0) 123 0) 124 0) 125 0) 126 0) 127 0) 128 0) 129 0) 130 0) 131 0) 132 0)
def cl_M_103 (L : am_TL) : am_TL := (am_clr (am_clr (am_clr (am_clr (am_clr (am_clr (am_clr (am_clr (am_clr (am_clr (am_clr (am_clr (am_clr (am_clr (am_clr (am_clr (am_clr (am_clr (am_clr (am_clr (am_clr (am_clr (am_clr (am_clr (am_clr (am_clr (am_clr (am_u2 (am_clr (am_clr L 104 0) 105 0) 103 4 1) 106 0) 107 0) 108 0) 109 0) 110 0) 111 0) 112 0) 113 0) 114 0) 115 0) 116 0) 117 0) 118 0) 119 0) 120 0) 121 0) 122 0) 123 0) 124 0) 125 0) 126 0) 127 0) 128 0) 129 0) 130 0) 131 0) 132 0)
def cr_M_103 (R : am_TR) : am_TR := (am_u2 (am_clr (am_u2 (am_clr (am_u2 (am_clr (am_u2 (am_clr (am_u2 (am_clr (am_u2 (am_clr (am_u2 (am_clr (am_u2 (am_clr (am_u2 (am_clr (am_u2 (am_clr (am_u2 (am_clr (am_u2 (am_clr (am_u2 (am_clr (am_u2 (am_clr (am_u2 (am_clr (am_u2 (am_clr (am_u2 (am_clr (am_u2 (am_clr (am_u2 (am_clr (am_u2 (am_clr (am_u2 (am_clr (am_u2 (am_clr (am_u2 (am_clr (am_u2 (am_clr (am_u2 (am_clr (am_u2 (am_clr (am_u2 (am_clr (am_u2 (am_clr (am_u2 (am_clr R 104 none) 103 0 (some 104)) 105 none) 103 1 (some 105)) 106 none) 103 5 (some 106)) 107 none) 103 6 (some 107)) 108 none) 103 7 (some 108)) 109 none) 103 8 (some 109)) 110 none) 103 9 (some 110)) 111 none) 103 21 (some 111)) 112 none) 103 24 (some 112)) 113 none) 103 25 (some 113)) 114 none) 103 27 (some 114)) 115 none) 103 28 (some 115)) 116 none) 103 29 (some 116)) 117 none) 103 30 (some 117)) 118 none) 103 31 (some 118)) 119 none) 103 32 (some 119)) 120 none) 103 34 (some 120)) 121 none) 103 35 (some 121)) 122 none) 103 36 (some 122)) 123 none) 103 37 (some 123)) 124 none) 103 38 (some 124)) 125 none) 103 39 (some 125)) 126 none) 103 40 (some 126)) 127 none) 103 41 (some 127)) 128 none) 103 42 (some 128)) 129 none) 103 43 (some 129)) 130 none) 103 46 (some 130)) 131 none) 103 47 (some 131)) 132 none) 103 48 (some 132))
theorem rk_M_103 {R : am_TR} (hR : am_Rok R (am_SHp 104)) : am_Rok (cr_M_103 R) (am_SHp 133) := (am_rok_put (am_rok_clr (am_rok_put (am_rok_clr (am_rok_put (am_rok_clr (am_rok_put (am_rok_clr (am_rok_put (am_rok_clr (am_rok_put (am_rok_clr (am_rok_put (am_rok_clr (am_rok_put (am_rok_clr (am_rok_put (am_rok_clr (am_rok_put (am_rok_clr (am_rok_put (am_rok_clr (am_rok_put (am_rok_clr (am_rok_put (am_rok_clr (am_rok_put (am_rok_clr (am_rok_put (am_rok_clr (am_rok_put (am_rok_clr (am_rok_put (am_rok_clr (am_rok_put (am_rok_clr (am_rok_put (am_rok_clr (am_rok_put (am_rok_clr (am_rok_put (am_rok_clr (am_rok_put (am_rok_clr (am_rok_put (am_rok_clr (am_rok_put (am_rok_clr (am_rok_put (am_rok_clr (am_rok_put (am_rok_clr (am_rok_put (am_rok_clr (am_rok_put (am_rok_clr (am_rok_put (am_rok_clr hR (sl_ 104 (by decide)) (sl_ 105 (by decide))) (by decide +kernel)) (sl_ 105 (by decide)) (sl_ 106 (by decide))) (by decide +kernel)) (sl_ 106 (by decide)) (sl_ 107 (by decide))) (by decide +kernel)) (sl_ 107 (by decide)) (sl_ 108 (by decide))) (by decide +kernel)) (sl_ 108 (by decide)) (sl_ 109 (by decide))) (by decide +kernel)) (sl_ 109 (by decide)) (sl_ 110 (by decide))) (by decide +kernel)) (sl_ 110 (by decide)) (sl_ 111 (by decide))) (by decide +kernel)) (sl_ 111 (by decide)) (sl_ 112 (by decide))) (by decide +kernel)) (sl_ 112 (by decide)) (sl_ 113 (by decide))) (by decide +kernel)) (sl_ 113 (by decide)) (sl_ 114 (by decide))) (by decide +kernel)) (sl_ 114 (by decide)) (sl_ 115 (by decide))) (by decide +kernel)) (sl_ 115 (by decide)) (sl_ 116 (by decide))) (by decide +kernel)) (sl_ 116 (by decide)) (sl_ 117 (by decide))) (by decide +kernel)) (sl_ 117 (by decide)) (sl_ 118 (by decide))) (by decide +kernel)) (sl_ 118 (by decide)) (sl_ 119 (by decide))) (by decide +kernel)) (sl_ 119 (by decide)) (sl_ 120 (by decide))) (by decide +kernel)) (sl_ 120 (by decide)) (sl_ 121 (by decide))) (by decide +kernel)) (sl_ 121 (by decide)) (sl_ 122 (by decide))) (by decide +kernel)) (sl_ 122 (by decide)) (sl_ 123 (by decide))) (by decide +kernel)) (sl_ 123 (by decide)) (sl_ 124 (by decide))) (by decide +kernel)) (sl_ 124 (by decide)) (sl_ 125 (by decide))) (by decide +kernel)) (sl_ 125 (by decide)) (sl_ 126 (by decide))) (by decide +kernel)) (sl_ 126 (by decide)) (sl_ 127 (by decide))) (by decide +kernel)) (sl_ 127 (by decide)) (sl_ 128 (by decide))) (by decide +kernel)) (sl_ 128 (by decide)) (sl_ 129 (by decide))) (by decide +kernel)) (sl_ 129 (by decide)) (sl_ 130 (by decide))) (by decide +kernel)) (sl_ 130 (by decide)) (sl_ 131 (by decide))) (by decide +kernel)) (sl_ 131 (by decide)) (sl_ 132 (by decide))) (by decide +kernel)) (sl_ 132 (by decide)) (sl_ 133 (by decide))) (by decide +kernel))
theorem cro_M_103 {R : am_TR} {a k : Nat} (h : a < 103) : cr_M_103 R a k = R a k := by
  unfold cr_M_103
  repeat first | rw [am_u2o (by omega)] | rw [am_clro (by omega)]
  try rfl
set_option maxRecDepth 20000 in
theorem cc_M_103 {d : Nat} {I : am_TI} {L : am_TL} {R : am_TR} (hR : am_Rok R (am_SHp 104)) (hwf : am_Wf (cr_M_103 R)) {Q : am_TI → Prop} (hd : 6 ≤ d) (h : wp_M_plain (ci_M_103 I) (cl_M_103 L) (cr_M_103 R) 103 0 Q) : am_Cm d 29 12209 y_M_init b_M_init 1 none [.ref 103] (I, L, R, am_SHp 104) (fun r σ' => ∃ I' : am_TI, r = none ∧ σ' = (I', cl_M_103 L, cr_M_103 R, am_SH) ∧ Q I') := by
  refine am_Cm_of (ini := true) (by decide +kernel) (fun _ => rfl) (by simp [Value.category]) (fun r σ' z => by obtain ⟨_, rfl, -⟩ := z; rfl) ?_
  show am_Wp (d, "UnseenRingModel", b_M_init, 1, true) 29 12209 0 [some (.ref 103)] [] (I, L, R, am_SHp 104) _
  refine am_aload_n (n := 1) d_M_init_0 rfl rfl ?_
  refine am_objInit2 (n := 4) d_M_init_1 rfl lo_M_1 (Nat.le_of_ble_eq_true rfl) (by omega) ?_
  refine am_aload_n (n := 5) d_M_init_4 rfl rfl ?_
  refine am_sipush (n := 8) d_M_init_5 cs_2258 rfl ?_
  refine am_newaC_int (kc := 28) (ks := 9951) (w := 2258) (n := 10) d_M_init_8 rfl (by decide) (by decide +kernel) (by decide) hR (sl_ 104 (by decide)) rfl rfl (by decide) ?_
  refine am_putR (n := 13) f_M_7 d_M_init_10 rfl ⟨_, rfl, Or.inr ⟨rfl, rfl, rfl⟩⟩ rfl rfl rfl ?_
  refine am_aload_n (n := 14) d_M_init_13 rfl rfl ?_
  refine am_bipush (n := 16) d_M_init_14 cb_36 rfl ?_
  refine am_newaC_long (kc := 27) (ks := 9915) (w := 36) (n := 18) d_M_init_16 rfl (by decide) (by decide +kernel) (by decide) (am_rok_put (am_rok_clr hR (sl_ 104 (by decide)) (sl_ 105 (by decide))) (by decide +kernel)) (sl_ 105 (by decide)) rfl rfl (by decide) ?_
  refine am_putR (n := 21) f_M_13 d_M_init_18 rfl ⟨_, rfl, Or.inr ⟨rfl, rfl, rfl⟩⟩ rfl rfl rfl ?_
  refine am_aload_n (n := 22) d_M_init_21 rfl rfl ?_
  refine am_lconst (v := 1) (n := 23) d_M_init_22 rfl rfl ?_
  refine am_putL (n := 26) f_M_17 d_M_init_23 rfl ⟨_, rfl, Or.inl rfl⟩ rfl rfl rfl ?_
  refine am_aload_n (n := 27) d_M_init_26 rfl rfl ?_
  refine am_iconst (n := 28) d_M_init_27 ci_4 rfl ?_
  refine am_newaC_int (kc := 26) (ks := 9911) (w := 4) (n := 30) d_M_init_28 rfl (by decide) (by decide +kernel) (by decide) (am_rok_put (am_rok_clr (am_rok_put (am_rok_clr hR (sl_ 104 (by decide)) (sl_ 105 (by decide))) (by decide +kernel)) (sl_ 105 (by decide)) (sl_ 106 (by decide))) (by decide +kernel)) (sl_ 106 (by decide)) rfl rfl (by decide) ?_
  refine am_putR (n := 33) f_M_21 d_M_init_30 rfl ⟨_, rfl, Or.inr ⟨rfl, rfl, rfl⟩⟩ rfl rfl rfl ?_
  refine am_aload_n (n := 34) d_M_init_33 rfl rfl ?_
  refine am_iconst (n := 35) d_M_init_34 ci_4 rfl ?_
  refine am_newaC_int (kc := 25) (ks := 9907) (w := 4) (n := 37) d_M_init_35 rfl (by decide) (by decide +kernel) (by decide) (am_rok_put (am_rok_clr (am_rok_put (am_rok_clr (am_rok_put (am_rok_clr hR (sl_ 104 (by decide)) (sl_ 105 (by decide))) (by decide +kernel)) (sl_ 105 (by decide)) (sl_ 106 (by decide))) (by decide +kernel)) (sl_ 106 (by decide)) (sl_ 107 (by decide))) (by decide +kernel)) (sl_ 107 (by decide)) rfl rfl (by decide) ?_
  refine am_dup (n := 38) d_M_init_37 rfl rfl ?_
  refine am_iconst (n := 39) d_M_init_38 ci_0 rfl ?_
  refine am_iconst (n := 40) d_M_init_39 ci_m1 rfl ?_
  refine am_iast2 (j := 0) (n := 41) d_M_init_40 rfl rfl (am_in_c (by decide +kernel)) (by decide +kernel) ?_
  refine am_dup (n := 42) d_M_init_41 rfl rfl ?_
  refine am_iconst (n := 43) d_M_init_42 ci_1 rfl ?_
  refine am_iconst (n := 44) d_M_init_43 ci_m1 rfl ?_
  refine am_iast2 (j := 1) (n := 45) d_M_init_44 rfl rfl (am_in_c (by decide +kernel)) (by decide +kernel) ?_
  refine am_dup (n := 46) d_M_init_45 rfl rfl ?_
  refine am_iconst (n := 47) d_M_init_46 ci_2 rfl ?_
  refine am_iconst (n := 48) d_M_init_47 ci_m1 rfl ?_
  refine am_iast2 (j := 2) (n := 49) d_M_init_48 rfl rfl (am_in_c (by decide +kernel)) (by decide +kernel) ?_
  refine am_dup (n := 50) d_M_init_49 rfl rfl ?_
  refine am_iconst (n := 51) d_M_init_50 ci_3 rfl ?_
  refine am_iconst (n := 52) d_M_init_51 ci_m1 rfl ?_
  refine am_iast2 (j := 3) (n := 53) d_M_init_52 rfl rfl (am_in_c (by decide +kernel)) (by decide +kernel) ?_
  refine am_putR (n := 56) f_M_24 d_M_init_53 rfl ⟨_, rfl, Or.inr ⟨rfl, rfl, rfl⟩⟩ rfl rfl rfl ?_
  refine am_aload_n (n := 57) d_M_init_56 rfl rfl ?_
  refine am_sipush (n := 60) d_M_init_57 cs_240 rfl ?_
  refine am_newaC_long (kc := 24) (ks := 9667) (w := 240) (n := 62) d_M_init_60 rfl (by decide) (by decide +kernel) (by decide) (am_rok_put (am_rok_clr (am_rok_put (am_rok_clr (am_rok_put (am_rok_clr (am_rok_put (am_rok_clr hR (sl_ 104 (by decide)) (sl_ 105 (by decide))) (by decide +kernel)) (sl_ 105 (by decide)) (sl_ 106 (by decide))) (by decide +kernel)) (sl_ 106 (by decide)) (sl_ 107 (by decide))) (by decide +kernel)) (sl_ 107 (by decide)) (sl_ 108 (by decide))) (by decide +kernel)) (sl_ 108 (by decide)) rfl rfl (by decide) ?_
  refine am_putR (n := 65) f_M_27 d_M_init_62 rfl ⟨_, rfl, Or.inr ⟨rfl, rfl, rfl⟩⟩ rfl rfl rfl ?_
  refine am_aload_n (n := 66) d_M_init_65 rfl rfl ?_
  refine am_sipush (n := 69) d_M_init_66 cs_900 rfl ?_
  refine am_newaC_byte (kc := 23) (ks := 8767) (w := 900) (n := 71) d_M_init_69 rfl (by decide) (by decide +kernel) (by decide) (am_rok_put (am_rok_clr (am_rok_put (am_rok_clr (am_rok_put (am_rok_clr (am_rok_put (am_rok_clr (am_rok_put (am_rok_clr hR (sl_ 104 (by decide)) (sl_ 105 (by decide))) (by decide +kernel)) (sl_ 105 (by decide)) (sl_ 106 (by decide))) (by decide +kernel)) (sl_ 106 (by decide)) (sl_ 107 (by decide))) (by decide +kernel)) (sl_ 107 (by decide)) (sl_ 108 (by decide))) (by decide +kernel)) (sl_ 108 (by decide)) (sl_ 109 (by decide))) (by decide +kernel)) (sl_ 109 (by decide)) rfl rfl (by decide) ?_
  refine am_putR (n := 74) f_M_30 d_M_init_71 rfl ⟨_, rfl, Or.inr ⟨rfl, rfl, rfl⟩⟩ rfl rfl rfl ?_
  refine am_aload_n (n := 75) d_M_init_74 rfl rfl ?_
  refine am_sipush (n := 78) d_M_init_75 cs_900 rfl ?_
  refine am_newaC_byte (kc := 22) (ks := 7867) (w := 900) (n := 80) d_M_init_78 rfl (by decide) (by decide +kernel) (by decide) (am_rok_put (am_rok_clr (am_rok_put (am_rok_clr (am_rok_put (am_rok_clr (am_rok_put (am_rok_clr (am_rok_put (am_rok_clr (am_rok_put (am_rok_clr hR (sl_ 104 (by decide)) (sl_ 105 (by decide))) (by decide +kernel)) (sl_ 105 (by decide)) (sl_ 106 (by decide))) (by decide +kernel)) (sl_ 106 (by decide)) (sl_ 107 (by decide))) (by decide +kernel)) (sl_ 107 (by decide)) (sl_ 108 (by decide))) (by decide +kernel)) (sl_ 108 (by decide)) (sl_ 109 (by decide))) (by decide +kernel)) (sl_ 109 (by decide)) (sl_ 110 (by decide))) (by decide +kernel)) (sl_ 110 (by decide)) rfl rfl (by decide) ?_
  refine am_putR (n := 83) f_M_34 d_M_init_80 rfl ⟨_, rfl, Or.inr ⟨rfl, rfl, rfl⟩⟩ rfl rfl rfl ?_
  refine am_aload_n (n := 84) d_M_init_83 rfl rfl ?_
  refine am_iconst (n := 85) d_M_init_84 ci_m1 rfl ?_
  refine am_putI (n := 88) f_M_37 d_M_init_85 rfl ⟨_, rfl, Or.inl rfl⟩ rfl rfl rfl ?_
  refine am_aload_n (n := 89) d_M_init_88 rfl rfl ?_
  refine am_iconst (n := 90) d_M_init_89 ci_m1 rfl ?_
  refine am_putI (n := 93) f_M_41 d_M_init_90 rfl ⟨_, rfl, Or.inl rfl⟩ rfl rfl rfl ?_
  refine am_aload_n (n := 94) d_M_init_93 rfl rfl ?_
  refine am_iconst (n := 95) d_M_init_94 ci_3 rfl ?_
  refine am_newaC_int (kc := 21) (ks := 7864) (w := 3) (n := 97) d_M_init_95 rfl (by decide) (by decide +kernel) (by decide) (am_rok_put (am_rok_clr (am_rok_put (am_rok_clr (am_rok_put (am_rok_clr (am_rok_put (am_rok_clr (am_rok_put (am_rok_clr (am_rok_put (am_rok_clr (am_rok_put (am_rok_clr hR (sl_ 104 (by decide)) (sl_ 105 (by decide))) (by decide +kernel)) (sl_ 105 (by decide)) (sl_ 106 (by decide))) (by decide +kernel)) (sl_ 106 (by decide)) (sl_ 107 (by decide))) (by decide +kernel)) (sl_ 107 (by decide)) (sl_ 108 (by decide))) (by decide +kernel)) (sl_ 108 (by decide)) (sl_ 109 (by decide))) (by decide +kernel)) (sl_ 109 (by decide)) (sl_ 110 (by decide))) (by decide +kernel)) (sl_ 110 (by decide)) (sl_ 111 (by decide))) (by decide +kernel)) (sl_ 111 (by decide)) rfl rfl (by decide) ?_
  refine am_putR (n := 100) f_M_44 d_M_init_97 rfl ⟨_, rfl, Or.inr ⟨rfl, rfl, rfl⟩⟩ rfl rfl rfl ?_
  refine am_aload_n (n := 101) d_M_init_100 rfl rfl ?_
  refine am_sipush (n := 104) d_M_init_101 cs_729 rfl ?_
  refine am_newaC_int (kc := 20) (ks := 7135) (w := 729) (n := 106) d_M_init_104 rfl (by decide) (by decide +kernel) (by decide) (am_rok_put (am_rok_clr (am_rok_put (am_rok_clr (am_rok_put (am_rok_clr (am_rok_put (am_rok_clr (am_rok_put (am_rok_clr (am_rok_put (am_rok_clr (am_rok_put (am_rok_clr (am_rok_put (am_rok_clr hR (sl_ 104 (by decide)) (sl_ 105 (by decide))) (by decide +kernel)) (sl_ 105 (by decide)) (sl_ 106 (by decide))) (by decide +kernel)) (sl_ 106 (by decide)) (sl_ 107 (by decide))) (by decide +kernel)) (sl_ 107 (by decide)) (sl_ 108 (by decide))) (by decide +kernel)) (sl_ 108 (by decide)) (sl_ 109 (by decide))) (by decide +kernel)) (sl_ 109 (by decide)) (sl_ 110 (by decide))) (by decide +kernel)) (sl_ 110 (by decide)) (sl_ 111 (by decide))) (by decide +kernel)) (sl_ 111 (by decide)) (sl_ 112 (by decide))) (by decide +kernel)) (sl_ 112 (by decide)) rfl rfl (by decide) ?_
  refine am_putR (n := 109) f_M_47 d_M_init_106 rfl ⟨_, rfl, Or.inr ⟨rfl, rfl, rfl⟩⟩ rfl rfl rfl ?_
  refine am_aload_n (n := 110) d_M_init_109 rfl rfl ?_
  refine am_iconst (n := 111) d_M_init_110 ci_3 rfl ?_
  refine am_newaC_int (kc := 19) (ks := 7132) (w := 3) (n := 113) d_M_init_111 rfl (by decide) (by decide +kernel) (by decide) (am_rok_put (am_rok_clr (am_rok_put (am_rok_clr (am_rok_put (am_rok_clr (am_rok_put (am_rok_clr (am_rok_put (am_rok_clr (am_rok_put (am_rok_clr (am_rok_put (am_rok_clr (am_rok_put (am_rok_clr (am_rok_put (am_rok_clr hR (sl_ 104 (by decide)) (sl_ 105 (by decide))) (by decide +kernel)) (sl_ 105 (by decide)) (sl_ 106 (by decide))) (by decide +kernel)) (sl_ 106 (by decide)) (sl_ 107 (by decide))) (by decide +kernel)) (sl_ 107 (by decide)) (sl_ 108 (by decide))) (by decide +kernel)) (sl_ 108 (by decide)) (sl_ 109 (by decide))) (by decide +kernel)) (sl_ 109 (by decide)) (sl_ 110 (by decide))) (by decide +kernel)) (sl_ 110 (by decide)) (sl_ 111 (by decide))) (by decide +kernel)) (sl_ 111 (by decide)) (sl_ 112 (by decide))) (by decide +kernel)) (sl_ 112 (by decide)) (sl_ 113 (by decide))) (by decide +kernel)) (sl_ 113 (by decide)) rfl rfl (by decide) ?_
  refine am_putR (n := 116) f_M_50 d_M_init_113 rfl ⟨_, rfl, Or.inr ⟨rfl, rfl, rfl⟩⟩ rfl rfl rfl ?_
  refine am_aload_n (n := 117) d_M_init_116 rfl rfl ?_
  refine am_iconst (n := 118) d_M_init_117 ci_5 rfl ?_
  refine am_newaC_int (kc := 18) (ks := 7127) (w := 5) (n := 120) d_M_init_118 rfl (by decide) (by decide +kernel) (by decide) (am_rok_put (am_rok_clr (am_rok_put (am_rok_clr (am_rok_put (am_rok_clr (am_rok_put (am_rok_clr (am_rok_put (am_rok_clr (am_rok_put (am_rok_clr (am_rok_put (am_rok_clr (am_rok_put (am_rok_clr (am_rok_put (am_rok_clr (am_rok_put (am_rok_clr hR (sl_ 104 (by decide)) (sl_ 105 (by decide))) (by decide +kernel)) (sl_ 105 (by decide)) (sl_ 106 (by decide))) (by decide +kernel)) (sl_ 106 (by decide)) (sl_ 107 (by decide))) (by decide +kernel)) (sl_ 107 (by decide)) (sl_ 108 (by decide))) (by decide +kernel)) (sl_ 108 (by decide)) (sl_ 109 (by decide))) (by decide +kernel)) (sl_ 109 (by decide)) (sl_ 110 (by decide))) (by decide +kernel)) (sl_ 110 (by decide)) (sl_ 111 (by decide))) (by decide +kernel)) (sl_ 111 (by decide)) (sl_ 112 (by decide))) (by decide +kernel)) (sl_ 112 (by decide)) (sl_ 113 (by decide))) (by decide +kernel)) (sl_ 113 (by decide)) (sl_ 114 (by decide))) (by decide +kernel)) (sl_ 114 (by decide)) rfl rfl (by decide) ?_
  refine am_putR (n := 123) f_M_53 d_M_init_120 rfl ⟨_, rfl, Or.inr ⟨rfl, rfl, rfl⟩⟩ rfl rfl rfl ?_
  refine am_aload_n (n := 124) d_M_init_123 rfl rfl ?_
  refine am_iconst (n := 125) d_M_init_124 ci_5 rfl ?_
  refine am_newaC_int (kc := 17) (ks := 7122) (w := 5) (n := 127) d_M_init_125 rfl (by decide) (by decide +kernel) (by decide) (am_rok_put (am_rok_clr (am_rok_put (am_rok_clr (am_rok_put (am_rok_clr (am_rok_put (am_rok_clr (am_rok_put (am_rok_clr (am_rok_put (am_rok_clr (am_rok_put (am_rok_clr (am_rok_put (am_rok_clr (am_rok_put (am_rok_clr (am_rok_put (am_rok_clr (am_rok_put (am_rok_clr hR (sl_ 104 (by decide)) (sl_ 105 (by decide))) (by decide +kernel)) (sl_ 105 (by decide)) (sl_ 106 (by decide))) (by decide +kernel)) (sl_ 106 (by decide)) (sl_ 107 (by decide))) (by decide +kernel)) (sl_ 107 (by decide)) (sl_ 108 (by decide))) (by decide +kernel)) (sl_ 108 (by decide)) (sl_ 109 (by decide))) (by decide +kernel)) (sl_ 109 (by decide)) (sl_ 110 (by decide))) (by decide +kernel)) (sl_ 110 (by decide)) (sl_ 111 (by decide))) (by decide +kernel)) (sl_ 111 (by decide)) (sl_ 112 (by decide))) (by decide +kernel)) (sl_ 112 (by decide)) (sl_ 113 (by decide))) (by decide +kernel)) (sl_ 113 (by decide)) (sl_ 114 (by decide))) (by decide +kernel)) (sl_ 114 (by decide)) (sl_ 115 (by decide))) (by decide +kernel)) (sl_ 115 (by decide)) rfl rfl (by decide) ?_
  refine am_putR (n := 130) f_M_56 d_M_init_127 rfl ⟨_, rfl, Or.inr ⟨rfl, rfl, rfl⟩⟩ rfl rfl rfl ?_
  refine am_aload_n (n := 131) d_M_init_130 rfl rfl ?_
  refine am_bipush (n := 133) d_M_init_131 cb_25 rfl ?_
  refine am_newaC_int (kc := 16) (ks := 7097) (w := 25) (n := 135) d_M_init_133 rfl (by decide) (by decide +kernel) (by decide) (am_rok_put (am_rok_clr (am_rok_put (am_rok_clr (am_rok_put (am_rok_clr (am_rok_put (am_rok_clr (am_rok_put (am_rok_clr (am_rok_put (am_rok_clr (am_rok_put (am_rok_clr (am_rok_put (am_rok_clr (am_rok_put (am_rok_clr (am_rok_put (am_rok_clr (am_rok_put (am_rok_clr (am_rok_put (am_rok_clr hR (sl_ 104 (by decide)) (sl_ 105 (by decide))) (by decide +kernel)) (sl_ 105 (by decide)) (sl_ 106 (by decide))) (by decide +kernel)) (sl_ 106 (by decide)) (sl_ 107 (by decide))) (by decide +kernel)) (sl_ 107 (by decide)) (sl_ 108 (by decide))) (by decide +kernel)) (sl_ 108 (by decide)) (sl_ 109 (by decide))) (by decide +kernel)) (sl_ 109 (by decide)) (sl_ 110 (by decide))) (by decide +kernel)) (sl_ 110 (by decide)) (sl_ 111 (by decide))) (by decide +kernel)) (sl_ 111 (by decide)) (sl_ 112 (by decide))) (by decide +kernel)) (sl_ 112 (by decide)) (sl_ 113 (by decide))) (by decide +kernel)) (sl_ 113 (by decide)) (sl_ 114 (by decide))) (by decide +kernel)) (sl_ 114 (by decide)) (sl_ 115 (by decide))) (by decide +kernel)) (sl_ 115 (by decide)) (sl_ 116 (by decide))) (by decide +kernel)) (sl_ 116 (by decide)) rfl rfl (by decide) ?_
  refine am_putR (n := 138) f_M_59 d_M_init_135 rfl ⟨_, rfl, Or.inr ⟨rfl, rfl, rfl⟩⟩ rfl rfl rfl ?_
  refine am_aload_n (n := 139) d_M_init_138 rfl rfl ?_
  refine am_bipush (n := 141) d_M_init_139 cb_25 rfl ?_
  refine am_newaC_int (kc := 15) (ks := 7072) (w := 25) (n := 143) d_M_init_141 rfl (by decide) (by decide +kernel) (by decide) (am_rok_put (am_rok_clr (am_rok_put (am_rok_clr (am_rok_put (am_rok_clr (am_rok_put (am_rok_clr (am_rok_put (am_rok_clr (am_rok_put (am_rok_clr (am_rok_put (am_rok_clr (am_rok_put (am_rok_clr (am_rok_put (am_rok_clr (am_rok_put (am_rok_clr (am_rok_put (am_rok_clr (am_rok_put (am_rok_clr (am_rok_put (am_rok_clr hR (sl_ 104 (by decide)) (sl_ 105 (by decide))) (by decide +kernel)) (sl_ 105 (by decide)) (sl_ 106 (by decide))) (by decide +kernel)) (sl_ 106 (by decide)) (sl_ 107 (by decide))) (by decide +kernel)) (sl_ 107 (by decide)) (sl_ 108 (by decide))) (by decide +kernel)) (sl_ 108 (by decide)) (sl_ 109 (by decide))) (by decide +kernel)) (sl_ 109 (by decide)) (sl_ 110 (by decide))) (by decide +kernel)) (sl_ 110 (by decide)) (sl_ 111 (by decide))) (by decide +kernel)) (sl_ 111 (by decide)) (sl_ 112 (by decide))) (by decide +kernel)) (sl_ 112 (by decide)) (sl_ 113 (by decide))) (by decide +kernel)) (sl_ 113 (by decide)) (sl_ 114 (by decide))) (by decide +kernel)) (sl_ 114 (by decide)) (sl_ 115 (by decide))) (by decide +kernel)) (sl_ 115 (by decide)) (sl_ 116 (by decide))) (by decide +kernel)) (sl_ 116 (by decide)) (sl_ 117 (by decide))) (by decide +kernel)) (sl_ 117 (by decide)) rfl rfl (by decide) ?_
  refine am_putR (n := 146) f_M_62 d_M_init_143 rfl ⟨_, rfl, Or.inr ⟨rfl, rfl, rfl⟩⟩ rfl rfl rfl ?_
  refine am_aload_n (n := 147) d_M_init_146 rfl rfl ?_
  refine am_bipush (n := 149) d_M_init_147 cb_80 rfl ?_
  refine am_newaC_int (kc := 14) (ks := 6992) (w := 80) (n := 151) d_M_init_149 rfl (by decide) (by decide +kernel) (by decide) (am_rok_put (am_rok_clr (am_rok_put (am_rok_clr (am_rok_put (am_rok_clr (am_rok_put (am_rok_clr (am_rok_put (am_rok_clr (am_rok_put (am_rok_clr (am_rok_put (am_rok_clr (am_rok_put (am_rok_clr (am_rok_put (am_rok_clr (am_rok_put (am_rok_clr (am_rok_put (am_rok_clr (am_rok_put (am_rok_clr (am_rok_put (am_rok_clr (am_rok_put (am_rok_clr hR (sl_ 104 (by decide)) (sl_ 105 (by decide))) (by decide +kernel)) (sl_ 105 (by decide)) (sl_ 106 (by decide))) (by decide +kernel)) (sl_ 106 (by decide)) (sl_ 107 (by decide))) (by decide +kernel)) (sl_ 107 (by decide)) (sl_ 108 (by decide))) (by decide +kernel)) (sl_ 108 (by decide)) (sl_ 109 (by decide))) (by decide +kernel)) (sl_ 109 (by decide)) (sl_ 110 (by decide))) (by decide +kernel)) (sl_ 110 (by decide)) (sl_ 111 (by decide))) (by decide +kernel)) (sl_ 111 (by decide)) (sl_ 112 (by decide))) (by decide +kernel)) (sl_ 112 (by decide)) (sl_ 113 (by decide))) (by decide +kernel)) (sl_ 113 (by decide)) (sl_ 114 (by decide))) (by decide +kernel)) (sl_ 114 (by decide)) (sl_ 115 (by decide))) (by decide +kernel)) (sl_ 115 (by decide)) (sl_ 116 (by decide))) (by decide +kernel)) (sl_ 116 (by decide)) (sl_ 117 (by decide))) (by decide +kernel)) (sl_ 117 (by decide)) (sl_ 118 (by decide))) (by decide +kernel)) (sl_ 118 (by decide)) rfl rfl (by decide) ?_
  refine am_putR (n := 154) f_M_65 d_M_init_151 rfl ⟨_, rfl, Or.inr ⟨rfl, rfl, rfl⟩⟩ rfl rfl rfl ?_
  refine am_aload_n (n := 155) d_M_init_154 rfl rfl ?_
  refine am_bipush (n := 157) d_M_init_155 cb_80 rfl ?_
  refine am_newaC_int (kc := 13) (ks := 6912) (w := 80) (n := 159) d_M_init_157 rfl (by decide) (by decide +kernel) (by decide) (am_rok_put (am_rok_clr (am_rok_put (am_rok_clr (am_rok_put (am_rok_clr (am_rok_put (am_rok_clr (am_rok_put (am_rok_clr (am_rok_put (am_rok_clr (am_rok_put (am_rok_clr (am_rok_put (am_rok_clr (am_rok_put (am_rok_clr (am_rok_put (am_rok_clr (am_rok_put (am_rok_clr (am_rok_put (am_rok_clr (am_rok_put (am_rok_clr (am_rok_put (am_rok_clr (am_rok_put (am_rok_clr hR (sl_ 104 (by decide)) (sl_ 105 (by decide))) (by decide +kernel)) (sl_ 105 (by decide)) (sl_ 106 (by decide))) (by decide +kernel)) (sl_ 106 (by decide)) (sl_ 107 (by decide))) (by decide +kernel)) (sl_ 107 (by decide)) (sl_ 108 (by decide))) (by decide +kernel)) (sl_ 108 (by decide)) (sl_ 109 (by decide))) (by decide +kernel)) (sl_ 109 (by decide)) (sl_ 110 (by decide))) (by decide +kernel)) (sl_ 110 (by decide)) (sl_ 111 (by decide))) (by decide +kernel)) (sl_ 111 (by decide)) (sl_ 112 (by decide))) (by decide +kernel)) (sl_ 112 (by decide)) (sl_ 113 (by decide))) (by decide +kernel)) (sl_ 113 (by decide)) (sl_ 114 (by decide))) (by decide +kernel)) (sl_ 114 (by decide)) (sl_ 115 (by decide))) (by decide +kernel)) (sl_ 115 (by decide)) (sl_ 116 (by decide))) (by decide +kernel)) (sl_ 116 (by decide)) (sl_ 117 (by decide))) (by decide +kernel)) (sl_ 117 (by decide)) (sl_ 118 (by decide))) (by decide +kernel)) (sl_ 118 (by decide)) (sl_ 119 (by decide))) (by decide +kernel)) (sl_ 119 (by decide)) rfl rfl (by decide) ?_
  refine am_putR (n := 162) f_M_68 d_M_init_159 rfl ⟨_, rfl, Or.inr ⟨rfl, rfl, rfl⟩⟩ rfl rfl rfl ?_
  refine am_aload_n (n := 163) d_M_init_162 rfl rfl ?_
  refine am_sipush (n := 166) d_M_init_163 cs_6656 rfl ?_
  refine am_newaC_int (kc := 12) (ks := 256) (w := 6656) (n := 168) d_M_init_166 rfl (by decide) (by decide +kernel) (by decide) (am_rok_put (am_rok_clr (am_rok_put (am_rok_clr (am_rok_put (am_rok_clr (am_rok_put (am_rok_clr (am_rok_put (am_rok_clr (am_rok_put (am_rok_clr (am_rok_put (am_rok_clr (am_rok_put (am_rok_clr (am_rok_put (am_rok_clr (am_rok_put (am_rok_clr (am_rok_put (am_rok_clr (am_rok_put (am_rok_clr (am_rok_put (am_rok_clr (am_rok_put (am_rok_clr (am_rok_put (am_rok_clr (am_rok_put (am_rok_clr hR (sl_ 104 (by decide)) (sl_ 105 (by decide))) (by decide +kernel)) (sl_ 105 (by decide)) (sl_ 106 (by decide))) (by decide +kernel)) (sl_ 106 (by decide)) (sl_ 107 (by decide))) (by decide +kernel)) (sl_ 107 (by decide)) (sl_ 108 (by decide))) (by decide +kernel)) (sl_ 108 (by decide)) (sl_ 109 (by decide))) (by decide +kernel)) (sl_ 109 (by decide)) (sl_ 110 (by decide))) (by decide +kernel)) (sl_ 110 (by decide)) (sl_ 111 (by decide))) (by decide +kernel)) (sl_ 111 (by decide)) (sl_ 112 (by decide))) (by decide +kernel)) (sl_ 112 (by decide)) (sl_ 113 (by decide))) (by decide +kernel)) (sl_ 113 (by decide)) (sl_ 114 (by decide))) (by decide +kernel)) (sl_ 114 (by decide)) (sl_ 115 (by decide))) (by decide +kernel)) (sl_ 115 (by decide)) (sl_ 116 (by decide))) (by decide +kernel)) (sl_ 116 (by decide)) (sl_ 117 (by decide))) (by decide +kernel)) (sl_ 117 (by decide)) (sl_ 118 (by decide))) (by decide +kernel)) (sl_ 118 (by decide)) (sl_ 119 (by decide))) (by decide +kernel)) (sl_ 119 (by decide)) (sl_ 120 (by decide))) (by decide +kernel)) (sl_ 120 (by decide)) rfl rfl (by decide) ?_
  refine am_putR (n := 171) f_M_71 d_M_init_168 rfl ⟨_, rfl, Or.inr ⟨rfl, rfl, rfl⟩⟩ rfl rfl rfl ?_
  refine am_aload_n (n := 172) d_M_init_171 rfl rfl ?_
  refine am_bipush (n := 174) d_M_init_172 cb_64 rfl ?_
  refine am_newaC_boolean (kc := 11) (ks := 192) (w := 64) (n := 176) d_M_init_174 rfl (by decide) (by decide +kernel) (by decide) (am_rok_put (am_rok_clr (am_rok_put (am_rok_clr (am_rok_put (am_rok_clr (am_rok_put (am_rok_clr (am_rok_put (am_rok_clr (am_rok_put (am_rok_clr (am_rok_put (am_rok_clr (am_rok_put (am_rok_clr (am_rok_put (am_rok_clr (am_rok_put (am_rok_clr (am_rok_put (am_rok_clr (am_rok_put (am_rok_clr (am_rok_put (am_rok_clr (am_rok_put (am_rok_clr (am_rok_put (am_rok_clr (am_rok_put (am_rok_clr (am_rok_put (am_rok_clr hR (sl_ 104 (by decide)) (sl_ 105 (by decide))) (by decide +kernel)) (sl_ 105 (by decide)) (sl_ 106 (by decide))) (by decide +kernel)) (sl_ 106 (by decide)) (sl_ 107 (by decide))) (by decide +kernel)) (sl_ 107 (by decide)) (sl_ 108 (by decide))) (by decide +kernel)) (sl_ 108 (by decide)) (sl_ 109 (by decide))) (by decide +kernel)) (sl_ 109 (by decide)) (sl_ 110 (by decide))) (by decide +kernel)) (sl_ 110 (by decide)) (sl_ 111 (by decide))) (by decide +kernel)) (sl_ 111 (by decide)) (sl_ 112 (by decide))) (by decide +kernel)) (sl_ 112 (by decide)) (sl_ 113 (by decide))) (by decide +kernel)) (sl_ 113 (by decide)) (sl_ 114 (by decide))) (by decide +kernel)) (sl_ 114 (by decide)) (sl_ 115 (by decide))) (by decide +kernel)) (sl_ 115 (by decide)) (sl_ 116 (by decide))) (by decide +kernel)) (sl_ 116 (by decide)) (sl_ 117 (by decide))) (by decide +kernel)) (sl_ 117 (by decide)) (sl_ 118 (by decide))) (by decide +kernel)) (sl_ 118 (by decide)) (sl_ 119 (by decide))) (by decide +kernel)) (sl_ 119 (by decide)) (sl_ 120 (by decide))) (by decide +kernel)) (sl_ 120 (by decide)) (sl_ 121 (by decide))) (by decide +kernel)) (sl_ 121 (by decide)) rfl rfl (by decide) ?_
  refine am_putR (n := 179) f_M_74 d_M_init_176 rfl ⟨_, rfl, Or.inr ⟨rfl, rfl, rfl⟩⟩ rfl rfl rfl ?_
  refine am_aload_n (n := 180) d_M_init_179 rfl rfl ?_
  refine am_bipush (n := 182) d_M_init_180 cb_64 rfl ?_
  refine am_newaC_boolean (kc := 10) (ks := 128) (w := 64) (n := 184) d_M_init_182 rfl (by decide) (by decide +kernel) (by decide) (am_rok_put (am_rok_clr (am_rok_put (am_rok_clr (am_rok_put (am_rok_clr (am_rok_put (am_rok_clr (am_rok_put (am_rok_clr (am_rok_put (am_rok_clr (am_rok_put (am_rok_clr (am_rok_put (am_rok_clr (am_rok_put (am_rok_clr (am_rok_put (am_rok_clr (am_rok_put (am_rok_clr (am_rok_put (am_rok_clr (am_rok_put (am_rok_clr (am_rok_put (am_rok_clr (am_rok_put (am_rok_clr (am_rok_put (am_rok_clr (am_rok_put (am_rok_clr (am_rok_put (am_rok_clr hR (sl_ 104 (by decide)) (sl_ 105 (by decide))) (by decide +kernel)) (sl_ 105 (by decide)) (sl_ 106 (by decide))) (by decide +kernel)) (sl_ 106 (by decide)) (sl_ 107 (by decide))) (by decide +kernel)) (sl_ 107 (by decide)) (sl_ 108 (by decide))) (by decide +kernel)) (sl_ 108 (by decide)) (sl_ 109 (by decide))) (by decide +kernel)) (sl_ 109 (by decide)) (sl_ 110 (by decide))) (by decide +kernel)) (sl_ 110 (by decide)) (sl_ 111 (by decide))) (by decide +kernel)) (sl_ 111 (by decide)) (sl_ 112 (by decide))) (by decide +kernel)) (sl_ 112 (by decide)) (sl_ 113 (by decide))) (by decide +kernel)) (sl_ 113 (by decide)) (sl_ 114 (by decide))) (by decide +kernel)) (sl_ 114 (by decide)) (sl_ 115 (by decide))) (by decide +kernel)) (sl_ 115 (by decide)) (sl_ 116 (by decide))) (by decide +kernel)) (sl_ 116 (by decide)) (sl_ 117 (by decide))) (by decide +kernel)) (sl_ 117 (by decide)) (sl_ 118 (by decide))) (by decide +kernel)) (sl_ 118 (by decide)) (sl_ 119 (by decide))) (by decide +kernel)) (sl_ 119 (by decide)) (sl_ 120 (by decide))) (by decide +kernel)) (sl_ 120 (by decide)) (sl_ 121 (by decide))) (by decide +kernel)) (sl_ 121 (by decide)) (sl_ 122 (by decide))) (by decide +kernel)) (sl_ 122 (by decide)) rfl rfl (by decide) ?_
  refine am_putR (n := 187) f_M_78 d_M_init_184 rfl ⟨_, rfl, Or.inr ⟨rfl, rfl, rfl⟩⟩ rfl rfl rfl ?_
  refine am_aload_n (n := 188) d_M_init_187 rfl rfl ?_
  refine am_bipush (n := 190) d_M_init_188 cb_6 rfl ?_
  refine am_newaC_int (kc := 9) (ks := 122) (w := 6) (n := 192) d_M_init_190 rfl (by decide) (by decide +kernel) (by decide) (am_rok_put (am_rok_clr (am_rok_put (am_rok_clr (am_rok_put (am_rok_clr (am_rok_put (am_rok_clr (am_rok_put (am_rok_clr (am_rok_put (am_rok_clr (am_rok_put (am_rok_clr (am_rok_put (am_rok_clr (am_rok_put (am_rok_clr (am_rok_put (am_rok_clr (am_rok_put (am_rok_clr (am_rok_put (am_rok_clr (am_rok_put (am_rok_clr (am_rok_put (am_rok_clr (am_rok_put (am_rok_clr (am_rok_put (am_rok_clr (am_rok_put (am_rok_clr (am_rok_put (am_rok_clr (am_rok_put (am_rok_clr hR (sl_ 104 (by decide)) (sl_ 105 (by decide))) (by decide +kernel)) (sl_ 105 (by decide)) (sl_ 106 (by decide))) (by decide +kernel)) (sl_ 106 (by decide)) (sl_ 107 (by decide))) (by decide +kernel)) (sl_ 107 (by decide)) (sl_ 108 (by decide))) (by decide +kernel)) (sl_ 108 (by decide)) (sl_ 109 (by decide))) (by decide +kernel)) (sl_ 109 (by decide)) (sl_ 110 (by decide))) (by decide +kernel)) (sl_ 110 (by decide)) (sl_ 111 (by decide))) (by decide +kernel)) (sl_ 111 (by decide)) (sl_ 112 (by decide))) (by decide +kernel)) (sl_ 112 (by decide)) (sl_ 113 (by decide))) (by decide +kernel)) (sl_ 113 (by decide)) (sl_ 114 (by decide))) (by decide +kernel)) (sl_ 114 (by decide)) (sl_ 115 (by decide))) (by decide +kernel)) (sl_ 115 (by decide)) (sl_ 116 (by decide))) (by decide +kernel)) (sl_ 116 (by decide)) (sl_ 117 (by decide))) (by decide +kernel)) (sl_ 117 (by decide)) (sl_ 118 (by decide))) (by decide +kernel)) (sl_ 118 (by decide)) (sl_ 119 (by decide))) (by decide +kernel)) (sl_ 119 (by decide)) (sl_ 120 (by decide))) (by decide +kernel)) (sl_ 120 (by decide)) (sl_ 121 (by decide))) (by decide +kernel)) (sl_ 121 (by decide)) (sl_ 122 (by decide))) (by decide +kernel)) (sl_ 122 (by decide)) (sl_ 123 (by decide))) (by decide +kernel)) (sl_ 123 (by decide)) rfl rfl (by decide) ?_
  refine am_putR (n := 195) f_M_81 d_M_init_192 rfl ⟨_, rfl, Or.inr ⟨rfl, rfl, rfl⟩⟩ rfl rfl rfl ?_
  refine am_aload_n (n := 196) d_M_init_195 rfl rfl ?_
  refine am_iconst (n := 197) d_M_init_196 ci_5 rfl ?_
  refine am_newaC_int (kc := 8) (ks := 117) (w := 5) (n := 199) d_M_init_197 rfl (by decide) (by decide +kernel) (by decide) (am_rok_put (am_rok_clr (am_rok_put (am_rok_clr (am_rok_put (am_rok_clr (am_rok_put (am_rok_clr (am_rok_put (am_rok_clr (am_rok_put (am_rok_clr (am_rok_put (am_rok_clr (am_rok_put (am_rok_clr (am_rok_put (am_rok_clr (am_rok_put (am_rok_clr (am_rok_put (am_rok_clr (am_rok_put (am_rok_clr (am_rok_put (am_rok_clr (am_rok_put (am_rok_clr (am_rok_put (am_rok_clr (am_rok_put (am_rok_clr (am_rok_put (am_rok_clr (am_rok_put (am_rok_clr (am_rok_put (am_rok_clr (am_rok_put (am_rok_clr hR (sl_ 104 (by decide)) (sl_ 105 (by decide))) (by decide +kernel)) (sl_ 105 (by decide)) (sl_ 106 (by decide))) (by decide +kernel)) (sl_ 106 (by decide)) (sl_ 107 (by decide))) (by decide +kernel)) (sl_ 107 (by decide)) (sl_ 108 (by decide))) (by decide +kernel)) (sl_ 108 (by decide)) (sl_ 109 (by decide))) (by decide +kernel)) (sl_ 109 (by decide)) (sl_ 110 (by decide))) (by decide +kernel)) (sl_ 110 (by decide)) (sl_ 111 (by decide))) (by decide +kernel)) (sl_ 111 (by decide)) (sl_ 112 (by decide))) (by decide +kernel)) (sl_ 112 (by decide)) (sl_ 113 (by decide))) (by decide +kernel)) (sl_ 113 (by decide)) (sl_ 114 (by decide))) (by decide +kernel)) (sl_ 114 (by decide)) (sl_ 115 (by decide))) (by decide +kernel)) (sl_ 115 (by decide)) (sl_ 116 (by decide))) (by decide +kernel)) (sl_ 116 (by decide)) (sl_ 117 (by decide))) (by decide +kernel)) (sl_ 117 (by decide)) (sl_ 118 (by decide))) (by decide +kernel)) (sl_ 118 (by decide)) (sl_ 119 (by decide))) (by decide +kernel)) (sl_ 119 (by decide)) (sl_ 120 (by decide))) (by decide +kernel)) (sl_ 120 (by decide)) (sl_ 121 (by decide))) (by decide +kernel)) (sl_ 121 (by decide)) (sl_ 122 (by decide))) (by decide +kernel)) (sl_ 122 (by decide)) (sl_ 123 (by decide))) (by decide +kernel)) (sl_ 123 (by decide)) (sl_ 124 (by decide))) (by decide +kernel)) (sl_ 124 (by decide)) rfl rfl (by decide) ?_
  refine am_putR (n := 202) f_M_84 d_M_init_199 rfl ⟨_, rfl, Or.inr ⟨rfl, rfl, rfl⟩⟩ rfl rfl rfl ?_
  refine am_aload_n (n := 203) d_M_init_202 rfl rfl ?_
  refine am_iconst (n := 204) d_M_init_203 ci_5 rfl ?_
  refine am_newaC_int (kc := 7) (ks := 112) (w := 5) (n := 206) d_M_init_204 rfl (by decide) (by decide +kernel) (by decide) (am_rok_put (am_rok_clr (am_rok_put (am_rok_clr (am_rok_put (am_rok_clr (am_rok_put (am_rok_clr (am_rok_put (am_rok_clr (am_rok_put (am_rok_clr (am_rok_put (am_rok_clr (am_rok_put (am_rok_clr (am_rok_put (am_rok_clr (am_rok_put (am_rok_clr (am_rok_put (am_rok_clr (am_rok_put (am_rok_clr (am_rok_put (am_rok_clr (am_rok_put (am_rok_clr (am_rok_put (am_rok_clr (am_rok_put (am_rok_clr (am_rok_put (am_rok_clr (am_rok_put (am_rok_clr (am_rok_put (am_rok_clr (am_rok_put (am_rok_clr (am_rok_put (am_rok_clr hR (sl_ 104 (by decide)) (sl_ 105 (by decide))) (by decide +kernel)) (sl_ 105 (by decide)) (sl_ 106 (by decide))) (by decide +kernel)) (sl_ 106 (by decide)) (sl_ 107 (by decide))) (by decide +kernel)) (sl_ 107 (by decide)) (sl_ 108 (by decide))) (by decide +kernel)) (sl_ 108 (by decide)) (sl_ 109 (by decide))) (by decide +kernel)) (sl_ 109 (by decide)) (sl_ 110 (by decide))) (by decide +kernel)) (sl_ 110 (by decide)) (sl_ 111 (by decide))) (by decide +kernel)) (sl_ 111 (by decide)) (sl_ 112 (by decide))) (by decide +kernel)) (sl_ 112 (by decide)) (sl_ 113 (by decide))) (by decide +kernel)) (sl_ 113 (by decide)) (sl_ 114 (by decide))) (by decide +kernel)) (sl_ 114 (by decide)) (sl_ 115 (by decide))) (by decide +kernel)) (sl_ 115 (by decide)) (sl_ 116 (by decide))) (by decide +kernel)) (sl_ 116 (by decide)) (sl_ 117 (by decide))) (by decide +kernel)) (sl_ 117 (by decide)) (sl_ 118 (by decide))) (by decide +kernel)) (sl_ 118 (by decide)) (sl_ 119 (by decide))) (by decide +kernel)) (sl_ 119 (by decide)) (sl_ 120 (by decide))) (by decide +kernel)) (sl_ 120 (by decide)) (sl_ 121 (by decide))) (by decide +kernel)) (sl_ 121 (by decide)) (sl_ 122 (by decide))) (by decide +kernel)) (sl_ 122 (by decide)) (sl_ 123 (by decide))) (by decide +kernel)) (sl_ 123 (by decide)) (sl_ 124 (by decide))) (by decide +kernel)) (sl_ 124 (by decide)) (sl_ 125 (by decide))) (by decide +kernel)) (sl_ 125 (by decide)) rfl rfl (by decide) ?_
  refine am_putR (n := 209) f_M_87 d_M_init_206 rfl ⟨_, rfl, Or.inr ⟨rfl, rfl, rfl⟩⟩ rfl rfl rfl ?_
  refine am_aload_n (n := 210) d_M_init_209 rfl rfl ?_
  refine am_iconst (n := 211) d_M_init_210 ci_5 rfl ?_
  refine am_newaC_int (kc := 6) (ks := 107) (w := 5) (n := 213) d_M_init_211 rfl (by decide) (by decide +kernel) (by decide) (am_rok_put (am_rok_clr (am_rok_put (am_rok_clr (am_rok_put (am_rok_clr (am_rok_put (am_rok_clr (am_rok_put (am_rok_clr (am_rok_put (am_rok_clr (am_rok_put (am_rok_clr (am_rok_put (am_rok_clr (am_rok_put (am_rok_clr (am_rok_put (am_rok_clr (am_rok_put (am_rok_clr (am_rok_put (am_rok_clr (am_rok_put (am_rok_clr (am_rok_put (am_rok_clr (am_rok_put (am_rok_clr (am_rok_put (am_rok_clr (am_rok_put (am_rok_clr (am_rok_put (am_rok_clr (am_rok_put (am_rok_clr (am_rok_put (am_rok_clr (am_rok_put (am_rok_clr (am_rok_put (am_rok_clr hR (sl_ 104 (by decide)) (sl_ 105 (by decide))) (by decide +kernel)) (sl_ 105 (by decide)) (sl_ 106 (by decide))) (by decide +kernel)) (sl_ 106 (by decide)) (sl_ 107 (by decide))) (by decide +kernel)) (sl_ 107 (by decide)) (sl_ 108 (by decide))) (by decide +kernel)) (sl_ 108 (by decide)) (sl_ 109 (by decide))) (by decide +kernel)) (sl_ 109 (by decide)) (sl_ 110 (by decide))) (by decide +kernel)) (sl_ 110 (by decide)) (sl_ 111 (by decide))) (by decide +kernel)) (sl_ 111 (by decide)) (sl_ 112 (by decide))) (by decide +kernel)) (sl_ 112 (by decide)) (sl_ 113 (by decide))) (by decide +kernel)) (sl_ 113 (by decide)) (sl_ 114 (by decide))) (by decide +kernel)) (sl_ 114 (by decide)) (sl_ 115 (by decide))) (by decide +kernel)) (sl_ 115 (by decide)) (sl_ 116 (by decide))) (by decide +kernel)) (sl_ 116 (by decide)) (sl_ 117 (by decide))) (by decide +kernel)) (sl_ 117 (by decide)) (sl_ 118 (by decide))) (by decide +kernel)) (sl_ 118 (by decide)) (sl_ 119 (by decide))) (by decide +kernel)) (sl_ 119 (by decide)) (sl_ 120 (by decide))) (by decide +kernel)) (sl_ 120 (by decide)) (sl_ 121 (by decide))) (by decide +kernel)) (sl_ 121 (by decide)) (sl_ 122 (by decide))) (by decide +kernel)) (sl_ 122 (by decide)) (sl_ 123 (by decide))) (by decide +kernel)) (sl_ 123 (by decide)) (sl_ 124 (by decide))) (by decide +kernel)) (sl_ 124 (by decide)) (sl_ 125 (by decide))) (by decide +kernel)) (sl_ 125 (by decide)) (sl_ 126 (by decide))) (by decide +kernel)) (sl_ 126 (by decide)) rfl rfl (by decide) ?_
  refine am_putR (n := 216) f_M_90 d_M_init_213 rfl ⟨_, rfl, Or.inr ⟨rfl, rfl, rfl⟩⟩ rfl rfl rfl ?_
  refine am_aload_n (n := 217) d_M_init_216 rfl rfl ?_
  refine am_iconst (n := 218) d_M_init_217 ci_5 rfl ?_
  refine am_newaC_int (kc := 5) (ks := 102) (w := 5) (n := 220) d_M_init_218 rfl (by decide) (by decide +kernel) (by decide) (am_rok_put (am_rok_clr (am_rok_put (am_rok_clr (am_rok_put (am_rok_clr (am_rok_put (am_rok_clr (am_rok_put (am_rok_clr (am_rok_put (am_rok_clr (am_rok_put (am_rok_clr (am_rok_put (am_rok_clr (am_rok_put (am_rok_clr (am_rok_put (am_rok_clr (am_rok_put (am_rok_clr (am_rok_put (am_rok_clr (am_rok_put (am_rok_clr (am_rok_put (am_rok_clr (am_rok_put (am_rok_clr (am_rok_put (am_rok_clr (am_rok_put (am_rok_clr (am_rok_put (am_rok_clr (am_rok_put (am_rok_clr (am_rok_put (am_rok_clr (am_rok_put (am_rok_clr (am_rok_put (am_rok_clr (am_rok_put (am_rok_clr hR (sl_ 104 (by decide)) (sl_ 105 (by decide))) (by decide +kernel)) (sl_ 105 (by decide)) (sl_ 106 (by decide))) (by decide +kernel)) (sl_ 106 (by decide)) (sl_ 107 (by decide))) (by decide +kernel)) (sl_ 107 (by decide)) (sl_ 108 (by decide))) (by decide +kernel)) (sl_ 108 (by decide)) (sl_ 109 (by decide))) (by decide +kernel)) (sl_ 109 (by decide)) (sl_ 110 (by decide))) (by decide +kernel)) (sl_ 110 (by decide)) (sl_ 111 (by decide))) (by decide +kernel)) (sl_ 111 (by decide)) (sl_ 112 (by decide))) (by decide +kernel)) (sl_ 112 (by decide)) (sl_ 113 (by decide))) (by decide +kernel)) (sl_ 113 (by decide)) (sl_ 114 (by decide))) (by decide +kernel)) (sl_ 114 (by decide)) (sl_ 115 (by decide))) (by decide +kernel)) (sl_ 115 (by decide)) (sl_ 116 (by decide))) (by decide +kernel)) (sl_ 116 (by decide)) (sl_ 117 (by decide))) (by decide +kernel)) (sl_ 117 (by decide)) (sl_ 118 (by decide))) (by decide +kernel)) (sl_ 118 (by decide)) (sl_ 119 (by decide))) (by decide +kernel)) (sl_ 119 (by decide)) (sl_ 120 (by decide))) (by decide +kernel)) (sl_ 120 (by decide)) (sl_ 121 (by decide))) (by decide +kernel)) (sl_ 121 (by decide)) (sl_ 122 (by decide))) (by decide +kernel)) (sl_ 122 (by decide)) (sl_ 123 (by decide))) (by decide +kernel)) (sl_ 123 (by decide)) (sl_ 124 (by decide))) (by decide +kernel)) (sl_ 124 (by decide)) (sl_ 125 (by decide))) (by decide +kernel)) (sl_ 125 (by decide)) (sl_ 126 (by decide))) (by decide +kernel)) (sl_ 126 (by decide)) (sl_ 127 (by decide))) (by decide +kernel)) (sl_ 127 (by decide)) rfl rfl (by decide) ?_
  refine am_putR (n := 223) f_M_93 d_M_init_220 rfl ⟨_, rfl, Or.inr ⟨rfl, rfl, rfl⟩⟩ rfl rfl rfl ?_
  refine am_aload_n (n := 224) d_M_init_223 rfl rfl ?_
  refine am_iconst (n := 225) d_M_init_224 ci_5 rfl ?_
  refine am_newaC_int (kc := 4) (ks := 97) (w := 5) (n := 227) d_M_init_225 rfl (by decide) (by decide +kernel) (by decide) (am_rok_put (am_rok_clr (am_rok_put (am_rok_clr (am_rok_put (am_rok_clr (am_rok_put (am_rok_clr (am_rok_put (am_rok_clr (am_rok_put (am_rok_clr (am_rok_put (am_rok_clr (am_rok_put (am_rok_clr (am_rok_put (am_rok_clr (am_rok_put (am_rok_clr (am_rok_put (am_rok_clr (am_rok_put (am_rok_clr (am_rok_put (am_rok_clr (am_rok_put (am_rok_clr (am_rok_put (am_rok_clr (am_rok_put (am_rok_clr (am_rok_put (am_rok_clr (am_rok_put (am_rok_clr (am_rok_put (am_rok_clr (am_rok_put (am_rok_clr (am_rok_put (am_rok_clr (am_rok_put (am_rok_clr (am_rok_put (am_rok_clr (am_rok_put (am_rok_clr hR (sl_ 104 (by decide)) (sl_ 105 (by decide))) (by decide +kernel)) (sl_ 105 (by decide)) (sl_ 106 (by decide))) (by decide +kernel)) (sl_ 106 (by decide)) (sl_ 107 (by decide))) (by decide +kernel)) (sl_ 107 (by decide)) (sl_ 108 (by decide))) (by decide +kernel)) (sl_ 108 (by decide)) (sl_ 109 (by decide))) (by decide +kernel)) (sl_ 109 (by decide)) (sl_ 110 (by decide))) (by decide +kernel)) (sl_ 110 (by decide)) (sl_ 111 (by decide))) (by decide +kernel)) (sl_ 111 (by decide)) (sl_ 112 (by decide))) (by decide +kernel)) (sl_ 112 (by decide)) (sl_ 113 (by decide))) (by decide +kernel)) (sl_ 113 (by decide)) (sl_ 114 (by decide))) (by decide +kernel)) (sl_ 114 (by decide)) (sl_ 115 (by decide))) (by decide +kernel)) (sl_ 115 (by decide)) (sl_ 116 (by decide))) (by decide +kernel)) (sl_ 116 (by decide)) (sl_ 117 (by decide))) (by decide +kernel)) (sl_ 117 (by decide)) (sl_ 118 (by decide))) (by decide +kernel)) (sl_ 118 (by decide)) (sl_ 119 (by decide))) (by decide +kernel)) (sl_ 119 (by decide)) (sl_ 120 (by decide))) (by decide +kernel)) (sl_ 120 (by decide)) (sl_ 121 (by decide))) (by decide +kernel)) (sl_ 121 (by decide)) (sl_ 122 (by decide))) (by decide +kernel)) (sl_ 122 (by decide)) (sl_ 123 (by decide))) (by decide +kernel)) (sl_ 123 (by decide)) (sl_ 124 (by decide))) (by decide +kernel)) (sl_ 124 (by decide)) (sl_ 125 (by decide))) (by decide +kernel)) (sl_ 125 (by decide)) (sl_ 126 (by decide))) (by decide +kernel)) (sl_ 126 (by decide)) (sl_ 127 (by decide))) (by decide +kernel)) (sl_ 127 (by decide)) (sl_ 128 (by decide))) (by decide +kernel)) (sl_ 128 (by decide)) rfl rfl (by decide) ?_
  refine am_putR (n := 230) f_M_96 d_M_init_227 rfl ⟨_, rfl, Or.inr ⟨rfl, rfl, rfl⟩⟩ rfl rfl rfl ?_
  refine am_aload_n (n := 231) d_M_init_230 rfl rfl ?_
  refine am_bipush (n := 233) d_M_init_231 cb_7 rfl ?_
  refine am_newaC_long (kc := 3) (ks := 90) (w := 7) (n := 235) d_M_init_233 rfl (by decide) (by decide +kernel) (by decide) (am_rok_put (am_rok_clr (am_rok_put (am_rok_clr (am_rok_put (am_rok_clr (am_rok_put (am_rok_clr (am_rok_put (am_rok_clr (am_rok_put (am_rok_clr (am_rok_put (am_rok_clr (am_rok_put (am_rok_clr (am_rok_put (am_rok_clr (am_rok_put (am_rok_clr (am_rok_put (am_rok_clr (am_rok_put (am_rok_clr (am_rok_put (am_rok_clr (am_rok_put (am_rok_clr (am_rok_put (am_rok_clr (am_rok_put (am_rok_clr (am_rok_put (am_rok_clr (am_rok_put (am_rok_clr (am_rok_put (am_rok_clr (am_rok_put (am_rok_clr (am_rok_put (am_rok_clr (am_rok_put (am_rok_clr (am_rok_put (am_rok_clr (am_rok_put (am_rok_clr (am_rok_put (am_rok_clr hR (sl_ 104 (by decide)) (sl_ 105 (by decide))) (by decide +kernel)) (sl_ 105 (by decide)) (sl_ 106 (by decide))) (by decide +kernel)) (sl_ 106 (by decide)) (sl_ 107 (by decide))) (by decide +kernel)) (sl_ 107 (by decide)) (sl_ 108 (by decide))) (by decide +kernel)) (sl_ 108 (by decide)) (sl_ 109 (by decide))) (by decide +kernel)) (sl_ 109 (by decide)) (sl_ 110 (by decide))) (by decide +kernel)) (sl_ 110 (by decide)) (sl_ 111 (by decide))) (by decide +kernel)) (sl_ 111 (by decide)) (sl_ 112 (by decide))) (by decide +kernel)) (sl_ 112 (by decide)) (sl_ 113 (by decide))) (by decide +kernel)) (sl_ 113 (by decide)) (sl_ 114 (by decide))) (by decide +kernel)) (sl_ 114 (by decide)) (sl_ 115 (by decide))) (by decide +kernel)) (sl_ 115 (by decide)) (sl_ 116 (by decide))) (by decide +kernel)) (sl_ 116 (by decide)) (sl_ 117 (by decide))) (by decide +kernel)) (sl_ 117 (by decide)) (sl_ 118 (by decide))) (by decide +kernel)) (sl_ 118 (by decide)) (sl_ 119 (by decide))) (by decide +kernel)) (sl_ 119 (by decide)) (sl_ 120 (by decide))) (by decide +kernel)) (sl_ 120 (by decide)) (sl_ 121 (by decide))) (by decide +kernel)) (sl_ 121 (by decide)) (sl_ 122 (by decide))) (by decide +kernel)) (sl_ 122 (by decide)) (sl_ 123 (by decide))) (by decide +kernel)) (sl_ 123 (by decide)) (sl_ 124 (by decide))) (by decide +kernel)) (sl_ 124 (by decide)) (sl_ 125 (by decide))) (by decide +kernel)) (sl_ 125 (by decide)) (sl_ 126 (by decide))) (by decide +kernel)) (sl_ 126 (by decide)) (sl_ 127 (by decide))) (by decide +kernel)) (sl_ 127 (by decide)) (sl_ 128 (by decide))) (by decide +kernel)) (sl_ 128 (by decide)) (sl_ 129 (by decide))) (by decide +kernel)) (sl_ 129 (by decide)) rfl rfl (by decide) ?_
  refine am_putR (n := 238) f_M_99 d_M_init_235 rfl ⟨_, rfl, Or.inr ⟨rfl, rfl, rfl⟩⟩ rfl rfl rfl ?_
  refine am_aload_n (n := 239) d_M_init_238 rfl rfl ?_
  refine am_bipush (n := 241) d_M_init_239 cb_80 rfl ?_
  refine am_newaC_int (kc := 2) (ks := 10) (w := 80) (n := 243) d_M_init_241 rfl (by decide) (by decide +kernel) (by decide) (am_rok_put (am_rok_clr (am_rok_put (am_rok_clr (am_rok_put (am_rok_clr (am_rok_put (am_rok_clr (am_rok_put (am_rok_clr (am_rok_put (am_rok_clr (am_rok_put (am_rok_clr (am_rok_put (am_rok_clr (am_rok_put (am_rok_clr (am_rok_put (am_rok_clr (am_rok_put (am_rok_clr (am_rok_put (am_rok_clr (am_rok_put (am_rok_clr (am_rok_put (am_rok_clr (am_rok_put (am_rok_clr (am_rok_put (am_rok_clr (am_rok_put (am_rok_clr (am_rok_put (am_rok_clr (am_rok_put (am_rok_clr (am_rok_put (am_rok_clr (am_rok_put (am_rok_clr (am_rok_put (am_rok_clr (am_rok_put (am_rok_clr (am_rok_put (am_rok_clr (am_rok_put (am_rok_clr (am_rok_put (am_rok_clr hR (sl_ 104 (by decide)) (sl_ 105 (by decide))) (by decide +kernel)) (sl_ 105 (by decide)) (sl_ 106 (by decide))) (by decide +kernel)) (sl_ 106 (by decide)) (sl_ 107 (by decide))) (by decide +kernel)) (sl_ 107 (by decide)) (sl_ 108 (by decide))) (by decide +kernel)) (sl_ 108 (by decide)) (sl_ 109 (by decide))) (by decide +kernel)) (sl_ 109 (by decide)) (sl_ 110 (by decide))) (by decide +kernel)) (sl_ 110 (by decide)) (sl_ 111 (by decide))) (by decide +kernel)) (sl_ 111 (by decide)) (sl_ 112 (by decide))) (by decide +kernel)) (sl_ 112 (by decide)) (sl_ 113 (by decide))) (by decide +kernel)) (sl_ 113 (by decide)) (sl_ 114 (by decide))) (by decide +kernel)) (sl_ 114 (by decide)) (sl_ 115 (by decide))) (by decide +kernel)) (sl_ 115 (by decide)) (sl_ 116 (by decide))) (by decide +kernel)) (sl_ 116 (by decide)) (sl_ 117 (by decide))) (by decide +kernel)) (sl_ 117 (by decide)) (sl_ 118 (by decide))) (by decide +kernel)) (sl_ 118 (by decide)) (sl_ 119 (by decide))) (by decide +kernel)) (sl_ 119 (by decide)) (sl_ 120 (by decide))) (by decide +kernel)) (sl_ 120 (by decide)) (sl_ 121 (by decide))) (by decide +kernel)) (sl_ 121 (by decide)) (sl_ 122 (by decide))) (by decide +kernel)) (sl_ 122 (by decide)) (sl_ 123 (by decide))) (by decide +kernel)) (sl_ 123 (by decide)) (sl_ 124 (by decide))) (by decide +kernel)) (sl_ 124 (by decide)) (sl_ 125 (by decide))) (by decide +kernel)) (sl_ 125 (by decide)) (sl_ 126 (by decide))) (by decide +kernel)) (sl_ 126 (by decide)) (sl_ 127 (by decide))) (by decide +kernel)) (sl_ 127 (by decide)) (sl_ 128 (by decide))) (by decide +kernel)) (sl_ 128 (by decide)) (sl_ 129 (by decide))) (by decide +kernel)) (sl_ 129 (by decide)) (sl_ 130 (by decide))) (by decide +kernel)) (sl_ 130 (by decide)) rfl rfl (by decide) ?_
  refine am_putR (n := 246) f_M_102 d_M_init_243 rfl ⟨_, rfl, Or.inr ⟨rfl, rfl, rfl⟩⟩ rfl rfl rfl ?_
  refine am_aload_n (n := 247) d_M_init_246 rfl rfl ?_
  refine am_iconst (n := 248) d_M_init_247 ci_5 rfl ?_
  refine am_newaC_int (kc := 1) (ks := 5) (w := 5) (n := 250) d_M_init_248 rfl (by decide) (by decide +kernel) (by decide) (am_rok_put (am_rok_clr (am_rok_put (am_rok_clr (am_rok_put (am_rok_clr (am_rok_put (am_rok_clr (am_rok_put (am_rok_clr (am_rok_put (am_rok_clr (am_rok_put (am_rok_clr (am_rok_put (am_rok_clr (am_rok_put (am_rok_clr (am_rok_put (am_rok_clr (am_rok_put (am_rok_clr (am_rok_put (am_rok_clr (am_rok_put (am_rok_clr (am_rok_put (am_rok_clr (am_rok_put (am_rok_clr (am_rok_put (am_rok_clr (am_rok_put (am_rok_clr (am_rok_put (am_rok_clr (am_rok_put (am_rok_clr (am_rok_put (am_rok_clr (am_rok_put (am_rok_clr (am_rok_put (am_rok_clr (am_rok_put (am_rok_clr (am_rok_put (am_rok_clr (am_rok_put (am_rok_clr (am_rok_put (am_rok_clr (am_rok_put (am_rok_clr hR (sl_ 104 (by decide)) (sl_ 105 (by decide))) (by decide +kernel)) (sl_ 105 (by decide)) (sl_ 106 (by decide))) (by decide +kernel)) (sl_ 106 (by decide)) (sl_ 107 (by decide))) (by decide +kernel)) (sl_ 107 (by decide)) (sl_ 108 (by decide))) (by decide +kernel)) (sl_ 108 (by decide)) (sl_ 109 (by decide))) (by decide +kernel)) (sl_ 109 (by decide)) (sl_ 110 (by decide))) (by decide +kernel)) (sl_ 110 (by decide)) (sl_ 111 (by decide))) (by decide +kernel)) (sl_ 111 (by decide)) (sl_ 112 (by decide))) (by decide +kernel)) (sl_ 112 (by decide)) (sl_ 113 (by decide))) (by decide +kernel)) (sl_ 113 (by decide)) (sl_ 114 (by decide))) (by decide +kernel)) (sl_ 114 (by decide)) (sl_ 115 (by decide))) (by decide +kernel)) (sl_ 115 (by decide)) (sl_ 116 (by decide))) (by decide +kernel)) (sl_ 116 (by decide)) (sl_ 117 (by decide))) (by decide +kernel)) (sl_ 117 (by decide)) (sl_ 118 (by decide))) (by decide +kernel)) (sl_ 118 (by decide)) (sl_ 119 (by decide))) (by decide +kernel)) (sl_ 119 (by decide)) (sl_ 120 (by decide))) (by decide +kernel)) (sl_ 120 (by decide)) (sl_ 121 (by decide))) (by decide +kernel)) (sl_ 121 (by decide)) (sl_ 122 (by decide))) (by decide +kernel)) (sl_ 122 (by decide)) (sl_ 123 (by decide))) (by decide +kernel)) (sl_ 123 (by decide)) (sl_ 124 (by decide))) (by decide +kernel)) (sl_ 124 (by decide)) (sl_ 125 (by decide))) (by decide +kernel)) (sl_ 125 (by decide)) (sl_ 126 (by decide))) (by decide +kernel)) (sl_ 126 (by decide)) (sl_ 127 (by decide))) (by decide +kernel)) (sl_ 127 (by decide)) (sl_ 128 (by decide))) (by decide +kernel)) (sl_ 128 (by decide)) (sl_ 129 (by decide))) (by decide +kernel)) (sl_ 129 (by decide)) (sl_ 130 (by decide))) (by decide +kernel)) (sl_ 130 (by decide)) (sl_ 131 (by decide))) (by decide +kernel)) (sl_ 131 (by decide)) rfl rfl (by decide) ?_
  refine am_putR (n := 253) f_M_105 d_M_init_250 rfl ⟨_, rfl, Or.inr ⟨rfl, rfl, rfl⟩⟩ rfl rfl rfl ?_
  refine am_aload_n (n := 254) d_M_init_253 rfl rfl ?_
  refine am_iconst (n := 255) d_M_init_254 ci_5 rfl ?_
  refine am_newaC_int (kc := 0) (ks := 0) (w := 5) (n := 257) d_M_init_255 rfl (by decide) (by decide +kernel) (by decide) (am_rok_put (am_rok_clr (am_rok_put (am_rok_clr (am_rok_put (am_rok_clr (am_rok_put (am_rok_clr (am_rok_put (am_rok_clr (am_rok_put (am_rok_clr (am_rok_put (am_rok_clr (am_rok_put (am_rok_clr (am_rok_put (am_rok_clr (am_rok_put (am_rok_clr (am_rok_put (am_rok_clr (am_rok_put (am_rok_clr (am_rok_put (am_rok_clr (am_rok_put (am_rok_clr (am_rok_put (am_rok_clr (am_rok_put (am_rok_clr (am_rok_put (am_rok_clr (am_rok_put (am_rok_clr (am_rok_put (am_rok_clr (am_rok_put (am_rok_clr (am_rok_put (am_rok_clr (am_rok_put (am_rok_clr (am_rok_put (am_rok_clr (am_rok_put (am_rok_clr (am_rok_put (am_rok_clr (am_rok_put (am_rok_clr (am_rok_put (am_rok_clr (am_rok_put (am_rok_clr hR (sl_ 104 (by decide)) (sl_ 105 (by decide))) (by decide +kernel)) (sl_ 105 (by decide)) (sl_ 106 (by decide))) (by decide +kernel)) (sl_ 106 (by decide)) (sl_ 107 (by decide))) (by decide +kernel)) (sl_ 107 (by decide)) (sl_ 108 (by decide))) (by decide +kernel)) (sl_ 108 (by decide)) (sl_ 109 (by decide))) (by decide +kernel)) (sl_ 109 (by decide)) (sl_ 110 (by decide))) (by decide +kernel)) (sl_ 110 (by decide)) (sl_ 111 (by decide))) (by decide +kernel)) (sl_ 111 (by decide)) (sl_ 112 (by decide))) (by decide +kernel)) (sl_ 112 (by decide)) (sl_ 113 (by decide))) (by decide +kernel)) (sl_ 113 (by decide)) (sl_ 114 (by decide))) (by decide +kernel)) (sl_ 114 (by decide)) (sl_ 115 (by decide))) (by decide +kernel)) (sl_ 115 (by decide)) (sl_ 116 (by decide))) (by decide +kernel)) (sl_ 116 (by decide)) (sl_ 117 (by decide))) (by decide +kernel)) (sl_ 117 (by decide)) (sl_ 118 (by decide))) (by decide +kernel)) (sl_ 118 (by decide)) (sl_ 119 (by decide))) (by decide +kernel)) (sl_ 119 (by decide)) (sl_ 120 (by decide))) (by decide +kernel)) (sl_ 120 (by decide)) (sl_ 121 (by decide))) (by decide +kernel)) (sl_ 121 (by decide)) (sl_ 122 (by decide))) (by decide +kernel)) (sl_ 122 (by decide)) (sl_ 123 (by decide))) (by decide +kernel)) (sl_ 123 (by decide)) (sl_ 124 (by decide))) (by decide +kernel)) (sl_ 124 (by decide)) (sl_ 125 (by decide))) (by decide +kernel)) (sl_ 125 (by decide)) (sl_ 126 (by decide))) (by decide +kernel)) (sl_ 126 (by decide)) (sl_ 127 (by decide))) (by decide +kernel)) (sl_ 127 (by decide)) (sl_ 128 (by decide))) (by decide +kernel)) (sl_ 128 (by decide)) (sl_ 129 (by decide))) (by decide +kernel)) (sl_ 129 (by decide)) (sl_ 130 (by decide))) (by decide +kernel)) (sl_ 130 (by decide)) (sl_ 131 (by decide))) (by decide +kernel)) (sl_ 131 (by decide)) (sl_ 132 (by decide))) (by decide +kernel)) (sl_ 132 (by decide)) rfl rfl (by decide) ?_
  refine am_putR (n := 260) f_M_108 d_M_init_257 rfl ⟨_, rfl, Or.inr ⟨rfl, rfl, rfl⟩⟩ rfl rfl rfl ?_
  refine am_aload_n (n := 261) d_M_init_260 rfl rfl ?_
  refine am_iconst (n := 262) d_M_init_261 ci_0 rfl ?_
  show am_Wp (d, "UnseenRingModel", b_M_init, 1, true) 0 0 262 [some (.ref 103)] [.int 0, .ref 103] (ci_M_103 I, cl_M_103 L, cr_M_103 R, am_SH) _
  refine am_callV (kc := 0) (ks := 0) (As := [.int 0]) (n := 265) d_M_init_262 rfl ce_M_plain lk_M_111 in_M_plain rfl rfl rfl rfl rfl (Nat.le_of_ble_eq_true rfl) (Or.inl rfl) (cm_M_plain (d := d - 1) hwf (by omega) rfl h) (by omega) ?_
  rintro _ _ ⟨I1, rfl, rfl, h⟩
  exact am_vret d_M_init_265 ⟨I1, rfl, rfl, h⟩
