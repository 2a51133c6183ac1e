def R_law : String := "UnseenRingLaw"
def lw_P (b : Addr) (xs : List Int32) (args : Array Value) (s : State) : Prop := args = #[.ref b] ∧ s.IntsAt b xs ∧ xs.length ≤ 3072 ∧ (Jvm.Cond.and given_1 narrow_1).before args s = true
def lw_Q (_ : Array Value) (s : State) (o : Outcome) (t : State) : Prop := o = .returned (some (.int 1)) ∧ Framed s o t [] 600000 7302250
def lw_Z (below : List Frame) (a : Array Value) (s : State) : State → Prop := fun t => ∃ o, t.status = .running ∧ Ended t below o ∧ lw_Q a s o t
/-- the law's own end, with 1 on the stack, nothing written that was there before, its room as the claim has it -/
theorem lw_ret {p : Program} {l : Launch} {e : Env} {s : State} {m : MethodId} {below : List Frame} {meth : Method} {c : Code} {b : Nat} (hx : p.tables.exec = Jvm.exec) (hb : c.code = code) (hr : meth.sig.returnType = ret) (hlocks : meth.locks = false) {pc : Nat} {H : Heap} {ls : Array Slot} (hdg : decode code pc = .ok (.ireturn, 1)) : W p l e room_1 s m #[Value.ref b] below meth c H [] 600000 7302250 (lw_Z below #[Value.ref b] s) (F0 m pc ls [.int 1]) := by
  intro T hT X
  obtain ⟨fs, hret, hrun, hended, hW, hframe⟩ := X.leave (v := some (.int 1)) (hlocks := hlocks) (fun h => by rw [hr] at h; cases h)
  have hmeth' : T.vm.method? m = some meth := X.method'
  refine ⟨T.setFrames fs, ?_, .returned (some (.int 1)), hrun, hended, rfl, ⟨_, rfl⟩, hW, hframe⟩
  jvm_step X.here [X.here.top, hx, hb, hdg, hmeth', hr, ret, narrow_b1]
  (try refine ⟨rfl, ?_⟩); (try refine ⟨rfl, ?_⟩)
  first | (intro acts; rw [hret _ acts rfl rfl rfl]) | rw [hret _ _ rfl rfl rfl]
  exact Steps.refl _
/-- what holds at the law's entry: the machine, the code, the tables' words (any of lw_tbl by 'hts w (by decide +kernel)'), the script of L ints xs at the cell b, what the Statement gives of the start (any of its parts by flat_of_before) -/
def lw_At (p : Program) (s : State) (m : MethodId) (meth : Method) (c : Code) (b L : Nat) (xs : Nat → Int32) : Prop :=
  p.tables.exec = Jvm.exec ∧ c.code = code ∧ meth.sig.returnType = ret ∧ c.maxLocals = 4 ∧ s.vm.findClass R_law = some m.cls ∧ (∀ w ∈ lw_tbl, w.before #[Value.ref b] s = true) ∧ va_X b L xs s s.heap ∧ b < s.heap.size ∧ meth.locks = false ∧ (Jvm.Cond.and given_1 narrow_1).before #[Value.ref b] s = true
theorem lw_AO1 : Cond.arrayOver (.object "UnseenRing$Tray") ∈ lw_tbl := by decide +kernel
theorem lw_AO2 : Cond.arrayOver (.object "UnseenRing$Square") ∈ lw_tbl := by decide +kernel
set_option maxRecDepth 20000 in
theorem whole_start_of {p : Program} {e : Env} {s : State} {m : MethodId} {below : List Frame} {meth : Method} {c : Code} (l : Launch) {b L : Nat} {xs : Nat → Int32} (hp : lw_pure xs L) (hwf : am_Wf lw_RM) (hL : L ≤ 3072) (C0 : lw_At p s m meth c b L xs) : W p l e room_1 s m #[Value.ref b] below meth c s.heap [] 0 0 (lw_Z below #[Value.ref b] s) (entryFrame m ([Value.ref b] : List Value).toArray 4) := by
  obtain ⟨hx, hb, hr, hml, hown, hts, hX, hbl, hlocks, hgv⟩ := id C0
  have htg : ∀ w ∈ am_gt, w.before #[Value.ref b] s = true := fun w hw => hts w (List.mem_filter.mp hw).1
  have hA0 : ∀ a : Nat, a < s.heap.size → ¬ (fun q : Nat => s.heap.size ≤ q) a := fun a h h' => absurd h (Nat.not_lt.mpr h')
  have hfl : ∀ c ∈ lw_fl, c.before #[Value.ref b] s = true := flat_of_before _ hgv
  obtain ⟨adK, adV, hS2, hev⟩ := lw_str (A := fun q : Nat => s.heap.size ≤ q) hfl hA0
  obtain ⟨cA, hcA⟩ := lw_arr hts
  obtain ⟨dC, dI, hcl⟩ := lw_cls htg
  have hZ1 : va_Z "java/lang/String" "COMPACT_STRINGS" "Z" (.int 1) (fun q : Nat => s.heap.size ≤ q) s s.heap := va_Zof (hts _ (tb_1 (List.mem_of_getElem? (i := 48) rfl))) (htg _ ini_String) (va_eqi (hfl _ (List.mem_of_getElem? (i := 4) (by decide +kernel)))) hA0
  have hZ2 : va_Zq "jdk/internal/util/Preconditions" "SIOOBE_FORMATTER" "Ljava/util/function/BiFunction;" (fun q : Nat => s.heap.size ≤ q) s s.heap := va_Zqof (hts _ (tb_1 (List.mem_of_getElem? (i := 64) rfl))) (htg _ ini_Preconditions) (hfl _ (List.mem_of_getElem? (i := 5) (by decide +kernel))) hA0
  obtain ⟨tq, hZ3⟩ : ∃ t : Nat, (va_Z "jdk/internal/util/Preconditions" "SIOOBE_FORMATTER" "Ljava/util/function/BiFunction;" .null (fun q : Nat => s.heap.size ≤ q) s s.heap ∨ va_Z "jdk/internal/util/Preconditions" "SIOOBE_FORMATTER" "Ljava/util/function/BiFunction;" (.ref t) (fun q : Nat => s.heap.size ≤ q) s s.heap) := by
    rcases hZ2 with h | ⟨t, h⟩
    · exact ⟨0, Or.inl h⟩
    · exact ⟨t, Or.inr h⟩
  have had : ∃ ad : Nat → Nat, ad 1000 = b ∧ ad 1001 = adK 0 ∧ ad 1002 = adK 1 ∧ ad 1011 = adV 0 ∧ ad 1012 = adV 1 ∧ ad 1020 = tq := ⟨fun i => if i = 1000 then b else if i = 1001 then adK 0 else if i = 1002 then adK 1 else if i = 1011 then adV 0 else if i = 1012 then adV 1 else tq, rfl, rfl, rfl, rfl, rfl, rfl⟩
  obtain ⟨ad, a0, a1, a2, a3, a4, a5⟩ := had
  have hS3 : vk_S 2 am_len am_byt (fun i => ad (1001 + i)) (fun i => ad (1011 + i)) (fun q : Nat => s.heap.size ≤ q) s s.heap := by
    refine ⟨fun i hi => ?_, fun i j hi hj hij => ?_⟩
    · match i, hi with
      | 0, _ => show va_O _ (ad 1001) _ _ _ ∧ va_OF _ _ _ _ (ad 1001) _ _ _ ∧ va_OF _ _ _ (.ref (ad 1011)) (ad 1001) _ _ _ ∧ va_T _ (ad 1011) _ _ _ _ _; rw [a1, a3]; exact hS2.1 0 (by decide)
      | 1, _ => show va_O _ (ad 1002) _ _ _ ∧ va_OF _ _ _ _ (ad 1002) _ _ _ ∧ va_OF _ _ _ (.ref (ad 1012)) (ad 1002) _ _ _ ∧ va_T _ (ad 1012) _ _ _ _ _; rw [a2, a4]; exact hS2.1 1 (by decide)
    · have e : ∀ i, i < 2 → ad (1001 + i) = adK i := fun i hi => by
        match i, hi with
        | 0, _ => exact a1
        | 1, _ => exact a2
      refine hS2.2 i j hi hj ?_
      rw [← e i hi, ← e j hj]; exact hij
  have hXX : am_X ((dC, dI), cA, L, xs) ad (fun q : Nat => s.heap.size ≤ q) s := by
    refine ⟨by rw [a0]; exact hX, by rw [a0]; exact hbl, by rw [a0]; exact hA0 b hbl, hS3, ?_, ?_, hZ1, by rw [a5]; exact hZ3⟩
    · rw [a1]; exact vk_R.of (hts _ (tb_1 (List.mem_of_getElem? (i := 38) rfl))) (hev 0 (by decide))
    · rw [a2]; exact vk_R.of (hts _ (tb_7 (List.mem_of_getElem? (i := 144) rfl))) (hev 1 (by decide))
  have hN : am_N s := by
    refine ⟨fun w hw hn => ?_, va_AO.of (hts _ lw_AO1), va_AO.of (hts _ lw_AO2)⟩
    have h1 := hts w hw
    cases w <;> first | exact va_Nw.of rfl h1 | cases hn
  have hC : am_C (1000, "UnseenRingLaw", b_Law_law, 4, false) p room_1 s m #[Value.ref b] meth c ((dC, dI), cA, L, xs) ad (fun q : Nat => s.heap.size ≤ q) := ⟨hx, hb, hml, hown, htg, ⟨by decide, by decide⟩, fun h => (by cases h), ⟨hcl, hcA⟩, fun _ h => h, hXX, hN⟩
  have hl0 := lv_entry ([.ref b]) (n := 4) (Nat.le_of_ble_eq_true rfl)
  rw [lg_entry_eq]
  generalize (lg_sl ([.ref b]) ++ List.replicate (4 - (lg_sl ([.ref b])).length) Slot.unset).toArray = lsA at hl0 ⊢
  have hl : am_lv ad [some (.ref 1000), none, none, none] 4 lsA := by
    refine ⟨hl0.1, hl0.2.1, fun i v hi => ?_⟩
    match i, hi with
    | 0, hi => cases hi; show lsA[0]? = some (.val (.ref (ad 1000))); rw [a0]; exact hl0.2.2 (0, .ref b) List.mem_cons_self
    | 1, hi => cases hi
    | 2, hi => cases hi
    | 3, hi => cases hi
    | i + 4, hi => simp at hi
  have hRe : am_Re ((dC, dI), cA, L, xs) ad (lw_I0 xs L, lw_L0, lw_R0, am_SHp 0) s (fun q : Nat => s.heap.size ≤ q) s.heap [] := by
    refine ⟨fun k q h => ?_, ⟨fun i j p q h => ?_, fun k q h => ?_⟩, va_S.rf, Nat.le_of_ble_eq_true rfl, rfl, rfl, hL⟩
    · exact absurd h (by simp [am_ws, am_SHp])
    · exact absurd h (by simp [am_ws, am_SHp])
    · exact absurd h (by simp [am_ws, am_SHp])
  refine lw_entry (d := 1000) (by decide) (I0 := lw_I0 xs L) hwf (Q := fun b _ _ _ => b = true) hp p l e room_1 s m #[Value.ref b] below meth c s.heap [] 0 0 _ ((dC, dI), cA, L, xs) ad (fun q : Nat => s.heap.size ≤ q) lsA hC (by decide) (by decide) hl hRe ?_
  intro r σ' ad' H' locs' cells' slots' pc' lsA' g1 g2 g3 g4 g5 g6
  obtain ⟨x, I', L', R', rfl, rfl, -, hq⟩ := g1
  have hx1 : x = true := hq
  subst hx1
  refine va_forget (fun q hq => g3.2.2.1.2.2 q hq) ?_
  refine W.widen (k := 600000) (n := 7302250) (by omega) (by omega) ?_
  exact lw_ret hx hb hr hlocks g6
