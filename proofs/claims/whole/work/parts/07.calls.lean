/-! contracts of methods over the store, returns, calls -/
def am_rm (d kc ks : Nat) : Room := { frames := d, cells := kc, slots := ks, locals := 64 * d }
def am_Pc (G : am_G) (ad : Nat → Nat) (sz : Nat) (as : List Value) (σ : am_St) : Array Value → State → Prop := va_Pc (as.map (am_cv ad)) (fun U => U.heap.size = sz ∧ va_P G.1 am_cl (am_ws G.2.1 ad σ) U.heap ∧ va_K G.1 am_cl (am_tys G.2.1) U ∧ va_D (fun _ => True) (am_ws G.2.1 ad σ) ∧ am_X G ad (va_A (am_ws G.2.1 ad σ) sz) U ∧ am_N U ∧ σ.2.2.2.length ≤ 1000 ∧ am_sc G σ)
def am_Qc (G : am_G) (ad : Nat → Nat) (sz kc : Nat) (σ : am_St) (Q : Option Value → am_St → Prop) : Array Value → State → Outcome → State → Prop := fun _ st oc t => (∃ (r : Option Value) (σ' : am_St) (ad' : Nat → Nat), Q r σ' ∧ oc = .returned (r.map (am_cv ad')) ∧ am_ext kc ad ad' σ σ' ∧ va_P G.1 am_cl (am_ws G.2.1 ad' σ') t.heap ∧ va_D (va_A (am_ws G.2.1 ad σ) sz) (am_ws G.2.1 ad' σ') ∧ σ'.2.2.2.length ≤ 1000 ∧ am_sc G σ') ∧ va_F (va_A (am_ws G.2.1 ad σ) sz) st t
/-- the contract of a method: from the store σ, with arguments as, it returns with Q; at most kc cells of ks slots are made, d frames are open -/
def am_Cm (d kc ks : Nat) (y : MethodName) (cc : ByteArray) (nL : Nat) (ret : Option FieldType) (as : List Value) (σ : am_St) (Q : Option Value → am_St → Prop) : Prop :=
  ∀ (l : Launch) (G : am_G) (ad : Nat → Nat) (sz : Nat), Met l y (Cond.code y cc nL ret :: am_gt) (am_rm d kc ks) (am_Pc G ad sz as σ) (am_Qc G ad sz kc σ Q) kc ks (va_A (am_ws G.2.1 ad σ) sz)
def am_rok (ret : Option FieldType) (r : Option Value) : Prop := match r with
  | none => ret = none
  | some (.long _) => ret = some .long
  | some (.int v) => ∃ ty, ret = some ty ∧ narrow ty (.int v) = .int v
  | some _ => False
/-- the locals at a method's entry -/
def am_ent (nL : Nat) : List Value → List (Option Value)
  | [] => List.replicate nL none
  | v :: vs => if v.category = 2 then some v :: none :: am_ent (nL - 2) vs else some v :: am_ent (nL - 1) vs
theorem am_ent_at : ∀ (as : List Value) (nL k i : Nat) (v : Value), (am_ent nL as)[i]? = some (some v) → (k + i, v) ∈ lv_args k as := by
  intro as
  induction as with
  | nil =>
    intro nL k i v h
    rw [am_ent] at h
    have := List.eq_of_mem_replicate (List.mem_of_getElem? h)
    cases this
  | cons w ws ih =>
    intro nL k i v h
    rw [am_ent] at h
    by_cases hc : w.category = 2
    · rw [if_pos hc] at h
      rw [lv_args, if_pos hc]
      match i, h with
      | 0, h => cases h; exact List.mem_cons_self
      | 1, h => cases h
      | i + 2, h =>
        have := ih _ (k + 2) i v h
        rw [show k + (i + 2) = k + 2 + i by omega]
        exact List.mem_cons_of_mem _ this
    · rw [if_neg hc] at h
      rw [lv_args, if_neg hc]
      match i, h with
      | 0, h => cases h; exact List.mem_cons_self
      | i + 1, h =>
        have := ih _ (k + 1) i v h
        rw [show k + (i + 1) = k + 1 + i by omega]
        exact List.mem_cons_of_mem _ this
theorem am_args_cv (ad : Nat → Nat) : ∀ (as : List Value) (k : Nat) (i : Nat) (v : Value), (i, v) ∈ lv_args k as → (i, am_cv ad v) ∈ lv_args k (as.map (am_cv ad)) := by
  intro as
  induction as with
  | nil => intro k i v h; cases h
  | cons w ws ih =>
    intro k i v h
    rw [lv_args] at h
    rw [List.map_cons, lv_args, am_cv_cat]
    rcases List.mem_cons.mp h with h | h
    · cases h; exact List.mem_cons_self
    · exact List.mem_cons_of_mem _ (ih _ _ _ h)
theorem am_sl_len (ad : Nat → Nat) (as : List Value) : (lg_sl (as.map (am_cv ad))).length = (as.map fun v => v.category).sum := by
  induction as with
  | nil => rfl
  | cons v vs ih =>
    have e : lg_sl ((v :: vs).map (am_cv ad)) = (if (am_cv ad v).category = 2 then [.val (am_cv ad v), .second] else [.val (am_cv ad v)]) ++ lg_sl (vs.map (am_cv ad)) := by simp [lg_sl]
    rw [e, List.length_append, ih, am_cv_cat, List.map_cons, List.sum_cons]
    rcases lv_cat v with h | h <;> simp [h]
theorem am_Cm_of {d kc ks : Nat} {y : MethodName} {cc : ByteArray} {nL : Nat} {ret : Option FieldType} {as : List Value} {σ : am_St} {Q : Option Value → am_St → Prop} {ini : Bool} (hy : plainName y.cls = true) (hini : ini = true → y.name = "<init>") (hn : (as.map fun v => v.category).sum ≤ nL) (hq : ∀ r σ', Q r σ' → am_rok ret r)
    (hW : am_Wp (d, y.cls, cc, nL, ini) kc ks 0 (am_ent nL as) [] σ Q) : am_Cm d kc ks y cc nL ret as σ Q := by
  intro l G ad sz
  refine Met.ofW (cc := cc) (maxL := nL) (ret := ret) hy rfl ?_
  intro p e s m args below meth c s₁ B hml hv
  obtain ⟨rfl, hsz, hP, hK, hD0, hX, hN, hlen, hsc⟩ := hv
  subst hsz
  have hts := atoms_spec (ws := Cond.code y cc nL ret :: am_gt) B.pre
  have hown : s.vm.findClass y.cls = some m.cls := findClass_of_methodNamed B.named
  have hlocks := B.notSynchronized
  have hD := hD0.self (sz := s.heap.size)
  have hr := B.returns
  have hb := B.bytes
  have hx := B.exec
  have hC : am_C (d, y.cls, cc, nL, ini) p (am_rm d kc ks) s m ((as.map (am_cv ad)).toArray) meth c G ad (va_A (am_ws G.2.1 ad σ) s.heap.size) :=
    ⟨hx, hb, hml, hown, fun w hw => hts w (List.mem_cons_of_mem _ hw), ⟨Nat.le_refl _, Nat.le_refl _⟩, fun h => ((name_of_methodNamed B.named B.method).1).trans (hini h), hK, fun q h => Or.inr h, hX, hN⟩
  have hl0 := lv_entry (as.map (am_cv ad)) (n := nL) (by rw [am_sl_len]; exact hn)
  rw [lg_entry_eq]
  have hl : am_lv ad (am_ent nL as) nL ((lg_sl (as.map (am_cv ad)) ++ List.replicate (nL - (lg_sl (as.map (am_cv ad))).length) Slot.unset).toArray) :=
    ⟨hl0.1, hl0.2.1, fun i v hi => hl0.2.2 (i, am_cv ad v) (by
      have h1 := am_ent_at as nL 0 i v hi
      rw [Nat.zero_add] at h1
      exact am_args_cv ad as 0 i v h1)⟩
  refine hW p l e (am_rm d kc ks) s m _ below meth c s.heap [] 0 0 _ G ad (va_A (am_ws G.2.1 ad σ) s.heap.size) _ hC (by show 0 + kc ≤ kc; omega) (by show 0 + ks ≤ ks; omega) hl ⟨hP, hD, va_S.rf, hlen, hsc⟩ ?_
  intro r σ' ad' H' locs' cells' slots' pc' lsA' g1 g2 g3 g4 g5 g6
  obtain ⟨f1, f2, f3, f4, f5⟩ := g3
  refine W.widen (k := kc) (n := ks) (by omega) (by omega) ?_
  have fin : ∀ t : State, t.heap = H' → am_Qc G ad s.heap.size kc σ Q ((as.map (am_cv ad)).toArray) s (.returned (r.map (am_cv ad'))) t := fun t ht => ⟨⟨r, σ', ad', g1, rfl, g2, by rw [ht]; exact f1, f2, f4, f5⟩, f3.F ht⟩
  have hok := hq r σ' g1
  cases r with
  | none =>
    have e0 : ret = none := hok
    subst e0
    exact W.vret hx hb hr (fun t ht _ => fin t ht) f3.2.2 g6
  | some v =>
    cases v with
    | int x =>
      obtain ⟨ty, e0, hnar⟩ : ∃ ty, ret = some ty ∧ narrow ty (.int x) = .int x := hok
      subst e0
      exact W.zret hx hb hr hnar (fun t ht _ => fin t ht) f3.2.2 g6
    | long x =>
      have e0 : ret = some .long := hok
      subst e0
      exact W.lret hx hb hr (fun t ht _ => fin t ht) f3.2.2 g6
    | float x => exact hok.elim
    | double x => exact hok.elim
    | null => exact hok.elim
    | ref x => exact hok.elim
    | retAddr x => exact hok.elim
section AMK
variable {d : Nat} {own : String} {cc : ByteArray} {nL : Nat} {ini : Bool} {kc ks : Nat} {pc : Nat} {ls : List (Option Value)} {st : List Value} {Q : Option Value → am_St → Prop} {σ : am_St}
/-- the returns -/
theorem am_iret {x : Int32} (hd : decode cc pc = .ok (.ireturn, 1)) (h : Q (some (.int x)) σ) : am_Wp (d, own, cc, nL, ini) kc ks pc ls [.int x] σ Q :=
  fun p l e Rm s m args below meth c H locs cells slots QQ G ad A lsA hC h1 h2 hl hR hret => hret (some (.int x)) σ ad H locs cells slots pc lsA h ⟨fun _ _ => rfl, fun _ => rfl, Nat.le_refl _⟩ hR (by omega) (by omega) hd
theorem am_lret {x : Int64} (hd : decode cc pc = .ok (.lreturn, 1)) (h : Q (some (.long x)) σ) : am_Wp (d, own, cc, nL, ini) kc ks pc ls [.long x] σ Q :=
  fun p l e Rm s m args below meth c H locs cells slots QQ G ad A lsA hC h1 h2 hl hR hret => hret (some (.long x)) σ ad H locs cells slots pc lsA h ⟨fun _ _ => rfl, fun _ => rfl, Nat.le_refl _⟩ hR (by omega) (by omega) hd
theorem am_vret (hd : decode cc pc = .ok (.return_, 1)) (h : Q none σ) : am_Wp (d, own, cc, nL, ini) kc ks pc ls [] σ Q :=
  fun p l e Rm s m args below meth c H locs cells slots QQ G ad A lsA hC h1 h2 hl hR hret => hret none σ ad H locs cells slots pc lsA h ⟨fun _ _ => rfl, fun _ => rfl, Nat.le_refl _⟩ hR (by omega) (by omega) hd
theorem am_mono {Q' : Option Value → am_St → Prop} (h : am_Wp (d, own, cc, nL, ini) kc ks pc ls st σ Q) (hq : ∀ r σ', Q r σ' → Q' r σ') : am_Wp (d, own, cc, nL, ini) kc ks pc ls st σ Q' :=
  fun p l e Rm s m args below meth c H locs cells slots QQ G ad A lsA hC h1 h2 hl hR hret => h p l e Rm s m args below meth c H locs cells slots QQ G ad A lsA hC h1 h2 hl hR (fun r σ' ad' H' locs' cells' slots' pc' lsA' g1 => hret r σ' ad' H' locs' cells' slots' pc' lsA' (hq r σ' g1))
theorem am_X.call {G : am_G} {ad : Nat → Nat} {A B : Nat → Prop} {s U : State} {H : Heap} {locs : List Loc} (h : am_X G ad A s) (hS : va_S A s.heap H locs) (hU : U.heap = H) (hW : s.WarmedH U.vm) (hB : ∀ q, B q → A q) : am_X G ad B U := by
  obtain ⟨x1, x2, x3, x4, x5, x6, x7, x8⟩ := h
  subst hU
  have hq : ∀ a : Nat, a < s.heap.size → ¬ A a → U.heap[a]? = s.heap[a]? := hS.2.1
  exact ⟨(x1.kept (hq _ x2 x3)).moved hW.alike, Nat.lt_of_lt_of_le x2 hS.1, fun z => x3 (hB _ z), ((x4.kept hq).narrow hB).moved hW.alike, x5.warm hW, x6.warm hW, ((x7.kept hq).narrow hB).moved hW.alike, x8.imp (fun z => ((z.kept hq).narrow hB).moved hW.alike) (fun z => ((z.kept hq).narrow hB).moved hW.alike)⟩
theorem am_X.same {G : am_G} {ad : Nat → Nat} {A : Nat → Prop} {s U : State} (h : am_X G ad A s) (hh : U.heap = s.heap) (hv : U.vm = s.vm) : am_X G ad A U := by
  obtain ⟨x1, x2, x3, x4, x5, x6, x7, x8⟩ := h
  have hal : s.vm.Alike U.vm := by rw [hv]; exact Vm.Alike.refl _
  have a1 := x1.moved hal
  have a4 := x4.moved hal
  have a7 := x7.moved hal
  have a8 := x8.imp (fun z => z.moved hal) (fun z => z.moved hal)
  rw [am_X, hh]
  exact ⟨a1, x2, x3, a4, x5.same hv, x6.same hv, a7, a8⟩
theorem am_Pc_blind {G : am_G} {ad : Nat → Nat} {sz : Nat} {as : List Value} : FrameBlind (am_Pc G ad sz as σ) := by
  intro a U g mk h
  obtain ⟨h1, h2, h3, h4, h5, h6, h7, h8, h9⟩ := h
  exact ⟨h1, h2, h3, va_K.moved (u := U) (U := U.calling g mk a) (Vm.Alike.refl U.vm) h4, h5, am_X.same h6 rfl rfl, am_N.same (s := U) rfl h7, h8, h9⟩
/-- what the world is at a call -/
theorem am_Pc_at {p : Program} {Rm : Room} {s : State} {m : MethodId} {args : Array Value} {meth : Method} {c : Code} {G : am_G} {ad : Nat → Nat} {A : Nat → Prop} {μ : am_M} {H : Heap} {locs : List Loc} (as : List Value) (hC : am_C μ p Rm s m args meth c G ad A) (hR : am_Re G ad σ s A H locs) : ∀ U : State, U.heap = H → s.WarmedH U.vm → am_Pc G ad H.size as σ ((as.map (am_cv ad)).toArray) U := by
  intro U hU hW
  have hB : ∀ q, va_A (am_ws G.2.1 ad σ) H.size q → A q := by
    intro q h
    rcases h with ⟨k, e, h⟩ | h
    · exact hR.2.1.2 k (q, e) h
    · exact hC.2.2.2.2.2.2.2.2.1 q (Nat.le_trans hR.2.2.1.1 h)
  refine ⟨rfl, by rw [hU], by rw [hU]; exact hR.1, va_K.moved hW.alike hC.2.2.2.2.2.2.2.1, hR.2.1.weaken (fun _ _ _ _ => trivial), ?_, am_N.warm hW hC.2.2.2.2.2.2.2.2.2.2, hR.2.2.2⟩
  exact am_X.call hC.2.2.2.2.2.2.2.2.2.1 hR.2.2.1 hU hW hB
/-- behind a call -/
theorem am_back {n kc' ks' : Nat} {Q' : Option Value → am_St → Prop} {st0 : List Value} {p : Program} {l : Launch} {e : Env} {Rm : Room} {s : State} {m : MethodId} {args : Array Value} {below : List Frame} {meth : Method} {c : Code} {H : Heap} {locs : List Loc} {cells slots : Nat} {QQ : State → Prop} {G : am_G} {ad : Nat → Nat} {A : Nat → Prop} {lsA : Array Slot} (a : Array Value)
    (hC : am_C (d, own, cc, nL, ini) p Rm s m args meth c G ad A) (h1 : cells + (kc + kc') ≤ Rm.cells) (h2 : slots + (ks + ks') ≤ Rm.slots) (hl : am_lv ad ls nL lsA) (hR : am_Re G ad σ s A H locs)
    (hret : ∀ (r : Option Value) (σ' : am_St) (ad' : Nat → Nat) (H' : Heap) (locs' : List Loc) (cells' slots' pc' : Nat) (lsA' : Array Slot), Q r σ' → am_ext (kc + kc') ad ad' σ σ' → am_Re G ad' σ' s A H' locs' → cells' ≤ cells + (kc + kc') → slots' ≤ slots + (ks + ks') → decode cc pc' = .ok (am_retI r, 1) → W p l e Rm s m args below meth c H' locs' cells' slots' QQ (F0 m pc' lsA' ((r.map (am_cv ad')).toList)))
    (hok : kc' = 0 ∨ am_ok σ.2.2.2.length ls st)
    (hrun : va_Run p l e Rm s m args below meth c H locs cells slots kc' ks' (F0 m pc lsA st0) (st.map (am_cv ad)) (am_Qc G ad H.size kc' σ Q' a) (va_A (am_ws G.2.1 ad σ) H.size))
    (hn : pc + 3 = n) (kk : ∀ r σ', Q' r σ' → am_Wp (d, own, cc, nL, ini) kc ks n ls (r.toList ++ st) σ' Q) : W p l e Rm s m args below meth c H locs cells slots QQ (F0 m pc lsA st0) := by
  subst hn
  intro T hT X
  obtain ⟨v, st₀, t, T', Lo, k0, X', hL, e1, e2, ⟨⟨r, σ', ad', hQ, hv, hext, hP1, hD1, hlen1, hsc1⟩, hz, hk⟩, step⟩ := hrun T hT X
  have hv' : v = r.map (am_cv ad') := by cases hv; rfl
  subst hv'
  rw [k0] at hz hk
  have hB : ∀ q, va_A (am_ws G.2.1 ad σ) H.size q → A q := by
    intro q h
    rcases h with ⟨k, e, h⟩ | h
    · exact hR.2.1.2 k (q, e) h
    · exact hC.2.2.2.2.2.2.2.2.1 q (Nat.le_trans hR.2.2.1.1 h)
  have hC' : am_C (d, own, cc, nL, ini) p Rm s m args meth c G ad' A := by
    obtain ⟨a1, a2, a3, a4, a5, a6, a7, a8, a9, a10, a11⟩ := hC
    exact ⟨a1, a2, a3, a4, a5, a6, a7, a8, a9, am_X_ad (fun i hi => hext.1 i (Or.inr hi)) a10, a11⟩
  have hl' : am_lv ad' ls nL lsA := by
    rcases hok with h0 | h0
    · rw [hext.2.1 h0]; exact hl
    · exact am_ok_lv h0.1 hext.1 hl
  have hst' : st.map (am_cv ad') = st.map (am_cv ad) := by
    rcases hok with h0 | h0
    · rw [hext.2.1 h0]
    · exact am_ok_st h0.2 hext.1
  have hRe' : am_Re G ad' σ' s A T'.heap (locs ++ Lo) := by
    refine ⟨by rw [e1]; exact hP1, hD1.weaken (fun k q _ h => hB q.1 h), ⟨Nat.le_trans hR.2.2.1.1 (by rw [e1]; exact hz), fun q h1 h2 => ?_, fun q hq => ?_⟩, hlen1, hsc1⟩
    · rw [e1, hk q (Nat.lt_of_lt_of_le h1 hR.2.2.1.1) (fun z => h2 (hB q z))]
      exact hR.2.2.1.2.1 q h1 h2
    · rcases List.mem_append.mp hq with h | h
      · exact hR.2.2.1.2.2 q h
      · exact hB _ (hL q h)
  have k1 := kk r σ' hQ p l e Rm s m args below meth c T'.heap (locs ++ Lo) (cells + kc') (slots + ks') QQ G ad' A lsA hC' (by omega) (by omega) hl' hRe' (fun r2 σ2 ad2 H' locs' cells' slots' pc' lsA' g1 g2 g3 g4 g5 g6 => hret r2 σ2 ad2 H' locs' cells' slots' pc' lsA' g1 ⟨fun i hi => by
      rw [g2.1 i (by rcases hi with hi | hi
                     · exact Or.inl (Nat.lt_of_lt_of_le hi hext.2.2)
                     · exact Or.inr hi)]
      exact hext.1 i hi, fun z => by rw [g2.2.1 (by omega), hext.2.1 (by omega)], Nat.le_trans hext.2.2 g2.2.2⟩ g3 (by omega) (by omega) g6)
  have est : (r.toList ++ st).map (am_cv ad') = (r.map (am_cv ad')).toList ++ st.map (am_cv ad) := by
    rw [List.map_append, hst']
    cases r <;> rfl
  rw [est] at k1
  obtain ⟨t2, a1, b1⟩ := k1 T' rfl X'
  exact ⟨t2, step t2 a1, b1⟩
/-- the tables of a callee -/
def am_callee (y : MethodName) (bytes : ByteArray) (maxL : Nat) (ret : Option FieldType) (n : Nat) : Prop := Cond.code y bytes maxL ret ∈ am_gt ∧ Cond.initialized y.cls ∈ am_gt ∧ (y.cls ≠ "java/lang/invoke/MethodHandle" ∧ y.cls ≠ "java/lang/invoke/VarHandle" ∧ (parseMethodDescriptor y.desc).map (fun d => d.parameters.length) = some n) ∧ maxL ≤ 40
def am_link (own : String) (idx : Nat) (y : MethodName) : Prop := Cond.methodLink own idx y ∈ am_gt ∨ ∃ host, Cond.methodLinkNest own idx y host ∈ lw_tbl
theorem am_goodC {y : MethodName} {bytes : ByteArray} {maxL : Nat} {ret : Option FieldType} (h : Cond.code y bytes maxL ret ∈ am_gt) : GoodIn am_gt (Cond.code y bytes maxL ret :: am_gt) := by
  intro w hw
  rcases List.mem_cons.mp hw with rfl | hw
  · exact am_good _ h
  · exact am_good _ hw
theorem am_callS {idx n na d' kc' ks' : Nat} {y : MethodName} {bytes : ByteArray} {maxL : Nat} {ret : Option FieldType} {As : List Value} {Q' : Option Value → am_St → Prop} (hd : decode cc pc = .ok (.invokestatic idx, 3)) (hn : pc + 3 = n) (hcl : am_callee y bytes maxL ret na) (hlk : am_link own idx y) (hst : Cond.static y ∈ am_gt) (hAs : As.length = na) {st0 : List Value} (h0 : st0 = As.reverse ++ st) (hrs : (st.map fun v => v.category).sum ≤ 8) (hok : kc' = 0 ∨ am_ok σ.2.2.2.length ls st) (hCm : am_Cm d' kc' ks' y bytes maxL ret As σ Q') (hdd : d' < d)
    (kk : ∀ r σ', Q' r σ' → am_Wp (d, own, cc, nL, ini) kc ks n ls (r.toList ++ st) σ' Q) : am_Wp (d, own, cc, nL, ini) (kc + kc') (ks + ks') pc ls st0 σ Q := by
  intro p l e Rm s m args below meth c H locs cells slots QQ G ad A lsA hC h1 h2 hl hR hret
  subst h0
  have hts := hC.2.2.2.2.1
  have hrm : d ≤ Rm.frames ∧ 64 * d ≤ Rm.locals := hC.2.2.2.2.2.1
  have hroom : (am_rm d' kc' ks').frames + 1 ≤ Rm.frames ∧ 8 + (maxL + 11) + (am_rm d' kc' ks').locals ≤ Rm.locals := by
    have := hcl.2.2.2
    show d' + 1 ≤ Rm.frames ∧ 8 + (maxL + 11) + 64 * d' ≤ Rm.locals
    omega
  have hpre : PreS s H (am_Pc G ad H.size As σ) (As.map (am_cv ad)) := ⟨am_Pc_blind, am_Pc_at As hC hR⟩
  have hstk : ((As.reverse ++ st).map (am_cv ad)) = (As.map (am_cv ad)).reverse ++ st.map (am_cv ad) := by rw [List.map_append, List.map_reverse]
  refine am_back (st := st) ((As.map (am_cv ad)).toArray) hC h1 h2 hl hR hret hok ?_ hn kk
  rcases hlk with hlk | ⟨host, hlk⟩
  · exact va_runS (cc := cc) (nL := nL) (Ts := am_gt) (own := own) ⟨hC.1, hC.2.1, hC.2.2.1, hC.2.2.2.1, hts⟩ (hCm l G ad H.size) ⟨callB_of na hts (am_goodC hcl.1) rfl rfl rfl (hts _ hcl.2.1) (hts _ hlk) hcl.2.2.1 hroom, hts _ hst⟩ hpre rfl (by rw [List.length_map]; exact hAs) hl.1 hstk (lv_room (by rw [am_cv_sum]; exact hrs)) hd ⟨by omega, by omega⟩
  · exact va_runSN (cc := cc) (nL := nL) (Ts := am_gt) (own := own) (host := host) ⟨hC.1, hC.2.1, hC.2.2.1, hC.2.2.2.1, hts⟩ (hCm l G ad H.size) ⟨va_cnB na hts (am_goodC hcl.1) rfl rfl rfl (hC.2.2.2.2.2.2.2.2.2.2.1 _ hlk rfl) (hts _ hcl.2.1) hcl.2.2.1 hroom, hts _ hst, trivial⟩ hpre rfl (by rw [List.length_map]; exact hAs) hl.1 hstk (lv_room (by rw [am_cv_sum]; exact hrs)) hd ⟨by omega, by omega⟩
theorem am_callV {idx n na d' kc' ks' q ci : Nat} {y : MethodName} {bytes : ByteArray} {maxL : Nat} {ret : Option FieldType} {As : List Value} {Q' : Option Value → am_St → Prop} {r0 : vw_C} (hd : decode cc pc = .ok (.invokevirtual idx, 3)) (hn : pc + 3 = n) (hcl : am_callee y bytes maxL ret na) (hlk : am_link own idx y) (hst : Cond.instanceMethod y ∈ am_gt ∧ Cond.selects y.cls y y ∈ am_gt) (hc : am_cl[ci]? = some r0) (hr0 : r0.1 = y.cls) (hs : σ.2.2.2[q]? = some (.inl ci)) (hAs : As.length = na) {st0 : List Value} (h0 : st0 = As.reverse ++ .ref q :: st) (hrs : (st.map fun v => v.category).sum ≤ 8) (hok : kc' = 0 ∨ am_ok σ.2.2.2.length ls st) (hCm : am_Cm d' kc' ks' y bytes maxL ret (.ref q :: As) σ Q') (hdd : d' < d)
    (kk : ∀ r σ', Q' r σ' → am_Wp (d, own, cc, nL, ini) kc ks n ls (r.toList ++ st) σ' Q) : am_Wp (d, own, cc, nL, ini) (kc + kc') (ks + ks') pc ls st0 σ Q := by
  intro p l e Rm s m args below meth c H locs cells slots QQ G ad A lsA hC h1 h2 hl hR hret
  subst h0
  have hts := hC.2.2.2.2.1
  have hrm : d ≤ Rm.frames ∧ 64 * d ≤ Rm.locals := hC.2.2.2.2.2.1
  have hroom : (am_rm d' kc' ks').frames + 1 ≤ Rm.frames ∧ 8 + (maxL + 11) + (am_rm d' kc' ks').locals ≤ Rm.locals := by
    have := hcl.2.2.2
    show d' + 1 ≤ Rm.frames ∧ 8 + (maxL + 11) + 64 * d' ≤ Rm.locals
    omega
  have hrecv : ∃ cellB : Cell, H[ad q]? = some cellB ∧ cellB.vm.isStatics = false ∧ s.vm.findClass y.cls = some cellB.cls := by
    rw [← hr0]
    exact va_recv hC.2.2.2.2.2.2.2.1 hR.1 hc (am_ws_at (cA := G.2.1) (ad := ad) hs)
  have hpre : PreV s H y.cls (ad q) (am_Pc G ad H.size (.ref q :: As) σ) (As.map (am_cv ad)) := ⟨am_Pc_blind, hrecv, am_Pc_at (.ref q :: As) hC hR⟩
  have hstk : ((As.reverse ++ .ref q :: st).map (am_cv ad)) = (As.map (am_cv ad)).reverse ++ .ref (ad q) :: st.map (am_cv ad) := by rw [List.map_append, List.map_reverse]; rfl
  refine am_back (st := st) ((Value.ref (ad q) :: As.map (am_cv ad)).toArray) hC h1 h2 hl hR hret hok ?_ hn kk
  rcases hlk with hlk | ⟨host, hlk⟩
  · exact va_runV (cc := cc) (nL := nL) (Ts := am_gt) (own := own) ⟨hC.1, hC.2.1, hC.2.2.1, hC.2.2.2.1, hts⟩ (hCm l G ad H.size) ⟨callB_of na hts (am_goodC hcl.1) rfl rfl rfl (hts _ hcl.2.1) (hts _ hlk) hcl.2.2.1 hroom, hts _ hst.1, hts _ hst.2⟩ hpre rfl (by rw [List.length_map]; exact hAs) hl.1 hstk (lv_room (by rw [am_cv_sum]; exact hrs)) hd ⟨by omega, by omega⟩
  · exact va_runVN (cc := cc) (nL := nL) (Ts := am_gt) (own := own) (host := host) ⟨hC.1, hC.2.1, hC.2.2.1, hC.2.2.2.1, hts⟩ (hCm l G ad H.size) ⟨va_cnB na hts (am_goodC hcl.1) rfl rfl rfl (hC.2.2.2.2.2.2.2.2.2.2.1 _ hlk rfl) (hts _ hcl.2.1) hcl.2.2.1 hroom, hts _ hst.1, hts _ hst.2⟩ hpre rfl (by rw [List.length_map]; exact hAs) hl.1 hstk (lv_room (by rw [am_cv_sum]; exact hrs)) hd ⟨by omega, by omega⟩
theorem am_callI {idx n na d' kc' ks' q : Nat} {y : MethodName} {bytes : ByteArray} {maxL : Nat} {As : List Value} {Q' : Option Value → am_St → Prop} (hd : decode cc pc = .ok (.invokespecial idx, 3)) (hn : pc + 3 = n) (hcl : am_callee y bytes maxL none na) (hlk : am_link own idx y) (hst : y.name = "<init>" ∧ Cond.instanceMethod y ∈ am_gt) (hAs : As.length = na) {st0 : List Value} (h0 : st0 = As.reverse ++ .ref q :: st) (hrs : (st.map fun v => v.category).sum ≤ 8) (hok : kc' = 0 ∨ am_ok σ.2.2.2.length ls st) (hCm : am_Cm d' kc' ks' y bytes maxL none (.ref q :: As) σ Q') (hdd : d' < d)
    (kk : ∀ r σ', Q' r σ' → am_Wp (d, own, cc, nL, ini) kc ks n ls (r.toList ++ st) σ' Q) : am_Wp (d, own, cc, nL, ini) (kc + kc') (ks + ks') pc ls st0 σ Q := by
  intro p l e Rm s m args below meth c H locs cells slots QQ G ad A lsA hC h1 h2 hl hR hret
  subst h0
  have hts := hC.2.2.2.2.1
  have hrm : d ≤ Rm.frames ∧ 64 * d ≤ Rm.locals := hC.2.2.2.2.2.1
  have hroom : (am_rm d' kc' ks').frames + 1 ≤ Rm.frames ∧ 8 + (maxL + 11) + (am_rm d' kc' ks').locals ≤ Rm.locals := by
    have := hcl.2.2.2
    show d' + 1 ≤ Rm.frames ∧ 8 + (maxL + 11) + 64 * d' ≤ Rm.locals
    omega
  have hpre : PreS s H (am_Pc G ad H.size (.ref q :: As) σ) (.ref (ad q) :: As.map (am_cv ad)) := ⟨am_Pc_blind, am_Pc_at (.ref q :: As) hC hR⟩
  have hstk : ((As.reverse ++ .ref q :: st).map (am_cv ad)) = (As.map (am_cv ad)).reverse ++ .ref (ad q) :: st.map (am_cv ad) := by rw [List.map_append, List.map_reverse]; rfl
  refine am_back (st := st) ((Value.ref (ad q) :: As.map (am_cv ad)).toArray) hC h1 h2 hl hR hret hok ?_ hn kk
  rcases hlk with hlk | ⟨host, hlk⟩
  · exact va_runI (cc := cc) (nL := nL) (Ts := am_gt) (own := own) ⟨hC.1, hC.2.1, hC.2.2.1, hC.2.2.2.1, hts⟩ (hCm l G ad H.size) ⟨callB_of na hts (am_goodC hcl.1) rfl rfl rfl (hts _ hcl.2.1) (hts _ hlk) hcl.2.2.1 hroom, hst.1, hts _ hst.2⟩ hpre rfl (by rw [List.length_map]; exact hAs) hl.1 hstk (lv_room (by rw [am_cv_sum]; exact hrs)) hd ⟨by omega, by omega⟩
  · exact va_runIN (cc := cc) (nL := nL) (Ts := am_gt) (own := own) (host := host) ⟨hC.1, hC.2.1, hC.2.2.1, hC.2.2.2.1, hts⟩ (hCm l G ad H.size) ⟨va_cnB na hts (am_goodC hcl.1) rfl rfl rfl (hC.2.2.2.2.2.2.2.2.2.2.1 _ hlk rfl) (hts _ hcl.2.1) hcl.2.2.1 hroom, hst.1, hts _ hst.2⟩ hpre rfl (by rw [List.length_map]; exact hAs) hl.1 hstk (lv_room (by rw [am_cv_sum]; exact hrs)) hd ⟨by omega, by omega⟩
end AMK
