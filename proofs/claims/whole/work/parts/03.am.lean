def am_tx0 : String := "square by odds organ tune hearer at coins likes dog play grind throw brush send empty any when up seen cup far loop end stop "
def am_tx1 : String := " square odds organ tune hearer dog by at coins likes play grind throw brush send empty any when loop end stop up seen cup far "
def am_len0 : Nat := 125
def am_byt0 : List Int32 := [115, 113, 117, 97, 114, 101, 32, 98, 121, 32, 111, 100, 100, 115, 32, 111, 114, 103, 97, 110, 32, 116, 117, 110, 101, 32, 104, 101, 97, 114, 101, 114, 32, 97, 116, 32, 99, 111, 105, 110, 115, 32, 108, 105, 107, 101, 115, 32, 100, 111, 103, 32, 112, 108, 97, 121, 32, 103, 114, 105, 110, 100, 32, 116, 104, 114, 111, 119, 32, 98, 114, 117, 115, 104, 32, 115, 101, 110, 100, 32, 101, 109, 112, 116, 121, 32, 97, 110, 121, 32, 119, 104, 101, 110, 32, 117, 112, 32, 115, 101, 101, 110, 32, 99, 117, 112, 32, 102, 97, 114, 32, 108, 111, 111, 112, 32, 101, 110, 100, 32, 115, 116, 111, 112, 32]
def am_len1 : Nat := 126
def am_byt1 : List Int32 := [32, 115, 113, 117, 97, 114, 101, 32, 111, 100, 100, 115, 32, 111, 114, 103, 97, 110, 32, 116, 117, 110, 101, 32, 104, 101, 97, 114, 101, 114, 32, 100, 111, 103, 32, 98, 121, 32, 97, 116, 32, 99, 111, 105, 110, 115, 32, 108, 105, 107, 101, 115, 32, 112, 108, 97, 121, 32, 103, 114, 105, 110, 100, 32, 116, 104, 114, 111, 119, 32, 98, 114, 117, 115, 104, 32, 115, 101, 110, 100, 32, 101, 109, 112, 116, 121, 32, 97, 110, 121, 32, 119, 104, 101, 110, 32, 108, 111, 111, 112, 32, 101, 110, 100, 32, 115, 116, 111, 112, 32, 117, 112, 32, 115, 101, 101, 110, 32, 99, 117, 112, 32, 102, 97, 114, 32]
/-! A store over numbers of cells: ints, longs and references by (cell, slot), and the cells' shapes. A judgement am_Wp over it: 'from here the method comes to its return with Q', whatever the machine's addresses are. One rule an instruction. -/
/-- the words that every later state keeps; the others (links of nest mates, arrays of references) are told beside them -/
def am_gt : List Cond := lw_tbl.filter goodWord
theorem am_gi {w : Cond} (h : w ∈ lw_tbl) (hg : goodWord w = true) : w ∈ am_gt := List.mem_filter.mpr ⟨h, hg⟩
theorem am_good : GoodIn am_gt am_gt := fun w hw => ⟨hw, good_of_word (List.mem_filter.mp hw).2⟩
def am_isNest : Cond → Bool
  | .methodLinkNest .. => true
  | _ => false
def am_N (s : State) : Prop := (∀ w ∈ lw_tbl, am_isNest w = true → va_Nw w s) ∧ va_AO "UnseenRing$Tray" s ∧ va_AO "UnseenRing$Square" s
theorem am_N.warm {s U : State} (hW : s.WarmedH U.vm) (h : am_N s) : am_N U := by
  refine ⟨fun w hw hn => ?_, h.2.1.moved hW.alike, h.2.2.moved hW.alike⟩
  have h1 := h.1 w hw hn
  cases w <;> first | exact va_Nw.warmM hW h1 | cases hn
theorem am_N.same {s U : State} (hv : s.vm = U.vm) (h : am_N s) : am_N U := by
  refine ⟨fun w hw hn => ?_, h.2.1.moved (by rw [hv]; exact Vm.Alike.refl _), h.2.2.moved (by rw [hv]; exact Vm.Alike.refl _)⟩
  have h1 := h.1 w hw hn
  cases w <;> first | exact va_Nw.same rfl hv h1 | cases hn
abbrev am_Sh : Type := Nat ⊕ (Nat × Nat)
abbrev am_St : Type := (Nat → Nat → Int32) × (Nat → Nat → Int64) × (Nat → Nat → Option Nat) × List am_Sh
abbrev am_G : Type := va_G × (Nat → ClassId) × Nat × (Nat → Int32)
/-- depth, class, code, locals, is it a constructor -/
abbrev am_M : Type := Nat × String × ByteArray × Nat × Bool
def am_cv (ad : Nat → Nat) (v : Value) : Value := match v with
  | .ref i => .ref (ad i)
  | .int x => .int x
  | .long x => .long x
  | .float x => .float x
  | .double x => .double x
  | .null => .null
  | .retAddr x => .retAddr x
theorem am_cv_cat (ad : Nat → Nat) (v : Value) : (am_cv ad v).category = v.category := by cases v <;> rfl
theorem am_cv_sum (ad : Nat → Nat) (st : List Value) : ((st.map (am_cv ad)).map fun v => v.category).sum = (st.map fun v => v.category).sum := by
  rw [List.map_map]
  congr 1
  exact List.map_congr_left fun v _ => am_cv_cat ad v
theorem am_cv_rf (ad : Nat → Nat) (r : Option Nat) : am_cv ad (va_rf r) = va_rf (r.map ad) := by cases r <;> rfl
def am_fv (ad : Nat → Nat) (σ : am_St) (i k kd : Nat) : Value := if kd = 1 then .long (σ.2.1 i k) else if kd = 2 then va_rf ((σ.2.2.1 i k).map ad) else .int (σ.1 i k)
def am_fs (ad : Nat → Nat) (σ : am_St) (i : Nat) (kds : List Nat) : List Value := kds.mapIdx (fun k kd => am_fv ad σ i k kd)
def am_arr (ad : Nat → Nat) (σ : am_St) (i t : Nat) : (Nat → Int32) ⊕ (Nat → Int64) ⊕ (Nat → UInt32) ⊕ (Nat → UInt64) ⊕ (Nat → Option Nat) := if t = 3 then .inr (.inl (σ.2.1 i)) else if 4 ≤ t then .inr (.inr (.inr (.inr (fun j => (σ.2.2.1 i j).map ad)))) else .inl (σ.1 i)
def am_cell (cA : Nat → ClassId) (ad : Nat → Nat) (σ : am_St) (i : Nat) (h : am_Sh) : va_E := match h with
  | .inl ci => .inr (ci, am_fs ad σ i (am_kinds.getD ci []))
  | .inr q => .inl (cA q.1, q.2, am_arr ad σ i q.1)
def am_ws (cA : Nat → ClassId) (ad : Nat → Nat) (σ : am_St) : va_W := σ.2.2.2.mapIdx (fun i h => (ad i, am_cell cA ad σ i h))
def am_tys (cA : Nat → ClassId) : List (ClassId × FieldType) := [(cA 0, .int), (cA 1, .byte), (cA 2, .boolean), (cA 3, .long), (cA 4, .object "UnseenRing$Tray"), (cA 5, .object "UnseenRing$Square")]
theorem am_ws_at {cA : Nat → ClassId} {ad : Nat → Nat} {σ : am_St} {i : Nat} {h : am_Sh} (hi : σ.2.2.2[i]? = some h) : (am_ws cA ad σ)[i]? = some (ad i, am_cell cA ad σ i h) := by
  rw [am_ws, List.getElem?_mapIdx, hi]; rfl
theorem am_ws_len (cA : Nat → ClassId) (ad : Nat → Nat) (σ : am_St) : (am_ws cA ad σ).length = σ.2.2.2.length := by rw [am_ws, List.length_mapIdx]
def am_u2 {α : Type} (f : Nat → Nat → α) (i k : Nat) (v : α) : Nat → Nat → α := fun a b => if a = i ∧ b = k then v else f a b
theorem am_u2_row {α : Type} (f : Nat → Nat → α) (i k : Nat) (v : α) {a : Nat} (h : a ≠ i) : am_u2 f i k v a = f a := by
  funext b; simp [am_u2, h]
/-- one cell changes: the world's list changes at its place -/
theorem am_ws_set {cA : Nat → ClassId} {ad : Nat → Nat} {σ σ' : am_St} {i : Nat} {h : am_Sh} (hi : σ.2.2.2[i]? = some h) (hs : σ'.2.2.2 = σ.2.2.2) (h1 : ∀ a, a ≠ i → σ'.1 a = σ.1 a) (h2 : ∀ a, a ≠ i → σ'.2.1 a = σ.2.1 a) (h3 : ∀ a, a ≠ i → σ'.2.2.1 a = σ.2.2.1 a) {x : va_E} (hx : am_cell cA ad σ' i h = x) : am_ws cA ad σ' = (am_ws cA ad σ).set i (ad i, x) := by
  subst hx
  apply List.ext_getElem?
  intro j
  rw [List.getElem?_set, am_ws_len]
  by_cases hj : i = j
  · subst hj
    have hl : i < σ.2.2.2.length := (List.getElem?_eq_some_iff.mp hi).1
    rw [if_pos rfl, if_pos hl, am_ws_at (h := h) (by rw [hs]; exact hi)]
  · rw [if_neg hj, am_ws, am_ws, List.getElem?_mapIdx, List.getElem?_mapIdx, hs]
    cases hq : σ.2.2.2[j]? with
    | none => rfl
    | some q =>
      show some (ad j, am_cell cA ad σ' j q) = some (ad j, am_cell cA ad σ j q)
      have hne : j ≠ i := fun e => hj e.symm
      have e1 := h1 j hne
      have e2 := h2 j hne
      have e3 := h3 j hne
      cases q with
      | inl ci =>
        simp only [am_cell, am_fs, am_fv, e1, e2, e3]
      | inr t =>
        simp only [am_cell, am_arr, e1, e2, e3]
def am_lv (ad : Nat → Nat) (ls : List (Option Value)) (nL : Nat) (lsA : Array Slot) : Prop := lsA.size = nL ∧ lv_wf lsA ∧ ∀ (i : Nat) (v : Value), ls[i]? = some (some v) → lsA[i]? = some (Slot.val (am_cv ad v))
def am_kill (ls : List (Option Value)) (i : Nat) : List (Option Value) := match i with
  | 0 => ls
  | j + 1 => match ls[j]? with
    | some (some v) => if v.category = 2 then ls.set j none else ls
    | _ => ls
def am_st1 (ls : List (Option Value)) (i : Nat) (v : Value) : List (Option Value) := (am_kill ls i).set i (some v)
def am_st2 (ls : List (Option Value)) (i : Nat) (v : Value) : List (Option Value) := ((am_kill ls i).set i (some v)).set (i + 1) none
def am_al (ad : Nat → Nat) (ls : List (Option Value)) : List (Nat × Value) := (List.range ls.length).filterMap (fun i => match ls[i]? with
  | some (some v) => some (i, am_cv ad v)
  | _ => none)
theorem am_al_mem {ad : Nat → Nat} {ls : List (Option Value)} {q : Nat × Value} : q ∈ am_al ad ls ↔ ∃ v, ls[q.1]? = some (some v) ∧ q.2 = am_cv ad v := by
  constructor
  · intro h
    obtain ⟨i, -, hi⟩ := List.mem_filterMap.mp h
    split at hi
    · rename_i v hv
      cases hi
      exact ⟨v, hv, rfl⟩
    · cases hi
  · intro ⟨v, hv, e⟩
    refine List.mem_filterMap.mpr ⟨q.1, List.mem_range.mpr (List.getElem?_eq_some_iff.mp hv).1, ?_⟩
    rw [hv]
    show some (q.1, am_cv ad v) = some q
    rw [← e]
theorem am_lv_has {ad : Nat → Nat} {ls : List (Option Value)} {nL : Nat} {lsA : Array Slot} (h : am_lv ad ls nL lsA) : lv_has lsA nL (am_al ad ls) := by
  refine ⟨h.1, h.2.1, fun q hq => ?_⟩
  obtain ⟨v, hv, e⟩ := am_al_mem.mp hq
  rw [e]
  exact h.2.2 _ _ hv
/-- what is still told of the other locals behind a store -/
theorem am_kill_in {ls : List (Option Value)} {i j : Nat} {w : Value} (h : (am_kill ls i)[j]? = some (some w)) : ls[j]? = some (some w) ∧ ¬ (j + 1 = i ∧ w.category = 2) := by
  cases i with
  | zero => exact ⟨h, fun q => by omega⟩
  | succ k =>
    simp only [am_kill] at h
    split at h
    · rename_i v hv
      split at h
      · rename_i hc
        rw [List.getElem?_set] at h
        split at h
        · split at h <;> cases h
        · rename_i hne
          exact ⟨h, fun q => hne (by omega)⟩
      · rename_i hc
        refine ⟨h, fun q => ?_⟩
        have e : j = k := by omega
        subst e
        rw [hv] at h
        cases h
        exact hc q.2
    · rename_i hv
      refine ⟨h, fun q => ?_⟩
      have e : j = k := by omega
      subst e
      exact hv _ h
theorem am_lv_st1 {ad : Nat → Nat} {ls : List (Option Value)} {nL i : Nat} {lsA : Array Slot} {v : Value} (h : am_lv ad ls nL lsA) (hi : i < nL) (hc : v.category = 1) : ∃ ls', storeLocals lsA i (am_cv ad v) = some ls' ∧ am_lv ad (am_st1 ls i v) nL ls' := by
  obtain ⟨ls', e, h'⟩ := lv_store1 (v := am_cv ad v) (am_lv_has h) hi (by rw [am_cv_cat]; exact hc)
  refine ⟨ls', e, h'.1, h'.2.1, fun j w hj => ?_⟩
  rw [am_st1, List.getElem?_set] at hj
  split at hj
  · rename_i e0
    split at hj
    · cases hj
      rw [← e0]
      exact h'.2.2 (i, am_cv ad v) List.mem_cons_self
    · cases hj
  · rename_i hne
    obtain ⟨h1, h2⟩ := am_kill_in hj
    refine h'.2.2 (j, am_cv ad w) (List.mem_cons_of_mem _ (List.mem_filter.mpr ⟨am_al_mem.mpr ⟨w, h1, rfl⟩, ?_⟩))
    have a1 : (j == i) = false := by simp; omega
    have a2 : (j + 1 == i && (am_cv ad w).category == 2) = false := by
      rw [am_cv_cat]
      by_cases q : j + 1 = i
      · have : ¬ w.category = 2 := fun z => h2 ⟨q, z⟩
        simp [this]
      · simp [q]
    simp only [a1, a2]; rfl
theorem am_lv_st2 {ad : Nat → Nat} {ls : List (Option Value)} {nL i : Nat} {lsA : Array Slot} {v : Value} (h : am_lv ad ls nL lsA) (hi : i + 1 < nL) (hc : v.category = 2) : ∃ ls', storeLocals lsA i (am_cv ad v) = some ls' ∧ am_lv ad (am_st2 ls i v) nL ls' := by
  obtain ⟨ls', e, h'⟩ := lv_store2 (v := am_cv ad v) (am_lv_has h) hi (by rw [am_cv_cat]; exact hc)
  refine ⟨ls', e, h'.1, h'.2.1, fun j w hj => ?_⟩
  rw [am_st2, List.getElem?_set] at hj
  split at hj
  · split at hj <;> cases hj
  · rename_i hne1
    rw [List.getElem?_set] at hj
    split at hj
    · rename_i e0
      split at hj
      · cases hj
        rw [← e0]
        exact h'.2.2 (i, am_cv ad v) List.mem_cons_self
      · cases hj
    · rename_i hne
      obtain ⟨h1, h2⟩ := am_kill_in hj
      refine h'.2.2 (j, am_cv ad w) (List.mem_cons_of_mem _ (List.mem_filter.mpr ⟨am_al_mem.mpr ⟨w, h1, rfl⟩, ?_⟩))
      have a1 : (j == i) = false := by simp; omega
      have a3 : (j == i + 1) = false := by simp; omega
      have a2 : (j + 1 == i && (am_cv ad w).category == 2) = false := by
        rw [am_cv_cat]
        by_cases q : j + 1 = i
        · have : ¬ w.category = 2 := fun z => h2 ⟨q, z⟩
          simp [this]
        · simp [q]
      simp only [a1, a2, a3]; rfl
/-- what stood in the heap before: the script (1000), the two texts (1001, 1002) and their bytes (1011, 1012), a static -/
def am_len : List Nat := [am_len0, am_len1]
def am_byt : List (List Int32) := [am_byt0, am_byt1]
def am_X (G : am_G) (ad : Nat → Nat) (A : Nat → Prop) (s : State) : Prop :=
  va_X (ad 1000) G.2.2.1 G.2.2.2 s s.heap ∧ ad 1000 < s.heap.size ∧ ¬ A (ad 1000) ∧
  vk_S 2 am_len am_byt (fun i => ad (1001 + i)) (fun i => ad (1011 + i)) A s s.heap ∧
  vk_R "UnseenRing$Tokens" 51 am_tx0 (ad 1001) s ∧ vk_R "UnseenRingModel" 214 am_tx1 (ad 1002) s ∧
  va_Z "java/lang/String" "COMPACT_STRINGS" "Z" (.int 1) A s s.heap ∧
  (va_Z "jdk/internal/util/Preconditions" "SIOOBE_FORMATTER" "Ljava/util/function/BiFunction;" .null A s s.heap ∨ va_Z "jdk/internal/util/Preconditions" "SIOOBE_FORMATTER" "Ljava/util/function/BiFunction;" (.ref (ad 1020)) A s s.heap)
def am_C (μ : am_M) (p : Program) (R : Room) (s : State) (m : MethodId) (args : Array Value) (meth : Method) (c : Code) (G : am_G) (ad : Nat → Nat) (A : Nat → Prop) : Prop :=
  p.tables.exec = Jvm.exec ∧ c.code = μ.2.2.1 ∧ c.maxLocals = μ.2.2.2.1 ∧ s.vm.findClass μ.2.1 = some m.cls ∧ (∀ w ∈ am_gt, w.before args s = true) ∧ (μ.1 ≤ R.frames ∧ 64 * μ.1 ≤ R.locals) ∧ (μ.2.2.2.2 = true → meth.name = "<init>") ∧ va_K G.1 am_cl (am_tys G.2.1) s ∧ (∀ q, s.heap.size ≤ q → A q) ∧ am_X G ad A s ∧ am_N s
/-- the script is row 1000 of the ints, its length at (1001, 0) -/
def am_sc (G : am_G) (σ : am_St) : Prop := G.2.2.2 = σ.1 1000 ∧ nI G.2.2.1 = σ.1 1001 0 ∧ G.2.2.1 ≤ 3072
def am_Re (G : am_G) (ad : Nat → Nat) (σ : am_St) (s : State) (A : Nat → Prop) (H : Heap) (locs : List Loc) : Prop :=
  va_P G.1 am_cl (am_ws G.2.1 ad σ) H ∧ va_D A (am_ws G.2.1 ad σ) ∧ va_S A s.heap H locs ∧ σ.2.2.2.length ≤ 1000 ∧ am_sc G σ
def am_ext (kc : Nat) (ad ad' : Nat → Nat) (σ σ' : am_St) : Prop := (∀ i, i < σ.2.2.2.length ∨ 1000 ≤ i → ad' i = ad i) ∧ (kc = 0 → ad' = ad) ∧ σ.2.2.2.length ≤ σ'.2.2.2.length
def am_retI (r : Option Value) : Instr := match r with
  | some (.int _) => .ireturn
  | some (.long _) => .lreturn
  | some (.float _) => .freturn
  | some (.double _) => .dreturn
  | some (.retAddr _) => .return_
  | some .null => .areturn
  | some (.ref _) => .areturn
  | none => .return_
def am_Wp (μ : am_M) (kc ks : Nat) (pc : Nat) (ls : List (Option Value)) (st : List Value) (σ : am_St) (Q : Option Value → am_St → Prop) : Prop :=
  ∀ (p : Program) (l : Launch) (e : Env) (R : Room) (s : State) (m : MethodId) (args : Array Value) (below : List Frame) (meth : Method) (c : Code) (H : Heap) (locs : List Loc) (cells slots : Nat) (QQ : State → Prop) (G : am_G) (ad : Nat → Nat) (A : Nat → Prop) (lsA : Array Slot),
    am_C μ p R s m args meth c G ad A → cells + kc ≤ R.cells → slots + ks ≤ R.slots → am_lv ad ls μ.2.2.2.1 lsA → am_Re G ad σ s A H locs →
    (∀ (r : Option Value) (σ' : am_St) (ad' : Nat → Nat) (H' : Heap) (locs' : List Loc) (cells' slots' pc' : Nat) (lsA' : Array Slot), Q r σ' → am_ext kc ad ad' σ σ' → am_Re G ad' σ' s A H' locs' → cells' ≤ cells + kc → slots' ≤ slots + ks → decode μ.2.2.1 pc' = .ok (am_retI r, 1) → W p l e R s m args below meth c H' locs' cells' slots' QQ (F0 m pc' lsA' ((r.map (am_cv ad')).toList))) →
    W p l e R s m args below meth c H locs cells slots QQ (F0 m pc lsA (st.map (am_cv ad)))
section AMR
variable {d : Nat} {own : String} {cc : ByteArray} {nL : Nat} {ini : Bool} {kc ks : Nat} {pc : Nat} {ls : List (Option Value)} {st : List Value} {σ : am_St} {Q : Option Value → am_St → Prop}
/-- an instruction that touches the stack alone -/
theorem am_pure {n : Nat} {st1 st2 : List Value} (h : ∀ (p : Program) (l : Launch) (e : Env) (R : Room) (s : State) (m : MethodId) (args : Array Value) (below : List Frame) (meth : Method) (c : Code) (H : Heap) (locs : List Loc) (cells slots : Nat) (QQ : State → Prop) (ad : Nat → Nat) (lsA : Array Slot), p.tables.exec = Jvm.exec → c.code = cc → am_lv ad ls nL lsA → s.vm.findClass own = some m.cls → (∀ w ∈ am_gt, w.before args s = true) →
      W p l e R s m args below meth c H locs cells slots QQ (F0 m n lsA (st2.map (am_cv ad))) → W p l e R s m args below meth c H locs cells slots QQ (F0 m pc lsA (st1.map (am_cv ad))))
    (k : am_Wp (d, own, cc, nL, ini) kc ks n ls st2 σ Q) : am_Wp (d, own, cc, nL, ini) kc ks pc ls st1 σ Q :=
  fun p l e R s m args below meth c H locs cells slots QQ G ad A lsA hC h1 h2 hl hR hret => h p l e R s m args below meth c H locs cells slots QQ ad lsA hC.1 hC.2.1 hl hC.2.2.2.1 hC.2.2.2.2.1 (k p l e R s m args below meth c H locs cells slots QQ G ad A lsA hC h1 h2 hl hR hret)
theorem am_iconst {z : Int} {v : Int32} (hd : decode cc pc = .ok (.iconst z, 1)) (hv : Int32.ofInt z = v) {n : Nat} (hn : pc + 1 = n) (k : am_Wp (d, own, cc, nL, ini) kc ks n ls (.int v :: st) σ Q) : am_Wp (d, own, cc, nL, ini) kc ks pc ls (st) σ Q := by
  subst hn
  exact am_pure (fun p l e R s m args below meth c H locs cells slots QQ ad lsA hx hb hl ho hts k => lv_iconst hx hb hd hv k) k
theorem am_bipush {z : Int} {v : Int32} (hd : decode cc pc = .ok (.bipush z, 2)) (hv : (Int8.ofInt z).toInt32 = v) {n : Nat} (hn : pc + 2 = n) (k : am_Wp (d, own, cc, nL, ini) kc ks n ls (.int v :: st) σ Q) : am_Wp (d, own, cc, nL, ini) kc ks pc ls (st) σ Q := by
  subst hn
  exact am_pure (fun p l e R s m args below meth c H locs cells slots QQ ad lsA hx hb hl ho hts k => lv_bipush hx hb hd hv k) k
theorem am_sipush {z : Int} {v : Int32} (hd : decode cc pc = .ok (.sipush z, 3)) (hv : (Int16.ofInt z).toInt32 = v) {n : Nat} (hn : pc + 3 = n) (k : am_Wp (d, own, cc, nL, ini) kc ks n ls (.int v :: st) σ Q) : am_Wp (d, own, cc, nL, ini) kc ks pc ls (st) σ Q := by
  subst hn
  exact am_pure (fun p l e R s m args below meth c H locs cells slots QQ ad lsA hx hb hl ho hts k => lv_sipush hx hb hd hv k) k
theorem am_lconst {z : Fin 2} {v : Int64} (hd : decode cc pc = .ok (.lconst z, 1)) (hv : Int64.ofNat (z : Nat) = v) {n : Nat} (hn : pc + 1 = n) (k : am_Wp (d, own, cc, nL, ini) kc ks n ls (.long v :: st) σ Q) : am_Wp (d, own, cc, nL, ini) kc ks pc ls (st) σ Q := by
  subst hn
  exact am_pure (fun p l e R s m args below meth c H locs cells slots QQ ad lsA hx hb hl ho hts k => lv_lconst hx hb hd hv k) k
theorem am_null (hd : decode cc pc = .ok (.aconst_null, 1)) {n : Nat} (hn : pc + 1 = n) (k : am_Wp (d, own, cc, nL, ini) kc ks n ls (.null :: st) σ Q) : am_Wp (d, own, cc, nL, ini) kc ks pc ls (st) σ Q := by
  subst hn
  exact am_pure (fun p l e R s m args below meth c H locs cells slots QQ ad lsA hx hb hl ho hts k => lv_null hx hb hd k) k
theorem am_ldc {index : Nat} {v : Int32} (hd : decode cc pc = .ok (.ldc index, 2)) (hc : Cond.constant own index v ∈ am_gt) {n : Nat} (hn : pc + 2 = n) (k : am_Wp (d, own, cc, nL, ini) kc ks n ls (.int v :: st) σ Q) : am_Wp (d, own, cc, nL, ini) kc ks pc ls (st) σ Q := by
  subst hn
  exact am_pure (fun p l e R s m args below meth c H locs cells slots QQ ad lsA hx hb hl ho hts k => lv_ldc hx hb ho (hts _ hc) hd k) k
theorem am_ldcw {index : Nat} {v : Int32} (hd : decode cc pc = .ok (.ldc_w index, 3)) (hc : Cond.constant own index v ∈ am_gt) {n : Nat} (hn : pc + 3 = n) (k : am_Wp (d, own, cc, nL, ini) kc ks n ls (.int v :: st) σ Q) : am_Wp (d, own, cc, nL, ini) kc ks pc ls (st) σ Q := by
  subst hn
  exact am_pure (fun p l e R s m args below meth c H locs cells slots QQ ad lsA hx hb hl ho hts k => lv_ldcw hx hb ho (hts _ hc) hd k) k
theorem am_ldc2 {index : Nat} {v : Int64} (hd : decode cc pc = .ok (.ldc2_w index, 3)) (hc : Cond.constantLong own index v ∈ am_gt) {n : Nat} (hn : pc + 3 = n) (k : am_Wp (d, own, cc, nL, ini) kc ks n ls (.long v :: st) σ Q) : am_Wp (d, own, cc, nL, ini) kc ks pc ls (st) σ Q := by
  subst hn
  exact am_pure (fun p l e R s m args below meth c H locs cells slots QQ ad lsA hx hb hl ho hts k => lv_ldc2 hx hb ho (hts _ hc) hd k) k
theorem am_iload {i : Nat} {x : Int32} (hd : decode cc pc = .ok (.iload i, 2)) (hi : ls[i]? = some (some (.int x))) {n : Nat} (hn : pc + 2 = n) (k : am_Wp (d, own, cc, nL, ini) kc ks n ls (.int x :: st) σ Q) : am_Wp (d, own, cc, nL, ini) kc ks pc ls (st) σ Q := by
  subst hn
  exact am_pure (fun p l e R s m args below meth c H locs cells slots QQ ad lsA hx hb hl ho hts k => lv_iload hx hb hd (hl.2.2 _ _ hi) k) k
theorem am_iload_n {i : Fin 4} {x : Int32} (hd : decode cc pc = .ok (.iload_n i, 1)) (hi : ls[(i : Nat)]? = some (some (.int x))) {n : Nat} (hn : pc + 1 = n) (k : am_Wp (d, own, cc, nL, ini) kc ks n ls (.int x :: st) σ Q) : am_Wp (d, own, cc, nL, ini) kc ks pc ls (st) σ Q := by
  subst hn
  exact am_pure (fun p l e R s m args below meth c H locs cells slots QQ ad lsA hx hb hl ho hts k => lv_iload_n hx hb hd rfl (hl.2.2 _ _ hi) k) k
theorem am_lload {i : Nat} {x : Int64} (hd : decode cc pc = .ok (.lload i, 2)) (hi : ls[i]? = some (some (.long x))) {n : Nat} (hn : pc + 2 = n) (k : am_Wp (d, own, cc, nL, ini) kc ks n ls (.long x :: st) σ Q) : am_Wp (d, own, cc, nL, ini) kc ks pc ls (st) σ Q := by
  subst hn
  exact am_pure (fun p l e R s m args below meth c H locs cells slots QQ ad lsA hx hb hl ho hts k => lv_lload hx hb hd (hl.2.2 _ _ hi) k) k
theorem am_lload_n {i : Fin 4} {x : Int64} (hd : decode cc pc = .ok (.lload_n i, 1)) (hi : ls[(i : Nat)]? = some (some (.long x))) {n : Nat} (hn : pc + 1 = n) (k : am_Wp (d, own, cc, nL, ini) kc ks n ls (.long x :: st) σ Q) : am_Wp (d, own, cc, nL, ini) kc ks pc ls (st) σ Q := by
  subst hn
  exact am_pure (fun p l e R s m args below meth c H locs cells slots QQ ad lsA hx hb hl ho hts k => lv_lload_n hx hb hd rfl (hl.2.2 _ _ hi) k) k
theorem am_aload {i : Nat} {x : Nat} (hd : decode cc pc = .ok (.aload i, 2)) (hi : ls[i]? = some (some (.ref x))) {n : Nat} (hn : pc + 2 = n) (k : am_Wp (d, own, cc, nL, ini) kc ks n ls (.ref x :: st) σ Q) : am_Wp (d, own, cc, nL, ini) kc ks pc ls (st) σ Q := by
  subst hn
  exact am_pure (fun p l e R s m args below meth c H locs cells slots QQ ad lsA hx hb hl ho hts k => lv_aload hx hb hd (hl.2.2 _ _ hi) k) k
theorem am_aload_n {i : Fin 4} {x : Nat} (hd : decode cc pc = .ok (.aload_n i, 1)) (hi : ls[(i : Nat)]? = some (some (.ref x))) {n : Nat} (hn : pc + 1 = n) (k : am_Wp (d, own, cc, nL, ini) kc ks n ls (.ref x :: st) σ Q) : am_Wp (d, own, cc, nL, ini) kc ks pc ls (st) σ Q := by
  subst hn
  exact am_pure (fun p l e R s m args below meth c H locs cells slots QQ ad lsA hx hb hl ho hts k => lv_aload_n hx hb hd rfl (hl.2.2 _ _ hi) k) k
theorem am_iadd {x y : Int32} (hd : decode cc pc = .ok (.iadd, 1)) {n : Nat} (hn : pc + 1 = n) (k : am_Wp (d, own, cc, nL, ini) kc ks n ls (.int (x + y) :: st) σ Q) : am_Wp (d, own, cc, nL, ini) kc ks pc ls (.int y :: .int x :: st) σ Q := by
  subst hn
  exact am_pure (fun p l e R s m args below meth c H locs cells slots QQ ad lsA hx hb hl ho hts k => lv_iadd hx hb hd k) k
theorem am_isub {x y : Int32} (hd : decode cc pc = .ok (.isub, 1)) {n : Nat} (hn : pc + 1 = n) (k : am_Wp (d, own, cc, nL, ini) kc ks n ls (.int (x - y) :: st) σ Q) : am_Wp (d, own, cc, nL, ini) kc ks pc ls (.int y :: .int x :: st) σ Q := by
  subst hn
  exact am_pure (fun p l e R s m args below meth c H locs cells slots QQ ad lsA hx hb hl ho hts k => lv_isub hx hb hd k) k
theorem am_imul {x y : Int32} (hd : decode cc pc = .ok (.imul, 1)) {n : Nat} (hn : pc + 1 = n) (k : am_Wp (d, own, cc, nL, ini) kc ks n ls (.int (x * y) :: st) σ Q) : am_Wp (d, own, cc, nL, ini) kc ks pc ls (.int y :: .int x :: st) σ Q := by
  subst hn
  exact am_pure (fun p l e R s m args below meth c H locs cells slots QQ ad lsA hx hb hl ho hts k => lv_imul hx hb hd k) k
theorem am_iand {x y : Int32} (hd : decode cc pc = .ok (.iand, 1)) {n : Nat} (hn : pc + 1 = n) (k : am_Wp (d, own, cc, nL, ini) kc ks n ls (.int (x &&& y) :: st) σ Q) : am_Wp (d, own, cc, nL, ini) kc ks pc ls (.int y :: .int x :: st) σ Q := by
  subst hn
  exact am_pure (fun p l e R s m args below meth c H locs cells slots QQ ad lsA hx hb hl ho hts k => lv_iand hx hb hd k) k
theorem am_ior {x y : Int32} (hd : decode cc pc = .ok (.ior, 1)) {n : Nat} (hn : pc + 1 = n) (k : am_Wp (d, own, cc, nL, ini) kc ks n ls (.int (x ||| y) :: st) σ Q) : am_Wp (d, own, cc, nL, ini) kc ks pc ls (.int y :: .int x :: st) σ Q := by
  subst hn
  exact am_pure (fun p l e R s m args below meth c H locs cells slots QQ ad lsA hx hb hl ho hts k => lv_ior hx hb hd k) k
theorem am_ixor {x y : Int32} (hd : decode cc pc = .ok (.ixor, 1)) {n : Nat} (hn : pc + 1 = n) (k : am_Wp (d, own, cc, nL, ini) kc ks n ls (.int (x ^^^ y) :: st) σ Q) : am_Wp (d, own, cc, nL, ini) kc ks pc ls (.int y :: .int x :: st) σ Q := by
  subst hn
  exact am_pure (fun p l e R s m args below meth c H locs cells slots QQ ad lsA hx hb hl ho hts k => lv_ixor hx hb hd k) k
theorem am_ishl {x y : Int32} (hd : decode cc pc = .ok (.ishl, 1)) {n : Nat} (hn : pc + 1 = n) (k : am_Wp (d, own, cc, nL, ini) kc ks n ls (.int (x <<< (y &&& 31)) :: st) σ Q) : am_Wp (d, own, cc, nL, ini) kc ks pc ls (.int y :: .int x :: st) σ Q := by
  subst hn
  exact am_pure (fun p l e R s m args below meth c H locs cells slots QQ ad lsA hx hb hl ho hts k => lv_ishl hx hb hd k) k
theorem am_ishr {x y : Int32} (hd : decode cc pc = .ok (.ishr, 1)) {n : Nat} (hn : pc + 1 = n) (k : am_Wp (d, own, cc, nL, ini) kc ks n ls (.int (x >>> (y &&& 31)) :: st) σ Q) : am_Wp (d, own, cc, nL, ini) kc ks pc ls (.int y :: .int x :: st) σ Q := by
  subst hn
  exact am_pure (fun p l e R s m args below meth c H locs cells slots QQ ad lsA hx hb hl ho hts k => lv_ishr hx hb hd k) k
theorem am_iushr {x y : Int32} (hd : decode cc pc = .ok (.iushr, 1)) {n : Nat} (hn : pc + 1 = n) (k : am_Wp (d, own, cc, nL, ini) kc ks n ls (.int (x.toUInt32 >>> (y.toUInt32 &&& Int32.toUInt32 31)).toInt32 :: st) σ Q) : am_Wp (d, own, cc, nL, ini) kc ks pc ls (.int y :: .int x :: st) σ Q := by
  subst hn
  exact am_pure (fun p l e R s m args below meth c H locs cells slots QQ ad lsA hx hb hl ho hts k => lv_iushr hx hb hd rfl k) k
theorem am_idiv {x y : Int32} (hd : decode cc pc = .ok (.idiv, 1)) (h0 : ¬ y = 0) {n : Nat} (hn : pc + 1 = n) (k : am_Wp (d, own, cc, nL, ini) kc ks n ls (.int (x / y) :: st) σ Q) : am_Wp (d, own, cc, nL, ini) kc ks pc ls (.int y :: .int x :: st) σ Q := by
  subst hn
  exact am_pure (fun p l e R s m args below meth c H locs cells slots QQ ad lsA hx hb hl ho hts k => lv_idiv hx hb hd h0 k) k
theorem am_irem {x y : Int32} (hd : decode cc pc = .ok (.irem, 1)) (h0 : ¬ y = 0) {n : Nat} (hn : pc + 1 = n) (k : am_Wp (d, own, cc, nL, ini) kc ks n ls (.int (x - x / y * y) :: st) σ Q) : am_Wp (d, own, cc, nL, ini) kc ks pc ls (.int y :: .int x :: st) σ Q := by
  subst hn
  exact am_pure (fun p l e R s m args below meth c H locs cells slots QQ ad lsA hx hb hl ho hts k => lv_irem hx hb hd h0 k) k
theorem am_ineg {x : Int32} (hd : decode cc pc = .ok (.ineg, 1)) {n : Nat} (hn : pc + 1 = n) (k : am_Wp (d, own, cc, nL, ini) kc ks n ls (.int (-x) :: st) σ Q) : am_Wp (d, own, cc, nL, ini) kc ks pc ls (.int x :: st) σ Q := by
  subst hn
  exact am_pure (fun p l e R s m args below meth c H locs cells slots QQ ad lsA hx hb hl ho hts k => lv_ineg hx hb hd k) k
theorem am_ladd {x y : Int64} (hd : decode cc pc = .ok (.ladd, 1)) {n : Nat} (hn : pc + 1 = n) (k : am_Wp (d, own, cc, nL, ini) kc ks n ls (.long (x + y) :: st) σ Q) : am_Wp (d, own, cc, nL, ini) kc ks pc ls (.long y :: .long x :: st) σ Q := by
  subst hn
  exact am_pure (fun p l e R s m args below meth c H locs cells slots QQ ad lsA hx hb hl ho hts k => lv_ladd hx hb hd k) k
theorem am_lsub {x y : Int64} (hd : decode cc pc = .ok (.lsub, 1)) {n : Nat} (hn : pc + 1 = n) (k : am_Wp (d, own, cc, nL, ini) kc ks n ls (.long (x - y) :: st) σ Q) : am_Wp (d, own, cc, nL, ini) kc ks pc ls (.long y :: .long x :: st) σ Q := by
  subst hn
  exact am_pure (fun p l e R s m args below meth c H locs cells slots QQ ad lsA hx hb hl ho hts k => lv_lsub hx hb hd k) k
theorem am_lmul {x y : Int64} (hd : decode cc pc = .ok (.lmul, 1)) {n : Nat} (hn : pc + 1 = n) (k : am_Wp (d, own, cc, nL, ini) kc ks n ls (.long (x * y) :: st) σ Q) : am_Wp (d, own, cc, nL, ini) kc ks pc ls (.long y :: .long x :: st) σ Q := by
  subst hn
  exact am_pure (fun p l e R s m args below meth c H locs cells slots QQ ad lsA hx hb hl ho hts k => lv_lmul hx hb hd k) k
theorem am_land {x y : Int64} (hd : decode cc pc = .ok (.land, 1)) {n : Nat} (hn : pc + 1 = n) (k : am_Wp (d, own, cc, nL, ini) kc ks n ls (.long (x &&& y) :: st) σ Q) : am_Wp (d, own, cc, nL, ini) kc ks pc ls (.long y :: .long x :: st) σ Q := by
  subst hn
  exact am_pure (fun p l e R s m args below meth c H locs cells slots QQ ad lsA hx hb hl ho hts k => lv_land hx hb hd k) k
theorem am_lor {x y : Int64} (hd : decode cc pc = .ok (.lor, 1)) {n : Nat} (hn : pc + 1 = n) (k : am_Wp (d, own, cc, nL, ini) kc ks n ls (.long (x ||| y) :: st) σ Q) : am_Wp (d, own, cc, nL, ini) kc ks pc ls (.long y :: .long x :: st) σ Q := by
  subst hn
  exact am_pure (fun p l e R s m args below meth c H locs cells slots QQ ad lsA hx hb hl ho hts k => lv_lor hx hb hd k) k
theorem am_ldiv {x y : Int64} (hd : decode cc pc = .ok (.ldiv, 1)) (h0 : ¬ y = 0) {n : Nat} (hn : pc + 1 = n) (k : am_Wp (d, own, cc, nL, ini) kc ks n ls (.long (x / y) :: st) σ Q) : am_Wp (d, own, cc, nL, ini) kc ks pc ls (.long y :: .long x :: st) σ Q := by
  subst hn
  exact am_pure (fun p l e R s m args below meth c H locs cells slots QQ ad lsA hx hb hl ho hts k => lv_ldiv hx hb hd h0 k) k
theorem am_lrem {x y : Int64} (hd : decode cc pc = .ok (.lrem, 1)) (h0 : ¬ y = 0) {n : Nat} (hn : pc + 1 = n) (k : am_Wp (d, own, cc, nL, ini) kc ks n ls (.long (x - x / y * y) :: st) σ Q) : am_Wp (d, own, cc, nL, ini) kc ks pc ls (.long y :: .long x :: st) σ Q := by
  subst hn
  exact am_pure (fun p l e R s m args below meth c H locs cells slots QQ ad lsA hx hb hl ho hts k => lv_lrem hx hb hd h0 k) k
theorem am_lshl {x : Int64} {y : Int32} (hd : decode cc pc = .ok (.lshl, 1)) {n : Nat} (hn : pc + 1 = n) (k : am_Wp (d, own, cc, nL, ini) kc ks n ls (.long (x <<< (y.toInt64 &&& 63)) :: st) σ Q) : am_Wp (d, own, cc, nL, ini) kc ks pc ls (.int y :: .long x :: st) σ Q := by
  subst hn
  exact am_pure (fun p l e R s m args below meth c H locs cells slots QQ ad lsA hx hb hl ho hts k => lv_lshl hx hb hd rfl k) k
theorem am_lshr {x : Int64} {y : Int32} (hd : decode cc pc = .ok (.lshr, 1)) {n : Nat} (hn : pc + 1 = n) (k : am_Wp (d, own, cc, nL, ini) kc ks n ls (.long (x >>> (y.toInt64 &&& 63)) :: st) σ Q) : am_Wp (d, own, cc, nL, ini) kc ks pc ls (.int y :: .long x :: st) σ Q := by
  subst hn
  exact am_pure (fun p l e R s m args below meth c H locs cells slots QQ ad lsA hx hb hl ho hts k => lv_lshr hx hb hd rfl k) k
theorem am_lcmp {x y : Int64} (hd : decode cc pc = .ok (.lcmp, 1)) {n : Nat} (hn : pc + 1 = n) (k : am_Wp (d, own, cc, nL, ini) kc ks n ls (.int (lg_cmp x y) :: st) σ Q) : am_Wp (d, own, cc, nL, ini) kc ks pc ls (.long y :: .long x :: st) σ Q := by
  subst hn
  exact am_pure (fun p l e R s m args below meth c H locs cells slots QQ ad lsA hx hb hl ho hts k => W.lcmp hx hb hd k) k
theorem am_i2l {x : Int32} (hd : decode cc pc = .ok (.i2l, 1)) {n : Nat} (hn : pc + 1 = n) (k : am_Wp (d, own, cc, nL, ini) kc ks n ls (.long x.toInt64 :: st) σ Q) : am_Wp (d, own, cc, nL, ini) kc ks pc ls (.int x :: st) σ Q := by
  subst hn
  exact am_pure (fun p l e R s m args below meth c H locs cells slots QQ ad lsA hx hb hl ho hts k => lv_i2l hx hb hd rfl k) k
theorem am_l2i {x : Int64} (hd : decode cc pc = .ok (.l2i, 1)) {n : Nat} (hn : pc + 1 = n) (k : am_Wp (d, own, cc, nL, ini) kc ks n ls (.int x.toInt32 :: st) σ Q) : am_Wp (d, own, cc, nL, ini) kc ks pc ls (.long x :: st) σ Q := by
  subst hn
  exact am_pure (fun p l e R s m args below meth c H locs cells slots QQ ad lsA hx hb hl ho hts k => lv_l2i hx hb hd rfl k) k
theorem am_i2b {x : Int32} (hd : decode cc pc = .ok (.i2b, 1)) {n : Nat} (hn : pc + 1 = n) (k : am_Wp (d, own, cc, nL, ini) kc ks n ls (.int x.toInt8.toInt32 :: st) σ Q) : am_Wp (d, own, cc, nL, ini) kc ks pc ls (.int x :: st) σ Q := by
  subst hn
  exact am_pure (fun p l e R s m args below meth c H locs cells slots QQ ad lsA hx hb hl ho hts k => lv_i2b hx hb hd rfl k) k
theorem am_i2s {x : Int32} (hd : decode cc pc = .ok (.i2s, 1)) {n : Nat} (hn : pc + 1 = n) (k : am_Wp (d, own, cc, nL, ini) kc ks n ls (.int x.toInt16.toInt32 :: st) σ Q) : am_Wp (d, own, cc, nL, ini) kc ks pc ls (.int x :: st) σ Q := by
  subst hn
  exact am_pure (fun p l e R s m args below meth c H locs cells slots QQ ad lsA hx hb hl ho hts k => lv_i2s hx hb hd rfl k) k
theorem am_i2c {x : Int32} (hd : decode cc pc = .ok (.i2c, 1)) {n : Nat} (hn : pc + 1 = n) (k : am_Wp (d, own, cc, nL, ini) kc ks n ls (.int (x.toUInt32 % 65536).toInt32 :: st) σ Q) : am_Wp (d, own, cc, nL, ini) kc ks pc ls (.int x :: st) σ Q := by
  subst hn
  exact am_pure (fun p l e R s m args below meth c H locs cells slots QQ ad lsA hx hb hl ho hts k => lv_i2c hx hb hd rfl k) k
theorem am_dup {v : Value} (hd : decode cc pc = .ok (.dup, 1)) (hv : v.category = 1) {n : Nat} (hn : pc + 1 = n) (k : am_Wp (d, own, cc, nL, ini) kc ks n ls (v :: v :: st) σ Q) : am_Wp (d, own, cc, nL, ini) kc ks pc ls (v :: st) σ Q := by
  subst hn
  exact am_pure (fun p l e R s m args below meth c H locs cells slots QQ ad lsA hx hb hl ho hts k => lv_dup hx hb hd (by rw [am_cv_cat]; exact hv) k) k
theorem am_pop {v : Value} (hd : decode cc pc = .ok (.pop, 1)) (hv : v.category = 1) {n : Nat} (hn : pc + 1 = n) (k : am_Wp (d, own, cc, nL, ini) kc ks n ls (st) σ Q) : am_Wp (d, own, cc, nL, ini) kc ks pc ls (v :: st) σ Q := by
  subst hn
  exact am_pure (fun p l e R s m args below meth c H locs cells slots QQ ad lsA hx hb hl ho hts k => lv_pop hx hb hd (by rw [am_cv_cat]; exact hv) k) k
theorem am_dup2 {v w : Value} (hd : decode cc pc = .ok (.dup2, 1)) (hv : v.category = 1) (hw : w.category = 1) {n : Nat} (hn : pc + 1 = n) (k : am_Wp (d, own, cc, nL, ini) kc ks n ls (v :: w :: v :: w :: st) σ Q) : am_Wp (d, own, cc, nL, ini) kc ks pc ls (v :: w :: st) σ Q := by
  subst hn
  exact am_pure (fun p l e R s m args below meth c H locs cells slots QQ ad lsA hx hb hl ho hts k => lv_dup2_11 hx hb hd (by rw [am_cv_cat]; exact hv) (by rw [am_cv_cat]; exact hw) k) k
theorem am_store {i n len : Nat} {v : Value} {ls' : List (Option Value)} {I : Instr} (hs : ∀ (ad : Nat → Nat) (lsA : Array Slot), am_lv ad ls nL lsA → ∃ lsB, am_lv ad ls' nL lsB ∧ ∀ (p : Program) (l : Launch) (e : Env) (R : Room) (s : State) (m : MethodId) (args : Array Value) (below : List Frame) (meth : Method) (c : Code) (H : Heap) (locs : List Loc) (cells slots : Nat) (QQ : State → Prop), p.tables.exec = Jvm.exec → c.code = cc → W p l e R s m args below meth c H locs cells slots QQ (F0 m n lsB (st.map (am_cv ad))) → W p l e R s m args below meth c H locs cells slots QQ (F0 m pc lsA ((v :: st).map (am_cv ad))))
    (k : am_Wp (d, own, cc, nL, ini) kc ks n ls' st σ Q) : am_Wp (d, own, cc, nL, ini) kc ks pc ls (v :: st) σ Q := by
  intro p l e R s m args below meth c H locs cells slots QQ G ad A lsA hC h1 h2 hl hR hret
  obtain ⟨lsB, hB, hw⟩ := hs ad lsA hl
  exact hw p l e R s m args below meth c H locs cells slots QQ hC.1 hC.2.1 (k p l e R s m args below meth c H locs cells slots QQ G ad A lsB hC h1 h2 hB hR hret)
theorem am_istore {i : Nat} {x : Int32} (hd : decode cc pc = .ok (.istore i, 2)) (hb : i < nL) {ls' : List (Option Value)} (hl : am_st1 ls i (.int x) = ls') {n : Nat} (hn : pc + 2 = n) (k : am_Wp (d, own, cc, nL, ini) kc ks n ls' st σ Q) : am_Wp (d, own, cc, nL, ini) kc ks pc ls (.int x :: st) σ Q := by
  intro p l e R s m args below meth c H locs cells slots QQ G ad A lsA hC h1 h2 h3 hR hret
  subst hn; subst hl
  obtain ⟨lsB, e1, hB⟩ := am_lv_st1 (v := .int x) h3 hb rfl
  have e2 : storeLocals lsA i (.int x) = some lsB := e1
  have kk := k p l e R s m args below meth c H locs cells slots QQ G ad A lsB hC h1 h2 hB hR hret
  intro T hT X
  obtain ⟨t, a, b⟩ := kk T hT X
  refine ⟨t, ?_, b⟩
  have hx := hC.1
  have hcc : c.code = cc := hC.2.1
  show Steps p.tables e below (T.setTop (F0 m pc lsA (.int x :: st.map (am_cv ad)))) t
  jvm_step X.here [X.here.top, ↓top_set X.here.top, hx, hcc, hd, e2, Value.isRef]
  exact a
theorem am_istore_n {i : Fin 4} {x : Int32} (hd : decode cc pc = .ok (.istore_n i, 1)) (hb : (i : Nat) < nL) {ls' : List (Option Value)} (hl : am_st1 ls (i : Nat) (.int x) = ls') {n : Nat} (hn : pc + 1 = n) (k : am_Wp (d, own, cc, nL, ini) kc ks n ls' st σ Q) : am_Wp (d, own, cc, nL, ini) kc ks pc ls (.int x :: st) σ Q := by
  intro p l e R s m args below meth c H locs cells slots QQ G ad A lsA hC h1 h2 h3 hR hret
  subst hn; subst hl
  obtain ⟨lsB, e1, hB⟩ := am_lv_st1 (v := .int x) h3 hb rfl
  have e2 : storeLocals lsA (i : Nat) (.int x) = some lsB := e1
  have kk := k p l e R s m args below meth c H locs cells slots QQ G ad A lsB hC h1 h2 hB hR hret
  intro T hT X
  obtain ⟨t, a, b⟩ := kk T hT X
  refine ⟨t, ?_, b⟩
  have hx := hC.1
  have hcc : c.code = cc := hC.2.1
  show Steps p.tables e below (T.setTop (F0 m pc lsA (.int x :: st.map (am_cv ad)))) t
  jvm_step X.here [X.here.top, ↓top_set X.here.top, hx, hcc, hd, e2, Value.isRef]
  exact a
theorem am_lstore {i : Nat} {x : Int64} (hd : decode cc pc = .ok (.lstore i, 2)) (hb : i + 1 < nL) {ls' : List (Option Value)} (hl : am_st2 ls i (.long x) = ls') {n : Nat} (hn : pc + 2 = n) (k : am_Wp (d, own, cc, nL, ini) kc ks n ls' st σ Q) : am_Wp (d, own, cc, nL, ini) kc ks pc ls (.long x :: st) σ Q := by
  intro p l e R s m args below meth c H locs cells slots QQ G ad A lsA hC h1 h2 h3 hR hret
  subst hn; subst hl
  obtain ⟨lsB, e1, hB⟩ := am_lv_st2 (v := .long x) h3 hb rfl
  have e2 : storeLocals lsA i (.long x) = some lsB := e1
  have kk := k p l e R s m args below meth c H locs cells slots QQ G ad A lsB hC h1 h2 hB hR hret
  intro T hT X
  obtain ⟨t, a, b⟩ := kk T hT X
  refine ⟨t, ?_, b⟩
  have hx := hC.1
  have hcc : c.code = cc := hC.2.1
  show Steps p.tables e below (T.setTop (F0 m pc lsA (.long x :: st.map (am_cv ad)))) t
  jvm_step X.here [X.here.top, ↓top_set X.here.top, hx, hcc, hd, e2, Value.isRef]
  exact a
theorem am_lstore_n {i : Fin 4} {x : Int64} (hd : decode cc pc = .ok (.lstore_n i, 1)) (hb : (i : Nat) + 1 < nL) {ls' : List (Option Value)} (hl : am_st2 ls (i : Nat) (.long x) = ls') {n : Nat} (hn : pc + 1 = n) (k : am_Wp (d, own, cc, nL, ini) kc ks n ls' st σ Q) : am_Wp (d, own, cc, nL, ini) kc ks pc ls (.long x :: st) σ Q := by
  intro p l e R s m args below meth c H locs cells slots QQ G ad A lsA hC h1 h2 h3 hR hret
  subst hn; subst hl
  obtain ⟨lsB, e1, hB⟩ := am_lv_st2 (v := .long x) h3 hb rfl
  have e2 : storeLocals lsA (i : Nat) (.long x) = some lsB := e1
  have kk := k p l e R s m args below meth c H locs cells slots QQ G ad A lsB hC h1 h2 hB hR hret
  intro T hT X
  obtain ⟨t, a, b⟩ := kk T hT X
  refine ⟨t, ?_, b⟩
  have hx := hC.1
  have hcc : c.code = cc := hC.2.1
  show Steps p.tables e below (T.setTop (F0 m pc lsA (.long x :: st.map (am_cv ad)))) t
  jvm_step X.here [X.here.top, ↓top_set X.here.top, hx, hcc, hd, e2, Value.isRef]
  exact a
theorem am_astore {i : Nat} {x : Nat} (hd : decode cc pc = .ok (.astore i, 2)) (hb : i < nL) {ls' : List (Option Value)} (hl : am_st1 ls i (.ref x) = ls') {n : Nat} (hn : pc + 2 = n) (k : am_Wp (d, own, cc, nL, ini) kc ks n ls' st σ Q) : am_Wp (d, own, cc, nL, ini) kc ks pc ls (.ref x :: st) σ Q := by
  intro p l e R s m args below meth c H locs cells slots QQ G ad A lsA hC h1 h2 h3 hR hret
  subst hn; subst hl
  obtain ⟨lsB, e1, hB⟩ := am_lv_st1 (v := .ref x) h3 hb rfl
  have e2 : storeLocals lsA i (.ref (ad x)) = some lsB := e1
  have kk := k p l e R s m args below meth c H locs cells slots QQ G ad A lsB hC h1 h2 hB hR hret
  intro T hT X
  obtain ⟨t, a, b⟩ := kk T hT X
  refine ⟨t, ?_, b⟩
  have hx := hC.1
  have hcc : c.code = cc := hC.2.1
  show Steps p.tables e below (T.setTop (F0 m pc lsA (.ref (ad x) :: st.map (am_cv ad)))) t
  jvm_step X.here [X.here.top, ↓top_set X.here.top, hx, hcc, hd, e2, Value.isRef]
  exact a
theorem am_astore_n {i : Fin 4} {x : Nat} (hd : decode cc pc = .ok (.astore_n i, 1)) (hb : (i : Nat) < nL) {ls' : List (Option Value)} (hl : am_st1 ls (i : Nat) (.ref x) = ls') {n : Nat} (hn : pc + 1 = n) (k : am_Wp (d, own, cc, nL, ini) kc ks n ls' st σ Q) : am_Wp (d, own, cc, nL, ini) kc ks pc ls (.ref x :: st) σ Q := by
  intro p l e R s m args below meth c H locs cells slots QQ G ad A lsA hC h1 h2 h3 hR hret
  subst hn; subst hl
  obtain ⟨lsB, e1, hB⟩ := am_lv_st1 (v := .ref x) h3 hb rfl
  have e2 : storeLocals lsA (i : Nat) (.ref (ad x)) = some lsB := e1
  have kk := k p l e R s m args below meth c H locs cells slots QQ G ad A lsB hC h1 h2 hB hR hret
  intro T hT X
  obtain ⟨t, a, b⟩ := kk T hT X
  refine ⟨t, ?_, b⟩
  have hx := hC.1
  have hcc : c.code = cc := hC.2.1
  show Steps p.tables e below (T.setTop (F0 m pc lsA (.ref (ad x) :: st.map (am_cv ad)))) t
  jvm_step X.here [X.here.top, ↓top_set X.here.top, hx, hcc, hd, e2, Value.isRef]
  exact a
theorem am_iinc {i : Nat} {z : Int} {x v : Int32} (hd : decode cc pc = .ok (.iinc i z, 3)) (hi : ls[i]? = some (some (.int x))) (hv : x + Int32.ofInt z = v) (hb : i < nL) {ls' : List (Option Value)} (hl : am_st1 ls i (.int v) = ls') {n : Nat} (hn : pc + 3 = n) (k : am_Wp (d, own, cc, nL, ini) kc ks n ls' st σ Q) : am_Wp (d, own, cc, nL, ini) kc ks pc ls st σ Q := by
  intro p l e R s m args below meth c H locs cells slots QQ G ad A lsA hC h1 h2 h3 hR hret
  subst hn; subst hl; subst hv
  obtain ⟨lsB, e1, hB⟩ := am_lv_st1 (v := .int (x + Int32.ofInt z)) h3 hb rfl
  have e2 : storeLocals lsA i (.int (x + Int32.ofInt z)) = some lsB := e1
  have hg : lsA[i]? = some (.val (.int x)) := h3.2.2 _ _ hi
  have kk := k p l e R s m args below meth c H locs cells slots QQ G ad A lsB hC h1 h2 hB hR hret
  intro T hT X
  obtain ⟨t, a, b⟩ := kk T hT X
  refine ⟨t, ?_, b⟩
  have hx := hC.1
  have hcc : c.code = cc := hC.2.1
  jvm_step X.here [X.here.top, ↓top_set X.here.top, hx, hcc, hd, hg, e2]
  exact a
theorem am_if_eq {x y : Int32} {off : Int} {tgt : Nat} (hd : decode cc pc = .ok (.ifCond .eq off, 3)) (ht : (pc : Int) + off = (tgt : Int)) {n : Nat} (hn : pc + 3 = n) (kt : x = 0 → am_Wp (d, own, cc, nL, ini) kc ks tgt ls st σ Q) (kf : ¬ x = 0 → am_Wp (d, own, cc, nL, ini) kc ks n ls st σ Q) : am_Wp (d, own, cc, nL, ini) kc ks pc ls (.int x :: st) σ Q := by
  subst hn
  intro p l e R s m args below meth c H locs cells slots QQ G ad A lsA hC h1 h2 h3 hR hret
  exact lv_if_eq hC.1 hC.2.1 hd ht (fun q => kt q p l e R s m args below meth c H locs cells slots QQ G ad A lsA hC h1 h2 h3 hR hret) (fun q => kf q p l e R s m args below meth c H locs cells slots QQ G ad A lsA hC h1 h2 h3 hR hret)
theorem am_if_ne {x y : Int32} {off : Int} {tgt : Nat} (hd : decode cc pc = .ok (.ifCond .ne off, 3)) (ht : (pc : Int) + off = (tgt : Int)) {n : Nat} (hn : pc + 3 = n) (kt : ¬ x = 0 → am_Wp (d, own, cc, nL, ini) kc ks tgt ls st σ Q) (kf : x = 0 → am_Wp (d, own, cc, nL, ini) kc ks n ls st σ Q) : am_Wp (d, own, cc, nL, ini) kc ks pc ls (.int x :: st) σ Q := by
  subst hn
  intro p l e R s m args below meth c H locs cells slots QQ G ad A lsA hC h1 h2 h3 hR hret
  exact lv_if_ne hC.1 hC.2.1 hd ht (fun q => kt q p l e R s m args below meth c H locs cells slots QQ G ad A lsA hC h1 h2 h3 hR hret) (fun q => kf q p l e R s m args below meth c H locs cells slots QQ G ad A lsA hC h1 h2 h3 hR hret)
theorem am_if_lt {x y : Int32} {off : Int} {tgt : Nat} (hd : decode cc pc = .ok (.ifCond .lt off, 3)) (ht : (pc : Int) + off = (tgt : Int)) {n : Nat} (hn : pc + 3 = n) (kt : x < 0 → am_Wp (d, own, cc, nL, ini) kc ks tgt ls st σ Q) (kf : ¬ x < 0 → am_Wp (d, own, cc, nL, ini) kc ks n ls st σ Q) : am_Wp (d, own, cc, nL, ini) kc ks pc ls (.int x :: st) σ Q := by
  subst hn
  intro p l e R s m args below meth c H locs cells slots QQ G ad A lsA hC h1 h2 h3 hR hret
  exact lv_if_lt hC.1 hC.2.1 hd ht (fun q => kt q p l e R s m args below meth c H locs cells slots QQ G ad A lsA hC h1 h2 h3 hR hret) (fun q => kf q p l e R s m args below meth c H locs cells slots QQ G ad A lsA hC h1 h2 h3 hR hret)
theorem am_if_ge {x y : Int32} {off : Int} {tgt : Nat} (hd : decode cc pc = .ok (.ifCond .ge off, 3)) (ht : (pc : Int) + off = (tgt : Int)) {n : Nat} (hn : pc + 3 = n) (kt : 0 ≤ x → am_Wp (d, own, cc, nL, ini) kc ks tgt ls st σ Q) (kf : ¬ 0 ≤ x → am_Wp (d, own, cc, nL, ini) kc ks n ls st σ Q) : am_Wp (d, own, cc, nL, ini) kc ks pc ls (.int x :: st) σ Q := by
  subst hn
  intro p l e R s m args below meth c H locs cells slots QQ G ad A lsA hC h1 h2 h3 hR hret
  exact lv_if_ge hC.1 hC.2.1 hd ht (fun q => kt q p l e R s m args below meth c H locs cells slots QQ G ad A lsA hC h1 h2 h3 hR hret) (fun q => kf q p l e R s m args below meth c H locs cells slots QQ G ad A lsA hC h1 h2 h3 hR hret)
theorem am_if_gt {x y : Int32} {off : Int} {tgt : Nat} (hd : decode cc pc = .ok (.ifCond .gt off, 3)) (ht : (pc : Int) + off = (tgt : Int)) {n : Nat} (hn : pc + 3 = n) (kt : 0 < x → am_Wp (d, own, cc, nL, ini) kc ks tgt ls st σ Q) (kf : ¬ 0 < x → am_Wp (d, own, cc, nL, ini) kc ks n ls st σ Q) : am_Wp (d, own, cc, nL, ini) kc ks pc ls (.int x :: st) σ Q := by
  subst hn
  intro p l e R s m args below meth c H locs cells slots QQ G ad A lsA hC h1 h2 h3 hR hret
  exact lv_if_gt hC.1 hC.2.1 hd ht (fun q => kt q p l e R s m args below meth c H locs cells slots QQ G ad A lsA hC h1 h2 h3 hR hret) (fun q => kf q p l e R s m args below meth c H locs cells slots QQ G ad A lsA hC h1 h2 h3 hR hret)
theorem am_if_le {x y : Int32} {off : Int} {tgt : Nat} (hd : decode cc pc = .ok (.ifCond .le off, 3)) (ht : (pc : Int) + off = (tgt : Int)) {n : Nat} (hn : pc + 3 = n) (kt : x ≤ 0 → am_Wp (d, own, cc, nL, ini) kc ks tgt ls st σ Q) (kf : ¬ x ≤ 0 → am_Wp (d, own, cc, nL, ini) kc ks n ls st σ Q) : am_Wp (d, own, cc, nL, ini) kc ks pc ls (.int x :: st) σ Q := by
  subst hn
  intro p l e R s m args below meth c H locs cells slots QQ G ad A lsA hC h1 h2 h3 hR hret
  exact lv_if_le hC.1 hC.2.1 hd ht (fun q => kt q p l e R s m args below meth c H locs cells slots QQ G ad A lsA hC h1 h2 h3 hR hret) (fun q => kf q p l e R s m args below meth c H locs cells slots QQ G ad A lsA hC h1 h2 h3 hR hret)
theorem am_icmp_eq {x y : Int32} {off : Int} {tgt : Nat} (hd : decode cc pc = .ok (.if_icmp .eq off, 3)) (ht : (pc : Int) + off = (tgt : Int)) {n : Nat} (hn : pc + 3 = n) (kt : x = y → am_Wp (d, own, cc, nL, ini) kc ks tgt ls st σ Q) (kf : ¬ x = y → am_Wp (d, own, cc, nL, ini) kc ks n ls st σ Q) : am_Wp (d, own, cc, nL, ini) kc ks pc ls (.int y :: .int x :: st) σ Q := by
  subst hn
  intro p l e R s m args below meth c H locs cells slots QQ G ad A lsA hC h1 h2 h3 hR hret
  exact lv_icmp_eq hC.1 hC.2.1 hd ht (fun q => kt q p l e R s m args below meth c H locs cells slots QQ G ad A lsA hC h1 h2 h3 hR hret) (fun q => kf q p l e R s m args below meth c H locs cells slots QQ G ad A lsA hC h1 h2 h3 hR hret)
theorem am_icmp_ne {x y : Int32} {off : Int} {tgt : Nat} (hd : decode cc pc = .ok (.if_icmp .ne off, 3)) (ht : (pc : Int) + off = (tgt : Int)) {n : Nat} (hn : pc + 3 = n) (kt : ¬ x = y → am_Wp (d, own, cc, nL, ini) kc ks tgt ls st σ Q) (kf : x = y → am_Wp (d, own, cc, nL, ini) kc ks n ls st σ Q) : am_Wp (d, own, cc, nL, ini) kc ks pc ls (.int y :: .int x :: st) σ Q := by
  subst hn
  intro p l e R s m args below meth c H locs cells slots QQ G ad A lsA hC h1 h2 h3 hR hret
  exact lv_icmp_ne hC.1 hC.2.1 hd ht (fun q => kt q p l e R s m args below meth c H locs cells slots QQ G ad A lsA hC h1 h2 h3 hR hret) (fun q => kf q p l e R s m args below meth c H locs cells slots QQ G ad A lsA hC h1 h2 h3 hR hret)
theorem am_icmp_lt {x y : Int32} {off : Int} {tgt : Nat} (hd : decode cc pc = .ok (.if_icmp .lt off, 3)) (ht : (pc : Int) + off = (tgt : Int)) {n : Nat} (hn : pc + 3 = n) (kt : x < y → am_Wp (d, own, cc, nL, ini) kc ks tgt ls st σ Q) (kf : ¬ x < y → am_Wp (d, own, cc, nL, ini) kc ks n ls st σ Q) : am_Wp (d, own, cc, nL, ini) kc ks pc ls (.int y :: .int x :: st) σ Q := by
  subst hn
  intro p l e R s m args below meth c H locs cells slots QQ G ad A lsA hC h1 h2 h3 hR hret
  exact lv_icmp_lt hC.1 hC.2.1 hd ht (fun q => kt q p l e R s m args below meth c H locs cells slots QQ G ad A lsA hC h1 h2 h3 hR hret) (fun q => kf q p l e R s m args below meth c H locs cells slots QQ G ad A lsA hC h1 h2 h3 hR hret)
theorem am_icmp_ge {x y : Int32} {off : Int} {tgt : Nat} (hd : decode cc pc = .ok (.if_icmp .ge off, 3)) (ht : (pc : Int) + off = (tgt : Int)) {n : Nat} (hn : pc + 3 = n) (kt : y ≤ x → am_Wp (d, own, cc, nL, ini) kc ks tgt ls st σ Q) (kf : ¬ y ≤ x → am_Wp (d, own, cc, nL, ini) kc ks n ls st σ Q) : am_Wp (d, own, cc, nL, ini) kc ks pc ls (.int y :: .int x :: st) σ Q := by
  subst hn
  intro p l e R s m args below meth c H locs cells slots QQ G ad A lsA hC h1 h2 h3 hR hret
  exact lv_icmp_ge hC.1 hC.2.1 hd ht (fun q => kt q p l e R s m args below meth c H locs cells slots QQ G ad A lsA hC h1 h2 h3 hR hret) (fun q => kf q p l e R s m args below meth c H locs cells slots QQ G ad A lsA hC h1 h2 h3 hR hret)
theorem am_icmp_gt {x y : Int32} {off : Int} {tgt : Nat} (hd : decode cc pc = .ok (.if_icmp .gt off, 3)) (ht : (pc : Int) + off = (tgt : Int)) {n : Nat} (hn : pc + 3 = n) (kt : y < x → am_Wp (d, own, cc, nL, ini) kc ks tgt ls st σ Q) (kf : ¬ y < x → am_Wp (d, own, cc, nL, ini) kc ks n ls st σ Q) : am_Wp (d, own, cc, nL, ini) kc ks pc ls (.int y :: .int x :: st) σ Q := by
  subst hn
  intro p l e R s m args below meth c H locs cells slots QQ G ad A lsA hC h1 h2 h3 hR hret
  exact lv_icmp_gt hC.1 hC.2.1 hd ht (fun q => kt q p l e R s m args below meth c H locs cells slots QQ G ad A lsA hC h1 h2 h3 hR hret) (fun q => kf q p l e R s m args below meth c H locs cells slots QQ G ad A lsA hC h1 h2 h3 hR hret)
theorem am_icmp_le {x y : Int32} {off : Int} {tgt : Nat} (hd : decode cc pc = .ok (.if_icmp .le off, 3)) (ht : (pc : Int) + off = (tgt : Int)) {n : Nat} (hn : pc + 3 = n) (kt : x ≤ y → am_Wp (d, own, cc, nL, ini) kc ks tgt ls st σ Q) (kf : ¬ x ≤ y → am_Wp (d, own, cc, nL, ini) kc ks n ls st σ Q) : am_Wp (d, own, cc, nL, ini) kc ks pc ls (.int y :: .int x :: st) σ Q := by
  subst hn
  intro p l e R s m args below meth c H locs cells slots QQ G ad A lsA hC h1 h2 h3 hR hret
  exact lv_icmp_le hC.1 hC.2.1 hd ht (fun q => kt q p l e R s m args below meth c H locs cells slots QQ G ad A lsA hC h1 h2 h3 hR hret) (fun q => kf q p l e R s m args below meth c H locs cells slots QQ G ad A lsA hC h1 h2 h3 hR hret)
theorem am_goto {off : Int} {tgt : Nat} (hd : decode cc pc = .ok (.goto off, 3)) (ht : (pc : Int) + off = (tgt : Int)) (k : am_Wp (d, own, cc, nL, ini) kc ks tgt ls st σ Q) : am_Wp (d, own, cc, nL, ini) kc ks pc ls st σ Q :=
  am_pure (fun p l e R s m args below meth c H locs cells slots QQ ad lsA hx hb hl ho hts k => lv_goto hx hb hd ht k) k
theorem am_ifnull {x : Nat} {off : Int} (hd : decode cc pc = .ok (.ifnull off, 3)) {n : Nat} (hn : pc + 3 = n) (k : am_Wp (d, own, cc, nL, ini) kc ks n ls st σ Q) : am_Wp (d, own, cc, nL, ini) kc ks pc ls (.ref x :: st) σ Q := by
  subst hn
  exact am_pure (fun p l e R s m args below meth c H locs cells slots QQ ad lsA hx hb hl ho hts k => lv_ifnull hx hb hd k) k
theorem am_ifnullN {off : Int} {tgt : Nat} (hd : decode cc pc = .ok (.ifnull off, 3)) (ht : (pc : Int) + off = (tgt : Int)) (k : am_Wp (d, own, cc, nL, ini) kc ks tgt ls st σ Q) : am_Wp (d, own, cc, nL, ini) kc ks pc ls (.null :: st) σ Q :=
  am_pure (fun p l e R s m args below meth c H locs cells slots QQ ad lsA hx hb hl ho hts k => lv_ifnullN hx hb hd ht k) k
theorem am_tableOut {dflt lo hi : Int} {offs : Array Int} {len : Nat} {x : Int32} {tgt : Nat} (hd : decode cc pc = .ok (.tableswitch dflt lo hi offs, len)) (h : x.toInt < lo ∨ hi < x.toInt) (ht : (pc : Int) + dflt = (tgt : Int)) (k : am_Wp (d, own, cc, nL, ini) kc ks tgt ls st σ Q) : am_Wp (d, own, cc, nL, ini) kc ks pc ls (.int x :: st) σ Q :=
  am_pure (fun p l e R s m args below meth c H locs cells slots QQ ad lsA hx hb hl ho hts k => lv_tableOut hx hb hd h ht k) k
theorem am_tableIn {dflt lo hi : Int} {offs : Array Int} {len : Nat} {x : Int32} {off : Int} {tgt : Nat} (hd : decode cc pc = .ok (.tableswitch dflt lo hi offs, len)) (h1 : ¬ x.toInt < lo) (h2 : ¬ hi < x.toInt) (ho : offs[(x.toInt - lo).toNat]? = some off) (ht : (pc : Int) + off = (tgt : Int)) (k : am_Wp (d, own, cc, nL, ini) kc ks tgt ls st σ Q) : am_Wp (d, own, cc, nL, ini) kc ks pc ls (.int x :: st) σ Q :=
  am_pure (fun p l e R s m args below meth c H locs cells slots QQ ad lsA hx hb hl _ hts k => lv_tableIn hx hb hd h1 h2 ho ht k) k
end AMR
