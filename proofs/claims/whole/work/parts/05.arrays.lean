section AMA
variable {d : Nat} {own : String} {cc : ByteArray} {nL : Nat} {ini : Bool} {kc ks : Nat} {pc : Nat} {ls : List (Option Value)} {st : List Value} {Q : Option Value → am_St → Prop} {I : Nat → Nat → Int32} {L : Nat → Nat → Int64} {R : Nat → Nat → Option Nat} {sh : List am_Sh}
theorem am_iald {q n w : Nat} {i : Int32} (hd : decode cc pc = .ok (.iaload, 1)) (hn : pc + 1 = n) (hs : sh[q]? = some (.inr (0, w))) (hi : vp_in i w) (kk : am_Wp (d, own, cc, nL, ini) kc ks n ls (.int (I q i.toNatClampNeg) :: st) (I, L, R, sh) Q) : am_Wp (d, own, cc, nL, ini) kc ks pc ls (.int i :: .ref q :: st) (I, L, R, sh) Q := by
  intro p l e Rm s m args below meth c H locs cells slots QQ G ad A lsA hC h1 h2 hl hR hret
  subst hn
  exact va_iald hC.1 hC.2.1 hC.2.2.2.2.2.2.2.1 hR.1 q 0 (am_ws_at (cA := G.2.1) (ad := ad) (σ := (I, L, R, sh)) hs) rfl hi hd (kk p l e Rm s m args below meth c H locs cells slots QQ G ad A lsA hC h1 h2 hl hR hret)
theorem am_bald {q n w : Nat} {i : Int32} (hd : decode cc pc = .ok (.baload, 1)) (hn : pc + 1 = n) (hs : sh[q]? = some (.inr (1, w))) (hi : vp_in i w) (kk : am_Wp (d, own, cc, nL, ini) kc ks n ls (.int (I q i.toNatClampNeg) :: st) (I, L, R, sh) Q) : am_Wp (d, own, cc, nL, ini) kc ks pc ls (.int i :: .ref q :: st) (I, L, R, sh) Q := by
  intro p l e Rm s m args below meth c H locs cells slots QQ G ad A lsA hC h1 h2 hl hR hret
  subst hn
  exact va_bald hC.1 hC.2.1 hC.2.2.2.2.2.2.2.1 hR.1 q 1 (am_ws_at (cA := G.2.1) (ad := ad) (σ := (I, L, R, sh)) hs) rfl hi hd (kk p l e Rm s m args below meth c H locs cells slots QQ G ad A lsA hC h1 h2 hl hR hret)
theorem am_zald {q n w : Nat} {i : Int32} (hd : decode cc pc = .ok (.baload, 1)) (hn : pc + 1 = n) (hs : sh[q]? = some (.inr (2, w))) (hi : vp_in i w) (kk : am_Wp (d, own, cc, nL, ini) kc ks n ls (.int (I q i.toNatClampNeg) :: st) (I, L, R, sh) Q) : am_Wp (d, own, cc, nL, ini) kc ks pc ls (.int i :: .ref q :: st) (I, L, R, sh) Q := by
  intro p l e Rm s m args below meth c H locs cells slots QQ G ad A lsA hC h1 h2 hl hR hret
  subst hn
  exact va_zald hC.1 hC.2.1 hC.2.2.2.2.2.2.2.1 hR.1 q 2 (am_ws_at (cA := G.2.1) (ad := ad) (σ := (I, L, R, sh)) hs) rfl hi hd (kk p l e Rm s m args below meth c H locs cells slots QQ G ad A lsA hC h1 h2 hl hR hret)
theorem am_lald {q n w : Nat} {i : Int32} (hd : decode cc pc = .ok (.laload, 1)) (hn : pc + 1 = n) (hs : sh[q]? = some (.inr (3, w))) (hi : vp_in i w) (kk : am_Wp (d, own, cc, nL, ini) kc ks n ls (.long (L q i.toNatClampNeg) :: st) (I, L, R, sh) Q) : am_Wp (d, own, cc, nL, ini) kc ks pc ls (.int i :: .ref q :: st) (I, L, R, sh) Q := by
  intro p l e Rm s m args below meth c H locs cells slots QQ G ad A lsA hC h1 h2 hl hR hret
  subst hn
  exact va_lald hC.1 hC.2.1 hC.2.2.2.2.2.2.2.1 hR.1 q 3 (am_ws_at (cA := G.2.1) (ad := ad) (σ := (I, L, R, sh)) hs) rfl hi hd (kk p l e Rm s m args below meth c H locs cells slots QQ G ad A lsA hC h1 h2 hl hR hret)
theorem am_aald4 {q n w x : Nat} {i : Int32} (hd : decode cc pc = .ok (.aaload, 1)) (hn : pc + 1 = n) (hs : sh[q]? = some (.inr (4, w))) (hi : vp_in i w) (hx : R q i.toNatClampNeg = some x) (kk : am_Wp (d, own, cc, nL, ini) kc ks n ls (.ref x :: st) (I, L, R, sh) Q) : am_Wp (d, own, cc, nL, ini) kc ks pc ls (.int i :: .ref q :: st) (I, L, R, sh) Q := by
  intro p l e Rm s m args below meth c H locs cells slots QQ G ad A lsA hC h1 h2 hl hR hret
  subst hn
  refine va_aldq hC.1 hC.2.1 hC.2.2.2.2.2.2.2.1 hR.1 q 4 (am_ws_at (cA := G.2.1) (ad := ad) (σ := (I, L, R, sh)) hs) rfl hi hd ?_
  have k1 := kk p l e Rm s m args below meth c H locs cells slots QQ G ad A lsA hC h1 h2 hl hR hret
  show W p l e Rm s m args below meth c H locs cells slots QQ (F0 m (pc + 1) lsA (va_rf ((R q i.toNatClampNeg).map ad) :: st.map (am_cv ad)))
  rw [hx]; exact k1
theorem am_aald5 {q n w x : Nat} {i : Int32} (hd : decode cc pc = .ok (.aaload, 1)) (hn : pc + 1 = n) (hs : sh[q]? = some (.inr (5, w))) (hi : vp_in i w) (hx : R q i.toNatClampNeg = some x) (kk : am_Wp (d, own, cc, nL, ini) kc ks n ls (.ref x :: st) (I, L, R, sh) Q) : am_Wp (d, own, cc, nL, ini) kc ks pc ls (.int i :: .ref q :: st) (I, L, R, sh) Q := by
  intro p l e Rm s m args below meth c H locs cells slots QQ G ad A lsA hC h1 h2 hl hR hret
  subst hn
  refine va_aldq hC.1 hC.2.1 hC.2.2.2.2.2.2.2.1 hR.1 q 5 (am_ws_at (cA := G.2.1) (ad := ad) (σ := (I, L, R, sh)) hs) rfl hi hd ?_
  have k1 := kk p l e Rm s m args below meth c H locs cells slots QQ G ad A lsA hC h1 h2 hl hR hret
  show W p l e Rm s m args below meth c H locs cells slots QQ (F0 m (pc + 1) lsA (va_rf ((R q i.toNatClampNeg).map ad) :: st.map (am_cv ad)))
  rw [hx]; exact k1
theorem am_updI (f : Nat → Nat → Int32) (q k : Nat) (x : Int32) : am_u2 f q k x q = upd (f q) k x := by funext j; simp [am_u2, upd]
theorem am_updL (f : Nat → Nat → Int64) (q k : Nat) (x : Int64) : am_u2 f q k x q = vp_updL (f q) k x := by funext j; simp [am_u2, vp_updL]
theorem am_iast {q n w : Nat} {i : Int32} {x : Int32} (hd : decode cc pc = .ok (.iastore, 1)) (hn : pc + 1 = n) (hs : sh[q]? = some (.inr (0, w))) (hi : vp_in i w) (kk : am_Wp (d, own, cc, nL, ini) kc ks n ls st (am_u2 I q i.toNatClampNeg x, L, R, sh) Q) : am_Wp (d, own, cc, nL, ini) kc ks pc ls (.int x :: .int i :: .ref q :: st) (I, L, R, sh) Q := by
  intro p l e Rm s m args below meth c H locs cells slots QQ G ad A lsA hC h1 h2 hl hR hret
  subst hn
  refine va_iast hC.1 hC.2.1 hC.2.2.2.2.2.2.2.1 hR.1 hR.2.1 hR.2.2.1 q 0 (am_ws_at (cA := G.2.1) (ad := ad) (σ := (I, L, R, sh)) hs) rfl hi hd (fun H1 locs1 hP hD hS => ?_)
  have hRe : am_Re G ad (am_u2 I q i.toNatClampNeg x, L, R, sh) s A H1 locs1 := am_Re_set (σ := (I, L, R, sh)) (σ' := (am_u2 I q i.toNatClampNeg x, L, R, sh)) hR hs rfl (fun a h => am_u2_row _ _ _ _ h) (fun _ _ => rfl) (fun _ _ => rfl) (x := .inl (G.2.1 0, w, .inl (am_u2 I q i.toNatClampNeg x q))) rfl (by rw [am_updI]; exact hP) (by rw [am_updI]; exact hD) hS
  exact kk p l e Rm s m args below meth c H1 locs1 cells slots QQ G ad A lsA hC h1 h2 hl hRe hret
theorem am_bast {q n w : Nat} {i : Int32} {x : Int32} (hd : decode cc pc = .ok (.bastore, 1)) (hn : pc + 1 = n) (hs : sh[q]? = some (.inr (1, w))) (hi : vp_in i w) (kk : am_Wp (d, own, cc, nL, ini) kc ks n ls st (am_u2 I q i.toNatClampNeg (vp_nar .byte x), L, R, sh) Q) : am_Wp (d, own, cc, nL, ini) kc ks pc ls (.int x :: .int i :: .ref q :: st) (I, L, R, sh) Q := by
  intro p l e Rm s m args below meth c H locs cells slots QQ G ad A lsA hC h1 h2 hl hR hret
  subst hn
  refine va_bast hC.1 hC.2.1 hC.2.2.2.2.2.2.2.1 hR.1 hR.2.1 hR.2.2.1 q 1 (am_ws_at (cA := G.2.1) (ad := ad) (σ := (I, L, R, sh)) hs) rfl hi hd (fun H1 locs1 hP hD hS => ?_)
  have hRe : am_Re G ad (am_u2 I q i.toNatClampNeg (vp_nar .byte x), L, R, sh) s A H1 locs1 := am_Re_set (σ := (I, L, R, sh)) (σ' := (am_u2 I q i.toNatClampNeg (vp_nar .byte x), L, R, sh)) hR hs rfl (fun a h => am_u2_row _ _ _ _ h) (fun _ _ => rfl) (fun _ _ => rfl) (x := .inl (G.2.1 1, w, .inl (am_u2 I q i.toNatClampNeg (vp_nar .byte x) q))) rfl (by rw [am_updI]; exact hP) (by rw [am_updI]; exact hD) hS
  exact kk p l e Rm s m args below meth c H1 locs1 cells slots QQ G ad A lsA hC h1 h2 hl hRe hret
theorem am_zast {q n w : Nat} {i : Int32} {x : Int32} (hd : decode cc pc = .ok (.bastore, 1)) (hn : pc + 1 = n) (hs : sh[q]? = some (.inr (2, w))) (hi : vp_in i w) (kk : am_Wp (d, own, cc, nL, ini) kc ks n ls st (am_u2 I q i.toNatClampNeg (vp_nar .boolean x), L, R, sh) Q) : am_Wp (d, own, cc, nL, ini) kc ks pc ls (.int x :: .int i :: .ref q :: st) (I, L, R, sh) Q := by
  intro p l e Rm s m args below meth c H locs cells slots QQ G ad A lsA hC h1 h2 hl hR hret
  subst hn
  refine va_zast hC.1 hC.2.1 hC.2.2.2.2.2.2.2.1 hR.1 hR.2.1 hR.2.2.1 q 2 (am_ws_at (cA := G.2.1) (ad := ad) (σ := (I, L, R, sh)) hs) rfl hi hd (fun H1 locs1 hP hD hS => ?_)
  have hRe : am_Re G ad (am_u2 I q i.toNatClampNeg (vp_nar .boolean x), L, R, sh) s A H1 locs1 := am_Re_set (σ := (I, L, R, sh)) (σ' := (am_u2 I q i.toNatClampNeg (vp_nar .boolean x), L, R, sh)) hR hs rfl (fun a h => am_u2_row _ _ _ _ h) (fun _ _ => rfl) (fun _ _ => rfl) (x := .inl (G.2.1 2, w, .inl (am_u2 I q i.toNatClampNeg (vp_nar .boolean x) q))) rfl (by rw [am_updI]; exact hP) (by rw [am_updI]; exact hD) hS
  exact kk p l e Rm s m args below meth c H1 locs1 cells slots QQ G ad A lsA hC h1 h2 hl hRe hret
theorem am_last {q n w : Nat} {i : Int32} {x : Int64} (hd : decode cc pc = .ok (.lastore, 1)) (hn : pc + 1 = n) (hs : sh[q]? = some (.inr (3, w))) (hi : vp_in i w) (kk : am_Wp (d, own, cc, nL, ini) kc ks n ls st (I, am_u2 L q i.toNatClampNeg x, R, sh) Q) : am_Wp (d, own, cc, nL, ini) kc ks pc ls (.long x :: .int i :: .ref q :: st) (I, L, R, sh) Q := by
  intro p l e Rm s m args below meth c H locs cells slots QQ G ad A lsA hC h1 h2 hl hR hret
  subst hn
  refine va_last hC.1 hC.2.1 hC.2.2.2.2.2.2.2.1 hR.1 hR.2.1 hR.2.2.1 q 3 (am_ws_at (cA := G.2.1) (ad := ad) (σ := (I, L, R, sh)) hs) rfl hi hd (fun H1 locs1 hP hD hS => ?_)
  have hRe : am_Re G ad (I, am_u2 L q i.toNatClampNeg x, R, sh) s A H1 locs1 := am_Re_set (σ := (I, L, R, sh)) (σ' := (I, am_u2 L q i.toNatClampNeg x, R, sh)) hR hs rfl (fun _ _ => rfl) (fun a h => am_u2_row _ _ _ _ h) (fun _ _ => rfl) (x := .inl (G.2.1 3, w, .inr (.inl (am_u2 L q i.toNatClampNeg x q)))) rfl (by rw [am_updL]; exact hP) (by rw [am_updL]; exact hD) hS
  exact kk p l e Rm s m args below meth c H1 locs1 cells slots QQ G ad A lsA hC h1 h2 hl hRe hret
theorem am_alen {q n w t : Nat} (hd : decode cc pc = .ok (.arraylength, 1)) (hn : pc + 1 = n) (hs : sh[q]? = some (.inr (t, w))) (ht : t < 6) (kk : am_Wp (d, own, cc, nL, ini) kc ks n ls (.int (nI w) :: st) (I, L, R, sh) Q) : am_Wp (d, own, cc, nL, ini) kc ks pc ls (.ref q :: st) (I, L, R, sh) Q := by
  intro p l e Rm s m args below meth c H locs cells slots QQ G ad A lsA hC h1 h2 hl hR hret
  subst hn
  have ht' : ∃ ty, (am_tys G.2.1)[t]? = some (G.2.1 t, ty) := by
    match t, ht with
    | 0, _ => exact ⟨_, rfl⟩
    | 1, _ => exact ⟨_, rfl⟩
    | 2, _ => exact ⟨_, rfl⟩
    | 3, _ => exact ⟨_, rfl⟩
    | 4, _ => exact ⟨_, rfl⟩
    | 5, _ => exact ⟨_, rfl⟩
  obtain ⟨ty, hty⟩ := ht'
  exact va_alen hC.1 hC.2.1 hC.2.2.2.2.2.2.2.1 hR.1 q t (am_ws_at (cA := G.2.1) (ad := ad) (σ := (I, L, R, sh)) hs) hty rfl hd (kk p l e Rm s m args below meth c H locs cells slots QQ G ad A lsA hC h1 h2 hl hR hret)
/-- the script's length, a number of the script -/
theorem am_slen {n : Nat} (hd : decode cc pc = .ok (.arraylength, 1)) (hn : pc + 1 = n) (kk : am_Wp (d, own, cc, nL, ini) kc ks n ls (.int (I 1001 0) :: st) (I, L, R, sh) Q) : am_Wp (d, own, cc, nL, ini) kc ks pc ls (.ref 1000 :: st) (I, L, R, sh) Q := by
  intro p l e Rm s m args below meth c H locs cells slots QQ G ad A lsA hC h1 h2 hl hR hret
  subst hn
  have hX := hC.2.2.2.2.2.2.2.2.2.1
  have hsc : nI G.2.2.1 = I 1001 0 := hR.2.2.2.2.2.1
  refine va_slen hC.1 hC.2.1 hX.1 hX.2.1 hX.2.2.1 hR.2.2.1 hd ?_
  have k1 := kk p l e Rm s m args below meth c H locs cells slots QQ G ad A lsA hC h1 h2 hl hR hret
  rw [← hsc] at k1
  exact k1
theorem am_sald {n w : Nat} {i : Int32} (hd : decode cc pc = .ok (.iaload, 1)) (hn : pc + 1 = n) (hw : nI w = I 1001 0) (hw2 : w ≤ 3072) (hi : vp_in i w) (kk : am_Wp (d, own, cc, nL, ini) kc ks n ls (.int (I 1000 i.toNatClampNeg) :: st) (I, L, R, sh) Q) : am_Wp (d, own, cc, nL, ini) kc ks pc ls (.int i :: .ref 1000 :: st) (I, L, R, sh) Q := by
  intro p l e Rm s m args below meth c H locs cells slots QQ G ad A lsA hC h1 h2 hl hR hret
  subst hn
  have hX := hC.2.2.2.2.2.2.2.2.2.1
  have hsc : nI G.2.2.1 = I 1001 0 := hR.2.2.2.2.2.1
  have hle : G.2.2.1 ≤ 3072 := hR.2.2.2.2.2.2
  have hG : G.2.2.1 = w := (nI_eq (by omega) (by omega)).mp (hsc.trans hw.symm)
  have hxs : G.2.2.2 = I 1000 := hR.2.2.2.2.1
  refine va_sld hC.1 hC.2.1 hX.1 hX.2.1 hX.2.2.1 hR.2.2.1 (by rw [hG]; exact hi) hd ?_
  have k1 := kk p l e Rm s m args below meth c H locs cells slots QQ G ad A lsA hC h1 h2 hl hR hret
  rw [hxs]
  exact k1
-- what is made
def am_okv (n : Nat) (v : Value) : Prop := match v with
  | .ref i => i < n ∨ 1000 ≤ i
  | _ => True
def am_ok (n : Nat) (ls : List (Option Value)) (st : List Value) : Prop := (∀ v, some v ∈ ls → am_okv n v) ∧ ∀ v ∈ st, am_okv n v
theorem am_okv_cv {n : Nat} {ad ad' : Nat → Nat} {v : Value} (h : am_okv n v) (ha : ∀ i, i < n ∨ 1000 ≤ i → ad' i = ad i) : am_cv ad' v = am_cv ad v := by
  cases v <;> first | rfl | (exact congrArg Value.ref (ha _ h))
theorem am_ok_lv {n nL : Nat} {ad ad' : Nat → Nat} {ls : List (Option Value)} {lsA : Array Slot} (h : ∀ v, some v ∈ ls → am_okv n v) (ha : ∀ i, i < n ∨ 1000 ≤ i → ad' i = ad i) (hl : am_lv ad ls nL lsA) : am_lv ad' ls nL lsA :=
  ⟨hl.1, hl.2.1, fun i v hi => by rw [am_okv_cv (h v (List.mem_of_getElem? hi)) ha]; exact hl.2.2 i v hi⟩
theorem am_ok_st {n : Nat} {ad ad' : Nat → Nat} {st : List Value} (h : ∀ v ∈ st, am_okv n v) (ha : ∀ i, i < n ∨ 1000 ≤ i → ad' i = ad i) : st.map (am_cv ad') = st.map (am_cv ad) :=
  List.map_congr_left fun v hv => am_okv_cv (h v hv) ha
theorem am_X_ad {G : am_G} {ad ad' : Nat → Nat} {A : Nat → Prop} {s : State} (ha : ∀ i, 1000 ≤ i → ad' i = ad i) (h : am_X G ad A s) : am_X G ad' A s := by
  have e : ∀ k : Nat, ad' (1000 + k) = ad (1000 + k) := fun k => ha _ (by omega)
  have e0 : ad' 1000 = ad 1000 := e 0
  have e1 : ad' 1001 = ad 1001 := e 1
  have e2 : ad' 1002 = ad 1002 := e 2
  have e3 : (fun i => ad' (1001 + i)) = fun i => ad (1001 + i) := by funext i; exact ha _ (by omega)
  have e4 : (fun i => ad' (1011 + i)) = fun i => ad (1011 + i) := by funext i; exact ha _ (by omega)
  have e5 : ad' 1020 = ad 1020 := e 20
  rw [am_X, e0, e1, e2, e3, e4, e5]
  exact h
def am_clr {α : Type} (f : Nat → Nat → α) (n : Nat) (z : α) : Nat → Nat → α := fun a b => if a = n then z else f a b
theorem am_clr_ne {α : Type} (f : Nat → Nat → α) (n : Nat) (z : α) {a : Nat} (h : a ≠ n) : am_clr f n z a = f a := by funext b; simp [am_clr, h]
theorem am_clr_at {α : Type} (f : Nat → Nat → α) (n : Nat) (z : α) : am_clr f n z n = fun _ => z := by funext b; simp [am_clr]
def am_push (I : Nat → Nat → Int32) (L : Nat → Nat → Int64) (R : Nat → Nat → Option Nat) (sh : List am_Sh) (h : am_Sh) : am_St := (am_clr I sh.length 0, am_clr L sh.length 0, am_clr R sh.length none, sh ++ [h])
/-- a cell's contents don't hang on the addresses of cells that are not there -/
def am_Rok (R : Nat → Nat → Option Nat) (sh : List am_Sh) : Prop := ∀ i k x, i < sh.length → R i k = some x → x < sh.length
theorem am_map_ad {n : Nat} {ad ad' : Nat → Nat} (ha : ∀ i, i < n ∨ 1000 ≤ i → ad' i = ad i) {r : Option Nat} (h : ∀ x, r = some x → x < n) : r.map ad' = r.map ad := by
  cases r with
  | none => rfl
  | some x => exact congrArg some (ha x (Or.inl (h x rfl)))
theorem am_ws_push {cA : Nat → ClassId} {ad ad' : Nat → Nat} {h : am_Sh} (hR : am_Rok R sh) (ha : ∀ i, i < sh.length ∨ 1000 ≤ i → ad' i = ad i) {x : va_E} (hx : am_cell cA ad' (am_push I L R sh h) sh.length h = x) : am_ws cA ad' (am_push I L R sh h) = am_ws cA ad (I, L, R, sh) ++ [(ad' sh.length, x)] := by
  subst hx
  apply List.ext_getElem?
  intro j
  by_cases hj : j < sh.length
  · rw [List.getElem?_append_left (by rw [am_ws_len]; exact hj), am_ws, am_ws, List.getElem?_mapIdx, List.getElem?_mapIdx]
    show Option.map _ (sh ++ [h])[j]? = _
    rw [List.getElem?_append_left hj]
    have hne : j ≠ sh.length := by omega
    cases hq : sh[j]? with
    | none => rfl
    | some q =>
      show some (ad' j, am_cell cA ad' (am_push I L R sh h) j q) = some (ad j, am_cell cA ad (I, L, R, sh) j q)
      rw [ha j (Or.inl hj)]
      have e1 : (am_push I L R sh h).1 j = I j := am_clr_ne _ _ _ hne
      have e2 : (am_push I L R sh h).2.1 j = L j := am_clr_ne _ _ _ hne
      have e3 : (am_push I L R sh h).2.2.1 j = R j := am_clr_ne _ _ _ hne
      have e4 : ∀ k, (R j k).map ad' = (R j k).map ad := fun k => am_map_ad ha (fun x hx => hR j k x hj hx)
      cases q with
      | inl ci => simp only [am_cell, am_fs, am_fv, e1, e2, e3, e4]
      | inr t => simp only [am_cell, am_arr, e1, e2, e3, e4]
  · rw [List.getElem?_append_right (by rw [am_ws_len]; show sh.length ≤ j; omega), am_ws_len]
    show (am_ws cA ad' (am_push I L R sh h))[j]? = [(ad' sh.length, am_cell cA ad' (am_push I L R sh h) sh.length h)][j - sh.length]?
    by_cases h0 : j = sh.length
    · subst h0
      rw [Nat.sub_self]
      exact am_ws_at (σ := am_push I L R sh h) (show (sh ++ [h])[sh.length]? = some h by simp)
    · have g1 : (am_ws cA ad' (am_push I L R sh h))[j]? = none := by
        rw [List.getElem?_eq_none_iff, am_ws_len]
        show (sh ++ [h]).length ≤ j
        simp; omega
      rw [g1, List.getElem?_eq_none_iff.mpr (by simp; omega)]
/-- the rest behind a cell that was made -/
theorem am_made {h : am_Sh} {N : Nat} (hR : am_Rok R sh) (hok : am_ok sh.length ls st) (hlen : sh.length < 1000) {G : am_G} {ad : Nat → Nat} {A : Nat → Prop} {p : Program} {l : Launch} {e : Env} {Rm : Room} {s : State} {m : MethodId} {args : Array Value} {below : List Frame} {meth : Method} {c : Code} {H H1 : Heap} {locs : List Loc} {cells slots : Nat} {QQ : State → Prop} {lsA : Array Slot} {n a : Nat} {x : va_E}
    (hC : am_C (d, own, cc, nL, ini) p Rm s m args meth c G ad A) (h1 : cells + (kc + 1) ≤ Rm.cells) (h2 : slots + (ks + N) ≤ Rm.slots) (hl : am_lv ad ls nL lsA) (hRe : am_Re G ad (I, L, R, sh) s A H locs)
    (hret : ∀ (r : Option Value) (σ' : am_St) (ad' : Nat → Nat) (H' : Heap) (locs' : List Loc) (cells' slots' pc' : Nat) (lsA' : Array Slot), Q r σ' → am_ext (kc + 1) ad ad' (I, L, R, sh) σ' → am_Re G ad' σ' s A H' locs' → cells' ≤ cells + (kc + 1) → slots' ≤ slots + (ks + N) → decode cc pc' = .ok (am_retI r, 1) → W p l e Rm s m args below meth c H' locs' cells' slots' QQ (F0 m pc' lsA' ((r.map (am_cv ad')).toList)))
    (hx : ∀ ad' : Nat → Nat, am_cell G.2.1 ad' (am_push I L R sh h) sh.length h = x)
    (hP : va_P G.1 am_cl (am_ws G.2.1 ad (I, L, R, sh) ++ [(a, x)]) H1) (hD : va_D A (am_ws G.2.1 ad (I, L, R, sh) ++ [(a, x)])) (hS : va_S A s.heap H1 locs)
    (kk : am_Wp (d, own, cc, nL, ini) kc ks n ls (.ref sh.length :: st) (am_push I L R sh h) Q) : W p l e Rm s m args below meth c H1 locs (cells + 1) (slots + N) QQ (F0 m n lsA (.ref a :: st.map (am_cv ad))) := by
  have ha : ∀ i, i < sh.length ∨ 1000 ≤ i → (fun i => if i = sh.length then a else ad i) i = ad i := fun i hi => by
    show (if i = sh.length then a else ad i) = ad i
    rw [if_neg (by omega)]
  generalize hae : (fun i => if i = sh.length then a else ad i) = ad' at ha
  have hat : ad' sh.length = a := by rw [← hae]; simp
  have hws := am_ws_push (cA := G.2.1) (I := I) (L := L) hR ha (hx ad')
  rw [hat] at hws
  rw [← hws] at hP hD
  have hC' : am_C (d, own, cc, nL, ini) p Rm s m args meth c G ad' A := by
    obtain ⟨a1, a2, a3, a4, a5, a6, a7, a8, a9, a10, a11⟩ := hC
    exact ⟨a1, a2, a3, a4, a5, a6, a7, a8, a9, am_X_ad (fun i hi => ha i (Or.inr hi)) a10, a11⟩
  have hRe' : am_Re G ad' (am_push I L R sh h) s A H1 locs := by
    refine ⟨hP, hD, hS, ?_, ?_⟩
    · show (sh ++ [h]).length ≤ 1000
      simp; omega
    · have hsc := hRe.2.2.2.2
      have e0 : (am_push I L R sh h).1 1000 = I 1000 := am_clr_ne _ _ _ (by omega)
      have e1 : (am_push I L R sh h).1 1001 = I 1001 := am_clr_ne _ _ _ (by omega)
      rw [am_sc, e0, e1]
      exact hsc
  have k1 := kk p l e Rm s m args below meth c H1 locs (cells + 1) (slots + N) QQ G ad' A lsA hC' (by omega) (by omega) (am_ok_lv hok.1 ha hl) hRe' (fun r σ' ad2 H' locs' cells' slots' pc' lsA' g1 g2 g3 g4 g5 g6 => hret r σ' ad2 H' locs' cells' slots' pc' lsA' g1 ⟨fun i hi => by
      rw [g2.1 i (by rcases hi with hi | hi
                     · exact Or.inl (show i < (sh ++ [h]).length by simp; have : i < sh.length := hi; omega)
                     · exact Or.inr hi)]
      exact ha i hi, fun z => by omega, Nat.le_trans (show sh.length ≤ (sh ++ [h]).length by simp) g2.2.2⟩ g3 (by omega) (by omega) g6)
  have e5 : (Value.ref sh.length :: st).map (am_cv ad') = .ref a :: st.map (am_cv ad) := by
    rw [List.map_cons, am_ok_st hok.2 ha]
    show Value.ref (ad' sh.length) :: _ = _
    rw [hat]
  rw [e5] at k1
  exact k1
theorem am_new {idx ci n N : Nat} (hd : decode cc pc = .ok (.new idx, 3)) (hn : pc + 3 = n) {r : vw_C} (hr : am_cl[ci]? = some r) (hN : r.2.2 = N) (hc1 : Cond.classLink own idx r.1 ∈ am_gt) (hc2 : Cond.instantiable r.1 r.2.2 ∈ am_gt) (hc3 : Cond.initialized r.1 ∈ am_gt) (hdf : ∀ j, j < r.2.2 → defaultValue ((am_ty.getD ci t_Covering) j) = vp_V ((am_kinds.getD ci []).map (fun kd => if kd = 1 then Value.long 0 else if kd = 2 then .null else .int 0)) j)
    (hR : am_Rok R sh) (hok : am_ok sh.length ls st) (hlen : sh.length < 1000) (kk : am_Wp (d, own, cc, nL, ini) kc ks n ls (.ref sh.length :: st) (am_push I L R sh (.inl ci)) Q) : am_Wp (d, own, cc, nL, ini) (kc + 1) (ks + N) pc ls st (I, L, R, sh) Q := by
  intro p l e Rm s m args below meth c H locs cells slots QQ G ad A lsA hC h1 h2 hl hRe hret
  subst hn; subst hN
  obtain ⟨hin, hpt, hnm, hkl⟩ := am_cl_ok hr
  refine va_new (C := r.1) (T := r.2.1) (N := r.2.2) (ci := ci) (fs := (am_kinds.getD ci []).map (fun kd => if kd = 1 then Value.long 0 else if kd = 2 then .null else .int 0)) hC.1 hC.2.1 hC.2.2.2.2.1 hin (am_ty.getD ci t_Covering) hpt hC.2.2.2.1 (hC.2.2.2.2.1 _ hc1) (hC.2.2.2.2.1 _ hc2) (hC.2.2.2.2.1 _ hc3) hC.2.2.2.2.2.2.2.1 hRe.1 hRe.2.1 hRe.2.2.1 hC.2.2.2.2.2.2.2.2.1 hr hdf (by omega) (by omega) hd (fun q H1 hP hD hS => ?_)
  refine am_made (h := .inl ci) hR hok hlen hC h1 h2 hl hRe hret (fun ad' => ?_) hP hD hS kk
  show Sum.inr (ci, am_fs ad' (am_push I L R sh (.inl ci)) sh.length (am_kinds.getD ci [])) = _
  congr 2
  apply List.ext_getElem?
  intro j
  rw [am_fs, List.getElem?_mapIdx, List.getElem?_map]
  cases (am_kinds.getD ci [])[j]? with
  | none => rfl
  | some kd =>
    refine congrArg some ?_
    show am_fv ad' (am_push I L R sh (.inl ci)) sh.length j kd = _
    simp only [am_fv, am_push, am_clr_at]
    rfl
end AMA
