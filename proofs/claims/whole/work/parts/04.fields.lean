theorem am_cl_ok {ci : Nat} {r : vw_C} (h : am_cl[ci]? = some r) : (∀ w ∈ u_ws r.1 r.2.1 r.2.2, w ∈ am_gt) ∧ (∀ k, k < r.2.2 → parseFieldDescriptor (r.2.1 k).2.2.1 = some ((am_ty.getD ci t_Covering) k)) ∧ (∀ a, a < r.2.2 → ∀ b, b < r.2.2 → a ≠ b → (r.2.1 a).2.1 ≠ (r.2.1 b).2.1) ∧ (am_kinds.getD ci []).length = r.2.2 := by
  match ci, h with
  | 0, h => cases h; exact ⟨fun w hw => am_gi (i_Covering w hw) (List.all_eq_true.mp (show (u_ws R_Covering F_Covering 4).all goodWord = true by decide +kernel) w hw), t_Covering_ok, n_Covering, rfl⟩
  | 1, h => cases h; exact ⟨fun w hw => am_gi (i_Days w hw) (List.all_eq_true.mp (show (u_ws R_Days F_Days 8).all goodWord = true by decide +kernel) w hw), t_Days_ok, n_Days, rfl⟩
  | 2, h => cases h; exact ⟨fun w hw => am_gi (i_DaysReader w hw) (List.all_eq_true.mp (show (u_ws R_DaysReader F_DaysReader 2).all goodWord = true by decide +kernel) w hw), t_DaysReader_ok, n_DaysReader, rfl⟩
  | 3, h => cases h; exact ⟨fun w hw => am_gi (i_Knowing w hw) (List.all_eq_true.mp (show (u_ws R_Knowing F_Knowing 3).all goodWord = true by decide +kernel) w hw), t_Knowing_ok, n_Knowing, rfl⟩
  | 4, h => cases h; exact ⟨fun w hw => am_gi (i_Life w hw) (List.all_eq_true.mp (show (u_ws R_Life F_Life 12).all goodWord = true by decide +kernel) w hw), t_Life_ok, n_Life, rfl⟩
  | 5, h => cases h; exact ⟨fun w hw => am_gi (i_Placings w hw) (List.all_eq_true.mp (show (u_ws R_Placings F_Placings 3).all goodWord = true by decide +kernel) w hw), t_Placings_ok, n_Placings, rfl⟩
  | 6, h => cases h; exact ⟨fun w hw => am_gi (i_Rows w hw) (List.all_eq_true.mp (show (u_ws R_Rows F_Rows 6).all goodWord = true by decide +kernel) w hw), t_Rows_ok, n_Rows, rfl⟩
  | 7, h => cases h; exact ⟨fun w hw => am_gi (i_Square w hw) (List.all_eq_true.mp (show (u_ws R_Square F_Square 16).all goodWord = true by decide +kernel) w hw), t_Square_ok, n_Square, rfl⟩
  | 8, h => cases h; exact ⟨fun w hw => am_gi (i_SquareReader w hw) (List.all_eq_true.mp (show (u_ws R_SquareReader F_SquareReader 3).all goodWord = true by decide +kernel) w hw), t_SquareReader_ok, n_SquareReader, rfl⟩
  | 9, h => cases h; exact ⟨fun w hw => am_gi (i_Tokens w hw) (List.all_eq_true.mp (show (u_ws R_Tokens F_Tokens 12).all goodWord = true by decide +kernel) w hw), t_Tokens_ok, n_Tokens, rfl⟩
  | 10, h => cases h; exact ⟨fun w hw => am_gi (i_Tray w hw) (List.all_eq_true.mp (show (u_ws R_Tray F_Tray 3).all goodWord = true by decide +kernel) w hw), t_Tray_ok, n_Tray, rfl⟩
  | 11, h => cases h; exact ⟨fun w hw => am_gi (i_UnseenRing w hw) (List.all_eq_true.mp (show (u_ws R_UnseenRing F_UnseenRing 18).all goodWord = true by decide +kernel) w hw), t_UnseenRing_ok, n_UnseenRing, rfl⟩
  | 12, h => cases h; exact ⟨fun w hw => am_gi (i_Model w hw) (List.all_eq_true.mp (show (u_ws R_Model F_Model 51).all goodWord = true by decide +kernel) w hw), t_Model_ok, n_Model, rfl⟩
  | n + 13, h => simp [am_cl] at h
def am_fld (own : String) (idx ci k : Nat) : Prop := ∃ r : vw_C, am_cl[ci]? = some r ∧ k < r.2.2 ∧ Cond.fieldLink own idx (r.2.1 k).1 (r.2.1 k).2.1 (r.2.1 k).2.2.1 ∈ am_gt
section AMF
variable {d : Nat} {own : String} {cc : ByteArray} {nL : Nat} {ini : Bool} {kc ks : Nat} {pc : Nat} {ls : List (Option Value)} {st : List Value} {Q : Option Value → am_St → Prop} {I : Nat → Nat → Int32} {L : Nat → Nat → Int64} {R : Nat → Nat → Option Nat} {sh : List am_Sh}
theorem am_get {idx ci k q kd n : Nat} {v : Value} (hf : am_fld own idx ci k) (hd : decode cc pc = .ok (.getfield idx, 3)) (hn : pc + 3 = n) (hk : (am_kinds.getD ci [])[k]? = some kd) (hs : sh[q]? = some (.inl ci)) (hv : ∀ ad, am_cv ad v = am_fv ad (I, L, R, sh) q k kd) (kk : am_Wp (d, own, cc, nL, ini) kc ks n ls (v :: st) (I, L, R, sh) Q) : am_Wp (d, own, cc, nL, ini) kc ks pc ls (.ref q :: st) (I, L, R, sh) Q := by
  intro p l e Rm s m args below meth c H locs cells slots QQ G ad A lsA hC h1 h2 hl hR hret
  subst hn
  obtain ⟨r, hc, hkn, hlk⟩ := hf
  obtain ⟨hin, -, -, -⟩ := am_cl_ok hc
  have he := am_ws_at (cA := G.2.1) (ad := ad) (σ := (I, L, R, sh)) hs
  refine va_get (C := r.1) (T := r.2.1) (N := r.2.2) (v := am_cv ad v) hC.1 hC.2.1 hC.2.2.2.2.1 hin hC.2.2.2.1 hC.2.2.2.2.2.2.2.1 hR.1 q he hc k hkn (hC.2.2.2.2.1 _ hlk) (fun _ h => h) ?_ hd (kk p l e Rm s m args below meth c H locs cells slots QQ G ad A lsA hC h1 h2 hl hR hret)
  rw [am_fs, List.getElem?_mapIdx, hk, hv]
  rfl
theorem am_getI {idx ci k q n : Nat} (hf : am_fld own idx ci k) (hd : decode cc pc = .ok (.getfield idx, 3)) (hn : pc + 3 = n) (hk : (am_kinds.getD ci [])[k]? = some 0) (hs : sh[q]? = some (.inl ci)) (kk : am_Wp (d, own, cc, nL, ini) kc ks n ls (.int (I q k) :: st) (I, L, R, sh) Q) : am_Wp (d, own, cc, nL, ini) kc ks pc ls (.ref q :: st) (I, L, R, sh) Q :=
  am_get hf hd hn hk hs (fun _ => rfl) kk
theorem am_getZ {idx ci k q n : Nat} (hf : am_fld own idx ci k) (hd : decode cc pc = .ok (.getfield idx, 3)) (hn : pc + 3 = n) (hk : (am_kinds.getD ci [])[k]? = some 3) (hs : sh[q]? = some (.inl ci)) (kk : am_Wp (d, own, cc, nL, ini) kc ks n ls (.int (I q k) :: st) (I, L, R, sh) Q) : am_Wp (d, own, cc, nL, ini) kc ks pc ls (.ref q :: st) (I, L, R, sh) Q :=
  am_get hf hd hn hk hs (fun _ => rfl) kk
theorem am_getL {idx ci k q n : Nat} (hf : am_fld own idx ci k) (hd : decode cc pc = .ok (.getfield idx, 3)) (hn : pc + 3 = n) (hk : (am_kinds.getD ci [])[k]? = some 1) (hs : sh[q]? = some (.inl ci)) (kk : am_Wp (d, own, cc, nL, ini) kc ks n ls (.long (L q k) :: st) (I, L, R, sh) Q) : am_Wp (d, own, cc, nL, ini) kc ks pc ls (.ref q :: st) (I, L, R, sh) Q :=
  am_get hf hd hn hk hs (fun _ => rfl) kk
theorem am_getR {idx ci k q n x : Nat} (hf : am_fld own idx ci k) (hd : decode cc pc = .ok (.getfield idx, 3)) (hn : pc + 3 = n) (hk : (am_kinds.getD ci [])[k]? = some 2) (hs : sh[q]? = some (.inl ci)) (hx : R q k = some x) (kk : am_Wp (d, own, cc, nL, ini) kc ks n ls (.ref x :: st) (I, L, R, sh) Q) : am_Wp (d, own, cc, nL, ini) kc ks pc ls (.ref q :: st) (I, L, R, sh) Q :=
  am_get hf hd hn hk hs (fun ad => by show Value.ref (ad x) = va_rf ((R q k).map ad); rw [hx]; rfl) kk
theorem am_getN {idx ci k q n : Nat} (hf : am_fld own idx ci k) (hd : decode cc pc = .ok (.getfield idx, 3)) (hn : pc + 3 = n) (hk : (am_kinds.getD ci [])[k]? = some 2) (hs : sh[q]? = some (.inl ci)) (hx : R q k = none) (kk : am_Wp (d, own, cc, nL, ini) kc ks n ls (.null :: st) (I, L, R, sh) Q) : am_Wp (d, own, cc, nL, ini) kc ks pc ls (.ref q :: st) (I, L, R, sh) Q :=
  am_get hf hd hn hk hs (fun ad => by show Value.null = va_rf ((R q k).map ad); rw [hx]; rfl) kk
/-- a field may be written here: it isn't final, or this is its class's constructor -/
def am_fin (own : String) (ini : Bool) (ci k : Nat) : Prop := ∃ r : vw_C, am_cl[ci]? = some r ∧ ((r.2.1 k).2.2.2 = false ∨ ((r.2.1 k).2.2.2 = true ∧ ini = true ∧ (r.2.1 k).1 = own))
/-- what a store at (q, k) leaves: the world's list with one cell changed -/
theorem am_Re_set {G : am_G} {ad : Nat → Nat} {σ σ' : am_St} {s : State} {A : Nat → Prop} {H H1 : Heap} {locs locs1 : List Loc} {q : Nat} {h : am_Sh} (hR : am_Re G ad σ s A H locs) (hi : σ.2.2.2[q]? = some h) (hs : σ'.2.2.2 = σ.2.2.2) (e1 : ∀ a, a ≠ q → σ'.1 a = σ.1 a) (e2 : ∀ a, a ≠ q → σ'.2.1 a = σ.2.1 a) (e3 : ∀ a, a ≠ q → σ'.2.2.1 a = σ.2.2.1 a) {x : va_E} (hx : am_cell G.2.1 ad σ' q h = x) (hP : va_P G.1 am_cl ((am_ws G.2.1 ad σ).set q (ad q, x)) H1) (hD : va_D A ((am_ws G.2.1 ad σ).set q (ad q, x))) (hS : va_S A s.heap H1 locs1) : am_Re G ad σ' s A H1 locs1 := by
  obtain ⟨-, -, -, hlen, hsc⟩ := hR
  rw [← am_ws_set hi hs e1 e2 e3 hx] at hP hD
  have hq : q < 1000 := Nat.lt_of_lt_of_le (List.getElem?_eq_some_iff.mp hi).1 hlen
  exact ⟨hP, hD, hS, by rw [hs]; exact hlen, by rw [am_sc, e1 1000 (by omega), e1 1001 (by omega)]; exact hsc⟩
/-- the same for Q: what the return is told does not hang on the store before -/
theorem am_ret_le {kc : Nat} {ad ad' : Nat → Nat} {σ σ1 σ' : am_St} (hs : σ1.2.2.2 = σ.2.2.2) (h : am_ext kc ad ad' σ1 σ') : am_ext kc ad ad' σ σ' := by
  rw [am_ext, hs] at h; exact h
theorem am_put {idx ci k q kd n : Nat} {v : Value} {σ σ' : am_St} (hf : am_fld own idx ci k) (hd : decode cc pc = .ok (.putfield idx, 3)) (hn : pc + 3 = n) (hfin : am_fin own ini ci k) (hk : (am_kinds.getD ci [])[k]? = some kd) (hs : σ.2.2.2[q]? = some (.inl ci))
    (hty : ∀ ad, narrow ((am_ty.getD ci t_Covering) k) (am_cv ad v) = am_cv ad v ∧ fits ((am_ty.getD ci t_Covering) k) (am_cv ad v) = true)
    (hsh : σ'.2.2.2 = σ.2.2.2) (e1 : ∀ a, a ≠ q → σ'.1 a = σ.1 a) (e2 : ∀ a, a ≠ q → σ'.2.1 a = σ.2.1 a) (e3 : ∀ a, a ≠ q → σ'.2.2.1 a = σ.2.2.1 a)
    (hv : ∀ ad, am_fv ad σ' q k kd = am_cv ad v) (ho : ∀ ad j kj, j ≠ k → am_fv ad σ' q j kj = am_fv ad σ q j kj)
    (kk : am_Wp (d, own, cc, nL, ini) kc ks n ls st σ' Q) : am_Wp (d, own, cc, nL, ini) kc ks pc ls (v :: .ref q :: st) σ Q := by
  intro p l e Rm s m args below meth c H locs cells slots QQ G ad A lsA hC h1 h2 hl hR hret
  subst hn
  obtain ⟨r, hc, hkn, hlk⟩ := hf
  obtain ⟨r', hc', hfn⟩ := hfin
  cases hc.symm.trans hc'
  obtain ⟨hin, hpt, hnm, hkl⟩ := am_cl_ok hc
  have he := am_ws_at (cA := G.2.1) (ad := ad) hs
  have hcell : am_cell G.2.1 ad σ' q (.inl ci) = .inr (ci, (am_fs ad σ q (am_kinds.getD ci [])).set k (am_cv ad v)) := by
    show Sum.inr (ci, am_fs ad σ' q (am_kinds.getD ci [])) = _
    congr 2
    apply List.ext_getElem?
    intro j
    rw [List.getElem?_set, am_fs, am_fs, List.getElem?_mapIdx, List.getElem?_mapIdx, List.length_mapIdx]
    by_cases hj : k = j
    · subst hj
      rw [if_pos rfl, if_pos (by rw [hkl]; exact hkn), hk]
      exact congrArg some (hv ad)
    · rw [if_neg hj]
      cases (am_kinds.getD ci [])[j]? with
      | none => rfl
      | some kj =>
        exact congrArg some (ho ad j kj (fun z => hj z.symm))
  have cont : ∀ (H1 : Heap) (locs1 : List Loc), va_P G.1 am_cl ((am_ws G.2.1 ad σ).set q (ad q, .inr (ci, (am_fs ad σ q (am_kinds.getD ci [])).set k (am_cv ad v)))) H1 → va_D A ((am_ws G.2.1 ad σ).set q (ad q, .inr (ci, (am_fs ad σ q (am_kinds.getD ci [])).set k (am_cv ad v)))) → va_S A s.heap H1 locs1 → W p l e Rm s m args below meth c H1 locs1 cells slots QQ (F0 m (pc + 3) lsA (st.map (am_cv ad))) := fun H1 locs1 hP hD hS =>
    kk p l e Rm s m args below meth c H1 locs1 cells slots QQ G ad A lsA hC h1 h2 hl (am_Re_set hR hs hsh e1 e2 e3 hcell hP hD hS) (fun r σ'' ad' H' locs' cells' slots' pc' lsA' g1 g2 g3 g4 g5 g6 => hret r σ'' ad' H' locs' cells' slots' pc' lsA' g1 (am_ret_le hsh g2) g3 g4 g5 g6)
  have hlen : k < (am_fs ad σ q (am_kinds.getD ci [])).length := by rw [am_fs, List.length_mapIdx, hkl]; exact hkn
  rcases hfn with hfn | ⟨hfn, hi, hown⟩
  · exact va_put (C := r.1) (T := r.2.1) (N := r.2.2) (v := am_cv ad v) hC.1 hC.2.1 hC.2.2.2.2.1 hin (am_ty.getD ci t_Covering) hpt hnm hC.2.2.2.1 hC.2.2.2.2.2.2.2.1 hR.1 hR.2.1 hR.2.2.1 q he hc k hkn (hC.2.2.2.2.1 _ hlk) (fun _ h => h) hfn (hpt k hkn) (hty ad).1 (hty ad).2 hlen hd cont
  · exact va_putF (C := r.1) (T := r.2.1) (N := r.2.2) (v := am_cv ad v) hC.1 hC.2.1 hC.2.2.2.2.1 hin (am_ty.getD ci t_Covering) hpt hnm hC.2.2.2.1 hC.2.2.2.2.2.2.2.1 hR.1 hR.2.1 hR.2.2.1 q he hc k hkn (hC.2.2.2.2.1 _ hlk) (fun _ h => h) hfn (hC.2.2.2.2.2.2.1 hi) hown (hpt k hkn) (hty ad).1 (hty ad).2 hlen hd cont
theorem am_u2_at {α : Type} (f : Nat → Nat → α) (i k : Nat) (v : α) : am_u2 f i k v i k = v := by simp [am_u2]
theorem am_u2_ne {α : Type} (f : Nat → Nat → α) (i k : Nat) (v : α) {b : Nat} (h : b ≠ k) (a : Nat) : am_u2 f i k v a b = f a b := by simp [am_u2, h]
theorem am_putI {idx ci k q n : Nat} {x : Int32} (hf : am_fld own idx ci k) (hd : decode cc pc = .ok (.putfield idx, 3)) (hn : pc + 3 = n) (hfin : am_fin own ini ci k) (hk : (am_kinds.getD ci [])[k]? = some 0) (hty : (am_ty.getD ci t_Covering) k = .int) (hs : sh[q]? = some (.inl ci)) (kk : am_Wp (d, own, cc, nL, ini) kc ks n ls st (am_u2 I q k x, L, R, sh) Q) : am_Wp (d, own, cc, nL, ini) kc ks pc ls (.int x :: .ref q :: st) (I, L, R, sh) Q :=
  am_put (σ := (I, L, R, sh)) (σ' := (am_u2 I q k x, L, R, sh)) hf hd hn hfin hk hs (fun ad => by rw [hty]; exact ⟨rfl, rfl⟩) rfl (fun a h => am_u2_row _ _ _ _ h) (fun _ _ => rfl) (fun _ _ => rfl) (fun ad => by show Value.int (am_u2 I q k x q k) = .int x; rw [am_u2_at]) (fun ad j kj h => by simp only [am_fv, am_u2_ne _ _ _ _ h]) kk
theorem am_putZ {idx ci k q n : Nat} {x : Int32} (hf : am_fld own idx ci k) (hd : decode cc pc = .ok (.putfield idx, 3)) (hn : pc + 3 = n) (hfin : am_fin own ini ci k) (hk : (am_kinds.getD ci [])[k]? = some 3) (hty : (am_ty.getD ci t_Covering) k = .boolean) (hs : sh[q]? = some (.inl ci)) (hz : x = 0 ∨ x = 1) (kk : am_Wp (d, own, cc, nL, ini) kc ks n ls st (am_u2 I q k x, L, R, sh) Q) : am_Wp (d, own, cc, nL, ini) kc ks pc ls (.int x :: .ref q :: st) (I, L, R, sh) Q :=
  am_put (σ := (I, L, R, sh)) (σ' := (am_u2 I q k x, L, R, sh)) hf hd hn hfin hk hs (fun ad => by rw [hty]; rcases hz with rfl | rfl <;> exact ⟨rfl, rfl⟩) rfl (fun a h => am_u2_row _ _ _ _ h) (fun _ _ => rfl) (fun _ _ => rfl) (fun ad => by show Value.int (am_u2 I q k x q k) = .int x; rw [am_u2_at]) (fun ad j kj h => by simp only [am_fv, am_u2_ne _ _ _ _ h]) kk
theorem am_putL {idx ci k q n : Nat} {x : Int64} (hf : am_fld own idx ci k) (hd : decode cc pc = .ok (.putfield idx, 3)) (hn : pc + 3 = n) (hfin : am_fin own ini ci k) (hk : (am_kinds.getD ci [])[k]? = some 1) (hty : (am_ty.getD ci t_Covering) k = .long) (hs : sh[q]? = some (.inl ci)) (kk : am_Wp (d, own, cc, nL, ini) kc ks n ls st (I, am_u2 L q k x, R, sh) Q) : am_Wp (d, own, cc, nL, ini) kc ks pc ls (.long x :: .ref q :: st) (I, L, R, sh) Q :=
  am_put (σ := (I, L, R, sh)) (σ' := (I, am_u2 L q k x, R, sh)) hf hd hn hfin hk hs (fun ad => by rw [hty]; exact ⟨rfl, rfl⟩) rfl (fun _ _ => rfl) (fun a h => am_u2_row _ _ _ _ h) (fun _ _ => rfl) (fun ad => by show Value.long (am_u2 L q k x q k) = .long x; rw [am_u2_at]) (fun ad j kj h => by simp only [am_fv, am_u2_ne _ _ _ _ h]) kk
theorem am_putR {idx ci k q n x : Nat} (hf : am_fld own idx ci k) (hd : decode cc pc = .ok (.putfield idx, 3)) (hn : pc + 3 = n) (hfin : am_fin own ini ci k) (hk : (am_kinds.getD ci [])[k]? = some 2) (hty : refKind ((am_ty.getD ci t_Covering) k) = true) (hs : sh[q]? = some (.inl ci)) (kk : am_Wp (d, own, cc, nL, ini) kc ks n ls st (I, L, am_u2 R q k (some x), sh) Q) : am_Wp (d, own, cc, nL, ini) kc ks pc ls (.ref x :: .ref q :: st) (I, L, R, sh) Q :=
  am_put (σ := (I, L, R, sh)) (σ' := (I, L, am_u2 R q k (some x), sh)) hf hd hn hfin hk hs (fun ad => by
    generalize (am_ty.getD ci t_Covering) k = ty at hty ⊢
    cases ty <;> first | (exact ⟨rfl, rfl⟩) | (simp [refKind] at hty)) rfl (fun _ _ => rfl) (fun _ _ => rfl) (fun a h => am_u2_row _ _ _ _ h) (fun ad => by show va_rf ((am_u2 R q k (some x) q k).map ad) = .ref (ad x); rw [am_u2_at]; rfl) (fun ad j kj h => by simp only [am_fv, am_u2_ne _ _ _ _ h]) kk
theorem am_putN {idx ci k q n : Nat} (hf : am_fld own idx ci k) (hd : decode cc pc = .ok (.putfield idx, 3)) (hn : pc + 3 = n) (hfin : am_fin own ini ci k) (hk : (am_kinds.getD ci [])[k]? = some 2) (hty : refKind ((am_ty.getD ci t_Covering) k) = true) (hs : sh[q]? = some (.inl ci)) (kk : am_Wp (d, own, cc, nL, ini) kc ks n ls st (I, L, am_u2 R q k none, sh) Q) : am_Wp (d, own, cc, nL, ini) kc ks pc ls (.null :: .ref q :: st) (I, L, R, sh) Q :=
  am_put (σ := (I, L, R, sh)) (σ' := (I, L, am_u2 R q k none, sh)) hf hd hn hfin hk hs (fun ad => by
    generalize (am_ty.getD ci t_Covering) k = ty at hty ⊢
    cases ty <;> first | (exact ⟨rfl, rfl⟩) | (simp [refKind] at hty)) rfl (fun _ _ => rfl) (fun _ _ => rfl) (fun a h => am_u2_row _ _ _ _ h) (fun ad => by show va_rf ((am_u2 R q k none q k).map ad) = .null; rw [am_u2_at]; rfl) (fun ad j kj h => by simp only [am_fv, am_u2_ne _ _ _ _ h]) kk

end AMF
