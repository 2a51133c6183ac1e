section AMC
variable {d : Nat} {own : String} {cc : ByteArray} {nL : Nat} {ini : Bool} {kc ks : Nat} {pc : Nat} {ls : List (Option Value)} {st : List Value} {Q : Option Value → am_St → Prop} {I : Nat → Nat → Int32} {L : Nat → Nat → Int64} {R : Nat → Nat → Option Nat} {sh : List am_Sh}
theorem am_newa_int {n w : Nat} {z : Int32} (hd : decode cc pc = .ok (.newarray .int, 2)) (hn : pc + 2 = n) (hc : Cond.arrayClass .int ∈ am_gt) (hz : ¬ z < 0) (hw : z.toNatClampNeg = w) (hb : w ≤ 10000) (hR : am_Rok R sh) (hok : am_ok sh.length ls st) (hlen : sh.length < 1000) (kk : am_Wp (d, own, cc, nL, ini) kc ks n ls (.ref sh.length :: st) (am_push I L R sh (.inr (0, w))) Q) : am_Wp (d, own, cc, nL, ini) (kc + 1) (ks + w) pc ls (.int z :: st) (I, L, R, sh) Q := by
  intro p l e Rm s m args below meth c H locs cells slots QQ G ad A lsA hC h1 h2 hl hRe hret
  subst hn
  have hby : w * componentBytes .int ≤ 536870912 := Nat.le_trans (Nat.mul_le_mul hb (show componentBytes .int ≤ 8 by decide +kernel)) (by decide)
  refine va_newa (atype := .int) (ty := .int) (a0 := (w, .inl (fun _ => 0))) hC.1 hC.2.1 (hC.2.2.2.2.1 _ hc) rfl hC.2.2.2.2.2.2.2.1 hRe.1 hRe.2.1 hRe.2.2.1 hC.2.2.2.2.2.2.2.2.1 (fun _ => rfl) hz hw hby (by omega) (by omega) hd (fun q cA H1 hK hP hD hS => ?_)
  have hcA : cA = G.2.1 0 := by
    have g1 := (hK.2 6 (cA, .int) rfl).2
    have g2 := (hC.2.2.2.2.2.2.2.1.2 0 (G.2.1 0, .int) rfl).2
    exact Option.some.inj (g1.symm.trans g2)
  subst hcA
  refine am_made (h := .inr (0, w)) hR hok hlen hC h1 h2 hl hRe hret (fun ad' => ?_) hP hD hS kk
  show Sum.inl (G.2.1 0, w, am_arr ad' (am_push I L R sh (.inr (0, w))) sh.length 0) = _
  have e : (am_push I L R sh (.inr (0, w))).1 sh.length = fun _ => 0 := am_clr_at _ _ _
  show Sum.inl (G.2.1 0, w, Sum.inl ((am_push I L R sh (.inr (0, w))).1 sh.length)) = _
  rw [e]
theorem am_newa_byte {n w : Nat} {z : Int32} (hd : decode cc pc = .ok (.newarray .byte, 2)) (hn : pc + 2 = n) (hc : Cond.arrayClass .byte ∈ am_gt) (hz : ¬ z < 0) (hw : z.toNatClampNeg = w) (hb : w ≤ 10000) (hR : am_Rok R sh) (hok : am_ok sh.length ls st) (hlen : sh.length < 1000) (kk : am_Wp (d, own, cc, nL, ini) kc ks n ls (.ref sh.length :: st) (am_push I L R sh (.inr (1, w))) Q) : am_Wp (d, own, cc, nL, ini) (kc + 1) (ks + w) pc ls (.int z :: st) (I, L, R, sh) Q := by
  intro p l e Rm s m args below meth c H locs cells slots QQ G ad A lsA hC h1 h2 hl hRe hret
  subst hn
  have hby : w * componentBytes .byte ≤ 536870912 := Nat.le_trans (Nat.mul_le_mul hb (show componentBytes .byte ≤ 8 by decide +kernel)) (by decide)
  refine va_newa (atype := .byte) (ty := .byte) (a0 := (w, .inl (fun _ => 0))) hC.1 hC.2.1 (hC.2.2.2.2.1 _ hc) rfl hC.2.2.2.2.2.2.2.1 hRe.1 hRe.2.1 hRe.2.2.1 hC.2.2.2.2.2.2.2.2.1 (fun _ => rfl) hz hw hby (by omega) (by omega) hd (fun q cA H1 hK hP hD hS => ?_)
  have hcA : cA = G.2.1 1 := by
    have g1 := (hK.2 6 (cA, .byte) rfl).2
    have g2 := (hC.2.2.2.2.2.2.2.1.2 1 (G.2.1 1, .byte) rfl).2
    exact Option.some.inj (g1.symm.trans g2)
  subst hcA
  refine am_made (h := .inr (1, w)) hR hok hlen hC h1 h2 hl hRe hret (fun ad' => ?_) hP hD hS kk
  show Sum.inl (G.2.1 1, w, am_arr ad' (am_push I L R sh (.inr (1, w))) sh.length 1) = _
  have e : (am_push I L R sh (.inr (1, w))).1 sh.length = fun _ => 0 := am_clr_at _ _ _
  show Sum.inl (G.2.1 1, w, Sum.inl ((am_push I L R sh (.inr (1, w))).1 sh.length)) = _
  rw [e]
theorem am_newa_boolean {n w : Nat} {z : Int32} (hd : decode cc pc = .ok (.newarray .boolean, 2)) (hn : pc + 2 = n) (hc : Cond.arrayClass .boolean ∈ am_gt) (hz : ¬ z < 0) (hw : z.toNatClampNeg = w) (hb : w ≤ 10000) (hR : am_Rok R sh) (hok : am_ok sh.length ls st) (hlen : sh.length < 1000) (kk : am_Wp (d, own, cc, nL, ini) kc ks n ls (.ref sh.length :: st) (am_push I L R sh (.inr (2, w))) Q) : am_Wp (d, own, cc, nL, ini) (kc + 1) (ks + w) pc ls (.int z :: st) (I, L, R, sh) Q := by
  intro p l e Rm s m args below meth c H locs cells slots QQ G ad A lsA hC h1 h2 hl hRe hret
  subst hn
  have hby : w * componentBytes .boolean ≤ 536870912 := Nat.le_trans (Nat.mul_le_mul hb (show componentBytes .boolean ≤ 8 by decide +kernel)) (by decide)
  refine va_newa (atype := .boolean) (ty := .boolean) (a0 := (w, .inl (fun _ => 0))) hC.1 hC.2.1 (hC.2.2.2.2.1 _ hc) rfl hC.2.2.2.2.2.2.2.1 hRe.1 hRe.2.1 hRe.2.2.1 hC.2.2.2.2.2.2.2.2.1 (fun _ => rfl) hz hw hby (by omega) (by omega) hd (fun q cA H1 hK hP hD hS => ?_)
  have hcA : cA = G.2.1 2 := by
    have g1 := (hK.2 6 (cA, .boolean) rfl).2
    have g2 := (hC.2.2.2.2.2.2.2.1.2 2 (G.2.1 2, .boolean) rfl).2
    exact Option.some.inj (g1.symm.trans g2)
  subst hcA
  refine am_made (h := .inr (2, w)) hR hok hlen hC h1 h2 hl hRe hret (fun ad' => ?_) hP hD hS kk
  show Sum.inl (G.2.1 2, w, am_arr ad' (am_push I L R sh (.inr (2, w))) sh.length 2) = _
  have e : (am_push I L R sh (.inr (2, w))).1 sh.length = fun _ => 0 := am_clr_at _ _ _
  show Sum.inl (G.2.1 2, w, Sum.inl ((am_push I L R sh (.inr (2, w))).1 sh.length)) = _
  rw [e]
theorem am_newa_long {n w : Nat} {z : Int32} (hd : decode cc pc = .ok (.newarray .long, 2)) (hn : pc + 2 = n) (hc : Cond.arrayClass .long ∈ am_gt) (hz : ¬ z < 0) (hw : z.toNatClampNeg = w) (hb : w ≤ 10000) (hR : am_Rok R sh) (hok : am_ok sh.length ls st) (hlen : sh.length < 1000) (kk : am_Wp (d, own, cc, nL, ini) kc ks n ls (.ref sh.length :: st) (am_push I L R sh (.inr (3, w))) Q) : am_Wp (d, own, cc, nL, ini) (kc + 1) (ks + w) pc ls (.int z :: st) (I, L, R, sh) Q := by
  intro p l e Rm s m args below meth c H locs cells slots QQ G ad A lsA hC h1 h2 hl hRe hret
  subst hn
  have hby : w * componentBytes .long ≤ 536870912 := Nat.le_trans (Nat.mul_le_mul hb (show componentBytes .long ≤ 8 by decide +kernel)) (by decide)
  refine va_newa (atype := .long) (ty := .long) (a0 := (w, .inr (.inl (fun _ => 0)))) hC.1 hC.2.1 (hC.2.2.2.2.1 _ hc) rfl hC.2.2.2.2.2.2.2.1 hRe.1 hRe.2.1 hRe.2.2.1 hC.2.2.2.2.2.2.2.2.1 (fun _ => rfl) hz hw hby (by omega) (by omega) hd (fun q cA H1 hK hP hD hS => ?_)
  have hcA : cA = G.2.1 3 := by
    have g1 := (hK.2 6 (cA, .long) rfl).2
    have g2 := (hC.2.2.2.2.2.2.2.1.2 3 (G.2.1 3, .long) rfl).2
    exact Option.some.inj (g1.symm.trans g2)
  subst hcA
  refine am_made (h := .inr (3, w)) hR hok hlen hC h1 h2 hl hRe hret (fun ad' => ?_) hP hD hS kk
  show Sum.inl (G.2.1 3, w, am_arr ad' (am_push I L R sh (.inr (3, w))) sh.length 3) = _
  have e : (am_push I L R sh (.inr (3, w))).2.1 sh.length = fun _ => 0 := am_clr_at _ _ _
  show Sum.inl (G.2.1 3, w, Sum.inr (Sum.inl ((am_push I L R sh (.inr (3, w))).2.1 sh.length))) = _
  rw [e]
theorem am_anew4 {n w idx : Nat} {z : Int32} (hd : decode cc pc = .ok (.anewarray idx, 3)) (hn : pc + 3 = n) (hc : Cond.classLink own idx "UnseenRing$Tray" ∈ am_gt) (hz : ¬ z < 0) (hw : z.toNatClampNeg = w) (hb : w ≤ 10000) (hR : am_Rok R sh) (hok : am_ok sh.length ls st) (hlen : sh.length < 1000) (kk : am_Wp (d, own, cc, nL, ini) kc ks n ls (.ref sh.length :: st) (am_push I L R sh (.inr (4, w))) Q) : am_Wp (d, own, cc, nL, ini) (kc + 1) (ks + w) pc ls (.int z :: st) (I, L, R, sh) Q := by
  intro p l e Rm s m args below meth c H locs cells slots QQ G ad A lsA hC h1 h2 hl hRe hret
  subst hn
  refine va_newq (C := "UnseenRing$Tray") hC.1 hC.2.1 hC.2.2.2.1 (hC.2.2.2.2.1 _ hc) hC.2.2.2.2.2.2.2.2.2.2.2.1 hC.2.2.2.2.2.2.2.1 hRe.1 hRe.2.1 hRe.2.2.1 hC.2.2.2.2.2.2.2.2.1 hz hw (by omega) (by omega) (by omega) hd (fun q cA H1 hK hP hD hS => ?_)
  have hcA : cA = G.2.1 4 := by
    obtain ⟨_, _, _, _, _, g1⟩ := (hK.2 6 (cA, .object "UnseenRing$Tray") rfl).2
    obtain ⟨_, _, _, _, _, g2⟩ := (hC.2.2.2.2.2.2.2.1.2 4 (G.2.1 4, .object "UnseenRing$Tray") rfl).2
    exact Option.some.inj (g1.symm.trans g2)
  subst hcA
  refine am_made (h := .inr (4, w)) hR hok hlen hC h1 h2 hl hRe hret (fun ad' => ?_) hP hD hS kk
  have e : (am_push I L R sh (.inr (4, w))).2.2.1 sh.length = fun _ => none := am_clr_at _ _ _
  show Sum.inl (G.2.1 4, w, Sum.inr (Sum.inr (Sum.inr (Sum.inr (fun j => ((am_push I L R sh (.inr (4, w))).2.2.1 sh.length j).map ad'))))) = _
  rw [e]; rfl
theorem am_aast4 {q n w x : Nat} {i : Int32} (hd : decode cc pc = .ok (.aastore, 1)) (hn : pc + 1 = n) (hs : sh[q]? = some (.inr (4, w))) (hx : sh[x]? = some (.inl 10)) (hi : vp_in i w) (kk : am_Wp (d, own, cc, nL, ini) kc ks n ls st (I, L, am_u2 R q i.toNatClampNeg (some x), sh) Q) : am_Wp (d, own, cc, nL, ini) kc ks pc ls (.ref x :: .int i :: .ref q :: st) (I, L, R, sh) Q := by
  intro p l e Rm s m args below meth c H locs cells slots QQ G ad A lsA hC h1 h2 hl hR hret
  subst hn
  refine va_astq (r := (am_cl.getD 10 (R_Tray, F_Tray, 3))) hC.1 hC.2.1 hC.2.2.2.2.2.2.2.1 hR.1 hR.2.1 hR.2.2.1 q 4 x 10 (am_ws_at (cA := G.2.1) (ad := ad) (σ := (I, L, R, sh)) hs) rfl (am_ws_at (cA := G.2.1) (ad := ad) (σ := (I, L, R, sh)) hx) rfl hi hd (fun H1 locs1 hP hD hS => ?_)
  have ef : (fun j => (am_u2 R q i.toNatClampNeg (some x) q j).map ad) = va_up (fun j => (R q j).map ad) i.toNatClampNeg (some (ad x)) := by
    funext j
    by_cases hj : j = i.toNatClampNeg <;> simp [am_u2, va_up, hj]
  have hRe : am_Re G ad (I, L, am_u2 R q i.toNatClampNeg (some x), sh) s A H1 locs1 := am_Re_set (σ := (I, L, R, sh)) (σ' := (I, L, am_u2 R q i.toNatClampNeg (some x), sh)) hR hs rfl (fun _ _ => rfl) (fun _ _ => rfl) (fun a h => am_u2_row _ _ _ _ h) (x := .inl (G.2.1 4, w, .inr (.inr (.inr (.inr (fun j => (am_u2 R q i.toNatClampNeg (some x) q j).map ad)))))) rfl (by rw [ef]; exact hP) (by rw [ef]; exact hD) hS
  exact kk p l e Rm s m args below meth c H1 locs1 cells slots QQ G ad A lsA hC h1 h2 hl hRe hret
theorem am_anew5 {n w idx : Nat} {z : Int32} (hd : decode cc pc = .ok (.anewarray idx, 3)) (hn : pc + 3 = n) (hc : Cond.classLink own idx "UnseenRing$Square" ∈ am_gt) (hz : ¬ z < 0) (hw : z.toNatClampNeg = w) (hb : w ≤ 10000) (hR : am_Rok R sh) (hok : am_ok sh.length ls st) (hlen : sh.length < 1000) (kk : am_Wp (d, own, cc, nL, ini) kc ks n ls (.ref sh.length :: st) (am_push I L R sh (.inr (5, w))) Q) : am_Wp (d, own, cc, nL, ini) (kc + 1) (ks + w) pc ls (.int z :: st) (I, L, R, sh) Q := by
  intro p l e Rm s m args below meth c H locs cells slots QQ G ad A lsA hC h1 h2 hl hRe hret
  subst hn
  refine va_newq (C := "UnseenRing$Square") hC.1 hC.2.1 hC.2.2.2.1 (hC.2.2.2.2.1 _ hc) hC.2.2.2.2.2.2.2.2.2.2.2.2 hC.2.2.2.2.2.2.2.1 hRe.1 hRe.2.1 hRe.2.2.1 hC.2.2.2.2.2.2.2.2.1 hz hw (by omega) (by omega) (by omega) hd (fun q cA H1 hK hP hD hS => ?_)
  have hcA : cA = G.2.1 5 := by
    obtain ⟨_, _, _, _, _, g1⟩ := (hK.2 6 (cA, .object "UnseenRing$Square") rfl).2
    obtain ⟨_, _, _, _, _, g2⟩ := (hC.2.2.2.2.2.2.2.1.2 5 (G.2.1 5, .object "UnseenRing$Square") rfl).2
    exact Option.some.inj (g1.symm.trans g2)
  subst hcA
  refine am_made (h := .inr (5, w)) hR hok hlen hC h1 h2 hl hRe hret (fun ad' => ?_) hP hD hS kk
  have e : (am_push I L R sh (.inr (5, w))).2.2.1 sh.length = fun _ => none := am_clr_at _ _ _
  show Sum.inl (G.2.1 5, w, Sum.inr (Sum.inr (Sum.inr (Sum.inr (fun j => ((am_push I L R sh (.inr (5, w))).2.2.1 sh.length j).map ad'))))) = _
  rw [e]; rfl
theorem am_aast5 {q n w x : Nat} {i : Int32} (hd : decode cc pc = .ok (.aastore, 1)) (hn : pc + 1 = n) (hs : sh[q]? = some (.inr (5, w))) (hx : sh[x]? = some (.inl 7)) (hi : vp_in i w) (kk : am_Wp (d, own, cc, nL, ini) kc ks n ls st (I, L, am_u2 R q i.toNatClampNeg (some x), sh) Q) : am_Wp (d, own, cc, nL, ini) kc ks pc ls (.ref x :: .int i :: .ref q :: st) (I, L, R, sh) Q := by
  intro p l e Rm s m args below meth c H locs cells slots QQ G ad A lsA hC h1 h2 hl hR hret
  subst hn
  refine va_astq (r := (am_cl.getD 7 (R_Tray, F_Tray, 3))) hC.1 hC.2.1 hC.2.2.2.2.2.2.2.1 hR.1 hR.2.1 hR.2.2.1 q 5 x 7 (am_ws_at (cA := G.2.1) (ad := ad) (σ := (I, L, R, sh)) hs) rfl (am_ws_at (cA := G.2.1) (ad := ad) (σ := (I, L, R, sh)) hx) rfl hi hd (fun H1 locs1 hP hD hS => ?_)
  have ef : (fun j => (am_u2 R q i.toNatClampNeg (some x) q j).map ad) = va_up (fun j => (R q j).map ad) i.toNatClampNeg (some (ad x)) := by
    funext j
    by_cases hj : j = i.toNatClampNeg <;> simp [am_u2, va_up, hj]
  have hRe : am_Re G ad (I, L, am_u2 R q i.toNatClampNeg (some x), sh) s A H1 locs1 := am_Re_set (σ := (I, L, R, sh)) (σ' := (I, L, am_u2 R q i.toNatClampNeg (some x), sh)) hR hs rfl (fun _ _ => rfl) (fun _ _ => rfl) (fun a h => am_u2_row _ _ _ _ h) (x := .inl (G.2.1 5, w, .inr (.inr (.inr (.inr (fun j => (am_u2 R q i.toNatClampNeg (some x) q j).map ad)))))) rfl (by rw [ef]; exact hP) (by rw [ef]; exact hD) hS
  exact kk p l e Rm s m args below meth c H1 locs1 cells slots QQ G ad A lsA hC h1 h2 hl hRe hret
def am_row {α : Type} (f : Nat → Nat → α) (q : Nat) (g : Nat → α) : Nat → Nat → α := fun a => if a = q then g else f a
theorem am_row_ne {α : Type} (f : Nat → Nat → α) (q : Nat) (g : Nat → α) {a : Nat} (h : a ≠ q) : am_row f q g a = f a := by simp [am_row, h]
theorem am_row_at {α : Type} (f : Nat → Nat → α) (q : Nat) (g : Nat → α) : am_row f q g q = g := by simp [am_row]
theorem am_copyI {idx q0 q1 n w0 w1 : Nat} {sp dp z : Int32} (hd : decode cc pc = .ok (.invokestatic idx, 3)) (hn : pc + 3 = n) (hc1 : Cond.methodLink own idx arraycopyName ∈ am_gt) (hc2 : Cond.native arraycopyName ∈ am_gt) (hc3 : Cond.static arraycopyName ∈ am_gt) (hc4 : Cond.initialized "java/lang/System" ∈ am_gt) (hs0 : sh[q0]? = some (.inr (0, w0))) (hs1 : sh[q1]? = some (.inr (0, w1))) (g1 : ¬ sp < 0) (g2 : ¬ dp < 0) (g3 : ¬ z < 0) (g4 : sp.toNatClampNeg + z.toNatClampNeg ≤ w0) (g5 : dp.toNatClampNeg + z.toNatClampNeg ≤ w1) (hst : (st.map fun v => v.category).sum ≤ 8) (kk : am_Wp (d + 1, own, cc, nL, ini) kc ks n ls st (am_row I q1 (va_cpy (I q0) (I q1) sp.toNatClampNeg dp.toNatClampNeg z.toNatClampNeg), L, R, sh) Q) : am_Wp (d + 1, own, cc, nL, ini) kc ks pc ls (.int z :: .int dp :: .ref q1 :: .int sp :: .ref q0 :: st) (I, L, R, sh) Q := by
  intro p l e Rm s m args below meth c H locs cells slots QQ G ad A lsA hC h1 h2 hl hR hret
  subst hn
  have hrm : d + 1 ≤ Rm.frames ∧ 64 * (d + 1) ≤ Rm.locals := hC.2.2.2.2.2.1
  have hnw : nativeFrameWords "java/lang/System" "arraycopy" 5 + 11 ≤ 40 := by decide +kernel
  refine va_copyi (ty := .int) hC.1 hC.2.1 (hC.2.2.1.trans hl.1.symm) hC.2.2.2.1 (hC.2.2.2.2.1 _ hc1) (hC.2.2.2.2.1 _ hc2) (hC.2.2.2.2.1 _ hc3) (hC.2.2.2.2.1 _ hc4) hC.2.2.2.2.2.2.2.1 hR.1 hR.2.1 hR.2.2.1 q0 q1 0 0 (am_ws_at (cA := G.2.1) (ad := ad) (σ := (I, L, R, sh)) hs0) (am_ws_at (cA := G.2.1) (ad := ad) (σ := (I, L, R, sh)) hs1) rfl rfl rfl g1 g2 g3 g4 g5 (fun _ _ => rfl) (by omega) (by rw [am_cv_sum]; omega) hd (fun H1 locs1 hP hD hS => ?_)
  have hRe : am_Re G ad (am_row I q1 (va_cpy (I q0) (I q1) sp.toNatClampNeg dp.toNatClampNeg z.toNatClampNeg), L, R, sh) s A H1 locs1 := am_Re_set (σ := (I, L, R, sh)) (σ' := (am_row I q1 (va_cpy (I q0) (I q1) sp.toNatClampNeg dp.toNatClampNeg z.toNatClampNeg), L, R, sh)) hR hs1 rfl (fun a h => am_row_ne _ _ _ h) (fun _ _ => rfl) (fun _ _ => rfl) (x := .inl (G.2.1 0, w1, .inl (am_row I q1 (va_cpy (I q0) (I q1) sp.toNatClampNeg dp.toNatClampNeg z.toNatClampNeg) q1))) rfl (by rw [am_row_at]; exact hP) (by rw [am_row_at]; exact hD) hS
  exact kk p l e Rm s m args below meth c H1 locs1 cells slots QQ G ad A lsA hC h1 h2 hl hRe hret
theorem am_copyL {idx q0 q1 n w0 w1 : Nat} {sp dp z : Int32} (hd : decode cc pc = .ok (.invokestatic idx, 3)) (hn : pc + 3 = n) (hc1 : Cond.methodLink own idx arraycopyName ∈ am_gt) (hc2 : Cond.native arraycopyName ∈ am_gt) (hc3 : Cond.static arraycopyName ∈ am_gt) (hc4 : Cond.initialized "java/lang/System" ∈ am_gt) (hs0 : sh[q0]? = some (.inr (3, w0))) (hs1 : sh[q1]? = some (.inr (3, w1))) (g1 : ¬ sp < 0) (g2 : ¬ dp < 0) (g3 : ¬ z < 0) (g4 : sp.toNatClampNeg + z.toNatClampNeg ≤ w0) (g5 : dp.toNatClampNeg + z.toNatClampNeg ≤ w1) (hst : (st.map fun v => v.category).sum ≤ 8) (kk : am_Wp (d + 1, own, cc, nL, ini) kc ks n ls st (I, am_row L q1 (va_cpy (L q0) (L q1) sp.toNatClampNeg dp.toNatClampNeg z.toNatClampNeg), R, sh) Q) : am_Wp (d + 1, own, cc, nL, ini) kc ks pc ls (.int z :: .int dp :: .ref q1 :: .int sp :: .ref q0 :: st) (I, L, R, sh) Q := by
  intro p l e Rm s m args below meth c H locs cells slots QQ G ad A lsA hC h1 h2 hl hR hret
  subst hn
  have hrm : d + 1 ≤ Rm.frames ∧ 64 * (d + 1) ≤ Rm.locals := hC.2.2.2.2.2.1
  have hnw : nativeFrameWords "java/lang/System" "arraycopy" 5 + 11 ≤ 40 := by decide +kernel
  refine va_copyl (ty := .long) hC.1 hC.2.1 (hC.2.2.1.trans hl.1.symm) hC.2.2.2.1 (hC.2.2.2.2.1 _ hc1) (hC.2.2.2.2.1 _ hc2) (hC.2.2.2.2.1 _ hc3) (hC.2.2.2.2.1 _ hc4) hC.2.2.2.2.2.2.2.1 hR.1 hR.2.1 hR.2.2.1 q0 q1 3 3 (am_ws_at (cA := G.2.1) (ad := ad) (σ := (I, L, R, sh)) hs0) (am_ws_at (cA := G.2.1) (ad := ad) (σ := (I, L, R, sh)) hs1) rfl rfl rfl g1 g2 g3 g4 g5 (fun _ _ => rfl) (by omega) (by rw [am_cv_sum]; omega) hd (fun H1 locs1 hP hD hS => ?_)
  have hRe : am_Re G ad (I, am_row L q1 (va_cpy (L q0) (L q1) sp.toNatClampNeg dp.toNatClampNeg z.toNatClampNeg), R, sh) s A H1 locs1 := am_Re_set (σ := (I, L, R, sh)) (σ' := (I, am_row L q1 (va_cpy (L q0) (L q1) sp.toNatClampNeg dp.toNatClampNeg z.toNatClampNeg), R, sh)) hR hs1 rfl (fun _ _ => rfl) (fun a h => am_row_ne _ _ _ h) (fun _ _ => rfl) (x := .inl (G.2.1 3, w1, .inr (.inl (am_row L q1 (va_cpy (L q0) (L q1) sp.toNatClampNeg dp.toNatClampNeg z.toNatClampNeg) q1)))) rfl (by rw [am_row_at]; exact hP) (by rw [am_row_at]; exact hD) hS
  exact kk p l e Rm s m args below meth c H1 locs1 cells slots QQ G ad A lsA hC h1 h2 hl hRe hret
theorem am_objInit {idx q n : Nat} (hd : decode cc pc = .ok (.invokespecial idx, 3)) (hn : pc + 3 = n) (hc1 : Cond.methodLink own idx Lib.objectInit ∈ am_gt) (hc2 : Cond.instanceMethod Lib.objectInit ∈ am_gt) (hc3 : Cond.code Lib.objectInit ⟨#[0xb1]⟩ 1 none ∈ am_gt) (hst : (st.map fun v => v.category).sum ≤ 8) (kk : am_Wp (d + 1, own, cc, nL, ini) kc ks n ls st (I, L, R, sh) Q) : am_Wp (d + 1, own, cc, nL, ini) kc ks pc ls (.ref q :: st) (I, L, R, sh) Q := by
  intro p l e Rm s m args below meth c H locs cells slots QQ G ad A lsA hC h1 h2 hl hR hret
  subst hn
  have hrm : d + 1 ≤ Rm.frames ∧ 64 * (d + 1) ≤ Rm.locals := hC.2.2.2.2.2.1
  exact W.objInit hC.1 hC.2.1 hC.2.2.2.1 (hC.2.2.2.2.1 _ hc1) (hC.2.2.2.2.1 _ hc2) (hC.2.2.2.2.1 _ hc3) (g := F0 m pc lsA ((Value.ref q :: st).map (am_cv ad))) rfl (hl.1.trans hC.2.2.1.symm) rfl hd (by omega) (by have e := am_cv_sum ad st; show 2 * 0 + _ + 12 ≤ _; omega) (kk p l e Rm s m args below meth c H locs cells slots QQ G ad A lsA hC h1 h2 hl hR hret)
-- mmax
theorem am_mmax {idx n : Nat} {x y : Int32} (hd : decode cc pc = .ok (.invokestatic idx, 3)) (hn : pc + 3 = n) (hc1 : Cond.methodLink own idx Lib.Math.max.name ∈ am_gt) (hc2 : Cond.static Lib.Math.max.name ∈ am_gt) (hc3 : Cond.initialized "java/lang/Math" ∈ am_gt) (hc4 : Cond.code Lib.Math.max.name Lib.Math.max.code 2 (some .int) ∈ am_gt) (hst : (st.map fun v => v.category).sum ≤ 8) (kk : am_Wp (d + 1, own, cc, nL, ini) kc ks n ls (.int (if x < y then y else x) :: st) (I, L, R, sh) Q) : am_Wp (d + 1, own, cc, nL, ini) kc ks pc ls (.int y :: .int x :: st) (I, L, R, sh) Q := by
  intro p l e Rm s m args below meth c H locs cells slots QQ G ad A lsA hC h1 h2 hl hR hret
  subst hn
  have hrm : d + 1 ≤ Rm.frames ∧ 64 * (d + 1) ≤ Rm.locals := hC.2.2.2.2.2.1
  exact va_mmax hC.1 hC.2.1 (hC.2.2.1.trans hl.1.symm) hC.2.2.2.1 (hC.2.2.2.2.1 _ hc1) (hC.2.2.2.2.1 _ hc2) (hC.2.2.2.2.1 _ hc3) (hC.2.2.2.2.1 _ hc4) (by omega) (by rw [am_cv_sum]; omega) (by omega) (by omega) hd (kk p l e Rm s m args below meth c H locs cells slots QQ G ad A lsA hC h1 h2 hl hR hret)
-- mmin
theorem am_mmin {idx n : Nat} {x y : Int32} (hd : decode cc pc = .ok (.invokestatic idx, 3)) (hn : pc + 3 = n) (hc1 : Cond.methodLink own idx Lib.Math.min.name ∈ am_gt) (hc2 : Cond.static Lib.Math.min.name ∈ am_gt) (hc3 : Cond.initialized "java/lang/Math" ∈ am_gt) (hc4 : Cond.code Lib.Math.min.name Lib.Math.min.code 2 (some .int) ∈ am_gt) (hst : (st.map fun v => v.category).sum ≤ 8) (kk : am_Wp (d + 1, own, cc, nL, ini) kc ks n ls (.int (if y < x then y else x) :: st) (I, L, R, sh) Q) : am_Wp (d + 1, own, cc, nL, ini) kc ks pc ls (.int y :: .int x :: st) (I, L, R, sh) Q := by
  intro p l e Rm s m args below meth c H locs cells slots QQ G ad A lsA hC h1 h2 hl hR hret
  subst hn
  have hrm : d + 1 ≤ Rm.frames ∧ 64 * (d + 1) ≤ Rm.locals := hC.2.2.2.2.2.1
  exact va_mmin hC.1 hC.2.1 (hC.2.2.1.trans hl.1.symm) hC.2.2.2.1 (hC.2.2.2.2.1 _ hc1) (hC.2.2.2.2.1 _ hc2) (hC.2.2.2.2.1 _ hc3) (hC.2.2.2.2.1 _ hc4) (by omega) (by rw [am_cv_sum]; omega) (by omega) (by omega) hd (kk p l e Rm s m args below meth c H locs cells slots QQ G ad A lsA hC h1 h2 hl hR hret)
-- mabs
theorem am_mabs {idx n : Nat} {x y : Int32} (hd : decode cc pc = .ok (.invokestatic idx, 3)) (hn : pc + 3 = n) (hc1 : Cond.methodLink own idx Lib.Math.abs.name ∈ am_gt) (hc2 : Cond.static Lib.Math.abs.name ∈ am_gt) (hc3 : Cond.initialized "java/lang/Math" ∈ am_gt) (hc4 : Cond.code Lib.Math.abs.name Lib.Math.abs.code 1 (some .int) ∈ am_gt) (hst : (st.map fun v => v.category).sum ≤ 8) (kk : am_Wp (d + 1, own, cc, nL, ini) kc ks n ls (.int (if 0 ≤ x then x else 0 - x) :: st) (I, L, R, sh) Q) : am_Wp (d + 1, own, cc, nL, ini) kc ks pc ls (.int x :: st) (I, L, R, sh) Q := by
  intro p l e Rm s m args below meth c H locs cells slots QQ G ad A lsA hC h1 h2 hl hR hret
  subst hn
  have hrm : d + 1 ≤ Rm.frames ∧ 64 * (d + 1) ≤ Rm.locals := hC.2.2.2.2.2.1
  exact va_mabs hC.1 hC.2.1 (hC.2.2.1.trans hl.1.symm) hC.2.2.2.1 (hC.2.2.2.2.1 _ hc1) (hC.2.2.2.2.1 _ hc2) (hC.2.2.2.2.1 _ hc3) (hC.2.2.2.2.1 _ hc4) (by omega) (by rw [am_cv_sum]; omega) (by omega) (by omega) hd (kk p l e Rm s m args below meth c H locs cells slots QQ G ad A lsA hC h1 h2 hl hR hret)
end AMC
