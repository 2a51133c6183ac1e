/-! the two texts, and the methods of String that read them -/
section AMS
variable {d : Nat} {own : String} {cc : ByteArray} {nL : Nat} {ini : Bool} {kc ks : Nat} {pc : Nat} {ls : List (Option Value)} {st : List Value} {Q : Option Value → am_St → Prop} {σ : am_St}
theorem am_ldcS0 {n : Nat} (hd : decode cc pc = .ok (.ldc 51, 2)) (hn : pc + 2 = n) (kk : am_Wp (d, "UnseenRing$Tokens", cc, nL, ini) kc ks n ls (.ref 1001 :: st) σ Q) : am_Wp (d, "UnseenRing$Tokens", cc, nL, ini) kc ks pc ls st σ Q := by
  intro p l e Rm s m args below meth c H locs cells slots QQ G ad A lsA hC h1 h2 hl hR hret
  subst hn
  have hX := hC.2.2.2.2.2.2.2.2.2.1
  exact va_ldcS hC.1 hC.2.1 hC.2.2.2.1 hX.2.2.2.2.1 hd (kk p l e Rm s m args below meth c H locs cells slots QQ G ad A lsA hC h1 h2 hl hR hret)
theorem am_ldcS1 {n : Nat} (hd : decode cc pc = .ok (.ldc 214, 2)) (hn : pc + 2 = n) (kk : am_Wp (d, "UnseenRingModel", cc, nL, ini) kc ks n ls (.ref 1002 :: st) σ Q) : am_Wp (d, "UnseenRingModel", cc, nL, ini) kc ks pc ls st σ Q := by
  intro p l e Rm s m args below meth c H locs cells slots QQ G ad A lsA hC h1 h2 hl hR hret
  subst hn
  have hX := hC.2.2.2.2.2.2.2.2.2.1
  exact va_ldcS hC.1 hC.2.1 hC.2.2.2.1 hX.2.2.2.2.2.1 hd (kk p l e Rm s m args below meth c H locs cells slots QQ G ad A lsA hC h1 h2 hl hR hret)
theorem am_getSV {i n idx : Nat} (hi : i < 2) (hd : decode cc pc = .ok (.getfield idx, 3)) (hn : pc + 3 = n) (hc : Cond.fieldLink own idx "java/lang/String" "value" "[B" ∈ am_gt) (kk : am_Wp (d, own, cc, nL, ini) kc ks n ls (.ref (1011 + i) :: st) σ Q) : am_Wp (d, own, cc, nL, ini) kc ks pc ls (.ref (1001 + i) :: st) σ Q := by
  intro p l e Rm s m args below meth c H locs cells slots QQ G ad A lsA hC h1 h2 hl hR hret
  subst hn
  have hX := hC.2.2.2.2.2.2.2.2.2.1
  exact vk_getf hC.1 hC.2.1 (hX.2.2.2.1.1 i hi).2.2.1 hR.2.2.1 hC.2.2.2.1 (hC.2.2.2.2.1 _ hc) (fun _ h => h) hd (kk p l e Rm s m args below meth c H locs cells slots QQ G ad A lsA hC h1 h2 hl hR hret)
theorem am_getSC {i n idx : Nat} (hi : i < 2) (hd : decode cc pc = .ok (.getfield idx, 3)) (hn : pc + 3 = n) (hc : Cond.fieldLink own idx "java/lang/String" "coder" "B" ∈ am_gt) (kk : am_Wp (d, own, cc, nL, ini) kc ks n ls (.int 0 :: st) σ Q) : am_Wp (d, own, cc, nL, ini) kc ks pc ls (.ref (1001 + i) :: st) σ Q := by
  intro p l e Rm s m args below meth c H locs cells slots QQ G ad A lsA hC h1 h2 hl hR hret
  subst hn
  have hX := hC.2.2.2.2.2.2.2.2.2.1
  exact vk_getf hC.1 hC.2.1 (hX.2.2.2.1.1 i hi).2.1 hR.2.2.1 hC.2.2.2.1 (hC.2.2.2.2.1 _ hc) (fun _ h => h) hd (kk p l e Rm s m args below meth c H locs cells slots QQ G ad A lsA hC h1 h2 hl hR hret)
theorem am_lenS {i n : Nat} (hi : i < 2) (hd : decode cc pc = .ok (.arraylength, 1)) (hn : pc + 1 = n) (kk : am_Wp (d, own, cc, nL, ini) kc ks n ls (.int (nI (am_len.getD i 0)) :: st) σ Q) : am_Wp (d, own, cc, nL, ini) kc ks pc ls (.ref (1011 + i) :: st) σ Q := by
  intro p l e Rm s m args below meth c H locs cells slots QQ G ad A lsA hC h1 h2 hl hR hret
  subst hn
  have hX := hC.2.2.2.2.2.2.2.2.2.1
  exact va_tlen hC.1 hC.2.1 (hX.2.2.2.1.1 i hi).2.2.2 hR.2.2.1 rfl hd (kk p l e Rm s m args below meth c H locs cells slots QQ G ad A lsA hC h1 h2 hl hR hret)
theorem am_baldS {i n : Nat} {k : Int32} (hi : i < 2) (hd : decode cc pc = .ok (.baload, 1)) (hn : pc + 1 = n) (hk : vp_in k (am_len.getD i 0)) (kk : am_Wp (d, own, cc, nL, ini) kc ks n ls (.int ((am_byt.getD i []).getD k.toNatClampNeg 0) :: st) σ Q) : am_Wp (d, own, cc, nL, ini) kc ks pc ls (.int k :: .ref (1011 + i) :: st) σ Q := by
  intro p l e Rm s m args below meth c H locs cells slots QQ G ad A lsA hC h1 h2 hl hR hret
  subst hn
  have hX := hC.2.2.2.2.2.2.2.2.2.1
  exact va_tb hC.1 hC.2.1 (hX.2.2.2.1.1 i hi).2.2.2 hR.2.2.1 hk rfl hd (kk p l e Rm s m args below meth c H locs cells slots QQ G ad A lsA hC h1 h2 hl hR hret)
theorem am_getsC {n idx : Nat} (hd : decode cc pc = .ok (.getstatic idx, 3)) (hn : pc + 3 = n) (hc : Cond.fieldLink own idx "java/lang/String" "COMPACT_STRINGS" "Z" ∈ am_gt) (kk : am_Wp (d, own, cc, nL, ini) kc ks n ls (.int 1 :: st) σ Q) : am_Wp (d, own, cc, nL, ini) kc ks pc ls st σ Q := by
  intro p l e Rm s m args below meth c H locs cells slots QQ G ad A lsA hC h1 h2 hl hR hret
  subst hn
  have hX := hC.2.2.2.2.2.2.2.2.2.1
  exact va_gets hC.1 hC.2.1 hX.2.2.2.2.2.2.1 hR.2.2.1 hC.2.2.2.1 (hC.2.2.2.2.1 _ hc) (fun _ h => h) hd (kk p l e Rm s m args below meth c H locs cells slots QQ G ad A lsA hC h1 h2 hl hR hret)
theorem am_getsF {n idx : Nat} (hd : decode cc pc = .ok (.getstatic idx, 3)) (hn : pc + 3 = n) (hc : Cond.fieldLink own idx "jdk/internal/util/Preconditions" "SIOOBE_FORMATTER" "Ljava/util/function/BiFunction;" ∈ am_gt) (kk : ∀ v : Value, v = .null ∨ v = .ref 1020 → am_Wp (d, own, cc, nL, ini) kc ks n ls (v :: st) σ Q) : am_Wp (d, own, cc, nL, ini) kc ks pc ls st σ Q := by
  intro p l e Rm s m args below meth c H locs cells slots QQ G ad A lsA hC h1 h2 hl hR hret
  subst hn
  have hX := hC.2.2.2.2.2.2.2.2.2.1
  rcases hX.2.2.2.2.2.2.2 with hz | hz
  · exact va_gets hC.1 hC.2.1 hz hR.2.2.1 hC.2.2.2.1 (hC.2.2.2.2.1 _ hc) (fun _ h => h) hd (kk .null (Or.inl rfl) p l e Rm s m args below meth c H locs cells slots QQ G ad A lsA hC h1 h2 hl hR hret)
  · exact va_gets hC.1 hC.2.1 hz hR.2.2.1 hC.2.2.2.1 (hC.2.2.2.2.1 _ hc) (fun _ h => h) hd (kk (.ref 1020) (Or.inr rfl) p l e Rm s m args below meth c H locs cells slots QQ G ad A lsA hC h1 h2 hl hR hret)
theorem am_callStr {idx n na d' q : Nat} {y : MethodName} {bytes : ByteArray} {maxL : Nat} {ret : Option FieldType} {As : List Value} {Q' : Option Value → am_St → Prop} (hd : decode cc pc = .ok (.invokevirtual idx, 3)) (hn : pc + 3 = n) (hcl : am_callee y bytes maxL ret na) (hlk : am_link own idx y) (hst : Cond.instanceMethod y ∈ am_gt ∧ Cond.selects y.cls y y ∈ am_gt) (hr0 : y.cls = "java/lang/String") (hs : ∃ i, i < 2 ∧ q = 1001 + i) (hAs : As.length = na) {st0 : List Value} (h0 : st0 = As.reverse ++ .ref q :: st) (hrs : (st.map fun v => v.category).sum ≤ 8) (hCm : am_Cm d' 0 0 y bytes maxL ret (.ref q :: As) σ Q') (hdd : d' < d)
    (kk : ∀ r σ', Q' r σ' → am_Wp (d, own, cc, nL, ini) kc ks n ls (r.toList ++ st) σ' Q) : am_Wp (d, own, cc, nL, ini) kc ks pc ls st0 σ Q := by
  intro p l e Rm s m args below meth c H locs cells slots QQ G ad A lsA hC h1 h2 hl hR hret
  subst h0
  obtain ⟨i, hi, rfl⟩ := hs
  have hts := hC.2.2.2.2.1
  have hrm : d ≤ Rm.frames ∧ 64 * d ≤ Rm.locals := hC.2.2.2.2.2.1
  have hroom : (am_rm d' 0 0).frames + 1 ≤ Rm.frames ∧ 8 + (maxL + 11) + (am_rm d' 0 0).locals ≤ Rm.locals := by
    have := hcl.2.2.2
    show d' + 1 ≤ Rm.frames ∧ 8 + (maxL + 11) + 64 * d' ≤ Rm.locals
    omega
  have hX := hC.2.2.2.2.2.2.2.2.2.1
  have hrecv : ∃ cellB : Cell, H[ad (1001 + i)]? = some cellB ∧ cellB.vm.isStatics = false ∧ s.vm.findClass y.cls = some cellB.cls := by
    rw [hr0]
    exact vk_recv (i := i) (adK := fun i => ad (1001 + i)) hX.2.2.2.1 hi hR.2.2.1
  have hpre : PreV s H y.cls (ad (1001 + i)) (am_Pc G ad H.size (.ref (1001 + i) :: As) σ) (As.map (am_cv ad)) := ⟨am_Pc_blind, hrecv, am_Pc_at (.ref (1001 + i) :: As) hC hR⟩
  have hstk : ((As.reverse ++ .ref (1001 + i) :: st).map (am_cv ad)) = (As.map (am_cv ad)).reverse ++ .ref (ad (1001 + i)) :: st.map (am_cv ad) := by rw [List.map_append, List.map_reverse]; rfl
  refine am_back (st := st) (kc' := 0) (ks' := 0) ((Value.ref (ad (1001 + i)) :: As.map (am_cv ad)).toArray) hC h1 h2 hl hR hret (Or.inl rfl) ?_ hn kk
  rcases hlk with hlk | ⟨host, hlk⟩
  · exact va_runV (cc := cc) (nL := nL) (Ts := am_gt) (own := own) ⟨hC.1, hC.2.1, hC.2.2.1, hC.2.2.2.1, hts⟩ (hCm l G ad H.size) ⟨callB_of na hts (am_goodC hcl.1) rfl rfl rfl (hts _ hcl.2.1) (hts _ hlk) hcl.2.2.1 hroom, hts _ hst.1, hts _ hst.2⟩ hpre rfl (by rw [List.length_map]; exact hAs) hl.1 hstk (lv_room (by rw [am_cv_sum]; exact hrs)) hd ⟨by omega, by omega⟩
  · exact va_runVN (cc := cc) (nL := nL) (Ts := am_gt) (own := own) (host := host) ⟨hC.1, hC.2.1, hC.2.2.1, hC.2.2.2.1, hts⟩ (hCm l G ad H.size) ⟨va_cnB na hts (am_goodC hcl.1) rfl rfl rfl (hC.2.2.2.2.2.2.2.2.2.2.1 _ hlk rfl) (hts _ hcl.2.1) hcl.2.2.1 hroom, hts _ hst.1, hts _ hst.2⟩ hpre rfl (by rw [List.length_map]; exact hAs) hl.1 hstk (lv_room (by rw [am_cv_sum]; exact hrs)) hd ⟨by omega, by omega⟩
end AMS
theorem cm_String_coder {d i : Nat} (hi : i < 2) {σ : am_St} : am_Cm d 0 0 y_String_coder b_String_coder 1 (some .byte) [.ref (1001 + i)] σ (fun r σ' => r = some (.int 0) ∧ σ' = σ) := by
  refine am_Cm_of (ini := false) (by decide +kernel) (fun z => by cases z) (by simp [Value.category]) (fun r σ' z => by obtain ⟨rfl, -⟩ := z; exact ⟨_, rfl, rfl⟩) ?_
  show am_Wp (d, "java/lang/String", b_String_coder, 1, false) 0 0 0 [some (.ref (1001 + i))] [] σ _
  refine am_getsC (n := 3) d_String_coder_0 rfl fs_String_38 ?_
  refine am_if_eq (y := 0) (tgt := 13) (n := 6) d_String_coder_3 rfl rfl (fun c => absurd c (by decide)) (fun c => ?_)
  refine am_aload_n (n := 7) d_String_coder_6 rfl rfl ?_
  refine am_getSC (n := 10) hi d_String_coder_7 rfl fs_String_15 ?_
  refine am_goto (tgt := 14) d_String_coder_10 rfl ?_
  exact am_iret d_String_coder_14 ⟨rfl, rfl⟩
theorem cm_String_isLatin1 {d i : Nat} (hi : i < 2) {σ : am_St} : am_Cm d 0 0 y_String_isLatin1 b_String_isLatin1 1 (some .boolean) [.ref (1001 + i)] σ (fun r σ' => r = some (.int 1) ∧ σ' = σ) := by
  refine am_Cm_of (ini := false) (by decide +kernel) (fun z => by cases z) (by simp [Value.category]) (fun r σ' z => by obtain ⟨rfl, -⟩ := z; exact ⟨_, rfl, rfl⟩) ?_
  show am_Wp (d, "java/lang/String", b_String_isLatin1, 1, false) 0 0 0 [some (.ref (1001 + i))] [] σ _
  refine am_getsC (n := 3) d_String_isLatin1_0 rfl fs_String_38 ?_
  refine am_if_eq (y := 0) (tgt := 17) (n := 6) d_String_isLatin1_3 rfl rfl (fun c => absurd c (by decide)) (fun c => ?_)
  refine am_aload_n (n := 7) d_String_isLatin1_6 rfl rfl ?_
  refine am_getSC (n := 10) hi d_String_isLatin1_7 rfl fs_String_15 ?_
  refine am_if_ne (y := 0) (tgt := 17) (n := 13) d_String_isLatin1_10 rfl rfl (fun c => absurd rfl c) (fun c => ?_)
  refine am_iconst (n := 14) (v := 1) d_String_isLatin1_13 (by decide) rfl ?_
  refine am_goto (tgt := 18) d_String_isLatin1_14 rfl ?_
  exact am_iret d_String_isLatin1_18 ⟨rfl, rfl⟩
theorem am_len_lt : ∀ i, i < 2 → am_len.getD i 0 < 1000 := by decide +kernel
def wp_String_length (_I : am_TI) (_L : am_TL) (_R : am_TR) (q : Nat) (Q : Int32 → Prop) : Prop := ∃ i, i < 2 ∧ q = 1001 + i ∧ Q (nI (am_len.getD i 0))
abbrev po_String_length (I : am_TI) (L : am_TL) (R : am_TR) (Q : Int32 → Prop) : Option Value → am_St → Prop := fun r σ' => ∃ (x : Int32), r = some (.int x) ∧ σ' = (I, L, R, am_SH) ∧ Q x
theorem cm_String_length {d : Nat} {I : am_TI} {L : am_TL} {R : am_TR} (hw : am_Wf R) {q : Nat} {Q : Int32 → Prop} (hd : 2 ≤ d) (h : wp_String_length I L R q Q) : am_Cm d 0 0 y_String_length b_String_length 1 (some .int) [.ref q] (I, L, R, am_SH) (po_String_length I L R Q) := by
  obtain ⟨i, hi, rfl, h⟩ := h
  refine am_Cm_of (ini := false) (by decide +kernel) (fun z => by cases z) (by simp [Value.category]) (fun r σ' z => by obtain ⟨x, rfl, -⟩ := z; exact ⟨_, rfl, rfl⟩) ?_
  show am_Wp (d, "java/lang/String", b_String_length, 1, false) 0 0 0 [some (.ref (1001 + i))] [] (I, L, R, am_SH) _
  refine am_aload_n (n := 1) d_String_length_0 rfl rfl ?_
  refine am_getSV (n := 4) hi d_String_length_1 rfl fs_String_9 ?_
  refine am_lenS (n := 5) hi d_String_length_4 rfl ?_
  refine am_aload_n (n := 6) d_String_length_5 rfl rfl ?_
  refine am_callStr (As := []) (n := 9) d_String_length_6 rfl ce_String_coder lk_String_335 in_String_coder rfl ⟨i, hi, rfl⟩ rfl rfl (Nat.le_of_ble_eq_true rfl) (cm_String_coder (d := d - 1) hi) (by omega) ?_
  rintro _ _ ⟨rfl, rfl⟩
  show am_Wp (d, "java/lang/String", b_String_length, 1, false) 0 0 9 [some (.ref (1001 + i))] [.int 0, .int (nI (am_len.getD i 0))] (I, L, R, am_SH) _
  refine am_ishr (n := 10) d_String_length_9 rfl ?_
  rw [sc_shr0 (by have := am_len_lt i hi; omega)]
  exact am_iret d_String_length_10 ⟨_, rfl, rfl, h⟩
theorem cm_Pre_checkIndex {d w : Nat} {k : Int32} {v : Value} (hk : vp_in k w) (hw : w < 2 ^ 31) (hv : v = .null ∨ v = .ref 1020) {σ : am_St} : am_Cm d 0 0 y_Preconditions_checkIndex b_Preconditions_checkIndex 3 (some .int) [.int k, .int (nI w), v] σ (fun r σ' => r = some (.int k) ∧ σ' = σ) := by
  obtain ⟨j, hj, rfl⟩ := vp_in_of hk hw
  refine am_Cm_of (ini := false) (by decide +kernel) (fun z => by cases z) (by rcases hv with rfl | rfl <;> simp [Value.category]) (fun r σ' z => by obtain ⟨rfl, -⟩ := z; exact ⟨_, rfl, rfl⟩) ?_
  have e0 : am_ent 3 [.int (nI j), .int (nI w), v] = [some (.int (nI j)), some (.int (nI w)), some v] := by rcases hv with rfl | rfl <;> rfl
  rw [e0]
  show am_Wp (d, "jdk/internal/util/Preconditions", b_Preconditions_checkIndex, 3, false) 0 0 0 _ [] σ _
  refine am_iload_n (n := 1) d_Preconditions_checkIndex_0 rfl rfl ?_
  refine am_if_lt (y := 0) (tgt := 9) (n := 4) d_Preconditions_checkIndex_1 rfl rfl (fun c => absurd c (nI_pos (by omega))) (fun c => ?_)
  refine am_iload_n (n := 5) d_Preconditions_checkIndex_4 rfl rfl ?_
  refine am_iload_n (n := 6) d_Preconditions_checkIndex_5 rfl rfl ?_
  refine am_icmp_lt (tgt := 16) (n := 9) d_Preconditions_checkIndex_6 rfl rfl (fun c => ?_) (fun c => absurd (nI_lt hj hw) c)
  refine am_iload_n (n := 17) d_Preconditions_checkIndex_16 rfl rfl ?_
  exact am_iret d_Preconditions_checkIndex_17 ⟨rfl, rfl⟩
theorem cm_String_checkIndex {d w : Nat} {k : Int32} (hd : 1 ≤ d) (hk : vp_in k w) (hw : w < 2 ^ 31) {σ : am_St} : am_Cm d 0 0 y_String_checkIndex b_String_checkIndex 2 none [.int k, .int (nI w)] σ (fun r σ' => r = none ∧ σ' = σ) := by
  refine am_Cm_of (ini := false) (by decide +kernel) (fun z => by cases z) (by simp [Value.category]) (fun r σ' z => by obtain ⟨rfl, -⟩ := z; rfl) ?_
  show am_Wp (d, "java/lang/String", b_String_checkIndex, 2, false) 0 0 0 [some (.int k), some (.int (nI w))] [] σ _
  refine am_iload_n (n := 1) d_String_checkIndex_0 rfl rfl ?_
  refine am_iload_n (n := 2) d_String_checkIndex_1 rfl rfl ?_
  refine am_getsF (n := 5) d_String_checkIndex_2 rfl fs_String_1053 (fun v hv => ?_)
  refine am_callS (kc := 0) (ks := 0) (As := [.int k, .int (nI w), v]) (n := 8) d_String_checkIndex_5 rfl ce_Preconditions_checkIndex lk_String_1059 st_Preconditions_checkIndex rfl rfl (Nat.le_of_ble_eq_true rfl) (Or.inl rfl) (cm_Pre_checkIndex (d := d - 1) hk hw hv) (by omega) ?_
  rintro _ _ ⟨rfl, rfl⟩
  refine am_pop (n := 9) d_String_checkIndex_8 rfl rfl ?_
  exact am_vret d_String_checkIndex_9 ⟨rfl, rfl⟩
theorem cm_Latin1_charAt {d i : Nat} {k : Int32} (hi : i < 2) (hd : 2 ≤ d) (hk : vp_in k (am_len.getD i 0)) {σ : am_St} : am_Cm d 0 0 y_StringLatin1_charAt b_StringLatin1_charAt 2 (some .char) [.ref (1011 + i), .int k] σ (fun r σ' => r = some (.int ((am_byt.getD i []).getD k.toNatClampNeg 0 &&& 255)) ∧ σ' = σ) := by
  refine am_Cm_of (ini := false) (by decide +kernel) (fun z => by cases z) (by simp [Value.category]) (fun r σ' z => by obtain ⟨rfl, -⟩ := z; exact ⟨_, rfl, sc_nar _⟩) ?_
  show am_Wp (d, "java/lang/StringLatin1", b_StringLatin1_charAt, 2, false) 0 0 0 [some (.ref (1011 + i)), some (.int k)] [] σ _
  refine am_iload_n (n := 1) d_StringLatin1_charAt_0 rfl rfl ?_
  refine am_aload_n (n := 2) d_StringLatin1_charAt_1 rfl rfl ?_
  refine am_lenS (n := 3) hi d_StringLatin1_charAt_2 rfl ?_
  refine am_callS (kc := 0) (ks := 0) (As := [.int k, .int (nI (am_len.getD i 0))]) (n := 6) d_StringLatin1_charAt_3 rfl ce_String_checkIndex lk_StringLatin1_9 st_String_checkIndex rfl rfl (Nat.le_of_ble_eq_true rfl) (Or.inl rfl) (cm_String_checkIndex (d := d - 1) (by omega) hk (by have := am_len_lt i hi; omega)) (by omega) ?_
  rintro _ _ ⟨rfl, rfl⟩
  show am_Wp (d, "java/lang/StringLatin1", b_StringLatin1_charAt, 2, false) 0 0 6 [some (.ref (1011 + i)), some (.int k)] [] _ _
  refine am_aload_n (n := 7) d_StringLatin1_charAt_6 rfl rfl ?_
  refine am_iload_n (n := 8) d_StringLatin1_charAt_7 rfl rfl ?_
  refine am_baldS (n := 9) hi d_StringLatin1_charAt_8 rfl hk ?_
  refine am_sipush (n := 12) (v := 255) d_StringLatin1_charAt_9 (by decide) rfl ?_
  refine am_iand (n := 13) d_StringLatin1_charAt_12 rfl ?_
  refine am_i2c (n := 14) d_StringLatin1_charAt_13 rfl ?_
  rw [sc_c2]
  exact am_iret d_StringLatin1_charAt_14 ⟨rfl, rfl⟩
def wp_String_charAt (_I : am_TI) (_L : am_TL) (_R : am_TR) (q : Nat) (p1 : Int32) (Q : Int32 → Prop) : Prop := ∃ i, i < 2 ∧ q = 1001 + i ∧ vp_in p1 (am_len.getD i 0) ∧ Q ((am_byt.getD i []).getD p1.toNatClampNeg 0 &&& 255)
abbrev po_String_charAt (I : am_TI) (L : am_TL) (R : am_TR) (Q : Int32 → Prop) : Option Value → am_St → Prop := fun r σ' => ∃ (x : Int32), r = some (.int x) ∧ σ' = (I, L, R, am_SH) ∧ Q x ∧ ∃ b, x = b &&& 255
theorem cm_String_charAt {d : Nat} {I : am_TI} {L : am_TL} {R : am_TR} (hw : am_Wf R) {q : Nat} {p1 : Int32} {Q : Int32 → Prop} (hd : 3 ≤ d) (h : wp_String_charAt I L R q p1 Q) : am_Cm d 0 0 y_String_charAt b_String_charAt 2 (some .char) [.ref q, .int p1] (I, L, R, am_SH) (po_String_charAt I L R Q) := by
  obtain ⟨i, hi, rfl, hk, h⟩ := h
  refine am_Cm_of (ini := false) (by decide +kernel) (fun z => by cases z) (by simp [Value.category]) (fun r σ' z => by obtain ⟨x, rfl, -, -, b, rfl⟩ := z; exact ⟨_, rfl, sc_nar _⟩) ?_
  show am_Wp (d, "java/lang/String", b_String_charAt, 2, false) 0 0 0 [some (.ref (1001 + i)), some (.int p1)] [] (I, L, R, am_SH) _
  refine am_aload_n (n := 1) d_String_charAt_0 rfl rfl ?_
  refine am_callStr (As := []) (n := 4) d_String_charAt_1 rfl ce_String_isLatin1 lk_String_492 in_String_isLatin1 rfl ⟨i, hi, rfl⟩ rfl rfl (Nat.le_of_ble_eq_true rfl) (cm_String_isLatin1 (d := d - 1) hi) (by omega) ?_
  rintro _ _ ⟨rfl, rfl⟩
  show am_Wp (d, "java/lang/String", b_String_charAt, 2, false) 0 0 4 [some (.ref (1001 + i)), some (.int p1)] [.int 1] (I, L, R, am_SH) _
  refine am_if_eq (y := 0) (tgt := 16) (n := 7) d_String_charAt_4 rfl rfl (fun c => absurd c (by decide)) (fun c => ?_)
  refine am_aload_n (n := 8) d_String_charAt_7 rfl rfl ?_
  refine am_getSV (n := 11) hi d_String_charAt_8 rfl fs_String_9 ?_
  refine am_iload_n (n := 12) d_String_charAt_11 rfl rfl ?_
  refine am_callS (kc := 0) (ks := 0) (As := [.ref (1011 + i), .int p1]) (n := 15) d_String_charAt_12 rfl ce_StringLatin1_charAt lk_String_495 st_StringLatin1_charAt rfl rfl (Nat.le_of_ble_eq_true rfl) (Or.inl rfl) (cm_Latin1_charAt (d := d - 1) hi (by omega) hk) (by omega) ?_
  rintro _ _ ⟨rfl, rfl⟩
  show am_Wp (d, "java/lang/String", b_String_charAt, 2, false) 0 0 15 [some (.ref (1001 + i)), some (.int p1)] [.int ((am_byt.getD i []).getD p1.toNatClampNeg 0 &&& 255)] (I, L, R, am_SH) _
  exact am_iret d_String_charAt_15 ⟨_, rfl, rfl, h, _, rfl⟩
