/-! calls that change longs too: the general form of 'both answer alike' -/
/-- what stays of the longs, but for top and bottom and for what is scratch -/
def fl_U (L L1 : am_TL) : Prop := ∀ r k, r ≠ 27 → ¬ (r = 0 ∧ (k = 16 ∨ k = 17)) → L1 r k = L r k
def fl_M (L L1 : am_TL) : Prop := ∀ r k, r ≠ 129 → ¬ (r = 103 ∧ (k = 3 ∨ k = 4)) → L1 r k = L r k
def pt_U (q : Nat → Nat) (c d : Nat) (I : am_TI) (L : am_TL) (st : Nat) (T B : Int64) (I1 : am_TI) (L1 : am_TL) : Prop := sq_U q c d I1 L1 ∧ I1 0 15 = nI st ∧ fr_U d I I1 ∧ L1 0 16 = T ∧ L1 0 17 = B ∧ fl_U L L1
def pt_M (q : Nat → Nat) (I : am_TI) (L : am_TL) (st : Nat) (T B : Int64) (I1 : am_TI) (L1 : am_TL) : Prop := sq_M q 0 I1 L1 ∧ I1 103 2 = nI st ∧ fr_M I I1 ∧ L1 103 3 = T ∧ L1 103 4 = B ∧ fl_M L L1
def si_T {α : Type} (q : Nat → Nat) (T B : Int64) (U M : am_TI → am_TL → am_TR → (α → am_TI → am_TL → Prop) → Prop) : Prop :=
  ∃ (ans : α) (st : Nat) (q' : Nat → Nat) (T' B' : Int64), sq_Ok q' ∧
    (∀ c d I L R, sq_cd c d → sq_U q c d I L → am_rd R 0 11 = c → am_rd R c 5 = d → I 26 0 = nI 0 → L 0 16 = T → L 0 17 = B → ∀ Q : α → am_TI → am_TL → Prop, (∀ I1 L1, pt_U q' c d I L st T' B' I1 L1 → Q ans I1 L1) → U I L R Q) ∧
    (∀ I L R, sq_M q 0 I L → L 103 3 = T → L 103 4 = B → ∀ Q : α → am_TI → am_TL → Prop, (∀ I1 L1, pt_M q' I L st T' B' I1 L1 → Q ans I1 L1) → M I L R Q)
section
variable {α : Type} {q q' : Nat → Nat} {c d : Nat} {I I1 I2 : am_TI} {L L1 L2 : am_TL} {R : am_TR} {T B : Int64}
theorem fl_U.rfl : fl_U L L := fun _ _ _ _ => Eq.refl _
theorem fl_M.rfl : fl_M L L := fun _ _ _ _ => Eq.refl _
theorem fl_U.trans (h : fl_U L L1) (h2 : fl_U L1 L2) : fl_U L L2 := fun r k a b => (h2 r k a b).trans (h r k a b)
theorem fl_M.trans (h : fl_M L L1) (h2 : fl_M L1 L2) : fl_M L L2 := fun r k a b => (h2 r k a b).trans (h r k a b)
theorem si_I.toT {U M : am_TI → am_TL → am_TR → (α → am_TI → Prop) → Prop} (h : si_I q U M) (T B : Int64) : si_T q T B (fun I L R Q => U I L R (fun a I1 => Q a I1 L)) (fun I L R Q => M I L R (fun a I1 => Q a I1 L)) := by
  obtain ⟨ans, st, q', ok, hU, hM⟩ := h
  refine ⟨ans, st, q', T, B, ok, ?_, ?_⟩
  · intro c d I L R hcd h hc hd hz h16 h17 Q K
    exact hU c d I L R hcd h hc hd hz _ (fun I1 ⟨p1, p2, p3⟩ => K I1 L ⟨p1, p2, p3, h16, h17, fl_U.rfl⟩)
  · intro I L R h h3 h4 Q K
    exact hM I L R h _ (fun I1 ⟨p1, p2, p3⟩ => K I1 L ⟨p1, p2, p3, h3, h4, fl_M.rfl⟩)
theorem pt_U.q0 (h : sq_U q c d I L) (hcd : sq_cd c d) (hT : L 0 16 = T) (hB : L 0 17 = B) (st : Nat) : pt_U q c d I L st T B (am_u2 I 0 15 (nI st)) L := by
  obtain ⟨a, b, e⟩ := po_U.q0 h hcd st
  exact ⟨a, b, e, hT, hB, fl_U.rfl⟩
theorem pt_M.q0 (h : sq_M q 0 I L) (ok : sq_Ok q) (hT : L 103 3 = T) (hB : L 103 4 = B) (st : Nat) : pt_M q I L st T B (am_u2 I 103 2 (nI st)) L := by
  obtain ⟨a, b, e⟩ := po_M.q0 h ok st
  exact ⟨a, b, e, hT, hB, fl_M.rfl⟩
theorem sq_U.keepL (h : sq_U q c d I L) (e : L1 (c + 1) = L (c + 1)) : sq_U q c d I L1 := h.keep (fun _ _ => rfl) e
theorem fl_U.sq (f : fl_U L L1) (h : sq_U q c d I L) (hcd : sq_cd c d) : sq_U q c d I L1 := h.keepL (by
  obtain ⟨a, b⟩ := hcd
  funext k
  exact f (c + 1) k (by omega) (by omega))
theorem fl_M.sq (f : fl_M L L1) (h : sq_M q 0 I L) (ok : sq_Ok q) : sq_M q 0 I L1 := h.keep (fun _ _ _ => Eq.refl _) (by
  funext k
  exact f 105 k (by omega) (by omega)) ok.2.2.2.2.1
theorem pt_U.of (h : sq_U q c d I1 L1) (hcd : sq_cd c d) (f : fr_U d I I1) (hT : L1 0 16 = T) (hB : L1 0 17 = B) (fl : fl_U L L1) (st : Nat) : pt_U q c d I L st T B (am_u2 I1 0 15 (nI st)) L1 := by
  obtain ⟨a, b, e⟩ := po_U.q0 h hcd st
  exact ⟨a, b, f.trans e, hT, hB, fl⟩
theorem pt_M.of (h : sq_M q 0 I1 L1) (ok : sq_Ok q) (f : fr_M I I1) (hT : L1 103 3 = T) (hB : L1 103 4 = B) (fl : fl_M L L1) (st : Nat) : pt_M q I L st T B (am_u2 I1 103 2 (nI st)) L1 := by
  obtain ⟨a, b, e⟩ := po_M.q0 h ok st
  exact ⟨a, b, f.trans e, hT, hB, fl⟩
end
/-! bits -/
/-- those of a set that aren't in another -/
def zan (a b : Nat) : Nat := a ^^^ (a &&& b)
theorem zan_bit (a b i : Nat) : (zan a b).testBit i = (a.testBit i && !b.testBit i) := by
  unfold zan
  rw [Nat.testBit_xor, Nat.testBit_and]
  cases a.testBit i <;> cases b.testBit i <;> rfl
theorem zan_le (a b : Nat) : zan a b ≤ a := by
  rw [show zan a b = zan a b &&& a from Nat.eq_of_testBit_eq fun i => by
    rw [Nat.testBit_and, zan_bit]; cases a.testBit i <;> simp]
  exact Nat.and_le_right
theorem ze_an (a b : Nat) : nI a &&& (nI b ^^^ -1) = nI (zan a b) := by
  apply Int32.toBitVec_inj.1
  show BitVec.ofNat 32 a &&& (BitVec.ofNat 32 b ^^^ (-1 : Int32).toBitVec) = BitVec.ofNat 32 (zan a b)
  apply BitVec.eq_of_getLsbD_eq
  intro i hi
  have e : (-1 : Int32).toBitVec = BitVec.allOnes 32 := by decide
  rw [e, BitVec.getLsbD_and, BitVec.getLsbD_xor, BitVec.getLsbD_ofNat, BitVec.getLsbD_ofNat, BitVec.getLsbD_ofNat, BitVec.getLsbD_allOnes, zan_bit]
  simp [hi]
theorem zn_an (a b : Nat) : nI a &&& (nI b ^^^ nM) = nI (zan a b) := ze_an a b
theorem zs_inj {f g : Nat → Bool} {n : Nat} : zs_bs f n = zs_bs g n ↔ ∀ i, i < n → f i = g i := by
  constructor
  · intro h i hi
    have a := zs_bit f i n
    rw [h, zs_bit g i n] at a
    simpa [hi] using a.symm
  · exact zs_cong
theorem zb_bit : ∀ k, k < 64 → ((nI k).toInt64 &&& 63) = lN k := by decide +kernel
theorem zb_smod : ∀ k, k < 64 → (BitVec.ofNat 64 k).smod 64 = BitVec.ofNat 64 k := by decide +kernel
theorem zb_one : ∀ k, k < 64 → (1 : Int64) <<< (Int32.toInt64 (nI k) &&& 63) = lN (2 ^ k) := by decide +kernel
theorem zb_or (x : Int64) {k w : Nat} (hk : k < 64) (hw : w < 64) : (x ||| ((1 : Int64) <<< (Int32.toInt64 (nI k) &&& 63))).toBitVec.getLsbD w = (x.toBitVec.getLsbD w || decide (w = k)) := by
  rw [zb_one k hk, Int64.toBitVec_or, BitVec.getLsbD_or]
  congr 1
  show (BitVec.ofNat 64 (2 ^ k)).getLsbD w = _
  rw [BitVec.getLsbD_ofNat, Nat.testBit_two_pow]
  simp only [hw, decide_true, Bool.true_and, decide_eq_decide]
  exact eq_comm
theorem zb_get (x : Int64) {k : Nat} (hk : k < 64) : ((x >>> (Int32.toInt64 (nI k) &&& 63)) &&& 1 = 1) ↔ x.toBitVec.getLsbD k = true := by
  rw [zb_bit k hk]
  have e1 : ((x >>> lN k) &&& 1).toBitVec = x.toBitVec.sshiftRight k &&& 1#64 := by
    rw [Int64.toBitVec_and, Int64.toBitVec_shiftRight]
    congr 1
    show x.toBitVec.sshiftRight' ((BitVec.ofNat 64 k).smod 64) = _
    rw [zb_smod k hk, BitVec.sshiftRight', BitVec.toNat_ofNat, Nat.mod_eq_of_lt (by omega)]
  rw [← Int64.toBitVec_inj, e1]
  show x.toBitVec.sshiftRight k &&& 1#64 = 1#64 ↔ _
  have e2 : (x.toBitVec.sshiftRight k).getLsbD 0 = x.toBitVec.getLsbD k := by
    rw [BitVec.getLsbD_sshiftRight]
    simp [hk]
  rw [← e2]
  constructor
  · intro h
    have := congrArg (fun v => v.getLsbD 0) h
    simpa using this
  · intro h
    apply BitVec.eq_of_getLsbD_eq
    intro i hi
    rw [BitVec.getLsbD_and, BitVec.getLsbD_one]
    by_cases e : i = 0
    · subst e; simp [h]
    · simp [e]
