/-! the days' text: how two readers go together -/
def dcx (c d x : Nat) : Prop := sq_cd c d ∧ (x = 35 ∨ x = 47 ∨ x = 53) ∧ x ≠ d
def dh_U (x : Nat) (I0 I : am_TI) : Prop := ∀ r k, ¬ (r = 2 ∧ (k = 6 ∨ k = 8 ∨ k = 9)) → ¬ (r = 9 ∧ k = 1) → r ≠ 10 → ¬ (x ≤ r ∧ r ≤ x + 5) → I r k = I0 r k
def dg_U (x : Nat) (I0 I : am_TI) : Prop := ∀ r k, ¬ (r = 2 ∧ (k = 6 ∨ k = 8 ∨ k = 9 ∨ k = 10 ∨ k = 11)) → ¬ (r = 9 ∧ k = 1) → r ≠ 10 → ¬ (x ≤ r ∧ r ≤ x + 5) → I r k = I0 r k
def dh_M (J0 J : am_TI) : Prop := ∀ r k, ¬ (r = 103 ∧ (k = 12 ∨ k = 13 ∨ k = 14 ∨ k = 15 ∨ k = 22 ∨ k = 23)) → r ≠ 111 → ¬ (r = 104 ∧ 1631 ≤ k ∧ k < 2030) → J r k = J0 r k
def dg_M (J0 J : am_TI) : Prop := ∀ r k, ¬ (r = 103 ∧ (k = 12 ∨ k = 13 ∨ k = 14 ∨ k = 15 ∨ k = 17 ∨ k = 18 ∨ k = 22 ∨ k = 23)) → r ≠ 111 → ¬ (r = 104 ∧ 1631 ≤ k ∧ k < 2030) → J r k = J0 r k
def dW1 (w : Nat) : Prop := w = 10 ∨ w = 11 ∨ w = 12 ∨ w = 14 ∨ w = 18 ∨ w = 1721 ∨ w = 1722 ∨ w = 1724
def dW2 (w : Nat) : Prop := w = 14 ∨ w = 1723 ∨ w = 1724
def dW3 (w : Nat) : Prop := w = 1723 ∨ w = 1724
def dW5 (w : Nat) : Prop := w = 18 ∨ w = 19 ∨ 1700 ≤ w
/-- a row in the class -/
def dR (g : Nat → Nat) (x dp : Nat) (op : Nat → Nat) (I : am_TI) (j : Nat) : Prop :=
  I (x + 1) j = nI (dy_w (g (38 + 6 * j))) ∧ (dW1 (g (38 + 6 * j)) → I (x + 2) j = nI (g (39 + 6 * j))) ∧ (dW2 (g (38 + 6 * j)) → I (x + 3) j = nI (g (40 + 6 * j))) ∧ (dW3 (g (38 + 6 * j)) → I (x + 4) j = nI (g (43 + 6 * j))) ∧ (dW5 (g (38 + 6 * j)) → (∃ i, i < dp ∧ op i = j) ∨ I (x + 5) j = nI (g (42 + 6 * j)))
/-- the class, rows below s read, S rows begun -/
def dA (y : Nat → Nat) (n : Nat) (q g : Nat → Nat) (s S k dp : Nat) (op : Nat → Nat) (p x c d : Nat) (I0 : am_TI) (L : am_TL) (I : am_TI) : Prop :=
  (dcx c d x ∧ sq_U q c d I0 L ∧ dh_U x I0 I) ∧ tk_U y n p I L ∧ (I x 6 = nI S ∧ I x 7 = nI k ∧ I 9 1 = nI dp ∧ ∀ i, i < dp → I 10 i = nI (op i)) ∧ ∀ j, j < s → dR g x dp op I j
/-- the class within a row -/
def dA1 (y : Nat → Nat) (n : Nat) (q g : Nat → Nat) (s k dp : Nat) (op : Nat → Nat) (w : Nat) (f1 f2 f3 : Option Nat) (p x c d : Nat) (I0 : am_TI) (L : am_TL) (I : am_TI) : Prop :=
  s < 60 ∧ dA y n q g s (s + 1) k dp op p x c d I0 L I ∧ I (x + 1) s = nI w ∧ (∀ v, f1 = some v → I (x + 2) s = nI v) ∧ (∀ v, f2 = some v → I (x + 3) s = nI v) ∧ (∀ v, f3 = some v → I (x + 4) s = nI v)
/-- the reference -/
def dB (y : Nat → Nat) (n : Nat) (q g : Nat → Nat) (S k dp : Nat) (op : Nat → Nat) (p : Nat) (J0 : am_TI) (L : am_TL) (J : am_TI) : Prop :=
  (sq_M q 0 J0 L ∧ dh_M J0 J) ∧ tk_M y n p J ∧ (J 104 1631 = nI S ∧ J 103 23 = nI k ∧ J 103 22 = nI dp ∧ ∀ i, i < dp → J 111 i = nI (op i)) ∧ ∀ j, j < S → ∀ i, i < 6 → i ≠ 3 → J 104 (1662 + 6 * j + i) = nI (g (38 + 6 * j + i))
abbrev dT := am_TI → am_TL → am_TR → (Bool → am_TI → Prop) → Prop
def SD (y : Nat → Nat) (n : Nat) (q : Nat → Nat) (lb : Nat) (A : Nat → Nat → Nat → am_TI → am_TL → am_TI → Prop) (B : am_TI → am_TL → am_TI → Prop) (U : Nat → Nat → Nat → dT) (M : dT) : Prop :=
  (∃ v pl, (0 < v ∧ v < 10 ∧ pl ≤ n) ∧
    (∀ x c d I0 I L R (Q : Bool → am_TI → Prop), A x c d I0 L I → (∀ I1, I1 2 10 = nI v → I1 2 11 = nI pl → dg_U x I0 I1 → Q false I1) → U x c d I L R Q) ∧
    (∀ J0 I L R (Q : Bool → am_TI → Prop), B J0 L I → (∀ I1, I1 103 18 = nI v → I1 103 17 = nI pl → dg_M J0 I1 → Q false I1) → M I L R Q)) ∨
  (∃ g s k dp op p, (dI q g s dp k op ∧ lb ≤ p) ∧
    (∀ x c d I0 I L R (Q : Bool → am_TI → Prop), A x c d I0 L I → (∀ I1, dA y n q g s s k dp op p x c d I0 L I1 → Q true I1) → U x c d I L R Q) ∧
    (∀ J0 I L R (Q : Bool → am_TI → Prop), B J0 L I → (∀ I1, dB y n q g s k dp op p J0 L I1 → Q true I1) → M I L R Q))
section
variable {y : Nat → Nat} {n lb : Nat} {q g g' : Nat → Nat} {s S k dp p p1 : Nat} {op : Nat → Nat} {x c d : Nat} {I I0 I1 J J0 J1 : am_TI} {L : am_TL} {R : am_TR} {w : Nat} {f1 f2 f3 : Option Nat} {A A1 : Nat → Nat → Nat → am_TI → am_TL → am_TI → Prop} {B B1 : am_TI → am_TL → am_TI → Prop} {U U1 : Nat → Nat → Nat → dT} {M M1 : dT}
theorem SD.pre (hU : ∀ x c d I0 I L R (Q : Bool → am_TI → Prop), A x c d I0 L I → (∀ I1, A1 x c d I0 L I1 → U1 x c d I1 L R Q) → U x c d I L R Q) (hM : ∀ J0 I L R (Q : Bool → am_TI → Prop), B J0 L I → (∀ I1, B1 J0 L I1 → M1 I1 L R Q) → M I L R Q) (h : SD y n q lb A1 B1 U1 M1) : SD y n q lb A B U M := by
  rcases h with ⟨v, pl, hv, a, b⟩ | ⟨g, s, k, dp, op, p, hg, a, b⟩
  · exact Or.inl ⟨v, pl, hv, fun x c d I0 I L R Q s K => hU x c d I0 I L R Q s (fun I1 s1 => a x c d I0 I1 L R Q s1 K), fun J0 I L R Q s K => hM J0 I L R Q s (fun I1 s1 => b J0 I1 L R Q s1 K)⟩
  · exact Or.inr ⟨g, s, k, dp, op, p, hg, fun x c d I0 I L R Q s K => hU x c d I0 I L R Q s (fun I1 s1 => a x c d I0 I1 L R Q s1 K), fun J0 I L R Q s K => hM J0 I L R Q s (fun I1 s1 => b J0 I1 L R Q s1 K)⟩
theorem SD.imp (hU : ∀ x c d I0 I L R (Q : Bool → am_TI → Prop), A x c d I0 L I → U1 x c d I L R Q → U x c d I L R Q) (hM : ∀ J0 I L R (Q : Bool → am_TI → Prop), B J0 L I → M1 I L R Q → M I L R Q) (h : SD y n q lb A B U1 M1) : SD y n q lb A B U M :=
  h.pre (fun x c d I0 I L R Q s K => hU x c d I0 I L R Q s (K I s)) (fun J0 I L R Q s K => hM J0 I L R Q s (K I s))
theorem dR.keep {j : Nat} (h : dR g x dp op I j) (e : ∀ r, x + 1 ≤ r → r ≤ x + 5 → I1 r j = I r j) : dR g x dp op I1 j := by
  obtain ⟨a1, a2, a3, a4, a5⟩ := h
  refine ⟨by rw [e _ (by omega) (by omega)]; exact a1, fun z => by rw [e _ (by omega) (by omega)]; exact a2 z, fun z => by rw [e _ (by omega) (by omega)]; exact a3 z, fun z => by rw [e _ (by omega) (by omega)]; exact a4 z, fun z => ?_⟩
  rcases a5 z with w | w
  · exact Or.inl w
  · exact Or.inr (by rw [e _ (by omega) (by omega)]; exact w)
theorem dA.chg (h : dA y n q g s S k dp op p x c d I0 L I) (f : ∀ r i, ¬ (x ≤ r ∧ r ≤ x + 5) → ¬ (r = 9 ∧ i = 1) → r ≠ 10 → I1 r i = I r i) {s' S' k' dp' : Nat} {op' : Nat → Nat} (e6 : I1 x 6 = nI S') (e7 : I1 x 7 = nI k') (e9 : I1 9 1 = nI dp') (eo : ∀ i, i < dp' → I1 10 i = nI (op' i)) (er : ∀ j, j < s' → dR g' x dp' op' I1 j) : dA y n q g' s' S' k' dp' op' p x c d I0 L I1 := by
  obtain ⟨⟨a1, a2, a3⟩, a4, a5, a6⟩ := h
  obtain ⟨b1, b2, b3⟩ := id a1
  refine ⟨⟨a1, a2, fun r i z1 z2 z3 z4 => (f r i z4 z2 z3).trans (a3 r i z1 z2 z3 z4)⟩, a4.keep (fun i hi => f 2 i (by omega) (by omega) (by omega)) (fun i => f 5 i (by omega) (by omega) (by omega)) (fun i => f 6 i (by omega) (by omega) (by omega)) rfl, ⟨e6, e7, e9, eo⟩, er⟩
theorem dA.tok (h : dA y n q g s S k dp op p x c d I0 L I) (t : tk_U y n p1 I1 L) (f : fa_U I I1) : dA y n q g s S k dp op p1 x c d I0 L I1 := by
  obtain ⟨⟨a1, a2, a3⟩, a4, ⟨a5, a6, a7, a8⟩, a9⟩ := h
  obtain ⟨b1, b2, b3⟩ := id a1
  refine ⟨⟨a1, a2, fun r i z1 z2 z3 z4 => (f r i (by omega)).trans (a3 r i z1 z2 z3 z4)⟩, t, ⟨by rw [f x 6 (by omega)]; exact a5, by rw [f x 7 (by omega)]; exact a6, by rw [f 9 1 (by omega)]; exact a7, fun i hi => by rw [f 10 i (by omega)]; exact a8 i hi⟩, fun j hj => (a9 j hj).keep (fun r z1 z2 => f r j (by omega))⟩
theorem dA1.tok (h : dA1 y n q g s k dp op w f1 f2 f3 p x c d I0 L I) (t : tk_U y n p1 I1 L) (f : fa_U I I1) : dA1 y n q g s k dp op w f1 f2 f3 p1 x c d I0 L I1 := by
  obtain ⟨a0, a1, a2, a3, a4, a5⟩ := h
  obtain ⟨b1, b2, b3⟩ := id a1.1.1
  exact ⟨a0, a1.tok t f, by rw [f (x + 1) s (by omega)]; exact a2, fun v hv => by rw [f (x + 2) s (by omega)]; exact a3 v hv, fun v hv => by rw [f (x + 3) s (by omega)]; exact a4 v hv, fun v hv => by rw [f (x + 4) s (by omega)]; exact a5 v hv⟩
theorem dA.sq (h : dA y n q g s S k dp op p x c d I0 L I) : sq_U q c d I L := by
  obtain ⟨⟨a1, a2, a3⟩, a4, a5, a6⟩ := h
  obtain ⟨⟨b1, b4⟩, b2, b3⟩ := id a1
  exact a2.keep (fun r hr => by funext i; exact a3 r i (by omega) (by omega) (by omega) (by omega)) rfl
theorem dB.chg (h : dB y n q g S k dp op p J0 L J) (f : ∀ r i, ¬ (r = 103 ∧ (i = 22 ∨ i = 23)) → r ≠ 111 → ¬ (r = 104 ∧ 1631 ≤ i ∧ i < 2030) → J1 r i = J r i) {S' k' dp' : Nat} {op' : Nat → Nat} (e6 : J1 104 1631 = nI S') (e7 : J1 103 23 = nI k') (e9 : J1 103 22 = nI dp') (eo : ∀ i, i < dp' → J1 111 i = nI (op' i)) (er : ∀ j, j < S' → ∀ i, i < 6 → i ≠ 3 → J1 104 (1662 + 6 * j + i) = nI (g' (38 + 6 * j + i))) : dB y n q g' S' k' dp' op' p J0 L J1 := by
  obtain ⟨⟨a1, a2⟩, a4, a5, a6⟩ := h
  exact ⟨⟨a1, fun r i z1 z2 z3 => (f r i (by omega) z2 z3).trans (a2 r i z1 z2 z3)⟩, a4.keep (fun i hi => f 103 i (by omega) (by omega) (by omega)) (fun i => f 110 i (by omega) (by omega) (by omega)), ⟨e6, e7, e9, eo⟩, er⟩
theorem dB.tok (h : dB y n q g S k dp op p J0 L J) (t : tk_M y n p1 J1) (f : fa_M J J1) : dB y n q g S k dp op p1 J0 L J1 := by
  obtain ⟨⟨a1, a2⟩, a4, ⟨a5, a6, a7, a8⟩, a9⟩ := h
  exact ⟨⟨a1, fun r i z1 z2 z3 => (f r i (by omega)).trans (a2 r i z1 z2 z3)⟩, t, ⟨by rw [f _ _ (by omega)]; exact a5, by rw [f _ _ (by omega)]; exact a6, by rw [f _ _ (by omega)]; exact a7, fun i hi => by rw [f _ _ (by omega)]; exact a8 i hi⟩, fun j hj i hi z => by rw [f _ _ (by omega)]; exact a9 j hj i hi z⟩
theorem dB.sq (h : dB y n q g S k dp op p J0 L J) (ok : sq_Ok q) : sq_M q 0 J L :=
  h.1.1.keep (fun i _ _ => h.1.2 104 i (by omega) (by omega) (by omega)) rfl ok.2.2.2.2.1
/-- a number goes into the reference's row -/
theorem dB.put (h : dB y n q g S k dp op p J0 L J) {j i : Nat} (hj : j < S) (hS : S ≤ 60) (hi : i < 6) (v : Nat) : dB y n q (zu g (38 + 6 * j + i) v) S k dp op p J0 L (am_u2 J 104 (1662 + 6 * j + i) (nI v)) := by
  obtain ⟨_, _, ⟨a5, a6, a7, a8⟩, a9⟩ := id h
  refine h.chg (fun r i' z1 z2 z3 => by unfold am_u2; rw [if_neg (by omega)]) (by rw [am_u2_ne _ _ _ _ (by omega)]; exact a5) (by rw [am_u2o (by omega)]; exact a6) (by rw [am_u2o (by omega)]; exact a7) (fun i' hi' => by rw [am_u2o (by omega)]; exact a8 i' hi') (fun j' hj' i' hi' z => ?_)
  by_cases e : 38 + 6 * j' + i' = 38 + 6 * j + i
  · rw [e, zu_s, show 1662 + 6 * j' + i' = 1662 + 6 * j + i by omega, am_u2_at]
  · rw [zu_n e, am_u2_ne _ _ _ _ (by omega)]
    exact a9 j' hj' i' hi' z
/-- faults -/
theorem dA.uf {v : Nat} (h : dA y n q g s S k dp op p x c d I0 L I) (u : uf v p1 I I1) : I1 2 10 = nI v ∧ I1 2 11 = nI p1 ∧ dg_U x I0 I1 :=
  ⟨u.1, u.2.1, fun r i z1 z2 z3 z4 => (u.2.2 r i (by omega)).trans (h.1.2.2 r i (by omega) z2 z3 z4)⟩
theorem dB.mf {v : Nat} (h : dB y n q g S k dp op p J0 L J) (u : mf v p1 J J1) : J1 103 18 = nI v ∧ J1 103 17 = nI p1 ∧ dg_M J0 J1 :=
  ⟨u.1, u.2.1, fun r i z1 z2 z3 => (u.2.2 r i (by omega)).trans (h.1.2 r i (by omega) z2 z3)⟩
theorem SD.ref (hp : p ≤ n) {v : Nat} (hv : 0 < v ∧ v < 10) (hA : ∀ x c d I0 L I, A x c d I0 L I → ∃ g s S k dp op, dA y n q g s S k dp op p x c d I0 L I) (hB : ∀ J0 L I, B J0 L I → ∃ g S k dp op, dB y n q g S k dp op p J0 L I) : SD y n q lb A B (fun _ _ _ I L R Q => wp_Tokens_refuse I L R 2 (nI v) Q) (fun I L R Q => wp_M_fails I L R 103 (nI v) Q) := by
  have hf := ff_b (y := y) (n := n) (p := p) hv
  refine Or.inl ⟨ff y n p v, p, ⟨hf.1, hf.2, hp⟩, fun x c d I0 I L R Q a K => ?_, fun J0 I L R Q b K => ?_⟩
  · obtain ⟨g, s, S, k, dp, op, h⟩ := hA x c d I0 L I a
    exact su_ref h.2.1 (fun I1 u => K I1 (h.uf u).1 (h.uf u).2.1 (h.uf u).2.2)
  · obtain ⟨g, S, k, dp, op, h⟩ := hB J0 L I b
    exact sm_fail h.2.1 (fun I1 u => K I1 (h.mf u).1 (h.mf u).2.1 (h.mf u).2.2)
/-- a number into a field of the row, in the class -/
theorem su_dayFirst (h : dA1 y n q g s k dp op w f1 f2 f3 p x c d I0 L I) {lo hi : Nat} (hlo : lo < 2 ^ 31) (hhi : hi < 2 ^ 31) {p2 : Int32} (e2 : p2 = nI hi - nI 1) {Q : Bool → am_TI → Prop} (K1 : tK y n p = 4 → lo ≤ tW y n p → tW y n p < hi → ∀ I1, dA1 y n q g s k dp op w (some (tW y n p)) f2 f3 (tN y n p) x c d I0 L I1 → Q true I1) (K2 : ¬ (tK y n p = 4 ∧ lo ≤ tW y n p ∧ tW y n p < hi) → ∀ I1, I1 2 10 = nI (ff y n p (if tK y n p = 4 then 4 else 2)) → I1 2 11 = nI p → dg_U x I0 I1 → Q false I1) : wp_DaysReader_readFirst I L R 9 2 (nI lo) p2 x Q := by
  obtain ⟨b1, b2, b3⟩ := id h.2.1.1.1
  have s60 := h.1
  unfold wp_DaysReader_readFirst
  refine su_num h.2.1.2.1 hlo hhi e2 (fun c1 c2 c3 I1 t1 fr => ?_) (fun c1 I1 u => ?_)
  · have h1 := h.tok t1 fr
    have bw := tW_4 c1
    have e6 : I1 x 6 - 1 = nI s := by rw [h1.2.1.2.2.1.1, zi_1, zn_sub (by omega)]; rfl
    rw [e6, nI_clamp (by omega)]
    refine ⟨(zn_in (by omega)).2 s60, fun I2 h2 => ⟨fun z => absurd z (fun z => (zn_M (by omega)).1 z), fun _ => K1 c1 c2 c3 I2 ?_⟩⟩
    obtain ⟨a0, a1, a2, a3, a4, a5⟩ := h1
    obtain ⟨_, _, ⟨k1, k2, k3, k4⟩, k5⟩ := id a1
    have g2 : ∀ r i, ¬ (r = x + 2 ∧ i = s) → I2 r i = I1 r i := fun r i z => by rw [h2]; unfold am_u2; rw [if_neg z]
    have gv : I2 (x + 2) s = nI (tW y n p) := by rw [h2, am_u2_at]
    refine ⟨a0, a1.chg (fun r i z1 z2 z3 => g2 r i (by omega)) (by rw [g2 x 6 (by omega)]; exact k1) (by rw [g2 x 7 (by omega)]; exact k2) (by rw [g2 9 1 (by omega)]; exact k3) (fun i hi => by rw [g2 10 i (by omega)]; exact k4 i hi) (fun j hj => (k5 j hj).keep (fun r z1 z2 => g2 r j (by omega))), by rw [g2 (x + 1) s (by omega)]; exact a2, ?_, ?_, ?_⟩
    · intro v hv; cases hv; exact gv
    · intro v hv; rw [g2 (x + 3) s (by omega)]; exact a4 v hv
    · intro v hv; rw [g2 (x + 4) s (by omega)]; exact a5 v hv
  · have e6 : I1 x 6 - 1 = nI s := by rw [u.2.2 x 6 (by omega), h.2.1.2.2.1.1, zi_1, zn_sub (by omega)]; rfl
    rw [e6, nI_clamp (by omega)]
    refine ⟨(zn_in (by omega)).2 s60, fun I2 h2 => ⟨fun _ => ?_, fun z => absurd rfl z⟩⟩
    have g2 : ∀ r i, ¬ (r = x + 2 ∧ i = s) → I2 r i = I1 r i := fun r i z => by rw [h2]; unfold am_u2; rw [if_neg z]
    obtain ⟨u1, u2, u3⟩ := h.2.1.uf u
    exact K2 c1 I2 (by rw [g2 2 10 (by omega)]; exact u1) (by rw [g2 2 11 (by omega)]; exact u2) (fun r i z1 z2 z3 z4 => (g2 r i (by omega)).trans (u3 r i z1 z2 z3 z4))
theorem su_daySecond (h : dA1 y n q g s k dp op w f1 f2 f3 p x c d I0 L I) {lo hi : Nat} (hlo : lo < 2 ^ 31) (hhi : hi < 2 ^ 31) {p2 : Int32} (e2 : p2 = nI hi - nI 1) {Q : Bool → am_TI → Prop} (K1 : tK y n p = 4 → lo ≤ tW y n p → tW y n p < hi → ∀ I1, dA1 y n q g s k dp op w f1 (some (tW y n p)) f3 (tN y n p) x c d I0 L I1 → Q true I1) (K2 : ¬ (tK y n p = 4 ∧ lo ≤ tW y n p ∧ tW y n p < hi) → ∀ I1, I1 2 10 = nI (ff y n p (if tK y n p = 4 then 4 else 2)) → I1 2 11 = nI p → dg_U x I0 I1 → Q false I1) : wp_DaysReader_readSecond I L R 9 2 (nI lo) p2 x Q := by
  obtain ⟨b1, b2, b3⟩ := id h.2.1.1.1
  have s60 := h.1
  unfold wp_DaysReader_readSecond
  refine su_num h.2.1.2.1 hlo hhi e2 (fun c1 c2 c3 I1 t1 fr => ?_) (fun c1 I1 u => ?_)
  · have h1 := h.tok t1 fr
    have bw := tW_4 c1
    have e6 : I1 x 6 - 1 = nI s := by rw [h1.2.1.2.2.1.1, zi_1, zn_sub (by omega)]; rfl
    rw [e6, nI_clamp (by omega)]
    refine ⟨(zn_in (by omega)).2 s60, fun I2 h2 => ⟨fun z => absurd z (fun z => (zn_M (by omega)).1 z), fun _ => K1 c1 c2 c3 I2 ?_⟩⟩
    obtain ⟨a0, a1, a2, a3, a4, a5⟩ := h1
    obtain ⟨_, _, ⟨k1, k2, k3, k4⟩, k5⟩ := id a1
    have g2 : ∀ r i, ¬ (r = x + 3 ∧ i = s) → I2 r i = I1 r i := fun r i z => by rw [h2]; unfold am_u2; rw [if_neg z]
    have gv : I2 (x + 3) s = nI (tW y n p) := by rw [h2, am_u2_at]
    refine ⟨a0, a1.chg (fun r i z1 z2 z3 => g2 r i (by omega)) (by rw [g2 x 6 (by omega)]; exact k1) (by rw [g2 x 7 (by omega)]; exact k2) (by rw [g2 9 1 (by omega)]; exact k3) (fun i hi => by rw [g2 10 i (by omega)]; exact k4 i hi) (fun j hj => (k5 j hj).keep (fun r z1 z2 => g2 r j (by omega))), by rw [g2 (x + 1) s (by omega)]; exact a2, ?_, ?_, ?_⟩
    · intro v hv; rw [g2 (x + 2) s (by omega)]; exact a3 v hv
    · intro v hv; cases hv; exact gv
    · intro v hv; rw [g2 (x + 4) s (by omega)]; exact a5 v hv
  · have e6 : I1 x 6 - 1 = nI s := by rw [u.2.2 x 6 (by omega), h.2.1.2.2.1.1, zi_1, zn_sub (by omega)]; rfl
    rw [e6, nI_clamp (by omega)]
    refine ⟨(zn_in (by omega)).2 s60, fun I2 h2 => ⟨fun _ => ?_, fun z => absurd rfl z⟩⟩
    have g2 : ∀ r i, ¬ (r = x + 3 ∧ i = s) → I2 r i = I1 r i := fun r i z => by rw [h2]; unfold am_u2; rw [if_neg z]
    obtain ⟨u1, u2, u3⟩ := h.2.1.uf u
    exact K2 c1 I2 (by rw [g2 2 10 (by omega)]; exact u1) (by rw [g2 2 11 (by omega)]; exact u2) (fun r i z1 z2 z3 z4 => (g2 r i (by omega)).trans (u3 r i z1 z2 z3 z4))
end
