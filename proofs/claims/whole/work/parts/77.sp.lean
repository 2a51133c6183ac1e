/-! the square's text: how two readers go together -/
def fs_U (t : Nat) (I I1 : am_TI) : Prop := ∀ r k, ¬ (r = 2 ∧ (k = 6 ∨ k = 8 ∨ k = 9 ∨ k = 10 ∨ k = 11)) → r ≠ 8 → ¬ (t ≤ r ∧ r ≤ t + 5) → I1 r k = I r k
def fs_L (t : Nat) (L L1 : am_TL) : Prop := ∀ r, r ≠ t + 1 → L1 r = L r
def fs_M (I I1 : am_TI) : Prop := ∀ r k, ¬ (r = 103 ∧ (k = 12 ∨ k = 13 ∨ k = 14 ∨ k = 15 ∨ k = 17 ∨ k = 18 ∨ k = 20)) → ¬ (r = 104 ∧ 1624 ≤ k ∧ k < 1662) → I1 r k = I r k
def fs_N (L L1 : am_TL) : Prop := ∀ r k, ¬ (r = 105 ∧ 24 ≤ k ∧ k < 30) → L1 r k = L r k
def fs_K (I I1 : am_TI) : Prop := ∀ r k, ¬ (r = 103 ∧ (k = 12 ∨ k = 13 ∨ k = 14 ∨ k = 15 ∨ k = 20)) → ¬ (r = 104 ∧ 1624 ≤ k ∧ k < 1662) → I1 r k = I r k
def ku (t : Nat) (I : am_TI) (L : am_TL) (I1 : am_TI) (L1 : am_TL) : Prop := I1 2 10 = I 2 10 ∧ I1 2 11 = I 2 11 ∧ fs_U t I I1 ∧ fs_L t L L1
def km (I : am_TI) (L : am_TL) (I1 : am_TI) (L1 : am_TL) : Prop := fs_K I I1 ∧ fs_N L L1
def sU (y : Nat → Nat) (n : Nat) (q f : Nat → Nat) (p t e : Nat) (I : am_TI) (L : am_TL) : Prop := tk_U y n p I L ∧ sq_U q t e I L ∧ I 8 0 = nI (f 0) ∧ I 8 1 = nI (f 1) ∧ I 8 2 = nI (f 2)
def sM (y : Nat → Nat) (n : Nat) (g : Nat → Nat) (tp p : Nat) (I : am_TI) (L : am_TL) : Prop := tk_M y n p I ∧ sq_M g 4 I L ∧ I 103 20 = nI tp
def sG (q f : Nat → Nat) (tp : Nat) : Prop := sq_Ok q ∧ (f 0 ≤ 1 ∧ f 1 ≤ 1 ∧ f 2 ≤ 1) ∧ (f 2 = 0 → q 6 = 0) ∧ q 7 = 0 ∧ tp < 64 ∧ (tp.testBit 0 = true ↔ (f 0 = 1 ∨ f 2 = 1 ∨ 0 < q 3 ∨ 0 < q 4)) ∧ (tp.testBit 1 = true ↔ f 1 = 1) ∧ (tp.testBit 2 = true ↔ f 2 = 1)
abbrev sT := am_TI → am_TL → am_TR → (Bool → am_TI → am_TL → Prop) → Prop
def SP (y : Nat → Nat) (n lb : Nat) (q f g : Nat → Nat) (tp p : Nat) (U : Nat → sT) (M : sT) : Prop :=
  (∃ v pl, (0 < v ∧ v < 10 ∧ pl ≤ n) ∧
    (∀ t e I L R (Q : Bool → am_TI → am_TL → Prop), sq_cd t e → sU y n q f p t e I L → (∀ I1 L1, I1 2 10 = nI v → I1 2 11 = nI pl → fs_U t I I1 → fs_L t L L1 → Q false I1 L1) → U t I L R Q) ∧
    (∀ I L R (Q : Bool → am_TI → am_TL → Prop), sM y n g tp p I L → (∀ I1 L1, I1 103 18 = nI v → I1 103 17 = nI pl → fs_M I I1 → fs_N L L1 → Q false I1 L1) → M I L R Q)) ∨
  (∃ q' f' tp' p', (sG q' f' tp' ∧ lb ≤ p') ∧
    (∀ t e I L R (Q : Bool → am_TI → am_TL → Prop), sq_cd t e → sU y n q f p t e I L → (∀ I1 L1, sU y n q' f' p' t e I1 L1 → ku t I L I1 L1 → Q true I1 L1) → U t I L R Q) ∧
    (∀ I L R (Q : Bool → am_TI → am_TL → Prop), sM y n g tp p I L → (∀ I1 L1, sM y n q' tp' p' I1 L1 → km I L I1 L1 → Q true I1 L1) → M I L R Q))
section
variable {y : Nat → Nat} {n lb : Nat} {q f g q1 f1 g1 : Nat → Nat} {tp p tp1 p1 : Nat} {I I1 I2 : am_TI} {L L1 L2 : am_TL} {R : am_TR} {U U1 : Nat → sT} {M M1 : sT} {t e : Nat}
theorem ku.refl : ku t I L I L := ⟨rfl, rfl, fun _ _ _ _ _ => rfl, fun _ _ => rfl⟩
theorem km.refl : km I L I L := ⟨fun _ _ _ _ => rfl, fun _ _ _ => rfl⟩
theorem ku.trans (a : ku t I L I1 L1) (b : ku t I1 L1 I2 L2) : ku t I L I2 L2 := ⟨b.1.trans a.1, b.2.1.trans a.2.1, fun r k x1 x2 x3 => (b.2.2.1 r k x1 x2 x3).trans (a.2.2.1 r k x1 x2 x3), fun r x => (b.2.2.2 r x).trans (a.2.2.2 r x)⟩
theorem km.trans (a : km I L I1 L1) (b : km I1 L1 I2 L2) : km I L I2 L2 := ⟨fun r k x1 x2 => (b.1 r k x1 x2).trans (a.1 r k x1 x2), fun r k x => (b.2 r k x).trans (a.2 r k x)⟩
/-- a piece ahead, in both -/
theorem SP.pre (hU : ∀ t e I L R (Q : Bool → am_TI → am_TL → Prop), sq_cd t e → sU y n q f p t e I L → (∀ I1 L1, sU y n q1 f1 p1 t e I1 L1 → ku t I L I1 L1 → U1 t I1 L1 R Q) → U t I L R Q) (hM : ∀ I L R (Q : Bool → am_TI → am_TL → Prop), sM y n g tp p I L → (∀ I1 L1, sM y n g1 tp1 p1 I1 L1 → km I L I1 L1 → M1 I1 L1 R Q) → M I L R Q) (h : SP y n lb q1 f1 g1 tp1 p1 U1 M1) : SP y n lb q f g tp p U M := by
  rcases h with ⟨v, pl, hv, a, b⟩ | ⟨q', f', tp', p', hg, a, b⟩
  · refine Or.inl ⟨v, pl, hv, fun t e I L R Q hc s K => hU t e I L R Q hc s (fun I1 L1 s1 k1 => a t e I1 L1 R Q hc s1 (fun I2 L2 x1 x2 x3 x4 => K I2 L2 x1 x2 ?_ ?_)), fun I L R Q s K => hM I L R Q s (fun I1 L1 s1 k1 => b I1 L1 R Q s1 (fun I2 L2 x1 x2 x3 x4 => K I2 L2 x1 x2 ?_ ?_))⟩
    · exact fun r k z1 z2 z3 => (x3 r k z1 z2 z3).trans (k1.2.2.1 r k z1 z2 z3)
    · exact fun r z => (x4 r z).trans (k1.2.2.2 r z)
    · exact fun r k z1 z2 => (x3 r k z1 z2).trans (k1.1 r k (by omega) z2)
    · exact fun r k z => (x4 r k z).trans (k1.2 r k z)
  · exact Or.inr ⟨q', f', tp', p', hg, fun t e I L R Q hc s K => hU t e I L R Q hc s (fun I1 L1 s1 k1 => a t e I1 L1 R Q hc s1 (fun I2 L2 s2 k2 => K I2 L2 s2 (k1.trans k2))), fun I L R Q s K => hM I L R Q s (fun I1 L1 s1 k1 => b I1 L1 R Q s1 (fun I2 L2 s2 k2 => K I2 L2 s2 (k1.trans k2)))⟩
/-- both refuse -/
theorem SP.fault {v : Nat} (hv : 0 < v ∧ v < 10) (hp : p ≤ n) (hU : ∀ t e I L R (Q : Bool → am_TI → am_TL → Prop), sq_cd t e → sU y n q f p t e I L → (∀ I1, uf v p I I1 → Q false I1 L) → U t I L R Q) (hM : ∀ I L R (Q : Bool → am_TI → am_TL → Prop), sM y n g tp p I L → (∀ I1, mf v p I I1 → Q false I1 L) → M I L R Q) : SP y n lb q f g tp p U M := by
  refine Or.inl ⟨v, p, ⟨hv.1, hv.2, hp⟩, fun t e I L R Q hc s K => hU t e I L R Q hc s (fun I1 u => K I1 L u.1 u.2.1 (fun r k x1 _ _ => u.2.2 r k (by omega)) (fun _ _ => rfl)), fun I L R Q s K => hM I L R Q s (fun I1 u => K I1 L u.1 u.2.1 (fun r k x1 _ => u.2.2 r k (by omega)) (fun _ _ _ => rfl))⟩
theorem ff_b {v : Nat} (hv : 0 < v ∧ v < 10) : 0 < ff y n p v ∧ ff y n p v < 10 := by
  unfold ff
  split <;> omega
theorem sU.tok (s : sU y n q f p t e I L) (hcd : sq_cd t e) (h : tk_U y n p1 I1 L) (fr : fa_U I I1) : sU y n q f p1 t e I1 L ∧ ku t I L I1 L := by
  obtain ⟨_, s2, s3, s4, s5⟩ := s
  obtain ⟨c1, c2⟩ := hcd
  exact ⟨⟨h, s2.keep (fun r hr => by funext k; exact fr r k (by omega)) rfl, (fr 8 0 (by omega)).trans s3, (fr 8 1 (by omega)).trans s4, (fr 8 2 (by omega)).trans s5⟩, fr 2 10 (by omega), fr 2 11 (by omega), fun r k x _ _ => fr r k (by omega), fun _ _ => rfl⟩
theorem sq_M.keep4 (h : sq_M g 4 I L) (e : ∀ k, I1 104 k = I 104 k) : sq_M g 4 I1 L := ⟨fun k a b => by rw [e]; exact h.1 k a b, by rw [e]; exact h.2.1, fun j hj i a b => by rw [e]; exact h.2.2.1 j hj i a b, h.2.2.2⟩
theorem sM.tok (s : sM y n g tp p I L) (h : tk_M y n p1 I1) (fr : fa_M I I1) : sM y n g tp p1 I1 L ∧ km I L I1 L := by
  obtain ⟨_, s2, s3⟩ := s
  exact ⟨⟨h, s2.keep4 (fun k => fr 104 k (by omega)), (fr 103 20 (by omega)).trans s3⟩, fun r k x _ => fr r k (by omega), fun _ _ _ => rfl⟩
theorem SP.adv (hn : n ≤ 900) (h : SP y n lb q f g tp (tN y n p) U M) : SP y n lb q f g tp p (fun t I L R Q => wp_Tokens_advance I L R 2 (fun I1 => U t I1 L R Q)) (fun I L R Q => wp_M_ahead I L R 103 (fun I1 => M I1 L R Q)) :=
  h.pre (fun t e I L R Q hc s K => su_adv s.1 (fun I1 h1 f1 => K I1 L (s.tok hc h1 f1).1 (s.tok hc h1 f1).2)) (fun I L R Q s K => sm_ahead hn s.1 (fun I1 h1 f1 => K I1 L (s.tok h1 f1).1 (s.tok h1 f1).2))
theorem SP.ref {v : Nat} (hv : 0 < v ∧ v < 10) (hp : p ≤ n) : SP y n lb q f g tp p (fun _ I L R Q => wp_Tokens_refuse I L R 2 (nI v) (fun r I1 => Q r I1 L)) (fun I L R Q => wp_M_fails I L R 103 (nI v) (fun r I1 => Q r I1 L)) :=
  SP.fault (ff_b hv) hp (fun t e I L R Q hc s K => su_ref s.1 K) (fun I L R Q s K => sm_fail s.1 K)
theorem SP.word (hn : n ≤ 900) (hp : p ≤ n) {w : Nat} (hw : w < 25) (h : tI y n p = w → SP y n lb q f g tp (tN y n p) U M) : SP y n lb q f g tp p (fun t I L R Q => wp_Tokens_takeWord I L R 2 (nI w) (fun r I1 => (r = false → Q false I1 L) ∧ (r = true → U t I1 L R Q))) (fun I L R Q => wp_M_wantWord I L R 103 1002 (nI (rwT.getD w 25)) (fun r I1 => (r = false → Q false I1 L) ∧ (r = true → M I1 L R Q))) := by
  by_cases e : tI y n p = w
  · refine (h e).pre (fun t e' I L R Q hc s K => su_takeWord s.1 hw (fun _ I1 h1 f1 => ⟨fun x => (by cases x), fun _ => K I1 L (s.tok hc h1 f1).1 (s.tok hc h1 f1).2⟩) (fun x => absurd e x)) (fun I L R Q s K => sm_wantWord hn s.1 hw (fun _ I1 h1 f1 => ⟨fun x => (by cases x), fun _ => K I1 L (s.tok h1 f1).1 (s.tok h1 f1).2⟩) (fun x => absurd e x))
  · exact SP.fault (ff_b (v := 2) (by omega)) hp (fun t e' I L R Q hc s K => su_takeWord s.1 hw (fun x => absurd x e) (fun _ I1 u => ⟨fun _ => K I1 u, fun x => (by cases x)⟩)) (fun I L R Q s K => sm_wantWord hn s.1 hw (fun x => absurd x e) (fun _ I1 u => ⟨fun _ => K I1 u, fun x => (by cases x)⟩))
/-- a number goes into the reference's new square -/
theorem sq_M.put4 (h : sq_M g 4 I L) {k : Nat} (hk : k < 38) (h2 : k ≠ 2) (h7 : k ≠ 7) (v : Nat) : sq_M (zu g k v) 4 (am_u2 I 104 (1624 + k) (nI v)) L := by
  refine ⟨fun i hi a => ?_, ?_, fun j hj i hi a => ?_, fun x hx => ?_⟩
  · by_cases e : i = k
    · subst e; rw [zu_s, am_u2_at]
    · rw [zu_n e, am_u2_ne _ _ _ _ (by omega)]; exact h.1 i hi a
  · rw [zu_n (by omega), am_u2_ne _ _ _ _ (by omega)]; exact h.2.1
  · rw [zu_n (by omega)] at hj
    rw [zu_n (by omega), am_u2_ne _ _ _ _ (by omega)]; exact h.2.2.1 j hj i hi a
  · rw [zu_n (by omega)] at hx
    by_cases e : 400 + x = k
    · omega
    · rw [zu_n e]; exact h.2.2.2 x hx
theorem sM.put (s : sM y n g tp p I L) {k : Nat} (hk : k < 38) (h2 : k ≠ 2) (h7 : k ≠ 7) (v : Nat) : sM y n (zu g k v) tp p (am_u2 I 104 (1624 + k) (nI v)) L ∧ km I L (am_u2 I 104 (1624 + k) (nI v)) L := by
  obtain ⟨s1, s2, s3⟩ := s
  exact ⟨⟨s1.keep (fun _ _ => am_u2o (by omega)) (fun _ => am_u2o (by omega)), s2.put4 hk h2 h7 v, by rw [am_u2o (by omega)]; exact s3⟩, fun r j _ x => by unfold am_u2; rw [if_neg (by omega)], fun _ _ _ => rfl⟩
theorem SP.num (hn : n ≤ 900) (hp : p ≤ n) {lo hi k : Nat} (hlo : lo < 2 ^ 31) (hhi : hi < 2 ^ 31) (hk : k < 38) (h2 : k ≠ 2) (h7 : k ≠ 7) {p2 p3 : Int32} (e2 : p2 = nI hi - nI 1) (e3 : p3 = nI hi - nI 1) {U : Nat → Int32 → sT} (h : tK y n p = 4 → lo ≤ tW y n p → tW y n p < hi → SP y n lb q f (zu g k (tW y n p)) tp (tN y n p) (fun t => U t (nI (tW y n p))) M) : SP y n lb q f g tp p (fun t I L R Q => wp_Tokens_takeNumber I L R 2 (nI lo) p2 (fun r I1 => (r = nM → Q false I1 L) ∧ (¬ r = nM → U t r I1 L R Q))) (fun I L R Q => wp_M_number I L R 103 (nI (1624 + k)) (nI lo) p3 (fun r I1 => (r = false → Q false I1 L) ∧ (r = true → M I1 L R Q))) := by
  by_cases c : tK y n p = 4 ∧ lo ≤ tW y n p ∧ tW y n p < hi
  · obtain ⟨c1, c2, c3⟩ := c
    have b := tW_4 c1
    refine (h c1 c2 c3).pre (fun t e' I L R Q hc s K => su_num s.1 hlo hhi e2 (fun _ _ _ I1 h1 f1 => ⟨fun x => absurd x (fun x => (zn_M (by omega)).1 x), fun _ => K I1 L (s.tok hc h1 f1).1 (s.tok hc h1 f1).2⟩) (fun x => absurd ⟨c1, c2, c3⟩ x)) (fun I L R Q s K => sm_num hn s.1 hlo hhi (by omega) e3 (fun _ _ _ I1 h1 f1 => ⟨fun x => (by cases x), fun _ => ?_⟩) (fun x => absurd ⟨c1, c2, c3⟩ x))
    have a := s.put hk h2 h7 (tW y n p)
    have a2 := a.1.tok h1 f1
    exact K I1 L a2.1 (a.2.trans a2.2)
  · exact SP.fault (ff_b (v := if tK y n p = 4 then 4 else 2) (by split <;> omega)) hp (fun t e' I L R Q hc s K => su_num s.1 hlo hhi e2 (fun x1 x2 x3 => absurd ⟨x1, x2, x3⟩ c) (fun _ I1 u => ⟨fun _ => K I1 u, fun x => absurd rfl x⟩)) (fun I L R Q s K => sm_num hn s.1 hlo hhi (by omega) e3 (fun x1 x2 x3 => absurd ⟨x1, x2, x3⟩ c) (fun _ I1 u => ⟨fun _ => K I1 u, fun x => (by cases x)⟩))
theorem SP.semi (hn : n ≤ 900) (hp : p ≤ n) (hg : sG q f tp) (hlb : lb ≤ tN y n p) : SP y n lb q f q tp p (fun _ I L R Q => wp_Tokens_takeSemicolon I L R 2 (fun r I1 => Q r I1 L)) (fun I L R Q => wp_M_wantSign I L R 103 (nI 59) (fun r I1 => (r = false → Q false I1 L) ∧ (r = true → Q true I1 L))) := by
  by_cases c : tK y n p = 5 ∧ tW y n p = 59
  · refine Or.inr ⟨q, f, tp, tN y n p, ⟨hg, hlb⟩, fun t e I L R Q hc s K => su_semi s.1 (fun _ _ I1 h1 f1 => K I1 L (s.tok hc h1 f1).1 (s.tok hc h1 f1).2) (fun x => absurd c x), fun I L R Q s K => sm_semi hn s.1 (fun _ _ I1 h1 f1 => ⟨fun x => (by cases x), fun _ => K I1 L (s.tok h1 f1).1 (s.tok h1 f1).2⟩) (fun x => absurd c x)⟩
  · exact SP.fault (ff_b (v := 2) (by omega)) hp (fun t e I L R Q hc s K => su_semi s.1 (fun x1 x2 => absurd ⟨x1, x2⟩ c) (fun _ I1 u => K I1 u)) (fun I L R Q s K => sm_semi hn s.1 (fun x1 x2 => absurd ⟨x1, x2⟩ c) (fun _ I1 u => ⟨fun _ => K I1 u, fun x => (by cases x)⟩))
theorem SP.imp (hU : ∀ t I L R Q, U1 t I L R Q → U t I L R Q) (hM : ∀ I L R Q, M1 I L R Q → M I L R Q) (h : SP y n lb q f g tp p U1 M1) : SP y n lb q f g tp p U M :=
  h.pre (fun t e I L R Q _ s K => hU t I L R Q (K I L s ku.refl)) (fun I L R Q s K => hM I L R Q (K I L s km.refl))
end
