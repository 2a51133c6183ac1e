/-! the square's text: odds, organ -/
section
variable {y : Nat → Nat} {n lb : Nat} {q f g q1 f1 g1 : Nat → Nat} {tp p tp1 p1 : Nat} {I I1 I2 : am_TI} {L L1 L2 : am_TL} {R : am_TR} {U U1 : Nat → sT} {M M1 : sT} {t e : Nat}
theorem sM.tell (s : sM y n g tp p I L) (x : Nat) : sM y n g x p (am_u2 I 103 20 (nI x)) L ∧ km I L (am_u2 I 103 20 (nI x)) L := by
  obtain ⟨s1, s2, s3⟩ := s
  exact ⟨⟨s1.keep (fun k hk => am_u2_ne _ _ _ _ (by omega) _) (fun _ => am_u2o (by omega)), s2.keep4 (fun k => am_u2o (by omega)), am_u2_at _ _ _ _⟩, fun r j x _ => by unfold am_u2; rw [if_neg (by omega)], fun _ _ _ => rfl⟩
theorem sU.flag (s : sU y n q f p t e I L) (hcd : sq_cd t e) {i : Nat} (hi : i < 3) : sU y n q (zu f i 1) p t e (am_u2 I 8 i (nI 1)) L ∧ ku t I L (am_u2 I 8 i (nI 1)) L := by
  obtain ⟨s1, s2, s3, s4, s5⟩ := s
  obtain ⟨c1, c2⟩ := hcd
  refine ⟨⟨s1.keep (fun k hk => am_u2o (by omega)) (fun _ => am_u2o (by omega)) (fun _ => am_u2o (by omega)) rfl, s2.keep (fun r hr => am_u2_row _ _ _ _ (by omega)) rfl, ?_, ?_, ?_⟩, am_u2o (by omega), am_u2o (by omega), fun r k _ x _ => am_u2o x, fun _ _ => rfl⟩
  · by_cases g : i = 0
    · subst g; rw [zu_s, am_u2_at]
    · rw [zu_n (by omega), am_u2_ne _ _ _ _ (by omega)]; exact s3
  · by_cases g : i = 1
    · subst g; rw [zu_s, am_u2_at]
    · rw [zu_n (by omega), am_u2_ne _ _ _ _ (by omega)]; exact s4
  · by_cases g : i = 2
    · subst g; rw [zu_s, am_u2_at]
    · rw [zu_n (by omega), am_u2_ne _ _ _ _ (by omega)]; exact s5
theorem sm_part0 (hn : n ≤ 900) (ht : tp < 64) (hw : tI y n p = 0) (hb : ¬ tp.testBit 0 = true) {Q : Bool → am_TI → am_TL → Prop} (s : sM y n g tp p I L) (K : ∀ I1 L1, sM y n g (tp ||| 1) p I1 L1 → km I L I1 L1 → wp_M_ahead I1 L1 R 103 (fun I10 => wb_M_squarePart_82 R 103 Q I10 L1 (nI 0))) : wp_M_squarePart I L R 103 Q := by
  have a := s.tell (tp ||| 1)
  have k2 := K _ _ a.1 a.2
  have fin : wb_M_squarePart_68 R 103 Q I L (nI 0) 103 (I 103 20) ((1 : Int32) <<< (nI 0 &&& 31)) false := by
    intro I2 h2
    have e : I 103 20 ||| (((1 : Int32) <<< (nI 0 &&& 31)) ||| am_b false) = nI (tp ||| 1) := by
      rw [s.2.2, show (((1 : Int32) <<< (nI 0 &&& 31)) ||| am_b false) = nI 1 by decide, ze_or]
    rw [e] at h2
    rw [h2]
    exact ⟨fun x => absurd x (by decide), fun _ => k2⟩
  have st : wb_M_squarePart_45 R 103 Q I L (nI 0) := ⟨fun x => absurd x (by decide), fun _ => ⟨fun _ => fin, fun x => absurd (by decide) x⟩⟩
  unfold wp_M_squarePart
  refine sm_inW hn s.1 ?_
  rw [hw, if_pos (by omega), show rwT.getD 0 25 = 0 from rfl]
  rw [s.2.2]
  exact ⟨fun x => absurd x (by decide), fun _ => ⟨fun _ => ⟨fun x => absurd x (by decide), fun _ => ⟨fun x => absurd ((ze_bit (by omega) (by omega)).1 x) hb, fun _ => st⟩⟩, fun x => absurd (by decide) x⟩⟩
theorem sm_part0x (hn : n ≤ 900) (ht : tp < 64) (hw : tI y n p = 0) (hb : tp.testBit 0 = true) {Q : Bool → am_TI → am_TL → Prop} (s : sM y n g tp p I L) (K : wp_M_fails I L R 103 (nI 5) (fun r I1 => Q r I1 L)) : wp_M_squarePart I L R 103 Q := by
  unfold wp_M_squarePart
  refine sm_inW hn s.1 ?_
  rw [hw, if_pos (by omega), show rwT.getD 0 25 = 0 from rfl, s.2.2]
  exact ⟨fun x => absurd x (by decide), fun _ => ⟨fun _ => ⟨fun x => absurd x (by decide), fun _ => ⟨fun _ => K, fun x => absurd ((ze_bit (by omega) (by omega)).2 hb) x⟩⟩, fun x => absurd (by decide) x⟩⟩
theorem sm_part1 (hn : n ≤ 900) (ht : tp < 64) (hw : tI y n p = 2) (hb : ¬ tp.testBit 1 = true) {Q : Bool → am_TI → am_TL → Prop} (s : sM y n g tp p I L) (K : ∀ I1 L1, sM y n g (tp ||| 2) p I1 L1 → km I L I1 L1 → wp_M_ahead I1 L1 R 103 (fun I10 => wb_M_squarePart_82 R 103 Q I10 L1 (nI 1))) : wp_M_squarePart I L R 103 Q := by
  have a := s.tell (tp ||| 2)
  have k2 := K _ _ a.1 a.2
  have fin : wb_M_squarePart_68 R 103 Q I L (nI 1) 103 (I 103 20) ((1 : Int32) <<< (nI 1 &&& 31)) false := by
    intro I2 h2
    have e : I 103 20 ||| (((1 : Int32) <<< (nI 1 &&& 31)) ||| am_b false) = nI (tp ||| 2) := by
      rw [s.2.2, show (((1 : Int32) <<< (nI 1 &&& 31)) ||| am_b false) = nI 2 by decide, ze_or]
    rw [e] at h2
    rw [h2]
    exact ⟨fun x => absurd x (by decide), fun _ => k2⟩
  have st : wb_M_squarePart_45 R 103 Q I L (nI 1) := ⟨fun x => absurd x (by decide), fun _ => ⟨fun _ => fin, fun x => absurd (by decide) x⟩⟩
  unfold wp_M_squarePart
  refine sm_inW hn s.1 ?_
  rw [hw, if_pos (by omega), show rwT.getD 2 25 = 1 from rfl]
  rw [s.2.2]
  exact ⟨fun x => absurd x (by decide), fun _ => ⟨fun _ => ⟨fun x => absurd x (by decide), fun _ => ⟨fun x => absurd ((ze_bit (by omega) (by omega)).1 x) hb, fun _ => st⟩⟩, fun x => absurd (by decide) x⟩⟩
theorem sm_part1x (hn : n ≤ 900) (ht : tp < 64) (hw : tI y n p = 2) (hb : tp.testBit 1 = true) {Q : Bool → am_TI → am_TL → Prop} (s : sM y n g tp p I L) (K : wp_M_fails I L R 103 (nI 5) (fun r I1 => Q r I1 L)) : wp_M_squarePart I L R 103 Q := by
  unfold wp_M_squarePart
  refine sm_inW hn s.1 ?_
  rw [hw, if_pos (by omega), show rwT.getD 2 25 = 1 from rfl, s.2.2]
  exact ⟨fun x => absurd x (by decide), fun _ => ⟨fun _ => ⟨fun x => absurd x (by decide), fun _ => ⟨fun _ => K, fun x => absurd ((ze_bit (by omega) (by omega)).2 hb) x⟩⟩, fun x => absurd (by decide) x⟩⟩
theorem sm_part2 (hn : n ≤ 900) (ht : tp < 64) (hw : tI y n p = 3) (hb : ¬ tp.testBit 2 = true) {Q : Bool → am_TI → am_TL → Prop} (s : sM y n g tp p I L) (K : ∀ I1 L1, sM y n g (tp ||| 5) p I1 L1 → km I L I1 L1 → wp_M_ahead I1 L1 R 103 (fun I10 => wb_M_squarePart_82 R 103 Q I10 L1 (nI 2))) : wp_M_squarePart I L R 103 Q := by
  have a := s.tell (tp ||| 5)
  have k2 := K _ _ a.1 a.2
  have fin : wb_M_squarePart_68 R 103 Q I L (nI 2) 103 (I 103 20) ((1 : Int32) <<< (nI 2 &&& 31)) true := by
    intro I2 h2
    have e : I 103 20 ||| (((1 : Int32) <<< (nI 2 &&& 31)) ||| am_b true) = nI (tp ||| 5) := by
      rw [s.2.2, show (((1 : Int32) <<< (nI 2 &&& 31)) ||| am_b true) = nI 5 by decide, ze_or]
    rw [e] at h2
    rw [h2]
    exact ⟨fun x => absurd x (by decide), fun _ => k2⟩
  have st : wb_M_squarePart_45 R 103 Q I L (nI 2) := ⟨fun _ => fin, fun x => absurd rfl x⟩
  unfold wp_M_squarePart
  refine sm_inW hn s.1 ?_
  rw [hw, if_pos (by omega), show rwT.getD 3 25 = 2 from rfl]
  rw [s.2.2]
  exact ⟨fun x => absurd x (by decide), fun _ => ⟨fun _ => ⟨fun x => absurd x (by decide), fun _ => ⟨fun x => absurd ((ze_bit (by omega) (by omega)).1 x) hb, fun _ => st⟩⟩, fun x => absurd (by decide) x⟩⟩
theorem sm_part2x (hn : n ≤ 900) (ht : tp < 64) (hw : tI y n p = 3) (hb : tp.testBit 2 = true) {Q : Bool → am_TI → am_TL → Prop} (s : sM y n g tp p I L) (K : wp_M_fails I L R 103 (nI 5) (fun r I1 => Q r I1 L)) : wp_M_squarePart I L R 103 Q := by
  unfold wp_M_squarePart
  refine sm_inW hn s.1 ?_
  rw [hw, if_pos (by omega), show rwT.getD 3 25 = 2 from rfl, s.2.2]
  exact ⟨fun x => absurd x (by decide), fun _ => ⟨fun _ => ⟨fun x => absurd x (by decide), fun _ => ⟨fun _ => K, fun x => absurd ((ze_bit (by omega) (by omega)).2 hb) x⟩⟩, fun x => absurd (by decide) x⟩⟩
theorem sm_part3 (hn : n ≤ 900) (ht : tp < 64) (hw : tI y n p = 4) {Q : Bool → am_TI → am_TL → Prop} (s : sM y n g tp p I L) (K : ∀ I1 L1, sM y n g (tp ||| 8) p I1 L1 → km I L I1 L1 → wb_M_squarePart_82 R 103 Q I1 L1 (nI 3)) : wp_M_squarePart I L R 103 Q := by
  have a := s.tell (tp ||| 8)
  have k2 := K _ _ a.1 a.2
  have fin : wb_M_squarePart_68 R 103 Q I L (nI 3) 103 (I 103 20) ((1 : Int32) <<< (nI 3 &&& 31)) false := by
    intro I2 h2
    have e : I 103 20 ||| (((1 : Int32) <<< (nI 3 &&& 31)) ||| am_b false) = nI (tp ||| 8) := by
      rw [s.2.2, show (((1 : Int32) <<< (nI 3 &&& 31)) ||| am_b false) = nI 8 by decide, ze_or]
    rw [e] at h2
    rw [h2]
    exact ⟨fun _ => k2, fun x => absurd (by decide) x⟩
  have st : wb_M_squarePart_45 R 103 Q I L (nI 3) := ⟨fun x => absurd x (by decide), fun _ => ⟨fun _ => fin, fun x => absurd (by decide) x⟩⟩
  unfold wp_M_squarePart
  refine sm_inW hn s.1 ?_
  rw [hw, if_pos (by omega), show rwT.getD 4 25 = 3 from rfl]
  exact ⟨fun x => absurd x (by decide), fun _ => ⟨fun _ => ⟨fun _ => st, fun x => absurd (by decide) x⟩, fun x => absurd (by decide) x⟩⟩
theorem sm_part4 (hn : n ≤ 900) (ht : tp < 64) (hw : tI y n p = 5) {Q : Bool → am_TI → am_TL → Prop} (s : sM y n g tp p I L) (K : ∀ I1 L1, sM y n g (tp ||| 17) p I1 L1 → km I L I1 L1 → wb_M_squarePart_82 R 103 Q I1 L1 (nI 4)) : wp_M_squarePart I L R 103 Q := by
  have a := s.tell (tp ||| 17)
  have k2 := K _ _ a.1 a.2
  have fin : wb_M_squarePart_68 R 103 Q I L (nI 4) 103 (I 103 20) ((1 : Int32) <<< (nI 4 &&& 31)) true := by
    intro I2 h2
    have e : I 103 20 ||| (((1 : Int32) <<< (nI 4 &&& 31)) ||| am_b true) = nI (tp ||| 17) := by
      rw [s.2.2, show (((1 : Int32) <<< (nI 4 &&& 31)) ||| am_b true) = nI 17 by decide, ze_or]
    rw [e] at h2
    rw [h2]
    exact ⟨fun _ => k2, fun x => absurd (by decide) x⟩
  have st : wb_M_squarePart_45 R 103 Q I L (nI 4) := ⟨fun x => absurd x (by decide), fun _ => ⟨fun x => absurd x (by decide), fun _ => fin⟩⟩
  unfold wp_M_squarePart
  refine sm_inW hn s.1 ?_
  rw [hw, if_pos (by omega), show rwT.getD 5 25 = 4 from rfl]
  exact ⟨fun x => absurd x (by decide), fun _ => ⟨fun _ => ⟨fun _ => st, fun x => absurd (by decide) x⟩, fun x => absurd (by decide) x⟩⟩
theorem sm_part5 (hn : n ≤ 900) (ht : tp < 64) (hw : tI y n p = 9) {Q : Bool → am_TI → am_TL → Prop} (s : sM y n g tp p I L) (K : ∀ I1 L1, sM y n g (tp ||| 33) p I1 L1 → km I L I1 L1 → wb_M_squarePart_82 R 103 Q I1 L1 (nI 5)) : wp_M_squarePart I L R 103 Q := by
  have a := s.tell (tp ||| 33)
  have k2 := K _ _ a.1 a.2
  have fin : wb_M_squarePart_68 R 103 Q I L (nI 5) 103 (I 103 20) ((1 : Int32) <<< (nI 5 &&& 31)) true := by
    intro I2 h2
    have e : I 103 20 ||| (((1 : Int32) <<< (nI 5 &&& 31)) ||| am_b true) = nI (tp ||| 33) := by
      rw [s.2.2, show (((1 : Int32) <<< (nI 5 &&& 31)) ||| am_b true) = nI 33 by decide, ze_or]
    rw [e] at h2
    rw [h2]
    exact ⟨fun _ => k2, fun x => absurd (by decide) x⟩
  have st : wb_M_squarePart_45 R 103 Q I L (nI 5) := ⟨fun x => absurd x (by decide), fun _ => ⟨fun x => absurd x (by decide), fun _ => fin⟩⟩
  unfold wp_M_squarePart
  refine sm_inW hn s.1 ?_
  rw [hw, if_pos (by omega), show rwT.getD 9 25 = 5 from rfl]
  exact ⟨fun x => absurd x (by decide), fun _ => ⟨fun _ => ⟨fun _ => st, fun x => absurd (by decide) x⟩, fun x => absurd (by decide) x⟩⟩
theorem sm_part2y (hn : n ≤ 900) (hw : tI y n p ≠ 0 ∧ tI y n p ≠ 2 ∧ tI y n p ≠ 3 ∧ tI y n p ≠ 4 ∧ tI y n p ≠ 5 ∧ tI y n p ≠ 9) {Q : Bool → am_TI → am_TL → Prop} (s : sM y n g tp p I L) (K : wp_M_fails I L R 103 (nI 2) (fun r I1 => Q r I1 L)) : wp_M_squarePart I L R 103 Q := by
  unfold wp_M_squarePart
  refine sm_inW hn s.1 ?_
  by_cases c : tI y n p < 25
  · rw [if_pos c]
    have h : ∀ i, i < 25 → (i ≠ 0 ∧ i ≠ 2 ∧ i ≠ 3 ∧ i ≠ 4 ∧ i ≠ 5 ∧ i ≠ 9) → ¬ nI (rwT.getD i 25) ≤ 5 := by decide
    exact ⟨fun _ => K, fun _ => ⟨fun x => absurd x (h _ c hw), fun _ => K⟩⟩
  · rw [if_neg c]
    exact ⟨fun _ => K, fun x => absurd (by decide) x⟩
theorem tp_or {c i : Nat} : (tp ||| c).testBit i = true ↔ tp.testBit i = true ∨ c.testBit i = true := by
  rw [Nat.testBit_or]
  simp
theorem tp_lt {c : Nat} (h : tp < 64) (hc : c < 64) : tp ||| c < 64 := Nat.or_lt_two_pow (n := 6) h hc
/-- a number goes into a slot of both squares -/
theorem SP.numS (hn : n ≤ 900) (hp : p ≤ n) {hi k sl : Nat} (hhi : hi < 2 ^ 31) (hk : k = 5 ∧ sl = 8 ∨ k = 6 ∧ sl = 9) {p2 p3 : Int32} (e2 : p2 = nI hi - nI 1) (e3 : p3 = nI hi - nI 1) (h : tK y n p = 4 → tW y n p < hi → SP y n lb (zu q k (tW y n p)) f (zu g k (tW y n p)) tp (tN y n p) U M) : SP y n lb q f g tp p (fun t I L R Q => wp_Tokens_takeNumber I L R 2 (nI 0) p2 (fun r I3 => ∀ I4, I4 = am_u2 I3 t sl r → (I4 t sl = nM → Q false I4 L) ∧ (¬ I4 t sl = nM → U t I4 L R Q))) (fun I L R Q => wp_M_number I L R 103 (nI (1624 + k)) (nI 0) p3 (fun r I1 => (r = false → Q false I1 L) ∧ (r = true → M I1 L R Q))) := by
  by_cases c : tK y n p = 4 ∧ tW y n p < hi
  · obtain ⟨c1, c3⟩ := c
    have b := tW_4 c1
    refine (h c1 c3).pre (fun t e' I L R Q hc s K => su_num s.1 (by omega) hhi e2 (fun _ _ _ I1 h1 f1 I4 h4 => ?_) (fun x => absurd ⟨c1, by omega, c3⟩ x)) (fun I L R Q s K => sm_num hn s.1 (by omega) hhi (by omega) e3 (fun _ _ _ I1 h1 f1 => ⟨fun x => (by cases x), fun _ => ?_⟩) (fun x => absurd ⟨c1, by omega, c3⟩ x))
    · have hc' := hc
      obtain ⟨c1', c2'⟩ := hc'
      have a := s.tok hc h1 f1
      refine ⟨fun x => ?_, fun _ => ?_⟩
      · rw [h4, am_u2_at] at x
        exact absurd x (fun x => (zn_M (by omega)).1 x)
      · obtain ⟨⟨s1, s2, s3, s4, s5⟩, ka⟩ := a
        rw [h4]
        refine K _ L ⟨s1.keep (fun k hk => am_u2o (by omega)) (fun _ => am_u2o (by omega)) (fun _ => am_u2o (by omega)) rfl, s2.putS hc (by omega) _, by rw [am_u2o (by omega)]; exact s3, by rw [am_u2o (by omega)]; exact s4, by rw [am_u2o (by omega)]; exact s5⟩ (ka.trans ⟨am_u2o (by omega), am_u2o (by omega), fun r k _ _ x => am_u2o (by omega), fun _ _ => rfl⟩)
    · have a := s.put (k := k) (by omega) (by omega) (by omega) (tW y n p)
      have a2 := a.1.tok h1 f1
      exact K I1 L a2.1 (a.2.trans a2.2)
  · have fb := ff_b (y := y) (n := n) (p := p) (v := if tK y n p = 4 then 4 else 2) (by split <;> omega)
    refine Or.inl ⟨_, p, ⟨fb.1, fb.2, hp⟩, fun t e I L R Q hc s K => su_num s.1 (by omega) hhi e2 (fun x1 x2 x3 => absurd ⟨x1, x3⟩ c) (fun _ I1 u I4 h4 => ?_), fun I L R Q s K => sm_num hn s.1 (by omega) hhi (by omega) e3 (fun x1 x2 x3 => absurd ⟨x1, x3⟩ c) (fun _ I1 u => ⟨fun _ => K I1 L u.1 u.2.1 (fun r k x1 _ => u.2.2 r k (by omega)) (fun _ _ _ => rfl), fun x => (by cases x)⟩)⟩
    have c1' := hc.1
    refine ⟨fun _ => ?_, fun x => absurd (by rw [h4, am_u2_at]) x⟩
    refine K I4 L (by rw [h4, am_u2o (by omega)]; exact u.1) (by rw [h4, am_u2o (by omega)]; exact u.2.1) (fun r k x1 _ x3 => ?_) (fun _ _ => rfl)
    rw [h4, am_u2o (by omega), u.2.2 r k (by omega)]
theorem SP.semi2 (hn : n ≤ 900) (hp : p ≤ n) (hg : sG q f tp) (hlb : lb ≤ tN y n p) : SP y n lb q f q tp p (fun _ I L R Q => wp_Tokens_takeSemicolon I L R 2 (fun r I1 => (r = false → Q false I1 L) ∧ (r = true → Q true I1 L))) (fun I L R Q => wp_M_wantSign I L R 103 (nI 59) (fun r I1 => (r = false → Q false I1 L) ∧ (r = true → Q true I1 L))) := by
  by_cases c : tK y n p = 5 ∧ tW y n p = 59
  · refine Or.inr ⟨q, f, tp, tN y n p, ⟨hg, hlb⟩, fun t e I L R Q hc s K => su_semi s.1 (fun _ _ I1 h1 f1 => ⟨fun x => (by cases x), fun _ => K I1 L (s.tok hc h1 f1).1 (s.tok hc h1 f1).2⟩) (fun x => absurd c x), fun I L R Q s K => sm_semi hn s.1 (fun _ _ I1 h1 f1 => ⟨fun x => (by cases x), fun _ => K I1 L (s.tok h1 f1).1 (s.tok h1 f1).2⟩) (fun x => absurd c x)⟩
  · exact SP.fault (ff_b (v := 2) (by omega)) hp (fun t e I L R Q hc s K => su_semi s.1 (fun x1 x2 => absurd ⟨x1, x2⟩ c) (fun _ I1 u => ⟨fun _ => K I1 u, fun x => (by cases x)⟩)) (fun I L R Q s K => sm_semi hn s.1 (fun x1 x2 => absurd ⟨x1, x2⟩ c) (fun _ I1 u => ⟨fun _ => K I1 u, fun x => (by cases x)⟩))
theorem sG.tell1 (hg : sG q f tp) : sG q (zu f 1 1) (tp ||| 2) := by
  obtain ⟨ok, ⟨f0, f1, f2⟩, h6, h7, t64, b0, b1, b2⟩ := hg
  have d0 : ¬ (2 : Nat).testBit 0 = true := by decide
  have d1 : (2 : Nat).testBit 1 = true := by decide
  have d2 : ¬ (2 : Nat).testBit 2 = true := by decide
  have z0 : zu f 1 1 0 = f 0 := zu_n (by omega)
  have z1 : zu f 1 1 1 = 1 := zu_s _ _ _
  have z2 : zu f 1 1 2 = f 2 := zu_n (by omega)
  refine ⟨ok, ⟨by omega, by omega, by omega⟩, fun x => h6 (by omega), h7, tp_lt t64 (by omega), ?_, ?_, ?_⟩
  · rw [tp_or, b0, z0, z2]; exact ⟨fun x => x.resolve_right d0, Or.inl⟩
  · rw [tp_or, z1]; exact ⟨fun _ => rfl, fun _ => Or.inr d1⟩
  · rw [tp_or, b2, z2]; exact ⟨fun x => x.resolve_right d2, Or.inl⟩
theorem sG.tell2 (hg : sG q f tp) : sG q (zu f 2 1) (tp ||| 5) := by
  obtain ⟨ok, ⟨f0, f1, f2⟩, h6, h7, t64, b0, b1, b2⟩ := hg
  have d0 : (5 : Nat).testBit 0 = true := by decide
  have d1 : ¬ (5 : Nat).testBit 1 = true := by decide
  have d2 : (5 : Nat).testBit 2 = true := by decide
  have z0 : zu f 2 1 0 = f 0 := zu_n (by omega)
  have z1 : zu f 2 1 1 = f 1 := zu_n (by omega)
  have z2 : zu f 2 1 2 = 1 := zu_s _ _ _
  refine ⟨ok, ⟨by omega, by omega, by omega⟩, fun x => absurd x (by omega), h7, tp_lt t64 (by omega), ?_, ?_, ?_⟩
  · rw [tp_or, z0, z2]; exact ⟨fun _ => Or.inr (Or.inl rfl), fun _ => Or.inr d0⟩
  · rw [tp_or, b1, z1]; exact ⟨fun x => x.resolve_right d1, Or.inl⟩
  · rw [tp_or, z2]; exact ⟨fun _ => rfl, fun _ => Or.inr d2⟩
/-- odds -/
theorem SP.odds (hn : n ≤ 900) (hpn : p < n) (hg : sG q f tp) (hw : tI y n p = 2) : SP y n (p + 1) q f q tp p (fun t I L R Q => wp_SquareReader_readOdds I L R 8 2 t (fun r I1 => Q r I1 L)) (fun I L R Q => wp_M_squarePart I L R 103 Q) := by
  have hg' := hg
  obtain ⟨ok, ⟨f0, f1, f2⟩, h6, h7, t64, b0, b1, b2⟩ := hg'
  have p1 : p < tN y n p := tN_gt hpn
  have p2 : tN y n p ≤ n := tN_le (by omega)
  have p3 : tN y n p ≤ tN y n (tN y n p) := tN_ge
  have p4 : tN y n (tN y n p) ≤ n := tN_le p2
  have p5 : tN y n (tN y n p) ≤ tN y n (tN y n (tN y n p)) := tN_ge
  by_cases c : f 1 = 0
  · refine SP.pre (q1 := q) (f1 := zu f 1 1) (p1 := p) (g1 := q) (tp1 := tp ||| 2) (U1 := fun t I L R Q => wp_Tokens_advance I L R 2 (fun I2 => wp_Tokens_takeNumber I2 L R 2 (nI 0) (nI 16) (fun r I3 => ∀ I4, I4 = am_u2 I3 t 8 r → (I4 t 8 = nM → Q false I4 L) ∧ (¬ I4 t 8 = nM → wp_Tokens_takeSemicolon I4 L R 2 (fun r2 I5 => (r2 = false → Q false I5 L) ∧ (r2 = true → Q true I5 L)))))) (M1 := fun I L R Q => wp_M_ahead I L R 103 (fun I10 => wb_M_squarePart_82 R 103 Q I10 L (nI 1))) ?_ ?_ ?_
    · intro t e I L R Q hc s K
      have a := s.flag hc (i := 1) (by omega)
      have k2 := K _ _ a.1 a.2
      unfold wp_SquareReader_readOdds
      rw [s.2.2.2.1, c]
      refine ⟨fun _ I1 h1 => ?_, fun x => absurd rfl x⟩
      rw [h1]; exact k2
    · intro I L R Q s K
      exact sm_part1 hn t64 hw (fun x => absurd (b1.1 x) (by omega)) s K
    · refine SP.adv hn (M := fun I L R Q => wb_M_squarePart_82 R 103 Q I L (nI 1)) ?_
      refine SP.imp (fun t I L R Q h => h) (M1 := fun I L R Q => wp_M_number I L R 103 (nI (1624 + 5)) (nI 0) (nI 16) (fun r I1 => (r = false → Q false I1 L) ∧ (r = true → wp_M_wantSign I1 L R 103 (nI 59) (fun r I1 => (r = false → Q false I1 L) ∧ (r = true → Q true I1 L))))) (fun I L R Q h => ⟨fun x => absurd x (by decide), fun _ => h, fun x => absurd x (by decide), fun x => absurd x (by decide), fun x => absurd x (by decide), fun _ x => absurd rfl x⟩) ?_
      refine SP.numS (hi := 17) (k := 5) (sl := 8) hn p2 (by omega) (by omega) (by decide) (by decide) (fun c1 c2 => ?_)
      have hg2 := hg.tell1
      obtain ⟨ok, ff1, h6, h7, t64, b0, b1, b2⟩ := hg2
      have z : ∀ i, i ≠ 5 → zu q 5 (tW y n (tN y n p)) i = q i := fun i hi => zu_n hi
      refine SP.semi2 hn p4 ⟨ok.put _ (by omega), ff1, ?_, ?_, t64, ?_, b1, b2⟩ (by omega)
      · rw [z 6 (by omega)]; exact h6
      · rw [z 7 (by omega)]; exact h7
      · rw [z 3 (by omega), z 4 (by omega)]; exact b0
  · refine SP.pre (q1 := q) (f1 := f) (p1 := p) (g1 := q) (tp1 := tp) (U1 := fun _ I L R Q => wp_Tokens_refuse I L R 2 (nI 5) (fun r I1 => Q r I1 L)) (M1 := fun I L R Q => wp_M_fails I L R 103 (nI 5) (fun r I1 => Q r I1 L)) ?_ ?_ (SP.ref (by omega) (by omega))
    · intro t e I L R Q hc s K
      have k2 := K I L s ku.refl
      unfold wp_SquareReader_readOdds
      rw [s.2.2.2.1, show f 1 = 1 by omega]
      exact ⟨fun x => absurd x (by decide), fun _ => k2⟩
    · intro I L R Q s K
      exact sm_part1x hn t64 hw (b1.2 (by omega)) s (K I L s km.refl)
/-- how many cells, in both -/
theorem sU.cells (s : sU y n q f p t e I L) {Q : Int32 → Prop} (K : Q (nI (q 0 * q 1))) : wp_Square_cells I L R t Q := by
  unfold wp_Square_cells
  rw [s.2.1.n0, s.2.1.n1, pk_mul]
  exact K
theorem sM.cells (s : sM y n g tp p I L) {Q : Int32 → Prop} (K : Q (nI (g 0 * g 1))) : wp_M_cellsOf I L R 103 (nI 1624) Q := by
  have a := s.2.1.1 0 (by omega) (by omega)
  have b := s.2.1.1 1 (by omega) (by omega)
  unfold wp_M_cellsOf
  simp (disch := omega) only [zi_0, zi_1, zi_2, zi_3, zi_4, zi_5, zi_6, zi_7, zi_8, zi_9, zi_10, zi_11, zi_12, zi_13, zi_14, zi_15, zi_16, zi_17, zi_18, zi_19, zi_20, zi_21, zi_22, zi_23, zi_24, zi_25, zi_26, zi_30, zi_31, zi_32, zi_34, zi_38, zi_59, zi_60, zi_61, zi_63, zi_64, zi_80, zi_96, zi_97, zi_99, zi_100, zi_122, zi_255, zi_256, zi_300, zi_398, zi_406, zi_900, zi_1000, zi_1024, zi_1624, zi_1662, zi_2030, zi_2031, zi_2068, zi_2258, zi_9999, zi_48, zi_57, zi_65536, zi_3257, zi_11483, zi_1000000, zi_729, zi_81, zi_m1, nI_add, pk_mul, nI_ltI, nI_leI, nI_eq, nI_clamp, zn_in, zn_sub1lt, zn_M, zn_Ml, zn_Mg, zn_Mle, zn_Mge, zn_sub, Nat.reduceAdd, Nat.reduceMul]
  refine ⟨by omega, by omega, ?_⟩
  rw [show I 104 1624 = nI (g 0) from a, show I 104 1625 = nI (g 1) from b, pk_mul]
  exact K
/-- organ -/
theorem SP.organ (hn : n ≤ 900) (hpn : p < n) (hg : sG q f tp) (hw : tI y n p = 3) : SP y n (p + 1) q f q tp p (fun t I L R Q => wp_SquareReader_readOrgan I L R 8 2 t (fun r I1 => Q r I1 L)) (fun I L R Q => wp_M_squarePart I L R 103 Q) := by
  have hg' := hg
  obtain ⟨ok, ⟨f0, f1, f2⟩, h6, h7, t64, b0, b1, b2⟩ := hg'
  have p1 : p < tN y n p := tN_gt hpn
  have p2 : tN y n p ≤ n := tN_le (by omega)
  have p3 : tN y n p ≤ tN y n (tN y n p) := tN_ge
  have p4 : tN y n (tN y n p) ≤ n := tN_le p2
  have p5 : tN y n (tN y n p) ≤ tN y n (tN y n (tN y n p)) := tN_ge
  have cl25 := ok.cells
  by_cases c : f 2 = 0
  · refine SP.pre (q1 := q) (f1 := zu f 2 1) (p1 := p) (g1 := q) (tp1 := tp ||| 5) (U1 := fun t I L R Q => wp_Tokens_advance I L R 2 (fun I2 => wp_Square_cells I2 L R t (fun r1 => wp_Tokens_takeNumber I2 L R 2 (nI 0) (r1 - 1) (fun r I3 => ∀ I4, I4 = am_u2 I3 t 9 r → (I4 t 9 = nM → Q false I4 L) ∧ (¬ I4 t 9 = nM → wp_Tokens_takeSemicolon I4 L R 2 (fun r2 I5 => (r2 = false → Q false I5 L) ∧ (r2 = true → Q true I5 L))))))) (M1 := fun I L R Q => wp_M_ahead I L R 103 (fun I10 => wb_M_squarePart_82 R 103 Q I10 L (nI 2))) ?_ ?_ ?_
    · intro t e I L R Q hc s K
      have a := s.flag hc (i := 2) (by omega)
      have k2 := K _ _ a.1 a.2
      unfold wp_SquareReader_readOrgan
      rw [s.2.2.2.2, c]
      refine ⟨fun _ I1 h1 => ?_, fun x => absurd rfl x⟩
      rw [h1]; exact k2
    · intro I L R Q s K
      exact sm_part2 hn t64 hw (fun x => absurd (b2.1 x) (by omega)) s K
    · refine SP.adv hn (U := fun t I2 L R Q => wp_Square_cells I2 L R t (fun r1 => wp_Tokens_takeNumber I2 L R 2 (nI 0) (r1 - 1) (fun r I3 => ∀ I4, I4 = am_u2 I3 t 9 r → (I4 t 9 = nM → Q false I4 L) ∧ (¬ I4 t 9 = nM → wp_Tokens_takeSemicolon I4 L R 2 (fun r2 I5 => (r2 = false → Q false I5 L) ∧ (r2 = true → Q true I5 L)))))) (M := fun I L R Q => wb_M_squarePart_82 R 103 Q I L (nI 2)) ?_
      refine SP.pre (q1 := q) (f1 := zu f 2 1) (p1 := tN y n p) (g1 := q) (tp1 := tp ||| 5) (U1 := fun t I2 L R Q => wp_Tokens_takeNumber I2 L R 2 (nI 0) (nI (q 0 * q 1) - nI 1) (fun r I3 => ∀ I4, I4 = am_u2 I3 t 9 r → (I4 t 9 = nM → Q false I4 L) ∧ (¬ I4 t 9 = nM → wp_Tokens_takeSemicolon I4 L R 2 (fun r2 I5 => (r2 = false → Q false I5 L) ∧ (r2 = true → Q true I5 L))))) (M1 := fun I L R Q => wp_M_number I L R 103 (nI (1624 + 6)) (nI 0) (nI (q 0 * q 1) - nI 1) (fun r I1 => (r = false → Q false I1 L) ∧ (r = true → wp_M_wantSign I1 L R 103 (nI 59) (fun r I1 => (r = false → Q false I1 L) ∧ (r = true → Q true I1 L))))) ?_ ?_ ?_
      · intro t e I L R Q hc s K
        exact s.cells (K I L s ku.refl)
      · intro I L R Q s K
        refine ⟨fun x => absurd x (by decide), fun x => absurd x (by decide), fun _ => s.cells (K I L s km.refl), fun x => absurd x (by decide), fun x => absurd x (by decide), fun _ _ x => absurd rfl x⟩
      refine SP.numS (hi := q 0 * q 1) (k := 6) (sl := 9) hn p2 (by omega) (by omega) rfl rfl (fun c1 c2 => ?_)
      have hg2 := hg.tell2
      obtain ⟨ok, ff1, h6, h7, t64, b0, b1, b2⟩ := hg2
      have z : ∀ i, i ≠ 6 → zu q 6 (tW y n (tN y n p)) i = q i := fun i hi => zu_n hi
      refine SP.semi2 hn p4 ⟨ok.put _ (Or.inr (Or.inl ⟨rfl, c2⟩)), ff1, ?_, ?_, t64, ?_, b1, b2⟩ (by omega)
      · intro x; rw [zu_s] at x; omega
      · rw [z 7 (by omega)]; exact h7
      · rw [z 3 (by omega), z 4 (by omega)]; exact b0
  · refine SP.pre (q1 := q) (f1 := f) (p1 := p) (g1 := q) (tp1 := tp) (U1 := fun _ I L R Q => wp_Tokens_refuse I L R 2 (nI 5) (fun r I1 => Q r I1 L)) (M1 := fun I L R Q => wp_M_fails I L R 103 (nI 5) (fun r I1 => Q r I1 L)) ?_ ?_ (SP.ref (by omega) (by omega))
    · intro t e I L R Q hc s K
      have k2 := K I L s ku.refl
      unfold wp_SquareReader_readOrgan
      rw [s.2.2.2.2, show f 2 = 1 by omega]
      exact ⟨fun x => absurd x (by decide), fun _ => k2⟩
    · intro I L R Q s K
      exact sm_part2x hn t64 hw (b2.2 (by omega)) s (K I L s km.refl)
end
