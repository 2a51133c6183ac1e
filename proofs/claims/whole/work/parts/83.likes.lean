/-! the square's text: what a hearer likes -/
def bc (v : Nat) : Nat → Nat
  | 0 => 0
  | k + 1 => bc v k + (if v.testBit k = true then 1 else 0)
theorem bc_le (v : Nat) : ∀ k, bc v k ≤ k := by
  intro k
  induction k with
  | zero => exact Nat.le_refl _
  | succ k ih =>
    show bc v k + (if v.testBit k = true then 1 else 0) ≤ k + 1
    split <;> omega
theorem bc_bit (v r i : Nat) : (v ||| 2 ^ r).testBit i = true ↔ v.testBit i = true ∨ r = i := by
  rw [Nat.testBit_or, Nat.testBit_two_pow]
  simp
theorem bc_set {v r : Nat} (h : ¬ v.testBit r = true) : ∀ k, bc (v ||| 2 ^ r) k = bc v k + (if r < k then 1 else 0) := by
  intro k
  induction k with
  | zero => rfl
  | succ k ih =>
    show bc (v ||| 2 ^ r) k + (if (v ||| 2 ^ r).testBit k = true then 1 else 0) = bc v k + (if v.testBit k = true then 1 else 0) + _
    rw [ih]
    by_cases e : r = k
    · subst e
      rw [if_pos ((bc_bit v r r).2 (Or.inr rfl)), if_neg h, if_neg (by omega), if_pos (by omega)]
    · have e1 : (v ||| 2 ^ r).testBit k = v.testBit k := by
        rw [Nat.testBit_or, Nat.testBit_two_pow]
        simp [e]
      have e2 : (if r < k then 1 else 0) = (if r < k + 1 then (1 : Nat) else 0) := by
        by_cases x : r < k
        · rw [if_pos x, if_pos (by omega)]
        · rw [if_neg x, if_neg (by omega)]
      rw [e1, e2]
      omega
section
variable {y : Nat → Nat} {n : Nat} {q f g : Nat → Nat} {tp p t e : Nat} {I I1 I2 : am_TI} {L L1 L2 : am_TL} {R : am_TR}
theorem sq_Ok.row (ok : sq_Ok g) {k : Nat} (hk : 10 + 4 * g 3 ≤ k) (hk2 : k < 34) (v : Nat) : sq_Ok (zu g k v) := by
  obtain ⟨⟨o0, o1, o2, o6, o8⟩, oh, od, on, oy⟩ := ok
  have z : ∀ i, i ≠ k → zu g k v i = g i := fun i hi => zu_n hi
  refine ⟨⟨by rw [z 0 (by omega)]; exact o0, by rw [z 1 (by omega)]; exact o1, by rw [z 2 (by omega), z 3 (by omega), z 4 (by omega), z 5 (by omega)]; exact o2, by rw [z 0 (by omega), z 1 (by omega), z 6 (by omega)]; exact o6, by rw [z 8 (by omega)]; exact o8⟩, fun i hi => ?_, fun i hi => ?_, fun i hi => ?_, oy.keep (fun j hj => z j (by omega)) (z 7 (by omega)) (fun j hj => z j (by omega))⟩
  · rw [z 3 (by omega)] at hi
    rw [z 0 (by omega), z 1 (by omega), z 2 (by omega), z (10 + 4 * i) (by omega), z (11 + 4 * i) (by omega), z (12 + 4 * i) (by omega), z (13 + 4 * i) (by omega)]; exact oh i hi
  · rw [z 4 (by omega)] at hi
    rw [z 0 (by omega), z 1 (by omega), z (34 + i) (by omega)]; exact od i hi
  · rw [z 2 (by omega)] at hi
    rw [z (400 + i) (by omega)]; exact on i hi
theorem zu_zu (g : Nat → Nat) (k a b : Nat) : zu (zu g k a) k b = zu g k b := by
  funext i
  by_cases e : i = k
  · subst e; rw [zu_s, zu_s]
  · rw [zu_n e, zu_n e, zu_n e]
/-- the likes, from a token on -/
theorem lk_all (hn : n ≤ 900) (ok : sq_Ok q) (okg : sq_Ok g) (h2 : g 2 = q 2) (hnm : ∀ j, j < q 2 → g (400 + j) = q (400 + j)) (h3 : g 3 < 6) : ∀ m p v, n - p ≤ m → p ≤ n → v < 2 ^ q 2 →
    (∃ fv pl, (0 < fv ∧ fv < 10 ∧ pl ≤ n) ∧
      (∀ t e f I L R Q, sq_cd t e → sU y n q f p t e I L → (∀ I1, I1 2 10 = nI fv → I1 2 11 = nI pl → fs_U t I I1 → Q nM I1) → wl_SquareReader_readLikes_9 L R 8 2 t Q (m + 1) I (nI v) (nI (bc v (q 2)))) ∧
      (∀ tp I L R Q, sM y n (zu g (11 + 4 * g 3) v) tp p I L → (∀ I1, I1 103 18 = nI fv → I1 103 17 = nI pl → fs_M I I1 → Q false I1) → wl_M_aHearer_99 L R 103 Q (m + 1) I (nI (1624 + (10 + 4 * g 3))) true)) ∨
    (∃ v' p', (v' < 2 ^ q 2 ∧ p ≤ p' ∧ p' ≤ n) ∧
      (∀ t e f I L R Q, sq_cd t e → sU y n q f p t e I L → (∀ I1, sU y n q f p' t e I1 L → ku t I L I1 L → Q (nI v') I1) → wl_SquareReader_readLikes_9 L R 8 2 t Q (m + 1) I (nI v) (nI (bc v (q 2)))) ∧
      (∀ tp I L R Q, sM y n (zu g (11 + 4 * g 3) v) tp p I L → (∀ I1, sM y n (zu g (11 + 4 * g 3) v') tp p' I1 L → km I L I1 L → wb_M_aHearer_181 L R 103 Q I1) → wl_M_aHearer_99 L R 103 Q (m + 1) I (nI (1624 + (10 + 4 * g 3))) true)) := by
  have o := ok.1.2.2.1
  have zn : ∀ v i, i ≠ 11 + 4 * g 3 → zu g (11 + 4 * g 3) v i = g i := fun v i hi => zu_n hi
  -- no name here
  have stop : ∀ m p v, p ≤ n → v < 2 ^ q 2 → tK y n p ≠ 1 →
      (∃ v' p', (v' < 2 ^ q 2 ∧ p ≤ p' ∧ p' ≤ n) ∧
      (∀ t e f I L R Q, sq_cd t e → sU y n q f p t e I L → (∀ I1, sU y n q f p' t e I1 L → ku t I L I1 L → Q (nI v') I1) → wl_SquareReader_readLikes_9 L R 8 2 t Q (m + 1) I (nI v) (nI (bc v (q 2)))) ∧
      (∀ tp I L R Q, sM y n (zu g (11 + 4 * g 3) v) tp p I L → (∀ I1, sM y n (zu g (11 + 4 * g 3) v') tp p' I1 L → km I L I1 L → wb_M_aHearer_181 L R 103 Q I1) → wl_M_aHearer_99 L R 103 Q (m + 1) I (nI (1624 + (10 + 4 * g 3))) true)) := by
    intro m p v hp hv k1
    have k7 : tK y n p < 7 := tK_lt
    refine ⟨v, p, ⟨hv, Nat.le_refl _, hp⟩, ?_, ?_⟩
    · intro t e f I L R Q hc s K
      have k2 := K I s ku.refl
      rw [wl_SquareReader_readLikes_9]
      dsimp only
      rw [s.1.k, show (1 : Int32) = nI 1 from rfl, nI_eq (by omega) (by omega)]
      exact ⟨fun _ => k2, fun _ => ⟨fun x => absurd x k1, fun _ => k2⟩⟩
    · intro tp I L R Q s K
      rw [wl_M_aHearer_99]
      refine ⟨fun x => (by cases x), fun _ => sm_isName hn s.1 ?_⟩
      rw [decide_eq_false k1]
      exact ⟨fun _ => K I s km.refl, fun x => (by cases x)⟩
  intro m
  induction m with
  | zero =>
    intro p v hm hp hv
    have k0 : tK y n p = 0 := tK_0.2 (by omega)
    exact Or.inr (stop 0 p v hp hv (by omega))
  | succ m ih =>
    intro p v hm hp hv
    by_cases k1 : tK y n p = 1
    rotate_left
    · exact Or.inr (stop (m + 1) p v hp hv k1)
    have hpn : p < n := by
      rcases Nat.lt_or_ge p n with z | z
      · exact z
      · have z0 : tK y n p = 0 := tK_0.2 z
        omega
    have v64 : v < 2 ^ 31 := Nat.lt_of_lt_of_le hv (Nat.pow_le_pow_right (by omega) (by omega))
    have hm' := tM_w (y := y) (n := n) (p := p) (by omega)
    have k8 := tK_w hm'
    have l8 : tE y n p - p ≤ 8 := by
      rcases Nat.lt_or_ge 8 (tE y n p - p) with z | z
      · rw [if_pos z] at k8; omega
      · exact z
    have q40 := tQ_40 hm' l8
    have bl := bc_le v (q 2)
    have okv := okg.row (k := 11 + 4 * g 3) (by omega) (by omega) v
    have n6 : ¬ (6 : Int32) < nI (bc v (q 2)) := by
      rw [show (6 : Int32) = nI 6 from rfl, nI_ltI (by omega) (by omega)]; omega
    obtain ⟨r, hr⟩ := tn_ex q (tQ y n p)
    have hrg : tn (zu g (11 + 4 * g 3) v) (tQ y n p) r := by
      obtain ⟨a, b, d⟩ := hr
      have e2 : zu g (11 + 4 * g 3) v 2 = q 2 := by rw [zn v 2 (by omega)]; exact h2
      refine ⟨by rw [e2]; exact a, fun j hj => by rw [zn v _ (by omega), hnm j (by omega)]; exact b j hj, fun x => by rw [e2] at x; rw [zn v _ (by omega), hnm r x]; exact d x⟩
    -- the class and the reference have the name
    have nU : ∀ {t e : Nat} {f : Nat → Nat} {I : am_TI} {L : am_TL} {R : am_TR} {Q : Int32 → am_TI → Prop} (s : sU y n q f p t e I L) (K : (if r < q 2 then nI r else nM) = -1 → wb_SquareReader_readLikes_50 L R 8 2 t Q I (if r < q 2 then nI r else nM)) (K2 : ¬ (if r < q 2 then nI r else nM) = -1 → ((((nI v >>> ((if r < q 2 then nI r else nM) &&& 31)) &&& 1) = 1 → wb_SquareReader_readLikes_50 L R 8 2 t Q I (if r < q 2 then nI r else nM)) ∧ (¬ ((nI v >>> ((if r < q 2 then nI r else nM) &&& 31)) &&& 1) = 1 → wp_Tokens_advance I L R 2 (fun I4 => wl_SquareReader_readLikes_9 L R 8 2 t Q (m + 1) I4 (nI v ||| ((1 : Int32) <<< ((if r < q 2 then nI r else nM) &&& 31))) (nI (bc v (q 2)) + 1))))), wl_SquareReader_readLikes_9 L R 8 2 t Q (m + 1 + 1) I (nI v) (nI (bc v (q 2))) := by
      intro t e f I L R Q s K K2
      rw [wl_SquareReader_readLikes_9]
      refine ⟨fun x => absurd x n6, fun _ => ⟨fun _ => su_name s.1 (fun _ => su_tune s.2.1 ok q40 hr ⟨K, K2⟩) (fun x => absurd k1 x), fun x => absurd ?_ x⟩⟩
      rw [s.1.k, k1]; rfl
    have nN : ∀ {tp : Nat} {I : am_TI} {L : am_TL} {R : am_TR} {Q : Bool → am_TI → Prop} (s : sM y n (zu g (11 + 4 * g 3) v) tp p I L) (K : (if r < q 2 then nI r else nM) = -1 → wp_M_fails I L R 103 3 (fun r11 I12 => Q r11 I12)) (K2 : ¬ (if r < q 2 then nI r else nM) = -1 → wp_M_isIn I L R 103 (nI v) (if r < q 2 then nI r else nM) (fun r9 => (r9 = false → ∀ I9, I9 = am_u2 I 104 (1624 + (11 + 4 * g 3)) (nI v ||| ((1 : Int32) <<< ((if r < q 2 then nI r else nM) &&& 31))) → wp_M_ahead I9 L R 103 (fun I10 => wl_M_aHearer_99 L R 103 Q (m + 1) I10 (nI (1624 + (10 + 4 * g 3))) true)) ∧ (r9 = true → wp_M_fails I L R 103 5 (fun r10 I11 => Q r10 I11)))), wl_M_aHearer_99 L R 103 Q (m + 1 + 1) I (nI (1624 + (10 + 4 * g 3))) true := by
      intro tp I L R Q s K K2
      have e2 : zu g (11 + 4 * g 3) v 2 = q 2 := by rw [zn v 2 (by omega)]; exact h2
      have a : I 104 1626 = nI (zu g (11 + 4 * g 3) v 2) := s.2.1.1 2 (by omega) (by omega)
      have b : I 104 (1624 + (11 + 4 * g 3)) = nI v := by
        have := s.2.1.1 (11 + 4 * g 3) (by omega) (by omega)
        rw [zu_s] at this
        exact this
      have ix : Int32.toNatClampNeg (nI (1624 + (10 + 4 * g 3)) + 1) = 1624 + (11 + 4 * g 3) := by
        rw [show (1 : Int32) = nI 1 from rfl, nI_add, nI_clamp (by omega)]; omega
      have iv : vp_in (nI (1624 + (10 + 4 * g 3)) + 1) 2258 := by
        rw [show (1 : Int32) = nI 1 from rfl, nI_add]; exact (zn_in (by omega)).2 (by omega)
      rw [wl_M_aHearer_99]
      refine ⟨fun x => (by cases x), fun _ => sm_isName hn s.1 ?_⟩
      rw [decide_eq_true k1]
      refine ⟨fun x => (by cases x), fun _ => ?_⟩
      rw [show I (103 + 1) 1626 = nI (zu g (11 + 4 * g 3) v 2) from a]
      refine sm_find hn s.1 k1 (s := 4) (by omega) s.2.1 okv hrg ?_
      rw [e2]
      refine ⟨K, fun x => ⟨iv, ?_⟩⟩
      rw [ix]
      have k2 := K2 x
      have b' : I (103 + 1) (1624 + (11 + 4 * g 3)) = nI v := b
      rw [b']
      obtain ⟨c1, c2⟩ := k2
      exact ⟨fun z => ⟨fun w => (by cases w), fun _ => (c1 z).2 rfl⟩, fun z => ⟨fun _ => ⟨iv, iv, (c2 z).1 rfl⟩, fun w => (by cases w)⟩⟩
    by_cases hr2 : r < q 2
    rotate_left
    · have fb := ff_b (y := y) (n := n) (p := p) (v := 3) (by omega)
      refine Or.inl ⟨ff y n p 3, p, ⟨fb.1, fb.2, hp⟩, ?_, ?_⟩
      · intro t e f I L R Q hc s K
        refine nU s ?_ ?_ <;> rw [if_neg hr2]
        · exact fun _ => ⟨fun _ => su_ref s.1 (fun I1 u => K I1 u.1 u.2.1 (fun r k x1 _ _ => u.2.2 r k (by omega))), fun x => absurd (by decide) x⟩
        · exact fun x => absurd (by decide) x
      · intro tp I L R Q s K
        refine nN s ?_ ?_ <;> rw [if_neg hr2]
        · exact fun _ => sm_fail s.1 (fun I1 u => K I1 u.1 u.2.1 (fun r k x1 _ => u.2.2 r k (by omega)))
        · exact fun x => absurd (by decide) x
    rw [if_pos hr2] at nU nN
    have r1 : ¬ nI r = -1 := fun x => (zn_M (n := r) (by omega)).1 x
    by_cases bt : v.testBit r = true
    · have fb := ff_b (y := y) (n := n) (p := p) (v := 5) (by omega)
      refine Or.inl ⟨ff y n p 5, p, ⟨fb.1, fb.2, hp⟩, ?_, ?_⟩
      · intro t e f I L R Q hc s K
        refine nU s (fun x => absurd x r1) (fun _ => ⟨fun _ => ⟨fun x => absurd x r1, fun _ => su_ref s.1 (fun I1 u => K I1 u.1 u.2.1 (fun r k x1 _ _ => u.2.2 r k (by omega)))⟩, fun x => absurd ((ze_bit v64 (by omega)).2 bt) x⟩)
      · intro tp I L R Q s K
        exact nN s (fun x => absurd x r1) (fun _ => ⟨fun _ => ⟨fun w => (by cases w), fun _ => sm_fail s.1 (fun I1 u => K I1 u.1 u.2.1 (fun r k x1 _ => u.2.2 r k (by omega)))⟩, fun x => absurd ((ze_bit v64 (by omega)).2 bt) x⟩)
    have eo : nI v ||| ((1 : Int32) <<< (nI r &&& 31)) = nI (v ||| 2 ^ r) := by rw [ze_shl r (by omega), ze_or]
    have eb : nI (bc v (q 2)) + 1 = nI (bc (v ||| 2 ^ r) (q 2)) := by rw [bc_set bt, if_pos hr2]; exact nI_add _ _
    have hv' : v ||| 2 ^ r < 2 ^ q 2 := Nat.or_lt_two_pow hv (Nat.pow_lt_pow_right (by omega) hr2)
    have q1 : p < tN y n p := tN_gt hpn
    have q2 : tN y n p ≤ n := tN_le hp
    rw [eo] at nU nN
    rw [eb] at nU
    have tU := fun {t e : Nat} {f : Nat → Nat} {I : am_TI} {L : am_TL} {R : am_TR} {Q : Int32 → am_TI → Prop} (hc : sq_cd t e) (s : sU y n q f p t e I L) (K : ∀ I1, sU y n q f (tN y n p) t e I1 L → ku t I L I1 L → wl_SquareReader_readLikes_9 L R 8 2 t Q (m + 1) I1 (nI (v ||| 2 ^ r)) (nI (bc (v ||| 2 ^ r) (q 2)))) => nU (R := R) (Q := Q) s (fun x => absurd x r1) (fun _ => ⟨fun x => absurd ((ze_bit v64 (by omega)).1 x) bt, fun _ => su_adv s.1 (fun I1 h1 f1 => K I1 (s.tok hc h1 f1).1 (s.tok hc h1 f1).2)⟩)
    have tN' := fun {tp : Nat} {I : am_TI} {L : am_TL} {R : am_TR} {Q : Bool → am_TI → Prop} (s : sM y n (zu g (11 + 4 * g 3) v) tp p I L) (K : ∀ I1, sM y n (zu g (11 + 4 * g 3) (v ||| 2 ^ r)) tp (tN y n p) I1 L → km I L I1 L → wl_M_aHearer_99 L R 103 Q (m + 1) I1 (nI (1624 + (10 + 4 * g 3))) true) => nN (R := R) (Q := Q) s (fun x => absurd x r1) (fun _ => ⟨fun x => absurd ((ze_bit v64 (by omega)).1 x) bt, fun _ => ⟨fun _ I9 h9 => by
      have b := s.put (k := 11 + 4 * g 3) (by omega) (by omega) (by omega) (v ||| 2 ^ r)
      rw [zu_zu, ← h9] at b
      exact sm_ahead hn b.1.1 (fun I1 h1 f1 => K I1 (b.1.tok h1 f1).1 (b.2.trans (b.1.tok h1 f1).2)), fun w => (by cases w)⟩⟩)
    rcases ih (tN y n p) (v ||| 2 ^ r) (by omega) q2 hv' with ⟨fv, pl, hf, a, b⟩ | ⟨v', p', ⟨g1, g2, g3⟩, a, b⟩
    · refine Or.inl ⟨fv, pl, hf, fun t e f I L R Q hc s K => tU hc s (fun I1 s1 k1 => a t e f I1 L R Q hc s1 (fun I2 x1 x2 x3 => K I2 x1 x2 (fun r k z1 z2 z3 => (x3 r k z1 z2 z3).trans (k1.2.2.1 r k z1 z2 z3)))), fun tp I L R Q s K => tN' s (fun I1 s1 k1 => b tp I1 L R Q s1 (fun I2 x1 x2 x3 => K I2 x1 x2 (fun r k z1 z2 => (x3 r k z1 z2).trans (k1.1 r k (by omega) z2))))⟩
    · refine Or.inr ⟨v', p', ⟨g1, by omega, g3⟩, fun t e f I L R Q hc s K => tU hc s (fun I1 s1 k1 => a t e f I1 L R Q hc s1 (fun I2 s2 k2 => K I2 s2 (k1.trans k2))), fun tp I L R Q s K => tN' s (fun I1 s1 k1 => b tp I1 L R Q s1 (fun I2 s2 k2 => K I2 s2 (k1.trans k2)))⟩
end
