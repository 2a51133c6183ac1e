/-! the square's text: a part -/
section
variable {y : Nat → Nat} {n : Nat} {q f : Nat → Nat} {tp p : Nat}
theorem SP.part (hn : n ≤ 900) (hpn : p < n) (hg : sG q f tp) : SP y n (p + 1) q f q tp p (fun t I L R Q => wp_SquareReader_readPart I L R 8 2 t Q) (fun I L R Q => wp_M_squarePart I L R 103 Q) := by
  have iU : ∀ {w t e : Nat} {I : am_TI} {L : am_TL}, w < 25 → tI y n p = w → sU y n q f p t e I L → I 2 9 = nI w := fun h0 h1 s => by rw [s.1.w, h1, if_pos h0]
  by_cases w0 : tI y n p = 0
  · refine (SP.size hn hpn hg w0).pre (fun t e I L R Q hc s K => ?_) (fun I L R Q s K => K I L s km.refl)
    have k2 := K I L s ku.refl
    unfold wp_SquareReader_readPart
    rw [iU (by omega) w0 s]
    exact ⟨fun _ => k2, fun x => absurd x (by decide), fun x => absurd x (by decide), fun x => absurd x (by decide), fun x => absurd x (by decide), fun x => absurd x (by decide), fun x => absurd x (by decide), fun x => absurd x (by decide), fun x => absurd x (by decide), fun x => absurd x (by decide), fun x _ _ _ _ _ _ _ _ _ => absurd rfl x⟩
  by_cases w2 : tI y n p = 2
  · refine (SP.odds hn hpn hg w2).pre (fun t e I L R Q hc s K => ?_) (fun I L R Q s K => K I L s km.refl)
    have k2 := K I L s ku.refl
    unfold wp_SquareReader_readPart
    rw [iU (by omega) w2 s]
    exact ⟨fun x => absurd x (by decide), fun x => absurd x (by decide), fun _ => k2, fun x => absurd x (by decide), fun x => absurd x (by decide), fun x => absurd x (by decide), fun x => absurd x (by decide), fun x => absurd x (by decide), fun x => absurd x (by decide), fun x => absurd x (by decide), fun _ _ x _ _ _ _ _ _ _ => absurd rfl x⟩
  by_cases w3 : tI y n p = 3
  · refine (SP.organ hn hpn hg w3).pre (fun t e I L R Q hc s K => ?_) (fun I L R Q s K => K I L s km.refl)
    have k2 := K I L s ku.refl
    unfold wp_SquareReader_readPart
    rw [iU (by omega) w3 s]
    exact ⟨fun x => absurd x (by decide), fun x => absurd x (by decide), fun x => absurd x (by decide), fun _ => k2, fun x => absurd x (by decide), fun x => absurd x (by decide), fun x => absurd x (by decide), fun x => absurd x (by decide), fun x => absurd x (by decide), fun x => absurd x (by decide), fun _ _ _ x _ _ _ _ _ _ => absurd rfl x⟩
  by_cases w4 : tI y n p = 4
  · refine (SP.tune hn hpn hg w4).pre (fun t e I L R Q hc s K => ?_) (fun I L R Q s K => K I L s km.refl)
    have k2 := K I L s ku.refl
    unfold wp_SquareReader_readPart
    rw [iU (by omega) w4 s]
    exact ⟨fun x => absurd x (by decide), fun x => absurd x (by decide), fun x => absurd x (by decide), fun x => absurd x (by decide), fun _ => k2, fun x => absurd x (by decide), fun x => absurd x (by decide), fun x => absurd x (by decide), fun x => absurd x (by decide), fun x => absurd x (by decide), fun _ _ _ _ x _ _ _ _ _ => absurd rfl x⟩
  by_cases w5 : tI y n p = 5
  · refine (SP.hearer hn hpn hg w5).pre (fun t e I L R Q hc s K => ?_) (fun I L R Q s K => K I L s km.refl)
    have k2 := K I L s ku.refl
    unfold wp_SquareReader_readPart
    rw [iU (by omega) w5 s]
    exact ⟨fun x => absurd x (by decide), fun x => absurd x (by decide), fun x => absurd x (by decide), fun x => absurd x (by decide), fun x => absurd x (by decide), fun _ => k2, fun x => absurd x (by decide), fun x => absurd x (by decide), fun x => absurd x (by decide), fun x => absurd x (by decide), fun _ _ _ _ _ x _ _ _ _ => absurd rfl x⟩
  by_cases w9 : tI y n p = 9
  · refine (SP.dog hn hpn hg w9).pre (fun t e I L R Q hc s K => ?_) (fun I L R Q s K => K I L s km.refl)
    have k2 := K I L s ku.refl
    unfold wp_SquareReader_readPart
    rw [iU (by omega) w9 s]
    exact ⟨fun x => absurd x (by decide), fun x => absurd x (by decide), fun x => absurd x (by decide), fun x => absurd x (by decide), fun x => absurd x (by decide), fun x => absurd x (by decide), fun x => absurd x (by decide), fun x => absurd x (by decide), fun x => absurd x (by decide), fun _ => k2, fun _ _ _ _ _ _ _ _ _ x => absurd rfl x⟩
  have hno : tI y n p ≠ 0 ∧ tI y n p ≠ 2 ∧ tI y n p ≠ 3 ∧ tI y n p ≠ 4 ∧ tI y n p ≠ 5 ∧ tI y n p ≠ 9 := ⟨w0, w2, w3, w4, w5, w9⟩
  refine SP.pre (q1 := q) (f1 := f) (p1 := p) (g1 := q) (tp1 := tp) (fun t e I L R Q hc s K => ?_) (fun I L R Q s K => sm_part2y hn hno s (K I L s km.refl)) (SP.ref (v := 2) (by omega) (by omega))
  have k2 := K I L s ku.refl
  have nw : ∀ w, w < 25 → tI y n p ≠ w → ¬ I 2 9 = nI w := fun w h0 h1 => by
    rw [s.1.w]
    by_cases c : tI y n p < 25
    · rw [if_pos c, nI_eq (by omega) (by omega)]; exact h1
    · rw [if_neg c]; exact fun x => (zn_M (n := w) (by omega)).1 x.symm
  exact ⟨fun x => absurd x (nw 0 (by omega) w0), fun _ => k2, fun x => absurd x (nw 2 (by omega) w2), fun x => absurd x (nw 3 (by omega) w3), fun x => absurd x (nw 4 (by omega) w4), fun x => absurd x (nw 5 (by omega) w5), fun _ => k2, fun _ => k2, fun _ => k2, fun x => absurd x (nw 9 (by omega) w9), fun _ _ _ _ _ _ _ _ _ _ => k2⟩
end
