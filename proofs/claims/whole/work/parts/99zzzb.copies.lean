/-! the reference's copies of the rows that were read -/
def x_cp (f : Int → Int) (A B n j : Int) : Int := if A ≤ j ∧ j < A + n then f (B + (j - A)) else f j
theorem x_cp0 {f : Int → Int} {A B j : Int} : x_cp f A B 0 j = f j := by
  unfold x_cp; rw [if_neg (by omega)]
theorem x_cpS {f : Int → Int} {A B v j : Int} (hv : 0 ≤ v) : (if j = A + v then f (B + v) else x_cp f A B v j) = x_cp f A B (v + 1) j := by
  unfold x_cp
  by_cases e : j = A + v
  · rw [if_pos e, if_pos (by omega), show j - A = v by omega]
  · rw [if_neg e]
    by_cases e2 : A ≤ j ∧ j < A + v
    · rw [if_pos e2, if_pos (by omega)]
    · rw [if_neg e2, if_neg (by omega)]
theorem x_cpB {f : Int → Int} {A B n v : Int} (h : A + n ≤ B) (hv : 0 ≤ v) : x_cp f A B n (B + v) = f (B + v) := by
  unfold x_cp; rw [if_neg (by omega)]
theorem t_s96 {R : bM} {a : Int} (ha : 0 ≤ a ∧ a < 8) (h35 : R 11 35 = a) : b_wp (b_loop (fun t : Int × bM => F_X12_act_s96 t.1 t.2) (0, R)) (fun Q => (∀ z j, z ≠ 183 → Q z j = R z j) ∧ ∀ j, Q 183 j = x_cp (R 183) (11 * a) 88 11 j) := by
  refine b_loop_ind (I := fun s : Int × bM => (0 ≤ s.1 ∧ s.1 ≤ 11) ∧ (∀ z j, z ≠ 183 → s.2 z j = R z j) ∧ ∀ j, s.2 183 j = x_cp (R 183) (11 * a) 88 s.1 j) (fun s => (11 - s.1).toNat) ?_ (0, R) ⟨by dsimp only; omega, fun _ _ _ => rfl, fun j => x_cp0.symm⟩
  intro ⟨v, Q⟩ ⟨g1, g2, g3⟩
  dsimp only at g1 g2 g3 ⊢
  unfold F_X12_act_s96
  rw [g2 11 35 (by decide), h35]
  refine b_Wi (fun y => b_Ws ?_) (fun y => b_Wg (by omega) (b_Wl (b_Wg (by omega) (b_Ws ?_))))
  · rw [show v = 11 by omega] at g3
    exact ⟨g2, g3⟩
  · refine ⟨⟨by dsimp only; omega, fun z j hz => ?_, fun j => ?_⟩, by dsimp only; omega⟩
    · dsimp only; rw [b_upc hz]; exact g2 z j hz
    · dsimp only
      rw [b_upJ, g3, g3, x_cpB (by omega) g1.1]
      exact x_cpS g1.1
theorem t_s211 {R : bM} {a : Int} (ha : 0 ≤ a ∧ a < 8) (h35 : R 11 35 = a) : b_wp (b_loop (fun t : Int × bM => F_X12_act_s211 t.1 t.2) (0, R)) (fun Q => (∀ z j, z ≠ 188 → Q z j = R z j) ∧ ∀ j, Q 188 j = x_cp (R 188) (2400 * a) 19200 2400 j) := by
  refine b_loop_ind (I := fun s : Int × bM => (0 ≤ s.1 ∧ s.1 ≤ 2400) ∧ (∀ z j, z ≠ 188 → s.2 z j = R z j) ∧ ∀ j, s.2 188 j = x_cp (R 188) (2400 * a) 19200 s.1 j) (fun s => (2400 - s.1).toNat) ?_ (0, R) ⟨by dsimp only; omega, fun _ _ _ => rfl, fun j => x_cp0.symm⟩
  intro ⟨v, Q⟩ ⟨g1, g2, g3⟩
  dsimp only at g1 g2 g3 ⊢
  unfold F_X12_act_s211
  rw [g2 11 35 (by decide), h35]
  refine b_Wi (fun y => b_Ws ?_) (fun y => b_Wg (by omega) (b_Wl (b_Wg (by omega) (b_Ws ?_))))
  · rw [show v = 2400 by omega] at g3
    exact ⟨g2, g3⟩
  · refine ⟨⟨by dsimp only; omega, fun z j hz => ?_, fun j => ?_⟩, by dsimp only; omega⟩
    · dsimp only; rw [b_upc hz]; exact g2 z j hz
    · dsimp only
      rw [b_upJ, g3, g3, x_cpB (by omega) g1.1]
      exact x_cpS g1.1
theorem t_s251 {R : bM} {a : Int} (ha : 0 ≤ a ∧ a < 8) (h35 : R 11 35 = a) : b_wp (b_loop (fun t : Int × bM => F_X12_act_s251 t.1 t.2) (0, R)) (fun Q => (∀ z j, z ≠ 189 → z ≠ 190 → z ≠ 191 → Q z j = R z j) ∧ (∀ j, Q 189 j = x_cp (R 189) (288 * a) 2304 288 j) ∧ (∀ j, Q 190 j = x_cp (R 190) (288 * a) 2304 288 j) ∧ ∀ j, Q 191 j = x_cp (R 191) (288 * a) 2304 288 j) := by
  refine b_loop_ind (I := fun s : Int × bM => (0 ≤ s.1 ∧ s.1 ≤ 288) ∧ (∀ z j, z ≠ 189 → z ≠ 190 → z ≠ 191 → s.2 z j = R z j) ∧ (∀ j, s.2 189 j = x_cp (R 189) (288 * a) 2304 s.1 j) ∧ (∀ j, s.2 190 j = x_cp (R 190) (288 * a) 2304 s.1 j) ∧ ∀ j, s.2 191 j = x_cp (R 191) (288 * a) 2304 s.1 j) (fun s => (288 - s.1).toNat) ?_ (0, R) ⟨by dsimp only; omega, fun _ _ _ _ _ => rfl, fun j => x_cp0.symm, fun j => x_cp0.symm, fun j => x_cp0.symm⟩
  intro ⟨v, Q⟩ ⟨g1, g2, g3, g4, g5⟩
  dsimp only at g1 g2 g3 g4 g5 ⊢
  have q35 : Q 11 35 = a := (g2 11 35 (by decide) (by decide) (by decide)).trans h35
  unfold F_X12_act_s251
  rw [q35]
  refine b_Wi (fun y => b_Ws ?_) (fun y => b_Wg (by omega) (b_Wl ?_))
  · rw [show v = 288 by omega] at g3 g4 g5
    exact ⟨g2, g3, g4, g5⟩
  · rw [b_upc (show (11 : Nat) ≠ 189 by decide), q35]
    refine b_Wg (by omega) (b_Wl ?_)
    rw [b_upc (show (11 : Nat) ≠ 190 by decide), b_upc (show (11 : Nat) ≠ 189 by decide), q35]
    refine b_Wg (by omega) (b_Wl (b_Wg (by omega) (b_Ws ?_)))
    refine ⟨⟨by dsimp only; omega, fun z j h1 h2 h3 => ?_, fun j => ?_, fun j => ?_, fun j => ?_⟩, by dsimp only; omega⟩
    · dsimp only; rw [b_upc h3, b_upc h2, b_upc h1]; exact g2 z j h1 h2 h3
    · dsimp only
      rw [b_upc (by decide), b_upc (by decide), b_upJ, g3, g3, x_cpB (by omega) g1.1]
      exact x_cpS g1.1
    · dsimp only
      rw [b_upc (by decide), b_upJ, b_upc (by decide), b_upc (by decide), g4, g4, x_cpB (by omega) g1.1]
      exact x_cpS g1.1
    · dsimp only
      rw [b_upJ, b_upc (by decide), b_upc (by decide), b_upc (by decide), b_upc (by decide), g5, g5, x_cpB (by omega) g1.1]
      exact x_cpS g1.1
theorem t_s341 {R : bM} {a : Int} (ha : 0 ≤ a ∧ a < 8) (h35 : R 11 35 = a) : b_wp (b_loop (fun t : Int × bM => F_X12_act_s341 t.1 t.2) (0, R)) (fun Q => (∀ z j, z ≠ 192 → z ≠ 193 → Q z j = R z j) ∧ (∀ j, Q 192 j = x_cp (R 192) (1728 * a) 13824 1728 j) ∧ ∀ j, Q 193 j = x_cp (R 193) (1728 * a) 13824 1728 j) := by
  refine b_loop_ind (I := fun s : Int × bM => (0 ≤ s.1 ∧ s.1 ≤ 1728) ∧ (∀ z j, z ≠ 192 → z ≠ 193 → s.2 z j = R z j) ∧ (∀ j, s.2 192 j = x_cp (R 192) (1728 * a) 13824 s.1 j) ∧ ∀ j, s.2 193 j = x_cp (R 193) (1728 * a) 13824 s.1 j) (fun s => (1728 - s.1).toNat) ?_ (0, R) ⟨by dsimp only; omega, fun _ _ _ _ => rfl, fun j => x_cp0.symm, fun j => x_cp0.symm⟩
  intro ⟨v, Q⟩ ⟨g1, g2, g3, g4⟩
  dsimp only at g1 g2 g3 g4 ⊢
  have q35 : Q 11 35 = a := (g2 11 35 (by decide) (by decide)).trans h35
  unfold F_X12_act_s341
  rw [q35]
  refine b_Wi (fun y => b_Ws ?_) (fun y => b_Wg (by omega) (b_Wl ?_))
  · rw [show v = 1728 by omega] at g3 g4
    exact ⟨g2, g3, g4⟩
  · rw [b_upc (show (11 : Nat) ≠ 192 by decide), q35]
    refine b_Wg (by omega) (b_Wl (b_Wg (by omega) (b_Ws ?_)))
    refine ⟨⟨by dsimp only; omega, fun z j h1 h2 => ?_, fun j => ?_, fun j => ?_⟩, by dsimp only; omega⟩
    · dsimp only; rw [b_upc h2, b_upc h1]; exact g2 z j h1 h2
    · dsimp only
      rw [b_upc (by decide), b_upJ, g3, g3, x_cpB (by omega) g1.1]
      exact x_cpS g1.1
    · dsimp only
      rw [b_upJ, b_upc (by decide), b_upc (by decide), g4, g4, x_cpB (by omega) g1.1]
      exact x_cpS g1.1
theorem t_s133 {R : bM} {a : Int} (ha : 0 ≤ a ∧ a < 8) (h35 : R 11 35 = a) : b_wp (b_loop (fun t : Int × bM => F_X12_act_s133 t.1 t.2) (0, R)) (fun Q => (∀ z j, z ≠ 184 → z ≠ 185 → z ≠ 186 → z ≠ 187 → Q z j = R z j) ∧ (∀ j, Q 184 j = x_cp (R 184) (24 * a) 192 24 j) ∧ (∀ j, Q 185 j = x_cp (R 185) (24 * a) 192 24 j) ∧ (∀ j, Q 186 j = x_cp (R 186) (24 * a) 192 24 j) ∧ ∀ j, Q 187 j = x_cp (R 187) (24 * a) 192 24 j) := by
  refine b_loop_ind (I := fun s : Int × bM => (0 ≤ s.1 ∧ s.1 ≤ 24) ∧ (∀ z j, z ≠ 184 → z ≠ 185 → z ≠ 186 → z ≠ 187 → s.2 z j = R z j) ∧ (∀ j, s.2 184 j = x_cp (R 184) (24 * a) 192 s.1 j) ∧ (∀ j, s.2 185 j = x_cp (R 185) (24 * a) 192 s.1 j) ∧ (∀ j, s.2 186 j = x_cp (R 186) (24 * a) 192 s.1 j) ∧ ∀ j, s.2 187 j = x_cp (R 187) (24 * a) 192 s.1 j) (fun s => (24 - s.1).toNat) ?_ (0, R) ⟨by dsimp only; omega, fun _ _ _ _ _ _ => rfl, fun j => x_cp0.symm, fun j => x_cp0.symm, fun j => x_cp0.symm, fun j => x_cp0.symm⟩
  intro ⟨v, Q⟩ ⟨g1, g2, g3, g4, g5, g6⟩
  dsimp only at g1 g2 g3 g4 g5 g6 ⊢
  have q35 : Q 11 35 = a := (g2 11 35 (by decide) (by decide) (by decide) (by decide)).trans h35
  unfold F_X12_act_s133
  rw [q35]
  refine b_Wi (fun y => b_Ws ?_) (fun y => b_Wg (by omega) (b_Wl (b_Wg (by omega) (b_Wl (b_Wg (by omega) (b_Wl (b_Wg (by omega) (b_Wl (b_Wg (by omega) (b_Wl (b_Wg (by omega) (b_Wl (b_Wg (by omega) (b_Ws ?_))))))))))))))
  · rw [show v = 24 by omega] at g3 g4 g5 g6
    exact ⟨g2, g3, g4, g5, g6⟩
  · refine ⟨⟨by dsimp only; omega, fun z j h1 h2 h3 h4 => ?_, fun j => ?_, fun j => ?_, fun j => ?_, fun j => ?_⟩, by dsimp only; omega⟩
    · dsimp only; rw [b_upc h4, b_upc h3, b_upc h2, b_upc h1]; exact g2 z j h1 h2 h3 h4
    · dsimp only
      rw [b_upc (by decide), b_upc (by decide), b_upc (by decide), b_upJ, g3, g3, x_cpB (by omega) g1.1]
      exact x_cpS g1.1
    · dsimp only
      rw [b_upc (by decide), b_upc (by decide), b_upJ, b_upc (by decide), b_upc (by decide), g4, g4, x_cpB (by omega) g1.1]
      exact x_cpS g1.1
    · dsimp only
      rw [b_upc (by decide), b_upJ, b_upc (by decide), b_upc (by decide), b_upc (by decide), b_upc (by decide), g5, g5, x_cpB (by omega) g1.1]
      exact x_cpS g1.1
    · dsimp only
      rw [b_upJ, b_upc (by decide), b_upc (by decide), b_upc (by decide), b_upc (by decide), b_upc (by decide), b_upc (by decide), g6, g6, x_cpB (by omega) g1.1]
      exact x_cpS g1.1
