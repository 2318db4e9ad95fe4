/-- all clauses -/
theorem t_clauses {c : Int → Int} {n : Int} {C R : bM} {cc : Nat} (hB : z_B c n) (h : Cx c n C R cc 0 0 0) (h9 : C 4 9 = 0) : b_wp (b_loop (fun t => F_X12_act_s51 t) R) (Sum.elim (fun Q : bM => Fa R Q ∧ ∃ (D : bM) (Z : Int) (N i : Nat), b_loop (fun t : Int × bM => F_X1_read_s40 t.1 t.2) (0, C) = some (.inr (Z, D)) ∧ Fc cc C D ∧ Cx c n D Q cc i N Z ∧ D 4 9 < 1000 ∧ Nfl C R D Q) (fun x : Int × bM => x.1 = -1 ∧ Fa R x.2 ∧ ∃ D, b_loop (fun t : Int × bM => F_X1_read_s40 t.1 t.2) (0, C) = some (.inr (-1, D)) ∧ Fc cc C D ∧ D 1 5 = x.2 11 8 ∧ D 1 6 = x.2 11 9)) := by
  have nn := hB.1
  refine b_loop_ind (I := fun Q : bM => Fa R Q ∧ ∃ (D : bM) (Z : Int) (N i : Nat), b_loop (fun t : Int × bM => F_X1_read_s40 t.1 t.2) (0, C) = b_loop (fun t : Int × bM => F_X1_read_s40 t.1 t.2) (Z, D) ∧ Fc cc C D ∧ Cx c n D Q cc i N Z ∧ ((D 4 9 = 0 ∧ Z = 0) ∨ (D 4 9 + 1 ≤ qT c i ∧ Z + 1 ≤ qT c i)) ∧ Nfl C R D Q) (fun Q => (1001 - Q 11 5).toNat) ?_ R ⟨Fa_r, C, 0, 0, 0, rfl, fun _ _ _ _ => rfl, h, Or.inl ⟨h9, rfl⟩, ⟨rfl, rfl⟩, rfl, rfl⟩
  intro Q ⟨fa, D, Z, N, i, e1, e2, e3, e4, e5⟩
  have ct := e3.1.1.1
  have rt := e3.1.1.2.1
  have so := so_cases rt
  have q0 := qT_n (i := i) hB
  have z0 := e3.2.2.2.2.1
  unfold F_X12_act_s51
  refine b_Wi (fun y => b_Ws ⟨fa, D, Z, N, i, ?_, e2, e3, by omega, e5⟩) (fun y => ?_)
  · have k0 : kT c i = 0 := so.2.2.2.2.1.mp y
    rw [e1, b_loop_eq]
    have : F_X1_read_s40 Z D = some (.inr (.inr (Z, D))) := by
      refine b_eqn ?_
      unfold F_X1_read_s40
      exact b_Wf (by omega) (b_Wt ((show D 1 2 = kT c i from ct.2.1.2.1).trans k0) (b_Ws rfl))
    dsimp only
    rw [this]
    rfl
  · have k0 : kT c i ≠ 0 := fun z => y (so.2.2.2.2.1.mpr z)
    refine b_Wb (b_wp_m (fun t z => b_Wtwo ?_) (t_clause hB e3 k0))
    obtain ⟨w1, w2⟩ := z
    rcases w2 with ⟨w2, G, w3, w4, w5⟩ | ⟨w2, G, i', N', w3, w4, w5, w6, w7, w8, w9, w10⟩
    · refine b_Wt w2 (b_Ws ⟨rfl, Fa_t fa w1, G, ?_, Fc_t e2 w4, w5⟩)
      rw [e1, b_loop_eq]
      dsimp only
      rw [w3]
      rfl
    · have q1 := qT_n (i := i') hB
      refine b_Wf (by omega) (b_Ws ⟨⟨Fa_t fa w1, G, Z + 1, N', i', ?_, Fc_t e2 w4, w5, Or.inr ⟨w8, by omega⟩, Nfl_t e5 w10⟩, ?_⟩)
      · rw [e1, b_loop_eq]
        dsimp only
        rw [w3]
        rfl
      · rw [show t.2 11 5 = qT c i' from w5.1.1.2.1.2.1, show Q 11 5 = qT c i from rt.2.1]
        omega
def x_pl (v : Int) : Int := if v = 0 then 1 else if v = 1 then 20 else if v = 2 then 8 else if v = 3 then 2 else if v = 4 then 30 else if v = 5 then 20 else if v = 6 then 10 else if v = 7 then 2 else 0
theorem e_plain {v : Int} {M : bM} : F_X12_plain v M = some (x_pl v) := by
  unfold F_X12_plain x_pl
  split
  · rfl
  · split
    · rfl
    · split
      · rfl
      · split
        · rfl
        · split
          · rfl
          · split
            · rfl
            · split
              · rfl
              · split <;> rfl
theorem t_s26 {R : bM} : b_wp (b_loop (fun t : Int × bM => F_X12_act_s26 t.1 t.2) (0, R)) (fun Q => (∀ z j, z ≠ 183 → Q z j = R z j) ∧ ∀ j, Q 183 j = if 88 ≤ j ∧ j < 99 then x_pl (j - 88) else R 183 j) := by
  refine b_loop_ind (I := fun s : Int × bM => (0 ≤ s.1 ∧ s.1 ≤ 11) ∧ (∀ z j, z ≠ 183 → s.2 z j = R z j) ∧ ∀ j, s.2 183 j = if 88 ≤ j ∧ j < 88 + s.1 then x_pl (j - 88) else R 183 j) (fun s => (11 - s.1).toNat) ?_ (0, R) ⟨by dsimp only; omega, fun _ _ _ => rfl, fun j => by dsimp only; rw [if_neg (by omega)]⟩
  intro ⟨v, Q⟩ ⟨g1, g2, g3⟩
  dsimp only at g1 g2 g3 ⊢
  unfold F_X12_act_s26
  refine b_Wi (fun a => b_Ws ?_) (fun a => b_Wg (by omega) (b_We e_plain (b_Wg (by omega) (b_Wl (b_Wg (by omega) (b_Ws ?_))))))
  · rw [show v = 11 by omega] at g3
    exact ⟨g2, g3⟩
  · refine ⟨⟨by dsimp only; omega, fun z j hz => ?_, fun j => ?_⟩, by dsimp only; omega⟩
    · dsimp only; rw [b_upc hz]; exact g2 z j hz
    · dsimp only
      rw [b_upJ]
      by_cases e : j = 88 + v
      · rw [if_pos e, if_pos (by omega), show j - 88 = v by omega]
      · rw [if_neg e, g3]
        by_cases e2 : 88 ≤ j ∧ j < 88 + v
        · rw [if_pos e2, if_pos (by omega)]
        · rw [if_neg e2, if_neg (by omega)]
theorem s_u0_pl : ∀ v : Int, 0 ≤ v → v < 10 → s_u0 v = x_pl v ∧ (0 ≤ x_pl v ∧ x_pl v ≤ 99) := by
  intro v h0 h1
  have g : ∀ y : Fin 10, s_u0 (y.val : Int) = x_pl (y.val : Int) ∧ (0 ≤ x_pl (y.val : Int) ∧ x_pl (y.val : Int) ≤ 99) := by decide +kernel
  have := g ⟨v.toNat, by omega⟩
  rw [show (((⟨v.toNat, by omega⟩ : Fin 10).val : Nat) : Int) = v by show ((v.toNat : Nat) : Int) = v; omega] at this
  exact this
