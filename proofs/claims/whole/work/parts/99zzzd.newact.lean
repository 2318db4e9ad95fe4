/-- what the reference's act leaves once the text is read -/
def Cpd (Q S : bM) (a : Int) : Prop := S 11 35 = a + 1 ∧ (∀ j, j ≠ 35 → S 11 j = Q 11 j) ∧ (∀ (z : Nat) (j : Int), z ≠ 11 → ¬ (182 ≤ z ∧ z ≤ 193) → S z j = Q z j) ∧ (∀ j, S 182 j = if j = a then Q 11 11 else Q 182 j) ∧ (∀ j, S 183 j = x_cp (Q 183) (11 * a) 88 11 j) ∧ ((∀ j, S 184 j = x_cp (Q 184) (24 * a) 192 24 j) ∧ (∀ j, S 185 j = x_cp (Q 185) (24 * a) 192 24 j) ∧ (∀ j, S 186 j = x_cp (Q 186) (24 * a) 192 24 j) ∧ ∀ j, S 187 j = x_cp (Q 187) (24 * a) 192 24 j) ∧ (∀ j, S 188 j = x_cp (Q 188) (2400 * a) 19200 2400 j) ∧ ((∀ j, S 189 j = x_cp (Q 189) (288 * a) 2304 288 j) ∧ (∀ j, S 190 j = x_cp (Q 190) (288 * a) 2304 288 j) ∧ ∀ j, S 191 j = x_cp (Q 191) (288 * a) 2304 288 j) ∧ (∀ j, S 192 j = x_cp (Q 192) (1728 * a) 13824 1728 j) ∧ ∀ j, S 193 j = x_cp (Q 193) (1728 * a) 13824 1728 j
theorem t_b69 {Q : bM} {a : Int} (ha : 0 ≤ a ∧ a < 8) (h35 : Q 11 35 = a) : b_wp (F_X12_act_b69 Q) (fun o => o.1 = Q 11 50 ∧ Cpd Q o.2 a) := by
  unfold F_X12_act_b69
  rw [h35]
  refine b_Wf (by omega) (b_Wg (by omega) (b_Wl ?_))
  generalize hA : b_up Q 182 a (Q 11 11) = A
  have a0 : ∀ (z : Nat) (j : Int), z ≠ 182 → A z j = Q z j := fun z j hz => by subst hA; exact b_upc hz
  have a1 : ∀ j, A 182 j = if j = a then Q 11 11 else Q 182 j := fun j => by subst hA; exact b_upJ
  clear hA
  refine b_Wb (b_wp_m (fun B z => ?_) (t_s96 ha ((a0 11 35 (by decide)).trans h35)))
  obtain ⟨b0, b1⟩ := z
  unfold F_X12_act_b131
  refine b_Wb (b_wp_m (fun C z => ?_) (t_s133 ha ((b0 11 35 (by decide)).trans ((a0 11 35 (by decide)).trans h35))))
  obtain ⟨c0, c1, c2, c3, c4⟩ := z
  have c35 : C 11 35 = a := (c0 11 35 (by decide) (by decide) (by decide) (by decide)).trans ((b0 11 35 (by decide)).trans ((a0 11 35 (by decide)).trans h35))
  unfold F_X12_act_b209
  refine b_Wb (b_wp_m (fun D z => ?_) (t_s211 ha c35))
  obtain ⟨d0, d1⟩ := z
  have d35 : D 11 35 = a := (d0 11 35 (by decide)).trans c35
  unfold F_X12_act_b249
  refine b_Wb (b_wp_m (fun E z => ?_) (t_s251 ha d35))
  obtain ⟨e0, e1, e2, e3⟩ := z
  have e35 : E 11 35 = a := (e0 11 35 (by decide) (by decide) (by decide)).trans d35
  unfold F_X12_act_b339
  refine b_Wb (b_wp_m (fun F z => ?_) (t_s341 ha e35))
  obtain ⟨f0, f1, f2⟩ := z
  have f35 : F 11 35 = a := (f0 11 35 (by decide) (by decide)).trans e35
  unfold F_X12_act_b404
  rw [f35]
  refine b_Wg (by omega) (b_Wl (b_Ws ?_))
  have all : ∀ (z : Nat) (j : Int), ¬ (182 ≤ z ∧ z ≤ 193) → F z j = Q z j := fun z j hz => by
    rw [f0 z j (by omega) (by omega), e0 z j (by omega) (by omega) (by omega), d0 z j (by omega), c0 z j (by omega) (by omega) (by omega) (by omega), b0 z j (by omega), a0 z j (by omega)]
  have lowC : ∀ (z : Nat) (j : Int), z < 188 → F z j = C z j := fun z j hz => by
    rw [f0 z j (by omega) (by omega), e0 z j (by omega) (by omega) (by omega), d0 z j (by omega)]
  have frmB : ∀ (z : Nat), 184 ≤ z → B z = Q z := fun z hz => funext fun j => by rw [b0 z j (by omega), a0 z j (by omega)]
  have frmC : ∀ (z : Nat), 188 ≤ z → C z = Q z := fun z hz => (funext fun j => c0 z j (by omega) (by omega) (by omega) (by omega)).trans (frmB z (by omega))
  have frmD : ∀ (z : Nat), 189 ≤ z → D z = Q z := fun z hz => (funext fun j => d0 z j (by omega)).trans (frmC z (by omega))
  have frmE : ∀ (z : Nat), 192 ≤ z → E z = Q z := fun z hz => (funext fun j => e0 z j (by omega) (by omega) (by omega)).trans (frmD z (by omega))
  have g : ∀ (z : Nat) (j : Int), z ≠ 11 → b_up F 11 35 (a + 1) z j = F z j := fun z j hz => b_upc hz
  refine ⟨?_, ?_, fun j hj => ?_, fun z j h1 h2 => ?_, fun j => ?_, fun j => ?_, ⟨fun j => ?_, fun j => ?_, fun j => ?_, fun j => ?_⟩, fun j => ?_, ⟨fun j => ?_, fun j => ?_, fun j => ?_⟩, fun j => ?_, fun j => ?_⟩
  · dsimp only; rw [b_upi (by decide)]; exact all 11 50 (by decide)
  · dsimp only; exact b_ups
  · dsimp only; rw [b_upi hj]; exact all 11 j (by decide)
  · dsimp only; rw [g z j h1]; exact all z j h2
  · dsimp only; rw [g 182 j (by decide), lowC 182 j (by decide), c0 182 j (by decide) (by decide) (by decide) (by decide), b0 182 j (by decide)]; exact a1 j
  · dsimp only; rw [g 183 j (by decide), lowC 183 j (by decide), c0 183 j (by decide) (by decide) (by decide) (by decide), b1, show A 183 = Q 183 from funext fun i => a0 183 i (by decide)]
  · dsimp only; rw [g 184 j (by decide), lowC 184 j (by decide), c1, frmB 184 (by decide)]
  · dsimp only; rw [g 185 j (by decide), lowC 185 j (by decide), c2, frmB 185 (by decide)]
  · dsimp only; rw [g 186 j (by decide), lowC 186 j (by decide), c3, frmB 186 (by decide)]
  · dsimp only; rw [g 187 j (by decide), lowC 187 j (by decide), c4, frmB 187 (by decide)]
  · dsimp only; rw [g 188 j (by decide), f0 188 j (by decide) (by decide), e0 188 j (by decide) (by decide) (by decide), d1, frmC 188 (by decide)]
  · dsimp only; rw [g 189 j (by decide), f0 189 j (by decide) (by decide), e1, frmD 189 (by decide)]
  · dsimp only; rw [g 190 j (by decide), f0 190 j (by decide) (by decide), e2, frmD 190 (by decide)]
  · dsimp only; rw [g 191 j (by decide), f0 191 j (by decide) (by decide), e3, frmD 191 (by decide)]
  · dsimp only; rw [g 192 j (by decide), f1, frmE 192 (by decide)]
  · dsimp only; rw [g 193 j (by decide), f2, frmE 193 (by decide)]
