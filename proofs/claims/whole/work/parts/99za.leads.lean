/-- how far the first k lines lead along axis w -/
def x_ld (M : bM) (l w : Int) : Nat → Int
  | 0 => 0
  | k + 1 => x_ld M l w k + (if M 178 (12 * l + k) = w then M 179 (12 * l + k) else if M 178 (12 * l + k) = w + 2 then -M 179 (12 * l + k) else 0)
/-- the sum of lines of one way -/
def x_sw (M : bM) (l w : Int) : Nat → Int
  | 0 => 0
  | k + 1 => x_sw M l w k + (if M 178 (12 * l + k) = w then M 179 (12 * l + k) else 0)
theorem x_ld_s {M : bM} {l w k : Int} (hk : 0 ≤ k) : x_ld M l w (k + 1).toNat = x_ld M l w k.toNat + (if M 178 (12 * l + k) = w then M 179 (12 * l + k) else if M 178 (12 * l + k) = w + 2 then -M 179 (12 * l + k) else 0) := by
  rw [show (k + 1).toNat = k.toNat + 1 by omega]
  have e : ((k.toNat : Nat) : Int) = k := by omega
  show x_ld M l w k.toNat + (if M 178 (12 * l + ((k.toNat : Nat) : Int)) = w then M 179 (12 * l + ((k.toNat : Nat) : Int)) else if M 178 (12 * l + ((k.toNat : Nat) : Int)) = w + 2 then -M 179 (12 * l + ((k.toNat : Nat) : Int)) else 0) = _
  rw [e]
theorem x_sw_s {M : bM} {l w k : Int} (hk : 0 ≤ k) : x_sw M l w (k + 1).toNat = x_sw M l w k.toNat + (if M 178 (12 * l + k) = w then M 179 (12 * l + k) else 0) := by
  rw [show (k + 1).toNat = k.toNat + 1 by omega]
  have e : ((k.toNat : Nat) : Int) = k := by omega
  show x_sw M l w k.toNat + (if M 178 (12 * l + ((k.toNat : Nat) : Int)) = w then M 179 (12 * l + ((k.toNat : Nat) : Int)) else 0) = _
  rw [e]
theorem x_sw_ld {M : bM} {l w : Int} : ∀ k : Nat, x_ld M l w k = x_sw M l w k - x_sw M l (w + 2) k := by
  intro k
  induction k with
  | zero => rfl
  | succ k ih =>
    show x_ld M l w k + _ = x_sw M l w k + _ - (x_sw M l (w + 2) k + _)
    rw [ih]
    by_cases a : M 178 (12 * l + k) = w
    · rw [if_pos a, if_pos a, if_neg (by omega)]; omega
    · rw [if_neg a, if_neg a]
      by_cases b : M 178 (12 * l + k) = w + 2
      · rw [if_pos b, if_pos b]; omega
      · rw [if_neg b, if_neg b]; omega
/-- lines of LOT l -/
def Ln (M : bM) (l : Int) : Prop := (0 ≤ l ∧ l < 60) ∧ (0 ≤ M 94 l ∧ M 94 l ≤ 12 ∧ M 175 l = M 94 l) ∧ ∀ i, 0 ≤ i → i < M 94 l → M 97 (12 * l + i) = 100000 * M 178 (12 * l + i) + M 179 (12 * l + i) ∧ (0 ≤ M 178 (12 * l + i) ∧ M 178 (12 * l + i) ≤ 3) ∧ (0 ≤ M 179 (12 * l + i) ∧ M 179 (12 * l + i) ≤ 99999)
theorem Ln_of {M : bM} {l : Int} (h : R_shape M) (hl : 0 ≤ l ∧ l < 60) : Ln M l := ⟨hl, ⟨(h.2.1 l).1, (h.2.1 l).2, by rw [h.1.1]⟩, fun i i0 i1 => h.2.2 l i hl.1 hl.2 i0 i1⟩
theorem x_sw_r {M : bM} {l w : Int} (h : Ln M l) : ∀ k : Nat, (k : Int) ≤ M 94 l → 0 ≤ x_sw M l w k ∧ x_sw M l w k ≤ 99999 * k := by
  intro k
  induction k with
  | zero => intro _; exact ⟨Int.le_refl _, Int.le_refl _⟩
  | succ k ih =>
    intro hk
    have i1 := ih (by omega)
    have r := (h.2.2 k (by omega) (by omega)).2.2
    show 0 ≤ x_sw M l w k + _ ∧ x_sw M l w k + _ ≤ _
    split <;> omega
theorem e_wayOf {M : bM} {l i : Int} (h : Ln M l) (hi : 0 ≤ i ∧ i < M 94 l) : F_X5_wayOf l i M = some (M 178 (12 * l + i)) := by
  refine b_eqn ?_
  obtain ⟨a, b, c⟩ := h.2.2 i hi.1 hi.2
  have h1 := h.1
  have h2 := h.2.1
  unfold F_X5_wayOf
  refine b_Wg (by omega) (b_Ws ?_)
  rw [show l * 12 + i = 12 * l + i by omega, a, i_div_e (by omega) (by omega)]
  omega
theorem e_feetOf {M : bM} {l i : Int} (h : Ln M l) (hi : 0 ≤ i ∧ i < M 94 l) : F_X5_feetOf l i M = some (M 179 (12 * l + i)) := by
  refine b_eqn ?_
  obtain ⟨a, b, c⟩ := h.2.2 i hi.1 hi.2
  have h1 := h.1
  have h2 := h.2.1
  unfold F_X5_feetOf
  refine b_Wg (by omega) (b_Ws ?_)
  rw [show l * 12 + i = 12 * l + i by omega, a, i_rem_e (by omega) (by omega)]
  omega
theorem e_sumOfWay {M : bM} {l w : Int} (h : Ln M l) : F_X5_sumOfWay l w M = some (x_sw M l w (M 94 l).toNat) := by
  refine b_eqn ?_
  have h1 := h.1
  have h2 := h.2.1
  unfold F_X5_sumOfWay F_X5_sumOfWay_b43
  refine b_Wb (b_wp_m (fun o z => b_Ws z) ?_)
  refine b_loop_ind (I := fun t : Int × Int => (0 ≤ t.2 ∧ t.2 ≤ M 94 l) ∧ t.1 = x_sw M l w t.2.toNat) (fun t => (M 94 l - t.2).toNat) ?_ (0, 0) ⟨by dsimp only; omega, rfl⟩
  intro ⟨v, k⟩ ⟨g1, g2⟩
  dsimp only at g1 g2 ⊢
  unfold F_X5_sumOfWay_s5
  refine b_Wg h1 (b_Wi (fun a => b_Ws ?_) (fun a => ?_))
  · have e : k = M 94 l := by omega
    rw [← e]; exact g2
  have st := x_sw_s (M := M) (l := l) (w := w) g1.1
  have r := x_sw_r (w := w) h k.toNat (by omega)
  have c := (h.2.2 k g1.1 (by omega)).2.2
  refine b_We (e_wayOf h (by omega)) (b_Wi (fun b => b_We (e_feetOf h (by omega)) (b_Wg (by omega) (b_Ws ⟨⟨by dsimp only; omega, ?_⟩, by dsimp only; omega⟩))) (fun b => b_Wg (by omega) (b_Ws ⟨⟨by dsimp only; omega, ?_⟩, by dsimp only; omega⟩)))
  · dsimp only; rw [st, if_pos b, g2]
  · dsimp only; rw [st, if_neg b, g2]; omega
theorem x_ld_r {M : bM} {l w : Int} (h : Ln M l) : -1199988 ≤ x_ld M l w (M 94 l).toNat ∧ x_ld M l w (M 94 l).toNat ≤ 1199988 := by
  have h2 := h.2.1
  have a := x_sw_r (w := w) h (M 94 l).toNat (by omega)
  have b := x_sw_r (w := w + 2) h (M 94 l).toNat (by omega)
  rw [x_sw_ld]
  omega
theorem e_miss {M : bM} {l w : Int} (h : Ln M l) (hw : 0 ≤ w ∧ w ≤ 1) : F_X5_miss l w M = some (x_ld M l w (M 94 l).toNat) := by
  refine b_eqn ?_
  have r := x_ld_r (w := w) h
  rw [x_sw_ld] at r
  unfold F_X5_miss
  exact b_We (e_sumOfWay h) (b_Wg (by omega) (b_We (e_sumOfWay h) (b_Wg (by omega) (b_Ws (x_sw_ld _).symm))))
/-- what the reference reads of LOT l is as in M -/
def Lk2 (M N : bM) (l : Int) : Prop := N 175 l = M 94 l ∧ ∀ i, 0 ≤ i → i < M 94 l → N 178 (12 * l + i) = M 178 (12 * l + i) ∧ N 179 (12 * l + i) = M 179 (12 * l + i)
theorem x_ld_rk {M : bM} {l w : Int} (h : Ln M l) : ∀ k : Nat, (k : Int) ≤ M 94 l → -99999 * k ≤ x_ld M l w k ∧ x_ld M l w k ≤ 99999 * k := by
  intro k hk
  have a := x_sw_r (w := w) h k hk
  have b := x_sw_r (w := w + 2) h k hk
  rw [x_sw_ld]
  omega
theorem e_leads {M N : bM} {l w : Int} (h : Ln M l) (hN : Lk2 M N l) (hw : 0 ≤ w ∧ w ≤ 1) : F_X12_leads l w N = some (x_ld M l w (M 94 l).toNat) := by
  refine b_eqn ?_
  have h1 := h.1
  have h2 := h.2.1
  unfold F_X12_leads F_X12_leads_b79
  refine b_Wg (by omega) (b_Wb (b_wp_m (fun o z => b_Ws z) ?_))
  refine b_loop_ind (I := fun t : Int × Int => (12 * l ≤ t.2 ∧ t.2 ≤ 12 * l + M 94 l) ∧ t.1 = x_ld M l w (t.2 - 12 * l).toNat) (fun t => (12 * l + M 94 l - t.2).toNat) ?_ (0, 12 * l) ⟨by dsimp only; omega, by dsimp only; rw [show 12 * l - 12 * l = 0 by omega]; rfl⟩
  intro ⟨v, k⟩ ⟨g1, g2⟩
  dsimp only at g1 g2 ⊢
  unfold F_X12_leads_s8 F_X12_leads_b71
  rw [hN.1]
  refine b_Wg (by omega) (b_Wi (fun a => b_Ws ?_) (fun a => ?_))
  · have e : k - 12 * l = M 94 l := by omega
    rw [← e]; exact g2
  have hk := hN.2 (k - 12 * l) (by omega) (by omega)
  have c := (h.2.2 (k - 12 * l) (by omega) (by omega)).2.2
  have st := x_ld_s (M := M) (l := l) (w := w) (k := k - 12 * l) (by omega)
  have r := x_ld_rk (w := w) h (k - 12 * l).toNat (by omega)
  rw [show 12 * l + (k - 12 * l) = k by omega] at hk c st
  rw [show k - 12 * l + 1 = k + 1 - 12 * l by omega] at st
  rw [hk.1, hk.2]
  refine b_Wg (by omega) (b_Wi (fun b => b_Wg (by omega) (b_Wg (by omega) (b_Ws ⟨⟨by dsimp only; omega, ?_⟩, by dsimp only; omega⟩))) (fun b => b_Wg (by omega) (b_Wi (fun d => b_Wg (by omega) (b_Wg (by omega) (b_Ws ⟨⟨by dsimp only; omega, ?_⟩, by dsimp only; omega⟩))) (fun d => b_Wg (by omega) (b_Ws ⟨⟨by dsimp only; omega, ?_⟩, by dsimp only; omega⟩)))))
  · dsimp only; rw [st, if_pos b, g2]
  · dsimp only; rw [st, if_neg b, if_pos d, g2]
  · dsimp only; rw [st, if_neg b, if_neg d, g2]
theorem Lk2_0 {M : bM} {l : Int} (h : Ln M l) : Lk2 M M l := ⟨h.2.1.2.2, fun _ _ _ => ⟨rfl, rfl⟩⟩
theorem e_withoutBounds {M : bM} {l : Int} (hl : 0 ≤ M 3 0 ∧ M 3 0 ≤ 60) : F_X11_withoutBounds l M = some (if 0 ≤ l ∧ l < M 3 0 then (if M 94 l = 0 then -4 else 0) else -2) := by
  refine b_eqn ?_
  unfold F_X11_withoutBounds
  refine b_We e_X5_has (b_Wi (fun q => b_Ws ?_) (fun q => ?_))
  · rw [b_01_0] at q
    rw [if_neg q]
  · rw [b_01_0] at q
    have q1 := Decidable.of_not_not q
    rw [if_pos q1]
    exact b_Wg (by omega) (b_Wi (fun a => b_Ws (if_pos a).symm) (fun a => b_Ws (if_neg a).symm))
theorem e_bad {M : bM} {l n : Int} (hl : 0 ≤ M 11 20 ∧ M 11 20 ≤ 60) (h20 : M 11 20 = n) : F_X12_bad l M = some (if 0 ≤ l ∧ l < n then (if M 175 l = 0 then -4 else 0) else -2) := by
  refine b_eqn ?_
  subst h20
  unfold F_X12_bad
  refine b_We (e_X12_isLot hl) (b_Wi (fun q => b_Ws ?_) (fun q => ?_))
  · rw [b_01_0] at q
    rw [if_neg q]
  · rw [b_01_0] at q
    have q1 := Decidable.of_not_not q
    rw [if_pos q1]
    exact b_Wg (by omega) (b_Wi (fun a => b_Ws (if_pos a).symm) (fun a => b_Ws (if_neg a).symm))
theorem e_errorR {M N : bM} {l : Int} (h : Ln M l) (hN : Lk2 M N l) (hl : 0 ≤ N 11 20 ∧ N 11 20 ≤ 60) (hb : 0 ≤ l ∧ l < N 11 20) (hn : M 94 l ≠ 0) : F_X12_error l N = some (max (x_ld M l 0 (M 94 l).toNat) (-x_ld M l 0 (M 94 l).toNat) + max (x_ld M l 1 (M 94 l).toNat) (-x_ld M l 1 (M 94 l).toNat)) := by
  refine b_eqn ?_
  have eb := e_bad (M := N) (l := l) hl rfl
  rw [if_pos hb, hN.1, if_neg hn] at eb
  have r0 := x_ld_r (w := 0) h
  have r1 := x_ld_r (w := 1) h
  unfold F_X12_error F_X12_error_b38 F_X12_error_b48
  refine b_We eb (b_Wt rfl (b_We (e_leads h hN (by decide)) (b_We (e_leads h hN (by decide)) ?_)))
  refine b_Wi (fun a => b_Wi (fun b => b_Wg (by omega) (b_Ws (by omega))) (fun b => b_Wg (by omega) (b_Wg (by omega) (b_Ws (by omega))))) (fun a => b_Wg (by omega) (b_Wi (fun b => b_Wg (by omega) (b_Ws (by omega))) (fun b => b_Wg (by omega) (b_Wg (by omega) (b_Ws (by omega))))))
theorem op_error {l : Int} {M : bM} (hL : R_lots M) (hS : R_shape M) : b_wp (F_X11_error l M) (fun o => b_wp (F_X12_error l M) (fun o2 => o = o2)) := by
  have l1 := hL.1
  have e94 : M 175 = M 94 := hS.1.1
  unfold F_X11_error
  refine b_We (e_withoutBounds (by omega)) ?_
  by_cases q : 0 ≤ l ∧ l < M 3 0
  · rw [if_pos q]
    have h := Ln_of hS (l := l) (by omega)
    by_cases q1 : M 94 l = 0
    · rw [if_pos q1]
      have eb := e_bad (M := M) (l := l) (n := M 3 0) (by omega) (by omega)
      rw [if_pos q, e94, if_pos q1] at eb
      unfold F_X12_error
      exact b_Wf (by decide) (b_Ws (b_We eb (b_Wf (by decide) (b_We eb (b_Ws rfl)))))
    · rw [if_neg q1]
      have r0 := x_ld_r (w := 0) h
      have r1 := x_ld_r (w := 1) h
      have er := e_errorR h (Lk2_0 h) (by omega) (by omega) q1
      refine b_Wt (by decide) (b_We (e_miss h (by decide)) (b_Wg (by omega) (b_We (e_miss h (by decide)) (b_Wg (by omega) (b_Ws ?_)))))
      rw [er]
      exact rfl
  · rw [if_neg q]
    have eb := e_bad (M := M) (l := l) (n := M 3 0) (by omega) (by omega)
    rw [if_neg q] at eb
    unfold F_X12_error
    exact b_Wf (by decide) (b_Ws (b_We eb (b_Wf (by decide) (b_We eb (b_Ws rfl)))))
