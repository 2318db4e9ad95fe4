/-- what looking at the places of s adds to LINK b; what it costs -/
def x_gn (M : bM) (s b : Int) : Nat → Int
  | 0 => 0
  | i + 1 => x_gn M s b i + (if i_bt s i = true ∧ M 156 i = b then M 157 i else 0)
def x_cs (M : bM) (s : Int) : Nat → Int
  | 0 => 0
  | i + 1 => x_cs M s i + (if i_bt s i = true then M 155 i else 0)
theorem x_gn_r {M : bM} {s b : Int} (hP : R_place M) : ∀ n : Nat, (n : Int) ≤ M 10 0 → 0 ≤ x_gn M s b n ∧ x_gn M s b n ≤ 99 * n := by
  intro n
  induction n with
  | zero => intro _; exact ⟨Int.le_refl _, Int.le_refl _⟩
  | succ n ih =>
    intro h
    have i1 := ih (by omega)
    have p := hP.2.2 n (by omega) (by omega)
    show 0 ≤ x_gn M s b n + _ ∧ x_gn M s b n + _ ≤ _
    split
    · omega
    · omega
theorem x_cs_r {M : bM} {s : Int} (hP : R_place M) : ∀ n : Nat, (n : Int) ≤ M 10 0 → 0 ≤ x_cs M s n ∧ x_cs M s n ≤ 99 * n := by
  intro n
  induction n with
  | zero => intro _; exact ⟨Int.le_refl _, Int.le_refl _⟩
  | succ n ih =>
    intro h
    have i1 := ih (by omega)
    have p := hP.2.2 n (by omega) (by omega)
    show 0 ≤ x_cs M s n + _ ∧ x_cs M s n + _ ≤ _
    split
    · omega
    · omega
theorem x_cs_s {M : bM} {s k : Int} (hk : 0 ≤ k) : x_cs M s (k + 1).toNat = x_cs M s k.toNat + (if i_bt s k.toNat = true then M 155 k else 0) := by
  rw [show (k + 1).toNat = k.toNat + 1 by omega]
  have e : ((k.toNat : Nat) : Int) = k := by omega
  show x_cs M s k.toNat + (if i_bt s k.toNat = true then M 155 ((k.toNat : Nat) : Int) else 0) = _
  rw [e]
theorem x_gn_s {M : bM} {s b k : Int} (hk : 0 ≤ k) : x_gn M s b (k + 1).toNat = x_gn M s b k.toNat + (if i_bt s k.toNat = true ∧ M 156 k = b then M 157 k else 0) := by
  rw [show (k + 1).toNat = k.toNat + 1 by omega]
  have e : ((k.toNat : Nat) : Int) = k := by omega
  show x_gn M s b k.toNat + (if i_bt s k.toNat = true ∧ M 156 ((k.toNat : Nat) : Int) = b then M 157 ((k.toNat : Nat) : Int) else 0) = _
  rw [e]
theorem t_costOf {M : bM} {s : Int} (hP : R_place M) : b_wp (F_X12_costOf s M) (fun x => x = x_cs M s (M 10 0).toNat) := by
  have p1 := hP.1
  have e241 : M 241 = M 155 := hP.2.1.1
  unfold F_X12_costOf F_X12_costOf_b40
  refine b_Wb (b_wp_m (fun o z => b_Ws z) ?_)
  refine b_loop_ind (I := fun t : Int × Int => (0 ≤ t.2 ∧ t.2 ≤ M 10 0) ∧ t.1 = x_cs M s t.2.toNat) (fun t => (M 10 0 - t.2).toNat) ?_ (0, 0) ⟨by dsimp only; omega, rfl⟩
  intro ⟨v, k⟩ ⟨h1, h2⟩
  dsimp only at h1 h2 ⊢
  have r := x_cs_r (s := s) hP k.toNat (by omega)
  unfold F_X12_costOf_s4 F_X12_costOf_b32
  refine b_Wi (fun q => b_Ws ?_) (fun q => ?_)
  · have e : k = M 10 0 := by omega
    rw [← e]; exact h2
  have p := hP.2.2 k h1.1 (by omega)
  have st := x_cs_s (M := M) (s := s) h1.1
  rw [i_bt_shr (by omega), e241]
  by_cases qb : i_bt s k.toNat = true
  · rw [if_pos qb] at st
    rw [if_pos qb]
    refine b_Wt rfl (b_Wg (by omega) (b_Wg (by omega) (b_Ws ⟨⟨by dsimp only; omega, by dsimp only; omega⟩, by dsimp only; omega⟩)))
  · rw [if_neg qb] at st
    rw [if_neg qb]
    refine b_Wf (by decide) (b_Wg (by omega) (b_Ws ⟨⟨by dsimp only; omega, by dsimp only; omega⟩, by dsimp only; omega⟩))
theorem t_gainC {M N : bM} {s : Int} (hP : R_place M) (h10 : N 10 0 = M 10 0) (h156 : ∀ i, N 156 i = M 156 i) (h157 : ∀ i, N 157 i = M 157 i) (h158 : ∀ b, 0 ≤ b → b < 30 → N 158 b = 0) : b_wp (b_loop (fun t : Int × bM => F_X9_settledBy_s15 s t.1 t.2) (0, N)) (fun Q => (∀ c j, c ≠ 158 → Q c j = N c j) ∧ ∀ b, 0 ≤ b → b < 30 → Q 158 b = x_gn M s b (M 10 0).toNat) := by
  have p1 := hP.1
  refine b_loop_ind (I := fun t : Int × bM => (0 ≤ t.1 ∧ t.1 ≤ M 10 0) ∧ (∀ c j, c ≠ 158 → t.2 c j = N c j) ∧ ∀ b, 0 ≤ b → b < 30 → t.2 158 b = x_gn M s b t.1.toNat) (fun t => (M 10 0 - t.1).toNat) ?_ (0, N) ⟨by dsimp only; omega, fun _ _ _ => rfl, h158⟩
  intro ⟨k, Q⟩ ⟨h1, h2, h3⟩
  dsimp only at h1 h2 h3 ⊢
  have q10 : Q 10 0 = M 10 0 := by rw [h2 10 0 (by decide), h10]
  have q156 : Q 156 k = M 156 k := by rw [h2 156 k (by decide), h156]
  have q157 : Q 157 k = M 157 k := by rw [h2 157 k (by decide), h157]
  unfold F_X9_settledBy_s15
  refine b_Wi (fun q => b_Ws ⟨h2, ?_⟩) (fun q => ?_)
  · have e : k = M 10 0 := by omega
    rw [← e]; exact h3
  have p := hP.2.2 k h1.1 (by omega)
  rw [i_bt_shr (by omega)]
  by_cases qb : i_bt s k.toNat = true
  · rw [if_pos qb, q156, q157]
    have r := x_gn_r (s := s) (b := M 156 k) hP k.toNat (by omega)
    have v := h3 (M 156 k) p.2.1.1 p.2.1.2
    refine b_Wf (by decide) (b_Wg (by omega) (b_Wl (b_Wg (by omega) (b_Ws ⟨⟨by dsimp only; omega, fun c j hc => ?_, fun b b0 b1 => ?_⟩, by dsimp only; omega⟩))))
    · dsimp only; rw [b_upc hc]; exact h2 c j hc
    · dsimp only
      rw [b_upJ, x_gn_s h1.1]
      by_cases e : b = M 156 k
      · subst e
        rw [if_pos rfl, if_pos ⟨qb, rfl⟩, v]
      · rw [if_neg e, if_neg (fun z => e z.2.symm), h3 b b0 b1]; omega
  · rw [if_neg qb]
    refine b_Wt rfl (b_Wg (by omega) (b_Ws ⟨⟨by dsimp only; omega, h2, fun b b0 b1 => ?_⟩, by dsimp only; omega⟩))
    dsimp only
    rw [x_gn_s h1.1, if_neg (fun z => qb z.1), h3 b b0 b1]; omega
