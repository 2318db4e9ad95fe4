/-- l is among the first i LOTS told -/
abbrev pJ (a b c d i l : Int) : Prop := (0 < i ∧ a = l) ∨ (1 < i ∧ b = l) ∨ (2 < i ∧ c = l) ∨ (3 < i ∧ d = l)
def cJ (a b c d i : Int) : Int := if i = 0 then a else if i = 1 then b else if i = 2 then c else d
theorem pJ_s {a b c d i l : Int} (hi : 0 ≤ i ∧ i < 4) : pJ a b c d (i + 1) l ↔ (pJ a b c d i l ∨ cJ a b c d i = l) := by
  unfold cJ
  split
  · omega
  · split
    · omega
    · split <;> omega
theorem pJ_j {a b c d i l : Int} (hi : 0 ≤ i ∧ i ≤ 4) : pJ a b c d i l ↔ ∃ j, 0 ≤ j ∧ j < i ∧ cJ a b c d j = l := by
  refine ⟨fun z => ?_, fun z => ?_⟩
  · rcases z with z | z | z | z
    · exact ⟨0, by decide, z.1, z.2⟩
    · exact ⟨1, by decide, z.1, z.2⟩
    · exact ⟨2, by decide, z.1, z.2⟩
    · exact ⟨3, by decide, z.1, z.2⟩
  · obtain ⟨j, j0, j1, e⟩ := z
    unfold cJ at e
    by_cases q0 : j = 0
    · rw [if_pos q0] at e; exact Or.inl ⟨by omega, e⟩
    · rw [if_neg q0] at e
      by_cases q1 : j = 1
      · rw [if_pos q1] at e; exact Or.inr (Or.inl ⟨by omega, e⟩)
      · rw [if_neg q1] at e
        by_cases q2 : j = 2
        · rw [if_pos q2] at e; exact Or.inr (Or.inr (Or.inl ⟨by omega, e⟩))
        · rw [if_neg q2] at e; exact Or.inr (Or.inr (Or.inr ⟨by omega, e⟩))
/-- the feet of those told -/
def x_js (g : Int → Int) (a b c d i : Int) : Nat → Int
  | 0 => 0
  | l + 1 => x_js g a b c d i l + (if pJ a b c d i l then g l else 0)
theorem x_js_a {g : Int → Int} {a b c d i : Int} (hi : 0 ≤ i ∧ i < 4) (hn : ¬ pJ a b c d i (cJ a b c d i)) : ∀ k : Nat, x_js g a b c d (i + 1) k = x_js g a b c d i k + (if 0 ≤ cJ a b c d i ∧ cJ a b c d i < k then g (cJ a b c d i) else 0) := by
  intro k
  induction k with
  | zero => rw [if_neg (by omega)]; rfl
  | succ k ih =>
    show x_js g a b c d (i + 1) k + (if pJ a b c d (i + 1) k then g k else 0) = x_js g a b c d i k + (if pJ a b c d i k then g k else 0) + _
    rw [ih]
    have s := pJ_s (a := a) (b := b) (c := c) (d := d) (l := k) hi
    generalize cJ a b c d i = x at *
    by_cases e : x = k
    · rw [if_pos (s.mpr (Or.inr e)), if_neg (show ¬ (0 ≤ x ∧ x < (k : Int)) by omega), if_neg (by rw [← e]; exact hn), if_pos (show 0 ≤ x ∧ x < ((k + 1 : Nat) : Int) by omega), e]
      try omega
    · have e2 : pJ a b c d (i + 1) k ↔ pJ a b c d i k := ⟨fun z => (s.mp z).resolve_right e, fun z => s.mpr (Or.inl z)⟩
      by_cases e3 : 0 ≤ x ∧ x < (k : Int)
      · rw [if_pos e3, if_pos (show 0 ≤ x ∧ x < ((k + 1 : Nat) : Int) by omega)]
        by_cases e4 : pJ a b c d i k
        · rw [if_pos (e2.mpr e4), if_pos e4]; try omega
        · rw [if_neg (fun z => e4 (e2.mp z)), if_neg e4]; try omega
      · rw [if_neg e3, if_neg (show ¬ (0 ≤ x ∧ x < ((k + 1 : Nat) : Int)) by omega)]
        by_cases e4 : pJ a b c d i k
        · rw [if_pos (e2.mpr e4), if_pos e4]; try omega
        · rw [if_neg (fun z => e4 (e2.mp z)), if_neg e4]; try omega
theorem x_js_r {g : Int → Int} {a b c d i : Int} : ∀ k : Nat, (∀ l : Nat, l < k → 0 ≤ g l ∧ g l ≤ 999999) → 0 ≤ x_js g a b c d i k ∧ x_js g a b c d i k ≤ 999999 * k := by
  intro k
  induction k with
  | zero => intro _; exact ⟨Int.le_refl _, Int.le_refl _⟩
  | succ k ih =>
    intro h
    have i1 := ih (fun l hl => h l (by omega))
    have r := h k (by omega)
    show 0 ≤ x_js g a b c d i k + _ ∧ x_js g a b c d i k + _ ≤ _
    split <;> omega
theorem x_js_0 {g : Int → Int} {a b c d : Int} : ∀ k : Nat, x_js g a b c d 0 k = 0 := by
  intro k
  induction k with
  | zero => rfl
  | succ k ih =>
    show x_js g a b c d 0 k + _ = 0
    rw [ih, if_neg (by omega)]
    rfl
theorem j_or_e {x y h : Int} (e : ∀ i : Nat, j_bt x i = j_bt y i) : j_or x h = j_or y h := by
  have : Int64.ofInt x = Int64.ofInt y := Int64.toBitVec_inj.mp (BitVec.eq_of_getLsbD_eq fun i _ => e i)
  unfold j_or
  rw [this]
/-- those told are LOTS, none twice -/
def Jl (a b c d n k : Int) : Prop := ∀ i, 0 ≤ i → i < n → (0 ≤ cJ a b c d i ∧ cJ a b c d i < k) ∧ ¬ pJ a b c d i (cJ a b c d i)
theorem t_fourLots {M : bM} {a b c d n : Int} (h99 : ∀ i, 0 ≤ i → i < 4 → M 99 i = cJ a b c d i) (hn : 2 ≤ n ∧ n ≤ 4) : b_wp (F_X5_fourAreLots n M) (fun x => (x = 0 ∧ ¬ Jl a b c d n (M 3 0)) ∨ (x = 1 ∧ Jl a b c d n (M 3 0))) := by
  unfold F_X5_fourAreLots
  refine b_Wb (b_wp_m (fun o z => ?_) (b_loop_ind (P := Sum.elim (fun _ : Unit => Jl a b c d n (M 3 0)) (fun x : Int => x = 0 ∧ ¬ Jl a b c d n (M 3 0))) (I := fun i : Int => (0 ≤ i ∧ i ≤ n) ∧ Jl a b c d i (M 3 0)) (fun i => (n - i).toNat) ?_ 0 ⟨by omega, fun i i0 i1 => by omega⟩))
  · rcases o with u | x
    · show b_wp (F_X5_fourAreLots_b63 M) _
      unfold F_X5_fourAreLots_b63
      exact b_Ws (Or.inr ⟨rfl, z⟩)
    · exact b_Ws (Or.inl z)
  intro i ⟨h1, h2⟩
  unfold F_X5_fourAreLots_s2
  refine b_Wi (fun q => b_Ws ?_) (fun q => b_Wf (by omega) (b_Wg (by omega) ?_))
  · have e : i = n := by omega
    rw [e] at h2; exact h2
  rw [h99 i h1.1 (by omega)]
  refine b_We e_X5_has (b_Wi (fun q1 => b_Ws ⟨rfl, fun z => ?_⟩) (fun q1 => ?_))
  · rw [b_01_0] at q1
    exact q1 (z i h1.1 (by omega)).1
  rw [b_01_0] at q1
  have q2 := Decidable.of_not_not q1
  refine b_Wb (b_wp_m (fun o z => ?_) (b_loop_ind (P := Sum.elim (fun _ : Unit => ¬ pJ a b c d i (cJ a b c d i)) (Sum.elim (fun _ : Int => False) (Sum.elim (fun _ : Unit => False) (fun x : Int => x = 0 ∧ pJ a b c d i (cJ a b c d i))))) (I := fun j : Int => (0 ≤ j ∧ j ≤ i) ∧ ¬ pJ a b c d j (cJ a b c d i)) (fun j => (i - j).toNat) ?_ 0 ⟨by omega, by omega⟩))
  · rcases o with u | o | u | x
    · show b_wp (F_X5_fourAreLots_b57 n i M) _
      unfold F_X5_fourAreLots_b57
      refine b_Wg (by omega) (b_Ws ⟨⟨by omega, fun k k0 k1 => ?_⟩, by omega⟩)
      by_cases e : k = i
      · rw [e]; exact ⟨q2, z⟩
      · exact h2 k k0 (by omega)
    · exact z.elim
    · exact z.elim
    · exact b_Ws ⟨z.1, fun y => (y i h1.1 (by omega)).2 z.2⟩
  · intro j ⟨g1, g2⟩
    unfold F_X5_fourAreLots_s29
    refine b_Wi (fun a1 => b_Ws ?_) (fun a1 => b_Wg (by omega) ?_)
    · have e : j = i := by omega
      rw [e] at g2; exact g2
    rw [h99 j g1.1 (by omega), h99 i h1.1 (by omega)]
    have s := pJ_s (a := a) (b := b) (c := c) (d := d) (i := j) (l := cJ a b c d i) (by omega)
    refine b_Wi (fun a2 => b_Ws ⟨rfl, (pJ_j (by omega)).mpr ⟨j, g1.1, by omega, a2⟩⟩) (fun a2 => b_Wg (by omega) (b_Ws ⟨⟨by omega, fun z => ?_⟩, by omega⟩))
    exact (s.mp z).elim g2 a2
theorem t_fourEnd {M : bM} {a b c d n day : Int} (h99 : ∀ i, 0 ≤ i → i < 4 → M 99 i = cJ a b c d i) (hn : 2 ≤ n ∧ n ≤ 4) (h3 : 0 ≤ M 3 0 ∧ M 3 0 ≤ 60) (hJ : Jl a b c d n (M 3 0)) : b_wp (F_X5_fourMayEnd n day M) (fun x => (x = 0 ∧ ∃ l, pJ a b c d n l ∧ ¬ (M 88 l = -1 ∧ M 87 l ≤ day)) ∨ (x = 1 ∧ ∀ l, pJ a b c d n l → M 88 l = -1 ∧ M 87 l ≤ day)) := by
  unfold F_X5_fourMayEnd
  refine b_Wb (b_wp_m (fun o z => ?_) (b_loop_ind (P := Sum.elim (fun _ : Unit => ∀ l, pJ a b c d n l → M 88 l = -1 ∧ M 87 l ≤ day) (fun x : Int => x = 0 ∧ ∃ l, pJ a b c d n l ∧ ¬ (M 88 l = -1 ∧ M 87 l ≤ day))) (I := fun i : Int => (0 ≤ i ∧ i ≤ n) ∧ ∀ l, pJ a b c d i l → M 88 l = -1 ∧ M 87 l ≤ day) (fun i => (n - i).toNat) ?_ 0 ⟨by omega, fun l z => by omega⟩))
  · rcases o with u | x
    · show b_wp (F_X5_fourMayEnd_b34 M) _
      unfold F_X5_fourMayEnd_b34
      exact b_Ws (Or.inr ⟨rfl, z⟩)
    · exact b_Ws (Or.inl z)
  intro i ⟨h1, h2⟩
  unfold F_X5_fourMayEnd_s2
  refine b_Wi (fun q => b_Ws ?_) (fun q => b_Wf (by omega) (b_Wg (by omega) ?_))
  · have e : i = n := by omega
    rw [e] at h2; exact h2
  rw [h99 i h1.1 (by omega)]
  have hi := (hJ i h1.1 (by omega)).1
  refine b_We (e_X5_mayEnd h3.2) (b_Wi (fun q1 => b_Ws ⟨rfl, cJ a b c d i, (pJ_j (by omega)).mpr ⟨i, h1.1, by omega, rfl⟩, fun z => ?_⟩) (fun q1 => b_Wg (by omega) (b_Ws ⟨⟨by omega, fun l z => ?_⟩, by omega⟩)))
  · rw [b_01_0] at q1
    exact q1 ⟨hi, z⟩
  · rw [b_01_0] at q1
    have q2 := Decidable.of_not_not q1
    rcases (pJ_s (by omega)).mp z with z | z
    · exact h2 l z
    · rw [← z]; exact q2.2
/-- the class unites -/
theorem t_unite {Q : bM} {a b c d n day : Int} (h99 : ∀ i, 0 ≤ i → i < 4 → Q 99 i = cJ a b c d i) (hn : 2 ≤ n ∧ n ≤ 4) (h3 : 0 ≤ Q 3 0 ∧ Q 3 0 ≤ 60) (hJ : Jl a b c d n (Q 3 0)) (hf : ∀ i, 0 ≤ i → i < Q 3 0 → 1 ≤ Q 86 i ∧ Q 86 i ≤ 999999) {v3 : Int} : b_wp (b_loop (fun t : Int × Int × Int × bM => F_X5_unite_s9 n day v3 t.1 t.2.1 t.2.2.1 t.2.2.2) (0, 0, 0, Q)) (fun o => o.1 = x_js (Q 86) a b c d n (Q 3 0).toNat ∧ (∀ x : Nat, j_bt o.2.1 x = true ↔ ∃ l, pJ a b c d n l ∧ j_bt (Q 91 l) x = true) ∧ (∀ z j, z ≠ 88 → o.2.2 z j = Q z j) ∧ ∀ l, o.2.2 88 l = if pJ a b c d n l then day else Q 88 l) := by
  refine b_loop_ind (I := fun t : Int × Int × Int × bM => (0 ≤ t.2.2.1 ∧ t.2.2.1 ≤ n) ∧ t.1 = x_js (Q 86) a b c d t.2.2.1 (Q 3 0).toNat ∧ (∀ x : Nat, j_bt t.2.1 x = true ↔ ∃ l, pJ a b c d t.2.2.1 l ∧ j_bt (Q 91 l) x = true) ∧ (∀ z j, z ≠ 88 → t.2.2.2 z j = Q z j) ∧ ∀ l, t.2.2.2 88 l = if pJ a b c d t.2.2.1 l then day else Q 88 l) (fun t => (n - t.2.2.1).toNat) ?_ (0, 0, 0, Q) ⟨by dsimp only; omega, (x_js_0 _).symm, fun x => ?_, fun _ _ _ => rfl, fun l => by dsimp only; rw [if_neg (by omega)]⟩
  · intro ⟨s, bf, i, R⟩ ⟨g1, g2, g3, g4, g5⟩
    dsimp only at g1 g2 g3 g4 g5 ⊢
    unfold F_X5_unite_s9
    refine b_Wi (fun q => b_Ws ?_) (fun q => b_Wf (by omega) (b_Wg (by omega) ?_))
    · have e : i = n := by omega
      rw [e] at g2 g3 g5
      exact ⟨g2, g3, g4, g5⟩
    rw [g4 99 i (by decide), h99 i g1.1 (by omega)]
    obtain ⟨hi, hp⟩ := hJ i g1.1 (by omega)
    have xa := x_js_a (g := Q 86) (by omega) hp (Q 3 0).toNat
    rw [if_pos (by omega)] at xa
    have fi := hf _ hi.1 hi.2
    have xr := x_js_r (g := Q 86) (a := a) (b := b) (c := c) (d := d) (i := i) (Q 3 0).toNat (fun l hl => by have := hf l (by omega) (by omega); omega)
    have ps := fun l => pJ_s (a := a) (b := b) (c := c) (d := d) (i := i) (l := l) (by omega)
    generalize cJ a b c d i = y at *
    have r3 : R 3 0 = Q 3 0 := g4 3 0 (by decide)
    rw [g4 86 y (by decide), g4 91 y (by decide)]
    refine b_We e_X5_has (b_Wf (by rw [b_01_0]; omega) (b_Wg (by omega) (b_Wl (b_Wg (by omega) (b_Wl (b_Wg (by omega) (b_Wl (b_Wg (by omega) (b_Ws ⟨⟨by dsimp only; omega, by dsimp only; omega, fun x => ?_, fun z j hz => ?_, fun l => ?_⟩, by dsimp only; omega⟩)))))))))
    · dsimp only
      rw [j_bt_or, Bool.or_eq_true, g3 x]
      refine ⟨fun z => ?_, fun z => ?_⟩
      · rcases z with ⟨l, z1, z2⟩ | z
        · exact ⟨l, (ps l).mpr (Or.inl z1), z2⟩
        · exact ⟨y, (ps y).mpr (Or.inr rfl), z⟩
      · obtain ⟨l, z1, z2⟩ := z
        rcases (ps l).mp z1 with z | z
        · exact Or.inl ⟨l, z, z2⟩
        · rw [← z] at z2; exact Or.inr z2
    · dsimp only; rw [b_upc hz]; exact g4 z j hz
    · dsimp only
      rw [b_upJ, g5]
      by_cases e : l = y
      · rw [if_pos e, if_pos ((ps l).mpr (Or.inr e.symm))]
      · rw [if_neg e]
        by_cases e2 : pJ a b c d i l
        · rw [if_pos e2, if_pos ((ps l).mpr (Or.inl e2))]
        · rw [if_neg e2, if_neg (fun z => ((ps l).mp z).elim e2 (fun w => e w.symm))]
  · dsimp only
    rw [j_bt_0]
    refine ⟨fun z => absurd z (by decide), fun z => ?_⟩
    obtain ⟨l, z1, _⟩ := z
    omega
