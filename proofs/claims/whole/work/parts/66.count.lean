/-- how many of the first n are v or more -/
def z_ct (a : Int → Int) (v : Int) (n : Nat) : Int := z_fold (fun i s => s + b_01 (v ≤ a i)) 0 n
theorem z_ct_s {a : Int → Int} {v : Int} {n : Nat} : z_ct a v (n + 1) = z_ct a v n + b_01 (v ≤ a n) := rfl
theorem b_01_r {P : Prop} [Decidable P] : 0 ≤ b_01 P ∧ b_01 P ≤ 1 := by unfold b_01; split <;> omega
theorem z_ct_m {a : Int → Int} {v : Int} {i n : Nat} (h : i ≤ n) : z_ct a v i ≤ z_ct a v n ∧ z_ct a v n ≤ z_ct a v i + ((n : Int) - i) := by
  induction n with
  | zero => rw [show i = 0 by omega]; omega
  | succ n ih =>
    by_cases q : i = n + 1
    · subst q; omega
    · have := ih (by omega)
      have h2 := b_01_r (P := v ≤ a n)
      rw [z_ct_s]
      omega
theorem z_ct_g {a : Int → Int} {v : Int} {i g n : Nat} (h : i ≤ g) (h2 : g < n) (h3 : v ≤ a g) : z_ct a v i + 1 ≤ z_ct a v n := by
  have h4 := (z_ct_m (a := a) (v := v) h).1
  have h5 := (z_ct_m (a := a) (v := v) (show g + 1 ≤ n by omega)).1
  have h6 : z_ct a v (g + 1) = z_ct a v g + b_01 (v ≤ a g) := rfl
  rw [b_01_1.mpr h3] at h6
  omega
theorem z_ct_0 {a : Int → Int} {v : Int} {i n : Nat} (h : i ≤ n) (h2 : ∀ j : Nat, i ≤ j → j < n → a j < v) : z_ct a v n = z_ct a v i := by
  induction n with
  | zero => rw [show i = 0 by omega]
  | succ n ih =>
    by_cases q : i = n + 1
    · subst q; rfl
    · have h3 := ih (by omega) (fun j a b => h2 j a (by omega))
      have h4 := h2 n (by omega) (by omega)
      rw [z_ct_s, b_01_0.mpr (by omega), h3]
      omega
theorem z_ct_c {a b : Int → Int} {v : Int} {n : Nat} (h : ∀ j : Nat, j < n → a j = b j) : z_ct a v n = z_ct b v n := z_fold_c n (fun i x hi => by (try dsimp only); rw [h i hi])
/-- the sum of the m greatest, by how many are v or more -/
def z_top (m : Int) (c : Int → Int) (n : Nat) : Int := z_fold (fun v s => s + min m (c (v + 1))) 0 n
theorem z_top_e {m w : Int} {c c2 : Int → Int} (hm : 1 ≤ m) : ∀ n : Nat, (∀ v : Int, 1 ≤ v → v ≤ n → c2 v = c v - b_01 (v ≤ w) ∧ (v ≤ w → 1 ≤ c v) ∧ (w < v → c v = 0)) → 0 ≤ w → z_top m c n = min w n + z_top (m - 1) c2 n := by
  intro n
  induction n with
  | zero => intro _ hw; show (0 : Int) = min w 0 + 0; omega
  | succ n ih =>
    intro h hw
    have h1 := ih (fun v a b => h v a (by omega)) hw
    have h2 := h (n + 1) (by omega) (by omega)
    have e1 : z_top m c (n + 1) = z_top m c n + min m (c (n + 1)) := rfl
    have e2 : z_top (m - 1) c2 (n + 1) = z_top (m - 1) c2 n + min (m - 1) (c2 (n + 1)) := rfl
    by_cases q : (n : Int) + 1 ≤ w
    · rw [b_01_1.mpr q] at h2
      have := h2.2.1 q
      omega
    · rw [b_01_0.mpr q] at h2
      have := h2.2.2 (by omega)
      omega
theorem z_top_0 {c : Int → Int} : ∀ n : Nat, (∀ v : Int, 1 ≤ v → v ≤ n → 0 ≤ c v) → z_top 0 c n = 0 := by
  intro n
  induction n with
  | zero => intro _; rfl
  | succ n ih =>
    intro h
    have h1 := ih (fun v a b => h v a (by omega))
    have h2 := h (n + 1) (by omega) (by omega)
    have e1 : z_top 0 c (n + 1) = z_top 0 c n + min 0 (c (n + 1)) := rfl
    omega
theorem z_top_c {m m2 : Int} {c c2 : Int → Int} : ∀ n : Nat, (∀ v : Int, 1 ≤ v → v ≤ n → min m (c v) = min m2 (c2 v)) → z_top m c n = z_top m2 c2 n := by
  intro n
  induction n with
  | zero => intro _; rfl
  | succ n ih =>
    intro h
    have h1 := ih (fun v a b => h v a (by omega))
    have h2 := h (n + 1) (by omega) (by omega)
    show z_top m c n + min m (c (n + 1)) = z_top m2 c2 n + min m2 (c2 (n + 1))
    rw [h1, h2]
/-- the rest's greatest is taken -/
theorem z_top_s {a : Int → Int} {m : Int} {i g n : Nat} (h1 : i ≤ g) (h2 : g < n) (h3 : ∀ j : Nat, i ≤ j → j < n → a j ≤ a g) (h4 : 0 ≤ a g ∧ a g ≤ 99) (hm : 1 ≤ m) : z_top m (fun v => z_ct a v n - z_ct a v i) 99 = a g + z_top (m - 1) (fun v => z_ct a v n - z_ct a v i - b_01 (v ≤ a g)) 99 := by
  rw [z_top_e (w := a g) (c2 := fun v => z_ct a v n - z_ct a v i - b_01 (v ≤ a g)) hm 99 (fun v v1 v2 => ⟨rfl, fun q => ?_, fun q => ?_⟩) h4.1]
  · rw [show min (a g) ((99 : Nat) : Int) = a g by omega]
  · have := z_ct_g h1 h2 q
    (try dsimp only)
    omega
  · have := z_ct_0 (a := a) (v := v) (i := i) (n := n) (by omega) (fun j j1 j2 => by have := h3 j j1 j2; omega)
    (try dsimp only)
    omega
/-- one entry is another now -/
def z_up (a : Int → Int) (g x : Int) : Int → Int := fun j => if j = g then x else a j
theorem z_ct_up {a : Int → Int} {v x : Int} {g n : Nat} : z_ct (z_up a g x) v n = if g < n then z_ct a v n + b_01 (v ≤ x) - b_01 (v ≤ a g) else z_ct a v n := by
  induction n with
  | zero => rfl
  | succ n ih =>
    rw [z_ct_s, z_ct_s, ih]
    unfold z_up
    by_cases q : g < n
    · rw [if_pos q, if_neg (by omega), if_pos (by omega)]
      omega
    · rw [if_neg q]
      by_cases q2 : g = n
      · subst q2
        rw [if_pos rfl, if_pos (by omega)]
        omega
      · rw [if_neg (by omega), if_neg (by omega)]
/-- put into its place behind -/
theorem z_ct_ins {o p : Int → Int} {v w : Int} {t m : Nat} (ht : t ≤ m) (h1 : ∀ j : Nat, j < t → p j = o j) (h2 : p t = w) (h3 : ∀ j : Nat, t ≤ j → j < m → p (j + 1) = o j) : z_ct p v (m + 1) = z_ct o v m + b_01 (v ≤ w) := by
  have h0 : z_ct p v t = z_ct o v t := z_ct_c h1
  have : ∀ k : Nat, t + k ≤ m → z_ct p v (t + k + 1) = z_ct o v (t + k) + b_01 (v ≤ w) := by
    intro k
    induction k with
    | zero => intro _; show z_ct p v t + b_01 (v ≤ p t) = _; rw [h0, h2]; rfl
    | succ k ih =>
      intro hk
      have h5 := ih (by omega)
      have h6 := h3 (t + k) (by omega) (by omega)
      show z_ct p v (t + k + 1) + b_01 (v ≤ p ((t + k + 1 : Nat) : Int)) = (z_ct o v (t + k) + b_01 (v ≤ o ((t + k : Nat) : Int))) + b_01 (v ≤ w)
      rw [h5, show (((t + k + 1 : Nat)) : Int) = ((t + k : Nat) : Int) + 1 by omega, h6]
      omega
  have h5 := this (m - t) (by omega)
  rw [show t + (m - t) = m by omega] at h5
  exact h5
/-- the first of a falling row -/
theorem z_top_f {a : Int → Int} {n : Nat} (h : ∀ j : Nat, j + 1 < n → a (j + 1) ≤ a j) (hr : ∀ j : Nat, j < n → 0 ≤ a j ∧ a j ≤ 99) {l : Nat} (hl : l ≤ n) : z_fold (fun i s => s + a i) 0 l = z_top l (fun v => z_ct a v n) 99 := by
  have hm : ∀ (k i : Nat), i + k < n → a ((i + k : Nat) : Int) ≤ a i := by
    intro k
    induction k with
    | zero => intro i _; exact Int.le_refl _
    | succ k ih =>
      intro i hi
      have h1 := ih i (by omega)
      have h2 := h (i + k) (by omega)
      rw [show ((i + (k + 1) : Nat) : Int) = ((i + k : Nat) : Int) + 1 by omega]
      omega
  have : ∀ i : Nat, i ≤ l → z_fold (fun i s => s + a i) 0 i + z_top ((l : Int) - i) (fun v => z_ct a v n - z_ct a v i) 99 = z_top l (fun v => z_ct a v n) 99 := by
    intro i
    induction i with
    | zero =>
      intro _
      show (0 : Int) + _ = _
      rw [z_top_c (m := (l : Int) - (0 : Nat)) (m2 := l) (c := fun v => z_ct a v n - z_ct a v 0) (c2 := fun v => z_ct a v n) 99 (fun v _ _ => by show min _ (z_ct a v n - 0) = _; rw [show z_ct a v n - 0 = z_ct a v n by omega, show (l : Int) - (0 : Nat) = l by omega])]
      omega
    | succ i ih =>
      intro hi
      have h1 := ih (by omega)
      rw [z_top_s (g := i) (Nat.le_refl i) (by omega) (fun j j1 j2 => by have := hm (j - i) i (by omega); rw [show i + (j - i) = j by omega] at this; exact this) (hr i (by omega)) (by omega)] at h1
      show z_fold (fun i s => s + a i) 0 i + a i + _ = _
      rw [← h1, z_top_c (m := (l : Int) - ((i + 1 : Nat) : Int)) (m2 := (l : Int) - i - 1) (c := fun v => z_ct a v n - z_ct a v (i + 1)) (c2 := fun v => z_ct a v n - z_ct a v i - b_01 (v ≤ a i)) 99 (fun v _ _ => by
        (try dsimp only)
        rw [z_ct_s, show z_ct a v n - (z_ct a v i + b_01 (v ≤ a i)) = z_ct a v n - z_ct a v i - b_01 (v ≤ a i) by omega, show (l : Int) - ((i + 1 : Nat) : Int) = (l : Int) - i - 1 by omega])]
      omega
  have h2 := this l (Nat.le_refl l)
  rw [show (l : Int) - l = 0 by omega, z_top_0 99 (fun v _ _ => by have := (z_ct_m (a := a) (v := v) hl).1; (try dsimp only); omega)] at h2
  omega
