theorem g_cnt {m x y : Int} (hx : m ≤ x) (hy : m ≤ y) : ∀ k : Nat, gS (fun s => (1 - gu (m + s) x) * (1 - gu (m + s) y)) k = max 0 (m + k - max x y) := by
  intro k
  induction k with
  | zero => show (0 : Int) = _; omega
  | succ k ih =>
    show gS (fun s => (1 - gu (m + s) x) * (1 - gu (m + s) y)) k + (1 - gu (m + k) x) * (1 - gu (m + k) y) = _
    rw [ih]
    by_cases a : m + k < x
    · rw [gu_1 a, Int.sub_self, Int.zero_mul]; omega
    · rw [gu_0 (show x ≤ m + k by omega)]
      by_cases b : m + k < y
      · rw [gu_1 b, Int.sub_self, Int.mul_zero]; omega
      · rw [gu_0 (show y ≤ m + k by omega)]; omega
theorem g_cu {m y : Int} (hy : m ≤ y) : ∀ k : Nat, gS (fun t => gu (m + t) y) k = min (k : Int) (y - m) := by
  intro k
  induction k with
  | zero => show (0 : Int) = _; omega
  | succ k ih =>
    show gS (fun t => gu (m + t) y) k + gu (m + k) y = _
    rw [ih]
    by_cases a : m + k < y
    · rw [gu_1 a]; omega
    · rw [gu_0 (show y ≤ m + k by omega)]; omega
theorem g_cu2 {m y : Int} {k : Nat} (hy : m ≤ y ∧ y ≤ m + k) : gS (fun t => gu (m + t) y) k = y - m := by
  rw [g_cu hy.1]
  omega
theorem gu_m {b x y : Int} : gu b x * gu b y = gu b (min x y) := by
  by_cases h : b < x
  · by_cases h2 : b < y
    · rw [gu_1 h, gu_1 h2, gu_1 (by omega)]; rfl
    · rw [gu_1 h, gu_0 (show y ≤ b by omega), gu_0 (by omega)]; rfl
  · rw [gu_0 (show x ≤ b by omega), gu_0 (show min x y ≤ b by omega), Int.zero_mul]
def gc (p q r s : Int) : Int := min q s - min q r - min p s + min p r
theorem gc_s {Y Z : Nat → Int} {i j : Nat} {m : Int} {k : Nat} (h1 : m ≤ Y i ∧ Y i ≤ m + k) (h2 : m ≤ Y (i + 1) ∧ Y (i + 1) ≤ m + k) (h3 : m ≤ Z j ∧ Z j ≤ m + k) (h4 : m ≤ Z (j + 1) ∧ Z (j + 1) ≤ m + k) : gS (fun t => gd Y i (m + t) * gd Z j (m + t)) k = gc (Y i) (Y (i + 1)) (Z j) (Z (j + 1)) := by
  have e : gS (fun t => gd Y i (m + t) * gd Z j (m + t)) k = gS (fun t => gu (m + t) (min (Y (i + 1)) (Z (j + 1))) - gu (m + t) (min (Y (i + 1)) (Z j)) - gu (m + t) (min (Y i) (Z (j + 1))) + gu (m + t) (min (Y i) (Z j))) k := by
    refine gS_c k (fun t _ => ?_)
    show gd Y i (m + t) * gd Z j (m + t) = _
    unfold gd
    rw [Int.sub_mul, Int.mul_sub, Int.mul_sub, gu_m, gu_m, gu_m, gu_m]
    omega
  rw [e, gS_add, gS_sub, gS_sub, g_cu2 (by omega), g_cu2 (by omega), g_cu2 (by omega), g_cu2 (by omega)]
  unfold gc
  omega
theorem gw_w {X Y : Nat → Int} {n : Nat} {a b : Int} (hy : Y n = Y 0) : gw X Y n a b = -gS (fun i => (1 - gu a (X i)) * gd Y i b) n := by
  have e : gS (fun i => (1 - gu a (X i)) * gd Y i b) n = gS (fun i => gd Y i b) n - gS (fun i => gu a (X i) * gd Y i b) n := by
    rw [← gS_sub]
    refine gS_c n (fun i _ => ?_)
    show (1 - gu a (X i)) * gd Y i b = gd Y i b - gu a (X i) * gd Y i b
    rw [Int.sub_mul, Int.one_mul]
  rw [e, gd_0 hy]
  unfold gw
  omega
theorem gm_4 {a b c d : Int} : (a * b) * (c * d) = (a * c) * (b * d) := by
  rw [Int.mul_assoc, Int.mul_assoc, ← Int.mul_assoc b c d, Int.mul_comm b c, Int.mul_assoc]
/-- the class's sum over pairs of lines -/
theorem g_sum {X Y X2 Y2 : Nat → Int} {n n2 : Nat} {m m2 : Int} {k k2 : Nat} (hy : Y n = Y 0) (hy2 : Y2 n2 = Y2 0) (bx : ∀ i, i ≤ n → m ≤ X i ∧ X i ≤ m + k) (bx2 : ∀ j, j ≤ n2 → m ≤ X2 j ∧ X2 j ≤ m + k) (b1 : ∀ i, i ≤ n → m2 ≤ Y i ∧ Y i ≤ m2 + k2) (b2 : ∀ j, j ≤ n2 → m2 ≤ Y2 j ∧ Y2 j ≤ m2 + k2) : gS (fun i => gS (fun j => max (X i) (X2 j) * gc (Y i) (Y (i + 1)) (Y2 j) (Y2 (j + 1))) n2) n = -gS (fun s => gS (fun t => gw X Y n (m + s) (m2 + t) * gw X2 Y2 n2 (m + s) (m2 + t)) k2) k := by
  have hC : ∀ i j, i < n → j < n2 → gS (fun t => gd Y i (m2 + t) * gd Y2 j (m2 + t)) k2 = gc (Y i) (Y (i + 1)) (Y2 j) (Y2 (j + 1)) := fun i j hi hj => gc_s (b1 i (by omega)) (b1 (i + 1) (by omega)) (b2 j (by omega)) (b2 (j + 1) (by omega))
  have h0 : ∀ i, i < n → gS (fun j => gc (Y i) (Y (i + 1)) (Y2 j) (Y2 (j + 1))) n2 = 0 := by
    intro i hi
    have e : gS (fun j => gc (Y i) (Y (i + 1)) (Y2 j) (Y2 (j + 1))) n2 = gS (fun j => gS (fun t => gd Y i (m2 + t) * gd Y2 j (m2 + t)) k2) n2 := gS_c n2 (fun j hj => (hC i j hi hj).symm)
    rw [e, gS_swap]
    refine gS_0 k2 (fun t _ => ?_)
    show gS (fun j => gd Y i (m2 + t) * gd Y2 j (m2 + t)) n2 = 0
    rw [gS_mul, gd_0 hy2, Int.mul_zero]
  have h1 : ∀ s t : Nat, gw X Y n (m + s) (m2 + t) * gw X2 Y2 n2 (m + s) (m2 + t) = gS (fun i => gS (fun j => ((1 - gu (m + s) (X i)) * (1 - gu (m + s) (X2 j))) * (gd Y i (m2 + t) * gd Y2 j (m2 + t))) n2) n := by
    intro s t
    rw [gw_w hy, gw_w hy2, Int.neg_mul_neg, gS_mm]
    refine gS_c n (fun i _ => gS_c n2 (fun j _ => ?_))
    exact gm_4
  have h2 : ∀ s : Nat, gS (fun t => gw X Y n (m + s) (m2 + t) * gw X2 Y2 n2 (m + s) (m2 + t)) k2 = gS (fun i => gS (fun j => ((1 - gu (m + s) (X i)) * (1 - gu (m + s) (X2 j))) * gc (Y i) (Y (i + 1)) (Y2 j) (Y2 (j + 1))) n2) n := by
    intro s
    have e : gS (fun t => gw X Y n (m + s) (m2 + t) * gw X2 Y2 n2 (m + s) (m2 + t)) k2 = gS (fun t : Nat => gS (fun i => gS (fun j => ((1 - gu (m + s) (X i)) * (1 - gu (m + s) (X2 j))) * (gd Y i (m2 + t) * gd Y2 j (m2 + t))) n2) n) k2 := gS_c k2 (fun t _ => h1 s t)
    rw [e, gS_swap]
    refine gS_c n (fun i hi => ?_)
    show gS (fun t : Nat => gS (fun j => ((1 - gu (m + s) (X i)) * (1 - gu (m + s) (X2 j))) * (gd Y i (m2 + t) * gd Y2 j (m2 + t))) n2) k2 = _
    rw [gS_swap]
    refine gS_c n2 (fun j hj => ?_)
    show gS (fun t : Nat => ((1 - gu (m + s) (X i)) * (1 - gu (m + s) (X2 j))) * (gd Y i (m2 + t) * gd Y2 j (m2 + t))) k2 = _
    rw [gS_mul, hC i j hi hj]
  have h3 : gS (fun s => gS (fun t => gw X Y n (m + s) (m2 + t) * gw X2 Y2 n2 (m + s) (m2 + t)) k2) k = gS (fun i => gS (fun j => (m + k - max (X i) (X2 j)) * gc (Y i) (Y (i + 1)) (Y2 j) (Y2 (j + 1))) n2) n := by
    have e : gS (fun s => gS (fun t => gw X Y n (m + s) (m2 + t) * gw X2 Y2 n2 (m + s) (m2 + t)) k2) k = gS (fun s : Nat => gS (fun i => gS (fun j => ((1 - gu (m + s) (X i)) * (1 - gu (m + s) (X2 j))) * gc (Y i) (Y (i + 1)) (Y2 j) (Y2 (j + 1))) n2) n) k := gS_c k (fun s _ => h2 s)
    rw [e, gS_swap]
    refine gS_c n (fun i hi => ?_)
    show gS (fun s : Nat => gS (fun j => ((1 - gu (m + s) (X i)) * (1 - gu (m + s) (X2 j))) * gc (Y i) (Y (i + 1)) (Y2 j) (Y2 (j + 1))) n2) k = _
    rw [gS_swap]
    refine gS_c n2 (fun j hj => ?_)
    show gS (fun s : Nat => ((1 - gu (m + s) (X i)) * (1 - gu (m + s) (X2 j))) * gc (Y i) (Y (i + 1)) (Y2 j) (Y2 (j + 1))) k = _
    have q1 := bx i (by omega)
    have q2 := bx2 j (by omega)
    rw [gS_mur, g_cnt q1.1 q2.1, show max 0 (m + (k : Int) - max (X i) (X2 j)) = m + k - max (X i) (X2 j) by omega]
  have h4 : gS (fun i => gS (fun j => (m + k - max (X i) (X2 j)) * gc (Y i) (Y (i + 1)) (Y2 j) (Y2 (j + 1))) n2) n = gS (fun i => -gS (fun j => max (X i) (X2 j) * gc (Y i) (Y (i + 1)) (Y2 j) (Y2 (j + 1))) n2) n := by
    refine gS_c n (fun i hi => ?_)
    show gS (fun j => (m + k - max (X i) (X2 j)) * gc (Y i) (Y (i + 1)) (Y2 j) (Y2 (j + 1))) n2 = -gS (fun j => max (X i) (X2 j) * gc (Y i) (Y (i + 1)) (Y2 j) (Y2 (j + 1))) n2
    have e : gS (fun j => (m + k - max (X i) (X2 j)) * gc (Y i) (Y (i + 1)) (Y2 j) (Y2 (j + 1))) n2 = gS (fun j => (m + k) * gc (Y i) (Y (i + 1)) (Y2 j) (Y2 (j + 1)) - max (X i) (X2 j) * gc (Y i) (Y (i + 1)) (Y2 j) (Y2 (j + 1))) n2 := gS_c n2 (fun j _ => Int.sub_mul _ _ _)
    rw [e, gS_sub, gS_mul, h0 i hi, Int.mul_zero]
    omega
  rw [h3, h4, gS_neg]
  omega
/-- what is within, by the winding number -/
theorem g_area {X Y : Nat → Int} {n : Nat} {m m2 : Int} {k k2 : Nat} (hy : Y n = Y 0) (bx : ∀ i, i ≤ n → m ≤ X i ∧ X i ≤ m + k) (b1 : ∀ i, i ≤ n → m2 ≤ Y i ∧ Y i ≤ m2 + k2) : gS (fun s => gS (fun t => gw X Y n (m + s) (m2 + t)) k2) k = gS (fun i => X i * (Y (i + 1) - Y i)) n := by
  have h2 : ∀ s : Nat, gS (fun t => gw X Y n (m + s) (m2 + t)) k2 = gS (fun i => gu (m + s) (X i) * (Y (i + 1) - Y i)) n := by
    intro s
    show gS (fun t : Nat => gS (fun i => gu (m + s) (X i) * gd Y i (m2 + t)) n) k2 = _
    rw [gS_swap]
    refine gS_c n (fun i hi => ?_)
    show gS (fun t : Nat => gu (m + s) (X i) * gd Y i (m2 + t)) k2 = gu (m + s) (X i) * (Y (i + 1) - Y i)
    have e : gS (fun t : Nat => gd Y i (m2 + t)) k2 = Y (i + 1) - Y i := by
      show gS (fun t : Nat => gu (m2 + t) (Y (i + 1)) - gu (m2 + t) (Y i)) k2 = _
      rw [gS_sub, g_cu2 (b1 (i + 1) (by omega)), g_cu2 (b1 i (by omega))]
      omega
    rw [gS_mul, e]
  have e : gS (fun s => gS (fun t => gw X Y n (m + s) (m2 + t)) k2) k = gS (fun s : Nat => gS (fun i => gu (m + s) (X i) * (Y (i + 1) - Y i)) n) k := gS_c k (fun s _ => h2 s)
  rw [e, gS_swap]
  have e2 : gS (fun i => gS (fun s : Nat => gu (m + s) (X i) * (Y (i + 1) - Y i)) k) n = gS (fun i => X i * (Y (i + 1) - Y i) - m * (Y (i + 1) - Y i)) n := by
    refine gS_c n (fun i hi => ?_)
    show gS (fun s : Nat => gu (m + s) (X i) * (Y (i + 1) - Y i)) k = X i * (Y (i + 1) - Y i) - m * (Y (i + 1) - Y i)
    rw [gS_mur, g_cu2 (bx i (by omega)), Int.sub_mul]
  rw [e2, gS_sub, gS_mul, gS_tel, hy, Int.sub_self, Int.mul_zero]
  omega
def gN (X Y : Nat → Int) (n : Nat) (X2 Y2 : Nat → Int) (n2 : Nat) (a b : Int) : Int := if gw X Y n a b % 2 = 1 ∧ gw X2 Y2 n2 a b % 2 = 1 then 1 else 0
theorem gN_r {X Y : Nat → Int} {n : Nat} {X2 Y2 : Nat → Int} {n2 : Nat} {a b : Int} : 0 ≤ gN X Y n X2 Y2 n2 a b ∧ gN X Y n X2 Y2 n2 a b ≤ 1 := by
  unfold gN
  split <;> omega
theorem gS_p {f : Nat → Int} {c : Int} : ∀ n : Nat, (∀ i, i < n → 0 ≤ f i ∧ f i ≤ c) → 0 ≤ gS f n ∧ gS f n ≤ c * n := by
  intro n
  induction n with
  | zero => intro _; show (0 : Int) ≤ 0 ∧ (0 : Int) ≤ c * ((0 : Nat) : Int); rw [show ((0 : Nat) : Int) = 0 from rfl, Int.mul_zero]; omega
  | succ n ih =>
    intro h
    have h1 := ih (fun i hi => h i (by omega))
    have h2 := h n (by omega)
    show 0 ≤ gS f n + f n ∧ gS f n + f n ≤ c * ((n + 1 : Nat) : Int)
    rw [show ((n + 1 : Nat) : Int) = (n : Int) + 1 by omega, Int.mul_add, Int.mul_one]
    omega
/-- both within: the class's answer -/
theorem g_both {X Y X2 Y2 : Nat → Int} {n n2 : Nat} {m m2 : Int} {k k2 : Nat} (h : gP X Y n) (h2 : gP X2 Y2 n2) {S : Int} (hS : S = -gS (fun s => gS (fun t => gw X Y n (m + s) (m2 + t) * gw X2 Y2 n2 (m + s) (m2 + t)) k2) k) : max S (-S) = gS (fun s => gS (fun t => gN X Y n X2 Y2 n2 (m + s) (m2 + t)) k2) k := by
  obtain ⟨c, c1, c2⟩ := gw_01 h
  obtain ⟨d, d1, d2⟩ := gw_01 h2
  have e : ∀ a b, gw X Y n a b * gw X2 Y2 n2 a b = (c * d) * gN X Y n X2 Y2 n2 a b := by
    intro a b
    unfold gN
    rcases c2 a b with p | p <;> rcases d2 a b with q | q
    · rw [p, q, if_neg (by omega)]; omega
    · rw [p, if_neg (by omega)]; omega
    · rw [q, if_neg (by omega)]; omega
    · rw [p, q, if_pos (by omega)]; omega
  have e2 : gS (fun s => gS (fun t => gw X Y n (m + s) (m2 + t) * gw X2 Y2 n2 (m + s) (m2 + t)) k2) k = (c * d) * gS (fun s => gS (fun t => gN X Y n X2 Y2 n2 (m + s) (m2 + t)) k2) k := by
    rw [← gS_mul]
    refine gS_c k (fun s _ => ?_)
    show gS (fun t : Nat => gw X Y n (m + s) (m2 + t) * gw X2 Y2 n2 (m + s) (m2 + t)) k2 = (c * d) * gS (fun t : Nat => gN X Y n X2 Y2 n2 (m + s) (m2 + t)) k2
    rw [← gS_mul]
    exact gS_c k2 (fun t _ => e _ _)
  have r := gS_p (f := fun s => gS (fun t => gN X Y n X2 Y2 n2 (m + s) (m2 + t)) k2) (c := 1 * k2) k (fun s _ => gS_p k2 (fun t _ => gN_r))
  rw [hS, e2]
  generalize gS (fun s => gS (fun t => gN X Y n X2 Y2 n2 (m + s) (m2 + t)) k2) k = T at r ⊢
  rcases c1 with p | p <;> rcases d1 with q | q <;> subst p <;> subst q <;> omega
theorem g_one {X Y : Nat → Int} {n : Nat} {m m2 : Int} {k k2 : Nat} (h : gP X Y n) {S A : Int} (hS : S = -gS (fun s => gS (fun t => gw X Y n (m + s) (m2 + t) * gw X Y n (m + s) (m2 + t)) k2) k) (hA : A = gS (fun s => gS (fun t => gw X Y n (m + s) (m2 + t)) k2) k) : max S (-S) = max A (-A) := by
  obtain ⟨c, c1, c2⟩ := gw_01 h
  have e : ∀ a b, gw X Y n a b * gw X Y n a b = c * gw X Y n a b := by
    intro a b
    rcases c2 a b with p | p
    · rw [p]; omega
    · rw [p]
  have e2 : gS (fun s => gS (fun t => gw X Y n (m + s) (m2 + t) * gw X Y n (m + s) (m2 + t)) k2) k = c * gS (fun s => gS (fun t => gw X Y n (m + s) (m2 + t)) k2) k := by
    rw [← gS_mul]
    refine gS_c k (fun s _ => ?_)
    show gS (fun t : Nat => gw X Y n (m + s) (m2 + t) * gw X Y n (m + s) (m2 + t)) k2 = c * gS (fun t : Nat => gw X Y n (m + s) (m2 + t)) k2
    rw [← gS_mul]
    exact gS_c k2 (fun t _ => e _ _)
  rw [e2, ← hA] at hS
  rcases c1 with p | p <;> rw [p] at hS <;> omega
