/-! sums -/
def gS (f : Nat → Int) : Nat → Int
  | 0 => 0
  | n + 1 => gS f n + f n
theorem gS_c {f g : Nat → Int} : ∀ n : Nat, (∀ i, i < n → f i = g i) → gS f n = gS g n := by
  intro n
  induction n with
  | zero => intro _; rfl
  | succ n ih =>
    intro h
    show gS f n + f n = gS g n + g n
    rw [ih (fun i hi => h i (by omega)), h n (by omega)]
theorem gS_0 {f : Nat → Int} : ∀ n : Nat, (∀ i, i < n → f i = 0) → gS f n = 0 := by
  intro n
  induction n with
  | zero => intro _; rfl
  | succ n ih =>
    intro h
    show gS f n + f n = 0
    rw [ih (fun i hi => h i (by omega)), h n (by omega)]
    rfl
theorem gS_add {f g : Nat → Int} : ∀ n : Nat, gS (fun i => f i + g i) n = gS f n + gS g n := by
  intro n
  induction n with
  | zero => rfl
  | succ n ih =>
    show gS (fun i => f i + g i) n + (f n + g n) = (gS f n + f n) + (gS g n + g n)
    rw [ih]
    omega
theorem gS_sub {f g : Nat → Int} : ∀ n : Nat, gS (fun i => f i - g i) n = gS f n - gS g n := by
  intro n
  induction n with
  | zero => rfl
  | succ n ih =>
    show gS (fun i => f i - g i) n + (f n - g n) = (gS f n + f n) - (gS g n + g n)
    rw [ih]
    omega
theorem gS_neg {f : Nat → Int} : ∀ n : Nat, gS (fun i => -f i) n = -gS f n := by
  intro n
  induction n with
  | zero => rfl
  | succ n ih =>
    show gS (fun i => -f i) n + -f n = -(gS f n + f n)
    rw [ih]
    omega
theorem gS_mul {c : Int} {f : Nat → Int} : ∀ n : Nat, gS (fun i => c * f i) n = c * gS f n := by
  intro n
  induction n with
  | zero => show (0 : Int) = c * 0; rw [Int.mul_zero]
  | succ n ih =>
    show gS (fun i => c * f i) n + c * f n = c * (gS f n + f n)
    rw [ih, Int.mul_add]
theorem gS_mur {c : Int} {f : Nat → Int} : ∀ n : Nat, gS (fun i => f i * c) n = gS f n * c := by
  intro n
  induction n with
  | zero => show (0 : Int) = 0 * c; rw [Int.zero_mul]
  | succ n ih =>
    show gS (fun i => f i * c) n + f n * c = (gS f n + f n) * c
    rw [ih, Int.add_mul]
theorem gS_1 {f : Nat → Int} {k : Nat} : ∀ n : Nat, k < n → (∀ i, i < n → i ≠ k → f i = 0) → gS f n = f k := by
  intro n
  induction n with
  | zero => intro h; exact absurd h (by omega)
  | succ n ih =>
    intro h h2
    show gS f n + f n = f k
    by_cases e : n = k
    · rw [e, gS_0 k (fun i hi => h2 i (by omega) (by omega))]; omega
    · rw [ih (by omega) (fun i hi => h2 i (by omega)), h2 n (by omega) e]; omega
theorem gS_swap {f : Nat → Nat → Int} {m : Nat} : ∀ n : Nat, gS (fun i => gS (fun j => f i j) m) n = gS (fun j => gS (fun i => f i j) n) m := by
  intro n
  induction n with
  | zero => show (0 : Int) = gS (fun j => 0) m; rw [gS_0 m (fun _ _ => rfl)]
  | succ n ih =>
    show gS (fun i => gS (fun j => f i j) m) n + gS (fun j => f n j) m = gS (fun j => gS (fun i => f i j) n + f n j) m
    rw [ih, gS_add]
theorem gS_tel {T : Nat → Int} : ∀ n : Nat, gS (fun i => T (i + 1) - T i) n = T n - T 0 := by
  intro n
  induction n with
  | zero => show (0 : Int) = T 0 - T 0; omega
  | succ n ih =>
    show gS (fun i => T (i + 1) - T i) n + (T (n + 1) - T n) = _
    rw [ih]
    omega
theorem gS_ex {f : Nat → Int} : ∀ n : Nat, gS f n ≠ 0 → ∃ i, i < n ∧ f i ≠ 0 := by
  intro n h
  by_cases e : ∃ i, i < n ∧ f i ≠ 0
  · exact e
  · exfalso
    refine h (gS_0 n (fun i hi => ?_))
    by_cases q : f i = 0
    · exact q
    · exact absurd ⟨i, hi, q⟩ e
theorem gS_mm {f g : Nat → Int} {m : Nat} : ∀ n : Nat, gS f n * gS g m = gS (fun i => gS (fun j => f i * g j) m) n := by
  intro n
  induction n with
  | zero => show (0 : Int) * gS g m = 0; rw [Int.zero_mul]
  | succ n ih =>
    show (gS f n + f n) * gS g m = gS (fun i => gS (fun j => f i * g j) m) n + gS (fun j => f n * g j) m
    rw [Int.add_mul, ih, gS_mul]
/-! cells and sides -/
def gu (b t : Int) : Int := if b < t then 1 else 0
theorem gu_1 {b t : Int} (h : b < t) : gu b t = 1 := if_pos h
theorem gu_0 {b t : Int} (h : t ≤ b) : gu b t = 0 := if_neg (by omega)
def gd (Y : Nat → Int) (i : Nat) (b : Int) : Int := gu b (Y (i + 1)) - gu b (Y i)
theorem gd_c {Y : Nat → Int} {i : Nat} {b : Int} : (Y i ≤ b ∧ b < Y (i + 1) ∧ gd Y i b = 1) ∨ (Y (i + 1) ≤ b ∧ b < Y i ∧ gd Y i b = -1) ∨ (gd Y i b = 0 ∧ ¬ (Y i ≤ b ∧ b < Y (i + 1)) ∧ ¬ (Y (i + 1) ≤ b ∧ b < Y i)) := by
  unfold gd gu
  by_cases h1 : b < Y (i + 1)
  · by_cases h2 : b < Y i
    · rw [if_pos h1, if_pos h2]; omega
    · rw [if_pos h1, if_neg h2]; omega
  · by_cases h2 : b < Y i
    · rw [if_neg h1, if_pos h2]; omega
    · rw [if_neg h1, if_neg h2]; omega
def gw (X Y : Nat → Int) (n : Nat) (a b : Int) : Int := gS (fun i => gu a (X i) * gd Y i b) n
theorem gu_d {a x : Int} : gu (a - 1) x - gu a x = if x = a then 1 else 0 := by
  unfold gu
  by_cases h : x = a
  · rw [if_pos (by omega), if_neg (by omega), if_pos h]; rfl
  · by_cases h2 : a < x
    · rw [if_pos (by omega), if_pos h2, if_neg h]; rfl
    · rw [if_neg (by omega), if_neg h2, if_neg h]; rfl
theorem gw_row {X Y : Nat → Int} {n : Nat} {a b : Int} : gw X Y n (a - 1) b - gw X Y n a b = gS (fun i => (if X i = a then (1 : Int) else 0) * gd Y i b) n := by
  unfold gw
  rw [← gS_sub]
  refine gS_c n (fun i _ => ?_)
  show gu (a - 1) (X i) * gd Y i b - gu a (X i) * gd Y i b = (if X i = a then (1 : Int) else 0) * gd Y i b
  rw [← Int.sub_mul, gu_d]
theorem gd_0 {Y : Nat → Int} {n : Nat} {b : Int} (hy : Y n = Y 0) : gS (fun i => gd Y i b) n = 0 := by
  have h := gS_tel (T := fun i => gu b (Y i)) n
  have e : gS (fun i => gd Y i b) n = gu b (Y n) - gu b (Y 0) := h
  rw [e, hy]
  omega
def gI (X Y : Nat → Int) (i : Nat) (x y : Int) : Prop := ((X i ≤ x ∧ x ≤ X (i + 1)) ∨ (X (i + 1) ≤ x ∧ x ≤ X i)) ∧ ((Y i ≤ y ∧ y ≤ Y (i + 1)) ∨ (Y (i + 1) ≤ y ∧ y ≤ Y i))
def gA (n i k : Nat) : Prop := k = i + 1 ∨ i = k + 1 ∨ (i = 0 ∧ k + 1 = n) ∨ (k = 0 ∧ i + 1 = n)
/-- a closed row of lines along the axes that meets itself nowhere -/
def gP (X Y : Nat → Int) (n : Nat) : Prop := 4 ≤ n ∧ (X n = X 0 ∧ Y n = Y 0) ∧ (∀ i, i < n → (X (i + 1) = X i ∧ Y (i + 1) ≠ Y i) ∨ (Y (i + 1) = Y i ∧ X (i + 1) ≠ X i)) ∧ (∀ i k, i < n → k < n → gA n i k → (X (i + 1) = X i ↔ Y (k + 1) = Y k)) ∧ ∀ i k, i < n → k < n → i ≠ k → ¬ gA n i k → ∀ x y, gI X Y i x y → gI X Y k x y → False
theorem gP_s {X Y : Nat → Int} {n : Nat} (h : gP X Y n) : gP Y X n := by
  obtain ⟨h4, ⟨hx, hy⟩, hs, ha, hn⟩ := h
  refine ⟨h4, ⟨hy, hx⟩, fun i hi => (hs i hi).symm, fun i k hi hk a => ?_, fun i k hi hk e a x y p q => hn i k hi hk e a y x ⟨p.2, p.1⟩ ⟨q.2, q.1⟩⟩
  refine (ha k i hk hi ?_).symm
  unfold gA at a ⊢
  omega
theorem gw_s {X Y : Nat → Int} {n : Nat} {a b : Int} (h : gP X Y n) : gw X Y n a b = -gw Y X n b a := by
  obtain ⟨h4, ⟨hx, hy⟩, hs, ha, hn⟩ := h
  have e : gS (fun i => gu a (X i) * gd Y i b + gu b (Y i) * gd X i a) n = gu a (X n) * gu b (Y n) - gu a (X 0) * gu b (Y 0) := by
    have t := gS_tel (T := fun i => gu a (X i) * gu b (Y i)) n
    refine Eq.trans (gS_c n (fun i hi => ?_)) t
    show gu a (X i) * gd Y i b + gu b (Y i) * gd X i a = gu a (X (i + 1)) * gu b (Y (i + 1)) - gu a (X i) * gu b (Y i)
    unfold gd
    rcases hs i hi with q | q
    · rw [q.1, Int.mul_sub, Int.sub_self, Int.mul_zero]; omega
    · rw [q.1, Int.sub_self, Int.mul_zero, Int.mul_sub, Int.mul_comm (gu b (Y i)) (gu a (X (i + 1))), Int.mul_comm (gu b (Y i)) (gu a (X i))]; omega
  rw [gS_add, hx, hy] at e
  unfold gw
  omega
/-- a line parts two columns -/
theorem gj_v {X Y : Nat → Int} {n i : Nat} {t : Int} (h : gP X Y n) (hi : i < n) (ht : (Y i ≤ t ∧ t < Y (i + 1)) ∨ (Y (i + 1) ≤ t ∧ t < Y i)) : gw X Y n (X i - 1) t - gw X Y n (X i) t = gd Y i t := by
  obtain ⟨h4, ⟨hx, hy⟩, hs, ha, hn⟩ := h
  rw [gw_row, gS_1 (k := i) n hi ?_]
  · show (if X i = X i then (1 : Int) else 0) * gd Y i t = gd Y i t
    rw [if_pos rfl, Int.one_mul]
  · intro k hk hki
    show (if X k = X i then (1 : Int) else 0) * gd Y k t = 0
    by_cases e : X k = X i
    · rw [if_pos e, Int.one_mul]
      have vi : X (i + 1) = X i := by
        rcases hs i hi with q | q
        · exact q.1
        · omega
      rcases gd_c (Y := Y) (i := k) (b := t) with g | g | g
      · exfalso
        have vk : X (k + 1) = X k := by
          rcases hs k hk with q | q
          · exact q.1
          · omega
        by_cases a : gA n i k
        · have := (ha i k hi hk a).mp vi
          omega
        · exact hn i k hi hk (fun z => hki z.symm) a (X i) t ⟨Or.inl ⟨Int.le_refl _, by omega⟩, by omega⟩ ⟨Or.inl ⟨by omega, by omega⟩, by omega⟩
      · exfalso
        have vk : X (k + 1) = X k := by
          rcases hs k hk with q | q
          · exact q.1
          · omega
        by_cases a : gA n i k
        · have := (ha i k hi hk a).mp vi
          omega
        · exact hn i k hi hk (fun z => hki z.symm) a (X i) t ⟨Or.inl ⟨Int.le_refl _, by omega⟩, by omega⟩ ⟨Or.inl ⟨by omega, by omega⟩, by omega⟩
      · exact g.1
    · rw [if_neg e, Int.zero_mul]
theorem gj_h {X Y : Nat → Int} {n i : Nat} {t : Int} (h : gP X Y n) (hi : i < n) (ht : (X i ≤ t ∧ t < X (i + 1)) ∨ (X (i + 1) ≤ t ∧ t < X i)) : gw X Y n t (Y i) - gw X Y n t (Y i - 1) = gd X i t := by
  have := gj_v (gP_s h) hi ht
  rw [gw_s h, gw_s h]
  omega
/-- along a line nothing changes -/
theorem gl_v {X Y : Nat → Int} {n i : Nat} {t a : Int} (h : gP X Y n) (hi : i < n) (ht : (Y i < t ∧ t < Y (i + 1)) ∨ (Y (i + 1) < t ∧ t < Y i)) (ea : a = X i ∨ a = X i - 1) : gw X Y n a (t - 1) = gw X Y n a t := by
  have r := gw_row (X := Y) (Y := X) (n := n) (a := t) (b := a)
  rw [gw_s h, gw_s h]
  obtain ⟨h4, ⟨hx, hy⟩, hs, ha, hn⟩ := h
  have vi : X (i + 1) = X i := by
    rcases hs i hi with q | q
    · exact q.1
    · omega
  have z : gS (fun i => (if Y i = t then (1 : Int) else 0) * gd X i a) n = 0 := by
    refine gS_0 n (fun k hk => ?_)
    show (if Y k = t then (1 : Int) else 0) * gd X k a = 0
    by_cases e : Y k = t
    · rw [if_pos e, Int.one_mul]
      have no : ((X k ≤ a ∧ a < X (k + 1)) ∨ (X (k + 1) ≤ a ∧ a < X k)) → False := by
        intro c
        have vk : Y (k + 1) = Y k := by
          rcases hs k hk with q | q
          · omega
          · exact q.1
        have ne : i ≠ k := by
          intro z
          rw [← z] at vk
          omega
        by_cases ad : gA n i k
        · rcases ad with d | d | d | d
          · rw [d] at e; omega
          · rw [d] at ht; omega
          · rw [d.2] at vk; rw [d.1] at ht; omega
          · rw [d.2] at ht; rw [d.1] at e; omega
        · exact hn i k hi hk ne ad (X i) t ⟨Or.inl ⟨Int.le_refl _, by omega⟩, by omega⟩ ⟨by omega, Or.inl ⟨by omega, by omega⟩⟩
      rcases gd_c (Y := X) (i := k) (b := a) with g | g | g
      · exact (no (Or.inl ⟨g.1, g.2.1⟩)).elim
      · exact (no (Or.inr ⟨g.1, g.2.1⟩)).elim
      · exact g.1
    · rw [if_neg e, Int.zero_mul]
  omega
theorem gl_k {X Y : Nat → Int} {n i : Nat} {lo up a : Int} (h : gP X Y n) (hi : i < n) (hr : (Y i = lo ∧ Y (i + 1) = up) ∨ (Y (i + 1) = lo ∧ Y i = up)) (ea : a = X i ∨ a = X i - 1) : ∀ k : Nat, lo + k < up → gw X Y n a (lo + k) = gw X Y n a lo := by
  intro k
  induction k with
  | zero => intro _; rw [show lo + ((0 : Nat) : Int) = lo by omega]
  | succ k ih =>
    intro h2
    rw [← ih (by omega)]
    have q := gl_v h hi (t := lo + k + 1) (a := a) (by omega) ea
    rw [show lo + (k : Int) + 1 - 1 = lo + k by omega] at q
    rw [show lo + ((k + 1 : Nat) : Int) = lo + k + 1 by omega]
    exact q.symm
theorem gl_t {X Y : Nat → Int} {n i : Nat} {lo up a t : Int} (h : gP X Y n) (hi : i < n) (hr : (Y i = lo ∧ Y (i + 1) = up) ∨ (Y (i + 1) = lo ∧ Y i = up)) (ea : a = X i ∨ a = X i - 1) (h1 : lo ≤ t) (h2 : t < up) : gw X Y n a t = gw X Y n a lo := by
  have q := gl_k h hi hr ea (t - lo).toNat (by omega)
  rw [show lo + (((t - lo).toNat : Nat) : Int) = t by omega] at q
  exact q
/-- v stands left of line i, v - 1 right of it -/
def gG (X Y : Nat → Int) (n i : Nat) (v : Int) : Prop := (∀ t, Y i ≤ t → t < Y (i + 1) → gw X Y n (X i - 1) t = v ∧ gw X Y n (X i) t = v - 1) ∧ (∀ t, Y (i + 1) ≤ t → t < Y i → gw X Y n (X i) t = v ∧ gw X Y n (X i - 1) t = v - 1) ∧ (∀ t, X i ≤ t → t < X (i + 1) → gw X Y n t (Y i) = v ∧ gw X Y n t (Y i - 1) = v - 1) ∧ ∀ t, X (i + 1) ≤ t → t < X i → gw X Y n t (Y i - 1) = v ∧ gw X Y n t (Y i) = v - 1
theorem gG_ex {X Y : Nat → Int} {n i : Nat} (h : gP X Y n) (hi : i < n) : ∃ v, gG X Y n i v := by
  rcases h.2.2.1 i hi with q | q
  · by_cases c : Y i < Y (i + 1)
    · refine ⟨gw X Y n (X i - 1) (Y i), fun t h1 h2 => ?_, fun t h1 h2 => absurd h1 (by omega), fun t h1 h2 => absurd h1 (by omega), fun t h1 h2 => absurd h1 (by omega)⟩
      have e1 := gl_t h hi (a := X i - 1) (lo := Y i) (up := Y (i + 1)) (t := t) (Or.inl ⟨rfl, rfl⟩) (Or.inr rfl) h1 h2
      have e2 := gj_v h hi (t := t) (Or.inl ⟨h1, h2⟩)
      have e3 := gd_c (Y := Y) (i := i) (b := t)
      omega
    · refine ⟨gw X Y n (X i) (Y (i + 1)), fun t h1 h2 => absurd h1 (by omega), fun t h1 h2 => ?_, fun t h1 h2 => absurd h1 (by omega), fun t h1 h2 => absurd h1 (by omega)⟩
      have e1 := gl_t h hi (a := X i) (lo := Y (i + 1)) (up := Y i) (t := t) (Or.inr ⟨rfl, rfl⟩) (Or.inl rfl) h1 h2
      have e2 := gj_v h hi (t := t) (Or.inr ⟨h1, h2⟩)
      have e3 := gd_c (Y := Y) (i := i) (b := t)
      omega
  · by_cases c : X i < X (i + 1)
    · refine ⟨gw X Y n (X i) (Y i), fun t h1 h2 => absurd h1 (by omega), fun t h1 h2 => absurd h1 (by omega), fun t h1 h2 => ?_, fun t h1 h2 => absurd h1 (by omega)⟩
      have e1 := gl_t (gP_s h) hi (a := Y i) (lo := X i) (up := X (i + 1)) (t := t) (Or.inl ⟨rfl, rfl⟩) (Or.inl rfl) h1 h2
      have e2 := gj_h h hi (t := t) (Or.inl ⟨h1, h2⟩)
      have e3 := gd_c (Y := X) (i := i) (b := t)
      have e4 := gw_s h (a := t) (b := Y i)
      have e5 := gw_s h (a := X i) (b := Y i)
      omega
    · refine ⟨gw X Y n (X (i + 1)) (Y i - 1), fun t h1 h2 => absurd h1 (by omega), fun t h1 h2 => absurd h1 (by omega), fun t h1 h2 => absurd h1 (by omega), fun t h1 h2 => ?_⟩
      have e1 := gl_t (gP_s h) hi (a := Y i - 1) (lo := X (i + 1)) (up := X i) (t := t) (Or.inr ⟨rfl, rfl⟩) (Or.inr rfl) h1 h2
      have e2 := gj_h h hi (t := t) (Or.inr ⟨h1, h2⟩)
      have e3 := gd_c (Y := X) (i := i) (b := t)
      have e4 := gw_s h (a := t) (b := Y i - 1)
      have e5 := gw_s h (a := X (i + 1)) (b := Y i - 1)
      omega
theorem gG_n {X Y : Nat → Int} {n i : Nat} {v v2 : Int} (h : gP X Y n) (hi : i + 1 < n) (g : gG X Y n i v) (g2 : gG X Y n (i + 1) v2) : v = v2 := by
  obtain ⟨h4, ⟨hx, hy⟩, hs, ha, hn⟩ := h
  have al := ha i (i + 1) (by omega) hi (Or.inl rfl)
  obtain ⟨a1, a2, a3, a4⟩ := g
  obtain ⟨b1, b2, b3, b4⟩ := g2
  rcases hs i (by omega) with q | q
  · have e : Y (i + 1 + 1) = Y (i + 1) := al.mp q.1
    have q2 : X (i + 1 + 1) ≠ X (i + 1) := by
      rcases hs (i + 1) hi with z | z
      · exact absurd e z.2
      · exact z.2
    rw [q.1] at b3 b4 q2
    by_cases c : Y i < Y (i + 1)
    · have p := a1 (Y (i + 1) - 1) (by omega) (by omega)
      by_cases d : X i < X (i + 1 + 1)
      · have r := b3 (X i) (by omega) (by omega)
        omega
      · have r := b4 (X i - 1) (by omega) (by omega)
        omega
    · have p := a2 (Y (i + 1)) (by omega) (by omega)
      by_cases d : X i < X (i + 1 + 1)
      · have r := b3 (X i) (by omega) (by omega)
        omega
      · have r := b4 (X i - 1) (by omega) (by omega)
        omega
  · have nv : ¬ X (i + 1) = X i := q.2
    have ny : ¬ Y (i + 1 + 1) = Y (i + 1) := fun z => nv (al.mpr z)
    have e : X (i + 1 + 1) = X (i + 1) := by
      rcases hs (i + 1) hi with z | z
      · exact z.1
      · exact absurd z.1 ny
    rw [q.1] at b1 b2 ny
    by_cases c : X i < X (i + 1)
    · have p := a3 (X (i + 1) - 1) (by omega) (by omega)
      by_cases d : Y i < Y (i + 1 + 1)
      · have r := b1 (Y i) (by omega) (by omega)
        omega
      · have r := b2 (Y i - 1) (by omega) (by omega)
        omega
    · have p := a4 (X (i + 1)) (by omega) (by omega)
      by_cases d : Y i < Y (i + 1 + 1)
      · have r := b1 (Y i) (by omega) (by omega)
        omega
      · have r := b2 (Y i - 1) (by omega) (by omega)
        omega
theorem gG_all {X Y : Nat → Int} {n : Nat} (h : gP X Y n) : ∃ v, ∀ i, i < n → gG X Y n i v := by
  have h4 := h.1
  obtain ⟨v, hv⟩ := gG_ex h (i := 0) (by omega)
  refine ⟨v, fun i => ?_⟩
  induction i with
  | zero => intro _; exact hv
  | succ i ih =>
    intro hi
    obtain ⟨v2, h2⟩ := gG_ex h hi
    rw [gG_n h hi (ih (by omega)) h2]
    exact h2
theorem g_max (f : Nat → Int) : ∀ n : Nat, ∃ k, k < n + 1 ∧ ∀ j, j < n + 1 → f j ≤ f k := by
  intro n
  induction n with
  | zero => exact ⟨0, by omega, fun j hj => by rw [show j = 0 by omega]; exact Int.le_refl _⟩
  | succ n ih =>
    obtain ⟨k, h1, h2⟩ := ih
    by_cases c : f k ≤ f (n + 1)
    · refine ⟨n + 1, by omega, fun j hj => ?_⟩
      by_cases e : j = n + 1
      · rw [e]; exact Int.le_refl _
      · exact Int.le_trans (h2 j (by omega)) c
    · refine ⟨k, by omega, fun j hj => ?_⟩
      by_cases e : j = n + 1
      · rw [e]; omega
      · exact h2 j (by omega)
theorem gw_e {X Y : Nat → Int} {n : Nat} {a b : Int} (h : ∀ j, j < n → X j ≤ a) : gw X Y n a b = 0 := gS_0 n (fun i hi => by show gu a (X i) * gd Y i b = 0; rw [gu_0 (h i hi), Int.zero_mul])
/-- the winding number is 0 or one number s, 1 or -1 -/
theorem gw_01 {X Y : Nat → Int} {n : Nat} (h : gP X Y n) : ∃ s : Int, (s = 1 ∨ s = -1) ∧ ∀ a b, gw X Y n a b = 0 ∨ gw X Y n a b = s := by
  obtain ⟨v, hv⟩ := gG_all h
  have h4 := h.1
  obtain ⟨k, k1, k2⟩ := g_max X (n - 1)
  rw [show n - 1 + 1 = n by omega] at k1 k2
  have hz : v = 1 ∨ v = 0 := by
    have fin : ∀ i, i < n → X i = X k → X (i + 1) = X i → v = 1 ∨ v = 0 := by
      intro i hi e vi
      have z : ∀ t, gw X Y n (X i) t = 0 := fun t => gw_e (fun j hj => by rw [e]; exact k2 j hj)
      obtain ⟨a1, a2, _, _⟩ := hv i hi
      rcases h.2.2.1 i hi with q | q
      · by_cases c : Y i < Y (i + 1)
        · have := (a1 (Y i) (by omega) c).2
          rw [z] at this
          omega
        · have := (a2 (Y (i + 1)) (by omega) (by omega)).1
          rw [z] at this
          omega
      · omega
    by_cases c : X (k + 1) = X k
    · exact fin k k1 rfl c
    · have hk : Y (k + 1) = Y k := by
        rcases h.2.2.1 k k1 with q | q
        · exact absurd q.1 c
        · exact q.1
      by_cases k0 : k = 0
      · have vi := (h.2.2.2.1 (n - 1) k (by omega) k1 (Or.inr (Or.inr (Or.inr ⟨k0, by omega⟩)))).mpr hk
        refine fin (n - 1) (by omega) ?_ vi
        rw [← vi, show n - 1 + 1 = n by omega, h.2.1.1, k0]
      · have vi := (h.2.2.2.1 (k - 1) k (by omega) k1 (Or.inl (by omega))).mpr hk
        refine fin (k - 1) (by omega) ?_ vi
        rw [← vi, show k - 1 + 1 = k by omega]
  have all : ∀ b, ∀ m : Nat, ∀ a, X k - m ≤ a → gw X Y n a b = v ∨ gw X Y n a b = v - 1 := by
    intro b m
    induction m with
    | zero =>
      intro a ha
      rw [gw_e (fun j hj => by have := k2 j hj; omega)]
      omega
    | succ m ih =>
      intro a ha
      by_cases c : X k - m ≤ a
      · exact ih a c
      · have r := gw_row (X := X) (Y := Y) (n := n) (a := a + 1) (b := b)
        rw [show a + 1 - 1 = a by omega] at r
        by_cases z : gS (fun i => (if X i = a + 1 then (1 : Int) else 0) * gd Y i b) n = 0
        · have := ih (a + 1) (by omega)
          omega
        · obtain ⟨j, j1, j2⟩ := gS_ex n z
          have j3 : (if X j = a + 1 then (1 : Int) else 0) * gd Y j b ≠ 0 := j2
          have xj : X j = a + 1 := by
            by_cases e : X j = a + 1
            · exact e
            · rw [if_neg e, Int.zero_mul] at j3; exact absurd rfl j3
          rw [if_pos xj, Int.one_mul] at j3
          obtain ⟨a1, a2, _, _⟩ := hv j j1
          rw [xj, show a + 1 - 1 = a by omega] at a1 a2
          rcases gd_c (Y := Y) (i := j) (b := b) with g | g | g
          · exact Or.inl (a1 b g.1 g.2.1).1
          · exact Or.inr (a2 b g.1 g.2.1).2
          · exact absurd g.1 j3
  have al : ∀ a b, gw X Y n a b = v ∨ gw X Y n a b = v - 1 := fun a b => all b (X k - a).toNat a (by omega)
  rcases hz with e | e
  · exact ⟨1, Or.inl rfl, fun a b => by have := al a b; omega⟩
  · exact ⟨-1, Or.inr rfl, fun a b => by have := al a b; omega⟩
