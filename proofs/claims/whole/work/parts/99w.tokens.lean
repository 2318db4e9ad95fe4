/-! TOKENS: cut from a row of bytes c that has none (-1) from n on -/
def z_run (f : Int → Bool) : Nat → Int → Int
  | 0, p => p
  | k + 1, p => if f p = true then z_run f k (p + 1) else p
theorem z_run_p {f : Int → Bool} {n : Int} (hf : ∀ q, n ≤ q → f q = false) : ∀ (k : Nat) (p : Int), n - p ≤ k → p ≤ z_run f k p ∧ (∀ j, p ≤ j → j < z_run f k p → f j = true) ∧ f (z_run f k p) = false := by
  intro k
  induction k with
  | zero => intro p h; exact ⟨Int.le_refl _, fun j j1 j2 => by have : j < p := j2; omega, hf p (by omega)⟩
  | succ k ih =>
    intro p h
    by_cases q : f p = true
    · have e : z_run f (k + 1) p = z_run f k (p + 1) := if_pos q
      obtain ⟨i1, i2, i3⟩ := ih (p + 1) (by omega)
      rw [e]
      refine ⟨by omega, fun j j1 j2 => ?_, i3⟩
      by_cases ej : j = p
      · rw [ej]; exact q
      · exact i2 j (by omega) j2
    · have e : z_run f (k + 1) p = p := if_neg q
      rw [e]
      exact ⟨Int.le_refl _, fun j j1 j2 => by omega, by revert q; cases f p <;> simp⟩
theorem z_run_u {f : Int → Bool} {p q r : Int} (h1 : p ≤ q ∧ (∀ j, p ≤ j → j < q → f j = true) ∧ f q = false) (h2 : p ≤ r ∧ (∀ j, p ≤ j → j < r → f j = true) ∧ f r = false) : q = r := by
  by_cases a : q < r
  · have := h2.2.1 q h1.1 a
    rw [h1.2.2] at this
    exact absurd this (by decide)
  · by_cases b : r < q
    · have := h1.2.1 r h2.1 b
      rw [h2.2.2] at this
      exact absurd this (by decide)
    · omega
abbrev z_bl (c : Int → Int) (j : Int) : Bool := decide (c j = 32 ∨ c j = 10)
abbrev z_sm (c : Int → Int) (j : Int) : Bool := decide (97 ≤ c j ∧ c j ≤ 122)
abbrev z_dg (c : Int → Int) (j : Int) : Bool := decide (48 ≤ c j ∧ c j ≤ 57)
/-- bytes -/
def z_B (c : Int → Int) (n : Int) : Prop := (0 ≤ n ∧ n ≤ 1000) ∧ (∀ p, n ≤ p → c p = -1) ∧ ∀ p, 0 ≤ p → p < n → 0 ≤ c p ∧ c p ≤ 255
def z_wd (c : Int → Int) (p : Int) : Nat → Int
  | 0 => 0
  | k + 1 => 32 * z_wd c p k + (c (p + k) - 96)
def z_nb (c : Int → Int) (p : Int) : Nat → Int
  | 0 => 0
  | k + 1 => 10 * z_nb c p k + (c (p + k) - 48)
/-- place, end, kind (as the class has it) and value of the TOKEN found from p on -/
def t_q (c : Int → Int) (p : Int) : Int := z_run (z_bl c) 1001 p
def t_e (c : Int → Int) (p : Int) : Int := if c (t_q c p) = -1 then t_q c p else if 97 ≤ c (t_q c p) ∧ c (t_q c p) ≤ 122 then z_run (z_sm c) 1001 (t_q c p) else if 48 ≤ c (t_q c p) ∧ c (t_q c p) ≤ 57 then z_run (z_dg c) 1001 (t_q c p) else t_q c p + 1
abbrev z_sg (x : Int) : Prop := x = 59 ∨ x = 61 ∨ x = 40 ∨ x = 41 ∨ x = 43
def t_k (c : Int → Int) (p : Int) : Int := if c (t_q c p) = -1 then 0 else if 97 ≤ c (t_q c p) ∧ c (t_q c p) ≤ 122 then (if t_e c p - t_q c p ≤ 12 then 1 else 4) else if 48 ≤ c (t_q c p) ∧ c (t_q c p) ≤ 57 then (if t_e c p - t_q c p ≤ 4 then 2 else 4) else if z_sg (c (t_q c p)) then 3 else 4
def t_v (c : Int → Int) (p : Int) : Int := if c (t_q c p) = -1 then 0 else if 97 ≤ c (t_q c p) ∧ c (t_q c p) ≤ 122 then z_wd c (t_q c p) (t_e c p - t_q c p).toNat else if 48 ≤ c (t_q c p) ∧ c (t_q c p) ≤ 57 then z_nb c (t_q c p) (t_e c p - t_q c p).toNat else c (t_q c p)
def t_at (c : Int → Int) : Nat → Int
  | 0 => 0
  | i + 1 => t_e c (t_at c i)
theorem z_B_n {c : Int → Int} {n p : Int} (h : z_B c n) (hp : 0 ≤ p) : c p = -1 ↔ n ≤ p := by
  refine ⟨fun z => ?_, fun z => h.2.1 p z⟩
  by_cases q : n ≤ p
  · exact q
  · have := h.2.2 p hp (by omega)
    omega
theorem z_bl_n {c : Int → Int} {n : Int} (h : z_B c n) : ∀ q, n ≤ q → z_bl c q = false := fun q hq => by
  have := h.2.1 q hq
  exact decide_eq_false (by omega)
theorem z_sm_n {c : Int → Int} {n : Int} (h : z_B c n) : ∀ q, n ≤ q → z_sm c q = false := fun q hq => by
  have := h.2.1 q hq
  exact decide_eq_false (by omega)
theorem z_dg_n {c : Int → Int} {n : Int} (h : z_B c n) : ∀ q, n ≤ q → z_dg c q = false := fun q hq => by
  have := h.2.1 q hq
  exact decide_eq_false (by omega)
theorem t_q_p {c : Int → Int} {n p : Int} (h : z_B c n) (hp : 0 ≤ p) : p ≤ t_q c p ∧ (∀ j, p ≤ j → j < t_q c p → z_bl c j = true) ∧ z_bl c (t_q c p) = false := z_run_p (z_bl_n h) 1001 p (by have := h.1; omega)
theorem t_q_le {c : Int → Int} {n p : Int} (h : z_B c n) (hp : 0 ≤ p) (hn : p ≤ n) : t_q c p ≤ n := by
  obtain ⟨h1, h2, h3⟩ := t_q_p h hp
  by_cases q : t_q c p ≤ n
  · exact q
  · have := h2 n hn (by omega)
    rw [z_bl_n h n (Int.le_refl _)] at this
    exact absurd this (by decide)
theorem z_lt {f : Int → Bool} {n : Int} (hf : ∀ q, n ≤ q → f q = false) {p : Int} (hp : f p = true) : p < n := by
  by_cases q : n ≤ p
  · rw [hf p q] at hp
    exact absurd hp (by decide)
  · omega
/-- the end lies behind the place, and not behind all bytes -/
theorem t_e_p {c : Int → Int} {n p : Int} (h : z_B c n) (hp : 0 ≤ p) (hn : p ≤ n) : (t_q c p ≤ t_e c p ∧ t_e c p ≤ n) ∧ (c (t_q c p) ≠ -1 → t_q c p < t_e c p) := by
  have hq := t_q_p h hp
  have hl := t_q_le h hp hn
  have b := h.1
  have nn := z_B_n h (show 0 ≤ t_q c p by omega)
  by_cases q : c (t_q c p) = -1
  · have e : t_e c p = t_q c p := if_pos q
    rw [e]
    exact ⟨⟨Int.le_refl _, hl⟩, fun z => absurd q z⟩
  · have lt : t_q c p < n := by
      by_cases z : n ≤ t_q c p
      · exact absurd (nn.mpr z) q
      · omega
    have run : ∀ f : Int → Bool, (∀ q, n ≤ q → f q = false) → f (t_q c p) = true → t_q c p < z_run f 1001 (t_q c p) ∧ z_run f 1001 (t_q c p) ≤ n := by
      intro f hf h1
      obtain ⟨r1, r2, r3⟩ := z_run_p hf 1001 (t_q c p) (by omega)
      refine ⟨?_, ?_⟩
      · by_cases z : t_q c p = z_run f 1001 (t_q c p)
        · rw [← z, h1] at r3
          exact absurd r3 (by decide)
        · omega
      · by_cases z : z_run f 1001 (t_q c p) ≤ n
        · exact z
        · have := z_lt hf (r2 (z_run f 1001 (t_q c p) - 1) (by omega) (by omega))
          omega
    by_cases q1 : 97 ≤ c (t_q c p) ∧ c (t_q c p) ≤ 122
    · have e : t_e c p = z_run (z_sm c) 1001 (t_q c p) := by unfold t_e; rw [if_neg q, if_pos q1]
      have := run (z_sm c) (z_sm_n h) (decide_eq_true q1)
      rw [e]; exact ⟨by omega, fun _ => this.1⟩
    · by_cases q2 : 48 ≤ c (t_q c p) ∧ c (t_q c p) ≤ 57
      · have e : t_e c p = z_run (z_dg c) 1001 (t_q c p) := by unfold t_e; rw [if_neg q, if_neg q1, if_pos q2]
        have := run (z_dg c) (z_dg_n h) (decide_eq_true q2)
        rw [e]; exact ⟨by omega, fun _ => this.1⟩
      · have e : t_e c p = t_q c p + 1 := by unfold t_e; rw [if_neg q, if_neg q1, if_neg q2]
        rw [e]; exact ⟨by omega, fun _ => by omega⟩
theorem t_at_r {c : Int → Int} {n : Int} (h : z_B c n) : ∀ i : Nat, 0 ≤ t_at c i ∧ t_at c i ≤ n := by
  intro i
  induction i with
  | zero => exact ⟨Int.le_refl _, h.1.1⟩
  | succ i ih =>
    have a := t_e_p h ih.1 ih.2
    have b := t_q_p h ih.1
    exact ⟨by show 0 ≤ t_e c (t_at c i); omega, a.1.2⟩
/-- past the last TOKEN there is only the end -/
theorem t_at_end {c : Int → Int} {n : Int} (h : z_B c n) {i : Nat} (hi : c (t_q c (t_at c i)) = -1) : t_q c (t_at c i) = n ∧ ∀ j : Nat, i < j → t_at c j = n ∧ t_q c (t_at c j) = n ∧ c (t_q c (t_at c j)) = -1 := by
  have r := t_at_r h i
  have q0 := t_q_p h r.1
  have ql := t_q_le h r.1 r.2
  have qn := (z_B_n h (show 0 ≤ t_q c (t_at c i) by omega)).mp hi
  have e1 : t_q c (t_at c i) = n := by omega
  have qe : t_q c n = n := by
    obtain ⟨a1, a2, a3⟩ := t_q_p h h.1.1
    have := t_q_le h h.1.1 (Int.le_refl _)
    omega
  refine ⟨e1, fun j hj => ?_⟩
  have key : t_at c j = n := by
    induction j with
    | zero => omega
    | succ j ih =>
      by_cases z : i = j
      · subst z
        show t_e c (t_at c i) = n
        have : t_e c (t_at c i) = t_q c (t_at c i) := if_pos hi
        rw [this, e1]
      · show t_e c (t_at c j) = n
        rw [ih (by omega)]
        have : t_e c n = t_q c n := if_pos (by rw [qe]; exact h.2.1 n (Int.le_refl _))
        rw [this, qe]
  rw [key, qe]
  exact ⟨rfl, rfl, h.2.1 n (Int.le_refl _)⟩
theorem t_k_0 {c : Int → Int} {p : Int} : t_k c p = 0 ↔ c (t_q c p) = -1 := by
  unfold t_k
  by_cases q : c (t_q c p) = -1
  · rw [if_pos q]; exact ⟨fun _ => q, fun _ => rfl⟩
  · rw [if_neg q]
    refine ⟨fun z => ?_, fun z => absurd z q⟩
    exfalso
    revert z
    split
    · split <;> decide
    · split
      · split <;> decide
      · split <;> decide
theorem z_nb_r {c : Int → Int} {p : Int} : ∀ k : Nat, (∀ j : Nat, j < k → 48 ≤ c (p + j) ∧ c (p + j) ≤ 57) → 0 ≤ z_nb c p k ∧ z_nb c p k < 10 ^ k := by
  intro k
  induction k with
  | zero => intro _; exact ⟨Int.le_refl _, show (0 : Int) < 1 by decide⟩
  | succ k ih =>
    intro h
    have i1 := ih (fun j hj => h j (by omega))
    have d := h k (by omega)
    show 0 ≤ 10 * z_nb c p k + _ ∧ 10 * z_nb c p k + _ < _
    have e : (10 : Int) ^ (k + 1) = 10 * 10 ^ k := by rw [Int.pow_succ, Int.mul_comm]
    rw [e]
    omega
theorem z_wd_r {c : Int → Int} {p : Int} : ∀ k : Nat, (∀ j : Nat, j < k → 97 ≤ c (p + j) ∧ c (p + j) ≤ 122) → 0 ≤ z_wd c p k ∧ z_wd c p k < 32 ^ k := by
  intro k
  induction k with
  | zero => intro _; exact ⟨Int.le_refl _, show (0 : Int) < 1 by decide⟩
  | succ k ih =>
    intro h
    have i1 := ih (fun j hj => h j (by omega))
    have d := h k (by omega)
    show 0 ≤ 32 * z_wd c p k + _ ∧ 32 * z_wd c p k + _ < _
    have e : (32 : Int) ^ (k + 1) = 32 * 32 ^ k := by rw [Int.pow_succ, Int.mul_comm]
    rw [e]
    omega
/-- WORDS are compared as numbers -/
theorem z_wd_u {c d : Int → Int} {p q : Int} : ∀ (k m : Nat), (∀ j : Nat, j < k → 97 ≤ c (p + j) ∧ c (p + j) ≤ 122) → (∀ j : Nat, j < m → 97 ≤ d (q + j) ∧ d (q + j) ≤ 122) → z_wd c p k = z_wd d q m → k = m ∧ ∀ j : Nat, j < k → c (p + j) = d (q + j) := by
  intro k
  induction k with
  | zero =>
    intro m _ hm e
    cases m with
    | zero => exact ⟨rfl, fun j hj => absurd hj (by omega)⟩
    | succ m =>
      have r := z_wd_r m (fun j hj => hm j (by omega))
      have b := hm m (by omega)
      have e2 : (0 : Int) = 32 * z_wd d q m + (d (q + m) - 96) := e
      omega
  | succ k ih =>
    intro m hk hm e
    have r := z_wd_r k (fun j hj => hk j (by omega))
    have b := hk k (by omega)
    cases m with
    | zero =>
      have e2 : 32 * z_wd c p k + (c (p + k) - 96) = (0 : Int) := e
      omega
    | succ m =>
      have r2 := z_wd_r m (fun j hj => hm j (by omega))
      have b2 := hm m (by omega)
      have e2 : 32 * z_wd c p k + (c (p + k) - 96) = 32 * z_wd d q m + (d (q + m) - 96) := e
      have e3 : z_wd c p k = z_wd d q m := by omega
      have e4 : c (p + k) = d (q + m) := by omega
      obtain ⟨i1, i2⟩ := ih m (fun j hj => hk j (by omega)) (fun j hj => hm j (by omega)) e3
      subst i1
      refine ⟨rfl, fun j hj => ?_⟩
      by_cases z : j = k
      · rw [z]; exact e4
      · exact i2 j (by omega)
theorem z_wd_c {c d : Int → Int} {p q : Int} : ∀ k : Nat, (∀ j : Nat, j < k → c (p + j) = d (q + j)) → z_wd c p k = z_wd d q k := by
  intro k
  induction k with
  | zero => intro _; rfl
  | succ k ih =>
    intro h
    show 32 * z_wd c p k + (c (p + k) - 96) = 32 * z_wd d q k + (d (q + k) - 96)
    rw [ih (fun j hj => h j (by omega)), h k (by omega)]
