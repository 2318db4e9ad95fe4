/-! CHAINS: by the facts that the class keeps -/
abbrev g_G (M : bM) (b : Int) : Int := M 126 (10 * b)
abbrev g_T (M : bM) (b : Int) : Int := M 126 (10 * b + 1)
abbrev g_L (M : bM) (b : Int) : Int := M 126 (10 * b + 2)
abbrev g_B (M : bM) (b : Int) : Int := M 126 (10 * b + 3)
abbrev g_F (M : bM) (b : Int) : Int := M 126 (10 * b + 4)
abbrev g_p (M : bM) (b : Int) : Int := M 126 (10 * b + 8)
def g_lk (M : bM) (l b : Int) : Prop := (0 ≤ b ∧ b < M 6 0) ∧ g_L M b ≠ -1 ∧ j_bt (M 174 l) (g_L M b).toNat = true ∧ g_T M b ≠ -1
def g_nx (M : bM) (d h b : Int) : Prop := g_G M b ≠ -1 ∧ (h = x_lab M d (g_G M b) ∨ (x_rule M d 8 = 1 ∧ x_chi M d h (x_lab M d (g_G M b)) ∧ x_dea M d h ≠ -1 ∧ x_dea M d h ≤ g_F M b))
def g_en (M : bM) (d p h : Int) : Prop := h = x_lab M d p ∨ (x_rule M d 8 = 1 ∧ x_dea M d h ≠ -1 ∧ x_chi M d h (x_lab M d p))
def g_rt (M : bM) (l r : Int) : Prop := (0 ≤ r ∧ r < M 11 20) ∧ M 217 r ≠ -1 ∧ j_bt (M 174 l) r.toNat = true
def g_st (M : bM) (d l r b : Int) : Prop := g_rt M l r ∧ g_nx M d (x_lab M d (M 217 r)) b ∧ M 218 r ≤ g_F M b
/-- t more LINKS without a GAP lead from b to the one asked; s: a LINK may follow itself -/
def g_P (M : bM) (d l p x : Int) (s : Bool) : Nat → Int → Int → Prop
  | 0, b, day => g_lk M l b ∧ x ≤ g_p M b ∧ g_en M d p (x_lab M d (g_T M b)) ∧ day ≤ 9999
  | t + 1, b, day => g_lk M l b ∧ x ≤ g_p M b ∧ ∃ n, (s = true ∨ n ≠ b) ∧ g_nx M d (x_lab M d (g_T M b)) n ∧ day ≤ g_F M n ∧ g_P M d l p x s t n (max day (g_B M n))
/-- a CHAIN of t + 1 LINKS -/
def g_K (M : bM) (d l p x : Int) (s : Bool) (t : Nat) : Prop := ∃ r b, g_st M d l r b ∧ g_P M d l p x s t b (max (M 218 r) (g_B M b))
theorem g_P_lk {M : bM} {d l p x : Int} {s : Bool} {t : Nat} {b day : Int} (h : g_P M d l p x s t b day) : g_lk M l b ∧ x ≤ g_p M b := by
  cases t with
  | zero => exact ⟨h.1, h.2.1⟩
  | succ t => exact ⟨h.1, h.2.1⟩
theorem g_P_m {M : bM} {d l p x : Int} {s : Bool} : ∀ (t : Nat) (b day day2 : Int), day2 ≤ day → g_P M d l p x s t b day → g_P M d l p x s t b day2 := by
  intro t
  induction t with
  | zero => intro b day day2 h ⟨h1, h2, h3, h4⟩; exact ⟨h1, h2, h3, by omega⟩
  | succ t ih =>
    intro b day day2 h ⟨h1, h2, n, h3, h4, h5, h6⟩
    exact ⟨h1, h2, n, h3, h4, by omega, ih n _ _ (by omega) h6⟩
theorem g_P_x {M : bM} {d l p x y : Int} {s : Bool} (hxy : y ≤ x) : ∀ (t : Nat) (b day : Int), g_P M d l p x s t b day → g_P M d l p y s t b day := by
  intro t
  induction t with
  | zero => intro b day ⟨h1, h2, h3, h4⟩; exact ⟨h1, by omega, h3, h4⟩
  | succ t ih =>
    intro b day ⟨h1, h2, n, h3, h4, h5, h6⟩
    exact ⟨h1, by omega, n, h3, h4, h5, ih n _ h6⟩
theorem g_P_i {M : bM} {d l p x : Int} : ∀ (t : Nat) (b day : Int), g_P M d l p x false t b day → g_P M d l p x true t b day := by
  intro t
  induction t with
  | zero => intro b day h; exact h
  | succ t ih =>
    intro b day ⟨h1, h2, n, h3, h4, h5, h6⟩
    exact ⟨h1, h2, n, Or.inl rfl, h4, h5, ih n _ h6⟩
/-- what goes from a LINK back to itself is left out -/
theorem g_P_c {M : bM} {d l p x : Int} : ∀ (t : Nat) (b day : Int), g_B M b ≤ day → g_P M d l p x true t b day → ∃ t2, t2 ≤ t ∧ g_P M d l p x false t2 b day := by
  intro t
  induction t with
  | zero => intro b day _ h; exact ⟨0, Nat.le_refl 0, h⟩
  | succ t ih =>
    intro b day hb ⟨h1, h2, n, h3, h4, h5, h6⟩
    by_cases q : n = b
    · subst q
      rw [show max day (g_B M n) = day by omega] at h6
      obtain ⟨t2, k1, k2⟩ := ih n day hb h6
      exact ⟨t2, by omega, k2⟩
    · obtain ⟨t2, k1, k2⟩ := ih n _ (by omega) h6
      exact ⟨t2 + 1, by omega, h1, h2, n, Or.inr q, h4, h5, k2⟩
theorem g_K_c {M : bM} {d l p x : Int} {t : Nat} (h : g_K M d l p x true t) : ∃ t2, t2 ≤ t ∧ g_K M d l p x false t2 := by
  obtain ⟨r, b, h1, h2⟩ := h
  obtain ⟨t2, k1, k2⟩ := g_P_c t b _ (by omega) h2
  exact ⟨t2, k1, r, b, h1, k2⟩
theorem g_K_i {M : bM} {d l p x : Int} {t : Nat} (h : g_K M d l p x false t) : g_K M d l p x true t := by
  obtain ⟨r, b, h1, h2⟩ := h
  exact ⟨r, b, h1, g_P_i t b _ h2⟩
theorem g_K_x {M : bM} {d l p x y : Int} {s : Bool} {t : Nat} (hxy : y ≤ x) (h : g_K M d l p x s t) : g_K M d l p y s t := by
  obtain ⟨r, b, h1, h2⟩ := h
  exact ⟨r, b, h1, g_P_x hxy t b _ h2⟩
/-- k + 1 LINKS lead from a ROOT to b -/
def g_Q (M : bM) (d l x : Int) : Nat → Int → Int → Prop
  | 0, b, day => ∃ r, g_st M d l r b ∧ day = max (M 218 r) (g_B M b)
  | k + 1, n, day => ∃ b day0, g_Q M d l x k b day0 ∧ g_lk M l b ∧ x ≤ g_p M b ∧ n ≠ b ∧ g_nx M d (x_lab M d (g_T M b)) n ∧ day0 ≤ g_F M n ∧ day = max day0 (g_B M n)
theorem g_QP {M : bM} {d l p x : Int} : ∀ (k t : Nat) (b day : Int), g_Q M d l x k b day → g_P M d l p x false t b day → g_K M d l p x false (k + t) := by
  intro k
  induction k with
  | zero =>
    intro t b day ⟨r, h1, h2⟩ h3
    rw [h2] at h3
    rw [show 0 + t = t by omega]
    exact ⟨r, b, h1, h3⟩
  | succ k ih =>
    intro t n day ⟨b, day0, h1, h2, h3, h4, h5, h6, h7⟩ h8
    rw [h7] at h8
    have := ih (t + 1) b day0 h1 ⟨h2, h3, n, Or.inr h4, h5, h6, h8⟩
    rw [show k + 1 + t = k + (t + 1) by omega]
    exact this
theorem g_Q_d {M : bM} {d l x : Int} {k : Nat} {b day : Int} (h : g_Q M d l x k b day) : g_B M b ≤ day := by
  cases k with
  | zero => obtain ⟨r, h1, h2⟩ := h; omega
  | succ k => obtain ⟨c, day0, h1, h2, h3, h4, h5, h6, h7⟩ := h; omega
/-- the way of a CHAIN, LINK by LINK -/
theorem g_path {M : bM} {d l p x : Int} : ∀ (t : Nat) (b day : Int), g_P M d l p x false t b day → ∃ f D : Nat → Int, f 0 = b ∧ D 0 = day ∧ (∀ i, i < t → f (i + 1) ≠ f i ∧ g_nx M d (x_lab M d (g_T M (f i))) (f (i + 1)) ∧ D i ≤ g_F M (f (i + 1)) ∧ D (i + 1) = max (D i) (g_B M (f (i + 1)))) ∧ ∀ i, i ≤ t → g_P M d l p x false (t - i) (f i) (D i) := by
  intro t
  induction t with
  | zero => intro b day h; exact ⟨fun _ => b, fun _ => day, rfl, rfl, fun i hi => by omega, fun i hi => by rw [show 0 - i = 0 by omega]; exact h⟩
  | succ t ih =>
    intro b day h
    have h0 := h
    obtain ⟨h1, h2, n, h3, h4, h5, h6⟩ := h
    obtain ⟨f, D, f0, D0, k1, k2⟩ := ih n _ h6
    refine ⟨fun i => match i with | 0 => b | i + 1 => f i, fun i => match i with | 0 => day | i + 1 => D i, rfl, rfl, fun i hi => ?_, fun i hi => ?_⟩
    · cases i with
      | zero =>
        dsimp only
        rw [f0, D0]
        exact ⟨h3.resolve_left (by decide), h4, h5, rfl⟩
      | succ i => exact k1 i (by omega)
    · cases i with
      | zero => exact h0
      | succ i =>
        rw [show t + 1 - (i + 1) = t - i by omega]
        exact k2 i (by omega)
theorem g_pig : ∀ (m n : Nat) (f : Nat → Nat), (∀ i, i < n → f i < m) → (∀ i j, i < n → j < n → f i = f j → i = j) → n ≤ m := by
  intro m
  induction m with
  | zero =>
    intro n f h1 h2
    cases n with
    | zero => omega
    | succ n => have := h1 0 (by omega); omega
  | succ m ih =>
    intro n f h1 h2
    cases n with
    | zero => omega
    | succ n =>
      have := ih n (fun i => if f i = m then f n else f i) (fun i hi => ?_) (fun i j hi hj e => ?_)
      · omega
      · (try dsimp only)
        have a1 := h1 i (by omega)
        have a2 := h1 n (by omega)
        by_cases q : f i = m
        · rw [if_pos q]
          have : f n ≠ m := fun z => by have := h2 i n (by omega) (by omega) (by omega); omega
          omega
        · rw [if_neg q]; omega
      · (try dsimp only at e)
        by_cases q : f i = m
        · by_cases q2 : f j = m
          · exact h2 i j (by omega) (by omega) (by omega)
          · rw [if_pos q, if_neg q2] at e
            have := h2 n j (by omega) (by omega) e
            omega
        · by_cases q2 : f j = m
          · rw [if_neg q, if_pos q2] at e
            have := h2 i n (by omega) (by omega) e
            omega
          · rw [if_neg q, if_neg q2] at e
            exact h2 i j (by omega) (by omega) e
/-- the shortest has no more LINKS than there are -/
theorem g_min_n {M : bM} {d l p x : Int} {t m : Nat} (ix : Int → Nat) (hx : ∀ b, g_lk M l b → ix b < m) (hi : ∀ b c, g_lk M l b → g_lk M l c → ix b = ix c → b = c) (h : g_K M d l p x false t) (hm : ∀ u, u < t → ¬ g_K M d l p x false u) : t + 1 ≤ m := by
  obtain ⟨r, b, h1, h2⟩ := h
  obtain ⟨f, D, f0, D0, k1, k2⟩ := g_path t b _ h2
  have hq : ∀ i, i ≤ t → g_Q M d l x i (f i) (D i) := by
    intro i
    induction i with
    | zero => intro _; exact ⟨r, by rw [f0]; exact h1, by rw [f0, D0]⟩
    | succ i ih =>
      intro hi
      have a1 := ih (by omega)
      have a2 := k1 i (by omega)
      have a3 := g_P_lk (k2 i (by omega))
      exact ⟨f i, D i, a1, a3.1, a3.2, a2.1, a2.2.1, a2.2.2.1, a2.2.2.2⟩
  have hD : ∀ i k, i + k ≤ t → D i ≤ D (i + k) := by
    intro i k
    induction k with
    | zero => intro _; exact Int.le_refl _
    | succ k ih =>
      intro hk
      have a1 := ih (by omega)
      have a2 := k1 (i + k) (by omega)
      rw [show i + (k + 1) = i + k + 1 by omega, a2.2.2.2]
      omega
  have inj : ∀ i k, i + (k + 1) ≤ t → f i ≠ f (i + (k + 1)) := by
    intro i k hk e
    have a1 := k2 (i + (k + 1)) hk
    rw [← e] at a1
    have a2 := g_P_m _ _ _ _ (hD i (k + 1) hk) a1
    exact hm (i + (t - (i + (k + 1)))) (by omega) (g_QP _ _ _ _ (hq i (by omega)) a2)
  refine g_pig m (t + 1) (fun i => ix (f i)) (fun i hi2 => hx _ (g_P_lk (k2 i (by omega))).1) (fun i j hi2 hj e => ?_)
  have e2 := hi _ _ (g_P_lk (k2 i (by omega))).1 (g_P_lk (k2 j (by omega))).1 e
  rcases Nat.lt_trichotomy i j with q | q | q
  · have := inj i (j - i - 1) (by omega)
    rw [show i + (j - i - 1 + 1) = j by omega] at this
    exact absurd e2 this
  · exact q
  · have := inj j (i - j - 1) (by omega)
    rw [show j + (i - j - 1 + 1) = i by omega] at this
    exact absurd e2.symm this
/-- the weakest LINK of a CHAIN -/
theorem g_P_w {M : bM} {d l p x : Int} {s : Bool} : ∀ (t : Nat) (b day : Int), g_P M d l p x s t b day → ∃ c, g_lk M l c ∧ x ≤ g_p M c ∧ g_P M d l p (g_p M c) s t b day := by
  intro t
  induction t with
  | zero => intro b day ⟨h1, h2, h3, h4⟩; exact ⟨b, h1, h2, h1, Int.le_refl _, h3, h4⟩
  | succ t ih =>
    intro b day ⟨h1, h2, n, h3, h4, h5, h6⟩
    obtain ⟨c, c1, c2, c3⟩ := ih n _ h6
    by_cases q : g_p M b ≤ g_p M c
    · exact ⟨b, h1, h2, h1, Int.le_refl _, n, h3, h4, h5, g_P_x q t n _ c3⟩
    · exact ⟨c, c1, c2, h1, by omega, n, h3, h4, h5, c3⟩
theorem g_K_w {M : bM} {d l p x : Int} {s : Bool} {t : Nat} (h : g_K M d l p x s t) : ∃ c, g_lk M l c ∧ x ≤ g_p M c ∧ g_K M d l p (g_p M c) s t := by
  obtain ⟨r, b, h1, h2⟩ := h
  obtain ⟨c, c1, c2, c3⟩ := g_P_w t b _ h2
  exact ⟨c, c1, c2, r, b, h1, c3⟩
/-- least number with a property -/
theorem g_least (P : Nat → Prop) : ∀ n, P n → ∃ m, m ≤ n ∧ P m ∧ ∀ k, k < m → ¬ P k := by
  intro n
  induction n using Nat.strongRecOn with
  | _ n ih =>
    intro h
    by_cases q : ∃ k, k < n ∧ P k
    · obtain ⟨k, k1, k2⟩ := q
      obtain ⟨m, m1, m2, m3⟩ := ih k k1 k2
      exact ⟨m, by omega, m2, m3⟩
    · exact ⟨n, Nat.le_refl n, h, fun k hk z => q ⟨k, hk, z⟩⟩
