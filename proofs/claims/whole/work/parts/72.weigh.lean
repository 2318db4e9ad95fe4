theorem j_cmp_0 {x y : Int} : j_cmp x y = 0 ↔ x = y := by
  unfold j_cmp
  by_cases q : y < x
  · rw [if_pos q]; omega
  · rw [if_neg q]
    by_cases q2 : x = y
    · rw [if_pos q2]; omega
    · rw [if_neg q2]; omega
def S_marks : bW := [(5, some 0), (119, none), (120, none), (121, none), (205, none), (206, none), (207, none)]
/-- MARKS of PAPERS -/
def R_marks (M : bM) : Prop := ∀ k, 0 ≤ k → k < M 5 0 → (M 207 k = M 119 k ∧ 0 ≤ M 119 k ∧ M 119 k ≤ 12) ∧ (∀ i, 0 ≤ i → i < M 119 k → M 205 (12 * k + i) = M 120 (12 * k + i) ∧ M 206 (12 * k + i) = M 121 (12 * k + i) ∧ (0 ≤ M 121 (12 * k + i) ∧ M 121 (12 * k + i) ≤ 9999)) ∧ ∀ i j, 0 ≤ i → i < j → j < M 119 k → M 120 (12 * k + i) ≠ M 120 (12 * k + j)
theorem R_marks_k {M M2 : bM} (h : ∀ c i, b_ins S_marks c i = true → M2 c i = M c i) (hR : R_marks M) : R_marks M2 := by
  unfold R_marks at hR ⊢
  rw [h 5 0 rfl, show M2 119 = M 119 from funext fun i => h _ i rfl, show M2 120 = M 120 from funext fun i => h _ i rfl, show M2 121 = M 121 from funext fun i => h _ i rfl, show M2 205 = M 205 from funext fun i => h _ i rfl, show M2 206 = M 206 from funext fun i => h _ i rfl, show M2 207 = M 207 from funext fun i => h _ i rfl]
  exact hR
/-- how deep the reference's stack is -/
def x_d1 (M : bM) (p i n : Int) : Int := if 0 ≤ M 188 (100 * p + i) then n + 1 else if M 188 (100 * p + i) = -3 then n else n - 1
def x_dep (M : bM) (p : Int) (i : Nat) : Int := z_fold (x_d1 M p) 0 i
theorem x_dep_hs {M : bM} {p k : Int} : ∀ i : Nat, (x_hs M p k i).1 = x_dep M p i := by
  intro i
  induction i with
  | zero => rfl
  | succ i ih =>
    show (x_h1 M p k i (x_hs M p k i)).1 = x_d1 M p i (x_dep M p i)
    rw [← ih]
    unfold x_h1 x_d1
    split
    · rfl
    · split
      · rfl
      · split <;> rfl
def W_test (M : bM) (t : Int) : Prop := (0 ≤ M 190 t ∧ M 190 t ≤ 3) ∧ (0 ≤ M 191 t ∧ M 191 t ≤ 3) ∧ (0 ≤ M 189 t ∧ M 189 t ≤ 3) ∧ ∀ j, 0 ≤ j → j < 6 → 0 ≤ M 193 (6 * t + j) ∧ M 193 (6 * t + j) ≤ 9999
def W_prog (M : bM) (p : Int) : Prop := (0 ≤ M 187 p ∧ M 187 p ≤ 100) ∧ (0 ≤ M 185 p ∧ M 185 p ≤ 99) ∧ (∀ i : Nat, (i : Int) < M 187 p → (-3 ≤ M 188 (100 * p + i) ∧ M 188 (100 * p + i) < 12) ∧ (0 ≤ M 188 (100 * p + i) → W_test M (12 * p + M 188 (100 * p + i))) ∧ (M 188 (100 * p + i) = -3 → 1 ≤ x_dep M p i) ∧ (M 188 (100 * p + i) = -1 → 2 ≤ x_dep M p i) ∧ (M 188 (100 * p + i) = -2 → 2 ≤ x_dep M p i)) ∧ (0 < M 187 p → 1 ≤ x_dep M p (M 187 p).toNat)
def S_prog : bW := [(4, some 0), (183, none), (184, none), (185, none), (187, none), (188, none), (189, none), (190, none), (191, none), (192, none), (193, none)]
/-- the reference's proofs can be gone through -/
def R_prog (M : bM) : Prop := ∀ a : Int, 1 ≤ a → a ≤ M 4 0 → ∀ j, 0 ≤ j → j < M 183 (11 * (a - 1) + 10) → W_prog M (24 * (a - 1) + j)
theorem W_prog_c {M N : bM} {p : Int} (h5 : N 185 = M 185) (h7 : N 187 = M 187) (h8 : N 188 = M 188) (h9 : N 189 = M 189) (h0 : N 190 = M 190) (h1 : N 191 = M 191) (h3 : N 193 = M 193) (h : W_prog M p) : W_prog N p := by
  have e : x_dep N p = x_dep M p := by
    funext i
    unfold x_dep x_d1
    rw [h8]
  unfold W_prog W_test at h ⊢
  rw [h5, h7, h8, h9, h0, h1, h3, e]
  exact h
theorem R_prog_k {M N : bM} (h : ∀ c i, b_ins S_prog c i = true → N c i = M c i) (hR : R_prog M) : R_prog N := by
  intro a a1 a2 j j0 j1
  rw [h 4 0 rfl] at a2
  rw [h 183 _ rfl] at j1
  exact W_prog_c (funext fun i => h _ i rfl) (funext fun i => h _ i rfl) (funext fun i => h _ i rfl) (funext fun i => h _ i rfl) (funext fun i => h _ i rfl) (funext fun i => h _ i rfl) (funext fun i => h _ i rfl) (hR a a1 a2 j j0 j1)
def x_mks (M : bM) (k word : Int) (n : Nat) : Int := z_fold (fun i s => if M 205 (12 * k + i) = word then s + M 206 (12 * k + i) else s) 0 n
theorem x_mks_r {M : bM} {k word : Int} : ∀ n : Nat, (∀ i : Int, 0 ≤ i → i < n → 0 ≤ M 206 (12 * k + i) ∧ M 206 (12 * k + i) ≤ 9999) → 0 ≤ x_mks M k word n ∧ x_mks M k word n ≤ 9999 * n := by
  intro n
  induction n with
  | zero => intro _; exact ⟨Int.le_refl 0, Int.le_refl 0⟩
  | succ n ih =>
    intro h
    have h1 := ih (fun i a b => h i a (by omega))
    have h2 := h n (by omega) (by omega)
    have e : x_mks M k word (n + 1) = if M 205 (12 * k + n) = word then x_mks M k word n + M 206 (12 * k + n) else x_mks M k word n := rfl
    rw [e]
    split <;> omega
theorem e_so29 {M : bM} {f m k acc t : Int} (hk : 0 ≤ k ∧ k < 120) (hm : 0 ≤ M 207 k ∧ M 207 k ≤ 12) (hr : ∀ i : Int, 0 ≤ i → i < M 207 k → 0 ≤ M 206 (12 * k + i) ∧ M 206 (12 * k + i) ≤ 9999) (ht : 0 ≤ t ∧ t < 15552) (ha : 0 ≤ acc ∧ acc ≤ 1000000) : b_loop (fun s : Int × Int => F_X12_sumOf_s29 f m k s.1 t s.2 M) (acc, 0) = some (acc + (if M 192 t = 0 then 0 else x_mk M k (M 192 t))) := by
  refine b_eqn ?_
  by_cases q0 : M 192 t = 0
  · rw [if_pos q0]
    refine b_Wloop ?_
    dsimp only
    unfold F_X12_sumOf_s29
    refine b_Wg (by omega) (b_Wi (fun q => b_Ws (show acc = acc + 0 by omega)) (fun q => b_Wg (by omega) (b_Wt (j_cmp_0.mpr q0) (b_Ws (show acc = acc + 0 by omega)))))
  · rw [if_neg q0]
    refine b_loop_ind (I := fun s : Int × Int => (0 ≤ s.2 ∧ s.2 ≤ M 207 k) ∧ s.1 = acc + x_mks M k (M 192 t) s.2.toNat) (fun s => (M 207 k - s.2).toNat) ?_ (acc, 0) ⟨by dsimp only; omega, show acc = acc + 0 by omega⟩
    intro ⟨a, i⟩ ⟨h1, h2⟩
    dsimp only at h1 h2 ⊢
    have hb := x_mks_r (M := M) (k := k) (word := M 192 t) i.toNat (fun j a b => hr j a (by omega))
    unfold F_X12_sumOf_s29
    refine b_Wg (by omega) ?_
    by_cases q : M 207 k ≤ i
    · refine b_Wt q (b_Ws (show a = _ from ?_))
      rw [h2, show i = M 207 k by omega]
      rfl
    · have e : x_mks M k (M 192 t) (i + 1).toNat = if M 205 (12 * k + i) = M 192 t then x_mks M k (M 192 t) i.toNat + M 206 (12 * k + i) else x_mks M k (M 192 t) i.toNat := z_fold_s h1.1
      have hr1 := hr i h1.1 (by omega)
      refine b_Wf q (b_Wg (by omega) (b_Wf (fun z => q0 (j_cmp_0.mp z)) (b_Wg (by omega) (b_Wi (fun q1 => b_Wg (by omega) (b_Wl (b_Wg (by omega) (b_Ws ⟨⟨by dsimp only; omega, ?_⟩, by dsimp only; omega⟩)))) (fun q1 => b_Wg (by omega) (b_Ws ⟨⟨by dsimp only; omega, ?_⟩, by dsimp only; omega⟩))))))
      · dsimp only
        rw [e, if_pos (j_cmp_0.mp q1)]
        omega
      · dsimp only
        rw [e, if_neg (fun z => q1 (j_cmp_0.mpr z))]
        exact h2
def x_svs (M : bM) (k f : Int) (n : Nat) : Int := z_fold (fun j s => s + x_tv M k (f + j)) 0 n
theorem x_tv_r {M : bM} {k t : Int} (hm : 0 ≤ M 207 k ∧ M 207 k ≤ 12) (hr : ∀ i : Int, 0 ≤ i → i < M 207 k → 0 ≤ M 206 (12 * k + i) ∧ M 206 (12 * k + i) ≤ 9999) (ht : 0 ≤ M 193 t ∧ M 193 t ≤ 9999) : 0 ≤ x_tv M k t ∧ x_tv M k t ≤ 140000 := by
  unfold x_tv
  have h := x_mks_r (M := M) (k := k) (word := M 192 t) (M 207 k).toNat (fun j a b => hr j a (by omega))
  have e : x_mk M k (M 192 t) = x_mks M k (M 192 t) (M 207 k).toNat := rfl
  rw [← e] at h
  split <;> omega
theorem e_X12_sumOf {M : bM} {f m k : Int} (hk : 0 ≤ k ∧ k < 120) (hm : 0 ≤ M 207 k ∧ M 207 k ≤ 12) (hr : ∀ i : Int, 0 ≤ i → i < M 207 k → 0 ≤ M 206 (12 * k + i) ∧ M 206 (12 * k + i) ≤ 9999) (hf : 0 ≤ f ∧ f + 3 ≤ 15552) (hm3 : 0 ≤ m ∧ m ≤ 3) (ht : ∀ j, 0 ≤ j → j < 3 → 0 ≤ M 193 (f + j) ∧ M 193 (f + j) ≤ 9999) : F_X12_sumOf f m k M = some (x_sv M k f m) := by
  refine b_eqn ?_
  unfold F_X12_sumOf F_X12_sumOf_b104
  refine b_Wb (b_loop_ind (I := fun s : Int × Int => (f ≤ s.2 ∧ s.2 ≤ f + m) ∧ s.1 = x_svs M k f (s.2 - f).toNat ∧ (0 ≤ s.1 ∧ s.1 ≤ 140000 * (s.2 - f))) (fun s => (f + m - s.2).toNat) ?_ (0, f) ⟨by dsimp only; omega, by dsimp only; rw [show (f - f).toNat = 0 by omega]; rfl, by dsimp only; omega⟩)
  intro ⟨a, t⟩ ⟨h1, h2, h3⟩
  dsimp only at h1 h2 h3 ⊢
  unfold F_X12_sumOf_s6 F_X12_sumOf_b98
  refine b_Wg (by omega) ?_
  by_cases q : f + m ≤ t
  · refine b_Wt q (b_Ws (b_Ws (show a = _ from ?_)))
    rw [h2, show t - f = m by omega]
    rfl
  · have hb := ht (t - f) (by omega) (by omega)
    rw [show f + (t - f) = t by omega] at hb
    have hv := x_tv_r (k := k) hm hr hb
    have e : x_svs M k f (t + 1 - f).toNat = a + x_tv M k t := by
      rw [show t + 1 - f = t - f + 1 by omega]
      unfold x_svs at h2 ⊢
      rw [z_fold_s (by omega), ← h2, show f + (t - f) = t by omega]
    refine b_Wf q (b_Wg (by omega) (b_Wl (b_We (e_so29 hk hm hr (by omega) (by omega)) (b_Wg (by omega) (b_Ws ⟨⟨by dsimp only; omega, ?_, ?_⟩, by dsimp only; omega⟩)))))
    · dsimp only
      rw [e]
      unfold x_tv
      omega
    · dsimp only
      unfold x_tv at hv
      omega
theorem x_tb_b {M : bM} {k t : Int} : x_tb M k t = 0 ∨ x_tb M k t = 1 := by
  unfold x_tb
  split
  · exact b_01_b
  · split
    · exact b_01_b
    · split
      · exact b_01_b
      · exact b_01_b
theorem e_X12_holds {M : bM} {p k : Int} (hp : 0 ≤ p ∧ p < 216) (hk : 0 ≤ k ∧ k < 120) (hm : 0 ≤ M 207 k ∧ M 207 k ≤ 12) (hr : ∀ i : Int, 0 ≤ i → i < M 207 k → 0 ≤ M 206 (12 * k + i) ∧ M 206 (12 * k + i) ≤ 9999) (hW : W_prog M p) : b_wp (F_X12_holds p k M) (fun o => o.1 = x_hold M p k ∧ (o.1 = 0 ∨ o.1 = 1) ∧ ∀ c j, c ≠ 208 → o.2 c j = M c j) := by
  obtain ⟨w1, w2, w3, w4⟩ := hW
  unfold F_X12_holds
  refine b_Wg hp ?_
  by_cases q0 : M 187 p = 0
  · exact b_Wt q0 (b_Ws ⟨by unfold x_hold; rw [if_pos q0], Or.inr rfl, fun _ _ _ => rfl⟩)
  · refine b_Wf q0 (b_Wb (b_wp_m (fun N y => ?_) (b_loop_ind (P := fun N : bM => (∀ c j, c ≠ 208 → N c j = M c j) ∧ ∀ j, 0 ≤ j → j < (x_hs M p k (M 187 p).toNat).1 → N 208 j = (x_hs M p k (M 187 p).toNat).2 j ∧ (N 208 j = 0 ∨ N 208 j = 1)) (I := fun s : Int × Int × bM => (0 ≤ s.2.1 ∧ s.2.1 ≤ M 187 p) ∧ (∀ c j, c ≠ 208 → s.2.2 c j = M c j) ∧ s.1 = (x_hs M p k s.2.1.toNat).1 ∧ (0 ≤ s.1 ∧ s.1 ≤ s.2.1) ∧ ∀ j, 0 ≤ j → j < s.1 → s.2.2 208 j = (x_hs M p k s.2.1.toNat).2 j ∧ (s.2.2 208 j = 0 ∨ s.2.2 208 j = 1)) (fun s => (M 187 p - s.2.1).toNat) ?_ (0, 0, M) ⟨by dsimp only; omega, fun _ _ _ => rfl, rfl, by dsimp only; omega, fun j j0 j1 => by dsimp only at j1; omega⟩)))
    · obtain ⟨y1, y2⟩ := y
      unfold F_X12_holds_b304
      have hd := w4 (by omega)
      rw [← x_dep_hs (k := k)] at hd
      have h0 := y2 0 (by omega) (by omega)
      refine b_Wg h0.2 (b_Ws ⟨?_, h0.2, y1⟩)
      unfold x_hold
      rw [if_neg q0]
      exact h0.1
    · intro ⟨n, i, P⟩ ⟨h1, h2, h3, h4, h5⟩
      dsimp only at h1 h2 h3 h4 h5 ⊢
      have k187 := h2 187 p (by decide)
      have k188 := h2 188 (100 * p + i) (by decide)
      unfold F_X12_holds_s16
      rw [k187, k188]
      refine b_Wg hp ?_
      by_cases q : M 187 p ≤ i
      · refine b_Wt q (b_Ws ?_)
        rw [show i = M 187 p by omega] at h3 h5
        rw [h3] at h5
        exact ⟨h2, h5⟩
      · refine b_Wf q (b_Wg (by omega) (b_Wl ?_))
        have w5 := w3 i.toNat (by omega)
        rw [show ((i.toNat : Nat) : Int) = i by omega, ← x_dep_hs (k := k), ← h3] at w5
        have hs : x_hs M p k (i + 1).toNat = x_h1 M p k i (x_hs M p k i.toNat) := z_fold_s h1.1
        generalize hst : x_hs M p k i.toNat = st at *
        obtain ⟨s1, s2⟩ := st
        dsimp only at h3 h5
        subst h3
        have put : ∀ (n2 x : Int) (u : Int), (x = 0 ∨ x = 1) → x_h1 M p k i (n, s2) = (n2, z_up s2 u x) → (0 ≤ n2 ∧ n2 ≤ i + 1) → (n2 ≤ n ∨ (n2 = n + 1 ∧ u = n)) → ((0 ≤ i + 1 ∧ i + 1 ≤ M 187 p) ∧ (∀ c j, c ≠ 208 → b_up P 208 u x c j = M c j) ∧ n2 = (x_hs M p k (i + 1).toNat).1 ∧ (0 ≤ n2 ∧ n2 ≤ i + 1) ∧ ∀ j, 0 ≤ j → j < n2 → b_up P 208 u x 208 j = (x_hs M p k (i + 1).toNat).2 j ∧ (b_up P 208 u x 208 j = 0 ∨ b_up P 208 u x 208 j = 1)) ∧ (M 187 p - (i + 1)).toNat < (M 187 p - i).toNat := by
          intro n2 x u hx he hn hnu
          rw [hs, he]
          refine ⟨⟨by omega, fun c j hc => by rw [b_upc hc]; exact h2 c j hc, rfl, hn, fun j j0 j1 => ?_⟩, by omega⟩
          rw [b_up_z]
          unfold z_up
          dsimp only
          by_cases qj : j = u
          · rw [if_pos qj, if_pos qj]
            exact ⟨rfl, hx⟩
          · rw [if_neg qj, if_neg qj]
            exact h5 j j0 (by omega)
        refine b_Wi (fun q1 => b_Wi (fun q2 => ?_) (fun q2 => ?_)) (fun q1 => ?_)
        · have hd := w5.2.2.1 q2
          have hv := h5 (n - 1) (by omega) (by omega)
          unfold F_X12_holds_b224
          refine b_Wg (by omega) (b_Wi (fun q3 => b_Wg (by omega) (b_Wl (b_Wg (by omega) (b_Ws (put n 1 (n - 1) (Or.inr rfl) ?_ (by omega) (Or.inl (by omega))))))) (fun q3 => b_Wg (by omega) (b_Wl (b_Wg (by omega) (b_Ws (put n 0 (n - 1) (Or.inl rfl) ?_ (by omega) (Or.inl (by omega))))))))
          · unfold x_h1
            dsimp only
            rw [if_neg (by omega), if_pos q2, b_01_1.mpr (by omega)]
          · unfold x_h1
            dsimp only
            rw [if_neg (by omega), if_pos q2, b_01_0.mpr (by omega)]
        · have hd : 2 ≤ n := by
            by_cases q3 : M 188 (100 * p + i) = -1
            · exact w5.2.2.2.1 q3
            · exact w5.2.2.2.2 (by omega)
          have hv := h5 (n - 1) (by omega) (by omega)
          have hv2 := h5 (n - 2) (by omega) (by omega)
          rw [show n + -1 - 1 = n - 2 by omega, show n + -1 = n - 1 by omega]
          refine b_Wg (by omega) ?_
          refine b_Wi (fun q3 => ?_) (fun q3 => ?_)
          · have e : ∀ x, x = b_01 (s2 (n - 2) ≠ 0 ∧ s2 (n - 1) ≠ 0) → x_h1 M p k i (n, s2) = (n - 1, z_up s2 (n - 2) x) := by
              intro x hx
              unfold x_h1
              dsimp only
              rw [if_neg (by omega), if_neg q2, if_pos q3, hx]
            unfold F_X12_holds_b268 F_X12_holds_b297
            refine b_Wg (by omega) (b_Wi (fun q4 => b_Wg (by omega) (b_Wl (b_Wg (by omega) (b_Ws (put (n - 1) 0 (n - 2) (Or.inl rfl) (e 0 (b_01_0.mpr (by omega)).symm) (by omega) (Or.inl (by omega))))))) (fun q4 => b_Wg (by omega) (b_Wi (fun q5 => b_Wg (by omega) (b_Wl (b_Wg (by omega) (b_Ws (put (n - 1) 0 (n - 2) (Or.inl rfl) (e 0 (b_01_0.mpr (by omega)).symm) (by omega) (Or.inl (by omega))))))) (fun q5 => b_Wg (by omega) (b_Wl (b_Wg (by omega) (b_Ws (put (n - 1) 1 (n - 2) (Or.inr rfl) (e 1 (b_01_1.mpr (by omega)).symm) (by omega) (Or.inl (by omega))))))))))
          · have e : ∀ x, x = b_01 (s2 (n - 2) ≠ 0 ∨ s2 (n - 1) ≠ 0) → x_h1 M p k i (n, s2) = (n - 1, z_up s2 (n - 2) x) := by
              intro x hx
              unfold x_h1
              dsimp only
              rw [if_neg (by omega), if_neg q2, if_neg q3, hx]
            unfold F_X12_holds_b292 F_X12_holds_b297
            refine b_Wg (by omega) (b_Wi (fun q4 => b_Wg (by omega) (b_Wi (fun q5 => b_Wg (by omega) (b_Wl (b_Wg (by omega) (b_Ws (put (n - 1) 0 (n - 2) (Or.inl rfl) (e 0 (b_01_0.mpr (by omega)).symm) (by omega) (Or.inl (by omega))))))) (fun q5 => b_Wg (by omega) (b_Wl (b_Wg (by omega) (b_Ws (put (n - 1) 1 (n - 2) (Or.inr rfl) (e 1 (b_01_1.mpr (by omega)).symm) (by omega) (Or.inl (by omega))))))))) (fun q4 => b_Wg (by omega) (b_Wl (b_Wg (by omega) (b_Ws (put (n - 1) 1 (n - 2) (Or.inr rfl) (e 1 (b_01_1.mpr (by omega)).symm) (by omega) (Or.inl (by omega))))))))
        · have hT := w5.2.1 (by omega)
          obtain ⟨t1, t2, t3, t4⟩ := hT
          generalize htt : 12 * p + M 188 (100 * p + i) = t at *
          have ht : 0 ≤ t ∧ t < 2592 := by omega
          have r189 := h2 189 t (by decide)
          have r190 := h2 190 t (by decide)
          have r191 := h2 191 t (by decide)
          have sum : ∀ f m, (0 ≤ f ∧ f + 3 ≤ 15552) → (0 ≤ m ∧ m ≤ 3) → (∀ j, 0 ≤ j → j < 3 → 0 ≤ M 193 (f + j) ∧ M 193 (f + j) ≤ 9999) → F_X12_sumOf f m k P = some (x_sv M k f m) := by
            intro f m hf hm3 ht
            have h207 := h2 207 k (by decide)
            have := e_X12_sumOf (M := P) (f := f) (m := m) (k := k) hk (by rw [h207]; exact hm) (fun i a b => by rw [h2 206 _ (by decide)]; rw [h207] at b; exact hr i a b) hf hm3 (fun j a b => by rw [h2 193 _ (by decide)]; exact ht j a b)
            rw [this]
            unfold x_sv x_tv x_mk
            rw [show P 193 = M 193 from funext fun j => h2 193 j (by decide), show P 192 = M 192 from funext fun j => h2 192 j (by decide), show P 205 = M 205 from funext fun j => h2 205 j (by decide), show P 206 = M 206 from funext fun j => h2 206 j (by decide), h207]
          have a1 := sum (6 * t) (M 190 t) (by omega) t1 (fun j a b => t4 j a (by omega))
          have a2 := sum (6 * t + 3) (M 191 t) (by omega) t2 (fun j a b => by have := t4 (3 + j) (by omega) (by omega); rw [show 6 * t + (3 + j) = 6 * t + 3 + j by omega] at this; exact this)
          have e : ∀ x, x = x_tb M k t → x_h1 M p k i (n, s2) = (n + 1, z_up s2 n x) := by
            intro x hx
            unfold x_h1
            dsimp only
            rw [htt, if_pos (by omega), hx]
          have fin : ∀ x, (x = 0 ∨ x = 1) → x = x_tb M k t → b_wp (F_X12_holds_b187 p k n i n x P) (Sum.elim (fun s : Int × Int × bM => ((0 ≤ s.2.1 ∧ s.2.1 ≤ M 187 p) ∧ (∀ c j, c ≠ 208 → s.2.2 c j = M c j) ∧ s.1 = (x_hs M p k s.2.1.toNat).1 ∧ (0 ≤ s.1 ∧ s.1 ≤ s.2.1) ∧ ∀ j, 0 ≤ j → j < s.1 → s.2.2 208 j = (x_hs M p k s.2.1.toNat).2 j ∧ (s.2.2 208 j = 0 ∨ s.2.2 208 j = 1)) ∧ (M 187 p - s.2.1).toNat < (M 187 p - i).toNat) (fun N : bM => (∀ c j, c ≠ 208 → N c j = M c j) ∧ ∀ j, 0 ≤ j → j < (x_hs M p k (M 187 p).toNat).1 → N 208 j = (x_hs M p k (M 187 p).toNat).2 j ∧ (N 208 j = 0 ∨ N 208 j = 1))) := by
            intro x hx hx2
            unfold F_X12_holds_b187
            exact b_Wg (by omega) (b_Wl (b_Wg (by omega) (b_Ws (put (n + 1) x n hx (e x hx2) (by omega) (Or.inr ⟨rfl, rfl⟩)))))
          refine b_Wg (by omega) (b_Wl ?_)
          rw [r189, r190, r191]
          refine b_Wg (by omega) (b_We a1 (b_Wg (by omega) (b_We a2 (b_Wg (by omega) ?_))))
          unfold x_tb at fin
          generalize x_sv M k (6 * t) (M 190 t) = l at fin ⊢
          generalize x_sv M k (6 * t + 3) (M 191 t) = r at fin ⊢
          refine b_Wi (fun z => ?_) (fun z => b_Wg (by omega) (b_Wi (fun z2 => ?_) (fun z2 => b_Wg (by omega) (b_Wi (fun z3 => ?_) (fun z3 => ?_)))))
          · rw [if_pos z] at fin
            exact b_Wi (fun y => fin 0 (Or.inl rfl) (b_01_0.mpr (by omega)).symm) (fun y => fin 1 (Or.inr rfl) (b_01_1.mpr (by omega)).symm)
          · rw [if_neg z, if_pos z2] at fin
            exact b_Wi (fun y => fin 0 (Or.inl rfl) (b_01_0.mpr (by omega)).symm) (fun y => fin 1 (Or.inr rfl) (b_01_1.mpr (by omega)).symm)
          · rw [if_neg z, if_neg z2, if_pos z3] at fin
            exact b_Wi (fun y => fin 0 (Or.inl rfl) (b_01_0.mpr (by omega)).symm) (fun y => fin 1 (Or.inr rfl) (b_01_1.mpr (by omega)).symm)
          · rw [if_neg z, if_neg z2, if_neg z3] at fin
            exact b_Wi (fun y => fin 1 (Or.inr rfl) (b_01_1.mpr y).symm) (fun y => fin 0 (Or.inl rfl) (b_01_0.mpr y).symm)
