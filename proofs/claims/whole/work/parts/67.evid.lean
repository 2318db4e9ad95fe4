/-! weights, by the reference's rows -/
def x_mk (M : bM) (k word : Int) : Int := z_fold (fun i s => if M 205 (12 * k + i) = word then s + M 206 (12 * k + i) else s) 0 (M 207 k).toNat
def x_tv (M : bM) (k t : Int) : Int := M 193 t + (if M 192 t = 0 then 0 else x_mk M k (M 192 t))
def x_sv (M : bM) (k f m : Int) : Int := z_fold (fun j s => s + x_tv M k (f + j)) 0 m.toNat
def x_tb (M : bM) (k t : Int) : Int := if M 189 t = 0 then b_01 (0 < x_sv M k (6 * t) (M 190 t)) else if M 189 t = 1 then b_01 (x_sv M k (6 * t + 3) (M 191 t) < x_sv M k (6 * t) (M 190 t)) else if M 189 t = 2 then b_01 (x_sv M k (6 * t) (M 190 t) < x_sv M k (6 * t + 3) (M 191 t)) else b_01 (x_sv M k (6 * t) (M 190 t) = x_sv M k (6 * t + 3) (M 191 t))
def x_h1 (M : bM) (p k i : Int) (s : Int × (Int → Int)) : Int × (Int → Int) := if 0 ≤ M 188 (100 * p + i) then (s.1 + 1, z_up s.2 s.1 (x_tb M k (12 * p + M 188 (100 * p + i)))) else if M 188 (100 * p + i) = -3 then (s.1, z_up s.2 (s.1 - 1) (b_01 (s.2 (s.1 - 1) = 0))) else if M 188 (100 * p + i) = -1 then (s.1 - 1, z_up s.2 (s.1 - 2) (b_01 (s.2 (s.1 - 2) ≠ 0 ∧ s.2 (s.1 - 1) ≠ 0))) else (s.1 - 1, z_up s.2 (s.1 - 2) (b_01 (s.2 (s.1 - 2) ≠ 0 ∨ s.2 (s.1 - 1) ≠ 0)))
def x_hs (M : bM) (p k : Int) (i : Nat) : Int × (Int → Int) := z_fold (x_h1 M p k) (0, fun _ => 0) i
def x_hold (M : bM) (p k : Int) : Int := if M 187 p = 0 then 1 else (x_hs M p k (M 187 p).toNat).2 0
def x_wt (M : bM) (a k : Int) : Int := if a = 0 then 0 else z_fold (fun j s => if M 184 (24 * (a - 1) + j) = M 194 k ∧ x_hold M (24 * (a - 1) + j) k ≠ 0 then M 185 (24 * (a - 1) + j) else s) 0 (M 183 (11 * (a - 1) + 10)).toNat
/-- weights that the class keeps -/
def R_wts (M : bM) : Prop := ∀ k, 0 ≤ k → k < M 5 0 → ∀ a : Int, 0 ≤ a → a ≤ M 4 0 → M 124 (9 * k + a) = x_wt M a k ∧ 0 ≤ M 124 (9 * k + a) ∧ M 124 (9 * k + a) ≤ 99
theorem z_fold_k {α : Type} {f : Int → α → α} {a : α} {n m : Nat} (h : n ≤ m) (hs : ∀ k : Nat, n ≤ k → k < m → ∀ s, f k s = s) : z_fold f a m = z_fold f a n := by
  induction m with
  | zero => rw [show n = 0 by omega]
  | succ m ih =>
    by_cases q : n = m + 1
    · subst q; rfl
    · show f m (z_fold f a m) = _
      rw [hs m (by omega) (by omega), ih (by omega) (fun k a b => hs k a (by omega))]
/-! what PAPERS say -/
abbrev x_C (M : bM) (d k : Int) : Prop := M 199 k ≤ d ∧ x_cant M d k = 0
abbrev x_W (M : bM) (d b k : Int) : Prop := x_C M d k ∧ M 195 k = b
def x_T (M : bM) (d w k : Int) : Int := if M 196 (3 * k + w) = -1 then -1 else if w = 2 then M 196 (3 * k + w) else x_lab M d (M 196 (3 * k + w))
def x_sn (M : bM) (d b w t : Int) (n : Nat) : Int := z_fold (fun k s => if x_W M d b k ∧ x_T M d w k = t ∧ M 194 k ≠ 3 then s + x_wt M (x_act M d) k else s) 0 n
def x_on (M : bM) (d b w t v : Int) (n : Nat) : Int := z_fold (fun k s => if x_W M d b k ∧ x_T M d w k = t ∧ M 194 k = 3 ∧ v ≤ x_wt M (x_act M d) k then s + 1 else s) 0 n
def x_sum (M : bM) (d b w t : Int) : Int := x_sn M d b w t (M 11 53).toNat + z_top (x_rule M d 7) (fun v => x_on M d b w t v (M 11 53).toNat) 99
/-- what the class knows as it weighs -/
def E_b (M : bM) (d : Int) : Prop := R_ppl M ∧ Kn M d ∧ R_sign M ∧ R_pap M ∧ R_rules M ∧ R_wts M ∧ M 6 7 = x_act M d ∧ (∀ k, 0 ≤ k → k < M 5 0 → (M 127 k = 0 ∨ M 127 k = 1) ∧ (M 127 k = 1 ↔ x_C M d k))
/-- N is M but for what is written as one weighs -/
def E_n (M N : bM) : Prop := ∀ c j, c ≠ 126 → c ≠ 128 → c ≠ 129 → ¬ (c = 6 ∧ j = 11) → N c j = M c j
theorem E_nf {M N : bM} (h : E_n M N) (c : Nat) (h1 : c ≠ 126) (h2 : c ≠ 128) (h3 : c ≠ 129) (h4 : c ≠ 6) : N c = M c := funext fun j => h c j h1 h2 h3 (fun q => h4 q.1)
theorem e_X4_thing {M N : bM} {d k w : Int} (hB : E_b M d) (hN : E_n M N) (hk : 0 ≤ k ∧ k < M 5 0) (hw : 0 ≤ w ∧ w < 3) : F_X4_thing k w N = some (x_T M d w k) := by
  obtain ⟨b1, b2, b3, b4, _⟩ := hB
  have s1 := b3.1
  have n5 := E_nf hN 5 (by decide) (by decide) (by decide) (by decide)
  have n115 := E_nf hN 115 (by decide) (by decide) (by decide) (by decide)
  have n2 := E_nf hN 2 (by decide) (by decide) (by decide) (by decide)
  have n81 := E_nf hN 81 (by decide) (by decide) (by decide) (by decide)
  have hp := b4 k hk.1 hk.2
  obtain ⟨p1, p2, p3, p4, p5, p6, p7, p8⟩ := hp
  have hr := b1.1
  have hv : M 196 (3 * k + w) = M 115 (3 * k + w) ∧ -1 ≤ M 115 (3 * k + w) ∧ (w ≠ 2 → M 115 (3 * k + w) < M 2 0) := by
    have : w = 0 ∨ w = 1 ∨ w = 2 := by omega
    rcases this with rfl | rfl | rfl
    · rw [show 3 * k + 0 = 3 * k by omega]; exact ⟨p5.1, p5.2.1, fun _ => p5.2.2⟩
    · exact ⟨p6.1, p6.2.1, fun _ => p6.2.2⟩
    · exact ⟨p7.1, p7.2.1, fun q => absurd rfl q⟩
  unfold F_X4_thing x_T
  rw [e_X7_saying (by rw [n5]; exact hk) (by rw [n5]; omega) hw, b_bind_s, n115, hv.1]
  by_cases q : w = 2
  · rw [if_pos q, if_pos q]
    split <;> simp_all
  · rw [if_neg q, if_neg q]
    unfold F_X8_groupOf
    rw [e_X8_has, b_bind_s, n2, n81]
    by_cases q2 : M 115 (3 * k + w) = -1
    · rw [if_pos (by rw [b_01_0]; omega), if_pos q2]; rfl
    · have := hv.2.2 q
      rw [if_neg (by rw [b_01_0]; omega), if_neg q2, b_g_s (by omega), b2.1 _ (by omega) (by omega)]; rfl
theorem e_X7_wb {M N : bM} {d k : Int} (hB : E_b M d) (hN : E_n M N) (hk : 0 ≤ k ∧ k < M 5 0) : F_X7_weightBy k (N 6 7) N = some (x_wt M (x_act M d) k) := by
  obtain ⟨b1, b2, b3, b4, b5, b6, b7, _⟩ := hB
  have s1 := b3.1
  have n5 := E_nf hN 5 (by decide) (by decide) (by decide) (by decide)
  have n124 := E_nf hN 124 (by decide) (by decide) (by decide) (by decide)
  have n67 := hN 6 7 (by decide) (by decide) (by decide) (by decide)
  have h := x_act_r (d := d) b5
  have h2 := b6 k hk.1 hk.2 (x_act M d) h.1 h.2.1
  unfold F_X7_weightBy
  rw [e_X7_has, b_bind_s, n5, n67, b7, n124, if_neg (by rw [b_01_0]; omega), if_neg (by omega), if_neg (by omega), b_g_s (by omega), show k * 9 + x_act M d = 9 * k + x_act M d by omega, h2.1]
theorem x_wt_r {M : bM} {d k : Int} (hB : E_b M d) (hk : 0 ≤ k ∧ k < M 5 0) : 0 ≤ x_wt M (x_act M d) k ∧ x_wt M (x_act M d) k ≤ 99 := by
  obtain ⟨b1, b2, b3, b4, b5, b6, b7, _⟩ := hB
  have h := x_act_r (d := d) b5
  have h2 := b6 k hk.1 hk.2 (x_act M d) h.1 h.2.1
  omega
theorem e_X4_actThen {M N : bM} {d : Int} (hB : E_b M d) (hN : E_n M N) : F_X4_actThen N = some (12 + (x_act M d).toNat) := by
  obtain ⟨b1, b2, b3, b4, b5, b6, b7, _⟩ := hB
  have h := x_act_r (d := d) b5
  have n67 := hN 6 7 (by decide) (by decide) (by decide) (by decide)
  unfold F_X4_actThen F_X1_slot F_X1_slot_b28
  rw [n67, b7, if_neg (by omega), if_neg (by omega), b_g_s (by omega), b_bind_s]
theorem e_toldE {M N : bM} {d i : Int} (hB : E_b M d) (hN : E_n M N) (hi : 0 ≤ i ∧ i < 10) : F_X0_told_a (12 + (x_act M d).toNat) i N = some (x_rule M d i) := by
  obtain ⟨b1, b2, b3, b4, b5, b6, b7, _⟩ := hB
  have h := x_act_r (d := d) b5
  have hx := x_toldN (d := d) b5 hi
  unfold F_X0_told_a at hx ⊢
  rw [E_nf hN (12 + (x_act M d).toNat + 10) (by omega) (by omega) (by omega) (by omega)]
  exact hx
/-- the PAPERS that witness, in order -/
def E_w (M : bM) (d b n : Int) (ws : Int → Int) (m : Int) : Prop := (0 ≤ m ∧ m ≤ n) ∧ (∀ i, 0 ≤ i → i < m → (0 ≤ ws i ∧ ws i < n) ∧ x_W M d b (ws i)) ∧ (∀ i j, 0 ≤ i → i < j → j < m → ws i < ws j) ∧ ∀ k, 0 ≤ k → k < n → x_W M d b k → ∃ i, (0 ≤ i ∧ i < m) ∧ ws i = k
/-- the PAPERS up to witness i -/
def E_u (ws : Int → Int) (i : Int) : Int := if i = 0 then 0 else ws (i - 1) + 1
theorem E_u_s {ws : Int → Int} {i : Int} (h : 0 ≤ i) : E_u ws (i + 1) = ws i + 1 := by
  unfold E_u
  rw [if_neg (by omega), show i + 1 - 1 = i by omega]
theorem E_w_u {M : bM} {d b n : Int} {ws : Int → Int} {m i : Int} (h : E_w M d b n ws m) (hi : 0 ≤ i ∧ i < m) : 0 ≤ E_u ws i ∧ E_u ws i ≤ ws i ∧ ∀ k, E_u ws i ≤ k → k < ws i → ¬ x_W M d b k := by
  obtain ⟨h1, h2, h3, h4⟩ := h
  have q0 := h2 i hi.1 hi.2
  have hu : 0 ≤ E_u ws i ∧ E_u ws i ≤ ws i := by
    unfold E_u
    split
    · omega
    · have := h3 (i - 1) i (by omega) (by omega) hi.2
      have := h2 (i - 1) (by omega) (by omega)
      omega
  refine ⟨hu.1, hu.2, fun k k1 k2 w => ?_⟩
  obtain ⟨j, hj, e⟩ := h4 k (by omega) (by omega) w
  by_cases q : j < i
  · unfold E_u at k1
    rw [if_neg (by omega)] at k1
    by_cases q2 : j = i - 1
    · subst q2; omega
    · have := h3 j (i - 1) hj.1 (by omega) (by omega)
      omega
  · by_cases q2 : j = i
    · subst q2; omega
    · have := h3 i j hi.1 (by omega) hj.2
      omega
theorem E_w_e {M : bM} {d b n : Int} {ws : Int → Int} {m : Int} (h : E_w M d b n ws m) : 0 ≤ E_u ws m ∧ E_u ws m ≤ n ∧ ∀ k, E_u ws m ≤ k → k < n → ¬ x_W M d b k := by
  obtain ⟨h1, h2, h3, h4⟩ := h
  have hu : 0 ≤ E_u ws m ∧ E_u ws m ≤ n := by
    unfold E_u
    split
    · omega
    · have := h2 (m - 1) (by omega) (by omega)
      omega
  refine ⟨hu.1, hu.2, fun k k1 k2 w => ?_⟩
  obtain ⟨j, hj, e⟩ := h4 k (by omega) (by omega) w
  unfold E_u at k1
  rw [if_neg (by omega)] at k1
  by_cases q2 : j = m - 1
  · subst q2; omega
  · have := h3 j (m - 1) hj.1 (by omega) (by omega)
    omega
/-- folds over PAPERS that pass by who doesn't witness, at the witnesses -/
theorem E_w_f {α : Type} {f : Int → α → α} {a : α} {M : bM} {d b n : Int} {ws : Int → Int} {m i : Int} (h : E_w M d b n ws m) (hf : ∀ k s, ¬ x_W M d b k → f k s = s) (hi : 0 ≤ i ∧ i < m) : z_fold f a (E_u ws (i + 1)).toNat = f (ws i) (z_fold f a (E_u ws i).toNat) := by
  have h1 := E_w_u h hi
  have h2 := h.2.1 i hi.1 hi.2
  rw [E_u_s hi.1, z_fold_s h2.1.1, z_fold_k (n := (E_u ws i).toNat) (m := (ws i).toNat) (by omega) (fun k k1 k2 s => hf k s (h1.2.2 k (by omega) (by omega)))]
theorem E_w_l {α : Type} {f : Int → α → α} {a : α} {M : bM} {d b n : Int} {ws : Int → Int} {m : Int} (h : E_w M d b n ws m) (hf : ∀ k s, ¬ x_W M d b k → f k s = s) : z_fold f a n.toNat = z_fold f a (E_u ws m).toNat := by
  have h1 := E_w_e h
  have h2 := h.1
  exact z_fold_k (by omega) (fun k k1 k2 s => hf k s (h1.2.2 k (by omega) (by omega)))
theorem t_fw {M N : bM} {d b : Int} (hB : E_b M d) (hN : E_n M N) : b_wp (F_X4_findWitnesses b N) (fun N2 => E_n M N2 ∧ N2 126 = N 126 ∧ E_w M d b (M 5 0) (N2 128) (N2 6 11)) := by
  obtain ⟨b1, b2, b3, b4, b5, b6, b7, b8⟩ := hB
  have s1 := b3.1
  unfold F_X4_findWitnesses F_X4_findWitnesses_b66
  refine b_Wl (b_Wb ?_)
  refine b_loop_ind (I := fun t : Int × bM => (0 ≤ t.1 ∧ t.1 ≤ M 5 0) ∧ E_n M t.2 ∧ t.2 126 = N 126 ∧ E_w M d b t.1 (t.2 128) (t.2 6 11)) (fun t => (M 5 0 - t.1).toNat) ?_ (0, b_up N 6 11 0) ⟨by dsimp only; omega, fun c j h1 h2 h3 h4 => ?_, (show b_up N 6 11 0 126 = N 126 from b_upF (by decide)), ?_⟩
  · intro ⟨i, P⟩ ⟨h1, h2, h3, h4⟩
    dsimp only at h1 h2 h3 h4 ⊢
    unfold F_X4_findWitnesses_s7
    have n5 := E_nf h2 5 (by decide) (by decide) (by decide) (by decide)
    have n111 := E_nf h2 111 (by decide) (by decide) (by decide) (by decide)
    have n127 := E_nf h2 127 (by decide) (by decide) (by decide) (by decide)
    rw [n5, n111, n127]
    by_cases q : M 5 0 ≤ i
    · refine b_Wt q (b_Ws (b_Ws ?_))
      rw [show i = M 5 0 by omega] at h4
      exact ⟨h2, h3, h4⟩
    · have p2 := (b4 i h1.1 (by omega)).2.1
      have t2 := b8 i h1.1 (by omega)
      have skip : ¬ x_W M d b i → ((0 ≤ i + 1 ∧ i + 1 ≤ M 5 0) ∧ E_n M P ∧ P 126 = N 126 ∧ E_w M d b (i + 1) (P 128) (P 6 11)) ∧ (M 5 0 - (i + 1)).toNat < (M 5 0 - i).toNat := by
        intro z
        refine ⟨⟨by omega, h2, h3, ?_⟩, by omega⟩
        obtain ⟨g1, g2, g3, g4⟩ := h4
        refine ⟨by omega, fun j j0 j1 => ?_, g3, fun k k0 k1 w => ?_⟩
        · have := g2 j j0 j1
          exact ⟨by omega, this.2⟩
        · by_cases qk : k = i
          · subst qk; exact absurd w z
          · exact g4 k k0 (by omega) w
      refine b_Wf q (b_Wg (by omega) (b_Wi (fun q1 => b_Wg (by omega) (b_Wi (fun q2 => b_Wg (by omega) (b_Ws (skip (fun z => by have := t2.2.mpr z.1; omega)))) (fun q2 => ?_))) (fun q1 => b_Wg (by omega) (b_Ws (skip (fun z => q1 (by rw [← z.2]; exact p2.1.symm)))))))
      obtain ⟨g1, g2, g3, g4⟩ := h4
      refine b_Wg (by omega) (b_Wl ?_)
      rw [b_upc (by decide)]
      refine b_Wg (by omega) (b_Wl (b_Wg (by omega) (b_Ws ⟨⟨by dsimp only; omega, fun c j c1 c2 c3 c4 => ?_, ?_, ?_⟩, by dsimp only; omega⟩)))
      · dsimp only
        unfold b_up
        rw [if_neg (by omega), if_neg (by omega)]
        exact h2 c j c1 c2 c3 c4
      · dsimp only
        rw [b_upF (by decide), b_upF (by decide)]
        exact h3
      · dsimp only
        rw [b_ups, b_upF (by decide)]
        have hw : x_W M d b i := ⟨t2.2.mp (by omega), by rw [p2.1]; exact q1⟩
        refine ⟨by omega, fun j j0 j1 => ?_, fun j l j0 jl l1 => ?_, fun k k0 k1 w => ?_⟩
        · rw [b_upJ]
          by_cases qj : j = P 6 11
          · rw [if_pos qj]; exact ⟨by omega, hw⟩
          · rw [if_neg qj]
            have := g2 j j0 (by omega)
            exact ⟨by omega, this.2⟩
        · rw [b_upJ, b_upJ, if_neg (by omega)]
          by_cases ql : l = P 6 11
          · rw [if_pos ql]
            have := g2 j j0 (by omega)
            omega
          · rw [if_neg ql]
            exact g3 j l j0 jl (by omega)
        · by_cases qk : k = i
          · exact ⟨P 6 11, by omega, by rw [b_ups]; exact qk.symm⟩
          · obtain ⟨j, hj, e⟩ := g4 k k0 (by omega) w
            exact ⟨j, by omega, by rw [b_upi (by omega)]; exact e⟩
  · dsimp only
    unfold b_up
    rw [if_neg h4]
    exact hN c j h1 h2 h3 h4
  · dsimp only
    rw [b_ups]
    exact ⟨by omega, fun i i0 i1 => by omega, fun i j i0 ij j1 => by omega, fun k k0 k1 => by omega⟩
