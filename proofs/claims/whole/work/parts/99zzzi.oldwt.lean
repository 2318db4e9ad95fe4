/-- a weight by an ACT whose rows are kept -/
theorem x_tv_m {M N : bM} {k t : Int} (h : N 192 t = M 192 t ∧ N 193 t = M 193 t) (hm : ∀ w, x_mk N k w = x_mk M k w) : x_tv N k t = x_tv M k t := by
  unfold x_tv
  rw [h.1, h.2, hm]
theorem x_sv_m {M N : bM} {k f m : Int} (hm3 : m ≤ 3) (h : ∀ j, f ≤ j → j < f + 3 → N 192 j = M 192 j ∧ N 193 j = M 193 j) (hm : ∀ w, x_mk N k w = x_mk M k w) : x_sv N k f m = x_sv M k f m := by
  unfold x_sv
  refine z_fold_c _ (fun j s hj => ?_)
  rw [x_tv_m (h _ (by omega) (by omega)) hm]
theorem x_tb_m {M N : bM} {k t : Int} (hW : W_test M t) (h9 : N 189 t = M 189 t ∧ N 190 t = M 190 t ∧ N 191 t = M 191 t) (h : ∀ j, 6 * t ≤ j → j < 6 * t + 6 → N 192 j = M 192 j ∧ N 193 j = M 193 j) (hm : ∀ w, x_mk N k w = x_mk M k w) : x_tb N k t = x_tb M k t := by
  unfold x_tb
  rw [h9.1, h9.2.1, h9.2.2, x_sv_m hW.1.2 (fun j a b => h j a (by omega)) hm, x_sv_m (f := 6 * t + 3) hW.2.1.2 (fun j a b => h j (by omega) (by omega)) hm]
theorem x_hold_m {M N : bM} {k p : Int} (hW : W_prog M p) (h7 : N 187 p = M 187 p) (h8 : ∀ m, 0 ≤ m → m < 100 → N 188 (100 * p + m) = M 188 (100 * p + m)) (h9 : ∀ t, 0 ≤ t → t < 12 → N 189 (12 * p + t) = M 189 (12 * p + t) ∧ N 190 (12 * p + t) = M 190 (12 * p + t) ∧ N 191 (12 * p + t) = M 191 (12 * p + t)) (h2 : ∀ j, 72 * p ≤ j → j < 72 * p + 72 → N 192 j = M 192 j ∧ N 193 j = M 193 j) (hm : ∀ w, x_mk N k w = x_mk M k w) : x_hold N p k = x_hold M p k := by
  have e : ∀ i : Nat, (i : Int) ≤ M 187 p → x_hs N p k i = x_hs M p k i := by
    intro i
    induction i with
    | zero => intro _; rfl
    | succ i ih =>
      intro hi
      rw [x_hs_s, x_hs_s, ih (by omega)]
      have st := hW.2.2.1 i (by omega)
      have k100 := hW.1
      unfold x_h1
      rw [h8 i (by omega) (by omega)]
      by_cases z : 0 ≤ M 188 (100 * p + (i : Int))
      · rw [if_pos z, if_pos z, x_tb_m (st.2.1 z) (h9 _ z st.1.2) (fun j a b => h2 j (by omega) (by omega)) hm]
      · rw [if_neg z, if_neg z]
  unfold x_hold
  rw [h7]
  by_cases z : M 187 p = 0
  · rw [if_pos z, if_pos z]
  · rw [if_neg z, if_neg z, e _ (by have := hW.1; omega)]
theorem x_wt_m {M N : bM} {k a : Int} (ha : 1 ≤ a) (hn : M 183 (11 * (a - 1) + 10) ≤ 24) (h3 : N 183 (11 * (a - 1) + 10) = M 183 (11 * (a - 1) + 10)) (h4 : ∀ j, 24 * (a - 1) ≤ j → j < 24 * a → N 184 j = M 184 j ∧ N 185 j = M 185 j ∧ N 187 j = M 187 j) (h8 : ∀ j, 2400 * (a - 1) ≤ j → j < 2400 * a → N 188 j = M 188 j) (h9 : ∀ j, 288 * (a - 1) ≤ j → j < 288 * a → N 189 j = M 189 j ∧ N 190 j = M 190 j ∧ N 191 j = M 191 j) (h2 : ∀ j, 1728 * (a - 1) ≤ j → j < 1728 * a → N 192 j = M 192 j ∧ N 193 j = M 193 j) (hW : ∀ j, 0 ≤ j → j < M 183 (11 * (a - 1) + 10) → W_prog M (24 * (a - 1) + j)) (h194 : N 194 k = M 194 k) (hm : ∀ w, x_mk N k w = x_mk M k w) : x_wt N a k = x_wt M a k := by
  unfold x_wt
  rw [if_neg (by omega), if_neg (by omega), h3]
  refine z_fold_c _ (fun j s hj => ?_)
  have q := h4 (24 * (a - 1) + (j : Int)) (by omega) (by omega)
  have hh := x_hold_m (N := N) (k := k) (hW j (by omega) (by omega)) q.2.2 (fun m m0 m1 => h8 _ (by omega) (by omega)) (fun t t0 t1 => h9 _ (by omega) (by omega)) (fun y y0 y1 => h2 y (by omega) (by omega)) hm
  rw [q.1, q.2.1, h194, hh]
