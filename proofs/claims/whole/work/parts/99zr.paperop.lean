theorem Pc_c {M N : bM} (h7 : N 187 = M 187) (h8 : N 188 = M 188) (h9 : N 189 = M 189) (h0 : N 190 = M 190) (h1 : N 191 = M 191) (h2 : N 192 = M 192) (h3 : N 193 = M 193) : Pc N = Pc M := by
  funext c s e p
  unfold Pc Kc Xc Sc Tc x_q x_sl x_ln x_dep x_d1
  rw [h7, h8, h9, h0, h1, h2, h3]
def S_code : bW := [(4, some 0), (13, some 1), (14, some 1), (15, some 1), (16, some 1), (17, some 1), (18, some 1), (19, some 1), (20, some 1), (33, none), (34, none), (35, none), (36, none), (37, none), (38, none), (39, none), (40, none), (53, none), (54, none), (55, none), (56, none), (57, none), (58, none), (59, none), (60, none), (63, none), (64, none), (65, none), (66, none), (67, none), (68, none), (69, none), (70, none), (1000, none), (184, none), (185, none), (187, none), (188, none), (189, none), (190, none), (191, none), (192, none), (193, none)]
theorem A_code_c {M N : bM} {a : Nat} (hp : Pc N = Pc M) (h4 : N 184 = M 184) (h5 : N 185 = M 185) (k1 : N (12 + a) 1 = M (12 + a) 1) (k2 : N (32 + a) = M (32 + a)) (k4 : N (52 + a) = M (52 + a)) (k5 : N (62 + a) = M (62 + a)) (k6 : N 1000 = M 1000) (h : A_code M a) : A_code N a := by
  unfold A_code at h ⊢
  rw [hp, h4, h5, k1, k2, k4, k5, k6]
  exact h
theorem R_code_k {M N : bM} (h : ∀ c i, b_ins S_code c i = true → N c i = M c i) (h8 : M 4 0 ≤ 8) (hR : R_code M) : R_code N := by
  have hp : Pc N = Pc M := Pc_c (funext fun i => h _ i rfl) (funext fun i => h _ i rfl) (funext fun i => h _ i rfl) (funext fun i => h _ i rfl) (funext fun i => h _ i rfl) (funext fun i => h _ i rfl) (funext fun i => h _ i rfl)
  have h4 : N 184 = M 184 := funext fun i => h _ i rfl
  have h5 : N 185 = M 185 := funext fun i => h _ i rfl
  have k6 : N 1000 = M 1000 := funext fun i => h _ i rfl
  intro a a1 a2
  rw [h 4 0 rfl] at a2
  have hA := hR a a1 a2
  have c : a = 1 ∨ a = 2 ∨ a = 3 ∨ a = 4 ∨ a = 5 ∨ a = 6 ∨ a = 7 ∨ a = 8 := by omega
  rcases c with e | e | e | e | e | e | e | e <;> subst e <;> exact A_code_c hp h4 h5 (h _ _ rfl) (funext fun i => h _ i rfl) (funext fun i => h _ i rfl) (funext fun i => h _ i rfl) k6 hA
/-- no weight without an ACT -/
def R_w0 (M : bM) : Prop := ∀ k, 0 ≤ k → k < 120 → M 124 (9 * k) = 0
def S_w0 : bW := [(124, none)]
theorem R_w0_k {M N : bM} (h : ∀ c i, b_ins S_w0 c i = true → N c i = M c i) (hR : R_w0 M) : R_w0 N := fun k k0 k1 => by rw [h 124 _ rfl]; exact hR k k0 k1
noncomputable def fPW (v1 v2 v3 v4 v5 v6 v7 : Int) (M13 : bM) : Option (Int × bM) := (b_let ((M13 11 53)) (fun y16 => b_g (0 ≤ y16 ∧ y16 < 120) (b_let (b_up M13 194 y16 v1) (fun M18 => b_g (0 ≤ y16 ∧ y16 < 120) (b_let (b_up M18 195 y16 v2) (fun M20 => b_g ((b_i32 (3 * y16)) ∧ (0 ≤ (3 * y16) ∧ (3 * y16) < 360)) (b_let (b_up M20 196 (3 * y16) v3) (fun M23 => b_g ((b_i32 (3 * y16)) ∧ (b_i32 ((3 * y16) + 1)) ∧ (0 ≤ ((3 * y16) + 1) ∧ ((3 * y16) + 1) < 360)) (b_let (b_up M23 196 ((3 * y16) + 1) v4) (fun M27 => b_g ((b_i32 (3 * y16)) ∧ (b_i32 ((3 * y16) + 2)) ∧ (0 ≤ ((3 * y16) + 2) ∧ ((3 * y16) + 2) < 360)) (b_let (b_up M27 196 ((3 * y16) + 2) v5) (fun M31 => b_g (0 ≤ y16 ∧ y16 < 120) (b_let (b_up M31 197 y16 v6) (fun M33 => b_g (0 ≤ y16 ∧ y16 < 120) (b_let (b_up M33 198 y16 v7) (fun M35 => b_g (0 ≤ y16 ∧ y16 < 120) (b_let (b_up M35 199 y16 (M35 11 11)) (fun M37 => b_g (0 ≤ y16 ∧ y16 < 121) (b_let (b_up M37 207 y16 (M37 207 120)) (fun M39 => b_bind (b_loop (fun t => F_X12_paper_s225 y16 t.1 t.2) (0, M39)) (fun t => F_X12_paper_b286 y16 t)))))))))))))))))))))
theorem t_cpP {P : bM} {y : Int} (hy : 0 ≤ y ∧ y < 120) : b_wp (b_loop (fun t : Int × bM => F_X12_paper_s225 y t.1 t.2) (0, P)) (fun O => (∀ c j, c ≠ 205 → c ≠ 206 → O c j = P c j) ∧ (∀ j, O 205 j = if 12 * y ≤ j ∧ j < 12 * y + 12 then P 205 (1440 + (j - 12 * y)) else P 205 j) ∧ ∀ j, O 206 j = if 12 * y ≤ j ∧ j < 12 * y + 12 then P 206 (1440 + (j - 12 * y)) else P 206 j) := by
  refine b_loop_ind (I := fun s : Int × bM => (0 ≤ s.1 ∧ s.1 ≤ 12) ∧ (∀ c j, c ≠ 205 → c ≠ 206 → s.2 c j = P c j) ∧ (∀ j, s.2 205 j = if 12 * y ≤ j ∧ j < 12 * y + s.1 then P 205 (1440 + (j - 12 * y)) else P 205 j) ∧ ∀ j, s.2 206 j = if 12 * y ≤ j ∧ j < 12 * y + s.1 then P 206 (1440 + (j - 12 * y)) else P 206 j) (fun s => (12 - s.1).toNat) ?_ (0, P) ⟨by dsimp only; omega, fun _ _ _ _ => rfl, fun j => by dsimp only; rw [if_neg (by omega)], fun j => by dsimp only; rw [if_neg (by omega)]⟩
  intro ⟨i, Q⟩ ⟨g1, g2, g3, g4⟩
  dsimp only at g1 g2 g3 g4 ⊢
  unfold F_X12_paper_s225
  refine b_Wi (fun a => b_Ws ?_) (fun a => b_Wg (by omega) (b_Wl (b_Wg (by omega) (b_Wl (b_Wg (by omega) (b_Ws ?_))))))
  · rw [show i = 12 by omega] at g3 g4
    exact ⟨g2, g3, g4⟩
  · refine ⟨⟨by dsimp only; omega, fun c j h1 h2 => ?_, fun j => ?_, fun j => ?_⟩, by dsimp only; omega⟩
    · dsimp only; rw [b_upc h2, b_upc h1]; exact g2 c j h1 h2
    · dsimp only
      rw [b_upc (by decide), b_upJ]
      by_cases e : j = 12 * y + i
      · rw [if_pos e, if_pos (by omega), g3, if_neg (by omega), show j - 12 * y = i by omega]
      · rw [if_neg e, g3]
        by_cases e2 : 12 * y ≤ j ∧ j < 12 * y + i
        · rw [if_pos e2, if_pos (by omega)]
        · rw [if_neg e2, if_neg (by omega)]
    · dsimp only
      rw [b_upJ, b_upc (by decide)]
      by_cases e : j = 12 * y + i
      · rw [if_pos e, if_pos (by omega), g4, if_neg (by omega), show j - 12 * y = i by omega]
      · rw [if_neg e, b_upc (by decide), g4]
        by_cases e2 : 12 * y ≤ j ∧ j < 12 * y + i
        · rw [if_pos e2, if_pos (by omega)]
        · rw [if_neg e2, if_neg (by omega)]
def W_pw : bW := [(11, some 53), (194, none), (195, none), (196, none), (197, none), (198, none), (199, none), (205, none), (206, none), (207, none)]
theorem t_fPW {R : bM} {v1 v2 v3 v4 v5 v6 v7 y : Int} (e53 : R 11 53 = y) (hy : 0 ≤ y ∧ y < 120) : b_wp (fPW v1 v2 v3 v4 v5 v6 v7 R) (fun o => o.1 = y ∧ b_fr W_pw R o.2 ∧ o.2 11 53 = y + 1 ∧ (∀ j, o.2 194 j = if j = y then v1 else R 194 j) ∧ (∀ j, o.2 195 j = if j = y then v2 else R 195 j) ∧ (∀ j, o.2 196 j = if j = 3 * y + 2 then v5 else if j = 3 * y + 1 then v4 else if j = 3 * y then v3 else R 196 j) ∧ (∀ j, o.2 197 j = if j = y then v6 else R 197 j) ∧ (∀ j, o.2 198 j = if j = y then v7 else R 198 j) ∧ (∀ j, o.2 199 j = if j = y then R 11 11 else R 199 j) ∧ (∀ j, o.2 207 j = if j = y then R 207 120 else R 207 j) ∧ (∀ j, o.2 205 j = if 12 * y ≤ j ∧ j < 12 * y + 12 then R 205 (1440 + (j - 12 * y)) else R 205 j) ∧ ∀ j, o.2 206 j = if 12 * y ≤ j ∧ j < 12 * y + 12 then R 206 (1440 + (j - 12 * y)) else R 206 j) := by
  unfold fPW
  rw [e53]
  refine b_Wl (b_Wg (by omega) (b_Wl (b_Wg (by omega) (b_Wl (b_Wg (by omega) (b_Wl (b_Wg (by omega) (b_Wl (b_Wg (by omega) (b_Wl (b_Wg (by omega) (b_Wl (b_Wg (by omega) (b_Wl (b_Wg (by omega) (b_Wl (b_Wg (by omega) (b_Wl ?_))))))))))))))))))
  generalize hA : b_up (b_up (b_up (b_up (b_up (b_up (b_up R 194 y v1) 195 y v2) 196 (3 * y) v3) 196 (3 * y + 1) v4) 196 (3 * y + 2) v5) 197 y v6) 198 y v7 = A
  have fA : b_fr W_pw R A := by subst hA; exact b_frA (b_frA (b_frA (b_frA (b_frA (b_frA (b_frA b_fr_refl (by decide)) (by decide)) (by decide)) (by decide)) (by decide)) (by decide)) (by decide)
  have a194 : ∀ j, A 194 j = if j = y then v1 else R 194 j := fun j => by subst hA; rw [b_upc (by decide), b_upc (by decide), b_upc (by decide), b_upc (by decide), b_upc (by decide), b_upc (by decide), b_upJ]
  have a195 : ∀ j, A 195 j = if j = y then v2 else R 195 j := fun j => by subst hA; rw [b_upc (by decide), b_upc (by decide), b_upc (by decide), b_upc (by decide), b_upc (by decide), b_upJ, b_upc (by decide)]
  have a196 : ∀ j, A 196 j = if j = 3 * y + 2 then v5 else if j = 3 * y + 1 then v4 else if j = 3 * y then v3 else R 196 j := fun j => by subst hA; rw [b_upc (by decide), b_upc (by decide), b_upJ, b_upJ, b_upJ, b_upc (by decide), b_upc (by decide)]
  have a197 : ∀ j, A 197 j = if j = y then v6 else R 197 j := fun j => by subst hA; rw [b_upc (by decide), b_upJ, b_upc (by decide), b_upc (by decide), b_upc (by decide), b_upc (by decide), b_upc (by decide)]
  have a198 : ∀ j, A 198 j = if j = y then v7 else R 198 j := fun j => by subst hA; rw [b_upJ, b_upc (by decide), b_upc (by decide), b_upc (by decide), b_upc (by decide), b_upc (by decide), b_upc (by decide)]
  have ao : ∀ c j, c ≠ 194 → c ≠ 195 → c ≠ 196 → c ≠ 197 → c ≠ 198 → A c j = R c j := fun c j h1 h2 h3 h4 h5 => by subst hA; rw [b_upc h5, b_upc h4, b_upc h3, b_upc h3, b_upc h3, b_upc h2, b_upc h1]
  clear hA
  rw [ao 11 11 (by decide) (by decide) (by decide) (by decide) (by decide)]
  generalize hB : b_up A 199 y (R 11 11) = B
  have fB : b_fr W_pw R B := by subst hB; exact b_frA fA (by decide)
  have b199 : ∀ j, B 199 j = if j = y then R 11 11 else R 199 j := fun j => by subst hB; rw [b_upJ, ao 199 j (by decide) (by decide) (by decide) (by decide) (by decide)]
  have bo : ∀ c j, c ≠ 199 → B c j = A c j := fun c j h => by subst hB; exact b_upc h
  clear hB
  rw [bo 207 120 (by decide), ao 207 120 (by decide) (by decide) (by decide) (by decide) (by decide)]
  generalize hD : b_up B 207 y (R 207 120) = D
  have fD : b_fr W_pw R D := by subst hD; exact b_frA fB (by decide)
  have d207 : ∀ j, D 207 j = if j = y then R 207 120 else R 207 j := fun j => by subst hD; rw [b_upJ, bo 207 j (by decide), ao 207 j (by decide) (by decide) (by decide) (by decide) (by decide)]
  have dO : ∀ c j, c ≠ 207 → D c j = B c j := fun c j h => by subst hD; exact b_upc h
  clear hD
  have dR : ∀ c j, c ≠ 207 → c ≠ 199 → c ≠ 194 → c ≠ 195 → c ≠ 196 → c ≠ 197 → c ≠ 198 → D c j = R c j := fun c j h1 h2 h3 h4 h5 h6 h7 => by rw [dO c j h1, bo c j h2, ao c j h3 h4 h5 h6 h7]
  refine b_Wb (b_wp_m (fun O z => ?_) (t_cpP hy))
  obtain ⟨z1, z2, z3⟩ := z
  have fO : b_fr W_pw R O := by
    intro c j hc
    have n5 : c ≠ 205 := fun q => by subst q; revert hc; simp [b_ins, W_pw]
    have n6 : c ≠ 206 := fun q => by subst q; revert hc; simp [b_ins, W_pw]
    rw [z1 c j n5 n6]
    exact fD c j hc
  have o53 : O 11 53 = y := by rw [z1 11 53 (by decide) (by decide), dR 11 53 (by decide) (by decide) (by decide) (by decide) (by decide) (by decide) (by decide)]; exact e53
  show b_wp (F_X12_paper_b286 y O) _
  unfold F_X12_paper_b286
  rw [o53]
  refine b_Wg (by omega) (b_Wl (b_Ws ⟨rfl, b_frF fO (by decide), (show b_up O 11 53 (y + 1) 11 53 = y + 1 from b_ups), fun j => ?_, fun j => ?_, fun j => ?_, fun j => ?_, fun j => ?_, fun j => ?_, fun j => ?_, fun j => ?_, fun j => ?_⟩))
  · dsimp only; rw [b_upc (by decide), z1 _ _ (by decide) (by decide), dO _ _ (by decide), bo _ _ (by decide)]; exact a194 j
  · dsimp only; rw [b_upc (by decide), z1 _ _ (by decide) (by decide), dO _ _ (by decide), bo _ _ (by decide)]; exact a195 j
  · dsimp only; rw [b_upc (by decide), z1 _ _ (by decide) (by decide), dO _ _ (by decide), bo _ _ (by decide)]; exact a196 j
  · dsimp only; rw [b_upc (by decide), z1 _ _ (by decide) (by decide), dO _ _ (by decide), bo _ _ (by decide)]; exact a197 j
  · dsimp only; rw [b_upc (by decide), z1 _ _ (by decide) (by decide), dO _ _ (by decide), bo _ _ (by decide)]; exact a198 j
  · dsimp only; rw [b_upc (by decide), z1 _ _ (by decide) (by decide), dO _ _ (by decide)]; exact b199 j
  · dsimp only; rw [b_upc (by decide), z1 _ _ (by decide) (by decide)]; exact d207 j
  · dsimp only
    rw [b_upc (by decide), z2 j]
    by_cases e : 12 * y ≤ j ∧ j < 12 * y + 12
    · rw [if_pos e, if_pos e, dR _ _ (by decide) (by decide) (by decide) (by decide) (by decide) (by decide) (by decide)]
    · rw [if_neg e, if_neg e, dR _ _ (by decide) (by decide) (by decide) (by decide) (by decide) (by decide) (by decide)]
  · dsimp only
    rw [b_upc (by decide), z3 j]
    by_cases e : 12 * y ≤ j ∧ j < 12 * y + 12
    · rw [if_pos e, if_pos e, dR _ _ (by decide) (by decide) (by decide) (by decide) (by decide) (by decide) (by decide)]
    · rw [if_neg e, if_neg e, dR _ _ (by decide) (by decide) (by decide) (by decide) (by decide) (by decide) (by decide)]
def W_fail : bW := [(1, some 1), (1, some 2), (1, some 3), (1, some 4), (1, some 7), (1, some 8), (5, some 16), (73, none), (74, none), (75, none), (122, none), (123, none), (11, some 1), (11, some 2), (11, some 3), (11, some 4), (11, some 5), (11, some 6), (11, some 7), (11, some 10), (205, none), (206, none), (207, none)]
theorem x_mu_r {c : Int → Int} {n : Int} {m : Nat} (hB : z_B c n) (h : Gm c m) : 0 ≤ x_mu c m ∧ x_mu c m ≤ 9999 := by
  unfold x_mu
  by_cases e : Me c m
  · rw [if_pos e]
    rcases h.2.2.2 with y | y
    · exact t_v_2 hB y.2.1
    · exact absurd e y.1
  · rw [if_neg e]; omega
theorem Mo_r {c : Int → Int} {v : Int} (h : Mo c v) : ∀ j : Nat, (j : Int) < v → Gm c j := by
  obtain ⟨m, h1, h2, h3⟩ := h
  intro j hj
  rcases h3 with y | y
  · exact h2 j (by omega)
  · omega
