/-! what the sums and what is SHOWN depend on -/
def S_spec : bW := [(5, some 0), (11, some 13), (11, some 35), (11, some 53), (11, some 54), (163, none), (164, none), (165, none), (166, none), (167, none), (170, none), (171, none), (182, none), (183, none), (184, none), (185, none), (187, none), (188, none), (189, none), (190, none), (191, none), (192, none), (193, none), (194, none), (195, none), (196, none), (197, none), (198, none), (199, none), (200, none), (201, none), (202, none), (203, none), (204, none), (205, none), (206, none), (207, none)]
def SS (M N : bM) : Prop := ∀ c i, b_ins S_spec c i = true → N c i = M c i
theorem SS_t {M N P : bM} (h1 : SS M N) (h2 : SS N P) : SS M P := fun c i h => (h2 c i h).trans (h1 c i h)
theorem SS_tel {M N : bM} (h : SS M N) : ∀ k, 0 ≤ k → k < M 11 13 → N 164 k = M 164 k ∧ N 165 k = M 165 k ∧ N 166 k = M 166 k ∧ N 167 k = M 167 k := fun k _ _ => ⟨h _ _ rfl, h _ _ rfl, h _ _ rfl, h _ _ rfl⟩
theorem sp_lab {M N : bM} (h : SS M N) (d : Int) : x_lab N d = x_lab M d := x_lab_c (h 11 13 rfl) (SS_tel h)
theorem sp_dea {M N : bM} (h : SS M N) (d : Int) : x_dea N d = x_dea M d := x_dea_c (h 11 13 rfl) (SS_tel h)
theorem sp_chi {M N : bM} (h : SS M N) (d g c : Int) : x_chi N d g c ↔ x_chi M d g c := x_chi_c (h 11 13 rfl) (SS_tel h) g c
theorem sp_cant {M N : bM} (h : SS M N) (d : Int) : x_cant N d = x_cant M d := by
  funext k
  refine x_cant_c (h 11 13 rfl) (SS_tel h) (h 11 54 rfl) ?_ ?_ ?_ ?_ ?_ ?_ ?_ ?_ ?_ ?_ ?_ ?_
  all_goals exact funext fun i => h _ i rfl
theorem sp_act {M N : bM} (h : SS M N) (d : Int) : x_act N d = x_act M d := by
  have e : ∀ n : Nat, x_af N d n = x_af M d n := by
    intro n
    induction n with
    | zero => rfl
    | succ n ih => unfold x_af; rw [ih, h 182 n rfl]
  unfold x_act
  rw [e, h 11 35 rfl]
theorem sp_rule {M N : bM} (h : SS M N) (d : Int) : x_rule N d = x_rule M d := by
  funext i
  unfold x_rule
  rw [sp_act h, h 183 _ rfl]
theorem sp_c {M N : bM} (h : SS M N) (c : Nat) (hc : ∀ i, b_ins S_spec c i = true) : N c = M c := funext fun i => h c i (hc i)
theorem sp_wt {M N : bM} (h : SS M N) : x_wt N = x_wt M := by
  have e1 : x_mk N = x_mk M := by
    funext k w
    unfold x_mk
    rw [sp_c h 205 (fun _ => rfl), sp_c h 206 (fun _ => rfl), sp_c h 207 (fun _ => rfl)]
  have e2 : x_tv N = x_tv M := by
    funext k t
    unfold x_tv
    rw [sp_c h 192 (fun _ => rfl), sp_c h 193 (fun _ => rfl), e1]
  have e3 : x_sv N = x_sv M := by
    funext k f m
    unfold x_sv
    rw [e2]
  have e4 : x_tb N = x_tb M := by
    funext k t
    unfold x_tb
    rw [sp_c h 189 (fun _ => rfl), sp_c h 190 (fun _ => rfl), sp_c h 191 (fun _ => rfl), e3]
  have e5 : x_h1 N = x_h1 M := by
    funext p k i s
    unfold x_h1
    rw [sp_c h 188 (fun _ => rfl), e4]
  have e6 : x_hold N = x_hold M := by
    funext p k
    unfold x_hold x_hs
    rw [sp_c h 187 (fun _ => rfl), e5]
  funext a k
  unfold x_wt
  rw [sp_c h 184 (fun _ => rfl), sp_c h 185 (fun _ => rfl), sp_c h 183 (fun _ => rfl), sp_c h 194 (fun _ => rfl), e6]
theorem sp_T {M N : bM} (h : SS M N) (d : Int) : x_T N d = x_T M d := by
  funext w k
  unfold x_T
  rw [sp_c h 196 (fun _ => rfl), sp_lab h]
theorem sp_W {M N : bM} (h : SS M N) (d : Int) : x_W N d = x_W M d := by
  funext b k
  unfold x_W x_C
  rw [sp_cant h, sp_c h 195 (fun _ => rfl), sp_c h 199 (fun _ => rfl)]
theorem sp_sum {M N : bM} (h : SS M N) (d : Int) : x_sum N d = x_sum M d := by
  funext b w t
  unfold x_sum x_sn x_on
  simp only [x_W, x_C, sp_T h, sp_wt h, sp_act h, sp_rule h, sp_cant h, sp_c h 194 (fun _ => rfl), sp_c h 195 (fun _ => rfl), sp_c h 199 (fun _ => rfl), h 11 53 rfl]
theorem sp_fin {M N : bM} (h : SS M N) {d b w v p q : Int} (hf : x_fin M d b w v p q) : x_fin N d b w v p q := by
  unfold x_fin x_gd at hf ⊢
  simp only [x_W, x_C] at hf
  simp only [x_W, x_C, sp_T h, sp_sum h, sp_rule h, sp_cant h, sp_c h 195 (fun _ => rfl), sp_c h 196 (fun _ => rfl), sp_c h 199 (fun _ => rfl), h 5 0 rfl]
  exact hf
/-- the SPAN of a BURNT one -/
def x_sps (M : bM) (d b k : Int) (s : Int × Int) : Int × Int := if x_W M d b k ∧ 0 < x_wt M (x_act M d) k then (max s.1 (M 197 k), min s.2 (M 198 k)) else s
def x_spf (M : bM) (d b : Int) (n : Nat) : Int × Int := z_fold (x_sps M d b) (0, 9999) n
def x_sp (M : bM) (d b : Int) : Int × Int := x_spf M d b (M 11 53).toNat
theorem sp_sp {M N : bM} (h : SS M N) (d : Int) : x_sp N d = x_sp M d := by
  funext b
  have e : x_sps N d = x_sps M d := by
    funext b k s
    unfold x_sps
    simp only [x_W, x_C, sp_wt h, sp_act h, sp_cant h, sp_c h 195 (fun _ => rfl), sp_c h 197 (fun _ => rfl), sp_c h 198 (fun _ => rfl), sp_c h 199 (fun _ => rfl)]
  unfold x_sp x_spf
  rw [e, h 11 53 rfl]
def x_qb (x w q : Int) : Int := if q = 1 then i_or x (i_shl 1 w) else x
/-- the facts of a BURNT one, as the class keeps them -/
def Ef (M : bM) (d b : Int) (F : Int → Int) : Prop := ∃ v0 p0 q0 v1 p1 q1 v2 p2 q2, x_fin M d b 0 v0 p0 q0 ∧ x_fin M d b 1 v1 p1 q1 ∧ x_fin M d b 2 v2 p2 q2 ∧ F (10 * b) = v0 ∧ F (10 * b + 1) = v1 ∧ F (10 * b + 2) = v2 ∧ F (10 * b + 3) = (if (x_sp M d b).2 < (x_sp M d b).1 then 0 else (x_sp M d b).1) ∧ F (10 * b + 4) = (if (x_sp M d b).2 < (x_sp M d b).1 then 9999 else (x_sp M d b).2) ∧ F (10 * b + 5) = p0 ∧ F (10 * b + 6) = p1 ∧ F (10 * b + 7) = p2 ∧ F (10 * b + 8) = min p0 (min p1 p2) ∧ F (10 * b + 9) = (if (x_sp M d b).2 < (x_sp M d b).1 then i_or (x_qb (x_qb (x_qb 0 0 q0) 1 q1) 2 q2) 8 else x_qb (x_qb (x_qb 0 0 q0) 1 q1) 2 q2)
theorem sp_Ef {M N : bM} (h : SS M N) {d b : Int} {F : Int → Int} (hf : Ef M d b F) : Ef N d b F := by
  obtain ⟨v0, p0, q0, v1, p1, q1, v2, p2, q2, f0, f1, f2, r⟩ := hf
  refine ⟨v0, p0, q0, v1, p1, q1, v2, p2, q2, sp_fin h f0, sp_fin h f1, sp_fin h f2, ?_⟩
  rw [sp_sp h]
  exact r
def x_wsp (F : Int → Int) (b a z : Int) : Int → Int := fun j => if z < a then (if j = 10 * b + 9 then i_or (F (10 * b + 9)) 8 else if j = 10 * b + 4 then 9999 else if j = 10 * b + 3 then 0 else F j) else if j = 10 * b + 4 then z else if j = 10 * b + 3 then a else F j
theorem t_fsp {M N : bM} {d b : Int} (hB : E_b M d) (hN : E_n M N) (hb : 0 ≤ b ∧ b < 30) (hW : E_w M d b (M 5 0) (N 128) (N 6 11)) : b_wp (F_X4_findSpan (b * 10) N) (fun P => (∀ c j, c ≠ 126 → P c j = N c j) ∧ P 126 = x_wsp (N 126) b (x_sp M d b).1 (x_sp M d b).2) := by
  have s1 := hB.2.2.1.1
  have hm := hW.1
  have fsp : ∀ k s, ¬ x_W M d b k → x_sps M d b k s = s := fun k s z => if_neg (fun y => z y.1)
  unfold F_X4_findSpan
  refine b_Wb (b_wp_m (fun o y => ?_) (b_loop_ind (P := fun o : Int × Int => o = x_sp M d b) (I := fun s : Int × Int × Int => (0 ≤ s.2.2 ∧ s.2.2 ≤ N 6 11) ∧ (s.1, s.2.1) = x_spf M d b (E_u (N 128) s.2.2).toNat) (fun s => (N 6 11 - s.2.2).toNat) ?_ (0, 9999, 0) ⟨by dsimp only; omega, rfl⟩))
  · subst y
    generalize x_sp M d b = sp
    obtain ⟨a, z⟩ := sp
    dsimp only
    unfold F_X4_findSpan_b79 F_X4_findSpan_b89 F_X4_findSpan_b108 F_X4_findSpan_b128
    refine b_Wi (fun q => b_Wg (by omega) (b_Wt rfl (b_Wg (by omega) (b_Wl (b_Wg (by omega) (b_Wt rfl (b_Wg (by omega) (b_Wl (b_Wt rfl (b_Ws ⟨fun c j hc => ?_, ?_⟩))))))))) ) (fun q => b_Wg (by omega) (b_Wf (by decide) (b_Wg (by omega) (b_Wl (b_Wg (by omega) (b_Wf (by decide) (b_Wg (by omega) (b_Wl (b_Wf (by decide) (b_Wg (by omega) (b_Wl (b_Ws ⟨fun c j hc => ?_, ?_⟩))))))))))))
    · rw [b_upc hc, b_upc hc]
    · funext j
      unfold x_wsp
      rw [if_neg (show ¬ z < a by omega), b_upJ, b_upJ, show b * 10 + 4 = 10 * b + 4 by omega, show b * 10 + 3 = 10 * b + 3 by omega]
    · rw [b_upc hc, b_upc hc, b_upc hc]
    · funext j
      unfold x_wsp
      have e9 : b_up (b_up N 126 (b * 10 + 3) 0) 126 (b * 10 + 4) 9999 126 (b * 10 + 9) = N 126 (b * 10 + 9) := by rw [b_upi (by omega), b_upi (by omega)]
      rw [if_pos (show z < a by omega), e9, b_upJ, b_upJ, b_upJ, show b * 10 + 4 = 10 * b + 4 by omega, show b * 10 + 3 = 10 * b + 3 by omega, show b * 10 + 9 = 10 * b + 9 by omega]
  · intro ⟨a, z, i⟩ ⟨h1, h2⟩
    dsimp only at h1 h2 ⊢
    unfold F_X4_findSpan_s9
    by_cases q : N 6 11 ≤ i
    · refine b_Wt q (b_Ws (show (a, z) = _ from ?_))
      rw [h2, show i = N 6 11 by omega]
      unfold x_sp x_spf
      rw [show M 11 53 = M 5 0 by omega]
      exact (E_w_l hW fsp).symm
    · have hk := hW.2.1 i h1.1 (by omega)
      have e1 : x_spf M d b (E_u (N 128) (i + 1)).toNat = x_sps M d b (N 128 i) (a, z) := by
        rw [h2]
        exact E_w_f hW fsp ⟨h1.1, by omega⟩
      have p4 := (hB.2.2.2.1 (N 128 i) hk.1.1 hk.1.2).2.2.2.1
      have n113 := E_nf hN 113 (by decide) (by decide) (by decide) (by decide)
      have n114 := E_nf hN 114 (by decide) (by decide) (by decide) (by decide)
      refine b_Wf q (b_Wg (by omega) (b_Wl (b_We (e_X7_wb hB hN hk.1) (b_Wi (fun q1 => b_Wg (by omega) (b_Ws ⟨⟨by dsimp only; omega, ?_⟩, by dsimp only; omega⟩)) (fun q1 => b_Wg (by omega) (b_Wl (b_Wg (by omega) (b_Wl (b_Wg (by omega) (b_Ws ⟨⟨by dsimp only; omega, ?_⟩, by dsimp only; omega⟩))))))))))
      · dsimp only
        rw [e1]
        unfold x_sps
        rw [if_neg (fun y => by omega)]
      · dsimp only
        rw [e1]
        unfold x_sps
        rw [if_pos ⟨hk.2, by omega⟩, n113, n114, p4.1, p4.2.1]
