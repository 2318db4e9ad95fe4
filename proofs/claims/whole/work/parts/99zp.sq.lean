/-! what evidence rests on, row by row -/
def S_sq : bW := [(5, some 0), (11, some 13), (11, some 35), (11, some 53), (11, some 54), (164, none), (165, none), (166, none), (167, none), (182, none), (183, none), (184, none), (185, none), (187, none), (188, none), (189, none), (190, none), (191, none), (192, none), (193, none), (194, none), (195, none), (196, none), (197, none), (198, none), (199, none), (200, none), (201, none), (202, none), (203, none), (204, none)]
def Sb (M N : bM) : Prop := ∀ c i, b_ins S_sq c i = true → N c i = M c i
def Sq (M N : bM) : Prop := Sb M N ∧ M 11 53 = M 5 0 ∧ ∀ k, 0 ≤ k → k < M 5 0 → (∀ d, x_cant N d k = x_cant M d k) ∧ ∀ a, x_wt N a k = x_wt M a k
theorem sq_c {M N : bM} (h : Sb M N) (c : Nat) (hc : ∀ i, b_ins S_sq c i = true) : N c = M c := funext fun i => h c i (hc i)
theorem sq_lab {M N : bM} (h : Sb M N) (d : Int) : x_lab N d = x_lab M d := x_lab_c (h 11 13 rfl) (fun k _ _ => ⟨h _ _ rfl, h _ _ rfl, h _ _ rfl, h _ _ rfl⟩)
theorem sq_dea {M N : bM} (h : Sb M N) (d : Int) : x_dea N d = x_dea M d := x_dea_c (h 11 13 rfl) (fun k _ _ => ⟨h _ _ rfl, h _ _ rfl, h _ _ rfl, h _ _ rfl⟩)
theorem sq_act {M N : bM} (h : Sb M N) (d : Int) : x_act N d = x_act M d := by
  have e : ∀ n : Nat, x_af N d n = x_af M d n := by
    intro n
    induction n with
    | zero => rfl
    | succ n ih => unfold x_af; rw [ih, h 182 n rfl]
  unfold x_act
  rw [e, h 11 35 rfl]
theorem sq_rule {M N : bM} (h : Sb M N) (d : Int) : x_rule N d = x_rule M d := by
  funext i
  unfold x_rule
  rw [sq_act h, sq_c h 183 (fun _ => rfl)]
theorem sq_T {M N : bM} (h : Sb M N) (d : Int) : x_T N d = x_T M d := by
  funext w k
  unfold x_T
  rw [sq_c h 196 (fun _ => rfl), sq_lab h]
theorem sq_W {M N : bM} (h : Sq M N) {d b k : Int} (hk : 0 ≤ k ∧ k < M 5 0) : x_W N d b k ↔ x_W M d b k := by
  unfold x_W x_C
  rw [(h.2.2 k hk.1 hk.2).1, sq_c h.1 195 (fun _ => rfl), sq_c h.1 199 (fun _ => rfl)]
theorem sq_n {M N : bM} (h : Sq M N) : (N 11 53).toNat = (M 5 0).toNat := by rw [h.1 11 53 rfl, h.2.1]
theorem b_iteC {α : Type} {P Q : Prop} [Decidable P] [Decidable Q] {x y x2 y2 : α} (h : P ↔ Q) (hx : x = x2) (hy : y = y2) : (if P then x else y) = (if Q then x2 else y2) := by
  subst hx hy
  by_cases q : Q
  · rw [if_pos q, if_pos (h.mpr q)]
  · rw [if_neg q, if_neg (fun p => q (h.mp p))]
theorem sq_sum {M N : bM} (h : Sq M N) (d : Int) : x_sum N d = x_sum M d := by
  funext b w t
  have e1 : x_sn N d b w t (N 11 53).toNat = x_sn M d b w t (M 11 53).toNat := by
    rw [sq_n h, h.2.1]
    unfold x_sn
    refine z_fold_c _ (fun i x hi => ?_)
    have hk : 0 ≤ (i : Int) ∧ (i : Int) < M 5 0 := by omega
    refine b_iteC ?_ ?_ rfl
    · rw [sq_W h hk, sq_T h.1, sq_c h.1 194 (fun _ => rfl)]
    · rw [(h.2.2 i hk.1 hk.2).2, sq_act h.1]
  have e2 : ∀ v, x_on N d b w t v (N 11 53).toNat = x_on M d b w t v (M 11 53).toNat := by
    intro v
    rw [sq_n h, h.2.1]
    unfold x_on
    refine z_fold_c _ (fun i x hi => ?_)
    have hk : 0 ≤ (i : Int) ∧ (i : Int) < M 5 0 := by omega
    refine b_iteC ?_ rfl rfl
    rw [sq_W h hk, sq_T h.1, sq_c h.1 194 (fun _ => rfl), (h.2.2 i hk.1 hk.2).2, sq_act h.1]
  unfold x_sum
  rw [e1, sq_rule h.1, show (fun v => x_on N d b w t v (N 11 53).toNat) = (fun v => x_on M d b w t v (M 11 53).toNat) from funext e2]
theorem sq_gd {M N : bM} (h : Sq M N) (d b w : Int) : x_gd N d b w = x_gd M d b w := by
  funext k
  unfold x_gd
  rw [h.1 5 0 rfl, sq_T h.1]
  refine propext ⟨fun z => ⟨z.1, (sq_W h z.1).mp z.2.1, z.2.2⟩, fun z => ⟨z.1, (sq_W h z.1).mpr z.2.1, z.2.2⟩⟩
theorem sq_fin {M N : bM} (h : Sq M N) {d b w v p q : Int} (hf : x_fin M d b w v p q) : x_fin N d b w v p q := by
  unfold x_fin at hf ⊢
  rw [sq_gd h, sq_sum h, sq_T h.1, sq_rule h.1, sq_c h.1 196 (fun _ => rfl)]
  exact hf
theorem sq_sp {M N : bM} (h : Sq M N) (d : Int) : x_sp N d = x_sp M d := by
  funext b
  unfold x_sp x_spf
  rw [sq_n h, h.2.1]
  refine z_fold_c _ (fun i x hi => ?_)
  have hk : 0 ≤ (i : Int) ∧ (i : Int) < M 5 0 := by omega
  unfold x_sps
  refine b_iteC ?_ ?_ rfl
  · rw [sq_W h hk, (h.2.2 i hk.1 hk.2).2, sq_act h.1]
  · rw [sq_c h.1 197 (fun _ => rfl), sq_c h.1 198 (fun _ => rfl)]
theorem sq_Ef {M N : bM} (h : Sq M N) {d b : Int} {F : Int → Int} (hf : Ef M d b F) : Ef N d b F := by
  obtain ⟨v0, p0, q0, v1, p1, q1, v2, p2, q2, f0, f1, f2, r⟩ := hf
  refine ⟨v0, p0, q0, v1, p1, q1, v2, p2, q2, sq_fin h f0, sq_fin h f1, sq_fin h f2, ?_⟩
  rw [sq_sp h]
  exact r
theorem sq_Evc {M N : bM} {d : Int} (hs : Sq M N) (h0 : N 6 0 = M 6 0) (h7 : N 6 7 = M 6 7) (h126 : N 126 = M 126) (h127 : N 127 = M 127) (h : Evc M d) : Evc N d := by
  obtain ⟨a1, a2, a3, a4⟩ := h
  refine ⟨a1, by rw [h7, sq_act hs.1]; exact a2, fun k k0 k1 => ?_, fun b b0 b1 => ?_⟩
  · rw [hs.1 5 0 rfl] at k1
    have := a3 k k0 k1
    rw [h127]
    refine ⟨this.1, this.2.trans ?_⟩
    unfold x_C
    rw [(hs.2.2 k k0 k1).1, sq_c hs.1 199 (fun _ => rfl)]
  · rw [h0] at b1
    rw [h126]
    exact sq_Ef hs (a4 b b0 b1)
def S_ev0 : bW := [(6, some 0), (6, some 5), (6, some 6), (6, some 7), (126, none), (127, none)]
theorem sq_ev {M N : bM} (hs : Sq M N) (h : ∀ c i, b_ins S_ev0 c i = true → N c i = M c i) (hR : R_ev M) : R_ev N := by
  unfold R_ev at hR ⊢
  rw [h 6 5 rfl, h 6 6 rfl]
  rcases hR with q | ⟨q, q2⟩
  · exact Or.inl q
  · exact Or.inr ⟨q, sq_Evc hs (h 6 0 rfl) (h 6 7 rfl) (funext fun i => h 126 i rfl) (funext fun i => h 127 i rfl) q2⟩
theorem sq_wts {M N : bM} (hs : Sq M N) (h4 : N 4 0 = M 4 0) (h124 : N 124 = M 124) (hR : R_wts M) : R_wts N := by
  intro k k0 k1 a a0 a1
  rw [hs.1 5 0 rfl] at k1
  rw [h4] at a1
  rw [h124, (hs.2.2 k k0 k1).2]
  exact hR k k0 k1 a a0 a1
/-- x_cant by rows that a PAPER names -/
theorem sq_cant {M N : bM} {k : Int} (h : Sb M N) (hp : ∀ p, 0 ≤ p → p < M 2 0 → N 163 p = M 163 p) (hl : ∀ l, 0 ≤ l → l < M 3 0 → N 170 l = M 170 l ∧ N 171 l = M 171 l) (hP : R_pap M) (hS : R_sign M) (hk : 0 ≤ k ∧ k < M 5 0) (d : Int) : x_cant N d k = x_cant M d k := by
  obtain ⟨p1, p2, p3, p4, p5, p6, p7, p8⟩ := hP k hk.1 hk.2
  have e : x_pf N d k = x_pf M d k := by
    funext n
    unfold x_pf x_ps
    rw [sq_c h 200 (fun _ => rfl), sq_c h 199 (fun _ => rfl), sq_c h 203 (fun _ => rfl), sq_c h 204 (fun _ => rfl)]
  have s := hS.2.1 k hk.1 hk.2
  unfold x_cant x_out x_gone
  rw [sq_lab h, sq_dea h, e, h 11 54 rfl, sq_c h 200 (fun _ => rfl), sq_c h 201 (fun _ => rfl), sq_c h 202 (fun _ => rfl), sq_c h 196 (fun _ => rfl), sq_c h 197 (fun _ => rfl), sq_c h 198 (fun _ => rfl)]
  refine b_iteC ?_ rfl (b_iteC ?_ rfl (b_iteC ?_ rfl (b_iteC ?_ rfl rfl)))
  · refine and_congr_right (fun z => ?_)
    rw [hp (M 201 k) (by omega) (by omega)]
  · refine and_congr_right (fun z => ?_)
    rw [(hl (M 196 (3 * k + 2)) (by omega) (by omega)).1, (hl (M 196 (3 * k + 2)) (by omega) (by omega)).2]
  · refine and_congr_right (fun z => ?_)
    rw [hp (M 196 (3 * k)) (by omega) (by omega)]
  · refine and_congr_right (fun z => ?_)
    rw [hp (M 196 (3 * k + 1)) (by omega) (by omega)]
theorem x_mk_c {M N : bM} {k : Int} (h7 : N 207 k = M 207 k) (hm : ∀ i, 0 ≤ i → i < M 207 k → N 205 (12 * k + i) = M 205 (12 * k + i) ∧ N 206 (12 * k + i) = M 206 (12 * k + i)) (w : Int) : x_mk N k w = x_mk M k w := by
  unfold x_mk
  rw [h7]
  refine z_fold_c _ (fun i x hi => ?_)
  obtain ⟨a, b⟩ := hm i (by omega) (by omega)
  rw [a, b]
/-- weights by the rows of one PAPER -/
theorem x_wt_c {M N : bM} {k : Int} (h3 : N 183 = M 183) (h4 : N 184 = M 184) (h5 : N 185 = M 185) (h7 : N 187 = M 187) (h8 : N 188 = M 188) (h9 : N 189 = M 189) (h0 : N 190 = M 190) (h1 : N 191 = M 191) (h2 : N 192 = M 192) (h33 : N 193 = M 193) (h194 : N 194 k = M 194 k) (hm : ∀ w, x_mk N k w = x_mk M k w) (a : Int) : x_wt N a k = x_wt M a k := by
  have e2 : x_tv N k = x_tv M k := by
    funext t
    unfold x_tv
    rw [h2, h33, hm]
  have e3 : x_sv N k = x_sv M k := by
    funext f m
    unfold x_sv
    rw [e2]
  have e4 : x_tb N k = x_tb M k := by
    funext t
    unfold x_tb
    rw [h9, h0, h1, e3]
  have e5 : ∀ p, x_h1 N p k = x_h1 M p k := by
    intro p
    funext i s
    unfold x_h1
    rw [h8, e4]
  have e6 : ∀ p, x_hold N p k = x_hold M p k := by
    intro p
    unfold x_hold x_hs
    rw [h7, e5]
  unfold x_wt
  simp only [h3, h4, h5, h194, e6]
