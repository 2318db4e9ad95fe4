def S_sq2 : bW := [(5, some 0), (11, some 13), (11, some 35), (11, some 53), (11, some 54), (164, none), (165, none), (166, none), (167, none), (182, none), (194, none), (195, none), (196, none), (197, none), (198, none), (199, none), (200, none), (201, none), (202, none), (203, none), (204, none)]
def Sb2 (M N : bM) : Prop := ∀ c i, b_ins S_sq2 c i = true → N c i = M c i
def Sq2 (M N : bM) : Prop := Sb2 M N ∧ M 11 53 = M 5 0 ∧ (∀ k, 0 ≤ k → k < M 5 0 → (∀ d, x_cant N d k = x_cant M d k) ∧ ∀ d, x_wt N (x_act M d) k = x_wt M (x_act M d) k) ∧ ∀ d i, 0 ≤ i → i < 11 → x_rule N d i = x_rule M d i
theorem sr_c {M N : bM} (h : Sb2 M N) (c : Nat) (hc : ∀ i, b_ins S_sq2 c i = true) : N c = M c := funext fun i => h c i (hc i)
theorem sr_lab {M N : bM} (h : Sb2 M N) (d : Int) : x_lab N d = x_lab M d := x_lab_c (h 11 13 rfl) (fun k _ _ => ⟨h _ _ rfl, h _ _ rfl, h _ _ rfl, h _ _ rfl⟩)
theorem sr_dea {M N : bM} (h : Sb2 M N) (d : Int) : x_dea N d = x_dea M d := x_dea_c (h 11 13 rfl) (fun k _ _ => ⟨h _ _ rfl, h _ _ rfl, h _ _ rfl, h _ _ rfl⟩)
theorem sr_act {M N : bM} (h : Sb2 M N) (d : Int) : x_act N d = x_act M d := by
  have e : ∀ n : Nat, x_af N d n = x_af M d n := by
    intro n
    induction n with
    | zero => rfl
    | succ n ih => unfold x_af; rw [ih, h 182 n rfl]
  unfold x_act
  rw [e, h 11 35 rfl]
theorem sr_T {M N : bM} (h : Sb2 M N) (d : Int) : x_T N d = x_T M d := by
  funext w k
  unfold x_T
  rw [sr_c h 196 (fun _ => rfl), sr_lab h]
theorem sr_W {M N : bM} (h : Sq2 M N) {d b k : Int} (hk : 0 ≤ k ∧ k < M 5 0) : x_W N d b k ↔ x_W M d b k := by
  unfold x_W x_C
  rw [(h.2.2.1 k hk.1 hk.2).1, sr_c h.1 195 (fun _ => rfl), sr_c h.1 199 (fun _ => rfl)]
theorem sr_n {M N : bM} (h : Sq2 M N) : (N 11 53).toNat = (M 5 0).toNat := by rw [h.1 11 53 rfl, h.2.1]
theorem sr_sum {M N : bM} (h : Sq2 M N) (d : Int) : x_sum N d = x_sum M d := by
  funext b w t
  have e1 : x_sn N d b w t (N 11 53).toNat = x_sn M d b w t (M 11 53).toNat := by
    rw [sr_n h, h.2.1]
    unfold x_sn
    refine z_fold_c _ (fun i x hi => ?_)
    have hk : 0 ≤ (i : Int) ∧ (i : Int) < M 5 0 := by omega
    refine b_iteC ?_ ?_ rfl
    · rw [sr_W h hk, sr_T h.1, sr_c h.1 194 (fun _ => rfl)]
    · rw [sr_act h.1, (h.2.2.1 i hk.1 hk.2).2]
  have e2 : ∀ v, x_on N d b w t v (N 11 53).toNat = x_on M d b w t v (M 11 53).toNat := by
    intro v
    rw [sr_n h, h.2.1]
    unfold x_on
    refine z_fold_c _ (fun i x hi => ?_)
    have hk : 0 ≤ (i : Int) ∧ (i : Int) < M 5 0 := by omega
    refine b_iteC ?_ rfl rfl
    rw [sr_W h hk, sr_T h.1, sr_c h.1 194 (fun _ => rfl), sr_act h.1, (h.2.2.1 i hk.1 hk.2).2]
  unfold x_sum
  rw [e1, h.2.2.2 d 7 (by decide) (by decide), show (fun v => x_on N d b w t v (N 11 53).toNat) = (fun v => x_on M d b w t v (M 11 53).toNat) from funext e2]
theorem sr_gd {M N : bM} (h : Sq2 M N) (d b w : Int) : x_gd N d b w = x_gd M d b w := by
  funext k
  unfold x_gd
  rw [h.1 5 0 rfl, sr_T h.1]
  refine propext ⟨fun z => ⟨z.1, (sr_W h z.1).mp z.2.1, z.2.2⟩, fun z => ⟨z.1, (sr_W h z.1).mpr z.2.1, z.2.2⟩⟩
theorem sr_fin {M N : bM} (h : Sq2 M N) {d b w v p q : Int} (hf : x_fin M d b w v p q) : x_fin N d b w v p q := by
  unfold x_fin at hf ⊢
  rw [sr_gd h, sr_sum h, sr_T h.1, h.2.2.2 d 0 (by decide) (by decide), sr_c h.1 196 (fun _ => rfl)]
  exact hf
theorem sr_sp {M N : bM} (h : Sq2 M N) (d : Int) : x_sp N d = x_sp M d := by
  funext b
  unfold x_sp x_spf
  rw [sr_n h, h.2.1]
  refine z_fold_c _ (fun i x hi => ?_)
  have hk : 0 ≤ (i : Int) ∧ (i : Int) < M 5 0 := by omega
  unfold x_sps
  refine b_iteC ?_ ?_ rfl
  · rw [sr_W h hk, sr_act h.1, (h.2.2.1 i hk.1 hk.2).2]
  · rw [sr_c h.1 197 (fun _ => rfl), sr_c h.1 198 (fun _ => rfl)]
theorem sr_Ef {M N : bM} (h : Sq2 M N) {d b : Int} {F : Int → Int} (hf : Ef M d b F) : Ef N d b F := by
  obtain ⟨v0, p0, q0, v1, p1, q1, v2, p2, q2, f0, f1, f2, r⟩ := hf
  refine ⟨v0, p0, q0, v1, p1, q1, v2, p2, q2, sr_fin h f0, sr_fin h f1, sr_fin h f2, ?_⟩
  rw [sr_sp h]
  exact r
theorem sr_Evc {M N : bM} {d : Int} (hs : Sq2 M N) (h0 : N 6 0 = M 6 0) (h7 : N 6 7 = M 6 7) (h126 : N 126 = M 126) (h127 : N 127 = M 127) (h : Evc M d) : Evc N d := by
  obtain ⟨a1, a2, a3, a4⟩ := h
  refine ⟨a1, by rw [h7, sr_act hs.1]; exact a2, fun k k0 k1 => ?_, fun b b0 b1 => ?_⟩
  · rw [hs.1 5 0 rfl] at k1
    have := a3 k k0 k1
    rw [h127]
    refine ⟨this.1, this.2.trans ?_⟩
    unfold x_C
    rw [(hs.2.2.1 k k0 k1).1, sr_c hs.1 199 (fun _ => rfl)]
  · rw [h0] at b1
    rw [h126]
    exact sr_Ef hs (a4 b b0 b1)
theorem sr_ev {M N : bM} (hs : Sq2 M N) (h : ∀ c i, b_ins S_ev0 c i = true → N c i = M c i) (hR : R_ev M) : R_ev N := by
  unfold R_ev at hR ⊢
  rw [h 6 5 rfl, h 6 6 rfl]
  rcases hR with q | ⟨q, q2⟩
  · exact Or.inl q
  · exact Or.inr ⟨q, sr_Evc hs (h 6 0 rfl) (h 6 7 rfl) (funext fun i => h 126 i rfl) (funext fun i => h 127 i rfl) q2⟩
