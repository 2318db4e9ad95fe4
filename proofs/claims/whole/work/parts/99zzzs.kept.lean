/-! R parts that calls keep -/
def b_rx (c0 : Nat) (i0 : Int) (W : bW) : bW := W.filter (fun e => !(e.1 == c0 && (match e.2 with | none => false | some k => k == i0)))
def b_rxA (c0 : Nat) (W : bW) : bW := W.filter (fun e => !(e.1 == c0))
theorem b_fr_x {W : bW} {M N : bM} {c0 : Nat} {i0 : Int} (f : b_fr W M N) (h : N c0 i0 = M c0 i0) : b_fr (b_rx c0 i0 W) M N := by
  intro c i hi
  by_cases e : c = c0 ∧ i = i0
  · obtain ⟨e1, e2⟩ := e
    rw [e1, e2]; exact h
  · refine f c i ?_
    rw [← Bool.not_eq_true]; intro q
    unfold b_ins at q hi
    rw [List.any_eq_true] at q
    obtain ⟨⟨a, b⟩, he, h1⟩ := q
    rw [List.any_eq_false] at hi
    refine hi (a, b) ?_ h1
    unfold b_rx
    rw [List.mem_filter]
    refine ⟨he, ?_⟩
    cases b with
    | none => simp
    | some k =>
      simp at h1 ⊢
      omega
theorem b_fr_xA {W : bW} {M N : bM} {c0 : Nat} (f : b_fr W M N) (h : ∀ i, N c0 i = M c0 i) : b_fr (b_rxA c0 W) M N := by
  intro c i hi
  by_cases e : c = c0
  · rw [e]; exact h i
  · refine f c i ?_
    rw [← Bool.not_eq_true]; intro q
    unfold b_ins at q hi
    rw [List.any_eq_true] at q
    obtain ⟨⟨a, b⟩, he, h1⟩ := q
    rw [List.any_eq_false] at hi
    refine hi (a, b) ?_ h1
    unfold b_rxA
    rw [List.mem_filter]
    refine ⟨he, ?_⟩
    simp at h1 ⊢
    omega
def S_wts : bW := [(4, some 0), (5, some 0), (124, none), (183, none), (184, none), (185, none), (187, none), (188, none), (189, none), (190, none), (191, none), (192, none), (193, none), (194, none), (205, none), (206, none), (207, none)]
theorem R_wts_q {M N : bM} (h : ∀ c i, b_ins S_wts c i = true → N c i = M c i) (hR : R_wts M) : R_wts N := by
  intro k k0 k1 a a0 a1
  rw [h 5 0 rfl] at k1
  rw [h 4 0 rfl] at a1
  rw [h 124 _ rfl, x_wt_c (M := M) (N := N) (funext fun j => h 183 j rfl) (funext fun j => h 184 j rfl) (funext fun j => h 185 j rfl) (funext fun j => h 187 j rfl) (funext fun j => h 188 j rfl) (funext fun j => h 189 j rfl) (funext fun j => h 190 j rfl) (funext fun j => h 191 j rfl) (funext fun j => h 192 j rfl) (funext fun j => h 193 j rfl) (h 194 k rfl) (fun w => x_mk_c (h 207 k rfl) (fun i _ _ => ⟨h 205 _ rfl, h 206 _ rfl⟩) w) a]
  exact hR k k0 k1 a a0 a1
def S_n3 : bW := [(193, none)]
theorem R_n3_k {M N : bM} (h : ∀ c i, b_ins S_n3 c i = true → N c i = M c i) (hR : N3 M) : N3 N := fun j => by rw [h 193 j rfl]; exact hR j
def S_z0 : bW := [(52, some 0), (53, some 0), (54, some 0), (55, some 0), (56, some 0), (57, some 0), (58, some 0), (59, some 0), (60, some 0), (61, some 0)]
theorem R_z0_k {M N : bM} (h : ∀ c i, b_ins S_z0 c i = true → N c i = M c i) (hR : R_z0 M) : R_z0 N := fun a ha => by
  rw [h (52 + a) 0 (by simp [b_ins, S_z0]; omega)]; exact hR a ha
def R_pg1 (M : bM) : Prop := 1 ≤ M 11 54
def S_pg1 : bW := [(11, some 54)]
theorem R_pg1_k {M N : bM} (h : ∀ c i, b_ins S_pg1 c i = true → N c i = M c i) (hR : R_pg1 M) : R_pg1 N := by unfold R_pg1 at hR ⊢; rw [h 11 54 rfl]; exact hR
def R_mref (M : bM) : Prop := ∀ i, 0 ≤ i → i < M 8 0 → M 142 i < M 3 0
def S_mref : bW := [(3, some 0), (8, some 0), (142, none)]
theorem R_mref_k {M N : bM} (h : ∀ c i, b_ins S_mref c i = true → N c i = M c i) (hR : R_mref M) : R_mref N := fun i i0 i1 => by
  rw [h 8 0 rfl] at i1
  rw [h 142 i rfl, h 3 0 rfl]; exact hR i i0 i1
def R_bnd (n : Int) (M : bM) : Prop := ∀ c, 0 ≤ c → c < 30 → M 151 c ≤ 1250 * n
def S_bnd : bW := [(151, none)]
theorem R_bnd_k {M N : bM} {n : Int} (h : ∀ c i, b_ins S_bnd c i = true → N c i = M c i) (hR : R_bnd n M) : R_bnd (n + 8) N := fun c c0 c1 => by
  have := hR c c0 c1
  rw [h 151 c rfl]; omega
/-! parts that counts only let grow -/
theorem kp_know20 {W : bW} {M N : bM} (f : b_fr W M N) (d : b_dis (b_rx 2 0 W) S_know = true) (h : M 2 0 ≤ N 2 0) (hK : R_know M) : R_know N := by
  by_cases e : N 2 0 = M 2 0
  · exact R_know_k (b_kp1 (b_fr_x f e) d) hK
  · have hW : ∀ c i, ¬ (c = 2 ∧ i = 0) → b_ins S_know c i = true → N c i = M c i := by
      intro c i hn hc
      refine f c i ?_
      have q := b_dis_ins d hc
      rw [← Bool.not_eq_true] at q ⊢
      intro z
      refine q ?_
      unfold b_ins at z ⊢
      rw [List.any_eq_true] at z ⊢
      obtain ⟨⟨a, b⟩, he, h1⟩ := z
      refine ⟨(a, b), ?_, h1⟩
      unfold b_rx
      rw [List.mem_filter]
      refine ⟨he, ?_⟩
      cases b with
      | none => simp
      | some k =>
        simp at h1 ⊢
        omega
    have a1 := hK.1
    have a2 := hK.2.1
    have k8 := hW 2 8 (by decide) rfl
    have k9 := hW 2 9 (by decide) rfl
    have k1 := hW 2 1 (by decide) rfl
    refine ⟨by omega, by omega, fun q => absurd q (by omega)⟩
def S_pap2 : bW := [(5, some 0), (110, none), (111, none), (112, none), (113, none), (114, none), (115, none), (194, none), (195, none), (196, none), (197, none), (198, none), (199, none)]
theorem pap_mono {M N : bM} (h : ∀ c i, b_ins S_pap2 c i = true → N c i = M c i) (h2 : M 2 0 ≤ N 2 0) (h3 : M 3 0 ≤ N 3 0) (h6 : M 6 0 ≤ N 6 0) (h116 : ∀ k, 0 ≤ k → k < M 5 0 → N 116 k = M 116 k ∨ N 116 k < M 2 0) (hR : R_pap M) : R_pap N := by
  intro k k0 k1
  rw [h 5 0 rfl] at k1
  obtain ⟨p1, p2, p3, p4, p5, p6, p7, p8⟩ := hR k k0 k1
  have q := h116 k k0 k1
  unfold P_pap
  rw [h 194 k rfl, h 110 k rfl, h 195 k rfl, h 111 k rfl, h 199 k rfl, h 112 k rfl, h 197 k rfl, h 113 k rfl, h 198 k rfl, h 114 k rfl, h 196 (3 * k) rfl, h 115 (3 * k) rfl, h 196 (3 * k + 1) rfl, h 115 (3 * k + 1) rfl, h 196 (3 * k + 2) rfl, h 115 (3 * k + 2) rfl]
  refine ⟨p1, ⟨p2.1, p2.2.1, by omega⟩, p3, p4, ⟨p5.1, p5.2.1, by omega⟩, ⟨p6.1, p6.2.1, by omega⟩, ⟨p7.1, p7.2.1, by omega⟩, ?_⟩
  rcases q with q | q <;> omega
theorem root_mono {M N : bM} (h3 : N 3 0 = M 3 0) (h92 : ∀ r, N 92 r = M 92 r ∨ (0 ≤ N 92 r ∧ N 92 r < M 2 0)) (h2 : M 2 0 ≤ N 2 0) (hR : R_root M) : R_root N := by
  intro r r0 r1
  rw [h3] at r1
  have a := hR r r0 r1
  rcases h92 r with q | q <;> omega
theorem root_lots {M N : bM} (hP : R_ppl M) (hL : R_lots M) (hL2 : R_lots N) (h217 : ∀ r, N 217 r = M 217 r) (h2 : N 2 0 = M 2 0) (h3 : M 3 0 ≤ N 3 0) (hR : R_root M) : R_root N := by
  intro r r0 r1
  have n60 := hL2.1.2.2
  have e := (hL2.2.2.1 r r0 r1).1.2
  have e2 := h217 r
  have p0 := hP.1.2.1
  by_cases q : r < M 3 0
  · have a := hR r r0 q
    have e3 := (hL.2.2.1 r r0 q).1.2
    omega
  · have e3 := (hL.2.2.2 r (by omega) (by omega)).2
    omega
theorem cref_mono {M N : bM} (h2 : M 2 0 ≤ N 2 0) (h3 : M 3 0 ≤ N 3 0) (h : ∀ i, i < N 9 0 → (i < M 9 0 ∧ N 147 i = M 147 i ∧ N 148 i = M 148 i) ∨ ((0 ≤ N 147 i ∧ N 147 i < M 2 0) ∧ 0 ≤ N 148 i ∧ N 148 i < M 3 0)) (hR : R_cref M) : R_cref N := by
  intro c c0 c1
  rcases h c c1 with ⟨q1, q2, q3⟩ | q
  · have a := hR c c0 q1
    rw [q2, q3]; omega
  · omega
theorem mref_mono {M N : bM} (h3 : M 3 0 ≤ N 3 0) (h : ∀ i, i < N 8 0 → (i < M 8 0 ∧ N 142 i = M 142 i) ∨ N 142 i < M 3 0) (hR : R_mref M) : R_mref N := by
  intro i i0 i1
  rcases h i i1 with ⟨q1, q2⟩ | q
  · have a := hR i i0 q1
    omega
  · omega
theorem rul_mono {M N : bM} (h : ∀ c i, b_ins [(150, none), (151, none), (152, none), (153, none), (154, none), (234, none), (235, none), (236, none), (237, none), (238, none)] c i = true → N c i = M c i) (h9 : M 9 0 ≤ N 9 0) (h148 : ∀ i, i < M 9 0 → N 148 i = M 148 i) (hR : R_rul M) : R_rul N := by
  refine ⟨fun c c0 c1 => ?_, fun l l0 l1 => ?_⟩
  · rw [h 234 c rfl, h 150 c rfl, h 235 c rfl, h 151 c rfl]; exact hR.1 c c0 c1
  · rw [h 152 l rfl, h 236 l rfl, h 237 l rfl, h 153 l rfl, h 154 l rfl, h 238 l rfl]
    rcases hR.2 l l0 l1 with q | ⟨q1, q2, q3, q4, q5, q6, q7⟩
    · exact Or.inl q
    · exact Or.inr ⟨⟨q1.1, by omega⟩, q2, q3, q4, q5, q6, by rw [h148 _ (by omega)]; exact q7⟩
theorem cor_mono {M N : bM} (hS : R_shape M) (hS2 : R_shape N) (h : ∀ i, (N 176 i = M 176 i ∨ (0 ≤ N 176 i ∧ N 176 i ≤ 99)) ∧ (N 177 i = M 177 i ∨ (0 ≤ N 177 i ∧ N 177 i ≤ 99))) (hR : R_cor M) : R_cor N := by
  intro l l0 l1
  have a := hR l l0 l1
  have q := h l
  rw [← hS2.1.2.1, ← hS2.1.2.2]
  rw [← hS.1.2.1, ← hS.1.2.2] at a
  rcases q with ⟨q1 | q1, q2 | q2⟩ <;> omega
/-- evidence, where only new rows of persons or LOTS are written -/
theorem ev_row {W : bW} {M N : bM} (f : b_fr W M N) (d1 : b_dis W S_sq = true) (d2 : b_dis W S_ev0 = true) (d3 : b_dis W [(205, none), (206, none), (207, none)] = true) (hp : ∀ p, 0 ≤ p → p < M 2 0 → N 163 p = M 163 p) (hl : ∀ l, 0 ≤ l → l < M 3 0 → N 170 l = M 170 l ∧ N 171 l = M 171 l) (hP : R_pap M) (hS : R_sign M) (hV : R_ev M) : R_ev N := by
  have k1 : Sb M N := b_kp1 f d1
  have k3 := b_kp1 f d3
  refine sq_ev ⟨k1, hS.1.1, fun k k0 k1' => ⟨fun d => sq_cant k1 hp hl hP hS ⟨k0, k1'⟩ d, fun a => ?_⟩⟩ (b_kp1 f d2) hV
  exact x_wt_c (M := M) (N := N) (funext fun j => k1 183 j rfl) (funext fun j => k1 184 j rfl) (funext fun j => k1 185 j rfl) (funext fun j => k1 187 j rfl) (funext fun j => k1 188 j rfl) (funext fun j => k1 189 j rfl) (funext fun j => k1 190 j rfl) (funext fun j => k1 191 j rfl) (funext fun j => k1 192 j rfl) (funext fun j => k1 193 j rfl) (k1 194 k rfl) (fun w => x_mk_c (k3 207 k rfl) (fun i _ _ => ⟨k3 205 _ rfl, k3 206 _ rfl⟩) w) a
/-- a telling keeps what is known and what is shown -/
theorem kp_tell {M O N : bM} (f1 : b_fr [(2, some 1), (6, some 5), (77, none), (78, none), (79, none), (80, none)] M O) (f2 : b_fr [(11, some 13), (164, none), (165, none), (166, none), (167, none)] O N) (hP : R_ppl M) (hP2 : R_ppl N) (tc : T_c M O) (tr : N = O ∨ N 11 13 = O 11 13 + 1) (hK : R_know M) (hV : R_ev M) : R_know N ∧ R_ev N := by
  have n21 : N 2 1 = O 2 1 := f2 2 1 (by decide)
  have n65 : N 6 5 = O 6 5 := f2 6 5 (by decide)
  obtain ⟨t1, t2, t3⟩ := tc
  by_cases e : M 2 1 < O 2 1
  · have a1 := hK.1
    have a2 := hK.2.1
    have k8 : N 2 8 = M 2 8 := (f2 2 8 (by decide)).trans (f1 2 8 (by decide))
    have k9 : N 2 9 = M 2 9 := (f2 2 9 (by decide)).trans (f1 2 9 (by decide))
    have k0 : N 2 0 = M 2 0 := (f2 2 0 (by decide)).trans (f1 2 0 (by decide))
    exact ⟨⟨by omega, by omega, fun _ q => absurd q (by omega)⟩, Or.inl (n65.trans (t2 e))⟩
  · have p1 := hP.1.2.2.2.1
    have p2 := hP2.1.2.2.2.1
    have o13 : O 11 13 = M 11 13 := f1 11 13 (by decide)
    have eN : N = O := by
      rcases tr with q | q
      · exact q
      · omega
    subst eN
    refine ⟨R_know_k (b_kp1 (b_fr_x (c0 := 2) (i0 := 1) f1 (by omega)) (by decide +kernel)) hK, ?_⟩
    rcases t3 with q | q
    · exact Or.inl q
    · exact R_ev_k (b_kp1 (b_fr_x (c0 := 6) (i0 := 5) f1 q) (by decide +kernel)) hV
/-- evidence, where a call forgets it or is refused -/
theorem ev_cut {W : bW} {M O N : bM} (f1 : b_fr W M O) (d : b_dis (b_rx 6 5 W) S_ev = true) (h65 : N 6 5 = O 6 5) (h : O 6 5 = 0 ∨ (N = O ∧ O 6 5 = M 6 5)) (hV : R_ev M) : R_ev N := by
  rcases h with q | ⟨q1, q2⟩
  · exact Or.inl (h65.trans q)
  · rw [q1]; exact R_ev_k (b_kp1 (b_fr_x f1 q2) d) hV
