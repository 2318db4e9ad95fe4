theorem b_Wloop {σ ρ : Type} {f : σ → Option (σ ⊕ ρ)} {s : σ} {K : ρ → Prop} (h : b_wp (f s) (Sum.elim (fun s2 => b_wp (b_loop f s2) K) K)) : b_wp (b_loop f s) K := by
  rw [b_loop_eq]
  refine b_Wb (b_wp_m (fun a ha => ?_) h)
  cases a with
  | inl a => exact ha
  | inr a => exact ha
theorem e_l58n {i g : Int} {N : bM} (hi : 0 ≤ i ∧ i < 400) (h : N 77 i ≠ 3) : F_X8_learn_b58 i g N = some N := by
  unfold F_X8_learn_b58
  rw [b_g_s hi, if_neg h]
theorem e_l46 {i g : Int} {N : bM} (hi : 0 ≤ i ∧ i < 400) (hg : 0 ≤ g ∧ g < 80) (h : N 77 i ≠ 3) : F_X8_learn_b46 i g N = some (b_up N 82 g (N 79 i)) := by
  unfold F_X8_learn_b46
  rw [b_g_s ⟨hi, hg⟩, b_let_s, e_l58n hi (by rw [b_upc (by decide)]; exact h)]
theorem e_l58c {i g : Int} {N : bM} (hi : 0 ≤ i ∧ i < 400) (hg : 0 ≤ g ∧ g < 80) (h : N 77 i = 3) (hw : 0 ≤ N 79 i ∧ N 79 i < 80) (hc : 0 ≤ N 81 (N 79 i) ∧ N 81 (N 79 i) < 80) : F_X8_learn_b58 i g N = some (if 64 ≤ N 81 (N 79 i) then b_up N 84 g (j_or (N 84 g) (j_shl 1 (N 81 (N 79 i) - 64))) else b_up N 83 g (j_or (N 83 g) (j_shl 1 (N 81 (N 79 i))))) := by
  unfold F_X8_learn_b58
  rw [b_g_s hi, if_pos h, b_g_s ⟨hi, hw⟩, b_let_s]
  by_cases q : 64 ≤ N 81 (N 79 i)
  · rw [if_pos q, if_pos q, b_g_s ⟨hg, by omega⟩]; rfl
  · rw [if_neg q, if_neg q, b_g_s hg]; rfl
theorem e_X8_learn {i : Int} {N : bM} (hi : 0 ≤ i ∧ i < 400) (hw : 0 ≤ N 78 i ∧ N 78 i < 80) (hg : 0 ≤ N 81 (N 78 i) ∧ N 81 (N 78 i) < 80) (hc : N 77 i = 3 → (0 ≤ N 79 i ∧ N 79 i < 80) ∧ (0 ≤ N 81 (N 79 i) ∧ N 81 (N 79 i) < 80)) : F_X8_learn i N = some (if N 77 i = 0 ∧ (N 82 (N 81 (N 78 i)) = -1 ∨ N 79 i < N 82 (N 81 (N 78 i))) then b_up N 82 (N 81 (N 78 i)) (N 79 i) else if N 77 i = 3 then (if 64 ≤ N 81 (N 79 i) then b_up N 84 (N 81 (N 78 i)) (j_or (N 84 (N 81 (N 78 i))) (j_shl 1 (N 81 (N 79 i) - 64))) else b_up N 83 (N 81 (N 78 i)) (j_or (N 83 (N 81 (N 78 i))) (j_shl 1 (N 81 (N 79 i))))) else N) := by
  unfold F_X8_learn
  rw [b_g_s ⟨hi, hw⟩, b_let_s, b_g_s hi]
  by_cases q : N 77 i = 0
  · have q3 : N 77 i ≠ 3 := by omega
    rw [if_pos q, b_g_s hg]
    by_cases q1 : N 82 (N 81 (N 78 i)) = -1
    · rw [if_pos q1, if_pos ⟨q, Or.inl q1⟩, e_l46 hi hg q3]
    · rw [if_neg q1, b_g_s ⟨hi, hg⟩]
      by_cases q2 : N 82 (N 81 (N 78 i)) ≤ N 79 i
      · rw [if_pos q2, if_neg (by omega), if_neg q3, e_l58n hi q3]
      · rw [if_neg q2, if_pos ⟨q, by omega⟩, e_l46 hi hg q3]
  · rw [if_neg q, if_neg (fun z => q z.1)]
    by_cases q3 : N 77 i = 3
    · rw [if_pos q3, e_l58c hi hg q3 (hc q3).1 (hc q3).2]
    · rw [if_neg q3, e_l58n hi q3]
theorem t_learn {d i : Int} {M N : bM} (hR : R_ppl M) (hl : ∀ p, 0 ≤ p → p < M 2 0 → M 81 p = x_lab M d p) (hi : 0 ≤ i ∧ i < M 2 1) (hd : M 80 i ≤ d) (h2 : ∀ c j, c ≠ 82 → c ≠ 83 → c ≠ 84 → N c j = M c j) (h3 : ∀ g, 0 ≤ g → g < M 2 0 → N 82 g = x_de M d g i.toNat) (h4 : ∀ g c, 0 ≤ g → g < M 2 0 → 0 ≤ c → c < M 2 0 → (c_bit N g c = true ↔ x_ch M d i g c)) : b_wp (F_X8_learn i N) (fun N2 => (∀ c j, c ≠ 82 → c ≠ 83 → c ≠ 84 → N2 c j = M c j) ∧ (∀ g, 0 ≤ g → g < M 2 0 → N2 82 g = x_de M d g (i + 1).toNat) ∧ ∀ g c, 0 ≤ g → g < M 2 0 → 0 ≤ c → c < M 2 0 → (c_bit N2 g c = true ↔ x_ch M d (i + 1) g c)) := by
  have hT := T_ok_of hR
  obtain ⟨g1, ⟨e1, e2, e3, e4, e5⟩, g3, g4⟩ := hR
  have g5 := g4 i hi.1 hi.2
  have k77 := h2 77 i (by decide) (by decide) (by decide)
  have k78 := h2 78 i (by decide) (by decide) (by decide)
  have k79 := h2 79 i (by decide) (by decide) (by decide)
  have l1 : N 81 (M 78 i) = x_lab M d (M 78 i) := by rw [h2 81 _ (by decide) (by decide) (by decide)]; exact hl _ (by omega) (by omega)
  have r1 := x_lab_r (d := d) (p := M 78 i) hT (by omega)
  have l2 : M 77 i = 3 → N 81 (M 79 i) = x_lab M d (M 79 i) ∧ 0 ≤ x_lab M d (M 79 i) ∧ x_lab M d (M 79 i) < M 11 12 := by
    intro q
    rw [h2 81 _ (by decide) (by decide) (by decide)]
    exact ⟨hl _ (by omega) (by omega), x_lab_r hT (by omega)⟩
  refine b_wp_of (e_X8_learn (by omega) (by omega) (by rw [k78, l1]; omega) (fun q => ?_)) ?_
  · rw [k79]
    rw [k77] at q
    have := l2 q
    omega
  · rw [k77, k78, k79, l1]
    have hs : ∀ g, x_de M d g (i + 1).toNat = x_ds M d g i (x_de M d g i.toNat) := fun g => z_fold_s hi.1
    have hg0 := h3 (x_lab M d (M 78 i)) (by omega) (by omega)
    by_cases q : M 77 i = 0 ∧ (N 82 (x_lab M d (M 78 i)) = -1 ∨ M 79 i < N 82 (x_lab M d (M 78 i)))
    · rw [if_pos q]
      refine ⟨fun c j c1 c2 c3 => by rw [b_upc c1]; exact h2 c j c1 c2 c3, fun g a b => ?_, fun g c a b a2 b2 => ?_⟩
      · rw [b_upJ, hs, h3 g a b]
        unfold x_ds
        rw [e2, e3, e4, e5]
        by_cases qg : g = x_lab M d (M 78 i)
        · subst qg
          rw [if_pos rfl, if_pos ⟨q.1, hd, rfl, by rw [← hg0]; exact q.2⟩]
        · rw [if_neg qg, if_neg (fun z => qg z.2.2.1.symm)]
      · rw [x_ch_s hi.1, e2]
        have : c_bit (b_up N 82 (x_lab M d (M 78 i)) (M 79 i)) g c = c_bit N g c := by
          unfold c_bit
          rw [b_upc (by decide), b_upc (by decide)]
        rw [this, h4 g c a b a2 b2]
        exact ⟨Or.inl, fun z => z.elim id (fun z => absurd z.1 (by omega))⟩
    · rw [if_neg q]
      have hde : ∀ g, 0 ≤ g → g < M 2 0 → x_de M d g (i + 1).toNat = x_de M d g i.toNat := by
        intro g a b
        rw [hs]
        unfold x_ds
        rw [e2, e3, e4, e5]
        refine if_neg (fun z => q ⟨z.1, ?_⟩)
        rw [z.2.2.1, h3 g a b]
        exact z.2.2.2
      by_cases q3 : M 77 i = 3
      · rw [if_pos q3]
        obtain ⟨l3, l4⟩ := l2 q3
        rw [l3]
        generalize hgg : x_lab M d (M 78 i) = g0 at *
        generalize hcc : x_lab M d (M 79 i) = c0 at *
        by_cases q4 : 64 ≤ c0
        · rw [if_pos q4]
          refine ⟨fun c j c1 c2 c3 => by rw [b_upc c3]; exact h2 c j c1 c2 c3, fun g a b => by rw [b_upc (by decide), hde g a b]; exact h3 g a b, fun g c a b a2 b2 => ?_⟩
          rw [x_ch_s hi.1, ← h4 g c a b a2 b2, e2, e3, e4, e5, hgg, hcc]
          unfold c_bit
          rw [b_upJ, b_upc (by decide)]
          by_cases qc : 64 ≤ c
          · rw [if_pos qc, if_pos qc]
            by_cases qg : g = g0
            · rw [if_pos qg, j_bt_or, j_bt_shl (by omega), qg]
              by_cases qq : c = c0
              · rw [decide_eq_true (show (((c - 64).toNat : Nat) : Int) = c0 - 64 by omega)]
                simp [q3, hd, qq]
              · rw [decide_eq_false (show ¬ (((c - 64).toNat : Nat) : Int) = c0 - 64 by omega)]
                simp [show ¬ c0 = c from fun z => qq z.symm]
            · rw [if_neg qg]
              simp [show ¬ g0 = g from fun z => qg z.symm]
          · rw [if_neg qc, if_neg qc]
            simp [show ¬ c0 = c by omega]
        · rw [if_neg q4]
          refine ⟨fun c j c1 c2 c3 => by rw [b_upc c2]; exact h2 c j c1 c2 c3, fun g a b => by rw [b_upc (by decide), hde g a b]; exact h3 g a b, fun g c a b a2 b2 => ?_⟩
          rw [x_ch_s hi.1, ← h4 g c a b a2 b2, e2, e3, e4, e5, hgg, hcc]
          unfold c_bit
          rw [b_upc (by decide), b_upJ]
          by_cases qc : 64 ≤ c
          · rw [if_pos qc, if_pos qc]
            simp [show ¬ c0 = c by omega]
          · rw [if_neg qc, if_neg qc]
            by_cases qg : g = g0
            · rw [if_pos qg, j_bt_or, j_bt_shl (by omega), qg]
              by_cases qq : c = c0
              · rw [decide_eq_true (show (((c).toNat : Nat) : Int) = c0 by omega)]
                simp [q3, hd, qq]
              · rw [decide_eq_false (show ¬ (((c).toNat : Nat) : Int) = c0 by omega)]
                simp [show ¬ c0 = c from fun z => qq z.symm]
            · rw [if_neg qg]
              simp [show ¬ g0 = g from fun z => qg z.symm]
      · rw [if_neg q3]
        refine ⟨h2, fun g a b => by rw [hde g a b]; exact h3 g a b, fun g c a b a2 b2 => ?_⟩
        rw [x_ch_s hi.1, h4 g c a b a2 b2, e2]
        exact ⟨Or.inl, fun z => z.elim id (fun z => absurd z.1 q3)⟩
theorem t_kn160 {d : Int} {M : bM} (hR : R_ppl M) (hl : ∀ p, 0 ≤ p → p < M 2 0 → M 81 p = x_lab M d p) (h0 : ∀ p, 0 ≤ p → p < M 2 0 → M 82 p = -1 ∧ M 83 p = 0 ∧ M 84 p = 0) : b_wp (b_loop (fun t : Int × bM => F_X8_know_s160 d t.1 t.2) (0, M)) (fun N => (∀ c j, c ≠ 82 → c ≠ 83 → c ≠ 84 → N c j = M c j) ∧ (∀ g, 0 ≤ g → g < M 2 0 → N 82 g = x_dea M d g) ∧ ∀ g c, 0 ≤ g → g < M 2 0 → 0 ≤ c → c < M 2 0 → (c_bit N g c = true ↔ x_chi M d g c)) := by
  have hg := hR.1
  have h21 : M 11 13 = M 2 1 := by omega
  have e2 : M 164 = M 77 := hR.2.1.2.1
  have e5 : M 167 = M 80 := hR.2.1.2.2.2.2
  refine b_loop_ind (I := fun t : Int × bM => (0 ≤ t.1 ∧ t.1 ≤ M 2 1) ∧ (∀ c j, c ≠ 82 → c ≠ 83 → c ≠ 84 → t.2 c j = M c j) ∧ (∀ g, 0 ≤ g → g < M 2 0 → t.2 82 g = x_de M d g t.1.toNat) ∧ ∀ g c, 0 ≤ g → g < M 2 0 → 0 ≤ c → c < M 2 0 → (c_bit t.2 g c = true ↔ x_ch M d t.1 g c)) (fun t => (M 2 1 - t.1).toNat) ?_ (0, M) ⟨by dsimp only; omega, fun c j _ _ _ => rfl, fun g a b => (h0 g a b).1, fun g c a b a2 b2 => ?_⟩
  · intro ⟨i, N⟩ ⟨h1, h2, h3, h4⟩
    dsimp only at h1 h2 h3 h4 ⊢
    unfold F_X8_know_s160
    have k21 := h2 2 1 (by decide) (by decide) (by decide)
    have k80 := h2 80 i (by decide) (by decide) (by decide)
    rw [k21, k80]
    refine b_Wi (fun q => b_Ws ?_) (fun q => b_Wg (by omega) (b_Wi (fun q2 => b_Wg (by omega) (b_Ws ?_)) (fun q2 => b_Wb ?_)))
    · rw [show i = M 11 13 by omega] at h3 h4
      exact ⟨h2, h3, h4⟩
    · refine ⟨⟨by dsimp only; omega, h2, fun g a b => ?_, fun g c a b a2 b2 => ?_⟩, by dsimp only; omega⟩
      · dsimp only
        have hs : x_de M d g (i + 1).toNat = x_ds M d g i (x_de M d g i.toNat) := z_fold_s h1.1
        rw [hs, h3 g a b]
        unfold x_ds
        rw [e5, if_neg (by omega)]
      · dsimp only
        rw [x_ch_s h1.1, h4 g c a b a2 b2, e5]
        exact ⟨Or.inl, fun z => z.elim id (fun z => absurd z.2.1 (by omega))⟩
    · refine b_wp_m (fun N2 w => b_Wg (by omega) (b_Ws ⟨⟨by dsimp only; omega, w⟩, by dsimp only; omega⟩)) (t_learn hR hl ⟨h1.1, by omega⟩ (by omega) h2 h3 h4)
  · have := h0 g a b
    constructor
    · intro z
      exfalso
      unfold c_bit at z
      dsimp only at z
      rw [this.2.1, this.2.2, j_bt_0, j_bt_0] at z
      simp at z
    · intro ⟨k, hk, _⟩
      dsimp only at hk
      omega
/-- People know the day -/
def Kn (M : bM) (d : Int) : Prop := (∀ p, 0 ≤ p → p < M 2 0 → M 81 p = x_lab M d p) ∧ (∀ g, 0 ≤ g → g < M 2 0 → M 82 g = x_dea M d g) ∧ ∀ g c, 0 ≤ g → g < M 2 0 → 0 ≤ c → c < M 2 0 → (c_bit M g c = true ↔ x_chi M d g c)
def S_know : bW := [(2, some 0), (2, some 1), (2, some 7), (2, some 8), (2, some 9), (11, some 13), (81, none), (82, none), (83, none), (84, none), (164, none), (165, none), (166, none), (167, none)]
def R_know (M : bM) : Prop := M 2 8 ≤ M 2 0 ∧ M 2 9 ≤ M 2 1 ∧ (M 2 8 = M 2 0 → M 2 9 = M 2 1 → 0 ≤ M 2 7 → Kn M (M 2 7))
theorem Kn_c {M M2 : bM} {d : Int} (h : Kn M d) (h0 : M2 2 0 = M 2 0) (h1 : M2 11 13 = M 11 13) (h81 : M2 81 = M 81) (h82 : M2 82 = M 82) (h83 : M2 83 = M 83) (h84 : M2 84 = M 84) (h2 : M2 164 = M 164) (h3 : M2 165 = M 165) (h4 : M2 166 = M 166) (h5 : M2 167 = M 167) : Kn M2 d := by
  have hk : ∀ k, 0 ≤ k → k < M 11 13 → M2 164 k = M 164 k ∧ M2 165 k = M 165 k ∧ M2 166 k = M 166 k ∧ M2 167 k = M 167 k := fun k _ _ => by rw [h2, h3, h4, h5]; exact ⟨rfl, rfl, rfl, rfl⟩
  unfold Kn
  rw [h0, h81, h82, x_lab_c h1 hk, x_dea_c h1 hk]
  refine ⟨h.1, h.2.1, fun g c a b a2 b2 => ?_⟩
  rw [x_chi_c h1 hk]
  have : c_bit M2 g c = c_bit M g c := by unfold c_bit; rw [h83, h84]
  rw [this]
  exact h.2.2 g c a b a2 b2
theorem R_know_k {M M2 : bM} (h : ∀ c i, b_ins S_know c i = true → M2 c i = M c i) (hR : R_know M) : R_know M2 := by
  have h0 := h 2 0 rfl
  have h1 := h 2 1 rfl
  have h7 := h 2 7 rfl
  have h8 := h 2 8 rfl
  have h9 := h 2 9 rfl
  unfold R_know at hR ⊢
  rw [h0, h1, h7, h8, h9]
  exact ⟨hR.1, hR.2.1, fun a b c => Kn_c (hR.2.2 a b c) h0 (h 11 13 rfl) (funext fun i => h 81 i rfl) (funext fun i => h 82 i rfl) (funext fun i => h 83 i rfl) (funext fun i => h 84 i rfl) (funext fun i => h 164 i rfl) (funext fun i => h 165 i rfl) (funext fun i => h 166 i rfl) (funext fun i => h 167 i rfl)⟩
theorem t_know {d : Int} {M : bM} (hR : R_ppl M) (hK : R_know M) (hd : 0 ≤ d) : b_wp (F_X8_know d M) (fun N => b_fr W_X8_know M N ∧ R_ppl N ∧ R_know N ∧ Kn N d) := by
  refine b_wl_wp (w_X8_know b_fr_refl) ?_
  have new : b_wp (F_X8_know_b31 d M) (fun N => R_ppl N ∧ R_know N ∧ Kn N d) := by
    unfold F_X8_know_b31 F_X8_know_b96 F_X8_know_b158 F_X8_know_b189
    refine b_Wl (b_Wl (b_Wl ?_))
    generalize hM1 : b_up (b_up (b_up M 2 7 d) 2 8 (b_up M 2 7 d 2 0)) 2 9 (b_up (b_up M 2 7 d) 2 8 (b_up M 2 7 d 2 0) 2 1) = M1
    have f1 : ∀ c j, ¬ (c = 2 ∧ 7 ≤ j ∧ j ≤ 9) → M1 c j = M c j := by
      intro c j q
      subst hM1
      unfold b_up
      rw [if_neg (by omega), if_neg (by omega), if_neg (by omega)]
    have f7 : M1 2 7 = d := by subst hM1; simp [b_up]
    have f8 : M1 2 8 = M 2 0 := by subst hM1; simp [b_up]
    have f9 : M1 2 9 = M 2 1 := by subst hM1; simp [b_up]
    have hR1 : R_ppl M1 := by
      refine R_ppl_k (fun c i hi => f1 c i (fun q => ?_)) hR
      obtain ⟨rfl, q1, q2⟩ := q
      have : i = 7 ∨ i = 8 ∨ i = 9 := by omega
      rcases this with rfl | rfl | rfl <;> exact absurd hi (by decide)
    have z0 := f1 2 0 (by omega)
    have z1 := f1 2 1 (by omega)
    have hg := hR1.1
    refine b_Wb (b_wp_m (fun N1 w1 => ?_) (t_kn54 (d := d) (M := M1) (by omega)))
    obtain ⟨w1, w2⟩ := w1
    have hR2 : R_ppl N1 := R_ppl_k (fun c i hi => w1 c i (fun q => by subst q; revert hi; simp [b_ins, S_ppl]) (fun q => by subst q; revert hi; simp [b_ins, S_ppl]) (fun q => by subst q; revert hi; simp [b_ins, S_ppl]) (fun q => by subst q; revert hi; simp [b_ins, S_ppl])) hR1
    have y0 := w1 2 0 (by decide) (by decide) (by decide) (by decide)
    refine b_Wb (b_wp_m (fun N2 w3 => ?_) (t_kn98 (d := d) hR2 (fun p a b => (w2 p a (by omega)).1)))
    obtain ⟨w3, w4⟩ := w3
    have hR3 : R_ppl N2 := R_ppl_k (fun c i hi => w3 c i (fun q => by subst q; revert hi; simp [b_ins, S_ppl])) hR2
    have x0 := w3 2 0 (by decide)
    have hk2 : x_lab N2 d = x_lab N1 d := x_lab_c (w3 11 13 (by decide)) (fun k _ _ => ⟨w3 _ _ (by decide), w3 _ _ (by decide), w3 _ _ (by decide), w3 _ _ (by decide)⟩)
    refine b_Wb (b_wp_m (fun N3 w5 => ?_) (t_kn160 (d := d) hR3 (fun p a b => by rw [hk2]; exact w4 p a (by omega)) (fun p a b => by have := w2 p a (by omega); rw [w3 82 p (by decide), w3 83 p (by decide), w3 84 p (by decide)]; exact this.2)))
    obtain ⟨w5, w6, w7⟩ := w5
    have v0 := w5 2 0 (by decide) (by decide) (by decide)
    have hK3 : Kn N3 d := by
      have hk : ∀ k, 0 ≤ k → k < N2 11 13 → N3 164 k = N2 164 k ∧ N3 165 k = N2 165 k ∧ N3 166 k = N2 166 k ∧ N3 167 k = N2 167 k := fun k _ _ => ⟨w5 _ _ (by decide) (by decide) (by decide), w5 _ _ (by decide) (by decide) (by decide), w5 _ _ (by decide) (by decide) (by decide), w5 _ _ (by decide) (by decide) (by decide)⟩
      have h13 : N3 11 13 = N2 11 13 := w5 _ _ (by decide) (by decide) (by decide)
      refine ⟨fun p a b => ?_, fun p a b => ?_, fun g c a b a2 b2 => ?_⟩
      · rw [w5 81 p (by decide) (by decide) (by decide), x_lab_c h13 hk, hk2]
        exact w4 p a (by omega)
      · rw [x_dea_c h13 hk]
        exact w6 p a (by omega)
      · rw [x_chi_c h13 hk]
        exact w7 g c a (by omega) a2 (by omega)
    refine b_Ws ⟨R_ppl_k (fun c i hi => w5 c i (fun q => by subst q; revert hi; simp [b_ins, S_ppl]) (fun q => by subst q; revert hi; simp [b_ins, S_ppl]) (fun q => by subst q; revert hi; simp [b_ins, S_ppl])) hR3, ?_, hK3⟩
    have t7 : N3 2 7 = d := by rw [w5 2 7 (by decide) (by decide) (by decide), w3 2 7 (by decide), w1 2 7 (by decide) (by decide) (by decide) (by decide)]; exact f7
    have t8 : N3 2 8 = M 2 0 := by rw [w5 2 8 (by decide) (by decide) (by decide), w3 2 8 (by decide), w1 2 8 (by decide) (by decide) (by decide) (by decide)]; exact f8
    have t9 : N3 2 9 = M 2 1 := by rw [w5 2 9 (by decide) (by decide) (by decide), w3 2 9 (by decide), w1 2 9 (by decide) (by decide) (by decide) (by decide)]; exact f9
    have t1 : N3 2 1 = M 2 1 := by rw [w5 2 1 (by decide) (by decide) (by decide), w3 2 1 (by decide), w1 2 1 (by decide) (by decide) (by decide) (by decide)]; exact z1
    refine ⟨by omega, by omega, fun _ _ _ => ?_⟩
    rw [t7]
    exact hK3
  unfold F_X8_know
  refine b_Wi (fun q1 => b_Wi (fun q2 => b_Wi (fun q3 => b_Ws ⟨hR, hK, ?_⟩) (fun _ => new)) (fun _ => new)) (fun _ => new)
  rw [q1]
  exact hK.2.2 q2.symm q3.symm (by omega)
