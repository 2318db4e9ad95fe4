theorem Rp_K {M : bM} {d l p x y : Int} {t : Nat} {r : Int} {f D : Nat → Int} (h : Rp M d l p x t r f D t) (hy : ∀ j, j ≤ t → y ≤ g_p M (f j)) : g_K M d l p y false t := by
  have st : ∀ k, k ≤ t → g_P M d l p y false k (f (t - k)) (D (t - k)) := by
    intro k
    induction k with
    | zero =>
      intro _
      have q := (Rp_q t (Nat.le_refl t) h).2
      rw [show t - t = 0 by omega] at q
      rw [show t - 0 = t by omega]
      exact ⟨q.1, hy t (Nat.le_refl t), q.2.2.1, q.2.2.2⟩
    | succ k ih =>
      intro hk
      have i1 := ih (by omega)
      have s := h.2 (t - (k + 1)) (by omega)
      rw [show t - (k + 1) + 1 = t - k by omega] at s
      have q := (Rp_q (t - (k + 1)) (by omega) ⟨h.1, fun i hi => h.2 i (by omega)⟩).2
      rw [s.2.2] at i1
      exact ⟨(g_P_lk q).1, hy _ (by omega), f (t - k), Or.inr s.1.1, s.1.2.1, s.1.2.2.1, i1⟩
  have q := st t (Nat.le_refl t)
  rw [show t - t = 0 by omega, h.1.2.2] at q
  exact ⟨r, f 0, h.1.1.1, q⟩
theorem t_tk23 {M P : bM} {d l p x v1 v2 day i bv : Int} {V : Int → Prop} (hO : O_all M d) (hZ : Zw M d l p P) (hv : V bv) (hb : ∀ b, V b → 0 ≤ b ∧ b < M 6 0) (h : ∀ b, 0 ≤ b → b < M 6 0 → b_wp (F_X12_takeLinks_s23 v1 v2 day i b P) (fun y => (y = Sum.inl (b + 1) ∧ ¬ V b) ∨ (y = Sum.inr b ∧ V b))) : b_wp (b_loop (fun t : Int => F_X12_takeLinks_s23 v1 v2 day i t P) 0) (fun b => V b ∧ ∀ b', b' < b → ¬ V b') := by
  have hbv := hb bv hv
  refine b_loop_ind (I := fun b : Int => (0 ≤ b ∧ b ≤ bv) ∧ ∀ b', b' < b → ¬ V b') (fun b => (bv - b).toNat) ?_ 0 ⟨by omega, fun b' hb' w => by have := hb b' w; omega⟩
  intro b ⟨h1, h2⟩
  refine b_wp_m (fun y yy => ?_) (h b h1.1 (by omega))
  rcases yy with ⟨rfl, z⟩ | ⟨rfl, z⟩
  · have : b ≠ bv := fun e => z (by rw [e]; exact hv)
    refine ⟨⟨by omega, fun b' hb' w => ?_⟩, by omega⟩
    by_cases q : b' = b
    · subst q; exact z w
    · exact h2 b' (by omega) w
  · exact ⟨z, h2⟩
theorem t_takeLinks {M N : bM} {d l p x r : Int} {t : Nat} (hO : O_all M d) (hZ : Zw M d l p N) (hL : Lr M d l p x N 8) (hs : Sh M d l p x t) (hr : 0 ≤ r ∧ r < M 11 20) (hb : ∃ b, g_R M d l p x false t r b) : b_wp (F_X12_takeLinks r (t : Int) N) (fun P => (∀ c j, c ≠ 219 → ¬ (c = 11 ∧ j = 86) → P c j = N c j) ∧ P 11 86 = (t : Int) + 1 ∧ ∃ D, Rp M d l p x t r (fun i => P 219 (i : Int)) D t) := by
  have b1 := hO.1.1.2.2.2.2.2.2.2.2.2
  have l1 := hO.1.1.2.2.1.1
  have t8 := hs.1
  have n218 : N 218 r = M 218 r := hZ.1.1 218 r rfl
  unfold F_X12_takeLinks F_X12_takeLinks_b167
  rw [n218]
  refine b_Wg (by omega) (b_Wl (b_Wl (b_Wb ?_)))
  refine b_loop_ind (I := fun s : Int × Int × bM => (∀ c j, c ≠ 219 → ¬ (c = 11 ∧ j = 86) → s.2.2 c j = N c j) ∧ (-1 ≤ s.2.1 ∧ s.2.1 ≤ (t : Int)) ∧ s.2.2 11 86 = (t : Int) - s.2.1 ∧ ((s.2.1 = (t : Int) ∧ s.1 = M 218 r) ∨ ∃ k : Nat, k ≤ t ∧ s.2.1 + 1 + (k : Int) = (t : Int) ∧ ∃ D, Rp M d l p x t r (fun i => s.2.2 219 (i : Int)) D k ∧ s.1 = D k)) (fun s => (s.2.1 + 1).toNat) ?_ (M 218 r, (t : Int), b_up N 11 86 0) ⟨fun c j c1 c2 => by dsimp only; unfold b_up; rw [if_neg c2], by dsimp only; omega, by dsimp only; rw [b_ups]; omega, Or.inl ⟨rfl, rfl⟩⟩
  intro ⟨day, i, P⟩ ⟨h1, h2, h3, h4⟩
  dsimp only at h1 h2 h3 h4 ⊢
  have zP : Zw M d l p P := Zw_up hZ (fun c j c1 c2 c3 => h1 c j c1 (by omega))
  have p220 : P 220 = N 220 := funext fun j => h1 220 j (by decide) (by omega)
  unfold F_X12_takeLinks_s15
  by_cases q : i < 0
  · refine b_Wt q (b_Ws (b_Ws ⟨h1, by rw [h3]; omega, ?_⟩))
    rcases h4 with ⟨h5, _⟩ | ⟨k, k1, k2, D, k3, _⟩
    · omega
    · rw [show k = t by omega] at k3
      exact ⟨D, k3⟩
  · have put : ∀ b, (0 ≤ b ∧ b < M 6 0) → (∃ k : Nat, k ≤ t ∧ i + (k : Int) = (t : Int) ∧ ∃ D, Rp M d l p x t r (fun j => b_up P 219 (P 11 86) b 219 (j : Int)) D k ∧ max (g_B M b) day = D k) → b_wp (F_X12_takeLinks_b128 r (t : Int) day i b P) (Sum.elim (fun s : Int × Int × bM => ((∀ c j, c ≠ 219 → ¬ (c = 11 ∧ j = 86) → s.2.2 c j = N c j) ∧ (-1 ≤ s.2.1 ∧ s.2.1 ≤ (t : Int)) ∧ s.2.2 11 86 = (t : Int) - s.2.1 ∧ ((s.2.1 = (t : Int) ∧ s.1 = M 218 r) ∨ ∃ k : Nat, k ≤ t ∧ s.2.1 + 1 + (k : Int) = (t : Int) ∧ ∃ D, Rp M d l p x t r (fun i => s.2.2 219 (i : Int)) D k ∧ s.1 = D k)) ∧ (s.2.1 + 1).toNat < (i + 1).toNat) (fun r' => b_wp (some r') (fun P => (∀ c j, c ≠ 219 → ¬ (c = 11 ∧ j = 86) → P c j = N c j) ∧ P 11 86 = (t : Int) + 1 ∧ ∃ D, Rp M d l p x t r (fun i => P 219 (i : Int)) D t))) := by
      intro b hbb hk
      obtain ⟨_, u3, u4, _⟩ := Zw_e hO zP hbb
      unfold F_X12_takeLinks_b128
      refine b_Wg (by omega) (b_Wl ?_)
      rw [b_upc (by decide)]
      refine b_Wg (by omega) (b_Wl (b_Wg (by omega) ?_))
      rw [b_upc (by decide), b_upc (by decide), u3]
      refine b_We E_X12_greater (b_Wg (by omega) (b_Ws ⟨⟨fun c j c1 c2 => ?_, by dsimp only; omega, ?_, Or.inr ?_⟩, by dsimp only; omega⟩))
      · dsimp only
        unfold b_up
        rw [if_neg c2, if_neg (fun e => c1 e.1)]; exact h1 c j c1 c2
      · dsimp only
        rw [b_ups, h3]; omega
      · obtain ⟨k, k1, k2, D, k3, k4⟩ := hk
        refine ⟨k, k1, by dsimp only; omega, D, ?_, k4⟩
        have e : (fun j : Nat => b_up (b_up P 219 (P 11 86) b) 11 86 (P 11 86 + 1) 219 (j : Int)) = fun j : Nat => b_up P 219 (P 11 86) b 219 (j : Int) := funext fun j => b_upc (by decide)
        dsimp only
        rw [e]
        exact k3
    refine b_Wf q (b_Wb ?_)
    rcases h4 with ⟨h5, h6⟩ | ⟨k, k1, k2, D, k3, k4⟩
    · obtain ⟨b0, hb0⟩ := hb
      have hrt : ∀ b, g_R M d l p x false t r b → 0 ≤ b ∧ b < M 6 0 := fun b w => (g_P_lk w.2).1.1
      refine b_wp_m (fun b yb => ?_) (t_tk23 (x := x) (V := g_R M d l p x false t r) (bv := b0) hO zP hb0 hrt (fun b x0 x1 => ?_))
      · refine put b (hrt b yb.1) ⟨0, by omega, by omega, fun _ => max (M 218 r) (g_B M b), ⟨⟨?_, fun b' hb' => ?_, ?_⟩, fun j hj => by omega⟩, by dsimp only; omega⟩
        · dsimp only
          rw [h3, show ((0 : Nat) : Int) = (t : Int) - i by omega, b_ups]; exact yb.1
        · dsimp only at hb'
          rw [h3, show ((0 : Nat) : Int) = (t : Int) - i by omega, b_ups] at hb'
          exact yb.2 b' hb'
        · dsimp only
          rw [h3, show ((0 : Nat) : Int) = (t : Int) - i by omega, b_ups]
      · obtain ⟨_, u3, u4, _⟩ := Zw_e hO zP ⟨x0, x1⟩
        have hw := zP.2.2.2 r b hr.1 hr.2 x0 x1
        have hrr := G_r hO.1 ⟨x0, x1⟩
        have hle := (hL t b (by omega) x0 x1).2 (max (M 218 r) (g_B M b)) (by omega)
        unfold F_X12_takeLinks_s23 F_X12_takeLinks_b85
        rw [u3, p220, h6]
        refine b_Wt h5 (b_Wg (by omega) (b_Wi (fun z => b_Wg (by omega) (b_Ws (Or.inl ⟨rfl, fun w => ?_⟩))) (fun z => b_Wg (by omega) (b_We E_X12_greater (b_Wg (by omega) ?_)))))
        · have := hw.2.mpr ⟨(g_P_lk w.2).1, w.1⟩
          omega
        · rw [h5]
          refine b_Wi (fun z2 => b_Wg (by omega) (b_Ws (Or.inl ⟨rfl, fun w => ?_⟩))) (fun z2 => b_Ws (Or.inr ⟨rfl, (hw.2.mp (hw.1.resolve_left z)).2, hle.mp (by omega)⟩))
          have := hle.mpr w.2
          omega
    · obtain ⟨q1, q2⟩ := Rp_q k k1 k3
      have hlk := g_P_lk q2
      have e86 : P 11 86 = (k : Int) + 1 := by rw [h3]; omega
      have kt : k < t := by omega
      have hv : ∀ b, Nx M d l p x (t - k - 1) (P 219 (k : Int)) (D k) b → 0 ≤ b ∧ b < M 6 0 := fun b w => (g_P_lk w.2.2.2).1.1
      have ex : ∃ b, Nx M d l p x (t - k - 1) (P 219 (k : Int)) (D k) b := by
        rw [show t - k = t - k - 1 + 1 by omega] at q2
        obtain ⟨_, _, b, w1, w2, w3, w4⟩ := q2
        exact ⟨b, w1.resolve_left (by decide), w2, w3, w4⟩
      obtain ⟨b0, hb0⟩ := ex
      refine b_wp_m (fun b yb => ?_) (t_tk23 (x := x) (V := Nx M d l p x (t - k - 1) (P 219 (k : Int)) (D k)) (bv := b0) hO zP hb0 hv (fun b x0 x1 => ?_))
      · have old : ∀ j : Nat, j ≤ k → b_up P 219 (P 11 86) b 219 (j : Int) = P 219 (j : Int) := fun j hj => b_upi (by omega)
        have new : b_up P 219 (P 11 86) b 219 ((k + 1 : Nat) : Int) = b := by rw [show ((k + 1 : Nat) : Int) = P 11 86 by omega, b_ups]
        refine put b (hv b yb.1) ⟨k + 1, by omega, by omega, fun j => if j ≤ k then D j else max (D k) (g_B M b), ⟨⟨?_, fun b' hb' => ?_, ?_⟩, fun j hj => ?_⟩, ?_⟩
        · dsimp only
          rw [old 0 (by omega)]; exact k3.1.1
        · dsimp only at hb'
          rw [old 0 (by omega)] at hb'
          exact k3.1.2.1 b' hb'
        · dsimp only
          rw [if_pos (by omega), old 0 (by omega)]; exact k3.1.2.2
        · dsimp only
          by_cases qi : j = k
          · subst qi
            rw [old j (by omega), new, if_pos (by omega), if_neg (by omega)]
            exact ⟨yb.1, yb.2, rfl⟩
          · rw [old j (by omega), old (j + 1) (by omega), if_pos (by omega), if_pos (by omega)]
            exact k3.2 j (by omega)
        · dsimp only
          rw [if_neg (by omega), k4]; omega
      · obtain ⟨_, u3, u4, _⟩ := Zw_e hO zP ⟨x0, x1⟩
        have hc := hlk.1.1
        have hw := zP.2.2.1 (P 219 (k : Int)) b hc.1 hc.2 x0 x1
        have hrr := G_r hO.1 ⟨x0, x1⟩
        have hle := (hL (t - k - 1) b (by omega) x0 x1).2 (max (D k) (g_B M b)) (by omega)
        rw [show (((t - k - 1 : Nat)) : Int) = i by omega] at hle
        obtain ⟨K, hK⟩ : ∃ K : Int, K = (k : Int) := ⟨_, rfl⟩
        rw [← hK] at hw hlk hc
        have e86' : P 11 86 - 1 = K := by omega
        unfold F_X12_takeLinks_s23 F_X12_takeLinks_b84 F_X12_takeLinks_b85
        rw [e86', u3, u4, p220, k4]
        refine b_Wf (by omega) ?_
        refine b_Wg (by omega) ?_
        refine b_Wi (fun z => ?_) (fun z => ?_)
        · refine b_Wt rfl (b_Wg (by omega) (b_Ws (Or.inl ⟨rfl, fun w => ?_⟩)))
          rw [← hK] at w
          have := hw.2.mpr ⟨w.1, hlk.1, (g_P_lk w.2.2.2).1, w.2.1⟩
          omega
        · refine b_Wg (by omega) (b_Wi (fun z2 => ?_) (fun z2 => ?_))
          · refine b_Wt rfl (b_Wg (by omega) (b_Ws (Or.inl ⟨rfl, fun w => ?_⟩)))
            have := w.2.2.1
            omega
          · refine b_Wf (by decide) (b_Wg (by omega) (b_We E_X12_greater (b_Wg (by omega) (b_Wi (fun z3 => ?_) (fun z3 => ?_)))))
            · refine b_Wg (by omega) (b_Ws (Or.inl ⟨rfl, fun w => ?_⟩))
              have := hle.mpr w.2.2.2
              omega
            · refine b_Ws (Or.inr ⟨rfl, ?_⟩)
              have hw2 := hw.2.mp (hw.1.resolve_left z)
              rw [← hK]
              exact ⟨hw2.1, hw2.2.2.2, by omega, hle.mp (by omega)⟩
theorem t_weakest {M P : bM} {d l p : Int} {t : Nat} (hO : O_all M d) (hZ : Zw M d l p P) (ht : t < 8) (h86 : P 11 86 = (t : Int) + 1) (hf : ∀ j : Nat, j ≤ t → 0 ≤ P 219 (j : Int) ∧ P 219 (j : Int) < M 6 0) : b_wp (F_X12_weakestOf P) (fun w => (∃ j : Nat, j ≤ t ∧ w = g_p M (P 219 (j : Int))) ∧ ∀ j : Nat, j ≤ t → w ≤ g_p M (P 219 (j : Int))) := by
  unfold F_X12_weakestOf F_X12_weakestOf_b23 F_X12_weakestOf_b55
  rw [h86]
  have h0 := hf 0 (by omega)
  have e0 := (Zw_e hO hZ h0).2.2.2
  rw [show ((0 : Nat) : Int) = 0 by omega] at e0
  refine b_Wf (by omega) (b_We e0 (b_Wb ?_))
  refine b_loop_ind (I := fun s : Int × Int => (1 ≤ s.2 ∧ s.2 ≤ (t : Int) + 1) ∧ (∃ j : Nat, j ≤ t ∧ s.1 = g_p M (P 219 (j : Int))) ∧ ∀ j : Nat, (j : Int) < s.2 → s.1 ≤ g_p M (P 219 (j : Int))) (fun s => ((t : Int) + 1 - s.2).toNat) ?_ (g_p M (P 219 0), 1) ⟨by dsimp only; omega, ⟨0, by omega, rfl⟩, fun j hj => by dsimp only at hj ⊢; rw [show (j : Int) = 0 by omega]; exact Int.le_refl _⟩
  intro ⟨w, i⟩ ⟨h1, h2, h3⟩
  dsimp only at h1 h2 h3 ⊢
  unfold F_X12_weakestOf_s26
  rw [h86]
  by_cases q : (t : Int) + 1 ≤ i
  · exact b_Wt q (b_Ws (b_Ws ⟨h2, fun j hj => h3 j (by omega)⟩))
  · have hi := hf i.toNat (by omega)
    rw [show ((i.toNat : Nat) : Int) = i by omega] at hi
    refine b_Wf q (b_Wg (by omega) (b_We (Zw_e hO hZ hi).2.2.2 (b_We E_X12_lesser (b_Wg (by omega) (b_Ws ⟨⟨by dsimp only; omega, ?_, fun j hj => ?_⟩, by dsimp only; omega⟩)))))
    · dsimp only
      by_cases qm : w ≤ g_p M (P 219 i)
      · rw [Int.min_eq_left qm]; exact h2
      · rw [Int.min_eq_right (by omega)]
        exact ⟨i.toNat, by omega, by rw [show ((i.toNat : Nat) : Int) = i by omega]⟩
    · dsimp only at hj ⊢
      by_cases qj : (j : Int) = i
      · rw [qj]; exact Int.min_le_right _ _
      · have := h3 j (by omega)
        omega
