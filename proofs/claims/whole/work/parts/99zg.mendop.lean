/-- by how much line i is changed along axis w -/
def z_d (M : bM) (l w i : Int) : Int := if M 178 (12 * l + i) = w then -x_ld M l w (M 94 l).toNat else x_ld M l w (M 94 l).toNat
/-- BOUNDS closed along axis w -/
def chg (M : bM) (l w i : Int) : bM := if x_ld M l w (M 94 l).toNat = 0 then M else b_up (b_up M 97 (12 * l + i) (M 97 (12 * l + i) + z_d M l w i)) 179 (12 * l + i) (M 179 (12 * l + i) + z_d M l w i)
theorem chg_0 {M : bM} {l w i : Int} (h : x_ld M l w (M 94 l).toNat = 0) : chg M l w i = M := if_pos h
theorem chg_1 {M : bM} {l w i : Int} (h : ¬ x_ld M l w (M 94 l).toNat = 0) : (∀ c j, c ≠ 97 → c ≠ 179 → chg M l w i c j = M c j) ∧ (∀ j, chg M l w i 97 j = if j = 12 * l + i then M 97 (12 * l + i) + z_d M l w i else M 97 j) ∧ ∀ j, chg M l w i 179 j = if j = 12 * l + i then M 179 (12 * l + i) + z_d M l w i else M 179 j := by
  have e : chg M l w i = b_up (b_up M 97 (12 * l + i) (M 97 (12 * l + i) + z_d M l w i)) 179 (12 * l + i) (M 179 (12 * l + i) + z_d M l w i) := if_neg h
  rw [e]
  refine ⟨fun c j c1 c2 => ?_, fun j => ?_, fun j => ?_⟩
  · rw [b_upc c2, b_upc c1]
  · rw [b_upc (by decide), b_upJ]
  · rw [b_upJ, b_upc (by decide)]
theorem x_ld_up {M N : bM} {l w k d : Int} (h8 : ∀ j : Nat, N 178 (12 * l + j) = M 178 (12 * l + j)) (h9 : ∀ j : Nat, N 179 (12 * l + j) = if (j : Int) = k then M 179 (12 * l + j) + d else M 179 (12 * l + j)) : ∀ n : Nat, x_ld N l w n = x_ld M l w n + (if 0 ≤ k ∧ k < n then (if M 178 (12 * l + k) = w then d else if M 178 (12 * l + k) = w + 2 then -d else 0) else 0) := by
  intro n
  induction n with
  | zero => rw [if_neg (by omega)]; rfl
  | succ n ih =>
    show x_ld N l w n + (if N 178 (12 * l + n) = w then N 179 (12 * l + n) else if N 178 (12 * l + n) = w + 2 then -N 179 (12 * l + n) else 0) = x_ld M l w n + (if M 178 (12 * l + n) = w then M 179 (12 * l + n) else if M 178 (12 * l + n) = w + 2 then -M 179 (12 * l + n) else 0) + _
    rw [ih, h8, h9]
    by_cases e : (n : Int) = k
    · rw [if_pos e, if_neg (by omega), if_pos (show 0 ≤ k ∧ k < ((n + 1 : Nat) : Int) by omega), ← e]
      split
      · omega
      · split <;> omega
    · rw [if_neg e]
      by_cases e2 : 0 ≤ k ∧ k < (n : Int)
      · rw [if_pos e2, if_pos (show 0 ≤ k ∧ k < ((n + 1 : Nat) : Int) by omega)]; omega
      · rw [if_neg e2, if_neg (show ¬ (0 ≤ k ∧ k < ((n + 1 : Nat) : Int)) by omega)]; omega
/-- what closing along one axis does -/
theorem chg_f {M : bM} {l w i K : Int} (h : Ln M l) (hw : 0 ≤ w ∧ w ≤ 1) (hK : K ≤ 1500) (hf : ∀ j, 0 ≤ j → j < M 94 l → 1 ≤ M 179 (12 * l + j) ∧ M 179 (12 * l + j) ≤ K) (hs : x_ld M l w (M 94 l).toNat ≠ 0 → -720 ≤ x_ld M l w (M 94 l).toNat ∧ x_ld M l w (M 94 l).toNat ≤ 720) (hL : Lc M l (z_tl w (x_ld M l w (M 94 l).toNat)) (max (x_ld M l w (M 94 l).toNat) (-x_ld M l w (M 94 l).toNat)) i) (hi : x_ld M l w (M 94 l).toNat ≠ 0 → i ≠ -1) : (∀ c j, c ≠ 97 → c ≠ 179 → chg M l w i c j = M c j) ∧ (∀ j, ¬ (12 * l ≤ j ∧ j < 12 * l + M 94 l) → chg M l w i 97 j = M 97 j ∧ chg M l w i 179 j = M 179 j) ∧ Ln (chg M l w i) l ∧ (∀ j, 0 ≤ j → j < M 94 l → 1 ≤ chg M l w i 179 (12 * l + j) ∧ chg M l w i 179 (12 * l + j) ≤ (if x_ld M l w (M 94 l).toNat = 0 then K else K + 720)) ∧ x_ld (chg M l w i) l w (M 94 l).toNat = 0 ∧ (∀ w', w' ≠ w → w' + 2 ≠ w → w' ≠ w + 2 → x_ld (chg M l w i) l w' (M 94 l).toNat = x_ld M l w' (M 94 l).toNat) ∧ ∀ j, M 178 (12 * l + j) ≠ w → M 178 (12 * l + j) ≠ w + 2 → chg M l w i 179 (12 * l + j) = M 179 (12 * l + j) := by
  have h1 := h.1
  have h2 := h.2.1
  by_cases q : x_ld M l w (M 94 l).toNat = 0
  · rw [chg_0 q, if_pos q]
    exact ⟨fun _ _ _ _ => rfl, fun _ _ => ⟨rfl, rfl⟩, h, hf, q, fun _ _ _ _ => rfl, fun _ _ _ => rfl⟩
  · obtain ⟨c1, c2, c3⟩ := chg_1 (i := i) q
    rw [if_neg q]
    have hs2 := hs q
    have lr := (Lc_r hL).resolve_left (hi q)
    obtain ⟨li, lw⟩ := lr
    have fi := hf i li.1 li.2
    have wi : M 178 (12 * l + i) = w ∨ M 178 (12 * l + i) = w + 2 := by
      unfold z_tl z_op at lw
      by_cases b : x_ld M l w (M 94 l).toNat ≤ 0
      · rw [if_pos b, if_neg (by omega)] at lw
        rcases lw with lw | lw
        · exact Or.inr lw.1
        · exact Or.inl (by omega)
      · rw [if_neg b, if_pos (by omega)] at lw
        rcases lw with lw | lw
        · exact Or.inl lw.1
        · exact Or.inr lw
    have nf : 1 ≤ M 179 (12 * l + i) + z_d M l w i ∧ M 179 (12 * l + i) + z_d M l w i ≤ K + 720 := by
      unfold z_d
      unfold z_tl z_op at lw
      by_cases b : x_ld M l w (M 94 l).toNat ≤ 0
      · rw [if_pos b, if_neg (by omega)] at lw
        rcases lw with lw | lw
        · rw [if_neg (by omega)]; omega
        · rw [if_pos (by omega)]; omega
      · rw [if_neg b, if_pos (by omega)] at lw
        rcases lw with lw | lw
        · rw [if_pos (by omega)]; omega
        · rw [if_neg (by omega)]; omega
    have up : ∀ w' n, x_ld (chg M l w i) l w' n = _ := fun w' n => x_ld_up (M := M) (k := i) (d := z_d M l w i) (w := w') (fun j => c1 178 _ (by decide) (by decide)) (fun j => by
      rw [c3]
      by_cases e : (j : Int) = i
      · rw [if_pos (by omega), if_pos e, e]
      · rw [if_neg (by omega), if_neg e]) n
    refine ⟨c1, fun j hj => ⟨by rw [c2, if_neg (by omega)], by rw [c3, if_neg (by omega)]⟩, ⟨h1, ?_, fun j j0 j1 => ?_⟩, fun j j0 j1 => ?_, ?_, fun w' w1 w2 w3 => ?_, fun j j1 j2 => ?_⟩
    · rw [c1 94 l (by decide) (by decide), c1 175 l (by decide) (by decide)]; exact h2
    · rw [c1 94 l (by decide) (by decide)] at j1
      have g := h.2.2 j j0 j1
      rw [c1 178 _ (by decide) (by decide), c2, c3]
      by_cases e : j = i
      · rw [if_pos (by omega), if_pos (by omega), e]
        rw [e] at g
        omega
      · rw [if_neg (by omega), if_neg (by omega)]; exact g
    · rw [c3]
      by_cases e : j = i
      · rw [if_pos (by omega)]; exact nf
      · rw [if_neg (by omega)]
        have := hf j j0 j1
        omega
    · rw [up, if_pos (by omega)]
      unfold z_d
      rcases wi with e | e
      · rw [if_pos e, if_pos e]; omega
      · rw [if_neg (by omega), if_pos e, if_neg (by omega)]; omega
    · rw [up, if_pos (by omega), if_neg (by omega), if_neg (by omega)]; omega
    · rw [c3]
      by_cases e : j = i
      · rw [e] at j1 j2
        rcases wi with e2 | e2
        · exact absurd e2 j1
        · exact absurd e2 j2
      · rw [if_neg (by omega)]
/-- the class changes one line -/
theorem t_change {U P : bM} {l w i : Int} (h : Ln U l) (hP : ∀ j, P 97 j = U 97 j) (hw : 0 ≤ w ∧ w ≤ 1) (hr : i = -1 ∨ (0 ≤ i ∧ i < U 94 l)) (hi : x_ld U l w (U 94 l).toNat ≠ 0 → i ≠ -1) : b_wp (F_X5_changeLine l i w (x_ld U l w (U 94 l).toNat) P) (fun N => (∀ c j, c ≠ 97 → N c j = P c j) ∧ ∀ j, N 97 j = chg U l w i 97 j) := by
  have h1 := h.1
  have h2 := h.2.1
  have r := x_ld_r (w := w) h
  unfold F_X5_changeLine
  refine b_Wi (fun a => b_Ws ⟨fun _ _ _ => rfl, fun j => ?_⟩) (fun a => ?_)
  · have q : x_ld U l w (U 94 l).toNat = 0 := by
      by_cases q : x_ld U l w (U 94 l).toNat = 0
      · exact q
      · exact absurd a (hi q)
    rw [chg_0 q]; exact hP j
  have ri := hr.resolve_left a
  have g := h.2.2 i ri.1 ri.2
  have ew : F_X5_wayOf l i P = some (U 178 (12 * l + i)) := by
    rw [← e_wayOf h ri]
    unfold F_X5_wayOf
    rw [hP]
  have fin : ∀ d, d = z_d U l w i → b_wp (F_X5_changeLine_b35 (l * 12 + i) (P 97 (l * 12 + i)) d P) (fun N => (∀ c j, c ≠ 97 → N c j = P c j) ∧ ∀ j, N 97 j = chg U l w i 97 j) := by
    intro d hd
    have dr : -2000000 ≤ d ∧ d ≤ 2000000 := by
      rw [hd]; unfold z_d; split <;> omega
    unfold F_X5_changeLine_b35
    rw [hP, show l * 12 + i = 12 * l + i by omega]
    refine b_Wg (by omega) (b_Wl (b_Ws ⟨fun c j hc => b_upc hc, fun j => ?_⟩))
    rw [b_upJ]
    by_cases q : x_ld U l w (U 94 l).toNat = 0
    · rw [chg_0 q]
      have d0 : d = 0 := by rw [hd]; unfold z_d; rw [q]; split <;> rfl
      by_cases e : j = 12 * l + i
      · rw [if_pos e, e]; omega
      · rw [if_neg e]; exact hP j
    · rw [(chg_1 (i := i) q).2.1, hd]
      by_cases e : j = 12 * l + i
      · rw [if_pos e, if_pos e]
      · rw [if_neg e, if_neg e]; exact hP j
  refine b_Wg (by omega) (b_We ew (b_Wi (fun b => b_Wg (by omega) (fin _ ?_)) (fun b => fin _ ?_)))
  · unfold z_d; rw [if_pos b]
  · unfold z_d; rw [if_neg b]
/-- the reference changes one line -/
theorem t_s56 {U R : bM} {l w i e : Int} (h : Ln U l) (hR : Lk2 U R l) (hw : 0 ≤ w ∧ w ≤ 1) (hL : Lc U l (z_tl w (x_ld U l w (U 94 l).toNat)) (max (x_ld U l w (U 94 l).toNat) (-x_ld U l w (U 94 l).toNat)) i) (hi : x_ld U l w (U 94 l).toNat ≠ 0 → i ≠ -1) : b_wp (F_X12_mend_s56 l e w R) (Sum.elim (fun o : Int × bM => o.1 = w + 1 ∧ Lk2 (chg U l w i) o.2 l ∧ (∀ c j, c ≠ 179 → o.2 c j = R c j) ∧ ∀ j, ¬ (12 * l ≤ j ∧ j < 12 * l + U 94 l) → o.2 179 j = R 179 j) (fun _ : bM => False)) := by
  have h1 := h.1
  have h2 := h.2.1
  have r := x_ld_r (w := w) h
  unfold F_X12_mend_s56
  refine b_Wf (by omega) (b_We (e_leads h hR hw) (b_Wi (fun a => b_Wg (by omega) (b_Ws ⟨rfl, ?_, fun _ _ _ => rfl, fun _ _ => rfl⟩)) (fun a => ?_)))
  · rw [chg_0 a]; exact hR
  have lr := (Lc_r hL).resolve_left (hi a)
  obtain ⟨li, lw⟩ := lr
  obtain ⟨c1, c2, c3⟩ := chg_1 (i := i) a
  have wi : U 178 (12 * l + i) = w ∨ U 178 (12 * l + i) = w + 2 := by
    unfold z_tl z_op at lw
    by_cases b : x_ld U l w (U 94 l).toNat ≤ 0
    · rw [if_pos b, if_neg (by omega)] at lw
      rcases lw with lw | lw
      · exact Or.inr lw.1
      · exact Or.inl (by omega)
    · rw [if_neg b, if_pos (by omega)] at lw
      rcases lw with lw | lw
      · exact Or.inl lw.1
      · exact Or.inr lw
  refine b_Wb (b_wp_m (fun x z => ?_) (t_mends h hR hw))
  have ex : x = 12 * l + i := by
    rcases z with ⟨_, z2⟩ | ⟨_, z2⟩
    · exact absurd (Lc_u hL z2) (hi a)
    · have := Lc_u hL z2; omega
  subst ex
  clear z
  have g := h.2.2 i li.1 li.2
  have rc := hR.2 i li.1 li.2
  generalize hb : x_ld U l w (U 94 l).toNat = b at *
  have b138 : ∀ d, d = z_d U l w i → b_wp (F_X12_mend_b138 l e w (12 * l + i) (R 179 (12 * l + i)) d R) (Sum.elim (fun o : Int × bM => o.1 = w + 1 ∧ Lk2 (chg U l w i) o.2 l ∧ (∀ c j, c ≠ 179 → o.2 c j = R c j) ∧ ∀ j, ¬ (12 * l ≤ j ∧ j < 12 * l + U 94 l) → o.2 179 j = R 179 j) (fun _ : bM => False)) := by
    intro d hd
    have dr : -2000000 ≤ d ∧ d ≤ 2000000 := by
      rw [hd]; unfold z_d; rw [hb]; split <;> omega
    unfold F_X12_mend_b138
    rw [rc.2]
    refine b_Wg (by omega) (b_Wl (b_Wg (by omega) (b_Ws ⟨rfl, ⟨?_, fun j j0 j1 => ⟨?_, ?_⟩⟩, fun c j hc => ?_, fun j hj => ?_⟩)))
    · dsimp only
      rw [b_upc (by decide), c1 94 l (by decide) (by decide)]; exact hR.1
    · dsimp only
      rw [c1 94 l (by decide) (by decide)] at j1
      rw [b_upc (by decide), c1 178 _ (by decide) (by decide)]; exact (hR.2 j j0 j1).1
    · dsimp only
      rw [c1 94 l (by decide) (by decide)] at j1
      rw [b_upJ, c3, hd]
      by_cases ej : 12 * l + j = 12 * l + i
      · rw [if_pos ej, if_pos ej]
      · rw [if_neg ej, if_neg ej]; exact (hR.2 j j0 j1).2
    · dsimp only; exact b_upc hc
    · dsimp only; exact b_upi (by omega)
  have b127 : ∀ u, u = max b (-b) → b_wp (F_X12_mend_b98 l e w b (12 * l + i) u R) (Sum.elim (fun o : Int × bM => o.1 = w + 1 ∧ Lk2 (chg U l w i) o.2 l ∧ (∀ c j, c ≠ 179 → o.2 c j = R c j) ∧ ∀ j, ¬ (12 * l ≤ j ∧ j < 12 * l + U 94 l) → o.2 179 j = R 179 j) (fun _ : bM => False)) := by
    intro u hu
    unfold F_X12_mend_b98 F_X12_mend_b127
    rw [rc.1]
    refine b_Wg (by omega) (b_Wi (fun b1 => b_Wg (by omega) (b_Wi (fun b2 => b_Wg (by omega) (b138 _ ?_)) (fun b2 => b138 _ ?_))) (fun b1 => b_Wi (fun b2 => b_Wg (by omega) (b138 _ ?_)) (fun b2 => b138 _ ?_)))
    · unfold z_d; rw [hb, if_neg (by omega)]; omega
    · unfold z_d; rw [hb, if_pos (by omega)]; omega
    · unfold z_d; rw [hb, if_pos b2]; omega
    · unfold z_d; rw [hb, if_neg b2]; omega
  exact b_Wi (fun b1 => b127 _ (by omega)) (fun b1 => b_Wg (by omega) (b127 _ (by omega)))
theorem Lc_c {M N : bM} {l t s i : Int} (h94 : N 94 l = M 94 l) (h8 : ∀ j, N 178 (12 * l + j) = M 178 (12 * l + j)) (h9 : ∀ j, M 178 (12 * l + j) = t → N 179 (12 * l + j) = M 179 (12 * l + j)) : Lc N l t s i ↔ Lc M l t s i := by
  have lf : ∀ j, Lf N l t s j ↔ Lf M l t s j := fun j => by
    unfold Lf
    rw [h8]
    exact ⟨fun z => ⟨z.1, by rw [← h9 j z.1]; exact z.2⟩, fun z => ⟨z.1, by rw [h9 j z.1]; exact z.2⟩⟩
  unfold Lc
  simp only [h94, h8, lf]
theorem x_sw_60 {M : bM} {l w : Int} : ∀ k : Nat, (∀ j : Nat, j < k → 0 ≤ M 179 (12 * l + j) ∧ M 179 (12 * l + j) ≤ 60) → 0 ≤ x_sw M l w k ∧ x_sw M l w k ≤ 60 * k := by
  intro k
  induction k with
  | zero => intro _; exact ⟨Int.le_refl _, Int.le_refl _⟩
  | succ k ih =>
    intro h
    have i1 := ih (fun j hj => h j (by omega))
    have r := h k (by omega)
    show 0 ≤ x_sw M l w k + _ ∧ x_sw M l w k + _ ≤ _
    split <;> omega
theorem op_mend {l : Int} {M : bM} (hL : R_lots M) (hS : R_shape M) (hb : R_bd M) : b_wp (F_X11_mend l M) (fun o => b_wp (F_X12_mend l o.2) (fun o2 => o.1 = o2.1 ∧ R_shape o2.2 ∧ R_bd o2.2)) := by
  have l1 := hL.1
  have e94 : M 175 = M 94 := hS.1.1
  unfold F_X11_mend
  refine b_We (e_withoutBounds (by omega)) ?_
  by_cases q : 0 ≤ l ∧ l < M 3 0
  · rw [if_pos q]
    have h := Ln_of hS (l := l) (by omega)
    have h2 := h.2.1
    by_cases q1 : M 94 l = 0
    · rw [if_pos q1]
      have eb := e_bad (M := M) (l := l) (n := M 3 0) (by omega) (by omega)
      rw [if_pos q, e94, if_pos q1] at eb
      refine b_Wf (by decide) (b_Ws ?_)
      dsimp only
      unfold F_X12_mend
      exact b_We eb (b_Wf (by decide) (b_We eb (b_Ws ⟨rfl, hS, hb⟩)))
    · rw [if_neg q1]
      -- what holds of the lines
      have bd := hb l q.1 (by omega)
      have kk : ∃ K, K ≤ 1500 ∧ (∀ j, 0 ≤ j → j < M 94 l → 1 ≤ M 179 (12 * l + j) ∧ M 179 (12 * l + j) ≤ K) ∧ ((K = 60 ∧ ∀ w, -720 ≤ x_ld M l w (M 94 l).toNat ∧ x_ld M l w (M 94 l).toNat ≤ 720) ∨ (x_ld M l 0 (M 94 l).toNat = 0 ∧ x_ld M l 1 (M 94 l).toNat = 0)) := by
        rcases bd.2 with b | b
        · refine ⟨60, by decide, fun j j0 j1 => ⟨bd.1 j j0 j1, b j j0 j1⟩, Or.inl ⟨rfl, fun w => ?_⟩⟩
          have f : ∀ j : Nat, j < (M 94 l).toNat → 0 ≤ M 179 (12 * l + j) ∧ M 179 (12 * l + j) ≤ 60 := fun j hj => by
            have := bd.1 j (by omega) (by omega)
            have := b j (by omega) (by omega)
            omega
          have a1 := x_sw_60 (w := w) (M 94 l).toNat f
          have a2 := x_sw_60 (w := w + 2) (M 94 l).toNat f
          rw [x_sw_ld]
          omega
        · exact ⟨1500, by decide, fun j j0 j1 => ⟨bd.1 j j0 j1, b.2.2 j j0 j1⟩, Or.inr ⟨b.1, b.2.1⟩⟩
      obtain ⟨K, k1, k2, k3⟩ := kk
      have r0 := x_ld_r (w := 0) h
      have r1 := x_ld_r (w := 1) h
      -- the class's lines
      refine b_Wt (by decide) ?_
      unfold F_X5_closeBounds
      refine b_Wb (b_We (e_miss h (by decide)) (b_We (e_miss h (by decide)) (b_Wb (b_wp_m (fun i0 z0 => b_Wb (b_wp_m (fun i1 z1 => ?_) (t_lineC h (by decide) (by omega)))) (t_lineC h (by decide) (by omega))))))
      -- how the reference begins
      have refb : ∀ (P : bM), (∀ c j, c ≠ 97 → P c j = M c j) → ∀ (Z : Int × bM → Prop), (((x_ld M l 0 (M 94 l).toNat ≠ 0 ∧ i0 = -1) ∨ (x_ld M l 1 (M 94 l).toNat ≠ 0 ∧ i1 = -1)) → Z (-1, P)) → (¬ ((x_ld M l 0 (M 94 l).toNat ≠ 0 ∧ i0 = -1) ∨ (x_ld M l 1 (M 94 l).toNat ≠ 0 ∧ i1 = -1)) → b_wp (F_X12_mend_b54 l (max (x_ld M l 0 (M 94 l).toNat) (-x_ld M l 0 (M 94 l).toNat) + max (x_ld M l 1 (M 94 l).toNat) (-x_ld M l 1 (M 94 l).toNat)) P) Z) → b_wp (F_X12_mend l P) Z := by
        intro P hP Z hZ1 hZ2
        have lk : Lk2 M P l := ⟨by rw [hP 175 l (by decide)]; exact h2.2.2, fun i _ _ => ⟨hP 178 _ (by decide), hP 179 _ (by decide)⟩⟩
        have p20 : P 11 20 = M 3 0 := by rw [hP 11 20 (by decide)]; exact l1.1
        have eb := e_bad (M := P) (l := l) (n := M 3 0) (by omega) p20
        rw [if_pos q, hP 175 l (by decide), e94, if_neg q1] at eb
        unfold F_X12_mend
        refine b_We eb (b_Wt rfl (b_We (e_errorR h lk (by omega) (by omega) q1) (b_Wb (b_wp_m (fun o y => ?_) (b_loop_ind (P := Sum.elim (fun _ : Unit => ¬ ((x_ld M l 0 (M 94 l).toNat ≠ 0 ∧ i0 = -1) ∨ (x_ld M l 1 (M 94 l).toNat ≠ 0 ∧ i1 = -1))) (fun o : Int × bM => o = (-1, P) ∧ ((x_ld M l 0 (M 94 l).toNat ≠ 0 ∧ i0 = -1) ∨ (x_ld M l 1 (M 94 l).toNat ≠ 0 ∧ i1 = -1)))) (I := fun w : Int => (0 ≤ w ∧ w ≤ 2) ∧ (1 ≤ w → ¬ (x_ld M l 0 (M 94 l).toNat ≠ 0 ∧ i0 = -1)) ∧ (2 ≤ w → ¬ (x_ld M l 1 (M 94 l).toNat ≠ 0 ∧ i1 = -1))) (fun w => (2 - w).toNat) ?_ 0 ⟨by decide, fun z => by omega, fun z => by omega⟩)))))
        · rcases o with u | o
          · exact hZ2 y
          · exact b_Ws (by rw [y.1]; exact hZ1 y.2)
        · intro w ⟨g1, g2, g3⟩
          unfold F_X12_mend_s22
          refine b_Wi (fun a => b_Ws (fun z => ?_)) (fun a => ?_)
          · rcases z with z | z
            · exact g2 (by omega) z
            · exact g3 (by omega) z
          have w01 : w = 0 ∨ w = 1 := by omega
          refine b_We (e_leads h lk (by omega)) (b_Wi (fun b => b_Wg (by omega) (b_Ws ⟨⟨by omega, fun z => ?_, fun z => ?_⟩, by omega⟩)) (fun b => b_Wb (b_wp_m (fun x y => ?_) (t_mends h lk (by omega)))))
          · rcases w01 with rfl | rfl
            · exact fun y => y.1 b
            · exact g2 (by decide)
          · rcases w01 with rfl | rfl
            · omega
            · exact fun y => y.1 b
          · have iw : ∀ i, Lc M l (z_tl w (x_ld M l w (M 94 l).toNat)) (max (x_ld M l w (M 94 l).toNat) (-x_ld M l w (M 94 l).toNat)) i → (x = -1 ↔ i = -1) := by
              intro i hi
              rcases y with ⟨y1, y2⟩ | ⟨y1, y2⟩
              · have := Lc_u hi y2
                omega
              · have := Lc_u hi y2
                have h10 := h.1
                omega
            clear y
            rcases w01 with rfl | rfl
            · have e := iw i0 z0
              exact b_Wi (fun c => b_Ws ⟨rfl, Or.inl ⟨b, e.mp c⟩⟩) (fun c => b_Wg (by omega) (b_Ws ⟨⟨by omega, fun _ y => c (e.mpr y.2), fun y => by omega⟩, by omega⟩))
            · have e := iw i1 z1
              exact b_Wi (fun c => b_Ws ⟨rfl, Or.inr ⟨b, e.mp c⟩⟩) (fun c => b_Wg (by omega) (b_Ws ⟨⟨by omega, fun _ => g2 (by decide), fun _ y => c (e.mpr y.2)⟩, by omega⟩))
      have no : ((x_ld M l 0 (M 94 l).toNat ≠ 0 ∧ i0 = -1) ∨ (x_ld M l 1 (M 94 l).toNat ≠ 0 ∧ i1 = -1)) → b_wp (F_X12_mend l M) (fun o2 => (-1 : Int) = o2.1 ∧ R_shape o2.2 ∧ R_bd o2.2) := fun z => refb M (fun _ _ _ => rfl) _ (fun _ => ⟨rfl, hS, hb⟩) (fun y => absurd z y)
      have yes : ¬ ((x_ld M l 0 (M 94 l).toNat ≠ 0 ∧ i0 = -1) ∨ (x_ld M l 1 (M 94 l).toNat ≠ 0 ∧ i1 = -1)) → b_wp (F_X5_closeBounds_b54 l (x_ld M l 0 (M 94 l).toNat) (x_ld M l 1 (M 94 l).toNat) i0 i1 M) (fun o => b_wp (b_two o (fun x3 M4 => some (x3, M4))) (fun o => b_wp (F_X12_mend l o.2) (fun o2 => o.1 = o2.1 ∧ R_shape o2.2 ∧ R_bd o2.2))) := by
        intro ne
        have n0 : x_ld M l 0 (M 94 l).toNat ≠ 0 → i0 ≠ -1 := fun z y => ne (Or.inl ⟨z, y⟩)
        have n1 : x_ld M l 1 (M 94 l).toNat ≠ 0 → i1 ≠ -1 := fun z y => ne (Or.inr ⟨z, y⟩)
        have s0 : x_ld M l 0 (M 94 l).toNat ≠ 0 → -720 ≤ x_ld M l 0 (M 94 l).toNat ∧ x_ld M l 0 (M 94 l).toNat ≤ 720 := fun z => by
          rcases k3 with k3 | k3
          · exact k3.2 0
          · exact absurd k3.1 z
        have s1 : x_ld M l 1 (M 94 l).toNat ≠ 0 → -720 ≤ x_ld M l 1 (M 94 l).toNat ∧ x_ld M l 1 (M 94 l).toNat ≤ 720 := fun z => by
          rcases k3 with k3 | k3
          · exact k3.2 1
          · exact absurd k3.2 z
        obtain ⟨a1, a2, a3, a4, a5, a6, a7⟩ := chg_f h (by decide) k1 k2 s0 z0 n0
        generalize hU : chg M l 0 i0 = U at *
        have u94 : U 94 l = M 94 l := a1 94 l (by decide) (by decide)
        have u178 : ∀ j, U 178 j = M 178 j := fun j => a1 178 j (by decide) (by decide)
        have ld1 : x_ld U l 1 (U 94 l).toNat = x_ld M l 1 (M 94 l).toNat := by rw [u94]; exact a6 1 (by decide) (by decide) (by decide)
        have z1' : Lc U l (z_tl 1 (x_ld U l 1 (U 94 l).toNat)) (max (x_ld U l 1 (U 94 l).toNat) (-x_ld U l 1 (U 94 l).toNat)) i1 := by
          rw [ld1]
          refine (Lc_c u94 (fun j => u178 _) (fun j hj => a7 j ?_ ?_)).mpr z1
          · rw [hj]; unfold z_tl; split <;> decide
          · rw [hj]; unfold z_tl; split <;> decide
        have kU : ∃ K2, K2 ≤ 1500 ∧ (∀ j, 0 ≤ j → j < U 94 l → 1 ≤ U 179 (12 * l + j) ∧ U 179 (12 * l + j) ≤ K2) ∧ (if x_ld U l 1 (U 94 l).toNat = 0 then K2 else K2 + 720) ≤ 1500 := by
          rcases k3 with k3 | k3
          · refine ⟨780, by decide, fun j j0 j1 => ?_, by split <;> decide⟩
            have := a4 j j0 (by omega)
            rw [k3.1] at this
            refine ⟨this.1, Int.le_trans this.2 ?_⟩
            split <;> decide
          · refine ⟨K, k1, fun j j0 j1 => ?_, by rw [ld1, if_pos k3.2]; exact k1⟩
            have := a4 j j0 (by omega)
            rw [if_pos k3.1] at this
            exact this
        obtain ⟨K2, m1, m2, m3⟩ := kU
        obtain ⟨b1, b2, b3, b4, b5, b6, b7⟩ := chg_f (w := 1) (i := i1) a3 (by decide) m1 m2 (by rw [ld1]; exact s1) z1' (by rw [ld1]; exact n1)
        have c0 := t_change (P := M) (w := 0) (i := i0) h (fun _ => rfl) (by decide) ((Lc_r z0).imp id (fun z => z.1)) n0
        rw [hU] at c0
        unfold F_X5_closeBounds_b54
        refine b_Wb (b_wp_m (fun P1 x => ?_) c0)
        obtain ⟨x1, x2⟩ := x
        have c1 := t_change (U := U) (P := P1) (w := 1) (i := i1) a3 x2 (by decide) ((Lc_r z1').imp id (fun z => z.1)) (by rw [ld1]; exact n1)
        have t0 := fun (R : bM) (hR : Lk2 M R l) (e : Int) => t_s56 (U := M) (R := R) (w := 0) (i := i0) (e := e) h hR (by decide) z0 n0
        rw [hU] at t0
        have t1 := fun (R : bM) (hR : Lk2 U R l) (e : Int) => t_s56 (U := U) (R := R) (w := 1) (i := i1) (e := e) a3 hR (by decide) z1' (by rw [ld1]; exact n1)
        generalize hV : chg U l 1 i1 = V at *
        rw [ld1] at c1
        refine b_Wb (b_wp_m (fun P2 x => ?_) c1)
        obtain ⟨x3, x4⟩ := x
        refine b_Wg (by omega) (b_Ws (b_Wtwo (b_Ws ?_)))
        dsimp only
        have p2 : ∀ c j, c ≠ 97 → P2 c j = M c j := fun c j hc => by rw [x3 c j hc, x1 c j hc]
        refine refb P2 p2 _ (fun y => absurd y ne) (fun _ => ?_)
        unfold F_X12_mend_b54
        have lk : Lk2 M P2 l := ⟨by rw [p2 175 l (by decide)]; exact h2.2.2, fun i _ _ => ⟨p2 178 _ (by decide), p2 179 _ (by decide)⟩⟩
        refine b_Wb (b_Wloop (b_wp_m (fun o y => ?_) (t0 P2 lk _)))
        rcases o with ⟨w, R1⟩ | o
        · obtain ⟨y1, y2, y3, y4⟩ := y
          dsimp only at y1 y2 y3 y4
          subst y1
          show b_wp _ _
          refine b_Wloop (b_wp_m (fun o y => ?_) (t1 R1 y2 _))
          rcases o with ⟨w, R2⟩ | o
          · obtain ⟨g1, g2, g3, g4⟩ := y
            dsimp only at g1 g2 g3 g4
            subst g1
            show b_wp _ _
            refine b_Wloop ?_
            unfold F_X12_mend_s56
            refine b_Wt (show (2 : Int) ≤ 1 + 1 by decide) (b_Ws ?_)
            show b_wp (F_X12_mend_b146 (max (x_ld M l 0 (M 94 l).toNat) (-x_ld M l 0 (M 94 l).toNat) + max (x_ld M l 1 (M 94 l).toNat) (-x_ld M l 1 (M 94 l).toNat)) R2) (fun o2 => (max (x_ld M l 0 (M 94 l).toNat) (-x_ld M l 0 (M 94 l).toNat) + max (x_ld M l 1 (M 94 l).toNat) (-x_ld M l 1 (M 94 l).toNat)) = o2.1 ∧ R_shape o2.2 ∧ R_bd o2.2)
            unfold F_X12_mend_b146
            have v94 : V 94 l = M 94 l := by rw [b1 94 l (by decide) (by decide), u94]
            have rr : ∀ c j, c ≠ 97 → c ≠ 179 → R2 c j = M c j := fun c j c1 c2 => by rw [g3 c j c2, y3 c j c2, p2 c j c1]
            have r97 : ∀ j, R2 97 j = V 97 j := fun j => by rw [g3 97 j (by decide), y3 97 j (by decide)]; exact x4 j
            have o97 : ∀ j, ¬ (12 * l ≤ j ∧ j < 12 * l + M 94 l) → R2 97 j = M 97 j ∧ R2 179 j = M 179 j := fun j hj => by
              rw [r97, (b2 j (by rw [u94]; exact hj)).1, (a2 j hj).1, g4 j (by rw [u94]; exact hj), y4 j hj, p2 179 j (by decide)]
              exact ⟨rfl, rfl⟩
            have r179 : ∀ j, 0 ≤ j → j < M 94 l → R2 178 (12 * l + j) = V 178 (12 * l + j) ∧ R2 179 (12 * l + j) = V 179 (12 * l + j) := fun j j0 j1 => g2.2 j j0 (by omega)
            have w94 : R2 94 = M 94 := funext fun j => rr 94 j (by decide) (by decide)
            refine b_Ws ⟨rfl, ⟨⟨?_, ?_, ?_⟩, fun l' => ?_, fun l' i c0 c1 d0 d1 => ?_⟩, fun l' c0 c1 => ?_⟩
            · dsimp only; rw [w94, ← e94]; exact funext fun j => rr 175 j (by decide) (by decide)
            · dsimp only; exact funext fun j => by rw [rr 176 j (by decide) (by decide), rr 95 j (by decide) (by decide), hS.1.2.1]
            · dsimp only; exact funext fun j => by rw [rr 177 j (by decide) (by decide), rr 96 j (by decide) (by decide), hS.1.2.2]
            · dsimp only; rw [w94]; exact hS.2.1 l'
            · dsimp only at d1 ⊢
              rw [w94] at d1
              by_cases e : l' = l
              · subst e
                have g := b3.2.2 i d0 (by omega)
                rw [r97, (r179 i d0 d1).1, (r179 i d0 d1).2]
                exact g
              · have h94 := hS.2.1 l'
                have o := o97 (12 * l' + i) (by omega)
                rw [o.1, o.2, rr 178 _ (by decide) (by decide)]
                exact hS.2.2 l' i c0 c1 d0 d1
            · dsimp only
              rw [w94]
              by_cases e : l' = l
              · subst e
                have e0 : x_ld R2 l' 0 (M 94 l').toNat = 0 := by
                  rw [x_ld_c (M := V) (M 94 l').toNat (fun i hi => r179 i (by omega) (by omega))]
                  rw [u94] at b6
                  exact (b6 0 (by decide) (by decide) (by decide)).trans a5
                have e1 : x_ld R2 l' 1 (M 94 l').toNat = 0 := by
                  rw [x_ld_c (M := V) (M 94 l').toNat (fun i hi => r179 i (by omega) (by omega))]
                  rw [u94] at b5
                  exact b5
                refine ⟨fun i d0 d1 => ?_, Or.inr ⟨e0, e1, fun i d0 d1 => ?_⟩⟩
                · rw [(r179 i d0 d1).2]; exact (b4 i d0 (by omega)).1
                · rw [(r179 i d0 d1).2]; exact Int.le_trans (b4 i d0 (by omega)).2 m3
              · have h94 := hS.2.1 l'
                have g := hb l' c0 c1
                have eq : ∀ i, 0 ≤ i → i < M 94 l' → R2 178 (12 * l' + i) = M 178 (12 * l' + i) ∧ R2 179 (12 * l' + i) = M 179 (12 * l' + i) := fun i d0 d1 => ⟨rr 178 _ (by decide) (by decide), (o97 (12 * l' + i) (by omega)).2⟩
                rw [x_ld_c (M := M) (M 94 l').toNat (fun i hi => eq i (by omega) (by omega)), x_ld_c (M := M) (M 94 l').toNat (fun i hi => eq i (by omega) (by omega))]
                refine ⟨fun i b0 b1 => by rw [(eq i b0 b1).2]; exact g.1 i b0 b1, ?_⟩
                rcases g.2 with g2 | g2
                · exact Or.inl fun i b0 b1 => by rw [(eq i b0 b1).2]; exact g2 i b0 b1
                · exact Or.inr ⟨g2.1, g2.2.1, fun i b0 b1 => by rw [(eq i b0 b1).2]; exact g2.2.2 i b0 b1⟩
          · exact y.elim
        · exact y.elim
      have no2 : ((x_ld M l 0 (M 94 l).toNat ≠ 0 ∧ i0 = -1) ∨ (x_ld M l 1 (M 94 l).toNat ≠ 0 ∧ i1 = -1)) → b_wp (some ((-1 : Int), M)) (fun o => b_wp (b_two o (fun x3 M4 => some (x3, M4))) (fun o => b_wp (F_X12_mend l o.2) (fun o2 => o.1 = o2.1 ∧ R_shape o2.2 ∧ R_bd o2.2))) := fun z => b_Ws (b_Wtwo (b_Ws (no z)))
      unfold F_X5_closeBounds_b42
      refine b_Wi (fun a => b_Wi (fun b => yes (fun z => ?_)) (fun b => b_Wi (fun c => no2 (Or.inr ⟨b, c⟩)) (fun c => yes (fun z => ?_)))) (fun a => b_Wi (fun c => no2 (Or.inl ⟨a, c⟩)) (fun c => b_Wi (fun b => yes (fun z => ?_)) (fun b => b_Wi (fun d => no2 (Or.inr ⟨b, d⟩)) (fun d => yes (fun z => ?_)))))
      · rcases z with z | z
        · exact z.1 a
        · exact z.1 b
      · rcases z with z | z
        · exact z.1 a
        · exact c z.2
      · rcases z with z | z
        · exact c z.2
        · exact z.1 b
      · rcases z with z | z
        · exact c z.2
        · exact d z.2
  · rw [if_neg q]
    have eb := e_bad (M := M) (l := l) (n := M 3 0) (by omega) (by omega)
    rw [if_neg q] at eb
    refine b_Wf (by decide) (b_Ws ?_)
    dsimp only
    unfold F_X12_mend
    exact b_We eb (b_Wf (by decide) (b_We eb (b_Ws ⟨rfl, hS, hb⟩)))
