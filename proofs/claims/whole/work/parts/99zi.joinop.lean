/-- the reference's set -/
def Jb (a b c d n S : Int) : Prop := ∀ l, 0 ≤ l → l < 64 → (j_bt S l.toNat = true ↔ pJ a b c d n l)
theorem t_jset {N : bM} {a b c d n v6 v7 k : Int} (hn : 2 ≤ n ∧ n ≤ 4) (h20 : N 11 20 = k) (hk : 0 ≤ k ∧ k ≤ 60) : b_wp (b_loop (fun t : Int × Int => F_X12_join_s34 n a b c d v6 v7 t.1 t.2 N) (0, 0)) (Sum.elim (fun S : Int => Jl a b c d n k ∧ Jb a b c d n S) (fun o : Int × bM => o = (-2, N) ∧ ¬ Jl a b c d n k)) := by
  refine b_loop_ind (I := fun t : Int × Int => (0 ≤ t.2 ∧ t.2 ≤ n) ∧ Jl a b c d t.2 k ∧ Jb a b c d t.2 t.1) (fun t => (n - t.2).toNat) ?_ (0, 0) ⟨by dsimp only; omega, fun i i0 i1 => by dsimp only at i1; omega, fun l l0 l1 => by dsimp only; rw [j_bt_0]; exact ⟨fun z => absurd z (by decide), fun z => by omega⟩⟩
  intro ⟨S, i⟩ ⟨g1, g2, g3⟩
  dsimp only at g1 g2 g3 ⊢
  have ps := fun l => pJ_s (a := a) (b := b) (c := c) (d := d) (i := i) (l := l)
  have b72 : i < n → ∀ u, u = cJ a b c d i → b_wp (F_X12_join_b72 n a b c d v6 v7 S i u N) (Sum.elim (fun t : Int × Int => ((0 ≤ t.2 ∧ t.2 ≤ n) ∧ Jl a b c d t.2 k ∧ Jb a b c d t.2 t.1) ∧ (n - t.2).toNat < (n - i).toNat) (Sum.elim (fun S : Int => Jl a b c d n k ∧ Jb a b c d n S) (fun o : Int × bM => o = (-2, N) ∧ ¬ Jl a b c d n k))) := by
    intro lt u hu
    unfold F_X12_join_b72
    refine b_We (e_X12_isLot (by omega)) (b_Wi (fun q => b_Ws ⟨rfl, fun z => ?_⟩) (fun q => ?_))
    · rw [b_01_0, h20, hu] at q
      exact q (z i g1.1 lt).1
    rw [b_01_0, h20] at q
    have q2 := Decidable.of_not_not q
    have tb := g3 u q2.1 (by omega)
    refine b_Wi (fun q3 => b_Ws ⟨rfl, fun z => ?_⟩) (fun q3 => b_Wl (b_Wg (by omega) (b_Ws ⟨⟨by dsimp only; omega, fun j j0 j1 => ?_, fun l l0 l1 => ?_⟩, by dsimp only; omega⟩)))
    · have := tb.mp ((j_tst (by omega)).mp q3)
      rw [hu] at this
      exact (z i g1.1 lt).2 this
    · dsimp only at j1
      by_cases e : j = i
      · rw [e, ← hu]
        exact ⟨q2, fun z => q3 ((j_tst (by omega)).mpr (tb.mpr z))⟩
      · exact g2 j j0 (by omega)
    · dsimp only
      rw [j_bt_or, Bool.or_eq_true, g3 l l0 l1, j_bt_shl (by omega), decide_eq_true_iff, ps l (by omega), ← hu]
      constructor
      · intro z
        rcases z with z | z
        · exact Or.inl z
        · exact Or.inr (by omega)
      · intro z
        rcases z with z | z
        · exact Or.inl z
        · exact Or.inr (by omega)
  unfold F_X12_join_s34
  refine b_Wi (fun q => b_Ws ?_) (fun q => b_Wi (fun e => b72 (by omega) a ?_) (fun e => b_Wi (fun e1 => b72 (by omega) b ?_) (fun e1 => b_Wi (fun e2 => b72 (by omega) c ?_) (fun e2 => b72 (by omega) d ?_))))
  · have e : i = n := by omega
    rw [e] at g2 g3
    exact ⟨g2, g3⟩
  · unfold cJ; rw [if_pos e]
  · unfold cJ; rw [if_neg e, if_pos e1]
  · unfold cJ; rw [if_neg e, if_neg e1, if_pos e2]
  · unfold cJ; rw [if_neg e, if_neg e1, if_neg e2]
theorem t_jsum {N : bM} {a b c d n day v7 S k : Int} (h20 : N 11 20 = k) (hk : 0 ≤ k ∧ k ≤ 60) (hS : Jb a b c d n S) (hf : ∀ i, 0 ≤ i → i < k → 1 ≤ N 169 i ∧ N 169 i ≤ 999999) (hJ : ∀ l, pJ a b c d n l → 0 ≤ l ∧ l < k) : b_wp (b_loop (fun t : Int × Int × Int => F_X12_join_s122 day v7 S t.1 t.2.1 t.2.2 N) (0, 0, 0)) (Sum.elim (fun o : Int × Int => o.2 = x_js (N 169) a b c d n k.toNat ∧ (∀ x : Nat, j_bt o.1 x = true ↔ ∃ l, pJ a b c d n l ∧ j_bt (N 174 l) x = true) ∧ ∀ l, pJ a b c d n l → N 171 l = -1 ∧ N 170 l ≤ day) (fun o : Int × bM => o = (-4, N) ∧ ∃ l, pJ a b c d n l ∧ ¬ (N 171 l = -1 ∧ N 170 l ≤ day))) := by
  refine b_loop_ind (I := fun t : Int × Int × Int => (0 ≤ t.2.2 ∧ t.2.2 ≤ k) ∧ t.2.1 = x_js (N 169) a b c d n t.2.2.toNat ∧ (∀ x : Nat, j_bt t.1 x = true ↔ ∃ l, (l < t.2.2 ∧ pJ a b c d n l) ∧ j_bt (N 174 l) x = true) ∧ ∀ l, l < t.2.2 → pJ a b c d n l → N 171 l = -1 ∧ N 170 l ≤ day) (fun t => (k - t.2.2).toNat) ?_ (0, 0, 0) ⟨by dsimp only; omega, rfl, fun x => ?_, fun l l0 z => ?_⟩
  · intro ⟨bf, s, l⟩ ⟨g1, g2, g3, g4⟩
    dsimp only at g1 g2 g3 g4 ⊢
    unfold F_X12_join_s122
    rw [h20]
    refine b_Wi (fun q => b_Ws ?_) (fun q => ?_)
    · have e : l = k := by omega
      rw [e] at g2 g3 g4
      refine ⟨g2, fun x => (g3 x).trans ⟨fun z => ?_, fun z => ?_⟩, fun l' z => g4 l' (hJ l' z).2 z⟩
      · obtain ⟨l', z1, z2⟩ := z
        exact ⟨l', z1.2, z2⟩
      · obtain ⟨l', z1, z2⟩ := z
        exact ⟨l', ⟨(hJ l' z1).2, z1⟩, z2⟩
    have xs : x_js (N 169) a b c d n (l + 1).toNat = x_js (N 169) a b c d n l.toNat + (if pJ a b c d n l then N 169 l else 0) := by
      rw [show (l + 1).toNat = l.toNat + 1 by omega]
      have e : ((l.toNat : Nat) : Int) = l := by omega
      show x_js (N 169) a b c d n l.toNat + (if pJ a b c d n ((l.toNat : Nat) : Int) then N 169 ((l.toNat : Nat) : Int) else 0) = _
      rw [e]
    have bt := hS l g1.1 (by omega)
    have xr := x_js_r (g := N 169) (a := a) (b := b) (c := c) (d := d) (i := n) l.toNat (fun l' hl => by have := hf l' (by omega) (by omega); omega)
    have fl := hf l g1.1 (by omega)
    refine b_Wi (fun q1 => b_Wg (by omega) (b_Ws ⟨⟨by dsimp only; omega, ?_, fun x => ?_, fun l' l1 z => ?_⟩, by dsimp only; omega⟩)) (fun q1 => b_Wg (by omega) (b_Wi (fun q2 => b_Ws ⟨rfl, l, ?_, fun z => by have := z.2; omega⟩) (fun q2 => b_Wg (by omega) (b_Wi (fun q3 => b_Wg (by omega) (b_Wl (b_Wg (by omega) (b_Wl (b_Wg (by omega) (b_Ws ⟨⟨by dsimp only; omega, ?_, fun x => ?_, fun l' l1 z => ?_⟩, by dsimp only; omega⟩)))))) (fun q3 => b_Ws ⟨rfl, l, ?_, fun z => q3 z.1⟩)))))
    · have np : ¬ pJ a b c d n l := fun z => (j_tst0 (by omega)).mp q1 (bt.mpr z)
      dsimp only
      rw [xs, if_neg np, g2]; omega
    · have np : ¬ pJ a b c d n l := fun z => (j_tst0 (by omega)).mp q1 (bt.mpr z)
      dsimp only
      refine (g3 x).trans ⟨fun z => ?_, fun z => ?_⟩
      · obtain ⟨l', z1, z2⟩ := z
        exact ⟨l', ⟨by omega, z1.2⟩, z2⟩
      · obtain ⟨l', z1, z2⟩ := z
        refine ⟨l', ⟨?_, z1.2⟩, z2⟩
        by_cases e : l' = l
        · rw [e] at z1; exact absurd z1.2 np
        · omega
    · have np : ¬ pJ a b c d n l := fun z => (j_tst0 (by omega)).mp q1 (bt.mpr z)
      dsimp only at l1
      by_cases e : l' = l
      · rw [e] at z; exact absurd z np
      · exact g4 l' (by omega) z
    · exact bt.mp (Decidable.of_not_not (fun z => q1 ((j_tst0 (by omega)).mpr z)))
    · have yp : pJ a b c d n l := bt.mp (Decidable.of_not_not (fun z => q1 ((j_tst0 (by omega)).mpr z)))
      dsimp only
      rw [xs, if_pos yp, g2]
    · have yp : pJ a b c d n l := bt.mp (Decidable.of_not_not (fun z => q1 ((j_tst0 (by omega)).mpr z)))
      dsimp only
      rw [j_bt_or, Bool.or_eq_true, g3 x]
      refine ⟨fun z => ?_, fun z => ?_⟩
      · rcases z with ⟨l', z1, z2⟩ | z
        · exact ⟨l', ⟨by omega, z1.2⟩, z2⟩
        · exact ⟨l, ⟨by omega, yp⟩, z⟩
      · obtain ⟨l', z1, z2⟩ := z
        by_cases e : l' = l
        · rw [e] at z2; exact Or.inr z2
        · exact Or.inl ⟨l', ⟨by omega, z1.2⟩, z2⟩
    · dsimp only at l1
      by_cases e : l' = l
      · rw [e]; exact ⟨q3, by omega⟩
      · exact g4 l' (by omega) z
    · exact bt.mp (Decidable.of_not_not (fun z => q1 ((j_tst0 (by omega)).mpr z)))
  · dsimp only
    rw [j_bt_0]
    refine ⟨fun z => absurd z (by decide), fun z => ?_⟩
    obtain ⟨l, z1, _⟩ := z
    have := hJ l z1.2
    have := z1.1
    omega
  · dsimp only at l0
    have := hJ l z
    omega
theorem t_jend {N : bM} {a b c d n day v7 v10 v12 S k : Int} (h20 : N 11 20 = k) (hk : 0 ≤ k ∧ k ≤ 60) (hS : Jb a b c d n S) : b_wp (b_loop (fun t : Int × bM => F_X12_join_s217 day v7 S v10 v12 t.1 t.2) (0, N)) (fun O => (∀ z j, z ≠ 171 → O z j = N z j) ∧ ∀ l, O 171 l = if (0 ≤ l ∧ l < k) ∧ pJ a b c d n l then day else N 171 l) := by
  refine b_loop_ind (I := fun t : Int × bM => (0 ≤ t.1 ∧ t.1 ≤ k) ∧ (∀ z j, z ≠ 171 → t.2 z j = N z j) ∧ ∀ l, t.2 171 l = if (0 ≤ l ∧ l < t.1) ∧ pJ a b c d n l then day else N 171 l) (fun t => (k - t.1).toNat) ?_ (0, N) ⟨by dsimp only; omega, fun _ _ _ => rfl, fun l => by dsimp only; rw [if_neg (by omega)]⟩
  intro ⟨l, Q⟩ ⟨g1, g2, g3⟩
  dsimp only at g1 g2 g3 ⊢
  unfold F_X12_join_s217
  rw [g2 11 20 (by decide), h20]
  refine b_Wi (fun q => b_Ws ⟨g2, fun l' => ?_⟩) (fun q => ?_)
  · have e : l = k := by omega
    rw [e] at g3
    exact g3 l'
  have bt := hS l g1.1 (by omega)
  refine b_Wi (fun q1 => b_Wg (by omega) (b_Wl (b_Wg (by omega) (b_Ws ⟨⟨by dsimp only; omega, fun z j hz => ?_, fun l' => ?_⟩, by dsimp only; omega⟩)))) (fun q1 => b_Wg (by omega) (b_Ws ⟨⟨by dsimp only; omega, g2, fun l' => ?_⟩, by dsimp only; omega⟩))
  · dsimp only; rw [b_upc hz]; exact g2 z j hz
  · have yp := bt.mp ((j_tst (by omega)).mp q1)
    dsimp only
    rw [b_upJ, g3]
    by_cases e : l' = l
    · rw [if_pos e, if_pos ⟨by omega, by rw [e]; exact yp⟩]
    · rw [if_neg e]
      by_cases e2 : (0 ≤ l' ∧ l' < l) ∧ pJ a b c d n l'
      · rw [if_pos e2, if_pos ⟨by omega, e2.2⟩]
      · rw [if_neg e2, if_neg (fun z => e2 ⟨by omega, z.2⟩)]
  · have np : ¬ pJ a b c d n l := fun z => q1 ((j_tst (by omega)).mpr (bt.mpr z))
    dsimp only
    rw [g3]
    by_cases e2 : (0 ≤ l' ∧ l' < l) ∧ pJ a b c d n l'
    · rw [if_pos e2, if_pos ⟨by omega, e2.2⟩]
    · rw [if_neg e2, if_neg (fun z => e2 ⟨by
        by_cases e : l' = l
        · rw [e] at z; exact absurd z.2 np
        · omega, z.2⟩)]
theorem R_lots2_jl {M N : bM} {l x : Int} (h : R_lots2 M N) : R_lots2 (b_up M 90 l x) (b_up N 173 l x) := by
  unfold R_lots2 at h ⊢
  obtain ⟨l1, ⟨f1, f2, f3, f4, f5, f6⟩, hl, hm⟩ := h
  simp (disch := decide) only [b_upF]
  exact ⟨l1, ⟨f1, f2, f3, b_upE f4, f5, f6⟩, hl, hm⟩
theorem x_js_c {g g2 : Int → Int} {a b c d i : Int} : ∀ k : Nat, (∀ l : Nat, l < k → g2 l = g l) → x_js g2 a b c d i k = x_js g a b c d i k := by
  intro k
  induction k with
  | zero => intro _; rfl
  | succ k ih =>
    intro h
    show x_js g2 a b c d i k + _ = x_js g a b c d i k + _
    rw [ih (fun l hl => h l (by omega)), h k (by omega)]
theorem op_join {M : bM} {n a b c d day all : Int} (hL : R_lots M) : b_wp (F_X11_join n a b c d day all M) (fun o => b_wp (F_X12_join n a b c d day all o.2) (fun o2 => o.1 = o2.1 ∧ R_lots o2.2)) := by
  obtain ⟨⟨l1, l2, l3⟩, ⟨f1, f2, f3, f4, f5, f6⟩, hl, hm⟩ := hL
  have hL : R_lots M := ⟨⟨l1, l2, l3⟩, ⟨f1, f2, f3, f4, f5, f6⟩, hl, hm⟩
  have k4 : ∀ z, z ≠ 99 → l_4 a b c d M z = M z := fun z hz => l_4_o hz
  have hR4 : R_lots (l_4 a b c d M) := R_lots_e (k4 _ (by decide)) (k4 _ (by decide)) (fun z hz => k4 z (by intro q; subst q; exact absurd hz (by decide))) (fun z hz => k4 z (by intro q; subst q; exact absurd hz (by decide))) hL
  have bad : ∀ N : bM, R_lots N → ¬ ((2 ≤ n ∧ n ≤ 4) ∧ (0 ≤ day ∧ day ≤ 9999) ∧ (1 ≤ all ∧ all ≤ 999999)) → b_wp (F_X12_join n a b c d day all N) (fun o2 => (-2 : Int) = o2.1 ∧ R_lots o2.2) := by
    intro N hN ne
    unfold F_X12_join
    refine b_We e_X12_in (b_Wi (fun _ => b_Ws ⟨rfl, hN⟩) (fun q1 => b_We e_X12_isDay (b_Wi (fun _ => b_Ws ⟨rfl, hN⟩) (fun q2 => b_We e_X12_isFeet (b_Wt ?_ (b_Ws ⟨rfl, hN⟩))))))
    rw [b_01_0] at q1 q2
    rw [b_01_0]
    exact fun z => ne ⟨Decidable.of_not_not q1, Decidable.of_not_not q2, z⟩
  unfold F_X11_join
  refine b_Wi (fun q => b_Ws (bad M hL (by omega))) (fun q => b_Wi (fun q1 => b_Ws (bad M hL (by omega))) (fun q1 => b_We e_X11_isDay (b_Wi (fun q2 => b_Ws (bad M hL ?_)) (fun q2 => b_We e_X5_isFeet (b_Wi (fun q3 => b_Ws (bad M hL ?_)) (fun q3 => b_We e_X5_four ?_))))))
  · rw [b_01_0] at q2
    exact fun z => q2 z.2.1
  · rw [b_01_0] at q3
    exact fun z => q3 z.2.2
  rw [b_01_0] at q2 q3
  have dr := Decidable.of_not_not q2
  have ar := Decidable.of_not_not q3
  have nr : 2 ≤ n ∧ n ≤ 4 := by omega
  obtain ⟨z0, z1, z2, z3⟩ := l_4_0 (a := a) (b := b) (c := c) (d := d) (M := M)
  have h99 : ∀ i, 0 ≤ i → i < 4 → l_4 a b c d M 99 i = cJ a b c d i := fun i i0 i1 => by
    have : i = 0 ∨ i = 1 ∨ i = 2 ∨ i = 3 := by omega
    rcases this with rfl | rfl | rfl | rfl
    · rw [z0]; rfl
    · rw [z1]; rfl
    · rw [z2]; rfl
    · rw [z3]; rfl
  generalize hA : l_4 a b c d M = A at *
  have a3 : A 3 0 = M 3 0 := by rw [k4 3 (by decide)]
  -- the reference's beginning
  have start : ∀ (N : bM) (Z : Int × bM → Prop), N 11 20 = M 3 0 → (¬ Jl a b c d n (M 3 0) → Z (-2, N)) → (∀ S, Jl a b c d n (M 3 0) → Jb a b c d n S → b_wp (F_X12_join_b113 day all S N) Z) → b_wp (F_X12_join n a b c d day all N) Z := by
    intro N Z n20 h1 h2
    unfold F_X12_join
    refine b_We e_X12_in (b_Wf (by rw [b_01_0]; omega) (b_We e_X12_isDay (b_Wf (by rw [b_01_0]; omega) (b_We e_X12_isFeet (b_Wf (by rw [b_01_0]; omega) (b_Wb (b_wp_m (fun o z => ?_) (t_jset (v6 := day) (v7 := all) nr n20 ⟨l2, l3⟩))))))))
    rcases o with S | o
    · exact h2 S z.1 z.2
    · exact b_Ws (by rw [z.1]; exact h1 z.2)
  refine b_Wb (b_wp_m (fun x y => ?_) (t_fourLots h99 nr))
  rw [a3] at y
  rcases y with ⟨y1, y2⟩ | ⟨y1, y2⟩
  · exact b_Wt y1 (b_Ws (start A _ (hR4.1.1.trans a3) (fun _ => ⟨rfl, hR4⟩) (fun S z _ => absurd z y2)))
  have hJl : ∀ l, pJ a b c d n l → 0 ≤ l ∧ l < M 3 0 := fun l z => by
    obtain ⟨j, j0, j1, e⟩ := (pJ_j (by omega)).mp z
    rw [← e]; exact (y2 j j0 j1).1
  have a88 : A 88 = M 88 := k4 88 (by decide)
  have a87 : A 87 = M 87 := k4 87 (by decide)
  -- the reference's sums, in a memory whose cells are as in M
  have sums : ∀ (N : bM) (S : Int) (Z : Int × bM → Prop), N 11 20 = M 3 0 → N 169 = M 86 → N 170 = M 87 → N 174 = M 91 → (∀ l, 0 ≤ l → l < M 3 0 → N 171 l = M 88 l) → Jb a b c d n S → ((∃ l, pJ a b c d n l ∧ ¬ (M 88 l = -1 ∧ M 87 l ≤ day)) → Z (-4, N)) → (∀ o s, s = x_js (M 86) a b c d n (M 3 0).toNat → (∀ x : Nat, j_bt o x = true ↔ ∃ l, pJ a b c d n l ∧ j_bt (M 91 l) x = true) → (∀ l, pJ a b c d n l → M 88 l = -1 ∧ M 87 l ≤ day) → b_wp (F_X12_join_b202 day all S o s N) Z) → b_wp (F_X12_join_b113 day all S N) Z := by
    intro N S Z n20 n169 n170 n174 n171 hS h1 h2
    unfold F_X12_join_b113
    refine b_Wb (b_wp_m (fun o z => ?_) (t_jsum (day := day) (v7 := all) n20 ⟨l2, l3⟩ hS (fun i i0 i1 => by rw [n169]; exact (hl i i0 i1).2.1) hJl))
    rcases o with ⟨o, s⟩ | o
    · obtain ⟨w1, w2, w3⟩ := z
      dsimp only at w1 w2
      rw [n169] at w1
      rw [n174] at w2
      exact h2 o s w1 w2 (fun l hp => by have := w3 l hp; rw [n171 l (hJl l hp).1 (hJl l hp).2, n170] at this; exact this)
    · obtain ⟨w1, l, w2, w3⟩ := z
      rw [n171 l (hJl l w2).1 (hJl l w2).2, n170] at w3
      exact b_Ws (by rw [w1]; exact h1 ⟨l, w2, w3⟩)
  have aeq : A 11 20 = M 3 0 ∧ A 169 = M 86 ∧ A 170 = M 87 ∧ A 174 = M 91 ∧ ∀ l, 0 ≤ l → l < M 3 0 → A 171 l = M 88 l := ⟨by rw [k4 11 (by decide)]; exact l1, by rw [k4 169 (by decide)]; exact f1, by rw [k4 170 (by decide)]; exact f2, by rw [k4 174 (by decide)]; exact f5, fun l h0 h1 => by rw [k4 171 (by decide)]; exact (hl l h0 h1).1.1⟩
  refine b_Wf (by omega) (b_Wb (b_wp_m (fun x y => ?_) (t_fourEnd (day := day) h99 nr (by omega) (by rw [a3]; exact y2))))
  rw [a88, a87] at y
  rcases y with ⟨y3, y4⟩ | ⟨y3, y4⟩
  · refine b_Wt y3 (b_Ws (start A _ aeq.1 (fun z => absurd y2 z) (fun S _ hS => sums A S _ aeq.1 aeq.2.1 aeq.2.2.1 aeq.2.2.2.1 aeq.2.2.2.2 hS (fun _ => ⟨rfl, hR4⟩) (fun o s _ _ z => ?_))))
    obtain ⟨l, w1, w2⟩ := y4
    exact absurd (z l w1) w2
  refine b_Wf (by omega) (b_We (e_X5_room (by omega)) (b_Wi (fun q4 => ?_) (fun q4 => ?_)))
  · unfold F_X4_forget
    refine b_Wb (b_Wl (b_Ws ?_))
    generalize hB : b_up A 6 5 0 = B
    have kB : ∀ z, z ≠ 99 → z ≠ 6 → B z = M z := fun z hz h6 => by subst hB; rw [b_upF h6, k4 z hz]
    have b99 : B 99 = A 99 := by subst hB; exact b_upF (by decide)
    clear hB
    have b3 : B 3 0 = M 3 0 := by rw [kB 3 (by decide) (by decide)]
    unfold F_X5_unite
    refine b_Wb (b_Wb (b_wp_m (fun o w => ?_) (t_unite (day := day) (v3 := all) (by rw [b99]; exact h99) nr (by omega) (by rw [b3]; exact y2) (fun i i0 i1 => by rw [kB 86 (by decide) (by decide)]; exact (hl i i0 (by omega)).2.1))))
    obtain ⟨s, bf, Q⟩ := o
    obtain ⟨w1, w2, w3, w4⟩ := w
    dsimp only at w1 w2 w3 w4 ⊢
    rw [b3, kB 86 (by decide) (by decide)] at w1
    rw [kB 91 (by decide) (by decide)] at w2
    rw [kB 88 (by decide) (by decide)] at w4
    have qz : ∀ z, z ≠ 99 → z ≠ 6 → z ≠ 88 → Q z = M z := fun z h1 h2 h3 => by rw [show Q z = B z from funext fun j => w3 z j h3, kB z h1 h2]
    have q3 : Q 3 0 = M 3 0 := by rw [qz 3 (by decide) (by decide) (by decide)]
    have sr := x_js_r (g := M 86) (a := a) (b := b) (c := c) (d := d) (i := n) (M 3 0).toNat (fun l h => by have := (hl l (by omega) (by omega)).2.1; omega)
    unfold F_X5_unite_b77
    have c3 : l_c all day bf Q 3 0 = M 3 0 + 1 := by rw [l_c_n, q3]
    refine b_We (e_X5_add (by omega)) (b_Wtwo (b_We e_X5_has ?_))
    dsimp only
    refine b_Wf (by rw [b_01_0]; omega) (b_Wg (by omega) (b_Wl (b_Ws (b_Wtwo (b_Ws ?_)))))
    dsimp only
    rw [q3]
    generalize hP : b_up (l_c all day bf Q) 90 (M 3 0) (s - all) = P
    have pc : ∀ z, z ∉ [3, 86, 87, 88, 90, 91, 92] → P z = Q z := fun z hz => by
      subst hP
      simp only [List.mem_cons, List.not_mem_nil, or_false, not_or] at hz
      rw [b_upF hz.2.2.2.2.1]
      exact l_c_o (by simp only [List.mem_cons, List.not_mem_nil, or_false, not_or]; exact ⟨hz.1, hz.2.1, hz.2.2.1, hz.2.2.2.1, hz.2.2.2.2.2.1, hz.2.2.2.2.2.2⟩)
    have pM : ∀ z, z ∉ [3, 86, 87, 88, 90, 91, 92, 99, 6] → P z = M z := fun z hz => by
      simp only [List.mem_cons, List.not_mem_nil, or_false, not_or] at hz
      rw [pc z (by simp only [List.mem_cons, List.not_mem_nil, or_false, not_or]; exact ⟨hz.1, hz.2.1, hz.2.2.1, hz.2.2.2.1, hz.2.2.2.2.1, hz.2.2.2.2.2.1, hz.2.2.2.2.2.2.1⟩), qz z hz.2.2.2.2.2.2.2.1 hz.2.2.2.2.2.2.2.2 hz.2.2.2.1]
    have p20 : P 11 20 = M 3 0 := by rw [pM 11 (by decide)]; exact l1
    refine start P _ p20 (fun z => absurd y2 z) (fun S _ hS => sums P S _ p20 (by rw [pM 169 (by decide)]; exact f1) (by rw [pM 170 (by decide)]; exact f2) (by rw [pM 174 (by decide)]; exact f5) (fun l h0 h1 => by rw [pM 171 (by decide)]; exact (hl l h0 h1).1.1) hS (fun z => ?_) (fun o s2 e1 e2 _ => ?_))
    · obtain ⟨l, v1, v2⟩ := z
      exact absurd (y4 l v1) v2
    · unfold F_X12_join_b202
      rw [p20]
      refine b_Wf (by omega) (b_Wb (b_wp_m (fun T t => ?_) (t_jend (day := day) (v7 := all) (v10 := o) (v12 := s2) p20 ⟨l2, l3⟩ hS)))
      obtain ⟨t1, t2⟩ := t
      unfold F_X12_join_b253
      have t20 : T 11 20 = M 3 0 := by rw [t1 11 20 (by decide)]; exact p20
      refine b_We (e_X12_add (by omega)) (b_Wtwo (b_Wg (by dsimp only; omega) (b_Wl (b_Ws ⟨?_, ?_⟩))))
      · dsimp only
        exact t20.symm
      · dsimp only
        rw [t20]
        have tM : ∀ z, z ∉ [3, 86, 87, 88, 90, 91, 92, 99, 6, 171] → T z = M z := fun z hz => by
          simp only [List.mem_cons, List.not_mem_nil, or_false, not_or] at hz
          rw [show T z = P z from funext fun j => t1 z j hz.2.2.2.2.2.2.2.2.2, pM z (by simp only [List.mem_cons, List.not_mem_nil, or_false, not_or]; exact ⟨hz.1, hz.2.1, hz.2.2.1, hz.2.2.2.1, hz.2.2.2.2.1, hz.2.2.2.2.2.1, hz.2.2.2.2.2.2.1, hz.2.2.2.2.2.2.2.1, hz.2.2.2.2.2.2.2.2.1⟩)]
        have base : R_lots2 Q T := by
          refine ⟨⟨by rw [t20, q3], by omega, by omega⟩, ⟨?_, ?_, ?_, ?_, ?_, ?_⟩, fun i i0 i1 => ?_, fun i i0 i1 => ?_⟩
          · rw [tM 169 (by decide), qz 86 (by decide) (by decide) (by decide)]; exact f1
          · rw [tM 170 (by decide), qz 87 (by decide) (by decide) (by decide)]; exact f2
          · rw [tM 172 (by decide), qz 89 (by decide) (by decide) (by decide)]; exact f3
          · rw [tM 173 (by decide), qz 90 (by decide) (by decide) (by decide)]; exact f4
          · rw [tM 174 (by decide), qz 91 (by decide) (by decide) (by decide)]; exact f5
          · rw [tM 218 (by decide), qz 93 (by decide) (by decide) (by decide)]; exact f6
          · have h := hl i i0 (by omega)
            rw [t2, w4, pM 171 (by decide), tM 217 (by decide), qz 92 (by decide) (by decide) (by decide), qz 86 (by decide) (by decide) (by decide), qz 87 (by decide) (by decide) (by decide)]
            by_cases e : pJ a b c d n i
            · have h2 := y4 i e
              rw [if_pos ⟨by omega, e⟩, if_pos e]
              exact ⟨⟨rfl, h.1.2⟩, h.2.1, h.2.2.1, by omega, Or.inr h2.2⟩
            · rw [if_neg (fun z => e z.2), if_neg e]
              exact h
          · rw [t2, if_neg (fun z => by omega), pM 171 (by decide), tM 217 (by decide)]
            exact hm i (by omega) i1
        have eo : ∀ x : Nat, j_bt o x = j_bt bf x := fun x => by
          have e := (e2 x).trans (w2 x).symm
          revert e
          cases j_bt o x <;> cases j_bt bf x <;> simp
        have lm : l_m all day o T = l_m all day bf T := by
          unfold l_m
          rw [j_or_e eo]
        rw [lm, e1, ← w1]
        have fin := R_lots2_jl (l := M 3 0) (x := s - all) (R_lots2_add (x := all) (d := day) (g := bf) base ar dr (by omega))
        rw [hP] at fin
        have lmo : ∀ z, z ≠ 169 → z ≠ 170 → z ≠ 174 → z ≠ 11 → z ≠ 173 → b_up (l_m all day bf T) 173 (M 3 0) (s - all) z = T z := fun z h1 h2 h3 h4 h5 => by
          rw [b_upF h5]
          unfold l_m
          rw [b_upF h4, b_upF h3, b_upF h2, b_upF h1]
        have tP : ∀ z, z ≠ 171 → T z = P z := fun z h => funext fun j => t1 z j h
        refine R_lots2_c (M := P) (N := b_up (l_m all day bf T) 173 (M 3 0) (s - all)) ?_ (fun z hz => ?_) rfl (fun z hz => rfl) fin
        · rw [lmo 3 (by decide) (by decide) (by decide) (by decide) (by decide), tP 3 (by decide)]
        · have hz2 : z ≠ 169 ∧ z ≠ 170 ∧ z ≠ 174 ∧ z ≠ 11 ∧ z ≠ 173 ∧ z ≠ 171 := by
            simp only [List.mem_cons, List.not_mem_nil, or_false] at hz
            omega
          rw [lmo z hz2.1 hz2.2.1 hz2.2.2.1 hz2.2.2.2.1 hz2.2.2.2.2.1, tP z hz2.2.2.2.2.2]
  · refine b_Ws (start A _ aeq.1 (fun z => absurd y2 z) (fun S _ hS => sums A S _ aeq.1 aeq.2.1 aeq.2.2.1 aeq.2.2.2.1 aeq.2.2.2.2 hS (fun z => ?_) (fun o s _ _ z => ?_)))
    · obtain ⟨l, v1, v2⟩ := z
      exact absurd (y4 l v1) v2
    · unfold F_X12_join_b202
      exact b_Wt (by rw [aeq.1]; omega) (b_Ws ⟨rfl, hR4⟩)
