theorem mul_bd {a b A B : Int} (h1 : -A ≤ a ∧ a ≤ A) (h2 : 0 ≤ b ∧ b ≤ B) (hA : 0 ≤ A) : -(A * B) ≤ a * b ∧ a * b ≤ A * B := by
  have u1 := Int.mul_le_mul_of_nonneg_right h1.2 h2.1
  have u2 := Int.mul_le_mul_of_nonneg_left h2.2 hA
  have u3 := Int.mul_le_mul_of_nonneg_right h1.1 h2.1
  rw [Int.neg_mul] at u3
  omega
theorem gc_a {p q r s : Int} : gc p q r s = -gc q p r s := by unfold gc; omega
theorem gc_b {p q r s : Int} : gc p q r s = -gc p q s r := by unfold gc; omega
theorem gc_0 {p r s : Int} : gc p p r s = 0 := by unfold gc; omega
theorem gc_1 {p q r : Int} : gc p q r r = 0 := by unfold gc; omega
theorem gc_n {p q r s : Int} (h : p < q) (h2 : r < s) : gc p q r s = max 0 (min q s - max p r) := by unfold gc; omega
def gH (p q r s : Int) : Int := (min (max p q) (max r s)) - (max (min p q) (min r s))
theorem gH_n {p q r s : Int} (h : p < q) (h2 : r < s) : gH p q r s = min q s - max p r := by unfold gH; omega
theorem gH_a {p q r s : Int} : gH p q r s = gH q p r s := by unfold gH; rw [Int.max_comm p q, Int.min_comm p q]
theorem gH_b {p q r s : Int} : gH p q r s = gH p q s r := by unfold gH; rw [Int.max_comm r s, Int.min_comm r s]
theorem gH_0 {p r s : Int} : gH p p r s ≤ 0 := by unfold gH; omega
theorem gH_1 {p q r : Int} : gH p q r r ≤ 0 := by unfold gH; omega
/-- one line's y, by its way -/
def gWy (w f p q : Int) : Prop := (w = 0 ∧ q = p + f) ∨ (w = 1 ∧ q = p) ∨ (w = 2 ∧ q = p - f) ∨ (w = 3 ∧ q = p)
theorem gc_H {w f p q w2 f2 r s : Int} (h : gWy w f p q) (h2 : gWy w2 f2 r s) (hf : 1 ≤ f ∧ f ≤ 1500) (hf2 : 1 ≤ f2 ∧ f2 ≤ 1500) : gH p q r s ≤ 1500 ∧ (gH p q r s ≤ 0 → gc p q r s = 0) ∧ (0 < gH p q r s → (w = w2 → gc p q r s = gH p q r s) ∧ (w ≠ w2 → gc p q r s = -gH p q r s)) := by
  rcases h with ⟨a, b⟩ | ⟨a, b⟩ | ⟨a, b⟩ | ⟨a, b⟩
  · rcases h2 with ⟨c, d⟩ | ⟨c, d⟩ | ⟨c, d⟩ | ⟨c, d⟩
    · have e1 := gc_n (p := p) (q := q) (r := r) (s := s) (by omega) (by omega)
      have e2 := gH_n (p := p) (q := q) (r := r) (s := s) (by omega) (by omega)
      omega
    · subst d
      have e1 := gc_1 (p := p) (q := q) (r := s)
      have e2 := gH_1 (p := p) (q := q) (r := s)
      omega
    · have e1 := gc_n (p := p) (q := q) (r := s) (s := r) (by omega) (by omega)
      have e2 := gH_n (p := p) (q := q) (r := s) (s := r) (by omega) (by omega)
      have e3 := gc_b (p := p) (q := q) (r := r) (s := s)
      have e4 := gH_b (p := p) (q := q) (r := r) (s := s)
      omega
    · subst d
      have e1 := gc_1 (p := p) (q := q) (r := s)
      have e2 := gH_1 (p := p) (q := q) (r := s)
      omega
  · subst b
    have e1 := gc_0 (p := q) (r := r) (s := s)
    have e2 := gH_0 (p := q) (r := r) (s := s)
    omega
  · rcases h2 with ⟨c, d⟩ | ⟨c, d⟩ | ⟨c, d⟩ | ⟨c, d⟩
    · have e1 := gc_n (p := q) (q := p) (r := r) (s := s) (by omega) (by omega)
      have e2 := gH_n (p := q) (q := p) (r := r) (s := s) (by omega) (by omega)
      have e3 := gc_a (p := p) (q := q) (r := r) (s := s)
      have e4 := gH_a (p := p) (q := q) (r := r) (s := s)
      omega
    · subst d
      have e1 := gc_1 (p := p) (q := q) (r := s)
      have e2 := gH_1 (p := p) (q := q) (r := s)
      omega
    · have e1 := gc_n (p := q) (q := p) (r := s) (s := r) (by omega) (by omega)
      have e2 := gH_n (p := q) (q := p) (r := s) (s := r) (by omega) (by omega)
      have e3 := gc_a (p := p) (q := q) (r := r) (s := s)
      have e4 := gH_a (p := p) (q := q) (r := r) (s := s)
      have e5 := gc_b (p := q) (q := p) (r := r) (s := s)
      have e6 := gH_b (p := q) (q := p) (r := r) (s := s)
      omega
    · subst d
      have e1 := gc_1 (p := p) (q := q) (r := s)
      have e2 := gH_1 (p := p) (q := q) (r := s)
      omega
  · subst b
    have e1 := gc_0 (p := q) (r := r) (s := s)
    have e2 := gH_0 (p := q) (r := r) (s := s)
    omega
theorem gY_w {M : bM} {l : Int} (h : Pg M l) {i : Nat} (hi : (i : Int) < M 94 l) : gWy (M 178 (12 * l + i)) (M 179 (12 * l + i)) (gY M l i) (gY M l (i + 1)) := by
  have w := (h.1.2.2 i (by omega) hi).2.1
  rw [gY_s]
  unfold gWy
  have c : M 178 (12 * l + (i : Int)) = 0 ∨ M 178 (12 * l + (i : Int)) = 1 ∨ M 178 (12 * l + (i : Int)) = 2 ∨ M 178 (12 * l + (i : Int)) = 3 := by omega
  rcases c with c | c | c | c <;> rw [c]
  · exact Or.inl ⟨rfl, by rw [if_pos rfl]⟩
  · exact Or.inr (Or.inl ⟨rfl, by rw [if_neg (by decide), if_neg (by decide)]; omega⟩)
  · exact Or.inr (Or.inr (Or.inl ⟨rfl, by rw [if_neg (by decide), if_pos rfl]; omega⟩))
  · exact Or.inr (Or.inr (Or.inr ⟨rfl, by rw [if_neg (by decide), if_neg (by decide)]; omega⟩))
def gT (M : bM) (l o : Int) (i j : Nat) : Int := max (gX M l i) (gX M o j) * gc (gY M l i) (gY M l (i + 1)) (gY M o j) (gY M o (j + 1))
def gSm (M : bM) (l o : Int) : Int := gS (fun i => gS (fun j => gT M l o i j) (M 94 o).toNat) (M 94 l).toNat
theorem gS_s {f : Nat → Int} {n : Nat} : gS f (n + 1) = gS f n + f n := rfl
theorem t_within {M N : bM} {l o : Int} (h : Pg M l) (h2 : Pg M o) (hN : Nf M N) : b_wp (F_X5_within l o N) (fun r => Nf M r.2 ∧ r.1 = max (gSm M l o) (-gSm M l o)) := by
  unfold F_X5_within
  refine b_Wb (b_wp_m (fun A a => ?_) (t_tr100 h hN))
  obtain ⟨a1, a2⟩ := a
  have nA : Nf M A := fun c j x1 x2 x3 x4 => by rw [a1 c j x1 x2]; exact hN c j x1 x2 x3 x4
  refine b_Wb (b_wp_m (fun B b => ?_) (t_tr102 h2 nA))
  obtain ⟨b1, b2⟩ := b
  have nB : Nf M B := fun c j x1 x2 x3 x4 => by rw [b1 c j x3 x4]; exact nA c j x1 x2 x3 x4
  have a3 : ∀ k : Nat, (k : Int) ≤ M 94 l → B 100 k = gX M l k ∧ B 101 k = gY M l k := fun k hk => by rw [b1 100 _ (by decide) (by decide), b1 101 _ (by decide) (by decide)]; exact a2 k hk
  have hn := h.1.2.1
  have hn2 := h2.1.2.1
  have hl := h.1.1
  have hl2 := h2.1.1
  have wl : ∀ i, 0 ≤ i → i < M 94 l → F_X5_wayOf l i B = some (M 178 (12 * l + i)) := by
    intro i i0 i1
    have e := e_wayOf (Ln_f h.1 nB) (i := i) (by rw [nB 94 l (by decide) (by decide) (by decide) (by decide)]; exact ⟨i0, i1⟩)
    rw [nB 178 _ (by decide) (by decide) (by decide) (by decide)] at e
    exact e
  have wo : ∀ i, 0 ≤ i → i < M 94 o → F_X5_wayOf o i B = some (M 178 (12 * o + i)) := by
    intro i i0 i1
    have e := e_wayOf (Ln_f h2.1 nB) (i := i) (by rw [nB 94 o (by decide) (by decide) (by decide) (by decide)]; exact ⟨i0, i1⟩)
    rw [nB 178 _ (by decide) (by decide) (by decide) (by decide)] at e
    exact e
  have inner : ∀ (i v : Int), 0 ≤ i → i < M 94 l → -13648500 * (12 * i) ≤ v ∧ v ≤ 13648500 * (12 * i) → b_wp (b_loop (fun t : Int × Int => F_X5_within_s52 l o t.1 i t.2 B) (v, 0)) (fun r => r = v + gS (fun j => gT M l o i.toNat j) (M 94 o).toNat ∧ -13648500 * (12 * (i + 1)) ≤ r ∧ r ≤ 13648500 * (12 * (i + 1))) := by
    intro i v i0 i1 hv
    refine b_loop_ind (I := fun s : Int × Int => (0 ≤ s.2 ∧ s.2 ≤ M 94 o) ∧ s.1 = v + gS (fun j => gT M l o i.toNat j) s.2.toNat ∧ -13648500 * (12 * i + s.2) ≤ s.1 ∧ s.1 ≤ 13648500 * (12 * i + s.2)) (fun s => (M 94 o - s.2).toNat) ?_ (v, 0) ⟨by dsimp only; omega, by dsimp only; show v = v + 0; omega, by dsimp only; omega, by dsimp only; omega⟩
    intro ⟨r, j⟩ ⟨g1, g2, g3⟩
    dsimp only at g1 g2 g3 ⊢
    unfold F_X5_within_s52
    rw [nB 94 o (by decide) (by decide) (by decide) (by decide)]
    refine b_Wg (by omega) (b_Wi (fun c => b_Ws ⟨?_, by omega, by omega⟩) (fun c => b_Wf (by omega) (b_Wg (by omega) ?_)))
    · rw [g2, show j.toNat = (M 94 o).toNat by omega]
    have t1 := a3 i.toNat (by omega)
    have t2 := a3 (i.toNat + 1) (by omega)
    have t3 := b2 j.toNat (by omega)
    have t4 := b2 (j.toNat + 1) (by omega)
    rw [show ((i.toNat : Nat) : Int) = i by omega] at t1
    rw [show ((i.toNat + 1 : Nat) : Int) = i + 1 by omega] at t2
    rw [show ((j.toNat : Nat) : Int) = j by omega] at t3
    rw [show ((j.toNat + 1 : Nat) : Int) = j + 1 by omega] at t4
    have d1 := gXY_b h.1 h.2.1 h.2.2.1 h.2.2.2.1 h.2.2.2.2 i.toNat (by omega)
    have d2 := gXY_b h.1 h.2.1 h.2.2.1 h.2.2.2.1 h.2.2.2.2 (i.toNat + 1) (by omega)
    have d3 := gXY_b h2.1 h2.2.1 h2.2.2.1 h2.2.2.2.1 h2.2.2.2.2 j.toNat (by omega)
    have d4 := gXY_b h2.1 h2.2.1 h2.2.2.1 h2.2.2.2.1 h2.2.2.2.2 (j.toNat + 1) (by omega)
    have y1 := gY_w h (i := i.toNat) (by omega)
    have y2 := gY_w h2 (i := j.toNat) (by omega)
    rw [show ((i.toNat : Nat) : Int) = i by omega] at y1
    rw [show ((j.toNat : Nat) : Int) = j by omega] at y2
    have cH := gc_H y1 y2 (h.2.2.1 i i0 i1) (h2.2.2.1 j g1.1 (by omega))
    have st : gS (fun j => gT M l o i.toNat j) (j + 1).toNat = gS (fun j => gT M l o i.toNat j) j.toNat + gT M l o i.toNat j.toNat := by
      rw [show (j + 1).toNat = j.toNat + 1 by omega]
      rfl
    have tv : gT M l o i.toNat j.toNat = max (gX M l i.toNat) (gX M o j.toNat) * gc (gY M l i.toNat) (gY M l (i.toNat + 1)) (gY M o j.toNat) (gY M o (j.toNat + 1)) := rfl
    unfold F_X5_common
    rw [t1.1, t1.2, t2.2, t3.1, t3.2, t4.2]
    refine b_Wb (b_Wg (by omega) (b_Ws ?_))
    have hH : (min (max (gY M l i.toNat) (gY M l (i.toNat + 1))) (max (gY M o j.toNat) (gY M o (j.toNat + 1)))) - (max (min (gY M l i.toNat) (gY M l (i.toNat + 1))) (min (gY M o j.toNat) (gY M o (j.toNat + 1)))) = gH (gY M l i.toNat) (gY M l (i.toNat + 1)) (gY M o j.toNat) (gY M o (j.toNat + 1)) := rfl
    rw [hH]
    generalize gH (gY M l i.toNat) (gY M l (i.toNat + 1)) (gY M o j.toNat) (gY M o (j.toNat + 1)) = H at *
    generalize gc (gY M l i.toNat) (gY M l (i.toNat + 1)) (gY M o j.toNat) (gY M o (j.toNat + 1)) = C at *
    have mx : -9099 ≤ max (gX M l i.toNat) (gX M o j.toNat) ∧ max (gX M l i.toNat) (gX M o j.toNat) ≤ 9099 := by omega
    generalize max (gX M l i.toNat) (gX M o j.toNat) = X at *
    generalize gT M l o i.toNat j.toNat = T at *
    generalize gS (fun j => gT M l o i.toNat j) j.toNat = G at *
    clear d1 d2 d3 d4 y1 y2 t1 t2 t3 t4 hH
    refine b_Wi (fun e => b_Wg (by omega) (b_Ws ⟨⟨by dsimp only; omega, ?_, by dsimp only; omega, by dsimp only; omega⟩, by dsimp only; omega⟩)) (fun e => ?_)
    · dsimp only
      rw [st, tv, cH.2.1 e, Int.mul_zero, g2]
      omega
    have mb := mul_bd (a := X) (b := H) (A := 9099) (B := 1500) mx (by omega) (by decide)
    generalize hXH : X * H = XH at *
    refine b_Wg (by omega) (b_Wl (b_We (wl i i0 i1) (b_We (wo j g1.1 (by omega)) ?_)))
    unfold F_X5_within_b160
    refine b_Wi (fun q => b_Wg (by omega) (b_Ws ⟨⟨by dsimp only; omega, ?_, by dsimp only; omega, by dsimp only; omega⟩, by dsimp only; omega⟩)) (fun q => b_Wg (by omega) (b_Wg (by omega) (b_Ws ⟨⟨by dsimp only; omega, ?_, by dsimp only; omega, by dsimp only; omega⟩, by dsimp only; omega⟩)))
    · dsimp only
      rw [st, tv, (cH.2.2 (by omega)).1 q, hXH, g2]
      omega
    · dsimp only
      rw [st, tv, (cH.2.2 (by omega)).2 q, Int.mul_neg, hXH, g2]
      omega
  refine b_Wb (b_wp_m (fun r z => ?_) (b_loop_ind (P := fun r : Int => r = gSm M l o ∧ -1965384000 ≤ r ∧ r ≤ 1965384000) (I := fun s : Int × Int => (0 ≤ s.2 ∧ s.2 ≤ M 94 l) ∧ s.1 = gS (fun i => gS (fun j => gT M l o i j) (M 94 o).toNat) s.2.toNat ∧ -13648500 * (12 * s.2) ≤ s.1 ∧ s.1 ≤ 13648500 * (12 * s.2)) (fun s => (M 94 l - s.2).toNat) ?_ (0, 0) ⟨by dsimp only; omega, rfl, by dsimp only; omega, by dsimp only; omega⟩))
  · unfold F_X5_within_b174
    refine b_Wg (by omega) (b_Ws ⟨nB, ?_⟩)
    dsimp only
    rw [z.1]
  · intro ⟨r, i⟩ ⟨g1, g2, g3⟩
    dsimp only at g1 g2 g3 ⊢
    unfold F_X5_within_s31
    rw [nB 94 l (by decide) (by decide) (by decide) (by decide)]
    refine b_Wg (by omega) (b_Wi (fun c => b_Ws ⟨?_, by omega, by omega⟩) (fun c => b_Wf (by omega) (b_Wb (b_wp_m (fun x y => ?_) (inner i r g1.1 (by omega) g3)))))
    · unfold gSm
      rw [g2, show i.toNat = (M 94 l).toNat by omega]
    · unfold F_X5_within_b168
      refine b_Wg (by omega) (b_Ws ⟨⟨by dsimp only; omega, ?_, y.2⟩, by dsimp only; omega⟩)
      dsimp only
      rw [y.1, g2, show (i + 1).toNat = i.toNat + 1 by omega]
      rfl
