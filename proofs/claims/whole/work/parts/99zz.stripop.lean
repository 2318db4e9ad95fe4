/-- cells within both, west of x -/
def gCl (X Y X2 Y2 : Nat → Int) (n n2 : Nat) (a : Int) : Int := gS (fun t => gN X Y n X2 Y2 n2 a (-9999 + (t : Int))) 19998
def gTx (X Y X2 Y2 : Nat → Int) (n n2 : Nat) (x : Int) : Int := gS (fun s => gCl X Y X2 Y2 n n2 (-9999 + (s : Int))) (x + 9999).toNat
def gUy (X Y X2 Y2 : Nat → Int) (n n2 : Nat) (a y : Int) : Int := gS (fun t => gN X Y n X2 Y2 n2 a (-9999 + (t : Int))) (y + 9999).toNat
theorem gCl_r {X Y X2 Y2 : Nat → Int} {n n2 : Nat} {a : Int} : 0 ≤ gCl X Y X2 Y2 n n2 a ∧ gCl X Y X2 Y2 n n2 a ≤ 19998 := by
  have h := gS_p (f := fun t => gN X Y n X2 Y2 n2 a (-9999 + (t : Int))) (c := 1) 19998 (fun t _ => gN_r)
  unfold gCl
  omega
theorem gTx_r {X Y X2 Y2 : Nat → Int} {n n2 : Nat} {x : Int} (hx : x ≤ 9999) : 0 ≤ gTx X Y X2 Y2 n n2 x ∧ gTx X Y X2 Y2 n n2 x ≤ 399920004 := by
  have h := gS_p (f := fun s => gCl X Y X2 Y2 n n2 (-9999 + (s : Int))) (c := 19998) (x + 9999).toNat (fun t _ => gCl_r)
  unfold gTx
  omega
theorem gUy_r {X Y X2 Y2 : Nat → Int} {n n2 : Nat} {a y : Int} (hy : y ≤ 9999) : 0 ≤ gUy X Y X2 Y2 n n2 a y ∧ gUy X Y X2 Y2 n n2 a y ≤ 19998 := by
  have h := gS_p (f := fun t => gN X Y n X2 Y2 n2 a (-9999 + (t : Int))) (c := 1) (y + 9999).toNat (fun t _ => gN_r)
  unfold gUy
  omega
theorem gTx_s {X Y X2 Y2 : Nat → Int} {n n2 : Nat} {x x' c : Int} (h : -9999 ≤ x ∧ x ≤ x') (hc : ∀ a, x ≤ a → a < x' → gCl X Y X2 Y2 n n2 a = c) : gTx X Y X2 Y2 n n2 x' = gTx X Y X2 Y2 n n2 x + (x' - x) * c := by
  have e := gS_seg (f := fun s => gCl X Y X2 Y2 n n2 (-9999 + (s : Int))) (c := c) (m := (x + 9999).toNat) (x' - x).toNat (fun i hi => hc _ (by omega) (by omega))
  rw [show (x + 9999).toNat + (x' - x).toNat = (x' + 9999).toNat by omega, show (((x' - x).toNat : Nat) : Int) = x' - x by omega] at e
  exact e
theorem gUy_s {X Y X2 Y2 : Nat → Int} {n n2 : Nat} {a y y' c : Int} (h : -9999 ≤ y ∧ y ≤ y') (hc : ∀ b, y ≤ b → b < y' → gN X Y n X2 Y2 n2 a b = c) : gUy X Y X2 Y2 n n2 a y' = gUy X Y X2 Y2 n n2 a y + (y' - y) * c := by
  have e := gS_seg (f := fun t => gN X Y n X2 Y2 n2 a (-9999 + (t : Int))) (c := c) (m := (y + 9999).toNat) (y' - y).toNat (fun i hi => hc _ (by omega) (by omega))
  rw [show (y + 9999).toNat + (y' - y).toNat = (y' + 9999).toNat by omega, show (((y' - y).toNat : Nat) : Int) = y' - y by omega] at e
  exact e
theorem gN_0 {X Y X2 Y2 : Nat → Int} {n n2 : Nat} {a b : Int} (h : gw X Y n a b = 0) : gN X Y n X2 Y2 n2 a b = 0 := by
  unfold gN
  rw [if_neg (by omega)]
/-- two rows with an AREA, as the reference has them -/
def g2 (S : bM) (l o : Int) (X Y X2 Y2 : Nat → Int) (n n2 : Nat) : Prop := ((0 ≤ l ∧ l < 60) ∧ (0 ≤ o ∧ o < 60) ∧ S 175 l = n ∧ S 175 o = n2 ∧ (n ≤ 12) ∧ n2 ≤ 12) ∧ (∀ k : Nat, k ≤ n → (S 180 k = X k ∧ -9000 ≤ X k ∧ X k ≤ 9099) ∧ (S 181 k = Y k ∧ -9000 ≤ Y k ∧ Y k ≤ 9099)) ∧ (∀ k : Nat, k ≤ n2 → (S 180 (13 + (k : Int)) = X2 k ∧ -9000 ≤ X2 k ∧ X2 k ≤ 9099) ∧ (S 181 (13 + (k : Int)) = Y2 k ∧ -9000 ≤ Y2 k ∧ Y2 k ≤ 9099)) ∧ (gP X Y n ∧ gP X2 Y2 n2) ∧ (∀ i, i < n → (-1500 ≤ X (i + 1) - X i ∧ X (i + 1) - X i ≤ 1500) ∧ -1500 ≤ Y (i + 1) - Y i ∧ Y (i + 1) - Y i ≤ 1500)
theorem g2_x {S : bM} {l o : Int} {X Y X2 Y2 : Nat → Int} {n n2 : Nat} (h : g2 S l o X Y X2 Y2 n n2) (v : Int) : ∃ r, F_X12_nextOf 1 v l o S = some r ∧ gNx X X2 n n2 v r := by
  obtain ⟨⟨h1, h2, h3, h4, h5, h6⟩, hA, hB, ⟨p1, p2⟩, _⟩ := h
  exact b_wp_ex (t_nextOf (c := 180) (Or.inr ⟨rfl, rfl⟩) h1 h2 h3 h4 ⟨by have := p1.1; omega, h5⟩ ⟨by have := p2.1; omega, h6⟩ (fun k hk => (hA k hk).1) (fun k hk => (hB k hk).1) p1.2.1.1 p2.2.1.1)
theorem g2_y {S : bM} {l o : Int} {X Y X2 Y2 : Nat → Int} {n n2 : Nat} (h : g2 S l o X Y X2 Y2 n n2) (v : Int) : ∃ r, F_X12_nextOf 0 v l o S = some r ∧ gNx Y Y2 n n2 v r := by
  obtain ⟨⟨h1, h2, h3, h4, h5, h6⟩, hA, hB, ⟨p1, p2⟩, _⟩ := h
  exact b_wp_ex (t_nextOf (c := 181) (Or.inl ⟨rfl, rfl⟩) h1 h2 h3 h4 ⟨by have := p1.1; omega, h5⟩ ⟨by have := p2.1; omega, h6⟩ (fun k hk => (hA k hk).2) (fun k hk => (hB k hk).2) p1.2.1.2 p2.2.1.2)
/-- within both at a cell of the grid -/
theorem g2_w {S : bM} {l o : Int} {X Y X2 Y2 : Nat → Int} {n n2 : Nat} (h : g2 S l o X Y X2 Y2 n n2) {x x' y y' : Int} (hx : gNx X X2 n n2 x x') (hy : gNx Y Y2 n n2 y y') (lx : x < x') (ly : y < y') : F_X12_isWithin l 0 (2 * x + (x' - x)) (2 * y + (y' - y)) S = some (gw X Y n x y % 2) ∧ F_X12_isWithin o 13 (2 * x + (x' - x)) (2 * y + (y' - y)) S = some (gw X2 Y2 n2 x y % 2) := by
  obtain ⟨⟨h1, h2, h3, h4, h5, h6⟩, hA, hB, ⟨p1, p2⟩, _⟩ := h
  constructor
  · refine b_eqn (t_isWithin (a := x) (b := y) (X := X) (Y := Y) h1 (Or.inl rfl) h3 ⟨by have := p1.1; omega, h5⟩ (fun k hk => by rw [show (0 : Int) + (k : Int) = k by omega]; exact (hA k hk).1) (fun k hk => by rw [show (0 : Int) + (k : Int) = k by omega]; exact (hA k hk).2) p1.2.2.1 (fun i hi => ?_) (fun i hi => ?_))
    · rcases hx.1 i hi with q | q
      · exact ⟨fun z => by omega, fun z => by omega⟩
      · exact ⟨fun z => by omega, fun z => by omega⟩
    · rcases hy.1 i hi with q | q
      · exact ⟨fun z => by omega, fun z => by omega⟩
      · exact ⟨fun z => by omega, fun z => by omega⟩
  · refine b_eqn (t_isWithin (a := x) (b := y) (X := X2) (Y := Y2) h2 (Or.inr rfl) h4 ⟨by have := p2.1; omega, h6⟩ (fun k hk => (hB k hk).1) (fun k hk => (hB k hk).2) p2.2.2.1 (fun i hi => ?_) (fun i hi => ?_))
    · rcases hx.2.1 i hi with q | q
      · exact ⟨fun z => by omega, fun z => by omega⟩
      · exact ⟨fun z => by omega, fun z => by omega⟩
    · rcases hy.2.1 i hi with q | q
      · exact ⟨fun z => by omega, fun z => by omega⟩
      · exact ⟨fun z => by omega, fun z => by omega⟩
theorem gN_cx {X Y X2 Y2 : Nat → Int} {n n2 : Nat} {x x' a b : Int} (h : gNx X X2 n n2 x x') (ha : x ≤ a ∧ a < x') : gN X Y n X2 Y2 n2 a b = gN X Y n X2 Y2 n2 x b := by
  unfold gN
  rw [gw_cx h.1 ha, gw_cx h.2.1 ha]
theorem gN_cy {X Y X2 Y2 : Nat → Int} {n n2 : Nat} {y y' a b : Int} (h : gNx Y Y2 n n2 y y') (hb : y ≤ b ∧ b < y') : gN X Y n X2 Y2 n2 a b = gN X Y n X2 Y2 n2 a y := by
  unfold gN
  rw [gw_cy h.1 hb, gw_cy h.2.1 hb]
theorem gCl_0 {X Y X2 Y2 : Nat → Int} {n n2 : Nat} {a : Int} (h : ∀ b, gw X Y n a b = 0) : gCl X Y X2 Y2 n n2 a = 0 := gS_0 _ (fun t _ => gN_0 (h _))
/-- one column of the grid -/
theorem t_col {S : bM} {l o : Int} {X Y X2 Y2 : Nat → Int} {n n2 : Nat} (h : g2 S l o X Y X2 Y2 n n2) {x x' y0 B : Int} (hx : gNx X X2 n n2 x x') (lx : x < x' ∧ x' - x < 9999) (rx : -9999 ≤ x ∧ x ≤ 9999) (hB : 0 ≤ B ∧ B ≤ 399920004) (h0 : gNx Y Y2 n n2 (-9999) y0) : b_wp (b_loop (fun t : Int × Int => F_X12_strip_s114 l o t.1 x (x' - x) t.2 S) (B, y0)) (fun r => r = B + (x' - x) * gCl X Y X2 Y2 n n2 x) := by
  have hh := h
  obtain ⟨_, hA, hBb, ⟨p1, p2⟩, hst⟩ := hh
  have last : gUy X Y X2 Y2 n n2 x 9999 = gCl X Y X2 Y2 n n2 x := rfl
  have z0 : gUy X Y X2 Y2 n n2 x (min y0 9999) = 0 := by
    have e := gUy_s (X := X) (Y := Y) (X2 := X2) (Y2 := Y2) (n := n) (n2 := n2) (a := x) (y := -9999) (y' := min y0 9999) (c := 0) (by rcases h0.2.2 with q | q <;> omega) (fun b b1 b2 => gN_0 (gw_zy (Or.inr (fun i hi => by
      have := (hA i hi).2.2.1
      rcases h0.1 i hi with q | q <;> omega))))
    rw [e]
    show gS _ (-9999 + 9999 : Int).toNat + _ = 0
    rw [Int.mul_zero]
    rfl
  refine b_loop_ind (I := fun s : Int × Int => (s.2 = 99980001 ∨ (-9999 ≤ s.2 ∧ s.2 ≤ 9099)) ∧ s.1 = B + (x' - x) * gUy X Y X2 Y2 n n2 x (min s.2 9999)) (fun s => (99980002 - s.2).toNat) ?_ (B, y0) ⟨by dsimp only; rcases h0.2.2 with q | q <;> omega, by dsimp only; rw [z0, Int.mul_zero]; omega⟩
  intro ⟨r, y⟩ ⟨g1, gr⟩
  dsimp only at g1 gr ⊢
  have ur := gUy_r (X := X) (Y := Y) (X2 := X2) (Y2 := Y2) (n := n) (n2 := n2) (a := x) (y := min y 9999) (by omega)
  unfold F_X12_strip_s114
  refine b_Wi (fun c => b_Ws ?_) (fun c => b_Wf (by omega) ?_)
  · show r = B + (x' - x) * gCl X Y X2 Y2 n n2 x
    rw [gr, show min y 9999 = 9999 by omega, last]
  obtain ⟨y', ey, ny⟩ := g2_y h y
  have yl : y < y' := by rcases ny.2.2 with q | q <;> omega
  have yr : y' = 99980001 ∨ (-9999 ≤ y' ∧ y' ≤ 9099) := by rcases ny.2.2 with q | q <;> omega
  refine b_We ey (b_Wg (by omega) (b_Wl ?_))
  have go : ∀ r2 : Int, r2 = B + (x' - x) * gUy X Y X2 Y2 n n2 x (min y' 9999) → b_wp (F_X12_strip_b207 l o r2 x (x' - x) y S) (Sum.elim (fun s2 : Int × Int => ((s2.2 = 99980001 ∨ (-9999 ≤ s2.2 ∧ s2.2 ≤ 9099)) ∧ s2.1 = B + (x' - x) * gUy X Y X2 Y2 n n2 x (min s2.2 9999)) ∧ (99980002 - s2.2).toNat < (99980002 - y).toNat) (fun r : Int => r = B + (x' - x) * gCl X Y X2 Y2 n n2 x)) := by
    intro r2 hr2
    unfold F_X12_strip_b207
    exact b_We ey (b_Ws ⟨⟨yr, hr2⟩, by dsimp only; omega⟩)
  refine b_Wi (fun d => go r ?_) (fun d => ?_)
  · have e := gUy_s (X := X) (Y := Y) (X2 := X2) (Y2 := Y2) (n := n) (n2 := n2) (a := x) (y := y) (y' := min y' 9999) (c := 0) (by omega) (fun b b1 b2 => gN_0 (gz_y ny.1 (fun i hi => (hst i hi).2) (by omega) (by omega)))
    rw [gr, e, Int.mul_zero, show min y 9999 = y by omega, show ∀ z : Int, z + 0 = z from fun z => by omega]
  · have e := gUy_s (X := X) (Y := Y) (X2 := X2) (Y2 := Y2) (n := n) (n2 := n2) (a := x) (y := y) (y' := y') (c := gN X Y n X2 Y2 n2 x y) (by omega) (fun b b1 b2 => gN_cy ny (by omega))
    have m1 : min y' 9999 = y' := by omega
    have m2 : min y 9999 = y := by omega
    rw [m1] at go
    rw [m2] at gr ur
    obtain ⟨w1, w2⟩ := g2_w h hx ny lx.1 yl
    have ur2 := gUy_r (X := X) (Y := Y) (X2 := X2) (Y2 := Y2) (n := n) (n2 := n2) (a := x) (y := y') (by omega)
    have same : gN X Y n X2 Y2 n2 x y = 0 → r = B + (x' - x) * gUy X Y X2 Y2 n n2 x y' := by
      intro z
      rw [e, z, Int.mul_zero, show ∀ z : Int, z + 0 = z from fun z => by omega]
      exact gr
    refine b_Wg (by omega) (b_We w1 (b_Wi (fun q1 => go r (same ?_)) (fun q1 => b_Wg (by omega) (b_We w2 (b_Wi (fun q2 => go r (same ?_)) (fun q2 => ?_))))))
    · unfold gN
      rw [if_neg (by omega)]
    · unfold gN
      rw [if_neg (by omega)]
    · have n1 : gN X Y n X2 Y2 n2 x y = 1 := by
        unfold gN
        rw [if_pos (by omega)]
      rw [n1, Int.mul_one] at e
      have m3 := mul_bd (a := x' - x) (b := gUy X Y X2 Y2 n n2 x y') (A := 9999) (B := 19998) (by omega) ur2 (by decide)
      have m4 := mul_bd (a := x' - x) (b := gUy X Y X2 Y2 n n2 x y) (A := 9999) (B := 19998) (by omega) ur (by decide)
      have m5 : (x' - x) * gUy X Y X2 Y2 n n2 x y' = (x' - x) * gUy X Y X2 Y2 n n2 x y + (x' - x) * (y' - y) := by rw [e, Int.mul_add]
      have m6 : r + (x' - x) * (y' - y) = B + (x' - x) * gUy X Y X2 Y2 n n2 x y' := by rw [gr, m5]; omega
      have m7 : 0 ≤ (x' - x) * gUy X Y X2 Y2 n n2 x y := Int.mul_nonneg (by omega) ur.1
      have m8 : 0 ≤ (x' - x) * (y' - y) := Int.mul_nonneg (by omega) (by omega)
      generalize (x' - x) * gUy X Y X2 Y2 n n2 x y' = a1 at *
      generalize (x' - x) * gUy X Y X2 Y2 n n2 x y = a2 at *
      generalize (x' - x) * (y' - y) = a3 at *
      exact b_Wg (by omega) (b_Wl (go _ m6))
/-- the whole grid -/
theorem t_grid {S : bM} {l o : Int} {X Y X2 Y2 : Nat → Int} {n n2 : Nat} (h : g2 S l o X Y X2 Y2 n n2) {x0 : Int} (h0 : gNx X X2 n n2 (-9999) x0) : b_wp (b_loop (fun t : Int × Int => F_X12_strip_s80 l o t.1 t.2 S) (0, x0)) (fun r => r = gTx X Y X2 Y2 n n2 9999) := by
  have hh := h
  obtain ⟨_, hA, hBb, ⟨p1, p2⟩, hst⟩ := hh
  have z0 : gTx X Y X2 Y2 n n2 (min x0 9999) = 0 := by
    have e := gTx_s (X := X) (Y := Y) (X2 := X2) (Y2 := Y2) (n := n) (n2 := n2) (x := -9999) (x' := min x0 9999) (c := 0) (by rcases h0.2.2 with q | q <;> omega) (fun a b1 b2 => gCl_0 (fun b => gw_zw p1.2.1.2 (fun i hi => by
      have := (hA i hi).1.2.1
      rcases h0.1 i hi with q | q <;> omega)))
    rw [e]
    show gS _ (-9999 + 9999 : Int).toNat + _ = 0
    rw [Int.mul_zero]
    rfl
  refine b_loop_ind (I := fun s : Int × Int => (s.2 = 99980001 ∨ (-9999 ≤ s.2 ∧ s.2 ≤ 9099)) ∧ s.1 = gTx X Y X2 Y2 n n2 (min s.2 9999)) (fun s => (99980002 - s.2).toNat) ?_ (0, x0) ⟨by dsimp only; rcases h0.2.2 with q | q <;> omega, by dsimp only; exact z0.symm⟩
  intro ⟨r, x⟩ ⟨g1, gr⟩
  dsimp only at g1 gr ⊢
  unfold F_X12_strip_s80
  refine b_Wi (fun c => b_Ws ?_) (fun c => ?_)
  · show r = gTx X Y X2 Y2 n n2 9999
    rw [gr, show min x 9999 = 9999 by omega]
  obtain ⟨x', ex, nx⟩ := g2_x h x
  obtain ⟨y0, ey, ny⟩ := g2_y h (-9999)
  have xl : x < x' := by rcases nx.2.2 with q | q <;> omega
  have xr : x' = 99980001 ∨ (-9999 ≤ x' ∧ x' ≤ 9099) := by rcases nx.2.2 with q | q <;> omega
  rw [show min x 9999 = x by omega] at gr
  have tr := gTx_r (X := X) (Y := Y) (X2 := X2) (Y2 := Y2) (n := n) (n2 := n2) (x := x) (by omega)
  refine b_We ex (b_Wg (by omega) (b_Wl (b_We ey ?_)))
  have go : ∀ r2 : Int, r2 = gTx X Y X2 Y2 n n2 (min x' 9999) → b_wp (F_X12_strip_b221 l o r2 x S) (Sum.elim (fun s2 : Int × Int => ((s2.2 = 99980001 ∨ (-9999 ≤ s2.2 ∧ s2.2 ≤ 9099)) ∧ s2.1 = gTx X Y X2 Y2 n n2 (min s2.2 9999)) ∧ (99980002 - s2.2).toNat < (99980002 - x).toNat) (fun r : Int => r = gTx X Y X2 Y2 n n2 9999)) := by
    intro r2 hr2
    unfold F_X12_strip_b221
    exact b_We ex (b_Ws ⟨⟨xr, hr2⟩, by dsimp only; omega⟩)
  by_cases w : 9999 ≤ x' - x
  · refine b_Wb (b_Wloop ?_)
    dsimp only
    have t : gTx X Y X2 Y2 n n2 (min x' 9999) = gTx X Y X2 Y2 n n2 x := by
      rw [gTx_s (X := X) (Y := Y) (X2 := X2) (Y2 := Y2) (n := n) (n2 := n2) (x := x) (x' := min x' 9999) (c := 0) (by omega) (fun a b1 b2 => gCl_0 (fun b => gz_x p1.2.1.2 nx.1 (fun i hi => (hst i hi).1) (by omega) (by omega))), Int.mul_zero]
      omega
    unfold F_X12_strip_s114
    exact b_Wi (fun d => b_Ws (go r (by rw [t]; exact gr))) (fun d => b_Wt w (b_Ws (go r (by rw [t]; exact gr))))
  · refine b_Wb (b_wp_m (fun r2 z => go r2 ?_) (t_col h nx ⟨xl, by omega⟩ (by omega) (by omega) ny))
    rw [z, gr, show min x' 9999 = x' by omega, gTx_s (X := X) (Y := Y) (X2 := X2) (Y2 := Y2) (n := n) (n2 := n2) (x := x) (x' := x') (c := gCl X Y X2 Y2 n n2 x) (by omega) (fun a b1 b2 => gS_c _ (fun t _ => gN_cx nx (by omega)))]
