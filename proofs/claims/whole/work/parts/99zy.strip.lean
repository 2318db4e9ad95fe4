theorem gw_cx {X Y : Nat → Int} {n : Nat} {x x' a b : Int} (h : ∀ i, i ≤ n → X i ≤ x ∨ x' ≤ X i) (ha : x ≤ a ∧ a < x') : gw X Y n a b = gw X Y n x b := by
  refine gS_c n (fun i hi => ?_)
  show gu a (X i) * gd Y i b = gu x (X i) * gd Y i b
  have e : gu a (X i) = gu x (X i) := by
    rcases h i (by omega) with q | q
    · rw [gu_0 (show X i ≤ a by omega), gu_0 q]
    · rw [gu_1 (show a < X i by omega), gu_1 (show x < X i by omega)]
  rw [e]
theorem gw_cy {X Y : Nat → Int} {n : Nat} {y y' a b : Int} (h : ∀ i, i ≤ n → Y i ≤ y ∨ y' ≤ Y i) (hb : y ≤ b ∧ b < y') : gw X Y n a b = gw X Y n a y := by
  have e : ∀ i, i ≤ n → gu b (Y i) = gu y (Y i) := by
    intro i hi
    rcases h i hi with q | q
    · rw [gu_0 (show Y i ≤ b by omega), gu_0 q]
    · rw [gu_1 (show b < Y i by omega), gu_1 (show y < Y i by omega)]
  refine gS_c n (fun i hi => ?_)
  show gu a (X i) * gd Y i b = gu a (X i) * gd Y i y
  unfold gd
  rw [e i (by omega), e (i + 1) (by omega)]
theorem gw_zw {X Y : Nat → Int} {n : Nat} {a b : Int} (hy : Y n = Y 0) (h : ∀ i, i ≤ n → a < X i) : gw X Y n a b = 0 := by
  have e : gw X Y n a b = gS (fun i => gd Y i b) n := gS_c n (fun i hi => by show gu a (X i) * gd Y i b = gd Y i b; rw [gu_1 (h i (by omega)), Int.one_mul])
  rw [e, gd_0 hy]
theorem gw_zy {X Y : Nat → Int} {n : Nat} {a b : Int} (h : (∀ i, i ≤ n → Y i ≤ b) ∨ ∀ i, i ≤ n → b < Y i) : gw X Y n a b = 0 := by
  refine gS_0 n (fun i hi => ?_)
  show gu a (X i) * gd Y i b = 0
  unfold gd
  rcases h with h | h
  · rw [gu_0 (h i (by omega)), gu_0 (h (i + 1) (by omega))]; omega
  · rw [gu_1 (h i (by omega)), gu_1 (h (i + 1) (by omega))]; omega
theorem g_side {X : Nat → Int} {n : Nat} {x x' : Int} (h : ∀ i, i ≤ n → X i ≤ x ∨ x' ≤ X i) (st : ∀ i, i < n → -1500 ≤ X (i + 1) - X i ∧ X (i + 1) - X i ≤ 1500) (big : 1500 < x' - x) : (∀ i, i ≤ n → X i ≤ x) ∨ ∀ i, i ≤ n → x' ≤ X i := by
  rcases h 0 (by omega) with q | q
  · refine Or.inl (fun i => ?_)
    induction i with
    | zero => intro _; exact q
    | succ i ih =>
      intro hi
      have h1 := ih (by omega)
      have h2 := st i (by omega)
      rcases h (i + 1) hi with z | z <;> omega
  · refine Or.inr (fun i => ?_)
    induction i with
    | zero => intro _; exact q
    | succ i ih =>
      intro hi
      have h1 := ih (by omega)
      have h2 := st i (by omega)
      rcases h (i + 1) hi with z | z <;> omega
/-- where no corner is for long, nothing is within -/
theorem gz_x {X Y : Nat → Int} {n : Nat} {x x' a b : Int} (hy : Y n = Y 0) (h : ∀ i, i ≤ n → X i ≤ x ∨ x' ≤ X i) (st : ∀ i, i < n → -1500 ≤ X (i + 1) - X i ∧ X (i + 1) - X i ≤ 1500) (big : 1500 < x' - x) (ha : x ≤ a ∧ a < x') : gw X Y n a b = 0 := by
  rcases g_side h st big with q | q
  · exact gw_e (fun j hj => by have := q j (by omega); omega)
  · exact gw_zw hy (fun j hj => by have := q j hj; omega)
theorem gz_y {X Y : Nat → Int} {n : Nat} {y y' a b : Int} (h : ∀ i, i ≤ n → Y i ≤ y ∨ y' ≤ Y i) (st : ∀ i, i < n → -1500 ≤ Y (i + 1) - Y i ∧ Y (i + 1) - Y i ≤ 1500) (big : 1500 < y' - y) (hb : y ≤ b ∧ b < y') : gw X Y n a b = 0 := by
  rcases g_side h st big with q | q
  · exact gw_zy (Or.inl (fun j hj => by have := q j hj; omega))
  · exact gw_zy (Or.inr (fun j hj => by have := q j hj; omega))
theorem gS_seg {f : Nat → Int} {c : Int} {m : Nat} : ∀ d : Nat, (∀ i, i < d → f (m + i) = c) → gS f (m + d) = gS f m + d * c := by
  intro d
  induction d with
  | zero => intro _; rw [show m + 0 = m by omega, show ((0 : Nat) : Int) = 0 from rfl, Int.zero_mul]; omega
  | succ d ih =>
    intro h
    rw [show m + (d + 1) = m + d + 1 by omega, gS_s, ih (fun i hi => h i (by omega)), h d (by omega), show ((d + 1 : Nat) : Int) = (d : Int) + 1 by omega, Int.add_mul, Int.one_mul]
    omega
/-- the next corner -/
def gNx (X X2 : Nat → Int) (n n2 : Nat) (v r : Int) : Prop := (∀ i, i ≤ n → X i ≤ v ∨ r ≤ X i) ∧ (∀ i, i ≤ n2 → X2 i ≤ v ∨ r ≤ X2 i) ∧ (r = 99980001 ∨ (v < r ∧ -9000 ≤ r ∧ r ≤ 9099))
theorem t_nextOf {S : bM} {b v l o : Int} {c : Nat} {X X2 : Nat → Int} {n n2 : Nat} (hb : (b = 0 ∧ c = 181) ∨ (b = 1 ∧ c = 180)) (hl : 0 ≤ l ∧ l < 60) (ho : 0 ≤ o ∧ o < 60) (h1 : S 175 l = n) (h2 : S 175 o = n2) (hn : 0 < n ∧ n ≤ 12) (hn2 : 0 < n2 ∧ n2 ≤ 12) (hX : ∀ k : Nat, k ≤ n → S c k = X k ∧ -9000 ≤ X k ∧ X k ≤ 9099) (hX2 : ∀ k : Nat, k ≤ n2 → S c (13 + (k : Int)) = X2 k ∧ -9000 ≤ X2 k ∧ X2 k ≤ 9099) (c1 : X n = X 0) (c2 : X2 n2 = X2 0) : b_wp (F_X12_nextOf b v l o S) (fun r => gNx X X2 n n2 v r) := by
  unfold F_X12_nextOf
  refine b_Wb (b_wp_m (fun r z => ?_) (b_loop_ind (P := fun r : Int => (∀ i, i < n → X i ≤ v ∨ r ≤ X i) ∧ (r = 99980001 ∨ (v < r ∧ -9000 ≤ r ∧ r ≤ 9099))) (I := fun s : Int × Int => (0 ≤ s.2 ∧ s.2 ≤ n) ∧ (∀ i : Nat, (i : Int) < s.2 → X i ≤ v ∨ s.1 ≤ X i) ∧ (s.1 = 99980001 ∨ (v < s.1 ∧ -9000 ≤ s.1 ∧ s.1 ≤ 9099))) (fun s => ((n : Int) - s.2).toNat) ?_ (99980001, 0) ⟨by dsimp only; omega, fun i hi => by dsimp only at hi; omega, Or.inl rfl⟩))
  · obtain ⟨z1, z2⟩ := z
    unfold F_X12_nextOf_b83
    refine b_Wb (b_wp_m (fun r2 y => ?_) (b_loop_ind (P := fun r : Int => (∀ i, i < n → X i ≤ v ∨ r ≤ X i) ∧ (∀ i, i < n2 → X2 i ≤ v ∨ r ≤ X2 i) ∧ (r = 99980001 ∨ (v < r ∧ -9000 ≤ r ∧ r ≤ 9099))) (I := fun s : Int × Int => (13 ≤ s.2 ∧ s.2 ≤ 13 + n2) ∧ (∀ i, i < n → X i ≤ v ∨ s.1 ≤ X i) ∧ (∀ i : Nat, 13 + (i : Int) < s.2 → X2 i ≤ v ∨ s.1 ≤ X2 i) ∧ (s.1 = 99980001 ∨ (v < s.1 ∧ -9000 ≤ s.1 ∧ s.1 ≤ 9099))) (fun s => (13 + (n2 : Int) - s.2).toNat) ?_ (r, 13) ⟨by dsimp only; omega, z1, fun i hi => by dsimp only at hi; omega, z2⟩))
    · unfold F_X12_nextOf_b166
      obtain ⟨y1, y2, y3⟩ := y
      refine b_Ws ⟨fun i hi => ?_, fun i hi => ?_, y3⟩
      · by_cases e : i = n
        · rw [e, c1]; exact y1 0 (by omega)
        · exact y1 i (by omega)
      · by_cases e : i = n2
        · rw [e, c2]; exact y2 0 (by omega)
        · exact y2 i (by omega)
    · intro ⟨q, j⟩ ⟨g1, g2, g3, g4⟩
      dsimp only at g1 g2 g3 g4 ⊢
      unfold F_X12_nextOf_s87
      rw [h2]
      refine b_Wg (by omega) (b_Wi (fun a => b_Ws ⟨g2, fun i hi => g3 i (by omega), g4⟩) (fun a => ?_))
      obtain ⟨xe, xr⟩ := hX2 (j - 13).toNat (by omega)
      rw [show 13 + (((j - 13).toNat : Nat) : Int) = j by omega] at xe
      have inv : ∀ q2 : Int, q2 ≤ q → (X2 (j - 13).toNat ≤ v ∨ q2 ≤ X2 (j - 13).toNat) → (q2 = 99980001 ∨ (v < q2 ∧ -9000 ≤ q2 ∧ q2 ≤ 9099)) → ((13 ≤ j + 1 ∧ j + 1 ≤ 13 + n2) ∧ (∀ i, i < n → X i ≤ v ∨ q2 ≤ X i) ∧ (∀ i : Nat, 13 + (i : Int) < j + 1 → X2 i ≤ v ∨ q2 ≤ X2 i) ∧ (q2 = 99980001 ∨ (v < q2 ∧ -9000 ≤ q2 ∧ q2 ≤ 9099))) ∧ (13 + (n2 : Int) - (j + 1)).toNat < (13 + (n2 : Int) - j).toNat := by
        intro q2 le hh h3
        refine ⟨⟨by omega, fun i hi => ?_, fun i hi => ?_, h3⟩, by omega⟩
        · rcases g2 i hi with w | w
          · exact Or.inl w
          · exact Or.inr (by omega)
        · by_cases e : i = (j - 13).toNat
          · rw [e]; exact hh
          · rcases g3 i (by omega) with w | w
            · exact Or.inl w
            · exact Or.inr (by omega)
      have b123 : ∀ u0 : Int, u0 = X2 (j - 13).toNat → b_wp (F_X12_nextOf_b123 b v o q j u0 S) (Sum.elim (fun s2 : Int × Int => ((13 ≤ s2.2 ∧ s2.2 ≤ 13 + n2) ∧ (∀ i, i < n → X i ≤ v ∨ s2.1 ≤ X i) ∧ (∀ i : Nat, 13 + (i : Int) < s2.2 → X2 i ≤ v ∨ s2.1 ≤ X2 i) ∧ (s2.1 = 99980001 ∨ (v < s2.1 ∧ -9000 ≤ s2.1 ∧ s2.1 ≤ 9099))) ∧ (13 + (n2 : Int) - s2.2).toNat < (13 + (n2 : Int) - j).toNat) (fun r : Int => (∀ i, i < n → X i ≤ v ∨ r ≤ X i) ∧ (∀ i, i < n2 → X2 i ≤ v ∨ r ≤ X2 i) ∧ (r = 99980001 ∨ (v < r ∧ -9000 ≤ r ∧ r ≤ 9099)))) := by
        intro u0 hu
        unfold F_X12_nextOf_b123
        refine b_Wi (fun d => b_Wg (by omega) (b_Ws (inv q (Int.le_refl _) (Or.inl (by omega)) g4))) (fun d => b_Wi (fun e => b_Wg (by omega) ?_) (fun e => b_Wg (by omega) ?_))
        · have ec : c = 181 := by omega
          subst ec
          unfold F_X12_nextOf_b150
          refine b_We e_lesser (b_Wg (by omega) (b_Ws (inv _ (by omega) (Or.inr (by omega)) ?_)))
          rw [xe]
          omega
        · have ec : c = 180 := by omega
          subst ec
          unfold F_X12_nextOf_b150
          refine b_We e_lesser (b_Wg (by omega) (b_Ws (inv _ (by omega) (Or.inr (by omega)) ?_)))
          rw [xe]
          omega
      refine b_Wi (fun e => b_Wg (by omega) (b123 _ ?_)) (fun e => b_Wg (by omega) (b123 _ ?_))
      · have ec : c = 181 := by omega
        subst ec
        exact xe
      · have ec : c = 180 := by omega
        subst ec
        exact xe
  · intro ⟨q, j⟩ ⟨g1, g2, g4⟩
    dsimp only at g1 g2 g4 ⊢
    unfold F_X12_nextOf_s8
    rw [h1]
    refine b_Wg (by omega) (b_Wi (fun a => b_Ws ⟨fun i hi => g2 i (by omega), g4⟩) (fun a => ?_))
    obtain ⟨xe, xr⟩ := hX j.toNat (by omega)
    rw [show ((j.toNat : Nat) : Int) = j by omega] at xe
    have inv : ∀ q2 : Int, q2 ≤ q → (X j.toNat ≤ v ∨ q2 ≤ X j.toNat) → (q2 = 99980001 ∨ (v < q2 ∧ -9000 ≤ q2 ∧ q2 ≤ 9099)) → ((0 ≤ j + 1 ∧ j + 1 ≤ n) ∧ (∀ i : Nat, (i : Int) < j + 1 → X i ≤ v ∨ q2 ≤ X i) ∧ (q2 = 99980001 ∨ (v < q2 ∧ -9000 ≤ q2 ∧ q2 ≤ 9099))) ∧ ((n : Int) - (j + 1)).toNat < ((n : Int) - j).toNat := by
      intro q2 le hh h3
      refine ⟨⟨by omega, fun i hi => ?_, h3⟩, by omega⟩
      by_cases e : i = j.toNat
      · rw [e]; exact hh
      · rcases g2 i (by omega) with w | w
        · exact Or.inl w
        · exact Or.inr (by omega)
    have b40 : ∀ u0 : Int, u0 = X j.toNat → b_wp (F_X12_nextOf_b40 b v l o q j u0 S) (Sum.elim (fun s2 : Int × Int => ((0 ≤ s2.2 ∧ s2.2 ≤ n) ∧ (∀ i : Nat, (i : Int) < s2.2 → X i ≤ v ∨ s2.1 ≤ X i) ∧ (s2.1 = 99980001 ∨ (v < s2.1 ∧ -9000 ≤ s2.1 ∧ s2.1 ≤ 9099))) ∧ ((n : Int) - s2.2).toNat < ((n : Int) - j).toNat) (fun r : Int => (∀ i, i < n → X i ≤ v ∨ r ≤ X i) ∧ (r = 99980001 ∨ (v < r ∧ -9000 ≤ r ∧ r ≤ 9099)))) := by
      intro u0 hu
      unfold F_X12_nextOf_b40
      refine b_Wi (fun d => b_Wg (by omega) (b_Ws (inv q (Int.le_refl _) (Or.inl (by omega)) g4))) (fun d => b_Wi (fun e => b_Wg (by omega) ?_) (fun e => b_Wg (by omega) ?_))
      · have ec : c = 181 := by omega
        subst ec
        unfold F_X12_nextOf_b67
        refine b_We e_lesser (b_Wg (by omega) (b_Ws (inv _ (by omega) (Or.inr (by omega)) ?_)))
        rw [xe]
        omega
      · have ec : c = 180 := by omega
        subst ec
        unfold F_X12_nextOf_b67
        refine b_We e_lesser (b_Wg (by omega) (b_Ws (inv _ (by omega) (Or.inr (by omega)) ?_)))
        rw [xe]
        omega
    refine b_Wi (fun e => b_Wg (by omega) (b40 _ ?_)) (fun e => b_Wg (by omega) (b40 _ ?_))
    · have ec : c = 181 := by omega
      subst ec
      exact xe
    · have ec : c = 180 := by omega
      subst ec
      exact xe
theorem ix_0 {v : Int} (h : v = 0 ∨ v = 1) : i_xor v 0 = v := by rcases h with h | h <;> subst h <;> decide
theorem ix_1 {v : Int} (h : v = 0 ∨ v = 1) : i_xor v 1 = 1 - v := by rcases h with h | h <;> subst h <;> decide
/-- within, by counting lines to the east -/
theorem t_isWithin {S : bM} {l v x2 y2 a b : Int} {X Y : Nat → Int} {n : Nat} (hl : 0 ≤ l ∧ l < 60) (hv : v = 0 ∨ v = 13) (h1 : S 175 l = n) (hn : 0 < n ∧ n ≤ 12) (hX : ∀ k : Nat, k ≤ n → S 180 (v + (k : Int)) = X k ∧ -9000 ≤ X k ∧ X k ≤ 9099) (hY : ∀ k : Nat, k ≤ n → S 181 (v + (k : Int)) = Y k ∧ -9000 ≤ Y k ∧ Y k ≤ 9099) (hs : ∀ i, i < n → (X (i + 1) = X i ∧ Y (i + 1) ≠ Y i) ∨ (Y (i + 1) = Y i ∧ X (i + 1) ≠ X i)) (hx : ∀ i, i ≤ n → (a < X i ↔ x2 ≤ 2 * X i)) (hy : ∀ i, i ≤ n → (b < Y i → y2 < 2 * Y i) ∧ (Y i ≤ b → 2 * Y i < y2)) : b_wp (F_X12_isWithin l v x2 y2 S) (fun r => r = gw X Y n a b % 2) := by
  unfold F_X12_isWithin
  refine b_Wb (b_wp_m (fun r z => ?_) (b_loop_ind (P := fun r : Int => r = gw X Y n a b % 2) (I := fun s : Int × Int => (v ≤ s.2 ∧ s.2 ≤ v + n) ∧ s.1 = gS (fun i => gu a (X i) * gd Y i b) (s.2 - v).toNat % 2) (fun s => (v + (n : Int) - s.2).toNat) ?_ (0, v) ⟨by dsimp only; omega, by dsimp only; rw [show (v - v).toNat = 0 by omega]; rfl⟩))
  · unfold F_X12_isWithin_b122
    exact b_Wg (by omega) (b_Ws z)
  · intro ⟨p, j⟩ ⟨g1, g2⟩
    dsimp only at g1 g2 ⊢
    unfold F_X12_isWithin_s6
    rw [h1]
    refine b_Wg (by omega) (b_Wi (fun c => b_Ws ?_) (fun c => b_Wg (by omega) ?_))
    · rw [g2, show (j - v).toNat = n by omega]; rfl
    obtain ⟨x1, x1r⟩ := hX (j - v).toNat (by omega)
    obtain ⟨x2e, x2r⟩ := hX ((j - v).toNat + 1) (by omega)
    obtain ⟨y1, y1r⟩ := hY (j - v).toNat (by omega)
    obtain ⟨y2e, y2r⟩ := hY ((j - v).toNat + 1) (by omega)
    rw [show v + (((j - v).toNat : Nat) : Int) = j by omega] at x1 y1
    rw [show v + (((j - v).toNat + 1 : Nat) : Int) = j + 1 by omega] at x2e y2e
    have st : gS (fun i => gu a (X i) * gd Y i b) (j + 1 - v).toNat = gS (fun i => gu a (X i) * gd Y i b) (j - v).toNat + gu a (X (j - v).toNat) * gd Y (j - v).toNat b := by
      rw [show (j + 1 - v).toNat = (j - v).toNat + 1 by omega]
      rfl
    have s := hs (j - v).toNat (by omega)
    have ax := hx (j - v).toNat (by omega)
    have ay := hy (j - v).toNat (by omega)
    have ay2 := hy ((j - v).toNat + 1) (by omega)
    have gdc := gd_c (Y := Y) (i := (j - v).toNat) (b := b)
    have p01 : p = 0 ∨ p = 1 := by omega
    rw [x1, x2e, y1, y2e]
    have inv : ∀ q : Int, q = (p + gu a (X (j - v).toNat) * gd Y (j - v).toNat b) % 2 → ((v ≤ j + 1 ∧ j + 1 ≤ v + n) ∧ q = gS (fun i => gu a (X i) * gd Y i b) (j + 1 - v).toNat % 2) ∧ (v + (n : Int) - (j + 1)).toNat < (v + (n : Int) - j).toNat := by
      intro q hq
      refine ⟨⟨by omega, ?_⟩, by omega⟩
      rw [st, hq, g2]
      omega
    generalize X (j - v).toNat = X1 at *
    generalize X ((j - v).toNat + 1) = X2 at *
    generalize Y (j - v).toNat = Y1 at *
    generalize Y ((j - v).toNat + 1) = Y2 at *
    generalize gd Y (j - v).toNat b = G at *
    refine b_Wi (fun e => b_Wg (by omega) (b_Wi (fun d => ?_) (fun d => b_Wg (by omega) (b_Ws (inv p ?_))))) (fun e => b_Wg (by omega) (b_Ws (inv p ?_)))
    · have u1 : gu a X1 = 1 := gu_1 (ax.mpr d)
      rw [u1, Int.one_mul] at inv
      refine b_Wg (by omega) (b_We e_lesser (b_Wg (by omega) (b_Wi (fun d2 => ?_) (fun d2 => b_Wg (by omega) (b_We e_greater (b_Wg (by omega) (b_Wi (fun d3 => ?_) (fun d3 => ?_))))))))
      · unfold F_X12_isWithin_b112 F_X12_isWithin_b113
        rw [ix_0 p01]
        exact b_Wl (b_Wg (by omega) (b_Ws (inv p (by omega))))
      · unfold F_X12_isWithin_b112 F_X12_isWithin_b113
        rw [ix_0 p01]
        exact b_Wl (b_Wg (by omega) (b_Ws (inv p (by omega))))
      · unfold F_X12_isWithin_b113
        rw [ix_1 p01]
        exact b_Wl (b_Wg (by omega) (b_Ws (inv (1 - p) (by omega))))
    · have u0 : gu a X1 = 0 := gu_0 (by
        by_cases q : a < X1
        · exact absurd (ax.mp q) d
        · omega)
      rw [u0, Int.zero_mul]
      omega
    · have g0 : G = 0 := by omega
      rw [g0, Int.mul_zero]
      omega
