/-- the bytes of the reference's tape -/
def rb (M : bM) : Int → Int := fun p => if 0 ≤ p ∧ p < M 11 2 then i_and (M 162 p) 255 else -1
theorem e_see {M : bM} {p : Int} (h : M 11 2 ≤ 1000) (hp : 0 ≤ p) : F_X12_see p M = some (rb M p) := by
  refine b_eqn ?_
  unfold F_X12_see rb
  exact b_Wi (fun q => b_Ws (if_neg (by omega)).symm) (fun q => b_Wg (by omega) (b_Ws (if_pos (by omega)).symm))
/-! the reference's WORDS -/
def k_st : List Nat := [0, 6, 12, 17, 23, 27, 34, 39, 45, 51, 57, 62, 67, 72, 78, 83, 87, 93, 102, 105, 109, 113, 119, 125, 128, 133, 135, 137, 139]
def k_ln : List Nat := [5, 5, 4, 5, 3, 6, 4, 5, 5, 5, 4, 4, 4, 5, 4, 3, 5, 8, 2, 3, 3, 5, 5, 2, 4, 1, 1, 1, 1]
def kS (i : Nat) : Nat := k_st.getD i 141
def kL (i : Nat) : Nat := k_ln.getD i 0
/-- the number of WORD i -/
def kW (i : Nat) : Int := z_wd s_t4 (kS i) (kL i)
theorem k_tab : (∀ i, i < 29 → kS (i + 1) = kS i + kL i + 1 ∧ kL i ≤ 12 ∧ kS i + kL i < 141 ∧ s_t4 ((kS i + kL i : Nat) : Int) = 32) ∧ ∀ i, i < 29 → ∀ j, j < kL i → 97 ≤ s_t4 ((kS i : Int) + (j : Int)) ∧ s_t4 ((kS i : Int) + (j : Int)) ≤ 122 := by
  constructor
  · decide +kernel
  · decide +kernel
theorem k_29 : kS 29 = 141 := by decide
def Ky (v x : Int) : Prop := (x = -1 ∧ ∀ i, i < 29 → kW i ≠ v) ∨ ∃ i : Nat, i < 29 ∧ x = i ∧ kW i = v
theorem t_keyAt {M : bM} {p : Int} {c : Int → Int} {n : Int} {len : Nat} (hB : z_B c n) (hc : rb M = c) (h2 : M 11 2 ≤ 1000) (hp : 0 ≤ p ∧ p + len ≤ n) (hl : ∀ j : Nat, j < len → 97 ≤ c (p + j) ∧ c (p + j) ≤ 122) : b_wp (F_X12_keyAt p (len : Int) M) (fun o => o.2 = M ∧ Ky (z_wd c p len) o.1) := by
  have b := hB.1
  unfold F_X12_keyAt
  refine b_Wb (b_wp_m (fun o z => ?_) (b_loop_ind (P := Sum.elim (fun N : bM => N = M ∧ ∀ i, i < 29 → kW i ≠ z_wd c p len) (fun o : Int × bM => o.2 = M ∧ Ky (z_wd c p len) o.1)) (I := fun t : Int × Int × Int × bM => t.2.2.2 = M ∧ ∃ w : Nat, w ≤ 29 ∧ t.1 = w ∧ t.2.1 = (kS w : Int) ∧ ((kS w : Int) ≤ t.2.2.1 ∧ (w < 29 → t.2.2.1 ≤ ((kS w + kL w : Nat) : Int))) ∧ (w = 29 → t.2.2.1 = 141) ∧ ∀ i, i < w → kW i ≠ z_wd c p len) (fun t => (141 - t.2.2.1).toNat) ?_ (0, 0, 0, M) ⟨rfl, 0, by decide, rfl, rfl, ⟨by dsimp only; decide, fun _ => by dsimp only; decide⟩, fun z => by omega, fun i hi => by omega⟩))
  · rcases o with N | o
    · obtain ⟨z1, z2⟩ := z
      show b_wp (F_X12_keyAt_b122 N) _
      unfold F_X12_keyAt_b122
      exact b_Ws ⟨z1, Or.inl ⟨rfl, z2⟩⟩
    · exact b_Ws z
  intro ⟨w0, f0, k, Q⟩ ⟨h1, w, h3, h4, h5, h6, h7, h8⟩
  dsimp only at h1 h4 h5 h6 h7 ⊢
  subst h1 h4 h5
  unfold F_X12_keyAt_s8
  refine b_Wi (fun a => b_Ws ?_) (fun a => ?_)
  · have e : w = 29 := by
      by_cases y : w = 29
      · exact y
      · have t := (k_tab.1 w (by omega)).2.2.1
        have := h6.2 (by omega)
        omega
    rw [e] at h8
    exact ⟨rfl, h8⟩
  have w29 : w < 29 := by
    by_cases y : w = 29
    · have := h7 y; omega
    · omega
  obtain ⟨t1, t2, t3, t4⟩ := k_tab.1 w w29
  have t5 := k_tab.2 w w29
  have ku := h6.2 w29
  refine b_Wg (by omega) (b_Wi (fun a1 => ?_) (fun a1 => b_Wg (by omega) (b_Ws ⟨⟨rfl, w, h3, rfl, rfl, ⟨by dsimp only; omega, fun _ => ?_⟩, fun y => by omega, h8⟩, by dsimp only; omega⟩)))
  · have ek : k = ((kS w + kL w : Nat) : Int) := by
      by_cases y : k = ((kS w + kL w : Nat) : Int)
      · exact y
      · exfalso
        have := t5 (k - kS w).toNat (by omega)
        rw [show (kS w : Int) + (((k - kS w).toNat : Nat) : Int) = k by omega, a1] at this
        omega
    have inner : ∀ u, (u = 0 ∨ u = 1) → (u = 1 ↔ kL w = len) → b_wp (F_X12_keyAt_b49 p (len : Int) (w : Int) (kS w : Int) k u Q) (Sum.elim (fun t : Int × Int × Int × bM => (t.2.2.2 = Q ∧ ∃ w : Nat, w ≤ 29 ∧ t.1 = w ∧ t.2.1 = (kS w : Int) ∧ ((kS w : Int) ≤ t.2.2.1 ∧ (w < 29 → t.2.2.1 ≤ ((kS w + kL w : Nat) : Int))) ∧ (w = 29 → t.2.2.1 = 141) ∧ ∀ i, i < w → kW i ≠ z_wd c p len) ∧ (141 - t.2.2.1).toNat < (141 - k).toNat) (Sum.elim (fun N : bM => N = Q ∧ ∀ i, i < 29 → kW i ≠ z_wd c p len) (fun o : Int × bM => o.2 = Q ∧ Ky (z_wd c p len) o.1))) := by
      intro u hu hu2
      unfold F_X12_keyAt_b49
      refine b_Wb (b_wp_m (fun o z => ?_) (b_loop_ind (P := fun o : Int × bM => o.2 = Q ∧ ((o.1 = 0 ∧ kW w ≠ z_wd c p len) ∨ (o.1 = 1 ∧ kW w = z_wd c p len))) (I := fun t : Int × Int × bM => t.2.2 = Q ∧ (0 ≤ t.2.1 ∧ t.2.1 ≤ len) ∧ ((t.1 = 0 ∧ kW w ≠ z_wd c p len) ∨ (t.1 = 1 ∧ kL w = len ∧ ∀ j : Nat, (j : Int) < t.2.1 → s_t4 ((kS w : Int) + j) = c (p + j)))) (fun t => ((len : Int) - t.2.1).toNat) ?_ (u, 0, Q) ⟨rfl, by dsimp only; omega, ?_⟩))
      · obtain ⟨s, O⟩ := o
        obtain ⟨z1, z2⟩ := z
        dsimp only at z1 z2 ⊢
        subst z1
        generalize hww : (w : Int) = ww
        generalize hll : (len : Int) = ll
        unfold F_X12_keyAt_b100
        rcases z2 with ⟨z2, z3⟩ | ⟨z2, z3⟩
        · refine b_Wt z2 (b_Wg (by omega) (b_Ws ⟨⟨rfl, w + 1, by omega, by dsimp only; omega, by dsimp only; omega, ⟨by dsimp only; omega, fun y => by dsimp only; have := (k_tab.1 (w + 1) y).2.1; omega⟩, fun y => ?_, fun i hi => ?_⟩, by dsimp only; omega⟩))
          · dsimp only
            have : w = 28 := by omega
            subst this
            have e2 : kS (28 + 1) = 141 := k_29
            omega
          · by_cases y : i = w
            · rw [y]; exact z3
            · exact h8 i (by omega)
        · exact b_Wf (by omega) (b_Ws ⟨rfl, Or.inr ⟨w, w29, hww.symm, z3⟩⟩)
      · intro ⟨s, j, R⟩ ⟨g1, g2, g3⟩
        dsimp only at g1 g2 g3 ⊢
        subst g1
        unfold F_X12_keyAt_s54
        refine b_Wi (fun y => b_Ws ⟨rfl, ?_⟩) (fun y => b_Wi (fun y1 => b_Ws ⟨rfl, ?_⟩) (fun y1 => ?_))
        · rcases g3 with g3 | ⟨g3, g4, g5⟩
          · exact Or.inl g3
          · refine Or.inr ⟨g3, ?_⟩
            unfold kW
            rw [g4]
            exact z_wd_c len (fun i hi => g5 i (by omega))
        · rcases g3 with g3 | g3
          · exact Or.inl g3
          · have := g3.1; omega
        · obtain ⟨g3, g4, g5⟩ := g3.resolve_left (fun z => y1 z.1)
          have g6 := hl j.toNat (by omega)
          have tj := t5 j.toNat (by omega)
          rw [show ((j.toNat : Nat) : Int) = j by omega] at g6 tj
          refine b_Wg (by omega) (b_We (e_see h2 (by omega)) ?_)
          rw [hc]
          refine b_Wi (fun y2 => b_Wg (by omega) (b_Ws ⟨⟨rfl, by dsimp only; omega, Or.inr ⟨rfl, g4, fun i hi => ?_⟩⟩, by dsimp only; omega⟩)) (fun y2 => b_Wg (by omega) (b_Ws ⟨⟨rfl, by dsimp only; omega, Or.inl ⟨rfl, fun z => ?_⟩⟩, by dsimp only; omega⟩))
          · dsimp only at hi
            by_cases ei : (i : Int) = j
            · rw [ei]; exact y2
            · exact g5 i (by omega)
          · unfold kW at z
            have := (z_wd_u (kL w) len t5 hl z).2 j.toNat (by omega)
            rw [show ((j.toNat : Nat) : Int) = j by omega] at this
            exact y2 this
      · dsimp only
        by_cases y : kL w = len
        · exact Or.inr ⟨hu2.mpr y, y, fun j hj => by omega⟩
        · refine Or.inl ⟨?_, fun z => ?_⟩
          · rcases hu with e | e
            · exact e
            · exact absurd (hu2.mp e) y
          · unfold kW at z
            exact y (z_wd_u (kL w) len t5 hl z).1
    refine b_Wg (by omega) (b_Wi (fun a2 => inner 1 (Or.inr rfl) ⟨fun _ => by omega, fun _ => rfl⟩) (fun a2 => inner 0 (Or.inl rfl) ⟨fun z => absurd z (by decide), fun z => by omega⟩))
  · dsimp only
    by_cases y : k = ((kS w + kL w : Nat) : Int)
    · rw [y] at a1
      exact absurd t4 a1
    · omega
/-- sorts of TOKENS as the reference tells them -/
def z_so (k v : Int) : Int := if k = 0 then 8 else if k = 1 then 1 else if k = 2 then 2 else if k = 3 then (if v = 59 then 3 else if v = 61 then 4 else if v = 40 then 5 else if v = 41 then 6 else 7) else 0
/-- the reference is at TOKEN i -/
def Rs (c : Int → Int) (M : bM) (i : Nat) : Prop := M 11 5 = t_q c (t_at c i) ∧ M 11 6 = t_at c (i + 1) ∧ M 11 3 = z_so (t_k c (t_at c i)) (t_v c (t_at c i)) ∧ (t_k c (t_at c i) = 1 → M 11 10 = t_v c (t_at c i) ∧ Ky (t_v c (t_at c i)) (M 11 4)) ∧ (t_k c (t_at c i) ≠ 1 → M 11 4 = -1) ∧ (t_k c (t_at c i) = 2 → M 11 7 = t_v c (t_at c i))
def W_sc : bW := [(11, some 3), (11, some 4), (11, some 5), (11, some 6), (11, some 7), (11, some 10)]
theorem rb_k {M N : bM} (f : b_fr W_sc M N) : rb N = rb M := by
  unfold rb
  rw [f 11 2 (by decide), show N 162 = M 162 from funext fun i => f 162 i (by simp [b_ins, W_sc])]
theorem t_scan {M : bM} {c : Int → Int} {n : Int} {i : Nat} (hB : z_B c n) (hc : rb M = c) (h2 : M 11 2 ≤ 1000) (h6 : M 11 6 = t_at c i) : b_wp (F_X12_scan M) (fun N => b_fr W_sc M N ∧ Rs c N i) := by
  have b := hB.1
  have ta := t_at_r hB i
  have q0 := t_q_p hB ta.1
  have ql := t_q_le hB ta.1 ta.2
  have te := t_e_p hB ta.1 ta.2
  unfold F_X12_scan
  rw [h6]
  have q1 := t_at_r hB (i + 1)
  have eat : t_at c (i + 1) = t_e c (t_at c i) := rfl
  unfold Rs
  rw [eat]
  generalize hp : t_at c i = p at *
  refine b_Wb (b_wp_m (fun q z => ?_) (b_loop_ind (P := fun q : Int => q = t_q c p) (I := fun q : Int => p ≤ q ∧ q ≤ n ∧ ∀ j, p ≤ j → j < q → z_bl c j = true) (fun q => (n - q).toNat) ?_ p ⟨Int.le_refl _, by omega, fun j j1 j2 => by omega⟩))
  · subst z
    generalize hq : t_q c p = q at *
    unfold F_X12_scan_b31
    refine b_Wl ?_
    generalize hU : b_up M 11 5 q = U
    have fU : b_fr W_sc M U := by subst hU; exact b_frF b_fr_refl (by decide)
    have u5 : U 11 5 = q := by subst hU; exact b_ups
    clear hU
    have see : ∀ N : bM, b_fr W_sc M N → ∀ j, 0 ≤ j → F_X12_see j N = some (c j) := fun N f j hj => by
      rw [e_see (by rw [f 11 2 (by decide)]; exact h2) hj, rb_k f, hc]
    refine b_We (see U fU q (by omega)) (b_Wg (by omega) (b_Wl ?_))
    generalize hV : b_up U 11 4 (-1) = V
    have fV : b_fr W_sc M V := by subst hV; exact b_frF fU (by decide)
    have v5 : V 11 5 = q := by subst hV; rw [b_upi (by decide)]; exact u5
    have v4 : V 11 4 = -1 := by subst hV; exact b_ups
    clear hV
    -- how it ends
    have fin : ∀ (N : bM) (s e : Int), b_fr W_sc M N → N 11 5 = q → N 11 3 = s → e = t_e c p → s = z_so (t_k c p) (t_v c p) → (t_k c p = 1 → N 11 10 = t_v c p ∧ Ky (t_v c p) (N 11 4)) → (t_k c p ≠ 1 → N 11 4 = -1) → (t_k c p = 2 → N 11 7 = t_v c p) → b_wp (F_X12_scan_b313 e N) (fun N => b_fr W_sc M N ∧ N 11 5 = q ∧ N 11 6 = t_e c p ∧ N 11 3 = z_so (t_k c p) (t_v c p) ∧ (t_k c p = 1 → N 11 10 = t_v c p ∧ Ky (t_v c p) (N 11 4)) ∧ (t_k c p ≠ 1 → N 11 4 = -1) ∧ (t_k c p = 2 → N 11 7 = t_v c p)) := by
      intro N s e f n5 n3 ee es k1 k2 k3
      unfold F_X12_scan_b313
      refine b_Wl (b_Ws ⟨b_frF f (by decide), ?_, ?_, ?_, fun z => ?_, fun z => ?_, fun z => ?_⟩)
      · rw [b_upi (by decide)]; exact n5
      · rw [b_ups]; exact ee
      · rw [b_upi (by decide), n3]; exact es
      · rw [b_upi (by decide), b_upi (by decide)]; exact k1 z
      · rw [b_upi (by decide)]; exact k2 z
      · rw [b_upi (by decide)]; exact k3 z
    have fin2 : ∀ (s : Int), s = z_so (t_k c p) (t_v c p) → t_k c p ≠ 1 → t_k c p ≠ 2 → q + 1 = t_e c p → b_wp (F_X12_scan_b310 (q + 1) s V) (fun N => b_fr W_sc M N ∧ N 11 5 = q ∧ N 11 6 = t_e c p ∧ N 11 3 = z_so (t_k c p) (t_v c p) ∧ (t_k c p = 1 → N 11 10 = t_v c p ∧ Ky (t_v c p) (N 11 4)) ∧ (t_k c p ≠ 1 → N 11 4 = -1) ∧ (t_k c p = 2 → N 11 7 = t_v c p)) := by
      intro s hs k1 k2 ee
      unfold F_X12_scan_b310
      refine b_Wl (fin _ s _ (b_frF fV (by decide)) (by rw [b_upi (by decide)]; exact v5) b_ups ee hs (fun z => absurd z k1) (fun _ => by rw [b_upi (by decide)]; exact v4) (fun z => absurd z k2))
    refine b_Wi (fun a => ?_) (fun a => ?_)
    · have ek : t_k c p = 0 := by unfold t_k; rw [hq, if_pos a]
      have ee : t_e c p = q := by unfold t_e; rw [hq, if_pos a]
      refine b_Wl (fin _ 8 _ (b_frF fV (by decide)) (by rw [b_upi (by decide)]; exact v5) b_ups ee.symm (by rw [ek]; rfl) (fun z => by omega) (fun _ => by rw [b_upi (by decide)]; exact v4) (fun z => by omega))
    have te2 := te.2 a
    refine b_We e_X12_isSmall (b_Wi (fun a1 => b_We e_X12_isDigit (b_Wi (fun a2 => ?_) (fun a2 => ?_))) (fun a1 => ?_))
    · rw [b_01_0] at a1 a2
      have ee : t_e c p = q + 1 := by unfold t_e; rw [hq, if_neg a, if_neg a1, if_neg a2]
      have ev : t_v c p = c q := by unfold t_v; rw [hq, if_neg a, if_neg a1, if_neg a2]
      have ek : t_k c p = if z_sg (c q) then 3 else 4 := by unfold t_k; rw [hq, if_neg a, if_neg a1, if_neg a2]
      have yes : z_sg (c q) → t_k c p = 3 := fun z => by rw [ek, if_pos z]
      have so3 : ∀ v, z_so 3 v = if v = 59 then 3 else if v = 61 then 4 else if v = 40 then 5 else if v = 41 then 6 else 7 := fun v => rfl
      refine b_Wi (fun z => ?_) (fun z1 => b_Wi (fun z => ?_) (fun z2 => b_Wi (fun z => ?_) (fun z3 => b_Wi (fun z => ?_) (fun z4 => b_Wi (fun z => ?_) (fun z5 => ?_)))))
      · have k3 := yes (Or.inl z)
        exact fin2 3 (by rw [k3, ev, so3, if_pos z]) (by omega) (by omega) ee.symm
      · have k3 := yes (Or.inr (Or.inl z))
        exact fin2 4 (by rw [k3, ev, so3, if_neg z1, if_pos z]) (by omega) (by omega) ee.symm
      · have k3 := yes (Or.inr (Or.inr (Or.inl z)))
        exact fin2 5 (by rw [k3, ev, so3, if_neg z1, if_neg z2, if_pos z]) (by omega) (by omega) ee.symm
      · have k3 := yes (Or.inr (Or.inr (Or.inr (Or.inl z))))
        exact fin2 6 (by rw [k3, ev, so3, if_neg z1, if_neg z2, if_neg z3, if_pos z]) (by omega) (by omega) ee.symm
      · have k3 := yes (Or.inr (Or.inr (Or.inr (Or.inr z))))
        exact fin2 7 (by rw [k3, ev, so3, if_neg z1, if_neg z2, if_neg z3, if_neg z4]) (by omega) (by omega) ee.symm
      · have k4 : t_k c p = 4 := by rw [ek, if_neg (fun z => by rcases z with z | z | z | z | z <;> omega)]
        exact fin2 0 (by rw [k4]; rfl) (by omega) (by omega) ee.symm
    · rw [b_01_0] at a1 a2
      have a3 := Decidable.of_not_not a2
      have ee : t_e c p = z_run (z_dg c) 1001 q := by unfold t_e; rw [hq, if_neg a, if_neg a1, if_pos a3]
      have ev : t_v c p = z_nb c q (t_e c p - q).toNat := by unfold t_v; rw [hq, if_neg a, if_neg a1, if_pos a3]
      have ek : t_k c p = if t_e c p - q ≤ 4 then 2 else 4 := by unfold t_k; rw [hq, if_neg a, if_neg a1, if_pos a3]
      refine b_Wg (by omega) (b_Wl ?_)
      refine b_Wb (b_wp_m (fun o z => ?_) (b_loop_ind (P := fun o : Int × bM => b_fr W_sc M o.2 ∧ o.2 11 5 = q ∧ o.2 11 4 = -1 ∧ o.1 = z_run (z_dg c) 1001 q ∧ (o.1 - q ≤ 4 → o.2 11 7 = z_nb c q (o.1 - q).toNat)) (I := fun t : Int × bM => (q + 1 ≤ t.1 ∧ t.1 ≤ n) ∧ b_fr W_sc M t.2 ∧ t.2 11 5 = q ∧ t.2 11 4 = -1 ∧ (∀ j, q ≤ j → j < t.1 → z_dg c j = true) ∧ (0 ≤ t.2 11 7 ∧ t.2 11 7 ≤ 9999) ∧ (t.1 - q ≤ 4 → t.2 11 7 = z_nb c q (t.1 - q).toNat)) (fun t => (n - t.1).toNat) ?_ (q + 1, b_up V 11 7 (c q - 48)) ?_))
      · obtain ⟨e, N⟩ := o
        obtain ⟨z1, z2, z3, z4, z5⟩ := z
        dsimp only at z1 z2 z3 z4 z5 ⊢
        rw [← ee] at z4
        subst z4
        unfold F_X12_scan_b237 F_X12_scan_b250
        refine b_Wg (by omega) (b_Wi (fun y => ?_) (fun y => ?_))
        · have k2 : t_k c p = 2 := by rw [ek, if_pos y]
          exact b_Wl (fin _ 2 _ (b_frF z1 (by decide)) (by rw [b_upi (by decide)]; exact z2) b_ups rfl (by rw [k2]; rfl) (fun z => by omega) (fun _ => by rw [b_upi (by decide)]; exact z3) (fun _ => by rw [b_upi (by decide), ev]; exact z5 y))
        · have k4 : t_k c p = 4 := by rw [ek, if_neg y]
          exact b_Wl (fin _ 0 _ (b_frF z1 (by decide)) (by rw [b_upi (by decide)]; exact z2) b_ups rfl (by rw [k4]; rfl) (fun z => by omega) (fun _ => by rw [b_upi (by decide)]; exact z3) (fun z => by omega))
      · intro ⟨e, N⟩ ⟨g1, g2, g3, g4, g5, g6, g7⟩
        dsimp only at g1 g2 g3 g4 g5 g6 g7 ⊢
        unfold F_X12_scan_s186 F_X12_scan_b228
        refine b_We (see N g2 e (by omega)) (b_We e_X12_isDigit (b_Wi (fun y => b_Ws ⟨g2, g3, g4, ?_, g7⟩) (fun y => ?_)))
        · rw [b_01_0] at y
          exact z_run_u ⟨by omega, g5, decide_eq_false y⟩ (z_run_p (z_dg_n hB) 1001 q (by omega))
        · rw [b_01_0] at y
          have y1 := Decidable.of_not_not y
          have lt := z_lt (z_dg_n hB) (p := e) (decide_eq_true y1)
          have g5' : ∀ j, q ≤ j → j < e + 1 → z_dg c j = true := fun j j1 j2 => by
            by_cases ej : j = e
            · rw [ej]; exact decide_eq_true y1
            · exact g5 j j1 (by omega)
          refine b_Wg (by omega) (b_Wi (fun y2 => b_Wl (b_Wg (by omega) (b_Ws ⟨⟨by dsimp only; omega, b_frF g2 (by decide), by dsimp only; rw [b_upi (by decide)]; exact g3, by dsimp only; rw [b_upi (by decide)]; exact g4, g5', by dsimp only; rw [b_ups]; exact g6, fun z => by dsimp only at z; omega⟩, by dsimp only; omega⟩))) (fun y2 => ?_))
          have g8 := g7 (by omega)
          have r := z_nb_r (c := c) (p := q) (e - q).toNat (fun j hj => by
            have := g5 (q + j) (by omega) (by omega)
            exact of_decide_eq_true this)
          have p3 : (10 : Int) ^ (e - q).toNat ≤ 1000 := by
            have : (e - q).toNat < 4 := by omega
            revert this
            generalize (e - q).toNat = m
            intro hm
            exact (show ∀ m : Nat, m < 4 → (10 : Int) ^ m ≤ 1000 by decide +kernel) m hm
          refine b_Wg (by omega) (b_We (see N g2 e (by omega)) (b_Wg (by omega) (b_Wl (b_Wg (by omega) (b_Ws ⟨⟨by dsimp only; omega, b_frF g2 (by decide), by dsimp only; rw [b_upi (by decide)]; exact g3, by dsimp only; rw [b_upi (by decide)]; exact g4, g5', by dsimp only; rw [b_ups]; omega, fun z => ?_⟩, by dsimp only; omega⟩)))))
          dsimp only
          rw [b_ups, show (e + 1 - q).toNat = (e - q).toNat + 1 by omega]
          show _ = 10 * z_nb c q (e - q).toNat + (c (q + (((e - q).toNat : Nat) : Int)) - 48)
          rw [show q + (((e - q).toNat : Nat) : Int) = e by omega, g8]
          omega
      · refine ⟨by dsimp only; omega, b_frF fV (by decide), by dsimp only; rw [b_upi (by decide)]; exact v5, by dsimp only; rw [b_upi (by decide)]; exact v4, fun j j1 j2 => ?_, by dsimp only; rw [b_ups]; omega, fun _ => ?_⟩
        · dsimp only at j2
          rw [show j = q by omega]; exact decide_eq_true a3
        · dsimp only
          rw [b_ups, show (q + 1 - q).toNat = 0 + 1 by omega]
          show _ = 10 * 0 + (c (q + ((0 : Nat) : Int)) - 48)
          rw [show q + ((0 : Nat) : Int) = q by omega]
          omega
    · rw [b_01_0] at a1
      have a3 := Decidable.of_not_not a1
      have ee : t_e c p = z_run (z_sm c) 1001 q := by unfold t_e; rw [hq, if_neg a, if_pos a3]
      have ev : t_v c p = z_wd c q (t_e c p - q).toNat := by unfold t_v; rw [hq, if_neg a, if_pos a3]
      have ek : t_k c p = if t_e c p - q ≤ 12 then 1 else 4 := by unfold t_k; rw [hq, if_neg a, if_pos a3]
      refine b_Wl ?_
      refine b_Wb (b_wp_m (fun o z => ?_) (b_loop_ind (P := fun o : Int × bM => b_fr W_sc M o.2 ∧ o.2 11 5 = q ∧ o.2 11 4 = -1 ∧ o.1 = z_run (z_sm c) 1001 q ∧ (∀ j, q ≤ j → j < o.1 → z_sm c j = true) ∧ (o.1 - q ≤ 12 → o.2 11 10 = z_wd c q (o.1 - q).toNat)) (I := fun t : Int × bM => (q ≤ t.1 ∧ t.1 ≤ n) ∧ b_fr W_sc M t.2 ∧ t.2 11 5 = q ∧ t.2 11 4 = -1 ∧ (∀ j, q ≤ j → j < t.1 → z_sm c j = true) ∧ (t.1 - q ≤ 12 → t.2 11 10 = z_wd c q (t.1 - q).toNat)) (fun t => (n - t.1).toNat) ?_ (q, b_up V 11 10 0) ?_))
      · obtain ⟨e, N⟩ := o
        obtain ⟨z1, z2, z3, z4, z5, z6⟩ := z
        dsimp only at z1 z2 z3 z4 z5 z6 ⊢
        rw [← ee] at z4
        subst z4
        unfold F_X12_scan_b131 F_X12_scan_b145
        refine b_Wg (by omega) (b_Wi (fun y => ?_) (fun y => ?_))
        · have k1 : t_k c p = 1 := by rw [ek, if_pos y]
          refine b_Wl ?_
          generalize hO : b_up N 11 3 1 = O
          have fO : b_fr W_sc M O := by subst hO; exact b_frF z1 (by decide)
          have o3 : O 11 3 = 1 := by subst hO; exact b_ups
          have o5 : O 11 5 = q := by subst hO; rw [b_upi (by decide)]; exact z2
          have o10 : O 11 10 = t_v c p := by subst hO; rw [b_upi (by decide), ev]; exact z6 y
          clear hO
          have ky := t_keyAt (M := O) (p := q) (len := (t_e c p - q).toNat) hB ((rb_k fO).trans hc) (by rw [fO 11 2 (by decide)]; exact h2) (by omega) (fun j hj => by
            have := z5 (q + j) (by omega) (by omega)
            exact of_decide_eq_true this)
          rw [← ev, show (((t_e c p - q).toNat : Nat) : Int) = t_e c p - q by omega] at ky
          refine b_Wt o3 (b_Wg (by omega) (b_Wb (b_wp_m (fun o x => ?_) ky)))
          obtain ⟨kk, R⟩ := o
          obtain ⟨x1, x2⟩ := x
          dsimp only at x1 x2
          subst x1
          exact b_Wtwo (b_Wl (fin _ 1 _ (b_frF fO (by decide)) (by rw [b_upi (by decide)]; exact o5) (by rw [b_upi (by decide)]; exact o3) rfl (by rw [k1]; rfl) (fun _ => ⟨by rw [b_upi (by decide)]; exact o10, by rw [b_ups]; exact x2⟩) (fun z => absurd k1 z) (fun z => by omega)))
        · have k4 : t_k c p = 4 := by rw [ek, if_neg y]
          refine b_Wl ?_
          rw [b_ups]
          exact b_Wf (by decide) (fin _ 0 _ (b_frF z1 (by decide)) (by rw [b_upi (by decide)]; exact z2) b_ups rfl (by rw [k4]; rfl) (fun z => by omega) (fun _ => by rw [b_upi (by decide)]; exact z3) (fun z => by omega))
      · intro ⟨e, N⟩ ⟨g1, g2, g3, g4, g5, g6⟩
        dsimp only at g1 g2 g3 g4 g5 g6 ⊢
        unfold F_X12_scan_s81
        refine b_We (see N g2 e (by omega)) (b_We e_X12_isSmall (b_Wi (fun y => b_Ws ⟨g2, g3, g4, ?_, g5, g6⟩) (fun y => ?_)))
        · rw [b_01_0] at y
          exact z_run_u ⟨by omega, g5, decide_eq_false y⟩ (z_run_p (z_sm_n hB) 1001 q (by omega))
        · rw [b_01_0] at y
          have y1 := Decidable.of_not_not y
          have lt := z_lt (z_sm_n hB) (p := e) (decide_eq_true y1)
          have g5' : ∀ j, q ≤ j → j < e + 1 → z_sm c j = true := fun j j1 j2 => by
            by_cases ej : j = e
            · rw [ej]; exact decide_eq_true y1
            · exact g5 j j1 (by omega)
          refine b_Wg (by omega) (b_Wi (fun y2 => b_Wg (by omega) (b_Ws ⟨⟨by dsimp only; omega, g2, g3, g4, g5', fun z => by dsimp only at z; omega⟩, by dsimp only; omega⟩)) (fun y2 => ?_))
          have g8 := g6 (by omega)
          have r := z_wd_r (c := c) (p := q) (e - q).toNat (fun j hj => by
            have := g5 (q + j) (by omega) (by omega)
            exact of_decide_eq_true this)
          have p3 := z_pw12 (e - q).toNat (by omega)
          rw [g8]
          refine b_Wg (by omega) (b_We (see N g2 e (by omega)) (b_Wg (by omega) (b_Wl (b_Wg (by omega) (b_Ws ⟨⟨by dsimp only; omega, b_frF g2 (by decide), by dsimp only; rw [b_upi (by decide)]; exact g3, by dsimp only; rw [b_upi (by decide)]; exact g4, g5', fun z => ?_⟩, by dsimp only; omega⟩)))))
          dsimp only
          rw [b_ups, show (e + 1 - q).toNat = (e - q).toNat + 1 by omega]
          show _ = 32 * z_wd c q (e - q).toNat + (c (q + (((e - q).toNat : Nat) : Int)) - 96)
          rw [show q + (((e - q).toNat : Nat) : Int) = e by omega]
          omega
      · refine ⟨by dsimp only; omega, b_frF fV (by decide), by dsimp only; rw [b_upi (by decide)]; exact v5, by dsimp only; rw [b_upi (by decide)]; exact v4, fun j j1 j2 => ?_, fun _ => ?_⟩
        · dsimp only at j2; omega
        · dsimp only
          rw [b_ups, show (q - q).toNat = 0 by omega]
          rfl
  · intro q ⟨g1, g2, g3⟩
    unfold F_X12_scan_s5
    have ee := e_see (M := M) (p := q) h2 (by omega)
    rw [hc] at ee
    have nx : z_bl c q = true → ((p ≤ q + 1 ∧ q + 1 ≤ n ∧ ∀ j, p ≤ j → j < q + 1 → z_bl c j = true) ∧ (n - (q + 1)).toNat < (n - q).toNat) := fun z => by
      have lt := z_lt (z_bl_n hB) z
      refine ⟨⟨by omega, by omega, fun j j1 j2 => ?_⟩, by omega⟩
      by_cases ej : j = q
      · rw [ej]; exact z
      · exact g3 j j1 (by omega)
    refine b_We ee (b_Wi (fun y => b_Wg (by omega) (b_Ws (nx (decide_eq_true (Or.inl y))))) (fun y => b_We ee (b_Wi (fun y1 => b_Wg (by omega) (b_Ws (nx (decide_eq_true (Or.inr y1))))) (fun y1 => b_Ws ?_))))
    exact z_run_u ⟨g1, g3, decide_eq_false (fun z => by rcases z with z | z; exact y z; exact y1 z)⟩ q0
