/-- with what the places of s add, the CHAIN found is SURE -/
def Sm (M : bM) (d s : Int) (F : Int → Int) : Prop := F 0 ≤ x_rule M d 3 ∧ (∀ i, 0 ≤ i → i < F 2 → x_rule M d 1 ≤ M 126 (10 * F (4 + i) + 8) + (if 0 < M 126 (10 * F (4 + i) + 8) then x_gn M s (F (4 + i)) (M 10 0).toNat else 0)) ∧ (F 2 = 0 → x_rule M d 1 ≤ 999)
/-- LOT l is settled -/
def Sd (M : bM) (d l s : Int) : Prop := ∃ a F, Sr M d l (M 147 (M 236 l)) a F ∧ a ≠ -1 ∧ Sm M d s F
theorem Sd_i {M : bM} {d l s a : Int} {F : Int → Int} (hl : M 11 20 = M 3 0) (h : Sr M d l (M 147 (M 236 l)) a F) : Sd M d l s ↔ a ≠ -1 ∧ Sm M d s F := by
  refine ⟨fun z => ?_, fun z => ⟨a, F, h, z⟩⟩
  obtain ⟨a', F', s', n', m'⟩ := z
  obtain ⟨e, u⟩ := Sr_u hl s' h
  subst e
  obtain ⟨_, _, u0, _, u2, _, u8, _, ui⟩ := u n'
  refine ⟨n', by rw [u0]; exact m'.1, fun i i0 i1 => ?_, fun z => m'.2.2 (by omega)⟩
  rw [u2] at i1
  rw [ui i i0 i1]
  exact m'.2.1 i i0 i1
theorem Sr_lk {M : bM} {d l p a : Int} {F : Int → Int} (h : Sr M d l p a F) (ha : a ≠ -1) : (0 ≤ F 2 ∧ F 2 ≤ 8) ∧ (F 2 = 0 → F 1 = 999) ∧ ∀ i, 0 ≤ i → i < F 2 → 0 ≤ F (4 + i) ∧ F (4 + i) < M 6 0 := by
  obtain ⟨r, w, b1, b2, b3⟩ := h
  rcases b3 with ⟨m1, m2, m3, m4, t, m5, m6, _, ⟨D, m10⟩⟩ | ⟨m1, m2, m3, m4, m5, m6, m7⟩ | ⟨m1, m2, m3, m4⟩ | ⟨m1, m2, m3, be, r1, b, m4, m5, m6, m7, m8, m9⟩
  · have t8 := m5.1
    refine ⟨by omega, fun z => by omega, fun i i0 i1 => ?_⟩
    have key : ∀ k : Nat, k ≤ t → 0 ≤ F (4 + (k : Int)) ∧ F (4 + (k : Int)) < M 6 0 := by
      intro k hk
      cases k with
      | zero => exact (g_P_lk m10.1.1.2).1.1
      | succ k => exact (g_P_lk (m10.2 k (by omega)).1.2.2.2).1.1
    have := key i.toNat (by omega)
    rw [show ((i.toNat : Nat) : Int) = i by omega] at this
    exact this
  · exact ⟨by omega, fun _ => m5, fun i i0 i1 => by omega⟩
  · exact absurd m3 ha
  · refine ⟨by omega, fun z => by omega, fun i i0 i1 => ?_⟩
    rw [show (4 : Int) + i = 4 by omega, m9]
    exact m4.1.2.1.1
noncomputable def c_01 (P : Prop) : Int := @ite Int P (Classical.propDecidable P) 1 0
theorem c_01_t {P : Prop} (h : P) : c_01 P = 1 := @if_pos P (Classical.propDecidable P) h Int 1 0
theorem c_01_f {P : Prop} (h : ¬ P) : c_01 P = 0 := @if_neg P (Classical.propDecidable P) h Int 1 0
theorem c_01_r {P : Prop} : 0 ≤ c_01 P ∧ c_01 P ≤ 1 := by
  rcases Classical.em P with h | h
  · rw [c_01_t h]; decide
  · rw [c_01_f h]; decide
/-- how many LOTS below k are in doubt and settled by s -/
noncomputable def x_tl (M : bM) (d s : Int) : Nat → Int
  | 0 => 0
  | l + 1 => x_tl M d s l + c_01 (x_dbt M l ∧ Sd M d l s)
theorem x_tl_s {M : bM} {d s l : Int} (hl : 0 ≤ l) (h : x_dbt M l ∧ Sd M d l s) : x_tl M d s (l + 1).toNat = x_tl M d s l.toNat + 1 := by
  rw [show (l + 1).toNat = l.toNat + 1 by omega]
  have e : ((l.toNat : Nat) : Int) = l := by omega
  show x_tl M d s l.toNat + c_01 (x_dbt M ((l.toNat : Nat) : Int) ∧ Sd M d ((l.toNat : Nat) : Int) s) = _
  rw [e, c_01_t h]
theorem x_tl_n {M : bM} {d s l : Int} (hl : 0 ≤ l) (h : ¬ (x_dbt M l ∧ Sd M d l s)) : x_tl M d s (l + 1).toNat = x_tl M d s l.toNat := by
  rw [show (l + 1).toNat = l.toNat + 1 by omega]
  have e : ((l.toNat : Nat) : Int) = l := by omega
  show x_tl M d s l.toNat + c_01 (x_dbt M ((l.toNat : Nat) : Int) ∧ Sd M d ((l.toNat : Nat) : Int) s) = _
  rw [e, c_01_f h]
  omega
theorem x_tl_r {M : bM} {d s : Int} : ∀ k : Nat, 0 ≤ x_tl M d s k ∧ x_tl M d s k ≤ k := by
  intro k
  induction k with
  | zero => exact ⟨Int.le_refl _, Int.le_refl _⟩
  | succ k ih =>
    have c := c_01_r (P := x_dbt M k ∧ Sd M d k s)
    show 0 ≤ x_tl M d s k + c_01 (x_dbt M k ∧ Sd M d k s) ∧ x_tl M d s k + c_01 (x_dbt M k ∧ Sd M d k s) ≤ _
    omega
theorem x_tl_t {M : bM} {d s : Int} (n : Int) (hn : 0 ≤ n) (h : ∀ l, n ≤ l → l < 60 → ¬ x_dbt M l) : ∀ k : Nat, n ≤ k → (k : Int) ≤ 60 → x_tl M d s k = x_tl M d s n.toNat := by
  intro k
  induction k with
  | zero =>
    intro h1 _
    rw [show n.toNat = 0 by omega]
  | succ k ih =>
    intro h1 h2
    by_cases q : n = (k : Int) + 1
    · rw [show n.toNat = k + 1 by omega]
    · show x_tl M d s k + c_01 (x_dbt M k ∧ Sd M d k s) = _
      rw [c_01_f (fun z => h k (by omega) (by omega) z.1), ih (by omega) (by omega)]
      omega
/-- a case that the class keeps is met by the gains g -/
def cs_ok (Q : bM) (g : Int → Int) (i : Int) : Prop := ∀ j, 0 ≤ j → j < Q 159 i → Q 161 (8 * i + j) ≤ g (Q 160 (8 * i + j))
noncomputable def cn (Q : bM) (g : Int → Int) : Nat → Int
  | 0 => 0
  | i + 1 => cn Q g i + c_01 (cs_ok Q g i)
theorem cn_c {P Q : bM} {g : Int → Int} : ∀ k : Nat, (∀ i, 0 ≤ i → i < (k : Int) → P 159 i = Q 159 i ∧ Q 159 i ≤ 8) → (∀ j, j < 8 * (k : Int) → P 160 j = Q 160 j ∧ P 161 j = Q 161 j) → cn P g k = cn Q g k := by
  intro k
  induction k with
  | zero => intro _ _; rfl
  | succ k ih =>
    intro h1 h2
    have e : cs_ok P g k ↔ cs_ok Q g k := by
      have a := h1 k (by omega) (by omega)
      unfold cs_ok
      rw [a.1]
      refine ⟨fun z j j0 j1 => ?_, fun z j j0 j1 => ?_⟩
      · have b := h2 (8 * (k : Int) + j) (by omega)
        rw [← b.1, ← b.2]
        exact z j j0 j1
      · have b := h2 (8 * (k : Int) + j) (by omega)
        rw [b.1, b.2]
        exact z j j0 j1
    have i1 := ih (fun i i0 i1 => h1 i i0 (by omega)) (fun j j1 => h2 j (by omega))
    show cn P g k + c_01 (cs_ok P g k) = cn Q g k + c_01 (cs_ok Q g k)
    rw [i1, propext e]
theorem cn_s {Q : bM} {g : Int → Int} {k : Int} (hk : 0 ≤ k) (h : cs_ok Q g k) : cn Q g (k + 1).toNat = cn Q g k.toNat + 1 := by
  rw [show (k + 1).toNat = k.toNat + 1 by omega]
  have e : ((k.toNat : Nat) : Int) = k := by omega
  show cn Q g k.toNat + c_01 (cs_ok Q g ((k.toNat : Nat) : Int)) = _
  rw [e, c_01_t h]
theorem cn_n {Q : bM} {g : Int → Int} {k : Int} (hk : 0 ≤ k) (h : ¬ cs_ok Q g k) : cn Q g (k + 1).toNat = cn Q g k.toNat := by
  rw [show (k + 1).toNat = k.toNat + 1 by omega]
  have e : ((k.toNat : Nat) : Int) = k := by omega
  show cn Q g k.toNat + c_01 (cs_ok Q g ((k.toNat : Nat) : Int)) = _
  rw [e, c_01_f h]
  omega
/-- the class counts the cases met -/
theorem t_settled {Q : bM} (h9 : 0 ≤ Q 10 9 ∧ Q 10 9 ≤ 30) (h159 : ∀ i, 0 ≤ i → i < Q 10 9 → (0 ≤ Q 159 i ∧ Q 159 i ≤ 8) ∧ ∀ j, 0 ≤ j → j < Q 159 i → 0 ≤ Q 160 (8 * i + j) ∧ Q 160 (8 * i + j) < 30) : b_wp (F_X9_settled Q) (fun x => x = cn Q (Q 158) (Q 10 9).toNat) := by
  unfold F_X9_settled
  refine b_Wb (b_wp_m (fun o z => ?_) (b_loop_ind (P := fun x => x = cn Q (Q 158) (Q 10 9).toNat) (I := fun t : Int × Int => (0 ≤ t.2 ∧ t.2 ≤ Q 10 9) ∧ (0 ≤ t.1 ∧ t.1 ≤ t.2) ∧ t.1 = cn Q (Q 158) t.2.toNat) (fun t => (Q 10 9 - t.2).toNat) ?_ (0, 0) ⟨by dsimp only; omega, by dsimp only; omega, rfl⟩))
  · unfold F_X9_settled_b93
    exact b_Ws z
  intro ⟨v, i⟩ ⟨h1, h2, h3⟩
  dsimp only at h1 h2 h3 ⊢
  unfold F_X9_settled_s4
  refine b_Wi (fun q => b_Ws ?_) (fun q => ?_)
  · have e : i = Q 10 9 := by omega
    rw [← e]; exact h3
  obtain ⟨c1, c2⟩ := h159 i h1.1 (by omega)
  refine b_Wb (b_wp_m (fun x z => ?_) (b_loop_ind (P := fun x : Int => (x = 0 ∧ ¬ cs_ok Q (Q 158) i) ∨ (x = 1 ∧ cs_ok Q (Q 158) i)) (I := fun t : Int × Int => (0 ≤ t.2 ∧ t.2 ≤ Q 159 i) ∧ ((t.1 = 0 ∧ ¬ cs_ok Q (Q 158) i) ∨ (t.1 = 1 ∧ ∀ j, 0 ≤ j → j < t.2 → Q 161 (8 * i + j) ≤ Q 158 (Q 160 (8 * i + j))))) (fun t => (Q 159 i - t.2).toNat) ?_ (1, 0) ⟨by dsimp only; omega, Or.inr ⟨rfl, fun j j0 j1 => by dsimp only at j1; omega⟩⟩))
  · unfold F_X9_settled_b75 F_X9_settled_b85
    rcases z with ⟨z1, z2⟩ | ⟨z1, z2⟩
    · have e := cn_n h1.1 z2
      refine b_Wt z1 (b_Wg (by omega) (b_Ws ⟨⟨by dsimp only; omega, by dsimp only; omega, ?_⟩, by dsimp only; omega⟩))
      dsimp only
      rw [e]; omega
    · have e := cn_s h1.1 z2
      refine b_Wf (by omega) (b_Wg (by omega) (b_Ws ⟨⟨by dsimp only; omega, by dsimp only; omega, ?_⟩, by dsimp only; omega⟩))
      dsimp only
      rw [e]; omega
  · intro ⟨u, j⟩ ⟨k1, k2⟩
    dsimp only at k1 k2 ⊢
    unfold F_X9_settled_s17
    refine b_Wg (by omega) (b_Wi (fun a => b_Ws ?_) (fun a => b_Wi (fun b => b_Ws ?_) (fun b => ?_)))
    · rcases k2 with k2 | k2
      · exact Or.inl k2
      · exact Or.inr ⟨k2.1, fun j' j0 j1 => k2.2 j' j0 (by omega)⟩
    · rcases k2 with k2 | k2
      · exact Or.inl k2
      · exact absurd k2.1 (by omega)
    · have k3 := (k2.resolve_left (fun z => b z.1)).2
      have c3 := c2 j k1.1 (by omega)
      clear k2
      rw [show i * 8 + j = 8 * i + j by omega]
      refine b_Wg (by omega) (b_Wl (b_Wg (by omega) (b_Wi (fun c => b_Wg (by omega) (b_Ws ⟨⟨by dsimp only; omega, Or.inl ⟨rfl, fun z => ?_⟩⟩, by dsimp only; omega⟩)) (fun c => b_Wg (by omega) (b_Ws ⟨⟨by dsimp only; omega, Or.inr ⟨rfl, fun j' j0 j1 => ?_⟩⟩, by dsimp only; omega⟩)))))
      · have := z j k1.1 (by omega)
        omega
      · dsimp only at j1
        by_cases e : j' = j
        · rw [e]; omega
        · exact k3 j' j0 (by omega)
