/-! words of ACTS -/
def S_wd : bW := [(104, none), (105, none), (106, none)]
def R_wd (M : bM) : Prop := (∀ j : Nat, j < 10 → M 104 j = kW (j + 1)) ∧ M 104 10 = kW 0 ∧ (∀ j : Nat, j < 7 → M 105 j = kW (j + 11)) ∧ ∀ j : Nat, j < 7 → M 106 j = kW (j + 18)
theorem R_wd_k {M N : bM} (h : ∀ c i, b_ins S_wd c i = true → N c i = M c i) (hR : R_wd M) : R_wd N := by
  unfold R_wd at hR ⊢
  rw [show N 104 = M 104 from funext fun i => h 104 i rfl, show N 105 = M 105 from funext fun i => h 105 i rfl, show N 106 = M 106 from funext fun i => h 106 i rfl]
  exact hR
/-- which of the words from a on, b of them, TOKEN i is: its place, or -1 -/
def Pw (c : Int → Int) (i a b : Nat) (x : Int) : Prop := (x = -1 ∧ ∀ j : Nat, j < b → ¬ (kT c i = 1 ∧ vT c i = kW (j + a))) ∨ ∃ j : Nat, j < b ∧ x = j ∧ kT c i = 1 ∧ vT c i = kW (j + a)
theorem t_place106 {C : bM} {c : Int → Int} {i : Nat} (hs : Cs c C i) (hw : R_wd C) : b_wp (F_X1_placeOf_106 C) (fun x => Pw c i 18 7 x) := by
  obtain ⟨s7, s2, s3, s4⟩ := hs
  unfold F_X1_placeOf_106
  refine b_Wb (b_wp_m (fun o z => ?_) (b_loop_ind (P := Sum.elim (fun _ : Unit => ∀ j : Nat, j < 7 → ¬ (kT c i = 1 ∧ vT c i = kW (j + 18))) (fun x : Int => Pw c i 18 7 x)) (I := fun v : Int => (0 ≤ v ∧ v ≤ 7) ∧ ∀ j : Nat, (j : Int) < v → ¬ (kT c i = 1 ∧ vT c i = kW (j + 18))) (fun v => (7 - v).toNat) ?_ 0 ⟨by omega, fun j hj => by omega⟩))
  · rcases o with u | o
    · refine b_Winl ?_
      unfold F_X1_placeOf_106_b41
      exact b_Ws (Or.inl ⟨rfl, z⟩)
    · exact b_Ws z
  · intro v ⟨g1, g2⟩
    unfold F_X1_placeOf_106_s2
    have wv := hw.2.2.2 v.toNat
    rw [show ((v.toNat : Nat) : Int) = v by omega] at wv
    refine b_Wi (fun a => b_Ws (fun j hj => g2 j (by omega))) (fun a => b_Wi (fun b => b_Wg (by omega) (b_Wi (fun d => b_Ws ?_) (fun d => b_Wg (by omega) (b_Ws ⟨⟨by omega, fun j hj => ?_⟩, by omega⟩)))) (fun b => b_Wg (by omega) (b_Ws ⟨⟨by omega, fun j hj => ?_⟩, by omega⟩)))
    · have e := j_cmp_0.mp d
      have k1 : kT c i = 1 := by rw [← b]; exact s2.symm
      refine Or.inr ⟨v.toNat, by omega, by omega, k1, ?_⟩
      rw [← wv (by omega), ← e]
      exact (s4 (by rw [show t_k c (t_at c i) = 1 from k1]; decide)).symm
    · by_cases ej : j = v.toNat
      · intro q
        apply d
        rw [j_cmp_0, s4 (by rw [show t_k c (t_at c i) = 1 from q.1]; decide), wv (by omega), show t_v c (t_at c i) = kW (j + 18) from q.2, ej]
      · exact g2 j (by omega)
    · by_cases ej : j = v.toNat
      · intro q
        apply b
        rw [s2]
        exact q.1
      · exact g2 j (by omega)
theorem t_place105 {C : bM} {c : Int → Int} {i : Nat} (hs : Cs c C i) (hw : R_wd C) : b_wp (F_X1_placeOf_105 C) (fun x => Pw c i 11 7 x) := by
  obtain ⟨s7, s2, s3, s4⟩ := hs
  unfold F_X1_placeOf_105
  refine b_Wb (b_wp_m (fun o z => ?_) (b_loop_ind (P := Sum.elim (fun _ : Unit => ∀ j : Nat, j < 7 → ¬ (kT c i = 1 ∧ vT c i = kW (j + 11))) (fun x : Int => Pw c i 11 7 x)) (I := fun v : Int => (0 ≤ v ∧ v ≤ 7) ∧ ∀ j : Nat, (j : Int) < v → ¬ (kT c i = 1 ∧ vT c i = kW (j + 11))) (fun v => (7 - v).toNat) ?_ 0 ⟨by omega, fun j hj => by omega⟩))
  · rcases o with u | o
    · refine b_Winl ?_
      unfold F_X1_placeOf_105_b41
      exact b_Ws (Or.inl ⟨rfl, z⟩)
    · exact b_Ws z
  · intro v ⟨g1, g2⟩
    unfold F_X1_placeOf_105_s2
    have wv := hw.2.2.1 v.toNat
    rw [show ((v.toNat : Nat) : Int) = v by omega] at wv
    refine b_Wi (fun a => b_Ws (fun j hj => g2 j (by omega))) (fun a => b_Wi (fun b => b_Wg (by omega) (b_Wi (fun d => b_Ws ?_) (fun d => b_Wg (by omega) (b_Ws ⟨⟨by omega, fun j hj => ?_⟩, by omega⟩)))) (fun b => b_Wg (by omega) (b_Ws ⟨⟨by omega, fun j hj => ?_⟩, by omega⟩)))
    · have e := j_cmp_0.mp d
      have k1 : kT c i = 1 := by rw [← b]; exact s2.symm
      refine Or.inr ⟨v.toNat, by omega, by omega, k1, ?_⟩
      rw [← wv (by omega), ← e]
      exact (s4 (by rw [show t_k c (t_at c i) = 1 from k1]; decide)).symm
    · by_cases ej : j = v.toNat
      · intro q
        apply d
        rw [j_cmp_0, s4 (by rw [show t_k c (t_at c i) = 1 from q.1]; decide), wv (by omega), show t_v c (t_at c i) = kW (j + 11) from q.2, ej]
      · exact g2 j (by omega)
    · by_cases ej : j = v.toNat
      · intro q
        apply b
        rw [s2]
        exact q.1
      · exact g2 j (by omega)
/-- the reference's key of TOKEN i -/
def Kr (c : Int → Int) (i : Nat) (x : Int) : Prop := (kT c i = 1 ∧ Ky (vT c i) x) ∨ (kT c i ≠ 1 ∧ x = -1)
theorem Kr_of {c : Int → Int} {R : bM} {i : Nat} (h : Rt c R i) : Kr c i (R 11 4) := by
  obtain ⟨_, s5, s6, s3, s1, s4, s7⟩ := h
  by_cases k : kT c i = 1
  · exact Or.inl ⟨k, (s1 k).2⟩
  · exact Or.inr ⟨k, s4 k⟩
theorem Kr_r {c : Int → Int} {i : Nat} {x : Int} (h : Kr c i x) : -1 ≤ x ∧ x < 29 := by
  rcases h with ⟨_, h⟩ | h
  · rcases h with h | ⟨j, h1, h2, _⟩
    · omega
    · omega
  · omega
theorem Kr_i {c : Int → Int} {i j : Nat} {x : Int} (h : Kr c i x) (hj : j < 29) : x = j ↔ (kT c i = 1 ∧ vT c i = kW j) := by
  rcases h with ⟨k, h⟩ | ⟨k, h⟩
  · rcases h with ⟨h1, h2⟩ | ⟨m, h1, h2, h3⟩
    · exact ⟨fun z => by omega, fun z => absurd z.2.symm (h2 j hj)⟩
    · refine ⟨fun z => ⟨k, ?_⟩, fun z => ?_⟩
      · have e : m = j := by omega
        rw [← e]; exact h3.symm
      · have e := k_inj m h1 j hj (h3.trans z.2)
        omega
  · exact ⟨fun z => by omega, fun z => absurd z.1 k⟩
theorem Pw_Kr {c : Int → Int} {i a b : Nat} {x y : Int} (h : Pw c i a b x) (hk : Kr c i y) (hab : a + b ≤ 29) : (x = -1 ∧ ¬ ((a : Int) ≤ y ∧ y < a + b)) ∨ ((0 ≤ x ∧ x < b) ∧ y = x + a) := by
  rcases h with ⟨h1, h2⟩ | ⟨j, h1, h2, h3, h4⟩
  · refine Or.inl ⟨h1, fun z => ?_⟩
    obtain ⟨m, hm⟩ : ∃ m : Nat, y = m := ⟨y.toNat, by omega⟩
    have q := (Kr_i hk (j := m) (by omega)).mp hm
    refine h2 (m - a) (by omega) ⟨q.1, ?_⟩
    rw [show m - a + a = m by omega]
    exact q.2
  · refine Or.inr ⟨by omega, ?_⟩
    have q := (Kr_i hk (j := j + a) (by omega)).mpr ⟨h3, h4⟩
    omega
/-- is TOKEN i a TERM -/
def Tm (c : Int → Int) (i : Nat) (y : Int) : Prop := kT c i = 2 ∨ (kT c i = 1 ∧ ¬ (18 ≤ y ∧ y ≤ 24))
theorem t_isTermC {C : bM} {c : Int → Int} {i : Nat} {y : Int} (hs : Cs c C i) (hw : R_wd C) (hk : Kr c i y) : b_wp (F_X1_isTerm C) (fun x => (x = 1 ∧ Tm c i y) ∨ (x = 0 ∧ ¬ Tm c i y)) := by
  have s2 : C 1 2 = kT c i := hs.2.1
  unfold F_X1_isTerm Tm
  rw [s2]
  refine b_Wi (fun a => b_Ws (Or.inl ⟨rfl, Or.inl a⟩)) (fun a => b_Wi (fun b => b_Wb (b_wp_m (fun x z => ?_) (t_place106 hs hw))) (fun b => b_Ws (Or.inr ⟨rfl, by omega⟩)))
  have q := Pw_Kr z hk (by decide)
  refine b_Wi (fun d => b_Ws (Or.inl ⟨rfl, Or.inr ⟨b, ?_⟩⟩)) (fun d => b_Ws (Or.inr ⟨rfl, ?_⟩))
  · rcases q with q | q
    · have := q.2
      omega
    · omega
  · rcases q with q | q
    · exact absurd q.1 d
    · omega
theorem t_isTermR {R : bM} {c : Int → Int} {i : Nat} (h : Rt c R i) : b_wp (F_X12_isTerm R) (fun x => (x = 1 ∧ Tm c i (R 11 4)) ∨ (x = 0 ∧ ¬ Tm c i (R 11 4))) := by
  have s3 : R 11 3 = z_so (kT c i) (vT c i) := h.2.2.2.1
  unfold F_X12_isTerm Tm
  rw [s3]
  refine b_Wi (fun a => b_Ws (Or.inl ⟨rfl, Or.inl (z_so_2.mp a)⟩)) (fun a => b_Wi (fun b => b_We e_X12_in (b_Wi (fun d => b_Ws (Or.inl ⟨rfl, Or.inr ⟨z_so_1.mp b, b_01_0.mp d⟩⟩)) (fun d => b_Ws (Or.inr ⟨rfl, ?_⟩)))) (fun b => b_Ws (Or.inr ⟨rfl, ?_⟩)))
  · have k1 := z_so_1.mp b
    have d1 := b_01_n d
    omega
  · have n2 : ¬ kT c i = 2 := fun z => a (z_so_2.mpr z)
    have n1 : ¬ kT c i = 1 := fun z => b (z_so_1.mpr z)
    omega
/-- where TOKENS stand -/
theorem qT_n {c : Int → Int} {n : Int} {i : Nat} (hB : z_B c n) : 0 ≤ qT c i ∧ qT c i ≤ n := by
  have r := t_at_r hB i
  have q := t_q_p hB r.1
  exact ⟨by have := q.1; show 0 ≤ t_q c (t_at c i); omega, t_q_le hB r.1 r.2⟩
theorem qT_s {c : Int → Int} {n : Int} {i : Nat} (hB : z_B c n) : qT c i ≤ qT c (i + 1) ∧ (kT c i ≠ 0 → qT c i + 1 ≤ qT c (i + 1)) := by
  have r := t_at_r hB i
  have r2 := t_at_r hB (i + 1)
  have q2 := t_q_p hB r2.1
  have e := t_e_p hB r.1 r.2
  have d : t_at c (i + 1) = t_e c (t_at c i) := rfl
  refine ⟨?_, fun k => ?_⟩
  · have := q2.1
    have := e.1.1
    show t_q c (t_at c i) ≤ t_q c (t_at c (i + 1))
    omega
  · have := q2.1
    have k2 : c (t_q c (t_at c i)) ≠ -1 := fun z => k (t_k_0.mpr z)
    have := e.2 k2
    show t_q c (t_at c i) + 1 ≤ t_q c (t_at c (i + 1))
    omega
/-- a word of the table has its bytes -/
theorem qT_w {c : Int → Int} {n : Int} {i j : Nat} (hB : z_B c n) (k1 : kT c i = 1) (hv : vT c i = kW j) (hj : j < 29) : qT c i + kL j ≤ qT c (i + 1) := by
  have r := t_at_r hB i
  have r2 := t_at_r hB (i + 1)
  have q2 := t_q_p hB r2.1
  have q := t_q_p hB r.1
  have d : t_at c (i + 1) = t_e c (t_at c i) := rfl
  have k2 : t_k c (t_at c i) = 1 := k1
  have v2 : t_v c (t_at c i) = kW j := hv
  have qn := t_q_le hB r.1 r.2
  unfold t_k at k2
  unfold t_v at v2
  by_cases a : c (t_q c (t_at c i)) = -1
  · rw [if_pos a] at k2
    exact absurd k2 (by decide)
  · rw [if_neg a] at k2 v2
    by_cases b : 97 ≤ c (t_q c (t_at c i)) ∧ c (t_q c (t_at c i)) ≤ 122
    · rw [if_pos b] at v2
      have te : t_e c (t_at c i) = z_run (z_sm c) 1001 (t_q c (t_at c i)) := by
        unfold t_e
        rw [if_neg a, if_pos b]
      have zr := z_run_p (z_sm_n hB) 1001 (t_q c (t_at c i)) (by have := hB.1; omega)
      rw [← te] at zr
      have u := z_wd_u (c := c) (d := s_t4) (p := t_q c (t_at c i)) (q := (kS j : Int)) (t_e c (t_at c i) - t_q c (t_at c i)).toNat (kL j) (fun m hm => ?_) (fun m hm => k_tab.2 j hj m hm) v2
      · have q3 := q2.1
        rw [d] at q3
        show t_q c (t_at c i) + kL j ≤ t_q c (t_at c (i + 1))
        rw [d]
        have := zr.1
        omega
      · have := zr.2.1 (t_q c (t_at c i) + m) (by omega) (by omega)
        simpa using this
    · rw [if_neg b] at k2
      by_cases e : 48 ≤ c (t_q c (t_at c i)) ∧ c (t_q c (t_at c i)) ≤ 57
      · rw [if_pos e] at k2
        split at k2 <;> exact absurd k2 (by decide)
      · rw [if_neg e] at k2
        split at k2 <;> exact absurd k2 (by decide)
theorem vT_w {c : Int → Int} {n : Int} {i : Nat} (hB : z_B c n) (k1 : kT c i = 1) : 1 ≤ vT c i ∧ vT c i < 1152921504606846976 := by
  have r := t_at_r hB i
  have q := t_q_p hB r.1
  have k2 : t_k c (t_at c i) = 1 := k1
  have qn := t_q_le hB r.1 r.2
  show 1 ≤ t_v c (t_at c i) ∧ t_v c (t_at c i) < 1152921504606846976
  unfold t_k at k2
  unfold t_v
  by_cases a : c (t_q c (t_at c i)) = -1
  · rw [if_pos a] at k2
    exact absurd k2 (by decide)
  · rw [if_neg a] at k2 ⊢
    by_cases b : 97 ≤ c (t_q c (t_at c i)) ∧ c (t_q c (t_at c i)) ≤ 122
    · rw [if_pos b] at k2 ⊢
      have te : t_e c (t_at c i) = z_run (z_sm c) 1001 (t_q c (t_at c i)) := by
        unfold t_e
        rw [if_neg a, if_pos b]
      have zr := z_run_p (z_sm_n hB) 1001 (t_q c (t_at c i)) (by have := hB.1; omega)
      rw [← te] at zr
      have e12 : t_e c (t_at c i) - t_q c (t_at c i) ≤ 12 := by
        by_cases z : t_e c (t_at c i) - t_q c (t_at c i) ≤ 12
        · exact z
        · rw [if_neg z] at k2
          exact absurd k2 (by decide)
      have lt := (t_e_p hB r.1 r.2).2 a
      have hl : ∀ m : Nat, m < (t_e c (t_at c i) - t_q c (t_at c i)).toNat → 97 ≤ c (t_q c (t_at c i) + m) ∧ c (t_q c (t_at c i) + m) ≤ 122 := fun m hm => by
        have := zr.2.1 (t_q c (t_at c i) + m) (by omega) (by omega)
        simpa using this
      generalize hL : (t_e c (t_at c i) - t_q c (t_at c i)).toNat = L at *
      have w := z_wd_r L hl
      have pw : ∀ m : Nat, m ≤ 12 → (32 : Int) ^ m ≤ 1152921504606846976 := by decide +kernel
      refine ⟨?_, by have := pw L (by omega); omega⟩
      cases L with
      | zero => omega
      | succ m =>
        have w2 := z_wd_r m (fun x hx => hl x (by omega))
        have h3 := hl m (by omega)
        show 1 ≤ z_wd c (t_q c (t_at c i)) (m + 1)
        unfold z_wd
        omega
    · rw [if_neg b] at k2
      by_cases e : 48 ≤ c (t_q c (t_at c i)) ∧ c (t_q c (t_at c i)) ≤ 57
      · rw [if_pos e] at k2
        split at k2 <;> exact absurd k2 (by decide)
      · rw [if_neg e] at k2
        split at k2 <;> exact absurd k2 (by decide)
