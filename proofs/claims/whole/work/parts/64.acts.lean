/-- which ACT is IN FORCE (0: none) -/
def x_af (M : bM) (d : Int) : Nat → Int
  | 0 => 0
  | n + 1 => if M 182 n ≤ d then n + 1 else x_af M d n
def x_act (M : bM) (d : Int) : Int := x_af M d (M 11 35).toNat
theorem x_af_r {M : bM} {d : Int} : ∀ n : Nat, 0 ≤ x_af M d n ∧ x_af M d n ≤ n := by
  intro n
  induction n with
  | zero => exact ⟨Int.le_refl 0, Int.le_refl 0⟩
  | succ n ih =>
    unfold x_af
    split <;> omega
def x_mod (a : Int) : Int := if a = 0 then 9 else a - 1
def x_rule (M : bM) (d i : Int) : Int := M 183 (11 * x_mod (x_act M d) + i)
def S_rules : bW := [(4, some 0), (11, some 35), (182, none), (183, none), (12, some 0), (12, some 1), (13, some 0), (13, some 1), (14, some 0), (14, some 1), (15, some 0), (15, some 1), (16, some 0), (16, some 1), (17, some 0), (17, some 1), (18, some 0), (18, some 1), (19, some 0), (19, some 1), (20, some 0), (20, some 1), (22, none), (23, none), (24, none), (25, none), (26, none), (27, none), (28, none), (29, none), (30, none)]
/-- rules of the ACTS that stand, and of none -/
def R_rules (M : bM) : Prop := (M 11 35 = M 4 0 ∧ 0 ≤ M 4 0 ∧ M 4 0 ≤ 8) ∧ (∀ a : Nat, 1 ≤ a → (a : Int) ≤ M 4 0 → M (12 + a) 0 = M 182 ((a : Int) - 1)) ∧ (∀ a : Nat, (a : Int) ≤ M 4 0 → M (12 + a) 1 = M 183 (11 * x_mod a + 10) ∧ (0 ≤ M (12 + a) 1 ∧ M (12 + a) 1 ≤ 24) ∧ (a = 0 → M (12 + a) 1 = 0) ∧ ∀ i, 0 ≤ i → i < 10 → M (22 + a) i = M 183 (11 * x_mod a + i) ∧ (0 ≤ M (22 + a) i ∧ M (22 + a) i ≤ 9999) ∧ (i = 6 → M (22 + a) i ≤ 99))
theorem R_rules_k {M M2 : bM} (h : ∀ c i, b_ins S_rules c i = true → M2 c i = M c i) (hR : R_rules M) : R_rules M2 := by
  have h40 := h 4 0 rfl
  have h35 := h 11 35 rfl
  have h182 : M2 182 = M 182 := funext fun i => h 182 i rfl
  have h183 : M2 183 = M 183 := funext fun i => h 183 i rfl
  obtain ⟨r1, r2, r3⟩ := hR
  have hz : ∀ a : Nat, a ≤ 8 → M2 (12 + a) 0 = M (12 + a) 0 ∧ M2 (12 + a) 1 = M (12 + a) 1 ∧ M2 (22 + a) = M (22 + a) := by
    intro a ha
    have : a = 0 ∨ a = 1 ∨ a = 2 ∨ a = 3 ∨ a = 4 ∨ a = 5 ∨ a = 6 ∨ a = 7 ∨ a = 8 := by omega
    rcases this with rfl | rfl | rfl | rfl | rfl | rfl | rfl | rfl | rfl <;> exact ⟨h _ _ rfl, h _ _ rfl, funext fun i => h _ i rfl⟩
  unfold R_rules
  rw [h40, h35, h182, h183]
  refine ⟨r1, fun a a1 a2 => ?_, fun a a2 => ?_⟩
  · rw [(hz a (by omega)).1]
    exact r2 a a1 a2
  · rw [(hz a (by omega)).2.1, (hz a (by omega)).2.2]
    exact r3 a a2
theorem e_X1_numberInForce {M : bM} {d : Int} (hR : R_rules M) : F_X1_numberInForce d M = some (x_act M d) := by
  refine b_eqn ?_
  obtain ⟨r1, r2, r3⟩ := hR
  unfold F_X1_numberInForce F_X1_numberInForce_b30
  refine b_Wb (b_loop_ind (I := fun t : Int => (0 ≤ t ∧ t ≤ M 4 0) ∧ x_af M d t.toNat = x_act M d) (fun t => t.toNat) ?_ (M 4 0) ⟨by omega, by unfold x_act; rw [r1.1]⟩)
  intro i ⟨h1, h2⟩
  unfold F_X1_numberInForce_s5
  by_cases q : i ≤ 0
  · refine b_Wt q (b_Ws ?_)
    rw [show i = 0 by omega] at h2
    exact h2
  · refine b_Wf q (b_Wg (by omega) ?_)
    obtain ⟨n, hn⟩ := Int.eq_ofNat_of_zero_le (show 0 ≤ i - 1 by omega)
    have hi : i = (n : Int) + 1 := by omega
    subst hi
    have e1 := r2 (n + 1) (by omega) (by omega)
    rw [show ((n : Int) + 1).toNat = n + 1 by omega] at h2 ⊢
    rw [e1, show (((n + 1 : Nat) : Int) - 1) = n by omega]
    unfold x_af at h2
    refine b_Wi (fun q2 => b_Wg (by omega) (b_Ws ?_)) (fun q2 => b_Ws ?_)
    · rw [if_neg (by omega)] at h2
      refine ⟨⟨by omega, ?_⟩, by omega⟩
      rw [show ((n : Int) + 1 + -1).toNat = n by omega]
      exact h2
    · rw [if_pos (by omega)] at h2
      exact h2
theorem x_act_r {M : bM} {d : Int} (hR : R_rules M) : 0 ≤ x_act M d ∧ x_act M d ≤ M 4 0 ∧ M 4 0 ≤ 8 := by
  have := x_af_r (M := M) (d := d) (M 11 35).toNat
  have := hR.1
  unfold x_act
  omega
theorem e_X12_actOn {M : bM} {d : Int} (h : 0 ≤ M 11 35 ∧ M 11 35 ≤ 8) : F_X12_actOn d M = some (x_mod (x_act M d)) := by
  refine b_eqn ?_
  unfold F_X12_actOn
  refine b_Wg (by omega) (b_Wl (b_Wb (b_wp_m (fun t w => ?_) (b_loop_ind (P := fun t : Int => t = x_act M d - 1) (I := fun t : Int => (-1 ≤ t ∧ t < M 11 35) ∧ x_af M d (t + 1).toNat = x_act M d) (fun t => (t + 1).toNat) ?_ (M 11 35 - 1) ⟨by omega, by unfold x_act; rw [show M 11 35 - 1 + 1 = M 11 35 by omega]⟩))))
  · unfold F_X12_actOn_b27 x_mod
    subst w
    refine b_Wi (fun q => b_Ws ?_) (fun q => b_Ws ?_)
    · rw [if_neg (by omega)]
    · have := x_af_r (M := M) (d := d) (M 11 35).toNat
      unfold x_act at q ⊢
      rw [if_pos (by omega)]
  · intro i ⟨h1, h2⟩
    unfold F_X12_actOn_s7
    by_cases q : i < 0
    · refine b_Wt q (b_Ws ?_)
      rw [show i = -1 by omega] at h2 ⊢
      show (-1 : Int) = _
      rw [← h2]
      rfl
    · refine b_Wf q (b_Wg (by omega) ?_)
      obtain ⟨n, hn⟩ := Int.eq_ofNat_of_zero_le (show 0 ≤ i by omega)
      subst hn
      rw [show ((n : Int) + 1).toNat = n + 1 by omega] at h2
      unfold x_af at h2
      refine b_Wi (fun q2 => b_Ws ?_) (fun q2 => b_Wg (by omega) (b_Ws ?_))
      · rw [if_pos (by omega)] at h2
        show (n : Int) = _
        omega
      · rw [if_neg (by omega)] at h2
        refine ⟨⟨by omega, ?_⟩, by omega⟩
        rw [show ((n : Int) + -1 + 1).toNat = n by omega]
        exact h2
theorem x_mod_r {a : Int} (h : 0 ≤ a ∧ a ≤ 8) : 0 ≤ x_mod a ∧ x_mod a ≤ 9 := by unfold x_mod; split <;> omega
theorem e_X12_ruleOn {M : bM} {d i : Int} (hR : R_rules M) (hi : 0 ≤ i ∧ i ≤ 10) : F_X12_ruleOn d i M = some (x_rule M d i) := by
  have h := x_act_r (d := d) hR
  have h1 := x_mod_r (a := x_act M d) (by omega)
  have h2 := hR.1
  unfold F_X12_ruleOn
  rw [e_X12_actOn (by omega), b_bind_s, b_g_s (by omega)]
  rfl
theorem e_X1_inForce {M : bM} {d : Int} (hR : R_rules M) : F_X1_inForce d M = some (12 + (x_act M d).toNat) := by
  have h := x_act_r (d := d) hR
  unfold F_X1_inForce
  rw [e_X1_numberInForce hR, b_bind_s, b_g_s (by omega)]
/-- rules of the ACT with a number -/
theorem x_told {M : bM} {a : Nat} {i : Int} (hR : R_rules M) (ha : (a : Int) ≤ M 4 0) (hi : 0 ≤ i ∧ i < 10) : F_X0_told_a (12 + a) i M = some (M 183 (11 * x_mod a + i)) := by
  have h1 := hR.1
  have h2 := ((hR.2.2 a ha).2.2.2 i hi.1 hi.2).1
  unfold F_X0_told_a
  rw [if_neg (by omega), if_neg (by omega), b_g_s (by omega), show 12 + a + 10 = 22 + a by omega, h2]
theorem x_toldN {M : bM} {d i : Int} (hR : R_rules M) (hi : 0 ≤ i ∧ i < 10) : F_X0_told_a (12 + (x_act M d).toNat) i M = some (x_rule M d i) := by
  have h := x_act_r (d := d) hR
  rw [x_told hR (by omega) hi]
  unfold x_rule
  rw [show (((x_act M d).toNat : Nat) : Int) = x_act M d by omega]
theorem x_rule_r {M : bM} {d i : Int} (hR : R_rules M) (hi : 0 ≤ i ∧ i < 10) : 0 ≤ x_rule M d i ∧ x_rule M d i ≤ 9999 ∧ (i = 6 → x_rule M d i ≤ 99) := by
  have h := x_act_r (d := d) hR
  have h2 := (hR.2.2 (x_act M d).toNat (by omega)).2.2.2 i hi.1 hi.2
  rw [show (((x_act M d).toNat : Nat) : Int) = x_act M d by omega] at h2
  unfold x_rule
  omega
theorem op_rule {d i : Int} {M : bM} (hR : R_rules M) : b_wp (F_X11_rule d i M) (fun o => b_wp (F_X12_rule d i M) (fun o2 => o = o2)) := by
  have h := x_act_r (d := d) hR
  unfold F_X11_rule F_X12_rule
  by_cases q : 0 ≤ d ∧ d ≤ 9999
  · by_cases q2 : 0 ≤ i ∧ i ≤ 10
    · have ref : b_wp (F_X12_isDay d M) (fun x1 => b_wp (if x1 = 0 then some (-9) else b_bind (F_X12_in i 0 10 M) fun x3 => if x3 = 0 then some (-9) else b_bind (F_X12_ruleOn d i M) fun x5 => some x5) (fun o2 => x_rule M d i = o2)) :=
        b_wp_of e_X12_isDay (b_Wf (by rw [b_01_0]; omega) (b_We e_X12_in (b_Wf (by rw [b_01_0]; omega) (b_We (e_X12_ruleOn hR q2) (b_Ws rfl)))))
      refine b_We e_X11_isDay (b_Wf (by rw [b_01_0]; omega) (b_Wf (by omega) (b_Wt (by omega) (b_We (e_X1_inForce hR) (b_Wi (fun q3 => b_Wg (by omega) (b_Ws ?_)) (fun q3 => b_Wg (by omega) ?_))))))
      · have h3 := (hR.2.2 (x_act M d).toNat (by omega)).1
        rw [h3, show (((x_act M d).toNat : Nat) : Int) = x_act M d by omega]
        subst q3
        exact b_Wb ref
      · refine b_We (x_toldN hR (by omega)) (b_Ws ?_)
        exact b_Wb ref
    · refine b_We e_X11_isDay (b_Wf (by rw [b_01_0]; omega) (b_Wi (fun q3 => b_Ws ?_) (fun q3 => b_Wf (by omega) (b_Ws ?_))))
      · exact b_We e_X12_isDay (b_Wf (by rw [b_01_0]; omega) (b_We e_X12_in (b_Wt (by rw [b_01_0]; omega) (b_Ws rfl))))
      · exact b_We e_X12_isDay (b_Wf (by rw [b_01_0]; omega) (b_We e_X12_in (b_Wt (by rw [b_01_0]; omega) (b_Ws rfl))))
  · refine b_We e_X11_isDay (b_Wt (by rw [b_01_0]; omega) (b_Ws ?_))
    exact b_We e_X12_isDay (b_Wt (by rw [b_01_0]; omega) (b_Ws rfl))
/-- a MORTGAGE STANDS -/
abbrev x_std (M : bM) (m d k : Int) : Prop := M 227 m ≤ d ∧ d - M 228 m ≤ 365 * x_rule M k 6 ∧ ¬ (M 229 m ≠ -1 ∧ M 229 m ≤ d ∧ M 230 m ≤ k)
def x_stb (M : bM) (m d k : Int) : Int := b_01 (x_std M m d k)
theorem x_stb_1 {M : bM} {m d k : Int} (h : x_std M m d k) : x_stb M m d k = 1 := b_01_1.mpr h
theorem x_stb_0 {M : bM} {m d k : Int} (h : ¬ x_std M m d k) : x_stb M m d k = 0 := b_01_0.mpr h
theorem x_stb_b {M : bM} {m d k : Int} : x_stb M m d k = 0 ∨ x_stb M m d k = 1 := b_01_b
theorem e_X12_isStanding {M : bM} {m d k : Int} (hR : R_rules M) (hM : R_mort M) (hm : 0 ≤ m ∧ m < M 8 0) (hd : 0 ≤ d ∧ d ≤ 9999) : F_X12_isStanding m d k M = some (x_stb M m d k) := by
  refine b_eqn ?_
  have hr := x_rule_r (d := k) (i := 6) hR (by omega)
  obtain ⟨m1, ⟨e1, e2, e3, e4, e5⟩, m3⟩ := hM
  have := m3 m hm.1 hm.2
  rw [← e2, ← e3] at this
  unfold F_X12_isStanding
  rw [e_X12_ruleOn hR (by omega)]
  simp only [b_bind_s]
  (repeat' first | with_reducible refine b_Wg (by omega) ?_ | with_reducible refine b_Wi (fun _ => ?_) (fun _ => ?_) | with_reducible refine b_Wl ?_ | with_reducible refine b_Ws ?_)
  · exact (x_stb_0 (by unfold x_std; omega)).symm
  · exact (x_stb_1 (by unfold x_std; omega)).symm
  · exact (x_stb_1 (by unfold x_std; omega)).symm
  · exact (x_stb_0 (by unfold x_std; omega)).symm
  · exact (x_stb_1 (by unfold x_std; omega)).symm
  · exact (x_stb_0 (by unfold x_std; omega)).symm
theorem e_X6_isStanding {M : bM} {m d k : Int} (hR : R_rules M) (hM : R_mort M) (hm : 0 ≤ m ∧ m < M 8 0) (hd : 0 ≤ d ∧ d ≤ 9999) : F_X6_isStanding m d k M = some (x_stb M m d k) := by
  refine b_eqn ?_
  have h := x_act_r (d := k) hR
  have hr := x_rule_r (d := k) (i := 6) hR (by omega)
  obtain ⟨m1, ⟨e1, e2, e3, e4, e5⟩, m3⟩ := hM
  have := m3 m hm.1 hm.2
  unfold F_X6_isStanding F_X6_isStanding_b49 F_X6_isStanding_b50
  refine b_We (e_X1_inForce hR) (b_Wg (by omega) (b_We (x_toldN hR (by omega)) ?_))
  rw [← e2, ← e3, ← e4, ← e5]
  rw [← e2, ← e3] at this
  (repeat' first | with_reducible refine b_Wg (by omega) ?_ | with_reducible refine b_Wi (fun _ => ?_) (fun _ => ?_) | with_reducible refine b_Wl ?_ | with_reducible refine b_Ws ?_)
  all_goals first | exact (x_stb_0 (by unfold x_std; omega)).symm | exact (x_stb_1 (by unfold x_std; omega)).symm | (exfalso; omega)
theorem op_stands {m d k : Int} {M : bM} (hR : R_rules M) (hM : R_mort M) : b_wp (F_X11_stands m d k M) (fun o => b_wp (F_X12_stands m d k M) (fun o2 => o = o2)) := by
  have m1 := hM.1
  unfold F_X11_stands F_X12_stands
  by_cases q : 0 ≤ m ∧ m < M 8 0
  · by_cases q1 : 0 ≤ d ∧ d ≤ 9999
    · by_cases q2 : 0 ≤ k ∧ k ≤ 9999
      · refine b_We e_X6_has (b_Wf (by rw [b_01_0]; omega) (b_We e_X11_isDay (b_Wf (by rw [b_01_0]; omega) (b_We e_X11_isDay (b_Wf (by rw [b_01_0]; omega) (b_We (e_X6_isStanding hR hM q q1) ?_))))))
        refine b_Wi (fun z => b_Ws ?_) (fun z => b_Ws ?_)
        · exact b_We (e_X12_isMortgage (by omega)) (b_Wf (by rw [b_01_0]; omega) (b_We e_X12_isDay (b_Wf (by rw [b_01_0]; omega) (b_We e_X12_isDay (b_Wf (by rw [b_01_0]; omega) (b_We (e_X12_isStanding hR hM q q1) (b_Wt z (b_Ws rfl))))))))
        · exact b_We (e_X12_isMortgage (by omega)) (b_Wf (by rw [b_01_0]; omega) (b_We e_X12_isDay (b_Wf (by rw [b_01_0]; omega) (b_We e_X12_isDay (b_Wf (by rw [b_01_0]; omega) (b_We (e_X12_isStanding hR hM q q1) (b_Wf z (b_Ws rfl))))))))
      · refine b_We e_X6_has (b_Wf (by rw [b_01_0]; omega) (b_We e_X11_isDay (b_Wf (by rw [b_01_0]; omega) (b_We e_X11_isDay (b_Wt (by rw [b_01_0]; omega) (b_Ws ?_))))))
        exact b_We (e_X12_isMortgage (by omega)) (b_Wf (by rw [b_01_0]; omega) (b_We e_X12_isDay (b_Wf (by rw [b_01_0]; omega) (b_We e_X12_isDay (b_Wt (by rw [b_01_0]; omega) (b_Ws rfl))))))
    · refine b_We e_X6_has (b_Wf (by rw [b_01_0]; omega) (b_We e_X11_isDay (b_Wt (by rw [b_01_0]; omega) (b_Ws ?_))))
      exact b_We (e_X12_isMortgage (by omega)) (b_Wf (by rw [b_01_0]; omega) (b_We e_X12_isDay (b_Wt (by rw [b_01_0]; omega) (b_Ws rfl))))
  · refine b_We e_X6_has (b_Wt (by rw [b_01_0]; omega) (b_Ws ?_))
    exact b_We (e_X12_isMortgage (by omega)) (b_Wt (by rw [b_01_0]; omega) (b_Ws rfl))
theorem e_X5_isAmong {M : bM} {v s : Int} (h : M 3 0 ≤ 60) : F_X5_isAmong v s M = some (b_01 (0 ≤ v ∧ v < M 3 0 ∧ j_bt s v.toNat = true)) := by
  refine b_eqn ?_
  unfold F_X5_isAmong
  (repeat' first | with_reducible refine b_Wg (by omega) ?_ | with_reducible refine b_Wi (fun _ => ?_) (fun _ => ?_) | with_reducible refine b_Wl ?_ | with_reducible refine b_Ws ?_)
  · exact (b_01_0.mpr (by omega)).symm
  · exact (b_01_0.mpr (by omega)).symm
  · have := j_tstu (s := s) (k := v) (by omega)
    exact (b_01_0.mpr (fun z => (this.mp (by assumption)) z.2.2)).symm
  · have := j_tstu (s := s) (k := v) (by omega)
    refine (b_01_1.mpr ⟨by omega, by omega, ?_⟩).symm
    by_cases z : j_bt s v.toNat = true
    · exact z
    · exact absurd (this.mpr z) (by assumption)
/-- o is ahead of m -/
def x_rk (M : bM) (m d k o : Int) : Int := b_01 ((M 227 o < M 227 m ∨ (M 227 o = M 227 m ∧ o < m)) ∧ j_bt (M 174 (M 225 m)) (M 225 o).toNat = true ∧ x_std M o d k)
def x_rank (M : bM) (m d k : Int) (n : Nat) : Int := z_fold (fun o a => a + x_rk M m d k o) 0 n
theorem x_rank_r {M : bM} {m d k : Int} : ∀ n : Nat, 0 ≤ x_rank M m d k n ∧ x_rank M m d k n ≤ n := by
  intro n
  induction n with
  | zero => exact ⟨Int.le_refl 0, Int.le_refl 0⟩
  | succ n ih =>
    have h1 : x_rank M m d k (n + 1) = x_rank M m d k n + x_rk M m d k n := rfl
    have h2 : x_rk M m d k n = 0 ∨ x_rk M m d k n = 1 := b_01_b
    omega
theorem e_rk {M : bM} {m d k : Int} (hR : R_rules M) (hM : R_mort M) (hm : 0 ≤ m ∧ m < M 8 0) (hd : 0 ≤ d ∧ d ≤ 9999) : b_loop (fun t : Int × Int => F_X12_rank_s43 m d k t.1 t.2 M) (0, 0) = some (x_rank M m d k (M 8 0).toNat) := by
  refine b_eqn ?_
  have hM0 := hM
  obtain ⟨m1, ⟨e1, e2, e3, e4, e5⟩, m3⟩ := hM0
  have a1 := m3 m hm.1 hm.2
  refine b_loop_ind (I := fun t : Int × Int => (0 ≤ t.2 ∧ t.2 ≤ M 8 0) ∧ t.1 = x_rank M m d k t.2.toNat) (fun t => (M 8 0 - t.2).toNat) ?_ (0, 0) ⟨by dsimp only; omega, rfl⟩
  intro ⟨a, i⟩ ⟨h1, h2⟩
  dsimp only at h1 h2 ⊢
  unfold F_X12_rank_s43
  by_cases q : M 11 99 ≤ i
  · refine b_Wt q (b_Ws (show a = _ from ?_))
    rw [h2, show i = M 8 0 by omega]
  · refine b_Wf q (b_Wg (by omega) ?_)
    have a2 := m3 i h1.1 (by omega)
    have hs : x_rank M m d k (i + 1).toNat = a + x_rk M m d k i := by rw [h2]; exact z_fold_s h1.1
    have hr := x_rank_r (M := M) (m := m) (d := d) (k := k) i.toNat
    have fin : ∀ x, x = x_rk M m d k i → b_wp (F_X12_rank_b146 m d k i a x M) (Sum.elim (fun s2 : Int × Int => ((0 ≤ s2.2 ∧ s2.2 ≤ M 8 0) ∧ s2.1 = x_rank M m d k s2.2.toNat) ∧ (M 8 0 - s2.2).toNat < (M 8 0 - i).toNat) (fun r => r = x_rank M m d k (M 8 0).toNat)) := by
      intro x hx
      have h2 : x_rk M m d k i = 0 ∨ x_rk M m d k i = 1 := b_01_b
      unfold F_X12_rank_b146
      refine b_Wg (by omega) (b_Ws ⟨⟨by dsimp only; omega, ?_⟩, by dsimp only; omega⟩)
      dsimp only
      rw [hs, hx]
    have no : ¬ (M 227 i < M 227 m ∨ (M 227 i = M 227 m ∧ i < m)) → b_wp (F_X12_rank_b94 m d k a i M) (Sum.elim (fun s2 : Int × Int => ((0 ≤ s2.2 ∧ s2.2 ≤ M 8 0) ∧ s2.1 = x_rank M m d k s2.2.toNat) ∧ (M 8 0 - s2.2).toNat < (M 8 0 - i).toNat) (fun r => r = x_rank M m d k (M 8 0).toNat)) := by
      intro z
      unfold F_X12_rank_b94 F_X12_rank_b95 F_X12_rank_b145
      exact b_Wt rfl (fin 0 (b_01_0.mpr (fun w => z w.1)).symm)
    have yes : (M 227 i < M 227 m ∨ (M 227 i = M 227 m ∧ i < m)) → b_wp (F_X12_rank_b90 m d k a i M) (Sum.elim (fun s2 : Int × Int => ((0 ≤ s2.2 ∧ s2.2 ≤ M 8 0) ∧ s2.1 = x_rank M m d k s2.2.toNat) ∧ (M 8 0 - s2.2).toNat < (M 8 0 - i).toNat) (fun r => r = x_rank M m d k (M 8 0).toNat)) := by
      intro z
      unfold F_X12_rank_b90 F_X12_rank_b95 F_X12_rank_b145
      rw [← e1] at a1 a2
      refine b_Wf (by decide) (b_Wg (by omega) (b_Wi (fun z2 => ?_) (fun z2 => ?_)))
      · rw [j_tst (by omega)] at z2
        refine b_We (e_X12_isStanding hR hM ⟨h1.1, by omega⟩ hd) (b_Wi (fun z3 => ?_) (fun z3 => ?_))
        · exact fin 0 (b_01_0.mpr (fun w => absurd (x_stb_1 w.2.2) (by omega))).symm
        · refine fin 1 (b_01_1.mpr ⟨z, z2, ?_⟩).symm
          by_cases z4 : x_std M i d k
          · exact z4
          · exact absurd (x_stb_0 z4) z3
      · rw [j_tst (by omega)] at z2
        exact fin 0 (b_01_0.mpr (fun w => z2 w.2.1)).symm
    refine b_Wi (fun z => yes (Or.inl z)) (fun z => b_Wg (by omega) (b_Wi (fun z2 => b_Wi (fun z3 => no (by omega)) (fun z3 => yes (Or.inr ⟨z2, by omega⟩))) (fun z2 => no (by omega))))
theorem e_X6_ahead {M : bM} {m d k : Int} (hR : R_rules M) (hM : R_mort M) (hL : R_lots M) (hf : ∀ i, 0 ≤ i → i < M 8 0 → M 142 i < M 3 0) (hm : 0 ≤ m ∧ m < M 8 0) (hd : 0 ≤ d ∧ d ≤ 9999) : F_X6_ahead m d k M = some (x_rank M m d k (M 8 0).toNat) := by
  refine b_eqn ?_
  have hM0 := hM
  obtain ⟨m1, ⟨e1, e2, e3, e4, e5⟩, m3⟩ := hM0
  have a1 := m3 m hm.1 hm.2
  have l1 := hL.1
  have l2 : M 174 = M 91 := hL.2.1.2.2.2.2.1
  unfold F_X6_ahead F_X6_ahead_b120
  refine b_Wg (by omega) (b_Wl (b_Wb ?_))
  refine b_loop_ind (I := fun t : Int × Int => (0 ≤ t.2 ∧ t.2 ≤ M 8 0) ∧ t.1 = x_rank M m d k t.2.toNat) (fun t => (M 8 0 - t.2).toNat) ?_ (0, 0) ⟨by dsimp only; omega, rfl⟩
  intro ⟨a, i⟩ ⟨h1, h2⟩
  dsimp only at h1 h2 ⊢
  unfold F_X6_ahead_s22
  by_cases q : M 8 0 ≤ i
  · refine b_Wt q (b_Ws (b_Ws (show a = _ from ?_)))
    rw [h2, show i = M 8 0 by omega]
  · refine b_Wf q (b_Wg (by omega) ?_)
    have a2 := m3 i h1.1 (by omega)
    have a3 := hf i h1.1 (by omega)
    have hs : x_rank M m d k (i + 1).toNat = a + x_rk M m d k i := by rw [h2]; exact z_fold_s h1.1
    have hr := x_rank_r (M := M) (m := m) (d := d) (k := k) i.toNat
    have n0 : x_rk M m d k i = 0 → ((0 ≤ i + 1 ∧ i + 1 ≤ M 8 0) ∧ a = x_rank M m d k (i + 1).toNat) ∧ (M 8 0 - (i + 1)).toNat < (M 8 0 - i).toNat := by
      intro z
      rw [hs, z]
      omega
    have n1 : x_rk M m d k i = 1 → ((0 ≤ i + 1 ∧ i + 1 ≤ M 8 0) ∧ a + 1 = x_rank M m d k (i + 1).toNat) ∧ (M 8 0 - (i + 1)).toNat < (M 8 0 - i).toNat := by
      intro z
      rw [hs, z]
      omega
    have no : ¬ (M 227 i < M 227 m ∨ (M 227 i = M 227 m ∧ i < m)) → b_wp (F_X6_ahead_b73 m d k (M 91 (M 142 m)) a i M) (Sum.elim (fun s2 : Int × Int => ((0 ≤ s2.2 ∧ s2.2 ≤ M 8 0) ∧ s2.1 = x_rank M m d k s2.2.toNat) ∧ (M 8 0 - s2.2).toNat < (M 8 0 - i).toNat) (fun r => b_wp (some r) (fun r => r = x_rank M m d k (M 8 0).toNat))) := by
      intro z
      unfold F_X6_ahead_b73 F_X6_ahead_b74
      exact b_Wt rfl (b_Wg (by omega) (b_Ws (n0 (b_01_0.mpr (fun w => z w.1)))))
    have yes : (M 227 i < M 227 m ∨ (M 227 i = M 227 m ∧ i < m)) → b_wp (F_X6_ahead_b69 m d k (M 91 (M 142 m)) a i M) (Sum.elim (fun s2 : Int × Int => ((0 ≤ s2.2 ∧ s2.2 ≤ M 8 0) ∧ s2.1 = x_rank M m d k s2.2.toNat) ∧ (M 8 0 - s2.2).toNat < (M 8 0 - i).toNat) (fun r => b_wp (some r) (fun r => r = x_rank M m d k (M 8 0).toNat))) := by
      intro z
      unfold F_X6_ahead_b69 F_X6_ahead_b74
      refine b_Wf (by decide) (b_Wg (by omega) (b_We (e_X5_isAmong (by omega)) (b_Wi (fun z2 => b_Wg (by omega) (b_Ws (n0 ?_))) (fun z2 => ?_))))
      · rw [b_01_0] at z2
        refine b_01_0.mpr (fun w => z2 ⟨by omega, by omega, ?_⟩)
        rw [← l2, ← e1]
        exact w.2.1
      · rw [b_01_0] at z2
        have z3 : j_bt (M 91 (M 142 m)) (M 142 i).toNat = true := by
          by_cases y : j_bt (M 91 (M 142 m)) (M 142 i).toNat = true
          · exact y
          · exact absurd (fun w => y w.2.2) z2
        refine b_We (e_X6_isStanding hR hM ⟨h1.1, by omega⟩ hd) (b_Wi (fun z4 => b_Wg (by omega) (b_Ws (n0 ?_))) (fun z4 => b_Wg (by omega) (b_Ws (n1 ?_))))
        · exact b_01_0.mpr (fun w => absurd (x_stb_1 w.2.2) (by omega))
        · refine b_01_1.mpr ⟨z, by rw [l2, e1]; exact z3, ?_⟩
          by_cases z5 : x_std M i d k
          · exact z5
          · exact absurd (x_stb_0 z5) z4
    rw [← e2]
    refine b_Wi (fun z => yes (Or.inl z)) (fun z => b_Wg (by omega) (b_Wi (fun z2 => b_Wi (fun z3 => no (by omega)) (fun z3 => yes (Or.inr ⟨z2, by omega⟩))) (fun z2 => no (by omega))))
theorem op_rank {m d k : Int} {M : bM} (hR : R_rules M) (hM : R_mort M) (hL : R_lots M) (hf : ∀ i, 0 ≤ i → i < M 8 0 → M 142 i < M 3 0) : b_wp (F_X11_rank m d k M) (fun o => b_wp (F_X12_rank m d k M) (fun o2 => o = o2)) := by
  have m1 := hM.1
  unfold F_X11_rank F_X12_rank F_X12_rank_b155
  by_cases q : 0 ≤ m ∧ m < M 8 0
  · by_cases q1 : 0 ≤ d ∧ d ≤ 9999
    · by_cases q2 : 0 ≤ k ∧ k ≤ 9999
      · refine b_We e_X6_has (b_Wf (by rw [b_01_0]; omega) (b_We e_X11_isDay (b_Wf (by rw [b_01_0]; omega) (b_We e_X11_isDay (b_Wf (by rw [b_01_0]; omega) (b_We (e_X6_isStanding hR hM q q1) ?_))))))
        refine b_Wi (fun z => b_Ws ?_) (fun z => b_We (e_X6_ahead hR hM hL hf q q1) (b_Ws ?_))
        · exact b_We (e_X12_isMortgage (by omega)) (b_Wf (by rw [b_01_0]; omega) (b_We e_X12_isDay (b_Wf (by rw [b_01_0]; omega) (b_We e_X12_isDay (b_Wf (by rw [b_01_0]; omega) (b_We (e_X12_isStanding hR hM q q1) (b_Wt z (b_Ws rfl))))))))
        · exact b_We (e_X12_isMortgage (by omega)) (b_Wf (by rw [b_01_0]; omega) (b_We e_X12_isDay (b_Wf (by rw [b_01_0]; omega) (b_We e_X12_isDay (b_Wf (by rw [b_01_0]; omega) (b_We (e_X12_isStanding hR hM q q1) (b_Wf z (b_We (e_rk hR hM q q1) (b_Ws rfl)))))))))
      · refine b_We e_X6_has (b_Wf (by rw [b_01_0]; omega) (b_We e_X11_isDay (b_Wf (by rw [b_01_0]; omega) (b_We e_X11_isDay (b_Wt (by rw [b_01_0]; omega) (b_Ws ?_))))))
        exact b_We (e_X12_isMortgage (by omega)) (b_Wf (by rw [b_01_0]; omega) (b_We e_X12_isDay (b_Wf (by rw [b_01_0]; omega) (b_We e_X12_isDay (b_Wt (by rw [b_01_0]; omega) (b_Ws rfl))))))
    · refine b_We e_X6_has (b_Wf (by rw [b_01_0]; omega) (b_We e_X11_isDay (b_Wt (by rw [b_01_0]; omega) (b_Ws ?_))))
      exact b_We (e_X12_isMortgage (by omega)) (b_Wf (by rw [b_01_0]; omega) (b_We e_X12_isDay (b_Wt (by rw [b_01_0]; omega) (b_Ws rfl))))
  · refine b_We e_X6_has (b_Wt (by rw [b_01_0]; omega) (b_Ws ?_))
    exact b_We (e_X12_isMortgage (by omega)) (b_Wt (by rw [b_01_0]; omega) (b_Ws rfl))
