theorem j_cmp0 {x y : Int} : j_cmp x y = 0 ↔ x = y := by
  unfold j_cmp
  by_cases a : y < x
  · rw [if_pos a]; omega
  · rw [if_neg a]
    by_cases b : x = y
    · rw [if_pos b]; omega
    · rw [if_neg b]; omega
theorem e_isWord {M : bM} {v : Int} : F_X10_isWord v M = some (b_01 (M 1 2 = 1 ∧ M 1 4 = v)) := by
  refine b_eqn ?_
  unfold F_X10_isWord
  exact b_Wi (fun a => b_Wi (fun b => b_Ws (b_01_1.mpr ⟨a, j_cmp0.mp b⟩).symm) (fun b => b_Ws (b_01_0.mpr (fun z => b (j_cmp0.mpr z.2))).symm)) (fun a => b_Ws (b_01_0.mpr (fun z => a z.1)).symm)
theorem e_isSign {M : bM} {v : Int} : F_X10_isSign v M = some (b_01 (M 1 2 = 3 ∧ M 1 4 = v)) := by
  refine b_eqn ?_
  unfold F_X10_isSign
  exact b_Wi (fun a => b_Wi (fun b => b_Ws (b_01_1.mpr ⟨a, j_cmp0.mp b⟩).symm) (fun b => b_Ws (b_01_0.mpr (fun z => b (j_cmp0.mpr z.2))).symm)) (fun a => b_Ws (b_01_0.mpr (fun z => a z.1)).symm)
/-- kind, value and place of TOKEN i -/
abbrev kT (c : Int → Int) (i : Nat) : Int := t_k c (t_at c i)
abbrev vT (c : Int → Int) (i : Nat) : Int := t_v c (t_at c i)
abbrev qT (c : Int → Int) (i : Nat) : Int := t_q c (t_at c i)
/-- a number has at most four digits -/
theorem t_v_2 {c : Int → Int} {n : Int} {i : Nat} (hB : z_B c n) (h : t_k c (t_at c i) = 2) : 0 ≤ t_v c (t_at c i) ∧ t_v c (t_at c i) ≤ 9999 := by
  have ta := t_at_r hB i
  generalize t_at c i = p at *
  unfold t_k at h
  by_cases a : c (t_q c p) = -1
  · rw [if_pos a] at h; exact absurd h (by decide)
  · rw [if_neg a] at h
    by_cases b : 97 ≤ c (t_q c p) ∧ c (t_q c p) ≤ 122
    · rw [if_pos b] at h
      exfalso
      revert h
      split <;> decide
    · rw [if_neg b] at h
      by_cases d : 48 ≤ c (t_q c p) ∧ c (t_q c p) ≤ 57
      · rw [if_pos d] at h
        by_cases e : t_e c p - t_q c p ≤ 4
        · have ev : t_v c p = z_nb c (t_q c p) (t_e c p - t_q c p).toNat := by unfold t_v; rw [if_neg a, if_neg b, if_pos d]
          have ee : t_e c p = z_run (z_dg c) 1001 (t_q c p) := by unfold t_e; rw [if_neg a, if_neg b, if_pos d]
          have q0 := t_q_p hB ta.1
          have b1 := hB.1
          have r := z_run_p (z_dg_n hB) 1001 (t_q c p) (by omega)
          rw [← ee] at r
          have z := z_nb_r (c := c) (p := t_q c p) (t_e c p - t_q c p).toNat (fun j hj => by
            have := r.2.1 (t_q c p + j) (by omega) (by omega)
            exact of_decide_eq_true this)
          have p4 : (10 : Int) ^ (t_e c p - t_q c p).toNat ≤ 10000 := by
            have : (t_e c p - t_q c p).toNat < 5 := by omega
            revert this
            generalize (t_e c p - t_q c p).toNat = m
            intro hm
            exact (show ∀ m : Nat, m < 5 → (10 : Int) ^ m ≤ 10000 by decide +kernel) m hm
          rw [ev]; omega
        · rw [if_neg e] at h; exact absurd h (by decide)
      · rw [if_neg d] at h
        exfalso
        revert h
        split <;> decide
/-- which way a WORD tells; 4 is none -/
def z_way (v : Int) : Int := if v = 14 then 0 else if v = 5 then 1 else if v = 19 then 2 else if v = 23 then 3 else 4
theorem z_way_r {v : Int} : 0 ≤ z_way v ∧ z_way v ≤ 4 := by
  unfold z_way
  split
  · decide
  · split
    · decide
    · split
      · decide
      · split <;> decide
def S_ways : bW := [(85, none)]
/-- the class's WORDS for the ways -/
def R_ways (M : bM) : Prop := M 85 0 = 14 ∧ M 85 1 = 5 ∧ M 85 2 = 19 ∧ M 85 3 = 23
theorem R_ways_k {M N : bM} (h : ∀ c i, b_ins S_ways c i = true → N c i = M c i) (hR : R_ways M) : R_ways N := by
  unfold R_ways
  rw [h 85 0 rfl, h 85 1 rfl, h 85 2 rfl, h 85 3 rfl]
  exact hR
def Wyt (c : Int → Int) (i : Nat) : Prop := kT c i = 1 ∧ z_way (vT c i) < 4
def Nu (c : Int → Int) (i : Nat) : Prop := kT c i = 2 ∧ 1 ≤ vT c i ∧ vT c i ≤ 60
def Sg (c : Int → Int) (i : Nat) (s : Int) : Prop := kT c i = 3 ∧ vT c i = s
/-- line m stands on the tape -/
def Bl (c : Int → Int) (m : Nat) : Prop := Wyt c (3 * m) ∧ Nu c (3 * m + 1) ∧ Sg c (3 * m + 2) 59
/-- what is wrong at line m -/
def Bf (c : Int → Int) (m : Nat) (f p : Int) : Prop := (¬ Wyt c (3 * m) ∧ f = 1 ∧ p = qT c (3 * m)) ∨ (Wyt c (3 * m) ∧ ((m = 12 ∧ f = 4 ∧ p = qT c (3 * m)) ∨ (m < 12 ∧ ((kT c (3 * m + 1) ≠ 2 ∧ f = 1 ∧ p = qT c (3 * m + 1)) ∨ (kT c (3 * m + 1) = 2 ∧ ¬ Nu c (3 * m + 1) ∧ f = 2 ∧ p = qT c (3 * m + 1)) ∨ (Nu c (3 * m + 1) ∧ ¬ Sg c (3 * m + 2) 59 ∧ f = 1 ∧ p = qT c (3 * m + 2))))))
/-- how the reading ends -/
def Bo (c : Int → Int) (n f p : Int) : Prop := ∃ m : Nat, m ≤ 12 ∧ (∀ j, j < m → Bl c j) ∧ ((0 < m ∧ kT c (3 * m) = 0 ∧ n = m ∧ f = 0 ∧ p = -1) ∨ (¬ (0 < m ∧ kT c (3 * m) = 0) ∧ n = -1 ∧ Bf c m f p))
theorem Bf_n {c : Int → Int} {m : Nat} {f p : Int} (hm : m < 12) (h : Bl c m) (hf : Bf c m f p) : False := by
  rcases hf with hf | ⟨_, hf | ⟨_, hf | hf | hf⟩⟩
  · exact hf.1 h.1
  · have := hf.1; omega
  · exact hf.1 h.2.1.1
  · exact hf.2.1 h.2.1
  · exact hf.2.1 h.2.2
theorem Bf_u {c : Int → Int} {m : Nat} {f p f2 p2 : Int} (h : Bf c m f p) (h2 : Bf c m f2 p2) : f = f2 ∧ p = p2 := by
  rcases h with ⟨a, b, d⟩ | ⟨a, ⟨a1, b, d⟩ | ⟨a1, ⟨a2, b, d⟩ | ⟨a2, a3, b, d⟩ | ⟨a2, a3, b, d⟩⟩⟩ <;> rcases h2 with ⟨a', b', d'⟩ | ⟨a', ⟨a1', b', d'⟩ | ⟨a1', ⟨a2', b', d'⟩ | ⟨a2', a3', b', d'⟩ | ⟨a2', a3', b', d'⟩⟩⟩ <;> first | exact ⟨b.trans b'.symm, d.trans d'.symm⟩ | exact absurd a' a | exact absurd a a' | (exfalso; omega) | exact absurd a2' a2 | exact absurd a2 a2' | exact absurd a2'.1 a2 | exact absurd a2.1 a2' | exact absurd a2' a3 | exact absurd a2 a3' 
theorem Bo_u {c : Int → Int} {n f p n2 f2 p2 : Int} (h : Bo c n f p) (h2 : Bo c n2 f2 p2) : n = n2 ∧ f = f2 ∧ p = p2 := by
  obtain ⟨m, m1, m2, m3⟩ := h
  obtain ⟨m', m1', m2', m3'⟩ := h2
  have no : ∀ {a b : Nat} {n f p : Int}, a < b → b ≤ 12 → (∀ j, j < b → Bl c j) → ((0 < a ∧ kT c (3 * a) = 0 ∧ n = a ∧ f = 0 ∧ p = -1) ∨ (¬ (0 < a ∧ kT c (3 * a) = 0) ∧ n = -1 ∧ Bf c a f p)) → False := by
    intro a b n f p ab hb hB hh
    have bl := hB a ab
    rcases hh with hh | hh
    · have := bl.1.1
      have := hh.2.1
      omega
    · exact Bf_n (by omega) bl hh.2.2
  by_cases q : m < m'
  · exact (no q m1' m2' m3).elim
  · by_cases q2 : m' < m
    · exact (no q2 m1 m2 m3').elim
    · have e : m = m' := by omega
      subst e
      rcases m3 with ⟨a1, a2, a3, a4, a5⟩ | ⟨a1, a2, a3⟩
      · rcases m3' with ⟨b1, b2, b3, b4, b5⟩ | ⟨b1, b2, b3⟩
        · exact ⟨a3.trans b3.symm, a4.trans b4.symm, a5.trans b5.symm⟩
        · exact absurd ⟨a1, a2⟩ b1
      · rcases m3' with ⟨b1, b2, b3, b4, b5⟩ | ⟨b1, b2, b3⟩
        · exact absurd ⟨b1, b2⟩ a1
        · exact ⟨a2.trans b2.symm, Bf_u a3 b3⟩
theorem e_wrong {M : bM} {k : Int} : F_X10_wrong k M = some (0, b_up (b_up M 1 5 k) 1 6 (M 1 3)) := by
  refine b_eqn ?_
  unfold F_X10_wrong
  refine b_Wl (b_Wl (b_Ws ?_))
  rw [b_upi (by decide)]
theorem wr_f {M : bM} {k : Int} : (b_up (b_up M 1 5 k) 1 6 (M 1 3)) 1 5 = k ∧ (b_up (b_up M 1 5 k) 1 6 (M 1 3)) 1 6 = M 1 3 := ⟨by rw [b_upi (by decide), b_ups], b_ups⟩
/-- the class reads one line -/
theorem t_readLine {Q : bM} {c : Int → Int} {n v : Int} {m : Nat} (hB : z_B c n) (hR : Cr c n Q) (hs : Cs c Q (3 * m)) (hw : R_ways Q) (hv : v = m) (hm : m ≤ 12) : b_wp (F_X5_readLine_1 v Q) (fun o => (o.1 = 0 ∧ Bf c m (o.2 1 5) (o.2 1 6)) ∨ (o.1 = 1 ∧ m < 12 ∧ Bl c m ∧ b_fr [(1, some 2), (1, some 3), (1, some 4), (1, some 7), (98, none)] Q o.2 ∧ Cr c n o.2 ∧ Cs c o.2 (3 * m + 2) ∧ ∀ j, o.2 98 j = if j = v then 100000 * z_way (vT c (3 * m)) + vT c (3 * m + 1) else Q 98 j)) := by
  obtain ⟨w0, w1, w2, w3⟩ := hw
  obtain ⟨s7, s2, s3, s4⟩ := hs
  have hs : Cs c Q (3 * m) := ⟨s7, s2, s3, s4⟩
  unfold F_X5_readLine_1
  refine b_Wb (b_wp_m (fun w z => ?_) (b_loop_ind (P := fun w : Int => (0 ≤ w ∧ w ≤ 4) ∧ (w < 4 ↔ Wyt c (3 * m)) ∧ (w < 4 → w = z_way (vT c (3 * m)))) (I := fun w : Int => (0 ≤ w ∧ w ≤ 4) ∧ (kT c (3 * m) = 1 → w ≤ z_way (vT c (3 * m)))) (fun w => (4 - w).toNat) ?_ 0 ⟨by decide, fun _ => z_way_r.1⟩))
  · obtain ⟨z1, z2, z3⟩ := z
    unfold F_X5_readLine_1_b30
    refine b_Wi (fun a => b_Wi (fun b => ?_) (fun b => ?_)) (fun a => ?_)
    · have wy := z2.mp a
      have ew := z3 a
      refine b_Wb (b_wp_m (fun M8 y => ?_) (t_stepN hB hR hs (by omega)))
      obtain ⟨y1, y2, y3⟩ := y
      obtain ⟨t7, t2, t3, t4⟩ := y3
      have y3 : Cs c M8 (3 * m + 1) := ⟨t7, t2, t3, t4⟩
      refine b_Wi (fun d => ?_) (fun d => ?_)
      · have k2 : kT c (3 * m + 1) = 2 := t2.symm.trans d
        have v2 : M8 1 4 = vT c (3 * m + 1) := t4 (by show kT c (3 * m + 1) ≠ 4; omega)
        have vr : 0 ≤ vT c (3 * m + 1) ∧ vT c (3 * m + 1) ≤ 9999 := t_v_2 hB k2
        have en : F_X10_number M8 = some (vT c (3 * m + 1)) := by
          refine b_eqn ?_
          unfold F_X10_number
          rw [v2]
          exact b_Wg (by omega) (b_Ws rfl)
        have bad : ¬ Nu c (3 * m + 1) → b_wp (F_X5_readLine_1_b92 M8) (fun o => (o.1 = 0 ∧ Bf c m (o.2 1 5) (o.2 1 6)) ∨ (o.1 = 1 ∧ m < 12 ∧ Bl c m ∧ b_fr [(1, some 2), (1, some 3), (1, some 4), (1, some 7), (98, none)] Q o.2 ∧ Cr c n o.2 ∧ Cs c o.2 (3 * m + 2) ∧ ∀ j, o.2 98 j = if j = v then 100000 * z_way (vT c (3 * m)) + vT c (3 * m + 1) else Q 98 j)) := by
          intro nn
          unfold F_X5_readLine_1_b92
          refine b_We e_wrong (b_Wtwo (b_Wg (Or.inl rfl) (b_Ws (Or.inl ⟨rfl, ?_⟩))))
          dsimp only
          rw [wr_f.1, wr_f.2, t3]
          exact Or.inr ⟨wy, Or.inr ⟨by omega, Or.inr (Or.inl ⟨k2, nn, rfl, rfl⟩)⟩⟩
        refine b_We en (b_Wi (fun e => bad (fun z => by have := z.2.1; omega)) (fun e => b_We en (b_Wi (fun e1 => ?_) (fun e1 => bad (fun z => by have := z.2.2; omega)))))
        have nu : Nu c (3 * m + 1) := ⟨k2, by omega, e1⟩
        refine b_Wg (by omega) (b_We en (b_Wg (by omega) (b_Wl ?_)))
        generalize hU : b_up M8 98 v (w * 100000 + vT c (3 * m + 1)) = U
        have fU : b_fr [(98, none)] M8 U := by subst hU; exact b_frA b_fr_refl (by decide)
        have u98 : ∀ j, U 98 j = if j = v then 100000 * z_way (vT c (3 * m)) + vT c (3 * m + 1) else Q 98 j := fun j => by
          subst hU
          rw [b_upJ, y1 98 j (by simp [b_ins, W_st]), ew, show z_way (vT c (3 * m)) * 100000 = 100000 * z_way (vT c (3 * m)) by omega]
        clear hU
        have csU : Cs c U (3 * m + 1) := by
          unfold Cs
          rw [fU 1 7 (by decide), fU 1 2 (by decide), fU 1 3 (by decide), fU 1 4 (by decide)]
          exact y3
        refine b_Wb (b_wp_m (fun M22 x => ?_) (t_stepN hB (Cr_k fU (by decide) y2) csU (by omega)))
        obtain ⟨x1, x2, x3⟩ := x
        obtain ⟨r7, r2, r3, r4⟩ := x3
        have x3 : Cs c M22 (3 * m + 2) := ⟨r7, r2, r3, r4⟩
        refine b_We e_isSign (b_Wi (fun g => ?_) (fun g => b_Ws (Or.inr ⟨rfl, by omega, ⟨wy, nu, ?_⟩, ?_, x2, x3, fun j => ?_⟩)))
        · rw [b_01_0] at g
          refine b_We e_wrong (b_Wtwo (b_Wt rfl (b_Ws (Or.inl ⟨rfl, ?_⟩))))
          dsimp only
          rw [wr_f.1, wr_f.2, r3]
          refine Or.inr ⟨wy, Or.inr ⟨by omega, Or.inr (Or.inr ⟨nu, fun z => g ⟨r2.trans z.1, ?_⟩, rfl, rfl⟩)⟩⟩
          rw [r4 (by have := z.1; show kT c (3 * m + 2) ≠ 4; omega)]
          exact z.2
        · rw [b_01_0] at g
          have g2 := Decidable.of_not_not g
          have k3 : t_k c (t_at c (3 * m + 2)) = 3 := r2.symm.trans g2.1
          exact ⟨k3, (r4 (by rw [k3]; decide)).symm.trans g2.2⟩
        · refine b_fr_tr (b_fr_mo (by decide) y1) (b_fr_tr (b_fr_mo (by decide) fU) (b_fr_mo (by decide) x1))
        · dsimp only
          rw [x1 98 j (by simp [b_ins, W_st])]
          exact u98 j
      · refine b_We e_wrong (b_Wtwo (b_Wg (Or.inl rfl) (b_Ws (Or.inl ⟨rfl, ?_⟩))))
        dsimp only
        rw [wr_f.1, wr_f.2, t3]
        exact Or.inr ⟨wy, Or.inr ⟨by omega, Or.inl ⟨fun z => d (t2.trans z), rfl, rfl⟩⟩⟩
    · refine b_We e_wrong (b_Wtwo (b_Wg (Or.inl rfl) (b_Ws (Or.inl ⟨rfl, ?_⟩))))
      dsimp only
      rw [wr_f.1, wr_f.2, s3]
      exact Or.inr ⟨z2.mp a, Or.inl ⟨by omega, rfl, rfl⟩⟩
    · refine b_We e_wrong (b_Wtwo (b_Wg (Or.inl rfl) (b_Ws (Or.inl ⟨rfl, ?_⟩))))
      dsimp only
      rw [wr_f.1, wr_f.2, s3]
      exact Or.inl ⟨fun z => a (z2.mpr z), rfl, rfl⟩
  · intro w ⟨g1, g2⟩
    unfold F_X5_readLine_1_s2
    refine b_Wi (fun a => b_Ws ⟨g1, ⟨fun z => by omega, fun z => ?_⟩, fun z => by omega⟩) (fun a => b_Wg (by omega) (b_We e_isWord (b_Wi (fun b => b_Wg (by omega) (b_Ws ⟨⟨by omega, fun z => ?_⟩, by omega⟩)) (fun b => b_Ws ?_))))
    · have := g2 z.1
      have := z.2
      omega
    · have le := g2 z
      rw [b_01_0] at b
      have v4 : Q 1 4 = vT c (3 * m) := s4 (by show kT c (3 * m) ≠ 4; omega)
      by_cases e : w = z_way (vT c (3 * m))
      · exfalso
        refine b ⟨s2.trans z, ?_⟩
        rw [v4, e]
        have e4 : z_way (vT c (3 * m)) < 4 := by omega
        revert e4
        generalize vT c (3 * m) = x
        intro e4
        unfold z_way at e4 ⊢
        by_cases x1 : x = 14
        · rw [if_pos x1, w0, x1]
        · rw [if_neg x1] at e4 ⊢
          by_cases x2 : x = 5
          · rw [if_pos x2, w1, x2]
          · rw [if_neg x2] at e4 ⊢
            by_cases x3 : x = 19
            · rw [if_pos x3, w2, x3]
            · rw [if_neg x3] at e4 ⊢
              by_cases x4 : x = 23
              · rw [if_pos x4, w3, x4]
              · rw [if_neg x4] at e4
                exact absurd e4 (by decide)
      · omega
    · rw [b_01_0] at b
      have b2 := Decidable.of_not_not b
      have k1 : kT c (3 * m) = 1 := s2.symm.trans b2.1
      have v4 : Q 1 4 = vT c (3 * m) := s4 (by show kT c (3 * m) ≠ 4; omega)
      have ew : z_way (vT c (3 * m)) = w := by
        rw [← v4, b2.2]
        have : w = 0 ∨ w = 1 ∨ w = 2 ∨ w = 3 := by omega
        rcases this with rfl | rfl | rfl | rfl
        · rw [w0]; rfl
        · rw [w1]; rfl
        · rw [w2]; rfl
        · rw [w3]; rfl
      exact ⟨g1, ⟨fun _ => ⟨k1, by omega⟩, fun _ => by omega⟩, fun _ => ew.symm⟩
