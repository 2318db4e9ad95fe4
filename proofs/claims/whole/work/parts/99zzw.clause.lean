def W_aR : bW := W_pR ++ [(11, some 50), (11, some 51)]
/-- what reading an ACT changes of the reference -/
def Fa (R Q : bM) : Prop := b_fr W_aR R Q ∧ (∀ j, j < 192 → (Q 184 j = R 184 j ∧ Q 185 j = R 185 j) ∧ Q 186 j = R 186 j ∧ Q 187 j = R 187 j) ∧ (∀ j, j < 19200 → Q 188 j = R 188 j) ∧ (∀ j, j < 2304 → Q 189 j = R 189 j ∧ Q 190 j = R 190 j ∧ Q 191 j = R 191 j) ∧ (∀ j, j < 13824 → Q 192 j = R 192 j ∧ Q 193 j = R 193 j) ∧ (∀ j, (j < 88 ∨ 99 ≤ j) → Q 183 j = R 183 j) ∧ (N3 R → N3 Q)
theorem Fa_r {R : bM} : Fa R R := ⟨b_fr_refl, fun _ _ => ⟨⟨rfl, rfl⟩, rfl, rfl⟩, fun _ _ => rfl, fun _ _ => ⟨rfl, rfl, rfl⟩, fun _ _ => ⟨rfl, rfl⟩, fun _ _ => rfl, fun z => z⟩
theorem Fa_t {R Q S : bM} (h : Fa R Q) (g : Fa Q S) : Fa R S := by
  refine ⟨b_fr_tr h.1 g.1, fun j hj => ?_, fun j hj => (g.2.2.1 j hj).trans (h.2.2.1 j hj), fun j hj => ?_, fun j hj => ?_, fun j hj => (g.2.2.2.2.2.1 j hj).trans (h.2.2.2.2.2.1 j hj), fun z => g.2.2.2.2.2.2 (h.2.2.2.2.2.2 z)⟩
  · obtain ⟨⟨a, b⟩, d, e⟩ := g.2.1 j hj
    rw [a, b, d, e]; exact h.2.1 j hj
  · obtain ⟨a, b, d⟩ := g.2.2.2.1 j hj
    rw [a, b, d]; exact h.2.2.2.1 j hj
  · obtain ⟨a, b⟩ := g.2.2.2.2.1 j hj
    rw [a, b]; exact h.2.2.2.2.1 j hj
theorem Fa_w {W : bW} {R Q : bM} (f : b_fr W R Q) (hs : b_sbs W W_aR = true) (d : b_dis W [(183, none), (184, none), (185, none), (186, none), (187, none), (188, none), (189, none), (190, none), (191, none), (192, none), (193, none)] = true) : Fa R Q := by
  have k := b_kp1 f d
  exact ⟨b_fr_mo hs f, fun j _ => ⟨⟨k 184 j rfl, k 185 j rfl⟩, k 186 j rfl, k 187 j rfl⟩, fun j _ => k 188 j rfl, fun j _ => ⟨k 189 j rfl, k 190 j rfl, k 191 j rfl⟩, fun j _ => ⟨k 192 j rfl, k 193 j rfl⟩, fun j _ => k 183 j rfl, fun z j => by rw [k 193 j rfl]; exact z j⟩
theorem Fa_p {p : Int} {R Q : bM} (h : Frr p R Q) (hp : 192 ≤ p) : Fa R Q := ⟨b_fr_mo (by decide) h.2.2.2, fun j hj => ⟨h.2.1 j (by omega), h.1.1 j (by omega)⟩, fun j hj => h.1.2.1 j (by omega), fun j hj => h.1.2.2.1 j (by omega), fun j hj => h.1.2.2.2.1 j (by omega), fun j hj => h.2.2.1 j (by omega), h.1.2.2.2.2⟩
/-- class and reference at the start of a clause -/
def Cx (c : Int → Int) (n : Int) (C R : bM) (cc i N : Nat) (Z : Int) : Prop := Cl c n C R cc i N ∧ (∀ j, 0 ≤ j → j < 10 → C (cc + 10) j = R 183 (88 + j) ∧ (0 ≤ C (cc + 10) j ∧ C (cc + 10) j ≤ 9999) ∧ (j = 6 → C (cc + 10) j ≤ 99)) ∧ (∀ b : Nat, b < 10 → i_bt (C 4 10) b = i_bt (R 11 51) (b + 1)) ∧ (R 11 50 = Z ∧ 0 ≤ Z ∧ Z ≤ qT c i)
/-- a clause that is no proof changes nothing of proofs -/
theorem Cl_k {W : bW} {c : Int → Int} {n : Int} {C D R Q : bM} {cc i i' N : Nat} (h : Cl c n C R cc i N) (f : b_fr W R Q) (d : b_dis W [(184, none), (185, none), (186, none), (187, none), (188, none), (189, none), (190, none), (191, none), (192, none), (193, none)] = true) (h98 : Q 183 98 = R 183 98) (hD : ∀ (z : Nat) (j : Int), z ≠ 1 → ¬ (z = 4 ∧ j = 10) → z ≠ cc + 10 → D z j = C z j) (hC : Ct c n D i') (hR : Rt c Q i') (hi : (i' : Int) ≤ qT c i') (hq : qT c i ≤ qT c i') : Cl c n D Q cc i' N := by
  obtain ⟨⟨a1, a2, a3⟩, ⟨b1, b2, b3⟩, ⟨c1, c2, c3⟩, ⟨d1, d2, d3, d4⟩, e1, f1⟩ := h
  have k := b_kp1 f d
  have x49 : D 4 9 = C 4 9 := hD 4 9 (by decide) (by decide) (by omega)
  refine ⟨⟨hC, hR, hi⟩, ⟨(hD 4 8 (by decide) (by decide) (by omega)).trans b1, b2, b3⟩, ⟨(hD cc 1 (by omega) (by omega) (by omega)).trans c1, h98.trans c2, c3⟩, ⟨?_, ?_, ?_, ?_⟩, fun j => by rw [k 193 j rfl]; exact e1 j, ?_⟩
  · rw [hD (cc + 40) N (by omega) (by omega) (by omega), x49]; exact d1
  · rw [hD (cc + 40) 0 (by omega) (by omega) (by omega)]; exact d2
  · rw [x49]; exact d3
  · rw [x49]; omega
  · exact Pj_k (D := D) (Q := Q) (p := 192 + (N : Int)) rfl f1 ⟨fun j _ => ⟨k 186 j rfl, k 187 j rfl⟩, fun j _ => k 188 j rfl, fun j _ => ⟨k 189 j rfl, k 190 j rfl, k 191 j rfl⟩, fun j _ => ⟨k 192 j rfl, k 193 j rfl⟩, fun z j => by rw [k 193 j rfl]; exact z j⟩ (fun j _ => ⟨k 184 j rfl, k 185 j rfl⟩) (fun j _ _ => hD _ _ (by omega) (by omega) (by omega)) (fun j _ _ => hD _ _ (by omega) (by omega) (by omega)) (fun x _ => hD 108 x (by omega) (by omega) (by omega)) (by omega)
def Pcl (c : Int → Int) (n : Int) (C R : bM) (cc i : Nat) (Z : Int) (r : Option ((Int × bM) ⊕ (bM ⊕ (Int × bM)))) (x : Int × bM) : Prop := Fa R x.2 ∧ ((x.1 = 0 ∧ ∃ D, r = some (.inr (.inr (-1, D))) ∧ Fc cc C D ∧ D 1 5 = x.2 11 8 ∧ D 1 6 = x.2 11 9) ∨ (x.1 = 1 ∧ ∃ D i' N', r = some (.inl (Z + 1, D)) ∧ Fc cc C D ∧ Cx c n D x.2 cc i' N' (Z + 1) ∧ qT c i < qT c i' ∧ (i' : Int) ≤ qT c i' ∧ D 4 9 + 1 ≤ qT c i' ∧ Z + 2 ≤ qT c i' ∧ Nfl C R D x.2))
theorem t_semi {c : Int → Int} {n : Int} {C R D Q : bM} {cc i i' N : Nat} {Z : Int} (hB : z_B c n) (fa : Fa R Q) (fc : Fc cc C D) (h : Cx c n D Q cc i' N Z) (hq : qT c i ≤ qT c i') (hZ : Z + 1 ≤ qT c i') (nf : Nfl C R D Q) : b_wp (F_X12_readClause_b144 1 Q) (Pcl c n C R cc i Z (F_X1_read_b94 Z D)) := by
  obtain ⟨cl, ru, bi, z1, z2, z3⟩ := h
  have nn := hB.1
  have ct := cl.1.1
  have rt := cl.1.2.1
  have ib := cl.1.2.2
  have so := so_cases rt
  have q0 := qT_n (i := i') hB
  unfold F_X12_readClause_b144
  refine b_Wf (by decide) (b_Wi (fun y => ?_) (fun y => b_We e_wrongR (b_Wtwo (b_Wg (Or.inl rfl) (b_Ws ?_)))))
  · have sg : Sg c i' 59 := so.2.2.2.1.mp y
    have lt := (qT_s (i := i') hB).2 (by rw [sg.1]; decide)
    have q1 := qT_n (i := i' + 1) hB
    refine b_Wb (b_wp_m (fun P z => ?_) (t_scanT hB rt))
    obtain ⟨u1, u2⟩ := z
    have p50 : P 11 50 = Z := by rw [u1 11 50 (by decide)]; exact z1
    rw [p50]
    refine b_Wg (by omega) (b_Wl (b_Ws ?_))
    obtain ⟨L, hL, l1, l2⟩ := b_wp_ex (t_stepT hB ct (by omega))
    have e94 : F_X1_read_b94 Z D = some (.inl (Z + 1, L)) := by
      refine b_eqn ?_
      unfold F_X1_read_b94
      exact b_We e_isSign (b_Wf (fun z => b_01_0.mp z ((s_is ct).mpr sg)) (b_We hL (b_Wg (by omega) (b_Ws rfl))))
    have fP : b_fr (W_sc ++ [(11, some 50)]) Q (b_up P 11 50 (Z + 1)) := b_frF (b_fr_mo (by decide) u1) (by decide)
    have lk : ∀ (z : Nat) (j : Int), z ≠ 1 → L z j = D z j := fun z j hz => l1 z j (by simp [b_ins, W_st]; omega)
    refine ⟨Fa_t fa (Fa_w fP (by decide) (by decide)), Or.inr ⟨rfl, L, i' + 1, N, e94, Fc_t fc (Fc_w l1 (by decide)), ⟨Cl_k cl fP (by decide) (fP 183 98 (by decide)) (fun z j hz _ _ => lk z j hz) l2 (Rt_k (W := [(11, some 50)]) (b_frF b_fr_refl (by decide)) (by decide) u2) (by omega) (by omega), fun j j0 j1 => ?_, fun b hb => ?_, by dsimp only; exact b_ups, by omega, by omega⟩, by omega, by omega, ?_, by omega, Nfl_t nf ⟨⟨l1 1 5 (by decide), l1 1 6 (by decide)⟩, fP 11 8 (by decide), fP 11 9 (by decide)⟩⟩⟩
    · rw [lk (cc + 10) j (by omega)]
      dsimp only
      rw [fP 183 _ (by simp [b_ins, W_sc])]
      exact ru j j0 j1
    · rw [lk 4 10 (by decide)]
      dsimp only
      rw [fP 11 51 (by decide)]
      exact bi b hb
    · rw [lk 4 9 (by decide)]
      have := cl.2.2.2.1.2.2.2
      omega
  · have ns : ¬ Sg c i' 59 := fun z => y (so.2.2.2.1.mpr z)
    refine ⟨Fa_t fa (Fa_w (W := [(11, some 8), (11, some 9)]) (b_frF (b_frF b_fr_refl (by decide)) (by decide)) (by decide) (by decide)), Or.inl ⟨rfl, b_up (b_up D 1 5 1) 1 6 (D 1 3), ?_, Fc_t fc (Fc_w (W := [(1, some 5), (1, some 6)]) (b_frF (b_frF b_fr_refl (by decide)) (by decide)) (by decide)), ?_, ?_⟩⟩
    · refine b_eqn ?_
      unfold F_X1_read_b94
      exact b_We e_isSign (b_Wt (b_01_0.mpr (fun z => ns ((s_is ct).mp z))) (b_We e_wrong (b_Wtwo (b_Ws rfl))))
    · exact (wr_f (M := D) (k := 1)).1.trans (wrR_f (M := Q) (k := 1)).1.symm
    · refine (wr_f (M := D) (k := 1)).2.trans (Eq.trans ?_ (wrR_f (M := Q) (k := 1)).2.symm)
      rw [show D 1 3 = qT c i' from ct.2.1.2.2.1, show Q 11 5 = qT c i' from rt.2.1]
theorem tell_a {C : bM} {cc : Nat} {v x : Int} (hc : 12 ≤ cc ∧ cc < 22) (hv : 0 ≤ v ∧ v < 10) : F_X0_tell_a cc v x C = some (b_up C (cc + 10) v x) := by
  refine b_eqn ?_
  unfold F_X0_tell_a
  exact b_Wf (by omega) (b_Wf (by omega) (b_Wg ⟨hc, hv⟩ (b_Wl (b_Ws rfl))))
theorem s_u12 : ∀ v : Int, 0 ≤ v → v < 10 → v ≠ 8 → s_u1 v = (if v = 5 ∨ v = 6 then 1 else 0) ∧ s_u2 v = (if v < 3 then 999 else if v = 4 then 999 else if v = 3 then 20 else if v = 7 then 20 else if v = 9 then 9999 else 99) := by
  intro v h0 h1 h2
  have g : ∀ y : Fin 10, (y.val : Int) ≠ 8 → s_u1 (y.val : Int) = (if (y.val : Int) = 5 ∨ (y.val : Int) = 6 then 1 else 0) ∧ s_u2 (y.val : Int) = (if (y.val : Int) < 3 then 999 else if (y.val : Int) = 4 then 999 else if (y.val : Int) = 3 then 20 else if (y.val : Int) = 7 then 20 else if (y.val : Int) = 9 then 9999 else 99) := by decide +kernel
  have := g ⟨v.toNat, by omega⟩
  rw [show (((⟨v.toNat, by omega⟩ : Fin 10).val : Nat) : Int) = v by show ((v.toNat : Nat) : Int) = v; omega] at this
  exact this h2
theorem e_high {v : Int} {M : bM} : F_X12_high v M = some (if v < 3 then 999 else if v = 4 then 999 else if v = 3 then 20 else if v = 7 then 20 else if v = 9 then 9999 else 99) := by
  unfold F_X12_high
  split
  · rfl
  · split
    · rfl
    · split
      · rfl
      · split
        · rfl
        · split <;> rfl
