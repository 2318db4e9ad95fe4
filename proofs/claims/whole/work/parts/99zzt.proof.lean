def q4 (v : Nat) : Nat := if v = 10 then 0 else v + 1
def Pq (c : Int → Int) (i : Nat) (x : Int) : Prop := (x = -1 ∧ ∀ v : Nat, v < 11 → ¬ Wd c i (q4 v)) ∨ ∃ v : Nat, v < 11 ∧ x = v ∧ Wd c i (q4 v)
theorem t_place104 {C : bM} {c : Int → Int} {i : Nat} (hs : Cs c C i) (hw : R_wd C) : b_wp (F_X1_placeOf_104 C) (fun x => Pq c i x) := by
  obtain ⟨s7, s2, s3, s4⟩ := hs
  have wq : ∀ v : Nat, v < 11 → C 104 v = kW (q4 v) := by
    intro v hv
    unfold q4
    by_cases e : v = 10
    · subst e
      rw [if_pos rfl]
      exact hw.2.1
    · rw [if_neg e]
      exact hw.1 v (by omega)
  unfold F_X1_placeOf_104
  refine b_Wb (b_wp_m (fun o z => ?_) (b_loop_ind (P := Sum.elim (fun _ : Unit => ∀ v : Nat, v < 11 → ¬ Wd c i (q4 v)) (fun x : Int => Pq c i x)) (I := fun v : Int => (0 ≤ v ∧ v ≤ 11) ∧ ∀ j : Nat, (j : Int) < v → ¬ Wd c i (q4 j)) (fun v => (11 - v).toNat) ?_ 0 ⟨by omega, fun j hj => by omega⟩))
  · rcases o with u | o
    · refine b_Winl ?_
      unfold F_X1_placeOf_104_b41
      exact b_Ws (Or.inl ⟨rfl, z⟩)
    · exact b_Ws z
  · intro v ⟨g1, g2⟩
    unfold F_X1_placeOf_104_s2
    have wv := wq v.toNat
    rw [show ((v.toNat : Nat) : Int) = v by omega] at wv
    refine b_Wi (fun a => b_Ws (fun j hj => g2 j (by omega))) (fun a => b_Wi (fun b => b_Wg (by omega) (b_Wi (fun d => b_Ws ?_) (fun d => b_Wg (by omega) (b_Ws ⟨⟨by omega, fun j hj => ?_⟩, by omega⟩)))) (fun b => b_Wg (by omega) (b_Ws ⟨⟨by omega, fun j hj => ?_⟩, by omega⟩)))
    · have e := j_cmp_0.mp d
      have k1 : kT c i = 1 := by rw [← b]; exact s2.symm
      refine Or.inr ⟨v.toNat, by omega, by omega, k1, ?_⟩
      rw [← wv (by omega), ← e]
      exact (s4 (by rw [show t_k c (t_at c i) = 1 from k1]; decide)).symm
    · by_cases ej : j = v.toNat
      · intro q
        apply d
        rw [j_cmp_0, s4 (by rw [show t_k c (t_at c i) = 1 from q.1]; decide), wv (by omega), show t_v c (t_at c i) = kW (q4 j) from q.2, ej]
      · exact g2 j (by omega)
    · by_cases ej : j = v.toNat
      · intro q
        apply b
        rw [s2]
        exact q.1
      · exact g2 j (by omega)
def W_nR : bW := W_sc ++ [(11, some 32)]
/-- a number, class and reference -/
theorem t_number {C R : bM} {c : Int → Int} {n lo hi : Int} {i : Nat} (hB : z_B c n) (hC : Ct c n C i) (hR : Rt c R i) : b_wp (F_X12_readNumber lo hi R) (fun x => b_fr (W_nR ++ [(11, some 8), (11, some 9)]) R x.2 ∧ ((x.1 = 0 ∧ ∃ D, F_X1_isNumber lo hi C = some (0, D) ∧ b_fr [(1, some 5), (1, some 6)] C D ∧ D 1 5 = x.2 11 8 ∧ D 1 6 = x.2 11 9) ∨ (x.1 = 1 ∧ b_fr W_nR R x.2 ∧ F_X1_isNumber lo hi C = some (1, C) ∧ F_X10_number C = some (vT c i) ∧ (lo ≤ vT c i ∧ vT c i ≤ hi) ∧ (0 ≤ vT c i ∧ vT c i ≤ 9999) ∧ x.2 11 32 = vT c i ∧ Rt c x.2 (i + 1) ∧ kT c i = 2))) := by
  have so := so_cases hR
  have s2 : C 1 2 = kT c i := hC.2.1.2.1
  have s3 : C 1 3 = qT c i := hC.2.1.2.2.1
  have r5 : R 11 5 = qT c i := hR.2.1
  have bad : ∀ fk : Int, F_X1_isNumber lo hi C = some (0, b_up (b_up C 1 5 fk) 1 6 (C 1 3)) → b_wp (b_bind (F_X12_wrong fk R) (fun t => b_two t (fun x9 M10 => b_g (x9 = 0 ∨ x9 = 1) (some (x9, M10))))) (fun x => b_fr (W_nR ++ [(11, some 8), (11, some 9)]) R x.2 ∧ ((x.1 = 0 ∧ ∃ D, F_X1_isNumber lo hi C = some (0, D) ∧ b_fr [(1, some 5), (1, some 6)] C D ∧ D 1 5 = x.2 11 8 ∧ D 1 6 = x.2 11 9) ∨ (x.1 = 1 ∧ b_fr W_nR R x.2 ∧ F_X1_isNumber lo hi C = some (1, C) ∧ F_X10_number C = some (vT c i) ∧ (lo ≤ vT c i ∧ vT c i ≤ hi) ∧ (0 ≤ vT c i ∧ vT c i ≤ 9999) ∧ x.2 11 32 = vT c i ∧ Rt c x.2 (i + 1) ∧ kT c i = 2))) := by
    intro fk e
    refine b_We e_wrongR (b_Wtwo (b_Wg (Or.inl rfl) (b_Ws ⟨b_frF (b_frF b_fr_refl (by decide)) (by decide), Or.inl ⟨rfl, _, e, b_frF (b_frF b_fr_refl (by decide)) (by decide), ?_, ?_⟩⟩)))
    · exact (wr_f (M := C) (k := fk)).1.trans (wrR_f (M := R) (k := fk)).1.symm
    · refine (wr_f (M := C) (k := fk)).2.trans (Eq.trans ?_ (wrR_f (M := R) (k := fk)).2.symm)
      rw [s3, r5]
  unfold F_X12_readNumber
  refine b_Wi (fun y1 => ?_) (fun y1 => bad 1 ?_)
  · have k2 : kT c i = 2 := so.2.2.2.2.2.2.mp y1
    have v7 : R 11 7 = vT c i := hR.2.2.2.2.2.2 k2
    have vr := t_v_2 hB k2
    have c4 : C 1 4 = vT c i := hC.2.1.2.2.2 (by rw [show t_k c (t_at c i) = 2 from k2]; decide)
    have c2 : C 1 2 = 2 := s2.trans k2
    have vr' : 0 ≤ vT c i ∧ vT c i ≤ 9999 := vr
    have nm : F_X10_number C = some (vT c i) := by
      refine b_eqn ?_
      unfold F_X10_number
      rw [c4]
      exact b_Wg (by omega) (b_Ws rfl)
    refine b_We e_X12_in (b_Wi (fun y2 => bad 2 ?_) (fun y2 => b_Wl (b_Wb (b_wp_m (fun Q z => b_Ws ?_) (t_scanT hB (Rt_k (W := [(11, some 32)]) (b_frF b_fr_refl (by decide)) (by decide) hR))))))
    · have y3 := b_01_0.mp y2
      rw [v7] at y3
      refine b_eqn ?_
      unfold F_X1_isNumber
      refine b_Wt c2 (b_We nm (b_Wi (fun z => ?_) (fun z => b_We nm (b_Wt (by omega) ?_))))
      · unfold F_X1_isNumber_b46 F_X1_isNumber_b47
        exact b_Wt rfl (b_We e_wrong (b_Wtwo (b_Wt rfl (b_Ws rfl))))
      · unfold F_X1_isNumber_b46 F_X1_isNumber_b47
        exact b_Wt rfl (b_We e_wrong (b_Wtwo (b_Wt rfl (b_Ws rfl))))
    · have y3 := b_01_n y2
      rw [v7] at y3
      obtain ⟨z1, z2⟩ := z
      have fr : b_fr W_nR R Q := b_fr_tr (b_frF b_fr_refl (by decide)) (b_fr_mo (by decide) z1)
      refine ⟨b_fr_mo (by decide) fr, Or.inr ⟨rfl, fr, ?_, nm, y3, vr', ?_, z2, k2⟩⟩
      · refine b_eqn ?_
        unfold F_X1_isNumber
        refine b_Wt c2 (b_We nm (b_Wf (by omega) (b_We nm (b_Wf (by omega) ?_))))
        unfold F_X1_isNumber_b47
        exact b_Wf (by decide) (b_Ws rfl)
      · show Q 11 32 = vT c i
        rw [z1 11 32 (by decide), b_ups]
        exact v7
  · have nk : ¬ C 1 2 = 2 := fun z => y1 (so.2.2.2.2.2.2.mpr (s2.symm.trans z))
    refine b_eqn ?_
    unfold F_X1_isNumber
    exact b_Wf nk (b_We e_wrong (b_Wtwo (b_Wg (Or.inl rfl) (b_Ws rfl))))
theorem Ct_p {c : Int → Int} {n : Int} {C D : bM} {i : Nat} (f : ∀ (z : Nat) (j : Int), z = 1 ∨ z = 72 ∨ z = 104 ∨ z = 105 ∨ z = 106 → D z j = C z j) (h : Ct c n C i) : Ct c n D i := by
  obtain ⟨h1, h2, h3⟩ := h
  refine ⟨?_, ?_, ?_⟩
  · exact ⟨(f 1 1 (by decide)).trans h1.1, (cb_c (f 1 1 (by decide)) (funext fun i => f 72 i (by decide))).trans h1.2⟩
  · unfold Cs at h2 ⊢
    rw [f 1 7 (by decide), f 1 2 (by decide), f 1 3 (by decide), f 1 4 (by decide)]
    exact h2
  · unfold R_wd at h3 ⊢
    rw [show D 104 = C 104 from funext fun i => f 104 i (by decide), show D 105 = C 105 from funext fun i => f 105 i (by decide), show D 106 = C 106 from funext fun i => f 106 i (by decide)]
    exact h3
def W_aC : bW := W_cC ++ [(1, some 5), (1, some 6), (4, some 10)]
/-- what reading an ACT changes of the class -/
def Fc (cc : Nat) (C D : bM) : Prop := ∀ (z : Nat) (j : Int), b_ins W_aC z j = false → ¬ (12 ≤ z ∧ z < 62 ∧ z % 10 = cc % 10 ∧ (z < 52 ∨ j ≠ 0)) → D z j = C z j
theorem Fc_w {W : bW} {cc : Nat} {C D : bM} (f : b_fr W C D) (h : b_sbs W W_aC = true) : Fc cc C D := fun z j hz _ => b_fr_mo h f z j hz
theorem Fc_t {cc : Nat} {C D E : bM} (f : Fc cc C D) (g : Fc cc D E) : Fc cc C E := fun z j h1 h2 => (g z j h1 h2).trans (f z j h1 h2)
def Pj (C R : bM) (cc : Nat) (j : Int) : Prop := (C (cc + 20) j = R 184 (192 + j) * 100 + R 185 (192 + j) ∧ 0 ≤ R 184 (192 + j) ∧ R 184 (192 + j) ≤ 6) ∧ 0 ≤ C (cc + 40) j ∧ C (cc + 40) (j + 1) ≤ C 4 9 ∧ Pc R (C 108) (C (cc + 40) j) (C (cc + 40) (j + 1)) (192 + j) ∧ W_prog R (192 + j)
def Cl (c : Int → Int) (n : Int) (C R : bM) (cc i N : Nat) : Prop := (Ct c n C i ∧ Rt c R i ∧ (i : Int) ≤ qT c i) ∧ (C 4 8 = cc ∧ 12 ≤ cc ∧ cc < 22) ∧ (C cc 1 = N ∧ R 183 98 = N ∧ N ≤ 24) ∧ (C (cc + 40) N = C 4 9 ∧ C (cc + 40) 0 = 0 ∧ 0 ≤ C 4 9 ∧ C 4 9 ≤ qT c i) ∧ N3 R ∧ ∀ j : Int, 0 ≤ j → j < N → Pj C R cc j
/-- proofs before the one that is read are kept -/
theorem Pj_k {C D R Q : bM} {cc N : Nat} {p : Int} (hp : p = 192 + N) (h : ∀ j : Int, 0 ≤ j → j < N → Pj C R cc j) (hf : Fp p R Q) (h45 : ∀ j, j ≠ p → Q 184 j = R 184 j ∧ Q 185 j = R 185 j) (hD : ∀ j : Int, 0 ≤ j → j < N → D (cc + 20) j = C (cc + 20) j) (hD4 : ∀ j : Int, 0 ≤ j → j ≤ N → D (cc + 40) j = C (cc + 40) j) (h8 : ∀ x, x < C 4 9 → D 108 x = C 108 x) (h9 : C 4 9 ≤ D 4 9) : ∀ j : Int, 0 ≤ j → j < N → Pj D Q cc j := by
  intro j j0 j1
  obtain ⟨a, b, d, e, f⟩ := h j j0 j1
  unfold Pj
  rw [hD j j0 j1, hD4 j j0 (by omega), hD4 (j + 1) (by omega) (by omega), (h45 (192 + j) (by omega)).1, (h45 (192 + j) (by omega)).2]
  have mv := Pc_mv (Q := Q) (dd := D 108) (r := 192 + j) e f (h45 (192 + j) (by omega)).2 (hf.1 (192 + j) (by omega)).2 (fun m m0 m1 => hf.2.1 _ (by omega)) (fun t t0 t1 => hf.2.2.1 _ (by omega)) (fun y y0 y1 => hf.2.2.2.1 _ (by omega)) (fun x _ hx => h8 x (by omega))
  exact ⟨a, b, by omega, mv.1, mv.2⟩
