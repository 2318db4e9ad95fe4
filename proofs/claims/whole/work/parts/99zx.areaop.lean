theorem mul_b2 {a b A : Int} (h1 : -A ≤ a ∧ a ≤ A) (h2 : -A ≤ b ∧ b ≤ A) (hA : 0 ≤ A) : -(A * A) ≤ a * b ∧ a * b ≤ A * A := by
  by_cases c : 0 ≤ b
  · exact mul_bd h1 ⟨c, h2.2⟩ hA
  · have := mul_bd (a := a) (b := -b) (A := A) (B := A) h1 (by omega) hA
    rw [Int.mul_neg] at this
    omega
/-- twice the area -/
theorem g_shoe {X Y : Nat → Int} {n : Nat} (h : gP X Y n) : gS (fun i => X i * Y (i + 1) - X (i + 1) * Y i) n = 2 * gS (fun i => X i * (Y (i + 1) - Y i)) n := by
  obtain ⟨h4, ⟨hx, hy⟩, hs, _, _⟩ := h
  have t := gS_tel (T := fun i => X i * Y i) n
  have e : gS (fun i => X i * Y (i + 1) - X (i + 1) * Y i) n = gS (fun i => 2 * (X i * (Y (i + 1) - Y i)) - (X (i + 1) * Y (i + 1) - X i * Y i)) n := by
    refine gS_c n (fun i hi => ?_)
    show X i * Y (i + 1) - X (i + 1) * Y i = 2 * (X i * (Y (i + 1) - Y i)) - (X (i + 1) * Y (i + 1) - X i * Y i)
    rw [Int.mul_sub]
    rcases hs i hi with q | q
    · rw [q.1]; omega
    · rw [q.1]; omega
  rw [e, gS_sub, gS_mul]
  have t2 : gS (fun i => X (i + 1) * Y (i + 1) - X i * Y i) n = X n * Y n - X 0 * Y 0 := t
  rw [t2, hx, hy]
  omega
theorem t_areaOf {M N : bM} {l v : Int} (h : Pg M l) (hv : v = 0) (h175 : N 175 l = M 94 l) (hT : ∀ k : Nat, (k : Int) ≤ M 94 l → N 180 (v + k) = gX M l k ∧ N 181 (v + k) = gY M l k) {A : Int} (hA : gS (fun i => gX M l i * gY M l (i + 1) - gX M l (i + 1) * gY M l i) (M 94 l).toNat = 2 * A) : b_wp (F_X12_areaOf l v N) (fun x => x = max A (-A)) := by
  have hn := h.1.2.1
  have hl := h.1.1
  unfold F_X12_areaOf
  refine b_Wb (b_wp_m (fun r z => ?_) (b_loop_ind (P := fun r : Int => r = 2 * A ∧ -1987003224 ≤ r ∧ r ≤ 1987003224) (I := fun s : Int × Int => (0 ≤ s.2 ∧ s.2 ≤ M 94 l) ∧ s.1 = gS (fun i => gX M l i * gY M l (i + 1) - gX M l (i + 1) * gY M l i) s.2.toNat ∧ -165583602 * s.2 ≤ s.1 ∧ s.1 ≤ 165583602 * s.2) (fun s => (M 94 l - s.2).toNat) ?_ (0, 0) ⟨by dsimp only; omega, rfl, by dsimp only; omega, by dsimp only; omega⟩))
  · unfold F_X12_areaOf_b68
    refine b_Wi (fun a => b_Ws ?_) (fun a => b_Wg (by omega) (b_Ws ?_))
    · rw [i_div_e (by omega) (by decide)]; omega
    · rw [i_div_e (by omega) (by decide)]; omega
  · intro ⟨r, i⟩ ⟨g1, g2, g3⟩
    dsimp only at g1 g2 g3 ⊢
    unfold F_X12_areaOf_s5
    rw [h175]
    refine b_Wg (by omega) (b_Wi (fun c => b_Ws ⟨?_, by omega, by omega⟩) (fun c => ?_))
    · rw [g2, show i.toNat = (M 94 l).toNat by omega, hA]
    have t1 := hT i.toNat (by omega)
    have t2 := hT (i.toNat + 1) (by omega)
    rw [show v + ((i.toNat : Nat) : Int) = v + i by omega] at t1
    rw [show v + ((i.toNat + 1 : Nat) : Int) = v + i + 1 by omega] at t2
    have d1 := gXY_b h.1 h.2.1 h.2.2.1 h.2.2.2.1 h.2.2.2.2 i.toNat (by omega)
    have d2 := gXY_b h.1 h.2.1 h.2.2.1 h.2.2.2.1 h.2.2.2.2 (i.toNat + 1) (by omega)
    have st : gS (fun i => gX M l i * gY M l (i + 1) - gX M l (i + 1) * gY M l i) (i + 1).toNat = gS (fun i => gX M l i * gY M l (i + 1) - gX M l (i + 1) * gY M l i) i.toNat + (gX M l i.toNat * gY M l (i.toNat + 1) - gX M l (i.toNat + 1) * gY M l i.toNat) := by
      rw [show (i + 1).toNat = i.toNat + 1 by omega]
      rfl
    rw [t1.1, t1.2, t2.1, t2.2]
    have m1 := mul_b2 (a := gX M l i.toNat) (b := gY M l (i.toNat + 1)) (A := 9099) (by omega) (by omega) (by decide)
    have m2 := mul_b2 (a := gX M l (i.toNat + 1)) (b := gY M l i.toNat) (A := 9099) (by omega) (by omega) (by decide)
    generalize gX M l i.toNat * gY M l (i.toNat + 1) = p1 at *
    generalize gX M l (i.toNat + 1) * gY M l i.toNat = p2 at *
    refine b_Wg (by omega) (b_Wl (b_Wg (by omega) (b_Ws ⟨⟨by dsimp only; omega, ?_, by dsimp only; omega, by dsimp only; omega⟩, by dsimp only; omega⟩)))
    dsimp only
    rw [st, g2]
theorem Bd_of {M : bM} {l : Int} (h : R_bd M) (hl : 0 ≤ l ∧ l < 60) : Bd M l := h l hl.1 hl.2
theorem Nr_0 {M N : bM} (h : Nf M N) : Nr M N := fun c j a1 a2 a3 a4 _ _ => h c j a1 a2 a3 a4
theorem op_area {l : Int} {M : bM} (hL : R_lots M) (hS : R_shape M) (hb : R_bd M) (hc : R_cor M) : b_wp (F_X11_area l M) (fun o => b_wp (F_X12_area l o.2) (fun o2 => o.1 = o2.1)) := by
  have l1 := hL.1
  have ew := e_withoutBounds (M := M) (l := l) (by omega)
  have eb : ∀ N : bM, Nf M N → F_X12_bad l N = some (if 0 ≤ l ∧ l < M 3 0 then (if M 94 l = 0 then -4 else 0) else -2) := by
    intro N hN
    have e := e_bad (M := N) (l := l) (n := M 3 0) (by rw [hN 11 20 (by decide) (by decide) (by decide) (by decide)]; omega) (by rw [hN 11 20 (by decide) (by decide) (by decide) (by decide)]; exact l1.1)
    rw [hN 175 l (by decide) (by decide) (by decide) (by decide), hS.1.1] at e
    exact e
  unfold F_X11_area
  refine b_We ew ?_
  by_cases q : 0 ≤ l ∧ l < M 3 0
  · by_cases q2 : M 94 l = 0
    · rw [if_pos q, if_pos q2]
      refine b_Wf (by decide) (b_Ws ?_)
      dsimp only
      unfold F_X12_area
      have e := eb M (fun _ _ _ _ _ _ => rfl)
      rw [if_pos q, if_pos q2] at e
      exact b_We e (b_Wf (by decide) (b_We e (b_Ws rfl)))
    · rw [if_pos q, if_neg q2]
      refine b_Wt (by decide) ?_
      have Ll := Ln_of hS (l := l) (by omega)
      have cl := hc l (by omega) (by omega)
      have bl := Bd_of hb (l := l) (by omega)
      have he : M 176 l = M 95 l ∧ M 177 l = M 96 l := ⟨by rw [hS.1.2.1], by rw [hS.1.2.2]⟩
      refine b_Wb (b_wp_m (fun o z => ?_) (t_enclose Ll cl bl (N := M) (fun _ _ _ _ _ _ => rfl)))
      obtain ⟨x, Q⟩ := o
      obtain ⟨z1, z2⟩ := z
      dsimp only at z1 z2
      have nQ : Nf M Q := fun c j a1 a2 a3 a4 => z1 c j a1 a2
      refine b_Wtwo ?_
      dsimp only
      rcases z2 with ⟨z2, z3⟩ | ⟨z2, z3⟩
      · have hP := Pg_of Ll cl bl z3.2.1.1 z3.2.1.2
        refine b_Wf (by omega) (b_Wb (b_wp_m (fun o y => ?_) (t_within hP hP nQ)))
        obtain ⟨y1, R⟩ := o
        obtain ⟨nR, y2⟩ := y
        dsimp only at nR y2
        refine b_Wtwo (b_Ws ?_)
        dsimp only
        unfold F_X12_area
        have e := eb R nR
        rw [if_pos q, if_neg q2] at e
        refine b_We e (b_Wt rfl (b_Wb (b_wp_m (fun o w => ?_) (t_isArea Ll cl bl he (Nr_0 nR) (Or.inl rfl)))))
        obtain ⟨u, S⟩ := o
        obtain ⟨w1, w2, w3⟩ := w
        dsimp only at w1 w2 w3
        refine b_Wtwo ?_
        dsimp only
        rcases w3 with ⟨w3, _, w4⟩ | ⟨w3, w4⟩
        · refine b_Wf (by omega) ?_
          have gp := gE_P hP z3
          have hn := Ll.2.1
          have bd := gXY_b hP.1 hP.2.1 hP.2.2.1 hP.2.2.2.1 hP.2.2.2.2
          have bx : ∀ i, i ≤ (M 94 l).toNat → (-9999 : Int) ≤ gX M l i ∧ gX M l i ≤ -9999 + ((19998 : Nat) : Int) := fun i hi => by have := bd i (by omega); omega
          have by' : ∀ i, i ≤ (M 94 l).toNat → (-9999 : Int) ≤ gY M l i ∧ gY M l i ≤ -9999 + ((19998 : Nat) : Int) := fun i hi => by have := bd i (by omega); omega
          have hS2 := g_sum (X := gX M l) (Y := gY M l) (X2 := gX M l) (Y2 := gY M l) gp.2.1.2 gp.2.1.2 bx bx by' by'
          have hA2 := g_area (X := gX M l) (Y := gY M l) gp.2.1.2 bx by'
          have fin := g_one gp (S := gSm M l l) (A := gS (fun i => gX M l i * (gY M l (i + 1) - gY M l i)) (M 94 l).toNat) hS2 hA2.symm
          refine b_Wb (b_wp_m (fun x' e' => b_Ws ?_) (t_areaOf hP rfl ?_ w4 (g_shoe gp)))
          · dsimp only
            rw [e', y2]
            exact fin
          · rw [w1 175 l (by decide) (by decide), nR 175 l (by decide) (by decide) (by decide) (by decide), hS.1.1]
        · exact absurd z3 w4
      · refine b_Wt z2 (b_Ws ?_)
        dsimp only
        unfold F_X12_area
        have e := eb Q nQ
        rw [if_pos q, if_neg q2] at e
        refine b_We e (b_Wt rfl (b_Wb (b_wp_m (fun o w => ?_) (t_isArea Ll cl bl he (Nr_0 nQ) (Or.inl rfl)))))
        obtain ⟨u, S⟩ := o
        obtain ⟨w1, w2, w3⟩ := w
        dsimp only at w1 w2 w3
        refine b_Wtwo ?_
        dsimp only
        rcases w3 with ⟨w3, w4, _⟩ | ⟨w3, w4⟩
        · exact absurd w4 z3
        · exact b_Wt w3 (b_Ws rfl)
  · rw [if_neg q]
    refine b_Wf (by decide) (b_Ws ?_)
    dsimp only
    unfold F_X12_area
    have e := eb M (fun _ _ _ _ _ _ => rfl)
    rw [if_neg q] at e
    exact b_We e (b_Wf (by decide) (b_We e (b_Ws rfl)))
