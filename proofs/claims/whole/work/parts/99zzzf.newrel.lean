theorem x_cpI {f : Int → Int} {A B n j : Int} (h : 0 ≤ j ∧ j < n) : x_cp f A B n (A + j) = f (B + j) := by
  unfold x_cp; rw [if_pos (by omega), show A + j - A = j by omega]
theorem x_cpO {f : Int → Int} {A B n j : Int} (h : ¬ (A ≤ j ∧ j < A + n)) : x_cp f A B n j = f j := by
  unfold x_cp; rw [if_neg h]
theorem t_mix {M D Q R S E : bM} {cc i N : Nat} {Z n d : Int} {c : Int → Int} (hRu : R_rules M) (hPr : R_prog M) (hCo : R_code M) (hday : d = M 11 11) (h40 : M 4 0 < 8) (hcc : (cc : Int) = 13 + M 4 0) (hR : ∀ (z : Nat) (j : Int), (162 ≤ z ∧ z ≠ 1000) ∨ z = 11 → R z j = M z j) (fm : Fm cc M D) (fb : Fb R Q) (cx : Cx c n D Q cc i N Z) (hE : E = fEn (b_up D 1 1 0) d) (h9 : D 4 9 < 1000) (cp : Cpd Q S (M 4 0)) : R_rules (mix E S) ∧ R_prog (mix E S) ∧ R_code (mix E S) := by
  obtain ⟨cl, ru, _, _⟩ := cx
  obtain ⟨_, ⟨b1, b2, b3⟩, ⟨c1, c2, c3⟩, ⟨d1, d2, d3, d4⟩, e1, f1⟩ := cl
  obtain ⟨s35, s11, sz, s182, s183, ⟨s184, s185, s186, s187⟩, s188, ⟨s189, s190, s191⟩, s192, s193⟩ := cp
  obtain ⟨m35, m0, m8⟩ := hRu.1
  obtain ⟨fE1, fE2, fE3, fE4, fE5⟩ := fEn_f (D := b_up D 1 1 0) (cc := cc) (d := d) (by rw [b_upc (by decide)]; exact b1) ⟨b2, b3⟩
  rw [← hE] at fE1 fE2 fE3 fE4 fE5
  rw [b_upc (show (4 : Nat) ≠ 1 by decide)] at fE3 fE5
  have D40 : D 4 0 = M 4 0 := fm 4 0 (by decide) (by omega)
  have e40 : E 4 0 = M 4 0 + 1 := by rw [fE3, D40]
  -- the class's cells of the new ACT
  have kN : ∀ (z : Nat) (j : Int), 12 ≤ z → z < 62 → ¬ (z = cc ∧ j = 0) → E z j = D z j := fun z j h1 h2 h3 => by
    rw [fE1 z j h3 (by omega) (by omega) (by omega), b_upc (by omega)]
  -- the class's cells of ACTS before
  have kO : ∀ (z : Nat) (j : Int), 12 ≤ z → z < 72 → z % 10 ≠ cc % 10 → E z j = M z j := fun z j h1 h2 h3 => by
    rw [fE1 z j (by omega) (by omega) (by omega) (by omega), b_upc (by omega)]
    refine fm z j ?_ (by omega)
    simp [b_ins, W_aM, W_aC, W_cC, W_tC, W_sumC, W_rw]
    omega
  have kG : ∀ j : Int, j ≠ ((cc + 50 : Nat) : Int) → E 1000 j = M 1000 j := fun j hj => by
    rw [fE1 1000 j (by omega) (by omega) (by omega) (fun q => hj q.2), b_upc (by decide)]
    exact fm 1000 j (by simp [b_ins, W_aM, W_aC, W_cC, W_tC, W_sumC, W_rw]) (by omega)
  -- the reference's cells of ACTS before
  obtain ⟨fb1, fb2, fb3, fb4, fb5, fb6, _⟩ := fb
  have q35 : Q 11 35 = M 4 0 := by rw [fb1 11 35 (by decide), hR 11 35 (by decide)]; exact m35
  have r182 : ∀ j, Q 182 j = M 182 j := fun j => by rw [fb1 182 j (by simp [b_ins, W_aR, W_pR, W_cR, W_tR, W_X12_a0, W_X12_take]), hR 182 j (by decide)]
  have r183 : ∀ j, j < 88 ∨ 99 ≤ j → Q 183 j = M 183 j := fun j hj => by rw [fb6 j hj, hR 183 j (by decide)]
  have q11 : Q 11 11 = M 11 11 := by rw [fb1 11 11 (by decide), hR 11 11 (by decide)]
  have o4 : ∀ j, j < 24 * M 4 0 → (S 184 j = M 184 j ∧ S 185 j = M 185 j) ∧ S 187 j = M 187 j := fun j hj => by
    rw [s184, s185, s187, x_cpO (by omega), x_cpO (by omega), x_cpO (by omega), (fb2 j (by omega)).1.1, (fb2 j (by omega)).1.2, (fb2 j (by omega)).2.2, hR 184 j (by decide), hR 185 j (by decide), hR 187 j (by decide)]
    exact ⟨⟨rfl, rfl⟩, rfl⟩
  have o8 : ∀ j, j < 2400 * M 4 0 → S 188 j = M 188 j := fun j hj => by
    rw [s188, x_cpO (by omega), fb3 j (by omega), hR 188 j (by decide)]
  have o9 : ∀ j, j < 288 * M 4 0 → S 189 j = M 189 j ∧ S 190 j = M 190 j ∧ S 191 j = M 191 j := fun j hj => by
    rw [s189, s190, s191, x_cpO (by omega), x_cpO (by omega), x_cpO (by omega), (fb4 j (by omega)).1, (fb4 j (by omega)).2.1, (fb4 j (by omega)).2.2, hR 189 j (by decide), hR 190 j (by decide), hR 191 j (by decide)]
    exact ⟨rfl, rfl, rfl⟩
  have o2 : ∀ j, j < 1728 * M 4 0 → S 192 j = M 192 j ∧ S 193 j = M 193 j := fun j hj => by
    rw [s192, s193, x_cpO (by omega), x_cpO (by omega), (fb5 j (by omega)).1, (fb5 j (by omega)).2, hR 192 j (by decide), hR 193 j (by decide)]
    exact ⟨rfl, rfl⟩
  generalize hU : mix E S = U
  have uc : ∀ (z : Nat) (j : Int), (z < 162 ∧ z ≠ 11) ∨ z = 1000 → U z j = E z j := fun z j h => by subst hU; exact mix_c h
  have ur : ∀ (z : Nat) (j : Int), 162 ≤ z ∧ z < 1000 ∨ z = 11 → U z j = S z j := fun z j h => by subst hU; exact mix_r (by omega)
  clear hU
  have u40 : U 4 0 = M 4 0 + 1 := by rw [uc 4 0 (by decide)]; exact e40
  -- a proof of an ACT before
  have old : ∀ (p : Int) (cf df : Int → Int) (s e : Int), p < 24 * M 4 0 → Pc M cf s e p → W_prog M p → (∀ x, df x = cf x) → Pc U df s e p ∧ W_prog U p := by
    intro p cf df s e hp hP hW hx
    refine Pc_mv hP hW ?_ ?_ (fun m m0 m1 => ?_) (fun t t0 t1 => ?_) (fun y y0 y1 => ?_) (fun x _ _ => hx x)
    · rw [ur 185 p (by decide)]; exact (o4 p hp).1.2
    · rw [ur 187 p (by decide)]; exact (o4 p hp).2
    · rw [ur 188 _ (by decide)]; exact o8 _ (by omega)
    · rw [ur 189 _ (by decide), ur 190 _ (by decide), ur 191 _ (by decide)]; exact o9 _ (by omega)
    · rw [ur 192 _ (by decide), ur 193 _ (by decide)]; exact o2 _ (by omega)
  -- a proof of the new ACT
  have new : ∀ (j : Int), 0 ≤ j → j < N → Pc U (U (cc + 50)) (D (cc + 40) j) (D (cc + 40) (j + 1)) (24 * M 4 0 + j) ∧ W_prog U (24 * M 4 0 + j) := by
    intro j j0 j1
    obtain ⟨_, p2, p3, p4, p5⟩ := f1 j j0 j1
    refine Pc_mv p4 p5 ?_ ?_ (fun m m0 m1 => ?_) (fun t t0 t1 => ?_) (fun y y0 y1 => ?_) (fun x x0 x1 => ?_)
    · rw [ur 185 _ (by decide), s185, x_cpI (by omega)]
    · rw [ur 187 _ (by decide), s187, x_cpI (by omega)]
    · rw [ur 188 _ (by decide), s188, show 100 * (24 * M 4 0 + j) + m = 2400 * M 4 0 + (100 * j + m) by omega, x_cpI (by omega), show 19200 + (100 * j + m) = 100 * (192 + j) + m by omega]
    · rw [ur 189 _ (by decide), ur 190 _ (by decide), ur 191 _ (by decide), s189, s190, s191, show 12 * (24 * M 4 0 + j) + t = 288 * M 4 0 + (12 * j + t) by omega, x_cpI (by omega), x_cpI (by omega), x_cpI (by omega), show 2304 + (12 * j + t) = 12 * (192 + j) + t by omega]
      exact ⟨rfl, rfl, rfl⟩
    · rw [ur 192 _ (by decide), ur 193 _ (by decide), s192, s193, show 72 * (24 * M 4 0 + j) + y = 1728 * M 4 0 + (72 * j + y) by omega, x_cpI (by omega), x_cpI (by omega), show 13824 + (72 * j + y) = 72 * (192 + j) + y by omega]
      exact ⟨rfl, rfl⟩
    · rw [uc (cc + 50) x (by omega), fE4, b_upc (show (4 : Nat) ≠ 1 by decide), if_pos (by omega), b_upc (by decide)]
  have ccA : ∀ a : Nat, (a : Int) = M 4 0 + 1 → 12 + a = cc := fun a ha => by omega
  have u12 : U cc 1 = N := by rw [uc cc 1 (by omega), kN cc 1 (by omega) (by omega) (by omega)]; exact c1
  have u183 : ∀ j, 0 ≤ j → j < 11 → U 183 (11 * M 4 0 + j) = Q 183 (88 + j) := fun j j0 j1 => by rw [ur 183 _ (by decide), s183, x_cpI (by omega)]
  refine ⟨⟨⟨?_, by omega, by omega⟩, fun a a1 a2 => ?_, fun a a2 => ?_⟩, fun a a1 a2 j j0 j1 => ?_, fun a a1 a2 => ?_⟩
  · rw [ur 11 35 (by decide), u40]; exact s35
  · rw [uc (12 + a) 0 (by omega), ur 182 _ (by decide), s182]
    by_cases e : (a : Int) = M 4 0 + 1
    · rw [ccA a e, if_pos (by omega), fE2, q11]; exact hday
    · rw [if_neg (by omega), r182, kO (12 + a) 0 (by omega) (by omega) (by omega)]
      exact hRu.2.1 a a1 (by omega)
  · by_cases e : (a : Int) = M 4 0 + 1
    · have xm : x_mod (a : Int) = M 4 0 := by unfold x_mod; rw [if_neg (by omega)]; omega
      rw [xm, ccA a e, u12, u183 10 (by decide) (by decide), show (88 : Int) + 10 = 98 by decide]
      refine ⟨c2.symm, by omega, fun z => by omega, fun y y0 y1 => ?_⟩
      rw [show 22 + a = cc + 10 by omega, uc (cc + 10) y (by omega), kN (cc + 10) y (by omega) (by omega) (by omega), u183 y y0 (by omega)]
      exact ru y y0 y1
    · obtain ⟨t1, t2, t3, t4⟩ := hRu.2.2 a (by omega)
      have rw3 : ∀ y, 0 ≤ y → y < 11 → U 183 (11 * x_mod (a : Int) + y) = M 183 (11 * x_mod (a : Int) + y) := by
        intro y y0 y1
        rw [ur 183 _ (by decide), s183]
        unfold x_mod
        by_cases z : (a : Int) = 0
        · rw [if_pos z, x_cpO (by omega)]; exact r183 _ (by omega)
        · rw [if_neg z, x_cpO (by omega)]; exact r183 _ (by omega)
      rw [uc (12 + a) 1 (by omega), kO (12 + a) 1 (by omega) (by omega) (by omega), rw3 10 (by decide) (by decide)]
      refine ⟨t1, t2, t3, fun y y0 y1 => ?_⟩
      rw [uc (22 + a) y (by omega), kO (22 + a) y (by omega) (by omega) (by omega), rw3 y y0 (by omega)]
      exact t4 y y0 y1
  · by_cases e : a = M 4 0 + 1
    · subst e
      rw [show M 4 0 + 1 - 1 = M 4 0 by omega] at j1 ⊢
      rw [u183 10 (by decide) (by decide), show (88 : Int) + 10 = 98 by decide, c2] at j1
      exact (new j j0 j1).2
    · have W := hPr a a1 (by omega) j j0
      rw [ur 183 _ (by decide), s183, x_cpO (by omega), r183 _ (by omega)] at j1
      have Wp := W j1
      have r := hRu.2.2 a.toNat (by omega)
      have n24 : M 183 (11 * (a - 1) + 10) ≤ 24 := by
        have x1 := r.1
        have x2 := r.2.1
        unfold x_mod at x1
        rw [if_neg (by omega), show ((a.toNat : Nat) : Int) = a by omega] at x1
        omega
      have A := (hCo a.toNat (by omega) (by omega)).2 j j0 (by
        have x1 := r.1
        unfold x_mod at x1
        rw [if_neg (by omega), show ((a.toNat : Nat) : Int) = a by omega] at x1
        omega)
      have P := A.2.2.2.2
      rw [show ((a.toNat : Nat) : Int) = a by omega] at P
      exact (old (24 * (a - 1) + j) _ _ _ _ (by omega) P Wp (fun x => rfl)).2
  · by_cases e : (a : Int) = M 4 0 + 1
    · have ea := ccA a e
      have e52 : 52 + a = cc + 40 := by omega
      have e62 : 62 + a = cc + 50 := by omega
      unfold A_code
      rw [ea, e52, e62, show 32 + a = cc + 20 by omega, u12, uc (cc + 40) 0 (by omega), kN (cc + 40) 0 (by omega) (by omega) (by omega), uc 1000 _ (by decide), fE5, show (a : Int) - 1 = M 4 0 by omega]
      refine ⟨⟨d2, by omega⟩, fun j j0 j1 => ?_⟩
      obtain ⟨p1, p2, p3, p4, p5⟩ := f1 j j0 j1
      rw [uc (cc + 20) j (by omega), uc (cc + 40) j (by omega), uc (cc + 40) (j + 1) (by omega), kN (cc + 20) j (by omega) (by omega) (by omega), kN (cc + 40) j (by omega) (by omega) (by omega), kN (cc + 40) (j + 1) (by omega) (by omega) (by omega), ur 184 _ (by decide), ur 185 _ (by decide), s184, s185, x_cpI (by omega), x_cpI (by omega)]
      exact ⟨p1.1, p1.2, p2, p3, (new j j0 j1).1⟩
    · obtain ⟨⟨A1, A2⟩, A3⟩ := hCo a a1 (by omega)
      have r := hRu.2.2 a (by omega)
      unfold A_code
      rw [uc (52 + a) 0 (by omega), kO (52 + a) 0 (by omega) (by omega) (by omega), uc 1000 _ (by decide), kG _ (by omega), uc (12 + a) 1 (by omega), kO (12 + a) 1 (by omega) (by omega) (by omega)]
      refine ⟨⟨A1, A2⟩, fun j j0 j1 => ?_⟩
      obtain ⟨B1, B2, B3, B4, B5⟩ := A3 j j0 j1
      have n24 := r.2.1
      have W := hPr a (by omega) (by omega) j j0 (by
        have x1 := r.1
        unfold x_mod at x1
        rw [if_neg (by omega)] at x1
        omega)
      rw [uc (32 + a) j (by omega), uc (52 + a) j (by omega), uc (52 + a) (j + 1) (by omega), kO (32 + a) j (by omega) (by omega) (by omega), kO (52 + a) j (by omega) (by omega) (by omega), kO (52 + a) (j + 1) (by omega) (by omega) (by omega), ur 184 _ (by decide), ur 185 _ (by decide), (o4 _ (by omega)).1.1, (o4 _ (by omega)).1.2]
      exact ⟨B1, B2, B3, B4, (old _ _ _ _ _ (by omega) B5 W (fun x => by rw [uc (62 + a) x (by omega)]; exact kO (62 + a) x (by omega) (by omega) (by omega))).1⟩
