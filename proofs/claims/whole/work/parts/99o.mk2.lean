def W_mk2 : bW := [(11, some 80), (11, some 81), (11, some 82), (11, some 83), (11, some 84), (11, some 85), (11, some 86), (11, some 87), (219, none), (220, none), (221, none), (222, none), (223, none)]
theorem w_mk2_s73 {v4 : Int} {v5 : Int} {M0 M : bM} (hF : b_fr W_mk2 M0 M) : b_wl (F_X12_makeChain_s73 v4 v5 M) (Sum.elim (fun _ : Int × Int => True) (fun _ : Int => True)) := by
  unfold F_X12_makeChain_s73
  refine b_wl_i (fun c15 => ?_) (fun c15 => ?_)
  · exact b_wl_s trivial
  · refine b_wl_b b_wl_any (fun o _ => ?_)
    refine b_wl_i (fun c17 => ?_) (fun c17 => ?_)
    · refine b_wl_g (fun hg => ?_)
      exact b_wl_s trivial
    · refine b_wl_g (fun hg => ?_)
      refine b_wl_b b_wl_any (fun o _ => ?_)
      refine b_wl_i (fun c21 => ?_) (fun c21 => ?_)
      · refine b_wl_g (fun hg => ?_)
        exact b_wl_s trivial
      · refine b_wl_g (fun hg => ?_)
        exact b_wl_s trivial
theorem w_mk2_s136 {v4 : Int} {v5 : Int} {v6 : Int} {v7 : Int} {M0 M : bM} (hF : b_fr W_mk2 M0 M) : b_wl (F_X12_makeChain_s136 v4 v5 v6 v7 M) (Sum.elim (fun t : Int × Int × Int × bM => b_fr W_mk2 M0 t.2.2.2) (fun t : Int × Int × bM => b_fr W_mk2 M0 t.2.2)) := by
  unfold F_X12_makeChain_s136
  refine b_wl_i (fun c26 => ?_) (fun c26 => ?_)
  · exact b_wl_s hF
  · refine b_wl_b b_wl_any (fun o _ => ?_)
    refine b_wl_i (fun c28 => ?_) (fun c28 => ?_)
    · refine b_wl_g (fun hg => ?_)
      exact b_wl_s hF
    · refine b_wl_b b_wl_any (fun o _ => ?_)
      refine b_wl_b (w_X12_fewest b_fr_refl) (fun o ho => ?_)
      refine b_wl_two ?_
      replace hF := b_fr_tr hF (b_fr_mo (by decide +kernel) ho)
      refine b_wl_i (fun c33 => ?_) (fun c33 => ?_)
      · refine b_wl_g (fun hg => ?_)
        exact b_wl_s hF
      · refine b_wl_b b_wl_any (fun o _ => ?_)
        refine b_wl_g (fun hg => ?_)
        exact b_wl_s hF
theorem w_mk2_s270 {v5 : Int} {v7 : Int} {v8 : Int} {v9 : Int} {M0 M : bM} (hF : b_fr W_mk2 M0 M) : b_wl (F_X12_makeChain_s270 v5 v7 v8 v9 M) (Sum.elim (fun t : Int × Int × Int × bM => b_fr W_mk2 M0 t.2.2.2) (fun t : Int × Int × bM => b_fr W_mk2 M0 t.2.2)) := by
  unfold F_X12_makeChain_s270
  refine b_wl_i (fun c40 => ?_) (fun c40 => ?_)
  · exact b_wl_s hF
  · refine b_wl_b b_wl_any (fun o _ => ?_)
    refine b_wl_i (fun c42 => ?_) (fun c42 => ?_)
    · exact b_wl_s hF
    · refine b_wl_g (fun hg => ?_)
      refine b_wl_i (fun c44 => ?_) (fun c44 => ?_)
      · refine b_wl_g (fun hg => ?_)
        exact b_wl_s hF
      · refine b_wl_g (fun hg => ?_)
        refine b_wl_i (fun c48 => ?_) (fun c48 => ?_)
        · refine b_wl_g (fun hg => ?_)
          exact b_wl_s hF
        · refine b_wl_b b_wl_any (fun o _ => ?_)
          refine b_wl_i (fun c51 => ?_) (fun c51 => ?_)
          · refine b_wl_b b_wl_any (fun o _ => ?_)
            refine b_wl_lF (c := 11) (i := 87) hF (by decide +kernel) (fun hF => ?_)
            refine b_wl_g (fun hg => ?_)
            exact b_wl_s hF
          · refine b_wl_g (fun hg => ?_)
            exact b_wl_s hF
theorem w_mk2_b353 {v5 : Int} {v7 : Int} {v8 : Int} {M0 M : bM} (hF : b_fr W_mk2 M0 M) : b_wl (F_X12_makeChain_b353 v5 v7 v8 M) (Sum.elim (fun t : Int × Int × Int × bM => b_fr W_mk2 M0 t.2.2.2) (fun t : Int × Int × bM => b_fr W_mk2 M0 t.2.2)) := by
  unfold F_X12_makeChain_b353
  refine b_wl_g (fun hg => ?_)
  exact b_wl_s hF
theorem w_mk2_s258 {v5 : Int} {v7 : Int} {v8 : Int} {M0 M : bM} (hF : b_fr W_mk2 M0 M) : b_wl (F_X12_makeChain_s258 v5 v7 v8 M) (Sum.elim (fun t : Int × Int × Int × bM => b_fr W_mk2 M0 t.2.2.2) (fun t : Int × Int × bM => b_fr W_mk2 M0 t.2.2)) := by
  unfold F_X12_makeChain_s258
  refine b_wl_i (fun c39 => ?_) (fun c39 => ?_)
  · exact b_wl_s hF
  · refine b_wl_b (b_wl_loop (A := (fun t : Int × Int × Int × bM => b_fr W_mk2 M0 t.2.2.2)) (fun t ht => w_mk2_s270 ht) hF) (fun t ht => ?_)
    replace hF : b_fr W_mk2 M0 t.2.2 := ht
    exact w_mk2_b353 hF
theorem w_mk2_b359 {v5 : Int} {v7 : Int} {M0 M : bM} (hF : b_fr W_mk2 M0 M) : b_wl (F_X12_makeChain_b359 v5 v7 M) (fun o : Int × bM => b_fr W_mk2 M0 o.2) := by
  unfold F_X12_makeChain_b359
  refine b_wl_i (fun c57 => ?_) (fun c57 => ?_)
  · exact b_wl_s hF
  · refine b_wl_lF (c := 11) (i := 84) hF (by decide +kernel) (fun hF => ?_)
    refine b_wl_lA (c := 219) hF (by decide +kernel) (fun hF => ?_)
    refine b_wl_lF (c := 11) (i := 86) hF (by decide +kernel) (fun hF => ?_)
    refine b_wl_lF (c := 11) (i := 85) hF (by decide +kernel) (fun hF => ?_)
    exact b_wl_s hF
theorem w_mk2_b209 {v5 : Int} {v6 : Int} {M0 M : bM} (hF : b_fr W_mk2 M0 M) : b_wl (F_X12_makeChain_b209 v5 v6 M) (fun o : Int × bM => b_fr W_mk2 M0 o.2) := by
  unfold F_X12_makeChain_b209
  refine b_wl_i (fun c38 => ?_) (fun c38 => ?_)
  · refine b_wl_b (b_wl_loop (A := (fun t : Int × Int × Int × bM => b_fr W_mk2 M0 t.2.2.2)) (fun t ht => w_mk2_s258 ht) hF) (fun t ht => ?_)
    replace hF : b_fr W_mk2 M0 t.2.2 := ht
    exact w_mk2_b359 hF
  · refine b_wl_b (w_X12_fewest b_fr_refl) (fun o ho => ?_)
    refine b_wl_two ?_
    replace hF := b_fr_tr hF (b_fr_mo (by decide +kernel) ho)
    refine b_wl_b b_wl_any (fun o _ => ?_)
    refine b_wl_lF (c := 11) (i := 87) hF (by decide +kernel) (fun hF => ?_)
    refine b_wl_b (w_X12_takeLinks b_fr_refl) (fun o ho => ?_)
    replace hF := b_fr_tr hF (b_fr_mo (by decide +kernel) ho)
    refine b_wl_b b_wl_any (fun o _ => ?_)
    refine b_wl_lF (c := 11) (i := 85) hF (by decide +kernel) (fun hF => ?_)
    exact b_wl_s hF
theorem w_mk2_b190 {v4 : Int} {v5 : Int} {v6 : Int} {M0 M : bM} (hF : b_fr W_mk2 M0 M) : b_wl (F_X12_makeChain_b190 v4 v5 v6 M) (fun o : Int × bM => b_fr W_mk2 M0 o.2) := by
  unfold F_X12_makeChain_b190
  refine b_wl_i (fun c37 => ?_) (fun c37 => ?_)
  · refine b_wl_i (fun c69 => ?_) (fun c69 => ?_)
    · exact w_mk2_b209 hF
    · refine b_wl_lF (c := 11) (i := 87) hF (by decide +kernel) (fun hF => ?_)
      exact b_wl_s hF
  · exact w_mk2_b209 hF
theorem w_mk2_b128 {v4 : Int} {u0 : Int} {M0 M : bM} (hF : b_fr W_mk2 M0 M) : b_wl (F_X12_makeChain_b128 v4 u0 M) (fun o : Int × bM => b_fr W_mk2 M0 o.2) := by
  unfold F_X12_makeChain_b128
  refine b_wl_b (b_wl_loop (A := (fun t : Int × Int × Int × bM => b_fr W_mk2 M0 t.2.2.2)) (fun t ht => w_mk2_s136 ht) hF) (fun t ht => ?_)
  replace hF : b_fr W_mk2 M0 t.2.2 := ht
  exact w_mk2_b190 hF
theorem w_mk2_b111 {v4 : Int} {M0 M : bM} (hF : b_fr W_mk2 M0 M) : b_wl (F_X12_makeChain_b111 v4 M) (fun o : Int × bM => b_fr W_mk2 M0 o.2) := by
  unfold F_X12_makeChain_b111
  refine b_wl_b (w_X12_makeWays b_fr_refl) (fun o ho => ?_)
  replace hF := b_fr_tr hF (b_fr_mo (by decide +kernel) ho)
  refine b_wl_i (fun c25 => ?_) (fun c25 => ?_)
  · exact w_mk2_b128 hF
  · exact w_mk2_b128 hF
theorem w_mk2_b22 {v1 : Int} {v2 : Int} {v3 : Int} {u1 : Int} {M0 M : bM} (hF : b_fr W_mk2 M0 M) : b_wl (F_X12_makeChain_b22 v1 v2 v3 u1 M) (fun o : Int × bM => b_fr W_mk2 M0 o.2) := by
  unfold F_X12_makeChain_b22
  refine b_wl_g (fun hg => ?_)
  refine b_wl_lF (c := 11) (i := 80) hF (by decide +kernel) (fun hF => ?_)
  refine b_wl_lF (c := 11) (i := 81) hF (by decide +kernel) (fun hF => ?_)
  refine b_wl_g (fun hg => ?_)
  refine b_wl_lF (c := 11) (i := 82) hF (by decide +kernel) (fun hF => ?_)
  refine b_wl_lF (c := 11) (i := 83) hF (by decide +kernel) (fun hF => ?_)
  refine b_wl_lF (c := 11) (i := 86) hF (by decide +kernel) (fun hF => ?_)
  refine b_wl_lF (c := 11) (i := 84) hF (by decide +kernel) (fun hF => ?_)
  refine b_wl_lF (c := 11) (i := 85) hF (by decide +kernel) (fun hF => ?_)
  refine b_wl_g (fun hg => ?_)
  refine b_wl_l ?_
  refine b_wl_b (b_wl_loop (A := (fun _ : Int × Int => True)) (fun t ht => w_mk2_s73 hF) trivial) (fun t ht => ?_)
  exact w_mk2_b111 hF
theorem b_wp_and {α : Type} {x : Option α} {P K : α → Prop} (h : b_wp x P) (h2 : b_wp x K) : b_wp x (fun a => P a ∧ K a) := by
  cases x with
  | none => exact h
  | some a => exact ⟨h, h2⟩
theorem b_wl_of {α : Type} {x : Option α} {P K : α → Prop} (h : b_wl x P) (h2 : b_wp x K) : b_wp x P := b_wp_m (fun _ z => z.1) (b_wl_wp h h2)
/-- what the reference's board shows after a CHAIN was made -/
theorem t_mkS {M : bM} {d l p : Int} (hG : G_all M d) (hP : P_all M) (hRr : R_root M) (hl : 0 ≤ l ∧ l < M 3 0) (hp : 0 ≤ p ∧ p < M 2 0) : b_wp (F_X12_makeChain l p d M) (fun o => ∀ b, 0 ≤ b → b < M 6 0 → o.2 209 (3 * b) = g_G M b ∧ o.2 209 (3 * b + 1) = g_T M b ∧ o.2 209 (3 * b + 2) = g_L M b ∧ F_X12_pointsOf b o.2 = some (g_p M b)) := by
  unfold F_X12_makeChain
  refine b_Wb (b_wp_m (fun N y => ?_) (t_made (d := d) hG.1 hP))
  obtain ⟨y1, y2, y3, y4⟩ := y
  have hGN : G_all N d := G_shown y1 hG
  have hO : O_all N d := ⟨hGN, y4, y3, R_root_k (b_kp1 y1 (by decide +kernel)) hRr⟩
  have n3 : N 3 0 = M 3 0 := y1 3 0 (by decide)
  have n2 : N 2 0 = M 2 0 := y1 2 0 (by decide)
  have n6 : N 6 0 = M 6 0 := y1 6 0 (by decide)
  have n126 : N 126 = M 126 := funext fun i => y1 126 i (by simp [b_ins, W_X12_makeShown])
  have fin : ∀ O : bM, b_fr W_mk2 N O → ∀ b, 0 ≤ b → b < M 6 0 → O 209 (3 * b) = g_G M b ∧ O 209 (3 * b + 1) = g_T M b ∧ O 209 (3 * b + 2) = g_L M b ∧ F_X12_pointsOf b O = some (g_p M b) := by
    intro O f b b0 b1
    have h6 := hGN.1.2.2.2.2.2.2.2.2.2
    have e52 := hGN.1.2.2.2.2.2.2.2.2.1
    have ho := y4.2 b b0 (by omega)
    have ho2 : Of N d b O := by
      unfold Of at ho ⊢
      rw [show O 209 = N 209 from funext fun i => f 209 i (by simp [b_ins, W_mk2]), show O 210 = N 210 from funext fun i => f 210 i (by simp [b_ins, W_mk2]), show O 211 = N 211 from funext fun i => f 211 i (by simp [b_ins, W_mk2]), show O 212 = N 212 from funext fun i => f 212 i (by simp [b_ins, W_mk2]), show O 213 = N 213 from funext fun i => f 213 i (by simp [b_ins, W_mk2])]
      exact ho
    have hf := hGN.2.2.2.2.2 b b0 (by omega)
    obtain ⟨u0, u1, u2, u3, u4, u5, u6, u7, u8, u9⟩ := EO_eq hf ho2
    rw [n126] at u0 u1 u2 u8
    refine ⟨u0.symm, u1.symm, u2.symm, ?_⟩
    rw [e_pts ho2 (by omega)]
    exact congrArg some u8.symm
  refine b_We (e_X12_ruleOn y2.2.2.2.2.2.2.1 (by omega)) ?_
  refine b_Wi (fun q => ?_) (fun q => ?_)
  · exact b_wp_m (fun o w => fin o.2 w) (b_wl_of (w_mk2_b22 b_fr_refl) (t_mkChain1 hO (by omega) (by omega) (Or.inr rfl) ⟨fun _ => q, fun _ => rfl⟩))
  · exact b_wp_m (fun o w => fin o.2 w) (b_wl_of (w_mk2_b22 b_fr_refl) (t_mkChain1 hO (by omega) (by omega) (Or.inl rfl) ⟨fun z => absurd z (by decide), fun z => absurd z q⟩))
