def Lo (M : bM) (d l p x : Int) (t : Nat) (b v : Int) : Prop := (-1 ≤ v ∧ v ≤ 9999) ∧ ∀ day, 0 ≤ day → (day ≤ v ↔ g_P M d l p x false t b day)
def Lr (M : bM) (d l p x : Int) (Q : bM) (T : Int) : Prop := ∀ (t : Nat) (b : Int), (t : Int) < T → 0 ≤ b → b < M 6 0 → Lo M d l p x t b (Q 220 (30 * (t : Int) + b))
/-- the reference's search, once ways are made -/
def Zw (M : bM) (d l p : Int) (N : bM) : Prop := Zc M d l p N ∧ Wy M d l p (M 6 0) N
theorem Zw_up {M N P : bM} {d l p : Int} (hZ : Zw M d l p N) (hP : ∀ c j, c ≠ 219 → c ≠ 220 → ¬ (c = 11 ∧ 84 ≤ j ∧ j ≤ 87) → P c j = N c j) : Zw M d l p P := by
  refine ⟨Zc_up hZ.1 (fun c j c1 c2 _ _ _ c6 => hP c j c1 c2 c6), ?_⟩
  have e1 : P 221 = N 221 := funext fun j => hP 221 j (by decide) (by decide) (by omega)
  have e2 : P 222 = N 222 := funext fun j => hP 222 j (by decide) (by decide) (by omega)
  have e3 : P 223 = N 223 := funext fun j => hP 223 j (by decide) (by decide) (by omega)
  unfold Wy
  rw [e1, e2, e3]
  exact hZ.2
theorem Zw_e {M N : bM} {d l p b : Int} (hO : O_all M d) (hZ : Zw M d l p N) (hb : 0 ≤ b ∧ b < M 6 0) : N 11 52 = M 6 0 ∧ N 211 b = g_B M b ∧ N 212 b = g_F M b ∧ F_X12_pointsOf b N = some (g_p M b) := by
  have b0 := hO.1.1.2.2.2.2.2.2.2.2.1
  obtain ⟨u0, u1, u2, u3, u4, u5⟩ := O_eq hO hb
  refine ⟨by rw [hZ.1.1 11 52 (by decide)]; exact b0, by rw [hZ.1.1 211 b rfl]; exact u3, by rw [hZ.1.1 212 b rfl]; exact u4, ?_⟩
  have e1 : N 209 = M 209 := funext fun i => hZ.1.1 209 i rfl
  have e2 : N 210 = M 210 := funext fun i => hZ.1.1 210 i rfl
  rw [← u5]
  have f1 : ∀ v t, F_X12_pointsOf_s2 v t N = F_X12_pointsOf_s2 v t M := fun v t => by unfold F_X12_pointsOf_s2; rw [e1]
  have f2 : ∀ v, F_X12_pointsOf_b29 v N = F_X12_pointsOf_b29 v M := fun v => by unfold F_X12_pointsOf_b29; simp only [e2, E_X12_lesser]
  unfold F_X12_pointsOf
  simp only [f1, f2]
theorem t_ml71 {M N : bM} {d l p x v1 b : Int} {t : Nat} (hO : O_all M d) (hZ : Zw M d l p N) (hL : Lr M d l p x N ((t : Int) + 1)) (ht : (t : Int) + 1 < 8) (hb : 0 ≤ b ∧ b < M 6 0) (hlk : g_lk M l b) : b_wp (b_loop (fun s : Int × Int => F_X12_makeLatest_s71 v1 ((t : Int) + 1) b s.1 1 s.2 N) (-1, 0)) (fun v => (-1 ≤ v ∧ v ≤ 9999) ∧ ∀ day, 0 ≤ day → (day ≤ v ↔ ∃ n, n ≠ b ∧ g_nx M d (x_lab M d (g_T M b)) n ∧ day ≤ g_F M n ∧ g_P M d l p x false t n (max day (g_B M n)))) := by
  have b1 := hO.1.1.2.2.2.2.2.2.2.2.2
  refine b_loop_ind (I := fun s : Int × Int => (0 ≤ s.2 ∧ s.2 ≤ M 6 0) ∧ (-1 ≤ s.1 ∧ s.1 ≤ 9999) ∧ ∀ day, 0 ≤ day → (day ≤ s.1 ↔ ∃ n, n < s.2 ∧ n ≠ b ∧ g_nx M d (x_lab M d (g_T M b)) n ∧ day ≤ g_F M n ∧ g_P M d l p x false t n (max day (g_B M n)))) (fun s => (M 6 0 - s.2).toNat) ?_ (-1, 0) ⟨by dsimp only; omega, by dsimp only; omega, fun day h => ⟨fun z => by dsimp only at z; omega, fun ⟨n, hn, _, _, _, w⟩ => by have := (g_P_lk w).1.1; dsimp only at hn; omega⟩⟩
  intro ⟨v, n⟩ ⟨h1, h2, h3⟩
  dsimp only at h1 h2 h3 ⊢
  unfold F_X12_makeLatest_s71
  have n52 : N 11 52 = M 6 0 := (Zw_e hO hZ hb).1
  rw [n52]
  by_cases q : M 6 0 ≤ n
  · refine b_Wt q (b_Ws ⟨h2, fun day hd => (h3 day hd).trans ⟨fun ⟨n', _, z⟩ => ⟨n', z⟩, fun ⟨n', z⟩ => ⟨n', ?_, z⟩⟩⟩)
    have := (g_P_lk z.2.2.2).1.1
    omega
  · have hn : 0 ≤ n ∧ n < M 6 0 := ⟨h1.1, by omega⟩
    obtain ⟨_, u3, u4, _⟩ := Zw_e hO hZ hn
    have hr := G_r hO.1 hn
    have hw := hZ.2.2.1 b n hb.1 hb.2 hn.1 hn.2
    have hle := hL t n (by omega) hn.1 hn.2
    rw [u3, u4, show 30 * ((t : Int) + 1 - 1) + n = 30 * (t : Int) + n by omega]
    have skip : (∀ day, 0 ≤ day → ¬ (n ≠ b ∧ g_nx M d (x_lab M d (g_T M b)) n ∧ day ≤ g_F M n ∧ g_P M d l p x false t n (max day (g_B M n)))) → ((0 ≤ n + 1 ∧ n + 1 ≤ M 6 0) ∧ (-1 ≤ v ∧ v ≤ 9999) ∧ ∀ day, 0 ≤ day → (day ≤ v ↔ ∃ n', n' < n + 1 ∧ n' ≠ b ∧ g_nx M d (x_lab M d (g_T M b)) n' ∧ day ≤ g_F M n' ∧ g_P M d l p x false t n' (max day (g_B M n')))) ∧ (M 6 0 - (n + 1)).toNat < (M 6 0 - n).toNat := by
      intro z
      refine ⟨⟨by omega, h2, fun day hd => (h3 day hd).trans ⟨fun ⟨n', hn', y⟩ => ⟨n', by omega, y⟩, fun ⟨n', hn', y⟩ => ?_⟩⟩, by omega⟩
      by_cases qe : n' = n
      · subst qe; exact absurd y (z day hd)
      · exact ⟨n', by omega, y⟩
    refine b_Wf q (b_Wf (by omega) (b_Wf (by decide) (b_Wg (by omega) (b_Wl (b_Wg (by omega) (b_Wi (fun q1 => b_Wg (by omega) (b_Ws (skip (fun day hd y => ?_)))) (fun q1 => b_Wg (by omega) (b_Wi (fun q2 => b_Wg (by omega) (b_Ws (skip (fun day hd y => ?_)))) (fun q2 => b_Wg (by omega) (b_We E_X12_lesser (b_We E_X12_greater (b_Wg (by omega) (b_Ws ⟨⟨by dsimp only; omega, ?_, fun day hd => ?_⟩, by dsimp only; omega⟩)))))))))))))
    · have := (hle.2 (max day (g_B M n)) (by omega)).mpr y.2.2.2
      omega
    · have := hw.2.mpr ⟨y.1, hlk, (g_P_lk y.2.2.2).1, y.2.1⟩
      omega
    · dsimp only
      have := hle.1
      omega
    · dsimp only
      have hl2 := hle.2 (max day (g_B M n)) (by omega)
      have hw2 := hw.2.mp (hw.1.resolve_left q2)
      constructor
      · intro z
        by_cases qv : day ≤ v
        · obtain ⟨n', hn', y⟩ := (h3 day hd).mp qv
          exact ⟨n', by omega, y⟩
        · exact ⟨n, by omega, hw2.1, hw2.2.2.2, by omega, hl2.mp (by omega)⟩
      · intro ⟨n', hn', y⟩
        by_cases qe : n' = n
        · subst qe
          have := hl2.mpr y.2.2.2
          have := y.2.2.1
          omega
        · have := (h3 day hd).mpr ⟨n', by omega, y⟩
          omega
theorem t_makeLatest {M N : bM} {d l p x : Int} (hO : O_all M d) (hZ : Zw M d l p N) : b_wp (F_X12_makeLatest x N) (fun P => (∀ c j, c ≠ 220 → P c j = N c j) ∧ Lr M d l p x P 8) := by
  have b1 := hO.1.1.2.2.2.2.2.2.2.2.2
  unfold F_X12_makeLatest F_X12_makeLatest_b185
  refine b_Wb (b_loop_ind (I := fun s : Int × bM => (0 ≤ s.1 ∧ s.1 ≤ 8) ∧ (∀ c j, c ≠ 220 → s.2 c j = N c j) ∧ Lr M d l p x s.2 s.1) (fun s => (8 - s.1).toNat) ?_ (0, N) ⟨by dsimp only; omega, fun _ _ _ => rfl, fun t b ht => by dsimp only at ht; omega⟩)
  intro ⟨t, R⟩ ⟨h1, h2, h3⟩
  dsimp only at h1 h2 h3 ⊢
  unfold F_X12_makeLatest_s2
  by_cases q : 8 ≤ t
  · refine b_Wt q (b_Ws (b_Ws ⟨h2, ?_⟩))
    rw [show t = 8 by omega] at h3
    exact h3
  · refine b_Wf q (b_Wb (b_wp_m (fun S y => ?_) (b_loop_ind (P := fun S : bM => (∀ c j, c ≠ 220 → S c j = N c j) ∧ Lr M d l p x S (t + 1)) (I := fun s : Int × bM => (0 ≤ s.1 ∧ s.1 ≤ M 6 0) ∧ (∀ c j, c ≠ 220 → s.2 c j = N c j) ∧ Lr M d l p x s.2 t ∧ ∀ b, 0 ≤ b → b < s.1 → Lo M d l p x t.toNat b (s.2 220 (30 * t + b))) (fun s => (M 6 0 - s.1).toNat) ?_ (0, R) ⟨by dsimp only; omega, h2, h3, fun c c0 c1 => by dsimp only at c1; omega⟩)))
    · unfold F_X12_makeLatest_b179
      exact b_Wg (by omega) (b_Ws ⟨⟨by dsimp only; omega, y.1, y.2⟩, by dsimp only; omega⟩)
    · intro ⟨b, S⟩ ⟨k1, k2, k3, k4⟩
      dsimp only at k1 k2 k3 k4 ⊢
      have zS : Zw M d l p S := Zw_up hZ (fun c j _ c2 _ => k2 c j c2)
      have n52 : S 11 52 = M 6 0 := by
        have b0 := hO.1.1.2.2.2.2.2.2.2.2.1
        rw [zS.1.1 11 52 (by decide)]; exact b0
      unfold F_X12_makeLatest_s10
      rw [n52]
      by_cases qc : M 6 0 ≤ b
      · refine b_Wt qc (b_Ws ⟨k2, fun t' c' ht' c0 c1 => ?_⟩)
        by_cases qt : (t' : Int) = t
        · have := k4 c' c0 (by omega)
          rw [← qt] at this
          rw [show ((t' : Int)).toNat = t' by omega] at this
          exact this
        · exact k3 t' c' (by omega) c0 c1
      · have hb : 0 ≤ b ∧ b < M 6 0 := ⟨k1.1, by omega⟩
        obtain ⟨_, u3, u4, u5⟩ := Zw_e hO zS hb
        have put : ∀ v, Lo M d l p x t.toNat b v → b_wp (F_X12_makeLatest_b160 x t b v S) (Sum.elim (fun s : Int × bM => ((0 ≤ s.1 ∧ s.1 ≤ M 6 0) ∧ (∀ c j, c ≠ 220 → s.2 c j = N c j) ∧ Lr M d l p x s.2 t ∧ ∀ b, 0 ≤ b → b < s.1 → Lo M d l p x t.toNat b (s.2 220 (30 * t + b))) ∧ (M 6 0 - s.1).toNat < (M 6 0 - b).toNat) (fun S : bM => (∀ c j, c ≠ 220 → S c j = N c j) ∧ Lr M d l p x S (t + 1))) := by
          intro v hv
          unfold F_X12_makeLatest_b160
          refine b_Wg (by omega) (b_Wl (b_Wg (by omega) (b_Ws ⟨⟨by dsimp only; omega, fun c' j hc => ?_, fun t' c' ht' c0 c1 => ?_, fun c' c0 c1 => ?_⟩, by dsimp only; omega⟩)))
          · dsimp only
            rw [b_upc hc]; exact k2 c' j hc
          · dsimp only
            rw [b_upi (by omega)]
            exact k3 t' c' ht' c0 c1
          · dsimp only at c1 ⊢
            by_cases qq : c' = b
            · subst qq
              rw [b_ups]; exact hv
            · rw [b_upi (by omega)]
              exact k4 c' c0 (by omega)
        have none : ¬ (g_lk M l b ∧ x ≤ g_p M b) → Lo M d l p x t.toNat b (-1) := by
          intro z
          refine ⟨by omega, fun day hd => ⟨fun y => by omega, fun y => absurd (g_P_lk y) z⟩⟩
        have bad : ¬ (g_lk M l b ∧ x ≤ g_p M b) → b_wp (F_X12_makeLatest_b42 x t b (-1) S) (Sum.elim (fun s : Int × bM => ((0 ≤ s.1 ∧ s.1 ≤ M 6 0) ∧ (∀ c j, c ≠ 220 → s.2 c j = N c j) ∧ Lr M d l p x s.2 t ∧ ∀ b, 0 ≤ b → b < s.1 → Lo M d l p x t.toNat b (s.2 220 (30 * t + b))) ∧ (M 6 0 - s.1).toNat < (M 6 0 - b).toNat) (fun S : bM => (∀ c j, c ≠ 220 → S c j = N c j) ∧ Lr M d l p x S (t + 1))) := by
          intro z
          unfold F_X12_makeLatest_b42 F_X12_makeLatest_b43 F_X12_makeLatest_b68
          have sub : b_wp (b_bind (b_loop (fun s : Int × Int => F_X12_makeLatest_s71 x t b s.1 0 s.2 S) (-1, 0)) (fun v => F_X12_makeLatest_b160 x t b v S)) (Sum.elim (fun s : Int × bM => ((0 ≤ s.1 ∧ s.1 ≤ M 6 0) ∧ (∀ c j, c ≠ 220 → s.2 c j = N c j) ∧ Lr M d l p x s.2 t ∧ ∀ b, 0 ≤ b → b < s.1 → Lo M d l p x t.toNat b (s.2 220 (30 * t + b))) ∧ (M 6 0 - s.1).toNat < (M 6 0 - b).toNat) (fun S : bM => (∀ c j, c ≠ 220 → S c j = N c j) ∧ Lr M d l p x S (t + 1))) := by
            refine b_Wb (b_Wloop ?_)
            dsimp only
            unfold F_X12_makeLatest_s71
            exact b_Wi (fun _ => b_Ws (put (-1) (none z))) (fun _ => b_Wi (fun _ => b_Ws (put (-1) (none z))) (fun _ => b_Wt rfl (b_Ws (put (-1) (none z)))))
          exact b_Wi (fun _ => b_Wt rfl sub) (fun _ => sub)
        refine b_Wf qc (b_Wb (b_wp_m (fun y w => ?_) (t_oLink hO zS.1 hb)))
        refine b_Wi (fun z => bad (fun y => by have := w.2.mpr y.1; omega)) (fun z => b_We u5 (b_Wi (fun z2 => bad (fun y => by have := y.2; omega)) (fun z2 => ?_)))
        have hlk := w.2.mp (w.1.resolve_left z)
        have hw := zS.2.1 b hb.1 hb.2
        unfold F_X12_makeLatest_b43 F_X12_makeLatest_b68
        by_cases t0 : t = 0
        · have sub : ∀ v, Lo M d l p x t.toNat b v → b_wp (b_bind (b_loop (fun s : Int × Int => F_X12_makeLatest_s71 x t b s.1 1 s.2 S) (v, 0)) (fun v => F_X12_makeLatest_b160 x t b v S)) (Sum.elim (fun s : Int × bM => ((0 ≤ s.1 ∧ s.1 ≤ M 6 0) ∧ (∀ c j, c ≠ 220 → s.2 c j = N c j) ∧ Lr M d l p x s.2 t ∧ ∀ b, 0 ≤ b → b < s.1 → Lo M d l p x t.toNat b (s.2 220 (30 * t + b))) ∧ (M 6 0 - s.1).toNat < (M 6 0 - b).toNat) (fun S : bM => (∀ c j, c ≠ 220 → S c j = N c j) ∧ Lr M d l p x S (t + 1))) := by
            intro v hv
            refine b_Wb (b_Wloop ?_)
            dsimp only
            unfold F_X12_makeLatest_s71
            exact b_Wi (fun _ => b_Ws (put v hv)) (fun _ => b_Wt (by omega) (b_Ws (put v hv)))
          have base : ∀ day, 0 ≤ day → (g_P M d l p x false t.toNat b day ↔ (S 223 b = 1 ∧ day ≤ 9999)) := by
            intro day hd
            rw [hw.2, t0]
            exact ⟨fun y => ⟨⟨hlk, y.2.2.1⟩, y.2.2.2⟩, fun y => ⟨hlk, by omega, y.1.2, y.2⟩⟩
          refine b_Wt t0 (b_Wf (by decide) (b_Wg (by omega) (b_Wi (fun z3 => sub (-1) ⟨by omega, fun day hd => ?_⟩) (fun z3 => sub 9999 ⟨by omega, fun day hd => ?_⟩))))
          · rw [base day hd]
            exact ⟨fun y => by omega, fun y => by omega⟩
          · rw [base day hd]
            exact ⟨fun y => ⟨hw.1.resolve_left z3, y⟩, fun y => y.2⟩
        · obtain ⟨u, hu⟩ := Int.eq_ofNat_of_zero_le (show 0 ≤ t - 1 by omega)
          have tu : t = (u : Int) + 1 := by omega
          have k3' := k3
          rw [tu] at k3'
          have tl := t_ml71 (v1 := x) (t := u) hO zS k3' (by omega) hb hlk
          rw [← tu] at tl
          refine b_Wf t0 (b_Wb (b_wp_m (fun v hv => ?_) tl))
          refine put v ⟨hv.1, fun day hd => (hv.2 day hd).trans ?_⟩
          rw [show t.toNat = u + 1 by omega]
          exact ⟨fun ⟨n, y0, y1, y2, y3⟩ => ⟨hlk, by omega, n, Or.inr y0, y1, y2, y3⟩, fun ⟨_, _, n, y0, y1, y2, y3⟩ => ⟨n, y0.resolve_left (by decide), y1, y2, y3⟩⟩
theorem t_canBegin {M N : bM} {d l p x r b : Int} {t : Nat} (hO : O_all M d) (hZ : Zw M d l p N) (hL : Lr M d l p x N 8) (ht : (t : Int) < 8) (hr : 0 ≤ r ∧ r < M 11 20) (hb : 0 ≤ b ∧ b < M 6 0) : b_wp (F_X12_canBegin r b (t : Int) N) (fun y => (y = 0 ∨ y = 1) ∧ (y = 1 ↔ g_R M d l p x false t r b)) := by
  have b1 := hO.1.1.2.2.2.2.2.2.2.2.2
  have l1 := hO.1.1.2.2.1.1
  obtain ⟨_, u3, u4, _⟩ := Zw_e hO hZ hb
  have hw := hZ.2.2.2 r b hr.1 hr.2 hb.1 hb.2
  have hrr := G_r hO.1 hb
  have hle := (hL t b ht hb.1 hb.2).2 (max (M 218 r) (g_B M b)) (by omega)
  have n218 : N 218 r = M 218 r := hZ.1.1 218 r rfl
  unfold F_X12_canBegin
  rw [u3, n218]
  have ht0 : 0 ≤ (t : Int) := by omega
  generalize (t : Int) = T at hle ht ht0 ⊢
  refine b_Wg (by omega) (b_Wi (fun q => b_Ws ⟨Or.inl rfl, fun z => absurd z (by decide), fun z => by have := hw.2.mpr ⟨(g_P_lk z.2).1, z.1⟩; omega⟩) (fun q => b_Wg (by omega) (b_We E_X12_greater (b_Wg (by omega) (b_Wi (fun q1 => b_Ws ⟨Or.inl rfl, fun z => absurd z (by decide), fun z => ?_⟩) (fun q1 => b_Ws ⟨Or.inr rfl, fun _ => ⟨(hw.2.mp (hw.1.resolve_left q)).2, hle.mp (by omega)⟩, fun _ => rfl⟩))))))
  have := hle.mpr z.2
  omega
theorem t_rootFor {M N : bM} {d l p x : Int} {t : Nat} (hO : O_all M d) (hZ : Zw M d l p N) (hL : Lr M d l p x N 8) (ht : (t : Int) < 8) : b_wp (F_X12_rootFor (t : Int) N) (fun r => (r = -1 ∧ ¬ g_K M d l p x false t) ∨ ((0 ≤ r ∧ r < M 11 20) ∧ (∃ b, g_R M d l p x false t r b) ∧ ∀ r' b, r' < r → ¬ g_R M d l p x false t r' b)) := by
  have b1 := hO.1.1.2.2.2.2.2.2.2.2.2
  have b0 := hO.1.1.2.2.2.2.2.2.2.2.1
  have l1 := hO.1.1.2.2.1.1
  have n52 : N 11 52 = M 6 0 := by rw [hZ.1.1 11 52 (by decide)]; exact b0
  have n20 : N 11 20 = M 11 20 := hZ.1.1 11 20 (by decide)
  unfold F_X12_rootFor F_X12_rootFor_b44
  refine b_Wb (b_loop_ind (I := fun s : Int => (0 ≤ s ∧ s ≤ M 11 20) ∧ ∀ r' b, r' < s → ¬ g_R M d l p x false t r' b) (fun s => (M 11 20 - s).toNat) ?_ 0 ⟨by omega, fun r' b hr' w => by have := w.1.1.1; omega⟩)
  intro r ⟨h1, h2⟩
  unfold F_X12_rootFor_s2
  rw [n20]
  by_cases q : M 11 20 ≤ r
  · refine b_Wt q (b_Ws (Or.inl ⟨rfl, fun ⟨r', b, w1, w2⟩ => h2 r' b ?_ ⟨w1, w2⟩⟩))
    have := w1.1.1
    omega
  · refine b_Wf q (b_Wb (b_loop_ind (I := fun s : Int => (0 ≤ s ∧ s ≤ M 6 0) ∧ ∀ b, b < s → ¬ g_R M d l p x false t r b) (fun s => (M 6 0 - s).toNat) ?_ 0 ⟨by omega, fun b hb w => by have := (g_P_lk w.2).1.1; omega⟩))
    intro b ⟨k1, k2⟩
    unfold F_X12_rootFor_s12
    rw [n52]
    by_cases qb : M 6 0 ≤ b
    · refine b_Wt qb (b_Ws ?_)
      show b_wp (F_X12_rootFor_b38 t r N) _
      unfold F_X12_rootFor_b38
      refine b_Wg (by omega) (b_Ws ⟨⟨by omega, fun r' b' hr' w => ?_⟩, by omega⟩)
      by_cases qr : r' = r
      · subst qr
        exact k2 b' (by have := (g_P_lk w.2).1.1; omega) w
      · exact h2 r' b' (by omega) w
    · refine b_Wf qb (b_Wb (b_wp_m (fun y w => ?_) (t_canBegin hO hZ hL ht (r := r) (b := b) ⟨h1.1, by omega⟩ ⟨k1.1, by omega⟩)))
      refine b_Wi (fun z => b_Wg (by omega) (b_Ws ⟨⟨by omega, fun b' hb' w' => ?_⟩, by omega⟩)) (fun z => b_Ws ?_)
      · by_cases qq : b' = b
        · subst qq
          have := w.2.mpr w'
          omega
        · exact k2 b' (by omega) w'
      · exact Or.inr ⟨⟨h1.1, by omega⟩, ⟨b, w.2.mp (w.1.resolve_left z)⟩, h2⟩
theorem t_fewest {M N : bM} {d l p x : Int} (hO : O_all M d) (hZ : Zw M d l p N) : b_wp (F_X12_fewest x N) (fun o => (∀ c j, c ≠ 220 → o.2 c j = N c j) ∧ Lr M d l p x o.2 8 ∧ ((o.1 = -1 ∧ ¬ Ch M d l p x) ∨ ∃ t : Nat, o.1 = (t : Int) ∧ Sh M d l p x t)) := by
  unfold F_X12_fewest F_X12_fewest_b30
  refine b_Wb (b_wp_m (fun P y => ?_) (t_makeLatest (x := x) hO hZ))
  obtain ⟨y1, y2⟩ := y
  have zP : Zw M d l p P := Zw_up hZ (fun c j _ c2 _ => y1 c j c2)
  refine b_Wb (b_loop_ind (I := fun s : Int => (0 ≤ s ∧ s ≤ 8) ∧ ∀ u : Nat, (u : Int) < s → ¬ g_K M d l p x false u) (fun s => (8 - s).toNat) ?_ 0 ⟨by omega, fun u hu => by omega⟩)
  intro t ⟨h1, h2⟩
  unfold F_X12_fewest_s7
  by_cases q : 8 ≤ t
  · exact b_Wt q (b_Ws ⟨y1, y2, Or.inl ⟨rfl, fun ⟨u, u1, u2⟩ => h2 u (by omega) u2⟩⟩)
  · obtain ⟨n, hn⟩ := Int.eq_ofNat_of_zero_le h1.1
    have tr := t_rootFor (t := n) hO zP y2 (by omega)
    rw [← hn] at tr
    refine b_Wf q (b_Wb (b_wp_m (fun r yr => ?_) tr))
    rcases yr with ⟨z1, z2⟩ | ⟨z1, ⟨b, z2⟩, z3⟩
    · refine b_Wt z1 (b_Wg (by omega) (b_Ws ⟨⟨by omega, fun u hu => ?_⟩, by omega⟩))
      by_cases qu : u = n
      · subst qu; exact z2
      · exact h2 u (by omega)
    · refine b_Wf (by omega) (b_Ws ?_)
      exact ⟨y1, y2, Or.inr ⟨n, hn, by omega, ⟨r, b, z2.1, z2.2⟩, fun u hu => h2 u (by omega)⟩⟩
