theorem t_judgeR {M : bM} {d l p n : Int} {y : Int → Int} (hO : O_all M d) (hl : 0 ≤ l ∧ l < M 3 0) (hp : 0 ≤ p ∧ p < M 2 0) (hn : 0 ≤ n ∧ n ≤ 8) (hy : ∀ i, M 162 i = y i + 48) (hyr : ∀ i, -128 ≤ y i + 48 ∧ y i + 48 < 128) {u : Int} (hu : u = 0 ∨ u = 1) (hu2 : u = 1 ↔ x_rule M d 8 = 1) : b_wp (F_X12_judge_b68 l p d n u M) (fun o => Jr M d l p n y o.1 ∧ o.2 11 1 = M 11 1) := by
  have l1 := hO.1.1.2.2.1.1
  unfold F_X12_judge_b68
  refine b_Wg hu (b_Wl (b_Wl (b_Wg (by omega) (b_Wl (b_Wl ?_)))))
  generalize hN : b_up (b_up (b_up (b_up M 11 80 u) 11 81 d) 11 82 (b_up (b_up M 11 80 u) 11 81 d 174 l)) 11 83 p = N
  have fN' : ∀ c j, ¬ (c = 11 ∧ 80 ≤ j ∧ j ≤ 83) → N c j = M c j := by
    intro c j h
    subst hN
    unfold b_up
    rw [if_neg (by omega), if_neg (by omega), if_neg (by omega), if_neg (by omega)]
  have gN : N 11 80 = u ∧ N 11 81 = d ∧ N 11 82 = M 174 l ∧ N 11 83 = p := by
    subst hN
    simp [b_up]
  clear hN
  have zN : Zc M d l p N := by
    refine ⟨fun c i hi => fN' c i (fun e => ?_), by rw [gN.1]; exact ⟨hu, hu2⟩, gN.2.1, gN.2.2.1, gN.2.2.2⟩
    obtain ⟨rfl, e1, e2⟩ := e
    have : i = 80 ∨ i = 81 ∨ i = 82 ∨ i = 83 := by omega
    rcases this with rfl | rfl | rfl | rfl <;> exact absurd hi (by decide)
  have hyN : ∀ i, N 162 i = y i + 48 := fun i => by rw [fN' 162 i (by omega)]; exact hy i
  have n1 : N 11 1 = M 11 1 := fN' 11 1 (by omega)
  refine b_Wb (b_wp_m (fun o z => ?_) (t_jRow hO zN hn hyN hyr))
  rcases o with w | ⟨a, R⟩
  · have hJ : Jv M l y n := z
    show b_wp (F_X12_judge_b180 n N) _
    unfold F_X12_judge_b180 F_X12_judge_b368
    refine b_Wb (b_wp_m (fun a k => b_Ws ⟨Or.inr ⟨⟨hn.2, hJ⟩, ?_⟩, n1⟩) (t_jRoots hO zN hp hn hyN hyr hJ))
    rw [← l1.1]; exact k
  · obtain ⟨z1, z2⟩ := (show (a, R) = (-1, N) ∧ ¬ Jv M l y n from z)
    cases z1
    exact b_Ws ⟨Or.inl ⟨rfl, fun k => z2 k.2⟩, n1⟩
def W_jc : bW := (1, some 1) :: W_X2_judgeRow_1
def W_jr : bW := (11, some 1) :: W_jc
theorem op_judge {l p d : Int} {M : bM} (hC : C_all M) (hT : R_tape M) : b_wp (F_X11_judge l p d M) (fun o => b_wp (F_X12_judge l p d o.2) (fun o2 => o.1 = o2.1 ∧ C_all o2.2 ∧ R_tape o2.2)) := by
  have r1 := hC.1.1.1
  have l1 := hC.1.2.2.1.1
  obtain ⟨t1, t2, t3, t4, t5⟩ := hT
  have out : b_wp (F_X11_judge_b56 (-2) M) (fun o => o = (-2, b_up M 1 1 0)) := by
    unfold F_X11_judge_b56 F_X10_clear
    exact b_Wb (b_Wl (b_Ws (b_Ws rfl)))
  have refo : C_all (b_up (b_up M 1 1 0) 11 1 0) ∧ R_tape (b_up (b_up M 1 1 0) 11 1 0) := by
    have f : b_fr [(1, some 1), (11, some 1)] M (b_up (b_up M 1 1 0) 11 1 0) := b_frF (b_frF b_fr_refl (by decide)) (by decide)
    refine ⟨C_k f (by decide +kernel) hC, by rw [b_ups, b_upc (by decide), b_ups], by rw [b_upc (by decide), b_ups]; decide, by rw [b_upc (by decide), b_ups]; decide, by rw [b_upF (by decide), b_upF (by decide), b_upF (by decide), b_upF (by decide)]; exact t4, fun i => by rw [b_upF (by decide), b_upF (by decide)]; exact t5 i⟩
  have c20 : (b_up (b_up M 1 1 0) 11 1 0) 11 20 = M 11 20 := by rw [b_upi (by decide), b_upc (by decide)]
  have c12 : (b_up (b_up M 1 1 0) 11 1 0) 11 12 = M 11 12 := by rw [b_upi (by decide), b_upc (by decide)]
  unfold F_X11_judge F_X12_judge
  by_cases q : 0 ≤ l ∧ l < M 3 0
  · by_cases q0 : 0 ≤ p ∧ p < M 2 0
    · by_cases q1 : 0 ≤ d ∧ d ≤ 9999
      · refine b_We e_X5_has (b_Wf (by rw [b_01_0]; omega) (b_We e_X8_has (b_Wf (by rw [b_01_0]; omega) (b_We e_X11_isDay (b_Wf (by rw [b_01_0]; omega) (b_Wb (b_wp_m (fun N w => ?_) (t_evC hC q1))))))))
        obtain ⟨y1, y2, y3⟩ := w
        have n3 : N 3 0 = M 3 0 := y1 3 0 (by decide)
        have n2 : N 2 0 = M 2 0 := y1 2 0 (by decide)
        have n11 : N 1 1 = M 1 1 := y1 1 1 (by decide)
        have n111 : N 11 1 = M 11 1 := y1 11 1 (by decide)
        have n72 : N 72 = M 72 := funext fun i => y1 72 i (by simp [b_ins, W_X4_know])
        have n162 : N 162 = M 162 := funext fun i => y1 162 i (by simp [b_ins, W_X4_know])
        have r2 := y2.1.1.1
        have l2 := y2.1.2.2.1.1
        have tj := t_judgeRow (l := l) (p := p) y3 y2.2.2.2 (by omega) (by omega) (by omega) (by rw [n72]; exact t5)
        refine b_Wb (b_wp_m (fun o z => ?_) tj)
        obtain ⟨a, P⟩ := o
        obtain ⟨z1, z2⟩ := z
        dsimp only at z1 z2
        unfold F_X11_judge_b56 F_X10_clear
        refine b_Wtwo (b_Wb (b_Wl (b_Ws (b_Ws ?_))))
        dsimp only
        generalize hQ : b_up P 1 1 0 = Q
        have fQ : b_fr W_jc N Q := by
          subst hQ
          exact b_frF (b_fr_mo (by decide +kernel) z1) (by decide)
        have q11 : Q 1 1 = 0 := by subst hQ; exact b_ups
        clear hQ
        have q111 : Q 11 1 = N 11 1 := fQ 11 1 (by decide)
        refine b_Wl ?_
        generalize hR : b_up Q 11 1 0 = R
        have fR : b_fr W_jr N R := by
          subst hR
          exact b_frF (b_fr_mo (by decide +kernel) fQ) (by decide)
        have r111 : R 11 1 = 0 := by subst hR; exact b_ups
        have r11 : R 1 1 = 0 := by subst hR; rw [b_upc (by decide)]; exact q11
        clear hR
        have r3 : R 3 0 = N 3 0 := fR 3 0 (by decide)
        have rr2 : R 2 0 = N 2 0 := fR 2 0 (by decide)
        have r20 : R 11 20 = N 11 20 := fR 11 20 (by decide)
        have r12 : R 11 12 = N 11 12 := fR 11 12 (by decide)
        have r72 : ∀ i, R 72 i = M 72 i := fun i => by rw [fR 72 i (by simp [b_ins, W_jr, W_jc, W_X2_judgeRow_1]), n72]
        have r162 : ∀ i, R 162 i = M 162 i := fun i => by rw [fR 162 i (by simp [b_ins, W_jr, W_jc, W_X2_judgeRow_1]), n162]
        have cR := C_k fR (by decide +kernel) y2
        have gR := G_k fR (by decide +kernel) y3
        have gs1 : GS N R := b_kp1 fR (by decide +kernel)
        have tp : ∀ T : bM, T 11 1 = 0 → T 1 1 = 0 → (∀ i, T 72 i = M 72 i) → (∀ i, T 162 i = M 162 i) → R_tape T := fun T a1 a2 a3 a4 => ⟨by rw [a1, a2], by rw [a2]; decide, by rw [a2]; decide, funext fun i => by rw [a3, a4, t4], fun i => by rw [a3]; exact t5 i⟩
        refine b_We (e_X12_isLot (by omega)) (b_Wf (by rw [b_01_0]; omega) (b_We (e_X12_isPerson (by omega)) (b_Wf (by rw [b_01_0]; omega) (b_We e_X12_isDay (b_Wf (by rw [b_01_0]; omega) ?_)))))
        have hnn : Q 11 1 = N 1 1 := by rw [q111, n111, t1, n11]
        refine b_Wi (fun q8 => ?_) (fun q8 => b_Ws ⟨?_, cR, tp R r111 r11 r72 r162⟩)
        · rw [hnn] at q8 ⊢
          refine b_Wb (b_wp_m (fun S v => ?_) (t_made (d := d) cR.1 cR.2.2.1))
          obtain ⟨v1, v2, v3, v4⟩ := v
          have hO : O_all S d := ⟨G_shown v1 gR, v4, v3, R_root_k (b_kp1 v1 (by decide +kernel)) cR.2.2.2⟩
          have gs2 : GS R S := b_kp1 v1 (by decide +kernel)
          have gs : GS N S := fun c i hi => (gs2 c i hi).trans (gs1 c i hi)
          have s3 : S 3 0 = N 3 0 := gs 3 0 rfl
          have s2 : S 2 0 = N 2 0 := by rw [v1 2 0 (by decide), rr2]
          have s162 : ∀ i, S 162 i = (N 72 i - 48) + 48 := fun i => by
            rw [v1 162 i (by simp [b_ins, W_X12_makeShown]), r162, t4, n72]; omega
          have hyr : ∀ i, -128 ≤ (N 72 i - 48) + 48 ∧ (N 72 i - 48) + 48 < 128 := fun i => by rw [n72]; have := t5 i; omega
          have fin : ∀ u, (u = 0 ∨ u = 1) → (u = 1 ↔ x_rule S d 8 = 1) → b_wp (F_X12_judge_b68 l p d (N 1 1) u S) (fun o2 => a = o2.1 ∧ C_all o2.2 ∧ R_tape o2.2) := by
            intro u hu hu2
            refine b_wp_m (fun o k => ?_) (b_wl_wp (w_X12_judge_b68 b_fr_refl) (t_judgeR (y := fun i => N 72 i - 48) hO (by omega) (by omega) (by omega) s162 hyr hu hu2))
            obtain ⟨k1, k2, k3⟩ := k
            obtain ⟨a2, T⟩ := o
            dsimp only at k1 k2 k3 ⊢
            have jr : Jr N d l p (N 1 1) (fun i => N 72 i - 48) a2 := by
              rcases k2 with ⟨j1, j2⟩ | ⟨j1, j2⟩
              · exact Or.inl ⟨j1, fun j => j2 ⟨j.1, (Jv_c gs).mpr j.2⟩⟩
              · rw [s3] at j2
                exact Or.inr ⟨⟨j1.1, (Jv_c gs).mp j1.2⟩, Jm_c gs j2⟩
            refine ⟨Jr_u z2 jr, C_k k1 (by decide +kernel) (C_k v1 (by decide +kernel) cR), tp T ?_ ?_ (fun i => ?_) (fun i => ?_)⟩
            · rw [k3, v1 11 1 (by decide), r111]
            · rw [k1 1 1 (by decide), v1 1 1 (by decide), r11]
            · rw [k1 72 i (by simp [b_ins, W_X12_judge]), v1 72 i (by simp [b_ins, W_X12_makeShown]), r72]
            · rw [k1 162 i (by simp [b_ins, W_X12_judge]), v1 162 i (by simp [b_ins, W_X12_makeShown]), r162]
          exact b_We (e_X12_ruleOn v2.2.2.2.2.2.2.1 (by omega)) (b_Wi (fun k => fin 1 (Or.inr rfl) ⟨fun _ => k, fun _ => rfl⟩) (fun k => fin 0 (Or.inl rfl) ⟨fun z => absurd z (by decide), fun z => absurd z k⟩))
        · rw [hnn] at q8
          dsimp only
          rcases z2 with z2 | z2
          · exact z2.1
          · exact absurd z2.1.1 q8
      · refine b_We e_X5_has (b_Wf (by rw [b_01_0]; omega) (b_We e_X8_has (b_Wf (by rw [b_01_0]; omega) (b_We e_X11_isDay (b_Wt (by rw [b_01_0]; omega) (b_wp_m (fun o z => ?_) out))))))
        subst z
        dsimp only
        exact b_Wl (b_We (e_X12_isLot (by omega)) (b_Wf (by rw [b_01_0]; omega) (b_We (e_X12_isPerson (by omega)) (b_Wf (by rw [b_01_0]; omega) (b_We e_X12_isDay (b_Wt (by rw [b_01_0]; omega) (b_Ws ⟨rfl, refo⟩)))))))
    · refine b_We e_X5_has (b_Wf (by rw [b_01_0]; omega) (b_We e_X8_has (b_Wt (by rw [b_01_0]; omega) (b_wp_m (fun o z => ?_) out))))
      subst z
      dsimp only
      exact b_Wl (b_We (e_X12_isLot (by omega)) (b_Wf (by rw [b_01_0]; omega) (b_We (e_X12_isPerson (by omega)) (b_Wt (by rw [b_01_0]; omega) (b_Ws ⟨rfl, refo⟩)))))
  · refine b_We e_X5_has (b_Wt (by rw [b_01_0]; omega) (b_wp_m (fun o z => ?_) out))
    subst z
    dsimp only
    exact b_Wl (b_We (e_X12_isLot (by omega)) (b_Wt (by rw [b_01_0]; omega) (b_Ws ⟨rfl, refo⟩)))
