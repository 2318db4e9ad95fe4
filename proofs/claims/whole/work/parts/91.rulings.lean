def S_rul : bW := [(9, some 0), (148, none), (150, none), (151, none), (152, none), (153, none), (154, none), (234, none), (235, none), (236, none), (237, none), (238, none)]
/-- rulings -/
def R_rul (M : bM) : Prop := (∀ c, 0 ≤ c → c < 30 → M 234 c = M 150 c ∧ (0 ≤ M 150 c ∧ M 150 c ≤ 3) ∧ M 235 c = M 151 c ∧ 0 ≤ M 151 c) ∧ ∀ l, 0 ≤ l → l < 60 → (M 152 l = 0 ∧ M 236 l = -1) ∨ ((1 ≤ M 152 l ∧ M 152 l ≤ M 9 0) ∧ M 236 l = M 152 l - 1 ∧ M 237 l = M 153 l ∧ (0 ≤ M 153 l ∧ M 153 l ≤ 9999) ∧ M 154 l = 365 * M 238 l ∧ (0 ≤ M 238 l ∧ M 238 l ≤ 99) ∧ M 148 (M 152 l - 1) = l)
theorem R_rul_k {M N : bM} (h : ∀ c i, b_ins S_rul c i = true → N c i = M c i) (hR : R_rul M) : R_rul N := by
  unfold R_rul at hR ⊢
  rw [h 9 0 rfl, show N 148 = M 148 from funext fun i => h _ i rfl, show N 150 = M 150 from funext fun i => h _ i rfl, show N 151 = M 151 from funext fun i => h _ i rfl, show N 152 = M 152 from funext fun i => h _ i rfl, show N 153 = M 153 from funext fun i => h _ i rfl, show N 154 = M 154 from funext fun i => h _ i rfl, show N 234 = M 234 from funext fun i => h _ i rfl, show N 235 = M 235 from funext fun i => h _ i rfl, show N 236 = M 236 from funext fun i => h _ i rfl, show N 237 = M 237 from funext fun i => h _ i rfl, show N 238 = M 238 from funext fun i => h _ i rfl]
  exact hR
abbrev x_dbt (M : bM) (l : Int) : Prop := M 236 l ≠ -1 ∧ M 234 (M 236 l) = 2 ∧ M 11 11 - M 237 l < 365 * M 238 l
theorem e_X12_isDoubt {M : bM} {l : Int} (hR : R_rul M) (hC : R_claim M) (hd : R_day M) (hl : 0 ≤ l ∧ l < 60) : F_X12_isDoubt l M = some (b_01 (x_dbt M l)) := by
  refine b_eqn ?_
  have c1 := hC.1
  have d1 := hd.2
  have d0 := hd.1
  have r := hR.2 l hl.1 hl.2
  unfold F_X12_isDoubt
  by_cases q : M 236 l = -1
  · exact b_Wg (by omega) (b_Wt q (b_Ws (b_01_0.mpr (fun z => z.1 q)).symm))
  · have r2 := r.resolve_left (fun z => q z.2)
    refine b_Wg (by omega) (b_Wf q (b_Wg (by omega) (b_Wi (fun q1 => b_Wg (by omega) (b_Wi (fun q2 => b_Ws (b_01_0.mpr (fun z => by have := z.2.2; omega)).symm) (fun q2 => b_Ws (b_01_1.mpr ⟨q, q1, by omega⟩).symm))) (fun q1 => b_Ws (b_01_0.mpr (fun z => q1 z.2.1)).symm))))
theorem e_X3_isDoubtful {M : bM} {l : Int} (hR : R_rul M) (hC : R_claim M) (hd : R_day M) (hl : 0 ≤ l ∧ l < 60) : F_X3_isDoubtful l (M 0 10) M = some (b_01 (x_dbt M l)) := by
  refine b_eqn ?_
  have c1 := hC.1
  have d1 := hd.2
  have d0 := hd.1
  have r := hR.2 l hl.1 hl.2
  unfold F_X3_isDoubtful F_X3_winnerOf
  refine b_Wb (b_Wg (by omega) (b_Ws (b_We e_X3_has (b_Wi (fun q => b_Ws ?_) (fun q => ?_)))))
  · rw [b_01_0] at q
    exact (b_01_0.mpr (fun z => by have := z.1; omega)).symm
  · rw [b_01_0] at q
    have q' := Decidable.of_not_not q
    have r2 := r.resolve_left (fun z => by omega)
    have s := hR.1 (M 152 l - 1) (by omega) (by omega)
    have e236 : M 236 l = M 152 l - 1 := r2.2.1
    refine b_Wg (by omega) (b_Wi (fun q1 => b_Wg (by omega) (b_Wi (fun q2 => b_Ws (b_01_0.mpr (fun z => by have := z.2.2; omega)).symm) (fun q2 => b_Ws (b_01_1.mpr ⟨by omega, by rw [e236]; omega, by omega⟩).symm))) (fun q1 => b_Ws (b_01_0.mpr (fun z => q1 ?_)).symm))
    have := z.2.1
    rw [e236] at this
    omega
def x_as (M : bM) (c : Int) : Int := if M 234 c = 2 ∧ ¬ x_dbt M (M 232 c) then 1 else M 234 c
theorem e_X12_ruledAs {M : bM} {c : Int} (hR : R_rul M) (hC : R_claim M) (hd : R_day M) (hc : 0 ≤ c ∧ c < M 9 0) : F_X12_ruledAs c M = some (x_as M c) := by
  refine b_eqn ?_
  have c1 := hC.1
  have c2 := hC.2.2 c hc.1 hc.2
  have c3 : M 232 = M 148 := hC.2.1.2.1
  unfold F_X12_ruledAs F_X12_ruledAs_b27 x_as
  refine b_Wg (by omega) (b_Wi (fun q => b_Wg (by omega) (b_We (e_X12_isDoubt hR hC hd (by rw [c3]; omega)) (b_Wi (fun q1 => b_Ws ?_) (fun q1 => b_Wg (by omega) (b_Ws ?_))))) (fun q => b_Wg (by omega) (b_Ws ?_)))
  · rw [if_pos ⟨q, b_01_0.mp q1⟩]
  · rw [if_neg (fun z => q1 (b_01_0.mpr z.2))]
  · rw [if_neg (fun z => q z.1)]
theorem e_X3_stateOf {M : bM} {c : Int} (hR : R_rul M) (hC : R_claim M) (hd : R_day M) (hc : 0 ≤ c ∧ c < M 9 0) : F_X3_stateOf c (M 0 10) M = some (x_as M c) := by
  refine b_eqn ?_
  have c1 := hC.1
  have c2 := hC.2.2 c hc.1 hc.2
  have c3 : M 232 = M 148 := hC.2.1.2.1
  have s := (hR.1 c hc.1 (by omega)).1
  unfold F_X3_stateOf F_X3_stateOf_b28 x_as
  rw [c3, s]
  refine b_Wg (by omega) (b_Wi (fun q => b_Wg (by omega) (b_We (e_X3_isDoubtful hR hC hd (by omega)) (b_Wi (fun q1 => b_Ws ?_) (fun q1 => b_Wg (by omega) (b_Ws ?_))))) (fun q => b_Wg (by omega) (b_Ws ?_)))
  · rw [if_pos ⟨q, b_01_0.mp q1⟩]
  · rw [if_neg (fun z => q1 (b_01_0.mpr z.2))]
  · rw [if_neg (fun z => q z.1)]
theorem op_claimed {c w : Int} {M : bM} (hR : R_rul M) (hC : R_claim M) (hd : R_day M) : b_wp (F_X11_claimed c w M) (fun o => b_wp (F_X12_claimed c w M) (fun o2 => o = o2)) := by
  have c1 := hC.1
  obtain ⟨e1, e2, e3⟩ := hC.2.1
  unfold F_X11_claimed F_X12_claimed
  by_cases q : 0 ≤ c ∧ c < M 9 0
  · have s := (hR.1 c q.1 (by omega)).2.2.1
    refine b_We e_X3_has (b_Wf (by rw [b_01_0]; omega) ?_)
    unfold F_X3_tellAbout
    rw [e1, e2, e3, s]
    have ref : ∀ x, b_wp (if w = 0 then b_g (0 ≤ c ∧ c < 30) (some (M 147 c)) else if w = 1 then b_g (0 ≤ c ∧ c < 30) (some (M 148 c)) else if w = 2 then b_g (0 ≤ c ∧ c < 30) (some (M 149 c)) else if w = 3 then b_bind (F_X12_ruledAs c M) (fun x15 => some x15) else if w = 4 then b_g (0 ≤ c ∧ c < 30) (some (M 151 c)) else some (-9)) (fun o2 => x = o2) → b_wp (b_g (b_i32 (M 11 106 - 1)) (b_bind (F_X12_in c 0 (M 11 106 - 1) M) (fun x2 => if x2 = 0 then some (-9) else if w = 0 then b_g (0 ≤ c ∧ c < 30) (some (M 147 c)) else if w = 1 then b_g (0 ≤ c ∧ c < 30) (some (M 148 c)) else if w = 2 then b_g (0 ≤ c ∧ c < 30) (some (M 149 c)) else if w = 3 then b_bind (F_X12_ruledAs c M) (fun x15 => some x15) else if w = 4 then b_g (0 ≤ c ∧ c < 30) (some (M 151 c)) else some (-9)))) (fun o2 => x = o2) := by
      intro x hx
      exact b_Wg (by omega) (b_We e_X12_in (b_Wf (by rw [b_01_0]; omega) hx))
    refine b_Wb ?_
    by_cases z0 : w = 0
    · exact b_Wt z0 (b_Wg (by omega) (b_Ws (b_Ws (ref _ (b_Wt z0 (b_Wg (by omega) (b_Ws rfl)))))))
    · show b_wp _ _
      by_cases z1 : w = 1
      · exact b_Wf z0 (b_Wt z1 (b_Wg (by omega) (b_Ws (b_Ws (ref _ (b_Wf z0 (b_Wt z1 (b_Wg (by omega) (b_Ws rfl)))))))))
      · show b_wp _ _
        by_cases z2 : w = 2
        · exact b_Wf z0 (b_Wf z1 (b_Wt z2 (b_Wg (by omega) (b_Ws (b_Ws (ref _ (b_Wf z0 (b_Wf z1 (b_Wt z2 (b_Wg (by omega) (b_Ws rfl)))))))))))
        · show b_wp _ _
          by_cases z3 : w = 3
          · exact b_Wf z0 (b_Wf z1 (b_Wf z2 (b_Wt z3 (b_We (e_X3_stateOf hR hC hd q) (b_Ws (b_Ws (ref _ (b_Wf z0 (b_Wf z1 (b_Wf z2 (b_Wt z3 (b_We (e_X12_ruledAs hR hC hd q) (b_Ws rfl)))))))))))))
          · show b_wp _ _
            by_cases z4 : w = 4
            · exact b_Wf z0 (b_Wf z1 (b_Wf z2 (b_Wf z3 (b_Wt z4 (b_Wg (by omega) (b_Ws (b_Ws (ref _ (b_Wf z0 (b_Wf z1 (b_Wf z2 (b_Wf z3 (b_Wt z4 (b_Wg (by omega) (b_Ws rfl)))))))))))))))
            · exact b_Wf z0 (b_Wf z1 (b_Wf z2 (b_Wf z3 (b_Wf z4 (b_Ws (b_Ws (ref _ (b_Wf z0 (b_Wf z1 (b_Wf z2 (b_Wf z3 (b_Wf z4 (b_Ws rfl)))))))))))))
  · refine b_We e_X3_has (b_Wt (by rw [b_01_0]; omega) (b_Ws ?_))
    exact b_Wg (by omega) (b_We e_X12_in (b_Wt (by rw [b_01_0]; omega) (b_Ws rfl)))
theorem op_ruled {l w : Int} {M : bM} (hR : R_rul M) (hC : R_claim M) (hd : R_day M) (hL : R_lots M) : b_wp (F_X11_ruled l w M) (fun o => b_wp (F_X12_ruled l w M) (fun o2 => o = o2)) := by
  have c1 := hC.1
  have l1 := hL.1
  unfold F_X11_ruled F_X12_ruled
  by_cases q : 0 ≤ l ∧ l < M 3 0
  · have r := hR.2 l q.1 (by omega)
    refine b_We e_X5_has (b_Wf (by rw [b_01_0]; omega) ?_)
    unfold F_X3_isRuled
    refine b_Wb (b_Wg (by omega) (b_Wi (fun z => b_Ws (b_Wt rfl (b_Ws ?_))) (fun z => b_Ws (b_Wf (by decide) ?_))))
    · exact b_We (e_X12_isLot (by omega)) (b_Wf (by rw [b_01_0]; omega) (b_Wg (by omega) (b_Wt (by omega) (b_Ws rfl))))
    · have r2 := r.resolve_left (fun y => by omega)
      have e236 := r2.2.1
      have e237 := r2.2.2.1
      have ref : ∀ x, b_wp (if w = 0 then b_g (0 ≤ l ∧ l < 60) (some (M 236 l)) else if w = 1 then b_g (0 ≤ l ∧ l < 60) (some (M 237 l)) else if w = 2 then b_g (0 ≤ l ∧ l < 60) (b_bind (F_X12_ruledAs (M 236 l) M) (fun x9 => some x9)) else some (-1)) (fun o2 => x = o2) → b_wp (b_bind (F_X12_isLot l M) (fun x1 => if x1 = 0 then some (-1) else b_g (0 ≤ l ∧ l < 60) (if M 236 l = -1 then some (-1) else if w = 0 then b_g (0 ≤ l ∧ l < 60) (some (M 236 l)) else if w = 1 then b_g (0 ≤ l ∧ l < 60) (some (M 237 l)) else if w = 2 then b_g (0 ≤ l ∧ l < 60) (b_bind (F_X12_ruledAs (M 236 l) M) (fun x9 => some x9)) else some (-1)))) (fun o2 => x = o2) := by
        intro x hx
        exact b_We (e_X12_isLot (by omega)) (b_Wf (by rw [b_01_0]; omega) (b_Wg (by omega) (b_Wf (by omega) hx)))
      unfold F_X3_tellRuling F_X3_winnerOf
      refine b_Wb (b_Wb (b_Wg (by omega) (b_Ws ?_)))
      refine b_Wi (fun y => b_Ws (b_Ws (ref _ (b_Wt y (b_Wg (by omega) (b_Ws e236.symm)))))) (fun y => b_Wi (fun y1 => b_Wg (by omega) (b_Ws (b_Ws (ref _ (b_Wf y (b_Wt y1 (b_Wg (by omega) (b_Ws e237.symm)))))))) (fun y1 => b_Wi (fun y2 => b_We e_X3_has (b_Wf (by rw [b_01_0]; omega) (b_We (e_X3_stateOf hR hC hd (by omega)) (b_Ws (b_Ws (ref _ (b_Wf y (b_Wf y1 (b_Wt y2 (b_Wg (by omega) ?_)))))))))) (fun y2 => b_Ws (b_Ws (ref _ (b_Wf y (b_Wf y1 (b_Wf y2 (b_Ws rfl)))))))))
      rw [e236]
      exact b_We (e_X12_ruledAs hR hC hd (by omega)) (b_Ws rfl)
  · refine b_We e_X5_has (b_Wt (by rw [b_01_0]; omega) (b_Ws ?_))
    exact b_We (e_X12_isLot (by omega)) (b_Wt (by rw [b_01_0]; omega) (b_Ws rfl))
def x_cnt (M : bM) (k : Int) (n : Nat) : Int := z_fold (fun c a => a + b_01 (x_as M c = k)) 0 n
theorem x_cnt_r {M : bM} {k : Int} : ∀ n : Nat, 0 ≤ x_cnt M k n ∧ x_cnt M k n ≤ n := by
  intro n
  induction n with
  | zero => exact ⟨Int.le_refl 0, Int.le_refl 0⟩
  | succ n ih =>
    have h1 : x_cnt M k (n + 1) = x_cnt M k n + b_01 (x_as M n = k) := rfl
    have h2 := b_01_r (P := x_as M n = k)
    omega
theorem op_count {w : Int} {M : bM} (hR : R_rul M) (hC : R_claim M) (hd : R_day M) (hP : R_ppl M) (hL : R_lots M) (hRu : R_rules M) (hB : R_burnt M) (hS : R_sign M) (hM : R_mort M) (hCo : R_coin M) (hPl : R_place M) (hT : R_tape M) : b_wp (F_X11_count w M) (fun o => b_wp (F_X12_count w M) (fun o2 => o = o2)) := by
  have c1 := hC.1
  have e0 := hd.1
  have e1 := hP.1.1
  have e2 := hP.1.2.2.2.1
  have e3 := hL.1.1
  have e4 := hRu.1.1
  have e5 := hB.1
  have e6 := hS.1.1
  have e7 := hM.1.1
  have e8 := hC.1.1
  have e9 := hCo.1
  have e10 := hPl.1.1
  have e11 := hT.1
  unfold F_X11_count F_X11_count_b28 F_X12_count F_X12_count_b173
  by_cases q : 20 ≤ w ∧ w ≤ 23
  · have cls : F_X3_countThat (w - 20) (M 0 10) M = some (x_cnt M (w - 20) (M 9 0).toNat) := by
      refine b_eqn ?_
      unfold F_X3_countThat F_X3_countThat_b34
      refine b_Wb (b_loop_ind (I := fun s : Int × Int => (0 ≤ s.2 ∧ s.2 ≤ M 9 0) ∧ s.1 = x_cnt M (w - 20) s.2.toNat) (fun s => (M 9 0 - s.2).toNat) ?_ (0, 0) ⟨by dsimp only; omega, rfl⟩)
      intro ⟨a, c⟩ ⟨h1, h2⟩
      dsimp only at h1 h2 ⊢
      unfold F_X3_countThat_s5
      by_cases z : M 9 0 ≤ c
      · refine b_Wt z (b_Ws (b_Ws (show a = _ from ?_)))
        rw [h2, show c = M 9 0 by omega]
      · have hs : x_cnt M (w - 20) (c + 1).toNat = a + b_01 (x_as M c = w - 20) := by rw [h2]; exact z_fold_s h1.1
        have hr := x_cnt_r (M := M) (k := w - 20) c.toNat
        refine b_Wf z (b_We (e_X3_stateOf hR hC hd ⟨h1.1, by omega⟩) (b_Wi (fun y => b_Wg (by omega) (b_Ws ⟨⟨by dsimp only; omega, ?_⟩, by dsimp only; omega⟩)) (fun y => b_Wg (by omega) (b_Ws ⟨⟨by dsimp only; omega, ?_⟩, by dsimp only; omega⟩))))
        · dsimp only
          rw [hs, b_01_1.mpr y]
        · dsimp only
          rw [hs, b_01_0.mpr y]; omega
    have ref : b_loop (fun t : Int × Int => F_X12_count_s139 w t.1 t.2 M) (0, 0) = some (x_cnt M (w - 20) (M 9 0).toNat) := by
      refine b_eqn (b_loop_ind (I := fun s : Int × Int => (0 ≤ s.2 ∧ s.2 ≤ M 9 0) ∧ s.1 = x_cnt M (w - 20) s.2.toNat) (fun s => (M 9 0 - s.2).toNat) ?_ (0, 0) ⟨by dsimp only; omega, rfl⟩)
      intro ⟨a, c⟩ ⟨h1, h2⟩
      dsimp only at h1 h2 ⊢
      unfold F_X12_count_s139 F_X12_count_b165
      by_cases z : M 11 106 ≤ c
      · refine b_Wt z (b_Ws (show a = _ from ?_))
        rw [h2, show c = M 9 0 by omega]
      · have hs : x_cnt M (w - 20) (c + 1).toNat = a + b_01 (x_as M c = w - 20) := by rw [h2]; exact z_fold_s h1.1
        have hr := x_cnt_r (M := M) (k := w - 20) c.toNat
        refine b_Wf z (b_We (e_X12_ruledAs hR hC hd ⟨h1.1, by omega⟩) (b_Wg (by omega) (b_Wi (fun y => b_Wg (by omega) (b_Ws ⟨⟨by dsimp only; omega, ?_⟩, by dsimp only; omega⟩)) (fun y => b_Wg (by omega) (b_Ws ⟨⟨by dsimp only; omega, ?_⟩, by dsimp only; omega⟩)))))
        · dsimp only
          rw [hs, b_01_1.mpr y]
        · dsimp only
          rw [hs, b_01_0.mpr y]
    refine b_Wf (by omega) (b_Wf (by omega) (b_Wg (by omega) (b_We cls (b_Ws ?_))))
    exact b_Wf (by omega) (b_Wf (by omega) (b_Wf (by omega) (b_Wf (by omega) (b_Wf (by omega) (b_Wf (by omega) (b_Wf (by omega) (b_Wf (by omega) (b_Wf (by omega) (b_Wf (by omega) (b_Wf (by omega) (b_Wf (by omega) (b_We e_X12_in (b_Wf (by rw [b_01_0]; omega) (b_We ref (b_Ws rfl)))))))))))))))
  · rw [e0, e1, e2, e3, e4, e5, e6, e7, e8, e9, e10, e11]
    have last : b_wp (b_bind (F_X12_in w 20 23 M) fun x25 => if x25 = 0 then some (-1) else b_bind (b_loop (fun t : Int × Int => F_X12_count_s139 w t.1 t.2 M) (0, 0)) fun t => some t) (fun o2 => (-1 : Int) = o2) := b_We e_X12_in (b_Wt (by rw [b_01_0]; omega) (b_Ws rfl))
    have low : ∀ K : Int → Prop, b_wp (if w = 0 then some (M 0 10) else if w = 1 then some (M 2 0) else if w = 2 then some (M 2 1) else if w = 3 then some (M 3 0) else if w = 4 then some (M 4 0) else if w = 5 then some (M 6 0) else if w = 6 then some (M 5 0) else if w = 7 then some (M 8 0) else if w = 8 then some (M 9 0) else if w = 9 then some (M 9 1) else if w = 10 then some (M 10 0) else if w = 11 then some (M 1 1) else some (-1)) K → b_wp (if w < 20 then (if w = 0 then some (M 0 10) else if w = 1 then some (M 2 0) else if w = 2 then some (M 2 1) else if w = 3 then some (M 3 0) else if w = 4 then some (M 4 0) else if w = 5 then some (M 6 0) else if w = 6 then some (M 5 0) else if w = 7 then some (M 8 0) else if w = 8 then some (M 9 0) else if w = 9 then some (M 9 1) else if w = 10 then some (M 10 0) else if w = 11 then some (M 1 1) else some (-1)) else if 23 < w then (if w = 0 then some (M 0 10) else if w = 1 then some (M 2 0) else if w = 2 then some (M 2 1) else if w = 3 then some (M 3 0) else if w = 4 then some (M 4 0) else if w = 5 then some (M 6 0) else if w = 6 then some (M 5 0) else if w = 7 then some (M 8 0) else if w = 8 then some (M 9 0) else if w = 9 then some (M 9 1) else if w = 10 then some (M 10 0) else if w = 11 then some (M 1 1) else some (-1)) else b_g (b_i32 (w - 20)) (b_bind (F_X3_countThat (w - 20) (M 0 10) M) fun x28 => some x28)) K := by
      intro K h
      by_cases z : w < 20
      · exact b_Wt z h
      · exact b_Wf z (b_Wt (by omega) h)
    refine low _ ?_
    by_cases z0 : w = 0
    · exact b_Wt z0 (b_Ws (b_Wt z0 (b_Ws rfl)))
    · show b_wp _ _
      by_cases z1 : w = 1
      · exact b_Wf z0 (b_Wt z1 (b_Ws (b_Wf z0 (b_Wt z1 (b_Ws rfl)))))
      · show b_wp _ _
        by_cases z2 : w = 2
        · exact b_Wf z0 (b_Wf z1 (b_Wt z2 (b_Ws (b_Wf z0 (b_Wf z1 (b_Wt z2 (b_Ws rfl)))))))
        · show b_wp _ _
          by_cases z3 : w = 3
          · exact b_Wf z0 (b_Wf z1 (b_Wf z2 (b_Wt z3 (b_Ws (b_Wf z0 (b_Wf z1 (b_Wf z2 (b_Wt z3 (b_Ws rfl)))))))))
          · show b_wp _ _
            by_cases z4 : w = 4
            · exact b_Wf z0 (b_Wf z1 (b_Wf z2 (b_Wf z3 (b_Wt z4 (b_Ws (b_Wf z0 (b_Wf z1 (b_Wf z2 (b_Wf z3 (b_Wt z4 (b_Ws rfl)))))))))))
            · show b_wp _ _
              by_cases z5 : w = 5
              · exact b_Wf z0 (b_Wf z1 (b_Wf z2 (b_Wf z3 (b_Wf z4 (b_Wt z5 (b_Ws (b_Wf z0 (b_Wf z1 (b_Wf z2 (b_Wf z3 (b_Wf z4 (b_Wt z5 (b_Ws rfl)))))))))))))
              · show b_wp _ _
                by_cases z6 : w = 6
                · exact b_Wf z0 (b_Wf z1 (b_Wf z2 (b_Wf z3 (b_Wf z4 (b_Wf z5 (b_Wt z6 (b_Ws (b_Wf z0 (b_Wf z1 (b_Wf z2 (b_Wf z3 (b_Wf z4 (b_Wf z5 (b_Wt z6 (b_Ws rfl)))))))))))))))
                · show b_wp _ _
                  by_cases z7 : w = 7
                  · exact b_Wf z0 (b_Wf z1 (b_Wf z2 (b_Wf z3 (b_Wf z4 (b_Wf z5 (b_Wf z6 (b_Wt z7 (b_Ws (b_Wf z0 (b_Wf z1 (b_Wf z2 (b_Wf z3 (b_Wf z4 (b_Wf z5 (b_Wf z6 (b_Wt z7 (b_Ws rfl)))))))))))))))))
                  · show b_wp _ _
                    by_cases z8 : w = 8
                    · exact b_Wf z0 (b_Wf z1 (b_Wf z2 (b_Wf z3 (b_Wf z4 (b_Wf z5 (b_Wf z6 (b_Wf z7 (b_Wt z8 (b_Ws (b_Wf z0 (b_Wf z1 (b_Wf z2 (b_Wf z3 (b_Wf z4 (b_Wf z5 (b_Wf z6 (b_Wf z7 (b_Wt z8 (b_Ws rfl)))))))))))))))))))
                    · show b_wp _ _
                      by_cases z9 : w = 9
                      · exact b_Wf z0 (b_Wf z1 (b_Wf z2 (b_Wf z3 (b_Wf z4 (b_Wf z5 (b_Wf z6 (b_Wf z7 (b_Wf z8 (b_Wt z9 (b_Ws (b_Wf z0 (b_Wf z1 (b_Wf z2 (b_Wf z3 (b_Wf z4 (b_Wf z5 (b_Wf z6 (b_Wf z7 (b_Wf z8 (b_Wt z9 (b_Ws rfl)))))))))))))))))))))
                      · show b_wp _ _
                        by_cases z10 : w = 10
                        · exact b_Wf z0 (b_Wf z1 (b_Wf z2 (b_Wf z3 (b_Wf z4 (b_Wf z5 (b_Wf z6 (b_Wf z7 (b_Wf z8 (b_Wf z9 (b_Wt z10 (b_Ws (b_Wf z0 (b_Wf z1 (b_Wf z2 (b_Wf z3 (b_Wf z4 (b_Wf z5 (b_Wf z6 (b_Wf z7 (b_Wf z8 (b_Wf z9 (b_Wt z10 (b_Ws rfl)))))))))))))))))))))))
                        · show b_wp _ _
                          by_cases z11 : w = 11
                          · exact b_Wf z0 (b_Wf z1 (b_Wf z2 (b_Wf z3 (b_Wf z4 (b_Wf z5 (b_Wf z6 (b_Wf z7 (b_Wf z8 (b_Wf z9 (b_Wf z10 (b_Wt z11 (b_Ws (b_Wf z0 (b_Wf z1 (b_Wf z2 (b_Wf z3 (b_Wf z4 (b_Wf z5 (b_Wf z6 (b_Wf z7 (b_Wf z8 (b_Wf z9 (b_Wf z10 (b_Wt z11 (b_Ws rfl)))))))))))))))))))))))))
                          · exact b_Wf z0 (b_Wf z1 (b_Wf z2 (b_Wf z3 (b_Wf z4 (b_Wf z5 (b_Wf z6 (b_Wf z7 (b_Wf z8 (b_Wf z9 (b_Wf z10 (b_Wf z11 (b_Ws (b_Wf z0 (b_Wf z1 (b_Wf z2 (b_Wf z3 (b_Wf z4 (b_Wf z5 (b_Wf z6 (b_Wf z7 (b_Wf z8 (b_Wf z9 (b_Wf z10 (b_Wf z11 (last)))))))))))))))))))))))))
