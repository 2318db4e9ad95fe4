/-- what settles and next rest on -/
def Q_all (M : bM) : Prop := C_all M ∧ G_all M (M 0 10) ∧ R_day M ∧ R_claim M ∧ R_cref M ∧ R_rul M ∧ R_place M
def S_Q : bW := S_C ++ (S_day ++ (S_claim ++ (S_cref ++ (S_rul ++ S_place))))
theorem Q_k {W : bW} {M N : bM} (f : b_fr W M N) (h : b_dis W S_Q = true) (hQ : Q_all M) : Q_all N := by
  unfold S_Q at h
  have a1 := b_disA h
  have a2 := b_disA a1.2
  have a3 := b_disA a2.2
  have a4 := b_disA a3.2
  have a5 := b_disA a4.2
  obtain ⟨q1, q2, q3, q4, q5, q6, q7⟩ := hQ
  have e : N 0 10 = M 0 10 := b_kp1 f a2.1 0 10 rfl
  refine ⟨C_k f a1.1 q1, ?_, R_day_k (b_kp1 f a2.1) q3, R_claim_k (b_kp1 f a3.1) q4, R_cref_k (b_kp1 f a4.1) q5, R_rul_k (b_kp1 f a5.1) q6, R_place_k (b_kp1 f a5.2) q7⟩
  rw [e]
  exact G_k f a1.1 q2
theorem x_dbt_c {W : bW} {M N : bM} (f : b_fr W M N) (h : b_dis W S_Q = true) {l : Int} : x_dbt N l ↔ x_dbt M l := by
  unfold S_Q at h
  have a2 := b_disA (b_disA h).2
  have a5 := b_disA (b_disA (b_disA a2.2).2).2
  have k := b_kp1 f a5.1
  unfold x_dbt
  rw [b_kp1 f a2.1 11 11 rfl, k 236 l rfl, k 237 l rfl, k 238 l rfl, show N 234 = M 234 from funext fun i => k 234 i rfl]
theorem dbt_f {M : bM} {l : Int} (hru : R_rul M) (hcl : R_claim M) (hcr : R_cref M) (hl : 0 ≤ l ∧ l < 60) (h : x_dbt M l) : (1 ≤ M 152 l ∧ M 152 l ≤ M 9 0) ∧ M 236 l = M 152 l - 1 ∧ l < M 3 0 ∧ (0 ≤ M 147 (M 236 l) ∧ M 147 (M 236 l) < M 2 0) := by
  have r := (hru.2 l hl.1 hl.2).resolve_left (fun z => h.1 z.2)
  have c := hcr (M 152 l - 1) (by omega) (by omega)
  rw [r.2.2.2.2.2.2] at c
  refine ⟨r.1, r.2.1, c.2.2, ?_⟩
  rw [r.2.1]; exact c.1
/-- how many of the first LOTS are ruled with DOUBT; each by a CLAIM of its own -/
noncomputable def cdb (M : bM) : Nat → Int
  | 0 => 0
  | k + 1 => cdb M k + c_01 (x_dbt M (k : Int))
theorem cdb_t {M : bM} {k : Nat} (h : x_dbt M (k : Int)) : cdb M (k + 1) = cdb M k + 1 := by
  show cdb M k + c_01 _ = _
  rw [c_01_t h]
theorem cdb_n {M : bM} {k : Nat} (h : ¬ x_dbt M (k : Int)) : cdb M (k + 1) = cdb M k := by
  show cdb M k + c_01 _ = _
  rw [c_01_f h]
  omega
theorem cdb_f {M : bM} : ∀ k : Nat, 0 ≤ cdb M k ∧ ∃ f : Nat → Nat, (∀ i : Nat, (i : Int) < cdb M k → x_dbt M ((f i : Nat) : Int) ∧ f i < k) ∧ ∀ i j : Nat, (i : Int) < cdb M k → (j : Int) < cdb M k → f i = f j → i = j := by
  intro k
  induction k with
  | zero => exact ⟨Int.le_refl _, fun _ => 0, fun i hi => absurd hi (show ¬ (i : Int) < 0 by omega), fun i j hi => absurd hi (show ¬ (i : Int) < 0 by omega)⟩
  | succ k ih =>
    obtain ⟨h0, f, h1, h2⟩ := ih
    by_cases q : x_dbt M (k : Int)
    · have e := cdb_t q
      rw [e]
      refine ⟨by omega, fun i => if i = (cdb M k).toNat then k else f i, fun i hi => ?_, fun i j hi hj hf => ?_⟩
      · dsimp only
        by_cases a : i = (cdb M k).toNat
        · rw [if_pos a]; exact ⟨q, by omega⟩
        · rw [if_neg a]
          have := h1 i (by omega)
          exact ⟨this.1, by omega⟩
      · dsimp only at hf
        by_cases a : i = (cdb M k).toNat
        · by_cases b : j = (cdb M k).toNat
          · omega
          · rw [if_pos a, if_neg b] at hf
            have := (h1 j (by omega)).2
            omega
        · by_cases b : j = (cdb M k).toNat
          · rw [if_neg a, if_pos b] at hf
            have := (h1 i (by omega)).2
            omega
          · rw [if_neg a, if_neg b] at hf
            exact h2 i j (by omega) (by omega) hf
    · have e := cdb_n q
      rw [e]
      exact ⟨h0, f, fun i hi => ⟨(h1 i hi).1, by have := (h1 i hi).2; omega⟩, h2⟩
theorem cdb_le {M : bM} (hru : R_rul M) (hcl : R_claim M) {k : Nat} (hk : k ≤ 60) : cdb M k ≤ 30 := by
  obtain ⟨h0, f, h1, h2⟩ := cdb_f (M := M) k
  have hc := hcl.1
  have key : ∀ i : Nat, (i : Int) < cdb M k → (1 ≤ M 152 ((f i : Nat) : Int) ∧ M 152 ((f i : Nat) : Int) ≤ M 9 0) ∧ M 148 (M 152 ((f i : Nat) : Int) - 1) = ((f i : Nat) : Int) := by
    intro i hi
    obtain ⟨a, b⟩ := h1 i hi
    have r := (hru.2 ((f i : Nat) : Int) (by omega) (by omega)).resolve_left (fun z => a.1 z.2)
    exact ⟨r.1, r.2.2.2.2.2.2⟩
  have hA : ∀ i : Nat, i < (cdb M k).toNat → (M 152 ((f i : Nat) : Int) - 1).toNat < 30 := by
    intro i hi
    have := (key i (by omega)).1
    omega
  have hB : ∀ i j : Nat, i < (cdb M k).toNat → j < (cdb M k).toNat → (M 152 ((f i : Nat) : Int) - 1).toNat = (M 152 ((f j : Nat) : Int) - 1).toNat → i = j := by
    intro i j hi hj e
    have a := key i (by omega)
    have b := key j (by omega)
    have a1 := a.1
    have b1 := b.1
    have e2 : M 152 ((f i : Nat) : Int) = M 152 ((f j : Nat) : Int) := by omega
    have e3 := a.2
    rw [e2, b.2] at e3
    exact h2 i j (by omega) (by omega) (by omega)
  have hp := g_pig 30 (cdb M k).toNat (fun i => (M 152 ((f i : Nat) : Int) - 1).toNat) hA hB
  omega
theorem cdb_m {M : bM} {l : Int} (hl : 0 ≤ l) : cdb M l.toNat ≤ cdb M (l + 1).toNat := by
  rw [show (l + 1).toNat = l.toNat + 1 by omega]
  by_cases q : x_dbt M ((l.toNat : Nat) : Int)
  · rw [cdb_t q]; omega
  · rw [cdb_n q]; omega
theorem cdb_mo {M : bM} {k : Nat} : ∀ m : Nat, cdb M k ≤ cdb M (k + m) := by
  intro m
  induction m with
  | zero => exact Int.le_refl _
  | succ m ih =>
    by_cases q : x_dbt M ((k + m : Nat) : Int)
    · have := cdb_t q
      show _ ≤ cdb M (k + m + 1)
      omega
    · have := cdb_n q
      show _ ≤ cdb M (k + m + 1)
      omega
theorem cdb_no {M : bM} (hru : R_rul M) (hcl : R_claim M) {l : Int} (hl : 0 ≤ l) (h : 30 ≤ cdb M l.toNat) : ∀ j, l ≤ j → j < 60 → ¬ x_dbt M j := by
  intro j j0 j1 z
  have e : ((j.toNat : Nat) : Int) = j := by omega
  rw [← e] at z
  have a := cdb_t z
  have b := cdb_le (k := j.toNat + 1) hru hcl (by omega)
  have c := cdb_mo (M := M) (k := l.toNat) (j.toNat - l.toNat)
  rw [show l.toNat + (j.toNat - l.toNat) = j.toNat by omega] at c
  omega
theorem t_gather3 {N : bM} (hQ : Q_all N) : b_wp (F_X9_gather (N 0 10) N) (fun Q => b_fr W_X9_gather N Q ∧ (0 ≤ Q 10 9 ∧ Q 10 9 ≤ 30) ∧ (∀ i, 0 ≤ i → i < Q 10 9 → (0 ≤ Q 159 i ∧ Q 159 i ≤ 8) ∧ cs_en Q i) ∧ ∀ s, cn Q (fun b => x_gn N s b (N 10 0).toNat) (Q 10 9).toNat = x_tl N (N 0 10) s 60) := by
  obtain ⟨hC, hG, hD, hcl, hcr, hru, hP⟩ := hQ
  have hQ : Q_all N := ⟨hC, hG, hD, hcl, hcr, hru, hP⟩
  have hl20 := hC.1.2.2.1.1.1
  unfold F_X9_gather
  refine b_Wl (b_Wb (b_wp_m (fun Q z => ?_) (b_loop_ind (P := fun Q : bM => b_fr W_X9_gather N Q ∧ (0 ≤ Q 10 9 ∧ Q 10 9 ≤ 30) ∧ (∀ i, 0 ≤ i → i < Q 10 9 → (0 ≤ Q 159 i ∧ Q 159 i ≤ 8) ∧ cs_en Q i) ∧ ∀ s, cn Q (fun b => x_gn N s b (N 10 0).toNat) (Q 10 9).toNat = x_tl N (N 0 10) s 60) (I := fun t : Int × bM => (0 ≤ t.1 ∧ t.1 ≤ 60) ∧ b_fr W_X9_gather N t.2 ∧ (0 ≤ t.2 10 9 ∧ t.2 10 9 ≤ cdb N t.1.toNat) ∧ (∀ i, 0 ≤ i → i < t.2 10 9 → (0 ≤ t.2 159 i ∧ t.2 159 i ≤ 8) ∧ cs_en t.2 i) ∧ ∀ s, cn t.2 (fun b => x_gn N s b (N 10 0).toNat) (t.2 10 9).toNat = x_tl N (N 0 10) s t.1.toNat) (fun t => (60 - t.1).toNat) ?_ (0, b_up N 10 9 0) ?_)))
  · unfold F_X9_gather_b95
    exact b_Ws z
  · intro ⟨l, Q⟩ ⟨h1, h2, h3, h4, h5⟩
    dsimp only at h1 h2 h3 h4 h5 ⊢
    unfold F_X9_gather_s7
    have cl := cdb_le (k := l.toNat) hru hcl (by omega)
    refine b_Wi (fun a => b_Ws ?_) (fun a => b_Wi (fun a2 => b_Ws ?_) (fun a2 => ?_))
    · have e : l = 60 := by omega
      subst e
      exact ⟨h2, by omega, h4, h5⟩
    · exact ⟨h2, by omega, h4, fun s => (h5 s).trans (x_tl_t l h1.1 (cdb_no hru hcl h1.1 (by omega)) 60 (by omega) (by omega)).symm⟩
    have cm := cdb_m (M := N) h1.1
    have qQ := Q_k h2 (by decide +kernel) hQ
    have q10 : Q 0 10 = N 0 10 := h2 0 10 (by decide)
    have ed := e_X3_isDoubtful (l := l) qQ.2.2.2.2.2.1 qQ.2.2.2.1 qQ.2.2.1 (by omega)
    rw [q10] at ed
    have dc := x_dbt_c (l := l) h2 (by decide +kernel)
    have skip : ∀ P : bM, b_fr W_X9_gather N P → P 10 9 = Q 10 9 → (∀ i, 0 ≤ i → i < Q 10 9 → P 159 i = Q 159 i) → (∀ j, j < 8 * Q 10 9 → P 160 j = Q 160 j ∧ P 161 j = Q 161 j) → (∀ s, ¬ (x_dbt N l ∧ Sd N (N 0 10) l s)) → b_wp (b_g (b_i32 (l + 1)) (some (.inl ((l + 1), P)) : Option ((Int × bM) ⊕ bM))) (Sum.elim (fun t : Int × bM => ((0 ≤ t.1 ∧ t.1 ≤ 60) ∧ b_fr W_X9_gather N t.2 ∧ (0 ≤ t.2 10 9 ∧ t.2 10 9 ≤ cdb N t.1.toNat) ∧ (∀ i, 0 ≤ i → i < t.2 10 9 → (0 ≤ t.2 159 i ∧ t.2 159 i ≤ 8) ∧ cs_en t.2 i) ∧ ∀ s, cn t.2 (fun b => x_gn N s b (N 10 0).toNat) (t.2 10 9).toNat = x_tl N (N 0 10) s t.1.toNat) ∧ (60 - t.1).toNat < (60 - l).toNat) (fun Q : bM => b_fr W_X9_gather N Q ∧ (0 ≤ Q 10 9 ∧ Q 10 9 ≤ 30) ∧ (∀ i, 0 ≤ i → i < Q 10 9 → (0 ≤ Q 159 i ∧ Q 159 i ≤ 8) ∧ cs_en Q i) ∧ ∀ s, cn Q (fun b => x_gn N s b (N 10 0).toNat) (Q 10 9).toNat = x_tl N (N 0 10) s 60)) := by
      intro P f e9 e159 e160 ns
      refine b_Wg (by omega) (b_Ws ⟨⟨by dsimp only; omega, f, by dsimp only; omega, fun i i0 i1 => ?_, fun s => ?_⟩, by dsimp only; omega⟩)
      · dsimp only at i1 ⊢
        rw [e9] at i1
        have := h4 i i0 i1
        rw [e159 i i0 i1]
        refine ⟨this.1, fun j j0 j1 => ?_⟩
        rw [e159 i i0 i1] at j1
        rw [(e160 (8 * i + j) (by omega)).1]
        exact this.2 j j0 j1
      · dsimp only
        rw [e9, x_tl_n h1.1 (ns s), ← h5 s]
        refine cn_c _ (fun i i0 i1 => ?_) (fun j j1 => e160 j (by omega))
        exact ⟨e159 i i0 (by omega), (h4 i i0 (by omega)).1.2⟩
    refine b_We ed (b_Wi (fun b => skip Q h2 rfl (fun _ _ _ => rfl) (fun _ _ => ⟨rfl, rfl⟩) (fun s z => ?_)) (fun b => ?_))
    · rw [b_01_0] at b
      exact b (dc.mpr z.1)
    have db : x_dbt N l := dc.mp (Decidable.of_not_not (fun z => b (b_01_0.mpr z)))
    obtain ⟨w1, w2, w3, w4⟩ := dbt_f hru hcl hcr (by omega) db
    have q152 : Q 152 l = N 152 l := h2 152 l (by simp [b_ins, W_X9_gather])
    have c1 := hcl.1
    have q147 : Q 147 (N 152 l - 1) = N 147 (N 236 l) := by rw [h2 147 _ (by simp [b_ins, W_X9_gather]), w2]
    have q3 : Q 3 0 = N 3 0 := h2 3 0 (by decide)
    have q2 : Q 2 0 = N 2 0 := h2 2 0 (by decide)
    unfold F_X3_winnerOf
    rw [q152]
    refine b_Wb (b_Wg (by omega) (b_Ws (b_Wg (by omega) (b_Wl ?_))))
    rw [q147]
    have gQ := qQ.2.1
    rw [q10] at gQ
    refine b_Wb (b_wp_m (fun o y => ?_) (t_search (l := l) gQ qQ.1.2.2.2 (by omega) (by omega)))
    obtain ⟨x, P⟩ := o
    obtain ⟨y1, y2⟩ := y
    dsimp only at y1 y2
    have gs : GS N Q := b_kp1 h2 (by decide +kernel)
    have sr := gs_Sr gs y2
    have fP : b_fr W_X9_gather N P := b_fr_tr h2 (b_fr_mo (by decide +kernel) y1)
    have p9 : P 10 9 = Q 10 9 := y1 10 9 (by decide)
    have p159 : ∀ i, P 159 i = Q 159 i := fun i => y1 159 i (by simp [b_ins, W_X2_search])
    have p160 : ∀ i, P 160 i = Q 160 i := fun i => y1 160 i (by simp [b_ins, W_X2_search])
    have p161 : ∀ i, P 161 i = Q 161 i := fun i => y1 161 i (by simp [b_ins, W_X2_search])
    refine b_Wtwo ?_
    dsimp only
    refine (b_Wi (fun c => skip P fP p9 (fun i _ _ => p159 i) (fun j _ => ⟨p160 j, p161 j⟩) (fun s z => ((Sd_i hl20 sr).mp z.2).1 c)) (fun c => ?_))
    have qP := Q_k fP (by decide +kernel) hQ
    have lk := Sr_lk sr c
    have p6 : P 6 0 = N 6 0 := fP 6 0 (by decide)
    have b6 := hC.1.2.2.2.2.2.2.2.2
    have ssP : SS N P := b_kp1 fP (by decide +kernel)
    have smc : ∀ s, Sm P (N 0 10) s (P 140) ↔ Sm N (N 0 10) s (P 140) := fun s => Sm_c ssP (funext fun i => fP 126 i (by simp [b_ins, W_X9_gather])) (funext fun i => fP 156 i (by simp [b_ins, W_X9_gather])) (funext fun i => fP 157 i (by simp [b_ins, W_X9_gather])) (fP 10 0 (by decide))
    refine b_We (e_X1_inForce qP.1.1.2.2.2.2.2.2.1) (b_Wb (b_wp_m (fun o k => ?_) (t_addCase (d := N 0 10) qP.1.1.2.2.2.2.2.2.1 qP.2.2.2.2.2.2 (by omega) (by have := b6.2; omega) lk.1 lk.2.1 (by rw [p6]; exact lk.2.2))))
    obtain ⟨u, O⟩ := o
    obtain ⟨k1, k2⟩ := k
    dsimp only at k1 k2
    have fO : b_fr W_X9_gather N O := b_fr_tr fP (fun z j hj => k1.1 z j (fun q => by subst q; revert hj; simp [b_ins, W_X9_gather]) (fun q => by subst q; revert hj; simp [b_ins, W_X9_gather]) (fun q => by subst q; revert hj; simp [b_ins, W_X9_gather]))
    have o9 : O 10 9 = Q 10 9 := by rw [k1.1 10 9 (by decide) (by decide) (by decide), p9]
    have o159 : ∀ i, 0 ≤ i → i < Q 10 9 → O 159 i = Q 159 i := fun i i0 i1 => by rw [k1.2.1 i (by omega), p159]
    have o160 : ∀ j, j < 8 * Q 10 9 → O 160 j = Q 160 j ∧ O 161 j = Q 161 j := fun j hj => by
      have := k1.2.2 j (by omega)
      rw [this.1, this.2, p160, p161]
      exact ⟨rfl, rfl⟩
    rcases k2 with ⟨k2, k3⟩ | ⟨k2, k3, k4, k5⟩
    · exact b_Wtwo (b_Wt k2 (skip O fO o9 o159 o160 (fun s z => k3 s ((smc s).mpr ((Sd_i hl20 sr).mp z.2).2))))
    · refine b_Wtwo ?_
      dsimp only
      refine (b_Wf (by omega) (b_Wg (by omega) (b_Wl (b_Wg (by omega) (b_Ws ⟨⟨by dsimp only; omega, b_frF fO (by decide), ?_, fun i i0 i1 => ?_, fun s => ?_⟩, by dsimp only; omega⟩)))))
      · dsimp only
        have ct : cdb N (l + 1).toNat = cdb N l.toNat + 1 := by
          rw [show (l + 1).toNat = l.toNat + 1 by omega]
          exact cdb_t (by rw [show ((l.toNat : Nat) : Int) = l by omega]; exact db)
        rw [b_ups, o9]; omega
      · dsimp only at i1 ⊢
        rw [b_ups, o9] at i1
        rw [b_upc (by decide)]
        unfold cs_en
        rw [b_upc (by decide)]
        by_cases e : i = Q 10 9
        · rw [e]
          rw [p9] at k3 k4
          refine ⟨k3, fun j j0 j1 => ?_⟩
          rw [b_upc (by decide)]
          exact k4 j j0 j1
        · have := h4 i i0 (by omega)
          rw [o159 i i0 (by omega)]
          refine ⟨this.1, fun j j0 j1 => ?_⟩
          rw [b_upc (by decide), (o160 (8 * i + j) (by omega)).1]
          exact this.2 j j0 j1
      · dsimp only
        rw [b_ups, o9]
        have e1 : ∀ k : Nat, cn (b_up O 10 9 (Q 10 9 + 1)) (fun b => x_gn N s b (N 10 0).toNat) k = cn O (fun b => x_gn N s b (N 10 0).toNat) k := by
          intro k
          induction k with
          | zero => rfl
          | succ k ih =>
            show cn _ _ k + c_01 (cs_ok _ _ _) = cn _ _ k + c_01 (cs_ok _ _ _)
            rw [ih]
            unfold cs_ok
            rw [show b_up O 10 9 (Q 10 9 + 1) 159 = O 159 from funext fun i => b_upc (by decide), show b_up O 10 9 (Q 10 9 + 1) 160 = O 160 from funext fun i => b_upc (by decide), show b_up O 10 9 (Q 10 9 + 1) 161 = O 161 from funext fun i => b_upc (by decide)]
        have e2 : cn O (fun b => x_gn N s b (N 10 0).toNat) (Q 10 9).toNat = cn Q (fun b => x_gn N s b (N 10 0).toNat) (Q 10 9).toNat := cn_c _ (fun i i0 i1 => ⟨o159 i i0 (by omega), (h4 i i0 (by omega)).1.2⟩) (fun j j1 => o160 j (by omega))
        have e3 : (fun b => x_gn P s b (P 10 0).toNat) = fun b => x_gn N s b (N 10 0).toNat := funext fun b => by
          rw [fP 10 0 (by decide)]
          exact x_gn_c (funext fun i => fP 156 i (by simp [b_ins, W_X9_gather])) (funext fun i => fP 157 i (by simp [b_ins, W_X9_gather])) _
        have k6 := k5 s
        rw [e3, p9] at k6
        rw [e1]
        by_cases sm : Sm N (N 0 10) s (P 140)
        · rw [cn_s h3.1 (k6.mpr ((smc s).mpr sm)), e2, h5 s, x_tl_s h1.1 ⟨db, (Sd_i hl20 sr).mpr ⟨c, sm⟩⟩]
        · rw [cn_n h3.1 (fun z => sm ((smc s).mp (k6.mp z))), e2, h5 s, x_tl_n h1.1 (fun z => sm ((Sd_i hl20 sr).mp z.2).2)]
  · refine ⟨by dsimp only; omega, b_frF b_fr_refl (by decide), ⟨by dsimp only; rw [b_ups]; exact Int.le_refl 0, by dsimp only; rw [b_ups]; exact Int.le_refl 0⟩, fun i i0 i1 => ?_, fun s => ?_⟩
    · dsimp only at i1
      rw [b_ups] at i1; omega
    · dsimp only
      rw [b_ups]
      rfl
theorem t_fill158 {M : bM} : b_wp (F_J7_fill_53178_158 0 M) (fun N => (∀ c j, c ≠ 158 → N c j = M c j) ∧ ∀ b, 0 ≤ b → b < 30 → N 158 b = 0) := by
  unfold F_J7_fill_53178_158
  refine b_Wb (b_wp_m (fun o z => ?_) (b_loop_ind (P := fun N : bM => (∀ c j, c ≠ 158 → N c j = M c j) ∧ ∀ b, 0 ≤ b → b < 30 → N 158 b = 0) (I := fun t : Int × bM => (0 ≤ t.1 ∧ t.1 ≤ 30) ∧ (∀ c j, c ≠ 158 → t.2 c j = M c j) ∧ ∀ b, 0 ≤ b → b < t.1 → t.2 158 b = 0) (fun t => (30 - t.1).toNat) ?_ (0, M) ⟨by dsimp only; omega, fun _ _ _ => rfl, fun b b0 b1 => by dsimp only at b1; omega⟩))
  · unfold F_J7_fill_53178_158_b20
    exact b_Ws z
  intro ⟨k, Q⟩ ⟨h1, h2, h3⟩
  dsimp only at h1 h2 h3 ⊢
  unfold F_J7_fill_53178_158_s5
  refine b_Wi (fun q => b_Ws ⟨h2, fun b b0 b1 => h3 b b0 (by omega)⟩) (fun q => b_Wg (by omega) (b_Wl (b_Wg (by omega) (b_Ws ⟨⟨by dsimp only; omega, fun c j hc => ?_, fun b b0 b1 => ?_⟩, by dsimp only; omega⟩))))
  · dsimp only
    rw [b_upc hc]; exact h2 c j hc
  · dsimp only at b1 ⊢
    rw [b_upJ]
    by_cases e : b = k
    · rw [if_pos e]
    · rw [if_neg e]; exact h3 b b0 (by omega)
theorem cn_g {Q P : bM} {g g2 : Int → Int} (h159 : P 159 = Q 159) (h160 : P 160 = Q 160) (h161 : P 161 = Q 161) (hg : ∀ b, 0 ≤ b → b < 30 → g2 b = g b) : ∀ k : Nat, (∀ i, 0 ≤ i → i < (k : Int) → cs_en Q i) → cn P g2 k = cn Q g k := by
  intro k
  induction k with
  | zero => intro _; rfl
  | succ k ih =>
    intro h
    have hk := h k (by omega) (by omega)
    have e : cs_ok P g2 k ↔ cs_ok Q g k := by
      unfold cs_ok
      rw [h159, h160, h161]
      refine ⟨fun z j j0 j1 => ?_, fun z j j0 j1 => ?_⟩
      · have := hk j j0 j1
        rw [← hg _ this.1 this.2]; exact z j j0 j1
      · have := hk j j0 j1
        rw [hg _ this.1 this.2]; exact z j j0 j1
    show cn P g2 k + c_01 (cs_ok P g2 k) = cn Q g k + c_01 (cs_ok Q g k)
    rw [ih (fun i i0 i1 => h i i0 (by omega)), propext e]
/-- after the gathering, and with the gains of s in 158, settled counts what s settles -/
theorem t_count {N Q R : bM} {s : Int} (h9 : 0 ≤ Q 10 9 ∧ Q 10 9 ≤ 30) (h4 : ∀ i, 0 ≤ i → i < Q 10 9 → (0 ≤ Q 159 i ∧ Q 159 i ≤ 8) ∧ cs_en Q i) (h5 : cn Q (fun b => x_gn N s b (N 10 0).toNat) (Q 10 9).toNat = x_tl N (N 0 10) s 60) (hR : ∀ c j, c ≠ 158 → c ≠ 10 → R c j = Q c j) (r9 : R 10 9 = Q 10 9) (hg : ∀ b, 0 ≤ b → b < 30 → R 158 b = x_gn N s b (N 10 0).toNat) : b_wp (F_X9_settled R) (fun x => x = x_tl N (N 0 10) s 60) := by
  have e159 : R 159 = Q 159 := funext fun i => hR 159 i (by decide) (by decide)
  have e160 : R 160 = Q 160 := funext fun i => hR 160 i (by decide) (by decide)
  have e161 : R 161 = Q 161 := funext fun i => hR 161 i (by decide) (by decide)
  refine b_wp_m (fun x z => ?_) (t_settled (by omega) (fun i i0 i1 => ?_))
  · rw [z, r9, cn_g e159 e160 e161 hg _ (fun i i0 i1 => (h4 i i0 (by omega)).2), h5]
  · rw [e159, e160]
    exact h4 i i0 (by omega)
theorem t_settledBy {N : bM} {s : Int} (hQ : Q_all N) : b_wp (F_X9_settledBy s (N 0 10) N) (fun o => b_fr W_X9_settledBy N o.2 ∧ o.1 = x_tl N (N 0 10) s 60) := by
  refine b_wl_wp (w_X9_settledBy b_fr_refl) ?_
  unfold F_X9_settledBy
  refine b_Wb (b_wp_m (fun Q z => ?_) (t_gather3 hQ))
  obtain ⟨z1, z2, z3, z4⟩ := z
  refine b_Wb (b_wp_m (fun P y => ?_) t_fill158)
  refine b_Wb (b_wp_m (fun R x => ?_) (t_gainC (M := N) (s := s) hQ.2.2.2.2.2.2 (by rw [y.1 10 0 (by decide), z1 10 0 (by decide)]) (fun i => by rw [y.1 156 i (by decide), z1 156 i (by simp [b_ins, W_X9_gather])]) (fun i => by rw [y.1 157 i (by decide), z1 157 i (by simp [b_ins, W_X9_gather])]) y.2))
  unfold F_X9_settledBy_b57
  exact b_Wb (b_wp_m (fun o w => b_Ws w) (t_count z2 z3 (z4 s) (fun c j e1 _ => by rw [x.1 c j e1, y.1 c j e1]) (by rw [x.1 10 9 (by decide), y.1 10 9 (by decide)]) x.2))
