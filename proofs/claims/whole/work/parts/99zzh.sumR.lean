theorem sg_v {c : Int → Int} {i : Nat} (h : kT c i = 3) : vT c i = 59 ∨ vT c i = 61 ∨ vT c i = 40 ∨ vT c i = 41 ∨ vT c i = 43 := by
  have k2 : t_k c (t_at c i) = 3 := h
  show t_v c (t_at c i) = 59 ∨ t_v c (t_at c i) = 61 ∨ t_v c (t_at c i) = 40 ∨ t_v c (t_at c i) = 41 ∨ t_v c (t_at c i) = 43
  unfold t_k at k2
  unfold t_v
  by_cases a : c (t_q c (t_at c i)) = -1
  · rw [if_pos a] at k2
    exact absurd k2 (by decide)
  · rw [if_neg a] at k2 ⊢
    by_cases b : 97 ≤ c (t_q c (t_at c i)) ∧ c (t_q c (t_at c i)) ≤ 122
    · rw [if_pos b] at k2
      split at k2 <;> exact absurd k2 (by decide)
    · rw [if_neg b] at k2 ⊢
      by_cases e : 48 ≤ c (t_q c (t_at c i)) ∧ c (t_q c (t_at c i)) ≤ 57
      · rw [if_pos e] at k2
        split at k2 <;> exact absurd k2 (by decide)
      · rw [if_neg e] at k2 ⊢
        by_cases g : z_sg (c (t_q c (t_at c i)))
        · exact g
        · rw [if_neg g] at k2
          exact absurd k2 (by decide)
theorem so_cases {c : Int → Int} {R : bM} {i : Nat} (h : Rt c R i) : (R 11 3 = 7 ↔ Sg c i 43) ∧ (R 11 3 = 5 ↔ Sg c i 40) ∧ (R 11 3 = 6 ↔ Sg c i 41) ∧ (R 11 3 = 3 ↔ Sg c i 59) ∧ (R 11 3 = 8 ↔ kT c i = 0) ∧ (R 11 3 = 1 ↔ kT c i = 1) ∧ (R 11 3 = 2 ↔ kT c i = 2) := by
  have s3 : R 11 3 = z_so (kT c i) (vT c i) := h.2.2.2.1
  rw [s3]
  unfold Sg z_so
  by_cases k0 : kT c i = 0
  · rw [if_pos k0]; omega
  · rw [if_neg k0]
    by_cases k1 : kT c i = 1
    · rw [if_pos k1]; omega
    · rw [if_neg k1]
      by_cases k2 : kT c i = 2
      · rw [if_pos k2]; omega
      · rw [if_neg k2]
        by_cases k3 : kT c i = 3
        · rw [if_pos k3]
          rcases sg_v k3 with v | v | v | v | v <;> rw [v]
          · rw [if_pos rfl]; omega
          · rw [if_neg (by decide), if_pos rfl]; omega
          · rw [if_neg (by decide), if_neg (by decide), if_pos rfl]; omega
          · rw [if_neg (by decide), if_neg (by decide), if_neg (by decide), if_pos rfl]; omega
          · rw [if_neg (by decide), if_neg (by decide), if_neg (by decide), if_neg (by decide)]; omega
        · rw [if_neg k3]; omega
/-- a TERM as the reference keeps it -/
def Tr (c : Int → Int) (R : bM) (t : Int) (i : Nat) : Prop := R 192 t = (if kT c i = 2 then 0 else vT c i) ∧ R 193 t = (if kT c i = 2 then vT c i else 0)
def W_sumR : bW := [(11, some 3), (11, some 4), (11, some 5), (11, some 6), (11, some 7), (11, some 10), (11, some 32), (192, none), (193, none)]
def N3 (M : bM) : Prop := ∀ j, 0 ≤ M 193 j ∧ M 193 j ≤ 9999
def Kq3 (f0 : Int) (R Q : bM) : Prop := (∀ j, ¬ (f0 ≤ j ∧ j < f0 + 3) → Q 192 j = R 192 j ∧ Q 193 j = R 193 j) ∧ (N3 R → N3 Q)
theorem t_sumR {R : bM} {c : Int → Int} {n : Int} {i : Nat} {f0 : Int} (hB : z_B c n) (h : Rt c R i) (hf : 0 ≤ f0 ∧ f0 + 3 ≤ 15552) : b_wp (F_X12_readSum f0 R) (fun o => b_fr (W_sumR ++ [(11, some 8), (11, some 9)]) R o.2 ∧ Kq3 f0 R o.2 ∧ ∃ a f q, So c i a f q ∧ ((a = 0 ∧ o.1 = 0 ∧ o.2 11 8 = f ∧ o.2 11 9 = q) ∨ ((1 ≤ a ∧ a ≤ 3) ∧ o.1 = 1 ∧ b_fr W_sumR R o.2 ∧ Rt c o.2 (i + (2 * a - 1).toNat) ∧ o.2 11 32 = a ∧ ∀ j : Nat, (j : Int) < a → Tr c o.2 (f0 + j) (i + 2 * j)))) := by
  unfold F_X12_readSum
  refine b_Wl ?_
  refine b_loop_ind (I := fun Q : bM => b_fr W_sumR R Q ∧ Kq3 f0 R Q ∧ ∃ m : Nat, Q 11 32 = m ∧ m ≤ 3 ∧ Sm3 c i m ∧ Rt c Q (i + 2 * m) ∧ ∀ j : Nat, j < m → Tr c Q (f0 + j) (i + 2 * j)) (fun Q => (4 - Q 11 32).toNat) ?_ (b_up R 11 32 0) ⟨b_frF b_fr_refl (by decide), ⟨fun j _ => ⟨b_upc (by decide), b_upc (by decide)⟩, fun z j => by rw [b_upc (by decide)]; exact z j⟩, 0, b_ups, by decide, fun j hj => by omega, Rt_k (W := [(11, some 32)]) (b_frF b_fr_refl (by decide)) (by decide) h, fun j hj => by omega⟩
  intro Q ⟨f1, f2, m, e1, m3, sm, rt, tr⟩
  have so := so_cases rt
  have s5 : Q 11 5 = qT c (i + 2 * m) := rt.2.1
  generalize hv : Q 11 32 = v at e1
  unfold F_X12_readSum_s5
  rw [hv]
  have bad : ∀ fk : Int, So c i 0 fk (qT c (i + 2 * m)) → b_wp (b_bind (F_X12_wrong fk Q) (fun t => b_two t (fun x17 M18 => b_g (x17 = 0 ∨ x17 = 1) (some (Sum.inr (x17, M18) : bM ⊕ (Int × bM)))))) (Sum.elim (fun Q2 : bM => (b_fr W_sumR R Q2 ∧ Kq3 f0 R Q2 ∧ ∃ m : Nat, Q2 11 32 = m ∧ m ≤ 3 ∧ Sm3 c i m ∧ Rt c Q2 (i + 2 * m) ∧ ∀ j : Nat, j < m → Tr c Q2 (f0 + j) (i + 2 * j)) ∧ (4 - Q2 11 32).toNat < (4 - v).toNat) (fun o : Int × bM => b_fr (W_sumR ++ [(11, some 8), (11, some 9)]) R o.2 ∧ Kq3 f0 R o.2 ∧ ∃ a f q, So c i a f q ∧ ((a = 0 ∧ o.1 = 0 ∧ o.2 11 8 = f ∧ o.2 11 9 = q) ∨ ((1 ≤ a ∧ a ≤ 3) ∧ o.1 = 1 ∧ b_fr W_sumR R o.2 ∧ Rt c o.2 (i + (2 * a - 1).toNat) ∧ o.2 11 32 = a ∧ ∀ j : Nat, (j : Int) < a → Tr c o.2 (f0 + j) (i + 2 * j))))) := by
    intro fk sp
    refine b_We e_wrongR (b_Wtwo (b_Wg (Or.inl rfl) (b_Ws ⟨?_, ⟨fun j hj => ?_, fun z j => ?_⟩, 0, fk, _, sp, Or.inl ⟨rfl, rfl, (wrR_f (M := Q) (k := fk)).1, (wrR_f (M := Q) (k := fk)).2.trans s5⟩⟩)))
    · exact b_frF (b_frF (b_fr_mo (by decide) f1) (by decide)) (by decide)
    · dsimp only
      rw [b_upc (by decide), b_upc (by decide), b_upc (by decide), b_upc (by decide)]
      exact f2.1 j hj
    · dsimp only
      rw [b_upc (by decide), b_upc (by decide)]
      exact f2.2 z j
  refine b_Wb (b_wp_m (fun x z => ?_) (t_termR rt))
  rcases z with ⟨z1, z2⟩ | ⟨z1, z2⟩
  · refine b_Wf (by omega) ?_
    have t0 := Tk_0 hB z2
    refine b_Wi (fun m2 => bad 4 ⟨m, m3, sm, Or.inr (Or.inl ⟨z2, by omega, rfl, rfl, rfl⟩)⟩) (fun m2 => b_Wg (by omega) ?_)
    have b58 : ∀ u2 : Int, u2 = (if kT c (i + 2 * m) = 2 then 0 else vT c (i + 2 * m)) → b_wp (F_X12_readSum_b58 f0 (f0 + v) u2 Q) (Sum.elim (fun Q2 : bM => (b_fr W_sumR R Q2 ∧ Kq3 f0 R Q2 ∧ ∃ m : Nat, Q2 11 32 = m ∧ m ≤ 3 ∧ Sm3 c i m ∧ Rt c Q2 (i + 2 * m) ∧ ∀ j : Nat, j < m → Tr c Q2 (f0 + j) (i + 2 * j)) ∧ (4 - Q2 11 32).toNat < (4 - v).toNat) (fun o : Int × bM => b_fr (W_sumR ++ [(11, some 8), (11, some 9)]) R o.2 ∧ Kq3 f0 R o.2 ∧ ∃ a f q, So c i a f q ∧ ((a = 0 ∧ o.1 = 0 ∧ o.2 11 8 = f ∧ o.2 11 9 = q) ∨ ((1 ≤ a ∧ a ≤ 3) ∧ o.1 = 1 ∧ b_fr W_sumR R o.2 ∧ Rt c o.2 (i + (2 * a - 1).toNat) ∧ o.2 11 32 = a ∧ ∀ j : Nat, (j : Int) < a → Tr c o.2 (f0 + j) (i + 2 * j))))) := by
      intro u2 hu
      have b85 : ∀ (u3 : Int) (P : bM), P = b_up Q 192 (f0 + v) u2 → u3 = (if kT c (i + 2 * m) = 2 then vT c (i + 2 * m) else 0) → b_wp (F_X12_readSum_b85 f0 (f0 + v) u3 P) (Sum.elim (fun Q2 : bM => (b_fr W_sumR R Q2 ∧ Kq3 f0 R Q2 ∧ ∃ m : Nat, Q2 11 32 = m ∧ m ≤ 3 ∧ Sm3 c i m ∧ Rt c Q2 (i + 2 * m) ∧ ∀ j : Nat, j < m → Tr c Q2 (f0 + j) (i + 2 * j)) ∧ (4 - Q2 11 32).toNat < (4 - v).toNat) (fun o : Int × bM => b_fr (W_sumR ++ [(11, some 8), (11, some 9)]) R o.2 ∧ Kq3 f0 R o.2 ∧ ∃ a f q, So c i a f q ∧ ((a = 0 ∧ o.1 = 0 ∧ o.2 11 8 = f ∧ o.2 11 9 = q) ∨ ((1 ≤ a ∧ a ≤ 3) ∧ o.1 = 1 ∧ b_fr W_sumR R o.2 ∧ Rt c o.2 (i + (2 * a - 1).toNat) ∧ o.2 11 32 = a ∧ ∀ j : Nat, (j : Int) < a → Tr c o.2 (f0 + j) (i + 2 * j))))) := by
        intro u3 P hP hu3
        unfold F_X12_readSum_b85
        refine b_Wg (by omega) (b_Wl ?_)
        have p32 : b_up P 193 (f0 + v) u3 11 32 = v := by rw [b_upc (by decide), hP, b_upc (by decide)]; exact hv
        rw [p32]
        refine b_Wg (by omega) (b_Wl ?_)
        generalize hA : b_up (b_up P 193 (f0 + v) u3) 11 32 (v + 1) = A
        have aF : b_fr W_sumR R A := by subst hA; rw [hP]; exact b_frF (b_frA (b_frA f1 (by decide)) (by decide)) (by decide)
        have aQ : b_fr [(11, some 32), (192, none), (193, none)] Q A := by subst hA; rw [hP]; exact b_frF (b_frA (b_frA b_fr_refl (by decide)) (by decide)) (by decide)
        have a32 : A 11 32 = v + 1 := by subst hA; exact b_ups
        have a192 : ∀ j, A 192 j = if j = f0 + v then u2 else Q 192 j := fun j => by subst hA; rw [b_upc (by decide), b_upc (by decide), hP, b_upJ]
        have a193 : ∀ j, A 193 j = if j = f0 + v then u3 else Q 193 j := fun j => by subst hA; rw [b_upc (by decide), b_upJ, hP, b_upc (by decide)]
        clear hA
        have aR := Rt_k aQ (by decide) rt
        refine b_Wb (b_wp_m (fun B y => ?_) (t_scanT hB aR))
        have y1 := y.1
        have y2 := y.2
        have yk := b_kp1 y1 (show b_dis W_sc [(11, some 32), (192, none), (193, none)] = true by decide)
        have so2 := so_cases y2
        have trB : ∀ j : Nat, j < m + 1 → Tr c B (f0 + j) (i + 2 * j) := by
          intro j hj
          unfold Tr
          rw [yk 192 _ rfl, yk 193 _ rfl, a192, a193]
          by_cases ej : j = m
          · rw [if_pos (show f0 + (j : Int) = f0 + v by omega), if_pos (show f0 + (j : Int) = f0 + v by omega), ej]
            exact ⟨hu, hu3⟩
          · rw [if_neg (show ¬ f0 + (j : Int) = f0 + v by omega), if_neg (show ¬ f0 + (j : Int) = f0 + v by omega)]
            exact tr j (by omega)
        have outB : Kq3 f0 R B := by
          refine ⟨fun j hj => ?_, fun z j => ?_⟩
          · rw [yk 192 _ rfl, yk 193 _ rfl, a192, a193, if_neg (by omega), if_neg (by omega)]
            exact f2.1 j hj
          · rw [yk 193 _ rfl, a193]
            by_cases e : j = f0 + v
            · rw [if_pos e, hu3]
              by_cases e2 : kT c (i + 2 * m) = 2
              · rw [if_pos e2]; exact t_v_2 hB e2
              · rw [if_neg e2]; exact ⟨by decide, by decide⟩
            · rw [if_neg e]; exact f2.2 z j
        have frB : b_fr W_sumR R B := b_fr_tr aF (b_fr_mo (by decide) y1)
        refine b_Wi (fun p => ?_) (fun p => b_Ws ?_)
        · refine b_Wb (b_wp_m (fun D w => b_Ws ?_) (t_scanT hB y2))
          have w1 := w.1
          have w2 := w.2
          have wk := b_kp1 w1 (show b_dis W_sc [(11, some 32), (192, none), (193, none)] = true by decide)
          have d32 : D 11 32 = v + 1 := by rw [wk 11 32 rfl, yk 11 32 rfl]; exact a32
          refine ⟨⟨b_fr_tr frB (b_fr_mo (by decide) w1), ⟨fun j hj => by rw [wk 192 _ rfl, wk 193 _ rfl]; exact outB.1 j hj, fun z j => by rw [wk 193 _ rfl]; exact outB.2 z j⟩, m + 1, by rw [d32]; omega, by omega, fun j hj => ?_, ?_, fun j hj => ?_⟩, by rw [d32]; omega⟩
          · by_cases ej : j = m
            · rw [ej]; exact ⟨z2, so2.1.mp p⟩
            · exact sm j (by omega)
          · rw [show i + 2 * (m + 1) = i + 2 * m + 1 + 1 by omega]
            exact w2
          · unfold Tr
            rw [wk 192 _ rfl, wk 193 _ rfl]
            exact trB j hj
        · refine ⟨b_fr_mo (by decide) frB, outB, ((m + 1 : Nat) : Int), 0, 0, ⟨m, m3, sm, Or.inr (Or.inr ⟨z2, by omega, fun s => p (so2.1.mpr s), by omega, rfl, rfl⟩)⟩, Or.inr ⟨by omega, rfl, frB, ?_, ?_, fun j hj => trB j (by omega)⟩⟩
          · rw [show i + (2 * ((m + 1 : Nat) : Int) - 1).toNat = i + 2 * m + 1 by omega]
            exact y2
          · dsimp only
            rw [yk 11 32 rfl, a32]
            omega
      unfold F_X12_readSum_b58
      refine b_Wg (by omega) (b_Wl ?_)
      generalize hP : b_up Q 192 (f0 + v) u2 = P
      have q32 : P 11 32 = v := by subst hP; rw [b_upc (by decide)]; exact hv
      have q3 : P 11 3 = Q 11 3 := by subst hP; exact b_upc (by decide)
      have q7 : P 11 7 = Q 11 7 := by subst hP; exact b_upc (by decide)
      rw [q32, q3, q7]
      refine b_Wg (by omega) (b_Wi (fun p => b85 _ P hP.symm ?_) (fun p => b85 _ P hP.symm ?_))
      · have k2 := so.2.2.2.2.2.2.mp p
        rw [if_pos k2]
        exact rt.2.2.2.2.2.2 k2
      · rw [if_neg (fun q => p (so.2.2.2.2.2.2.mpr q))]
    refine b_Wi (fun p => b58 0 ?_) (fun p => b58 _ ?_)
    · rw [if_pos (so.2.2.2.2.2.2.mp p)]
    · have k2 : ¬ kT c (i + 2 * m) = 2 := fun q => p (so.2.2.2.2.2.2.mpr q)
      rw [if_neg k2]
      have k1 : kT c (i + 2 * m) = 1 := by
        rcases z2 with q | q
        · exact absurd q k2
        · exact q.1
      exact (rt.2.2.2.2.1 k1).1
  · exact b_Wt z1 (bad 1 ⟨m, m3, sm, Or.inl ⟨z2, rfl, rfl, rfl⟩⟩)
