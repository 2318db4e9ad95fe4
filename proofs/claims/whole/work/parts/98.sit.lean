theorem t_hear {N : bM} {d l : Int} (hC : C_all N) (hG : G_all N d) (hd : 0 ≤ d ∧ d ≤ 9999) (hf : L_rf N) (hl : 0 ≤ l ∧ l < 60) : b_wp (F_X3_hear l d N) (fun o => b_fr W_X3_hear N o.2 ∧ ∃ b v, Hb N d l (N 9 0).toNat o.1 b v ∧ (∀ c, 0 ≤ c → o.2 150 c = if c = b then v else if 0 ≤ c ∧ c < N 9 0 ∧ Hd N d l c then 3 else N 150 c) ∧ ((b = -1 ∧ ∀ i, o.2 152 i = N 152 i ∧ o.2 153 i = N 153 i ∧ o.2 154 i = N 154 i) ∨ (b ≠ -1 ∧ ∀ i, o.2 152 i = (if i = l then b + 1 else N 152 i) ∧ o.2 153 i = (if i = l then d else N 153 i) ∧ o.2 154 i = (if i = l then x_rule N d 6 * 365 else N 154 i)))) := by
  refine b_wl_wp (w_X3_hear b_fr_refl) ?_
  have hR := hC.1.2.2.2.2.2.2.1
  have h2 := x_act_r (d := d) hR
  have n9 := hf.1
  unfold F_X3_hear
  refine b_We (e_X1_inForce hR) (b_Wg (by omega) (b_We (x_toldN hR (by omega)) (b_Wb (b_wp_m (fun o z => ?_) (t_hearLoop (l := l) hC hG hd hf rfl)))))
  obtain ⟨n, b, v, Q⟩ := o
  obtain ⟨z1, z2, z3⟩ := z
  dsimp only at z1 z2 z3 ⊢
  unfold F_X3_hear_b182
  have o : ∀ c, c = 152 ∨ c = 153 ∨ c = 154 → ∀ i, Q c i = N c i := fun c hc i => by
    rcases hc with rfl | rfl | rfl
    · exact z1 152 i (by simp [b_ins, W_hr, W_X3_appraise])
    · exact z1 153 i (by simp [b_ins, W_hr, W_X3_appraise])
    · exact z1 154 i (by simp [b_ins, W_hr, W_X3_appraise])
  have hr := (Hb_r _ _ _ _ z2).2
  refine b_Wi (fun q => b_Ws ⟨b, v, z2, fun c hc => ?_, Or.inl ⟨q, fun i => ⟨o 152 (by simp) i, o 153 (by simp) i, o 154 (by simp) i⟩⟩⟩) (fun q => ?_)
  · dsimp only
    rw [if_neg (by omega), z3]
  have hb : 0 ≤ b ∧ b < N 9 0 := by
    rcases hr with z | z
    · exact absurd z.1 q
    · have := z.1; omega
  unfold F_X3_award
  refine b_Wb (b_Wg (by omega) (b_Wl (b_Wg (by omega) (b_Wl (b_Wg (by omega) (b_Wl ?_))))))
  generalize hU : b_up (b_up (b_up Q 150 b v) 152 l (b + 1)) 153 l d = U
  have fU : b_fr W_X3_hear N U := by
    subst hU
    exact b_frA (b_frA (b_frA (b_fr_mo (by decide +kernel) z1) (by decide)) (by decide)) (by decide)
  have u150 : ∀ c, U 150 c = if c = b then v else Q 150 c := fun c => by
    subst hU; rw [b_upc (by decide), b_upc (by decide), b_upJ]
  have u152 : ∀ i, U 152 i = if i = l then b + 1 else N 152 i := fun i => by
    subst hU; rw [b_upc (by decide), b_upJ, b_upc (by decide), o 152 (by simp)]
  have u153 : ∀ i, U 153 i = if i = l then d else N 153 i := fun i => by
    subst hU; rw [b_upJ, b_upc (by decide), b_upc (by decide), o 153 (by simp)]
  have u154 : ∀ i, U 154 i = N 154 i := fun i => by
    subst hU; rw [b_upc (by decide), b_upc (by decide), b_upc (by decide), o 154 (by simp)]
  clear hU
  have hRU := (C_k fU (by decide +kernel) hC).1.2.2.2.2.2.2.1
  have ss : SS N U := b_kp1 fU (by decide +kernel)
  have h6 := x_rule_r (d := d) (i := 6) hR (by decide)
  have h62 := h6.2.2 rfl
  have h3 := x_act_r (d := d) hRU
  have tl := x_toldN (d := d) (i := 6) hRU (by decide)
  rw [sp_rule ss] at tl
  refine b_We (e_X1_inForce hRU) (b_Wg (by omega) (b_We tl (b_Wg (by omega) (b_Wl (b_Ws (b_Ws ⟨b, v, z2, fun c hc => ?_, Or.inr ⟨q, fun i => ⟨?_, ?_, ?_⟩⟩⟩))))))
  · dsimp only
    rw [b_upc (by decide), u150, z3]
  · dsimp only
    rw [b_upc (by decide), u152]
  · dsimp only
    rw [b_upc (by decide), u153]
  · dsimp only
    rw [b_upJ, u154]
theorem b_disW {A B S : bW} (h : b_dis A S = true) (h2 : b_dis B S = true) : b_dis (A ++ B) S = true := by
  unfold b_dis at h h2 ⊢
  rw [List.all_append, h, h2]
  rfl
def W_sr : bW := (234, none) :: W_X12_worthOf
theorem t_sitLoop {W : bW} {N Q0 : bM} {d l : Int} (f : b_fr W N Q0) (f1 : b_dis W S_C = true) (f2 : b_dis W S_chain = true) (f3 : b_dis W [(2, some 0)] = true) (f4 : b_dis W [(11, some 11), (231, none), (232, none)] = true) (f5 : b_dis W [(11, some 106), (233, none), (234, none)] = true) (hC : C_all N) (hG : G_all N d) (hd : 0 ≤ d ∧ d ≤ 9999) (hf : L_rf N) (hcl : R_claim N) (hru : R_rul N) (hdy : N 11 11 = d) : b_wp (b_loop (fun t : Int × Int × Int × Int × bM => F_X12_sit_s34 l t.1 t.2.1 t.2.2.1 t.2.2.2.1 t.2.2.2.2) (0, -1, 3, 0, Q0)) (fun o => b_fr W_sr Q0 o.2.2.2 ∧ Hb N d l (N 9 0).toNat o.1 o.2.1 o.2.2.1 ∧ ∀ c, 0 ≤ c → c < 30 → o.2.2.2 234 c = if 0 ≤ c ∧ c < N 9 0 ∧ Hd N d l c then 3 else N 150 c) := by
  have hl := hC.1.2.2.1.1.1
  have n9 := hf.1
  have k4 := b_kp1 f f4
  have k5 := b_kp1 f f5
  have c1 := hcl.1.1
  have i0 : ∀ c, 0 ≤ c → c < 30 → Q0 234 c = N 150 c := fun c h1 h2 => (k5 234 c rfl).trans (hru.1 c h1 h2).1
  refine b_loop_ind (I := fun t : Int × Int × Int × Int × bM => (0 ≤ t.2.2.2.1 ∧ t.2.2.2.1 ≤ N 9 0) ∧ b_fr W_sr Q0 t.2.2.2.2 ∧ Hb N d l t.2.2.2.1.toNat t.1 t.2.1 t.2.2.1 ∧ (t.2.1 ≠ -1 → ∃ y, Wn N d t.2.1 y (t.2.2.2.2 239 t.2.1) (t.2.2.2.2 240 t.2.1)) ∧ ∀ c, 0 ≤ c → c < 30 → t.2.2.2.2 234 c = if 0 ≤ c ∧ c < t.2.2.2.1 ∧ Hd N d l c then 3 else N 150 c) (fun t => (N 9 0 - t.2.2.2.1).toNat) ?_ (0, -1, 3, 0, Q0) ⟨by dsimp only; omega, b_fr_refl, ⟨rfl, rfl, rfl⟩, fun z => absurd rfl z, fun c h1 h2 => by rw [if_neg (fun z => by have := z.1; have := z.2.1; dsimp only at this; omega)]; exact i0 c h1 h2⟩
  intro ⟨n, b, v, k, Q⟩ ⟨h1, h2, h3, h5, h6⟩
  dsimp only at h1 h2 h3 h5 h6 ⊢
  unfold F_X12_sit_s34
  have q9 : Q 11 106 = N 9 0 := by rw [h2 11 106 (by decide), k5 11 106 rfl, c1]
  have q11 : Q 11 11 = d := by rw [h2 11 11 (by decide), k4 11 11 rfl, hdy]
  have q232 : Q 232 k = N 148 k := by rw [h2 232 k (by simp [b_ins, W_sr, W_X12_worthOf]), k4 232 k rfl, hcl.2.1.2.1]
  have q233 : Q 233 k = N 149 k := by rw [h2 233 k (by simp [b_ins, W_sr, W_X12_worthOf]), k5 233 k rfl, hcl.2.1.2.2]
  obtain ⟨hr1, hr2⟩ := Hb_r _ _ _ _ h3
  have skip : ¬ Hd N d l k → k < N 9 0 → ((0 ≤ k + 1 ∧ k + 1 ≤ N 9 0) ∧ b_fr W_sr Q0 Q ∧ Hb N d l (k + 1).toNat n b v ∧ (b ≠ -1 → ∃ y, Wn N d b y (Q 239 b) (Q 240 b)) ∧ ∀ c, 0 ≤ c → c < 30 → Q 234 c = if 0 ≤ c ∧ c < k + 1 ∧ Hd N d l c then 3 else N 150 c) ∧ (N 9 0 - (k + 1)).toNat < (N 9 0 - k).toNat := by
    intro hn hk
    refine ⟨⟨by omega, h2, Hb_n h1.1 hn h3, h5, fun c c1 c2 => ?_⟩, by omega⟩
    rw [h6 c c1 c2]
    by_cases qc : 0 ≤ c ∧ c < k ∧ Hd N d l c
    · rw [if_pos qc, if_pos ⟨qc.1, by omega, qc.2.2⟩]
    · rw [if_neg qc, if_neg (fun z => ?_)]
      by_cases e : c = k
      · subst e; exact hn z.2.2
      · exact qc ⟨z.1, by omega, z.2.2⟩
  refine b_Wi (fun q => ?_) (fun q => ?_)
  · have e : k = N 9 0 := by omega
    refine b_Ws ⟨h2, ?_, ?_⟩
    · dsimp only; rw [← e]; exact h3
    · dsimp only; rw [← e]; exact h6
  have kN : k < N 9 0 := by omega
  have q234 : Q 234 k = N 150 k := by rw [h6 k h1.1 (by omega), if_neg (fun z => by have := z.2.1; omega)]
  have hcr := hf.2.1 k h1.1 kN
  have hda := hf.2.2 k h1.1 kN
  have hr4 := x_rule_r (d := d) (i := 4) hC.1.2.2.2.2.2.2.1 (by decide)
  have fQ : b_fr (W_sr ++ W) N Q := fun c i hi => by
    have : b_ins W_sr c i = false ∧ b_ins W c i = false := by
      unfold b_ins at hi ⊢
      rw [List.any_append, Bool.or_eq_false_iff] at hi
      exact hi
    rw [h2 c i this.1, f c i this.2]
  have cQ : C_all Q := C_k h2 (by decide +kernel) (C_k f f1 hC)
  have gsQ : GS N Q := fun c i hi => (b_kp1 h2 (by decide +kernel) c i hi).trans (b_kp1 f f2 c i hi)
  have rl : F_X12_ruleOn (Q 11 11) 4 Q = some (x_rule N d 4) := by
    rw [q11, e_X12_ruleOn cQ.1.2.2.2.2.2.2.1 (by omega), sp_rule (GS_ss gsQ)]
  refine b_Wg (by omega) (b_Wi (fun q1 => b_Wg (by omega) (b_Wi (fun q2 => b_Wg (by rw [q233, q11]; omega) (b_We rl (b_Wi (fun q3 => ?_) (fun q3 => b_Wg (by omega) (b_Ws ?_))))) (fun q2 => b_Wg (by omega) (b_Ws ?_)))) (fun q1 => b_Wg (by omega) (b_Ws ?_)))
  · have hH : Hd N d l k := ⟨by omega, by omega, by omega⟩
    obtain ⟨a, F, hs⟩ := Wn_e (c := k) hC hG hcr.2 hcr.1
    refine b_Wg (by omega) (b_Wb (b_wp_m (fun o z => ?_) (t_worthOf hs fQ (b_disW (by decide +kernel) f1) (b_disW (by decide +kernel) f2) (b_disW (by decide +kernel) f3) (b_disW (by decide +kernel) f4) hC hG hd (by omega) hcr.2 hcr.1 hcl.2.1.1 hcl.2.1.2.1 hdy)))
    obtain ⟨x, P⟩ := o
    obtain ⟨z1, z2, z3, z4, z5⟩ := z
    dsimp only at z1 z2 z3 z4 z5
    have hw0 : Wn N d k x (P 239 k) (P 240 k) := ⟨a, F, hs, z2, z3, z4⟩
    clear hs z2 z3 z4
    refine b_Wtwo (b_Wg (by omega) (b_Wl ?_))
    generalize hU : b_up P 234 k 3 = U
    have u239 : ∀ j, U 239 j = P 239 j := fun j => by subst hU; rw [b_upc (by decide)]
    have u240 : ∀ j, U 240 j = P 240 j := fun j => by subst hU; rw [b_upc (by decide)]
    have fU : b_fr W_sr Q0 U := fun c i hi => by
      have h234 : c ≠ 234 := fun z => by subst z; revert hi; simp [b_ins, W_sr]
      subst hU
      rw [b_upc h234, z1 c i ?_]
      · exact h2 c i hi
      · revert hi
        simp only [W_sr, b_ins, List.any_cons, Bool.or_eq_false_iff]
        exact fun z => z.2
    have u234 : ∀ c, 0 ≤ c → c < 30 → U 234 c = if 0 ≤ c ∧ c < k + 1 ∧ Hd N d l c then 3 else N 150 c := by
      intro c c1 c2
      subst hU
      rw [b_upJ, z1 234 c (by simp [b_ins, W_X12_worthOf]), h6 c c1 c2]
      by_cases e : c = k
      · subst e; rw [if_pos rfl, if_pos ⟨h1.1, by omega, hH⟩]
      · rw [if_neg e]
        by_cases qc : 0 ≤ c ∧ c < k ∧ Hd N d l c
        · rw [if_pos qc, if_pos ⟨qc.1, by omega, qc.2.2⟩]
        · rw [if_neg qc, if_neg (fun z => qc ⟨z.1, by omega, z.2.2⟩)]
    clear hU
    have hw : Wn N d k x (U 239 k) (U 240 k) := by rw [u239, u240]; exact hw0
    have hb5 : b ≠ -1 → ∃ y, Wn N d b y (U 239 b) (U 240 b) := fun qb => by
      obtain ⟨y, hy⟩ := h5 qb
      have hbk : b ≠ k := by
        rcases hr2 with z | z
        · exact absurd z.1 qb
        · have := z.1; omega
      refine ⟨y, ?_⟩
      rw [u239, u240, (z5 b hbk).1, (z5 b hbk).2]
      exact hy
    clear hw0 h5 z5 z1
    have b182 : ∀ u0, (u0 = 0 ∨ u0 = 1) → (x ≠ 3 → (u0 = 0 ↔ Ht N d x (U 239 k) (U 240 k) b v)) → b_wp (F_X12_sit_b182 l (n + 1) b v k x u0 U) (Sum.elim (fun t : Int × Int × Int × Int × bM => ((0 ≤ t.2.2.2.1 ∧ t.2.2.2.1 ≤ N 9 0) ∧ b_fr W_sr Q0 t.2.2.2.2 ∧ Hb N d l t.2.2.2.1.toNat t.1 t.2.1 t.2.2.1 ∧ (t.2.1 ≠ -1 → ∃ y, Wn N d t.2.1 y (t.2.2.2.2 239 t.2.1) (t.2.2.2.2 240 t.2.1)) ∧ ∀ c, 0 ≤ c → c < 30 → t.2.2.2.2 234 c = if 0 ≤ c ∧ c < t.2.2.2.1 ∧ Hd N d l c then 3 else N 150 c) ∧ (N 9 0 - t.2.2.2.1).toNat < (N 9 0 - k).toNat) (fun o => b_fr W_sr Q0 o.2.2.2 ∧ Hb N d l (N 9 0).toNat o.1 o.2.1 o.2.2.1 ∧ ∀ c, 0 ≤ c → c < 30 → o.2.2.2 234 c = if 0 ≤ c ∧ c < N 9 0 ∧ Hd N d l c then 3 else N 150 c)) := by
      intro u0 hu hT
      have keep : ¬ Ht N d x (U 239 k) (U 240 k) b v → ((0 ≤ k + 1 ∧ k + 1 ≤ N 9 0) ∧ b_fr W_sr Q0 U ∧ Hb N d l (k + 1).toNat (n + 1) b v ∧ (b ≠ -1 → ∃ y, Wn N d b y (U 239 b) (U 240 b)) ∧ ∀ c, 0 ≤ c → c < 30 → U 234 c = if 0 ≤ c ∧ c < k + 1 ∧ Hd N d l c then 3 else N 150 c) ∧ (N 9 0 - (k + 1)).toNat < (N 9 0 - k).toNat := fun ht => ⟨⟨by omega, fU, Hb_f h1.1 hH h3 hw ht, hb5, u234⟩, by omega⟩
      unfold F_X12_sit_b182
      refine b_Wi (fun qx => b_Wg (by omega) (b_Ws (keep (fun z => z.1 qx)))) (fun qx => b_Wi (fun qu => b_Wg (by omega) (b_Ws ⟨⟨by dsimp only; omega, fU, ?_, fun _ => ⟨x, hw⟩, u234⟩, by dsimp only; omega⟩)) (fun qu => b_Wg (by omega) (b_Ws (keep (fun z => ?_)))))
      · exact Hb_t h1.1 hH h3 hw ((hT qx).mp qu)
      · exact qu ((hT qx).mpr z)
    unfold F_X12_sit_b181 F_X12_sit_b177
    by_cases qb : b = -1
    · exact b_Wt qb (b182 0 (Or.inl rfl) (fun hx => ⟨fun _ => ⟨hx, Or.inl qb⟩, fun _ => rfl⟩))
    · obtain ⟨y, hy⟩ := hb5 qb
      have tt : ∀ {u : Int}, x ≠ 3 → (u = 0 ↔ (x < v ∨ (x = v ∧ (U 239 k < U 239 b ∨ (U 239 k = U 239 b ∧ U 240 b < U 240 k))))) → (u = 0 ↔ Ht N d x (U 239 k) (U 240 k) b v) := fun hx hu => hu.trans (Ht_u hl qb hy hx).symm
      have hbr : 0 ≤ b ∧ b < 30 := by
        rcases hr2 with z | z
        · exact absurd z.1 qb
        · have := z.1; omega
      clear hb5 skip h6 hy
      dsimp only
      refine b_Wf qb (b_Wi (fun a1 => b182 1 (Or.inr rfl) (fun hx => tt hx ⟨fun z => absurd z (by decide), fun z => ?_⟩)) (fun a1 => b_Wi (fun a2 => b_Wg (by omega) (b_Wi (fun a3 => b182 1 (Or.inr rfl) (fun hx => tt hx ⟨fun z => absurd z (by decide), fun z => ?_⟩)) (fun a3 => b_Wg (by omega) (b_Wi (fun a4 => b_Wg (by omega) (b_Wi (fun a5 => b182 0 (Or.inl rfl) (fun hx => tt hx ⟨fun _ => Or.inr ⟨a2, Or.inr ⟨a4, a5⟩⟩, fun _ => rfl⟩)) (fun a5 => b182 1 (Or.inr rfl) (fun hx => tt hx ⟨fun z => absurd z (by decide), fun z => ?_⟩)))) (fun a4 => b182 0 (Or.inl rfl) (fun hx => tt hx ⟨fun _ => Or.inr ⟨a2, Or.inl ?_⟩, fun _ => rfl⟩)))))) (fun a2 => b182 0 (Or.inl rfl) (fun hx => tt hx ⟨fun _ => Or.inl ?_, fun _ => rfl⟩))))
      · omega
      · omega
      · omega
      · omega
      · omega
  · exact skip (fun z => by have := z.2.2; omega) kN
  · exact skip (fun z => by have := z.2.1; omega) kN
  · exact skip (fun z => by have := z.1; omega) kN
