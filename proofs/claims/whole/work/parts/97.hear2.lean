/-- the CLAIM heard takes the place of the one before -/
def Ht (M : bM) (d x g w b0 v0 : Int) : Prop := x ≠ 3 ∧ (b0 = -1 ∨ x < v0 ∨ (x = v0 ∧ ∃ y g0 w0, Wn M d b0 y g0 w0 ∧ (g < g0 ∨ (g = g0 ∧ w0 < w))))
theorem Hb_n {M : bM} {d l k n b v : Int} (hk : 0 ≤ k) (h : ¬ Hd M d l k) (hb : Hb M d l k.toNat n b v) : Hb M d l (k + 1).toNat n b v := by
  rw [show (k + 1).toNat = k.toNat + 1 by omega]
  have e : ((k.toNat : Nat) : Int) = k := by omega
  refine Or.inl ⟨?_, hb⟩
  rw [e]; exact h
theorem Hb_t {M : bM} {d l k n b v x g w : Int} (hk : 0 ≤ k) (h : Hd M d l k) (hb : Hb M d l k.toNat n b v) (hw : Wn M d k x g w) (ht : Ht M d x g w b v) : Hb M d l (k + 1).toNat (n + 1) k x := by
  rw [show (k + 1).toNat = k.toNat + 1 by omega]
  have e : ((k.toNat : Nat) : Int) = k := by omega
  refine Or.inr ⟨by rw [e]; exact h, n, b, v, x, g, w, hb, by rw [e]; exact hw, rfl, Or.inl ⟨ht, e.symm, rfl⟩⟩
theorem Hb_f {M : bM} {d l k n b v x g w : Int} (hk : 0 ≤ k) (h : Hd M d l k) (hb : Hb M d l k.toNat n b v) (hw : Wn M d k x g w) (ht : ¬ Ht M d x g w b v) : Hb M d l (k + 1).toNat (n + 1) b v := by
  rw [show (k + 1).toNat = k.toNat + 1 by omega]
  have e : ((k.toNat : Nat) : Int) = k := by omega
  refine Or.inr ⟨by rw [e]; exact h, n, b, v, x, g, w, hb, by rw [e]; exact hw, rfl, Or.inr ⟨ht, rfl, rfl⟩⟩
theorem Ht_u {M : bM} {d x g w b v y g0 w0 : Int} (hl : M 11 20 = M 3 0) (hb : b ≠ -1) (hw : Wn M d b y g0 w0) (hx : x ≠ 3) : Ht M d x g w b v ↔ (x < v ∨ (x = v ∧ (g < g0 ∨ (g = g0 ∧ w0 < w)))) := by
  refine ⟨fun z => ?_, fun z => ?_⟩
  · rcases z.2 with z | z | ⟨z, y', g', w', z1, z2⟩
    · exact absurd z hb
    · exact Or.inl z
    · obtain ⟨_, e2, e3⟩ := Wn_u hl hw z1
      subst e2 e3
      exact Or.inr ⟨z, z2⟩
  · rcases z with z | ⟨z, z2⟩
    · exact ⟨hx, Or.inr (Or.inl z)⟩
    · exact ⟨hx, Or.inr (Or.inr ⟨z, y, g0, w0, hw, z2⟩)⟩
def W_hr : bW := (150, none) :: W_X3_appraise
def L_rf (M : bM) : Prop := (0 ≤ M 9 0 ∧ M 9 0 ≤ 30) ∧ R_cref M ∧ ∀ c, 0 ≤ c → c < M 9 0 → 0 ≤ M 149 c ∧ M 149 c ≤ 9999
theorem t_hearLoop {N : bM} {d l r4 : Int} (hC : C_all N) (hG : G_all N d) (hd : 0 ≤ d ∧ d ≤ 9999) (hf : L_rf N) (h4 : r4 = x_rule N d 4) : b_wp (b_loop (fun t : Int × Int × Int × Int × Int × Int × bM => F_X3_hear_s31 l d r4 t.1 t.2.1 t.2.2.1 t.2.2.2.1 t.2.2.2.2.1 t.2.2.2.2.2.1 t.2.2.2.2.2.2) (0, -1, 3, 0, 0, 0, N)) (fun o => b_fr W_hr N o.2.2.2 ∧ Hb N d l (N 9 0).toNat o.1 o.2.1 o.2.2.1 ∧ ∀ c, o.2.2.2 150 c = if 0 ≤ c ∧ c < N 9 0 ∧ Hd N d l c then 3 else N 150 c) := by
  have hl := hC.1.2.2.1.1.1
  have n9 := hf.1
  refine b_loop_ind (I := fun t : Int × Int × Int × Int × Int × Int × bM => (0 ≤ t.2.2.2.2.2.1 ∧ t.2.2.2.2.2.1 ≤ N 9 0) ∧ b_fr W_hr N t.2.2.2.2.2.2 ∧ Hb N d l t.2.2.2.2.2.1.toNat t.1 t.2.1 t.2.2.1 ∧ (t.2.1 ≠ -1 → ∃ y, Wn N d t.2.1 y t.2.2.2.1 t.2.2.2.2.1) ∧ ∀ c, t.2.2.2.2.2.2 150 c = if 0 ≤ c ∧ c < t.2.2.2.2.2.1 ∧ Hd N d l c then 3 else N 150 c) (fun t => (N 9 0 - t.2.2.2.2.2.1).toNat) ?_ (0, -1, 3, 0, 0, 0, N) ⟨by dsimp only; omega, b_fr_refl, ⟨rfl, rfl, rfl⟩, fun z => absurd rfl z, fun c => (if_neg (fun z => by have := z.1; have := z.2.1; dsimp only at this; omega)).symm⟩
  intro ⟨n, b, v, g0, w0, k, Q⟩ ⟨h1, h2, h3, h5, h6⟩
  dsimp only at h1 h2 h3 h5 h6 ⊢
  unfold F_X3_hear_s31
  have q9 : Q 9 0 = N 9 0 := h2 9 0 (by decide)
  have q148 : Q 148 k = N 148 k := h2 148 k (by simp [b_ins, W_hr, W_X3_appraise])
  have q149 : Q 149 k = N 149 k := h2 149 k (by simp [b_ins, W_hr, W_X3_appraise])
  have q147 : Q 147 k = N 147 k := h2 147 k (by simp [b_ins, W_hr, W_X3_appraise])
  have q150 : Q 150 k = N 150 k := by rw [h6, if_neg (fun z => by have := z.2.1; omega)]
  obtain ⟨hr1, hr2⟩ := Hb_r _ _ _ _ h3
  have skip : ¬ Hd N d l k → k < N 9 0 → ((0 ≤ k + 1 ∧ k + 1 ≤ N 9 0) ∧ b_fr W_hr N Q ∧ Hb N d l (k + 1).toNat n b v ∧ (b ≠ -1 → ∃ y, Wn N d b y g0 w0) ∧ ∀ c, Q 150 c = if 0 ≤ c ∧ c < k + 1 ∧ Hd N d l c then 3 else N 150 c) ∧ (N 9 0 - (k + 1)).toNat < (N 9 0 - k).toNat := by
    intro hn hk
    refine ⟨⟨by omega, h2, Hb_n h1.1 hn h3, h5, fun c => ?_⟩, by omega⟩
    rw [h6]
    by_cases qc : 0 ≤ c ∧ c < k ∧ Hd N d l c
    · rw [if_pos qc, if_pos ⟨qc.1, by omega, qc.2.2⟩]
    · rw [if_neg qc, if_neg (fun z => ?_)]
      by_cases e : c = k
      · subst e; exact hn z.2.2
      · exact qc ⟨z.1, by omega, z.2.2⟩
  refine b_Wi (fun q => ?_) (fun q => ?_)
  · have e : k = N 9 0 := by omega
    refine b_Ws ⟨h2, ?_, ?_⟩
    · dsimp only; rw [← e]; exact h3
    · dsimp only; rw [← e]; exact h6
  have kN : k < N 9 0 := by omega
  have hcr := hf.2.1 k h1.1 kN
  have hda := hf.2.2 k h1.1 kN
  have hr4 := x_rule_r (d := d) (i := 4) hC.1.2.2.2.2.2.2.1 (by decide)
  refine b_Wg (by omega) (b_Wi (fun q1 => b_Wg (by omega) (b_Wi (fun q2 => b_Wg (by rw [q149]; omega) (b_Wi (fun q3 => ?_) (fun q3 => b_Wg (by omega) (b_Ws ?_)))) (fun q2 => b_Wg (by omega) (b_Ws ?_)))) (fun q1 => b_Wg (by omega) (b_Ws ?_)))
  · have hH : Hd N d l k := ⟨by omega, by omega, by omega⟩
    refine b_Wg (by omega) (b_Wl ?_)
    generalize hU : b_up Q 150 k 3 = U
    have fU : b_fr W_hr N U := by subst hU; exact b_frA h2 (by decide)
    have u150 : ∀ c, U 150 c = if 0 ≤ c ∧ c < k + 1 ∧ Hd N d l c then 3 else N 150 c := by
      intro c
      subst hU
      rw [b_upJ, h6]
      by_cases e : c = k
      · subst e; rw [if_pos rfl, if_pos ⟨h1.1, by omega, hH⟩]
      · rw [if_neg e]
        by_cases qc : 0 ≤ c ∧ c < k ∧ Hd N d l c
        · rw [if_pos qc, if_pos ⟨qc.1, by omega, qc.2.2⟩]
        · rw [if_neg qc, if_neg (fun z => qc ⟨z.1, by omega, z.2.2⟩)]
    clear hU
    have u148 : U 148 k = N 148 k := fU 148 k (by simp [b_ins, W_hr, W_X3_appraise])
    have u147 : U 147 k = N 147 k := fU 147 k (by simp [b_ins, W_hr, W_X3_appraise])
    have u3 : U 3 0 = N 3 0 := fU 3 0 (by decide)
    have u2 : U 2 0 = N 2 0 := fU 2 0 (by decide)
    have gU : GS N U := b_kp1 fU (by decide +kernel)
    refine b_Wb (b_wp_m (fun o z => ?_) (t_appraise (c := k) (C_k fU (by decide +kernel) hC) (G_k fU (by decide +kernel) hG) hd (by omega) (by omega) (by omega)))
    obtain ⟨x, P⟩ := o
    obtain ⟨z1, z2⟩ := z
    dsimp only at z1 z2
    have hw : Wn N d k x (P 9 13) (P 9 14) := Wn_c gU u148 u147 z2
    clear z2
    have fP : b_fr W_hr N P := fun c i hi => by
      rw [z1 c i ?_]
      · exact fU c i hi
      · revert hi
        simp only [W_hr, b_ins, List.any_cons, Bool.or_eq_false_iff]
        exact fun z => z.2
    have p150 : ∀ c, P 150 c = if 0 ≤ c ∧ c < k + 1 ∧ Hd N d l c then 3 else N 150 c := fun c => by rw [z1 150 c (by simp [b_ins, W_X3_appraise])]; exact u150 c
    clear u150 z1
    refine b_Wtwo ?_
    have b143 : ∀ u0, (u0 = 0 ∨ u0 = 1) → (x ≠ 3 → (u0 = 1 ↔ Ht N d x (P 9 13) (P 9 14) b v)) → b_wp (F_X3_hear_b143 l d r4 (n + 1) b v g0 w0 k x u0 P) (Sum.elim (fun t : Int × Int × Int × Int × Int × Int × bM => ((0 ≤ t.2.2.2.2.2.1 ∧ t.2.2.2.2.2.1 ≤ N 9 0) ∧ b_fr W_hr N t.2.2.2.2.2.2 ∧ Hb N d l t.2.2.2.2.2.1.toNat t.1 t.2.1 t.2.2.1 ∧ (t.2.1 ≠ -1 → ∃ y, Wn N d t.2.1 y t.2.2.2.1 t.2.2.2.2.1) ∧ ∀ c, t.2.2.2.2.2.2 150 c = if 0 ≤ c ∧ c < t.2.2.2.2.2.1 ∧ Hd N d l c then 3 else N 150 c) ∧ (N 9 0 - t.2.2.2.2.2.1).toNat < (N 9 0 - k).toNat) (fun o => b_fr W_hr N o.2.2.2 ∧ Hb N d l (N 9 0).toNat o.1 o.2.1 o.2.2.1 ∧ ∀ c, o.2.2.2 150 c = if 0 ≤ c ∧ c < N 9 0 ∧ Hd N d l c then 3 else N 150 c)) := by
      intro u0 hu hT
      have hx := Wn_r hw
      have keep : ¬ Ht N d x (P 9 13) (P 9 14) b v → ((0 ≤ k + 1 ∧ k + 1 ≤ N 9 0) ∧ b_fr W_hr N P ∧ Hb N d l (k + 1).toNat (n + 1) b v ∧ (b ≠ -1 → ∃ y, Wn N d b y g0 w0) ∧ ∀ c, P 150 c = if 0 ≤ c ∧ c < k + 1 ∧ Hd N d l c then 3 else N 150 c) ∧ (N 9 0 - (k + 1)).toNat < (N 9 0 - k).toNat := fun ht => ⟨⟨by omega, fP, Hb_f h1.1 hH h3 hw ht, h5, p150⟩, by omega⟩
      unfold F_X3_hear_b143
      refine b_Wi (fun qx => b_Wg (by omega) (b_Ws (keep (fun z => z.1 qx)))) (fun qx => b_Wi (fun qu => b_Wg (by omega) (b_Ws (keep (fun z => ?_)))) (fun qu => b_Wg (by omega) (b_Ws ⟨⟨by dsimp only; omega, fP, ?_, fun _ => ⟨x, hw⟩, p150⟩, by dsimp only; omega⟩)))
      · have := (hT qx).mpr z
        omega
      · exact Hb_t h1.1 hH h3 hw ((hT qx).mp (by omega))
    unfold F_X3_hear_b138 F_X3_hear_b142
    have tt : ∀ {u : Int}, x ≠ 3 → (u = 1 ↔ (x < v ∨ (x = v ∧ (P 9 13 < g0 ∨ (P 9 13 = g0 ∧ w0 < P 9 14))))) → (u = 1 ↔ Ht N d x (P 9 13) (P 9 14) b v) := by
      intro u hx hu
      by_cases qb : b = -1
      · have hv : v = 3 := by
          rcases hr2 with z | z
          · exact z.2
          · have := z.1; omega
        have hxr := Wn_r hw
        exact ⟨fun _ => ⟨hx, Or.inl qb⟩, fun _ => hu.mpr (Or.inl (by omega))⟩
      · obtain ⟨y, hy⟩ := h5 qb
        exact hu.trans (Ht_u hl qb hy hx).symm
    dsimp only
    clear h5 h6 skip p150 hf hC hG
    refine b_Wi (fun a1 => b143 1 (Or.inr rfl) (fun hx => tt hx ⟨fun _ => Or.inl a1, fun _ => rfl⟩)) (fun a1 => b_Wi (fun a2 => b_Wi (fun a3 => b143 1 (Or.inr rfl) (fun hx => tt hx ⟨fun _ => Or.inr ⟨a2, Or.inl a3⟩, fun _ => rfl⟩)) (fun a3 => b_Wi (fun a4 => b_Wi (fun a5 => b143 0 (Or.inl rfl) (fun hx => tt hx ⟨fun z => absurd z (by decide), fun z => ?_⟩)) (fun a5 => b143 1 (Or.inr rfl) (fun hx => tt hx ⟨fun _ => Or.inr ⟨a2, Or.inr ⟨a4, by omega⟩⟩, fun _ => rfl⟩))) (fun a4 => b143 0 (Or.inl rfl) (fun hx => tt hx ⟨fun z => absurd z (by decide), fun z => ?_⟩)))) (fun a2 => b143 0 (Or.inl rfl) (fun hx => tt hx ⟨fun z => absurd z (by decide), fun z => ?_⟩)))
    · omega
    · omega
    · omega
  · exact skip (fun z => by have := z.2.2; omega) kN
  · exact skip (fun z => by have := z.2.1; omega) kN
  · exact skip (fun z => by have := z.1; omega) kN
