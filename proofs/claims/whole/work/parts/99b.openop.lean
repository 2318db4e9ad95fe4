theorem t_clrC {l : Int} {P : bM} (n9 : 0 ≤ P 9 0 ∧ P 9 0 ≤ 30) : b_wp (b_loop (fun t : Int × bM => F_X3_reopen_s70 l t.1 t.2) (0, P)) (fun O => (∀ c j, c ≠ 150 → O c j = P c j) ∧ ∀ c, O 150 c = if 0 ≤ c ∧ c < P 9 0 ∧ P 148 c = l then 0 else P 150 c) := by
  refine b_loop_ind (I := fun s : Int × bM => (0 ≤ s.1 ∧ s.1 ≤ P 9 0) ∧ (∀ c j, c ≠ 150 → s.2 c j = P c j) ∧ ∀ c, s.2 150 c = if 0 ≤ c ∧ c < s.1 ∧ P 148 c = l then 0 else P 150 c) (fun s => (P 9 0 - s.1).toNat) ?_ (0, P) ⟨by dsimp only; omega, fun _ _ _ => rfl, fun c => (if_neg (fun z => by have := z.1; have := z.2.1; dsimp only at this; omega)).symm⟩
  intro ⟨k, Q⟩ ⟨h1, h2, h3⟩
  dsimp only at h1 h2 h3 ⊢
  have q9 := h2 9 0 (by decide)
  have q148 := h2 148 k (by decide)
  unfold F_X3_reopen_s70
  refine b_Wi (fun q => b_Ws ⟨h2, fun c => ?_⟩) (fun q => b_Wg (by omega) (b_Wi (fun q1 => b_Wg (by omega) (b_Wl (b_Wg (by omega) (b_Ws ⟨⟨by dsimp only; omega, fun c j hc => ?_, fun c => ?_⟩, by dsimp only; omega⟩)))) (fun q1 => b_Wg (by omega) (b_Ws ⟨⟨by dsimp only; omega, h2, fun c => ?_⟩, by dsimp only; omega⟩))))
  · have e : k = P 9 0 := by omega
    rw [h3, e]
  · dsimp only
    rw [b_upc hc]; exact h2 c j hc
  · dsimp only
    rw [b_upJ, h3]
    by_cases e : c = k
    · subst e; rw [if_pos rfl, if_pos ⟨h1.1, by omega, by omega⟩]
    · rw [if_neg e]
      by_cases qc : 0 ≤ c ∧ c < k ∧ P 148 c = l
      · rw [if_pos qc, if_pos ⟨qc.1, by omega, qc.2.2⟩]
      · rw [if_neg qc, if_neg (fun z => qc ⟨z.1, by omega, z.2.2⟩)]
  · dsimp only
    rw [h3]
    by_cases qc : 0 ≤ c ∧ c < k ∧ P 148 c = l
    · rw [if_pos qc, if_pos ⟨qc.1, by omega, qc.2.2⟩]
    · rw [if_neg qc, if_neg (fun z => ?_)]
      by_cases e : c = k
      · subst e; have := z.2.2; omega
      · exact qc ⟨z.1, by omega, z.2.2⟩
theorem t_clrR {l : Int} {P : bM} (n9 : 0 ≤ P 11 106 ∧ P 11 106 ≤ 30) : b_wp (b_loop (fun t : Int × bM => F_X12_open_s149 l t.1 t.2) (0, P)) (fun O => (∀ c j, c ≠ 234 → O c j = P c j) ∧ ∀ c, O 234 c = if 0 ≤ c ∧ c < P 11 106 ∧ P 232 c = l then 0 else P 234 c) := by
  refine b_loop_ind (I := fun s : Int × bM => (0 ≤ s.1 ∧ s.1 ≤ P 11 106) ∧ (∀ c j, c ≠ 234 → s.2 c j = P c j) ∧ ∀ c, s.2 234 c = if 0 ≤ c ∧ c < s.1 ∧ P 232 c = l then 0 else P 234 c) (fun s => (P 11 106 - s.1).toNat) ?_ (0, P) ⟨by dsimp only; omega, fun _ _ _ => rfl, fun c => (if_neg (fun z => by have := z.1; have := z.2.1; dsimp only at this; omega)).symm⟩
  intro ⟨k, Q⟩ ⟨h1, h2, h3⟩
  dsimp only at h1 h2 h3 ⊢
  have q9 := h2 11 106 (by decide)
  have q148 := h2 232 k (by decide)
  unfold F_X12_open_s149
  refine b_Wi (fun q => b_Ws ⟨h2, fun c => ?_⟩) (fun q => b_Wg (by omega) (b_Wi (fun q1 => b_Wg (by omega) (b_Wl (b_Wg (by omega) (b_Ws ⟨⟨by dsimp only; omega, fun c j hc => ?_, fun c => ?_⟩, by dsimp only; omega⟩)))) (fun q1 => b_Wg (by omega) (b_Ws ⟨⟨by dsimp only; omega, h2, fun c => ?_⟩, by dsimp only; omega⟩))))
  · have e : k = P 11 106 := by omega
    rw [h3, e]
  · dsimp only
    rw [b_upc hc]; exact h2 c j hc
  · dsimp only
    rw [b_upJ, h3]
    by_cases e : c = k
    · subst e; rw [if_pos rfl, if_pos ⟨h1.1, by omega, by omega⟩]
    · rw [if_neg e]
      by_cases qc : 0 ≤ c ∧ c < k ∧ P 232 c = l
      · rw [if_pos qc, if_pos ⟨qc.1, by omega, qc.2.2⟩]
      · rw [if_neg qc, if_neg (fun z => qc ⟨z.1, by omega, z.2.2⟩)]
  · dsimp only
    rw [h3]
    by_cases qc : 0 ≤ c ∧ c < k ∧ P 232 c = l
    · rw [if_pos qc, if_pos ⟨qc.1, by omega, qc.2.2⟩]
    · rw [if_neg qc, if_neg (fun z => ?_)]
      by_cases e : c = k
      · subst e; have := z.2.2; omega
      · exact qc ⟨z.1, by omega, z.2.2⟩
/-- what the class takes back: fund, compensation, ruling -/
def W_ro : bW := [(9, some 1), (150, none), (151, none), (152, none)]
theorem t_reopen {P : bM} {d l win B : Int} (hR : R_rules P) (hl : 0 ≤ l ∧ l < 60) (n9 : 0 ≤ P 9 0 ∧ P 9 0 ≤ 30) (hw : P 152 l = win + 1) (hwr : 0 ≤ win ∧ win < P 9 0) (hco : 0 ≤ P 9 1 ∧ P 9 1 ≤ 9999999) (h151 : 0 ≤ P 151 win ∧ P 151 win ≤ B) (hB : B ≤ 1000000000) : b_wp (F_X3_reopen l d P) (fun o => o.1 = 1 ∧ b_fr W_ro P o.2 ∧ o.2 9 1 = P 9 1 - min (P 9 1) (x_rule P d 9) ∧ (∀ c, o.2 150 c = if 0 ≤ c ∧ c < P 9 0 ∧ P 148 c = l then 0 else P 150 c) ∧ (∀ c, o.2 151 c = if c = win then P 151 win + min (P 9 1) (x_rule P d 9) else P 151 c) ∧ ∀ i, o.2 152 i = if i = l then 0 else P 152 i) := by
  have h2 := x_act_r (d := d) hR
  have r9 := x_rule_r (d := d) (i := 9) hR (by decide)
  unfold F_X3_reopen F_X3_winnerOf
  refine b_Wb (b_Wg (by omega) (b_Ws ?_))
  have e : P 152 l - 1 = win := by omega
  rw [e]
  refine b_We e_X3_has (b_Wf (by rw [b_01_0]; omega) (b_We (e_X1_inForce hR) (b_Wg (by omega) (b_We (x_toldN hR (by omega)) (b_Wl ?_)))))
  generalize hy : min (P 9 1) (x_rule P d 9) = y
  have hyr : 0 ≤ y ∧ y ≤ 9999 := by omega
  have hyr2 : y ≤ P 9 1 := by omega
  refine b_Wg (by omega) (b_Wl ?_)
  rw [show (b_up P 9 1 (P 9 1 - y)) 151 win = P 151 win from b_upc (by decide)]
  refine b_Wg (by omega) (b_Wl (b_Wg (by omega) (b_Wl ?_)))
  generalize hU : b_up (b_up (b_up P 9 1 (P 9 1 - y)) 151 win (P 151 win + y)) 152 l 0 = U
  have fU : b_fr W_ro P U := by
    subst hU
    exact b_frA (b_frA (b_frF b_fr_refl (by decide)) (by decide)) (by decide)
  have u91 : U 9 1 = P 9 1 - y := by subst hU; rw [b_upc (by decide), b_upc (by decide), b_ups]
  have u151 : ∀ c, U 151 c = if c = win then P 151 win + y else P 151 c := fun c => by
    subst hU; rw [b_upc (by decide), b_upJ, b_upc (by decide)]
  have u152 : ∀ c, U 152 c = if c = l then 0 else P 152 c := fun c => by
    subst hU; rw [b_upJ, b_upc (by decide), b_upc (by decide)]
  have u150 : ∀ c, U 150 c = P 150 c := fun c => by
    subst hU; rw [b_upc (by decide), b_upc (by decide), b_upc (by decide)]
  clear hU
  have u9 : U 9 0 = P 9 0 := fU 9 0 (by decide)
  have u148 : ∀ c, U 148 c = P 148 c := fun c => fU 148 c (by simp [b_ins, W_ro])
  refine b_Wb (b_wp_m (fun O z => ?_) (t_clrC (l := l) (P := U) (by omega)))
  obtain ⟨z1, z2⟩ := z
  unfold F_X3_reopen_b104
  refine b_Ws ⟨rfl, fun c i hi => ?_, ?_, fun c => ?_, fun c => ?_, fun i => ?_⟩
  · dsimp only
    rw [z1 c i (fun z => by subst z; revert hi; simp [b_ins, W_ro])]
    exact fU c i hi
  · dsimp only
    rw [z1 9 1 (by decide), u91]
  · dsimp only
    rw [z2, u9, u148, u150]
  · dsimp only
    rw [z1 151 c (by decide), u151]
  · dsimp only
    rw [z1 152 i (by decide), u152]
