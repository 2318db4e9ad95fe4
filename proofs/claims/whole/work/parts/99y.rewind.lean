def W_rw : bW := [(1, some 2), (1, some 3), (1, some 4), (1, some 7)]
/-- step by step -/
theorem Cr_k {W : bW} {c : Int → Int} {n : Int} {M N : bM} (f : b_fr W M N) (d : b_dis W [(1, some 1), (72, none)] = true) (h : Cr c n M) : Cr c n N := by
  have k := b_kp1 f d
  have e : N 72 = M 72 := funext fun i => k 72 i rfl
  exact ⟨(k 1 1 rfl).trans h.1, (cb_c (k 1 1 rfl) e).trans h.2⟩
def W_st : bW := [(1, some 2), (1, some 3), (1, some 4), (1, some 7)]
theorem Tq_f {c : Int → Int} {M N : bM} {p : Int} (y : Tq c M p N) : b_fr W_st M N := fun z j hj => by
  by_cases e : z = 1
  · subst e
    exact y.1.2 j (fun q => by subst q; exact absurd hj (by decide)) (fun q => by subst q; exact absurd hj (by decide)) (fun q => by subst q; exact absurd hj (by decide)) (fun q => by subst q; exact absurd hj (by decide))
  · exact y.1.1 z j e
theorem t_stepN {M : bM} {c : Int → Int} {n : Int} {i : Nat} (hB : z_B c n) (hR : Cr c n M) (hs : Cs c M i) (hi : (i : Int) < 1000000) : b_wp (F_X10_step M) (fun N => b_fr W_st M N ∧ Cr c n N ∧ Cs c N (i + 1)) := by
  refine b_wp_m (fun N y => ?_) (t_step (p := t_at c (i + 1)) hB hR.2 hR.1 hs.1 (t_at_r hB (i + 1)))
  exact ⟨Tq_f y, Cr_k (Tq_f y) (by decide) hR, y.2⟩
theorem t_rewind {M : bM} (hT : R_tape M) : b_wp (F_X10_rewind M) (fun N => b_fr W_rw M N ∧ Cr (cb M) (M 1 1) N ∧ Cs (cb M) N 0) := by
  have hB := cb_B hT
  unfold F_X10_rewind
  refine b_Wl ?_
  generalize hU : b_up M 1 7 0 = U
  have fU : b_fr W_rw M U := by subst hU; exact b_frF b_fr_refl (by decide)
  have u7 : U 1 7 = 0 := by subst hU; exact b_ups
  have rU : Cr (cb M) (M 1 1) U := by subst hU; exact ⟨b_upi (by decide), cb_c (b_upi (by decide)) (funext fun i => b_upc (by decide))⟩
  clear hU
  refine b_Wb (b_wp_m (fun N y => ?_) (t_step (p := 0) hB rU.2 rU.1 u7 ⟨Int.le_refl _, hB.1.1⟩))
  exact b_Ws ⟨b_fr_tr fU (Tq_f y), Cr_k (Tq_f y) (by decide) rU, y.2⟩
