theorem z_top_u {m : Int} {c : Int → Int} (hm : 0 ≤ m) : ∀ n : Nat, z_top m c n ≤ n * m := by
  intro n
  induction n with
  | zero => exact Int.le_of_eq (by show (0 : Int) = ((0 : Nat) : Int) * m; simp)
  | succ n ih =>
    have e : z_top m c (n + 1) = z_top m c n + min m (c (n + 1)) := rfl
    have e2 : (((n + 1 : Nat) : Int)) * m = n * m + m := by
      rw [show (((n + 1 : Nat) : Int)) = (n : Int) + 1 by omega, Int.add_mul, Int.one_mul]
    rw [e, e2]
    omega
theorem x_sn_u {M : bM} {d b w t : Int} (hE : E_all M) : ∀ n : Nat, (n : Int) ≤ M 5 0 → x_sn M d b w t n ≤ 99 * n := by
  intro n
  have a := x_act_r (d := d) hE.2.2.2.2.2.2.1
  induction n with
  | zero => intro _; exact Int.le_refl _
  | succ n ih =>
    intro h
    have i1 := ih (by omega)
    have wt := hE.2.2.2.2.2.2.2.1 n (by omega) (by omega) (x_act M d) a.1 a.2.1
    have e : x_sn M d b w t (n + 1) = if x_W M d b n ∧ x_T M d w n = t ∧ M 194 n ≠ 3 then x_sn M d b w t n + x_wt M (x_act M d) n else x_sn M d b w t n := rfl
    rw [e, ← wt.1]
    split <;> omega
theorem x_fin_u2 {M : bM} {d b w v p q : Int} (hE : E_all M) (h : x_fin M d b w v p q) : p ≤ 1100000 := by
  have r7 := x_rule_r (d := d) (i := 7) hE.2.2.2.2.2.2.1 (by decide)
  have su : ∀ t, x_sum M d b w t ≤ 1100000 := by
    intro t
    have h1 := x_sn_u (d := d) (b := b) (w := w) (t := t) hE (M 11 53).toNat
    have h2 := z_top_u (m := x_rule M d 7) (c := fun v => x_on M d b w t v (M 11 53).toNat) r7.1 99
    have h3 := hE.2.2.2.1.1
    have e : x_sum M d b w t = x_sn M d b w t (M 11 53).toNat + z_top (x_rule M d 7) (fun v => x_on M d b w t v (M 11 53).toNat) 99 := rfl
    have h4 : ((99 : Nat) : Int) * x_rule M d 7 ≤ 99 * 9999 := by omega
    have h5 := h1 (by omega)
    omega
  obtain ⟨mx, m0, _, m2, h⟩ := h
  have m1 : mx ≤ 1100000 := by
    rcases m2 with m2 | ⟨k, _, m2⟩
    · omega
    · rw [← m2]; exact su _
  rcases h with ⟨_, _, h, _⟩ | ⟨_, _, _, h, _⟩ | ⟨_, t, _, _, _, e, _⟩
  · omega
  · omega
  · omega
theorem g_p_up {M : bM} {d b : Int} (hG : G_all M d) (hb : 0 ≤ b ∧ b < M 6 0) : M 126 (10 * b + 8) ≤ 1100000 := by
  obtain ⟨v0, p0, q0, v1, p1, q1, v2, p2, q2, f0, f1, f2, e0, e1, e2, _, _, _, _, _, e8, _⟩ := hG.2.2.2.2.2 b hb.1 hb.2
  have a0 := x_fin_u2 hG.1 f0
  rw [e8]
  clear f0 f1 f2 hG
  omega
