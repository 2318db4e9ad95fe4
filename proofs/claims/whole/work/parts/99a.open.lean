theorem fr_app {A B : bW} {N P Q : bM} (h1 : b_fr A P Q) (h2 : b_fr B N P) : b_fr (A ++ B) N Q := fun c i hi => by
  have : b_ins A c i = false ∧ b_ins B c i = false := by
    unfold b_ins at hi ⊢
    rw [List.any_append, Bool.or_eq_false_iff] at hi
    exact hi
  rw [h1 c i this.1, h2 c i this.2]
/-- one of the first k CLAIMS asks that the ruling be taken back -/
def Ro (N : bM) (d l win k : Int) : Prop := ∃ c x g w, (0 ≤ c ∧ c < k) ∧ N 148 c = l ∧ Wn N d c x g w ∧ ((c = win ∧ x = 3) ∨ (c ≠ win ∧ x = 1))
theorem Ro_m {N : bM} {d l win k k2 : Int} (h : k ≤ k2) (hr : Ro N d l win k) : Ro N d l win k2 := by
  obtain ⟨c, x, g, w, h1, h2⟩ := hr
  exact ⟨c, x, g, w, ⟨h1.1, Int.lt_of_lt_of_le h1.2 h⟩, h2⟩
theorem t_must {N : bM} {d l win : Int} (hC : C_all N) (hG : G_all N d) (hd : 0 ≤ d ∧ d ≤ 9999) (hf : L_rf N) : b_wp (b_loop (fun t : Int × bM => F_X3_mustReopen_s9 l d win t.1 t.2) (0, N)) (Sum.elim (fun Q => b_fr W_X3_appraise N Q ∧ ¬ Ro N d l win (N 9 0)) (fun o => b_fr W_X3_appraise N o.2 ∧ o.1 = 1 ∧ Ro N d l win (N 9 0))) := by
  have hl := hC.1.2.2.1.1.1
  have n9 := hf.1
  refine b_loop_ind (I := fun t : Int × bM => (0 ≤ t.1 ∧ t.1 ≤ N 9 0) ∧ b_fr W_X3_appraise N t.2 ∧ ¬ Ro N d l win t.1) (fun t => (N 9 0 - t.1).toNat) ?_ (0, N) ⟨by dsimp only; omega, b_fr_refl, fun ⟨c, x, g, w, h1, h2⟩ => by dsimp only at h1; clear h2; omega⟩
  intro ⟨k, Q⟩ ⟨h1, h2, h3⟩
  dsimp only at h1 h2 h3 ⊢
  unfold F_X3_mustReopen_s9
  have q9 : Q 9 0 = N 9 0 := h2 9 0 (by decide)
  have q148 : Q 148 k = N 148 k := h2 148 k (by simp [b_ins, W_X3_appraise])
  have q147 : Q 147 k = N 147 k := h2 147 k (by simp [b_ins, W_X3_appraise])
  refine b_Wi (fun q => ?_) (fun q => ?_)
  · have e : k = N 9 0 := by omega
    refine b_Ws ⟨h2, ?_⟩
    rw [← e]; exact h3
  have kN : k < N 9 0 := by omega
  have hcr := hf.2.1 k h1.1 kN
  refine b_Wg (by omega) (b_Wi (fun q1 => ?_) (fun q1 => b_Wg (by omega) (b_Ws ⟨⟨by dsimp only; omega, h2, fun ⟨c, x, g, w, c1, c2, c3⟩ => ?_⟩, by dsimp only; omega⟩)))
  · have u3 : Q 3 0 = N 3 0 := h2 3 0 (by decide)
    have u2 : Q 2 0 = N 2 0 := h2 2 0 (by decide)
    have gQ : GS N Q := b_kp1 h2 (by decide +kernel)
    refine b_Wb (b_wp_m (fun o z => ?_) (t_appraise (c := k) (C_k h2 (by decide +kernel) hC) (G_k h2 (by decide +kernel) hG) hd (by omega) (by omega) (by omega)))
    obtain ⟨x, P⟩ := o
    obtain ⟨z1, z2⟩ := z
    dsimp only at z1 z2
    have hw : Wn N d k x (P 9 13) (P 9 14) := Wn_c gQ q148 q147 z2
    clear z2
    have fP : b_fr W_X3_appraise N P := b_fr_tr h2 z1
    have go : ∀ u, ((x = u) ↔ ((k = win ∧ x = 3) ∨ (k ≠ win ∧ x = 1))) → b_wp (F_X3_mustReopen_b47 l d win k x u P) (Sum.elim (fun t : Int × bM => ((0 ≤ t.1 ∧ t.1 ≤ N 9 0) ∧ b_fr W_X3_appraise N t.2 ∧ ¬ Ro N d l win t.1) ∧ (N 9 0 - t.1).toNat < (N 9 0 - k).toNat) (Sum.elim (fun Q => b_fr W_X3_appraise N Q ∧ ¬ Ro N d l win (N 9 0)) (fun o => b_fr W_X3_appraise N o.2 ∧ o.1 = 1 ∧ Ro N d l win (N 9 0)))) := by
      intro u hu
      unfold F_X3_mustReopen_b47
      refine b_Wi (fun a => b_Ws ⟨fP, rfl, k, x, _, _, ⟨h1.1, kN⟩, by omega, hw, hu.mp a⟩) (fun a => b_Wg (by omega) (b_Ws ⟨⟨by dsimp only; omega, fP, fun ⟨c, x', g, w, c1, c2, c3, c4⟩ => ?_⟩, by dsimp only; omega⟩))
      dsimp only at c1
      by_cases e : c = k
      · subst e
        obtain ⟨ex, _, _⟩ := Wn_u hl hw c3
        subst ex
        exact a (hu.mpr c4)
      · exact h3 ⟨c, x', g, w, by clear c3 c4; omega, c2, c3, c4⟩
    refine b_Wtwo (b_Wi (fun a => go 3 ⟨fun z => Or.inl ⟨a, z⟩, fun z => ?_⟩) (fun a => go 1 ⟨fun z => Or.inr ⟨a, z⟩, fun z => ?_⟩))
    · rcases z with z | z
      · exact z.2
      · exact absurd a z.1
    · rcases z with z | z
      · exact absurd z.1 a
      · exact z.2
  · dsimp only at c1
    by_cases e : c = k
    · subst e
      clear c3
      omega
    · exact h3 ⟨c, x, g, w, by clear c3; omega, c2, c3⟩
theorem t_openLoop {W : bW} {N Q0 : bM} {d l win u0 : Int} (f : b_fr W N Q0) (f1 : b_dis W S_C = true) (f2 : b_dis W S_chain = true) (f3 : b_dis W [(2, some 0)] = true) (f4 : b_dis W [(11, some 11), (231, none), (232, none)] = true) (f5 : b_dis W [(11, some 106), (236, none)] = true) (hC : C_all N) (hG : G_all N d) (hd : 0 ≤ d ∧ d ≤ 9999) (hf : L_rf N) (hcl : R_claim N) (hdy : N 11 11 = d) (hll : 0 ≤ l ∧ l < 60) (hw : N 236 l = win) (hwr : 0 ≤ win ∧ win < N 9 0) (hw148 : N 148 win = l) (hu : (u0 = 1 ∧ Ro N d l win (N 9 0)) ∨ (u0 = 0 ∧ ∀ x g w, Wn N d win x g w → x ≠ 3)) : b_wp (b_loop (fun t : Int × Int × bM => F_X12_open_s44 l t.1 t.2.1 t.2.2) (u0, 0, Q0)) (fun o => b_fr W_X12_worthOf Q0 o.2 ∧ ((o.1 = 1 ∧ Ro N d l win (N 9 0)) ∨ (o.1 = 0 ∧ ¬ Ro N d l win (N 9 0)))) := by
  have hl := hC.1.2.2.1.1.1
  have n9 := hf.1
  have k4 := b_kp1 f f4
  have k5 := b_kp1 f f5
  have c1 := hcl.1.1
  refine b_loop_ind (I := fun t : Int × Int × bM => (0 ≤ t.2.1 ∧ t.2.1 ≤ N 9 0) ∧ b_fr W_X12_worthOf Q0 t.2.2 ∧ ((t.1 = 1 ∧ Ro N d l win (N 9 0)) ∨ (t.1 = 0 ∧ (∀ x g w, Wn N d win x g w → x ≠ 3) ∧ ∀ c x g w, 0 ≤ c → c < t.2.1 → N 148 c = l → c ≠ win → Wn N d c x g w → x ≠ 1))) (fun t => (N 9 0 - t.2.1).toNat) ?_ (u0, 0, Q0) ⟨by dsimp only; omega, b_fr_refl, ?_⟩
  rotate_left
  · dsimp only
    rcases hu with hu | hu
    · exact Or.inl hu
    · exact Or.inr ⟨hu.1, hu.2, fun c x g w h1 h2 => by clear hu; omega⟩
  clear hu
  intro ⟨u, k, Q⟩ ⟨h1, h2, h3⟩
  dsimp only at h1 h2 h3 ⊢
  unfold F_X12_open_s44
  have q9 : Q 11 106 = N 9 0 := by rw [h2 11 106 (by decide), k5 11 106 rfl, c1]
  have q232 : Q 232 k = N 148 k := by rw [h2 232 k (by simp [b_ins, W_X12_worthOf]), k4 232 k rfl, hcl.2.1.2.1]
  have q236 : Q 236 l = win := by rw [h2 236 l (by simp [b_ins, W_X12_worthOf]), k5 236 l rfl, hw]
  by_cases qu : u = 0
  · have h4 := (h3.resolve_left (fun z => by have := z.1; clear z; omega)).2
    clear h3
    obtain ⟨h5, h6⟩ := h4
    have keep : ∀ P, b_fr W_X12_worthOf Q0 P → k < N 9 0 → (N 148 k = l → k ≠ win → ∀ x g w, Wn N d k x g w → x ≠ 1) → ((0 ≤ k + 1 ∧ k + 1 ≤ N 9 0) ∧ b_fr W_X12_worthOf Q0 P ∧ (((0 : Int) = 1 ∧ Ro N d l win (N 9 0)) ∨ ((0 : Int) = 0 ∧ (∀ x g w, Wn N d win x g w → x ≠ 3) ∧ ∀ c x g w, 0 ≤ c → c < k + 1 → N 148 c = l → c ≠ win → Wn N d c x g w → x ≠ 1))) ∧ (N 9 0 - (k + 1)).toNat < (N 9 0 - k).toNat := by
      intro P fP kN hk
      refine ⟨⟨by omega, fP, Or.inr ⟨rfl, h5, fun c x g w a1 a2 a3 a4 a5 => ?_⟩⟩, by omega⟩
      by_cases e : c = k
      · subst e; exact hk a3 a4 x g w a5
      · exact h6 c x g w a1 (by clear a5; omega) a3 a4 a5
    refine b_Wi (fun q => b_Ws ⟨h2, Or.inr ⟨qu, fun ⟨c, x, g, w, a1, a2, a3, a4⟩ => ?_⟩⟩) (fun q => b_Wt qu ?_)
    · rcases a4 with ⟨a4, a5⟩ | ⟨a4, a5⟩
      · subst a4
        exact h5 x g w a3 a5
      · exact h6 c x g w a1.1 (by clear a3; omega) a2 a4 a3 a5
    have kN : k < N 9 0 := by omega
    have hcr := hf.2.1 k h1.1 kN
    refine b_Wg (by omega) (b_Wi (fun q1 => b_Wg (by omega) (b_Wi (fun q2 => b_Wg (by omega) (b_Ws (keep Q h2 kN (fun _ z => absurd (q2.trans q236) z)))) (fun q2 => ?_))) (fun q1 => b_Wg (by omega) (b_Ws (keep Q h2 kN (fun z => absurd (q232.trans z) q1)))))
    obtain ⟨a, F, hs⟩ := Wn_e (c := k) hC hG hcr.2 hcr.1
    have fQ := fr_app h2 f
    refine b_Wb (b_wp_m (fun o z => ?_) (t_worthOf hs fQ (b_disW (by decide +kernel) f1) (b_disW (by decide +kernel) f2) (b_disW (by decide +kernel) f3) (b_disW (by decide +kernel) f4) hC hG hd (by omega) hcr.2 hcr.1 hcl.2.1.1 hcl.2.1.2.1 hdy))
    obtain ⟨x, P⟩ := o
    obtain ⟨z1, z2, z3, z4, z5⟩ := z
    dsimp only at z1 z2 z3 z4 z5
    have hwn : Wn N d k x (Wg a F) (Ww a F) := ⟨a, F, hs, z2, rfl, rfl⟩
    have fP : b_fr W_X12_worthOf Q0 P := b_fr_tr h2 z1
    clear hs z2 z3 z4 z5
    refine b_Wtwo (b_Wi (fun qx => b_Wg (by omega) (b_Ws ⟨⟨by dsimp only; omega, fP, Or.inl ⟨rfl, k, x, _, _, ⟨h1.1, kN⟩, by omega, hwn, Or.inr ⟨fun z => q2 (z.trans q236.symm), qx⟩⟩⟩, by dsimp only; omega⟩)) (fun qx => b_Wg (by omega) (b_Ws (keep P fP kN (fun _ _ x' g w z => ?_)))))
    obtain ⟨e, _, _⟩ := Wn_u hl hwn z
    rw [← e]; exact qx
  · have h4 := h3.resolve_right (fun z => qu z.1)
    clear h3
    refine b_Wi (fun q => b_Ws ⟨h2, Or.inl h4⟩) (fun q => b_Wf qu (b_Ws ⟨h2, Or.inl h4⟩))
