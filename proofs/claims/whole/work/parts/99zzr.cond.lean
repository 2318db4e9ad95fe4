def CO (cond : bM → Option (Int × bM)) (c : Int → Int) (n s p v : Int) : Prop := ∀ (g : Int) (C R : bM) (i k : Nat) (T j : Int), Pre c n s p g v C R i k T j 0 → b_wp (cond R) (Pst c n s p g v C R i k T 0 (stA v) (fun i' _ => ¬ Wd c i' 18 ∧ ¬ Wd c i' 19) (TOP v j C))
theorem co_step {cond : bM → Option (Int × bM)} {c : Int → Int} {n s p v : Int} (hB : z_B c n) (hp2 : 192 ≤ p ∧ p < 216) (hs : 0 ≤ s) (hv : 0 ≤ v ∧ v < 6) (hc : v < 5 → CO cond c n s p (v + 1)) : CO (rC (rA (rO cond))) c n s p v := by
  intro g C R i k T j h
  refine t_cond hB hp2 hs hv h.2.2.2.2.1 (fun g2 o C R i k T j hg2 ho h2 => ?_) h
  refine t_all hB hp2 hs hv ho hg2 (fun g3 a C R i k T j hg3 ha h3 => ?_) h2
  exact t_one hB hp2 hs hv ho ha hg3 (fun z g2 C R i k T j h4 => hc z g2 C R i k T j h4) h3
theorem co_0 {c : Int → Int} {n s p : Int} (hB : z_B c n) (hp2 : 192 ≤ p ∧ p < 216) (hs : 0 ≤ s) : CO F_X12_readCond_L0 c n s p 0 := by
  have l5 : CO F_X12_readCond_L5 c n s p 5 := by
    rw [rC_5, rA_5, rO_5]
    exact co_step hB hp2 hs (by decide) (fun z => absurd z (by decide))
  have l4 : CO F_X12_readCond_L4 c n s p 4 := by
    rw [rC_4, rA_4, rO_4]
    exact co_step hB hp2 hs (by decide) (fun _ => l5)
  have l3 : CO F_X12_readCond_L3 c n s p 3 := by
    rw [rC_3, rA_3, rO_3]
    exact co_step hB hp2 hs (by decide) (fun _ => l4)
  have l2 : CO F_X12_readCond_L2 c n s p 2 := by
    rw [rC_2, rA_2, rO_2]
    exact co_step hB hp2 hs (by decide) (fun _ => l3)
  have l1 : CO F_X12_readCond_L1 c n s p 1 := by
    rw [rC_1, rA_1, rO_1]
    exact co_step hB hp2 hs (by decide) (fun _ => l2)
  rw [rC_0, rA_0, rO_0]
  exact co_step hB hp2 hs (by decide) (fun _ => l1)
theorem t_readCond {C R : bM} {c : Int → Int} {n p s : Int} {i : Nat} (hB : z_B c n) (hp2 : 192 ≤ p ∧ p < 216) (hC : Ct c n C i) (hR : Rt c R i) (hi : (i : Int) ≤ qT c i) (hp : R 11 48 = p) (h6 : R 186 p = 0) (h7 : R 187 p = 0) (h49 : R 11 49 = 0) (h3 : N3 R) (hs : C 4 9 = s) (hs0 : 0 ≤ s) (hq : s + 1 ≤ qT c i) : b_wp (F_X12_readCond_L0 R) (fun x => b_fr (W_cR ++ [(11, some 8), (11, some 9)]) R x.2 ∧ Fp p R x.2 ∧ ((x.1 = 0 ∧ ∃ D, F_X1_readCond C = some (0, D) ∧ b_fr (W_cC ++ [(1, some 5), (1, some 6)]) C D ∧ D 1 5 = x.2 11 8 ∧ D 1 6 = x.2 11 9) ∨ (x.1 = 1 ∧ b_fr W_cR R x.2 ∧ ∃ D i' k' T', F_X1_readCond C = some (1, D) ∧ b_fr W_cC C D ∧ (∀ q, q < s → D 108 q = C 108 q) ∧ Rl c n s p D x.2 i' k' T' 0 ∧ x_dep x.2 p k' = 1 ∧ D 4 9 ≤ qT c i' ∧ qT c i < qT c i'))) := by
  have nn := hB.1
  have qn := qT_n (i := i) hB
  generalize hC2 : b_up (b_up C 4 11 0) 109 0 0 = C2
  have f2 : b_fr [(4, some 11), (109, none)] C C2 := by subst hC2; exact b_frA (b_frF b_fr_refl (by decide)) (by decide)
  have c11 : C2 4 11 = 0 := by subst hC2; rw [b_upc (by decide), b_ups]
  have c0 : C2 109 0 = 0 := by subst hC2; exact b_ups
  have eR : F_X1_readCond C = b_bind (TOP 0 0 C2) (Sum.elim (fun t => F_X1_readCond_b160 t) some) := by subst hC2; rfl
  clear hC2
  have c9 : C2 4 9 = s := by rw [f2 4 9 (by decide)]; exact hs
  have c8 : ∀ x, C2 108 x = C 108 x := fun x => f2 108 x (by simp [b_ins])
  have xd : x_dep R p 0 = 0 := rfl
  have xq : x_q R p 0 = 0 := rfl
  have pre : Pre c n s p 0 0 C2 R i 0 0 0 0 := by
    refine ⟨⟨Ct_k f2 (by decide) hC, hR, hi, hp, c11, h6, by rw [h7]; rfl, ⟨by decide, by decide, by rw [xd]; decide, fun j hj => by omega⟩, by rw [c9, xq]; omega, Or.inl rfl, h3, by rw [xq]; decide⟩, h49, c0, by omega, by decide, by omega⟩
  refine b_wp_m (fun x z => ?_) (co_0 hB hp2 hs0 0 C2 R i 0 0 0 pre)
  obtain ⟨z1, z2, z3⟩ := z
  refine ⟨z1, z2, ?_⟩
  rcases z3 with ⟨z3, D, z4, z5, z6⟩ | ⟨z3, D, m, j1, i1, k1, T1, o1, r1, r2, r3, r4, r5, r6, r7, r8, r9, r10, r11, r12, r13, r14, r15, r16⟩
  · exact Or.inl ⟨z3, D, by rw [eR, z4]; rfl, b_fr_tr (b_fr_mo (by decide) f2) (b_fr_mo (by decide) z5), z6⟩
  · obtain ⟨st1, st2, st3, st4, st5⟩ := stA_f (v := 0) r6.1 r6.2
    obtain ⟨_, rb⟩ := Rl_b.mp r9
    have q1 := qT_n (i := i1) hB
    have g9 : stA 0 D 4 9 = s + x_q x.2 p k1 + 0 := rb.2.2.2.2.1
    have gs : s ≤ D 4 9 := by
      by_cases z : o1 = 0
      · have := rb.2.2.2.2.2.2.2; omega
      · have dpos : 1 ≤ x_q x.2 p k1 := by
          have ks := rb.2.2.2.1.2.2.2
          by_cases kz : k1 = 0
          · exfalso
            subst kz
            have d0 : x_dep x.2 p 0 = 0 := rfl
            omega
          · have := Spt_qm ks k1 0 (by omega)
            rw [show 0 + k1 = k1 by omega, show x_q x.2 p 0 = 0 from rfl] at this
            omega
        omega
    have hb : 0 ≤ D 4 9 ∧ (i_and (D 109 0) 4 = 0 ∨ D 4 9 < 1000) := by
      refine ⟨by omega, ?_⟩
      by_cases z : o1 = 0
      · exact Or.inl (st5.mpr z)
      · right; omega
    have eE := AFT_end (j := j1) (m := m) (v := 0) r8 r15.1 r15.2 (Or.inr (by decide)) (by decide) hb
    rw [if_pos rfl] at eE
    refine Or.inr ⟨z3, r16, stA 0 D, i1, k1, T1, by rw [eR, r1, eE]; rfl, ?_, fun q hq => ?_, r9, ?_, by omega, r14⟩
    · exact b_fr_tr (b_fr_mo (by decide) f2) (b_fr_tr r4 (b_fr_mo (by decide) st1))
    · rw [st3 q (by omega), r7 q hq]; exact c8 q
    · rw [r11, xd]; rfl
