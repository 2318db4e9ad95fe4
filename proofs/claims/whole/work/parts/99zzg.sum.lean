/-! SUMS, class and reference -/
def Tk (c : Int → Int) (i : Nat) : Prop := kT c i = 2 ∨ (kT c i = 1 ∧ ∀ j : Nat, 18 ≤ j → j ≤ 24 → vT c i ≠ kW j)
theorem Tm_Tk {c : Int → Int} {i : Nat} {y : Int} (h : Kr c i y) : Tm c i y ↔ Tk c i := by
  unfold Tm Tk
  have r := Kr_r h
  constructor
  · intro z
    rcases z with z | z
    · exact Or.inl z
    · refine Or.inr ⟨z.1, fun j j1 j2 e => z.2 ?_⟩
      have := (Kr_i h (j := j) (by omega)).mpr ⟨z.1, e⟩
      omega
  · intro z
    rcases z with z | z
    · exact Or.inl z
    · refine Or.inr ⟨z.1, fun q => ?_⟩
      have e := (Kr_i h (j := y.toNat) (by omega)).mp (by omega)
      exact z.2 y.toNat (by omega) (by omega) e.2
theorem Kr_ex {c : Int → Int} {i : Nat} : ∃ y, Kr c i y := by
  by_cases k : kT c i = 1
  · by_cases h : ∃ j : Nat, j < 29 ∧ kW j = vT c i
    · obtain ⟨j, h1, h2⟩ := h
      exact ⟨j, Or.inl ⟨k, Or.inr ⟨j, h1, rfl, h2⟩⟩⟩
    · exact ⟨-1, Or.inl ⟨k, Or.inl ⟨rfl, fun j hj e => h ⟨j, hj, e⟩⟩⟩⟩
  · exact ⟨-1, Or.inr ⟨k, rfl⟩⟩
theorem t_termC {C : bM} {c : Int → Int} {i : Nat} (hs : Cs c C i) (hw : R_wd C) : b_wp (F_X1_isTerm C) (fun x => (x = 1 ∧ Tk c i) ∨ (x = 0 ∧ ¬ Tk c i)) := by
  obtain ⟨y, hy⟩ := Kr_ex (c := c) (i := i)
  refine b_wp_m (fun x z => ?_) (t_isTermC hs hw hy)
  rw [Tm_Tk hy] at z
  exact z
theorem t_termR {R : bM} {c : Int → Int} {i : Nat} (h : Rt c R i) : b_wp (F_X12_isTerm R) (fun x => (x = 1 ∧ Tk c i) ∨ (x = 0 ∧ ¬ Tk c i)) := by
  refine b_wp_m (fun x z => ?_) (t_isTermR h)
  rw [Tm_Tk (Kr_of h)] at z
  exact z
def Sm3 (c : Int → Int) (i m : Nat) : Prop := ∀ j : Nat, j < m → Tk c (i + 2 * j) ∧ Sg c (i + 2 * j + 1) 43
/-- what reading a SUM from TOKEN i on comes to: a TERMS, or a FAULT -/
def So (c : Int → Int) (i : Nat) (a f q : Int) : Prop := ∃ m : Nat, m ≤ 3 ∧ Sm3 c i m ∧ ((¬ Tk c (i + 2 * m) ∧ a = 0 ∧ f = 1 ∧ q = qT c (i + 2 * m)) ∨ (Tk c (i + 2 * m) ∧ m = 3 ∧ a = 0 ∧ f = 4 ∧ q = qT c (i + 2 * m)) ∨ (Tk c (i + 2 * m) ∧ m < 3 ∧ ¬ Sg c (i + 2 * m + 1) 43 ∧ a = m + 1 ∧ f = 0 ∧ q = 0))
theorem So_u {c : Int → Int} {i : Nat} {a f q a2 f2 q2 : Int} (h : So c i a f q) (h2 : So c i a2 f2 q2) : a = a2 ∧ f = f2 ∧ q = q2 := by
  obtain ⟨m, m1, m2, m3⟩ := h
  obtain ⟨k, k1, k2, k3⟩ := h2
  have no : ∀ (x y : Nat) (u v w : Int), x < y → y ≤ 3 → Sm3 c i y → ((¬ Tk c (i + 2 * x) ∧ u = 0 ∧ v = 1 ∧ w = qT c (i + 2 * x)) ∨ (Tk c (i + 2 * x) ∧ x = 3 ∧ u = 0 ∧ v = 4 ∧ w = qT c (i + 2 * x)) ∨ (Tk c (i + 2 * x) ∧ x < 3 ∧ ¬ Sg c (i + 2 * x + 1) 43 ∧ u = x + 1 ∧ v = 0 ∧ w = 0)) → False := by
    intro x y u v w xy y3 s z
    have s1 := s x xy
    rcases z with z | z | z
    · exact z.1 s1.1
    · omega
    · exact z.2.2.1 s1.2
  by_cases e : m = k
  · subst e
    rcases m3 with x | x | x <;> rcases k3 with y | y | y
    · exact ⟨by omega, by omega, by omega⟩
    · exact absurd y.1 x.1
    · exact absurd y.1 x.1
    · exact absurd x.1 y.1
    · exact ⟨by omega, by omega, by omega⟩
    · omega
    · exact absurd x.1 y.1
    · omega
    · exact ⟨by omega, by omega, by omega⟩
  · by_cases lt : m < k
    · exact (no m k a f q lt k1 k2 m3).elim
    · exact (no k m a2 f2 q2 (by omega) m1 m2 k3).elim
theorem Tk_0 {c : Int → Int} {n : Int} {i : Nat} (hB : z_B c n) (h : Tk c i) : kT c i ≠ 0 ∧ kT c i ≠ 4 ∧ qT c i < n := by
  have k : kT c i ≠ 0 := by
    rcases h with z | z
    · rw [z]; decide
    · rw [z.1]; decide
  refine ⟨k, ?_, ?_⟩
  · rcases h with z | z
    · rw [z]; decide
    · rw [z.1]; decide
  · have a := (qT_s (i := i) hB).2 k
    have b := (qT_n (i := i + 1) hB).2
    omega
/-- the code of a TERM -/
def Te (c : Int → Int) (i : Nat) : Int := x_enc (vT c i) (if kT c i = 2 then 0 else 1)
def em (C : bM) (s v : Int) : bM := b_up (b_up C 108 (C 4 9) (x_enc v s)) 4 9 (C 4 9 + 1)
theorem e_emit {C : bM} {s v : Int} (h : 0 ≤ C 4 9 ∧ C 4 9 < 1000) : F_X1_emit s v C = some (em C s v) := by
  refine b_eqn ?_
  unfold F_X1_emit
  refine b_Wf (by omega) (b_Wg (by omega) (b_Wl ?_))
  rw [b_upc (show (4 : Nat) ≠ 108 by decide)]
  exact b_Wg (by omega) (b_Wl (b_Ws rfl))
theorem em_f {C : bM} {s v : Int} : (∀ z j, z ≠ 108 → ¬ (z = 4 ∧ j = 9) → em C s v z j = C z j) ∧ em C s v 4 9 = C 4 9 + 1 ∧ ∀ j, em C s v 108 j = if j = C 4 9 then x_enc v s else C 108 j := by
  unfold em
  refine ⟨fun z j h1 h2 => ?_, b_ups, fun j => ?_⟩
  · by_cases q : z = 4
    · subst q
      rw [b_upi (fun e => h2 ⟨rfl, e⟩), b_upc h1]
    · rw [b_upc q, b_upc h1]
  · rw [b_upc (by decide), b_upJ]
def W_sumC : bW := [(1, some 2), (1, some 3), (1, some 4), (1, some 7), (4, some 9), (108, none)]
/-- the class at TOKEN i -/
def Ct (c : Int → Int) (n : Int) (C : bM) (i : Nat) : Prop := Cr c n C ∧ Cs c C i ∧ R_wd C
theorem Ct_k {W : bW} {c : Int → Int} {n : Int} {C D : bM} {i : Nat} (f : b_fr W C D) (d : b_dis W [(1, some 1), (1, some 2), (1, some 3), (1, some 4), (1, some 7), (72, none), (104, none), (105, none), (106, none)] = true) (h : Ct c n C i) : Ct c n D i := by
  have k := b_kp1 f d
  obtain ⟨h1, h2, h3⟩ := h
  refine ⟨?_, ?_, ?_⟩
  · exact ⟨(k 1 1 rfl).trans h1.1, (cb_c (k 1 1 rfl) (funext fun i => k 72 i rfl)).trans h1.2⟩
  · unfold Cs at h2 ⊢
    rw [k 1 7 rfl, k 1 2 rfl, k 1 3 rfl, k 1 4 rfl]
    exact h2
  · refine R_wd_k (fun z i hi => k z i ?_) h3
    unfold S_wd at hi
    revert hi
    simp only [b_ins, List.any_cons, List.any_nil]
    intro hi
    simp at hi ⊢
    omega
theorem em_fr {C : bM} {s v : Int} : b_fr W_sumC C (em C s v) := by
  unfold em
  exact b_frF (b_frA b_fr_refl (by decide)) (by decide)
theorem em_ct {c : Int → Int} {n : Int} {C : bM} {i : Nat} {s v : Int} (h : Ct c n C i) : Ct c n (em C s v) i := by
  have f : b_fr [(4, some 9), (108, none)] C (em C s v) := by
    unfold em
    exact b_frF (b_frA b_fr_refl (by decide)) (by decide)
  exact Ct_k f (by decide) h
theorem t_stepT {C : bM} {c : Int → Int} {n : Int} {i : Nat} (hB : z_B c n) (h : Ct c n C i) (hi : i < 1000000) : b_wp (F_X10_step C) (fun D => b_fr W_st C D ∧ Ct c n D (i + 1)) := by
  refine b_wp_m (fun D z => ⟨z.1, z.2.1, z.2.2, ?_⟩) (t_stepN hB h.1 h.2.1 (by omega))
  exact R_wd_k (b_kp1 z.1 (by decide)) h.2.2
def x_cn (m : Nat) : Int := if m = 0 then 0 else 2 * m - 1
def Sk (c : Int → Int) (C : bM) (b : Int) (i : Nat) (a : Int) : Prop := (1 ≤ a → C 108 b = Te c i) ∧ (2 ≤ a → C 108 (b + 1) = Te c (i + 2) ∧ C 108 (b + 2) = x_enc 0 2) ∧ (3 ≤ a → C 108 (b + 3) = Te c (i + 4) ∧ C 108 (b + 4) = x_enc 0 2)
theorem Sk_c {c : Int → Int} {C D : bM} {b : Int} {i : Nat} {a : Int} (h : ∀ j, j < b + 2 * a - 1 → D 108 j = C 108 j) (hS : Sk c C b i a) : Sk c D b i a := by
  obtain ⟨h1, h2, h3⟩ := hS
  refine ⟨fun z => ?_, fun z => ?_, fun z => ?_⟩
  · rw [h b (by omega)]; exact h1 z
  · rw [h (b + 1) (by omega), h (b + 2) (by omega)]; exact h2 z
  · rw [h (b + 3) (by omega), h (b + 4) (by omega)]; exact h3 z
theorem t_sumC {C : bM} {c : Int → Int} {n : Int} {i : Nat} (hB : z_B c n) (h : Ct c n C i) (hi : i < 900000) (hb : 0 ≤ C 4 9 ∧ C 4 9 ≤ qT c i) : b_wp (F_X1_readSum C) (fun o => b_fr (W_sumC ++ [(1, some 5), (1, some 6)]) C o.2 ∧ (∀ j, j < C 4 9 → o.2 108 j = C 108 j) ∧ ∃ a f q, So c i a f q ∧ ((a = 0 ∧ o.1 = 0 ∧ o.2 1 5 = f ∧ o.2 1 6 = q) ∨ ((1 ≤ a ∧ a ≤ 3) ∧ o.1 = 1 ∧ b_fr W_sumC C o.2 ∧ Ct c n o.2 (i + (2 * a - 1).toNat) ∧ o.2 4 9 = C 4 9 + (2 * a - 1) ∧ Sk c o.2 (C 4 9) i a))) := by
  unfold F_X1_readSum
  generalize hb0 : C 4 9 = b at *
  refine b_Wb (b_wp_m (fun o z => ?_) (b_loop_ind (P := Sum.elim (fun _ : bM => False) (fun o : Int × bM => b_fr (W_sumC ++ [(1, some 5), (1, some 6)]) C o.2 ∧ (∀ j, j < b → o.2 108 j = C 108 j) ∧ ∃ a f q, So c i a f q ∧ ((a = 0 ∧ o.1 = 0 ∧ o.2 1 5 = f ∧ o.2 1 6 = q) ∨ ((1 ≤ a ∧ a ≤ 3) ∧ o.1 = 1 ∧ b_fr W_sumC C o.2 ∧ Ct c n o.2 (i + (2 * a - 1).toNat) ∧ o.2 4 9 = b + (2 * a - 1) ∧ Sk c o.2 b i a)))) (I := fun s : Int × bM => b_fr W_sumC C s.2 ∧ (∀ j, j < b → s.2 108 j = C 108 j) ∧ ∃ m : Nat, s.1 = m ∧ m ≤ 3 ∧ Sm3 c i m ∧ Ct c n s.2 (i + 2 * m) ∧ s.2 4 9 = b + x_cn m ∧ Sk c s.2 b i m ∧ b + 2 * m ≤ qT c (i + 2 * m)) (fun s => (4 - s.1).toNat) ?_ (0, C) ⟨b_fr_refl, fun _ _ => rfl, 0, rfl, by decide, fun j hj => by omega, h, by dsimp only; rw [hb0]; show b = b + 0; omega, ⟨fun z => by omega, fun z => by omega, fun z => by omega⟩, by show b + 2 * ((0 : Nat) : Int) ≤ qT c (i + 2 * 0); rw [show i + 2 * 0 = i by omega]; omega⟩))
  · rcases o with o | o
    · exact z.elim
    · exact b_Ws z
  intro ⟨v, D⟩ ⟨f1, f2, m, e1, m3, sm, ct, cn, sk, bq⟩
  dsimp only at f1 f2 e1 ct cn sk ⊢
  have s2 : D 1 2 = kT c (i + 2 * m) := ct.2.1.2.1
  have s3 : D 1 3 = qT c (i + 2 * m) := ct.2.1.2.2.1
  unfold F_X1_readSum_s2
  refine b_Wf (by omega) (b_Wb (b_wp_m (fun x z => ?_) (t_termC ct.2.1 ct.2.2)))
  have bad : ∀ fk : Int, So c i 0 fk (qT c (i + 2 * m)) → b_wp (b_bind (F_X10_wrong fk D) (fun t => b_two t (fun x17 M18 => b_g (x17 = 0 ∨ x17 = 1) (some (Sum.inr (Sum.inr (x17, M18)) : (Int × bM) ⊕ (bM ⊕ (Int × bM))))))) (Sum.elim (fun s2 : Int × bM => (b_fr W_sumC C s2.2 ∧ (∀ j, j < b → s2.2 108 j = C 108 j) ∧ ∃ m : Nat, s2.1 = m ∧ m ≤ 3 ∧ Sm3 c i m ∧ Ct c n s2.2 (i + 2 * m) ∧ s2.2 4 9 = b + x_cn m ∧ Sk c s2.2 b i m ∧ b + 2 * m ≤ qT c (i + 2 * m)) ∧ (4 - s2.1).toNat < (4 - v).toNat) (Sum.elim (fun _ : bM => False) (fun o : Int × bM => b_fr (W_sumC ++ [(1, some 5), (1, some 6)]) C o.2 ∧ (∀ j, j < b → o.2 108 j = C 108 j) ∧ ∃ a f q, So c i a f q ∧ ((a = 0 ∧ o.1 = 0 ∧ o.2 1 5 = f ∧ o.2 1 6 = q) ∨ ((1 ≤ a ∧ a ≤ 3) ∧ o.1 = 1 ∧ b_fr W_sumC C o.2 ∧ Ct c n o.2 (i + (2 * a - 1).toNat) ∧ o.2 4 9 = b + (2 * a - 1) ∧ Sk c o.2 b i a))))) := by
    intro fk so
    refine b_We e_wrong (b_Wtwo (b_Wg (Or.inl rfl) (b_Ws ⟨?_, fun j hj => ?_, 0, fk, _, so, Or.inl ⟨rfl, rfl, (wr_f (M := D) (k := fk)).1, (wr_f (M := D) (k := fk)).2.trans s3⟩⟩)))
    · exact b_frF (b_frF (b_fr_mo (by decide) f1) (by decide)) (by decide)
    · dsimp only
      rw [b_upc (by decide), b_upc (by decide)]
      exact f2 j hj
  rcases z with ⟨z1, z2⟩ | ⟨z1, z2⟩
  · refine b_Wf (by omega) ?_
    have t0 := Tk_0 hB z2
    have n1 := hB.1
    by_cases m2 : m < 3
    · refine b_Wt (by omega) ?_
      -- one more TERM
      have v4 : D 1 4 = vT c (i + 2 * m) := ct.2.1.2.2.2 t0.2.1
      have b56 : ∀ u1 : Int, u1 = (if kT c (i + 2 * m) = 2 then 0 else 1) → b_wp (F_X1_readSum_b56 v u1 D) (Sum.elim (fun s2 : Int × bM => (b_fr W_sumC C s2.2 ∧ (∀ j, j < b → s2.2 108 j = C 108 j) ∧ ∃ m : Nat, s2.1 = m ∧ m ≤ 3 ∧ Sm3 c i m ∧ Ct c n s2.2 (i + 2 * m) ∧ s2.2 4 9 = b + x_cn m ∧ Sk c s2.2 b i m ∧ b + 2 * m ≤ qT c (i + 2 * m)) ∧ (4 - s2.1).toNat < (4 - v).toNat) (Sum.elim (fun _ : bM => False) (fun o : Int × bM => b_fr (W_sumC ++ [(1, some 5), (1, some 6)]) C o.2 ∧ (∀ j, j < b → o.2 108 j = C 108 j) ∧ ∃ a f q, So c i a f q ∧ ((a = 0 ∧ o.1 = 0 ∧ o.2 1 5 = f ∧ o.2 1 6 = q) ∨ ((1 ≤ a ∧ a ≤ 3) ∧ o.1 = 1 ∧ b_fr W_sumC C o.2 ∧ Ct c n o.2 (i + (2 * a - 1).toNat) ∧ o.2 4 9 = b + (2 * a - 1) ∧ Sk c o.2 b i a))))) := by
        intro u1 hu
        have cnr : 0 ≤ x_cn m ∧ x_cn m ≤ 2 * m := by unfold x_cn; split <;> omega
        unfold F_X1_readSum_b56
        rw [v4]
        refine b_We (e_emit (by omega)) ?_
        generalize hE : em D u1 (vT c (i + 2 * m)) = E
        have eF : b_fr W_sumC C E := by subst hE; exact b_fr_tr f1 em_fr
        have eC : Ct c n E (i + 2 * m) := by subst hE; exact em_ct ct
        have e9 : E 4 9 = b + x_cn m + 1 := by subst hE; rw [em_f.2.1, cn]
        have e8 : ∀ j, E 108 j = if j = b + x_cn m then Te c (i + 2 * m) else D 108 j := fun j => by
          subst hE
          rw [em_f.2.2, cn]
          unfold Te
          rw [hu]
        clear hE
        -- behind the TERM
        have b76 : ∀ F : bM, b_fr W_sumC C F → (∀ j, j < b → F 108 j = C 108 j) → Ct c n F (i + 2 * m) → F 4 9 = b + x_cn (m + 1) → Sk c F b i ((m + 1 : Nat) : Int) → b_wp (F_X1_readSum_b76 v F) (Sum.elim (fun s2 : Int × bM => (b_fr W_sumC C s2.2 ∧ (∀ j, j < b → s2.2 108 j = C 108 j) ∧ ∃ m : Nat, s2.1 = m ∧ m ≤ 3 ∧ Sm3 c i m ∧ Ct c n s2.2 (i + 2 * m) ∧ s2.2 4 9 = b + x_cn m ∧ Sk c s2.2 b i m ∧ b + 2 * m ≤ qT c (i + 2 * m)) ∧ (4 - s2.1).toNat < (4 - v).toNat) (Sum.elim (fun _ : bM => False) (fun o : Int × bM => b_fr (W_sumC ++ [(1, some 5), (1, some 6)]) C o.2 ∧ (∀ j, j < b → o.2 108 j = C 108 j) ∧ ∃ a f q, So c i a f q ∧ ((a = 0 ∧ o.1 = 0 ∧ o.2 1 5 = f ∧ o.2 1 6 = q) ∨ ((1 ≤ a ∧ a ≤ 3) ∧ o.1 = 1 ∧ b_fr W_sumC C o.2 ∧ Ct c n o.2 (i + (2 * a - 1).toNat) ∧ o.2 4 9 = b + (2 * a - 1) ∧ Sk c o.2 b i a))))) := by
          intro F g1 g2 g3 g4 g5
          unfold F_X1_readSum_b76
          refine b_Wb (b_wp_m (fun G y => ?_) (t_stepT hB g3 (by omega)))
          obtain ⟨y1, y2⟩ := y
          have yk := b_kp1 y1 (show b_dis W_st [(4, some 9), (108, none)] = true by decide)
          have y8 : ∀ j, G 108 j = F 108 j := fun j => yk 108 j rfl
          have y9 : G 4 9 = F 4 9 := yk 4 9 rfl
          have gF : b_fr W_sumC C G := b_fr_tr g1 (b_fr_mo (by decide) y1)
          have sg : G 1 2 = kT c (i + 2 * m + 1) := y2.2.1.2.1
          refine b_We e_isSign (b_Wi (fun p => b_Ws ?_) (fun p => ?_))
          · refine ⟨b_fr_mo (by decide) gF, fun j hj => by dsimp only; rw [y8]; exact g2 j hj, ((m + 1 : Nat) : Int), 0, 0, ⟨m, m3, sm, Or.inr (Or.inr ⟨z2, m2, fun s => ?_, by omega, rfl, rfl⟩)⟩, Or.inr ⟨by omega, rfl, gF, ?_, ?_, ?_⟩⟩
            · refine b_01_0.mp p ⟨sg.trans s.1, ?_⟩
              rw [y2.2.1.2.2.2 (by rw [show t_k c (t_at c (i + 2 * m + 1)) = 3 from s.1]; decide)]
              exact s.2
            · dsimp only
              rw [show i + (2 * ((m + 1 : Nat) : Int) - 1).toNat = i + 2 * m + 1 by omega]
              exact y2
            · dsimp only
              rw [y9, g4]
              unfold x_cn
              rw [if_neg (by omega)]
            · dsimp only
              exact Sk_c (fun j _ => y8 j) g5
          · have pl := b_01_n p
            have sgn : Sg c (i + 2 * m + 1) 43 := by
              refine ⟨sg.symm.trans pl.1, ?_⟩
              rw [← pl.2]
              exact (y2.2.1.2.2.2 (by rw [show t_k c (t_at c (i + 2 * m + 1)) = 3 from sg.symm.trans pl.1]; decide)).symm
            refine b_Wb (b_wp_m (fun Hh w => ?_) (t_stepT hB y2 (by omega)))
            have w1 := w.1
            have w2 := w.2
            have wk := b_kp1 w1 (show b_dis W_st [(4, some 9), (108, none)] = true by decide)
            refine b_Wg (by omega) (b_Ws ⟨⟨b_fr_tr gF (b_fr_mo (by decide) w1), fun j hj => by dsimp only; rw [wk 108 j rfl, y8]; exact g2 j hj, m + 1, by dsimp only; omega, by omega, fun j hj => ?_, ?_, ?_, ?_, ?_⟩, by dsimp only; omega⟩)
            · by_cases ej : j = m
              · rw [ej]; exact ⟨z2, sgn⟩
              · exact sm j (by omega)
            · dsimp only
              rw [show i + 2 * (m + 1) = i + 2 * m + 1 + 1 by omega]
              exact w2
            · dsimp only
              rw [wk 4 9 rfl, y9, g4]
            · dsimp only
              exact Sk_c (fun j _ => by rw [wk 108 j rfl, y8]) g5
            · have a1 := (qT_s (i := i + 2 * m) hB).2 t0.1
              have a2 := (qT_s (i := i + 2 * m + 1) hB).2 (by rw [sgn.1]; decide)
              rw [show i + 2 * (m + 1) = i + 2 * m + 1 + 1 by omega]
              omega
        refine b_Wi (fun p => ?_) (fun p => ?_)
        · have m0 : m = 0 := by omega
          subst m0
          refine b76 E eF (fun j hj => by rw [e8, if_neg (by have : x_cn 0 = 0 := rfl; omega)]; exact f2 j hj) eC (by rw [e9]; show b + 0 + 1 = b + 1; omega) ⟨fun _ => ?_, fun q => by omega, fun q => by omega⟩
          rw [e8, if_pos (by show b = b + 0; omega), show i + 2 * 0 = i by omega]
        · have xc : x_cn m = 2 * m - 1 := by unfold x_cn; rw [if_neg (by omega)]
          refine b_We (e_emit (by omega)) ?_
          generalize hF : em E 2 0 = F
          have fF : b_fr W_sumC C F := by subst hF; exact b_fr_tr eF em_fr
          have fC : Ct c n F (i + 2 * m) := by subst hF; exact em_ct eC
          have f9 : F 4 9 = b + x_cn m + 2 := by subst hF; rw [em_f.2.1, e9]; omega
          have f8 : ∀ j, F 108 j = if j = b + x_cn m + 1 then x_enc 0 2 else if j = b + x_cn m then Te c (i + 2 * m) else D 108 j := fun j => by
            subst hF
            rw [em_f.2.2, e9, e8]
          clear hF
          refine b76 F fF (fun j hj => by rw [f8, if_neg (by omega), if_neg (by omega)]; exact f2 j hj) fC (by rw [f9, xc]; unfold x_cn; rw [if_neg (by omega)]; omega) ?_
          have cm : m = 1 ∨ m = 2 := by omega
          obtain ⟨k1, k2, k3⟩ := sk
          rcases cm with e | e
          · subst e
            refine ⟨fun _ => ?_, fun _ => ⟨?_, ?_⟩, fun q => by omega⟩
            · rw [f8, if_neg (by omega), if_neg (by omega)]; exact k1 (by decide)
            · rw [f8, if_neg (by omega), if_pos (by omega)]
            · rw [f8, if_pos (by omega)]
          · subst e
            refine ⟨fun _ => ?_, fun _ => ⟨?_, ?_⟩, fun _ => ⟨?_, ?_⟩⟩
            · rw [f8, if_neg (by omega), if_neg (by omega)]; exact k1 (by decide)
            · rw [f8, if_neg (by omega), if_neg (by omega)]; exact (k2 (by decide)).1
            · rw [f8, if_neg (by omega), if_neg (by omega)]; exact (k2 (by decide)).2
            · rw [f8, if_neg (by omega), if_pos (by omega)]
            · rw [f8, if_pos (by omega)]
      rw [s2]
      exact b_Wi (fun p => b56 0 (by rw [if_pos p])) (fun p => b56 1 (by rw [if_neg p]))
    · exact b_Wf (by omega) (bad 4 ⟨m, m3, sm, Or.inr (Or.inl ⟨z2, by omega, rfl, rfl, rfl⟩)⟩)
  · exact b_Wt z1 (bad 1 ⟨m, m3, sm, Or.inl ⟨z2, rfl, rfl, rfl⟩⟩)
