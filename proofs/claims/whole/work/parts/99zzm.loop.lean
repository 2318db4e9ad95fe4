/-! the class's loop over a condition -/
theorem b_bA {α β γ : Type} {x : Option α} {f : α → Option β} {g : β → Option γ} : b_bind (b_bind x f) g = b_bind x (fun a => b_bind (f a) g) := by
  cases x <;> rfl
def Wd (c : Int → Int) (i j : Nat) : Prop := kT c i = 1 ∧ vT c i = kW j
noncomputable def TOP (v j : Int) (C : bM) : Option (bM ⊕ (Int × bM)) := b_loop (fun t : Int × Int × bM => F_X1_readCond_s16 t.1 t.2.1 t.2.2) (v, j, C)
noncomputable def cR (j x : Int) (M : bM) : Option ((Int × Int × bM) ⊕ ((bM) ⊕ (Int × bM))) := b_bind (F_X1_goesOn x M) (fun t => b_two t (fun x13 M14 => if x13 = 0 then (b_bind (F_X1_settleAll x M14) (fun M17 => if x = 0 then (some (.inr (.inr (1, M17)))) else (b_bind (F_X10_wrong 1 M17) (fun t => b_two t (fun x19 M20 => if x19 = 0 then (some (.inr (.inr (0, M20)))) else (some (.inr (.inr (1, M20))))))))) else (b_g (b_i32 (j + 1)) (some (.inl (x, (j + 1), M14))))))
noncomputable def AFT (v m j : Int) (C : bM) : Option (bM ⊕ (Int × bM)) := b_bind (b_loop (fun t : Int × Int × bM => F_X1_closeLevels_s9 t.1 t.2.1 t.2.2) (v, m, C)) (fun t => b_bind (cR j t.1 t.2) (Sum.elim (b_loop (fun t : Int × Int × bM => F_X1_readCond_s16 t.1 t.2.1 t.2.2)) some))
theorem TOP_l {v j w k : Int} {C D : bM} (h : F_X1_readCond_s16 v j C = some (.inl (w, k, D))) : TOP v j C = TOP w k D := by
  unfold TOP
  rw [b_loop_eq]
  dsimp only
  rw [h]
  rfl
theorem TOP_r {v j : Int} {C : bM} {r : bM ⊕ (Int × bM)} (h : F_X1_readCond_s16 v j C = some (.inr r)) : TOP v j C = some r := by
  unfold TOP
  rw [b_loop_eq]
  dsimp only
  rw [h]
  rfl
theorem AFT_l {v m j w k : Int} {C D : bM} (h : F_X1_closeLevels_s9 v m C = some (.inl (w, k, D))) : AFT v m j C = AFT w k j D := by
  unfold AFT
  rw [b_loop_eq]
  dsimp only
  rw [h]
  rfl
theorem AFT_r {v m j : Int} {C : bM} (h : F_X1_closeLevels_s9 v m C = some (.inr (v, C))) : AFT v m j C = b_bind (cR j v C) (Sum.elim (b_loop (fun t : Int × Int × bM => F_X1_readCond_s16 t.1 t.2.1 t.2.2)) some) := by
  unfold AFT
  rw [b_loop_eq]
  dsimp only
  rw [h]
  rfl
theorem w_is {c : Int → Int} {n : Int} {C : bM} {i j : Nat} (h : Ct c n C i) (hj : j < 7) : (C 1 2 = 1 ∧ C 1 4 = C 106 j) ↔ Wd c i (j + 18) := by
  have s2 : C 1 2 = kT c i := h.2.1.2.1
  rw [s2, h.2.2.2.2.2 j hj]
  constructor
  · intro z
    exact ⟨z.1, (h.2.1.2.2.2 (fun e => absurd ((show kT c i = 4 from e).symm.trans z.1) (by decide))).symm.trans z.2⟩
  · intro z
    exact ⟨z.1, (h.2.1.2.2.2 (fun e => absurd ((show kT c i = 4 from e).symm.trans z.1) (by decide))).trans z.2⟩
theorem s_is {c : Int → Int} {n : Int} {C : bM} {i : Nat} {s : Int} (h : Ct c n C i) : (C 1 2 = 3 ∧ C 1 4 = s) ↔ Sg c i s := by
  have s2 : C 1 2 = kT c i := h.2.1.2.1
  rw [s2]
  constructor
  · intro z
    exact ⟨z.1, (h.2.1.2.2.2 (fun e => absurd ((show kT c i = 4 from e).symm.trans z.1) (by decide))).symm.trans z.2⟩
  · intro z
    exact ⟨z.1, (h.2.1.2.2.2 (fun e => absurd ((show kT c i = 4 from e).symm.trans z.1) (by decide))).trans z.2⟩
theorem TOP_not {c : Int → Int} {n v j : Int} {C D : bM} {i : Nat} (h : Ct c n C i) (w : Wd c i 20) (hj : 0 ≤ j ∧ j < 1000) (hv : 0 ≤ v ∧ v < 6) (hs : F_X10_step (b_up C 109 v (i_xor (C 109 v) 1)) = some D) : TOP v j C = TOP v (j + 1) D := by
  refine TOP_l (b_eqn ?_)
  unfold F_X1_readCond_s16
  refine b_Wf (by omega) (b_We e_isWord (b_Wf (fun z => b_01_0.mp z ((w_is (j := 2) h (by decide)).mpr w)) (b_Wg hv (b_Wl (b_We hs (b_Wg (by omega) (b_Ws rfl)))))))
theorem TOP_open {c : Int → Int} {n v j : Int} {C D : bM} {i : Nat} (h : Ct c n C i) (w : Sg c i 40) (hj : 0 ≤ j ∧ j < 1000) (hv : 0 ≤ v ∧ v < 5) (hs : F_X10_step (b_up C 109 (v + 1) 0) = some D) : TOP v j C = TOP (v + 1) (j + 1) D := by
  refine TOP_l (b_eqn ?_)
  unfold F_X1_readCond_s16
  refine b_Wf (by omega) (b_We e_isWord (b_Wt (b_01_0.mpr (fun z => ?_)) (b_We e_isSign (b_Wf (fun z => b_01_0.mp z ((s_is h).mpr w)) (b_Wt hv.2 (b_Wg (by omega) (b_Wl (b_We hs (b_Wg (by omega) (b_Ws rfl))))))))))
  have := ((w_is (j := 2) h (by decide)).mp z).1
  rw [w.1] at this
  exact absurd this (by decide)
theorem TOP_deep {c : Int → Int} {n j : Int} {C : bM} {i : Nat} (h : Ct c n C i) (w : Sg c i 40) (hj : 0 ≤ j ∧ j < 1000) : TOP 5 j C = some (.inr (0, b_up (b_up C 1 5 4) 1 6 (C 1 3))) := by
  refine TOP_r (b_eqn ?_)
  unfold F_X1_readCond_s16
  refine b_Wf (by omega) (b_We e_isWord (b_Wt (b_01_0.mpr (fun z => ?_)) (b_We e_isSign (b_Wf (fun z => b_01_0.mp z ((s_is h).mpr w)) (b_Wf (by decide) (b_We e_wrong (b_Wtwo (b_Wg (Or.inl rfl) (b_Ws rfl)))))))))
  have := ((w_is (j := 2) h (by decide)).mp z).1
  rw [w.1] at this
  exact absurd this (by decide)
theorem TOP_bad {c : Int → Int} {n v j : Int} {C D : bM} {i : Nat} (h : Ct c n C i) (w : ¬ Wd c i 20) (w2 : ¬ Sg c i 40) (hj : 0 ≤ j ∧ j < 1000) (ht : F_X1_readTest C = some (0, D)) : TOP v j C = some (.inr (0, D)) := by
  refine TOP_r (b_eqn ?_)
  unfold F_X1_readCond_s16
  exact b_Wf (by omega) (b_We e_isWord (b_Wt (b_01_0.mpr (fun z => w ((w_is (j := 2) h (by decide)).mp z))) (b_We e_isSign (b_Wt (b_01_0.mpr (fun z => w2 ((s_is h).mp z))) (b_We ht (b_Wtwo (b_Wt rfl (b_Ws rfl))))))))
theorem b_b2 {α β γ : Type} {a : α} {b : β} {f : α → β → Option γ} : b_bind (some (a, b)) (fun t => b_two t f) = f a b := rfl
theorem TOP_test {c : Int → Int} {n v j : Int} {C D E : bM} {i : Nat} (h : Ct c n C i) (w : ¬ Wd c i 20) (w2 : ¬ Sg c i 40) (hj : 0 ≤ j ∧ j < 1000) (ht : F_X1_readTest C = some (1, D)) (hs : F_X1_settleOne v D = some E) : TOP v j C = AFT v 0 j E := by
  have e : F_X1_readCond_s16 v j C = b_bind (b_loop (fun t : Int × Int × bM => F_X1_closeLevels_s9 t.1 t.2.1 t.2.2) (v, 0, E)) (fun t => cR j t.1 t.2) := by
    unfold F_X1_readCond_s16
    rw [if_neg (by omega), e_isWord]
    show (if _ then _ else _) = _
    rw [if_pos (show b_01 (C 1 2 = 1 ∧ C 1 4 = C 106 2) = 0 from b_01_0.mpr (fun z => w ((w_is (j := 2) h (by decide)).mp z))), e_isSign]
    show (if _ then _ else _) = _
    rw [if_pos (b_01_0.mpr (fun z => w2 ((s_is h).mp z))), ht, b_b2, if_neg (show ¬ (1 : Int) = 0 by decide)]
    unfold F_X1_closeLevels
    rw [hs, b_bA, b_bind_s, b_bA]
    rfl
  unfold TOP AFT
  rw [b_loop_eq]
  dsimp only
  rw [e, b_bA]
/-- OR, where one waits -/
noncomputable def stA (v : Int) (C : bM) : bM := if i_and (C 109 v) 4 = 0 then C else em C 7 0
theorem e_settleAll {v : Int} {C : bM} (hv : 0 ≤ v ∧ v < 6) (hb : 0 ≤ C 4 9 ∧ (i_and (C 109 v) 4 = 0 ∨ C 4 9 < 1000)) : F_X1_settleAll v C = some (stA v C) := by
  refine b_eqn ?_
  unfold F_X1_settleAll stA
  refine b_Wg hv (b_Wi (fun z => b_Ws ?_) (fun z => b_We (e_emit ⟨hb.1, hb.2.resolve_left z⟩) (b_Ws ?_)))
  · rw [if_pos z]
  · rw [if_neg z]
theorem i_8 {x : Int} (h : 0 ≤ x ∧ x < 8) : i_and x 1 = x % 2 ∧ i_and x 2 = 2 * (x / 2 % 2) ∧ i_and x 4 = 4 * (x / 4) ∧ i_xor x 1 = x + 1 - 2 * (x % 2) ∧ i_or x 2 = x + 2 - 2 * (x / 2 % 2) ∧ i_or x 4 = x + 4 - 4 * (x / 4) := by
  have g : ∀ y : Fin 8, i_and (y.val : Int) 1 = (y.val : Int) % 2 ∧ i_and (y.val : Int) 2 = 2 * ((y.val : Int) / 2 % 2) ∧ i_and (y.val : Int) 4 = 4 * ((y.val : Int) / 4) ∧ i_xor (y.val : Int) 1 = (y.val : Int) + 1 - 2 * ((y.val : Int) % 2) ∧ i_or (y.val : Int) 2 = (y.val : Int) + 2 - 2 * ((y.val : Int) / 2 % 2) ∧ i_or (y.val : Int) 4 = (y.val : Int) + 4 - 4 * ((y.val : Int) / 4) := by decide +kernel
  have := g ⟨x.toNat, by omega⟩
  rw [show (((⟨x.toNat, by omega⟩ : Fin 8).val : Nat) : Int) = x by show ((x.toNat : Nat) : Int) = x; omega] at this
  exact this
theorem AFT_close {c : Int → Int} {n v m j : Int} {C E D : bM} {i : Nat} (h : Ct c n C i) (w : Sg c i 41) (hv : 1 ≤ v ∧ v < 6) (hm : 0 ≤ m ∧ m < 5) (hb : 0 ≤ C 4 9 ∧ (i_and (C 109 v) 4 = 0 ∨ C 4 9 < 1000)) (hs : F_X1_settleOne (v - 1) (stA v C) = some E) (hd : F_X10_step E = some D) : AFT v m j C = AFT (v - 1) (m + 1) j D := by
  refine AFT_l (b_eqn ?_)
  unfold F_X1_closeLevels_s9
  rw [show v + (-1) = v - 1 by omega]
  exact b_Wf (by omega) (b_Wf (by omega) (b_We e_isSign (b_Wf (fun z => b_01_0.mp z ((s_is h).mpr w)) (b_We (e_settleAll (by omega) hb) (b_Wg (by omega) (b_We hs (b_We hd (b_Wg (by omega) (b_Ws rfl)))))))))
theorem AFT_stay {c : Int → Int} {n v m j : Int} {C : bM} {i : Nat} (h : Ct c n C i) (w : ¬ Sg c i 41 ∨ v ≤ 0) : AFT v m j C = b_bind (cR j v C) (Sum.elim (b_loop (fun t : Int × Int × bM => F_X1_readCond_s16 t.1 t.2.1 t.2.2)) some) := by
  refine AFT_r (b_eqn ?_)
  unfold F_X1_closeLevels_s9
  refine b_Wi (fun z => b_Ws rfl) (fun z => b_Wi (fun z => b_Ws rfl) (fun z2 => b_We e_isSign (b_Wt (b_01_0.mpr (fun y => ?_)) (b_Ws rfl))))
  rcases w with w | w
  · exact w ((s_is h).mp y)
  · omega
theorem AFT_and {c : Int → Int} {n v m j : Int} {C D : bM} {i : Nat} (h : Ct c n C i) (w : Wd c i 19) (hv : 0 ≤ v ∧ v < 6) (hj : 0 ≤ j ∧ j < 1000) (hs : F_X10_step (b_up C 109 v (i_or (C 109 v) 2)) = some D) : AFT v m j C = TOP v (j + 1) D := by
  rw [AFT_stay h (Or.inl (fun z => by have := z.1; rw [w.1] at this; exact absurd this (by decide)))]
  have e : cR j v C = some (.inl (v, j + 1, D)) := by
    refine b_eqn ?_
    unfold cR F_X1_goesOn
    refine b_We (a := (1, D)) (b_eqn ?_) (b_Wtwo (b_Wf (show ¬ (1 : Int) = 0 by decide) (b_Wg (by omega) (b_Ws rfl))))
    exact b_We e_isWord (b_Wf (fun z => b_01_0.mp z ((w_is (j := 1) h (by decide)).mpr w)) (b_Wg hv (b_Wl (b_We hs (b_Ws rfl)))))
  rw [e]
  rfl
theorem Wd_u {c : Int → Int} {i a b : Nat} (h : Wd c i a) (h2 : Wd c i b) (ha : a < 29) (hb : b < 29) : a = b := k_inj a ha b hb (h.2.symm.trans h2.2)
theorem AFT_or {c : Int → Int} {n v m j : Int} {C D : bM} {i : Nat} (h : Ct c n C i) (w : Wd c i 18) (hv : 0 ≤ v ∧ v < 6) (hj : 0 ≤ j ∧ j < 1000) (hb : 0 ≤ C 4 9 ∧ (i_and (C 109 v) 4 = 0 ∨ C 4 9 < 1000)) (hs : F_X10_step (b_up (stA v C) 109 v (i_or (stA v C 109 v) 4)) = some D) : AFT v m j C = TOP v (j + 1) D := by
  rw [AFT_stay h (Or.inl (fun z => by have := z.1; rw [w.1] at this; exact absurd this (by decide)))]
  have e : cR j v C = some (.inl (v, j + 1, D)) := by
    refine b_eqn ?_
    unfold cR F_X1_goesOn
    refine b_We (a := (1, D)) (b_eqn ?_) (b_Wtwo (b_Wf (show ¬ (1 : Int) = 0 by decide) (b_Wg (by omega) (b_Ws rfl))))
    refine b_We e_isWord (b_Wt (b_01_0.mpr (fun z => ?_)) (b_We e_isWord (b_Wf (fun z => b_01_0.mp z ((w_is (j := 0) h (by decide)).mpr w)) (b_We (e_settleAll hv hb) (b_Wg hv (b_Wl (b_We hs (b_Ws rfl))))))))
    exact absurd (Wd_u ((w_is (j := 1) h (by decide)).mp z) w (by decide) (by decide)) (by decide)
  rw [e]
  rfl
theorem AFT_end {c : Int → Int} {n v m j : Int} {C : bM} {i : Nat} (h : Ct c n C i) (w : ¬ Wd c i 18) (w2 : ¬ Wd c i 19) (w3 : ¬ Sg c i 41 ∨ v ≤ 0) (hv : 0 ≤ v ∧ v < 6) (hb : 0 ≤ C 4 9 ∧ (i_and (C 109 v) 4 = 0 ∨ C 4 9 < 1000)) : AFT v m j C = some (.inr (if v = 0 then (1, stA v C) else (0, b_up (b_up (stA v C) 1 5 1) 1 6 (stA v C 1 3)))) := by
  rw [AFT_stay h w3]
  have e : cR j v C = some (.inr (.inr (if v = 0 then (1, stA v C) else (0, b_up (b_up (stA v C) 1 5 1) 1 6 (stA v C 1 3))))) := by
    refine b_eqn ?_
    unfold cR F_X1_goesOn
    refine b_We (a := (0, C)) (b_eqn ?_) (b_Wtwo (b_Wt rfl (b_We (e_settleAll hv hb) (b_Wi (fun z => b_Ws ?_) (fun z => b_We e_wrong (b_Wtwo (b_Wt rfl (b_Ws ?_))))))))
    · exact b_We e_isWord (b_Wt (b_01_0.mpr (fun z => w2 ((w_is (j := 1) h (by decide)).mp z))) (b_We e_isWord (b_Wt (b_01_0.mpr (fun z => w ((w_is (j := 0) h (by decide)).mp z))) (b_Ws rfl))))
    · rw [if_pos z]
    · rw [if_neg z]
  rw [e]
  rfl
