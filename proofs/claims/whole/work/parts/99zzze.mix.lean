/-- class's cells of one memory, reference's cells of another -/
noncomputable def mix (E S : bM) : bM := fun c j => if (c < 162 ∧ c ≠ 11) ∨ c = 1000 then E c j else S c j
theorem mix_c {E S : bM} {c : Nat} {j : Int} (h : (c < 162 ∧ c ≠ 11) ∨ c = 1000) : mix E S c j = E c j := if_pos h
theorem mix_r {E S : bM} {c : Nat} {j : Int} (h : ¬ ((c < 162 ∧ c ≠ 11) ∨ c = 1000)) : mix E S c j = S c j := if_neg h
/-- the class's memory once the ACT is enacted -/
theorem fEn_f {D : bM} {cc : Nat} {d : Int} (h8 : D 4 8 = cc) (hc : 12 ≤ cc ∧ cc < 22) : (∀ (z : Nat) (j : Int), ¬ (z = cc ∧ j = 0) → z ≠ cc + 50 → ¬ (z = 4 ∧ j = 0) → ¬ (z = 1000 ∧ j = ((cc + 50 : Nat) : Int)) → fEn D d z j = D z j) ∧ fEn D d cc 0 = d ∧ fEn D d 4 0 = D 4 0 + 1 ∧ (∀ j, fEn D d (cc + 50) j = if 0 ≤ j ∧ j < D 4 9 then D 108 j else 0) ∧ fEn D d 1000 ((cc + 50 : Nat) : Int) = D 4 9 := by
  have tn : (D 4 8).toNat = cc := by rw [h8]; omega
  have eG : b_G = 1000 := rfl
  unfold fEn Mk Mk0
  rw [tn, eG]
  refine ⟨fun z j h1 h2 h3 h4 => ?_, ?_, b_ups, fun j => ?_, ?_⟩
  · by_cases e : z = 4
    · subst e
      rw [b_upi (fun q => h3 ⟨rfl, q⟩), b_set_n h2, b_upc (by decide), b_set_n h2, b_upc (by omega)]
    · rw [b_upc e, b_set_n h2]
      by_cases e2 : z = 1000
      · subst e2
        rw [b_upi (fun q => h4 ⟨rfl, q⟩), b_set_n h2, b_upc (by omega)]
      · rw [b_upc e2, b_set_n h2]
        by_cases e3 : z = cc
        · subst e3
          rw [b_upi (fun q => h1 ⟨rfl, q⟩)]
        · rw [b_upc e3]
  · rw [b_upc (by omega), b_set_n (by omega), b_upc (by omega), b_set_n (by omega), b_ups]
  · rw [b_upc (by omega), b_set_s]
    unfold s_cpy
    rw [show b_up D cc 0 d 108 = D 108 from funext fun i => b_upc (by omega)]
    by_cases e : 0 ≤ j ∧ j < D 4 9
    · rw [if_pos (by omega), if_pos e, show 0 + (j - 0) = j by omega]
    · rw [if_neg (by omega), if_neg e]
  · rw [b_upc (by decide), b_set_n (by omega), b_ups]
