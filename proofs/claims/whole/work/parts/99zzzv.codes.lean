/-- the class's codes of words, as a row -/
def s_c1 (g : Int → Int) (n k : Nat) (p : Nat × List Int) : Nat × List Int := if g (k : Int) = 32 then (p.1 + 1, p.2) else if p.1 < n then (p.1, p.2.set p.1 (s_wl (p.2.getD p.1 0) (g (k : Int)))) else p
def s_cl (g : Int → Int) (n : Nat) : Nat → Nat × List Int
  | 0 => (0, List.replicate n 0)
  | k + 1 => s_c1 g n k (s_cl g n k)
theorem s_cl_S {g : Int → Int} {n k : Nat} : s_cl g n (k + 1) = s_c1 g n k (s_cl g n k) := rfl
theorem s_cl_cd (g : Int → Int) (n : Nat) : ∀ k : Nat, (s_cd g n k).1 = ((s_cl g n k).1 : Int) ∧ (s_cl g n k).2.length = n ∧ ∀ j : Nat, (s_cd g n k).2 (j : Int) = (s_cl g n k).2.getD j 0 := by
  intro k
  induction k with
  | zero =>
    refine ⟨rfl, by simp [s_cl], fun j => ?_⟩
    show (0 : Int) = (List.replicate n (0 : Int)).getD j 0
    rw [List.getD_eq_getElem?_getD, List.getElem?_replicate]
    split <;> rfl
  | succ k ih =>
    obtain ⟨h1, h2, h3⟩ := ih
    rw [s_cl_S]
    unfold s_cd s_c1
    by_cases c1 : g (k : Int) = 32
    · rw [if_pos c1, if_pos c1]
      exact ⟨by dsimp only; omega, h2, h3⟩
    · rw [if_neg c1, if_neg c1]
      by_cases c2 : (s_cl g n k).1 < n
      · rw [if_pos (by omega), if_pos c2]
        refine ⟨h1, by dsimp only; rw [List.length_set]; exact h2, fun j => ?_⟩
        dsimp only
        rw [List.getD_eq_getElem?_getD, List.getElem?_set]
        by_cases c3 : (j : Int) = (s_cd g n k).1
        · rw [if_pos c3, if_pos (by omega), if_pos (by omega), h1, h3]
          rfl
        · rw [if_neg c3, if_neg (by omega), ← List.getD_eq_getElem?_getD]
          exact h3 j
      · rw [if_neg (by omega), if_neg c2]
        exact ⟨h1, h2, h3⟩
theorem cd0_0 : s_cl s_t0 4 0 = (0, [0, 0, 0, 0]) := rfl
theorem cd0_1 : s_cl s_t0 4 1 = (0, [14, 0, 0, 0]) := by rw [s_cl_S, cd0_0]; decide +kernel
theorem cd0_2 : s_cl s_t0 4 2 = (1, [14, 0, 0, 0]) := by rw [s_cl_S, cd0_1]; decide +kernel
theorem cd0_3 : s_cl s_t0 4 3 = (1, [14, 5, 0, 0]) := by rw [s_cl_S, cd0_2]; decide +kernel
theorem cd0_4 : s_cl s_t0 4 4 = (2, [14, 5, 0, 0]) := by rw [s_cl_S, cd0_3]; decide +kernel
theorem cd0_5 : s_cl s_t0 4 5 = (2, [14, 5, 19, 0]) := by rw [s_cl_S, cd0_4]; decide +kernel
theorem cd0_6 : s_cl s_t0 4 6 = (3, [14, 5, 19, 0]) := by rw [s_cl_S, cd0_5]; decide +kernel
theorem cd0_7 : s_cl s_t0 4 7 = (3, [14, 5, 19, 23]) := by rw [s_cl_S, cd0_6]; decide +kernel
theorem cds0 (j : Nat) : (s_cd s_t0 4 7).2 (j : Int) = ([14, 5, 19, 23] : List Int).getD j 0 := by
  have h := (s_cl_cd s_t0 4 7).2.2 j
  rw [cd0_7, show ((4 : Nat) : Int) = 4 from rfl] at h
  exact h
theorem cd1_0 : s_cl s_t1 11 0 = (0, [0, 0, 0, 0, 0, 0, 0, 0, 0, 0, 0]) := rfl
theorem cd1_1 : s_cl s_t1 11 1 = (0, [12, 0, 0, 0, 0, 0, 0, 0, 0, 0, 0]) := by rw [s_cl_S, cd1_0]; decide +kernel
theorem cd1_2 : s_cl s_t1 11 2 = (0, [389, 0, 0, 0, 0, 0, 0, 0, 0, 0, 0]) := by rw [s_cl_S, cd1_1]; decide +kernel
theorem cd1_3 : s_cl s_t1 11 3 = (0, [12449, 0, 0, 0, 0, 0, 0, 0, 0, 0, 0]) := by rw [s_cl_S, cd1_2]; decide +kernel
theorem cd1_4 : s_cl s_t1 11 4 = (0, [398387, 0, 0, 0, 0, 0, 0, 0, 0, 0, 0]) := by rw [s_cl_S, cd1_3]; decide +kernel
theorem cd1_5 : s_cl s_t1 11 5 = (0, [12748404, 0, 0, 0, 0, 0, 0, 0, 0, 0, 0]) := by rw [s_cl_S, cd1_4]; decide +kernel
theorem cd1_6 : s_cl s_t1 11 6 = (1, [12748404, 0, 0, 0, 0, 0, 0, 0, 0, 0, 0]) := by rw [s_cl_S, cd1_5]; decide +kernel
theorem cd1_7 : s_cl s_t1 11 7 = (1, [12748404, 19, 0, 0, 0, 0, 0, 0, 0, 0, 0]) := by rw [s_cl_S, cd1_6]; decide +kernel
theorem cd1_8 : s_cl s_t1 11 8 = (1, [12748404, 629, 0, 0, 0, 0, 0, 0, 0, 0, 0]) := by rw [s_cl_S, cd1_7]; decide +kernel
theorem cd1_9 : s_cl s_t1 11 9 = (1, [12748404, 20146, 0, 0, 0, 0, 0, 0, 0, 0, 0]) := by rw [s_cl_S, cd1_8]; decide +kernel
theorem cd1_10 : s_cl s_t1 11 10 = (1, [12748404, 644677, 0, 0, 0, 0, 0, 0, 0, 0, 0]) := by rw [s_cl_S, cd1_9]; decide +kernel
theorem cd1_11 : s_cl s_t1 11 11 = (2, [12748404, 644677, 0, 0, 0, 0, 0, 0, 0, 0, 0]) := by rw [s_cl_S, cd1_10]; decide +kernel
theorem cd1_12 : s_cl s_t1 11 12 = (2, [12748404, 644677, 4, 0, 0, 0, 0, 0, 0, 0, 0]) := by rw [s_cl_S, cd1_11]; decide +kernel
theorem cd1_13 : s_cl s_t1 11 13 = (2, [12748404, 644677, 143, 0, 0, 0, 0, 0, 0, 0, 0]) := by rw [s_cl_S, cd1_12]; decide +kernel
theorem cd1_14 : s_cl s_t1 11 14 = (2, [12748404, 644677, 4597, 0, 0, 0, 0, 0, 0, 0, 0]) := by rw [s_cl_S, cd1_13]; decide +kernel
theorem cd1_15 : s_cl s_t1 11 15 = (2, [12748404, 644677, 147106, 0, 0, 0, 0, 0, 0, 0, 0]) := by rw [s_cl_S, cd1_14]; decide +kernel
theorem cd1_16 : s_cl s_t1 11 16 = (2, [12748404, 644677, 4707412, 0, 0, 0, 0, 0, 0, 0, 0]) := by rw [s_cl_S, cd1_15]; decide +kernel
theorem cd1_17 : s_cl s_t1 11 17 = (3, [12748404, 644677, 4707412, 0, 0, 0, 0, 0, 0, 0, 0]) := by rw [s_cl_S, cd1_16]; decide +kernel
theorem cd1_18 : s_cl s_t1 11 18 = (3, [12748404, 644677, 4707412, 7, 0, 0, 0, 0, 0, 0, 0]) := by rw [s_cl_S, cd1_17]; decide +kernel
theorem cd1_19 : s_cl s_t1 11 19 = (3, [12748404, 644677, 4707412, 225, 0, 0, 0, 0, 0, 0, 0]) := by rw [s_cl_S, cd1_18]; decide +kernel
theorem cd1_20 : s_cl s_t1 11 20 = (3, [12748404, 644677, 4707412, 7216, 0, 0, 0, 0, 0, 0, 0]) := by rw [s_cl_S, cd1_19]; decide +kernel
theorem cd1_21 : s_cl s_t1 11 21 = (4, [12748404, 644677, 4707412, 7216, 0, 0, 0, 0, 0, 0, 0]) := by rw [s_cl_S, cd1_20]; decide +kernel
theorem cd1_22 : s_cl s_t1 11 22 = (4, [12748404, 644677, 4707412, 7216, 14, 0, 0, 0, 0, 0, 0]) := by rw [s_cl_S, cd1_21]; decide +kernel
theorem cd1_23 : s_cl s_t1 11 23 = (4, [12748404, 644677, 4707412, 7216, 463, 0, 0, 0, 0, 0, 0]) := by rw [s_cl_S, cd1_22]; decide +kernel
theorem cd1_24 : s_cl s_t1 11 24 = (4, [12748404, 644677, 4707412, 7216, 14836, 0, 0, 0, 0, 0, 0]) := by rw [s_cl_S, cd1_23]; decide +kernel
theorem cd1_25 : s_cl s_t1 11 25 = (4, [12748404, 644677, 4707412, 7216, 474761, 0, 0, 0, 0, 0, 0]) := by rw [s_cl_S, cd1_24]; decide +kernel
theorem cd1_26 : s_cl s_t1 11 26 = (4, [12748404, 644677, 4707412, 7216, 15192355, 0, 0, 0, 0, 0, 0]) := by rw [s_cl_S, cd1_25]; decide +kernel
theorem cd1_27 : s_cl s_t1 11 27 = (4, [12748404, 644677, 4707412, 7216, 486155365, 0, 0, 0, 0, 0, 0]) := by rw [s_cl_S, cd1_26]; decide +kernel
theorem cd1_28 : s_cl s_t1 11 28 = (5, [12748404, 644677, 4707412, 7216, 486155365, 0, 0, 0, 0, 0, 0]) := by rw [s_cl_S, cd1_27]; decide +kernel
theorem cd1_29 : s_cl s_t1 11 29 = (5, [12748404, 644677, 4707412, 7216, 486155365, 12, 0, 0, 0, 0, 0]) := by rw [s_cl_S, cd1_28]; decide +kernel
theorem cd1_30 : s_cl s_t1 11 30 = (5, [12748404, 644677, 4707412, 7216, 486155365, 399, 0, 0, 0, 0, 0]) := by rw [s_cl_S, cd1_29]; decide +kernel
theorem cd1_31 : s_cl s_t1 11 31 = (5, [12748404, 644677, 4707412, 7216, 486155365, 12782, 0, 0, 0, 0, 0]) := by rw [s_cl_S, cd1_30]; decide +kernel
theorem cd1_32 : s_cl s_t1 11 32 = (5, [12748404, 644677, 4707412, 7216, 486155365, 409031, 0, 0, 0, 0, 0]) := by rw [s_cl_S, cd1_31]; decide +kernel
theorem cd1_33 : s_cl s_t1 11 33 = (6, [12748404, 644677, 4707412, 7216, 486155365, 409031, 0, 0, 0, 0, 0]) := by rw [s_cl_S, cd1_32]; decide +kernel
theorem cd1_34 : s_cl s_t1 11 34 = (6, [12748404, 644677, 4707412, 7216, 486155365, 409031, 25, 0, 0, 0, 0]) := by rw [s_cl_S, cd1_33]; decide +kernel
theorem cd1_35 : s_cl s_t1 11 35 = (6, [12748404, 644677, 4707412, 7216, 486155365, 409031, 805, 0, 0, 0, 0]) := by rw [s_cl_S, cd1_34]; decide +kernel
theorem cd1_36 : s_cl s_t1 11 36 = (6, [12748404, 644677, 4707412, 7216, 486155365, 409031, 25761, 0, 0, 0, 0]) := by rw [s_cl_S, cd1_35]; decide +kernel
theorem cd1_37 : s_cl s_t1 11 37 = (6, [12748404, 644677, 4707412, 7216, 486155365, 409031, 824370, 0, 0, 0, 0]) := by rw [s_cl_S, cd1_36]; decide +kernel
theorem cd1_38 : s_cl s_t1 11 38 = (6, [12748404, 644677, 4707412, 7216, 486155365, 409031, 26379859, 0, 0, 0, 0]) := by rw [s_cl_S, cd1_37]; decide +kernel
theorem cd1_39 : s_cl s_t1 11 39 = (7, [12748404, 644677, 4707412, 7216, 486155365, 409031, 26379859, 0, 0, 0, 0]) := by rw [s_cl_S, cd1_38]; decide +kernel
theorem cd1_40 : s_cl s_t1 11 40 = (7, [12748404, 644677, 4707412, 7216, 486155365, 409031, 26379859, 15, 0, 0, 0]) := by rw [s_cl_S, cd1_39]; decide +kernel
theorem cd1_41 : s_cl s_t1 11 41 = (7, [12748404, 644677, 4707412, 7216, 486155365, 409031, 26379859, 481, 0, 0, 0]) := by rw [s_cl_S, cd1_40]; decide +kernel
theorem cd1_42 : s_cl s_t1 11 42 = (7, [12748404, 644677, 4707412, 7216, 486155365, 409031, 26379859, 15412, 0, 0, 0]) := by rw [s_cl_S, cd1_41]; decide +kernel
theorem cd1_43 : s_cl s_t1 11 43 = (7, [12748404, 644677, 4707412, 7216, 486155365, 409031, 26379859, 493192, 0, 0, 0]) := by rw [s_cl_S, cd1_42]; decide +kernel
theorem cd1_44 : s_cl s_t1 11 44 = (7, [12748404, 644677, 4707412, 7216, 486155365, 409031, 26379859, 15782163, 0, 0, 0]) := by rw [s_cl_S, cd1_43]; decide +kernel
theorem cd1_45 : s_cl s_t1 11 45 = (8, [12748404, 644677, 4707412, 7216, 486155365, 409031, 26379859, 15782163, 0, 0, 0]) := by rw [s_cl_S, cd1_44]; decide +kernel
theorem cd1_46 : s_cl s_t1 11 46 = (8, [12748404, 644677, 4707412, 7216, 486155365, 409031, 26379859, 15782163, 8, 0, 0]) := by rw [s_cl_S, cd1_45]; decide +kernel
theorem cd1_47 : s_cl s_t1 11 47 = (8, [12748404, 644677, 4707412, 7216, 486155365, 409031, 26379859, 15782163, 261, 0, 0]) := by rw [s_cl_S, cd1_46]; decide +kernel
theorem cd1_48 : s_cl s_t1 11 48 = (8, [12748404, 644677, 4707412, 7216, 486155365, 409031, 26379859, 15782163, 8361, 0, 0]) := by rw [s_cl_S, cd1_47]; decide +kernel
theorem cd1_49 : s_cl s_t1 11 49 = (8, [12748404, 644677, 4707412, 7216, 486155365, 409031, 26379859, 15782163, 267570, 0, 0]) := by rw [s_cl_S, cd1_48]; decide +kernel
theorem cd1_50 : s_cl s_t1 11 50 = (8, [12748404, 644677, 4707412, 7216, 486155365, 409031, 26379859, 15782163, 8562259, 0, 0]) := by rw [s_cl_S, cd1_49]; decide +kernel
theorem cd1_51 : s_cl s_t1 11 51 = (9, [12748404, 644677, 4707412, 7216, 486155365, 409031, 26379859, 15782163, 8562259, 0, 0]) := by rw [s_cl_S, cd1_50]; decide +kernel
theorem cd1_52 : s_cl s_t1 11 52 = (9, [12748404, 644677, 4707412, 7216, 486155365, 409031, 26379859, 15782163, 8562259, 6, 0]) := by rw [s_cl_S, cd1_51]; decide +kernel
theorem cd1_53 : s_cl s_t1 11 53 = (9, [12748404, 644677, 4707412, 7216, 486155365, 409031, 26379859, 15782163, 8562259, 213, 0]) := by rw [s_cl_S, cd1_52]; decide +kernel
theorem cd1_54 : s_cl s_t1 11 54 = (9, [12748404, 644677, 4707412, 7216, 486155365, 409031, 26379859, 15782163, 8562259, 6830, 0]) := by rw [s_cl_S, cd1_53]; decide +kernel
theorem cd1_55 : s_cl s_t1 11 55 = (9, [12748404, 644677, 4707412, 7216, 486155365, 409031, 26379859, 15782163, 8562259, 218564, 0]) := by rw [s_cl_S, cd1_54]; decide +kernel
theorem cd1_56 : s_cl s_t1 11 56 = (10, [12748404, 644677, 4707412, 7216, 486155365, 409031, 26379859, 15782163, 8562259, 218564, 0]) := by rw [s_cl_S, cd1_55]; decide +kernel
theorem cd1_57 : s_cl s_t1 11 57 = (10, [12748404, 644677, 4707412, 7216, 486155365, 409031, 26379859, 15782163, 8562259, 218564, 16]) := by rw [s_cl_S, cd1_56]; decide +kernel
theorem cd1_58 : s_cl s_t1 11 58 = (10, [12748404, 644677, 4707412, 7216, 486155365, 409031, 26379859, 15782163, 8562259, 218564, 530]) := by rw [s_cl_S, cd1_57]; decide +kernel
theorem cd1_59 : s_cl s_t1 11 59 = (10, [12748404, 644677, 4707412, 7216, 486155365, 409031, 26379859, 15782163, 8562259, 218564, 16975]) := by rw [s_cl_S, cd1_58]; decide +kernel
theorem cd1_60 : s_cl s_t1 11 60 = (10, [12748404, 644677, 4707412, 7216, 486155365, 409031, 26379859, 15782163, 8562259, 218564, 543215]) := by rw [s_cl_S, cd1_59]; decide +kernel
theorem cd1_61 : s_cl s_t1 11 61 = (10, [12748404, 644677, 4707412, 7216, 486155365, 409031, 26379859, 15782163, 8562259, 218564, 17382886]) := by rw [s_cl_S, cd1_60]; decide +kernel
theorem cds1 (j : Nat) : (s_cd s_t1 11 61).2 (j : Int) = ([12748404, 644677, 4707412, 7216, 486155365, 409031, 26379859, 15782163, 8562259, 218564, 17382886] : List Int).getD j 0 := by
  have h := (s_cl_cd s_t1 11 61).2.2 j
  rw [cd1_61, show ((11 : Nat) : Int) = 11 from rfl] at h
  exact h
theorem cd2_0 : s_cl s_t2 7 0 = (0, [0, 0, 0, 0, 0, 0, 0]) := rfl
theorem cd2_1 : s_cl s_t2 7 1 = (0, [4, 0, 0, 0, 0, 0, 0]) := by rw [s_cl_S, cd2_0]; decide +kernel
theorem cd2_2 : s_cl s_t2 7 2 = (0, [133, 0, 0, 0, 0, 0, 0]) := by rw [s_cl_S, cd2_1]; decide +kernel
theorem cd2_3 : s_cl s_t2 7 3 = (0, [4261, 0, 0, 0, 0, 0, 0]) := by rw [s_cl_S, cd2_2]; decide +kernel
theorem cd2_4 : s_cl s_t2 7 4 = (0, [136356, 0, 0, 0, 0, 0, 0]) := by rw [s_cl_S, cd2_3]; decide +kernel
theorem cd2_5 : s_cl s_t2 7 5 = (1, [136356, 0, 0, 0, 0, 0, 0]) := by rw [s_cl_S, cd2_4]; decide +kernel
theorem cd2_6 : s_cl s_t2 7 6 = (1, [136356, 3, 0, 0, 0, 0, 0]) := by rw [s_cl_S, cd2_5]; decide +kernel
theorem cd2_7 : s_cl s_t2 7 7 = (1, [136356, 111, 0, 0, 0, 0, 0]) := by rw [s_cl_S, cd2_6]; decide +kernel
theorem cd2_8 : s_cl s_t2 7 8 = (1, [136356, 3568, 0, 0, 0, 0, 0]) := by rw [s_cl_S, cd2_7]; decide +kernel
theorem cd2_9 : s_cl s_t2 7 9 = (1, [136356, 114201, 0, 0, 0, 0, 0]) := by rw [s_cl_S, cd2_8]; decide +kernel
theorem cd2_10 : s_cl s_t2 7 10 = (2, [136356, 114201, 0, 0, 0, 0, 0]) := by rw [s_cl_S, cd2_9]; decide +kernel
theorem cd2_11 : s_cl s_t2 7 11 = (2, [136356, 114201, 9, 0, 0, 0, 0]) := by rw [s_cl_S, cd2_10]; decide +kernel
theorem cd2_12 : s_cl s_t2 7 12 = (2, [136356, 114201, 302, 0, 0, 0, 0]) := by rw [s_cl_S, cd2_11]; decide +kernel
theorem cd2_13 : s_cl s_t2 7 13 = (2, [136356, 114201, 9668, 0, 0, 0, 0]) := by rw [s_cl_S, cd2_12]; decide +kernel
theorem cd2_14 : s_cl s_t2 7 14 = (2, [136356, 114201, 309381, 0, 0, 0, 0]) := by rw [s_cl_S, cd2_13]; decide +kernel
theorem cd2_15 : s_cl s_t2 7 15 = (2, [136356, 114201, 9900216, 0, 0, 0, 0]) := by rw [s_cl_S, cd2_14]; decide +kernel
theorem cd2_16 : s_cl s_t2 7 16 = (3, [136356, 114201, 9900216, 0, 0, 0, 0]) := by rw [s_cl_S, cd2_15]; decide +kernel
theorem cd2_17 : s_cl s_t2 7 17 = (3, [136356, 114201, 9900216, 15, 0, 0, 0]) := by rw [s_cl_S, cd2_16]; decide +kernel
theorem cd2_18 : s_cl s_t2 7 18 = (3, [136356, 114201, 9900216, 481, 0, 0, 0]) := by rw [s_cl_S, cd2_17]; decide +kernel
theorem cd2_19 : s_cl s_t2 7 19 = (3, [136356, 114201, 9900216, 15412, 0, 0, 0]) := by rw [s_cl_S, cd2_18]; decide +kernel
theorem cd2_20 : s_cl s_t2 7 20 = (3, [136356, 114201, 9900216, 493192, 0, 0, 0]) := by rw [s_cl_S, cd2_19]; decide +kernel
theorem cd2_21 : s_cl s_t2 7 21 = (4, [136356, 114201, 9900216, 493192, 0, 0, 0]) := by rw [s_cl_S, cd2_20]; decide +kernel
theorem cd2_22 : s_cl s_t2 7 22 = (4, [136356, 114201, 9900216, 493192, 20, 0, 0]) := by rw [s_cl_S, cd2_21]; decide +kernel
theorem cd2_23 : s_cl s_t2 7 23 = (4, [136356, 114201, 9900216, 493192, 641, 0, 0]) := by rw [s_cl_S, cd2_22]; decide +kernel
theorem cd2_24 : s_cl s_t2 7 24 = (4, [136356, 114201, 9900216, 493192, 20536, 0, 0]) := by rw [s_cl_S, cd2_23]; decide +kernel
theorem cd2_25 : s_cl s_t2 7 25 = (5, [136356, 114201, 9900216, 493192, 20536, 0, 0]) := by rw [s_cl_S, cd2_24]; decide +kernel
theorem cd2_26 : s_cl s_t2 7 26 = (5, [136356, 114201, 9900216, 493192, 20536, 16, 0]) := by rw [s_cl_S, cd2_25]; decide +kernel
theorem cd2_27 : s_cl s_t2 7 27 = (5, [136356, 114201, 9900216, 493192, 20536, 524, 0]) := by rw [s_cl_S, cd2_26]; decide +kernel
theorem cd2_28 : s_cl s_t2 7 28 = (5, [136356, 114201, 9900216, 493192, 20536, 16769, 0]) := by rw [s_cl_S, cd2_27]; decide +kernel
theorem cd2_29 : s_cl s_t2 7 29 = (5, [136356, 114201, 9900216, 493192, 20536, 536628, 0]) := by rw [s_cl_S, cd2_28]; decide +kernel
theorem cd2_30 : s_cl s_t2 7 30 = (5, [136356, 114201, 9900216, 493192, 20536, 17172101, 0]) := by rw [s_cl_S, cd2_29]; decide +kernel
theorem cd2_31 : s_cl s_t2 7 31 = (6, [136356, 114201, 9900216, 493192, 20536, 17172101, 0]) := by rw [s_cl_S, cd2_30]; decide +kernel
theorem cd2_32 : s_cl s_t2 7 32 = (6, [136356, 114201, 9900216, 493192, 20536, 17172101, 1]) := by rw [s_cl_S, cd2_31]; decide +kernel
theorem cd2_33 : s_cl s_t2 7 33 = (6, [136356, 114201, 9900216, 493192, 20536, 17172101, 34]) := by rw [s_cl_S, cd2_32]; decide +kernel
theorem cd2_34 : s_cl s_t2 7 34 = (6, [136356, 114201, 9900216, 493192, 20536, 17172101, 1107]) := by rw [s_cl_S, cd2_33]; decide +kernel
theorem cd2_35 : s_cl s_t2 7 35 = (6, [136356, 114201, 9900216, 493192, 20536, 17172101, 35444]) := by rw [s_cl_S, cd2_34]; decide +kernel
theorem cd2_36 : s_cl s_t2 7 36 = (6, [136356, 114201, 9900216, 493192, 20536, 17172101, 1134226]) := by rw [s_cl_S, cd2_35]; decide +kernel
theorem cd2_37 : s_cl s_t2 7 37 = (6, [136356, 114201, 9900216, 493192, 20536, 17172101, 36295233]) := by rw [s_cl_S, cd2_36]; decide +kernel
theorem cd2_38 : s_cl s_t2 7 38 = (6, [136356, 114201, 9900216, 493192, 20536, 17172101, 1161447459]) := by rw [s_cl_S, cd2_37]; decide +kernel
theorem cd2_39 : s_cl s_t2 7 39 = (6, [136356, 114201, 9900216, 493192, 20536, 17172101, 37166318708]) := by rw [s_cl_S, cd2_38]; decide +kernel
theorem cds2 (j : Nat) : (s_cd s_t2 7 39).2 (j : Int) = ([136356, 114201, 9900216, 493192, 20536, 17172101, 37166318708] : List Int).getD j 0 := by
  have h := (s_cl_cd s_t2 7 39).2.2 j
  rw [cd2_39, show ((7 : Nat) : Int) = 7 from rfl] at h
  exact h
theorem cd3_0 : s_cl s_t3 7 0 = (0, [0, 0, 0, 0, 0, 0, 0]) := rfl
theorem cd3_1 : s_cl s_t3 7 1 = (0, [15, 0, 0, 0, 0, 0, 0]) := by rw [s_cl_S, cd3_0]; decide +kernel
theorem cd3_2 : s_cl s_t3 7 2 = (0, [498, 0, 0, 0, 0, 0, 0]) := by rw [s_cl_S, cd3_1]; decide +kernel
theorem cd3_3 : s_cl s_t3 7 3 = (1, [498, 0, 0, 0, 0, 0, 0]) := by rw [s_cl_S, cd3_2]; decide +kernel
theorem cd3_4 : s_cl s_t3 7 4 = (1, [498, 1, 0, 0, 0, 0, 0]) := by rw [s_cl_S, cd3_3]; decide +kernel
theorem cd3_5 : s_cl s_t3 7 5 = (1, [498, 46, 0, 0, 0, 0, 0]) := by rw [s_cl_S, cd3_4]; decide +kernel
theorem cd3_6 : s_cl s_t3 7 6 = (1, [498, 1476, 0, 0, 0, 0, 0]) := by rw [s_cl_S, cd3_5]; decide +kernel
theorem cd3_7 : s_cl s_t3 7 7 = (2, [498, 1476, 0, 0, 0, 0, 0]) := by rw [s_cl_S, cd3_6]; decide +kernel
theorem cd3_8 : s_cl s_t3 7 8 = (2, [498, 1476, 14, 0, 0, 0, 0]) := by rw [s_cl_S, cd3_7]; decide +kernel
theorem cd3_9 : s_cl s_t3 7 9 = (2, [498, 1476, 463, 0, 0, 0, 0]) := by rw [s_cl_S, cd3_8]; decide +kernel
theorem cd3_10 : s_cl s_t3 7 10 = (2, [498, 1476, 14836, 0, 0, 0, 0]) := by rw [s_cl_S, cd3_9]; decide +kernel
theorem cd3_11 : s_cl s_t3 7 11 = (3, [498, 1476, 14836, 0, 0, 0, 0]) := by rw [s_cl_S, cd3_10]; decide +kernel
theorem cd3_12 : s_cl s_t3 7 12 = (3, [498, 1476, 14836, 1, 0, 0, 0]) := by rw [s_cl_S, cd3_11]; decide +kernel
theorem cd3_13 : s_cl s_t3 7 13 = (3, [498, 1476, 14836, 34, 0, 0, 0]) := by rw [s_cl_S, cd3_12]; decide +kernel
theorem cd3_14 : s_cl s_t3 7 14 = (3, [498, 1476, 14836, 1103, 0, 0, 0]) := by rw [s_cl_S, cd3_13]; decide +kernel
theorem cd3_15 : s_cl s_t3 7 15 = (3, [498, 1476, 14836, 35318, 0, 0, 0]) := by rw [s_cl_S, cd3_14]; decide +kernel
theorem cd3_16 : s_cl s_t3 7 16 = (3, [498, 1476, 14836, 1130181, 0, 0, 0]) := by rw [s_cl_S, cd3_15]; decide +kernel
theorem cd3_17 : s_cl s_t3 7 17 = (4, [498, 1476, 14836, 1130181, 0, 0, 0]) := by rw [s_cl_S, cd3_16]; decide +kernel
theorem cd3_18 : s_cl s_t3 7 18 = (4, [498, 1476, 14836, 1130181, 2, 0, 0]) := by rw [s_cl_S, cd3_17]; decide +kernel
theorem cd3_19 : s_cl s_t3 7 19 = (4, [498, 1476, 14836, 1130181, 69, 0, 0]) := by rw [s_cl_S, cd3_18]; decide +kernel
theorem cd3_20 : s_cl s_t3 7 20 = (4, [498, 1476, 14836, 1130181, 2220, 0, 0]) := by rw [s_cl_S, cd3_19]; decide +kernel
theorem cd3_21 : s_cl s_t3 7 21 = (4, [498, 1476, 14836, 1130181, 71055, 0, 0]) := by rw [s_cl_S, cd3_20]; decide +kernel
theorem cd3_22 : s_cl s_t3 7 22 = (4, [498, 1476, 14836, 1130181, 2273783, 0, 0]) := by rw [s_cl_S, cd3_21]; decide +kernel
theorem cd3_23 : s_cl s_t3 7 23 = (5, [498, 1476, 14836, 1130181, 2273783, 0, 0]) := by rw [s_cl_S, cd3_22]; decide +kernel
theorem cd3_24 : s_cl s_t3 7 24 = (5, [498, 1476, 14836, 1130181, 2273783, 9, 0]) := by rw [s_cl_S, cd3_23]; decide +kernel
theorem cd3_25 : s_cl s_t3 7 25 = (5, [498, 1476, 14836, 1130181, 2273783, 307, 0]) := by rw [s_cl_S, cd3_24]; decide +kernel
theorem cd3_26 : s_cl s_t3 7 26 = (6, [498, 1476, 14836, 1130181, 2273783, 307, 0]) := by rw [s_cl_S, cd3_25]; decide +kernel
theorem cd3_27 : s_cl s_t3 7 27 = (6, [498, 1476, 14836, 1130181, 2273783, 307, 23]) := by rw [s_cl_S, cd3_26]; decide +kernel
theorem cd3_28 : s_cl s_t3 7 28 = (6, [498, 1476, 14836, 1130181, 2273783, 307, 744]) := by rw [s_cl_S, cd3_27]; decide +kernel
theorem cd3_29 : s_cl s_t3 7 29 = (6, [498, 1476, 14836, 1130181, 2273783, 307, 23813]) := by rw [s_cl_S, cd3_28]; decide +kernel
theorem cd3_30 : s_cl s_t3 7 30 = (6, [498, 1476, 14836, 1130181, 2273783, 307, 762030]) := by rw [s_cl_S, cd3_29]; decide +kernel
theorem cds3 (j : Nat) : (s_cd s_t3 7 30).2 (j : Int) = ([498, 1476, 14836, 1130181, 2273783, 307, 762030] : List Int).getD j 0 := by
  have h := (s_cl_cd s_t3 7 30).2.2 j
  rw [cd3_30, show ((7 : Nat) : Int) = 7 from rfl] at h
  exact h
