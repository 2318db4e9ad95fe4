theorem l_m_o {x d g : Int} {N : bM} {c : Nat} (h : c ∉ [11, 169, 170, 174]) : l_m x d g N c = N c := by
  simp only [List.mem_cons, List.not_mem_nil, or_false, not_or] at h
  unfold l_m
  rw [b_upF h.1, b_upF h.2.2.2, b_upF h.2.2.1, b_upF h.2.1]
theorem l_ms_o {d g : Int} {c : Nat} (h : c ∉ [11, 169, 170, 174]) : ∀ (xs : List Int) {N : bM}, l_ms d g xs N c = N c := by
  intro xs
  induction xs with
  | nil => intro N; rfl
  | cons x xs ih =>
    intro N
    show l_ms d g xs (l_m x d g N) c = _
    rw [ih, l_m_o h]
def l_xs (n a b c d : Int) : List Int := if n = 2 then [a, b] else if n = 3 then [a, b, c] else [a, b, c, d]
def l_sm (n a b c d : Int) : Int := if n = 2 then a + b else if n = 3 then a + b + c else a + b + c + d
theorem e_msplit {l day n a b c d : Int} {N : bM} (hv : ((0 ≤ l ∧ l < N 11 20) ∧ (0 ≤ day ∧ day ≤ 9999) ∧ (2 ≤ n ∧ n ≤ 4) ∧ b_ft a ∧ b_ft b ∧ (n ≤ 2 ∨ b_ft c) ∧ (n ≤ 3 ∨ b_ft d))) (hs : N 11 20 ≤ 60) (hr : 1 ≤ N 169 l ∧ N 169 l ≤ 999999) : F_X12_split l day n a b c d N = if day < N 170 l then some (-4, N) else if N 171 l = -1 then (if N 11 20 + n ≤ 60 then some (N 11 20, l_ms day (N 174 l) (l_xs n a b c d) (b_up (b_up N 171 l day) 172 l (N 169 l - l_sm n a b c d))) else some (-3, N)) else some (-4, N) := by
  obtain ⟨v1, v2, v3, v4, v5, v6, v7⟩ := hv
  have hn : n = 2 ∨ n = 3 ∨ n = 4 := by omega
  rcases hn with rfl | rfl | rfl
  · rw [e_m2 v1 hs v2 hr v4 v5, show N 169 l - a - b - 0 - 0 = N 169 l - (a + b) by omega]; rfl
  · rw [e_m3 v1 hs v2 hr v4 v5 (v6.resolve_left (by omega)), show N 169 l - a - b - c - 0 = N 169 l - (a + b + c) by omega]; rfl
  · rw [e_m4 v1 hs v2 hr v4 v5 (v6.resolve_left (by omega)) (v7.resolve_left (by omega)), show N 169 l - a - b - c - d = N 169 l - (a + b + c + d) by omega]; rfl
theorem e_cdiv {l day n a b c d : Int} {M : bM} (hv : ((0 ≤ l ∧ l < M 3 0) ∧ (0 ≤ day ∧ day ≤ 9999) ∧ (2 ≤ n ∧ n ≤ 4) ∧ b_ft a ∧ b_ft b ∧ (n ≤ 2 ∨ b_ft c) ∧ (n ≤ 3 ∨ b_ft d))) (hn : M 3 0 + n ≤ 60) (hr : 1 ≤ M 86 l ∧ M 86 l ≤ 999999) (h0 : M 99 0 = a) (h1 : M 99 1 = b) (h2 : M 99 2 = c) (h3 : M 99 3 = d) : F_X5_divide l day n M = some (M 3 0, b_up (b_up (l_cs day (M 91 l) (l_xs n a b c d) M) 88 l day) 89 l (M 86 l - l_sm n a b c d)) := by
  obtain ⟨v1, v2, v3, v4, v5, v6, v7⟩ := hv
  subst h0 h1 h2 h3
  have hq : n = 2 ∨ n = 3 ∨ n = 4 := by omega
  rcases hq with rfl | rfl | rfl
  · rw [e_div2 v1 hn hr v4 v5, show 0 + M 99 0 + M 99 1 = M 99 0 + M 99 1 by omega]; rfl
  · rw [e_div3 v1 hn hr v4 v5 (v6.resolve_left (by omega)), show 0 + M 99 0 + M 99 1 + M 99 2 = M 99 0 + M 99 1 + M 99 2 by omega]; rfl
  · rw [e_div4 v1 hn hr v4 v5 (v6.resolve_left (by omega)) (v7.resolve_left (by omega)), show 0 + M 99 0 + M 99 1 + M 99 2 + M 99 3 = M 99 0 + M 99 1 + M 99 2 + M 99 3 by omega]; rfl
theorem R_lots_e {M M2 : bM} (h3 : M2 3 = M 3) (h11 : M2 11 = M 11) (hc : ∀ c ∈ [86, 87, 88, 89, 90, 91, 92, 93], M2 c = M c) (hn : ∀ c ∈ [169, 170, 171, 172, 173, 174, 217, 218], M2 c = M c) (h : R_lots M) : R_lots M2 := R_lots2_c (by rw [h3]) hc (by rw [h11]) hn h
theorem op_split {M : bM} {l day n a b c d : Int} (hlots : R_lots M) : b_wp (F_X11_split l day n a b c d M) (fun o => b_wp (F_X12_split l day n a b c d o.2) (fun o2 => o.1 = o2.1 ∧ R_lots o2.2)) := by
  have h_ := hlots
  unfold R_lots at h_
  obtain ⟨⟨l1, l2, l3⟩, ⟨f1, f2, f3, f4, f5, f6⟩, hl, hm⟩ := h_
  have k4 : ∀ z, z ≠ 99 → l_4 a b c d M z = M z := fun z hz => l_4_o hz
  have hR4 : R_lots (l_4 a b c d M) := R_lots_e (k4 _ (by decide)) (k4 _ (by decide)) (fun z hz => k4 z (by intro q; subst q; exact absurd hz (by decide))) (fun z hz => k4 z (by intro q; subst q; exact absurd hz (by decide))) hlots
  rcases e_csplit (l := l) (day := day) (n := n) (a := a) (b := b) (c := c) (d := d) (M := M) ⟨l2, l3⟩ (fun q => (hl l q.1 q.2).2.1) with ⟨hv, M2, hF, hM2⟩ | ⟨hv, H⟩
  · rw [hF]
    refine b_Ws ?_
    dsimp only
    have h11 : M2 11 = M 11 := by
      rcases hM2 with rfl | rfl
      · rfl
      · exact k4 _ (by decide)
    have hRM : R_lots M2 := by
      rcases hM2 with rfl | rfl
      · exact hlots
      · exact hR4
    rw [e_minv (by rw [h11]; omega) (by rw [h11, l1]; exact hv)]
    exact b_Ws ⟨rfl, hRM⟩
  · obtain ⟨g1, g2⟩ := hl l hv.1.1 hv.1.2
    rcases H with ⟨q, hF⟩ | ⟨q, ⟨r, hF⟩ | ⟨r, hF⟩⟩
    · rw [hF]
      refine b_Ws ?_
      dsimp only
      rw [e_msplit (by rw [k4 11 (by decide), l1]; exact hv) (by rw [k4 11 (by decide)]; omega) (by rw [k4 169 (by decide), f1]; omega), k4 170 (by decide), k4 171 (by decide), f2]
      by_cases q1 : day < M 87 l
      · rw [if_pos q1]; exact b_Ws ⟨rfl, hR4⟩
      · rw [if_neg q1, if_neg (by omega)]; exact b_Ws ⟨rfl, hR4⟩
    · rw [hF]
      refine b_Ws ?_
      dsimp only
      rw [e_msplit (by rw [k4 11 (by decide), l1]; exact hv) (by rw [k4 11 (by decide)]; omega) (by rw [k4 169 (by decide), f1]; omega), k4 170 (by decide), k4 171 (by decide), k4 11 (by decide), f2, if_neg (by omega), if_pos (by omega), if_neg (by omega)]
      exact b_Ws ⟨rfl, hR4⟩
    · obtain ⟨z0, z1, z2, z3⟩ := l_4_0 (a := a) (b := b) (c := c) (d := d) (M := M)
      have k5 : ∀ z, z ≠ 99 → z ≠ 6 → b_up (l_4 a b c d M) 6 5 0 z = M z := fun z hz h6 => by rw [b_upF h6, k4 z hz]
      have hq := hv
      rw [hF, e_cdiv (l := l) (day := day) (n := n) (a := a) (b := b) (c := c) (d := d) (by rw [k5 3 (by decide) (by decide)]; exact hv) (by rw [k5 3 (by decide) (by decide)]; exact r) (by rw [k5 86 (by decide) (by decide)]; omega) (by rw [b_upc (by decide), z0]) (by rw [b_upc (by decide), z1]) (by rw [b_upc (by decide), z2]) (by rw [b_upc (by decide), z3])]
      refine b_Ws ?_
      dsimp only
      rw [k5 3 (by decide) (by decide), k5 86 (by decide) (by decide), k5 91 (by decide) (by decide)]
      rw [l_cs_end _ (by rw [k5 3 (by decide) (by decide)]; omega), l_cs_lack]
      generalize hM' : b_up (l_4 a b c d M) 6 5 0 = M' at *
      generalize hs : l_sm n a b c d = s at *
      have hx : ∀ x ∈ l_xs n a b c d, 1 ≤ x ∧ x ≤ 999999 := by
        obtain ⟨v1, v2, v3, v4, v5, v6, v7⟩ := hq
        unfold l_xs
        intro x hx
        split at hx
        · simp only [List.mem_cons, List.not_mem_nil, or_false] at hx; rcases hx with rfl | rfl <;> assumption
        · split at hx
          · simp only [List.mem_cons, List.not_mem_nil, or_false] at hx; rcases hx with rfl | rfl | rfl <;> first | assumption | exact v6.resolve_left (by omega)
          · simp only [List.mem_cons, List.not_mem_nil, or_false] at hx; rcases hx with rfl | rfl | rfl | rfl <;> first | assumption | exact v6.resolve_left (by omega) | exact v7.resolve_left (by omega)
      have hlen : ((l_xs n a b c d).length : Int) = n := by
        have hn : n = 2 ∨ n = 3 ∨ n = 4 := by have := hq.2.2.1; omega
        rcases hn with rfl | rfl | rfl <;> rfl
      generalize hC : l_cs day (M 91 l) (l_xs n a b c d) (b_up (b_up M' 88 l day) 89 l (M 86 l - s)) = C
      have kC : ∀ z, z ∉ [3, 86, 87, 88, 91, 92] → z ≠ 89 → z ≠ 99 → z ≠ 6 → C z = M z := fun z h1 h2 h3 h4 => by
        rw [← hC, l_cs_o h1, b_upF h2, b_upF (by intro e; subst e; exact absurd h1 (by decide)), k5 z h3 h4]
      rw [e_msplit (N := C) (by rw [kC 11 (by decide) (by decide) (by decide) (by decide), l1]; exact hv) (by rw [kC 11 (by decide) (by decide) (by decide) (by decide)]; omega) (by rw [kC 169 (by decide) (by decide) (by decide) (by decide), f1]; omega), kC 170 (by decide) (by decide) (by decide) (by decide), f2, if_neg (by omega), kC 171 (by decide) (by decide) (by decide) (by decide), if_pos (by omega), kC 11 (by decide) (by decide) (by decide) (by decide), if_pos (by omega), kC 174 (by decide) (by decide) (by decide) (by decide), kC 169 (by decide) (by decide) (by decide) (by decide), f1, f5, hs]
      refine b_Ws ⟨by dsimp only; omega, ?_⟩
      dsimp only
      have hA : R_lots2 M' C := R_lots2_c (by rw [k5 3 (by decide) (by decide)]) (fun z hz => k5 z (by intro e; subst e; exact absurd hz (by decide)) (by intro e; subst e; exact absurd hz (by decide))) (by rw [kC 11 (by decide) (by decide) (by decide) (by decide)]) (fun z hz => kC z (by intro e; revert hz; simp only [List.mem_cons, List.not_mem_nil, or_false] at e ⊢; omega) (by intro e; subst e; exact absurd hz (by decide)) (by intro e; subst e; exact absurd hz (by decide)) (by intro e; subst e; exact absurd hz (by decide))) (R_lots_2.mp hlots)
      have hB := R_lots2_lack (l := l) (x := M 86 l - s) (R_lots2_end (l := l) (d := day) hA (by rw [k5 3 (by decide) (by decide)]; exact hv.1) (by rw [k5 87 (by decide) (by decide)]; have := hv.2.1; omega))
      have hD := R_lots2_adds (g := M 91 l) hv.2.1 (l_xs n a b c d) hB hx (by rw [b_upc (by decide), b_upc (by decide), k5 3 (by decide) (by decide), hlen]; exact r)
      rw [hC] at hD
      generalize hDD : l_ms day (M 91 l) (l_xs n a b c d) (b_up (b_up C 171 l day) 172 l (M 86 l - s)) = D at hD ⊢
      have kD : ∀ z, z ∉ [11, 169, 170, 174] → z ≠ 171 → z ≠ 172 → D z = C z := fun z h1 h2 h3 => by rw [← hDD, l_ms_o h1, b_upF h3, b_upF h2]
      exact R_lots_2.mpr (R_lots2_c (by rw [kD 3 (by decide) (by decide) (by decide)]) (fun z hz => kD z (by intro e; revert hz; simp only [List.mem_cons, List.not_mem_nil, or_false] at e ⊢; omega) (by intro e; subst e; exact absurd hz (by decide)) (by intro e; subst e; exact absurd hz (by decide))) rfl (fun _ _ => rfl) hD)
