theorem b_01_n {P : Prop} [Decidable P] (h : ¬ b_01 P = 0) : P := Decidable.of_not_not (fun z => h (b_01_0.mpr z))
/-- what paper asks of its numbers -/
def Gd (n6 n2 n3 v1 v2 v3 v4 v5 v6 v7 : Int) : Prop := (0 ≤ v1 ∧ v1 ≤ 6) ∧ (-1 ≤ v2 ∧ v2 < n6) ∧ (-1 ≤ v3 ∧ v3 < n2) ∧ (-1 ≤ v4 ∧ v4 < n2) ∧ (-1 ≤ v5 ∧ v5 < n3) ∧ (0 ≤ v6 ∧ v6 ≤ 9999) ∧ (0 ≤ v7 ∧ v7 ≤ 9999) ∧ v6 ≤ v7
theorem e_p108 {v1 v2 v3 v4 v5 v6 v7 v8 : Int} {M : bM} (h : v8 < 0) : F_X11_paper_b108 v1 v2 v3 v4 v5 v6 v7 v8 M = some (v8, b_up M 1 1 0) := by
  refine b_eqn ?_
  unfold F_X11_paper_b108
  exact b_We (show F_X10_clear M = some (b_up M 1 1 0) by unfold F_X10_clear; rfl) (b_Wf (by omega) (b_Ws rfl))
theorem e_paper_n {v1 v2 v3 v4 v5 v6 v7 : Int} {M : bM} (h : ¬ Gd (M 6 0) (M 2 0) (M 3 0) v1 v2 v3 v4 v5 v6 v7) : F_X11_paper v1 v2 v3 v4 v5 v6 v7 M = some (-2, b_up M 1 1 0) := by
  refine b_eqn ?_
  have no : b_wp (F_X11_paper_b108 v1 v2 v3 v4 v5 v6 v7 (-2) M) (fun r => r = ((-2 : Int), b_up M 1 1 0)) := b_wp_of (e_p108 (by decide)) rfl
  unfold F_X11_paper
  exact b_Wi (fun _ => no) (fun a1 => b_Wi (fun _ => no) (fun a2 => b_We e_X11_isNoneOr (b_Wi (fun _ => no) (fun a3 => b_We e_X11_isNoneOr (b_Wi (fun _ => no) (fun a4 => b_We e_X11_isNoneOr (b_Wi (fun _ => no) (fun a5 => b_We e_X11_isNoneOr (b_Wi (fun _ => no) (fun a6 => b_We e_X11_isDay (b_Wi (fun _ => no) (fun a7 => b_We e_X11_isDay (b_Wi (fun _ => no) (fun a8 => b_Wi (fun _ => no) (fun a9 => absurd ⟨by omega, b_01_n a3, b_01_n a4, b_01_n a5, b_01_n a6, b_01_n a7, b_01_n a8, by omega⟩ h)))))))))))))))
theorem b_01_p {P : Prop} [Decidable P] (h : P) : ¬ b_01 P = 0 := fun z => b_01_0.mp z h
theorem e_paper_g {v1 v2 v3 v4 v5 v6 v7 : Int} {M : bM} {K : Int × bM → Prop} (h : Gd (M 6 0) (M 2 0) (M 3 0) v1 v2 v3 v4 v5 v6 v7) (hk : b_wp (F_X7_readMarks_1 M) (fun t => b_wp (F_X11_paper_b108 v1 v2 v3 v4 v5 v6 v7 t.1 t.2) K)) : b_wp (F_X11_paper v1 v2 v3 v4 v5 v6 v7 M) K := by
  obtain ⟨h1, h2, h3, h4, h5, h6, h7, h8⟩ := h
  unfold F_X11_paper
  exact b_Wf (by omega) (b_Wf (by omega) (b_We e_X11_isNoneOr (b_Wf (b_01_p h2) (b_We e_X11_isNoneOr (b_Wf (b_01_p h3) (b_We e_X11_isNoneOr (b_Wf (b_01_p h4) (b_We e_X11_isNoneOr (b_Wf (b_01_p h5) (b_We e_X11_isDay (b_Wf (b_01_p h6) (b_We e_X11_isDay (b_Wf (b_01_p h7) (b_Wf (by omega) (b_Wb hk)))))))))))))))
/-- the reference's tests of numbers -/
theorem t_paperR {v1 v2 v3 v4 v5 v6 v7 n6 n2 n3 : Int} {N : bM} {K : Int × bM → Prop} (h6 : N 11 52 = n6 ∧ 0 ≤ n6 ∧ n6 ≤ 30) (h2 : N 11 12 = n2 ∧ 0 ≤ n2 ∧ n2 ≤ 80) (h3 : N 11 20 = n3 ∧ 0 ≤ n3 ∧ n3 ≤ 60) (hn : ¬ Gd n6 n2 n3 v1 v2 v3 v4 v5 v6 v7 → K (-2, N)) (hg : Gd n6 n2 n3 v1 v2 v3 v4 v5 v6 v7 → b_wp (F_X12_paper_b76 v1 v2 v3 v4 v5 v6 v7 N) K) : b_wp (b_bind (F_X12_in v1 0 6 N) (fun x2 => if x2 = 0 then (some ((-2), N)) else (if v2 = (-1) then (F_X12_paper_b33 v1 v2 v3 v4 v5 v6 v7 N) else (b_g (b_i32 ((N 11 52) - 1)) (b_bind (F_X12_in v2 0 ((N 11 52) - 1) N) (fun x63 => if x63 = 0 then (some ((-2), N)) else (F_X12_paper_b33 v1 v2 v3 v4 v5 v6 v7 N))))))) K := by
  have b76 : (0 ≤ v1 ∧ v1 ≤ 6) → (-1 ≤ v2 ∧ v2 < n6) → (-1 ≤ v3 ∧ v3 < n2) → (-1 ≤ v4 ∧ v4 < n2) → (-1 ≤ v5 ∧ v5 < n3) → b_wp (F_X12_paper_b76 v1 v2 v3 v4 v5 v6 v7 N) K := by
    intro a1 a2 a3 a4 a5
    by_cases g : Gd n6 n2 n3 v1 v2 v3 v4 v5 v6 v7
    · exact hg g
    · unfold F_X12_paper_b76
      refine b_We e_X12_isDay (b_Wi (fun _ => b_Ws (hn g)) (fun b1 => b_We e_X12_in (b_Wi (fun _ => b_Ws (hn g)) (fun b2 => ?_))))
      have c1 := b_01_n b1
      have c2 := b_01_n b2
      exact absurd ⟨a1, a2, a3, a4, a5, c1, by omega, c2.1⟩ g
  have b61 : (0 ≤ v1 ∧ v1 ≤ 6) → (-1 ≤ v2 ∧ v2 < n6) → (-1 ≤ v3 ∧ v3 < n2) → (-1 ≤ v4 ∧ v4 < n2) → b_wp (F_X12_paper_b61 v1 v2 v3 v4 v5 v6 v7 N) K := by
    intro a1 a2 a3 a4
    unfold F_X12_paper_b61
    refine b_Wi (fun z => b76 a1 a2 a3 a4 (by omega)) (fun z => b_We (e_X12_isLot (by omega)) (b_Wi (fun y => b_Ws (hn (fun g => ?_))) (fun y => b76 a1 a2 a3 a4 ?_)))
    · have := b_01_0.mp y
      have := g.2.2.2.2.1
      omega
    · have := b_01_n y
      omega
  have b46 : (0 ≤ v1 ∧ v1 ≤ 6) → (-1 ≤ v2 ∧ v2 < n6) → (-1 ≤ v3 ∧ v3 < n2) → b_wp (F_X12_paper_b46 v1 v2 v3 v4 v5 v6 v7 N) K := by
    intro a1 a2 a3
    unfold F_X12_paper_b46
    refine b_Wi (fun z => b61 a1 a2 a3 (by omega)) (fun z => b_We (e_X12_isPerson (by omega)) (b_Wi (fun y => b_Ws (hn (fun g => ?_))) (fun y => b61 a1 a2 a3 ?_)))
    · have := b_01_0.mp y
      have := g.2.2.2.1
      omega
    · have := b_01_n y
      omega
  have b33 : (0 ≤ v1 ∧ v1 ≤ 6) → (-1 ≤ v2 ∧ v2 < n6) → b_wp (F_X12_paper_b33 v1 v2 v3 v4 v5 v6 v7 N) K := by
    intro a1 a2
    unfold F_X12_paper_b33
    refine b_Wi (fun z => b46 a1 a2 (by omega)) (fun z => b_We (e_X12_isPerson (by omega)) (b_Wi (fun y => b_Ws (hn (fun g => ?_))) (fun y => b46 a1 a2 ?_)))
    · have := b_01_0.mp y
      have := g.2.2.1
      omega
    · have := b_01_n y
      omega
  refine b_We e_X12_in (b_Wi (fun y => b_Ws (hn (fun g => b_01_0.mp y g.1))) (fun y => ?_))
  have a1 := b_01_n y
  refine b_Wi (fun z => b33 a1 (by omega)) (fun z => b_Wg (by omega) (b_We e_X12_in (b_Wi (fun y2 => b_Ws (hn (fun g => ?_))) (fun y2 => b33 a1 ?_))))
  · have := b_01_0.mp y2
    have := g.2.1
    omega
  · have := b_01_n y2
    omega
/-- a PAPER is added -/
theorem t_addP {U : bM} {v1 v2 v3 : Int} (h5 : 0 ≤ U 5 0 ∧ U 5 0 < 120) : b_wp (F_X7_add v1 v2 v3 U) (fun o => b_fr W_X7_add U o.2 ∧ o.1 = U 5 0 ∧ o.2 5 0 = U 5 0 + 1 ∧ (∀ j, o.2 110 j = if j = U 5 0 then v1 else U 110 j) ∧ (∀ j, o.2 111 j = if j = U 5 0 then v2 else U 111 j) ∧ (∀ j, o.2 112 j = if j = U 5 0 then v3 else U 112 j) ∧ (∀ j, o.2 116 j = if j = U 5 0 then -1 else U 116 j) ∧ (∀ j, o.2 119 j = if j = U 5 0 then U 5 16 else U 119 j) ∧ (∀ j, o.2 120 j = if 12 * U 5 0 ≤ j ∧ j < 12 * U 5 0 + 12 then U 122 (j - 12 * U 5 0) else U 120 j) ∧ ∀ j, o.2 121 j = if 12 * U 5 0 ≤ j ∧ j < 12 * U 5 0 + 12 then U 123 (j - 12 * U 5 0) else U 121 j) := by
  refine b_wl_wp (w_X7_add b_fr_refl) ?_
  unfold F_X7_add
  refine b_Wt h5.2 (b_Wg (by omega) (b_Wl ?_))
  generalize hA : b_up U 110 (U 5 0) v1 = A
  have a5 : A 5 0 = U 5 0 := by subst hA; exact b_upc (by decide)
  have a110 : ∀ j, A 110 j = if j = U 5 0 then v1 else U 110 j := fun j => by subst hA; exact b_upJ
  have ao : ∀ c j, c ≠ 110 → A c j = U c j := fun c j h => by subst hA; exact b_upc h
  clear hA
  rw [a5]
  refine b_Wg (by omega) (b_Wl ?_)
  generalize hB : b_up A 111 (U 5 0) v2 = B
  have b111 : ∀ j, B 111 j = if j = U 5 0 then v2 else U 111 j := fun j => by subst hB; rw [b_upJ, ao _ _ (by decide)]
  have bo : ∀ c j, c ≠ 111 → B c j = A c j := fun c j h => by subst hB; exact b_upc h
  clear hB
  have b5 : B 5 0 = U 5 0 := by rw [bo _ _ (by decide)]; exact a5
  rw [b5]
  refine b_Wg (by omega) (b_Wl ?_)
  generalize hC : b_up B 112 (U 5 0) v3 = C
  have c112 : ∀ j, C 112 j = if j = U 5 0 then v3 else U 112 j := fun j => by subst hC; rw [b_upJ, bo _ _ (by decide), ao _ _ (by decide)]
  have co : ∀ c j, c ≠ 112 → C c j = B c j := fun c j h => by subst hC; exact b_upc h
  clear hC
  have c5 : C 5 0 = U 5 0 := by rw [co _ _ (by decide)]; exact b5
  rw [c5]
  refine b_Wg (by omega) (b_Wl ?_)
  generalize hD : b_up C 116 (U 5 0) (-1) = D
  have d116 : ∀ j, D 116 j = if j = U 5 0 then -1 else U 116 j := fun j => by subst hD; rw [b_upJ, co _ _ (by decide), bo _ _ (by decide), ao _ _ (by decide)]
  have dO : ∀ c j, c ≠ 116 → D c j = C c j := fun c j h => by subst hD; exact b_upc h
  clear hD
  have d5 : D 5 0 = U 5 0 := by rw [dO _ _ (by decide)]; exact c5
  have d16 : D 5 16 = U 5 16 := by rw [dO _ _ (by decide), co _ _ (by decide), bo _ _ (by decide), ao _ _ (by decide)]
  rw [d5, d16]
  refine b_Wg (by omega) (b_Wl ?_)
  generalize hE : b_up D 119 (U 5 0) (U 5 16) = E
  have e119 : ∀ j, E 119 j = if j = U 5 0 then U 5 16 else U 119 j := fun j => by subst hE; rw [b_upJ, dO _ _ (by decide), co _ _ (by decide), bo _ _ (by decide), ao _ _ (by decide)]
  have eO : ∀ c j, c ≠ 119 → E c j = D c j := fun c j h => by subst hE; exact b_upc h
  clear hE
  have e5 : E 5 0 = U 5 0 := by rw [eO _ _ (by decide)]; exact d5
  have eU : ∀ c j, c ≠ 110 → c ≠ 111 → c ≠ 112 → c ≠ 116 → c ≠ 119 → E c j = U c j := fun c j h1 h2 h3 h4 h6 => by rw [eO _ _ h6, dO _ _ h4, co _ _ h3, bo _ _ h2, ao _ _ h1]
  rw [e5]
  refine b_Wg (by omega) (b_Wl ?_)
  generalize hF : b_set E 120 (s_cpy (E 122) (E 120) 0 (U 5 0 * 12) 12) = F
  have f120 : ∀ j, F 120 j = if 12 * U 5 0 ≤ j ∧ j < 12 * U 5 0 + 12 then U 122 (j - 12 * U 5 0) else U 120 j := fun j => by
    subst hF
    rw [b_set_s]
    unfold s_cpy
    rw [eU 120 j (by decide) (by decide) (by decide) (by decide) (by decide), show U 5 0 * 12 = 12 * U 5 0 by omega, eU 122 _ (by decide) (by decide) (by decide) (by decide) (by decide), show (0 : Int) + (j - 12 * U 5 0) = j - 12 * U 5 0 by omega]
  have fo : ∀ c j, c ≠ 120 → F c j = E c j := fun c j h => by subst hF; rw [b_set_n h]
  clear hF
  have f5 : F 5 0 = U 5 0 := by rw [fo _ _ (by decide)]; exact e5
  rw [f5]
  refine b_Wg (by omega) (b_Wl ?_)
  generalize hG : b_set F 121 (s_cpy (F 123) (F 121) 0 (U 5 0 * 12) 12) = G
  have g121 : ∀ j, G 121 j = if 12 * U 5 0 ≤ j ∧ j < 12 * U 5 0 + 12 then U 123 (j - 12 * U 5 0) else U 121 j := fun j => by
    subst hG
    rw [b_set_s]
    unfold s_cpy
    rw [fo 121 j (by decide), eU 121 j (by decide) (by decide) (by decide) (by decide) (by decide), show U 5 0 * 12 = 12 * U 5 0 by omega, fo 123 _ (by decide), eU 123 _ (by decide) (by decide) (by decide) (by decide) (by decide), show (0 : Int) + (j - 12 * U 5 0) = j - 12 * U 5 0 by omega]
  have go : ∀ c j, c ≠ 121 → G c j = F c j := fun c j h => by subst hG; rw [b_set_n h]
  clear hG
  have g5 : G 5 0 = U 5 0 := by rw [go _ _ (by decide)]; exact f5
  rw [g5]
  refine b_Wg (by omega) (b_Wl ?_)
  generalize hH : b_up G 5 0 (U 5 0 + 1) = H
  have h50 : H 5 0 = U 5 0 + 1 := by subst hH; exact b_ups
  have hO : ∀ c j, c ≠ 5 → H c j = G c j := fun c j h => by subst hH; exact b_upc h
  clear hH
  rw [h50]
  refine b_Wg (by omega) (b_Ws ⟨?_, h50, fun j => ?_, fun j => ?_, fun j => ?_, fun j => ?_, fun j => ?_, fun j => ?_, fun j => ?_⟩)
  · show U 5 0 + 1 - 1 = U 5 0
    omega
  · show H 110 j = _
    rw [hO _ _ (by decide), go _ _ (by decide), fo _ _ (by decide), eO _ _ (by decide), dO _ _ (by decide), co _ _ (by decide), bo _ _ (by decide)]; exact a110 j
  · show H 111 j = _
    rw [hO _ _ (by decide), go _ _ (by decide), fo _ _ (by decide), eO _ _ (by decide), dO _ _ (by decide), co _ _ (by decide)]; exact b111 j
  · show H 112 j = _
    rw [hO _ _ (by decide), go _ _ (by decide), fo _ _ (by decide), eO _ _ (by decide), dO _ _ (by decide)]; exact c112 j
  · show H 116 j = _
    rw [hO _ _ (by decide), go _ _ (by decide), fo _ _ (by decide), eO _ _ (by decide)]; exact d116 j
  · show H 119 j = _
    rw [hO _ _ (by decide), go _ _ (by decide), fo _ _ (by decide)]; exact e119 j
  · show H 120 j = _
    rw [hO _ _ (by decide), go _ _ (by decide)]; exact f120 j
  · show H 121 j = _
    rw [hO _ _ (by decide)]; exact g121 j
/-- what a PAPER says -/
theorem t_say {U : bM} {k v2 v3 v4 v5 v6 : Int} (hk : 0 ≤ k ∧ k < U 5 0) (h5 : U 5 0 ≤ 120) : b_wp (F_X7_say k v2 v3 v4 v5 v6 U) (fun O => b_fr W_X7_say U O ∧ (∀ j, O 115 j = if j = 3 * k + 2 then v4 else if j = 3 * k + 1 then v3 else if j = 3 * k then v2 else U 115 j) ∧ (∀ j, O 113 j = if j = k then v5 else U 113 j) ∧ ∀ j, O 114 j = if j = k then v6 else U 114 j) := by
  refine b_wl_wp (w_X7_say b_fr_refl) ?_
  unfold F_X7_say
  rw [show k * 3 = 3 * k by omega]
  refine b_We e_X7_has (b_Wf (b_01_p hk) (b_Wg (by omega) (b_Wl (b_Wg (by omega) (b_Wl (b_Wg (by omega) (b_Wl (b_Wg (by omega) (b_Wl (b_Wg (by omega) (b_Wl (b_Ws ⟨fun j => ?_, fun j => ?_, fun j => ?_⟩))))))))))))
  · rw [b_upc (by decide), b_upc (by decide), b_upJ, b_upJ, b_upJ]
  · rw [b_upc (by decide), b_upJ, b_upc (by decide), b_upc (by decide), b_upc (by decide)]
  · rw [b_upJ, b_upc (by decide), b_upc (by decide), b_upc (by decide), b_upc (by decide)]
