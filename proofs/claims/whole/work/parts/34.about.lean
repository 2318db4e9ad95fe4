theorem op_about {M : bM} {p w : Int} (hlots : R_lots M) (hshape : R_shape M) : b_wp (F_X11_about p w M) (fun o => b_wp (F_X12_about p w M) (fun o2 => o = o2)) := by
  suffices hx : ∃ t, F_X11_about p w M = some t ∧ F_X12_about p w M = some t by
    obtain ⟨t, h1, h2⟩ := hx
    rw [h1, h2]
    exact b_Ws (b_Ws rfl)
  have hlots_ := hlots
  unfold R_lots at hlots_
  have hshape_ := hshape
  unfold R_shape at hshape_
  obtain ⟨⟨l1, l2, l3⟩, ⟨f1, f2, f3, f4, f5, f6⟩, hl, hm⟩ := hlots_
  obtain ⟨⟨s1, s2, s3⟩, hs, hw⟩ := hshape_
  have eL : F_X12_isLot p M = some (b_01 (0 ≤ p ∧ p < M 11 20)) := e_X12_isLot (by omega)
  rw [l1] at eL
  by_cases v : 0 ≤ p ∧ p < M 3 0
  · have v2 : ¬ b_01 (0 ≤ p ∧ p < M 3 0) = 0 := by rw [b_01_0]; omega
    have hr := hs p
    have hg := (hl p v.1 v.2).1.1
    unfold F_X11_about F_X5_tellAbout F_X12_about
    rw [e_X5_has, b_bind_s, if_neg v2, eL, b_bind_s, if_neg v2]
    by_cases w0 : w = 0
    · refine ⟨M 86 p, ?_, ?_⟩
      · rw [if_pos w0, b_g_s (by omega), b_bind_s]
      · rw [if_pos w0, b_g_s (by omega), f1]
    by_cases w1 : w = 1
    · refine ⟨M 87 p, ?_, ?_⟩
      · rw [if_neg w0, if_pos w1, b_g_s (by omega), b_bind_s]
      · rw [if_neg w0, if_pos w1, b_g_s (by omega), f2]
    by_cases w2 : w = 2
    · refine ⟨M 88 p, ?_, ?_⟩
      · rw [if_neg w0, if_neg w1, if_pos w2, b_g_s (by omega), b_bind_s]
      · rw [if_neg w0, if_neg w1, if_pos w2, b_g_s (by omega), hg]
    by_cases w3 : w = 3
    · refine ⟨M 89 p, ?_, ?_⟩
      · rw [if_neg w0, if_neg w1, if_neg w2, if_pos w3, b_g_s (by omega), b_bind_s]
      · rw [if_neg w0, if_neg w1, if_neg w2, if_pos w3, b_g_s (by omega), f3]
    by_cases w4 : w = 4
    · refine ⟨M 90 p, ?_, ?_⟩
      · rw [if_neg w0, if_neg w1, if_neg w2, if_neg w3, if_pos w4, b_g_s (by omega), b_bind_s]
      · rw [if_neg w0, if_neg w1, if_neg w2, if_neg w3, if_pos w4, b_g_s (by omega), f4]
    by_cases w5 : w = 5
    · refine ⟨M 94 p, ?_, ?_⟩
      · rw [if_neg w0, if_neg w1, if_neg w2, if_neg w3, if_neg w4, if_pos w5, b_g_s (by omega), b_bind_s]
      · rw [if_neg w0, if_neg w1, if_neg w2, if_neg w3, if_neg w4, if_pos w5, b_g_s (by omega), s1]
    by_cases w6 : w = 6
    · refine ⟨M 95 p, ?_, ?_⟩
      · rw [if_neg w0, if_neg w1, if_neg w2, if_neg w3, if_neg w4, if_neg w5, if_pos w6, b_g_s (by omega), b_bind_s]
      · rw [if_neg w0, if_neg w1, if_neg w2, if_neg w3, if_neg w4, if_neg w5, if_pos w6, b_g_s (by omega), s2]
    by_cases w7 : w = 7
    · refine ⟨M 96 p, ?_, ?_⟩
      · rw [if_neg w0, if_neg w1, if_neg w2, if_neg w3, if_neg w4, if_neg w5, if_neg w6, if_pos w7, b_g_s (by omega), b_bind_s]
      · rw [if_neg w0, if_neg w1, if_neg w2, if_neg w3, if_neg w4, if_neg w5, if_neg w6, if_pos w7, b_g_s (by omega), s3]
    by_cases q : 10 ≤ w ∧ w - 10 < M 94 p
    · have h4 := hw p (w - 10) v.1 (by omega) (by omega) q.2
      refine ⟨M 97 (12 * p + (w - 10)), ?_, ?_⟩
      · rw [if_neg w0, if_neg w1, if_neg w2, if_neg w3, if_neg w4, if_neg w5, if_neg w6, if_neg w7, if_neg (by omega), if_neg (by omega), b_g_s (by omega), if_neg (by omega), b_g_s (by omega), b_bind_s, show p * 12 + w - 10 = 12 * p + (w - 10) by omega]
      · rw [if_neg w0, if_neg w1, if_neg w2, if_neg w3, if_neg w4, if_neg w5, if_neg w6, if_neg w7, b_g_s (by rw [s1]; omega), e_X12_in, b_bind_s, if_neg (by rw [b_01_0, s1]; omega), show 12 * p + w - 10 = 12 * p + (w - 10) by omega, b_g_s (by omega), h4.1]
    · refine ⟨-9, ?_, ?_⟩
      · rw [if_neg w0, if_neg w1, if_neg w2, if_neg w3, if_neg w4, if_neg w5, if_neg w6, if_neg w7]
        by_cases r1 : w < 10
        · rw [if_pos r1, b_bind_s]
        · rw [if_neg r1]
          by_cases r2 : 22 ≤ w
          · rw [if_pos r2, b_bind_s]
          · rw [if_neg r2, b_g_s (by omega), if_pos (by omega), b_bind_s]
      · rw [if_neg w0, if_neg w1, if_neg w2, if_neg w3, if_neg w4, if_neg w5, if_neg w6, if_neg w7, b_g_s (by rw [s1]; omega), e_X12_in, b_bind_s, if_pos (by rw [b_01_0, s1]; omega)]
  · have v2 : b_01 (0 ≤ p ∧ p < M 3 0) = 0 := by rw [b_01_0]; omega
    refine ⟨-9, ?_, ?_⟩
    · unfold F_X11_about
      rw [e_X5_has, b_bind_s, if_pos v2]
    · unfold F_X12_about
      rw [eL, b_bind_s, if_pos v2]
