def f_pb (ca cl : Nat) (x : Int) (M : bM) : bM := b_up (b_up M ca (M cl 1) x) cl 1 (M cl 1 + 1)
def f_pw (ca cl : Nat) (v : Int) (M : bM) : bM := f_pb ca cl (i_b (i_shr v 0)) (f_pb ca cl (i_b (i_shr v 8)) (f_pb ca cl (i_b (i_shr v 16)) (f_pb ca cl (i_b (i_shr v 24)) M)))
theorem f_pb_l {ca cl : Nat} {x : Int} {M : bM} : f_pb ca cl x M cl 1 = M cl 1 + 1 := by unfold f_pb; exact b_ups
theorem f_pb_c {ca cl : Nat} {x : Int} {M : bM} (h : ca ≠ cl) : f_pb ca cl x M ca = fun j => if j = M cl 1 then x else M ca j := by
  unfold f_pb
  rw [b_upF h]
  funext j
  exact b_upJ
theorem f_pb_o {ca cl c : Nat} {x i : Int} {M : bM} (h : c ≠ ca) (h2 : c ≠ cl ∨ i ≠ 1) : f_pb ca cl x M c i = M c i := by
  unfold f_pb
  rcases h2 with q | q
  · rw [b_upc q, b_upc h]
  · by_cases e : c = cl
    · subst e; rw [b_upi q, b_upc h]
    · rw [b_upc e, b_upc h]
theorem f_pw_l {ca cl : Nat} {v : Int} {M : bM} : f_pw ca cl v M cl 1 = M cl 1 + 4 := by unfold f_pw; rw [f_pb_l, f_pb_l, f_pb_l, f_pb_l]; omega
theorem f_pw_o {ca cl c : Nat} {v i : Int} {M : bM} (h : c ≠ ca) (h2 : c ≠ cl ∨ i ≠ 1) : f_pw ca cl v M c i = M c i := by unfold f_pw; rw [f_pb_o h h2, f_pb_o h h2, f_pb_o h h2, f_pb_o h h2]
/-- the tapes of two memories, one on the class's side, one on the reference's -/
def f_T (M N : bM) : Prop := N 11 1 = M 1 1 ∧ N 162 = M 72
theorem f_T_b {M N : bM} {x : Int} (h : f_T M N) : f_T (f_pb 72 1 x M) (f_pb 162 11 x N) := by
  refine ⟨by rw [f_pb_l, f_pb_l, h.1], ?_⟩
  rw [f_pb_c (by decide), f_pb_c (by decide), h.1, h.2]
theorem f_T_w {M N : bM} {v : Int} (h : f_T M N) : f_T (f_pw 72 1 v M) (f_pw 162 11 v N) := f_T_b (f_T_b (f_T_b (f_T_b h)))
theorem f_rng {ca cl : Nat} {x : Int} {M : bM} (hn : ca ≠ cl) (hx : -128 ≤ x ∧ x < 128) (h : ∀ i, -128 ≤ M ca i ∧ M ca i < 128) : ∀ i, -128 ≤ f_pb ca cl x M ca i ∧ f_pb ca cl x M ca i < 128 := by
  intro i
  rw [f_pb_c hn]
  dsimp only
  split
  · exact hx
  · exact h i
theorem f_rngw {ca cl : Nat} {v : Int} {M : bM} (hn : ca ≠ cl) (h : ∀ i, -128 ≤ M ca i ∧ M ca i < 128) : ∀ i, -128 ≤ f_pw ca cl v M ca i ∧ f_pw ca cl v M ca i < 128 := f_rng hn (i_b_r _) (f_rng hn (i_b_r _) (f_rng hn (i_b_r _) (f_rng hn (i_b_r _) h)))
theorem e_put_s {v k : Int} {M : bM} (hk : 0 ≤ k ∧ k ≤ 24) (h : 0 ≤ M 1 1 ∧ M 1 1 < 1000) : F_X10_put_s3 v k M = some (.inl (k + -8, f_pb 72 1 (i_b (i_shr v k)) M)) := by
  unfold F_X10_put_s3
  rw [if_neg (by omega), if_neg (by omega), b_g_s (by omega), b_let_s, b_g_s (by rw [b_upc (by decide)]; omega), b_let_s, b_g_s (by omega), b_upc (by decide)]
  rfl
theorem e_put {v : Int} {M : bM} (h : 0 ≤ M 1 1 ∧ M 1 1 + 4 ≤ 1000) : F_X10_put v M = some (f_pw 72 1 v M) := by
  unfold F_X10_put
  rw [b_loop_eq]
  dsimp only
  rw [e_put_s (by omega) (by omega)]
  show b_bind (b_loop _ (24 + -8, _)) _ = _
  rw [b_loop_eq]
  dsimp only
  rw [e_put_s (by omega) (by rw [f_pb_l]; omega)]
  show b_bind (b_loop _ (24 + -8 + -8, _)) _ = _
  rw [b_loop_eq]
  dsimp only
  rw [e_put_s (by omega) (by rw [f_pb_l, f_pb_l]; omega)]
  show b_bind (b_loop _ (24 + -8 + -8 + -8, _)) _ = _
  rw [b_loop_eq]
  dsimp only
  rw [e_put_s (by omega) (by rw [f_pb_l, f_pb_l, f_pb_l]; omega)]
  show b_bind (b_loop _ (24 + -8 + -8 + -8 + -8, _)) _ = _
  rw [b_loop_eq]
  dsimp only
  unfold F_X10_put_s3
  rw [if_pos (by omega)]
  rfl
theorem e_fs {v1 v2 v3 v4 v5 w v k : Int} {M : bM} (hk : 0 ≤ k ∧ k ≤ 24) (h : 0 ≤ M 11 1 ∧ M 11 1 < 1000) : F_X12_feed_s73 v1 v2 v3 v4 v5 w v k M = some (.inl (k + -8, f_pb 162 11 (i_b (i_shr v k)) M)) := by
  unfold F_X12_feed_s73
  rw [if_neg (by omega), b_g_s (by omega), b_let_s, b_g_s (by rw [b_upc (by decide)]; omega), b_let_s, b_g_s (by omega), b_upc (by decide)]
  rfl
theorem e_f67 {v1 v2 v3 v4 v5 w v : Int} {M : bM} (hw : 0 ≤ w ∧ w < 5) (h : 0 ≤ M 11 1 ∧ M 11 1 + 4 ≤ 1000) : F_X12_feed_b67 v1 v2 v3 v4 v5 w v M = some (.inl (w + 1, f_pw 162 11 v M)) := by
  unfold F_X12_feed_b67
  rw [b_loop_eq]
  dsimp only
  rw [e_fs (by omega) (by omega)]
  show b_bind (b_loop _ (24 + -8, _)) _ = _
  rw [b_loop_eq]
  dsimp only
  rw [e_fs (by omega) (by rw [f_pb_l]; omega)]
  show b_bind (b_loop _ (24 + -8 + -8, _)) _ = _
  rw [b_loop_eq]
  dsimp only
  rw [e_fs (by omega) (by rw [f_pb_l, f_pb_l]; omega)]
  show b_bind (b_loop _ (24 + -8 + -8 + -8, _)) _ = _
  rw [b_loop_eq]
  dsimp only
  rw [e_fs (by omega) (by rw [f_pb_l, f_pb_l, f_pb_l]; omega)]
  show b_bind (b_loop _ (24 + -8 + -8 + -8 + -8, _)) _ = _
  rw [b_loop_eq]
  dsimp only
  unfold F_X12_feed_s73
  rw [if_pos (by omega)]
  show F_X12_feed_b109 v1 v2 v3 v4 v5 w _ = _
  unfold F_X12_feed_b109
  rw [b_g_s (by omega)]
  rfl
theorem e_feed12 {a b c d e : Int} {M : bM} (h : 0 ≤ M 11 1 ∧ M 11 1 + 20 ≤ 1000) : F_X12_feed a b c d e M = some (M 11 1 + 20, f_pw 162 11 e (f_pw 162 11 d (f_pw 162 11 c (f_pw 162 11 b (f_pw 162 11 a M))))) := by
  unfold F_X12_feed
  rw [b_g_s (by omega), if_pos (by omega)]
  rw [b_loop_eq]
  dsimp only
  rw [show F_X12_feed_s19 a b c d e 0 M = some (.inl (0 + 1, f_pw 162 11 a M)) by unfold F_X12_feed_s19; rw [if_neg (by omega), if_pos (by omega)]; exact e_f67 (by omega) (by omega)]
  show b_bind (b_loop _ (0 + 1, _)) _ = _
  rw [b_loop_eq]
  dsimp only
  rw [show F_X12_feed_s19 a b c d e (0 + 1) (f_pw 162 11 a M) = some (.inl (0 + 1 + 1, f_pw 162 11 b (f_pw 162 11 a M))) by unfold F_X12_feed_s19; rw [if_neg (by omega), if_neg (by omega), if_pos (by omega)]; exact e_f67 (by omega) (by rw [f_pw_l]; omega)]
  show b_bind (b_loop _ (0 + 1 + 1, _)) _ = _
  rw [b_loop_eq]
  dsimp only
  rw [show F_X12_feed_s19 a b c d e (0 + 1 + 1) (f_pw 162 11 b (f_pw 162 11 a M)) = some (.inl (0 + 1 + 1 + 1, f_pw 162 11 c (f_pw 162 11 b (f_pw 162 11 a M)))) by unfold F_X12_feed_s19; rw [if_neg (by omega), if_neg (by omega), if_neg (by omega), if_pos (by omega)]; exact e_f67 (by omega) (by rw [f_pw_l, f_pw_l]; omega)]
  show b_bind (b_loop _ (0 + 1 + 1 + 1, _)) _ = _
  rw [b_loop_eq]
  dsimp only
  rw [show F_X12_feed_s19 a b c d e (0 + 1 + 1 + 1) (f_pw 162 11 c (f_pw 162 11 b (f_pw 162 11 a M))) = some (.inl (0 + 1 + 1 + 1 + 1, f_pw 162 11 d (f_pw 162 11 c (f_pw 162 11 b (f_pw 162 11 a M))))) by unfold F_X12_feed_s19; rw [if_neg (by omega), if_neg (by omega), if_neg (by omega), if_neg (by omega), if_pos (by omega)]; exact e_f67 (by omega) (by rw [f_pw_l, f_pw_l, f_pw_l]; omega)]
  show b_bind (b_loop _ (0 + 1 + 1 + 1 + 1, _)) _ = _
  rw [b_loop_eq]
  dsimp only
  rw [show F_X12_feed_s19 a b c d e (0 + 1 + 1 + 1 + 1) (f_pw 162 11 d (f_pw 162 11 c (f_pw 162 11 b (f_pw 162 11 a M)))) = some (.inl (0 + 1 + 1 + 1 + 1 + 1, f_pw 162 11 e (f_pw 162 11 d (f_pw 162 11 c (f_pw 162 11 b (f_pw 162 11 a M)))))) by unfold F_X12_feed_s19; rw [if_neg (by omega), if_neg (by omega), if_neg (by omega), if_neg (by omega), if_neg (by omega)]; exact e_f67 (by omega) (by rw [f_pw_l, f_pw_l, f_pw_l, f_pw_l]; omega)]
  show b_bind (b_loop _ (0 + 1 + 1 + 1 + 1 + 1, _)) _ = _
  rw [b_loop_eq]
  dsimp only
  rw [show F_X12_feed_s19 a b c d e (0 + 1 + 1 + 1 + 1 + 1) (f_pw 162 11 e (f_pw 162 11 d (f_pw 162 11 c (f_pw 162 11 b (f_pw 162 11 a M))))) = some (.inr (f_pw 162 11 e (f_pw 162 11 d (f_pw 162 11 c (f_pw 162 11 b (f_pw 162 11 a M)))))) by unfold F_X12_feed_s19; rw [if_pos (by omega)]]
  show some ((f_pw 162 11 e _) 11 1, _) = _
  rw [f_pw_l, f_pw_l, f_pw_l, f_pw_l, f_pw_l, show M 11 1 + 4 + 4 + 4 + 4 + 4 = M 11 1 + 20 by omega]
theorem op_feed {M : bM} {a b c d e : Int} (htape : R_tape M) : b_wp (F_X11_feed a b c d e M) (fun o => b_wp (F_X12_feed a b c d e o.2) (fun o2 => o.1 = o2.1 ∧ R_tape o2.2)) := by
  have ht := htape
  unfold R_tape at ht
  obtain ⟨a1, a2, a3, a4, a5⟩ := ht
  unfold F_X11_feed
  rw [b_g_s (by omega)]
  by_cases q : M 1 1 + 20 ≤ 1000
  · rw [if_pos q, e_put (by omega), b_bind_s, e_put (by rw [f_pw_l]; omega), b_bind_s, e_put (by rw [f_pw_l, f_pw_l]; omega), b_bind_s, e_put (by rw [f_pw_l, f_pw_l, f_pw_l]; omega), b_bind_s, e_put (by rw [f_pw_l, f_pw_l, f_pw_l, f_pw_l]; omega), b_bind_s]
    refine b_Ws ?_
    dsimp only
    have hn : ∀ (v : Int) (N : bM), f_pw 72 1 v N 11 1 = N 11 1 := fun v N => f_pw_o (by decide) (Or.inl (by decide))
    have hm : ∀ (v : Int) (N : bM), f_pw 72 1 v N 162 = N 162 := fun v N => funext fun i => f_pw_o (by decide) (Or.inl (by decide))
    have hn2 : ∀ (v : Int) (N : bM), f_pw 162 11 v N 1 1 = N 1 1 := fun v N => f_pw_o (by decide) (Or.inl (by decide))
    have hm2 : ∀ (v : Int) (N : bM), f_pw 162 11 v N 72 = N 72 := fun v N => funext fun i => f_pw_o (by decide) (Or.inl (by decide))
    rw [e_feed12 (by rw [hn, hn, hn, hn, hn]; omega)]
    refine b_Ws ?_
    dsimp only
    rw [hn, hn, hn, hn, hn, f_pw_l, f_pw_l, f_pw_l, f_pw_l, f_pw_l]
    refine ⟨by omega, ?_⟩
    have hT : f_T M (f_pw 72 1 e (f_pw 72 1 d (f_pw 72 1 c (f_pw 72 1 b (f_pw 72 1 a M))))) := ⟨by rw [hn, hn, hn, hn, hn]; exact a1, by rw [hm, hm, hm, hm, hm]; exact a4⟩
    have hU := f_T_w (v := e) (f_T_w (v := d) (f_T_w (v := c) (f_T_w (v := b) (f_T_w (v := a) hT))))
    unfold R_tape
    rw [hn2, hn2, hn2, hn2, hn2, hm2, hm2, hm2, hm2, hm2]
    refine ⟨hU.1, ?_, ?_, hU.2, ?_⟩
    · rw [f_pw_l, f_pw_l, f_pw_l, f_pw_l, f_pw_l]; omega
    · rw [f_pw_l, f_pw_l, f_pw_l, f_pw_l, f_pw_l]; omega
    · exact f_rngw (by decide) (f_rngw (by decide) (f_rngw (by decide) (f_rngw (by decide) (f_rngw (by decide) a5))))
  · rw [if_neg q]
    refine b_Ws ?_
    dsimp only
    unfold F_X12_feed
    rw [b_g_s (by omega), if_neg (by omega)]
    exact b_Ws ⟨rfl, htape⟩
