abbrev A_X12_strip_80 (l : Launch) (E : bE) (Q : (Int × bM) → Prop) (v1 : Int) (v2 : Int) (M : bM) : (Int × Int) → Prop := (fun t : Int × Int => V l E xX12_strip (0, 0) 80 [(0, bR 11), (1, bI v1), (2, bI v2), (3, bI (t.1)), (4, bI (t.2))] [] M (b_pI Q))
abbrev X_X12_strip_80 (l : Launch) (E : bE) (Q : (Int × bM) → Prop) (v1 : Int) (v2 : Int) (M : bM) : (Int) → Prop := (fun t : Int => V l E xX12_strip (0, 0) 235 [(3, bI t)] [] M (b_pI Q))
abbrev A_X12_strip_114 (l : Launch) (E : bE) (Q : (Int × bM) → Prop) (v1 : Int) (v2 : Int) (v4 : Int) (v5 : Int) (M : bM) : (Int × Int) → Prop := (fun t : Int × Int => V l E xX12_strip (0, 0) 114 [(0, bR 11), (1, bI v1), (2, bI v2), (3, bI (t.1)), (4, bI v4), (5, bI v5), (6, bI (t.2))] [] M (b_pI Q))
abbrev X_X12_strip_114 (l : Launch) (E : bE) (Q : (Int × bM) → Prop) (v1 : Int) (v2 : Int) (v4 : Int) (v5 : Int) (M : bM) : (Int) → Prop := (fun t : Int => V l E xX12_strip (0, 0) 221 [(0, bR 11), (1, bI v1), (2, bI v2), (3, bI t), (4, bI v4)] [] M (b_pI Q))
noncomputable def F_X12_strip_b207 (v1 : Int) (v2 : Int) (v3 : Int) (v4 : Int) (v5 : Int) (v6 : Int) (M : bM) : Option ((Int × Int) ⊕ (Int)) :=
  b_bind (F_X12_nextOf 0 v6 v1 v2 M) (fun x28 => some (.inl (v3, x28)))
theorem t_X12_strip_b207 {l : Launch} {E : bE} {Q : (Int × bM) → Prop} {v1 : Int} {v2 : Int} {v3 : Int} {v4 : Int} {v5 : Int} {v6 : Int} {M : bM} (h : b_wp (F_X12_strip_b207 v1 v2 v3 v4 v5 v6 M) (Sum.elim (A_X12_strip_114 l E Q v1 v2 v4 v5 M) (X_X12_strip_114 l E Q v1 v2 v4 v5 M))) : V l E xX12_strip (0, 0) 207 [(0, bR 11), (1, bI v1), (2, bI v2), (3, bI v3), (4, bI v4), (5, bI v5), (6, bI v6)] [] M (b_pI Q) := by
  unfold F_X12_strip_b207 at h
  refine v_aload_n (f := 0) 0 rfl dX12_strip_207 ?_
  refine v_iconst ⟨by decide, by decide⟩ dX12_strip_208 ?_
  refine v_iload (i := 6) 6 rfl dX12_strip_209 ?_
  refine v_iload_n (f := 1) 1 rfl dX12_strip_211 ?_
  refine v_iload_n (f := 2) 2 rfl dX12_strip_212 ?_
  refine v_cVIp (nA := 4) (As := [bI _, bI _, bI _, bI _]) (ix := 434) (cf_X12_nextOf (b_wp_b h)) rfl kd_11 rfl rfl wc_X12_nextOf wm_12_434 wi_X12_nextOf ws_X12_nextOf wn_12 ⟨by decide, by decide, by decide⟩ rfl ⟨by decide, by decide⟩ ⟨by decide, by decide⟩ (Nat.le_of_ble_eq_true rfl) dX12_strip_213 (fun x28 h => ?_)
  refine v_istore (i := 6) (ls' := [(6, bI _), (0, bR _), (1, bI _), (2, bI _), (3, bI _), (4, bI _), (5, bI _)]) (by decide) dX12_strip_216 rfl ?_
  refine v_goto (tgt := 114) dX12_strip_218 (by decide) ?_
  refine v_sub (ls2 := [(0, bR _), (1, bI _), (2, bI _), (3, bI _), (4, bI _), (5, bI _), (6, bI _)]) [1, 2, 3, 4, 5, 6, 0] rfl ?_
  exact h
noncomputable def F_X12_strip_s114 (v1 : Int) (v2 : Int) (v3 : Int) (v4 : Int) (v5 : Int) (v6 : Int) (M : bM) : Option ((Int × Int) ⊕ (Int)) :=
  if 9999 ≤ v6 then (some (.inr (v3))) else (if 9999 ≤ v5 then (some (.inr (v3))) else (b_bind (F_X12_nextOf 0 v6 v1 v2 M) (fun x24 => b_g (b_i32 (x24 - v6)) (b_let ((x24 - v6)) (fun y26 => if 9999 ≤ y26 then (F_X12_strip_b207 v1 v2 v3 v4 v5 v6 M) else (b_g ((b_i32 (2 * v4)) ∧ (b_i32 ((2 * v4) + v5)) ∧ (b_i32 (2 * v6)) ∧ (b_i32 ((2 * v6) + y26))) (b_bind (F_X12_isWithin v1 0 ((2 * v4) + v5) ((2 * v6) + y26) M) (fun x33 => if x33 = 0 then (F_X12_strip_b207 v1 v2 v3 v4 v5 v6 M) else (b_g ((b_i32 (2 * v4)) ∧ (b_i32 ((2 * v4) + v5)) ∧ (b_i32 (2 * v6)) ∧ (b_i32 ((2 * v6) + y26))) (b_bind (F_X12_isWithin v2 13 ((2 * v4) + v5) ((2 * v6) + y26) M) (fun x39 => if x39 = 0 then (F_X12_strip_b207 v1 v2 v3 v4 v5 v6 M) else (b_g ((b_i32 (v5 * y26)) ∧ (b_i32 (v3 + (v5 * y26)))) (b_let ((v3 + (v5 * y26))) (fun y43 => F_X12_strip_b207 v1 v2 y43 v4 v5 v6 M))))))))))))))
theorem t_X12_strip_s114 {l : Launch} {E : bE} {Q : (Int × bM) → Prop} {v1 : Int} {v2 : Int} {v3 : Int} {v4 : Int} {v5 : Int} {v6 : Int} {M : bM} (h : b_wp (F_X12_strip_s114 v1 v2 v3 v4 v5 v6 M) (Sum.elim (A_X12_strip_114 l E Q v1 v2 v4 v5 M) (X_X12_strip_114 l E Q v1 v2 v4 v5 M))) : V l E xX12_strip (0, 0) 114 [(0, bR 11), (1, bI v1), (2, bI v2), (3, bI v3), (4, bI v4), (5, bI v5), (6, bI v6)] [] M (b_pI Q) := by
  unfold F_X12_strip_s114 at h
  refine v_iload (i := 6) 6 rfl dX12_strip_114 ?_
  refine v_sipush ⟨by decide, by decide⟩ (by decide) dX12_strip_116 ?_
  refine v_icmp_ge (tgt := 221) dX12_strip_119 (by decide) (fun c22 => ?_) (fun c22 => ?_)
  · replace h := b_wp_t c22 h
    refine v_sub (ls2 := [(0, bR _), (1, bI _), (2, bI _), (3, bI _), (4, bI _)]) [0, 1, 2, 3, 4] rfl ?_
    exact h
  · replace h := b_wp_f c22 h
    refine v_iload (i := 5) 5 rfl dX12_strip_122 ?_
    refine v_sipush ⟨by decide, by decide⟩ (by decide) dX12_strip_124 ?_
    refine v_icmp_ge (tgt := 221) dX12_strip_127 (by decide) (fun c23 => ?_) (fun c23 => ?_)
    · replace h := b_wp_t c23 h
      refine v_sub (ls2 := [(0, bR _), (1, bI _), (2, bI _), (3, bI _), (4, bI _)]) [0, 1, 2, 3, 4] rfl ?_
      exact h
    · replace h := b_wp_f c23 h
      refine v_aload_n (f := 0) 0 rfl dX12_strip_130 ?_
      refine v_iconst ⟨by decide, by decide⟩ dX12_strip_131 ?_
      refine v_iload (i := 6) 6 rfl dX12_strip_132 ?_
      refine v_iload_n (f := 1) 1 rfl dX12_strip_134 ?_
      refine v_iload_n (f := 2) 2 rfl dX12_strip_135 ?_
      refine v_cVIp (nA := 4) (As := [bI _, bI _, bI _, bI _]) (ix := 434) (cf_X12_nextOf (b_wp_b h)) rfl kd_11 rfl rfl wc_X12_nextOf wm_12_434 wi_X12_nextOf ws_X12_nextOf wn_12 ⟨by decide, by decide, by decide⟩ rfl ⟨by decide, by decide⟩ ⟨by decide, by decide⟩ (Nat.le_of_ble_eq_true rfl) dX12_strip_136 (fun x24 h => ?_)
      obtain ⟨g25, h⟩ := b_wp_g h
      refine v_iload (i := 6) 6 rfl dX12_strip_139 ?_
      refine v_isubN g25 dX12_strip_141 ?_
      replace h := b_wp_l h
      refine v_istore (i := 7) (ls' := [(7, bI _), (0, bR _), (1, bI _), (2, bI _), (3, bI _), (4, bI _), (5, bI _), (6, bI _)]) (by decide) dX12_strip_142 rfl ?_
      refine v_iload (i := 7) 0 rfl dX12_strip_144 ?_
      refine v_sipush ⟨by decide, by decide⟩ (by decide) dX12_strip_146 ?_
      refine v_icmp_ge (tgt := 207) dX12_strip_149 (by decide) (fun c27 => ?_) (fun c27 => ?_)
      · replace h := b_wp_t c27 h
        refine v_sub (ls2 := [(0, bR _), (1, bI _), (2, bI _), (3, bI _), (4, bI _), (5, bI _), (6, bI _)]) [1, 2, 3, 4, 5, 6, 7] rfl ?_
        exact t_X12_strip_b207 h
      · replace h := b_wp_f c27 h
        obtain ⟨⟨g29, g30, g31, g32⟩, h⟩ := b_wp_g h
        refine v_aload_n (f := 0) 1 rfl dX12_strip_152 ?_
        refine v_iload_n (f := 1) 2 rfl dX12_strip_153 ?_
        refine v_iconst ⟨by decide, by decide⟩ dX12_strip_154 ?_
        refine v_iconst ⟨by decide, by decide⟩ dX12_strip_155 ?_
        refine v_iload (i := 4) 5 rfl dX12_strip_156 ?_
        refine v_imulN g29 dX12_strip_158 ?_
        refine v_iload (i := 5) 6 rfl dX12_strip_159 ?_
        refine v_iaddN g30 dX12_strip_161 ?_
        refine v_iconst ⟨by decide, by decide⟩ dX12_strip_162 ?_
        refine v_iload (i := 6) 7 rfl dX12_strip_163 ?_
        refine v_imulN g31 dX12_strip_165 ?_
        refine v_iload (i := 7) 0 rfl dX12_strip_166 ?_
        refine v_iaddN g32 dX12_strip_168 ?_
        refine v_cVIp (nA := 4) (As := [bI _, bI _, bI _, bI _]) (ix := 438) (cf_X12_isWithin (b_wp_b h)) rfl kd_11 rfl rfl wc_X12_isWithin wm_12_438 wi_X12_isWithin ws_X12_isWithin wn_12 ⟨by decide, by decide, by decide⟩ rfl ⟨by decide, by decide⟩ ⟨by decide, by decide⟩ (Nat.le_of_ble_eq_true rfl) dX12_strip_169 (fun x33 h => ?_)
        refine v_if_eq (tgt := 207) dX12_strip_172 (by decide) (fun c34 => ?_) (fun c34 => ?_)
        · replace h := b_wp_t c34 h
          refine v_sub (ls2 := [(0, bR _), (1, bI _), (2, bI _), (3, bI _), (4, bI _), (5, bI _), (6, bI _)]) [1, 2, 3, 4, 5, 6, 7] rfl ?_
          exact t_X12_strip_b207 h
        · replace h := b_wp_f c34 h
          obtain ⟨⟨g35, g36, g37, g38⟩, h⟩ := b_wp_g h
          refine v_aload_n (f := 0) 1 rfl dX12_strip_175 ?_
          refine v_iload_n (f := 2) 3 rfl dX12_strip_176 ?_
          refine v_bipush ⟨by decide, by decide⟩ (by decide) dX12_strip_177 ?_
          refine v_iconst ⟨by decide, by decide⟩ dX12_strip_179 ?_
          refine v_iload (i := 4) 5 rfl dX12_strip_180 ?_
          refine v_imulN g35 dX12_strip_182 ?_
          refine v_iload (i := 5) 6 rfl dX12_strip_183 ?_
          refine v_iaddN g36 dX12_strip_185 ?_
          refine v_iconst ⟨by decide, by decide⟩ dX12_strip_186 ?_
          refine v_iload (i := 6) 7 rfl dX12_strip_187 ?_
          refine v_imulN g37 dX12_strip_189 ?_
          refine v_iload (i := 7) 0 rfl dX12_strip_190 ?_
          refine v_iaddN g38 dX12_strip_192 ?_
          refine v_cVIp (nA := 4) (As := [bI _, bI _, bI _, bI _]) (ix := 438) (cf_X12_isWithin (b_wp_b h)) rfl kd_11 rfl rfl wc_X12_isWithin wm_12_438 wi_X12_isWithin ws_X12_isWithin wn_12 ⟨by decide, by decide, by decide⟩ rfl ⟨by decide, by decide⟩ ⟨by decide, by decide⟩ (Nat.le_of_ble_eq_true rfl) dX12_strip_193 (fun x39 h => ?_)
          refine v_if_eq (tgt := 207) dX12_strip_196 (by decide) (fun c40 => ?_) (fun c40 => ?_)
          · replace h := b_wp_t c40 h
            refine v_sub (ls2 := [(0, bR _), (1, bI _), (2, bI _), (3, bI _), (4, bI _), (5, bI _), (6, bI _)]) [1, 2, 3, 4, 5, 6, 7] rfl ?_
            exact t_X12_strip_b207 h
          · replace h := b_wp_f c40 h
            obtain ⟨⟨g41, g42⟩, h⟩ := b_wp_g h
            refine v_iload_n (f := 3) 4 rfl dX12_strip_199 ?_
            refine v_iload (i := 5) 6 rfl dX12_strip_200 ?_
            refine v_iload (i := 7) 0 rfl dX12_strip_202 ?_
            refine v_imulN g41 dX12_strip_204 ?_
            refine v_iaddN g42 dX12_strip_205 ?_
            replace h := b_wp_l h
            refine v_istore_n (g := 3) (i := 3) (ls' := [(3, bI _), (7, bI _), (0, bR _), (1, bI _), (2, bI _), (4, bI _), (5, bI _), (6, bI _)]) rfl (by decide) dX12_strip_206 rfl ?_
            refine v_sub (ls2 := [(0, bR _), (1, bI _), (2, bI _), (3, bI _), (4, bI _), (5, bI _), (6, bI _)]) [2, 3, 4, 0, 5, 6, 7] rfl ?_
            exact t_X12_strip_b207 h
theorem l_X12_strip_114 {l : Launch} {E : bE} {Q : (Int × bM) → Prop} {v1 : Int} {v2 : Int} {v4 : Int} {v5 : Int} {M : bM} {s : Int × Int} (h : b_wp (b_loop (fun t => F_X12_strip_s114 v1 v2 t.1 v4 v5 t.2 M) s) (X_X12_strip_114 l E Q v1 v2 v4 v5 M)) : A_X12_strip_114 l E Q v1 v2 v4 v5 M s := b_loop_wp (fun t h => t_X12_strip_s114 h) s h
noncomputable def F_X12_strip_b221 (v1 : Int) (v2 : Int) (v3 : Int) (v4 : Int) (M : bM) : Option ((Int × Int) ⊕ (Int)) :=
  b_bind (F_X12_nextOf 1 v4 v1 v2 M) (fun x44 => some (.inl (v3, x44)))
theorem t_X12_strip_b221 {l : Launch} {E : bE} {Q : (Int × bM) → Prop} {v1 : Int} {v2 : Int} {v3 : Int} {v4 : Int} {M : bM} (h : b_wp (F_X12_strip_b221 v1 v2 v3 v4 M) (Sum.elim (A_X12_strip_80 l E Q v1 v2 M) (X_X12_strip_80 l E Q v1 v2 M))) : V l E xX12_strip (0, 0) 221 [(0, bR 11), (1, bI v1), (2, bI v2), (3, bI v3), (4, bI v4)] [] M (b_pI Q) := by
  unfold F_X12_strip_b221 at h
  refine v_aload_n (f := 0) 0 rfl dX12_strip_221 ?_
  refine v_iconst ⟨by decide, by decide⟩ dX12_strip_222 ?_
  refine v_iload (i := 4) 4 rfl dX12_strip_223 ?_
  refine v_iload_n (f := 1) 1 rfl dX12_strip_225 ?_
  refine v_iload_n (f := 2) 2 rfl dX12_strip_226 ?_
  refine v_cVIp (nA := 4) (As := [bI _, bI _, bI _, bI _]) (ix := 434) (cf_X12_nextOf (b_wp_b h)) rfl kd_11 rfl rfl wc_X12_nextOf wm_12_434 wi_X12_nextOf ws_X12_nextOf wn_12 ⟨by decide, by decide, by decide⟩ rfl ⟨by decide, by decide⟩ ⟨by decide, by decide⟩ (Nat.le_of_ble_eq_true rfl) dX12_strip_227 (fun x44 h => ?_)
  refine v_istore (i := 4) (ls' := [(4, bI _), (0, bR _), (1, bI _), (2, bI _), (3, bI _)]) (by decide) dX12_strip_230 rfl ?_
  refine v_goto (tgt := 80) dX12_strip_232 (by decide) ?_
  refine v_sub (ls2 := [(0, bR _), (1, bI _), (2, bI _), (3, bI _), (4, bI _)]) [1, 2, 3, 4, 0] rfl ?_
  exact h
noncomputable def F_X12_strip_s80 (v1 : Int) (v2 : Int) (v3 : Int) (v4 : Int) (M : bM) : Option ((Int × Int) ⊕ (Int)) :=
  if 9999 ≤ v4 then (some (.inr (v3))) else (b_bind (F_X12_nextOf 1 v4 v1 v2 M) (fun x18 => b_g (b_i32 (x18 - v4)) (b_let ((x18 - v4)) (fun y20 => b_bind (F_X12_nextOf 0 (-9999) v1 v2 M) (fun x21 => b_bind (b_loop (fun t => F_X12_strip_s114 v1 v2 t.1 v4 y20 t.2 M) (v3, x21)) (fun t => F_X12_strip_b221 v1 v2 t v4 M))))))
theorem t_X12_strip_s80 {l : Launch} {E : bE} {Q : (Int × bM) → Prop} {v1 : Int} {v2 : Int} {v3 : Int} {v4 : Int} {M : bM} (h : b_wp (F_X12_strip_s80 v1 v2 v3 v4 M) (Sum.elim (A_X12_strip_80 l E Q v1 v2 M) (X_X12_strip_80 l E Q v1 v2 M))) : V l E xX12_strip (0, 0) 80 [(0, bR 11), (1, bI v1), (2, bI v2), (3, bI v3), (4, bI v4)] [] M (b_pI Q) := by
  unfold F_X12_strip_s80 at h
  refine v_iload (i := 4) 4 rfl dX12_strip_80 ?_
  refine v_sipush ⟨by decide, by decide⟩ (by decide) dX12_strip_82 ?_
  refine v_icmp_ge (tgt := 235) dX12_strip_85 (by decide) (fun c17 => ?_) (fun c17 => ?_)
  · replace h := b_wp_t c17 h
    refine v_sub (ls2 := [(3, bI _)]) [3] rfl ?_
    exact h
  · replace h := b_wp_f c17 h
    refine v_aload_n (f := 0) 0 rfl dX12_strip_88 ?_
    refine v_iconst ⟨by decide, by decide⟩ dX12_strip_89 ?_
    refine v_iload (i := 4) 4 rfl dX12_strip_90 ?_
    refine v_iload_n (f := 1) 1 rfl dX12_strip_92 ?_
    refine v_iload_n (f := 2) 2 rfl dX12_strip_93 ?_
    refine v_cVIp (nA := 4) (As := [bI _, bI _, bI _, bI _]) (ix := 434) (cf_X12_nextOf (b_wp_b h)) rfl kd_11 rfl rfl wc_X12_nextOf wm_12_434 wi_X12_nextOf ws_X12_nextOf wn_12 ⟨by decide, by decide, by decide⟩ rfl ⟨by decide, by decide⟩ ⟨by decide, by decide⟩ (Nat.le_of_ble_eq_true rfl) dX12_strip_94 (fun x18 h => ?_)
    obtain ⟨g19, h⟩ := b_wp_g h
    refine v_iload (i := 4) 4 rfl dX12_strip_97 ?_
    refine v_isubN g19 dX12_strip_99 ?_
    replace h := b_wp_l h
    refine v_istore (i := 5) (ls' := [(5, bI _), (0, bR _), (1, bI _), (2, bI _), (3, bI _), (4, bI _)]) (by decide) dX12_strip_100 rfl ?_
    refine v_aload_n (f := 0) 1 rfl dX12_strip_102 ?_
    refine v_iconst ⟨by decide, by decide⟩ dX12_strip_103 ?_
    refine v_sipush ⟨by decide, by decide⟩ (by decide) dX12_strip_104 ?_
    refine v_iload_n (f := 1) 2 rfl dX12_strip_107 ?_
    refine v_iload_n (f := 2) 3 rfl dX12_strip_108 ?_
    refine v_cVIp (nA := 4) (As := [bI _, bI _, bI _, bI _]) (ix := 434) (cf_X12_nextOf (b_wp_b h)) rfl kd_11 rfl rfl wc_X12_nextOf wm_12_434 wi_X12_nextOf ws_X12_nextOf wn_12 ⟨by decide, by decide, by decide⟩ rfl ⟨by decide, by decide⟩ ⟨by decide, by decide⟩ (Nat.le_of_ble_eq_true rfl) dX12_strip_109 (fun x21 h => ?_)
    refine v_istore (i := 6) (ls' := [(6, bI _), (5, bI _), (0, bR _), (1, bI _), (2, bI _), (3, bI _), (4, bI _)]) (by decide) dX12_strip_112 rfl ?_
    refine v_sub (ls2 := [(0, bR _), (1, bI _), (2, bI _), (3, bI _), (4, bI _), (5, bI _), (6, bI _)]) [2, 3, 4, 5, 6, 1, 0] rfl ?_
    refine l_X12_strip_114 (b_wp_m (fun t h => ?_) (b_wp_b h))
    show V l E xX12_strip (0, 0) 221 [(0, bR 11), (1, bI _), (2, bI _), (3, bI _), (4, bI _)] [] _ (b_pI Q)
    exact t_X12_strip_b221 h
theorem l_X12_strip_80 {l : Launch} {E : bE} {Q : (Int × bM) → Prop} {v1 : Int} {v2 : Int} {M : bM} {s : Int × Int} (h : b_wp (b_loop (fun t => F_X12_strip_s80 v1 v2 t.1 t.2 M) s) (X_X12_strip_80 l E Q v1 v2 M)) : A_X12_strip_80 l E Q v1 v2 M s := b_loop_wp (fun t h => t_X12_strip_s80 h) s h
noncomputable def F_X12_strip_b235 (v3 : Int) (M : bM) : Option (Int × bM) :=
  some (v3, M)
theorem t_X12_strip_b235 {l : Launch} {E : bE} {Q : (Int × bM) → Prop} {v3 : Int} {M : bM} (h : b_wp (F_X12_strip_b235 v3 M) (Q)) : V l E xX12_strip (0, 0) 235 [(3, bI v3)] [] M (b_pI Q) := by
  unfold F_X12_strip_b235 at h
  refine v_iload_n (f := 3) 0 rfl dX12_strip_235 ?_
  refine v_ireturn rfl dX12_strip_236 ⟨by decide, by decide⟩ ?_
  exact ⟨_, rfl, h⟩
noncomputable def F_X12_strip (v1 : Int) (v2 : Int) (M : bM) : Option (Int × bM) :=
  b_bind (F_X12_isLot v1 M) (fun x1 => if x1 = 0 then (some ((-2), M)) else (b_bind (F_X12_isLot v2 M) (fun x3 => if x3 = 0 then (some ((-2), M)) else (if v1 = v2 then (some ((-2), M)) else (b_g (0 ≤ v1 ∧ v1 < 60) (if (M 175 v1) = 0 then (some ((-4), M)) else (b_g (0 ≤ v2 ∧ v2 < 60) (if (M 175 v2) = 0 then (some ((-4), M)) else (b_bind (F_X12_isArea v1 0 M) (fun t => b_two t (fun x10 M11 => if x10 = 0 then (some ((-1), M11)) else (b_bind (F_X12_isArea v2 13 M11) (fun t => b_two t (fun x13 M14 => if x13 = 0 then (some ((-1), M14)) else (b_bind (F_X12_nextOf 1 (-9999) v1 v2 M14) (fun x16 => b_bind (b_loop (fun t => F_X12_strip_s80 v1 v2 t.1 t.2 M14) (0, x16)) (fun t => F_X12_strip_b235 t M14)))))))))))))))))
theorem t_X12_strip {l : Launch} {E : bE} {Q : (Int × bM) → Prop} {v1 : Int} {v2 : Int} {M : bM} (h : b_wp (F_X12_strip v1 v2 M) (Q)) : V l E xX12_strip (0, 0) 0 [(0, bR 11), (1, bI v1), (2, bI v2)] [] M (b_pI Q) := by
  unfold F_X12_strip at h
  refine v_aload_n (f := 0) 0 rfl dX12_strip_0 ?_
  refine v_iload_n (f := 1) 1 rfl dX12_strip_1 ?_
  refine v_cVIp (nA := 1) (As := [bI _]) (ix := 385) (cf_X12_isLot (b_wp_b h)) rfl kd_11 rfl rfl wc_X12_isLot wm_12_385 wi_X12_isLot ws_X12_isLot wn_12 ⟨by decide, by decide, by decide⟩ rfl ⟨by decide, by decide⟩ ⟨by decide, by decide⟩ (Nat.le_of_ble_eq_true rfl) dX12_strip_2 (fun x1 h => ?_)
  refine v_if_eq (tgt := 21) dX12_strip_5 (by decide) (fun c2 => ?_) (fun c2 => ?_)
  · replace h := b_wp_t c2 h
    refine v_bipush ⟨by decide, by decide⟩ (by decide) dX12_strip_21 ?_
    refine v_ireturn rfl dX12_strip_23 ⟨by decide, by decide⟩ ?_
    exact ⟨_, rfl, h⟩
  · replace h := b_wp_f c2 h
    refine v_aload_n (f := 0) 0 rfl dX12_strip_8 ?_
    refine v_iload_n (f := 2) 2 rfl dX12_strip_9 ?_
    refine v_cVIp (nA := 1) (As := [bI _]) (ix := 385) (cf_X12_isLot (b_wp_b h)) rfl kd_11 rfl rfl wc_X12_isLot wm_12_385 wi_X12_isLot ws_X12_isLot wn_12 ⟨by decide, by decide, by decide⟩ rfl ⟨by decide, by decide⟩ ⟨by decide, by decide⟩ (Nat.le_of_ble_eq_true rfl) dX12_strip_10 (fun x3 h => ?_)
    refine v_if_eq (tgt := 21) dX12_strip_13 (by decide) (fun c4 => ?_) (fun c4 => ?_)
    · replace h := b_wp_t c4 h
      refine v_bipush ⟨by decide, by decide⟩ (by decide) dX12_strip_21 ?_
      refine v_ireturn rfl dX12_strip_23 ⟨by decide, by decide⟩ ?_
      exact ⟨_, rfl, h⟩
    · replace h := b_wp_f c4 h
      refine v_iload_n (f := 1) 1 rfl dX12_strip_16 ?_
      refine v_iload_n (f := 2) 2 rfl dX12_strip_17 ?_
      refine v_icmp_ne (tgt := 24) dX12_strip_18 (by decide) (fun c5 => ?_) (fun c5 => ?_)
      · replace h := b_wp_f c5 h
        obtain ⟨g6, h⟩ := b_wp_g h
        refine v_aload_n (f := 0) 0 rfl dX12_strip_24 ?_
        refine v_getR (kf := 27) (kz := 27) rfl kd_11 rfl ⟨by decide, by decide⟩ rfl wf_12_55 dX12_strip_25 ?_
        refine v_iload_n (f := 1) 1 rfl dX12_strip_28 ?_
        refine v_iaload kd_175 g6 (by decide) dX12_strip_29 ?_
        refine v_if_eq (tgt := 42) dX12_strip_30 (by decide) (fun c7 => ?_) (fun c7 => ?_)
        · replace h := b_wp_t c7 h
          refine v_bipush ⟨by decide, by decide⟩ (by decide) dX12_strip_42 ?_
          refine v_ireturn rfl dX12_strip_44 ⟨by decide, by decide⟩ ?_
          exact ⟨_, rfl, h⟩
        · replace h := b_wp_f c7 h
          obtain ⟨g8, h⟩ := b_wp_g h
          refine v_aload_n (f := 0) 0 rfl dX12_strip_33 ?_
          refine v_getR (kf := 27) (kz := 27) rfl kd_11 rfl ⟨by decide, by decide⟩ rfl wf_12_55 dX12_strip_34 ?_
          refine v_iload_n (f := 2) 2 rfl dX12_strip_37 ?_
          refine v_iaload kd_175 g8 (by decide) dX12_strip_38 ?_
          refine v_if_ne (tgt := 45) dX12_strip_39 (by decide) (fun c9 => ?_) (fun c9 => ?_)
          · replace h := b_wp_f c9 h
            refine v_aload_n (f := 0) 0 rfl dX12_strip_45 ?_
            refine v_iload_n (f := 1) 1 rfl dX12_strip_46 ?_
            refine v_iconst ⟨by decide, by decide⟩ dX12_strip_47 ?_
            refine v_cVI (nA := 2) (As := [bI _, bI _]) (ix := 427) (cf_X12_isArea (b_wp_b h)) rfl kd_11 rfl rfl wc_X12_isArea wm_12_427 wi_X12_isArea ws_X12_isArea wn_12 ⟨by decide, by decide, by decide⟩ rfl ⟨by decide, by decide⟩ ⟨by decide, by decide⟩ (Nat.le_of_ble_eq_true rfl) dX12_strip_48 (fun x10 M11 h => ?_)
            replace h := b_wp_two h
            refine v_if_eq (tgt := 64) dX12_strip_51 (by decide) (fun c12 => ?_) (fun c12 => ?_)
            · replace h := b_wp_t c12 h
              refine v_iconst ⟨by decide, by decide⟩ dX12_strip_64 ?_
              refine v_ireturn rfl dX12_strip_65 ⟨by decide, by decide⟩ ?_
              exact ⟨_, rfl, h⟩
            · replace h := b_wp_f c12 h
              refine v_aload_n (f := 0) 0 rfl dX12_strip_54 ?_
              refine v_iload_n (f := 2) 2 rfl dX12_strip_55 ?_
              refine v_bipush ⟨by decide, by decide⟩ (by decide) dX12_strip_56 ?_
              refine v_cVI (nA := 2) (As := [bI _, bI _]) (ix := 427) (cf_X12_isArea (b_wp_b h)) rfl kd_11 rfl rfl wc_X12_isArea wm_12_427 wi_X12_isArea ws_X12_isArea wn_12 ⟨by decide, by decide, by decide⟩ rfl ⟨by decide, by decide⟩ ⟨by decide, by decide⟩ (Nat.le_of_ble_eq_true rfl) dX12_strip_58 (fun x13 M14 h => ?_)
              replace h := b_wp_two h
              refine v_if_ne (tgt := 66) dX12_strip_61 (by decide) (fun c15 => ?_) (fun c15 => ?_)
              · replace h := b_wp_f c15 h
                refine v_iconst ⟨by decide, by decide⟩ dX12_strip_66 ?_
                refine v_istore_n (g := 3) (i := 3) (ls' := [(3, bI _), (0, bR _), (1, bI _), (2, bI _)]) rfl (by decide) dX12_strip_67 rfl ?_
                refine v_aload_n (f := 0) 1 rfl dX12_strip_68 ?_
                refine v_iconst ⟨by decide, by decide⟩ dX12_strip_69 ?_
                refine v_sipush ⟨by decide, by decide⟩ (by decide) dX12_strip_70 ?_
                refine v_iload_n (f := 1) 2 rfl dX12_strip_73 ?_
                refine v_iload_n (f := 2) 3 rfl dX12_strip_74 ?_
                refine v_cVIp (nA := 4) (As := [bI _, bI _, bI _, bI _]) (ix := 434) (cf_X12_nextOf (b_wp_b h)) rfl kd_11 rfl rfl wc_X12_nextOf wm_12_434 wi_X12_nextOf ws_X12_nextOf wn_12 ⟨by decide, by decide, by decide⟩ rfl ⟨by decide, by decide⟩ ⟨by decide, by decide⟩ (Nat.le_of_ble_eq_true rfl) dX12_strip_75 (fun x16 h => ?_)
                refine v_istore (i := 4) (ls' := [(4, bI _), (3, bI _), (0, bR _), (1, bI _), (2, bI _)]) (by decide) dX12_strip_78 rfl ?_
                refine v_sub (ls2 := [(0, bR _), (1, bI _), (2, bI _), (3, bI _), (4, bI _)]) [2, 3, 4, 1, 0] rfl ?_
                refine l_X12_strip_80 (b_wp_m (fun t h => ?_) (b_wp_b h))
                show V l E xX12_strip (0, 0) 235 [(3, bI _)] [] _ (b_pI Q)
                exact t_X12_strip_b235 h
              · replace h := b_wp_t c15 h
                refine v_iconst ⟨by decide, by decide⟩ dX12_strip_64 ?_
                refine v_ireturn rfl dX12_strip_65 ⟨by decide, by decide⟩ ?_
                exact ⟨_, rfl, h⟩
          · replace h := b_wp_t c9 h
            refine v_bipush ⟨by decide, by decide⟩ (by decide) dX12_strip_42 ?_
            refine v_ireturn rfl dX12_strip_44 ⟨by decide, by decide⟩ ?_
            exact ⟨_, rfl, h⟩
      · replace h := b_wp_t c5 h
        refine v_bipush ⟨by decide, by decide⟩ (by decide) dX12_strip_21 ?_
        refine v_ireturn rfl dX12_strip_23 ⟨by decide, by decide⟩ ?_
        exact ⟨_, rfl, h⟩
theorem cf_X12_strip {l : Launch} {E : bE} {M : bM} {v1 : Int} {v2 : Int} {Q : (Int × bM) → Prop} (h : b_wp (F_X12_strip v1 v2 M) Q) : b_C l E xX12_strip yX12_strip [bR 11, bI v1, bI v2] M (b_pI Q) := b_met (by decide) ⟨rfl, rfl⟩ (Nat.le_of_ble_eq_true rfl) (fun _ _ => t_X12_strip h)
noncomputable def F_X12_plain (v0 : Int) (M : bM) : Option (Int) :=
  if v0 = 0 then (some 1) else (if v0 = 1 then (some 20) else (if v0 = 2 then (some 8) else (if v0 = 3 then (some 2) else (if v0 = 4 then (some 30) else (if v0 = 5 then (some 20) else (if v0 = 6 then (some 10) else (if v0 = 7 then (some 2) else (some 0))))))))
theorem t_X12_plain {l : Launch} {E : bE} {Q : Int → Prop} {v0 : Int} {M : bM} (h : b_wp (F_X12_plain v0 M) (Q)) : V l E xX12_plain (0, 0) 0 [(0, bI v0)] [] M (b_pIp M Q) := by
  unfold F_X12_plain at h
  refine v_iload_n (f := 0) 0 rfl dX12_plain_0 ?_
  refine v_case (v := 0) (fun c1 => ?_) (fun c2 => ?_)
  · refine v_tsIn (tgt := 48) (0) c1 (by decide) (by decide) rfl dX12_plain_1 (by decide) ?_
    replace h := b_wp_t c1 h
    refine v_iconst ⟨by decide, by decide⟩ dX12_plain_48 ?_
    refine v_ireturn rfl dX12_plain_49 ⟨by decide, by decide⟩ ?_
    exact ⟨_, rfl, rfl, h⟩
  replace h := b_wp_f c2 h
  refine v_case (v := 1) (fun c3 => ?_) (fun c4 => ?_)
  · refine v_tsIn (tgt := 50) (1) c3 (by decide) (by decide) rfl dX12_plain_1 (by decide) ?_
    replace h := b_wp_t c3 h
    refine v_bipush ⟨by decide, by decide⟩ (by decide) dX12_plain_50 ?_
    refine v_ireturn rfl dX12_plain_52 ⟨by decide, by decide⟩ ?_
    exact ⟨_, rfl, rfl, h⟩
  replace h := b_wp_f c4 h
  refine v_case (v := 2) (fun c5 => ?_) (fun c6 => ?_)
  · refine v_tsIn (tgt := 53) (2) c5 (by decide) (by decide) rfl dX12_plain_1 (by decide) ?_
    replace h := b_wp_t c5 h
    refine v_bipush ⟨by decide, by decide⟩ (by decide) dX12_plain_53 ?_
    refine v_ireturn rfl dX12_plain_55 ⟨by decide, by decide⟩ ?_
    exact ⟨_, rfl, rfl, h⟩
  replace h := b_wp_f c6 h
  refine v_case (v := 3) (fun c7 => ?_) (fun c8 => ?_)
  · refine v_tsIn (tgt := 56) (3) c7 (by decide) (by decide) rfl dX12_plain_1 (by decide) ?_
    replace h := b_wp_t c7 h
    refine v_iconst ⟨by decide, by decide⟩ dX12_plain_56 ?_
    refine v_ireturn rfl dX12_plain_57 ⟨by decide, by decide⟩ ?_
    exact ⟨_, rfl, rfl, h⟩
  replace h := b_wp_f c8 h
  refine v_case (v := 4) (fun c9 => ?_) (fun c10 => ?_)
  · refine v_tsIn (tgt := 58) (4) c9 (by decide) (by decide) rfl dX12_plain_1 (by decide) ?_
    replace h := b_wp_t c9 h
    refine v_bipush ⟨by decide, by decide⟩ (by decide) dX12_plain_58 ?_
    refine v_ireturn rfl dX12_plain_60 ⟨by decide, by decide⟩ ?_
    exact ⟨_, rfl, rfl, h⟩
  replace h := b_wp_f c10 h
  refine v_case (v := 5) (fun c11 => ?_) (fun c12 => ?_)
  · refine v_tsIn (tgt := 61) (5) c11 (by decide) (by decide) rfl dX12_plain_1 (by decide) ?_
    replace h := b_wp_t c11 h
    refine v_bipush ⟨by decide, by decide⟩ (by decide) dX12_plain_61 ?_
    refine v_ireturn rfl dX12_plain_63 ⟨by decide, by decide⟩ ?_
    exact ⟨_, rfl, rfl, h⟩
  replace h := b_wp_f c12 h
  refine v_case (v := 6) (fun c13 => ?_) (fun c14 => ?_)
  · refine v_tsIn (tgt := 64) (6) c13 (by decide) (by decide) rfl dX12_plain_1 (by decide) ?_
    replace h := b_wp_t c13 h
    refine v_bipush ⟨by decide, by decide⟩ (by decide) dX12_plain_64 ?_
    refine v_ireturn rfl dX12_plain_66 ⟨by decide, by decide⟩ ?_
    exact ⟨_, rfl, rfl, h⟩
  replace h := b_wp_f c14 h
  refine v_case (v := 7) (fun c15 => ?_) (fun c16 => ?_)
  · refine v_tsIn (tgt := 67) (7) c15 (by decide) (by decide) rfl dX12_plain_1 (by decide) ?_
    replace h := b_wp_t c15 h
    refine v_iconst ⟨by decide, by decide⟩ dX12_plain_67 ?_
    refine v_ireturn rfl dX12_plain_68 ⟨by decide, by decide⟩ ?_
    exact ⟨_, rfl, rfl, h⟩
  replace h := b_wp_f c16 h
  refine v_tsOut (tgt := 69) (by omega) dX12_plain_1 (by decide) ?_
  refine v_iconst ⟨by decide, by decide⟩ dX12_plain_69 ?_
  refine v_ireturn rfl dX12_plain_70 ⟨by decide, by decide⟩ ?_
  exact ⟨_, rfl, rfl, h⟩
theorem cf_X12_plain {l : Launch} {E : bE} {M : bM} {v0 : Int} {Q : Int → Prop} (h : b_wp (F_X12_plain v0 M) Q) : b_C l E xX12_plain yX12_plain [bI v0] M (b_pIp M Q) := b_met (by decide) ⟨rfl, rfl⟩ (Nat.le_of_ble_eq_true rfl) (fun _ _ => t_X12_plain h)
abbrev xX12_high : bX := ("BurntHallModel", prog_14_method_56_code, 1, (Option.some Jvm.ClassFile.FieldType.int), b_rm 1 0 0, 0, "high")
abbrev yX12_high : MethodName := ⟨"BurntHallModel", "high", "(I)I"⟩
theorem dX12_high_0 : decode prog_14_method_56_code 0 = .ok (.iload_n 0, 1) := by decide +kernel
theorem dX12_high_1 : decode prog_14_method_56_code 1 = .ok (.iconst 3, 1) := by decide +kernel
theorem dX12_high_2 : decode prog_14_method_56_code 2 = .ok (.if_icmp .lt 8, 3) := by decide +kernel
theorem dX12_high_5 : decode prog_14_method_56_code 5 = .ok (.iload_n 0, 1) := by decide +kernel
theorem dX12_high_6 : decode prog_14_method_56_code 6 = .ok (.iconst 4, 1) := by decide +kernel
theorem dX12_high_7 : decode prog_14_method_56_code 7 = .ok (.if_icmp .ne 9, 3) := by decide +kernel
theorem dX12_high_10 : decode prog_14_method_56_code 10 = .ok (.sipush 999, 3) := by decide +kernel
theorem dX12_high_13 : decode prog_14_method_56_code 13 = .ok (.goto 33, 3) := by decide +kernel
theorem dX12_high_16 : decode prog_14_method_56_code 16 = .ok (.iload_n 0, 1) := by decide +kernel
theorem dX12_high_17 : decode prog_14_method_56_code 17 = .ok (.iconst 3, 1) := by decide +kernel
theorem dX12_high_18 : decode prog_14_method_56_code 18 = .ok (.if_icmp .eq 9, 3) := by decide +kernel
theorem dX12_high_21 : decode prog_14_method_56_code 21 = .ok (.iload_n 0, 1) := by decide +kernel
theorem dX12_high_22 : decode prog_14_method_56_code 22 = .ok (.bipush 7, 2) := by decide +kernel
theorem dX12_high_24 : decode prog_14_method_56_code 24 = .ok (.if_icmp .ne 8, 3) := by decide +kernel
theorem dX12_high_27 : decode prog_14_method_56_code 27 = .ok (.bipush 20, 2) := by decide +kernel
theorem dX12_high_29 : decode prog_14_method_56_code 29 = .ok (.goto 17, 3) := by decide +kernel
theorem dX12_high_32 : decode prog_14_method_56_code 32 = .ok (.iload_n 0, 1) := by decide +kernel
theorem dX12_high_33 : decode prog_14_method_56_code 33 = .ok (.bipush 9, 2) := by decide +kernel
theorem dX12_high_35 : decode prog_14_method_56_code 35 = .ok (.if_icmp .ne 9, 3) := by decide +kernel
theorem dX12_high_38 : decode prog_14_method_56_code 38 = .ok (.sipush 9999, 3) := by decide +kernel
theorem dX12_high_41 : decode prog_14_method_56_code 41 = .ok (.goto 5, 3) := by decide +kernel
theorem dX12_high_44 : decode prog_14_method_56_code 44 = .ok (.bipush 99, 2) := by decide +kernel
theorem dX12_high_46 : decode prog_14_method_56_code 46 = .ok (.ireturn, 1) := by decide +kernel
noncomputable def F_X12_high (v0 : Int) (M : bM) : Option (Int) :=
  if v0 < 3 then (some 999) else (if v0 = 4 then (some 999) else (if v0 = 3 then (some 20) else (if v0 = 7 then (some 20) else (if v0 = 9 then (some 9999) else (some 99)))))
theorem t_X12_high {l : Launch} {E : bE} {Q : Int → Prop} {v0 : Int} {M : bM} (h : b_wp (F_X12_high v0 M) (Q)) : V l E xX12_high (0, 0) 0 [(0, bI v0)] [] M (b_pIp M Q) := by
  unfold F_X12_high at h
  refine v_iload_n (f := 0) 0 rfl dX12_high_0 ?_
  refine v_iconst ⟨by decide, by decide⟩ dX12_high_1 ?_
  refine v_icmp_lt (tgt := 10) dX12_high_2 (by decide) (fun c1 => ?_) (fun c1 => ?_)
  · replace h := b_wp_t c1 h
    refine v_sipush ⟨by decide, by decide⟩ (by decide) dX12_high_10 ?_
    refine v_goto (tgt := 46) dX12_high_13 (by decide) ?_
    refine v_ireturn rfl dX12_high_46 ⟨by decide, by decide⟩ ?_
    exact ⟨_, rfl, rfl, h⟩
  · replace h := b_wp_f c1 h
    refine v_iload_n (f := 0) 0 rfl dX12_high_5 ?_
    refine v_iconst ⟨by decide, by decide⟩ dX12_high_6 ?_
    refine v_icmp_ne (tgt := 16) dX12_high_7 (by decide) (fun c2 => ?_) (fun c2 => ?_)
    · replace h := b_wp_f c2 h
      refine v_iload_n (f := 0) 0 rfl dX12_high_16 ?_
      refine v_iconst ⟨by decide, by decide⟩ dX12_high_17 ?_
      refine v_icmp_eq (tgt := 27) dX12_high_18 (by decide) (fun c3 => ?_) (fun c3 => ?_)
      · replace h := b_wp_t c3 h
        refine v_bipush ⟨by decide, by decide⟩ (by decide) dX12_high_27 ?_
        refine v_goto (tgt := 46) dX12_high_29 (by decide) ?_
        refine v_ireturn rfl dX12_high_46 ⟨by decide, by decide⟩ ?_
        exact ⟨_, rfl, rfl, h⟩
      · replace h := b_wp_f c3 h
        refine v_iload_n (f := 0) 0 rfl dX12_high_21 ?_
        refine v_bipush ⟨by decide, by decide⟩ (by decide) dX12_high_22 ?_
        refine v_icmp_ne (tgt := 32) dX12_high_24 (by decide) (fun c4 => ?_) (fun c4 => ?_)
        · replace h := b_wp_f c4 h
          refine v_iload_n (f := 0) 0 rfl dX12_high_32 ?_
          refine v_bipush ⟨by decide, by decide⟩ (by decide) dX12_high_33 ?_
          refine v_icmp_ne (tgt := 44) dX12_high_35 (by decide) (fun c5 => ?_) (fun c5 => ?_)
          · replace h := b_wp_f c5 h
            refine v_bipush ⟨by decide, by decide⟩ (by decide) dX12_high_44 ?_
            refine v_ireturn rfl dX12_high_46 ⟨by decide, by decide⟩ ?_
            exact ⟨_, rfl, rfl, h⟩
          · replace h := b_wp_t c5 h
            refine v_sipush ⟨by decide, by decide⟩ (by decide) dX12_high_38 ?_
            refine v_goto (tgt := 46) dX12_high_41 (by decide) ?_
            refine v_ireturn rfl dX12_high_46 ⟨by decide, by decide⟩ ?_
            exact ⟨_, rfl, rfl, h⟩
        · replace h := b_wp_t c4 h
          refine v_bipush ⟨by decide, by decide⟩ (by decide) dX12_high_27 ?_
          refine v_goto (tgt := 46) dX12_high_29 (by decide) ?_
          refine v_ireturn rfl dX12_high_46 ⟨by decide, by decide⟩ ?_
          exact ⟨_, rfl, rfl, h⟩
    · replace h := b_wp_t c2 h
      refine v_sipush ⟨by decide, by decide⟩ (by decide) dX12_high_10 ?_
      refine v_goto (tgt := 46) dX12_high_13 (by decide) ?_
      refine v_ireturn rfl dX12_high_46 ⟨by decide, by decide⟩ ?_
      exact ⟨_, rfl, rfl, h⟩
theorem cf_X12_high {l : Launch} {E : bE} {M : bM} {v0 : Int} {Q : Int → Prop} (h : b_wp (F_X12_high v0 M) Q) : b_C l E xX12_high yX12_high [bI v0] M (b_pIp M Q) := b_met (by decide) ⟨rfl, rfl⟩ (Nat.le_of_ble_eq_true rfl) (fun _ _ => t_X12_high h)
abbrev xX12_addStep : bX := ("BurntHallModel", prog_14_method_57_code, 2, (Option.none : Option Jvm.ClassFile.FieldType), b_rm 1 0 0, 0, "addStep")
abbrev yX12_addStep : MethodName := ⟨"BurntHallModel", "addStep", "(I)V"⟩
theorem dX12_addStep_0 : decode prog_14_method_57_code 0 = .ok (.aload_n 0, 1) := by decide +kernel
theorem dX12_addStep_1 : decode prog_14_method_57_code 1 = .ok (.getfield 94, 3) := by decide +kernel
theorem dX12_addStep_4 : decode prog_14_method_57_code 4 = .ok (.bipush 100, 2) := by decide +kernel
theorem dX12_addStep_6 : decode prog_14_method_57_code 6 = .ok (.aload_n 0, 1) := by decide +kernel
theorem dX12_addStep_7 : decode prog_14_method_57_code 7 = .ok (.getfield 442, 3) := by decide +kernel
theorem dX12_addStep_10 : decode prog_14_method_57_code 10 = .ok (.imul, 1) := by decide +kernel
theorem dX12_addStep_11 : decode prog_14_method_57_code 11 = .ok (.aload_n 0, 1) := by decide +kernel
theorem dX12_addStep_12 : decode prog_14_method_57_code 12 = .ok (.getfield 91, 3) := by decide +kernel
theorem dX12_addStep_15 : decode prog_14_method_57_code 15 = .ok (.aload_n 0, 1) := by decide +kernel
theorem dX12_addStep_16 : decode prog_14_method_57_code 16 = .ok (.getfield 442, 3) := by decide +kernel
theorem dX12_addStep_19 : decode prog_14_method_57_code 19 = .ok (.iaload, 1) := by decide +kernel
theorem dX12_addStep_20 : decode prog_14_method_57_code 20 = .ok (.iadd, 1) := by decide +kernel
theorem dX12_addStep_21 : decode prog_14_method_57_code 21 = .ok (.iload_n 1, 1) := by decide +kernel
theorem dX12_addStep_22 : decode prog_14_method_57_code 22 = .ok (.iastore, 1) := by decide +kernel
theorem dX12_addStep_23 : decode prog_14_method_57_code 23 = .ok (.aload_n 0, 1) := by decide +kernel
theorem dX12_addStep_24 : decode prog_14_method_57_code 24 = .ok (.getfield 91, 3) := by decide +kernel
theorem dX12_addStep_27 : decode prog_14_method_57_code 27 = .ok (.aload_n 0, 1) := by decide +kernel
theorem dX12_addStep_28 : decode prog_14_method_57_code 28 = .ok (.getfield 442, 3) := by decide +kernel
theorem dX12_addStep_31 : decode prog_14_method_57_code 31 = .ok (.dup2, 1) := by decide +kernel
theorem dX12_addStep_32 : decode prog_14_method_57_code 32 = .ok (.iaload, 1) := by decide +kernel
theorem dX12_addStep_33 : decode prog_14_method_57_code 33 = .ok (.iconst 1, 1) := by decide +kernel
theorem dX12_addStep_34 : decode prog_14_method_57_code 34 = .ok (.iadd, 1) := by decide +kernel
theorem dX12_addStep_35 : decode prog_14_method_57_code 35 = .ok (.iastore, 1) := by decide +kernel
theorem dX12_addStep_36 : decode prog_14_method_57_code 36 = .ok (.return_, 1) := by decide +kernel
noncomputable def F_X12_addStep (v1 : Int) (M : bM) : Option (bM) :=
  b_g ((b_i32 (100 * (M 11 48))) ∧ (0 ≤ (M 11 48) ∧ (M 11 48) < 216) ∧ (b_i32 ((100 * (M 11 48)) + (M 187 (M 11 48)))) ∧ (0 ≤ ((100 * (M 11 48)) + (M 187 (M 11 48))) ∧ ((100 * (M 11 48)) + (M 187 (M 11 48))) < 21600)) (b_let (b_up M 188 ((100 * (M 11 48)) + (M 187 (M 11 48))) v1) (fun M5 => b_g ((0 ≤ (M5 11 48) ∧ (M5 11 48) < 216) ∧ (b_i32 ((M5 187 (M5 11 48)) + 1))) (b_let (b_up M5 187 (M5 11 48) ((M5 187 (M5 11 48)) + 1)) (fun M8 => some M8))))
theorem t_X12_addStep {l : Launch} {E : bE} {Q : bM → Prop} {v1 : Int} {M : bM} (h : b_wp (F_X12_addStep v1 M) (Q)) : V l E xX12_addStep (0, 0) 0 [(0, bR 11), (1, bI v1)] [] M (b_pV Q) := by
  unfold F_X12_addStep at h
  obtain ⟨⟨g1, g2, g3, g4⟩, h⟩ := b_wp_g h
  refine v_aload_n (f := 0) 0 rfl dX12_addStep_0 ?_
  refine v_getR (kf := 42) (kz := 42) rfl kd_11 rfl ⟨by decide, by decide⟩ rfl wf_12_94 dX12_addStep_1 ?_
  refine v_bipush ⟨by decide, by decide⟩ (by decide) dX12_addStep_4 ?_
  refine v_aload_n (f := 0) 0 rfl dX12_addStep_6 ?_
  refine v_getI (kf := 48) (kz := 48) rfl kd_11 rfl ⟨by decide, by decide⟩ rfl wf_12_442 dX12_addStep_7 ?_
  refine v_imulN g1 dX12_addStep_10 ?_
  refine v_aload_n (f := 0) 0 rfl dX12_addStep_11 ?_
  refine v_getR (kf := 41) (kz := 41) rfl kd_11 rfl ⟨by decide, by decide⟩ rfl wf_12_91 dX12_addStep_12 ?_
  refine v_aload_n (f := 0) 0 rfl dX12_addStep_15 ?_
  refine v_getI (kf := 48) (kz := 48) rfl kd_11 rfl ⟨by decide, by decide⟩ rfl wf_12_442 dX12_addStep_16 ?_
  refine v_iaload kd_187 g2 (by decide) dX12_addStep_19 ?_
  refine v_iaddN g3 dX12_addStep_20 ?_
  refine v_iload_n (f := 1) 1 rfl dX12_addStep_21 ?_
  refine v_iastore kd_188 g4 (by decide) dX12_addStep_22 ?_
  replace h := b_wp_l h
  obtain ⟨⟨g6, g7⟩, h⟩ := b_wp_g h
  refine v_aload_n (f := 0) 0 rfl dX12_addStep_23 ?_
  refine v_getR (kf := 41) (kz := 41) rfl kd_11 rfl ⟨by decide, by decide⟩ rfl wf_12_91 dX12_addStep_24 ?_
  refine v_aload_n (f := 0) 0 rfl dX12_addStep_27 ?_
  refine v_getI (kf := 48) (kz := 48) rfl kd_11 rfl ⟨by decide, by decide⟩ rfl wf_12_442 dX12_addStep_28 ?_
  refine v_dup2 rfl rfl dX12_addStep_31 ?_
  refine v_iaload kd_187 g6 (by decide) dX12_addStep_32 ?_
  refine v_iconst ⟨by decide, by decide⟩ dX12_addStep_33 ?_
  refine v_iaddN g7 dX12_addStep_34 ?_
  refine v_iastore kd_187 g6 (by decide) dX12_addStep_35 ?_
  replace h := b_wp_l h
  refine v_return rfl dX12_addStep_36 ⟨by decide, by decide⟩ ?_
  exact ⟨rfl, h⟩
theorem cf_X12_addStep {l : Launch} {E : bE} {M : bM} {v1 : Int} {Q : bM → Prop} (h : b_wp (F_X12_addStep v1 M) Q) : b_C l E xX12_addStep yX12_addStep [bR 11, bI v1] M (b_pV Q) := b_met (by decide) ⟨rfl, rfl⟩ (Nat.le_of_ble_eq_true rfl) (fun _ _ => t_X12_addStep h)
abbrev xX12_isTerm : bX := ("BurntHallModel", prog_14_method_58_code, 1, (Option.some Jvm.ClassFile.FieldType.boolean), b_rm 2 0 0, 0, "isTerm")
abbrev yX12_isTerm : MethodName := ⟨"BurntHallModel", "isTerm", "()Z"⟩
theorem dX12_isTerm_0 : decode prog_14_method_58_code 0 = .ok (.aload_n 0, 1) := by decide +kernel
theorem dX12_isTerm_1 : decode prog_14_method_58_code 1 = .ok (.getfield 316, 3) := by decide +kernel
theorem dX12_isTerm_4 : decode prog_14_method_58_code 4 = .ok (.iconst 2, 1) := by decide +kernel
theorem dX12_isTerm_5 : decode prog_14_method_58_code 5 = .ok (.if_icmp .eq 25, 3) := by decide +kernel
theorem dX12_isTerm_8 : decode prog_14_method_58_code 8 = .ok (.aload_n 0, 1) := by decide +kernel
theorem dX12_isTerm_9 : decode prog_14_method_58_code 9 = .ok (.getfield 316, 3) := by decide +kernel
theorem dX12_isTerm_12 : decode prog_14_method_58_code 12 = .ok (.iconst 1, 1) := by decide +kernel
theorem dX12_isTerm_13 : decode prog_14_method_58_code 13 = .ok (.if_icmp .ne 21, 3) := by decide +kernel
theorem dX12_isTerm_16 : decode prog_14_method_58_code 16 = .ok (.aload_n 0, 1) := by decide +kernel
theorem dX12_isTerm_17 : decode prog_14_method_58_code 17 = .ok (.getfield 313, 3) := by decide +kernel
theorem dX12_isTerm_20 : decode prog_14_method_58_code 20 = .ok (.bipush 18, 2) := by decide +kernel
theorem dX12_isTerm_22 : decode prog_14_method_58_code 22 = .ok (.bipush 24, 2) := by decide +kernel
theorem dX12_isTerm_24 : decode prog_14_method_58_code 24 = .ok (.invokestatic 279, 3) := by decide +kernel
theorem dX12_isTerm_27 : decode prog_14_method_58_code 27 = .ok (.ifCond .ne 7, 3) := by decide +kernel
theorem dX12_isTerm_30 : decode prog_14_method_58_code 30 = .ok (.iconst 1, 1) := by decide +kernel
theorem dX12_isTerm_31 : decode prog_14_method_58_code 31 = .ok (.goto 4, 3) := by decide +kernel
theorem dX12_isTerm_34 : decode prog_14_method_58_code 34 = .ok (.iconst 0, 1) := by decide +kernel
theorem dX12_isTerm_35 : decode prog_14_method_58_code 35 = .ok (.ireturn, 1) := by decide +kernel
noncomputable def F_X12_isTerm (M : bM) : Option (Int) :=
  if (M 11 3) = 2 then (some 1) else (if (M 11 3) = 1 then (b_bind (F_X12_in (M 11 4) 18 24 M) (fun x3 => if x3 = 0 then (some 1) else (some 0))) else (some 0))
theorem t_X12_isTerm {l : Launch} {E : bE} {Q : Int → Prop} {M : bM} (h : b_wp (F_X12_isTerm M) (Q)) : V l E xX12_isTerm (0, 0) 0 [(0, bR 11)] [] M (b_pIp M Q) := by
  unfold F_X12_isTerm at h
  refine v_aload_n (f := 0) 0 rfl dX12_isTerm_0 ?_
  refine v_getI (kf := 3) (kz := 3) rfl kd_11 rfl ⟨by decide, by decide⟩ rfl wf_12_316 dX12_isTerm_1 ?_
  refine v_iconst ⟨by decide, by decide⟩ dX12_isTerm_4 ?_
  refine v_icmp_eq (tgt := 30) dX12_isTerm_5 (by decide) (fun c1 => ?_) (fun c1 => ?_)
  · replace h := b_wp_t c1 h
    refine v_iconst ⟨by decide, by decide⟩ dX12_isTerm_30 ?_
    refine v_goto (tgt := 35) dX12_isTerm_31 (by decide) ?_
    refine v_zreturn rfl (Or.inr rfl) dX12_isTerm_35 ⟨by decide, by decide⟩ ?_
    exact ⟨_, rfl, rfl, h⟩
  · replace h := b_wp_f c1 h
    refine v_aload_n (f := 0) 0 rfl dX12_isTerm_8 ?_
    refine v_getI (kf := 3) (kz := 3) rfl kd_11 rfl ⟨by decide, by decide⟩ rfl wf_12_316 dX12_isTerm_9 ?_
    refine v_iconst ⟨by decide, by decide⟩ dX12_isTerm_12 ?_
    refine v_icmp_ne (tgt := 34) dX12_isTerm_13 (by decide) (fun c2 => ?_) (fun c2 => ?_)
    · replace h := b_wp_f c2 h
      refine v_iconst ⟨by decide, by decide⟩ dX12_isTerm_34 ?_
      refine v_zreturn rfl (Or.inl rfl) dX12_isTerm_35 ⟨by decide, by decide⟩ ?_
      exact ⟨_, rfl, rfl, h⟩
    · replace h := b_wp_t c2 h
      refine v_aload_n (f := 0) 0 rfl dX12_isTerm_16 ?_
      refine v_getI (kf := 4) (kz := 4) rfl kd_11 rfl ⟨by decide, by decide⟩ rfl wf_12_313 dX12_isTerm_17 ?_
      refine v_bipush ⟨by decide, by decide⟩ (by decide) dX12_isTerm_20 ?_
      refine v_bipush ⟨by decide, by decide⟩ (by decide) dX12_isTerm_22 ?_
      refine v_cSIp (nA := 3) (As := [bI _, bI _, bI _]) (ix := 279) (cf_X12_in (b_wp_b h)) rfl wc_X12_in wm_12_279 wi_X12_in wn_12 ⟨by decide, by decide, by decide⟩ rfl ⟨by decide, by decide⟩ ⟨by decide, by decide⟩ (Nat.le_of_ble_eq_true rfl) dX12_isTerm_24 (fun x3 h => ?_)
      refine v_if_ne (tgt := 34) dX12_isTerm_27 (by decide) (fun c4 => ?_) (fun c4 => ?_)
      · replace h := b_wp_f c4 h
        refine v_iconst ⟨by decide, by decide⟩ dX12_isTerm_34 ?_
        refine v_zreturn rfl (Or.inl rfl) dX12_isTerm_35 ⟨by decide, by decide⟩ ?_
        exact ⟨_, rfl, rfl, h⟩
      · replace h := b_wp_t c4 h
        refine v_iconst ⟨by decide, by decide⟩ dX12_isTerm_30 ?_
        refine v_goto (tgt := 35) dX12_isTerm_31 (by decide) ?_
        refine v_zreturn rfl (Or.inr rfl) dX12_isTerm_35 ⟨by decide, by decide⟩ ?_
        exact ⟨_, rfl, rfl, h⟩
theorem cf_X12_isTerm {l : Launch} {E : bE} {M : bM} {Q : Int → Prop} (h : b_wp (F_X12_isTerm M) Q) : b_C l E xX12_isTerm yX12_isTerm [bR 11] M (b_pIp M Q) := b_met (by decide) ⟨rfl, rfl⟩ (Nat.le_of_ble_eq_true rfl) (fun _ _ => t_X12_isTerm h)
abbrev xX12_readSum : bX := ("BurntHallModel", prog_14_method_59_code, 2, (Option.some Jvm.ClassFile.FieldType.boolean), b_rm 8 0 0, 0, "readSum")
abbrev yX12_readSum : MethodName := ⟨"BurntHallModel", "readSum", "(I)Z"⟩
theorem dX12_readSum_0 : decode prog_14_method_59_code 0 = .ok (.aload_n 0, 1) := by decide +kernel
theorem dX12_readSum_1 : decode prog_14_method_59_code 1 = .ok (.iconst 0, 1) := by decide +kernel
theorem dX12_readSum_2 : decode prog_14_method_59_code 2 = .ok (.putfield 392, 3) := by decide +kernel
theorem dX12_readSum_5 : decode prog_14_method_59_code 5 = .ok (.aload_n 0, 1) := by decide +kernel
theorem dX12_readSum_6 : decode prog_14_method_59_code 6 = .ok (.invokevirtual 445, 3) := by decide +kernel
theorem dX12_readSum_9 : decode prog_14_method_59_code 9 = .ok (.ifCond .ne 9, 3) := by decide +kernel
theorem dX12_readSum_12 : decode prog_14_method_59_code 12 = .ok (.aload_n 0, 1) := by decide +kernel
theorem dX12_readSum_13 : decode prog_14_method_59_code 13 = .ok (.iconst 1, 1) := by decide +kernel
theorem dX12_readSum_14 : decode prog_14_method_59_code 14 = .ok (.invokevirtual 389, 3) := by decide +kernel
theorem dX12_readSum_17 : decode prog_14_method_59_code 17 = .ok (.ireturn, 1) := by decide +kernel
theorem dX12_readSum_18 : decode prog_14_method_59_code 18 = .ok (.aload_n 0, 1) := by decide +kernel
theorem dX12_readSum_19 : decode prog_14_method_59_code 19 = .ok (.getfield 392, 3) := by decide +kernel
theorem dX12_readSum_22 : decode prog_14_method_59_code 22 = .ok (.iconst 3, 1) := by decide +kernel
theorem dX12_readSum_23 : decode prog_14_method_59_code 23 = .ok (.if_icmp .ne 9, 3) := by decide +kernel
theorem dX12_readSum_26 : decode prog_14_method_59_code 26 = .ok (.aload_n 0, 1) := by decide +kernel
theorem dX12_readSum_27 : decode prog_14_method_59_code 27 = .ok (.iconst 4, 1) := by decide +kernel
theorem dX12_readSum_28 : decode prog_14_method_59_code 28 = .ok (.invokevirtual 389, 3) := by decide +kernel
theorem dX12_readSum_31 : decode prog_14_method_59_code 31 = .ok (.ireturn, 1) := by decide +kernel
theorem dX12_readSum_32 : decode prog_14_method_59_code 32 = .ok (.aload_n 0, 1) := by decide +kernel
theorem dX12_readSum_33 : decode prog_14_method_59_code 33 = .ok (.getfield 106, 3) := by decide +kernel
theorem dX12_readSum_36 : decode prog_14_method_59_code 36 = .ok (.iload_n 1, 1) := by decide +kernel
theorem dX12_readSum_37 : decode prog_14_method_59_code 37 = .ok (.aload_n 0, 1) := by decide +kernel
theorem dX12_readSum_38 : decode prog_14_method_59_code 38 = .ok (.getfield 392, 3) := by decide +kernel
theorem dX12_readSum_41 : decode prog_14_method_59_code 41 = .ok (.iadd, 1) := by decide +kernel
theorem dX12_readSum_42 : decode prog_14_method_59_code 42 = .ok (.aload_n 0, 1) := by decide +kernel
theorem dX12_readSum_43 : decode prog_14_method_59_code 43 = .ok (.getfield 316, 3) := by decide +kernel
theorem dX12_readSum_46 : decode prog_14_method_59_code 46 = .ok (.iconst 2, 1) := by decide +kernel
theorem dX12_readSum_47 : decode prog_14_method_59_code 47 = .ok (.if_icmp .ne 7, 3) := by decide +kernel
theorem dX12_readSum_50 : decode prog_14_method_59_code 50 = .ok (.lconst 0, 1) := by decide +kernel
theorem dX12_readSum_51 : decode prog_14_method_59_code 51 = .ok (.goto 7, 3) := by decide +kernel
theorem dX12_readSum_54 : decode prog_14_method_59_code 54 = .ok (.aload_n 0, 1) := by decide +kernel
theorem dX12_readSum_55 : decode prog_14_method_59_code 55 = .ok (.getfield 323, 3) := by decide +kernel
theorem dX12_readSum_58 : decode prog_14_method_59_code 58 = .ok (.lastore, 1) := by decide +kernel
theorem dX12_readSum_59 : decode prog_14_method_59_code 59 = .ok (.aload_n 0, 1) := by decide +kernel
theorem dX12_readSum_60 : decode prog_14_method_59_code 60 = .ok (.getfield 109, 3) := by decide +kernel
theorem dX12_readSum_63 : decode prog_14_method_59_code 63 = .ok (.iload_n 1, 1) := by decide +kernel
theorem dX12_readSum_64 : decode prog_14_method_59_code 64 = .ok (.aload_n 0, 1) := by decide +kernel
theorem dX12_readSum_65 : decode prog_14_method_59_code 65 = .ok (.getfield 392, 3) := by decide +kernel
theorem dX12_readSum_68 : decode prog_14_method_59_code 68 = .ok (.iadd, 1) := by decide +kernel
theorem dX12_readSum_69 : decode prog_14_method_59_code 69 = .ok (.aload_n 0, 1) := by decide +kernel
theorem dX12_readSum_70 : decode prog_14_method_59_code 70 = .ok (.getfield 316, 3) := by decide +kernel
theorem dX12_readSum_73 : decode prog_14_method_59_code 73 = .ok (.iconst 2, 1) := by decide +kernel
theorem dX12_readSum_74 : decode prog_14_method_59_code 74 = .ok (.if_icmp .ne 10, 3) := by decide +kernel
theorem dX12_readSum_77 : decode prog_14_method_59_code 77 = .ok (.aload_n 0, 1) := by decide +kernel
theorem dX12_readSum_78 : decode prog_14_method_59_code 78 = .ok (.getfield 338, 3) := by decide +kernel
theorem dX12_readSum_81 : decode prog_14_method_59_code 81 = .ok (.goto 4, 3) := by decide +kernel
theorem dX12_readSum_84 : decode prog_14_method_59_code 84 = .ok (.iconst 0, 1) := by decide +kernel
theorem dX12_readSum_85 : decode prog_14_method_59_code 85 = .ok (.iastore, 1) := by decide +kernel
theorem dX12_readSum_86 : decode prog_14_method_59_code 86 = .ok (.aload_n 0, 1) := by decide +kernel
theorem dX12_readSum_87 : decode prog_14_method_59_code 87 = .ok (.dup, 1) := by decide +kernel
theorem dX12_readSum_88 : decode prog_14_method_59_code 88 = .ok (.getfield 392, 3) := by decide +kernel
theorem dX12_readSum_91 : decode prog_14_method_59_code 91 = .ok (.iconst 1, 1) := by decide +kernel
theorem dX12_readSum_92 : decode prog_14_method_59_code 92 = .ok (.iadd, 1) := by decide +kernel
theorem dX12_readSum_93 : decode prog_14_method_59_code 93 = .ok (.putfield 392, 3) := by decide +kernel
theorem dX12_readSum_96 : decode prog_14_method_59_code 96 = .ok (.aload_n 0, 1) := by decide +kernel
theorem dX12_readSum_97 : decode prog_14_method_59_code 97 = .ok (.invokevirtual 292, 3) := by decide +kernel
theorem dX12_readSum_100 : decode prog_14_method_59_code 100 = .ok (.aload_n 0, 1) := by decide +kernel
theorem dX12_readSum_101 : decode prog_14_method_59_code 101 = .ok (.getfield 316, 3) := by decide +kernel
theorem dX12_readSum_104 : decode prog_14_method_59_code 104 = .ok (.bipush 7, 2) := by decide +kernel
theorem dX12_readSum_106 : decode prog_14_method_59_code 106 = .ok (.if_icmp .eq 5, 3) := by decide +kernel
theorem dX12_readSum_109 : decode prog_14_method_59_code 109 = .ok (.iconst 1, 1) := by decide +kernel
theorem dX12_readSum_110 : decode prog_14_method_59_code 110 = .ok (.ireturn, 1) := by decide +kernel
theorem dX12_readSum_111 : decode prog_14_method_59_code 111 = .ok (.aload_n 0, 1) := by decide +kernel
theorem dX12_readSum_112 : decode prog_14_method_59_code 112 = .ok (.invokevirtual 292, 3) := by decide +kernel
theorem dX12_readSum_115 : decode prog_14_method_59_code 115 = .ok (.goto (-110), 3) := by decide +kernel
abbrev A_X12_readSum_5 (l : Launch) (E : bE) (Q : (Int × bM) → Prop) (v1 : Int) : (bM) → Prop := (fun t : bM => V l E xX12_readSum (0, 0) 5 [(0, bR 11), (1, bI v1)] [] t (b_pI Q))
abbrev X_X12_readSum_5 (l : Launch) (E : bE) (Q : (Int × bM) → Prop) (v1 : Int) : (Int × bM) → Prop := Q
noncomputable def F_X12_readSum_b85 (v1 : Int) (u1 : Int) (u2 : Int) (M : bM) : Option ((bM) ⊕ (Int × bM)) :=
  b_g (0 ≤ u1 ∧ u1 < 15552) (b_let (b_up M 193 u1 u2) (fun M12 => b_g (b_i32 ((M12 11 32) + 1)) (b_let (b_up M12 11 32 ((M12 11 32) + 1)) (fun M14 => b_bind (F_X12_scan M14) (fun M15 => if (M15 11 3) = 7 then (b_bind (F_X12_scan M15) (fun M17 => some (.inl (M17)))) else (some (.inr (1, M15))))))))
theorem t_X12_readSum_b85 {l : Launch} {E : bE} {Q : (Int × bM) → Prop} {v1 : Int} {u1 : Int} {u2 : Int} {M : bM} (hfg : b_fg E) (h : b_wp (F_X12_readSum_b85 v1 u1 u2 M) (Sum.elim (A_X12_readSum_5 l E Q v1) (X_X12_readSum_5 l E Q v1))) : V l E xX12_readSum (0, 0) 85 [(0, bR 11), (1, bI v1)] [bI u2, bI u1, bR 193] M (b_pI Q) := by
  unfold F_X12_readSum_b85 at h
  obtain ⟨g11, h⟩ := b_wp_g h
  refine v_iastore kd_193 g11 (by decide) dX12_readSum_85 ?_
  replace h := b_wp_l h
  obtain ⟨g13, h⟩ := b_wp_g h
  refine v_aload_n (f := 0) 0 rfl dX12_readSum_86 ?_
  refine v_dup rfl dX12_readSum_87 ?_
  refine v_getI (kf := 32) (kz := 32) rfl kd_11 rfl ⟨by decide, by decide⟩ rfl wf_12_392 dX12_readSum_88 ?_
  refine v_iconst ⟨by decide, by decide⟩ dX12_readSum_91 ?_
  refine v_iaddN g13 dX12_readSum_92 ?_
  refine v_putI (kf := 32) (kz := 32) rfl kd_11 rfl ⟨by decide, by decide⟩ rfl wf_12_392 rfl rfl dX12_readSum_93 ?_
  replace h := b_wp_l h
  refine v_aload_n (f := 0) 0 rfl dX12_readSum_96 ?_
  refine v_cVV (nA := 0) (As := []) (ix := 292) (cf_X12_scan hfg (b_wp_b h)) rfl kd_11 rfl rfl wc_X12_scan wm_12_292 wi_X12_scan ws_X12_scan wn_12 ⟨by decide, by decide, by decide⟩ rfl ⟨by decide, by decide⟩ ⟨by decide, by decide⟩ (Nat.le_of_ble_eq_true rfl) dX12_readSum_97 (fun M15 h => ?_)
  refine v_aload_n (f := 0) 0 rfl dX12_readSum_100 ?_
  refine v_getI (kf := 3) (kz := 3) rfl kd_11 rfl ⟨by decide, by decide⟩ rfl wf_12_316 dX12_readSum_101 ?_
  refine v_bipush ⟨by decide, by decide⟩ (by decide) dX12_readSum_104 ?_
  refine v_icmp_eq (tgt := 111) dX12_readSum_106 (by decide) (fun c16 => ?_) (fun c16 => ?_)
  · replace h := b_wp_t c16 h
    refine v_aload_n (f := 0) 0 rfl dX12_readSum_111 ?_
    refine v_cVV (nA := 0) (As := []) (ix := 292) (cf_X12_scan hfg (b_wp_b h)) rfl kd_11 rfl rfl wc_X12_scan wm_12_292 wi_X12_scan ws_X12_scan wn_12 ⟨by decide, by decide, by decide⟩ rfl ⟨by decide, by decide⟩ ⟨by decide, by decide⟩ (Nat.le_of_ble_eq_true rfl) dX12_readSum_112 (fun M17 h => ?_)
    refine v_goto (tgt := 5) dX12_readSum_115 (by decide) ?_
    exact h
  · replace h := b_wp_f c16 h
    refine v_iconst ⟨by decide, by decide⟩ dX12_readSum_109 ?_
    refine v_zreturn rfl (Or.inr rfl) dX12_readSum_110 ⟨by decide, by decide⟩ ?_
    exact ⟨_, rfl, h⟩
noncomputable def F_X12_readSum_b58 (v1 : Int) (u1 : Int) (u2 : Int) (M : bM) : Option ((bM) ⊕ (Int × bM)) :=
  b_g (0 ≤ u1 ∧ u1 < 15552) (b_let (b_up M 192 u1 u2) (fun M8 => b_g (b_i32 (v1 + (M8 11 32))) (if (M8 11 3) = 2 then (F_X12_readSum_b85 v1 (v1 + (M8 11 32)) (M8 11 7) M8) else (F_X12_readSum_b85 v1 (v1 + (M8 11 32)) 0 M8))))
theorem t_X12_readSum_b58 {l : Launch} {E : bE} {Q : (Int × bM) → Prop} {v1 : Int} {u1 : Int} {u2 : Int} {M : bM} (hfg : b_fg E) (h : b_wp (F_X12_readSum_b58 v1 u1 u2 M) (Sum.elim (A_X12_readSum_5 l E Q v1) (X_X12_readSum_5 l E Q v1))) : V l E xX12_readSum (0, 0) 58 [(0, bR 11), (1, bI v1)] [bJ u2, bI u1, bR 192] M (b_pI Q) := by
  unfold F_X12_readSum_b58 at h
  obtain ⟨g7, h⟩ := b_wp_g h
  refine v_lastore kd_192 g7 (by decide) dX12_readSum_58 ?_
  replace h := b_wp_l h
  obtain ⟨g9, h⟩ := b_wp_g h
  refine v_aload_n (f := 0) 0 rfl dX12_readSum_59 ?_
  refine v_getR (kf := 47) (kz := 47) rfl kd_11 rfl ⟨by decide, by decide⟩ rfl wf_12_109 dX12_readSum_60 ?_
  refine v_iload_n (f := 1) 1 rfl dX12_readSum_63 ?_
  refine v_aload_n (f := 0) 0 rfl dX12_readSum_64 ?_
  refine v_getI (kf := 32) (kz := 32) rfl kd_11 rfl ⟨by decide, by decide⟩ rfl wf_12_392 dX12_readSum_65 ?_
  refine v_iaddN g9 dX12_readSum_68 ?_
  refine v_aload_n (f := 0) 0 rfl dX12_readSum_69 ?_
  refine v_getI (kf := 3) (kz := 3) rfl kd_11 rfl ⟨by decide, by decide⟩ rfl wf_12_316 dX12_readSum_70 ?_
  refine v_iconst ⟨by decide, by decide⟩ dX12_readSum_73 ?_
  refine v_icmp_ne (tgt := 84) dX12_readSum_74 (by decide) (fun c10 => ?_) (fun c10 => ?_)
  · replace h := b_wp_f c10 h
    refine v_iconst ⟨by decide, by decide⟩ dX12_readSum_84 ?_
    exact t_X12_readSum_b85 hfg h
  · replace h := b_wp_t c10 h
    refine v_aload_n (f := 0) 0 rfl dX12_readSum_77 ?_
    refine v_getI (kf := 7) (kz := 7) rfl kd_11 rfl ⟨by decide, by decide⟩ rfl wf_12_338 dX12_readSum_78 ?_
    refine v_goto (tgt := 85) dX12_readSum_81 (by decide) ?_
    exact t_X12_readSum_b85 hfg h
noncomputable def F_X12_readSum_s5 (v1 : Int) (M : bM) : Option ((bM) ⊕ (Int × bM)) :=
  b_bind (F_X12_isTerm M) (fun x2 => if x2 = 0 then (b_bind (F_X12_wrong 1 M) (fun t => b_two t (fun x21 M22 => b_g (x21 = 0 ∨ x21 = 1) (some (.inr (x21, M22)))))) else (if (M 11 32) = 3 then (b_bind (F_X12_wrong 4 M) (fun t => b_two t (fun x18 M19 => b_g (x18 = 0 ∨ x18 = 1) (some (.inr (x18, M19)))))) else (b_g (b_i32 (v1 + (M 11 32))) (if (M 11 3) = 2 then (F_X12_readSum_b58 v1 (v1 + (M 11 32)) 0 M) else (F_X12_readSum_b58 v1 (v1 + (M 11 32)) (M 11 10) M)))))
theorem t_X12_readSum_s5 {l : Launch} {E : bE} {Q : (Int × bM) → Prop} {v1 : Int} {M : bM} (hfg : b_fg E) (h : b_wp (F_X12_readSum_s5 v1 M) (Sum.elim (A_X12_readSum_5 l E Q v1) (X_X12_readSum_5 l E Q v1))) : V l E xX12_readSum (0, 0) 5 [(0, bR 11), (1, bI v1)] [] M (b_pI Q) := by
  unfold F_X12_readSum_s5 at h
  refine v_aload_n (f := 0) 0 rfl dX12_readSum_5 ?_
  refine v_cVIp (nA := 0) (As := []) (ix := 445) (cf_X12_isTerm (b_wp_b h)) rfl kd_11 rfl rfl wc_X12_isTerm wm_12_445 wi_X12_isTerm ws_X12_isTerm wn_12 ⟨by decide, by decide, by decide⟩ rfl ⟨by decide, by decide⟩ ⟨by decide, by decide⟩ (Nat.le_of_ble_eq_true rfl) dX12_readSum_6 (fun x2 h => ?_)
  refine v_if_ne (tgt := 18) dX12_readSum_9 (by decide) (fun c3 => ?_) (fun c3 => ?_)
  · replace h := b_wp_f c3 h
    refine v_aload_n (f := 0) 0 rfl dX12_readSum_18 ?_
    refine v_getI (kf := 32) (kz := 32) rfl kd_11 rfl ⟨by decide, by decide⟩ rfl wf_12_392 dX12_readSum_19 ?_
    refine v_iconst ⟨by decide, by decide⟩ dX12_readSum_22 ?_
    refine v_icmp_ne (tgt := 32) dX12_readSum_23 (by decide) (fun c4 => ?_) (fun c4 => ?_)
    · replace h := b_wp_f c4 h
      obtain ⟨g5, h⟩ := b_wp_g h
      refine v_aload_n (f := 0) 0 rfl dX12_readSum_32 ?_
      refine v_getR (kf := 46) (kz := 46) rfl kd_11 rfl ⟨by decide, by decide⟩ rfl wf_12_106 dX12_readSum_33 ?_
      refine v_iload_n (f := 1) 1 rfl dX12_readSum_36 ?_
      refine v_aload_n (f := 0) 0 rfl dX12_readSum_37 ?_
      refine v_getI (kf := 32) (kz := 32) rfl kd_11 rfl ⟨by decide, by decide⟩ rfl wf_12_392 dX12_readSum_38 ?_
      refine v_iaddN g5 dX12_readSum_41 ?_
      refine v_aload_n (f := 0) 0 rfl dX12_readSum_42 ?_
      refine v_getI (kf := 3) (kz := 3) rfl kd_11 rfl ⟨by decide, by decide⟩ rfl wf_12_316 dX12_readSum_43 ?_
      refine v_iconst ⟨by decide, by decide⟩ dX12_readSum_46 ?_
      refine v_icmp_ne (tgt := 54) dX12_readSum_47 (by decide) (fun c6 => ?_) (fun c6 => ?_)
      · replace h := b_wp_f c6 h
        refine v_aload_n (f := 0) 0 rfl dX12_readSum_54 ?_
        refine v_getJ (kf := 10) (kz := 10) rfl kd_11 rfl ⟨by decide, by decide⟩ rfl wf_12_323 dX12_readSum_55 ?_
        exact t_X12_readSum_b58 hfg h
      · replace h := b_wp_t c6 h
        refine v_lconst0 dX12_readSum_50 ?_
        refine v_goto (tgt := 58) dX12_readSum_51 (by decide) ?_
        exact t_X12_readSum_b58 hfg h
    · replace h := b_wp_t c4 h
      refine v_aload_n (f := 0) 0 rfl dX12_readSum_26 ?_
      refine v_iconst ⟨by decide, by decide⟩ dX12_readSum_27 ?_
      refine v_cVI (nA := 1) (As := [bI _]) (ix := 389) (cf_X12_wrong (b_wp_b h)) rfl kd_11 rfl rfl wc_X12_wrong wm_12_389 wi_X12_wrong ws_X12_wrong wn_12 ⟨by decide, by decide, by decide⟩ rfl ⟨by decide, by decide⟩ ⟨by decide, by decide⟩ (Nat.le_of_ble_eq_true rfl) dX12_readSum_28 (fun x18 M19 h => ?_)
      replace h := b_wp_two h
      obtain ⟨g20, h⟩ := b_wp_g h
      refine v_zreturn rfl g20 dX12_readSum_31 ⟨by decide, by decide⟩ ?_
      exact ⟨_, rfl, h⟩
  · replace h := b_wp_t c3 h
    refine v_aload_n (f := 0) 0 rfl dX12_readSum_12 ?_
    refine v_iconst ⟨by decide, by decide⟩ dX12_readSum_13 ?_
    refine v_cVI (nA := 1) (As := [bI _]) (ix := 389) (cf_X12_wrong (b_wp_b h)) rfl kd_11 rfl rfl wc_X12_wrong wm_12_389 wi_X12_wrong ws_X12_wrong wn_12 ⟨by decide, by decide, by decide⟩ rfl ⟨by decide, by decide⟩ ⟨by decide, by decide⟩ (Nat.le_of_ble_eq_true rfl) dX12_readSum_14 (fun x21 M22 h => ?_)
    replace h := b_wp_two h
    obtain ⟨g23, h⟩ := b_wp_g h
    refine v_zreturn rfl g23 dX12_readSum_17 ⟨by decide, by decide⟩ ?_
    exact ⟨_, rfl, h⟩
theorem l_X12_readSum_5 {l : Launch} {E : bE} {Q : (Int × bM) → Prop} {v1 : Int} (hfg : b_fg E) {s : bM} (h : b_wp (b_loop (fun t => F_X12_readSum_s5 v1 t) s) (X_X12_readSum_5 l E Q v1)) : A_X12_readSum_5 l E Q v1 s := b_loop_wp (fun t h => t_X12_readSum_s5 hfg h) s h
noncomputable def F_X12_readSum (v1 : Int) (M : bM) : Option (Int × bM) :=
  b_let (b_up M 11 32 0) (fun M1 => b_loop (fun t => F_X12_readSum_s5 v1 t) (M1))
theorem t_X12_readSum {l : Launch} {E : bE} {Q : (Int × bM) → Prop} {v1 : Int} {M : bM} (hfg : b_fg E) (h : b_wp (F_X12_readSum v1 M) (Q)) : V l E xX12_readSum (0, 0) 0 [(0, bR 11), (1, bI v1)] [] M (b_pI Q) := by
  unfold F_X12_readSum at h
  refine v_aload_n (f := 0) 0 rfl dX12_readSum_0 ?_
  refine v_iconst ⟨by decide, by decide⟩ dX12_readSum_1 ?_
  refine v_putI (kf := 32) (kz := 32) rfl kd_11 rfl ⟨by decide, by decide⟩ rfl wf_12_392 rfl rfl dX12_readSum_2 ?_
  replace h := b_wp_l h
  exact l_X12_readSum_5 hfg h
theorem cf_X12_readSum {l : Launch} {E : bE} {M : bM} {v1 : Int} (hfg : b_fg E) {Q : (Int × bM) → Prop} (h : b_wp (F_X12_readSum v1 M) Q) : b_C l E xX12_readSum yX12_readSum [bR 11, bI v1] M (b_pI Q) := b_met (by decide) ⟨rfl, rfl⟩ (Nat.le_of_ble_eq_true rfl) (fun _ _ => t_X12_readSum hfg h)
abbrev xX12_readTest : bX := ("BurntHallModel", prog_14_method_60_code, 2, (Option.some Jvm.ClassFile.FieldType.boolean), b_rm 9 0 0, 0, "readTest")
abbrev yX12_readTest : MethodName := ⟨"BurntHallModel", "readTest", "()Z"⟩
theorem dX12_readTest_0 : decode prog_14_method_60_code 0 = .ok (.aload_n 0, 1) := by decide +kernel
theorem dX12_readTest_1 : decode prog_14_method_60_code 1 = .ok (.invokevirtual 445, 3) := by decide +kernel
theorem dX12_readTest_4 : decode prog_14_method_60_code 4 = .ok (.ifCond .ne 9, 3) := by decide +kernel
theorem dX12_readTest_7 : decode prog_14_method_60_code 7 = .ok (.aload_n 0, 1) := by decide +kernel
theorem dX12_readTest_8 : decode prog_14_method_60_code 8 = .ok (.iconst 1, 1) := by decide +kernel
theorem dX12_readTest_9 : decode prog_14_method_60_code 9 = .ok (.invokevirtual 389, 3) := by decide +kernel
theorem dX12_readTest_12 : decode prog_14_method_60_code 12 = .ok (.ireturn, 1) := by decide +kernel
theorem dX12_readTest_13 : decode prog_14_method_60_code 13 = .ok (.aload_n 0, 1) := by decide +kernel
theorem dX12_readTest_14 : decode prog_14_method_60_code 14 = .ok (.getfield 88, 3) := by decide +kernel
theorem dX12_readTest_17 : decode prog_14_method_60_code 17 = .ok (.aload_n 0, 1) := by decide +kernel
theorem dX12_readTest_18 : decode prog_14_method_60_code 18 = .ok (.getfield 442, 3) := by decide +kernel
theorem dX12_readTest_21 : decode prog_14_method_60_code 21 = .ok (.iaload, 1) := by decide +kernel
theorem dX12_readTest_22 : decode prog_14_method_60_code 22 = .ok (.bipush 12, 2) := by decide +kernel
theorem dX12_readTest_24 : decode prog_14_method_60_code 24 = .ok (.if_icmp .ne 9, 3) := by decide +kernel
theorem dX12_readTest_27 : decode prog_14_method_60_code 27 = .ok (.aload_n 0, 1) := by decide +kernel
theorem dX12_readTest_28 : decode prog_14_method_60_code 28 = .ok (.iconst 4, 1) := by decide +kernel
theorem dX12_readTest_29 : decode prog_14_method_60_code 29 = .ok (.invokevirtual 389, 3) := by decide +kernel
theorem dX12_readTest_32 : decode prog_14_method_60_code 32 = .ok (.ireturn, 1) := by decide +kernel
theorem dX12_readTest_33 : decode prog_14_method_60_code 33 = .ok (.bipush 12, 2) := by decide +kernel
theorem dX12_readTest_35 : decode prog_14_method_60_code 35 = .ok (.aload_n 0, 1) := by decide +kernel
theorem dX12_readTest_36 : decode prog_14_method_60_code 36 = .ok (.getfield 442, 3) := by decide +kernel
theorem dX12_readTest_39 : decode prog_14_method_60_code 39 = .ok (.imul, 1) := by decide +kernel
theorem dX12_readTest_40 : decode prog_14_method_60_code 40 = .ok (.aload_n 0, 1) := by decide +kernel
theorem dX12_readTest_41 : decode prog_14_method_60_code 41 = .ok (.getfield 88, 3) := by decide +kernel
theorem dX12_readTest_44 : decode prog_14_method_60_code 44 = .ok (.aload_n 0, 1) := by decide +kernel
theorem dX12_readTest_45 : decode prog_14_method_60_code 45 = .ok (.getfield 442, 3) := by decide +kernel
theorem dX12_readTest_48 : decode prog_14_method_60_code 48 = .ok (.iaload, 1) := by decide +kernel
theorem dX12_readTest_49 : decode prog_14_method_60_code 49 = .ok (.iadd, 1) := by decide +kernel
theorem dX12_readTest_50 : decode prog_14_method_60_code 50 = .ok (.istore_n 1, 1) := by decide +kernel
theorem dX12_readTest_51 : decode prog_14_method_60_code 51 = .ok (.aload_n 0, 1) := by decide +kernel
theorem dX12_readTest_52 : decode prog_14_method_60_code 52 = .ok (.aload_n 0, 1) := by decide +kernel
theorem dX12_readTest_53 : decode prog_14_method_60_code 53 = .ok (.getfield 88, 3) := by decide +kernel
theorem dX12_readTest_56 : decode prog_14_method_60_code 56 = .ok (.aload_n 0, 1) := by decide +kernel
theorem dX12_readTest_57 : decode prog_14_method_60_code 57 = .ok (.getfield 442, 3) := by decide +kernel
theorem dX12_readTest_60 : decode prog_14_method_60_code 60 = .ok (.iaload, 1) := by decide +kernel
theorem dX12_readTest_61 : decode prog_14_method_60_code 61 = .ok (.invokevirtual 448, 3) := by decide +kernel
theorem dX12_readTest_64 : decode prog_14_method_60_code 64 = .ok (.aload_n 0, 1) := by decide +kernel
theorem dX12_readTest_65 : decode prog_14_method_60_code 65 = .ok (.getfield 88, 3) := by decide +kernel
theorem dX12_readTest_68 : decode prog_14_method_60_code 68 = .ok (.aload_n 0, 1) := by decide +kernel
theorem dX12_readTest_69 : decode prog_14_method_60_code 69 = .ok (.getfield 442, 3) := by decide +kernel
theorem dX12_readTest_72 : decode prog_14_method_60_code 72 = .ok (.dup2, 1) := by decide +kernel
theorem dX12_readTest_73 : decode prog_14_method_60_code 73 = .ok (.iaload, 1) := by decide +kernel
theorem dX12_readTest_74 : decode prog_14_method_60_code 74 = .ok (.iconst 1, 1) := by decide +kernel
theorem dX12_readTest_75 : decode prog_14_method_60_code 75 = .ok (.iadd, 1) := by decide +kernel
theorem dX12_readTest_76 : decode prog_14_method_60_code 76 = .ok (.iastore, 1) := by decide +kernel
theorem dX12_readTest_77 : decode prog_14_method_60_code 77 = .ok (.aload_n 0, 1) := by decide +kernel
theorem dX12_readTest_78 : decode prog_14_method_60_code 78 = .ok (.bipush 6, 2) := by decide +kernel
theorem dX12_readTest_80 : decode prog_14_method_60_code 80 = .ok (.iload_n 1, 1) := by decide +kernel
theorem dX12_readTest_81 : decode prog_14_method_60_code 81 = .ok (.imul, 1) := by decide +kernel
theorem dX12_readTest_82 : decode prog_14_method_60_code 82 = .ok (.invokevirtual 451, 3) := by decide +kernel
theorem dX12_readTest_85 : decode prog_14_method_60_code 85 = .ok (.ifCond .ne 5, 3) := by decide +kernel
theorem dX12_readTest_88 : decode prog_14_method_60_code 88 = .ok (.iconst 0, 1) := by decide +kernel
theorem dX12_readTest_89 : decode prog_14_method_60_code 89 = .ok (.ireturn, 1) := by decide +kernel
theorem dX12_readTest_90 : decode prog_14_method_60_code 90 = .ok (.aload_n 0, 1) := by decide +kernel
theorem dX12_readTest_91 : decode prog_14_method_60_code 91 = .ok (.getfield 100, 3) := by decide +kernel
theorem dX12_readTest_94 : decode prog_14_method_60_code 94 = .ok (.iload_n 1, 1) := by decide +kernel
theorem dX12_readTest_95 : decode prog_14_method_60_code 95 = .ok (.aload_n 0, 1) := by decide +kernel
theorem dX12_readTest_96 : decode prog_14_method_60_code 96 = .ok (.getfield 392, 3) := by decide +kernel
theorem dX12_readTest_99 : decode prog_14_method_60_code 99 = .ok (.iastore, 1) := by decide +kernel
theorem dX12_readTest_100 : decode prog_14_method_60_code 100 = .ok (.aload_n 0, 1) := by decide +kernel
theorem dX12_readTest_101 : decode prog_14_method_60_code 101 = .ok (.getfield 103, 3) := by decide +kernel
theorem dX12_readTest_104 : decode prog_14_method_60_code 104 = .ok (.iload_n 1, 1) := by decide +kernel
theorem dX12_readTest_105 : decode prog_14_method_60_code 105 = .ok (.iconst 0, 1) := by decide +kernel
theorem dX12_readTest_106 : decode prog_14_method_60_code 106 = .ok (.iastore, 1) := by decide +kernel
theorem dX12_readTest_107 : decode prog_14_method_60_code 107 = .ok (.aload_n 0, 1) := by decide +kernel
theorem dX12_readTest_108 : decode prog_14_method_60_code 108 = .ok (.getfield 97, 3) := by decide +kernel
theorem dX12_readTest_111 : decode prog_14_method_60_code 111 = .ok (.iload_n 1, 1) := by decide +kernel
theorem dX12_readTest_112 : decode prog_14_method_60_code 112 = .ok (.iconst 0, 1) := by decide +kernel
theorem dX12_readTest_113 : decode prog_14_method_60_code 113 = .ok (.iastore, 1) := by decide +kernel
theorem dX12_readTest_114 : decode prog_14_method_60_code 114 = .ok (.aload_n 0, 1) := by decide +kernel
theorem dX12_readTest_115 : decode prog_14_method_60_code 115 = .ok (.getfield 316, 3) := by decide +kernel
theorem dX12_readTest_118 : decode prog_14_method_60_code 118 = .ok (.iconst 1, 1) := by decide +kernel
theorem dX12_readTest_119 : decode prog_14_method_60_code 119 = .ok (.if_icmp .ne 17, 3) := by decide +kernel
theorem dX12_readTest_122 : decode prog_14_method_60_code 122 = .ok (.aload_n 0, 1) := by decide +kernel
theorem dX12_readTest_123 : decode prog_14_method_60_code 123 = .ok (.getfield 313, 3) := by decide +kernel
theorem dX12_readTest_126 : decode prog_14_method_60_code 126 = .ok (.bipush 21, 2) := by decide +kernel
theorem dX12_readTest_128 : decode prog_14_method_60_code 128 = .ok (.bipush 23, 2) := by decide +kernel
theorem dX12_readTest_130 : decode prog_14_method_60_code 130 = .ok (.invokestatic 279, 3) := by decide +kernel
theorem dX12_readTest_133 : decode prog_14_method_60_code 133 = .ok (.ifCond .ne 5, 3) := by decide +kernel
theorem dX12_readTest_136 : decode prog_14_method_60_code 136 = .ok (.iconst 1, 1) := by decide +kernel
theorem dX12_readTest_137 : decode prog_14_method_60_code 137 = .ok (.ireturn, 1) := by decide +kernel
theorem dX12_readTest_138 : decode prog_14_method_60_code 138 = .ok (.aload_n 0, 1) := by decide +kernel
theorem dX12_readTest_139 : decode prog_14_method_60_code 139 = .ok (.getfield 97, 3) := by decide +kernel
theorem dX12_readTest_142 : decode prog_14_method_60_code 142 = .ok (.iload_n 1, 1) := by decide +kernel
theorem dX12_readTest_143 : decode prog_14_method_60_code 143 = .ok (.aload_n 0, 1) := by decide +kernel
theorem dX12_readTest_144 : decode prog_14_method_60_code 144 = .ok (.getfield 313, 3) := by decide +kernel
theorem dX12_readTest_147 : decode prog_14_method_60_code 147 = .ok (.bipush 21, 2) := by decide +kernel
theorem dX12_readTest_149 : decode prog_14_method_60_code 149 = .ok (.isub, 1) := by decide +kernel
theorem dX12_readTest_150 : decode prog_14_method_60_code 150 = .ok (.iconst 1, 1) := by decide +kernel
theorem dX12_readTest_151 : decode prog_14_method_60_code 151 = .ok (.iadd, 1) := by decide +kernel
theorem dX12_readTest_152 : decode prog_14_method_60_code 152 = .ok (.iastore, 1) := by decide +kernel
theorem dX12_readTest_153 : decode prog_14_method_60_code 153 = .ok (.aload_n 0, 1) := by decide +kernel
theorem dX12_readTest_154 : decode prog_14_method_60_code 154 = .ok (.invokevirtual 292, 3) := by decide +kernel
theorem dX12_readTest_157 : decode prog_14_method_60_code 157 = .ok (.aload_n 0, 1) := by decide +kernel
theorem dX12_readTest_158 : decode prog_14_method_60_code 158 = .ok (.bipush 6, 2) := by decide +kernel
theorem dX12_readTest_160 : decode prog_14_method_60_code 160 = .ok (.iload_n 1, 1) := by decide +kernel
theorem dX12_readTest_161 : decode prog_14_method_60_code 161 = .ok (.imul, 1) := by decide +kernel
theorem dX12_readTest_162 : decode prog_14_method_60_code 162 = .ok (.iconst 3, 1) := by decide +kernel
theorem dX12_readTest_163 : decode prog_14_method_60_code 163 = .ok (.iadd, 1) := by decide +kernel
theorem dX12_readTest_164 : decode prog_14_method_60_code 164 = .ok (.invokevirtual 451, 3) := by decide +kernel
theorem dX12_readTest_167 : decode prog_14_method_60_code 167 = .ok (.ifCond .ne 5, 3) := by decide +kernel
theorem dX12_readTest_170 : decode prog_14_method_60_code 170 = .ok (.iconst 0, 1) := by decide +kernel
theorem dX12_readTest_171 : decode prog_14_method_60_code 171 = .ok (.ireturn, 1) := by decide +kernel
theorem dX12_readTest_172 : decode prog_14_method_60_code 172 = .ok (.aload_n 0, 1) := by decide +kernel
theorem dX12_readTest_173 : decode prog_14_method_60_code 173 = .ok (.getfield 103, 3) := by decide +kernel
theorem dX12_readTest_176 : decode prog_14_method_60_code 176 = .ok (.iload_n 1, 1) := by decide +kernel
theorem dX12_readTest_177 : decode prog_14_method_60_code 177 = .ok (.aload_n 0, 1) := by decide +kernel
theorem dX12_readTest_178 : decode prog_14_method_60_code 178 = .ok (.getfield 392, 3) := by decide +kernel
theorem dX12_readTest_181 : decode prog_14_method_60_code 181 = .ok (.iastore, 1) := by decide +kernel
theorem dX12_readTest_182 : decode prog_14_method_60_code 182 = .ok (.iconst 1, 1) := by decide +kernel
theorem dX12_readTest_183 : decode prog_14_method_60_code 183 = .ok (.ireturn, 1) := by decide +kernel
noncomputable def F_X12_readTest (M : bM) : Option (Int × bM) :=
  b_bind (F_X12_isTerm M) (fun x1 => if x1 = 0 then (b_bind (F_X12_wrong 1 M) (fun t => b_two t (fun x42 M43 => b_g (x42 = 0 ∨ x42 = 1) (some (x42, M43))))) else (b_g (0 ≤ (M 11 48) ∧ (M 11 48) < 216) (if (M 186 (M 11 48)) = 12 then (b_bind (F_X12_wrong 4 M) (fun t => b_two t (fun x39 M40 => b_g (x39 = 0 ∨ x39 = 1) (some (x39, M40))))) else (b_g ((b_i32 (12 * (M 11 48))) ∧ (0 ≤ (M 11 48) ∧ (M 11 48) < 216) ∧ (b_i32 ((12 * (M 11 48)) + (M 186 (M 11 48))))) (b_let (((12 * (M 11 48)) + (M 186 (M 11 48)))) (fun y8 => b_g (0 ≤ (M 11 48) ∧ (M 11 48) < 216) (b_bind (F_X12_addStep (M 186 (M 11 48)) M) (fun M10 => b_g ((0 ≤ (M10 11 48) ∧ (M10 11 48) < 216) ∧ (b_i32 ((M10 186 (M10 11 48)) + 1))) (b_let (b_up M10 186 (M10 11 48) ((M10 186 (M10 11 48)) + 1)) (fun M13 => b_g (b_i32 (6 * y8)) (b_bind (F_X12_readSum (6 * y8) M13) (fun t => b_two t (fun x15 M16 => if x15 = 0 then (some (0, M16)) else (b_g (0 ≤ y8 ∧ y8 < 2592) (b_let (b_up M16 190 y8 (M16 11 32)) (fun M19 => b_g (0 ≤ y8 ∧ y8 < 2592) (b_let (b_up M19 191 y8 0) (fun M21 => b_g (0 ≤ y8 ∧ y8 < 2592) (b_let (b_up M21 189 y8 0) (fun M23 => if (M23 11 3) = 1 then (b_bind (F_X12_in (M23 11 4) 21 23 M23) (fun x25 => if x25 = 0 then (some (1, M23)) else (b_g ((b_i32 ((M23 11 4) - 21)) ∧ (b_i32 (((M23 11 4) - 21) + 1)) ∧ (0 ≤ y8 ∧ y8 < 2592)) (b_let (b_up M23 189 y8 (((M23 11 4) - 21) + 1)) (fun M30 => b_bind (F_X12_scan M30) (fun M31 => b_g ((b_i32 (6 * y8)) ∧ (b_i32 ((6 * y8) + 3))) (b_bind (F_X12_readSum ((6 * y8) + 3) M31) (fun t => b_two t (fun x34 M35 => if x34 = 0 then (some (0, M35)) else (b_g (0 ≤ y8 ∧ y8 < 2592) (b_let (b_up M35 191 y8 (M35 11 32)) (fun M38 => some (1, M38))))))))))))) else (some (1, M23))))))))))))))))))))))
theorem t_X12_readTest {l : Launch} {E : bE} {Q : (Int × bM) → Prop} {M : bM} (hfg : b_fg E) (h : b_wp (F_X12_readTest M) (Q)) : V l E xX12_readTest (0, 0) 0 [(0, bR 11)] [] M (b_pI Q) := by
  unfold F_X12_readTest at h
  refine v_aload_n (f := 0) 0 rfl dX12_readTest_0 ?_
  refine v_cVIp (nA := 0) (As := []) (ix := 445) (cf_X12_isTerm (b_wp_b h)) rfl kd_11 rfl rfl wc_X12_isTerm wm_12_445 wi_X12_isTerm ws_X12_isTerm wn_12 ⟨by decide, by decide, by decide⟩ rfl ⟨by decide, by decide⟩ ⟨by decide, by decide⟩ (Nat.le_of_ble_eq_true rfl) dX12_readTest_1 (fun x1 h => ?_)
  refine v_if_ne (tgt := 13) dX12_readTest_4 (by decide) (fun c2 => ?_) (fun c2 => ?_)
  · replace h := b_wp_f c2 h
    obtain ⟨g3, h⟩ := b_wp_g h
    refine v_aload_n (f := 0) 0 rfl dX12_readTest_13 ?_
    refine v_getR (kf := 40) (kz := 40) rfl kd_11 rfl ⟨by decide, by decide⟩ rfl wf_12_88 dX12_readTest_14 ?_
    refine v_aload_n (f := 0) 0 rfl dX12_readTest_17 ?_
    refine v_getI (kf := 48) (kz := 48) rfl kd_11 rfl ⟨by decide, by decide⟩ rfl wf_12_442 dX12_readTest_18 ?_
    refine v_iaload kd_186 g3 (by decide) dX12_readTest_21 ?_
    refine v_bipush ⟨by decide, by decide⟩ (by decide) dX12_readTest_22 ?_
    refine v_icmp_ne (tgt := 33) dX12_readTest_24 (by decide) (fun c4 => ?_) (fun c4 => ?_)
    · replace h := b_wp_f c4 h
      obtain ⟨⟨g5, g6, g7⟩, h⟩ := b_wp_g h
      refine v_bipush ⟨by decide, by decide⟩ (by decide) dX12_readTest_33 ?_
      refine v_aload_n (f := 0) 0 rfl dX12_readTest_35 ?_
      refine v_getI (kf := 48) (kz := 48) rfl kd_11 rfl ⟨by decide, by decide⟩ rfl wf_12_442 dX12_readTest_36 ?_
      refine v_imulN g5 dX12_readTest_39 ?_
      refine v_aload_n (f := 0) 0 rfl dX12_readTest_40 ?_
      refine v_getR (kf := 40) (kz := 40) rfl kd_11 rfl ⟨by decide, by decide⟩ rfl wf_12_88 dX12_readTest_41 ?_
      refine v_aload_n (f := 0) 0 rfl dX12_readTest_44 ?_
      refine v_getI (kf := 48) (kz := 48) rfl kd_11 rfl ⟨by decide, by decide⟩ rfl wf_12_442 dX12_readTest_45 ?_
      refine v_iaload kd_186 g6 (by decide) dX12_readTest_48 ?_
      refine v_iaddN g7 dX12_readTest_49 ?_
      replace h := b_wp_l h
      obtain ⟨g9, h⟩ := b_wp_g h
      refine v_istore_n (g := 1) (i := 1) (ls' := [(1, bI _), (0, bR _)]) rfl (by decide) dX12_readTest_50 rfl ?_
      refine v_aload_n (f := 0) 1 rfl dX12_readTest_51 ?_
      refine v_aload_n (f := 0) 1 rfl dX12_readTest_52 ?_
      refine v_getR (kf := 40) (kz := 40) rfl kd_11 rfl ⟨by decide, by decide⟩ rfl wf_12_88 dX12_readTest_53 ?_
      refine v_aload_n (f := 0) 1 rfl dX12_readTest_56 ?_
      refine v_getI (kf := 48) (kz := 48) rfl kd_11 rfl ⟨by decide, by decide⟩ rfl wf_12_442 dX12_readTest_57 ?_
      refine v_iaload kd_186 g9 (by decide) dX12_readTest_60 ?_
      refine v_cVV (nA := 1) (As := [bI _]) (ix := 448) (cf_X12_addStep (b_wp_b h)) rfl kd_11 rfl rfl wc_X12_addStep wm_12_448 wi_X12_addStep ws_X12_addStep wn_12 ⟨by decide, by decide, by decide⟩ rfl ⟨by decide, by decide⟩ ⟨by decide, by decide⟩ (Nat.le_of_ble_eq_true rfl) dX12_readTest_61 (fun M10 h => ?_)
      obtain ⟨⟨g11, g12⟩, h⟩ := b_wp_g h
      refine v_aload_n (f := 0) 1 rfl dX12_readTest_64 ?_
      refine v_getR (kf := 40) (kz := 40) rfl kd_11 rfl ⟨by decide, by decide⟩ rfl wf_12_88 dX12_readTest_65 ?_
      refine v_aload_n (f := 0) 1 rfl dX12_readTest_68 ?_
      refine v_getI (kf := 48) (kz := 48) rfl kd_11 rfl ⟨by decide, by decide⟩ rfl wf_12_442 dX12_readTest_69 ?_
      refine v_dup2 rfl rfl dX12_readTest_72 ?_
      refine v_iaload kd_186 g11 (by decide) dX12_readTest_73 ?_
      refine v_iconst ⟨by decide, by decide⟩ dX12_readTest_74 ?_
      refine v_iaddN g12 dX12_readTest_75 ?_
      refine v_iastore kd_186 g11 (by decide) dX12_readTest_76 ?_
      replace h := b_wp_l h
      obtain ⟨g14, h⟩ := b_wp_g h
      refine v_aload_n (f := 0) 1 rfl dX12_readTest_77 ?_
      refine v_bipush ⟨by decide, by decide⟩ (by decide) dX12_readTest_78 ?_
      refine v_iload_n (f := 1) 0 rfl dX12_readTest_80 ?_
      refine v_imulN g14 dX12_readTest_81 ?_
      refine v_cVI (nA := 1) (As := [bI _]) (ix := 451) (cf_X12_readSum hfg (b_wp_b h)) rfl kd_11 rfl rfl wc_X12_readSum wm_12_451 wi_X12_readSum ws_X12_readSum wn_12 ⟨by decide, by decide, by decide⟩ rfl ⟨by decide, by decide⟩ ⟨by decide, by decide⟩ (Nat.le_of_ble_eq_true rfl) dX12_readTest_82 (fun x15 M16 h => ?_)
      replace h := b_wp_two h
      refine v_if_ne (tgt := 90) dX12_readTest_85 (by decide) (fun c17 => ?_) (fun c17 => ?_)
      · replace h := b_wp_f c17 h
        obtain ⟨g18, h⟩ := b_wp_g h
        refine v_aload_n (f := 0) 1 rfl dX12_readTest_90 ?_
        refine v_getR (kf := 44) (kz := 44) rfl kd_11 rfl ⟨by decide, by decide⟩ rfl wf_12_100 dX12_readTest_91 ?_
        refine v_iload_n (f := 1) 0 rfl dX12_readTest_94 ?_
        refine v_aload_n (f := 0) 1 rfl dX12_readTest_95 ?_
        refine v_getI (kf := 32) (kz := 32) rfl kd_11 rfl ⟨by decide, by decide⟩ rfl wf_12_392 dX12_readTest_96 ?_
        refine v_iastore kd_190 g18 (by decide) dX12_readTest_99 ?_
        replace h := b_wp_l h
        obtain ⟨g20, h⟩ := b_wp_g h
        refine v_aload_n (f := 0) 1 rfl dX12_readTest_100 ?_
        refine v_getR (kf := 45) (kz := 45) rfl kd_11 rfl ⟨by decide, by decide⟩ rfl wf_12_103 dX12_readTest_101 ?_
        refine v_iload_n (f := 1) 0 rfl dX12_readTest_104 ?_
        refine v_iconst ⟨by decide, by decide⟩ dX12_readTest_105 ?_
        refine v_iastore kd_191 g20 (by decide) dX12_readTest_106 ?_
        replace h := b_wp_l h
        obtain ⟨g22, h⟩ := b_wp_g h
        refine v_aload_n (f := 0) 1 rfl dX12_readTest_107 ?_
        refine v_getR (kf := 43) (kz := 43) rfl kd_11 rfl ⟨by decide, by decide⟩ rfl wf_12_97 dX12_readTest_108 ?_
        refine v_iload_n (f := 1) 0 rfl dX12_readTest_111 ?_
        refine v_iconst ⟨by decide, by decide⟩ dX12_readTest_112 ?_
        refine v_iastore kd_189 g22 (by decide) dX12_readTest_113 ?_
        replace h := b_wp_l h
        refine v_aload_n (f := 0) 1 rfl dX12_readTest_114 ?_
        refine v_getI (kf := 3) (kz := 3) rfl kd_11 rfl ⟨by decide, by decide⟩ rfl wf_12_316 dX12_readTest_115 ?_
        refine v_iconst ⟨by decide, by decide⟩ dX12_readTest_118 ?_
        refine v_icmp_ne (tgt := 136) dX12_readTest_119 (by decide) (fun c24 => ?_) (fun c24 => ?_)
        · replace h := b_wp_f c24 h
          refine v_iconst ⟨by decide, by decide⟩ dX12_readTest_136 ?_
          refine v_zreturn rfl (Or.inr rfl) dX12_readTest_137 ⟨by decide, by decide⟩ ?_
          exact ⟨_, rfl, h⟩
        · replace h := b_wp_t c24 h
          refine v_aload_n (f := 0) 1 rfl dX12_readTest_122 ?_
          refine v_getI (kf := 4) (kz := 4) rfl kd_11 rfl ⟨by decide, by decide⟩ rfl wf_12_313 dX12_readTest_123 ?_
          refine v_bipush ⟨by decide, by decide⟩ (by decide) dX12_readTest_126 ?_
          refine v_bipush ⟨by decide, by decide⟩ (by decide) dX12_readTest_128 ?_
          refine v_cSIp (nA := 3) (As := [bI _, bI _, bI _]) (ix := 279) (cf_X12_in (b_wp_b h)) rfl wc_X12_in wm_12_279 wi_X12_in wn_12 ⟨by decide, by decide, by decide⟩ rfl ⟨by decide, by decide⟩ ⟨by decide, by decide⟩ (Nat.le_of_ble_eq_true rfl) dX12_readTest_130 (fun x25 h => ?_)
          refine v_if_ne (tgt := 138) dX12_readTest_133 (by decide) (fun c26 => ?_) (fun c26 => ?_)
          · replace h := b_wp_f c26 h
            obtain ⟨⟨g27, g28, g29⟩, h⟩ := b_wp_g h
            refine v_aload_n (f := 0) 1 rfl dX12_readTest_138 ?_
            refine v_getR (kf := 43) (kz := 43) rfl kd_11 rfl ⟨by decide, by decide⟩ rfl wf_12_97 dX12_readTest_139 ?_
            refine v_iload_n (f := 1) 0 rfl dX12_readTest_142 ?_
            refine v_aload_n (f := 0) 1 rfl dX12_readTest_143 ?_
            refine v_getI (kf := 4) (kz := 4) rfl kd_11 rfl ⟨by decide, by decide⟩ rfl wf_12_313 dX12_readTest_144 ?_
            refine v_bipush ⟨by decide, by decide⟩ (by decide) dX12_readTest_147 ?_
            refine v_isubN g27 dX12_readTest_149 ?_
            refine v_iconst ⟨by decide, by decide⟩ dX12_readTest_150 ?_
            refine v_iaddN g28 dX12_readTest_151 ?_
            refine v_iastore kd_189 g29 (by decide) dX12_readTest_152 ?_
            replace h := b_wp_l h
            refine v_aload_n (f := 0) 1 rfl dX12_readTest_153 ?_
            refine v_cVV (nA := 0) (As := []) (ix := 292) (cf_X12_scan hfg (b_wp_b h)) rfl kd_11 rfl rfl wc_X12_scan wm_12_292 wi_X12_scan ws_X12_scan wn_12 ⟨by decide, by decide, by decide⟩ rfl ⟨by decide, by decide⟩ ⟨by decide, by decide⟩ (Nat.le_of_ble_eq_true rfl) dX12_readTest_154 (fun M31 h => ?_)
            obtain ⟨⟨g32, g33⟩, h⟩ := b_wp_g h
            refine v_aload_n (f := 0) 1 rfl dX12_readTest_157 ?_
            refine v_bipush ⟨by decide, by decide⟩ (by decide) dX12_readTest_158 ?_
            refine v_iload_n (f := 1) 0 rfl dX12_readTest_160 ?_
            refine v_imulN g32 dX12_readTest_161 ?_
            refine v_iconst ⟨by decide, by decide⟩ dX12_readTest_162 ?_
            refine v_iaddN g33 dX12_readTest_163 ?_
            refine v_cVI (nA := 1) (As := [bI _]) (ix := 451) (cf_X12_readSum hfg (b_wp_b h)) rfl kd_11 rfl rfl wc_X12_readSum wm_12_451 wi_X12_readSum ws_X12_readSum wn_12 ⟨by decide, by decide, by decide⟩ rfl ⟨by decide, by decide⟩ ⟨by decide, by decide⟩ (Nat.le_of_ble_eq_true rfl) dX12_readTest_164 (fun x34 M35 h => ?_)
            replace h := b_wp_two h
            refine v_if_ne (tgt := 172) dX12_readTest_167 (by decide) (fun c36 => ?_) (fun c36 => ?_)
            · replace h := b_wp_f c36 h
              obtain ⟨g37, h⟩ := b_wp_g h
              refine v_aload_n (f := 0) 1 rfl dX12_readTest_172 ?_
              refine v_getR (kf := 45) (kz := 45) rfl kd_11 rfl ⟨by decide, by decide⟩ rfl wf_12_103 dX12_readTest_173 ?_
              refine v_iload_n (f := 1) 0 rfl dX12_readTest_176 ?_
              refine v_aload_n (f := 0) 1 rfl dX12_readTest_177 ?_
              refine v_getI (kf := 32) (kz := 32) rfl kd_11 rfl ⟨by decide, by decide⟩ rfl wf_12_392 dX12_readTest_178 ?_
              refine v_iastore kd_191 g37 (by decide) dX12_readTest_181 ?_
              replace h := b_wp_l h
              refine v_iconst ⟨by decide, by decide⟩ dX12_readTest_182 ?_
              refine v_zreturn rfl (Or.inr rfl) dX12_readTest_183 ⟨by decide, by decide⟩ ?_
              exact ⟨_, rfl, h⟩
            · replace h := b_wp_t c36 h
              refine v_iconst ⟨by decide, by decide⟩ dX12_readTest_170 ?_
              refine v_zreturn rfl (Or.inl rfl) dX12_readTest_171 ⟨by decide, by decide⟩ ?_
              exact ⟨_, rfl, h⟩
          · replace h := b_wp_t c26 h
            refine v_iconst ⟨by decide, by decide⟩ dX12_readTest_136 ?_
            refine v_zreturn rfl (Or.inr rfl) dX12_readTest_137 ⟨by decide, by decide⟩ ?_
            exact ⟨_, rfl, h⟩
      · replace h := b_wp_t c17 h
        refine v_iconst ⟨by decide, by decide⟩ dX12_readTest_88 ?_
        refine v_zreturn rfl (Or.inl rfl) dX12_readTest_89 ⟨by decide, by decide⟩ ?_
        exact ⟨_, rfl, h⟩
    · replace h := b_wp_t c4 h
      refine v_aload_n (f := 0) 0 rfl dX12_readTest_27 ?_
      refine v_iconst ⟨by decide, by decide⟩ dX12_readTest_28 ?_
      refine v_cVI (nA := 1) (As := [bI _]) (ix := 389) (cf_X12_wrong (b_wp_b h)) rfl kd_11 rfl rfl wc_X12_wrong wm_12_389 wi_X12_wrong ws_X12_wrong wn_12 ⟨by decide, by decide, by decide⟩ rfl ⟨by decide, by decide⟩ ⟨by decide, by decide⟩ (Nat.le_of_ble_eq_true rfl) dX12_readTest_29 (fun x39 M40 h => ?_)
      replace h := b_wp_two h
      obtain ⟨g41, h⟩ := b_wp_g h
      refine v_zreturn rfl g41 dX12_readTest_32 ⟨by decide, by decide⟩ ?_
      exact ⟨_, rfl, h⟩
  · replace h := b_wp_t c2 h
    refine v_aload_n (f := 0) 0 rfl dX12_readTest_7 ?_
    refine v_iconst ⟨by decide, by decide⟩ dX12_readTest_8 ?_
    refine v_cVI (nA := 1) (As := [bI _]) (ix := 389) (cf_X12_wrong (b_wp_b h)) rfl kd_11 rfl rfl wc_X12_wrong wm_12_389 wi_X12_wrong ws_X12_wrong wn_12 ⟨by decide, by decide, by decide⟩ rfl ⟨by decide, by decide⟩ ⟨by decide, by decide⟩ (Nat.le_of_ble_eq_true rfl) dX12_readTest_9 (fun x42 M43 h => ?_)
    replace h := b_wp_two h
    obtain ⟨g44, h⟩ := b_wp_g h
    refine v_zreturn rfl g44 dX12_readTest_12 ⟨by decide, by decide⟩ ?_
    exact ⟨_, rfl, h⟩
theorem cf_X12_readTest {l : Launch} {E : bE} {M : bM} (hfg : b_fg E) {Q : (Int × bM) → Prop} (h : b_wp (F_X12_readTest M) Q) : b_C l E xX12_readTest yX12_readTest [bR 11] M (b_pI Q) := b_met (by decide) ⟨rfl, rfl⟩ (Nat.le_of_ble_eq_true rfl) (fun _ _ => t_X12_readTest hfg h)
abbrev xX12_readNumber : bX := ("BurntHallModel", prog_14_method_64_code, 3, (Option.some Jvm.ClassFile.FieldType.boolean), b_rm 8 0 0, 0, "readNumber")
abbrev yX12_readNumber : MethodName := ⟨"BurntHallModel", "readNumber", "(II)Z"⟩
theorem dX12_readNumber_0 : decode prog_14_method_64_code 0 = .ok (.aload_n 0, 1) := by decide +kernel
theorem dX12_readNumber_1 : decode prog_14_method_64_code 1 = .ok (.getfield 316, 3) := by decide +kernel
theorem dX12_readNumber_4 : decode prog_14_method_64_code 4 = .ok (.iconst 2, 1) := by decide +kernel
theorem dX12_readNumber_5 : decode prog_14_method_64_code 5 = .ok (.if_icmp .eq 9, 3) := by decide +kernel
theorem dX12_readNumber_8 : decode prog_14_method_64_code 8 = .ok (.aload_n 0, 1) := by decide +kernel
theorem dX12_readNumber_9 : decode prog_14_method_64_code 9 = .ok (.iconst 1, 1) := by decide +kernel
theorem dX12_readNumber_10 : decode prog_14_method_64_code 10 = .ok (.invokevirtual 389, 3) := by decide +kernel
theorem dX12_readNumber_13 : decode prog_14_method_64_code 13 = .ok (.ireturn, 1) := by decide +kernel
theorem dX12_readNumber_14 : decode prog_14_method_64_code 14 = .ok (.aload_n 0, 1) := by decide +kernel
theorem dX12_readNumber_15 : decode prog_14_method_64_code 15 = .ok (.getfield 338, 3) := by decide +kernel
theorem dX12_readNumber_18 : decode prog_14_method_64_code 18 = .ok (.iload_n 1, 1) := by decide +kernel
theorem dX12_readNumber_19 : decode prog_14_method_64_code 19 = .ok (.iload_n 2, 1) := by decide +kernel
theorem dX12_readNumber_20 : decode prog_14_method_64_code 20 = .ok (.invokestatic 279, 3) := by decide +kernel
theorem dX12_readNumber_23 : decode prog_14_method_64_code 23 = .ok (.ifCond .ne 9, 3) := by decide +kernel
theorem dX12_readNumber_26 : decode prog_14_method_64_code 26 = .ok (.aload_n 0, 1) := by decide +kernel
theorem dX12_readNumber_27 : decode prog_14_method_64_code 27 = .ok (.iconst 2, 1) := by decide +kernel
theorem dX12_readNumber_28 : decode prog_14_method_64_code 28 = .ok (.invokevirtual 389, 3) := by decide +kernel
theorem dX12_readNumber_31 : decode prog_14_method_64_code 31 = .ok (.ireturn, 1) := by decide +kernel
theorem dX12_readNumber_32 : decode prog_14_method_64_code 32 = .ok (.aload_n 0, 1) := by decide +kernel
theorem dX12_readNumber_33 : decode prog_14_method_64_code 33 = .ok (.aload_n 0, 1) := by decide +kernel
theorem dX12_readNumber_34 : decode prog_14_method_64_code 34 = .ok (.getfield 338, 3) := by decide +kernel
theorem dX12_readNumber_37 : decode prog_14_method_64_code 37 = .ok (.putfield 392, 3) := by decide +kernel
theorem dX12_readNumber_40 : decode prog_14_method_64_code 40 = .ok (.aload_n 0, 1) := by decide +kernel
theorem dX12_readNumber_41 : decode prog_14_method_64_code 41 = .ok (.invokevirtual 292, 3) := by decide +kernel
theorem dX12_readNumber_44 : decode prog_14_method_64_code 44 = .ok (.iconst 1, 1) := by decide +kernel
theorem dX12_readNumber_45 : decode prog_14_method_64_code 45 = .ok (.ireturn, 1) := by decide +kernel
noncomputable def F_X12_readNumber (v1 : Int) (v2 : Int) (M : bM) : Option (Int × bM) :=
  if (M 11 3) = 2 then (b_bind (F_X12_in (M 11 7) v1 v2 M) (fun x2 => if x2 = 0 then (b_bind (F_X12_wrong 2 M) (fun t => b_two t (fun x6 M7 => b_g (x6 = 0 ∨ x6 = 1) (some (x6, M7))))) else (b_let (b_up M 11 32 (M 11 7)) (fun M4 => b_bind (F_X12_scan M4) (fun M5 => some (1, M5)))))) else (b_bind (F_X12_wrong 1 M) (fun t => b_two t (fun x9 M10 => b_g (x9 = 0 ∨ x9 = 1) (some (x9, M10)))))
theorem t_X12_readNumber {l : Launch} {E : bE} {Q : (Int × bM) → Prop} {v1 : Int} {v2 : Int} {M : bM} (hfg : b_fg E) (h : b_wp (F_X12_readNumber v1 v2 M) (Q)) : V l E xX12_readNumber (0, 0) 0 [(0, bR 11), (1, bI v1), (2, bI v2)] [] M (b_pI Q) := by
  unfold F_X12_readNumber at h
  refine v_aload_n (f := 0) 0 rfl dX12_readNumber_0 ?_
  refine v_getI (kf := 3) (kz := 3) rfl kd_11 rfl ⟨by decide, by decide⟩ rfl wf_12_316 dX12_readNumber_1 ?_
  refine v_iconst ⟨by decide, by decide⟩ dX12_readNumber_4 ?_
  refine v_icmp_eq (tgt := 14) dX12_readNumber_5 (by decide) (fun c1 => ?_) (fun c1 => ?_)
  · replace h := b_wp_t c1 h
    refine v_aload_n (f := 0) 0 rfl dX12_readNumber_14 ?_
    refine v_getI (kf := 7) (kz := 7) rfl kd_11 rfl ⟨by decide, by decide⟩ rfl wf_12_338 dX12_readNumber_15 ?_
    refine v_iload_n (f := 1) 1 rfl dX12_readNumber_18 ?_
    refine v_iload_n (f := 2) 2 rfl dX12_readNumber_19 ?_
    refine v_cSIp (nA := 3) (As := [bI _, bI _, bI _]) (ix := 279) (cf_X12_in (b_wp_b h)) rfl wc_X12_in wm_12_279 wi_X12_in wn_12 ⟨by decide, by decide, by decide⟩ rfl ⟨by decide, by decide⟩ ⟨by decide, by decide⟩ (Nat.le_of_ble_eq_true rfl) dX12_readNumber_20 (fun x2 h => ?_)
    refine v_if_ne (tgt := 32) dX12_readNumber_23 (by decide) (fun c3 => ?_) (fun c3 => ?_)
    · replace h := b_wp_f c3 h
      refine v_aload_n (f := 0) 0 rfl dX12_readNumber_32 ?_
      refine v_aload_n (f := 0) 0 rfl dX12_readNumber_33 ?_
      refine v_getI (kf := 7) (kz := 7) rfl kd_11 rfl ⟨by decide, by decide⟩ rfl wf_12_338 dX12_readNumber_34 ?_
      refine v_putI (kf := 32) (kz := 32) rfl kd_11 rfl ⟨by decide, by decide⟩ rfl wf_12_392 rfl rfl dX12_readNumber_37 ?_
      replace h := b_wp_l h
      refine v_aload_n (f := 0) 0 rfl dX12_readNumber_40 ?_
      refine v_cVV (nA := 0) (As := []) (ix := 292) (cf_X12_scan hfg (b_wp_b h)) rfl kd_11 rfl rfl wc_X12_scan wm_12_292 wi_X12_scan ws_X12_scan wn_12 ⟨by decide, by decide, by decide⟩ rfl ⟨by decide, by decide⟩ ⟨by decide, by decide⟩ (Nat.le_of_ble_eq_true rfl) dX12_readNumber_41 (fun M5 h => ?_)
      refine v_iconst ⟨by decide, by decide⟩ dX12_readNumber_44 ?_
      refine v_zreturn rfl (Or.inr rfl) dX12_readNumber_45 ⟨by decide, by decide⟩ ?_
      exact ⟨_, rfl, h⟩
    · replace h := b_wp_t c3 h
      refine v_aload_n (f := 0) 0 rfl dX12_readNumber_26 ?_
      refine v_iconst ⟨by decide, by decide⟩ dX12_readNumber_27 ?_
      refine v_cVI (nA := 1) (As := [bI _]) (ix := 389) (cf_X12_wrong (b_wp_b h)) rfl kd_11 rfl rfl wc_X12_wrong wm_12_389 wi_X12_wrong ws_X12_wrong wn_12 ⟨by decide, by decide, by decide⟩ rfl ⟨by decide, by decide⟩ ⟨by decide, by decide⟩ (Nat.le_of_ble_eq_true rfl) dX12_readNumber_28 (fun x6 M7 h => ?_)
      replace h := b_wp_two h
      obtain ⟨g8, h⟩ := b_wp_g h
      refine v_zreturn rfl g8 dX12_readNumber_31 ⟨by decide, by decide⟩ ?_
      exact ⟨_, rfl, h⟩
  · replace h := b_wp_f c1 h
    refine v_aload_n (f := 0) 0 rfl dX12_readNumber_8 ?_
    refine v_iconst ⟨by decide, by decide⟩ dX12_readNumber_9 ?_
    refine v_cVI (nA := 1) (As := [bI _]) (ix := 389) (cf_X12_wrong (b_wp_b h)) rfl kd_11 rfl rfl wc_X12_wrong wm_12_389 wi_X12_wrong ws_X12_wrong wn_12 ⟨by decide, by decide, by decide⟩ rfl ⟨by decide, by decide⟩ ⟨by decide, by decide⟩ (Nat.le_of_ble_eq_true rfl) dX12_readNumber_10 (fun x9 M10 h => ?_)
    replace h := b_wp_two h
    obtain ⟨g11, h⟩ := b_wp_g h
    refine v_zreturn rfl g11 dX12_readNumber_13 ⟨by decide, by decide⟩ ?_
    exact ⟨_, rfl, h⟩
theorem cf_X12_readNumber {l : Launch} {E : bE} {M : bM} {v1 : Int} {v2 : Int} (hfg : b_fg E) {Q : (Int × bM) → Prop} (h : b_wp (F_X12_readNumber v1 v2 M) Q) : b_C l E xX12_readNumber yX12_readNumber [bR 11, bI v1, bI v2] M (b_pI Q) := b_met (by decide) ⟨rfl, rfl⟩ (Nat.le_of_ble_eq_true rfl) (fun _ _ => t_X12_readNumber hfg h)
abbrev xX12_readOne : bX := ("BurntHallModel", prog_14_method_61_code, 2, (Option.some Jvm.ClassFile.FieldType.boolean), b_rm 10 0 0, 0, "readOne")
abbrev yX12_readOne : MethodName := ⟨"BurntHallModel", "readOne", "()Z"⟩
theorem dX12_readOne_0 : decode prog_14_method_61_code 0 = .ok (.iconst 0, 1) := by decide +kernel
theorem dX12_readOne_1 : decode prog_14_method_61_code 1 = .ok (.istore_n 1, 1) := by decide +kernel
theorem dX12_readOne_2 : decode prog_14_method_61_code 2 = .ok (.aload_n 0, 1) := by decide +kernel
theorem dX12_readOne_3 : decode prog_14_method_61_code 3 = .ok (.getfield 316, 3) := by decide +kernel
theorem dX12_readOne_6 : decode prog_14_method_61_code 6 = .ok (.iconst 1, 1) := by decide +kernel
theorem dX12_readOne_7 : decode prog_14_method_61_code 7 = .ok (.if_icmp .ne 29, 3) := by decide +kernel
theorem dX12_readOne_10 : decode prog_14_method_61_code 10 = .ok (.aload_n 0, 1) := by decide +kernel
theorem dX12_readOne_11 : decode prog_14_method_61_code 11 = .ok (.getfield 313, 3) := by decide +kernel
theorem dX12_readOne_14 : decode prog_14_method_61_code 14 = .ok (.bipush 20, 2) := by decide +kernel
theorem dX12_readOne_16 : decode prog_14_method_61_code 16 = .ok (.if_icmp .ne 20, 3) := by decide +kernel
theorem dX12_readOne_19 : decode prog_14_method_61_code 19 = .ok (.iload_n 1, 1) := by decide +kernel
theorem dX12_readOne_20 : decode prog_14_method_61_code 20 = .ok (.ifCond .ne 7, 3) := by decide +kernel
theorem dX12_readOne_23 : decode prog_14_method_61_code 23 = .ok (.iconst 1, 1) := by decide +kernel
theorem dX12_readOne_24 : decode prog_14_method_61_code 24 = .ok (.goto 4, 3) := by decide +kernel
theorem dX12_readOne_27 : decode prog_14_method_61_code 27 = .ok (.iconst 0, 1) := by decide +kernel
theorem dX12_readOne_28 : decode prog_14_method_61_code 28 = .ok (.istore_n 1, 1) := by decide +kernel
theorem dX12_readOne_29 : decode prog_14_method_61_code 29 = .ok (.aload_n 0, 1) := by decide +kernel
theorem dX12_readOne_30 : decode prog_14_method_61_code 30 = .ok (.invokevirtual 292, 3) := by decide +kernel
theorem dX12_readOne_33 : decode prog_14_method_61_code 33 = .ok (.goto (-31), 3) := by decide +kernel
theorem dX12_readOne_36 : decode prog_14_method_61_code 36 = .ok (.aload_n 0, 1) := by decide +kernel
theorem dX12_readOne_37 : decode prog_14_method_61_code 37 = .ok (.getfield 316, 3) := by decide +kernel
theorem dX12_readOne_40 : decode prog_14_method_61_code 40 = .ok (.iconst 5, 1) := by decide +kernel
theorem dX12_readOne_41 : decode prog_14_method_61_code 41 = .ok (.if_icmp .ne 72, 3) := by decide +kernel
theorem dX12_readOne_44 : decode prog_14_method_61_code 44 = .ok (.aload_n 0, 1) := by decide +kernel
theorem dX12_readOne_45 : decode prog_14_method_61_code 45 = .ok (.getfield 454, 3) := by decide +kernel
theorem dX12_readOne_48 : decode prog_14_method_61_code 48 = .ok (.iconst 5, 1) := by decide +kernel
theorem dX12_readOne_49 : decode prog_14_method_61_code 49 = .ok (.if_icmp .ne 9, 3) := by decide +kernel
theorem dX12_readOne_52 : decode prog_14_method_61_code 52 = .ok (.aload_n 0, 1) := by decide +kernel
theorem dX12_readOne_53 : decode prog_14_method_61_code 53 = .ok (.iconst 4, 1) := by decide +kernel
theorem dX12_readOne_54 : decode prog_14_method_61_code 54 = .ok (.invokevirtual 389, 3) := by decide +kernel
theorem dX12_readOne_57 : decode prog_14_method_61_code 57 = .ok (.ireturn, 1) := by decide +kernel
theorem dX12_readOne_58 : decode prog_14_method_61_code 58 = .ok (.aload_n 0, 1) := by decide +kernel
theorem dX12_readOne_59 : decode prog_14_method_61_code 59 = .ok (.dup, 1) := by decide +kernel
theorem dX12_readOne_60 : decode prog_14_method_61_code 60 = .ok (.getfield 454, 3) := by decide +kernel
theorem dX12_readOne_63 : decode prog_14_method_61_code 63 = .ok (.iconst 1, 1) := by decide +kernel
theorem dX12_readOne_64 : decode prog_14_method_61_code 64 = .ok (.iadd, 1) := by decide +kernel
theorem dX12_readOne_65 : decode prog_14_method_61_code 65 = .ok (.putfield 454, 3) := by decide +kernel
theorem dX12_readOne_68 : decode prog_14_method_61_code 68 = .ok (.aload_n 0, 1) := by decide +kernel
theorem dX12_readOne_69 : decode prog_14_method_61_code 69 = .ok (.invokevirtual 292, 3) := by decide +kernel
theorem dX12_readOne_72 : decode prog_14_method_61_code 72 = .ok (.aload_n 0, 1) := by decide +kernel
theorem dX12_readOne_73 : decode prog_14_method_61_code 73 = .ok (.invokevirtual 457, 3) := by decide +kernel
theorem dX12_readOne_76 : decode prog_14_method_61_code 76 = .ok (.ifCond .ne 5, 3) := by decide +kernel
theorem dX12_readOne_79 : decode prog_14_method_61_code 79 = .ok (.iconst 0, 1) := by decide +kernel
theorem dX12_readOne_80 : decode prog_14_method_61_code 80 = .ok (.ireturn, 1) := by decide +kernel
theorem dX12_readOne_81 : decode prog_14_method_61_code 81 = .ok (.aload_n 0, 1) := by decide +kernel
theorem dX12_readOne_82 : decode prog_14_method_61_code 82 = .ok (.getfield 316, 3) := by decide +kernel
theorem dX12_readOne_85 : decode prog_14_method_61_code 85 = .ok (.bipush 6, 2) := by decide +kernel
theorem dX12_readOne_87 : decode prog_14_method_61_code 87 = .ok (.if_icmp .eq 9, 3) := by decide +kernel
theorem dX12_readOne_90 : decode prog_14_method_61_code 90 = .ok (.aload_n 0, 1) := by decide +kernel
theorem dX12_readOne_91 : decode prog_14_method_61_code 91 = .ok (.iconst 1, 1) := by decide +kernel
theorem dX12_readOne_92 : decode prog_14_method_61_code 92 = .ok (.invokevirtual 389, 3) := by decide +kernel
theorem dX12_readOne_95 : decode prog_14_method_61_code 95 = .ok (.ireturn, 1) := by decide +kernel
theorem dX12_readOne_96 : decode prog_14_method_61_code 96 = .ok (.aload_n 0, 1) := by decide +kernel
theorem dX12_readOne_97 : decode prog_14_method_61_code 97 = .ok (.dup, 1) := by decide +kernel
theorem dX12_readOne_98 : decode prog_14_method_61_code 98 = .ok (.getfield 454, 3) := by decide +kernel
theorem dX12_readOne_101 : decode prog_14_method_61_code 101 = .ok (.iconst 1, 1) := by decide +kernel
theorem dX12_readOne_102 : decode prog_14_method_61_code 102 = .ok (.isub, 1) := by decide +kernel
theorem dX12_readOne_103 : decode prog_14_method_61_code 103 = .ok (.putfield 454, 3) := by decide +kernel
theorem dX12_readOne_106 : decode prog_14_method_61_code 106 = .ok (.aload_n 0, 1) := by decide +kernel
theorem dX12_readOne_107 : decode prog_14_method_61_code 107 = .ok (.invokevirtual 292, 3) := by decide +kernel
theorem dX12_readOne_110 : decode prog_14_method_61_code 110 = .ok (.goto 12, 3) := by decide +kernel
theorem dX12_readOne_113 : decode prog_14_method_61_code 113 = .ok (.aload_n 0, 1) := by decide +kernel
theorem dX12_readOne_114 : decode prog_14_method_61_code 114 = .ok (.invokevirtual 460, 3) := by decide +kernel
theorem dX12_readOne_117 : decode prog_14_method_61_code 117 = .ok (.ifCond .ne 5, 3) := by decide +kernel
theorem dX12_readOne_120 : decode prog_14_method_61_code 120 = .ok (.iconst 0, 1) := by decide +kernel
theorem dX12_readOne_121 : decode prog_14_method_61_code 121 = .ok (.ireturn, 1) := by decide +kernel
theorem dX12_readOne_122 : decode prog_14_method_61_code 122 = .ok (.iload_n 1, 1) := by decide +kernel
theorem dX12_readOne_123 : decode prog_14_method_61_code 123 = .ok (.ifCond .eq 9, 3) := by decide +kernel
theorem dX12_readOne_126 : decode prog_14_method_61_code 126 = .ok (.aload_n 0, 1) := by decide +kernel
theorem dX12_readOne_127 : decode prog_14_method_61_code 127 = .ok (.bipush (-3), 2) := by decide +kernel
theorem dX12_readOne_129 : decode prog_14_method_61_code 129 = .ok (.invokevirtual 448, 3) := by decide +kernel
theorem dX12_readOne_132 : decode prog_14_method_61_code 132 = .ok (.iconst 1, 1) := by decide +kernel
theorem dX12_readOne_133 : decode prog_14_method_61_code 133 = .ok (.ireturn, 1) := by decide +kernel
abbrev xX12_readOne_L5 : bX := ("BurntHallModel", prog_14_method_61_code, 2, (Option.some Jvm.ClassFile.FieldType.boolean), b_rm 10 0 0, 0, "readOne")
abbrev A_X12_readOne_L5_2 (l : Launch) (E : bE) (Q : (Int × bM) → Prop) : (Int × bM) → Prop := (fun t : Int × bM => V l E xX12_readOne_L5 (0, 0) 2 [(0, bR 11), (1, bI (t.1))] [] t.2 (b_pI Q))
abbrev X_X12_readOne_L5_2 (l : Launch) (E : bE) (Q : (Int × bM) → Prop) : (Int × bM) → Prop := (fun t : Int × bM => V l E xX12_readOne_L5 (0, 0) 36 [(0, bR 11), (1, bI (t.1))] [] t.2 (b_pI Q))
noncomputable def F_X12_readOne_L5_b28 (u0 : Int) (M : bM) : Option ((Int × bM) ⊕ (Int × bM)) :=
  b_bind (F_X12_scan M) (fun M4 => some (.inl (u0, M4)))
theorem t_X12_readOne_L5_b28 {l : Launch} {E : bE} {Q : (Int × bM) → Prop} {u0 : Int} {M : bM} (hfg : b_fg E) (h : b_wp (F_X12_readOne_L5_b28 u0 M) (Sum.elim (A_X12_readOne_L5_2 l E Q ) (X_X12_readOne_L5_2 l E Q ))) : V l E xX12_readOne_L5 (0, 0) 28 [(0, bR 11)] [bI u0] M (b_pI Q) := by
  unfold F_X12_readOne_L5_b28 at h
  refine v_istore_n (g := 1) (i := 1) (ls' := [(1, bI _), (0, bR _)]) rfl (by decide) dX12_readOne_28 rfl ?_
  refine v_aload_n (f := 0) 1 rfl dX12_readOne_29 ?_
  refine v_cVV (nA := 0) (As := []) (ix := 292) (cf_X12_scan hfg (b_wp_b h)) rfl kd_11 rfl rfl wc_X12_scan wm_12_292 wi_X12_scan ws_X12_scan wn_12 ⟨by decide, by decide, by decide⟩ rfl ⟨by decide, by decide⟩ ⟨by decide, by decide⟩ (Nat.le_of_ble_eq_true rfl) dX12_readOne_30 (fun M4 h => ?_)
  refine v_goto (tgt := 2) dX12_readOne_33 (by decide) ?_
  refine v_sub (ls2 := [(0, bR _), (1, bI _)]) [1, 0] rfl ?_
  exact h
noncomputable def F_X12_readOne_L5_s2 (v1 : Int) (M : bM) : Option ((Int × bM) ⊕ (Int × bM)) :=
  if (M 11 3) = 1 then (if (M 11 4) = 20 then (if v1 = 0 then (F_X12_readOne_L5_b28 1 M) else (F_X12_readOne_L5_b28 0 M)) else (some (.inr (v1, M)))) else (some (.inr (v1, M)))
theorem t_X12_readOne_L5_s2 {l : Launch} {E : bE} {Q : (Int × bM) → Prop} {v1 : Int} {M : bM} (hfg : b_fg E) (h : b_wp (F_X12_readOne_L5_s2 v1 M) (Sum.elim (A_X12_readOne_L5_2 l E Q ) (X_X12_readOne_L5_2 l E Q ))) : V l E xX12_readOne_L5 (0, 0) 2 [(0, bR 11), (1, bI v1)] [] M (b_pI Q) := by
  unfold F_X12_readOne_L5_s2 at h
  refine v_aload_n (f := 0) 0 rfl dX12_readOne_2 ?_
  refine v_getI (kf := 3) (kz := 3) rfl kd_11 rfl ⟨by decide, by decide⟩ rfl wf_12_316 dX12_readOne_3 ?_
  refine v_iconst ⟨by decide, by decide⟩ dX12_readOne_6 ?_
  refine v_icmp_ne (tgt := 36) dX12_readOne_7 (by decide) (fun c1 => ?_) (fun c1 => ?_)
  · replace h := b_wp_f c1 h
    exact h
  · replace h := b_wp_t c1 h
    refine v_aload_n (f := 0) 0 rfl dX12_readOne_10 ?_
    refine v_getI (kf := 4) (kz := 4) rfl kd_11 rfl ⟨by decide, by decide⟩ rfl wf_12_313 dX12_readOne_11 ?_
    refine v_bipush ⟨by decide, by decide⟩ (by decide) dX12_readOne_14 ?_
    refine v_icmp_ne (tgt := 36) dX12_readOne_16 (by decide) (fun c2 => ?_) (fun c2 => ?_)
    · replace h := b_wp_f c2 h
      exact h
    · replace h := b_wp_t c2 h
      refine v_iload_n (f := 1) 1 rfl dX12_readOne_19 ?_
      refine v_if_ne (tgt := 27) dX12_readOne_20 (by decide) (fun c3 => ?_) (fun c3 => ?_)
      · replace h := b_wp_f c3 h
        refine v_iconst ⟨by decide, by decide⟩ dX12_readOne_27 ?_
        refine v_sub (ls2 := [(0, bR _)]) [0] rfl ?_
        exact t_X12_readOne_L5_b28 hfg h
      · replace h := b_wp_t c3 h
        refine v_iconst ⟨by decide, by decide⟩ dX12_readOne_23 ?_
        refine v_goto (tgt := 28) dX12_readOne_24 (by decide) ?_
        refine v_sub (ls2 := [(0, bR _)]) [0] rfl ?_
        exact t_X12_readOne_L5_b28 hfg h
theorem l_X12_readOne_L5_2 {l : Launch} {E : bE} {Q : (Int × bM) → Prop} (hfg : b_fg E) {s : Int × bM} (h : b_wp (b_loop (fun t => F_X12_readOne_L5_s2 t.1 t.2) s) (X_X12_readOne_L5_2 l E Q )) : A_X12_readOne_L5_2 l E Q  s := b_loop_wp (fun t h => t_X12_readOne_L5_s2 hfg h) s h
noncomputable def F_X12_readOne_L5_b122 (v1 : Int) (M : bM) : Option (Int × bM) :=
  if v1 = 0 then (some (1, M)) else (b_bind (F_X12_addStep (-3) M) (fun M10 => some (1, M10)))
theorem t_X12_readOne_L5_b122 {l : Launch} {E : bE} {Q : (Int × bM) → Prop} {v1 : Int} {M : bM} (hfg : b_fg E) (h : b_wp (F_X12_readOne_L5_b122 v1 M) (Q)) : V l E xX12_readOne_L5 (0, 0) 122 [(0, bR 11), (1, bI v1)] [] M (b_pI Q) := by
  unfold F_X12_readOne_L5_b122 at h
  refine v_iload_n (f := 1) 1 rfl dX12_readOne_122 ?_
  refine v_if_eq (tgt := 132) dX12_readOne_123 (by decide) (fun c9 => ?_) (fun c9 => ?_)
  · replace h := b_wp_t c9 h
    refine v_iconst ⟨by decide, by decide⟩ dX12_readOne_132 ?_
    refine v_zreturn rfl (Or.inr rfl) dX12_readOne_133 ⟨by decide, by decide⟩ ?_
    exact ⟨_, rfl, h⟩
  · replace h := b_wp_f c9 h
    refine v_aload_n (f := 0) 0 rfl dX12_readOne_126 ?_
    refine v_bipush ⟨by decide, by decide⟩ (by decide) dX12_readOne_127 ?_
    refine v_cVV (nA := 1) (As := [bI _]) (ix := 448) (cf_X12_addStep (b_wp_b h)) rfl kd_11 rfl rfl wc_X12_addStep wm_12_448 wi_X12_addStep ws_X12_addStep wn_12 ⟨by decide, by decide, by decide⟩ rfl ⟨by decide, by decide⟩ ⟨by decide, by decide⟩ (Nat.le_of_ble_eq_true rfl) dX12_readOne_129 (fun M10 h => ?_)
    refine v_iconst ⟨by decide, by decide⟩ dX12_readOne_132 ?_
    refine v_zreturn rfl (Or.inr rfl) dX12_readOne_133 ⟨by decide, by decide⟩ ?_
    exact ⟨_, rfl, h⟩
noncomputable def F_X12_readOne_L5_b36 (v1 : Int) (M : bM) : Option (Int × bM) :=
  if (M 11 3) = 5 then (if (M 11 49) = 5 then (b_bind (F_X12_wrong 4 M) (fun t => b_two t (fun x15 M16 => b_g (x15 = 0 ∨ x15 = 1) (some (x15, M16))))) else (b_g (b_i32 ((M 11 49) + 1)) (b_let (b_up M 11 49 ((M 11 49) + 1)) (fun M13 => b_bind (F_X12_scan M13) (fun M14 => none))))) else (b_bind (F_X12_readTest M) (fun t => b_two t (fun x6 M7 => if x6 = 0 then (some (0, M7)) else (F_X12_readOne_L5_b122 v1 M7))))
theorem t_X12_readOne_L5_b36 {l : Launch} {E : bE} {Q : (Int × bM) → Prop} {v1 : Int} {M : bM} (hfg : b_fg E) (h : b_wp (F_X12_readOne_L5_b36 v1 M) (Q)) : V l E xX12_readOne_L5 (0, 0) 36 [(0, bR 11), (1, bI v1)] [] M (b_pI Q) := by
  unfold F_X12_readOne_L5_b36 at h
  refine v_aload_n (f := 0) 0 rfl dX12_readOne_36 ?_
  refine v_getI (kf := 3) (kz := 3) rfl kd_11 rfl ⟨by decide, by decide⟩ rfl wf_12_316 dX12_readOne_37 ?_
  refine v_iconst ⟨by decide, by decide⟩ dX12_readOne_40 ?_
  refine v_icmp_ne (tgt := 113) dX12_readOne_41 (by decide) (fun c5 => ?_) (fun c5 => ?_)
  · replace h := b_wp_f c5 h
    refine v_aload_n (f := 0) 0 rfl dX12_readOne_113 ?_
    refine v_cVI (nA := 0) (As := []) (ix := 460) (cf_X12_readTest hfg (b_wp_b h)) rfl kd_11 rfl rfl wc_X12_readTest wm_12_460 wi_X12_readTest ws_X12_readTest wn_12 ⟨by decide, by decide, by decide⟩ rfl ⟨by decide, by decide⟩ ⟨by decide, by decide⟩ (Nat.le_of_ble_eq_true rfl) dX12_readOne_114 (fun x6 M7 h => ?_)
    replace h := b_wp_two h
    refine v_if_ne (tgt := 122) dX12_readOne_117 (by decide) (fun c8 => ?_) (fun c8 => ?_)
    · replace h := b_wp_f c8 h
      exact t_X12_readOne_L5_b122 hfg h
    · replace h := b_wp_t c8 h
      refine v_iconst ⟨by decide, by decide⟩ dX12_readOne_120 ?_
      refine v_zreturn rfl (Or.inl rfl) dX12_readOne_121 ⟨by decide, by decide⟩ ?_
      exact ⟨_, rfl, h⟩
  · replace h := b_wp_t c5 h
    refine v_aload_n (f := 0) 0 rfl dX12_readOne_44 ?_
    refine v_getI (kf := 49) (kz := 49) rfl kd_11 rfl ⟨by decide, by decide⟩ rfl wf_12_454 dX12_readOne_45 ?_
    refine v_iconst ⟨by decide, by decide⟩ dX12_readOne_48 ?_
    refine v_icmp_ne (tgt := 58) dX12_readOne_49 (by decide) (fun c11 => ?_) (fun c11 => ?_)
    · replace h := b_wp_f c11 h
      obtain ⟨g12, h⟩ := b_wp_g h
      refine v_aload_n (f := 0) 0 rfl dX12_readOne_58 ?_
      refine v_dup rfl dX12_readOne_59 ?_
      refine v_getI (kf := 49) (kz := 49) rfl kd_11 rfl ⟨by decide, by decide⟩ rfl wf_12_454 dX12_readOne_60 ?_
      refine v_iconst ⟨by decide, by decide⟩ dX12_readOne_63 ?_
      refine v_iaddN g12 dX12_readOne_64 ?_
      refine v_putI (kf := 49) (kz := 49) rfl kd_11 rfl ⟨by decide, by decide⟩ rfl wf_12_454 rfl rfl dX12_readOne_65 ?_
      replace h := b_wp_l h
      refine v_aload_n (f := 0) 0 rfl dX12_readOne_68 ?_
      refine v_cVV (nA := 0) (As := []) (ix := 292) (cf_X12_scan hfg (b_wp_b h)) rfl kd_11 rfl rfl wc_X12_scan wm_12_292 wi_X12_scan ws_X12_scan wn_12 ⟨by decide, by decide, by decide⟩ rfl ⟨by decide, by decide⟩ ⟨by decide, by decide⟩ (Nat.le_of_ble_eq_true rfl) dX12_readOne_69 (fun M14 h => ?_)
      refine v_aload_n (f := 0) 0 rfl dX12_readOne_72 ?_
      exact h.elim
    · replace h := b_wp_t c11 h
      refine v_aload_n (f := 0) 0 rfl dX12_readOne_52 ?_
      refine v_iconst ⟨by decide, by decide⟩ dX12_readOne_53 ?_
      refine v_cVI (nA := 1) (As := [bI _]) (ix := 389) (cf_X12_wrong (b_wp_b h)) rfl kd_11 rfl rfl wc_X12_wrong wm_12_389 wi_X12_wrong ws_X12_wrong wn_12 ⟨by decide, by decide, by decide⟩ rfl ⟨by decide, by decide⟩ ⟨by decide, by decide⟩ (Nat.le_of_ble_eq_true rfl) dX12_readOne_54 (fun x15 M16 h => ?_)
      replace h := b_wp_two h
      obtain ⟨g17, h⟩ := b_wp_g h
      refine v_zreturn rfl g17 dX12_readOne_57 ⟨by decide, by decide⟩ ?_
      exact ⟨_, rfl, h⟩
noncomputable def F_X12_readOne_L5 (M : bM) : Option (Int × bM) :=
  b_bind (b_loop (fun t => F_X12_readOne_L5_s2 t.1 t.2) (0, M)) (fun t => F_X12_readOne_L5_b36 (t.1) (t.2))
theorem t_X12_readOne_L5 {l : Launch} {E : bE} {Q : (Int × bM) → Prop} {M : bM} (hfg : b_fg E) (h : b_wp (F_X12_readOne_L5 M) (Q)) : V l E xX12_readOne_L5 (0, 0) 0 [(0, bR 11)] [] M (b_pI Q) := by
  unfold F_X12_readOne_L5 at h
  refine v_iconst ⟨by decide, by decide⟩ dX12_readOne_0 ?_
  refine v_istore_n (g := 1) (i := 1) (ls' := [(1, bI _), (0, bR _)]) rfl (by decide) dX12_readOne_1 rfl ?_
  refine v_sub (ls2 := [(0, bR _), (1, bI _)]) [1, 0] rfl ?_
  refine l_X12_readOne_L5_2 hfg (b_wp_m (fun t h => ?_) (b_wp_b h))
  show V l E xX12_readOne_L5 (0, 0) 36 [(0, bR 11), (1, bI _)] [] _ (b_pI Q)
  exact t_X12_readOne_L5_b36 hfg h
theorem cf_X12_readOne_L5 {l : Launch} {E : bE} {M : bM} (hfg : b_fg E) {Q : (Int × bM) → Prop} (h : b_wp (F_X12_readOne_L5 M) Q) : b_C l E xX12_readOne_L5 yX12_readOne [bR 11] M (b_pI Q) := b_met (by decide) ⟨rfl, rfl⟩ (Nat.le_of_ble_eq_true rfl) (fun _ _ => t_X12_readOne_L5 hfg h)
abbrev xX12_readAll : bX := ("BurntHallModel", prog_14_method_62_code, 1, (Option.some Jvm.ClassFile.FieldType.boolean), b_rm 8 0 0, 0, "readAll")
abbrev yX12_readAll : MethodName := ⟨"BurntHallModel", "readAll", "()Z"⟩
theorem dX12_readAll_0 : decode prog_14_method_62_code 0 = .ok (.aload_n 0, 1) := by decide +kernel
theorem dX12_readAll_1 : decode prog_14_method_62_code 1 = .ok (.invokevirtual 463, 3) := by decide +kernel
theorem dX12_readAll_4 : decode prog_14_method_62_code 4 = .ok (.ifCond .ne 5, 3) := by decide +kernel
theorem dX12_readAll_7 : decode prog_14_method_62_code 7 = .ok (.iconst 0, 1) := by decide +kernel
theorem dX12_readAll_8 : decode prog_14_method_62_code 8 = .ok (.ireturn, 1) := by decide +kernel
theorem dX12_readAll_9 : decode prog_14_method_62_code 9 = .ok (.aload_n 0, 1) := by decide +kernel
theorem dX12_readAll_10 : decode prog_14_method_62_code 10 = .ok (.getfield 316, 3) := by decide +kernel
theorem dX12_readAll_13 : decode prog_14_method_62_code 13 = .ok (.iconst 1, 1) := by decide +kernel
theorem dX12_readAll_14 : decode prog_14_method_62_code 14 = .ok (.if_icmp .ne 33, 3) := by decide +kernel
theorem dX12_readAll_17 : decode prog_14_method_62_code 17 = .ok (.aload_n 0, 1) := by decide +kernel
theorem dX12_readAll_18 : decode prog_14_method_62_code 18 = .ok (.getfield 313, 3) := by decide +kernel
theorem dX12_readAll_21 : decode prog_14_method_62_code 21 = .ok (.bipush 19, 2) := by decide +kernel
theorem dX12_readAll_23 : decode prog_14_method_62_code 23 = .ok (.if_icmp .ne 24, 3) := by decide +kernel
theorem dX12_readAll_26 : decode prog_14_method_62_code 26 = .ok (.aload_n 0, 1) := by decide +kernel
theorem dX12_readAll_27 : decode prog_14_method_62_code 27 = .ok (.invokevirtual 292, 3) := by decide +kernel
theorem dX12_readAll_30 : decode prog_14_method_62_code 30 = .ok (.aload_n 0, 1) := by decide +kernel
theorem dX12_readAll_31 : decode prog_14_method_62_code 31 = .ok (.invokevirtual 463, 3) := by decide +kernel
theorem dX12_readAll_34 : decode prog_14_method_62_code 34 = .ok (.ifCond .ne 5, 3) := by decide +kernel
theorem dX12_readAll_37 : decode prog_14_method_62_code 37 = .ok (.iconst 0, 1) := by decide +kernel
theorem dX12_readAll_38 : decode prog_14_method_62_code 38 = .ok (.ireturn, 1) := by decide +kernel
theorem dX12_readAll_39 : decode prog_14_method_62_code 39 = .ok (.aload_n 0, 1) := by decide +kernel
theorem dX12_readAll_40 : decode prog_14_method_62_code 40 = .ok (.iconst (-1), 1) := by decide +kernel
theorem dX12_readAll_41 : decode prog_14_method_62_code 41 = .ok (.invokevirtual 448, 3) := by decide +kernel
theorem dX12_readAll_44 : decode prog_14_method_62_code 44 = .ok (.goto (-35), 3) := by decide +kernel
theorem dX12_readAll_47 : decode prog_14_method_62_code 47 = .ok (.iconst 1, 1) := by decide +kernel
theorem dX12_readAll_48 : decode prog_14_method_62_code 48 = .ok (.ireturn, 1) := by decide +kernel
abbrev xX12_readAll_L5 : bX := ("BurntHallModel", prog_14_method_62_code, 1, (Option.some Jvm.ClassFile.FieldType.boolean), b_rm 11 0 0, 0, "readAll")
abbrev A_X12_readAll_L5_9 (l : Launch) (E : bE) (Q : (Int × bM) → Prop) : (bM) → Prop := (fun t : bM => V l E xX12_readAll_L5 (0, 0) 9 [(0, bR 11)] [] t (b_pI Q))
abbrev X_X12_readAll_L5_9 (l : Launch) (E : bE) (Q : (Int × bM) → Prop) : ((bM) ⊕ (Int × bM)) → Prop := (Sum.elim (fun t : bM => V l E xX12_readAll_L5 (0, 0) 47 [] [] t (b_pI Q)) Q)
noncomputable def F_X12_readAll_L5_s9 (M : bM) : Option ((bM) ⊕ ((bM) ⊕ (Int × bM))) :=
  if (M 11 3) = 1 then (if (M 11 4) = 19 then (b_bind (F_X12_scan M) (fun M6 => b_bind (F_X12_readOne_L5 M6) (fun t => b_two t (fun x7 M8 => if x7 = 0 then (some (.inr (.inr (0, M8)))) else (b_bind (F_X12_addStep (-1) M8) (fun M10 => some (.inl (M10)))))))) else (some (.inr (.inl (M))))) else (some (.inr (.inl (M))))
theorem t_X12_readAll_L5_s9 {l : Launch} {E : bE} {Q : (Int × bM) → Prop} {M : bM} (hfg : b_fg E) (h : b_wp (F_X12_readAll_L5_s9 M) (Sum.elim (A_X12_readAll_L5_9 l E Q ) (X_X12_readAll_L5_9 l E Q ))) : V l E xX12_readAll_L5 (0, 0) 9 [(0, bR 11)] [] M (b_pI Q) := by
  unfold F_X12_readAll_L5_s9 at h
  refine v_aload_n (f := 0) 0 rfl dX12_readAll_9 ?_
  refine v_getI (kf := 3) (kz := 3) rfl kd_11 rfl ⟨by decide, by decide⟩ rfl wf_12_316 dX12_readAll_10 ?_
  refine v_iconst ⟨by decide, by decide⟩ dX12_readAll_13 ?_
  refine v_icmp_ne (tgt := 47) dX12_readAll_14 (by decide) (fun c4 => ?_) (fun c4 => ?_)
  · replace h := b_wp_f c4 h
    refine v_sub (ls2 := []) [] rfl ?_
    exact h
  · replace h := b_wp_t c4 h
    refine v_aload_n (f := 0) 0 rfl dX12_readAll_17 ?_
    refine v_getI (kf := 4) (kz := 4) rfl kd_11 rfl ⟨by decide, by decide⟩ rfl wf_12_313 dX12_readAll_18 ?_
    refine v_bipush ⟨by decide, by decide⟩ (by decide) dX12_readAll_21 ?_
    refine v_icmp_ne (tgt := 47) dX12_readAll_23 (by decide) (fun c5 => ?_) (fun c5 => ?_)
    · replace h := b_wp_f c5 h
      refine v_sub (ls2 := []) [] rfl ?_
      exact h
    · replace h := b_wp_t c5 h
      refine v_aload_n (f := 0) 0 rfl dX12_readAll_26 ?_
      refine v_cVV (nA := 0) (As := []) (ix := 292) (cf_X12_scan hfg (b_wp_b h)) rfl kd_11 rfl rfl wc_X12_scan wm_12_292 wi_X12_scan ws_X12_scan wn_12 ⟨by decide, by decide, by decide⟩ rfl ⟨by decide, by decide⟩ ⟨by decide, by decide⟩ (Nat.le_of_ble_eq_true rfl) dX12_readAll_27 (fun M6 h => ?_)
      refine v_aload_n (f := 0) 0 rfl dX12_readAll_30 ?_
      refine v_cVI (nA := 0) (As := []) (ix := 463) (cf_X12_readOne_L5 hfg (b_wp_b h)) rfl kd_11 rfl rfl wc_X12_readOne wm_12_463 wi_X12_readOne ws_X12_readOne wn_12 ⟨by decide, by decide, by decide⟩ rfl ⟨by decide, by decide⟩ ⟨by decide, by decide⟩ (Nat.le_of_ble_eq_true rfl) dX12_readAll_31 (fun x7 M8 h => ?_)
      replace h := b_wp_two h
      refine v_if_ne (tgt := 39) dX12_readAll_34 (by decide) (fun c9 => ?_) (fun c9 => ?_)
      · replace h := b_wp_f c9 h
        refine v_aload_n (f := 0) 0 rfl dX12_readAll_39 ?_
        refine v_iconst ⟨by decide, by decide⟩ dX12_readAll_40 ?_
        refine v_cVV (nA := 1) (As := [bI _]) (ix := 448) (cf_X12_addStep (b_wp_b h)) rfl kd_11 rfl rfl wc_X12_addStep wm_12_448 wi_X12_addStep ws_X12_addStep wn_12 ⟨by decide, by decide, by decide⟩ rfl ⟨by decide, by decide⟩ ⟨by decide, by decide⟩ (Nat.le_of_ble_eq_true rfl) dX12_readAll_41 (fun M10 h => ?_)
        refine v_goto (tgt := 9) dX12_readAll_44 (by decide) ?_
        exact h
      · replace h := b_wp_t c9 h
        refine v_iconst ⟨by decide, by decide⟩ dX12_readAll_37 ?_
        refine v_zreturn rfl (Or.inl rfl) dX12_readAll_38 ⟨by decide, by decide⟩ ?_
        exact ⟨_, rfl, h⟩
theorem l_X12_readAll_L5_9 {l : Launch} {E : bE} {Q : (Int × bM) → Prop} (hfg : b_fg E) {s : bM} (h : b_wp (b_loop (fun t => F_X12_readAll_L5_s9 t) s) (X_X12_readAll_L5_9 l E Q )) : A_X12_readAll_L5_9 l E Q  s := b_loop_wp (fun t h => t_X12_readAll_L5_s9 hfg h) s h
noncomputable def F_X12_readAll_L5_b47 (M : bM) : Option (Int × bM) :=
  some (1, M)
theorem t_X12_readAll_L5_b47 {l : Launch} {E : bE} {Q : (Int × bM) → Prop} {M : bM} (hfg : b_fg E) (h : b_wp (F_X12_readAll_L5_b47 M) (Q)) : V l E xX12_readAll_L5 (0, 0) 47 [] [] M (b_pI Q) := by
  unfold F_X12_readAll_L5_b47 at h
  refine v_iconst ⟨by decide, by decide⟩ dX12_readAll_47 ?_
  refine v_zreturn rfl (Or.inr rfl) dX12_readAll_48 ⟨by decide, by decide⟩ ?_
  exact ⟨_, rfl, h⟩
noncomputable def F_X12_readAll_L5 (M : bM) : Option (Int × bM) :=
  b_bind (F_X12_readOne_L5 M) (fun t => b_two t (fun x1 M2 => if x1 = 0 then (some (0, M2)) else (b_bind (b_loop (fun t => F_X12_readAll_L5_s9 t) (M2)) (Sum.elim (fun t => F_X12_readAll_L5_b47 t) some))))
theorem t_X12_readAll_L5 {l : Launch} {E : bE} {Q : (Int × bM) → Prop} {M : bM} (hfg : b_fg E) (h : b_wp (F_X12_readAll_L5 M) (Q)) : V l E xX12_readAll_L5 (0, 0) 0 [(0, bR 11)] [] M (b_pI Q) := by
  unfold F_X12_readAll_L5 at h
  refine v_aload_n (f := 0) 0 rfl dX12_readAll_0 ?_
  refine v_cVI (nA := 0) (As := []) (ix := 463) (cf_X12_readOne_L5 hfg (b_wp_b h)) rfl kd_11 rfl rfl wc_X12_readOne wm_12_463 wi_X12_readOne ws_X12_readOne wn_12 ⟨by decide, by decide, by decide⟩ rfl ⟨by decide, by decide⟩ ⟨by decide, by decide⟩ (Nat.le_of_ble_eq_true rfl) dX12_readAll_1 (fun x1 M2 h => ?_)
  replace h := b_wp_two h
  refine v_if_ne (tgt := 9) dX12_readAll_4 (by decide) (fun c3 => ?_) (fun c3 => ?_)
  · replace h := b_wp_f c3 h
    refine l_X12_readAll_L5_9 hfg (b_wp_m (fun t h => ?_) (b_wp_b h))
    cases t with
    | inr o => exact h
    | inl t =>
      show V l E xX12_readAll_L5 (0, 0) 47 [] [] _ (b_pI Q)
      replace h := b_wp_inl h
      exact t_X12_readAll_L5_b47 hfg h
  · replace h := b_wp_t c3 h
    refine v_iconst ⟨by decide, by decide⟩ dX12_readAll_7 ?_
    refine v_zreturn rfl (Or.inl rfl) dX12_readAll_8 ⟨by decide, by decide⟩ ?_
    exact ⟨_, rfl, h⟩
theorem cf_X12_readAll_L5 {l : Launch} {E : bE} {M : bM} (hfg : b_fg E) {Q : (Int × bM) → Prop} (h : b_wp (F_X12_readAll_L5 M) Q) : b_C l E xX12_readAll_L5 yX12_readAll [bR 11] M (b_pI Q) := b_met (by decide) ⟨rfl, rfl⟩ (Nat.le_of_ble_eq_true rfl) (fun _ _ => t_X12_readAll_L5 hfg h)
abbrev xX12_readCond : bX := ("BurntHallModel", prog_14_method_63_code, 1, (Option.some Jvm.ClassFile.FieldType.boolean), b_rm 9 0 0, 0, "readCond")
abbrev yX12_readCond : MethodName := ⟨"BurntHallModel", "readCond", "()Z"⟩
theorem dX12_readCond_0 : decode prog_14_method_63_code 0 = .ok (.aload_n 0, 1) := by decide +kernel
theorem dX12_readCond_1 : decode prog_14_method_63_code 1 = .ok (.invokevirtual 466, 3) := by decide +kernel
theorem dX12_readCond_4 : decode prog_14_method_63_code 4 = .ok (.ifCond .ne 5, 3) := by decide +kernel
theorem dX12_readCond_7 : decode prog_14_method_63_code 7 = .ok (.iconst 0, 1) := by decide +kernel
theorem dX12_readCond_8 : decode prog_14_method_63_code 8 = .ok (.ireturn, 1) := by decide +kernel
theorem dX12_readCond_9 : decode prog_14_method_63_code 9 = .ok (.aload_n 0, 1) := by decide +kernel
theorem dX12_readCond_10 : decode prog_14_method_63_code 10 = .ok (.getfield 316, 3) := by decide +kernel
theorem dX12_readCond_13 : decode prog_14_method_63_code 13 = .ok (.iconst 1, 1) := by decide +kernel
theorem dX12_readCond_14 : decode prog_14_method_63_code 14 = .ok (.if_icmp .ne 34, 3) := by decide +kernel
theorem dX12_readCond_17 : decode prog_14_method_63_code 17 = .ok (.aload_n 0, 1) := by decide +kernel
theorem dX12_readCond_18 : decode prog_14_method_63_code 18 = .ok (.getfield 313, 3) := by decide +kernel
theorem dX12_readCond_21 : decode prog_14_method_63_code 21 = .ok (.bipush 18, 2) := by decide +kernel
theorem dX12_readCond_23 : decode prog_14_method_63_code 23 = .ok (.if_icmp .ne 25, 3) := by decide +kernel
theorem dX12_readCond_26 : decode prog_14_method_63_code 26 = .ok (.aload_n 0, 1) := by decide +kernel
theorem dX12_readCond_27 : decode prog_14_method_63_code 27 = .ok (.invokevirtual 292, 3) := by decide +kernel
theorem dX12_readCond_30 : decode prog_14_method_63_code 30 = .ok (.aload_n 0, 1) := by decide +kernel
theorem dX12_readCond_31 : decode prog_14_method_63_code 31 = .ok (.invokevirtual 466, 3) := by decide +kernel
theorem dX12_readCond_34 : decode prog_14_method_63_code 34 = .ok (.ifCond .ne 5, 3) := by decide +kernel
theorem dX12_readCond_37 : decode prog_14_method_63_code 37 = .ok (.iconst 0, 1) := by decide +kernel
theorem dX12_readCond_38 : decode prog_14_method_63_code 38 = .ok (.ireturn, 1) := by decide +kernel
theorem dX12_readCond_39 : decode prog_14_method_63_code 39 = .ok (.aload_n 0, 1) := by decide +kernel
theorem dX12_readCond_40 : decode prog_14_method_63_code 40 = .ok (.bipush (-2), 2) := by decide +kernel
theorem dX12_readCond_42 : decode prog_14_method_63_code 42 = .ok (.invokevirtual 448, 3) := by decide +kernel
theorem dX12_readCond_45 : decode prog_14_method_63_code 45 = .ok (.goto (-36), 3) := by decide +kernel
theorem dX12_readCond_48 : decode prog_14_method_63_code 48 = .ok (.iconst 1, 1) := by decide +kernel
theorem dX12_readCond_49 : decode prog_14_method_63_code 49 = .ok (.ireturn, 1) := by decide +kernel
abbrev xX12_readCond_L5 : bX := ("BurntHallModel", prog_14_method_63_code, 1, (Option.some Jvm.ClassFile.FieldType.boolean), b_rm 12 0 0, 0, "readCond")
abbrev A_X12_readCond_L5_9 (l : Launch) (E : bE) (Q : (Int × bM) → Prop) : (bM) → Prop := (fun t : bM => V l E xX12_readCond_L5 (0, 0) 9 [(0, bR 11)] [] t (b_pI Q))
abbrev X_X12_readCond_L5_9 (l : Launch) (E : bE) (Q : (Int × bM) → Prop) : ((bM) ⊕ (Int × bM)) → Prop := (Sum.elim (fun t : bM => V l E xX12_readCond_L5 (0, 0) 48 [] [] t (b_pI Q)) Q)
noncomputable def F_X12_readCond_L5_s9 (M : bM) : Option ((bM) ⊕ ((bM) ⊕ (Int × bM))) :=
  if (M 11 3) = 1 then (if (M 11 4) = 18 then (b_bind (F_X12_scan M) (fun M6 => b_bind (F_X12_readAll_L5 M6) (fun t => b_two t (fun x7 M8 => if x7 = 0 then (some (.inr (.inr (0, M8)))) else (b_bind (F_X12_addStep (-2) M8) (fun M10 => some (.inl (M10)))))))) else (some (.inr (.inl (M))))) else (some (.inr (.inl (M))))
theorem t_X12_readCond_L5_s9 {l : Launch} {E : bE} {Q : (Int × bM) → Prop} {M : bM} (hfg : b_fg E) (h : b_wp (F_X12_readCond_L5_s9 M) (Sum.elim (A_X12_readCond_L5_9 l E Q ) (X_X12_readCond_L5_9 l E Q ))) : V l E xX12_readCond_L5 (0, 0) 9 [(0, bR 11)] [] M (b_pI Q) := by
  unfold F_X12_readCond_L5_s9 at h
  refine v_aload_n (f := 0) 0 rfl dX12_readCond_9 ?_
  refine v_getI (kf := 3) (kz := 3) rfl kd_11 rfl ⟨by decide, by decide⟩ rfl wf_12_316 dX12_readCond_10 ?_
  refine v_iconst ⟨by decide, by decide⟩ dX12_readCond_13 ?_
  refine v_icmp_ne (tgt := 48) dX12_readCond_14 (by decide) (fun c4 => ?_) (fun c4 => ?_)
  · replace h := b_wp_f c4 h
    refine v_sub (ls2 := []) [] rfl ?_
    exact h
  · replace h := b_wp_t c4 h
    refine v_aload_n (f := 0) 0 rfl dX12_readCond_17 ?_
    refine v_getI (kf := 4) (kz := 4) rfl kd_11 rfl ⟨by decide, by decide⟩ rfl wf_12_313 dX12_readCond_18 ?_
    refine v_bipush ⟨by decide, by decide⟩ (by decide) dX12_readCond_21 ?_
    refine v_icmp_ne (tgt := 48) dX12_readCond_23 (by decide) (fun c5 => ?_) (fun c5 => ?_)
    · replace h := b_wp_f c5 h
      refine v_sub (ls2 := []) [] rfl ?_
      exact h
    · replace h := b_wp_t c5 h
      refine v_aload_n (f := 0) 0 rfl dX12_readCond_26 ?_
      refine v_cVV (nA := 0) (As := []) (ix := 292) (cf_X12_scan hfg (b_wp_b h)) rfl kd_11 rfl rfl wc_X12_scan wm_12_292 wi_X12_scan ws_X12_scan wn_12 ⟨by decide, by decide, by decide⟩ rfl ⟨by decide, by decide⟩ ⟨by decide, by decide⟩ (Nat.le_of_ble_eq_true rfl) dX12_readCond_27 (fun M6 h => ?_)
      refine v_aload_n (f := 0) 0 rfl dX12_readCond_30 ?_
      refine v_cVI (nA := 0) (As := []) (ix := 466) (cf_X12_readAll_L5 hfg (b_wp_b h)) rfl kd_11 rfl rfl wc_X12_readAll wm_12_466 wi_X12_readAll ws_X12_readAll wn_12 ⟨by decide, by decide, by decide⟩ rfl ⟨by decide, by decide⟩ ⟨by decide, by decide⟩ (Nat.le_of_ble_eq_true rfl) dX12_readCond_31 (fun x7 M8 h => ?_)
      replace h := b_wp_two h
      refine v_if_ne (tgt := 39) dX12_readCond_34 (by decide) (fun c9 => ?_) (fun c9 => ?_)
      · replace h := b_wp_f c9 h
        refine v_aload_n (f := 0) 0 rfl dX12_readCond_39 ?_
        refine v_bipush ⟨by decide, by decide⟩ (by decide) dX12_readCond_40 ?_
        refine v_cVV (nA := 1) (As := [bI _]) (ix := 448) (cf_X12_addStep (b_wp_b h)) rfl kd_11 rfl rfl wc_X12_addStep wm_12_448 wi_X12_addStep ws_X12_addStep wn_12 ⟨by decide, by decide, by decide⟩ rfl ⟨by decide, by decide⟩ ⟨by decide, by decide⟩ (Nat.le_of_ble_eq_true rfl) dX12_readCond_42 (fun M10 h => ?_)
        refine v_goto (tgt := 9) dX12_readCond_45 (by decide) ?_
        exact h
      · replace h := b_wp_t c9 h
        refine v_iconst ⟨by decide, by decide⟩ dX12_readCond_37 ?_
        refine v_zreturn rfl (Or.inl rfl) dX12_readCond_38 ⟨by decide, by decide⟩ ?_
        exact ⟨_, rfl, h⟩
theorem l_X12_readCond_L5_9 {l : Launch} {E : bE} {Q : (Int × bM) → Prop} (hfg : b_fg E) {s : bM} (h : b_wp (b_loop (fun t => F_X12_readCond_L5_s9 t) s) (X_X12_readCond_L5_9 l E Q )) : A_X12_readCond_L5_9 l E Q  s := b_loop_wp (fun t h => t_X12_readCond_L5_s9 hfg h) s h
noncomputable def F_X12_readCond_L5_b48 (M : bM) : Option (Int × bM) :=
  some (1, M)
theorem t_X12_readCond_L5_b48 {l : Launch} {E : bE} {Q : (Int × bM) → Prop} {M : bM} (hfg : b_fg E) (h : b_wp (F_X12_readCond_L5_b48 M) (Q)) : V l E xX12_readCond_L5 (0, 0) 48 [] [] M (b_pI Q) := by
  unfold F_X12_readCond_L5_b48 at h
  refine v_iconst ⟨by decide, by decide⟩ dX12_readCond_48 ?_
  refine v_zreturn rfl (Or.inr rfl) dX12_readCond_49 ⟨by decide, by decide⟩ ?_
  exact ⟨_, rfl, h⟩
noncomputable def F_X12_readCond_L5 (M : bM) : Option (Int × bM) :=
  b_bind (F_X12_readAll_L5 M) (fun t => b_two t (fun x1 M2 => if x1 = 0 then (some (0, M2)) else (b_bind (b_loop (fun t => F_X12_readCond_L5_s9 t) (M2)) (Sum.elim (fun t => F_X12_readCond_L5_b48 t) some))))
theorem t_X12_readCond_L5 {l : Launch} {E : bE} {Q : (Int × bM) → Prop} {M : bM} (hfg : b_fg E) (h : b_wp (F_X12_readCond_L5 M) (Q)) : V l E xX12_readCond_L5 (0, 0) 0 [(0, bR 11)] [] M (b_pI Q) := by
  unfold F_X12_readCond_L5 at h
  refine v_aload_n (f := 0) 0 rfl dX12_readCond_0 ?_
  refine v_cVI (nA := 0) (As := []) (ix := 466) (cf_X12_readAll_L5 hfg (b_wp_b h)) rfl kd_11 rfl rfl wc_X12_readAll wm_12_466 wi_X12_readAll ws_X12_readAll wn_12 ⟨by decide, by decide, by decide⟩ rfl ⟨by decide, by decide⟩ ⟨by decide, by decide⟩ (Nat.le_of_ble_eq_true rfl) dX12_readCond_1 (fun x1 M2 h => ?_)
  replace h := b_wp_two h
  refine v_if_ne (tgt := 9) dX12_readCond_4 (by decide) (fun c3 => ?_) (fun c3 => ?_)
  · replace h := b_wp_f c3 h
    refine l_X12_readCond_L5_9 hfg (b_wp_m (fun t h => ?_) (b_wp_b h))
    cases t with
    | inr o => exact h
    | inl t =>
      show V l E xX12_readCond_L5 (0, 0) 48 [] [] _ (b_pI Q)
      replace h := b_wp_inl h
      exact t_X12_readCond_L5_b48 hfg h
  · replace h := b_wp_t c3 h
    refine v_iconst ⟨by decide, by decide⟩ dX12_readCond_7 ?_
    refine v_zreturn rfl (Or.inl rfl) dX12_readCond_8 ⟨by decide, by decide⟩ ?_
    exact ⟨_, rfl, h⟩
theorem cf_X12_readCond_L5 {l : Launch} {E : bE} {M : bM} (hfg : b_fg E) {Q : (Int × bM) → Prop} (h : b_wp (F_X12_readCond_L5 M) Q) : b_C l E xX12_readCond_L5 yX12_readCond [bR 11] M (b_pI Q) := b_met (by decide) ⟨rfl, rfl⟩ (Nat.le_of_ble_eq_true rfl) (fun _ _ => t_X12_readCond_L5 hfg h)
abbrev xX12_readOne_L4 : bX := ("BurntHallModel", prog_14_method_61_code, 2, (Option.some Jvm.ClassFile.FieldType.boolean), b_rm 13 0 0, 0, "readOne")
abbrev A_X12_readOne_L4_2 (l : Launch) (E : bE) (Q : (Int × bM) → Prop) : (Int × bM) → Prop := (fun t : Int × bM => V l E xX12_readOne_L4 (0, 0) 2 [(0, bR 11), (1, bI (t.1))] [] t.2 (b_pI Q))
abbrev X_X12_readOne_L4_2 (l : Launch) (E : bE) (Q : (Int × bM) → Prop) : (Int × bM) → Prop := (fun t : Int × bM => V l E xX12_readOne_L4 (0, 0) 36 [(0, bR 11), (1, bI (t.1))] [] t.2 (b_pI Q))
noncomputable def F_X12_readOne_L4_b28 (u0 : Int) (M : bM) : Option ((Int × bM) ⊕ (Int × bM)) :=
  b_bind (F_X12_scan M) (fun M4 => some (.inl (u0, M4)))
theorem t_X12_readOne_L4_b28 {l : Launch} {E : bE} {Q : (Int × bM) → Prop} {u0 : Int} {M : bM} (hfg : b_fg E) (h : b_wp (F_X12_readOne_L4_b28 u0 M) (Sum.elim (A_X12_readOne_L4_2 l E Q ) (X_X12_readOne_L4_2 l E Q ))) : V l E xX12_readOne_L4 (0, 0) 28 [(0, bR 11)] [bI u0] M (b_pI Q) := by
  unfold F_X12_readOne_L4_b28 at h
  refine v_istore_n (g := 1) (i := 1) (ls' := [(1, bI _), (0, bR _)]) rfl (by decide) dX12_readOne_28 rfl ?_
  refine v_aload_n (f := 0) 1 rfl dX12_readOne_29 ?_
  refine v_cVV (nA := 0) (As := []) (ix := 292) (cf_X12_scan hfg (b_wp_b h)) rfl kd_11 rfl rfl wc_X12_scan wm_12_292 wi_X12_scan ws_X12_scan wn_12 ⟨by decide, by decide, by decide⟩ rfl ⟨by decide, by decide⟩ ⟨by decide, by decide⟩ (Nat.le_of_ble_eq_true rfl) dX12_readOne_30 (fun M4 h => ?_)
  refine v_goto (tgt := 2) dX12_readOne_33 (by decide) ?_
  refine v_sub (ls2 := [(0, bR _), (1, bI _)]) [1, 0] rfl ?_
  exact h
noncomputable def F_X12_readOne_L4_s2 (v1 : Int) (M : bM) : Option ((Int × bM) ⊕ (Int × bM)) :=
  if (M 11 3) = 1 then (if (M 11 4) = 20 then (if v1 = 0 then (F_X12_readOne_L4_b28 1 M) else (F_X12_readOne_L4_b28 0 M)) else (some (.inr (v1, M)))) else (some (.inr (v1, M)))
theorem t_X12_readOne_L4_s2 {l : Launch} {E : bE} {Q : (Int × bM) → Prop} {v1 : Int} {M : bM} (hfg : b_fg E) (h : b_wp (F_X12_readOne_L4_s2 v1 M) (Sum.elim (A_X12_readOne_L4_2 l E Q ) (X_X12_readOne_L4_2 l E Q ))) : V l E xX12_readOne_L4 (0, 0) 2 [(0, bR 11), (1, bI v1)] [] M (b_pI Q) := by
  unfold F_X12_readOne_L4_s2 at h
  refine v_aload_n (f := 0) 0 rfl dX12_readOne_2 ?_
  refine v_getI (kf := 3) (kz := 3) rfl kd_11 rfl ⟨by decide, by decide⟩ rfl wf_12_316 dX12_readOne_3 ?_
  refine v_iconst ⟨by decide, by decide⟩ dX12_readOne_6 ?_
  refine v_icmp_ne (tgt := 36) dX12_readOne_7 (by decide) (fun c1 => ?_) (fun c1 => ?_)
  · replace h := b_wp_f c1 h
    exact h
  · replace h := b_wp_t c1 h
    refine v_aload_n (f := 0) 0 rfl dX12_readOne_10 ?_
    refine v_getI (kf := 4) (kz := 4) rfl kd_11 rfl ⟨by decide, by decide⟩ rfl wf_12_313 dX12_readOne_11 ?_
    refine v_bipush ⟨by decide, by decide⟩ (by decide) dX12_readOne_14 ?_
    refine v_icmp_ne (tgt := 36) dX12_readOne_16 (by decide) (fun c2 => ?_) (fun c2 => ?_)
    · replace h := b_wp_f c2 h
      exact h
    · replace h := b_wp_t c2 h
      refine v_iload_n (f := 1) 1 rfl dX12_readOne_19 ?_
      refine v_if_ne (tgt := 27) dX12_readOne_20 (by decide) (fun c3 => ?_) (fun c3 => ?_)
      · replace h := b_wp_f c3 h
        refine v_iconst ⟨by decide, by decide⟩ dX12_readOne_27 ?_
        refine v_sub (ls2 := [(0, bR _)]) [0] rfl ?_
        exact t_X12_readOne_L4_b28 hfg h
      · replace h := b_wp_t c3 h
        refine v_iconst ⟨by decide, by decide⟩ dX12_readOne_23 ?_
        refine v_goto (tgt := 28) dX12_readOne_24 (by decide) ?_
        refine v_sub (ls2 := [(0, bR _)]) [0] rfl ?_
        exact t_X12_readOne_L4_b28 hfg h
theorem l_X12_readOne_L4_2 {l : Launch} {E : bE} {Q : (Int × bM) → Prop} (hfg : b_fg E) {s : Int × bM} (h : b_wp (b_loop (fun t => F_X12_readOne_L4_s2 t.1 t.2) s) (X_X12_readOne_L4_2 l E Q )) : A_X12_readOne_L4_2 l E Q  s := b_loop_wp (fun t h => t_X12_readOne_L4_s2 hfg h) s h
noncomputable def F_X12_readOne_L4_b122 (v1 : Int) (M : bM) : Option (Int × bM) :=
  if v1 = 0 then (some (1, M)) else (b_bind (F_X12_addStep (-3) M) (fun M10 => some (1, M10)))
theorem t_X12_readOne_L4_b122 {l : Launch} {E : bE} {Q : (Int × bM) → Prop} {v1 : Int} {M : bM} (hfg : b_fg E) (h : b_wp (F_X12_readOne_L4_b122 v1 M) (Q)) : V l E xX12_readOne_L4 (0, 0) 122 [(0, bR 11), (1, bI v1)] [] M (b_pI Q) := by
  unfold F_X12_readOne_L4_b122 at h
  refine v_iload_n (f := 1) 1 rfl dX12_readOne_122 ?_
  refine v_if_eq (tgt := 132) dX12_readOne_123 (by decide) (fun c9 => ?_) (fun c9 => ?_)
  · replace h := b_wp_t c9 h
    refine v_iconst ⟨by decide, by decide⟩ dX12_readOne_132 ?_
    refine v_zreturn rfl (Or.inr rfl) dX12_readOne_133 ⟨by decide, by decide⟩ ?_
    exact ⟨_, rfl, h⟩
  · replace h := b_wp_f c9 h
    refine v_aload_n (f := 0) 0 rfl dX12_readOne_126 ?_
    refine v_bipush ⟨by decide, by decide⟩ (by decide) dX12_readOne_127 ?_
    refine v_cVV (nA := 1) (As := [bI _]) (ix := 448) (cf_X12_addStep (b_wp_b h)) rfl kd_11 rfl rfl wc_X12_addStep wm_12_448 wi_X12_addStep ws_X12_addStep wn_12 ⟨by decide, by decide, by decide⟩ rfl ⟨by decide, by decide⟩ ⟨by decide, by decide⟩ (Nat.le_of_ble_eq_true rfl) dX12_readOne_129 (fun M10 h => ?_)
    refine v_iconst ⟨by decide, by decide⟩ dX12_readOne_132 ?_
    refine v_zreturn rfl (Or.inr rfl) dX12_readOne_133 ⟨by decide, by decide⟩ ?_
    exact ⟨_, rfl, h⟩
noncomputable def F_X12_readOne_L4_b36 (v1 : Int) (M : bM) : Option (Int × bM) :=
  if (M 11 3) = 5 then (if (M 11 49) = 5 then (b_bind (F_X12_wrong 4 M) (fun t => b_two t (fun x25 M26 => b_g (x25 = 0 ∨ x25 = 1) (some (x25, M26))))) else (b_g (b_i32 ((M 11 49) + 1)) (b_let (b_up M 11 49 ((M 11 49) + 1)) (fun M13 => b_bind (F_X12_scan M13) (fun M14 => b_bind (F_X12_readCond_L5 M14) (fun t => b_two t (fun x15 M16 => if x15 = 0 then (some (0, M16)) else (if (M16 11 3) = 6 then (b_g (b_i32 ((M16 11 49) - 1)) (b_let (b_up M16 11 49 ((M16 11 49) - 1)) (fun M20 => b_bind (F_X12_scan M20) (fun M21 => F_X12_readOne_L4_b122 v1 M21)))) else (b_bind (F_X12_wrong 1 M16) (fun t => b_two t (fun x22 M23 => b_g (x22 = 0 ∨ x22 = 1) (some (x22, M23))))))))))))) else (b_bind (F_X12_readTest M) (fun t => b_two t (fun x6 M7 => if x6 = 0 then (some (0, M7)) else (F_X12_readOne_L4_b122 v1 M7))))
theorem t_X12_readOne_L4_b36 {l : Launch} {E : bE} {Q : (Int × bM) → Prop} {v1 : Int} {M : bM} (hfg : b_fg E) (h : b_wp (F_X12_readOne_L4_b36 v1 M) (Q)) : V l E xX12_readOne_L4 (0, 0) 36 [(0, bR 11), (1, bI v1)] [] M (b_pI Q) := by
  unfold F_X12_readOne_L4_b36 at h
  refine v_aload_n (f := 0) 0 rfl dX12_readOne_36 ?_
  refine v_getI (kf := 3) (kz := 3) rfl kd_11 rfl ⟨by decide, by decide⟩ rfl wf_12_316 dX12_readOne_37 ?_
  refine v_iconst ⟨by decide, by decide⟩ dX12_readOne_40 ?_
  refine v_icmp_ne (tgt := 113) dX12_readOne_41 (by decide) (fun c5 => ?_) (fun c5 => ?_)
  · replace h := b_wp_f c5 h
    refine v_aload_n (f := 0) 0 rfl dX12_readOne_113 ?_
    refine v_cVI (nA := 0) (As := []) (ix := 460) (cf_X12_readTest hfg (b_wp_b h)) rfl kd_11 rfl rfl wc_X12_readTest wm_12_460 wi_X12_readTest ws_X12_readTest wn_12 ⟨by decide, by decide, by decide⟩ rfl ⟨by decide, by decide⟩ ⟨by decide, by decide⟩ (Nat.le_of_ble_eq_true rfl) dX12_readOne_114 (fun x6 M7 h => ?_)
    replace h := b_wp_two h
    refine v_if_ne (tgt := 122) dX12_readOne_117 (by decide) (fun c8 => ?_) (fun c8 => ?_)
    · replace h := b_wp_f c8 h
      exact t_X12_readOne_L4_b122 hfg h
    · replace h := b_wp_t c8 h
      refine v_iconst ⟨by decide, by decide⟩ dX12_readOne_120 ?_
      refine v_zreturn rfl (Or.inl rfl) dX12_readOne_121 ⟨by decide, by decide⟩ ?_
      exact ⟨_, rfl, h⟩
  · replace h := b_wp_t c5 h
    refine v_aload_n (f := 0) 0 rfl dX12_readOne_44 ?_
    refine v_getI (kf := 49) (kz := 49) rfl kd_11 rfl ⟨by decide, by decide⟩ rfl wf_12_454 dX12_readOne_45 ?_
    refine v_iconst ⟨by decide, by decide⟩ dX12_readOne_48 ?_
    refine v_icmp_ne (tgt := 58) dX12_readOne_49 (by decide) (fun c11 => ?_) (fun c11 => ?_)
    · replace h := b_wp_f c11 h
      obtain ⟨g12, h⟩ := b_wp_g h
      refine v_aload_n (f := 0) 0 rfl dX12_readOne_58 ?_
      refine v_dup rfl dX12_readOne_59 ?_
      refine v_getI (kf := 49) (kz := 49) rfl kd_11 rfl ⟨by decide, by decide⟩ rfl wf_12_454 dX12_readOne_60 ?_
      refine v_iconst ⟨by decide, by decide⟩ dX12_readOne_63 ?_
      refine v_iaddN g12 dX12_readOne_64 ?_
      refine v_putI (kf := 49) (kz := 49) rfl kd_11 rfl ⟨by decide, by decide⟩ rfl wf_12_454 rfl rfl dX12_readOne_65 ?_
      replace h := b_wp_l h
      refine v_aload_n (f := 0) 0 rfl dX12_readOne_68 ?_
      refine v_cVV (nA := 0) (As := []) (ix := 292) (cf_X12_scan hfg (b_wp_b h)) rfl kd_11 rfl rfl wc_X12_scan wm_12_292 wi_X12_scan ws_X12_scan wn_12 ⟨by decide, by decide, by decide⟩ rfl ⟨by decide, by decide⟩ ⟨by decide, by decide⟩ (Nat.le_of_ble_eq_true rfl) dX12_readOne_69 (fun M14 h => ?_)
      refine v_aload_n (f := 0) 0 rfl dX12_readOne_72 ?_
      refine v_cVI (nA := 0) (As := []) (ix := 457) (cf_X12_readCond_L5 hfg (b_wp_b h)) rfl kd_11 rfl rfl wc_X12_readCond wm_12_457 wi_X12_readCond ws_X12_readCond wn_12 ⟨by decide, by decide, by decide⟩ rfl ⟨by decide, by decide⟩ ⟨by decide, by decide⟩ (Nat.le_of_ble_eq_true rfl) dX12_readOne_73 (fun x15 M16 h => ?_)
      replace h := b_wp_two h
      refine v_if_ne (tgt := 81) dX12_readOne_76 (by decide) (fun c17 => ?_) (fun c17 => ?_)
      · replace h := b_wp_f c17 h
        refine v_aload_n (f := 0) 0 rfl dX12_readOne_81 ?_
        refine v_getI (kf := 3) (kz := 3) rfl kd_11 rfl ⟨by decide, by decide⟩ rfl wf_12_316 dX12_readOne_82 ?_
        refine v_bipush ⟨by decide, by decide⟩ (by decide) dX12_readOne_85 ?_
        refine v_icmp_eq (tgt := 96) dX12_readOne_87 (by decide) (fun c18 => ?_) (fun c18 => ?_)
        · replace h := b_wp_t c18 h
          obtain ⟨g19, h⟩ := b_wp_g h
          refine v_aload_n (f := 0) 0 rfl dX12_readOne_96 ?_
          refine v_dup rfl dX12_readOne_97 ?_
          refine v_getI (kf := 49) (kz := 49) rfl kd_11 rfl ⟨by decide, by decide⟩ rfl wf_12_454 dX12_readOne_98 ?_
          refine v_iconst ⟨by decide, by decide⟩ dX12_readOne_101 ?_
          refine v_isubN g19 dX12_readOne_102 ?_
          refine v_putI (kf := 49) (kz := 49) rfl kd_11 rfl ⟨by decide, by decide⟩ rfl wf_12_454 rfl rfl dX12_readOne_103 ?_
          replace h := b_wp_l h
          refine v_aload_n (f := 0) 0 rfl dX12_readOne_106 ?_
          refine v_cVV (nA := 0) (As := []) (ix := 292) (cf_X12_scan hfg (b_wp_b h)) rfl kd_11 rfl rfl wc_X12_scan wm_12_292 wi_X12_scan ws_X12_scan wn_12 ⟨by decide, by decide, by decide⟩ rfl ⟨by decide, by decide⟩ ⟨by decide, by decide⟩ (Nat.le_of_ble_eq_true rfl) dX12_readOne_107 (fun M21 h => ?_)
          refine v_goto (tgt := 122) dX12_readOne_110 (by decide) ?_
          exact t_X12_readOne_L4_b122 hfg h
        · replace h := b_wp_f c18 h
          refine v_aload_n (f := 0) 0 rfl dX12_readOne_90 ?_
          refine v_iconst ⟨by decide, by decide⟩ dX12_readOne_91 ?_
          refine v_cVI (nA := 1) (As := [bI _]) (ix := 389) (cf_X12_wrong (b_wp_b h)) rfl kd_11 rfl rfl wc_X12_wrong wm_12_389 wi_X12_wrong ws_X12_wrong wn_12 ⟨by decide, by decide, by decide⟩ rfl ⟨by decide, by decide⟩ ⟨by decide, by decide⟩ (Nat.le_of_ble_eq_true rfl) dX12_readOne_92 (fun x22 M23 h => ?_)
          replace h := b_wp_two h
          obtain ⟨g24, h⟩ := b_wp_g h
          refine v_zreturn rfl g24 dX12_readOne_95 ⟨by decide, by decide⟩ ?_
          exact ⟨_, rfl, h⟩
      · replace h := b_wp_t c17 h
        refine v_iconst ⟨by decide, by decide⟩ dX12_readOne_79 ?_
        refine v_zreturn rfl (Or.inl rfl) dX12_readOne_80 ⟨by decide, by decide⟩ ?_
        exact ⟨_, rfl, h⟩
    · replace h := b_wp_t c11 h
      refine v_aload_n (f := 0) 0 rfl dX12_readOne_52 ?_
      refine v_iconst ⟨by decide, by decide⟩ dX12_readOne_53 ?_
      refine v_cVI (nA := 1) (As := [bI _]) (ix := 389) (cf_X12_wrong (b_wp_b h)) rfl kd_11 rfl rfl wc_X12_wrong wm_12_389 wi_X12_wrong ws_X12_wrong wn_12 ⟨by decide, by decide, by decide⟩ rfl ⟨by decide, by decide⟩ ⟨by decide, by decide⟩ (Nat.le_of_ble_eq_true rfl) dX12_readOne_54 (fun x25 M26 h => ?_)
      replace h := b_wp_two h
      obtain ⟨g27, h⟩ := b_wp_g h
      refine v_zreturn rfl g27 dX12_readOne_57 ⟨by decide, by decide⟩ ?_
      exact ⟨_, rfl, h⟩
noncomputable def F_X12_readOne_L4 (M : bM) : Option (Int × bM) :=
  b_bind (b_loop (fun t => F_X12_readOne_L4_s2 t.1 t.2) (0, M)) (fun t => F_X12_readOne_L4_b36 (t.1) (t.2))
theorem t_X12_readOne_L4 {l : Launch} {E : bE} {Q : (Int × bM) → Prop} {M : bM} (hfg : b_fg E) (h : b_wp (F_X12_readOne_L4 M) (Q)) : V l E xX12_readOne_L4 (0, 0) 0 [(0, bR 11)] [] M (b_pI Q) := by
  unfold F_X12_readOne_L4 at h
  refine v_iconst ⟨by decide, by decide⟩ dX12_readOne_0 ?_
  refine v_istore_n (g := 1) (i := 1) (ls' := [(1, bI _), (0, bR _)]) rfl (by decide) dX12_readOne_1 rfl ?_
  refine v_sub (ls2 := [(0, bR _), (1, bI _)]) [1, 0] rfl ?_
  refine l_X12_readOne_L4_2 hfg (b_wp_m (fun t h => ?_) (b_wp_b h))
  show V l E xX12_readOne_L4 (0, 0) 36 [(0, bR 11), (1, bI _)] [] _ (b_pI Q)
  exact t_X12_readOne_L4_b36 hfg h
theorem cf_X12_readOne_L4 {l : Launch} {E : bE} {M : bM} (hfg : b_fg E) {Q : (Int × bM) → Prop} (h : b_wp (F_X12_readOne_L4 M) Q) : b_C l E xX12_readOne_L4 yX12_readOne [bR 11] M (b_pI Q) := b_met (by decide) ⟨rfl, rfl⟩ (Nat.le_of_ble_eq_true rfl) (fun _ _ => t_X12_readOne_L4 hfg h)
abbrev xX12_readAll_L4 : bX := ("BurntHallModel", prog_14_method_62_code, 1, (Option.some Jvm.ClassFile.FieldType.boolean), b_rm 14 0 0, 0, "readAll")
abbrev A_X12_readAll_L4_9 (l : Launch) (E : bE) (Q : (Int × bM) → Prop) : (bM) → Prop := (fun t : bM => V l E xX12_readAll_L4 (0, 0) 9 [(0, bR 11)] [] t (b_pI Q))
abbrev X_X12_readAll_L4_9 (l : Launch) (E : bE) (Q : (Int × bM) → Prop) : ((bM) ⊕ (Int × bM)) → Prop := (Sum.elim (fun t : bM => V l E xX12_readAll_L4 (0, 0) 47 [] [] t (b_pI Q)) Q)
noncomputable def F_X12_readAll_L4_s9 (M : bM) : Option ((bM) ⊕ ((bM) ⊕ (Int × bM))) :=
  if (M 11 3) = 1 then (if (M 11 4) = 19 then (b_bind (F_X12_scan M) (fun M6 => b_bind (F_X12_readOne_L4 M6) (fun t => b_two t (fun x7 M8 => if x7 = 0 then (some (.inr (.inr (0, M8)))) else (b_bind (F_X12_addStep (-1) M8) (fun M10 => some (.inl (M10)))))))) else (some (.inr (.inl (M))))) else (some (.inr (.inl (M))))
theorem t_X12_readAll_L4_s9 {l : Launch} {E : bE} {Q : (Int × bM) → Prop} {M : bM} (hfg : b_fg E) (h : b_wp (F_X12_readAll_L4_s9 M) (Sum.elim (A_X12_readAll_L4_9 l E Q ) (X_X12_readAll_L4_9 l E Q ))) : V l E xX12_readAll_L4 (0, 0) 9 [(0, bR 11)] [] M (b_pI Q) := by
  unfold F_X12_readAll_L4_s9 at h
  refine v_aload_n (f := 0) 0 rfl dX12_readAll_9 ?_
  refine v_getI (kf := 3) (kz := 3) rfl kd_11 rfl ⟨by decide, by decide⟩ rfl wf_12_316 dX12_readAll_10 ?_
  refine v_iconst ⟨by decide, by decide⟩ dX12_readAll_13 ?_
  refine v_icmp_ne (tgt := 47) dX12_readAll_14 (by decide) (fun c4 => ?_) (fun c4 => ?_)
  · replace h := b_wp_f c4 h
    refine v_sub (ls2 := []) [] rfl ?_
    exact h
  · replace h := b_wp_t c4 h
    refine v_aload_n (f := 0) 0 rfl dX12_readAll_17 ?_
    refine v_getI (kf := 4) (kz := 4) rfl kd_11 rfl ⟨by decide, by decide⟩ rfl wf_12_313 dX12_readAll_18 ?_
    refine v_bipush ⟨by decide, by decide⟩ (by decide) dX12_readAll_21 ?_
    refine v_icmp_ne (tgt := 47) dX12_readAll_23 (by decide) (fun c5 => ?_) (fun c5 => ?_)
    · replace h := b_wp_f c5 h
      refine v_sub (ls2 := []) [] rfl ?_
      exact h
    · replace h := b_wp_t c5 h
      refine v_aload_n (f := 0) 0 rfl dX12_readAll_26 ?_
      refine v_cVV (nA := 0) (As := []) (ix := 292) (cf_X12_scan hfg (b_wp_b h)) rfl kd_11 rfl rfl wc_X12_scan wm_12_292 wi_X12_scan ws_X12_scan wn_12 ⟨by decide, by decide, by decide⟩ rfl ⟨by decide, by decide⟩ ⟨by decide, by decide⟩ (Nat.le_of_ble_eq_true rfl) dX12_readAll_27 (fun M6 h => ?_)
      refine v_aload_n (f := 0) 0 rfl dX12_readAll_30 ?_
      refine v_cVI (nA := 0) (As := []) (ix := 463) (cf_X12_readOne_L4 hfg (b_wp_b h)) rfl kd_11 rfl rfl wc_X12_readOne wm_12_463 wi_X12_readOne ws_X12_readOne wn_12 ⟨by decide, by decide, by decide⟩ rfl ⟨by decide, by decide⟩ ⟨by decide, by decide⟩ (Nat.le_of_ble_eq_true rfl) dX12_readAll_31 (fun x7 M8 h => ?_)
      replace h := b_wp_two h
      refine v_if_ne (tgt := 39) dX12_readAll_34 (by decide) (fun c9 => ?_) (fun c9 => ?_)
      · replace h := b_wp_f c9 h
        refine v_aload_n (f := 0) 0 rfl dX12_readAll_39 ?_
        refine v_iconst ⟨by decide, by decide⟩ dX12_readAll_40 ?_
        refine v_cVV (nA := 1) (As := [bI _]) (ix := 448) (cf_X12_addStep (b_wp_b h)) rfl kd_11 rfl rfl wc_X12_addStep wm_12_448 wi_X12_addStep ws_X12_addStep wn_12 ⟨by decide, by decide, by decide⟩ rfl ⟨by decide, by decide⟩ ⟨by decide, by decide⟩ (Nat.le_of_ble_eq_true rfl) dX12_readAll_41 (fun M10 h => ?_)
        refine v_goto (tgt := 9) dX12_readAll_44 (by decide) ?_
        exact h
      · replace h := b_wp_t c9 h
        refine v_iconst ⟨by decide, by decide⟩ dX12_readAll_37 ?_
        refine v_zreturn rfl (Or.inl rfl) dX12_readAll_38 ⟨by decide, by decide⟩ ?_
        exact ⟨_, rfl, h⟩
theorem l_X12_readAll_L4_9 {l : Launch} {E : bE} {Q : (Int × bM) → Prop} (hfg : b_fg E) {s : bM} (h : b_wp (b_loop (fun t => F_X12_readAll_L4_s9 t) s) (X_X12_readAll_L4_9 l E Q )) : A_X12_readAll_L4_9 l E Q  s := b_loop_wp (fun t h => t_X12_readAll_L4_s9 hfg h) s h
noncomputable def F_X12_readAll_L4_b47 (M : bM) : Option (Int × bM) :=
  some (1, M)
theorem t_X12_readAll_L4_b47 {l : Launch} {E : bE} {Q : (Int × bM) → Prop} {M : bM} (hfg : b_fg E) (h : b_wp (F_X12_readAll_L4_b47 M) (Q)) : V l E xX12_readAll_L4 (0, 0) 47 [] [] M (b_pI Q) := by
  unfold F_X12_readAll_L4_b47 at h
  refine v_iconst ⟨by decide, by decide⟩ dX12_readAll_47 ?_
  refine v_zreturn rfl (Or.inr rfl) dX12_readAll_48 ⟨by decide, by decide⟩ ?_
  exact ⟨_, rfl, h⟩
noncomputable def F_X12_readAll_L4 (M : bM) : Option (Int × bM) :=
  b_bind (F_X12_readOne_L4 M) (fun t => b_two t (fun x1 M2 => if x1 = 0 then (some (0, M2)) else (b_bind (b_loop (fun t => F_X12_readAll_L4_s9 t) (M2)) (Sum.elim (fun t => F_X12_readAll_L4_b47 t) some))))
theorem t_X12_readAll_L4 {l : Launch} {E : bE} {Q : (Int × bM) → Prop} {M : bM} (hfg : b_fg E) (h : b_wp (F_X12_readAll_L4 M) (Q)) : V l E xX12_readAll_L4 (0, 0) 0 [(0, bR 11)] [] M (b_pI Q) := by
  unfold F_X12_readAll_L4 at h
  refine v_aload_n (f := 0) 0 rfl dX12_readAll_0 ?_
  refine v_cVI (nA := 0) (As := []) (ix := 463) (cf_X12_readOne_L4 hfg (b_wp_b h)) rfl kd_11 rfl rfl wc_X12_readOne wm_12_463 wi_X12_readOne ws_X12_readOne wn_12 ⟨by decide, by decide, by decide⟩ rfl ⟨by decide, by decide⟩ ⟨by decide, by decide⟩ (Nat.le_of_ble_eq_true rfl) dX12_readAll_1 (fun x1 M2 h => ?_)
  replace h := b_wp_two h
  refine v_if_ne (tgt := 9) dX12_readAll_4 (by decide) (fun c3 => ?_) (fun c3 => ?_)
  · replace h := b_wp_f c3 h
    refine l_X12_readAll_L4_9 hfg (b_wp_m (fun t h => ?_) (b_wp_b h))
    cases t with
    | inr o => exact h
    | inl t =>
      show V l E xX12_readAll_L4 (0, 0) 47 [] [] _ (b_pI Q)
      replace h := b_wp_inl h
      exact t_X12_readAll_L4_b47 hfg h
  · replace h := b_wp_t c3 h
    refine v_iconst ⟨by decide, by decide⟩ dX12_readAll_7 ?_
    refine v_zreturn rfl (Or.inl rfl) dX12_readAll_8 ⟨by decide, by decide⟩ ?_
    exact ⟨_, rfl, h⟩
theorem cf_X12_readAll_L4 {l : Launch} {E : bE} {M : bM} (hfg : b_fg E) {Q : (Int × bM) → Prop} (h : b_wp (F_X12_readAll_L4 M) Q) : b_C l E xX12_readAll_L4 yX12_readAll [bR 11] M (b_pI Q) := b_met (by decide) ⟨rfl, rfl⟩ (Nat.le_of_ble_eq_true rfl) (fun _ _ => t_X12_readAll_L4 hfg h)
abbrev xX12_readCond_L4 : bX := ("BurntHallModel", prog_14_method_63_code, 1, (Option.some Jvm.ClassFile.FieldType.boolean), b_rm 15 0 0, 0, "readCond")
abbrev A_X12_readCond_L4_9 (l : Launch) (E : bE) (Q : (Int × bM) → Prop) : (bM) → Prop := (fun t : bM => V l E xX12_readCond_L4 (0, 0) 9 [(0, bR 11)] [] t (b_pI Q))
abbrev X_X12_readCond_L4_9 (l : Launch) (E : bE) (Q : (Int × bM) → Prop) : ((bM) ⊕ (Int × bM)) → Prop := (Sum.elim (fun t : bM => V l E xX12_readCond_L4 (0, 0) 48 [] [] t (b_pI Q)) Q)
noncomputable def F_X12_readCond_L4_s9 (M : bM) : Option ((bM) ⊕ ((bM) ⊕ (Int × bM))) :=
  if (M 11 3) = 1 then (if (M 11 4) = 18 then (b_bind (F_X12_scan M) (fun M6 => b_bind (F_X12_readAll_L4 M6) (fun t => b_two t (fun x7 M8 => if x7 = 0 then (some (.inr (.inr (0, M8)))) else (b_bind (F_X12_addStep (-2) M8) (fun M10 => some (.inl (M10)))))))) else (some (.inr (.inl (M))))) else (some (.inr (.inl (M))))
theorem t_X12_readCond_L4_s9 {l : Launch} {E : bE} {Q : (Int × bM) → Prop} {M : bM} (hfg : b_fg E) (h : b_wp (F_X12_readCond_L4_s9 M) (Sum.elim (A_X12_readCond_L4_9 l E Q ) (X_X12_readCond_L4_9 l E Q ))) : V l E xX12_readCond_L4 (0, 0) 9 [(0, bR 11)] [] M (b_pI Q) := by
  unfold F_X12_readCond_L4_s9 at h
  refine v_aload_n (f := 0) 0 rfl dX12_readCond_9 ?_
  refine v_getI (kf := 3) (kz := 3) rfl kd_11 rfl ⟨by decide, by decide⟩ rfl wf_12_316 dX12_readCond_10 ?_
  refine v_iconst ⟨by decide, by decide⟩ dX12_readCond_13 ?_
  refine v_icmp_ne (tgt := 48) dX12_readCond_14 (by decide) (fun c4 => ?_) (fun c4 => ?_)
  · replace h := b_wp_f c4 h
    refine v_sub (ls2 := []) [] rfl ?_
    exact h
  · replace h := b_wp_t c4 h
    refine v_aload_n (f := 0) 0 rfl dX12_readCond_17 ?_
    refine v_getI (kf := 4) (kz := 4) rfl kd_11 rfl ⟨by decide, by decide⟩ rfl wf_12_313 dX12_readCond_18 ?_
    refine v_bipush ⟨by decide, by decide⟩ (by decide) dX12_readCond_21 ?_
    refine v_icmp_ne (tgt := 48) dX12_readCond_23 (by decide) (fun c5 => ?_) (fun c5 => ?_)
    · replace h := b_wp_f c5 h
      refine v_sub (ls2 := []) [] rfl ?_
      exact h
    · replace h := b_wp_t c5 h
      refine v_aload_n (f := 0) 0 rfl dX12_readCond_26 ?_
      refine v_cVV (nA := 0) (As := []) (ix := 292) (cf_X12_scan hfg (b_wp_b h)) rfl kd_11 rfl rfl wc_X12_scan wm_12_292 wi_X12_scan ws_X12_scan wn_12 ⟨by decide, by decide, by decide⟩ rfl ⟨by decide, by decide⟩ ⟨by decide, by decide⟩ (Nat.le_of_ble_eq_true rfl) dX12_readCond_27 (fun M6 h => ?_)
      refine v_aload_n (f := 0) 0 rfl dX12_readCond_30 ?_
      refine v_cVI (nA := 0) (As := []) (ix := 466) (cf_X12_readAll_L4 hfg (b_wp_b h)) rfl kd_11 rfl rfl wc_X12_readAll wm_12_466 wi_X12_readAll ws_X12_readAll wn_12 ⟨by decide, by decide, by decide⟩ rfl ⟨by decide, by decide⟩ ⟨by decide, by decide⟩ (Nat.le_of_ble_eq_true rfl) dX12_readCond_31 (fun x7 M8 h => ?_)
      replace h := b_wp_two h
      refine v_if_ne (tgt := 39) dX12_readCond_34 (by decide) (fun c9 => ?_) (fun c9 => ?_)
      · replace h := b_wp_f c9 h
        refine v_aload_n (f := 0) 0 rfl dX12_readCond_39 ?_
        refine v_bipush ⟨by decide, by decide⟩ (by decide) dX12_readCond_40 ?_
        refine v_cVV (nA := 1) (As := [bI _]) (ix := 448) (cf_X12_addStep (b_wp_b h)) rfl kd_11 rfl rfl wc_X12_addStep wm_12_448 wi_X12_addStep ws_X12_addStep wn_12 ⟨by decide, by decide, by decide⟩ rfl ⟨by decide, by decide⟩ ⟨by decide, by decide⟩ (Nat.le_of_ble_eq_true rfl) dX12_readCond_42 (fun M10 h => ?_)
        refine v_goto (tgt := 9) dX12_readCond_45 (by decide) ?_
        exact h
      · replace h := b_wp_t c9 h
        refine v_iconst ⟨by decide, by decide⟩ dX12_readCond_37 ?_
        refine v_zreturn rfl (Or.inl rfl) dX12_readCond_38 ⟨by decide, by decide⟩ ?_
        exact ⟨_, rfl, h⟩
theorem l_X12_readCond_L4_9 {l : Launch} {E : bE} {Q : (Int × bM) → Prop} (hfg : b_fg E) {s : bM} (h : b_wp (b_loop (fun t => F_X12_readCond_L4_s9 t) s) (X_X12_readCond_L4_9 l E Q )) : A_X12_readCond_L4_9 l E Q  s := b_loop_wp (fun t h => t_X12_readCond_L4_s9 hfg h) s h
noncomputable def F_X12_readCond_L4_b48 (M : bM) : Option (Int × bM) :=
  some (1, M)
theorem t_X12_readCond_L4_b48 {l : Launch} {E : bE} {Q : (Int × bM) → Prop} {M : bM} (hfg : b_fg E) (h : b_wp (F_X12_readCond_L4_b48 M) (Q)) : V l E xX12_readCond_L4 (0, 0) 48 [] [] M (b_pI Q) := by
  unfold F_X12_readCond_L4_b48 at h
  refine v_iconst ⟨by decide, by decide⟩ dX12_readCond_48 ?_
  refine v_zreturn rfl (Or.inr rfl) dX12_readCond_49 ⟨by decide, by decide⟩ ?_
  exact ⟨_, rfl, h⟩
noncomputable def F_X12_readCond_L4 (M : bM) : Option (Int × bM) :=
  b_bind (F_X12_readAll_L4 M) (fun t => b_two t (fun x1 M2 => if x1 = 0 then (some (0, M2)) else (b_bind (b_loop (fun t => F_X12_readCond_L4_s9 t) (M2)) (Sum.elim (fun t => F_X12_readCond_L4_b48 t) some))))
theorem t_X12_readCond_L4 {l : Launch} {E : bE} {Q : (Int × bM) → Prop} {M : bM} (hfg : b_fg E) (h : b_wp (F_X12_readCond_L4 M) (Q)) : V l E xX12_readCond_L4 (0, 0) 0 [(0, bR 11)] [] M (b_pI Q) := by
  unfold F_X12_readCond_L4 at h
  refine v_aload_n (f := 0) 0 rfl dX12_readCond_0 ?_
  refine v_cVI (nA := 0) (As := []) (ix := 466) (cf_X12_readAll_L4 hfg (b_wp_b h)) rfl kd_11 rfl rfl wc_X12_readAll wm_12_466 wi_X12_readAll ws_X12_readAll wn_12 ⟨by decide, by decide, by decide⟩ rfl ⟨by decide, by decide⟩ ⟨by decide, by decide⟩ (Nat.le_of_ble_eq_true rfl) dX12_readCond_1 (fun x1 M2 h => ?_)
  replace h := b_wp_two h
  refine v_if_ne (tgt := 9) dX12_readCond_4 (by decide) (fun c3 => ?_) (fun c3 => ?_)
  · replace h := b_wp_f c3 h
    refine l_X12_readCond_L4_9 hfg (b_wp_m (fun t h => ?_) (b_wp_b h))
    cases t with
    | inr o => exact h
    | inl t =>
      show V l E xX12_readCond_L4 (0, 0) 48 [] [] _ (b_pI Q)
      replace h := b_wp_inl h
      exact t_X12_readCond_L4_b48 hfg h
  · replace h := b_wp_t c3 h
    refine v_iconst ⟨by decide, by decide⟩ dX12_readCond_7 ?_
    refine v_zreturn rfl (Or.inl rfl) dX12_readCond_8 ⟨by decide, by decide⟩ ?_
    exact ⟨_, rfl, h⟩
theorem cf_X12_readCond_L4 {l : Launch} {E : bE} {M : bM} (hfg : b_fg E) {Q : (Int × bM) → Prop} (h : b_wp (F_X12_readCond_L4 M) Q) : b_C l E xX12_readCond_L4 yX12_readCond [bR 11] M (b_pI Q) := b_met (by decide) ⟨rfl, rfl⟩ (Nat.le_of_ble_eq_true rfl) (fun _ _ => t_X12_readCond_L4 hfg h)
abbrev xX12_readOne_L3 : bX := ("BurntHallModel", prog_14_method_61_code, 2, (Option.some Jvm.ClassFile.FieldType.boolean), b_rm 16 0 0, 0, "readOne")
abbrev A_X12_readOne_L3_2 (l : Launch) (E : bE) (Q : (Int × bM) → Prop) : (Int × bM) → Prop := (fun t : Int × bM => V l E xX12_readOne_L3 (0, 0) 2 [(0, bR 11), (1, bI (t.1))] [] t.2 (b_pI Q))
abbrev X_X12_readOne_L3_2 (l : Launch) (E : bE) (Q : (Int × bM) → Prop) : (Int × bM) → Prop := (fun t : Int × bM => V l E xX12_readOne_L3 (0, 0) 36 [(0, bR 11), (1, bI (t.1))] [] t.2 (b_pI Q))
noncomputable def F_X12_readOne_L3_b28 (u0 : Int) (M : bM) : Option ((Int × bM) ⊕ (Int × bM)) :=
  b_bind (F_X12_scan M) (fun M4 => some (.inl (u0, M4)))
theorem t_X12_readOne_L3_b28 {l : Launch} {E : bE} {Q : (Int × bM) → Prop} {u0 : Int} {M : bM} (hfg : b_fg E) (h : b_wp (F_X12_readOne_L3_b28 u0 M) (Sum.elim (A_X12_readOne_L3_2 l E Q ) (X_X12_readOne_L3_2 l E Q ))) : V l E xX12_readOne_L3 (0, 0) 28 [(0, bR 11)] [bI u0] M (b_pI Q) := by
  unfold F_X12_readOne_L3_b28 at h
  refine v_istore_n (g := 1) (i := 1) (ls' := [(1, bI _), (0, bR _)]) rfl (by decide) dX12_readOne_28 rfl ?_
  refine v_aload_n (f := 0) 1 rfl dX12_readOne_29 ?_
  refine v_cVV (nA := 0) (As := []) (ix := 292) (cf_X12_scan hfg (b_wp_b h)) rfl kd_11 rfl rfl wc_X12_scan wm_12_292 wi_X12_scan ws_X12_scan wn_12 ⟨by decide, by decide, by decide⟩ rfl ⟨by decide, by decide⟩ ⟨by decide, by decide⟩ (Nat.le_of_ble_eq_true rfl) dX12_readOne_30 (fun M4 h => ?_)
  refine v_goto (tgt := 2) dX12_readOne_33 (by decide) ?_
  refine v_sub (ls2 := [(0, bR _), (1, bI _)]) [1, 0] rfl ?_
  exact h
noncomputable def F_X12_readOne_L3_s2 (v1 : Int) (M : bM) : Option ((Int × bM) ⊕ (Int × bM)) :=
  if (M 11 3) = 1 then (if (M 11 4) = 20 then (if v1 = 0 then (F_X12_readOne_L3_b28 1 M) else (F_X12_readOne_L3_b28 0 M)) else (some (.inr (v1, M)))) else (some (.inr (v1, M)))
theorem t_X12_readOne_L3_s2 {l : Launch} {E : bE} {Q : (Int × bM) → Prop} {v1 : Int} {M : bM} (hfg : b_fg E) (h : b_wp (F_X12_readOne_L3_s2 v1 M) (Sum.elim (A_X12_readOne_L3_2 l E Q ) (X_X12_readOne_L3_2 l E Q ))) : V l E xX12_readOne_L3 (0, 0) 2 [(0, bR 11), (1, bI v1)] [] M (b_pI Q) := by
  unfold F_X12_readOne_L3_s2 at h
  refine v_aload_n (f := 0) 0 rfl dX12_readOne_2 ?_
  refine v_getI (kf := 3) (kz := 3) rfl kd_11 rfl ⟨by decide, by decide⟩ rfl wf_12_316 dX12_readOne_3 ?_
  refine v_iconst ⟨by decide, by decide⟩ dX12_readOne_6 ?_
  refine v_icmp_ne (tgt := 36) dX12_readOne_7 (by decide) (fun c1 => ?_) (fun c1 => ?_)
  · replace h := b_wp_f c1 h
    exact h
  · replace h := b_wp_t c1 h
    refine v_aload_n (f := 0) 0 rfl dX12_readOne_10 ?_
    refine v_getI (kf := 4) (kz := 4) rfl kd_11 rfl ⟨by decide, by decide⟩ rfl wf_12_313 dX12_readOne_11 ?_
    refine v_bipush ⟨by decide, by decide⟩ (by decide) dX12_readOne_14 ?_
    refine v_icmp_ne (tgt := 36) dX12_readOne_16 (by decide) (fun c2 => ?_) (fun c2 => ?_)
    · replace h := b_wp_f c2 h
      exact h
    · replace h := b_wp_t c2 h
      refine v_iload_n (f := 1) 1 rfl dX12_readOne_19 ?_
      refine v_if_ne (tgt := 27) dX12_readOne_20 (by decide) (fun c3 => ?_) (fun c3 => ?_)
      · replace h := b_wp_f c3 h
        refine v_iconst ⟨by decide, by decide⟩ dX12_readOne_27 ?_
        refine v_sub (ls2 := [(0, bR _)]) [0] rfl ?_
        exact t_X12_readOne_L3_b28 hfg h
      · replace h := b_wp_t c3 h
        refine v_iconst ⟨by decide, by decide⟩ dX12_readOne_23 ?_
        refine v_goto (tgt := 28) dX12_readOne_24 (by decide) ?_
        refine v_sub (ls2 := [(0, bR _)]) [0] rfl ?_
        exact t_X12_readOne_L3_b28 hfg h
theorem l_X12_readOne_L3_2 {l : Launch} {E : bE} {Q : (Int × bM) → Prop} (hfg : b_fg E) {s : Int × bM} (h : b_wp (b_loop (fun t => F_X12_readOne_L3_s2 t.1 t.2) s) (X_X12_readOne_L3_2 l E Q )) : A_X12_readOne_L3_2 l E Q  s := b_loop_wp (fun t h => t_X12_readOne_L3_s2 hfg h) s h
noncomputable def F_X12_readOne_L3_b122 (v1 : Int) (M : bM) : Option (Int × bM) :=
  if v1 = 0 then (some (1, M)) else (b_bind (F_X12_addStep (-3) M) (fun M10 => some (1, M10)))
theorem t_X12_readOne_L3_b122 {l : Launch} {E : bE} {Q : (Int × bM) → Prop} {v1 : Int} {M : bM} (hfg : b_fg E) (h : b_wp (F_X12_readOne_L3_b122 v1 M) (Q)) : V l E xX12_readOne_L3 (0, 0) 122 [(0, bR 11), (1, bI v1)] [] M (b_pI Q) := by
  unfold F_X12_readOne_L3_b122 at h
  refine v_iload_n (f := 1) 1 rfl dX12_readOne_122 ?_
  refine v_if_eq (tgt := 132) dX12_readOne_123 (by decide) (fun c9 => ?_) (fun c9 => ?_)
  · replace h := b_wp_t c9 h
    refine v_iconst ⟨by decide, by decide⟩ dX12_readOne_132 ?_
    refine v_zreturn rfl (Or.inr rfl) dX12_readOne_133 ⟨by decide, by decide⟩ ?_
    exact ⟨_, rfl, h⟩
  · replace h := b_wp_f c9 h
    refine v_aload_n (f := 0) 0 rfl dX12_readOne_126 ?_
    refine v_bipush ⟨by decide, by decide⟩ (by decide) dX12_readOne_127 ?_
    refine v_cVV (nA := 1) (As := [bI _]) (ix := 448) (cf_X12_addStep (b_wp_b h)) rfl kd_11 rfl rfl wc_X12_addStep wm_12_448 wi_X12_addStep ws_X12_addStep wn_12 ⟨by decide, by decide, by decide⟩ rfl ⟨by decide, by decide⟩ ⟨by decide, by decide⟩ (Nat.le_of_ble_eq_true rfl) dX12_readOne_129 (fun M10 h => ?_)
    refine v_iconst ⟨by decide, by decide⟩ dX12_readOne_132 ?_
    refine v_zreturn rfl (Or.inr rfl) dX12_readOne_133 ⟨by decide, by decide⟩ ?_
    exact ⟨_, rfl, h⟩
noncomputable def F_X12_readOne_L3_b36 (v1 : Int) (M : bM) : Option (Int × bM) :=
  if (M 11 3) = 5 then (if (M 11 49) = 5 then (b_bind (F_X12_wrong 4 M) (fun t => b_two t (fun x25 M26 => b_g (x25 = 0 ∨ x25 = 1) (some (x25, M26))))) else (b_g (b_i32 ((M 11 49) + 1)) (b_let (b_up M 11 49 ((M 11 49) + 1)) (fun M13 => b_bind (F_X12_scan M13) (fun M14 => b_bind (F_X12_readCond_L4 M14) (fun t => b_two t (fun x15 M16 => if x15 = 0 then (some (0, M16)) else (if (M16 11 3) = 6 then (b_g (b_i32 ((M16 11 49) - 1)) (b_let (b_up M16 11 49 ((M16 11 49) - 1)) (fun M20 => b_bind (F_X12_scan M20) (fun M21 => F_X12_readOne_L3_b122 v1 M21)))) else (b_bind (F_X12_wrong 1 M16) (fun t => b_two t (fun x22 M23 => b_g (x22 = 0 ∨ x22 = 1) (some (x22, M23))))))))))))) else (b_bind (F_X12_readTest M) (fun t => b_two t (fun x6 M7 => if x6 = 0 then (some (0, M7)) else (F_X12_readOne_L3_b122 v1 M7))))
theorem t_X12_readOne_L3_b36 {l : Launch} {E : bE} {Q : (Int × bM) → Prop} {v1 : Int} {M : bM} (hfg : b_fg E) (h : b_wp (F_X12_readOne_L3_b36 v1 M) (Q)) : V l E xX12_readOne_L3 (0, 0) 36 [(0, bR 11), (1, bI v1)] [] M (b_pI Q) := by
  unfold F_X12_readOne_L3_b36 at h
  refine v_aload_n (f := 0) 0 rfl dX12_readOne_36 ?_
  refine v_getI (kf := 3) (kz := 3) rfl kd_11 rfl ⟨by decide, by decide⟩ rfl wf_12_316 dX12_readOne_37 ?_
  refine v_iconst ⟨by decide, by decide⟩ dX12_readOne_40 ?_
  refine v_icmp_ne (tgt := 113) dX12_readOne_41 (by decide) (fun c5 => ?_) (fun c5 => ?_)
  · replace h := b_wp_f c5 h
    refine v_aload_n (f := 0) 0 rfl dX12_readOne_113 ?_
    refine v_cVI (nA := 0) (As := []) (ix := 460) (cf_X12_readTest hfg (b_wp_b h)) rfl kd_11 rfl rfl wc_X12_readTest wm_12_460 wi_X12_readTest ws_X12_readTest wn_12 ⟨by decide, by decide, by decide⟩ rfl ⟨by decide, by decide⟩ ⟨by decide, by decide⟩ (Nat.le_of_ble_eq_true rfl) dX12_readOne_114 (fun x6 M7 h => ?_)
    replace h := b_wp_two h
    refine v_if_ne (tgt := 122) dX12_readOne_117 (by decide) (fun c8 => ?_) (fun c8 => ?_)
    · replace h := b_wp_f c8 h
      exact t_X12_readOne_L3_b122 hfg h
    · replace h := b_wp_t c8 h
      refine v_iconst ⟨by decide, by decide⟩ dX12_readOne_120 ?_
      refine v_zreturn rfl (Or.inl rfl) dX12_readOne_121 ⟨by decide, by decide⟩ ?_
      exact ⟨_, rfl, h⟩
  · replace h := b_wp_t c5 h
    refine v_aload_n (f := 0) 0 rfl dX12_readOne_44 ?_
    refine v_getI (kf := 49) (kz := 49) rfl kd_11 rfl ⟨by decide, by decide⟩ rfl wf_12_454 dX12_readOne_45 ?_
    refine v_iconst ⟨by decide, by decide⟩ dX12_readOne_48 ?_
    refine v_icmp_ne (tgt := 58) dX12_readOne_49 (by decide) (fun c11 => ?_) (fun c11 => ?_)
    · replace h := b_wp_f c11 h
      obtain ⟨g12, h⟩ := b_wp_g h
      refine v_aload_n (f := 0) 0 rfl dX12_readOne_58 ?_
      refine v_dup rfl dX12_readOne_59 ?_
      refine v_getI (kf := 49) (kz := 49) rfl kd_11 rfl ⟨by decide, by decide⟩ rfl wf_12_454 dX12_readOne_60 ?_
      refine v_iconst ⟨by decide, by decide⟩ dX12_readOne_63 ?_
      refine v_iaddN g12 dX12_readOne_64 ?_
      refine v_putI (kf := 49) (kz := 49) rfl kd_11 rfl ⟨by decide, by decide⟩ rfl wf_12_454 rfl rfl dX12_readOne_65 ?_
      replace h := b_wp_l h
      refine v_aload_n (f := 0) 0 rfl dX12_readOne_68 ?_
      refine v_cVV (nA := 0) (As := []) (ix := 292) (cf_X12_scan hfg (b_wp_b h)) rfl kd_11 rfl rfl wc_X12_scan wm_12_292 wi_X12_scan ws_X12_scan wn_12 ⟨by decide, by decide, by decide⟩ rfl ⟨by decide, by decide⟩ ⟨by decide, by decide⟩ (Nat.le_of_ble_eq_true rfl) dX12_readOne_69 (fun M14 h => ?_)
      refine v_aload_n (f := 0) 0 rfl dX12_readOne_72 ?_
      refine v_cVI (nA := 0) (As := []) (ix := 457) (cf_X12_readCond_L4 hfg (b_wp_b h)) rfl kd_11 rfl rfl wc_X12_readCond wm_12_457 wi_X12_readCond ws_X12_readCond wn_12 ⟨by decide, by decide, by decide⟩ rfl ⟨by decide, by decide⟩ ⟨by decide, by decide⟩ (Nat.le_of_ble_eq_true rfl) dX12_readOne_73 (fun x15 M16 h => ?_)
      replace h := b_wp_two h
      refine v_if_ne (tgt := 81) dX12_readOne_76 (by decide) (fun c17 => ?_) (fun c17 => ?_)
      · replace h := b_wp_f c17 h
        refine v_aload_n (f := 0) 0 rfl dX12_readOne_81 ?_
        refine v_getI (kf := 3) (kz := 3) rfl kd_11 rfl ⟨by decide, by decide⟩ rfl wf_12_316 dX12_readOne_82 ?_
        refine v_bipush ⟨by decide, by decide⟩ (by decide) dX12_readOne_85 ?_
        refine v_icmp_eq (tgt := 96) dX12_readOne_87 (by decide) (fun c18 => ?_) (fun c18 => ?_)
        · replace h := b_wp_t c18 h
          obtain ⟨g19, h⟩ := b_wp_g h
          refine v_aload_n (f := 0) 0 rfl dX12_readOne_96 ?_
          refine v_dup rfl dX12_readOne_97 ?_
          refine v_getI (kf := 49) (kz := 49) rfl kd_11 rfl ⟨by decide, by decide⟩ rfl wf_12_454 dX12_readOne_98 ?_
          refine v_iconst ⟨by decide, by decide⟩ dX12_readOne_101 ?_
          refine v_isubN g19 dX12_readOne_102 ?_
          refine v_putI (kf := 49) (kz := 49) rfl kd_11 rfl ⟨by decide, by decide⟩ rfl wf_12_454 rfl rfl dX12_readOne_103 ?_
          replace h := b_wp_l h
          refine v_aload_n (f := 0) 0 rfl dX12_readOne_106 ?_
          refine v_cVV (nA := 0) (As := []) (ix := 292) (cf_X12_scan hfg (b_wp_b h)) rfl kd_11 rfl rfl wc_X12_scan wm_12_292 wi_X12_scan ws_X12_scan wn_12 ⟨by decide, by decide, by decide⟩ rfl ⟨by decide, by decide⟩ ⟨by decide, by decide⟩ (Nat.le_of_ble_eq_true rfl) dX12_readOne_107 (fun M21 h => ?_)
          refine v_goto (tgt := 122) dX12_readOne_110 (by decide) ?_
          exact t_X12_readOne_L3_b122 hfg h
        · replace h := b_wp_f c18 h
          refine v_aload_n (f := 0) 0 rfl dX12_readOne_90 ?_
          refine v_iconst ⟨by decide, by decide⟩ dX12_readOne_91 ?_
          refine v_cVI (nA := 1) (As := [bI _]) (ix := 389) (cf_X12_wrong (b_wp_b h)) rfl kd_11 rfl rfl wc_X12_wrong wm_12_389 wi_X12_wrong ws_X12_wrong wn_12 ⟨by decide, by decide, by decide⟩ rfl ⟨by decide, by decide⟩ ⟨by decide, by decide⟩ (Nat.le_of_ble_eq_true rfl) dX12_readOne_92 (fun x22 M23 h => ?_)
          replace h := b_wp_two h
          obtain ⟨g24, h⟩ := b_wp_g h
          refine v_zreturn rfl g24 dX12_readOne_95 ⟨by decide, by decide⟩ ?_
          exact ⟨_, rfl, h⟩
      · replace h := b_wp_t c17 h
        refine v_iconst ⟨by decide, by decide⟩ dX12_readOne_79 ?_
        refine v_zreturn rfl (Or.inl rfl) dX12_readOne_80 ⟨by decide, by decide⟩ ?_
        exact ⟨_, rfl, h⟩
    · replace h := b_wp_t c11 h
      refine v_aload_n (f := 0) 0 rfl dX12_readOne_52 ?_
      refine v_iconst ⟨by decide, by decide⟩ dX12_readOne_53 ?_
      refine v_cVI (nA := 1) (As := [bI _]) (ix := 389) (cf_X12_wrong (b_wp_b h)) rfl kd_11 rfl rfl wc_X12_wrong wm_12_389 wi_X12_wrong ws_X12_wrong wn_12 ⟨by decide, by decide, by decide⟩ rfl ⟨by decide, by decide⟩ ⟨by decide, by decide⟩ (Nat.le_of_ble_eq_true rfl) dX12_readOne_54 (fun x25 M26 h => ?_)
      replace h := b_wp_two h
      obtain ⟨g27, h⟩ := b_wp_g h
      refine v_zreturn rfl g27 dX12_readOne_57 ⟨by decide, by decide⟩ ?_
      exact ⟨_, rfl, h⟩
noncomputable def F_X12_readOne_L3 (M : bM) : Option (Int × bM) :=
  b_bind (b_loop (fun t => F_X12_readOne_L3_s2 t.1 t.2) (0, M)) (fun t => F_X12_readOne_L3_b36 (t.1) (t.2))
theorem t_X12_readOne_L3 {l : Launch} {E : bE} {Q : (Int × bM) → Prop} {M : bM} (hfg : b_fg E) (h : b_wp (F_X12_readOne_L3 M) (Q)) : V l E xX12_readOne_L3 (0, 0) 0 [(0, bR 11)] [] M (b_pI Q) := by
  unfold F_X12_readOne_L3 at h
  refine v_iconst ⟨by decide, by decide⟩ dX12_readOne_0 ?_
  refine v_istore_n (g := 1) (i := 1) (ls' := [(1, bI _), (0, bR _)]) rfl (by decide) dX12_readOne_1 rfl ?_
  refine v_sub (ls2 := [(0, bR _), (1, bI _)]) [1, 0] rfl ?_
  refine l_X12_readOne_L3_2 hfg (b_wp_m (fun t h => ?_) (b_wp_b h))
  show V l E xX12_readOne_L3 (0, 0) 36 [(0, bR 11), (1, bI _)] [] _ (b_pI Q)
  exact t_X12_readOne_L3_b36 hfg h
theorem cf_X12_readOne_L3 {l : Launch} {E : bE} {M : bM} (hfg : b_fg E) {Q : (Int × bM) → Prop} (h : b_wp (F_X12_readOne_L3 M) Q) : b_C l E xX12_readOne_L3 yX12_readOne [bR 11] M (b_pI Q) := b_met (by decide) ⟨rfl, rfl⟩ (Nat.le_of_ble_eq_true rfl) (fun _ _ => t_X12_readOne_L3 hfg h)
abbrev xX12_readAll_L3 : bX := ("BurntHallModel", prog_14_method_62_code, 1, (Option.some Jvm.ClassFile.FieldType.boolean), b_rm 17 0 0, 0, "readAll")
abbrev A_X12_readAll_L3_9 (l : Launch) (E : bE) (Q : (Int × bM) → Prop) : (bM) → Prop := (fun t : bM => V l E xX12_readAll_L3 (0, 0) 9 [(0, bR 11)] [] t (b_pI Q))
abbrev X_X12_readAll_L3_9 (l : Launch) (E : bE) (Q : (Int × bM) → Prop) : ((bM) ⊕ (Int × bM)) → Prop := (Sum.elim (fun t : bM => V l E xX12_readAll_L3 (0, 0) 47 [] [] t (b_pI Q)) Q)
noncomputable def F_X12_readAll_L3_s9 (M : bM) : Option ((bM) ⊕ ((bM) ⊕ (Int × bM))) :=
  if (M 11 3) = 1 then (if (M 11 4) = 19 then (b_bind (F_X12_scan M) (fun M6 => b_bind (F_X12_readOne_L3 M6) (fun t => b_two t (fun x7 M8 => if x7 = 0 then (some (.inr (.inr (0, M8)))) else (b_bind (F_X12_addStep (-1) M8) (fun M10 => some (.inl (M10)))))))) else (some (.inr (.inl (M))))) else (some (.inr (.inl (M))))
theorem t_X12_readAll_L3_s9 {l : Launch} {E : bE} {Q : (Int × bM) → Prop} {M : bM} (hfg : b_fg E) (h : b_wp (F_X12_readAll_L3_s9 M) (Sum.elim (A_X12_readAll_L3_9 l E Q ) (X_X12_readAll_L3_9 l E Q ))) : V l E xX12_readAll_L3 (0, 0) 9 [(0, bR 11)] [] M (b_pI Q) := by
  unfold F_X12_readAll_L3_s9 at h
  refine v_aload_n (f := 0) 0 rfl dX12_readAll_9 ?_
  refine v_getI (kf := 3) (kz := 3) rfl kd_11 rfl ⟨by decide, by decide⟩ rfl wf_12_316 dX12_readAll_10 ?_
  refine v_iconst ⟨by decide, by decide⟩ dX12_readAll_13 ?_
  refine v_icmp_ne (tgt := 47) dX12_readAll_14 (by decide) (fun c4 => ?_) (fun c4 => ?_)
  · replace h := b_wp_f c4 h
    refine v_sub (ls2 := []) [] rfl ?_
    exact h
  · replace h := b_wp_t c4 h
    refine v_aload_n (f := 0) 0 rfl dX12_readAll_17 ?_
    refine v_getI (kf := 4) (kz := 4) rfl kd_11 rfl ⟨by decide, by decide⟩ rfl wf_12_313 dX12_readAll_18 ?_
    refine v_bipush ⟨by decide, by decide⟩ (by decide) dX12_readAll_21 ?_
    refine v_icmp_ne (tgt := 47) dX12_readAll_23 (by decide) (fun c5 => ?_) (fun c5 => ?_)
    · replace h := b_wp_f c5 h
      refine v_sub (ls2 := []) [] rfl ?_
      exact h
    · replace h := b_wp_t c5 h
      refine v_aload_n (f := 0) 0 rfl dX12_readAll_26 ?_
      refine v_cVV (nA := 0) (As := []) (ix := 292) (cf_X12_scan hfg (b_wp_b h)) rfl kd_11 rfl rfl wc_X12_scan wm_12_292 wi_X12_scan ws_X12_scan wn_12 ⟨by decide, by decide, by decide⟩ rfl ⟨by decide, by decide⟩ ⟨by decide, by decide⟩ (Nat.le_of_ble_eq_true rfl) dX12_readAll_27 (fun M6 h => ?_)
      refine v_aload_n (f := 0) 0 rfl dX12_readAll_30 ?_
      refine v_cVI (nA := 0) (As := []) (ix := 463) (cf_X12_readOne_L3 hfg (b_wp_b h)) rfl kd_11 rfl rfl wc_X12_readOne wm_12_463 wi_X12_readOne ws_X12_readOne wn_12 ⟨by decide, by decide, by decide⟩ rfl ⟨by decide, by decide⟩ ⟨by decide, by decide⟩ (Nat.le_of_ble_eq_true rfl) dX12_readAll_31 (fun x7 M8 h => ?_)
      replace h := b_wp_two h
      refine v_if_ne (tgt := 39) dX12_readAll_34 (by decide) (fun c9 => ?_) (fun c9 => ?_)
      · replace h := b_wp_f c9 h
        refine v_aload_n (f := 0) 0 rfl dX12_readAll_39 ?_
        refine v_iconst ⟨by decide, by decide⟩ dX12_readAll_40 ?_
        refine v_cVV (nA := 1) (As := [bI _]) (ix := 448) (cf_X12_addStep (b_wp_b h)) rfl kd_11 rfl rfl wc_X12_addStep wm_12_448 wi_X12_addStep ws_X12_addStep wn_12 ⟨by decide, by decide, by decide⟩ rfl ⟨by decide, by decide⟩ ⟨by decide, by decide⟩ (Nat.le_of_ble_eq_true rfl) dX12_readAll_41 (fun M10 h => ?_)
        refine v_goto (tgt := 9) dX12_readAll_44 (by decide) ?_
        exact h
      · replace h := b_wp_t c9 h
        refine v_iconst ⟨by decide, by decide⟩ dX12_readAll_37 ?_
        refine v_zreturn rfl (Or.inl rfl) dX12_readAll_38 ⟨by decide, by decide⟩ ?_
        exact ⟨_, rfl, h⟩
theorem l_X12_readAll_L3_9 {l : Launch} {E : bE} {Q : (Int × bM) → Prop} (hfg : b_fg E) {s : bM} (h : b_wp (b_loop (fun t => F_X12_readAll_L3_s9 t) s) (X_X12_readAll_L3_9 l E Q )) : A_X12_readAll_L3_9 l E Q  s := b_loop_wp (fun t h => t_X12_readAll_L3_s9 hfg h) s h
noncomputable def F_X12_readAll_L3_b47 (M : bM) : Option (Int × bM) :=
  some (1, M)
theorem t_X12_readAll_L3_b47 {l : Launch} {E : bE} {Q : (Int × bM) → Prop} {M : bM} (hfg : b_fg E) (h : b_wp (F_X12_readAll_L3_b47 M) (Q)) : V l E xX12_readAll_L3 (0, 0) 47 [] [] M (b_pI Q) := by
  unfold F_X12_readAll_L3_b47 at h
  refine v_iconst ⟨by decide, by decide⟩ dX12_readAll_47 ?_
  refine v_zreturn rfl (Or.inr rfl) dX12_readAll_48 ⟨by decide, by decide⟩ ?_
  exact ⟨_, rfl, h⟩
noncomputable def F_X12_readAll_L3 (M : bM) : Option (Int × bM) :=
  b_bind (F_X12_readOne_L3 M) (fun t => b_two t (fun x1 M2 => if x1 = 0 then (some (0, M2)) else (b_bind (b_loop (fun t => F_X12_readAll_L3_s9 t) (M2)) (Sum.elim (fun t => F_X12_readAll_L3_b47 t) some))))
theorem t_X12_readAll_L3 {l : Launch} {E : bE} {Q : (Int × bM) → Prop} {M : bM} (hfg : b_fg E) (h : b_wp (F_X12_readAll_L3 M) (Q)) : V l E xX12_readAll_L3 (0, 0) 0 [(0, bR 11)] [] M (b_pI Q) := by
  unfold F_X12_readAll_L3 at h
  refine v_aload_n (f := 0) 0 rfl dX12_readAll_0 ?_
  refine v_cVI (nA := 0) (As := []) (ix := 463) (cf_X12_readOne_L3 hfg (b_wp_b h)) rfl kd_11 rfl rfl wc_X12_readOne wm_12_463 wi_X12_readOne ws_X12_readOne wn_12 ⟨by decide, by decide, by decide⟩ rfl ⟨by decide, by decide⟩ ⟨by decide, by decide⟩ (Nat.le_of_ble_eq_true rfl) dX12_readAll_1 (fun x1 M2 h => ?_)
  replace h := b_wp_two h
  refine v_if_ne (tgt := 9) dX12_readAll_4 (by decide) (fun c3 => ?_) (fun c3 => ?_)
  · replace h := b_wp_f c3 h
    refine l_X12_readAll_L3_9 hfg (b_wp_m (fun t h => ?_) (b_wp_b h))
    cases t with
    | inr o => exact h
    | inl t =>
      show V l E xX12_readAll_L3 (0, 0) 47 [] [] _ (b_pI Q)
      replace h := b_wp_inl h
      exact t_X12_readAll_L3_b47 hfg h
  · replace h := b_wp_t c3 h
    refine v_iconst ⟨by decide, by decide⟩ dX12_readAll_7 ?_
    refine v_zreturn rfl (Or.inl rfl) dX12_readAll_8 ⟨by decide, by decide⟩ ?_
    exact ⟨_, rfl, h⟩
theorem cf_X12_readAll_L3 {l : Launch} {E : bE} {M : bM} (hfg : b_fg E) {Q : (Int × bM) → Prop} (h : b_wp (F_X12_readAll_L3 M) Q) : b_C l E xX12_readAll_L3 yX12_readAll [bR 11] M (b_pI Q) := b_met (by decide) ⟨rfl, rfl⟩ (Nat.le_of_ble_eq_true rfl) (fun _ _ => t_X12_readAll_L3 hfg h)
abbrev xX12_readCond_L3 : bX := ("BurntHallModel", prog_14_method_63_code, 1, (Option.some Jvm.ClassFile.FieldType.boolean), b_rm 18 0 0, 0, "readCond")
abbrev A_X12_readCond_L3_9 (l : Launch) (E : bE) (Q : (Int × bM) → Prop) : (bM) → Prop := (fun t : bM => V l E xX12_readCond_L3 (0, 0) 9 [(0, bR 11)] [] t (b_pI Q))
abbrev X_X12_readCond_L3_9 (l : Launch) (E : bE) (Q : (Int × bM) → Prop) : ((bM) ⊕ (Int × bM)) → Prop := (Sum.elim (fun t : bM => V l E xX12_readCond_L3 (0, 0) 48 [] [] t (b_pI Q)) Q)
noncomputable def F_X12_readCond_L3_s9 (M : bM) : Option ((bM) ⊕ ((bM) ⊕ (Int × bM))) :=
  if (M 11 3) = 1 then (if (M 11 4) = 18 then (b_bind (F_X12_scan M) (fun M6 => b_bind (F_X12_readAll_L3 M6) (fun t => b_two t (fun x7 M8 => if x7 = 0 then (some (.inr (.inr (0, M8)))) else (b_bind (F_X12_addStep (-2) M8) (fun M10 => some (.inl (M10)))))))) else (some (.inr (.inl (M))))) else (some (.inr (.inl (M))))
theorem t_X12_readCond_L3_s9 {l : Launch} {E : bE} {Q : (Int × bM) → Prop} {M : bM} (hfg : b_fg E) (h : b_wp (F_X12_readCond_L3_s9 M) (Sum.elim (A_X12_readCond_L3_9 l E Q ) (X_X12_readCond_L3_9 l E Q ))) : V l E xX12_readCond_L3 (0, 0) 9 [(0, bR 11)] [] M (b_pI Q) := by
  unfold F_X12_readCond_L3_s9 at h
  refine v_aload_n (f := 0) 0 rfl dX12_readCond_9 ?_
  refine v_getI (kf := 3) (kz := 3) rfl kd_11 rfl ⟨by decide, by decide⟩ rfl wf_12_316 dX12_readCond_10 ?_
  refine v_iconst ⟨by decide, by decide⟩ dX12_readCond_13 ?_
  refine v_icmp_ne (tgt := 48) dX12_readCond_14 (by decide) (fun c4 => ?_) (fun c4 => ?_)
  · replace h := b_wp_f c4 h
    refine v_sub (ls2 := []) [] rfl ?_
    exact h
  · replace h := b_wp_t c4 h
    refine v_aload_n (f := 0) 0 rfl dX12_readCond_17 ?_
    refine v_getI (kf := 4) (kz := 4) rfl kd_11 rfl ⟨by decide, by decide⟩ rfl wf_12_313 dX12_readCond_18 ?_
    refine v_bipush ⟨by decide, by decide⟩ (by decide) dX12_readCond_21 ?_
    refine v_icmp_ne (tgt := 48) dX12_readCond_23 (by decide) (fun c5 => ?_) (fun c5 => ?_)
    · replace h := b_wp_f c5 h
      refine v_sub (ls2 := []) [] rfl ?_
      exact h
    · replace h := b_wp_t c5 h
      refine v_aload_n (f := 0) 0 rfl dX12_readCond_26 ?_
      refine v_cVV (nA := 0) (As := []) (ix := 292) (cf_X12_scan hfg (b_wp_b h)) rfl kd_11 rfl rfl wc_X12_scan wm_12_292 wi_X12_scan ws_X12_scan wn_12 ⟨by decide, by decide, by decide⟩ rfl ⟨by decide, by decide⟩ ⟨by decide, by decide⟩ (Nat.le_of_ble_eq_true rfl) dX12_readCond_27 (fun M6 h => ?_)
      refine v_aload_n (f := 0) 0 rfl dX12_readCond_30 ?_
      refine v_cVI (nA := 0) (As := []) (ix := 466) (cf_X12_readAll_L3 hfg (b_wp_b h)) rfl kd_11 rfl rfl wc_X12_readAll wm_12_466 wi_X12_readAll ws_X12_readAll wn_12 ⟨by decide, by decide, by decide⟩ rfl ⟨by decide, by decide⟩ ⟨by decide, by decide⟩ (Nat.le_of_ble_eq_true rfl) dX12_readCond_31 (fun x7 M8 h => ?_)
      replace h := b_wp_two h
      refine v_if_ne (tgt := 39) dX12_readCond_34 (by decide) (fun c9 => ?_) (fun c9 => ?_)
      · replace h := b_wp_f c9 h
        refine v_aload_n (f := 0) 0 rfl dX12_readCond_39 ?_
        refine v_bipush ⟨by decide, by decide⟩ (by decide) dX12_readCond_40 ?_
        refine v_cVV (nA := 1) (As := [bI _]) (ix := 448) (cf_X12_addStep (b_wp_b h)) rfl kd_11 rfl rfl wc_X12_addStep wm_12_448 wi_X12_addStep ws_X12_addStep wn_12 ⟨by decide, by decide, by decide⟩ rfl ⟨by decide, by decide⟩ ⟨by decide, by decide⟩ (Nat.le_of_ble_eq_true rfl) dX12_readCond_42 (fun M10 h => ?_)
        refine v_goto (tgt := 9) dX12_readCond_45 (by decide) ?_
        exact h
      · replace h := b_wp_t c9 h
        refine v_iconst ⟨by decide, by decide⟩ dX12_readCond_37 ?_
        refine v_zreturn rfl (Or.inl rfl) dX12_readCond_38 ⟨by decide, by decide⟩ ?_
        exact ⟨_, rfl, h⟩
theorem l_X12_readCond_L3_9 {l : Launch} {E : bE} {Q : (Int × bM) → Prop} (hfg : b_fg E) {s : bM} (h : b_wp (b_loop (fun t => F_X12_readCond_L3_s9 t) s) (X_X12_readCond_L3_9 l E Q )) : A_X12_readCond_L3_9 l E Q  s := b_loop_wp (fun t h => t_X12_readCond_L3_s9 hfg h) s h
noncomputable def F_X12_readCond_L3_b48 (M : bM) : Option (Int × bM) :=
  some (1, M)
theorem t_X12_readCond_L3_b48 {l : Launch} {E : bE} {Q : (Int × bM) → Prop} {M : bM} (hfg : b_fg E) (h : b_wp (F_X12_readCond_L3_b48 M) (Q)) : V l E xX12_readCond_L3 (0, 0) 48 [] [] M (b_pI Q) := by
  unfold F_X12_readCond_L3_b48 at h
  refine v_iconst ⟨by decide, by decide⟩ dX12_readCond_48 ?_
  refine v_zreturn rfl (Or.inr rfl) dX12_readCond_49 ⟨by decide, by decide⟩ ?_
  exact ⟨_, rfl, h⟩
noncomputable def F_X12_readCond_L3 (M : bM) : Option (Int × bM) :=
  b_bind (F_X12_readAll_L3 M) (fun t => b_two t (fun x1 M2 => if x1 = 0 then (some (0, M2)) else (b_bind (b_loop (fun t => F_X12_readCond_L3_s9 t) (M2)) (Sum.elim (fun t => F_X12_readCond_L3_b48 t) some))))
theorem t_X12_readCond_L3 {l : Launch} {E : bE} {Q : (Int × bM) → Prop} {M : bM} (hfg : b_fg E) (h : b_wp (F_X12_readCond_L3 M) (Q)) : V l E xX12_readCond_L3 (0, 0) 0 [(0, bR 11)] [] M (b_pI Q) := by
  unfold F_X12_readCond_L3 at h
  refine v_aload_n (f := 0) 0 rfl dX12_readCond_0 ?_
  refine v_cVI (nA := 0) (As := []) (ix := 466) (cf_X12_readAll_L3 hfg (b_wp_b h)) rfl kd_11 rfl rfl wc_X12_readAll wm_12_466 wi_X12_readAll ws_X12_readAll wn_12 ⟨by decide, by decide, by decide⟩ rfl ⟨by decide, by decide⟩ ⟨by decide, by decide⟩ (Nat.le_of_ble_eq_true rfl) dX12_readCond_1 (fun x1 M2 h => ?_)
  replace h := b_wp_two h
  refine v_if_ne (tgt := 9) dX12_readCond_4 (by decide) (fun c3 => ?_) (fun c3 => ?_)
  · replace h := b_wp_f c3 h
    refine l_X12_readCond_L3_9 hfg (b_wp_m (fun t h => ?_) (b_wp_b h))
    cases t with
    | inr o => exact h
    | inl t =>
      show V l E xX12_readCond_L3 (0, 0) 48 [] [] _ (b_pI Q)
      replace h := b_wp_inl h
      exact t_X12_readCond_L3_b48 hfg h
  · replace h := b_wp_t c3 h
    refine v_iconst ⟨by decide, by decide⟩ dX12_readCond_7 ?_
    refine v_zreturn rfl (Or.inl rfl) dX12_readCond_8 ⟨by decide, by decide⟩ ?_
    exact ⟨_, rfl, h⟩
theorem cf_X12_readCond_L3 {l : Launch} {E : bE} {M : bM} (hfg : b_fg E) {Q : (Int × bM) → Prop} (h : b_wp (F_X12_readCond_L3 M) Q) : b_C l E xX12_readCond_L3 yX12_readCond [bR 11] M (b_pI Q) := b_met (by decide) ⟨rfl, rfl⟩ (Nat.le_of_ble_eq_true rfl) (fun _ _ => t_X12_readCond_L3 hfg h)
abbrev xX12_readOne_L2 : bX := ("BurntHallModel", prog_14_method_61_code, 2, (Option.some Jvm.ClassFile.FieldType.boolean), b_rm 19 0 0, 0, "readOne")
abbrev A_X12_readOne_L2_2 (l : Launch) (E : bE) (Q : (Int × bM) → Prop) : (Int × bM) → Prop := (fun t : Int × bM => V l E xX12_readOne_L2 (0, 0) 2 [(0, bR 11), (1, bI (t.1))] [] t.2 (b_pI Q))
abbrev X_X12_readOne_L2_2 (l : Launch) (E : bE) (Q : (Int × bM) → Prop) : (Int × bM) → Prop := (fun t : Int × bM => V l E xX12_readOne_L2 (0, 0) 36 [(0, bR 11), (1, bI (t.1))] [] t.2 (b_pI Q))
noncomputable def F_X12_readOne_L2_b28 (u0 : Int) (M : bM) : Option ((Int × bM) ⊕ (Int × bM)) :=
  b_bind (F_X12_scan M) (fun M4 => some (.inl (u0, M4)))
theorem t_X12_readOne_L2_b28 {l : Launch} {E : bE} {Q : (Int × bM) → Prop} {u0 : Int} {M : bM} (hfg : b_fg E) (h : b_wp (F_X12_readOne_L2_b28 u0 M) (Sum.elim (A_X12_readOne_L2_2 l E Q ) (X_X12_readOne_L2_2 l E Q ))) : V l E xX12_readOne_L2 (0, 0) 28 [(0, bR 11)] [bI u0] M (b_pI Q) := by
  unfold F_X12_readOne_L2_b28 at h
  refine v_istore_n (g := 1) (i := 1) (ls' := [(1, bI _), (0, bR _)]) rfl (by decide) dX12_readOne_28 rfl ?_
  refine v_aload_n (f := 0) 1 rfl dX12_readOne_29 ?_
  refine v_cVV (nA := 0) (As := []) (ix := 292) (cf_X12_scan hfg (b_wp_b h)) rfl kd_11 rfl rfl wc_X12_scan wm_12_292 wi_X12_scan ws_X12_scan wn_12 ⟨by decide, by decide, by decide⟩ rfl ⟨by decide, by decide⟩ ⟨by decide, by decide⟩ (Nat.le_of_ble_eq_true rfl) dX12_readOne_30 (fun M4 h => ?_)
  refine v_goto (tgt := 2) dX12_readOne_33 (by decide) ?_
  refine v_sub (ls2 := [(0, bR _), (1, bI _)]) [1, 0] rfl ?_
  exact h
noncomputable def F_X12_readOne_L2_s2 (v1 : Int) (M : bM) : Option ((Int × bM) ⊕ (Int × bM)) :=
  if (M 11 3) = 1 then (if (M 11 4) = 20 then (if v1 = 0 then (F_X12_readOne_L2_b28 1 M) else (F_X12_readOne_L2_b28 0 M)) else (some (.inr (v1, M)))) else (some (.inr (v1, M)))
theorem t_X12_readOne_L2_s2 {l : Launch} {E : bE} {Q : (Int × bM) → Prop} {v1 : Int} {M : bM} (hfg : b_fg E) (h : b_wp (F_X12_readOne_L2_s2 v1 M) (Sum.elim (A_X12_readOne_L2_2 l E Q ) (X_X12_readOne_L2_2 l E Q ))) : V l E xX12_readOne_L2 (0, 0) 2 [(0, bR 11), (1, bI v1)] [] M (b_pI Q) := by
  unfold F_X12_readOne_L2_s2 at h
  refine v_aload_n (f := 0) 0 rfl dX12_readOne_2 ?_
  refine v_getI (kf := 3) (kz := 3) rfl kd_11 rfl ⟨by decide, by decide⟩ rfl wf_12_316 dX12_readOne_3 ?_
  refine v_iconst ⟨by decide, by decide⟩ dX12_readOne_6 ?_
  refine v_icmp_ne (tgt := 36) dX12_readOne_7 (by decide) (fun c1 => ?_) (fun c1 => ?_)
  · replace h := b_wp_f c1 h
    exact h
  · replace h := b_wp_t c1 h
    refine v_aload_n (f := 0) 0 rfl dX12_readOne_10 ?_
    refine v_getI (kf := 4) (kz := 4) rfl kd_11 rfl ⟨by decide, by decide⟩ rfl wf_12_313 dX12_readOne_11 ?_
    refine v_bipush ⟨by decide, by decide⟩ (by decide) dX12_readOne_14 ?_
    refine v_icmp_ne (tgt := 36) dX12_readOne_16 (by decide) (fun c2 => ?_) (fun c2 => ?_)
    · replace h := b_wp_f c2 h
      exact h
    · replace h := b_wp_t c2 h
      refine v_iload_n (f := 1) 1 rfl dX12_readOne_19 ?_
      refine v_if_ne (tgt := 27) dX12_readOne_20 (by decide) (fun c3 => ?_) (fun c3 => ?_)
      · replace h := b_wp_f c3 h
        refine v_iconst ⟨by decide, by decide⟩ dX12_readOne_27 ?_
        refine v_sub (ls2 := [(0, bR _)]) [0] rfl ?_
        exact t_X12_readOne_L2_b28 hfg h
      · replace h := b_wp_t c3 h
        refine v_iconst ⟨by decide, by decide⟩ dX12_readOne_23 ?_
        refine v_goto (tgt := 28) dX12_readOne_24 (by decide) ?_
        refine v_sub (ls2 := [(0, bR _)]) [0] rfl ?_
        exact t_X12_readOne_L2_b28 hfg h
theorem l_X12_readOne_L2_2 {l : Launch} {E : bE} {Q : (Int × bM) → Prop} (hfg : b_fg E) {s : Int × bM} (h : b_wp (b_loop (fun t => F_X12_readOne_L2_s2 t.1 t.2) s) (X_X12_readOne_L2_2 l E Q )) : A_X12_readOne_L2_2 l E Q  s := b_loop_wp (fun t h => t_X12_readOne_L2_s2 hfg h) s h
noncomputable def F_X12_readOne_L2_b122 (v1 : Int) (M : bM) : Option (Int × bM) :=
  if v1 = 0 then (some (1, M)) else (b_bind (F_X12_addStep (-3) M) (fun M10 => some (1, M10)))
theorem t_X12_readOne_L2_b122 {l : Launch} {E : bE} {Q : (Int × bM) → Prop} {v1 : Int} {M : bM} (hfg : b_fg E) (h : b_wp (F_X12_readOne_L2_b122 v1 M) (Q)) : V l E xX12_readOne_L2 (0, 0) 122 [(0, bR 11), (1, bI v1)] [] M (b_pI Q) := by
  unfold F_X12_readOne_L2_b122 at h
  refine v_iload_n (f := 1) 1 rfl dX12_readOne_122 ?_
  refine v_if_eq (tgt := 132) dX12_readOne_123 (by decide) (fun c9 => ?_) (fun c9 => ?_)
  · replace h := b_wp_t c9 h
    refine v_iconst ⟨by decide, by decide⟩ dX12_readOne_132 ?_
    refine v_zreturn rfl (Or.inr rfl) dX12_readOne_133 ⟨by decide, by decide⟩ ?_
    exact ⟨_, rfl, h⟩
  · replace h := b_wp_f c9 h
    refine v_aload_n (f := 0) 0 rfl dX12_readOne_126 ?_
    refine v_bipush ⟨by decide, by decide⟩ (by decide) dX12_readOne_127 ?_
    refine v_cVV (nA := 1) (As := [bI _]) (ix := 448) (cf_X12_addStep (b_wp_b h)) rfl kd_11 rfl rfl wc_X12_addStep wm_12_448 wi_X12_addStep ws_X12_addStep wn_12 ⟨by decide, by decide, by decide⟩ rfl ⟨by decide, by decide⟩ ⟨by decide, by decide⟩ (Nat.le_of_ble_eq_true rfl) dX12_readOne_129 (fun M10 h => ?_)
    refine v_iconst ⟨by decide, by decide⟩ dX12_readOne_132 ?_
    refine v_zreturn rfl (Or.inr rfl) dX12_readOne_133 ⟨by decide, by decide⟩ ?_
    exact ⟨_, rfl, h⟩
noncomputable def F_X12_readOne_L2_b36 (v1 : Int) (M : bM) : Option (Int × bM) :=
  if (M 11 3) = 5 then (if (M 11 49) = 5 then (b_bind (F_X12_wrong 4 M) (fun t => b_two t (fun x25 M26 => b_g (x25 = 0 ∨ x25 = 1) (some (x25, M26))))) else (b_g (b_i32 ((M 11 49) + 1)) (b_let (b_up M 11 49 ((M 11 49) + 1)) (fun M13 => b_bind (F_X12_scan M13) (fun M14 => b_bind (F_X12_readCond_L3 M14) (fun t => b_two t (fun x15 M16 => if x15 = 0 then (some (0, M16)) else (if (M16 11 3) = 6 then (b_g (b_i32 ((M16 11 49) - 1)) (b_let (b_up M16 11 49 ((M16 11 49) - 1)) (fun M20 => b_bind (F_X12_scan M20) (fun M21 => F_X12_readOne_L2_b122 v1 M21)))) else (b_bind (F_X12_wrong 1 M16) (fun t => b_two t (fun x22 M23 => b_g (x22 = 0 ∨ x22 = 1) (some (x22, M23))))))))))))) else (b_bind (F_X12_readTest M) (fun t => b_two t (fun x6 M7 => if x6 = 0 then (some (0, M7)) else (F_X12_readOne_L2_b122 v1 M7))))
theorem t_X12_readOne_L2_b36 {l : Launch} {E : bE} {Q : (Int × bM) → Prop} {v1 : Int} {M : bM} (hfg : b_fg E) (h : b_wp (F_X12_readOne_L2_b36 v1 M) (Q)) : V l E xX12_readOne_L2 (0, 0) 36 [(0, bR 11), (1, bI v1)] [] M (b_pI Q) := by
  unfold F_X12_readOne_L2_b36 at h
  refine v_aload_n (f := 0) 0 rfl dX12_readOne_36 ?_
  refine v_getI (kf := 3) (kz := 3) rfl kd_11 rfl ⟨by decide, by decide⟩ rfl wf_12_316 dX12_readOne_37 ?_
  refine v_iconst ⟨by decide, by decide⟩ dX12_readOne_40 ?_
  refine v_icmp_ne (tgt := 113) dX12_readOne_41 (by decide) (fun c5 => ?_) (fun c5 => ?_)
  · replace h := b_wp_f c5 h
    refine v_aload_n (f := 0) 0 rfl dX12_readOne_113 ?_
    refine v_cVI (nA := 0) (As := []) (ix := 460) (cf_X12_readTest hfg (b_wp_b h)) rfl kd_11 rfl rfl wc_X12_readTest wm_12_460 wi_X12_readTest ws_X12_readTest wn_12 ⟨by decide, by decide, by decide⟩ rfl ⟨by decide, by decide⟩ ⟨by decide, by decide⟩ (Nat.le_of_ble_eq_true rfl) dX12_readOne_114 (fun x6 M7 h => ?_)
    replace h := b_wp_two h
    refine v_if_ne (tgt := 122) dX12_readOne_117 (by decide) (fun c8 => ?_) (fun c8 => ?_)
    · replace h := b_wp_f c8 h
      exact t_X12_readOne_L2_b122 hfg h
    · replace h := b_wp_t c8 h
      refine v_iconst ⟨by decide, by decide⟩ dX12_readOne_120 ?_
      refine v_zreturn rfl (Or.inl rfl) dX12_readOne_121 ⟨by decide, by decide⟩ ?_
      exact ⟨_, rfl, h⟩
  · replace h := b_wp_t c5 h
    refine v_aload_n (f := 0) 0 rfl dX12_readOne_44 ?_
    refine v_getI (kf := 49) (kz := 49) rfl kd_11 rfl ⟨by decide, by decide⟩ rfl wf_12_454 dX12_readOne_45 ?_
    refine v_iconst ⟨by decide, by decide⟩ dX12_readOne_48 ?_
    refine v_icmp_ne (tgt := 58) dX12_readOne_49 (by decide) (fun c11 => ?_) (fun c11 => ?_)
    · replace h := b_wp_f c11 h
      obtain ⟨g12, h⟩ := b_wp_g h
      refine v_aload_n (f := 0) 0 rfl dX12_readOne_58 ?_
      refine v_dup rfl dX12_readOne_59 ?_
      refine v_getI (kf := 49) (kz := 49) rfl kd_11 rfl ⟨by decide, by decide⟩ rfl wf_12_454 dX12_readOne_60 ?_
      refine v_iconst ⟨by decide, by decide⟩ dX12_readOne_63 ?_
      refine v_iaddN g12 dX12_readOne_64 ?_
      refine v_putI (kf := 49) (kz := 49) rfl kd_11 rfl ⟨by decide, by decide⟩ rfl wf_12_454 rfl rfl dX12_readOne_65 ?_
      replace h := b_wp_l h
      refine v_aload_n (f := 0) 0 rfl dX12_readOne_68 ?_
      refine v_cVV (nA := 0) (As := []) (ix := 292) (cf_X12_scan hfg (b_wp_b h)) rfl kd_11 rfl rfl wc_X12_scan wm_12_292 wi_X12_scan ws_X12_scan wn_12 ⟨by decide, by decide, by decide⟩ rfl ⟨by decide, by decide⟩ ⟨by decide, by decide⟩ (Nat.le_of_ble_eq_true rfl) dX12_readOne_69 (fun M14 h => ?_)
      refine v_aload_n (f := 0) 0 rfl dX12_readOne_72 ?_
      refine v_cVI (nA := 0) (As := []) (ix := 457) (cf_X12_readCond_L3 hfg (b_wp_b h)) rfl kd_11 rfl rfl wc_X12_readCond wm_12_457 wi_X12_readCond ws_X12_readCond wn_12 ⟨by decide, by decide, by decide⟩ rfl ⟨by decide, by decide⟩ ⟨by decide, by decide⟩ (Nat.le_of_ble_eq_true rfl) dX12_readOne_73 (fun x15 M16 h => ?_)
      replace h := b_wp_two h
      refine v_if_ne (tgt := 81) dX12_readOne_76 (by decide) (fun c17 => ?_) (fun c17 => ?_)
      · replace h := b_wp_f c17 h
        refine v_aload_n (f := 0) 0 rfl dX12_readOne_81 ?_
        refine v_getI (kf := 3) (kz := 3) rfl kd_11 rfl ⟨by decide, by decide⟩ rfl wf_12_316 dX12_readOne_82 ?_
        refine v_bipush ⟨by decide, by decide⟩ (by decide) dX12_readOne_85 ?_
        refine v_icmp_eq (tgt := 96) dX12_readOne_87 (by decide) (fun c18 => ?_) (fun c18 => ?_)
        · replace h := b_wp_t c18 h
          obtain ⟨g19, h⟩ := b_wp_g h
          refine v_aload_n (f := 0) 0 rfl dX12_readOne_96 ?_
          refine v_dup rfl dX12_readOne_97 ?_
          refine v_getI (kf := 49) (kz := 49) rfl kd_11 rfl ⟨by decide, by decide⟩ rfl wf_12_454 dX12_readOne_98 ?_
          refine v_iconst ⟨by decide, by decide⟩ dX12_readOne_101 ?_
          refine v_isubN g19 dX12_readOne_102 ?_
          refine v_putI (kf := 49) (kz := 49) rfl kd_11 rfl ⟨by decide, by decide⟩ rfl wf_12_454 rfl rfl dX12_readOne_103 ?_
          replace h := b_wp_l h
          refine v_aload_n (f := 0) 0 rfl dX12_readOne_106 ?_
          refine v_cVV (nA := 0) (As := []) (ix := 292) (cf_X12_scan hfg (b_wp_b h)) rfl kd_11 rfl rfl wc_X12_scan wm_12_292 wi_X12_scan ws_X12_scan wn_12 ⟨by decide, by decide, by decide⟩ rfl ⟨by decide, by decide⟩ ⟨by decide, by decide⟩ (Nat.le_of_ble_eq_true rfl) dX12_readOne_107 (fun M21 h => ?_)
          refine v_goto (tgt := 122) dX12_readOne_110 (by decide) ?_
          exact t_X12_readOne_L2_b122 hfg h
        · replace h := b_wp_f c18 h
          refine v_aload_n (f := 0) 0 rfl dX12_readOne_90 ?_
          refine v_iconst ⟨by decide, by decide⟩ dX12_readOne_91 ?_
          refine v_cVI (nA := 1) (As := [bI _]) (ix := 389) (cf_X12_wrong (b_wp_b h)) rfl kd_11 rfl rfl wc_X12_wrong wm_12_389 wi_X12_wrong ws_X12_wrong wn_12 ⟨by decide, by decide, by decide⟩ rfl ⟨by decide, by decide⟩ ⟨by decide, by decide⟩ (Nat.le_of_ble_eq_true rfl) dX12_readOne_92 (fun x22 M23 h => ?_)
          replace h := b_wp_two h
          obtain ⟨g24, h⟩ := b_wp_g h
          refine v_zreturn rfl g24 dX12_readOne_95 ⟨by decide, by decide⟩ ?_
          exact ⟨_, rfl, h⟩
      · replace h := b_wp_t c17 h
        refine v_iconst ⟨by decide, by decide⟩ dX12_readOne_79 ?_
        refine v_zreturn rfl (Or.inl rfl) dX12_readOne_80 ⟨by decide, by decide⟩ ?_
        exact ⟨_, rfl, h⟩
    · replace h := b_wp_t c11 h
      refine v_aload_n (f := 0) 0 rfl dX12_readOne_52 ?_
      refine v_iconst ⟨by decide, by decide⟩ dX12_readOne_53 ?_
      refine v_cVI (nA := 1) (As := [bI _]) (ix := 389) (cf_X12_wrong (b_wp_b h)) rfl kd_11 rfl rfl wc_X12_wrong wm_12_389 wi_X12_wrong ws_X12_wrong wn_12 ⟨by decide, by decide, by decide⟩ rfl ⟨by decide, by decide⟩ ⟨by decide, by decide⟩ (Nat.le_of_ble_eq_true rfl) dX12_readOne_54 (fun x25 M26 h => ?_)
      replace h := b_wp_two h
      obtain ⟨g27, h⟩ := b_wp_g h
      refine v_zreturn rfl g27 dX12_readOne_57 ⟨by decide, by decide⟩ ?_
      exact ⟨_, rfl, h⟩
noncomputable def F_X12_readOne_L2 (M : bM) : Option (Int × bM) :=
  b_bind (b_loop (fun t => F_X12_readOne_L2_s2 t.1 t.2) (0, M)) (fun t => F_X12_readOne_L2_b36 (t.1) (t.2))
theorem t_X12_readOne_L2 {l : Launch} {E : bE} {Q : (Int × bM) → Prop} {M : bM} (hfg : b_fg E) (h : b_wp (F_X12_readOne_L2 M) (Q)) : V l E xX12_readOne_L2 (0, 0) 0 [(0, bR 11)] [] M (b_pI Q) := by
  unfold F_X12_readOne_L2 at h
  refine v_iconst ⟨by decide, by decide⟩ dX12_readOne_0 ?_
  refine v_istore_n (g := 1) (i := 1) (ls' := [(1, bI _), (0, bR _)]) rfl (by decide) dX12_readOne_1 rfl ?_
  refine v_sub (ls2 := [(0, bR _), (1, bI _)]) [1, 0] rfl ?_
  refine l_X12_readOne_L2_2 hfg (b_wp_m (fun t h => ?_) (b_wp_b h))
  show V l E xX12_readOne_L2 (0, 0) 36 [(0, bR 11), (1, bI _)] [] _ (b_pI Q)
  exact t_X12_readOne_L2_b36 hfg h
theorem cf_X12_readOne_L2 {l : Launch} {E : bE} {M : bM} (hfg : b_fg E) {Q : (Int × bM) → Prop} (h : b_wp (F_X12_readOne_L2 M) Q) : b_C l E xX12_readOne_L2 yX12_readOne [bR 11] M (b_pI Q) := b_met (by decide) ⟨rfl, rfl⟩ (Nat.le_of_ble_eq_true rfl) (fun _ _ => t_X12_readOne_L2 hfg h)
abbrev xX12_readAll_L2 : bX := ("BurntHallModel", prog_14_method_62_code, 1, (Option.some Jvm.ClassFile.FieldType.boolean), b_rm 20 0 0, 0, "readAll")
abbrev A_X12_readAll_L2_9 (l : Launch) (E : bE) (Q : (Int × bM) → Prop) : (bM) → Prop := (fun t : bM => V l E xX12_readAll_L2 (0, 0) 9 [(0, bR 11)] [] t (b_pI Q))
abbrev X_X12_readAll_L2_9 (l : Launch) (E : bE) (Q : (Int × bM) → Prop) : ((bM) ⊕ (Int × bM)) → Prop := (Sum.elim (fun t : bM => V l E xX12_readAll_L2 (0, 0) 47 [] [] t (b_pI Q)) Q)
noncomputable def F_X12_readAll_L2_s9 (M : bM) : Option ((bM) ⊕ ((bM) ⊕ (Int × bM))) :=
  if (M 11 3) = 1 then (if (M 11 4) = 19 then (b_bind (F_X12_scan M) (fun M6 => b_bind (F_X12_readOne_L2 M6) (fun t => b_two t (fun x7 M8 => if x7 = 0 then (some (.inr (.inr (0, M8)))) else (b_bind (F_X12_addStep (-1) M8) (fun M10 => some (.inl (M10)))))))) else (some (.inr (.inl (M))))) else (some (.inr (.inl (M))))
theorem t_X12_readAll_L2_s9 {l : Launch} {E : bE} {Q : (Int × bM) → Prop} {M : bM} (hfg : b_fg E) (h : b_wp (F_X12_readAll_L2_s9 M) (Sum.elim (A_X12_readAll_L2_9 l E Q ) (X_X12_readAll_L2_9 l E Q ))) : V l E xX12_readAll_L2 (0, 0) 9 [(0, bR 11)] [] M (b_pI Q) := by
  unfold F_X12_readAll_L2_s9 at h
  refine v_aload_n (f := 0) 0 rfl dX12_readAll_9 ?_
  refine v_getI (kf := 3) (kz := 3) rfl kd_11 rfl ⟨by decide, by decide⟩ rfl wf_12_316 dX12_readAll_10 ?_
  refine v_iconst ⟨by decide, by decide⟩ dX12_readAll_13 ?_
  refine v_icmp_ne (tgt := 47) dX12_readAll_14 (by decide) (fun c4 => ?_) (fun c4 => ?_)
  · replace h := b_wp_f c4 h
    refine v_sub (ls2 := []) [] rfl ?_
    exact h
  · replace h := b_wp_t c4 h
    refine v_aload_n (f := 0) 0 rfl dX12_readAll_17 ?_
    refine v_getI (kf := 4) (kz := 4) rfl kd_11 rfl ⟨by decide, by decide⟩ rfl wf_12_313 dX12_readAll_18 ?_
    refine v_bipush ⟨by decide, by decide⟩ (by decide) dX12_readAll_21 ?_
    refine v_icmp_ne (tgt := 47) dX12_readAll_23 (by decide) (fun c5 => ?_) (fun c5 => ?_)
    · replace h := b_wp_f c5 h
      refine v_sub (ls2 := []) [] rfl ?_
      exact h
    · replace h := b_wp_t c5 h
      refine v_aload_n (f := 0) 0 rfl dX12_readAll_26 ?_
      refine v_cVV (nA := 0) (As := []) (ix := 292) (cf_X12_scan hfg (b_wp_b h)) rfl kd_11 rfl rfl wc_X12_scan wm_12_292 wi_X12_scan ws_X12_scan wn_12 ⟨by decide, by decide, by decide⟩ rfl ⟨by decide, by decide⟩ ⟨by decide, by decide⟩ (Nat.le_of_ble_eq_true rfl) dX12_readAll_27 (fun M6 h => ?_)
      refine v_aload_n (f := 0) 0 rfl dX12_readAll_30 ?_
      refine v_cVI (nA := 0) (As := []) (ix := 463) (cf_X12_readOne_L2 hfg (b_wp_b h)) rfl kd_11 rfl rfl wc_X12_readOne wm_12_463 wi_X12_readOne ws_X12_readOne wn_12 ⟨by decide, by decide, by decide⟩ rfl ⟨by decide, by decide⟩ ⟨by decide, by decide⟩ (Nat.le_of_ble_eq_true rfl) dX12_readAll_31 (fun x7 M8 h => ?_)
      replace h := b_wp_two h
      refine v_if_ne (tgt := 39) dX12_readAll_34 (by decide) (fun c9 => ?_) (fun c9 => ?_)
      · replace h := b_wp_f c9 h
        refine v_aload_n (f := 0) 0 rfl dX12_readAll_39 ?_
        refine v_iconst ⟨by decide, by decide⟩ dX12_readAll_40 ?_
        refine v_cVV (nA := 1) (As := [bI _]) (ix := 448) (cf_X12_addStep (b_wp_b h)) rfl kd_11 rfl rfl wc_X12_addStep wm_12_448 wi_X12_addStep ws_X12_addStep wn_12 ⟨by decide, by decide, by decide⟩ rfl ⟨by decide, by decide⟩ ⟨by decide, by decide⟩ (Nat.le_of_ble_eq_true rfl) dX12_readAll_41 (fun M10 h => ?_)
        refine v_goto (tgt := 9) dX12_readAll_44 (by decide) ?_
        exact h
      · replace h := b_wp_t c9 h
        refine v_iconst ⟨by decide, by decide⟩ dX12_readAll_37 ?_
        refine v_zreturn rfl (Or.inl rfl) dX12_readAll_38 ⟨by decide, by decide⟩ ?_
        exact ⟨_, rfl, h⟩
theorem l_X12_readAll_L2_9 {l : Launch} {E : bE} {Q : (Int × bM) → Prop} (hfg : b_fg E) {s : bM} (h : b_wp (b_loop (fun t => F_X12_readAll_L2_s9 t) s) (X_X12_readAll_L2_9 l E Q )) : A_X12_readAll_L2_9 l E Q  s := b_loop_wp (fun t h => t_X12_readAll_L2_s9 hfg h) s h
noncomputable def F_X12_readAll_L2_b47 (M : bM) : Option (Int × bM) :=
  some (1, M)
theorem t_X12_readAll_L2_b47 {l : Launch} {E : bE} {Q : (Int × bM) → Prop} {M : bM} (hfg : b_fg E) (h : b_wp (F_X12_readAll_L2_b47 M) (Q)) : V l E xX12_readAll_L2 (0, 0) 47 [] [] M (b_pI Q) := by
  unfold F_X12_readAll_L2_b47 at h
  refine v_iconst ⟨by decide, by decide⟩ dX12_readAll_47 ?_
  refine v_zreturn rfl (Or.inr rfl) dX12_readAll_48 ⟨by decide, by decide⟩ ?_
  exact ⟨_, rfl, h⟩
noncomputable def F_X12_readAll_L2 (M : bM) : Option (Int × bM) :=
  b_bind (F_X12_readOne_L2 M) (fun t => b_two t (fun x1 M2 => if x1 = 0 then (some (0, M2)) else (b_bind (b_loop (fun t => F_X12_readAll_L2_s9 t) (M2)) (Sum.elim (fun t => F_X12_readAll_L2_b47 t) some))))
theorem t_X12_readAll_L2 {l : Launch} {E : bE} {Q : (Int × bM) → Prop} {M : bM} (hfg : b_fg E) (h : b_wp (F_X12_readAll_L2 M) (Q)) : V l E xX12_readAll_L2 (0, 0) 0 [(0, bR 11)] [] M (b_pI Q) := by
  unfold F_X12_readAll_L2 at h
  refine v_aload_n (f := 0) 0 rfl dX12_readAll_0 ?_
  refine v_cVI (nA := 0) (As := []) (ix := 463) (cf_X12_readOne_L2 hfg (b_wp_b h)) rfl kd_11 rfl rfl wc_X12_readOne wm_12_463 wi_X12_readOne ws_X12_readOne wn_12 ⟨by decide, by decide, by decide⟩ rfl ⟨by decide, by decide⟩ ⟨by decide, by decide⟩ (Nat.le_of_ble_eq_true rfl) dX12_readAll_1 (fun x1 M2 h => ?_)
  replace h := b_wp_two h
  refine v_if_ne (tgt := 9) dX12_readAll_4 (by decide) (fun c3 => ?_) (fun c3 => ?_)
  · replace h := b_wp_f c3 h
    refine l_X12_readAll_L2_9 hfg (b_wp_m (fun t h => ?_) (b_wp_b h))
    cases t with
    | inr o => exact h
    | inl t =>
      show V l E xX12_readAll_L2 (0, 0) 47 [] [] _ (b_pI Q)
      replace h := b_wp_inl h
      exact t_X12_readAll_L2_b47 hfg h
  · replace h := b_wp_t c3 h
    refine v_iconst ⟨by decide, by decide⟩ dX12_readAll_7 ?_
    refine v_zreturn rfl (Or.inl rfl) dX12_readAll_8 ⟨by decide, by decide⟩ ?_
    exact ⟨_, rfl, h⟩
theorem cf_X12_readAll_L2 {l : Launch} {E : bE} {M : bM} (hfg : b_fg E) {Q : (Int × bM) → Prop} (h : b_wp (F_X12_readAll_L2 M) Q) : b_C l E xX12_readAll_L2 yX12_readAll [bR 11] M (b_pI Q) := b_met (by decide) ⟨rfl, rfl⟩ (Nat.le_of_ble_eq_true rfl) (fun _ _ => t_X12_readAll_L2 hfg h)
abbrev xX12_readCond_L2 : bX := ("BurntHallModel", prog_14_method_63_code, 1, (Option.some Jvm.ClassFile.FieldType.boolean), b_rm 21 0 0, 0, "readCond")
abbrev A_X12_readCond_L2_9 (l : Launch) (E : bE) (Q : (Int × bM) → Prop) : (bM) → Prop := (fun t : bM => V l E xX12_readCond_L2 (0, 0) 9 [(0, bR 11)] [] t (b_pI Q))
abbrev X_X12_readCond_L2_9 (l : Launch) (E : bE) (Q : (Int × bM) → Prop) : ((bM) ⊕ (Int × bM)) → Prop := (Sum.elim (fun t : bM => V l E xX12_readCond_L2 (0, 0) 48 [] [] t (b_pI Q)) Q)
noncomputable def F_X12_readCond_L2_s9 (M : bM) : Option ((bM) ⊕ ((bM) ⊕ (Int × bM))) :=
  if (M 11 3) = 1 then (if (M 11 4) = 18 then (b_bind (F_X12_scan M) (fun M6 => b_bind (F_X12_readAll_L2 M6) (fun t => b_two t (fun x7 M8 => if x7 = 0 then (some (.inr (.inr (0, M8)))) else (b_bind (F_X12_addStep (-2) M8) (fun M10 => some (.inl (M10)))))))) else (some (.inr (.inl (M))))) else (some (.inr (.inl (M))))
theorem t_X12_readCond_L2_s9 {l : Launch} {E : bE} {Q : (Int × bM) → Prop} {M : bM} (hfg : b_fg E) (h : b_wp (F_X12_readCond_L2_s9 M) (Sum.elim (A_X12_readCond_L2_9 l E Q ) (X_X12_readCond_L2_9 l E Q ))) : V l E xX12_readCond_L2 (0, 0) 9 [(0, bR 11)] [] M (b_pI Q) := by
  unfold F_X12_readCond_L2_s9 at h
  refine v_aload_n (f := 0) 0 rfl dX12_readCond_9 ?_
  refine v_getI (kf := 3) (kz := 3) rfl kd_11 rfl ⟨by decide, by decide⟩ rfl wf_12_316 dX12_readCond_10 ?_
  refine v_iconst ⟨by decide, by decide⟩ dX12_readCond_13 ?_
  refine v_icmp_ne (tgt := 48) dX12_readCond_14 (by decide) (fun c4 => ?_) (fun c4 => ?_)
  · replace h := b_wp_f c4 h
    refine v_sub (ls2 := []) [] rfl ?_
    exact h
  · replace h := b_wp_t c4 h
    refine v_aload_n (f := 0) 0 rfl dX12_readCond_17 ?_
    refine v_getI (kf := 4) (kz := 4) rfl kd_11 rfl ⟨by decide, by decide⟩ rfl wf_12_313 dX12_readCond_18 ?_
    refine v_bipush ⟨by decide, by decide⟩ (by decide) dX12_readCond_21 ?_
    refine v_icmp_ne (tgt := 48) dX12_readCond_23 (by decide) (fun c5 => ?_) (fun c5 => ?_)
    · replace h := b_wp_f c5 h
      refine v_sub (ls2 := []) [] rfl ?_
      exact h
    · replace h := b_wp_t c5 h
      refine v_aload_n (f := 0) 0 rfl dX12_readCond_26 ?_
      refine v_cVV (nA := 0) (As := []) (ix := 292) (cf_X12_scan hfg (b_wp_b h)) rfl kd_11 rfl rfl wc_X12_scan wm_12_292 wi_X12_scan ws_X12_scan wn_12 ⟨by decide, by decide, by decide⟩ rfl ⟨by decide, by decide⟩ ⟨by decide, by decide⟩ (Nat.le_of_ble_eq_true rfl) dX12_readCond_27 (fun M6 h => ?_)
      refine v_aload_n (f := 0) 0 rfl dX12_readCond_30 ?_
      refine v_cVI (nA := 0) (As := []) (ix := 466) (cf_X12_readAll_L2 hfg (b_wp_b h)) rfl kd_11 rfl rfl wc_X12_readAll wm_12_466 wi_X12_readAll ws_X12_readAll wn_12 ⟨by decide, by decide, by decide⟩ rfl ⟨by decide, by decide⟩ ⟨by decide, by decide⟩ (Nat.le_of_ble_eq_true rfl) dX12_readCond_31 (fun x7 M8 h => ?_)
      replace h := b_wp_two h
      refine v_if_ne (tgt := 39) dX12_readCond_34 (by decide) (fun c9 => ?_) (fun c9 => ?_)
      · replace h := b_wp_f c9 h
        refine v_aload_n (f := 0) 0 rfl dX12_readCond_39 ?_
        refine v_bipush ⟨by decide, by decide⟩ (by decide) dX12_readCond_40 ?_
        refine v_cVV (nA := 1) (As := [bI _]) (ix := 448) (cf_X12_addStep (b_wp_b h)) rfl kd_11 rfl rfl wc_X12_addStep wm_12_448 wi_X12_addStep ws_X12_addStep wn_12 ⟨by decide, by decide, by decide⟩ rfl ⟨by decide, by decide⟩ ⟨by decide, by decide⟩ (Nat.le_of_ble_eq_true rfl) dX12_readCond_42 (fun M10 h => ?_)
        refine v_goto (tgt := 9) dX12_readCond_45 (by decide) ?_
        exact h
      · replace h := b_wp_t c9 h
        refine v_iconst ⟨by decide, by decide⟩ dX12_readCond_37 ?_
        refine v_zreturn rfl (Or.inl rfl) dX12_readCond_38 ⟨by decide, by decide⟩ ?_
        exact ⟨_, rfl, h⟩
theorem l_X12_readCond_L2_9 {l : Launch} {E : bE} {Q : (Int × bM) → Prop} (hfg : b_fg E) {s : bM} (h : b_wp (b_loop (fun t => F_X12_readCond_L2_s9 t) s) (X_X12_readCond_L2_9 l E Q )) : A_X12_readCond_L2_9 l E Q  s := b_loop_wp (fun t h => t_X12_readCond_L2_s9 hfg h) s h
noncomputable def F_X12_readCond_L2_b48 (M : bM) : Option (Int × bM) :=
  some (1, M)
theorem t_X12_readCond_L2_b48 {l : Launch} {E : bE} {Q : (Int × bM) → Prop} {M : bM} (hfg : b_fg E) (h : b_wp (F_X12_readCond_L2_b48 M) (Q)) : V l E xX12_readCond_L2 (0, 0) 48 [] [] M (b_pI Q) := by
  unfold F_X12_readCond_L2_b48 at h
  refine v_iconst ⟨by decide, by decide⟩ dX12_readCond_48 ?_
  refine v_zreturn rfl (Or.inr rfl) dX12_readCond_49 ⟨by decide, by decide⟩ ?_
  exact ⟨_, rfl, h⟩
noncomputable def F_X12_readCond_L2 (M : bM) : Option (Int × bM) :=
  b_bind (F_X12_readAll_L2 M) (fun t => b_two t (fun x1 M2 => if x1 = 0 then (some (0, M2)) else (b_bind (b_loop (fun t => F_X12_readCond_L2_s9 t) (M2)) (Sum.elim (fun t => F_X12_readCond_L2_b48 t) some))))
theorem t_X12_readCond_L2 {l : Launch} {E : bE} {Q : (Int × bM) → Prop} {M : bM} (hfg : b_fg E) (h : b_wp (F_X12_readCond_L2 M) (Q)) : V l E xX12_readCond_L2 (0, 0) 0 [(0, bR 11)] [] M (b_pI Q) := by
  unfold F_X12_readCond_L2 at h
  refine v_aload_n (f := 0) 0 rfl dX12_readCond_0 ?_
  refine v_cVI (nA := 0) (As := []) (ix := 466) (cf_X12_readAll_L2 hfg (b_wp_b h)) rfl kd_11 rfl rfl wc_X12_readAll wm_12_466 wi_X12_readAll ws_X12_readAll wn_12 ⟨by decide, by decide, by decide⟩ rfl ⟨by decide, by decide⟩ ⟨by decide, by decide⟩ (Nat.le_of_ble_eq_true rfl) dX12_readCond_1 (fun x1 M2 h => ?_)
  replace h := b_wp_two h
  refine v_if_ne (tgt := 9) dX12_readCond_4 (by decide) (fun c3 => ?_) (fun c3 => ?_)
  · replace h := b_wp_f c3 h
    refine l_X12_readCond_L2_9 hfg (b_wp_m (fun t h => ?_) (b_wp_b h))
    cases t with
    | inr o => exact h
    | inl t =>
      show V l E xX12_readCond_L2 (0, 0) 48 [] [] _ (b_pI Q)
      replace h := b_wp_inl h
      exact t_X12_readCond_L2_b48 hfg h
  · replace h := b_wp_t c3 h
    refine v_iconst ⟨by decide, by decide⟩ dX12_readCond_7 ?_
    refine v_zreturn rfl (Or.inl rfl) dX12_readCond_8 ⟨by decide, by decide⟩ ?_
    exact ⟨_, rfl, h⟩
theorem cf_X12_readCond_L2 {l : Launch} {E : bE} {M : bM} (hfg : b_fg E) {Q : (Int × bM) → Prop} (h : b_wp (F_X12_readCond_L2 M) Q) : b_C l E xX12_readCond_L2 yX12_readCond [bR 11] M (b_pI Q) := b_met (by decide) ⟨rfl, rfl⟩ (Nat.le_of_ble_eq_true rfl) (fun _ _ => t_X12_readCond_L2 hfg h)
abbrev xX12_readOne_L1 : bX := ("BurntHallModel", prog_14_method_61_code, 2, (Option.some Jvm.ClassFile.FieldType.boolean), b_rm 22 0 0, 0, "readOne")
abbrev A_X12_readOne_L1_2 (l : Launch) (E : bE) (Q : (Int × bM) → Prop) : (Int × bM) → Prop := (fun t : Int × bM => V l E xX12_readOne_L1 (0, 0) 2 [(0, bR 11), (1, bI (t.1))] [] t.2 (b_pI Q))
abbrev X_X12_readOne_L1_2 (l : Launch) (E : bE) (Q : (Int × bM) → Prop) : (Int × bM) → Prop := (fun t : Int × bM => V l E xX12_readOne_L1 (0, 0) 36 [(0, bR 11), (1, bI (t.1))] [] t.2 (b_pI Q))
noncomputable def F_X12_readOne_L1_b28 (u0 : Int) (M : bM) : Option ((Int × bM) ⊕ (Int × bM)) :=
  b_bind (F_X12_scan M) (fun M4 => some (.inl (u0, M4)))
theorem t_X12_readOne_L1_b28 {l : Launch} {E : bE} {Q : (Int × bM) → Prop} {u0 : Int} {M : bM} (hfg : b_fg E) (h : b_wp (F_X12_readOne_L1_b28 u0 M) (Sum.elim (A_X12_readOne_L1_2 l E Q ) (X_X12_readOne_L1_2 l E Q ))) : V l E xX12_readOne_L1 (0, 0) 28 [(0, bR 11)] [bI u0] M (b_pI Q) := by
  unfold F_X12_readOne_L1_b28 at h
  refine v_istore_n (g := 1) (i := 1) (ls' := [(1, bI _), (0, bR _)]) rfl (by decide) dX12_readOne_28 rfl ?_
  refine v_aload_n (f := 0) 1 rfl dX12_readOne_29 ?_
  refine v_cVV (nA := 0) (As := []) (ix := 292) (cf_X12_scan hfg (b_wp_b h)) rfl kd_11 rfl rfl wc_X12_scan wm_12_292 wi_X12_scan ws_X12_scan wn_12 ⟨by decide, by decide, by decide⟩ rfl ⟨by decide, by decide⟩ ⟨by decide, by decide⟩ (Nat.le_of_ble_eq_true rfl) dX12_readOne_30 (fun M4 h => ?_)
  refine v_goto (tgt := 2) dX12_readOne_33 (by decide) ?_
  refine v_sub (ls2 := [(0, bR _), (1, bI _)]) [1, 0] rfl ?_
  exact h
noncomputable def F_X12_readOne_L1_s2 (v1 : Int) (M : bM) : Option ((Int × bM) ⊕ (Int × bM)) :=
  if (M 11 3) = 1 then (if (M 11 4) = 20 then (if v1 = 0 then (F_X12_readOne_L1_b28 1 M) else (F_X12_readOne_L1_b28 0 M)) else (some (.inr (v1, M)))) else (some (.inr (v1, M)))
theorem t_X12_readOne_L1_s2 {l : Launch} {E : bE} {Q : (Int × bM) → Prop} {v1 : Int} {M : bM} (hfg : b_fg E) (h : b_wp (F_X12_readOne_L1_s2 v1 M) (Sum.elim (A_X12_readOne_L1_2 l E Q ) (X_X12_readOne_L1_2 l E Q ))) : V l E xX12_readOne_L1 (0, 0) 2 [(0, bR 11), (1, bI v1)] [] M (b_pI Q) := by
  unfold F_X12_readOne_L1_s2 at h
  refine v_aload_n (f := 0) 0 rfl dX12_readOne_2 ?_
  refine v_getI (kf := 3) (kz := 3) rfl kd_11 rfl ⟨by decide, by decide⟩ rfl wf_12_316 dX12_readOne_3 ?_
  refine v_iconst ⟨by decide, by decide⟩ dX12_readOne_6 ?_
  refine v_icmp_ne (tgt := 36) dX12_readOne_7 (by decide) (fun c1 => ?_) (fun c1 => ?_)
  · replace h := b_wp_f c1 h
    exact h
  · replace h := b_wp_t c1 h
    refine v_aload_n (f := 0) 0 rfl dX12_readOne_10 ?_
    refine v_getI (kf := 4) (kz := 4) rfl kd_11 rfl ⟨by decide, by decide⟩ rfl wf_12_313 dX12_readOne_11 ?_
    refine v_bipush ⟨by decide, by decide⟩ (by decide) dX12_readOne_14 ?_
    refine v_icmp_ne (tgt := 36) dX12_readOne_16 (by decide) (fun c2 => ?_) (fun c2 => ?_)
    · replace h := b_wp_f c2 h
      exact h
    · replace h := b_wp_t c2 h
      refine v_iload_n (f := 1) 1 rfl dX12_readOne_19 ?_
      refine v_if_ne (tgt := 27) dX12_readOne_20 (by decide) (fun c3 => ?_) (fun c3 => ?_)
      · replace h := b_wp_f c3 h
        refine v_iconst ⟨by decide, by decide⟩ dX12_readOne_27 ?_
        refine v_sub (ls2 := [(0, bR _)]) [0] rfl ?_
        exact t_X12_readOne_L1_b28 hfg h
      · replace h := b_wp_t c3 h
        refine v_iconst ⟨by decide, by decide⟩ dX12_readOne_23 ?_
        refine v_goto (tgt := 28) dX12_readOne_24 (by decide) ?_
        refine v_sub (ls2 := [(0, bR _)]) [0] rfl ?_
        exact t_X12_readOne_L1_b28 hfg h
theorem l_X12_readOne_L1_2 {l : Launch} {E : bE} {Q : (Int × bM) → Prop} (hfg : b_fg E) {s : Int × bM} (h : b_wp (b_loop (fun t => F_X12_readOne_L1_s2 t.1 t.2) s) (X_X12_readOne_L1_2 l E Q )) : A_X12_readOne_L1_2 l E Q  s := b_loop_wp (fun t h => t_X12_readOne_L1_s2 hfg h) s h
noncomputable def F_X12_readOne_L1_b122 (v1 : Int) (M : bM) : Option (Int × bM) :=
  if v1 = 0 then (some (1, M)) else (b_bind (F_X12_addStep (-3) M) (fun M10 => some (1, M10)))
theorem t_X12_readOne_L1_b122 {l : Launch} {E : bE} {Q : (Int × bM) → Prop} {v1 : Int} {M : bM} (hfg : b_fg E) (h : b_wp (F_X12_readOne_L1_b122 v1 M) (Q)) : V l E xX12_readOne_L1 (0, 0) 122 [(0, bR 11), (1, bI v1)] [] M (b_pI Q) := by
  unfold F_X12_readOne_L1_b122 at h
  refine v_iload_n (f := 1) 1 rfl dX12_readOne_122 ?_
  refine v_if_eq (tgt := 132) dX12_readOne_123 (by decide) (fun c9 => ?_) (fun c9 => ?_)
  · replace h := b_wp_t c9 h
    refine v_iconst ⟨by decide, by decide⟩ dX12_readOne_132 ?_
    refine v_zreturn rfl (Or.inr rfl) dX12_readOne_133 ⟨by decide, by decide⟩ ?_
    exact ⟨_, rfl, h⟩
  · replace h := b_wp_f c9 h
    refine v_aload_n (f := 0) 0 rfl dX12_readOne_126 ?_
    refine v_bipush ⟨by decide, by decide⟩ (by decide) dX12_readOne_127 ?_
    refine v_cVV (nA := 1) (As := [bI _]) (ix := 448) (cf_X12_addStep (b_wp_b h)) rfl kd_11 rfl rfl wc_X12_addStep wm_12_448 wi_X12_addStep ws_X12_addStep wn_12 ⟨by decide, by decide, by decide⟩ rfl ⟨by decide, by decide⟩ ⟨by decide, by decide⟩ (Nat.le_of_ble_eq_true rfl) dX12_readOne_129 (fun M10 h => ?_)
    refine v_iconst ⟨by decide, by decide⟩ dX12_readOne_132 ?_
    refine v_zreturn rfl (Or.inr rfl) dX12_readOne_133 ⟨by decide, by decide⟩ ?_
    exact ⟨_, rfl, h⟩
noncomputable def F_X12_readOne_L1_b36 (v1 : Int) (M : bM) : Option (Int × bM) :=
  if (M 11 3) = 5 then (if (M 11 49) = 5 then (b_bind (F_X12_wrong 4 M) (fun t => b_two t (fun x25 M26 => b_g (x25 = 0 ∨ x25 = 1) (some (x25, M26))))) else (b_g (b_i32 ((M 11 49) + 1)) (b_let (b_up M 11 49 ((M 11 49) + 1)) (fun M13 => b_bind (F_X12_scan M13) (fun M14 => b_bind (F_X12_readCond_L2 M14) (fun t => b_two t (fun x15 M16 => if x15 = 0 then (some (0, M16)) else (if (M16 11 3) = 6 then (b_g (b_i32 ((M16 11 49) - 1)) (b_let (b_up M16 11 49 ((M16 11 49) - 1)) (fun M20 => b_bind (F_X12_scan M20) (fun M21 => F_X12_readOne_L1_b122 v1 M21)))) else (b_bind (F_X12_wrong 1 M16) (fun t => b_two t (fun x22 M23 => b_g (x22 = 0 ∨ x22 = 1) (some (x22, M23))))))))))))) else (b_bind (F_X12_readTest M) (fun t => b_two t (fun x6 M7 => if x6 = 0 then (some (0, M7)) else (F_X12_readOne_L1_b122 v1 M7))))
theorem t_X12_readOne_L1_b36 {l : Launch} {E : bE} {Q : (Int × bM) → Prop} {v1 : Int} {M : bM} (hfg : b_fg E) (h : b_wp (F_X12_readOne_L1_b36 v1 M) (Q)) : V l E xX12_readOne_L1 (0, 0) 36 [(0, bR 11), (1, bI v1)] [] M (b_pI Q) := by
  unfold F_X12_readOne_L1_b36 at h
  refine v_aload_n (f := 0) 0 rfl dX12_readOne_36 ?_
  refine v_getI (kf := 3) (kz := 3) rfl kd_11 rfl ⟨by decide, by decide⟩ rfl wf_12_316 dX12_readOne_37 ?_
  refine v_iconst ⟨by decide, by decide⟩ dX12_readOne_40 ?_
  refine v_icmp_ne (tgt := 113) dX12_readOne_41 (by decide) (fun c5 => ?_) (fun c5 => ?_)
  · replace h := b_wp_f c5 h
    refine v_aload_n (f := 0) 0 rfl dX12_readOne_113 ?_
    refine v_cVI (nA := 0) (As := []) (ix := 460) (cf_X12_readTest hfg (b_wp_b h)) rfl kd_11 rfl rfl wc_X12_readTest wm_12_460 wi_X12_readTest ws_X12_readTest wn_12 ⟨by decide, by decide, by decide⟩ rfl ⟨by decide, by decide⟩ ⟨by decide, by decide⟩ (Nat.le_of_ble_eq_true rfl) dX12_readOne_114 (fun x6 M7 h => ?_)
    replace h := b_wp_two h
    refine v_if_ne (tgt := 122) dX12_readOne_117 (by decide) (fun c8 => ?_) (fun c8 => ?_)
    · replace h := b_wp_f c8 h
      exact t_X12_readOne_L1_b122 hfg h
    · replace h := b_wp_t c8 h
      refine v_iconst ⟨by decide, by decide⟩ dX12_readOne_120 ?_
      refine v_zreturn rfl (Or.inl rfl) dX12_readOne_121 ⟨by decide, by decide⟩ ?_
      exact ⟨_, rfl, h⟩
  · replace h := b_wp_t c5 h
    refine v_aload_n (f := 0) 0 rfl dX12_readOne_44 ?_
    refine v_getI (kf := 49) (kz := 49) rfl kd_11 rfl ⟨by decide, by decide⟩ rfl wf_12_454 dX12_readOne_45 ?_
    refine v_iconst ⟨by decide, by decide⟩ dX12_readOne_48 ?_
    refine v_icmp_ne (tgt := 58) dX12_readOne_49 (by decide) (fun c11 => ?_) (fun c11 => ?_)
    · replace h := b_wp_f c11 h
      obtain ⟨g12, h⟩ := b_wp_g h
      refine v_aload_n (f := 0) 0 rfl dX12_readOne_58 ?_
      refine v_dup rfl dX12_readOne_59 ?_
      refine v_getI (kf := 49) (kz := 49) rfl kd_11 rfl ⟨by decide, by decide⟩ rfl wf_12_454 dX12_readOne_60 ?_
      refine v_iconst ⟨by decide, by decide⟩ dX12_readOne_63 ?_
      refine v_iaddN g12 dX12_readOne_64 ?_
      refine v_putI (kf := 49) (kz := 49) rfl kd_11 rfl ⟨by decide, by decide⟩ rfl wf_12_454 rfl rfl dX12_readOne_65 ?_
      replace h := b_wp_l h
      refine v_aload_n (f := 0) 0 rfl dX12_readOne_68 ?_
      refine v_cVV (nA := 0) (As := []) (ix := 292) (cf_X12_scan hfg (b_wp_b h)) rfl kd_11 rfl rfl wc_X12_scan wm_12_292 wi_X12_scan ws_X12_scan wn_12 ⟨by decide, by decide, by decide⟩ rfl ⟨by decide, by decide⟩ ⟨by decide, by decide⟩ (Nat.le_of_ble_eq_true rfl) dX12_readOne_69 (fun M14 h => ?_)
      refine v_aload_n (f := 0) 0 rfl dX12_readOne_72 ?_
      refine v_cVI (nA := 0) (As := []) (ix := 457) (cf_X12_readCond_L2 hfg (b_wp_b h)) rfl kd_11 rfl rfl wc_X12_readCond wm_12_457 wi_X12_readCond ws_X12_readCond wn_12 ⟨by decide, by decide, by decide⟩ rfl ⟨by decide, by decide⟩ ⟨by decide, by decide⟩ (Nat.le_of_ble_eq_true rfl) dX12_readOne_73 (fun x15 M16 h => ?_)
      replace h := b_wp_two h
      refine v_if_ne (tgt := 81) dX12_readOne_76 (by decide) (fun c17 => ?_) (fun c17 => ?_)
      · replace h := b_wp_f c17 h
        refine v_aload_n (f := 0) 0 rfl dX12_readOne_81 ?_
        refine v_getI (kf := 3) (kz := 3) rfl kd_11 rfl ⟨by decide, by decide⟩ rfl wf_12_316 dX12_readOne_82 ?_
        refine v_bipush ⟨by decide, by decide⟩ (by decide) dX12_readOne_85 ?_
        refine v_icmp_eq (tgt := 96) dX12_readOne_87 (by decide) (fun c18 => ?_) (fun c18 => ?_)
        · replace h := b_wp_t c18 h
          obtain ⟨g19, h⟩ := b_wp_g h
          refine v_aload_n (f := 0) 0 rfl dX12_readOne_96 ?_
          refine v_dup rfl dX12_readOne_97 ?_
          refine v_getI (kf := 49) (kz := 49) rfl kd_11 rfl ⟨by decide, by decide⟩ rfl wf_12_454 dX12_readOne_98 ?_
          refine v_iconst ⟨by decide, by decide⟩ dX12_readOne_101 ?_
          refine v_isubN g19 dX12_readOne_102 ?_
          refine v_putI (kf := 49) (kz := 49) rfl kd_11 rfl ⟨by decide, by decide⟩ rfl wf_12_454 rfl rfl dX12_readOne_103 ?_
          replace h := b_wp_l h
          refine v_aload_n (f := 0) 0 rfl dX12_readOne_106 ?_
          refine v_cVV (nA := 0) (As := []) (ix := 292) (cf_X12_scan hfg (b_wp_b h)) rfl kd_11 rfl rfl wc_X12_scan wm_12_292 wi_X12_scan ws_X12_scan wn_12 ⟨by decide, by decide, by decide⟩ rfl ⟨by decide, by decide⟩ ⟨by decide, by decide⟩ (Nat.le_of_ble_eq_true rfl) dX12_readOne_107 (fun M21 h => ?_)
          refine v_goto (tgt := 122) dX12_readOne_110 (by decide) ?_
          exact t_X12_readOne_L1_b122 hfg h
        · replace h := b_wp_f c18 h
          refine v_aload_n (f := 0) 0 rfl dX12_readOne_90 ?_
          refine v_iconst ⟨by decide, by decide⟩ dX12_readOne_91 ?_
          refine v_cVI (nA := 1) (As := [bI _]) (ix := 389) (cf_X12_wrong (b_wp_b h)) rfl kd_11 rfl rfl wc_X12_wrong wm_12_389 wi_X12_wrong ws_X12_wrong wn_12 ⟨by decide, by decide, by decide⟩ rfl ⟨by decide, by decide⟩ ⟨by decide, by decide⟩ (Nat.le_of_ble_eq_true rfl) dX12_readOne_92 (fun x22 M23 h => ?_)
          replace h := b_wp_two h
          obtain ⟨g24, h⟩ := b_wp_g h
          refine v_zreturn rfl g24 dX12_readOne_95 ⟨by decide, by decide⟩ ?_
          exact ⟨_, rfl, h⟩
      · replace h := b_wp_t c17 h
        refine v_iconst ⟨by decide, by decide⟩ dX12_readOne_79 ?_
        refine v_zreturn rfl (Or.inl rfl) dX12_readOne_80 ⟨by decide, by decide⟩ ?_
        exact ⟨_, rfl, h⟩
    · replace h := b_wp_t c11 h
      refine v_aload_n (f := 0) 0 rfl dX12_readOne_52 ?_
      refine v_iconst ⟨by decide, by decide⟩ dX12_readOne_53 ?_
      refine v_cVI (nA := 1) (As := [bI _]) (ix := 389) (cf_X12_wrong (b_wp_b h)) rfl kd_11 rfl rfl wc_X12_wrong wm_12_389 wi_X12_wrong ws_X12_wrong wn_12 ⟨by decide, by decide, by decide⟩ rfl ⟨by decide, by decide⟩ ⟨by decide, by decide⟩ (Nat.le_of_ble_eq_true rfl) dX12_readOne_54 (fun x25 M26 h => ?_)
      replace h := b_wp_two h
      obtain ⟨g27, h⟩ := b_wp_g h
      refine v_zreturn rfl g27 dX12_readOne_57 ⟨by decide, by decide⟩ ?_
      exact ⟨_, rfl, h⟩
noncomputable def F_X12_readOne_L1 (M : bM) : Option (Int × bM) :=
  b_bind (b_loop (fun t => F_X12_readOne_L1_s2 t.1 t.2) (0, M)) (fun t => F_X12_readOne_L1_b36 (t.1) (t.2))
theorem t_X12_readOne_L1 {l : Launch} {E : bE} {Q : (Int × bM) → Prop} {M : bM} (hfg : b_fg E) (h : b_wp (F_X12_readOne_L1 M) (Q)) : V l E xX12_readOne_L1 (0, 0) 0 [(0, bR 11)] [] M (b_pI Q) := by
  unfold F_X12_readOne_L1 at h
  refine v_iconst ⟨by decide, by decide⟩ dX12_readOne_0 ?_
  refine v_istore_n (g := 1) (i := 1) (ls' := [(1, bI _), (0, bR _)]) rfl (by decide) dX12_readOne_1 rfl ?_
  refine v_sub (ls2 := [(0, bR _), (1, bI _)]) [1, 0] rfl ?_
  refine l_X12_readOne_L1_2 hfg (b_wp_m (fun t h => ?_) (b_wp_b h))
  show V l E xX12_readOne_L1 (0, 0) 36 [(0, bR 11), (1, bI _)] [] _ (b_pI Q)
  exact t_X12_readOne_L1_b36 hfg h
theorem cf_X12_readOne_L1 {l : Launch} {E : bE} {M : bM} (hfg : b_fg E) {Q : (Int × bM) → Prop} (h : b_wp (F_X12_readOne_L1 M) Q) : b_C l E xX12_readOne_L1 yX12_readOne [bR 11] M (b_pI Q) := b_met (by decide) ⟨rfl, rfl⟩ (Nat.le_of_ble_eq_true rfl) (fun _ _ => t_X12_readOne_L1 hfg h)
abbrev xX12_readAll_L1 : bX := ("BurntHallModel", prog_14_method_62_code, 1, (Option.some Jvm.ClassFile.FieldType.boolean), b_rm 23 0 0, 0, "readAll")
abbrev A_X12_readAll_L1_9 (l : Launch) (E : bE) (Q : (Int × bM) → Prop) : (bM) → Prop := (fun t : bM => V l E xX12_readAll_L1 (0, 0) 9 [(0, bR 11)] [] t (b_pI Q))
abbrev X_X12_readAll_L1_9 (l : Launch) (E : bE) (Q : (Int × bM) → Prop) : ((bM) ⊕ (Int × bM)) → Prop := (Sum.elim (fun t : bM => V l E xX12_readAll_L1 (0, 0) 47 [] [] t (b_pI Q)) Q)
noncomputable def F_X12_readAll_L1_s9 (M : bM) : Option ((bM) ⊕ ((bM) ⊕ (Int × bM))) :=
  if (M 11 3) = 1 then (if (M 11 4) = 19 then (b_bind (F_X12_scan M) (fun M6 => b_bind (F_X12_readOne_L1 M6) (fun t => b_two t (fun x7 M8 => if x7 = 0 then (some (.inr (.inr (0, M8)))) else (b_bind (F_X12_addStep (-1) M8) (fun M10 => some (.inl (M10)))))))) else (some (.inr (.inl (M))))) else (some (.inr (.inl (M))))
theorem t_X12_readAll_L1_s9 {l : Launch} {E : bE} {Q : (Int × bM) → Prop} {M : bM} (hfg : b_fg E) (h : b_wp (F_X12_readAll_L1_s9 M) (Sum.elim (A_X12_readAll_L1_9 l E Q ) (X_X12_readAll_L1_9 l E Q ))) : V l E xX12_readAll_L1 (0, 0) 9 [(0, bR 11)] [] M (b_pI Q) := by
  unfold F_X12_readAll_L1_s9 at h
  refine v_aload_n (f := 0) 0 rfl dX12_readAll_9 ?_
  refine v_getI (kf := 3) (kz := 3) rfl kd_11 rfl ⟨by decide, by decide⟩ rfl wf_12_316 dX12_readAll_10 ?_
  refine v_iconst ⟨by decide, by decide⟩ dX12_readAll_13 ?_
  refine v_icmp_ne (tgt := 47) dX12_readAll_14 (by decide) (fun c4 => ?_) (fun c4 => ?_)
  · replace h := b_wp_f c4 h
    refine v_sub (ls2 := []) [] rfl ?_
    exact h
  · replace h := b_wp_t c4 h
    refine v_aload_n (f := 0) 0 rfl dX12_readAll_17 ?_
    refine v_getI (kf := 4) (kz := 4) rfl kd_11 rfl ⟨by decide, by decide⟩ rfl wf_12_313 dX12_readAll_18 ?_
    refine v_bipush ⟨by decide, by decide⟩ (by decide) dX12_readAll_21 ?_
    refine v_icmp_ne (tgt := 47) dX12_readAll_23 (by decide) (fun c5 => ?_) (fun c5 => ?_)
    · replace h := b_wp_f c5 h
      refine v_sub (ls2 := []) [] rfl ?_
      exact h
    · replace h := b_wp_t c5 h
      refine v_aload_n (f := 0) 0 rfl dX12_readAll_26 ?_
      refine v_cVV (nA := 0) (As := []) (ix := 292) (cf_X12_scan hfg (b_wp_b h)) rfl kd_11 rfl rfl wc_X12_scan wm_12_292 wi_X12_scan ws_X12_scan wn_12 ⟨by decide, by decide, by decide⟩ rfl ⟨by decide, by decide⟩ ⟨by decide, by decide⟩ (Nat.le_of_ble_eq_true rfl) dX12_readAll_27 (fun M6 h => ?_)
      refine v_aload_n (f := 0) 0 rfl dX12_readAll_30 ?_
      refine v_cVI (nA := 0) (As := []) (ix := 463) (cf_X12_readOne_L1 hfg (b_wp_b h)) rfl kd_11 rfl rfl wc_X12_readOne wm_12_463 wi_X12_readOne ws_X12_readOne wn_12 ⟨by decide, by decide, by decide⟩ rfl ⟨by decide, by decide⟩ ⟨by decide, by decide⟩ (Nat.le_of_ble_eq_true rfl) dX12_readAll_31 (fun x7 M8 h => ?_)
      replace h := b_wp_two h
      refine v_if_ne (tgt := 39) dX12_readAll_34 (by decide) (fun c9 => ?_) (fun c9 => ?_)
      · replace h := b_wp_f c9 h
        refine v_aload_n (f := 0) 0 rfl dX12_readAll_39 ?_
        refine v_iconst ⟨by decide, by decide⟩ dX12_readAll_40 ?_
        refine v_cVV (nA := 1) (As := [bI _]) (ix := 448) (cf_X12_addStep (b_wp_b h)) rfl kd_11 rfl rfl wc_X12_addStep wm_12_448 wi_X12_addStep ws_X12_addStep wn_12 ⟨by decide, by decide, by decide⟩ rfl ⟨by decide, by decide⟩ ⟨by decide, by decide⟩ (Nat.le_of_ble_eq_true rfl) dX12_readAll_41 (fun M10 h => ?_)
        refine v_goto (tgt := 9) dX12_readAll_44 (by decide) ?_
        exact h
      · replace h := b_wp_t c9 h
        refine v_iconst ⟨by decide, by decide⟩ dX12_readAll_37 ?_
        refine v_zreturn rfl (Or.inl rfl) dX12_readAll_38 ⟨by decide, by decide⟩ ?_
        exact ⟨_, rfl, h⟩
theorem l_X12_readAll_L1_9 {l : Launch} {E : bE} {Q : (Int × bM) → Prop} (hfg : b_fg E) {s : bM} (h : b_wp (b_loop (fun t => F_X12_readAll_L1_s9 t) s) (X_X12_readAll_L1_9 l E Q )) : A_X12_readAll_L1_9 l E Q  s := b_loop_wp (fun t h => t_X12_readAll_L1_s9 hfg h) s h
noncomputable def F_X12_readAll_L1_b47 (M : bM) : Option (Int × bM) :=
  some (1, M)
theorem t_X12_readAll_L1_b47 {l : Launch} {E : bE} {Q : (Int × bM) → Prop} {M : bM} (hfg : b_fg E) (h : b_wp (F_X12_readAll_L1_b47 M) (Q)) : V l E xX12_readAll_L1 (0, 0) 47 [] [] M (b_pI Q) := by
  unfold F_X12_readAll_L1_b47 at h
  refine v_iconst ⟨by decide, by decide⟩ dX12_readAll_47 ?_
  refine v_zreturn rfl (Or.inr rfl) dX12_readAll_48 ⟨by decide, by decide⟩ ?_
  exact ⟨_, rfl, h⟩
noncomputable def F_X12_readAll_L1 (M : bM) : Option (Int × bM) :=
  b_bind (F_X12_readOne_L1 M) (fun t => b_two t (fun x1 M2 => if x1 = 0 then (some (0, M2)) else (b_bind (b_loop (fun t => F_X12_readAll_L1_s9 t) (M2)) (Sum.elim (fun t => F_X12_readAll_L1_b47 t) some))))
theorem t_X12_readAll_L1 {l : Launch} {E : bE} {Q : (Int × bM) → Prop} {M : bM} (hfg : b_fg E) (h : b_wp (F_X12_readAll_L1 M) (Q)) : V l E xX12_readAll_L1 (0, 0) 0 [(0, bR 11)] [] M (b_pI Q) := by
  unfold F_X12_readAll_L1 at h
  refine v_aload_n (f := 0) 0 rfl dX12_readAll_0 ?_
  refine v_cVI (nA := 0) (As := []) (ix := 463) (cf_X12_readOne_L1 hfg (b_wp_b h)) rfl kd_11 rfl rfl wc_X12_readOne wm_12_463 wi_X12_readOne ws_X12_readOne wn_12 ⟨by decide, by decide, by decide⟩ rfl ⟨by decide, by decide⟩ ⟨by decide, by decide⟩ (Nat.le_of_ble_eq_true rfl) dX12_readAll_1 (fun x1 M2 h => ?_)
  replace h := b_wp_two h
  refine v_if_ne (tgt := 9) dX12_readAll_4 (by decide) (fun c3 => ?_) (fun c3 => ?_)
  · replace h := b_wp_f c3 h
    refine l_X12_readAll_L1_9 hfg (b_wp_m (fun t h => ?_) (b_wp_b h))
    cases t with
    | inr o => exact h
    | inl t =>
      show V l E xX12_readAll_L1 (0, 0) 47 [] [] _ (b_pI Q)
      replace h := b_wp_inl h
      exact t_X12_readAll_L1_b47 hfg h
  · replace h := b_wp_t c3 h
    refine v_iconst ⟨by decide, by decide⟩ dX12_readAll_7 ?_
    refine v_zreturn rfl (Or.inl rfl) dX12_readAll_8 ⟨by decide, by decide⟩ ?_
    exact ⟨_, rfl, h⟩
theorem cf_X12_readAll_L1 {l : Launch} {E : bE} {M : bM} (hfg : b_fg E) {Q : (Int × bM) → Prop} (h : b_wp (F_X12_readAll_L1 M) Q) : b_C l E xX12_readAll_L1 yX12_readAll [bR 11] M (b_pI Q) := b_met (by decide) ⟨rfl, rfl⟩ (Nat.le_of_ble_eq_true rfl) (fun _ _ => t_X12_readAll_L1 hfg h)
abbrev xX12_readCond_L1 : bX := ("BurntHallModel", prog_14_method_63_code, 1, (Option.some Jvm.ClassFile.FieldType.boolean), b_rm 24 0 0, 0, "readCond")
abbrev A_X12_readCond_L1_9 (l : Launch) (E : bE) (Q : (Int × bM) → Prop) : (bM) → Prop := (fun t : bM => V l E xX12_readCond_L1 (0, 0) 9 [(0, bR 11)] [] t (b_pI Q))
abbrev X_X12_readCond_L1_9 (l : Launch) (E : bE) (Q : (Int × bM) → Prop) : ((bM) ⊕ (Int × bM)) → Prop := (Sum.elim (fun t : bM => V l E xX12_readCond_L1 (0, 0) 48 [] [] t (b_pI Q)) Q)
noncomputable def F_X12_readCond_L1_s9 (M : bM) : Option ((bM) ⊕ ((bM) ⊕ (Int × bM))) :=
  if (M 11 3) = 1 then (if (M 11 4) = 18 then (b_bind (F_X12_scan M) (fun M6 => b_bind (F_X12_readAll_L1 M6) (fun t => b_two t (fun x7 M8 => if x7 = 0 then (some (.inr (.inr (0, M8)))) else (b_bind (F_X12_addStep (-2) M8) (fun M10 => some (.inl (M10)))))))) else (some (.inr (.inl (M))))) else (some (.inr (.inl (M))))
theorem t_X12_readCond_L1_s9 {l : Launch} {E : bE} {Q : (Int × bM) → Prop} {M : bM} (hfg : b_fg E) (h : b_wp (F_X12_readCond_L1_s9 M) (Sum.elim (A_X12_readCond_L1_9 l E Q ) (X_X12_readCond_L1_9 l E Q ))) : V l E xX12_readCond_L1 (0, 0) 9 [(0, bR 11)] [] M (b_pI Q) := by
  unfold F_X12_readCond_L1_s9 at h
  refine v_aload_n (f := 0) 0 rfl dX12_readCond_9 ?_
  refine v_getI (kf := 3) (kz := 3) rfl kd_11 rfl ⟨by decide, by decide⟩ rfl wf_12_316 dX12_readCond_10 ?_
  refine v_iconst ⟨by decide, by decide⟩ dX12_readCond_13 ?_
  refine v_icmp_ne (tgt := 48) dX12_readCond_14 (by decide) (fun c4 => ?_) (fun c4 => ?_)
  · replace h := b_wp_f c4 h
    refine v_sub (ls2 := []) [] rfl ?_
    exact h
  · replace h := b_wp_t c4 h
    refine v_aload_n (f := 0) 0 rfl dX12_readCond_17 ?_
    refine v_getI (kf := 4) (kz := 4) rfl kd_11 rfl ⟨by decide, by decide⟩ rfl wf_12_313 dX12_readCond_18 ?_
    refine v_bipush ⟨by decide, by decide⟩ (by decide) dX12_readCond_21 ?_
    refine v_icmp_ne (tgt := 48) dX12_readCond_23 (by decide) (fun c5 => ?_) (fun c5 => ?_)
    · replace h := b_wp_f c5 h
      refine v_sub (ls2 := []) [] rfl ?_
      exact h
    · replace h := b_wp_t c5 h
      refine v_aload_n (f := 0) 0 rfl dX12_readCond_26 ?_
      refine v_cVV (nA := 0) (As := []) (ix := 292) (cf_X12_scan hfg (b_wp_b h)) rfl kd_11 rfl rfl wc_X12_scan wm_12_292 wi_X12_scan ws_X12_scan wn_12 ⟨by decide, by decide, by decide⟩ rfl ⟨by decide, by decide⟩ ⟨by decide, by decide⟩ (Nat.le_of_ble_eq_true rfl) dX12_readCond_27 (fun M6 h => ?_)
      refine v_aload_n (f := 0) 0 rfl dX12_readCond_30 ?_
      refine v_cVI (nA := 0) (As := []) (ix := 466) (cf_X12_readAll_L1 hfg (b_wp_b h)) rfl kd_11 rfl rfl wc_X12_readAll wm_12_466 wi_X12_readAll ws_X12_readAll wn_12 ⟨by decide, by decide, by decide⟩ rfl ⟨by decide, by decide⟩ ⟨by decide, by decide⟩ (Nat.le_of_ble_eq_true rfl) dX12_readCond_31 (fun x7 M8 h => ?_)
      replace h := b_wp_two h
      refine v_if_ne (tgt := 39) dX12_readCond_34 (by decide) (fun c9 => ?_) (fun c9 => ?_)
      · replace h := b_wp_f c9 h
        refine v_aload_n (f := 0) 0 rfl dX12_readCond_39 ?_
        refine v_bipush ⟨by decide, by decide⟩ (by decide) dX12_readCond_40 ?_
        refine v_cVV (nA := 1) (As := [bI _]) (ix := 448) (cf_X12_addStep (b_wp_b h)) rfl kd_11 rfl rfl wc_X12_addStep wm_12_448 wi_X12_addStep ws_X12_addStep wn_12 ⟨by decide, by decide, by decide⟩ rfl ⟨by decide, by decide⟩ ⟨by decide, by decide⟩ (Nat.le_of_ble_eq_true rfl) dX12_readCond_42 (fun M10 h => ?_)
        refine v_goto (tgt := 9) dX12_readCond_45 (by decide) ?_
        exact h
      · replace h := b_wp_t c9 h
        refine v_iconst ⟨by decide, by decide⟩ dX12_readCond_37 ?_
        refine v_zreturn rfl (Or.inl rfl) dX12_readCond_38 ⟨by decide, by decide⟩ ?_
        exact ⟨_, rfl, h⟩
theorem l_X12_readCond_L1_9 {l : Launch} {E : bE} {Q : (Int × bM) → Prop} (hfg : b_fg E) {s : bM} (h : b_wp (b_loop (fun t => F_X12_readCond_L1_s9 t) s) (X_X12_readCond_L1_9 l E Q )) : A_X12_readCond_L1_9 l E Q  s := b_loop_wp (fun t h => t_X12_readCond_L1_s9 hfg h) s h
noncomputable def F_X12_readCond_L1_b48 (M : bM) : Option (Int × bM) :=
  some (1, M)
theorem t_X12_readCond_L1_b48 {l : Launch} {E : bE} {Q : (Int × bM) → Prop} {M : bM} (hfg : b_fg E) (h : b_wp (F_X12_readCond_L1_b48 M) (Q)) : V l E xX12_readCond_L1 (0, 0) 48 [] [] M (b_pI Q) := by
  unfold F_X12_readCond_L1_b48 at h
  refine v_iconst ⟨by decide, by decide⟩ dX12_readCond_48 ?_
  refine v_zreturn rfl (Or.inr rfl) dX12_readCond_49 ⟨by decide, by decide⟩ ?_
  exact ⟨_, rfl, h⟩
noncomputable def F_X12_readCond_L1 (M : bM) : Option (Int × bM) :=
  b_bind (F_X12_readAll_L1 M) (fun t => b_two t (fun x1 M2 => if x1 = 0 then (some (0, M2)) else (b_bind (b_loop (fun t => F_X12_readCond_L1_s9 t) (M2)) (Sum.elim (fun t => F_X12_readCond_L1_b48 t) some))))
theorem t_X12_readCond_L1 {l : Launch} {E : bE} {Q : (Int × bM) → Prop} {M : bM} (hfg : b_fg E) (h : b_wp (F_X12_readCond_L1 M) (Q)) : V l E xX12_readCond_L1 (0, 0) 0 [(0, bR 11)] [] M (b_pI Q) := by
  unfold F_X12_readCond_L1 at h
  refine v_aload_n (f := 0) 0 rfl dX12_readCond_0 ?_
  refine v_cVI (nA := 0) (As := []) (ix := 466) (cf_X12_readAll_L1 hfg (b_wp_b h)) rfl kd_11 rfl rfl wc_X12_readAll wm_12_466 wi_X12_readAll ws_X12_readAll wn_12 ⟨by decide, by decide, by decide⟩ rfl ⟨by decide, by decide⟩ ⟨by decide, by decide⟩ (Nat.le_of_ble_eq_true rfl) dX12_readCond_1 (fun x1 M2 h => ?_)
  replace h := b_wp_two h
  refine v_if_ne (tgt := 9) dX12_readCond_4 (by decide) (fun c3 => ?_) (fun c3 => ?_)
  · replace h := b_wp_f c3 h
    refine l_X12_readCond_L1_9 hfg (b_wp_m (fun t h => ?_) (b_wp_b h))
    cases t with
    | inr o => exact h
    | inl t =>
      show V l E xX12_readCond_L1 (0, 0) 48 [] [] _ (b_pI Q)
      replace h := b_wp_inl h
      exact t_X12_readCond_L1_b48 hfg h
  · replace h := b_wp_t c3 h
    refine v_iconst ⟨by decide, by decide⟩ dX12_readCond_7 ?_
    refine v_zreturn rfl (Or.inl rfl) dX12_readCond_8 ⟨by decide, by decide⟩ ?_
    exact ⟨_, rfl, h⟩
theorem cf_X12_readCond_L1 {l : Launch} {E : bE} {M : bM} (hfg : b_fg E) {Q : (Int × bM) → Prop} (h : b_wp (F_X12_readCond_L1 M) Q) : b_C l E xX12_readCond_L1 yX12_readCond [bR 11] M (b_pI Q) := b_met (by decide) ⟨rfl, rfl⟩ (Nat.le_of_ble_eq_true rfl) (fun _ _ => t_X12_readCond_L1 hfg h)
abbrev xX12_readOne_L0 : bX := ("BurntHallModel", prog_14_method_61_code, 2, (Option.some Jvm.ClassFile.FieldType.boolean), b_rm 25 0 0, 0, "readOne")
abbrev A_X12_readOne_L0_2 (l : Launch) (E : bE) (Q : (Int × bM) → Prop) : (Int × bM) → Prop := (fun t : Int × bM => V l E xX12_readOne_L0 (0, 0) 2 [(0, bR 11), (1, bI (t.1))] [] t.2 (b_pI Q))
abbrev X_X12_readOne_L0_2 (l : Launch) (E : bE) (Q : (Int × bM) → Prop) : (Int × bM) → Prop := (fun t : Int × bM => V l E xX12_readOne_L0 (0, 0) 36 [(0, bR 11), (1, bI (t.1))] [] t.2 (b_pI Q))
noncomputable def F_X12_readOne_L0_b28 (u0 : Int) (M : bM) : Option ((Int × bM) ⊕ (Int × bM)) :=
  b_bind (F_X12_scan M) (fun M4 => some (.inl (u0, M4)))
theorem t_X12_readOne_L0_b28 {l : Launch} {E : bE} {Q : (Int × bM) → Prop} {u0 : Int} {M : bM} (hfg : b_fg E) (h : b_wp (F_X12_readOne_L0_b28 u0 M) (Sum.elim (A_X12_readOne_L0_2 l E Q ) (X_X12_readOne_L0_2 l E Q ))) : V l E xX12_readOne_L0 (0, 0) 28 [(0, bR 11)] [bI u0] M (b_pI Q) := by
  unfold F_X12_readOne_L0_b28 at h
  refine v_istore_n (g := 1) (i := 1) (ls' := [(1, bI _), (0, bR _)]) rfl (by decide) dX12_readOne_28 rfl ?_
  refine v_aload_n (f := 0) 1 rfl dX12_readOne_29 ?_
  refine v_cVV (nA := 0) (As := []) (ix := 292) (cf_X12_scan hfg (b_wp_b h)) rfl kd_11 rfl rfl wc_X12_scan wm_12_292 wi_X12_scan ws_X12_scan wn_12 ⟨by decide, by decide, by decide⟩ rfl ⟨by decide, by decide⟩ ⟨by decide, by decide⟩ (Nat.le_of_ble_eq_true rfl) dX12_readOne_30 (fun M4 h => ?_)
  refine v_goto (tgt := 2) dX12_readOne_33 (by decide) ?_
  refine v_sub (ls2 := [(0, bR _), (1, bI _)]) [1, 0] rfl ?_
  exact h
noncomputable def F_X12_readOne_L0_s2 (v1 : Int) (M : bM) : Option ((Int × bM) ⊕ (Int × bM)) :=
  if (M 11 3) = 1 then (if (M 11 4) = 20 then (if v1 = 0 then (F_X12_readOne_L0_b28 1 M) else (F_X12_readOne_L0_b28 0 M)) else (some (.inr (v1, M)))) else (some (.inr (v1, M)))
theorem t_X12_readOne_L0_s2 {l : Launch} {E : bE} {Q : (Int × bM) → Prop} {v1 : Int} {M : bM} (hfg : b_fg E) (h : b_wp (F_X12_readOne_L0_s2 v1 M) (Sum.elim (A_X12_readOne_L0_2 l E Q ) (X_X12_readOne_L0_2 l E Q ))) : V l E xX12_readOne_L0 (0, 0) 2 [(0, bR 11), (1, bI v1)] [] M (b_pI Q) := by
  unfold F_X12_readOne_L0_s2 at h
  refine v_aload_n (f := 0) 0 rfl dX12_readOne_2 ?_
  refine v_getI (kf := 3) (kz := 3) rfl kd_11 rfl ⟨by decide, by decide⟩ rfl wf_12_316 dX12_readOne_3 ?_
  refine v_iconst ⟨by decide, by decide⟩ dX12_readOne_6 ?_
  refine v_icmp_ne (tgt := 36) dX12_readOne_7 (by decide) (fun c1 => ?_) (fun c1 => ?_)
  · replace h := b_wp_f c1 h
    exact h
  · replace h := b_wp_t c1 h
    refine v_aload_n (f := 0) 0 rfl dX12_readOne_10 ?_
    refine v_getI (kf := 4) (kz := 4) rfl kd_11 rfl ⟨by decide, by decide⟩ rfl wf_12_313 dX12_readOne_11 ?_
    refine v_bipush ⟨by decide, by decide⟩ (by decide) dX12_readOne_14 ?_
    refine v_icmp_ne (tgt := 36) dX12_readOne_16 (by decide) (fun c2 => ?_) (fun c2 => ?_)
    · replace h := b_wp_f c2 h
      exact h
    · replace h := b_wp_t c2 h
      refine v_iload_n (f := 1) 1 rfl dX12_readOne_19 ?_
      refine v_if_ne (tgt := 27) dX12_readOne_20 (by decide) (fun c3 => ?_) (fun c3 => ?_)
      · replace h := b_wp_f c3 h
        refine v_iconst ⟨by decide, by decide⟩ dX12_readOne_27 ?_
        refine v_sub (ls2 := [(0, bR _)]) [0] rfl ?_
        exact t_X12_readOne_L0_b28 hfg h
      · replace h := b_wp_t c3 h
        refine v_iconst ⟨by decide, by decide⟩ dX12_readOne_23 ?_
        refine v_goto (tgt := 28) dX12_readOne_24 (by decide) ?_
        refine v_sub (ls2 := [(0, bR _)]) [0] rfl ?_
        exact t_X12_readOne_L0_b28 hfg h
theorem l_X12_readOne_L0_2 {l : Launch} {E : bE} {Q : (Int × bM) → Prop} (hfg : b_fg E) {s : Int × bM} (h : b_wp (b_loop (fun t => F_X12_readOne_L0_s2 t.1 t.2) s) (X_X12_readOne_L0_2 l E Q )) : A_X12_readOne_L0_2 l E Q  s := b_loop_wp (fun t h => t_X12_readOne_L0_s2 hfg h) s h
noncomputable def F_X12_readOne_L0_b122 (v1 : Int) (M : bM) : Option (Int × bM) :=
  if v1 = 0 then (some (1, M)) else (b_bind (F_X12_addStep (-3) M) (fun M10 => some (1, M10)))
theorem t_X12_readOne_L0_b122 {l : Launch} {E : bE} {Q : (Int × bM) → Prop} {v1 : Int} {M : bM} (hfg : b_fg E) (h : b_wp (F_X12_readOne_L0_b122 v1 M) (Q)) : V l E xX12_readOne_L0 (0, 0) 122 [(0, bR 11), (1, bI v1)] [] M (b_pI Q) := by
  unfold F_X12_readOne_L0_b122 at h
  refine v_iload_n (f := 1) 1 rfl dX12_readOne_122 ?_
  refine v_if_eq (tgt := 132) dX12_readOne_123 (by decide) (fun c9 => ?_) (fun c9 => ?_)
  · replace h := b_wp_t c9 h
    refine v_iconst ⟨by decide, by decide⟩ dX12_readOne_132 ?_
    refine v_zreturn rfl (Or.inr rfl) dX12_readOne_133 ⟨by decide, by decide⟩ ?_
    exact ⟨_, rfl, h⟩
  · replace h := b_wp_f c9 h
    refine v_aload_n (f := 0) 0 rfl dX12_readOne_126 ?_
    refine v_bipush ⟨by decide, by decide⟩ (by decide) dX12_readOne_127 ?_
    refine v_cVV (nA := 1) (As := [bI _]) (ix := 448) (cf_X12_addStep (b_wp_b h)) rfl kd_11 rfl rfl wc_X12_addStep wm_12_448 wi_X12_addStep ws_X12_addStep wn_12 ⟨by decide, by decide, by decide⟩ rfl ⟨by decide, by decide⟩ ⟨by decide, by decide⟩ (Nat.le_of_ble_eq_true rfl) dX12_readOne_129 (fun M10 h => ?_)
    refine v_iconst ⟨by decide, by decide⟩ dX12_readOne_132 ?_
    refine v_zreturn rfl (Or.inr rfl) dX12_readOne_133 ⟨by decide, by decide⟩ ?_
    exact ⟨_, rfl, h⟩
noncomputable def F_X12_readOne_L0_b36 (v1 : Int) (M : bM) : Option (Int × bM) :=
  if (M 11 3) = 5 then (if (M 11 49) = 5 then (b_bind (F_X12_wrong 4 M) (fun t => b_two t (fun x25 M26 => b_g (x25 = 0 ∨ x25 = 1) (some (x25, M26))))) else (b_g (b_i32 ((M 11 49) + 1)) (b_let (b_up M 11 49 ((M 11 49) + 1)) (fun M13 => b_bind (F_X12_scan M13) (fun M14 => b_bind (F_X12_readCond_L1 M14) (fun t => b_two t (fun x15 M16 => if x15 = 0 then (some (0, M16)) else (if (M16 11 3) = 6 then (b_g (b_i32 ((M16 11 49) - 1)) (b_let (b_up M16 11 49 ((M16 11 49) - 1)) (fun M20 => b_bind (F_X12_scan M20) (fun M21 => F_X12_readOne_L0_b122 v1 M21)))) else (b_bind (F_X12_wrong 1 M16) (fun t => b_two t (fun x22 M23 => b_g (x22 = 0 ∨ x22 = 1) (some (x22, M23))))))))))))) else (b_bind (F_X12_readTest M) (fun t => b_two t (fun x6 M7 => if x6 = 0 then (some (0, M7)) else (F_X12_readOne_L0_b122 v1 M7))))
theorem t_X12_readOne_L0_b36 {l : Launch} {E : bE} {Q : (Int × bM) → Prop} {v1 : Int} {M : bM} (hfg : b_fg E) (h : b_wp (F_X12_readOne_L0_b36 v1 M) (Q)) : V l E xX12_readOne_L0 (0, 0) 36 [(0, bR 11), (1, bI v1)] [] M (b_pI Q) := by
  unfold F_X12_readOne_L0_b36 at h
  refine v_aload_n (f := 0) 0 rfl dX12_readOne_36 ?_
  refine v_getI (kf := 3) (kz := 3) rfl kd_11 rfl ⟨by decide, by decide⟩ rfl wf_12_316 dX12_readOne_37 ?_
  refine v_iconst ⟨by decide, by decide⟩ dX12_readOne_40 ?_
  refine v_icmp_ne (tgt := 113) dX12_readOne_41 (by decide) (fun c5 => ?_) (fun c5 => ?_)
  · replace h := b_wp_f c5 h
    refine v_aload_n (f := 0) 0 rfl dX12_readOne_113 ?_
    refine v_cVI (nA := 0) (As := []) (ix := 460) (cf_X12_readTest hfg (b_wp_b h)) rfl kd_11 rfl rfl wc_X12_readTest wm_12_460 wi_X12_readTest ws_X12_readTest wn_12 ⟨by decide, by decide, by decide⟩ rfl ⟨by decide, by decide⟩ ⟨by decide, by decide⟩ (Nat.le_of_ble_eq_true rfl) dX12_readOne_114 (fun x6 M7 h => ?_)
    replace h := b_wp_two h
    refine v_if_ne (tgt := 122) dX12_readOne_117 (by decide) (fun c8 => ?_) (fun c8 => ?_)
    · replace h := b_wp_f c8 h
      exact t_X12_readOne_L0_b122 hfg h
    · replace h := b_wp_t c8 h
      refine v_iconst ⟨by decide, by decide⟩ dX12_readOne_120 ?_
      refine v_zreturn rfl (Or.inl rfl) dX12_readOne_121 ⟨by decide, by decide⟩ ?_
      exact ⟨_, rfl, h⟩
  · replace h := b_wp_t c5 h
    refine v_aload_n (f := 0) 0 rfl dX12_readOne_44 ?_
    refine v_getI (kf := 49) (kz := 49) rfl kd_11 rfl ⟨by decide, by decide⟩ rfl wf_12_454 dX12_readOne_45 ?_
    refine v_iconst ⟨by decide, by decide⟩ dX12_readOne_48 ?_
    refine v_icmp_ne (tgt := 58) dX12_readOne_49 (by decide) (fun c11 => ?_) (fun c11 => ?_)
    · replace h := b_wp_f c11 h
      obtain ⟨g12, h⟩ := b_wp_g h
      refine v_aload_n (f := 0) 0 rfl dX12_readOne_58 ?_
      refine v_dup rfl dX12_readOne_59 ?_
      refine v_getI (kf := 49) (kz := 49) rfl kd_11 rfl ⟨by decide, by decide⟩ rfl wf_12_454 dX12_readOne_60 ?_
      refine v_iconst ⟨by decide, by decide⟩ dX12_readOne_63 ?_
      refine v_iaddN g12 dX12_readOne_64 ?_
      refine v_putI (kf := 49) (kz := 49) rfl kd_11 rfl ⟨by decide, by decide⟩ rfl wf_12_454 rfl rfl dX12_readOne_65 ?_
      replace h := b_wp_l h
      refine v_aload_n (f := 0) 0 rfl dX12_readOne_68 ?_
      refine v_cVV (nA := 0) (As := []) (ix := 292) (cf_X12_scan hfg (b_wp_b h)) rfl kd_11 rfl rfl wc_X12_scan wm_12_292 wi_X12_scan ws_X12_scan wn_12 ⟨by decide, by decide, by decide⟩ rfl ⟨by decide, by decide⟩ ⟨by decide, by decide⟩ (Nat.le_of_ble_eq_true rfl) dX12_readOne_69 (fun M14 h => ?_)
      refine v_aload_n (f := 0) 0 rfl dX12_readOne_72 ?_
      refine v_cVI (nA := 0) (As := []) (ix := 457) (cf_X12_readCond_L1 hfg (b_wp_b h)) rfl kd_11 rfl rfl wc_X12_readCond wm_12_457 wi_X12_readCond ws_X12_readCond wn_12 ⟨by decide, by decide, by decide⟩ rfl ⟨by decide, by decide⟩ ⟨by decide, by decide⟩ (Nat.le_of_ble_eq_true rfl) dX12_readOne_73 (fun x15 M16 h => ?_)
      replace h := b_wp_two h
      refine v_if_ne (tgt := 81) dX12_readOne_76 (by decide) (fun c17 => ?_) (fun c17 => ?_)
      · replace h := b_wp_f c17 h
        refine v_aload_n (f := 0) 0 rfl dX12_readOne_81 ?_
        refine v_getI (kf := 3) (kz := 3) rfl kd_11 rfl ⟨by decide, by decide⟩ rfl wf_12_316 dX12_readOne_82 ?_
        refine v_bipush ⟨by decide, by decide⟩ (by decide) dX12_readOne_85 ?_
        refine v_icmp_eq (tgt := 96) dX12_readOne_87 (by decide) (fun c18 => ?_) (fun c18 => ?_)
        · replace h := b_wp_t c18 h
          obtain ⟨g19, h⟩ := b_wp_g h
          refine v_aload_n (f := 0) 0 rfl dX12_readOne_96 ?_
          refine v_dup rfl dX12_readOne_97 ?_
          refine v_getI (kf := 49) (kz := 49) rfl kd_11 rfl ⟨by decide, by decide⟩ rfl wf_12_454 dX12_readOne_98 ?_
          refine v_iconst ⟨by decide, by decide⟩ dX12_readOne_101 ?_
          refine v_isubN g19 dX12_readOne_102 ?_
          refine v_putI (kf := 49) (kz := 49) rfl kd_11 rfl ⟨by decide, by decide⟩ rfl wf_12_454 rfl rfl dX12_readOne_103 ?_
          replace h := b_wp_l h
          refine v_aload_n (f := 0) 0 rfl dX12_readOne_106 ?_
          refine v_cVV (nA := 0) (As := []) (ix := 292) (cf_X12_scan hfg (b_wp_b h)) rfl kd_11 rfl rfl wc_X12_scan wm_12_292 wi_X12_scan ws_X12_scan wn_12 ⟨by decide, by decide, by decide⟩ rfl ⟨by decide, by decide⟩ ⟨by decide, by decide⟩ (Nat.le_of_ble_eq_true rfl) dX12_readOne_107 (fun M21 h => ?_)
          refine v_goto (tgt := 122) dX12_readOne_110 (by decide) ?_
          exact t_X12_readOne_L0_b122 hfg h
        · replace h := b_wp_f c18 h
          refine v_aload_n (f := 0) 0 rfl dX12_readOne_90 ?_
          refine v_iconst ⟨by decide, by decide⟩ dX12_readOne_91 ?_
          refine v_cVI (nA := 1) (As := [bI _]) (ix := 389) (cf_X12_wrong (b_wp_b h)) rfl kd_11 rfl rfl wc_X12_wrong wm_12_389 wi_X12_wrong ws_X12_wrong wn_12 ⟨by decide, by decide, by decide⟩ rfl ⟨by decide, by decide⟩ ⟨by decide, by decide⟩ (Nat.le_of_ble_eq_true rfl) dX12_readOne_92 (fun x22 M23 h => ?_)
          replace h := b_wp_two h
          obtain ⟨g24, h⟩ := b_wp_g h
          refine v_zreturn rfl g24 dX12_readOne_95 ⟨by decide, by decide⟩ ?_
          exact ⟨_, rfl, h⟩
      · replace h := b_wp_t c17 h
        refine v_iconst ⟨by decide, by decide⟩ dX12_readOne_79 ?_
        refine v_zreturn rfl (Or.inl rfl) dX12_readOne_80 ⟨by decide, by decide⟩ ?_
        exact ⟨_, rfl, h⟩
    · replace h := b_wp_t c11 h
      refine v_aload_n (f := 0) 0 rfl dX12_readOne_52 ?_
      refine v_iconst ⟨by decide, by decide⟩ dX12_readOne_53 ?_
      refine v_cVI (nA := 1) (As := [bI _]) (ix := 389) (cf_X12_wrong (b_wp_b h)) rfl kd_11 rfl rfl wc_X12_wrong wm_12_389 wi_X12_wrong ws_X12_wrong wn_12 ⟨by decide, by decide, by decide⟩ rfl ⟨by decide, by decide⟩ ⟨by decide, by decide⟩ (Nat.le_of_ble_eq_true rfl) dX12_readOne_54 (fun x25 M26 h => ?_)
      replace h := b_wp_two h
      obtain ⟨g27, h⟩ := b_wp_g h
      refine v_zreturn rfl g27 dX12_readOne_57 ⟨by decide, by decide⟩ ?_
      exact ⟨_, rfl, h⟩
noncomputable def F_X12_readOne_L0 (M : bM) : Option (Int × bM) :=
  b_bind (b_loop (fun t => F_X12_readOne_L0_s2 t.1 t.2) (0, M)) (fun t => F_X12_readOne_L0_b36 (t.1) (t.2))
theorem t_X12_readOne_L0 {l : Launch} {E : bE} {Q : (Int × bM) → Prop} {M : bM} (hfg : b_fg E) (h : b_wp (F_X12_readOne_L0 M) (Q)) : V l E xX12_readOne_L0 (0, 0) 0 [(0, bR 11)] [] M (b_pI Q) := by
  unfold F_X12_readOne_L0 at h
  refine v_iconst ⟨by decide, by decide⟩ dX12_readOne_0 ?_
  refine v_istore_n (g := 1) (i := 1) (ls' := [(1, bI _), (0, bR _)]) rfl (by decide) dX12_readOne_1 rfl ?_
  refine v_sub (ls2 := [(0, bR _), (1, bI _)]) [1, 0] rfl ?_
  refine l_X12_readOne_L0_2 hfg (b_wp_m (fun t h => ?_) (b_wp_b h))
  show V l E xX12_readOne_L0 (0, 0) 36 [(0, bR 11), (1, bI _)] [] _ (b_pI Q)
  exact t_X12_readOne_L0_b36 hfg h
theorem cf_X12_readOne_L0 {l : Launch} {E : bE} {M : bM} (hfg : b_fg E) {Q : (Int × bM) → Prop} (h : b_wp (F_X12_readOne_L0 M) Q) : b_C l E xX12_readOne_L0 yX12_readOne [bR 11] M (b_pI Q) := b_met (by decide) ⟨rfl, rfl⟩ (Nat.le_of_ble_eq_true rfl) (fun _ _ => t_X12_readOne_L0 hfg h)
abbrev xX12_readAll_L0 : bX := ("BurntHallModel", prog_14_method_62_code, 1, (Option.some Jvm.ClassFile.FieldType.boolean), b_rm 26 0 0, 0, "readAll")
abbrev A_X12_readAll_L0_9 (l : Launch) (E : bE) (Q : (Int × bM) → Prop) : (bM) → Prop := (fun t : bM => V l E xX12_readAll_L0 (0, 0) 9 [(0, bR 11)] [] t (b_pI Q))
abbrev X_X12_readAll_L0_9 (l : Launch) (E : bE) (Q : (Int × bM) → Prop) : ((bM) ⊕ (Int × bM)) → Prop := (Sum.elim (fun t : bM => V l E xX12_readAll_L0 (0, 0) 47 [] [] t (b_pI Q)) Q)
noncomputable def F_X12_readAll_L0_s9 (M : bM) : Option ((bM) ⊕ ((bM) ⊕ (Int × bM))) :=
  if (M 11 3) = 1 then (if (M 11 4) = 19 then (b_bind (F_X12_scan M) (fun M6 => b_bind (F_X12_readOne_L0 M6) (fun t => b_two t (fun x7 M8 => if x7 = 0 then (some (.inr (.inr (0, M8)))) else (b_bind (F_X12_addStep (-1) M8) (fun M10 => some (.inl (M10)))))))) else (some (.inr (.inl (M))))) else (some (.inr (.inl (M))))
theorem t_X12_readAll_L0_s9 {l : Launch} {E : bE} {Q : (Int × bM) → Prop} {M : bM} (hfg : b_fg E) (h : b_wp (F_X12_readAll_L0_s9 M) (Sum.elim (A_X12_readAll_L0_9 l E Q ) (X_X12_readAll_L0_9 l E Q ))) : V l E xX12_readAll_L0 (0, 0) 9 [(0, bR 11)] [] M (b_pI Q) := by
  unfold F_X12_readAll_L0_s9 at h
  refine v_aload_n (f := 0) 0 rfl dX12_readAll_9 ?_
  refine v_getI (kf := 3) (kz := 3) rfl kd_11 rfl ⟨by decide, by decide⟩ rfl wf_12_316 dX12_readAll_10 ?_
  refine v_iconst ⟨by decide, by decide⟩ dX12_readAll_13 ?_
  refine v_icmp_ne (tgt := 47) dX12_readAll_14 (by decide) (fun c4 => ?_) (fun c4 => ?_)
  · replace h := b_wp_f c4 h
    refine v_sub (ls2 := []) [] rfl ?_
    exact h
  · replace h := b_wp_t c4 h
    refine v_aload_n (f := 0) 0 rfl dX12_readAll_17 ?_
    refine v_getI (kf := 4) (kz := 4) rfl kd_11 rfl ⟨by decide, by decide⟩ rfl wf_12_313 dX12_readAll_18 ?_
    refine v_bipush ⟨by decide, by decide⟩ (by decide) dX12_readAll_21 ?_
    refine v_icmp_ne (tgt := 47) dX12_readAll_23 (by decide) (fun c5 => ?_) (fun c5 => ?_)
    · replace h := b_wp_f c5 h
      refine v_sub (ls2 := []) [] rfl ?_
      exact h
    · replace h := b_wp_t c5 h
      refine v_aload_n (f := 0) 0 rfl dX12_readAll_26 ?_
      refine v_cVV (nA := 0) (As := []) (ix := 292) (cf_X12_scan hfg (b_wp_b h)) rfl kd_11 rfl rfl wc_X12_scan wm_12_292 wi_X12_scan ws_X12_scan wn_12 ⟨by decide, by decide, by decide⟩ rfl ⟨by decide, by decide⟩ ⟨by decide, by decide⟩ (Nat.le_of_ble_eq_true rfl) dX12_readAll_27 (fun M6 h => ?_)
      refine v_aload_n (f := 0) 0 rfl dX12_readAll_30 ?_
      refine v_cVI (nA := 0) (As := []) (ix := 463) (cf_X12_readOne_L0 hfg (b_wp_b h)) rfl kd_11 rfl rfl wc_X12_readOne wm_12_463 wi_X12_readOne ws_X12_readOne wn_12 ⟨by decide, by decide, by decide⟩ rfl ⟨by decide, by decide⟩ ⟨by decide, by decide⟩ (Nat.le_of_ble_eq_true rfl) dX12_readAll_31 (fun x7 M8 h => ?_)
      replace h := b_wp_two h
      refine v_if_ne (tgt := 39) dX12_readAll_34 (by decide) (fun c9 => ?_) (fun c9 => ?_)
      · replace h := b_wp_f c9 h
        refine v_aload_n (f := 0) 0 rfl dX12_readAll_39 ?_
        refine v_iconst ⟨by decide, by decide⟩ dX12_readAll_40 ?_
        refine v_cVV (nA := 1) (As := [bI _]) (ix := 448) (cf_X12_addStep (b_wp_b h)) rfl kd_11 rfl rfl wc_X12_addStep wm_12_448 wi_X12_addStep ws_X12_addStep wn_12 ⟨by decide, by decide, by decide⟩ rfl ⟨by decide, by decide⟩ ⟨by decide, by decide⟩ (Nat.le_of_ble_eq_true rfl) dX12_readAll_41 (fun M10 h => ?_)
        refine v_goto (tgt := 9) dX12_readAll_44 (by decide) ?_
        exact h
      · replace h := b_wp_t c9 h
        refine v_iconst ⟨by decide, by decide⟩ dX12_readAll_37 ?_
        refine v_zreturn rfl (Or.inl rfl) dX12_readAll_38 ⟨by decide, by decide⟩ ?_
        exact ⟨_, rfl, h⟩
theorem l_X12_readAll_L0_9 {l : Launch} {E : bE} {Q : (Int × bM) → Prop} (hfg : b_fg E) {s : bM} (h : b_wp (b_loop (fun t => F_X12_readAll_L0_s9 t) s) (X_X12_readAll_L0_9 l E Q )) : A_X12_readAll_L0_9 l E Q  s := b_loop_wp (fun t h => t_X12_readAll_L0_s9 hfg h) s h
noncomputable def F_X12_readAll_L0_b47 (M : bM) : Option (Int × bM) :=
  some (1, M)
theorem t_X12_readAll_L0_b47 {l : Launch} {E : bE} {Q : (Int × bM) → Prop} {M : bM} (hfg : b_fg E) (h : b_wp (F_X12_readAll_L0_b47 M) (Q)) : V l E xX12_readAll_L0 (0, 0) 47 [] [] M (b_pI Q) := by
  unfold F_X12_readAll_L0_b47 at h
  refine v_iconst ⟨by decide, by decide⟩ dX12_readAll_47 ?_
  refine v_zreturn rfl (Or.inr rfl) dX12_readAll_48 ⟨by decide, by decide⟩ ?_
  exact ⟨_, rfl, h⟩
noncomputable def F_X12_readAll_L0 (M : bM) : Option (Int × bM) :=
  b_bind (F_X12_readOne_L0 M) (fun t => b_two t (fun x1 M2 => if x1 = 0 then (some (0, M2)) else (b_bind (b_loop (fun t => F_X12_readAll_L0_s9 t) (M2)) (Sum.elim (fun t => F_X12_readAll_L0_b47 t) some))))
theorem t_X12_readAll_L0 {l : Launch} {E : bE} {Q : (Int × bM) → Prop} {M : bM} (hfg : b_fg E) (h : b_wp (F_X12_readAll_L0 M) (Q)) : V l E xX12_readAll_L0 (0, 0) 0 [(0, bR 11)] [] M (b_pI Q) := by
  unfold F_X12_readAll_L0 at h
  refine v_aload_n (f := 0) 0 rfl dX12_readAll_0 ?_
  refine v_cVI (nA := 0) (As := []) (ix := 463) (cf_X12_readOne_L0 hfg (b_wp_b h)) rfl kd_11 rfl rfl wc_X12_readOne wm_12_463 wi_X12_readOne ws_X12_readOne wn_12 ⟨by decide, by decide, by decide⟩ rfl ⟨by decide, by decide⟩ ⟨by decide, by decide⟩ (Nat.le_of_ble_eq_true rfl) dX12_readAll_1 (fun x1 M2 h => ?_)
  replace h := b_wp_two h
  refine v_if_ne (tgt := 9) dX12_readAll_4 (by decide) (fun c3 => ?_) (fun c3 => ?_)
  · replace h := b_wp_f c3 h
    refine l_X12_readAll_L0_9 hfg (b_wp_m (fun t h => ?_) (b_wp_b h))
    cases t with
    | inr o => exact h
    | inl t =>
      show V l E xX12_readAll_L0 (0, 0) 47 [] [] _ (b_pI Q)
      replace h := b_wp_inl h
      exact t_X12_readAll_L0_b47 hfg h
  · replace h := b_wp_t c3 h
    refine v_iconst ⟨by decide, by decide⟩ dX12_readAll_7 ?_
    refine v_zreturn rfl (Or.inl rfl) dX12_readAll_8 ⟨by decide, by decide⟩ ?_
    exact ⟨_, rfl, h⟩
theorem cf_X12_readAll_L0 {l : Launch} {E : bE} {M : bM} (hfg : b_fg E) {Q : (Int × bM) → Prop} (h : b_wp (F_X12_readAll_L0 M) Q) : b_C l E xX12_readAll_L0 yX12_readAll [bR 11] M (b_pI Q) := b_met (by decide) ⟨rfl, rfl⟩ (Nat.le_of_ble_eq_true rfl) (fun _ _ => t_X12_readAll_L0 hfg h)
abbrev xX12_readCond_L0 : bX := ("BurntHallModel", prog_14_method_63_code, 1, (Option.some Jvm.ClassFile.FieldType.boolean), b_rm 27 0 0, 0, "readCond")
abbrev A_X12_readCond_L0_9 (l : Launch) (E : bE) (Q : (Int × bM) → Prop) : (bM) → Prop := (fun t : bM => V l E xX12_readCond_L0 (0, 0) 9 [(0, bR 11)] [] t (b_pI Q))
abbrev X_X12_readCond_L0_9 (l : Launch) (E : bE) (Q : (Int × bM) → Prop) : ((bM) ⊕ (Int × bM)) → Prop := (Sum.elim (fun t : bM => V l E xX12_readCond_L0 (0, 0) 48 [] [] t (b_pI Q)) Q)
noncomputable def F_X12_readCond_L0_s9 (M : bM) : Option ((bM) ⊕ ((bM) ⊕ (Int × bM))) :=
  if (M 11 3) = 1 then (if (M 11 4) = 18 then (b_bind (F_X12_scan M) (fun M6 => b_bind (F_X12_readAll_L0 M6) (fun t => b_two t (fun x7 M8 => if x7 = 0 then (some (.inr (.inr (0, M8)))) else (b_bind (F_X12_addStep (-2) M8) (fun M10 => some (.inl (M10)))))))) else (some (.inr (.inl (M))))) else (some (.inr (.inl (M))))
theorem t_X12_readCond_L0_s9 {l : Launch} {E : bE} {Q : (Int × bM) → Prop} {M : bM} (hfg : b_fg E) (h : b_wp (F_X12_readCond_L0_s9 M) (Sum.elim (A_X12_readCond_L0_9 l E Q ) (X_X12_readCond_L0_9 l E Q ))) : V l E xX12_readCond_L0 (0, 0) 9 [(0, bR 11)] [] M (b_pI Q) := by
  unfold F_X12_readCond_L0_s9 at h
  refine v_aload_n (f := 0) 0 rfl dX12_readCond_9 ?_
  refine v_getI (kf := 3) (kz := 3) rfl kd_11 rfl ⟨by decide, by decide⟩ rfl wf_12_316 dX12_readCond_10 ?_
  refine v_iconst ⟨by decide, by decide⟩ dX12_readCond_13 ?_
  refine v_icmp_ne (tgt := 48) dX12_readCond_14 (by decide) (fun c4 => ?_) (fun c4 => ?_)
  · replace h := b_wp_f c4 h
    refine v_sub (ls2 := []) [] rfl ?_
    exact h
  · replace h := b_wp_t c4 h
    refine v_aload_n (f := 0) 0 rfl dX12_readCond_17 ?_
    refine v_getI (kf := 4) (kz := 4) rfl kd_11 rfl ⟨by decide, by decide⟩ rfl wf_12_313 dX12_readCond_18 ?_
    refine v_bipush ⟨by decide, by decide⟩ (by decide) dX12_readCond_21 ?_
    refine v_icmp_ne (tgt := 48) dX12_readCond_23 (by decide) (fun c5 => ?_) (fun c5 => ?_)
    · replace h := b_wp_f c5 h
      refine v_sub (ls2 := []) [] rfl ?_
      exact h
    · replace h := b_wp_t c5 h
      refine v_aload_n (f := 0) 0 rfl dX12_readCond_26 ?_
      refine v_cVV (nA := 0) (As := []) (ix := 292) (cf_X12_scan hfg (b_wp_b h)) rfl kd_11 rfl rfl wc_X12_scan wm_12_292 wi_X12_scan ws_X12_scan wn_12 ⟨by decide, by decide, by decide⟩ rfl ⟨by decide, by decide⟩ ⟨by decide, by decide⟩ (Nat.le_of_ble_eq_true rfl) dX12_readCond_27 (fun M6 h => ?_)
      refine v_aload_n (f := 0) 0 rfl dX12_readCond_30 ?_
      refine v_cVI (nA := 0) (As := []) (ix := 466) (cf_X12_readAll_L0 hfg (b_wp_b h)) rfl kd_11 rfl rfl wc_X12_readAll wm_12_466 wi_X12_readAll ws_X12_readAll wn_12 ⟨by decide, by decide, by decide⟩ rfl ⟨by decide, by decide⟩ ⟨by decide, by decide⟩ (Nat.le_of_ble_eq_true rfl) dX12_readCond_31 (fun x7 M8 h => ?_)
      replace h := b_wp_two h
      refine v_if_ne (tgt := 39) dX12_readCond_34 (by decide) (fun c9 => ?_) (fun c9 => ?_)
      · replace h := b_wp_f c9 h
        refine v_aload_n (f := 0) 0 rfl dX12_readCond_39 ?_
        refine v_bipush ⟨by decide, by decide⟩ (by decide) dX12_readCond_40 ?_
        refine v_cVV (nA := 1) (As := [bI _]) (ix := 448) (cf_X12_addStep (b_wp_b h)) rfl kd_11 rfl rfl wc_X12_addStep wm_12_448 wi_X12_addStep ws_X12_addStep wn_12 ⟨by decide, by decide, by decide⟩ rfl ⟨by decide, by decide⟩ ⟨by decide, by decide⟩ (Nat.le_of_ble_eq_true rfl) dX12_readCond_42 (fun M10 h => ?_)
        refine v_goto (tgt := 9) dX12_readCond_45 (by decide) ?_
        exact h
      · replace h := b_wp_t c9 h
        refine v_iconst ⟨by decide, by decide⟩ dX12_readCond_37 ?_
        refine v_zreturn rfl (Or.inl rfl) dX12_readCond_38 ⟨by decide, by decide⟩ ?_
        exact ⟨_, rfl, h⟩
theorem l_X12_readCond_L0_9 {l : Launch} {E : bE} {Q : (Int × bM) → Prop} (hfg : b_fg E) {s : bM} (h : b_wp (b_loop (fun t => F_X12_readCond_L0_s9 t) s) (X_X12_readCond_L0_9 l E Q )) : A_X12_readCond_L0_9 l E Q  s := b_loop_wp (fun t h => t_X12_readCond_L0_s9 hfg h) s h
noncomputable def F_X12_readCond_L0_b48 (M : bM) : Option (Int × bM) :=
  some (1, M)
theorem t_X12_readCond_L0_b48 {l : Launch} {E : bE} {Q : (Int × bM) → Prop} {M : bM} (hfg : b_fg E) (h : b_wp (F_X12_readCond_L0_b48 M) (Q)) : V l E xX12_readCond_L0 (0, 0) 48 [] [] M (b_pI Q) := by
  unfold F_X12_readCond_L0_b48 at h
  refine v_iconst ⟨by decide, by decide⟩ dX12_readCond_48 ?_
  refine v_zreturn rfl (Or.inr rfl) dX12_readCond_49 ⟨by decide, by decide⟩ ?_
  exact ⟨_, rfl, h⟩
noncomputable def F_X12_readCond_L0 (M : bM) : Option (Int × bM) :=
  b_bind (F_X12_readAll_L0 M) (fun t => b_two t (fun x1 M2 => if x1 = 0 then (some (0, M2)) else (b_bind (b_loop (fun t => F_X12_readCond_L0_s9 t) (M2)) (Sum.elim (fun t => F_X12_readCond_L0_b48 t) some))))
theorem t_X12_readCond_L0 {l : Launch} {E : bE} {Q : (Int × bM) → Prop} {M : bM} (hfg : b_fg E) (h : b_wp (F_X12_readCond_L0 M) (Q)) : V l E xX12_readCond_L0 (0, 0) 0 [(0, bR 11)] [] M (b_pI Q) := by
  unfold F_X12_readCond_L0 at h
  refine v_aload_n (f := 0) 0 rfl dX12_readCond_0 ?_
  refine v_cVI (nA := 0) (As := []) (ix := 466) (cf_X12_readAll_L0 hfg (b_wp_b h)) rfl kd_11 rfl rfl wc_X12_readAll wm_12_466 wi_X12_readAll ws_X12_readAll wn_12 ⟨by decide, by decide, by decide⟩ rfl ⟨by decide, by decide⟩ ⟨by decide, by decide⟩ (Nat.le_of_ble_eq_true rfl) dX12_readCond_1 (fun x1 M2 h => ?_)
  replace h := b_wp_two h
  refine v_if_ne (tgt := 9) dX12_readCond_4 (by decide) (fun c3 => ?_) (fun c3 => ?_)
  · replace h := b_wp_f c3 h
    refine l_X12_readCond_L0_9 hfg (b_wp_m (fun t h => ?_) (b_wp_b h))
    cases t with
    | inr o => exact h
    | inl t =>
      show V l E xX12_readCond_L0 (0, 0) 48 [] [] _ (b_pI Q)
      replace h := b_wp_inl h
      exact t_X12_readCond_L0_b48 hfg h
  · replace h := b_wp_t c3 h
    refine v_iconst ⟨by decide, by decide⟩ dX12_readCond_7 ?_
    refine v_zreturn rfl (Or.inl rfl) dX12_readCond_8 ⟨by decide, by decide⟩ ?_
    exact ⟨_, rfl, h⟩
theorem cf_X12_readCond_L0 {l : Launch} {E : bE} {M : bM} (hfg : b_fg E) {Q : (Int × bM) → Prop} (h : b_wp (F_X12_readCond_L0 M) Q) : b_C l E xX12_readCond_L0 yX12_readCond [bR 11] M (b_pI Q) := b_met (by decide) ⟨rfl, rfl⟩ (Nat.le_of_ble_eq_true rfl) (fun _ _ => t_X12_readCond_L0 hfg h)
abbrev xX12_readProof : bX := ("BurntHallModel", prog_14_method_65_code, 1, (Option.some Jvm.ClassFile.FieldType.boolean), b_rm 28 0 0, 0, "readProof")
abbrev yX12_readProof : MethodName := ⟨"BurntHallModel", "readProof", "()Z"⟩
theorem dX12_readProof_0 : decode prog_14_method_65_code 0 = .ok (.aload_n 0, 1) := by decide +kernel
theorem dX12_readProof_1 : decode prog_14_method_65_code 1 = .ok (.getfield 79, 3) := by decide +kernel
theorem dX12_readProof_4 : decode prog_14_method_65_code 4 = .ok (.bipush 98, 2) := by decide +kernel
theorem dX12_readProof_6 : decode prog_14_method_65_code 6 = .ok (.iaload, 1) := by decide +kernel
theorem dX12_readProof_7 : decode prog_14_method_65_code 7 = .ok (.bipush 24, 2) := by decide +kernel
theorem dX12_readProof_9 : decode prog_14_method_65_code 9 = .ok (.if_icmp .ne 9, 3) := by decide +kernel
theorem dX12_readProof_12 : decode prog_14_method_65_code 12 = .ok (.aload_n 0, 1) := by decide +kernel
theorem dX12_readProof_13 : decode prog_14_method_65_code 13 = .ok (.iconst 4, 1) := by decide +kernel
theorem dX12_readProof_14 : decode prog_14_method_65_code 14 = .ok (.invokevirtual 389, 3) := by decide +kernel
theorem dX12_readProof_17 : decode prog_14_method_65_code 17 = .ok (.ireturn, 1) := by decide +kernel
theorem dX12_readProof_18 : decode prog_14_method_65_code 18 = .ok (.aload_n 0, 1) := by decide +kernel
theorem dX12_readProof_19 : decode prog_14_method_65_code 19 = .ok (.sipush 192, 3) := by decide +kernel
theorem dX12_readProof_22 : decode prog_14_method_65_code 22 = .ok (.aload_n 0, 1) := by decide +kernel
theorem dX12_readProof_23 : decode prog_14_method_65_code 23 = .ok (.getfield 79, 3) := by decide +kernel
theorem dX12_readProof_26 : decode prog_14_method_65_code 26 = .ok (.bipush 98, 2) := by decide +kernel
theorem dX12_readProof_28 : decode prog_14_method_65_code 28 = .ok (.iaload, 1) := by decide +kernel
theorem dX12_readProof_29 : decode prog_14_method_65_code 29 = .ok (.iadd, 1) := by decide +kernel
theorem dX12_readProof_30 : decode prog_14_method_65_code 30 = .ok (.putfield 442, 3) := by decide +kernel
theorem dX12_readProof_33 : decode prog_14_method_65_code 33 = .ok (.aload_n 0, 1) := by decide +kernel
theorem dX12_readProof_34 : decode prog_14_method_65_code 34 = .ok (.invokevirtual 292, 3) := by decide +kernel
theorem dX12_readProof_37 : decode prog_14_method_65_code 37 = .ok (.aload_n 0, 1) := by decide +kernel
theorem dX12_readProof_38 : decode prog_14_method_65_code 38 = .ok (.getfield 316, 3) := by decide +kernel
theorem dX12_readProof_41 : decode prog_14_method_65_code 41 = .ok (.iconst 1, 1) := by decide +kernel
theorem dX12_readProof_42 : decode prog_14_method_65_code 42 = .ok (.if_icmp .ne 17, 3) := by decide +kernel
theorem dX12_readProof_45 : decode prog_14_method_65_code 45 = .ok (.aload_n 0, 1) := by decide +kernel
theorem dX12_readProof_46 : decode prog_14_method_65_code 46 = .ok (.getfield 313, 3) := by decide +kernel
theorem dX12_readProof_49 : decode prog_14_method_65_code 49 = .ok (.bipush 11, 2) := by decide +kernel
theorem dX12_readProof_51 : decode prog_14_method_65_code 51 = .ok (.bipush 17, 2) := by decide +kernel
theorem dX12_readProof_53 : decode prog_14_method_65_code 53 = .ok (.invokestatic 279, 3) := by decide +kernel
theorem dX12_readProof_56 : decode prog_14_method_65_code 56 = .ok (.ifCond .ne 9, 3) := by decide +kernel
theorem dX12_readProof_59 : decode prog_14_method_65_code 59 = .ok (.aload_n 0, 1) := by decide +kernel
theorem dX12_readProof_60 : decode prog_14_method_65_code 60 = .ok (.iconst 1, 1) := by decide +kernel
theorem dX12_readProof_61 : decode prog_14_method_65_code 61 = .ok (.invokevirtual 389, 3) := by decide +kernel
theorem dX12_readProof_64 : decode prog_14_method_65_code 64 = .ok (.ireturn, 1) := by decide +kernel
theorem dX12_readProof_65 : decode prog_14_method_65_code 65 = .ok (.aload_n 0, 1) := by decide +kernel
theorem dX12_readProof_66 : decode prog_14_method_65_code 66 = .ok (.getfield 82, 3) := by decide +kernel
theorem dX12_readProof_69 : decode prog_14_method_65_code 69 = .ok (.aload_n 0, 1) := by decide +kernel
theorem dX12_readProof_70 : decode prog_14_method_65_code 70 = .ok (.getfield 442, 3) := by decide +kernel
theorem dX12_readProof_73 : decode prog_14_method_65_code 73 = .ok (.aload_n 0, 1) := by decide +kernel
theorem dX12_readProof_74 : decode prog_14_method_65_code 74 = .ok (.getfield 313, 3) := by decide +kernel
theorem dX12_readProof_77 : decode prog_14_method_65_code 77 = .ok (.bipush 11, 2) := by decide +kernel
theorem dX12_readProof_79 : decode prog_14_method_65_code 79 = .ok (.isub, 1) := by decide +kernel
theorem dX12_readProof_80 : decode prog_14_method_65_code 80 = .ok (.iastore, 1) := by decide +kernel
theorem dX12_readProof_81 : decode prog_14_method_65_code 81 = .ok (.aload_n 0, 1) := by decide +kernel
theorem dX12_readProof_82 : decode prog_14_method_65_code 82 = .ok (.invokevirtual 292, 3) := by decide +kernel
theorem dX12_readProof_85 : decode prog_14_method_65_code 85 = .ok (.aload_n 0, 1) := by decide +kernel
theorem dX12_readProof_86 : decode prog_14_method_65_code 86 = .ok (.iconst 0, 1) := by decide +kernel
theorem dX12_readProof_87 : decode prog_14_method_65_code 87 = .ok (.bipush 99, 2) := by decide +kernel
theorem dX12_readProof_89 : decode prog_14_method_65_code 89 = .ok (.invokevirtual 469, 3) := by decide +kernel
theorem dX12_readProof_92 : decode prog_14_method_65_code 92 = .ok (.ifCond .ne 5, 3) := by decide +kernel
theorem dX12_readProof_95 : decode prog_14_method_65_code 95 = .ok (.iconst 0, 1) := by decide +kernel
theorem dX12_readProof_96 : decode prog_14_method_65_code 96 = .ok (.ireturn, 1) := by decide +kernel
theorem dX12_readProof_97 : decode prog_14_method_65_code 97 = .ok (.aload_n 0, 1) := by decide +kernel
theorem dX12_readProof_98 : decode prog_14_method_65_code 98 = .ok (.getfield 85, 3) := by decide +kernel
theorem dX12_readProof_101 : decode prog_14_method_65_code 101 = .ok (.aload_n 0, 1) := by decide +kernel
theorem dX12_readProof_102 : decode prog_14_method_65_code 102 = .ok (.getfield 442, 3) := by decide +kernel
theorem dX12_readProof_105 : decode prog_14_method_65_code 105 = .ok (.aload_n 0, 1) := by decide +kernel
theorem dX12_readProof_106 : decode prog_14_method_65_code 106 = .ok (.getfield 392, 3) := by decide +kernel
theorem dX12_readProof_109 : decode prog_14_method_65_code 109 = .ok (.iastore, 1) := by decide +kernel
theorem dX12_readProof_110 : decode prog_14_method_65_code 110 = .ok (.aload_n 0, 1) := by decide +kernel
theorem dX12_readProof_111 : decode prog_14_method_65_code 111 = .ok (.getfield 88, 3) := by decide +kernel
theorem dX12_readProof_114 : decode prog_14_method_65_code 114 = .ok (.aload_n 0, 1) := by decide +kernel
theorem dX12_readProof_115 : decode prog_14_method_65_code 115 = .ok (.getfield 442, 3) := by decide +kernel
theorem dX12_readProof_118 : decode prog_14_method_65_code 118 = .ok (.iconst 0, 1) := by decide +kernel
theorem dX12_readProof_119 : decode prog_14_method_65_code 119 = .ok (.iastore, 1) := by decide +kernel
theorem dX12_readProof_120 : decode prog_14_method_65_code 120 = .ok (.aload_n 0, 1) := by decide +kernel
theorem dX12_readProof_121 : decode prog_14_method_65_code 121 = .ok (.getfield 91, 3) := by decide +kernel
theorem dX12_readProof_124 : decode prog_14_method_65_code 124 = .ok (.aload_n 0, 1) := by decide +kernel
theorem dX12_readProof_125 : decode prog_14_method_65_code 125 = .ok (.getfield 442, 3) := by decide +kernel
theorem dX12_readProof_128 : decode prog_14_method_65_code 128 = .ok (.iconst 0, 1) := by decide +kernel
theorem dX12_readProof_129 : decode prog_14_method_65_code 129 = .ok (.iastore, 1) := by decide +kernel
theorem dX12_readProof_130 : decode prog_14_method_65_code 130 = .ok (.aload_n 0, 1) := by decide +kernel
theorem dX12_readProof_131 : decode prog_14_method_65_code 131 = .ok (.getfield 316, 3) := by decide +kernel
theorem dX12_readProof_134 : decode prog_14_method_65_code 134 = .ok (.iconst 1, 1) := by decide +kernel
theorem dX12_readProof_135 : decode prog_14_method_65_code 135 = .ok (.if_icmp .ne 30, 3) := by decide +kernel
theorem dX12_readProof_138 : decode prog_14_method_65_code 138 = .ok (.aload_n 0, 1) := by decide +kernel
theorem dX12_readProof_139 : decode prog_14_method_65_code 139 = .ok (.getfield 313, 3) := by decide +kernel
theorem dX12_readProof_142 : decode prog_14_method_65_code 142 = .ok (.bipush 24, 2) := by decide +kernel
theorem dX12_readProof_144 : decode prog_14_method_65_code 144 = .ok (.if_icmp .ne 21, 3) := by decide +kernel
theorem dX12_readProof_147 : decode prog_14_method_65_code 147 = .ok (.aload_n 0, 1) := by decide +kernel
theorem dX12_readProof_148 : decode prog_14_method_65_code 148 = .ok (.invokevirtual 292, 3) := by decide +kernel
theorem dX12_readProof_151 : decode prog_14_method_65_code 151 = .ok (.aload_n 0, 1) := by decide +kernel
theorem dX12_readProof_152 : decode prog_14_method_65_code 152 = .ok (.iconst 0, 1) := by decide +kernel
theorem dX12_readProof_153 : decode prog_14_method_65_code 153 = .ok (.putfield 454, 3) := by decide +kernel
theorem dX12_readProof_156 : decode prog_14_method_65_code 156 = .ok (.aload_n 0, 1) := by decide +kernel
theorem dX12_readProof_157 : decode prog_14_method_65_code 157 = .ok (.invokevirtual 457, 3) := by decide +kernel
theorem dX12_readProof_160 : decode prog_14_method_65_code 160 = .ok (.ifCond .ne 5, 3) := by decide +kernel
theorem dX12_readProof_163 : decode prog_14_method_65_code 163 = .ok (.iconst 0, 1) := by decide +kernel
theorem dX12_readProof_164 : decode prog_14_method_65_code 164 = .ok (.ireturn, 1) := by decide +kernel
theorem dX12_readProof_165 : decode prog_14_method_65_code 165 = .ok (.aload_n 0, 1) := by decide +kernel
theorem dX12_readProof_166 : decode prog_14_method_65_code 166 = .ok (.getfield 79, 3) := by decide +kernel
theorem dX12_readProof_169 : decode prog_14_method_65_code 169 = .ok (.bipush 98, 2) := by decide +kernel
theorem dX12_readProof_171 : decode prog_14_method_65_code 171 = .ok (.dup2, 1) := by decide +kernel
theorem dX12_readProof_172 : decode prog_14_method_65_code 172 = .ok (.iaload, 1) := by decide +kernel
theorem dX12_readProof_173 : decode prog_14_method_65_code 173 = .ok (.iconst 1, 1) := by decide +kernel
theorem dX12_readProof_174 : decode prog_14_method_65_code 174 = .ok (.iadd, 1) := by decide +kernel
theorem dX12_readProof_175 : decode prog_14_method_65_code 175 = .ok (.iastore, 1) := by decide +kernel
theorem dX12_readProof_176 : decode prog_14_method_65_code 176 = .ok (.iconst 1, 1) := by decide +kernel
theorem dX12_readProof_177 : decode prog_14_method_65_code 177 = .ok (.ireturn, 1) := by decide +kernel
noncomputable def F_X12_readProof_b59 (M : bM) : Option (Int × bM) :=
  b_bind (F_X12_wrong 1 M) (fun t => b_two t (fun x6 M7 => b_g (x6 = 0 ∨ x6 = 1) (some (x6, M7))))
theorem t_X12_readProof_b59 {l : Launch} {E : bE} {Q : (Int × bM) → Prop} {M : bM} (hfg : b_fg E) (h : b_wp (F_X12_readProof_b59 M) (Q)) : V l E xX12_readProof (0, 0) 59 [(0, bR 11)] [] M (b_pI Q) := by
  unfold F_X12_readProof_b59 at h
  refine v_aload_n (f := 0) 0 rfl dX12_readProof_59 ?_
  refine v_iconst ⟨by decide, by decide⟩ dX12_readProof_60 ?_
  refine v_cVI (nA := 1) (As := [bI _]) (ix := 389) (cf_X12_wrong (b_wp_b h)) rfl kd_11 rfl rfl wc_X12_wrong wm_12_389 wi_X12_wrong ws_X12_wrong wn_12 ⟨by decide, by decide, by decide⟩ rfl ⟨by decide, by decide⟩ ⟨by decide, by decide⟩ (Nat.le_of_ble_eq_true rfl) dX12_readProof_61 (fun x6 M7 h => ?_)
  replace h := b_wp_two h
  obtain ⟨g8, h⟩ := b_wp_g h
  refine v_zreturn rfl g8 dX12_readProof_64 ⟨by decide, by decide⟩ ?_
  exact ⟨_, rfl, h⟩
noncomputable def F_X12_readProof_b165 (M : bM) : Option (Int × bM) :=
  b_g (b_i32 ((M 183 98) + 1)) (b_let (b_up M 183 98 ((M 183 98) + 1)) (fun M26 => some (1, M26)))
theorem t_X12_readProof_b165 {l : Launch} {E : bE} {Q : (Int × bM) → Prop} {M : bM} (hfg : b_fg E) (h : b_wp (F_X12_readProof_b165 M) (Q)) : V l E xX12_readProof (0, 0) 165 [(0, bR 11)] [] M (b_pI Q) := by
  unfold F_X12_readProof_b165 at h
  obtain ⟨g25, h⟩ := b_wp_g h
  refine v_aload_n (f := 0) 0 rfl dX12_readProof_165 ?_
  refine v_getR (kf := 37) (kz := 37) rfl kd_11 rfl ⟨by decide, by decide⟩ rfl wf_12_79 dX12_readProof_166 ?_
  refine v_bipush ⟨by decide, by decide⟩ (by decide) dX12_readProof_169 ?_
  refine v_dup2 rfl rfl dX12_readProof_171 ?_
  refine v_iaload kd_183 ⟨by decide, by decide⟩ (by decide) dX12_readProof_172 ?_
  refine v_iconst ⟨by decide, by decide⟩ dX12_readProof_173 ?_
  refine v_iaddN g25 dX12_readProof_174 ?_
  refine v_iastore kd_183 ⟨by decide, by decide⟩ (by decide) dX12_readProof_175 ?_
  replace h := b_wp_l h
  refine v_iconst ⟨by decide, by decide⟩ dX12_readProof_176 ?_
  refine v_zreturn rfl (Or.inr rfl) dX12_readProof_177 ⟨by decide, by decide⟩ ?_
  exact ⟨_, rfl, h⟩
noncomputable def F_X12_readProof (M : bM) : Option (Int × bM) :=
  if (M 183 98) = 24 then (b_bind (F_X12_wrong 4 M) (fun t => b_two t (fun x33 M34 => b_g (x33 = 0 ∨ x33 = 1) (some (x33, M34))))) else (b_g (b_i32 (192 + (M 183 98))) (b_let (b_up M 11 48 (192 + (M 183 98))) (fun M3 => b_bind (F_X12_scan M3) (fun M4 => if (M4 11 3) = 1 then (b_bind (F_X12_in (M4 11 4) 11 17 M4) (fun x9 => if x9 = 0 then (F_X12_readProof_b59 M4) else (b_g ((b_i32 ((M4 11 4) - 11)) ∧ (0 ≤ (M4 11 48) ∧ (M4 11 48) < 216)) (b_let (b_up M4 184 (M4 11 48) ((M4 11 4) - 11)) (fun M13 => b_bind (F_X12_scan M13) (fun M14 => b_bind (F_X12_readNumber 0 99 M14) (fun t => b_two t (fun x15 M16 => if x15 = 0 then (some (0, M16)) else (b_g (0 ≤ (M16 11 48) ∧ (M16 11 48) < 216) (b_let (b_up M16 185 (M16 11 48) (M16 11 32)) (fun M19 => b_g (0 ≤ (M19 11 48) ∧ (M19 11 48) < 216) (b_let (b_up M19 186 (M19 11 48) 0) (fun M21 => b_g (0 ≤ (M21 11 48) ∧ (M21 11 48) < 216) (b_let (b_up M21 187 (M21 11 48) 0) (fun M23 => if (M23 11 3) = 1 then (if (M23 11 4) = 24 then (b_bind (F_X12_scan M23) (fun M28 => b_let (b_up M28 11 49 0) (fun M29 => b_bind (F_X12_readCond_L0 M29) (fun t => b_two t (fun x30 M31 => if x30 = 0 then (some (0, M31)) else (F_X12_readProof_b165 M31)))))) else (F_X12_readProof_b165 M23)) else (F_X12_readProof_b165 M23)))))))))))))))) else (F_X12_readProof_b59 M4)))))
theorem t_X12_readProof {l : Launch} {E : bE} {Q : (Int × bM) → Prop} {M : bM} (hfg : b_fg E) (h : b_wp (F_X12_readProof M) (Q)) : V l E xX12_readProof (0, 0) 0 [(0, bR 11)] [] M (b_pI Q) := by
  unfold F_X12_readProof at h
  refine v_aload_n (f := 0) 0 rfl dX12_readProof_0 ?_
  refine v_getR (kf := 37) (kz := 37) rfl kd_11 rfl ⟨by decide, by decide⟩ rfl wf_12_79 dX12_readProof_1 ?_
  refine v_bipush ⟨by decide, by decide⟩ (by decide) dX12_readProof_4 ?_
  refine v_iaload kd_183 ⟨by decide, by decide⟩ (by decide) dX12_readProof_6 ?_
  refine v_bipush ⟨by decide, by decide⟩ (by decide) dX12_readProof_7 ?_
  refine v_icmp_ne (tgt := 18) dX12_readProof_9 (by decide) (fun c1 => ?_) (fun c1 => ?_)
  · replace h := b_wp_f c1 h
    obtain ⟨g2, h⟩ := b_wp_g h
    refine v_aload_n (f := 0) 0 rfl dX12_readProof_18 ?_
    refine v_sipush ⟨by decide, by decide⟩ (by decide) dX12_readProof_19 ?_
    refine v_aload_n (f := 0) 0 rfl dX12_readProof_22 ?_
    refine v_getR (kf := 37) (kz := 37) rfl kd_11 rfl ⟨by decide, by decide⟩ rfl wf_12_79 dX12_readProof_23 ?_
    refine v_bipush ⟨by decide, by decide⟩ (by decide) dX12_readProof_26 ?_
    refine v_iaload kd_183 ⟨by decide, by decide⟩ (by decide) dX12_readProof_28 ?_
    refine v_iaddN g2 dX12_readProof_29 ?_
    refine v_putI (kf := 48) (kz := 48) rfl kd_11 rfl ⟨by decide, by decide⟩ rfl wf_12_442 rfl rfl dX12_readProof_30 ?_
    replace h := b_wp_l h
    refine v_aload_n (f := 0) 0 rfl dX12_readProof_33 ?_
    refine v_cVV (nA := 0) (As := []) (ix := 292) (cf_X12_scan hfg (b_wp_b h)) rfl kd_11 rfl rfl wc_X12_scan wm_12_292 wi_X12_scan ws_X12_scan wn_12 ⟨by decide, by decide, by decide⟩ rfl ⟨by decide, by decide⟩ ⟨by decide, by decide⟩ (Nat.le_of_ble_eq_true rfl) dX12_readProof_34 (fun M4 h => ?_)
    refine v_aload_n (f := 0) 0 rfl dX12_readProof_37 ?_
    refine v_getI (kf := 3) (kz := 3) rfl kd_11 rfl ⟨by decide, by decide⟩ rfl wf_12_316 dX12_readProof_38 ?_
    refine v_iconst ⟨by decide, by decide⟩ dX12_readProof_41 ?_
    refine v_icmp_ne (tgt := 59) dX12_readProof_42 (by decide) (fun c5 => ?_) (fun c5 => ?_)
    · replace h := b_wp_f c5 h
      exact t_X12_readProof_b59 hfg h
    · replace h := b_wp_t c5 h
      refine v_aload_n (f := 0) 0 rfl dX12_readProof_45 ?_
      refine v_getI (kf := 4) (kz := 4) rfl kd_11 rfl ⟨by decide, by decide⟩ rfl wf_12_313 dX12_readProof_46 ?_
      refine v_bipush ⟨by decide, by decide⟩ (by decide) dX12_readProof_49 ?_
      refine v_bipush ⟨by decide, by decide⟩ (by decide) dX12_readProof_51 ?_
      refine v_cSIp (nA := 3) (As := [bI _, bI _, bI _]) (ix := 279) (cf_X12_in (b_wp_b h)) rfl wc_X12_in wm_12_279 wi_X12_in wn_12 ⟨by decide, by decide, by decide⟩ rfl ⟨by decide, by decide⟩ ⟨by decide, by decide⟩ (Nat.le_of_ble_eq_true rfl) dX12_readProof_53 (fun x9 h => ?_)
      refine v_if_ne (tgt := 65) dX12_readProof_56 (by decide) (fun c10 => ?_) (fun c10 => ?_)
      · replace h := b_wp_f c10 h
        obtain ⟨⟨g11, g12⟩, h⟩ := b_wp_g h
        refine v_aload_n (f := 0) 0 rfl dX12_readProof_65 ?_
        refine v_getR (kf := 38) (kz := 38) rfl kd_11 rfl ⟨by decide, by decide⟩ rfl wf_12_82 dX12_readProof_66 ?_
        refine v_aload_n (f := 0) 0 rfl dX12_readProof_69 ?_
        refine v_getI (kf := 48) (kz := 48) rfl kd_11 rfl ⟨by decide, by decide⟩ rfl wf_12_442 dX12_readProof_70 ?_
        refine v_aload_n (f := 0) 0 rfl dX12_readProof_73 ?_
        refine v_getI (kf := 4) (kz := 4) rfl kd_11 rfl ⟨by decide, by decide⟩ rfl wf_12_313 dX12_readProof_74 ?_
        refine v_bipush ⟨by decide, by decide⟩ (by decide) dX12_readProof_77 ?_
        refine v_isubN g11 dX12_readProof_79 ?_
        refine v_iastore kd_184 g12 (by decide) dX12_readProof_80 ?_
        replace h := b_wp_l h
        refine v_aload_n (f := 0) 0 rfl dX12_readProof_81 ?_
        refine v_cVV (nA := 0) (As := []) (ix := 292) (cf_X12_scan hfg (b_wp_b h)) rfl kd_11 rfl rfl wc_X12_scan wm_12_292 wi_X12_scan ws_X12_scan wn_12 ⟨by decide, by decide, by decide⟩ rfl ⟨by decide, by decide⟩ ⟨by decide, by decide⟩ (Nat.le_of_ble_eq_true rfl) dX12_readProof_82 (fun M14 h => ?_)
        refine v_aload_n (f := 0) 0 rfl dX12_readProof_85 ?_
        refine v_iconst ⟨by decide, by decide⟩ dX12_readProof_86 ?_
        refine v_bipush ⟨by decide, by decide⟩ (by decide) dX12_readProof_87 ?_
        refine v_cVI (nA := 2) (As := [bI _, bI _]) (ix := 469) (cf_X12_readNumber hfg (b_wp_b h)) rfl kd_11 rfl rfl wc_X12_readNumber wm_12_469 wi_X12_readNumber ws_X12_readNumber wn_12 ⟨by decide, by decide, by decide⟩ rfl ⟨by decide, by decide⟩ ⟨by decide, by decide⟩ (Nat.le_of_ble_eq_true rfl) dX12_readProof_89 (fun x15 M16 h => ?_)
        replace h := b_wp_two h
        refine v_if_ne (tgt := 97) dX12_readProof_92 (by decide) (fun c17 => ?_) (fun c17 => ?_)
        · replace h := b_wp_f c17 h
          obtain ⟨g18, h⟩ := b_wp_g h
          refine v_aload_n (f := 0) 0 rfl dX12_readProof_97 ?_
          refine v_getR (kf := 39) (kz := 39) rfl kd_11 rfl ⟨by decide, by decide⟩ rfl wf_12_85 dX12_readProof_98 ?_
          refine v_aload_n (f := 0) 0 rfl dX12_readProof_101 ?_
          refine v_getI (kf := 48) (kz := 48) rfl kd_11 rfl ⟨by decide, by decide⟩ rfl wf_12_442 dX12_readProof_102 ?_
          refine v_aload_n (f := 0) 0 rfl dX12_readProof_105 ?_
          refine v_getI (kf := 32) (kz := 32) rfl kd_11 rfl ⟨by decide, by decide⟩ rfl wf_12_392 dX12_readProof_106 ?_
          refine v_iastore kd_185 g18 (by decide) dX12_readProof_109 ?_
          replace h := b_wp_l h
          obtain ⟨g20, h⟩ := b_wp_g h
          refine v_aload_n (f := 0) 0 rfl dX12_readProof_110 ?_
          refine v_getR (kf := 40) (kz := 40) rfl kd_11 rfl ⟨by decide, by decide⟩ rfl wf_12_88 dX12_readProof_111 ?_
          refine v_aload_n (f := 0) 0 rfl dX12_readProof_114 ?_
          refine v_getI (kf := 48) (kz := 48) rfl kd_11 rfl ⟨by decide, by decide⟩ rfl wf_12_442 dX12_readProof_115 ?_
          refine v_iconst ⟨by decide, by decide⟩ dX12_readProof_118 ?_
          refine v_iastore kd_186 g20 (by decide) dX12_readProof_119 ?_
          replace h := b_wp_l h
          obtain ⟨g22, h⟩ := b_wp_g h
          refine v_aload_n (f := 0) 0 rfl dX12_readProof_120 ?_
          refine v_getR (kf := 41) (kz := 41) rfl kd_11 rfl ⟨by decide, by decide⟩ rfl wf_12_91 dX12_readProof_121 ?_
          refine v_aload_n (f := 0) 0 rfl dX12_readProof_124 ?_
          refine v_getI (kf := 48) (kz := 48) rfl kd_11 rfl ⟨by decide, by decide⟩ rfl wf_12_442 dX12_readProof_125 ?_
          refine v_iconst ⟨by decide, by decide⟩ dX12_readProof_128 ?_
          refine v_iastore kd_187 g22 (by decide) dX12_readProof_129 ?_
          replace h := b_wp_l h
          refine v_aload_n (f := 0) 0 rfl dX12_readProof_130 ?_
          refine v_getI (kf := 3) (kz := 3) rfl kd_11 rfl ⟨by decide, by decide⟩ rfl wf_12_316 dX12_readProof_131 ?_
          refine v_iconst ⟨by decide, by decide⟩ dX12_readProof_134 ?_
          refine v_icmp_ne (tgt := 165) dX12_readProof_135 (by decide) (fun c24 => ?_) (fun c24 => ?_)
          · replace h := b_wp_f c24 h
            exact t_X12_readProof_b165 hfg h
          · replace h := b_wp_t c24 h
            refine v_aload_n (f := 0) 0 rfl dX12_readProof_138 ?_
            refine v_getI (kf := 4) (kz := 4) rfl kd_11 rfl ⟨by decide, by decide⟩ rfl wf_12_313 dX12_readProof_139 ?_
            refine v_bipush ⟨by decide, by decide⟩ (by decide) dX12_readProof_142 ?_
            refine v_icmp_ne (tgt := 165) dX12_readProof_144 (by decide) (fun c27 => ?_) (fun c27 => ?_)
            · replace h := b_wp_f c27 h
              exact t_X12_readProof_b165 hfg h
            · replace h := b_wp_t c27 h
              refine v_aload_n (f := 0) 0 rfl dX12_readProof_147 ?_
              refine v_cVV (nA := 0) (As := []) (ix := 292) (cf_X12_scan hfg (b_wp_b h)) rfl kd_11 rfl rfl wc_X12_scan wm_12_292 wi_X12_scan ws_X12_scan wn_12 ⟨by decide, by decide, by decide⟩ rfl ⟨by decide, by decide⟩ ⟨by decide, by decide⟩ (Nat.le_of_ble_eq_true rfl) dX12_readProof_148 (fun M28 h => ?_)
              refine v_aload_n (f := 0) 0 rfl dX12_readProof_151 ?_
              refine v_iconst ⟨by decide, by decide⟩ dX12_readProof_152 ?_
              refine v_putI (kf := 49) (kz := 49) rfl kd_11 rfl ⟨by decide, by decide⟩ rfl wf_12_454 rfl rfl dX12_readProof_153 ?_
              replace h := b_wp_l h
              refine v_aload_n (f := 0) 0 rfl dX12_readProof_156 ?_
              refine v_cVI (nA := 0) (As := []) (ix := 457) (cf_X12_readCond_L0 hfg (b_wp_b h)) rfl kd_11 rfl rfl wc_X12_readCond wm_12_457 wi_X12_readCond ws_X12_readCond wn_12 ⟨by decide, by decide, by decide⟩ rfl ⟨by decide, by decide⟩ ⟨by decide, by decide⟩ (Nat.le_of_ble_eq_true rfl) dX12_readProof_157 (fun x30 M31 h => ?_)
              replace h := b_wp_two h
              refine v_if_ne (tgt := 165) dX12_readProof_160 (by decide) (fun c32 => ?_) (fun c32 => ?_)
              · replace h := b_wp_f c32 h
                exact t_X12_readProof_b165 hfg h
              · replace h := b_wp_t c32 h
                refine v_iconst ⟨by decide, by decide⟩ dX12_readProof_163 ?_
                refine v_zreturn rfl (Or.inl rfl) dX12_readProof_164 ⟨by decide, by decide⟩ ?_
                exact ⟨_, rfl, h⟩
        · replace h := b_wp_t c17 h
          refine v_iconst ⟨by decide, by decide⟩ dX12_readProof_95 ?_
          refine v_zreturn rfl (Or.inl rfl) dX12_readProof_96 ⟨by decide, by decide⟩ ?_
          exact ⟨_, rfl, h⟩
      · replace h := b_wp_t c10 h
        exact t_X12_readProof_b59 hfg h
  · replace h := b_wp_t c1 h
    refine v_aload_n (f := 0) 0 rfl dX12_readProof_12 ?_
    refine v_iconst ⟨by decide, by decide⟩ dX12_readProof_13 ?_
    refine v_cVI (nA := 1) (As := [bI _]) (ix := 389) (cf_X12_wrong (b_wp_b h)) rfl kd_11 rfl rfl wc_X12_wrong wm_12_389 wi_X12_wrong ws_X12_wrong wn_12 ⟨by decide, by decide, by decide⟩ rfl ⟨by decide, by decide⟩ ⟨by decide, by decide⟩ (Nat.le_of_ble_eq_true rfl) dX12_readProof_14 (fun x33 M34 h => ?_)
    replace h := b_wp_two h
    obtain ⟨g35, h⟩ := b_wp_g h
    refine v_zreturn rfl g35 dX12_readProof_17 ⟨by decide, by decide⟩ ?_
    exact ⟨_, rfl, h⟩
theorem cf_X12_readProof {l : Launch} {E : bE} {M : bM} (hfg : b_fg E) {Q : (Int × bM) → Prop} (h : b_wp (F_X12_readProof M) Q) : b_C l E xX12_readProof yX12_readProof [bR 11] M (b_pI Q) := b_met (by decide) ⟨rfl, rfl⟩ (Nat.le_of_ble_eq_true rfl) (fun _ _ => t_X12_readProof hfg h)
abbrev xX12_readClause : bX := ("BurntHallModel", prog_14_method_66_code, 3, (Option.some Jvm.ClassFile.FieldType.boolean), b_rm 29 0 0, 0, "readClause")
abbrev yX12_readClause : MethodName := ⟨"BurntHallModel", "readClause", "()Z"⟩
theorem dX12_readClause_0 : decode prog_14_method_66_code 0 = .ok (.aload_n 0, 1) := by decide +kernel
theorem dX12_readClause_1 : decode prog_14_method_66_code 1 = .ok (.getfield 316, 3) := by decide +kernel
theorem dX12_readClause_4 : decode prog_14_method_66_code 4 = .ok (.iconst 1, 1) := by decide +kernel
theorem dX12_readClause_5 : decode prog_14_method_66_code 5 = .ok (.if_icmp .ne 16, 3) := by decide +kernel
theorem dX12_readClause_8 : decode prog_14_method_66_code 8 = .ok (.aload_n 0, 1) := by decide +kernel
theorem dX12_readClause_9 : decode prog_14_method_66_code 9 = .ok (.getfield 313, 3) := by decide +kernel
theorem dX12_readClause_12 : decode prog_14_method_66_code 12 = .ok (.iconst 0, 1) := by decide +kernel
theorem dX12_readClause_13 : decode prog_14_method_66_code 13 = .ok (.bipush 10, 2) := by decide +kernel
theorem dX12_readClause_15 : decode prog_14_method_66_code 15 = .ok (.invokestatic 279, 3) := by decide +kernel
theorem dX12_readClause_18 : decode prog_14_method_66_code 18 = .ok (.ifCond .ne 9, 3) := by decide +kernel
theorem dX12_readClause_21 : decode prog_14_method_66_code 21 = .ok (.aload_n 0, 1) := by decide +kernel
theorem dX12_readClause_22 : decode prog_14_method_66_code 22 = .ok (.iconst 1, 1) := by decide +kernel
theorem dX12_readClause_23 : decode prog_14_method_66_code 23 = .ok (.invokevirtual 389, 3) := by decide +kernel
theorem dX12_readClause_26 : decode prog_14_method_66_code 26 = .ok (.ireturn, 1) := by decide +kernel
theorem dX12_readClause_27 : decode prog_14_method_66_code 27 = .ok (.aload_n 0, 1) := by decide +kernel
theorem dX12_readClause_28 : decode prog_14_method_66_code 28 = .ok (.getfield 313, 3) := by decide +kernel
theorem dX12_readClause_31 : decode prog_14_method_66_code 31 = .ok (.istore_n 1, 1) := by decide +kernel
theorem dX12_readClause_32 : decode prog_14_method_66_code 32 = .ok (.iload_n 1, 1) := by decide +kernel
theorem dX12_readClause_33 : decode prog_14_method_66_code 33 = .ok (.ifCond .ne 11, 3) := by decide +kernel
theorem dX12_readClause_36 : decode prog_14_method_66_code 36 = .ok (.aload_n 0, 1) := by decide +kernel
theorem dX12_readClause_37 : decode prog_14_method_66_code 37 = .ok (.invokevirtual 472, 3) := by decide +kernel
theorem dX12_readClause_40 : decode prog_14_method_66_code 40 = .ok (.istore_n 2, 1) := by decide +kernel
theorem dX12_readClause_41 : decode prog_14_method_66_code 41 = .ok (.goto 103, 3) := by decide +kernel
theorem dX12_readClause_44 : decode prog_14_method_66_code 44 = .ok (.aload_n 0, 1) := by decide +kernel
theorem dX12_readClause_45 : decode prog_14_method_66_code 45 = .ok (.getfield 475, 3) := by decide +kernel
theorem dX12_readClause_48 : decode prog_14_method_66_code 48 = .ok (.iload_n 1, 1) := by decide +kernel
theorem dX12_readClause_49 : decode prog_14_method_66_code 49 = .ok (.ishr, 1) := by decide +kernel
theorem dX12_readClause_50 : decode prog_14_method_66_code 50 = .ok (.iconst 1, 1) := by decide +kernel
theorem dX12_readClause_51 : decode prog_14_method_66_code 51 = .ok (.iand, 1) := by decide +kernel
theorem dX12_readClause_52 : decode prog_14_method_66_code 52 = .ok (.iconst 1, 1) := by decide +kernel
theorem dX12_readClause_53 : decode prog_14_method_66_code 53 = .ok (.if_icmp .ne 9, 3) := by decide +kernel
theorem dX12_readClause_56 : decode prog_14_method_66_code 56 = .ok (.aload_n 0, 1) := by decide +kernel
theorem dX12_readClause_57 : decode prog_14_method_66_code 57 = .ok (.iconst 3, 1) := by decide +kernel
theorem dX12_readClause_58 : decode prog_14_method_66_code 58 = .ok (.invokevirtual 389, 3) := by decide +kernel
theorem dX12_readClause_61 : decode prog_14_method_66_code 61 = .ok (.ireturn, 1) := by decide +kernel
theorem dX12_readClause_62 : decode prog_14_method_66_code 62 = .ok (.aload_n 0, 1) := by decide +kernel
theorem dX12_readClause_63 : decode prog_14_method_66_code 63 = .ok (.dup, 1) := by decide +kernel
theorem dX12_readClause_64 : decode prog_14_method_66_code 64 = .ok (.getfield 475, 3) := by decide +kernel
theorem dX12_readClause_67 : decode prog_14_method_66_code 67 = .ok (.iconst 1, 1) := by decide +kernel
theorem dX12_readClause_68 : decode prog_14_method_66_code 68 = .ok (.iload_n 1, 1) := by decide +kernel
theorem dX12_readClause_69 : decode prog_14_method_66_code 69 = .ok (.ishl, 1) := by decide +kernel
theorem dX12_readClause_70 : decode prog_14_method_66_code 70 = .ok (.ior, 1) := by decide +kernel
theorem dX12_readClause_71 : decode prog_14_method_66_code 71 = .ok (.putfield 475, 3) := by decide +kernel
theorem dX12_readClause_74 : decode prog_14_method_66_code 74 = .ok (.aload_n 0, 1) := by decide +kernel
theorem dX12_readClause_75 : decode prog_14_method_66_code 75 = .ok (.invokevirtual 292, 3) := by decide +kernel
theorem dX12_readClause_78 : decode prog_14_method_66_code 78 = .ok (.aload_n 0, 1) := by decide +kernel
theorem dX12_readClause_79 : decode prog_14_method_66_code 79 = .ok (.iconst 1, 1) := by decide +kernel
theorem dX12_readClause_80 : decode prog_14_method_66_code 80 = .ok (.putfield 392, 3) := by decide +kernel
theorem dX12_readClause_83 : decode prog_14_method_66_code 83 = .ok (.iload_n 1, 1) := by decide +kernel
theorem dX12_readClause_84 : decode prog_14_method_66_code 84 = .ok (.bipush 9, 2) := by decide +kernel
theorem dX12_readClause_86 : decode prog_14_method_66_code 86 = .ok (.if_icmp .eq 33, 3) := by decide +kernel
theorem dX12_readClause_89 : decode prog_14_method_66_code 89 = .ok (.aload_n 0, 1) := by decide +kernel
theorem dX12_readClause_90 : decode prog_14_method_66_code 90 = .ok (.iload_n 1, 1) := by decide +kernel
theorem dX12_readClause_91 : decode prog_14_method_66_code 91 = .ok (.bipush 6, 2) := by decide +kernel
theorem dX12_readClause_93 : decode prog_14_method_66_code 93 = .ok (.if_icmp .eq 9, 3) := by decide +kernel
theorem dX12_readClause_96 : decode prog_14_method_66_code 96 = .ok (.iload_n 1, 1) := by decide +kernel
theorem dX12_readClause_97 : decode prog_14_method_66_code 97 = .ok (.bipush 7, 2) := by decide +kernel
theorem dX12_readClause_99 : decode prog_14_method_66_code 99 = .ok (.if_icmp .ne 7, 3) := by decide +kernel
theorem dX12_readClause_102 : decode prog_14_method_66_code 102 = .ok (.iconst 1, 1) := by decide +kernel
theorem dX12_readClause_103 : decode prog_14_method_66_code 103 = .ok (.goto 4, 3) := by decide +kernel
theorem dX12_readClause_106 : decode prog_14_method_66_code 106 = .ok (.iconst 0, 1) := by decide +kernel
theorem dX12_readClause_107 : decode prog_14_method_66_code 107 = .ok (.iload_n 1, 1) := by decide +kernel
theorem dX12_readClause_108 : decode prog_14_method_66_code 108 = .ok (.iconst 1, 1) := by decide +kernel
theorem dX12_readClause_109 : decode prog_14_method_66_code 109 = .ok (.isub, 1) := by decide +kernel
theorem dX12_readClause_110 : decode prog_14_method_66_code 110 = .ok (.invokestatic 478, 3) := by decide +kernel
theorem dX12_readClause_113 : decode prog_14_method_66_code 113 = .ok (.invokevirtual 469, 3) := by decide +kernel
theorem dX12_readClause_116 : decode prog_14_method_66_code 116 = .ok (.ifCond .eq 7, 3) := by decide +kernel
theorem dX12_readClause_119 : decode prog_14_method_66_code 119 = .ok (.iconst 1, 1) := by decide +kernel
theorem dX12_readClause_120 : decode prog_14_method_66_code 120 = .ok (.goto 4, 3) := by decide +kernel
theorem dX12_readClause_123 : decode prog_14_method_66_code 123 = .ok (.iconst 0, 1) := by decide +kernel
theorem dX12_readClause_124 : decode prog_14_method_66_code 124 = .ok (.istore_n 2, 1) := by decide +kernel
theorem dX12_readClause_125 : decode prog_14_method_66_code 125 = .ok (.iload_n 2, 1) := by decide +kernel
theorem dX12_readClause_126 : decode prog_14_method_66_code 126 = .ok (.ifCond .eq 18, 3) := by decide +kernel
theorem dX12_readClause_129 : decode prog_14_method_66_code 129 = .ok (.aload_n 0, 1) := by decide +kernel
theorem dX12_readClause_130 : decode prog_14_method_66_code 130 = .ok (.getfield 79, 3) := by decide +kernel
theorem dX12_readClause_133 : decode prog_14_method_66_code 133 = .ok (.bipush 88, 2) := by decide +kernel
theorem dX12_readClause_135 : decode prog_14_method_66_code 135 = .ok (.iload_n 1, 1) := by decide +kernel
theorem dX12_readClause_136 : decode prog_14_method_66_code 136 = .ok (.iadd, 1) := by decide +kernel
theorem dX12_readClause_137 : decode prog_14_method_66_code 137 = .ok (.iconst 1, 1) := by decide +kernel
theorem dX12_readClause_138 : decode prog_14_method_66_code 138 = .ok (.isub, 1) := by decide +kernel
theorem dX12_readClause_139 : decode prog_14_method_66_code 139 = .ok (.aload_n 0, 1) := by decide +kernel
theorem dX12_readClause_140 : decode prog_14_method_66_code 140 = .ok (.getfield 392, 3) := by decide +kernel
theorem dX12_readClause_143 : decode prog_14_method_66_code 143 = .ok (.iastore, 1) := by decide +kernel
theorem dX12_readClause_144 : decode prog_14_method_66_code 144 = .ok (.iload_n 2, 1) := by decide +kernel
theorem dX12_readClause_145 : decode prog_14_method_66_code 145 = .ok (.ifCond .ne 5, 3) := by decide +kernel
theorem dX12_readClause_148 : decode prog_14_method_66_code 148 = .ok (.iconst 0, 1) := by decide +kernel
theorem dX12_readClause_149 : decode prog_14_method_66_code 149 = .ok (.ireturn, 1) := by decide +kernel
theorem dX12_readClause_150 : decode prog_14_method_66_code 150 = .ok (.aload_n 0, 1) := by decide +kernel
theorem dX12_readClause_151 : decode prog_14_method_66_code 151 = .ok (.getfield 316, 3) := by decide +kernel
theorem dX12_readClause_154 : decode prog_14_method_66_code 154 = .ok (.iconst 3, 1) := by decide +kernel
theorem dX12_readClause_155 : decode prog_14_method_66_code 155 = .ok (.if_icmp .eq 9, 3) := by decide +kernel
theorem dX12_readClause_158 : decode prog_14_method_66_code 158 = .ok (.aload_n 0, 1) := by decide +kernel
theorem dX12_readClause_159 : decode prog_14_method_66_code 159 = .ok (.iconst 1, 1) := by decide +kernel
theorem dX12_readClause_160 : decode prog_14_method_66_code 160 = .ok (.invokevirtual 389, 3) := by decide +kernel
theorem dX12_readClause_163 : decode prog_14_method_66_code 163 = .ok (.ireturn, 1) := by decide +kernel
theorem dX12_readClause_164 : decode prog_14_method_66_code 164 = .ok (.aload_n 0, 1) := by decide +kernel
theorem dX12_readClause_165 : decode prog_14_method_66_code 165 = .ok (.invokevirtual 292, 3) := by decide +kernel
theorem dX12_readClause_168 : decode prog_14_method_66_code 168 = .ok (.aload_n 0, 1) := by decide +kernel
theorem dX12_readClause_169 : decode prog_14_method_66_code 169 = .ok (.dup, 1) := by decide +kernel
theorem dX12_readClause_170 : decode prog_14_method_66_code 170 = .ok (.getfield 481, 3) := by decide +kernel
theorem dX12_readClause_173 : decode prog_14_method_66_code 173 = .ok (.iconst 1, 1) := by decide +kernel
theorem dX12_readClause_174 : decode prog_14_method_66_code 174 = .ok (.iadd, 1) := by decide +kernel
theorem dX12_readClause_175 : decode prog_14_method_66_code 175 = .ok (.putfield 481, 3) := by decide +kernel
theorem dX12_readClause_178 : decode prog_14_method_66_code 178 = .ok (.iconst 1, 1) := by decide +kernel
theorem dX12_readClause_179 : decode prog_14_method_66_code 179 = .ok (.ireturn, 1) := by decide +kernel
noncomputable def F_X12_readClause_b21 (M : bM) : Option (Int × bM) :=
  b_bind (F_X12_wrong 1 M) (fun t => b_two t (fun x2 M3 => b_g (x2 = 0 ∨ x2 = 1) (some (x2, M3))))
theorem t_X12_readClause_b21 {l : Launch} {E : bE} {Q : (Int × bM) → Prop} {M : bM} (hfg : b_fg E) (h : b_wp (F_X12_readClause_b21 M) (Q)) : V l E xX12_readClause (0, 0) 21 [(0, bR 11)] [] M (b_pI Q) := by
  unfold F_X12_readClause_b21 at h
  refine v_aload_n (f := 0) 0 rfl dX12_readClause_21 ?_
  refine v_iconst ⟨by decide, by decide⟩ dX12_readClause_22 ?_
  refine v_cVI (nA := 1) (As := [bI _]) (ix := 389) (cf_X12_wrong (b_wp_b h)) rfl kd_11 rfl rfl wc_X12_wrong wm_12_389 wi_X12_wrong ws_X12_wrong wn_12 ⟨by decide, by decide, by decide⟩ rfl ⟨by decide, by decide⟩ ⟨by decide, by decide⟩ (Nat.le_of_ble_eq_true rfl) dX12_readClause_23 (fun x2 M3 h => ?_)
  replace h := b_wp_two h
  obtain ⟨g4, h⟩ := b_wp_g h
  refine v_zreturn rfl g4 dX12_readClause_26 ⟨by decide, by decide⟩ ?_
  exact ⟨_, rfl, h⟩
noncomputable def F_X12_readClause_b144 (v2 : Int) (M : bM) : Option (Int × bM) :=
  if v2 = 0 then (some (0, M)) else (if (M 11 3) = 3 then (b_bind (F_X12_scan M) (fun M16 => b_g (b_i32 ((M16 11 50) + 1)) (b_let (b_up M16 11 50 ((M16 11 50) + 1)) (fun M18 => some (1, M18))))) else (b_bind (F_X12_wrong 1 M) (fun t => b_two t (fun x19 M20 => b_g (x19 = 0 ∨ x19 = 1) (some (x19, M20))))))
theorem t_X12_readClause_b144 {l : Launch} {E : bE} {Q : (Int × bM) → Prop} {v2 : Int} {M : bM} (hfg : b_fg E) (h : b_wp (F_X12_readClause_b144 v2 M) (Q)) : V l E xX12_readClause (0, 0) 144 [(0, bR 11), (2, bI v2)] [] M (b_pI Q) := by
  unfold F_X12_readClause_b144 at h
  refine v_iload_n (f := 2) 1 rfl dX12_readClause_144 ?_
  refine v_if_ne (tgt := 150) dX12_readClause_145 (by decide) (fun c14 => ?_) (fun c14 => ?_)
  · replace h := b_wp_f c14 h
    refine v_aload_n (f := 0) 0 rfl dX12_readClause_150 ?_
    refine v_getI (kf := 3) (kz := 3) rfl kd_11 rfl ⟨by decide, by decide⟩ rfl wf_12_316 dX12_readClause_151 ?_
    refine v_iconst ⟨by decide, by decide⟩ dX12_readClause_154 ?_
    refine v_icmp_eq (tgt := 164) dX12_readClause_155 (by decide) (fun c15 => ?_) (fun c15 => ?_)
    · replace h := b_wp_t c15 h
      refine v_aload_n (f := 0) 0 rfl dX12_readClause_164 ?_
      refine v_cVV (nA := 0) (As := []) (ix := 292) (cf_X12_scan hfg (b_wp_b h)) rfl kd_11 rfl rfl wc_X12_scan wm_12_292 wi_X12_scan ws_X12_scan wn_12 ⟨by decide, by decide, by decide⟩ rfl ⟨by decide, by decide⟩ ⟨by decide, by decide⟩ (Nat.le_of_ble_eq_true rfl) dX12_readClause_165 (fun M16 h => ?_)
      obtain ⟨g17, h⟩ := b_wp_g h
      refine v_aload_n (f := 0) 0 rfl dX12_readClause_168 ?_
      refine v_dup rfl dX12_readClause_169 ?_
      refine v_getI (kf := 50) (kz := 50) rfl kd_11 rfl ⟨by decide, by decide⟩ rfl wf_12_481 dX12_readClause_170 ?_
      refine v_iconst ⟨by decide, by decide⟩ dX12_readClause_173 ?_
      refine v_iaddN g17 dX12_readClause_174 ?_
      refine v_putI (kf := 50) (kz := 50) rfl kd_11 rfl ⟨by decide, by decide⟩ rfl wf_12_481 rfl rfl dX12_readClause_175 ?_
      replace h := b_wp_l h
      refine v_iconst ⟨by decide, by decide⟩ dX12_readClause_178 ?_
      refine v_zreturn rfl (Or.inr rfl) dX12_readClause_179 ⟨by decide, by decide⟩ ?_
      exact ⟨_, rfl, h⟩
    · replace h := b_wp_f c15 h
      refine v_aload_n (f := 0) 0 rfl dX12_readClause_158 ?_
      refine v_iconst ⟨by decide, by decide⟩ dX12_readClause_159 ?_
      refine v_cVI (nA := 1) (As := [bI _]) (ix := 389) (cf_X12_wrong (b_wp_b h)) rfl kd_11 rfl rfl wc_X12_wrong wm_12_389 wi_X12_wrong ws_X12_wrong wn_12 ⟨by decide, by decide, by decide⟩ rfl ⟨by decide, by decide⟩ ⟨by decide, by decide⟩ (Nat.le_of_ble_eq_true rfl) dX12_readClause_160 (fun x19 M20 h => ?_)
      replace h := b_wp_two h
      obtain ⟨g21, h⟩ := b_wp_g h
      refine v_zreturn rfl g21 dX12_readClause_163 ⟨by decide, by decide⟩ ?_
      exact ⟨_, rfl, h⟩
  · replace h := b_wp_t c14 h
    refine v_iconst ⟨by decide, by decide⟩ dX12_readClause_148 ?_
    refine v_zreturn rfl (Or.inl rfl) dX12_readClause_149 ⟨by decide, by decide⟩ ?_
    exact ⟨_, rfl, h⟩
noncomputable def F_X12_readClause_b124 (v1 : Int) (u0 : Int) (M : bM) : Option (Int × bM) :=
  if u0 = 0 then (F_X12_readClause_b144 u0 M) else (b_g ((b_i32 (88 + v1)) ∧ (b_i32 ((88 + v1) - 1)) ∧ (0 ≤ ((88 + v1) - 1) ∧ ((88 + v1) - 1) < 110)) (b_let (b_up M 183 ((88 + v1) - 1) (M 11 32)) (fun M25 => F_X12_readClause_b144 u0 M25)))
theorem t_X12_readClause_b124 {l : Launch} {E : bE} {Q : (Int × bM) → Prop} {v1 : Int} {u0 : Int} {M : bM} (hfg : b_fg E) (h : b_wp (F_X12_readClause_b124 v1 u0 M) (Q)) : V l E xX12_readClause (0, 0) 124 [(0, bR 11), (1, bI v1)] [bI u0] M (b_pI Q) := by
  unfold F_X12_readClause_b124 at h
  refine v_istore_n (g := 2) (i := 2) (ls' := [(2, bI _), (0, bR _), (1, bI _)]) rfl (by decide) dX12_readClause_124 rfl ?_
  refine v_iload_n (f := 2) 0 rfl dX12_readClause_125 ?_
  refine v_if_eq (tgt := 144) dX12_readClause_126 (by decide) (fun c13 => ?_) (fun c13 => ?_)
  · replace h := b_wp_t c13 h
    refine v_sub (ls2 := [(0, bR _), (2, bI _)]) [1, 0] rfl ?_
    exact t_X12_readClause_b144 hfg h
  · replace h := b_wp_f c13 h
    obtain ⟨⟨g22, g23, g24⟩, h⟩ := b_wp_g h
    refine v_aload_n (f := 0) 1 rfl dX12_readClause_129 ?_
    refine v_getR (kf := 37) (kz := 37) rfl kd_11 rfl ⟨by decide, by decide⟩ rfl wf_12_79 dX12_readClause_130 ?_
    refine v_bipush ⟨by decide, by decide⟩ (by decide) dX12_readClause_133 ?_
    refine v_iload_n (f := 1) 2 rfl dX12_readClause_135 ?_
    refine v_iaddN g22 dX12_readClause_136 ?_
    refine v_iconst ⟨by decide, by decide⟩ dX12_readClause_137 ?_
    refine v_isubN g23 dX12_readClause_138 ?_
    refine v_aload_n (f := 0) 1 rfl dX12_readClause_139 ?_
    refine v_getI (kf := 32) (kz := 32) rfl kd_11 rfl ⟨by decide, by decide⟩ rfl wf_12_392 dX12_readClause_140 ?_
    refine v_iastore kd_183 g24 (by decide) dX12_readClause_143 ?_
    replace h := b_wp_l h
    refine v_sub (ls2 := [(0, bR _), (2, bI _)]) [1, 0] rfl ?_
    exact t_X12_readClause_b144 hfg h
noncomputable def F_X12_readClause_b119 (v1 : Int) (M : bM) : Option (Int × bM) :=
  F_X12_readClause_b124 v1 1 M
theorem t_X12_readClause_b119 {l : Launch} {E : bE} {Q : (Int × bM) → Prop} {v1 : Int} {M : bM} (hfg : b_fg E) (h : b_wp (F_X12_readClause_b119 v1 M) (Q)) : V l E xX12_readClause (0, 0) 119 [(0, bR 11), (1, bI v1)] [] M (b_pI Q) := by
  unfold F_X12_readClause_b119 at h
  refine v_iconst ⟨by decide, by decide⟩ dX12_readClause_119 ?_
  refine v_goto (tgt := 124) dX12_readClause_120 (by decide) ?_
  exact t_X12_readClause_b124 hfg h
noncomputable def F_X12_readClause_b107 (v1 : Int) (u1 : Int) (M : bM) : Option (Int × bM) :=
  b_g (b_i32 (v1 - 1)) (b_bind (F_X12_high (v1 - 1) M) (fun x28 => b_bind (F_X12_readNumber u1 x28 M) (fun t => b_two t (fun x29 M30 => if x29 = 0 then (F_X12_readClause_b124 v1 0 M30) else (F_X12_readClause_b119 v1 M30)))))
theorem t_X12_readClause_b107 {l : Launch} {E : bE} {Q : (Int × bM) → Prop} {v1 : Int} {u1 : Int} {M : bM} (hfg : b_fg E) (h : b_wp (F_X12_readClause_b107 v1 u1 M) (Q)) : V l E xX12_readClause (0, 0) 107 [(0, bR 11), (1, bI v1)] [bI u1, bR 11] M (b_pI Q) := by
  unfold F_X12_readClause_b107 at h
  obtain ⟨g27, h⟩ := b_wp_g h
  refine v_iload_n (f := 1) 1 rfl dX12_readClause_107 ?_
  refine v_iconst ⟨by decide, by decide⟩ dX12_readClause_108 ?_
  refine v_isubN g27 dX12_readClause_109 ?_
  refine v_cSIp (nA := 1) (As := [bI _]) (ix := 478) (cf_X12_high (b_wp_b h)) rfl wc_X12_high wm_12_478 wi_X12_high wn_12 ⟨by decide, by decide, by decide⟩ rfl ⟨by decide, by decide⟩ ⟨by decide, by decide⟩ (Nat.le_of_ble_eq_true rfl) dX12_readClause_110 (fun x28 h => ?_)
  refine v_cVI (nA := 2) (As := [bI _, bI _]) (ix := 469) (cf_X12_readNumber hfg (b_wp_b h)) rfl kd_11 rfl rfl wc_X12_readNumber wm_12_469 wi_X12_readNumber ws_X12_readNumber wn_12 ⟨by decide, by decide, by decide⟩ rfl ⟨by decide, by decide⟩ ⟨by decide, by decide⟩ (Nat.le_of_ble_eq_true rfl) dX12_readClause_113 (fun x29 M30 h => ?_)
  replace h := b_wp_two h
  refine v_if_eq (tgt := 123) dX12_readClause_116 (by decide) (fun c31 => ?_) (fun c31 => ?_)
  · replace h := b_wp_t c31 h
    refine v_iconst ⟨by decide, by decide⟩ dX12_readClause_123 ?_
    exact t_X12_readClause_b124 hfg h
  · replace h := b_wp_f c31 h
    exact t_X12_readClause_b119 hfg h
noncomputable def F_X12_readClause_b102 (v1 : Int) (M : bM) : Option (Int × bM) :=
  F_X12_readClause_b107 v1 1 M
theorem t_X12_readClause_b102 {l : Launch} {E : bE} {Q : (Int × bM) → Prop} {v1 : Int} {M : bM} (hfg : b_fg E) (h : b_wp (F_X12_readClause_b102 v1 M) (Q)) : V l E xX12_readClause (0, 0) 102 [(0, bR 11), (1, bI v1)] [bR 11] M (b_pI Q) := by
  unfold F_X12_readClause_b102 at h
  refine v_iconst ⟨by decide, by decide⟩ dX12_readClause_102 ?_
  refine v_goto (tgt := 107) dX12_readClause_103 (by decide) ?_
  exact t_X12_readClause_b107 hfg h
noncomputable def F_X12_readClause (M : bM) : Option (Int × bM) :=
  if (M 11 3) = 1 then (b_bind (F_X12_in (M 11 4) 0 10 M) (fun x5 => if x5 = 0 then (F_X12_readClause_b21 M) else (if (M 11 4) = 0 then (b_bind (F_X12_readProof M) (fun t => b_two t (fun x36 M37 => F_X12_readClause_b144 x36 M37))) else (if (i_and (i_shr (M 11 51) (M 11 4)) 1) = 1 then (b_bind (F_X12_wrong 3 M) (fun t => b_two t (fun x33 M34 => b_g (x33 = 0 ∨ x33 = 1) (some (x33, M34))))) else (b_let (b_up M 11 51 (i_or (M 11 51) (i_shl 1 (M 11 4)))) (fun M9 => b_bind (F_X12_scan M9) (fun M10 => b_let (b_up M10 11 32 1) (fun M11 => if (M 11 4) = 9 then (F_X12_readClause_b119 (M 11 4) M11) else (if (M 11 4) = 6 then (F_X12_readClause_b102 (M 11 4) M11) else (if (M 11 4) = 7 then (F_X12_readClause_b102 (M 11 4) M11) else (F_X12_readClause_b107 (M 11 4) 0 M11))))))))))) else (F_X12_readClause_b21 M)
theorem t_X12_readClause {l : Launch} {E : bE} {Q : (Int × bM) → Prop} {M : bM} (hfg : b_fg E) (h : b_wp (F_X12_readClause M) (Q)) : V l E xX12_readClause (0, 0) 0 [(0, bR 11)] [] M (b_pI Q) := by
  unfold F_X12_readClause at h
  refine v_aload_n (f := 0) 0 rfl dX12_readClause_0 ?_
  refine v_getI (kf := 3) (kz := 3) rfl kd_11 rfl ⟨by decide, by decide⟩ rfl wf_12_316 dX12_readClause_1 ?_
  refine v_iconst ⟨by decide, by decide⟩ dX12_readClause_4 ?_
  refine v_icmp_ne (tgt := 21) dX12_readClause_5 (by decide) (fun c1 => ?_) (fun c1 => ?_)
  · replace h := b_wp_f c1 h
    exact t_X12_readClause_b21 hfg h
  · replace h := b_wp_t c1 h
    refine v_aload_n (f := 0) 0 rfl dX12_readClause_8 ?_
    refine v_getI (kf := 4) (kz := 4) rfl kd_11 rfl ⟨by decide, by decide⟩ rfl wf_12_313 dX12_readClause_9 ?_
    refine v_iconst ⟨by decide, by decide⟩ dX12_readClause_12 ?_
    refine v_bipush ⟨by decide, by decide⟩ (by decide) dX12_readClause_13 ?_
    refine v_cSIp (nA := 3) (As := [bI _, bI _, bI _]) (ix := 279) (cf_X12_in (b_wp_b h)) rfl wc_X12_in wm_12_279 wi_X12_in wn_12 ⟨by decide, by decide, by decide⟩ rfl ⟨by decide, by decide⟩ ⟨by decide, by decide⟩ (Nat.le_of_ble_eq_true rfl) dX12_readClause_15 (fun x5 h => ?_)
    refine v_if_ne (tgt := 27) dX12_readClause_18 (by decide) (fun c6 => ?_) (fun c6 => ?_)
    · replace h := b_wp_f c6 h
      refine v_aload_n (f := 0) 0 rfl dX12_readClause_27 ?_
      refine v_getI (kf := 4) (kz := 4) rfl kd_11 rfl ⟨by decide, by decide⟩ rfl wf_12_313 dX12_readClause_28 ?_
      refine v_istore_n (g := 1) (i := 1) (ls' := [(1, bI _), (0, bR _)]) rfl (by decide) dX12_readClause_31 rfl ?_
      refine v_iload_n (f := 1) 0 rfl dX12_readClause_32 ?_
      refine v_if_ne (tgt := 44) dX12_readClause_33 (by decide) (fun c7 => ?_) (fun c7 => ?_)
      · replace h := b_wp_f c7 h
        refine v_aload_n (f := 0) 1 rfl dX12_readClause_44 ?_
        refine v_getI (kf := 51) (kz := 51) rfl kd_11 rfl ⟨by decide, by decide⟩ rfl wf_12_475 dX12_readClause_45 ?_
        refine v_iload_n (f := 1) 0 rfl dX12_readClause_48 ?_
        refine v_ishr (v := i_shr _ _) rfl dX12_readClause_49 ?_
        refine v_iconst ⟨by decide, by decide⟩ dX12_readClause_50 ?_
        refine v_iand (v := i_and _ _) rfl dX12_readClause_51 ?_
        refine v_iconst ⟨by decide, by decide⟩ dX12_readClause_52 ?_
        refine v_icmp_ne (tgt := 62) dX12_readClause_53 (by decide) (fun c8 => ?_) (fun c8 => ?_)
        · replace h := b_wp_f c8 h
          refine v_aload_n (f := 0) 1 rfl dX12_readClause_62 ?_
          refine v_dup rfl dX12_readClause_63 ?_
          refine v_getI (kf := 51) (kz := 51) rfl kd_11 rfl ⟨by decide, by decide⟩ rfl wf_12_475 dX12_readClause_64 ?_
          refine v_iconst ⟨by decide, by decide⟩ dX12_readClause_67 ?_
          refine v_iload_n (f := 1) 0 rfl dX12_readClause_68 ?_
          refine v_ishl (v := i_shl _ _) rfl dX12_readClause_69 ?_
          refine v_ior (v := i_or _ _) rfl dX12_readClause_70 ?_
          refine v_putI (kf := 51) (kz := 51) rfl kd_11 rfl ⟨by decide, by decide⟩ rfl wf_12_475 rfl rfl dX12_readClause_71 ?_
          replace h := b_wp_l h
          refine v_aload_n (f := 0) 1 rfl dX12_readClause_74 ?_
          refine v_cVV (nA := 0) (As := []) (ix := 292) (cf_X12_scan hfg (b_wp_b h)) rfl kd_11 rfl rfl wc_X12_scan wm_12_292 wi_X12_scan ws_X12_scan wn_12 ⟨by decide, by decide, by decide⟩ rfl ⟨by decide, by decide⟩ ⟨by decide, by decide⟩ (Nat.le_of_ble_eq_true rfl) dX12_readClause_75 (fun M10 h => ?_)
          refine v_aload_n (f := 0) 1 rfl dX12_readClause_78 ?_
          refine v_iconst ⟨by decide, by decide⟩ dX12_readClause_79 ?_
          refine v_putI (kf := 32) (kz := 32) rfl kd_11 rfl ⟨by decide, by decide⟩ rfl wf_12_392 rfl rfl dX12_readClause_80 ?_
          replace h := b_wp_l h
          refine v_iload_n (f := 1) 0 rfl dX12_readClause_83 ?_
          refine v_bipush ⟨by decide, by decide⟩ (by decide) dX12_readClause_84 ?_
          refine v_icmp_eq (tgt := 119) dX12_readClause_86 (by decide) (fun c12 => ?_) (fun c12 => ?_)
          · replace h := b_wp_t c12 h
            refine v_sub (ls2 := [(0, bR _), (1, bI _)]) [1, 0] rfl ?_
            exact t_X12_readClause_b119 hfg h
          · replace h := b_wp_f c12 h
            refine v_aload_n (f := 0) 1 rfl dX12_readClause_89 ?_
            refine v_iload_n (f := 1) 0 rfl dX12_readClause_90 ?_
            refine v_bipush ⟨by decide, by decide⟩ (by decide) dX12_readClause_91 ?_
            refine v_icmp_eq (tgt := 102) dX12_readClause_93 (by decide) (fun c26 => ?_) (fun c26 => ?_)
            · replace h := b_wp_t c26 h
              refine v_sub (ls2 := [(0, bR _), (1, bI _)]) [1, 0] rfl ?_
              exact t_X12_readClause_b102 hfg h
            · replace h := b_wp_f c26 h
              refine v_iload_n (f := 1) 0 rfl dX12_readClause_96 ?_
              refine v_bipush ⟨by decide, by decide⟩ (by decide) dX12_readClause_97 ?_
              refine v_icmp_ne (tgt := 106) dX12_readClause_99 (by decide) (fun c32 => ?_) (fun c32 => ?_)
              · replace h := b_wp_f c32 h
                refine v_iconst ⟨by decide, by decide⟩ dX12_readClause_106 ?_
                refine v_sub (ls2 := [(0, bR _), (1, bI _)]) [1, 0] rfl ?_
                exact t_X12_readClause_b107 hfg h
              · replace h := b_wp_t c32 h
                refine v_sub (ls2 := [(0, bR _), (1, bI _)]) [1, 0] rfl ?_
                exact t_X12_readClause_b102 hfg h
        · replace h := b_wp_t c8 h
          refine v_aload_n (f := 0) 1 rfl dX12_readClause_56 ?_
          refine v_iconst ⟨by decide, by decide⟩ dX12_readClause_57 ?_
          refine v_cVI (nA := 1) (As := [bI _]) (ix := 389) (cf_X12_wrong (b_wp_b h)) rfl kd_11 rfl rfl wc_X12_wrong wm_12_389 wi_X12_wrong ws_X12_wrong wn_12 ⟨by decide, by decide, by decide⟩ rfl ⟨by decide, by decide⟩ ⟨by decide, by decide⟩ (Nat.le_of_ble_eq_true rfl) dX12_readClause_58 (fun x33 M34 h => ?_)
          replace h := b_wp_two h
          obtain ⟨g35, h⟩ := b_wp_g h
          refine v_zreturn rfl g35 dX12_readClause_61 ⟨by decide, by decide⟩ ?_
          exact ⟨_, rfl, h⟩
      · replace h := b_wp_t c7 h
        refine v_aload_n (f := 0) 1 rfl dX12_readClause_36 ?_
        refine v_cVI (nA := 0) (As := []) (ix := 472) (cf_X12_readProof hfg (b_wp_b h)) rfl kd_11 rfl rfl wc_X12_readProof wm_12_472 wi_X12_readProof ws_X12_readProof wn_12 ⟨by decide, by decide, by decide⟩ rfl ⟨by decide, by decide⟩ ⟨by decide, by decide⟩ (Nat.le_of_ble_eq_true rfl) dX12_readClause_37 (fun x36 M37 h => ?_)
        replace h := b_wp_two h
        refine v_istore_n (g := 2) (i := 2) (ls' := [(2, bI _), (1, bI _), (0, bR _)]) rfl (by decide) dX12_readClause_40 rfl ?_
        refine v_goto (tgt := 144) dX12_readClause_41 (by decide) ?_
        refine v_sub (ls2 := [(0, bR _), (2, bI _)]) [2, 0] rfl ?_
        exact t_X12_readClause_b144 hfg h
    · replace h := b_wp_t c6 h
      exact t_X12_readClause_b21 hfg h
theorem cf_X12_readClause {l : Launch} {E : bE} {M : bM} (hfg : b_fg E) {Q : (Int × bM) → Prop} (h : b_wp (F_X12_readClause M) Q) : b_C l E xX12_readClause yX12_readClause [bR 11] M (b_pI Q) := b_met (by decide) ⟨rfl, rfl⟩ (Nat.le_of_ble_eq_true rfl) (fun _ _ => t_X12_readClause hfg h)
