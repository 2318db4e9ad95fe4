abbrev xX12_looked : bX := ("BurntHallModel", prog_14_method_130_code, 2, (Option.some Jvm.ClassFile.FieldType.int), b_rm 1 0 0, 0, "looked")
abbrev yX12_looked : MethodName := ⟨"BurntHallModel", "looked", "(I)I"⟩
theorem dX12_looked_0 : decode prog_14_method_130_code 0 = .ok (.iload_n 1, 1) := by decide +kernel
theorem dX12_looked_1 : decode prog_14_method_130_code 1 = .ok (.ifCond .ne 10, 3) := by decide +kernel
theorem dX12_looked_4 : decode prog_14_method_130_code 4 = .ok (.aload_n 0, 1) := by decide +kernel
theorem dX12_looked_5 : decode prog_14_method_130_code 5 = .ok (.getfield 266, 3) := by decide +kernel
theorem dX12_looked_8 : decode prog_14_method_130_code 8 = .ok (.goto 16, 3) := by decide +kernel
theorem dX12_looked_11 : decode prog_14_method_130_code 11 = .ok (.iload_n 1, 1) := by decide +kernel
theorem dX12_looked_12 : decode prog_14_method_130_code 12 = .ok (.iconst 1, 1) := by decide +kernel
theorem dX12_looked_13 : decode prog_14_method_130_code 13 = .ok (.if_icmp .ne 10, 3) := by decide +kernel
theorem dX12_looked_16 : decode prog_14_method_130_code 16 = .ok (.aload_n 0, 1) := by decide +kernel
theorem dX12_looked_17 : decode prog_14_method_130_code 17 = .ok (.getfield 269, 3) := by decide +kernel
theorem dX12_looked_20 : decode prog_14_method_130_code 20 = .ok (.goto 4, 3) := by decide +kernel
theorem dX12_looked_23 : decode prog_14_method_130_code 23 = .ok (.iconst (-1), 1) := by decide +kernel
theorem dX12_looked_24 : decode prog_14_method_130_code 24 = .ok (.ireturn, 1) := by decide +kernel
noncomputable def F_X12_looked (v1 : Int) (M : bM) : Option (Int) :=
  if v1 = 0 then (some (M 11 122)) else (if v1 = 1 then (some (M 11 123)) else (some (-1)))
theorem t_X12_looked {l : Launch} {E : bE} {Q : Int → Prop} {v1 : Int} {M : bM} (h : b_wp (F_X12_looked v1 M) (Q)) : V l E xX12_looked (0, 0) 0 [(0, bR 11), (1, bI v1)] [] M (b_pIp M Q) := by
  unfold F_X12_looked at h
  refine v_iload_n (f := 1) 1 rfl dX12_looked_0 ?_
  refine v_if_ne (tgt := 11) dX12_looked_1 (by decide) (fun c1 => ?_) (fun c1 => ?_)
  · replace h := b_wp_f c1 h
    refine v_iload_n (f := 1) 1 rfl dX12_looked_11 ?_
    refine v_iconst ⟨by decide, by decide⟩ dX12_looked_12 ?_
    refine v_icmp_ne (tgt := 23) dX12_looked_13 (by decide) (fun c2 => ?_) (fun c2 => ?_)
    · replace h := b_wp_f c2 h
      refine v_iconst ⟨by decide, by decide⟩ dX12_looked_23 ?_
      refine v_ireturn rfl dX12_looked_24 ⟨by decide, by decide⟩ ?_
      exact ⟨_, rfl, rfl, h⟩
    · replace h := b_wp_t c2 h
      refine v_aload_n (f := 0) 0 rfl dX12_looked_16 ?_
      refine v_getI (kf := 123) (kz := 123) rfl kd_11 rfl ⟨by decide, by decide⟩ rfl wf_12_269 dX12_looked_17 ?_
      refine v_goto (tgt := 24) dX12_looked_20 (by decide) ?_
      refine v_ireturn rfl dX12_looked_24 ⟨by decide, by decide⟩ ?_
      exact ⟨_, rfl, rfl, h⟩
  · replace h := b_wp_t c1 h
    refine v_aload_n (f := 0) 0 rfl dX12_looked_4 ?_
    refine v_getI (kf := 122) (kz := 122) rfl kd_11 rfl ⟨by decide, by decide⟩ rfl wf_12_266 dX12_looked_5 ?_
    refine v_goto (tgt := 24) dX12_looked_8 (by decide) ?_
    refine v_ireturn rfl dX12_looked_24 ⟨by decide, by decide⟩ ?_
    exact ⟨_, rfl, rfl, h⟩
theorem cf_X12_looked {l : Launch} {E : bE} {M : bM} {v1 : Int} {Q : Int → Prop} (h : b_wp (F_X12_looked v1 M) Q) : b_C l E xX12_looked yX12_looked [bR 11, bI v1] M (b_pIp M Q) := b_met (by decide) ⟨rfl, rfl⟩ (Nat.le_of_ble_eq_true rfl) (fun _ _ => t_X12_looked h)
abbrev xX12_count : bX := ("BurntHallModel", prog_14_method_131_code, 4, (Option.some Jvm.ClassFile.FieldType.int), b_rm 3 0 0, 0, "count")
abbrev yX12_count : MethodName := ⟨"BurntHallModel", "count", "(I)I"⟩
theorem dX12_count_0 : decode prog_14_method_131_code 0 = .ok (.iconst 0, 1) := by decide +kernel
theorem dX12_count_1 : decode prog_14_method_131_code 1 = .ok (.istore_n 2, 1) := by decide +kernel
theorem dX12_count_2 : decode prog_14_method_131_code 2 = .ok (.iload_n 1, 1) := by decide +kernel
theorem dX12_count_3 : decode prog_14_method_131_code 3 = .ok (.tableswitch 121 0 11 #[61, 66, 71, 76, 81, 86, 91, 96, 101, 106, 111, 116], 61) := by decide +kernel
theorem dX12_count_64 : decode prog_14_method_131_code 64 = .ok (.aload_n 0, 1) := by decide +kernel
theorem dX12_count_65 : decode prog_14_method_131_code 65 = .ok (.getfield 344, 3) := by decide +kernel
theorem dX12_count_68 : decode prog_14_method_131_code 68 = .ok (.ireturn, 1) := by decide +kernel
theorem dX12_count_69 : decode prog_14_method_131_code 69 = .ok (.aload_n 0, 1) := by decide +kernel
theorem dX12_count_70 : decode prog_14_method_131_code 70 = .ok (.getfield 350, 3) := by decide +kernel
theorem dX12_count_73 : decode prog_14_method_131_code 73 = .ok (.ireturn, 1) := by decide +kernel
theorem dX12_count_74 : decode prog_14_method_131_code 74 = .ok (.aload_n 0, 1) := by decide +kernel
theorem dX12_count_75 : decode prog_14_method_131_code 75 = .ok (.getfield 353, 3) := by decide +kernel
theorem dX12_count_78 : decode prog_14_method_131_code 78 = .ok (.ireturn, 1) := by decide +kernel
theorem dX12_count_79 : decode prog_14_method_131_code 79 = .ok (.aload_n 0, 1) := by decide +kernel
theorem dX12_count_80 : decode prog_14_method_131_code 80 = .ok (.getfield 374, 3) := by decide +kernel
theorem dX12_count_83 : decode prog_14_method_131_code 83 = .ok (.ireturn, 1) := by decide +kernel
theorem dX12_count_84 : decode prog_14_method_131_code 84 = .ok (.aload_n 0, 1) := by decide +kernel
theorem dX12_count_85 : decode prog_14_method_131_code 85 = .ok (.getfield 487, 3) := by decide +kernel
theorem dX12_count_88 : decode prog_14_method_131_code 88 = .ok (.ireturn, 1) := by decide +kernel
theorem dX12_count_89 : decode prog_14_method_131_code 89 = .ok (.aload_n 0, 1) := by decide +kernel
theorem dX12_count_90 : decode prog_14_method_131_code 90 = .ok (.getfield 496, 3) := by decide +kernel
theorem dX12_count_93 : decode prog_14_method_131_code 93 = .ok (.ireturn, 1) := by decide +kernel
theorem dX12_count_94 : decode prog_14_method_131_code 94 = .ok (.aload_n 0, 1) := by decide +kernel
theorem dX12_count_95 : decode prog_14_method_131_code 95 = .ok (.getfield 502, 3) := by decide +kernel
theorem dX12_count_98 : decode prog_14_method_131_code 98 = .ok (.ireturn, 1) := by decide +kernel
theorem dX12_count_99 : decode prog_14_method_131_code 99 = .ok (.aload_n 0, 1) := by decide +kernel
theorem dX12_count_100 : decode prog_14_method_131_code 100 = .ok (.getfield 623, 3) := by decide +kernel
theorem dX12_count_103 : decode prog_14_method_131_code 103 = .ok (.ireturn, 1) := by decide +kernel
theorem dX12_count_104 : decode prog_14_method_131_code 104 = .ok (.aload_n 0, 1) := by decide +kernel
theorem dX12_count_105 : decode prog_14_method_131_code 105 = .ok (.getfield 635, 3) := by decide +kernel
theorem dX12_count_108 : decode prog_14_method_131_code 108 = .ok (.ireturn, 1) := by decide +kernel
theorem dX12_count_109 : decode prog_14_method_131_code 109 = .ok (.aload_n 0, 1) := by decide +kernel
theorem dX12_count_110 : decode prog_14_method_131_code 110 = .ok (.getfield 647, 3) := by decide +kernel
theorem dX12_count_113 : decode prog_14_method_131_code 113 = .ok (.ireturn, 1) := by decide +kernel
theorem dX12_count_114 : decode prog_14_method_131_code 114 = .ok (.aload_n 0, 1) := by decide +kernel
theorem dX12_count_115 : decode prog_14_method_131_code 115 = .ok (.getfield 651, 3) := by decide +kernel
theorem dX12_count_118 : decode prog_14_method_131_code 118 = .ok (.ireturn, 1) := by decide +kernel
theorem dX12_count_119 : decode prog_14_method_131_code 119 = .ok (.aload_n 0, 1) := by decide +kernel
theorem dX12_count_120 : decode prog_14_method_131_code 120 = .ok (.getfield 283, 3) := by decide +kernel
theorem dX12_count_123 : decode prog_14_method_131_code 123 = .ok (.ireturn, 1) := by decide +kernel
theorem dX12_count_124 : decode prog_14_method_131_code 124 = .ok (.iload_n 1, 1) := by decide +kernel
theorem dX12_count_125 : decode prog_14_method_131_code 125 = .ok (.bipush 20, 2) := by decide +kernel
theorem dX12_count_127 : decode prog_14_method_131_code 127 = .ok (.bipush 23, 2) := by decide +kernel
theorem dX12_count_129 : decode prog_14_method_131_code 129 = .ok (.invokestatic 279, 3) := by decide +kernel
theorem dX12_count_132 : decode prog_14_method_131_code 132 = .ok (.ifCond .ne 5, 3) := by decide +kernel
theorem dX12_count_135 : decode prog_14_method_131_code 135 = .ok (.iconst (-1), 1) := by decide +kernel
theorem dX12_count_136 : decode prog_14_method_131_code 136 = .ok (.ireturn, 1) := by decide +kernel
theorem dX12_count_137 : decode prog_14_method_131_code 137 = .ok (.iconst 0, 1) := by decide +kernel
theorem dX12_count_138 : decode prog_14_method_131_code 138 = .ok (.istore_n 3, 1) := by decide +kernel
theorem dX12_count_139 : decode prog_14_method_131_code 139 = .ok (.iload_n 3, 1) := by decide +kernel
theorem dX12_count_140 : decode prog_14_method_131_code 140 = .ok (.aload_n 0, 1) := by decide +kernel
theorem dX12_count_141 : decode prog_14_method_131_code 141 = .ok (.getfield 635, 3) := by decide +kernel
theorem dX12_count_144 : decode prog_14_method_131_code 144 = .ok (.if_icmp .ge 29, 3) := by decide +kernel
theorem dX12_count_147 : decode prog_14_method_131_code 147 = .ok (.iload_n 2, 1) := by decide +kernel
theorem dX12_count_148 : decode prog_14_method_131_code 148 = .ok (.aload_n 0, 1) := by decide +kernel
theorem dX12_count_149 : decode prog_14_method_131_code 149 = .ok (.iload_n 3, 1) := by decide +kernel
theorem dX12_count_150 : decode prog_14_method_131_code 150 = .ok (.invokevirtual 644, 3) := by decide +kernel
theorem dX12_count_153 : decode prog_14_method_131_code 153 = .ok (.iload_n 1, 1) := by decide +kernel
theorem dX12_count_154 : decode prog_14_method_131_code 154 = .ok (.bipush 20, 2) := by decide +kernel
theorem dX12_count_156 : decode prog_14_method_131_code 156 = .ok (.isub, 1) := by decide +kernel
theorem dX12_count_157 : decode prog_14_method_131_code 157 = .ok (.if_icmp .ne 7, 3) := by decide +kernel
theorem dX12_count_160 : decode prog_14_method_131_code 160 = .ok (.iconst 1, 1) := by decide +kernel
theorem dX12_count_161 : decode prog_14_method_131_code 161 = .ok (.goto 4, 3) := by decide +kernel
theorem dX12_count_164 : decode prog_14_method_131_code 164 = .ok (.iconst 0, 1) := by decide +kernel
theorem dX12_count_165 : decode prog_14_method_131_code 165 = .ok (.iadd, 1) := by decide +kernel
theorem dX12_count_166 : decode prog_14_method_131_code 166 = .ok (.istore_n 2, 1) := by decide +kernel
theorem dX12_count_167 : decode prog_14_method_131_code 167 = .ok (.iinc 3 1, 3) := by decide +kernel
theorem dX12_count_170 : decode prog_14_method_131_code 170 = .ok (.goto (-31), 3) := by decide +kernel
theorem dX12_count_173 : decode prog_14_method_131_code 173 = .ok (.iload_n 2, 1) := by decide +kernel
theorem dX12_count_174 : decode prog_14_method_131_code 174 = .ok (.ireturn, 1) := by decide +kernel
abbrev A_X12_count_139 (l : Launch) (E : bE) (Q : Int → Prop) (v1 : Int) (M : bM) : (Int × Int) → Prop := (fun t : Int × Int => V l E xX12_count (0, 0) 139 [(0, bR 11), (1, bI v1), (2, bI (t.1)), (3, bI (t.2))] [] M (b_pIp M Q))
abbrev X_X12_count_139 (l : Launch) (E : bE) (Q : Int → Prop) (v1 : Int) (M : bM) : (Int) → Prop := (fun t : Int => V l E xX12_count (0, 0) 173 [(2, bI t)] [] M (b_pIp M Q))
noncomputable def F_X12_count_b165 (v1 : Int) (v3 : Int) (u0 : Int) (u1 : Int) (M : bM) : Option ((Int × Int) ⊕ (Int)) :=
  b_g ((b_i32 (u0 + u1)) ∧ (b_i32 (v3 + 1))) (some (.inl ((u0 + u1), (v3 + 1))))
theorem t_X12_count_b165 {l : Launch} {E : bE} {Q : Int → Prop} {v1 : Int} {v3 : Int} {u0 : Int} {u1 : Int} {M : bM} (h : b_wp (F_X12_count_b165 v1 v3 u0 u1 M) (Sum.elim (A_X12_count_139 l E Q v1 M) (X_X12_count_139 l E Q v1 M))) : V l E xX12_count (0, 0) 165 [(0, bR 11), (1, bI v1), (3, bI v3)] [bI u1, bI u0] M (b_pIp M Q) := by
  unfold F_X12_count_b165 at h
  obtain ⟨⟨g31, g32⟩, h⟩ := b_wp_g h
  refine v_iaddN g31 dX12_count_165 ?_
  refine v_istore_n (g := 2) (i := 2) (ls' := [(2, bI _), (0, bR _), (1, bI _), (3, bI _)]) rfl (by decide) dX12_count_166 rfl ?_
  refine v_iincN (ls' := [(3, bI _), (2, bI _), (0, bR _), (1, bI _)]) 3 rfl (by decide) g32 dX12_count_167 rfl ?_
  refine v_goto (tgt := 139) dX12_count_170 (by decide) ?_
  refine v_sub (ls2 := [(0, bR _), (1, bI _), (2, bI _), (3, bI _)]) [2, 3, 1, 0] rfl ?_
  exact h
noncomputable def F_X12_count_s139 (v1 : Int) (v2 : Int) (v3 : Int) (M : bM) : Option ((Int × Int) ⊕ (Int)) :=
  if (M 11 106) ≤ v3 then (some (.inr (v2))) else (b_bind (F_X12_ruledAs v3 M) (fun x28 => b_g (b_i32 (v1 - 20)) (if x28 = (v1 - 20) then (F_X12_count_b165 v1 v3 v2 1 M) else (F_X12_count_b165 v1 v3 v2 0 M))))
theorem t_X12_count_s139 {l : Launch} {E : bE} {Q : Int → Prop} {v1 : Int} {v2 : Int} {v3 : Int} {M : bM} (h : b_wp (F_X12_count_s139 v1 v2 v3 M) (Sum.elim (A_X12_count_139 l E Q v1 M) (X_X12_count_139 l E Q v1 M))) : V l E xX12_count (0, 0) 139 [(0, bR 11), (1, bI v1), (2, bI v2), (3, bI v3)] [] M (b_pIp M Q) := by
  unfold F_X12_count_s139 at h
  refine v_iload_n (f := 3) 3 rfl dX12_count_139 ?_
  refine v_aload_n (f := 0) 0 rfl dX12_count_140 ?_
  refine v_getI (kf := 106) (kz := 106) rfl kd_11 rfl ⟨by decide, by decide⟩ rfl wf_12_635 dX12_count_141 ?_
  refine v_icmp_ge (tgt := 173) dX12_count_144 (by decide) (fun c27 => ?_) (fun c27 => ?_)
  · replace h := b_wp_t c27 h
    refine v_sub (ls2 := [(2, bI _)]) [2] rfl ?_
    exact h
  · replace h := b_wp_f c27 h
    refine v_iload_n (f := 2) 2 rfl dX12_count_147 ?_
    refine v_aload_n (f := 0) 0 rfl dX12_count_148 ?_
    refine v_iload_n (f := 3) 3 rfl dX12_count_149 ?_
    refine v_cVIp (nA := 1) (As := [bI _]) (ix := 644) (cf_X12_ruledAs (b_wp_b h)) rfl kd_11 rfl rfl wc_X12_ruledAs wm_12_644 wi_X12_ruledAs ws_X12_ruledAs wn_12 ⟨by decide, by decide, by decide⟩ rfl ⟨by decide, by decide⟩ ⟨by decide, by decide⟩ (Nat.le_of_ble_eq_true rfl) dX12_count_150 (fun x28 h => ?_)
    obtain ⟨g29, h⟩ := b_wp_g h
    refine v_iload_n (f := 1) 1 rfl dX12_count_153 ?_
    refine v_bipush ⟨by decide, by decide⟩ (by decide) dX12_count_154 ?_
    refine v_isubN g29 dX12_count_156 ?_
    refine v_icmp_ne (tgt := 164) dX12_count_157 (by decide) (fun c30 => ?_) (fun c30 => ?_)
    · replace h := b_wp_f c30 h
      refine v_iconst ⟨by decide, by decide⟩ dX12_count_164 ?_
      refine v_sub (ls2 := [(0, bR _), (1, bI _), (3, bI _)]) [0, 1, 3] rfl ?_
      exact t_X12_count_b165 h
    · replace h := b_wp_t c30 h
      refine v_iconst ⟨by decide, by decide⟩ dX12_count_160 ?_
      refine v_goto (tgt := 165) dX12_count_161 (by decide) ?_
      refine v_sub (ls2 := [(0, bR _), (1, bI _), (3, bI _)]) [0, 1, 3] rfl ?_
      exact t_X12_count_b165 h
theorem l_X12_count_139 {l : Launch} {E : bE} {Q : Int → Prop} {v1 : Int} {M : bM} {s : Int × Int} (h : b_wp (b_loop (fun t => F_X12_count_s139 v1 t.1 t.2 M) s) (X_X12_count_139 l E Q v1 M)) : A_X12_count_139 l E Q v1 M s := b_loop_wp (fun t h => t_X12_count_s139 h) s h
noncomputable def F_X12_count_b173 (v2 : Int) (M : bM) : Option (Int) :=
  some v2
theorem t_X12_count_b173 {l : Launch} {E : bE} {Q : Int → Prop} {v2 : Int} {M : bM} (h : b_wp (F_X12_count_b173 v2 M) (Q)) : V l E xX12_count (0, 0) 173 [(2, bI v2)] [] M (b_pIp M Q) := by
  unfold F_X12_count_b173 at h
  refine v_iload_n (f := 2) 0 rfl dX12_count_173 ?_
  refine v_ireturn rfl dX12_count_174 ⟨by decide, by decide⟩ ?_
  exact ⟨_, rfl, rfl, h⟩
noncomputable def F_X12_count (v1 : Int) (M : bM) : Option (Int) :=
  if v1 = 0 then (some (M 11 11)) else (if v1 = 1 then (some (M 11 12)) else (if v1 = 2 then (some (M 11 13)) else (if v1 = 3 then (some (M 11 20)) else (if v1 = 4 then (some (M 11 35)) else (if v1 = 5 then (some (M 11 52)) else (if v1 = 6 then (some (M 11 53)) else (if v1 = 7 then (some (M 11 99)) else (if v1 = 8 then (some (M 11 106)) else (if v1 = 9 then (some (M 11 107)) else (if v1 = 10 then (some (M 11 118)) else (if v1 = 11 then (some (M 11 1)) else (b_bind (F_X12_in v1 20 23 M) (fun x25 => if x25 = 0 then (some (-1)) else (b_bind (b_loop (fun t => F_X12_count_s139 v1 t.1 t.2 M) (0, 0)) (fun t => F_X12_count_b173 t M)))))))))))))))
theorem t_X12_count {l : Launch} {E : bE} {Q : Int → Prop} {v1 : Int} {M : bM} (h : b_wp (F_X12_count v1 M) (Q)) : V l E xX12_count (0, 0) 0 [(0, bR 11), (1, bI v1)] [] M (b_pIp M Q) := by
  unfold F_X12_count at h
  refine v_iconst ⟨by decide, by decide⟩ dX12_count_0 ?_
  refine v_istore_n (g := 2) (i := 2) (ls' := [(2, bI _), (0, bR _), (1, bI _)]) rfl (by decide) dX12_count_1 rfl ?_
  refine v_iload_n (f := 1) 2 rfl dX12_count_2 ?_
  refine v_case (v := 0) (fun c1 => ?_) (fun c2 => ?_)
  · refine v_tsIn (tgt := 64) (0) c1 (by decide) (by decide) rfl dX12_count_3 (by decide) ?_
    replace h := b_wp_t c1 h
    refine v_aload_n (f := 0) 1 rfl dX12_count_64 ?_
    refine v_getI (kf := 11) (kz := 11) rfl kd_11 rfl ⟨by decide, by decide⟩ rfl wf_12_344 dX12_count_65 ?_
    refine v_ireturn rfl dX12_count_68 ⟨by decide, by decide⟩ ?_
    exact ⟨_, rfl, rfl, h⟩
  replace h := b_wp_f c2 h
  refine v_case (v := 1) (fun c3 => ?_) (fun c4 => ?_)
  · refine v_tsIn (tgt := 69) (1) c3 (by decide) (by decide) rfl dX12_count_3 (by decide) ?_
    replace h := b_wp_t c3 h
    refine v_aload_n (f := 0) 1 rfl dX12_count_69 ?_
    refine v_getI (kf := 12) (kz := 12) rfl kd_11 rfl ⟨by decide, by decide⟩ rfl wf_12_350 dX12_count_70 ?_
    refine v_ireturn rfl dX12_count_73 ⟨by decide, by decide⟩ ?_
    exact ⟨_, rfl, rfl, h⟩
  replace h := b_wp_f c4 h
  refine v_case (v := 2) (fun c5 => ?_) (fun c6 => ?_)
  · refine v_tsIn (tgt := 74) (2) c5 (by decide) (by decide) rfl dX12_count_3 (by decide) ?_
    replace h := b_wp_t c5 h
    refine v_aload_n (f := 0) 1 rfl dX12_count_74 ?_
    refine v_getI (kf := 13) (kz := 13) rfl kd_11 rfl ⟨by decide, by decide⟩ rfl wf_12_353 dX12_count_75 ?_
    refine v_ireturn rfl dX12_count_78 ⟨by decide, by decide⟩ ?_
    exact ⟨_, rfl, rfl, h⟩
  replace h := b_wp_f c6 h
  refine v_case (v := 3) (fun c7 => ?_) (fun c8 => ?_)
  · refine v_tsIn (tgt := 79) (3) c7 (by decide) (by decide) rfl dX12_count_3 (by decide) ?_
    replace h := b_wp_t c7 h
    refine v_aload_n (f := 0) 1 rfl dX12_count_79 ?_
    refine v_getI (kf := 20) (kz := 20) rfl kd_11 rfl ⟨by decide, by decide⟩ rfl wf_12_374 dX12_count_80 ?_
    refine v_ireturn rfl dX12_count_83 ⟨by decide, by decide⟩ ?_
    exact ⟨_, rfl, rfl, h⟩
  replace h := b_wp_f c8 h
  refine v_case (v := 4) (fun c9 => ?_) (fun c10 => ?_)
  · refine v_tsIn (tgt := 84) (4) c9 (by decide) (by decide) rfl dX12_count_3 (by decide) ?_
    replace h := b_wp_t c9 h
    refine v_aload_n (f := 0) 1 rfl dX12_count_84 ?_
    refine v_getI (kf := 35) (kz := 35) rfl kd_11 rfl ⟨by decide, by decide⟩ rfl wf_12_487 dX12_count_85 ?_
    refine v_ireturn rfl dX12_count_88 ⟨by decide, by decide⟩ ?_
    exact ⟨_, rfl, rfl, h⟩
  replace h := b_wp_f c10 h
  refine v_case (v := 5) (fun c11 => ?_) (fun c12 => ?_)
  · refine v_tsIn (tgt := 89) (5) c11 (by decide) (by decide) rfl dX12_count_3 (by decide) ?_
    replace h := b_wp_t c11 h
    refine v_aload_n (f := 0) 1 rfl dX12_count_89 ?_
    refine v_getI (kf := 52) (kz := 52) rfl kd_11 rfl ⟨by decide, by decide⟩ rfl wf_12_496 dX12_count_90 ?_
    refine v_ireturn rfl dX12_count_93 ⟨by decide, by decide⟩ ?_
    exact ⟨_, rfl, rfl, h⟩
  replace h := b_wp_f c12 h
  refine v_case (v := 6) (fun c13 => ?_) (fun c14 => ?_)
  · refine v_tsIn (tgt := 94) (6) c13 (by decide) (by decide) rfl dX12_count_3 (by decide) ?_
    replace h := b_wp_t c13 h
    refine v_aload_n (f := 0) 1 rfl dX12_count_94 ?_
    refine v_getI (kf := 53) (kz := 53) rfl kd_11 rfl ⟨by decide, by decide⟩ rfl wf_12_502 dX12_count_95 ?_
    refine v_ireturn rfl dX12_count_98 ⟨by decide, by decide⟩ ?_
    exact ⟨_, rfl, rfl, h⟩
  replace h := b_wp_f c14 h
  refine v_case (v := 7) (fun c15 => ?_) (fun c16 => ?_)
  · refine v_tsIn (tgt := 99) (7) c15 (by decide) (by decide) rfl dX12_count_3 (by decide) ?_
    replace h := b_wp_t c15 h
    refine v_aload_n (f := 0) 1 rfl dX12_count_99 ?_
    refine v_getI (kf := 99) (kz := 99) rfl kd_11 rfl ⟨by decide, by decide⟩ rfl wf_12_623 dX12_count_100 ?_
    refine v_ireturn rfl dX12_count_103 ⟨by decide, by decide⟩ ?_
    exact ⟨_, rfl, rfl, h⟩
  replace h := b_wp_f c16 h
  refine v_case (v := 8) (fun c17 => ?_) (fun c18 => ?_)
  · refine v_tsIn (tgt := 104) (8) c17 (by decide) (by decide) rfl dX12_count_3 (by decide) ?_
    replace h := b_wp_t c17 h
    refine v_aload_n (f := 0) 1 rfl dX12_count_104 ?_
    refine v_getI (kf := 106) (kz := 106) rfl kd_11 rfl ⟨by decide, by decide⟩ rfl wf_12_635 dX12_count_105 ?_
    refine v_ireturn rfl dX12_count_108 ⟨by decide, by decide⟩ ?_
    exact ⟨_, rfl, rfl, h⟩
  replace h := b_wp_f c18 h
  refine v_case (v := 9) (fun c19 => ?_) (fun c20 => ?_)
  · refine v_tsIn (tgt := 109) (9) c19 (by decide) (by decide) rfl dX12_count_3 (by decide) ?_
    replace h := b_wp_t c19 h
    refine v_aload_n (f := 0) 1 rfl dX12_count_109 ?_
    refine v_getI (kf := 107) (kz := 107) rfl kd_11 rfl ⟨by decide, by decide⟩ rfl wf_12_647 dX12_count_110 ?_
    refine v_ireturn rfl dX12_count_113 ⟨by decide, by decide⟩ ?_
    exact ⟨_, rfl, rfl, h⟩
  replace h := b_wp_f c20 h
  refine v_case (v := 10) (fun c21 => ?_) (fun c22 => ?_)
  · refine v_tsIn (tgt := 114) (10) c21 (by decide) (by decide) rfl dX12_count_3 (by decide) ?_
    replace h := b_wp_t c21 h
    refine v_aload_n (f := 0) 1 rfl dX12_count_114 ?_
    refine v_getI (kf := 118) (kz := 118) rfl kd_11 rfl ⟨by decide, by decide⟩ rfl wf_12_651 dX12_count_115 ?_
    refine v_ireturn rfl dX12_count_118 ⟨by decide, by decide⟩ ?_
    exact ⟨_, rfl, rfl, h⟩
  replace h := b_wp_f c22 h
  refine v_case (v := 11) (fun c23 => ?_) (fun c24 => ?_)
  · refine v_tsIn (tgt := 119) (11) c23 (by decide) (by decide) rfl dX12_count_3 (by decide) ?_
    replace h := b_wp_t c23 h
    refine v_aload_n (f := 0) 1 rfl dX12_count_119 ?_
    refine v_getI (kf := 1) (kz := 1) rfl kd_11 rfl ⟨by decide, by decide⟩ rfl wf_12_283 dX12_count_120 ?_
    refine v_ireturn rfl dX12_count_123 ⟨by decide, by decide⟩ ?_
    exact ⟨_, rfl, rfl, h⟩
  replace h := b_wp_f c24 h
  refine v_tsOut (tgt := 124) (by omega) dX12_count_3 (by decide) ?_
  refine v_iload_n (f := 1) 2 rfl dX12_count_124 ?_
  refine v_bipush ⟨by decide, by decide⟩ (by decide) dX12_count_125 ?_
  refine v_bipush ⟨by decide, by decide⟩ (by decide) dX12_count_127 ?_
  refine v_cSIp (nA := 3) (As := [bI _, bI _, bI _]) (ix := 279) (cf_X12_in (b_wp_b h)) rfl wc_X12_in wm_12_279 wi_X12_in wn_12 ⟨by decide, by decide, by decide⟩ rfl ⟨by decide, by decide⟩ ⟨by decide, by decide⟩ (Nat.le_of_ble_eq_true rfl) dX12_count_129 (fun x25 h => ?_)
  refine v_if_ne (tgt := 137) dX12_count_132 (by decide) (fun c26 => ?_) (fun c26 => ?_)
  · replace h := b_wp_f c26 h
    refine v_iconst ⟨by decide, by decide⟩ dX12_count_137 ?_
    refine v_istore_n (g := 3) (i := 3) (ls' := [(3, bI _), (2, bI _), (0, bR _), (1, bI _)]) rfl (by decide) dX12_count_138 rfl ?_
    refine v_sub (ls2 := [(0, bR _), (1, bI _), (2, bI _), (3, bI _)]) [2, 3, 1, 0] rfl ?_
    refine l_X12_count_139 (b_wp_m (fun t h => ?_) (b_wp_b h))
    show V l E xX12_count (0, 0) 173 [(2, bI t)] [] M (b_pIp M Q)
    replace h : b_wp (F_X12_count_b173 t M) _ := h
    exact t_X12_count_b173 h
  · replace h := b_wp_t c26 h
    refine v_iconst ⟨by decide, by decide⟩ dX12_count_135 ?_
    refine v_ireturn rfl dX12_count_136 ⟨by decide, by decide⟩ ?_
    exact ⟨_, rfl, rfl, h⟩
theorem cf_X12_count {l : Launch} {E : bE} {M : bM} {v1 : Int} {Q : Int → Prop} (h : b_wp (F_X12_count v1 M) Q) : b_C l E xX12_count yX12_count [bR 11, bI v1] M (b_pIp M Q) := b_met (by decide) ⟨rfl, rfl⟩ (Nat.le_of_ble_eq_true rfl) (fun _ _ => t_X12_count h)
