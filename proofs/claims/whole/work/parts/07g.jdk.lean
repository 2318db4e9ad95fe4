abbrev xJ3_checkIndex_8e157 : bX := ("jdk/internal/util/Preconditions", prog_22_method_11_code, 3, (Option.some Jvm.ClassFile.FieldType.int), b_rm 1 0 0, 0, "checkIndex")
abbrev yJ3_checkIndex_8e157 : MethodName := ⟨"jdk/internal/util/Preconditions", "checkIndex", "(IILjava/util/function/BiFunction;)I"⟩
theorem dJ3_checkIndex_8e157_0 : decode prog_22_method_11_code 0 = .ok (.iload_n 0, 1) := by decide +kernel
theorem dJ3_checkIndex_8e157_1 : decode prog_22_method_11_code 1 = .ok (.ifCond .lt 8, 3) := by decide +kernel
theorem dJ3_checkIndex_8e157_4 : decode prog_22_method_11_code 4 = .ok (.iload_n 0, 1) := by decide +kernel
theorem dJ3_checkIndex_8e157_5 : decode prog_22_method_11_code 5 = .ok (.iload_n 1, 1) := by decide +kernel
theorem dJ3_checkIndex_8e157_6 : decode prog_22_method_11_code 6 = .ok (.if_icmp .lt 10, 3) := by decide +kernel
theorem dJ3_checkIndex_8e157_9 : decode prog_22_method_11_code 9 = .ok (.aload_n 2, 1) := by decide +kernel
theorem dJ3_checkIndex_8e157_10 : decode prog_22_method_11_code 10 = .ok (.iload_n 0, 1) := by decide +kernel
theorem dJ3_checkIndex_8e157_11 : decode prog_22_method_11_code 11 = .ok (.iload_n 1, 1) := by decide +kernel
theorem dJ3_checkIndex_8e157_12 : decode prog_22_method_11_code 12 = .ok (.invokestatic 95, 3) := by decide +kernel
theorem dJ3_checkIndex_8e157_15 : decode prog_22_method_11_code 15 = .ok (.athrow, 1) := by decide +kernel
theorem dJ3_checkIndex_8e157_16 : decode prog_22_method_11_code 16 = .ok (.iload_n 0, 1) := by decide +kernel
theorem dJ3_checkIndex_8e157_17 : decode prog_22_method_11_code 17 = .ok (.ireturn, 1) := by decide +kernel
abbrev xJ0_checkIndex_df160 : bX := ("java/lang/String", prog_17_method_155_code, 2, (Option.none : Option Jvm.ClassFile.FieldType), b_rm 2 0 0, 0, "checkIndex")
abbrev yJ0_checkIndex_df160 : MethodName := ⟨"java/lang/String", "checkIndex", "(II)V"⟩
theorem dJ0_checkIndex_df160_0 : decode prog_17_method_155_code 0 = .ok (.iload_n 0, 1) := by decide +kernel
theorem dJ0_checkIndex_df160_1 : decode prog_17_method_155_code 1 = .ok (.iload_n 1, 1) := by decide +kernel
theorem dJ0_checkIndex_df160_2 : decode prog_17_method_155_code 2 = .ok (.getstatic 1053, 3) := by decide +kernel
theorem dJ0_checkIndex_df160_5 : decode prog_17_method_155_code 5 = .ok (.invokestatic 1059, 3) := by decide +kernel
theorem dJ0_checkIndex_df160_8 : decode prog_17_method_155_code 8 = .ok (.pop, 1) := by decide +kernel
theorem dJ0_checkIndex_df160_9 : decode prog_17_method_155_code 9 = .ok (.return_, 1) := by decide +kernel
theorem m_J3N {l : Launch} {i n : Int32} (h0 : ¬ i < 0) (h1 : i < n) : Met l yJ3_checkIndex_8e157 (b_wsy xJ3_checkIndex_8e157 yJ3_checkIndex_8e157) (bX.R xJ3_checkIndex_8e157) (fun aa _ => aa = #[.int i, .int n, .null]) (fun _ st o t => o = .returned (some (.int i)) ∧ t.heap = st.heap) 0 0 (fun _ => False) := by
  refine Met.ofW (cc := bX.cc xJ3_checkIndex_8e157) (maxL := 3) (ret := some .int) (by decide) rfl ?_
  intro p e s m args below meth c s₁ B hml hv
  subst hv
  have hx := B.exec
  have hb := B.bytes
  have hr := B.returns
  have hlocks := B.notSynchronized
  have hl := lv_entry ([.int i, .int n, .null]) (n := 3) (Nat.le_of_ble_eq_true rfl)
  rw [show (#[.int i, .int n, .null] : Array Value) = ([.int i, .int n, .null] : List Value).toArray from rfl, lg_entry_eq]
  generalize (lg_sl ([.int i, .int n, .null]) ++ List.replicate (3 - (lg_sl ([.int i, .int n, .null])).length) Slot.unset).toArray = ls at hl ⊢
  have hl : lv_has ls 3 [(0, .int i), (1, .int n), (2, .null)] := hl
  refine lv_iload_n hx hb dJ3_checkIndex_8e157_0 rfl (lv_at hl 0 rfl) ?_
  refine lv_if_lt (tgt := 9) hx hb dJ3_checkIndex_8e157_1 (by decide) (fun q => absurd q h0) (fun _ => ?_)
  refine lv_iload_n hx hb dJ3_checkIndex_8e157_4 rfl (lv_at hl 0 rfl) ?_
  refine lv_iload_n hx hb dJ3_checkIndex_8e157_5 rfl (lv_at hl 1 rfl) ?_
  refine lv_icmp_lt (tgt := 16) hx hb dJ3_checkIndex_8e157_6 (by decide) (fun _ => ?_) (fun q => absurd h1 q)
  refine lv_iload_n hx hb dJ3_checkIndex_8e157_16 rfl (lv_at hl 0 rfl) ?_
  exact W.iret hx hb hr (fun t ht hW => ⟨rfl, ht⟩) (fun q hq => by cases hq) dJ3_checkIndex_8e157_17
theorem m_J3R {l : Launch} {i n : Int32} {a : Nat} (h0 : ¬ i < 0) (h1 : i < n) : Met l yJ3_checkIndex_8e157 (b_wsy xJ3_checkIndex_8e157 yJ3_checkIndex_8e157) (bX.R xJ3_checkIndex_8e157) (fun aa _ => aa = #[.int i, .int n, .ref a]) (fun _ st o t => o = .returned (some (.int i)) ∧ t.heap = st.heap) 0 0 (fun _ => False) := by
  refine Met.ofW (cc := bX.cc xJ3_checkIndex_8e157) (maxL := 3) (ret := some .int) (by decide) rfl ?_
  intro p e s m args below meth c s₁ B hml hv
  subst hv
  have hx := B.exec
  have hb := B.bytes
  have hr := B.returns
  have hlocks := B.notSynchronized
  have hl := lv_entry ([.int i, .int n, .ref a]) (n := 3) (Nat.le_of_ble_eq_true rfl)
  rw [show (#[.int i, .int n, .ref a] : Array Value) = ([.int i, .int n, .ref a] : List Value).toArray from rfl, lg_entry_eq]
  generalize (lg_sl ([.int i, .int n, .ref a]) ++ List.replicate (3 - (lg_sl ([.int i, .int n, .ref a])).length) Slot.unset).toArray = ls at hl ⊢
  have hl : lv_has ls 3 [(0, .int i), (1, .int n), (2, .ref a)] := hl
  refine lv_iload_n hx hb dJ3_checkIndex_8e157_0 rfl (lv_at hl 0 rfl) ?_
  refine lv_if_lt (tgt := 9) hx hb dJ3_checkIndex_8e157_1 (by decide) (fun q => absurd q h0) (fun _ => ?_)
  refine lv_iload_n hx hb dJ3_checkIndex_8e157_4 rfl (lv_at hl 0 rfl) ?_
  refine lv_iload_n hx hb dJ3_checkIndex_8e157_5 rfl (lv_at hl 1 rfl) ?_
  refine lv_icmp_lt (tgt := 16) hx hb dJ3_checkIndex_8e157_6 (by decide) (fun _ => ?_) (fun q => absurd h1 q)
  refine lv_iload_n hx hb dJ3_checkIndex_8e157_16 rfl (lv_at hl 0 rfl) ?_
  exact W.iret hx hb hr (fun t ht hW => ⟨rfl, ht⟩) (fun q hq => by cases hq) dJ3_checkIndex_8e157_17
theorem f_chk {l : Launch} {E : bE} {X : bX} {kn : Nat × Nat} {pc : Nat} {ls : bL} {st : List bV} {M : bM} {G : bG} {L : List Nat} {i n : Int} {ix ix2 : Nat} (hi : 0 ≤ i ∧ i < n) (hZ : va_Zq "jdk/internal/util/Preconditions" "SIOOBE_FORMATTER" "Ljava/util/function/BiFunction;" (b_A0 E) (b_S0 E) (b_S0 E).heap) (hw : Cond.fieldLink (bX.own X) ix "jdk/internal/util/Preconditions" "SIOOBE_FORMATTER" "Ljava/util/function/BiFunction;" ∈ b_T) (hw2 : Cond.methodLink (bX.own X) ix2 yJ3_checkIndex_8e157 ∈ b_T) (hroom : (bX.R xJ3_checkIndex_8e157).frames + 1 ≤ (bX.R X).frames ∧ 8 + (3 + 11) + (bX.R xJ3_checkIndex_8e157).locals ≤ (bX.R X).locals) (hkn : kn.1 ≤ (bX.R X).cells ∧ kn.2 ≤ (bX.R X).slots) (hcat : (st.map (fun v => if b_c2 v = true then 2 else 1)).sum ≤ 8) (hd : decode (bX.cc X) pc = .ok (.getstatic ix, 3)) (hd2 : decode (bX.cc X) (pc + 3) = .ok (.invokestatic ix2, 3)) (k : VL l E X L kn (pc + 6) ls (bI i :: st) M G) : VL l E X L kn pc ls (bI n :: bI i :: st) M G := by
  intro p e s m args below meth c H locs lsA A ad0 ad hX hS hL hsb hG
  obtain ⟨hx, hb, hml, hown, hts, hret, hlk, hK, hnm, hwm⟩ := id hX
  obtain ⟨hl, hlo, hso⟩ := id hL
  obtain ⟨hP, hD, hRg, hva, hA⟩ := id hS
  have hrn : b_r32 n := ok_h hso
  have hri : b_r32 i := ok_h (ok_t hso)
  have hi0 : ¬ Int32.ofInt i < 0 := fun q => by
    have := (lt32 hri r32_0).mp q
    omega
  have hi1 : Int32.ofInt i < Int32.ofInt n := (lt32 hri hrn).mpr hi.2
  have hcatA : ((st.map (b_tv ad)).map fun v => v.category) = st.map (fun v => if b_c2 v = true then 2 else 1) := by
    rw [List.map_map]
    apply List.map_congr_left
    intro v _
    rcases v with x | x | x <;> rfl
  have hGd : GoodIn b_T (b_wsy xJ3_checkIndex_8e157 yJ3_checkIndex_8e157) := by
    intro w hw1
    have hmem : w ∈ b_T := by
      rcases List.mem_cons.mp hw1 with rfl | h
      · exact wc_J3_checkIndex_8e157
      · exact h
    exact b_good w hmem
  have KK := k p e s m args below meth c H locs lsA A ad0 ad hX hS ⟨hl, hlo, ok_t hso⟩ hsb hG
  rcases hZ with hZ | ⟨t0, hZ⟩
  · refine va_gets hx hb (tr_Z hwm hA hZ) hva hown (hts _ hw) (fun _ h => h) hd ?_
    have hr := va_runS (p := p) (l := l) (e := e) (R := bX.R X) (below := below) (meth := meth) (locs := locs) (cells := kn.1) (slots := kn.2) (g := F0 m (pc + 3) lsA (.null :: .int (Int32.ofInt n) :: .int (Int32.ofInt i) :: st.map (b_tv ad))) (As := [.int (Int32.ofInt i), .int (Int32.ofInt n), .null]) (rest := st.map (b_tv ad)) (H := H) ⟨hx, hb, hml, hown, hts⟩ (m_J3N (l := l) (i := Int32.ofInt i) (n := Int32.ofInt n) hi0 hi1)
      ⟨callB_of 3 hts hGd rfl rfl rfl (hts _ wn_jdk_internal_util_Preconditions) (hts _ hw2) ⟨by decide, by decide, by decide⟩ hroom, hts _ wi_J3_checkIndex_8e157⟩
      ⟨fun _ _ _ _ h => h, fun _ _ _ => rfl⟩ rfl rfl hl.1 rfl (lv_room (by rw [hcatA]; exact hcat)) hd2 ⟨by show kn.1 + 0 ≤ _; exact hkn.1, by show kn.2 + 0 ≤ _; exact hkn.2⟩
    intro T hT X0
    obtain ⟨v, st₀, t, T', L9, h0, X', hL9, e1, e2, ⟨hv, hh⟩, stp⟩ := hr T hT X0
    cases hv
    have hTH : T'.heap = H := by rw [e1, hh, h0]
    have hL0 : locs ++ L9 = locs := by
      cases L9 with
      | nil => exact List.append_nil _
      | cons z zs => exact (hL9 z List.mem_cons_self).elim
    rw [hL0] at X'
    obtain ⟨t2, a1, b1⟩ := KK T' hTH X'
    exact ⟨t2, stp t2 a1, b1⟩
  · refine va_gets hx hb (tr_Z hwm hA hZ) hva hown (hts _ hw) (fun _ h => h) hd ?_
    have hr := va_runS (p := p) (l := l) (e := e) (R := bX.R X) (below := below) (meth := meth) (locs := locs) (cells := kn.1) (slots := kn.2) (g := F0 m (pc + 3) lsA (.ref t0 :: .int (Int32.ofInt n) :: .int (Int32.ofInt i) :: st.map (b_tv ad))) (As := [.int (Int32.ofInt i), .int (Int32.ofInt n), .ref t0]) (rest := st.map (b_tv ad)) (H := H) ⟨hx, hb, hml, hown, hts⟩ (m_J3R (a := t0) (l := l) (i := Int32.ofInt i) (n := Int32.ofInt n) hi0 hi1)
      ⟨callB_of 3 hts hGd rfl rfl rfl (hts _ wn_jdk_internal_util_Preconditions) (hts _ hw2) ⟨by decide, by decide, by decide⟩ hroom, hts _ wi_J3_checkIndex_8e157⟩
      ⟨fun _ _ _ _ h => h, fun _ _ _ => rfl⟩ rfl rfl hl.1 rfl (lv_room (by rw [hcatA]; exact hcat)) hd2 ⟨by show kn.1 + 0 ≤ _; exact hkn.1, by show kn.2 + 0 ≤ _; exact hkn.2⟩
    intro T hT X0
    obtain ⟨v, st₀, t, T', L9, h0, X', hL9, e1, e2, ⟨hv, hh⟩, stp⟩ := hr T hT X0
    cases hv
    have hTH : T'.heap = H := by rw [e1, hh, h0]
    have hL0 : locs ++ L9 = locs := by
      cases L9 with
      | nil => exact List.append_nil _
      | cons z zs => exact (hL9 z List.mem_cons_self).elim
    rw [hL0] at X'
    obtain ⟨t2, a1, b1⟩ := KK T' hTH X'
    exact ⟨t2, stp t2 a1, b1⟩
abbrev xJ0_length_8abf5 : bX := ("java/lang/String", prog_17_method_54_code, 1, (Option.some Jvm.ClassFile.FieldType.int), b_rm 2 0 0, 0, "length")
abbrev yJ0_length_8abf5 : MethodName := ⟨"java/lang/String", "length", "()I"⟩
theorem dJ0_length_8abf5_0 : decode prog_17_method_54_code 0 = .ok (.aload_n 0, 1) := by decide +kernel
theorem dJ0_length_8abf5_1 : decode prog_17_method_54_code 1 = .ok (.getfield 9, 3) := by decide +kernel
theorem dJ0_length_8abf5_4 : decode prog_17_method_54_code 4 = .ok (.arraylength, 1) := by decide +kernel
theorem dJ0_length_8abf5_5 : decode prog_17_method_54_code 5 = .ok (.aload_n 0, 1) := by decide +kernel
theorem dJ0_length_8abf5_6 : decode prog_17_method_54_code 6 = .ok (.invokevirtual 335, 3) := by decide +kernel
theorem dJ0_length_8abf5_9 : decode prog_17_method_54_code 9 = .ok (.ishr, 1) := by decide +kernel
theorem dJ0_length_8abf5_10 : decode prog_17_method_54_code 10 = .ok (.ireturn, 1) := by decide +kernel
abbrev xJ0_coder_7d493 : bX := ("java/lang/String", prog_17_method_152_code, 1, (Option.some Jvm.ClassFile.FieldType.byte), b_rm 1 0 0, 0, "coder")
abbrev yJ0_coder_7d493 : MethodName := ⟨"java/lang/String", "coder", "()B"⟩
theorem dJ0_coder_7d493_0 : decode prog_17_method_152_code 0 = .ok (.getstatic 38, 3) := by decide +kernel
theorem dJ0_coder_7d493_3 : decode prog_17_method_152_code 3 = .ok (.ifCond .eq 10, 3) := by decide +kernel
theorem dJ0_coder_7d493_6 : decode prog_17_method_152_code 6 = .ok (.aload_n 0, 1) := by decide +kernel
theorem dJ0_coder_7d493_7 : decode prog_17_method_152_code 7 = .ok (.getfield 15, 3) := by decide +kernel
theorem dJ0_coder_7d493_10 : decode prog_17_method_152_code 10 = .ok (.goto 4, 3) := by decide +kernel
theorem dJ0_coder_7d493_13 : decode prog_17_method_152_code 13 = .ok (.iconst 1, 1) := by decide +kernel
theorem dJ0_coder_7d493_14 : decode prog_17_method_152_code 14 = .ok (.ireturn, 1) := by decide +kernel
abbrev xJ0_isLatin1_aae02 : bX := ("java/lang/String", prog_17_method_154_code, 1, (Option.some Jvm.ClassFile.FieldType.boolean), b_rm 1 0 0, 0, "isLatin1")
abbrev yJ0_isLatin1_aae02 : MethodName := ⟨"java/lang/String", "isLatin1", "()Z"⟩
theorem dJ0_isLatin1_aae02_0 : decode prog_17_method_154_code 0 = .ok (.getstatic 38, 3) := by decide +kernel
theorem dJ0_isLatin1_aae02_3 : decode prog_17_method_154_code 3 = .ok (.ifCond .eq 14, 3) := by decide +kernel
theorem dJ0_isLatin1_aae02_6 : decode prog_17_method_154_code 6 = .ok (.aload_n 0, 1) := by decide +kernel
theorem dJ0_isLatin1_aae02_7 : decode prog_17_method_154_code 7 = .ok (.getfield 15, 3) := by decide +kernel
theorem dJ0_isLatin1_aae02_10 : decode prog_17_method_154_code 10 = .ok (.ifCond .ne 7, 3) := by decide +kernel
theorem dJ0_isLatin1_aae02_13 : decode prog_17_method_154_code 13 = .ok (.iconst 1, 1) := by decide +kernel
theorem dJ0_isLatin1_aae02_14 : decode prog_17_method_154_code 14 = .ok (.goto 4, 3) := by decide +kernel
theorem dJ0_isLatin1_aae02_17 : decode prog_17_method_154_code 17 = .ok (.iconst 0, 1) := by decide +kernel
theorem dJ0_isLatin1_aae02_18 : decode prog_17_method_154_code 18 = .ok (.ireturn, 1) := by decide +kernel
abbrev xJ0_charAt_5068e : bX := ("java/lang/String", prog_17_method_56_code, 2, (Option.some Jvm.ClassFile.FieldType.char), b_rm 5 0 0, 0, "charAt")
abbrev yJ0_charAt_5068e : MethodName := ⟨"java/lang/String", "charAt", "(I)C"⟩
theorem dJ0_charAt_5068e_0 : decode prog_17_method_56_code 0 = .ok (.aload_n 0, 1) := by decide +kernel
theorem dJ0_charAt_5068e_1 : decode prog_17_method_56_code 1 = .ok (.invokevirtual 492, 3) := by decide +kernel
theorem dJ0_charAt_5068e_4 : decode prog_17_method_56_code 4 = .ok (.ifCond .eq 12, 3) := by decide +kernel
theorem dJ0_charAt_5068e_7 : decode prog_17_method_56_code 7 = .ok (.aload_n 0, 1) := by decide +kernel
theorem dJ0_charAt_5068e_8 : decode prog_17_method_56_code 8 = .ok (.getfield 9, 3) := by decide +kernel
theorem dJ0_charAt_5068e_11 : decode prog_17_method_56_code 11 = .ok (.iload_n 1, 1) := by decide +kernel
theorem dJ0_charAt_5068e_12 : decode prog_17_method_56_code 12 = .ok (.invokestatic 495, 3) := by decide +kernel
theorem dJ0_charAt_5068e_15 : decode prog_17_method_56_code 15 = .ok (.ireturn, 1) := by decide +kernel
theorem dJ0_charAt_5068e_16 : decode prog_17_method_56_code 16 = .ok (.aload_n 0, 1) := by decide +kernel
theorem dJ0_charAt_5068e_17 : decode prog_17_method_56_code 17 = .ok (.getfield 9, 3) := by decide +kernel
theorem dJ0_charAt_5068e_20 : decode prog_17_method_56_code 20 = .ok (.iload_n 1, 1) := by decide +kernel
theorem dJ0_charAt_5068e_21 : decode prog_17_method_56_code 21 = .ok (.invokestatic 498, 3) := by decide +kernel
theorem dJ0_charAt_5068e_24 : decode prog_17_method_56_code 24 = .ok (.ireturn, 1) := by decide +kernel
abbrev xJ1_charAt_3b067 : bX := ("java/lang/StringLatin1", prog_18_method_2_code, 2, (Option.some Jvm.ClassFile.FieldType.char), b_rm 3 0 0, 0, "charAt")
abbrev yJ1_charAt_3b067 : MethodName := ⟨"java/lang/StringLatin1", "charAt", "([BI)C"⟩
theorem dJ1_charAt_3b067_0 : decode prog_18_method_2_code 0 = .ok (.iload_n 1, 1) := by decide +kernel
theorem dJ1_charAt_3b067_1 : decode prog_18_method_2_code 1 = .ok (.aload_n 0, 1) := by decide +kernel
theorem dJ1_charAt_3b067_2 : decode prog_18_method_2_code 2 = .ok (.arraylength, 1) := by decide +kernel
theorem dJ1_charAt_3b067_3 : decode prog_18_method_2_code 3 = .ok (.invokestatic 9, 3) := by decide +kernel
theorem dJ1_charAt_3b067_6 : decode prog_18_method_2_code 6 = .ok (.aload_n 0, 1) := by decide +kernel
theorem dJ1_charAt_3b067_7 : decode prog_18_method_2_code 7 = .ok (.iload_n 1, 1) := by decide +kernel
theorem dJ1_charAt_3b067_8 : decode prog_18_method_2_code 8 = .ok (.baload, 1) := by decide +kernel
theorem dJ1_charAt_3b067_9 : decode prog_18_method_2_code 9 = .ok (.sipush 255, 3) := by decide +kernel
theorem dJ1_charAt_3b067_12 : decode prog_18_method_2_code 12 = .ok (.iand, 1) := by decide +kernel
theorem dJ1_charAt_3b067_13 : decode prog_18_method_2_code 13 = .ok (.i2c, 1) := by decide +kernel
theorem dJ1_charAt_3b067_14 : decode prog_18_method_2_code 14 = .ok (.ireturn, 1) := by decide +kernel
def b_str (E : bE) (c1 c2 N : Nat) (g : Int → Int) : Prop := (2000 ≤ c1 ∧ 2000 ≤ c2 ∧ N < 2147483648) ∧ va_O "java/lang/String" (E.2.2.2 c1) (b_A0 E) (b_S0 E) (b_S0 E).heap ∧ va_OF "java/lang/String" "coder" "B" (.int (Int32.ofInt 0)) (E.2.2.2 c1) (b_A0 E) (b_S0 E) (b_S0 E).heap ∧ va_OF "java/lang/String" "value" "[B" (.ref (E.2.2.2 c2)) (E.2.2.2 c1) (b_A0 E) (b_S0 E) (b_S0 E).heap ∧ va_T .byte (E.2.2.2 c2) N (fun j => .int (Int32.ofInt (g j))) (b_A0 E) (b_S0 E) (b_S0 E).heap ∧ ∀ i, 0 ≤ g i ∧ g i < 128
/-- what the JDK's own statics hold -/
def b_jdk (E : bE) : Prop := va_Z "java/lang/String" "COMPACT_STRINGS" "Z" (.int (Int32.ofInt 1)) (b_A0 E) (b_S0 E) (b_S0 E).heap ∧ va_Zq "jdk/internal/util/Preconditions" "SIOOBE_FORMATTER" "Ljava/util/function/BiFunction;" (b_A0 E) (b_S0 E) (b_S0 E).heap
theorem c_coder {l : Launch} {E : bE} {M : bM} {L : List Nat} {c1 c2 N : Nat} {g : Int → Int} (hj : b_jdk E) (hs : b_str E c1 c2 N g) : b_CL l E xJ0_coder_7d493 yJ0_coder_7d493 L L [bR c1] M (fun r M' => M' = M ∧ r = some (bI 0)) := by
  obtain ⟨⟨h1, h2, hN⟩, hO, hC, hV, hT, hg⟩ := hs
  refine b_met (by decide) ⟨rfl, rfl⟩ (Nat.le_of_ble_eq_true rfl) (fun hA hRg => ?_)
  refine f_getsI ⟨by decide, by decide⟩ hj.1 wf_java_lang_String_38 dJ0_coder_7d493_0 ?_
  refine v_if_eq (tgt := 13) dJ0_coder_7d493_3 (by decide) (fun h => absurd h (by decide)) (fun _ => ?_)
  refine v_aload_n (f := 0) 0 rfl dJ0_coder_7d493_6 ?_
  refine f_getI h1 ⟨by decide, by decide⟩ hC wf_java_lang_String_15 dJ0_coder_7d493_7 ?_
  refine v_goto (tgt := 14) dJ0_coder_7d493_10 (by decide) ?_
  exact v_breturn rfl (Or.inl rfl) dJ0_coder_7d493_14 ⟨by decide, by decide⟩ ⟨rfl, rfl⟩
theorem c_isLatin1 {l : Launch} {E : bE} {M : bM} {L : List Nat} {c1 c2 N : Nat} {g : Int → Int} (hj : b_jdk E) (hs : b_str E c1 c2 N g) : b_CL l E xJ0_isLatin1_aae02 yJ0_isLatin1_aae02 L L [bR c1] M (fun r M' => M' = M ∧ r = some (bI 1)) := by
  obtain ⟨⟨h1, h2, hN⟩, hO, hC, hV, hT, hg⟩ := hs
  refine b_met (by decide) ⟨rfl, rfl⟩ (Nat.le_of_ble_eq_true rfl) (fun hA hRg => ?_)
  refine f_getsI ⟨by decide, by decide⟩ hj.1 wf_java_lang_String_38 dJ0_isLatin1_aae02_0 ?_
  refine v_if_eq (tgt := 17) dJ0_isLatin1_aae02_3 (by decide) (fun h => absurd h (by decide)) (fun _ => ?_)
  refine v_aload_n (f := 0) 0 rfl dJ0_isLatin1_aae02_6 ?_
  refine f_getI h1 ⟨by decide, by decide⟩ hC wf_java_lang_String_15 dJ0_isLatin1_aae02_7 ?_
  refine v_if_ne (tgt := 17) dJ0_isLatin1_aae02_10 (by decide) (fun h => absurd rfl h) (fun _ => ?_)
  refine v_iconst ⟨by decide, by decide⟩ dJ0_isLatin1_aae02_13 ?_
  refine v_goto (tgt := 18) dJ0_isLatin1_aae02_14 (by decide) ?_
  exact v_zreturn rfl (Or.inr rfl) dJ0_isLatin1_aae02_18 ⟨by decide, by decide⟩ ⟨rfl, rfl⟩
theorem c_strlen {l : Launch} {E : bE} {M : bM} {L : List Nat} {c1 c2 N : Nat} {g : Int → Int} (hj : b_jdk E) (hs : b_str E c1 c2 N g) : b_CL l E xJ0_length_8abf5 yJ0_length_8abf5 L L [bR c1] M (fun r M' => M' = M ∧ r = some (bI N)) := by
  obtain ⟨⟨h1, h2, hN⟩, hO, hC, hV, hT, hg⟩ := id hs
  refine b_met (by decide) ⟨rfl, rfl⟩ (Nat.le_of_ble_eq_true rfl) (fun hA hRg => ?_)
  refine v_aload_n (f := 0) 0 rfl dJ0_length_8abf5_0 ?_
  refine f_getR h1 h2 hV wf_java_lang_String_9 dJ0_length_8abf5_1 ?_
  refine f_alen h2 hN hT dJ0_length_8abf5_4 ?_
  refine v_aload_n (f := 0) 0 rfl dJ0_length_8abf5_5 ?_
  refine f_callV (nA := 0) (ix := 335) (C := "java/lang/String") (c_coder hj hs) rfl h1 hO rfl wc_J0_coder_7d493 wm_java_lang_String_335 wi_J0_coder_7d493 ws_J0_coder_7d493 wn_java_lang_String ⟨by decide, by decide, by decide⟩ rfl ⟨by decide, by decide⟩ ⟨by decide, by decide⟩ (Nat.le_of_ble_eq_true rfl) dJ0_length_8abf5_6 (fun r M2 hp => ?_)
  obtain ⟨rfl, rfl⟩ := hp
  dsimp only [Option.toList, List.cons_append, List.nil_append]
  refine v_ishr (v := N) (by rw [show Int32.ofInt 0 = (0 : Int32) from rfl, sb_shr0, to32 ⟨by omega, by omega⟩]) dJ0_length_8abf5_9 ?_
  exact v_ireturn rfl dJ0_length_8abf5_10 ⟨by decide, by decide⟩ ⟨rfl, rfl⟩
theorem c_chk {l : Launch} {E : bE} {M : bM} {L : List Nat} {i n : Int} (hj : b_jdk E) (hi : 0 ≤ i ∧ i < n) : b_CL l E xJ0_checkIndex_df160 yJ0_checkIndex_df160 L L [bI i, bI n] M (fun r M' => M' = M ∧ r = none) := by
  refine b_met (by decide) ⟨rfl, rfl⟩ (Nat.le_of_ble_eq_true rfl) (fun hA hRg => ?_)
  refine v_iload_n (f := 0) 0 rfl dJ0_checkIndex_df160_0 ?_
  refine v_iload_n (f := 1) 1 rfl dJ0_checkIndex_df160_1 ?_
  refine f_chk hi hj.2 wf_java_lang_String_1053 wm_java_lang_String_1059 ⟨by decide, by decide⟩ ⟨by decide, by decide⟩ (Nat.le_of_ble_eq_true rfl) dJ0_checkIndex_df160_2 dJ0_checkIndex_df160_5 ?_
  refine v_pop rfl dJ0_checkIndex_df160_8 ?_
  exact v_return rfl dJ0_checkIndex_df160_9 ⟨by decide, by decide⟩ ⟨rfl, rfl⟩
theorem b_and255 {x : Int} (h : 0 ≤ x ∧ x < 128) : (Int32.ofInt x &&& Int32.ofInt 255).toInt = x := by
  obtain ⟨n, rfl⟩ := Int.eq_ofNat_of_zero_le h.1
  have hn : n < 128 := by omega
  rw [show Int32.ofInt (n : Int) = nI n from rfl, show Int32.ofInt 255 = (255 : Int32) from rfl, pk_andN (by omega) 8 (by decide), Nat.mod_eq_of_lt (by omega), nI_toInt (by omega)]
theorem c_latin1 {l : Launch} {E : bE} {M : bM} {L : List Nat} {c1 c2 N : Nat} {g : Int → Int} {k : Int} (hj : b_jdk E) (hs : b_str E c1 c2 N g) (hk : 0 ≤ k ∧ k < N) : b_CL l E xJ1_charAt_3b067 yJ1_charAt_3b067 L L [bR c2, bI k] M (fun r M' => M' = M ∧ r = some (bI (g k))) := by
  obtain ⟨⟨h1, h2, hN⟩, hO, hC, hV, hT, hg⟩ := id hs
  have hgk := hg k
  refine b_met (by decide) ⟨rfl, rfl⟩ (Nat.le_of_ble_eq_true rfl) (fun hA hRg => ?_)
  refine v_iload_n (f := 1) 1 rfl dJ1_charAt_3b067_0 ?_
  refine v_aload_n (f := 0) 0 rfl dJ1_charAt_3b067_1 ?_
  refine f_alen h2 hN hT dJ1_charAt_3b067_2 ?_
  refine v_callS (nA := 2) (ix := 9) (c_chk hj hk) rfl wc_J0_checkIndex_df160 wm_java_lang_StringLatin1_9 wi_J0_checkIndex_df160 wn_java_lang_String ⟨by decide, by decide, by decide⟩ rfl ⟨by decide, by decide⟩ ⟨by decide, by decide⟩ (Nat.le_of_ble_eq_true rfl) dJ1_charAt_3b067_3 (fun r M2 hp => ?_)
  obtain ⟨rfl, rfl⟩ := hp
  dsimp only [Option.toList, List.cons_append, List.nil_append]
  refine v_aload_n (f := 0) 0 rfl dJ1_charAt_3b067_6 ?_
  refine v_iload_n (f := 1) 1 rfl dJ1_charAt_3b067_7 ?_
  refine f_baload h2 hN hk ⟨by omega, by omega⟩ hT dJ1_charAt_3b067_8 ?_
  refine v_sipush ⟨by decide, by decide⟩ (by decide) dJ1_charAt_3b067_9 ?_
  refine v_iand (v := g k) (b_and255 (by omega)) dJ1_charAt_3b067_12 ?_
  refine v_i2cN (by omega) dJ1_charAt_3b067_13 ?_
  exact v_creturn rfl (by omega) dJ1_charAt_3b067_14 ⟨by decide, by decide⟩ ⟨rfl, rfl⟩
theorem c_charAt {l : Launch} {E : bE} {M : bM} {L : List Nat} {c1 c2 N : Nat} {g : Int → Int} {k : Int} (hj : b_jdk E) (hs : b_str E c1 c2 N g) (hk : 0 ≤ k ∧ k < N) : b_CL l E xJ0_charAt_5068e yJ0_charAt_5068e L L [bR c1, bI k] M (fun r M' => M' = M ∧ r = some (bI (g k))) := by
  obtain ⟨⟨h1, h2, hN⟩, hO, hC, hV, hT, hg⟩ := id hs
  have hgk := hg k
  refine b_met (by decide) ⟨rfl, rfl⟩ (Nat.le_of_ble_eq_true rfl) (fun hA hRg => ?_)
  refine v_aload_n (f := 0) 0 rfl dJ0_charAt_5068e_0 ?_
  refine f_callV (nA := 0) (ix := 492) (C := "java/lang/String") (c_isLatin1 hj hs) rfl h1 hO rfl wc_J0_isLatin1_aae02 wm_java_lang_String_492 wi_J0_isLatin1_aae02 ws_J0_isLatin1_aae02 wn_java_lang_String ⟨by decide, by decide, by decide⟩ rfl ⟨by decide, by decide⟩ ⟨by decide, by decide⟩ (Nat.le_of_ble_eq_true rfl) dJ0_charAt_5068e_1 (fun r M2 hp => ?_)
  obtain ⟨rfl, rfl⟩ := hp
  dsimp only [Option.toList, List.cons_append, List.nil_append]
  refine v_if_eq (tgt := 16) dJ0_charAt_5068e_4 (by decide) (fun h => absurd h (by decide)) (fun _ => ?_)
  refine v_aload_n (f := 0) 0 rfl dJ0_charAt_5068e_7 ?_
  refine f_getR h1 h2 hV wf_java_lang_String_9 dJ0_charAt_5068e_8 ?_
  refine v_iload_n (f := 1) 1 rfl dJ0_charAt_5068e_11 ?_
  refine v_callS (nA := 2) (ix := 495) (c_latin1 hj hs hk) rfl wc_J1_charAt_3b067 wm_java_lang_String_495 wi_J1_charAt_3b067 wn_java_lang_StringLatin1 ⟨by decide, by decide, by decide⟩ rfl ⟨by decide, by decide⟩ ⟨by decide, by decide⟩ (Nat.le_of_ble_eq_true rfl) dJ0_charAt_5068e_12 (fun r M2 hp => ?_)
  obtain ⟨rfl, rfl⟩ := hp
  dsimp only [Option.toList, List.cons_append, List.nil_append]
  exact v_creturn rfl (by omega) dJ0_charAt_5068e_15 ⟨by decide, by decide⟩ ⟨rfl, rfl⟩
