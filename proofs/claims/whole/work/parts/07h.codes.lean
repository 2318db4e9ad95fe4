theorem g_callS1 {l : Launch} {E : bE} {X Y : bX} {L L1 : List Nat} {kn : Nat × Nat} {pc ix : Nat} {ls : bL} {st : List bV} {M : bM} {G : bG} {PostY : Option bV → bM → Prop} {y : MethodName} {As : List bV} {nA : Nat} (hC : b_CL l E Y y L L1 As M PostY) (hfl : bX.fl Y = 1) (hflX : bX.fl X = 1) (hL0 : ∀ c ∈ G.2.2, c ∈ L) (hls : ∀ q ∈ ls, b_iL L q.2) (hst : ∀ v ∈ st, b_iL L v)
    (hw : Cond.code y (bX.cc Y) (bX.nL Y) (bX.ret Y) ∈ b_T) (hwl : Cond.methodLink (bX.own X) ix y ∈ b_T) (hws : Cond.static y ∈ b_T) (hwn : Cond.initialized y.cls ∈ b_T)
    (hd0 : y.cls ≠ "java/lang/invoke/MethodHandle" ∧ y.cls ≠ "java/lang/invoke/VarHandle" ∧ (parseMethodDescriptor y.desc).map (fun d => d.parameters.length) = some nA) (hn : As.length = nA)
    (hroom : (bX.R Y).frames + 1 ≤ (bX.R X).frames ∧ 8 + (bX.nL Y + 11) + (bX.R Y).locals ≤ (bX.R X).locals) (hmc : kn.1 + (bX.R Y).cells ≤ (bX.R X).cells ∧ kn.2 + (bX.R Y).slots ≤ (bX.R X).slots) (hcat : (st.map (fun v => if b_c2 v = true then 2 else 1)).sum ≤ 8)
    (hd : decode (bX.cc X) pc = .ok (.invokestatic ix, 3)) (k : ∀ r M', PostY r M' → VL l E X L1 (kn.1 + (bX.R Y).cells, kn.2 + (bX.R Y).slots) (pc + 3) ls (r.toList ++ st) M' G) : VL l E X L kn pc ls (As.reverse ++ st) M G := by
  intro p e s m args below meth c H locs lsA A ad0 ad hX hS hL hsb hG
  obtain ⟨hx, hb, hml, hown, hts, hret, hlk, hK, hnm, hwm⟩ := id hX
  obtain ⟨hl, hlo, hso⟩ := id hL
  obtain ⟨hP, hD, hRg, hva, hA⟩ := id hS
  have hso2 : ∀ v ∈ st, b_ok v := fun v hv => hso v (List.mem_append_right _ hv)
  have hGd : GoodIn b_T (b_wsy Y y) := by
    intro w hw1
    have hmem : w ∈ b_T := by
      rcases List.mem_cons.mp hw1 with rfl | h
      · exact hw
      · exact h
    exact b_good w hmem
  have hcatA : ∀ l0 : List bV, ((l0.map (b_tv ad)).map fun v => v.category) = l0.map (fun v => if b_c2 v = true then 2 else 1) := by
    intro l0
    rw [List.map_map]
    apply List.map_congr_left
    intro v _
    rcases v with x | x | x <;> rfl
  have hr := va_runS (p := p) (l := l) (e := e) (R := bX.R X) (below := below) (meth := meth) (locs := locs) (cells := kn.1) (slots := kn.2) (g := F0 m pc lsA ((As.reverse ++ st).map (b_tv ad))) (As := As.map (b_tv ad)) (rest := st.map (b_tv ad)) (H := H) ⟨hx, hb, hml, hown, hts⟩ (hC (fun v hv => hso v (List.mem_append_left _ (List.mem_reverse.mpr hv))) hRg ad H.size)
    ⟨callB_of nA hts hGd rfl rfl rfl (hts _ hwn) (hts _ hwl) hd0 hroom, hts _ hws⟩
    ⟨b_blind, fun U hU hW => ⟨rfl, by rw [hU], by rw [hU]; exact hP, hD.1, hRg, va_K.moved hW.alike hK, State.WarmedH.trans hwm hW, fun c1 h1 => hA.2.1 _ (hD.2 c1 h1), Nat.le_trans hA.2.2.1 hva.1, fun q1 h1 => by rw [hU, hva.2.1 q1 (Nat.lt_of_lt_of_le h1 hA.2.2.1) (fun z => Nat.not_le.mpr h1 (hA.2.1 q1 z))]; exact hA.2.2.2.1 q1 h1, hA.2.2.2.2⟩⟩ rfl (by rw [List.length_map]; exact hn) hl.1 (by simp) (lv_room (by rw [hcatA]; exact hcat)) hd hmc
  exact b_goes1 hfl hflX hL0 hls hst hr hX hS hl hlo hso2 hsb hG k
abbrev xX10_withLetter : bX := ("BurntHall$Tape", prog_12_method_16_code, 3, (Option.some Jvm.ClassFile.FieldType.long), b_rm 1 0 0, 0, "withLetter")
abbrev yX10_withLetter : MethodName := ⟨"BurntHall$Tape", "withLetter", "(JI)J"⟩
theorem dX10_withLetter_0 : decode prog_12_method_16_code 0 = .ok (.lload_n 0, 1) := by decide +kernel
theorem dX10_withLetter_1 : decode prog_12_method_16_code 1 = .ok (.iconst 5, 1) := by decide +kernel
theorem dX10_withLetter_2 : decode prog_12_method_16_code 2 = .ok (.lshl, 1) := by decide +kernel
theorem dX10_withLetter_3 : decode prog_12_method_16_code 3 = .ok (.iload_n 2, 1) := by decide +kernel
theorem dX10_withLetter_4 : decode prog_12_method_16_code 4 = .ok (.bipush 97, 2) := by decide +kernel
theorem dX10_withLetter_6 : decode prog_12_method_16_code 6 = .ok (.isub, 1) := by decide +kernel
theorem dX10_withLetter_7 : decode prog_12_method_16_code 7 = .ok (.iconst 1, 1) := by decide +kernel
theorem dX10_withLetter_8 : decode prog_12_method_16_code 8 = .ok (.iadd, 1) := by decide +kernel
theorem dX10_withLetter_9 : decode prog_12_method_16_code 9 = .ok (.i2l, 1) := by decide +kernel
theorem dX10_withLetter_10 : decode prog_12_method_16_code 10 = .ok (.lor, 1) := by decide +kernel
theorem dX10_withLetter_11 : decode prog_12_method_16_code 11 = .ok (.lreturn, 1) := by decide +kernel
abbrev xX10_codes : bX := ("BurntHall$Tape", prog_12_method_17_code, 6, (Option.some (Jvm.ClassFile.FieldType.array Jvm.ClassFile.FieldType.long)), b_rm 6 1 11, 1, "codes")
abbrev yX10_codes : MethodName := ⟨"BurntHall$Tape", "codes", "(Ljava/lang/String;I)[J"⟩
theorem dX10_codes_0 : decode prog_12_method_17_code 0 = .ok (.iload_n 1, 1) := by decide +kernel
theorem dX10_codes_1 : decode prog_12_method_17_code 1 = .ok (.newarray .long, 2) := by decide +kernel
theorem dX10_codes_3 : decode prog_12_method_17_code 3 = .ok (.astore_n 2, 1) := by decide +kernel
theorem dX10_codes_4 : decode prog_12_method_17_code 4 = .ok (.iconst 0, 1) := by decide +kernel
theorem dX10_codes_5 : decode prog_12_method_17_code 5 = .ok (.istore_n 3, 1) := by decide +kernel
theorem dX10_codes_6 : decode prog_12_method_17_code 6 = .ok (.iconst 0, 1) := by decide +kernel
theorem dX10_codes_7 : decode prog_12_method_17_code 7 = .ok (.istore 4, 2) := by decide +kernel
theorem dX10_codes_9 : decode prog_12_method_17_code 9 = .ok (.iload 4, 2) := by decide +kernel
theorem dX10_codes_11 : decode prog_12_method_17_code 11 = .ok (.aload_n 0, 1) := by decide +kernel
theorem dX10_codes_12 : decode prog_12_method_17_code 12 = .ok (.invokevirtual 69, 3) := by decide +kernel
theorem dX10_codes_15 : decode prog_12_method_17_code 15 = .ok (.if_icmp .ge 46, 3) := by decide +kernel
theorem dX10_codes_18 : decode prog_12_method_17_code 18 = .ok (.aload_n 0, 1) := by decide +kernel
theorem dX10_codes_19 : decode prog_12_method_17_code 19 = .ok (.iload 4, 2) := by decide +kernel
theorem dX10_codes_21 : decode prog_12_method_17_code 21 = .ok (.invokevirtual 74, 3) := by decide +kernel
theorem dX10_codes_24 : decode prog_12_method_17_code 24 = .ok (.istore 5, 2) := by decide +kernel
theorem dX10_codes_26 : decode prog_12_method_17_code 26 = .ok (.iload 5, 2) := by decide +kernel
theorem dX10_codes_28 : decode prog_12_method_17_code 28 = .ok (.bipush 32, 2) := by decide +kernel
theorem dX10_codes_30 : decode prog_12_method_17_code 30 = .ok (.if_icmp .ne 9, 3) := by decide +kernel
theorem dX10_codes_33 : decode prog_12_method_17_code 33 = .ok (.iinc 3 1, 3) := by decide +kernel
theorem dX10_codes_36 : decode prog_12_method_17_code 36 = .ok (.goto 19, 3) := by decide +kernel
theorem dX10_codes_39 : decode prog_12_method_17_code 39 = .ok (.iload_n 3, 1) := by decide +kernel
theorem dX10_codes_40 : decode prog_12_method_17_code 40 = .ok (.iload_n 1, 1) := by decide +kernel
theorem dX10_codes_41 : decode prog_12_method_17_code 41 = .ok (.if_icmp .ge 14, 3) := by decide +kernel
theorem dX10_codes_44 : decode prog_12_method_17_code 44 = .ok (.aload_n 2, 1) := by decide +kernel
theorem dX10_codes_45 : decode prog_12_method_17_code 45 = .ok (.iload_n 3, 1) := by decide +kernel
theorem dX10_codes_46 : decode prog_12_method_17_code 46 = .ok (.aload_n 2, 1) := by decide +kernel
theorem dX10_codes_47 : decode prog_12_method_17_code 47 = .ok (.iload_n 3, 1) := by decide +kernel
theorem dX10_codes_48 : decode prog_12_method_17_code 48 = .ok (.laload, 1) := by decide +kernel
theorem dX10_codes_49 : decode prog_12_method_17_code 49 = .ok (.iload 5, 2) := by decide +kernel
theorem dX10_codes_51 : decode prog_12_method_17_code 51 = .ok (.invokestatic 49, 3) := by decide +kernel
theorem dX10_codes_54 : decode prog_12_method_17_code 54 = .ok (.lastore, 1) := by decide +kernel
theorem dX10_codes_55 : decode prog_12_method_17_code 55 = .ok (.iinc 4 1, 3) := by decide +kernel
theorem dX10_codes_58 : decode prog_12_method_17_code 58 = .ok (.goto (-49), 3) := by decide +kernel
theorem dX10_codes_61 : decode prog_12_method_17_code 61 = .ok (.aload_n 2, 1) := by decide +kernel
theorem dX10_codes_62 : decode prog_12_method_17_code 62 = .ok (.areturn, 1) := by decide +kernel
def s_wl (code letter : Int) : Int := (Int64.ofInt (Int64.ofInt code <<< ((Int32.ofInt 5).toInt64 &&& 63)).toInt ||| Int64.ofInt ((Int32.ofInt (letter - 97 + 1)).toInt64).toInt).toInt
theorem c_X10_withLetter {l : Launch} {E : bE} {M : bM} {L : List Nat} {code letter : Int} (h : 0 ≤ letter ∧ letter < 65536) : b_CL l E xX10_withLetter yX10_withLetter L L [bJ code, bI letter] M (fun r M' => M' = M ∧ r = some (bJ (s_wl code letter))) := by
  refine b_met (by decide) ⟨rfl, rfl⟩ (Nat.le_of_ble_eq_true rfl) (fun hA hRg => ?_)
  refine v_lload_n (f := 0) 0 rfl dX10_withLetter_0 ?_
  refine v_iconst ⟨by decide, by decide⟩ dX10_withLetter_1 ?_
  refine v_lshl rfl dX10_withLetter_2 ?_
  refine v_iload_n (f := 2) 1 rfl dX10_withLetter_3 ?_
  refine v_bipush ⟨by decide, by decide⟩ (by decide) dX10_withLetter_4 ?_
  refine v_isubN (by unfold b_r32; first | omega | (simp (disch := decide) only [b_upc, b_upi, b_ups]; omega)) dX10_withLetter_6 ?_
  refine v_iconst ⟨by decide, by decide⟩ dX10_withLetter_7 ?_
  refine v_iaddN (by unfold b_r32; first | omega | (simp (disch := decide) only [b_upc, b_upi, b_ups]; omega)) dX10_withLetter_8 ?_
  refine v_i2l rfl dX10_withLetter_9 ?_
  refine v_lor rfl dX10_withLetter_10 ?_
  refine v_lreturn rfl dX10_withLetter_11 ⟨by decide, by decide⟩ ?_
  exact ⟨rfl, rfl⟩
theorem v_mem {l : Launch} {E : bE} {X : bX} {kn : Nat × Nat} {pc : Nat} {ls : bL} {st : List bV} {M M2 : bM} {G : bG} {L : List Nat} (h : M = M2) (k : VL l E X L kn pc ls st M2 G) : VL l E X L kn pc ls st M G := h ▸ k
theorem v_widen {l : Launch} {E : bE} {X : bX} {kn k2 : Nat × Nat} {pc : Nat} {ls : bL} {st : List bV} {M : bM} {G : bG} {L : List Nat} (h : kn.1 ≤ k2.1 ∧ kn.2 ≤ k2.2) (k : VL l E X L k2 pc ls st M G) : VL l E X L kn pc ls st M G := by
  intro p e s m args below meth c H locs lsA A ad0 ad hX hS hL hsb hG
  exact W.widen h.1 h.2 (k p e s m args below meth c H locs lsA A ad0 ad hX hS hL hsb hG)
def b_set (M : bM) (c0 : Nat) (f : Int → Int) : bM := fun c i => if c = c0 then f i else M c i
theorem b_set_s (M : bM) (c0 : Nat) (f : Int → Int) (i : Int) : b_set M c0 f c0 i = f i := if_pos rfl
theorem b_set_n {M : bM} {c0 c : Nat} {f : Int → Int} (h : c ≠ c0) (i : Int) : b_set M c0 f c i = M c i := if_neg h
theorem b_set_up (M : bM) (c0 : Nat) (f : Int → Int) (i x : Int) : b_up (b_set M c0 f) c0 i x = b_set M c0 (fun j => if j = i then x else f j) := by
  funext c j
  unfold b_up b_set
  by_cases h : c = c0
  · by_cases h2 : j = i <;> simp [h, h2]
  · simp [h]
theorem b_set_0 {M : bM} {c0 : Nat} (h : ∀ i, M c0 i = 0) : M = b_set M c0 (fun _ => 0) := by
  funext c i
  unfold b_set
  by_cases q : c = c0
  · rw [if_pos q, q, h]
  · rw [if_neg q]
def s_cd (g : Int → Int) (n : Int) : Nat → Int × (Int → Int)
  | 0 => (0, fun _ => 0)
  | k + 1 => if g k = 32 then ((s_cd g n k).1 + 1, (s_cd g n k).2) else if (s_cd g n k).1 < n then ((s_cd g n k).1, fun j => if j = (s_cd g n k).1 then s_wl ((s_cd g n k).2 (s_cd g n k).1) (g k) else (s_cd g n k).2 j) else s_cd g n k
theorem s_cd1 (g : Int → Int) (n : Int) : ∀ k : Nat, 0 ≤ (s_cd g n k).1 ∧ (s_cd g n k).1 ≤ k := by
  intro k
  induction k with
  | zero => exact ⟨Int.le_refl _, Int.le_refl _⟩
  | succ k ih =>
    unfold s_cd
    split
    · exact ⟨by show 0 ≤ (s_cd g n k).1 + 1; omega, by show (s_cd g n k).1 + 1 ≤ ((k + 1 : Nat) : Int); omega⟩
    · split
      · exact ⟨ih.1, by show (s_cd g n k).1 ≤ ((k + 1 : Nat) : Int); omega⟩
      · exact ⟨ih.1, by omega⟩
theorem s_cdS (g : Int → Int) (n k : Int) (h : 0 ≤ k) : s_cd g n (k + 1).toNat = (if g k = 32 then ((s_cd g n k.toNat).1 + 1, (s_cd g n k.toNat).2) else if (s_cd g n k.toNat).1 < n then ((s_cd g n k.toNat).1, fun j => if j = (s_cd g n k.toNat).1 then s_wl ((s_cd g n k.toNat).2 (s_cd g n k.toNat).1) (g k) else (s_cd g n k.toNat).2 j) else s_cd g n k.toNat) := by
  have e : (k + 1).toNat = k.toNat + 1 := by omega
  rw [e]
  have e2 : ((k.toNat : Nat) : Int) = k := Int.toNat_of_nonneg h
  simp only [s_cd, e2]
theorem w_codes {l : Launch} {E : bE} {M : bM} {L1 L0 : List Nat} {c0 c1 c2 N nn z : Nat} {g : Int → Int} {n : Int} {Post : Option bV → bM → Prop} (hm : c0 ∈ L1) (hk : b_kd c0 = (4, nn, z)) (hn : n = nn) (hnn : nn ≤ 11) (hj : b_jdk E) (hs : b_str E c1 c2 N g) (hN : N ≤ 1000) (hp : Post (some (bR c0)) (b_set M c0 (s_cd g n N).2)) : ∀ (f : Nat) (k w : Int), 0 ≤ k → k ≤ N → N - k < f → w = (s_cd g n k.toNat).1 → VL l E xX10_codes L1 (1, 11) 9 [(0, bR c1), (1, bI n), (2, bR c0), (3, bI w), (4, bI k)] [] (b_set M c0 (s_cd g n k.toNat).2) (b_std E xX10_codes L0 L1 Post) := by
  obtain ⟨⟨h1, h2, hNb⟩, hO, hC, hV, hT, hg⟩ := id hs
  intro f
  induction f with
  | zero => intro k w a b c; omega
  | succ f ih =>
    intro k w h0 hkN hf hw
    have hw1 := s_cd1 g n k.toNat
    have hgk := hg k
    refine v_iload (i := 4) 4 rfl dX10_codes_9 ?_
    refine v_aload_n (f := 0) 0 rfl dX10_codes_11 ?_
    refine f_callV (nA := 0) (ix := 69) (C := "java/lang/String") (c_strlen hj hs) rfl h1 hO rfl wc_J0_length_8abf5 wm_10_69 wi_J0_length_8abf5 ws_J0_length_8abf5 wn_java_lang_String ⟨by decide, by decide, by decide⟩ rfl ⟨by decide, by decide⟩ ⟨by decide, by decide⟩ (Nat.le_of_ble_eq_true rfl) dX10_codes_12 (fun r M2 hp => ?_)
    obtain ⟨rfl, rfl⟩ := hp
    dsimp only [Option.toList, List.cons_append, List.nil_append]
    refine v_icmp_ge (tgt := 61) dX10_codes_15 (by decide) (fun hge => ?_) (fun hge => ?_)
    · refine v_aload_n (f := 2) 2 rfl dX10_codes_61 ?_
      have hkk : k = N := by omega
      rw [hkk, Int.toNat_natCast]
      exact v_areturn rfl (Or.inr ⟨_, rfl⟩) dX10_codes_62 ⟨by decide, by decide⟩ hp
    refine v_aload_n (f := 0) 0 rfl dX10_codes_18 ?_
    refine v_iload (i := 4) 4 rfl dX10_codes_19 ?_
    refine f_callV (nA := 1) (ix := 74) (C := "java/lang/String") (c_charAt hj hs (by omega)) rfl h1 hO rfl wc_J0_charAt_5068e wm_10_74 wi_J0_charAt_5068e ws_J0_charAt_5068e wn_java_lang_String ⟨by decide, by decide, by decide⟩ rfl ⟨by decide, by decide⟩ ⟨by decide, by decide⟩ (Nat.le_of_ble_eq_true rfl) dX10_codes_21 (fun r M2 hp => ?_)
    obtain ⟨rfl, rfl⟩ := hp
    dsimp only [Option.toList, List.cons_append, List.nil_append]
    refine v_istore (i := 5) (ls' := [(5, bI _), (0, bR _), (1, bI _), (2, bR _), (3, bI _), (4, bI _)]) (by decide) dX10_codes_24 rfl ?_
    refine v_iload (i := 5) 0 rfl dX10_codes_26 ?_
    refine v_bipush ⟨by decide, by decide⟩ (by decide) dX10_codes_28 ?_
    refine v_icmp_ne (tgt := 39) dX10_codes_30 (by decide) (fun hsp => ?_) (fun hsp => ?_)
    · refine v_iload_n (f := 3) 4 rfl dX10_codes_39 ?_
      refine v_iload_n (f := 1) 2 rfl dX10_codes_40 ?_
      refine v_icmp_ge (tgt := 55) dX10_codes_41 (by decide) (fun hwn => ?_) (fun hwn => ?_)
      · refine v_iincN (ls' := [(4, bI _), (5, bI _), (0, bR _), (1, bI _), (2, bR _), (3, bI _)]) 5 rfl (by decide) (by unfold b_r32; omega) dX10_codes_55 rfl ?_
        refine v_goto (tgt := 9) dX10_codes_58 (by decide) ?_
        refine v_sub (ls2 := [(0, bR _), (1, bI _), (2, bR _), (3, bI _), (4, bI _)]) [2, 3, 4, 5, 0] rfl ?_
        have e := s_cdS g n k h0
        rw [if_neg hsp, if_neg (by omega)] at e
        have h := ih (k + 1) w (by omega) (by omega) (by omega) (by rw [e]; exact hw)
        rw [e] at h
        exact h
      · refine v_aload_n (f := 2) 3 rfl dX10_codes_44 ?_
        refine v_iload_n (f := 3) 4 rfl dX10_codes_45 ?_
        refine v_aload_n (f := 2) 3 rfl dX10_codes_46 ?_
        refine v_iload_n (f := 3) 4 rfl dX10_codes_47 ?_
        refine g_laload hm hk (by omega) (by omega) dX10_codes_48 ?_
        refine v_iload (i := 5) 0 rfl dX10_codes_49 ?_
        refine v_callS (nA := 2) (ix := 49) (c_X10_withLetter (by omega)) rfl wc_X10_withLetter wm_10_49 wi_X10_withLetter wn_10 ⟨by decide, by decide, by decide⟩ rfl ⟨by decide, by decide⟩ ⟨by decide, by decide⟩ (Nat.le_of_ble_eq_true rfl) dX10_codes_51 (fun r M2 hp2 => ?_)
        obtain ⟨rfl, rfl⟩ := hp2
        dsimp only [Option.toList, List.cons_append, List.nil_append]
        refine g_lastore hm hk (by omega) (by omega) dX10_codes_54 ?_
        refine v_iincN (ls' := [(4, bI _), (5, bI _), (0, bR _), (1, bI _), (2, bR _), (3, bI _)]) 5 rfl (by decide) (by unfold b_r32; omega) dX10_codes_55 rfl ?_
        refine v_goto (tgt := 9) dX10_codes_58 (by decide) ?_
        refine v_sub (ls2 := [(0, bR _), (1, bI _), (2, bR _), (3, bI _), (4, bI _)]) [2, 3, 4, 5, 0] rfl ?_
        have e := s_cdS g n k h0
        rw [if_neg hsp, if_pos (by omega)] at e
        have h := ih (k + 1) w (by omega) (by omega) (by omega) (by rw [e]; exact hw)
        rw [e] at h
        rw [b_set_s, b_set_up, hw]
        rw [hw] at h
        exact h
    · refine v_iincN (ls' := [(3, bI _), (5, bI _), (0, bR _), (1, bI _), (2, bR _), (4, bI _)]) 4 rfl (by decide) (by unfold b_r32; omega) dX10_codes_33 rfl ?_
      refine v_goto (tgt := 55) dX10_codes_36 (by decide) ?_
      refine v_iincN (ls' := [(4, bI _), (3, bI _), (5, bI _), (0, bR _), (1, bI _), (2, bR _)]) 5 rfl (by decide) (by unfold b_r32; omega) dX10_codes_55 rfl ?_
      refine v_goto (tgt := 9) dX10_codes_58 (by decide) ?_
      refine v_sub (ls2 := [(0, bR _), (1, bI _), (2, bR _), (3, bI _), (4, bI _)]) [3, 4, 5, 1, 0] rfl ?_
      have e := s_cdS g n k h0
      rw [if_pos hsp] at e
      have h := ih (k + 1) (w + 1) (by omega) (by omega) (by omega) (by rw [e, hw])
      rw [e] at h
      exact h
theorem c_codes {l : Launch} {E : bE} {M : bM} {L : List Nat} {c0 c1 c2 N nn z : Nat} {g : Int → Int} {n : Int} (hc : c0 ∉ L) (hf : L ++ [c0] ≠ b_full) (h12 : c1 ≠ c0) (h0 : ∀ i, M c0 i = 0) (hk : b_kd c0 = (4, nn, z)) (hn : n = nn) (hnn : nn ≤ 11) (hj : b_jdk E) (hs : b_str E c1 c2 N g) (hN : N ≤ 1000) : b_CL l E xX10_codes yX10_codes L (L ++ [c0]) [bR c1, bI n] M (fun r M' => r = some (bR c0) ∧ M' = b_set M c0 (s_cd g n N).2) := by
  refine b_met (by decide) ⟨rfl, rfl⟩ (Nat.le_of_ble_eq_true rfl) (fun hA hRg => ?_)
  refine v_sub (ls2 := [(0, bR _), (1, bI _)]) [0, 1] rfl ?_
  refine v_iload_n (f := 1) 1 rfl dX10_codes_0 ?_
  subst hn
  refine g_newa_long hk hc hc h0 hf (by simp [b_nr, h12]) (by simp) rfl (by omega) wa_long ⟨by decide, by show 0 + nn ≤ 11; omega⟩ dX10_codes_1 ?_
  refine v_astore_n (g := 2) (i := 2) (ls' := [(2, bR _), (0, bR _), (1, bI _)]) rfl (by decide) dX10_codes_3 rfl ?_
  refine v_iconst ⟨by decide, by decide⟩ dX10_codes_4 ?_
  refine v_istore_n (g := 3) (i := 3) (ls' := [(3, bI _), (2, bR _), (0, bR _), (1, bI _)]) rfl (by decide) dX10_codes_5 rfl ?_
  refine v_iconst ⟨by decide, by decide⟩ dX10_codes_6 ?_
  refine v_istore (i := 4) (ls' := [(4, bI _), (3, bI _), (2, bR _), (0, bR _), (1, bI _)]) (by decide) dX10_codes_7 rfl ?_
  refine v_sub (ls2 := [(0, bR _), (1, bI _), (2, bR _), (3, bI _), (4, bI _)]) [3, 4, 2, 1, 0] rfl ?_
  refine v_widen (k2 := (1, 11)) ⟨Nat.le_refl 1, by show 0 + nn ≤ 11; omega⟩ ?_
  have h := w_codes (l := l) (M := M) (L1 := L ++ [c0]) (L0 := L) (z := z) (Post := fun r M' => r = some (bR c0) ∧ M' = b_set M c0 (s_cd g nn N).2) (List.mem_append_right _ List.mem_cons_self) hk rfl hnn hj hs hN ⟨rfl, rfl⟩ 1001 0 0 (by omega) (by omega) (by omega) rfl
  rw [show s_cd g nn (0 : Int).toNat = (0, fun _ => 0) from rfl, ← b_set_0 h0] at h
  exact h
