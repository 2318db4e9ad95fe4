theorem b_full_len : b_full.length = 232 := by decide +kernel
/-! Arrays.copyOf and the field that takes its row -/
theorem b_Inv_set6 {M : bM} {L : List Nat} {c z : Nat} {f : Int → Int} (h : b_Inv L M) (hk : b_kd c = (6, 0, z)) (hf : ∀ i, b_r64 (f i)) : b_Inv L (b_set M c f) := by
  have hc : c < b_NC := b_lt hk (by simp)
  have hG : b_G ≠ c := by intro q; rw [← q] at hc; exact absurd hc (by decide)
  have hrf : ∀ i, b_rf c i = false := by
    intro i
    simp only [b_rf, hk]
  have hne : ∀ c' j, b_rf c' j = true → b_set M c f c' j = M c' j := by
    intro c' j hr
    refine b_set_n ?_ j
    rintro rfl
    rw [hrf] at hr
    cases hr
  have htg : ∀ c' j, b_rf c' j = true → b_tg (b_set M c f) c' j = b_tg M c' j := by
    intro c' j hr
    unfold b_tg
    rw [hne c' j hr]
  refine ⟨⟨fun c' j => ?_, fun c' => ?_⟩, fun hL c' j hr => ?_, fun c' hc' j hr hz => ?_⟩
  · by_cases q : c' = c
    · rw [q, b_set_s]
      have e : b_lg c j = true := by simp only [b_lg, hk]
      rw [e, if_pos rfl]
      exact hf j
    · rw [b_set_n q]
      exact h.1.1 c' j
  · rw [b_set_n hG]
    exact h.1.2 c'
  · rw [hne c' j hr]
    exact h.2.1 hL c' j hr
  · rw [hne c' j hr] at hz
    rw [htg c' j hr]
    exact h.2.2 c' hc' j hr hz
section Keep
variable {l : Launch} {E : bE} {X : bX} {kn : Nat × Nat} {pc : Nat} {ls : bL} {st : List bV} {M : bM} {G : bG} {L : List Nat}
/-- memory outside the world is free -/
theorem v_off {M2 : bM} (hL : L ≠ b_full) (h : ∀ c ∈ L, (∀ i, M2 c i = M c i) ∧ M2 b_G c = M b_G c) (hR : b_Rg M → b_Rg M2) (k : VL l E X L kn pc ls st M2 G) : VL l E X L kn pc ls st M G := by
  intro p e s m args below meth c H locs lsA A ad0 ad hX hS hL2 hsb hG
  obtain ⟨hP, hD, hRg, hva, hA⟩ := id hS
  have hws : b_ws E ad M2 L = b_ws E ad M L := by
    unfold b_ws
    apply List.map_congr_left
    intro c1 hm
    rw [b_el_congr (h c1 hm).1 (h c1 hm).2]
  refine k p e s m args below meth c H locs lsA A ad0 ad hX ⟨by rw [hws]; exact hP, hD, ⟨hR hRg.1, fun q => absurd q hL, fun c1 hc1 i hr hz => ?_⟩, hva, hA⟩ hL2 hsb hG
  rw [(h c1 hc1).1 i] at hz
  have e : b_tg M2 c1 i = b_tg M c1 i := by
    unfold b_tg
    rw [(h c1 hc1).1 i]
  rw [e]
  exact hRg.2.2 c1 hc1 i hr hz
theorem g_newa_dyn {c0 z : Nat} {n : Int} (hk : b_kd c0 = (6, 0, z)) (hc : c0 ∉ L) (hc0 : c0 ∉ G.2.2) (hM : (∀ i, M c0 i = 0) ∧ M b_G c0 = n) (hf : L ++ [c0] ≠ b_full) (hls : ∀ q ∈ ls, b_nr c0 q.2) (hst : ∀ v ∈ st, b_nr c0 v) (hfl : bX.fl X = 1) (hn : 0 ≤ n ∧ n ≤ 60000) (hw : Cond.arrayClass .long ∈ b_T) (hmc : kn.1 + 1 ≤ (bX.R X).cells ∧ kn.2 + n.toNat ≤ (bX.R X).slots) (hd : decode (bX.cc X) pc = .ok (.newarray .long, 2)) (k : VL l E X (L ++ [c0]) (kn.1 + 1, kn.2 + n.toNat) (pc + 2) ls (bR c0 :: st) M G) : VL l E X L kn pc ls (bI n :: st) M G := by
  intro p e s m args below meth c H locs lsA A ad0 ad hX hS hL hsb hG
  obtain ⟨hx, hb, hml, hown, hts, hret, hlk, hK, hnm, hwm⟩ := id hX
  obtain ⟨hl, hlo, hso⟩ := id hL
  obtain ⟨hP, hD, hRg, hva, hA⟩ := id hS
  have hrn : b_r32 n := ⟨by omega, by omega⟩
  have hni : (Int32.ofInt n).toNatClampNeg = n.toNat := by
    show (Int32.ofInt n).toInt.toNat = n.toNat
    rw [to32 hrn]
  refine va_newa (atype := .long) hx hb (hts _ hw) (ty := .long) rfl hK hP (b_Dv hD) hva hA.1 (N' := n.toNat) (a0 := (n.toNat, .inr (.inl (fun _ => 0)))) (fun _ => rfl) (fun q => by
    have h0 := (lt32 hrn r32_0).mp q
    omega) hni (by show n.toNat * 8 ≤ _; omega) hmc.1 hmc.2 hd (fun q cA H1 hK1 hP1 hD1 hS1 => ?_)
  have hcA : cA = E.2.1 4 := by
    have h1 := (hK1.2 5 (cA, .long) rfl).2
    have h2 := (hK.2 3 (E.2.1 4, .long) rfl).2
    exact Option.some.inj (h1.symm.trans h2)
  subst hcA
  have hel : b_el E (b_ex ad c0 q) M c0 = .inl (E.2.1 4, n.toNat, .inr (.inl (fun _ => 0))) := by
    simp only [b_el, hk, hM.1, hM.2]
    rfl
  have hws : b_ws E (b_ex ad c0 q) M (L ++ [c0]) = b_ws E ad M L ++ [(q, .inl (E.2.1 4, n.toNat, .inr (.inl (fun _ => 0))))] := by
    have h1 := b_ws_ex (E := E) (ad := ad) (M := M) (a := q) hc hRg.2.2
    unfold b_ws at h1 ⊢
    rw [List.map_append, h1]
    show _ ++ [(b_ex ad c0 q c0, b_el E (b_ex ad c0 q) M c0)] = _
    rw [hel, show b_ex ad c0 q c0 = q by unfold b_ex; rw [if_pos rfl]]
  rw [← hws] at hP1 hD1
  have h := k p e s m args below meth c H1 locs lsA A ad0 (b_ex ad c0 q) hX ⟨hP1, b_Dw hD1, b_Inv_new hRg hM.1 hf, hS1, hA.1, hA.2.1, hA.2.2.1, hA.2.2.2.1, fun z hz => by rw [b_ex_ne (by have := b_lt hk (by simp); unfold b_NC at this; omega)]; exact hA.2.2.2.2 z hz⟩ ⟨by rw [b_ex_tl hls]; exact hl, hlo, ok_c (v := bR c0) trivial (ok_t hso)⟩ (b_sb_new hfl hsb hc0) hG
  rw [List.map_cons, b_ex_map hst, show b_tv (b_ex ad c0 q) (bR c0) = .ref q by show Value.ref (b_ex ad c0 q c0) = _; unfold b_ex; rw [if_pos rfl]] at h
  exact h
theorem g_copyK {c0 c1 n0 z0 z1 ix : Nat} {sp dp k : Int} (hm0 : c0 ∈ L) (hm1 : c1 ∈ L) (hk0 : b_kd c0 = (4, n0, z0)) (hk1 : b_kd c1 = (6, 0, z1)) (h : 0 ≤ sp ∧ 0 ≤ dp ∧ 0 ≤ k ∧ sp + k ≤ n0 ∧ dp + k ≤ M b_G c1) (hw : Cond.methodLink (bX.own X) ix arraycopyName ∈ b_T) (hroom : 1 ≤ (bX.R X).frames ∧ 8 + (nativeFrameWords "java/lang/System" "arraycopy" 5 + 11) ≤ (bX.R X).locals) (hcat : (st.map (fun v => if b_c2 v = true then 2 else 1)).sum ≤ 8) (hd : decode (bX.cc X) pc = .ok (.invokestatic ix, 3)) (kk : VL l E X L kn (pc + 3) ls st (b_set M c1 (s_cpy (M c0) (M c1) sp dp k)) G) : VL l E X L kn pc ls (bI k :: bI dp :: bR c1 :: bI sp :: bR c0 :: st) M G := by
  intro p e s m args below meth c H locs lsA A ad0 ad hX hS hL hsb hG
  obtain ⟨hx, hb, hml, hown, hts, hret, hlk, hK, hnm, hwm⟩ := id hX
  obtain ⟨hl, hlo, hso⟩ := id hL
  obtain ⟨hP, hD, hRg, hva, hA⟩ := id hS
  have hc1 : c1 < b_NC := b_lt hk1 (by simp)
  have hG1 : b_G ≠ c1 := by intro q; rw [← q] at hc1; exact absurd hc1 (by decide)
  obtain ⟨q1, hq1⟩ := List.getElem?_of_mem hm1
  have hat1 := b_at (E := E) (ad := ad) (M := M) hq1
  have hel1 : b_el E ad M c1 = .inl (E.2.1 4, (M b_G c1).toNat, .inr (.inl (fun i => Int64.ofInt (M c1 i)))) := by simp only [b_el, hk1]
  rw [hel1] at hat1
  have hcatA : ((st.map (b_tv ad)).map fun v => v.category) = st.map (fun v => if b_c2 v = true then 2 else 1) := by
    rw [List.map_map]
    apply List.map_congr_left
    intro v _
    rcases v with x | x | x <;> rfl
  have rk : b_r32 k := ok_h hso
  have rd : b_r32 dp := ok_h (ok_t hso)
  have rs : b_r32 sp := ok_h (ok_t (ok_t (ok_t hso)))
  have nk : (Int32.ofInt k).toNatClampNeg = k.toNat := by show (Int32.ofInt k).toInt.toNat = _; rw [to32 rk]
  have nd : (Int32.ofInt dp).toNatClampNeg = dp.toNat := by show (Int32.ofInt dp).toInt.toNat = _; rw [to32 rd]
  have ns : (Int32.ofInt sp).toNatClampNeg = sp.toNat := by show (Int32.ofInt sp).toInt.toNat = _; rw [to32 rs]
  have pk : ¬ Int32.ofInt k < 0 := fun q => by have := (lt32 rk r32_0).mp q; omega
  have pd : ¬ Int32.ofInt dp < 0 := fun q => by have := (lt32 rd r32_0).mp q; omega
  have ps : ¬ Int32.ofInt sp < 0 := fun q => by have := (lt32 rs r32_0).mp q; omega
  obtain ⟨q0, hq0⟩ := List.getElem?_of_mem hm0
  have hat0 := b_at (E := E) (ad := ad) (M := M) hq0
  have hel0 : b_el E ad M c0 = .inl (E.2.1 4, n0, .inr (.inl (fun i => Int64.ofInt (M c0 i)))) := by simp only [b_el, hk0]
  rw [hel0] at hat0
  refine va_copyl hx hb (by rw [hml]; exact hl.1.symm) hown (hts _ hw) (hts _ wac_n) (hts _ wac_s) (hts _ wac_i) hK hP (b_Dv hD) hva q0 q1 3 3 hat0 hat1 rfl rfl rfl ps pd pk (by rw [ns, nk]; omega) (by rw [nd, nk]; omega) (fun _ _ => rfl) hroom.1 (by rw [hcatA]; have := hroom.2; omega) hd (fun H1 locs1 hP1 hD1 hS1 => ?_)
  have hnew : b_el E ad (b_set M c1 (s_cpy (M c0) (M c1) sp dp k)) c1 = .inl (E.2.1 4, (M b_G c1).toNat, .inr (.inl (va_cpy (fun i => Int64.ofInt (M c0 i)) (fun i => Int64.ofInt (M c1 i)) (Int32.ofInt sp).toNatClampNeg (Int32.ofInt dp).toNatClampNeg (Int32.ofInt k).toNatClampNeg))) := by
    simp only [b_el, hk1, b_set_s, b_set_n hG1]
    rw [ns, nd, nk]
    congr 5
    funext j
    unfold va_cpy s_cpy
    by_cases q : dp.toNat ≤ j ∧ j < dp.toNat + k.toNat
    · rw [if_pos q, if_pos (by omega), show sp + ((j : Int) - dp) = ((sp.toNat + (j - dp.toNat) : Nat) : Int) by omega]
    · rw [if_neg q, if_neg (by omega)]
  have hset := b_ws_set2 (E := E) (M := M) (M2 := b_set M c1 (s_cpy (M c0) (M c1) sp dp k)) (c := c1) hD hq1 (fun c' h' i => b_set_n h' i) hc1 hnew
  have hP2 : va_P E.1 b_cl (b_ws E ad (b_set M c1 (s_cpy (M c0) (M c1) sp dp k)) L) H1 := by rw [← hset]; exact hP1
  exact kk p e s m args below meth c H1 locs1 lsA A ad0 ad hX ⟨hP2, hD, b_Inv_set6 hRg hk1 (fun i => by
    have g0 := fun i => hRg.1.1 c0 i
    have g1 := fun i => hRg.1.1 c1 i
    simp only [b_lg, hk0, hk1, if_true] at g0 g1
    unfold s_cpy
    split
    · exact g0 _
    · exact g1 _), hS1, hA⟩ ⟨hl, hlo, ok_t (ok_t (ok_t (ok_t (ok_t hso))))⟩ hsb hG
end Keep
abbrev xCopy : bX := ("java/util/Arrays", prog_21_method_124_code, 3, (Option.some (Jvm.ClassFile.FieldType.array Jvm.ClassFile.FieldType.long)), b_rm 1 1 1000, 1, "copyOf")
abbrev yCopy : MethodName := ⟨"java/util/Arrays", "copyOf", "([JI)[J"⟩
theorem dCopy_0 : decode prog_21_method_124_code 0 = .ok (.iload_n 1, 1) := by decide +kernel
theorem dCopy_1 : decode prog_21_method_124_code 1 = .ok (.aload_n 0, 1) := by decide +kernel
theorem dCopy_2 : decode prog_21_method_124_code 2 = .ok (.arraylength, 1) := by decide +kernel
theorem dCopy_3 : decode prog_21_method_124_code 3 = .ok (.if_icmp .ne 11, 3) := by decide +kernel
theorem dCopy_14 : decode prog_21_method_124_code 14 = .ok (.iload_n 1, 1) := by decide +kernel
theorem dCopy_15 : decode prog_21_method_124_code 15 = .ok (.newarray .long, 2) := by decide +kernel
theorem dCopy_17 : decode prog_21_method_124_code 17 = .ok (.astore_n 2, 1) := by decide +kernel
theorem dCopy_18 : decode prog_21_method_124_code 18 = .ok (.aload_n 0, 1) := by decide +kernel
theorem dCopy_19 : decode prog_21_method_124_code 19 = .ok (.iconst 0, 1) := by decide +kernel
theorem dCopy_20 : decode prog_21_method_124_code 20 = .ok (.aload_n 2, 1) := by decide +kernel
theorem dCopy_21 : decode prog_21_method_124_code 21 = .ok (.iconst 0, 1) := by decide +kernel
theorem dCopy_22 : decode prog_21_method_124_code 22 = .ok (.aload_n 0, 1) := by decide +kernel
theorem dCopy_23 : decode prog_21_method_124_code 23 = .ok (.arraylength, 1) := by decide +kernel
theorem dCopy_24 : decode prog_21_method_124_code 24 = .ok (.iload_n 1, 1) := by decide +kernel
theorem dCopy_25 : decode prog_21_method_124_code 25 = .ok (.invokestatic 304, 3) := by decide +kernel
theorem dCopy_28 : decode prog_21_method_124_code 28 = .ok (.invokestatic 150, 3) := by decide +kernel
theorem dCopy_31 : decode prog_21_method_124_code 31 = .ok (.aload_n 2, 1) := by decide +kernel
theorem dCopy_32 : decode prog_21_method_124_code 32 = .ok (.areturn, 1) := by decide +kernel
/-- a new row of n steps for cell c -/
def Mk0 (M : bM) (c : Nat) (n : Int) : bM := b_up (b_set M c (fun _ => 0)) b_G c n
def Mk (M : bM) (c : Nat) (n : Int) : bM := b_set (Mk0 M c n) c (s_cpy (M 108) (fun _ => 0) 0 0 n)
theorem Mk0_o {M : bM} {c : Nat} {n : Int} {c2 : Nat} {i : Int} (h : c2 ≠ c) (h2 : c2 ≠ b_G) : Mk0 M c n c2 i = M c2 i := by
  unfold Mk0
  rw [b_upc h2, b_set_n h]
theorem Mk_o {M : bM} {c : Nat} {n : Int} {c2 : Nat} {i : Int} (h : c2 ≠ c) (h2 : c2 ≠ b_G) : Mk M c n c2 i = M c2 i := by
  unfold Mk
  rw [b_set_n h, Mk0_o h h2]
theorem Mk_g {M : bM} {c : Nat} {n : Int} {i : Int} (hc : c ≠ b_G) : Mk M c n b_G i = if i = c then n else M b_G i := by
  unfold Mk Mk0
  rw [b_set_n (Ne.symm hc), b_upJ, b_set_n (Ne.symm hc)]
theorem Mk_s {M : bM} {c : Nat} {n : Int} {i : Int} : Mk M c n c i = s_cpy (M 108) (fun _ => 0) 0 0 n i := by
  unfold Mk
  rw [b_set_s]
theorem Mk0_R {M : bM} {c : Nat} {n : Int} (hk : b_kd c = (6, 0, 0)) (hn : 0 ≤ n ∧ n ≤ 1000) (h : b_Rg M) : b_Rg (Mk0 M c n) := by
  have hc : c < b_NC := b_lt hk (by simp)
  have hG : c ≠ b_G := by intro q; rw [q] at hc; exact absurd hc (by decide)
  refine ⟨fun c2 i => ?_, fun c2 => ?_⟩
  · by_cases q : c2 = c
    · have e : Mk0 M c n c2 i = 0 := by
        rw [q]
        unfold Mk0
        rw [b_upc hG, b_set_s]
      rw [e]
      split
      · exact ⟨by decide, by decide⟩
      · exact ⟨by decide, by decide⟩
    · by_cases q2 : c2 = b_G
      · rw [q2]
        have e : Mk0 M c n b_G i = if i = c then n else M b_G i := by
          unfold Mk0
          rw [b_upJ, b_set_n (Ne.symm hG)]
        rw [e]
        have e2 : b_lg b_G i = false := by
          have : b_kd b_G = (9, 0, 0) := by decide +kernel
          simp only [b_lg, this]
        have h3 := h.1 b_G i
        rw [e2] at h3 ⊢
        rw [if_neg (by decide)] at h3 ⊢
        split
        · exact ⟨by omega, by omega⟩
        · exact h3
      · rw [Mk0_o q q2]
        exact h.1 c2 i
  · have e : Mk0 M c n b_G c2 = if (c2 : Int) = c then n else M b_G c2 := by
      unfold Mk0
      rw [b_upJ, b_set_n (Ne.symm hG)]
    rw [e]
    split
    · omega
    · exact h.2 c2
theorem c_copyOf {l : Launch} {E : bE} {M : bM} {c : Nat} {n : Int} (hk : b_kd c = (6, 0, 0)) (hn : 0 ≤ n ∧ n < 1000) : b_CL l E xCopy yCopy [108] [108, c] [bR 108, bI n] M (fun r M' => r = some (bR c) ∧ M' = Mk M c n) := by
  have hc : c < b_NC := b_lt hk (by simp)
  have hG : c ≠ b_G := by intro q; rw [q] at hc; exact absurd hc (by decide)
  have h108 : (108 : Nat) ≠ c := by
    intro q
    rw [← q, kd_108] at hk
    exact absurd hk (by decide)
  refine b_met (by decide) ⟨rfl, rfl⟩ (Nat.le_of_ble_eq_true rfl) (fun _ _ => ?_)
  show VL l E xCopy [108] (0, 0) 0 [(0, bR 108), (1, bI n)] [] M _
  refine v_iload_n (f := 1) 1 rfl dCopy_0 ?_
  refine v_aload_n (f := 0) 0 rfl dCopy_1 ?_
  refine g_alen4 (by simp) kd_108 (by decide) dCopy_2 ?_
  refine v_icmp_ne (tgt := 14) dCopy_3 (by decide) (fun _ => ?_) (fun q => absurd hn.2 (by omega))
  refine v_off (M2 := Mk0 M c n) (by decide +kernel) (fun c1 h1 => ?_) (Mk0_R hk (by omega)) ?_
  · rw [List.mem_singleton.mp h1]
    refine ⟨fun i => Mk0_o h108 (by decide), ?_⟩
    unfold Mk0
    rw [b_upi (by intro q; exact h108 (by omega)), b_set_n (Ne.symm hG)]
  refine v_iload_n (f := 1) 1 rfl dCopy_14 ?_
  refine g_newa_dyn (c0 := c) (n := n) hk (by simp; exact fun q => h108 q.symm) (by show c ∉ [108]; simp; exact fun q => h108 q.symm) ⟨fun i => ?_, ?_⟩ (by intro q; have z := congrArg List.length q; rw [b_full_len] at z; simp at z) ?_ (by intro v hv; cases hv) rfl (by omega) wa_long ⟨by decide, by show 0 + n.toNat ≤ 1000; omega⟩ dCopy_15 ?_
  · unfold Mk0
    rw [b_upc hG, b_set_s]
  · unfold Mk0
    exact b_ups
  · intro q hq
    rcases List.mem_cons.mp hq with h | h
    · rw [h]; exact h108
    · rw [List.mem_singleton.mp h]; trivial
  refine v_astore_n (g := 2) (i := 2) (ls' := [(2, bR c), (0, bR 108), (1, bI n)]) rfl (by decide) dCopy_17 rfl ?_
  refine v_aload_n (f := 0) 1 rfl dCopy_18 ?_
  refine v_iconst ⟨by decide, by decide⟩ dCopy_19 ?_
  refine v_aload_n (f := 2) 0 rfl dCopy_20 ?_
  refine v_iconst ⟨by decide, by decide⟩ dCopy_21 ?_
  refine v_aload_n (f := 0) 1 rfl dCopy_22 ?_
  refine g_alen4 (by simp) kd_108 (by decide) dCopy_23 ?_
  refine v_iload_n (f := 1) 2 rfl dCopy_24 ?_
  refine v_mmin wm_java_util_Arrays_304 wma_min wmi wmc_min ⟨by show 0 + 1 ≤ 1; omega, by show 0 + n.toNat ≤ 1000; omega⟩ ⟨by decide, by decide⟩ (Nat.le_of_ble_eq_true rfl) dCopy_25 ?_
  have em : min ((1000 : Nat) : Int) n = n := by omega
  rw [em]
  refine g_copyK (by simp) (by simp) kd_108 hk ⟨by omega, by omega, by omega, by omega, ?_⟩ wm_java_util_Arrays_150 ⟨by decide, by decide⟩ (Nat.le_of_ble_eq_true rfl) dCopy_28 ?_
  · have e : Mk0 M c n b_G c = n := by
      unfold Mk0
      exact b_ups
    rw [e]; omega
  refine v_aload_n (f := 2) 0 rfl dCopy_31 ?_
  refine v_areturn rfl (Or.inr ⟨_, rfl⟩) dCopy_32 ⟨by show 0 + 1 ≤ 1; omega, by show 0 + n.toNat ≤ 1000; omega⟩ ⟨rfl, ?_⟩
  unfold Mk
  have e1 : Mk0 M c n 108 = M 108 := funext fun i => Mk0_o h108 (by decide)
  have e2 : Mk0 M c n c = fun _ => 0 := funext fun i => by
    unfold Mk0
    rw [b_upc hG, b_set_s]
  rw [e1, e2]
