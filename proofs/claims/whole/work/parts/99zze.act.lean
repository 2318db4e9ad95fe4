theorem c_keepSteps {l : Launch} {E : bE} {M : bM} {c : Nat} {n : Int} (hc : 12 ≤ c ∧ c < 22) (hn : 0 ≤ n ∧ n < 1000) (hdr : (M 4 8).toNat ≠ c + 50) : b_C l E xX0_keepSteps yX0_keepSteps [bR c, bR 108, bI n] M (fun r M' => r = none ∧ M' = Mk M (c + 50) n) := by
  refine b_met (by decide) ⟨rfl, rfl⟩ (Nat.le_of_ble_eq_true rfl) (fun _ _ => ?_)
  show VL l E xX0_keepSteps b_full (0, 0) 0 [(0, bR c), (1, bR 108), (2, bI n)] [] M _
  refine v_iload_n (f := 2) 2 rfl dX0_keepSteps_0 ?_
  refine v_if_lt (tgt := 19) dX0_keepSteps_1 (by decide) (fun q => absurd hn.1 (by omega)) (fun _ => ?_)
  refine v_iload_n (f := 2) 2 rfl dX0_keepSteps_4 ?_
  refine v_aload_n (f := 1) 1 rfl dX0_keepSteps_5 ?_
  refine v_alen4 kd_108 (by decide) dX0_keepSteps_6 ?_
  refine v_icmp_gt (tgt := 19) dX0_keepSteps_7 (by decide) (fun q => absurd hn.2 (by omega)) (fun _ => ?_)
  refine v_aload_n (f := 0) 0 rfl dX0_keepSteps_10 ?_
  refine v_aload_n (f := 1) 1 rfl dX0_keepSteps_11 ?_
  refine v_iload_n (f := 2) 2 rfl dX0_keepSteps_12 ?_
  refine g_keep hc hn hdr ?_
  exact v_return rfl dX0_keepSteps_19 ⟨by decide, by decide⟩ ⟨rfl, rfl⟩
/-- values whose cells never move -/
def b_iF : bV → Prop
  | .inr (.inr c) => (c ∈ b_full ∧ b_fx c) ∨ 2000 ≤ c
  | _ => True
theorem b_tv_iF {ad ad2 : Nat → Nat} (h : ∀ c, (c ∈ b_full ∧ b_fx c) ∨ 2000 ≤ c → ad2 c = ad c) {v : bV} (hv : b_iF v) : b_tv ad2 v = b_tv ad v := by
  rcases v with x | x | x
  · rfl
  · rfl
  · show Value.ref (ad2 x) = Value.ref (ad x)
    rw [h x hv]
section Moves
variable {l : Launch} {E : bE} {X Y : bX} {kn : Nat × Nat} {pc ix : Nat} {ls : bL} {st : List bV} {M : bM} {G : bG} {PostY : Option bV → bM → Prop} {y : MethodName} {As : List bV}
theorem b_goes2 {p : Program} {e : Env} {s : State} {m : MethodId} {args : Array Value} {below : List Frame} {meth : Method} {c : Code} {H : Heap} {locs : List Loc} {lsA : Array Slot} {A : Nat → Prop} {ad0 ad : Nat → Nat} {a : Array Value} {st0 : List Value} (hfl : bX.fl Y = 2) (hSB : ∀ ad0 ad ad2 : Nat → Nat, (∀ c, c ∈ b_full → b_fx c → ad2 c = ad c) → b_sb (bX.fl X) G.2.2 ad0 ad → b_sb (bX.fl X) G.2.2 ad0 ad2) (hls : ∀ q ∈ ls, b_iF q.2) (hst : ∀ v ∈ st, b_iF v)
    (hr : va_Run p l e (bX.R X) s m args below meth c H locs kn.1 kn.2 (bX.R Y).cells (bX.R Y).slots (F0 m pc lsA st0) (st.map (b_tv ad)) (b_Q E (b_A b_full ad H.size) (bX.fl Y) b_full b_full ad PostY a) (b_A b_full ad H.size))
    (hX : b_At E X p s m args meth c) (hS : b_St E b_full ad M A s H locs) (hl : lv_has lsA (bX.nL X) (b_tl ad ls)) (hlo : ∀ q ∈ ls, b_ok q.2) (hso : ∀ v ∈ st, b_ok v) (hsb : b_sb (bX.fl X) G.2.2 ad0 ad) (hG : G.2.1 s A)
    (hno : ∀ r M', PostY r M' → ∀ v ∈ r, b_iF v)
    (k : ∀ r M', PostY r M' → VL l E X b_full (kn.1 + (bX.R Y).cells, kn.2 + (bX.R Y).slots) (pc + 3) ls (r.toList ++ st) M' G) :
    W p l e (bX.R X) s m args below meth c H locs kn.1 kn.2 (G.1 s args below A ad0) (F0 m pc lsA st0) := by
  intro T hT X0
  obtain ⟨v, st₀, t, T', L9, h0, X', hL, e1, e2, ⟨⟨r, M', ad', hv, hok, hpost, hP', hD', hRg', hK', hsb', hfo'⟩, hz, hk⟩, stp⟩ := hr T hT X0
  obtain ⟨hP, hD, hRg, hva, hA⟩ := hS
  rw [hfl] at hsb'
  have had1 : ∀ c, c ∈ b_full → b_fx c → ad' c = ad c := fun c hc hf => hsb' c hc hf
  have had : ∀ c, (c ∈ b_full ∧ b_fx c) ∨ 2000 ≤ c → ad' c = ad c := by
    intro c hc
    rcases hc with hc | hc
    · exact had1 c hc.1 hc.2
    · rw [hfo' c hc, hA.2.2.2.2 c hc]
  cases hv
  rw [h0] at hz hk
  have hsub : ∀ q, b_A b_full ad H.size q → A q := by
    intro q hq
    rcases hq with ⟨c1, hc1, rfl⟩ | hq
    · exact hD.2 c1 hc1
    · exact hA.1 q (Nat.le_trans hva.1 hq)
  have hSn : va_S A s.heap T'.heap (locs ++ L9) := ⟨Nat.le_trans hva.1 (by rw [e1]; exact hz), fun q h1 h2 => by
      rw [e1, hk q (Nat.lt_of_lt_of_le h1 hva.1) (fun z => h2 (hsub q z))]
      exact hva.2.1 q h1 h2, fun q hq => by
      rcases List.mem_append.mp hq with h | h
      · exact hva.2.2 q h
      · exact hsub _ (hL q h)⟩
  have hst2 : ∀ w ∈ r.toList ++ st, b_ok w := by
    intro w hw
    rcases List.mem_append.mp hw with h | h
    · exact hok w (by simpa using h)
    · exact hso w h
  have htl : b_tl ad' ls = b_tl ad ls := List.map_congr_left (fun q hm => by show (q.1, _) = (q.1, _); rw [b_tv_iF had (hls q hm)])
  have h := k r M' hpost p e s m args below meth c T'.heap (locs ++ L9) lsA A ad0 ad' hX ⟨by rw [e1]; exact hP', ⟨hD'.1, fun c1 hc1 => hsub _ (hD'.2 c1 hc1)⟩, hRg', hSn, hA.1, hA.2.1, hA.2.2.1, hA.2.2.2.1, hfo'⟩ ⟨by rw [htl]; exact hl, hlo, hst2⟩ (hSB ad0 ad ad' had1 hsb) hG
  obtain ⟨t2, a1, b1⟩ := h T' rfl X'
  refine ⟨t2, stp t2 ?_, b1⟩
  have hms : st.map (b_tv ad') = st.map (b_tv ad) := List.map_congr_left (fun v hm => b_tv_iF had (hst v hm))
  have hmap : List.map (b_tv ad') (r.toList ++ st) = (Option.map (b_tv ad') r).toList ++ List.map (b_tv ad) st := by
    rw [← hms]
    cases r <;> simp
  rw [hmap] at a1
  exact a1
theorem v_callV2 {ci n c0 nA : Nat} {q : vw_C} (hC : b_C l E Y y (bR c0 :: As) M PostY) (hfl : bX.fl Y = 2) (hSB : ∀ ad0 ad ad2 : Nat → Nat, (∀ c, c ∈ b_full → b_fx c → ad2 c = ad c) → b_sb (bX.fl X) G.2.2 ad0 ad → b_sb (bX.fl X) G.2.2 ad0 ad2) (hls : ∀ q ∈ ls, b_iF q.2) (hst : ∀ v ∈ st, b_iF v) (hno : ∀ r M', PostY r M' → ∀ v ∈ r, b_iF v) (hk : b_kd c0 = (0, ci, n)) (hq : b_cl[ci]? = some q) (hcls : y.cls = q.1)
    (hw : Cond.code y (bX.cc Y) (bX.nL Y) (bX.ret Y) ∈ b_T) (hwl : Cond.methodLink (bX.own X) ix y ∈ b_T) (hwi : Cond.instanceMethod y ∈ b_T) (hws : Cond.selects q.1 y y ∈ b_T) (hwn : Cond.initialized q.1 ∈ b_T)
    (hd0 : q.1 ≠ "java/lang/invoke/MethodHandle" ∧ q.1 ≠ "java/lang/invoke/VarHandle" ∧ (parseMethodDescriptor y.desc).map (fun d => d.parameters.length) = some nA) (hn : As.length = nA)
    (hroom : (bX.R Y).frames + 1 ≤ (bX.R X).frames ∧ 8 + (bX.nL Y + 11) + (bX.R Y).locals ≤ (bX.R X).locals) (hmc : kn.1 + (bX.R Y).cells ≤ (bX.R X).cells ∧ kn.2 + (bX.R Y).slots ≤ (bX.R X).slots) (hcat : (st.map (fun v => if b_c2 v = true then 2 else 1)).sum ≤ 8)
    (hd : decode (bX.cc X) pc = .ok (.invokevirtual ix, 3)) (k : ∀ r M', PostY r M' → VL l E X b_full (kn.1 + (bX.R Y).cells, kn.2 + (bX.R Y).slots) (pc + 3) ls (r.toList ++ st) M' G) : VL l E X b_full kn pc ls (As.reverse ++ bR c0 :: st) M G := by
  intro p e s m args below meth c H locs lsA A ad0 ad hX hS hL hsb hG
  obtain ⟨hx, hb, hml, hown, hts, hret, hlk, hK, hnm, hwm⟩ := id hX
  obtain ⟨hl, hlo, hso⟩ := id hL
  obtain ⟨hP, hD, hRg, hva, hA⟩ := id hS
  obtain ⟨q0, hq0⟩ := List.getElem?_of_mem (b_in hk (by simp))
  have hat := b_at (E := E) (ad := ad) (M := M) hq0
  have hel : b_el E ad M c0 = .inr (ci, (List.range n).map (b_fv ad M c0 ci)) := by simp only [b_el, hk]
  rw [hel] at hat
  have hso2 : ∀ v ∈ st, b_ok v := fun v hv => hso v (List.mem_append_right _ (List.mem_cons_of_mem _ hv))
  have hGd : GoodIn b_T (wsV (bX.own X) ix q.1 y (b_wsy Y y)) := by
    intro w hw1
    have hmem : w ∈ b_T := by
      unfold wsV at hw1
      rcases List.mem_append.mp hw1 with h | h
      · simp only [List.mem_cons, List.not_mem_nil, or_false] at h
        rcases h with rfl | rfl | rfl | rfl
        · exact hwl
        · exact hwi
        · exact hws
        · exact hwn
      · rcases List.mem_cons.mp h with rfl | h
        · exact hw
        · exact h
    exact b_good w hmem
  have hcatA : ∀ l0 : List bV, ((l0.map (b_tv ad)).map fun v => v.category) = l0.map (fun v => if b_c2 v = true then 2 else 1) := by
    intro l0
    rw [List.map_map]
    apply List.map_congr_left
    intro v _
    rcases v with x | x | x <;> rfl
  have hr := va_runV (p := p) (l := l) (e := e) (R := bX.R X) (below := below) (meth := meth) (locs := locs) (cells := kn.1) (slots := kn.2) (g := F0 m pc lsA ((As.reverse ++ bR c0 :: st).map (b_tv ad))) (As := As.map (b_tv ad)) (b := ad c0) (rest := st.map (b_tv ad)) (C := q.1) (H := H) ⟨hx, hb, hml, hown, hts⟩ (hC (fun v hv => by
      rcases List.mem_cons.mp hv with rfl | hv
      · trivial
      · exact hso v (List.mem_append_left _ (List.mem_reverse.mpr hv))) hRg ad H.size)
    (cwV nA hts hGd rfl rfl rfl ⟨hcls, by rw [hcls]; exact hd0.1, by rw [hcls]; exact hd0.2.1, hd0.2.2⟩ hroom)
    ⟨b_blind, va_recv hK hP hq hat, fun U hU hW => ⟨rfl, by rw [hU], by rw [hU]; exact hP, hD.1, hRg, va_K.moved hW.alike hK, State.WarmedH.trans hwm hW, fun c1 h1 => hA.2.1 _ (hD.2 c1 h1), Nat.le_trans hA.2.2.1 hva.1, fun q1 h1 => by rw [hU, hva.2.1 q1 (Nat.lt_of_lt_of_le h1 hA.2.2.1) (fun z => Nat.not_le.mpr h1 (hA.2.1 q1 z))]; exact hA.2.2.2.1 q1 h1, hA.2.2.2.2⟩⟩ rfl (by rw [List.length_map]; exact hn) hl.1 (by simp [b_tv]) (lv_room (by rw [hcatA]; exact hcat)) hd hmc
  exact b_goes2 hfl hSB hls hst hr hX hS hl hlo hso2 hsb hG hno k
end Moves
theorem b_SB2 {L0 : List Nat} (hL : ∀ c ∈ L0, c ∈ b_full) : ∀ ad0 ad ad2 : Nat → Nat, (∀ c, c ∈ b_full → b_fx c → ad2 c = ad c) → b_sb 2 L0 ad0 ad → b_sb 2 L0 ad0 ad2 := by
  intro ad0 ad ad2 h h2 c hc hf
  rw [h c (hL c hc) hf]
  exact h2 c hc hf
theorem b_SB3 {E : bE} {X : bX} {Post : Option bV → bM → Prop} (hfl : bX.fl X = 2) : ∀ ad0 ad ad2 : Nat → Nat, (∀ c, c ∈ b_full → b_fx c → ad2 c = ad c) → b_sb (bX.fl X) (b_std E X b_full b_full Post).2.2 ad0 ad → b_sb (bX.fl X) (b_std E X b_full b_full Post).2.2 ad0 ad2 := by
  rw [hfl]
  exact b_SB2 (L0 := b_full) (fun _ h => h)
abbrev xX1_enact : bX := ("BurntHall$Acts", prog_3_method_5_code, 2, (Option.none : Option Jvm.ClassFile.FieldType), b_rm 3 1 1000, 2, "enact")
abbrev yX1_enact : MethodName := ⟨"BurntHall$Acts", "enact", "(I)V"⟩
theorem dX1_enact_0 : decode prog_3_method_5_code 0 = .ok (.aload_n 0, 1) := by decide +kernel
theorem dX1_enact_1 : decode prog_3_method_5_code 1 = .ok (.getfield 55, 3) := by decide +kernel
theorem dX1_enact_4 : decode prog_3_method_5_code 4 = .ok (.bipush 8, 2) := by decide +kernel
theorem dX1_enact_6 : decode prog_3_method_5_code 6 = .ok (.if_icmp .ge 36, 3) := by decide +kernel
theorem dX1_enact_9 : decode prog_3_method_5_code 9 = .ok (.aload_n 0, 1) := by decide +kernel
theorem dX1_enact_10 : decode prog_3_method_5_code 10 = .ok (.getfield 51, 3) := by decide +kernel
theorem dX1_enact_13 : decode prog_3_method_5_code 13 = .ok (.iload_n 1, 1) := by decide +kernel
theorem dX1_enact_14 : decode prog_3_method_5_code 14 = .ok (.putfield 59, 3) := by decide +kernel
theorem dX1_enact_17 : decode prog_3_method_5_code 17 = .ok (.aload_n 0, 1) := by decide +kernel
theorem dX1_enact_18 : decode prog_3_method_5_code 18 = .ok (.getfield 51, 3) := by decide +kernel
theorem dX1_enact_21 : decode prog_3_method_5_code 21 = .ok (.aload_n 0, 1) := by decide +kernel
theorem dX1_enact_22 : decode prog_3_method_5_code 22 = .ok (.getfield 19, 3) := by decide +kernel
theorem dX1_enact_25 : decode prog_3_method_5_code 25 = .ok (.aload_n 0, 1) := by decide +kernel
theorem dX1_enact_26 : decode prog_3_method_5_code 26 = .ok (.getfield 66, 3) := by decide +kernel
theorem dX1_enact_29 : decode prog_3_method_5_code 29 = .ok (.invokevirtual 69, 3) := by decide +kernel
theorem dX1_enact_32 : decode prog_3_method_5_code 32 = .ok (.aload_n 0, 1) := by decide +kernel
theorem dX1_enact_33 : decode prog_3_method_5_code 33 = .ok (.dup, 1) := by decide +kernel
theorem dX1_enact_34 : decode prog_3_method_5_code 34 = .ok (.getfield 55, 3) := by decide +kernel
theorem dX1_enact_37 : decode prog_3_method_5_code 37 = .ok (.iconst 1, 1) := by decide +kernel
theorem dX1_enact_38 : decode prog_3_method_5_code 38 = .ok (.iadd, 1) := by decide +kernel
theorem dX1_enact_39 : decode prog_3_method_5_code 39 = .ok (.putfield 55, 3) := by decide +kernel
theorem dX1_enact_42 : decode prog_3_method_5_code 42 = .ok (.return_, 1) := by decide +kernel
/-- what enact leaves -/
def fEn (M : bM) (d : Int) : bM := b_up (Mk (b_up M (M 4 8).toNat 0 d) ((M 4 8).toNat + 50) (M 4 9)) 4 0 (M 4 0 + 1)
theorem c_enact {l : Launch} {E : bE} {M : bM} {d : Int} (hc : 12 ≤ (M 4 8).toNat ∧ (M 4 8).toNat < 22) (h8 : 0 ≤ M 4 0 ∧ M 4 0 < 8) (hn : 0 ≤ M 4 9 ∧ M 4 9 < 1000) : b_C l E xX1_enact yX1_enact [bR 4, bI d] M (fun r M' => r = none ∧ M' = fEn M d) := by
  generalize hcc : (M 4 8).toNat = c at *
  have c4 : (4 : Nat) ≠ c := by omega
  refine b_met (by decide) ⟨rfl, rfl⟩ (Nat.le_of_ble_eq_true rfl) (fun _ _ => ?_)
  show VL l E xX1_enact b_full (0, 0) 0 [(0, bR 4), (1, bI d)] [] M _
  refine v_aload_n (f := 0) 0 rfl dX1_enact_0 ?_
  refine v_getI (kf := 0) (kz := 0) rfl kd_4 rfl ⟨by decide, by decide⟩ rfl wf_1_55 dX1_enact_1 ?_
  refine v_bipush ⟨by decide, by decide⟩ (by decide) dX1_enact_4 ?_
  refine v_icmp_ge (tgt := 42) dX1_enact_6 (by decide) (fun q => absurd h8.2 (by omega)) (fun _ => ?_)
  refine v_aload_n (f := 0) 0 rfl dX1_enact_9 ?_
  refine v_getD (kf := 8) (kz := 8) rfl kd_4 rfl ⟨by decide, by decide⟩ rfl wf_1_51 dX1_enact_10 ?_
  rw [hcc]
  refine v_iload_n (f := 1) 1 rfl dX1_enact_13 ?_
  refine v_putI (kf := 0) (kz := 0) rfl (kd_act0 hc) rfl ⟨by decide, by decide⟩ rfl wf_1_59 rfl rfl dX1_enact_14 ?_
  refine v_aload_n (f := 0) 0 rfl dX1_enact_17 ?_
  refine v_getD (kf := 8) (kz := 8) rfl kd_4 rfl ⟨by decide, by decide⟩ rfl wf_1_51 dX1_enact_18 ?_
  rw [b_upc c4, hcc]
  refine v_aload_n (f := 0) 0 rfl dX1_enact_21 ?_
  refine v_getR (kf := 6) (kz := 6) rfl kd_4 rfl ⟨by decide, by decide⟩ rfl wf_1_19 dX1_enact_22 ?_
  refine v_aload_n (f := 0) 0 rfl dX1_enact_25 ?_
  refine v_getI (kf := 9) (kz := 9) rfl kd_4 rfl ⟨by decide, by decide⟩ rfl wf_1_66 dX1_enact_26 ?_
  rw [b_upc c4]
  refine v_callV2 (nA := 2) (As := [bR 108, bI _]) (ix := 69) (c_keepSteps (M := b_up M c 0 d) hc hn (by rw [b_upc c4, hcc]; omega)) rfl (b_SB3 rfl) ?_ (by intro v hv; cases hv) (by rintro r M' ⟨rfl, _⟩ v hv; cases hv) (kd_act0 hc) rfl rfl wc_X0_keepSteps wm_1_69 wi_X0_keepSteps ws_X0_keepSteps wn_0 ⟨by decide, by decide, by decide⟩ rfl ⟨by decide, by decide⟩ ⟨by decide, by decide⟩ (Nat.le_of_ble_eq_true rfl) dX1_enact_29 ?_
  · intro q hq
    simp only [List.mem_cons, List.not_mem_nil, or_false] at hq
    rcases hq with rfl | rfl
    · exact Or.inl ⟨by decide +kernel, Or.inl (by decide)⟩
    · trivial
  rintro r M' ⟨rfl, rfl⟩
  have e40 : Mk (b_up M c 0 d) (c + 50) (M 4 9) 4 0 = M 4 0 := by rw [Mk_o (by omega) (by decide), b_upc c4]
  show VL l E xX1_enact b_full (1, 1000) 32 [(0, bR 4), (1, bI d)] [] _ _
  refine v_aload_n (f := 0) 0 rfl dX1_enact_32 ?_
  refine v_dup rfl dX1_enact_33 ?_
  refine v_getI (kf := 0) (kz := 0) rfl kd_4 rfl ⟨by decide, by decide⟩ rfl wf_1_55 dX1_enact_34 ?_
  rw [e40]
  refine v_iconst ⟨by decide, by decide⟩ dX1_enact_37 ?_
  refine v_iaddN ⟨by omega, by omega⟩ dX1_enact_38 ?_
  refine v_putI (kf := 0) (kz := 0) rfl kd_4 rfl ⟨by decide, by decide⟩ rfl wf_1_55 rfl rfl dX1_enact_39 ?_
  refine v_return rfl dX1_enact_42 ⟨by decide, by decide⟩ ⟨rfl, ?_⟩
  unfold fEn
  rw [hcc]
abbrev xX11_act : bX := ("BurntHall", prog_1_method_25_code, 2, (Option.some Jvm.ClassFile.FieldType.int), b_rm 8 1 1000, 2, "act")
abbrev yX11_act : MethodName := ⟨"BurntHall", "act", "()I"⟩
theorem dX11_act_0 : decode prog_1_method_25_code 0 = .ok (.aload_n 0, 1) := by decide +kernel
theorem dX11_act_1 : decode prog_1_method_25_code 1 = .ok (.getfield 35, 3) := by decide +kernel
theorem dX11_act_4 : decode prog_1_method_25_code 4 = .ok (.invokevirtual 209, 3) := by decide +kernel
theorem dX11_act_7 : decode prog_1_method_25_code 7 = .ok (.istore_n 1, 1) := by decide +kernel
theorem dX11_act_8 : decode prog_1_method_25_code 8 = .ok (.aload_n 0, 1) := by decide +kernel
theorem dX11_act_9 : decode prog_1_method_25_code 9 = .ok (.getfield 10, 3) := by decide +kernel
theorem dX11_act_12 : decode prog_1_method_25_code 12 = .ok (.invokevirtual 182, 3) := by decide +kernel
theorem dX11_act_15 : decode prog_1_method_25_code 15 = .ok (.iload_n 1, 1) := by decide +kernel
theorem dX11_act_16 : decode prog_1_method_25_code 16 = .ok (.ifCond .ge 5, 3) := by decide +kernel
theorem dX11_act_19 : decode prog_1_method_25_code 19 = .ok (.iconst (-1), 1) := by decide +kernel
theorem dX11_act_20 : decode prog_1_method_25_code 20 = .ok (.ireturn, 1) := by decide +kernel
theorem dX11_act_21 : decode prog_1_method_25_code 21 = .ok (.aload_n 0, 1) := by decide +kernel
theorem dX11_act_22 : decode prog_1_method_25_code 22 = .ok (.getfield 35, 3) := by decide +kernel
theorem dX11_act_25 : decode prog_1_method_25_code 25 = .ok (.getfield 212, 3) := by decide +kernel
theorem dX11_act_28 : decode prog_1_method_25_code 28 = .ok (.bipush 8, 2) := by decide +kernel
theorem dX11_act_30 : decode prog_1_method_25_code 30 = .ok (.if_icmp .lt 6, 3) := by decide +kernel
theorem dX11_act_33 : decode prog_1_method_25_code 33 = .ok (.bipush (-3), 2) := by decide +kernel
theorem dX11_act_35 : decode prog_1_method_25_code 35 = .ok (.ireturn, 1) := by decide +kernel
theorem dX11_act_36 : decode prog_1_method_25_code 36 = .ok (.aload_n 0, 1) := by decide +kernel
theorem dX11_act_37 : decode prog_1_method_25_code 37 = .ok (.getfield 35, 3) := by decide +kernel
theorem dX11_act_40 : decode prog_1_method_25_code 40 = .ok (.aload_n 0, 1) := by decide +kernel
theorem dX11_act_41 : decode prog_1_method_25_code 41 = .ok (.getfield 91, 3) := by decide +kernel
theorem dX11_act_44 : decode prog_1_method_25_code 44 = .ok (.invokevirtual 215, 3) := by decide +kernel
theorem dX11_act_47 : decode prog_1_method_25_code 47 = .ok (.aload_n 0, 1) := by decide +kernel
theorem dX11_act_48 : decode prog_1_method_25_code 48 = .ok (.getfield 42, 3) := by decide +kernel
theorem dX11_act_51 : decode prog_1_method_25_code 51 = .ok (.aload_n 0, 1) := by decide +kernel
theorem dX11_act_52 : decode prog_1_method_25_code 52 = .ok (.getfield 35, 3) := by decide +kernel
theorem dX11_act_55 : decode prog_1_method_25_code 55 = .ok (.invokevirtual 218, 3) := by decide +kernel
theorem dX11_act_58 : decode prog_1_method_25_code 58 = .ok (.aload_n 0, 1) := by decide +kernel
theorem dX11_act_59 : decode prog_1_method_25_code 59 = .ok (.getfield 51, 3) := by decide +kernel
theorem dX11_act_62 : decode prog_1_method_25_code 62 = .ok (.invokevirtual 113, 3) := by decide +kernel
theorem dX11_act_65 : decode prog_1_method_25_code 65 = .ok (.iload_n 1, 1) := by decide +kernel
theorem dX11_act_66 : decode prog_1_method_25_code 66 = .ok (.ireturn, 1) := by decide +kernel
/-- BurntHall.act, drawn by hand -/
noncomputable def F_X11_act (M : bM) : Option (Int × bM) := b_bind (F_X1_read M) (fun t => b_two t (fun x1 M1 => b_bind (F_X10_clear M1) (fun M2 => if 0 ≤ x1 then (if M2 4 0 < 8 then (b_g ((12 ≤ (M2 4 8).toNat ∧ (M2 4 8).toNat < 22) ∧ 0 ≤ M2 4 0 ∧ (0 ≤ M2 4 9 ∧ M2 4 9 < 1000)) (b_let (fEn M2 (M2 0 10)) (fun M3 => b_bind (F_X7_weighAll_4 M3) (fun M4 => b_bind (F_X4_forget M4) (fun M5 => some (x1, M5)))))) else (some ((-3), M2))) else (some ((-1), M2)))))
theorem t_X11_act {l : Launch} {E : bE} {Q : (Int × bM) → Prop} {M : bM} (hfg : b_fg E) (h : b_wp (F_X11_act M) Q) : V l E xX11_act (0, 0) 0 [(0, bR 0)] [] M (b_pI Q) := by
  unfold F_X11_act at h
  refine v_aload_n (f := 0) 0 rfl dX11_act_0 ?_
  refine v_getR (kf := 3) (kz := 3) rfl kd_0 rfl ⟨by decide, by decide⟩ rfl wf_11_35 dX11_act_1 ?_
  refine v_cVI (nA := 0) (As := []) (ix := 209) (cf_X1_read hfg (b_wp_b h)) rfl kd_4 rfl rfl wc_X1_read wm_11_209 wi_X1_read ws_X1_read wn_1 ⟨by decide, by decide, by decide⟩ rfl ⟨by decide, by decide⟩ ⟨by decide, by decide⟩ (Nat.le_of_ble_eq_true rfl) dX11_act_4 (fun x1 M1 h => ?_)
  replace h := b_wp_two h
  refine v_istore_n (g := 1) (i := 1) (ls' := [(1, bI x1), (0, bR 0)]) rfl (by decide) dX11_act_7 rfl ?_
  refine v_aload_n (f := 0) 1 rfl dX11_act_8 ?_
  refine v_getR (kf := 0) (kz := 0) rfl kd_0 rfl ⟨by decide, by decide⟩ rfl wf_11_10 dX11_act_9 ?_
  refine v_cVV (nA := 0) (As := []) (ix := 182) (cf_X10_clear (b_wp_b h)) rfl kd_1 rfl rfl wc_X10_clear wm_11_182 wi_X10_clear ws_X10_clear wn_10 ⟨by decide, by decide, by decide⟩ rfl ⟨by decide, by decide⟩ ⟨by decide, by decide⟩ (Nat.le_of_ble_eq_true rfl) dX11_act_12 (fun M2 h => ?_)
  refine v_iload_n (f := 1) 0 rfl dX11_act_15 ?_
  refine v_if_ge (tgt := 21) dX11_act_16 (by decide) (fun c1 => ?_) (fun c1 => ?_)
  · replace h := b_wp_t c1 h
    refine v_aload_n (f := 0) 1 rfl dX11_act_21 ?_
    refine v_getR (kf := 3) (kz := 3) rfl kd_0 rfl ⟨by decide, by decide⟩ rfl wf_11_35 dX11_act_22 ?_
    refine v_getI (kf := 0) (kz := 0) rfl kd_4 rfl ⟨by decide, by decide⟩ rfl wf_11_212 dX11_act_25 ?_
    refine v_bipush ⟨by decide, by decide⟩ (by decide) dX11_act_28 ?_
    refine v_icmp_lt (tgt := 36) dX11_act_30 (by decide) (fun c2 => ?_) (fun c2 => ?_)
    · replace h := b_wp_t c2 h
      obtain ⟨⟨g1, g2, g3⟩, h⟩ := b_wp_g h
      replace h := b_wp_l h
      refine v_aload_n (f := 0) 1 rfl dX11_act_36 ?_
      refine v_getR (kf := 3) (kz := 3) rfl kd_0 rfl ⟨by decide, by decide⟩ rfl wf_11_35 dX11_act_37 ?_
      refine v_aload_n (f := 0) 1 rfl dX11_act_40 ?_
      refine v_getI (kf := 10) (kz := 10) rfl kd_0 rfl ⟨by decide, by decide⟩ rfl wf_11_91 dX11_act_41 ?_
      refine v_callV2 (nA := 1) (As := [bI _]) (ix := 215) (c_enact (M := M2) (d := M2 0 10) g1 ⟨g2, c2⟩ g3) rfl (b_SB3 rfl) ?_ (by intro v hv; cases hv) (by rintro r M' ⟨rfl, _⟩ v hv; cases hv) kd_4 rfl rfl wc_X1_enact wm_11_215 wi_X1_enact ws_X1_enact wn_1 ⟨by decide, by decide, by decide⟩ rfl ⟨by decide, by decide⟩ ⟨by decide, by decide⟩ (Nat.le_of_ble_eq_true rfl) dX11_act_44 ?_
      · intro q hq
        simp only [List.mem_cons, List.not_mem_nil, or_false] at hq
        rcases hq with rfl | rfl
        · trivial
        · exact Or.inl ⟨by decide +kernel, Or.inl (by decide)⟩
      rintro r M' ⟨rfl, rfl⟩
      show VL l E xX11_act b_full (1, 1000) 47 [(1, bI x1), (0, bR 0)] [] _ _
      refine v_aload_n (f := 0) 1 rfl dX11_act_47 ?_
      refine v_getR (kf := 4) (kz := 4) rfl kd_0 rfl ⟨by decide, by decide⟩ rfl wf_11_42 dX11_act_48 ?_
      refine v_aload_n (f := 0) 1 rfl dX11_act_51 ?_
      refine v_getR (kf := 3) (kz := 3) rfl kd_0 rfl ⟨by decide, by decide⟩ rfl wf_11_35 dX11_act_52 ?_
      refine v_cVV (nA := 1) (As := [bR 4]) (ix := 218) (cf_X7_weighAll_4 (b_wp_b h)) rfl kd_5 rfl rfl wc_X7_weighAll wm_11_218 wi_X7_weighAll ws_X7_weighAll wn_7 ⟨by decide, by decide, by decide⟩ rfl ⟨by decide, by decide⟩ ⟨by decide, by decide⟩ (Nat.le_of_ble_eq_true rfl) dX11_act_55 (fun M4 h => ?_)
      refine v_aload_n (f := 0) 1 rfl dX11_act_58 ?_
      refine v_getR (kf := 5) (kz := 5) rfl kd_0 rfl ⟨by decide, by decide⟩ rfl wf_11_51 dX11_act_59 ?_
      refine v_cVV (nA := 0) (As := []) (ix := 113) (cf_X4_forget (b_wp_b h)) rfl kd_6 rfl rfl wc_X4_forget wm_11_113 wi_X4_forget ws_X4_forget wn_4 ⟨by decide, by decide, by decide⟩ rfl ⟨by decide, by decide⟩ ⟨by decide, by decide⟩ (Nat.le_of_ble_eq_true rfl) dX11_act_62 (fun M5 h => ?_)
      refine v_iload_n (f := 1) 0 rfl dX11_act_65 ?_
      refine v_ireturn rfl dX11_act_66 ⟨by decide, by decide⟩ ?_
      exact ⟨_, rfl, h⟩
    · replace h := b_wp_f c2 h
      refine v_bipush ⟨by decide, by decide⟩ (by decide) dX11_act_33 ?_
      refine v_ireturn rfl dX11_act_35 ⟨by decide, by decide⟩ ?_
      exact ⟨_, rfl, h⟩
  · replace h := b_wp_f c1 h
    refine v_iconst ⟨by decide, by decide⟩ dX11_act_19 ?_
    refine v_ireturn rfl dX11_act_20 ⟨by decide, by decide⟩ ?_
    exact ⟨_, rfl, h⟩
theorem cf_X11_act {l : Launch} {E : bE} {M : bM} {Q : (Int × bM) → Prop} (hfg : b_fg E) (h : b_wp (F_X11_act M) Q) : b_C l E xX11_act yX11_act [bR 0] M (b_pI Q) := b_met (by decide) ⟨rfl, rfl⟩ (Nat.le_of_ble_eq_true rfl) (fun _ _ => t_X11_act hfg h)
theorem law_21 {l : Launch} {E : bE} {Ln : Nat} {xs : Int → Int} {kn : Nat × Nat} {i : Int} {M : bM} (hfg : b_fg E) (hc : lw_c kn Ln i) (hi : i + 8 ≤ Ln) (h : b_wp (F_X11_act M) (fun o => b_wp (F_X12_act o.2) (fun o2 => o.1 = o2.1 ∧ lw_hd l E Ln xs (kn.1 + 8, kn.2 + 1600) (i + 8) o2.2))) : VL l E x_law b_full kn 1028 [(0, bR 2100), (1, bR 0), (2, bR 11), (3, bI i)] [] M (G_law E Ln xs) := by
  unfold lw_c at hc
  refine v_aload_n (f := 1) 1 rfl dL_law_1028 ?_
  refine v_callV2 (nA := 0) (As := []) (ix := 103) (cf_X11_act hfg h) rfl (fun _ _ _ _ _ c h => by cases h) ?_ (by intro v hv; cases hv) (by rintro r M' ⟨x, rfl, _⟩ v hv; cases hv; trivial) kd_0 rfl rfl wc_X11_act wm_BurntHallLaw_103 wi_X11_act ws_X11_act wn_11 ⟨by decide, by decide, by decide⟩ rfl ⟨by decide, by decide⟩ ⟨show kn.1 + 1 ≤ 600000 by omega, show kn.2 + 1000 ≤ 7302250 by omega⟩ (Nat.le_of_ble_eq_true rfl) dL_law_1029 ?_
  · intro q hq
    simp only [List.mem_cons, List.not_mem_nil, or_false] at hq
    rcases hq with rfl | rfl | rfl | rfl
    · exact Or.inr (by decide)
    · exact Or.inl ⟨by decide +kernel, Or.inl (by decide)⟩
    · exact Or.inl ⟨by decide +kernel, Or.inl (by decide)⟩
    · trivial
  rintro r M1 ⟨x1, rfl, h⟩
  show VL l E x_law b_full (kn.1 + 1, kn.2 + 1000) 1032 [(0, bR 2100), (1, bR 0), (2, bR 11), (3, bI i)] [bI x1] M1 (G_law E Ln xs)
  refine v_aload_n (f := 2) 2 rfl dL_law_1032 ?_
  refine v_cVI (nA := 0) (As := []) (ix := 107) (cf_X12_act hfg h) rfl kd_11 rfl rfl wc_X12_act wm_BurntHallLaw_107 wi_X12_act ws_X12_act wn_12 ⟨by decide, by decide, by decide⟩ rfl ⟨by decide, by decide⟩ ⟨show kn.1 + 1 + 0 ≤ 600000 by omega, show kn.2 + 1000 + 0 ≤ 7302250 by omega⟩ (Nat.le_of_ble_eq_true rfl) dL_law_1033 (fun x2 M2 h => ?_)
  obtain ⟨he, h⟩ := h
  refine v_icmp_eq (tgt := 2105) dL_law_1036 (by decide) (fun _ => ?_) (fun q => absurd he q)
  refine v_iincN (ls' := [(3, bI _), (0, bR _), (1, bR _), (2, bR _)]) 3 rfl (by decide) (by unfold b_r32; omega) dL_law_2105 rfl ?_
  refine v_goto (tgt := 18) dL_law_2108 (by decide) ?_
  refine v_sub (ls2 := [(0, bR _), (1, bR _), (2, bR _), (3, bI _)]) [1, 2, 3, 0] rfl ?_
  exact v_widen (k2 := (kn.1 + 8, kn.2 + 1600)) ⟨show kn.1 + 1 + 0 ≤ kn.1 + 8 by omega, show kn.2 + 1000 + 0 ≤ kn.2 + 1600 by omega⟩ h
