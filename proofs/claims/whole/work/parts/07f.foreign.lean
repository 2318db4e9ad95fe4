/-! What lies outside the world: String constants, static rows. -/
def b_A0 (E : bE) : Nat → Prop := fun q => (b_S0 E).heap.size ≤ q
theorem tr_k {E : bE} {ad : Nat → Nat} {A : Nat → Prop} {H : Heap} (h : b_Lo E ad A H) : ∀ a : Nat, a < (b_S0 E).heap.size → ¬ b_A0 E a → H[a]? = (b_S0 E).heap[a]? := fun a ha _ => h.2.2.2.1 a ha
theorem tr_OF {E : bE} {ad : Nat → Nat} {A : Nat → Prop} {s : State} {o n d : String} {v : Value} {t : Nat} (hw : (b_S0 E).WarmedH s.vm) (h : b_Lo E ad A s.heap) (q : va_OF o n d v t (b_A0 E) (b_S0 E) (b_S0 E).heap) : va_OF o n d v t A s s.heap := ((va_OF.moved hw.alike q).kept (tr_k h)).narrow h.2.1
theorem tr_O {E : bE} {ad : Nat → Nat} {A : Nat → Prop} {s : State} {C : String} {t : Nat} (hw : (b_S0 E).WarmedH s.vm) (h : b_Lo E ad A s.heap) (q : va_O C t (b_A0 E) (b_S0 E) (b_S0 E).heap) : va_O C t A s s.heap := ((va_O.moved hw.alike q).kept (tr_k h)).narrow h.2.1
theorem tr_Z {E : bE} {ad : Nat → Nat} {A : Nat → Prop} {s : State} {o n d : String} {v : Value} (hw : (b_S0 E).WarmedH s.vm) (h : b_Lo E ad A s.heap) (q : va_Z o n d v (b_A0 E) (b_S0 E) (b_S0 E).heap) : va_Z o n d v A s s.heap := ((va_Z.moved hw.alike q).kept (tr_k h)).narrow h.2.1
theorem tr_T {E : bE} {ad : Nat → Nat} {A : Nat → Prop} {s : State} {ty : FieldType} {t N : Nat} {f : Nat → Value} (hw : (b_S0 E).WarmedH s.vm) (h : b_Lo E ad A s.heap) (q : va_T ty t N f (b_A0 E) (b_S0 E) (b_S0 E).heap) : va_T ty t N f A s s.heap := ((va_T.moved hw.alike q).kept (tr_k h)).narrow h.2.1
section Foreign
variable {l : Launch} {E : bE} {X : bX} {kn : Nat × Nat} {pc : Nat} {ls : bL} {st : List bV} {M : bM} {G : bG} {L L0 : List Nat} {Post : Option bV → bM → Prop}
theorem f_ldcS {c1 ix : Nat} {tx : String} (hc : 2000 ≤ c1) (hR : vk_R (bX.own X) ix tx (E.2.2.2 c1) (b_S0 E)) (hd : decode (bX.cc X) pc = .ok (.ldc ix, 2)) (k : VL l E X L kn (pc + 2) ls (bR c1 :: st) M G) : VL l E X L kn pc ls (st) M G := by
  intro p e s m args below meth c H locs lsA A ad0 ad hX hS hL hsb hG
  obtain ⟨hx, hb, hml, hown, hts, hret, hlk, hK, hnm, hwm⟩ := id hX
  obtain ⟨hl, hlo, hso⟩ := id hL
  obtain ⟨hP, hD, hRg, hva, hA⟩ := id hS
  refine va_ldcS hx hb hown (vk_R.warm hwm hR) hd ?_
  rw [← hA.2.2.2.2 c1 hc]
  exact k p e s m args below meth c H locs lsA A ad0 ad hX hS ⟨hl, hlo, ok_c (v := bR c1) trivial hso⟩ hsb hG
theorem f_getI {c1 ix : Nat} {x : Int} {C n d : String} (hc : 2000 ≤ c1) (hx0 : b_r32 x) (hF : va_OF C n d (.int (Int32.ofInt x)) (E.2.2.2 c1) (b_A0 E) (b_S0 E) (b_S0 E).heap) (hw : Cond.fieldLink (bX.own X) ix C n d ∈ b_T) (hd : decode (bX.cc X) pc = .ok (.getfield ix, 3)) (k : VL l E X L kn (pc + 3) ls (bI x :: st) M G) : VL l E X L kn pc ls (bR c1 :: st) M G := by
  intro p e s m args below meth c H locs lsA A ad0 ad hX hS hL hsb hG
  obtain ⟨hx, hb, hml, hown, hts, hret, hlk, hK, hnm, hwm⟩ := id hX
  obtain ⟨hl, hlo, hso⟩ := id hL
  obtain ⟨hP, hD, hRg, hva, hA⟩ := id hS
  have hq := tr_OF hwm hA hF
  rw [← hA.2.2.2.2 c1 hc] at hq
  refine vk_getf hx hb hq hva hown (hts _ hw) (fun _ h => h) hd ?_
  exact k p e s m args below meth c H locs lsA A ad0 ad hX hS ⟨hl, hlo, ok_c (v := bI x) hx0 (ok_t hso)⟩ hsb hG
theorem f_getR {c1 c2 ix : Nat} {C n d : String} (hc : 2000 ≤ c1) (hc2 : 2000 ≤ c2) (hF : va_OF C n d (.ref (E.2.2.2 c2)) (E.2.2.2 c1) (b_A0 E) (b_S0 E) (b_S0 E).heap) (hw : Cond.fieldLink (bX.own X) ix C n d ∈ b_T) (hd : decode (bX.cc X) pc = .ok (.getfield ix, 3)) (k : VL l E X L kn (pc + 3) ls (bR c2 :: st) M G) : VL l E X L kn pc ls (bR c1 :: st) M G := by
  intro p e s m args below meth c H locs lsA A ad0 ad hX hS hL hsb hG
  obtain ⟨hx, hb, hml, hown, hts, hret, hlk, hK, hnm, hwm⟩ := id hX
  obtain ⟨hl, hlo, hso⟩ := id hL
  obtain ⟨hP, hD, hRg, hva, hA⟩ := id hS
  have hq := tr_OF hwm hA hF
  rw [← hA.2.2.2.2 c1 hc, ← hA.2.2.2.2 c2 hc2] at hq
  refine vk_getf hx hb hq hva hown (hts _ hw) (fun _ h => h) hd ?_
  exact k p e s m args below meth c H locs lsA A ad0 ad hX hS ⟨hl, hlo, ok_c (v := bR c2) trivial (ok_t hso)⟩ hsb hG
theorem f_getsI {ix : Nat} {x : Int} {C n d : String} (hx0 : b_r32 x) (hF : va_Z C n d (.int (Int32.ofInt x)) (b_A0 E) (b_S0 E) (b_S0 E).heap) (hw : Cond.fieldLink (bX.own X) ix C n d ∈ b_T) (hd : decode (bX.cc X) pc = .ok (.getstatic ix, 3)) (k : VL l E X L kn (pc + 3) ls (bI x :: st) M G) : VL l E X L kn pc ls (st) M G := by
  intro p e s m args below meth c H locs lsA A ad0 ad hX hS hL hsb hG
  obtain ⟨hx, hb, hml, hown, hts, hret, hlk, hK, hnm, hwm⟩ := id hX
  obtain ⟨hl, hlo, hso⟩ := id hL
  obtain ⟨hP, hD, hRg, hva, hA⟩ := id hS
  refine va_gets hx hb (tr_Z hwm hA hF) hva hown (hts _ hw) (fun _ h => h) hd ?_
  exact k p e s m args below meth c H locs lsA A ad0 ad hX hS ⟨hl, hlo, ok_c (v := bI x) hx0 hso⟩ hsb hG
theorem f_getsR {c2 ix : Nat} {C n d : String} (hc2 : 2000 ≤ c2) (hF : va_Z C n d (.ref (E.2.2.2 c2)) (b_A0 E) (b_S0 E) (b_S0 E).heap) (hw : Cond.fieldLink (bX.own X) ix C n d ∈ b_T) (hd : decode (bX.cc X) pc = .ok (.getstatic ix, 3)) (k : VL l E X L kn (pc + 3) ls (bR c2 :: st) M G) : VL l E X L kn pc ls (st) M G := by
  intro p e s m args below meth c H locs lsA A ad0 ad hX hS hL hsb hG
  obtain ⟨hx, hb, hml, hown, hts, hret, hlk, hK, hnm, hwm⟩ := id hX
  obtain ⟨hl, hlo, hso⟩ := id hL
  obtain ⟨hP, hD, hRg, hva, hA⟩ := id hS
  have hq := tr_Z hwm hA hF
  rw [← hA.2.2.2.2 c2 hc2] at hq
  refine va_gets hx hb hq hva hown (hts _ hw) (fun _ h => h) hd ?_
  exact k p e s m args below meth c H locs lsA A ad0 ad hX hS ⟨hl, hlo, ok_c (v := bR c2) trivial hso⟩ hsb hG
theorem f_alen {c1 N : Nat} {ty : FieldType} {f : Nat → Value} (hc : 2000 ≤ c1) (hN : N < 2147483648) (hF : va_T ty (E.2.2.2 c1) N f (b_A0 E) (b_S0 E) (b_S0 E).heap) (hd : decode (bX.cc X) pc = .ok (.arraylength, 1)) (k : VL l E X L kn (pc + 1) ls (bI N :: st) M G) : VL l E X L kn pc ls (bR c1 :: st) M G := by
  intro p e s m args below meth c H locs lsA A ad0 ad hX hS hL hsb hG
  obtain ⟨hx, hb, hml, hown, hts, hret, hlk, hK, hnm, hwm⟩ := id hX
  obtain ⟨hl, hlo, hso⟩ := id hL
  obtain ⟨hP, hD, hRg, hva, hA⟩ := id hS
  have hq := tr_T hwm hA hF
  rw [← hA.2.2.2.2 c1 hc] at hq
  refine va_tlen hx hb hq hva (v := Int32.ofInt N) rfl hd ?_
  exact k p e s m args below meth c H locs lsA A ad0 ad hX hS ⟨hl, hlo, ok_c (v := bI N) (show b_r32 N from ⟨by omega, by omega⟩) (ok_t hso)⟩ hsb hG
theorem f_iaload {c1 N : Nat} {i : Int} {g : Int → Int} (hc : 2000 ≤ c1) (hN : N < 2147483648) (hi : 0 ≤ i ∧ i < N) (hr : b_r32 (g i)) (hF : va_T .int (E.2.2.2 c1) N (fun j => .int (Int32.ofInt (g j))) (b_A0 E) (b_S0 E) (b_S0 E).heap) (hd : decode (bX.cc X) pc = .ok (.iaload, 1)) (k : VL l E X L kn (pc + 1) ls (bI (g i) :: st) M G) : VL l E X L kn pc ls (bI i :: bR c1 :: st) M G := by
  intro p e s m args below meth c H locs lsA A ad0 ad hX hS hL hsb hG
  obtain ⟨hx, hb, hml, hown, hts, hret, hlk, hK, hnm, hwm⟩ := id hX
  obtain ⟨hl, hlo, hso⟩ := id hL
  obtain ⟨hP, hD, hRg, hva, hA⟩ := id hS
  have hq := tr_T hwm hA hF
  rw [← hA.2.2.2.2 c1 hc] at hq
  obtain ⟨hin, hcl⟩ := nat32 hi hN
  refine va_ti hx hb hq hva hin (v := .int (Int32.ofInt (g i))) (by
    show Value.int (Int32.ofInt (g (((Int32.ofInt i).toNatClampNeg : Nat) : Int))) = _
    rw [hcl, Int.toNat_of_nonneg hi.1]) hd ?_
  exact k p e s m args below meth c H locs lsA A ad0 ad hX hS ⟨hl, hlo, ok_c (v := bI (g i)) hr (ok_t (ok_t hso))⟩ hsb hG
theorem f_baload {c1 N : Nat} {i : Int} {g : Int → Int} (hc : 2000 ≤ c1) (hN : N < 2147483648) (hi : 0 ≤ i ∧ i < N) (hr : b_r32 (g i)) (hF : va_T .byte (E.2.2.2 c1) N (fun j => .int (Int32.ofInt (g j))) (b_A0 E) (b_S0 E) (b_S0 E).heap) (hd : decode (bX.cc X) pc = .ok (.baload, 1)) (k : VL l E X L kn (pc + 1) ls (bI (g i) :: st) M G) : VL l E X L kn pc ls (bI i :: bR c1 :: st) M G := by
  intro p e s m args below meth c H locs lsA A ad0 ad hX hS hL hsb hG
  obtain ⟨hx, hb, hml, hown, hts, hret, hlk, hK, hnm, hwm⟩ := id hX
  obtain ⟨hl, hlo, hso⟩ := id hL
  obtain ⟨hP, hD, hRg, hva, hA⟩ := id hS
  have hq := tr_T hwm hA hF
  rw [← hA.2.2.2.2 c1 hc] at hq
  obtain ⟨hin, hcl⟩ := nat32 hi hN
  refine va_tb hx hb hq hva hin (v := .int (Int32.ofInt (g i))) (by
    show Value.int (Int32.ofInt (g (((Int32.ofInt i).toNatClampNeg : Nat) : Int))) = _
    rw [hcl, Int.toNat_of_nonneg hi.1]) hd ?_
  exact k p e s m args below meth c H locs lsA A ad0 ad hX hS ⟨hl, hlo, ok_c (v := bI (g i)) hr (ok_t (ok_t hso))⟩ hsb hG
theorem c16 {x : Int} (h : 0 ≤ x ∧ x < 65536) : ((Int32.ofInt x).toUInt32 % 65536).toInt32 = Int32.ofInt x ∧ narrow .char (.int (Int32.ofInt x)) = .int (Int32.ofInt x) := by
  obtain ⟨n, rfl⟩ := Int.eq_ofNat_of_zero_le h.1
  have hn : n < 65536 := by omega
  have e : Int32.ofInt (n : Int) = nI n := rfl
  rw [e]
  refine ⟨?_, (pk_charN hn).1⟩
  rw [pk_char, pk_tn (by omega), Nat.mod_eq_of_lt hn]
theorem v_i2cN {x : Int} (h : 0 ≤ x ∧ x < 65536) (hd : decode (bX.cc X) pc = .ok (.i2c, 1)) (k : VL l E X L kn (pc + 1) ls (bI x :: st) M G) : VL l E X L kn pc ls (bI x :: st) M G := by
  intro p e s m args below meth c H locs lsA A ad0 ad hX hS hL hsb hG
  obtain ⟨hx, hb, hml, hown, hts, hret, hlk, hK, hnm, hwm⟩ := id hX
  obtain ⟨hl, hlo, hso⟩ := id hL
  obtain ⟨hP, hD, hRg, hva, hA⟩ := id hS
  refine lv_i2c hx hb hd (v := Int32.ofInt x) (c16 h).1 ?_
  exact k p e s m args below meth c H locs lsA A ad0 ad hX hS ⟨hl, hlo, hso⟩ hsb hG
theorem v_creturn {x : Int} (hr : bX.ret X = some .char) (hz : 0 ≤ x ∧ x < 65536) (hd : decode (bX.cc X) pc = .ok (.ireturn, 1)) (hkn : kn.1 ≤ (bX.R X).cells ∧ kn.2 ≤ (bX.R X).slots) (hp : Post (some (bI x)) M) : VL l E X L kn pc ls [bI x] M (b_std E X L0 L Post) := by
  intro p e s m args below meth c H locs lsA A ad0 ad hX hS hL hsb hG
  obtain ⟨hx, hb, hml, hown, hts, hret, hlk, hK, hnm, hwm⟩ := id hX
  obtain ⟨hl, hlo, hso⟩ := id hL
  obtain ⟨hP, hD, hRg, hva, hA⟩ := id hS
  refine W.widen (k := (bX.R X).cells) (n := (bX.R X).slots) hkn.1 hkn.2 ?_
  exact W.zret hx hb (by rw [hret, hr]) (c16 hz).2 (fun t ht hW => ⟨⟨some (bI x), M, ad, rfl, (fun v hv => by cases hv; exact ok_h hso), hp, by rw [ht]; exact hP, hD, hRg, va_K.moved hW.alike hK, hsb, hA.2.2.2.2⟩, hva.F ht⟩) hva.2.2 hd hlk
theorem v_breturn {x : Int} (hr : bX.ret X = some .byte) (hz : x = 0 ∨ x = 1) (hd : decode (bX.cc X) pc = .ok (.ireturn, 1)) (hkn : kn.1 ≤ (bX.R X).cells ∧ kn.2 ≤ (bX.R X).slots) (hp : Post (some (bI x)) M) : VL l E X L kn pc ls [bI x] M (b_std E X L0 L Post) := by
  intro p e s m args below meth c H locs lsA A ad0 ad hX hS hL hsb hG
  obtain ⟨hx, hb, hml, hown, hts, hret, hlk, hK, hnm, hwm⟩ := id hX
  obtain ⟨hl, hlo, hso⟩ := id hL
  obtain ⟨hP, hD, hRg, hva, hA⟩ := id hS
  refine W.widen (k := (bX.R X).cells) (n := (bX.R X).slots) hkn.1 hkn.2 ?_
  exact W.zret hx hb (by rw [hret, hr]) (by rcases hz with rfl | rfl <;> rfl) (fun t ht hW => ⟨⟨some (bI x), M, ad, rfl, (fun v hv => by cases hv; exact ok_h hso), hp, by rw [ht]; exact hP, hD, hRg, va_K.moved hW.alike hK, hsb, hA.2.2.2.2⟩, hva.F ht⟩) hva.2.2 hd hlk
theorem f_callV {Y : bX} {ix c0 nA : Nat} {C : String} {PostY : Option bV → bM → Prop} {y : MethodName} {As : List bV} (hC : b_CL l E Y y L L (bR c0 :: As) M PostY) (hfl : bX.fl Y = 0) (hc : 2000 ≤ c0) (hO : va_O C (E.2.2.2 c0) (b_A0 E) (b_S0 E) (b_S0 E).heap) (hcls : y.cls = C)
    (hw : Cond.code y (bX.cc Y) (bX.nL Y) (bX.ret Y) ∈ b_T) (hwl : Cond.methodLink (bX.own X) ix y ∈ b_T) (hwi : Cond.instanceMethod y ∈ b_T) (hws : Cond.selects C y y ∈ b_T) (hwn : Cond.initialized C ∈ b_T)
    (hd0 : C ≠ "java/lang/invoke/MethodHandle" ∧ C ≠ "java/lang/invoke/VarHandle" ∧ (parseMethodDescriptor y.desc).map (fun d => d.parameters.length) = some nA) (hn : As.length = nA)
    (hroom : (bX.R Y).frames + 1 ≤ (bX.R X).frames ∧ 8 + (bX.nL Y + 11) + (bX.R Y).locals ≤ (bX.R X).locals) (hmc : kn.1 + (bX.R Y).cells ≤ (bX.R X).cells ∧ kn.2 + (bX.R Y).slots ≤ (bX.R X).slots) (hcat : (st.map (fun v => if b_c2 v = true then 2 else 1)).sum ≤ 8)
    (hd : decode (bX.cc X) pc = .ok (.invokevirtual ix, 3)) (k : ∀ r M', PostY r M' → VL l E X L (kn.1 + (bX.R Y).cells, kn.2 + (bX.R Y).slots) (pc + 3) ls (r.toList ++ st) M' G) : VL l E X L kn pc ls (As.reverse ++ bR c0 :: st) M G := by
  intro p e s m args below meth c H locs lsA A ad0 ad hX hS hL hsb hG
  obtain ⟨hx, hb, hml, hown, hts, hret, hlk, hK, hnm, hwm⟩ := id hX
  obtain ⟨hl, hlo, hso⟩ := id hL
  obtain ⟨hP, hD, hRg, hva, hA⟩ := id hS
  have hso2 : ∀ v ∈ st, b_ok v := fun v hv => hso v (List.mem_append_right _ (List.mem_cons_of_mem _ hv))
  have hGd : GoodIn b_T (wsV (bX.own X) ix C y (b_wsy Y y)) := by
    intro w hw1
    have hmem : w ∈ b_T := by
      unfold wsV at hw1
      rcases List.mem_append.mp hw1 with h | h
      · simp only [List.mem_cons, List.not_mem_nil, or_false] at h
        rcases h with rfl | rfl | rfl | rfl
        · exact hwl
        · exact hwi
        · exact hws
        · exact hwn
      · rcases List.mem_cons.mp h with rfl | h
        · exact hw
        · exact h
    exact b_good w hmem
  have hcatA : ∀ l0 : List bV, ((l0.map (b_tv ad)).map fun v => v.category) = l0.map (fun v => if b_c2 v = true then 2 else 1) := by
    intro l0
    rw [List.map_map]
    apply List.map_congr_left
    intro v _
    rcases v with x | x | x <;> rfl
  have hr := va_runV (p := p) (l := l) (e := e) (R := bX.R X) (below := below) (meth := meth) (locs := locs) (cells := kn.1) (slots := kn.2) (g := F0 m pc lsA ((As.reverse ++ bR c0 :: st).map (b_tv ad))) (As := As.map (b_tv ad)) (b := ad c0) (rest := st.map (b_tv ad)) (C := C) (H := H) ⟨hx, hb, hml, hown, hts⟩ (hC (fun v hv => by
      rcases List.mem_cons.mp hv with rfl | hv
      · trivial
      · exact hso v (List.mem_append_left _ (List.mem_reverse.mpr hv))) hRg ad H.size)
    (cwV nA hts hGd rfl rfl rfl ⟨hcls, by rw [hcls]; exact hd0.1, by rw [hcls]; exact hd0.2.1, hd0.2.2⟩ hroom)
    ⟨b_blind, (by
      have hq := (tr_O hwm hA hO).kept hva.2.1
      rw [← hA.2.2.2.2 c0 hc] at hq
      obtain ⟨cell, h1, h2, h3, -⟩ := hq
      exact ⟨cell, h1, h2, h3⟩), fun U hU hW => ⟨rfl, by rw [hU], by rw [hU]; exact hP, hD.1, hRg, va_K.moved hW.alike hK, State.WarmedH.trans hwm hW, fun c1 h1 => hA.2.1 _ (hD.2 c1 h1), Nat.le_trans hA.2.2.1 hva.1, fun q1 h1 => by rw [hU, hva.2.1 q1 (Nat.lt_of_lt_of_le h1 hA.2.2.1) (fun z => Nat.not_le.mpr h1 (hA.2.1 q1 z))]; exact hA.2.2.2.1 q1 h1, hA.2.2.2.2⟩⟩ rfl (by rw [List.length_map]; exact hn) hl.1 (by simp [b_tv]) (lv_room (by rw [hcatA]; exact hcat)) hd hmc
  exact b_goes hfl hr hX hS hl hlo hso2 hsb hG k
end Foreign
