/-! a call of a constructor with references to what lay before -/
def b_iLf (L : List Nat) : bV → Prop
  | .inr (.inr c) => c ∈ L ∨ 2000 ≤ c
  | _ => True
theorem b_tv_iLf {ad ad2 : Nat → Nat} {L : List Nat} (h : ∀ c ∈ L, ad2 c = ad c) (hf : ∀ c, 2000 ≤ c → ad2 c = ad c) {v : bV} (hv : b_iLf L v) : b_tv ad2 v = b_tv ad v := by
  rcases v with x | x | x
  · rfl
  · rfl
  · show Value.ref (ad2 x) = Value.ref (ad x)
    rcases hv with q | q
    · rw [h x q]
    · rw [hf x q]
theorem b_map_iLf {ad ad2 : Nat → Nat} {L : List Nat} (h : ∀ c ∈ L, ad2 c = ad c) (hf : ∀ c, 2000 ≤ c → ad2 c = ad c) {st : List bV} (hv : ∀ v ∈ st, b_iLf L v) : st.map (b_tv ad2) = st.map (b_tv ad) := List.map_congr_left (fun v hm => b_tv_iLf h hf (hv v hm))
theorem b_tl_iLf {ad ad2 : Nat → Nat} {L : List Nat} (h : ∀ c ∈ L, ad2 c = ad c) (hf : ∀ c, 2000 ≤ c → ad2 c = ad c) {ls : bL} (hv : ∀ q ∈ ls, b_iLf L q.2) : b_tl ad2 ls = b_tl ad ls := List.map_congr_left (fun q hm => by show (q.1, _) = (q.1, _); rw [b_tv_iLf h hf (hv q hm)])
section Begin
variable {l : Launch} {E : bE} {X : bX} {L : List Nat} {kn : Nat × Nat} {pc : Nat} {ls : bL} {st : List bV} {M : bM} {G : bG}
theorem b_goesF {Y : bX} {L1 : List Nat} {PostY : Option bV → bM → Prop} {p : Program} {e : Env} {s : State} {m : MethodId} {args : Array Value} {below : List Frame} {meth : Method} {c : Code} {H : Heap} {locs : List Loc} {lsA : Array Slot} {A : Nat → Prop} {ad0 ad : Nat → Nat} {a : Array Value} {st0 : List Value} (hfl : bX.fl Y = 1) (hflX : bX.fl X = 1) (hL0 : ∀ c ∈ G.2.2, c ∈ L) (hls : ∀ q ∈ ls, b_iLf L q.2) (hst : ∀ v ∈ st, b_iLf L v)
    (hr : va_Run p l e (bX.R X) s m args below meth c H locs kn.1 kn.2 (bX.R Y).cells (bX.R Y).slots (F0 m pc lsA st0) (st.map (b_tv ad)) (b_Q E (b_A L ad H.size) (bX.fl Y) L L1 ad PostY a) (b_A L ad H.size))
    (hX : b_At E X p s m args meth c) (hS : b_St E L ad M A s H locs) (hl : lv_has lsA (bX.nL X) (b_tl ad ls)) (hlo : ∀ q ∈ ls, b_ok q.2) (hso : ∀ v ∈ st, b_ok v) (hsb : b_sb (bX.fl X) G.2.2 ad0 ad) (hG : G.2.1 s A)
    (k : ∀ r M', PostY r M' → VL l E X L1 (kn.1 + (bX.R Y).cells, kn.2 + (bX.R Y).slots) (pc + 3) ls (r.toList ++ st) M' G) :
    W p l e (bX.R X) s m args below meth c H locs kn.1 kn.2 (G.1 s args below A ad0) (F0 m pc lsA st0) := by
  intro T hT X0
  obtain ⟨v, st₀, t, T', L9, h0, X', hL, e1, e2, ⟨⟨r, M', ad', hv, hok, hpost, hP', hD', hRg', hK', hsb', hfo'⟩, hz, hk⟩, stp⟩ := hr T hT X0
  obtain ⟨hP, hD, hRg, hva, hA⟩ := hS
  rw [hfl] at hsb'
  have had : ∀ c ∈ L, ad' c = ad c := hsb'
  have haf : ∀ c, 2000 ≤ c → ad' c = ad c := fun c hc => (hfo' c hc).trans (hA.2.2.2.2 c hc).symm
  cases hv
  rw [h0] at hz hk
  have hsub : ∀ q, b_A L ad H.size q → A q := by
    intro q hq
    rcases hq with ⟨c1, hc1, rfl⟩ | hq
    · exact hD.2 c1 hc1
    · exact hA.1 q (Nat.le_trans hva.1 hq)
  have hSn : va_S A s.heap T'.heap (locs ++ L9) := ⟨Nat.le_trans hva.1 (by rw [e1]; exact hz), fun q h1 h2 => by
      rw [e1, hk q (Nat.lt_of_lt_of_le h1 hva.1) (fun z => h2 (hsub q z))]
      exact hva.2.1 q h1 h2, fun q hq => by
      rcases List.mem_append.mp hq with h | h
      · exact hva.2.2 q h
      · exact hsub _ (hL q h)⟩
  have hst2 : ∀ w ∈ r.toList ++ st, b_ok w := by
    intro w hw
    rcases List.mem_append.mp hw with h | h
    · exact hok w (by simpa using h)
    · exact hso w h
  have hsbn : b_sb (bX.fl X) G.2.2 ad0 ad' := by
    rw [hflX] at hsb ⊢
    intro c1 hc1
    rw [had c1 (hL0 c1 hc1)]
    exact hsb c1 hc1
  have h := k r M' hpost p e s m args below meth c T'.heap (locs ++ L9) lsA A ad0 ad' hX ⟨by rw [e1]; exact hP', ⟨hD'.1, fun c1 hc1 => hsub _ (hD'.2 c1 hc1)⟩, hRg', hSn, hA.1, hA.2.1, hA.2.2.1, hA.2.2.2.1, hfo'⟩ ⟨by rw [b_tl_iLf had haf hls]; exact hl, hlo, hst2⟩ hsbn hG
  obtain ⟨t2, a1, b1⟩ := h T' rfl X'
  refine ⟨t2, stp t2 ?_, b1⟩
  have hmap : List.map (b_tv ad') (r.toList ++ st) = (Option.map (b_tv ad') r).toList ++ List.map (b_tv ad) st := by
    rw [← b_map_iLf had haf hst]
    cases r <;> simp
  rw [hmap] at a1
  exact a1
theorem g_callIF {Y : bX} {y : MethodName} {L1 : List Nat} {As : List bV} {PostY : Option bV → bM → Prop} {c0 ix nA : Nat} (hC : b_CL l E Y y L L1 (bR c0 :: As) M PostY) (hfl : bX.fl Y = 1) (hflX : bX.fl X = 1) (hL0 : ∀ c ∈ G.2.2, c ∈ L) (hls : ∀ q ∈ ls, b_iLf L q.2) (hst : ∀ v ∈ st, b_iLf L v) (hret : bX.ret Y = none) (hini : y.name = "<init>")
    (hw : Cond.code y (bX.cc Y) (bX.nL Y) (bX.ret Y) ∈ b_T) (hwl : Cond.methodLink (bX.own X) ix y ∈ b_T) (hwi : Cond.instanceMethod y ∈ b_T) (hwn : Cond.initialized y.cls ∈ b_T)
    (hd0 : y.cls ≠ "java/lang/invoke/MethodHandle" ∧ y.cls ≠ "java/lang/invoke/VarHandle" ∧ (parseMethodDescriptor y.desc).map (fun d => d.parameters.length) = some nA) (hn : As.length = nA)
    (hroom : (bX.R Y).frames + 1 ≤ (bX.R X).frames ∧ 8 + (bX.nL Y + 11) + (bX.R Y).locals ≤ (bX.R X).locals) (hmc : kn.1 + (bX.R Y).cells ≤ (bX.R X).cells ∧ kn.2 + (bX.R Y).slots ≤ (bX.R X).slots) (hcat : (st.map (fun v => if b_c2 v = true then 2 else 1)).sum ≤ 8)
    (hd : decode (bX.cc X) pc = .ok (.invokespecial ix, 3)) (k : ∀ r M', PostY r M' → VL l E X L1 (kn.1 + (bX.R Y).cells, kn.2 + (bX.R Y).slots) (pc + 3) ls (r.toList ++ st) M' G) : VL l E X L kn pc ls (As.reverse ++ bR c0 :: st) M G := by
  intro p e s m args below meth c H locs lsA A ad0 ad hX hS hL hsb hG
  obtain ⟨hx, hb, hml, hown, hts, hrt, hlk, hK, hnm, hwm⟩ := id hX
  obtain ⟨hl, hlo, hso⟩ := id hL
  obtain ⟨hP, hD, hRg, hva, hA⟩ := id hS
  have hso2 : ∀ v ∈ st, b_ok v := fun v hv => hso v (List.mem_append_right _ (List.mem_cons_of_mem _ hv))
  rw [hret] at hw
  have hGd : GoodIn b_T (Cond.code y (bX.cc Y) (bX.nL Y) none :: b_T) := by
    intro w hw1
    have hmem : w ∈ b_T := by
      rcases List.mem_cons.mp hw1 with rfl | h
      · exact hw
      · exact h
    exact b_good w hmem
  have hCm := hC (fun v hv => by
      rcases List.mem_cons.mp hv with rfl | hv
      · trivial
      · exact hso v (List.mem_append_left _ (List.mem_reverse.mpr hv))) hRg ad H.size
  unfold b_wsy at hCm
  rw [hret] at hCm
  have hcatA : ∀ l0 : List bV, ((l0.map (b_tv ad)).map fun v => v.category) = l0.map (fun v => if b_c2 v = true then 2 else 1) := by
    intro l0
    rw [List.map_map]
    apply List.map_congr_left
    intro v _
    rcases v with x | x | x <;> rfl
  have hr := va_runI (p := p) (l := l) (e := e) (R := bX.R X) (below := below) (meth := meth) (locs := locs) (cells := kn.1) (slots := kn.2) (g := F0 m pc lsA ((As.reverse ++ bR c0 :: st).map (b_tv ad))) (As := As.map (b_tv ad)) (b := ad c0) (rest := st.map (b_tv ad)) (H := H) ⟨hx, hb, hml, hown, hts⟩ hCm
    (cwI nA hts hGd rfl rfl rfl (hts _ hwn) (hts _ hwl) (hts _ hwi) hini hd0 hroom)
    ⟨b_blind, fun U hU hW => ⟨rfl, by rw [hU], by rw [hU]; exact hP, hD.1, hRg, va_K.moved hW.alike hK, State.WarmedH.trans hwm hW, fun c1 h1 => hA.2.1 _ (hD.2 c1 h1), Nat.le_trans hA.2.2.1 hva.1, fun q1 h1 => by rw [hU, hva.2.1 q1 (Nat.lt_of_lt_of_le h1 hA.2.2.1) (fun z => Nat.not_le.mpr h1 (hA.2.1 q1 z))]; exact hA.2.2.2.1 q1 h1, hA.2.2.2.2⟩⟩ rfl (by rw [List.length_map]; exact hn) hl.1 (by simp [b_tv]) (lv_room (by rw [hcatA]; exact hcat)) hd hmc
  exact b_goesF hfl hflX hL0 hls hst hr hX hS hl hlo hso2 hsb hG k
end Begin
theorem mc_11 : ∀ i, m_c 11 i = 0 := fun i => by
  have h : ∀ (l : List (Nat × Int × Int)), l.all (fun u => u.1 != 11) = true → ∀ M : bM, b_upl M l 11 i = M 11 i := fun l hl M => b_upl_ne l M (fun u hu => by
    rw [List.all_eq_true] at hl
    have := hl u hu
    simp at this
    omega) i
  unfold m_c mbh10 mbh9 mbh8 mbh7 mbh6 mbh5 mbh4 mbh3 mbh2 mbh1
  rw [b_upc (by decide), b_upc (by decide), h _ (by decide), b_upc (by decide), h _ (by decide), b_upc (by decide), h _ (by decide), b_upc (by decide), h _ (by decide), b_upc (by decide), h _ (by decide), b_upc (by decide), h _ (by decide), b_upc (by decide), b_upc (by decide), macs_ne 10 (by decide) (fun j hj => by omega), b_upc (by decide), h _ (by decide), b_set_n (by decide), b_upc (by decide), h _ (by decide), b_upc (by decide), h _ (by decide)]
  rfl
theorem m_0ref : ∀ c, c < 245 → ∀ i : Nat, i < 125 → b_rf c (i : Int) = true → m_0 c (i : Int) ≠ 0 := by decide +kernel
theorem kd_n : ∀ c, c < 245 → (b_kd c).1 = 5 → (b_kd c).2.1 ≤ 125 := by decide +kernel
theorem kd_m : ∀ c, c < 245 → (b_kd c).1 = 0 → (b_kd c).2.2 ≤ 125 := by decide +kernel
theorem kd_hi {c : Nat} (h : 245 ≤ c) : b_kd c = (9, 0, 0) := by
  unfold b_kd
  rw [List.getD_eq_getElem?_getD, List.getElem?_eq_none (show b_kdL.length ≤ c by rw [show b_kdL.length = 245 by decide +kernel]; exact h)]
  rfl
theorem m_0fl : ∀ c i, b_rf c i = true → m_0 c i ≠ 0 := by
  intro c i h
  by_cases hc : c < 245
  · have hi : 0 ≤ i ∧ i < 125 := by
      unfold b_rf at h
      rcases hk : b_kd c with ⟨k0, k1, k2⟩
      have e5 := kd_n c hc
      have e0 := kd_m c hc
      rw [hk] at h e5 e0
      dsimp only at e5 e0
      by_cases q0 : k0 = 0
      · subst q0
        simp only [decide_eq_true_eq] at h
        have := e0 rfl
        omega
      · by_cases q5 : k0 = 5
        · subst q5
          simp only [decide_eq_true_eq] at h
          have := e5 rfl
          omega
        · revert h
          split
          · rename_i e; exact absurd (congrArg Prod.fst e) q0
          · rename_i e; exact absurd (congrArg Prod.fst e) q5
          · intro h; exact absurd h (by decide)
    obtain ⟨n, rfl⟩ : ∃ n : Nat, i = n := ⟨i.toNat, by omega⟩
    exact m_0ref c hc n (by omega) h
  · unfold b_rf at h
    rw [kd_hi (by omega)] at h
    exact Bool.noConfusion (show false = true from h)
theorem L12_full : ∀ c, c ∈ b_L12 ↔ c ∈ b_full := by
  intro c
  have h1 : ∀ c ∈ b_L12, c ∈ b_full := by decide +kernel
  have h2 : ∀ c ∈ b_full, c ∈ b_L12 := by decide +kernel
  exact ⟨h1 c, h2 c⟩
theorem mc_z : ∀ c ∈ ([162, 163, 164, 165, 166, 167, 168, 169, 170, 171, 172, 173, 174, 175, 176, 177, 178, 179, 180, 181, 182, 183, 184, 185, 186, 187, 188, 189, 190, 191, 192, 193, 194, 195, 196, 197, 198, 199, 200, 201, 202, 203, 204, 205, 206, 207, 208, 209, 210, 211, 212, 213, 214, 215, 216, 217, 218, 219, 220, 221, 222, 223, 224, 225, 226, 227, 228, 229, 230, 231, 232, 233, 234, 235, 236, 237, 238, 239, 240, 241, 242, 243, 244] : List Nat), ∀ i, m_c c i = 0 := by
  intro c hc i
  have h : ∀ c ∈ ([162, 163, 164, 165, 166, 167, 168, 169, 170, 171, 172, 173, 174, 175, 176, 177, 178, 179, 180, 181, 182, 183, 184, 185, 186, 187, 188, 189, 190, 191, 192, 193, 194, 195, 196, 197, 198, 199, 200, 201, 202, 203, 204, 205, 206, 207, 208, 209, 210, 211, 212, 213, 214, 215, 216, 217, 218, 219, 220, 221, 222, 223, 224, 225, 226, 227, 228, 229, 230, 231, 232, 233, 234, 235, 236, 237, 238, 239, 240, 241, 242, 243, 244] : List Nat), 162 ≤ c := by decide +kernel
  have := h c hc
  exact mz_c (by omega) (by omega) (by omega)
/-- the law's body from its entry, over the small machine -/
theorem law_begin {l : Launch} {E : bE} {Ln : Nat} {xs : Int → Int} (hfg : b_fg E) (hx : ∀ i, b_r32 (xs i)) (hL : Ln ≤ 4096) : VL l E x_law [] (0, 0) 0 [(0, bR 2100)] [] b_z (G_law E Ln xs) := by
  refine g_new (c0 := 0) tyX11 kd_0 rfl rfl tyX11_ok dfX11 (by decide) (by simp [G_law]) (fun _ => rfl) (by decide +kernel) (by simp [b_nr]) (by simp) rfl wcl_BurntHallLaw_7 wt_11 wn_11 ⟨by decide, by decide⟩ dL_law_0 ?_
  refine v_dup rfl dL_law_3 ?_
  refine g_callIF (L1 := ([0, 1, 72, 2, 76, 77, 78, 79, 80, 81, 82, 83, 84, 3, 85, 86, 87, 88, 89, 90, 91, 92, 93, 94, 95, 96, 97, 98, 99, 100, 101, 102, 103, 4, 107, 108, 109, 104, 105, 106, 12, 22, 32, 52, 62, 13, 23, 33, 53, 63, 14, 24, 34, 54, 64, 15, 25, 35, 55, 65, 16, 26, 36, 56, 66, 17, 27, 37, 57, 67, 18, 28, 38, 58, 68, 19, 29, 39, 59, 69, 20, 30, 40, 60, 70, 21, 31, 41, 61, 71, 5, 110, 111, 112, 113, 114, 115, 116, 117, 118, 119, 120, 121, 122, 123, 124, 125, 6, 126, 127, 128, 129, 7, 130, 131, 132, 133, 134, 135, 136, 137, 138, 139, 140, 141, 8, 142, 143, 144, 145, 146, 9, 147, 148, 149, 150, 151, 152, 153, 154, 10, 155, 156, 157, 158, 159, 160, 161] : List Nat)) (nA := 0) (As := []) (ix := 9) (c0 := 0) (c_X11_init hfg) rfl rfl (fun c hc => by simp [G_law] at hc) (by simp [b_iLf]) (by simp [b_iLf]) rfl rfl wc_X11_init wm_BurntHallLaw_9 wi_X11_init wn_11 (by decide +kernel) rfl ⟨by decide, by decide⟩ ⟨by decide, by decide⟩ (by decide) dL_law_4 (fun r M' hp => ?_)
  obtain ⟨rfl, rfl⟩ := hp
  dsimp only [Option.toList, List.nil_append]
  refine v_mem (M2 := m_c) rfl ?_
  refine v_astore_n (g := 1) (i := 1) (ls' := [(1, bR 0), (0, bR 2100)]) rfl (by decide) dL_law_7 rfl ?_
  refine g_new (c0 := 11) tyX12 kd_11 rfl rfl tyX12_ok dfX12 (by decide) (by simp [G_law]) mc_11 (by decide +kernel) (by simp [b_nr]) (by simp) rfl wcl_BurntHallLaw_10 wt_12 wn_12 ⟨by decide, by decide⟩ dL_law_8 ?_
  refine v_dup rfl dL_law_11 ?_
  refine g_callIF (L1 := b_L12) (nA := 0) (As := []) (ix := 12) (c0 := 11) (c_X12_init mc_z) rfl rfl (fun c hc => by simp [G_law] at hc) (fun q hq => by
    rcases List.mem_cons.mp hq with rfl | h2
    · exact Or.inl (by decide)
    · rcases List.mem_cons.mp h2 with rfl | h3
      · exact Or.inr (by decide)
      · cases h3) (fun v hv => by
    rcases List.mem_cons.mp hv with rfl | h3
    · exact Or.inl (by decide)
    · cases h3) rfl rfl wc_X12_init wm_BurntHallLaw_12 wi_X12_init wn_12 (by decide +kernel) rfl ⟨by decide, by decide⟩ ⟨by decide, by decide⟩ (by decide) dL_law_12 (fun r M' hp => ?_)
  obtain ⟨rfl, rfl⟩ := hp
  dsimp only [Option.toList, List.nil_append]
  refine v_mem (M2 := m_0) rfl ?_
  refine v_full L12_full m_0fl ?_
  refine v_astore_n (g := 2) (i := 2) (ls' := [(2, bR 11), (1, bR 0), (0, bR 2100)]) rfl (by decide) dL_law_15 rfl ?_
  refine v_iconst ⟨by decide, by decide⟩ dL_law_16 ?_
  refine v_istore_n (g := 3) (i := 3) (ls' := [(3, bI 0), (2, bR 11), (1, bR 0), (0, bR 2100)]) rfl (by decide) dL_law_17 rfl ?_
  refine v_sub (ls2 := [(0, bR 2100), (1, bR 0), (2, bR 11), (3, bI 0)]) [3, 2, 1, 0] rfl ?_
  refine v_widen (k2 := (245, 100088)) ⟨Nat.le_of_ble_eq_true rfl, Nat.le_of_ble_eq_true rfl⟩ ?_
  exact law_all hfg hx ⟨hL, Int.le_refl _, by dsimp only; omega, by dsimp only; omega⟩ R_fin_0
