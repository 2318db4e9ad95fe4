theorem wac_s : Cond.static arraycopyName ∈ b_T := b_mem (i := 277) (by decide +kernel) rfl
theorem wac_n : Cond.native arraycopyName ∈ b_T := b_mem (i := 278) (by decide +kernel) rfl
theorem wac_i : Cond.initialized "java/lang/System" ∈ b_T := b_mem (i := 11) (by decide +kernel) rfl
theorem b_ws_set2 {E : bE} {L : List Nat} {ad : Nat → Nat} {M M2 : bM} {A : Nat → Prop} {c q : Nat} {el : va_E} (hD : b_D L ad A) (hq : L[q]? = some c) (hM : ∀ c', c' ≠ c → ∀ i, M2 c' i = M c' i) (hc : c < b_NC) (he : b_el E ad M2 c = el) : (b_ws E ad M L).set q (ad c, el) = b_ws E ad M2 L := by
  apply List.ext_getElem?
  intro j
  have hG : b_G ≠ c := by intro q; rw [← q] at hc; exact absurd hc (by decide)
  rw [List.getElem?_set]
  by_cases hqj : q = j
  · subst hqj
    rw [if_pos rfl, b_at hq, he, if_pos (by
      unfold b_ws
      rw [List.length_map]
      exact (List.getElem?_eq_some_iff.mp hq).1)]
  · rw [if_neg hqj]
    unfold b_ws
    rw [List.getElem?_map, List.getElem?_map]
    cases hj : L[j]? with
    | none => rfl
    | some w =>
      have hne : w ≠ c := by
        intro z
        subst z
        exact hqj (hD.1 q j w w hq hj rfl)
      show some (ad w, b_el E ad M w) = some (ad w, b_el E ad M2 w)
      rw [b_el_congr (M' := M2) (M := M) (fun k => hM w hne k) (hM b_G hG w)]
theorem b_Inv_set {M : bM} {L : List Nat} {c n z kd : Nat} {f : Int → Int} (h : b_Inv L M) (hk : b_kd c = (kd, n, z)) (hkd : kd = 1 ∨ kd = 4) (hf : ∀ i, if b_lg c i = true then b_r64 (f i) else b_r32 (f i)) : b_Inv L (b_set M c f) := by
  have hc : c < b_NC := b_lt hk (by rcases hkd with rfl | rfl <;> simp)
  have hG : b_G ≠ c := by intro q; rw [← q] at hc; exact absurd hc (by decide)
  have hrf : ∀ i, b_rf c i = false := by
    intro i
    rcases hkd with rfl | rfl <;> simp only [b_rf, hk]
  have hne : ∀ c' j, b_rf c' j = true → b_set M c f c' j = M c' j := by
    intro c' j hr
    refine b_set_n ?_ j
    rintro rfl
    rw [hrf] at hr
    cases hr
  refine ⟨⟨fun c' j => ?_, fun c' => ?_⟩, fun hL c' j hr => ?_, fun c' hc' j hr hz => ?_⟩
  · by_cases q : c' = c
    · rw [q, b_set_s]
      exact hf j
    · rw [b_set_n q]
      exact h.1.1 c' j
  · rw [b_set_n hG]
    exact h.1.2 c'
  · rw [hne c' j hr]
    exact h.2.1 hL c' j hr
  · have ht : b_tg (b_set M c f) c' j = b_tg M c' j := by
      unfold b_tg
      rw [hne c' j hr]
    rw [ht]
    rw [hne c' j hr] at hz
    exact h.2.2 c' hc' j hr hz
/-- a row with a stretch of another laid into it -/
def s_cpy (f g : Int → Int) (sp dp k : Int) : Int → Int := fun i => if dp ≤ i ∧ i < dp + k then f (sp + (i - dp)) else g i
section Copy
variable {l : Launch} {E : bE} {X : bX} {kn : Nat × Nat} {pc : Nat} {ls : bL} {st : List bV} {M : bM} {G : bG} {L : List Nat}
theorem g_copyI {c0 c1 n0 n1 z0 z1 ix : Nat} {sp dp k : Int} (hm0 : c0 ∈ L) (hm1 : c1 ∈ L) (hk0 : b_kd c0 = (1, n0, z0)) (hk1 : b_kd c1 = (1, n1, z1)) (h : 0 ≤ sp ∧ 0 ≤ dp ∧ 0 ≤ k ∧ sp + k ≤ n0 ∧ dp + k ≤ n1) (hw : Cond.methodLink (bX.own X) ix arraycopyName ∈ b_T) (hroom : 1 ≤ (bX.R X).frames ∧ 8 + (nativeFrameWords "java/lang/System" "arraycopy" 5 + 11) ≤ (bX.R X).locals) (hcat : (st.map (fun v => if b_c2 v = true then 2 else 1)).sum ≤ 8) (hd : decode (bX.cc X) pc = .ok (.invokestatic ix, 3)) (kk : VL l E X L kn (pc + 3) ls st (b_set M c1 (s_cpy (M c0) (M c1) sp dp k)) G) : VL l E X L kn pc ls (bI k :: bI dp :: bR c1 :: bI sp :: bR c0 :: st) M G := by
  intro p e s m args below meth c H locs lsA A ad0 ad hX hS hL hsb hG
  obtain ⟨hx, hb, hml, hown, hts, hret, hlk, hK, hnm, hwm⟩ := id hX
  obtain ⟨hl, hlo, hso⟩ := id hL
  obtain ⟨hP, hD, hRg, hva, hA⟩ := id hS
  have hc1 : c1 < b_NC := b_lt hk1 (by simp)
  obtain ⟨q1, hq1⟩ := List.getElem?_of_mem hm1
  have hat1 := b_at (E := E) (ad := ad) (M := M) hq1
  have hel1 : b_el E ad M c1 = .inl (E.2.1 1, n1, .inl (fun i => Int32.ofInt (M c1 i))) := by simp only [b_el, hk1]
  rw [hel1] at hat1
  have hcatA : ((st.map (b_tv ad)).map fun v => v.category) = st.map (fun v => if b_c2 v = true then 2 else 1) := by
    rw [List.map_map]
    apply List.map_congr_left
    intro v _
    rcases v with x | x | x <;> rfl
  have rk : b_r32 k := ok_h hso
  have rd : b_r32 dp := ok_h (ok_t hso)
  have rs : b_r32 sp := ok_h (ok_t (ok_t (ok_t hso)))
  have nk : (Int32.ofInt k).toNatClampNeg = k.toNat := by show (Int32.ofInt k).toInt.toNat = _; rw [to32 rk]
  have nd : (Int32.ofInt dp).toNatClampNeg = dp.toNat := by show (Int32.ofInt dp).toInt.toNat = _; rw [to32 rd]
  have ns : (Int32.ofInt sp).toNatClampNeg = sp.toNat := by show (Int32.ofInt sp).toInt.toNat = _; rw [to32 rs]
  have pk : ¬ Int32.ofInt k < 0 := fun q => by have := (lt32 rk r32_0).mp q; omega
  have pd : ¬ Int32.ofInt dp < 0 := fun q => by have := (lt32 rd r32_0).mp q; omega
  have ps : ¬ Int32.ofInt sp < 0 := fun q => by have := (lt32 rs r32_0).mp q; omega
  obtain ⟨q0, hq0⟩ := List.getElem?_of_mem hm0
  have hat0 := b_at (E := E) (ad := ad) (M := M) hq0
  have hel0 : b_el E ad M c0 = .inl (E.2.1 1, n0, .inl (fun i => Int32.ofInt (M c0 i))) := by simp only [b_el, hk0]
  rw [hel0] at hat0
  refine va_copyi hx hb (by rw [hml]; exact hl.1.symm) hown (hts _ hw) (hts _ wac_n) (hts _ wac_s) (hts _ wac_i) hK hP (b_Dv hD) hva q0 q1 0 0 hat0 hat1 rfl rfl rfl ps pd pk (by rw [ns, nk]; omega) (by rw [nd, nk]; omega) (fun _ _ => rfl) hroom.1 (by rw [hcatA]; have := hroom.2; omega) hd (fun H1 locs1 hP1 hD1 hS1 => ?_)
  have hnew : b_el E ad (b_set M c1 (s_cpy (M c0) (M c1) sp dp k)) c1 = .inl (E.2.1 1, n1, .inl (va_cpy (fun i => Int32.ofInt (M c0 i)) (fun i => Int32.ofInt (M c1 i)) (Int32.ofInt sp).toNatClampNeg (Int32.ofInt dp).toNatClampNeg (Int32.ofInt k).toNatClampNeg)) := by
    simp only [b_el, hk1, b_set_s]
    rw [ns, nd, nk]
    congr 4
    funext j
    unfold va_cpy s_cpy
    by_cases q : dp.toNat ≤ j ∧ j < dp.toNat + k.toNat
    · rw [if_pos q, if_pos (by omega), show sp + ((j : Int) - dp) = ((sp.toNat + (j - dp.toNat) : Nat) : Int) by omega]
    · rw [if_neg q, if_neg (by omega)]
  have hset := b_ws_set2 (E := E) (M := M) (M2 := b_set M c1 (s_cpy (M c0) (M c1) sp dp k)) (c := c1) hD hq1 (fun c' h' i => b_set_n h' i) hc1 hnew
  have hP2 : va_P E.1 b_cl (b_ws E ad (b_set M c1 (s_cpy (M c0) (M c1) sp dp k)) L) H1 := by rw [← hset]; exact hP1
  exact kk p e s m args below meth c H1 locs1 lsA A ad0 ad hX ⟨hP2, hD, b_Inv_set hRg hk1 (by simp) (fun i => by
    have g0 := fun i => hRg.1.1 c0 i
    have g1 := fun i => hRg.1.1 c1 i
    simp only [b_lg, hk0, hk1, Bool.false_eq_true, if_false, if_true] at g0 g1 ⊢
    unfold s_cpy
    split
    · exact g0 _
    · exact g1 _), hS1, hA⟩ ⟨hl, hlo, ok_t (ok_t (ok_t (ok_t (ok_t hso))))⟩ hsb hG
theorem g_copyJ {c0 c1 n0 n1 z0 z1 ix : Nat} {sp dp k : Int} (hm0 : c0 ∈ L) (hm1 : c1 ∈ L) (hk0 : b_kd c0 = (4, n0, z0)) (hk1 : b_kd c1 = (4, n1, z1)) (h : 0 ≤ sp ∧ 0 ≤ dp ∧ 0 ≤ k ∧ sp + k ≤ n0 ∧ dp + k ≤ n1) (hw : Cond.methodLink (bX.own X) ix arraycopyName ∈ b_T) (hroom : 1 ≤ (bX.R X).frames ∧ 8 + (nativeFrameWords "java/lang/System" "arraycopy" 5 + 11) ≤ (bX.R X).locals) (hcat : (st.map (fun v => if b_c2 v = true then 2 else 1)).sum ≤ 8) (hd : decode (bX.cc X) pc = .ok (.invokestatic ix, 3)) (kk : VL l E X L kn (pc + 3) ls st (b_set M c1 (s_cpy (M c0) (M c1) sp dp k)) G) : VL l E X L kn pc ls (bI k :: bI dp :: bR c1 :: bI sp :: bR c0 :: st) M G := by
  intro p e s m args below meth c H locs lsA A ad0 ad hX hS hL hsb hG
  obtain ⟨hx, hb, hml, hown, hts, hret, hlk, hK, hnm, hwm⟩ := id hX
  obtain ⟨hl, hlo, hso⟩ := id hL
  obtain ⟨hP, hD, hRg, hva, hA⟩ := id hS
  have hc1 : c1 < b_NC := b_lt hk1 (by simp)
  obtain ⟨q1, hq1⟩ := List.getElem?_of_mem hm1
  have hat1 := b_at (E := E) (ad := ad) (M := M) hq1
  have hel1 : b_el E ad M c1 = .inl (E.2.1 4, n1, .inr (.inl (fun i => Int64.ofInt (M c1 i)))) := by simp only [b_el, hk1]
  rw [hel1] at hat1
  have hcatA : ((st.map (b_tv ad)).map fun v => v.category) = st.map (fun v => if b_c2 v = true then 2 else 1) := by
    rw [List.map_map]
    apply List.map_congr_left
    intro v _
    rcases v with x | x | x <;> rfl
  have rk : b_r32 k := ok_h hso
  have rd : b_r32 dp := ok_h (ok_t hso)
  have rs : b_r32 sp := ok_h (ok_t (ok_t (ok_t hso)))
  have nk : (Int32.ofInt k).toNatClampNeg = k.toNat := by show (Int32.ofInt k).toInt.toNat = _; rw [to32 rk]
  have nd : (Int32.ofInt dp).toNatClampNeg = dp.toNat := by show (Int32.ofInt dp).toInt.toNat = _; rw [to32 rd]
  have ns : (Int32.ofInt sp).toNatClampNeg = sp.toNat := by show (Int32.ofInt sp).toInt.toNat = _; rw [to32 rs]
  have pk : ¬ Int32.ofInt k < 0 := fun q => by have := (lt32 rk r32_0).mp q; omega
  have pd : ¬ Int32.ofInt dp < 0 := fun q => by have := (lt32 rd r32_0).mp q; omega
  have ps : ¬ Int32.ofInt sp < 0 := fun q => by have := (lt32 rs r32_0).mp q; omega
  obtain ⟨q0, hq0⟩ := List.getElem?_of_mem hm0
  have hat0 := b_at (E := E) (ad := ad) (M := M) hq0
  have hel0 : b_el E ad M c0 = .inl (E.2.1 4, n0, .inr (.inl (fun i => Int64.ofInt (M c0 i)))) := by simp only [b_el, hk0]
  rw [hel0] at hat0
  refine va_copyl hx hb (by rw [hml]; exact hl.1.symm) hown (hts _ hw) (hts _ wac_n) (hts _ wac_s) (hts _ wac_i) hK hP (b_Dv hD) hva q0 q1 3 3 hat0 hat1 rfl rfl rfl ps pd pk (by rw [ns, nk]; omega) (by rw [nd, nk]; omega) (fun _ _ => rfl) hroom.1 (by rw [hcatA]; have := hroom.2; omega) hd (fun H1 locs1 hP1 hD1 hS1 => ?_)
  have hnew : b_el E ad (b_set M c1 (s_cpy (M c0) (M c1) sp dp k)) c1 = .inl (E.2.1 4, n1, .inr (.inl (va_cpy (fun i => Int64.ofInt (M c0 i)) (fun i => Int64.ofInt (M c1 i)) (Int32.ofInt sp).toNatClampNeg (Int32.ofInt dp).toNatClampNeg (Int32.ofInt k).toNatClampNeg))) := by
    simp only [b_el, hk1, b_set_s]
    rw [ns, nd, nk]
    congr 5
    funext j
    unfold va_cpy s_cpy
    by_cases q : dp.toNat ≤ j ∧ j < dp.toNat + k.toNat
    · rw [if_pos q, if_pos (by omega), show sp + ((j : Int) - dp) = ((sp.toNat + (j - dp.toNat) : Nat) : Int) by omega]
    · rw [if_neg q, if_neg (by omega)]
  have hset := b_ws_set2 (E := E) (M := M) (M2 := b_set M c1 (s_cpy (M c0) (M c1) sp dp k)) (c := c1) hD hq1 (fun c' h' i => b_set_n h' i) hc1 hnew
  have hP2 : va_P E.1 b_cl (b_ws E ad (b_set M c1 (s_cpy (M c0) (M c1) sp dp k)) L) H1 := by rw [← hset]; exact hP1
  exact kk p e s m args below meth c H1 locs1 lsA A ad0 ad hX ⟨hP2, hD, b_Inv_set hRg hk1 (by simp) (fun i => by
    have g0 := fun i => hRg.1.1 c0 i
    have g1 := fun i => hRg.1.1 c1 i
    simp only [b_lg, hk0, hk1, Bool.false_eq_true, if_false, if_true] at g0 g1 ⊢
    unfold s_cpy
    split
    · exact g0 _
    · exact g1 _), hS1, hA⟩ ⟨hl, hlo, ok_t (ok_t (ok_t (ok_t (ok_t hso))))⟩ hsb hG
theorem f_copyI {c0 c1 N n1 z1 ix : Nat} {g : Int → Int} {sp dp k : Int} (hc0 : 2000 ≤ c0) (hF : va_T .int (E.2.2.2 c0) N (fun j => .int (Int32.ofInt (g j))) (b_A0 E) (b_S0 E) (b_S0 E).heap) (hg : ∀ i, b_r32 (g i)) (hm1 : c1 ∈ L) (hk1 : b_kd c1 = (1, n1, z1)) (h : 0 ≤ sp ∧ 0 ≤ dp ∧ 0 ≤ k ∧ sp + k ≤ N ∧ dp + k ≤ n1) (hw : Cond.methodLink (bX.own X) ix arraycopyName ∈ b_T) (hroom : 1 ≤ (bX.R X).frames ∧ 8 + (nativeFrameWords "java/lang/System" "arraycopy" 5 + 11) ≤ (bX.R X).locals) (hcat : (st.map (fun v => if b_c2 v = true then 2 else 1)).sum ≤ 8) (hd : decode (bX.cc X) pc = .ok (.invokestatic ix, 3)) (kk : VL l E X L kn (pc + 3) ls st (b_set M c1 (s_cpy g (M c1) sp dp k)) G) : VL l E X L kn pc ls (bI k :: bI dp :: bR c1 :: bI sp :: bR c0 :: st) M G := by
  intro p e s m args below meth c H locs lsA A ad0 ad hX hS hL hsb hG
  obtain ⟨hx, hb, hml, hown, hts, hret, hlk, hK, hnm, hwm⟩ := id hX
  obtain ⟨hl, hlo, hso⟩ := id hL
  obtain ⟨hP, hD, hRg, hva, hA⟩ := id hS
  have hc1 : c1 < b_NC := b_lt hk1 (by simp)
  obtain ⟨q1, hq1⟩ := List.getElem?_of_mem hm1
  have hat1 := b_at (E := E) (ad := ad) (M := M) hq1
  have hel1 : b_el E ad M c1 = .inl (E.2.1 1, n1, .inl (fun i => Int32.ofInt (M c1 i))) := by simp only [b_el, hk1]
  rw [hel1] at hat1
  have hcatA : ((st.map (b_tv ad)).map fun v => v.category) = st.map (fun v => if b_c2 v = true then 2 else 1) := by
    rw [List.map_map]
    apply List.map_congr_left
    intro v _
    rcases v with x | x | x <;> rfl
  have rk : b_r32 k := ok_h hso
  have rd : b_r32 dp := ok_h (ok_t hso)
  have rs : b_r32 sp := ok_h (ok_t (ok_t (ok_t hso)))
  have nk : (Int32.ofInt k).toNatClampNeg = k.toNat := by show (Int32.ofInt k).toInt.toNat = _; rw [to32 rk]
  have nd : (Int32.ofInt dp).toNatClampNeg = dp.toNat := by show (Int32.ofInt dp).toInt.toNat = _; rw [to32 rd]
  have ns : (Int32.ofInt sp).toNatClampNeg = sp.toNat := by show (Int32.ofInt sp).toInt.toNat = _; rw [to32 rs]
  have pk : ¬ Int32.ofInt k < 0 := fun q => by have := (lt32 rk r32_0).mp q; omega
  have pd : ¬ Int32.ofInt dp < 0 := fun q => by have := (lt32 rd r32_0).mp q; omega
  have ps : ¬ Int32.ofInt sp < 0 := fun q => by have := (lt32 rs r32_0).mp q; omega
  have hq := tr_T hwm hA hF
  rw [← hA.2.2.2.2 c0 hc0] at hq
  obtain ⟨src, e1, e2, e3, e4, -, e5, e6⟩ := hq
  have hsrc : H[ad c0]? = some src := by
    rw [hva.2.1 _ (Array.getElem?_eq_some_iff.mp e1).1 e6]
    exact e1
  have hdst : H[ad c1]? = some (vp_cell (E.2.1 1) (n1, .inl (fun i => Int32.ofInt (M c1 i)))) := hP q1 _ hat1
  obtain ⟨e7, ks, hks, cms, hkks⟩ := e2
  obtain ⟨-, kt, hkt, cmt, hkkt⟩ := (hK.2 0 _ rfl).1 n1 (fun j => .int (Int32.ofInt (M c1 j)))
  have hres : copied src (vp_cell (E.2.1 1) (n1, .inl (fun i => Int32.ofInt (M c1 i)))) (Int32.ofInt sp) (Int32.ofInt dp) (Int32.ofInt k) = vp_cell (E.2.1 1) (n1, .inl (fun i => Int32.ofInt (s_cpy g (M c1) sp dp k i))) := by
    have h1 : copied src (vp_cell (E.2.1 1) (n1, .inl (fun i => Int32.ofInt (M c1 i)))) (Int32.ofInt sp) (Int32.ofInt dp) (Int32.ofInt k) = vp_cell (E.2.1 1) (n1, .inl (va_cpy (fun i : Nat => Int32.ofInt (g i)) (fun i : Nat => Int32.ofInt (M c1 i)) (Int32.ofInt sp).toNatClampNeg (Int32.ofInt dp).toNatClampNeg (Int32.ofInt k).toNatClampNeg)) := va_copiedX (n0 := N) (n1 := n1) (sp := (Int32.ofInt sp).toNatClampNeg) (dp := (Int32.ofInt dp).toNatClampNeg) (n := (Int32.ofInt k).toNatClampNeg) (fun z => .int z) src (E.2.1 1) (fun i : Nat => Int32.ofInt (g i)) (fun i : Nat => Int32.ofInt (M c1 i)) e5 (by rw [ns, nk]; omega)
    rw [h1, ns, nd, nk]
    congr 3
    funext j
    unfold va_cpy s_cpy
    by_cases q : dp.toNat ≤ j ∧ j < dp.toNat + k.toNat
    · rw [if_pos q, if_pos (by omega), show sp + ((j : Int) - dp) = ((sp.toNat + (j - dp.toNat) : Nat) : Int) by omega]
    · rw [if_neg q, if_neg (by omega)]
  have hnew : b_el E ad (b_set M c1 (s_cpy g (M c1) sp dp k)) c1 = .inl (E.2.1 1, n1, .inl (fun i => Int32.ofInt (s_cpy g (M c1) sp dp k i))) := by simp only [b_el, hk1, b_set_s]
  have hset := b_ws_set2 (E := E) (M := M) (M2 := b_set M c1 (s_cpy g (M c1) sp dp k)) (c := c1) hD hq1 (fun c' h' i => b_set_n h' i) hc1 hnew
  intro T hT X0
  obtain ⟨vm2, X2, step⟩ := X0.arraycopy hx hown (hts _ hw) (hts _ wac_n) (hts _ wac_s) (hts _ wac_i) (src := ad c0) (dst := ad c1) (cs := src) (cd := vp_cell (E.2.1 1) (n1, .inl (fun i => Int32.ofInt (M c1 i)))) (srcPos := Int32.ofInt sp) (destPos := Int32.ofInt dp) (n := Int32.ofInt k) (by rw [hT]; exact hsrc) (by rw [hT]; exact hdst)
    e7 (fun _ q => by cases q) e3 (fun q => by cases q) hks hkt hkks hkkt (by simp [refKind]) ps pd pk
    (by rw [to32 rs, to32 rk]; have := e4; omega)
    (by rw [to32 rd, to32 rk]; show ¬ _ > ((arrV (E.2.1 1) n1 (fun j => .int (Int32.ofInt (M c1 j)))).slots.size : Int); rw [arrV_size]; omega)
    (fun vm3 _ i hi => by
      have e8 : src.slots.getD ((Int32.ofInt sp).toNatClampNeg + i) .null = .int (Int32.ofInt (g (((Int32.ofInt sp).toNatClampNeg + i : Nat) : Int))) := by
        rw [Array.getD_eq_getD_getElem?, e5 _ (by rw [nk] at hi; rw [ns]; omega)]
        rfl
      rw [e8]
      exact ⟨rfl, trivial⟩)
    (g := F0 m pc lsA ((bI k :: bI dp :: bR c1 :: bI sp :: bR c0 :: st).map (b_tv ad))) rfl (by rw [hml]; exact hl.1) (rest := st.map (b_tv ad)) rfl (by rw [hb]; exact hd) hroom.1 (by
      show 2 * 0 + ((st.map (b_tv ad)).map fun v => v.category).sum + _ ≤ _
      rw [hcatA]
      have := hroom.2
      omega)
  rw [hres] at X2 step
  have hlt : ad c1 < H.size := (Array.getElem?_eq_some_iff.mp hdst).1
  have hheap : ((T.setVm vm2).setCell (ad c1) (vp_cell (E.2.1 1) (n1, .inl (fun i => Int32.ofInt (s_cpy g (M c1) sp dp k i))))).heap = H.setIfInBounds (ad c1) (vp_cell (E.2.1 1) (n1, .inl (fun i => Int32.ofInt (s_cpy g (M c1) sp dp k i)))) := by rw [← hT]; rfl
  have oq : ∀ q : Nat, q ≠ ad c1 → (H.setIfInBounds (ad c1) (vp_cell (E.2.1 1) (n1, .inl (fun i => Int32.ofInt (s_cpy g (M c1) sp dp k i)))))[q]? = H[q]? := fun q hq => by simp [Array.getElem?_setIfInBounds, Ne.symm hq]
  have hP2 : va_P E.1 b_cl (b_ws E ad (b_set M c1 (s_cpy g (M c1) sp dp k)) L) (H.setIfInBounds (ad c1) (vp_cell (E.2.1 1) (n1, .inl (fun i => Int32.ofInt (s_cpy g (M c1) sp dp k i))))) := by
    rw [← hset]
    exact hP.set (b_Dv hD) hat1 (show (H.setIfInBounds (ad c1) _)[ad c1]? = some _ by simp [Array.getElem?_setIfInBounds, hlt]) oq
  have hSn : ∀ lc : List Loc, (∀ q ∈ lc, q.base = ad c1) → va_S A s.heap (H.setIfInBounds (ad c1) (vp_cell (E.2.1 1) (n1, .inl (fun i => Int32.ofInt (s_cpy g (M c1) sp dp k i))))) (locs ++ lc) := fun lc hlc => ⟨by simp; exact hva.1, fun q g1 g2 => by
      rw [oq q (fun z => g2 (by rw [z]; exact hD.2 c1 hm1))]
      exact hva.2.1 q g1 g2, fun q hq => by
      rcases List.mem_append.mp hq with z | z
      · exact hva.2.2 q z
      · rw [hlc q z]
        exact hD.2 c1 hm1⟩
  have hIn : b_Inv L (b_set M c1 (s_cpy g (M c1) sp dp k)) := b_Inv_set hRg hk1 (by simp) (fun i => by
    have g1 := fun i => hRg.1.1 c1 i
    simp only [b_lg, hk1, Bool.false_eq_true, if_false] at g1 ⊢
    unfold s_cpy
    split
    · exact hg _
    · exact g1 _)
  have K := fun lc hlc => kk p e s m args below meth c _ (locs ++ lc) lsA A ad0 ad hX ⟨hP2, hD, hIn, hSn lc hlc, hA⟩ ⟨hl, hlo, ok_t (ok_t (ok_t (ok_t (ok_t hso))))⟩ hsb hG
  obtain ⟨t, a1, b1⟩ := K _ (fun q hq => by
    obtain ⟨w, -, hw2⟩ := List.mem_map.mp hq
    rw [← hw2]) _ hheap X2
  exact ⟨t, step t a1, b1⟩
end Copy
