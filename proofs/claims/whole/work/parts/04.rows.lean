/-! Rows: one an instruction of the small machine. -/
theorem b_at {E : bE} {ad : Nat → Nat} {M : bM} {L : List Nat} {c q : Nat} (hq : L[q]? = some c) : (b_ws E ad M L)[q]? = some (ad c, b_el E ad M c) := by
  unfold b_ws
  rw [List.getElem?_map, hq]
  rfl
theorem b_lt {c : Nat} {k : Nat × Nat × Nat} (h : b_kd c = k) (hk : k.1 ≠ 9) : c < b_NC := by
  rcases Nat.lt_or_ge c b_NC with q | q
  · exact q
  · exfalso
    apply hk
    rw [← h]
    unfold b_kd
    have hlen : b_kdL.length = b_NC := by decide +kernel
    rw [List.getD_eq_getElem?_getD, List.getElem?_eq_none (by rw [hlen]; exact q)]
    rfl
theorem b_in {c : Nat} {k : Nat × Nat × Nat} (h : b_kd c = k) (hk : k.1 ≠ 9) : c ∈ b_full := List.mem_filter.mpr ⟨List.mem_range.mpr (b_lt h hk), by rw [h]; exact decide_eq_true hk⟩
theorem b_in9 {c : Nat} (h : c ∈ b_full) : c < b_NC ∧ (b_kd c).1 ≠ 9 := ⟨List.mem_range.mp (List.mem_filter.mp h).1, of_decide_eq_true (List.mem_filter.mp h).2⟩
theorem b_full_nd : b_full.Nodup := by decide +kernel
theorem b_Dv {E : bE} {L : List Nat} {ad : Nat → Nat} {M : bM} {A : Nat → Prop} (h : b_D L ad A) : va_D A (b_ws E ad M L) := by
  have key : ∀ (k : Nat) (q : Nat × va_E), (b_ws E ad M L)[k]? = some q → ∃ a, L[k]? = some a ∧ q.1 = ad a := by
    intro k q hq
    unfold b_ws at hq
    rw [List.getElem?_map] at hq
    cases hk : L[k]? with
    | none => rw [hk] at hq; cases hq
    | some a => rw [hk] at hq; cases hq; exact ⟨a, rfl, rfl⟩
  refine ⟨fun i j p q hp hq hpq => ?_, fun k q hq => ?_⟩
  · obtain ⟨a, h1, h2⟩ := key i p hp
    obtain ⟨b, h3, h4⟩ := key j q hq
    exact h.1 i j a b h1 h3 (by rw [← h2, ← h4]; exact hpq)
  · obtain ⟨a, h1, h2⟩ := key k q hq
    rw [h2]
    exact h.2 a (List.mem_of_getElem? h1)
theorem b_el_congr {E : bE} {ad : Nat → Nat} {M M' : bM} {j : Nat} (h : ∀ i, M' j i = M j i) (hg : M' b_G j = M b_G j) : b_el E ad M' j = b_el E ad M j := by
  have hf : ∀ ci, b_fv ad M' j ci = b_fv ad M j ci := by
    intro ci
    funext k
    unfold b_fv
    rw [h]
  unfold b_el
  simp only [h, hg, hf]
theorem b_ws_set {E : bE} {L : List Nat} {ad : Nat → Nat} {M : bM} {A : Nat → Prop} {c q : Nat} {i x : Int} {el : va_E} (hD : b_D L ad A) (hq : L[q]? = some c) (hc : c < b_NC) (he : b_el E ad (b_up M c i x) c = el) : (b_ws E ad M L).set q (ad c, el) = b_ws E ad (b_up M c i x) L := by
  apply List.ext_getElem?
  intro j
  have hG : ¬ (b_G = c) := by intro q; rw [← q] at hc; exact absurd hc (by decide)
  rw [List.getElem?_set]
  by_cases hqj : q = j
  · subst hqj
    rw [if_pos rfl, b_at hq, he, if_pos (by
      unfold b_ws
      rw [List.length_map]
      exact (List.getElem?_eq_some_iff.mp hq).1)]
  · rw [if_neg hqj]
    unfold b_ws
    rw [List.getElem?_map, List.getElem?_map]
    cases hj : L[j]? with
    | none => rfl
    | some w =>
      have hne : ¬ (w = c) := by
        intro z
        subst z
        exact hqj (hD.1 q j w w hq hj rfl)
      show some (ad w, b_el E ad M w) = some (ad w, b_el E ad (b_up M c i x) w)
      rw [b_el_congr (M' := b_up M c i x) (M := M) (fun k => by simp [b_up, hne]) (by simp [b_up, hG])]
theorem b_Rg_up {M : bM} {L : List Nat} {c : Nat} {i x : Int} (h : b_Inv L M) (hc : c < b_NC) (hx : if b_lg c i = true then b_r64 x else b_r32 x) (hf : b_rf c i = false) : b_Inv L (b_up M c i x) := by
  have hne : ∀ c' j, b_rf c' j = true → b_up M c i x c' j = M c' j := by
    intro c' j hr
    unfold b_up
    rw [if_neg]
    rintro ⟨rfl, rfl⟩
    rw [hf] at hr
    cases hr
  refine ⟨⟨fun c' j => ?_, fun c' => ?_⟩, fun hL c' j hr => ?_, fun c' hc' j hr hz => ?_⟩
  · unfold b_up
    by_cases q : c' = c ∧ j = i
    · rw [if_pos q, q.1, q.2]
      exact hx
    · rw [if_neg q]
      exact h.1.1 c' j
  · have : ¬ (b_G = c) := by intro q; rw [← q] at hc; exact absurd hc (by decide)
    simp only [b_up, this, false_and, if_false]
    exact h.1.2 c'
  · rw [hne c' j hr]
    exact h.2.1 hL c' j hr
  · have ht : b_tg (b_up M c i x) c' j = b_tg M c' j := by
      unfold b_tg
      rw [hne c' j hr]
    rw [ht]
    rw [hne c' j hr] at hz
    exact h.2.2 c' hc' j hr hz
def b_c2 : bV → Bool
  | .inr (.inl _) => true
  | _ => false
theorem b_c2_cat (ad : Nat → Nat) (v : bV) : ((b_tv ad v).category == 2) = b_c2 v := by
  rcases v with x | x | x <;> rfl
theorem b_cat1 {ad : Nat → Nat} {v : bV} (h : b_c2 v = false) : (b_tv ad v).category = 1 := by
  rcases v with x | x | x
  · rfl
  · cases h
  · rfl
def b_s1 (i : Nat) (v : bV) (ls : bL) : bL := (i, v) :: ls.filter (fun q => !(q.1 == i) && !(q.1 + 1 == i && b_c2 q.2))
def b_s2 (i : Nat) (v : bV) (ls : bL) : bL := (i, v) :: ls.filter (fun q => !(q.1 == i) && (!(q.1 == i + 1) && !(q.1 + 1 == i && b_c2 q.2)))
theorem b_s1_tl (ad : Nat → Nat) (i : Nat) (v : bV) (ls : bL) : (i, b_tv ad v) :: (b_tl ad ls).filter (fun q => !(q.1 == i) && !(q.1 + 1 == i && q.2.category == 2)) = b_tl ad (b_s1 i v ls) := by
  unfold b_s1 b_tl
  rw [List.map_cons, List.filter_map]
  congr 2
  apply List.filter_congr
  intro q _
  simp only [Function.comp, b_c2_cat]
theorem b_s2_tl (ad : Nat → Nat) (i : Nat) (v : bV) (ls : bL) : (i, b_tv ad v) :: (b_tl ad ls).filter (fun q => !(q.1 == i) && (!(q.1 == i + 1) && !(q.1 + 1 == i && q.2.category == 2))) = b_tl ad (b_s2 i v ls) := by
  unfold b_s2 b_tl
  rw [List.map_cons, List.filter_map]
  congr 2
  apply List.filter_congr
  intro q _
  simp only [Function.comp, b_c2_cat]
theorem b_s1_ok {i : Nat} {v : bV} {ls : bL} (hv : b_ok v) (h : ∀ q ∈ ls, b_ok q.2) : ∀ q ∈ b_s1 i v ls, b_ok q.2 := by
  intro q hq
  rcases List.mem_cons.mp hq with rfl | hq
  · exact hv
  · exact h q (List.mem_filter.mp hq).1
theorem b_s2_ok {i : Nat} {v : bV} {ls : bL} (hv : b_ok v) (h : ∀ q ∈ ls, b_ok q.2) : ∀ q ∈ b_s2 i v ls, b_ok q.2 := by
  intro q hq
  rcases List.mem_cons.mp hq with rfl | hq
  · exact hv
  · exact h q (List.mem_filter.mp hq).1
theorem b_lcl {ad : Nat → Nat} {nL : Nat} {lsA : Array Slot} {ls : bL} {j i : Nat} {v : bV} (hl : lv_has lsA nL (b_tl ad ls)) (hj : ls[j]? = some (i, v)) : lsA[i]? = some (.val (b_tv ad v)) := hl.2.2 (i, b_tv ad v) (List.mem_map.mpr ⟨(i, v), List.mem_of_getElem? hj, rfl⟩)
theorem ok_c {v : bV} {st : List bV} (hv : b_ok v) (h : ∀ w ∈ st, b_ok w) : ∀ w ∈ v :: st, b_ok w := by
  intro w hw
  rcases List.mem_cons.mp hw with rfl | hw
  · exact hv
  · exact h w hw
theorem ok_h {v : bV} {st : List bV} (h : ∀ w ∈ v :: st, b_ok w) : b_ok v := h v List.mem_cons_self
theorem ok_t {v : bV} {st : List bV} (h : ∀ w ∈ v :: st, b_ok w) : ∀ w ∈ st, b_ok w := fun w hw => h w (List.mem_cons_of_mem _ hw)
section Rows
variable {l : Launch} {E : bE} {X : bX} {kn : Nat × Nat} {pc : Nat} {ls ls' : bL} {st : List bV} {M : bM} {G : bG} {L L0 : List Nat} {Post : Option bV → bM → Prop}
theorem v_iconst {n : Int} (hn : b_r32 n) (hd : decode (bX.cc X) pc = .ok (.iconst n, 1)) (k : VL l E X L kn (pc + 1) ls (bI n :: st) M G) : VL l E X L kn pc ls (st) M G := by
  intro p e s m args below meth c H locs lsA A ad0 ad hX hS hL hsb hG
  obtain ⟨hx, hb, hml, hown, hts, hret, hlk, hK, hnm, hwm⟩ := id hX
  obtain ⟨hl, hlo, hso⟩ := id hL
  refine lv_iconst hx hb hd rfl ?_
  exact k p e s m args below meth c H locs lsA A ad0 ad hX hS ⟨hl, hlo, ok_c hn hso⟩ hsb hG
theorem v_bipush {n : Int} (hn : b_r32 n) (hv : (Int8.ofInt n).toInt32 = Int32.ofInt n) (hd : decode (bX.cc X) pc = .ok (.bipush n, 2)) (k : VL l E X L kn (pc + 2) ls (bI n :: st) M G) : VL l E X L kn pc ls (st) M G := by
  intro p e s m args below meth c H locs lsA A ad0 ad hX hS hL hsb hG
  obtain ⟨hx, hb, hml, hown, hts, hret, hlk, hK, hnm, hwm⟩ := id hX
  obtain ⟨hl, hlo, hso⟩ := id hL
  refine lv_bipush hx hb hd hv ?_
  exact k p e s m args below meth c H locs lsA A ad0 ad hX hS ⟨hl, hlo, ok_c hn hso⟩ hsb hG
theorem v_sipush {n : Int} (hn : b_r32 n) (hv : (Int16.ofInt n).toInt32 = Int32.ofInt n) (hd : decode (bX.cc X) pc = .ok (.sipush n, 3)) (k : VL l E X L kn (pc + 3) ls (bI n :: st) M G) : VL l E X L kn pc ls (st) M G := by
  intro p e s m args below meth c H locs lsA A ad0 ad hX hS hL hsb hG
  obtain ⟨hx, hb, hml, hown, hts, hret, hlk, hK, hnm, hwm⟩ := id hX
  obtain ⟨hl, hlo, hso⟩ := id hL
  refine lv_sipush hx hb hd hv ?_
  exact k p e s m args below meth c H locs lsA A ad0 ad hX hS ⟨hl, hlo, ok_c hn hso⟩ hsb hG
theorem v_ldc {n : Int} {ix : Nat} (hn : b_r32 n) (hw : Jvm.Cond.constant (bX.own X) ix (Int32.ofInt n) ∈ b_T) (hd : decode (bX.cc X) pc = .ok (.ldc ix, 2)) (k : VL l E X L kn (pc + 2) ls (bI n :: st) M G) : VL l E X L kn pc ls (st) M G := by
  intro p e s m args below meth c H locs lsA A ad0 ad hX hS hL hsb hG
  obtain ⟨hx, hb, hml, hown, hts, hret, hlk, hK, hnm, hwm⟩ := id hX
  obtain ⟨hl, hlo, hso⟩ := id hL
  refine lv_ldc hx hb hown (hts _ hw) hd ?_
  exact k p e s m args below meth c H locs lsA A ad0 ad hX hS ⟨hl, hlo, ok_c hn hso⟩ hsb hG
theorem v_ldcw {n : Int} {ix : Nat} (hn : b_r32 n) (hw : Jvm.Cond.constant (bX.own X) ix (Int32.ofInt n) ∈ b_T) (hd : decode (bX.cc X) pc = .ok (.ldc_w ix, 3)) (k : VL l E X L kn (pc + 3) ls (bI n :: st) M G) : VL l E X L kn pc ls (st) M G := by
  intro p e s m args below meth c H locs lsA A ad0 ad hX hS hL hsb hG
  obtain ⟨hx, hb, hml, hown, hts, hret, hlk, hK, hnm, hwm⟩ := id hX
  obtain ⟨hl, hlo, hso⟩ := id hL
  refine lv_ldcw hx hb hown (hts _ hw) hd ?_
  exact k p e s m args below meth c H locs lsA A ad0 ad hX hS ⟨hl, hlo, ok_c hn hso⟩ hsb hG
theorem v_ldc2 {n : Int} {ix : Nat} (hn : b_r64 n) (hw : Jvm.Cond.constantLong (bX.own X) ix (Int64.ofInt n) ∈ b_T) (hd : decode (bX.cc X) pc = .ok (.ldc2_w ix, 3)) (k : VL l E X L kn (pc + 3) ls (bJ n :: st) M G) : VL l E X L kn pc ls (st) M G := by
  intro p e s m args below meth c H locs lsA A ad0 ad hX hS hL hsb hG
  obtain ⟨hx, hb, hml, hown, hts, hret, hlk, hK, hnm, hwm⟩ := id hX
  obtain ⟨hl, hlo, hso⟩ := id hL
  refine lv_ldc2 hx hb hown (hts _ hw) hd ?_
  exact k p e s m args below meth c H locs lsA A ad0 ad hX hS ⟨hl, hlo, ok_c hn hso⟩ hsb hG
theorem v_lconst0 (hd : decode (bX.cc X) pc = .ok (.lconst 0, 1)) (k : VL l E X L kn (pc + 1) ls (bJ 0 :: st) M G) : VL l E X L kn pc ls (st) M G := by
  intro p e s m args below meth c H locs lsA A ad0 ad hX hS hL hsb hG
  obtain ⟨hx, hb, hml, hown, hts, hret, hlk, hK, hnm, hwm⟩ := id hX
  obtain ⟨hl, hlo, hso⟩ := id hL
  refine lv_lconst hx hb hd (v := Int64.ofInt 0) (by decide) ?_
  exact k p e s m args below meth c H locs lsA A ad0 ad hX hS ⟨hl, hlo, ok_c (v := bJ 0) (show b_r64 0 from ⟨by decide, by decide⟩) hso⟩ hsb hG
theorem v_lconst1 (hd : decode (bX.cc X) pc = .ok (.lconst 1, 1)) (k : VL l E X L kn (pc + 1) ls (bJ 1 :: st) M G) : VL l E X L kn pc ls (st) M G := by
  intro p e s m args below meth c H locs lsA A ad0 ad hX hS hL hsb hG
  obtain ⟨hx, hb, hml, hown, hts, hret, hlk, hK, hnm, hwm⟩ := id hX
  obtain ⟨hl, hlo, hso⟩ := id hL
  refine lv_lconst hx hb hd (v := Int64.ofInt 1) (by decide) ?_
  exact k p e s m args below meth c H locs lsA A ad0 ad hX hS ⟨hl, hlo, ok_c (v := bJ 1) (show b_r64 1 from ⟨by decide, by decide⟩) hso⟩ hsb hG
theorem v_iload_n {f : Fin 4} {x : Int} (j : Nat) (hj : ls[j]? = some ((f : Nat), bI x)) (hd : decode (bX.cc X) pc = .ok (.iload_n f, 1)) (k : VL l E X L kn (pc + 1) ls (bI x :: st) M G) : VL l E X L kn pc ls (st) M G := by
  intro p e s m args below meth c H locs lsA A ad0 ad hX hS hL hsb hG
  obtain ⟨hx, hb, hml, hown, hts, hret, hlk, hK, hnm, hwm⟩ := id hX
  obtain ⟨hl, hlo, hso⟩ := id hL
  refine lv_iload_n hx hb hd rfl (b_lcl hl hj) ?_
  exact k p e s m args below meth c H locs lsA A ad0 ad hX hS ⟨hl, hlo, ok_c (hlo _ (List.mem_of_getElem? hj)) hso⟩ hsb hG
theorem v_iload {i : Nat} {x : Int} (j : Nat) (hj : ls[j]? = some (i, bI x)) (hd : decode (bX.cc X) pc = .ok (.iload i, 2)) (k : VL l E X L kn (pc + 2) ls (bI x :: st) M G) : VL l E X L kn pc ls (st) M G := by
  intro p e s m args below meth c H locs lsA A ad0 ad hX hS hL hsb hG
  obtain ⟨hx, hb, hml, hown, hts, hret, hlk, hK, hnm, hwm⟩ := id hX
  obtain ⟨hl, hlo, hso⟩ := id hL
  refine lv_iload hx hb hd (b_lcl hl hj) ?_
  exact k p e s m args below meth c H locs lsA A ad0 ad hX hS ⟨hl, hlo, ok_c (hlo _ (List.mem_of_getElem? hj)) hso⟩ hsb hG
theorem v_lload_n {f : Fin 4} {x : Int} (j : Nat) (hj : ls[j]? = some ((f : Nat), bJ x)) (hd : decode (bX.cc X) pc = .ok (.lload_n f, 1)) (k : VL l E X L kn (pc + 1) ls (bJ x :: st) M G) : VL l E X L kn pc ls (st) M G := by
  intro p e s m args below meth c H locs lsA A ad0 ad hX hS hL hsb hG
  obtain ⟨hx, hb, hml, hown, hts, hret, hlk, hK, hnm, hwm⟩ := id hX
  obtain ⟨hl, hlo, hso⟩ := id hL
  refine lv_lload_n hx hb hd rfl (b_lcl hl hj) ?_
  exact k p e s m args below meth c H locs lsA A ad0 ad hX hS ⟨hl, hlo, ok_c (hlo _ (List.mem_of_getElem? hj)) hso⟩ hsb hG
theorem v_lload {i : Nat} {x : Int} (j : Nat) (hj : ls[j]? = some (i, bJ x)) (hd : decode (bX.cc X) pc = .ok (.lload i, 2)) (k : VL l E X L kn (pc + 2) ls (bJ x :: st) M G) : VL l E X L kn pc ls (st) M G := by
  intro p e s m args below meth c H locs lsA A ad0 ad hX hS hL hsb hG
  obtain ⟨hx, hb, hml, hown, hts, hret, hlk, hK, hnm, hwm⟩ := id hX
  obtain ⟨hl, hlo, hso⟩ := id hL
  refine lv_lload hx hb hd (b_lcl hl hj) ?_
  exact k p e s m args below meth c H locs lsA A ad0 ad hX hS ⟨hl, hlo, ok_c (hlo _ (List.mem_of_getElem? hj)) hso⟩ hsb hG
theorem v_aload_n {f : Fin 4} {x : Nat} (j : Nat) (hj : ls[j]? = some ((f : Nat), bR x)) (hd : decode (bX.cc X) pc = .ok (.aload_n f, 1)) (k : VL l E X L kn (pc + 1) ls (bR x :: st) M G) : VL l E X L kn pc ls (st) M G := by
  intro p e s m args below meth c H locs lsA A ad0 ad hX hS hL hsb hG
  obtain ⟨hx, hb, hml, hown, hts, hret, hlk, hK, hnm, hwm⟩ := id hX
  obtain ⟨hl, hlo, hso⟩ := id hL
  refine lv_aload_n hx hb hd rfl (b_lcl hl hj) ?_
  exact k p e s m args below meth c H locs lsA A ad0 ad hX hS ⟨hl, hlo, ok_c (hlo _ (List.mem_of_getElem? hj)) hso⟩ hsb hG
theorem v_aload {i : Nat} {x : Nat} (j : Nat) (hj : ls[j]? = some (i, bR x)) (hd : decode (bX.cc X) pc = .ok (.aload i, 2)) (k : VL l E X L kn (pc + 2) ls (bR x :: st) M G) : VL l E X L kn pc ls (st) M G := by
  intro p e s m args below meth c H locs lsA A ad0 ad hX hS hL hsb hG
  obtain ⟨hx, hb, hml, hown, hts, hret, hlk, hK, hnm, hwm⟩ := id hX
  obtain ⟨hl, hlo, hso⟩ := id hL
  refine lv_aload hx hb hd (b_lcl hl hj) ?_
  exact k p e s m args below meth c H locs lsA A ad0 ad hX hS ⟨hl, hlo, ok_c (hlo _ (List.mem_of_getElem? hj)) hso⟩ hsb hG
theorem v_istore_n {g : Fin 4} {x : Int} {i : Nat} (hi : (g : Nat) = i) (hn : i < bX.nL X) (hd : decode (bX.cc X) pc = .ok (.istore_n g, 1)) (he : b_s1 i (bI x) ls = ls') (k : VL l E X L kn (pc + 1) ls' st M G) : VL l E X L kn pc ls (bI x :: st) M G := by
  intro p e s m args below meth c H locs lsA A ad0 ad hX hS hL hsb hG
  obtain ⟨hx, hb, hml, hown, hts, hret, hlk, hK, hnm, hwm⟩ := id hX
  obtain ⟨hl, hlo, hso⟩ := id hL
  subst he
  refine lv_istore_n hx hb hd hi hl hn (b_s1_tl ad i (bI x) ls) (fun ls2 hl2 => ?_)
  exact k p e s m args below meth c H locs ls2 A ad0 ad hX hS ⟨hl2, b_s1_ok (ok_h hso) hlo, ok_t hso⟩ hsb hG
theorem v_istore {x : Int} {i : Nat} (hn : i < bX.nL X) (hd : decode (bX.cc X) pc = .ok (.istore i, 2)) (he : b_s1 i (bI x) ls = ls') (k : VL l E X L kn (pc + 2) ls' st M G) : VL l E X L kn pc ls (bI x :: st) M G := by
  intro p e s m args below meth c H locs lsA A ad0 ad hX hS hL hsb hG
  obtain ⟨hx, hb, hml, hown, hts, hret, hlk, hK, hnm, hwm⟩ := id hX
  obtain ⟨hl, hlo, hso⟩ := id hL
  subst he
  refine lv_istore hx hb hd hl hn (b_s1_tl ad i (bI x) ls) (fun ls2 hl2 => ?_)
  exact k p e s m args below meth c H locs ls2 A ad0 ad hX hS ⟨hl2, b_s1_ok (ok_h hso) hlo, ok_t hso⟩ hsb hG
theorem v_lstore_n {g : Fin 4} {x : Int} {i : Nat} (hi : (g : Nat) = i) (hn : i + 1 < bX.nL X) (hd : decode (bX.cc X) pc = .ok (.lstore_n g, 1)) (he : b_s2 i (bJ x) ls = ls') (k : VL l E X L kn (pc + 1) ls' st M G) : VL l E X L kn pc ls (bJ x :: st) M G := by
  intro p e s m args below meth c H locs lsA A ad0 ad hX hS hL hsb hG
  obtain ⟨hx, hb, hml, hown, hts, hret, hlk, hK, hnm, hwm⟩ := id hX
  obtain ⟨hl, hlo, hso⟩ := id hL
  subst he
  refine lv_lstore_n hx hb hd hi hl hn (b_s2_tl ad i (bJ x) ls) (fun ls2 hl2 => ?_)
  exact k p e s m args below meth c H locs ls2 A ad0 ad hX hS ⟨hl2, b_s2_ok (ok_h hso) hlo, ok_t hso⟩ hsb hG
theorem v_lstore {x : Int} {i : Nat} (hn : i + 1 < bX.nL X) (hd : decode (bX.cc X) pc = .ok (.lstore i, 2)) (he : b_s2 i (bJ x) ls = ls') (k : VL l E X L kn (pc + 2) ls' st M G) : VL l E X L kn pc ls (bJ x :: st) M G := by
  intro p e s m args below meth c H locs lsA A ad0 ad hX hS hL hsb hG
  obtain ⟨hx, hb, hml, hown, hts, hret, hlk, hK, hnm, hwm⟩ := id hX
  obtain ⟨hl, hlo, hso⟩ := id hL
  subst he
  refine lv_lstore hx hb hd hl hn (b_s2_tl ad i (bJ x) ls) (fun ls2 hl2 => ?_)
  exact k p e s m args below meth c H locs ls2 A ad0 ad hX hS ⟨hl2, b_s2_ok (ok_h hso) hlo, ok_t hso⟩ hsb hG
theorem v_astore_n {g : Fin 4} {x : Nat} {i : Nat} (hi : (g : Nat) = i) (hn : i < bX.nL X) (hd : decode (bX.cc X) pc = .ok (.astore_n g, 1)) (he : b_s1 i (bR x) ls = ls') (k : VL l E X L kn (pc + 1) ls' st M G) : VL l E X L kn pc ls (bR x :: st) M G := by
  intro p e s m args below meth c H locs lsA A ad0 ad hX hS hL hsb hG
  obtain ⟨hx, hb, hml, hown, hts, hret, hlk, hK, hnm, hwm⟩ := id hX
  obtain ⟨hl, hlo, hso⟩ := id hL
  subst he
  refine lv_astore_n hx hb hd hi hl hn (b_s1_tl ad i (bR x) ls) (fun ls2 hl2 => ?_)
  exact k p e s m args below meth c H locs ls2 A ad0 ad hX hS ⟨hl2, b_s1_ok (ok_h hso) hlo, ok_t hso⟩ hsb hG
theorem v_astore {x : Nat} {i : Nat} (hn : i < bX.nL X) (hd : decode (bX.cc X) pc = .ok (.astore i, 2)) (he : b_s1 i (bR x) ls = ls') (k : VL l E X L kn (pc + 2) ls' st M G) : VL l E X L kn pc ls (bR x :: st) M G := by
  intro p e s m args below meth c H locs lsA A ad0 ad hX hS hL hsb hG
  obtain ⟨hx, hb, hml, hown, hts, hret, hlk, hK, hnm, hwm⟩ := id hX
  obtain ⟨hl, hlo, hso⟩ := id hL
  subst he
  refine lv_astore hx hb hd hl hn (b_s1_tl ad i (bR x) ls) (fun ls2 hl2 => ?_)
  exact k p e s m args below meth c H locs ls2 A ad0 ad hX hS ⟨hl2, b_s1_ok (ok_h hso) hlo, ok_t hso⟩ hsb hG
theorem v_iinc {x n : Int} {i : Nat} (j : Nat) (hj : ls[j]? = some (i, bI x)) (hn : i < bX.nL X) (hd : decode (bX.cc X) pc = .ok (.iinc i n, 3)) (he : b_s1 i (bI (w32 (x + n))) ls = ls') (k : VL l E X L kn (pc + 3) ls' st M G) : VL l E X L kn pc ls (st) M G := by
  intro p e s m args below meth c H locs lsA A ad0 ad hX hS hL hsb hG
  obtain ⟨hx, hb, hml, hown, hts, hret, hlk, hK, hnm, hwm⟩ := id hX
  obtain ⟨hl, hlo, hso⟩ := id hL
  subst he
  have hv : Int32.ofInt x + Int32.ofInt n = Int32.ofInt (w32 (x + n)) := by rw [of_w32, Int32.ofInt_add]
  have hj2 : (b_tl ad ls)[j]? = some (i, .int (Int32.ofInt x)) := by unfold b_tl; rw [List.getElem?_map, hj]; rfl
  refine lv_iinc (v := Int32.ofInt (w32 (x + n))) hx hb hd hl hj2 hv hn (b_s1_tl ad i (bI (w32 (x + n))) ls) (fun ls2 hl2 => ?_)
  exact k p e s m args below meth c H locs ls2 A ad0 ad hX hS ⟨hl2, b_s1_ok (v := bI (w32 (x + n))) (r32_w _) hlo, hso⟩ hsb hG
theorem v_iincN {x n : Int} {i : Nat} (j : Nat) (hj : ls[j]? = some (i, bI x)) (hn : i < bX.nL X) (h : b_r32 (x + n)) (hd : decode (bX.cc X) pc = .ok (.iinc i n, 3)) (he : b_s1 i (bI (x + n)) ls = ls') (k : VL l E X L kn (pc + 3) ls' st M G) : VL l E X L kn pc ls st M G := v_iinc j hj hn hd (by rw [w32_id h]; exact he) k
theorem v_dup {v : bV} (hv : b_c2 v = false) (hd : decode (bX.cc X) pc = .ok (.dup, 1)) (k : VL l E X L kn (pc + 1) ls (v :: v :: st) M G) : VL l E X L kn pc ls (v :: st) M G := by
  intro p e s m args below meth c H locs lsA A ad0 ad hX hS hL hsb hG
  obtain ⟨hx, hb, hml, hown, hts, hret, hlk, hK, hnm, hwm⟩ := id hX
  obtain ⟨hl, hlo, hso⟩ := id hL
  refine lv_dup hx hb hd (b_cat1 hv) ?_
  exact k p e s m args below meth c H locs lsA A ad0 ad hX hS ⟨hl, hlo, ok_c (ok_h hso) hso⟩ hsb hG
theorem v_pop {v : bV} (hv : b_c2 v = false) (hd : decode (bX.cc X) pc = .ok (.pop, 1)) (k : VL l E X L kn (pc + 1) ls st M G) : VL l E X L kn pc ls (v :: st) M G := by
  intro p e s m args below meth c H locs lsA A ad0 ad hX hS hL hsb hG
  obtain ⟨hx, hb, hml, hown, hts, hret, hlk, hK, hnm, hwm⟩ := id hX
  obtain ⟨hl, hlo, hso⟩ := id hL
  refine lv_pop hx hb hd (b_cat1 hv) ?_
  exact k p e s m args below meth c H locs lsA A ad0 ad hX hS ⟨hl, hlo, ok_t hso⟩ hsb hG
theorem v_dup2 {v w : bV} (hv : b_c2 v = false) (hw : b_c2 w = false) (hd : decode (bX.cc X) pc = .ok (.dup2, 1)) (k : VL l E X L kn (pc + 1) ls (v :: w :: v :: w :: st) M G) : VL l E X L kn pc ls (v :: w :: st) M G := by
  intro p e s m args below meth c H locs lsA A ad0 ad hX hS hL hsb hG
  obtain ⟨hx, hb, hml, hown, hts, hret, hlk, hK, hnm, hwm⟩ := id hX
  obtain ⟨hl, hlo, hso⟩ := id hL
  refine lv_dup2_11 hx hb hd (b_cat1 hv) (b_cat1 hw) ?_
  exact k p e s m args below meth c H locs lsA A ad0 ad hX hS ⟨hl, hlo, ok_c (ok_h hso) (ok_c (ok_h (ok_t hso)) hso)⟩ hsb hG
theorem v_iadd {x y : Int} (hd : decode (bX.cc X) pc = .ok (.iadd, 1)) (k : VL l E X L kn (pc + 1) ls (bI (w32 (x + y)) :: st) M G) : VL l E X L kn pc ls (bI y :: bI x :: st) M G := by
  intro p e s m args below meth c H locs lsA A ad0 ad hX hS hL hsb hG
  obtain ⟨hx, hb, hml, hown, hts, hret, hlk, hK, hnm, hwm⟩ := id hX
  obtain ⟨hl, hlo, hso⟩ := id hL
  refine lv_iadd hx hb hd ?_
  rw [← Int32.ofInt_add, ← of_w32]
  exact k p e s m args below meth c H locs lsA A ad0 ad hX hS ⟨hl, hlo, ok_c (v := bI (w32 (x + y))) (r32_w _) (ok_t (ok_t hso))⟩ hsb hG
theorem v_isub {x y : Int} (hd : decode (bX.cc X) pc = .ok (.isub, 1)) (k : VL l E X L kn (pc + 1) ls (bI (w32 (x - y)) :: st) M G) : VL l E X L kn pc ls (bI y :: bI x :: st) M G := by
  intro p e s m args below meth c H locs lsA A ad0 ad hX hS hL hsb hG
  obtain ⟨hx, hb, hml, hown, hts, hret, hlk, hK, hnm, hwm⟩ := id hX
  obtain ⟨hl, hlo, hso⟩ := id hL
  refine lv_isub hx hb hd ?_
  rw [← Int32.ofInt_sub, ← of_w32]
  exact k p e s m args below meth c H locs lsA A ad0 ad hX hS ⟨hl, hlo, ok_c (v := bI (w32 (x - y))) (r32_w _) (ok_t (ok_t hso))⟩ hsb hG
theorem v_imul {x y : Int} (hd : decode (bX.cc X) pc = .ok (.imul, 1)) (k : VL l E X L kn (pc + 1) ls (bI (w32 (x * y)) :: st) M G) : VL l E X L kn pc ls (bI y :: bI x :: st) M G := by
  intro p e s m args below meth c H locs lsA A ad0 ad hX hS hL hsb hG
  obtain ⟨hx, hb, hml, hown, hts, hret, hlk, hK, hnm, hwm⟩ := id hX
  obtain ⟨hl, hlo, hso⟩ := id hL
  refine lv_imul hx hb hd ?_
  rw [← Int32.ofInt_mul, ← of_w32]
  exact k p e s m args below meth c H locs lsA A ad0 ad hX hS ⟨hl, hlo, ok_c (v := bI (w32 (x * y))) (r32_w _) (ok_t (ok_t hso))⟩ hsb hG
theorem v_ladd {x y : Int} (hd : decode (bX.cc X) pc = .ok (.ladd, 1)) (k : VL l E X L kn (pc + 1) ls (bJ (w64 (x + y)) :: st) M G) : VL l E X L kn pc ls (bJ y :: bJ x :: st) M G := by
  intro p e s m args below meth c H locs lsA A ad0 ad hX hS hL hsb hG
  obtain ⟨hx, hb, hml, hown, hts, hret, hlk, hK, hnm, hwm⟩ := id hX
  obtain ⟨hl, hlo, hso⟩ := id hL
  refine lv_ladd hx hb hd ?_
  rw [← Int64.ofInt_add, ← of_w64]
  exact k p e s m args below meth c H locs lsA A ad0 ad hX hS ⟨hl, hlo, ok_c (v := bJ (w64 (x + y))) (r64_w _) (ok_t (ok_t hso))⟩ hsb hG
theorem v_lsub {x y : Int} (hd : decode (bX.cc X) pc = .ok (.lsub, 1)) (k : VL l E X L kn (pc + 1) ls (bJ (w64 (x - y)) :: st) M G) : VL l E X L kn pc ls (bJ y :: bJ x :: st) M G := by
  intro p e s m args below meth c H locs lsA A ad0 ad hX hS hL hsb hG
  obtain ⟨hx, hb, hml, hown, hts, hret, hlk, hK, hnm, hwm⟩ := id hX
  obtain ⟨hl, hlo, hso⟩ := id hL
  refine lv_lsub hx hb hd ?_
  rw [← Int64.ofInt_sub, ← of_w64]
  exact k p e s m args below meth c H locs lsA A ad0 ad hX hS ⟨hl, hlo, ok_c (v := bJ (w64 (x - y))) (r64_w _) (ok_t (ok_t hso))⟩ hsb hG
theorem v_lmul {x y : Int} (hd : decode (bX.cc X) pc = .ok (.lmul, 1)) (k : VL l E X L kn (pc + 1) ls (bJ (w64 (x * y)) :: st) M G) : VL l E X L kn pc ls (bJ y :: bJ x :: st) M G := by
  intro p e s m args below meth c H locs lsA A ad0 ad hX hS hL hsb hG
  obtain ⟨hx, hb, hml, hown, hts, hret, hlk, hK, hnm, hwm⟩ := id hX
  obtain ⟨hl, hlo, hso⟩ := id hL
  refine lv_lmul hx hb hd ?_
  rw [← Int64.ofInt_mul, ← of_w64]
  exact k p e s m args below meth c H locs lsA A ad0 ad hX hS ⟨hl, hlo, ok_c (v := bJ (w64 (x * y))) (r64_w _) (ok_t (ok_t hso))⟩ hsb hG
theorem v_iaddN {x y : Int} (h : b_r32 (x + y)) (hd : decode (bX.cc X) pc = .ok (.iadd, 1)) (k : VL l E X L kn (pc + 1) ls (bI (x + y) :: st) M G) : VL l E X L kn pc ls (bI y :: bI x :: st) M G := v_iadd hd (by rw [w32_id h]; exact k)
theorem v_isubN {x y : Int} (h : b_r32 (x - y)) (hd : decode (bX.cc X) pc = .ok (.isub, 1)) (k : VL l E X L kn (pc + 1) ls (bI (x - y) :: st) M G) : VL l E X L kn pc ls (bI y :: bI x :: st) M G := v_isub hd (by rw [w32_id h]; exact k)
theorem v_imulN {x y : Int} (h : b_r32 (x * y)) (hd : decode (bX.cc X) pc = .ok (.imul, 1)) (k : VL l E X L kn (pc + 1) ls (bI (x * y) :: st) M G) : VL l E X L kn pc ls (bI y :: bI x :: st) M G := v_imul hd (by rw [w32_id h]; exact k)
theorem v_inegN_ph : True := trivial
theorem v_ineg {x : Int} (hd : decode (bX.cc X) pc = .ok (.ineg, 1)) (k : VL l E X L kn (pc + 1) ls (bI (w32 (-x)) :: st) M G) : VL l E X L kn pc ls (bI x :: st) M G := by
  intro p e s m args below meth c H locs lsA A ad0 ad hX hS hL hsb hG
  obtain ⟨hx, hb, hml, hown, hts, hret, hlk, hK, hnm, hwm⟩ := id hX
  obtain ⟨hl, hlo, hso⟩ := id hL
  refine lv_ineg hx hb hd ?_
  rw [← Int32.ofInt_neg, ← of_w32]
  exact k p e s m args below meth c H locs lsA A ad0 ad hX hS ⟨hl, hlo, ok_c (v := bI (w32 (-x))) (r32_w _) (ok_t hso)⟩ hsb hG
theorem v_iand {x y v : Int} (hv : (Int32.ofInt x &&& Int32.ofInt y).toInt = v) (hd : decode (bX.cc X) pc = .ok (.iand, 1)) (k : VL l E X L kn (pc + 1) ls (bI v :: st) M G) : VL l E X L kn pc ls (bI y :: bI x :: st) M G := by
  intro p e s m args below meth c H locs lsA A ad0 ad hX hS hL hsb hG
  obtain ⟨hx, hb, hml, hown, hts, hret, hlk, hK, hnm, hwm⟩ := id hX
  obtain ⟨hl, hlo, hso⟩ := id hL
  subst hv
  refine lv_iand hx hb hd ?_
  have h := k p e s m args below meth c H locs lsA A ad0 ad hX hS ⟨hl, hlo, ok_c (v := bI (Int32.ofInt x &&& Int32.ofInt y).toInt) (r32_toInt _) (ok_t (ok_t hso))⟩ hsb hG
  rw [List.map_cons, show b_tv ad (bI (Int32.ofInt x &&& Int32.ofInt y).toInt) = .int (Int32.ofInt x &&& Int32.ofInt y) from by show Value.int (Int32.ofInt _) = _; rw [Int32.ofInt_toInt]] at h
  exact h
theorem v_ior {x y v : Int} (hv : (Int32.ofInt x ||| Int32.ofInt y).toInt = v) (hd : decode (bX.cc X) pc = .ok (.ior, 1)) (k : VL l E X L kn (pc + 1) ls (bI v :: st) M G) : VL l E X L kn pc ls (bI y :: bI x :: st) M G := by
  intro p e s m args below meth c H locs lsA A ad0 ad hX hS hL hsb hG
  obtain ⟨hx, hb, hml, hown, hts, hret, hlk, hK, hnm, hwm⟩ := id hX
  obtain ⟨hl, hlo, hso⟩ := id hL
  subst hv
  refine lv_ior hx hb hd ?_
  have h := k p e s m args below meth c H locs lsA A ad0 ad hX hS ⟨hl, hlo, ok_c (v := bI (Int32.ofInt x ||| Int32.ofInt y).toInt) (r32_toInt _) (ok_t (ok_t hso))⟩ hsb hG
  rw [List.map_cons, show b_tv ad (bI (Int32.ofInt x ||| Int32.ofInt y).toInt) = .int (Int32.ofInt x ||| Int32.ofInt y) from by show Value.int (Int32.ofInt _) = _; rw [Int32.ofInt_toInt]] at h
  exact h
theorem v_ixor {x y v : Int} (hv : (Int32.ofInt x ^^^ Int32.ofInt y).toInt = v) (hd : decode (bX.cc X) pc = .ok (.ixor, 1)) (k : VL l E X L kn (pc + 1) ls (bI v :: st) M G) : VL l E X L kn pc ls (bI y :: bI x :: st) M G := by
  intro p e s m args below meth c H locs lsA A ad0 ad hX hS hL hsb hG
  obtain ⟨hx, hb, hml, hown, hts, hret, hlk, hK, hnm, hwm⟩ := id hX
  obtain ⟨hl, hlo, hso⟩ := id hL
  subst hv
  refine lv_ixor hx hb hd ?_
  have h := k p e s m args below meth c H locs lsA A ad0 ad hX hS ⟨hl, hlo, ok_c (v := bI (Int32.ofInt x ^^^ Int32.ofInt y).toInt) (r32_toInt _) (ok_t (ok_t hso))⟩ hsb hG
  rw [List.map_cons, show b_tv ad (bI (Int32.ofInt x ^^^ Int32.ofInt y).toInt) = .int (Int32.ofInt x ^^^ Int32.ofInt y) from by show Value.int (Int32.ofInt _) = _; rw [Int32.ofInt_toInt]] at h
  exact h
theorem v_ishl {x y v : Int} (hv : (Int32.ofInt x <<< (Int32.ofInt y &&& 31)).toInt = v) (hd : decode (bX.cc X) pc = .ok (.ishl, 1)) (k : VL l E X L kn (pc + 1) ls (bI v :: st) M G) : VL l E X L kn pc ls (bI y :: bI x :: st) M G := by
  intro p e s m args below meth c H locs lsA A ad0 ad hX hS hL hsb hG
  obtain ⟨hx, hb, hml, hown, hts, hret, hlk, hK, hnm, hwm⟩ := id hX
  obtain ⟨hl, hlo, hso⟩ := id hL
  subst hv
  refine lv_ishl hx hb hd ?_
  have h := k p e s m args below meth c H locs lsA A ad0 ad hX hS ⟨hl, hlo, ok_c (v := bI (Int32.ofInt x <<< (Int32.ofInt y &&& 31)).toInt) (r32_toInt _) (ok_t (ok_t hso))⟩ hsb hG
  rw [List.map_cons, show b_tv ad (bI (Int32.ofInt x <<< (Int32.ofInt y &&& 31)).toInt) = .int (Int32.ofInt x <<< (Int32.ofInt y &&& 31)) from by show Value.int (Int32.ofInt _) = _; rw [Int32.ofInt_toInt]] at h
  exact h
theorem v_ishr {x y v : Int} (hv : (Int32.ofInt x >>> (Int32.ofInt y &&& 31)).toInt = v) (hd : decode (bX.cc X) pc = .ok (.ishr, 1)) (k : VL l E X L kn (pc + 1) ls (bI v :: st) M G) : VL l E X L kn pc ls (bI y :: bI x :: st) M G := by
  intro p e s m args below meth c H locs lsA A ad0 ad hX hS hL hsb hG
  obtain ⟨hx, hb, hml, hown, hts, hret, hlk, hK, hnm, hwm⟩ := id hX
  obtain ⟨hl, hlo, hso⟩ := id hL
  subst hv
  refine lv_ishr hx hb hd ?_
  have h := k p e s m args below meth c H locs lsA A ad0 ad hX hS ⟨hl, hlo, ok_c (v := bI (Int32.ofInt x >>> (Int32.ofInt y &&& 31)).toInt) (r32_toInt _) (ok_t (ok_t hso))⟩ hsb hG
  rw [List.map_cons, show b_tv ad (bI (Int32.ofInt x >>> (Int32.ofInt y &&& 31)).toInt) = .int (Int32.ofInt x >>> (Int32.ofInt y &&& 31)) from by show Value.int (Int32.ofInt _) = _; rw [Int32.ofInt_toInt]] at h
  exact h
theorem v_iushr {x y v : Int} (hv : (((Int32.ofInt x).toUInt32 >>> ((Int32.ofInt y).toUInt32 &&& Int32.toUInt32 31)).toInt32).toInt = v) (hd : decode (bX.cc X) pc = .ok (.iushr, 1)) (k : VL l E X L kn (pc + 1) ls (bI v :: st) M G) : VL l E X L kn pc ls (bI y :: bI x :: st) M G := by
  intro p e s m args below meth c H locs lsA A ad0 ad hX hS hL hsb hG
  obtain ⟨hx, hb, hml, hown, hts, hret, hlk, hK, hnm, hwm⟩ := id hX
  obtain ⟨hl, hlo, hso⟩ := id hL
  subst hv
  refine lv_iushr hx hb hd rfl ?_
  have h := k p e s m args below meth c H locs lsA A ad0 ad hX hS ⟨hl, hlo, ok_c (v := bI (((Int32.ofInt x).toUInt32 >>> ((Int32.ofInt y).toUInt32 &&& Int32.toUInt32 31)).toInt32).toInt) (r32_toInt _) (ok_t (ok_t hso))⟩ hsb hG
  rw [List.map_cons, show b_tv ad (bI (((Int32.ofInt x).toUInt32 >>> ((Int32.ofInt y).toUInt32 &&& Int32.toUInt32 31)).toInt32).toInt) = .int (((Int32.ofInt x).toUInt32 >>> ((Int32.ofInt y).toUInt32 &&& Int32.toUInt32 31)).toInt32) from by show Value.int (Int32.ofInt _) = _; rw [Int32.ofInt_toInt]] at h
  exact h
theorem v_land {x y v : Int} (hv : (Int64.ofInt x &&& Int64.ofInt y).toInt = v) (hd : decode (bX.cc X) pc = .ok (.land, 1)) (k : VL l E X L kn (pc + 1) ls (bJ v :: st) M G) : VL l E X L kn pc ls (bJ y :: bJ x :: st) M G := by
  intro p e s m args below meth c H locs lsA A ad0 ad hX hS hL hsb hG
  obtain ⟨hx, hb, hml, hown, hts, hret, hlk, hK, hnm, hwm⟩ := id hX
  obtain ⟨hl, hlo, hso⟩ := id hL
  subst hv
  refine lv_land hx hb hd ?_
  have h := k p e s m args below meth c H locs lsA A ad0 ad hX hS ⟨hl, hlo, ok_c (v := bJ (Int64.ofInt x &&& Int64.ofInt y).toInt) (r64_toInt _) (ok_t (ok_t hso))⟩ hsb hG
  rw [List.map_cons, show b_tv ad (bJ (Int64.ofInt x &&& Int64.ofInt y).toInt) = .long (Int64.ofInt x &&& Int64.ofInt y) from by show Value.long (Int64.ofInt _) = _; rw [Int64.ofInt_toInt]] at h
  exact h
theorem v_lor {x y v : Int} (hv : (Int64.ofInt x ||| Int64.ofInt y).toInt = v) (hd : decode (bX.cc X) pc = .ok (.lor, 1)) (k : VL l E X L kn (pc + 1) ls (bJ v :: st) M G) : VL l E X L kn pc ls (bJ y :: bJ x :: st) M G := by
  intro p e s m args below meth c H locs lsA A ad0 ad hX hS hL hsb hG
  obtain ⟨hx, hb, hml, hown, hts, hret, hlk, hK, hnm, hwm⟩ := id hX
  obtain ⟨hl, hlo, hso⟩ := id hL
  subst hv
  refine lv_lor hx hb hd ?_
  have h := k p e s m args below meth c H locs lsA A ad0 ad hX hS ⟨hl, hlo, ok_c (v := bJ (Int64.ofInt x ||| Int64.ofInt y).toInt) (r64_toInt _) (ok_t (ok_t hso))⟩ hsb hG
  rw [List.map_cons, show b_tv ad (bJ (Int64.ofInt x ||| Int64.ofInt y).toInt) = .long (Int64.ofInt x ||| Int64.ofInt y) from by show Value.long (Int64.ofInt _) = _; rw [Int64.ofInt_toInt]] at h
  exact h
theorem v_lshl {x y v : Int} (hv : (Int64.ofInt x <<< ((Int32.ofInt y).toInt64 &&& 63)).toInt = v) (hd : decode (bX.cc X) pc = .ok (.lshl, 1)) (k : VL l E X L kn (pc + 1) ls (bJ v :: st) M G) : VL l E X L kn pc ls (bI y :: bJ x :: st) M G := by
  intro p e s m args below meth c H locs lsA A ad0 ad hX hS hL hsb hG
  obtain ⟨hx, hb, hml, hown, hts, hret, hlk, hK, hnm, hwm⟩ := id hX
  obtain ⟨hl, hlo, hso⟩ := id hL
  subst hv
  refine lv_lshl hx hb hd rfl ?_
  have h := k p e s m args below meth c H locs lsA A ad0 ad hX hS ⟨hl, hlo, ok_c (v := bJ (Int64.ofInt x <<< ((Int32.ofInt y).toInt64 &&& 63)).toInt) (r64_toInt _) (ok_t (ok_t hso))⟩ hsb hG
  rw [List.map_cons, show b_tv ad (bJ (Int64.ofInt x <<< ((Int32.ofInt y).toInt64 &&& 63)).toInt) = .long (Int64.ofInt x <<< ((Int32.ofInt y).toInt64 &&& 63)) from by show Value.long (Int64.ofInt _) = _; rw [Int64.ofInt_toInt]] at h
  exact h
theorem v_lshr {x y v : Int} (hv : (Int64.ofInt x >>> ((Int32.ofInt y).toInt64 &&& 63)).toInt = v) (hd : decode (bX.cc X) pc = .ok (.lshr, 1)) (k : VL l E X L kn (pc + 1) ls (bJ v :: st) M G) : VL l E X L kn pc ls (bI y :: bJ x :: st) M G := by
  intro p e s m args below meth c H locs lsA A ad0 ad hX hS hL hsb hG
  obtain ⟨hx, hb, hml, hown, hts, hret, hlk, hK, hnm, hwm⟩ := id hX
  obtain ⟨hl, hlo, hso⟩ := id hL
  subst hv
  refine lv_lshr hx hb hd rfl ?_
  have h := k p e s m args below meth c H locs lsA A ad0 ad hX hS ⟨hl, hlo, ok_c (v := bJ (Int64.ofInt x >>> ((Int32.ofInt y).toInt64 &&& 63)).toInt) (r64_toInt _) (ok_t (ok_t hso))⟩ hsb hG
  rw [List.map_cons, show b_tv ad (bJ (Int64.ofInt x >>> ((Int32.ofInt y).toInt64 &&& 63)).toInt) = .long (Int64.ofInt x >>> ((Int32.ofInt y).toInt64 &&& 63)) from by show Value.long (Int64.ofInt _) = _; rw [Int64.ofInt_toInt]] at h
  exact h
theorem v_lushr {x y v : Int} (hv : (((Int64.ofInt x).toUInt64 >>> ((Int32.ofInt y).toInt64.toUInt64 &&& Int64.toUInt64 63)).toInt64).toInt = v) (hd : decode (bX.cc X) pc = .ok (.lushr, 1)) (k : VL l E X L kn (pc + 1) ls (bJ v :: st) M G) : VL l E X L kn pc ls (bI y :: bJ x :: st) M G := by
  intro p e s m args below meth c H locs lsA A ad0 ad hX hS hL hsb hG
  obtain ⟨hx, hb, hml, hown, hts, hret, hlk, hK, hnm, hwm⟩ := id hX
  obtain ⟨hl, hlo, hso⟩ := id hL
  subst hv
  refine lv_lushr hx hb hd rfl ?_
  have h := k p e s m args below meth c H locs lsA A ad0 ad hX hS ⟨hl, hlo, ok_c (v := bJ (((Int64.ofInt x).toUInt64 >>> ((Int32.ofInt y).toInt64.toUInt64 &&& Int64.toUInt64 63)).toInt64).toInt) (r64_toInt _) (ok_t (ok_t hso))⟩ hsb hG
  rw [List.map_cons, show b_tv ad (bJ (((Int64.ofInt x).toUInt64 >>> ((Int32.ofInt y).toInt64.toUInt64 &&& Int64.toUInt64 63)).toInt64).toInt) = .long (((Int64.ofInt x).toUInt64 >>> ((Int32.ofInt y).toInt64.toUInt64 &&& Int64.toUInt64 63)).toInt64) from by show Value.long (Int64.ofInt _) = _; rw [Int64.ofInt_toInt]] at h
  exact h
theorem v_idiv {x y v : Int} (hy : y ≠ 0) (hv : (Int32.ofInt x / Int32.ofInt y).toInt = v) (hd : decode (bX.cc X) pc = .ok (.idiv, 1)) (k : VL l E X L kn (pc + 1) ls (bI v :: st) M G) : VL l E X L kn pc ls (bI y :: bI x :: st) M G := by
  intro p e s m args below meth c H locs lsA A ad0 ad hX hS hL hsb hG
  obtain ⟨hx, hb, hml, hown, hts, hret, hlk, hK, hnm, hwm⟩ := id hX
  obtain ⟨hl, hlo, hso⟩ := id hL
  subst hv
  refine lv_idiv hx hb hd (fun q => hy ((eq32 (ok_h hso) r32_0).mp (by rw [q]; rfl))) ?_
  have h := k p e s m args below meth c H locs lsA A ad0 ad hX hS ⟨hl, hlo, ok_c (v := bI (Int32.ofInt x / Int32.ofInt y).toInt) (r32_toInt _) (ok_t (ok_t hso))⟩ hsb hG
  rw [List.map_cons, show b_tv ad (bI (Int32.ofInt x / Int32.ofInt y).toInt) = .int (Int32.ofInt x / Int32.ofInt y) from by show Value.int (Int32.ofInt _) = _; rw [Int32.ofInt_toInt]] at h
  exact h
theorem v_irem {x y v : Int} (hy : y ≠ 0) (hv : (Int32.ofInt x - Int32.ofInt x / Int32.ofInt y * Int32.ofInt y).toInt = v) (hd : decode (bX.cc X) pc = .ok (.irem, 1)) (k : VL l E X L kn (pc + 1) ls (bI v :: st) M G) : VL l E X L kn pc ls (bI y :: bI x :: st) M G := by
  intro p e s m args below meth c H locs lsA A ad0 ad hX hS hL hsb hG
  obtain ⟨hx, hb, hml, hown, hts, hret, hlk, hK, hnm, hwm⟩ := id hX
  obtain ⟨hl, hlo, hso⟩ := id hL
  subst hv
  refine lv_irem hx hb hd (fun q => hy ((eq32 (ok_h hso) r32_0).mp (by rw [q]; rfl))) ?_
  have h := k p e s m args below meth c H locs lsA A ad0 ad hX hS ⟨hl, hlo, ok_c (v := bI (Int32.ofInt x - Int32.ofInt x / Int32.ofInt y * Int32.ofInt y).toInt) (r32_toInt _) (ok_t (ok_t hso))⟩ hsb hG
  rw [List.map_cons, show b_tv ad (bI (Int32.ofInt x - Int32.ofInt x / Int32.ofInt y * Int32.ofInt y).toInt) = .int (Int32.ofInt x - Int32.ofInt x / Int32.ofInt y * Int32.ofInt y) from by show Value.int (Int32.ofInt _) = _; rw [Int32.ofInt_toInt]] at h
  exact h
theorem v_i2l {x v : Int} (hv : ((Int32.ofInt x).toInt64).toInt = v) (hd : decode (bX.cc X) pc = .ok (.i2l, 1)) (k : VL l E X L kn (pc + 1) ls (bJ v :: st) M G) : VL l E X L kn pc ls (bI x :: st) M G := by
  intro p e s m args below meth c H locs lsA A ad0 ad hX hS hL hsb hG
  obtain ⟨hx, hb, hml, hown, hts, hret, hlk, hK, hnm, hwm⟩ := id hX
  obtain ⟨hl, hlo, hso⟩ := id hL
  subst hv
  refine lv_i2l hx hb hd rfl ?_
  have h := k p e s m args below meth c H locs lsA A ad0 ad hX hS ⟨hl, hlo, ok_c (v := bJ ((Int32.ofInt x).toInt64).toInt) (r64_toInt _) (ok_t hso)⟩ hsb hG
  rw [List.map_cons, show b_tv ad (bJ ((Int32.ofInt x).toInt64).toInt) = .long ((Int32.ofInt x).toInt64) from by show Value.long (Int64.ofInt _) = _; rw [Int64.ofInt_toInt]] at h
  exact h
theorem v_l2i {x v : Int} (hv : ((Int64.ofInt x).toInt32).toInt = v) (hd : decode (bX.cc X) pc = .ok (.l2i, 1)) (k : VL l E X L kn (pc + 1) ls (bI v :: st) M G) : VL l E X L kn pc ls (bJ x :: st) M G := by
  intro p e s m args below meth c H locs lsA A ad0 ad hX hS hL hsb hG
  obtain ⟨hx, hb, hml, hown, hts, hret, hlk, hK, hnm, hwm⟩ := id hX
  obtain ⟨hl, hlo, hso⟩ := id hL
  subst hv
  refine lv_l2i hx hb hd rfl ?_
  have h := k p e s m args below meth c H locs lsA A ad0 ad hX hS ⟨hl, hlo, ok_c (v := bI ((Int64.ofInt x).toInt32).toInt) (r32_toInt _) (ok_t hso)⟩ hsb hG
  rw [List.map_cons, show b_tv ad (bI ((Int64.ofInt x).toInt32).toInt) = .int ((Int64.ofInt x).toInt32) from by show Value.int (Int32.ofInt _) = _; rw [Int32.ofInt_toInt]] at h
  exact h
theorem v_i2b {x v : Int} (hv : ((Int32.ofInt x).toInt8.toInt32).toInt = v) (hd : decode (bX.cc X) pc = .ok (.i2b, 1)) (k : VL l E X L kn (pc + 1) ls (bI v :: st) M G) : VL l E X L kn pc ls (bI x :: st) M G := by
  intro p e s m args below meth c H locs lsA A ad0 ad hX hS hL hsb hG
  obtain ⟨hx, hb, hml, hown, hts, hret, hlk, hK, hnm, hwm⟩ := id hX
  obtain ⟨hl, hlo, hso⟩ := id hL
  subst hv
  refine lv_i2b hx hb hd rfl ?_
  have h := k p e s m args below meth c H locs lsA A ad0 ad hX hS ⟨hl, hlo, ok_c (v := bI ((Int32.ofInt x).toInt8.toInt32).toInt) (r32_toInt _) (ok_t hso)⟩ hsb hG
  rw [List.map_cons, show b_tv ad (bI ((Int32.ofInt x).toInt8.toInt32).toInt) = .int ((Int32.ofInt x).toInt8.toInt32) from by show Value.int (Int32.ofInt _) = _; rw [Int32.ofInt_toInt]] at h
  exact h
theorem v_lcmp {x y : Int} (hd : decode (bX.cc X) pc = .ok (.lcmp, 1)) (k : VL l E X L kn (pc + 1) ls (bI (if y < x then 1 else if x = y then 0 else -1) :: st) M G) : VL l E X L kn pc ls (bJ y :: bJ x :: st) M G := by
  intro p e s m args below meth c H locs lsA A ad0 ad hX hS hL hsb hG
  obtain ⟨hx, hb, hml, hown, hts, hret, hlk, hK, hnm, hwm⟩ := id hX
  obtain ⟨hl, hlo, hso⟩ := id hL
  refine W.lcmp hx hb hd ?_
  have h1 : b_r64 y := ok_h hso
  have h2 : b_r64 x := ok_h (ok_t hso)
  have hr : b_r32 (if y < x then 1 else if x = y then 0 else -1) := by
    split
    · exact ⟨by decide, by decide⟩
    · split <;> exact ⟨by decide, by decide⟩
  have h := k p e s m args below meth c H locs lsA A ad0 ad hX hS ⟨hl, hlo, ok_c (v := bI (if y < x then 1 else if x = y then 0 else -1)) hr (ok_t (ok_t hso))⟩ hsb hG
  have hc : lg_cmp (Int64.ofInt x) (Int64.ofInt y) = Int32.ofInt (if y < x then 1 else if x = y then 0 else -1) := by
    unfold lg_cmp
    simp only [gt_iff_lt, lt64 h1 h2, eq64 h2 h1]
    split
    · rfl
    · split <;> rfl
  rw [hc]
  exact h
theorem v_if_eq {x : Int} {off : Int} {tgt : Nat} (hd : decode (bX.cc X) pc = .ok (.ifCond .eq off, 3)) (ht : (pc : Int) + off = (tgt : Int)) (kt : x = 0 → VL l E X L kn tgt ls st M G) (kf : ¬ x = 0 → VL l E X L kn (pc + 3) ls st M G) : VL l E X L kn pc ls (bI x :: st) M G := by
  intro p e s m args below meth c H locs lsA A ad0 ad hX hS hL hsb hG
  obtain ⟨hx, hb, hml, hown, hts, hret, hlk, hK, hnm, hwm⟩ := id hX
  obtain ⟨hl, hlo, hso⟩ := id hL
  have hv : b_r32 x := ok_h hso
  refine lv_if_eq hx hb hd ht (fun q => ?_) (fun q => ?_)
  · exact kt ((eq32 hv r32_0).mp q) p e s m args below meth c H locs lsA A ad0 ad hX hS ⟨hl, hlo, ok_t hso⟩ hsb hG
  · exact kf (fun z => q ((eq32 hv r32_0).mpr z)) p e s m args below meth c H locs lsA A ad0 ad hX hS ⟨hl, hlo, ok_t hso⟩ hsb hG
theorem v_if_ne {x : Int} {off : Int} {tgt : Nat} (hd : decode (bX.cc X) pc = .ok (.ifCond .ne off, 3)) (ht : (pc : Int) + off = (tgt : Int)) (kt : ¬ x = 0 → VL l E X L kn tgt ls st M G) (kf : x = 0 → VL l E X L kn (pc + 3) ls st M G) : VL l E X L kn pc ls (bI x :: st) M G := by
  intro p e s m args below meth c H locs lsA A ad0 ad hX hS hL hsb hG
  obtain ⟨hx, hb, hml, hown, hts, hret, hlk, hK, hnm, hwm⟩ := id hX
  obtain ⟨hl, hlo, hso⟩ := id hL
  have hv : b_r32 x := ok_h hso
  refine lv_if_ne hx hb hd ht (fun q => ?_) (fun q => ?_)
  · exact kt (fun z => q ((eq32 hv r32_0).mpr z)) p e s m args below meth c H locs lsA A ad0 ad hX hS ⟨hl, hlo, ok_t hso⟩ hsb hG
  · exact kf ((eq32 hv r32_0).mp q) p e s m args below meth c H locs lsA A ad0 ad hX hS ⟨hl, hlo, ok_t hso⟩ hsb hG
theorem v_if_lt {x : Int} {off : Int} {tgt : Nat} (hd : decode (bX.cc X) pc = .ok (.ifCond .lt off, 3)) (ht : (pc : Int) + off = (tgt : Int)) (kt : x < 0 → VL l E X L kn tgt ls st M G) (kf : ¬ x < 0 → VL l E X L kn (pc + 3) ls st M G) : VL l E X L kn pc ls (bI x :: st) M G := by
  intro p e s m args below meth c H locs lsA A ad0 ad hX hS hL hsb hG
  obtain ⟨hx, hb, hml, hown, hts, hret, hlk, hK, hnm, hwm⟩ := id hX
  obtain ⟨hl, hlo, hso⟩ := id hL
  have hv : b_r32 x := ok_h hso
  refine lv_if_lt hx hb hd ht (fun q => ?_) (fun q => ?_)
  · exact kt ((lt32 hv r32_0).mp q) p e s m args below meth c H locs lsA A ad0 ad hX hS ⟨hl, hlo, ok_t hso⟩ hsb hG
  · exact kf (fun z => q ((lt32 hv r32_0).mpr z)) p e s m args below meth c H locs lsA A ad0 ad hX hS ⟨hl, hlo, ok_t hso⟩ hsb hG
theorem v_if_ge {x : Int} {off : Int} {tgt : Nat} (hd : decode (bX.cc X) pc = .ok (.ifCond .ge off, 3)) (ht : (pc : Int) + off = (tgt : Int)) (kt : 0 ≤ x → VL l E X L kn tgt ls st M G) (kf : ¬ 0 ≤ x → VL l E X L kn (pc + 3) ls st M G) : VL l E X L kn pc ls (bI x :: st) M G := by
  intro p e s m args below meth c H locs lsA A ad0 ad hX hS hL hsb hG
  obtain ⟨hx, hb, hml, hown, hts, hret, hlk, hK, hnm, hwm⟩ := id hX
  obtain ⟨hl, hlo, hso⟩ := id hL
  have hv : b_r32 x := ok_h hso
  refine lv_if_ge hx hb hd ht (fun q => ?_) (fun q => ?_)
  · exact kt ((le32 r32_0 hv).mp q) p e s m args below meth c H locs lsA A ad0 ad hX hS ⟨hl, hlo, ok_t hso⟩ hsb hG
  · exact kf (fun z => q ((le32 r32_0 hv).mpr z)) p e s m args below meth c H locs lsA A ad0 ad hX hS ⟨hl, hlo, ok_t hso⟩ hsb hG
theorem v_if_gt {x : Int} {off : Int} {tgt : Nat} (hd : decode (bX.cc X) pc = .ok (.ifCond .gt off, 3)) (ht : (pc : Int) + off = (tgt : Int)) (kt : 0 < x → VL l E X L kn tgt ls st M G) (kf : ¬ 0 < x → VL l E X L kn (pc + 3) ls st M G) : VL l E X L kn pc ls (bI x :: st) M G := by
  intro p e s m args below meth c H locs lsA A ad0 ad hX hS hL hsb hG
  obtain ⟨hx, hb, hml, hown, hts, hret, hlk, hK, hnm, hwm⟩ := id hX
  obtain ⟨hl, hlo, hso⟩ := id hL
  have hv : b_r32 x := ok_h hso
  refine lv_if_gt hx hb hd ht (fun q => ?_) (fun q => ?_)
  · exact kt ((lt32 r32_0 hv).mp q) p e s m args below meth c H locs lsA A ad0 ad hX hS ⟨hl, hlo, ok_t hso⟩ hsb hG
  · exact kf (fun z => q ((lt32 r32_0 hv).mpr z)) p e s m args below meth c H locs lsA A ad0 ad hX hS ⟨hl, hlo, ok_t hso⟩ hsb hG
theorem v_if_le {x : Int} {off : Int} {tgt : Nat} (hd : decode (bX.cc X) pc = .ok (.ifCond .le off, 3)) (ht : (pc : Int) + off = (tgt : Int)) (kt : x ≤ 0 → VL l E X L kn tgt ls st M G) (kf : ¬ x ≤ 0 → VL l E X L kn (pc + 3) ls st M G) : VL l E X L kn pc ls (bI x :: st) M G := by
  intro p e s m args below meth c H locs lsA A ad0 ad hX hS hL hsb hG
  obtain ⟨hx, hb, hml, hown, hts, hret, hlk, hK, hnm, hwm⟩ := id hX
  obtain ⟨hl, hlo, hso⟩ := id hL
  have hv : b_r32 x := ok_h hso
  refine lv_if_le hx hb hd ht (fun q => ?_) (fun q => ?_)
  · exact kt ((le32 hv r32_0).mp q) p e s m args below meth c H locs lsA A ad0 ad hX hS ⟨hl, hlo, ok_t hso⟩ hsb hG
  · exact kf (fun z => q ((le32 hv r32_0).mpr z)) p e s m args below meth c H locs lsA A ad0 ad hX hS ⟨hl, hlo, ok_t hso⟩ hsb hG
theorem v_icmp_eq {x y : Int} {off : Int} {tgt : Nat} (hd : decode (bX.cc X) pc = .ok (.if_icmp .eq off, 3)) (ht : (pc : Int) + off = (tgt : Int)) (kt : x = y → VL l E X L kn tgt ls st M G) (kf : ¬ x = y → VL l E X L kn (pc + 3) ls st M G) : VL l E X L kn pc ls (bI y :: bI x :: st) M G := by
  intro p e s m args below meth c H locs lsA A ad0 ad hX hS hL hsb hG
  obtain ⟨hx, hb, hml, hown, hts, hret, hlk, hK, hnm, hwm⟩ := id hX
  obtain ⟨hl, hlo, hso⟩ := id hL
  have hw : b_r32 y := ok_h hso
  have hv : b_r32 x := ok_h (ok_t hso)
  refine lv_icmp_eq hx hb hd ht (fun q => ?_) (fun q => ?_)
  · exact kt ((eq32 hv hw).mp q) p e s m args below meth c H locs lsA A ad0 ad hX hS ⟨hl, hlo, ok_t (ok_t hso)⟩ hsb hG
  · exact kf (fun z => q ((eq32 hv hw).mpr z)) p e s m args below meth c H locs lsA A ad0 ad hX hS ⟨hl, hlo, ok_t (ok_t hso)⟩ hsb hG
theorem v_icmp_ne {x y : Int} {off : Int} {tgt : Nat} (hd : decode (bX.cc X) pc = .ok (.if_icmp .ne off, 3)) (ht : (pc : Int) + off = (tgt : Int)) (kt : ¬ x = y → VL l E X L kn tgt ls st M G) (kf : x = y → VL l E X L kn (pc + 3) ls st M G) : VL l E X L kn pc ls (bI y :: bI x :: st) M G := by
  intro p e s m args below meth c H locs lsA A ad0 ad hX hS hL hsb hG
  obtain ⟨hx, hb, hml, hown, hts, hret, hlk, hK, hnm, hwm⟩ := id hX
  obtain ⟨hl, hlo, hso⟩ := id hL
  have hw : b_r32 y := ok_h hso
  have hv : b_r32 x := ok_h (ok_t hso)
  refine lv_icmp_ne hx hb hd ht (fun q => ?_) (fun q => ?_)
  · exact kt (fun z => q ((eq32 hv hw).mpr z)) p e s m args below meth c H locs lsA A ad0 ad hX hS ⟨hl, hlo, ok_t (ok_t hso)⟩ hsb hG
  · exact kf ((eq32 hv hw).mp q) p e s m args below meth c H locs lsA A ad0 ad hX hS ⟨hl, hlo, ok_t (ok_t hso)⟩ hsb hG
theorem v_icmp_lt {x y : Int} {off : Int} {tgt : Nat} (hd : decode (bX.cc X) pc = .ok (.if_icmp .lt off, 3)) (ht : (pc : Int) + off = (tgt : Int)) (kt : x < y → VL l E X L kn tgt ls st M G) (kf : ¬ x < y → VL l E X L kn (pc + 3) ls st M G) : VL l E X L kn pc ls (bI y :: bI x :: st) M G := by
  intro p e s m args below meth c H locs lsA A ad0 ad hX hS hL hsb hG
  obtain ⟨hx, hb, hml, hown, hts, hret, hlk, hK, hnm, hwm⟩ := id hX
  obtain ⟨hl, hlo, hso⟩ := id hL
  have hw : b_r32 y := ok_h hso
  have hv : b_r32 x := ok_h (ok_t hso)
  refine lv_icmp_lt hx hb hd ht (fun q => ?_) (fun q => ?_)
  · exact kt ((lt32 hv hw).mp q) p e s m args below meth c H locs lsA A ad0 ad hX hS ⟨hl, hlo, ok_t (ok_t hso)⟩ hsb hG
  · exact kf (fun z => q ((lt32 hv hw).mpr z)) p e s m args below meth c H locs lsA A ad0 ad hX hS ⟨hl, hlo, ok_t (ok_t hso)⟩ hsb hG
theorem v_icmp_ge {x y : Int} {off : Int} {tgt : Nat} (hd : decode (bX.cc X) pc = .ok (.if_icmp .ge off, 3)) (ht : (pc : Int) + off = (tgt : Int)) (kt : y ≤ x → VL l E X L kn tgt ls st M G) (kf : ¬ y ≤ x → VL l E X L kn (pc + 3) ls st M G) : VL l E X L kn pc ls (bI y :: bI x :: st) M G := by
  intro p e s m args below meth c H locs lsA A ad0 ad hX hS hL hsb hG
  obtain ⟨hx, hb, hml, hown, hts, hret, hlk, hK, hnm, hwm⟩ := id hX
  obtain ⟨hl, hlo, hso⟩ := id hL
  have hw : b_r32 y := ok_h hso
  have hv : b_r32 x := ok_h (ok_t hso)
  refine lv_icmp_ge hx hb hd ht (fun q => ?_) (fun q => ?_)
  · exact kt ((le32 hw hv).mp q) p e s m args below meth c H locs lsA A ad0 ad hX hS ⟨hl, hlo, ok_t (ok_t hso)⟩ hsb hG
  · exact kf (fun z => q ((le32 hw hv).mpr z)) p e s m args below meth c H locs lsA A ad0 ad hX hS ⟨hl, hlo, ok_t (ok_t hso)⟩ hsb hG
theorem v_icmp_gt {x y : Int} {off : Int} {tgt : Nat} (hd : decode (bX.cc X) pc = .ok (.if_icmp .gt off, 3)) (ht : (pc : Int) + off = (tgt : Int)) (kt : y < x → VL l E X L kn tgt ls st M G) (kf : ¬ y < x → VL l E X L kn (pc + 3) ls st M G) : VL l E X L kn pc ls (bI y :: bI x :: st) M G := by
  intro p e s m args below meth c H locs lsA A ad0 ad hX hS hL hsb hG
  obtain ⟨hx, hb, hml, hown, hts, hret, hlk, hK, hnm, hwm⟩ := id hX
  obtain ⟨hl, hlo, hso⟩ := id hL
  have hw : b_r32 y := ok_h hso
  have hv : b_r32 x := ok_h (ok_t hso)
  refine lv_icmp_gt hx hb hd ht (fun q => ?_) (fun q => ?_)
  · exact kt ((lt32 hw hv).mp q) p e s m args below meth c H locs lsA A ad0 ad hX hS ⟨hl, hlo, ok_t (ok_t hso)⟩ hsb hG
  · exact kf (fun z => q ((lt32 hw hv).mpr z)) p e s m args below meth c H locs lsA A ad0 ad hX hS ⟨hl, hlo, ok_t (ok_t hso)⟩ hsb hG
theorem v_icmp_le {x y : Int} {off : Int} {tgt : Nat} (hd : decode (bX.cc X) pc = .ok (.if_icmp .le off, 3)) (ht : (pc : Int) + off = (tgt : Int)) (kt : x ≤ y → VL l E X L kn tgt ls st M G) (kf : ¬ x ≤ y → VL l E X L kn (pc + 3) ls st M G) : VL l E X L kn pc ls (bI y :: bI x :: st) M G := by
  intro p e s m args below meth c H locs lsA A ad0 ad hX hS hL hsb hG
  obtain ⟨hx, hb, hml, hown, hts, hret, hlk, hK, hnm, hwm⟩ := id hX
  obtain ⟨hl, hlo, hso⟩ := id hL
  have hw : b_r32 y := ok_h hso
  have hv : b_r32 x := ok_h (ok_t hso)
  refine lv_icmp_le hx hb hd ht (fun q => ?_) (fun q => ?_)
  · exact kt ((le32 hv hw).mp q) p e s m args below meth c H locs lsA A ad0 ad hX hS ⟨hl, hlo, ok_t (ok_t hso)⟩ hsb hG
  · exact kf (fun z => q ((le32 hv hw).mpr z)) p e s m args below meth c H locs lsA A ad0 ad hX hS ⟨hl, hlo, ok_t (ok_t hso)⟩ hsb hG
theorem v_goto {off : Int} {tgt : Nat} (hd : decode (bX.cc X) pc = .ok (.goto off, 3)) (ht : (pc : Int) + off = (tgt : Int)) (k : VL l E X L kn tgt ls st M G) : VL l E X L kn pc ls (st) M G := by
  intro p e s m args below meth c H locs lsA A ad0 ad hX hS hL hsb hG
  obtain ⟨hx, hb, hml, hown, hts, hret, hlk, hK, hnm, hwm⟩ := id hX
  obtain ⟨hl, hlo, hso⟩ := id hL
  refine lv_goto hx hb hd ht ?_
  exact k p e s m args below meth c H locs lsA A ad0 ad hX hS hL hsb hG
theorem v_tsOut {x dflt lo hi : Int} {offs : Array Int} {len tgt : Nat} (h : x < lo ∨ hi < x) (hd : decode (bX.cc X) pc = .ok (.tableswitch dflt lo hi offs, len)) (ht : (pc : Int) + dflt = (tgt : Int)) (k : VL l E X L kn tgt ls st M G) : VL l E X L kn pc ls (bI x :: st) M G := by
  intro p e s m args below meth c H locs lsA A ad0 ad hX hS hL hsb hG
  obtain ⟨hx, hb, hml, hown, hts, hret, hlk, hK, hnm, hwm⟩ := id hX
  obtain ⟨hl, hlo, hso⟩ := id hL
  refine lv_tableOut hx hb hd (by rw [to32 (ok_h hso)]; exact h) ht ?_
  exact k p e s m args below meth c H locs lsA A ad0 ad hX hS ⟨hl, hlo, ok_t hso⟩ hsb hG
theorem v_tsIn {x dflt lo hi off : Int} {offs : Array Int} {len tgt : Nat} (v : Int) (h : x = v) (h1 : ¬ v < lo) (h2 : ¬ hi < v) (ho : offs[(v - lo).toNat]? = some off) (hd : decode (bX.cc X) pc = .ok (.tableswitch dflt lo hi offs, len)) (ht : (pc : Int) + off = (tgt : Int)) (k : VL l E X L kn tgt ls st M G) : VL l E X L kn pc ls (bI x :: st) M G := by
  intro p e s m args below meth c H locs lsA A ad0 ad hX hS hL hsb hG
  obtain ⟨hx, hb, hml, hown, hts, hret, hlk, hK, hnm, hwm⟩ := id hX
  obtain ⟨hl, hlo, hso⟩ := id hL
  subst h
  refine lv_tableIn hx hb hd (by rw [to32 (ok_h hso)]; exact h1) (by rw [to32 (ok_h hso)]; exact h2) (by rw [to32 (ok_h hso)]; exact ho) ht ?_
  exact k p e s m args below meth c H locs lsA A ad0 ad hX hS ⟨hl, hlo, ok_t hso⟩ hsb hG
theorem g_iaload {c0 n z : Nat} {i : Int} (hm : c0 ∈ L) (hk : b_kd c0 = (1, n, z)) (hi : 0 ≤ i ∧ i < n) (hn : n < 2147483648) (hd : decode (bX.cc X) pc = .ok (.iaload, 1)) (k : VL l E X L kn (pc + 1) ls (bI (M c0 i) :: st) M G) : VL l E X L kn pc ls (bI i :: bR c0 :: st) M G := by
  intro p e s m args below meth c H locs lsA A ad0 ad hX hS hL hsb hG
  obtain ⟨hx, hb, hml, hown, hts, hret, hlk, hK, hnm, hwm⟩ := id hX
  obtain ⟨hl, hlo, hso⟩ := id hL
  obtain ⟨hP, hD, hRg, hva, hA⟩ := id hS
  have hc : c0 < b_NC := b_lt hk (by simp)
  obtain ⟨q0, hq0⟩ := List.getElem?_of_mem hm
  have hat := b_at (E := E) (ad := ad) (M := M) hq0
  have hel : b_el E ad M c0 = .inl (E.2.1 1, n, .inl (fun i => Int32.ofInt (M c0 i))) := by simp only [b_el, hk]
  rw [hel] at hat
  obtain ⟨hin, hcl⟩ := nat32 hi hn
  refine va_iald hx hb hK hP q0 0 hat rfl hin hd ?_
  have hg := hRg.1.1 c0 i
  rw [show b_lg c0 i = false by simp only [b_lg, hk]] at hg
  have h := k p e s m args below meth c H locs lsA A ad0 ad hX hS ⟨hl, hlo, ok_c (v := bI (M c0 i)) (by simpa using hg : b_r32 _) (ok_t (ok_t hso))⟩ hsb hG
  rw [hcl, show ((i.toNat : Nat) : Int) = i from Int.toNat_of_nonneg hi.1]
  exact h
theorem v_iaload {c0 n z : Nat} {i : Int} (hk : b_kd c0 = (1, n, z)) (hi : 0 ≤ i ∧ i < n) (hn : n < 2147483648) (hd : decode (bX.cc X) pc = .ok (.iaload, 1)) (k : VL l E X b_full kn (pc + 1) ls (bI (M c0 i) :: st) M G) : VL l E X b_full kn pc ls (bI i :: bR c0 :: st) M G := g_iaload (b_in hk (by simp)) hk hi hn hd k
theorem g_baload {c0 n z : Nat} {i : Int} (hm : c0 ∈ L) (hk : b_kd c0 = (2, n, z)) (hi : 0 ≤ i ∧ i < n) (hn : n < 2147483648) (hd : decode (bX.cc X) pc = .ok (.baload, 1)) (k : VL l E X L kn (pc + 1) ls (bI (M c0 i) :: st) M G) : VL l E X L kn pc ls (bI i :: bR c0 :: st) M G := by
  intro p e s m args below meth c H locs lsA A ad0 ad hX hS hL hsb hG
  obtain ⟨hx, hb, hml, hown, hts, hret, hlk, hK, hnm, hwm⟩ := id hX
  obtain ⟨hl, hlo, hso⟩ := id hL
  obtain ⟨hP, hD, hRg, hva, hA⟩ := id hS
  have hc : c0 < b_NC := b_lt hk (by simp)
  obtain ⟨q0, hq0⟩ := List.getElem?_of_mem hm
  have hat := b_at (E := E) (ad := ad) (M := M) hq0
  have hel : b_el E ad M c0 = .inl (E.2.1 2, n, .inl (fun i => Int32.ofInt (M c0 i))) := by simp only [b_el, hk]
  rw [hel] at hat
  obtain ⟨hin, hcl⟩ := nat32 hi hn
  refine va_bald hx hb hK hP q0 1 hat rfl hin hd ?_
  have hg := hRg.1.1 c0 i
  rw [show b_lg c0 i = false by simp only [b_lg, hk]] at hg
  have h := k p e s m args below meth c H locs lsA A ad0 ad hX hS ⟨hl, hlo, ok_c (v := bI (M c0 i)) (by simpa using hg : b_r32 _) (ok_t (ok_t hso))⟩ hsb hG
  rw [hcl, show ((i.toNat : Nat) : Int) = i from Int.toNat_of_nonneg hi.1]
  exact h
theorem v_baload {c0 n z : Nat} {i : Int} (hk : b_kd c0 = (2, n, z)) (hi : 0 ≤ i ∧ i < n) (hn : n < 2147483648) (hd : decode (bX.cc X) pc = .ok (.baload, 1)) (k : VL l E X b_full kn (pc + 1) ls (bI (M c0 i) :: st) M G) : VL l E X b_full kn pc ls (bI i :: bR c0 :: st) M G := g_baload (b_in hk (by simp)) hk hi hn hd k
theorem g_zaload {c0 n z : Nat} {i : Int} (hm : c0 ∈ L) (hk : b_kd c0 = (3, n, z)) (hi : 0 ≤ i ∧ i < n) (hn : n < 2147483648) (hd : decode (bX.cc X) pc = .ok (.baload, 1)) (k : VL l E X L kn (pc + 1) ls (bI (M c0 i) :: st) M G) : VL l E X L kn pc ls (bI i :: bR c0 :: st) M G := by
  intro p e s m args below meth c H locs lsA A ad0 ad hX hS hL hsb hG
  obtain ⟨hx, hb, hml, hown, hts, hret, hlk, hK, hnm, hwm⟩ := id hX
  obtain ⟨hl, hlo, hso⟩ := id hL
  obtain ⟨hP, hD, hRg, hva, hA⟩ := id hS
  have hc : c0 < b_NC := b_lt hk (by simp)
  obtain ⟨q0, hq0⟩ := List.getElem?_of_mem hm
  have hat := b_at (E := E) (ad := ad) (M := M) hq0
  have hel : b_el E ad M c0 = .inl (E.2.1 3, n, .inl (fun i => Int32.ofInt (M c0 i))) := by simp only [b_el, hk]
  rw [hel] at hat
  obtain ⟨hin, hcl⟩ := nat32 hi hn
  refine va_zald hx hb hK hP q0 2 hat rfl hin hd ?_
  have hg := hRg.1.1 c0 i
  rw [show b_lg c0 i = false by simp only [b_lg, hk]] at hg
  have h := k p e s m args below meth c H locs lsA A ad0 ad hX hS ⟨hl, hlo, ok_c (v := bI (M c0 i)) (by simpa using hg : b_r32 _) (ok_t (ok_t hso))⟩ hsb hG
  rw [hcl, show ((i.toNat : Nat) : Int) = i from Int.toNat_of_nonneg hi.1]
  exact h
theorem v_zaload {c0 n z : Nat} {i : Int} (hk : b_kd c0 = (3, n, z)) (hi : 0 ≤ i ∧ i < n) (hn : n < 2147483648) (hd : decode (bX.cc X) pc = .ok (.baload, 1)) (k : VL l E X b_full kn (pc + 1) ls (bI (M c0 i) :: st) M G) : VL l E X b_full kn pc ls (bI i :: bR c0 :: st) M G := g_zaload (b_in hk (by simp)) hk hi hn hd k
theorem g_laload {c0 n z : Nat} {i : Int} (hm : c0 ∈ L) (hk : b_kd c0 = (4, n, z)) (hi : 0 ≤ i ∧ i < n) (hn : n < 2147483648) (hd : decode (bX.cc X) pc = .ok (.laload, 1)) (k : VL l E X L kn (pc + 1) ls (bJ (M c0 i) :: st) M G) : VL l E X L kn pc ls (bI i :: bR c0 :: st) M G := by
  intro p e s m args below meth c H locs lsA A ad0 ad hX hS hL hsb hG
  obtain ⟨hx, hb, hml, hown, hts, hret, hlk, hK, hnm, hwm⟩ := id hX
  obtain ⟨hl, hlo, hso⟩ := id hL
  obtain ⟨hP, hD, hRg, hva, hA⟩ := id hS
  have hc : c0 < b_NC := b_lt hk (by simp)
  obtain ⟨q0, hq0⟩ := List.getElem?_of_mem hm
  have hat := b_at (E := E) (ad := ad) (M := M) hq0
  have hel : b_el E ad M c0 = .inl (E.2.1 4, n, .inr (.inl (fun i => Int64.ofInt (M c0 i)))) := by simp only [b_el, hk]
  rw [hel] at hat
  obtain ⟨hin, hcl⟩ := nat32 hi hn
  refine va_lald hx hb hK hP q0 3 hat rfl hin hd ?_
  have hg := hRg.1.1 c0 i
  rw [show b_lg c0 i = true by simp only [b_lg, hk]] at hg
  have h := k p e s m args below meth c H locs lsA A ad0 ad hX hS ⟨hl, hlo, ok_c (v := bJ (M c0 i)) (by simpa using hg : b_r64 _) (ok_t (ok_t hso))⟩ hsb hG
  rw [hcl, show ((i.toNat : Nat) : Int) = i from Int.toNat_of_nonneg hi.1]
  exact h
theorem v_laload {c0 n z : Nat} {i : Int} (hk : b_kd c0 = (4, n, z)) (hi : 0 ≤ i ∧ i < n) (hn : n < 2147483648) (hd : decode (bX.cc X) pc = .ok (.laload, 1)) (k : VL l E X b_full kn (pc + 1) ls (bJ (M c0 i) :: st) M G) : VL l E X b_full kn pc ls (bI i :: bR c0 :: st) M G := g_laload (b_in hk (by simp)) hk hi hn hd k
theorem g_iastore {c0 n z : Nat} {i x : Int} (hm : c0 ∈ L) (hk : b_kd c0 = (1, n, z)) (hi : 0 ≤ i ∧ i < n) (hn : n < 2147483648) (hd : decode (bX.cc X) pc = .ok (.iastore, 1)) (k : VL l E X L kn (pc + 1) ls st (b_up M c0 i x) G) : VL l E X L kn pc ls (bI x :: bI i :: bR c0 :: st) M G := by
  intro p e s m args below meth c H locs lsA A ad0 ad hX hS hL hsb hG
  obtain ⟨hx, hb, hml, hown, hts, hret, hlk, hK, hnm, hwm⟩ := id hX
  obtain ⟨hl, hlo, hso⟩ := id hL
  obtain ⟨hP, hD, hRg, hva, hA⟩ := id hS
  have hc : c0 < b_NC := b_lt hk (by simp)
  obtain ⟨q0, hq0⟩ := List.getElem?_of_mem hm
  have hat := b_at (E := E) (ad := ad) (M := M) hq0
  have hel : b_el E ad M c0 = .inl (E.2.1 1, n, .inl (fun i => Int32.ofInt (M c0 i))) := by simp only [b_el, hk]
  rw [hel] at hat
  obtain ⟨hin, hcl⟩ := nat32 hi hn
  have hlg : b_lg c0 i = false := by simp only [b_lg, hk]
  refine va_iast hx hb hK hP (b_Dv hD) hva q0 0 hat rfl hin hd (fun H1 locs1 hP1 hD1 hS1 => ?_)
  have hset := b_ws_set (E := E) (M := M) (c := c0) (i := i) (x := x) hD hq0 hc rfl
  have hnew : b_el E ad (b_up M c0 i x) c0 = .inl (E.2.1 1, n, .inl (upd (fun i => Int32.ofInt (M c0 i)) (Int32.ofInt i).toNatClampNeg (Int32.ofInt x))) := by
    simp only [b_el, hk]
    simp only [Sum.inl.injEq, Prod.mk.injEq, true_and, Sum.inr.injEq]
    funext j
    unfold b_up upd
    rw [hcl]
    by_cases q : j = i.toNat
    · have q2 : (j : Int) = i := by omega
      rw [if_pos ⟨rfl, q2⟩, if_pos q]
    · have q2 : ¬ (j : Int) = i := by omega
      rw [if_neg (fun h => q2 h.2), if_neg q]
  rw [hnew] at hset
  rw [hset] at hP1
  exact k p e s m args below meth c H1 locs1 lsA A ad0 ad hX ⟨hP1, hD, b_Rg_up hRg hc (by rw [hlg]; exact ok_h hso) (by simp only [b_rf, hk]), hS1, hA⟩ ⟨hl, hlo, ok_t (ok_t (ok_t hso))⟩ hsb hG
theorem v_iastore {c0 n z : Nat} {i x : Int} (hk : b_kd c0 = (1, n, z)) (hi : 0 ≤ i ∧ i < n) (hn : n < 2147483648) (hd : decode (bX.cc X) pc = .ok (.iastore, 1)) (k : VL l E X b_full kn (pc + 1) ls st (b_up M c0 i x) G) : VL l E X b_full kn pc ls (bI x :: bI i :: bR c0 :: st) M G := g_iastore (b_in hk (by simp)) hk hi hn hd k
theorem g_lastore {c0 n z : Nat} {i x : Int} (hm : c0 ∈ L) (hk : b_kd c0 = (4, n, z)) (hi : 0 ≤ i ∧ i < n) (hn : n < 2147483648) (hd : decode (bX.cc X) pc = .ok (.lastore, 1)) (k : VL l E X L kn (pc + 1) ls st (b_up M c0 i x) G) : VL l E X L kn pc ls (bJ x :: bI i :: bR c0 :: st) M G := by
  intro p e s m args below meth c H locs lsA A ad0 ad hX hS hL hsb hG
  obtain ⟨hx, hb, hml, hown, hts, hret, hlk, hK, hnm, hwm⟩ := id hX
  obtain ⟨hl, hlo, hso⟩ := id hL
  obtain ⟨hP, hD, hRg, hva, hA⟩ := id hS
  have hc : c0 < b_NC := b_lt hk (by simp)
  obtain ⟨q0, hq0⟩ := List.getElem?_of_mem hm
  have hat := b_at (E := E) (ad := ad) (M := M) hq0
  have hel : b_el E ad M c0 = .inl (E.2.1 4, n, .inr (.inl (fun i => Int64.ofInt (M c0 i)))) := by simp only [b_el, hk]
  rw [hel] at hat
  obtain ⟨hin, hcl⟩ := nat32 hi hn
  have hlg : b_lg c0 i = true := by simp only [b_lg, hk]
  refine va_last hx hb hK hP (b_Dv hD) hva q0 3 hat rfl hin hd (fun H1 locs1 hP1 hD1 hS1 => ?_)
  have hset := b_ws_set (E := E) (M := M) (c := c0) (i := i) (x := x) hD hq0 hc rfl
  have hnew : b_el E ad (b_up M c0 i x) c0 = .inl (E.2.1 4, n, .inr (.inl (vp_updL (fun i => Int64.ofInt (M c0 i)) (Int32.ofInt i).toNatClampNeg (Int64.ofInt x)))) := by
    simp only [b_el, hk]
    simp only [Sum.inl.injEq, Prod.mk.injEq, true_and, Sum.inr.injEq]
    funext j
    unfold b_up vp_updL
    rw [hcl]
    by_cases q : j = i.toNat
    · have q2 : (j : Int) = i := by omega
      rw [if_pos ⟨rfl, q2⟩, if_pos q]
    · have q2 : ¬ (j : Int) = i := by omega
      rw [if_neg (fun h => q2 h.2), if_neg q]
  rw [hnew] at hset
  rw [hset] at hP1
  exact k p e s m args below meth c H1 locs1 lsA A ad0 ad hX ⟨hP1, hD, b_Rg_up hRg hc (by rw [hlg]; exact ok_h hso) (by simp only [b_rf, hk]), hS1, hA⟩ ⟨hl, hlo, ok_t (ok_t (ok_t hso))⟩ hsb hG
theorem v_lastore {c0 n z : Nat} {i x : Int} (hk : b_kd c0 = (4, n, z)) (hi : 0 ≤ i ∧ i < n) (hn : n < 2147483648) (hd : decode (bX.cc X) pc = .ok (.lastore, 1)) (k : VL l E X b_full kn (pc + 1) ls st (b_up M c0 i x) G) : VL l E X b_full kn pc ls (bJ x :: bI i :: bR c0 :: st) M G := g_lastore (b_in hk (by simp)) hk hi hn hd k
theorem g_bastore {c0 n z : Nat} {i x : Int} (hm : c0 ∈ L) (hk : b_kd c0 = (2, n, z)) (hi : 0 ≤ i ∧ i < n) (hn : n < 2147483648) (hz : vp_nar .byte (Int32.ofInt x) = Int32.ofInt x) (hd : decode (bX.cc X) pc = .ok (.bastore, 1)) (k : VL l E X L kn (pc + 1) ls st (b_up M c0 i x) G) : VL l E X L kn pc ls (bI x :: bI i :: bR c0 :: st) M G := by
  intro p e s m args below meth c H locs lsA A ad0 ad hX hS hL hsb hG
  obtain ⟨hx, hb, hml, hown, hts, hret, hlk, hK, hnm, hwm⟩ := id hX
  obtain ⟨hl, hlo, hso⟩ := id hL
  obtain ⟨hP, hD, hRg, hva, hA⟩ := id hS
  have hc : c0 < b_NC := b_lt hk (by simp)
  obtain ⟨q0, hq0⟩ := List.getElem?_of_mem hm
  have hat := b_at (E := E) (ad := ad) (M := M) hq0
  have hel : b_el E ad M c0 = .inl (E.2.1 2, n, .inl (fun i => Int32.ofInt (M c0 i))) := by simp only [b_el, hk]
  rw [hel] at hat
  obtain ⟨hin, hcl⟩ := nat32 hi hn
  have hlg : b_lg c0 i = false := by simp only [b_lg, hk]
  refine va_bast hx hb hK hP (b_Dv hD) hva q0 1 hat rfl hin hd (fun H1 locs1 hP1 hD1 hS1 => ?_)
  have hset := b_ws_set (E := E) (M := M) (c := c0) (i := i) (x := x) hD hq0 hc rfl
  have hnew : b_el E ad (b_up M c0 i x) c0 = .inl (E.2.1 2, n, .inl (upd (fun i => Int32.ofInt (M c0 i)) (Int32.ofInt i).toNatClampNeg (vp_nar .byte (Int32.ofInt x)))) := by
    simp only [b_el, hk]
    simp only [Sum.inl.injEq, Prod.mk.injEq, true_and, Sum.inr.injEq]
    funext j
    unfold b_up upd
    rw [hcl, hz]
    by_cases q : j = i.toNat
    · have q2 : (j : Int) = i := by omega
      rw [if_pos ⟨rfl, q2⟩, if_pos q]
    · have q2 : ¬ (j : Int) = i := by omega
      rw [if_neg (fun h => q2 h.2), if_neg q]
  rw [hnew] at hset
  rw [hset] at hP1
  exact k p e s m args below meth c H1 locs1 lsA A ad0 ad hX ⟨hP1, hD, b_Rg_up hRg hc (by rw [hlg]; exact ok_h hso) (by simp only [b_rf, hk]), hS1, hA⟩ ⟨hl, hlo, ok_t (ok_t (ok_t hso))⟩ hsb hG
theorem v_bastore {c0 n z : Nat} {i x : Int} (hk : b_kd c0 = (2, n, z)) (hi : 0 ≤ i ∧ i < n) (hn : n < 2147483648) (hz : vp_nar .byte (Int32.ofInt x) = Int32.ofInt x) (hd : decode (bX.cc X) pc = .ok (.bastore, 1)) (k : VL l E X b_full kn (pc + 1) ls st (b_up M c0 i x) G) : VL l E X b_full kn pc ls (bI x :: bI i :: bR c0 :: st) M G := g_bastore (b_in hk (by simp)) hk hi hn hz hd k
theorem g_zastore {c0 n z : Nat} {i x : Int} (hm : c0 ∈ L) (hk : b_kd c0 = (3, n, z)) (hi : 0 ≤ i ∧ i < n) (hn : n < 2147483648) (hz : vp_nar .boolean (Int32.ofInt x) = Int32.ofInt x) (hd : decode (bX.cc X) pc = .ok (.bastore, 1)) (k : VL l E X L kn (pc + 1) ls st (b_up M c0 i x) G) : VL l E X L kn pc ls (bI x :: bI i :: bR c0 :: st) M G := by
  intro p e s m args below meth c H locs lsA A ad0 ad hX hS hL hsb hG
  obtain ⟨hx, hb, hml, hown, hts, hret, hlk, hK, hnm, hwm⟩ := id hX
  obtain ⟨hl, hlo, hso⟩ := id hL
  obtain ⟨hP, hD, hRg, hva, hA⟩ := id hS
  have hc : c0 < b_NC := b_lt hk (by simp)
  obtain ⟨q0, hq0⟩ := List.getElem?_of_mem hm
  have hat := b_at (E := E) (ad := ad) (M := M) hq0
  have hel : b_el E ad M c0 = .inl (E.2.1 3, n, .inl (fun i => Int32.ofInt (M c0 i))) := by simp only [b_el, hk]
  rw [hel] at hat
  obtain ⟨hin, hcl⟩ := nat32 hi hn
  have hlg : b_lg c0 i = false := by simp only [b_lg, hk]
  refine va_zast hx hb hK hP (b_Dv hD) hva q0 2 hat rfl hin hd (fun H1 locs1 hP1 hD1 hS1 => ?_)
  have hset := b_ws_set (E := E) (M := M) (c := c0) (i := i) (x := x) hD hq0 hc rfl
  have hnew : b_el E ad (b_up M c0 i x) c0 = .inl (E.2.1 3, n, .inl (upd (fun i => Int32.ofInt (M c0 i)) (Int32.ofInt i).toNatClampNeg (vp_nar .boolean (Int32.ofInt x)))) := by
    simp only [b_el, hk]
    simp only [Sum.inl.injEq, Prod.mk.injEq, true_and, Sum.inr.injEq]
    funext j
    unfold b_up upd
    rw [hcl, hz]
    by_cases q : j = i.toNat
    · have q2 : (j : Int) = i := by omega
      rw [if_pos ⟨rfl, q2⟩, if_pos q]
    · have q2 : ¬ (j : Int) = i := by omega
      rw [if_neg (fun h => q2 h.2), if_neg q]
  rw [hnew] at hset
  rw [hset] at hP1
  exact k p e s m args below meth c H1 locs1 lsA A ad0 ad hX ⟨hP1, hD, b_Rg_up hRg hc (by rw [hlg]; exact ok_h hso) (by simp only [b_rf, hk]), hS1, hA⟩ ⟨hl, hlo, ok_t (ok_t (ok_t hso))⟩ hsb hG
theorem v_zastore {c0 n z : Nat} {i x : Int} (hk : b_kd c0 = (3, n, z)) (hi : 0 ≤ i ∧ i < n) (hn : n < 2147483648) (hz : vp_nar .boolean (Int32.ofInt x) = Int32.ofInt x) (hd : decode (bX.cc X) pc = .ok (.bastore, 1)) (k : VL l E X b_full kn (pc + 1) ls st (b_up M c0 i x) G) : VL l E X b_full kn pc ls (bI x :: bI i :: bR c0 :: st) M G := g_zastore (b_in hk (by simp)) hk hi hn hz hd k
theorem g_laloadG {c0 : Nat} {i : Int} (hm : c0 ∈ L) (hk : b_kd c0 = (6, 0, 0)) (hi : 0 ≤ i ∧ i < M b_G c0) (hd : decode (bX.cc X) pc = .ok (.laload, 1)) (k : VL l E X L kn (pc + 1) ls (bJ (M c0 i) :: st) M G) : VL l E X L kn pc ls (bI i :: bR c0 :: st) M G := by
  intro p e s m args below meth c H locs lsA A ad0 ad hX hS hL hsb hG
  obtain ⟨hx, hb, hml, hown, hts, hret, hlk, hK, hnm, hwm⟩ := id hX
  obtain ⟨hl, hlo, hso⟩ := id hL
  obtain ⟨hP, hD, hRg, hva, hA⟩ := id hS
  have hc : c0 < b_NC := b_lt hk (by simp)
  obtain ⟨q0, hq0⟩ := List.getElem?_of_mem hm
  have hat := b_at (E := E) (ad := ad) (M := M) hq0
  have hel : b_el E ad M c0 = .inl (E.2.1 4, (M b_G c0).toNat, .inr (.inl (fun i => Int64.ofInt (M c0 i)))) := by simp only [b_el, hk]
  rw [hel] at hat
  have hgr := hRg.1.1 b_G c0
  rw [show b_lg b_G c0 = false from rfl] at hgr
  have hgr : b_r32 (M b_G c0) := by simpa using hgr
  obtain ⟨hin, hcl⟩ := nat32 (n := (M b_G c0).toNat) (i := i) ⟨hi.1, by rw [Int.toNat_of_nonneg (hRg.1.2 c0)]; exact hi.2⟩ (by have := hgr.2; have := hRg.1.2 c0; omega)
  refine va_lald hx hb hK hP q0 3 hat rfl hin hd ?_
  have hg := hRg.1.1 c0 i
  rw [show b_lg c0 i = true by simp only [b_lg, hk]] at hg
  have h := k p e s m args below meth c H locs lsA A ad0 ad hX hS ⟨hl, hlo, ok_c (v := bJ (M c0 i)) (by simpa using hg : b_r64 _) (ok_t (ok_t hso))⟩ hsb hG
  rw [hcl, show ((i.toNat : Nat) : Int) = i from Int.toNat_of_nonneg hi.1]
  exact h
theorem v_laloadG {c0 : Nat} {i : Int} (hk : b_kd c0 = (6, 0, 0)) (hi : 0 ≤ i ∧ i < M b_G c0) (hd : decode (bX.cc X) pc = .ok (.laload, 1)) (k : VL l E X b_full kn (pc + 1) ls (bJ (M c0 i) :: st) M G) : VL l E X b_full kn pc ls (bI i :: bR c0 :: st) M G := g_laloadG (b_in hk (by simp)) hk hi hd k
theorem g_alen1 {c0 n z : Nat} (hm : c0 ∈ L) (hk : b_kd c0 = (1, n, z)) (hn : n < 2147483648) (hd : decode (bX.cc X) pc = .ok (.arraylength, 1)) (k : VL l E X L kn (pc + 1) ls (bI n :: st) M G) : VL l E X L kn pc ls (bR c0 :: st) M G := by
  intro p e s m args below meth c H locs lsA A ad0 ad hX hS hL hsb hG
  obtain ⟨hx, hb, hml, hown, hts, hret, hlk, hK, hnm, hwm⟩ := id hX
  obtain ⟨hl, hlo, hso⟩ := id hL
  obtain ⟨hP, hD, hRg, hva, hA⟩ := id hS
  have hc : c0 < b_NC := b_lt hk (by simp)
  obtain ⟨q0, hq0⟩ := List.getElem?_of_mem hm
  have hat := b_at (E := E) (ad := ad) (M := M) hq0
  have hel : b_el E ad M c0 = .inl (E.2.1 1, n, .inl (fun i => Int32.ofInt (M c0 i))) := by simp only [b_el, hk]
  rw [hel] at hat
  refine va_alen hx hb hK hP q0 0 hat rfl (v := Int32.ofInt n) rfl hd ?_
  exact k p e s m args below meth c H locs lsA A ad0 ad hX hS ⟨hl, hlo, ok_c (v := bI n) (show b_r32 n from ⟨by omega, by omega⟩) (ok_t hso)⟩ hsb hG
theorem v_alen1 {c0 n z : Nat} (hk : b_kd c0 = (1, n, z)) (hn : n < 2147483648) (hd : decode (bX.cc X) pc = .ok (.arraylength, 1)) (k : VL l E X b_full kn (pc + 1) ls (bI n :: st) M G) : VL l E X b_full kn pc ls (bR c0 :: st) M G := g_alen1 (b_in hk (by simp)) hk hn hd k
theorem g_alen2 {c0 n z : Nat} (hm : c0 ∈ L) (hk : b_kd c0 = (2, n, z)) (hn : n < 2147483648) (hd : decode (bX.cc X) pc = .ok (.arraylength, 1)) (k : VL l E X L kn (pc + 1) ls (bI n :: st) M G) : VL l E X L kn pc ls (bR c0 :: st) M G := by
  intro p e s m args below meth c H locs lsA A ad0 ad hX hS hL hsb hG
  obtain ⟨hx, hb, hml, hown, hts, hret, hlk, hK, hnm, hwm⟩ := id hX
  obtain ⟨hl, hlo, hso⟩ := id hL
  obtain ⟨hP, hD, hRg, hva, hA⟩ := id hS
  have hc : c0 < b_NC := b_lt hk (by simp)
  obtain ⟨q0, hq0⟩ := List.getElem?_of_mem hm
  have hat := b_at (E := E) (ad := ad) (M := M) hq0
  have hel : b_el E ad M c0 = .inl (E.2.1 2, n, .inl (fun i => Int32.ofInt (M c0 i))) := by simp only [b_el, hk]
  rw [hel] at hat
  refine va_alen hx hb hK hP q0 1 hat rfl (v := Int32.ofInt n) rfl hd ?_
  exact k p e s m args below meth c H locs lsA A ad0 ad hX hS ⟨hl, hlo, ok_c (v := bI n) (show b_r32 n from ⟨by omega, by omega⟩) (ok_t hso)⟩ hsb hG
theorem v_alen2 {c0 n z : Nat} (hk : b_kd c0 = (2, n, z)) (hn : n < 2147483648) (hd : decode (bX.cc X) pc = .ok (.arraylength, 1)) (k : VL l E X b_full kn (pc + 1) ls (bI n :: st) M G) : VL l E X b_full kn pc ls (bR c0 :: st) M G := g_alen2 (b_in hk (by simp)) hk hn hd k
theorem g_alen3 {c0 n z : Nat} (hm : c0 ∈ L) (hk : b_kd c0 = (3, n, z)) (hn : n < 2147483648) (hd : decode (bX.cc X) pc = .ok (.arraylength, 1)) (k : VL l E X L kn (pc + 1) ls (bI n :: st) M G) : VL l E X L kn pc ls (bR c0 :: st) M G := by
  intro p e s m args below meth c H locs lsA A ad0 ad hX hS hL hsb hG
  obtain ⟨hx, hb, hml, hown, hts, hret, hlk, hK, hnm, hwm⟩ := id hX
  obtain ⟨hl, hlo, hso⟩ := id hL
  obtain ⟨hP, hD, hRg, hva, hA⟩ := id hS
  have hc : c0 < b_NC := b_lt hk (by simp)
  obtain ⟨q0, hq0⟩ := List.getElem?_of_mem hm
  have hat := b_at (E := E) (ad := ad) (M := M) hq0
  have hel : b_el E ad M c0 = .inl (E.2.1 3, n, .inl (fun i => Int32.ofInt (M c0 i))) := by simp only [b_el, hk]
  rw [hel] at hat
  refine va_alen hx hb hK hP q0 2 hat rfl (v := Int32.ofInt n) rfl hd ?_
  exact k p e s m args below meth c H locs lsA A ad0 ad hX hS ⟨hl, hlo, ok_c (v := bI n) (show b_r32 n from ⟨by omega, by omega⟩) (ok_t hso)⟩ hsb hG
theorem v_alen3 {c0 n z : Nat} (hk : b_kd c0 = (3, n, z)) (hn : n < 2147483648) (hd : decode (bX.cc X) pc = .ok (.arraylength, 1)) (k : VL l E X b_full kn (pc + 1) ls (bI n :: st) M G) : VL l E X b_full kn pc ls (bR c0 :: st) M G := g_alen3 (b_in hk (by simp)) hk hn hd k
theorem g_alen4 {c0 n z : Nat} (hm : c0 ∈ L) (hk : b_kd c0 = (4, n, z)) (hn : n < 2147483648) (hd : decode (bX.cc X) pc = .ok (.arraylength, 1)) (k : VL l E X L kn (pc + 1) ls (bI n :: st) M G) : VL l E X L kn pc ls (bR c0 :: st) M G := by
  intro p e s m args below meth c H locs lsA A ad0 ad hX hS hL hsb hG
  obtain ⟨hx, hb, hml, hown, hts, hret, hlk, hK, hnm, hwm⟩ := id hX
  obtain ⟨hl, hlo, hso⟩ := id hL
  obtain ⟨hP, hD, hRg, hva, hA⟩ := id hS
  have hc : c0 < b_NC := b_lt hk (by simp)
  obtain ⟨q0, hq0⟩ := List.getElem?_of_mem hm
  have hat := b_at (E := E) (ad := ad) (M := M) hq0
  have hel : b_el E ad M c0 = .inl (E.2.1 4, n, .inr (.inl (fun i => Int64.ofInt (M c0 i)))) := by simp only [b_el, hk]
  rw [hel] at hat
  refine va_alen hx hb hK hP q0 3 hat rfl (v := Int32.ofInt n) rfl hd ?_
  exact k p e s m args below meth c H locs lsA A ad0 ad hX hS ⟨hl, hlo, ok_c (v := bI n) (show b_r32 n from ⟨by omega, by omega⟩) (ok_t hso)⟩ hsb hG
theorem v_alen4 {c0 n z : Nat} (hk : b_kd c0 = (4, n, z)) (hn : n < 2147483648) (hd : decode (bX.cc X) pc = .ok (.arraylength, 1)) (k : VL l E X b_full kn (pc + 1) ls (bI n :: st) M G) : VL l E X b_full kn pc ls (bR c0 :: st) M G := g_alen4 (b_in hk (by simp)) hk hn hd k
theorem g_alen5 {c0 n z : Nat} (hm : c0 ∈ L) (hk : b_kd c0 = (5, n, z)) (hn : n < 2147483648) (hd : decode (bX.cc X) pc = .ok (.arraylength, 1)) (k : VL l E X L kn (pc + 1) ls (bI n :: st) M G) : VL l E X L kn pc ls (bR c0 :: st) M G := by
  intro p e s m args below meth c H locs lsA A ad0 ad hX hS hL hsb hG
  obtain ⟨hx, hb, hml, hown, hts, hret, hlk, hK, hnm, hwm⟩ := id hX
  obtain ⟨hl, hlo, hso⟩ := id hL
  obtain ⟨hP, hD, hRg, hva, hA⟩ := id hS
  have hc : c0 < b_NC := b_lt hk (by simp)
  obtain ⟨q0, hq0⟩ := List.getElem?_of_mem hm
  have hat := b_at (E := E) (ad := ad) (M := M) hq0
  have hel : b_el E ad M c0 = .inl (E.2.1 5, n, .inr (.inr (.inr (.inr (fun i => if M c0 i = 0 ∨ n ≤ i then none else some (ad (12 + i))))))) := by simp only [b_el, hk]
  rw [hel] at hat
  refine va_alen hx hb hK hP q0 4 hat rfl (v := Int32.ofInt n) rfl hd ?_
  exact k p e s m args below meth c H locs lsA A ad0 ad hX hS ⟨hl, hlo, ok_c (v := bI n) (show b_r32 n from ⟨by omega, by omega⟩) (ok_t hso)⟩ hsb hG
theorem v_alen5 {c0 n z : Nat} (hk : b_kd c0 = (5, n, z)) (hn : n < 2147483648) (hd : decode (bX.cc X) pc = .ok (.arraylength, 1)) (k : VL l E X b_full kn (pc + 1) ls (bI n :: st) M G) : VL l E X b_full kn pc ls (bR c0 :: st) M G := g_alen5 (b_in hk (by simp)) hk hn hd k
theorem g_alenG {c0 : Nat} (hm : c0 ∈ L) (hk : b_kd c0 = (6, 0, 0)) (hd : decode (bX.cc X) pc = .ok (.arraylength, 1)) (k : VL l E X L kn (pc + 1) ls (bI (M b_G c0) :: st) M G) : VL l E X L kn pc ls (bR c0 :: st) M G := by
  intro p e s m args below meth c H locs lsA A ad0 ad hX hS hL hsb hG
  obtain ⟨hx, hb, hml, hown, hts, hret, hlk, hK, hnm, hwm⟩ := id hX
  obtain ⟨hl, hlo, hso⟩ := id hL
  obtain ⟨hP, hD, hRg, hva, hA⟩ := id hS
  have hc : c0 < b_NC := b_lt hk (by simp)
  obtain ⟨q0, hq0⟩ := List.getElem?_of_mem hm
  have hat := b_at (E := E) (ad := ad) (M := M) hq0
  have hel : b_el E ad M c0 = .inl (E.2.1 4, (M b_G c0).toNat, .inr (.inl (fun i => Int64.ofInt (M c0 i)))) := by simp only [b_el, hk]
  rw [hel] at hat
  have hgr := hRg.1.1 b_G c0
  rw [show b_lg b_G c0 = false from rfl] at hgr
  have hgr : b_r32 (M b_G c0) := by simpa using hgr
  refine va_alen hx hb hK hP q0 3 hat rfl (v := Int32.ofInt (M b_G c0)) (by
    show Int32.ofInt (((M b_G c0).toNat : Nat) : Int) = _
    rw [Int.toNat_of_nonneg (hRg.1.2 c0)]) hd ?_
  exact k p e s m args below meth c H locs lsA A ad0 ad hX hS ⟨hl, hlo, ok_c (v := bI (M b_G c0)) hgr (ok_t hso)⟩ hsb hG
theorem v_alenG {c0 : Nat} (hk : b_kd c0 = (6, 0, 0)) (hd : decode (bX.cc X) pc = .ok (.arraylength, 1)) (k : VL l E X b_full kn (pc + 1) ls (bI (M b_G c0) :: st) M G) : VL l E X b_full kn pc ls (bR c0 :: st) M G := g_alenG (b_in hk (by simp)) hk hd k
theorem g_aaload {c0 n z : Nat} {i : Int} (hnz : L = b_full ∨ M c0 i ≠ 0) (hm : c0 ∈ L) (hk : b_kd c0 = (5, n, z)) (hi : 0 ≤ i ∧ i < n) (hn : n < 2147483648) (hd : decode (bX.cc X) pc = .ok (.aaload, 1)) (k : VL l E X L kn (pc + 1) ls (bR (12 + i.toNat) :: st) M G) : VL l E X L kn pc ls (bI i :: bR c0 :: st) M G := by
  intro p e s m args below meth c H locs lsA A ad0 ad hX hS hL hsb hG
  obtain ⟨hx, hb, hml, hown, hts, hret, hlk, hK, hnm, hwm⟩ := id hX
  obtain ⟨hl, hlo, hso⟩ := id hL
  obtain ⟨hP, hD, hRg, hva, hA⟩ := id hS
  have hc : c0 < b_NC := b_lt hk (by simp)
  obtain ⟨q0, hq0⟩ := List.getElem?_of_mem hm
  have hat := b_at (E := E) (ad := ad) (M := M) hq0
  have hel : b_el E ad M c0 = .inl (E.2.1 5, n, .inr (.inr (.inr (.inr (fun i => if M c0 i = 0 ∨ n ≤ i then none else some (ad (12 + i))))))) := by simp only [b_el, hk]
  rw [hel] at hat
  obtain ⟨hin, hcl⟩ := nat32 hi hn
  refine va_aldq hx hb hK hP q0 4 hat rfl hin hd ?_
  have h := k p e s m args below meth c H locs lsA A ad0 ad hX hS ⟨hl, hlo, ok_c (v := bR (12 + i.toNat)) trivial (ok_t (ok_t hso))⟩ hsb hG
  have hz : M c0 i ≠ 0 := by
    rcases hnz with h | h
    · exact hRg.2.1 h c0 i (by simp only [b_rf, hk]; simpa using hi)
    · exact h
  rw [hcl]
  rw [show ((i.toNat : Nat) : Int) = i from Int.toNat_of_nonneg hi.1, if_neg (by rintro (q | q); exact hz q; omega)]
  exact h
theorem v_aaload {c0 n z : Nat} {i : Int} (hk : b_kd c0 = (5, n, z)) (hi : 0 ≤ i ∧ i < n) (hn : n < 2147483648) (hd : decode (bX.cc X) pc = .ok (.aaload, 1)) (k : VL l E X b_full kn (pc + 1) ls (bR (12 + i.toNat) :: st) M G) : VL l E X b_full kn pc ls (bI i :: bR c0 :: st) M G := g_aaload (Or.inl rfl) (b_in hk (by simp)) hk hi hn hd k
theorem b_clin {ci : Nat} {q : vw_C} (h : b_cl[ci]? = some q) : ∀ w ∈ u_ws q.1 q.2.1 q.2.2, w ∈ b_T := by
  match ci, h with
  | 0, h => cases h; exact inX0
  | 1, h => cases h; exact inX1
  | 2, h => cases h; exact inX2
  | 3, h => cases h; exact inX3
  | 4, h => cases h; exact inX4
  | 5, h => cases h; exact inX5
  | 6, h => cases h; exact inX6
  | 7, h => cases h; exact inX7
  | 8, h => cases h; exact inX8
  | 9, h => cases h; exact inX9
  | 10, h => cases h; exact inX10
  | 11, h => cases h; exact inX11
  | 12, h => cases h; exact inX12
  | n + 13, h => simp [b_cl] at h
theorem b_cln {ci : Nat} {q : vw_C} (h : b_cl[ci]? = some q) : (∃ ty0 : Nat → FieldType, ∀ k, k < q.2.2 → parseFieldDescriptor (q.2.1 k).2.2.1 = some (ty0 k)) ∧ ∀ a, a < q.2.2 → ∀ b, b < q.2.2 → a ≠ b → (q.2.1 a).2.1 ≠ (q.2.1 b).2.1 := by
  match ci, h with
  | 0, h => cases h; exact ⟨⟨tyX0, tyX0_ok⟩, nmX0⟩
  | 1, h => cases h; exact ⟨⟨tyX1, tyX1_ok⟩, nmX1⟩
  | 2, h => cases h; exact ⟨⟨tyX2, tyX2_ok⟩, nmX2⟩
  | 3, h => cases h; exact ⟨⟨tyX3, tyX3_ok⟩, nmX3⟩
  | 4, h => cases h; exact ⟨⟨tyX4, tyX4_ok⟩, nmX4⟩
  | 5, h => cases h; exact ⟨⟨tyX5, tyX5_ok⟩, nmX5⟩
  | 6, h => cases h; exact ⟨⟨tyX6, tyX6_ok⟩, nmX6⟩
  | 7, h => cases h; exact ⟨⟨tyX7, tyX7_ok⟩, nmX7⟩
  | 8, h => cases h; exact ⟨⟨tyX8, tyX8_ok⟩, nmX8⟩
  | 9, h => cases h; exact ⟨⟨tyX9, tyX9_ok⟩, nmX9⟩
  | 10, h => cases h; exact ⟨⟨tyX10, tyX10_ok⟩, nmX10⟩
  | 11, h => cases h; exact ⟨⟨tyX11, tyX11_ok⟩, nmX11⟩
  | 12, h => cases h; exact ⟨⟨tyX12, tyX12_ok⟩, nmX12⟩
  | n + 13, h => simp [b_cl] at h
theorem g_getI {ci n kf c0 ix d : Nat} {kz : Int} {q : vw_C} (hkz : (kf : Int) = kz) (hm : c0 ∈ L) (hk : b_kd c0 = (0, ci, n)) (hq : b_cl[ci]? = some q) (hf : kf < n ∧ kf < q.2.2) (hfk : b_fk ci kf = (0, d)) (hw : Jvm.Cond.fieldLink (bX.own X) ix (q.2.1 kf).1 (q.2.1 kf).2.1 (q.2.1 kf).2.2.1 ∈ b_T) (hd : decode (bX.cc X) pc = .ok (.getfield ix, 3)) (k : VL l E X L kn (pc + 3) ls (bI (M c0 kz) :: st) M G) : VL l E X L kn pc ls (bR c0 :: st) M G := by
  subst hkz
  intro p e s m args below meth c H locs lsA A ad0 ad hX hS hL hsb hG
  obtain ⟨hx, hb, hml, hown, hts, hret, hlk, hK, hnm, hwm⟩ := id hX
  obtain ⟨hl, hlo, hso⟩ := id hL
  obtain ⟨hP, hD, hRg, hva, hA⟩ := id hS
  have hc : c0 < b_NC := b_lt hk (by simp)
  obtain ⟨q0, hq0⟩ := List.getElem?_of_mem hm
  have hat := b_at (E := E) (ad := ad) (M := M) hq0
  have hel : b_el E ad M c0 = .inr (ci, (List.range n).map (b_fv ad M c0 ci)) := by simp only [b_el, hk]
  rw [hel] at hat
  have hv : ((List.range n).map (b_fv ad M c0 ci))[kf]? = some (b_tv ad (bI (M c0 kf))) := by
    rw [List.getElem?_map, List.getElem?_range hf.1]
    show some (b_fv ad M c0 ci kf) = _
    simp only [b_fv, hfk, b_tv]
  refine va_get hx hb hts (b_clin hq) hown hK hP q0 hat hq kf hf.2 (hts _ hw) (fun _ h => h) hv hd ?_
  have hg := hRg.1.1 c0 kf
  have hlg : b_lg c0 kf = decide (b_fk ci kf = (1, 0)) := by simp only [b_lg, hk, Int.toNat_natCast]
  rw [hlg, hfk] at hg
  exact k p e s m args below meth c H locs lsA A ad0 ad hX hS ⟨hl, hlo, ok_c (v := bI (M c0 kf)) (by simpa using hg : b_r32 _) (ok_t hso)⟩ hsb hG
theorem v_getI {ci n kf c0 ix d : Nat} {kz : Int} {q : vw_C} (hkz : (kf : Int) = kz) (hk : b_kd c0 = (0, ci, n)) (hq : b_cl[ci]? = some q) (hf : kf < n ∧ kf < q.2.2) (hfk : b_fk ci kf = (0, d)) (hw : Jvm.Cond.fieldLink (bX.own X) ix (q.2.1 kf).1 (q.2.1 kf).2.1 (q.2.1 kf).2.2.1 ∈ b_T) (hd : decode (bX.cc X) pc = .ok (.getfield ix, 3)) (k : VL l E X b_full kn (pc + 3) ls (bI (M c0 kz) :: st) M G) : VL l E X b_full kn pc ls (bR c0 :: st) M G := g_getI hkz (b_in hk (by simp)) hk hq hf hfk hw hd k
theorem g_getJ {ci n kf c0 ix : Nat} {kz : Int} {q : vw_C} (hkz : (kf : Int) = kz) (hm : c0 ∈ L) (hk : b_kd c0 = (0, ci, n)) (hq : b_cl[ci]? = some q) (hf : kf < n ∧ kf < q.2.2) (hfk : b_fk ci kf = (1, 0)) (hw : Jvm.Cond.fieldLink (bX.own X) ix (q.2.1 kf).1 (q.2.1 kf).2.1 (q.2.1 kf).2.2.1 ∈ b_T) (hd : decode (bX.cc X) pc = .ok (.getfield ix, 3)) (k : VL l E X L kn (pc + 3) ls (bJ (M c0 kz) :: st) M G) : VL l E X L kn pc ls (bR c0 :: st) M G := by
  subst hkz
  intro p e s m args below meth c H locs lsA A ad0 ad hX hS hL hsb hG
  obtain ⟨hx, hb, hml, hown, hts, hret, hlk, hK, hnm, hwm⟩ := id hX
  obtain ⟨hl, hlo, hso⟩ := id hL
  obtain ⟨hP, hD, hRg, hva, hA⟩ := id hS
  have hc : c0 < b_NC := b_lt hk (by simp)
  obtain ⟨q0, hq0⟩ := List.getElem?_of_mem hm
  have hat := b_at (E := E) (ad := ad) (M := M) hq0
  have hel : b_el E ad M c0 = .inr (ci, (List.range n).map (b_fv ad M c0 ci)) := by simp only [b_el, hk]
  rw [hel] at hat
  have hv : ((List.range n).map (b_fv ad M c0 ci))[kf]? = some (b_tv ad (bJ (M c0 kf))) := by
    rw [List.getElem?_map, List.getElem?_range hf.1]
    show some (b_fv ad M c0 ci kf) = _
    simp only [b_fv, hfk, b_tv]
  refine va_get hx hb hts (b_clin hq) hown hK hP q0 hat hq kf hf.2 (hts _ hw) (fun _ h => h) hv hd ?_
  have hg := hRg.1.1 c0 kf
  have hlg : b_lg c0 kf = decide (b_fk ci kf = (1, 0)) := by simp only [b_lg, hk, Int.toNat_natCast]
  rw [hlg, hfk] at hg
  exact k p e s m args below meth c H locs lsA A ad0 ad hX hS ⟨hl, hlo, ok_c (v := bJ (M c0 kf)) (by simpa using hg : b_r64 _) (ok_t hso)⟩ hsb hG
theorem v_getJ {ci n kf c0 ix : Nat} {kz : Int} {q : vw_C} (hkz : (kf : Int) = kz) (hk : b_kd c0 = (0, ci, n)) (hq : b_cl[ci]? = some q) (hf : kf < n ∧ kf < q.2.2) (hfk : b_fk ci kf = (1, 0)) (hw : Jvm.Cond.fieldLink (bX.own X) ix (q.2.1 kf).1 (q.2.1 kf).2.1 (q.2.1 kf).2.2.1 ∈ b_T) (hd : decode (bX.cc X) pc = .ok (.getfield ix, 3)) (k : VL l E X b_full kn (pc + 3) ls (bJ (M c0 kz) :: st) M G) : VL l E X b_full kn pc ls (bR c0 :: st) M G := g_getJ hkz (b_in hk (by simp)) hk hq hf hfk hw hd k
theorem g_getR {ci n kf c0 ix d : Nat} {kz : Int} {q : vw_C} (hnz : L = b_full ∨ M c0 kz ≠ 0) (hkz : (kf : Int) = kz) (hm : c0 ∈ L) (hk : b_kd c0 = (0, ci, n)) (hq : b_cl[ci]? = some q) (hf : kf < n ∧ kf < q.2.2) (hfk : b_fk ci kf = (2, d)) (hw : Jvm.Cond.fieldLink (bX.own X) ix (q.2.1 kf).1 (q.2.1 kf).2.1 (q.2.1 kf).2.2.1 ∈ b_T) (hd : decode (bX.cc X) pc = .ok (.getfield ix, 3)) (k : VL l E X L kn (pc + 3) ls (bR d :: st) M G) : VL l E X L kn pc ls (bR c0 :: st) M G := by
  subst hkz
  intro p e s m args below meth c H locs lsA A ad0 ad hX hS hL hsb hG
  obtain ⟨hx, hb, hml, hown, hts, hret, hlk, hK, hnm, hwm⟩ := id hX
  obtain ⟨hl, hlo, hso⟩ := id hL
  obtain ⟨hP, hD, hRg, hva, hA⟩ := id hS
  have hc : c0 < b_NC := b_lt hk (by simp)
  obtain ⟨q0, hq0⟩ := List.getElem?_of_mem hm
  have hat := b_at (E := E) (ad := ad) (M := M) hq0
  have hel : b_el E ad M c0 = .inr (ci, (List.range n).map (b_fv ad M c0 ci)) := by simp only [b_el, hk]
  rw [hel] at hat
  have hz : M c0 kf ≠ 0 := by
    rcases hnz with h | h
    · exact hRg.2.1 h c0 kf (by simp only [b_rf, hk, Int.toNat_natCast, hfk]; simpa using hf.1)
    · exact h
  have hv : ((List.range n).map (b_fv ad M c0 ci))[kf]? = some (b_tv ad (bR d)) := by
    rw [List.getElem?_map, List.getElem?_range hf.1]
    show some (b_fv ad M c0 ci kf) = _
    simp only [b_fv, hfk, b_tv, if_neg hz]
  refine va_get hx hb hts (b_clin hq) hown hK hP q0 hat hq kf hf.2 (hts _ hw) (fun _ h => h) hv hd ?_
  have hg := hRg.1.1 c0 kf
  have hlg : b_lg c0 kf = decide (b_fk ci kf = (1, 0)) := by simp only [b_lg, hk, Int.toNat_natCast]
  rw [hlg, hfk] at hg
  exact k p e s m args below meth c H locs lsA A ad0 ad hX hS ⟨hl, hlo, ok_c (v := bR d) (trivial) (ok_t hso)⟩ hsb hG
theorem v_getR {ci n kf c0 ix d : Nat} {kz : Int} {q : vw_C} (hkz : (kf : Int) = kz) (hk : b_kd c0 = (0, ci, n)) (hq : b_cl[ci]? = some q) (hf : kf < n ∧ kf < q.2.2) (hfk : b_fk ci kf = (2, d)) (hw : Jvm.Cond.fieldLink (bX.own X) ix (q.2.1 kf).1 (q.2.1 kf).2.1 (q.2.1 kf).2.2.1 ∈ b_T) (hd : decode (bX.cc X) pc = .ok (.getfield ix, 3)) (k : VL l E X b_full kn (pc + 3) ls (bR d :: st) M G) : VL l E X b_full kn pc ls (bR c0 :: st) M G := g_getR (Or.inl rfl) hkz (b_in hk (by simp)) hk hq hf hfk hw hd k
theorem g_getO {ci n kf c0 ix d : Nat} {kz : Int} {q : vw_C} (hnz : L = b_full ∨ M c0 kz ≠ 0) (hkz : (kf : Int) = kz) (hm : c0 ∈ L) (hk : b_kd c0 = (0, ci, n)) (hq : b_cl[ci]? = some q) (hf : kf < n ∧ kf < q.2.2) (hfk : b_fk ci kf = (3, d)) (hw : Jvm.Cond.fieldLink (bX.own X) ix (q.2.1 kf).1 (q.2.1 kf).2.1 (q.2.1 kf).2.2.1 ∈ b_T) (hd : decode (bX.cc X) pc = .ok (.getfield ix, 3)) (k : VL l E X L kn (pc + 3) ls (bR (c0 + d) :: st) M G) : VL l E X L kn pc ls (bR c0 :: st) M G := by
  subst hkz
  intro p e s m args below meth c H locs lsA A ad0 ad hX hS hL hsb hG
  obtain ⟨hx, hb, hml, hown, hts, hret, hlk, hK, hnm, hwm⟩ := id hX
  obtain ⟨hl, hlo, hso⟩ := id hL
  obtain ⟨hP, hD, hRg, hva, hA⟩ := id hS
  have hc : c0 < b_NC := b_lt hk (by simp)
  obtain ⟨q0, hq0⟩ := List.getElem?_of_mem hm
  have hat := b_at (E := E) (ad := ad) (M := M) hq0
  have hel : b_el E ad M c0 = .inr (ci, (List.range n).map (b_fv ad M c0 ci)) := by simp only [b_el, hk]
  rw [hel] at hat
  have hz : M c0 kf ≠ 0 := by
    rcases hnz with h | h
    · exact hRg.2.1 h c0 kf (by simp only [b_rf, hk, Int.toNat_natCast, hfk]; simpa using hf.1)
    · exact h
  have hv : ((List.range n).map (b_fv ad M c0 ci))[kf]? = some (b_tv ad (bR (c0 + d))) := by
    rw [List.getElem?_map, List.getElem?_range hf.1]
    show some (b_fv ad M c0 ci kf) = _
    simp only [b_fv, hfk, b_tv, if_neg hz]
  refine va_get hx hb hts (b_clin hq) hown hK hP q0 hat hq kf hf.2 (hts _ hw) (fun _ h => h) hv hd ?_
  have hg := hRg.1.1 c0 kf
  have hlg : b_lg c0 kf = decide (b_fk ci kf = (1, 0)) := by simp only [b_lg, hk, Int.toNat_natCast]
  rw [hlg, hfk] at hg
  exact k p e s m args below meth c H locs lsA A ad0 ad hX hS ⟨hl, hlo, ok_c (v := bR (c0 + d)) (trivial) (ok_t hso)⟩ hsb hG
theorem v_getO {ci n kf c0 ix d : Nat} {kz : Int} {q : vw_C} (hkz : (kf : Int) = kz) (hk : b_kd c0 = (0, ci, n)) (hq : b_cl[ci]? = some q) (hf : kf < n ∧ kf < q.2.2) (hfk : b_fk ci kf = (3, d)) (hw : Jvm.Cond.fieldLink (bX.own X) ix (q.2.1 kf).1 (q.2.1 kf).2.1 (q.2.1 kf).2.2.1 ∈ b_T) (hd : decode (bX.cc X) pc = .ok (.getfield ix, 3)) (k : VL l E X b_full kn (pc + 3) ls (bR (c0 + d) :: st) M G) : VL l E X b_full kn pc ls (bR c0 :: st) M G := g_getO (Or.inl rfl) hkz (b_in hk (by simp)) hk hq hf hfk hw hd k
theorem g_getD {ci n kf c0 ix d : Nat} {kz : Int} {q : vw_C} (hnz : L = b_full ∨ M c0 kz ≠ 0) (hkz : (kf : Int) = kz) (hm : c0 ∈ L) (hk : b_kd c0 = (0, ci, n)) (hq : b_cl[ci]? = some q) (hf : kf < n ∧ kf < q.2.2) (hfk : b_fk ci kf = (4, d)) (hw : Jvm.Cond.fieldLink (bX.own X) ix (q.2.1 kf).1 (q.2.1 kf).2.1 (q.2.1 kf).2.2.1 ∈ b_T) (hd : decode (bX.cc X) pc = .ok (.getfield ix, 3)) (k : VL l E X L kn (pc + 3) ls (bR (M c0 kz).toNat :: st) M G) : VL l E X L kn pc ls (bR c0 :: st) M G := by
  subst hkz
  intro p e s m args below meth c H locs lsA A ad0 ad hX hS hL hsb hG
  obtain ⟨hx, hb, hml, hown, hts, hret, hlk, hK, hnm, hwm⟩ := id hX
  obtain ⟨hl, hlo, hso⟩ := id hL
  obtain ⟨hP, hD, hRg, hva, hA⟩ := id hS
  have hc : c0 < b_NC := b_lt hk (by simp)
  obtain ⟨q0, hq0⟩ := List.getElem?_of_mem hm
  have hat := b_at (E := E) (ad := ad) (M := M) hq0
  have hel : b_el E ad M c0 = .inr (ci, (List.range n).map (b_fv ad M c0 ci)) := by simp only [b_el, hk]
  rw [hel] at hat
  have hz : M c0 kf ≠ 0 := by
    rcases hnz with h | h
    · exact hRg.2.1 h c0 kf (by simp only [b_rf, hk, Int.toNat_natCast, hfk]; simpa using hf.1)
    · exact h
  have hv : ((List.range n).map (b_fv ad M c0 ci))[kf]? = some (b_tv ad (bR (M c0 kf).toNat)) := by
    rw [List.getElem?_map, List.getElem?_range hf.1]
    show some (b_fv ad M c0 ci kf) = _
    simp only [b_fv, hfk, b_tv, if_neg hz]
  refine va_get hx hb hts (b_clin hq) hown hK hP q0 hat hq kf hf.2 (hts _ hw) (fun _ h => h) hv hd ?_
  have hg := hRg.1.1 c0 kf
  have hlg : b_lg c0 kf = decide (b_fk ci kf = (1, 0)) := by simp only [b_lg, hk, Int.toNat_natCast]
  rw [hlg, hfk] at hg
  exact k p e s m args below meth c H locs lsA A ad0 ad hX hS ⟨hl, hlo, ok_c (v := bR (M c0 kf).toNat) (trivial) (ok_t hso)⟩ hsb hG
theorem v_getD {ci n kf c0 ix d : Nat} {kz : Int} {q : vw_C} (hkz : (kf : Int) = kz) (hk : b_kd c0 = (0, ci, n)) (hq : b_cl[ci]? = some q) (hf : kf < n ∧ kf < q.2.2) (hfk : b_fk ci kf = (4, d)) (hw : Jvm.Cond.fieldLink (bX.own X) ix (q.2.1 kf).1 (q.2.1 kf).2.1 (q.2.1 kf).2.2.1 ∈ b_T) (hd : decode (bX.cc X) pc = .ok (.getfield ix, 3)) (k : VL l E X b_full kn (pc + 3) ls (bR (M c0 kz).toNat :: st) M G) : VL l E X b_full kn pc ls (bR c0 :: st) M G := g_getD (Or.inl rfl) hkz (b_in hk (by simp)) hk hq hf hfk hw hd k
theorem g_putI {ci n kf c0 ix : Nat} {x kz : Int} {q : vw_C} (hkz : (kf : Int) = kz) (hm : c0 ∈ L) (hk : b_kd c0 = (0, ci, n)) (hq : b_cl[ci]? = some q) (hf : kf < n ∧ kf < q.2.2) (hfk : b_fk ci kf = (0, 0)) (hw : Jvm.Cond.fieldLink (bX.own X) ix (q.2.1 kf).1 (q.2.1 kf).2.1 (q.2.1 kf).2.2.1 ∈ b_T) (hfin : (q.2.1 kf).2.2.2 = false) (hty : parseFieldDescriptor (q.2.1 kf).2.2.1 = some .int) (hd : decode (bX.cc X) pc = .ok (.putfield ix, 3)) (k : VL l E X L kn (pc + 3) ls st (b_up M c0 kz x) G) : VL l E X L kn pc ls (bI x :: bR c0 :: st) M G := by
  subst hkz
  intro p e s m args below meth c H locs lsA A ad0 ad hX hS hL hsb hG
  obtain ⟨hx, hb, hml, hown, hts, hret, hlk, hK, hnm, hwm⟩ := id hX
  obtain ⟨hl, hlo, hso⟩ := id hL
  obtain ⟨hP, hD, hRg, hva, hA⟩ := id hS
  have hc : c0 < b_NC := b_lt hk (by simp)
  obtain ⟨q0, hq0⟩ := List.getElem?_of_mem hm
  have hat := b_at (E := E) (ad := ad) (M := M) hq0
  have hel : b_el E ad M c0 = .inr (ci, (List.range n).map (b_fv ad M c0 ci)) := by simp only [b_el, hk]
  rw [hel] at hat
  obtain ⟨⟨ty0, hty0⟩, hnm⟩ := b_cln hq
  refine va_put hx hb hts (b_clin hq) ty0 hty0 hnm hown hK hP (b_Dv hD) hva q0 hat hq kf hf.2 (hts _ hw) (fun _ h => h) hfin hty (rfl) (rfl) (by simpa using hf.1) hd (fun H1 locs1 hP1 hD1 hS1 => ?_)
  have hset := b_ws_set (E := E) (M := M) (c := c0) (i := kf) (x := x) hD hq0 hc rfl
  have hnew : b_el E ad (b_up M c0 kf x) c0 = .inr (ci, ((List.range n).map (b_fv ad M c0 ci)).set kf (.int (Int32.ofInt x))) := by
    simp only [b_el, hk]
    congr 2
    apply List.ext_getElem?
    intro j
    rw [List.getElem?_set]
    by_cases qj : kf = j
    · subst qj
      rw [if_pos rfl, if_pos (by simpa using hf.1), List.getElem?_map, List.getElem?_range hf.1]
      show some (b_fv ad (b_up M c0 kf x) c0 ci kf) = _
      simp only [b_fv, hfk, b_up, and_self, if_true]
      skip
    · rw [if_neg qj, List.getElem?_map, List.getElem?_map]
      cases hj : (List.range n)[j]? with
      | none => rfl
      | some w =>
        have hwj : w = j := by
          have := List.getElem?_eq_some_iff.mp hj
          obtain ⟨h1, h2⟩ := this
          simpa using h2.symm
        subst hwj
        show some (b_fv ad (b_up M c0 kf x) c0 ci w) = some (b_fv ad M c0 ci w)
        have hz : b_up M c0 kf x c0 w = M c0 w := by
          unfold b_up
          rw [if_neg]
          rintro ⟨-, h2⟩
          exact qj (by omega)
        simp only [b_fv, hz]
  rw [hnew] at hset
  have hP1 : va_P E.1 b_cl (b_ws E ad (b_up M c0 kf x) L) H1 := by rw [← hset]; exact hP1
  have hlg : b_lg c0 kf = decide (b_fk ci kf = (1, 0)) := by simp only [b_lg, hk, Int.toNat_natCast]
  exact k p e s m args below meth c H1 locs1 lsA A ad0 ad hX ⟨hP1, hD, b_Rg_up hRg hc (by rw [hlg, hfk]; exact ok_h hso) (by simp [b_rf, hk, hfk]), hS1, hA⟩ ⟨hl, hlo, ok_t (ok_t hso)⟩ hsb hG
theorem v_putI {ci n kf c0 ix : Nat} {x kz : Int} {q : vw_C} (hkz : (kf : Int) = kz) (hk : b_kd c0 = (0, ci, n)) (hq : b_cl[ci]? = some q) (hf : kf < n ∧ kf < q.2.2) (hfk : b_fk ci kf = (0, 0)) (hw : Jvm.Cond.fieldLink (bX.own X) ix (q.2.1 kf).1 (q.2.1 kf).2.1 (q.2.1 kf).2.2.1 ∈ b_T) (hfin : (q.2.1 kf).2.2.2 = false) (hty : parseFieldDescriptor (q.2.1 kf).2.2.1 = some .int) (hd : decode (bX.cc X) pc = .ok (.putfield ix, 3)) (k : VL l E X b_full kn (pc + 3) ls st (b_up M c0 kz x) G) : VL l E X b_full kn pc ls (bI x :: bR c0 :: st) M G := g_putI hkz (b_in hk (by simp)) hk hq hf hfk hw hfin hty hd k
theorem g_putZ {ci n kf c0 ix : Nat} {x kz : Int} {q : vw_C} (hkz : (kf : Int) = kz) (hm : c0 ∈ L) (hk : b_kd c0 = (0, ci, n)) (hq : b_cl[ci]? = some q) (hf : kf < n ∧ kf < q.2.2) (hfk : b_fk ci kf = (0, 0)) (hz : x = 0 ∨ x = 1) (hw : Jvm.Cond.fieldLink (bX.own X) ix (q.2.1 kf).1 (q.2.1 kf).2.1 (q.2.1 kf).2.2.1 ∈ b_T) (hfin : (q.2.1 kf).2.2.2 = false) (hty : parseFieldDescriptor (q.2.1 kf).2.2.1 = some .boolean) (hd : decode (bX.cc X) pc = .ok (.putfield ix, 3)) (k : VL l E X L kn (pc + 3) ls st (b_up M c0 kz x) G) : VL l E X L kn pc ls (bI x :: bR c0 :: st) M G := by
  subst hkz
  intro p e s m args below meth c H locs lsA A ad0 ad hX hS hL hsb hG
  obtain ⟨hx, hb, hml, hown, hts, hret, hlk, hK, hnm, hwm⟩ := id hX
  obtain ⟨hl, hlo, hso⟩ := id hL
  obtain ⟨hP, hD, hRg, hva, hA⟩ := id hS
  have hc : c0 < b_NC := b_lt hk (by simp)
  obtain ⟨q0, hq0⟩ := List.getElem?_of_mem hm
  have hat := b_at (E := E) (ad := ad) (M := M) hq0
  have hel : b_el E ad M c0 = .inr (ci, (List.range n).map (b_fv ad M c0 ci)) := by simp only [b_el, hk]
  rw [hel] at hat
  obtain ⟨⟨ty0, hty0⟩, hnm⟩ := b_cln hq
  refine va_put hx hb hts (b_clin hq) ty0 hty0 hnm hown hK hP (b_Dv hD) hva q0 hat hq kf hf.2 (hts _ hw) (fun _ h => h) hfin hty (by rcases hz with rfl | rfl <;> rfl) (by rcases hz with rfl | rfl <;> rfl) (by simpa using hf.1) hd (fun H1 locs1 hP1 hD1 hS1 => ?_)
  have hset := b_ws_set (E := E) (M := M) (c := c0) (i := kf) (x := x) hD hq0 hc rfl
  have hnew : b_el E ad (b_up M c0 kf x) c0 = .inr (ci, ((List.range n).map (b_fv ad M c0 ci)).set kf (.int (Int32.ofInt x))) := by
    simp only [b_el, hk]
    congr 2
    apply List.ext_getElem?
    intro j
    rw [List.getElem?_set]
    by_cases qj : kf = j
    · subst qj
      rw [if_pos rfl, if_pos (by simpa using hf.1), List.getElem?_map, List.getElem?_range hf.1]
      show some (b_fv ad (b_up M c0 kf x) c0 ci kf) = _
      simp only [b_fv, hfk, b_up, and_self, if_true]
      skip
    · rw [if_neg qj, List.getElem?_map, List.getElem?_map]
      cases hj : (List.range n)[j]? with
      | none => rfl
      | some w =>
        have hwj : w = j := by
          have := List.getElem?_eq_some_iff.mp hj
          obtain ⟨h1, h2⟩ := this
          simpa using h2.symm
        subst hwj
        show some (b_fv ad (b_up M c0 kf x) c0 ci w) = some (b_fv ad M c0 ci w)
        have hz : b_up M c0 kf x c0 w = M c0 w := by
          unfold b_up
          rw [if_neg]
          rintro ⟨-, h2⟩
          exact qj (by omega)
        simp only [b_fv, hz]
  rw [hnew] at hset
  have hP1 : va_P E.1 b_cl (b_ws E ad (b_up M c0 kf x) L) H1 := by rw [← hset]; exact hP1
  have hlg : b_lg c0 kf = decide (b_fk ci kf = (1, 0)) := by simp only [b_lg, hk, Int.toNat_natCast]
  exact k p e s m args below meth c H1 locs1 lsA A ad0 ad hX ⟨hP1, hD, b_Rg_up hRg hc (by rw [hlg, hfk]; exact ok_h hso) (by simp [b_rf, hk, hfk]), hS1, hA⟩ ⟨hl, hlo, ok_t (ok_t hso)⟩ hsb hG
theorem v_putZ {ci n kf c0 ix : Nat} {x kz : Int} {q : vw_C} (hkz : (kf : Int) = kz) (hk : b_kd c0 = (0, ci, n)) (hq : b_cl[ci]? = some q) (hf : kf < n ∧ kf < q.2.2) (hfk : b_fk ci kf = (0, 0)) (hz : x = 0 ∨ x = 1) (hw : Jvm.Cond.fieldLink (bX.own X) ix (q.2.1 kf).1 (q.2.1 kf).2.1 (q.2.1 kf).2.2.1 ∈ b_T) (hfin : (q.2.1 kf).2.2.2 = false) (hty : parseFieldDescriptor (q.2.1 kf).2.2.1 = some .boolean) (hd : decode (bX.cc X) pc = .ok (.putfield ix, 3)) (k : VL l E X b_full kn (pc + 3) ls st (b_up M c0 kz x) G) : VL l E X b_full kn pc ls (bI x :: bR c0 :: st) M G := g_putZ hkz (b_in hk (by simp)) hk hq hf hfk hz hw hfin hty hd k
theorem g_putJ {ci n kf c0 ix : Nat} {x kz : Int} {q : vw_C} (hkz : (kf : Int) = kz) (hm : c0 ∈ L) (hk : b_kd c0 = (0, ci, n)) (hq : b_cl[ci]? = some q) (hf : kf < n ∧ kf < q.2.2) (hfk : b_fk ci kf = (1, 0)) (hw : Jvm.Cond.fieldLink (bX.own X) ix (q.2.1 kf).1 (q.2.1 kf).2.1 (q.2.1 kf).2.2.1 ∈ b_T) (hfin : (q.2.1 kf).2.2.2 = false) (hty : parseFieldDescriptor (q.2.1 kf).2.2.1 = some .long) (hd : decode (bX.cc X) pc = .ok (.putfield ix, 3)) (k : VL l E X L kn (pc + 3) ls st (b_up M c0 kz x) G) : VL l E X L kn pc ls (bJ x :: bR c0 :: st) M G := by
  subst hkz
  intro p e s m args below meth c H locs lsA A ad0 ad hX hS hL hsb hG
  obtain ⟨hx, hb, hml, hown, hts, hret, hlk, hK, hnm, hwm⟩ := id hX
  obtain ⟨hl, hlo, hso⟩ := id hL
  obtain ⟨hP, hD, hRg, hva, hA⟩ := id hS
  have hc : c0 < b_NC := b_lt hk (by simp)
  obtain ⟨q0, hq0⟩ := List.getElem?_of_mem hm
  have hat := b_at (E := E) (ad := ad) (M := M) hq0
  have hel : b_el E ad M c0 = .inr (ci, (List.range n).map (b_fv ad M c0 ci)) := by simp only [b_el, hk]
  rw [hel] at hat
  obtain ⟨⟨ty0, hty0⟩, hnm⟩ := b_cln hq
  refine va_put hx hb hts (b_clin hq) ty0 hty0 hnm hown hK hP (b_Dv hD) hva q0 hat hq kf hf.2 (hts _ hw) (fun _ h => h) hfin hty (rfl) (rfl) (by simpa using hf.1) hd (fun H1 locs1 hP1 hD1 hS1 => ?_)
  have hset := b_ws_set (E := E) (M := M) (c := c0) (i := kf) (x := x) hD hq0 hc rfl
  have hnew : b_el E ad (b_up M c0 kf x) c0 = .inr (ci, ((List.range n).map (b_fv ad M c0 ci)).set kf (.long (Int64.ofInt x))) := by
    simp only [b_el, hk]
    congr 2
    apply List.ext_getElem?
    intro j
    rw [List.getElem?_set]
    by_cases qj : kf = j
    · subst qj
      rw [if_pos rfl, if_pos (by simpa using hf.1), List.getElem?_map, List.getElem?_range hf.1]
      show some (b_fv ad (b_up M c0 kf x) c0 ci kf) = _
      simp only [b_fv, hfk, b_up, and_self, if_true]
      skip
    · rw [if_neg qj, List.getElem?_map, List.getElem?_map]
      cases hj : (List.range n)[j]? with
      | none => rfl
      | some w =>
        have hwj : w = j := by
          have := List.getElem?_eq_some_iff.mp hj
          obtain ⟨h1, h2⟩ := this
          simpa using h2.symm
        subst hwj
        show some (b_fv ad (b_up M c0 kf x) c0 ci w) = some (b_fv ad M c0 ci w)
        have hz : b_up M c0 kf x c0 w = M c0 w := by
          unfold b_up
          rw [if_neg]
          rintro ⟨-, h2⟩
          exact qj (by omega)
        simp only [b_fv, hz]
  rw [hnew] at hset
  have hP1 : va_P E.1 b_cl (b_ws E ad (b_up M c0 kf x) L) H1 := by rw [← hset]; exact hP1
  have hlg : b_lg c0 kf = decide (b_fk ci kf = (1, 0)) := by simp only [b_lg, hk, Int.toNat_natCast]
  exact k p e s m args below meth c H1 locs1 lsA A ad0 ad hX ⟨hP1, hD, b_Rg_up hRg hc (by rw [hlg, hfk]; exact ok_h hso) (by simp [b_rf, hk, hfk]), hS1, hA⟩ ⟨hl, hlo, ok_t (ok_t hso)⟩ hsb hG
theorem v_putJ {ci n kf c0 ix : Nat} {x kz : Int} {q : vw_C} (hkz : (kf : Int) = kz) (hk : b_kd c0 = (0, ci, n)) (hq : b_cl[ci]? = some q) (hf : kf < n ∧ kf < q.2.2) (hfk : b_fk ci kf = (1, 0)) (hw : Jvm.Cond.fieldLink (bX.own X) ix (q.2.1 kf).1 (q.2.1 kf).2.1 (q.2.1 kf).2.2.1 ∈ b_T) (hfin : (q.2.1 kf).2.2.2 = false) (hty : parseFieldDescriptor (q.2.1 kf).2.2.1 = some .long) (hd : decode (bX.cc X) pc = .ok (.putfield ix, 3)) (k : VL l E X b_full kn (pc + 3) ls st (b_up M c0 kz x) G) : VL l E X b_full kn pc ls (bJ x :: bR c0 :: st) M G := g_putJ hkz (b_in hk (by simp)) hk hq hf hfk hw hfin hty hd k
theorem v_mmax {x y : Int} {ix : Nat} (hw1 : Cond.methodLink (bX.own X) ix Lib.Math.max.name ∈ b_T) (hw2 : Cond.static Lib.Math.max.name ∈ b_T) (hw3 : Cond.initialized "java/lang/Math" ∈ b_T) (hw4 : Cond.code Lib.Math.max.name Lib.Math.max.code 2 (some .int) ∈ b_T) (hkn : kn.1 ≤ (bX.R X).cells ∧ kn.2 ≤ (bX.R X).slots) (hd1 : 1 ≤ (bX.R X).frames ∧ 21 ≤ (bX.R X).locals) (hcat : (st.map (fun v => if b_c2 v = true then 2 else 1)).sum ≤ 8) (hd : decode (bX.cc X) pc = .ok (.invokestatic ix, 3)) (k : VL l E X L kn (pc + 3) ls (bI (max x y) :: st) M G) : VL l E X L kn pc ls (bI y :: bI x :: st) M G := by
  intro p e s m args below meth c H locs lsA A ad0 ad hX hS hL hsb hG
  obtain ⟨hx, hb, hml, hown, hts, hret, hlk, hK, hnm, hwm⟩ := id hX
  obtain ⟨hl, hlo, hso⟩ := id hL
  have hy : b_r32 y := ok_h hso
  have hxx : b_r32 x := ok_h (ok_t hso)
  have hcatA : ((st.map (b_tv ad)).map fun v => v.category) = st.map (fun v => if b_c2 v = true then 2 else 1) := by
    rw [List.map_map]
    apply List.map_congr_left
    intro v _
    rcases v with x | x | x <;> rfl
  refine va_mmax hx hb (by rw [hml]; exact hl.1.symm) hown (hts _ hw1) (hts _ hw2) (hts _ hw3) (hts _ hw4) hd1.1 (by rw [hcatA]; omega) hkn.1 hkn.2 hd ?_
  have hr : b_r32 (max x y) := by unfold b_r32 at *; omega
  have h := k p e s m args below meth c H locs lsA A ad0 ad hX hS ⟨hl, hlo, ok_c (v := bI (max x y)) hr (ok_t (ok_t hso))⟩ hsb hG
  have hc : (if Int32.ofInt x < Int32.ofInt y then Int32.ofInt y else Int32.ofInt x) = Int32.ofInt (max x y) := by
    simp only [lt32 hxx hy, lt32 hy hxx]
    split <;> (congr 1; omega)
  rw [hc]
  exact h
theorem v_mmin {x y : Int} {ix : Nat} (hw1 : Cond.methodLink (bX.own X) ix Lib.Math.min.name ∈ b_T) (hw2 : Cond.static Lib.Math.min.name ∈ b_T) (hw3 : Cond.initialized "java/lang/Math" ∈ b_T) (hw4 : Cond.code Lib.Math.min.name Lib.Math.min.code 2 (some .int) ∈ b_T) (hkn : kn.1 ≤ (bX.R X).cells ∧ kn.2 ≤ (bX.R X).slots) (hd1 : 1 ≤ (bX.R X).frames ∧ 21 ≤ (bX.R X).locals) (hcat : (st.map (fun v => if b_c2 v = true then 2 else 1)).sum ≤ 8) (hd : decode (bX.cc X) pc = .ok (.invokestatic ix, 3)) (k : VL l E X L kn (pc + 3) ls (bI (min x y) :: st) M G) : VL l E X L kn pc ls (bI y :: bI x :: st) M G := by
  intro p e s m args below meth c H locs lsA A ad0 ad hX hS hL hsb hG
  obtain ⟨hx, hb, hml, hown, hts, hret, hlk, hK, hnm, hwm⟩ := id hX
  obtain ⟨hl, hlo, hso⟩ := id hL
  have hy : b_r32 y := ok_h hso
  have hxx : b_r32 x := ok_h (ok_t hso)
  have hcatA : ((st.map (b_tv ad)).map fun v => v.category) = st.map (fun v => if b_c2 v = true then 2 else 1) := by
    rw [List.map_map]
    apply List.map_congr_left
    intro v _
    rcases v with x | x | x <;> rfl
  refine va_mmin hx hb (by rw [hml]; exact hl.1.symm) hown (hts _ hw1) (hts _ hw2) (hts _ hw3) (hts _ hw4) hd1.1 (by rw [hcatA]; omega) hkn.1 hkn.2 hd ?_
  have hr : b_r32 (min x y) := by unfold b_r32 at *; omega
  have h := k p e s m args below meth c H locs lsA A ad0 ad hX hS ⟨hl, hlo, ok_c (v := bI (min x y)) hr (ok_t (ok_t hso))⟩ hsb hG
  have hc : (if Int32.ofInt y < Int32.ofInt x then Int32.ofInt y else Int32.ofInt x) = Int32.ofInt (min x y) := by
    simp only [lt32 hxx hy, lt32 hy hxx]
    split <;> (congr 1; omega)
  rw [hc]
  exact h
theorem v_mabs {x : Int} {ix : Nat} (hn : b_r32 (-x)) (hw1 : Cond.methodLink (bX.own X) ix Lib.Math.abs.name ∈ b_T) (hw2 : Cond.static Lib.Math.abs.name ∈ b_T) (hw3 : Cond.initialized "java/lang/Math" ∈ b_T) (hw4 : Cond.code Lib.Math.abs.name Lib.Math.abs.code 1 (some .int) ∈ b_T) (hkn : kn.1 ≤ (bX.R X).cells ∧ kn.2 ≤ (bX.R X).slots) (hd1 : 1 ≤ (bX.R X).frames ∧ 21 ≤ (bX.R X).locals) (hcat : (st.map (fun v => if b_c2 v = true then 2 else 1)).sum ≤ 8) (hd : decode (bX.cc X) pc = .ok (.invokestatic ix, 3)) (k : VL l E X L kn (pc + 3) ls (bI (max x (-x)) :: st) M G) : VL l E X L kn pc ls (bI x :: st) M G := by
  intro p e s m args below meth c H locs lsA A ad0 ad hX hS hL hsb hG
  obtain ⟨hx, hb, hml, hown, hts, hret, hlk, hK, hnm, hwm⟩ := id hX
  obtain ⟨hl, hlo, hso⟩ := id hL
  have hxx : b_r32 x := ok_h hso
  have hcatA : ((st.map (b_tv ad)).map fun v => v.category) = st.map (fun v => if b_c2 v = true then 2 else 1) := by
    rw [List.map_map]
    apply List.map_congr_left
    intro v _
    rcases v with x | x | x <;> rfl
  refine va_mabs hx hb (by rw [hml]; exact hl.1.symm) hown (hts _ hw1) (hts _ hw2) (hts _ hw3) (hts _ hw4) hd1.1 (by rw [hcatA]; omega) hkn.1 hkn.2 hd ?_
  have hr : b_r32 (max x (-x)) := by unfold b_r32 at *; omega
  have h := k p e s m args below meth c H locs lsA A ad0 ad hX hS ⟨hl, hlo, ok_c (v := bI (max x (-x))) hr (ok_t hso)⟩ hsb hG
  have hc : (if 0 ≤ Int32.ofInt x then Int32.ofInt x else 0 - Int32.ofInt x) = Int32.ofInt (max x (-x)) := by
    rw [show (0 : Int32) = Int32.ofInt 0 from rfl]
    simp only [le32 r32_0 hxx]
    split
    · congr 1; omega
    · rw [← Int32.ofInt_sub]
      congr 1
      omega
  rw [hc]
  exact h
theorem v_ireturn {x : Int} (hr : bX.ret X = some .int) (hd : decode (bX.cc X) pc = .ok (.ireturn, 1)) (hkn : kn.1 ≤ (bX.R X).cells ∧ kn.2 ≤ (bX.R X).slots) (hp : Post (some (bI x)) M) : VL l E X L kn pc ls [bI x] M (b_std E X L0 L Post) := by
  intro p e s m args below meth c H locs lsA A ad0 ad hX hS hL hsb hG
  obtain ⟨hx, hb, hml, hown, hts, hret, hlk, hK, hnm, hwm⟩ := id hX
  obtain ⟨hl, hlo, hso⟩ := id hL
  obtain ⟨hP, hD, hRg, hva, hA⟩ := id hS
  refine W.widen (k := (bX.R X).cells) (n := (bX.R X).slots) hkn.1 hkn.2 ?_
  exact W.iret hx hb (by rw [hret, hr]) (fun t ht hW => ⟨⟨(some (bI x)), M, ad, rfl, (fun v hv => by cases hv; exact ok_h hso), hp, by rw [ht]; exact hP, hD, hRg, va_K.moved hW.alike hK, hsb, hA.2.2.2.2⟩, hva.F ht⟩) hva.2.2 hd hlk
theorem v_zreturn {x : Int} (hr : bX.ret X = some .boolean) (hz : x = 0 ∨ x = 1) (hd : decode (bX.cc X) pc = .ok (.ireturn, 1)) (hkn : kn.1 ≤ (bX.R X).cells ∧ kn.2 ≤ (bX.R X).slots) (hp : Post (some (bI x)) M) : VL l E X L kn pc ls [bI x] M (b_std E X L0 L Post) := by
  intro p e s m args below meth c H locs lsA A ad0 ad hX hS hL hsb hG
  obtain ⟨hx, hb, hml, hown, hts, hret, hlk, hK, hnm, hwm⟩ := id hX
  obtain ⟨hl, hlo, hso⟩ := id hL
  obtain ⟨hP, hD, hRg, hva, hA⟩ := id hS
  refine W.widen (k := (bX.R X).cells) (n := (bX.R X).slots) hkn.1 hkn.2 ?_
  exact W.zret hx hb (by rw [hret, hr]) (by rcases hz with rfl | rfl <;> rfl) (fun t ht hW => ⟨⟨(some (bI x)), M, ad, rfl, (fun v hv => by cases hv; exact ok_h hso), hp, by rw [ht]; exact hP, hD, hRg, va_K.moved hW.alike hK, hsb, hA.2.2.2.2⟩, hva.F ht⟩) hva.2.2 hd hlk
theorem v_lreturn {x : Int} (hr : bX.ret X = some .long) (hd : decode (bX.cc X) pc = .ok (.lreturn, 1)) (hkn : kn.1 ≤ (bX.R X).cells ∧ kn.2 ≤ (bX.R X).slots) (hp : Post (some (bJ x)) M) : VL l E X L kn pc ls [bJ x] M (b_std E X L0 L Post) := by
  intro p e s m args below meth c H locs lsA A ad0 ad hX hS hL hsb hG
  obtain ⟨hx, hb, hml, hown, hts, hret, hlk, hK, hnm, hwm⟩ := id hX
  obtain ⟨hl, hlo, hso⟩ := id hL
  obtain ⟨hP, hD, hRg, hva, hA⟩ := id hS
  refine W.widen (k := (bX.R X).cells) (n := (bX.R X).slots) hkn.1 hkn.2 ?_
  exact W.lret hx hb (by rw [hret, hr]) (fun t ht hW => ⟨⟨(some (bJ x)), M, ad, rfl, (fun v hv => by cases hv; exact ok_h hso), hp, by rw [ht]; exact hP, hD, hRg, va_K.moved hW.alike hK, hsb, hA.2.2.2.2⟩, hva.F ht⟩) hva.2.2 hd hlk
theorem v_areturn {c0 : Nat} {rt : FieldType} (hr : bX.ret X = some rt) (hrt : (∃ n, rt = .object n) ∨ ∃ t, rt = .array t) (hd : decode (bX.cc X) pc = .ok (.areturn, 1)) (hkn : kn.1 ≤ (bX.R X).cells ∧ kn.2 ≤ (bX.R X).slots) (hp : Post (some (bR c0)) M) : VL l E X L kn pc ls [bR c0] M (b_std E X L0 L Post) := by
  intro p e s m args below meth c H locs lsA A ad0 ad hX hS hL hsb hG
  obtain ⟨hx, hb, hml, hown, hts, hret, hlk, hK, hnm, hwm⟩ := id hX
  obtain ⟨hl, hlo, hso⟩ := id hL
  obtain ⟨hP, hD, hRg, hva, hA⟩ := id hS
  refine W.widen (k := (bX.R X).cells) (n := (bX.R X).slots) hkn.1 hkn.2 ?_
  exact W.aret hx hb (by rw [hret, hr]) hrt (Or.inr ⟨_, rfl⟩) (fun t ht hW => ⟨⟨(some (bR c0)), M, ad, rfl, (fun v hv => by cases hv; exact ok_h hso), hp, by rw [ht]; exact hP, hD, hRg, va_K.moved hW.alike hK, hsb, hA.2.2.2.2⟩, hva.F ht⟩) hva.2.2 hd hlk
theorem v_return (hr : bX.ret X = none) (hd : decode (bX.cc X) pc = .ok (.return_, 1)) (hkn : kn.1 ≤ (bX.R X).cells ∧ kn.2 ≤ (bX.R X).slots) (hp : Post none M) : VL l E X L kn pc ls [] M (b_std E X L0 L Post) := by
  intro p e s m args below meth c H locs lsA A ad0 ad hX hS hL hsb hG
  obtain ⟨hx, hb, hml, hown, hts, hret, hlk, hK, hnm, hwm⟩ := id hX
  obtain ⟨hl, hlo, hso⟩ := id hL
  obtain ⟨hP, hD, hRg, hva, hA⟩ := id hS
  refine W.widen (k := (bX.R X).cells) (n := (bX.R X).slots) hkn.1 hkn.2 ?_
  exact W.vret hx hb (by rw [hret, hr]) (fun t ht hW => ⟨⟨none, M, ad, rfl, (fun v hv => by cases hv), hp, by rw [ht]; exact hP, hD, hRg, va_K.moved hW.alike hK, hsb, hA.2.2.2.2⟩, hva.F ht⟩) hva.2.2 hd hlk
end Rows
/-! contracts and calls -/
def b_A (L : List Nat) (ad : Nat → Nat) (sz : Nat) : Nat → Prop := fun q => (∃ c, c ∈ L ∧ ad c = q) ∨ sz ≤ q
def b_Pw (E : bE) (L : List Nat) (ad : Nat → Nat) (sz : Nat) (M : bM) (U : State) : Prop := U.heap.size = sz ∧ va_P E.1 b_cl (b_ws E ad M L) U.heap ∧ (∀ (i j a b : Nat), L[i]? = some a → L[j]? = some b → ad a = ad b → i = j) ∧ b_Inv L M ∧ va_K E.1 b_cl (b_tys E) U ∧ (b_S0 E).WarmedH U.vm ∧ (∀ c ∈ L, (b_S0 E).heap.size ≤ ad c) ∧ (b_S0 E).heap.size ≤ sz ∧ (∀ q : Nat, q < (b_S0 E).heap.size → U.heap[q]? = (b_S0 E).heap[q]?) ∧ b_fo E ad
def b_wsy (X : bX) (y : MethodName) : List Cond := Cond.code y (bX.cc X) (bX.nL X) (bX.ret X) :: b_T
/-- method y (of X), called with As in memory M among the cells L0, ends with Post among the cells L1 -/
def b_CL (l : Launch) (E : bE) (X : bX) (y : MethodName) (L0 L1 : List Nat) (As : List bV) (M : bM) (Post : Option bV → bM → Prop) : Prop :=
  (∀ v ∈ As, b_ok v) → b_Inv L0 M → ∀ (ad : Nat → Nat) (sz : Nat), Met l y (b_wsy X y) (bX.R X) (va_Pc (As.map (b_tv ad)) (b_Pw E L0 ad sz M)) (b_Q E (b_A L0 ad sz) (bX.fl X) L0 L1 ad Post) (bX.R X).cells (bX.R X).slots (b_A L0 ad sz)
abbrev b_C (l : Launch) (E : bE) (X : bX) (y : MethodName) (As : List bV) (M : bM) (Post : Option bV → bM → Prop) : Prop := b_CL l E X y b_full b_full As M Post
def b_args : Nat → List bV → bL
  | _, [] => []
  | i, v :: vs => (i, v) :: b_args (if b_c2 v = true then i + 2 else i + 1) vs
theorem b_args_tl (ad : Nat → Nat) (As : List bV) : ∀ i, lv_args i (As.map (b_tv ad)) = b_tl ad (b_args i As) := by
  induction As with
  | nil => intro i; rfl
  | cons v vs ih =>
    intro i
    have hc : ((b_tv ad v).category = 2) ↔ (b_c2 v = true) := by
      rw [← b_c2_cat ad v]
      simp
    simp only [List.map_cons, lv_args, b_args, b_tl, List.map_cons]
    congr 1
    rw [ih]
    simp only [hc]
    rfl
theorem b_args_ok (As : List bV) (h : ∀ v ∈ As, b_ok v) : ∀ i, ∀ q ∈ b_args i As, b_ok q.2 := by
  induction As with
  | nil => intro i q hq; cases hq
  | cons v vs ih =>
    intro i q hq
    rcases List.mem_cons.mp hq with rfl | hq
    · exact h v List.mem_cons_self
    · exact ih (fun w hw => h w (List.mem_cons_of_mem _ hw)) _ q hq
def b_wd (As : List bV) : Nat := (As.map (fun v => if b_c2 v = true then 2 else 1)).sum
theorem b_wd_sl (ad : Nat → Nat) (As : List bV) : (lg_sl (As.map (b_tv ad))).length = b_wd As := by
  induction As with
  | nil => rfl
  | cons v vs ih =>
    have hc : ((b_tv ad v).category = 2) ↔ (b_c2 v = true) := by
      rw [← b_c2_cat ad v]
      simp
    unfold lg_sl b_wd at *
    simp only [List.map_cons, List.flatMap_cons, List.length_append, ih, List.sum_cons, hc]
    split <;> rfl
theorem b_sb_rf (fl : Nat) (L0 : List Nat) (ad : Nat → Nat) : b_sb fl L0 ad ad := by
  unfold b_sb
  split
  · rfl
  · exact fun _ _ => rfl
  · exact fun _ _ _ => rfl
theorem b_met {l : Launch} {E : bE} {X : bX} {y : MethodName} {L0 L1 : List Nat} {As : List bV} {M : bM} {Post : Option bV → bM → Prop} (hy : plainName y.cls = true) (ho : y.cls = bX.own X ∧ y.name = bX.nm X) (hw : b_wd As ≤ bX.nL X) (hV : (∀ v ∈ As, b_ok v) → b_Rg M → VL l E X L0 (0, 0) 0 (b_args 0 As) [] M (b_std E X L0 L1 Post)) : b_CL l E X y L0 L1 As M Post := by
  intro hA hRg0 ad sz
  have hV := hV hA hRg0.1
  refine Met.ofW (cc := bX.cc X) (maxL := bX.nL X) (ret := bX.ret X) hy rfl ?_
  intro p e s m args below meth c s₁ B hml hv
  obtain ⟨rfl, hsz, hP, hinj, hRg, hK, hwm, hlo1, hlo2, hlo3, hfo⟩ := hv
  have hts : ∀ w ∈ b_wsy X y, w.before (As.map (b_tv ad)).toArray s = true := atoms_spec (ws := b_wsy X y) B.pre
  have hown : s.vm.findClass (bX.own X) = some m.cls := by rw [← ho.1]; exact findClass_of_methodNamed B.named
  rw [lg_entry_eq]
  have hl := lv_entry (As.map (b_tv ad)) (n := bX.nL X) (by rw [b_wd_sl]; exact hw)
  rw [b_args_tl] at hl
  exact hV p e s m _ below meth c s.heap [] _ (b_A L0 ad sz) ad ad ⟨B.exec, B.bytes, hml, hown, fun w h => hts w (List.mem_cons_of_mem _ h), B.returns, B.notSynchronized, hK, fun hq => by rw [(name_of_methodNamed B.named B.method).1, ho.2]; exact hq, hwm⟩ ⟨hP, ⟨hinj, fun c hc => Or.inl ⟨c, hc, rfl⟩⟩, hRg, va_S.rf, fun q hq => Or.inr (by rw [← hsz]; exact hq), fun q hq => by
      rcases hq with ⟨c1, h1, rfl⟩ | hq
      · exact hlo1 c1 h1
      · exact Nat.le_trans hlo2 hq, by rw [hsz]; exact hlo2, hlo3, hfo⟩ ⟨hl, b_args_ok As hA 0, fun v hv => by cases hv⟩ (b_sb_rf _ _ _) trivial
theorem b_blind {E : bE} {L : List Nat} {ad : Nat → Nat} {sz : Nat} {M : bM} {vs : List Value} : FrameBlind (va_Pc vs (b_Pw E L ad sz M)) := by
  intro a U g mk q
  obtain ⟨q1, q2, q3, q4, q5, q6, q7⟩ := q
  exact ⟨q1, q2, q3, q4, q5, va_K.moved (u := U) (U := U.calling g mk a) (Vm.Alike.refl U.vm) q6, q7⟩
section Calls
variable {l : Launch} {E : bE} {X Y : bX} {L : List Nat} {kn : Nat × Nat} {pc ix : Nat} {ls : bL} {st : List bV} {M : bM} {G : bG} {PostY : Option bV → bM → Prop} {y : MethodName} {As : List bV}
theorem b_goes {p : Program} {e : Env} {s : State} {m : MethodId} {args : Array Value} {below : List Frame} {meth : Method} {c : Code} {H : Heap} {locs : List Loc} {lsA : Array Slot} {A : Nat → Prop} {ad0 ad : Nat → Nat} {a : Array Value} {st0 : List Value} (hfl : bX.fl Y = 0)
    (hr : va_Run p l e (bX.R X) s m args below meth c H locs kn.1 kn.2 (bX.R Y).cells (bX.R Y).slots (F0 m pc lsA st0) (st.map (b_tv ad)) (b_Q E (b_A L ad H.size) (bX.fl Y) L L ad PostY a) (b_A L ad H.size))
    (hX : b_At E X p s m args meth c) (hS : b_St E L ad M A s H locs) (hl : lv_has lsA (bX.nL X) (b_tl ad ls)) (hlo : ∀ q ∈ ls, b_ok q.2) (hso : ∀ v ∈ st, b_ok v) (hsb : b_sb (bX.fl X) G.2.2 ad0 ad) (hG : G.2.1 s A)
    (k : ∀ r M', PostY r M' → VL l E X L (kn.1 + (bX.R Y).cells, kn.2 + (bX.R Y).slots) (pc + 3) ls (r.toList ++ st) M' G) :
    W p l e (bX.R X) s m args below meth c H locs kn.1 kn.2 (G.1 s args below A ad0) (F0 m pc lsA st0) := by
  intro T hT X0
  obtain ⟨v, st₀, t, T', L9, h0, X', hL, e1, e2, ⟨⟨r, M', ad', hv, hok, hpost, hP', hD', hRg', hK', hsb', hfo'⟩, hz, hk⟩, stp⟩ := hr T hT X0
  obtain ⟨hP, hD, hRg, hva, hA⟩ := hS
  rw [hfl] at hsb'
  have had : ad' = ad := hsb'
  subst had
  cases hv
  rw [h0] at hz hk
  have hsub : ∀ q, b_A L ad' H.size q → A q := by
    intro q hq
    rcases hq with ⟨c1, hc1, rfl⟩ | hq
    · exact hD.2 c1 hc1
    · exact hA.1 q (Nat.le_trans hva.1 hq)
  have hSn : va_S A s.heap T'.heap (locs ++ L9) := ⟨Nat.le_trans hva.1 (by rw [e1]; exact hz), fun q h1 h2 => by
      rw [e1, hk q (Nat.lt_of_lt_of_le h1 hva.1) (fun z => h2 (hsub q z))]
      exact hva.2.1 q h1 h2, fun q hq => by
      rcases List.mem_append.mp hq with h | h
      · exact hva.2.2 q h
      · exact hsub _ (hL q h)⟩
  have hst : ∀ w ∈ r.toList ++ st, b_ok w := by
    intro w hw
    rcases List.mem_append.mp hw with h | h
    · exact hok w (by simpa using h)
    · exact hso w h
  have h := k r M' hpost p e s m args below meth c T'.heap (locs ++ L9) lsA A ad0 ad' hX ⟨by rw [e1]; exact hP', hD, hRg', hSn, hA⟩ ⟨hl, hlo, hst⟩ hsb hG
  obtain ⟨t2, a1, b1⟩ := h T' rfl X'
  refine ⟨t2, stp t2 ?_, b1⟩
  have hmap : List.map (b_tv ad') (r.toList ++ st) = (Option.map (b_tv ad') r).toList ++ List.map (b_tv ad') st := by
    cases r <;> simp
  rw [hmap] at a1
  exact a1
theorem v_callVg {ci n c0 nA : Nat} {q : vw_C} (hC : b_CL l E Y y L L (bR c0 :: As) M PostY) (hfl : bX.fl Y = 0) (hm : c0 ∈ L) (hk : b_kd c0 = (0, ci, n)) (hq : b_cl[ci]? = some q) (hcls : y.cls = q.1)
    (hw : Cond.code y (bX.cc Y) (bX.nL Y) (bX.ret Y) ∈ b_T) (hwl : Cond.methodLink (bX.own X) ix y ∈ b_T) (hwi : Cond.instanceMethod y ∈ b_T) (hws : Cond.selects q.1 y y ∈ b_T) (hwn : Cond.initialized q.1 ∈ b_T)
    (hd0 : q.1 ≠ "java/lang/invoke/MethodHandle" ∧ q.1 ≠ "java/lang/invoke/VarHandle" ∧ (parseMethodDescriptor y.desc).map (fun d => d.parameters.length) = some nA) (hn : As.length = nA)
    (hroom : (bX.R Y).frames + 1 ≤ (bX.R X).frames ∧ 8 + (bX.nL Y + 11) + (bX.R Y).locals ≤ (bX.R X).locals) (hmc : kn.1 + (bX.R Y).cells ≤ (bX.R X).cells ∧ kn.2 + (bX.R Y).slots ≤ (bX.R X).slots) (hcat : (st.map (fun v => if b_c2 v = true then 2 else 1)).sum ≤ 8)
    (hd : decode (bX.cc X) pc = .ok (.invokevirtual ix, 3)) (k : ∀ r M', PostY r M' → VL l E X L (kn.1 + (bX.R Y).cells, kn.2 + (bX.R Y).slots) (pc + 3) ls (r.toList ++ st) M' G) : VL l E X L kn pc ls (As.reverse ++ bR c0 :: st) M G := by
  intro p e s m args below meth c H locs lsA A ad0 ad hX hS hL hsb hG
  obtain ⟨hx, hb, hml, hown, hts, hret, hlk, hK, hnm, hwm⟩ := id hX
  obtain ⟨hl, hlo, hso⟩ := id hL
  obtain ⟨hP, hD, hRg, hva, hA⟩ := id hS
  have hc : c0 < b_NC := b_lt hk (by simp)
  obtain ⟨q0, hq0⟩ := List.getElem?_of_mem hm
  have hat := b_at (E := E) (ad := ad) (M := M) hq0
  have hel : b_el E ad M c0 = .inr (ci, (List.range n).map (b_fv ad M c0 ci)) := by simp only [b_el, hk]
  rw [hel] at hat
  have hso2 : ∀ v ∈ st, b_ok v := fun v hv => hso v (List.mem_append_right _ (List.mem_cons_of_mem _ hv))
  have hGd : GoodIn b_T (wsV (bX.own X) ix q.1 y (b_wsy Y y)) := by
    intro w hw1
    have hmem : w ∈ b_T := by
      unfold wsV at hw1
      rcases List.mem_append.mp hw1 with h | h
      · simp only [List.mem_cons, List.not_mem_nil, or_false] at h
        rcases h with rfl | rfl | rfl | rfl
        · exact hwl
        · exact hwi
        · exact hws
        · exact hwn
      · rcases List.mem_cons.mp h with rfl | h
        · exact hw
        · exact h
    exact b_good w hmem
  have hcatA : ∀ l0 : List bV, ((l0.map (b_tv ad)).map fun v => v.category) = l0.map (fun v => if b_c2 v = true then 2 else 1) := by
    intro l0
    rw [List.map_map]
    apply List.map_congr_left
    intro v _
    rcases v with x | x | x <;> rfl
  have hr := va_runV (p := p) (l := l) (e := e) (R := bX.R X) (below := below) (meth := meth) (locs := locs) (cells := kn.1) (slots := kn.2) (g := F0 m pc lsA ((As.reverse ++ bR c0 :: st).map (b_tv ad))) (As := As.map (b_tv ad)) (b := ad c0) (rest := st.map (b_tv ad)) (C := q.1) (H := H) ⟨hx, hb, hml, hown, hts⟩ (hC (fun v hv => by
      rcases List.mem_cons.mp hv with rfl | hv
      · trivial
      · exact hso v (List.mem_append_left _ (List.mem_reverse.mpr hv))) hRg ad H.size)
    (cwV nA hts hGd rfl rfl rfl ⟨hcls, by rw [hcls]; exact hd0.1, by rw [hcls]; exact hd0.2.1, hd0.2.2⟩ hroom)
    ⟨b_blind, va_recv hK hP hq hat, fun U hU hW => ⟨rfl, by rw [hU], by rw [hU]; exact hP, hD.1, hRg, va_K.moved hW.alike hK, State.WarmedH.trans hwm hW, fun c1 h1 => hA.2.1 _ (hD.2 c1 h1), Nat.le_trans hA.2.2.1 hva.1, fun q1 h1 => by rw [hU, hva.2.1 q1 (Nat.lt_of_lt_of_le h1 hA.2.2.1) (fun z => Nat.not_le.mpr h1 (hA.2.1 q1 z))]; exact hA.2.2.2.1 q1 h1, hA.2.2.2.2⟩⟩ rfl (by rw [List.length_map]; exact hn) hl.1 (by simp [b_tv]) (lv_room (by rw [hcatA]; exact hcat)) hd hmc
  exact b_goes hfl hr hX hS hl hlo hso2 hsb hG k
theorem v_callS {nA : Nat} (hC : b_CL l E Y y L L As M PostY) (hfl : bX.fl Y = 0)
    (hw : Cond.code y (bX.cc Y) (bX.nL Y) (bX.ret Y) ∈ b_T) (hwl : Cond.methodLink (bX.own X) ix y ∈ b_T) (hws : Cond.static y ∈ b_T) (hwn : Cond.initialized y.cls ∈ b_T)
    (hd0 : y.cls ≠ "java/lang/invoke/MethodHandle" ∧ y.cls ≠ "java/lang/invoke/VarHandle" ∧ (parseMethodDescriptor y.desc).map (fun d => d.parameters.length) = some nA) (hn : As.length = nA)
    (hroom : (bX.R Y).frames + 1 ≤ (bX.R X).frames ∧ 8 + (bX.nL Y + 11) + (bX.R Y).locals ≤ (bX.R X).locals) (hmc : kn.1 + (bX.R Y).cells ≤ (bX.R X).cells ∧ kn.2 + (bX.R Y).slots ≤ (bX.R X).slots) (hcat : (st.map (fun v => if b_c2 v = true then 2 else 1)).sum ≤ 8)
    (hd : decode (bX.cc X) pc = .ok (.invokestatic ix, 3)) (k : ∀ r M', PostY r M' → VL l E X L (kn.1 + (bX.R Y).cells, kn.2 + (bX.R Y).slots) (pc + 3) ls (r.toList ++ st) M' G) : VL l E X L kn pc ls (As.reverse ++ st) M G := by
  intro p e s m args below meth c H locs lsA A ad0 ad hX hS hL hsb hG
  obtain ⟨hx, hb, hml, hown, hts, hret, hlk, hK, hnm, hwm⟩ := id hX
  obtain ⟨hl, hlo, hso⟩ := id hL
  obtain ⟨hP, hD, hRg, hva, hA⟩ := id hS
  have hso2 : ∀ v ∈ st, b_ok v := fun v hv => hso v (List.mem_append_right _ hv)
  have hGd : GoodIn b_T (b_wsy Y y) := by
    intro w hw1
    have hmem : w ∈ b_T := by
      rcases List.mem_cons.mp hw1 with rfl | h
      · exact hw
      · exact h
    exact b_good w hmem
  have hcatA : ∀ l0 : List bV, ((l0.map (b_tv ad)).map fun v => v.category) = l0.map (fun v => if b_c2 v = true then 2 else 1) := by
    intro l0
    rw [List.map_map]
    apply List.map_congr_left
    intro v _
    rcases v with x | x | x <;> rfl
  have hr := va_runS (p := p) (l := l) (e := e) (R := bX.R X) (below := below) (meth := meth) (locs := locs) (cells := kn.1) (slots := kn.2) (g := F0 m pc lsA ((As.reverse ++ st).map (b_tv ad))) (As := As.map (b_tv ad)) (rest := st.map (b_tv ad)) (H := H) ⟨hx, hb, hml, hown, hts⟩ (hC (fun v hv => hso v (List.mem_append_left _ (List.mem_reverse.mpr hv))) hRg ad H.size)
    ⟨callB_of nA hts hGd rfl rfl rfl (hts _ hwn) (hts _ hwl) hd0 hroom, hts _ hws⟩
    ⟨b_blind, fun U hU hW => ⟨rfl, by rw [hU], by rw [hU]; exact hP, hD.1, hRg, va_K.moved hW.alike hK, State.WarmedH.trans hwm hW, fun c1 h1 => hA.2.1 _ (hD.2 c1 h1), Nat.le_trans hA.2.2.1 hva.1, fun q1 h1 => by rw [hU, hva.2.1 q1 (Nat.lt_of_lt_of_le h1 hA.2.2.1) (fun z => Nat.not_le.mpr h1 (hA.2.1 q1 z))]; exact hA.2.2.2.1 q1 h1, hA.2.2.2.2⟩⟩ rfl (by rw [List.length_map]; exact hn) hl.1 (by simp) (lv_room (by rw [hcatA]; exact hcat)) hd hmc
  exact b_goes hfl hr hX hS hl hlo hso2 hsb hG k
end Calls
theorem v_callV {l : Launch} {E : bE} {X Y : bX} {kn : Nat × Nat} {pc ix : Nat} {ls : bL} {st : List bV} {M : bM} {G : bG} {PostY : Option bV → bM → Prop} {y : MethodName} {As : List bV} {ci n c0 nA : Nat} {q : vw_C} (hC : b_C l E Y y (bR c0 :: As) M PostY) (hfl : bX.fl Y = 0) (hk : b_kd c0 = (0, ci, n)) (hq : b_cl[ci]? = some q) (hcls : y.cls = q.1)
    (hw : Cond.code y (bX.cc Y) (bX.nL Y) (bX.ret Y) ∈ b_T) (hwl : Cond.methodLink (bX.own X) ix y ∈ b_T) (hwi : Cond.instanceMethod y ∈ b_T) (hws : Cond.selects q.1 y y ∈ b_T) (hwn : Cond.initialized q.1 ∈ b_T)
    (hd0 : q.1 ≠ "java/lang/invoke/MethodHandle" ∧ q.1 ≠ "java/lang/invoke/VarHandle" ∧ (parseMethodDescriptor y.desc).map (fun d => d.parameters.length) = some nA) (hn : As.length = nA)
    (hroom : (bX.R Y).frames + 1 ≤ (bX.R X).frames ∧ 8 + (bX.nL Y + 11) + (bX.R Y).locals ≤ (bX.R X).locals) (hmc : kn.1 + (bX.R Y).cells ≤ (bX.R X).cells ∧ kn.2 + (bX.R Y).slots ≤ (bX.R X).slots) (hcat : (st.map (fun v => if b_c2 v = true then 2 else 1)).sum ≤ 8)
    (hd : decode (bX.cc X) pc = .ok (.invokevirtual ix, 3)) (k : ∀ r M', PostY r M' → VL l E X b_full (kn.1 + (bX.R Y).cells, kn.2 + (bX.R Y).slots) (pc + 3) ls (r.toList ++ st) M' G) : VL l E X b_full kn pc ls (As.reverse ++ bR c0 :: st) M G := v_callVg hC hfl (b_in hk (by simp)) hk hq hcls hw hwl hwi hws hwn hd0 hn hroom hmc hcat hd k
