theorem wt_11 : Cond.instantiable "BurntHall" 11 ∈ b_T := b_mem (i := 22) (by decide +kernel) rfl
theorem wt_10 : Cond.instantiable "BurntHall$Tape" 8 ∈ b_T := b_mem (i := 30) (by decide +kernel) rfl
theorem wt_8 : Cond.instantiable "BurntHall$People" 14 ∈ b_T := b_mem (i := 71) (by decide +kernel) rfl
theorem wt_5 : Cond.instantiable "BurntHall$Lots" 20 ∈ b_T := b_mem (i := 125) (by decide +kernel) rfl
theorem wt_1 : Cond.instantiable "BurntHall$Acts" 12 ∈ b_T := b_mem (i := 258) (by decide +kernel) rfl
theorem wt_0 : Cond.instantiable "BurntHall$Act" 6 ∈ b_T := b_mem (i := 269) (by decide +kernel) rfl
theorem wt_7 : Cond.instantiable "BurntHall$Papers" 19 ∈ b_T := b_mem (i := 340) (by decide +kernel) rfl
theorem wt_4 : Cond.instantiable "BurntHall$Evidence" 13 ∈ b_T := b_mem (i := 418) (by decide +kernel) rfl
theorem wt_2 : Cond.instantiable "BurntHall$Chains" 20 ∈ b_T := b_mem (i := 467) (by decide +kernel) rfl
theorem wt_6 : Cond.instantiable "BurntHall$Mortgages" 8 ∈ b_T := b_mem (i := 536) (by decide +kernel) rfl
theorem wt_3 : Cond.instantiable "BurntHall$Claims" 15 ∈ b_T := b_mem (i := 568) (by decide +kernel) rfl
theorem wt_9 : Cond.instantiable "BurntHall$Places" 16 ∈ b_T := b_mem (i := 623) (by decide +kernel) rfl
theorem wt_12 : Cond.instantiable "BurntHallModel" 125 ∈ b_T := b_mem (i := 1688) (by decide +kernel) rfl
theorem wcl_BurntHallLaw_7 : Cond.classLink "BurntHallLaw" 7 "BurntHall" ∈ b_T := b_mem (i := 21) (by decide +kernel) rfl
theorem wcl_11_7 : Cond.classLink "BurntHall" 7 "BurntHall$Tape" ∈ b_T := b_mem (i := 29) (by decide +kernel) rfl
theorem wcl_11_16 : Cond.classLink "BurntHall" 16 "BurntHall$People" ∈ b_T := b_mem (i := 70) (by decide +kernel) rfl
theorem wcl_11_23 : Cond.classLink "BurntHall" 23 "BurntHall$Lots" ∈ b_T := b_mem (i := 124) (by decide +kernel) rfl
theorem wcl_11_30 : Cond.classLink "BurntHall" 30 "BurntHall$Acts" ∈ b_T := b_mem (i := 257) (by decide +kernel) rfl
theorem wcl_1_11 : Cond.classLink "BurntHall$Acts" 11 "BurntHall$Act" ∈ b_T := b_mem (i := 263) (by decide +kernel) rfl
theorem wcl_11_39 : Cond.classLink "BurntHall" 39 "BurntHall$Papers" ∈ b_T := b_mem (i := 339) (by decide +kernel) rfl
theorem wcl_11_46 : Cond.classLink "BurntHall" 46 "BurntHall$Evidence" ∈ b_T := b_mem (i := 417) (by decide +kernel) rfl
theorem wcl_11_55 : Cond.classLink "BurntHall" 55 "BurntHall$Chains" ∈ b_T := b_mem (i := 466) (by decide +kernel) rfl
theorem wcl_11_64 : Cond.classLink "BurntHall" 64 "BurntHall$Mortgages" ∈ b_T := b_mem (i := 535) (by decide +kernel) rfl
theorem wcl_11_73 : Cond.classLink "BurntHall" 73 "BurntHall$Claims" ∈ b_T := b_mem (i := 567) (by decide +kernel) rfl
theorem wcl_11_82 : Cond.classLink "BurntHall" 82 "BurntHall$Places" ∈ b_T := b_mem (i := 622) (by decide +kernel) rfl
theorem wcl_java_util_Arrays_320 : Cond.classLink "java/util/Arrays" 320 "[J" ∈ b_T := b_mem (i := 1132) (by decide +kernel) rfl
theorem wcl_BurntHallLaw_10 : Cond.classLink "BurntHallLaw" 10 "BurntHallModel" ∈ b_T := b_mem (i := 1687) (by decide +kernel) rfl
theorem dfX0 : ∀ k, k < 6 → defaultValue (tyX0 k) = (if (b_fk 0 k).1 = 0 then .int 0 else if (b_fk 0 k).1 = 1 then .long 0 else .null) := by decide +kernel
theorem dfX1 : ∀ k, k < 12 → defaultValue (tyX1 k) = (if (b_fk 1 k).1 = 0 then .int 0 else if (b_fk 1 k).1 = 1 then .long 0 else .null) := by decide +kernel
theorem dfX2 : ∀ k, k < 20 → defaultValue (tyX2 k) = (if (b_fk 2 k).1 = 0 then .int 0 else if (b_fk 2 k).1 = 1 then .long 0 else .null) := by decide +kernel
theorem dfX3 : ∀ k, k < 15 → defaultValue (tyX3 k) = (if (b_fk 3 k).1 = 0 then .int 0 else if (b_fk 3 k).1 = 1 then .long 0 else .null) := by decide +kernel
theorem dfX4 : ∀ k, k < 13 → defaultValue (tyX4 k) = (if (b_fk 4 k).1 = 0 then .int 0 else if (b_fk 4 k).1 = 1 then .long 0 else .null) := by decide +kernel
theorem dfX5 : ∀ k, k < 20 → defaultValue (tyX5 k) = (if (b_fk 5 k).1 = 0 then .int 0 else if (b_fk 5 k).1 = 1 then .long 0 else .null) := by decide +kernel
theorem dfX6 : ∀ k, k < 8 → defaultValue (tyX6 k) = (if (b_fk 6 k).1 = 0 then .int 0 else if (b_fk 6 k).1 = 1 then .long 0 else .null) := by decide +kernel
theorem dfX7 : ∀ k, k < 19 → defaultValue (tyX7 k) = (if (b_fk 7 k).1 = 0 then .int 0 else if (b_fk 7 k).1 = 1 then .long 0 else .null) := by decide +kernel
theorem dfX8 : ∀ k, k < 14 → defaultValue (tyX8 k) = (if (b_fk 8 k).1 = 0 then .int 0 else if (b_fk 8 k).1 = 1 then .long 0 else .null) := by decide +kernel
theorem dfX9 : ∀ k, k < 16 → defaultValue (tyX9 k) = (if (b_fk 9 k).1 = 0 then .int 0 else if (b_fk 9 k).1 = 1 then .long 0 else .null) := by decide +kernel
theorem dfX10 : ∀ k, k < 8 → defaultValue (tyX10 k) = (if (b_fk 10 k).1 = 0 then .int 0 else if (b_fk 10 k).1 = 1 then .long 0 else .null) := by decide +kernel
theorem dfX11 : ∀ k, k < 11 → defaultValue (tyX11 k) = (if (b_fk 11 k).1 = 0 then .int 0 else if (b_fk 11 k).1 = 1 then .long 0 else .null) := by decide +kernel
theorem dfX12 : ∀ k, k < 125 → defaultValue (tyX12 k) = (if (b_fk 12 k).1 = 0 then .int 0 else if (b_fk 12 k).1 = 1 then .long 0 else .null) := by decide +kernel
section Refs
variable {l : Launch} {E : bE} {X : bX} {kn : Nat × Nat} {pc : Nat} {ls : bL} {st : List bV} {M : bM} {G : bG} {L : List Nat}
theorem g_anew {c0 n z ix : Nat} (hk : b_kd c0 = (5, n, z)) (hc : c0 ∉ L) (hc0 : c0 ∉ G.2.2) (hM : ∀ i, M c0 i = 0) (hf : L ++ [c0] ≠ b_full) (hls : ∀ q ∈ ls, b_nr c0 q.2) (hst : ∀ v ∈ st, b_nr c0 v) (hfl : bX.fl X = 1) (hn : n ≤ 60000) (hao : va_AO "BurntHall$Act" (b_S0 E)) (hw : Cond.classLink (bX.own X) ix "BurntHall$Act" ∈ b_T) (hmc : kn.1 + 1 ≤ (bX.R X).cells ∧ kn.2 + n ≤ (bX.R X).slots) (hd : decode (bX.cc X) pc = .ok (.anewarray ix, 3)) (k : VL l E X (L ++ [c0]) (kn.1 + 1, kn.2 + n) (pc + 3) ls (bR c0 :: st) M G) : VL l E X L kn pc ls (bI n :: st) M G := by
  intro p e s m args below meth c H locs lsA A ad0 ad hX hS hL hsb hG
  obtain ⟨hx, hb, hml, hown, hts, hret, hlk, hK, hnm, hwm⟩ := id hX
  obtain ⟨hl, hlo, hso⟩ := id hL
  obtain ⟨hP, hD, hRg, hva, hA⟩ := id hS
  have hrn : b_r32 n := ⟨by omega, by omega⟩
  have hni : (Int32.ofInt n).toNatClampNeg = n := by
    show (Int32.ofInt n).toInt.toNat = n
    rw [to32 hrn]
    rfl
  refine va_newq hx hb hown (hts _ hw) (va_AO.moved hwm.alike hao) hK hP (b_Dv hD) hva hA.1 (N' := n) (fun q => by
    have h0 := (lt32 hrn r32_0).mp q
    omega) hni (by omega) hmc.1 hmc.2 hd (fun q cA H1 hK1 hP1 hD1 hS1 => ?_)
  have hcA : cA = E.2.1 5 := by
    obtain ⟨-, -, -, -, -, h1⟩ := (hK1.2 5 (cA, .object "BurntHall$Act") rfl).2
    obtain ⟨-, -, -, -, -, h2⟩ := (hK.2 4 (E.2.1 5, .object "BurntHall$Act") rfl).2
    exact Option.some.inj (h1.symm.trans h2)
  subst hcA
  have hel : b_el E (b_ex ad c0 q) M c0 = .inl (E.2.1 5, n, .inr (.inr (.inr (.inr (fun _ => none))))) := by
    simp only [b_el, hk, hM, true_or, if_true]
  have hws : b_ws E (b_ex ad c0 q) M (L ++ [c0]) = b_ws E ad M L ++ [(q, .inl (E.2.1 5, n, .inr (.inr (.inr (.inr (fun _ => none))))))] := by
    have h1 := b_ws_ex (E := E) (ad := ad) (M := M) (a := q) hc hRg.2.2
    unfold b_ws at h1 ⊢
    rw [List.map_append, h1]
    show _ ++ [(b_ex ad c0 q c0, b_el E (b_ex ad c0 q) M c0)] = _
    rw [hel, show b_ex ad c0 q c0 = q by unfold b_ex; rw [if_pos rfl]]
  rw [← hws] at hP1 hD1
  have h := k p e s m args below meth c H1 locs lsA A ad0 (b_ex ad c0 q) hX ⟨hP1, b_Dw hD1, b_Inv_new hRg hM hf, hS1, hA.1, hA.2.1, hA.2.2.1, hA.2.2.2.1, fun z hz => by rw [b_ex_ne (by have := b_lt hk (by simp); unfold b_NC at this; omega)]; exact hA.2.2.2.2 z hz⟩ ⟨by rw [b_ex_tl hls]; exact hl, hlo, ok_c (v := bR c0) trivial (ok_t hso)⟩ (b_sb_new hfl hsb hc0) hG
  rw [List.map_cons, b_ex_map hst, show b_tv (b_ex ad c0 q) (bR c0) = .ref q by show Value.ref (b_ex ad c0 q c0) = _; unfold b_ex; rw [if_pos rfl]] at h
  exact h
theorem g_aastore {c0 n z cv nv : Nat} {i : Int} (hm : c0 ∈ L) (hk : b_kd c0 = (5, n, z)) (hi : 0 ≤ i ∧ i < n) (hn : n < 2147483648) (hmv : cv ∈ L) (hkv : b_kd cv = (0, 0, nv)) (hcv : cv = 12 + i.toNat) (hd : decode (bX.cc X) pc = .ok (.aastore, 1)) (k : VL l E X L kn (pc + 1) ls st (b_up M c0 i 1) G) : VL l E X L kn pc ls (bR cv :: bI i :: bR c0 :: st) M G := by
  intro p e s m args below meth c H locs lsA A ad0 ad hX hS hL hsb hG
  obtain ⟨hx, hb, hml, hown, hts, hret, hlk, hK, hnm, hwm⟩ := id hX
  obtain ⟨hl, hlo, hso⟩ := id hL
  obtain ⟨hP, hD, hRg, hva, hA⟩ := id hS
  have hc : c0 < b_NC := b_lt hk (by simp)
  obtain ⟨q0, hq0⟩ := List.getElem?_of_mem hm
  obtain ⟨qv, hqv⟩ := List.getElem?_of_mem hmv
  have hat := b_at (E := E) (ad := ad) (M := M) hq0
  have hatv := b_at (E := E) (ad := ad) (M := M) hqv
  have hel : b_el E ad M c0 = .inl (E.2.1 5, n, .inr (.inr (.inr (.inr (fun i => if M c0 i = 0 ∨ n ≤ i then none else some (ad (12 + i))))))) := by simp only [b_el, hk]
  have helv : b_el E ad M cv = .inr (0, (List.range nv).map (b_fv ad M cv 0)) := by simp only [b_el, hkv]
  rw [hel] at hat
  rw [helv] at hatv
  obtain ⟨hin, hcl⟩ := nat32 hi hn
  refine va_astq hx hb hK hP (b_Dv hD) hva q0 4 qv 0 (r := (RX0, TX0, 6)) hat rfl hatv rfl hin hd (fun H1 locs1 hP1 hD1 hS1 => ?_)
  have hnew : b_el E ad (b_up M c0 i 1) c0 = .inl (E.2.1 5, n, .inr (.inr (.inr (.inr (va_up (fun i => if M c0 i = 0 ∨ n ≤ i then none else some (ad (12 + i))) (Int32.ofInt i).toNatClampNeg (some (ad cv))))))) := by
    simp only [b_el, hk]
    congr 7
    funext j
    unfold va_up b_up
    rw [hcl]
    by_cases q : j = i.toNat
    · have q2 : (j : Int) = i := by omega
      rw [show (if c0 = c0 ∧ (j : Int) = i then (1 : Int) else M c0 j) = 1 from if_pos ⟨rfl, q2⟩, if_neg (by omega), if_pos q, hcv, q]
    · have q2 : ¬ (j : Int) = i := by omega
      rw [show (if c0 = c0 ∧ (j : Int) = i then (1 : Int) else M c0 j) = M c0 j from if_neg (fun h => q2 h.2), if_neg q]
  have hset := b_ws_set (E := E) (M := M) (c := c0) (i := i) (x := 1) hD hq0 hc hnew
  have hP2 : va_P E.1 b_cl (b_ws E ad (b_up M c0 i 1) L) H1 := by rw [← hset]; exact hP1
  exact k p e s m args below meth c H1 locs1 lsA A ad0 ad hX ⟨hP2, hD, b_Inv_ref hRg hc (by rw [show b_lg c0 i = false by simp only [b_lg, hk]]; exact ⟨by decide, by decide⟩) (by decide) (by
    simp only [b_tg, hk]
    rw [← hcv]
    exact hmv), hS1, hA⟩ ⟨hl, hlo, ok_t (ok_t (ok_t hso))⟩ hsb hG
end Refs
