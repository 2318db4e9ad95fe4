/-! Rows that make cells. -/
def b_ex (ad : Nat → Nat) (c a : Nat) : Nat → Nat := fun z => if z = c then a else ad z
def b_nr (c0 : Nat) : bV → Prop
  | .inr (.inr c) => c ≠ c0
  | _ => True
theorem b_ex_tv {ad : Nat → Nat} {c0 a : Nat} {v : bV} (h : b_nr c0 v) : b_tv (b_ex ad c0 a) v = b_tv ad v := by
  rcases v with x | x | x
  · rfl
  · rfl
  · show Value.ref (b_ex ad c0 a x) = Value.ref (ad x)
    unfold b_ex
    rw [if_neg h]
theorem b_ex_map {ad : Nat → Nat} {c0 a : Nat} {st : List bV} (h : ∀ v ∈ st, b_nr c0 v) : st.map (b_tv (b_ex ad c0 a)) = st.map (b_tv ad) := List.map_congr_left (fun v hv => b_ex_tv (h v hv))
theorem b_ex_tl {ad : Nat → Nat} {c0 a : Nat} {ls : bL} (h : ∀ q ∈ ls, b_nr c0 q.2) : b_tl (b_ex ad c0 a) ls = b_tl ad ls := List.map_congr_left (fun q hq => by show (q.1, _) = (q.1, _); rw [b_ex_tv (h q hq)])
theorem b_el_ad5 {E : bE} {ad ad2 : Nat → Nat} {M : bM} {c k2 k3 : Nat} (hk : b_kd c = (5, k2, k3)) (h : ∀ i, b_rf c i = true → M c i ≠ 0 → ad2 (b_tg M c i) = ad (b_tg M c i)) : b_el E ad2 M c = b_el E ad M c := by
  simp only [b_el, hk]
  congr 7
  funext i
  have h1 := h i
  simp only [b_rf, b_tg, hk, Int.toNat_natCast] at h1
  by_cases hz : M c i = 0 ∨ k2 ≤ i
  · rw [if_pos hz, if_pos hz]
  · rw [if_neg hz, if_neg hz, h1 (by simp; omega) (fun q => hz (Or.inl q))]
theorem b_ex_ne {ad : Nat → Nat} {c a z : Nat} (h : z ≠ c) : b_ex ad c a z = ad z := if_neg h
theorem b_el_ad {E : bE} {ad ad2 : Nat → Nat} {M : bM} {c : Nat} (h : ∀ i, b_rf c i = true → M c i ≠ 0 → ad2 (b_tg M c i) = ad (b_tg M c i)) : b_el E ad2 M c = b_el E ad M c := by
  rcases hk : b_kd c with ⟨k1, k2, k3⟩
  match k1, hk with
  | 0, hk =>
    simp only [b_el, hk]
    congr 2
    apply List.map_congr_left
    intro k hk2
    have hk3 : k < k3 := List.mem_range.mp hk2
    have h1 := h k
    simp only [b_rf, b_tg, hk, Int.toNat_natCast] at h1
    rcases hF : b_fk k2 k with ⟨f1, f2⟩
    simp only [hF] at h1
    match f1, hF, h1 with
    | 0, hF, h1 => simp only [b_fv, hF]
    | 1, hF, h1 => simp only [b_fv, hF]
    | 2, hF, h1 =>
      simp only [b_fv, hF]
      by_cases hz : M c k = 0
      · rw [if_pos hz, if_pos hz]
      · rw [if_neg hz, if_neg hz]
        exact congrArg Value.ref (h1 (by simpa using hk3) hz)
    | 3, hF, h1 =>
      simp only [b_fv, hF]
      by_cases hz : M c k = 0
      · rw [if_pos hz, if_pos hz]
      · rw [if_neg hz, if_neg hz]
        exact congrArg Value.ref (h1 (by simpa using hk3) hz)
    | f + 4, hF, h1 =>
      simp only [b_fv, hF]
      by_cases hz : M c k = 0
      · rw [if_pos hz, if_pos hz]
      · rw [if_neg hz, if_neg hz]
        exact congrArg Value.ref (h1 (by simpa using hk3) hz)
  | 1, hk => simp only [b_el, hk]
  | 2, hk => simp only [b_el, hk]
  | 3, hk => simp only [b_el, hk]
  | 4, hk => simp only [b_el, hk]
  | 5, hk => exact b_el_ad5 hk h
  | k + 6, hk => simp only [b_el, hk]
theorem b_Dw {E : bE} {L : List Nat} {ad : Nat → Nat} {M : bM} {A : Nat → Prop} (h : va_D A (b_ws E ad M L)) : b_D L ad A := by
  refine ⟨fun i j a b hi hj hab => h.1 i j _ _ (b_at hi) (b_at hj) hab, fun c hc => ?_⟩
  obtain ⟨q, hq⟩ := List.getElem?_of_mem hc
  exact h.2 q _ (b_at hq)
theorem b_ws_ex {E : bE} {L : List Nat} {ad : Nat → Nat} {M : bM} {c0 a : Nat} (hc : c0 ∉ L) (hcl : b_cld L M) : b_ws E (b_ex ad c0 a) M L = b_ws E ad M L := by
  unfold b_ws
  apply List.map_congr_left
  intro c hm
  have h1 : b_ex ad c0 a c = ad c := by
    unfold b_ex
    rw [if_neg]
    intro q
    exact hc (q ▸ hm)
  have h2 : b_el E (b_ex ad c0 a) M c = b_el E ad M c := b_el_ad (fun i hr hz => b_ex_ne (fun q => hc (q ▸ hcl c hm i hr hz)))
  rw [h1, h2]
theorem b_Inv_new {L : List Nat} {M : bM} {c0 : Nat} (h : b_Inv L M) (hM : ∀ i, M c0 i = 0) (hf : L ++ [c0] ≠ b_full) : b_Inv (L ++ [c0]) M := by
  refine ⟨h.1, fun q => absurd q hf, fun c hc i hr hz => ?_⟩
  rcases List.mem_append.mp hc with hc | hc
  · exact List.mem_append_left _ (h.2.2 c hc i hr hz)
  · rw [List.mem_singleton.mp hc] at hz
    exact absurd (hM i) hz
theorem b_sb_new {fl : Nat} {L0 : List Nat} {ad0 ad : Nat → Nat} {c0 a : Nat} (hfl : fl = 1) (h : b_sb fl L0 ad0 ad) (hc : c0 ∉ L0) : b_sb fl L0 ad0 (b_ex ad c0 a) := by
  subst hfl
  intro c hm
  show b_ex ad c0 a c = ad0 c
  rw [b_ex_ne (by rintro rfl; exact hc hm)]
  exact h c hm
section Build
variable {l : Launch} {E : bE} {X : bX} {kn : Nat × Nat} {pc : Nat} {ls : bL} {st : List bV} {M : bM} {G : bG} {L : List Nat}
theorem g_newa_int {c0 n z : Nat} (hk : b_kd c0 = (1, n, z)) (hc : c0 ∉ L) (hc0 : c0 ∉ G.2.2) (hM : ∀ i, M c0 i = 0) (hf : L ++ [c0] ≠ b_full) (hls : ∀ q ∈ ls, b_nr c0 q.2) (hst : ∀ v ∈ st, b_nr c0 v) (hfl : bX.fl X = 1) (hn : n ≤ 60000) (hw : Cond.arrayClass .int ∈ b_T) (hmc : kn.1 + 1 ≤ (bX.R X).cells ∧ kn.2 + n ≤ (bX.R X).slots) (hd : decode (bX.cc X) pc = .ok (.newarray .int, 2)) (k : VL l E X (L ++ [c0]) (kn.1 + 1, kn.2 + n) (pc + 2) ls (bR c0 :: st) M G) : VL l E X L kn pc ls (bI n :: st) M G := by
  intro p e s m args below meth c H locs lsA A ad0 ad hX hS hL hsb hG
  obtain ⟨hx, hb, hml, hown, hts, hret, hlk, hK, hnm, hwm⟩ := id hX
  obtain ⟨hl, hlo, hso⟩ := id hL
  obtain ⟨hP, hD, hRg, hva, hA⟩ := id hS
  have hrn : b_r32 n := ⟨by omega, by omega⟩
  have hni : (Int32.ofInt n).toNatClampNeg = n := by
    show (Int32.ofInt n).toInt.toNat = n
    rw [to32 hrn]
    rfl
  refine va_newa (atype := .int) hx hb (hts _ hw) (ty := .int) rfl hK hP (b_Dv hD) hva hA.1 (N' := n) (a0 := (n, .inl (fun _ => 0))) (fun _ => rfl) (fun q => by
    have h0 := (lt32 hrn r32_0).mp q
    omega) hni (by show n * 4 ≤ _; omega) hmc.1 hmc.2 hd (fun q cA H1 hK1 hP1 hD1 hS1 => ?_)
  have hcA : cA = E.2.1 1 := by
    have h1 := (hK1.2 5 (cA, .int) rfl).2
    have h2 := (hK.2 0 (E.2.1 1, .int) rfl).2
    exact Option.some.inj (h1.symm.trans h2)
  subst hcA
  have hel : b_el E (b_ex ad c0 q) M c0 = .inl (E.2.1 1, n, .inl (fun _ => 0)) := by
    simp only [b_el, hk, hM]
    rfl
  have hws : b_ws E (b_ex ad c0 q) M (L ++ [c0]) = b_ws E ad M L ++ [(q, .inl (E.2.1 1, n, .inl (fun _ => 0)))] := by
    have h1 := b_ws_ex (E := E) (ad := ad) (M := M) (a := q) hc hRg.2.2
    unfold b_ws at h1 ⊢
    rw [List.map_append, h1]
    show _ ++ [(b_ex ad c0 q c0, b_el E (b_ex ad c0 q) M c0)] = _
    rw [hel, show b_ex ad c0 q c0 = q by unfold b_ex; rw [if_pos rfl]]
  rw [← hws] at hP1 hD1
  have h := k p e s m args below meth c H1 locs lsA A ad0 (b_ex ad c0 q) hX ⟨hP1, b_Dw hD1, b_Inv_new hRg hM hf, hS1, hA.1, hA.2.1, hA.2.2.1, hA.2.2.2.1, fun z hz => by rw [b_ex_ne (by have := b_lt hk (by simp); unfold b_NC at this; omega)]; exact hA.2.2.2.2 z hz⟩ ⟨by rw [b_ex_tl hls]; exact hl, hlo, ok_c (v := bR c0) trivial (ok_t hso)⟩ (b_sb_new hfl hsb hc0) hG
  rw [List.map_cons, b_ex_map hst, show b_tv (b_ex ad c0 q) (bR c0) = .ref q by show Value.ref (b_ex ad c0 q c0) = _; unfold b_ex; rw [if_pos rfl]] at h
  exact h
theorem g_newa_byte {c0 n z : Nat} (hk : b_kd c0 = (2, n, z)) (hc : c0 ∉ L) (hc0 : c0 ∉ G.2.2) (hM : ∀ i, M c0 i = 0) (hf : L ++ [c0] ≠ b_full) (hls : ∀ q ∈ ls, b_nr c0 q.2) (hst : ∀ v ∈ st, b_nr c0 v) (hfl : bX.fl X = 1) (hn : n ≤ 60000) (hw : Cond.arrayClass .byte ∈ b_T) (hmc : kn.1 + 1 ≤ (bX.R X).cells ∧ kn.2 + n ≤ (bX.R X).slots) (hd : decode (bX.cc X) pc = .ok (.newarray .byte, 2)) (k : VL l E X (L ++ [c0]) (kn.1 + 1, kn.2 + n) (pc + 2) ls (bR c0 :: st) M G) : VL l E X L kn pc ls (bI n :: st) M G := by
  intro p e s m args below meth c H locs lsA A ad0 ad hX hS hL hsb hG
  obtain ⟨hx, hb, hml, hown, hts, hret, hlk, hK, hnm, hwm⟩ := id hX
  obtain ⟨hl, hlo, hso⟩ := id hL
  obtain ⟨hP, hD, hRg, hva, hA⟩ := id hS
  have hrn : b_r32 n := ⟨by omega, by omega⟩
  have hni : (Int32.ofInt n).toNatClampNeg = n := by
    show (Int32.ofInt n).toInt.toNat = n
    rw [to32 hrn]
    rfl
  refine va_newa (atype := .byte) hx hb (hts _ hw) (ty := .byte) rfl hK hP (b_Dv hD) hva hA.1 (N' := n) (a0 := (n, .inl (fun _ => 0))) (fun _ => rfl) (fun q => by
    have h0 := (lt32 hrn r32_0).mp q
    omega) hni (by show n * 1 ≤ _; omega) hmc.1 hmc.2 hd (fun q cA H1 hK1 hP1 hD1 hS1 => ?_)
  have hcA : cA = E.2.1 2 := by
    have h1 := (hK1.2 5 (cA, .byte) rfl).2
    have h2 := (hK.2 1 (E.2.1 2, .byte) rfl).2
    exact Option.some.inj (h1.symm.trans h2)
  subst hcA
  have hel : b_el E (b_ex ad c0 q) M c0 = .inl (E.2.1 2, n, .inl (fun _ => 0)) := by
    simp only [b_el, hk, hM]
    rfl
  have hws : b_ws E (b_ex ad c0 q) M (L ++ [c0]) = b_ws E ad M L ++ [(q, .inl (E.2.1 2, n, .inl (fun _ => 0)))] := by
    have h1 := b_ws_ex (E := E) (ad := ad) (M := M) (a := q) hc hRg.2.2
    unfold b_ws at h1 ⊢
    rw [List.map_append, h1]
    show _ ++ [(b_ex ad c0 q c0, b_el E (b_ex ad c0 q) M c0)] = _
    rw [hel, show b_ex ad c0 q c0 = q by unfold b_ex; rw [if_pos rfl]]
  rw [← hws] at hP1 hD1
  have h := k p e s m args below meth c H1 locs lsA A ad0 (b_ex ad c0 q) hX ⟨hP1, b_Dw hD1, b_Inv_new hRg hM hf, hS1, hA.1, hA.2.1, hA.2.2.1, hA.2.2.2.1, fun z hz => by rw [b_ex_ne (by have := b_lt hk (by simp); unfold b_NC at this; omega)]; exact hA.2.2.2.2 z hz⟩ ⟨by rw [b_ex_tl hls]; exact hl, hlo, ok_c (v := bR c0) trivial (ok_t hso)⟩ (b_sb_new hfl hsb hc0) hG
  rw [List.map_cons, b_ex_map hst, show b_tv (b_ex ad c0 q) (bR c0) = .ref q by show Value.ref (b_ex ad c0 q c0) = _; unfold b_ex; rw [if_pos rfl]] at h
  exact h
theorem g_newa_boolean {c0 n z : Nat} (hk : b_kd c0 = (3, n, z)) (hc : c0 ∉ L) (hc0 : c0 ∉ G.2.2) (hM : ∀ i, M c0 i = 0) (hf : L ++ [c0] ≠ b_full) (hls : ∀ q ∈ ls, b_nr c0 q.2) (hst : ∀ v ∈ st, b_nr c0 v) (hfl : bX.fl X = 1) (hn : n ≤ 60000) (hw : Cond.arrayClass .boolean ∈ b_T) (hmc : kn.1 + 1 ≤ (bX.R X).cells ∧ kn.2 + n ≤ (bX.R X).slots) (hd : decode (bX.cc X) pc = .ok (.newarray .boolean, 2)) (k : VL l E X (L ++ [c0]) (kn.1 + 1, kn.2 + n) (pc + 2) ls (bR c0 :: st) M G) : VL l E X L kn pc ls (bI n :: st) M G := by
  intro p e s m args below meth c H locs lsA A ad0 ad hX hS hL hsb hG
  obtain ⟨hx, hb, hml, hown, hts, hret, hlk, hK, hnm, hwm⟩ := id hX
  obtain ⟨hl, hlo, hso⟩ := id hL
  obtain ⟨hP, hD, hRg, hva, hA⟩ := id hS
  have hrn : b_r32 n := ⟨by omega, by omega⟩
  have hni : (Int32.ofInt n).toNatClampNeg = n := by
    show (Int32.ofInt n).toInt.toNat = n
    rw [to32 hrn]
    rfl
  refine va_newa (atype := .boolean) hx hb (hts _ hw) (ty := .boolean) rfl hK hP (b_Dv hD) hva hA.1 (N' := n) (a0 := (n, .inl (fun _ => 0))) (fun _ => rfl) (fun q => by
    have h0 := (lt32 hrn r32_0).mp q
    omega) hni (by show n * 1 ≤ _; omega) hmc.1 hmc.2 hd (fun q cA H1 hK1 hP1 hD1 hS1 => ?_)
  have hcA : cA = E.2.1 3 := by
    have h1 := (hK1.2 5 (cA, .boolean) rfl).2
    have h2 := (hK.2 2 (E.2.1 3, .boolean) rfl).2
    exact Option.some.inj (h1.symm.trans h2)
  subst hcA
  have hel : b_el E (b_ex ad c0 q) M c0 = .inl (E.2.1 3, n, .inl (fun _ => 0)) := by
    simp only [b_el, hk, hM]
    rfl
  have hws : b_ws E (b_ex ad c0 q) M (L ++ [c0]) = b_ws E ad M L ++ [(q, .inl (E.2.1 3, n, .inl (fun _ => 0)))] := by
    have h1 := b_ws_ex (E := E) (ad := ad) (M := M) (a := q) hc hRg.2.2
    unfold b_ws at h1 ⊢
    rw [List.map_append, h1]
    show _ ++ [(b_ex ad c0 q c0, b_el E (b_ex ad c0 q) M c0)] = _
    rw [hel, show b_ex ad c0 q c0 = q by unfold b_ex; rw [if_pos rfl]]
  rw [← hws] at hP1 hD1
  have h := k p e s m args below meth c H1 locs lsA A ad0 (b_ex ad c0 q) hX ⟨hP1, b_Dw hD1, b_Inv_new hRg hM hf, hS1, hA.1, hA.2.1, hA.2.2.1, hA.2.2.2.1, fun z hz => by rw [b_ex_ne (by have := b_lt hk (by simp); unfold b_NC at this; omega)]; exact hA.2.2.2.2 z hz⟩ ⟨by rw [b_ex_tl hls]; exact hl, hlo, ok_c (v := bR c0) trivial (ok_t hso)⟩ (b_sb_new hfl hsb hc0) hG
  rw [List.map_cons, b_ex_map hst, show b_tv (b_ex ad c0 q) (bR c0) = .ref q by show Value.ref (b_ex ad c0 q c0) = _; unfold b_ex; rw [if_pos rfl]] at h
  exact h
theorem g_newa_long {c0 n z : Nat} (hk : b_kd c0 = (4, n, z)) (hc : c0 ∉ L) (hc0 : c0 ∉ G.2.2) (hM : ∀ i, M c0 i = 0) (hf : L ++ [c0] ≠ b_full) (hls : ∀ q ∈ ls, b_nr c0 q.2) (hst : ∀ v ∈ st, b_nr c0 v) (hfl : bX.fl X = 1) (hn : n ≤ 60000) (hw : Cond.arrayClass .long ∈ b_T) (hmc : kn.1 + 1 ≤ (bX.R X).cells ∧ kn.2 + n ≤ (bX.R X).slots) (hd : decode (bX.cc X) pc = .ok (.newarray .long, 2)) (k : VL l E X (L ++ [c0]) (kn.1 + 1, kn.2 + n) (pc + 2) ls (bR c0 :: st) M G) : VL l E X L kn pc ls (bI n :: st) M G := by
  intro p e s m args below meth c H locs lsA A ad0 ad hX hS hL hsb hG
  obtain ⟨hx, hb, hml, hown, hts, hret, hlk, hK, hnm, hwm⟩ := id hX
  obtain ⟨hl, hlo, hso⟩ := id hL
  obtain ⟨hP, hD, hRg, hva, hA⟩ := id hS
  have hrn : b_r32 n := ⟨by omega, by omega⟩
  have hni : (Int32.ofInt n).toNatClampNeg = n := by
    show (Int32.ofInt n).toInt.toNat = n
    rw [to32 hrn]
    rfl
  refine va_newa (atype := .long) hx hb (hts _ hw) (ty := .long) rfl hK hP (b_Dv hD) hva hA.1 (N' := n) (a0 := (n, .inr (.inl (fun _ => 0)))) (fun _ => rfl) (fun q => by
    have h0 := (lt32 hrn r32_0).mp q
    omega) hni (by show n * 8 ≤ _; omega) hmc.1 hmc.2 hd (fun q cA H1 hK1 hP1 hD1 hS1 => ?_)
  have hcA : cA = E.2.1 4 := by
    have h1 := (hK1.2 5 (cA, .long) rfl).2
    have h2 := (hK.2 3 (E.2.1 4, .long) rfl).2
    exact Option.some.inj (h1.symm.trans h2)
  subst hcA
  have hel : b_el E (b_ex ad c0 q) M c0 = .inl (E.2.1 4, n, .inr (.inl (fun _ => 0))) := by
    simp only [b_el, hk, hM]
    rfl
  have hws : b_ws E (b_ex ad c0 q) M (L ++ [c0]) = b_ws E ad M L ++ [(q, .inl (E.2.1 4, n, .inr (.inl (fun _ => 0))))] := by
    have h1 := b_ws_ex (E := E) (ad := ad) (M := M) (a := q) hc hRg.2.2
    unfold b_ws at h1 ⊢
    rw [List.map_append, h1]
    show _ ++ [(b_ex ad c0 q c0, b_el E (b_ex ad c0 q) M c0)] = _
    rw [hel, show b_ex ad c0 q c0 = q by unfold b_ex; rw [if_pos rfl]]
  rw [← hws] at hP1 hD1
  have h := k p e s m args below meth c H1 locs lsA A ad0 (b_ex ad c0 q) hX ⟨hP1, b_Dw hD1, b_Inv_new hRg hM hf, hS1, hA.1, hA.2.1, hA.2.2.1, hA.2.2.2.1, fun z hz => by rw [b_ex_ne (by have := b_lt hk (by simp); unfold b_NC at this; omega)]; exact hA.2.2.2.2 z hz⟩ ⟨by rw [b_ex_tl hls]; exact hl, hlo, ok_c (v := bR c0) trivial (ok_t hso)⟩ (b_sb_new hfl hsb hc0) hG
  rw [List.map_cons, b_ex_map hst, show b_tv (b_ex ad c0 q) (bR c0) = .ref q by show Value.ref (b_ex ad c0 q c0) = _; unfold b_ex; rw [if_pos rfl]] at h
  exact h
theorem g_newa_long0 {c0 z : Nat} (hk : b_kd c0 = (6, 0, z)) (hc : c0 ∉ L) (hc0 : c0 ∉ G.2.2) (hM : (∀ i, M c0 i = 0) ∧ M b_G c0 = 0) (hf : L ++ [c0] ≠ b_full) (hls : ∀ q ∈ ls, b_nr c0 q.2) (hst : ∀ v ∈ st, b_nr c0 v) (hfl : bX.fl X = 1) (hn : 0 ≤ 60000) (hw : Cond.arrayClass .long ∈ b_T) (hmc : kn.1 + 1 ≤ (bX.R X).cells ∧ kn.2 + 0 ≤ (bX.R X).slots) (hd : decode (bX.cc X) pc = .ok (.newarray .long, 2)) (k : VL l E X (L ++ [c0]) (kn.1 + 1, kn.2 + 0) (pc + 2) ls (bR c0 :: st) M G) : VL l E X L kn pc ls (bI 0 :: st) M G := by
  intro p e s m args below meth c H locs lsA A ad0 ad hX hS hL hsb hG
  obtain ⟨hx, hb, hml, hown, hts, hret, hlk, hK, hnm, hwm⟩ := id hX
  obtain ⟨hl, hlo, hso⟩ := id hL
  obtain ⟨hP, hD, hRg, hva, hA⟩ := id hS
  refine va_newa (atype := .long) hx hb (hts _ hw) (ty := .long) rfl hK hP (b_Dv hD) hva hA.1 (N' := 0) (a0 := (0, .inr (.inl (fun _ => 0)))) (fun _ => rfl) (fun q => by
    have h0 := (lt32 r32_0 r32_0).mp q
    omega) rfl (by decide) hmc.1 hmc.2 hd (fun q cA H1 hK1 hP1 hD1 hS1 => ?_)
  have hcA : cA = E.2.1 4 := by
    have h1 := (hK1.2 5 (cA, .long) rfl).2
    have h2 := (hK.2 3 (E.2.1 4, .long) rfl).2
    exact Option.some.inj (h1.symm.trans h2)
  subst hcA
  have hel : b_el E (b_ex ad c0 q) M c0 = .inl (E.2.1 4, 0, .inr (.inl (fun _ => 0))) := by
    simp only [b_el, hk, hM.1, hM.2]
    rfl
  have hws : b_ws E (b_ex ad c0 q) M (L ++ [c0]) = b_ws E ad M L ++ [(q, .inl (E.2.1 4, 0, .inr (.inl (fun _ => 0))))] := by
    have h1 := b_ws_ex (E := E) (ad := ad) (M := M) (a := q) hc hRg.2.2
    unfold b_ws at h1 ⊢
    rw [List.map_append, h1]
    show _ ++ [(b_ex ad c0 q c0, b_el E (b_ex ad c0 q) M c0)] = _
    rw [hel, show b_ex ad c0 q c0 = q by unfold b_ex; rw [if_pos rfl]]
  rw [← hws] at hP1 hD1
  have h := k p e s m args below meth c H1 locs lsA A ad0 (b_ex ad c0 q) hX ⟨hP1, b_Dw hD1, b_Inv_new hRg hM.1 hf, hS1, hA.1, hA.2.1, hA.2.2.1, hA.2.2.2.1, fun z hz => by rw [b_ex_ne (by have := b_lt hk (by simp); unfold b_NC at this; omega)]; exact hA.2.2.2.2 z hz⟩ ⟨by rw [b_ex_tl hls]; exact hl, hlo, ok_c (v := bR c0) trivial (ok_t hso)⟩ (b_sb_new hfl hsb hc0) hG
  rw [List.map_cons, b_ex_map hst, show b_tv (b_ex ad c0 q) (bR c0) = .ref q by show Value.ref (b_ex ad c0 q c0) = _; unfold b_ex; rw [if_pos rfl]] at h
  exact h
theorem g_new {c0 ci n ix : Nat} {q : vw_C} (ty : Nat → FieldType) (hk : b_kd c0 = (0, ci, n)) (hq : b_cl[ci]? = some q) (hN : q.2.2 = n) (hty : ∀ k, k < q.2.2 → parseFieldDescriptor (q.2.1 k).2.2.1 = some (ty k)) (hdf : ∀ k, k < n → defaultValue (ty k) = (if (b_fk ci k).1 = 0 then .int 0 else if (b_fk ci k).1 = 1 then .long 0 else .null)) (hc : c0 ∉ L) (hc0 : c0 ∉ G.2.2) (hM : ∀ i, M c0 i = 0) (hf : L ++ [c0] ≠ b_full) (hls : ∀ q ∈ ls, b_nr c0 q.2) (hst : ∀ v ∈ st, b_nr c0 v) (hfl : bX.fl X = 1) (hw1 : Cond.classLink (bX.own X) ix q.1 ∈ b_T) (hw2 : Cond.instantiable q.1 q.2.2 ∈ b_T) (hw3 : Cond.initialized q.1 ∈ b_T) (hmc : kn.1 + 1 ≤ (bX.R X).cells ∧ kn.2 + n ≤ (bX.R X).slots) (hd : decode (bX.cc X) pc = .ok (.new ix, 3)) (k : VL l E X (L ++ [c0]) (kn.1 + 1, kn.2 + n) (pc + 3) ls (bR c0 :: st) M G) : VL l E X L kn pc ls st M G := by
  intro p e s m args below meth c H locs lsA A ad0 ad hX hS hL hsb hG
  obtain ⟨hx, hb, hml, hown, hts, hret, hlk, hK, hnm, hwm⟩ := id hX
  obtain ⟨hl, hlo, hso⟩ := id hL
  obtain ⟨hP, hD, hRg, hva, hA⟩ := id hS
  subst hN
  refine va_new hx hb hts (b_clin hq) ty hty hown (hts _ hw1) (hts _ hw2) (hts _ hw3) hK hP (b_Dv hD) hva hA.1 hq (fs := (List.range q.2.2).map (b_fv ad M c0 ci)) (fun j hj => ?_) hmc.1 hmc.2 hd (fun a H1 hP1 hD1 hS1 => ?_)
  · rw [hdf j hj]
    unfold vp_V
    rw [List.getD_eq_getElem?_getD, List.getElem?_map, List.getElem?_range hj]
    show _ = b_fv ad M c0 ci j
    rcases hF : b_fk ci j with ⟨f1, f2⟩
    match f1, hF with
    | 0, hF => simp only [b_fv, hF, hM]; rfl
    | 1, hF => simp only [b_fv, hF, hM]; rfl
    | 2, hF => simp [b_fv, hF, hM]
    | 3, hF => simp [b_fv, hF, hM]
    | f + 4, hF => simp [b_fv, hF, hM]
  have hel0 : ∀ ad1 : Nat → Nat, b_el E ad1 M c0 = .inr (ci, (List.range q.2.2).map (b_fv ad1 M c0 ci)) := fun ad1 => by simp only [b_el, hk]
  have hel : b_el E (b_ex ad c0 a) M c0 = .inr (ci, (List.range q.2.2).map (b_fv ad M c0 ci)) := by
    rw [← hel0 ad]
    exact b_el_ad (fun i _ hz => absurd (hM i) hz)
  have hws : b_ws E (b_ex ad c0 a) M (L ++ [c0]) = b_ws E ad M L ++ [(a, .inr (ci, (List.range q.2.2).map (b_fv ad M c0 ci)))] := by
    have h1 := b_ws_ex (E := E) (ad := ad) (M := M) (a := a) hc hRg.2.2
    unfold b_ws at h1 ⊢
    rw [List.map_append, h1]
    show _ ++ [(b_ex ad c0 a c0, b_el E (b_ex ad c0 a) M c0)] = _
    rw [hel, show b_ex ad c0 a c0 = a by unfold b_ex; rw [if_pos rfl]]
  rw [← hws] at hP1 hD1
  have h := k p e s m args below meth c H1 locs lsA A ad0 (b_ex ad c0 a) hX ⟨hP1, b_Dw hD1, b_Inv_new hRg hM hf, hS1, hA.1, hA.2.1, hA.2.2.1, hA.2.2.2.1, fun z hz => by rw [b_ex_ne (by have := b_lt hk (by simp); unfold b_NC at this; omega)]; exact hA.2.2.2.2 z hz⟩ ⟨by rw [b_ex_tl hls]; exact hl, hlo, ok_c (v := bR c0) trivial hso⟩ (b_sb_new hfl hsb hc0) hG
  rw [List.map_cons, b_ex_map hst, show b_tv (b_ex ad c0 a) (bR c0) = .ref a by show Value.ref (b_ex ad c0 a c0) = _; unfold b_ex; rw [if_pos rfl]] at h
  exact h
theorem b_Inv_ref {M : bM} {L : List Nat} {c : Nat} {i x : Int} (h : b_Inv L M) (hc : c < b_NC) (hx : if b_lg c i = true then b_r64 x else b_r32 x) (hnz : x ≠ 0) (ht : b_tg (b_up M c i x) c i ∈ L) : b_Inv L (b_up M c i x) := by
  refine ⟨⟨fun c' j => ?_, fun c' => ?_⟩, fun hL c' j hr => ?_, fun c' hc' j hr hz => ?_⟩
  · unfold b_up
    by_cases q : c' = c ∧ j = i
    · rw [if_pos q, q.1, q.2]
      exact hx
    · rw [if_neg q]
      exact h.1.1 c' j
  · have : ¬ (b_G = c) := by intro q; rw [← q] at hc; exact absurd hc (by decide)
    simp only [b_up, this, false_and, if_false]
    exact h.1.2 c'
  · by_cases q : c' = c ∧ j = i
    · rw [show b_up M c i x c' j = x by unfold b_up; rw [if_pos q]]
      exact hnz
    · rw [show b_up M c i x c' j = M c' j by unfold b_up; rw [if_neg q]]
      exact h.2.1 hL c' j hr
  · by_cases q : c' = c ∧ j = i
    · rw [q.1, q.2]
      exact ht
    · have he : b_up M c i x c' j = M c' j := by unfold b_up; rw [if_neg q]
      have ht : b_tg (b_up M c i x) c' j = b_tg M c' j := by
        unfold b_tg
        rw [he]
      rw [ht]
      rw [he] at hz
      exact h.2.2 c' hc' j hr hz
theorem g_objInit {c0 ix : Nat} (hw1 : Cond.methodLink (bX.own X) ix Lib.objectInit ∈ b_T) (hw2 : Cond.instanceMethod Lib.objectInit ∈ b_T) (hw3 : Cond.code Lib.objectInit ⟨#[0xb1]⟩ 1 none ∈ b_T) (hcat : (st.map (fun v => if b_c2 v = true then 2 else 1)).sum ≤ 8) (hroom : 1 ≤ (bX.R X).frames ∧ 40 ≤ (bX.R X).locals) (hd : decode (bX.cc X) pc = .ok (.invokespecial ix, 3)) (k : VL l E X L kn (pc + 3) ls st M G) : VL l E X L kn pc ls (bR c0 :: st) M G := by
  intro p e s m args below meth c H locs lsA A ad0 ad hX hS hL hsb hG
  obtain ⟨hx, hb, hml, hown, hts, hret, hlk, hK, hnm, hwm⟩ := id hX
  obtain ⟨hl, hlo, hso⟩ := id hL
  have hcatA : ((st.map (b_tv ad)).map fun v => v.category) = st.map (fun v => if b_c2 v = true then 2 else 1) := by
    rw [List.map_map]
    apply List.map_congr_left
    intro v _
    rcases v with x | x | x <;> rfl
  refine W.objInit hx hb hown (hts _ hw1) (hts _ hw2) (hts _ hw3) (g := F0 m pc lsA (((bR c0 :: st).map (b_tv ad)))) rfl (by show lsA.size = _; rw [hml]; exact hl.1) (a := ad c0) (rest := st.map (b_tv ad)) rfl hd hroom.1 (by
    have h8 := lv_room (m := m) (pc := pc) (ls := lsA) (rest := (bR c0 :: st).map (b_tv ad)) (st := st.map (b_tv ad)) (by rw [hcatA]; exact hcat)
    have := hroom.2
    omega) ?_
  exact k p e s m args below meth c H locs lsA A ad0 ad hX hS ⟨hl, hlo, ok_t hso⟩ hsb hG
theorem g_putR {ci n kf c0 ix d : Nat} {kz : Int} {q : vw_C} (hkz : (kf : Int) = kz) (hm : c0 ∈ L) (hk : b_kd c0 = (0, ci, n)) (hq : b_cl[ci]? = some q) (hf : kf < n ∧ kf < q.2.2) (hfk : b_fk ci kf = (2, d)) (hdL : d ∈ L) (hni : bX.nm X = "<init>") (hdecl : (q.2.1 kf).1 = bX.own X) (hw : Jvm.Cond.fieldLink (bX.own X) ix (q.2.1 kf).1 (q.2.1 kf).2.1 (q.2.1 kf).2.2.1 ∈ b_T) (hfin : (q.2.1 kf).2.2.2 = true) {ty : FieldType} (hty : parseFieldDescriptor (q.2.1 kf).2.2.1 = some ty) (hnr : ∀ a, narrow ty (.ref a) = .ref a ∧ fits ty (.ref a) = true) (hd : decode (bX.cc X) pc = .ok (.putfield ix, 3)) (k : VL l E X L kn (pc + 3) ls st (b_up M c0 kz 1) G) : VL l E X L kn pc ls (bR (d) :: bR c0 :: st) M G := by
  subst hkz
  intro p e s m args below meth c H locs lsA A ad0 ad hX hS hL hsb hG
  obtain ⟨hx, hb, hml, hown, hts, hret, hlk, hK, hnm, hwm⟩ := id hX
  obtain ⟨hl, hlo, hso⟩ := id hL
  obtain ⟨hP, hD, hRg, hva, hA⟩ := id hS
  have hc : c0 < b_NC := b_lt hk (by simp)
  obtain ⟨q0, hq0⟩ := List.getElem?_of_mem hm
  have hat := b_at (E := E) (ad := ad) (M := M) hq0
  have hel : b_el E ad M c0 = .inr (ci, (List.range n).map (b_fv ad M c0 ci)) := by simp only [b_el, hk]
  rw [hel] at hat
  obtain ⟨⟨ty0, hty0⟩, hnmq⟩ := b_cln hq
  refine va_putF hx hb hts (b_clin hq) ty0 hty0 hnmq hown hK hP (b_Dv hD) hva q0 hat hq kf hf.2 (hts _ hw) (fun _ h => h) hfin (hnm hni) hdecl hty (hnr _).1 (hnr _).2 (by simpa using hf.1) hd (fun H1 locs1 hP1 hD1 hS1 => ?_)
  have hset := b_ws_set (E := E) (M := M) (c := c0) (i := kf) (x := 1) hD hq0 hc rfl
  have hnew : b_el E ad (b_up M c0 kf 1) c0 = .inr (ci, ((List.range n).map (b_fv ad M c0 ci)).set kf (.ref (ad (d)))) := by
    simp only [b_el, hk]
    congr 2
    apply List.ext_getElem?
    intro j
    rw [List.getElem?_set]
    by_cases qj : kf = j
    · subst qj
      rw [if_pos rfl, if_pos (by simpa using hf.1), List.getElem?_map, List.getElem?_range hf.1]
      show some (b_fv ad (b_up M c0 kf 1) c0 ci kf) = _
      simp [b_fv, hfk, b_up]
    · rw [if_neg qj, List.getElem?_map, List.getElem?_map]
      cases hj : (List.range n)[j]? with
      | none => rfl
      | some w =>
        have hwj : w = j := by
          have := List.getElem?_eq_some_iff.mp hj
          obtain ⟨h1, h2⟩ := this
          simpa using h2.symm
        subst hwj
        show some (b_fv ad (b_up M c0 kf 1) c0 ci w) = some (b_fv ad M c0 ci w)
        have hz : b_up M c0 kf 1 c0 w = M c0 w := by
          unfold b_up
          rw [if_neg]
          rintro ⟨-, h2⟩
          exact qj (by omega)
        simp only [b_fv, hz]
  rw [hnew] at hset
  have hP1 : va_P E.1 b_cl (b_ws E ad (b_up M c0 kf 1) L) H1 := by rw [← hset]; exact hP1
  have hlg : b_lg c0 kf = decide (b_fk ci kf = (1, 0)) := by simp only [b_lg, hk, Int.toNat_natCast]
  exact k p e s m args below meth c H1 locs1 lsA A ad0 ad hX ⟨hP1, hD, b_Inv_ref hRg hc (by rw [hlg, hfk]; exact ⟨by decide, by decide⟩) (by decide) (by
    simp only [b_tg, hk, Int.toNat_natCast, hfk]
    exact hdL), hS1, hA⟩ ⟨hl, hlo, ok_t (ok_t hso)⟩ hsb hG
theorem g_putO {ci n kf c0 ix d : Nat} {kz : Int} {q : vw_C} (hkz : (kf : Int) = kz) (hm : c0 ∈ L) (hk : b_kd c0 = (0, ci, n)) (hq : b_cl[ci]? = some q) (hf : kf < n ∧ kf < q.2.2) (hfk : b_fk ci kf = (3, d)) (hdL : c0 + d ∈ L) (hni : bX.nm X = "<init>") (hdecl : (q.2.1 kf).1 = bX.own X) (hw : Jvm.Cond.fieldLink (bX.own X) ix (q.2.1 kf).1 (q.2.1 kf).2.1 (q.2.1 kf).2.2.1 ∈ b_T) (hfin : (q.2.1 kf).2.2.2 = true) {ty : FieldType} (hty : parseFieldDescriptor (q.2.1 kf).2.2.1 = some ty) (hnr : ∀ a, narrow ty (.ref a) = .ref a ∧ fits ty (.ref a) = true) (hd : decode (bX.cc X) pc = .ok (.putfield ix, 3)) (k : VL l E X L kn (pc + 3) ls st (b_up M c0 kz 1) G) : VL l E X L kn pc ls (bR (c0 + d) :: bR c0 :: st) M G := by
  subst hkz
  intro p e s m args below meth c H locs lsA A ad0 ad hX hS hL hsb hG
  obtain ⟨hx, hb, hml, hown, hts, hret, hlk, hK, hnm, hwm⟩ := id hX
  obtain ⟨hl, hlo, hso⟩ := id hL
  obtain ⟨hP, hD, hRg, hva, hA⟩ := id hS
  have hc : c0 < b_NC := b_lt hk (by simp)
  obtain ⟨q0, hq0⟩ := List.getElem?_of_mem hm
  have hat := b_at (E := E) (ad := ad) (M := M) hq0
  have hel : b_el E ad M c0 = .inr (ci, (List.range n).map (b_fv ad M c0 ci)) := by simp only [b_el, hk]
  rw [hel] at hat
  obtain ⟨⟨ty0, hty0⟩, hnmq⟩ := b_cln hq
  refine va_putF hx hb hts (b_clin hq) ty0 hty0 hnmq hown hK hP (b_Dv hD) hva q0 hat hq kf hf.2 (hts _ hw) (fun _ h => h) hfin (hnm hni) hdecl hty (hnr _).1 (hnr _).2 (by simpa using hf.1) hd (fun H1 locs1 hP1 hD1 hS1 => ?_)
  have hset := b_ws_set (E := E) (M := M) (c := c0) (i := kf) (x := 1) hD hq0 hc rfl
  have hnew : b_el E ad (b_up M c0 kf 1) c0 = .inr (ci, ((List.range n).map (b_fv ad M c0 ci)).set kf (.ref (ad (c0 + d)))) := by
    simp only [b_el, hk]
    congr 2
    apply List.ext_getElem?
    intro j
    rw [List.getElem?_set]
    by_cases qj : kf = j
    · subst qj
      rw [if_pos rfl, if_pos (by simpa using hf.1), List.getElem?_map, List.getElem?_range hf.1]
      show some (b_fv ad (b_up M c0 kf 1) c0 ci kf) = _
      simp [b_fv, hfk, b_up]
    · rw [if_neg qj, List.getElem?_map, List.getElem?_map]
      cases hj : (List.range n)[j]? with
      | none => rfl
      | some w =>
        have hwj : w = j := by
          have := List.getElem?_eq_some_iff.mp hj
          obtain ⟨h1, h2⟩ := this
          simpa using h2.symm
        subst hwj
        show some (b_fv ad (b_up M c0 kf 1) c0 ci w) = some (b_fv ad M c0 ci w)
        have hz : b_up M c0 kf 1 c0 w = M c0 w := by
          unfold b_up
          rw [if_neg]
          rintro ⟨-, h2⟩
          exact qj (by omega)
        simp only [b_fv, hz]
  rw [hnew] at hset
  have hP1 : va_P E.1 b_cl (b_ws E ad (b_up M c0 kf 1) L) H1 := by rw [← hset]; exact hP1
  have hlg : b_lg c0 kf = decide (b_fk ci kf = (1, 0)) := by simp only [b_lg, hk, Int.toNat_natCast]
  exact k p e s m args below meth c H1 locs1 lsA A ad0 ad hX ⟨hP1, hD, b_Inv_ref hRg hc (by rw [hlg, hfk]; exact ⟨by decide, by decide⟩) (by decide) (by
    simp only [b_tg, hk, Int.toNat_natCast, hfk]
    exact hdL), hS1, hA⟩ ⟨hl, hlo, ok_t (ok_t hso)⟩ hsb hG
theorem g_putOn {ci n kf c0 ix d : Nat} {kz : Int} {q : vw_C} (hkz : (kf : Int) = kz) (hm : c0 ∈ L) (hk : b_kd c0 = (0, ci, n)) (hq : b_cl[ci]? = some q) (hf : kf < n ∧ kf < q.2.2) (hfk : b_fk ci kf = (3, d)) (hdL : c0 + d ∈ L) (hw : Jvm.Cond.fieldLink (bX.own X) ix (q.2.1 kf).1 (q.2.1 kf).2.1 (q.2.1 kf).2.2.1 ∈ b_T) (hfin : (q.2.1 kf).2.2.2 = false) {ty : FieldType} (hty : parseFieldDescriptor (q.2.1 kf).2.2.1 = some ty) (hnr : ∀ a, narrow ty (.ref a) = .ref a ∧ fits ty (.ref a) = true) (hd : decode (bX.cc X) pc = .ok (.putfield ix, 3)) (k : VL l E X L kn (pc + 3) ls st (b_up M c0 kz 1) G) : VL l E X L kn pc ls (bR (c0 + d) :: bR c0 :: st) M G := by
  subst hkz
  intro p e s m args below meth c H locs lsA A ad0 ad hX hS hL hsb hG
  obtain ⟨hx, hb, hml, hown, hts, hret, hlk, hK, hnm, hwm⟩ := id hX
  obtain ⟨hl, hlo, hso⟩ := id hL
  obtain ⟨hP, hD, hRg, hva, hA⟩ := id hS
  have hc : c0 < b_NC := b_lt hk (by simp)
  obtain ⟨q0, hq0⟩ := List.getElem?_of_mem hm
  have hat := b_at (E := E) (ad := ad) (M := M) hq0
  have hel : b_el E ad M c0 = .inr (ci, (List.range n).map (b_fv ad M c0 ci)) := by simp only [b_el, hk]
  rw [hel] at hat
  obtain ⟨⟨ty0, hty0⟩, hnmq⟩ := b_cln hq
  refine va_put hx hb hts (b_clin hq) ty0 hty0 hnmq hown hK hP (b_Dv hD) hva q0 hat hq kf hf.2 (hts _ hw) (fun _ h => h) hfin hty (hnr _).1 (hnr _).2 (by simpa using hf.1) hd (fun H1 locs1 hP1 hD1 hS1 => ?_)
  have hset := b_ws_set (E := E) (M := M) (c := c0) (i := kf) (x := 1) hD hq0 hc rfl
  have hnew : b_el E ad (b_up M c0 kf 1) c0 = .inr (ci, ((List.range n).map (b_fv ad M c0 ci)).set kf (.ref (ad (c0 + d)))) := by
    simp only [b_el, hk]
    congr 2
    apply List.ext_getElem?
    intro j
    rw [List.getElem?_set]
    by_cases qj : kf = j
    · subst qj
      rw [if_pos rfl, if_pos (by simpa using hf.1), List.getElem?_map, List.getElem?_range hf.1]
      show some (b_fv ad (b_up M c0 kf 1) c0 ci kf) = _
      simp [b_fv, hfk, b_up]
    · rw [if_neg qj, List.getElem?_map, List.getElem?_map]
      cases hj : (List.range n)[j]? with
      | none => rfl
      | some w =>
        have hwj : w = j := by
          have := List.getElem?_eq_some_iff.mp hj
          obtain ⟨h1, h2⟩ := this
          simpa using h2.symm
        subst hwj
        show some (b_fv ad (b_up M c0 kf 1) c0 ci w) = some (b_fv ad M c0 ci w)
        have hz : b_up M c0 kf 1 c0 w = M c0 w := by
          unfold b_up
          rw [if_neg]
          rintro ⟨-, h2⟩
          exact qj (by omega)
        simp only [b_fv, hz]
  rw [hnew] at hset
  have hP1 : va_P E.1 b_cl (b_ws E ad (b_up M c0 kf 1) L) H1 := by rw [← hset]; exact hP1
  have hlg : b_lg c0 kf = decide (b_fk ci kf = (1, 0)) := by simp only [b_lg, hk, Int.toNat_natCast]
  exact k p e s m args below meth c H1 locs1 lsA A ad0 ad hX ⟨hP1, hD, b_Inv_ref hRg hc (by rw [hlg, hfk]; exact ⟨by decide, by decide⟩) (by decide) (by
    simp only [b_tg, hk, Int.toNat_natCast, hfk]
    exact hdL), hS1, hA⟩ ⟨hl, hlo, ok_t (ok_t hso)⟩ hsb hG
theorem g_putD {ci n kf c0 ix d : Nat} {kz : Int} {q : vw_C} (hkz : (kf : Int) = kz) (hm : c0 ∈ L) (hk : b_kd c0 = (0, ci, n)) (hq : b_cl[ci]? = some q) (hf : kf < n ∧ kf < q.2.2) (hfk : b_fk ci kf = (4, 0)) (hdL : d ∈ L) (hnz : (d : Int) ≠ 0) (hdn : d < 1000) (hw : Jvm.Cond.fieldLink (bX.own X) ix (q.2.1 kf).1 (q.2.1 kf).2.1 (q.2.1 kf).2.2.1 ∈ b_T) (hfin : (q.2.1 kf).2.2.2 = false) {ty : FieldType} (hty : parseFieldDescriptor (q.2.1 kf).2.2.1 = some ty) (hnr : ∀ a, narrow ty (.ref a) = .ref a ∧ fits ty (.ref a) = true) (hd : decode (bX.cc X) pc = .ok (.putfield ix, 3)) (k : VL l E X L kn (pc + 3) ls st (b_up M c0 kz (d : Int)) G) : VL l E X L kn pc ls (bR (d) :: bR c0 :: st) M G := by
  subst hkz
  intro p e s m args below meth c H locs lsA A ad0 ad hX hS hL hsb hG
  obtain ⟨hx, hb, hml, hown, hts, hret, hlk, hK, hnm, hwm⟩ := id hX
  obtain ⟨hl, hlo, hso⟩ := id hL
  obtain ⟨hP, hD, hRg, hva, hA⟩ := id hS
  have hc : c0 < b_NC := b_lt hk (by simp)
  obtain ⟨q0, hq0⟩ := List.getElem?_of_mem hm
  have hat := b_at (E := E) (ad := ad) (M := M) hq0
  have hel : b_el E ad M c0 = .inr (ci, (List.range n).map (b_fv ad M c0 ci)) := by simp only [b_el, hk]
  rw [hel] at hat
  obtain ⟨⟨ty0, hty0⟩, hnmq⟩ := b_cln hq
  refine va_put hx hb hts (b_clin hq) ty0 hty0 hnmq hown hK hP (b_Dv hD) hva q0 hat hq kf hf.2 (hts _ hw) (fun _ h => h) hfin hty (hnr _).1 (hnr _).2 (by simpa using hf.1) hd (fun H1 locs1 hP1 hD1 hS1 => ?_)
  have hset := b_ws_set (E := E) (M := M) (c := c0) (i := kf) (x := (d : Int)) hD hq0 hc rfl
  have hnew : b_el E ad (b_up M c0 kf (d : Int)) c0 = .inr (ci, ((List.range n).map (b_fv ad M c0 ci)).set kf (.ref (ad (d)))) := by
    simp only [b_el, hk]
    congr 2
    apply List.ext_getElem?
    intro j
    rw [List.getElem?_set]
    by_cases qj : kf = j
    · subst qj
      rw [if_pos rfl, if_pos (by simpa using hf.1), List.getElem?_map, List.getElem?_range hf.1]
      show some (b_fv ad (b_up M c0 kf (d : Int)) c0 ci kf) = _
      simp [b_fv, hfk, b_up, show ¬ d = 0 from (by omega)]
    · rw [if_neg qj, List.getElem?_map, List.getElem?_map]
      cases hj : (List.range n)[j]? with
      | none => rfl
      | some w =>
        have hwj : w = j := by
          have := List.getElem?_eq_some_iff.mp hj
          obtain ⟨h1, h2⟩ := this
          simpa using h2.symm
        subst hwj
        show some (b_fv ad (b_up M c0 kf (d : Int)) c0 ci w) = some (b_fv ad M c0 ci w)
        have hz : b_up M c0 kf (d : Int) c0 w = M c0 w := by
          unfold b_up
          rw [if_neg]
          rintro ⟨-, h2⟩
          exact qj (by omega)
        simp only [b_fv, hz]
  rw [hnew] at hset
  have hP1 : va_P E.1 b_cl (b_ws E ad (b_up M c0 kf (d : Int)) L) H1 := by rw [← hset]; exact hP1
  have hlg : b_lg c0 kf = decide (b_fk ci kf = (1, 0)) := by simp only [b_lg, hk, Int.toNat_natCast]
  exact k p e s m args below meth c H1 locs1 lsA A ad0 ad hX ⟨hP1, hD, b_Inv_ref hRg hc (by rw [hlg, hfk]; simp; exact ⟨by omega, by omega⟩) (hnz) (by
    simp only [b_tg, hk, Int.toNat_natCast, hfk]
    simpa [b_up] using hdL), hS1, hA⟩ ⟨hl, hlo, ok_t (ok_t hso)⟩ hsb hG
def b_iL (L : List Nat) : bV → Prop
  | .inr (.inr c) => c ∈ L
  | _ => True
theorem b_tv_iL {ad ad2 : Nat → Nat} {L : List Nat} (h : ∀ c ∈ L, ad2 c = ad c) {v : bV} (hv : b_iL L v) : b_tv ad2 v = b_tv ad v := by
  rcases v with x | x | x
  · rfl
  · rfl
  · show Value.ref (ad2 x) = Value.ref (ad x)
    rw [h x hv]
theorem b_map_iL {ad ad2 : Nat → Nat} {L : List Nat} (h : ∀ c ∈ L, ad2 c = ad c) {st : List bV} (hv : ∀ v ∈ st, b_iL L v) : st.map (b_tv ad2) = st.map (b_tv ad) := List.map_congr_left (fun v hm => b_tv_iL h (hv v hm))
theorem b_tl_iL {ad ad2 : Nat → Nat} {L : List Nat} (h : ∀ c ∈ L, ad2 c = ad c) {ls : bL} (hv : ∀ q ∈ ls, b_iL L q.2) : b_tl ad2 ls = b_tl ad ls := List.map_congr_left (fun q hm => by show (q.1, _) = (q.1, _); rw [b_tv_iL h (hv q hm)])
theorem b_goes1 {Y : bX} {L1 : List Nat} {PostY : Option bV → bM → Prop} {p : Program} {e : Env} {s : State} {m : MethodId} {args : Array Value} {below : List Frame} {meth : Method} {c : Code} {H : Heap} {locs : List Loc} {lsA : Array Slot} {A : Nat → Prop} {ad0 ad : Nat → Nat} {a : Array Value} {st0 : List Value} (hfl : bX.fl Y = 1) (hflX : bX.fl X = 1) (hL0 : ∀ c ∈ G.2.2, c ∈ L) (hls : ∀ q ∈ ls, b_iL L q.2) (hst : ∀ v ∈ st, b_iL L v)
    (hr : va_Run p l e (bX.R X) s m args below meth c H locs kn.1 kn.2 (bX.R Y).cells (bX.R Y).slots (F0 m pc lsA st0) (st.map (b_tv ad)) (b_Q E (b_A L ad H.size) (bX.fl Y) L L1 ad PostY a) (b_A L ad H.size))
    (hX : b_At E X p s m args meth c) (hS : b_St E L ad M A s H locs) (hl : lv_has lsA (bX.nL X) (b_tl ad ls)) (hlo : ∀ q ∈ ls, b_ok q.2) (hso : ∀ v ∈ st, b_ok v) (hsb : b_sb (bX.fl X) G.2.2 ad0 ad) (hG : G.2.1 s A)
    (k : ∀ r M', PostY r M' → VL l E X L1 (kn.1 + (bX.R Y).cells, kn.2 + (bX.R Y).slots) (pc + 3) ls (r.toList ++ st) M' G) :
    W p l e (bX.R X) s m args below meth c H locs kn.1 kn.2 (G.1 s args below A ad0) (F0 m pc lsA st0) := by
  intro T hT X0
  obtain ⟨v, st₀, t, T', L9, h0, X', hL, e1, e2, ⟨⟨r, M', ad', hv, hok, hpost, hP', hD', hRg', hK', hsb', hfo'⟩, hz, hk⟩, stp⟩ := hr T hT X0
  obtain ⟨hP, hD, hRg, hva, hA⟩ := hS
  rw [hfl] at hsb'
  have had : ∀ c ∈ L, ad' c = ad c := hsb'
  cases hv
  rw [h0] at hz hk
  have hsub : ∀ q, b_A L ad H.size q → A q := by
    intro q hq
    rcases hq with ⟨c1, hc1, rfl⟩ | hq
    · exact hD.2 c1 hc1
    · exact hA.1 q (Nat.le_trans hva.1 hq)
  have hSn : va_S A s.heap T'.heap (locs ++ L9) := ⟨Nat.le_trans hva.1 (by rw [e1]; exact hz), fun q h1 h2 => by
      rw [e1, hk q (Nat.lt_of_lt_of_le h1 hva.1) (fun z => h2 (hsub q z))]
      exact hva.2.1 q h1 h2, fun q hq => by
      rcases List.mem_append.mp hq with h | h
      · exact hva.2.2 q h
      · exact hsub _ (hL q h)⟩
  have hst2 : ∀ w ∈ r.toList ++ st, b_ok w := by
    intro w hw
    rcases List.mem_append.mp hw with h | h
    · exact hok w (by simpa using h)
    · exact hso w h
  have hsbn : b_sb (bX.fl X) G.2.2 ad0 ad' := by
    rw [hflX] at hsb ⊢
    intro c1 hc1
    rw [had c1 (hL0 c1 hc1)]
    exact hsb c1 hc1
  have h := k r M' hpost p e s m args below meth c T'.heap (locs ++ L9) lsA A ad0 ad' hX ⟨by rw [e1]; exact hP', ⟨hD'.1, fun c1 hc1 => hsub _ (hD'.2 c1 hc1)⟩, hRg', hSn, hA.1, hA.2.1, hA.2.2.1, hA.2.2.2.1, hfo'⟩ ⟨by rw [b_tl_iL had hls]; exact hl, hlo, hst2⟩ hsbn hG
  obtain ⟨t2, a1, b1⟩ := h T' rfl X'
  refine ⟨t2, stp t2 ?_, b1⟩
  have hmap : List.map (b_tv ad') (r.toList ++ st) = (Option.map (b_tv ad') r).toList ++ List.map (b_tv ad) st := by
    rw [← b_map_iL had hst]
    cases r <;> simp
  rw [hmap] at a1
  exact a1
theorem g_callI {Y : bX} {y : MethodName} {L1 : List Nat} {As : List bV} {PostY : Option bV → bM → Prop} {c0 ix nA : Nat} (hC : b_CL l E Y y L L1 (bR c0 :: As) M PostY) (hfl : bX.fl Y = 1) (hflX : bX.fl X = 1) (hL0 : ∀ c ∈ G.2.2, c ∈ L) (hls : ∀ q ∈ ls, b_iL L q.2) (hst : ∀ v ∈ st, b_iL L v) (hret : bX.ret Y = none) (hini : y.name = "<init>")
    (hw : Cond.code y (bX.cc Y) (bX.nL Y) (bX.ret Y) ∈ b_T) (hwl : Cond.methodLink (bX.own X) ix y ∈ b_T) (hwi : Cond.instanceMethod y ∈ b_T) (hwn : Cond.initialized y.cls ∈ b_T)
    (hd0 : y.cls ≠ "java/lang/invoke/MethodHandle" ∧ y.cls ≠ "java/lang/invoke/VarHandle" ∧ (parseMethodDescriptor y.desc).map (fun d => d.parameters.length) = some nA) (hn : As.length = nA)
    (hroom : (bX.R Y).frames + 1 ≤ (bX.R X).frames ∧ 8 + (bX.nL Y + 11) + (bX.R Y).locals ≤ (bX.R X).locals) (hmc : kn.1 + (bX.R Y).cells ≤ (bX.R X).cells ∧ kn.2 + (bX.R Y).slots ≤ (bX.R X).slots) (hcat : (st.map (fun v => if b_c2 v = true then 2 else 1)).sum ≤ 8)
    (hd : decode (bX.cc X) pc = .ok (.invokespecial ix, 3)) (k : ∀ r M', PostY r M' → VL l E X L1 (kn.1 + (bX.R Y).cells, kn.2 + (bX.R Y).slots) (pc + 3) ls (r.toList ++ st) M' G) : VL l E X L kn pc ls (As.reverse ++ bR c0 :: st) M G := by
  intro p e s m args below meth c H locs lsA A ad0 ad hX hS hL hsb hG
  obtain ⟨hx, hb, hml, hown, hts, hrt, hlk, hK, hnm, hwm⟩ := id hX
  obtain ⟨hl, hlo, hso⟩ := id hL
  obtain ⟨hP, hD, hRg, hva, hA⟩ := id hS
  have hso2 : ∀ v ∈ st, b_ok v := fun v hv => hso v (List.mem_append_right _ (List.mem_cons_of_mem _ hv))
  rw [hret] at hw
  have hGd : GoodIn b_T (Cond.code y (bX.cc Y) (bX.nL Y) none :: b_T) := by
    intro w hw1
    have hmem : w ∈ b_T := by
      rcases List.mem_cons.mp hw1 with rfl | h
      · exact hw
      · exact h
    exact b_good w hmem
  have hCm := hC (fun v hv => by
      rcases List.mem_cons.mp hv with rfl | hv
      · trivial
      · exact hso v (List.mem_append_left _ (List.mem_reverse.mpr hv))) hRg ad H.size
  unfold b_wsy at hCm
  rw [hret] at hCm
  have hcatA : ∀ l0 : List bV, ((l0.map (b_tv ad)).map fun v => v.category) = l0.map (fun v => if b_c2 v = true then 2 else 1) := by
    intro l0
    rw [List.map_map]
    apply List.map_congr_left
    intro v _
    rcases v with x | x | x <;> rfl
  have hr := va_runI (p := p) (l := l) (e := e) (R := bX.R X) (below := below) (meth := meth) (locs := locs) (cells := kn.1) (slots := kn.2) (g := F0 m pc lsA ((As.reverse ++ bR c0 :: st).map (b_tv ad))) (As := As.map (b_tv ad)) (b := ad c0) (rest := st.map (b_tv ad)) (H := H) ⟨hx, hb, hml, hown, hts⟩ hCm
    (cwI nA hts hGd rfl rfl rfl (hts _ hwn) (hts _ hwl) (hts _ hwi) hini hd0 hroom)
    ⟨b_blind, fun U hU hW => ⟨rfl, by rw [hU], by rw [hU]; exact hP, hD.1, hRg, va_K.moved hW.alike hK, State.WarmedH.trans hwm hW, fun c1 h1 => hA.2.1 _ (hD.2 c1 h1), Nat.le_trans hA.2.2.1 hva.1, fun q1 h1 => by rw [hU, hva.2.1 q1 (Nat.lt_of_lt_of_le h1 hA.2.2.1) (fun z => Nat.not_le.mpr h1 (hA.2.1 q1 z))]; exact hA.2.2.2.1 q1 h1, hA.2.2.2.2⟩⟩ rfl (by rw [List.length_map]; exact hn) hl.1 (by simp [b_tv]) (lv_room (by rw [hcatA]; exact hcat)) hd hmc
  exact b_goes1 hfl hflX hL0 hls hst hr hX hS hl hlo hso2 hsb hG k
theorem g_callIN {Y : bX} {y : MethodName} {L1 : List Nat} {As : List bV} {PostY : Option bV → bM → Prop} {c0 ix nA : Nat} {host : String} (hC : b_CL l E Y y L L1 (bR c0 :: As) M PostY) (hfl : bX.fl Y = 1) (hflX : bX.fl X = 1) (hL0 : ∀ c ∈ G.2.2, c ∈ L) (hls : ∀ q ∈ ls, b_iL L q.2) (hst : ∀ v ∈ st, b_iL L v) (hret : bX.ret Y = none) (hini : y.name = "<init>")
    (hw : Cond.code y (bX.cc Y) (bX.nL Y) (bX.ret Y) ∈ b_T) (hwl : va_Nw (Cond.methodLinkNest (bX.own X) ix y host) (b_S0 E)) (hwi : Cond.instanceMethod y ∈ b_T) (hwn : Cond.initialized y.cls ∈ b_T)
    (hd0 : y.cls ≠ "java/lang/invoke/MethodHandle" ∧ y.cls ≠ "java/lang/invoke/VarHandle" ∧ (parseMethodDescriptor y.desc).map (fun d => d.parameters.length) = some nA) (hn : As.length = nA)
    (hroom : (bX.R Y).frames + 1 ≤ (bX.R X).frames ∧ 8 + (bX.nL Y + 11) + (bX.R Y).locals ≤ (bX.R X).locals) (hmc : kn.1 + (bX.R Y).cells ≤ (bX.R X).cells ∧ kn.2 + (bX.R Y).slots ≤ (bX.R X).slots) (hcat : (st.map (fun v => if b_c2 v = true then 2 else 1)).sum ≤ 8)
    (hd : decode (bX.cc X) pc = .ok (.invokespecial ix, 3)) (k : ∀ r M', PostY r M' → VL l E X L1 (kn.1 + (bX.R Y).cells, kn.2 + (bX.R Y).slots) (pc + 3) ls (r.toList ++ st) M' G) : VL l E X L kn pc ls (As.reverse ++ bR c0 :: st) M G := by
  intro p e s m args below meth c H locs lsA A ad0 ad hX hS hL hsb hG
  obtain ⟨hx, hb, hml, hown, hts, hrt, hlk, hK, hnm, hwm⟩ := id hX
  obtain ⟨hl, hlo, hso⟩ := id hL
  obtain ⟨hP, hD, hRg, hva, hA⟩ := id hS
  have hso2 : ∀ v ∈ st, b_ok v := fun v hv => hso v (List.mem_append_right _ (List.mem_cons_of_mem _ hv))
  rw [hret] at hw
  have hGd : GoodIn b_T (Cond.code y (bX.cc Y) (bX.nL Y) none :: b_T) := by
    intro w hw1
    have hmem : w ∈ b_T := by
      rcases List.mem_cons.mp hw1 with rfl | h
      · exact hw
      · exact h
    exact b_good w hmem
  have hCm := hC (fun v hv => by
      rcases List.mem_cons.mp hv with rfl | hv
      · trivial
      · exact hso v (List.mem_append_left _ (List.mem_reverse.mpr hv))) hRg ad H.size
  unfold b_wsy at hCm
  rw [hret] at hCm
  have hcatA : ∀ l0 : List bV, ((l0.map (b_tv ad)).map fun v => v.category) = l0.map (fun v => if b_c2 v = true then 2 else 1) := by
    intro l0
    rw [List.map_map]
    apply List.map_congr_left
    intro v _
    rcases v with x | x | x <;> rfl
  have hr := va_runIN (p := p) (l := l) (e := e) (R := bX.R X) (below := below) (meth := meth) (locs := locs) (cells := kn.1) (slots := kn.2) (g := F0 m pc lsA ((As.reverse ++ bR c0 :: st).map (b_tv ad))) (As := As.map (b_tv ad)) (b := ad c0) (rest := st.map (b_tv ad)) (H := H) ⟨hx, hb, hml, hown, hts⟩ hCm
    (⟨va_cnB nA hts hGd rfl rfl rfl (va_Nw.warmM hwm hwl) (hts _ hwn) hd0 hroom, hini, hts _ hwi⟩)
    ⟨b_blind, fun U hU hW => ⟨rfl, by rw [hU], by rw [hU]; exact hP, hD.1, hRg, va_K.moved hW.alike hK, State.WarmedH.trans hwm hW, fun c1 h1 => hA.2.1 _ (hD.2 c1 h1), Nat.le_trans hA.2.2.1 hva.1, fun q1 h1 => by rw [hU, hva.2.1 q1 (Nat.lt_of_lt_of_le h1 hA.2.2.1) (fun z => Nat.not_le.mpr h1 (hA.2.1 q1 z))]; exact hA.2.2.2.1 q1 h1, hA.2.2.2.2⟩⟩ rfl (by rw [List.length_map]; exact hn) hl.1 (by simp [b_tv]) (lv_room (by rw [hcatA]; exact hcat)) hd hmc
  exact b_goes1 hfl hflX hL0 hls hst hr hX hS hl hlo hso2 hsb hG k
end Build
