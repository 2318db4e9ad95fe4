theorem whole_start {p : Program} {e : Env} {s : State} {m : MethodId} {below : List Frame} {meth : Method} {c : Code} (l : Launch) {b L : Nat} {xs : Nat → Int32} (hL : L ≤ 4096) (C0 : lw_At p s m meth c b L xs) : W p l e room_1 s m #[Value.ref b] below meth c s.heap [] 0 0 (lw_Z below #[Value.ref b] s) (entryFrame m ([Value.ref b] : List Value).toArray 4) := by
  obtain ⟨hx, hb, hr, hml, hown, hts, hX, hbl, hlocks, hgv⟩ := id C0
  have hA : ∀ a : Nat, a < s.heap.size → ¬ (fun q : Nat => s.heap.size ≤ q) a := fun a h => Nat.not_le.mpr h
  have htb : ∀ {i : Nat} {w : Cond}, tables_1[i]? = some w → w.before #[Value.ref b] s = true := fun h => hts _ (List.mem_append_right _ (List.mem_of_getElem? h))
  have hng : ∀ {i : Nat} {w : Cond}, n_fl[i]? = some w → w.before #[Value.ref b] s = true := fun h => flat_of_before _ hgv _ (List.mem_of_getElem? h)
  have htT : ∀ w ∈ b_T, w.before #[Value.ref b] s = true := fun w h => hts w (List.mem_filter.mp h).1
  obtain ⟨a0, t0, e0, o0, d0, v0, y0⟩ := f_str (tm := .string "BurntHall$Lots" 9) (N := 7) (g := s_t0) (by decide) (hng na_h0.1) (hng na_h0.2.1) (hng na_h0.2.2.1) (hng na_h0.2.2.2) (fun j hj => hng (na_t0 j hj)) hA
  obtain ⟨a1, t1, e1, o1, d1, v1, y1⟩ := f_str (tm := .string "BurntHall$Acts" 31) (N := 61) (g := s_t1) (by decide) (hng na_h1.1) (hng na_h1.2.1) (hng na_h1.2.2.1) (hng na_h1.2.2.2) (fun j hj => hng (na_t1 j hj)) hA
  obtain ⟨a2, t2, e2, o2, d2, v2, y2⟩ := f_str (tm := .string "BurntHall$Acts" 40) (N := 39) (g := s_t2) (by decide) (hng na_h2.1) (hng na_h2.2.1) (hng na_h2.2.2.1) (hng na_h2.2.2.2) (fun j hj => hng (na_t2 j hj)) hA
  obtain ⟨a3, t3, e3, o3, d3, v3, y3⟩ := f_str (tm := .string "BurntHall$Acts" 45) (N := 30) (g := s_t3) (by decide) (hng na_h3.1) (hng na_h3.2.1) (hng na_h3.2.2.1) (hng na_h3.2.2.2) (fun j hj => hng (na_t3 j hj)) hA
  obtain ⟨a4, t4, e4, o4, d4, v4, y4⟩ := f_str (tm := .string "BurntHallModel" 295) (N := 141) (g := s_t4) (by decide) (hng na_h4.1) (hng na_h4.2.1) (hng na_h4.2.2.1) (hng na_h4.2.2.2) (fun j hj => hng (na_t4 j hj)) hA
  obtain ⟨u0, eu0, yu0⟩ := va_Tof (tm := .static "BurntHall$Act" "UNTOLD" "[I") (ty := .int) (N := 10) (f := fun j => .int (Int32.ofInt (s_u0 (j : Int)))) (by decide) (hng na_u0.2.1) (va_eqt (hng na_u0.2.2)) (fun j hj => va_eqt (hng (na_u0.1 j hj))) hA
  obtain ⟨u1, eu1, yu1⟩ := va_Tof (tm := .static "BurntHall$Acts" "LOWEST" "[I") (ty := .int) (N := 10) (f := fun j => .int (Int32.ofInt (s_u1 (j : Int)))) (by decide) (hng na_u1.2.1) (va_eqt (hng na_u1.2.2)) (fun j hj => va_eqt (hng (na_u1.1 j hj))) hA
  obtain ⟨u2, eu2, yu2⟩ := va_Tof (tm := .static "BurntHall$Acts" "HIGHEST" "[I") (ty := .int) (N := 10) (f := fun j => .int (Int32.ofInt (s_u2 (j : Int)))) (by decide) (hng na_u2.2.1) (va_eqt (hng na_u2.2.2)) (fun j hj => va_eqt (hng (na_u2.1 j hj))) hA
  obtain ⟨k0, i0, K0⟩ := u_known (C := RX0) (T := TX0) (N := 6) (n := 6) htT inX0 (htT _ wt_0)
  obtain ⟨k1, i1, K1⟩ := u_known (C := RX1) (T := TX1) (N := 12) (n := 12) htT inX1 (htT _ wt_1)
  obtain ⟨k2, i2, K2⟩ := u_known (C := RX2) (T := TX2) (N := 20) (n := 20) htT inX2 (htT _ wt_2)
  obtain ⟨k3, i3, K3⟩ := u_known (C := RX3) (T := TX3) (N := 15) (n := 15) htT inX3 (htT _ wt_3)
  obtain ⟨k4, i4, K4⟩ := u_known (C := RX4) (T := TX4) (N := 13) (n := 13) htT inX4 (htT _ wt_4)
  obtain ⟨k5, i5, K5⟩ := u_known (C := RX5) (T := TX5) (N := 20) (n := 20) htT inX5 (htT _ wt_5)
  obtain ⟨k6, i6, K6⟩ := u_known (C := RX6) (T := TX6) (N := 8) (n := 8) htT inX6 (htT _ wt_6)
  obtain ⟨k7, i7, K7⟩ := u_known (C := RX7) (T := TX7) (N := 19) (n := 19) htT inX7 (htT _ wt_7)
  obtain ⟨k8, i8, K8⟩ := u_known (C := RX8) (T := TX8) (N := 14) (n := 14) htT inX8 (htT _ wt_8)
  obtain ⟨k9, i9, K9⟩ := u_known (C := RX9) (T := TX9) (N := 16) (n := 16) htT inX9 (htT _ wt_9)
  obtain ⟨k10, i10, K10⟩ := u_known (C := RX10) (T := TX10) (N := 8) (n := 8) htT inX10 (htT _ wt_10)
  obtain ⟨k11, i11, K11⟩ := u_known (C := RX11) (T := TX11) (N := 11) (n := 11) htT inX11 (htT _ wt_11)
  obtain ⟨k12, i12, K12⟩ := u_known (C := RX12) (T := TX12) (N := 125) (n := 125) htT inX12 (htT _ wt_12)
  obtain ⟨q1, r1, w1⟩ := f_arr (htb nw_ac_int)
  obtain ⟨q2, r2, w2⟩ := f_arr (htb nw_ac_byte)
  obtain ⟨q3, r3, w3⟩ := f_arr (htb nw_ac_boolean)
  obtain ⟨q4, r4, w4⟩ := f_arr (htb nw_ac_long)
  obtain ⟨q5, r5, w5⟩ := f_arrO (htb nw_ao)
  obtain ⟨dC, dI, hKc⟩ : ∃ (dC : Nat → ClassId) (dI : Nat → Nat → Nat), ∀ (k : Nat) (q : vw_C), b_cl[k]? = some q → u_Kn s q.1 q.2.1 q.2.2 (dC k) (dI k) := by
    refine ⟨fun k => [k0, k1, k2, k3, k4, k5, k6, k7, k8, k9, k10, k11, k12].getD k k0, fun k => [i0, i1, i2, i3, i4, i5, i6, i7, i8, i9, i10, i11, i12].getD k i0, ?_⟩
    intro k q hq
    match k, hq with
    | 0, hq => cases hq; exact K0
    | 1, hq => cases hq; exact K1
    | 2, hq => cases hq; exact K2
    | 3, hq => cases hq; exact K3
    | 4, hq => cases hq; exact K4
    | 5, hq => cases hq; exact K5
    | 6, hq => cases hq; exact K6
    | 7, hq => cases hq; exact K7
    | 8, hq => cases hq; exact K8
    | 9, hq => cases hq; exact K9
    | 10, hq => cases hq; exact K10
    | 11, hq => cases hq; exact K11
    | 12, hq => cases hq; exact K12
    | k + 13, hq => simp at hq
  obtain ⟨dA, g1, g2, g3, g4, g5⟩ : ∃ dA : Nat → ClassId, dA 1 = q1 ∧ dA 2 = q2 ∧ dA 3 = q3 ∧ dA 4 = q4 ∧ dA 5 = q5 := ⟨fun i => [q1, q1, q2, q3, q4, q5].getD i q1, rfl, rfl, rfl, rfl, rfl⟩
  subst g1 g2 g3 g4 g5
  obtain ⟨fa, f0, f1, f2, f3, f4, x0, x1, x2, x3, x4, z0, z1, z2, hb0⟩ : ∃ fa : Nat → Nat, fa 2000 = a0 ∧ fa 2001 = a1 ∧ fa 2002 = a2 ∧ fa 2003 = a3 ∧ fa 2004 = a4 ∧ fa 2010 = t0 ∧ fa 2011 = t1 ∧ fa 2012 = t2 ∧ fa 2013 = t3 ∧ fa 2014 = t4 ∧ fa 2020 = u0 ∧ fa 2021 = u1 ∧ fa 2022 = u2 ∧ fa 2100 = b := by
    refine ⟨fun c => if c = 2000 then a0 else if c = 2001 then a1 else if c = 2002 then a2 else if c = 2003 then a3 else if c = 2004 then a4 else if c = 2010 then t0 else if c = 2011 then t1 else if c = 2012 then t2 else if c = 2013 then t3 else if c = 2014 then t4 else if c = 2020 then u0 else if c = 2021 then u1 else if c = 2022 then u2 else b, ?_⟩
    simp
  subst f0 f1 f2 f3 f4 x0 x1 x2 x3 x4 z0 z1 z2
  have hK : va_K (dC, dI) b_cl [(dA 1, .int), (dA 2, .byte), (dA 3, .boolean), (dA 4, .long), (dA 5, .object "BurntHall$Act")] s := by
    refine ⟨hKc, fun k q hq => ?_⟩
    match k, hq with
    | 0, hq => cases hq; exact ⟨r1, w1⟩
    | 1, hq => cases hq; exact ⟨r2, w2⟩
    | 2, hq => cases hq; exact ⟨r3, w3⟩
    | 3, hq => cases hq; exact ⟨r4, w4⟩
    | 4, hq => cases hq; exact ⟨r5, w5⟩
    | k + 5, hq => simp at hq
  have bnd : ∀ (l : List Nat), l.all (fun x => decide (x < 128)) = true → ∀ i : Int, 0 ≤ ((l.getD i.toNat 0 : Nat) : Int) ∧ ((l.getD i.toNat 0 : Nat) : Int) < 128 := by
    intro l hl i
    refine ⟨Int.natCast_nonneg _, ?_⟩
    rw [List.all_eq_true] at hl
    by_cases h : i.toNat < l.length
    · have := hl l[i.toNat] (List.getElem_mem h)
      rw [List.getD_eq_getElem?_getD, List.getElem?_eq_getElem h]
      simp at this ⊢
      omega
    · rw [List.getD_eq_getElem?_getD, List.getElem?_eq_none (by omega)]
      decide
  have hfg : b_fg ((dC, dI), dA, s, fa) := ⟨⟨va_Zof (htb nw_ls_c) (htb nw_in_s) (va_eqt (hng na_j.1)) hA, va_Zqof (htb nw_ls_p) (htb nw_in_p) (hng na_j.2) hA⟩, ⟨⟨by decide, by decide, by decide⟩, o0, d0, v0, y0, bnd s_tx0 (by decide +kernel)⟩, ⟨⟨by decide, by decide, by decide⟩, o1, d1, v1, y1, bnd s_tx1 (by decide +kernel)⟩, ⟨⟨by decide, by decide, by decide⟩, o2, d2, v2, y2, bnd s_tx2 (by decide +kernel)⟩, ⟨⟨by decide, by decide, by decide⟩, o3, d3, v3, y3, bnd s_tx3 (by decide +kernel)⟩, ⟨⟨by decide, by decide, by decide⟩, o4, d4, v4, y4, bnd s_tx4 (by decide +kernel)⟩, vk_R.of (htb nw_sr0) e0, vk_R.of (htb nw_sr1) e1, vk_R.of (htb nw_sr2) e2, vk_R.of (htb nw_sr3) e3, vk_R.of (htb nw_sr4) e4, va_Zof (htb nw_ls_0) (htb nw_in_a) eu0 hA, yu0, va_Zof (htb nw_ls_1) (htb nw_in_as) eu1 hA, yu1, va_Zof (htb nw_ls_2) (htb nw_in_as) eu2 hA, yu2, va_Nw.of rfl (htb nw_mn9), va_Nw.of rfl (htb nw_mn18), va_Nw.of rfl (htb nw_mn25), va_Nw.of rfl (htb nw_mn41), va_AO.of (htb nw_ao)⟩
  have hl := lv_entry ([.ref b]) (n := 4) (Nat.le_of_ble_eq_true rfl)
  rw [lg_entry_eq]
  generalize (lg_sl ([.ref b]) ++ List.replicate (4 - (lg_sl ([.ref b])).length) Slot.unset).toArray = ls at hl ⊢
  have hl : lv_has ls 4 [(0, .ref b)] := hl
  have hl2 : lv_has ls 4 (b_tl fa [(0, bR 2100)]) := by
    show lv_has ls 4 [(0, .ref (fa 2100))]
    rw [hb0]; exact hl
  have hX2 : va_X b L (fun j => Int32.ofInt ((xs ((j : Int)).toNat).toInt)) s s.heap := by
    have e : (fun j : Nat => Int32.ofInt ((xs ((j : Int)).toNat).toInt)) = xs := funext fun j => by rw [Int.toNat_natCast, Int32.ofInt_toInt]
    rw [e]; exact hX
  have hI : b_Inv [] b_z := by
    refine ⟨⟨fun c i => ?_, fun _ => Int.le_refl _⟩, fun q => absurd q (by decide +kernel), fun c hc => by cases hc⟩
    split
    · exact (show b_r64 0 from ⟨by decide, by decide⟩)
    · exact (show b_r32 0 from ⟨by decide, by decide⟩)
  exact law_begin (l := l) (E := ((dC, dI), dA, s, fa)) (Ln := L) (xs := fun i => (xs i.toNat).toInt) hfg (fun i => r32_toInt _) hL p e s m #[Value.ref b] below meth c s.heap [] ls (fun q => s.heap.size ≤ q) fa fa ⟨hx, hb, hml, hown, htT, hr, hlocks, hK, fun h => absurd h (by decide), State.WarmedH.refl s⟩ ⟨fun k q h => by simp [b_ws] at h, ⟨fun i j a b h => by simp at h, fun c hc => by cases hc⟩, hI, va_S.rf, fun q h => h, fun q h => h, Nat.le_refl _, fun q _ => rfl, fun c _ => rfl⟩ ⟨hl2, fun q hq => by simp at hq; subst hq; trivial, fun v hv => by cases hv⟩ (b_sb_rf _ _ _) ⟨⟨b, hb0, Nat.not_le.mpr hbl, hbl, hX2⟩, rfl, fun i => r32_toInt _⟩
