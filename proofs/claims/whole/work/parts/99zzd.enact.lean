def tgB (c k : Nat) : Bool := match b_kd c with
  | (0, ci, n) => decide (n ≤ 125) && (match b_fk ci k with
    | (2, d) => !(decide (62 ≤ d ∧ d < 72))
    | (3, d) => !(decide (62 ≤ c + d ∧ c + d < 72)) || (decide (d = 50) && decide (12 ≤ c ∧ c < 22))
    | (4, _) => decide (c = 4 ∧ k = 8)
    | (0, _) => true
    | (1, _) => true
    | _ => decide (n ≤ k))
  | (5, n, _) => decide (n ≤ 10)
  | _ => true
theorem tgA : (List.range 245).all (fun c => (List.range 125).all (tgB c)) = true := by decide +kernel
theorem tgC {c k : Nat} (hc : c < 245) (hk : k < 125) : tgB c k = true := by
  have h := List.all_eq_true.mp tgA c (List.mem_range.mpr hc)
  exact List.all_eq_true.mp h k (List.mem_range.mpr hk)
theorem tg_ne {M : bM} {c c2 : Nat} {i : Int} (hc : 12 ≤ c ∧ c < 22) (hdr : (M 4 8).toNat ≠ c + 50) (hr : b_rf c2 i = true) (hne : c2 ≠ c) : b_tg M c2 i ≠ c + 50 := by
  unfold b_rf at hr
  unfold b_tg
  have key : ∀ k, c2 < 245 → k < 125 → tgB c2 k = true := fun k h1 h2 => tgC h1 h2
  generalize hk : b_kd c2 = kd at hr ⊢
  obtain ⟨k1, k2, k3⟩ := kd
  match k1, hk, hr with
  | 0, hk, hr =>
    have hlt : c2 < 245 := b_lt hk (by simp)
    have hr2 : 0 ≤ i ∧ i < k3 ∧ 2 ≤ (b_fk k2 i.toNat).1 := by simpa using hr
    have t0 := key 0 hlt (by omega)
    unfold tgB at t0
    rw [hk] at t0
    have n125 : k3 ≤ 125 := by
      simp only [Bool.and_eq_true, decide_eq_true_eq] at t0
      exact t0.1
    have t := key i.toNat hlt (by omega)
    unfold tgB at t
    rw [hk] at t
    simp only [Bool.and_eq_true, decide_eq_true_eq] at t
    have t2 := t.2
    clear t t0
    show (match b_fk k2 i.toNat with | (2, d) => d | (3, d) => c2 + d | _ => (M c2 i).toNat) ≠ c + 50
    generalize hf : b_fk k2 i.toNat = fk at t2 hr2 ⊢
    obtain ⟨f1, f2⟩ := fk
    match f1, t2, hr2 with
    | 0, _, hr2 => exact absurd (show 2 ≤ 0 from hr2.2.2) (by decide)
    | 1, _, hr2 => exact absurd (show 2 ≤ 1 from hr2.2.2) (by decide)
    | 2, t2, _ =>
      show f2 ≠ c + 50
      simp at t2
      omega
    | 3, t2, _ =>
      show c2 + f2 ≠ c + 50
      simp at t2
      omega
    | 4, t2, _ =>
      intro q
      simp at t2
      (try dsimp only at q)
      obtain ⟨t3, t4⟩ := t2
      subst t3
      rw [show i = 8 by omega] at q
      exact hdr q
    | f + 5, t2, hr2 =>
      exfalso
      simp at t2
      omega
  | 5, hk, hr =>
    have hlt : c2 < 245 := b_lt hk (by simp)
    have hr2 : 0 ≤ i ∧ i < k2 := by simpa using hr
    have t0 := key 0 hlt (by omega)
    unfold tgB at t0
    rw [hk] at t0
    simp at t0
    show 12 + i.toNat ≠ c + 50
    omega
  | 1, _, hr => simp at hr
  | 2, _, hr => simp at hr
  | 3, _, hr => simp at hr
  | 4, _, hr => simp at hr
  | k + 6, _, hr => simp at hr
abbrev xX0_keepSteps : bX := ("BurntHall$Act", prog_2_method_6_code, 3, (Option.none : Option Jvm.ClassFile.FieldType), b_rm 2 1 1000, 2, "keepSteps")
abbrev yX0_keepSteps : MethodName := ⟨"BurntHall$Act", "keepSteps", "([JI)V"⟩
theorem dX0_keepSteps_0 : decode prog_2_method_6_code 0 = .ok (.iload_n 2, 1) := by decide +kernel
theorem dX0_keepSteps_1 : decode prog_2_method_6_code 1 = .ok (.ifCond .lt 18, 3) := by decide +kernel
theorem dX0_keepSteps_4 : decode prog_2_method_6_code 4 = .ok (.iload_n 2, 1) := by decide +kernel
theorem dX0_keepSteps_5 : decode prog_2_method_6_code 5 = .ok (.aload_n 1, 1) := by decide +kernel
theorem dX0_keepSteps_6 : decode prog_2_method_6_code 6 = .ok (.arraylength, 1) := by decide +kernel
theorem dX0_keepSteps_7 : decode prog_2_method_6_code 7 = .ok (.if_icmp .gt 12, 3) := by decide +kernel
theorem dX0_keepSteps_10 : decode prog_2_method_6_code 10 = .ok (.aload_n 0, 1) := by decide +kernel
theorem dX0_keepSteps_11 : decode prog_2_method_6_code 11 = .ok (.aload_n 1, 1) := by decide +kernel
theorem dX0_keepSteps_12 : decode prog_2_method_6_code 12 = .ok (.iload_n 2, 1) := by decide +kernel
theorem dX0_keepSteps_13 : decode prog_2_method_6_code 13 = .ok (.invokestatic 36, 3) := by decide +kernel
theorem dX0_keepSteps_16 : decode prog_2_method_6_code 16 = .ok (.putfield 19, 3) := by decide +kernel
theorem dX0_keepSteps_19 : decode prog_2_method_6_code 19 = .ok (.return_, 1) := by decide +kernel
/-- the place of a cell in the list of all -/
def b_ix (c : Nat) : Nat := if c < 42 then c else if c < 73 then c - 10 else c - 13
theorem b_fullA : ∀ c, c < 245 → (b_kd c).1 ≠ 9 → b_full[b_ix c]? = some c := by decide +kernel
theorem b_fullI {c : Nat} (h : c ∈ b_full) : b_full[b_ix c]? = some c := b_fullA c (b_in9 h).1 (b_in9 h).2
theorem b_fullJ {j a : Nat} (h : b_full[j]? = some a) : j = b_ix a ∧ a ∈ b_full := by
  have m := List.mem_of_getElem? h
  exact ⟨(List.getElem?_inj (List.getElem?_eq_some_iff.mp h).1 b_full_nd).mp (h.trans (b_fullI m).symm), m⟩
theorem b_ixi {a b : Nat} (ha : a ∈ b_full) (hb : b ∈ b_full) (e : b_ix a = b_ix b) : a = b := by
  have h := b_fullI ha
  rw [e, b_fullI hb] at h
  cases h
  rfl
theorem b_ixl {c : Nat} (h : c ∈ b_full) : b_ix c < 232 := by
  have := (List.getElem?_eq_some_iff.mp (b_fullI h)).1
  rw [b_full_len] at this
  exact this
theorem m_108 : 108 ∈ b_full := by decide +kernel
theorem Mk_R {M : bM} {c : Nat} {n : Int} (hk : b_kd c = (6, 0, 0)) (hn : 0 ≤ n ∧ n ≤ 1000) (h : b_Rg M) : b_Rg (Mk M c n) := by
  have h0 := Mk0_R hk hn h
  have hc : c < b_NC := b_lt hk (by simp)
  have hG : b_G ≠ c := by intro q; rw [← q] at hc; exact absurd hc (by decide)
  refine ⟨fun c2 i => ?_, fun c2 => ?_⟩
  · by_cases q : c2 = c
    · rw [q, Mk_s]
      have e : b_lg c i = true := by simp only [b_lg, hk]
      rw [e, if_pos rfl]
      have g := fun i => h.1 108 i
      simp only [b_lg, kd_108, if_true] at g
      unfold s_cpy
      split
      · exact g _
      · show b_r64 (0 : Int)
        exact ⟨by decide, by decide⟩
    · have e : Mk M c n c2 i = Mk0 M c n c2 i := by unfold Mk; rw [b_set_n q]
      rw [e]
      exact h0.1 c2 i
  · have e : Mk M c n b_G c2 = Mk0 M c n b_G c2 := by unfold Mk; rw [b_set_n hG]
    rw [e]
    exact h0.2 c2
/-- copyOf's answer goes into the field steps of ACT c -/
theorem g_keep {l : Launch} {E : bE} {M : bM} {G : bG} {c : Nat} {n : Int} (hc : 12 ≤ c ∧ c < 22) (hn : 0 ≤ n ∧ n < 1000) (hdr : (M 4 8).toNat ≠ c + 50) (k : VL l E xX0_keepSteps b_full (1, 1000) 19 [(0, bR c), (1, bR 108), (2, bI n)] [] (Mk M (c + 50) n) G) : VL l E xX0_keepSteps b_full (0, 0) 13 [(0, bR c), (1, bR 108), (2, bI n)] [bI n, bR 108, bR c] M G := by
  intro p e s m args below meth cd H locs lsA A ad0 ad hX hS hL hsb hG
  obtain ⟨hx, hb, hml, hown, hts, hret, hlk, hK, hnm, hwm⟩ := id hX
  obtain ⟨hl, hlo, hso⟩ := id hL
  obtain ⟨hP, hD, hRg, hva, hA⟩ := id hS
  have k6 := kd_act50 hc
  have m5 : c + 50 ∈ b_full := b_in k6 (by simp)
  have m0 : c ∈ b_full := b_in (kd_act0 hc) (by simp)
  have nG : c + 50 ≠ b_G := by unfold b_G; omega
  have hP8 : va_P E.1 b_cl (b_ws E ad M [108]) H := by
    intro j w hw
    cases j with
    | zero =>
      have h1 := b_at (E := E) (ad := ad) (M := M) (L := [108]) (c := 108) (q := 0) rfl
      rw [h1] at hw
      cases hw
      exact hP (b_ix 108) _ (b_at (b_fullI m_108))
    | succ j => cases hw
  have hI8 : b_Inv [108] M := by
    refine ⟨hRg.1, fun q => by have z := congrArg List.length q; rw [b_full_len] at z; simp at z, fun c1 h1 i hr => ?_⟩
    rw [List.mem_singleton.mp h1] at hr
    simp only [b_rf, kd_108] at hr
    cases hr
  have hGd : GoodIn b_T (b_wsy xCopy yCopy) := by
    intro w hw1
    have hmem : w ∈ b_T := by
      rcases List.mem_cons.mp hw1 with rfl | h
      · exact wc_J7_copyOf_c38d5
      · exact h
    exact b_good w hmem
  have hr := va_runS (p := p) (l := l) (e := e) (R := bX.R xX0_keepSteps) (below := below) (meth := meth) (locs := locs) (cells := 0) (slots := 0) (g := F0 m 13 lsA ([bI n, bR 108, bR c].map (b_tv ad))) (As := [bR 108, bI n].map (b_tv ad)) (rest := [bR c].map (b_tv ad)) (H := H) ⟨hx, hb, hml, hown, hts⟩ (c_copyOf (l := l) (E := E) (M := M) k6 hn (fun v hv => by
      rcases List.mem_cons.mp hv with rfl | hv
      · trivial
      · rw [List.mem_singleton.mp hv]
        exact hso (bI n) (by simp)) hI8 ad H.size)
    ⟨callB_of 2 hts hGd rfl rfl rfl (hts _ wn_java_util_Arrays) (hts _ wm_0_36) ⟨by decide, by decide, by decide⟩ ⟨by decide, by decide⟩, hts _ wi_J7_copyOf_c38d5⟩
    ⟨b_blind, fun U hU hW => ⟨rfl, by rw [hU], by rw [hU]; exact hP8, fun i j a b hi hj _ => by
        have q1 := List.getElem?_eq_some_iff.mp hi
        have q2 := List.getElem?_eq_some_iff.mp hj
        obtain ⟨w1, _⟩ := q1
        obtain ⟨w2, _⟩ := q2
        simp at w1 w2
        omega, hI8, va_K.moved hW.alike hK, State.WarmedH.trans hwm hW, fun c1 h1 => hA.2.1 _ (hD.2 c1 (by rw [List.mem_singleton.mp h1]; exact m_108)), Nat.le_trans hA.2.2.1 hva.1, fun q1 h1 => by rw [hU, hva.2.1 q1 (Nat.lt_of_lt_of_le h1 hA.2.2.1) (fun z => Nat.not_le.mpr h1 (hA.2.1 q1 z))]; exact hA.2.2.2.1 q1 h1, hA.2.2.2.2⟩⟩ rfl rfl hl.1 (by simp [b_tv]) (lv_room (by show 1 + 0 ≤ 8; decide)) dX0_keepSteps_13 ⟨by decide, by decide⟩
  intro T hT X0
  obtain ⟨v, st₀, t, T', L9, h0, X', hL9, e1, e2, ⟨⟨r, M', ad', hv, hok, hpost, hP', hD', hRg', hK', hsb', hfo'⟩, hz, hk⟩, stp⟩ := hr T hT X0
  obtain ⟨rfl, rfl⟩ := hpost
  cases hv
  have had : ad' 108 = ad 108 := hsb' 108 (by simp)
  rw [h0] at hz hk
  have hsub : ∀ q, b_A [108] ad H.size q → A q := by
    intro q hq
    rcases hq with ⟨c1, hc1, rfl⟩ | hq
    · exact hD.2 c1 (by rw [List.mem_singleton.mp hc1]; exact m_108)
    · exact hA.1 q (Nat.le_trans hva.1 hq)
  have hfr : H.size ≤ ad' (c + 50) := by
    rcases hD'.2 (c + 50) (by simp) with ⟨c1, hc1, hq⟩ | hq
    · exfalso
      rw [List.mem_singleton.mp hc1, ← had] at hq
      exact absurd (hD'.1 0 1 108 (c + 50) rfl rfl hq) (by decide)
    · exact hq
  have hlt : ∀ j, j ∈ b_full → ad j < H.size := fun j hj => (hP (b_ix j) _ (b_at (b_fullI hj))).lt
  have hSn : va_S A s.heap T'.heap (locs ++ L9) := ⟨Nat.le_trans hva.1 (by rw [e1]; exact hz), fun q h1 h2 => by
      rw [e1, hk q (Nat.lt_of_lt_of_le h1 hva.1) (fun z => h2 (hsub q z))]
      exact hva.2.1 q h1 h2, fun q hq => by
      rcases List.mem_append.mp hq with h | h
      · exact hva.2.2 q h
      · exact hsub _ (hL9 q h)⟩
  generalize hq : ad' (c + 50) = q at *
  have hold : ∀ j, j ∈ b_full → va_at E.1 b_cl (ad j, b_el E ad M j) T'.heap := by
    intro j hj
    have h1 := hP (b_ix j) _ (b_at (b_fullI hj))
    by_cases ej : j = 108
    · have h2 := hP' 0 _ (b_at (L := [108, c + 50]) (c := 108) (q := 0) rfl)
      rw [e1, ej]
      have e3 : b_el E ad' (Mk M (c + 50) n) 108 = b_el E ad M 108 := by
        have w : ∀ i, Mk M (c + 50) n 108 i = M 108 i := fun i => Mk_o (by omega) (by decide)
        simp only [b_el, kd_108, w]
      rw [e3, had] at h2
      exact h2
    · refine h1.kept ?_
      rw [e1]
      refine hk _ (hlt j hj) (fun z => ?_)
      rcases z with ⟨c1, hc1, z⟩ | z
      · rw [List.mem_singleton.mp hc1] at z
        exact ej (b_ixi m_108 hj (hD.1 _ _ _ _ (b_fullI m_108) (b_fullI hj) z)).symm
      · exact Nat.not_le.mpr (hlt j hj) z
  have hnew : va_at E.1 b_cl (q, b_el E ad' (Mk M (c + 50) n) (c + 50)) T'.heap := by
    have h2 := hP' 1 _ (b_at (L := [108, c + 50]) (c := c + 50) (q := 1) rfl)
    rw [hq, ← e1] at h2
    exact h2
  have hlen : (b_ws E ad M b_full).length = 232 := by
    unfold b_ws
    rw [List.length_map]
    exact b_full_len
  generalize hws : b_ws E ad M b_full ++ [(q, b_el E ad' (Mk M (c + 50) n) (c + 50))] = ws
  have w0 : ∀ j, j ∈ b_full → ws[b_ix j]? = some (ad j, b_el E ad M j) := by
    intro j hj
    rw [← hws, List.getElem?_append_left (by rw [hlen]; exact b_ixl hj)]
    exact b_at (b_fullI hj)
  have w1 : ws[232]? = some (q, b_el E ad' (Mk M (c + 50) n) (c + 50)) := by
    rw [← hws, List.getElem?_append_right (by rw [hlen]; exact Nat.le_refl _), hlen]
    rfl
  have w2 : ws.length = 233 := by
    rw [← hws, List.length_append, hlen]
    rfl
  have wc : ∀ (j : Nat) (w : Nat × va_E), ws[j]? = some w → (∃ c1, c1 ∈ b_full ∧ j = b_ix c1 ∧ w = (ad c1, b_el E ad M c1)) ∨ (j = 232 ∧ w = (q, b_el E ad' (Mk M (c + 50) n) (c + 50))) := by
    intro j w hj
    have hl2 := (List.getElem?_eq_some_iff.mp hj).1
    rw [w2] at hl2
    by_cases h : j < 232
    · have hc1 : b_full[j]? = some (b_full[j]'(by rw [b_full_len]; exact h)) := List.getElem?_eq_getElem _
      obtain ⟨h1, h2⟩ := b_fullJ hc1
      generalize b_full[j]'(by rw [b_full_len]; exact h) = c1 at h1 h2
      rw [h1, w0 c1 h2] at hj
      cases hj
      exact Or.inl ⟨c1, h2, h1, rfl⟩
    · have e : j = 232 := by omega
      subst e
      rw [w1] at hj
      cases hj
      exact Or.inr ⟨rfl, rfl⟩
  have hPw : va_P E.1 b_cl ws T'.heap := by
    intro j w hj
    rcases wc j w hj with ⟨c1, h1, -, h2⟩ | ⟨h1, h2⟩
    · rw [h2]; exact hold c1 h1
    · rw [h2]; exact hnew
  have Aq : A q := hA.1 q (Nat.le_trans hva.1 hfr)
  have hDw : va_D A ws := by
    refine ⟨fun i j a b hi hj hab => ?_, fun j w hj => ?_⟩
    · rcases wc i a hi with ⟨c1, h1, i1, h2⟩ | ⟨h1, h2⟩ <;> rcases wc j b hj with ⟨c2, h3, i3, h4⟩ | ⟨h3, h4⟩ <;> rw [h2, h4] at hab <;> dsimp only at hab
      · rw [i1, i3]; exact hD.1 _ _ _ _ (b_fullI h1) (b_fullI h3) hab
      · have := hlt c1 h1
        omega
      · have := hlt c2 h3
        omega
      · omega
    · rcases wc j w hj with ⟨c1, h1, -, h2⟩ | ⟨h1, h2⟩
      · rw [h2]; exact hD.2 c1 h1
      · rw [h2]; exact Aq
  have hel : b_el E ad M c = .inr (0, (List.range 6).map (b_fv ad M c 0)) := by simp only [b_el, kd_act0 hc]
  have hat := w0 c m0
  rw [hel] at hat
  have hq0 : b_cl[0]? = some (b_cl[0]'(by decide)) := rfl
  obtain ⟨⟨ty0, hty0⟩, hnmq⟩ := b_cln hq0
  have hW : W p l e (bX.R xX0_keepSteps) s m args below meth cd T'.heap (locs ++ L9) (0 + 1) (0 + 1000) (G.1 s args below A ad0) (F0 m 16 lsA (.ref q :: .ref (ad c) :: [])) := by
    refine va_put hx hb hts (b_clin hq0) ty0 hty0 hnmq hown hK hPw hDw hSn (b_ix c) hat hq0 5 (by decide) (hts _ wf_0_19) (fun _ h => h) rfl (ty := .array .long) rfl rfl rfl (by simp) dX0_keepSteps_16 (fun H1 locs1 hP1 hD1 hS1 => ?_)
    have ne5 : c ≠ c + 50 := by omega
    have f6 : M c 5 ≠ 0 := hRg.2.1 rfl c 5 (by simp [b_rf, kd_act0 hc]; decide)
    have hP2 : va_P E.1 b_cl (b_ws E (b_ex ad (c + 50) q) (Mk M (c + 50) n) b_full) H1 := by
      refine hP1.by (fun j => if j = b_ix (c + 50) then 232 else j) (fun j w hj => ?_)
      have hj2 : j < b_full.length := by
        have := (List.getElem?_eq_some_iff.mp hj).1
        unfold b_ws at this
        rw [List.length_map] at this
        exact this
      have hc1 : b_full[j]? = some (b_full[j]'hj2) := List.getElem?_eq_getElem _
      generalize b_full[j]'hj2 = c1 at hc1
      rw [b_at hc1] at hj
      cases hj
      obtain ⟨ij, mj⟩ := b_fullJ hc1
      by_cases ej : c1 = c + 50
      · subst ej
        (try dsimp only)
        have n3 : b_ix c ≠ 232 := fun z => absurd (b_ixl m0) (by omega)
        rw [if_pos ij, List.getElem?_set_ne n3, w1]
        rw [show b_ex ad (c + 50) q (c + 50) = q by unfold b_ex; rw [if_pos rfl]]
        simp only [b_el, k6]
      · (try dsimp only)
        rw [if_neg (fun z => ej (b_ixi mj m5 (ij.symm.trans z))), b_ex_ne ej]
        by_cases ec : c1 = c
        · subst ec
          rw [ij, List.getElem?_set_self (by rw [w2]; have := b_ixl mj; omega)]
          congr 2
          simp only [b_el, kd_act0 hc]
          congr 2
          apply List.ext_getElem?
          intro i
          rw [List.getElem?_set]
          by_cases qi : 5 = i
          · subst qi
            rw [if_pos rfl, if_pos (by simp), List.getElem?_map, List.getElem?_range (by decide)]
            show _ = some (b_fv (b_ex ad (c1 + 50) q) (Mk M (c1 + 50) n) c1 0 5)
            have e6 : b_fk 0 5 = (3, 50) := by decide
            have z6 : Mk M (c1 + 50) n c1 ((5 : Nat) : Int) = M c1 5 := Mk_o ne5 (by unfold b_G; omega)
            simp only [b_fv, e6, z6]
            rw [if_neg f6]
            show some (Value.ref q) = some (Value.ref (b_ex ad (c1 + 50) q (c1 + 50)))
            unfold b_ex
            rw [if_pos rfl]
          · rw [if_neg qi, List.getElem?_map, List.getElem?_map]
            cases hi : (List.range 6)[i]? with
            | none => rfl
            | some w =>
              have hwi : w = i ∧ i < 6 := by
                obtain ⟨h1, h2⟩ := List.getElem?_eq_some_iff.mp hi
                simp at h1 h2
                exact ⟨h2.symm, h1⟩
              obtain ⟨rfl, hi7⟩ := hwi
              show some (b_fv ad M c1 0 w) = some (b_fv (b_ex ad (c1 + 50) q) (Mk M (c1 + 50) n) c1 0 w)
              have zw : Mk M (c1 + 50) n c1 (w : Int) = M c1 (w : Int) := Mk_o ne5 (by unfold b_G; omega)
              have cw : w = 0 ∨ w = 1 ∨ w = 2 ∨ w = 3 ∨ w = 4 := by omega
              rcases cw with rfl | rfl | rfl | rfl | rfl
              · simp only [b_fv, show b_fk 0 0 = (0, 0) by decide, zw]
              · simp only [b_fv, show b_fk 0 1 = (0, 0) by decide, zw]
              · simp only [b_fv, show b_fk 0 2 = (3, 10) by decide, zw, b_ex_ne (show c1 + 10 ≠ c1 + 50 by omega)]
              · simp only [b_fv, show b_fk 0 3 = (3, 20) by decide, zw, b_ex_ne (show c1 + 20 ≠ c1 + 50 by omega)]
              · simp only [b_fv, show b_fk 0 4 = (3, 40) by decide, zw, b_ex_ne (show c1 + 40 ≠ c1 + 50 by omega)]
        · rw [ij, List.getElem?_set_ne (fun z => ec (b_ixi m0 mj z).symm), w0 c1 mj]
          congr 2
          have l1 : c1 < 245 := (b_in9 mj).1
          rw [b_el_congr (M' := Mk M (c + 50) n) (M := M) (fun i => Mk_o ej (by unfold b_G; omega)) (by rw [Mk_g nG, if_neg (by omega)])]
          exact (b_el_ad (fun i hr hz => b_ex_ne (tg_ne hc hdr hr ec))).symm
    have hD2 : b_D b_full (b_ex ad (c + 50) q) A := by
      refine ⟨fun i j a b hi hj hab => ?_, fun c1 hc1 => ?_⟩
      · obtain ⟨ia, hi2⟩ := b_fullJ hi
        obtain ⟨jb, hj2⟩ := b_fullJ hj
        unfold b_ex at hab
        by_cases z1 : a = c + 50 <;> by_cases z2 : b = c + 50
        · rw [ia, jb, z1, z2]
        · rw [if_pos z1, if_neg z2] at hab
          have := hlt b hj2
          omega
        · rw [if_neg z1, if_pos z2] at hab
          have := hlt a hi2
          omega
        · rw [if_neg z1, if_neg z2] at hab
          exact hD.1 i j a b hi hj hab
      · unfold b_ex
        split
        · exact Aq
        · exact hD.2 c1 hc1
    have rfM : ∀ c' i, b_rf c' i = true → Mk M (c + 50) n c' i = M c' i := by
      intro c' i hr'
      refine Mk_o (fun z => ?_) (fun z => ?_)
      · rw [z] at hr'
        simp only [b_rf, k6] at hr'
        cases hr'
      · rw [z] at hr'
        simp only [b_rf, show b_kd b_G = (9, 0, 0) by decide +kernel] at hr'
        cases hr'
    have hI2 : b_Inv b_full (Mk M (c + 50) n) := by
      refine ⟨Mk_R k6 (by omega) hRg.1, fun _ c' i hr' => by rw [rfM c' i hr']; exact hRg.2.1 rfl c' i hr', fun c' hc' i hr' hz' => ?_⟩
      rw [rfM c' i hr'] at hz'
      have e : b_tg (Mk M (c + 50) n) c' i = b_tg M c' i := by
        unfold b_tg
        rw [rfM c' i hr']
      rw [e]
      exact hRg.2.2 c' hc' i hr' hz'
    refine k p e s m args below meth cd H1 locs1 lsA A ad0 (b_ex ad (c + 50) q) hX ⟨hP2, hD2, hI2, hS1, hA.1, hA.2.1, hA.2.2.1, hA.2.2.2.1, fun z hz => by rw [b_ex_ne (by omega)]; exact hA.2.2.2.2 z hz⟩ ⟨?_, hlo, fun v hv => by cases hv⟩ ?_ hG
    · rw [b_ex_tl]
      · exact hl
      · intro z hz
        simp only [List.mem_cons, List.not_mem_nil, or_false] at hz
        rcases hz with rfl | rfl | rfl
        · show c ≠ c + 50
          omega
        · show 108 ≠ c + 50
          omega
        · trivial
    · intro c1 hc1 hf1
      rw [b_ex_ne (by unfold b_fx at hf1; omega)]
      exact hsb c1 hc1 hf1
  obtain ⟨t2, a1, b1⟩ := hW T' rfl X'
  subst hq
  exact ⟨t2, stp t2 a1, b1⟩
