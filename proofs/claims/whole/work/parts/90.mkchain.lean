def S_chain : bW := [(3, some 0), (5, some 0), (6, some 0), (11, some 13), (11, some 20), (11, some 35), (11, some 53), (11, some 54), (126, none), (163, none), (164, none), (165, none), (166, none), (167, none), (170, none), (171, none), (174, none), (182, none), (183, none), (184, none), (185, none), (187, none), (188, none), (189, none), (190, none), (191, none), (192, none), (193, none), (194, none), (195, none), (196, none), (197, none), (198, none), (199, none), (200, none), (201, none), (202, none), (203, none), (204, none), (205, none), (206, none), (207, none), (217, none), (218, none)]
def GS (M N : bM) : Prop := ∀ c i, b_ins S_chain c i = true → N c i = M c i
theorem GS_ss {M N : bM} (h : GS M N) : SS M N := fun c i hi => h c i (b_sbs_ins (by decide +kernel : b_sbs S_spec S_chain = true) hi)
theorem GS_s {M N : bM} (h : GS M N) : GS N M := fun c i hi => (h c i hi).symm
theorem gs_all {M N : bM} (h : GS M N) (d l p : Int) : (g_lk N l = g_lk M l) ∧ (g_nx N d = g_nx M d) ∧ (g_en N d p = g_en M d p) ∧ (g_rt N l = g_rt M l) ∧ (g_st N d l = g_st M d l) ∧ (∀ b, g_B N b = g_B M b ∧ g_F N b = g_F M b ∧ g_p N b = g_p M b ∧ g_T N b = g_T M b) ∧ N 218 = M 218 ∧ x_lab N d = x_lab M d ∧ N 217 = M 217 := by
  have ss := GS_ss h
  have e126 : N 126 = M 126 := funext fun i => h 126 i rfl
  have e174 : N 174 = M 174 := funext fun i => h 174 i rfl
  have e217 : N 217 = M 217 := funext fun i => h 217 i rfl
  have e218 : N 218 = M 218 := funext fun i => h 218 i rfl
  have e6 := h 6 0 rfl
  have e20 := h 11 20 rfl
  have el := sp_lab ss d
  have er := sp_rule ss d
  have ed := sp_dea ss d
  have ec : x_chi N d = x_chi M d := funext fun g => funext fun c => propext (sp_chi ss d g c)
  have a1 : g_lk N l = g_lk M l := by funext b; unfold g_lk g_L g_T; rw [e126, e174, e6]
  have a2 : g_nx N d = g_nx M d := by funext a b; unfold g_nx g_G g_F; rw [e126, el, er, ed, ec]
  have a3 : g_en N d p = g_en M d p := by funext a; unfold g_en; rw [el, er, ed, ec]
  have a4 : g_rt N l = g_rt M l := by funext a; unfold g_rt; rw [e217, e174, e20]
  have a5 : g_st N d l = g_st M d l := by funext a b; unfold g_st g_F; rw [a4, a2, el, e217, e218, e126]
  refine ⟨a1, a2, a3, a4, a5, fun b => ?_, e218, el, e217⟩
  unfold g_B g_F g_p g_T
  rw [e126]
  exact ⟨rfl, rfl, rfl, rfl⟩
theorem gs_P {M N : bM} (h : GS M N) (d l p x : Int) (s : Bool) : ∀ t, g_P N d l p x s t = g_P M d l p x s t := by
  obtain ⟨a1, a2, a3, a4, a5, a6, a7, a8, a9⟩ := gs_all h d l p
  intro t
  induction t with
  | zero =>
    funext b day
    unfold g_P
    rw [a1, a3, a8, (a6 b).2.2.1, (a6 b).2.2.2]
  | succ t ih =>
    funext b day
    unfold g_P
    rw [a1, a2, a8, (a6 b).2.2.1, (a6 b).2.2.2, ih]
    have : (fun n => (s = true ∨ n ≠ b) ∧ g_nx M d (x_lab M d (g_T M b)) n ∧ day ≤ g_F N n ∧ g_P M d l p x s t n (max day (g_B N n))) = fun n => (s = true ∨ n ≠ b) ∧ g_nx M d (x_lab M d (g_T M b)) n ∧ day ≤ g_F M n ∧ g_P M d l p x s t n (max day (g_B M n)) := by
      funext n
      rw [(a6 n).1, (a6 n).2.1]
    rw [this]
theorem gs_more {M N : bM} (h : GS M N) (d l p x : Int) (s : Bool) (t : Nat) : g_R N d l p x s t = g_R M d l p x s t ∧ g_K N d l p x s t = g_K M d l p x s t := by
  obtain ⟨a1, a2, a3, a4, a5, a6, a7, a8, a9⟩ := gs_all h d l p
  have e : g_R N d l p x s t = g_R M d l p x s t := by
    funext r b
    unfold g_R
    rw [a5, a7, gs_P h, (a6 b).1]
  refine ⟨e, ?_⟩
  have e2 : ∀ r b, (g_st N d l r b ∧ g_P N d l p x s t b (max (N 218 r) (g_B N b))) = (g_st M d l r b ∧ g_P M d l p x s t b (max (M 218 r) (g_B M b))) := fun r b => congrFun (congrFun e r) b
  unfold g_K
  simp only [e2]
theorem gs_Sr {M N : bM} (h : GS M N) {d l p ans : Int} {F : Int → Int} (hs : Sr N d l p ans F) : Sr M d l p ans F := by
  obtain ⟨a1, a2, a3, a4, a5, a6, a7, a8, a9⟩ := gs_all h d l p
  have hK := fun x s t => (gs_more h d l p x s t).2
  have hR := fun x s t => (gs_more h d l p x s t).1
  have hCh : ∀ x, Ch N d l p x = Ch M d l p x := fun x => by unfold Ch; simp only [hK]
  have hSh : ∀ x t, Sh N d l p x t = Sh M d l p x t := fun x t => by unfold Sh; simp only [hK]
  have hBr : ∀ r, Br N d l p r = Br M d l p r := fun r => by unfold Br; simp only [a4, a3, a8, a9]
  have hGw : ∀ x w, Gw N d l p x w = Gw M d l p x w := fun x w => by unfold Gw; simp only [hCh, a1, fun b => (a6 b).2.2.1]
  have hVp : ∀ r b, Vp N d l p r b = Vp M d l p r b := fun r b => by unfold Vp; rw [a1, a3, a4, a7, a8, (a6 b).2.1, (a6 b).2.2.2]
  have hGp : ∀ x r b, Gp N d l p x r b = Gp M d l p x r b := fun x r b => by unfold Gp; simp only [hVp, fun b => (a6 b).2.2.1]
  have hNx : ∀ x u c D b, Nx N d l p x u c D b = Nx M d l p x u c D b := fun x u c D b => by unfold Nx; rw [a2, a8, gs_P h, (a6 b).1, (a6 b).2.1, (a6 c).2.2.2]
  have hRp : ∀ x t r f D k, Rp N d l p x t r f D k = Rp M d l p x t r f D k := fun x t r f D k => by unfold Rp; simp only [hNx, hR, a7, fun b => (a6 b).1]
  have hRw : ∀ x t r f, Rw N d l p x t r f = Rw M d l p x t r f := fun x t r f => by unfold Rw; simp only [hRp]
  have e3 := h 3 0 rfl
  unfold Sr at hs ⊢
  simp only [hBr, hGw, hSh, hR, hRw, hVp, hGp, e3] at hs
  exact hs
theorem t_mkChain1 {M : bM} {d l p : Int} (hO : O_all M d) (hl : 0 ≤ l ∧ l < M 3 0) (hp : 0 ≤ p ∧ p < M 2 0) {u : Int} (hu : u = 0 ∨ u = 1) (hu2 : u = 1 ↔ x_rule M d 8 = 1) : b_wp (F_X12_makeChain_b22 l p d u M) (fun o => (o.1 = 0 ∨ (o.1 = 1 ∧ o.2 11 84 ≠ -1)) ∧ Sr M d l p (if o.1 = 0 then -1 else o.2 11 84) (fN o.2)) := by
  have l1 := hO.1.1.2.2.1.1
  have b1 := hO.1.1.2.2.2.2.2.2.2.2.2
  unfold F_X12_makeChain_b22
  refine b_Wg hu (b_Wl (b_Wl (b_Wg (by omega) (b_Wl (b_Wl (b_Wl (b_Wl (b_Wl ?_))))))))
  generalize hN : b_up (b_up (b_up (b_up (b_up (b_up (b_up M 11 80 u) 11 81 d) 11 82 (b_up (b_up M 11 80 u) 11 81 d 174 l)) 11 83 p) 11 86 0) 11 84 0) 11 85 999 = N
  have fN' : ∀ c j, ¬ (c = 11 ∧ 80 ≤ j ∧ j ≤ 86) → N c j = M c j := by
    intro c j h
    subst hN
    unfold b_up
    rw [if_neg (by omega), if_neg (by omega), if_neg (by omega), if_neg (by omega), if_neg (by omega), if_neg (by omega), if_neg (by omega)]
  have gN : N 11 80 = u ∧ N 11 81 = d ∧ N 11 82 = M 174 l ∧ N 11 83 = p ∧ N 11 84 = 0 ∧ N 11 85 = 999 ∧ N 11 86 = 0 := by
    subst hN
    simp [b_up]
  clear hN
  have zN : Zc M d l p N := by
    refine ⟨fun c i hi => fN' c i (fun e => ?_), by rw [gN.1]; exact ⟨hu, hu2⟩, gN.2.1, gN.2.2.1, gN.2.2.2.1⟩
    obtain ⟨rfl, e1, e2⟩ := e
    have : i = 80 ∨ i = 81 ∨ i = 82 ∨ i = 83 ∨ i = 84 ∨ i = 85 ∨ i = 86 := by omega
    rcases this with rfl | rfl | rfl | rfl | rfl | rfl | rfl <;> exact absurd hi (by decide)
  have n20 : N 11 20 = M 11 20 := fN' 11 20 (by omega)
  rw [n20]
  refine b_Wg (by omega) (b_Wl (b_Wb (b_wp_m (fun r0 yr => ?_) (t_cBare hO hp zN))))
  obtain ⟨hBr, hr0⟩ := yr
  unfold F_X12_makeChain_b111
  refine b_Wb (b_wp_m (fun P y => ?_) (t_makeWays hO hp zN))
  obtain ⟨y1, y2, y3⟩ := y
  have zP : Zw M d l p P := ⟨y1, y3⟩
  have go : ∀ u0, u0 + 1 = (if r0 = -1 then 0 else 1000) → b_wp (F_X12_makeChain_b128 r0 u0 P) (fun o => (o.1 = 0 ∨ (o.1 = 1 ∧ o.2 11 84 ≠ -1)) ∧ Sr M d l p (if o.1 = 0 then -1 else o.2 11 84) (fN o.2)) := by
    intro u0 hu0
    unfold F_X12_makeChain_b128
    refine b_Wb (b_wp_m (fun o z => ?_) (t_cBest (v4 := r0) (u0 := u0) hO zP))
    obtain ⟨best, has, Q⟩ := o
    obtain ⟨z1, z2⟩ := z
    dsimp only at z1 z2 ⊢
    have zQ : Zw M d l p Q := Zw_up zP (fun c j _ c2 _ => z1 c j c2)
    have q84 : Q 11 84 = 0 ∧ Q 11 85 = 999 ∧ Q 11 86 = 0 := by
      rw [z1 11 84 (by decide), z1 11 85 (by decide), z1 11 86 (by decide), y2 11 84 (by decide) (by decide) (by decide), y2 11 85 (by decide) (by decide) (by decide), y2 11 86 (by decide) (by decide) (by decide)]
      exact ⟨gN.2.2.2.2.1, gN.2.2.2.2.2.1, gN.2.2.2.2.2.2⟩
    unfold F_X12_makeChain_b190 F_X12_makeChain_b209
    rw [hu0] at z2
    rcases z2 with ⟨e1, e2, e3⟩ | ⟨e1, e2, e3⟩
    · refine b_Wt e2 (b_Wi (fun q => b_Wt e2 ?_) (fun q => ?_))
      · rw [if_pos q] at hu0
        have e4 : best = -1 := by omega
        rw [e4]
        refine b_Wb (b_wp_m (fun o x => ?_) (t_cGap hO zQ))
        obtain ⟨bs, wh, R⟩ := o
        obtain ⟨x1, x2⟩ := x
        dsimp only at x1 x2 ⊢
        unfold F_X12_makeChain_b359
        rcases x2 with ⟨x2, x3⟩ | ⟨x2, x3⟩
        · refine b_Wt x2 (b_Ws ⟨Or.inl rfl, r0, -1, hBr, Or.inl ⟨rfl, e3⟩, Or.inr (Or.inr (Or.inl ⟨rfl, q, ?_, x3⟩))⟩)
          dsimp only
          rw [if_pos rfl]
        · refine b_Wf (by omega) (b_Wl (b_Wl (b_Wl (b_Wl (b_Ws ⟨Or.inr ⟨rfl, by simp [b_up]⟩, r0, -1, hBr, Or.inl ⟨rfl, e3⟩, Or.inr (Or.inr (Or.inr ⟨rfl, q, ?_, bs, R 11 87, wh, x3, ?_, ?_, ?_, ?_, ?_⟩))⟩)))))
          · dsimp only
            rw [if_neg (by decide)]
            simp [b_up]
          · simp [fN, b_up]
          · simp [fN, b_up]
          · simp [fN, b_up]
          · simp [fN, b_up]
          · simp [fN, b_up]
      · refine b_Wl (b_Ws ⟨Or.inr ⟨rfl, by simp [b_up, q84.1]⟩, r0, -1, hBr, Or.inl ⟨rfl, e3⟩, Or.inr (Or.inl ⟨rfl, q, ?_, ?_, ?_, ?_, ?_⟩)⟩)
        · dsimp only
          rw [if_neg (by decide), b_upi (by decide)]; exact q84.1
        · simp [fN, b_up, q84.1]
        · simp [fN, b_up, q84.2.1]
        · simp [fN, b_up, q84.2.2]
        · simp [fN, b_up]
    · have bw : best ≠ -1 := by
        have : 0 ≤ u0 + 1 := by rw [hu0]; split <;> omega
        omega
      have hch : Ch M d l p best := by
        rcases e2 with e2 | e2
        · exact absurd e2.1 bw
        · exact e2.1
      refine b_Wf (by omega) (b_Wf (by omega) (b_Wb (b_wp_m (fun o x => ?_) (t_fewest (x := best) hO zQ))))
      obtain ⟨f, R⟩ := o
      obtain ⟨x1, x2, x3⟩ := x
      dsimp only at x1 x2 x3
      have zR : Zw M d l p R := Zw_up zQ (fun c j _ c2 _ => x1 c j c2)
      refine b_Wtwo ?_
      dsimp only
      rcases x3 with ⟨_, x3⟩ | ⟨t, hf, hs⟩
      · exact absurd hch x3
      · have tr := t_rootFor (t := t) hO zR x2 (by have := hs.1; omega)
        rw [← hf] at tr
        refine b_Wb (b_wp_m (fun r w => ?_) tr)
        rcases w with ⟨_, w⟩ | ⟨w1, w2, w3⟩
        · exact absurd hs.2.1 w
        · refine b_Wl ?_
          rw [b_ups]
          generalize hS : b_up R 11 87 r = S
          have sF : ∀ c j, ¬ (c = 11 ∧ j = 87) → S c j = R c j := fun c j h => by subst hS; unfold b_up; rw [if_neg h]
          have s87 : S 11 87 = r := by subst hS; exact b_ups
          clear hS
          have zS : Zw M d l p S := Zw_up zR (fun c j _ _ c3 => sF c j (by omega))
          have lS : Lr M d l p best S 8 := fun t' b ht' x0 x1 => by rw [sF 220 _ (by omega)]; exact x2 t' b ht' x0 x1
          have tt := t_takeLinks (r := r) hO zS lS hs w1 w2
          rw [← hf] at tt
          refine b_Wb (b_wp_m (fun T v => ?_) tt)
          obtain ⟨v1, v2, D, v3⟩ := v
          have zT : Zw M d l p T := Zw_up zS (fun c j c1 _ c3 => v1 c j c1 (by omega))
          have hq : ∀ j : Nat, j ≤ t → g_lk M l (T 219 (j : Int)) ∧ best ≤ g_p M (T 219 (j : Int)) := fun j hj => g_P_lk (Rp_q j hj ⟨v3.1, fun i hi => v3.2 i (by omega)⟩).2
          refine b_Wb (b_wp_m (fun wk k => ?_) (t_weakest (t := t) hO zT hs.1 (by rw [v2]; omega) (fun j hj => (hq j hj).1.1)))
          obtain ⟨⟨j0, k1, k2⟩, k3⟩ := k
          have hwk : wk = best := by
            have a1 := (hq j0 k1).2
            have a2 : Ch M d l p wk := ⟨t, hs.1, Rp_K v3 k3⟩
            rcases e2 with e2 | e2
            · exact absurd e2.1 bw
            · have := e2.2.2.2 _ (hq j0 k1).1 (by omega) (by rw [← k2]; exact a2)
              omega
          have t84 : T 11 84 = 0 := by
            rw [v1 11 84 (by decide) (by omega), sF 11 84 (by omega), x1 11 84 (by decide)]; exact q84.1
          have t87 : T 11 87 = r := by rw [v1 11 87 (by decide) (by omega)]; exact s87
          refine b_Wl (b_Ws ⟨Or.inr ⟨rfl, by simp [b_up, t84]⟩, r0, best, hBr, e2, Or.inl ⟨bw, ?_, ?_, ?_, t, hs, ?_, ?_, ?_⟩⟩)
          · dsimp only
            rw [if_neg (by decide), b_upi (by decide)]; exact t84
          · simp [fN, b_up, t84]
          · simp [fN, b_up, hwk]
          · have : fN (b_up T 11 85 wk) 2 = T 11 86 := by simp [fN, b_up]
            dsimp only
            rw [this, v2]; omega
          · have : fN (b_up T 11 85 wk) 3 = r := by simp [fN, b_up, t87]
            dsimp only
            rw [this]
            exact ⟨by omega, w2, w3⟩
          · have e3' : fN (b_up T 11 85 wk) 3 = r := by simp [fN, b_up, t87]
            have e4 : (fun i : Nat => fN (b_up T 11 85 wk) (4 + (i : Int))) = fun i : Nat => T 219 (i : Int) := by
              funext i
              unfold fN
              rw [if_neg (by omega), b_upc (by decide), show (4 : Int) + (i : Int) - 4 = (i : Int) by omega]
            dsimp only
            rw [e3', e4]
            exact ⟨D, v3⟩
  refine b_Wi (fun q => go (-1) ?_) (fun q => go 999 ?_)
  · rw [if_pos q]; rfl
  · rw [if_neg q]; rfl
theorem G_shown {M N : bM} {d : Int} (f : b_fr W_X12_makeShown M N) (h : G_all M d) : G_all N d := G_all_k f (by decide +kernel) (by decide +kernel) (by decide +kernel) (by decide +kernel) (by decide +kernel) (by decide +kernel) (by decide +kernel) (by decide +kernel) (by decide +kernel) (by decide +kernel) (by decide +kernel) h
theorem t_makeChain {M : bM} {d l p : Int} (hG : G_all M d) (hP : P_all M) (hRr : R_root M) (hl : 0 ≤ l ∧ l < M 3 0) (hp : 0 ≤ p ∧ p < M 2 0) : b_wp (F_X12_makeChain l p d M) (fun o => b_fr W_X12_makeChain M o.2 ∧ (o.1 = 0 ∨ (o.1 = 1 ∧ o.2 11 84 ≠ -1)) ∧ Sr M d l p (if o.1 = 0 then -1 else o.2 11 84) (fN o.2)) := by
  refine b_wl_wp (w_X12_makeChain b_fr_refl) ?_
  unfold F_X12_makeChain
  refine b_Wb (b_wp_m (fun N y => ?_) (t_made (d := d) hG.1 hP))
  obtain ⟨y1, y2, y3, y4⟩ := y
  have hO : O_all N d := ⟨G_shown y1 hG, y4, y3, R_root_k (b_kp1 y1 (by decide +kernel)) hRr⟩
  have gs : GS M N := b_kp1 y1 (by decide +kernel)
  have n3 : N 3 0 = M 3 0 := y1 3 0 (by decide)
  have n2 : N 2 0 = M 2 0 := y1 2 0 (by decide)
  refine b_We (e_X12_ruleOn y2.2.2.2.2.2.2.1 (by omega)) ?_
  refine b_Wi (fun q => b_wp_m (fun o w => ⟨w.1, gs_Sr gs w.2⟩) (t_mkChain1 hO (by omega) (by omega) (Or.inr rfl) ⟨fun _ => q, fun _ => rfl⟩)) (fun q => b_wp_m (fun o w => ⟨w.1, gs_Sr gs w.2⟩) (t_mkChain1 hO (by omega) (by omega) (Or.inl rfl) ⟨fun z => absurd z (by decide), fun z => absurd z q⟩))
