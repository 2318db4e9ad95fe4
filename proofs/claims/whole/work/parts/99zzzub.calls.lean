theorem ff_8 {A : bM → Prop} {a : Int → Int} {i : Int} {M : bM} (hi : 0 ≤ i ∧ i + 8 ≤ 4096) (hR : R_fin i M) : lw_o8 (R_fin (i + 8)) A a M := by
  unfold lw_o8
  have hC := R_fin_C hR
  have hS := R_fin_s hR
  obtain ⟨hday, htape, hppl, hfault, hlots, hshape, hcoin, hburnt, hpages, hplace, hlook, hlink, hmort, hclaim, hsign, hknow, hrules, hpap, hwts, hev, hmarks, hprog, hroot, hrul, hcref, hways, hbd, hcode, hw0, hcor, hwd, hn3, hz0, hpg1, hmref, hbnd⟩ := hR
  refine b_wp_m (fun o w => ?_) (b_wl_wp (b_wl_and (w_X11_deadOn b_fr_refl) b_wl_any) (op_deadOn hppl hknow))
  have f1 := w.1.1
  have fc := w.1.2
  (try dsimp only at fc)
  refine b_wp_m (fun o2 z => ?_) (b_wl_wp (b_wl_and (w_X12_deadOn b_fr_refl) b_wl_any) w.2)
  have f2 := z.1.1
  have fr := z.1.2
  (try dsimp only at fr)
  have ff := fr_app f2 f1
  have ea := z.2.1
  (try dsimp only at ea)
  have ps := z.2.2
  have nppl : R_ppl o2.2 := ps.1
  have nknow : R_know o2.2 := ps.2
  have nday : R_day o2.2 := R_day_k (b_kp1 ff (by decide +kernel)) hday
  have ntape : R_tape o2.2 := R_tape_k (b_kp1 ff (by decide +kernel)) htape
  have nfault : R_fault o2.2 := R_fault_k (b_kp1 ff (by decide +kernel)) hfault
  have nlots : R_lots o2.2 := R_lots_k (b_kp1 ff (by decide +kernel)) hlots
  have nshape : R_shape o2.2 := R_shape_k (b_kp1 ff (by decide +kernel)) hshape
  have ncoin : R_coin o2.2 := R_coin_k (b_kp1 ff (by decide +kernel)) hcoin
  have nburnt : R_burnt o2.2 := R_burnt_k (b_kp1 ff (by decide +kernel)) hburnt
  have npages : R_pages o2.2 := R_pages_k (b_kp1 ff (by decide +kernel)) hpages
  have nplace : R_place o2.2 := R_place_k (b_kp1 ff (by decide +kernel)) hplace
  have nlook : R_look o2.2 := R_look_k (b_kp1 ff (by decide +kernel)) hlook
  have nlink : R_link o2.2 := R_link_k (b_kp1 ff (by decide +kernel)) hlink
  have nmort : R_mort o2.2 := R_mort_k (b_kp1 ff (by decide +kernel)) hmort
  have nclaim : R_claim o2.2 := R_claim_k (b_kp1 ff (by decide +kernel)) hclaim
  have nsign : R_sign o2.2 := R_sign_k (b_kp1 ff (by decide +kernel)) hsign
  have nrules : R_rules o2.2 := R_rules_k (b_kp1 ff (by decide +kernel)) hrules
  have npap : R_pap o2.2 := R_pap_k (b_kp1 ff (by decide +kernel)) hpap
  have nwts : R_wts o2.2 := R_wts_q (b_kp1 ff (by decide +kernel)) hwts
  have nev : R_ev o2.2 := R_ev_k (b_kp1 ff (by decide +kernel)) hev
  have nmarks : R_marks o2.2 := R_marks_k (b_kp1 ff (by decide +kernel)) hmarks
  have nprog : R_prog o2.2 := R_prog_k (b_kp1 ff (by decide +kernel)) hprog
  have nroot : R_root o2.2 := R_root_k (b_kp1 ff (by decide +kernel)) hroot
  have nrul : R_rul o2.2 := R_rul_k (b_kp1 ff (by decide +kernel)) hrul
  have ncref : R_cref o2.2 := R_cref_k (b_kp1 ff (by decide +kernel)) hcref
  have nways : R_ways o2.2 := R_ways_k (b_kp1 ff (by decide +kernel)) hways
  have nbd : R_bd o2.2 := R_bd_k (b_kp1 ff (by decide +kernel)) hbd
  have ncode : R_code o2.2 := R_code_k (b_kp1 ff (by decide +kernel)) hrules.1.2.2 hcode
  have nw0 : R_w0 o2.2 := R_w0_k (b_kp1 ff (by decide +kernel)) hw0
  have ncor : R_cor o2.2 := R_cor_k (b_kp1 ff (by decide +kernel)) hcor
  have nwd : R_wd o2.2 := R_wd_k (b_kp1 ff (by decide +kernel)) hwd
  have nn3 : N3 o2.2 := R_n3_k (b_kp1 ff (by decide +kernel)) hn3
  have nz0 : R_z0 o2.2 := R_z0_k (b_kp1 ff (by decide +kernel)) hz0
  have npg1 : R_pg1 o2.2 := R_pg1_k (b_kp1 ff (by decide +kernel)) hpg1
  have nmref : R_mref o2.2 := R_mref_k (b_kp1 ff (by decide +kernel)) hmref
  have nbnd : R_bnd (i + 8) o2.2 := R_bnd_k (b_kp1 ff (by decide +kernel)) hbnd
  exact ⟨ea, nday, ntape, nppl, nfault, nlots, nshape, ncoin, nburnt, npages, nplace, nlook, nlink, nmort, nclaim, nsign, nknow, nrules, npap, nwts, nev, nmarks, nprog, nroot, nrul, ncref, nways, nbd, ncode, nw0, ncor, nwd, nn3, nz0, npg1, nmref, nbnd⟩
theorem ff_9 {A : bM → Prop} {a : Int → Int} {i : Int} {M : bM} (hi : 0 ≤ i ∧ i + 8 ≤ 4096) (hR : R_fin i M) : lw_o9 (R_fin (i + 8)) A a M := by
  unfold lw_o9
  have hC := R_fin_C hR
  have hS := R_fin_s hR
  obtain ⟨hday, htape, hppl, hfault, hlots, hshape, hcoin, hburnt, hpages, hplace, hlook, hlink, hmort, hclaim, hsign, hknow, hrules, hpap, hwts, hev, hmarks, hprog, hroot, hrul, hcref, hways, hbd, hcode, hw0, hcor, hwd, hn3, hz0, hpg1, hmref, hbnd⟩ := hR
  refine b_wp_m (fun o w => ?_) (b_wl_wp (b_wl_and (w_X11_one b_fr_refl) b_wl_any) (op_one hppl hknow))
  have f1 := w.1.1
  have fc := w.1.2
  (try dsimp only at fc)
  refine b_wp_m (fun o2 z => ?_) (b_wl_wp (b_wl_and (w_X12_one b_fr_refl) b_wl_any) w.2)
  have f2 := z.1.1
  have fr := z.1.2
  (try dsimp only at fr)
  have ff := fr_app f2 f1
  have ea := z.2.1
  (try dsimp only at ea)
  have ps := z.2.2
  have nppl : R_ppl o2.2 := ps.1
  have nknow : R_know o2.2 := ps.2
  have nday : R_day o2.2 := R_day_k (b_kp1 ff (by decide +kernel)) hday
  have ntape : R_tape o2.2 := R_tape_k (b_kp1 ff (by decide +kernel)) htape
  have nfault : R_fault o2.2 := R_fault_k (b_kp1 ff (by decide +kernel)) hfault
  have nlots : R_lots o2.2 := R_lots_k (b_kp1 ff (by decide +kernel)) hlots
  have nshape : R_shape o2.2 := R_shape_k (b_kp1 ff (by decide +kernel)) hshape
  have ncoin : R_coin o2.2 := R_coin_k (b_kp1 ff (by decide +kernel)) hcoin
  have nburnt : R_burnt o2.2 := R_burnt_k (b_kp1 ff (by decide +kernel)) hburnt
  have npages : R_pages o2.2 := R_pages_k (b_kp1 ff (by decide +kernel)) hpages
  have nplace : R_place o2.2 := R_place_k (b_kp1 ff (by decide +kernel)) hplace
  have nlook : R_look o2.2 := R_look_k (b_kp1 ff (by decide +kernel)) hlook
  have nlink : R_link o2.2 := R_link_k (b_kp1 ff (by decide +kernel)) hlink
  have nmort : R_mort o2.2 := R_mort_k (b_kp1 ff (by decide +kernel)) hmort
  have nclaim : R_claim o2.2 := R_claim_k (b_kp1 ff (by decide +kernel)) hclaim
  have nsign : R_sign o2.2 := R_sign_k (b_kp1 ff (by decide +kernel)) hsign
  have nrules : R_rules o2.2 := R_rules_k (b_kp1 ff (by decide +kernel)) hrules
  have npap : R_pap o2.2 := R_pap_k (b_kp1 ff (by decide +kernel)) hpap
  have nwts : R_wts o2.2 := R_wts_q (b_kp1 ff (by decide +kernel)) hwts
  have nev : R_ev o2.2 := R_ev_k (b_kp1 ff (by decide +kernel)) hev
  have nmarks : R_marks o2.2 := R_marks_k (b_kp1 ff (by decide +kernel)) hmarks
  have nprog : R_prog o2.2 := R_prog_k (b_kp1 ff (by decide +kernel)) hprog
  have nroot : R_root o2.2 := R_root_k (b_kp1 ff (by decide +kernel)) hroot
  have nrul : R_rul o2.2 := R_rul_k (b_kp1 ff (by decide +kernel)) hrul
  have ncref : R_cref o2.2 := R_cref_k (b_kp1 ff (by decide +kernel)) hcref
  have nways : R_ways o2.2 := R_ways_k (b_kp1 ff (by decide +kernel)) hways
  have nbd : R_bd o2.2 := R_bd_k (b_kp1 ff (by decide +kernel)) hbd
  have ncode : R_code o2.2 := R_code_k (b_kp1 ff (by decide +kernel)) hrules.1.2.2 hcode
  have nw0 : R_w0 o2.2 := R_w0_k (b_kp1 ff (by decide +kernel)) hw0
  have ncor : R_cor o2.2 := R_cor_k (b_kp1 ff (by decide +kernel)) hcor
  have nwd : R_wd o2.2 := R_wd_k (b_kp1 ff (by decide +kernel)) hwd
  have nn3 : N3 o2.2 := R_n3_k (b_kp1 ff (by decide +kernel)) hn3
  have nz0 : R_z0 o2.2 := R_z0_k (b_kp1 ff (by decide +kernel)) hz0
  have npg1 : R_pg1 o2.2 := R_pg1_k (b_kp1 ff (by decide +kernel)) hpg1
  have nmref : R_mref o2.2 := R_mref_k (b_kp1 ff (by decide +kernel)) hmref
  have nbnd : R_bnd (i + 8) o2.2 := R_bnd_k (b_kp1 ff (by decide +kernel)) hbnd
  exact ⟨ea, nday, ntape, nppl, nfault, nlots, nshape, ncoin, nburnt, npages, nplace, nlook, nlink, nmort, nclaim, nsign, nknow, nrules, npap, nwts, nev, nmarks, nprog, nroot, nrul, ncref, nways, nbd, ncode, nw0, ncor, nwd, nn3, nz0, npg1, nmref, nbnd⟩
theorem ff_10 {A : bM → Prop} {a : Int → Int} {i : Int} {M : bM} (hi : 0 ≤ i ∧ i + 8 ≤ 4096) (hR : R_fin i M) : lw_o10 (R_fin (i + 8)) A a M := by
  unfold lw_o10
  have hC := R_fin_C hR
  have hS := R_fin_s hR
  obtain ⟨hday, htape, hppl, hfault, hlots, hshape, hcoin, hburnt, hpages, hplace, hlook, hlink, hmort, hclaim, hsign, hknow, hrules, hpap, hwts, hev, hmarks, hprog, hroot, hrul, hcref, hways, hbd, hcode, hw0, hcor, hwd, hn3, hz0, hpg1, hmref, hbnd⟩ := hR
  refine b_wp_m (fun o w => ?_) (b_wl_wp (b_wl_and (w_X11_names b_fr_refl) b_wl_any) (op_names hppl hknow))
  have f1 := w.1.1
  have fc := w.1.2
  (try dsimp only at fc)
  refine b_wp_m (fun o2 z => ?_) (b_wl_wp (b_wl_and (w_X12_names b_fr_refl) b_wl_any) w.2)
  have f2 := z.1.1
  have fr := z.1.2
  (try dsimp only at fr)
  have ff := fr_app f2 f1
  have ea := z.2.1
  (try dsimp only at ea)
  have ps := z.2.2
  have nppl : R_ppl o2.2 := ps.1
  have nknow : R_know o2.2 := ps.2
  have nday : R_day o2.2 := R_day_k (b_kp1 ff (by decide +kernel)) hday
  have ntape : R_tape o2.2 := R_tape_k (b_kp1 ff (by decide +kernel)) htape
  have nfault : R_fault o2.2 := R_fault_k (b_kp1 ff (by decide +kernel)) hfault
  have nlots : R_lots o2.2 := R_lots_k (b_kp1 ff (by decide +kernel)) hlots
  have nshape : R_shape o2.2 := R_shape_k (b_kp1 ff (by decide +kernel)) hshape
  have ncoin : R_coin o2.2 := R_coin_k (b_kp1 ff (by decide +kernel)) hcoin
  have nburnt : R_burnt o2.2 := R_burnt_k (b_kp1 ff (by decide +kernel)) hburnt
  have npages : R_pages o2.2 := R_pages_k (b_kp1 ff (by decide +kernel)) hpages
  have nplace : R_place o2.2 := R_place_k (b_kp1 ff (by decide +kernel)) hplace
  have nlook : R_look o2.2 := R_look_k (b_kp1 ff (by decide +kernel)) hlook
  have nlink : R_link o2.2 := R_link_k (b_kp1 ff (by decide +kernel)) hlink
  have nmort : R_mort o2.2 := R_mort_k (b_kp1 ff (by decide +kernel)) hmort
  have nclaim : R_claim o2.2 := R_claim_k (b_kp1 ff (by decide +kernel)) hclaim
  have nsign : R_sign o2.2 := R_sign_k (b_kp1 ff (by decide +kernel)) hsign
  have nrules : R_rules o2.2 := R_rules_k (b_kp1 ff (by decide +kernel)) hrules
  have npap : R_pap o2.2 := R_pap_k (b_kp1 ff (by decide +kernel)) hpap
  have nwts : R_wts o2.2 := R_wts_q (b_kp1 ff (by decide +kernel)) hwts
  have nev : R_ev o2.2 := R_ev_k (b_kp1 ff (by decide +kernel)) hev
  have nmarks : R_marks o2.2 := R_marks_k (b_kp1 ff (by decide +kernel)) hmarks
  have nprog : R_prog o2.2 := R_prog_k (b_kp1 ff (by decide +kernel)) hprog
  have nroot : R_root o2.2 := R_root_k (b_kp1 ff (by decide +kernel)) hroot
  have nrul : R_rul o2.2 := R_rul_k (b_kp1 ff (by decide +kernel)) hrul
  have ncref : R_cref o2.2 := R_cref_k (b_kp1 ff (by decide +kernel)) hcref
  have nways : R_ways o2.2 := R_ways_k (b_kp1 ff (by decide +kernel)) hways
  have nbd : R_bd o2.2 := R_bd_k (b_kp1 ff (by decide +kernel)) hbd
  have ncode : R_code o2.2 := R_code_k (b_kp1 ff (by decide +kernel)) hrules.1.2.2 hcode
  have nw0 : R_w0 o2.2 := R_w0_k (b_kp1 ff (by decide +kernel)) hw0
  have ncor : R_cor o2.2 := R_cor_k (b_kp1 ff (by decide +kernel)) hcor
  have nwd : R_wd o2.2 := R_wd_k (b_kp1 ff (by decide +kernel)) hwd
  have nn3 : N3 o2.2 := R_n3_k (b_kp1 ff (by decide +kernel)) hn3
  have nz0 : R_z0 o2.2 := R_z0_k (b_kp1 ff (by decide +kernel)) hz0
  have npg1 : R_pg1 o2.2 := R_pg1_k (b_kp1 ff (by decide +kernel)) hpg1
  have nmref : R_mref o2.2 := R_mref_k (b_kp1 ff (by decide +kernel)) hmref
  have nbnd : R_bnd (i + 8) o2.2 := R_bnd_k (b_kp1 ff (by decide +kernel)) hbnd
  exact ⟨ea, nday, ntape, nppl, nfault, nlots, nshape, ncoin, nburnt, npages, nplace, nlook, nlink, nmort, nclaim, nsign, nknow, nrules, npap, nwts, nev, nmarks, nprog, nroot, nrul, ncref, nways, nbd, ncode, nw0, ncor, nwd, nn3, nz0, npg1, nmref, nbnd⟩
theorem ff_11 {A : bM → Prop} {a : Int → Int} {i : Int} {M : bM} (hi : 0 ≤ i ∧ i + 8 ≤ 4096) (hR : R_fin i M) : lw_o11 (R_fin (i + 8)) A a M := by
  unfold lw_o11
  have hC := R_fin_C hR
  have hS := R_fin_s hR
  obtain ⟨hday, htape, hppl, hfault, hlots, hshape, hcoin, hburnt, hpages, hplace, hlook, hlink, hmort, hclaim, hsign, hknow, hrules, hpap, hwts, hev, hmarks, hprog, hroot, hrul, hcref, hways, hbd, hcode, hw0, hcor, hwd, hn3, hz0, hpg1, hmref, hbnd⟩ := hR
  refine b_wp_m (fun o w => ?_) (b_wl_wp (b_wl_and (w_X11_lot b_fr_refl) b_wl_any) (op_lot hlots))
  have f1 := w.1.1
  have fc := w.1.2
  (try dsimp only at fc)
  refine b_wp_m (fun o2 z => ?_) (b_wl_wp (b_wl_and (w_X12_lot b_fr_refl) (fr_lot)) w.2)
  have f2 := z.1.1
  have fr := z.1.2
  (try dsimp only at fr)
  have ff := fr_app f2 f1
  have ea := z.2.1
  (try dsimp only at ea)
  have ps := z.2.2
  have nlots : R_lots o2.2 := ps
  have n3 : M 3 0 ≤ o2.2 3 0 := by
    have a := fr.1
    have b := hlots.1.1
    have c := nlots.1.1
    have d : o.2 11 20 = M 11 20 := f1 11 20 (by decide +kernel)
    omega
  have nday : R_day o2.2 := R_day_k (b_kp1 ff (by decide +kernel)) hday
  have ntape : R_tape o2.2 := R_tape_k (b_kp1 ff (by decide +kernel)) htape
  have nppl : R_ppl o2.2 := R_ppl_k (b_kp1 ff (by decide +kernel)) hppl
  have nfault : R_fault o2.2 := R_fault_k (b_kp1 ff (by decide +kernel)) hfault
  have nshape : R_shape o2.2 := R_shape_k (b_kp1 ff (by decide +kernel)) hshape
  have ncoin : R_coin o2.2 := R_coin_k (b_kp1 ff (by decide +kernel)) hcoin
  have nburnt : R_burnt o2.2 := R_burnt_k (b_kp1 ff (by decide +kernel)) hburnt
  have npages : R_pages o2.2 := R_pages_k (b_kp1 ff (by decide +kernel)) hpages
  have nplace : R_place o2.2 := R_place_k (b_kp1 ff (by decide +kernel)) hplace
  have nlook : R_look o2.2 := R_look_k (b_kp1 ff (by decide +kernel)) hlook
  have nlink : R_link o2.2 := R_link_k (b_kp1 ff (by decide +kernel)) hlink
  have nmort : R_mort o2.2 := R_mort_k (b_kp1 ff (by decide +kernel)) hmort
  have nclaim : R_claim o2.2 := R_claim_k (b_kp1 ff (by decide +kernel)) hclaim
  have nsign : R_sign o2.2 := R_sign_k (b_kp1 ff (by decide +kernel)) hsign
  have nknow : R_know o2.2 := R_know_k (b_kp1 ff (by decide +kernel)) hknow
  have nrules : R_rules o2.2 := R_rules_k (b_kp1 ff (by decide +kernel)) hrules
  have npap : R_pap o2.2 := pap_mono (b_kp1 ff (by decide +kernel)) (Int.le_of_eq (ff 2 0 (by decide +kernel)).symm) n3 (Int.le_of_eq (ff 6 0 (by decide +kernel)).symm) (fun k _ _ => Or.inl (ff 116 k rfl)) hpap
  have nwts : R_wts o2.2 := R_wts_q (b_kp1 ff (by decide +kernel)) hwts
  have nev : R_ev o2.2 := ev_row ff (by decide +kernel) (by decide +kernel) (by decide +kernel) (fun p p0 p1 => ff 163 p rfl) (fun l l0 l1 => ⟨(fr.2 l (by have := hlots.1; have : o.2 11 20 = M 11 20 := f1 11 20 (by decide +kernel); omega)).trans (f1 170 l rfl), ff 171 l rfl⟩) hpap hsign hev
  have nmarks : R_marks o2.2 := R_marks_k (b_kp1 ff (by decide +kernel)) hmarks
  have nprog : R_prog o2.2 := R_prog_k (b_kp1 ff (by decide +kernel)) hprog
  have nroot : R_root o2.2 := root_lots hppl hlots nlots (fun r => ff 217 r rfl) (ff 2 0 (by decide +kernel)) n3 hroot
  have nrul : R_rul o2.2 := R_rul_k (b_kp1 ff (by decide +kernel)) hrul
  have ncref : R_cref o2.2 := cref_mono (Int.le_of_eq (ff 2 0 (by decide +kernel)).symm) n3 (fun c hc => Or.inl ⟨by rw [ff 9 0 (by decide +kernel)] at hc; exact hc, ff 147 c rfl, ff 148 c rfl⟩) hcref
  have nways : R_ways o2.2 := R_ways_k (b_kp1 ff (by decide +kernel)) hways
  have nbd : R_bd o2.2 := R_bd_k (b_kp1 ff (by decide +kernel)) hbd
  have ncode : R_code o2.2 := R_code_k (b_kp1 ff (by decide +kernel)) hrules.1.2.2 hcode
  have nw0 : R_w0 o2.2 := R_w0_k (b_kp1 ff (by decide +kernel)) hw0
  have ncor : R_cor o2.2 := R_cor_k (b_kp1 ff (by decide +kernel)) hcor
  have nwd : R_wd o2.2 := R_wd_k (b_kp1 ff (by decide +kernel)) hwd
  have nn3 : N3 o2.2 := R_n3_k (b_kp1 ff (by decide +kernel)) hn3
  have nz0 : R_z0 o2.2 := R_z0_k (b_kp1 ff (by decide +kernel)) hz0
  have npg1 : R_pg1 o2.2 := R_pg1_k (b_kp1 ff (by decide +kernel)) hpg1
  have nmref : R_mref o2.2 := mref_mono n3 (fun c hc => Or.inl ⟨by rw [ff 8 0 (by decide +kernel)] at hc; exact hc, ff 142 c rfl⟩) hmref
  have nbnd : R_bnd (i + 8) o2.2 := R_bnd_k (b_kp1 ff (by decide +kernel)) hbnd
  exact ⟨ea, nday, ntape, nppl, nfault, nlots, nshape, ncoin, nburnt, npages, nplace, nlook, nlink, nmort, nclaim, nsign, nknow, nrules, npap, nwts, nev, nmarks, nprog, nroot, nrul, ncref, nways, nbd, ncode, nw0, ncor, nwd, nn3, nz0, npg1, nmref, nbnd⟩
theorem ff_12 {A : bM → Prop} {a : Int → Int} {i : Int} {M : bM} (hi : 0 ≤ i ∧ i + 8 ≤ 4096) (hR : R_fin i M) : lw_o12 (R_fin (i + 8)) A a M := by
  unfold lw_o12
  have hC := R_fin_C hR
  have hS := R_fin_s hR
  obtain ⟨hday, htape, hppl, hfault, hlots, hshape, hcoin, hburnt, hpages, hplace, hlook, hlink, hmort, hclaim, hsign, hknow, hrules, hpap, hwts, hev, hmarks, hprog, hroot, hrul, hcref, hways, hbd, hcode, hw0, hcor, hwd, hn3, hz0, hpg1, hmref, hbnd⟩ := hR
  refine b_wp_m (fun o w => ?_) (b_wl_wp (b_wl_and (w_X11_split b_fr_refl) fa_split) (op_split hlots))
  have f1 := w.1.1
  have fc := w.1.2
  (try dsimp only at fc)
  have olots : 0 ≤ o.2 11 20 ∧ True := ⟨by have a := hlots.1; have b : o.2 11 20 = M 11 20 := f1 11 20 (by decide +kernel); omega, trivial⟩
  refine b_wp_m (fun o2 z => ?_) (b_wl_wp (b_wl_and (w_X12_split b_fr_refl) (fr_split (by have := olots.1; omega))) w.2)
  have f2 := z.1.1
  have fr := z.1.2
  (try dsimp only at fr)
  have ff := fr_app f2 f1
  have ea := z.2.1
  (try dsimp only at ea)
  have ps := z.2.2
  have nlots : R_lots o2.2 := ps
  have n3 : M 3 0 ≤ o2.2 3 0 := by
    have a := fr.1
    have b := hlots.1.1
    have c := nlots.1.1
    have d : o.2 11 20 = M 11 20 := f1 11 20 (by decide +kernel)
    omega
  have nday : R_day o2.2 := R_day_k (b_kp1 ff (by decide +kernel)) hday
  have ntape : R_tape o2.2 := R_tape_k (b_kp1 ff (by decide +kernel)) htape
  have nppl : R_ppl o2.2 := R_ppl_k (b_kp1 ff (by decide +kernel)) hppl
  have nfault : R_fault o2.2 := R_fault_k (b_kp1 ff (by decide +kernel)) hfault
  have nshape : R_shape o2.2 := R_shape_k (b_kp1 ff (by decide +kernel)) hshape
  have ncoin : R_coin o2.2 := R_coin_k (b_kp1 ff (by decide +kernel)) hcoin
  have nburnt : R_burnt o2.2 := R_burnt_k (b_kp1 ff (by decide +kernel)) hburnt
  have npages : R_pages o2.2 := R_pages_k (b_kp1 ff (by decide +kernel)) hpages
  have nplace : R_place o2.2 := R_place_k (b_kp1 ff (by decide +kernel)) hplace
  have nlook : R_look o2.2 := R_look_k (b_kp1 ff (by decide +kernel)) hlook
  have nlink : R_link o2.2 := R_link_k (b_kp1 ff (by decide +kernel)) hlink
  have nmort : R_mort o2.2 := R_mort_k (b_kp1 ff (by decide +kernel)) hmort
  have nclaim : R_claim o2.2 := R_claim_k (b_kp1 ff (by decide +kernel)) hclaim
  have nsign : R_sign o2.2 := R_sign_k (b_kp1 ff (by decide +kernel)) hsign
  have nknow : R_know o2.2 := R_know_k (b_kp1 ff (by decide +kernel)) hknow
  have nrules : R_rules o2.2 := R_rules_k (b_kp1 ff (by decide +kernel)) hrules
  have npap : R_pap o2.2 := pap_mono (b_kp1 ff (by decide +kernel)) (Int.le_of_eq (ff 2 0 (by decide +kernel)).symm) n3 (Int.le_of_eq (ff 6 0 (by decide +kernel)).symm) (fun k _ _ => Or.inl (ff 116 k rfl)) hpap
  have nwts : R_wts o2.2 := R_wts_q (b_kp1 ff (by decide +kernel)) hwts
  have nev : R_ev o2.2 := ev_cut f1 (by decide +kernel) (f2 6 5 (by decide +kernel)) (fc.imp id (fun q => ⟨fr.2 (by have := q.1; omega), q.2⟩)) hev
  have nmarks : R_marks o2.2 := R_marks_k (b_kp1 ff (by decide +kernel)) hmarks
  have nprog : R_prog o2.2 := R_prog_k (b_kp1 ff (by decide +kernel)) hprog
  have nroot : R_root o2.2 := root_lots hppl hlots nlots (fun r => ff 217 r rfl) (ff 2 0 (by decide +kernel)) n3 hroot
  have nrul : R_rul o2.2 := R_rul_k (b_kp1 ff (by decide +kernel)) hrul
  have ncref : R_cref o2.2 := cref_mono (Int.le_of_eq (ff 2 0 (by decide +kernel)).symm) n3 (fun c hc => Or.inl ⟨by rw [ff 9 0 (by decide +kernel)] at hc; exact hc, ff 147 c rfl, ff 148 c rfl⟩) hcref
  have nways : R_ways o2.2 := R_ways_k (b_kp1 ff (by decide +kernel)) hways
  have nbd : R_bd o2.2 := R_bd_k (b_kp1 ff (by decide +kernel)) hbd
  have ncode : R_code o2.2 := R_code_k (b_kp1 ff (by decide +kernel)) hrules.1.2.2 hcode
  have nw0 : R_w0 o2.2 := R_w0_k (b_kp1 ff (by decide +kernel)) hw0
  have ncor : R_cor o2.2 := R_cor_k (b_kp1 ff (by decide +kernel)) hcor
  have nwd : R_wd o2.2 := R_wd_k (b_kp1 ff (by decide +kernel)) hwd
  have nn3 : N3 o2.2 := R_n3_k (b_kp1 ff (by decide +kernel)) hn3
  have nz0 : R_z0 o2.2 := R_z0_k (b_kp1 ff (by decide +kernel)) hz0
  have npg1 : R_pg1 o2.2 := R_pg1_k (b_kp1 ff (by decide +kernel)) hpg1
  have nmref : R_mref o2.2 := mref_mono n3 (fun c hc => Or.inl ⟨by rw [ff 8 0 (by decide +kernel)] at hc; exact hc, ff 142 c rfl⟩) hmref
  have nbnd : R_bnd (i + 8) o2.2 := R_bnd_k (b_kp1 ff (by decide +kernel)) hbnd
  exact ⟨ea, nday, ntape, nppl, nfault, nlots, nshape, ncoin, nburnt, npages, nplace, nlook, nlink, nmort, nclaim, nsign, nknow, nrules, npap, nwts, nev, nmarks, nprog, nroot, nrul, ncref, nways, nbd, ncode, nw0, ncor, nwd, nn3, nz0, npg1, nmref, nbnd⟩
theorem ff_13 {A : bM → Prop} {a : Int → Int} {i : Int} {M : bM} (hi : 0 ≤ i ∧ i + 8 ≤ 4096) (hR : R_fin i M) : lw_o13 (R_fin (i + 8)) A a M := by
  unfold lw_o13
  have hC := R_fin_C hR
  have hS := R_fin_s hR
  obtain ⟨hday, htape, hppl, hfault, hlots, hshape, hcoin, hburnt, hpages, hplace, hlook, hlink, hmort, hclaim, hsign, hknow, hrules, hpap, hwts, hev, hmarks, hprog, hroot, hrul, hcref, hways, hbd, hcode, hw0, hcor, hwd, hn3, hz0, hpg1, hmref, hbnd⟩ := hR
  refine b_wp_m (fun o w => ?_) (b_wl_wp (b_wl_and (w_X11_join b_fr_refl) fa_join) (op_join hlots))
  have f1 := w.1.1
  have fc := w.1.2
  (try dsimp only at fc)
  refine b_wp_m (fun o2 z => ?_) (b_wl_wp (b_wl_and (w_X12_join b_fr_refl) (fr_join)) w.2)
  have f2 := z.1.1
  have fr := z.1.2
  (try dsimp only at fr)
  have ff := fr_app f2 f1
  have ea := z.2.1
  (try dsimp only at ea)
  have ps := z.2.2
  have nlots : R_lots o2.2 := ps
  have n3 : M 3 0 ≤ o2.2 3 0 := by
    have a := fr.1
    have b := hlots.1.1
    have c := nlots.1.1
    have d : o.2 11 20 = M 11 20 := f1 11 20 (by decide +kernel)
    omega
  have nday : R_day o2.2 := R_day_k (b_kp1 ff (by decide +kernel)) hday
  have ntape : R_tape o2.2 := R_tape_k (b_kp1 ff (by decide +kernel)) htape
  have nppl : R_ppl o2.2 := R_ppl_k (b_kp1 ff (by decide +kernel)) hppl
  have nfault : R_fault o2.2 := R_fault_k (b_kp1 ff (by decide +kernel)) hfault
  have nshape : R_shape o2.2 := R_shape_k (b_kp1 ff (by decide +kernel)) hshape
  have ncoin : R_coin o2.2 := R_coin_k (b_kp1 ff (by decide +kernel)) hcoin
  have nburnt : R_burnt o2.2 := R_burnt_k (b_kp1 ff (by decide +kernel)) hburnt
  have npages : R_pages o2.2 := R_pages_k (b_kp1 ff (by decide +kernel)) hpages
  have nplace : R_place o2.2 := R_place_k (b_kp1 ff (by decide +kernel)) hplace
  have nlook : R_look o2.2 := R_look_k (b_kp1 ff (by decide +kernel)) hlook
  have nlink : R_link o2.2 := R_link_k (b_kp1 ff (by decide +kernel)) hlink
  have nmort : R_mort o2.2 := R_mort_k (b_kp1 ff (by decide +kernel)) hmort
  have nclaim : R_claim o2.2 := R_claim_k (b_kp1 ff (by decide +kernel)) hclaim
  have nsign : R_sign o2.2 := R_sign_k (b_kp1 ff (by decide +kernel)) hsign
  have nknow : R_know o2.2 := R_know_k (b_kp1 ff (by decide +kernel)) hknow
  have nrules : R_rules o2.2 := R_rules_k (b_kp1 ff (by decide +kernel)) hrules
  have npap : R_pap o2.2 := pap_mono (b_kp1 ff (by decide +kernel)) (Int.le_of_eq (ff 2 0 (by decide +kernel)).symm) n3 (Int.le_of_eq (ff 6 0 (by decide +kernel)).symm) (fun k _ _ => Or.inl (ff 116 k rfl)) hpap
  have nwts : R_wts o2.2 := R_wts_q (b_kp1 ff (by decide +kernel)) hwts
  have nev : R_ev o2.2 := ev_cut f1 (by decide +kernel) (f2 6 5 (by decide +kernel)) (fc.imp id (fun q => ⟨fr.2 (by have := q.1; omega), q.2⟩)) hev
  have nmarks : R_marks o2.2 := R_marks_k (b_kp1 ff (by decide +kernel)) hmarks
  have nprog : R_prog o2.2 := R_prog_k (b_kp1 ff (by decide +kernel)) hprog
  have nroot : R_root o2.2 := root_lots hppl hlots nlots (fun r => ff 217 r rfl) (ff 2 0 (by decide +kernel)) n3 hroot
  have nrul : R_rul o2.2 := R_rul_k (b_kp1 ff (by decide +kernel)) hrul
  have ncref : R_cref o2.2 := cref_mono (Int.le_of_eq (ff 2 0 (by decide +kernel)).symm) n3 (fun c hc => Or.inl ⟨by rw [ff 9 0 (by decide +kernel)] at hc; exact hc, ff 147 c rfl, ff 148 c rfl⟩) hcref
  have nways : R_ways o2.2 := R_ways_k (b_kp1 ff (by decide +kernel)) hways
  have nbd : R_bd o2.2 := R_bd_k (b_kp1 ff (by decide +kernel)) hbd
  have ncode : R_code o2.2 := R_code_k (b_kp1 ff (by decide +kernel)) hrules.1.2.2 hcode
  have nw0 : R_w0 o2.2 := R_w0_k (b_kp1 ff (by decide +kernel)) hw0
  have ncor : R_cor o2.2 := R_cor_k (b_kp1 ff (by decide +kernel)) hcor
  have nwd : R_wd o2.2 := R_wd_k (b_kp1 ff (by decide +kernel)) hwd
  have nn3 : N3 o2.2 := R_n3_k (b_kp1 ff (by decide +kernel)) hn3
  have nz0 : R_z0 o2.2 := R_z0_k (b_kp1 ff (by decide +kernel)) hz0
  have npg1 : R_pg1 o2.2 := R_pg1_k (b_kp1 ff (by decide +kernel)) hpg1
  have nmref : R_mref o2.2 := mref_mono n3 (fun c hc => Or.inl ⟨by rw [ff 8 0 (by decide +kernel)] at hc; exact hc, ff 142 c rfl⟩) hmref
  have nbnd : R_bnd (i + 8) o2.2 := R_bnd_k (b_kp1 ff (by decide +kernel)) hbnd
  exact ⟨ea, nday, ntape, nppl, nfault, nlots, nshape, ncoin, nburnt, npages, nplace, nlook, nlink, nmort, nclaim, nsign, nknow, nrules, npap, nwts, nev, nmarks, nprog, nroot, nrul, ncref, nways, nbd, ncode, nw0, ncor, nwd, nn3, nz0, npg1, nmref, nbnd⟩
theorem ff_14 {A : bM → Prop} {a : Int → Int} {i : Int} {M : bM} (hi : 0 ≤ i ∧ i + 8 ≤ 4096) (hR : R_fin i M) : lw_o14 (R_fin (i + 8)) A a M := by
  unfold lw_o14
  have hC := R_fin_C hR
  have hS := R_fin_s hR
  obtain ⟨hday, htape, hppl, hfault, hlots, hshape, hcoin, hburnt, hpages, hplace, hlook, hlink, hmort, hclaim, hsign, hknow, hrules, hpap, hwts, hev, hmarks, hprog, hroot, hrul, hcref, hways, hbd, hcode, hw0, hcor, hwd, hn3, hz0, hpg1, hmref, hbnd⟩ := hR
  exact b_wp_m (fun _ w => b_wp_m (fun _ z => ⟨z, hS⟩) w) (op_about hlots hshape)
theorem ff_15 {A : bM → Prop} {a : Int → Int} {i : Int} {M : bM} (hi : 0 ≤ i ∧ i + 8 ≤ 4096) (hR : R_fin i M) : lw_o15 (R_fin (i + 8)) A a M := by
  unfold lw_o15
  have hC := R_fin_C hR
  have hS := R_fin_s hR
  obtain ⟨hday, htape, hppl, hfault, hlots, hshape, hcoin, hburnt, hpages, hplace, hlook, hlink, hmort, hclaim, hsign, hknow, hrules, hpap, hwts, hev, hmarks, hprog, hroot, hrul, hcref, hways, hbd, hcode, hw0, hcor, hwd, hn3, hz0, hpg1, hmref, hbnd⟩ := hR
  exact b_wp_m (fun _ w => b_wp_m (fun _ z => ⟨z, hS⟩) w) (op_line hlots)
