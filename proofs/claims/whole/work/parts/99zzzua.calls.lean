theorem ff_0 {A : bM → Prop} {a : Int → Int} {i : Int} {M : bM} (hi : 0 ≤ i ∧ i + 8 ≤ 4096) (hR : R_fin i M) : lw_o0 (R_fin (i + 8)) A a M := by
  unfold lw_o0
  have hC := R_fin_C hR
  have hS := R_fin_s hR
  obtain ⟨hday, htape, hppl, hfault, hlots, hshape, hcoin, hburnt, hpages, hplace, hlook, hlink, hmort, hclaim, hsign, hknow, hrules, hpap, hwts, hev, hmarks, hprog, hroot, hrul, hcref, hways, hbd, hcode, hw0, hcor, hwd, hn3, hz0, hpg1, hmref, hbnd⟩ := hR
  refine b_wp_m (fun o w => ?_) (b_wl_wp (b_wl_and (w_X11_feed b_fr_refl) b_wl_any) (op_feed htape))
  have f1 := w.1.1
  have fc := w.1.2
  (try dsimp only at fc)
  refine b_wp_m (fun o2 z => ?_) (b_wl_wp (b_wl_and (w_X12_feed b_fr_refl) b_wl_any) w.2)
  have f2 := z.1.1
  have fr := z.1.2
  (try dsimp only at fr)
  have ff := fr_app f2 f1
  have ea := z.2.1
  (try dsimp only at ea)
  have ps := z.2.2
  have ntape : R_tape o2.2 := ps
  have nday : R_day o2.2 := R_day_k (b_kp1 ff (by decide +kernel)) hday
  have nppl : R_ppl o2.2 := R_ppl_k (b_kp1 ff (by decide +kernel)) hppl
  have nfault : R_fault o2.2 := R_fault_k (b_kp1 ff (by decide +kernel)) hfault
  have nlots : R_lots o2.2 := R_lots_k (b_kp1 ff (by decide +kernel)) hlots
  have nshape : R_shape o2.2 := R_shape_k (b_kp1 ff (by decide +kernel)) hshape
  have ncoin : R_coin o2.2 := R_coin_k (b_kp1 ff (by decide +kernel)) hcoin
  have nburnt : R_burnt o2.2 := R_burnt_k (b_kp1 ff (by decide +kernel)) hburnt
  have npages : R_pages o2.2 := R_pages_k (b_kp1 ff (by decide +kernel)) hpages
  have nplace : R_place o2.2 := R_place_k (b_kp1 ff (by decide +kernel)) hplace
  have nlook : R_look o2.2 := R_look_k (b_kp1 ff (by decide +kernel)) hlook
  have nlink : R_link o2.2 := R_link_k (b_kp1 ff (by decide +kernel)) hlink
  have nmort : R_mort o2.2 := R_mort_k (b_kp1 ff (by decide +kernel)) hmort
  have nclaim : R_claim o2.2 := R_claim_k (b_kp1 ff (by decide +kernel)) hclaim
  have nsign : R_sign o2.2 := R_sign_k (b_kp1 ff (by decide +kernel)) hsign
  have nknow : R_know o2.2 := R_know_k (b_kp1 ff (by decide +kernel)) hknow
  have nrules : R_rules o2.2 := R_rules_k (b_kp1 ff (by decide +kernel)) hrules
  have npap : R_pap o2.2 := R_pap_k (b_kp1 ff (by decide +kernel)) hpap
  have nwts : R_wts o2.2 := R_wts_q (b_kp1 ff (by decide +kernel)) hwts
  have nev : R_ev o2.2 := R_ev_k (b_kp1 ff (by decide +kernel)) hev
  have nmarks : R_marks o2.2 := R_marks_k (b_kp1 ff (by decide +kernel)) hmarks
  have nprog : R_prog o2.2 := R_prog_k (b_kp1 ff (by decide +kernel)) hprog
  have nroot : R_root o2.2 := R_root_k (b_kp1 ff (by decide +kernel)) hroot
  have nrul : R_rul o2.2 := R_rul_k (b_kp1 ff (by decide +kernel)) hrul
  have ncref : R_cref o2.2 := R_cref_k (b_kp1 ff (by decide +kernel)) hcref
  have nways : R_ways o2.2 := R_ways_k (b_kp1 ff (by decide +kernel)) hways
  have nbd : R_bd o2.2 := R_bd_k (b_kp1 ff (by decide +kernel)) hbd
  have ncode : R_code o2.2 := R_code_k (b_kp1 ff (by decide +kernel)) hrules.1.2.2 hcode
  have nw0 : R_w0 o2.2 := R_w0_k (b_kp1 ff (by decide +kernel)) hw0
  have ncor : R_cor o2.2 := R_cor_k (b_kp1 ff (by decide +kernel)) hcor
  have nwd : R_wd o2.2 := R_wd_k (b_kp1 ff (by decide +kernel)) hwd
  have nn3 : N3 o2.2 := R_n3_k (b_kp1 ff (by decide +kernel)) hn3
  have nz0 : R_z0 o2.2 := R_z0_k (b_kp1 ff (by decide +kernel)) hz0
  have npg1 : R_pg1 o2.2 := R_pg1_k (b_kp1 ff (by decide +kernel)) hpg1
  have nmref : R_mref o2.2 := R_mref_k (b_kp1 ff (by decide +kernel)) hmref
  have nbnd : R_bnd (i + 8) o2.2 := R_bnd_k (b_kp1 ff (by decide +kernel)) hbnd
  exact ⟨ea, nday, ntape, nppl, nfault, nlots, nshape, ncoin, nburnt, npages, nplace, nlook, nlink, nmort, nclaim, nsign, nknow, nrules, npap, nwts, nev, nmarks, nprog, nroot, nrul, ncref, nways, nbd, ncode, nw0, ncor, nwd, nn3, nz0, npg1, nmref, nbnd⟩
theorem ff_1 {A : bM → Prop} {a : Int → Int} {i : Int} {M : bM} (hi : 0 ≤ i ∧ i + 8 ≤ 4096) (hR : R_fin i M) : lw_o1 (R_fin (i + 8)) A a M := by
  unfold lw_o1
  have hC := R_fin_C hR
  have hS := R_fin_s hR
  obtain ⟨hday, htape, hppl, hfault, hlots, hshape, hcoin, hburnt, hpages, hplace, hlook, hlink, hmort, hclaim, hsign, hknow, hrules, hpap, hwts, hev, hmarks, hprog, hroot, hrul, hcref, hways, hbd, hcode, hw0, hcor, hwd, hn3, hz0, hpg1, hmref, hbnd⟩ := hR
  refine b_wp_m (fun o w => ?_) (b_wl_wp (b_wl_and (w_X11_end b_fr_refl) b_wl_any) (op_end htape))
  have f1 := w.1.1
  have fc := w.1.2
  (try dsimp only at fc)
  refine b_wp_m (fun o2 z => ?_) (b_wl_wp (b_wl_and (w_X12_end b_fr_refl) b_wl_any) w.2)
  have f2 := z.1.1
  have fr := z.1.2
  (try dsimp only at fr)
  have ff := fr_app f2 f1
  have ea := z.2.1
  (try dsimp only at ea)
  have ps := z.2.2
  have ntape : R_tape o2.2 := ps
  have nday : R_day o2.2 := R_day_k (b_kp1 ff (by decide +kernel)) hday
  have nppl : R_ppl o2.2 := R_ppl_k (b_kp1 ff (by decide +kernel)) hppl
  have nfault : R_fault o2.2 := R_fault_k (b_kp1 ff (by decide +kernel)) hfault
  have nlots : R_lots o2.2 := R_lots_k (b_kp1 ff (by decide +kernel)) hlots
  have nshape : R_shape o2.2 := R_shape_k (b_kp1 ff (by decide +kernel)) hshape
  have ncoin : R_coin o2.2 := R_coin_k (b_kp1 ff (by decide +kernel)) hcoin
  have nburnt : R_burnt o2.2 := R_burnt_k (b_kp1 ff (by decide +kernel)) hburnt
  have npages : R_pages o2.2 := R_pages_k (b_kp1 ff (by decide +kernel)) hpages
  have nplace : R_place o2.2 := R_place_k (b_kp1 ff (by decide +kernel)) hplace
  have nlook : R_look o2.2 := R_look_k (b_kp1 ff (by decide +kernel)) hlook
  have nlink : R_link o2.2 := R_link_k (b_kp1 ff (by decide +kernel)) hlink
  have nmort : R_mort o2.2 := R_mort_k (b_kp1 ff (by decide +kernel)) hmort
  have nclaim : R_claim o2.2 := R_claim_k (b_kp1 ff (by decide +kernel)) hclaim
  have nsign : R_sign o2.2 := R_sign_k (b_kp1 ff (by decide +kernel)) hsign
  have nknow : R_know o2.2 := R_know_k (b_kp1 ff (by decide +kernel)) hknow
  have nrules : R_rules o2.2 := R_rules_k (b_kp1 ff (by decide +kernel)) hrules
  have npap : R_pap o2.2 := R_pap_k (b_kp1 ff (by decide +kernel)) hpap
  have nwts : R_wts o2.2 := R_wts_q (b_kp1 ff (by decide +kernel)) hwts
  have nev : R_ev o2.2 := R_ev_k (b_kp1 ff (by decide +kernel)) hev
  have nmarks : R_marks o2.2 := R_marks_k (b_kp1 ff (by decide +kernel)) hmarks
  have nprog : R_prog o2.2 := R_prog_k (b_kp1 ff (by decide +kernel)) hprog
  have nroot : R_root o2.2 := R_root_k (b_kp1 ff (by decide +kernel)) hroot
  have nrul : R_rul o2.2 := R_rul_k (b_kp1 ff (by decide +kernel)) hrul
  have ncref : R_cref o2.2 := R_cref_k (b_kp1 ff (by decide +kernel)) hcref
  have nways : R_ways o2.2 := R_ways_k (b_kp1 ff (by decide +kernel)) hways
  have nbd : R_bd o2.2 := R_bd_k (b_kp1 ff (by decide +kernel)) hbd
  have ncode : R_code o2.2 := R_code_k (b_kp1 ff (by decide +kernel)) hrules.1.2.2 hcode
  have nw0 : R_w0 o2.2 := R_w0_k (b_kp1 ff (by decide +kernel)) hw0
  have ncor : R_cor o2.2 := R_cor_k (b_kp1 ff (by decide +kernel)) hcor
  have nwd : R_wd o2.2 := R_wd_k (b_kp1 ff (by decide +kernel)) hwd
  have nn3 : N3 o2.2 := R_n3_k (b_kp1 ff (by decide +kernel)) hn3
  have nz0 : R_z0 o2.2 := R_z0_k (b_kp1 ff (by decide +kernel)) hz0
  have npg1 : R_pg1 o2.2 := R_pg1_k (b_kp1 ff (by decide +kernel)) hpg1
  have nmref : R_mref o2.2 := R_mref_k (b_kp1 ff (by decide +kernel)) hmref
  have nbnd : R_bnd (i + 8) o2.2 := R_bnd_k (b_kp1 ff (by decide +kernel)) hbnd
  exact ⟨ea, nday, ntape, nppl, nfault, nlots, nshape, ncoin, nburnt, npages, nplace, nlook, nlink, nmort, nclaim, nsign, nknow, nrules, npap, nwts, nev, nmarks, nprog, nroot, nrul, ncref, nways, nbd, ncode, nw0, ncor, nwd, nn3, nz0, npg1, nmref, nbnd⟩
theorem ff_2 {A : bM → Prop} {a : Int → Int} {i : Int} {M : bM} (hi : 0 ≤ i ∧ i + 8 ≤ 4096) (hR : R_fin i M) : lw_o2 (R_fin (i + 8)) A a M := by
  unfold lw_o2
  have hC := R_fin_C hR
  have hS := R_fin_s hR
  obtain ⟨hday, htape, hppl, hfault, hlots, hshape, hcoin, hburnt, hpages, hplace, hlook, hlink, hmort, hclaim, hsign, hknow, hrules, hpap, hwts, hev, hmarks, hprog, hroot, hrul, hcref, hways, hbd, hcode, hw0, hcor, hwd, hn3, hz0, hpg1, hmref, hbnd⟩ := hR
  refine b_wp_m (fun o w => ?_) (b_wl_wp (b_wl_and (w_X11_pass b_fr_refl) b_wl_any) (op_pass hday))
  have f1 := w.1.1
  have fc := w.1.2
  (try dsimp only at fc)
  refine b_wp_m (fun o2 z => ?_) (b_wl_wp (b_wl_and (w_X12_pass b_fr_refl) b_wl_any) w.2)
  have f2 := z.1.1
  have fr := z.1.2
  (try dsimp only at fr)
  have ff := fr_app f2 f1
  have ea := z.2.1
  (try dsimp only at ea)
  have ps := z.2.2
  have nday : R_day o2.2 := ps
  have ntape : R_tape o2.2 := R_tape_k (b_kp1 ff (by decide +kernel)) htape
  have nppl : R_ppl o2.2 := R_ppl_k (b_kp1 ff (by decide +kernel)) hppl
  have nfault : R_fault o2.2 := R_fault_k (b_kp1 ff (by decide +kernel)) hfault
  have nlots : R_lots o2.2 := R_lots_k (b_kp1 ff (by decide +kernel)) hlots
  have nshape : R_shape o2.2 := R_shape_k (b_kp1 ff (by decide +kernel)) hshape
  have ncoin : R_coin o2.2 := R_coin_k (b_kp1 ff (by decide +kernel)) hcoin
  have nburnt : R_burnt o2.2 := R_burnt_k (b_kp1 ff (by decide +kernel)) hburnt
  have npages : R_pages o2.2 := R_pages_k (b_kp1 ff (by decide +kernel)) hpages
  have nplace : R_place o2.2 := R_place_k (b_kp1 ff (by decide +kernel)) hplace
  have nlook : R_look o2.2 := R_look_k (b_kp1 ff (by decide +kernel)) hlook
  have nlink : R_link o2.2 := R_link_k (b_kp1 ff (by decide +kernel)) hlink
  have nmort : R_mort o2.2 := R_mort_k (b_kp1 ff (by decide +kernel)) hmort
  have nclaim : R_claim o2.2 := R_claim_k (b_kp1 ff (by decide +kernel)) hclaim
  have nsign : R_sign o2.2 := R_sign_k (b_kp1 ff (by decide +kernel)) hsign
  have nknow : R_know o2.2 := R_know_k (b_kp1 ff (by decide +kernel)) hknow
  have nrules : R_rules o2.2 := R_rules_k (b_kp1 ff (by decide +kernel)) hrules
  have npap : R_pap o2.2 := R_pap_k (b_kp1 ff (by decide +kernel)) hpap
  have nwts : R_wts o2.2 := R_wts_q (b_kp1 ff (by decide +kernel)) hwts
  have nev : R_ev o2.2 := R_ev_k (b_kp1 ff (by decide +kernel)) hev
  have nmarks : R_marks o2.2 := R_marks_k (b_kp1 ff (by decide +kernel)) hmarks
  have nprog : R_prog o2.2 := R_prog_k (b_kp1 ff (by decide +kernel)) hprog
  have nroot : R_root o2.2 := R_root_k (b_kp1 ff (by decide +kernel)) hroot
  have nrul : R_rul o2.2 := R_rul_k (b_kp1 ff (by decide +kernel)) hrul
  have ncref : R_cref o2.2 := R_cref_k (b_kp1 ff (by decide +kernel)) hcref
  have nways : R_ways o2.2 := R_ways_k (b_kp1 ff (by decide +kernel)) hways
  have nbd : R_bd o2.2 := R_bd_k (b_kp1 ff (by decide +kernel)) hbd
  have ncode : R_code o2.2 := R_code_k (b_kp1 ff (by decide +kernel)) hrules.1.2.2 hcode
  have nw0 : R_w0 o2.2 := R_w0_k (b_kp1 ff (by decide +kernel)) hw0
  have ncor : R_cor o2.2 := R_cor_k (b_kp1 ff (by decide +kernel)) hcor
  have nwd : R_wd o2.2 := R_wd_k (b_kp1 ff (by decide +kernel)) hwd
  have nn3 : N3 o2.2 := R_n3_k (b_kp1 ff (by decide +kernel)) hn3
  have nz0 : R_z0 o2.2 := R_z0_k (b_kp1 ff (by decide +kernel)) hz0
  have npg1 : R_pg1 o2.2 := R_pg1_k (b_kp1 ff (by decide +kernel)) hpg1
  have nmref : R_mref o2.2 := R_mref_k (b_kp1 ff (by decide +kernel)) hmref
  have nbnd : R_bnd (i + 8) o2.2 := R_bnd_k (b_kp1 ff (by decide +kernel)) hbnd
  exact ⟨ea, nday, ntape, nppl, nfault, nlots, nshape, ncoin, nburnt, npages, nplace, nlook, nlink, nmort, nclaim, nsign, nknow, nrules, npap, nwts, nev, nmarks, nprog, nroot, nrul, ncref, nways, nbd, ncode, nw0, ncor, nwd, nn3, nz0, npg1, nmref, nbnd⟩
theorem ff_3 {A : bM → Prop} {a : Int → Int} {i : Int} {M : bM} (hi : 0 ≤ i ∧ i + 8 ≤ 4096) (hR : R_fin i M) : lw_o3 (R_fin (i + 8)) A a M := by
  unfold lw_o3
  have hC := R_fin_C hR
  have hS := R_fin_s hR
  obtain ⟨hday, htape, hppl, hfault, hlots, hshape, hcoin, hburnt, hpages, hplace, hlook, hlink, hmort, hclaim, hsign, hknow, hrules, hpap, hwts, hev, hmarks, hprog, hroot, hrul, hcref, hways, hbd, hcode, hw0, hcor, hwd, hn3, hz0, hpg1, hmref, hbnd⟩ := hR
  refine b_wp_m (fun o w => ?_) (b_wl_wp (b_wl_and (w_X11_person b_fr_refl) fa_person) (op_person hppl))
  have f1 := w.1.1
  have fc := w.1.2
  (try dsimp only at fc)
  refine b_wp_m (fun o2 z => ?_) (b_wl_wp (b_wl_and (w_X12_person b_fr_refl) (fr_person)) w.2)
  have f2 := z.1.1
  have fr := z.1.2
  (try dsimp only at fr)
  have ff := fr_app f2 f1
  have ea := z.2.1
  (try dsimp only at ea)
  have ps := z.2.2
  have nppl : R_ppl o2.2 := ps
  have n2 : M 2 0 ≤ o2.2 2 0 := by rw [f2 2 0 (by decide +kernel)]; exact fc
  have nday : R_day o2.2 := R_day_k (b_kp1 ff (by decide +kernel)) hday
  have ntape : R_tape o2.2 := R_tape_k (b_kp1 ff (by decide +kernel)) htape
  have nfault : R_fault o2.2 := R_fault_k (b_kp1 ff (by decide +kernel)) hfault
  have nlots : R_lots o2.2 := R_lots_k (b_kp1 ff (by decide +kernel)) hlots
  have nshape : R_shape o2.2 := R_shape_k (b_kp1 ff (by decide +kernel)) hshape
  have ncoin : R_coin o2.2 := R_coin_k (b_kp1 ff (by decide +kernel)) hcoin
  have nburnt : R_burnt o2.2 := R_burnt_k (b_kp1 ff (by decide +kernel)) hburnt
  have npages : R_pages o2.2 := R_pages_k (b_kp1 ff (by decide +kernel)) hpages
  have nplace : R_place o2.2 := R_place_k (b_kp1 ff (by decide +kernel)) hplace
  have nlook : R_look o2.2 := R_look_k (b_kp1 ff (by decide +kernel)) hlook
  have nlink : R_link o2.2 := R_link_k (b_kp1 ff (by decide +kernel)) hlink
  have nmort : R_mort o2.2 := R_mort_k (b_kp1 ff (by decide +kernel)) hmort
  have nclaim : R_claim o2.2 := R_claim_k (b_kp1 ff (by decide +kernel)) hclaim
  have nsign : R_sign o2.2 := R_sign_k (b_kp1 ff (by decide +kernel)) hsign
  have nknow : R_know o2.2 := kp_know20 ff (by decide +kernel) n2 hknow
  have nrules : R_rules o2.2 := R_rules_k (b_kp1 ff (by decide +kernel)) hrules
  have npap : R_pap o2.2 := pap_mono (b_kp1 ff (by decide +kernel)) n2 (Int.le_of_eq (ff 3 0 (by decide +kernel)).symm) (Int.le_of_eq (ff 6 0 (by decide +kernel)).symm) (fun k _ _ => Or.inl (ff 116 k rfl)) hpap
  have nwts : R_wts o2.2 := R_wts_q (b_kp1 ff (by decide +kernel)) hwts
  have nev : R_ev o2.2 := ev_row ff (by decide +kernel) (by decide +kernel) (by decide +kernel) (fun p p0 p1 => (fr p (by have := hppl.1; have : o.2 11 12 = M 11 12 := f1 11 12 (by decide +kernel); omega)).trans (f1 163 p rfl)) (fun l _ _ => ⟨ff 170 l rfl, ff 171 l rfl⟩) hpap hsign hev
  have nmarks : R_marks o2.2 := R_marks_k (b_kp1 ff (by decide +kernel)) hmarks
  have nprog : R_prog o2.2 := R_prog_k (b_kp1 ff (by decide +kernel)) hprog
  have nroot : R_root o2.2 := root_mono (ff 3 0 (by decide +kernel)) (fun r => Or.inl (ff 92 r rfl)) n2 hroot
  have nrul : R_rul o2.2 := R_rul_k (b_kp1 ff (by decide +kernel)) hrul
  have ncref : R_cref o2.2 := cref_mono n2 (Int.le_of_eq (ff 3 0 (by decide +kernel)).symm) (fun c hc => Or.inl ⟨by rw [ff 9 0 (by decide +kernel)] at hc; exact hc, ff 147 c rfl, ff 148 c rfl⟩) hcref
  have nways : R_ways o2.2 := R_ways_k (b_kp1 ff (by decide +kernel)) hways
  have nbd : R_bd o2.2 := R_bd_k (b_kp1 ff (by decide +kernel)) hbd
  have ncode : R_code o2.2 := R_code_k (b_kp1 ff (by decide +kernel)) hrules.1.2.2 hcode
  have nw0 : R_w0 o2.2 := R_w0_k (b_kp1 ff (by decide +kernel)) hw0
  have ncor : R_cor o2.2 := R_cor_k (b_kp1 ff (by decide +kernel)) hcor
  have nwd : R_wd o2.2 := R_wd_k (b_kp1 ff (by decide +kernel)) hwd
  have nn3 : N3 o2.2 := R_n3_k (b_kp1 ff (by decide +kernel)) hn3
  have nz0 : R_z0 o2.2 := R_z0_k (b_kp1 ff (by decide +kernel)) hz0
  have npg1 : R_pg1 o2.2 := R_pg1_k (b_kp1 ff (by decide +kernel)) hpg1
  have nmref : R_mref o2.2 := R_mref_k (b_kp1 ff (by decide +kernel)) hmref
  have nbnd : R_bnd (i + 8) o2.2 := R_bnd_k (b_kp1 ff (by decide +kernel)) hbnd
  exact ⟨ea, nday, ntape, nppl, nfault, nlots, nshape, ncoin, nburnt, npages, nplace, nlook, nlink, nmort, nclaim, nsign, nknow, nrules, npap, nwts, nev, nmarks, nprog, nroot, nrul, ncref, nways, nbd, ncode, nw0, ncor, nwd, nn3, nz0, npg1, nmref, nbnd⟩
theorem ff_4 {A : bM → Prop} {a : Int → Int} {i : Int} {M : bM} (hi : 0 ≤ i ∧ i + 8 ≤ 4096) (hR : R_fin i M) : lw_o4 (R_fin (i + 8)) A a M := by
  unfold lw_o4
  have hC := R_fin_C hR
  have hS := R_fin_s hR
  obtain ⟨hday, htape, hppl, hfault, hlots, hshape, hcoin, hburnt, hpages, hplace, hlook, hlink, hmort, hclaim, hsign, hknow, hrules, hpap, hwts, hev, hmarks, hprog, hroot, hrul, hcref, hways, hbd, hcode, hw0, hcor, hwd, hn3, hz0, hpg1, hmref, hbnd⟩ := hR
  refine b_wp_m (fun o w => ?_) (b_wl_wp (b_wl_and (w_X11_dead b_fr_refl) fa_dead) (op_dead hday hppl))
  have f1 := w.1.1
  have fc := w.1.2
  (try dsimp only at fc)
  refine b_wp_m (fun o2 z => ?_) (b_wl_wp (b_wl_and (w_X12_dead b_fr_refl) (fr_dead)) w.2)
  have f2 := z.1.1
  have fr := z.1.2
  (try dsimp only at fr)
  have ff := fr_app f2 f1
  have ea := z.2.1
  (try dsimp only at ea)
  have ps := z.2.2
  have nppl : R_ppl o2.2 := ps
  have kt := kp_tell (b_fr_mo (by decide +kernel) f1) (b_fr_mo (by decide +kernel) f2) hppl nppl fc fr hknow hev
  have nday : R_day o2.2 := R_day_k (b_kp1 ff (by decide +kernel)) hday
  have ntape : R_tape o2.2 := R_tape_k (b_kp1 ff (by decide +kernel)) htape
  have nfault : R_fault o2.2 := R_fault_k (b_kp1 ff (by decide +kernel)) hfault
  have nlots : R_lots o2.2 := R_lots_k (b_kp1 ff (by decide +kernel)) hlots
  have nshape : R_shape o2.2 := R_shape_k (b_kp1 ff (by decide +kernel)) hshape
  have ncoin : R_coin o2.2 := R_coin_k (b_kp1 ff (by decide +kernel)) hcoin
  have nburnt : R_burnt o2.2 := R_burnt_k (b_kp1 ff (by decide +kernel)) hburnt
  have npages : R_pages o2.2 := R_pages_k (b_kp1 ff (by decide +kernel)) hpages
  have nplace : R_place o2.2 := R_place_k (b_kp1 ff (by decide +kernel)) hplace
  have nlook : R_look o2.2 := R_look_k (b_kp1 ff (by decide +kernel)) hlook
  have nlink : R_link o2.2 := R_link_k (b_kp1 ff (by decide +kernel)) hlink
  have nmort : R_mort o2.2 := R_mort_k (b_kp1 ff (by decide +kernel)) hmort
  have nclaim : R_claim o2.2 := R_claim_k (b_kp1 ff (by decide +kernel)) hclaim
  have nsign : R_sign o2.2 := R_sign_k (b_kp1 ff (by decide +kernel)) hsign
  have nknow : R_know o2.2 := kt.1
  have nrules : R_rules o2.2 := R_rules_k (b_kp1 ff (by decide +kernel)) hrules
  have npap : R_pap o2.2 := R_pap_k (b_kp1 ff (by decide +kernel)) hpap
  have nwts : R_wts o2.2 := R_wts_q (b_kp1 ff (by decide +kernel)) hwts
  have nev : R_ev o2.2 := kt.2
  have nmarks : R_marks o2.2 := R_marks_k (b_kp1 ff (by decide +kernel)) hmarks
  have nprog : R_prog o2.2 := R_prog_k (b_kp1 ff (by decide +kernel)) hprog
  have nroot : R_root o2.2 := R_root_k (b_kp1 ff (by decide +kernel)) hroot
  have nrul : R_rul o2.2 := R_rul_k (b_kp1 ff (by decide +kernel)) hrul
  have ncref : R_cref o2.2 := R_cref_k (b_kp1 ff (by decide +kernel)) hcref
  have nways : R_ways o2.2 := R_ways_k (b_kp1 ff (by decide +kernel)) hways
  have nbd : R_bd o2.2 := R_bd_k (b_kp1 ff (by decide +kernel)) hbd
  have ncode : R_code o2.2 := R_code_k (b_kp1 ff (by decide +kernel)) hrules.1.2.2 hcode
  have nw0 : R_w0 o2.2 := R_w0_k (b_kp1 ff (by decide +kernel)) hw0
  have ncor : R_cor o2.2 := R_cor_k (b_kp1 ff (by decide +kernel)) hcor
  have nwd : R_wd o2.2 := R_wd_k (b_kp1 ff (by decide +kernel)) hwd
  have nn3 : N3 o2.2 := R_n3_k (b_kp1 ff (by decide +kernel)) hn3
  have nz0 : R_z0 o2.2 := R_z0_k (b_kp1 ff (by decide +kernel)) hz0
  have npg1 : R_pg1 o2.2 := R_pg1_k (b_kp1 ff (by decide +kernel)) hpg1
  have nmref : R_mref o2.2 := R_mref_k (b_kp1 ff (by decide +kernel)) hmref
  have nbnd : R_bnd (i + 8) o2.2 := R_bnd_k (b_kp1 ff (by decide +kernel)) hbnd
  exact ⟨ea, nday, ntape, nppl, nfault, nlots, nshape, ncoin, nburnt, npages, nplace, nlook, nlink, nmort, nclaim, nsign, nknow, nrules, npap, nwts, nev, nmarks, nprog, nroot, nrul, ncref, nways, nbd, ncode, nw0, ncor, nwd, nn3, nz0, npg1, nmref, nbnd⟩
theorem ff_5 {A : bM → Prop} {a : Int → Int} {i : Int} {M : bM} (hi : 0 ≤ i ∧ i + 8 ≤ 4096) (hR : R_fin i M) : lw_o5 (R_fin (i + 8)) A a M := by
  unfold lw_o5
  have hC := R_fin_C hR
  have hS := R_fin_s hR
  obtain ⟨hday, htape, hppl, hfault, hlots, hshape, hcoin, hburnt, hpages, hplace, hlook, hlink, hmort, hclaim, hsign, hknow, hrules, hpap, hwts, hev, hmarks, hprog, hroot, hrul, hcref, hways, hbd, hcode, hw0, hcor, hwd, hn3, hz0, hpg1, hmref, hbnd⟩ := hR
  refine b_wp_m (fun o w => ?_) (b_wl_wp (b_wl_and (w_X11_same b_fr_refl) fa_same) (op_same hday hppl))
  have f1 := w.1.1
  have fc := w.1.2
  (try dsimp only at fc)
  refine b_wp_m (fun o2 z => ?_) (b_wl_wp (b_wl_and (w_X12_same b_fr_refl) (fr_same)) w.2)
  have f2 := z.1.1
  have fr := z.1.2
  (try dsimp only at fr)
  have ff := fr_app f2 f1
  have ea := z.2.1
  (try dsimp only at ea)
  have ps := z.2.2
  have nppl : R_ppl o2.2 := ps
  have kt := kp_tell (b_fr_mo (by decide +kernel) f1) (b_fr_mo (by decide +kernel) f2) hppl nppl fc fr hknow hev
  have nday : R_day o2.2 := R_day_k (b_kp1 ff (by decide +kernel)) hday
  have ntape : R_tape o2.2 := R_tape_k (b_kp1 ff (by decide +kernel)) htape
  have nfault : R_fault o2.2 := R_fault_k (b_kp1 ff (by decide +kernel)) hfault
  have nlots : R_lots o2.2 := R_lots_k (b_kp1 ff (by decide +kernel)) hlots
  have nshape : R_shape o2.2 := R_shape_k (b_kp1 ff (by decide +kernel)) hshape
  have ncoin : R_coin o2.2 := R_coin_k (b_kp1 ff (by decide +kernel)) hcoin
  have nburnt : R_burnt o2.2 := R_burnt_k (b_kp1 ff (by decide +kernel)) hburnt
  have npages : R_pages o2.2 := R_pages_k (b_kp1 ff (by decide +kernel)) hpages
  have nplace : R_place o2.2 := R_place_k (b_kp1 ff (by decide +kernel)) hplace
  have nlook : R_look o2.2 := R_look_k (b_kp1 ff (by decide +kernel)) hlook
  have nlink : R_link o2.2 := R_link_k (b_kp1 ff (by decide +kernel)) hlink
  have nmort : R_mort o2.2 := R_mort_k (b_kp1 ff (by decide +kernel)) hmort
  have nclaim : R_claim o2.2 := R_claim_k (b_kp1 ff (by decide +kernel)) hclaim
  have nsign : R_sign o2.2 := R_sign_k (b_kp1 ff (by decide +kernel)) hsign
  have nknow : R_know o2.2 := kt.1
  have nrules : R_rules o2.2 := R_rules_k (b_kp1 ff (by decide +kernel)) hrules
  have npap : R_pap o2.2 := R_pap_k (b_kp1 ff (by decide +kernel)) hpap
  have nwts : R_wts o2.2 := R_wts_q (b_kp1 ff (by decide +kernel)) hwts
  have nev : R_ev o2.2 := kt.2
  have nmarks : R_marks o2.2 := R_marks_k (b_kp1 ff (by decide +kernel)) hmarks
  have nprog : R_prog o2.2 := R_prog_k (b_kp1 ff (by decide +kernel)) hprog
  have nroot : R_root o2.2 := R_root_k (b_kp1 ff (by decide +kernel)) hroot
  have nrul : R_rul o2.2 := R_rul_k (b_kp1 ff (by decide +kernel)) hrul
  have ncref : R_cref o2.2 := R_cref_k (b_kp1 ff (by decide +kernel)) hcref
  have nways : R_ways o2.2 := R_ways_k (b_kp1 ff (by decide +kernel)) hways
  have nbd : R_bd o2.2 := R_bd_k (b_kp1 ff (by decide +kernel)) hbd
  have ncode : R_code o2.2 := R_code_k (b_kp1 ff (by decide +kernel)) hrules.1.2.2 hcode
  have nw0 : R_w0 o2.2 := R_w0_k (b_kp1 ff (by decide +kernel)) hw0
  have ncor : R_cor o2.2 := R_cor_k (b_kp1 ff (by decide +kernel)) hcor
  have nwd : R_wd o2.2 := R_wd_k (b_kp1 ff (by decide +kernel)) hwd
  have nn3 : N3 o2.2 := R_n3_k (b_kp1 ff (by decide +kernel)) hn3
  have nz0 : R_z0 o2.2 := R_z0_k (b_kp1 ff (by decide +kernel)) hz0
  have npg1 : R_pg1 o2.2 := R_pg1_k (b_kp1 ff (by decide +kernel)) hpg1
  have nmref : R_mref o2.2 := R_mref_k (b_kp1 ff (by decide +kernel)) hmref
  have nbnd : R_bnd (i + 8) o2.2 := R_bnd_k (b_kp1 ff (by decide +kernel)) hbnd
  exact ⟨ea, nday, ntape, nppl, nfault, nlots, nshape, ncoin, nburnt, npages, nplace, nlook, nlink, nmort, nclaim, nsign, nknow, nrules, npap, nwts, nev, nmarks, nprog, nroot, nrul, ncref, nways, nbd, ncode, nw0, ncor, nwd, nn3, nz0, npg1, nmref, nbnd⟩
theorem ff_6 {A : bM → Prop} {a : Int → Int} {i : Int} {M : bM} (hi : 0 ≤ i ∧ i + 8 ≤ 4096) (hR : R_fin i M) : lw_o6 (R_fin (i + 8)) A a M := by
  unfold lw_o6
  have hC := R_fin_C hR
  have hS := R_fin_s hR
  obtain ⟨hday, htape, hppl, hfault, hlots, hshape, hcoin, hburnt, hpages, hplace, hlook, hlink, hmort, hclaim, hsign, hknow, hrules, hpap, hwts, hev, hmarks, hprog, hroot, hrul, hcref, hways, hbd, hcode, hw0, hcor, hwd, hn3, hz0, hpg1, hmref, hbnd⟩ := hR
  refine b_wp_m (fun o w => ?_) (b_wl_wp (b_wl_and (w_X11_apart b_fr_refl) fa_apart) (op_apart hday hppl))
  have f1 := w.1.1
  have fc := w.1.2
  (try dsimp only at fc)
  refine b_wp_m (fun o2 z => ?_) (b_wl_wp (b_wl_and (w_X12_apart b_fr_refl) (fr_apart)) w.2)
  have f2 := z.1.1
  have fr := z.1.2
  (try dsimp only at fr)
  have ff := fr_app f2 f1
  have ea := z.2.1
  (try dsimp only at ea)
  have ps := z.2.2
  have nppl : R_ppl o2.2 := ps
  have kt := kp_tell (b_fr_mo (by decide +kernel) f1) (b_fr_mo (by decide +kernel) f2) hppl nppl fc fr hknow hev
  have nday : R_day o2.2 := R_day_k (b_kp1 ff (by decide +kernel)) hday
  have ntape : R_tape o2.2 := R_tape_k (b_kp1 ff (by decide +kernel)) htape
  have nfault : R_fault o2.2 := R_fault_k (b_kp1 ff (by decide +kernel)) hfault
  have nlots : R_lots o2.2 := R_lots_k (b_kp1 ff (by decide +kernel)) hlots
  have nshape : R_shape o2.2 := R_shape_k (b_kp1 ff (by decide +kernel)) hshape
  have ncoin : R_coin o2.2 := R_coin_k (b_kp1 ff (by decide +kernel)) hcoin
  have nburnt : R_burnt o2.2 := R_burnt_k (b_kp1 ff (by decide +kernel)) hburnt
  have npages : R_pages o2.2 := R_pages_k (b_kp1 ff (by decide +kernel)) hpages
  have nplace : R_place o2.2 := R_place_k (b_kp1 ff (by decide +kernel)) hplace
  have nlook : R_look o2.2 := R_look_k (b_kp1 ff (by decide +kernel)) hlook
  have nlink : R_link o2.2 := R_link_k (b_kp1 ff (by decide +kernel)) hlink
  have nmort : R_mort o2.2 := R_mort_k (b_kp1 ff (by decide +kernel)) hmort
  have nclaim : R_claim o2.2 := R_claim_k (b_kp1 ff (by decide +kernel)) hclaim
  have nsign : R_sign o2.2 := R_sign_k (b_kp1 ff (by decide +kernel)) hsign
  have nknow : R_know o2.2 := kt.1
  have nrules : R_rules o2.2 := R_rules_k (b_kp1 ff (by decide +kernel)) hrules
  have npap : R_pap o2.2 := R_pap_k (b_kp1 ff (by decide +kernel)) hpap
  have nwts : R_wts o2.2 := R_wts_q (b_kp1 ff (by decide +kernel)) hwts
  have nev : R_ev o2.2 := kt.2
  have nmarks : R_marks o2.2 := R_marks_k (b_kp1 ff (by decide +kernel)) hmarks
  have nprog : R_prog o2.2 := R_prog_k (b_kp1 ff (by decide +kernel)) hprog
  have nroot : R_root o2.2 := R_root_k (b_kp1 ff (by decide +kernel)) hroot
  have nrul : R_rul o2.2 := R_rul_k (b_kp1 ff (by decide +kernel)) hrul
  have ncref : R_cref o2.2 := R_cref_k (b_kp1 ff (by decide +kernel)) hcref
  have nways : R_ways o2.2 := R_ways_k (b_kp1 ff (by decide +kernel)) hways
  have nbd : R_bd o2.2 := R_bd_k (b_kp1 ff (by decide +kernel)) hbd
  have ncode : R_code o2.2 := R_code_k (b_kp1 ff (by decide +kernel)) hrules.1.2.2 hcode
  have nw0 : R_w0 o2.2 := R_w0_k (b_kp1 ff (by decide +kernel)) hw0
  have ncor : R_cor o2.2 := R_cor_k (b_kp1 ff (by decide +kernel)) hcor
  have nwd : R_wd o2.2 := R_wd_k (b_kp1 ff (by decide +kernel)) hwd
  have nn3 : N3 o2.2 := R_n3_k (b_kp1 ff (by decide +kernel)) hn3
  have nz0 : R_z0 o2.2 := R_z0_k (b_kp1 ff (by decide +kernel)) hz0
  have npg1 : R_pg1 o2.2 := R_pg1_k (b_kp1 ff (by decide +kernel)) hpg1
  have nmref : R_mref o2.2 := R_mref_k (b_kp1 ff (by decide +kernel)) hmref
  have nbnd : R_bnd (i + 8) o2.2 := R_bnd_k (b_kp1 ff (by decide +kernel)) hbnd
  exact ⟨ea, nday, ntape, nppl, nfault, nlots, nshape, ncoin, nburnt, npages, nplace, nlook, nlink, nmort, nclaim, nsign, nknow, nrules, npap, nwts, nev, nmarks, nprog, nroot, nrul, ncref, nways, nbd, ncode, nw0, ncor, nwd, nn3, nz0, npg1, nmref, nbnd⟩
theorem ff_7 {A : bM → Prop} {a : Int → Int} {i : Int} {M : bM} (hi : 0 ≤ i ∧ i + 8 ≤ 4096) (hR : R_fin i M) : lw_o7 (R_fin (i + 8)) A a M := by
  unfold lw_o7
  have hC := R_fin_C hR
  have hS := R_fin_s hR
  obtain ⟨hday, htape, hppl, hfault, hlots, hshape, hcoin, hburnt, hpages, hplace, hlook, hlink, hmort, hclaim, hsign, hknow, hrules, hpap, hwts, hev, hmarks, hprog, hroot, hrul, hcref, hways, hbd, hcode, hw0, hcor, hwd, hn3, hz0, hpg1, hmref, hbnd⟩ := hR
  refine b_wp_m (fun o w => ?_) (b_wl_wp (b_wl_and (w_X11_child b_fr_refl) fa_child) (op_child hday hppl))
  have f1 := w.1.1
  have fc := w.1.2
  (try dsimp only at fc)
  refine b_wp_m (fun o2 z => ?_) (b_wl_wp (b_wl_and (w_X12_child b_fr_refl) (fr_child)) w.2)
  have f2 := z.1.1
  have fr := z.1.2
  (try dsimp only at fr)
  have ff := fr_app f2 f1
  have ea := z.2.1
  (try dsimp only at ea)
  have ps := z.2.2
  have nppl : R_ppl o2.2 := ps
  have kt := kp_tell (b_fr_mo (by decide +kernel) f1) (b_fr_mo (by decide +kernel) f2) hppl nppl fc fr hknow hev
  have nday : R_day o2.2 := R_day_k (b_kp1 ff (by decide +kernel)) hday
  have ntape : R_tape o2.2 := R_tape_k (b_kp1 ff (by decide +kernel)) htape
  have nfault : R_fault o2.2 := R_fault_k (b_kp1 ff (by decide +kernel)) hfault
  have nlots : R_lots o2.2 := R_lots_k (b_kp1 ff (by decide +kernel)) hlots
  have nshape : R_shape o2.2 := R_shape_k (b_kp1 ff (by decide +kernel)) hshape
  have ncoin : R_coin o2.2 := R_coin_k (b_kp1 ff (by decide +kernel)) hcoin
  have nburnt : R_burnt o2.2 := R_burnt_k (b_kp1 ff (by decide +kernel)) hburnt
  have npages : R_pages o2.2 := R_pages_k (b_kp1 ff (by decide +kernel)) hpages
  have nplace : R_place o2.2 := R_place_k (b_kp1 ff (by decide +kernel)) hplace
  have nlook : R_look o2.2 := R_look_k (b_kp1 ff (by decide +kernel)) hlook
  have nlink : R_link o2.2 := R_link_k (b_kp1 ff (by decide +kernel)) hlink
  have nmort : R_mort o2.2 := R_mort_k (b_kp1 ff (by decide +kernel)) hmort
  have nclaim : R_claim o2.2 := R_claim_k (b_kp1 ff (by decide +kernel)) hclaim
  have nsign : R_sign o2.2 := R_sign_k (b_kp1 ff (by decide +kernel)) hsign
  have nknow : R_know o2.2 := kt.1
  have nrules : R_rules o2.2 := R_rules_k (b_kp1 ff (by decide +kernel)) hrules
  have npap : R_pap o2.2 := R_pap_k (b_kp1 ff (by decide +kernel)) hpap
  have nwts : R_wts o2.2 := R_wts_q (b_kp1 ff (by decide +kernel)) hwts
  have nev : R_ev o2.2 := kt.2
  have nmarks : R_marks o2.2 := R_marks_k (b_kp1 ff (by decide +kernel)) hmarks
  have nprog : R_prog o2.2 := R_prog_k (b_kp1 ff (by decide +kernel)) hprog
  have nroot : R_root o2.2 := R_root_k (b_kp1 ff (by decide +kernel)) hroot
  have nrul : R_rul o2.2 := R_rul_k (b_kp1 ff (by decide +kernel)) hrul
  have ncref : R_cref o2.2 := R_cref_k (b_kp1 ff (by decide +kernel)) hcref
  have nways : R_ways o2.2 := R_ways_k (b_kp1 ff (by decide +kernel)) hways
  have nbd : R_bd o2.2 := R_bd_k (b_kp1 ff (by decide +kernel)) hbd
  have ncode : R_code o2.2 := R_code_k (b_kp1 ff (by decide +kernel)) hrules.1.2.2 hcode
  have nw0 : R_w0 o2.2 := R_w0_k (b_kp1 ff (by decide +kernel)) hw0
  have ncor : R_cor o2.2 := R_cor_k (b_kp1 ff (by decide +kernel)) hcor
  have nwd : R_wd o2.2 := R_wd_k (b_kp1 ff (by decide +kernel)) hwd
  have nn3 : N3 o2.2 := R_n3_k (b_kp1 ff (by decide +kernel)) hn3
  have nz0 : R_z0 o2.2 := R_z0_k (b_kp1 ff (by decide +kernel)) hz0
  have npg1 : R_pg1 o2.2 := R_pg1_k (b_kp1 ff (by decide +kernel)) hpg1
  have nmref : R_mref o2.2 := R_mref_k (b_kp1 ff (by decide +kernel)) hmref
  have nbnd : R_bnd (i + 8) o2.2 := R_bnd_k (b_kp1 ff (by decide +kernel)) hbnd
  exact ⟨ea, nday, ntape, nppl, nfault, nlots, nshape, ncoin, nburnt, npages, nplace, nlook, nlink, nmort, nclaim, nsign, nknow, nrules, npap, nwts, nev, nmarks, nprog, nroot, nrul, ncref, nways, nbd, ncode, nw0, ncor, nwd, nn3, nz0, npg1, nmref, nbnd⟩
