theorem ff_27 {A : bM → Prop} {a : Int → Int} {i : Int} {M : bM} (hi : 0 ≤ i ∧ i + 8 ≤ 4096) (hR : R_fin i M) : lw_o27 (R_fin (i + 8)) A a M := by
  unfold lw_o27
  have hC := R_fin_C hR
  have hS := R_fin_s hR
  obtain ⟨hday, htape, hppl, hfault, hlots, hshape, hcoin, hburnt, hpages, hplace, hlook, hlink, hmort, hclaim, hsign, hknow, hrules, hpap, hwts, hev, hmarks, hprog, hroot, hrul, hcref, hways, hbd, hcode, hw0, hcor, hwd, hn3, hz0, hpg1, hmref, hbnd⟩ := hR
  refine b_wp_m (fun o w => ?_) (b_wl_wp (b_wl_and (w_X11_pages b_fr_refl) fa_pages) (op_pages hpages))
  have f1 := w.1.1
  have fc := w.1.2
  (try dsimp only at fc)
  have opages : o.2 11 54 = M 11 54 ∧ 0 ≤ M 11 54 := ⟨f1 11 54 (by decide +kernel), by have a := hpages; unfold R_pages at a; omega⟩
  refine b_wp_m (fun o2 z => ?_) (b_wl_wp (b_wl_and (w_X12_pages b_fr_refl) (fr_pages (by have := opages.2; have := opages.1; omega))) w.2)
  have f2 := z.1.1
  have fr := z.1.2
  (try dsimp only at fr)
  have ff := fr_app f2 f1
  have ea := z.2.1
  (try dsimp only at ea)
  have ps := z.2.2
  have npages : R_pages o2.2 := ps
  have nday : R_day o2.2 := R_day_k (b_kp1 ff (by decide +kernel)) hday
  have ntape : R_tape o2.2 := R_tape_k (b_kp1 ff (by decide +kernel)) htape
  have nppl : R_ppl o2.2 := R_ppl_k (b_kp1 ff (by decide +kernel)) hppl
  have nfault : R_fault o2.2 := R_fault_k (b_kp1 ff (by decide +kernel)) hfault
  have nlots : R_lots o2.2 := R_lots_k (b_kp1 ff (by decide +kernel)) hlots
  have nshape : R_shape o2.2 := R_shape_k (b_kp1 ff (by decide +kernel)) hshape
  have ncoin : R_coin o2.2 := R_coin_k (b_kp1 ff (by decide +kernel)) hcoin
  have nburnt : R_burnt o2.2 := R_burnt_k (b_kp1 ff (by decide +kernel)) hburnt
  have nplace : R_place o2.2 := R_place_k (b_kp1 ff (by decide +kernel)) hplace
  have nlook : R_look o2.2 := R_look_k (b_kp1 ff (by decide +kernel)) hlook
  have nlink : R_link o2.2 := R_link_k (b_kp1 ff (by decide +kernel)) hlink
  have nmort : R_mort o2.2 := R_mort_k (b_kp1 ff (by decide +kernel)) hmort
  have nclaim : R_claim o2.2 := R_claim_k (b_kp1 ff (by decide +kernel)) hclaim
  have nsign : R_sign o2.2 := R_sign_k (b_kp1 ff (by decide +kernel)) hsign
  have nknow : R_know o2.2 := R_know_k (b_kp1 ff (by decide +kernel)) hknow
  have nrules : R_rules o2.2 := R_rules_k (b_kp1 ff (by decide +kernel)) hrules
  have npap : R_pap o2.2 := R_pap_k (b_kp1 ff (by decide +kernel)) hpap
  have nwts : R_wts o2.2 := R_wts_q (b_kp1 ff (by decide +kernel)) hwts
  have nev : R_ev o2.2 := ev_cut f1 (by decide +kernel) (f2 6 5 (by decide +kernel)) (fc.2.imp id (fun q => ⟨fr (by have := q.1; omega), q.2⟩)) hev
  have nmarks : R_marks o2.2 := R_marks_k (b_kp1 ff (by decide +kernel)) hmarks
  have nprog : R_prog o2.2 := R_prog_k (b_kp1 ff (by decide +kernel)) hprog
  have nroot : R_root o2.2 := R_root_k (b_kp1 ff (by decide +kernel)) hroot
  have nrul : R_rul o2.2 := R_rul_k (b_kp1 ff (by decide +kernel)) hrul
  have ncref : R_cref o2.2 := R_cref_k (b_kp1 ff (by decide +kernel)) hcref
  have nways : R_ways o2.2 := R_ways_k (b_kp1 ff (by decide +kernel)) hways
  have nbd : R_bd o2.2 := R_bd_k (b_kp1 ff (by decide +kernel)) hbd
  have ncode : R_code o2.2 := R_code_k (b_kp1 ff (by decide +kernel)) hrules.1.2.2 hcode
  have nw0 : R_w0 o2.2 := R_w0_k (b_kp1 ff (by decide +kernel)) hw0
  have ncor : R_cor o2.2 := R_cor_k (b_kp1 ff (by decide +kernel)) hcor
  have nwd : R_wd o2.2 := R_wd_k (b_kp1 ff (by decide +kernel)) hwd
  have nn3 : N3 o2.2 := R_n3_k (b_kp1 ff (by decide +kernel)) hn3
  have nz0 : R_z0 o2.2 := R_z0_k (b_kp1 ff (by decide +kernel)) hz0
  have npg1 : R_pg1 o2.2 := (by unfold R_pg1 at hpg1 ⊢; have a := npages.1; have b := hpages.1; have c : o2.2 5 1 = o.2 5 1 := f2 5 1 (by decide +kernel); have d := fc.1; omega)
  have nmref : R_mref o2.2 := R_mref_k (b_kp1 ff (by decide +kernel)) hmref
  have nbnd : R_bnd (i + 8) o2.2 := R_bnd_k (b_kp1 ff (by decide +kernel)) hbnd
  exact ⟨ea, nday, ntape, nppl, nfault, nlots, nshape, ncoin, nburnt, npages, nplace, nlook, nlink, nmort, nclaim, nsign, nknow, nrules, npap, nwts, nev, nmarks, nprog, nroot, nrul, ncref, nways, nbd, ncode, nw0, ncor, nwd, nn3, nz0, npg1, nmref, nbnd⟩
theorem ff_28 {A : bM → Prop} {a : Int → Int} {i : Int} {M : bM} (hi : 0 ≤ i ∧ i + 8 ≤ 4096) (hR : R_fin i M) : lw_o28 (R_fin (i + 8)) A a M := by
  unfold lw_o28
  have hC := R_fin_C hR
  have hS := R_fin_s hR
  obtain ⟨hday, htape, hppl, hfault, hlots, hshape, hcoin, hburnt, hpages, hplace, hlook, hlink, hmort, hclaim, hsign, hknow, hrules, hpap, hwts, hev, hmarks, hprog, hroot, hrul, hcref, hways, hbd, hcode, hw0, hcor, hwd, hn3, hz0, hpg1, hmref, hbnd⟩ := hR
  refine b_wp_m (fun o w => b_wp_m (fun o2 z => ?_) (b_wl_wp (b_wl_and (w_X12_weight b_fr_refl) b_wl_any) w)) (op_weight hC)
  have f1 : b_fr [] M M := b_fr_refl
  have f2 := z.1.1
  have fr := z.1.2
  (try dsimp only at fr)
  have ff := fr_app f2 f1
  have ea := z.2.1
  (try dsimp only at ea)
  have ps := z.2.2
  have nppl : R_ppl o2.2 := ps.1.1
  have nlots : R_lots o2.2 := ps.1.2.2.1
  have nburnt : R_burnt o2.2 := ps.1.2.2.2.2.2.2.2.2
  have npages : R_pages o2.2 := ps.1.2.2.2.2.2.1
  have nsign : R_sign o2.2 := ps.1.2.2.2.1
  have nknow : R_know o2.2 := ps.1.2.1
  have nrules : R_rules o2.2 := ps.1.2.2.2.2.2.2.1
  have npap : R_pap o2.2 := ps.1.2.2.2.2.1
  have nwts : R_wts o2.2 := ps.1.2.2.2.2.2.2.2.1
  have nev : R_ev o2.2 := ps.2.1
  have nmarks : R_marks o2.2 := ps.2.2.1.2.2
  have nprog : R_prog o2.2 := ps.2.2.1.2.1
  have nroot : R_root o2.2 := ps.2.2.2
  have npg1 : R_pg1 o2.2 := ps.2.2.1.1
  have nday : R_day o2.2 := R_day_k (b_kp1 ff (by decide +kernel)) hday
  have ntape : R_tape o2.2 := R_tape_k (b_kp1 ff (by decide +kernel)) htape
  have nfault : R_fault o2.2 := R_fault_k (b_kp1 ff (by decide +kernel)) hfault
  have nshape : R_shape o2.2 := R_shape_k (b_kp1 ff (by decide +kernel)) hshape
  have ncoin : R_coin o2.2 := R_coin_k (b_kp1 ff (by decide +kernel)) hcoin
  have nplace : R_place o2.2 := R_place_k (b_kp1 ff (by decide +kernel)) hplace
  have nlook : R_look o2.2 := R_look_k (b_kp1 ff (by decide +kernel)) hlook
  have nlink : R_link o2.2 := R_link_k (b_kp1 ff (by decide +kernel)) hlink
  have nmort : R_mort o2.2 := R_mort_k (b_kp1 ff (by decide +kernel)) hmort
  have nclaim : R_claim o2.2 := R_claim_k (b_kp1 ff (by decide +kernel)) hclaim
  have nrul : R_rul o2.2 := R_rul_k (b_kp1 ff (by decide +kernel)) hrul
  have ncref : R_cref o2.2 := R_cref_k (b_kp1 ff (by decide +kernel)) hcref
  have nways : R_ways o2.2 := R_ways_k (b_kp1 ff (by decide +kernel)) hways
  have nbd : R_bd o2.2 := R_bd_k (b_kp1 ff (by decide +kernel)) hbd
  have ncode : R_code o2.2 := R_code_k (b_kp1 ff (by decide +kernel)) hrules.1.2.2 hcode
  have nw0 : R_w0 o2.2 := R_w0_k (b_kp1 ff (by decide +kernel)) hw0
  have ncor : R_cor o2.2 := R_cor_k (b_kp1 ff (by decide +kernel)) hcor
  have nwd : R_wd o2.2 := R_wd_k (b_kp1 ff (by decide +kernel)) hwd
  have nn3 : N3 o2.2 := R_n3_k (b_kp1 ff (by decide +kernel)) hn3
  have nz0 : R_z0 o2.2 := R_z0_k (b_kp1 ff (by decide +kernel)) hz0
  have nmref : R_mref o2.2 := R_mref_k (b_kp1 ff (by decide +kernel)) hmref
  have nbnd : R_bnd (i + 8) o2.2 := R_bnd_k (b_kp1 ff (by decide +kernel)) hbnd
  exact ⟨ea, nday, ntape, nppl, nfault, nlots, nshape, ncoin, nburnt, npages, nplace, nlook, nlink, nmort, nclaim, nsign, nknow, nrules, npap, nwts, nev, nmarks, nprog, nroot, nrul, ncref, nways, nbd, ncode, nw0, ncor, nwd, nn3, nz0, npg1, nmref, nbnd⟩
theorem ff_29 {A : bM → Prop} {a : Int → Int} {i : Int} {M : bM} (hi : 0 ≤ i ∧ i + 8 ≤ 4096) (hR : R_fin i M) : lw_o29 (R_fin (i + 8)) A a M := by
  unfold lw_o29
  have hC := R_fin_C hR
  have hS := R_fin_s hR
  obtain ⟨hday, htape, hppl, hfault, hlots, hshape, hcoin, hburnt, hpages, hplace, hlook, hlink, hmort, hclaim, hsign, hknow, hrules, hpap, hwts, hev, hmarks, hprog, hroot, hrul, hcref, hways, hbd, hcode, hw0, hcor, hwd, hn3, hz0, hpg1, hmref, hbnd⟩ := hR
  refine b_wp_m (fun o w => ?_) (b_wl_wp (b_wl_and (w_X11_cant b_fr_refl) b_wl_any) (op_cant hppl hknow hlots hsign hpap hpages hpg1))
  have f1 := w.1.1
  have fc := w.1.2
  (try dsimp only at fc)
  refine b_wp_m (fun o2 z => ?_) (b_wl_wp (b_wl_and (w_X12_cant b_fr_refl) b_wl_any) w.2)
  have f2 := z.1.1
  have fr := z.1.2
  (try dsimp only at fr)
  have ff := fr_app f2 f1
  have ea := z.2.1
  (try dsimp only at ea)
  have ps := z.2.2
  have nppl : R_ppl o2.2 := ps.1
  have nknow : R_know o2.2 := ps.2
  have nday : R_day o2.2 := R_day_k (b_kp1 ff (by decide +kernel)) hday
  have ntape : R_tape o2.2 := R_tape_k (b_kp1 ff (by decide +kernel)) htape
  have nfault : R_fault o2.2 := R_fault_k (b_kp1 ff (by decide +kernel)) hfault
  have nlots : R_lots o2.2 := R_lots_k (b_kp1 ff (by decide +kernel)) hlots
  have nshape : R_shape o2.2 := R_shape_k (b_kp1 ff (by decide +kernel)) hshape
  have ncoin : R_coin o2.2 := R_coin_k (b_kp1 ff (by decide +kernel)) hcoin
  have nburnt : R_burnt o2.2 := R_burnt_k (b_kp1 ff (by decide +kernel)) hburnt
  have npages : R_pages o2.2 := R_pages_k (b_kp1 ff (by decide +kernel)) hpages
  have nplace : R_place o2.2 := R_place_k (b_kp1 ff (by decide +kernel)) hplace
  have nlook : R_look o2.2 := R_look_k (b_kp1 ff (by decide +kernel)) hlook
  have nlink : R_link o2.2 := R_link_k (b_kp1 ff (by decide +kernel)) hlink
  have nmort : R_mort o2.2 := R_mort_k (b_kp1 ff (by decide +kernel)) hmort
  have nclaim : R_claim o2.2 := R_claim_k (b_kp1 ff (by decide +kernel)) hclaim
  have nsign : R_sign o2.2 := R_sign_k (b_kp1 ff (by decide +kernel)) hsign
  have nrules : R_rules o2.2 := R_rules_k (b_kp1 ff (by decide +kernel)) hrules
  have npap : R_pap o2.2 := R_pap_k (b_kp1 ff (by decide +kernel)) hpap
  have nwts : R_wts o2.2 := R_wts_q (b_kp1 ff (by decide +kernel)) hwts
  have nev : R_ev o2.2 := R_ev_k (b_kp1 ff (by decide +kernel)) hev
  have nmarks : R_marks o2.2 := R_marks_k (b_kp1 ff (by decide +kernel)) hmarks
  have nprog : R_prog o2.2 := R_prog_k (b_kp1 ff (by decide +kernel)) hprog
  have nroot : R_root o2.2 := R_root_k (b_kp1 ff (by decide +kernel)) hroot
  have nrul : R_rul o2.2 := R_rul_k (b_kp1 ff (by decide +kernel)) hrul
  have ncref : R_cref o2.2 := R_cref_k (b_kp1 ff (by decide +kernel)) hcref
  have nways : R_ways o2.2 := R_ways_k (b_kp1 ff (by decide +kernel)) hways
  have nbd : R_bd o2.2 := R_bd_k (b_kp1 ff (by decide +kernel)) hbd
  have ncode : R_code o2.2 := R_code_k (b_kp1 ff (by decide +kernel)) hrules.1.2.2 hcode
  have nw0 : R_w0 o2.2 := R_w0_k (b_kp1 ff (by decide +kernel)) hw0
  have ncor : R_cor o2.2 := R_cor_k (b_kp1 ff (by decide +kernel)) hcor
  have nwd : R_wd o2.2 := R_wd_k (b_kp1 ff (by decide +kernel)) hwd
  have nn3 : N3 o2.2 := R_n3_k (b_kp1 ff (by decide +kernel)) hn3
  have nz0 : R_z0 o2.2 := R_z0_k (b_kp1 ff (by decide +kernel)) hz0
  have npg1 : R_pg1 o2.2 := R_pg1_k (b_kp1 ff (by decide +kernel)) hpg1
  have nmref : R_mref o2.2 := R_mref_k (b_kp1 ff (by decide +kernel)) hmref
  have nbnd : R_bnd (i + 8) o2.2 := R_bnd_k (b_kp1 ff (by decide +kernel)) hbnd
  exact ⟨ea, nday, ntape, nppl, nfault, nlots, nshape, ncoin, nburnt, npages, nplace, nlook, nlink, nmort, nclaim, nsign, nknow, nrules, npap, nwts, nev, nmarks, nprog, nroot, nrul, ncref, nways, nbd, ncode, nw0, ncor, nwd, nn3, nz0, npg1, nmref, nbnd⟩
theorem ff_30 {A : bM → Prop} {a : Int → Int} {i : Int} {M : bM} (hi : 0 ≤ i ∧ i + 8 ≤ 4096) (hR : R_fin i M) : lw_o30 (R_fin (i + 8)) A a M := by
  unfold lw_o30
  have hC := R_fin_C hR
  have hS := R_fin_s hR
  obtain ⟨hday, htape, hppl, hfault, hlots, hshape, hcoin, hburnt, hpages, hplace, hlook, hlink, hmort, hclaim, hsign, hknow, hrules, hpap, hwts, hev, hmarks, hprog, hroot, hrul, hcref, hways, hbd, hcode, hw0, hcor, hwd, hn3, hz0, hpg1, hmref, hbnd⟩ := hR
  refine b_wp_m (fun o w => ?_) (b_wl_wp (b_wl_and (w_X11_shown b_fr_refl) b_wl_any) (op_shown hC.1 hev hC.2.2.1))
  have f1 := w.1.1
  have fc := w.1.2
  (try dsimp only at fc)
  refine b_wp_m (fun o2 z => ?_) (b_wl_wp (b_wl_and (w_X12_shown b_fr_refl) b_wl_any) w.2)
  have f2 := z.1.1
  have fr := z.1.2
  (try dsimp only at fr)
  have ff := fr_app f2 f1
  have ea := z.2.1
  (try dsimp only at ea)
  have ps := z.2.2
  have nppl : R_ppl o2.2 := ps.1.1
  have nlots : R_lots o2.2 := ps.1.2.2.1
  have nburnt : R_burnt o2.2 := ps.1.2.2.2.2.2.2.2.2
  have npages : R_pages o2.2 := ps.1.2.2.2.2.2.1
  have nsign : R_sign o2.2 := ps.1.2.2.2.1
  have nknow : R_know o2.2 := ps.1.2.1
  have nrules : R_rules o2.2 := ps.1.2.2.2.2.2.2.1
  have npap : R_pap o2.2 := ps.1.2.2.2.2.1
  have nwts : R_wts o2.2 := ps.1.2.2.2.2.2.2.2.1
  have nev : R_ev o2.2 := ps.2.1
  have nmarks : R_marks o2.2 := ps.2.2.2.2
  have nprog : R_prog o2.2 := ps.2.2.2.1
  have npg1 : R_pg1 o2.2 := ps.2.2.1
  have nday : R_day o2.2 := R_day_k (b_kp1 ff (by decide +kernel)) hday
  have ntape : R_tape o2.2 := R_tape_k (b_kp1 ff (by decide +kernel)) htape
  have nfault : R_fault o2.2 := R_fault_k (b_kp1 ff (by decide +kernel)) hfault
  have nshape : R_shape o2.2 := R_shape_k (b_kp1 ff (by decide +kernel)) hshape
  have ncoin : R_coin o2.2 := R_coin_k (b_kp1 ff (by decide +kernel)) hcoin
  have nplace : R_place o2.2 := R_place_k (b_kp1 ff (by decide +kernel)) hplace
  have nlook : R_look o2.2 := R_look_k (b_kp1 ff (by decide +kernel)) hlook
  have nlink : R_link o2.2 := R_link_k (b_kp1 ff (by decide +kernel)) hlink
  have nmort : R_mort o2.2 := R_mort_k (b_kp1 ff (by decide +kernel)) hmort
  have nclaim : R_claim o2.2 := R_claim_k (b_kp1 ff (by decide +kernel)) hclaim
  have nroot : R_root o2.2 := R_root_k (b_kp1 ff (by decide +kernel)) hroot
  have nrul : R_rul o2.2 := R_rul_k (b_kp1 ff (by decide +kernel)) hrul
  have ncref : R_cref o2.2 := R_cref_k (b_kp1 ff (by decide +kernel)) hcref
  have nways : R_ways o2.2 := R_ways_k (b_kp1 ff (by decide +kernel)) hways
  have nbd : R_bd o2.2 := R_bd_k (b_kp1 ff (by decide +kernel)) hbd
  have ncode : R_code o2.2 := R_code_k (b_kp1 ff (by decide +kernel)) hrules.1.2.2 hcode
  have nw0 : R_w0 o2.2 := R_w0_k (b_kp1 ff (by decide +kernel)) hw0
  have ncor : R_cor o2.2 := R_cor_k (b_kp1 ff (by decide +kernel)) hcor
  have nwd : R_wd o2.2 := R_wd_k (b_kp1 ff (by decide +kernel)) hwd
  have nn3 : N3 o2.2 := R_n3_k (b_kp1 ff (by decide +kernel)) hn3
  have nz0 : R_z0 o2.2 := R_z0_k (b_kp1 ff (by decide +kernel)) hz0
  have nmref : R_mref o2.2 := R_mref_k (b_kp1 ff (by decide +kernel)) hmref
  have nbnd : R_bnd (i + 8) o2.2 := R_bnd_k (b_kp1 ff (by decide +kernel)) hbnd
  exact ⟨ea, nday, ntape, nppl, nfault, nlots, nshape, ncoin, nburnt, npages, nplace, nlook, nlink, nmort, nclaim, nsign, nknow, nrules, npap, nwts, nev, nmarks, nprog, nroot, nrul, ncref, nways, nbd, ncode, nw0, ncor, nwd, nn3, nz0, npg1, nmref, nbnd⟩
theorem ff_31 {A : bM → Prop} {a : Int → Int} {i : Int} {M : bM} (hi : 0 ≤ i ∧ i + 8 ≤ 4096) (hR : R_fin i M) : lw_o31 (R_fin (i + 8)) A a M := by
  unfold lw_o31
  have hC := R_fin_C hR
  have hS := R_fin_s hR
  obtain ⟨hday, htape, hppl, hfault, hlots, hshape, hcoin, hburnt, hpages, hplace, hlook, hlink, hmort, hclaim, hsign, hknow, hrules, hpap, hwts, hev, hmarks, hprog, hroot, hrul, hcref, hways, hbd, hcode, hw0, hcor, hwd, hn3, hz0, hpg1, hmref, hbnd⟩ := hR
  refine b_wp_m (fun o w => ?_) (b_wl_wp (b_wl_and (w_X11_root b_fr_refl) fa_root) (op_root hppl hlots))
  have f1 := w.1.1
  have fc := w.1.2
  (try dsimp only at fc)
  refine b_wp_m (fun o2 z => ?_) (b_wl_wp (b_wl_and (w_X12_root b_fr_refl) b_wl_any) w.2)
  have f2 := z.1.1
  have fr := z.1.2
  (try dsimp only at fr)
  have ff := fr_app f2 f1
  have ea := z.2.1
  (try dsimp only at ea)
  have ps := z.2.2
  have nlots : R_lots o2.2 := ps
  have nday : R_day o2.2 := R_day_k (b_kp1 ff (by decide +kernel)) hday
  have ntape : R_tape o2.2 := R_tape_k (b_kp1 ff (by decide +kernel)) htape
  have nppl : R_ppl o2.2 := R_ppl_k (b_kp1 ff (by decide +kernel)) hppl
  have nfault : R_fault o2.2 := R_fault_k (b_kp1 ff (by decide +kernel)) hfault
  have nshape : R_shape o2.2 := R_shape_k (b_kp1 ff (by decide +kernel)) hshape
  have ncoin : R_coin o2.2 := R_coin_k (b_kp1 ff (by decide +kernel)) hcoin
  have nburnt : R_burnt o2.2 := R_burnt_k (b_kp1 ff (by decide +kernel)) hburnt
  have npages : R_pages o2.2 := R_pages_k (b_kp1 ff (by decide +kernel)) hpages
  have nplace : R_place o2.2 := R_place_k (b_kp1 ff (by decide +kernel)) hplace
  have nlook : R_look o2.2 := R_look_k (b_kp1 ff (by decide +kernel)) hlook
  have nlink : R_link o2.2 := R_link_k (b_kp1 ff (by decide +kernel)) hlink
  have nmort : R_mort o2.2 := R_mort_k (b_kp1 ff (by decide +kernel)) hmort
  have nclaim : R_claim o2.2 := R_claim_k (b_kp1 ff (by decide +kernel)) hclaim
  have nsign : R_sign o2.2 := R_sign_k (b_kp1 ff (by decide +kernel)) hsign
  have nknow : R_know o2.2 := R_know_k (b_kp1 ff (by decide +kernel)) hknow
  have nrules : R_rules o2.2 := R_rules_k (b_kp1 ff (by decide +kernel)) hrules
  have npap : R_pap o2.2 := R_pap_k (b_kp1 ff (by decide +kernel)) hpap
  have nwts : R_wts o2.2 := R_wts_q (b_kp1 ff (by decide +kernel)) hwts
  have nev : R_ev o2.2 := R_ev_k (b_kp1 ff (by decide +kernel)) hev
  have nmarks : R_marks o2.2 := R_marks_k (b_kp1 ff (by decide +kernel)) hmarks
  have nprog : R_prog o2.2 := R_prog_k (b_kp1 ff (by decide +kernel)) hprog
  have nroot : R_root o2.2 := root_mono (ff 3 0 (by decide +kernel)) (fun r => by rw [f2 92 r rfl]; exact fc r) (Int.le_of_eq (ff 2 0 (by decide +kernel)).symm) hroot
  have nrul : R_rul o2.2 := R_rul_k (b_kp1 ff (by decide +kernel)) hrul
  have ncref : R_cref o2.2 := R_cref_k (b_kp1 ff (by decide +kernel)) hcref
  have nways : R_ways o2.2 := R_ways_k (b_kp1 ff (by decide +kernel)) hways
  have nbd : R_bd o2.2 := R_bd_k (b_kp1 ff (by decide +kernel)) hbd
  have ncode : R_code o2.2 := R_code_k (b_kp1 ff (by decide +kernel)) hrules.1.2.2 hcode
  have nw0 : R_w0 o2.2 := R_w0_k (b_kp1 ff (by decide +kernel)) hw0
  have ncor : R_cor o2.2 := R_cor_k (b_kp1 ff (by decide +kernel)) hcor
  have nwd : R_wd o2.2 := R_wd_k (b_kp1 ff (by decide +kernel)) hwd
  have nn3 : N3 o2.2 := R_n3_k (b_kp1 ff (by decide +kernel)) hn3
  have nz0 : R_z0 o2.2 := R_z0_k (b_kp1 ff (by decide +kernel)) hz0
  have npg1 : R_pg1 o2.2 := R_pg1_k (b_kp1 ff (by decide +kernel)) hpg1
  have nmref : R_mref o2.2 := R_mref_k (b_kp1 ff (by decide +kernel)) hmref
  have nbnd : R_bnd (i + 8) o2.2 := R_bnd_k (b_kp1 ff (by decide +kernel)) hbnd
  exact ⟨ea, nday, ntape, nppl, nfault, nlots, nshape, ncoin, nburnt, npages, nplace, nlook, nlink, nmort, nclaim, nsign, nknow, nrules, npap, nwts, nev, nmarks, nprog, nroot, nrul, ncref, nways, nbd, ncode, nw0, ncor, nwd, nn3, nz0, npg1, nmref, nbnd⟩
theorem ff_32 {A : bM → Prop} {a : Int → Int} {i : Int} {M : bM} (hi : 0 ≤ i ∧ i + 8 ≤ 4096) (hR : R_fin i M) : lw_o32 (R_fin (i + 8)) A a M := by
  unfold lw_o32
  have hC := R_fin_C hR
  have hS := R_fin_s hR
  obtain ⟨hday, htape, hppl, hfault, hlots, hshape, hcoin, hburnt, hpages, hplace, hlook, hlink, hmort, hclaim, hsign, hknow, hrules, hpap, hwts, hev, hmarks, hprog, hroot, hrul, hcref, hways, hbd, hcode, hw0, hcor, hwd, hn3, hz0, hpg1, hmref, hbnd⟩ := hR
  refine b_wp_m (fun o w => ?_) (b_wl_wp (b_wl_and (w_X11_chain b_fr_refl) b_wl_any) (op_chain hC hlink))
  have f1 := w.1.1
  have fc := w.1.2
  (try dsimp only at fc)
  refine b_wp_m (fun o2 z => ?_) (b_wl_wp (b_wl_and (w_X12_chain b_fr_refl) b_wl_any) w.2)
  have f2 := z.1.1
  have fr := z.1.2
  (try dsimp only at fr)
  have ff := fr_app f2 f1
  have ea := z.2.1
  (try dsimp only at ea)
  have ps := z.2.2
  have nppl : R_ppl o2.2 := ps.1.1.1
  have nlots : R_lots o2.2 := ps.1.1.2.2.1
  have nburnt : R_burnt o2.2 := ps.1.1.2.2.2.2.2.2.2.2
  have npages : R_pages o2.2 := ps.1.1.2.2.2.2.2.1
  have nlink : R_link o2.2 := ps.2
  have nsign : R_sign o2.2 := ps.1.1.2.2.2.1
  have nknow : R_know o2.2 := ps.1.1.2.1
  have nrules : R_rules o2.2 := ps.1.1.2.2.2.2.2.2.1
  have npap : R_pap o2.2 := ps.1.1.2.2.2.2.1
  have nwts : R_wts o2.2 := ps.1.1.2.2.2.2.2.2.2.1
  have nev : R_ev o2.2 := ps.1.2.1
  have nmarks : R_marks o2.2 := ps.1.2.2.1.2.2
  have nprog : R_prog o2.2 := ps.1.2.2.1.2.1
  have nroot : R_root o2.2 := ps.1.2.2.2
  have npg1 : R_pg1 o2.2 := ps.1.2.2.1.1
  have nday : R_day o2.2 := R_day_k (b_kp1 ff (by decide +kernel)) hday
  have ntape : R_tape o2.2 := R_tape_k (b_kp1 ff (by decide +kernel)) htape
  have nfault : R_fault o2.2 := R_fault_k (b_kp1 ff (by decide +kernel)) hfault
  have nshape : R_shape o2.2 := R_shape_k (b_kp1 ff (by decide +kernel)) hshape
  have ncoin : R_coin o2.2 := R_coin_k (b_kp1 ff (by decide +kernel)) hcoin
  have nplace : R_place o2.2 := R_place_k (b_kp1 ff (by decide +kernel)) hplace
  have nlook : R_look o2.2 := R_look_k (b_kp1 ff (by decide +kernel)) hlook
  have nmort : R_mort o2.2 := R_mort_k (b_kp1 ff (by decide +kernel)) hmort
  have nclaim : R_claim o2.2 := R_claim_k (b_kp1 ff (by decide +kernel)) hclaim
  have nrul : R_rul o2.2 := R_rul_k (b_kp1 ff (by decide +kernel)) hrul
  have ncref : R_cref o2.2 := R_cref_k (b_kp1 ff (by decide +kernel)) hcref
  have nways : R_ways o2.2 := R_ways_k (b_kp1 ff (by decide +kernel)) hways
  have nbd : R_bd o2.2 := R_bd_k (b_kp1 ff (by decide +kernel)) hbd
  have ncode : R_code o2.2 := R_code_k (b_kp1 ff (by decide +kernel)) hrules.1.2.2 hcode
  have nw0 : R_w0 o2.2 := R_w0_k (b_kp1 ff (by decide +kernel)) hw0
  have ncor : R_cor o2.2 := R_cor_k (b_kp1 ff (by decide +kernel)) hcor
  have nwd : R_wd o2.2 := R_wd_k (b_kp1 ff (by decide +kernel)) hwd
  have nn3 : N3 o2.2 := R_n3_k (b_kp1 ff (by decide +kernel)) hn3
  have nz0 : R_z0 o2.2 := R_z0_k (b_kp1 ff (by decide +kernel)) hz0
  have nmref : R_mref o2.2 := R_mref_k (b_kp1 ff (by decide +kernel)) hmref
  have nbnd : R_bnd (i + 8) o2.2 := R_bnd_k (b_kp1 ff (by decide +kernel)) hbnd
  exact ⟨ea, nday, ntape, nppl, nfault, nlots, nshape, ncoin, nburnt, npages, nplace, nlook, nlink, nmort, nclaim, nsign, nknow, nrules, npap, nwts, nev, nmarks, nprog, nroot, nrul, ncref, nways, nbd, ncode, nw0, ncor, nwd, nn3, nz0, npg1, nmref, nbnd⟩
theorem ff_33 {A : bM → Prop} {a : Int → Int} {i : Int} {M : bM} (hi : 0 ≤ i ∧ i + 8 ≤ 4096) (hR : R_fin i M) : lw_o33 (R_fin (i + 8)) A a M := by
  unfold lw_o33
  have hC := R_fin_C hR
  have hS := R_fin_s hR
  obtain ⟨hday, htape, hppl, hfault, hlots, hshape, hcoin, hburnt, hpages, hplace, hlook, hlink, hmort, hclaim, hsign, hknow, hrules, hpap, hwts, hev, hmarks, hprog, hroot, hrul, hcref, hways, hbd, hcode, hw0, hcor, hwd, hn3, hz0, hpg1, hmref, hbnd⟩ := hR
  exact b_wp_m (fun _ w => b_wp_m (fun _ z => ⟨z, hS⟩) w) (op_linked hlink)
theorem ff_34 {A : bM → Prop} {a : Int → Int} {i : Int} {M : bM} (hi : 0 ≤ i ∧ i + 8 ≤ 4096) (hR : R_fin i M) : lw_o34 (R_fin (i + 8)) A a M := by
  unfold lw_o34
  have hC := R_fin_C hR
  have hS := R_fin_s hR
  obtain ⟨hday, htape, hppl, hfault, hlots, hshape, hcoin, hburnt, hpages, hplace, hlook, hlink, hmort, hclaim, hsign, hknow, hrules, hpap, hwts, hev, hmarks, hprog, hroot, hrul, hcref, hways, hbd, hcode, hw0, hcor, hwd, hn3, hz0, hpg1, hmref, hbnd⟩ := hR
  refine b_wp_m (fun o w => ?_) (b_wl_wp (b_wl_and (w_X11_judge b_fr_refl) b_wl_any) (op_judge hC htape))
  have f1 := w.1.1
  have fc := w.1.2
  (try dsimp only at fc)
  refine b_wp_m (fun o2 z => ?_) (b_wl_wp (b_wl_and (w_X12_judge b_fr_refl) b_wl_any) w.2)
  have f2 := z.1.1
  have fr := z.1.2
  (try dsimp only at fr)
  have ff := fr_app f2 f1
  have ea := z.2.1
  (try dsimp only at ea)
  have ps := z.2.2
  have ntape : R_tape o2.2 := ps.2
  have nppl : R_ppl o2.2 := ps.1.1.1
  have nlots : R_lots o2.2 := ps.1.1.2.2.1
  have nburnt : R_burnt o2.2 := ps.1.1.2.2.2.2.2.2.2.2
  have npages : R_pages o2.2 := ps.1.1.2.2.2.2.2.1
  have nsign : R_sign o2.2 := ps.1.1.2.2.2.1
  have nknow : R_know o2.2 := ps.1.1.2.1
  have nrules : R_rules o2.2 := ps.1.1.2.2.2.2.2.2.1
  have npap : R_pap o2.2 := ps.1.1.2.2.2.2.1
  have nwts : R_wts o2.2 := ps.1.1.2.2.2.2.2.2.2.1
  have nev : R_ev o2.2 := ps.1.2.1
  have nmarks : R_marks o2.2 := ps.1.2.2.1.2.2
  have nprog : R_prog o2.2 := ps.1.2.2.1.2.1
  have nroot : R_root o2.2 := ps.1.2.2.2
  have npg1 : R_pg1 o2.2 := ps.1.2.2.1.1
  have nday : R_day o2.2 := R_day_k (b_kp1 ff (by decide +kernel)) hday
  have nfault : R_fault o2.2 := R_fault_k (b_kp1 ff (by decide +kernel)) hfault
  have nshape : R_shape o2.2 := R_shape_k (b_kp1 ff (by decide +kernel)) hshape
  have ncoin : R_coin o2.2 := R_coin_k (b_kp1 ff (by decide +kernel)) hcoin
  have nplace : R_place o2.2 := R_place_k (b_kp1 ff (by decide +kernel)) hplace
  have nlook : R_look o2.2 := R_look_k (b_kp1 ff (by decide +kernel)) hlook
  have nlink : R_link o2.2 := R_link_k (b_kp1 ff (by decide +kernel)) hlink
  have nmort : R_mort o2.2 := R_mort_k (b_kp1 ff (by decide +kernel)) hmort
  have nclaim : R_claim o2.2 := R_claim_k (b_kp1 ff (by decide +kernel)) hclaim
  have nrul : R_rul o2.2 := R_rul_k (b_kp1 ff (by decide +kernel)) hrul
  have ncref : R_cref o2.2 := R_cref_k (b_kp1 ff (by decide +kernel)) hcref
  have nways : R_ways o2.2 := R_ways_k (b_kp1 ff (by decide +kernel)) hways
  have nbd : R_bd o2.2 := R_bd_k (b_kp1 ff (by decide +kernel)) hbd
  have ncode : R_code o2.2 := R_code_k (b_kp1 ff (by decide +kernel)) hrules.1.2.2 hcode
  have nw0 : R_w0 o2.2 := R_w0_k (b_kp1 ff (by decide +kernel)) hw0
  have ncor : R_cor o2.2 := R_cor_k (b_kp1 ff (by decide +kernel)) hcor
  have nwd : R_wd o2.2 := R_wd_k (b_kp1 ff (by decide +kernel)) hwd
  have nn3 : N3 o2.2 := R_n3_k (b_kp1 ff (by decide +kernel)) hn3
  have nz0 : R_z0 o2.2 := R_z0_k (b_kp1 ff (by decide +kernel)) hz0
  have nmref : R_mref o2.2 := R_mref_k (b_kp1 ff (by decide +kernel)) hmref
  have nbnd : R_bnd (i + 8) o2.2 := R_bnd_k (b_kp1 ff (by decide +kernel)) hbnd
  exact ⟨ea, nday, ntape, nppl, nfault, nlots, nshape, ncoin, nburnt, npages, nplace, nlook, nlink, nmort, nclaim, nsign, nknow, nrules, npap, nwts, nev, nmarks, nprog, nroot, nrul, ncref, nways, nbd, ncode, nw0, ncor, nwd, nn3, nz0, npg1, nmref, nbnd⟩
