theorem ff_43 {A : bM → Prop} {a : Int → Int} {i : Int} {M : bM} (hi : 0 ≤ i ∧ i + 8 ≤ 4096) (hR : R_fin i M) : lw_o43 (R_fin (i + 8)) A a M := by
  unfold lw_o43
  have hC := R_fin_C hR
  have hS := R_fin_s hR
  obtain ⟨hday, htape, hppl, hfault, hlots, hshape, hcoin, hburnt, hpages, hplace, hlook, hlink, hmort, hclaim, hsign, hknow, hrules, hpap, hwts, hev, hmarks, hprog, hroot, hrul, hcref, hways, hbd, hcode, hw0, hcor, hwd, hn3, hz0, hpg1, hmref, hbnd⟩ := hR
  exact b_wp_m (fun _ w => b_wp_m (fun _ z => ⟨z, hS⟩) w) (op_claimed hrul hclaim hday)
theorem ff_44 {A : bM → Prop} {a : Int → Int} {i : Int} {M : bM} (hi : 0 ≤ i ∧ i + 8 ≤ 4096) (hR : R_fin i M) : lw_o44 (R_fin (i + 8)) A a M := by
  unfold lw_o44
  have hC := R_fin_C hR
  have hS := R_fin_s hR
  obtain ⟨hday, htape, hppl, hfault, hlots, hshape, hcoin, hburnt, hpages, hplace, hlook, hlink, hmort, hclaim, hsign, hknow, hrules, hpap, hwts, hev, hmarks, hprog, hroot, hrul, hcref, hways, hbd, hcode, hw0, hcor, hwd, hn3, hz0, hpg1, hmref, hbnd⟩ := hR
  exact b_wp_m (fun _ w => b_wp_m (fun _ z => ⟨z, hS⟩) w) (op_ruled hrul hclaim hday hlots)
theorem ff_45 {A : bM → Prop} {a : Int → Int} {i : Int} {M : bM} (hi : 0 ≤ i ∧ i + 8 ≤ 4096) (hR : R_fin i M) : lw_o45 (R_fin (i + 8)) A a M := by
  unfold lw_o45
  have hC := R_fin_C hR
  have hS := R_fin_s hR
  obtain ⟨hday, htape, hppl, hfault, hlots, hshape, hcoin, hburnt, hpages, hplace, hlook, hlink, hmort, hclaim, hsign, hknow, hrules, hpap, hwts, hev, hmarks, hprog, hroot, hrul, hcref, hways, hbd, hcode, hw0, hcor, hwd, hn3, hz0, hpg1, hmref, hbnd⟩ := hR
  refine b_wp_m (fun o w => ?_) (b_wl_wp (b_wl_and (w_X11_open b_fr_refl) b_wl_any) (op_open hC hday hclaim hcref hrul hcoin (B := 1250 * i) (by omega) hbnd))
  have f1 := w.1.1
  have fc := w.1.2
  (try dsimp only at fc)
  refine b_wp_m (fun o2 z => ?_) (b_wl_wp (b_wl_and (w_X12_open b_fr_refl) b_wl_any) w.2)
  have f2 := z.1.1
  have fr := z.1.2
  (try dsimp only at fr)
  have ff := fr_app f2 f1
  have ea := z.2.1
  (try dsimp only at ea)
  have ps := z.2.2
  have nppl : R_ppl o2.2 := ps.1.1.1
  have nlots : R_lots o2.2 := ps.1.1.2.2.1
  have ncoin : R_coin o2.2 := ps.2.2.1
  have nburnt : R_burnt o2.2 := ps.1.1.2.2.2.2.2.2.2.2
  have npages : R_pages o2.2 := ps.1.1.2.2.2.2.2.1
  have nsign : R_sign o2.2 := ps.1.1.2.2.2.1
  have nknow : R_know o2.2 := ps.1.1.2.1
  have nrules : R_rules o2.2 := ps.1.1.2.2.2.2.2.2.1
  have npap : R_pap o2.2 := ps.1.1.2.2.2.2.1
  have nwts : R_wts o2.2 := ps.1.1.2.2.2.2.2.2.2.1
  have nev : R_ev o2.2 := ps.1.2.1
  have nmarks : R_marks o2.2 := ps.1.2.2.1.2.2
  have nprog : R_prog o2.2 := ps.1.2.2.1.2.1
  have nroot : R_root o2.2 := ps.1.2.2.2
  have nrul : R_rul o2.2 := ps.2.1
  have npg1 : R_pg1 o2.2 := ps.1.2.2.1.1
  have nbnd : R_bnd (i + 8) o2.2 := fun c c0 c1 => by have := ps.2.2.2 c c0 c1; omega
  have nday : R_day o2.2 := R_day_k (b_kp1 ff (by decide +kernel)) hday
  have ntape : R_tape o2.2 := R_tape_k (b_kp1 ff (by decide +kernel)) htape
  have nfault : R_fault o2.2 := R_fault_k (b_kp1 ff (by decide +kernel)) hfault
  have nshape : R_shape o2.2 := R_shape_k (b_kp1 ff (by decide +kernel)) hshape
  have nplace : R_place o2.2 := R_place_k (b_kp1 ff (by decide +kernel)) hplace
  have nlook : R_look o2.2 := R_look_k (b_kp1 ff (by decide +kernel)) hlook
  have nlink : R_link o2.2 := R_link_k (b_kp1 ff (by decide +kernel)) hlink
  have nmort : R_mort o2.2 := R_mort_k (b_kp1 ff (by decide +kernel)) hmort
  have nclaim : R_claim o2.2 := R_claim_k (b_kp1 ff (by decide +kernel)) hclaim
  have ncref : R_cref o2.2 := R_cref_k (b_kp1 ff (by decide +kernel)) hcref
  have nways : R_ways o2.2 := R_ways_k (b_kp1 ff (by decide +kernel)) hways
  have nbd : R_bd o2.2 := R_bd_k (b_kp1 ff (by decide +kernel)) hbd
  have ncode : R_code o2.2 := R_code_k (b_kp1 ff (by decide +kernel)) hrules.1.2.2 hcode
  have nw0 : R_w0 o2.2 := R_w0_k (b_kp1 ff (by decide +kernel)) hw0
  have ncor : R_cor o2.2 := R_cor_k (b_kp1 ff (by decide +kernel)) hcor
  have nwd : R_wd o2.2 := R_wd_k (b_kp1 ff (by decide +kernel)) hwd
  have nn3 : N3 o2.2 := R_n3_k (b_kp1 ff (by decide +kernel)) hn3
  have nz0 : R_z0 o2.2 := R_z0_k (b_kp1 ff (by decide +kernel)) hz0
  have nmref : R_mref o2.2 := R_mref_k (b_kp1 ff (by decide +kernel)) hmref
  exact ⟨ea, nday, ntape, nppl, nfault, nlots, nshape, ncoin, nburnt, npages, nplace, nlook, nlink, nmort, nclaim, nsign, nknow, nrules, npap, nwts, nev, nmarks, nprog, nroot, nrul, ncref, nways, nbd, ncode, nw0, ncor, nwd, nn3, nz0, npg1, nmref, nbnd⟩
theorem ff_46 {A : bM → Prop} {a : Int → Int} {i : Int} {M : bM} (hi : 0 ≤ i ∧ i + 8 ≤ 4096) (hR : R_fin i M) : lw_o46 (R_fin (i + 8)) A a M := by
  unfold lw_o46
  have hC := R_fin_C hR
  have hS := R_fin_s hR
  obtain ⟨hday, htape, hppl, hfault, hlots, hshape, hcoin, hburnt, hpages, hplace, hlook, hlink, hmort, hclaim, hsign, hknow, hrules, hpap, hwts, hev, hmarks, hprog, hroot, hrul, hcref, hways, hbd, hcode, hw0, hcor, hwd, hn3, hz0, hpg1, hmref, hbnd⟩ := hR
  refine b_wp_m (fun o w => ?_) (b_wl_wp (b_wl_and (w_X11_fund b_fr_refl) b_wl_any) (op_fund hcoin))
  have f1 := w.1.1
  have fc := w.1.2
  (try dsimp only at fc)
  refine b_wp_m (fun o2 z => ?_) (b_wl_wp (b_wl_and (w_X12_fund b_fr_refl) b_wl_any) w.2)
  have f2 := z.1.1
  have fr := z.1.2
  (try dsimp only at fr)
  have ff := fr_app f2 f1
  have ea := z.2.1
  (try dsimp only at ea)
  have ps := z.2.2
  have ncoin : R_coin o2.2 := ps
  have nday : R_day o2.2 := R_day_k (b_kp1 ff (by decide +kernel)) hday
  have ntape : R_tape o2.2 := R_tape_k (b_kp1 ff (by decide +kernel)) htape
  have nppl : R_ppl o2.2 := R_ppl_k (b_kp1 ff (by decide +kernel)) hppl
  have nfault : R_fault o2.2 := R_fault_k (b_kp1 ff (by decide +kernel)) hfault
  have nlots : R_lots o2.2 := R_lots_k (b_kp1 ff (by decide +kernel)) hlots
  have nshape : R_shape o2.2 := R_shape_k (b_kp1 ff (by decide +kernel)) hshape
  have nburnt : R_burnt o2.2 := R_burnt_k (b_kp1 ff (by decide +kernel)) hburnt
  have npages : R_pages o2.2 := R_pages_k (b_kp1 ff (by decide +kernel)) hpages
  have nplace : R_place o2.2 := R_place_k (b_kp1 ff (by decide +kernel)) hplace
  have nlook : R_look o2.2 := R_look_k (b_kp1 ff (by decide +kernel)) hlook
  have nlink : R_link o2.2 := R_link_k (b_kp1 ff (by decide +kernel)) hlink
  have nmort : R_mort o2.2 := R_mort_k (b_kp1 ff (by decide +kernel)) hmort
  have nclaim : R_claim o2.2 := R_claim_k (b_kp1 ff (by decide +kernel)) hclaim
  have nsign : R_sign o2.2 := R_sign_k (b_kp1 ff (by decide +kernel)) hsign
  have nknow : R_know o2.2 := R_know_k (b_kp1 ff (by decide +kernel)) hknow
  have nrules : R_rules o2.2 := R_rules_k (b_kp1 ff (by decide +kernel)) hrules
  have npap : R_pap o2.2 := R_pap_k (b_kp1 ff (by decide +kernel)) hpap
  have nwts : R_wts o2.2 := R_wts_q (b_kp1 ff (by decide +kernel)) hwts
  have nev : R_ev o2.2 := R_ev_k (b_kp1 ff (by decide +kernel)) hev
  have nmarks : R_marks o2.2 := R_marks_k (b_kp1 ff (by decide +kernel)) hmarks
  have nprog : R_prog o2.2 := R_prog_k (b_kp1 ff (by decide +kernel)) hprog
  have nroot : R_root o2.2 := R_root_k (b_kp1 ff (by decide +kernel)) hroot
  have nrul : R_rul o2.2 := R_rul_k (b_kp1 ff (by decide +kernel)) hrul
  have ncref : R_cref o2.2 := R_cref_k (b_kp1 ff (by decide +kernel)) hcref
  have nways : R_ways o2.2 := R_ways_k (b_kp1 ff (by decide +kernel)) hways
  have nbd : R_bd o2.2 := R_bd_k (b_kp1 ff (by decide +kernel)) hbd
  have ncode : R_code o2.2 := R_code_k (b_kp1 ff (by decide +kernel)) hrules.1.2.2 hcode
  have nw0 : R_w0 o2.2 := R_w0_k (b_kp1 ff (by decide +kernel)) hw0
  have ncor : R_cor o2.2 := R_cor_k (b_kp1 ff (by decide +kernel)) hcor
  have nwd : R_wd o2.2 := R_wd_k (b_kp1 ff (by decide +kernel)) hwd
  have nn3 : N3 o2.2 := R_n3_k (b_kp1 ff (by decide +kernel)) hn3
  have nz0 : R_z0 o2.2 := R_z0_k (b_kp1 ff (by decide +kernel)) hz0
  have npg1 : R_pg1 o2.2 := R_pg1_k (b_kp1 ff (by decide +kernel)) hpg1
  have nmref : R_mref o2.2 := R_mref_k (b_kp1 ff (by decide +kernel)) hmref
  have nbnd : R_bnd (i + 8) o2.2 := R_bnd_k (b_kp1 ff (by decide +kernel)) hbnd
  exact ⟨ea, nday, ntape, nppl, nfault, nlots, nshape, ncoin, nburnt, npages, nplace, nlook, nlink, nmort, nclaim, nsign, nknow, nrules, npap, nwts, nev, nmarks, nprog, nroot, nrul, ncref, nways, nbd, ncode, nw0, ncor, nwd, nn3, nz0, npg1, nmref, nbnd⟩
theorem ff_47 {A : bM → Prop} {a : Int → Int} {i : Int} {M : bM} (hi : 0 ≤ i ∧ i + 8 ≤ 4096) (hR : R_fin i M) : lw_o47 (R_fin (i + 8)) A a M := by
  unfold lw_o47
  have hC := R_fin_C hR
  have hS := R_fin_s hR
  obtain ⟨hday, htape, hppl, hfault, hlots, hshape, hcoin, hburnt, hpages, hplace, hlook, hlink, hmort, hclaim, hsign, hknow, hrules, hpap, hwts, hev, hmarks, hprog, hroot, hrul, hcref, hways, hbd, hcode, hw0, hcor, hwd, hn3, hz0, hpg1, hmref, hbnd⟩ := hR
  refine b_wp_m (fun o w => ?_) (b_wl_wp (b_wl_and (w_X11_place b_fr_refl) b_wl_any) (op_place hburnt hplace hlook))
  have f1 := w.1.1
  have fc := w.1.2
  (try dsimp only at fc)
  refine b_wp_m (fun o2 z => ?_) (b_wl_wp (b_wl_and (w_X12_place b_fr_refl) b_wl_any) w.2)
  have f2 := z.1.1
  have fr := z.1.2
  (try dsimp only at fr)
  have ff := fr_app f2 f1
  have ea := z.2.1
  (try dsimp only at ea)
  have ps := z.2.2
  have nplace : R_place o2.2 := ps.1
  have nlook : R_look o2.2 := ps.2
  have nday : R_day o2.2 := R_day_k (b_kp1 ff (by decide +kernel)) hday
  have ntape : R_tape o2.2 := R_tape_k (b_kp1 ff (by decide +kernel)) htape
  have nppl : R_ppl o2.2 := R_ppl_k (b_kp1 ff (by decide +kernel)) hppl
  have nfault : R_fault o2.2 := R_fault_k (b_kp1 ff (by decide +kernel)) hfault
  have nlots : R_lots o2.2 := R_lots_k (b_kp1 ff (by decide +kernel)) hlots
  have nshape : R_shape o2.2 := R_shape_k (b_kp1 ff (by decide +kernel)) hshape
  have ncoin : R_coin o2.2 := R_coin_k (b_kp1 ff (by decide +kernel)) hcoin
  have nburnt : R_burnt o2.2 := R_burnt_k (b_kp1 ff (by decide +kernel)) hburnt
  have npages : R_pages o2.2 := R_pages_k (b_kp1 ff (by decide +kernel)) hpages
  have nlink : R_link o2.2 := R_link_k (b_kp1 ff (by decide +kernel)) hlink
  have nmort : R_mort o2.2 := R_mort_k (b_kp1 ff (by decide +kernel)) hmort
  have nclaim : R_claim o2.2 := R_claim_k (b_kp1 ff (by decide +kernel)) hclaim
  have nsign : R_sign o2.2 := R_sign_k (b_kp1 ff (by decide +kernel)) hsign
  have nknow : R_know o2.2 := R_know_k (b_kp1 ff (by decide +kernel)) hknow
  have nrules : R_rules o2.2 := R_rules_k (b_kp1 ff (by decide +kernel)) hrules
  have npap : R_pap o2.2 := R_pap_k (b_kp1 ff (by decide +kernel)) hpap
  have nwts : R_wts o2.2 := R_wts_q (b_kp1 ff (by decide +kernel)) hwts
  have nev : R_ev o2.2 := R_ev_k (b_kp1 ff (by decide +kernel)) hev
  have nmarks : R_marks o2.2 := R_marks_k (b_kp1 ff (by decide +kernel)) hmarks
  have nprog : R_prog o2.2 := R_prog_k (b_kp1 ff (by decide +kernel)) hprog
  have nroot : R_root o2.2 := R_root_k (b_kp1 ff (by decide +kernel)) hroot
  have nrul : R_rul o2.2 := R_rul_k (b_kp1 ff (by decide +kernel)) hrul
  have ncref : R_cref o2.2 := R_cref_k (b_kp1 ff (by decide +kernel)) hcref
  have nways : R_ways o2.2 := R_ways_k (b_kp1 ff (by decide +kernel)) hways
  have nbd : R_bd o2.2 := R_bd_k (b_kp1 ff (by decide +kernel)) hbd
  have ncode : R_code o2.2 := R_code_k (b_kp1 ff (by decide +kernel)) hrules.1.2.2 hcode
  have nw0 : R_w0 o2.2 := R_w0_k (b_kp1 ff (by decide +kernel)) hw0
  have ncor : R_cor o2.2 := R_cor_k (b_kp1 ff (by decide +kernel)) hcor
  have nwd : R_wd o2.2 := R_wd_k (b_kp1 ff (by decide +kernel)) hwd
  have nn3 : N3 o2.2 := R_n3_k (b_kp1 ff (by decide +kernel)) hn3
  have nz0 : R_z0 o2.2 := R_z0_k (b_kp1 ff (by decide +kernel)) hz0
  have npg1 : R_pg1 o2.2 := R_pg1_k (b_kp1 ff (by decide +kernel)) hpg1
  have nmref : R_mref o2.2 := R_mref_k (b_kp1 ff (by decide +kernel)) hmref
  have nbnd : R_bnd (i + 8) o2.2 := R_bnd_k (b_kp1 ff (by decide +kernel)) hbnd
  exact ⟨ea, nday, ntape, nppl, nfault, nlots, nshape, ncoin, nburnt, npages, nplace, nlook, nlink, nmort, nclaim, nsign, nknow, nrules, npap, nwts, nev, nmarks, nprog, nroot, nrul, ncref, nways, nbd, ncode, nw0, ncor, nwd, nn3, nz0, npg1, nmref, nbnd⟩
theorem ff_48 {A : bM → Prop} {a : Int → Int} {i : Int} {M : bM} (hi : 0 ≤ i ∧ i + 8 ≤ 4096) (hR : R_fin i M) : lw_o48 (R_fin (i + 8)) A a M := by
  unfold lw_o48
  have hC := R_fin_C hR
  have hS := R_fin_s hR
  obtain ⟨hday, htape, hppl, hfault, hlots, hshape, hcoin, hburnt, hpages, hplace, hlook, hlink, hmort, hclaim, hsign, hknow, hrules, hpap, hwts, hev, hmarks, hprog, hroot, hrul, hcref, hways, hbd, hcode, hw0, hcor, hwd, hn3, hz0, hpg1, hmref, hbnd⟩ := hR
  refine b_wp_m (fun o w => ?_) (b_wl_wp (b_wl_and (w_X11_settles b_fr_refl) b_wl_any) (op_settles hC hday hclaim hcref hrul hplace))
  have f1 := w.1.1
  have fc := w.1.2
  (try dsimp only at fc)
  refine b_wp_m (fun o2 z => ?_) (b_wl_wp (b_wl_and (w_X12_settles b_fr_refl) b_wl_any) w.2)
  have f2 := z.1.1
  have fr := z.1.2
  (try dsimp only at fr)
  have ff := fr_app f2 f1
  have ea := z.2.1
  (try dsimp only at ea)
  have ps := z.2.2
  have nppl : R_ppl o2.2 := ps.1.1
  have nlots : R_lots o2.2 := ps.1.2.2.1
  have nburnt : R_burnt o2.2 := ps.1.2.2.2.2.2.2.2.2
  have npages : R_pages o2.2 := ps.1.2.2.2.2.2.1
  have nsign : R_sign o2.2 := ps.1.2.2.2.1
  have nknow : R_know o2.2 := ps.1.2.1
  have nrules : R_rules o2.2 := ps.1.2.2.2.2.2.2.1
  have npap : R_pap o2.2 := ps.1.2.2.2.2.1
  have nwts : R_wts o2.2 := ps.1.2.2.2.2.2.2.2.1
  have nev : R_ev o2.2 := ps.2.1
  have nmarks : R_marks o2.2 := ps.2.2.1.2.2
  have nprog : R_prog o2.2 := ps.2.2.1.2.1
  have nroot : R_root o2.2 := ps.2.2.2
  have npg1 : R_pg1 o2.2 := ps.2.2.1.1
  have nday : R_day o2.2 := R_day_k (b_kp1 ff (by decide +kernel)) hday
  have ntape : R_tape o2.2 := R_tape_k (b_kp1 ff (by decide +kernel)) htape
  have nfault : R_fault o2.2 := R_fault_k (b_kp1 ff (by decide +kernel)) hfault
  have nshape : R_shape o2.2 := R_shape_k (b_kp1 ff (by decide +kernel)) hshape
  have ncoin : R_coin o2.2 := R_coin_k (b_kp1 ff (by decide +kernel)) hcoin
  have nplace : R_place o2.2 := R_place_k (b_kp1 ff (by decide +kernel)) hplace
  have nlook : R_look o2.2 := R_look_k (b_kp1 ff (by decide +kernel)) hlook
  have nlink : R_link o2.2 := R_link_k (b_kp1 ff (by decide +kernel)) hlink
  have nmort : R_mort o2.2 := R_mort_k (b_kp1 ff (by decide +kernel)) hmort
  have nclaim : R_claim o2.2 := R_claim_k (b_kp1 ff (by decide +kernel)) hclaim
  have nrul : R_rul o2.2 := R_rul_k (b_kp1 ff (by decide +kernel)) hrul
  have ncref : R_cref o2.2 := R_cref_k (b_kp1 ff (by decide +kernel)) hcref
  have nways : R_ways o2.2 := R_ways_k (b_kp1 ff (by decide +kernel)) hways
  have nbd : R_bd o2.2 := R_bd_k (b_kp1 ff (by decide +kernel)) hbd
  have ncode : R_code o2.2 := R_code_k (b_kp1 ff (by decide +kernel)) hrules.1.2.2 hcode
  have nw0 : R_w0 o2.2 := R_w0_k (b_kp1 ff (by decide +kernel)) hw0
  have ncor : R_cor o2.2 := R_cor_k (b_kp1 ff (by decide +kernel)) hcor
  have nwd : R_wd o2.2 := R_wd_k (b_kp1 ff (by decide +kernel)) hwd
  have nn3 : N3 o2.2 := R_n3_k (b_kp1 ff (by decide +kernel)) hn3
  have nz0 : R_z0 o2.2 := R_z0_k (b_kp1 ff (by decide +kernel)) hz0
  have nmref : R_mref o2.2 := R_mref_k (b_kp1 ff (by decide +kernel)) hmref
  have nbnd : R_bnd (i + 8) o2.2 := R_bnd_k (b_kp1 ff (by decide +kernel)) hbnd
  exact ⟨ea, nday, ntape, nppl, nfault, nlots, nshape, ncoin, nburnt, npages, nplace, nlook, nlink, nmort, nclaim, nsign, nknow, nrules, npap, nwts, nev, nmarks, nprog, nroot, nrul, ncref, nways, nbd, ncode, nw0, ncor, nwd, nn3, nz0, npg1, nmref, nbnd⟩
theorem ff_49 {A : bM → Prop} {a : Int → Int} {i : Int} {M : bM} (hi : 0 ≤ i ∧ i + 8 ≤ 4096) (hR : R_fin i M) : lw_o49 (R_fin (i + 8)) A a M := by
  unfold lw_o49
  have hC := R_fin_C hR
  have hS := R_fin_s hR
  obtain ⟨hday, htape, hppl, hfault, hlots, hshape, hcoin, hburnt, hpages, hplace, hlook, hlink, hmort, hclaim, hsign, hknow, hrules, hpap, hwts, hev, hmarks, hprog, hroot, hrul, hcref, hways, hbd, hcode, hw0, hcor, hwd, hn3, hz0, hpg1, hmref, hbnd⟩ := hR
  refine b_wp_m (fun o w => ?_) (b_wl_wp (b_wl_and (w_X11_next b_fr_refl) b_wl_any) (op_next hC hday hclaim hcref hrul hplace hlook))
  have f1 := w.1.1
  have fc := w.1.2
  (try dsimp only at fc)
  refine b_wp_m (fun o2 z => ?_) (b_wl_wp (b_wl_and (w_X12_next b_fr_refl) b_wl_any) w.2)
  have f2 := z.1.1
  have fr := z.1.2
  (try dsimp only at fr)
  have ff := fr_app f2 f1
  have ea := z.2.1
  (try dsimp only at ea)
  have ps := z.2.2
  have nppl : R_ppl o2.2 := ps.1.1.1
  have nlots : R_lots o2.2 := ps.1.1.2.2.1
  have nburnt : R_burnt o2.2 := ps.1.1.2.2.2.2.2.2.2.2
  have npages : R_pages o2.2 := ps.1.1.2.2.2.2.2.1
  have nlook : R_look o2.2 := ps.2
  have nsign : R_sign o2.2 := ps.1.1.2.2.2.1
  have nknow : R_know o2.2 := ps.1.1.2.1
  have nrules : R_rules o2.2 := ps.1.1.2.2.2.2.2.2.1
  have npap : R_pap o2.2 := ps.1.1.2.2.2.2.1
  have nwts : R_wts o2.2 := ps.1.1.2.2.2.2.2.2.2.1
  have nev : R_ev o2.2 := ps.1.2.1
  have nmarks : R_marks o2.2 := ps.1.2.2.1.2.2
  have nprog : R_prog o2.2 := ps.1.2.2.1.2.1
  have nroot : R_root o2.2 := ps.1.2.2.2
  have npg1 : R_pg1 o2.2 := ps.1.2.2.1.1
  have nday : R_day o2.2 := R_day_k (b_kp1 ff (by decide +kernel)) hday
  have ntape : R_tape o2.2 := R_tape_k (b_kp1 ff (by decide +kernel)) htape
  have nfault : R_fault o2.2 := R_fault_k (b_kp1 ff (by decide +kernel)) hfault
  have nshape : R_shape o2.2 := R_shape_k (b_kp1 ff (by decide +kernel)) hshape
  have ncoin : R_coin o2.2 := R_coin_k (b_kp1 ff (by decide +kernel)) hcoin
  have nplace : R_place o2.2 := R_place_k (b_kp1 ff (by decide +kernel)) hplace
  have nlink : R_link o2.2 := R_link_k (b_kp1 ff (by decide +kernel)) hlink
  have nmort : R_mort o2.2 := R_mort_k (b_kp1 ff (by decide +kernel)) hmort
  have nclaim : R_claim o2.2 := R_claim_k (b_kp1 ff (by decide +kernel)) hclaim
  have nrul : R_rul o2.2 := R_rul_k (b_kp1 ff (by decide +kernel)) hrul
  have ncref : R_cref o2.2 := R_cref_k (b_kp1 ff (by decide +kernel)) hcref
  have nways : R_ways o2.2 := R_ways_k (b_kp1 ff (by decide +kernel)) hways
  have nbd : R_bd o2.2 := R_bd_k (b_kp1 ff (by decide +kernel)) hbd
  have ncode : R_code o2.2 := R_code_k (b_kp1 ff (by decide +kernel)) hrules.1.2.2 hcode
  have nw0 : R_w0 o2.2 := R_w0_k (b_kp1 ff (by decide +kernel)) hw0
  have ncor : R_cor o2.2 := R_cor_k (b_kp1 ff (by decide +kernel)) hcor
  have nwd : R_wd o2.2 := R_wd_k (b_kp1 ff (by decide +kernel)) hwd
  have nn3 : N3 o2.2 := R_n3_k (b_kp1 ff (by decide +kernel)) hn3
  have nz0 : R_z0 o2.2 := R_z0_k (b_kp1 ff (by decide +kernel)) hz0
  have nmref : R_mref o2.2 := R_mref_k (b_kp1 ff (by decide +kernel)) hmref
  have nbnd : R_bnd (i + 8) o2.2 := R_bnd_k (b_kp1 ff (by decide +kernel)) hbnd
  exact ⟨ea, nday, ntape, nppl, nfault, nlots, nshape, ncoin, nburnt, npages, nplace, nlook, nlink, nmort, nclaim, nsign, nknow, nrules, npap, nwts, nev, nmarks, nprog, nroot, nrul, ncref, nways, nbd, ncode, nw0, ncor, nwd, nn3, nz0, npg1, nmref, nbnd⟩
theorem ff_50 {A : bM → Prop} {a : Int → Int} {i : Int} {M : bM} (hi : 0 ≤ i ∧ i + 8 ≤ 4096) (hR : R_fin i M) : lw_o50 (R_fin (i + 8)) A a M := by
  unfold lw_o50
  have hC := R_fin_C hR
  have hS := R_fin_s hR
  obtain ⟨hday, htape, hppl, hfault, hlots, hshape, hcoin, hburnt, hpages, hplace, hlook, hlink, hmort, hclaim, hsign, hknow, hrules, hpap, hwts, hev, hmarks, hprog, hroot, hrul, hcref, hways, hbd, hcode, hw0, hcor, hwd, hn3, hz0, hpg1, hmref, hbnd⟩ := hR
  exact b_wp_m (fun _ w => b_wp_m (fun _ z => ⟨z, hS⟩) w) (op_looked hlook)
theorem ff_51 {A : bM → Prop} {a : Int → Int} {i : Int} {M : bM} (hi : 0 ≤ i ∧ i + 8 ≤ 4096) (hR : R_fin i M) : lw_o51 (R_fin (i + 8)) A a M := by
  unfold lw_o51
  have hC := R_fin_C hR
  have hS := R_fin_s hR
  obtain ⟨hday, htape, hppl, hfault, hlots, hshape, hcoin, hburnt, hpages, hplace, hlook, hlink, hmort, hclaim, hsign, hknow, hrules, hpap, hwts, hev, hmarks, hprog, hroot, hrul, hcref, hways, hbd, hcode, hw0, hcor, hwd, hn3, hz0, hpg1, hmref, hbnd⟩ := hR
  exact b_wp_m (fun _ w => b_wp_m (fun _ z => ⟨z, hS⟩) w) (op_count hrul hclaim hday hppl hlots hrules hburnt hsign hmort hcoin hplace htape)
