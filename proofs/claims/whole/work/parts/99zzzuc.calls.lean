theorem ff_16 {A : bM → Prop} {a : Int → Int} {i : Int} {M : bM} (hi : 0 ≤ i ∧ i + 8 ≤ 4096) (hR : R_fin i M) : lw_o16 (R_fin (i + 8)) A a M := by
  unfold lw_o16
  have hC := R_fin_C hR
  have hS := R_fin_s hR
  obtain ⟨hday, htape, hppl, hfault, hlots, hshape, hcoin, hburnt, hpages, hplace, hlook, hlink, hmort, hclaim, hsign, hknow, hrules, hpap, hwts, hev, hmarks, hprog, hroot, hrul, hcref, hways, hbd, hcode, hw0, hcor, hwd, hn3, hz0, hpg1, hmref, hbnd⟩ := hR
  refine b_wp_m (fun o w => ?_) (b_wl_wp (b_wl_and (w_X11_bounds b_fr_refl) b_wl_any) (op_bounds hlots hshape hbd htape hfault hways))
  have f1 := w.1.1
  have fc := w.1.2
  (try dsimp only at fc)
  refine b_wp_m (fun o2 z => ?_) (b_wl_wp (b_wl_and (w_X12_bounds b_fr_refl) (fr_bounds)) w.2)
  have f2 := z.1.1
  have fr := z.1.2
  (try dsimp only at fr)
  have ff := fr_app f2 f1
  have ea := z.2.1
  (try dsimp only at ea)
  have ps := z.2.2
  have ntape : R_tape o2.2 := ps.2.2.1
  have nfault : R_fault o2.2 := ps.2.2.2
  have nshape : R_shape o2.2 := ps.1
  have nbd : R_bd o2.2 := ps.2.1
  have nday : R_day o2.2 := R_day_k (b_kp1 ff (by decide +kernel)) hday
  have nppl : R_ppl o2.2 := R_ppl_k (b_kp1 ff (by decide +kernel)) hppl
  have nlots : R_lots o2.2 := R_lots_k (b_kp1 ff (by decide +kernel)) hlots
  have ncoin : R_coin o2.2 := R_coin_k (b_kp1 ff (by decide +kernel)) hcoin
  have nburnt : R_burnt o2.2 := R_burnt_k (b_kp1 ff (by decide +kernel)) hburnt
  have npages : R_pages o2.2 := R_pages_k (b_kp1 ff (by decide +kernel)) hpages
  have nplace : R_place o2.2 := R_place_k (b_kp1 ff (by decide +kernel)) hplace
  have nlook : R_look o2.2 := R_look_k (b_kp1 ff (by decide +kernel)) hlook
  have nlink : R_link o2.2 := R_link_k (b_kp1 ff (by decide +kernel)) hlink
  have nmort : R_mort o2.2 := R_mort_k (b_kp1 ff (by decide +kernel)) hmort
  have nclaim : R_claim o2.2 := R_claim_k (b_kp1 ff (by decide +kernel)) hclaim
  have nsign : R_sign o2.2 := R_sign_k (b_kp1 ff (by decide +kernel)) hsign
  have nknow : R_know o2.2 := R_know_k (b_kp1 ff (by decide +kernel)) hknow
  have nrules : R_rules o2.2 := R_rules_k (b_kp1 ff (by decide +kernel)) hrules
  have npap : R_pap o2.2 := R_pap_k (b_kp1 ff (by decide +kernel)) hpap
  have nwts : R_wts o2.2 := R_wts_q (b_kp1 ff (by decide +kernel)) hwts
  have nev : R_ev o2.2 := R_ev_k (b_kp1 ff (by decide +kernel)) hev
  have nmarks : R_marks o2.2 := R_marks_k (b_kp1 ff (by decide +kernel)) hmarks
  have nprog : R_prog o2.2 := R_prog_k (b_kp1 ff (by decide +kernel)) hprog
  have nroot : R_root o2.2 := R_root_k (b_kp1 ff (by decide +kernel)) hroot
  have nrul : R_rul o2.2 := R_rul_k (b_kp1 ff (by decide +kernel)) hrul
  have ncref : R_cref o2.2 := R_cref_k (b_kp1 ff (by decide +kernel)) hcref
  have nways : R_ways o2.2 := R_ways_k (b_kp1 ff (by decide +kernel)) hways
  have ncode : R_code o2.2 := R_code_k (b_kp1 ff (by decide +kernel)) hrules.1.2.2 hcode
  have nw0 : R_w0 o2.2 := R_w0_k (b_kp1 ff (by decide +kernel)) hw0
  have ncor : R_cor o2.2 := cor_mono hshape nshape (fun c => by rw [← f1 176 c rfl, ← f1 177 c rfl]; exact fr c) hcor
  have nwd : R_wd o2.2 := R_wd_k (b_kp1 ff (by decide +kernel)) hwd
  have nn3 : N3 o2.2 := R_n3_k (b_kp1 ff (by decide +kernel)) hn3
  have nz0 : R_z0 o2.2 := R_z0_k (b_kp1 ff (by decide +kernel)) hz0
  have npg1 : R_pg1 o2.2 := R_pg1_k (b_kp1 ff (by decide +kernel)) hpg1
  have nmref : R_mref o2.2 := R_mref_k (b_kp1 ff (by decide +kernel)) hmref
  have nbnd : R_bnd (i + 8) o2.2 := R_bnd_k (b_kp1 ff (by decide +kernel)) hbnd
  exact ⟨ea, nday, ntape, nppl, nfault, nlots, nshape, ncoin, nburnt, npages, nplace, nlook, nlink, nmort, nclaim, nsign, nknow, nrules, npap, nwts, nev, nmarks, nprog, nroot, nrul, ncref, nways, nbd, ncode, nw0, ncor, nwd, nn3, nz0, npg1, nmref, nbnd⟩
theorem ff_17 {A : bM → Prop} {a : Int → Int} {i : Int} {M : bM} (hi : 0 ≤ i ∧ i + 8 ≤ 4096) (hR : R_fin i M) : lw_o17 (R_fin (i + 8)) A a M := by
  unfold lw_o17
  have hC := R_fin_C hR
  have hS := R_fin_s hR
  obtain ⟨hday, htape, hppl, hfault, hlots, hshape, hcoin, hburnt, hpages, hplace, hlook, hlink, hmort, hclaim, hsign, hknow, hrules, hpap, hwts, hev, hmarks, hprog, hroot, hrul, hcref, hways, hbd, hcode, hw0, hcor, hwd, hn3, hz0, hpg1, hmref, hbnd⟩ := hR
  exact b_wp_m (fun _ w => b_wp_m (fun _ z => ⟨z, hS⟩) w) (op_error hlots hshape)
theorem ff_18 {A : bM → Prop} {a : Int → Int} {i : Int} {M : bM} (hi : 0 ≤ i ∧ i + 8 ≤ 4096) (hR : R_fin i M) : lw_o18 (R_fin (i + 8)) A a M := by
  unfold lw_o18
  have hC := R_fin_C hR
  have hS := R_fin_s hR
  obtain ⟨hday, htape, hppl, hfault, hlots, hshape, hcoin, hburnt, hpages, hplace, hlook, hlink, hmort, hclaim, hsign, hknow, hrules, hpap, hwts, hev, hmarks, hprog, hroot, hrul, hcref, hways, hbd, hcode, hw0, hcor, hwd, hn3, hz0, hpg1, hmref, hbnd⟩ := hR
  refine b_wp_m (fun o w => ?_) (b_wl_wp (b_wl_and (w_X11_mend b_fr_refl) b_wl_any) (op_mend hlots hshape hbd))
  have f1 := w.1.1
  have fc := w.1.2
  (try dsimp only at fc)
  refine b_wp_m (fun o2 z => ?_) (b_wl_wp (b_wl_and (w_X12_mend b_fr_refl) b_wl_any) w.2)
  have f2 := z.1.1
  have fr := z.1.2
  (try dsimp only at fr)
  have ff := fr_app f2 f1
  have ea := z.2.1
  (try dsimp only at ea)
  have ps := z.2.2
  have nshape : R_shape o2.2 := ps.1
  have nbd : R_bd o2.2 := ps.2
  have nday : R_day o2.2 := R_day_k (b_kp1 ff (by decide +kernel)) hday
  have ntape : R_tape o2.2 := R_tape_k (b_kp1 ff (by decide +kernel)) htape
  have nppl : R_ppl o2.2 := R_ppl_k (b_kp1 ff (by decide +kernel)) hppl
  have nfault : R_fault o2.2 := R_fault_k (b_kp1 ff (by decide +kernel)) hfault
  have nlots : R_lots o2.2 := R_lots_k (b_kp1 ff (by decide +kernel)) hlots
  have ncoin : R_coin o2.2 := R_coin_k (b_kp1 ff (by decide +kernel)) hcoin
  have nburnt : R_burnt o2.2 := R_burnt_k (b_kp1 ff (by decide +kernel)) hburnt
  have npages : R_pages o2.2 := R_pages_k (b_kp1 ff (by decide +kernel)) hpages
  have nplace : R_place o2.2 := R_place_k (b_kp1 ff (by decide +kernel)) hplace
  have nlook : R_look o2.2 := R_look_k (b_kp1 ff (by decide +kernel)) hlook
  have nlink : R_link o2.2 := R_link_k (b_kp1 ff (by decide +kernel)) hlink
  have nmort : R_mort o2.2 := R_mort_k (b_kp1 ff (by decide +kernel)) hmort
  have nclaim : R_claim o2.2 := R_claim_k (b_kp1 ff (by decide +kernel)) hclaim
  have nsign : R_sign o2.2 := R_sign_k (b_kp1 ff (by decide +kernel)) hsign
  have nknow : R_know o2.2 := R_know_k (b_kp1 ff (by decide +kernel)) hknow
  have nrules : R_rules o2.2 := R_rules_k (b_kp1 ff (by decide +kernel)) hrules
  have npap : R_pap o2.2 := R_pap_k (b_kp1 ff (by decide +kernel)) hpap
  have nwts : R_wts o2.2 := R_wts_q (b_kp1 ff (by decide +kernel)) hwts
  have nev : R_ev o2.2 := R_ev_k (b_kp1 ff (by decide +kernel)) hev
  have nmarks : R_marks o2.2 := R_marks_k (b_kp1 ff (by decide +kernel)) hmarks
  have nprog : R_prog o2.2 := R_prog_k (b_kp1 ff (by decide +kernel)) hprog
  have nroot : R_root o2.2 := R_root_k (b_kp1 ff (by decide +kernel)) hroot
  have nrul : R_rul o2.2 := R_rul_k (b_kp1 ff (by decide +kernel)) hrul
  have ncref : R_cref o2.2 := R_cref_k (b_kp1 ff (by decide +kernel)) hcref
  have nways : R_ways o2.2 := R_ways_k (b_kp1 ff (by decide +kernel)) hways
  have ncode : R_code o2.2 := R_code_k (b_kp1 ff (by decide +kernel)) hrules.1.2.2 hcode
  have nw0 : R_w0 o2.2 := R_w0_k (b_kp1 ff (by decide +kernel)) hw0
  have ncor : R_cor o2.2 := R_cor_k (b_kp1 ff (by decide +kernel)) hcor
  have nwd : R_wd o2.2 := R_wd_k (b_kp1 ff (by decide +kernel)) hwd
  have nn3 : N3 o2.2 := R_n3_k (b_kp1 ff (by decide +kernel)) hn3
  have nz0 : R_z0 o2.2 := R_z0_k (b_kp1 ff (by decide +kernel)) hz0
  have npg1 : R_pg1 o2.2 := R_pg1_k (b_kp1 ff (by decide +kernel)) hpg1
  have nmref : R_mref o2.2 := R_mref_k (b_kp1 ff (by decide +kernel)) hmref
  have nbnd : R_bnd (i + 8) o2.2 := R_bnd_k (b_kp1 ff (by decide +kernel)) hbnd
  exact ⟨ea, nday, ntape, nppl, nfault, nlots, nshape, ncoin, nburnt, npages, nplace, nlook, nlink, nmort, nclaim, nsign, nknow, nrules, npap, nwts, nev, nmarks, nprog, nroot, nrul, ncref, nways, nbd, ncode, nw0, ncor, nwd, nn3, nz0, npg1, nmref, nbnd⟩
theorem ff_19 {A : bM → Prop} {a : Int → Int} {i : Int} {M : bM} (hi : 0 ≤ i ∧ i + 8 ≤ 4096) (hR : R_fin i M) : lw_o19 (R_fin (i + 8)) A a M := by
  unfold lw_o19
  have hC := R_fin_C hR
  have hS := R_fin_s hR
  obtain ⟨hday, htape, hppl, hfault, hlots, hshape, hcoin, hburnt, hpages, hplace, hlook, hlink, hmort, hclaim, hsign, hknow, hrules, hpap, hwts, hev, hmarks, hprog, hroot, hrul, hcref, hways, hbd, hcode, hw0, hcor, hwd, hn3, hz0, hpg1, hmref, hbnd⟩ := hR
  refine b_wp_m (fun o w => ?_) (b_wl_wp (b_wl_and (w_X11_area b_fr_refl) b_wl_any) (op_area hlots hshape hbd hcor))
  have f1 := w.1.1
  have fc := w.1.2
  (try dsimp only at fc)
  refine b_wp_m (fun o2 z => ?_) (b_wl_wp (b_wl_and (w_X12_area b_fr_refl) b_wl_any) w.2)
  have f2 := z.1.1
  have fr := z.1.2
  (try dsimp only at fr)
  have ff := fr_app f2 f1
  have ea := z.2
  (try dsimp only at ea)
  have nday : R_day o2.2 := R_day_k (b_kp1 ff (by decide +kernel)) hday
  have ntape : R_tape o2.2 := R_tape_k (b_kp1 ff (by decide +kernel)) htape
  have nppl : R_ppl o2.2 := R_ppl_k (b_kp1 ff (by decide +kernel)) hppl
  have nfault : R_fault o2.2 := R_fault_k (b_kp1 ff (by decide +kernel)) hfault
  have nlots : R_lots o2.2 := R_lots_k (b_kp1 ff (by decide +kernel)) hlots
  have nshape : R_shape o2.2 := R_shape_k (b_kp1 ff (by decide +kernel)) hshape
  have ncoin : R_coin o2.2 := R_coin_k (b_kp1 ff (by decide +kernel)) hcoin
  have nburnt : R_burnt o2.2 := R_burnt_k (b_kp1 ff (by decide +kernel)) hburnt
  have npages : R_pages o2.2 := R_pages_k (b_kp1 ff (by decide +kernel)) hpages
  have nplace : R_place o2.2 := R_place_k (b_kp1 ff (by decide +kernel)) hplace
  have nlook : R_look o2.2 := R_look_k (b_kp1 ff (by decide +kernel)) hlook
  have nlink : R_link o2.2 := R_link_k (b_kp1 ff (by decide +kernel)) hlink
  have nmort : R_mort o2.2 := R_mort_k (b_kp1 ff (by decide +kernel)) hmort
  have nclaim : R_claim o2.2 := R_claim_k (b_kp1 ff (by decide +kernel)) hclaim
  have nsign : R_sign o2.2 := R_sign_k (b_kp1 ff (by decide +kernel)) hsign
  have nknow : R_know o2.2 := R_know_k (b_kp1 ff (by decide +kernel)) hknow
  have nrules : R_rules o2.2 := R_rules_k (b_kp1 ff (by decide +kernel)) hrules
  have npap : R_pap o2.2 := R_pap_k (b_kp1 ff (by decide +kernel)) hpap
  have nwts : R_wts o2.2 := R_wts_q (b_kp1 ff (by decide +kernel)) hwts
  have nev : R_ev o2.2 := R_ev_k (b_kp1 ff (by decide +kernel)) hev
  have nmarks : R_marks o2.2 := R_marks_k (b_kp1 ff (by decide +kernel)) hmarks
  have nprog : R_prog o2.2 := R_prog_k (b_kp1 ff (by decide +kernel)) hprog
  have nroot : R_root o2.2 := R_root_k (b_kp1 ff (by decide +kernel)) hroot
  have nrul : R_rul o2.2 := R_rul_k (b_kp1 ff (by decide +kernel)) hrul
  have ncref : R_cref o2.2 := R_cref_k (b_kp1 ff (by decide +kernel)) hcref
  have nways : R_ways o2.2 := R_ways_k (b_kp1 ff (by decide +kernel)) hways
  have nbd : R_bd o2.2 := R_bd_k (b_kp1 ff (by decide +kernel)) hbd
  have ncode : R_code o2.2 := R_code_k (b_kp1 ff (by decide +kernel)) hrules.1.2.2 hcode
  have nw0 : R_w0 o2.2 := R_w0_k (b_kp1 ff (by decide +kernel)) hw0
  have ncor : R_cor o2.2 := R_cor_k (b_kp1 ff (by decide +kernel)) hcor
  have nwd : R_wd o2.2 := R_wd_k (b_kp1 ff (by decide +kernel)) hwd
  have nn3 : N3 o2.2 := R_n3_k (b_kp1 ff (by decide +kernel)) hn3
  have nz0 : R_z0 o2.2 := R_z0_k (b_kp1 ff (by decide +kernel)) hz0
  have npg1 : R_pg1 o2.2 := R_pg1_k (b_kp1 ff (by decide +kernel)) hpg1
  have nmref : R_mref o2.2 := R_mref_k (b_kp1 ff (by decide +kernel)) hmref
  have nbnd : R_bnd (i + 8) o2.2 := R_bnd_k (b_kp1 ff (by decide +kernel)) hbnd
  exact ⟨ea, nday, ntape, nppl, nfault, nlots, nshape, ncoin, nburnt, npages, nplace, nlook, nlink, nmort, nclaim, nsign, nknow, nrules, npap, nwts, nev, nmarks, nprog, nroot, nrul, ncref, nways, nbd, ncode, nw0, ncor, nwd, nn3, nz0, npg1, nmref, nbnd⟩
theorem ff_20 {A : bM → Prop} {a : Int → Int} {i : Int} {M : bM} (hi : 0 ≤ i ∧ i + 8 ≤ 4096) (hR : R_fin i M) : lw_o20 (R_fin (i + 8)) A a M := by
  unfold lw_o20
  have hC := R_fin_C hR
  have hS := R_fin_s hR
  obtain ⟨hday, htape, hppl, hfault, hlots, hshape, hcoin, hburnt, hpages, hplace, hlook, hlink, hmort, hclaim, hsign, hknow, hrules, hpap, hwts, hev, hmarks, hprog, hroot, hrul, hcref, hways, hbd, hcode, hw0, hcor, hwd, hn3, hz0, hpg1, hmref, hbnd⟩ := hR
  refine b_wp_m (fun o w => ?_) (b_wl_wp (b_wl_and (w_X11_strip b_fr_refl) b_wl_any) (op_strip hlots hshape hbd hcor))
  have f1 := w.1.1
  have fc := w.1.2
  (try dsimp only at fc)
  refine b_wp_m (fun o2 z => ?_) (b_wl_wp (b_wl_and (w_X12_strip b_fr_refl) b_wl_any) w.2)
  have f2 := z.1.1
  have fr := z.1.2
  (try dsimp only at fr)
  have ff := fr_app f2 f1
  have ea := z.2
  (try dsimp only at ea)
  have nday : R_day o2.2 := R_day_k (b_kp1 ff (by decide +kernel)) hday
  have ntape : R_tape o2.2 := R_tape_k (b_kp1 ff (by decide +kernel)) htape
  have nppl : R_ppl o2.2 := R_ppl_k (b_kp1 ff (by decide +kernel)) hppl
  have nfault : R_fault o2.2 := R_fault_k (b_kp1 ff (by decide +kernel)) hfault
  have nlots : R_lots o2.2 := R_lots_k (b_kp1 ff (by decide +kernel)) hlots
  have nshape : R_shape o2.2 := R_shape_k (b_kp1 ff (by decide +kernel)) hshape
  have ncoin : R_coin o2.2 := R_coin_k (b_kp1 ff (by decide +kernel)) hcoin
  have nburnt : R_burnt o2.2 := R_burnt_k (b_kp1 ff (by decide +kernel)) hburnt
  have npages : R_pages o2.2 := R_pages_k (b_kp1 ff (by decide +kernel)) hpages
  have nplace : R_place o2.2 := R_place_k (b_kp1 ff (by decide +kernel)) hplace
  have nlook : R_look o2.2 := R_look_k (b_kp1 ff (by decide +kernel)) hlook
  have nlink : R_link o2.2 := R_link_k (b_kp1 ff (by decide +kernel)) hlink
  have nmort : R_mort o2.2 := R_mort_k (b_kp1 ff (by decide +kernel)) hmort
  have nclaim : R_claim o2.2 := R_claim_k (b_kp1 ff (by decide +kernel)) hclaim
  have nsign : R_sign o2.2 := R_sign_k (b_kp1 ff (by decide +kernel)) hsign
  have nknow : R_know o2.2 := R_know_k (b_kp1 ff (by decide +kernel)) hknow
  have nrules : R_rules o2.2 := R_rules_k (b_kp1 ff (by decide +kernel)) hrules
  have npap : R_pap o2.2 := R_pap_k (b_kp1 ff (by decide +kernel)) hpap
  have nwts : R_wts o2.2 := R_wts_q (b_kp1 ff (by decide +kernel)) hwts
  have nev : R_ev o2.2 := R_ev_k (b_kp1 ff (by decide +kernel)) hev
  have nmarks : R_marks o2.2 := R_marks_k (b_kp1 ff (by decide +kernel)) hmarks
  have nprog : R_prog o2.2 := R_prog_k (b_kp1 ff (by decide +kernel)) hprog
  have nroot : R_root o2.2 := R_root_k (b_kp1 ff (by decide +kernel)) hroot
  have nrul : R_rul o2.2 := R_rul_k (b_kp1 ff (by decide +kernel)) hrul
  have ncref : R_cref o2.2 := R_cref_k (b_kp1 ff (by decide +kernel)) hcref
  have nways : R_ways o2.2 := R_ways_k (b_kp1 ff (by decide +kernel)) hways
  have nbd : R_bd o2.2 := R_bd_k (b_kp1 ff (by decide +kernel)) hbd
  have ncode : R_code o2.2 := R_code_k (b_kp1 ff (by decide +kernel)) hrules.1.2.2 hcode
  have nw0 : R_w0 o2.2 := R_w0_k (b_kp1 ff (by decide +kernel)) hw0
  have ncor : R_cor o2.2 := R_cor_k (b_kp1 ff (by decide +kernel)) hcor
  have nwd : R_wd o2.2 := R_wd_k (b_kp1 ff (by decide +kernel)) hwd
  have nn3 : N3 o2.2 := R_n3_k (b_kp1 ff (by decide +kernel)) hn3
  have nz0 : R_z0 o2.2 := R_z0_k (b_kp1 ff (by decide +kernel)) hz0
  have npg1 : R_pg1 o2.2 := R_pg1_k (b_kp1 ff (by decide +kernel)) hpg1
  have nmref : R_mref o2.2 := R_mref_k (b_kp1 ff (by decide +kernel)) hmref
  have nbnd : R_bnd (i + 8) o2.2 := R_bnd_k (b_kp1 ff (by decide +kernel)) hbnd
  exact ⟨ea, nday, ntape, nppl, nfault, nlots, nshape, ncoin, nburnt, npages, nplace, nlook, nlink, nmort, nclaim, nsign, nknow, nrules, npap, nwts, nev, nmarks, nprog, nroot, nrul, ncref, nways, nbd, ncode, nw0, ncor, nwd, nn3, nz0, npg1, nmref, nbnd⟩
theorem ff_22 {A : bM → Prop} {a : Int → Int} {i : Int} {M : bM} (hi : 0 ≤ i ∧ i + 8 ≤ 4096) (hR : R_fin i M) : lw_o22 (R_fin (i + 8)) A a M := by
  unfold lw_o22
  have hC := R_fin_C hR
  have hS := R_fin_s hR
  obtain ⟨hday, htape, hppl, hfault, hlots, hshape, hcoin, hburnt, hpages, hplace, hlook, hlink, hmort, hclaim, hsign, hknow, hrules, hpap, hwts, hev, hmarks, hprog, hroot, hrul, hcref, hways, hbd, hcode, hw0, hcor, hwd, hn3, hz0, hpg1, hmref, hbnd⟩ := hR
  exact b_wp_m (fun _ w => b_wp_m (fun _ z => ⟨z, hS⟩) w) (op_fault hfault)
theorem ff_23 {A : bM → Prop} {a : Int → Int} {i : Int} {M : bM} (hi : 0 ≤ i ∧ i + 8 ≤ 4096) (hR : R_fin i M) : lw_o23 (R_fin (i + 8)) A a M := by
  unfold lw_o23
  have hC := R_fin_C hR
  have hS := R_fin_s hR
  obtain ⟨hday, htape, hppl, hfault, hlots, hshape, hcoin, hburnt, hpages, hplace, hlook, hlink, hmort, hclaim, hsign, hknow, hrules, hpap, hwts, hev, hmarks, hprog, hroot, hrul, hcref, hways, hbd, hcode, hw0, hcor, hwd, hn3, hz0, hpg1, hmref, hbnd⟩ := hR
  exact b_wp_m (fun _ w => b_wp_m (fun _ z => ⟨z, hS⟩) w) (op_rule hrules)
theorem ff_24 {A : bM → Prop} {a : Int → Int} {i : Int} {M : bM} (hi : 0 ≤ i ∧ i + 8 ≤ 4096) (hR : R_fin i M) : lw_o24 (R_fin (i + 8)) A a M := by
  unfold lw_o24
  have hC := R_fin_C hR
  have hS := R_fin_s hR
  obtain ⟨hday, htape, hppl, hfault, hlots, hshape, hcoin, hburnt, hpages, hplace, hlook, hlink, hmort, hclaim, hsign, hknow, hrules, hpap, hwts, hev, hmarks, hprog, hroot, hrul, hcref, hways, hbd, hcode, hw0, hcor, hwd, hn3, hz0, hpg1, hmref, hbnd⟩ := hR
  refine b_wp_m (fun o w => ?_) (b_wl_wp (b_wl_and (w_X11_burnt b_fr_refl) fa_burnt) (op_burnt hburnt))
  have f1 := w.1.1
  have fc := w.1.2
  (try dsimp only at fc)
  refine b_wp_m (fun o2 z => ?_) (b_wl_wp (b_wl_and (w_X12_burnt b_fr_refl) b_wl_any) w.2)
  have f2 := z.1.1
  have fr := z.1.2
  (try dsimp only at fr)
  have ff := fr_app f2 f1
  have ea := z.2.1
  (try dsimp only at ea)
  have ps := z.2.2
  have nburnt : R_burnt o2.2 := ps
  have nday : R_day o2.2 := R_day_k (b_kp1 ff (by decide +kernel)) hday
  have ntape : R_tape o2.2 := R_tape_k (b_kp1 ff (by decide +kernel)) htape
  have nppl : R_ppl o2.2 := R_ppl_k (b_kp1 ff (by decide +kernel)) hppl
  have nfault : R_fault o2.2 := R_fault_k (b_kp1 ff (by decide +kernel)) hfault
  have nlots : R_lots o2.2 := R_lots_k (b_kp1 ff (by decide +kernel)) hlots
  have nshape : R_shape o2.2 := R_shape_k (b_kp1 ff (by decide +kernel)) hshape
  have ncoin : R_coin o2.2 := R_coin_k (b_kp1 ff (by decide +kernel)) hcoin
  have npages : R_pages o2.2 := R_pages_k (b_kp1 ff (by decide +kernel)) hpages
  have nplace : R_place o2.2 := R_place_k (b_kp1 ff (by decide +kernel)) hplace
  have nlook : R_look o2.2 := R_look_k (b_kp1 ff (by decide +kernel)) hlook
  have nlink : R_link o2.2 := R_link_k (b_kp1 ff (by decide +kernel)) hlink
  have nmort : R_mort o2.2 := R_mort_k (b_kp1 ff (by decide +kernel)) hmort
  have nclaim : R_claim o2.2 := R_claim_k (b_kp1 ff (by decide +kernel)) hclaim
  have nsign : R_sign o2.2 := R_sign_k (b_kp1 ff (by decide +kernel)) hsign
  have nknow : R_know o2.2 := R_know_k (b_kp1 ff (by decide +kernel)) hknow
  have nrules : R_rules o2.2 := R_rules_k (b_kp1 ff (by decide +kernel)) hrules
  have npap : R_pap o2.2 := pap_mono (b_kp1 ff (by decide +kernel)) (Int.le_of_eq (ff 2 0 (by decide +kernel)).symm) (Int.le_of_eq (ff 3 0 (by decide +kernel)).symm) (by rw [f2 6 0 (by decide +kernel)]; exact fc.1) (fun k _ _ => Or.inl (ff 116 k rfl)) hpap
  have nwts : R_wts o2.2 := R_wts_q (b_kp1 ff (by decide +kernel)) hwts
  have nev : R_ev o2.2 := Or.inl ((f2 6 5 (by decide +kernel)).trans fc.2)
  have nmarks : R_marks o2.2 := R_marks_k (b_kp1 ff (by decide +kernel)) hmarks
  have nprog : R_prog o2.2 := R_prog_k (b_kp1 ff (by decide +kernel)) hprog
  have nroot : R_root o2.2 := R_root_k (b_kp1 ff (by decide +kernel)) hroot
  have nrul : R_rul o2.2 := R_rul_k (b_kp1 ff (by decide +kernel)) hrul
  have ncref : R_cref o2.2 := R_cref_k (b_kp1 ff (by decide +kernel)) hcref
  have nways : R_ways o2.2 := R_ways_k (b_kp1 ff (by decide +kernel)) hways
  have nbd : R_bd o2.2 := R_bd_k (b_kp1 ff (by decide +kernel)) hbd
  have ncode : R_code o2.2 := R_code_k (b_kp1 ff (by decide +kernel)) hrules.1.2.2 hcode
  have nw0 : R_w0 o2.2 := R_w0_k (b_kp1 ff (by decide +kernel)) hw0
  have ncor : R_cor o2.2 := R_cor_k (b_kp1 ff (by decide +kernel)) hcor
  have nwd : R_wd o2.2 := R_wd_k (b_kp1 ff (by decide +kernel)) hwd
  have nn3 : N3 o2.2 := R_n3_k (b_kp1 ff (by decide +kernel)) hn3
  have nz0 : R_z0 o2.2 := R_z0_k (b_kp1 ff (by decide +kernel)) hz0
  have npg1 : R_pg1 o2.2 := R_pg1_k (b_kp1 ff (by decide +kernel)) hpg1
  have nmref : R_mref o2.2 := R_mref_k (b_kp1 ff (by decide +kernel)) hmref
  have nbnd : R_bnd (i + 8) o2.2 := R_bnd_k (b_kp1 ff (by decide +kernel)) hbnd
  exact ⟨ea, nday, ntape, nppl, nfault, nlots, nshape, ncoin, nburnt, npages, nplace, nlook, nlink, nmort, nclaim, nsign, nknow, nrules, npap, nwts, nev, nmarks, nprog, nroot, nrul, ncref, nways, nbd, ncode, nw0, ncor, nwd, nn3, nz0, npg1, nmref, nbnd⟩
theorem ff_25 {A : bM → Prop} {a : Int → Int} {i : Int} {M : bM} (hi : 0 ≤ i ∧ i + 8 ≤ 4096) (hR : R_fin i M) : lw_o25 (R_fin (i + 8)) A a M := by
  unfold lw_o25
  have hC := R_fin_C hR
  have hS := R_fin_s hR
  obtain ⟨hday, htape, hppl, hfault, hlots, hshape, hcoin, hburnt, hpages, hplace, hlook, hlink, hmort, hclaim, hsign, hknow, hrules, hpap, hwts, hev, hmarks, hprog, hroot, hrul, hcref, hways, hbd, hcode, hw0, hcor, hwd, hn3, hz0, hpg1, hmref, hbnd⟩ := hR
  refine b_wp_m (fun o w => ?_) (b_wl_wp (b_wl_and (w_X11_paper b_fr_refl) b_wl_any) (op_paper hC htape hday hcode hw0))
  have f1 := w.1.1
  have fc := w.1.2
  (try dsimp only at fc)
  refine b_wp_m (fun o2 z => ?_) (b_wl_wp (b_wl_and (w_X12_paper b_fr_refl) b_wl_any) w.2)
  have f2 := z.1.1
  have fr := z.1.2
  (try dsimp only at fr)
  have ff := fr_app f2 f1
  have ea := z.2.1
  (try dsimp only at ea)
  have ps := z.2.2
  have ntape : R_tape o2.2 := ps.1
  have nsign : R_sign o2.2 := ps.2.1
  have npap : R_pap o2.2 := ps.2.2.1
  have nwts : R_wts o2.2 := ps.2.2.2.2.1
  have nev : R_ev o2.2 := ps.2.2.2.2.2.1
  have nmarks : R_marks o2.2 := ps.2.2.2.1
  have nw0 : R_w0 o2.2 := ps.2.2.2.2.2.2
  have nday : R_day o2.2 := R_day_k (b_kp1 ff (by decide +kernel)) hday
  have nppl : R_ppl o2.2 := R_ppl_k (b_kp1 ff (by decide +kernel)) hppl
  have nfault : R_fault o2.2 := R_fault_k (b_kp1 ff (by decide +kernel)) hfault
  have nlots : R_lots o2.2 := R_lots_k (b_kp1 ff (by decide +kernel)) hlots
  have nshape : R_shape o2.2 := R_shape_k (b_kp1 ff (by decide +kernel)) hshape
  have ncoin : R_coin o2.2 := R_coin_k (b_kp1 ff (by decide +kernel)) hcoin
  have nburnt : R_burnt o2.2 := R_burnt_k (b_kp1 ff (by decide +kernel)) hburnt
  have npages : R_pages o2.2 := R_pages_k (b_kp1 ff (by decide +kernel)) hpages
  have nplace : R_place o2.2 := R_place_k (b_kp1 ff (by decide +kernel)) hplace
  have nlook : R_look o2.2 := R_look_k (b_kp1 ff (by decide +kernel)) hlook
  have nlink : R_link o2.2 := R_link_k (b_kp1 ff (by decide +kernel)) hlink
  have nmort : R_mort o2.2 := R_mort_k (b_kp1 ff (by decide +kernel)) hmort
  have nclaim : R_claim o2.2 := R_claim_k (b_kp1 ff (by decide +kernel)) hclaim
  have nknow : R_know o2.2 := R_know_k (b_kp1 ff (by decide +kernel)) hknow
  have nrules : R_rules o2.2 := R_rules_k (b_kp1 ff (by decide +kernel)) hrules
  have nprog : R_prog o2.2 := R_prog_k (b_kp1 ff (by decide +kernel)) hprog
  have nroot : R_root o2.2 := R_root_k (b_kp1 ff (by decide +kernel)) hroot
  have nrul : R_rul o2.2 := R_rul_k (b_kp1 ff (by decide +kernel)) hrul
  have ncref : R_cref o2.2 := R_cref_k (b_kp1 ff (by decide +kernel)) hcref
  have nways : R_ways o2.2 := R_ways_k (b_kp1 ff (by decide +kernel)) hways
  have nbd : R_bd o2.2 := R_bd_k (b_kp1 ff (by decide +kernel)) hbd
  have ncode : R_code o2.2 := R_code_k (b_kp1 ff (by decide +kernel)) hrules.1.2.2 hcode
  have ncor : R_cor o2.2 := R_cor_k (b_kp1 ff (by decide +kernel)) hcor
  have nwd : R_wd o2.2 := R_wd_k (b_kp1 ff (by decide +kernel)) hwd
  have nn3 : N3 o2.2 := R_n3_k (b_kp1 ff (by decide +kernel)) hn3
  have nz0 : R_z0 o2.2 := R_z0_k (b_kp1 ff (by decide +kernel)) hz0
  have npg1 : R_pg1 o2.2 := R_pg1_k (b_kp1 ff (by decide +kernel)) hpg1
  have nmref : R_mref o2.2 := R_mref_k (b_kp1 ff (by decide +kernel)) hmref
  have nbnd : R_bnd (i + 8) o2.2 := R_bnd_k (b_kp1 ff (by decide +kernel)) hbnd
  exact ⟨ea, nday, ntape, nppl, nfault, nlots, nshape, ncoin, nburnt, npages, nplace, nlook, nlink, nmort, nclaim, nsign, nknow, nrules, npap, nwts, nev, nmarks, nprog, nroot, nrul, ncref, nways, nbd, ncode, nw0, ncor, nwd, nn3, nz0, npg1, nmref, nbnd⟩
theorem ff_26 {A : bM → Prop} {a : Int → Int} {i : Int} {M : bM} (hi : 0 ≤ i ∧ i + 8 ≤ 4096) (hR : R_fin i M) : lw_o26 (R_fin (i + 8)) A a M := by
  unfold lw_o26
  have hC := R_fin_C hR
  have hS := R_fin_s hR
  obtain ⟨hday, htape, hppl, hfault, hlots, hshape, hcoin, hburnt, hpages, hplace, hlook, hlink, hmort, hclaim, hsign, hknow, hrules, hpap, hwts, hev, hmarks, hprog, hroot, hrul, hcref, hways, hbd, hcode, hw0, hcor, hwd, hn3, hz0, hpg1, hmref, hbnd⟩ := hR
  refine b_wp_m (fun o w => ?_) (b_wl_wp (b_wl_and (w_X11_written b_fr_refl) fa_written) (op_written hppl hsign))
  have f1 := w.1.1
  have fc := w.1.2
  (try dsimp only at fc)
  refine b_wp_m (fun o2 z => ?_) (b_wl_wp (b_wl_and (w_X12_written b_fr_refl) (fr_written)) w.2)
  have f2 := z.1.1
  have fr := z.1.2
  (try dsimp only at fr)
  have ff := fr_app f2 f1
  have ea := z.2.1
  (try dsimp only at ea)
  have ps := z.2.2
  have nsign : R_sign o2.2 := ps
  have nday : R_day o2.2 := R_day_k (b_kp1 ff (by decide +kernel)) hday
  have ntape : R_tape o2.2 := R_tape_k (b_kp1 ff (by decide +kernel)) htape
  have nppl : R_ppl o2.2 := R_ppl_k (b_kp1 ff (by decide +kernel)) hppl
  have nfault : R_fault o2.2 := R_fault_k (b_kp1 ff (by decide +kernel)) hfault
  have nlots : R_lots o2.2 := R_lots_k (b_kp1 ff (by decide +kernel)) hlots
  have nshape : R_shape o2.2 := R_shape_k (b_kp1 ff (by decide +kernel)) hshape
  have ncoin : R_coin o2.2 := R_coin_k (b_kp1 ff (by decide +kernel)) hcoin
  have nburnt : R_burnt o2.2 := R_burnt_k (b_kp1 ff (by decide +kernel)) hburnt
  have npages : R_pages o2.2 := R_pages_k (b_kp1 ff (by decide +kernel)) hpages
  have nplace : R_place o2.2 := R_place_k (b_kp1 ff (by decide +kernel)) hplace
  have nlook : R_look o2.2 := R_look_k (b_kp1 ff (by decide +kernel)) hlook
  have nlink : R_link o2.2 := R_link_k (b_kp1 ff (by decide +kernel)) hlink
  have nmort : R_mort o2.2 := R_mort_k (b_kp1 ff (by decide +kernel)) hmort
  have nclaim : R_claim o2.2 := R_claim_k (b_kp1 ff (by decide +kernel)) hclaim
  have nknow : R_know o2.2 := R_know_k (b_kp1 ff (by decide +kernel)) hknow
  have nrules : R_rules o2.2 := R_rules_k (b_kp1 ff (by decide +kernel)) hrules
  have npap : R_pap o2.2 := pap_mono (b_kp1 ff (by decide +kernel)) (Int.le_of_eq (ff 2 0 (by decide +kernel)).symm) (Int.le_of_eq (ff 3 0 (by decide +kernel)).symm) (Int.le_of_eq (ff 6 0 (by decide +kernel)).symm) (fun k _ _ => by rw [f2 116 k rfl]; exact fc.1 k) hpap
  have nwts : R_wts o2.2 := R_wts_q (b_kp1 ff (by decide +kernel)) hwts
  have nev : R_ev o2.2 := ev_cut f1 (by decide +kernel) (f2 6 5 (by decide +kernel)) (fc.2.imp (fun q => q.2) (fun q => ⟨fr.resolve_left (by have := q.1; omega), q.2⟩)) hev
  have nmarks : R_marks o2.2 := R_marks_k (b_kp1 ff (by decide +kernel)) hmarks
  have nprog : R_prog o2.2 := R_prog_k (b_kp1 ff (by decide +kernel)) hprog
  have nroot : R_root o2.2 := R_root_k (b_kp1 ff (by decide +kernel)) hroot
  have nrul : R_rul o2.2 := R_rul_k (b_kp1 ff (by decide +kernel)) hrul
  have ncref : R_cref o2.2 := R_cref_k (b_kp1 ff (by decide +kernel)) hcref
  have nways : R_ways o2.2 := R_ways_k (b_kp1 ff (by decide +kernel)) hways
  have nbd : R_bd o2.2 := R_bd_k (b_kp1 ff (by decide +kernel)) hbd
  have ncode : R_code o2.2 := R_code_k (b_kp1 ff (by decide +kernel)) hrules.1.2.2 hcode
  have nw0 : R_w0 o2.2 := R_w0_k (b_kp1 ff (by decide +kernel)) hw0
  have ncor : R_cor o2.2 := R_cor_k (b_kp1 ff (by decide +kernel)) hcor
  have nwd : R_wd o2.2 := R_wd_k (b_kp1 ff (by decide +kernel)) hwd
  have nn3 : N3 o2.2 := R_n3_k (b_kp1 ff (by decide +kernel)) hn3
  have nz0 : R_z0 o2.2 := R_z0_k (b_kp1 ff (by decide +kernel)) hz0
  have npg1 : R_pg1 o2.2 := R_pg1_k (b_kp1 ff (by decide +kernel)) hpg1
  have nmref : R_mref o2.2 := R_mref_k (b_kp1 ff (by decide +kernel)) hmref
  have nbnd : R_bnd (i + 8) o2.2 := R_bnd_k (b_kp1 ff (by decide +kernel)) hbnd
  exact ⟨ea, nday, ntape, nppl, nfault, nlots, nshape, ncoin, nburnt, npages, nplace, nlook, nlink, nmort, nclaim, nsign, nknow, nrules, npap, nwts, nev, nmarks, nprog, nroot, nrul, ncref, nways, nbd, ncode, nw0, ncor, nwd, nn3, nz0, npg1, nmref, nbnd⟩
