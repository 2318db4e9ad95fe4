theorem hop_all {A : bM → Prop} {a : Int → Int} {k i : Int} {M : bM} (hi : 0 ≤ i ∧ i + 8 ≤ 4096) (hR : R_fin i M) (hA : A M) : lw_one (R_fin (i + 8)) A a k M := by
  unfold lw_one
  by_cases c0 : k = 0
  · rw [if_pos c0]; exact ff_0 hi hR
  rw [if_neg c0]
  by_cases c1 : k = 1
  · rw [if_pos c1]; exact ff_1 hi hR
  rw [if_neg c1]
  by_cases c2 : k = 2
  · rw [if_pos c2]; exact ff_2 hi hR
  rw [if_neg c2]
  by_cases c3 : k = 3
  · rw [if_pos c3]; exact ff_3 hi hR
  rw [if_neg c3]
  by_cases c4 : k = 4
  · rw [if_pos c4]; exact ff_4 hi hR
  rw [if_neg c4]
  by_cases c5 : k = 5
  · rw [if_pos c5]; exact ff_5 hi hR
  rw [if_neg c5]
  by_cases c6 : k = 6
  · rw [if_pos c6]; exact ff_6 hi hR
  rw [if_neg c6]
  by_cases c7 : k = 7
  · rw [if_pos c7]; exact ff_7 hi hR
  rw [if_neg c7]
  by_cases c8 : k = 8
  · rw [if_pos c8]; exact ff_8 hi hR
  rw [if_neg c8]
  by_cases c9 : k = 9
  · rw [if_pos c9]; exact ff_9 hi hR
  rw [if_neg c9]
  by_cases c10 : k = 10
  · rw [if_pos c10]; exact ff_10 hi hR
  rw [if_neg c10]
  by_cases c11 : k = 11
  · rw [if_pos c11]; exact ff_11 hi hR
  rw [if_neg c11]
  by_cases c12 : k = 12
  · rw [if_pos c12]; exact ff_12 hi hR
  rw [if_neg c12]
  by_cases c13 : k = 13
  · rw [if_pos c13]; exact ff_13 hi hR
  rw [if_neg c13]
  by_cases c14 : k = 14
  · rw [if_pos c14]; exact ff_14 hi hR
  rw [if_neg c14]
  by_cases c15 : k = 15
  · rw [if_pos c15]; exact ff_15 hi hR
  rw [if_neg c15]
  by_cases c16 : k = 16
  · rw [if_pos c16]; exact ff_16 hi hR
  rw [if_neg c16]
  by_cases c17 : k = 17
  · rw [if_pos c17]; exact ff_17 hi hR
  rw [if_neg c17]
  by_cases c18 : k = 18
  · rw [if_pos c18]; exact ff_18 hi hR
  rw [if_neg c18]
  by_cases c19 : k = 19
  · rw [if_pos c19]; exact ff_19 hi hR
  rw [if_neg c19]
  by_cases c20 : k = 20
  · rw [if_pos c20]; exact ff_20 hi hR
  rw [if_neg c20]
  by_cases c21 : k = 21
  · rw [if_pos c21]; exact hA
  rw [if_neg c21]
  by_cases c22 : k = 22
  · rw [if_pos c22]; exact ff_22 hi hR
  rw [if_neg c22]
  by_cases c23 : k = 23
  · rw [if_pos c23]; exact ff_23 hi hR
  rw [if_neg c23]
  by_cases c24 : k = 24
  · rw [if_pos c24]; exact ff_24 hi hR
  rw [if_neg c24]
  by_cases c25 : k = 25
  · rw [if_pos c25]; exact ff_25 hi hR
  rw [if_neg c25]
  by_cases c26 : k = 26
  · rw [if_pos c26]; exact ff_26 hi hR
  rw [if_neg c26]
  by_cases c27 : k = 27
  · rw [if_pos c27]; exact ff_27 hi hR
  rw [if_neg c27]
  by_cases c28 : k = 28
  · rw [if_pos c28]; exact ff_28 hi hR
  rw [if_neg c28]
  by_cases c29 : k = 29
  · rw [if_pos c29]; exact ff_29 hi hR
  rw [if_neg c29]
  by_cases c30 : k = 30
  · rw [if_pos c30]; exact ff_30 hi hR
  rw [if_neg c30]
  by_cases c31 : k = 31
  · rw [if_pos c31]; exact ff_31 hi hR
  rw [if_neg c31]
  by_cases c32 : k = 32
  · rw [if_pos c32]; exact ff_32 hi hR
  rw [if_neg c32]
  by_cases c33 : k = 33
  · rw [if_pos c33]; exact ff_33 hi hR
  rw [if_neg c33]
  by_cases c34 : k = 34
  · rw [if_pos c34]; exact ff_34 hi hR
  rw [if_neg c34]
  by_cases c35 : k = 35
  · rw [if_pos c35]; exact ff_35 hi hR
  rw [if_neg c35]
  by_cases c36 : k = 36
  · rw [if_pos c36]; exact ff_36 hi hR
  rw [if_neg c36]
  by_cases c37 : k = 37
  · rw [if_pos c37]; exact ff_37 hi hR
  rw [if_neg c37]
  by_cases c38 : k = 38
  · rw [if_pos c38]; exact ff_38 hi hR
  rw [if_neg c38]
  by_cases c39 : k = 39
  · rw [if_pos c39]; exact ff_39 hi hR
  rw [if_neg c39]
  by_cases c40 : k = 40
  · rw [if_pos c40]; exact ff_40 hi hR
  rw [if_neg c40]
  by_cases c41 : k = 41
  · rw [if_pos c41]; exact ff_41 hi hR
  rw [if_neg c41]
  by_cases c42 : k = 42
  · rw [if_pos c42]; exact ff_42 hi hR
  rw [if_neg c42]
  by_cases c43 : k = 43
  · rw [if_pos c43]; exact ff_43 hi hR
  rw [if_neg c43]
  by_cases c44 : k = 44
  · rw [if_pos c44]; exact ff_44 hi hR
  rw [if_neg c44]
  by_cases c45 : k = 45
  · rw [if_pos c45]; exact ff_45 hi hR
  rw [if_neg c45]
  by_cases c46 : k = 46
  · rw [if_pos c46]; exact ff_46 hi hR
  rw [if_neg c46]
  by_cases c47 : k = 47
  · rw [if_pos c47]; exact ff_47 hi hR
  rw [if_neg c47]
  by_cases c48 : k = 48
  · rw [if_pos c48]; exact ff_48 hi hR
  rw [if_neg c48]
  by_cases c49 : k = 49
  · rw [if_pos c49]; exact ff_49 hi hR
  rw [if_neg c49]
  by_cases c50 : k = 50
  · rw [if_pos c50]; exact ff_50 hi hR
  rw [if_neg c50]
  by_cases c51 : k = 51
  · rw [if_pos c51]; exact ff_51 hi hR
  rw [if_neg c51]
  exact R_fin_s hR
theorem op_actR {i : Int} {M : bM} (hR : R_fin i M) : b_wp (F_X11_act M) (fun o => b_wp (F_X12_act o.2) (fun o2 => o.1 = o2.1 ∧ R_fin (i + 8) o2.2)) := by
  obtain ⟨hday, htape, hppl, hfault, hlots, hshape, hcoin, hburnt, hpages, hplace, hlook, hlink, hmort, hclaim, hsign, hknow, hrules, hpap, hwts, hev, hmarks, hprog, hroot, hrul, hcref, hways, hbd, hcode, hw0, hcor, hwd, hn3, hz0, hpg1, hmref, hbnd⟩ := hR
  refine b_wp_m (fun o w => b_wp_m (fun o2 z => ?_) w) (op_act htape hwd hrules hprog hcode hmarks hpap hsign hday hn3 hwts hev hw0 hz0)
  have ea := z.1
  have ps := z.2.1
  have ff := z.2.2
  have nday : R_day o2.2 := R_day_k (b_kp1 ff (by decide +kernel)) hday
  have ntape : R_tape o2.2 := ps.1
  have nppl : R_ppl o2.2 := R_ppl_k (b_kp1 ff (by decide +kernel)) hppl
  have nfault : R_fault o2.2 := ⟨ps.2.2.2.2.2.2.2.2.2.2.1.symm, ps.2.2.2.2.2.2.2.2.2.2.2.symm⟩
  have nlots : R_lots o2.2 := R_lots_k (b_kp1 ff (by decide +kernel)) hlots
  have nshape : R_shape o2.2 := R_shape_k (b_kp1 ff (by decide +kernel)) hshape
  have ncoin : R_coin o2.2 := R_coin_k (b_kp1 ff (by decide +kernel)) hcoin
  have nburnt : R_burnt o2.2 := R_burnt_k (b_kp1 ff (by decide +kernel)) hburnt
  have npages : R_pages o2.2 := R_pages_k (b_kp1 ff (by decide +kernel)) hpages
  have nplace : R_place o2.2 := R_place_k (b_kp1 ff (by decide +kernel)) hplace
  have nlook : R_look o2.2 := R_look_k (b_kp1 ff (by decide +kernel)) hlook
  have nlink : R_link o2.2 := R_link_k (b_kp1 ff (by decide +kernel)) hlink
  have nmort : R_mort o2.2 := R_mort_k (b_kp1 ff (by decide +kernel)) hmort
  have nclaim : R_claim o2.2 := R_claim_k (b_kp1 ff (by decide +kernel)) hclaim
  have nsign : R_sign o2.2 := R_sign_k (b_kp1 ff (by decide +kernel)) hsign
  have nknow : R_know o2.2 := R_know_k (b_kp1 ff (by decide +kernel)) hknow
  have nrules : R_rules o2.2 := ps.2.1
  have npap : R_pap o2.2 := R_pap_k (b_kp1 ff (by decide +kernel)) hpap
  have nwts : R_wts o2.2 := ps.2.2.2.2.1
  have nev : R_ev o2.2 := ps.2.2.2.2.2.1
  have nmarks : R_marks o2.2 := R_marks_k (b_kp1 ff (by decide +kernel)) hmarks
  have nprog : R_prog o2.2 := ps.2.2.1
  have nroot : R_root o2.2 := R_root_k (b_kp1 ff (by decide +kernel)) hroot
  have nrul : R_rul o2.2 := R_rul_k (b_kp1 ff (by decide +kernel)) hrul
  have ncref : R_cref o2.2 := R_cref_k (b_kp1 ff (by decide +kernel)) hcref
  have nways : R_ways o2.2 := R_ways_k (b_kp1 ff (by decide +kernel)) hways
  have nbd : R_bd o2.2 := R_bd_k (b_kp1 ff (by decide +kernel)) hbd
  have ncode : R_code o2.2 := ps.2.2.2.1
  have nw0 : R_w0 o2.2 := ps.2.2.2.2.2.2.1
  have ncor : R_cor o2.2 := R_cor_k (b_kp1 ff (by decide +kernel)) hcor
  have nwd : R_wd o2.2 := ps.2.2.2.2.2.2.2.1
  have nn3 : N3 o2.2 := ps.2.2.2.2.2.2.2.2.1
  have nz0 : R_z0 o2.2 := ps.2.2.2.2.2.2.2.2.2.1
  have npg1 : R_pg1 o2.2 := R_pg1_k (b_kp1 ff (by decide +kernel)) hpg1
  have nmref : R_mref o2.2 := R_mref_k (b_kp1 ff (by decide +kernel)) hmref
  have nbnd : R_bnd (i + 8) o2.2 := R_bnd_k (b_kp1 ff (by decide +kernel)) hbnd
  exact ⟨ea, nday, ntape, nppl, nfault, nlots, nshape, ncoin, nburnt, npages, nplace, nlook, nlink, nmort, nclaim, nsign, nknow, nrules, npap, nwts, nev, nmarks, nprog, nroot, nrul, ncref, nways, nbd, ncode, nw0, ncor, nwd, nn3, nz0, npg1, nmref, nbnd⟩
/-- the law from its head on, with the relation: it ends with true -/
theorem law_all {l : Launch} {E : bE} {Ln : Nat} {xs : Int → Int} (hfg : b_fg E) (hx : ∀ i, b_r32 (xs i)) {kn : Nat × Nat} {i : Int} {M : bM} (hc : lw_c kn Ln i) (hR : R_fin i M) : lw_hd l E Ln xs kn i M :=
  law_loop2 (R := R_fin) hfg hx (fun _ _ _ _ _ hi _ hR hA => hop_all hi hR hA) (fun _ _ _ hc hi hR hk => law_21 hfg hc hi (b_wp_m (fun _ w => b_wp_m (fun _ z => ⟨z.1, hk _ z.2⟩) w) (op_actR hR))) (Ln - i).toNat kn i M (Nat.le_refl _) hc hR
