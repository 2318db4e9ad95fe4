/-- the relation: class and reference stand alike, i ints of the script read -/
def R_fin (i : Int) (M : bM) : Prop := R_day M ∧ R_tape M ∧ R_ppl M ∧ R_fault M ∧ R_lots M ∧ R_shape M ∧ R_coin M ∧ R_burnt M ∧ R_pages M ∧ R_place M ∧ R_look M ∧ R_link M ∧ R_mort M ∧ R_claim M ∧ R_sign M ∧ R_know M ∧ R_rules M ∧ R_pap M ∧ R_wts M ∧ R_ev M ∧ R_marks M ∧ R_prog M ∧ R_root M ∧ R_rul M ∧ R_cref M ∧ R_ways M ∧ R_bd M ∧ R_code M ∧ R_w0 M ∧ R_cor M ∧ R_wd M ∧ N3 M ∧ R_z0 M ∧ R_pg1 M ∧ R_mref M ∧ R_bnd (i) M
theorem R_fin_s {i : Int} {M : bM} (hR : R_fin i M) : R_fin (i + 8) M := by
  obtain ⟨hday, htape, hppl, hfault, hlots, hshape, hcoin, hburnt, hpages, hplace, hlook, hlink, hmort, hclaim, hsign, hknow, hrules, hpap, hwts, hev, hmarks, hprog, hroot, hrul, hcref, hways, hbd, hcode, hw0, hcor, hwd, hn3, hz0, hpg1, hmref, hbnd⟩ := hR
  exact ⟨hday, htape, hppl, hfault, hlots, hshape, hcoin, hburnt, hpages, hplace, hlook, hlink, hmort, hclaim, hsign, hknow, hrules, hpap, hwts, hev, hmarks, hprog, hroot, hrul, hcref, hways, hbd, hcode, hw0, hcor, hwd, hn3, hz0, hpg1, hmref, fun c c0 c1 => by have := hbnd c c0 c1; omega⟩
theorem R_fin_C {i : Int} {M : bM} (hR : R_fin i M) : C_all M := by
  obtain ⟨hday, htape, hppl, hfault, hlots, hshape, hcoin, hburnt, hpages, hplace, hlook, hlink, hmort, hclaim, hsign, hknow, hrules, hpap, hwts, hev, hmarks, hprog, hroot, hrul, hcref, hways, hbd, hcode, hw0, hcor, hwd, hn3, hz0, hpg1, hmref, hbnd⟩ := hR
  exact ⟨⟨hppl, hknow, hlots, hsign, hpap, hpages, hrules, hwts, hburnt⟩, hev, ⟨hpg1, hprog, hmarks⟩, hroot⟩
