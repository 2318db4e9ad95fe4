def W_X12_readAll_L2 : List (Nat × Option Int) := [(11, some 3), (11, some 4), (11, some 5), (11, some 6), (11, some 7), (11, some 8), (11, some 9), (11, some 10), (11, some 32), (11, some 49), (186, none), (187, none), (188, none), (189, none), (190, none), (191, none), (192, none), (193, none)]
theorem w_X12_readAll_L2_s9 {M0 M : bM} (hF : b_fr W_X12_readAll_L2 M0 M) : b_wl (F_X12_readAll_L2_s9 M) (Sum.elim (fun t : bM => b_fr W_X12_readAll_L2 M0 t) (Sum.elim (fun t : bM => b_fr W_X12_readAll_L2 M0 t) (fun o : Int × bM => b_fr W_X12_readAll_L2 M0 o.2))) := by
  unfold F_X12_readAll_L2_s9
  refine b_wl_i (fun c4 => ?_) (fun c4 => ?_)
  · refine b_wl_i (fun c5 => ?_) (fun c5 => ?_)
    · refine b_wl_b (w_X12_scan b_fr_refl) (fun o ho => ?_)
      replace hF := b_fr_tr hF (b_fr_mo (by decide +kernel) ho)
      refine b_wl_b (w_X12_readOne_L2 b_fr_refl) (fun o ho => ?_)
      refine b_wl_two ?_
      replace hF := b_fr_tr hF (b_fr_mo (by decide +kernel) ho)
      refine b_wl_i (fun c9 => ?_) (fun c9 => ?_)
      · exact b_wl_s hF
      · refine b_wl_b (w_X12_addStep b_fr_refl) (fun o ho => ?_)
        replace hF := b_fr_tr hF (b_fr_mo (by decide +kernel) ho)
        exact b_wl_s hF
    · exact b_wl_s hF
  · exact b_wl_s hF
theorem w_X12_readAll_L2_b47 {M0 M : bM} (hF : b_fr W_X12_readAll_L2 M0 M) : b_wl (F_X12_readAll_L2_b47 M) (fun o : Int × bM => b_fr W_X12_readAll_L2 M0 o.2) := by
  unfold F_X12_readAll_L2_b47
  exact b_wl_s hF
theorem w_X12_readAll_L2 {M0 M : bM} (hF : b_fr W_X12_readAll_L2 M0 M) : b_wl (F_X12_readAll_L2 M) (fun o : Int × bM => b_fr W_X12_readAll_L2 M0 o.2) := by
  unfold F_X12_readAll_L2
  refine b_wl_b (w_X12_readOne_L2 b_fr_refl) (fun o ho => ?_)
  refine b_wl_two ?_
  replace hF := b_fr_tr hF (b_fr_mo (by decide +kernel) ho)
  refine b_wl_i (fun c3 => ?_) (fun c3 => ?_)
  · exact b_wl_s hF
  · refine b_wl_b (b_wl_loop (A := (fun t : bM => b_fr W_X12_readAll_L2 M0 t)) (fun t ht => w_X12_readAll_L2_s9 ht) hF) (fun t ht => ?_)
    cases t with
    | inr o => exact b_wl_s ht
    | inl t =>
      replace hF : b_fr W_X12_readAll_L2 M0 t := ht
      refine b_wl_inl ?_
      exact w_X12_readAll_L2_b47 hF
def W_X12_readCond_L2 : List (Nat × Option Int) := [(11, some 3), (11, some 4), (11, some 5), (11, some 6), (11, some 7), (11, some 8), (11, some 9), (11, some 10), (11, some 32), (11, some 49), (186, none), (187, none), (188, none), (189, none), (190, none), (191, none), (192, none), (193, none)]
theorem w_X12_readCond_L2_s9 {M0 M : bM} (hF : b_fr W_X12_readCond_L2 M0 M) : b_wl (F_X12_readCond_L2_s9 M) (Sum.elim (fun t : bM => b_fr W_X12_readCond_L2 M0 t) (Sum.elim (fun t : bM => b_fr W_X12_readCond_L2 M0 t) (fun o : Int × bM => b_fr W_X12_readCond_L2 M0 o.2))) := by
  unfold F_X12_readCond_L2_s9
  refine b_wl_i (fun c4 => ?_) (fun c4 => ?_)
  · refine b_wl_i (fun c5 => ?_) (fun c5 => ?_)
    · refine b_wl_b (w_X12_scan b_fr_refl) (fun o ho => ?_)
      replace hF := b_fr_tr hF (b_fr_mo (by decide +kernel) ho)
      refine b_wl_b (w_X12_readAll_L2 b_fr_refl) (fun o ho => ?_)
      refine b_wl_two ?_
      replace hF := b_fr_tr hF (b_fr_mo (by decide +kernel) ho)
      refine b_wl_i (fun c9 => ?_) (fun c9 => ?_)
      · exact b_wl_s hF
      · refine b_wl_b (w_X12_addStep b_fr_refl) (fun o ho => ?_)
        replace hF := b_fr_tr hF (b_fr_mo (by decide +kernel) ho)
        exact b_wl_s hF
    · exact b_wl_s hF
  · exact b_wl_s hF
theorem w_X12_readCond_L2_b48 {M0 M : bM} (hF : b_fr W_X12_readCond_L2 M0 M) : b_wl (F_X12_readCond_L2_b48 M) (fun o : Int × bM => b_fr W_X12_readCond_L2 M0 o.2) := by
  unfold F_X12_readCond_L2_b48
  exact b_wl_s hF
theorem w_X12_readCond_L2 {M0 M : bM} (hF : b_fr W_X12_readCond_L2 M0 M) : b_wl (F_X12_readCond_L2 M) (fun o : Int × bM => b_fr W_X12_readCond_L2 M0 o.2) := by
  unfold F_X12_readCond_L2
  refine b_wl_b (w_X12_readAll_L2 b_fr_refl) (fun o ho => ?_)
  refine b_wl_two ?_
  replace hF := b_fr_tr hF (b_fr_mo (by decide +kernel) ho)
  refine b_wl_i (fun c3 => ?_) (fun c3 => ?_)
  · exact b_wl_s hF
  · refine b_wl_b (b_wl_loop (A := (fun t : bM => b_fr W_X12_readCond_L2 M0 t)) (fun t ht => w_X12_readCond_L2_s9 ht) hF) (fun t ht => ?_)
    cases t with
    | inr o => exact b_wl_s ht
    | inl t =>
      replace hF : b_fr W_X12_readCond_L2 M0 t := ht
      refine b_wl_inl ?_
      exact w_X12_readCond_L2_b48 hF
def W_X12_readOne_L1 : List (Nat × Option Int) := [(11, some 3), (11, some 4), (11, some 5), (11, some 6), (11, some 7), (11, some 8), (11, some 9), (11, some 10), (11, some 32), (11, some 49), (186, none), (187, none), (188, none), (189, none), (190, none), (191, none), (192, none), (193, none)]
theorem w_X12_readOne_L1_b28 {u0 : Int} {M0 M : bM} (hF : b_fr W_X12_readOne_L1 M0 M) : b_wl (F_X12_readOne_L1_b28 u0 M) (Sum.elim (fun t : Int × bM => b_fr W_X12_readOne_L1 M0 t.2) (fun t : Int × bM => b_fr W_X12_readOne_L1 M0 t.2)) := by
  unfold F_X12_readOne_L1_b28
  refine b_wl_b (w_X12_scan b_fr_refl) (fun o ho => ?_)
  replace hF := b_fr_tr hF (b_fr_mo (by decide +kernel) ho)
  exact b_wl_s hF
theorem w_X12_readOne_L1_s2 {v1 : Int} {M0 M : bM} (hF : b_fr W_X12_readOne_L1 M0 M) : b_wl (F_X12_readOne_L1_s2 v1 M) (Sum.elim (fun t : Int × bM => b_fr W_X12_readOne_L1 M0 t.2) (fun t : Int × bM => b_fr W_X12_readOne_L1 M0 t.2)) := by
  unfold F_X12_readOne_L1_s2
  refine b_wl_i (fun c1 => ?_) (fun c1 => ?_)
  · refine b_wl_i (fun c2 => ?_) (fun c2 => ?_)
    · refine b_wl_i (fun c3 => ?_) (fun c3 => ?_)
      · exact w_X12_readOne_L1_b28 hF
      · exact w_X12_readOne_L1_b28 hF
    · exact b_wl_s hF
  · exact b_wl_s hF
theorem w_X12_readOne_L1_b122 {v1 : Int} {M0 M : bM} (hF : b_fr W_X12_readOne_L1 M0 M) : b_wl (F_X12_readOne_L1_b122 v1 M) (fun o : Int × bM => b_fr W_X12_readOne_L1 M0 o.2) := by
  unfold F_X12_readOne_L1_b122
  refine b_wl_i (fun c9 => ?_) (fun c9 => ?_)
  · exact b_wl_s hF
  · refine b_wl_b (w_X12_addStep b_fr_refl) (fun o ho => ?_)
    replace hF := b_fr_tr hF (b_fr_mo (by decide +kernel) ho)
    exact b_wl_s hF
theorem w_X12_readOne_L1_b36 {v1 : Int} {M0 M : bM} (hF : b_fr W_X12_readOne_L1 M0 M) : b_wl (F_X12_readOne_L1_b36 v1 M) (fun o : Int × bM => b_fr W_X12_readOne_L1 M0 o.2) := by
  unfold F_X12_readOne_L1_b36
  refine b_wl_i (fun c5 => ?_) (fun c5 => ?_)
  · refine b_wl_i (fun c11 => ?_) (fun c11 => ?_)
    · refine b_wl_b (w_X12_wrong b_fr_refl) (fun o ho => ?_)
      refine b_wl_two ?_
      replace hF := b_fr_tr hF (b_fr_mo (by decide +kernel) ho)
      refine b_wl_g (fun hg => ?_)
      exact b_wl_s hF
    · refine b_wl_g (fun hg => ?_)
      refine b_wl_lF (c := 11) (i := 49) hF (by decide +kernel) (fun hF => ?_)
      refine b_wl_b (w_X12_scan b_fr_refl) (fun o ho => ?_)
      replace hF := b_fr_tr hF (b_fr_mo (by decide +kernel) ho)
      refine b_wl_b (w_X12_readCond_L2 b_fr_refl) (fun o ho => ?_)
      refine b_wl_two ?_
      replace hF := b_fr_tr hF (b_fr_mo (by decide +kernel) ho)
      refine b_wl_i (fun c17 => ?_) (fun c17 => ?_)
      · exact b_wl_s hF
      · refine b_wl_i (fun c18 => ?_) (fun c18 => ?_)
        · refine b_wl_g (fun hg => ?_)
          refine b_wl_lF (c := 11) (i := 49) hF (by decide +kernel) (fun hF => ?_)
          refine b_wl_b (w_X12_scan b_fr_refl) (fun o ho => ?_)
          replace hF := b_fr_tr hF (b_fr_mo (by decide +kernel) ho)
          exact w_X12_readOne_L1_b122 hF
        · refine b_wl_b (w_X12_wrong b_fr_refl) (fun o ho => ?_)
          refine b_wl_two ?_
          replace hF := b_fr_tr hF (b_fr_mo (by decide +kernel) ho)
          refine b_wl_g (fun hg => ?_)
          exact b_wl_s hF
  · refine b_wl_b (w_X12_readTest b_fr_refl) (fun o ho => ?_)
    refine b_wl_two ?_
    replace hF := b_fr_tr hF (b_fr_mo (by decide +kernel) ho)
    refine b_wl_i (fun c8 => ?_) (fun c8 => ?_)
    · exact b_wl_s hF
    · exact w_X12_readOne_L1_b122 hF
theorem w_X12_readOne_L1 {M0 M : bM} (hF : b_fr W_X12_readOne_L1 M0 M) : b_wl (F_X12_readOne_L1 M) (fun o : Int × bM => b_fr W_X12_readOne_L1 M0 o.2) := by
  unfold F_X12_readOne_L1
  refine b_wl_b (b_wl_loop (A := (fun t : Int × bM => b_fr W_X12_readOne_L1 M0 t.2)) (fun t ht => w_X12_readOne_L1_s2 ht) hF) (fun t ht => ?_)
  replace hF : b_fr W_X12_readOne_L1 M0 t.2 := ht
  exact w_X12_readOne_L1_b36 hF
def W_X12_readAll_L1 : List (Nat × Option Int) := [(11, some 3), (11, some 4), (11, some 5), (11, some 6), (11, some 7), (11, some 8), (11, some 9), (11, some 10), (11, some 32), (11, some 49), (186, none), (187, none), (188, none), (189, none), (190, none), (191, none), (192, none), (193, none)]
theorem w_X12_readAll_L1_s9 {M0 M : bM} (hF : b_fr W_X12_readAll_L1 M0 M) : b_wl (F_X12_readAll_L1_s9 M) (Sum.elim (fun t : bM => b_fr W_X12_readAll_L1 M0 t) (Sum.elim (fun t : bM => b_fr W_X12_readAll_L1 M0 t) (fun o : Int × bM => b_fr W_X12_readAll_L1 M0 o.2))) := by
  unfold F_X12_readAll_L1_s9
  refine b_wl_i (fun c4 => ?_) (fun c4 => ?_)
  · refine b_wl_i (fun c5 => ?_) (fun c5 => ?_)
    · refine b_wl_b (w_X12_scan b_fr_refl) (fun o ho => ?_)
      replace hF := b_fr_tr hF (b_fr_mo (by decide +kernel) ho)
      refine b_wl_b (w_X12_readOne_L1 b_fr_refl) (fun o ho => ?_)
      refine b_wl_two ?_
      replace hF := b_fr_tr hF (b_fr_mo (by decide +kernel) ho)
      refine b_wl_i (fun c9 => ?_) (fun c9 => ?_)
      · exact b_wl_s hF
      · refine b_wl_b (w_X12_addStep b_fr_refl) (fun o ho => ?_)
        replace hF := b_fr_tr hF (b_fr_mo (by decide +kernel) ho)
        exact b_wl_s hF
    · exact b_wl_s hF
  · exact b_wl_s hF
theorem w_X12_readAll_L1_b47 {M0 M : bM} (hF : b_fr W_X12_readAll_L1 M0 M) : b_wl (F_X12_readAll_L1_b47 M) (fun o : Int × bM => b_fr W_X12_readAll_L1 M0 o.2) := by
  unfold F_X12_readAll_L1_b47
  exact b_wl_s hF
theorem w_X12_readAll_L1 {M0 M : bM} (hF : b_fr W_X12_readAll_L1 M0 M) : b_wl (F_X12_readAll_L1 M) (fun o : Int × bM => b_fr W_X12_readAll_L1 M0 o.2) := by
  unfold F_X12_readAll_L1
  refine b_wl_b (w_X12_readOne_L1 b_fr_refl) (fun o ho => ?_)
  refine b_wl_two ?_
  replace hF := b_fr_tr hF (b_fr_mo (by decide +kernel) ho)
  refine b_wl_i (fun c3 => ?_) (fun c3 => ?_)
  · exact b_wl_s hF
  · refine b_wl_b (b_wl_loop (A := (fun t : bM => b_fr W_X12_readAll_L1 M0 t)) (fun t ht => w_X12_readAll_L1_s9 ht) hF) (fun t ht => ?_)
    cases t with
    | inr o => exact b_wl_s ht
    | inl t =>
      replace hF : b_fr W_X12_readAll_L1 M0 t := ht
      refine b_wl_inl ?_
      exact w_X12_readAll_L1_b47 hF
def W_X12_readCond_L1 : List (Nat × Option Int) := [(11, some 3), (11, some 4), (11, some 5), (11, some 6), (11, some 7), (11, some 8), (11, some 9), (11, some 10), (11, some 32), (11, some 49), (186, none), (187, none), (188, none), (189, none), (190, none), (191, none), (192, none), (193, none)]
theorem w_X12_readCond_L1_s9 {M0 M : bM} (hF : b_fr W_X12_readCond_L1 M0 M) : b_wl (F_X12_readCond_L1_s9 M) (Sum.elim (fun t : bM => b_fr W_X12_readCond_L1 M0 t) (Sum.elim (fun t : bM => b_fr W_X12_readCond_L1 M0 t) (fun o : Int × bM => b_fr W_X12_readCond_L1 M0 o.2))) := by
  unfold F_X12_readCond_L1_s9
  refine b_wl_i (fun c4 => ?_) (fun c4 => ?_)
  · refine b_wl_i (fun c5 => ?_) (fun c5 => ?_)
    · refine b_wl_b (w_X12_scan b_fr_refl) (fun o ho => ?_)
      replace hF := b_fr_tr hF (b_fr_mo (by decide +kernel) ho)
      refine b_wl_b (w_X12_readAll_L1 b_fr_refl) (fun o ho => ?_)
      refine b_wl_two ?_
      replace hF := b_fr_tr hF (b_fr_mo (by decide +kernel) ho)
      refine b_wl_i (fun c9 => ?_) (fun c9 => ?_)
      · exact b_wl_s hF
      · refine b_wl_b (w_X12_addStep b_fr_refl) (fun o ho => ?_)
        replace hF := b_fr_tr hF (b_fr_mo (by decide +kernel) ho)
        exact b_wl_s hF
    · exact b_wl_s hF
  · exact b_wl_s hF
theorem w_X12_readCond_L1_b48 {M0 M : bM} (hF : b_fr W_X12_readCond_L1 M0 M) : b_wl (F_X12_readCond_L1_b48 M) (fun o : Int × bM => b_fr W_X12_readCond_L1 M0 o.2) := by
  unfold F_X12_readCond_L1_b48
  exact b_wl_s hF
theorem w_X12_readCond_L1 {M0 M : bM} (hF : b_fr W_X12_readCond_L1 M0 M) : b_wl (F_X12_readCond_L1 M) (fun o : Int × bM => b_fr W_X12_readCond_L1 M0 o.2) := by
  unfold F_X12_readCond_L1
  refine b_wl_b (w_X12_readAll_L1 b_fr_refl) (fun o ho => ?_)
  refine b_wl_two ?_
  replace hF := b_fr_tr hF (b_fr_mo (by decide +kernel) ho)
  refine b_wl_i (fun c3 => ?_) (fun c3 => ?_)
  · exact b_wl_s hF
  · refine b_wl_b (b_wl_loop (A := (fun t : bM => b_fr W_X12_readCond_L1 M0 t)) (fun t ht => w_X12_readCond_L1_s9 ht) hF) (fun t ht => ?_)
    cases t with
    | inr o => exact b_wl_s ht
    | inl t =>
      replace hF : b_fr W_X12_readCond_L1 M0 t := ht
      refine b_wl_inl ?_
      exact w_X12_readCond_L1_b48 hF
def W_X12_readOne_L0 : List (Nat × Option Int) := [(11, some 3), (11, some 4), (11, some 5), (11, some 6), (11, some 7), (11, some 8), (11, some 9), (11, some 10), (11, some 32), (11, some 49), (186, none), (187, none), (188, none), (189, none), (190, none), (191, none), (192, none), (193, none)]
theorem w_X12_readOne_L0_b28 {u0 : Int} {M0 M : bM} (hF : b_fr W_X12_readOne_L0 M0 M) : b_wl (F_X12_readOne_L0_b28 u0 M) (Sum.elim (fun t : Int × bM => b_fr W_X12_readOne_L0 M0 t.2) (fun t : Int × bM => b_fr W_X12_readOne_L0 M0 t.2)) := by
  unfold F_X12_readOne_L0_b28
  refine b_wl_b (w_X12_scan b_fr_refl) (fun o ho => ?_)
  replace hF := b_fr_tr hF (b_fr_mo (by decide +kernel) ho)
  exact b_wl_s hF
theorem w_X12_readOne_L0_s2 {v1 : Int} {M0 M : bM} (hF : b_fr W_X12_readOne_L0 M0 M) : b_wl (F_X12_readOne_L0_s2 v1 M) (Sum.elim (fun t : Int × bM => b_fr W_X12_readOne_L0 M0 t.2) (fun t : Int × bM => b_fr W_X12_readOne_L0 M0 t.2)) := by
  unfold F_X12_readOne_L0_s2
  refine b_wl_i (fun c1 => ?_) (fun c1 => ?_)
  · refine b_wl_i (fun c2 => ?_) (fun c2 => ?_)
    · refine b_wl_i (fun c3 => ?_) (fun c3 => ?_)
      · exact w_X12_readOne_L0_b28 hF
      · exact w_X12_readOne_L0_b28 hF
    · exact b_wl_s hF
  · exact b_wl_s hF
theorem w_X12_readOne_L0_b122 {v1 : Int} {M0 M : bM} (hF : b_fr W_X12_readOne_L0 M0 M) : b_wl (F_X12_readOne_L0_b122 v1 M) (fun o : Int × bM => b_fr W_X12_readOne_L0 M0 o.2) := by
  unfold F_X12_readOne_L0_b122
  refine b_wl_i (fun c9 => ?_) (fun c9 => ?_)
  · exact b_wl_s hF
  · refine b_wl_b (w_X12_addStep b_fr_refl) (fun o ho => ?_)
    replace hF := b_fr_tr hF (b_fr_mo (by decide +kernel) ho)
    exact b_wl_s hF
theorem w_X12_readOne_L0_b36 {v1 : Int} {M0 M : bM} (hF : b_fr W_X12_readOne_L0 M0 M) : b_wl (F_X12_readOne_L0_b36 v1 M) (fun o : Int × bM => b_fr W_X12_readOne_L0 M0 o.2) := by
  unfold F_X12_readOne_L0_b36
  refine b_wl_i (fun c5 => ?_) (fun c5 => ?_)
  · refine b_wl_i (fun c11 => ?_) (fun c11 => ?_)
    · refine b_wl_b (w_X12_wrong b_fr_refl) (fun o ho => ?_)
      refine b_wl_two ?_
      replace hF := b_fr_tr hF (b_fr_mo (by decide +kernel) ho)
      refine b_wl_g (fun hg => ?_)
      exact b_wl_s hF
    · refine b_wl_g (fun hg => ?_)
      refine b_wl_lF (c := 11) (i := 49) hF (by decide +kernel) (fun hF => ?_)
      refine b_wl_b (w_X12_scan b_fr_refl) (fun o ho => ?_)
      replace hF := b_fr_tr hF (b_fr_mo (by decide +kernel) ho)
      refine b_wl_b (w_X12_readCond_L1 b_fr_refl) (fun o ho => ?_)
      refine b_wl_two ?_
      replace hF := b_fr_tr hF (b_fr_mo (by decide +kernel) ho)
      refine b_wl_i (fun c17 => ?_) (fun c17 => ?_)
      · exact b_wl_s hF
      · refine b_wl_i (fun c18 => ?_) (fun c18 => ?_)
        · refine b_wl_g (fun hg => ?_)
          refine b_wl_lF (c := 11) (i := 49) hF (by decide +kernel) (fun hF => ?_)
          refine b_wl_b (w_X12_scan b_fr_refl) (fun o ho => ?_)
          replace hF := b_fr_tr hF (b_fr_mo (by decide +kernel) ho)
          exact w_X12_readOne_L0_b122 hF
        · refine b_wl_b (w_X12_wrong b_fr_refl) (fun o ho => ?_)
          refine b_wl_two ?_
          replace hF := b_fr_tr hF (b_fr_mo (by decide +kernel) ho)
          refine b_wl_g (fun hg => ?_)
          exact b_wl_s hF
  · refine b_wl_b (w_X12_readTest b_fr_refl) (fun o ho => ?_)
    refine b_wl_two ?_
    replace hF := b_fr_tr hF (b_fr_mo (by decide +kernel) ho)
    refine b_wl_i (fun c8 => ?_) (fun c8 => ?_)
    · exact b_wl_s hF
    · exact w_X12_readOne_L0_b122 hF
theorem w_X12_readOne_L0 {M0 M : bM} (hF : b_fr W_X12_readOne_L0 M0 M) : b_wl (F_X12_readOne_L0 M) (fun o : Int × bM => b_fr W_X12_readOne_L0 M0 o.2) := by
  unfold F_X12_readOne_L0
  refine b_wl_b (b_wl_loop (A := (fun t : Int × bM => b_fr W_X12_readOne_L0 M0 t.2)) (fun t ht => w_X12_readOne_L0_s2 ht) hF) (fun t ht => ?_)
  replace hF : b_fr W_X12_readOne_L0 M0 t.2 := ht
  exact w_X12_readOne_L0_b36 hF
def W_X12_readAll_L0 : List (Nat × Option Int) := [(11, some 3), (11, some 4), (11, some 5), (11, some 6), (11, some 7), (11, some 8), (11, some 9), (11, some 10), (11, some 32), (11, some 49), (186, none), (187, none), (188, none), (189, none), (190, none), (191, none), (192, none), (193, none)]
theorem w_X12_readAll_L0_s9 {M0 M : bM} (hF : b_fr W_X12_readAll_L0 M0 M) : b_wl (F_X12_readAll_L0_s9 M) (Sum.elim (fun t : bM => b_fr W_X12_readAll_L0 M0 t) (Sum.elim (fun t : bM => b_fr W_X12_readAll_L0 M0 t) (fun o : Int × bM => b_fr W_X12_readAll_L0 M0 o.2))) := by
  unfold F_X12_readAll_L0_s9
  refine b_wl_i (fun c4 => ?_) (fun c4 => ?_)
  · refine b_wl_i (fun c5 => ?_) (fun c5 => ?_)
    · refine b_wl_b (w_X12_scan b_fr_refl) (fun o ho => ?_)
      replace hF := b_fr_tr hF (b_fr_mo (by decide +kernel) ho)
      refine b_wl_b (w_X12_readOne_L0 b_fr_refl) (fun o ho => ?_)
      refine b_wl_two ?_
      replace hF := b_fr_tr hF (b_fr_mo (by decide +kernel) ho)
      refine b_wl_i (fun c9 => ?_) (fun c9 => ?_)
      · exact b_wl_s hF
      · refine b_wl_b (w_X12_addStep b_fr_refl) (fun o ho => ?_)
        replace hF := b_fr_tr hF (b_fr_mo (by decide +kernel) ho)
        exact b_wl_s hF
    · exact b_wl_s hF
  · exact b_wl_s hF
theorem w_X12_readAll_L0_b47 {M0 M : bM} (hF : b_fr W_X12_readAll_L0 M0 M) : b_wl (F_X12_readAll_L0_b47 M) (fun o : Int × bM => b_fr W_X12_readAll_L0 M0 o.2) := by
  unfold F_X12_readAll_L0_b47
  exact b_wl_s hF
theorem w_X12_readAll_L0 {M0 M : bM} (hF : b_fr W_X12_readAll_L0 M0 M) : b_wl (F_X12_readAll_L0 M) (fun o : Int × bM => b_fr W_X12_readAll_L0 M0 o.2) := by
  unfold F_X12_readAll_L0
  refine b_wl_b (w_X12_readOne_L0 b_fr_refl) (fun o ho => ?_)
  refine b_wl_two ?_
  replace hF := b_fr_tr hF (b_fr_mo (by decide +kernel) ho)
  refine b_wl_i (fun c3 => ?_) (fun c3 => ?_)
  · exact b_wl_s hF
  · refine b_wl_b (b_wl_loop (A := (fun t : bM => b_fr W_X12_readAll_L0 M0 t)) (fun t ht => w_X12_readAll_L0_s9 ht) hF) (fun t ht => ?_)
    cases t with
    | inr o => exact b_wl_s ht
    | inl t =>
      replace hF : b_fr W_X12_readAll_L0 M0 t := ht
      refine b_wl_inl ?_
      exact w_X12_readAll_L0_b47 hF
def W_X12_readCond_L0 : List (Nat × Option Int) := [(11, some 3), (11, some 4), (11, some 5), (11, some 6), (11, some 7), (11, some 8), (11, some 9), (11, some 10), (11, some 32), (11, some 49), (186, none), (187, none), (188, none), (189, none), (190, none), (191, none), (192, none), (193, none)]
theorem w_X12_readCond_L0_s9 {M0 M : bM} (hF : b_fr W_X12_readCond_L0 M0 M) : b_wl (F_X12_readCond_L0_s9 M) (Sum.elim (fun t : bM => b_fr W_X12_readCond_L0 M0 t) (Sum.elim (fun t : bM => b_fr W_X12_readCond_L0 M0 t) (fun o : Int × bM => b_fr W_X12_readCond_L0 M0 o.2))) := by
  unfold F_X12_readCond_L0_s9
  refine b_wl_i (fun c4 => ?_) (fun c4 => ?_)
  · refine b_wl_i (fun c5 => ?_) (fun c5 => ?_)
    · refine b_wl_b (w_X12_scan b_fr_refl) (fun o ho => ?_)
      replace hF := b_fr_tr hF (b_fr_mo (by decide +kernel) ho)
      refine b_wl_b (w_X12_readAll_L0 b_fr_refl) (fun o ho => ?_)
      refine b_wl_two ?_
      replace hF := b_fr_tr hF (b_fr_mo (by decide +kernel) ho)
      refine b_wl_i (fun c9 => ?_) (fun c9 => ?_)
      · exact b_wl_s hF
      · refine b_wl_b (w_X12_addStep b_fr_refl) (fun o ho => ?_)
        replace hF := b_fr_tr hF (b_fr_mo (by decide +kernel) ho)
        exact b_wl_s hF
    · exact b_wl_s hF
  · exact b_wl_s hF
theorem w_X12_readCond_L0_b48 {M0 M : bM} (hF : b_fr W_X12_readCond_L0 M0 M) : b_wl (F_X12_readCond_L0_b48 M) (fun o : Int × bM => b_fr W_X12_readCond_L0 M0 o.2) := by
  unfold F_X12_readCond_L0_b48
  exact b_wl_s hF
theorem w_X12_readCond_L0 {M0 M : bM} (hF : b_fr W_X12_readCond_L0 M0 M) : b_wl (F_X12_readCond_L0 M) (fun o : Int × bM => b_fr W_X12_readCond_L0 M0 o.2) := by
  unfold F_X12_readCond_L0
  refine b_wl_b (w_X12_readAll_L0 b_fr_refl) (fun o ho => ?_)
  refine b_wl_two ?_
  replace hF := b_fr_tr hF (b_fr_mo (by decide +kernel) ho)
  refine b_wl_i (fun c3 => ?_) (fun c3 => ?_)
  · exact b_wl_s hF
  · refine b_wl_b (b_wl_loop (A := (fun t : bM => b_fr W_X12_readCond_L0 M0 t)) (fun t ht => w_X12_readCond_L0_s9 ht) hF) (fun t ht => ?_)
    cases t with
    | inr o => exact b_wl_s ht
    | inl t =>
      replace hF : b_fr W_X12_readCond_L0 M0 t := ht
      refine b_wl_inl ?_
      exact w_X12_readCond_L0_b48 hF
def W_X12_readProof : List (Nat × Option Int) := [(11, some 3), (11, some 4), (11, some 5), (11, some 6), (11, some 7), (11, some 8), (11, some 9), (11, some 10), (11, some 32), (11, some 48), (11, some 49), (183, none), (184, none), (185, none), (186, none), (187, none), (188, none), (189, none), (190, none), (191, none), (192, none), (193, none)]
theorem w_X12_readProof_b59 {M0 M : bM} (hF : b_fr W_X12_readProof M0 M) : b_wl (F_X12_readProof_b59 M) (fun o : Int × bM => b_fr W_X12_readProof M0 o.2) := by
  unfold F_X12_readProof_b59
  refine b_wl_b (w_X12_wrong b_fr_refl) (fun o ho => ?_)
  refine b_wl_two ?_
  replace hF := b_fr_tr hF (b_fr_mo (by decide +kernel) ho)
  refine b_wl_g (fun hg => ?_)
  exact b_wl_s hF
theorem w_X12_readProof_b165 {M0 M : bM} (hF : b_fr W_X12_readProof M0 M) : b_wl (F_X12_readProof_b165 M) (fun o : Int × bM => b_fr W_X12_readProof M0 o.2) := by
  unfold F_X12_readProof_b165
  refine b_wl_g (fun hg => ?_)
  refine b_wl_lA (c := 183) hF (by decide +kernel) (fun hF => ?_)
  exact b_wl_s hF
theorem w_X12_readProof {M0 M : bM} (hF : b_fr W_X12_readProof M0 M) : b_wl (F_X12_readProof M) (fun o : Int × bM => b_fr W_X12_readProof M0 o.2) := by
  unfold F_X12_readProof
  refine b_wl_i (fun c1 => ?_) (fun c1 => ?_)
  · refine b_wl_b (w_X12_wrong b_fr_refl) (fun o ho => ?_)
    refine b_wl_two ?_
    replace hF := b_fr_tr hF (b_fr_mo (by decide +kernel) ho)
    refine b_wl_g (fun hg => ?_)
    exact b_wl_s hF
  · refine b_wl_g (fun hg => ?_)
    refine b_wl_lF (c := 11) (i := 48) hF (by decide +kernel) (fun hF => ?_)
    refine b_wl_b (w_X12_scan b_fr_refl) (fun o ho => ?_)
    replace hF := b_fr_tr hF (b_fr_mo (by decide +kernel) ho)
    refine b_wl_i (fun c5 => ?_) (fun c5 => ?_)
    · refine b_wl_b b_wl_any (fun o _ => ?_)
      refine b_wl_i (fun c10 => ?_) (fun c10 => ?_)
      · exact w_X12_readProof_b59 hF
      · refine b_wl_g (fun hg => ?_)
        refine b_wl_lA (c := 184) hF (by decide +kernel) (fun hF => ?_)
        refine b_wl_b (w_X12_scan b_fr_refl) (fun o ho => ?_)
        replace hF := b_fr_tr hF (b_fr_mo (by decide +kernel) ho)
        refine b_wl_b (w_X12_readNumber b_fr_refl) (fun o ho => ?_)
        refine b_wl_two ?_
        replace hF := b_fr_tr hF (b_fr_mo (by decide +kernel) ho)
        refine b_wl_i (fun c17 => ?_) (fun c17 => ?_)
        · exact b_wl_s hF
        · refine b_wl_g (fun hg => ?_)
          refine b_wl_lA (c := 185) hF (by decide +kernel) (fun hF => ?_)
          refine b_wl_g (fun hg => ?_)
          refine b_wl_lA (c := 186) hF (by decide +kernel) (fun hF => ?_)
          refine b_wl_g (fun hg => ?_)
          refine b_wl_lA (c := 187) hF (by decide +kernel) (fun hF => ?_)
          refine b_wl_i (fun c24 => ?_) (fun c24 => ?_)
          · refine b_wl_i (fun c27 => ?_) (fun c27 => ?_)
            · refine b_wl_b (w_X12_scan b_fr_refl) (fun o ho => ?_)
              replace hF := b_fr_tr hF (b_fr_mo (by decide +kernel) ho)
              refine b_wl_lF (c := 11) (i := 49) hF (by decide +kernel) (fun hF => ?_)
              refine b_wl_b (w_X12_readCond_L0 b_fr_refl) (fun o ho => ?_)
              refine b_wl_two ?_
              replace hF := b_fr_tr hF (b_fr_mo (by decide +kernel) ho)
              refine b_wl_i (fun c32 => ?_) (fun c32 => ?_)
              · exact b_wl_s hF
              · exact w_X12_readProof_b165 hF
            · exact w_X12_readProof_b165 hF
          · exact w_X12_readProof_b165 hF
    · exact w_X12_readProof_b59 hF
def W_X12_readClause : List (Nat × Option Int) := [(11, some 3), (11, some 4), (11, some 5), (11, some 6), (11, some 7), (11, some 8), (11, some 9), (11, some 10), (11, some 32), (11, some 48), (11, some 49), (11, some 50), (11, some 51), (183, none), (184, none), (185, none), (186, none), (187, none), (188, none), (189, none), (190, none), (191, none), (192, none), (193, none)]
theorem w_X12_readClause_b21 {M0 M : bM} (hF : b_fr W_X12_readClause M0 M) : b_wl (F_X12_readClause_b21 M) (fun o : Int × bM => b_fr W_X12_readClause M0 o.2) := by
  unfold F_X12_readClause_b21
  refine b_wl_b (w_X12_wrong b_fr_refl) (fun o ho => ?_)
  refine b_wl_two ?_
  replace hF := b_fr_tr hF (b_fr_mo (by decide +kernel) ho)
  refine b_wl_g (fun hg => ?_)
  exact b_wl_s hF
theorem w_X12_readClause_b144 {v2 : Int} {M0 M : bM} (hF : b_fr W_X12_readClause M0 M) : b_wl (F_X12_readClause_b144 v2 M) (fun o : Int × bM => b_fr W_X12_readClause M0 o.2) := by
  unfold F_X12_readClause_b144
  refine b_wl_i (fun c14 => ?_) (fun c14 => ?_)
  · exact b_wl_s hF
  · refine b_wl_i (fun c15 => ?_) (fun c15 => ?_)
    · refine b_wl_b (w_X12_scan b_fr_refl) (fun o ho => ?_)
      replace hF := b_fr_tr hF (b_fr_mo (by decide +kernel) ho)
      refine b_wl_g (fun hg => ?_)
      refine b_wl_lF (c := 11) (i := 50) hF (by decide +kernel) (fun hF => ?_)
      exact b_wl_s hF
    · refine b_wl_b (w_X12_wrong b_fr_refl) (fun o ho => ?_)
      refine b_wl_two ?_
      replace hF := b_fr_tr hF (b_fr_mo (by decide +kernel) ho)
      refine b_wl_g (fun hg => ?_)
      exact b_wl_s hF
theorem w_X12_readClause_b124 {v1 : Int} {u0 : Int} {M0 M : bM} (hF : b_fr W_X12_readClause M0 M) : b_wl (F_X12_readClause_b124 v1 u0 M) (fun o : Int × bM => b_fr W_X12_readClause M0 o.2) := by
  unfold F_X12_readClause_b124
  refine b_wl_i (fun c13 => ?_) (fun c13 => ?_)
  · exact w_X12_readClause_b144 hF
  · refine b_wl_g (fun hg => ?_)
    refine b_wl_lA (c := 183) hF (by decide +kernel) (fun hF => ?_)
    exact w_X12_readClause_b144 hF
theorem w_X12_readClause_b119 {v1 : Int} {M0 M : bM} (hF : b_fr W_X12_readClause M0 M) : b_wl (F_X12_readClause_b119 v1 M) (fun o : Int × bM => b_fr W_X12_readClause M0 o.2) := by
  unfold F_X12_readClause_b119
  exact w_X12_readClause_b124 hF
theorem w_X12_readClause_b107 {v1 : Int} {u1 : Int} {M0 M : bM} (hF : b_fr W_X12_readClause M0 M) : b_wl (F_X12_readClause_b107 v1 u1 M) (fun o : Int × bM => b_fr W_X12_readClause M0 o.2) := by
  unfold F_X12_readClause_b107
  refine b_wl_g (fun hg => ?_)
  refine b_wl_b b_wl_any (fun o _ => ?_)
  refine b_wl_b (w_X12_readNumber b_fr_refl) (fun o ho => ?_)
  refine b_wl_two ?_
  replace hF := b_fr_tr hF (b_fr_mo (by decide +kernel) ho)
  refine b_wl_i (fun c31 => ?_) (fun c31 => ?_)
  · exact w_X12_readClause_b124 hF
  · exact w_X12_readClause_b119 hF
theorem w_X12_readClause_b102 {v1 : Int} {M0 M : bM} (hF : b_fr W_X12_readClause M0 M) : b_wl (F_X12_readClause_b102 v1 M) (fun o : Int × bM => b_fr W_X12_readClause M0 o.2) := by
  unfold F_X12_readClause_b102
  exact w_X12_readClause_b107 hF
theorem w_X12_readClause {M0 M : bM} (hF : b_fr W_X12_readClause M0 M) : b_wl (F_X12_readClause M) (fun o : Int × bM => b_fr W_X12_readClause M0 o.2) := by
  unfold F_X12_readClause
  refine b_wl_i (fun c1 => ?_) (fun c1 => ?_)
  · refine b_wl_b b_wl_any (fun o _ => ?_)
    refine b_wl_i (fun c6 => ?_) (fun c6 => ?_)
    · exact w_X12_readClause_b21 hF
    · refine b_wl_i (fun c7 => ?_) (fun c7 => ?_)
      · refine b_wl_b (w_X12_readProof b_fr_refl) (fun o ho => ?_)
        refine b_wl_two ?_
        replace hF := b_fr_tr hF (b_fr_mo (by decide +kernel) ho)
        exact w_X12_readClause_b144 hF
      · refine b_wl_i (fun c8 => ?_) (fun c8 => ?_)
        · refine b_wl_b (w_X12_wrong b_fr_refl) (fun o ho => ?_)
          refine b_wl_two ?_
          replace hF := b_fr_tr hF (b_fr_mo (by decide +kernel) ho)
          refine b_wl_g (fun hg => ?_)
          exact b_wl_s hF
        · refine b_wl_lF (c := 11) (i := 51) hF (by decide +kernel) (fun hF => ?_)
          refine b_wl_b (w_X12_scan b_fr_refl) (fun o ho => ?_)
          replace hF := b_fr_tr hF (b_fr_mo (by decide +kernel) ho)
          refine b_wl_lF (c := 11) (i := 32) hF (by decide +kernel) (fun hF => ?_)
          refine b_wl_i (fun c12 => ?_) (fun c12 => ?_)
          · exact w_X12_readClause_b119 hF
          · refine b_wl_i (fun c26 => ?_) (fun c26 => ?_)
            · exact w_X12_readClause_b102 hF
            · refine b_wl_i (fun c32 => ?_) (fun c32 => ?_)
              · exact w_X12_readClause_b102 hF
              · exact w_X12_readClause_b107 hF
  · exact w_X12_readClause_b21 hF
def W_X12_act : List (Nat × Option Int) := [(11, some 1), (11, some 2), (11, some 3), (11, some 4), (11, some 5), (11, some 6), (11, some 7), (11, some 8), (11, some 9), (11, some 10), (11, some 32), (11, some 35), (11, some 48), (11, some 49), (11, some 50), (11, some 51), (182, none), (183, none), (184, none), (185, none), (186, none), (187, none), (188, none), (189, none), (190, none), (191, none), (192, none), (193, none)]
theorem w_X12_act_s26 {v1 : Int} {M0 M : bM} (hF : b_fr W_X12_act M0 M) : b_wl (F_X12_act_s26 v1 M) (Sum.elim (fun t : Int × bM => b_fr W_X12_act M0 t.2) (fun t : bM => b_fr W_X12_act M0 t)) := by
  unfold F_X12_act_s26
  refine b_wl_i (fun c6 => ?_) (fun c6 => ?_)
  · exact b_wl_s hF
  · refine b_wl_g (fun hg => ?_)
    refine b_wl_b b_wl_any (fun o _ => ?_)
    refine b_wl_g (fun hg => ?_)
    refine b_wl_lA (c := 183) hF (by decide +kernel) (fun hF => ?_)
    refine b_wl_g (fun hg => ?_)
    exact b_wl_s hF
theorem w_X12_act_s51 {M0 M : bM} (hF : b_fr W_X12_act M0 M) : b_wl (F_X12_act_s51 M) (Sum.elim (fun t : bM => b_fr W_X12_act M0 t) (Sum.elim (fun t : bM => b_fr W_X12_act M0 t) (fun o : Int × bM => b_fr W_X12_act M0 o.2))) := by
  unfold F_X12_act_s51
  refine b_wl_i (fun c12 => ?_) (fun c12 => ?_)
  · exact b_wl_s hF
  · refine b_wl_b (w_X12_readClause b_fr_refl) (fun o ho => ?_)
    refine b_wl_two ?_
    replace hF := b_fr_tr hF (b_fr_mo (by decide +kernel) ho)
    refine b_wl_i (fun c15 => ?_) (fun c15 => ?_)
    · exact b_wl_s hF
    · exact b_wl_s hF
theorem w_X12_act_s96 {v1 : Int} {M0 M : bM} (hF : b_fr W_X12_act M0 M) : b_wl (F_X12_act_s96 v1 M) (Sum.elim (fun t : Int × bM => b_fr W_X12_act M0 t.2) (fun t : bM => b_fr W_X12_act M0 t)) := by
  unfold F_X12_act_s96
  refine b_wl_i (fun c19 => ?_) (fun c19 => ?_)
  · exact b_wl_s hF
  · refine b_wl_g (fun hg => ?_)
    refine b_wl_lA (c := 183) hF (by decide +kernel) (fun hF => ?_)
    refine b_wl_g (fun hg => ?_)
    exact b_wl_s hF
theorem w_X12_act_s133 {v1 : Int} {M0 M : bM} (hF : b_fr W_X12_act M0 M) : b_wl (F_X12_act_s133 v1 M) (Sum.elim (fun t : Int × bM => b_fr W_X12_act M0 t.2) (fun t : bM => b_fr W_X12_act M0 t)) := by
  unfold F_X12_act_s133
  refine b_wl_i (fun c27 => ?_) (fun c27 => ?_)
  · exact b_wl_s hF
  · refine b_wl_g (fun hg => ?_)
    refine b_wl_l ?_
    refine b_wl_g (fun hg => ?_)
    refine b_wl_l ?_
    refine b_wl_g (fun hg => ?_)
    refine b_wl_lA (c := 184) hF (by decide +kernel) (fun hF => ?_)
    refine b_wl_g (fun hg => ?_)
    refine b_wl_lA (c := 185) hF (by decide +kernel) (fun hF => ?_)
    refine b_wl_g (fun hg => ?_)
    refine b_wl_lA (c := 186) hF (by decide +kernel) (fun hF => ?_)
    refine b_wl_g (fun hg => ?_)
    refine b_wl_lA (c := 187) hF (by decide +kernel) (fun hF => ?_)
    refine b_wl_g (fun hg => ?_)
    exact b_wl_s hF
theorem w_X12_act_s211 {v1 : Int} {M0 M : bM} (hF : b_fr W_X12_act M0 M) : b_wl (F_X12_act_s211 v1 M) (Sum.elim (fun t : Int × bM => b_fr W_X12_act M0 t.2) (fun t : bM => b_fr W_X12_act M0 t)) := by
  unfold F_X12_act_s211
  refine b_wl_i (fun c46 => ?_) (fun c46 => ?_)
  · exact b_wl_s hF
  · refine b_wl_g (fun hg => ?_)
    refine b_wl_lA (c := 188) hF (by decide +kernel) (fun hF => ?_)
    refine b_wl_g (fun hg => ?_)
    exact b_wl_s hF
theorem w_X12_act_s251 {v1 : Int} {M0 M : bM} (hF : b_fr W_X12_act M0 M) : b_wl (F_X12_act_s251 v1 M) (Sum.elim (fun t : Int × bM => b_fr W_X12_act M0 t.2) (fun t : bM => b_fr W_X12_act M0 t)) := by
  unfold F_X12_act_s251
  refine b_wl_i (fun c54 => ?_) (fun c54 => ?_)
  · exact b_wl_s hF
  · refine b_wl_g (fun hg => ?_)
    refine b_wl_lA (c := 189) hF (by decide +kernel) (fun hF => ?_)
    refine b_wl_g (fun hg => ?_)
    refine b_wl_lA (c := 190) hF (by decide +kernel) (fun hF => ?_)
    refine b_wl_g (fun hg => ?_)
    refine b_wl_lA (c := 191) hF (by decide +kernel) (fun hF => ?_)
    refine b_wl_g (fun hg => ?_)
    exact b_wl_s hF
theorem w_X12_act_s341 {v1 : Int} {M0 M : bM} (hF : b_fr W_X12_act M0 M) : b_wl (F_X12_act_s341 v1 M) (Sum.elim (fun t : Int × bM => b_fr W_X12_act M0 t.2) (fun t : bM => b_fr W_X12_act M0 t)) := by
  unfold F_X12_act_s341
  refine b_wl_i (fun c74 => ?_) (fun c74 => ?_)
  · exact b_wl_s hF
  · refine b_wl_g (fun hg => ?_)
    refine b_wl_lA (c := 192) hF (by decide +kernel) (fun hF => ?_)
    refine b_wl_g (fun hg => ?_)
    refine b_wl_lA (c := 193) hF (by decide +kernel) (fun hF => ?_)
    refine b_wl_g (fun hg => ?_)
    exact b_wl_s hF
theorem w_X12_act_b404 {M0 M : bM} (hF : b_fr W_X12_act M0 M) : b_wl (F_X12_act_b404 M) (fun o : Int × bM => b_fr W_X12_act M0 o.2) := by
  unfold F_X12_act_b404
  refine b_wl_g (fun hg => ?_)
  refine b_wl_lF (c := 11) (i := 35) hF (by decide +kernel) (fun hF => ?_)
  exact b_wl_s hF
theorem w_X12_act_b339 {M0 M : bM} (hF : b_fr W_X12_act M0 M) : b_wl (F_X12_act_b339 M) (fun o : Int × bM => b_fr W_X12_act M0 o.2) := by
  unfold F_X12_act_b339
  refine b_wl_b (b_wl_loop (A := (fun t : Int × bM => b_fr W_X12_act M0 t.2)) (fun t ht => w_X12_act_s341 ht) hF) (fun t ht => ?_)
  replace hF : b_fr W_X12_act M0 t := ht
  exact w_X12_act_b404 hF
theorem w_X12_act_b249 {M0 M : bM} (hF : b_fr W_X12_act M0 M) : b_wl (F_X12_act_b249 M) (fun o : Int × bM => b_fr W_X12_act M0 o.2) := by
  unfold F_X12_act_b249
  refine b_wl_b (b_wl_loop (A := (fun t : Int × bM => b_fr W_X12_act M0 t.2)) (fun t ht => w_X12_act_s251 ht) hF) (fun t ht => ?_)
  replace hF : b_fr W_X12_act M0 t := ht
  exact w_X12_act_b339 hF
theorem w_X12_act_b209 {M0 M : bM} (hF : b_fr W_X12_act M0 M) : b_wl (F_X12_act_b209 M) (fun o : Int × bM => b_fr W_X12_act M0 o.2) := by
  unfold F_X12_act_b209
  refine b_wl_b (b_wl_loop (A := (fun t : Int × bM => b_fr W_X12_act M0 t.2)) (fun t ht => w_X12_act_s211 ht) hF) (fun t ht => ?_)
  replace hF : b_fr W_X12_act M0 t := ht
  exact w_X12_act_b249 hF
theorem w_X12_act_b131 {M0 M : bM} (hF : b_fr W_X12_act M0 M) : b_wl (F_X12_act_b131 M) (fun o : Int × bM => b_fr W_X12_act M0 o.2) := by
  unfold F_X12_act_b131
  refine b_wl_b (b_wl_loop (A := (fun t : Int × bM => b_fr W_X12_act M0 t.2)) (fun t ht => w_X12_act_s133 ht) hF) (fun t ht => ?_)
  replace hF : b_fr W_X12_act M0 t := ht
  exact w_X12_act_b209 hF
theorem w_X12_act_b69 {M0 M : bM} (hF : b_fr W_X12_act M0 M) : b_wl (F_X12_act_b69 M) (fun o : Int × bM => b_fr W_X12_act M0 o.2) := by
  unfold F_X12_act_b69
  refine b_wl_i (fun c16 => ?_) (fun c16 => ?_)
  · exact b_wl_s hF
  · refine b_wl_g (fun hg => ?_)
    refine b_wl_lA (c := 182) hF (by decide +kernel) (fun hF => ?_)
    refine b_wl_b (b_wl_loop (A := (fun t : Int × bM => b_fr W_X12_act M0 t.2)) (fun t ht => w_X12_act_s96 ht) hF) (fun t ht => ?_)
    replace hF : b_fr W_X12_act M0 t := ht
    exact w_X12_act_b131 hF
theorem w_X12_act {M0 M : bM} (hF : b_fr W_X12_act M0 M) : b_wl (F_X12_act M) (fun o : Int × bM => b_fr W_X12_act M0 o.2) := by
  unfold F_X12_act
  refine b_wl_b (w_X12_take b_fr_refl) (fun o ho => ?_)
  replace hF := b_fr_tr hF (b_fr_mo (by decide +kernel) ho)
  refine b_wl_lF (c := 11) (i := 8) hF (by decide +kernel) (fun hF => ?_)
  refine b_wl_lF (c := 11) (i := 9) hF (by decide +kernel) (fun hF => ?_)
  refine b_wl_lF (c := 11) (i := 50) hF (by decide +kernel) (fun hF => ?_)
  refine b_wl_lF (c := 11) (i := 51) hF (by decide +kernel) (fun hF => ?_)
  refine b_wl_b (b_wl_loop (A := (fun t : Int × bM => b_fr W_X12_act M0 t.2)) (fun t ht => w_X12_act_s26 ht) hF) (fun t ht => ?_)
  replace hF : b_fr W_X12_act M0 t := ht
  refine b_wl_b (b_wl_loop (A := (fun t : bM => b_fr W_X12_act M0 t)) (fun t ht => w_X12_act_s51 ht) hF) (fun t ht => ?_)
  cases t with
  | inr o => exact b_wl_s ht
  | inl t =>
    replace hF : b_fr W_X12_act M0 t := ht
    refine b_wl_inl ?_
    exact w_X12_act_b69 hF
def W_X12_readMarks : List (Nat × Option Int) := [(11, some 3), (11, some 4), (11, some 5), (11, some 6), (11, some 7), (11, some 10), (205, none), (206, none), (207, none)]
theorem w_X12_readMarks_s43 {v1 : Int} {v2 : Int} {M0 M : bM} (hF : b_fr W_X12_readMarks M0 M) : b_wl (F_X12_readMarks_s43 v1 v2 M) (Sum.elim (fun _ : Int => True) (Sum.elim (fun _ : Unit => True) (Sum.elim (fun t : bM => b_fr W_X12_readMarks M0 t) (Sum.elim (fun t : bM => b_fr W_X12_readMarks M0 t) (fun o : Int × bM => b_fr W_X12_readMarks M0 o.2))))) := by
  unfold F_X12_readMarks_s43
  refine b_wl_i (fun c6 => ?_) (fun c6 => ?_)
  · exact b_wl_s trivial
  · refine b_wl_g (fun hg => ?_)
    refine b_wl_i (fun c9 => ?_) (fun c9 => ?_)
    · exact b_wl_s hF
    · refine b_wl_g (fun hg => ?_)
      exact b_wl_s trivial
theorem w_X12_readMarks_b143 {M0 M : bM} (hF : b_fr W_X12_readMarks M0 M) : b_wl (F_X12_readMarks_b143 M) (Sum.elim (fun t : bM => b_fr W_X12_readMarks M0 t) (Sum.elim (fun t : bM => b_fr W_X12_readMarks M0 t) (fun o : Int × bM => b_fr W_X12_readMarks M0 o.2))) := by
  unfold F_X12_readMarks_b143
  refine b_wl_i (fun c19 => ?_) (fun c19 => ?_)
  · refine b_wl_b (w_X12_scan b_fr_refl) (fun o ho => ?_)
    replace hF := b_fr_tr hF (b_fr_mo (by decide +kernel) ho)
    refine b_wl_g (fun hg => ?_)
    refine b_wl_lA (c := 207) hF (by decide +kernel) (fun hF => ?_)
    exact b_wl_s hF
  · exact b_wl_s hF
theorem w_X12_readMarks_b74 {v1 : Int} {M0 M : bM} (hF : b_fr W_X12_readMarks M0 M) : b_wl (F_X12_readMarks_b74 v1 M) (Sum.elim (fun t : bM => b_fr W_X12_readMarks M0 t) (Sum.elim (fun t : bM => b_fr W_X12_readMarks M0 t) (fun o : Int × bM => b_fr W_X12_readMarks M0 o.2))) := by
  unfold F_X12_readMarks_b74
  refine b_wl_g (fun hg => ?_)
  refine b_wl_lA (c := 205) hF (by decide +kernel) (fun hF => ?_)
  refine b_wl_g (fun hg => ?_)
  refine b_wl_lA (c := 206) hF (by decide +kernel) (fun hF => ?_)
  refine b_wl_b (w_X12_scan b_fr_refl) (fun o ho => ?_)
  replace hF := b_fr_tr hF (b_fr_mo (by decide +kernel) ho)
  refine b_wl_i (fun c18 => ?_) (fun c18 => ?_)
  · refine b_wl_b (w_X12_scan b_fr_refl) (fun o ho => ?_)
    replace hF := b_fr_tr hF (b_fr_mo (by decide +kernel) ho)
    refine b_wl_i (fun c24 => ?_) (fun c24 => ?_)
    · refine b_wl_g (fun hg => ?_)
      refine b_wl_lA (c := 206) hF (by decide +kernel) (fun hF => ?_)
      refine b_wl_b (w_X12_scan b_fr_refl) (fun o ho => ?_)
      replace hF := b_fr_tr hF (b_fr_mo (by decide +kernel) ho)
      exact w_X12_readMarks_b143 hF
    · exact b_wl_s hF
  · exact w_X12_readMarks_b143 hF
theorem w_X12_readMarks_s8 {M0 M : bM} (hF : b_fr W_X12_readMarks M0 M) : b_wl (F_X12_readMarks_s8 M) (Sum.elim (fun t : bM => b_fr W_X12_readMarks M0 t) (Sum.elim (fun t : bM => b_fr W_X12_readMarks M0 t) (fun o : Int × bM => b_fr W_X12_readMarks M0 o.2))) := by
  unfold F_X12_readMarks_s8
  refine b_wl_i (fun c2 => ?_) (fun c2 => ?_)
  · exact b_wl_s hF
  · refine b_wl_l ?_
    refine b_wl_i (fun c4 => ?_) (fun c4 => ?_)
    · refine b_wl_i (fun c5 => ?_) (fun c5 => ?_)
      · exact b_wl_s hF
      · refine b_wl_b (b_wl_loop (A := (fun _ : Int => True)) (fun t ht => w_X12_readMarks_s43 hF) trivial) (fun t ht => ?_)
        cases t with
        | inr o => exact b_wl_s ht
        | inl t =>
          refine b_wl_inl ?_
          exact w_X12_readMarks_b74 hF
    · exact b_wl_s hF
theorem w_X12_readMarks_b171 {M0 M : bM} (hF : b_fr W_X12_readMarks M0 M) : b_wl (F_X12_readMarks_b171 M) (fun o : Int × bM => b_fr W_X12_readMarks M0 o.2) := by
  unfold F_X12_readMarks_b171
  exact b_wl_s hF
theorem w_X12_readMarks {M0 M : bM} (hF : b_fr W_X12_readMarks M0 M) : b_wl (F_X12_readMarks M) (fun o : Int × bM => b_fr W_X12_readMarks M0 o.2) := by
  unfold F_X12_readMarks
  refine b_wl_lA (c := 207) hF (by decide +kernel) (fun hF => ?_)
  refine b_wl_b (b_wl_loop (A := (fun t : bM => b_fr W_X12_readMarks M0 t)) (fun t ht => w_X12_readMarks_s8 ht) hF) (fun t ht => ?_)
  cases t with
  | inr o => exact b_wl_s ht
  | inl t =>
    replace hF : b_fr W_X12_readMarks M0 t := ht
    refine b_wl_inl ?_
    exact w_X12_readMarks_b171 hF
def W_X12_burnt : List (Nat × Option Int) := [(11, some 52)]
theorem w_X12_burnt {M0 M : bM} (hF : b_fr W_X12_burnt M0 M) : b_wl (F_X12_burnt M) (fun o : Int × bM => b_fr W_X12_burnt M0 o.2) := by
  unfold F_X12_burnt
  refine b_wl_i (fun c1 => ?_) (fun c1 => ?_)
  · exact b_wl_s hF
  · refine b_wl_g (fun hg => ?_)
    refine b_wl_lF (c := 11) (i := 52) hF (by decide +kernel) (fun hF => ?_)
    refine b_wl_g (fun hg => ?_)
    exact b_wl_s hF
def W_X12_paper : List (Nat × Option Int) := [(11, some 1), (11, some 2), (11, some 3), (11, some 4), (11, some 5), (11, some 6), (11, some 7), (11, some 10), (11, some 53), (194, none), (195, none), (196, none), (197, none), (198, none), (199, none), (205, none), (206, none), (207, none)]
theorem w_X12_paper_s225 {v8 : Int} {v9 : Int} {M0 M : bM} (hF : b_fr W_X12_paper M0 M) : b_wl (F_X12_paper_s225 v8 v9 M) (Sum.elim (fun t : Int × bM => b_fr W_X12_paper M0 t.2) (fun t : bM => b_fr W_X12_paper M0 t)) := by
  unfold F_X12_paper_s225
  refine b_wl_i (fun c40 => ?_) (fun c40 => ?_)
  · exact b_wl_s hF
  · refine b_wl_g (fun hg => ?_)
    refine b_wl_lA (c := 205) hF (by decide +kernel) (fun hF => ?_)
    refine b_wl_g (fun hg => ?_)
    refine b_wl_lA (c := 206) hF (by decide +kernel) (fun hF => ?_)
    refine b_wl_g (fun hg => ?_)
    exact b_wl_s hF
theorem w_X12_paper_b286 {v8 : Int} {M0 M : bM} (hF : b_fr W_X12_paper M0 M) : b_wl (F_X12_paper_b286 v8 M) (fun o : Int × bM => b_fr W_X12_paper M0 o.2) := by
  unfold F_X12_paper_b286
  refine b_wl_g (fun hg => ?_)
  refine b_wl_lF (c := 11) (i := 53) hF (by decide +kernel) (fun hF => ?_)
  exact b_wl_s hF
theorem w_X12_paper_b76 {v1 : Int} {v2 : Int} {v3 : Int} {v4 : Int} {v5 : Int} {v6 : Int} {v7 : Int} {M0 M : bM} (hF : b_fr W_X12_paper M0 M) : b_wl (F_X12_paper_b76 v1 v2 v3 v4 v5 v6 v7 M) (fun o : Int × bM => b_fr W_X12_paper M0 o.2) := by
  unfold F_X12_paper_b76
  refine b_wl_b b_wl_any (fun o _ => ?_)
  refine b_wl_i (fun c9 => ?_) (fun c9 => ?_)
  · exact b_wl_s hF
  · refine b_wl_b b_wl_any (fun o _ => ?_)
    refine b_wl_i (fun c11 => ?_) (fun c11 => ?_)
    · exact b_wl_s hF
    · refine b_wl_b (w_X12_readMarks b_fr_refl) (fun o ho => ?_)
      refine b_wl_two ?_
      replace hF := b_fr_tr hF (b_fr_mo (by decide +kernel) ho)
      refine b_wl_i (fun c14 => ?_) (fun c14 => ?_)
      · exact b_wl_s hF
      · refine b_wl_i (fun c15 => ?_) (fun c15 => ?_)
        · exact b_wl_s hF
        · refine b_wl_l ?_
          refine b_wl_g (fun hg => ?_)
          refine b_wl_lA (c := 194) hF (by decide +kernel) (fun hF => ?_)
          refine b_wl_g (fun hg => ?_)
          refine b_wl_lA (c := 195) hF (by decide +kernel) (fun hF => ?_)
          refine b_wl_g (fun hg => ?_)
          refine b_wl_lA (c := 196) hF (by decide +kernel) (fun hF => ?_)
          refine b_wl_g (fun hg => ?_)
          refine b_wl_lA (c := 196) hF (by decide +kernel) (fun hF => ?_)
          refine b_wl_g (fun hg => ?_)
          refine b_wl_lA (c := 196) hF (by decide +kernel) (fun hF => ?_)
          refine b_wl_g (fun hg => ?_)
          refine b_wl_lA (c := 197) hF (by decide +kernel) (fun hF => ?_)
          refine b_wl_g (fun hg => ?_)
          refine b_wl_lA (c := 198) hF (by decide +kernel) (fun hF => ?_)
          refine b_wl_g (fun hg => ?_)
          refine b_wl_lA (c := 199) hF (by decide +kernel) (fun hF => ?_)
          refine b_wl_g (fun hg => ?_)
          refine b_wl_lA (c := 207) hF (by decide +kernel) (fun hF => ?_)
          refine b_wl_b (b_wl_loop (A := (fun t : Int × bM => b_fr W_X12_paper M0 t.2)) (fun t ht => w_X12_paper_s225 ht) hF) (fun t ht => ?_)
          replace hF : b_fr W_X12_paper M0 t := ht
          exact w_X12_paper_b286 hF
theorem w_X12_paper_b61 {v1 : Int} {v2 : Int} {v3 : Int} {v4 : Int} {v5 : Int} {v6 : Int} {v7 : Int} {M0 M : bM} (hF : b_fr W_X12_paper M0 M) : b_wl (F_X12_paper_b61 v1 v2 v3 v4 v5 v6 v7 M) (fun o : Int × bM => b_fr W_X12_paper M0 o.2) := by
  unfold F_X12_paper_b61
  refine b_wl_i (fun c7 => ?_) (fun c7 => ?_)
  · exact w_X12_paper_b76 hF
  · refine b_wl_b b_wl_any (fun o _ => ?_)
    refine b_wl_i (fun c57 => ?_) (fun c57 => ?_)
    · exact b_wl_s hF
    · exact w_X12_paper_b76 hF
theorem w_X12_paper_b46 {v1 : Int} {v2 : Int} {v3 : Int} {v4 : Int} {v5 : Int} {v6 : Int} {v7 : Int} {M0 M : bM} (hF : b_fr W_X12_paper M0 M) : b_wl (F_X12_paper_b46 v1 v2 v3 v4 v5 v6 v7 M) (fun o : Int × bM => b_fr W_X12_paper M0 o.2) := by
  unfold F_X12_paper_b46
  refine b_wl_i (fun c6 => ?_) (fun c6 => ?_)
  · exact w_X12_paper_b61 hF
  · refine b_wl_b b_wl_any (fun o _ => ?_)
    refine b_wl_i (fun c59 => ?_) (fun c59 => ?_)
    · exact b_wl_s hF
    · exact w_X12_paper_b61 hF
theorem w_X12_paper_b33 {v1 : Int} {v2 : Int} {v3 : Int} {v4 : Int} {v5 : Int} {v6 : Int} {v7 : Int} {M0 M : bM} (hF : b_fr W_X12_paper M0 M) : b_wl (F_X12_paper_b33 v1 v2 v3 v4 v5 v6 v7 M) (fun o : Int × bM => b_fr W_X12_paper M0 o.2) := by
  unfold F_X12_paper_b33
  refine b_wl_i (fun c5 => ?_) (fun c5 => ?_)
  · exact w_X12_paper_b46 hF
  · refine b_wl_b b_wl_any (fun o _ => ?_)
    refine b_wl_i (fun c61 => ?_) (fun c61 => ?_)
    · exact b_wl_s hF
    · exact w_X12_paper_b46 hF
theorem w_X12_paper {v1 : Int} {v2 : Int} {v3 : Int} {v4 : Int} {v5 : Int} {v6 : Int} {v7 : Int} {M0 M : bM} (hF : b_fr W_X12_paper M0 M) : b_wl (F_X12_paper v1 v2 v3 v4 v5 v6 v7 M) (fun o : Int × bM => b_fr W_X12_paper M0 o.2) := by
  unfold F_X12_paper
  refine b_wl_b (w_X12_take b_fr_refl) (fun o ho => ?_)
  replace hF := b_fr_tr hF (b_fr_mo (by decide +kernel) ho)
  refine b_wl_b b_wl_any (fun o _ => ?_)
  refine b_wl_i (fun c3 => ?_) (fun c3 => ?_)
  · exact b_wl_s hF
  · refine b_wl_i (fun c4 => ?_) (fun c4 => ?_)
    · exact w_X12_paper_b33 hF
    · refine b_wl_g (fun hg => ?_)
      refine b_wl_b b_wl_any (fun o _ => ?_)
      refine b_wl_i (fun c64 => ?_) (fun c64 => ?_)
      · exact b_wl_s hF
      · exact w_X12_paper_b33 hF
def W_X12_written : List (Nat × Option Int) := [(200, none), (201, none), (202, none), (203, none), (204, none)]
theorem w_X12_written {v1 : Int} {v2 : Int} {v3 : Int} {v4 : Int} {v5 : Int} {M0 M : bM} (hF : b_fr W_X12_written M0 M) : b_wl (F_X12_written v1 v2 v3 v4 v5 M) (fun o : Int × bM => b_fr W_X12_written M0 o.2) := by
  unfold F_X12_written
  refine b_wl_b b_wl_any (fun o _ => ?_)
  refine b_wl_i (fun c2 => ?_) (fun c2 => ?_)
  · exact b_wl_s hF
  · refine b_wl_b b_wl_any (fun o _ => ?_)
    refine b_wl_i (fun c4 => ?_) (fun c4 => ?_)
    · exact b_wl_s hF
    · refine b_wl_b b_wl_any (fun o _ => ?_)
      refine b_wl_i (fun c6 => ?_) (fun c6 => ?_)
      · exact b_wl_s hF
      · refine b_wl_b b_wl_any (fun o _ => ?_)
        refine b_wl_i (fun c8 => ?_) (fun c8 => ?_)
        · exact b_wl_s hF
        · refine b_wl_b b_wl_any (fun o _ => ?_)
          refine b_wl_i (fun c10 => ?_) (fun c10 => ?_)
          · exact b_wl_s hF
          · refine b_wl_g (fun hg => ?_)
            refine b_wl_i (fun c12 => ?_) (fun c12 => ?_)
            · refine b_wl_g (fun hg => ?_)
              refine b_wl_lA (c := 200) hF (by decide +kernel) (fun hF => ?_)
              refine b_wl_g (fun hg => ?_)
              refine b_wl_lA (c := 201) hF (by decide +kernel) (fun hF => ?_)
              refine b_wl_g (fun hg => ?_)
              refine b_wl_lA (c := 202) hF (by decide +kernel) (fun hF => ?_)
              refine b_wl_g (fun hg => ?_)
              refine b_wl_lA (c := 203) hF (by decide +kernel) (fun hF => ?_)
              refine b_wl_g (fun hg => ?_)
              refine b_wl_lA (c := 204) hF (by decide +kernel) (fun hF => ?_)
              exact b_wl_s hF
            · exact b_wl_s hF
def W_X12_pages : List (Nat × Option Int) := [(11, some 54)]
theorem w_X12_pages {v1 : Int} {M0 M : bM} (hF : b_fr W_X12_pages M0 M) : b_wl (F_X12_pages v1 M) (fun o : Int × bM => b_fr W_X12_pages M0 o.2) := by
  unfold F_X12_pages
  refine b_wl_b b_wl_any (fun o _ => ?_)
  refine b_wl_i (fun c2 => ?_) (fun c2 => ?_)
  · exact b_wl_s hF
  · refine b_wl_lF (c := 11) (i := 54) hF (by decide +kernel) (fun hF => ?_)
    exact b_wl_s hF
def W_X12_holds : List (Nat × Option Int) := [(208, none)]
theorem w_X12_holds_b297 {v1 : Int} {v2 : Int} {v3 : Int} {v4 : Int} {u1 : Int} {u2 : Int} {M0 M : bM} (hF : b_fr W_X12_holds M0 M) : b_wl (F_X12_holds_b297 v1 v2 v3 v4 u1 u2 M) (Sum.elim (fun t : Int × Int × bM => b_fr W_X12_holds M0 t.2.2) (fun t : bM => b_fr W_X12_holds M0 t)) := by
  unfold F_X12_holds_b297
  refine b_wl_g (fun hg => ?_)
  refine b_wl_lA (c := 208) hF (by decide +kernel) (fun hF => ?_)
  refine b_wl_g (fun hg => ?_)
  exact b_wl_s hF
theorem w_X12_holds_b292 {v1 : Int} {v2 : Int} {v3 : Int} {v4 : Int} {u1 : Int} {M0 M : bM} (hF : b_fr W_X12_holds M0 M) : b_wl (F_X12_holds_b292 v1 v2 v3 v4 u1 M) (Sum.elim (fun t : Int × Int × bM => b_fr W_X12_holds M0 t.2.2) (fun t : bM => b_fr W_X12_holds M0 t)) := by
  unfold F_X12_holds_b292
  exact w_X12_holds_b297 hF
theorem w_X12_holds_b268 {v1 : Int} {v2 : Int} {v3 : Int} {v4 : Int} {u1 : Int} {M0 M : bM} (hF : b_fr W_X12_holds M0 M) : b_wl (F_X12_holds_b268 v1 v2 v3 v4 u1 M) (Sum.elim (fun t : Int × Int × bM => b_fr W_X12_holds M0 t.2.2) (fun t : bM => b_fr W_X12_holds M0 t)) := by
  unfold F_X12_holds_b268
  exact w_X12_holds_b297 hF
theorem w_X12_holds_b224 {v1 : Int} {v2 : Int} {v3 : Int} {v4 : Int} {u1 : Int} {u2 : Int} {M0 M : bM} (hF : b_fr W_X12_holds M0 M) : b_wl (F_X12_holds_b224 v1 v2 v3 v4 u1 u2 M) (Sum.elim (fun t : Int × Int × bM => b_fr W_X12_holds M0 t.2.2) (fun t : bM => b_fr W_X12_holds M0 t)) := by
  unfold F_X12_holds_b224
  refine b_wl_g (fun hg => ?_)
  refine b_wl_lA (c := 208) hF (by decide +kernel) (fun hF => ?_)
  refine b_wl_g (fun hg => ?_)
  exact b_wl_s hF
theorem w_X12_holds_b187 {v1 : Int} {v2 : Int} {v3 : Int} {v4 : Int} {u1 : Int} {u2 : Int} {M0 M : bM} (hF : b_fr W_X12_holds M0 M) : b_wl (F_X12_holds_b187 v1 v2 v3 v4 u1 u2 M) (Sum.elim (fun t : Int × Int × bM => b_fr W_X12_holds M0 t.2.2) (fun t : bM => b_fr W_X12_holds M0 t)) := by
  unfold F_X12_holds_b187
  refine b_wl_g (fun hg => ?_)
  refine b_wl_lA (c := 208) hF (by decide +kernel) (fun hF => ?_)
  refine b_wl_g (fun hg => ?_)
  exact b_wl_s hF
theorem w_X12_holds_s16 {v1 : Int} {v2 : Int} {v3 : Int} {v4 : Int} {M0 M : bM} (hF : b_fr W_X12_holds M0 M) : b_wl (F_X12_holds_s16 v1 v2 v3 v4 M) (Sum.elim (fun t : Int × Int × bM => b_fr W_X12_holds M0 t.2.2) (fun t : bM => b_fr W_X12_holds M0 t)) := by
  unfold F_X12_holds_s16
  refine b_wl_g (fun hg => ?_)
  refine b_wl_i (fun c4 => ?_) (fun c4 => ?_)
  · exact b_wl_s hF
  · refine b_wl_g (fun hg => ?_)
    refine b_wl_l ?_
    refine b_wl_i (fun c9 => ?_) (fun c9 => ?_)
    · refine b_wl_i (fun c10 => ?_) (fun c10 => ?_)
      · refine b_wl_g (fun hg => ?_)
        refine b_wl_i (fun c30 => ?_) (fun c30 => ?_)
        · exact w_X12_holds_b224 hF
        · exact w_X12_holds_b224 hF
      · refine b_wl_g (fun hg => ?_)
        refine b_wl_i (fun c13 => ?_) (fun c13 => ?_)
        · refine b_wl_g (fun hg => ?_)
          refine b_wl_i (fun c25 => ?_) (fun c25 => ?_)
          · exact w_X12_holds_b268 hF
          · refine b_wl_g (fun hg => ?_)
            refine b_wl_i (fun c27 => ?_) (fun c27 => ?_)
            · exact w_X12_holds_b268 hF
            · exact w_X12_holds_b297 hF
        · refine b_wl_g (fun hg => ?_)
          refine b_wl_i (fun c16 => ?_) (fun c16 => ?_)
          · refine b_wl_g (fun hg => ?_)
            refine b_wl_i (fun c22 => ?_) (fun c22 => ?_)
            · exact w_X12_holds_b297 hF
            · exact w_X12_holds_b292 hF
          · exact w_X12_holds_b292 hF
    · refine b_wl_g (fun hg => ?_)
      refine b_wl_l ?_
      refine b_wl_g (fun hg => ?_)
      refine b_wl_b b_wl_any (fun o _ => ?_)
      refine b_wl_g (fun hg => ?_)
      refine b_wl_b b_wl_any (fun o _ => ?_)
      refine b_wl_g (fun hg => ?_)
      refine b_wl_i (fun c46 => ?_) (fun c46 => ?_)
      · refine b_wl_i (fun c59 => ?_) (fun c59 => ?_)
        · exact w_X12_holds_b187 hF
        · exact w_X12_holds_b187 hF
      · refine b_wl_g (fun hg => ?_)
        refine b_wl_i (fun c48 => ?_) (fun c48 => ?_)
        · refine b_wl_i (fun c58 => ?_) (fun c58 => ?_)
          · exact w_X12_holds_b187 hF
          · exact w_X12_holds_b187 hF
        · refine b_wl_g (fun hg => ?_)
          refine b_wl_i (fun c50 => ?_) (fun c50 => ?_)
          · refine b_wl_i (fun c57 => ?_) (fun c57 => ?_)
            · exact w_X12_holds_b187 hF
            · exact w_X12_holds_b187 hF
          · refine b_wl_i (fun c51 => ?_) (fun c51 => ?_)
            · exact w_X12_holds_b187 hF
            · exact w_X12_holds_b187 hF
theorem w_X12_holds_b304 {M0 M : bM} (hF : b_fr W_X12_holds M0 M) : b_wl (F_X12_holds_b304 M) (fun o : Int × bM => b_fr W_X12_holds M0 o.2) := by
  unfold F_X12_holds_b304
  refine b_wl_g (fun hg => ?_)
  exact b_wl_s hF
theorem w_X12_holds {v1 : Int} {v2 : Int} {M0 M : bM} (hF : b_fr W_X12_holds M0 M) : b_wl (F_X12_holds v1 v2 M) (fun o : Int × bM => b_fr W_X12_holds M0 o.2) := by
  unfold F_X12_holds
  refine b_wl_g (fun hg => ?_)
  refine b_wl_i (fun c2 => ?_) (fun c2 => ?_)
  · exact b_wl_s hF
  · refine b_wl_b (b_wl_loop (A := (fun t : Int × Int × bM => b_fr W_X12_holds M0 t.2.2)) (fun t ht => w_X12_holds_s16 ht) hF) (fun t ht => ?_)
    replace hF : b_fr W_X12_holds M0 t := ht
    exact w_X12_holds_b304 hF
def W_X12_weightOf : List (Nat × Option Int) := [(208, none)]
theorem w_X12_weightOf_s15 {v1 : Int} {v3 : Int} {v4 : Int} {v5 : Int} {M0 M : bM} (hF : b_fr W_X12_weightOf M0 M) : b_wl (F_X12_weightOf_s15 v1 v3 v4 v5 M) (Sum.elim (fun t : Int × Int × bM => b_fr W_X12_weightOf M0 t.2.2) (fun t : Int × bM => b_fr W_X12_weightOf M0 t.2)) := by
  unfold F_X12_weightOf_s15
  refine b_wl_i (fun c3 => ?_) (fun c3 => ?_)
  · exact b_wl_s hF
  · refine b_wl_g (fun hg => ?_)
    refine b_wl_i (fun c9 => ?_) (fun c9 => ?_)
    · exact b_wl_s hF
    · refine b_wl_g (fun hg => ?_)
      refine b_wl_i (fun c12 => ?_) (fun c12 => ?_)
      · refine b_wl_b (w_X12_holds b_fr_refl) (fun o ho => ?_)
        refine b_wl_two ?_
        replace hF := b_fr_tr hF (b_fr_mo (by decide +kernel) ho)
        refine b_wl_i (fun c16 => ?_) (fun c16 => ?_)
        · refine b_wl_g (fun hg => ?_)
          exact b_wl_s hF
        · refine b_wl_g (fun hg => ?_)
          refine b_wl_l ?_
          refine b_wl_g (fun hg => ?_)
          exact b_wl_s hF
      · refine b_wl_g (fun hg => ?_)
        exact b_wl_s hF
theorem w_X12_weightOf_b84 {v4 : Int} {M0 M : bM} (hF : b_fr W_X12_weightOf M0 M) : b_wl (F_X12_weightOf_b84 v4 M) (fun o : Int × bM => b_fr W_X12_weightOf M0 o.2) := by
  unfold F_X12_weightOf_b84
  exact b_wl_s hF
theorem w_X12_weightOf {v1 : Int} {v2 : Int} {M0 M : bM} (hF : b_fr W_X12_weightOf M0 M) : b_wl (F_X12_weightOf v1 v2 M) (fun o : Int × bM => b_fr W_X12_weightOf M0 o.2) := by
  unfold F_X12_weightOf
  refine b_wl_b b_wl_any (fun o _ => ?_)
  refine b_wl_g (fun hg => ?_)
  refine b_wl_b (b_wl_loop (A := (fun t : Int × Int × bM => b_fr W_X12_weightOf M0 t.2.2)) (fun t ht => w_X12_weightOf_s15 ht) hF) (fun t ht => ?_)
  replace hF : b_fr W_X12_weightOf M0 t.2 := ht
  exact w_X12_weightOf_b84 hF
def W_X12_weight : List (Nat × Option Int) := [(208, none)]
theorem w_X12_weight {v1 : Int} {v2 : Int} {M0 M : bM} (hF : b_fr W_X12_weight M0 M) : b_wl (F_X12_weight v1 v2 M) (fun o : Int × bM => b_fr W_X12_weight M0 o.2) := by
  unfold F_X12_weight
  refine b_wl_b b_wl_any (fun o _ => ?_)
  refine b_wl_i (fun c2 => ?_) (fun c2 => ?_)
  · exact b_wl_s hF
  · refine b_wl_b b_wl_any (fun o _ => ?_)
    refine b_wl_i (fun c4 => ?_) (fun c4 => ?_)
    · exact b_wl_s hF
    · refine b_wl_b (w_X12_weightOf b_fr_refl) (fun o ho => ?_)
      refine b_wl_two ?_
      replace hF := b_fr_tr hF (b_fr_mo (by decide +kernel) ho)
      exact b_wl_s hF
def W_X12_cant : List (Nat × Option Int) := [(168, none)]
theorem w_X12_cant {v1 : Int} {v2 : Int} {M0 M : bM} (hF : b_fr W_X12_cant M0 M) : b_wl (F_X12_cant v1 v2 M) (fun o : Int × bM => b_fr W_X12_cant M0 o.2) := by
  unfold F_X12_cant
  refine b_wl_b b_wl_any (fun o _ => ?_)
  refine b_wl_i (fun c2 => ?_) (fun c2 => ?_)
  · exact b_wl_s hF
  · refine b_wl_b b_wl_any (fun o _ => ?_)
    refine b_wl_i (fun c4 => ?_) (fun c4 => ?_)
    · exact b_wl_s hF
    · refine b_wl_b (w_X12_makeOnes b_fr_refl) (fun o ho => ?_)
      replace hF := b_fr_tr hF (b_fr_mo (by decide +kernel) ho)
      refine b_wl_b b_wl_any (fun o _ => ?_)
      exact b_wl_s hF
def W_X12_sumFor : List (Nat × Option Int) := [(216, none)]
theorem w_X12_sumFor_s102 {v1 : Int} {v2 : Int} {v3 : Int} {v4 : Int} {v5 : Int} {v6 : Int} {v7 : Int} {v9 : Int} {M0 M : bM} (hF : b_fr W_X12_sumFor M0 M) : b_wl (F_X12_sumFor_s102 v1 v2 v3 v4 v5 v6 v7 v9 M) (Sum.elim (fun t : Int × bM => b_fr W_X12_sumFor M0 t.2) (fun t : Int × bM => b_fr W_X12_sumFor M0 t.2)) := by
  unfold F_X12_sumFor_s102
  refine b_wl_i (fun c18 => ?_) (fun c18 => ?_)
  · exact b_wl_s hF
  · refine b_wl_g (fun hg => ?_)
    refine b_wl_i (fun c22 => ?_) (fun c22 => ?_)
    · exact b_wl_s hF
    · refine b_wl_g (fun hg => ?_)
      refine b_wl_lA (c := 216) hF (by decide +kernel) (fun hF => ?_)
      refine b_wl_g (fun hg => ?_)
      exact b_wl_s hF
theorem w_X12_sumFor_b148 {v1 : Int} {v2 : Int} {v3 : Int} {v4 : Int} {v5 : Int} {v6 : Int} {v7 : Int} {v9 : Int} {M0 M : bM} (hF : b_fr W_X12_sumFor M0 M) : b_wl (F_X12_sumFor_b148 v1 v2 v3 v4 v5 v6 v7 v9 M) (Sum.elim (fun t : Int × Int × Int × bM => b_fr W_X12_sumFor M0 t.2.2.2) (fun t : Int × Int × bM => b_fr W_X12_sumFor M0 t.2.2)) := by
  unfold F_X12_sumFor_b148
  refine b_wl_g (fun hg => ?_)
  refine b_wl_lA (c := 216) hF (by decide +kernel) (fun hF => ?_)
  refine b_wl_g (fun hg => ?_)
  exact b_wl_s hF
theorem w_X12_sumFor_s9 {v1 : Int} {v2 : Int} {v3 : Int} {v4 : Int} {v5 : Int} {v6 : Int} {v7 : Int} {M0 M : bM} (hF : b_fr W_X12_sumFor M0 M) : b_wl (F_X12_sumFor_s9 v1 v2 v3 v4 v5 v6 v7 M) (Sum.elim (fun t : Int × Int × Int × bM => b_fr W_X12_sumFor M0 t.2.2.2) (fun t : Int × Int × bM => b_fr W_X12_sumFor M0 t.2.2)) := by
  unfold F_X12_sumFor_s9
  refine b_wl_i (fun c1 => ?_) (fun c1 => ?_)
  · exact b_wl_s hF
  · refine b_wl_g (fun hg => ?_)
    refine b_wl_l ?_
    refine b_wl_g (fun hg => ?_)
    refine b_wl_i (fun c7 => ?_) (fun c7 => ?_)
    · refine b_wl_g (fun hg => ?_)
      exact b_wl_s hF
    · refine b_wl_g (fun hg => ?_)
      refine b_wl_i (fun c10 => ?_) (fun c10 => ?_)
      · refine b_wl_i (fun c12 => ?_) (fun c12 => ?_)
        · refine b_wl_g (fun hg => ?_)
          exact b_wl_s hF
        · refine b_wl_b b_wl_any (fun o _ => ?_)
          refine b_wl_i (fun c15 => ?_) (fun c15 => ?_)
          · refine b_wl_g (fun hg => ?_)
            refine b_wl_i (fun c17 => ?_) (fun c17 => ?_)
            · refine b_wl_b (b_wl_loop (A := (fun t : Int × bM => b_fr W_X12_sumFor M0 t.2)) (fun t ht => w_X12_sumFor_s102 ht) hF) (fun t ht => ?_)
              replace hF : b_fr W_X12_sumFor M0 t.2 := ht
              exact w_X12_sumFor_b148 hF
            · refine b_wl_g (fun hg => ?_)
              refine b_wl_l ?_
              refine b_wl_g (fun hg => ?_)
              exact b_wl_s hF
          · refine b_wl_g (fun hg => ?_)
            exact b_wl_s hF
      · refine b_wl_g (fun hg => ?_)
        exact b_wl_s hF
theorem w_X12_sumFor_s174 {v4 : Int} {v5 : Int} {v6 : Int} {v7 : Int} {M0 M : bM} (hF : b_fr W_X12_sumFor M0 M) : b_wl (F_X12_sumFor_s174 v4 v5 v6 v7 M) (Sum.elim (fun _ : Int × Int => True) (fun _ : Int => True)) := by
  unfold F_X12_sumFor_s174
  refine b_wl_i (fun c38 => ?_) (fun c38 => ?_)
  · exact b_wl_s trivial
  · refine b_wl_i (fun c39 => ?_) (fun c39 => ?_)
    · exact b_wl_s trivial
    · refine b_wl_g (fun hg => ?_)
      refine b_wl_l ?_
      refine b_wl_g (fun hg => ?_)
      exact b_wl_s trivial
theorem w_X12_sumFor_b206 {v5 : Int} {M0 M : bM} (hF : b_fr W_X12_sumFor M0 M) : b_wl (F_X12_sumFor_b206 v5 M) (fun o : Int × bM => b_fr W_X12_sumFor M0 o.2) := by
  unfold F_X12_sumFor_b206
  exact b_wl_s hF
theorem w_X12_sumFor_b171 {v4 : Int} {v5 : Int} {v6 : Int} {M0 M : bM} (hF : b_fr W_X12_sumFor M0 M) : b_wl (F_X12_sumFor_b171 v4 v5 v6 M) (fun o : Int × bM => b_fr W_X12_sumFor M0 o.2) := by
  unfold F_X12_sumFor_b171
  refine b_wl_b (b_wl_loop (A := (fun _ : Int × Int => True)) (fun t ht => w_X12_sumFor_s174 hF) trivial) (fun t ht => ?_)
  exact w_X12_sumFor_b206 hF
theorem w_X12_sumFor {v1 : Int} {v2 : Int} {v3 : Int} {v4 : Int} {M0 M : bM} (hF : b_fr W_X12_sumFor M0 M) : b_wl (F_X12_sumFor v1 v2 v3 v4 M) (fun o : Int × bM => b_fr W_X12_sumFor M0 o.2) := by
  unfold F_X12_sumFor
  refine b_wl_b (b_wl_loop (A := (fun t : Int × Int × Int × bM => b_fr W_X12_sumFor M0 t.2.2.2)) (fun t ht => w_X12_sumFor_s9 ht) hF) (fun t ht => ?_)
  replace hF : b_fr W_X12_sumFor M0 t.2.2 := ht
  exact w_X12_sumFor_b171 hF
def W_X12_show : List (Nat × Option Int) := [(209, none), (210, none), (213, none), (216, none)]
theorem w_X12_show_b110 {v1 : Int} {v2 : Int} {v3 : Int} {v4 : Int} {v5 : Int} {v6 : Int} {v7 : Int} {v8 : Int} {v9 : Int} {M0 M : bM} (hF : b_fr W_X12_show M0 M) : b_wl (F_X12_show_b110 v1 v2 v3 v4 v5 v6 v7 v8 v9 M) (Sum.elim (fun t : Int × Int × Int × Int × bM => b_fr W_X12_show M0 t.2.2.2.2) (fun t : Int × Int × Int × bM => b_fr W_X12_show M0 t.2.2.2)) := by
  unfold F_X12_show_b110
  refine b_wl_b b_wl_any (fun o _ => ?_)
  refine b_wl_b (w_X12_sumFor b_fr_refl) (fun o ho => ?_)
  refine b_wl_two ?_
  replace hF := b_fr_tr hF (b_fr_mo (by decide +kernel) ho)
  refine b_wl_b b_wl_any (fun o _ => ?_)
  refine b_wl_i (fun c19 => ?_) (fun c19 => ?_)
  · refine b_wl_g (fun hg => ?_)
    exact b_wl_s hF
  · refine b_wl_i (fun c21 => ?_) (fun c21 => ?_)
    · refine b_wl_g (fun hg => ?_)
      exact b_wl_s hF
    · refine b_wl_i (fun c23 => ?_) (fun c23 => ?_)
      · refine b_wl_i (fun c24 => ?_) (fun c24 => ?_)
        · refine b_wl_g (fun hg => ?_)
          exact b_wl_s hF
        · refine b_wl_g (fun hg => ?_)
          exact b_wl_s hF
      · refine b_wl_g (fun hg => ?_)
        exact b_wl_s hF
theorem w_X12_show_s12 {v1 : Int} {v2 : Int} {v3 : Int} {v4 : Int} {v5 : Int} {v6 : Int} {v7 : Int} {M0 M : bM} (hF : b_fr W_X12_show M0 M) : b_wl (F_X12_show_s12 v1 v2 v3 v4 v5 v6 v7 M) (Sum.elim (fun t : Int × Int × Int × Int × bM => b_fr W_X12_show M0 t.2.2.2.2) (fun t : Int × Int × Int × bM => b_fr W_X12_show M0 t.2.2.2)) := by
  unfold F_X12_show_s12
  refine b_wl_i (fun c1 => ?_) (fun c1 => ?_)
  · exact b_wl_s hF
  · refine b_wl_g (fun hg => ?_)
    refine b_wl_l ?_
    refine b_wl_g (fun hg => ?_)
    refine b_wl_i (fun c7 => ?_) (fun c7 => ?_)
    · refine b_wl_g (fun hg => ?_)
      exact b_wl_s hF
    · refine b_wl_g (fun hg => ?_)
      refine b_wl_i (fun c10 => ?_) (fun c10 => ?_)
      · refine b_wl_i (fun c12 => ?_) (fun c12 => ?_)
        · refine b_wl_g (fun hg => ?_)
          exact b_wl_s hF
        · refine b_wl_b b_wl_any (fun o _ => ?_)
          refine b_wl_i (fun c14 => ?_) (fun c14 => ?_)
          · exact w_X12_show_b110 hF
          · refine b_wl_b b_wl_any (fun o _ => ?_)
            refine b_wl_i (fun c29 => ?_) (fun c29 => ?_)
            · refine b_wl_i (fun c30 => ?_) (fun c30 => ?_)
              · refine b_wl_g (fun hg => ?_)
                exact b_wl_s hF
              · refine b_wl_g (fun hg => ?_)
                exact b_wl_s hF
            · exact w_X12_show_b110 hF
      · refine b_wl_g (fun hg => ?_)
        exact b_wl_s hF
theorem w_X12_show_s204 {v1 : Int} {v2 : Int} {v4 : Int} {v5 : Int} {v6 : Int} {v7 : Int} {v8 : Int} {M0 M : bM} (hF : b_fr W_X12_show M0 M) : b_wl (F_X12_show_s204 v1 v2 v4 v5 v6 v7 v8 M) (Sum.elim (fun _ : Int × Int => True) (fun _ : Int => True)) := by
  unfold F_X12_show_s204
  refine b_wl_i (fun c35 => ?_) (fun c35 => ?_)
  · exact b_wl_s trivial
  · refine b_wl_i (fun c36 => ?_) (fun c36 => ?_)
    · exact b_wl_s trivial
    · refine b_wl_g (fun hg => ?_)
      refine b_wl_l ?_
      refine b_wl_g (fun hg => ?_)
      refine b_wl_i (fun c42 => ?_) (fun c42 => ?_)
      · refine b_wl_g (fun hg => ?_)
        exact b_wl_s trivial
      · refine b_wl_g (fun hg => ?_)
        refine b_wl_i (fun c45 => ?_) (fun c45 => ?_)
        · refine b_wl_i (fun c47 => ?_) (fun c47 => ?_)
          · refine b_wl_g (fun hg => ?_)
            exact b_wl_s trivial
          · refine b_wl_b b_wl_any (fun o _ => ?_)
            refine b_wl_b b_wl_any (fun o _ => ?_)
            refine b_wl_i (fun c51 => ?_) (fun c51 => ?_)
            · refine b_wl_i (fun c53 => ?_) (fun c53 => ?_)
              · refine b_wl_g (fun hg => ?_)
                exact b_wl_s trivial
              · refine b_wl_g (fun hg => ?_)
                exact b_wl_s trivial
            · refine b_wl_g (fun hg => ?_)
              exact b_wl_s trivial
        · refine b_wl_g (fun hg => ?_)
          exact b_wl_s trivial
theorem w_X12_show_b333 {v1 : Int} {v2 : Int} {v5 : Int} {v6 : Int} {u1 : Int} {u2 : Int} {M0 M : bM} (hF : b_fr W_X12_show M0 M) : b_wl (F_X12_show_b333 v1 v2 v5 v6 u1 u2 M) (fun o : bM => b_fr W_X12_show M0 o) := by
  unfold F_X12_show_b333
  refine b_wl_g (fun hg => ?_)
  refine b_wl_lA (c := 210) hF (by decide +kernel) (fun hF => ?_)
  refine b_wl_i (fun c66 => ?_) (fun c66 => ?_)
  · exact b_wl_s hF
  · refine b_wl_i (fun c67 => ?_) (fun c67 => ?_)
    · refine b_wl_g (fun hg => ?_)
      refine b_wl_lA (c := 213) hF (by decide +kernel) (fun hF => ?_)
      exact b_wl_s hF
    · exact b_wl_s hF
theorem w_X12_show_b312 {v1 : Int} {v2 : Int} {v4 : Int} {v5 : Int} {v6 : Int} {v7 : Int} {u1 : Int} {u2 : Int} {M0 M : bM} (hF : b_fr W_X12_show M0 M) : b_wl (F_X12_show_b312 v1 v2 v4 v5 v6 v7 u1 u2 M) (fun o : bM => b_fr W_X12_show M0 o) := by
  unfold F_X12_show_b312
  refine b_wl_g (fun hg => ?_)
  refine b_wl_lA (c := 209) hF (by decide +kernel) (fun hF => ?_)
  refine b_wl_g (fun hg => ?_)
  refine b_wl_i (fun c63 => ?_) (fun c63 => ?_)
  · exact w_X12_show_b333 hF
  · exact w_X12_show_b333 hF
theorem w_X12_show_b292 {v1 : Int} {v2 : Int} {v4 : Int} {v5 : Int} {v6 : Int} {v7 : Int} {M0 M : bM} (hF : b_fr W_X12_show M0 M) : b_wl (F_X12_show_b292 v1 v2 v4 v5 v6 v7 M) (fun o : bM => b_fr W_X12_show M0 o) := by
  unfold F_X12_show_b292
  refine b_wl_g (fun hg => ?_)
  refine b_wl_i (fun c58 => ?_) (fun c58 => ?_)
  · exact w_X12_show_b312 hF
  · exact w_X12_show_b312 hF
theorem w_X12_show_b199 {v1 : Int} {v2 : Int} {v4 : Int} {v5 : Int} {v6 : Int} {u0 : Int} {M0 M : bM} (hF : b_fr W_X12_show M0 M) : b_wl (F_X12_show_b199 v1 v2 v4 v5 v6 u0 M) (fun o : bM => b_fr W_X12_show M0 o) := by
  unfold F_X12_show_b199
  refine b_wl_b (b_wl_loop (A := (fun _ : Int × Int => True)) (fun t ht => w_X12_show_s204 hF) trivial) (fun t ht => ?_)
  exact w_X12_show_b292 hF
theorem w_X12_show_b198 {v1 : Int} {v2 : Int} {v4 : Int} {v5 : Int} {v6 : Int} {M0 M : bM} (hF : b_fr W_X12_show M0 M) : b_wl (F_X12_show_b198 v1 v2 v4 v5 v6 M) (fun o : bM => b_fr W_X12_show M0 o) := by
  unfold F_X12_show_b198
  exact w_X12_show_b199 hF
theorem w_X12_show_b183 {v1 : Int} {v2 : Int} {v4 : Int} {v5 : Int} {v6 : Int} {M0 M : bM} (hF : b_fr W_X12_show M0 M) : b_wl (F_X12_show_b183 v1 v2 v4 v5 v6 M) (fun o : bM => b_fr W_X12_show M0 o) := by
  unfold F_X12_show_b183
  refine b_wl_i (fun c34 => ?_) (fun c34 => ?_)
  · exact w_X12_show_b198 hF
  · refine b_wl_i (fun c70 => ?_) (fun c70 => ?_)
    · exact w_X12_show_b198 hF
    · exact w_X12_show_b199 hF
theorem w_X12_show {v1 : Int} {v2 : Int} {v3 : Int} {M0 M : bM} (hF : b_fr W_X12_show M0 M) : b_wl (F_X12_show v1 v2 v3 M) (fun o : bM => b_fr W_X12_show M0 o) := by
  unfold F_X12_show
  refine b_wl_b (b_wl_loop (A := (fun t : Int × Int × Int × Int × bM => b_fr W_X12_show M0 t.2.2.2.2)) (fun t ht => w_X12_show_s12 ht) hF) (fun t ht => ?_)
  replace hF : b_fr W_X12_show M0 t.2.2.2 := ht
  exact w_X12_show_b183 hF
def W_X12_makeShown : List (Nat × Option Int) := [(168, none), (208, none), (209, none), (210, none), (211, none), (212, none), (213, none), (214, none), (215, none), (216, none)]
theorem w_X12_makeShown_b44 {v1 : Int} {v2 : Int} {u1 : Int} {u2 : Int} {M0 M : bM} (hF : b_fr W_X12_makeShown M0 M) : b_wl (F_X12_makeShown_b44 v1 v2 u1 u2 M) (Sum.elim (fun t : Int × bM => b_fr W_X12_makeShown M0 t.2) (fun t : bM => b_fr W_X12_makeShown M0 t)) := by
  unfold F_X12_makeShown_b44
  refine b_wl_g (fun hg => ?_)
  refine b_wl_lA (c := 214) hF (by decide +kernel) (fun hF => ?_)
  refine b_wl_b (w_X12_weightOf b_fr_refl) (fun o ho => ?_)
  refine b_wl_two ?_
  replace hF := b_fr_tr hF (b_fr_mo (by decide +kernel) ho)
  refine b_wl_g (fun hg => ?_)
  refine b_wl_lA (c := 215) hF (by decide +kernel) (fun hF => ?_)
  refine b_wl_g (fun hg => ?_)
  exact b_wl_s hF
theorem w_X12_makeShown_b43 {v1 : Int} {v2 : Int} {u1 : Int} {M0 M : bM} (hF : b_fr W_X12_makeShown M0 M) : b_wl (F_X12_makeShown_b43 v1 v2 u1 M) (Sum.elim (fun t : Int × bM => b_fr W_X12_makeShown M0 t.2) (fun t : bM => b_fr W_X12_makeShown M0 t)) := by
  unfold F_X12_makeShown_b43
  exact w_X12_makeShown_b44 hF
theorem w_X12_makeShown_s7 {v1 : Int} {v2 : Int} {M0 M : bM} (hF : b_fr W_X12_makeShown M0 M) : b_wl (F_X12_makeShown_s7 v1 v2 M) (Sum.elim (fun t : Int × bM => b_fr W_X12_makeShown M0 t.2) (fun t : bM => b_fr W_X12_makeShown M0 t)) := by
  unfold F_X12_makeShown_s7
  refine b_wl_i (fun c2 => ?_) (fun c2 => ?_)
  · exact b_wl_s hF
  · refine b_wl_g (fun hg => ?_)
    refine b_wl_i (fun c4 => ?_) (fun c4 => ?_)
    · exact w_X12_makeShown_b43 hF
    · refine b_wl_b b_wl_any (fun o _ => ?_)
      refine b_wl_i (fun c14 => ?_) (fun c14 => ?_)
      · exact w_X12_makeShown_b44 hF
      · exact w_X12_makeShown_b43 hF
theorem w_X12_makeShown_s82 {v1 : Int} {v2 : Int} {v3 : Int} {M0 M : bM} (hF : b_fr W_X12_makeShown M0 M) : b_wl (F_X12_makeShown_s82 v1 v2 v3 M) (Sum.elim (fun t : Int × bM => b_fr W_X12_makeShown M0 t.2) (fun t : bM => b_fr W_X12_makeShown M0 t)) := by
  unfold F_X12_makeShown_s82
  refine b_wl_i (fun c18 => ?_) (fun c18 => ?_)
  · exact b_wl_s hF
  · refine b_wl_b (w_X12_show b_fr_refl) (fun o ho => ?_)
    replace hF := b_fr_tr hF (b_fr_mo (by decide +kernel) ho)
    refine b_wl_g (fun hg => ?_)
    exact b_wl_s hF
theorem w_X12_makeShown_s118 {v1 : Int} {v2 : Int} {v3 : Int} {M0 M : bM} (hF : b_fr W_X12_makeShown M0 M) : b_wl (F_X12_makeShown_s118 v1 v2 v3 M) (Sum.elim (fun t : Int × bM => b_fr W_X12_makeShown M0 t.2) (fun t : bM => b_fr W_X12_makeShown M0 t)) := by
  unfold F_X12_makeShown_s118
  refine b_wl_i (fun c25 => ?_) (fun c25 => ?_)
  · exact b_wl_s hF
  · refine b_wl_g (fun hg => ?_)
    refine b_wl_i (fun c27 => ?_) (fun c27 => ?_)
    · refine b_wl_g (fun hg => ?_)
      exact b_wl_s hF
    · refine b_wl_g (fun hg => ?_)
      refine b_wl_i (fun c30 => ?_) (fun c30 => ?_)
      · refine b_wl_g (fun hg => ?_)
        refine b_wl_i (fun c33 => ?_) (fun c33 => ?_)
        · refine b_wl_g (fun hg => ?_)
          refine b_wl_b b_wl_any (fun o _ => ?_)
          refine b_wl_g (fun hg => ?_)
          refine b_wl_lA (c := 211) hF (by decide +kernel) (fun hF => ?_)
          refine b_wl_g (fun hg => ?_)
          refine b_wl_b b_wl_any (fun o _ => ?_)
          refine b_wl_g (fun hg => ?_)
          refine b_wl_lA (c := 212) hF (by decide +kernel) (fun hF => ?_)
          refine b_wl_g (fun hg => ?_)
          exact b_wl_s hF
        · refine b_wl_g (fun hg => ?_)
          exact b_wl_s hF
      · refine b_wl_g (fun hg => ?_)
        exact b_wl_s hF
theorem w_X12_makeShown_b205 {v1 : Int} {v2 : Int} {M0 M : bM} (hF : b_fr W_X12_makeShown M0 M) : b_wl (F_X12_makeShown_b205 v1 v2 M) (Sum.elim (fun t : Int × bM => b_fr W_X12_makeShown M0 t.2) (fun t : bM => b_fr W_X12_makeShown M0 t)) := by
  unfold F_X12_makeShown_b205
  refine b_wl_g (fun hg => ?_)
  refine b_wl_i (fun c47 => ?_) (fun c47 => ?_)
  · refine b_wl_g (fun hg => ?_)
    refine b_wl_lA (c := 211) hF (by decide +kernel) (fun hF => ?_)
    refine b_wl_g (fun hg => ?_)
    refine b_wl_lA (c := 212) hF (by decide +kernel) (fun hF => ?_)
    refine b_wl_g (fun hg => ?_)
    refine b_wl_lA (c := 213) hF (by decide +kernel) (fun hF => ?_)
    refine b_wl_g (fun hg => ?_)
    exact b_wl_s hF
  · refine b_wl_g (fun hg => ?_)
    exact b_wl_s hF
theorem w_X12_makeShown_b100 {v1 : Int} {v2 : Int} {M0 M : bM} (hF : b_fr W_X12_makeShown M0 M) : b_wl (F_X12_makeShown_b100 v1 v2 M) (Sum.elim (fun t : Int × bM => b_fr W_X12_makeShown M0 t.2) (fun t : bM => b_fr W_X12_makeShown M0 t)) := by
  unfold F_X12_makeShown_b100
  refine b_wl_g (fun hg => ?_)
  refine b_wl_lA (c := 211) hF (by decide +kernel) (fun hF => ?_)
  refine b_wl_g (fun hg => ?_)
  refine b_wl_lA (c := 212) hF (by decide +kernel) (fun hF => ?_)
  refine b_wl_b (b_wl_loop (A := (fun t : Int × bM => b_fr W_X12_makeShown M0 t.2)) (fun t ht => w_X12_makeShown_s118 ht) hF) (fun t ht => ?_)
  replace hF : b_fr W_X12_makeShown M0 t := ht
  exact w_X12_makeShown_b205 hF
theorem w_X12_makeShown_s65 {v1 : Int} {v2 : Int} {M0 M : bM} (hF : b_fr W_X12_makeShown M0 M) : b_wl (F_X12_makeShown_s65 v1 v2 M) (Sum.elim (fun t : Int × bM => b_fr W_X12_makeShown M0 t.2) (fun t : bM => b_fr W_X12_makeShown M0 t)) := by
  unfold F_X12_makeShown_s65
  refine b_wl_i (fun c15 => ?_) (fun c15 => ?_)
  · exact b_wl_s hF
  · refine b_wl_g (fun hg => ?_)
    refine b_wl_lA (c := 213) hF (by decide +kernel) (fun hF => ?_)
    refine b_wl_b (b_wl_loop (A := (fun t : Int × bM => b_fr W_X12_makeShown M0 t.2)) (fun t ht => w_X12_makeShown_s82 ht) hF) (fun t ht => ?_)
    replace hF : b_fr W_X12_makeShown M0 t := ht
    exact w_X12_makeShown_b100 hF
theorem w_X12_makeShown_b256 {M0 M : bM} (hF : b_fr W_X12_makeShown M0 M) : b_wl (F_X12_makeShown_b256 M) (fun o : bM => b_fr W_X12_makeShown M0 o) := by
  unfold F_X12_makeShown_b256
  exact b_wl_s hF
theorem w_X12_makeShown_b63 {v1 : Int} {M0 M : bM} (hF : b_fr W_X12_makeShown M0 M) : b_wl (F_X12_makeShown_b63 v1 M) (fun o : bM => b_fr W_X12_makeShown M0 o) := by
  unfold F_X12_makeShown_b63
  refine b_wl_b (b_wl_loop (A := (fun t : Int × bM => b_fr W_X12_makeShown M0 t.2)) (fun t ht => w_X12_makeShown_s65 ht) hF) (fun t ht => ?_)
  replace hF : b_fr W_X12_makeShown M0 t := ht
  exact w_X12_makeShown_b256 hF
theorem w_X12_makeShown {v1 : Int} {M0 M : bM} (hF : b_fr W_X12_makeShown M0 M) : b_wl (F_X12_makeShown v1 M) (fun o : bM => b_fr W_X12_makeShown M0 o) := by
  unfold F_X12_makeShown
  refine b_wl_b (w_X12_makeOnes b_fr_refl) (fun o ho => ?_)
  replace hF := b_fr_tr hF (b_fr_mo (by decide +kernel) ho)
  refine b_wl_b (b_wl_loop (A := (fun t : Int × bM => b_fr W_X12_makeShown M0 t.2)) (fun t ht => w_X12_makeShown_s7 ht) hF) (fun t ht => ?_)
  replace hF : b_fr W_X12_makeShown M0 t := ht
  exact w_X12_makeShown_b63 hF
def W_X12_shown : List (Nat × Option Int) := [(168, none), (208, none), (209, none), (210, none), (211, none), (212, none), (213, none), (214, none), (215, none), (216, none)]
theorem w_X12_shown_b65 {v1 : Int} {v3 : Int} {M0 M : bM} (hF : b_fr W_X12_shown M0 M) : b_wl (F_X12_shown_b65 v1 v3 M) (fun o : Int × bM => b_fr W_X12_shown M0 o.2) := by
  unfold F_X12_shown_b65
  refine b_wl_i (fun c11 => ?_) (fun c11 => ?_)
  · refine b_wl_g (fun hg => ?_)
    exact b_wl_s hF
  · refine b_wl_g (fun hg => ?_)
    exact b_wl_s hF
theorem w_X12_shown {v1 : Int} {v2 : Int} {v3 : Int} {M0 M : bM} (hF : b_fr W_X12_shown M0 M) : b_wl (F_X12_shown v1 v2 v3 M) (fun o : Int × bM => b_fr W_X12_shown M0 o.2) := by
  unfold F_X12_shown
  refine b_wl_g (fun hg => ?_)
  refine b_wl_b b_wl_any (fun o _ => ?_)
  refine b_wl_i (fun c3 => ?_) (fun c3 => ?_)
  · exact b_wl_s hF
  · refine b_wl_b b_wl_any (fun o _ => ?_)
    refine b_wl_i (fun c5 => ?_) (fun c5 => ?_)
    · exact b_wl_s hF
    · refine b_wl_b b_wl_any (fun o _ => ?_)
      refine b_wl_i (fun c7 => ?_) (fun c7 => ?_)
      · exact b_wl_s hF
      · refine b_wl_b (w_X12_makeShown b_fr_refl) (fun o ho => ?_)
        replace hF := b_fr_tr hF (b_fr_mo (by decide +kernel) ho)
        refine b_wl_i (fun c9 => ?_) (fun c9 => ?_)
        · refine b_wl_i (fun c10 => ?_) (fun c10 => ?_)
          · exact w_X12_shown_b65 hF
          · refine b_wl_i (fun c14 => ?_) (fun c14 => ?_)
            · exact w_X12_shown_b65 hF
            · refine b_wl_i (fun c15 => ?_) (fun c15 => ?_)
              · refine b_wl_i (fun c16 => ?_) (fun c16 => ?_)
                · refine b_wl_b b_wl_any (fun o _ => ?_)
                  exact b_wl_s hF
                · refine b_wl_g (fun hg => ?_)
                  exact b_wl_s hF
              · refine b_wl_g (fun hg => ?_)
                exact b_wl_s hF
        · refine b_wl_g (fun hg => ?_)
          exact b_wl_s hF
def W_X12_root : List (Nat × Option Int) := [(217, none), (218, none)]
theorem w_X12_root {v1 : Int} {v2 : Int} {v3 : Int} {M0 M : bM} (hF : b_fr W_X12_root M0 M) : b_wl (F_X12_root v1 v2 v3 M) (fun o : Int × bM => b_fr W_X12_root M0 o.2) := by
  unfold F_X12_root
  refine b_wl_b b_wl_any (fun o _ => ?_)
  refine b_wl_i (fun c2 => ?_) (fun c2 => ?_)
  · exact b_wl_s hF
  · refine b_wl_b b_wl_any (fun o _ => ?_)
    refine b_wl_i (fun c4 => ?_) (fun c4 => ?_)
    · exact b_wl_s hF
    · refine b_wl_b b_wl_any (fun o _ => ?_)
      refine b_wl_i (fun c6 => ?_) (fun c6 => ?_)
      · exact b_wl_s hF
      · refine b_wl_g (fun hg => ?_)
        refine b_wl_i (fun c8 => ?_) (fun c8 => ?_)
        · refine b_wl_g (fun hg => ?_)
          refine b_wl_i (fun c10 => ?_) (fun c10 => ?_)
          · refine b_wl_g (fun hg => ?_)
            refine b_wl_lA (c := 217) hF (by decide +kernel) (fun hF => ?_)
            refine b_wl_g (fun hg => ?_)
            refine b_wl_lA (c := 218) hF (by decide +kernel) (fun hF => ?_)
            exact b_wl_s hF
          · exact b_wl_s hF
        · exact b_wl_s hF
def W_X12_makeWays : List (Nat × Option Int) := [(221, none), (222, none), (223, none)]
theorem w_X12_makeWays_b110 {v1 : Int} {v2 : Int} {u1 : Int} {u2 : Int} {M0 M : bM} (hF : b_fr W_X12_makeWays M0 M) : b_wl (F_X12_makeWays_b110 v1 v2 u1 u2 M) (Sum.elim (fun t : Int × bM => b_fr W_X12_makeWays M0 t.2) (fun t : bM => b_fr W_X12_makeWays M0 t)) := by
  unfold F_X12_makeWays_b110
  refine b_wl_g (fun hg => ?_)
  refine b_wl_lA (c := 221) hF (by decide +kernel) (fun hF => ?_)
  refine b_wl_g (fun hg => ?_)
  exact b_wl_s hF
theorem w_X12_makeWays_b109 {v1 : Int} {v2 : Int} {u1 : Int} {M0 M : bM} (hF : b_fr W_X12_makeWays M0 M) : b_wl (F_X12_makeWays_b109 v1 v2 u1 M) (Sum.elim (fun t : Int × bM => b_fr W_X12_makeWays M0 t.2) (fun t : bM => b_fr W_X12_makeWays M0 t)) := by
  unfold F_X12_makeWays_b109
  exact w_X12_makeWays_b110 hF
theorem w_X12_makeWays_s48 {v1 : Int} {v2 : Int} {M0 M : bM} (hF : b_fr W_X12_makeWays M0 M) : b_wl (F_X12_makeWays_s48 v1 v2 M) (Sum.elim (fun t : Int × bM => b_fr W_X12_makeWays M0 t.2) (fun t : bM => b_fr W_X12_makeWays M0 t)) := by
  unfold F_X12_makeWays_s48
  refine b_wl_i (fun c7 => ?_) (fun c7 => ?_)
  · exact b_wl_s hF
  · refine b_wl_g (fun hg => ?_)
    refine b_wl_i (fun c10 => ?_) (fun c10 => ?_)
    · exact w_X12_makeWays_b109 hF
    · refine b_wl_b b_wl_any (fun o _ => ?_)
      refine b_wl_i (fun c16 => ?_) (fun c16 => ?_)
      · exact w_X12_makeWays_b109 hF
      · refine b_wl_b b_wl_any (fun o _ => ?_)
        refine b_wl_i (fun c18 => ?_) (fun c18 => ?_)
        · exact w_X12_makeWays_b109 hF
        · refine b_wl_g (fun hg => ?_)
          refine b_wl_b b_wl_any (fun o _ => ?_)
          refine b_wl_i (fun c23 => ?_) (fun c23 => ?_)
          · exact w_X12_makeWays_b109 hF
          · exact w_X12_makeWays_b110 hF
theorem w_X12_makeWays_b187 {v1 : Int} {v2 : Int} {u1 : Int} {u2 : Int} {M0 M : bM} (hF : b_fr W_X12_makeWays M0 M) : b_wl (F_X12_makeWays_b187 v1 v2 u1 u2 M) (Sum.elim (fun t : Int × bM => b_fr W_X12_makeWays M0 t.2) (fun t : bM => b_fr W_X12_makeWays M0 t)) := by
  unfold F_X12_makeWays_b187
  refine b_wl_g (fun hg => ?_)
  refine b_wl_lA (c := 222) hF (by decide +kernel) (fun hF => ?_)
  refine b_wl_g (fun hg => ?_)
  exact b_wl_s hF
theorem w_X12_makeWays_b186 {v1 : Int} {v2 : Int} {u1 : Int} {M0 M : bM} (hF : b_fr W_X12_makeWays M0 M) : b_wl (F_X12_makeWays_b186 v1 v2 u1 M) (Sum.elim (fun t : Int × bM => b_fr W_X12_makeWays M0 t.2) (fun t : bM => b_fr W_X12_makeWays M0 t)) := by
  unfold F_X12_makeWays_b186
  exact w_X12_makeWays_b187 hF
theorem w_X12_makeWays_s119 {v1 : Int} {v2 : Int} {M0 M : bM} (hF : b_fr W_X12_makeWays M0 M) : b_wl (F_X12_makeWays_s119 v1 v2 M) (Sum.elim (fun t : Int × bM => b_fr W_X12_makeWays M0 t.2) (fun t : bM => b_fr W_X12_makeWays M0 t)) := by
  unfold F_X12_makeWays_s119
  refine b_wl_i (fun c24 => ?_) (fun c24 => ?_)
  · exact b_wl_s hF
  · refine b_wl_g (fun hg => ?_)
    refine b_wl_b b_wl_any (fun o _ => ?_)
    refine b_wl_i (fun c28 => ?_) (fun c28 => ?_)
    · exact w_X12_makeWays_b186 hF
    · refine b_wl_b b_wl_any (fun o _ => ?_)
      refine b_wl_i (fun c34 => ?_) (fun c34 => ?_)
      · exact w_X12_makeWays_b186 hF
      · refine b_wl_g (fun hg => ?_)
        refine b_wl_b b_wl_any (fun o _ => ?_)
        refine b_wl_i (fun c37 => ?_) (fun c37 => ?_)
        · exact w_X12_makeWays_b186 hF
        · refine b_wl_g (fun hg => ?_)
          refine b_wl_i (fun c40 => ?_) (fun c40 => ?_)
          · exact w_X12_makeWays_b186 hF
          · exact w_X12_makeWays_b187 hF
theorem w_X12_makeWays_b194 {v1 : Int} {M0 M : bM} (hF : b_fr W_X12_makeWays M0 M) : b_wl (F_X12_makeWays_b194 v1 M) (Sum.elim (fun t : Int × bM => b_fr W_X12_makeWays M0 t.2) (fun t : bM => b_fr W_X12_makeWays M0 t)) := by
  unfold F_X12_makeWays_b194
  refine b_wl_g (fun hg => ?_)
  exact b_wl_s hF
theorem w_X12_makeWays_b117 {v1 : Int} {M0 M : bM} (hF : b_fr W_X12_makeWays M0 M) : b_wl (F_X12_makeWays_b117 v1 M) (Sum.elim (fun t : Int × bM => b_fr W_X12_makeWays M0 t.2) (fun t : bM => b_fr W_X12_makeWays M0 t)) := by
  unfold F_X12_makeWays_b117
  refine b_wl_b (b_wl_loop (A := (fun t : Int × bM => b_fr W_X12_makeWays M0 t.2)) (fun t ht => w_X12_makeWays_s119 ht) hF) (fun t ht => ?_)
  replace hF : b_fr W_X12_makeWays M0 t := ht
  exact w_X12_makeWays_b194 hF
theorem w_X12_makeWays_b45 {v1 : Int} {u1 : Int} {u2 : Int} {M0 M : bM} (hF : b_fr W_X12_makeWays M0 M) : b_wl (F_X12_makeWays_b45 v1 u1 u2 M) (Sum.elim (fun t : Int × bM => b_fr W_X12_makeWays M0 t.2) (fun t : bM => b_fr W_X12_makeWays M0 t)) := by
  unfold F_X12_makeWays_b45
  refine b_wl_g (fun hg => ?_)
  refine b_wl_lA (c := 223) hF (by decide +kernel) (fun hF => ?_)
  refine b_wl_b (b_wl_loop (A := (fun t : Int × bM => b_fr W_X12_makeWays M0 t.2)) (fun t ht => w_X12_makeWays_s48 ht) hF) (fun t ht => ?_)
  replace hF : b_fr W_X12_makeWays M0 t := ht
  exact w_X12_makeWays_b117 hF
theorem w_X12_makeWays_b44 {v1 : Int} {u1 : Int} {M0 M : bM} (hF : b_fr W_X12_makeWays M0 M) : b_wl (F_X12_makeWays_b44 v1 u1 M) (Sum.elim (fun t : Int × bM => b_fr W_X12_makeWays M0 t.2) (fun t : bM => b_fr W_X12_makeWays M0 t)) := by
  unfold F_X12_makeWays_b44
  exact w_X12_makeWays_b45 hF
theorem w_X12_makeWays_s2 {v1 : Int} {M0 M : bM} (hF : b_fr W_X12_makeWays M0 M) : b_wl (F_X12_makeWays_s2 v1 M) (Sum.elim (fun t : Int × bM => b_fr W_X12_makeWays M0 t.2) (fun t : bM => b_fr W_X12_makeWays M0 t)) := by
  unfold F_X12_makeWays_s2
  refine b_wl_i (fun c1 => ?_) (fun c1 => ?_)
  · exact b_wl_s hF
  · refine b_wl_b b_wl_any (fun o _ => ?_)
    refine b_wl_i (fun c3 => ?_) (fun c3 => ?_)
    · exact w_X12_makeWays_b44 hF
    · refine b_wl_g (fun hg => ?_)
      refine b_wl_b b_wl_any (fun o _ => ?_)
      refine b_wl_i (fun c46 => ?_) (fun c46 => ?_)
      · exact w_X12_makeWays_b44 hF
      · exact w_X12_makeWays_b45 hF
theorem w_X12_makeWays_b200 {M0 M : bM} (hF : b_fr W_X12_makeWays M0 M) : b_wl (F_X12_makeWays_b200 M) (fun o : bM => b_fr W_X12_makeWays M0 o) := by
  unfold F_X12_makeWays_b200
  exact b_wl_s hF
theorem w_X12_makeWays {M0 M : bM} (hF : b_fr W_X12_makeWays M0 M) : b_wl (F_X12_makeWays M) (fun o : bM => b_fr W_X12_makeWays M0 o) := by
  unfold F_X12_makeWays
  refine b_wl_b (b_wl_loop (A := (fun t : Int × bM => b_fr W_X12_makeWays M0 t.2)) (fun t ht => w_X12_makeWays_s2 ht) hF) (fun t ht => ?_)
  replace hF : b_fr W_X12_makeWays M0 t := ht
  exact w_X12_makeWays_b200 hF
def W_X12_makeLatest : List (Nat × Option Int) := [(220, none)]
theorem w_X12_makeLatest_s71 {v1 : Int} {v2 : Int} {v3 : Int} {v4 : Int} {v5 : Int} {v6 : Int} {M0 M : bM} (hF : b_fr W_X12_makeLatest M0 M) : b_wl (F_X12_makeLatest_s71 v1 v2 v3 v4 v5 v6 M) (Sum.elim (fun _ : Int × Int => True) (fun _ : Int => True)) := by
  unfold F_X12_makeLatest_s71
  refine b_wl_i (fun c6 => ?_) (fun c6 => ?_)
  · exact b_wl_s trivial
  · refine b_wl_i (fun c7 => ?_) (fun c7 => ?_)
    · exact b_wl_s trivial
    · refine b_wl_i (fun c8 => ?_) (fun c8 => ?_)
      · exact b_wl_s trivial
      · refine b_wl_g (fun hg => ?_)
        refine b_wl_l ?_
        refine b_wl_g (fun hg => ?_)
        refine b_wl_i (fun c15 => ?_) (fun c15 => ?_)
        · refine b_wl_g (fun hg => ?_)
          exact b_wl_s trivial
        · refine b_wl_g (fun hg => ?_)
          refine b_wl_i (fun c20 => ?_) (fun c20 => ?_)
          · refine b_wl_g (fun hg => ?_)
            exact b_wl_s trivial
          · refine b_wl_g (fun hg => ?_)
            refine b_wl_b b_wl_any (fun o _ => ?_)
            refine b_wl_b b_wl_any (fun o _ => ?_)
            refine b_wl_g (fun hg => ?_)
            exact b_wl_s trivial
theorem w_X12_makeLatest_b160 {v1 : Int} {v2 : Int} {v3 : Int} {v4 : Int} {M0 M : bM} (hF : b_fr W_X12_makeLatest M0 M) : b_wl (F_X12_makeLatest_b160 v1 v2 v3 v4 M) (Sum.elim (fun t : Int × bM => b_fr W_X12_makeLatest M0 t.2) (fun t : bM => b_fr W_X12_makeLatest M0 t)) := by
  unfold F_X12_makeLatest_b160
  refine b_wl_g (fun hg => ?_)
  refine b_wl_lA (c := 220) hF (by decide +kernel) (fun hF => ?_)
  refine b_wl_g (fun hg => ?_)
  exact b_wl_s hF
theorem w_X12_makeLatest_b68 {v1 : Int} {v2 : Int} {v3 : Int} {v4 : Int} {v5 : Int} {M0 M : bM} (hF : b_fr W_X12_makeLatest M0 M) : b_wl (F_X12_makeLatest_b68 v1 v2 v3 v4 v5 M) (Sum.elim (fun t : Int × bM => b_fr W_X12_makeLatest M0 t.2) (fun t : bM => b_fr W_X12_makeLatest M0 t)) := by
  unfold F_X12_makeLatest_b68
  refine b_wl_b (b_wl_loop (A := (fun _ : Int × Int => True)) (fun t ht => w_X12_makeLatest_s71 hF) trivial) (fun t ht => ?_)
  exact w_X12_makeLatest_b160 hF
theorem w_X12_makeLatest_b43 {v1 : Int} {v2 : Int} {v3 : Int} {v4 : Int} {u0 : Int} {M0 M : bM} (hF : b_fr W_X12_makeLatest M0 M) : b_wl (F_X12_makeLatest_b43 v1 v2 v3 v4 u0 M) (Sum.elim (fun t : Int × bM => b_fr W_X12_makeLatest M0 t.2) (fun t : bM => b_fr W_X12_makeLatest M0 t)) := by
  unfold F_X12_makeLatest_b43
  refine b_wl_i (fun c5 => ?_) (fun c5 => ?_)
  · refine b_wl_i (fun c31 => ?_) (fun c31 => ?_)
    · exact w_X12_makeLatest_b68 hF
    · refine b_wl_g (fun hg => ?_)
      refine b_wl_i (fun c33 => ?_) (fun c33 => ?_)
      · exact w_X12_makeLatest_b68 hF
      · exact w_X12_makeLatest_b68 hF
  · exact w_X12_makeLatest_b68 hF
theorem w_X12_makeLatest_b42 {v1 : Int} {v2 : Int} {v3 : Int} {v4 : Int} {M0 M : bM} (hF : b_fr W_X12_makeLatest M0 M) : b_wl (F_X12_makeLatest_b42 v1 v2 v3 v4 M) (Sum.elim (fun t : Int × bM => b_fr W_X12_makeLatest M0 t.2) (fun t : bM => b_fr W_X12_makeLatest M0 t)) := by
  unfold F_X12_makeLatest_b42
  exact w_X12_makeLatest_b43 hF
theorem w_X12_makeLatest_s10 {v1 : Int} {v2 : Int} {v3 : Int} {M0 M : bM} (hF : b_fr W_X12_makeLatest M0 M) : b_wl (F_X12_makeLatest_s10 v1 v2 v3 M) (Sum.elim (fun t : Int × bM => b_fr W_X12_makeLatest M0 t.2) (fun t : bM => b_fr W_X12_makeLatest M0 t)) := by
  unfold F_X12_makeLatest_s10
  refine b_wl_i (fun c2 => ?_) (fun c2 => ?_)
  · exact b_wl_s hF
  · refine b_wl_b b_wl_any (fun o _ => ?_)
    refine b_wl_i (fun c4 => ?_) (fun c4 => ?_)
    · exact w_X12_makeLatest_b42 hF
    · refine b_wl_b b_wl_any (fun o _ => ?_)
      refine b_wl_i (fun c35 => ?_) (fun c35 => ?_)
      · exact w_X12_makeLatest_b42 hF
      · exact w_X12_makeLatest_b43 hF
theorem w_X12_makeLatest_b179 {v1 : Int} {v2 : Int} {M0 M : bM} (hF : b_fr W_X12_makeLatest M0 M) : b_wl (F_X12_makeLatest_b179 v1 v2 M) (Sum.elim (fun t : Int × bM => b_fr W_X12_makeLatest M0 t.2) (fun t : bM => b_fr W_X12_makeLatest M0 t)) := by
  unfold F_X12_makeLatest_b179
  refine b_wl_g (fun hg => ?_)
  exact b_wl_s hF
theorem w_X12_makeLatest_s2 {v1 : Int} {v2 : Int} {M0 M : bM} (hF : b_fr W_X12_makeLatest M0 M) : b_wl (F_X12_makeLatest_s2 v1 v2 M) (Sum.elim (fun t : Int × bM => b_fr W_X12_makeLatest M0 t.2) (fun t : bM => b_fr W_X12_makeLatest M0 t)) := by
  unfold F_X12_makeLatest_s2
  refine b_wl_i (fun c1 => ?_) (fun c1 => ?_)
  · exact b_wl_s hF
  · refine b_wl_b (b_wl_loop (A := (fun t : Int × bM => b_fr W_X12_makeLatest M0 t.2)) (fun t ht => w_X12_makeLatest_s10 ht) hF) (fun t ht => ?_)
    replace hF : b_fr W_X12_makeLatest M0 t := ht
    exact w_X12_makeLatest_b179 hF
theorem w_X12_makeLatest_b185 {M0 M : bM} (hF : b_fr W_X12_makeLatest M0 M) : b_wl (F_X12_makeLatest_b185 M) (fun o : bM => b_fr W_X12_makeLatest M0 o) := by
  unfold F_X12_makeLatest_b185
  exact b_wl_s hF
theorem w_X12_makeLatest {v1 : Int} {M0 M : bM} (hF : b_fr W_X12_makeLatest M0 M) : b_wl (F_X12_makeLatest v1 M) (fun o : bM => b_fr W_X12_makeLatest M0 o) := by
  unfold F_X12_makeLatest
  refine b_wl_b (b_wl_loop (A := (fun t : Int × bM => b_fr W_X12_makeLatest M0 t.2)) (fun t ht => w_X12_makeLatest_s2 ht) hF) (fun t ht => ?_)
  replace hF : b_fr W_X12_makeLatest M0 t := ht
  exact w_X12_makeLatest_b185 hF
def W_X12_takeLinks : List (Nat × Option Int) := [(11, some 86), (219, none)]
theorem w_X12_takeLinks_b85 {v1 : Int} {v2 : Int} {v3 : Int} {v4 : Int} {v5 : Int} {u0 : Int} {M0 M : bM} (hF : b_fr W_X12_takeLinks M0 M) : b_wl (F_X12_takeLinks_b85 v1 v2 v3 v4 v5 u0 M) (Sum.elim (fun _ : Int => True) (fun _ : Int => True)) := by
  unfold F_X12_takeLinks_b85
  refine b_wl_i (fun c12 => ?_) (fun c12 => ?_)
  · refine b_wl_g (fun hg => ?_)
    exact b_wl_s trivial
  · refine b_wl_g (fun hg => ?_)
    refine b_wl_b b_wl_any (fun o _ => ?_)
    refine b_wl_g (fun hg => ?_)
    refine b_wl_i (fun c19 => ?_) (fun c19 => ?_)
    · refine b_wl_g (fun hg => ?_)
      exact b_wl_s trivial
    · exact b_wl_s trivial
theorem w_X12_takeLinks_b84 {v1 : Int} {v2 : Int} {v3 : Int} {v4 : Int} {v5 : Int} {M0 M : bM} (hF : b_fr W_X12_takeLinks M0 M) : b_wl (F_X12_takeLinks_b84 v1 v2 v3 v4 v5 M) (Sum.elim (fun _ : Int => True) (fun _ : Int => True)) := by
  unfold F_X12_takeLinks_b84
  exact w_X12_takeLinks_b85 hF
theorem w_X12_takeLinks_s23 {v1 : Int} {v2 : Int} {v3 : Int} {v4 : Int} {v5 : Int} {M0 M : bM} (hF : b_fr W_X12_takeLinks M0 M) : b_wl (F_X12_takeLinks_s23 v1 v2 v3 v4 v5 M) (Sum.elim (fun _ : Int => True) (fun _ : Int => True)) := by
  unfold F_X12_takeLinks_s23
  refine b_wl_i (fun c5 => ?_) (fun c5 => ?_)
  · refine b_wl_g (fun hg => ?_)
    exact w_X12_takeLinks_b85 hF
  · refine b_wl_g (fun hg => ?_)
    refine b_wl_i (fun c11 => ?_) (fun c11 => ?_)
    · exact w_X12_takeLinks_b84 hF
    · refine b_wl_g (fun hg => ?_)
      refine b_wl_i (fun c22 => ?_) (fun c22 => ?_)
      · exact w_X12_takeLinks_b84 hF
      · exact w_X12_takeLinks_b85 hF
theorem w_X12_takeLinks_b128 {v1 : Int} {v2 : Int} {v3 : Int} {v4 : Int} {v5 : Int} {M0 M : bM} (hF : b_fr W_X12_takeLinks M0 M) : b_wl (F_X12_takeLinks_b128 v1 v2 v3 v4 v5 M) (Sum.elim (fun t : Int × Int × bM => b_fr W_X12_takeLinks M0 t.2.2) (fun t : bM => b_fr W_X12_takeLinks M0 t)) := by
  unfold F_X12_takeLinks_b128
  refine b_wl_g (fun hg => ?_)
  refine b_wl_lA (c := 219) hF (by decide +kernel) (fun hF => ?_)
  refine b_wl_g (fun hg => ?_)
  refine b_wl_lF (c := 11) (i := 86) hF (by decide +kernel) (fun hF => ?_)
  refine b_wl_g (fun hg => ?_)
  refine b_wl_b b_wl_any (fun o _ => ?_)
  refine b_wl_g (fun hg => ?_)
  exact b_wl_s hF
theorem w_X12_takeLinks_s15 {v1 : Int} {v2 : Int} {v3 : Int} {v4 : Int} {M0 M : bM} (hF : b_fr W_X12_takeLinks M0 M) : b_wl (F_X12_takeLinks_s15 v1 v2 v3 v4 M) (Sum.elim (fun t : Int × Int × bM => b_fr W_X12_takeLinks M0 t.2.2) (fun t : bM => b_fr W_X12_takeLinks M0 t)) := by
  unfold F_X12_takeLinks_s15
  refine b_wl_i (fun c4 => ?_) (fun c4 => ?_)
  · exact b_wl_s hF
  · refine b_wl_b (b_wl_loop (A := (fun _ : Int => True)) (fun t ht => w_X12_takeLinks_s23 hF) trivial) (fun t ht => ?_)
    exact w_X12_takeLinks_b128 hF
theorem w_X12_takeLinks_b167 {M0 M : bM} (hF : b_fr W_X12_takeLinks M0 M) : b_wl (F_X12_takeLinks_b167 M) (fun o : bM => b_fr W_X12_takeLinks M0 o) := by
  unfold F_X12_takeLinks_b167
  exact b_wl_s hF
theorem w_X12_takeLinks {v1 : Int} {v2 : Int} {M0 M : bM} (hF : b_fr W_X12_takeLinks M0 M) : b_wl (F_X12_takeLinks v1 v2 M) (fun o : bM => b_fr W_X12_takeLinks M0 o) := by
  unfold F_X12_takeLinks
  refine b_wl_g (fun hg => ?_)
  refine b_wl_l ?_
  refine b_wl_lF (c := 11) (i := 86) hF (by decide +kernel) (fun hF => ?_)
  refine b_wl_b (b_wl_loop (A := (fun t : Int × Int × bM => b_fr W_X12_takeLinks M0 t.2.2)) (fun t ht => w_X12_takeLinks_s15 ht) hF) (fun t ht => ?_)
  replace hF : b_fr W_X12_takeLinks M0 t := ht
  exact w_X12_takeLinks_b167 hF
def W_X12_fewest : List (Nat × Option Int) := [(220, none)]
theorem w_X12_fewest_s7 {v2 : Int} {M0 M : bM} (hF : b_fr W_X12_fewest M0 M) : b_wl (F_X12_fewest_s7 v2 M) (Sum.elim (fun _ : Int => True) (Sum.elim (fun _ : Unit => True) (fun o : Int × bM => b_fr W_X12_fewest M0 o.2))) := by
  unfold F_X12_fewest_s7
  refine b_wl_i (fun c2 => ?_) (fun c2 => ?_)
  · exact b_wl_s trivial
  · refine b_wl_b b_wl_any (fun o _ => ?_)
    refine b_wl_i (fun c4 => ?_) (fun c4 => ?_)
    · refine b_wl_g (fun hg => ?_)
      exact b_wl_s trivial
    · exact b_wl_s hF
theorem w_X12_fewest_b30 {M0 M : bM} (hF : b_fr W_X12_fewest M0 M) : b_wl (F_X12_fewest_b30 M) (fun o : Int × bM => b_fr W_X12_fewest M0 o.2) := by
  unfold F_X12_fewest_b30
  exact b_wl_s hF
theorem w_X12_fewest {v1 : Int} {M0 M : bM} (hF : b_fr W_X12_fewest M0 M) : b_wl (F_X12_fewest v1 M) (fun o : Int × bM => b_fr W_X12_fewest M0 o.2) := by
  unfold F_X12_fewest
  refine b_wl_b (w_X12_makeLatest b_fr_refl) (fun o ho => ?_)
  replace hF := b_fr_tr hF (b_fr_mo (by decide +kernel) ho)
  refine b_wl_b (b_wl_loop (A := (fun _ : Int => True)) (fun t ht => w_X12_fewest_s7 hF) trivial) (fun t ht => ?_)
  cases t with
  | inr o => exact b_wl_s ht
  | inl t =>
    refine b_wl_inl ?_
    exact w_X12_fewest_b30 hF
def W_X12_makeChain : List (Nat × Option Int) := [(11, some 80), (11, some 81), (11, some 82), (11, some 83), (11, some 84), (11, some 85), (11, some 86), (11, some 87), (168, none), (208, none), (209, none), (210, none), (211, none), (212, none), (213, none), (214, none), (215, none), (216, none), (219, none), (220, none), (221, none), (222, none), (223, none)]
theorem w_X12_makeChain_s73 {v4 : Int} {v5 : Int} {M0 M : bM} (hF : b_fr W_X12_makeChain M0 M) : b_wl (F_X12_makeChain_s73 v4 v5 M) (Sum.elim (fun _ : Int × Int => True) (fun _ : Int => True)) := by
  unfold F_X12_makeChain_s73
  refine b_wl_i (fun c15 => ?_) (fun c15 => ?_)
  · exact b_wl_s trivial
  · refine b_wl_b b_wl_any (fun o _ => ?_)
    refine b_wl_i (fun c17 => ?_) (fun c17 => ?_)
    · refine b_wl_g (fun hg => ?_)
      exact b_wl_s trivial
    · refine b_wl_g (fun hg => ?_)
      refine b_wl_b b_wl_any (fun o _ => ?_)
      refine b_wl_i (fun c21 => ?_) (fun c21 => ?_)
      · refine b_wl_g (fun hg => ?_)
        exact b_wl_s trivial
      · refine b_wl_g (fun hg => ?_)
        exact b_wl_s trivial
theorem w_X12_makeChain_s136 {v4 : Int} {v5 : Int} {v6 : Int} {v7 : Int} {M0 M : bM} (hF : b_fr W_X12_makeChain M0 M) : b_wl (F_X12_makeChain_s136 v4 v5 v6 v7 M) (Sum.elim (fun t : Int × Int × Int × bM => b_fr W_X12_makeChain M0 t.2.2.2) (fun t : Int × Int × bM => b_fr W_X12_makeChain M0 t.2.2)) := by
  unfold F_X12_makeChain_s136
  refine b_wl_i (fun c26 => ?_) (fun c26 => ?_)
  · exact b_wl_s hF
  · refine b_wl_b b_wl_any (fun o _ => ?_)
    refine b_wl_i (fun c28 => ?_) (fun c28 => ?_)
    · refine b_wl_g (fun hg => ?_)
      exact b_wl_s hF
    · refine b_wl_b b_wl_any (fun o _ => ?_)
      refine b_wl_b (w_X12_fewest b_fr_refl) (fun o ho => ?_)
      refine b_wl_two ?_
      replace hF := b_fr_tr hF (b_fr_mo (by decide +kernel) ho)
      refine b_wl_i (fun c33 => ?_) (fun c33 => ?_)
      · refine b_wl_g (fun hg => ?_)
        exact b_wl_s hF
      · refine b_wl_b b_wl_any (fun o _ => ?_)
        refine b_wl_g (fun hg => ?_)
        exact b_wl_s hF
theorem w_X12_makeChain_s270 {v5 : Int} {v7 : Int} {v8 : Int} {v9 : Int} {M0 M : bM} (hF : b_fr W_X12_makeChain M0 M) : b_wl (F_X12_makeChain_s270 v5 v7 v8 v9 M) (Sum.elim (fun t : Int × Int × Int × bM => b_fr W_X12_makeChain M0 t.2.2.2) (fun t : Int × Int × bM => b_fr W_X12_makeChain M0 t.2.2)) := by
  unfold F_X12_makeChain_s270
  refine b_wl_i (fun c40 => ?_) (fun c40 => ?_)
  · exact b_wl_s hF
  · refine b_wl_b b_wl_any (fun o _ => ?_)
    refine b_wl_i (fun c42 => ?_) (fun c42 => ?_)
    · exact b_wl_s hF
    · refine b_wl_g (fun hg => ?_)
      refine b_wl_i (fun c44 => ?_) (fun c44 => ?_)
      · refine b_wl_g (fun hg => ?_)
        exact b_wl_s hF
      · refine b_wl_g (fun hg => ?_)
        refine b_wl_i (fun c48 => ?_) (fun c48 => ?_)
        · refine b_wl_g (fun hg => ?_)
          exact b_wl_s hF
        · refine b_wl_b b_wl_any (fun o _ => ?_)
          refine b_wl_i (fun c51 => ?_) (fun c51 => ?_)
          · refine b_wl_b b_wl_any (fun o _ => ?_)
            refine b_wl_lF (c := 11) (i := 87) hF (by decide +kernel) (fun hF => ?_)
            refine b_wl_g (fun hg => ?_)
            exact b_wl_s hF
          · refine b_wl_g (fun hg => ?_)
            exact b_wl_s hF
theorem w_X12_makeChain_b353 {v5 : Int} {v7 : Int} {v8 : Int} {M0 M : bM} (hF : b_fr W_X12_makeChain M0 M) : b_wl (F_X12_makeChain_b353 v5 v7 v8 M) (Sum.elim (fun t : Int × Int × Int × bM => b_fr W_X12_makeChain M0 t.2.2.2) (fun t : Int × Int × bM => b_fr W_X12_makeChain M0 t.2.2)) := by
  unfold F_X12_makeChain_b353
  refine b_wl_g (fun hg => ?_)
  exact b_wl_s hF
theorem w_X12_makeChain_s258 {v5 : Int} {v7 : Int} {v8 : Int} {M0 M : bM} (hF : b_fr W_X12_makeChain M0 M) : b_wl (F_X12_makeChain_s258 v5 v7 v8 M) (Sum.elim (fun t : Int × Int × Int × bM => b_fr W_X12_makeChain M0 t.2.2.2) (fun t : Int × Int × bM => b_fr W_X12_makeChain M0 t.2.2)) := by
  unfold F_X12_makeChain_s258
  refine b_wl_i (fun c39 => ?_) (fun c39 => ?_)
  · exact b_wl_s hF
  · refine b_wl_b (b_wl_loop (A := (fun t : Int × Int × Int × bM => b_fr W_X12_makeChain M0 t.2.2.2)) (fun t ht => w_X12_makeChain_s270 ht) hF) (fun t ht => ?_)
    replace hF : b_fr W_X12_makeChain M0 t.2.2 := ht
    exact w_X12_makeChain_b353 hF
theorem w_X12_makeChain_b359 {v5 : Int} {v7 : Int} {M0 M : bM} (hF : b_fr W_X12_makeChain M0 M) : b_wl (F_X12_makeChain_b359 v5 v7 M) (fun o : Int × bM => b_fr W_X12_makeChain M0 o.2) := by
  unfold F_X12_makeChain_b359
  refine b_wl_i (fun c57 => ?_) (fun c57 => ?_)
  · exact b_wl_s hF
  · refine b_wl_lF (c := 11) (i := 84) hF (by decide +kernel) (fun hF => ?_)
    refine b_wl_lA (c := 219) hF (by decide +kernel) (fun hF => ?_)
    refine b_wl_lF (c := 11) (i := 86) hF (by decide +kernel) (fun hF => ?_)
    refine b_wl_lF (c := 11) (i := 85) hF (by decide +kernel) (fun hF => ?_)
    exact b_wl_s hF
theorem w_X12_makeChain_b209 {v5 : Int} {v6 : Int} {M0 M : bM} (hF : b_fr W_X12_makeChain M0 M) : b_wl (F_X12_makeChain_b209 v5 v6 M) (fun o : Int × bM => b_fr W_X12_makeChain M0 o.2) := by
  unfold F_X12_makeChain_b209
  refine b_wl_i (fun c38 => ?_) (fun c38 => ?_)
  · refine b_wl_b (b_wl_loop (A := (fun t : Int × Int × Int × bM => b_fr W_X12_makeChain M0 t.2.2.2)) (fun t ht => w_X12_makeChain_s258 ht) hF) (fun t ht => ?_)
    replace hF : b_fr W_X12_makeChain M0 t.2.2 := ht
    exact w_X12_makeChain_b359 hF
  · refine b_wl_b (w_X12_fewest b_fr_refl) (fun o ho => ?_)
    refine b_wl_two ?_
    replace hF := b_fr_tr hF (b_fr_mo (by decide +kernel) ho)
    refine b_wl_b b_wl_any (fun o _ => ?_)
    refine b_wl_lF (c := 11) (i := 87) hF (by decide +kernel) (fun hF => ?_)
    refine b_wl_b (w_X12_takeLinks b_fr_refl) (fun o ho => ?_)
    replace hF := b_fr_tr hF (b_fr_mo (by decide +kernel) ho)
    refine b_wl_b b_wl_any (fun o _ => ?_)
    refine b_wl_lF (c := 11) (i := 85) hF (by decide +kernel) (fun hF => ?_)
    exact b_wl_s hF
theorem w_X12_makeChain_b190 {v4 : Int} {v5 : Int} {v6 : Int} {M0 M : bM} (hF : b_fr W_X12_makeChain M0 M) : b_wl (F_X12_makeChain_b190 v4 v5 v6 M) (fun o : Int × bM => b_fr W_X12_makeChain M0 o.2) := by
  unfold F_X12_makeChain_b190
  refine b_wl_i (fun c37 => ?_) (fun c37 => ?_)
  · refine b_wl_i (fun c69 => ?_) (fun c69 => ?_)
    · exact w_X12_makeChain_b209 hF
    · refine b_wl_lF (c := 11) (i := 87) hF (by decide +kernel) (fun hF => ?_)
      exact b_wl_s hF
  · exact w_X12_makeChain_b209 hF
theorem w_X12_makeChain_b128 {v4 : Int} {u0 : Int} {M0 M : bM} (hF : b_fr W_X12_makeChain M0 M) : b_wl (F_X12_makeChain_b128 v4 u0 M) (fun o : Int × bM => b_fr W_X12_makeChain M0 o.2) := by
  unfold F_X12_makeChain_b128
  refine b_wl_b (b_wl_loop (A := (fun t : Int × Int × Int × bM => b_fr W_X12_makeChain M0 t.2.2.2)) (fun t ht => w_X12_makeChain_s136 ht) hF) (fun t ht => ?_)
  replace hF : b_fr W_X12_makeChain M0 t.2.2 := ht
  exact w_X12_makeChain_b190 hF
theorem w_X12_makeChain_b111 {v4 : Int} {M0 M : bM} (hF : b_fr W_X12_makeChain M0 M) : b_wl (F_X12_makeChain_b111 v4 M) (fun o : Int × bM => b_fr W_X12_makeChain M0 o.2) := by
  unfold F_X12_makeChain_b111
  refine b_wl_b (w_X12_makeWays b_fr_refl) (fun o ho => ?_)
  replace hF := b_fr_tr hF (b_fr_mo (by decide +kernel) ho)
  refine b_wl_i (fun c25 => ?_) (fun c25 => ?_)
  · exact w_X12_makeChain_b128 hF
  · exact w_X12_makeChain_b128 hF
theorem w_X12_makeChain_b22 {v1 : Int} {v2 : Int} {v3 : Int} {u1 : Int} {M0 M : bM} (hF : b_fr W_X12_makeChain M0 M) : b_wl (F_X12_makeChain_b22 v1 v2 v3 u1 M) (fun o : Int × bM => b_fr W_X12_makeChain M0 o.2) := by
  unfold F_X12_makeChain_b22
  refine b_wl_g (fun hg => ?_)
  refine b_wl_lF (c := 11) (i := 80) hF (by decide +kernel) (fun hF => ?_)
  refine b_wl_lF (c := 11) (i := 81) hF (by decide +kernel) (fun hF => ?_)
  refine b_wl_g (fun hg => ?_)
  refine b_wl_lF (c := 11) (i := 82) hF (by decide +kernel) (fun hF => ?_)
  refine b_wl_lF (c := 11) (i := 83) hF (by decide +kernel) (fun hF => ?_)
  refine b_wl_lF (c := 11) (i := 86) hF (by decide +kernel) (fun hF => ?_)
  refine b_wl_lF (c := 11) (i := 84) hF (by decide +kernel) (fun hF => ?_)
  refine b_wl_lF (c := 11) (i := 85) hF (by decide +kernel) (fun hF => ?_)
  refine b_wl_g (fun hg => ?_)
  refine b_wl_l ?_
  refine b_wl_b (b_wl_loop (A := (fun _ : Int × Int => True)) (fun t ht => w_X12_makeChain_s73 hF) trivial) (fun t ht => ?_)
  exact w_X12_makeChain_b111 hF
theorem w_X12_makeChain {v1 : Int} {v2 : Int} {v3 : Int} {M0 M : bM} (hF : b_fr W_X12_makeChain M0 M) : b_wl (F_X12_makeChain v1 v2 v3 M) (fun o : Int × bM => b_fr W_X12_makeChain M0 o.2) := by
  unfold F_X12_makeChain
  refine b_wl_b (w_X12_makeShown b_fr_refl) (fun o ho => ?_)
  replace hF := b_fr_tr hF (b_fr_mo (by decide +kernel) ho)
  refine b_wl_b b_wl_any (fun o _ => ?_)
  refine b_wl_i (fun c3 => ?_) (fun c3 => ?_)
  · exact w_X12_makeChain_b22 hF
  · exact w_X12_makeChain_b22 hF
def W_X12_chain : List (Nat × Option Int) := [(11, some 80), (11, some 81), (11, some 82), (11, some 83), (11, some 84), (11, some 85), (11, some 86), (11, some 87), (11, some 93), (11, some 94), (11, some 95), (11, some 96), (11, some 97), (168, none), (208, none), (209, none), (210, none), (211, none), (212, none), (213, none), (214, none), (215, none), (216, none), (219, none), (220, none), (221, none), (222, none), (223, none), (224, none)]
theorem w_X12_chain_s78 {v4 : Int} {M0 M : bM} (hF : b_fr W_X12_chain M0 M) : b_wl (F_X12_chain_s78 v4 M) (Sum.elim (fun t : Int × bM => b_fr W_X12_chain M0 t.2) (fun t : bM => b_fr W_X12_chain M0 t)) := by
  unfold F_X12_chain_s78
  refine b_wl_i (fun c15 => ?_) (fun c15 => ?_)
  · exact b_wl_s hF
  · refine b_wl_g (fun hg => ?_)
    refine b_wl_lA (c := 224) hF (by decide +kernel) (fun hF => ?_)
    refine b_wl_g (fun hg => ?_)
    exact b_wl_s hF
theorem w_X12_chain_b105 {M0 M : bM} (hF : b_fr W_X12_chain M0 M) : b_wl (F_X12_chain_b105 M) (fun o : Int × bM => b_fr W_X12_chain M0 o.2) := by
  unfold F_X12_chain_b105
  exact b_wl_s hF
theorem w_X12_chain {v1 : Int} {v2 : Int} {v3 : Int} {M0 M : bM} (hF : b_fr W_X12_chain M0 M) : b_wl (F_X12_chain v1 v2 v3 M) (fun o : Int × bM => b_fr W_X12_chain M0 o.2) := by
  unfold F_X12_chain
  refine b_wl_b b_wl_any (fun o _ => ?_)
  refine b_wl_i (fun c2 => ?_) (fun c2 => ?_)
  · exact b_wl_s hF
  · refine b_wl_b b_wl_any (fun o _ => ?_)
    refine b_wl_i (fun c4 => ?_) (fun c4 => ?_)
    · exact b_wl_s hF
    · refine b_wl_b b_wl_any (fun o _ => ?_)
      refine b_wl_i (fun c6 => ?_) (fun c6 => ?_)
      · exact b_wl_s hF
      · refine b_wl_b (w_X12_makeChain b_fr_refl) (fun o ho => ?_)
        refine b_wl_two ?_
        replace hF := b_fr_tr hF (b_fr_mo (by decide +kernel) ho)
        refine b_wl_i (fun c9 => ?_) (fun c9 => ?_)
        · exact b_wl_s hF
        · refine b_wl_lF (c := 11) (i := 97) hF (by decide +kernel) (fun hF => ?_)
          refine b_wl_lF (c := 11) (i := 93) hF (by decide +kernel) (fun hF => ?_)
          refine b_wl_lF (c := 11) (i := 94) hF (by decide +kernel) (fun hF => ?_)
          refine b_wl_lF (c := 11) (i := 95) hF (by decide +kernel) (fun hF => ?_)
          refine b_wl_lF (c := 11) (i := 96) hF (by decide +kernel) (fun hF => ?_)
          refine b_wl_b (b_wl_loop (A := (fun t : Int × bM => b_fr W_X12_chain M0 t.2)) (fun t ht => w_X12_chain_s78 ht) hF) (fun t ht => ?_)
          replace hF : b_fr W_X12_chain M0 t := ht
          exact w_X12_chain_b105 hF
def W_X12_judge : List (Nat × Option Int) := [(11, some 1), (11, some 80), (11, some 81), (11, some 82), (11, some 83), (168, none), (208, none), (209, none), (210, none), (211, none), (212, none), (213, none), (214, none), (215, none), (216, none)]
theorem w_X12_judge_s142 {v4 : Int} {v5 : Int} {v7 : Int} {M0 M : bM} (hF : b_fr W_X12_judge M0 M) : b_wl (F_X12_judge_s142 v4 v5 v7 M) (Sum.elim (fun _ : Int => True) (Sum.elim (fun _ : Unit => True) (Sum.elim (fun _ : Int => True) (Sum.elim (fun _ : Unit => True) (fun o : Int × bM => b_fr W_X12_judge M0 o.2))))) := by
  unfold F_X12_judge_s142
  refine b_wl_i (fun c27 => ?_) (fun c27 => ?_)
  · exact b_wl_s trivial
  · refine b_wl_g (fun hg => ?_)
    refine b_wl_i (fun c30 => ?_) (fun c30 => ?_)
    · exact b_wl_s hF
    · refine b_wl_g (fun hg => ?_)
      exact b_wl_s trivial
theorem w_X12_judge_b174 {v4 : Int} {v5 : Int} {M0 M : bM} (hF : b_fr W_X12_judge M0 M) : b_wl (F_X12_judge_b174 v4 v5 M) (Sum.elim (fun _ : Int => True) (Sum.elim (fun _ : Unit => True) (fun o : Int × bM => b_fr W_X12_judge M0 o.2))) := by
  unfold F_X12_judge_b174
  refine b_wl_g (fun hg => ?_)
  exact b_wl_s trivial
theorem w_X12_judge_s94 {v4 : Int} {v5 : Int} {M0 M : bM} (hF : b_fr W_X12_judge M0 M) : b_wl (F_X12_judge_s94 v4 v5 M) (Sum.elim (fun _ : Int => True) (Sum.elim (fun _ : Unit => True) (fun o : Int × bM => b_fr W_X12_judge M0 o.2))) := by
  unfold F_X12_judge_s94
  refine b_wl_i (fun c18 => ?_) (fun c18 => ?_)
  · exact b_wl_s trivial
  · refine b_wl_g (fun hg => ?_)
    refine b_wl_l ?_
    refine b_wl_g (fun hg => ?_)
    refine b_wl_b b_wl_any (fun o _ => ?_)
    refine b_wl_i (fun c24 => ?_) (fun c24 => ?_)
    · exact b_wl_s hF
    · refine b_wl_b b_wl_any (fun o _ => ?_)
      refine b_wl_i (fun c26 => ?_) (fun c26 => ?_)
      · exact b_wl_s hF
      · refine b_wl_b (b_wl_loop (A := (fun _ : Int => True)) (fun t ht => w_X12_judge_s142 hF) trivial) (fun t ht => ?_)
        cases t with
        | inr o => exact b_wl_s ht
        | inl t =>
          refine b_wl_inl ?_
          exact w_X12_judge_b174 hF
theorem w_X12_judge_b309 {v4 : Int} {v5 : Int} {v6 : Int} {v8 : Int} {v10 : Int} {v11 : Int} {v12 : Int} {u0 : Int} {u1 : Int} {M0 M : bM} (hF : b_fr W_X12_judge M0 M) : b_wl (F_X12_judge_b309 v4 v5 v6 v8 v10 v11 v12 u0 u1 M) (Sum.elim (fun _ : Int × Int × Int × Int × Int => True) (fun _ : Int × Int × Int => True)) := by
  unfold F_X12_judge_b309
  refine b_wl_g (fun hg => ?_)
  refine b_wl_l ?_
  refine b_wl_g (fun hg => ?_)
  exact b_wl_s trivial
theorem w_X12_judge_b275 {v4 : Int} {v5 : Int} {v6 : Int} {v7 : Int} {v8 : Int} {v9 : Int} {v11 : Int} {v12 : Int} {u0 : Int} {M0 M : bM} (hF : b_fr W_X12_judge M0 M) : b_wl (F_X12_judge_b275 v4 v5 v6 v7 v8 v9 v11 v12 u0 M) (Sum.elim (fun _ : Int × Int × Int × Int × Int => True) (fun _ : Int × Int × Int => True)) := by
  unfold F_X12_judge_b275
  refine b_wl_g (fun hg => ?_)
  refine b_wl_b b_wl_any (fun o _ => ?_)
  refine b_wl_b b_wl_any (fun o _ => ?_)
  refine b_wl_i (fun c48 => ?_) (fun c48 => ?_)
  · exact w_X12_judge_b309 hF
  · exact w_X12_judge_b309 hF
theorem w_X12_judge_b274 {v4 : Int} {v5 : Int} {v6 : Int} {v7 : Int} {v8 : Int} {v9 : Int} {v11 : Int} {v12 : Int} {M0 M : bM} (hF : b_fr W_X12_judge M0 M) : b_wl (F_X12_judge_b274 v4 v5 v6 v7 v8 v9 v11 v12 M) (Sum.elim (fun _ : Int × Int × Int × Int × Int => True) (fun _ : Int × Int × Int => True)) := by
  unfold F_X12_judge_b274
  exact w_X12_judge_b275 hF
theorem w_X12_judge_s234 {v4 : Int} {v5 : Int} {v6 : Int} {v7 : Int} {v8 : Int} {v9 : Int} {v10 : Int} {v11 : Int} {M0 M : bM} (hF : b_fr W_X12_judge M0 M) : b_wl (F_X12_judge_s234 v4 v5 v6 v7 v8 v9 v10 v11 M) (Sum.elim (fun _ : Int × Int × Int × Int × Int => True) (fun _ : Int × Int × Int => True)) := by
  unfold F_X12_judge_s234
  refine b_wl_i (fun c40 => ?_) (fun c40 => ?_)
  · exact b_wl_s trivial
  · refine b_wl_g (fun hg => ?_)
    refine b_wl_l ?_
    refine b_wl_i (fun c44 => ?_) (fun c44 => ?_)
    · exact w_X12_judge_b274 hF
    · refine b_wl_g (fun hg => ?_)
      refine b_wl_i (fun c56 => ?_) (fun c56 => ?_)
      · exact w_X12_judge_b274 hF
      · exact w_X12_judge_b275 hF
theorem w_X12_judge_b331 {v4 : Int} {v5 : Int} {v6 : Int} {v7 : Int} {v9 : Int} {v10 : Int} {M0 M : bM} (hF : b_fr W_X12_judge M0 M) : b_wl (F_X12_judge_b331 v4 v5 v6 v7 v9 v10 M) (Sum.elim (fun _ : Int × Int => True) (fun _ : Int => True)) := by
  unfold F_X12_judge_b331
  refine b_wl_i (fun c57 => ?_) (fun c57 => ?_)
  · refine b_wl_g (fun hg => ?_)
    exact b_wl_s trivial
  · refine b_wl_b b_wl_any (fun o _ => ?_)
    refine b_wl_i (fun c60 => ?_) (fun c60 => ?_)
    · refine b_wl_g (fun hg => ?_)
      exact b_wl_s trivial
    · refine b_wl_i (fun c62 => ?_) (fun c62 => ?_)
      · refine b_wl_g (fun hg => ?_)
        exact b_wl_s trivial
      · refine b_wl_i (fun c64 => ?_) (fun c64 => ?_)
        · refine b_wl_g (fun hg => ?_)
          exact b_wl_s trivial
        · refine b_wl_g (fun hg => ?_)
          exact b_wl_s trivial
theorem w_X12_judge_s186 {v4 : Int} {v5 : Int} {v6 : Int} {M0 M : bM} (hF : b_fr W_X12_judge M0 M) : b_wl (F_X12_judge_s186 v4 v5 v6 M) (Sum.elim (fun _ : Int × Int => True) (fun _ : Int => True)) := by
  unfold F_X12_judge_s186
  refine b_wl_i (fun c33 => ?_) (fun c33 => ?_)
  · exact b_wl_s trivial
  · refine b_wl_b b_wl_any (fun o _ => ?_)
    refine b_wl_i (fun c35 => ?_) (fun c35 => ?_)
    · refine b_wl_g (fun hg => ?_)
      exact b_wl_s trivial
    · refine b_wl_g (fun hg => ?_)
      refine b_wl_l ?_
      refine b_wl_g (fun hg => ?_)
      refine b_wl_l ?_
      refine b_wl_b (b_wl_loop (A := (fun _ : Int × Int × Int × Int × Int => True)) (fun t ht => w_X12_judge_s234 hF) trivial) (fun t ht => ?_)
      exact w_X12_judge_b331 hF
theorem w_X12_judge_b368 {v5 : Int} {M0 M : bM} (hF : b_fr W_X12_judge M0 M) : b_wl (F_X12_judge_b368 v5 M) (fun o : Int × bM => b_fr W_X12_judge M0 o.2) := by
  unfold F_X12_judge_b368
  exact b_wl_s hF
theorem w_X12_judge_b180 {v4 : Int} {M0 M : bM} (hF : b_fr W_X12_judge M0 M) : b_wl (F_X12_judge_b180 v4 M) (fun o : Int × bM => b_fr W_X12_judge M0 o.2) := by
  unfold F_X12_judge_b180
  refine b_wl_b (b_wl_loop (A := (fun _ : Int × Int => True)) (fun t ht => w_X12_judge_s186 hF) trivial) (fun t ht => ?_)
  exact w_X12_judge_b368 hF
theorem w_X12_judge_b68 {v1 : Int} {v2 : Int} {v3 : Int} {v4 : Int} {u1 : Int} {M0 M : bM} (hF : b_fr W_X12_judge M0 M) : b_wl (F_X12_judge_b68 v1 v2 v3 v4 u1 M) (fun o : Int × bM => b_fr W_X12_judge M0 o.2) := by
  unfold F_X12_judge_b68
  refine b_wl_g (fun hg => ?_)
  refine b_wl_lF (c := 11) (i := 80) hF (by decide +kernel) (fun hF => ?_)
  refine b_wl_lF (c := 11) (i := 81) hF (by decide +kernel) (fun hF => ?_)
  refine b_wl_g (fun hg => ?_)
  refine b_wl_lF (c := 11) (i := 82) hF (by decide +kernel) (fun hF => ?_)
  refine b_wl_lF (c := 11) (i := 83) hF (by decide +kernel) (fun hF => ?_)
  refine b_wl_b (b_wl_loop (A := (fun _ : Int => True)) (fun t ht => w_X12_judge_s94 hF) trivial) (fun t ht => ?_)
  cases t with
  | inr o => exact b_wl_s ht
  | inl t =>
    refine b_wl_inl ?_
    exact w_X12_judge_b180 hF
theorem w_X12_judge {v1 : Int} {v2 : Int} {v3 : Int} {M0 M : bM} (hF : b_fr W_X12_judge M0 M) : b_wl (F_X12_judge v1 v2 v3 M) (fun o : Int × bM => b_fr W_X12_judge M0 o.2) := by
  unfold F_X12_judge
  refine b_wl_lF (c := 11) (i := 1) hF (by decide +kernel) (fun hF => ?_)
  refine b_wl_b b_wl_any (fun o _ => ?_)
  refine b_wl_i (fun c3 => ?_) (fun c3 => ?_)
  · exact b_wl_s hF
  · refine b_wl_b b_wl_any (fun o _ => ?_)
    refine b_wl_i (fun c5 => ?_) (fun c5 => ?_)
    · exact b_wl_s hF
    · refine b_wl_b b_wl_any (fun o _ => ?_)
      refine b_wl_i (fun c7 => ?_) (fun c7 => ?_)
      · exact b_wl_s hF
      · refine b_wl_i (fun c8 => ?_) (fun c8 => ?_)
        · refine b_wl_b (w_X12_makeShown b_fr_refl) (fun o ho => ?_)
          replace hF := b_fr_tr hF (b_fr_mo (by decide +kernel) ho)
          refine b_wl_b b_wl_any (fun o _ => ?_)
          refine b_wl_i (fun c11 => ?_) (fun c11 => ?_)
          · exact w_X12_judge_b68 hF
          · exact w_X12_judge_b68 hF
        · exact b_wl_s hF
def W_X12_heldOf : List (Nat × Option Int) := [(168, none), (208, none)]
theorem w_X12_heldOf_s23 {v1 : Int} {v2 : Int} {v4 : Int} {v5 : Int} {v6 : Int} {v7 : Int} {v8 : Int} {M0 M : bM} (hF : b_fr W_X12_heldOf M0 M) : b_wl (F_X12_heldOf_s23 v1 v2 v4 v5 v6 v7 v8 M) (Sum.elim (fun t : Int × Int × bM => b_fr W_X12_heldOf M0 t.2.2) (fun t : Int × bM => b_fr W_X12_heldOf M0 t.2)) := by
  unfold F_X12_heldOf_s23
  refine b_wl_i (fun c3 => ?_) (fun c3 => ?_)
  · exact b_wl_s hF
  · refine b_wl_i (fun c4 => ?_) (fun c4 => ?_)
    · refine b_wl_g (fun hg => ?_)
      refine b_wl_l ?_
      refine b_wl_g (fun hg => ?_)
      refine b_wl_i (fun c10 => ?_) (fun c10 => ?_)
      · refine b_wl_g (fun hg => ?_)
        refine b_wl_i (fun c13 => ?_) (fun c13 => ?_)
        · refine b_wl_g (fun hg => ?_)
          exact b_wl_s hF
        · refine b_wl_i (fun c15 => ?_) (fun c15 => ?_)
          · refine b_wl_g (fun hg => ?_)
            exact b_wl_s hF
          · refine b_wl_g (fun hg => ?_)
            refine b_wl_i (fun c18 => ?_) (fun c18 => ?_)
            · refine b_wl_g (fun hg => ?_)
              refine b_wl_i (fun c23 => ?_) (fun c23 => ?_)
              · refine b_wl_g (fun hg => ?_)
                exact b_wl_s hF
              · refine b_wl_g (fun hg => ?_)
                refine b_wl_i (fun c30 => ?_) (fun c30 => ?_)
                · refine b_wl_g (fun hg => ?_)
                  refine b_wl_i (fun c36 => ?_) (fun c36 => ?_)
                  · refine b_wl_g (fun hg => ?_)
                    exact b_wl_s hF
                  · refine b_wl_g (fun hg => ?_)
                    refine b_wl_i (fun c40 => ?_) (fun c40 => ?_)
                    · refine b_wl_g (fun hg => ?_)
                      exact b_wl_s hF
                    · refine b_wl_b (w_X12_weightOf b_fr_refl) (fun o ho => ?_)
                      refine b_wl_two ?_
                      replace hF := b_fr_tr hF (b_fr_mo (by decide +kernel) ho)
                      refine b_wl_i (fun c44 => ?_) (fun c44 => ?_)
                      · refine b_wl_g (fun hg => ?_)
                        exact b_wl_s hF
                      · refine b_wl_b b_wl_any (fun o _ => ?_)
                        refine b_wl_i (fun c47 => ?_) (fun c47 => ?_)
                        · refine b_wl_g (fun hg => ?_)
                          exact b_wl_s hF
                        · refine b_wl_g (fun hg => ?_)
                          exact b_wl_s hF
                · refine b_wl_g (fun hg => ?_)
                  exact b_wl_s hF
            · refine b_wl_g (fun hg => ?_)
              exact b_wl_s hF
      · refine b_wl_g (fun hg => ?_)
        exact b_wl_s hF
    · exact b_wl_s hF
theorem w_X12_heldOf_b208 {v1 : Int} {v2 : Int} {v4 : Int} {v5 : Int} {v6 : Int} {v7 : Int} {M0 M : bM} (hF : b_fr W_X12_heldOf M0 M) : b_wl (F_X12_heldOf_b208 v1 v2 v4 v5 v6 v7 M) (Sum.elim (fun t : Int × Int × bM => b_fr W_X12_heldOf M0 t.2.2) (Sum.elim (fun t : Int × bM => b_fr W_X12_heldOf M0 t.2) (fun o : Int × bM => b_fr W_X12_heldOf M0 o.2))) := by
  unfold F_X12_heldOf_b208
  refine b_wl_i (fun c50 => ?_) (fun c50 => ?_)
  · exact b_wl_s hF
  · refine b_wl_g (fun hg => ?_)
    exact b_wl_s hF
theorem w_X12_heldOf_s12 {v1 : Int} {v2 : Int} {v4 : Int} {v5 : Int} {v6 : Int} {M0 M : bM} (hF : b_fr W_X12_heldOf M0 M) : b_wl (F_X12_heldOf_s12 v1 v2 v4 v5 v6 M) (Sum.elim (fun t : Int × Int × bM => b_fr W_X12_heldOf M0 t.2.2) (Sum.elim (fun t : Int × bM => b_fr W_X12_heldOf M0 t.2) (fun o : Int × bM => b_fr W_X12_heldOf M0 o.2))) := by
  unfold F_X12_heldOf_s12
  refine b_wl_i (fun c2 => ?_) (fun c2 => ?_)
  · exact b_wl_s hF
  · refine b_wl_b (b_wl_loop (A := (fun t : Int × Int × bM => b_fr W_X12_heldOf M0 t.2.2)) (fun t ht => w_X12_heldOf_s23 ht) hF) (fun t ht => ?_)
    replace hF : b_fr W_X12_heldOf M0 t.2 := ht
    exact w_X12_heldOf_b208 hF
theorem w_X12_heldOf_b225 {v5 : Int} {M0 M : bM} (hF : b_fr W_X12_heldOf M0 M) : b_wl (F_X12_heldOf_b225 v5 M) (fun o : Int × bM => b_fr W_X12_heldOf M0 o.2) := by
  unfold F_X12_heldOf_b225
  exact b_wl_s hF
theorem w_X12_heldOf {v1 : Int} {v2 : Int} {v3 : Int} {v4 : Int} {M0 M : bM} (hF : b_fr W_X12_heldOf M0 M) : b_wl (F_X12_heldOf v1 v2 v3 v4 M) (fun o : Int × bM => b_fr W_X12_heldOf M0 o.2) := by
  unfold F_X12_heldOf
  refine b_wl_b (w_X12_makeOnes b_fr_refl) (fun o ho => ?_)
  replace hF := b_fr_tr hF (b_fr_mo (by decide +kernel) ho)
  refine b_wl_b (b_wl_loop (A := (fun t : Int × Int × bM => b_fr W_X12_heldOf M0 t.2.2)) (fun t ht => w_X12_heldOf_s12 ht) hF) (fun t ht => ?_)
  cases t with
  | inr o => exact b_wl_s ht
  | inl t =>
    replace hF : b_fr W_X12_heldOf M0 t.2 := ht
    refine b_wl_inl ?_
    exact w_X12_heldOf_b225 hF
def W_X12_held : List (Nat × Option Int) := [(168, none), (208, none)]
theorem w_X12_held {v1 : Int} {v2 : Int} {v3 : Int} {v4 : Int} {M0 M : bM} (hF : b_fr W_X12_held M0 M) : b_wl (F_X12_held v1 v2 v3 v4 M) (fun o : Int × bM => b_fr W_X12_held M0 o.2) := by
  unfold F_X12_held
  refine b_wl_b b_wl_any (fun o _ => ?_)
  refine b_wl_i (fun c2 => ?_) (fun c2 => ?_)
  · exact b_wl_s hF
  · refine b_wl_b b_wl_any (fun o _ => ?_)
    refine b_wl_i (fun c4 => ?_) (fun c4 => ?_)
    · exact b_wl_s hF
    · refine b_wl_b b_wl_any (fun o _ => ?_)
      refine b_wl_i (fun c6 => ?_) (fun c6 => ?_)
      · exact b_wl_s hF
      · refine b_wl_b b_wl_any (fun o _ => ?_)
        refine b_wl_i (fun c8 => ?_) (fun c8 => ?_)
        · exact b_wl_s hF
        · refine b_wl_b (w_X12_heldOf b_fr_refl) (fun o ho => ?_)
          refine b_wl_two ?_
          replace hF := b_fr_tr hF (b_fr_mo (by decide +kernel) ho)
          exact b_wl_s hF
def W_X12_mortgage : List (Nat × Option Int) := [(11, some 99), (225, none), (226, none), (227, none), (228, none), (229, none)]
theorem w_X12_mortgage {v1 : Int} {v2 : Int} {v3 : Int} {v4 : Int} {v5 : Int} {M0 M : bM} (hF : b_fr W_X12_mortgage M0 M) : b_wl (F_X12_mortgage v1 v2 v3 v4 v5 M) (fun o : Int × bM => b_fr W_X12_mortgage M0 o.2) := by
  unfold F_X12_mortgage
  refine b_wl_b b_wl_any (fun o _ => ?_)
  refine b_wl_i (fun c2 => ?_) (fun c2 => ?_)
  · exact b_wl_s hF
  · refine b_wl_b b_wl_any (fun o _ => ?_)
    refine b_wl_i (fun c4 => ?_) (fun c4 => ?_)
    · exact b_wl_s hF
    · refine b_wl_b b_wl_any (fun o _ => ?_)
      refine b_wl_i (fun c6 => ?_) (fun c6 => ?_)
      · exact b_wl_s hF
      · refine b_wl_b b_wl_any (fun o _ => ?_)
        refine b_wl_i (fun c8 => ?_) (fun c8 => ?_)
        · exact b_wl_s hF
        · refine b_wl_b b_wl_any (fun o _ => ?_)
          refine b_wl_i (fun c10 => ?_) (fun c10 => ?_)
          · exact b_wl_s hF
          · refine b_wl_i (fun c11 => ?_) (fun c11 => ?_)
            · exact b_wl_s hF
            · refine b_wl_g (fun hg => ?_)
              refine b_wl_lA (c := 225) hF (by decide +kernel) (fun hF => ?_)
              refine b_wl_g (fun hg => ?_)
              refine b_wl_lA (c := 226) hF (by decide +kernel) (fun hF => ?_)
              refine b_wl_g (fun hg => ?_)
              refine b_wl_lA (c := 227) hF (by decide +kernel) (fun hF => ?_)
              refine b_wl_g (fun hg => ?_)
              refine b_wl_lA (c := 228) hF (by decide +kernel) (fun hF => ?_)
              refine b_wl_g (fun hg => ?_)
              refine b_wl_lA (c := 229) hF (by decide +kernel) (fun hF => ?_)
              refine b_wl_g (fun hg => ?_)
              refine b_wl_lF (c := 11) (i := 99) hF (by decide +kernel) (fun hF => ?_)
              refine b_wl_g (fun hg => ?_)
              exact b_wl_s hF
def W_X12_paid : List (Nat × Option Int) := [(229, none), (230, none)]
theorem w_X12_paid {v1 : Int} {v2 : Int} {M0 M : bM} (hF : b_fr W_X12_paid M0 M) : b_wl (F_X12_paid v1 v2 M) (fun o : Int × bM => b_fr W_X12_paid M0 o.2) := by
  unfold F_X12_paid
  refine b_wl_b b_wl_any (fun o _ => ?_)
  refine b_wl_i (fun c2 => ?_) (fun c2 => ?_)
  · exact b_wl_s hF
  · refine b_wl_b b_wl_any (fun o _ => ?_)
    refine b_wl_i (fun c4 => ?_) (fun c4 => ?_)
    · exact b_wl_s hF
    · refine b_wl_g (fun hg => ?_)
      refine b_wl_i (fun c6 => ?_) (fun c6 => ?_)
      · refine b_wl_g (fun hg => ?_)
        refine b_wl_lA (c := 229) hF (by decide +kernel) (fun hF => ?_)
        refine b_wl_g (fun hg => ?_)
        refine b_wl_lA (c := 230) hF (by decide +kernel) (fun hF => ?_)
        exact b_wl_s hF
      · exact b_wl_s hF
def W_X12_claim : List (Nat × Option Int) := [(11, some 106), (231, none), (232, none), (233, none)]
theorem w_X12_claim {v1 : Int} {v2 : Int} {M0 M : bM} (hF : b_fr W_X12_claim M0 M) : b_wl (F_X12_claim v1 v2 M) (fun o : Int × bM => b_fr W_X12_claim M0 o.2) := by
  unfold F_X12_claim
  refine b_wl_b b_wl_any (fun o _ => ?_)
  refine b_wl_i (fun c2 => ?_) (fun c2 => ?_)
  · exact b_wl_s hF
  · refine b_wl_b b_wl_any (fun o _ => ?_)
    refine b_wl_i (fun c4 => ?_) (fun c4 => ?_)
    · exact b_wl_s hF
    · refine b_wl_b b_wl_any (fun o _ => ?_)
      refine b_wl_i (fun c6 => ?_) (fun c6 => ?_)
      · exact b_wl_s hF
      · refine b_wl_i (fun c7 => ?_) (fun c7 => ?_)
        · exact b_wl_s hF
        · refine b_wl_g (fun hg => ?_)
          refine b_wl_lA (c := 231) hF (by decide +kernel) (fun hF => ?_)
          refine b_wl_g (fun hg => ?_)
          refine b_wl_lA (c := 232) hF (by decide +kernel) (fun hF => ?_)
          refine b_wl_g (fun hg => ?_)
          refine b_wl_lA (c := 233) hF (by decide +kernel) (fun hF => ?_)
          refine b_wl_g (fun hg => ?_)
          refine b_wl_lF (c := 11) (i := 106) hF (by decide +kernel) (fun hF => ?_)
          refine b_wl_g (fun hg => ?_)
          exact b_wl_s hF
def W_X12_worthOf : List (Nat × Option Int) := [(11, some 80), (11, some 81), (11, some 82), (11, some 83), (11, some 84), (11, some 85), (11, some 86), (11, some 87), (168, none), (208, none), (209, none), (210, none), (211, none), (212, none), (213, none), (214, none), (215, none), (216, none), (219, none), (220, none), (221, none), (222, none), (223, none), (239, none), (240, none)]
theorem w_X12_worthOf_b114 {v1 : Int} {M0 M : bM} (hF : b_fr W_X12_worthOf M0 M) : b_wl (F_X12_worthOf_b114 v1 M) (fun o : Int × bM => b_fr W_X12_worthOf M0 o.2) := by
  unfold F_X12_worthOf_b114
  refine b_wl_g (fun hg => ?_)
  refine b_wl_b (w_X12_heldOf b_fr_refl) (fun o ho => ?_)
  refine b_wl_two ?_
  replace hF := b_fr_tr hF (b_fr_mo (by decide +kernel) ho)
  refine b_wl_b b_wl_any (fun o _ => ?_)
  refine b_wl_i (fun c15 => ?_) (fun c15 => ?_)
  · exact b_wl_s hF
  · exact b_wl_s hF
theorem w_X12_worthOf_b57 {v1 : Int} {v2 : Int} {u1 : Int} {u2 : Int} {M0 M : bM} (hF : b_fr W_X12_worthOf M0 M) : b_wl (F_X12_worthOf_b57 v1 v2 u1 u2 M) (fun o : Int × bM => b_fr W_X12_worthOf M0 o.2) := by
  unfold F_X12_worthOf_b57
  refine b_wl_g (fun hg => ?_)
  refine b_wl_lA (c := 240) hF (by decide +kernel) (fun hF => ?_)
  refine b_wl_i (fun c10 => ?_) (fun c10 => ?_)
  · exact w_X12_worthOf_b114 hF
  · refine b_wl_b b_wl_any (fun o _ => ?_)
    refine b_wl_i (fun c17 => ?_) (fun c17 => ?_)
    · exact w_X12_worthOf_b114 hF
    · refine b_wl_b b_wl_any (fun o _ => ?_)
      refine b_wl_i (fun c19 => ?_) (fun c19 => ?_)
      · refine b_wl_b b_wl_any (fun o _ => ?_)
        refine b_wl_i (fun c21 => ?_) (fun c21 => ?_)
        · exact w_X12_worthOf_b114 hF
        · exact b_wl_s hF
      · exact b_wl_s hF
theorem w_X12_worthOf_b39 {v1 : Int} {v2 : Int} {u1 : Int} {u2 : Int} {M0 M : bM} (hF : b_fr W_X12_worthOf M0 M) : b_wl (F_X12_worthOf_b39 v1 v2 u1 u2 M) (fun o : Int × bM => b_fr W_X12_worthOf M0 o.2) := by
  unfold F_X12_worthOf_b39
  refine b_wl_g (fun hg => ?_)
  refine b_wl_lA (c := 239) hF (by decide +kernel) (fun hF => ?_)
  refine b_wl_i (fun c7 => ?_) (fun c7 => ?_)
  · exact w_X12_worthOf_b57 hF
  · exact w_X12_worthOf_b57 hF
theorem w_X12_worthOf {v1 : Int} {M0 M : bM} (hF : b_fr W_X12_worthOf M0 M) : b_wl (F_X12_worthOf v1 M) (fun o : Int × bM => b_fr W_X12_worthOf M0 o.2) := by
  unfold F_X12_worthOf
  refine b_wl_g (fun hg => ?_)
  refine b_wl_b (w_X12_makeChain b_fr_refl) (fun o ho => ?_)
  refine b_wl_two ?_
  replace hF := b_fr_tr hF (b_fr_mo (by decide +kernel) ho)
  refine b_wl_i (fun c4 => ?_) (fun c4 => ?_)
  · exact w_X12_worthOf_b39 hF
  · exact w_X12_worthOf_b39 hF
def W_X12_worth : List (Nat × Option Int) := [(11, some 80), (11, some 81), (11, some 82), (11, some 83), (11, some 84), (11, some 85), (11, some 86), (11, some 87), (168, none), (208, none), (209, none), (210, none), (211, none), (212, none), (213, none), (214, none), (215, none), (216, none), (219, none), (220, none), (221, none), (222, none), (223, none), (239, none), (240, none)]
theorem w_X12_worth {v1 : Int} {M0 M : bM} (hF : b_fr W_X12_worth M0 M) : b_wl (F_X12_worth v1 M) (fun o : Int × bM => b_fr W_X12_worth M0 o.2) := by
  unfold F_X12_worth
  refine b_wl_g (fun hg => ?_)
  refine b_wl_b b_wl_any (fun o _ => ?_)
  refine b_wl_i (fun c3 => ?_) (fun c3 => ?_)
  · exact b_wl_s hF
  · refine b_wl_b (w_X12_worthOf b_fr_refl) (fun o ho => ?_)
    refine b_wl_two ?_
    replace hF := b_fr_tr hF (b_fr_mo (by decide +kernel) ho)
    exact b_wl_s hF
def W_X12_sit : List (Nat × Option Int) := [(11, some 80), (11, some 81), (11, some 82), (11, some 83), (11, some 84), (11, some 85), (11, some 86), (11, some 87), (168, none), (208, none), (209, none), (210, none), (211, none), (212, none), (213, none), (214, none), (215, none), (216, none), (219, none), (220, none), (221, none), (222, none), (223, none), (234, none), (236, none), (237, none), (238, none), (239, none), (240, none)]
theorem w_X12_sit_b182 {v1 : Int} {v2 : Int} {v3 : Int} {v4 : Int} {v5 : Int} {v6 : Int} {u0 : Int} {M0 M : bM} (hF : b_fr W_X12_sit M0 M) : b_wl (F_X12_sit_b182 v1 v2 v3 v4 v5 v6 u0 M) (Sum.elim (fun t : Int × Int × Int × Int × bM => b_fr W_X12_sit M0 t.2.2.2.2) (fun t : Int × Int × Int × bM => b_fr W_X12_sit M0 t.2.2.2)) := by
  unfold F_X12_sit_b182
  refine b_wl_i (fun c22 => ?_) (fun c22 => ?_)
  · refine b_wl_g (fun hg => ?_)
    exact b_wl_s hF
  · refine b_wl_i (fun c24 => ?_) (fun c24 => ?_)
    · refine b_wl_g (fun hg => ?_)
      exact b_wl_s hF
    · refine b_wl_g (fun hg => ?_)
      exact b_wl_s hF
theorem w_X12_sit_b181 {v1 : Int} {v2 : Int} {v3 : Int} {v4 : Int} {v5 : Int} {v6 : Int} {M0 M : bM} (hF : b_fr W_X12_sit M0 M) : b_wl (F_X12_sit_b181 v1 v2 v3 v4 v5 v6 M) (Sum.elim (fun t : Int × Int × Int × Int × bM => b_fr W_X12_sit M0 t.2.2.2.2) (fun t : Int × Int × Int × bM => b_fr W_X12_sit M0 t.2.2.2)) := by
  unfold F_X12_sit_b181
  exact w_X12_sit_b182 hF
theorem w_X12_sit_b177 {v1 : Int} {v2 : Int} {v3 : Int} {v4 : Int} {v5 : Int} {v6 : Int} {M0 M : bM} (hF : b_fr W_X12_sit M0 M) : b_wl (F_X12_sit_b177 v1 v2 v3 v4 v5 v6 M) (Sum.elim (fun t : Int × Int × Int × Int × bM => b_fr W_X12_sit M0 t.2.2.2.2) (fun t : Int × Int × Int × bM => b_fr W_X12_sit M0 t.2.2.2)) := by
  unfold F_X12_sit_b177
  exact w_X12_sit_b182 hF
theorem w_X12_sit_s34 {v1 : Int} {v2 : Int} {v3 : Int} {v4 : Int} {v5 : Int} {M0 M : bM} (hF : b_fr W_X12_sit M0 M) : b_wl (F_X12_sit_s34 v1 v2 v3 v4 v5 M) (Sum.elim (fun t : Int × Int × Int × Int × bM => b_fr W_X12_sit M0 t.2.2.2.2) (fun t : Int × Int × Int × bM => b_fr W_X12_sit M0 t.2.2.2)) := by
  unfold F_X12_sit_s34
  refine b_wl_i (fun c5 => ?_) (fun c5 => ?_)
  · exact b_wl_s hF
  · refine b_wl_g (fun hg => ?_)
    refine b_wl_i (fun c7 => ?_) (fun c7 => ?_)
    · refine b_wl_g (fun hg => ?_)
      refine b_wl_i (fun c10 => ?_) (fun c10 => ?_)
      · refine b_wl_g (fun hg => ?_)
        refine b_wl_b b_wl_any (fun o _ => ?_)
        refine b_wl_i (fun c15 => ?_) (fun c15 => ?_)
        · refine b_wl_g (fun hg => ?_)
          refine b_wl_b (w_X12_worthOf b_fr_refl) (fun o ho => ?_)
          refine b_wl_two ?_
          replace hF := b_fr_tr hF (b_fr_mo (by decide +kernel) ho)
          refine b_wl_g (fun hg => ?_)
          refine b_wl_lA (c := 234) hF (by decide +kernel) (fun hF => ?_)
          refine b_wl_i (fun c21 => ?_) (fun c21 => ?_)
          · exact w_X12_sit_b181 hF
          · refine b_wl_i (fun c27 => ?_) (fun c27 => ?_)
            · exact w_X12_sit_b177 hF
            · refine b_wl_i (fun c28 => ?_) (fun c28 => ?_)
              · refine b_wl_g (fun hg => ?_)
                refine b_wl_i (fun c31 => ?_) (fun c31 => ?_)
                · exact w_X12_sit_b177 hF
                · refine b_wl_g (fun hg => ?_)
                  refine b_wl_i (fun c34 => ?_) (fun c34 => ?_)
                  · refine b_wl_g (fun hg => ?_)
                    refine b_wl_i (fun c37 => ?_) (fun c37 => ?_)
                    · exact w_X12_sit_b181 hF
                    · exact w_X12_sit_b177 hF
                  · exact w_X12_sit_b181 hF
              · exact w_X12_sit_b181 hF
        · refine b_wl_g (fun hg => ?_)
          exact b_wl_s hF
      · refine b_wl_g (fun hg => ?_)
        exact b_wl_s hF
    · refine b_wl_g (fun hg => ?_)
      exact b_wl_s hF
theorem w_X12_sit_b211 {v1 : Int} {v2 : Int} {v3 : Int} {v4 : Int} {M0 M : bM} (hF : b_fr W_X12_sit M0 M) : b_wl (F_X12_sit_b211 v1 v2 v3 v4 M) (fun o : Int × bM => b_fr W_X12_sit M0 o.2) := by
  unfold F_X12_sit_b211
  refine b_wl_i (fun c39 => ?_) (fun c39 => ?_)
  · exact b_wl_s hF
  · refine b_wl_g (fun hg => ?_)
    refine b_wl_lA (c := 234) hF (by decide +kernel) (fun hF => ?_)
    refine b_wl_g (fun hg => ?_)
    refine b_wl_lA (c := 236) hF (by decide +kernel) (fun hF => ?_)
    refine b_wl_g (fun hg => ?_)
    refine b_wl_lA (c := 237) hF (by decide +kernel) (fun hF => ?_)
    refine b_wl_b b_wl_any (fun o _ => ?_)
    refine b_wl_g (fun hg => ?_)
    refine b_wl_lA (c := 238) hF (by decide +kernel) (fun hF => ?_)
    exact b_wl_s hF
theorem w_X12_sit {v1 : Int} {M0 M : bM} (hF : b_fr W_X12_sit M0 M) : b_wl (F_X12_sit v1 M) (fun o : Int × bM => b_fr W_X12_sit M0 o.2) := by
  unfold F_X12_sit
  refine b_wl_b b_wl_any (fun o _ => ?_)
  refine b_wl_i (fun c2 => ?_) (fun c2 => ?_)
  · exact b_wl_s hF
  · refine b_wl_g (fun hg => ?_)
    refine b_wl_i (fun c4 => ?_) (fun c4 => ?_)
    · refine b_wl_b (b_wl_loop (A := (fun t : Int × Int × Int × Int × bM => b_fr W_X12_sit M0 t.2.2.2.2)) (fun t ht => w_X12_sit_s34 ht) hF) (fun t ht => ?_)
      replace hF : b_fr W_X12_sit M0 t.2.2.2 := ht
      exact w_X12_sit_b211 hF
    · exact b_wl_s hF
def W_X12_open : List (Nat × Option Int) := [(11, some 80), (11, some 81), (11, some 82), (11, some 83), (11, some 84), (11, some 85), (11, some 86), (11, some 87), (11, some 107), (168, none), (208, none), (209, none), (210, none), (211, none), (212, none), (213, none), (214, none), (215, none), (216, none), (219, none), (220, none), (221, none), (222, none), (223, none), (234, none), (235, none), (236, none), (239, none), (240, none)]
theorem w_X12_open_s44 {v1 : Int} {v2 : Int} {v3 : Int} {M0 M : bM} (hF : b_fr W_X12_open M0 M) : b_wl (F_X12_open_s44 v1 v2 v3 M) (Sum.elim (fun t : Int × Int × bM => b_fr W_X12_open M0 t.2.2) (fun t : Int × bM => b_fr W_X12_open M0 t.2)) := by
  unfold F_X12_open_s44
  refine b_wl_i (fun c9 => ?_) (fun c9 => ?_)
  · exact b_wl_s hF
  · refine b_wl_i (fun c10 => ?_) (fun c10 => ?_)
    · refine b_wl_g (fun hg => ?_)
      refine b_wl_i (fun c12 => ?_) (fun c12 => ?_)
      · refine b_wl_g (fun hg => ?_)
        refine b_wl_i (fun c15 => ?_) (fun c15 => ?_)
        · refine b_wl_g (fun hg => ?_)
          exact b_wl_s hF
        · refine b_wl_b (w_X12_worthOf b_fr_refl) (fun o ho => ?_)
          refine b_wl_two ?_
          replace hF := b_fr_tr hF (b_fr_mo (by decide +kernel) ho)
          refine b_wl_i (fun c19 => ?_) (fun c19 => ?_)
          · refine b_wl_g (fun hg => ?_)
            exact b_wl_s hF
          · refine b_wl_g (fun hg => ?_)
            exact b_wl_s hF
      · refine b_wl_g (fun hg => ?_)
        exact b_wl_s hF
    · exact b_wl_s hF
theorem w_X12_open_s149 {v1 : Int} {v4 : Int} {M0 M : bM} (hF : b_fr W_X12_open M0 M) : b_wl (F_X12_open_s149 v1 v4 M) (Sum.elim (fun t : Int × bM => b_fr W_X12_open M0 t.2) (fun t : bM => b_fr W_X12_open M0 t)) := by
  unfold F_X12_open_s149
  refine b_wl_i (fun c31 => ?_) (fun c31 => ?_)
  · exact b_wl_s hF
  · refine b_wl_g (fun hg => ?_)
    refine b_wl_i (fun c33 => ?_) (fun c33 => ?_)
    · refine b_wl_g (fun hg => ?_)
      refine b_wl_lA (c := 234) hF (by decide +kernel) (fun hF => ?_)
      refine b_wl_g (fun hg => ?_)
      exact b_wl_s hF
    · refine b_wl_g (fun hg => ?_)
      exact b_wl_s hF
theorem w_X12_open_b183 {v1 : Int} {M0 M : bM} (hF : b_fr W_X12_open M0 M) : b_wl (F_X12_open_b183 v1 M) (fun o : Int × bM => b_fr W_X12_open M0 o.2) := by
  unfold F_X12_open_b183
  refine b_wl_g (fun hg => ?_)
  refine b_wl_lA (c := 236) hF (by decide +kernel) (fun hF => ?_)
  exact b_wl_s hF
theorem w_X12_open_b97 {v1 : Int} {v2 : Int} {M0 M : bM} (hF : b_fr W_X12_open M0 M) : b_wl (F_X12_open_b97 v1 v2 M) (fun o : Int × bM => b_fr W_X12_open M0 o.2) := by
  unfold F_X12_open_b97
  refine b_wl_i (fun c22 => ?_) (fun c22 => ?_)
  · exact b_wl_s hF
  · refine b_wl_b b_wl_any (fun o _ => ?_)
    refine b_wl_b b_wl_any (fun o _ => ?_)
    refine b_wl_g (fun hg => ?_)
    refine b_wl_lF (c := 11) (i := 107) hF (by decide +kernel) (fun hF => ?_)
    refine b_wl_g (fun hg => ?_)
    refine b_wl_lA (c := 235) hF (by decide +kernel) (fun hF => ?_)
    refine b_wl_b (b_wl_loop (A := (fun t : Int × bM => b_fr W_X12_open M0 t.2)) (fun t ht => w_X12_open_s149 ht) hF) (fun t ht => ?_)
    replace hF : b_fr W_X12_open M0 t := ht
    exact w_X12_open_b183 hF
theorem w_X12_open_b41 {v1 : Int} {u0 : Int} {M0 M : bM} (hF : b_fr W_X12_open M0 M) : b_wl (F_X12_open_b41 v1 u0 M) (fun o : Int × bM => b_fr W_X12_open M0 o.2) := by
  unfold F_X12_open_b41
  refine b_wl_b (b_wl_loop (A := (fun t : Int × Int × bM => b_fr W_X12_open M0 t.2.2)) (fun t ht => w_X12_open_s44 ht) hF) (fun t ht => ?_)
  replace hF : b_fr W_X12_open M0 t.2 := ht
  exact w_X12_open_b97 hF
theorem w_X12_open {v1 : Int} {M0 M : bM} (hF : b_fr W_X12_open M0 M) : b_wl (F_X12_open v1 M) (fun o : Int × bM => b_fr W_X12_open M0 o.2) := by
  unfold F_X12_open
  refine b_wl_b b_wl_any (fun o _ => ?_)
  refine b_wl_i (fun c2 => ?_) (fun c2 => ?_)
  · exact b_wl_s hF
  · refine b_wl_b b_wl_any (fun o _ => ?_)
    refine b_wl_i (fun c4 => ?_) (fun c4 => ?_)
    · exact b_wl_s hF
    · refine b_wl_g (fun hg => ?_)
      refine b_wl_b (w_X12_worthOf b_fr_refl) (fun o ho => ?_)
      refine b_wl_two ?_
      replace hF := b_fr_tr hF (b_fr_mo (by decide +kernel) ho)
      refine b_wl_i (fun c8 => ?_) (fun c8 => ?_)
      · exact w_X12_open_b41 hF
      · exact w_X12_open_b41 hF
def W_X12_fund : List (Nat × Option Int) := [(11, some 107)]
theorem w_X12_fund {v1 : Int} {M0 M : bM} (hF : b_fr W_X12_fund M0 M) : b_wl (F_X12_fund v1 M) (fun o : Int × bM => b_fr W_X12_fund M0 o.2) := by
  unfold F_X12_fund
  refine b_wl_b b_wl_any (fun o _ => ?_)
  refine b_wl_i (fun c2 => ?_) (fun c2 => ?_)
  · exact b_wl_s hF
  · refine b_wl_g (fun hg => ?_)
    refine b_wl_i (fun c4 => ?_) (fun c4 => ?_)
    · refine b_wl_g (fun hg => ?_)
      refine b_wl_lF (c := 11) (i := 107) hF (by decide +kernel) (fun hF => ?_)
      exact b_wl_s hF
    · exact b_wl_s hF
def W_X12_place : List (Nat × Option Int) := [(11, some 118), (11, some 122), (11, some 123), (241, none), (242, none), (243, none)]
theorem w_X12_place {v1 : Int} {v2 : Int} {v3 : Int} {M0 M : bM} (hF : b_fr W_X12_place M0 M) : b_wl (F_X12_place v1 v2 v3 M) (fun o : Int × bM => b_fr W_X12_place M0 o.2) := by
  unfold F_X12_place
  refine b_wl_b b_wl_any (fun o _ => ?_)
  refine b_wl_i (fun c2 => ?_) (fun c2 => ?_)
  · exact b_wl_s hF
  · refine b_wl_g (fun hg => ?_)
    refine b_wl_b b_wl_any (fun o _ => ?_)
    refine b_wl_i (fun c5 => ?_) (fun c5 => ?_)
    · exact b_wl_s hF
    · refine b_wl_b b_wl_any (fun o _ => ?_)
      refine b_wl_i (fun c7 => ?_) (fun c7 => ?_)
      · exact b_wl_s hF
      · refine b_wl_i (fun c8 => ?_) (fun c8 => ?_)
        · exact b_wl_s hF
        · refine b_wl_g (fun hg => ?_)
          refine b_wl_lA (c := 241) hF (by decide +kernel) (fun hF => ?_)
          refine b_wl_g (fun hg => ?_)
          refine b_wl_lA (c := 242) hF (by decide +kernel) (fun hF => ?_)
          refine b_wl_g (fun hg => ?_)
          refine b_wl_lA (c := 243) hF (by decide +kernel) (fun hF => ?_)
          refine b_wl_g (fun hg => ?_)
          refine b_wl_lF (c := 11) (i := 118) hF (by decide +kernel) (fun hF => ?_)
          refine b_wl_lF (c := 11) (i := 122) hF (by decide +kernel) (fun hF => ?_)
          refine b_wl_lF (c := 11) (i := 123) hF (by decide +kernel) (fun hF => ?_)
          refine b_wl_g (fun hg => ?_)
          exact b_wl_s hF
def W_X12_makeSettled : List (Nat × Option Int) := [(11, some 80), (11, some 81), (11, some 82), (11, some 83), (11, some 84), (11, some 85), (11, some 86), (11, some 87), (168, none), (208, none), (209, none), (210, none), (211, none), (212, none), (213, none), (214, none), (215, none), (216, none), (219, none), (220, none), (221, none), (222, none), (223, none), (244, none)]
theorem w_X12_makeSettled_s2 {v1 : Int} {v2 : Int} {v3 : Int} {M0 M : bM} (hF : b_fr W_X12_makeSettled M0 M) : b_wl (F_X12_makeSettled_s2 v1 v2 v3 M) (Sum.elim (fun t : Int × bM => b_fr W_X12_makeSettled M0 t.2) (fun t : bM => b_fr W_X12_makeSettled M0 t)) := by
  unfold F_X12_makeSettled_s2
  refine b_wl_i (fun c1 => ?_) (fun c1 => ?_)
  · exact b_wl_s hF
  · refine b_wl_g (fun hg => ?_)
    refine b_wl_lA (c := 244) hF (by decide +kernel) (fun hF => ?_)
    refine b_wl_g (fun hg => ?_)
    exact b_wl_s hF
theorem w_X12_makeSettled_b95 {v1 : Int} {v2 : Int} {v3 : Int} {v4 : Int} {u1 : Int} {u2 : Int} {u3 : Int} {M0 M : bM} (hF : b_fr W_X12_makeSettled M0 M) : b_wl (F_X12_makeSettled_b95 v1 v2 v3 v4 u1 u2 u3 M) (Sum.elim (fun t : Int × bM => b_fr W_X12_makeSettled M0 t.2) (fun t : bM => b_fr W_X12_makeSettled M0 t)) := by
  unfold F_X12_makeSettled_b95
  refine b_wl_g (fun hg => ?_)
  refine b_wl_lA (c := 244) hF (by decide +kernel) (fun hF => ?_)
  refine b_wl_g (fun hg => ?_)
  exact b_wl_s hF
theorem w_X12_makeSettled_s67 {v1 : Int} {v2 : Int} {v3 : Int} {v4 : Int} {M0 M : bM} (hF : b_fr W_X12_makeSettled M0 M) : b_wl (F_X12_makeSettled_s67 v1 v2 v3 v4 M) (Sum.elim (fun t : Int × bM => b_fr W_X12_makeSettled M0 t.2) (fun t : bM => b_fr W_X12_makeSettled M0 t)) := by
  unfold F_X12_makeSettled_s67
  refine b_wl_i (fun c14 => ?_) (fun c14 => ?_)
  · exact b_wl_s hF
  · refine b_wl_g (fun hg => ?_)
    refine b_wl_b b_wl_any (fun o _ => ?_)
    refine b_wl_i (fun c17 => ?_) (fun c17 => ?_)
    · exact w_X12_makeSettled_b95 hF
    · exact w_X12_makeSettled_b95 hF
theorem w_X12_makeSettled_b103 {v1 : Int} {v2 : Int} {v3 : Int} {M0 M : bM} (hF : b_fr W_X12_makeSettled M0 M) : b_wl (F_X12_makeSettled_b103 v1 v2 v3 M) (Sum.elim (fun t : Int × bM => b_fr W_X12_makeSettled M0 t.2) (fun t : bM => b_fr W_X12_makeSettled M0 t)) := by
  unfold F_X12_makeSettled_b103
  refine b_wl_g (fun hg => ?_)
  exact b_wl_s hF
theorem w_X12_makeSettled_s22 {v1 : Int} {v2 : Int} {v3 : Int} {M0 M : bM} (hF : b_fr W_X12_makeSettled M0 M) : b_wl (F_X12_makeSettled_s22 v1 v2 v3 M) (Sum.elim (fun t : Int × bM => b_fr W_X12_makeSettled M0 t.2) (fun t : bM => b_fr W_X12_makeSettled M0 t)) := by
  unfold F_X12_makeSettled_s22
  refine b_wl_i (fun c5 => ?_) (fun c5 => ?_)
  · exact b_wl_s hF
  · refine b_wl_b b_wl_any (fun o _ => ?_)
    refine b_wl_i (fun c7 => ?_) (fun c7 => ?_)
    · refine b_wl_g (fun hg => ?_)
      exact b_wl_s hF
    · refine b_wl_g (fun hg => ?_)
      refine b_wl_b (w_X12_makeChain b_fr_refl) (fun o ho => ?_)
      refine b_wl_two ?_
      replace hF := b_fr_tr hF (b_fr_mo (by decide +kernel) ho)
      refine b_wl_i (fun c13 => ?_) (fun c13 => ?_)
      · refine b_wl_g (fun hg => ?_)
        exact b_wl_s hF
      · refine b_wl_b (b_wl_loop (A := (fun t : Int × bM => b_fr W_X12_makeSettled M0 t.2)) (fun t ht => w_X12_makeSettled_s67 ht) hF) (fun t ht => ?_)
        replace hF : b_fr W_X12_makeSettled M0 t := ht
        exact w_X12_makeSettled_b103 hF
theorem w_X12_makeSettled_b109 {M0 M : bM} (hF : b_fr W_X12_makeSettled M0 M) : b_wl (F_X12_makeSettled_b109 M) (fun o : bM => b_fr W_X12_makeSettled M0 o) := by
  unfold F_X12_makeSettled_b109
  exact b_wl_s hF
theorem w_X12_makeSettled_b20 {v1 : Int} {v2 : Int} {M0 M : bM} (hF : b_fr W_X12_makeSettled M0 M) : b_wl (F_X12_makeSettled_b20 v1 v2 M) (fun o : bM => b_fr W_X12_makeSettled M0 o) := by
  unfold F_X12_makeSettled_b20
  refine b_wl_b (b_wl_loop (A := (fun t : Int × bM => b_fr W_X12_makeSettled M0 t.2)) (fun t ht => w_X12_makeSettled_s22 ht) hF) (fun t ht => ?_)
  replace hF : b_fr W_X12_makeSettled M0 t := ht
  exact w_X12_makeSettled_b109 hF
theorem w_X12_makeSettled {v1 : Int} {v2 : Int} {M0 M : bM} (hF : b_fr W_X12_makeSettled M0 M) : b_wl (F_X12_makeSettled v1 v2 M) (fun o : bM => b_fr W_X12_makeSettled M0 o) := by
  unfold F_X12_makeSettled
  refine b_wl_b (b_wl_loop (A := (fun t : Int × bM => b_fr W_X12_makeSettled M0 t.2)) (fun t ht => w_X12_makeSettled_s2 ht) hF) (fun t ht => ?_)
  replace hF : b_fr W_X12_makeSettled M0 t := ht
  exact w_X12_makeSettled_b20 hF
def W_X12_settles : List (Nat × Option Int) := [(11, some 80), (11, some 81), (11, some 82), (11, some 83), (11, some 84), (11, some 85), (11, some 86), (11, some 87), (168, none), (208, none), (209, none), (210, none), (211, none), (212, none), (213, none), (214, none), (215, none), (216, none), (219, none), (220, none), (221, none), (222, none), (223, none), (244, none)]
theorem w_X12_settles {v1 : Int} {M0 M : bM} (hF : b_fr W_X12_settles M0 M) : b_wl (F_X12_settles v1 M) (fun o : Int × bM => b_fr W_X12_settles M0 o.2) := by
  unfold F_X12_settles
  refine b_wl_g (fun hg => ?_)
  refine b_wl_b b_wl_any (fun o _ => ?_)
  refine b_wl_i (fun c3 => ?_) (fun c3 => ?_)
  · exact b_wl_s hF
  · refine b_wl_b (w_X12_makeSettled b_fr_refl) (fun o ho => ?_)
    replace hF := b_fr_tr hF (b_fr_mo (by decide +kernel) ho)
    refine b_wl_g (fun hg => ?_)
    exact b_wl_s hF
def W_X12_next : List (Nat × Option Int) := [(11, some 80), (11, some 81), (11, some 82), (11, some 83), (11, some 84), (11, some 85), (11, some 86), (11, some 87), (11, some 122), (11, some 123), (168, none), (208, none), (209, none), (210, none), (211, none), (212, none), (213, none), (214, none), (215, none), (216, none), (219, none), (220, none), (221, none), (222, none), (223, none), (244, none)]
theorem w_X12_next_s31 {v1 : Int} {v2 : Int} {v3 : Int} {M0 M : bM} (hF : b_fr W_X12_next M0 M) : b_wl (F_X12_next_s31 v1 v2 v3 M) (Sum.elim (fun _ : Int × Int => True) (fun _ : Int => True)) := by
  unfold F_X12_next_s31
  refine b_wl_i (fun c5 => ?_) (fun c5 => ?_)
  · exact b_wl_s trivial
  · refine b_wl_b b_wl_any (fun o _ => ?_)
    refine b_wl_i (fun c7 => ?_) (fun c7 => ?_)
    · refine b_wl_g (fun hg => ?_)
      exact b_wl_s trivial
    · refine b_wl_g (fun hg => ?_)
      refine b_wl_i (fun c11 => ?_) (fun c11 => ?_)
      · refine b_wl_g (fun hg => ?_)
        exact b_wl_s trivial
      · refine b_wl_g (fun hg => ?_)
        refine b_wl_i (fun c15 => ?_) (fun c15 => ?_)
        · refine b_wl_b b_wl_any (fun o _ => ?_)
          refine b_wl_i (fun c18 => ?_) (fun c18 => ?_)
          · refine b_wl_g (fun hg => ?_)
            exact b_wl_s trivial
          · refine b_wl_g (fun hg => ?_)
            exact b_wl_s trivial
        · refine b_wl_g (fun hg => ?_)
          exact b_wl_s trivial
theorem w_X12_next_b102 {v2 : Int} {M0 M : bM} (hF : b_fr W_X12_next M0 M) : b_wl (F_X12_next_b102 v2 M) (fun o : Int × bM => b_fr W_X12_next M0 o.2) := by
  unfold F_X12_next_b102
  refine b_wl_lF (c := 11) (i := 122) hF (by decide +kernel) (fun hF => ?_)
  refine b_wl_b b_wl_any (fun o _ => ?_)
  refine b_wl_lF (c := 11) (i := 123) hF (by decide +kernel) (fun hF => ?_)
  refine b_wl_g (fun hg => ?_)
  exact b_wl_s hF
theorem w_X12_next {v1 : Int} {M0 M : bM} (hF : b_fr W_X12_next M0 M) : b_wl (F_X12_next v1 M) (fun o : Int × bM => b_fr W_X12_next M0 o.2) := by
  unfold F_X12_next
  refine b_wl_b b_wl_any (fun o _ => ?_)
  refine b_wl_i (fun c2 => ?_) (fun c2 => ?_)
  · exact b_wl_s hF
  · refine b_wl_g (fun hg => ?_)
    refine b_wl_b (w_X12_makeSettled b_fr_refl) (fun o ho => ?_)
    replace hF := b_fr_tr hF (b_fr_mo (by decide +kernel) ho)
    refine b_wl_b (b_wl_loop (A := (fun _ : Int × Int => True)) (fun t ht => w_X12_next_s31 hF) trivial) (fun t ht => ?_)
    exact w_X12_next_b102 hF
