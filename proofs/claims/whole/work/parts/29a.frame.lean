def W_X10_put : List (Nat × Option Int) := [(1, some 1), (72, none)]
theorem w_X10_put_s3 {v1 : Int} {v2 : Int} {M0 M : bM} (hF : b_fr W_X10_put M0 M) : b_wl (F_X10_put_s3 v1 v2 M) (Sum.elim (fun t : Int × bM => b_fr W_X10_put M0 t.2) (fun t : bM => b_fr W_X10_put M0 t)) := by
  unfold F_X10_put_s3
  refine b_wl_i (fun c1 => ?_) (fun c1 => ?_)
  · exact b_wl_s hF
  · refine b_wl_i (fun c2 => ?_) (fun c2 => ?_)
    · refine b_wl_g (fun hg => ?_)
      exact b_wl_s hF
    · refine b_wl_g (fun hg => ?_)
      refine b_wl_lA (c := 72) hF (by decide +kernel) (fun hF => ?_)
      refine b_wl_g (fun hg => ?_)
      refine b_wl_lF (c := 1) (i := 1) hF (by decide +kernel) (fun hF => ?_)
      refine b_wl_g (fun hg => ?_)
      exact b_wl_s hF
theorem w_X10_put_b46 {M0 M : bM} (hF : b_fr W_X10_put M0 M) : b_wl (F_X10_put_b46 M) (fun o : bM => b_fr W_X10_put M0 o) := by
  unfold F_X10_put_b46
  exact b_wl_s hF
theorem w_X10_put {v1 : Int} {M0 M : bM} (hF : b_fr W_X10_put M0 M) : b_wl (F_X10_put v1 M) (fun o : bM => b_fr W_X10_put M0 o) := by
  unfold F_X10_put
  refine b_wl_b (b_wl_loop (A := (fun t : Int × bM => b_fr W_X10_put M0 t.2)) (fun t ht => w_X10_put_s3 ht) hF) (fun t ht => ?_)
  replace hF : b_fr W_X10_put M0 t := ht
  exact w_X10_put_b46 hF
def W_X11_feed : List (Nat × Option Int) := [(1, some 1), (72, none)]
theorem w_X11_feed {v1 : Int} {v2 : Int} {v3 : Int} {v4 : Int} {v5 : Int} {M0 M : bM} (hF : b_fr W_X11_feed M0 M) : b_wl (F_X11_feed v1 v2 v3 v4 v5 M) (fun o : Int × bM => b_fr W_X11_feed M0 o.2) := by
  unfold F_X11_feed
  refine b_wl_g (fun hg => ?_)
  refine b_wl_i (fun c2 => ?_) (fun c2 => ?_)
  · refine b_wl_b (w_X10_put b_fr_refl) (fun o ho => ?_)
    replace hF := b_fr_tr hF (b_fr_mo (by decide +kernel) ho)
    refine b_wl_b (w_X10_put b_fr_refl) (fun o ho => ?_)
    replace hF := b_fr_tr hF (b_fr_mo (by decide +kernel) ho)
    refine b_wl_b (w_X10_put b_fr_refl) (fun o ho => ?_)
    replace hF := b_fr_tr hF (b_fr_mo (by decide +kernel) ho)
    refine b_wl_b (w_X10_put b_fr_refl) (fun o ho => ?_)
    replace hF := b_fr_tr hF (b_fr_mo (by decide +kernel) ho)
    refine b_wl_b (w_X10_put b_fr_refl) (fun o ho => ?_)
    replace hF := b_fr_tr hF (b_fr_mo (by decide +kernel) ho)
    exact b_wl_s hF
  · exact b_wl_s hF
def W_X11_end : List (Nat × Option Int) := [(1, some 1)]
theorem w_X11_end {v1 : Int} {M0 M : bM} (hF : b_fr W_X11_end M0 M) : b_wl (F_X11_end v1 M) (fun o : Int × bM => b_fr W_X11_end M0 o.2) := by
  unfold F_X11_end
  refine b_wl_i (fun c1 => ?_) (fun c1 => ?_)
  · exact b_wl_s hF
  · refine b_wl_i (fun c2 => ?_) (fun c2 => ?_)
    · refine b_wl_lF (c := 1) (i := 1) hF (by decide +kernel) (fun hF => ?_)
      exact b_wl_s hF
    · exact b_wl_s hF
def W_X11_pass : List (Nat × Option Int) := [(0, some 10)]
theorem w_X11_pass {v1 : Int} {M0 M : bM} (hF : b_fr W_X11_pass M0 M) : b_wl (F_X11_pass v1 M) (fun o : Int × bM => b_fr W_X11_pass M0 o.2) := by
  unfold F_X11_pass
  refine b_wl_i (fun c1 => ?_) (fun c1 => ?_)
  · exact b_wl_s hF
  · refine b_wl_i (fun c2 => ?_) (fun c2 => ?_)
    · exact b_wl_s hF
    · refine b_wl_g (fun hg => ?_)
      refine b_wl_i (fun c4 => ?_) (fun c4 => ?_)
      · refine b_wl_g (fun hg => ?_)
        refine b_wl_lF (c := 0) (i := 10) hF (by decide +kernel) (fun hF => ?_)
        exact b_wl_s hF
      · exact b_wl_s hF
def W_X8_add : List (Nat × Option Int) := [(2, some 0), (76, none)]
theorem w_X8_add {v1 : Int} {M0 M : bM} (hF : b_fr W_X8_add M0 M) : b_wl (F_X8_add v1 M) (fun o : Int × bM => b_fr W_X8_add M0 o.2) := by
  unfold F_X8_add
  refine b_wl_i (fun c1 => ?_) (fun c1 => ?_)
  · refine b_wl_g (fun hg => ?_)
    refine b_wl_lA (c := 76) hF (by decide +kernel) (fun hF => ?_)
    refine b_wl_g (fun hg => ?_)
    refine b_wl_lF (c := 2) (i := 0) hF (by decide +kernel) (fun hF => ?_)
    refine b_wl_g (fun hg => ?_)
    exact b_wl_s hF
  · exact b_wl_s hF
def W_X11_person : List (Nat × Option Int) := [(2, some 0), (76, none)]
theorem w_X11_person {v1 : Int} {M0 M : bM} (hF : b_fr W_X11_person M0 M) : b_wl (F_X11_person v1 M) (fun o : Int × bM => b_fr W_X11_person M0 o.2) := by
  unfold F_X11_person
  refine b_wl_b b_wl_any (fun o _ => ?_)
  refine b_wl_i (fun c2 => ?_) (fun c2 => ?_)
  · exact b_wl_s hF
  · refine b_wl_b (w_X8_add b_fr_refl) (fun o ho => ?_)
    refine b_wl_two ?_
    replace hF := b_fr_tr hF (b_fr_mo (by decide +kernel) ho)
    exact b_wl_s hF
def W_X4_forget : List (Nat × Option Int) := [(6, some 5)]
theorem w_X4_forget {M0 M : bM} (hF : b_fr W_X4_forget M0 M) : b_wl (F_X4_forget M) (fun o : bM => b_fr W_X4_forget M0 o) := by
  unfold F_X4_forget
  refine b_wl_lF (c := 6) (i := 5) hF (by decide +kernel) (fun hF => ?_)
  exact b_wl_s hF
def W_X8_tell : List (Nat × Option Int) := [(2, some 1), (77, none), (78, none), (79, none), (80, none)]
theorem w_X8_tell {v1 : Int} {v2 : Int} {v3 : Int} {v4 : Int} {M0 M : bM} (hF : b_fr W_X8_tell M0 M) : b_wl (F_X8_tell v1 v2 v3 v4 M) (fun o : Int × bM => b_fr W_X8_tell M0 o.2) := by
  unfold F_X8_tell
  refine b_wl_i (fun c1 => ?_) (fun c1 => ?_)
  · refine b_wl_g (fun hg => ?_)
    refine b_wl_lA (c := 77) hF (by decide +kernel) (fun hF => ?_)
    refine b_wl_g (fun hg => ?_)
    refine b_wl_lA (c := 78) hF (by decide +kernel) (fun hF => ?_)
    refine b_wl_g (fun hg => ?_)
    refine b_wl_lA (c := 79) hF (by decide +kernel) (fun hF => ?_)
    refine b_wl_g (fun hg => ?_)
    refine b_wl_lA (c := 80) hF (by decide +kernel) (fun hF => ?_)
    refine b_wl_g (fun hg => ?_)
    refine b_wl_lF (c := 2) (i := 1) hF (by decide +kernel) (fun hF => ?_)
    exact b_wl_s hF
  · exact b_wl_s hF
def W_X11_dead : List (Nat × Option Int) := [(2, some 1), (6, some 5), (77, none), (78, none), (79, none), (80, none)]
theorem w_X11_dead {v1 : Int} {v2 : Int} {M0 M : bM} (hF : b_fr W_X11_dead M0 M) : b_wl (F_X11_dead v1 v2 M) (fun o : Int × bM => b_fr W_X11_dead M0 o.2) := by
  unfold F_X11_dead
  refine b_wl_b b_wl_any (fun o _ => ?_)
  refine b_wl_i (fun c2 => ?_) (fun c2 => ?_)
  · exact b_wl_s hF
  · refine b_wl_b b_wl_any (fun o _ => ?_)
    refine b_wl_i (fun c4 => ?_) (fun c4 => ?_)
    · exact b_wl_s hF
    · refine b_wl_b (w_X4_forget b_fr_refl) (fun o ho => ?_)
      replace hF := b_fr_tr hF (b_fr_mo (by decide +kernel) ho)
      refine b_wl_b (w_X8_tell b_fr_refl) (fun o ho => ?_)
      refine b_wl_two ?_
      replace hF := b_fr_tr hF (b_fr_mo (by decide +kernel) ho)
      exact b_wl_s hF
def W_X11_tellOfTwo : List (Nat × Option Int) := [(2, some 1), (6, some 5), (77, none), (78, none), (79, none), (80, none)]
theorem w_X11_tellOfTwo {v1 : Int} {v2 : Int} {v3 : Int} {M0 M : bM} (hF : b_fr W_X11_tellOfTwo M0 M) : b_wl (F_X11_tellOfTwo v1 v2 v3 M) (fun o : Int × bM => b_fr W_X11_tellOfTwo M0 o.2) := by
  unfold F_X11_tellOfTwo
  refine b_wl_b b_wl_any (fun o _ => ?_)
  refine b_wl_i (fun c2 => ?_) (fun c2 => ?_)
  · exact b_wl_s hF
  · refine b_wl_b b_wl_any (fun o _ => ?_)
    refine b_wl_i (fun c4 => ?_) (fun c4 => ?_)
    · exact b_wl_s hF
    · refine b_wl_i (fun c5 => ?_) (fun c5 => ?_)
      · exact b_wl_s hF
      · refine b_wl_b (w_X4_forget b_fr_refl) (fun o ho => ?_)
        replace hF := b_fr_tr hF (b_fr_mo (by decide +kernel) ho)
        refine b_wl_b (w_X8_tell b_fr_refl) (fun o ho => ?_)
        refine b_wl_two ?_
        replace hF := b_fr_tr hF (b_fr_mo (by decide +kernel) ho)
        exact b_wl_s hF
def W_X11_same : List (Nat × Option Int) := [(2, some 1), (6, some 5), (77, none), (78, none), (79, none), (80, none)]
theorem w_X11_same {v1 : Int} {v2 : Int} {M0 M : bM} (hF : b_fr W_X11_same M0 M) : b_wl (F_X11_same v1 v2 M) (fun o : Int × bM => b_fr W_X11_same M0 o.2) := by
  unfold F_X11_same
  refine b_wl_b (w_X11_tellOfTwo b_fr_refl) (fun o ho => ?_)
  refine b_wl_two ?_
  replace hF := b_fr_tr hF (b_fr_mo (by decide +kernel) ho)
  exact b_wl_s hF
def W_X11_apart : List (Nat × Option Int) := [(2, some 1), (6, some 5), (77, none), (78, none), (79, none), (80, none)]
theorem w_X11_apart {v1 : Int} {v2 : Int} {M0 M : bM} (hF : b_fr W_X11_apart M0 M) : b_wl (F_X11_apart v1 v2 M) (fun o : Int × bM => b_fr W_X11_apart M0 o.2) := by
  unfold F_X11_apart
  refine b_wl_b (w_X11_tellOfTwo b_fr_refl) (fun o ho => ?_)
  refine b_wl_two ?_
  replace hF := b_fr_tr hF (b_fr_mo (by decide +kernel) ho)
  exact b_wl_s hF
def W_X11_child : List (Nat × Option Int) := [(2, some 1), (6, some 5), (77, none), (78, none), (79, none), (80, none)]
theorem w_X11_child {v1 : Int} {v2 : Int} {M0 M : bM} (hF : b_fr W_X11_child M0 M) : b_wl (F_X11_child v1 v2 M) (fun o : Int × bM => b_fr W_X11_child M0 o.2) := by
  unfold F_X11_child
  refine b_wl_b (w_X11_tellOfTwo b_fr_refl) (fun o ho => ?_)
  refine b_wl_two ?_
  replace hF := b_fr_tr hF (b_fr_mo (by decide +kernel) ho)
  exact b_wl_s hF
def W_X8_unite : List (Nat × Option Int) := [(81, none)]
theorem w_X8_unite_s17 {v1 : Int} {v2 : Int} {v3 : Int} {v4 : Int} {v5 : Int} {M0 M : bM} (hF : b_fr W_X8_unite M0 M) : b_wl (F_X8_unite_s17 v1 v2 v3 v4 v5 M) (Sum.elim (fun t : Int × bM => b_fr W_X8_unite M0 t.2) (fun t : bM => b_fr W_X8_unite M0 t)) := by
  unfold F_X8_unite_s17
  refine b_wl_i (fun c3 => ?_) (fun c3 => ?_)
  · exact b_wl_s hF
  · refine b_wl_i (fun c4 => ?_) (fun c4 => ?_)
    · exact b_wl_s hF
    · refine b_wl_g (fun hg => ?_)
      refine b_wl_i (fun c6 => ?_) (fun c6 => ?_)
      · refine b_wl_g (fun hg => ?_)
        refine b_wl_lA (c := 81) hF (by decide +kernel) (fun hF => ?_)
        refine b_wl_g (fun hg => ?_)
        exact b_wl_s hF
      · refine b_wl_g (fun hg => ?_)
        exact b_wl_s hF
theorem w_X8_unite_b57 {M0 M : bM} (hF : b_fr W_X8_unite M0 M) : b_wl (F_X8_unite_b57 M) (fun o : bM => b_fr W_X8_unite M0 o) := by
  unfold F_X8_unite_b57
  exact b_wl_s hF
theorem w_X8_unite {v1 : Int} {v2 : Int} {M0 M : bM} (hF : b_fr W_X8_unite M0 M) : b_wl (F_X8_unite v1 v2 M) (fun o : bM => b_fr W_X8_unite M0 o) := by
  unfold F_X8_unite
  refine b_wl_l ?_
  refine b_wl_l ?_
  refine b_wl_b (b_wl_loop (A := (fun t : Int × bM => b_fr W_X8_unite M0 t.2)) (fun t ht => w_X8_unite_s17 ht) hF) (fun t ht => ?_)
  replace hF : b_fr W_X8_unite M0 t := ht
  exact w_X8_unite_b57 hF
def W_X8_learn : List (Nat × Option Int) := [(82, none), (83, none), (84, none)]
theorem w_X8_learn_b58 {v1 : Int} {v2 : Int} {M0 M : bM} (hF : b_fr W_X8_learn M0 M) : b_wl (F_X8_learn_b58 v1 v2 M) (fun o : bM => b_fr W_X8_learn M0 o) := by
  unfold F_X8_learn_b58
  refine b_wl_g (fun hg => ?_)
  refine b_wl_i (fun c7 => ?_) (fun c7 => ?_)
  · refine b_wl_g (fun hg => ?_)
    refine b_wl_l ?_
    refine b_wl_i (fun c11 => ?_) (fun c11 => ?_)
    · refine b_wl_g (fun hg => ?_)
      refine b_wl_lA (c := 84) hF (by decide +kernel) (fun hF => ?_)
      exact b_wl_s hF
    · refine b_wl_g (fun hg => ?_)
      refine b_wl_lA (c := 83) hF (by decide +kernel) (fun hF => ?_)
      exact b_wl_s hF
  · exact b_wl_s hF
theorem w_X8_learn_b46 {v1 : Int} {v2 : Int} {M0 M : bM} (hF : b_fr W_X8_learn M0 M) : b_wl (F_X8_learn_b46 v1 v2 M) (fun o : bM => b_fr W_X8_learn M0 o) := by
  unfold F_X8_learn_b46
  refine b_wl_g (fun hg => ?_)
  refine b_wl_lA (c := 82) hF (by decide +kernel) (fun hF => ?_)
  exact w_X8_learn_b58 hF
theorem w_X8_learn {v1 : Int} {M0 M : bM} (hF : b_fr W_X8_learn M0 M) : b_wl (F_X8_learn v1 M) (fun o : bM => b_fr W_X8_learn M0 o) := by
  unfold F_X8_learn
  refine b_wl_g (fun hg => ?_)
  refine b_wl_l ?_
  refine b_wl_g (fun hg => ?_)
  refine b_wl_i (fun c5 => ?_) (fun c5 => ?_)
  · refine b_wl_g (fun hg => ?_)
    refine b_wl_i (fun c18 => ?_) (fun c18 => ?_)
    · exact w_X8_learn_b46 hF
    · refine b_wl_g (fun hg => ?_)
      refine b_wl_i (fun c24 => ?_) (fun c24 => ?_)
      · exact w_X8_learn_b58 hF
      · exact w_X8_learn_b46 hF
  · exact w_X8_learn_b58 hF
def W_X8_know : List (Nat × Option Int) := [(2, some 7), (2, some 8), (2, some 9), (81, none), (82, none), (83, none), (84, none)]
theorem w_X8_know_s54 {v1 : Int} {v2 : Int} {M0 M : bM} (hF : b_fr W_X8_know M0 M) : b_wl (F_X8_know_s54 v1 v2 M) (Sum.elim (fun t : Int × bM => b_fr W_X8_know M0 t.2) (fun t : bM => b_fr W_X8_know M0 t)) := by
  unfold F_X8_know_s54
  refine b_wl_i (fun c5 => ?_) (fun c5 => ?_)
  · exact b_wl_s hF
  · refine b_wl_g (fun hg => ?_)
    refine b_wl_lA (c := 81) hF (by decide +kernel) (fun hF => ?_)
    refine b_wl_g (fun hg => ?_)
    refine b_wl_lA (c := 82) hF (by decide +kernel) (fun hF => ?_)
    refine b_wl_g (fun hg => ?_)
    refine b_wl_lA (c := 83) hF (by decide +kernel) (fun hF => ?_)
    refine b_wl_g (fun hg => ?_)
    refine b_wl_lA (c := 84) hF (by decide +kernel) (fun hF => ?_)
    refine b_wl_g (fun hg => ?_)
    exact b_wl_s hF
theorem w_X8_know_s98 {v1 : Int} {v2 : Int} {M0 M : bM} (hF : b_fr W_X8_know M0 M) : b_wl (F_X8_know_s98 v1 v2 M) (Sum.elim (fun t : Int × bM => b_fr W_X8_know M0 t.2) (fun t : bM => b_fr W_X8_know M0 t)) := by
  unfold F_X8_know_s98
  refine b_wl_i (fun c15 => ?_) (fun c15 => ?_)
  · exact b_wl_s hF
  · refine b_wl_g (fun hg => ?_)
    refine b_wl_i (fun c17 => ?_) (fun c17 => ?_)
    · refine b_wl_g (fun hg => ?_)
      refine b_wl_i (fun c20 => ?_) (fun c20 => ?_)
      · refine b_wl_g (fun hg => ?_)
        exact b_wl_s hF
      · refine b_wl_g (fun hg => ?_)
        refine b_wl_b (w_X8_unite b_fr_refl) (fun o ho => ?_)
        replace hF := b_fr_tr hF (b_fr_mo (by decide +kernel) ho)
        refine b_wl_g (fun hg => ?_)
        exact b_wl_s hF
    · refine b_wl_g (fun hg => ?_)
      exact b_wl_s hF
theorem w_X8_know_s160 {v1 : Int} {v2 : Int} {M0 M : bM} (hF : b_fr W_X8_know M0 M) : b_wl (F_X8_know_s160 v1 v2 M) (Sum.elim (fun t : Int × bM => b_fr W_X8_know M0 t.2) (fun t : bM => b_fr W_X8_know M0 t)) := by
  unfold F_X8_know_s160
  refine b_wl_i (fun c27 => ?_) (fun c27 => ?_)
  · exact b_wl_s hF
  · refine b_wl_g (fun hg => ?_)
    refine b_wl_i (fun c29 => ?_) (fun c29 => ?_)
    · refine b_wl_g (fun hg => ?_)
      exact b_wl_s hF
    · refine b_wl_b (w_X8_learn b_fr_refl) (fun o ho => ?_)
      replace hF := b_fr_tr hF (b_fr_mo (by decide +kernel) ho)
      refine b_wl_g (fun hg => ?_)
      exact b_wl_s hF
theorem w_X8_know_b189 {M0 M : bM} (hF : b_fr W_X8_know M0 M) : b_wl (F_X8_know_b189 M) (fun o : bM => b_fr W_X8_know M0 o) := by
  unfold F_X8_know_b189
  exact b_wl_s hF
theorem w_X8_know_b158 {v1 : Int} {M0 M : bM} (hF : b_fr W_X8_know M0 M) : b_wl (F_X8_know_b158 v1 M) (fun o : bM => b_fr W_X8_know M0 o) := by
  unfold F_X8_know_b158
  refine b_wl_b (b_wl_loop (A := (fun t : Int × bM => b_fr W_X8_know M0 t.2)) (fun t ht => w_X8_know_s160 ht) hF) (fun t ht => ?_)
  replace hF : b_fr W_X8_know M0 t := ht
  exact w_X8_know_b189 hF
theorem w_X8_know_b96 {v1 : Int} {M0 M : bM} (hF : b_fr W_X8_know M0 M) : b_wl (F_X8_know_b96 v1 M) (fun o : bM => b_fr W_X8_know M0 o) := by
  unfold F_X8_know_b96
  refine b_wl_b (b_wl_loop (A := (fun t : Int × bM => b_fr W_X8_know M0 t.2)) (fun t ht => w_X8_know_s98 ht) hF) (fun t ht => ?_)
  replace hF : b_fr W_X8_know M0 t := ht
  exact w_X8_know_b158 hF
theorem w_X8_know_b31 {v1 : Int} {M0 M : bM} (hF : b_fr W_X8_know M0 M) : b_wl (F_X8_know_b31 v1 M) (fun o : bM => b_fr W_X8_know M0 o) := by
  unfold F_X8_know_b31
  refine b_wl_lF (c := 2) (i := 7) hF (by decide +kernel) (fun hF => ?_)
  refine b_wl_lF (c := 2) (i := 8) hF (by decide +kernel) (fun hF => ?_)
  refine b_wl_lF (c := 2) (i := 9) hF (by decide +kernel) (fun hF => ?_)
  refine b_wl_b (b_wl_loop (A := (fun t : Int × bM => b_fr W_X8_know M0 t.2)) (fun t ht => w_X8_know_s54 ht) hF) (fun t ht => ?_)
  replace hF : b_fr W_X8_know M0 t := ht
  exact w_X8_know_b96 hF
theorem w_X8_know {v1 : Int} {M0 M : bM} (hF : b_fr W_X8_know M0 M) : b_wl (F_X8_know v1 M) (fun o : bM => b_fr W_X8_know M0 o) := by
  unfold F_X8_know
  refine b_wl_i (fun c1 => ?_) (fun c1 => ?_)
  · refine b_wl_i (fun c33 => ?_) (fun c33 => ?_)
    · refine b_wl_i (fun c34 => ?_) (fun c34 => ?_)
      · exact b_wl_s hF
      · exact w_X8_know_b31 hF
    · exact w_X8_know_b31 hF
  · exact w_X8_know_b31 hF
def W_X11_deadOn : List (Nat × Option Int) := [(2, some 7), (2, some 8), (2, some 9), (81, none), (82, none), (83, none), (84, none)]
theorem w_X11_deadOn {v1 : Int} {v2 : Int} {M0 M : bM} (hF : b_fr W_X11_deadOn M0 M) : b_wl (F_X11_deadOn v1 v2 M) (fun o : Int × bM => b_fr W_X11_deadOn M0 o.2) := by
  unfold F_X11_deadOn
  refine b_wl_b b_wl_any (fun o _ => ?_)
  refine b_wl_i (fun c2 => ?_) (fun c2 => ?_)
  · exact b_wl_s hF
  · refine b_wl_b b_wl_any (fun o _ => ?_)
    refine b_wl_i (fun c4 => ?_) (fun c4 => ?_)
    · exact b_wl_s hF
    · refine b_wl_b (w_X8_know b_fr_refl) (fun o ho => ?_)
      replace hF := b_fr_tr hF (b_fr_mo (by decide +kernel) ho)
      refine b_wl_b b_wl_any (fun o _ => ?_)
      exact b_wl_s hF
def W_X11_one : List (Nat × Option Int) := [(2, some 7), (2, some 8), (2, some 9), (81, none), (82, none), (83, none), (84, none)]
theorem w_X11_one {v1 : Int} {v2 : Int} {v3 : Int} {M0 M : bM} (hF : b_fr W_X11_one M0 M) : b_wl (F_X11_one v1 v2 v3 M) (fun o : Int × bM => b_fr W_X11_one M0 o.2) := by
  unfold F_X11_one
  refine b_wl_b b_wl_any (fun o _ => ?_)
  refine b_wl_i (fun c2 => ?_) (fun c2 => ?_)
  · exact b_wl_s hF
  · refine b_wl_b b_wl_any (fun o _ => ?_)
    refine b_wl_i (fun c4 => ?_) (fun c4 => ?_)
    · exact b_wl_s hF
    · refine b_wl_b b_wl_any (fun o _ => ?_)
      refine b_wl_i (fun c6 => ?_) (fun c6 => ?_)
      · exact b_wl_s hF
      · refine b_wl_b (w_X8_know b_fr_refl) (fun o ho => ?_)
        replace hF := b_fr_tr hF (b_fr_mo (by decide +kernel) ho)
        refine b_wl_b b_wl_any (fun o _ => ?_)
        refine b_wl_b b_wl_any (fun o _ => ?_)
        refine b_wl_i (fun c10 => ?_) (fun c10 => ?_)
        · exact b_wl_s hF
        · exact b_wl_s hF
def W_X11_names : List (Nat × Option Int) := [(2, some 7), (2, some 8), (2, some 9), (81, none), (82, none), (83, none), (84, none)]
theorem w_X11_names {v1 : Int} {M0 M : bM} (hF : b_fr W_X11_names M0 M) : b_wl (F_X11_names v1 M) (fun o : Int × bM => b_fr W_X11_names M0 o.2) := by
  unfold F_X11_names
  refine b_wl_b b_wl_any (fun o _ => ?_)
  refine b_wl_i (fun c2 => ?_) (fun c2 => ?_)
  · exact b_wl_s hF
  · refine b_wl_b (w_X8_know b_fr_refl) (fun o ho => ?_)
    replace hF := b_fr_tr hF (b_fr_mo (by decide +kernel) ho)
    refine b_wl_b b_wl_any (fun o _ => ?_)
    exact b_wl_s hF
def W_X5_add : List (Nat × Option Int) := [(3, some 0), (86, none), (87, none), (88, none), (91, none), (92, none)]
theorem w_X5_add {v1 : Int} {v2 : Int} {v3 : Int} {M0 M : bM} (hF : b_fr W_X5_add M0 M) : b_wl (F_X5_add v1 v2 v3 M) (fun o : Int × bM => b_fr W_X5_add M0 o.2) := by
  unfold F_X5_add
  refine b_wl_i (fun c1 => ?_) (fun c1 => ?_)
  · refine b_wl_g (fun hg => ?_)
    refine b_wl_lA (c := 86) hF (by decide +kernel) (fun hF => ?_)
    refine b_wl_g (fun hg => ?_)
    refine b_wl_lA (c := 87) hF (by decide +kernel) (fun hF => ?_)
    refine b_wl_g (fun hg => ?_)
    refine b_wl_lA (c := 88) hF (by decide +kernel) (fun hF => ?_)
    refine b_wl_g (fun hg => ?_)
    refine b_wl_lA (c := 91) hF (by decide +kernel) (fun hF => ?_)
    refine b_wl_g (fun hg => ?_)
    refine b_wl_lA (c := 92) hF (by decide +kernel) (fun hF => ?_)
    refine b_wl_g (fun hg => ?_)
    refine b_wl_lF (c := 3) (i := 0) hF (by decide +kernel) (fun hF => ?_)
    refine b_wl_g (fun hg => ?_)
    exact b_wl_s hF
  · exact b_wl_s hF
def W_X11_lot : List (Nat × Option Int) := [(3, some 0), (86, none), (87, none), (88, none), (91, none), (92, none)]
theorem w_X11_lot {v1 : Int} {v2 : Int} {M0 M : bM} (hF : b_fr W_X11_lot M0 M) : b_wl (F_X11_lot v1 v2 M) (fun o : Int × bM => b_fr W_X11_lot M0 o.2) := by
  unfold F_X11_lot
  refine b_wl_b b_wl_any (fun o _ => ?_)
  refine b_wl_i (fun c2 => ?_) (fun c2 => ?_)
  · exact b_wl_s hF
  · refine b_wl_b b_wl_any (fun o _ => ?_)
    refine b_wl_i (fun c4 => ?_) (fun c4 => ?_)
    · exact b_wl_s hF
    · refine b_wl_b b_wl_any (fun o _ => ?_)
      refine b_wl_i (fun c6 => ?_) (fun c6 => ?_)
      · refine b_wl_b (w_X5_add b_fr_refl) (fun o ho => ?_)
        refine b_wl_two ?_
        replace hF := b_fr_tr hF (b_fr_mo (by decide +kernel) ho)
        exact b_wl_s hF
      · exact b_wl_s hF
def W_X5_four : List (Nat × Option Int) := [(99, none)]
theorem w_X5_four {v1 : Int} {v2 : Int} {v3 : Int} {v4 : Int} {M0 M : bM} (hF : b_fr W_X5_four M0 M) : b_wl (F_X5_four v1 v2 v3 v4 M) (fun o : bM => b_fr W_X5_four M0 o) := by
  unfold F_X5_four
  refine b_wl_lA (c := 99) hF (by decide +kernel) (fun hF => ?_)
  refine b_wl_lA (c := 99) hF (by decide +kernel) (fun hF => ?_)
  refine b_wl_lA (c := 99) hF (by decide +kernel) (fun hF => ?_)
  refine b_wl_lA (c := 99) hF (by decide +kernel) (fun hF => ?_)
  exact b_wl_s hF
def W_X5_divide : List (Nat × Option Int) := [(3, some 0), (86, none), (87, none), (88, none), (89, none), (91, none), (92, none)]
theorem w_X5_divide_s23 {v1 : Int} {v2 : Int} {v3 : Int} {v4 : Int} {v5 : Int} {v6 : Int} {M0 M : bM} (hF : b_fr W_X5_divide M0 M) : b_wl (F_X5_divide_s23 v1 v2 v3 v4 v5 v6 M) (Sum.elim (fun t : Int × Int × bM => b_fr W_X5_divide M0 t.2.2) (fun t : Int × bM => b_fr W_X5_divide M0 t.2)) := by
  unfold F_X5_divide_s23
  refine b_wl_i (fun c3 => ?_) (fun c3 => ?_)
  · exact b_wl_s hF
  · refine b_wl_i (fun c4 => ?_) (fun c4 => ?_)
    · exact b_wl_s hF
    · refine b_wl_g (fun hg => ?_)
      refine b_wl_b (w_X5_add b_fr_refl) (fun o ho => ?_)
      refine b_wl_two ?_
      replace hF := b_fr_tr hF (b_fr_mo (by decide +kernel) ho)
      refine b_wl_g (fun hg => ?_)
      refine b_wl_l ?_
      refine b_wl_g (fun hg => ?_)
      exact b_wl_s hF
theorem w_X5_divide_b72 {v1 : Int} {v2 : Int} {v4 : Int} {v5 : Int} {M0 M : bM} (hF : b_fr W_X5_divide M0 M) : b_wl (F_X5_divide_b72 v1 v2 v4 v5 M) (fun o : Int × bM => b_fr W_X5_divide M0 o.2) := by
  unfold F_X5_divide_b72
  refine b_wl_g (fun hg => ?_)
  refine b_wl_lA (c := 88) hF (by decide +kernel) (fun hF => ?_)
  refine b_wl_g (fun hg => ?_)
  refine b_wl_lA (c := 89) hF (by decide +kernel) (fun hF => ?_)
  exact b_wl_s hF
theorem w_X5_divide {v1 : Int} {v2 : Int} {v3 : Int} {M0 M : bM} (hF : b_fr W_X5_divide M0 M) : b_wl (F_X5_divide v1 v2 v3 M) (fun o : Int × bM => b_fr W_X5_divide M0 o.2) := by
  unfold F_X5_divide
  refine b_wl_b b_wl_any (fun o _ => ?_)
  refine b_wl_i (fun c2 => ?_) (fun c2 => ?_)
  · exact b_wl_s hF
  · refine b_wl_b (b_wl_loop (A := (fun t : Int × Int × bM => b_fr W_X5_divide M0 t.2.2)) (fun t ht => w_X5_divide_s23 ht) hF) (fun t ht => ?_)
    replace hF : b_fr W_X5_divide M0 t.2 := ht
    exact w_X5_divide_b72 hF
def W_X11_split : List (Nat × Option Int) := [(3, some 0), (6, some 5), (86, none), (87, none), (88, none), (89, none), (91, none), (92, none), (99, none)]
theorem w_X11_split {v1 : Int} {v2 : Int} {v3 : Int} {v4 : Int} {v5 : Int} {v6 : Int} {v7 : Int} {M0 M : bM} (hF : b_fr W_X11_split M0 M) : b_wl (F_X11_split v1 v2 v3 v4 v5 v6 v7 M) (fun o : Int × bM => b_fr W_X11_split M0 o.2) := by
  unfold F_X11_split
  refine b_wl_b b_wl_any (fun o _ => ?_)
  refine b_wl_i (fun c2 => ?_) (fun c2 => ?_)
  · exact b_wl_s hF
  · refine b_wl_b b_wl_any (fun o _ => ?_)
    refine b_wl_i (fun c4 => ?_) (fun c4 => ?_)
    · exact b_wl_s hF
    · refine b_wl_i (fun c5 => ?_) (fun c5 => ?_)
      · exact b_wl_s hF
      · refine b_wl_i (fun c6 => ?_) (fun c6 => ?_)
        · refine b_wl_b (w_X5_four b_fr_refl) (fun o ho => ?_)
          replace hF := b_fr_tr hF (b_fr_mo (by decide +kernel) ho)
          refine b_wl_b b_wl_any (fun o _ => ?_)
          refine b_wl_i (fun c9 => ?_) (fun c9 => ?_)
          · exact b_wl_s hF
          · refine b_wl_b b_wl_any (fun o _ => ?_)
            refine b_wl_i (fun c11 => ?_) (fun c11 => ?_)
            · exact b_wl_s hF
            · refine b_wl_b b_wl_any (fun o _ => ?_)
              refine b_wl_i (fun c13 => ?_) (fun c13 => ?_)
              · refine b_wl_b (w_X4_forget b_fr_refl) (fun o ho => ?_)
                replace hF := b_fr_tr hF (b_fr_mo (by decide +kernel) ho)
                refine b_wl_b (w_X5_divide b_fr_refl) (fun o ho => ?_)
                refine b_wl_two ?_
                replace hF := b_fr_tr hF (b_fr_mo (by decide +kernel) ho)
                exact b_wl_s hF
              · exact b_wl_s hF
        · exact b_wl_s hF
def W_X5_unite : List (Nat × Option Int) := [(3, some 0), (86, none), (87, none), (88, none), (90, none), (91, none), (92, none)]
theorem w_X5_unite_s9 {v1 : Int} {v2 : Int} {v3 : Int} {v4 : Int} {v5 : Int} {v7 : Int} {M0 M : bM} (hF : b_fr W_X5_unite M0 M) : b_wl (F_X5_unite_s9 v1 v2 v3 v4 v5 v7 M) (Sum.elim (fun t : Int × Int × Int × bM => b_fr W_X5_unite M0 t.2.2.2) (fun t : Int × Int × bM => b_fr W_X5_unite M0 t.2.2)) := by
  unfold F_X5_unite_s9
  refine b_wl_i (fun c1 => ?_) (fun c1 => ?_)
  · exact b_wl_s hF
  · refine b_wl_i (fun c2 => ?_) (fun c2 => ?_)
    · exact b_wl_s hF
    · refine b_wl_g (fun hg => ?_)
      refine b_wl_b b_wl_any (fun o _ => ?_)
      refine b_wl_i (fun c5 => ?_) (fun c5 => ?_)
      · refine b_wl_g (fun hg => ?_)
        exact b_wl_s hF
      · refine b_wl_g (fun hg => ?_)
        refine b_wl_l ?_
        refine b_wl_g (fun hg => ?_)
        refine b_wl_l ?_
        refine b_wl_g (fun hg => ?_)
        refine b_wl_lA (c := 88) hF (by decide +kernel) (fun hF => ?_)
        refine b_wl_g (fun hg => ?_)
        exact b_wl_s hF
theorem w_X5_unite_b77 {v2 : Int} {v3 : Int} {v4 : Int} {v5 : Int} {M0 M : bM} (hF : b_fr W_X5_unite M0 M) : b_wl (F_X5_unite_b77 v2 v3 v4 v5 M) (fun o : Int × bM => b_fr W_X5_unite M0 o.2) := by
  unfold F_X5_unite_b77
  refine b_wl_b (w_X5_add b_fr_refl) (fun o ho => ?_)
  refine b_wl_two ?_
  replace hF := b_fr_tr hF (b_fr_mo (by decide +kernel) ho)
  refine b_wl_b b_wl_any (fun o _ => ?_)
  refine b_wl_i (fun c18 => ?_) (fun c18 => ?_)
  · exact b_wl_s hF
  · refine b_wl_g (fun hg => ?_)
    refine b_wl_lA (c := 90) hF (by decide +kernel) (fun hF => ?_)
    exact b_wl_s hF
theorem w_X5_unite {v1 : Int} {v2 : Int} {v3 : Int} {M0 M : bM} (hF : b_fr W_X5_unite M0 M) : b_wl (F_X5_unite v1 v2 v3 M) (fun o : Int × bM => b_fr W_X5_unite M0 o.2) := by
  unfold F_X5_unite
  refine b_wl_b (b_wl_loop (A := (fun t : Int × Int × Int × bM => b_fr W_X5_unite M0 t.2.2.2)) (fun t ht => w_X5_unite_s9 ht) hF) (fun t ht => ?_)
  replace hF : b_fr W_X5_unite M0 t.2.2 := ht
  exact w_X5_unite_b77 hF
def W_X11_join : List (Nat × Option Int) := [(3, some 0), (6, some 5), (86, none), (87, none), (88, none), (90, none), (91, none), (92, none), (99, none)]
theorem w_X11_join {v1 : Int} {v2 : Int} {v3 : Int} {v4 : Int} {v5 : Int} {v6 : Int} {v7 : Int} {M0 M : bM} (hF : b_fr W_X11_join M0 M) : b_wl (F_X11_join v1 v2 v3 v4 v5 v6 v7 M) (fun o : Int × bM => b_fr W_X11_join M0 o.2) := by
  unfold F_X11_join
  refine b_wl_i (fun c1 => ?_) (fun c1 => ?_)
  · exact b_wl_s hF
  · refine b_wl_i (fun c2 => ?_) (fun c2 => ?_)
    · exact b_wl_s hF
    · refine b_wl_b b_wl_any (fun o _ => ?_)
      refine b_wl_i (fun c4 => ?_) (fun c4 => ?_)
      · exact b_wl_s hF
      · refine b_wl_b b_wl_any (fun o _ => ?_)
        refine b_wl_i (fun c6 => ?_) (fun c6 => ?_)
        · exact b_wl_s hF
        · refine b_wl_b (w_X5_four b_fr_refl) (fun o ho => ?_)
          replace hF := b_fr_tr hF (b_fr_mo (by decide +kernel) ho)
          refine b_wl_b b_wl_any (fun o _ => ?_)
          refine b_wl_i (fun c9 => ?_) (fun c9 => ?_)
          · exact b_wl_s hF
          · refine b_wl_b b_wl_any (fun o _ => ?_)
            refine b_wl_i (fun c11 => ?_) (fun c11 => ?_)
            · exact b_wl_s hF
            · refine b_wl_b b_wl_any (fun o _ => ?_)
              refine b_wl_i (fun c13 => ?_) (fun c13 => ?_)
              · refine b_wl_b (w_X4_forget b_fr_refl) (fun o ho => ?_)
                replace hF := b_fr_tr hF (b_fr_mo (by decide +kernel) ho)
                refine b_wl_b (w_X5_unite b_fr_refl) (fun o ho => ?_)
                refine b_wl_two ?_
                replace hF := b_fr_tr hF (b_fr_mo (by decide +kernel) ho)
                exact b_wl_s hF
              · exact b_wl_s hF
def W_X10_clear : List (Nat × Option Int) := [(1, some 1)]
theorem w_X10_clear {M0 M : bM} (hF : b_fr W_X10_clear M0 M) : b_wl (F_X10_clear M) (fun o : bM => b_fr W_X10_clear M0 o) := by
  unfold F_X10_clear
  refine b_wl_lF (c := 1) (i := 1) hF (by decide +kernel) (fun hF => ?_)
  exact b_wl_s hF
def W_X10_step : List (Nat × Option Int) := [(1, some 2), (1, some 3), (1, some 4), (1, some 7)]
theorem w_X10_step_s5 {v1 : Int} {M0 M : bM} (hF : b_fr W_X10_step M0 M) : b_wl (F_X10_step_s5 v1 M) (Sum.elim (fun _ : Int => True) (fun _ : Int => True)) := by
  unfold F_X10_step_s5
  refine b_wl_i (fun c1 => ?_) (fun c1 => ?_)
  · exact b_wl_s trivial
  · refine b_wl_b b_wl_any (fun o _ => ?_)
    refine b_wl_b b_wl_any (fun o _ => ?_)
    refine b_wl_i (fun c4 => ?_) (fun c4 => ?_)
    · exact b_wl_s trivial
    · refine b_wl_g (fun hg => ?_)
      exact b_wl_s trivial
theorem w_X10_step_b226 {v1 : Int} {v2 : Int} {M0 M : bM} (hF : b_fr W_X10_step M0 M) : b_wl (F_X10_step_b226 v1 v2 M) (fun o : bM => b_fr W_X10_step M0 o) := by
  unfold F_X10_step_b226
  refine b_wl_lF (c := 1) (i := 3) hF (by decide +kernel) (fun hF => ?_)
  refine b_wl_lF (c := 1) (i := 7) hF (by decide +kernel) (fun hF => ?_)
  exact b_wl_s hF
theorem w_X10_step_b206 {v1 : Int} {v2 : Int} {v3 : Int} {u1 : Int} {M0 M : bM} (hF : b_fr W_X10_step M0 M) : b_wl (F_X10_step_b206 v1 v2 v3 u1 M) (fun o : bM => b_fr W_X10_step M0 o) := by
  unfold F_X10_step_b206
  refine b_wl_lF (c := 1) (i := 2) hF (by decide +kernel) (fun hF => ?_)
  refine b_wl_lF (c := 1) (i := 4) hF (by decide +kernel) (fun hF => ?_)
  refine b_wl_g (fun hg => ?_)
  exact w_X10_step_b226 hF
theorem w_X10_step_s118 {v1 : Int} {v2 : Int} {M0 M : bM} (hF : b_fr W_X10_step M0 M) : b_wl (F_X10_step_s118 v1 v2 M) (Sum.elim (fun t : Int × bM => b_fr W_X10_step M0 t.2) (fun t : Int × bM => b_fr W_X10_step M0 t.2)) := by
  unfold F_X10_step_s118
  refine b_wl_i (fun c21 => ?_) (fun c21 => ?_)
  · exact b_wl_s hF
  · refine b_wl_b b_wl_any (fun o _ => ?_)
    refine b_wl_b b_wl_any (fun o _ => ?_)
    refine b_wl_i (fun c24 => ?_) (fun c24 => ?_)
    · exact b_wl_s hF
    · refine b_wl_b b_wl_any (fun o _ => ?_)
      refine b_wl_lF (c := 1) (i := 4) hF (by decide +kernel) (fun hF => ?_)
      refine b_wl_g (fun hg => ?_)
      exact b_wl_s hF
theorem w_X10_step_b179 {v1 : Int} {v2 : Int} {u1 : Int} {M0 M : bM} (hF : b_fr W_X10_step M0 M) : b_wl (F_X10_step_b179 v1 v2 u1 M) (fun o : bM => b_fr W_X10_step M0 o) := by
  unfold F_X10_step_b179
  refine b_wl_lF (c := 1) (i := 2) hF (by decide +kernel) (fun hF => ?_)
  exact w_X10_step_b226 hF
theorem w_X10_step_b166 {v1 : Int} {v2 : Int} {M0 M : bM} (hF : b_fr W_X10_step M0 M) : b_wl (F_X10_step_b166 v1 v2 M) (fun o : bM => b_fr W_X10_step M0 o) := by
  unfold F_X10_step_b166
  refine b_wl_g (fun hg => ?_)
  refine b_wl_i (fun c29 => ?_) (fun c29 => ?_)
  · exact w_X10_step_b179 hF
  · exact w_X10_step_b179 hF
theorem w_X10_step_s50 {v1 : Int} {v2 : Int} {M0 M : bM} (hF : b_fr W_X10_step M0 M) : b_wl (F_X10_step_s50 v1 v2 M) (Sum.elim (fun t : Int × bM => b_fr W_X10_step M0 t.2) (fun t : Int × bM => b_fr W_X10_step M0 t.2)) := by
  unfold F_X10_step_s50
  refine b_wl_i (fun c31 => ?_) (fun c31 => ?_)
  · exact b_wl_s hF
  · refine b_wl_b b_wl_any (fun o _ => ?_)
    refine b_wl_b b_wl_any (fun o _ => ?_)
    refine b_wl_i (fun c34 => ?_) (fun c34 => ?_)
    · exact b_wl_s hF
    · refine b_wl_b b_wl_any (fun o _ => ?_)
      refine b_wl_b b_wl_any (fun o _ => ?_)
      refine b_wl_lF (c := 1) (i := 4) hF (by decide +kernel) (fun hF => ?_)
      refine b_wl_g (fun hg => ?_)
      exact b_wl_s hF
theorem w_X10_step_b105 {v1 : Int} {v2 : Int} {u1 : Int} {M0 M : bM} (hF : b_fr W_X10_step M0 M) : b_wl (F_X10_step_b105 v1 v2 u1 M) (fun o : bM => b_fr W_X10_step M0 o) := by
  unfold F_X10_step_b105
  refine b_wl_lF (c := 1) (i := 2) hF (by decide +kernel) (fun hF => ?_)
  exact w_X10_step_b226 hF
theorem w_X10_step_b91 {v1 : Int} {v2 : Int} {M0 M : bM} (hF : b_fr W_X10_step M0 M) : b_wl (F_X10_step_b91 v1 v2 M) (fun o : bM => b_fr W_X10_step M0 o) := by
  unfold F_X10_step_b91
  refine b_wl_g (fun hg => ?_)
  refine b_wl_i (fun c40 => ?_) (fun c40 => ?_)
  · exact w_X10_step_b105 hF
  · exact w_X10_step_b105 hF
theorem w_X10_step_b30 {v1 : Int} {M0 M : bM} (hF : b_fr W_X10_step M0 M) : b_wl (F_X10_step_b30 v1 M) (fun o : bM => b_fr W_X10_step M0 o) := by
  unfold F_X10_step_b30
  refine b_wl_b b_wl_any (fun o _ => ?_)
  refine b_wl_lF (c := 1) (i := 4) hF (by decide +kernel) (fun hF => ?_)
  refine b_wl_b b_wl_any (fun o _ => ?_)
  refine b_wl_i (fun c9 => ?_) (fun c9 => ?_)
  · refine b_wl_b b_wl_any (fun o _ => ?_)
    refine b_wl_i (fun c11 => ?_) (fun c11 => ?_)
    · refine b_wl_i (fun c12 => ?_) (fun c12 => ?_)
      · refine b_wl_lF (c := 1) (i := 2) hF (by decide +kernel) (fun hF => ?_)
        exact w_X10_step_b226 hF
      · refine b_wl_b b_wl_any (fun o _ => ?_)
        refine b_wl_i (fun c17 => ?_) (fun c17 => ?_)
        · exact w_X10_step_b206 hF
        · exact w_X10_step_b206 hF
    · refine b_wl_b (b_wl_loop (A := (fun t : Int × bM => b_fr W_X10_step M0 t.2)) (fun t ht => w_X10_step_s118 ht) hF) (fun t ht => ?_)
      replace hF : b_fr W_X10_step M0 t.2 := ht
      exact w_X10_step_b166 hF
  · refine b_wl_b (b_wl_loop (A := (fun t : Int × bM => b_fr W_X10_step M0 t.2)) (fun t ht => w_X10_step_s50 ht) hF) (fun t ht => ?_)
    replace hF : b_fr W_X10_step M0 t.2 := ht
    exact w_X10_step_b91 hF
theorem w_X10_step {M0 M : bM} (hF : b_fr W_X10_step M0 M) : b_wl (F_X10_step M) (fun o : bM => b_fr W_X10_step M0 o) := by
  unfold F_X10_step
  refine b_wl_b (b_wl_loop (A := (fun _ : Int => True)) (fun t ht => w_X10_step_s5 hF) trivial) (fun t ht => ?_)
  exact w_X10_step_b30 hF
def W_X10_rewind : List (Nat × Option Int) := [(1, some 2), (1, some 3), (1, some 4), (1, some 7)]
theorem w_X10_rewind {M0 M : bM} (hF : b_fr W_X10_rewind M0 M) : b_wl (F_X10_rewind M) (fun o : bM => b_fr W_X10_rewind M0 o) := by
  unfold F_X10_rewind
  refine b_wl_lF (c := 1) (i := 7) hF (by decide +kernel) (fun hF => ?_)
  refine b_wl_b (w_X10_step b_fr_refl) (fun o ho => ?_)
  replace hF := b_fr_tr hF (b_fr_mo (by decide +kernel) ho)
  exact b_wl_s hF
def W_X10_begin : List (Nat × Option Int) := [(1, some 2), (1, some 3), (1, some 4), (1, some 5), (1, some 6), (1, some 7)]
theorem w_X10_begin {M0 M : bM} (hF : b_fr W_X10_begin M0 M) : b_wl (F_X10_begin M) (fun o : bM => b_fr W_X10_begin M0 o) := by
  unfold F_X10_begin
  refine b_wl_lF (c := 1) (i := 5) hF (by decide +kernel) (fun hF => ?_)
  refine b_wl_lF (c := 1) (i := 6) hF (by decide +kernel) (fun hF => ?_)
  refine b_wl_b (w_X10_rewind b_fr_refl) (fun o ho => ?_)
  replace hF := b_fr_tr hF (b_fr_mo (by decide +kernel) ho)
  exact b_wl_s hF
def W_X10_wrong : List (Nat × Option Int) := [(1, some 5), (1, some 6)]
theorem w_X10_wrong {v1 : Int} {M0 M : bM} (hF : b_fr W_X10_wrong M0 M) : b_wl (F_X10_wrong v1 M) (fun o : Int × bM => b_fr W_X10_wrong M0 o.2) := by
  unfold F_X10_wrong
  refine b_wl_lF (c := 1) (i := 5) hF (by decide +kernel) (fun hF => ?_)
  refine b_wl_lF (c := 1) (i := 6) hF (by decide +kernel) (fun hF => ?_)
  exact b_wl_s hF
def W_X5_readLine_1 : List (Nat × Option Int) := [(1, some 2), (1, some 3), (1, some 4), (1, some 5), (1, some 6), (1, some 7), (98, none)]
theorem w_X5_readLine_1_s2 {v2 : Int} {v3 : Int} {M0 M : bM} (hF : b_fr W_X5_readLine_1 M0 M) : b_wl (F_X5_readLine_1_s2 v2 v3 M) (Sum.elim (fun _ : Int => True) (fun _ : Int => True)) := by
  unfold F_X5_readLine_1_s2
  refine b_wl_i (fun c1 => ?_) (fun c1 => ?_)
  · exact b_wl_s trivial
  · refine b_wl_g (fun hg => ?_)
    refine b_wl_b b_wl_any (fun o _ => ?_)
    refine b_wl_i (fun c4 => ?_) (fun c4 => ?_)
    · refine b_wl_g (fun hg => ?_)
      exact b_wl_s trivial
    · exact b_wl_s trivial
theorem w_X5_readLine_1_b92 {M0 M : bM} (hF : b_fr W_X5_readLine_1 M0 M) : b_wl (F_X5_readLine_1_b92 M) (fun o : Int × bM => b_fr W_X5_readLine_1 M0 o.2) := by
  unfold F_X5_readLine_1_b92
  refine b_wl_b (w_X10_wrong b_fr_refl) (fun o ho => ?_)
  refine b_wl_two ?_
  replace hF := b_fr_tr hF (b_fr_mo (by decide +kernel) ho)
  refine b_wl_g (fun hg => ?_)
  exact b_wl_s hF
theorem w_X5_readLine_1_b30 {v2 : Int} {v3 : Int} {M0 M : bM} (hF : b_fr W_X5_readLine_1 M0 M) : b_wl (F_X5_readLine_1_b30 v2 v3 M) (fun o : Int × bM => b_fr W_X5_readLine_1 M0 o.2) := by
  unfold F_X5_readLine_1_b30
  refine b_wl_i (fun c6 => ?_) (fun c6 => ?_)
  · refine b_wl_i (fun c7 => ?_) (fun c7 => ?_)
    · refine b_wl_b (w_X10_step b_fr_refl) (fun o ho => ?_)
      replace hF := b_fr_tr hF (b_fr_mo (by decide +kernel) ho)
      refine b_wl_i (fun c9 => ?_) (fun c9 => ?_)
      · refine b_wl_b b_wl_any (fun o _ => ?_)
        refine b_wl_i (fun c11 => ?_) (fun c11 => ?_)
        · exact w_X5_readLine_1_b92 hF
        · refine b_wl_b b_wl_any (fun o _ => ?_)
          refine b_wl_i (fun c16 => ?_) (fun c16 => ?_)
          · refine b_wl_g (fun hg => ?_)
            refine b_wl_b b_wl_any (fun o _ => ?_)
            refine b_wl_g (fun hg => ?_)
            refine b_wl_lA (c := 98) hF (by decide +kernel) (fun hF => ?_)
            refine b_wl_b (w_X10_step b_fr_refl) (fun o ho => ?_)
            replace hF := b_fr_tr hF (b_fr_mo (by decide +kernel) ho)
            refine b_wl_b b_wl_any (fun o _ => ?_)
            refine b_wl_i (fun c24 => ?_) (fun c24 => ?_)
            · refine b_wl_b (w_X10_wrong b_fr_refl) (fun o ho => ?_)
              refine b_wl_two ?_
              replace hF := b_fr_tr hF (b_fr_mo (by decide +kernel) ho)
              refine b_wl_i (fun c27 => ?_) (fun c27 => ?_)
              · exact b_wl_s hF
              · exact b_wl_s hF
            · exact b_wl_s hF
          · exact w_X5_readLine_1_b92 hF
      · refine b_wl_b (w_X10_wrong b_fr_refl) (fun o ho => ?_)
        refine b_wl_two ?_
        replace hF := b_fr_tr hF (b_fr_mo (by decide +kernel) ho)
        refine b_wl_g (fun hg => ?_)
        exact b_wl_s hF
    · refine b_wl_b (w_X10_wrong b_fr_refl) (fun o ho => ?_)
      refine b_wl_two ?_
      replace hF := b_fr_tr hF (b_fr_mo (by decide +kernel) ho)
      refine b_wl_g (fun hg => ?_)
      exact b_wl_s hF
  · refine b_wl_b (w_X10_wrong b_fr_refl) (fun o ho => ?_)
    refine b_wl_two ?_
    replace hF := b_fr_tr hF (b_fr_mo (by decide +kernel) ho)
    refine b_wl_g (fun hg => ?_)
    exact b_wl_s hF
theorem w_X5_readLine_1 {v2 : Int} {M0 M : bM} (hF : b_fr W_X5_readLine_1 M0 M) : b_wl (F_X5_readLine_1 v2 M) (fun o : Int × bM => b_fr W_X5_readLine_1 M0 o.2) := by
  unfold F_X5_readLine_1
  refine b_wl_b (b_wl_loop (A := (fun _ : Int => True)) (fun t ht => w_X5_readLine_1_s2 hF) trivial) (fun t ht => ?_)
  exact w_X5_readLine_1_b30 hF
def W_X5_readLines_1 : List (Nat × Option Int) := [(1, some 2), (1, some 3), (1, some 4), (1, some 5), (1, some 6), (1, some 7), (98, none)]
theorem w_X5_readLines_1_b25 {v2 : Int} {M0 M : bM} (hF : b_fr W_X5_readLines_1 M0 M) : b_wl (F_X5_readLines_1_b25 v2 M) (Sum.elim (fun t : Int × bM => b_fr W_X5_readLines_1 M0 t.2) (Sum.elim (fun t : bM => b_fr W_X5_readLines_1 M0 t) (fun o : Int × bM => b_fr W_X5_readLines_1 M0 o.2))) := by
  unfold F_X5_readLines_1_b25
  refine b_wl_b (w_X5_readLine_1 b_fr_refl) (fun o ho => ?_)
  refine b_wl_two ?_
  replace hF := b_fr_tr hF (b_fr_mo (by decide +kernel) ho)
  refine b_wl_i (fun c6 => ?_) (fun c6 => ?_)
  · exact b_wl_s hF
  · refine b_wl_b (w_X10_step b_fr_refl) (fun o ho => ?_)
    replace hF := b_fr_tr hF (b_fr_mo (by decide +kernel) ho)
    refine b_wl_g (fun hg => ?_)
    exact b_wl_s hF
theorem w_X5_readLines_1_s6 {v2 : Int} {M0 M : bM} (hF : b_fr W_X5_readLines_1 M0 M) : b_wl (F_X5_readLines_1_s6 v2 M) (Sum.elim (fun t : Int × bM => b_fr W_X5_readLines_1 M0 t.2) (Sum.elim (fun t : bM => b_fr W_X5_readLines_1 M0 t) (fun o : Int × bM => b_fr W_X5_readLines_1 M0 o.2))) := by
  unfold F_X5_readLines_1_s6
  refine b_wl_i (fun c2 => ?_) (fun c2 => ?_)
  · exact b_wl_s hF
  · refine b_wl_i (fun c3 => ?_) (fun c3 => ?_)
    · refine b_wl_i (fun c9 => ?_) (fun c9 => ?_)
      · exact w_X5_readLines_1_b25 hF
      · exact b_wl_s hF
    · exact w_X5_readLines_1_b25 hF
theorem w_X5_readLines_1_b46 {M0 M : bM} (hF : b_fr W_X5_readLines_1 M0 M) : b_wl (F_X5_readLines_1_b46 M) (fun o : Int × bM => b_fr W_X5_readLines_1 M0 o.2) := by
  unfold F_X5_readLines_1_b46
  exact b_wl_s hF
theorem w_X5_readLines_1 {M0 M : bM} (hF : b_fr W_X5_readLines_1 M0 M) : b_wl (F_X5_readLines_1 M) (fun o : Int × bM => b_fr W_X5_readLines_1 M0 o.2) := by
  unfold F_X5_readLines_1
  refine b_wl_b (w_X10_begin b_fr_refl) (fun o ho => ?_)
  replace hF := b_fr_tr hF (b_fr_mo (by decide +kernel) ho)
  refine b_wl_b (b_wl_loop (A := (fun t : Int × bM => b_fr W_X5_readLines_1 M0 t.2)) (fun t ht => w_X5_readLines_1_s6 ht) hF) (fun t ht => ?_)
  cases t with
  | inr o => exact b_wl_s ht
  | inl t =>
    replace hF : b_fr W_X5_readLines_1 M0 t := ht
    refine b_wl_inl ?_
    exact w_X5_readLines_1_b46 hF
def W_X5_readBounds_1 : List (Nat × Option Int) := [(1, some 2), (1, some 3), (1, some 4), (1, some 5), (1, some 6), (1, some 7), (94, none), (95, none), (96, none), (97, none), (98, none)]
theorem w_X5_readBounds_1 {v2 : Int} {v3 : Int} {v4 : Int} {M0 M : bM} (hF : b_fr W_X5_readBounds_1 M0 M) : b_wl (F_X5_readBounds_1 v2 v3 v4 M) (fun o : Int × bM => b_fr W_X5_readBounds_1 M0 o.2) := by
  unfold F_X5_readBounds_1
  refine b_wl_b (w_X5_readLines_1 b_fr_refl) (fun o ho => ?_)
  refine b_wl_two ?_
  replace hF := b_fr_tr hF (b_fr_mo (by decide +kernel) ho)
  refine b_wl_i (fun c3 => ?_) (fun c3 => ?_)
  · exact b_wl_s hF
  · refine b_wl_b b_wl_any (fun o _ => ?_)
    refine b_wl_i (fun c5 => ?_) (fun c5 => ?_)
    · exact b_wl_s hF
    · refine b_wl_g (fun hg => ?_)
      refine b_wl_lS (c := 97) hF (by decide +kernel) (fun hF => ?_)
      refine b_wl_g (fun hg => ?_)
      refine b_wl_lA (c := 94) hF (by decide +kernel) (fun hF => ?_)
      refine b_wl_g (fun hg => ?_)
      refine b_wl_lA (c := 95) hF (by decide +kernel) (fun hF => ?_)
      refine b_wl_g (fun hg => ?_)
      refine b_wl_lA (c := 96) hF (by decide +kernel) (fun hF => ?_)
      exact b_wl_s hF
def W_X11_bounds : List (Nat × Option Int) := [(1, some 1), (1, some 2), (1, some 3), (1, some 4), (1, some 5), (1, some 6), (1, some 7), (94, none), (95, none), (96, none), (97, none), (98, none)]
theorem w_X11_bounds_b51 {v4 : Int} {M0 M : bM} (hF : b_fr W_X11_bounds M0 M) : b_wl (F_X11_bounds_b51 v4 M) (fun o : Int × bM => b_fr W_X11_bounds M0 o.2) := by
  unfold F_X11_bounds_b51
  refine b_wl_b (w_X10_clear b_fr_refl) (fun o ho => ?_)
  replace hF := b_fr_tr hF (b_fr_mo (by decide +kernel) ho)
  exact b_wl_s hF
theorem w_X11_bounds {v1 : Int} {v2 : Int} {v3 : Int} {M0 M : bM} (hF : b_fr W_X11_bounds M0 M) : b_wl (F_X11_bounds v1 v2 v3 M) (fun o : Int × bM => b_fr W_X11_bounds M0 o.2) := by
  unfold F_X11_bounds
  refine b_wl_b b_wl_any (fun o _ => ?_)
  refine b_wl_i (fun c2 => ?_) (fun c2 => ?_)
  · exact w_X11_bounds_b51 hF
  · refine b_wl_i (fun c4 => ?_) (fun c4 => ?_)
    · exact w_X11_bounds_b51 hF
    · refine b_wl_i (fun c5 => ?_) (fun c5 => ?_)
      · exact w_X11_bounds_b51 hF
      · refine b_wl_i (fun c6 => ?_) (fun c6 => ?_)
        · exact w_X11_bounds_b51 hF
        · refine b_wl_i (fun c7 => ?_) (fun c7 => ?_)
          · exact w_X11_bounds_b51 hF
          · refine b_wl_b (w_X5_readBounds_1 b_fr_refl) (fun o ho => ?_)
            refine b_wl_two ?_
            replace hF := b_fr_tr hF (b_fr_mo (by decide +kernel) ho)
            exact w_X11_bounds_b51 hF
def W_X5_changeLine : List (Nat × Option Int) := [(97, none)]
theorem w_X5_changeLine_b35 {u1 : Int} {u2 : Int} {u3 : Int} {M0 M : bM} (hF : b_fr W_X5_changeLine M0 M) : b_wl (F_X5_changeLine_b35 u1 u2 u3 M) (fun o : bM => b_fr W_X5_changeLine M0 o) := by
  unfold F_X5_changeLine_b35
  refine b_wl_g (fun hg => ?_)
  refine b_wl_lA (c := 97) hF (by decide +kernel) (fun hF => ?_)
  exact b_wl_s hF
theorem w_X5_changeLine {v1 : Int} {v2 : Int} {v3 : Int} {v4 : Int} {M0 M : bM} (hF : b_fr W_X5_changeLine M0 M) : b_wl (F_X5_changeLine v1 v2 v3 v4 M) (fun o : bM => b_fr W_X5_changeLine M0 o) := by
  unfold F_X5_changeLine
  refine b_wl_i (fun c1 => ?_) (fun c1 => ?_)
  · exact b_wl_s hF
  · refine b_wl_g (fun hg => ?_)
    refine b_wl_b b_wl_any (fun o _ => ?_)
    refine b_wl_i (fun c6 => ?_) (fun c6 => ?_)
    · refine b_wl_g (fun hg => ?_)
      exact w_X5_changeLine_b35 hF
    · exact w_X5_changeLine_b35 hF
def W_X5_closeBounds : List (Nat × Option Int) := [(97, none)]
theorem w_X5_closeBounds_b54 {v1 : Int} {v2 : Int} {v3 : Int} {v4 : Int} {v5 : Int} {M0 M : bM} (hF : b_fr W_X5_closeBounds M0 M) : b_wl (F_X5_closeBounds_b54 v1 v2 v3 v4 v5 M) (fun o : Int × bM => b_fr W_X5_closeBounds M0 o.2) := by
  unfold F_X5_closeBounds_b54
  refine b_wl_b (w_X5_changeLine b_fr_refl) (fun o ho => ?_)
  replace hF := b_fr_tr hF (b_fr_mo (by decide +kernel) ho)
  refine b_wl_b (w_X5_changeLine b_fr_refl) (fun o ho => ?_)
  replace hF := b_fr_tr hF (b_fr_mo (by decide +kernel) ho)
  refine b_wl_g (fun hg => ?_)
  exact b_wl_s hF
theorem w_X5_closeBounds_b42 {v1 : Int} {v2 : Int} {v3 : Int} {v4 : Int} {v5 : Int} {M0 M : bM} (hF : b_fr W_X5_closeBounds M0 M) : b_wl (F_X5_closeBounds_b42 v1 v2 v3 v4 v5 M) (fun o : Int × bM => b_fr W_X5_closeBounds M0 o.2) := by
  unfold F_X5_closeBounds_b42
  refine b_wl_i (fun c6 => ?_) (fun c6 => ?_)
  · exact w_X5_closeBounds_b54 hF
  · refine b_wl_i (fun c12 => ?_) (fun c12 => ?_)
    · exact b_wl_s hF
    · exact w_X5_closeBounds_b54 hF
theorem w_X5_closeBounds {v1 : Int} {M0 M : bM} (hF : b_fr W_X5_closeBounds M0 M) : b_wl (F_X5_closeBounds v1 M) (fun o : Int × bM => b_fr W_X5_closeBounds M0 o.2) := by
  unfold F_X5_closeBounds
  refine b_wl_b b_wl_any (fun o _ => ?_)
  refine b_wl_b b_wl_any (fun o _ => ?_)
  refine b_wl_b b_wl_any (fun o _ => ?_)
  refine b_wl_b b_wl_any (fun o _ => ?_)
  refine b_wl_i (fun c5 => ?_) (fun c5 => ?_)
  · exact w_X5_closeBounds_b42 hF
  · refine b_wl_i (fun c13 => ?_) (fun c13 => ?_)
    · exact b_wl_s hF
    · exact w_X5_closeBounds_b42 hF
def W_X11_mend : List (Nat × Option Int) := [(97, none)]
theorem w_X11_mend {v1 : Int} {M0 M : bM} (hF : b_fr W_X11_mend M0 M) : b_wl (F_X11_mend v1 M) (fun o : Int × bM => b_fr W_X11_mend M0 o.2) := by
  unfold F_X11_mend
  refine b_wl_b b_wl_any (fun o _ => ?_)
  refine b_wl_i (fun c2 => ?_) (fun c2 => ?_)
  · refine b_wl_b (w_X5_closeBounds b_fr_refl) (fun o ho => ?_)
    refine b_wl_two ?_
    replace hF := b_fr_tr hF (b_fr_mo (by decide +kernel) ho)
    exact b_wl_s hF
  · exact b_wl_s hF
def W_X5_trace_100_101 : List (Nat × Option Int) := [(100, none), (101, none)]
theorem w_X5_trace_100_101_b124 {v1 : Int} {v4 : Int} {u1 : Int} {u2 : Int} {u3 : Int} {M0 M : bM} (hF : b_fr W_X5_trace_100_101 M0 M) : b_wl (F_X5_trace_100_101_b124 v1 v4 u1 u2 u3 M) (Sum.elim (fun t : Int × bM => b_fr W_X5_trace_100_101 M0 t.2) (fun t : bM => b_fr W_X5_trace_100_101 M0 t)) := by
  unfold F_X5_trace_100_101_b124
  refine b_wl_g (fun hg => ?_)
  refine b_wl_lA (c := 101) hF (by decide +kernel) (fun hF => ?_)
  refine b_wl_g (fun hg => ?_)
  exact b_wl_s hF
theorem w_X5_trace_100_101_b90 {v1 : Int} {v4 : Int} {v5 : Int} {v6 : Int} {u1 : Int} {u2 : Int} {u3 : Int} {M0 M : bM} (hF : b_fr W_X5_trace_100_101 M0 M) : b_wl (F_X5_trace_100_101_b90 v1 v4 v5 v6 u1 u2 u3 M) (Sum.elim (fun t : Int × bM => b_fr W_X5_trace_100_101 M0 t.2) (fun t : bM => b_fr W_X5_trace_100_101 M0 t)) := by
  unfold F_X5_trace_100_101_b90
  refine b_wl_g (fun hg => ?_)
  refine b_wl_lA (c := 100) hF (by decide +kernel) (fun hF => ?_)
  refine b_wl_g (fun hg => ?_)
  refine b_wl_i (fun c19 => ?_) (fun c19 => ?_)
  · exact w_X5_trace_100_101_b124 hF
  · refine b_wl_i (fun c20 => ?_) (fun c20 => ?_)
    · refine b_wl_g (fun hg => ?_)
      exact w_X5_trace_100_101_b124 hF
    · exact w_X5_trace_100_101_b124 hF
theorem w_X5_trace_100_101_s21 {v1 : Int} {v4 : Int} {M0 M : bM} (hF : b_fr W_X5_trace_100_101 M0 M) : b_wl (F_X5_trace_100_101_s21 v1 v4 M) (Sum.elim (fun t : Int × bM => b_fr W_X5_trace_100_101 M0 t.2) (fun t : bM => b_fr W_X5_trace_100_101 M0 t)) := by
  unfold F_X5_trace_100_101_s21
  refine b_wl_g (fun hg => ?_)
  refine b_wl_i (fun c6 => ?_) (fun c6 => ?_)
  · exact b_wl_s hF
  · refine b_wl_i (fun c7 => ?_) (fun c7 => ?_)
    · exact b_wl_s hF
    · refine b_wl_b b_wl_any (fun o _ => ?_)
      refine b_wl_b b_wl_any (fun o _ => ?_)
      refine b_wl_g (fun hg => ?_)
      refine b_wl_i (fun c12 => ?_) (fun c12 => ?_)
      · exact w_X5_trace_100_101_b90 hF
      · refine b_wl_i (fun c13 => ?_) (fun c13 => ?_)
        · refine b_wl_g (fun hg => ?_)
          exact w_X5_trace_100_101_b90 hF
        · exact w_X5_trace_100_101_b90 hF
theorem w_X5_trace_100_101_b132 {M0 M : bM} (hF : b_fr W_X5_trace_100_101 M0 M) : b_wl (F_X5_trace_100_101_b132 M) (fun o : bM => b_fr W_X5_trace_100_101 M0 o) := by
  unfold F_X5_trace_100_101_b132
  exact b_wl_s hF
theorem w_X5_trace_100_101 {v1 : Int} {M0 M : bM} (hF : b_fr W_X5_trace_100_101 M0 M) : b_wl (F_X5_trace_100_101 v1 M) (fun o : bM => b_fr W_X5_trace_100_101 M0 o) := by
  unfold F_X5_trace_100_101
  refine b_wl_g (fun hg => ?_)
  refine b_wl_lA (c := 100) hF (by decide +kernel) (fun hF => ?_)
  refine b_wl_g (fun hg => ?_)
  refine b_wl_lA (c := 101) hF (by decide +kernel) (fun hF => ?_)
  refine b_wl_b (b_wl_loop (A := (fun t : Int × bM => b_fr W_X5_trace_100_101 M0 t.2)) (fun t ht => w_X5_trace_100_101_s21 ht) hF) (fun t ht => ?_)
  replace hF : b_fr W_X5_trace_100_101 M0 t := ht
  exact w_X5_trace_100_101_b132 hF
def W_X5_enclose : List (Nat × Option Int) := [(100, none), (101, none)]
theorem w_X5_enclose_b119 {v1 : Int} {v2 : Int} {v3 : Int} {v5 : Int} {M0 M : bM} (hF : b_fr W_X5_enclose M0 M) : b_wl (F_X5_enclose_b119 v1 v2 v3 v5 M) (Sum.elim (fun _ : Int => True) (Sum.elim (fun _ : Unit => True) (Sum.elim (fun _ : Int => True) (Sum.elim (fun _ : Unit => True) (fun o : Int × bM => b_fr W_X5_enclose M0 o.2))))) := by
  unfold F_X5_enclose_b119
  refine b_wl_b b_wl_any (fun o _ => ?_)
  refine b_wl_i (fun c19 => ?_) (fun c19 => ?_)
  · refine b_wl_g (fun hg => ?_)
    exact b_wl_s trivial
  · exact b_wl_s hF
theorem w_X5_enclose_s101 {v1 : Int} {v2 : Int} {v3 : Int} {v5 : Int} {M0 M : bM} (hF : b_fr W_X5_enclose M0 M) : b_wl (F_X5_enclose_s101 v1 v2 v3 v5 M) (Sum.elim (fun _ : Int => True) (Sum.elim (fun _ : Unit => True) (Sum.elim (fun _ : Int => True) (Sum.elim (fun _ : Unit => True) (fun o : Int × bM => b_fr W_X5_enclose M0 o.2))))) := by
  unfold F_X5_enclose_s101
  refine b_wl_i (fun c16 => ?_) (fun c16 => ?_)
  · exact b_wl_s trivial
  · refine b_wl_i (fun c17 => ?_) (fun c17 => ?_)
    · exact w_X5_enclose_b119 hF
    · refine b_wl_g (fun hg => ?_)
      refine b_wl_i (fun c22 => ?_) (fun c22 => ?_)
      · refine b_wl_g (fun hg => ?_)
        exact b_wl_s trivial
      · exact w_X5_enclose_b119 hF
theorem w_X5_enclose_b137 {v1 : Int} {v2 : Int} {v3 : Int} {M0 M : bM} (hF : b_fr W_X5_enclose M0 M) : b_wl (F_X5_enclose_b137 v1 v2 v3 M) (Sum.elim (fun _ : Int => True) (Sum.elim (fun _ : Unit => True) (fun o : Int × bM => b_fr W_X5_enclose M0 o.2))) := by
  unfold F_X5_enclose_b137
  refine b_wl_g (fun hg => ?_)
  exact b_wl_s trivial
theorem w_X5_enclose_b72 {v1 : Int} {v2 : Int} {v3 : Int} {u0 : Int} {M0 M : bM} (hF : b_fr W_X5_enclose M0 M) : b_wl (F_X5_enclose_b72 v1 v2 v3 u0 M) (Sum.elim (fun _ : Int => True) (Sum.elim (fun _ : Unit => True) (fun o : Int × bM => b_fr W_X5_enclose M0 o.2))) := by
  unfold F_X5_enclose_b72
  refine b_wl_b b_wl_any (fun o _ => ?_)
  refine b_wl_b b_wl_any (fun o _ => ?_)
  refine b_wl_i (fun c14 => ?_) (fun c14 => ?_)
  · exact b_wl_s hF
  · refine b_wl_g (fun hg => ?_)
    refine b_wl_b (b_wl_loop (A := (fun _ : Int => True)) (fun t ht => w_X5_enclose_s101 hF) trivial) (fun t ht => ?_)
    cases t with
    | inr o => exact b_wl_s ht
    | inl t =>
      refine b_wl_inl ?_
      exact w_X5_enclose_b137 hF
theorem w_X5_enclose_s53 {v1 : Int} {v2 : Int} {v3 : Int} {M0 M : bM} (hF : b_fr W_X5_enclose M0 M) : b_wl (F_X5_enclose_s53 v1 v2 v3 M) (Sum.elim (fun _ : Int => True) (Sum.elim (fun _ : Unit => True) (fun o : Int × bM => b_fr W_X5_enclose M0 o.2))) := by
  unfold F_X5_enclose_s53
  refine b_wl_i (fun c9 => ?_) (fun c9 => ?_)
  · exact b_wl_s trivial
  · refine b_wl_g (fun hg => ?_)
    refine b_wl_i (fun c11 => ?_) (fun c11 => ?_)
    · exact w_X5_enclose_b72 hF
    · refine b_wl_g (fun hg => ?_)
      exact w_X5_enclose_b72 hF
theorem w_X5_enclose_b143 {M0 M : bM} (hF : b_fr W_X5_enclose M0 M) : b_wl (F_X5_enclose_b143 M) (fun o : Int × bM => b_fr W_X5_enclose M0 o.2) := by
  unfold F_X5_enclose_b143
  exact b_wl_s hF
theorem w_X5_enclose {v1 : Int} {M0 M : bM} (hF : b_fr W_X5_enclose M0 M) : b_wl (F_X5_enclose v1 M) (fun o : Int × bM => b_fr W_X5_enclose M0 o.2) := by
  unfold F_X5_enclose
  refine b_wl_g (fun hg => ?_)
  refine b_wl_i (fun c2 => ?_) (fun c2 => ?_)
  · exact b_wl_s hF
  · refine b_wl_i (fun c3 => ?_) (fun c3 => ?_)
    · exact b_wl_s hF
    · refine b_wl_b b_wl_any (fun o _ => ?_)
      refine b_wl_i (fun c5 => ?_) (fun c5 => ?_)
      · refine b_wl_b b_wl_any (fun o _ => ?_)
        refine b_wl_i (fun c7 => ?_) (fun c7 => ?_)
        · refine b_wl_b (w_X5_trace_100_101 b_fr_refl) (fun o ho => ?_)
          replace hF := b_fr_tr hF (b_fr_mo (by decide +kernel) ho)
          refine b_wl_b (b_wl_loop (A := (fun _ : Int => True)) (fun t ht => w_X5_enclose_s53 hF) trivial) (fun t ht => ?_)
          cases t with
          | inr o => exact b_wl_s ht
          | inl t =>
            refine b_wl_inl ?_
            exact w_X5_enclose_b143 hF
        · exact b_wl_s hF
      · exact b_wl_s hF
def W_X5_trace_102_103 : List (Nat × Option Int) := [(102, none), (103, none)]
theorem w_X5_trace_102_103_b124 {v1 : Int} {v4 : Int} {u1 : Int} {u2 : Int} {u3 : Int} {M0 M : bM} (hF : b_fr W_X5_trace_102_103 M0 M) : b_wl (F_X5_trace_102_103_b124 v1 v4 u1 u2 u3 M) (Sum.elim (fun t : Int × bM => b_fr W_X5_trace_102_103 M0 t.2) (fun t : bM => b_fr W_X5_trace_102_103 M0 t)) := by
  unfold F_X5_trace_102_103_b124
  refine b_wl_g (fun hg => ?_)
  refine b_wl_lA (c := 103) hF (by decide +kernel) (fun hF => ?_)
  refine b_wl_g (fun hg => ?_)
  exact b_wl_s hF
theorem w_X5_trace_102_103_b90 {v1 : Int} {v4 : Int} {v5 : Int} {v6 : Int} {u1 : Int} {u2 : Int} {u3 : Int} {M0 M : bM} (hF : b_fr W_X5_trace_102_103 M0 M) : b_wl (F_X5_trace_102_103_b90 v1 v4 v5 v6 u1 u2 u3 M) (Sum.elim (fun t : Int × bM => b_fr W_X5_trace_102_103 M0 t.2) (fun t : bM => b_fr W_X5_trace_102_103 M0 t)) := by
  unfold F_X5_trace_102_103_b90
  refine b_wl_g (fun hg => ?_)
  refine b_wl_lA (c := 102) hF (by decide +kernel) (fun hF => ?_)
  refine b_wl_g (fun hg => ?_)
  refine b_wl_i (fun c19 => ?_) (fun c19 => ?_)
  · exact w_X5_trace_102_103_b124 hF
  · refine b_wl_i (fun c20 => ?_) (fun c20 => ?_)
    · refine b_wl_g (fun hg => ?_)
      exact w_X5_trace_102_103_b124 hF
    · exact w_X5_trace_102_103_b124 hF
theorem w_X5_trace_102_103_s21 {v1 : Int} {v4 : Int} {M0 M : bM} (hF : b_fr W_X5_trace_102_103 M0 M) : b_wl (F_X5_trace_102_103_s21 v1 v4 M) (Sum.elim (fun t : Int × bM => b_fr W_X5_trace_102_103 M0 t.2) (fun t : bM => b_fr W_X5_trace_102_103 M0 t)) := by
  unfold F_X5_trace_102_103_s21
  refine b_wl_g (fun hg => ?_)
  refine b_wl_i (fun c6 => ?_) (fun c6 => ?_)
  · exact b_wl_s hF
  · refine b_wl_i (fun c7 => ?_) (fun c7 => ?_)
    · exact b_wl_s hF
    · refine b_wl_b b_wl_any (fun o _ => ?_)
      refine b_wl_b b_wl_any (fun o _ => ?_)
      refine b_wl_g (fun hg => ?_)
      refine b_wl_i (fun c12 => ?_) (fun c12 => ?_)
      · exact w_X5_trace_102_103_b90 hF
      · refine b_wl_i (fun c13 => ?_) (fun c13 => ?_)
        · refine b_wl_g (fun hg => ?_)
          exact w_X5_trace_102_103_b90 hF
        · exact w_X5_trace_102_103_b90 hF
theorem w_X5_trace_102_103_b132 {M0 M : bM} (hF : b_fr W_X5_trace_102_103 M0 M) : b_wl (F_X5_trace_102_103_b132 M) (fun o : bM => b_fr W_X5_trace_102_103 M0 o) := by
  unfold F_X5_trace_102_103_b132
  exact b_wl_s hF
theorem w_X5_trace_102_103 {v1 : Int} {M0 M : bM} (hF : b_fr W_X5_trace_102_103 M0 M) : b_wl (F_X5_trace_102_103 v1 M) (fun o : bM => b_fr W_X5_trace_102_103 M0 o) := by
  unfold F_X5_trace_102_103
  refine b_wl_g (fun hg => ?_)
  refine b_wl_lA (c := 102) hF (by decide +kernel) (fun hF => ?_)
  refine b_wl_g (fun hg => ?_)
  refine b_wl_lA (c := 103) hF (by decide +kernel) (fun hF => ?_)
  refine b_wl_b (b_wl_loop (A := (fun t : Int × bM => b_fr W_X5_trace_102_103 M0 t.2)) (fun t ht => w_X5_trace_102_103_s21 ht) hF) (fun t ht => ?_)
  replace hF : b_fr W_X5_trace_102_103 M0 t := ht
  exact w_X5_trace_102_103_b132 hF
def W_X5_within : List (Nat × Option Int) := [(100, none), (101, none), (102, none), (103, none)]
theorem w_X5_within_b160 {v1 : Int} {v2 : Int} {v4 : Int} {v5 : Int} {u0 : Int} {u1 : Int} {M0 M : bM} (hF : b_fr W_X5_within M0 M) : b_wl (F_X5_within_b160 v1 v2 v4 v5 u0 u1 M) (Sum.elim (fun _ : Int × Int => True) (fun _ : Int => True)) := by
  unfold F_X5_within_b160
  refine b_wl_g (fun hg => ?_)
  exact b_wl_s trivial
theorem w_X5_within_s52 {v1 : Int} {v2 : Int} {v3 : Int} {v4 : Int} {v5 : Int} {M0 M : bM} (hF : b_fr W_X5_within M0 M) : b_wl (F_X5_within_s52 v1 v2 v3 v4 v5 M) (Sum.elim (fun _ : Int × Int => True) (fun _ : Int => True)) := by
  unfold F_X5_within_s52
  refine b_wl_g (fun hg => ?_)
  refine b_wl_i (fun c7 => ?_) (fun c7 => ?_)
  · exact b_wl_s trivial
  · refine b_wl_i (fun c8 => ?_) (fun c8 => ?_)
    · exact b_wl_s trivial
    · refine b_wl_g (fun hg => ?_)
      refine b_wl_b b_wl_any (fun o _ => ?_)
      refine b_wl_i (fun c16 => ?_) (fun c16 => ?_)
      · refine b_wl_g (fun hg => ?_)
        exact b_wl_s trivial
      · refine b_wl_g (fun hg => ?_)
        refine b_wl_l ?_
        refine b_wl_b b_wl_any (fun o _ => ?_)
        refine b_wl_b b_wl_any (fun o _ => ?_)
        refine b_wl_i (fun c24 => ?_) (fun c24 => ?_)
        · exact w_X5_within_b160 hF
        · refine b_wl_g (fun hg => ?_)
          exact w_X5_within_b160 hF
theorem w_X5_within_b168 {v1 : Int} {v2 : Int} {v3 : Int} {v4 : Int} {M0 M : bM} (hF : b_fr W_X5_within M0 M) : b_wl (F_X5_within_b168 v1 v2 v3 v4 M) (Sum.elim (fun _ : Int × Int => True) (fun _ : Int => True)) := by
  unfold F_X5_within_b168
  refine b_wl_g (fun hg => ?_)
  exact b_wl_s trivial
theorem w_X5_within_s31 {v1 : Int} {v2 : Int} {v3 : Int} {v4 : Int} {M0 M : bM} (hF : b_fr W_X5_within M0 M) : b_wl (F_X5_within_s31 v1 v2 v3 v4 M) (Sum.elim (fun _ : Int × Int => True) (fun _ : Int => True)) := by
  unfold F_X5_within_s31
  refine b_wl_g (fun hg => ?_)
  refine b_wl_i (fun c4 => ?_) (fun c4 => ?_)
  · exact b_wl_s trivial
  · refine b_wl_i (fun c5 => ?_) (fun c5 => ?_)
    · exact b_wl_s trivial
    · refine b_wl_b (b_wl_loop (A := (fun _ : Int × Int => True)) (fun t ht => w_X5_within_s52 hF) trivial) (fun t ht => ?_)
      exact w_X5_within_b168 hF
theorem w_X5_within_b174 {v3 : Int} {M0 M : bM} (hF : b_fr W_X5_within M0 M) : b_wl (F_X5_within_b174 v3 M) (fun o : Int × bM => b_fr W_X5_within M0 o.2) := by
  unfold F_X5_within_b174
  refine b_wl_g (fun hg => ?_)
  exact b_wl_s hF
theorem w_X5_within {v1 : Int} {v2 : Int} {M0 M : bM} (hF : b_fr W_X5_within M0 M) : b_wl (F_X5_within v1 v2 M) (fun o : Int × bM => b_fr W_X5_within M0 o.2) := by
  unfold F_X5_within
  refine b_wl_b (w_X5_trace_100_101 b_fr_refl) (fun o ho => ?_)
  replace hF := b_fr_tr hF (b_fr_mo (by decide +kernel) ho)
  refine b_wl_b (w_X5_trace_102_103 b_fr_refl) (fun o ho => ?_)
  replace hF := b_fr_tr hF (b_fr_mo (by decide +kernel) ho)
  refine b_wl_b (b_wl_loop (A := (fun _ : Int × Int => True)) (fun t ht => w_X5_within_s31 hF) trivial) (fun t ht => ?_)
  exact w_X5_within_b174 hF
def W_X11_area : List (Nat × Option Int) := [(100, none), (101, none), (102, none), (103, none)]
theorem w_X11_area {v1 : Int} {M0 M : bM} (hF : b_fr W_X11_area M0 M) : b_wl (F_X11_area v1 M) (fun o : Int × bM => b_fr W_X11_area M0 o.2) := by
  unfold F_X11_area
  refine b_wl_b b_wl_any (fun o _ => ?_)
  refine b_wl_i (fun c2 => ?_) (fun c2 => ?_)
  · refine b_wl_b (w_X5_enclose b_fr_refl) (fun o ho => ?_)
    refine b_wl_two ?_
    replace hF := b_fr_tr hF (b_fr_mo (by decide +kernel) ho)
    refine b_wl_i (fun c5 => ?_) (fun c5 => ?_)
    · exact b_wl_s hF
    · refine b_wl_b (w_X5_within b_fr_refl) (fun o ho => ?_)
      refine b_wl_two ?_
      replace hF := b_fr_tr hF (b_fr_mo (by decide +kernel) ho)
      exact b_wl_s hF
  · exact b_wl_s hF
def W_X11_strip : List (Nat × Option Int) := [(100, none), (101, none), (102, none), (103, none)]
theorem w_X11_strip {v1 : Int} {v2 : Int} {M0 M : bM} (hF : b_fr W_X11_strip M0 M) : b_wl (F_X11_strip v1 v2 M) (fun o : Int × bM => b_fr W_X11_strip M0 o.2) := by
  unfold F_X11_strip
  refine b_wl_b b_wl_any (fun o _ => ?_)
  refine b_wl_i (fun c2 => ?_) (fun c2 => ?_)
  · exact b_wl_s hF
  · refine b_wl_b b_wl_any (fun o _ => ?_)
    refine b_wl_i (fun c4 => ?_) (fun c4 => ?_)
    · exact b_wl_s hF
    · refine b_wl_i (fun c5 => ?_) (fun c5 => ?_)
      · exact b_wl_s hF
      · refine b_wl_g (fun hg => ?_)
        refine b_wl_i (fun c7 => ?_) (fun c7 => ?_)
        · exact b_wl_s hF
        · refine b_wl_g (fun hg => ?_)
          refine b_wl_i (fun c9 => ?_) (fun c9 => ?_)
          · exact b_wl_s hF
          · refine b_wl_b (w_X5_enclose b_fr_refl) (fun o ho => ?_)
            refine b_wl_two ?_
            replace hF := b_fr_tr hF (b_fr_mo (by decide +kernel) ho)
            refine b_wl_i (fun c12 => ?_) (fun c12 => ?_)
            · exact b_wl_s hF
            · refine b_wl_b (w_X5_enclose b_fr_refl) (fun o ho => ?_)
              refine b_wl_two ?_
              replace hF := b_fr_tr hF (b_fr_mo (by decide +kernel) ho)
              refine b_wl_i (fun c15 => ?_) (fun c15 => ?_)
              · exact b_wl_s hF
              · refine b_wl_b (w_X5_within b_fr_refl) (fun o ho => ?_)
                refine b_wl_two ?_
                replace hF := b_fr_tr hF (b_fr_mo (by decide +kernel) ho)
                exact b_wl_s hF
def W_X0_reset_a : List (Nat × Option Int) := [(12, none), (13, none), (14, none), (15, none), (16, none), (17, none), (18, none), (19, none), (20, none), (21, none), (22, none), (23, none), (24, none), (25, none), (26, none), (27, none), (28, none), (29, none), (30, none), (31, none)]
theorem w_X0_reset_a {v0 : Nat} {M0 M : bM} (hF : b_fr W_X0_reset_a M0 M) : b_wl (F_X0_reset_a v0 M) (fun o : bM => b_fr W_X0_reset_a M0 o) := by
  unfold F_X0_reset_a
  refine b_wl_g (fun hg => ?_)
  obtain ⟨g1, g2⟩ := hg
  refine b_wl_lSa (off := 10) hF g1 (by decide +kernel) (fun hF => ?_)
  refine b_wl_lU0 hF g1 (by decide +kernel) (fun hF => ?_)
  exact b_wl_s hF
def W_X1_isNumber : List (Nat × Option Int) := [(1, some 5), (1, some 6)]
theorem w_X1_isNumber_b47 {u0 : Int} {M0 M : bM} (hF : b_fr W_X1_isNumber M0 M) : b_wl (F_X1_isNumber_b47 u0 M) (fun o : Int × bM => b_fr W_X1_isNumber M0 o.2) := by
  unfold F_X1_isNumber_b47
  refine b_wl_i (fun c4 => ?_) (fun c4 => ?_)
  · refine b_wl_b (w_X10_wrong b_fr_refl) (fun o ho => ?_)
    refine b_wl_two ?_
    replace hF := b_fr_tr hF (b_fr_mo (by decide +kernel) ho)
    refine b_wl_i (fun c7 => ?_) (fun c7 => ?_)
    · exact b_wl_s hF
    · exact b_wl_s hF
  · exact b_wl_s hF
theorem w_X1_isNumber_b46 {M0 M : bM} (hF : b_fr W_X1_isNumber M0 M) : b_wl (F_X1_isNumber_b46 M) (fun o : Int × bM => b_fr W_X1_isNumber M0 o.2) := by
  unfold F_X1_isNumber_b46
  exact w_X1_isNumber_b47 hF
theorem w_X1_isNumber {v1 : Int} {v2 : Int} {M0 M : bM} (hF : b_fr W_X1_isNumber M0 M) : b_wl (F_X1_isNumber v1 v2 M) (fun o : Int × bM => b_fr W_X1_isNumber M0 o.2) := by
  unfold F_X1_isNumber
  refine b_wl_i (fun c1 => ?_) (fun c1 => ?_)
  · refine b_wl_b b_wl_any (fun o _ => ?_)
    refine b_wl_i (fun c3 => ?_) (fun c3 => ?_)
    · exact w_X1_isNumber_b46 hF
    · refine b_wl_b b_wl_any (fun o _ => ?_)
      refine b_wl_i (fun c9 => ?_) (fun c9 => ?_)
      · exact w_X1_isNumber_b46 hF
      · exact w_X1_isNumber_b47 hF
  · refine b_wl_b (w_X10_wrong b_fr_refl) (fun o ho => ?_)
    refine b_wl_two ?_
    replace hF := b_fr_tr hF (b_fr_mo (by decide +kernel) ho)
    refine b_wl_g (fun hg => ?_)
    exact b_wl_s hF
def W_X0_tell_a : List (Nat × Option Int) := [(22, none), (23, none), (24, none), (25, none), (26, none), (27, none), (28, none), (29, none), (30, none), (31, none)]
theorem w_X0_tell_a {v0 : Nat} {v1 : Int} {v2 : Int} {M0 M : bM} (hF : b_fr W_X0_tell_a M0 M) : b_wl (F_X0_tell_a v0 v1 v2 M) (fun o : bM => b_fr W_X0_tell_a M0 o) := by
  unfold F_X0_tell_a
  refine b_wl_i (fun c1 => ?_) (fun c1 => ?_)
  · exact b_wl_s hF
  · refine b_wl_i (fun c2 => ?_) (fun c2 => ?_)
    · exact b_wl_s hF
    · refine b_wl_g (fun hg => ?_)
      obtain ⟨g3, g4⟩ := hg
      refine b_wl_lUa (off := 10) hF g3 (by decide +kernel) (fun hF => ?_)
      exact b_wl_s hF
def W_X1_readRule : List (Nat × Option Int) := [(1, some 2), (1, some 3), (1, some 4), (1, some 5), (1, some 6), (1, some 7), (4, some 10), (22, none), (23, none), (24, none), (25, none), (26, none), (27, none), (28, none), (29, none), (30, none), (31, none)]
theorem w_X1_readRule {v1 : Int} {M0 M : bM} (hF : b_fr W_X1_readRule M0 M) : b_wl (F_X1_readRule v1 M) (fun o : Int × bM => b_fr W_X1_readRule M0 o.2) := by
  unfold F_X1_readRule
  refine b_wl_i (fun c1 => ?_) (fun c1 => ?_)
  · refine b_wl_b (w_X10_wrong b_fr_refl) (fun o ho => ?_)
    refine b_wl_two ?_
    replace hF := b_fr_tr hF (b_fr_mo (by decide +kernel) ho)
    refine b_wl_g (fun hg => ?_)
    exact b_wl_s hF
  · refine b_wl_i (fun c2 => ?_) (fun c2 => ?_)
    · refine b_wl_lF (c := 4) (i := 10) hF (by decide +kernel) (fun hF => ?_)
      refine b_wl_b (w_X10_step b_fr_refl) (fun o ho => ?_)
      replace hF := b_fr_tr hF (b_fr_mo (by decide +kernel) ho)
      refine b_wl_i (fun c5 => ?_) (fun c5 => ?_)
      · refine b_wl_g (fun hg => ?_)
        have g14 := hg
        refine b_wl_b (w_X0_tell_a b_fr_refl) (fun o ho => ?_)
        replace hF := b_fr_tr hF (b_fr_mo (by decide +kernel) ho)
        exact b_wl_s hF
      · refine b_wl_g (fun hg => ?_)
        refine b_wl_b (w_X1_isNumber b_fr_refl) (fun o ho => ?_)
        refine b_wl_two ?_
        replace hF := b_fr_tr hF (b_fr_mo (by decide +kernel) ho)
        refine b_wl_i (fun c9 => ?_) (fun c9 => ?_)
        · exact b_wl_s hF
        · refine b_wl_b b_wl_any (fun o _ => ?_)
          refine b_wl_g (fun hg => ?_)
          have g11 := hg
          refine b_wl_b (w_X0_tell_a b_fr_refl) (fun o ho => ?_)
          replace hF := b_fr_tr hF (b_fr_mo (by decide +kernel) ho)
          refine b_wl_b (w_X10_step b_fr_refl) (fun o ho => ?_)
          replace hF := b_fr_tr hF (b_fr_mo (by decide +kernel) ho)
          exact b_wl_s hF
    · refine b_wl_b (w_X10_wrong b_fr_refl) (fun o ho => ?_)
      refine b_wl_two ?_
      replace hF := b_fr_tr hF (b_fr_mo (by decide +kernel) ho)
      refine b_wl_g (fun hg => ?_)
      exact b_wl_s hF
def W_X0_addProof_a : List (Nat × Option Int) := [(12, none), (13, none), (14, none), (15, none), (16, none), (17, none), (18, none), (19, none), (20, none), (21, none), (32, none), (33, none), (34, none), (35, none), (36, none), (37, none), (38, none), (39, none), (40, none), (41, none), (52, none), (53, none), (54, none), (55, none), (56, none), (57, none), (58, none), (59, none), (60, none), (61, none)]
theorem w_X0_addProof_a {v0 : Nat} {v1 : Int} {v2 : Int} {v3 : Int} {M0 M : bM} (hF : b_fr W_X0_addProof_a M0 M) : b_wl (F_X0_addProof_a v0 v1 v2 v3 M) (fun o : bM => b_fr W_X0_addProof_a M0 o) := by
  unfold F_X0_addProof_a
  refine b_wl_g (fun hg => ?_)
  have g1 := hg
  refine b_wl_i (fun c2 => ?_) (fun c2 => ?_)
  · exact b_wl_s hF
  · refine b_wl_g (fun hg => ?_)
    refine b_wl_lUa (off := 20) hF g1 (by decide +kernel) (fun hF => ?_)
    refine b_wl_g (fun hg => ?_)
    refine b_wl_lU0 hF g1 (by decide +kernel) (fun hF => ?_)
    refine b_wl_g (fun hg => ?_)
    refine b_wl_lUa (off := 40) hF g1 (by decide +kernel) (fun hF => ?_)
    exact b_wl_s hF
def W_X1_emit : List (Nat × Option Int) := [(4, some 9), (108, none)]
theorem w_X1_emit {v1 : Int} {v2 : Int} {M0 M : bM} (hF : b_fr W_X1_emit M0 M) : b_wl (F_X1_emit v1 v2 M) (fun o : bM => b_fr W_X1_emit M0 o) := by
  unfold F_X1_emit
  refine b_wl_i (fun c1 => ?_) (fun c1 => ?_)
  · exact b_wl_s hF
  · refine b_wl_g (fun hg => ?_)
    refine b_wl_lA (c := 108) hF (by decide +kernel) (fun hF => ?_)
    refine b_wl_g (fun hg => ?_)
    refine b_wl_lF (c := 4) (i := 9) hF (by decide +kernel) (fun hF => ?_)
    exact b_wl_s hF
def W_X1_readSum : List (Nat × Option Int) := [(1, some 2), (1, some 3), (1, some 4), (1, some 5), (1, some 6), (1, some 7), (4, some 9), (108, none)]
theorem w_X1_readSum_b76 {v1 : Int} {M0 M : bM} (hF : b_fr W_X1_readSum M0 M) : b_wl (F_X1_readSum_b76 v1 M) (Sum.elim (fun t : Int × bM => b_fr W_X1_readSum M0 t.2) (Sum.elim (fun t : bM => b_fr W_X1_readSum M0 t) (fun o : Int × bM => b_fr W_X1_readSum M0 o.2))) := by
  unfold F_X1_readSum_b76
  refine b_wl_b (w_X10_step b_fr_refl) (fun o ho => ?_)
  replace hF := b_fr_tr hF (b_fr_mo (by decide +kernel) ho)
  refine b_wl_b b_wl_any (fun o _ => ?_)
  refine b_wl_i (fun c10 => ?_) (fun c10 => ?_)
  · exact b_wl_s hF
  · refine b_wl_b (w_X10_step b_fr_refl) (fun o ho => ?_)
    replace hF := b_fr_tr hF (b_fr_mo (by decide +kernel) ho)
    refine b_wl_g (fun hg => ?_)
    exact b_wl_s hF
theorem w_X1_readSum_b56 {v1 : Int} {u1 : Int} {M0 M : bM} (hF : b_fr W_X1_readSum M0 M) : b_wl (F_X1_readSum_b56 v1 u1 M) (Sum.elim (fun t : Int × bM => b_fr W_X1_readSum M0 t.2) (Sum.elim (fun t : bM => b_fr W_X1_readSum M0 t) (fun o : Int × bM => b_fr W_X1_readSum M0 o.2))) := by
  unfold F_X1_readSum_b56
  refine b_wl_b (w_X1_emit b_fr_refl) (fun o ho => ?_)
  replace hF := b_fr_tr hF (b_fr_mo (by decide +kernel) ho)
  refine b_wl_i (fun c7 => ?_) (fun c7 => ?_)
  · exact w_X1_readSum_b76 hF
  · refine b_wl_b (w_X1_emit b_fr_refl) (fun o ho => ?_)
    replace hF := b_fr_tr hF (b_fr_mo (by decide +kernel) ho)
    exact w_X1_readSum_b76 hF
theorem w_X1_readSum_s2 {v1 : Int} {M0 M : bM} (hF : b_fr W_X1_readSum M0 M) : b_wl (F_X1_readSum_s2 v1 M) (Sum.elim (fun t : Int × bM => b_fr W_X1_readSum M0 t.2) (Sum.elim (fun t : bM => b_fr W_X1_readSum M0 t) (fun o : Int × bM => b_fr W_X1_readSum M0 o.2))) := by
  unfold F_X1_readSum_s2
  refine b_wl_i (fun c1 => ?_) (fun c1 => ?_)
  · exact b_wl_s hF
  · refine b_wl_b b_wl_any (fun o _ => ?_)
    refine b_wl_i (fun c3 => ?_) (fun c3 => ?_)
    · refine b_wl_b (w_X10_wrong b_fr_refl) (fun o ho => ?_)
      refine b_wl_two ?_
      replace hF := b_fr_tr hF (b_fr_mo (by decide +kernel) ho)
      refine b_wl_g (fun hg => ?_)
      exact b_wl_s hF
    · refine b_wl_i (fun c4 => ?_) (fun c4 => ?_)
      · refine b_wl_i (fun c5 => ?_) (fun c5 => ?_)
        · exact w_X1_readSum_b56 hF
        · exact w_X1_readSum_b56 hF
      · refine b_wl_b (w_X10_wrong b_fr_refl) (fun o ho => ?_)
        refine b_wl_two ?_
        replace hF := b_fr_tr hF (b_fr_mo (by decide +kernel) ho)
        refine b_wl_g (fun hg => ?_)
        exact b_wl_s hF
theorem w_X1_readSum_b110 {M0 M : bM} (hF : b_fr W_X1_readSum M0 M) : b_wl (F_X1_readSum_b110 M) (fun o : Int × bM => b_fr W_X1_readSum M0 o.2) := by
  unfold F_X1_readSum_b110
  exact b_wl_s hF
theorem w_X1_readSum {M0 M : bM} (hF : b_fr W_X1_readSum M0 M) : b_wl (F_X1_readSum M) (fun o : Int × bM => b_fr W_X1_readSum M0 o.2) := by
  unfold F_X1_readSum
  refine b_wl_b (b_wl_loop (A := (fun t : Int × bM => b_fr W_X1_readSum M0 t.2)) (fun t ht => w_X1_readSum_s2 ht) hF) (fun t ht => ?_)
  cases t with
  | inr o => exact b_wl_s ht
  | inl t =>
    replace hF : b_fr W_X1_readSum M0 t := ht
    refine b_wl_inl ?_
    exact w_X1_readSum_b110 hF
def W_X1_readTest : List (Nat × Option Int) := [(1, some 2), (1, some 3), (1, some 4), (1, some 5), (1, some 6), (1, some 7), (4, some 9), (4, some 11), (108, none)]
theorem w_X1_readTest_b64 {M0 M : bM} (hF : b_fr W_X1_readTest M0 M) : b_wl (F_X1_readTest_b64 M) (fun o : Int × bM => b_fr W_X1_readTest M0 o.2) := by
  unfold F_X1_readTest_b64
  refine b_wl_b (w_X1_emit b_fr_refl) (fun o ho => ?_)
  replace hF := b_fr_tr hF (b_fr_mo (by decide +kernel) ho)
  exact b_wl_s hF
theorem w_X1_readTest_b25 {M0 M : bM} (hF : b_fr W_X1_readTest M0 M) : b_wl (F_X1_readTest_b25 M) (fun o : Int × bM => b_fr W_X1_readTest M0 o.2) := by
  unfold F_X1_readTest_b25
  refine b_wl_g (fun hg => ?_)
  refine b_wl_lF (c := 4) (i := 11) hF (by decide +kernel) (fun hF => ?_)
  refine b_wl_b (w_X1_readSum b_fr_refl) (fun o ho => ?_)
  refine b_wl_two ?_
  replace hF := b_fr_tr hF (b_fr_mo (by decide +kernel) ho)
  refine b_wl_i (fun c7 => ?_) (fun c7 => ?_)
  · exact b_wl_s hF
  · refine b_wl_b b_wl_any (fun o _ => ?_)
    refine b_wl_i (fun c9 => ?_) (fun c9 => ?_)
    · exact w_X1_readTest_b64 hF
    · refine b_wl_i (fun c11 => ?_) (fun c11 => ?_)
      · refine b_wl_b (w_X10_step b_fr_refl) (fun o ho => ?_)
        replace hF := b_fr_tr hF (b_fr_mo (by decide +kernel) ho)
        refine b_wl_b (w_X1_readSum b_fr_refl) (fun o ho => ?_)
        refine b_wl_two ?_
        replace hF := b_fr_tr hF (b_fr_mo (by decide +kernel) ho)
        refine b_wl_i (fun c15 => ?_) (fun c15 => ?_)
        · exact b_wl_s hF
        · refine b_wl_b (w_X1_emit b_fr_refl) (fun o ho => ?_)
          replace hF := b_fr_tr hF (b_fr_mo (by decide +kernel) ho)
          exact b_wl_s hF
      · exact w_X1_readTest_b64 hF
theorem w_X1_readTest {M0 M : bM} (hF : b_fr W_X1_readTest M0 M) : b_wl (F_X1_readTest M) (fun o : Int × bM => b_fr W_X1_readTest M0 o.2) := by
  unfold F_X1_readTest
  refine b_wl_b b_wl_any (fun o _ => ?_)
  refine b_wl_i (fun c2 => ?_) (fun c2 => ?_)
  · exact w_X1_readTest_b25 hF
  · refine b_wl_i (fun c17 => ?_) (fun c17 => ?_)
    · exact w_X1_readTest_b25 hF
    · refine b_wl_b (w_X10_wrong b_fr_refl) (fun o ho => ?_)
      refine b_wl_two ?_
      replace hF := b_fr_tr hF (b_fr_mo (by decide +kernel) ho)
      refine b_wl_g (fun hg => ?_)
      exact b_wl_s hF
def W_X1_settleOne : List (Nat × Option Int) := [(4, some 9), (108, none), (109, none)]
theorem w_X1_settleOne_b36 {v1 : Int} {M0 M : bM} (hF : b_fr W_X1_settleOne M0 M) : b_wl (F_X1_settleOne_b36 v1 M) (fun o : bM => b_fr W_X1_settleOne M0 o) := by
  unfold F_X1_settleOne_b36
  refine b_wl_g (fun hg => ?_)
  refine b_wl_lA (c := 109) hF (by decide +kernel) (fun hF => ?_)
  exact b_wl_s hF
theorem w_X1_settleOne_b18 {v1 : Int} {M0 M : bM} (hF : b_fr W_X1_settleOne M0 M) : b_wl (F_X1_settleOne_b18 v1 M) (fun o : bM => b_fr W_X1_settleOne M0 o) := by
  unfold F_X1_settleOne_b18
  refine b_wl_g (fun hg => ?_)
  refine b_wl_i (fun c4 => ?_) (fun c4 => ?_)
  · exact w_X1_settleOne_b36 hF
  · refine b_wl_b (w_X1_emit b_fr_refl) (fun o ho => ?_)
    replace hF := b_fr_tr hF (b_fr_mo (by decide +kernel) ho)
    exact w_X1_settleOne_b36 hF
theorem w_X1_settleOne {v1 : Int} {M0 M : bM} (hF : b_fr W_X1_settleOne M0 M) : b_wl (F_X1_settleOne v1 M) (fun o : bM => b_fr W_X1_settleOne M0 o) := by
  unfold F_X1_settleOne
  refine b_wl_g (fun hg => ?_)
  refine b_wl_i (fun c2 => ?_) (fun c2 => ?_)
  · exact w_X1_settleOne_b18 hF
  · refine b_wl_b (w_X1_emit b_fr_refl) (fun o ho => ?_)
    replace hF := b_fr_tr hF (b_fr_mo (by decide +kernel) ho)
    exact w_X1_settleOne_b18 hF
def W_X1_settleAll : List (Nat × Option Int) := [(4, some 9), (108, none)]
theorem w_X1_settleAll {v1 : Int} {M0 M : bM} (hF : b_fr W_X1_settleAll M0 M) : b_wl (F_X1_settleAll v1 M) (fun o : bM => b_fr W_X1_settleAll M0 o) := by
  unfold F_X1_settleAll
  refine b_wl_g (fun hg => ?_)
  refine b_wl_i (fun c2 => ?_) (fun c2 => ?_)
  · exact b_wl_s hF
  · refine b_wl_b (w_X1_emit b_fr_refl) (fun o ho => ?_)
    replace hF := b_fr_tr hF (b_fr_mo (by decide +kernel) ho)
    exact b_wl_s hF
def W_X1_closeLevels : List (Nat × Option Int) := [(1, some 2), (1, some 3), (1, some 4), (1, some 7), (4, some 9), (108, none), (109, none)]
theorem w_X1_closeLevels_s9 {v2 : Int} {v3 : Int} {M0 M : bM} (hF : b_fr W_X1_closeLevels M0 M) : b_wl (F_X1_closeLevels_s9 v2 v3 M) (Sum.elim (fun t : Int × Int × bM => b_fr W_X1_closeLevels M0 t.2.2) (fun t : Int × bM => b_fr W_X1_closeLevels M0 t.2)) := by
  unfold F_X1_closeLevels_s9
  refine b_wl_i (fun c2 => ?_) (fun c2 => ?_)
  · exact b_wl_s hF
  · refine b_wl_i (fun c3 => ?_) (fun c3 => ?_)
    · exact b_wl_s hF
    · refine b_wl_b b_wl_any (fun o _ => ?_)
      refine b_wl_i (fun c5 => ?_) (fun c5 => ?_)
      · exact b_wl_s hF
      · refine b_wl_b (w_X1_settleAll b_fr_refl) (fun o ho => ?_)
        replace hF := b_fr_tr hF (b_fr_mo (by decide +kernel) ho)
        refine b_wl_g (fun hg => ?_)
        refine b_wl_b (w_X1_settleOne b_fr_refl) (fun o ho => ?_)
        replace hF := b_fr_tr hF (b_fr_mo (by decide +kernel) ho)
        refine b_wl_b (w_X10_step b_fr_refl) (fun o ho => ?_)
        replace hF := b_fr_tr hF (b_fr_mo (by decide +kernel) ho)
        refine b_wl_g (fun hg => ?_)
        exact b_wl_s hF
theorem w_X1_closeLevels_b56 {v2 : Int} {M0 M : bM} (hF : b_fr W_X1_closeLevels M0 M) : b_wl (F_X1_closeLevels_b56 v2 M) (fun o : Int × bM => b_fr W_X1_closeLevels M0 o.2) := by
  unfold F_X1_closeLevels_b56
  exact b_wl_s hF
theorem w_X1_closeLevels {v1 : Int} {M0 M : bM} (hF : b_fr W_X1_closeLevels M0 M) : b_wl (F_X1_closeLevels v1 M) (fun o : Int × bM => b_fr W_X1_closeLevels M0 o.2) := by
  unfold F_X1_closeLevels
  refine b_wl_b (w_X1_settleOne b_fr_refl) (fun o ho => ?_)
  replace hF := b_fr_tr hF (b_fr_mo (by decide +kernel) ho)
  refine b_wl_b (b_wl_loop (A := (fun t : Int × Int × bM => b_fr W_X1_closeLevels M0 t.2.2)) (fun t ht => w_X1_closeLevels_s9 ht) hF) (fun t ht => ?_)
  replace hF : b_fr W_X1_closeLevels M0 t.2 := ht
  exact w_X1_closeLevels_b56 hF
def W_X1_goesOn : List (Nat × Option Int) := [(1, some 2), (1, some 3), (1, some 4), (1, some 7), (4, some 9), (108, none), (109, none)]
theorem w_X1_goesOn {v1 : Int} {M0 M : bM} (hF : b_fr W_X1_goesOn M0 M) : b_wl (F_X1_goesOn v1 M) (fun o : Int × bM => b_fr W_X1_goesOn M0 o.2) := by
  unfold F_X1_goesOn
  refine b_wl_b b_wl_any (fun o _ => ?_)
  refine b_wl_i (fun c2 => ?_) (fun c2 => ?_)
  · refine b_wl_b b_wl_any (fun o _ => ?_)
    refine b_wl_i (fun c4 => ?_) (fun c4 => ?_)
    · exact b_wl_s hF
    · refine b_wl_b (w_X1_settleAll b_fr_refl) (fun o ho => ?_)
      replace hF := b_fr_tr hF (b_fr_mo (by decide +kernel) ho)
      refine b_wl_g (fun hg => ?_)
      refine b_wl_lA (c := 109) hF (by decide +kernel) (fun hF => ?_)
      refine b_wl_b (w_X10_step b_fr_refl) (fun o ho => ?_)
      replace hF := b_fr_tr hF (b_fr_mo (by decide +kernel) ho)
      exact b_wl_s hF
  · refine b_wl_g (fun hg => ?_)
    refine b_wl_lA (c := 109) hF (by decide +kernel) (fun hF => ?_)
    refine b_wl_b (w_X10_step b_fr_refl) (fun o ho => ?_)
    replace hF := b_fr_tr hF (b_fr_mo (by decide +kernel) ho)
    exact b_wl_s hF
def W_X1_readCond : List (Nat × Option Int) := [(1, some 2), (1, some 3), (1, some 4), (1, some 5), (1, some 6), (1, some 7), (4, some 9), (4, some 11), (108, none), (109, none)]
theorem w_X1_readCond_s16 {v1 : Int} {v2 : Int} {M0 M : bM} (hF : b_fr W_X1_readCond M0 M) : b_wl (F_X1_readCond_s16 v1 v2 M) (Sum.elim (fun t : Int × Int × bM => b_fr W_X1_readCond M0 t.2.2) (Sum.elim (fun t : bM => b_fr W_X1_readCond M0 t) (fun o : Int × bM => b_fr W_X1_readCond M0 o.2))) := by
  unfold F_X1_readCond_s16
  refine b_wl_i (fun c3 => ?_) (fun c3 => ?_)
  · exact b_wl_s hF
  · refine b_wl_b b_wl_any (fun o _ => ?_)
    refine b_wl_i (fun c5 => ?_) (fun c5 => ?_)
    · refine b_wl_b b_wl_any (fun o _ => ?_)
      refine b_wl_i (fun c7 => ?_) (fun c7 => ?_)
      · refine b_wl_b (w_X1_readTest b_fr_refl) (fun o ho => ?_)
        refine b_wl_two ?_
        replace hF := b_fr_tr hF (b_fr_mo (by decide +kernel) ho)
        refine b_wl_i (fun c10 => ?_) (fun c10 => ?_)
        · exact b_wl_s hF
        · refine b_wl_b (w_X1_closeLevels b_fr_refl) (fun o ho => ?_)
          refine b_wl_two ?_
          replace hF := b_fr_tr hF (b_fr_mo (by decide +kernel) ho)
          refine b_wl_b (w_X1_goesOn b_fr_refl) (fun o ho => ?_)
          refine b_wl_two ?_
          replace hF := b_fr_tr hF (b_fr_mo (by decide +kernel) ho)
          refine b_wl_i (fun c15 => ?_) (fun c15 => ?_)
          · refine b_wl_b (w_X1_settleAll b_fr_refl) (fun o ho => ?_)
            replace hF := b_fr_tr hF (b_fr_mo (by decide +kernel) ho)
            refine b_wl_i (fun c18 => ?_) (fun c18 => ?_)
            · exact b_wl_s hF
            · refine b_wl_b (w_X10_wrong b_fr_refl) (fun o ho => ?_)
              refine b_wl_two ?_
              replace hF := b_fr_tr hF (b_fr_mo (by decide +kernel) ho)
              refine b_wl_i (fun c21 => ?_) (fun c21 => ?_)
              · exact b_wl_s hF
              · exact b_wl_s hF
          · refine b_wl_g (fun hg => ?_)
            exact b_wl_s hF
      · refine b_wl_i (fun c22 => ?_) (fun c22 => ?_)
        · refine b_wl_g (fun hg => ?_)
          refine b_wl_lA (c := 109) hF (by decide +kernel) (fun hF => ?_)
          refine b_wl_b (w_X10_step b_fr_refl) (fun o ho => ?_)
          replace hF := b_fr_tr hF (b_fr_mo (by decide +kernel) ho)
          refine b_wl_g (fun hg => ?_)
          exact b_wl_s hF
        · refine b_wl_b (w_X10_wrong b_fr_refl) (fun o ho => ?_)
          refine b_wl_two ?_
          replace hF := b_fr_tr hF (b_fr_mo (by decide +kernel) ho)
          refine b_wl_g (fun hg => ?_)
          exact b_wl_s hF
    · refine b_wl_g (fun hg => ?_)
      refine b_wl_lA (c := 109) hF (by decide +kernel) (fun hF => ?_)
      refine b_wl_b (w_X10_step b_fr_refl) (fun o ho => ?_)
      replace hF := b_fr_tr hF (b_fr_mo (by decide +kernel) ho)
      refine b_wl_g (fun hg => ?_)
      exact b_wl_s hF
theorem w_X1_readCond_b160 {M0 M : bM} (hF : b_fr W_X1_readCond M0 M) : b_wl (F_X1_readCond_b160 M) (fun o : Int × bM => b_fr W_X1_readCond M0 o.2) := by
  unfold F_X1_readCond_b160
  exact b_wl_s hF
theorem w_X1_readCond {M0 M : bM} (hF : b_fr W_X1_readCond M0 M) : b_wl (F_X1_readCond M) (fun o : Int × bM => b_fr W_X1_readCond M0 o.2) := by
  unfold F_X1_readCond
  refine b_wl_lF (c := 4) (i := 11) hF (by decide +kernel) (fun hF => ?_)
  refine b_wl_lA (c := 109) hF (by decide +kernel) (fun hF => ?_)
  refine b_wl_b (b_wl_loop (A := (fun t : Int × Int × bM => b_fr W_X1_readCond M0 t.2.2)) (fun t ht => w_X1_readCond_s16 ht) hF) (fun t ht => ?_)
  cases t with
  | inr o => exact b_wl_s ht
  | inl t =>
    replace hF : b_fr W_X1_readCond M0 t := ht
    refine b_wl_inl ?_
    exact w_X1_readCond_b160 hF
def W_X1_readProof : List (Nat × Option Int) := [(1, some 2), (1, some 3), (1, some 4), (1, some 5), (1, some 6), (1, some 7), (4, some 9), (4, some 11), (12, none), (13, none), (14, none), (15, none), (16, none), (17, none), (18, none), (19, none), (20, none), (21, none), (32, none), (33, none), (34, none), (35, none), (36, none), (37, none), (38, none), (39, none), (40, none), (41, none), (52, none), (53, none), (54, none), (55, none), (56, none), (57, none), (58, none), (59, none), (60, none), (61, none), (108, none), (109, none)]
theorem w_X1_readProof_b118 {v1 : Int} {v2 : Int} {M0 M : bM} (hF : b_fr W_X1_readProof M0 M) : b_wl (F_X1_readProof_b118 v1 v2 M) (fun o : Int × bM => b_fr W_X1_readProof M0 o.2) := by
  unfold F_X1_readProof_b118
  refine b_wl_g (fun hg => ?_)
  have g14 := hg
  refine b_wl_b (w_X0_addProof_a b_fr_refl) (fun o ho => ?_)
  replace hF := b_fr_tr hF (b_fr_mo (by decide +kernel) ho)
  exact b_wl_s hF
theorem w_X1_readProof {M0 M : bM} (hF : b_fr W_X1_readProof M0 M) : b_wl (F_X1_readProof M) (fun o : Int × bM => b_fr W_X1_readProof M0 o.2) := by
  unfold F_X1_readProof
  refine b_wl_g (fun hg => ?_)
  have g1 := hg
  refine b_wl_i (fun c2 => ?_) (fun c2 => ?_)
  · refine b_wl_b (w_X10_step b_fr_refl) (fun o ho => ?_)
    replace hF := b_fr_tr hF (b_fr_mo (by decide +kernel) ho)
    refine b_wl_b b_wl_any (fun o _ => ?_)
    refine b_wl_i (fun c5 => ?_) (fun c5 => ?_)
    · refine b_wl_b (w_X10_wrong b_fr_refl) (fun o ho => ?_)
      refine b_wl_two ?_
      replace hF := b_fr_tr hF (b_fr_mo (by decide +kernel) ho)
      refine b_wl_g (fun hg => ?_)
      exact b_wl_s hF
    · refine b_wl_b (w_X10_step b_fr_refl) (fun o ho => ?_)
      replace hF := b_fr_tr hF (b_fr_mo (by decide +kernel) ho)
      refine b_wl_b (w_X1_isNumber b_fr_refl) (fun o ho => ?_)
      refine b_wl_two ?_
      replace hF := b_fr_tr hF (b_fr_mo (by decide +kernel) ho)
      refine b_wl_i (fun c9 => ?_) (fun c9 => ?_)
      · exact b_wl_s hF
      · refine b_wl_b b_wl_any (fun o _ => ?_)
        refine b_wl_b (w_X10_step b_fr_refl) (fun o ho => ?_)
        replace hF := b_fr_tr hF (b_fr_mo (by decide +kernel) ho)
        refine b_wl_b b_wl_any (fun o _ => ?_)
        refine b_wl_i (fun c13 => ?_) (fun c13 => ?_)
        · exact w_X1_readProof_b118 hF
        · refine b_wl_b (w_X10_step b_fr_refl) (fun o ho => ?_)
          replace hF := b_fr_tr hF (b_fr_mo (by decide +kernel) ho)
          refine b_wl_b (w_X1_readCond b_fr_refl) (fun o ho => ?_)
          refine b_wl_two ?_
          replace hF := b_fr_tr hF (b_fr_mo (by decide +kernel) ho)
          refine b_wl_i (fun c19 => ?_) (fun c19 => ?_)
          · exact b_wl_s hF
          · exact w_X1_readProof_b118 hF
  · refine b_wl_b (w_X10_wrong b_fr_refl) (fun o ho => ?_)
    refine b_wl_two ?_
    replace hF := b_fr_tr hF (b_fr_mo (by decide +kernel) ho)
    refine b_wl_g (fun hg => ?_)
    exact b_wl_s hF
def W_X1_read : List (Nat × Option Int) := [(1, some 2), (1, some 3), (1, some 4), (1, some 5), (1, some 6), (1, some 7), (4, some 8), (4, some 9), (4, some 10), (4, some 11), (12, none), (13, none), (14, none), (15, none), (16, none), (17, none), (18, none), (19, none), (20, none), (21, none), (22, none), (23, none), (24, none), (25, none), (26, none), (27, none), (28, none), (29, none), (30, none), (31, none), (32, none), (33, none), (34, none), (35, none), (36, none), (37, none), (38, none), (39, none), (40, none), (41, none), (52, none), (53, none), (54, none), (55, none), (56, none), (57, none), (58, none), (59, none), (60, none), (61, none), (108, none), (109, none)]
theorem w_X1_read_b94 {v1 : Int} {M0 M : bM} (hF : b_fr W_X1_read M0 M) : b_wl (F_X1_read_b94 v1 M) (Sum.elim (fun t : Int × bM => b_fr W_X1_read M0 t.2) (Sum.elim (fun t : bM => b_fr W_X1_read M0 t) (fun o : Int × bM => b_fr W_X1_read M0 o.2))) := by
  unfold F_X1_read_b94
  refine b_wl_b b_wl_any (fun o _ => ?_)
  refine b_wl_i (fun c18 => ?_) (fun c18 => ?_)
  · refine b_wl_b (w_X10_wrong b_fr_refl) (fun o ho => ?_)
    refine b_wl_two ?_
    replace hF := b_fr_tr hF (b_fr_mo (by decide +kernel) ho)
    exact b_wl_s hF
  · refine b_wl_b (w_X10_step b_fr_refl) (fun o ho => ?_)
    replace hF := b_fr_tr hF (b_fr_mo (by decide +kernel) ho)
    refine b_wl_g (fun hg => ?_)
    exact b_wl_s hF
theorem w_X1_read_s40 {v1 : Int} {M0 M : bM} (hF : b_fr W_X1_read M0 M) : b_wl (F_X1_read_s40 v1 M) (Sum.elim (fun t : Int × bM => b_fr W_X1_read M0 t.2) (Sum.elim (fun t : bM => b_fr W_X1_read M0 t) (fun o : Int × bM => b_fr W_X1_read M0 o.2))) := by
  unfold F_X1_read_s40
  refine b_wl_i (fun c10 => ?_) (fun c10 => ?_)
  · exact b_wl_s hF
  · refine b_wl_i (fun c11 => ?_) (fun c11 => ?_)
    · exact b_wl_s hF
    · refine b_wl_b b_wl_any (fun o _ => ?_)
      refine b_wl_i (fun c13 => ?_) (fun c13 => ?_)
      · refine b_wl_b (w_X1_readProof b_fr_refl) (fun o ho => ?_)
        refine b_wl_two ?_
        replace hF := b_fr_tr hF (b_fr_mo (by decide +kernel) ho)
        refine b_wl_i (fun c25 => ?_) (fun c25 => ?_)
        · exact b_wl_s hF
        · exact w_X1_read_b94 hF
      · refine b_wl_b (w_X1_readRule b_fr_refl) (fun o ho => ?_)
        refine b_wl_two ?_
        replace hF := b_fr_tr hF (b_fr_mo (by decide +kernel) ho)
        refine b_wl_i (fun c16 => ?_) (fun c16 => ?_)
        · exact b_wl_s hF
        · exact w_X1_read_b94 hF
theorem w_X1_read_b130 {M0 M : bM} (hF : b_fr W_X1_read M0 M) : b_wl (F_X1_read_b130 M) (fun o : Int × bM => b_fr W_X1_read M0 o.2) := by
  unfold F_X1_read_b130
  exact b_wl_s hF
theorem w_X1_read {M0 M : bM} (hF : b_fr W_X1_read M0 M) : b_wl (F_X1_read M) (fun o : Int × bM => b_fr W_X1_read M0 o.2) := by
  unfold F_X1_read
  refine b_wl_b (w_X10_begin b_fr_refl) (fun o ho => ?_)
  replace hF := b_fr_tr hF (b_fr_mo (by decide +kernel) ho)
  refine b_wl_g (fun hg => ?_)
  refine b_wl_b b_wl_any (fun o _ => ?_)
  refine b_wl_g (fun hg => ?_)
  have g4 := hg
  refine b_wl_lF (c := 4) (i := 8) hF (by decide +kernel) (fun hF => ?_)
  refine b_wl_g (fun hg => ?_)
  have g6 := hg
  refine b_wl_b (w_X0_reset_a b_fr_refl) (fun o ho => ?_)
  replace hF := b_fr_tr hF (b_fr_mo (by decide +kernel) ho)
  refine b_wl_lF (c := 4) (i := 9) hF (by decide +kernel) (fun hF => ?_)
  refine b_wl_lF (c := 4) (i := 10) hF (by decide +kernel) (fun hF => ?_)
  refine b_wl_b (b_wl_loop (A := (fun t : Int × bM => b_fr W_X1_read M0 t.2)) (fun t ht => w_X1_read_s40 ht) hF) (fun t ht => ?_)
  cases t with
  | inr o => exact b_wl_s ht
  | inl t =>
    replace hF : b_fr W_X1_read M0 t := ht
    refine b_wl_inl ?_
    exact w_X1_read_b130 hF
def W_X4_addBurnt : List (Nat × Option Int) := [(6, some 0)]
theorem w_X4_addBurnt {M0 M : bM} (hF : b_fr W_X4_addBurnt M0 M) : b_wl (F_X4_addBurnt M) (fun o : Int × bM => b_fr W_X4_addBurnt M0 o.2) := by
  unfold F_X4_addBurnt
  refine b_wl_i (fun c1 => ?_) (fun c1 => ?_)
  · refine b_wl_g (fun hg => ?_)
    refine b_wl_lF (c := 6) (i := 0) hF (by decide +kernel) (fun hF => ?_)
    refine b_wl_g (fun hg => ?_)
    exact b_wl_s hF
  · exact b_wl_s hF
def W_X11_burnt : List (Nat × Option Int) := [(6, some 0), (6, some 5)]
theorem w_X11_burnt {M0 M : bM} (hF : b_fr W_X11_burnt M0 M) : b_wl (F_X11_burnt M) (fun o : Int × bM => b_fr W_X11_burnt M0 o.2) := by
  unfold F_X11_burnt
  refine b_wl_b (w_X4_forget b_fr_refl) (fun o ho => ?_)
  replace hF := b_fr_tr hF (b_fr_mo (by decide +kernel) ho)
  refine b_wl_b (w_X4_addBurnt b_fr_refl) (fun o ho => ?_)
  refine b_wl_two ?_
  replace hF := b_fr_tr hF (b_fr_mo (by decide +kernel) ho)
  exact b_wl_s hF
def W_X7_add : List (Nat × Option Int) := [(5, some 0), (110, none), (111, none), (112, none), (116, none), (119, none), (120, none), (121, none)]
theorem w_X7_add {v1 : Int} {v2 : Int} {v3 : Int} {M0 M : bM} (hF : b_fr W_X7_add M0 M) : b_wl (F_X7_add v1 v2 v3 M) (fun o : Int × bM => b_fr W_X7_add M0 o.2) := by
  unfold F_X7_add
  refine b_wl_i (fun c1 => ?_) (fun c1 => ?_)
  · refine b_wl_g (fun hg => ?_)
    refine b_wl_lA (c := 110) hF (by decide +kernel) (fun hF => ?_)
    refine b_wl_g (fun hg => ?_)
    refine b_wl_lA (c := 111) hF (by decide +kernel) (fun hF => ?_)
    refine b_wl_g (fun hg => ?_)
    refine b_wl_lA (c := 112) hF (by decide +kernel) (fun hF => ?_)
    refine b_wl_g (fun hg => ?_)
    refine b_wl_lA (c := 116) hF (by decide +kernel) (fun hF => ?_)
    refine b_wl_g (fun hg => ?_)
    refine b_wl_lA (c := 119) hF (by decide +kernel) (fun hF => ?_)
    refine b_wl_g (fun hg => ?_)
    refine b_wl_lS (c := 120) hF (by decide +kernel) (fun hF => ?_)
    refine b_wl_g (fun hg => ?_)
    refine b_wl_lS (c := 121) hF (by decide +kernel) (fun hF => ?_)
    refine b_wl_g (fun hg => ?_)
    refine b_wl_lF (c := 5) (i := 0) hF (by decide +kernel) (fun hF => ?_)
    refine b_wl_g (fun hg => ?_)
    exact b_wl_s hF
  · exact b_wl_s hF
def W_X7_say : List (Nat × Option Int) := [(113, none), (114, none), (115, none)]
theorem w_X7_say {v1 : Int} {v2 : Int} {v3 : Int} {v4 : Int} {v5 : Int} {v6 : Int} {M0 M : bM} (hF : b_fr W_X7_say M0 M) : b_wl (F_X7_say v1 v2 v3 v4 v5 v6 M) (fun o : bM => b_fr W_X7_say M0 o) := by
  unfold F_X7_say
  refine b_wl_b b_wl_any (fun o _ => ?_)
  refine b_wl_i (fun c2 => ?_) (fun c2 => ?_)
  · exact b_wl_s hF
  · refine b_wl_g (fun hg => ?_)
    refine b_wl_lA (c := 115) hF (by decide +kernel) (fun hF => ?_)
    refine b_wl_g (fun hg => ?_)
    refine b_wl_lA (c := 115) hF (by decide +kernel) (fun hF => ?_)
    refine b_wl_g (fun hg => ?_)
    refine b_wl_lA (c := 115) hF (by decide +kernel) (fun hF => ?_)
    refine b_wl_g (fun hg => ?_)
    refine b_wl_lA (c := 113) hF (by decide +kernel) (fun hF => ?_)
    refine b_wl_g (fun hg => ?_)
    refine b_wl_lA (c := 114) hF (by decide +kernel) (fun hF => ?_)
    exact b_wl_s hF
def W_X0_holds_a_5_125 : List (Nat × Option Int) := [(125, none)]
theorem w_X0_holds_a_5_125_b159 {v0 : Nat} {v1 : Int} {v3 : Int} {v5 : Int} {v6 : Int} {u1 : Int} {u2 : Int} {M0 M : bM} (hF : b_fr W_X0_holds_a_5_125 M0 M) : b_wl (F_X0_holds_a_5_125_b159 v0 v1 v3 v5 v6 u1 u2 M) (Sum.elim (fun t : Int × Int × bM => b_fr W_X0_holds_a_5_125 M0 t.2.2) (fun t : Int × bM => b_fr W_X0_holds_a_5_125 M0 t.2)) := by
  unfold F_X0_holds_a_5_125_b159
  refine b_wl_g (fun hg => ?_)
  refine b_wl_lA (c := 125) hF (by decide +kernel) (fun hF => ?_)
  refine b_wl_g (fun hg => ?_)
  exact b_wl_s hF
theorem w_X0_holds_a_5_125_b151 {v0 : Nat} {v1 : Int} {v3 : Int} {v5 : Int} {v6 : Int} {u1 : Int} {u2 : Int} {u3 : Int} {M0 M : bM} (hF : b_fr W_X0_holds_a_5_125 M0 M) : b_wl (F_X0_holds_a_5_125_b151 v0 v1 v3 v5 v6 u1 u2 u3 M) (Sum.elim (fun t : Int × Int × bM => b_fr W_X0_holds_a_5_125 M0 t.2.2) (fun t : Int × bM => b_fr W_X0_holds_a_5_125 M0 t.2)) := by
  unfold F_X0_holds_a_5_125_b151
  refine b_wl_i (fun c33 => ?_) (fun c33 => ?_)
  · exact w_X0_holds_a_5_125_b159 hF
  · exact w_X0_holds_a_5_125_b159 hF
theorem w_X0_holds_a_5_125_b129 {v0 : Nat} {v1 : Int} {v3 : Int} {v5 : Int} {v6 : Int} {v7 : Int} {u0 : Int} {M0 M : bM} (hF : b_fr W_X0_holds_a_5_125 M0 M) : b_wl (F_X0_holds_a_5_125_b129 v0 v1 v3 v5 v6 v7 u0 M) (Sum.elim (fun t : Int × Int × bM => b_fr W_X0_holds_a_5_125 M0 t.2.2) (fun t : Int × bM => b_fr W_X0_holds_a_5_125 M0 t.2)) := by
  unfold F_X0_holds_a_5_125_b129
  refine b_wl_g (fun hg => ?_)
  refine b_wl_i (fun c32 => ?_) (fun c32 => ?_)
  · exact w_X0_holds_a_5_125_b151 hF
  · exact w_X0_holds_a_5_125_b151 hF
theorem w_X0_holds_a_5_125_b95 {v0 : Nat} {v1 : Int} {v3 : Int} {v5 : Int} {v6 : Int} {u1 : Int} {u2 : Int} {M0 M : bM} (hF : b_fr W_X0_holds_a_5_125 M0 M) : b_wl (F_X0_holds_a_5_125_b95 v0 v1 v3 v5 v6 u1 u2 M) (Sum.elim (fun t : Int × Int × bM => b_fr W_X0_holds_a_5_125 M0 t.2.2) (fun t : Int × bM => b_fr W_X0_holds_a_5_125 M0 t.2)) := by
  unfold F_X0_holds_a_5_125_b95
  refine b_wl_g (fun hg => ?_)
  refine b_wl_lA (c := 125) hF (by decide +kernel) (fun hF => ?_)
  refine b_wl_g (fun hg => ?_)
  exact b_wl_s hF
theorem w_X0_holds_a_5_125_s11 {v0 : Nat} {v1 : Int} {v3 : Int} {v5 : Int} {v6 : Int} {M0 M : bM} (hF : b_fr W_X0_holds_a_5_125 M0 M) : b_wl (F_X0_holds_a_5_125_s11 v0 v1 v3 v5 v6 M) (Sum.elim (fun t : Int × Int × bM => b_fr W_X0_holds_a_5_125 M0 t.2.2) (fun t : Int × bM => b_fr W_X0_holds_a_5_125 M0 t.2)) := by
  unfold F_X0_holds_a_5_125_s11
  refine b_wl_g (fun hg => ?_)
  obtain ⟨g4, g5, g6⟩ := hg
  refine b_wl_i (fun c7 => ?_) (fun c7 => ?_)
  · exact b_wl_s hF
  · refine b_wl_i (fun c8 => ?_) (fun c8 => ?_)
    · exact b_wl_s hF
    · refine b_wl_g (fun hg => ?_)
      refine b_wl_l ?_
      refine b_wl_g (fun hg => ?_)
      refine b_wl_l ?_
      refine b_wl_i (fun c14 => ?_) (fun c14 => ?_)
      · refine b_wl_i (fun c15 => ?_) (fun c15 => ?_)
        · refine b_wl_i (fun c16 => ?_) (fun c16 => ?_)
          · refine b_wl_g (fun hg => ?_)
            exact b_wl_s hF
          · refine b_wl_g (fun hg => ?_)
            refine b_wl_b b_wl_any (fun o _ => ?_)
            refine b_wl_g (fun hg => ?_)
            refine b_wl_lA (c := 125) hF (by decide +kernel) (fun hF => ?_)
            refine b_wl_g (fun hg => ?_)
            exact b_wl_s hF
        · refine b_wl_i (fun c26 => ?_) (fun c26 => ?_)
          · refine b_wl_g (fun hg => ?_)
            exact b_wl_s hF
          · refine b_wl_g (fun hg => ?_)
            refine b_wl_i (fun c30 => ?_) (fun c30 => ?_)
            · exact w_X0_holds_a_5_125_b129 hF
            · exact w_X0_holds_a_5_125_b129 hF
      · refine b_wl_i (fun c37 => ?_) (fun c37 => ?_)
        · refine b_wl_g (fun hg => ?_)
          exact b_wl_s hF
        · refine b_wl_i (fun c39 => ?_) (fun c39 => ?_)
          · refine b_wl_g (fun hg => ?_)
            exact w_X0_holds_a_5_125_b95 hF
          · refine b_wl_b b_wl_any (fun o _ => ?_)
            exact w_X0_holds_a_5_125_b95 hF
theorem w_X0_holds_a_5_125_b202 {v5 : Int} {M0 M : bM} (hF : b_fr W_X0_holds_a_5_125 M0 M) : b_wl (F_X0_holds_a_5_125_b202 v5 M) (fun o : Int × bM => b_fr W_X0_holds_a_5_125 M0 o.2) := by
  unfold F_X0_holds_a_5_125_b202
  refine b_wl_i (fun c46 => ?_) (fun c46 => ?_)
  · exact b_wl_s hF
  · refine b_wl_i (fun c47 => ?_) (fun c47 => ?_)
    · exact b_wl_s hF
    · exact b_wl_s hF
theorem w_X0_holds_a_5_125 {v0 : Nat} {v1 : Int} {v3 : Int} {M0 M : bM} (hF : b_fr W_X0_holds_a_5_125 M0 M) : b_wl (F_X0_holds_a_5_125 v0 v1 v3 M) (fun o : Int × bM => b_fr W_X0_holds_a_5_125 M0 o.2) := by
  unfold F_X0_holds_a_5_125
  refine b_wl_g (fun hg => ?_)
  obtain ⟨g1, g2⟩ := hg
  refine b_wl_l ?_
  refine b_wl_b (b_wl_loop (A := (fun t : Int × Int × bM => b_fr W_X0_holds_a_5_125 M0 t.2.2)) (fun t ht => w_X0_holds_a_5_125_s11 ht) hF) (fun t ht => ?_)
  replace hF : b_fr W_X0_holds_a_5_125 M0 t.2 := ht
  exact w_X0_holds_a_5_125_b202 hF
def W_X0_weightOf_a_5_125 : List (Nat × Option Int) := [(125, none)]
theorem w_X0_weightOf_a_5_125_b63 {v0 : Nat} {v4 : Int} {M0 M : bM} (hF : b_fr W_X0_weightOf_a_5_125 M0 M) : b_wl (F_X0_weightOf_a_5_125_b63 v0 v4 M) (Sum.elim (fun t : Int × bM => b_fr W_X0_weightOf_a_5_125 M0 t.2) (Sum.elim (fun t : bM => b_fr W_X0_weightOf_a_5_125 M0 t) (fun o : Int × bM => b_fr W_X0_weightOf_a_5_125 M0 o.2))) := by
  unfold F_X0_weightOf_a_5_125_b63
  refine b_wl_g (fun hg => ?_)
  obtain ⟨g14, g15⟩ := hg
  exact b_wl_s hF
theorem w_X0_weightOf_a_5_125_s8 {v0 : Nat} {v2 : Int} {v4 : Int} {M0 M : bM} (hF : b_fr W_X0_weightOf_a_5_125 M0 M) : b_wl (F_X0_weightOf_a_5_125_s8 v0 v2 v4 M) (Sum.elim (fun t : Int × bM => b_fr W_X0_weightOf_a_5_125 M0 t.2) (Sum.elim (fun t : bM => b_fr W_X0_weightOf_a_5_125 M0 t) (fun o : Int × bM => b_fr W_X0_weightOf_a_5_125 M0 o.2))) := by
  unfold F_X0_weightOf_a_5_125_s8
  refine b_wl_i (fun c4 => ?_) (fun c4 => ?_)
  · exact b_wl_s hF
  · refine b_wl_g (fun hg => ?_)
    obtain ⟨g5, g6, g7⟩ := hg
    refine b_wl_i (fun c8 => ?_) (fun c8 => ?_)
    · refine b_wl_g (fun hg => ?_)
      refine b_wl_i (fun c13 => ?_) (fun c13 => ?_)
      · exact w_X0_weightOf_a_5_125_b63 hF
      · refine b_wl_b (w_X0_holds_a_5_125 b_fr_refl) (fun o ho => ?_)
        refine b_wl_two ?_
        replace hF := b_fr_tr hF (b_fr_mo (by decide +kernel) ho)
        refine b_wl_i (fun c18 => ?_) (fun c18 => ?_)
        · refine b_wl_g (fun hg => ?_)
          exact b_wl_s hF
        · exact w_X0_weightOf_a_5_125_b63 hF
    · refine b_wl_g (fun hg => ?_)
      exact b_wl_s hF
theorem w_X0_weightOf_a_5_125_b80 {M0 M : bM} (hF : b_fr W_X0_weightOf_a_5_125 M0 M) : b_wl (F_X0_weightOf_a_5_125_b80 M) (fun o : Int × bM => b_fr W_X0_weightOf_a_5_125 M0 o.2) := by
  unfold F_X0_weightOf_a_5_125_b80
  exact b_wl_s hF
theorem w_X0_weightOf_a_5_125 {v0 : Nat} {v2 : Int} {M0 M : bM} (hF : b_fr W_X0_weightOf_a_5_125 M0 M) : b_wl (F_X0_weightOf_a_5_125 v0 v2 M) (fun o : Int × bM => b_fr W_X0_weightOf_a_5_125 M0 o.2) := by
  unfold F_X0_weightOf_a_5_125
  refine b_wl_g (fun hg => ?_)
  obtain ⟨g1, g2⟩ := hg
  refine b_wl_l ?_
  refine b_wl_b (b_wl_loop (A := (fun t : Int × bM => b_fr W_X0_weightOf_a_5_125 M0 t.2)) (fun t ht => w_X0_weightOf_a_5_125_s8 ht) hF) (fun t ht => ?_)
  cases t with
  | inr o => exact b_wl_s ht
  | inl t =>
    replace hF : b_fr W_X0_weightOf_a_5_125 M0 t := ht
    refine b_wl_inl ?_
    exact w_X0_weightOf_a_5_125_b80 hF
def W_X7_weighBy_4 : List (Nat × Option Int) := [(124, none), (125, none)]
theorem w_X7_weighBy_4 {v1 : Int} {v2 : Int} {M0 M : bM} (hF : b_fr W_X7_weighBy_4 M0 M) : b_wl (F_X7_weighBy_4 v1 v2 M) (fun o : bM => b_fr W_X7_weighBy_4 M0 o) := by
  unfold F_X7_weighBy_4
  refine b_wl_b b_wl_any (fun o _ => ?_)
  refine b_wl_i (fun c2 => ?_) (fun c2 => ?_)
  · exact b_wl_s hF
  · refine b_wl_i (fun c3 => ?_) (fun c3 => ?_)
    · exact b_wl_s hF
    · refine b_wl_i (fun c4 => ?_) (fun c4 => ?_)
      · exact b_wl_s hF
      · refine b_wl_g (fun hg => ?_)
        refine b_wl_b b_wl_any (fun o _ => ?_)
        refine b_wl_g (fun hg => ?_)
        have g8 := hg
        refine b_wl_b (w_X0_weightOf_a_5_125 b_fr_refl) (fun o ho => ?_)
        refine b_wl_two ?_
        replace hF := b_fr_tr hF (b_fr_mo (by decide +kernel) ho)
        refine b_wl_g (fun hg => ?_)
        refine b_wl_lA (c := 124) hF (by decide +kernel) (fun hF => ?_)
        exact b_wl_s hF
def W_X7_weigh_4 : List (Nat × Option Int) := [(124, none), (125, none)]
theorem w_X7_weigh_4_s2 {v1 : Int} {v3 : Int} {M0 M : bM} (hF : b_fr W_X7_weigh_4 M0 M) : b_wl (F_X7_weigh_4_s2 v1 v3 M) (Sum.elim (fun t : Int × bM => b_fr W_X7_weigh_4 M0 t.2) (fun t : bM => b_fr W_X7_weigh_4 M0 t)) := by
  unfold F_X7_weigh_4_s2
  refine b_wl_i (fun c1 => ?_) (fun c1 => ?_)
  · exact b_wl_s hF
  · refine b_wl_i (fun c2 => ?_) (fun c2 => ?_)
    · exact b_wl_s hF
    · refine b_wl_b (w_X7_weighBy_4 b_fr_refl) (fun o ho => ?_)
      replace hF := b_fr_tr hF (b_fr_mo (by decide +kernel) ho)
      refine b_wl_g (fun hg => ?_)
      exact b_wl_s hF
theorem w_X7_weigh_4_b29 {M0 M : bM} (hF : b_fr W_X7_weigh_4 M0 M) : b_wl (F_X7_weigh_4_b29 M) (fun o : bM => b_fr W_X7_weigh_4 M0 o) := by
  unfold F_X7_weigh_4_b29
  exact b_wl_s hF
theorem w_X7_weigh_4 {v1 : Int} {M0 M : bM} (hF : b_fr W_X7_weigh_4 M0 M) : b_wl (F_X7_weigh_4 v1 M) (fun o : bM => b_fr W_X7_weigh_4 M0 o) := by
  unfold F_X7_weigh_4
  refine b_wl_b (b_wl_loop (A := (fun t : Int × bM => b_fr W_X7_weigh_4 M0 t.2)) (fun t ht => w_X7_weigh_4_s2 ht) hF) (fun t ht => ?_)
  replace hF : b_fr W_X7_weigh_4 M0 t := ht
  exact w_X7_weigh_4_b29 hF
def W_X7_readMark_1 : List (Nat × Option Int) := [(1, some 2), (1, some 3), (1, some 4), (1, some 7), (5, some 16), (122, none), (123, none)]
theorem w_X7_readMark_1_s21 {v2 : Int} {M0 M : bM} (hF : b_fr W_X7_readMark_1 M0 M) : b_wl (F_X7_readMark_1_s21 v2 M) (Sum.elim (fun _ : Int => True) (Sum.elim (fun _ : Unit => True) (fun o : Int × bM => b_fr W_X7_readMark_1 M0 o.2))) := by
  unfold F_X7_readMark_1_s21
  refine b_wl_i (fun c3 => ?_) (fun c3 => ?_)
  · exact b_wl_s trivial
  · refine b_wl_g (fun hg => ?_)
    refine b_wl_i (fun c5 => ?_) (fun c5 => ?_)
    · exact b_wl_s hF
    · refine b_wl_g (fun hg => ?_)
      exact b_wl_s trivial
theorem w_X7_readMark_1_b118 {M0 M : bM} (hF : b_fr W_X7_readMark_1 M0 M) : b_wl (F_X7_readMark_1_b118 M) (fun o : Int × bM => b_fr W_X7_readMark_1 M0 o.2) := by
  unfold F_X7_readMark_1_b118
  refine b_wl_g (fun hg => ?_)
  refine b_wl_lF (c := 5) (i := 16) hF (by decide +kernel) (fun hF => ?_)
  refine b_wl_b b_wl_any (fun o _ => ?_)
  refine b_wl_b (w_X10_step b_fr_refl) (fun o ho => ?_)
  replace hF := b_fr_tr hF (b_fr_mo (by decide +kernel) ho)
  refine b_wl_g (fun hg => ?_)
  exact b_wl_s hF
theorem w_X7_readMark_1_b51 {M0 M : bM} (hF : b_fr W_X7_readMark_1 M0 M) : b_wl (F_X7_readMark_1_b51 M) (fun o : Int × bM => b_fr W_X7_readMark_1 M0 o.2) := by
  unfold F_X7_readMark_1_b51
  refine b_wl_g (fun hg => ?_)
  refine b_wl_lA (c := 122) hF (by decide +kernel) (fun hF => ?_)
  refine b_wl_g (fun hg => ?_)
  refine b_wl_lA (c := 123) hF (by decide +kernel) (fun hF => ?_)
  refine b_wl_b (w_X10_step b_fr_refl) (fun o ho => ?_)
  replace hF := b_fr_tr hF (b_fr_mo (by decide +kernel) ho)
  refine b_wl_b b_wl_any (fun o _ => ?_)
  refine b_wl_i (fun c13 => ?_) (fun c13 => ?_)
  · exact w_X7_readMark_1_b118 hF
  · refine b_wl_b (w_X10_step b_fr_refl) (fun o ho => ?_)
    replace hF := b_fr_tr hF (b_fr_mo (by decide +kernel) ho)
    refine b_wl_i (fun c20 => ?_) (fun c20 => ?_)
    · refine b_wl_b b_wl_any (fun o _ => ?_)
      refine b_wl_g (fun hg => ?_)
      refine b_wl_lA (c := 123) hF (by decide +kernel) (fun hF => ?_)
      refine b_wl_b (w_X10_step b_fr_refl) (fun o ho => ?_)
      replace hF := b_fr_tr hF (b_fr_mo (by decide +kernel) ho)
      exact w_X7_readMark_1_b118 hF
    · exact b_wl_s hF
theorem w_X7_readMark_1 {M0 M : bM} (hF : b_fr W_X7_readMark_1 M0 M) : b_wl (F_X7_readMark_1 M) (fun o : Int × bM => b_fr W_X7_readMark_1 M0 o.2) := by
  unfold F_X7_readMark_1
  refine b_wl_i (fun c1 => ?_) (fun c1 => ?_)
  · refine b_wl_i (fun c2 => ?_) (fun c2 => ?_)
    · refine b_wl_b (b_wl_loop (A := (fun _ : Int => True)) (fun t ht => w_X7_readMark_1_s21 hF) trivial) (fun t ht => ?_)
      cases t with
      | inr o => exact b_wl_s ht
      | inl t =>
        refine b_wl_inl ?_
        exact w_X7_readMark_1_b51 hF
    · exact b_wl_s hF
  · exact b_wl_s hF
def W_X7_readMarks_1 : List (Nat × Option Int) := [(1, some 2), (1, some 3), (1, some 4), (1, some 7), (5, some 16), (122, none), (123, none)]
theorem w_X7_readMarks_1_s11 {v2 : Int} {M0 M : bM} (hF : b_fr W_X7_readMarks_1 M0 M) : b_wl (F_X7_readMarks_1_s11 v2 M) (Sum.elim (fun t : Int × bM => b_fr W_X7_readMarks_1 M0 t.2) (Sum.elim (fun t : bM => b_fr W_X7_readMarks_1 M0 t) (fun o : Int × bM => b_fr W_X7_readMarks_1 M0 o.2))) := by
  unfold F_X7_readMarks_1_s11
  refine b_wl_i (fun c3 => ?_) (fun c3 => ?_)
  · exact b_wl_s hF
  · refine b_wl_i (fun c4 => ?_) (fun c4 => ?_)
    · exact b_wl_s hF
    · refine b_wl_b (w_X7_readMark_1 b_fr_refl) (fun o ho => ?_)
      refine b_wl_two ?_
      replace hF := b_fr_tr hF (b_fr_mo (by decide +kernel) ho)
      refine b_wl_i (fun c7 => ?_) (fun c7 => ?_)
      · exact b_wl_s hF
      · refine b_wl_g (fun hg => ?_)
        exact b_wl_s hF
theorem w_X7_readMarks_1_b41 {M0 M : bM} (hF : b_fr W_X7_readMarks_1 M0 M) : b_wl (F_X7_readMarks_1_b41 M) (fun o : Int × bM => b_fr W_X7_readMarks_1 M0 o.2) := by
  unfold F_X7_readMarks_1_b41
  refine b_wl_i (fun c9 => ?_) (fun c9 => ?_)
  · exact b_wl_s hF
  · exact b_wl_s hF
theorem w_X7_readMarks_1 {M0 M : bM} (hF : b_fr W_X7_readMarks_1 M0 M) : b_wl (F_X7_readMarks_1 M) (fun o : Int × bM => b_fr W_X7_readMarks_1 M0 o.2) := by
  unfold F_X7_readMarks_1
  refine b_wl_b (w_X10_rewind b_fr_refl) (fun o ho => ?_)
  replace hF := b_fr_tr hF (b_fr_mo (by decide +kernel) ho)
  refine b_wl_lF (c := 5) (i := 16) hF (by decide +kernel) (fun hF => ?_)
  refine b_wl_b (b_wl_loop (A := (fun t : Int × bM => b_fr W_X7_readMarks_1 M0 t.2)) (fun t ht => w_X7_readMarks_1_s11 ht) hF) (fun t ht => ?_)
  cases t with
  | inr o => exact b_wl_s ht
  | inl t =>
    replace hF : b_fr W_X7_readMarks_1 M0 t := ht
    refine b_wl_inl ?_
    exact w_X7_readMarks_1_b41 hF
def W_X11_paper : List (Nat × Option Int) := [(1, some 1), (1, some 2), (1, some 3), (1, some 4), (1, some 7), (5, some 0), (5, some 16), (6, some 5), (110, none), (111, none), (112, none), (113, none), (114, none), (115, none), (116, none), (119, none), (120, none), (121, none), (122, none), (123, none), (124, none), (125, none)]
theorem w_X11_paper_b108 {v1 : Int} {v2 : Int} {v3 : Int} {v4 : Int} {v5 : Int} {v6 : Int} {v7 : Int} {v8 : Int} {M0 M : bM} (hF : b_fr W_X11_paper M0 M) : b_wl (F_X11_paper_b108 v1 v2 v3 v4 v5 v6 v7 v8 M) (fun o : Int × bM => b_fr W_X11_paper M0 o.2) := by
  unfold F_X11_paper_b108
  refine b_wl_b (w_X10_clear b_fr_refl) (fun o ho => ?_)
  replace hF := b_fr_tr hF (b_fr_mo (by decide +kernel) ho)
  refine b_wl_i (fun c3 => ?_) (fun c3 => ?_)
  · refine b_wl_b (w_X7_add b_fr_refl) (fun o ho => ?_)
    refine b_wl_two ?_
    replace hF := b_fr_tr hF (b_fr_mo (by decide +kernel) ho)
    refine b_wl_b (w_X7_say b_fr_refl) (fun o ho => ?_)
    replace hF := b_fr_tr hF (b_fr_mo (by decide +kernel) ho)
    refine b_wl_b (w_X7_weigh_4 b_fr_refl) (fun o ho => ?_)
    replace hF := b_fr_tr hF (b_fr_mo (by decide +kernel) ho)
    refine b_wl_b (w_X4_forget b_fr_refl) (fun o ho => ?_)
    replace hF := b_fr_tr hF (b_fr_mo (by decide +kernel) ho)
    exact b_wl_s hF
  · exact b_wl_s hF
theorem w_X11_paper {v1 : Int} {v2 : Int} {v3 : Int} {v4 : Int} {v5 : Int} {v6 : Int} {v7 : Int} {M0 M : bM} (hF : b_fr W_X11_paper M0 M) : b_wl (F_X11_paper v1 v2 v3 v4 v5 v6 v7 M) (fun o : Int × bM => b_fr W_X11_paper M0 o.2) := by
  unfold F_X11_paper
  refine b_wl_i (fun c1 => ?_) (fun c1 => ?_)
  · exact w_X11_paper_b108 hF
  · refine b_wl_i (fun c9 => ?_) (fun c9 => ?_)
    · exact w_X11_paper_b108 hF
    · refine b_wl_b b_wl_any (fun o _ => ?_)
      refine b_wl_i (fun c11 => ?_) (fun c11 => ?_)
      · exact w_X11_paper_b108 hF
      · refine b_wl_b b_wl_any (fun o _ => ?_)
        refine b_wl_i (fun c13 => ?_) (fun c13 => ?_)
        · exact w_X11_paper_b108 hF
        · refine b_wl_b b_wl_any (fun o _ => ?_)
          refine b_wl_i (fun c15 => ?_) (fun c15 => ?_)
          · exact w_X11_paper_b108 hF
          · refine b_wl_b b_wl_any (fun o _ => ?_)
            refine b_wl_i (fun c17 => ?_) (fun c17 => ?_)
            · exact w_X11_paper_b108 hF
            · refine b_wl_b b_wl_any (fun o _ => ?_)
              refine b_wl_i (fun c19 => ?_) (fun c19 => ?_)
              · exact w_X11_paper_b108 hF
              · refine b_wl_b b_wl_any (fun o _ => ?_)
                refine b_wl_i (fun c21 => ?_) (fun c21 => ?_)
                · exact w_X11_paper_b108 hF
                · refine b_wl_i (fun c22 => ?_) (fun c22 => ?_)
                  · exact w_X11_paper_b108 hF
                  · refine b_wl_b (w_X7_readMarks_1 b_fr_refl) (fun o ho => ?_)
                    refine b_wl_two ?_
                    replace hF := b_fr_tr hF (b_fr_mo (by decide +kernel) ho)
                    exact w_X11_paper_b108 hF
def W_X7_sign : List (Nat × Option Int) := [(116, none), (117, none), (118, none)]
theorem w_X7_sign {v1 : Int} {v2 : Int} {v3 : Int} {v4 : Int} {M0 M : bM} (hF : b_fr W_X7_sign M0 M) : b_wl (F_X7_sign v1 v2 v3 v4 M) (fun o : bM => b_fr W_X7_sign M0 o) := by
  unfold F_X7_sign
  refine b_wl_b b_wl_any (fun o _ => ?_)
  refine b_wl_i (fun c2 => ?_) (fun c2 => ?_)
  · exact b_wl_s hF
  · refine b_wl_g (fun hg => ?_)
    refine b_wl_lA (c := 116) hF (by decide +kernel) (fun hF => ?_)
    refine b_wl_g (fun hg => ?_)
    refine b_wl_lA (c := 117) hF (by decide +kernel) (fun hF => ?_)
    refine b_wl_g (fun hg => ?_)
    refine b_wl_lA (c := 118) hF (by decide +kernel) (fun hF => ?_)
    exact b_wl_s hF
def W_X11_written : List (Nat × Option Int) := [(6, some 5), (116, none), (117, none), (118, none)]
theorem w_X11_written {v1 : Int} {v2 : Int} {v3 : Int} {v4 : Int} {v5 : Int} {M0 M : bM} (hF : b_fr W_X11_written M0 M) : b_wl (F_X11_written v1 v2 v3 v4 v5 M) (fun o : Int × bM => b_fr W_X11_written M0 o.2) := by
  unfold F_X11_written
  refine b_wl_b b_wl_any (fun o _ => ?_)
  refine b_wl_i (fun c2 => ?_) (fun c2 => ?_)
  · exact b_wl_s hF
  · refine b_wl_b b_wl_any (fun o _ => ?_)
    refine b_wl_i (fun c4 => ?_) (fun c4 => ?_)
    · exact b_wl_s hF
    · refine b_wl_b b_wl_any (fun o _ => ?_)
      refine b_wl_i (fun c6 => ?_) (fun c6 => ?_)
      · exact b_wl_s hF
      · refine b_wl_i (fun c7 => ?_) (fun c7 => ?_)
        · exact b_wl_s hF
        · refine b_wl_i (fun c8 => ?_) (fun c8 => ?_)
          · exact b_wl_s hF
          · refine b_wl_i (fun c9 => ?_) (fun c9 => ?_)
            · exact b_wl_s hF
            · refine b_wl_i (fun c10 => ?_) (fun c10 => ?_)
              · refine b_wl_g (fun hg => ?_)
                refine b_wl_i (fun c12 => ?_) (fun c12 => ?_)
                · refine b_wl_g (fun hg => ?_)
                  refine b_wl_b (w_X7_sign b_fr_refl) (fun o ho => ?_)
                  replace hF := b_fr_tr hF (b_fr_mo (by decide +kernel) ho)
                  refine b_wl_b (w_X4_forget b_fr_refl) (fun o ho => ?_)
                  replace hF := b_fr_tr hF (b_fr_mo (by decide +kernel) ho)
                  exact b_wl_s hF
                · exact b_wl_s hF
              · exact b_wl_s hF
def W_X11_pages : List (Nat × Option Int) := [(5, some 1), (6, some 5)]
theorem w_X11_pages {v1 : Int} {M0 M : bM} (hF : b_fr W_X11_pages M0 M) : b_wl (F_X11_pages v1 M) (fun o : Int × bM => b_fr W_X11_pages M0 o.2) := by
  unfold F_X11_pages
  refine b_wl_i (fun c1 => ?_) (fun c1 => ?_)
  · exact b_wl_s hF
  · refine b_wl_i (fun c2 => ?_) (fun c2 => ?_)
    · refine b_wl_lF (c := 5) (i := 1) hF (by decide +kernel) (fun hF => ?_)
      refine b_wl_b (w_X4_forget b_fr_refl) (fun o ho => ?_)
      replace hF := b_fr_tr hF (b_fr_mo (by decide +kernel) ho)
      exact b_wl_s hF
    · exact b_wl_s hF
def W_X11_cant : List (Nat × Option Int) := [(2, some 7), (2, some 8), (2, some 9), (81, none), (82, none), (83, none), (84, none)]
theorem w_X11_cant {v1 : Int} {v2 : Int} {M0 M : bM} (hF : b_fr W_X11_cant M0 M) : b_wl (F_X11_cant v1 v2 M) (fun o : Int × bM => b_fr W_X11_cant M0 o.2) := by
  unfold F_X11_cant
  refine b_wl_b b_wl_any (fun o _ => ?_)
  refine b_wl_i (fun c2 => ?_) (fun c2 => ?_)
  · exact b_wl_s hF
  · refine b_wl_b b_wl_any (fun o _ => ?_)
    refine b_wl_i (fun c4 => ?_) (fun c4 => ?_)
    · exact b_wl_s hF
    · refine b_wl_b (w_X8_know b_fr_refl) (fun o ho => ?_)
      replace hF := b_fr_tr hF (b_fr_mo (by decide +kernel) ho)
      refine b_wl_b b_wl_any (fun o _ => ?_)
      exact b_wl_s hF
def W_X4_findWitnesses : List (Nat × Option Int) := [(6, some 11), (128, none)]
theorem w_X4_findWitnesses_s7 {v1 : Int} {v2 : Int} {M0 M : bM} (hF : b_fr W_X4_findWitnesses M0 M) : b_wl (F_X4_findWitnesses_s7 v1 v2 M) (Sum.elim (fun t : Int × bM => b_fr W_X4_findWitnesses M0 t.2) (fun t : bM => b_fr W_X4_findWitnesses M0 t)) := by
  unfold F_X4_findWitnesses_s7
  refine b_wl_i (fun c2 => ?_) (fun c2 => ?_)
  · exact b_wl_s hF
  · refine b_wl_g (fun hg => ?_)
    refine b_wl_i (fun c4 => ?_) (fun c4 => ?_)
    · refine b_wl_g (fun hg => ?_)
      refine b_wl_i (fun c7 => ?_) (fun c7 => ?_)
      · refine b_wl_g (fun hg => ?_)
        exact b_wl_s hF
      · refine b_wl_g (fun hg => ?_)
        refine b_wl_lA (c := 128) hF (by decide +kernel) (fun hF => ?_)
        refine b_wl_g (fun hg => ?_)
        refine b_wl_lF (c := 6) (i := 11) hF (by decide +kernel) (fun hF => ?_)
        refine b_wl_g (fun hg => ?_)
        exact b_wl_s hF
    · refine b_wl_g (fun hg => ?_)
      exact b_wl_s hF
theorem w_X4_findWitnesses_b66 {M0 M : bM} (hF : b_fr W_X4_findWitnesses M0 M) : b_wl (F_X4_findWitnesses_b66 M) (fun o : bM => b_fr W_X4_findWitnesses M0 o) := by
  unfold F_X4_findWitnesses_b66
  exact b_wl_s hF
theorem w_X4_findWitnesses {v1 : Int} {M0 M : bM} (hF : b_fr W_X4_findWitnesses M0 M) : b_wl (F_X4_findWitnesses v1 M) (fun o : bM => b_fr W_X4_findWitnesses M0 o) := by
  unfold F_X4_findWitnesses
  refine b_wl_lF (c := 6) (i := 11) hF (by decide +kernel) (fun hF => ?_)
  refine b_wl_b (b_wl_loop (A := (fun t : Int × bM => b_fr W_X4_findWitnesses M0 t.2)) (fun t ht => w_X4_findWitnesses_s7 ht) hF) (fun t ht => ?_)
  replace hF : b_fr W_X4_findWitnesses M0 t := ht
  exact w_X4_findWitnesses_b66 hF
def W_X4_greatestOaths : List (Nat × Option Int) := [(129, none)]
theorem w_X4_greatestOaths_s35 {v1 : Int} {v2 : Int} {v3 : Int} {v4 : Int} {v5 : Int} {v6 : Int} {M0 M : bM} (hF : b_fr W_X4_greatestOaths M0 M) : b_wl (F_X4_greatestOaths_s35 v1 v2 v3 v4 v5 v6 M) (Sum.elim (fun _ : Int × Int => True) (fun _ : Int => True)) := by
  unfold F_X4_greatestOaths_s35
  refine b_wl_i (fun c7 => ?_) (fun c7 => ?_)
  · exact b_wl_s trivial
  · refine b_wl_g (fun hg => ?_)
    refine b_wl_i (fun c10 => ?_) (fun c10 => ?_)
    · refine b_wl_g (fun hg => ?_)
      exact b_wl_s trivial
    · refine b_wl_g (fun hg => ?_)
      exact b_wl_s trivial
theorem w_X4_greatestOaths_b68 {v1 : Int} {v2 : Int} {v3 : Int} {v4 : Int} {v5 : Int} {M0 M : bM} (hF : b_fr W_X4_greatestOaths M0 M) : b_wl (F_X4_greatestOaths_b68 v1 v2 v3 v4 v5 M) (Sum.elim (fun t : Int × Int × bM => b_fr W_X4_greatestOaths M0 t.2.2) (fun t : Int × bM => b_fr W_X4_greatestOaths M0 t.2)) := by
  unfold F_X4_greatestOaths_b68
  refine b_wl_g (fun hg => ?_)
  refine b_wl_l ?_
  refine b_wl_g (fun hg => ?_)
  refine b_wl_lA (c := 129) hF (by decide +kernel) (fun hF => ?_)
  refine b_wl_g (fun hg => ?_)
  refine b_wl_l ?_
  refine b_wl_g (fun hg => ?_)
  exact b_wl_s hF
theorem w_X4_greatestOaths_s19 {v1 : Int} {v2 : Int} {v3 : Int} {v4 : Int} {M0 M : bM} (hF : b_fr W_X4_greatestOaths M0 M) : b_wl (F_X4_greatestOaths_s19 v1 v2 v3 v4 M) (Sum.elim (fun t : Int × Int × bM => b_fr W_X4_greatestOaths M0 t.2.2) (fun t : Int × bM => b_fr W_X4_greatestOaths M0 t.2)) := by
  unfold F_X4_greatestOaths_s19
  refine b_wl_i (fun c5 => ?_) (fun c5 => ?_)
  · exact b_wl_s hF
  · refine b_wl_g (fun hg => ?_)
    refine b_wl_b (b_wl_loop (A := (fun _ : Int × Int => True)) (fun t ht => w_X4_greatestOaths_s35 hF) trivial) (fun t ht => ?_)
    exact w_X4_greatestOaths_b68 hF
theorem w_X4_greatestOaths_b102 {v2 : Int} {M0 M : bM} (hF : b_fr W_X4_greatestOaths M0 M) : b_wl (F_X4_greatestOaths_b102 v2 M) (fun o : Int × bM => b_fr W_X4_greatestOaths M0 o.2) := by
  unfold F_X4_greatestOaths_b102
  exact b_wl_s hF
theorem w_X4_greatestOaths {v1 : Int} {M0 M : bM} (hF : b_fr W_X4_greatestOaths M0 M) : b_wl (F_X4_greatestOaths v1 M) (fun o : Int × bM => b_fr W_X4_greatestOaths M0 o.2) := by
  unfold F_X4_greatestOaths
  refine b_wl_b b_wl_any (fun o _ => ?_)
  refine b_wl_g (fun hg => ?_)
  have g2 := hg
  refine b_wl_b b_wl_any (fun o _ => ?_)
  refine b_wl_l ?_
  refine b_wl_b (b_wl_loop (A := (fun t : Int × Int × bM => b_fr W_X4_greatestOaths M0 t.2.2)) (fun t ht => w_X4_greatestOaths_s19 ht) hF) (fun t ht => ?_)
  replace hF : b_fr W_X4_greatestOaths M0 t.2 := ht
  exact w_X4_greatestOaths_b102 hF
def W_X4_sumOf : List (Nat × Option Int) := [(129, none)]
theorem w_X4_sumOf_s8 {v1 : Int} {v2 : Int} {v3 : Int} {v4 : Int} {v5 : Int} {M0 M : bM} (hF : b_fr W_X4_sumOf M0 M) : b_wl (F_X4_sumOf_s8 v1 v2 v3 v4 v5 M) (Sum.elim (fun t : Int × Int × Int × bM => b_fr W_X4_sumOf M0 t.2.2.2) (fun t : Int × Int × bM => b_fr W_X4_sumOf M0 t.2.2)) := by
  unfold F_X4_sumOf_s8
  refine b_wl_i (fun c1 => ?_) (fun c1 => ?_)
  · exact b_wl_s hF
  · refine b_wl_g (fun hg => ?_)
    refine b_wl_l ?_
    refine b_wl_b b_wl_any (fun o _ => ?_)
    refine b_wl_i (fun c5 => ?_) (fun c5 => ?_)
    · refine b_wl_b b_wl_any (fun o _ => ?_)
      refine b_wl_g (fun hg => ?_)
      refine b_wl_i (fun c9 => ?_) (fun c9 => ?_)
      · refine b_wl_g (fun hg => ?_)
        refine b_wl_lA (c := 129) hF (by decide +kernel) (fun hF => ?_)
        refine b_wl_g (fun hg => ?_)
        exact b_wl_s hF
      · refine b_wl_g (fun hg => ?_)
        exact b_wl_s hF
    · refine b_wl_g (fun hg => ?_)
      exact b_wl_s hF
theorem w_X4_sumOf_b92 {v3 : Int} {v4 : Int} {M0 M : bM} (hF : b_fr W_X4_sumOf M0 M) : b_wl (F_X4_sumOf_b92 v3 v4 M) (fun o : Int × bM => b_fr W_X4_sumOf M0 o.2) := by
  unfold F_X4_sumOf_b92
  refine b_wl_b (w_X4_greatestOaths b_fr_refl) (fun o ho => ?_)
  refine b_wl_two ?_
  replace hF := b_fr_tr hF (b_fr_mo (by decide +kernel) ho)
  refine b_wl_g (fun hg => ?_)
  exact b_wl_s hF
theorem w_X4_sumOf {v1 : Int} {v2 : Int} {M0 M : bM} (hF : b_fr W_X4_sumOf M0 M) : b_wl (F_X4_sumOf v1 v2 M) (fun o : Int × bM => b_fr W_X4_sumOf M0 o.2) := by
  unfold F_X4_sumOf
  refine b_wl_b (b_wl_loop (A := (fun t : Int × Int × Int × bM => b_fr W_X4_sumOf M0 t.2.2.2)) (fun t ht => w_X4_sumOf_s8 ht) hF) (fun t ht => ?_)
  replace hF : b_fr W_X4_sumOf M0 t.2.2 := ht
  exact w_X4_sumOf_b92 hF
def W_X4_decide : List (Nat × Option Int) := [(126, none), (129, none)]
theorem w_X4_decide_b90 {v1 : Int} {v2 : Int} {v3 : Int} {v5 : Int} {v6 : Int} {u0 : Int} {u1 : Int} {M0 M : bM} (hF : b_fr W_X4_decide M0 M) : b_wl (F_X4_decide_b90 v1 v2 v3 v5 v6 u0 u1 M) (Sum.elim (fun t : Int × Int × Int × Int × bM => b_fr W_X4_decide M0 t.2.2.2.2) (fun t : Int × Int × Int × bM => b_fr W_X4_decide M0 t.2.2.2)) := by
  unfold F_X4_decide_b90
  refine b_wl_g (fun hg => ?_)
  exact b_wl_s hF
theorem w_X4_decide_b77 {v1 : Int} {v2 : Int} {v3 : Int} {v4 : Int} {v5 : Int} {v6 : Int} {v8 : Int} {M0 M : bM} (hF : b_fr W_X4_decide M0 M) : b_wl (F_X4_decide_b77 v1 v2 v3 v4 v5 v6 v8 M) (Sum.elim (fun t : Int × Int × Int × Int × bM => b_fr W_X4_decide M0 t.2.2.2.2) (fun t : Int × Int × Int × bM => b_fr W_X4_decide M0 t.2.2.2)) := by
  unfold F_X4_decide_b77
  refine b_wl_i (fun c12 => ?_) (fun c12 => ?_)
  · exact w_X4_decide_b90 hF
  · exact w_X4_decide_b90 hF
theorem w_X4_decide_s11 {v1 : Int} {v2 : Int} {v3 : Int} {v4 : Int} {v5 : Int} {v6 : Int} {M0 M : bM} (hF : b_fr W_X4_decide M0 M) : b_wl (F_X4_decide_s11 v1 v2 v3 v4 v5 v6 M) (Sum.elim (fun t : Int × Int × Int × Int × bM => b_fr W_X4_decide M0 t.2.2.2.2) (fun t : Int × Int × Int × bM => b_fr W_X4_decide M0 t.2.2.2)) := by
  unfold F_X4_decide_s11
  refine b_wl_i (fun c1 => ?_) (fun c1 => ?_)
  · exact b_wl_s hF
  · refine b_wl_g (fun hg => ?_)
    refine b_wl_b b_wl_any (fun o _ => ?_)
    refine b_wl_i (fun c4 => ?_) (fun c4 => ?_)
    · refine b_wl_g (fun hg => ?_)
      exact b_wl_s hF
    · refine b_wl_b b_wl_any (fun o _ => ?_)
      refine b_wl_i (fun c7 => ?_) (fun c7 => ?_)
      · refine b_wl_b (w_X4_sumOf b_fr_refl) (fun o ho => ?_)
        refine b_wl_two ?_
        replace hF := b_fr_tr hF (b_fr_mo (by decide +kernel) ho)
        refine b_wl_i (fun c11 => ?_) (fun c11 => ?_)
        · exact w_X4_decide_b77 hF
        · exact w_X4_decide_b77 hF
      · refine b_wl_g (fun hg => ?_)
        exact b_wl_s hF
theorem w_X4_decide_b183 {v1 : Int} {v2 : Int} {v6 : Int} {v7 : Int} {u1 : Int} {u2 : Int} {M0 M : bM} (hF : b_fr W_X4_decide M0 M) : b_wl (F_X4_decide_b183 v1 v2 v6 v7 u1 u2 M) (fun o : bM => b_fr W_X4_decide M0 o) := by
  unfold F_X4_decide_b183
  refine b_wl_g (fun hg => ?_)
  refine b_wl_lA (c := 126) hF (by decide +kernel) (fun hF => ?_)
  refine b_wl_i (fun c26 => ?_) (fun c26 => ?_)
  · exact b_wl_s hF
  · refine b_wl_i (fun c27 => ?_) (fun c27 => ?_)
    · refine b_wl_g (fun hg => ?_)
      refine b_wl_lA (c := 126) hF (by decide +kernel) (fun hF => ?_)
      exact b_wl_s hF
    · exact b_wl_s hF
theorem w_X4_decide_b163 {v1 : Int} {v2 : Int} {v3 : Int} {v6 : Int} {v7 : Int} {u1 : Int} {u2 : Int} {M0 M : bM} (hF : b_fr W_X4_decide M0 M) : b_wl (F_X4_decide_b163 v1 v2 v3 v6 v7 u1 u2 M) (fun o : bM => b_fr W_X4_decide M0 o) := by
  unfold F_X4_decide_b163
  refine b_wl_g (fun hg => ?_)
  refine b_wl_lA (c := 126) hF (by decide +kernel) (fun hF => ?_)
  refine b_wl_g (fun hg => ?_)
  refine b_wl_i (fun c23 => ?_) (fun c23 => ?_)
  · exact w_X4_decide_b183 hF
  · exact w_X4_decide_b183 hF
theorem w_X4_decide_b138 {v1 : Int} {v2 : Int} {v3 : Int} {v5 : Int} {v6 : Int} {u0 : Int} {M0 M : bM} (hF : b_fr W_X4_decide M0 M) : b_wl (F_X4_decide_b138 v1 v2 v3 v5 v6 u0 M) (fun o : bM => b_fr W_X4_decide M0 o) := by
  unfold F_X4_decide_b138
  refine b_wl_g (fun hg => ?_)
  refine b_wl_i (fun c18 => ?_) (fun c18 => ?_)
  · exact w_X4_decide_b163 hF
  · refine b_wl_b b_wl_any (fun o _ => ?_)
    exact w_X4_decide_b163 hF
theorem w_X4_decide_b137 {v1 : Int} {v2 : Int} {v3 : Int} {v5 : Int} {v6 : Int} {M0 M : bM} (hF : b_fr W_X4_decide M0 M) : b_wl (F_X4_decide_b137 v1 v2 v3 v5 v6 M) (fun o : bM => b_fr W_X4_decide M0 o) := by
  unfold F_X4_decide_b137
  exact w_X4_decide_b138 hF
theorem w_X4_decide_b120 {v1 : Int} {v2 : Int} {v3 : Int} {v4 : Int} {v5 : Int} {u0 : Int} {M0 M : bM} (hF : b_fr W_X4_decide M0 M) : b_wl (F_X4_decide_b120 v1 v2 v3 v4 v5 u0 M) (fun o : bM => b_fr W_X4_decide M0 o) := by
  unfold F_X4_decide_b120
  refine b_wl_i (fun c16 => ?_) (fun c16 => ?_)
  · exact w_X4_decide_b137 hF
  · refine b_wl_i (fun c32 => ?_) (fun c32 => ?_)
    · exact w_X4_decide_b138 hF
    · exact w_X4_decide_b137 hF
theorem w_X4_decide_b119 {v1 : Int} {v2 : Int} {v3 : Int} {v4 : Int} {v5 : Int} {M0 M : bM} (hF : b_fr W_X4_decide M0 M) : b_wl (F_X4_decide_b119 v1 v2 v3 v4 v5 M) (fun o : bM => b_fr W_X4_decide M0 o) := by
  unfold F_X4_decide_b119
  exact w_X4_decide_b120 hF
theorem w_X4_decide_b99 {v1 : Int} {v2 : Int} {v3 : Int} {v4 : Int} {v5 : Int} {M0 M : bM} (hF : b_fr W_X4_decide M0 M) : b_wl (F_X4_decide_b99 v1 v2 v3 v4 v5 M) (fun o : bM => b_fr W_X4_decide M0 o) := by
  unfold F_X4_decide_b99
  refine b_wl_i (fun c15 => ?_) (fun c15 => ?_)
  · exact w_X4_decide_b119 hF
  · refine b_wl_b b_wl_any (fun o _ => ?_)
    refine b_wl_g (fun hg => ?_)
    have g34 := hg
    refine b_wl_b b_wl_any (fun o _ => ?_)
    refine b_wl_i (fun c36 => ?_) (fun c36 => ?_)
    · exact w_X4_decide_b119 hF
    · exact w_X4_decide_b120 hF
theorem w_X4_decide {v1 : Int} {v2 : Int} {M0 M : bM} (hF : b_fr W_X4_decide M0 M) : b_wl (F_X4_decide v1 v2 M) (fun o : bM => b_fr W_X4_decide M0 o) := by
  unfold F_X4_decide
  refine b_wl_b (b_wl_loop (A := (fun t : Int × Int × Int × Int × bM => b_fr W_X4_decide M0 t.2.2.2.2)) (fun t ht => w_X4_decide_s11 ht) hF) (fun t ht => ?_)
  replace hF : b_fr W_X4_decide M0 t.2.2.2 := ht
  exact w_X4_decide_b99 hF
def W_X4_findSpan : List (Nat × Option Int) := [(126, none)]
theorem w_X4_findSpan_s9 {v1 : Int} {v2 : Int} {v3 : Int} {v4 : Int} {M0 M : bM} (hF : b_fr W_X4_findSpan M0 M) : b_wl (F_X4_findSpan_s9 v1 v2 v3 v4 M) (Sum.elim (fun _ : Int × Int × Int => True) (fun _ : Int × Int => True)) := by
  unfold F_X4_findSpan_s9
  refine b_wl_i (fun c1 => ?_) (fun c1 => ?_)
  · exact b_wl_s trivial
  · refine b_wl_g (fun hg => ?_)
    refine b_wl_l ?_
    refine b_wl_b b_wl_any (fun o _ => ?_)
    refine b_wl_i (fun c5 => ?_) (fun c5 => ?_)
    · refine b_wl_g (fun hg => ?_)
      exact b_wl_s trivial
    · refine b_wl_g (fun hg => ?_)
      refine b_wl_l ?_
      refine b_wl_g (fun hg => ?_)
      refine b_wl_l ?_
      refine b_wl_g (fun hg => ?_)
      exact b_wl_s trivial
theorem w_X4_findSpan_b128 {v1 : Int} {v4 : Int} {u1 : Int} {u2 : Int} {M0 M : bM} (hF : b_fr W_X4_findSpan M0 M) : b_wl (F_X4_findSpan_b128 v1 v4 u1 u2 M) (fun o : bM => b_fr W_X4_findSpan M0 o) := by
  unfold F_X4_findSpan_b128
  refine b_wl_g (fun hg => ?_)
  refine b_wl_lA (c := 126) hF (by decide +kernel) (fun hF => ?_)
  refine b_wl_i (fun c21 => ?_) (fun c21 => ?_)
  · exact b_wl_s hF
  · refine b_wl_g (fun hg => ?_)
    refine b_wl_lA (c := 126) hF (by decide +kernel) (fun hF => ?_)
    exact b_wl_s hF
theorem w_X4_findSpan_b108 {v1 : Int} {v3 : Int} {v4 : Int} {u1 : Int} {u2 : Int} {M0 M : bM} (hF : b_fr W_X4_findSpan M0 M) : b_wl (F_X4_findSpan_b108 v1 v3 v4 u1 u2 M) (fun o : bM => b_fr W_X4_findSpan M0 o) := by
  unfold F_X4_findSpan_b108
  refine b_wl_g (fun hg => ?_)
  refine b_wl_lA (c := 126) hF (by decide +kernel) (fun hF => ?_)
  refine b_wl_g (fun hg => ?_)
  refine b_wl_i (fun c18 => ?_) (fun c18 => ?_)
  · exact w_X4_findSpan_b128 hF
  · exact w_X4_findSpan_b128 hF
theorem w_X4_findSpan_b89 {v1 : Int} {v2 : Int} {v3 : Int} {u0 : Int} {M0 M : bM} (hF : b_fr W_X4_findSpan M0 M) : b_wl (F_X4_findSpan_b89 v1 v2 v3 u0 M) (fun o : bM => b_fr W_X4_findSpan M0 o) := by
  unfold F_X4_findSpan_b89
  refine b_wl_g (fun hg => ?_)
  refine b_wl_i (fun c14 => ?_) (fun c14 => ?_)
  · exact w_X4_findSpan_b108 hF
  · exact w_X4_findSpan_b108 hF
theorem w_X4_findSpan_b79 {v1 : Int} {v2 : Int} {v3 : Int} {M0 M : bM} (hF : b_fr W_X4_findSpan M0 M) : b_wl (F_X4_findSpan_b79 v1 v2 v3 M) (fun o : bM => b_fr W_X4_findSpan M0 o) := by
  unfold F_X4_findSpan_b79
  refine b_wl_i (fun c12 => ?_) (fun c12 => ?_)
  · exact w_X4_findSpan_b89 hF
  · exact w_X4_findSpan_b89 hF
theorem w_X4_findSpan {v1 : Int} {M0 M : bM} (hF : b_fr W_X4_findSpan M0 M) : b_wl (F_X4_findSpan v1 M) (fun o : bM => b_fr W_X4_findSpan M0 o) := by
  unfold F_X4_findSpan
  refine b_wl_b (b_wl_loop (A := (fun _ : Int × Int × Int => True)) (fun t ht => w_X4_findSpan_s9 hF) trivial) (fun t ht => ?_)
  exact w_X4_findSpan_b79 hF
def W_X4_know : List (Nat × Option Int) := [(2, some 7), (2, some 8), (2, some 9), (6, some 5), (6, some 6), (6, some 7), (6, some 11), (81, none), (82, none), (83, none), (84, none), (126, none), (127, none), (128, none), (129, none)]
theorem w_X4_know_b97 {v2 : Int} {u1 : Int} {u2 : Int} {M0 M : bM} (hF : b_fr W_X4_know M0 M) : b_wl (F_X4_know_b97 v2 u1 u2 M) (Sum.elim (fun t : Int × bM => b_fr W_X4_know M0 t.2) (fun t : bM => b_fr W_X4_know M0 t)) := by
  unfold F_X4_know_b97
  refine b_wl_g (fun hg => ?_)
  refine b_wl_lA (c := 127) hF (by decide +kernel) (fun hF => ?_)
  refine b_wl_g (fun hg => ?_)
  exact b_wl_s hF
theorem w_X4_know_b96 {v2 : Int} {u1 : Int} {M0 M : bM} (hF : b_fr W_X4_know M0 M) : b_wl (F_X4_know_b96 v2 u1 M) (Sum.elim (fun t : Int × bM => b_fr W_X4_know M0 t.2) (fun t : bM => b_fr W_X4_know M0 t)) := by
  unfold F_X4_know_b96
  exact w_X4_know_b97 hF
theorem w_X4_know_s48 {v2 : Int} {M0 M : bM} (hF : b_fr W_X4_know M0 M) : b_wl (F_X4_know_s48 v2 M) (Sum.elim (fun t : Int × bM => b_fr W_X4_know M0 t.2) (fun t : bM => b_fr W_X4_know M0 t)) := by
  unfold F_X4_know_s48
  refine b_wl_i (fun c7 => ?_) (fun c7 => ?_)
  · exact b_wl_s hF
  · refine b_wl_g (fun hg => ?_)
    refine b_wl_i (fun c9 => ?_) (fun c9 => ?_)
    · exact w_X4_know_b96 hF
    · refine b_wl_b b_wl_any (fun o _ => ?_)
      refine b_wl_i (fun c15 => ?_) (fun c15 => ?_)
      · exact w_X4_know_b97 hF
      · exact w_X4_know_b96 hF
theorem w_X4_know_s134 {v2 : Int} {v3 : Int} {M0 M : bM} (hF : b_fr W_X4_know M0 M) : b_wl (F_X4_know_s134 v2 v3 M) (Sum.elim (fun t : Int × bM => b_fr W_X4_know M0 t.2) (fun t : bM => b_fr W_X4_know M0 t)) := by
  unfold F_X4_know_s134
  refine b_wl_i (fun c22 => ?_) (fun c22 => ?_)
  · exact b_wl_s hF
  · refine b_wl_g (fun hg => ?_)
    refine b_wl_b (w_X4_decide b_fr_refl) (fun o ho => ?_)
    replace hF := b_fr_tr hF (b_fr_mo (by decide +kernel) ho)
    refine b_wl_g (fun hg => ?_)
    exact b_wl_s hF
theorem w_X4_know_b154 {v2 : Int} {M0 M : bM} (hF : b_fr W_X4_know M0 M) : b_wl (F_X4_know_b154 v2 M) (Sum.elim (fun t : Int × bM => b_fr W_X4_know M0 t.2) (fun t : bM => b_fr W_X4_know M0 t)) := by
  unfold F_X4_know_b154
  refine b_wl_g (fun hg => ?_)
  refine b_wl_b (w_X4_findSpan b_fr_refl) (fun o ho => ?_)
  replace hF := b_fr_tr hF (b_fr_mo (by decide +kernel) ho)
  refine b_wl_g (fun hg => ?_)
  refine b_wl_lA (c := 126) hF (by decide +kernel) (fun hF => ?_)
  refine b_wl_g (fun hg => ?_)
  exact b_wl_s hF
theorem w_X4_know_s106 {v2 : Int} {M0 M : bM} (hF : b_fr W_X4_know M0 M) : b_wl (F_X4_know_s106 v2 M) (Sum.elim (fun t : Int × bM => b_fr W_X4_know M0 t.2) (fun t : bM => b_fr W_X4_know M0 t)) := by
  unfold F_X4_know_s106
  refine b_wl_i (fun c16 => ?_) (fun c16 => ?_)
  · exact b_wl_s hF
  · refine b_wl_b (w_X4_findWitnesses b_fr_refl) (fun o ho => ?_)
    replace hF := b_fr_tr hF (b_fr_mo (by decide +kernel) ho)
    refine b_wl_g (fun hg => ?_)
    refine b_wl_lA (c := 126) hF (by decide +kernel) (fun hF => ?_)
    refine b_wl_b (b_wl_loop (A := (fun t : Int × bM => b_fr W_X4_know M0 t.2)) (fun t ht => w_X4_know_s134 ht) hF) (fun t ht => ?_)
    replace hF : b_fr W_X4_know M0 t := ht
    exact w_X4_know_b154 hF
theorem w_X4_know_b225 {M0 M : bM} (hF : b_fr W_X4_know M0 M) : b_wl (F_X4_know_b225 M) (fun o : bM => b_fr W_X4_know M0 o) := by
  unfold F_X4_know_b225
  exact b_wl_s hF
theorem w_X4_know_b104 {M0 M : bM} (hF : b_fr W_X4_know M0 M) : b_wl (F_X4_know_b104 M) (fun o : bM => b_fr W_X4_know M0 o) := by
  unfold F_X4_know_b104
  refine b_wl_b (b_wl_loop (A := (fun t : Int × bM => b_fr W_X4_know M0 t.2)) (fun t ht => w_X4_know_s106 ht) hF) (fun t ht => ?_)
  replace hF : b_fr W_X4_know M0 t := ht
  exact w_X4_know_b225 hF
theorem w_X4_know_b24 {v1 : Int} {M0 M : bM} (hF : b_fr W_X4_know M0 M) : b_wl (F_X4_know_b24 v1 M) (fun o : bM => b_fr W_X4_know M0 o) := by
  unfold F_X4_know_b24
  refine b_wl_lF (c := 6) (i := 5) hF (by decide +kernel) (fun hF => ?_)
  refine b_wl_lF (c := 6) (i := 6) hF (by decide +kernel) (fun hF => ?_)
  refine b_wl_b b_wl_any (fun o _ => ?_)
  refine b_wl_lF (c := 6) (i := 7) hF (by decide +kernel) (fun hF => ?_)
  refine b_wl_b (b_wl_loop (A := (fun t : Int × bM => b_fr W_X4_know M0 t.2)) (fun t ht => w_X4_know_s48 ht) hF) (fun t ht => ?_)
  replace hF : b_fr W_X4_know M0 t := ht
  exact w_X4_know_b104 hF
theorem w_X4_know {v1 : Int} {M0 M : bM} (hF : b_fr W_X4_know M0 M) : b_wl (F_X4_know v1 M) (fun o : bM => b_fr W_X4_know M0 o) := by
  unfold F_X4_know
  refine b_wl_b (w_X8_know b_fr_refl) (fun o ho => ?_)
  replace hF := b_fr_tr hF (b_fr_mo (by decide +kernel) ho)
  refine b_wl_i (fun c2 => ?_) (fun c2 => ?_)
  · exact w_X4_know_b24 hF
  · refine b_wl_i (fun c40 => ?_) (fun c40 => ?_)
    · exact b_wl_s hF
    · exact w_X4_know_b24 hF
def W_X11_shown : List (Nat × Option Int) := [(2, some 7), (2, some 8), (2, some 9), (6, some 5), (6, some 6), (6, some 7), (6, some 11), (81, none), (82, none), (83, none), (84, none), (126, none), (127, none), (128, none), (129, none)]
theorem w_X11_shown {v1 : Int} {v2 : Int} {v3 : Int} {M0 M : bM} (hF : b_fr W_X11_shown M0 M) : b_wl (F_X11_shown v1 v2 v3 M) (fun o : Int × bM => b_fr W_X11_shown M0 o.2) := by
  unfold F_X11_shown
  refine b_wl_i (fun c1 => ?_) (fun c1 => ?_)
  · exact b_wl_s hF
  · refine b_wl_i (fun c2 => ?_) (fun c2 => ?_)
    · exact b_wl_s hF
    · refine b_wl_b b_wl_any (fun o _ => ?_)
      refine b_wl_i (fun c4 => ?_) (fun c4 => ?_)
      · exact b_wl_s hF
      · refine b_wl_i (fun c5 => ?_) (fun c5 => ?_)
        · exact b_wl_s hF
        · refine b_wl_i (fun c6 => ?_) (fun c6 => ?_)
          · refine b_wl_b (w_X4_know b_fr_refl) (fun o ho => ?_)
            replace hF := b_fr_tr hF (b_fr_mo (by decide +kernel) ho)
            refine b_wl_b b_wl_any (fun o _ => ?_)
            exact b_wl_s hF
          · exact b_wl_s hF
def W_X11_root : List (Nat × Option Int) := [(92, none), (93, none)]
theorem w_X11_root {v1 : Int} {v2 : Int} {v3 : Int} {M0 M : bM} (hF : b_fr W_X11_root M0 M) : b_wl (F_X11_root v1 v2 v3 M) (fun o : Int × bM => b_fr W_X11_root M0 o.2) := by
  unfold F_X11_root
  refine b_wl_b b_wl_any (fun o _ => ?_)
  refine b_wl_i (fun c2 => ?_) (fun c2 => ?_)
  · exact b_wl_s hF
  · refine b_wl_b b_wl_any (fun o _ => ?_)
    refine b_wl_i (fun c4 => ?_) (fun c4 => ?_)
    · exact b_wl_s hF
    · refine b_wl_b b_wl_any (fun o _ => ?_)
      refine b_wl_i (fun c6 => ?_) (fun c6 => ?_)
      · exact b_wl_s hF
      · refine b_wl_g (fun hg => ?_)
        refine b_wl_i (fun c8 => ?_) (fun c8 => ?_)
        · refine b_wl_g (fun hg => ?_)
          refine b_wl_i (fun c10 => ?_) (fun c10 => ?_)
          · refine b_wl_g (fun hg => ?_)
            refine b_wl_lA (c := 92) hF (by decide +kernel) (fun hF => ?_)
            refine b_wl_g (fun hg => ?_)
            refine b_wl_lA (c := 93) hF (by decide +kernel) (fun hF => ?_)
            exact b_wl_s hF
          · exact b_wl_s hF
        · exact b_wl_s hF
def W_X2_addLink : List (Nat × Option Int) := [(7, some 6), (130, none), (131, none), (132, none), (133, none), (134, none), (135, none)]
theorem w_X2_addLink {v1 : Int} {M0 M : bM} (hF : b_fr W_X2_addLink M0 M) : b_wl (F_X2_addLink v1 M) (fun o : bM => b_fr W_X2_addLink M0 o) := by
  unfold F_X2_addLink
  refine b_wl_i (fun c1 => ?_) (fun c1 => ?_)
  · exact b_wl_s hF
  · refine b_wl_g (fun hg => ?_)
    refine b_wl_lA (c := 130) hF (by decide +kernel) (fun hF => ?_)
    refine b_wl_b b_wl_any (fun o _ => ?_)
    refine b_wl_g (fun hg => ?_)
    refine b_wl_lA (c := 131) hF (by decide +kernel) (fun hF => ?_)
    refine b_wl_b b_wl_any (fun o _ => ?_)
    refine b_wl_g (fun hg => ?_)
    refine b_wl_lA (c := 132) hF (by decide +kernel) (fun hF => ?_)
    refine b_wl_b b_wl_any (fun o _ => ?_)
    refine b_wl_g (fun hg => ?_)
    refine b_wl_lA (c := 133) hF (by decide +kernel) (fun hF => ?_)
    refine b_wl_b b_wl_any (fun o _ => ?_)
    refine b_wl_b b_wl_any (fun o _ => ?_)
    refine b_wl_g (fun hg => ?_)
    refine b_wl_lA (c := 134) hF (by decide +kernel) (fun hF => ?_)
    refine b_wl_b b_wl_any (fun o _ => ?_)
    refine b_wl_b b_wl_any (fun o _ => ?_)
    refine b_wl_g (fun hg => ?_)
    refine b_wl_lA (c := 135) hF (by decide +kernel) (fun hF => ?_)
    refine b_wl_g (fun hg => ?_)
    refine b_wl_lF (c := 7) (i := 6) hF (by decide +kernel) (fun hF => ?_)
    exact b_wl_s hF
def W_X2_gather : List (Nat × Option Int) := [(7, some 3), (7, some 4), (7, some 5), (7, some 6), (7, some 13), (130, none), (131, none), (132, none), (133, none), (134, none), (135, none), (136, none)]
theorem w_X2_gather_s60 {v3 : Int} {v5 : Int} {M0 M : bM} (hF : b_fr W_X2_gather M0 M) : b_wl (F_X2_gather_s60 v3 v5 M) (Sum.elim (fun t : Int × bM => b_fr W_X2_gather M0 t.2) (fun t : bM => b_fr W_X2_gather M0 t)) := by
  unfold F_X2_gather_s60
  refine b_wl_i (fun c13 => ?_) (fun c13 => ?_)
  · exact b_wl_s hF
  · refine b_wl_b b_wl_any (fun o _ => ?_)
    refine b_wl_b b_wl_any (fun o _ => ?_)
    refine b_wl_i (fun c16 => ?_) (fun c16 => ?_)
    · refine b_wl_g (fun hg => ?_)
      exact b_wl_s hF
    · refine b_wl_b b_wl_any (fun o _ => ?_)
      refine b_wl_i (fun c19 => ?_) (fun c19 => ?_)
      · refine b_wl_g (fun hg => ?_)
        exact b_wl_s hF
      · refine b_wl_b (w_X2_addLink b_fr_refl) (fun o ho => ?_)
        replace hF := b_fr_tr hF (b_fr_mo (by decide +kernel) ho)
        refine b_wl_g (fun hg => ?_)
        exact b_wl_s hF
theorem w_X2_gather_b176 {v3 : Int} {v5 : Int} {u1 : Int} {u2 : Int} {M0 M : bM} (hF : b_fr W_X2_gather M0 M) : b_wl (F_X2_gather_b176 v3 v5 u1 u2 M) (Sum.elim (fun t : Int × bM => b_fr W_X2_gather M0 t.2) (fun t : bM => b_fr W_X2_gather M0 t)) := by
  unfold F_X2_gather_b176
  refine b_wl_lF (c := 7) (i := 13) hF (by decide +kernel) (fun hF => ?_)
  refine b_wl_g (fun hg => ?_)
  exact b_wl_s hF
theorem w_X2_gather_s122 {v3 : Int} {v5 : Int} {M0 M : bM} (hF : b_fr W_X2_gather M0 M) : b_wl (F_X2_gather_s122 v3 v5 M) (Sum.elim (fun t : Int × bM => b_fr W_X2_gather M0 t.2) (fun t : bM => b_fr W_X2_gather M0 t)) := by
  unfold F_X2_gather_s122
  refine b_wl_i (fun c23 => ?_) (fun c23 => ?_)
  · exact b_wl_s hF
  · refine b_wl_g (fun hg => ?_)
    refine b_wl_b b_wl_any (fun o _ => ?_)
    refine b_wl_g (fun hg => ?_)
    refine b_wl_lA (c := 136) hF (by decide +kernel) (fun hF => ?_)
    refine b_wl_g (fun hg => ?_)
    refine b_wl_b b_wl_any (fun o _ => ?_)
    refine b_wl_i (fun c30 => ?_) (fun c30 => ?_)
    · exact w_X2_gather_b176 hF
    · exact w_X2_gather_b176 hF
theorem w_X2_gather_s194 {v3 : Int} {v5 : Int} {M0 M : bM} (hF : b_fr W_X2_gather M0 M) : b_wl (F_X2_gather_s194 v3 v5 M) (Sum.elim (fun t : Int × bM => b_fr W_X2_gather M0 t.2) (fun t : bM => b_fr W_X2_gather M0 t)) := by
  unfold F_X2_gather_s194
  refine b_wl_i (fun c34 => ?_) (fun c34 => ?_)
  · exact b_wl_s hF
  · refine b_wl_b b_wl_any (fun o _ => ?_)
    refine b_wl_i (fun c36 => ?_) (fun c36 => ?_)
    · refine b_wl_g (fun hg => ?_)
      exact b_wl_s hF
    · refine b_wl_g (fun hg => ?_)
      refine b_wl_i (fun c39 => ?_) (fun c39 => ?_)
      · refine b_wl_g (fun hg => ?_)
        exact b_wl_s hF
      · refine b_wl_lF (c := 7) (i := 5) hF (by decide +kernel) (fun hF => ?_)
        refine b_wl_g (fun hg => ?_)
        refine b_wl_b b_wl_any (fun o _ => ?_)
        refine b_wl_b b_wl_any (fun o _ => ?_)
        refine b_wl_g (fun hg => ?_)
        refine b_wl_lA (c := 136) hF (by decide +kernel) (fun hF => ?_)
        refine b_wl_g (fun hg => ?_)
        exact b_wl_s hF
theorem w_X2_gather_b283 {M0 M : bM} (hF : b_fr W_X2_gather M0 M) : b_wl (F_X2_gather_b283 M) (fun o : bM => b_fr W_X2_gather M0 o) := by
  unfold F_X2_gather_b283
  exact b_wl_s hF
theorem w_X2_gather_b186 {v3 : Int} {M0 M : bM} (hF : b_fr W_X2_gather M0 M) : b_wl (F_X2_gather_b186 v3 M) (fun o : bM => b_fr W_X2_gather M0 o) := by
  unfold F_X2_gather_b186
  refine b_wl_lF (c := 7) (i := 5) hF (by decide +kernel) (fun hF => ?_)
  refine b_wl_b (b_wl_loop (A := (fun t : Int × bM => b_fr W_X2_gather M0 t.2)) (fun t ht => w_X2_gather_s194 ht) hF) (fun t ht => ?_)
  replace hF : b_fr W_X2_gather M0 t := ht
  exact w_X2_gather_b283 hF
theorem w_X2_gather_b119 {v3 : Int} {M0 M : bM} (hF : b_fr W_X2_gather M0 M) : b_wl (F_X2_gather_b119 v3 M) (fun o : bM => b_fr W_X2_gather M0 o) := by
  unfold F_X2_gather_b119
  refine b_wl_b (b_wl_loop (A := (fun t : Int × bM => b_fr W_X2_gather M0 t.2)) (fun t ht => w_X2_gather_s122 ht) hF) (fun t ht => ?_)
  replace hF : b_fr W_X2_gather M0 t := ht
  exact w_X2_gather_b186 hF
theorem w_X2_gather_b22 {v1 : Int} {v2 : Int} {u1 : Int} {M0 M : bM} (hF : b_fr W_X2_gather M0 M) : b_wl (F_X2_gather_b22 v1 v2 u1 M) (fun o : bM => b_fr W_X2_gather M0 o) := by
  unfold F_X2_gather_b22
  refine b_wl_g (fun hg => ?_)
  refine b_wl_lF (c := 7) (i := 3) hF (by decide +kernel) (fun hF => ?_)
  refine b_wl_b b_wl_any (fun o _ => ?_)
  refine b_wl_lF (c := 7) (i := 4) hF (by decide +kernel) (fun hF => ?_)
  refine b_wl_g (fun hg => ?_)
  refine b_wl_l ?_
  refine b_wl_lF (c := 7) (i := 6) hF (by decide +kernel) (fun hF => ?_)
  refine b_wl_lF (c := 7) (i := 13) hF (by decide +kernel) (fun hF => ?_)
  refine b_wl_b (b_wl_loop (A := (fun t : Int × bM => b_fr W_X2_gather M0 t.2)) (fun t ht => w_X2_gather_s60 ht) hF) (fun t ht => ?_)
  replace hF : b_fr W_X2_gather M0 t := ht
  exact w_X2_gather_b119 hF
theorem w_X2_gather {v1 : Int} {v2 : Int} {M0 M : bM} (hF : b_fr W_X2_gather M0 M) : b_wl (F_X2_gather v1 v2 M) (fun o : bM => b_fr W_X2_gather M0 o) := by
  unfold F_X2_gather
  refine b_wl_b b_wl_any (fun o _ => ?_)
  refine b_wl_g (fun hg => ?_)
  have g2 := hg
  refine b_wl_b b_wl_any (fun o _ => ?_)
  refine b_wl_i (fun c4 => ?_) (fun c4 => ?_)
  · exact w_X2_gather_b22 hF
  · exact w_X2_gather_b22 hF
def W_X2_fill : List (Nat × Option Int) := [(137, none)]
theorem w_X2_fill_b76 {v1 : Int} {v2 : Int} {v3 : Int} {u1 : Int} {u2 : Int} {M0 M : bM} (hF : b_fr W_X2_fill M0 M) : b_wl (F_X2_fill_b76 v1 v2 v3 u1 u2 M) (Sum.elim (fun t : Int × bM => b_fr W_X2_fill M0 t.2) (fun t : bM => b_fr W_X2_fill M0 t)) := by
  unfold F_X2_fill_b76
  refine b_wl_g (fun hg => ?_)
  refine b_wl_lA (c := 137) hF (by decide +kernel) (fun hF => ?_)
  refine b_wl_g (fun hg => ?_)
  exact b_wl_s hF
theorem w_X2_fill_b48 {v1 : Int} {v2 : Int} {v3 : Int} {u0 : Int} {M0 M : bM} (hF : b_fr W_X2_fill M0 M) : b_wl (F_X2_fill_b48 v1 v2 v3 u0 M) (Sum.elim (fun t : Int × bM => b_fr W_X2_fill M0 t.2) (fun t : bM => b_fr W_X2_fill M0 t)) := by
  unfold F_X2_fill_b48
  refine b_wl_g (fun hg => ?_)
  refine b_wl_i (fun c10 => ?_) (fun c10 => ?_)
  · exact w_X2_fill_b76 hF
  · exact w_X2_fill_b76 hF
theorem w_X2_fill_s12 {v1 : Int} {v2 : Int} {v3 : Int} {M0 M : bM} (hF : b_fr W_X2_fill M0 M) : b_wl (F_X2_fill_s12 v1 v2 v3 M) (Sum.elim (fun t : Int × bM => b_fr W_X2_fill M0 t.2) (fun t : bM => b_fr W_X2_fill M0 t)) := by
  unfold F_X2_fill_s12
  refine b_wl_i (fun c3 => ?_) (fun c3 => ?_)
  · exact b_wl_s hF
  · refine b_wl_i (fun c4 => ?_) (fun c4 => ?_)
    · refine b_wl_b b_wl_any (fun o _ => ?_)
      refine b_wl_i (fun c6 => ?_) (fun c6 => ?_)
      · exact w_X2_fill_b48 hF
      · exact w_X2_fill_b48 hF
    · refine b_wl_b b_wl_any (fun o _ => ?_)
      exact w_X2_fill_b48 hF
theorem w_X2_fill_b83 {v1 : Int} {v2 : Int} {M0 M : bM} (hF : b_fr W_X2_fill M0 M) : b_wl (F_X2_fill_b83 v1 v2 M) (Sum.elim (fun t : Int × bM => b_fr W_X2_fill M0 t.2) (fun t : bM => b_fr W_X2_fill M0 t)) := by
  unfold F_X2_fill_b83
  refine b_wl_g (fun hg => ?_)
  exact b_wl_s hF
theorem w_X2_fill_s2 {v1 : Int} {v2 : Int} {M0 M : bM} (hF : b_fr W_X2_fill M0 M) : b_wl (F_X2_fill_s2 v1 v2 M) (Sum.elim (fun t : Int × bM => b_fr W_X2_fill M0 t.2) (fun t : bM => b_fr W_X2_fill M0 t)) := by
  unfold F_X2_fill_s2
  refine b_wl_b b_wl_any (fun o _ => ?_)
  refine b_wl_i (fun c2 => ?_) (fun c2 => ?_)
  · exact b_wl_s hF
  · refine b_wl_b (b_wl_loop (A := (fun t : Int × bM => b_fr W_X2_fill M0 t.2)) (fun t ht => w_X2_fill_s12 ht) hF) (fun t ht => ?_)
    replace hF : b_fr W_X2_fill M0 t := ht
    exact w_X2_fill_b83 hF
theorem w_X2_fill_b89 {M0 M : bM} (hF : b_fr W_X2_fill M0 M) : b_wl (F_X2_fill_b89 M) (fun o : bM => b_fr W_X2_fill M0 o) := by
  unfold F_X2_fill_b89
  exact b_wl_s hF
theorem w_X2_fill {v1 : Int} {M0 M : bM} (hF : b_fr W_X2_fill M0 M) : b_wl (F_X2_fill v1 M) (fun o : bM => b_fr W_X2_fill M0 o) := by
  unfold F_X2_fill
  refine b_wl_b (b_wl_loop (A := (fun t : Int × bM => b_fr W_X2_fill M0 t.2)) (fun t ht => w_X2_fill_s2 ht) hF) (fun t ht => ?_)
  replace hF : b_fr W_X2_fill M0 t := ht
  exact w_X2_fill_b89 hF
def W_X2_sortPoints : List (Nat × Option Int) := [(138, none)]
theorem w_X2_sortPoints_s25 {v1 : Int} {v2 : Int} {v3 : Int} {v4 : Int} {M0 M : bM} (hF : b_fr W_X2_sortPoints M0 M) : b_wl (F_X2_sortPoints_s25 v1 v2 v3 v4 M) (Sum.elim (fun t : Int × bM => b_fr W_X2_sortPoints M0 t.2) (fun t : Int × bM => b_fr W_X2_sortPoints M0 t.2)) := by
  unfold F_X2_sortPoints_s25
  refine b_wl_i (fun c5 => ?_) (fun c5 => ?_)
  · exact b_wl_s hF
  · refine b_wl_g (fun hg => ?_)
    refine b_wl_i (fun c9 => ?_) (fun c9 => ?_)
    · exact b_wl_s hF
    · refine b_wl_g (fun hg => ?_)
      refine b_wl_lA (c := 138) hF (by decide +kernel) (fun hF => ?_)
      refine b_wl_g (fun hg => ?_)
      exact b_wl_s hF
theorem w_X2_sortPoints_b70 {v1 : Int} {v2 : Int} {v3 : Int} {v4 : Int} {M0 M : bM} (hF : b_fr W_X2_sortPoints M0 M) : b_wl (F_X2_sortPoints_b70 v1 v2 v3 v4 M) (Sum.elim (fun t : Int × Int × bM => b_fr W_X2_sortPoints M0 t.2.2) (fun t : Int × bM => b_fr W_X2_sortPoints M0 t.2)) := by
  unfold F_X2_sortPoints_b70
  refine b_wl_g (fun hg => ?_)
  refine b_wl_lA (c := 138) hF (by decide +kernel) (fun hF => ?_)
  refine b_wl_g (fun hg => ?_)
  exact b_wl_s hF
theorem w_X2_sortPoints_s4 {v1 : Int} {v2 : Int} {v3 : Int} {M0 M : bM} (hF : b_fr W_X2_sortPoints M0 M) : b_wl (F_X2_sortPoints_s4 v1 v2 v3 M) (Sum.elim (fun t : Int × Int × bM => b_fr W_X2_sortPoints M0 t.2.2) (fun t : Int × bM => b_fr W_X2_sortPoints M0 t.2)) := by
  unfold F_X2_sortPoints_s4
  refine b_wl_i (fun c1 => ?_) (fun c1 => ?_)
  · exact b_wl_s hF
  · refine b_wl_g (fun hg => ?_)
    refine b_wl_i (fun c3 => ?_) (fun c3 => ?_)
    · refine b_wl_g (fun hg => ?_)
      exact b_wl_s hF
    · refine b_wl_b (b_wl_loop (A := (fun t : Int × bM => b_fr W_X2_sortPoints M0 t.2)) (fun t ht => w_X2_sortPoints_s25 ht) hF) (fun t ht => ?_)
      replace hF : b_fr W_X2_sortPoints M0 t.2 := ht
      exact w_X2_sortPoints_b70 hF
theorem w_X2_sortPoints_b92 {v2 : Int} {M0 M : bM} (hF : b_fr W_X2_sortPoints M0 M) : b_wl (F_X2_sortPoints_b92 v2 M) (fun o : Int × bM => b_fr W_X2_sortPoints M0 o.2) := by
  unfold F_X2_sortPoints_b92
  exact b_wl_s hF
theorem w_X2_sortPoints {v1 : Int} {M0 M : bM} (hF : b_fr W_X2_sortPoints M0 M) : b_wl (F_X2_sortPoints v1 M) (fun o : Int × bM => b_fr W_X2_sortPoints M0 o.2) := by
  unfold F_X2_sortPoints
  refine b_wl_b (b_wl_loop (A := (fun t : Int × Int × bM => b_fr W_X2_sortPoints M0 t.2.2)) (fun t ht => w_X2_sortPoints_s4 ht) hF) (fun t ht => ?_)
  replace hF : b_fr W_X2_sortPoints M0 t.2 := ht
  exact w_X2_sortPoints_b92 hF
def W_X2_greatestWeakest : List (Nat × Option Int) := [(137, none), (138, none)]
theorem w_X2_greatestWeakest_s27 {v2 : Int} {v3 : Int} {v4 : Int} {M0 M : bM} (hF : b_fr W_X2_greatestWeakest M0 M) : b_wl (F_X2_greatestWeakest_s27 v2 v3 v4 M) (Sum.elim (fun t : Int × Int × Int × bM => b_fr W_X2_greatestWeakest M0 t.2.2.2) (fun t : Int × bM => b_fr W_X2_greatestWeakest M0 t.2)) := by
  unfold F_X2_greatestWeakest_s27
  refine b_wl_i (fun c7 => ?_) (fun c7 => ?_)
  · exact b_wl_s hF
  · refine b_wl_i (fun c8 => ?_) (fun c8 => ?_)
    · exact b_wl_s hF
    · refine b_wl_g (fun hg => ?_)
      refine b_wl_l ?_
      refine b_wl_g (fun hg => ?_)
      refine b_wl_b (w_X2_fill b_fr_refl) (fun o ho => ?_)
      replace hF := b_fr_tr hF (b_fr_mo (by decide +kernel) ho)
      refine b_wl_b b_wl_any (fun o _ => ?_)
      refine b_wl_i (fun c15 => ?_) (fun c15 => ?_)
      · refine b_wl_g (fun hg => ?_)
        exact b_wl_s hF
      · refine b_wl_g (fun hg => ?_)
        exact b_wl_s hF
theorem w_X2_greatestWeakest_b83 {v2 : Int} {M0 M : bM} (hF : b_fr W_X2_greatestWeakest M0 M) : b_wl (F_X2_greatestWeakest_b83 v2 M) (fun o : Int × bM => b_fr W_X2_greatestWeakest M0 o.2) := by
  unfold F_X2_greatestWeakest_b83
  refine b_wl_g (fun hg => ?_)
  exact b_wl_s hF
theorem w_X2_greatestWeakest {v1 : Int} {M0 M : bM} (hF : b_fr W_X2_greatestWeakest M0 M) : b_wl (F_X2_greatestWeakest v1 M) (fun o : Int × bM => b_fr W_X2_greatestWeakest M0 o.2) := by
  unfold F_X2_greatestWeakest
  refine b_wl_b (w_X2_fill b_fr_refl) (fun o ho => ?_)
  replace hF := b_fr_tr hF (b_fr_mo (by decide +kernel) ho)
  refine b_wl_b b_wl_any (fun o _ => ?_)
  refine b_wl_i (fun c3 => ?_) (fun c3 => ?_)
  · exact b_wl_s hF
  · refine b_wl_b (w_X2_sortPoints b_fr_refl) (fun o ho => ?_)
    refine b_wl_two ?_
    replace hF := b_fr_tr hF (b_fr_mo (by decide +kernel) ho)
    refine b_wl_g (fun hg => ?_)
    refine b_wl_b (b_wl_loop (A := (fun t : Int × Int × Int × bM => b_fr W_X2_greatestWeakest M0 t.2.2.2)) (fun t ht => w_X2_greatestWeakest_s27 ht) hF) (fun t ht => ?_)
    replace hF : b_fr W_X2_greatestWeakest M0 t.2 := ht
    exact w_X2_greatestWeakest_b83 hF
def W_X2_tell : List (Nat × Option Int) := [(140, none)]
theorem w_X2_tell {v1 : Int} {v2 : Int} {v3 : Int} {v4 : Int} {M0 M : bM} (hF : b_fr W_X2_tell M0 M) : b_wl (F_X2_tell v1 v2 v3 v4 M) (fun o : bM => b_fr W_X2_tell M0 o) := by
  unfold F_X2_tell
  refine b_wl_lA (c := 140) hF (by decide +kernel) (fun hF => ?_)
  refine b_wl_lA (c := 140) hF (by decide +kernel) (fun hF => ?_)
  refine b_wl_lA (c := 140) hF (by decide +kernel) (fun hF => ?_)
  refine b_wl_lA (c := 140) hF (by decide +kernel) (fun hF => ?_)
  exact b_wl_s hF
def W_X2_takeLinkWithGap : List (Nat × Option Int) := [(140, none)]
theorem w_X2_takeLinkWithGap_s17 {v1 : Int} {v2 : Int} {v3 : Int} {M0 M : bM} (hF : b_fr W_X2_takeLinkWithGap M0 M) : b_wl (F_X2_takeLinkWithGap_s17 v1 v2 v3 M) (Sum.elim (fun t : Int × Int × bM => b_fr W_X2_takeLinkWithGap M0 t.2.2) (fun t : Int × bM => b_fr W_X2_takeLinkWithGap M0 t.2)) := by
  unfold F_X2_takeLinkWithGap_s17
  refine b_wl_i (fun c2 => ?_) (fun c2 => ?_)
  · exact b_wl_s hF
  · refine b_wl_b b_wl_any (fun o _ => ?_)
    refine b_wl_i (fun c4 => ?_) (fun c4 => ?_)
    · exact b_wl_s hF
    · refine b_wl_b b_wl_any (fun o _ => ?_)
      refine b_wl_i (fun c6 => ?_) (fun c6 => ?_)
      · refine b_wl_g (fun hg => ?_)
        exact b_wl_s hF
      · refine b_wl_g (fun hg => ?_)
        refine b_wl_i (fun c10 => ?_) (fun c10 => ?_)
        · refine b_wl_g (fun hg => ?_)
          exact b_wl_s hF
        · refine b_wl_g (fun hg => ?_)
          refine b_wl_i (fun c13 => ?_) (fun c13 => ?_)
          · refine b_wl_g (fun hg => ?_)
            exact b_wl_s hF
          · refine b_wl_g (fun hg => ?_)
            refine b_wl_l ?_
            refine b_wl_b (w_X2_tell b_fr_refl) (fun o ho => ?_)
            replace hF := b_fr_tr hF (b_fr_mo (by decide +kernel) ho)
            refine b_wl_g (fun hg => ?_)
            refine b_wl_lA (c := 140) hF (by decide +kernel) (fun hF => ?_)
            refine b_wl_g (fun hg => ?_)
            exact b_wl_s hF
theorem w_X2_takeLinkWithGap_b102 {v1 : Int} {v2 : Int} {M0 M : bM} (hF : b_fr W_X2_takeLinkWithGap M0 M) : b_wl (F_X2_takeLinkWithGap_b102 v1 v2 M) (Sum.elim (fun t : Int × Int × bM => b_fr W_X2_takeLinkWithGap M0 t.2.2) (fun t : Int × bM => b_fr W_X2_takeLinkWithGap M0 t.2)) := by
  unfold F_X2_takeLinkWithGap_b102
  refine b_wl_g (fun hg => ?_)
  exact b_wl_s hF
theorem w_X2_takeLinkWithGap_s4 {v1 : Int} {v2 : Int} {M0 M : bM} (hF : b_fr W_X2_takeLinkWithGap M0 M) : b_wl (F_X2_takeLinkWithGap_s4 v1 v2 M) (Sum.elim (fun t : Int × Int × bM => b_fr W_X2_takeLinkWithGap M0 t.2.2) (fun t : Int × bM => b_fr W_X2_takeLinkWithGap M0 t.2)) := by
  unfold F_X2_takeLinkWithGap_s4
  refine b_wl_i (fun c1 => ?_) (fun c1 => ?_)
  · exact b_wl_s hF
  · refine b_wl_b (b_wl_loop (A := (fun t : Int × Int × bM => b_fr W_X2_takeLinkWithGap M0 t.2.2)) (fun t ht => w_X2_takeLinkWithGap_s17 ht) hF) (fun t ht => ?_)
    replace hF : b_fr W_X2_takeLinkWithGap M0 t.2 := ht
    exact w_X2_takeLinkWithGap_b102 hF
theorem w_X2_takeLinkWithGap_b108 {v1 : Int} {M0 M : bM} (hF : b_fr W_X2_takeLinkWithGap M0 M) : b_wl (F_X2_takeLinkWithGap_b108 v1 M) (fun o : Int × bM => b_fr W_X2_takeLinkWithGap M0 o.2) := by
  unfold F_X2_takeLinkWithGap_b108
  refine b_wl_i (fun c22 => ?_) (fun c22 => ?_)
  · exact b_wl_s hF
  · exact b_wl_s hF
theorem w_X2_takeLinkWithGap {M0 M : bM} (hF : b_fr W_X2_takeLinkWithGap M0 M) : b_wl (F_X2_takeLinkWithGap M) (fun o : Int × bM => b_fr W_X2_takeLinkWithGap M0 o.2) := by
  unfold F_X2_takeLinkWithGap
  refine b_wl_b (b_wl_loop (A := (fun t : Int × Int × bM => b_fr W_X2_takeLinkWithGap M0 t.2.2)) (fun t ht => w_X2_takeLinkWithGap_s4 ht) hF) (fun t ht => ?_)
  replace hF : b_fr W_X2_takeLinkWithGap M0 t.2 := ht
  exact w_X2_takeLinkWithGap_b108 hF
def W_X2_layRow : List (Nat × Option Int) := [(140, none)]
theorem w_X2_layRow_s41 {v1 : Int} {v3 : Int} {v4 : Int} {v5 : Int} {M0 M : bM} (hF : b_fr W_X2_layRow M0 M) : b_wl (F_X2_layRow_s41 v1 v3 v4 v5 M) (Sum.elim (fun t : Int × Int × Int × bM => b_fr W_X2_layRow M0 t.2.2.2) (fun t : bM => b_fr W_X2_layRow M0 t)) := by
  unfold F_X2_layRow_s41
  refine b_wl_i (fun c5 => ?_) (fun c5 => ?_)
  · exact b_wl_s hF
  · refine b_wl_i (fun c6 => ?_) (fun c6 => ?_)
    · exact b_wl_s hF
    · refine b_wl_g (fun hg => ?_)
      refine b_wl_b b_wl_any (fun o _ => ?_)
      refine b_wl_i (fun c9 => ?_) (fun c9 => ?_)
      · refine b_wl_g (fun hg => ?_)
        exact b_wl_s hF
      · refine b_wl_g (fun hg => ?_)
        refine b_wl_lA (c := 140) hF (by decide +kernel) (fun hF => ?_)
        refine b_wl_g (fun hg => ?_)
        refine b_wl_l ?_
        refine b_wl_g (fun hg => ?_)
        exact b_wl_s hF
theorem w_X2_layRow_b103 {M0 M : bM} (hF : b_fr W_X2_layRow M0 M) : b_wl (F_X2_layRow_b103 M) (fun o : bM => b_fr W_X2_layRow M0 o) := by
  unfold F_X2_layRow_b103
  exact b_wl_s hF
theorem w_X2_layRow_b36 {v1 : Int} {v3 : Int} {u0 : Int} {M0 M : bM} (hF : b_fr W_X2_layRow M0 M) : b_wl (F_X2_layRow_b36 v1 v3 u0 M) (fun o : bM => b_fr W_X2_layRow M0 o) := by
  unfold F_X2_layRow_b36
  refine b_wl_b (b_wl_loop (A := (fun t : Int × Int × Int × bM => b_fr W_X2_layRow M0 t.2.2.2)) (fun t ht => w_X2_layRow_s41 ht) hF) (fun t ht => ?_)
  replace hF : b_fr W_X2_layRow M0 t := ht
  exact w_X2_layRow_b103 hF
theorem w_X2_layRow {v1 : Int} {M0 M : bM} (hF : b_fr W_X2_layRow M0 M) : b_wl (F_X2_layRow v1 M) (fun o : bM => b_fr W_X2_layRow M0 o) := by
  unfold F_X2_layRow
  refine b_wl_g (fun hg => ?_)
  refine b_wl_l ?_
  refine b_wl_b b_wl_any (fun o _ => ?_)
  refine b_wl_i (fun c4 => ?_) (fun c4 => ?_)
  · exact w_X2_layRow_b36 hF
  · refine b_wl_g (fun hg => ?_)
    exact w_X2_layRow_b36 hF
def W_X2_search : List (Nat × Option Int) := [(7, some 3), (7, some 4), (7, some 5), (7, some 6), (7, some 13), (130, none), (131, none), (132, none), (133, none), (134, none), (135, none), (136, none), (137, none), (138, none), (140, none)]
theorem w_X2_search_b24 {v3 : Int} {u1 : Int} {M0 M : bM} (hF : b_fr W_X2_search M0 M) : b_wl (F_X2_search_b24 v3 u1 M) (fun o : Int × bM => b_fr W_X2_search M0 o.2) := by
  unfold F_X2_search_b24
  refine b_wl_b (w_X2_greatestWeakest b_fr_refl) (fun o ho => ?_)
  refine b_wl_two ?_
  replace hF := b_fr_tr hF (b_fr_mo (by decide +kernel) ho)
  refine b_wl_i (fun c6 => ?_) (fun c6 => ?_)
  · refine b_wl_i (fun c7 => ?_) (fun c7 => ?_)
    · refine b_wl_b (w_X2_takeLinkWithGap b_fr_refl) (fun o ho => ?_)
      refine b_wl_two ?_
      replace hF := b_fr_tr hF (b_fr_mo (by decide +kernel) ho)
      refine b_wl_i (fun c10 => ?_) (fun c10 => ?_)
      · exact b_wl_s hF
      · exact b_wl_s hF
    · refine b_wl_b (w_X2_tell b_fr_refl) (fun o ho => ?_)
      replace hF := b_fr_tr hF (b_fr_mo (by decide +kernel) ho)
      exact b_wl_s hF
  · refine b_wl_b (w_X2_fill b_fr_refl) (fun o ho => ?_)
    replace hF := b_fr_tr hF (b_fr_mo (by decide +kernel) ho)
    refine b_wl_b b_wl_any (fun o _ => ?_)
    refine b_wl_b b_wl_any (fun o _ => ?_)
    refine b_wl_b (w_X2_tell b_fr_refl) (fun o ho => ?_)
    replace hF := b_fr_tr hF (b_fr_mo (by decide +kernel) ho)
    refine b_wl_b (w_X2_layRow b_fr_refl) (fun o ho => ?_)
    replace hF := b_fr_tr hF (b_fr_mo (by decide +kernel) ho)
    exact b_wl_s hF
theorem w_X2_search {v1 : Int} {v2 : Int} {M0 M : bM} (hF : b_fr W_X2_search M0 M) : b_wl (F_X2_search v1 v2 M) (fun o : Int × bM => b_fr W_X2_search M0 o.2) := by
  unfold F_X2_search
  refine b_wl_b (w_X2_gather b_fr_refl) (fun o ho => ?_)
  replace hF := b_fr_tr hF (b_fr_mo (by decide +kernel) ho)
  refine b_wl_b b_wl_any (fun o _ => ?_)
  refine b_wl_i (fun c3 => ?_) (fun c3 => ?_)
  · exact w_X2_search_b24 hF
  · exact w_X2_search_b24 hF
def W_X2_remember : List (Nat × Option Int) := [(141, none)]
theorem w_X2_remember {M0 M : bM} (hF : b_fr W_X2_remember M0 M) : b_wl (F_X2_remember M) (fun o : bM => b_fr W_X2_remember M0 o) := by
  unfold F_X2_remember
  refine b_wl_g (fun hg => ?_)
  refine b_wl_lS (c := 141) hF (by decide +kernel) (fun hF => ?_)
  exact b_wl_s hF
def W_X11_chain : List (Nat × Option Int) := [(2, some 7), (2, some 8), (2, some 9), (6, some 5), (6, some 6), (6, some 7), (6, some 11), (7, some 3), (7, some 4), (7, some 5), (7, some 6), (7, some 13), (81, none), (82, none), (83, none), (84, none), (126, none), (127, none), (128, none), (129, none), (130, none), (131, none), (132, none), (133, none), (134, none), (135, none), (136, none), (137, none), (138, none), (140, none), (141, none)]
theorem w_X11_chain {v1 : Int} {v2 : Int} {v3 : Int} {M0 M : bM} (hF : b_fr W_X11_chain M0 M) : b_wl (F_X11_chain v1 v2 v3 M) (fun o : Int × bM => b_fr W_X11_chain M0 o.2) := by
  unfold F_X11_chain
  refine b_wl_b b_wl_any (fun o _ => ?_)
  refine b_wl_i (fun c2 => ?_) (fun c2 => ?_)
  · exact b_wl_s hF
  · refine b_wl_b b_wl_any (fun o _ => ?_)
    refine b_wl_i (fun c4 => ?_) (fun c4 => ?_)
    · exact b_wl_s hF
    · refine b_wl_b b_wl_any (fun o _ => ?_)
      refine b_wl_i (fun c6 => ?_) (fun c6 => ?_)
      · exact b_wl_s hF
      · refine b_wl_b (w_X4_know b_fr_refl) (fun o ho => ?_)
        replace hF := b_fr_tr hF (b_fr_mo (by decide +kernel) ho)
        refine b_wl_b (w_X2_search b_fr_refl) (fun o ho => ?_)
        refine b_wl_two ?_
        replace hF := b_fr_tr hF (b_fr_mo (by decide +kernel) ho)
        refine b_wl_i (fun c10 => ?_) (fun c10 => ?_)
        · exact b_wl_s hF
        · refine b_wl_b (w_X2_remember b_fr_refl) (fun o ho => ?_)
          replace hF := b_fr_tr hF (b_fr_mo (by decide +kernel) ho)
          exact b_wl_s hF
def W_X2_judgeRow_1 : List (Nat × Option Int) := [(7, some 3), (7, some 4), (7, some 5), (7, some 6), (7, some 13), (130, none), (131, none), (132, none), (133, none), (134, none), (135, none), (136, none), (139, none)]
theorem w_X2_judgeRow_1_s55 {v4 : Int} {v5 : Int} {v6 : Int} {v7 : Int} {M0 M : bM} (hF : b_fr W_X2_judgeRow_1 M0 M) : b_wl (F_X2_judgeRow_1_s55 v4 v5 v6 v7 M) (Sum.elim (fun _ : Int => True) (Sum.elim (fun _ : Unit => True) (Sum.elim (fun t : Int × bM => b_fr W_X2_judgeRow_1 M0 t.2) (Sum.elim (fun t : bM => b_fr W_X2_judgeRow_1 M0 t) (fun o : Int × bM => b_fr W_X2_judgeRow_1 M0 o.2))))) := by
  unfold F_X2_judgeRow_1_s55
  refine b_wl_i (fun c8 => ?_) (fun c8 => ?_)
  · exact b_wl_s trivial
  · refine b_wl_g (fun hg => ?_)
    refine b_wl_i (fun c10 => ?_) (fun c10 => ?_)
    · exact b_wl_s hF
    · refine b_wl_g (fun hg => ?_)
      exact b_wl_s trivial
theorem w_X2_judgeRow_1_b82 {v4 : Int} {v5 : Int} {v6 : Int} {M0 M : bM} (hF : b_fr W_X2_judgeRow_1 M0 M) : b_wl (F_X2_judgeRow_1_b82 v4 v5 v6 M) (Sum.elim (fun t : Int × bM => b_fr W_X2_judgeRow_1 M0 t.2) (Sum.elim (fun t : bM => b_fr W_X2_judgeRow_1 M0 t) (fun o : Int × bM => b_fr W_X2_judgeRow_1 M0 o.2))) := by
  unfold F_X2_judgeRow_1_b82
  refine b_wl_g (fun hg => ?_)
  refine b_wl_lA (c := 139) hF (by decide +kernel) (fun hF => ?_)
  refine b_wl_g (fun hg => ?_)
  exact b_wl_s hF
theorem w_X2_judgeRow_1_s15 {v4 : Int} {v5 : Int} {M0 M : bM} (hF : b_fr W_X2_judgeRow_1 M0 M) : b_wl (F_X2_judgeRow_1_s15 v4 v5 M) (Sum.elim (fun t : Int × bM => b_fr W_X2_judgeRow_1 M0 t.2) (Sum.elim (fun t : bM => b_fr W_X2_judgeRow_1 M0 t) (fun o : Int × bM => b_fr W_X2_judgeRow_1 M0 o.2))) := by
  unfold F_X2_judgeRow_1_s15
  refine b_wl_i (fun c2 => ?_) (fun c2 => ?_)
  · exact b_wl_s hF
  · refine b_wl_b b_wl_any (fun o _ => ?_)
    refine b_wl_g (fun hg => ?_)
    refine b_wl_b b_wl_any (fun o _ => ?_)
    refine b_wl_i (fun c6 => ?_) (fun c6 => ?_)
    · exact b_wl_s hF
    · refine b_wl_i (fun c7 => ?_) (fun c7 => ?_)
      · exact b_wl_s hF
      · refine b_wl_b (b_wl_loop (A := (fun _ : Int => True)) (fun t ht => w_X2_judgeRow_1_s55 hF) trivial) (fun t ht => ?_)
        cases t with
        | inr o => exact b_wl_s ht
        | inl t =>
          refine b_wl_inl ?_
          exact w_X2_judgeRow_1_b82 hF
theorem w_X2_judgeRow_1_b97 {v4 : Int} {M0 M : bM} (hF : b_fr W_X2_judgeRow_1 M0 M) : b_wl (F_X2_judgeRow_1_b97 v4 M) (fun o : Int × bM => b_fr W_X2_judgeRow_1 M0 o.2) := by
  unfold F_X2_judgeRow_1_b97
  refine b_wl_i (fun c15 => ?_) (fun c15 => ?_)
  · refine b_wl_b b_wl_any (fun o _ => ?_)
    refine b_wl_i (fun c22 => ?_) (fun c22 => ?_)
    · exact b_wl_s hF
    · exact b_wl_s hF
  · refine b_wl_g (fun hg => ?_)
    refine b_wl_b b_wl_any (fun o _ => ?_)
    refine b_wl_i (fun c19 => ?_) (fun c19 => ?_)
    · exact b_wl_s hF
    · refine b_wl_b b_wl_any (fun o _ => ?_)
      exact b_wl_s hF
theorem w_X2_judgeRow_1 {v1 : Int} {v2 : Int} {M0 M : bM} (hF : b_fr W_X2_judgeRow_1 M0 M) : b_wl (F_X2_judgeRow_1 v1 v2 M) (fun o : Int × bM => b_fr W_X2_judgeRow_1 M0 o.2) := by
  unfold F_X2_judgeRow_1
  refine b_wl_b (w_X2_gather b_fr_refl) (fun o ho => ?_)
  replace hF := b_fr_tr hF (b_fr_mo (by decide +kernel) ho)
  refine b_wl_b (b_wl_loop (A := (fun t : Int × bM => b_fr W_X2_judgeRow_1 M0 t.2)) (fun t ht => w_X2_judgeRow_1_s15 ht) hF) (fun t ht => ?_)
  cases t with
  | inr o => exact b_wl_s ht
  | inl t =>
    replace hF : b_fr W_X2_judgeRow_1 M0 t := ht
    refine b_wl_inl ?_
    exact w_X2_judgeRow_1_b97 hF
def W_X11_judge : List (Nat × Option Int) := [(1, some 1), (2, some 7), (2, some 8), (2, some 9), (6, some 5), (6, some 6), (6, some 7), (6, some 11), (7, some 3), (7, some 4), (7, some 5), (7, some 6), (7, some 13), (81, none), (82, none), (83, none), (84, none), (126, none), (127, none), (128, none), (129, none), (130, none), (131, none), (132, none), (133, none), (134, none), (135, none), (136, none), (139, none)]
theorem w_X11_judge_b56 {v4 : Int} {M0 M : bM} (hF : b_fr W_X11_judge M0 M) : b_wl (F_X11_judge_b56 v4 M) (fun o : Int × bM => b_fr W_X11_judge M0 o.2) := by
  unfold F_X11_judge_b56
  refine b_wl_b (w_X10_clear b_fr_refl) (fun o ho => ?_)
  replace hF := b_fr_tr hF (b_fr_mo (by decide +kernel) ho)
  exact b_wl_s hF
theorem w_X11_judge {v1 : Int} {v2 : Int} {v3 : Int} {M0 M : bM} (hF : b_fr W_X11_judge M0 M) : b_wl (F_X11_judge v1 v2 v3 M) (fun o : Int × bM => b_fr W_X11_judge M0 o.2) := by
  unfold F_X11_judge
  refine b_wl_b b_wl_any (fun o _ => ?_)
  refine b_wl_i (fun c2 => ?_) (fun c2 => ?_)
  · exact w_X11_judge_b56 hF
  · refine b_wl_b b_wl_any (fun o _ => ?_)
    refine b_wl_i (fun c5 => ?_) (fun c5 => ?_)
    · exact w_X11_judge_b56 hF
    · refine b_wl_b b_wl_any (fun o _ => ?_)
      refine b_wl_i (fun c7 => ?_) (fun c7 => ?_)
      · exact w_X11_judge_b56 hF
      · refine b_wl_b (w_X4_know b_fr_refl) (fun o ho => ?_)
        replace hF := b_fr_tr hF (b_fr_mo (by decide +kernel) ho)
        refine b_wl_b (w_X2_judgeRow_1 b_fr_refl) (fun o ho => ?_)
        refine b_wl_two ?_
        replace hF := b_fr_tr hF (b_fr_mo (by decide +kernel) ho)
        exact w_X11_judge_b56 hF
def W_X11_held : List (Nat × Option Int) := [(2, some 7), (2, some 8), (2, some 9), (6, some 5), (6, some 6), (6, some 7), (6, some 11), (81, none), (82, none), (83, none), (84, none), (126, none), (127, none), (128, none), (129, none)]
theorem w_X11_held {v1 : Int} {v2 : Int} {v3 : Int} {v4 : Int} {M0 M : bM} (hF : b_fr W_X11_held M0 M) : b_wl (F_X11_held v1 v2 v3 v4 M) (fun o : Int × bM => b_fr W_X11_held M0 o.2) := by
  unfold F_X11_held
  refine b_wl_b b_wl_any (fun o _ => ?_)
  refine b_wl_i (fun c2 => ?_) (fun c2 => ?_)
  · exact b_wl_s hF
  · refine b_wl_b b_wl_any (fun o _ => ?_)
    refine b_wl_i (fun c4 => ?_) (fun c4 => ?_)
    · exact b_wl_s hF
    · refine b_wl_i (fun c5 => ?_) (fun c5 => ?_)
      · exact b_wl_s hF
      · refine b_wl_i (fun c6 => ?_) (fun c6 => ?_)
        · exact b_wl_s hF
        · refine b_wl_b b_wl_any (fun o _ => ?_)
          refine b_wl_i (fun c8 => ?_) (fun c8 => ?_)
          · exact b_wl_s hF
          · refine b_wl_b (w_X4_know b_fr_refl) (fun o ho => ?_)
            replace hF := b_fr_tr hF (b_fr_mo (by decide +kernel) ho)
            refine b_wl_b b_wl_any (fun o _ => ?_)
            exact b_wl_s hF
def W_X6_add : List (Nat × Option Int) := [(8, some 0), (142, none), (143, none), (144, none), (145, none)]
theorem w_X6_add {v1 : Int} {v2 : Int} {v3 : Int} {M0 M : bM} (hF : b_fr W_X6_add M0 M) : b_wl (F_X6_add v1 v2 v3 M) (fun o : Int × bM => b_fr W_X6_add M0 o.2) := by
  unfold F_X6_add
  refine b_wl_i (fun c1 => ?_) (fun c1 => ?_)
  · refine b_wl_g (fun hg => ?_)
    refine b_wl_lA (c := 142) hF (by decide +kernel) (fun hF => ?_)
    refine b_wl_g (fun hg => ?_)
    refine b_wl_lA (c := 143) hF (by decide +kernel) (fun hF => ?_)
    refine b_wl_g (fun hg => ?_)
    refine b_wl_lA (c := 144) hF (by decide +kernel) (fun hF => ?_)
    refine b_wl_g (fun hg => ?_)
    refine b_wl_lA (c := 145) hF (by decide +kernel) (fun hF => ?_)
    refine b_wl_g (fun hg => ?_)
    refine b_wl_lF (c := 8) (i := 0) hF (by decide +kernel) (fun hF => ?_)
    refine b_wl_g (fun hg => ?_)
    exact b_wl_s hF
  · exact b_wl_s hF
def W_X11_mortgage : List (Nat × Option Int) := [(8, some 0), (142, none), (143, none), (144, none), (145, none)]
theorem w_X11_mortgage {v1 : Int} {v2 : Int} {v3 : Int} {v4 : Int} {v5 : Int} {M0 M : bM} (hF : b_fr W_X11_mortgage M0 M) : b_wl (F_X11_mortgage v1 v2 v3 v4 v5 M) (fun o : Int × bM => b_fr W_X11_mortgage M0 o.2) := by
  unfold F_X11_mortgage
  refine b_wl_b b_wl_any (fun o _ => ?_)
  refine b_wl_i (fun c2 => ?_) (fun c2 => ?_)
  · exact b_wl_s hF
  · refine b_wl_b b_wl_any (fun o _ => ?_)
    refine b_wl_i (fun c4 => ?_) (fun c4 => ?_)
    · exact b_wl_s hF
    · refine b_wl_i (fun c5 => ?_) (fun c5 => ?_)
      · exact b_wl_s hF
      · refine b_wl_i (fun c6 => ?_) (fun c6 => ?_)
        · exact b_wl_s hF
        · refine b_wl_b b_wl_any (fun o _ => ?_)
          refine b_wl_i (fun c8 => ?_) (fun c8 => ?_)
          · exact b_wl_s hF
          · refine b_wl_b b_wl_any (fun o _ => ?_)
            refine b_wl_i (fun c10 => ?_) (fun c10 => ?_)
            · exact b_wl_s hF
            · refine b_wl_i (fun c11 => ?_) (fun c11 => ?_)
              · refine b_wl_b (w_X6_add b_fr_refl) (fun o ho => ?_)
                refine b_wl_two ?_
                replace hF := b_fr_tr hF (b_fr_mo (by decide +kernel) ho)
                exact b_wl_s hF
              · exact b_wl_s hF
def W_X6_pay : List (Nat × Option Int) := [(145, none), (146, none)]
theorem w_X6_pay {v1 : Int} {v2 : Int} {v3 : Int} {M0 M : bM} (hF : b_fr W_X6_pay M0 M) : b_wl (F_X6_pay v1 v2 v3 M) (fun o : Int × bM => b_fr W_X6_pay M0 o.2) := by
  unfold F_X6_pay
  refine b_wl_g (fun hg => ?_)
  refine b_wl_i (fun c2 => ?_) (fun c2 => ?_)
  · refine b_wl_g (fun hg => ?_)
    refine b_wl_lA (c := 145) hF (by decide +kernel) (fun hF => ?_)
    refine b_wl_g (fun hg => ?_)
    refine b_wl_lA (c := 146) hF (by decide +kernel) (fun hF => ?_)
    exact b_wl_s hF
  · exact b_wl_s hF
def W_X11_paid : List (Nat × Option Int) := [(145, none), (146, none)]
theorem w_X11_paid {v1 : Int} {v2 : Int} {M0 M : bM} (hF : b_fr W_X11_paid M0 M) : b_wl (F_X11_paid v1 v2 M) (fun o : Int × bM => b_fr W_X11_paid M0 o.2) := by
  unfold F_X11_paid
  refine b_wl_b b_wl_any (fun o _ => ?_)
  refine b_wl_i (fun c2 => ?_) (fun c2 => ?_)
  · exact b_wl_s hF
  · refine b_wl_b b_wl_any (fun o _ => ?_)
    refine b_wl_i (fun c4 => ?_) (fun c4 => ?_)
    · exact b_wl_s hF
    · refine b_wl_b (w_X6_pay b_fr_refl) (fun o ho => ?_)
      refine b_wl_two ?_
      replace hF := b_fr_tr hF (b_fr_mo (by decide +kernel) ho)
      exact b_wl_s hF
def W_X3_add : List (Nat × Option Int) := [(9, some 0), (147, none), (148, none), (149, none)]
theorem w_X3_add {v1 : Int} {v2 : Int} {v3 : Int} {M0 M : bM} (hF : b_fr W_X3_add M0 M) : b_wl (F_X3_add v1 v2 v3 M) (fun o : Int × bM => b_fr W_X3_add M0 o.2) := by
  unfold F_X3_add
  refine b_wl_i (fun c1 => ?_) (fun c1 => ?_)
  · refine b_wl_g (fun hg => ?_)
    refine b_wl_lA (c := 147) hF (by decide +kernel) (fun hF => ?_)
    refine b_wl_g (fun hg => ?_)
    refine b_wl_lA (c := 148) hF (by decide +kernel) (fun hF => ?_)
    refine b_wl_g (fun hg => ?_)
    refine b_wl_lA (c := 149) hF (by decide +kernel) (fun hF => ?_)
    refine b_wl_g (fun hg => ?_)
    refine b_wl_lF (c := 9) (i := 0) hF (by decide +kernel) (fun hF => ?_)
    refine b_wl_g (fun hg => ?_)
    exact b_wl_s hF
  · exact b_wl_s hF
def W_X11_claim : List (Nat × Option Int) := [(9, some 0), (147, none), (148, none), (149, none)]
theorem w_X11_claim {v1 : Int} {v2 : Int} {M0 M : bM} (hF : b_fr W_X11_claim M0 M) : b_wl (F_X11_claim v1 v2 M) (fun o : Int × bM => b_fr W_X11_claim M0 o.2) := by
  unfold F_X11_claim
  refine b_wl_b b_wl_any (fun o _ => ?_)
  refine b_wl_i (fun c2 => ?_) (fun c2 => ?_)
  · exact b_wl_s hF
  · refine b_wl_b b_wl_any (fun o _ => ?_)
    refine b_wl_i (fun c4 => ?_) (fun c4 => ?_)
    · exact b_wl_s hF
    · refine b_wl_b b_wl_any (fun o _ => ?_)
      refine b_wl_i (fun c6 => ?_) (fun c6 => ?_)
      · exact b_wl_s hF
      · refine b_wl_b (w_X3_add b_fr_refl) (fun o ho => ?_)
        refine b_wl_two ?_
        replace hF := b_fr_tr hF (b_fr_mo (by decide +kernel) ho)
        exact b_wl_s hF
def W_X3_appraise : List (Nat × Option Int) := [(7, some 3), (7, some 4), (7, some 5), (7, some 6), (7, some 13), (9, some 13), (9, some 14), (130, none), (131, none), (132, none), (133, none), (134, none), (135, none), (136, none), (137, none), (138, none), (140, none)]
theorem w_X3_appraise_b146 {v1 : Int} {v2 : Int} {v3 : Nat} {M0 M : bM} (hF : b_fr W_X3_appraise M0 M) : b_wl (F_X3_appraise_b146 v1 v2 v3 M) (fun o : Int × bM => b_fr W_X3_appraise M0 o.2) := by
  unfold F_X3_appraise_b146
  refine b_wl_g (fun hg => ?_)
  refine b_wl_b b_wl_any (fun o _ => ?_)
  refine b_wl_g (fun hg => ?_)
  have g15 := hg
  refine b_wl_b b_wl_any (fun o _ => ?_)
  refine b_wl_i (fun c17 => ?_) (fun c17 => ?_)
  · exact b_wl_s hF
  · exact b_wl_s hF
theorem w_X3_appraise_b127 {v1 : Int} {v2 : Int} {v3 : Nat} {v5 : Int} {M0 M : bM} (hF : b_fr W_X3_appraise M0 M) : b_wl (F_X3_appraise_b127 v1 v2 v3 v5 M) (fun o : Int × bM => b_fr W_X3_appraise M0 o.2) := by
  unfold F_X3_appraise_b127
  refine b_wl_i (fun c12 => ?_) (fun c12 => ?_)
  · exact w_X3_appraise_b146 hF
  · refine b_wl_g (fun hg => ?_)
    have g18 := hg
    refine b_wl_b b_wl_any (fun o _ => ?_)
    refine b_wl_i (fun c20 => ?_) (fun c20 => ?_)
    · exact w_X3_appraise_b146 hF
    · exact b_wl_s hF
theorem w_X3_appraise_b106 {v1 : Int} {v2 : Int} {v3 : Nat} {u0 : Int} {M0 M : bM} (hF : b_fr W_X3_appraise M0 M) : b_wl (F_X3_appraise_b106 v1 v2 v3 u0 M) (fun o : Int × bM => b_fr W_X3_appraise M0 o.2) := by
  unfold F_X3_appraise_b106
  refine b_wl_i (fun c11 => ?_) (fun c11 => ?_)
  · exact w_X3_appraise_b127 hF
  · refine b_wl_g (fun hg => ?_)
    have g21 := hg
    refine b_wl_b b_wl_any (fun o _ => ?_)
    refine b_wl_i (fun c23 => ?_) (fun c23 => ?_)
    · exact w_X3_appraise_b127 hF
    · exact b_wl_s hF
theorem w_X3_appraise_b105 {v1 : Int} {v2 : Int} {v3 : Nat} {M0 M : bM} (hF : b_fr W_X3_appraise M0 M) : b_wl (F_X3_appraise_b105 v1 v2 v3 M) (fun o : Int × bM => b_fr W_X3_appraise M0 o.2) := by
  unfold F_X3_appraise_b105
  exact w_X3_appraise_b106 hF
theorem w_X3_appraise_b81 {v1 : Int} {v2 : Int} {v3 : Nat} {v4 : Int} {u1 : Int} {M0 M : bM} (hF : b_fr W_X3_appraise M0 M) : b_wl (F_X3_appraise_b81 v1 v2 v3 v4 u1 M) (fun o : Int × bM => b_fr W_X3_appraise M0 o.2) := by
  unfold F_X3_appraise_b81
  refine b_wl_lF (c := 9) (i := 14) hF (by decide +kernel) (fun hF => ?_)
  refine b_wl_i (fun c10 => ?_) (fun c10 => ?_)
  · exact w_X3_appraise_b105 hF
  · refine b_wl_g (fun hg => ?_)
    have g24 := hg
    refine b_wl_b b_wl_any (fun o _ => ?_)
    refine b_wl_i (fun c26 => ?_) (fun c26 => ?_)
    · exact w_X3_appraise_b105 hF
    · exact w_X3_appraise_b106 hF
theorem w_X3_appraise_b59 {v1 : Int} {v2 : Int} {v3 : Nat} {v4 : Int} {u1 : Int} {M0 M : bM} (hF : b_fr W_X3_appraise M0 M) : b_wl (F_X3_appraise_b59 v1 v2 v3 v4 u1 M) (fun o : Int × bM => b_fr W_X3_appraise M0 o.2) := by
  unfold F_X3_appraise_b59
  refine b_wl_lF (c := 9) (i := 13) hF (by decide +kernel) (fun hF => ?_)
  refine b_wl_i (fun c8 => ?_) (fun c8 => ?_)
  · exact w_X3_appraise_b81 hF
  · exact w_X3_appraise_b81 hF
theorem w_X3_appraise_b37 {v1 : Int} {v2 : Int} {v3 : Nat} {u0 : Int} {M0 M : bM} (hF : b_fr W_X3_appraise M0 M) : b_wl (F_X3_appraise_b37 v1 v2 v3 u0 M) (fun o : Int × bM => b_fr W_X3_appraise M0 o.2) := by
  unfold F_X3_appraise_b37
  refine b_wl_i (fun c6 => ?_) (fun c6 => ?_)
  · exact w_X3_appraise_b59 hF
  · exact w_X3_appraise_b59 hF
theorem w_X3_appraise {v1 : Int} {v2 : Int} {M0 M : bM} (hF : b_fr W_X3_appraise M0 M) : b_wl (F_X3_appraise v1 v2 M) (fun o : Int × bM => b_fr W_X3_appraise M0 o.2) := by
  unfold F_X3_appraise
  refine b_wl_b b_wl_any (fun o _ => ?_)
  refine b_wl_g (fun hg => ?_)
  refine b_wl_b (w_X2_search b_fr_refl) (fun o ho => ?_)
  refine b_wl_two ?_
  replace hF := b_fr_tr hF (b_fr_mo (by decide +kernel) ho)
  refine b_wl_i (fun c5 => ?_) (fun c5 => ?_)
  · exact w_X3_appraise_b37 hF
  · exact w_X3_appraise_b37 hF
def W_X3_award : List (Nat × Option Int) := [(150, none), (152, none), (153, none), (154, none)]
theorem w_X3_award {v1 : Int} {v2 : Int} {v3 : Int} {v4 : Int} {M0 M : bM} (hF : b_fr W_X3_award M0 M) : b_wl (F_X3_award v1 v2 v3 v4 M) (fun o : bM => b_fr W_X3_award M0 o) := by
  unfold F_X3_award
  refine b_wl_g (fun hg => ?_)
  refine b_wl_lA (c := 150) hF (by decide +kernel) (fun hF => ?_)
  refine b_wl_g (fun hg => ?_)
  refine b_wl_lA (c := 152) hF (by decide +kernel) (fun hF => ?_)
  refine b_wl_g (fun hg => ?_)
  refine b_wl_lA (c := 153) hF (by decide +kernel) (fun hF => ?_)
  refine b_wl_b b_wl_any (fun o _ => ?_)
  refine b_wl_g (fun hg => ?_)
  have g9 := hg
  refine b_wl_b b_wl_any (fun o _ => ?_)
  refine b_wl_g (fun hg => ?_)
  refine b_wl_lA (c := 154) hF (by decide +kernel) (fun hF => ?_)
  exact b_wl_s hF
def W_X3_hear : List (Nat × Option Int) := [(7, some 3), (7, some 4), (7, some 5), (7, some 6), (7, some 13), (9, some 13), (9, some 14), (130, none), (131, none), (132, none), (133, none), (134, none), (135, none), (136, none), (137, none), (138, none), (140, none), (150, none), (152, none), (153, none), (154, none)]
theorem w_X3_hear_b143 {v1 : Int} {v2 : Int} {v3 : Int} {v4 : Int} {v5 : Int} {v6 : Int} {v7 : Int} {v8 : Int} {v9 : Int} {v10 : Int} {u0 : Int} {M0 M : bM} (hF : b_fr W_X3_hear M0 M) : b_wl (F_X3_hear_b143 v1 v2 v3 v4 v5 v6 v7 v8 v9 v10 u0 M) (Sum.elim (fun t : Int × Int × Int × Int × Int × Int × bM => b_fr W_X3_hear M0 t.2.2.2.2.2.2) (fun t : Int × Int × Int × bM => b_fr W_X3_hear M0 t.2.2.2)) := by
  unfold F_X3_hear_b143
  refine b_wl_i (fun c20 => ?_) (fun c20 => ?_)
  · refine b_wl_g (fun hg => ?_)
    exact b_wl_s hF
  · refine b_wl_i (fun c22 => ?_) (fun c22 => ?_)
    · refine b_wl_g (fun hg => ?_)
      exact b_wl_s hF
    · refine b_wl_g (fun hg => ?_)
      exact b_wl_s hF
theorem w_X3_hear_b138 {v1 : Int} {v2 : Int} {v3 : Int} {v4 : Int} {v5 : Int} {v6 : Int} {v7 : Int} {v8 : Int} {v9 : Int} {v10 : Int} {M0 M : bM} (hF : b_fr W_X3_hear M0 M) : b_wl (F_X3_hear_b138 v1 v2 v3 v4 v5 v6 v7 v8 v9 v10 M) (Sum.elim (fun t : Int × Int × Int × Int × Int × Int × bM => b_fr W_X3_hear M0 t.2.2.2.2.2.2) (fun t : Int × Int × Int × bM => b_fr W_X3_hear M0 t.2.2.2)) := by
  unfold F_X3_hear_b138
  exact w_X3_hear_b143 hF
theorem w_X3_hear_b142 {v1 : Int} {v2 : Int} {v3 : Int} {v4 : Int} {v5 : Int} {v6 : Int} {v7 : Int} {v8 : Int} {v9 : Int} {v10 : Int} {M0 M : bM} (hF : b_fr W_X3_hear M0 M) : b_wl (F_X3_hear_b142 v1 v2 v3 v4 v5 v6 v7 v8 v9 v10 M) (Sum.elim (fun t : Int × Int × Int × Int × Int × Int × bM => b_fr W_X3_hear M0 t.2.2.2.2.2.2) (fun t : Int × Int × Int × bM => b_fr W_X3_hear M0 t.2.2.2)) := by
  unfold F_X3_hear_b142
  exact w_X3_hear_b143 hF
theorem w_X3_hear_s31 {v1 : Int} {v2 : Int} {v3 : Int} {v4 : Int} {v5 : Int} {v6 : Int} {v7 : Int} {v8 : Int} {v9 : Int} {M0 M : bM} (hF : b_fr W_X3_hear M0 M) : b_wl (F_X3_hear_s31 v1 v2 v3 v4 v5 v6 v7 v8 v9 M) (Sum.elim (fun t : Int × Int × Int × Int × Int × Int × bM => b_fr W_X3_hear M0 t.2.2.2.2.2.2) (fun t : Int × Int × Int × bM => b_fr W_X3_hear M0 t.2.2.2)) := by
  unfold F_X3_hear_s31
  refine b_wl_i (fun c4 => ?_) (fun c4 => ?_)
  · exact b_wl_s hF
  · refine b_wl_g (fun hg => ?_)
    refine b_wl_i (fun c6 => ?_) (fun c6 => ?_)
    · refine b_wl_g (fun hg => ?_)
      refine b_wl_i (fun c9 => ?_) (fun c9 => ?_)
      · refine b_wl_g (fun hg => ?_)
        refine b_wl_i (fun c13 => ?_) (fun c13 => ?_)
        · refine b_wl_g (fun hg => ?_)
          refine b_wl_lA (c := 150) hF (by decide +kernel) (fun hF => ?_)
          refine b_wl_b (w_X3_appraise b_fr_refl) (fun o ho => ?_)
          refine b_wl_two ?_
          replace hF := b_fr_tr hF (b_fr_mo (by decide +kernel) ho)
          refine b_wl_i (fun c19 => ?_) (fun c19 => ?_)
          · exact w_X3_hear_b138 hF
          · refine b_wl_i (fun c25 => ?_) (fun c25 => ?_)
            · refine b_wl_i (fun c26 => ?_) (fun c26 => ?_)
              · exact w_X3_hear_b138 hF
              · refine b_wl_i (fun c27 => ?_) (fun c27 => ?_)
                · refine b_wl_i (fun c28 => ?_) (fun c28 => ?_)
                  · exact w_X3_hear_b142 hF
                  · exact w_X3_hear_b138 hF
                · exact w_X3_hear_b142 hF
            · exact w_X3_hear_b142 hF
        · refine b_wl_g (fun hg => ?_)
          exact b_wl_s hF
      · refine b_wl_g (fun hg => ?_)
        exact b_wl_s hF
    · refine b_wl_g (fun hg => ?_)
      exact b_wl_s hF
theorem w_X3_hear_b182 {v1 : Int} {v2 : Int} {v4 : Int} {v5 : Int} {v6 : Int} {M0 M : bM} (hF : b_fr W_X3_hear M0 M) : b_wl (F_X3_hear_b182 v1 v2 v4 v5 v6 M) (fun o : Int × bM => b_fr W_X3_hear M0 o.2) := by
  unfold F_X3_hear_b182
  refine b_wl_i (fun c30 => ?_) (fun c30 => ?_)
  · exact b_wl_s hF
  · refine b_wl_b (w_X3_award b_fr_refl) (fun o ho => ?_)
    replace hF := b_fr_tr hF (b_fr_mo (by decide +kernel) ho)
    exact b_wl_s hF
theorem w_X3_hear {v1 : Int} {v2 : Int} {M0 M : bM} (hF : b_fr W_X3_hear M0 M) : b_wl (F_X3_hear v1 v2 M) (fun o : Int × bM => b_fr W_X3_hear M0 o.2) := by
  unfold F_X3_hear
  refine b_wl_b b_wl_any (fun o _ => ?_)
  refine b_wl_g (fun hg => ?_)
  have g2 := hg
  refine b_wl_b b_wl_any (fun o _ => ?_)
  refine b_wl_b (b_wl_loop (A := (fun t : Int × Int × Int × Int × Int × Int × bM => b_fr W_X3_hear M0 t.2.2.2.2.2.2)) (fun t ht => w_X3_hear_s31 ht) hF) (fun t ht => ?_)
  replace hF : b_fr W_X3_hear M0 t.2.2.2 := ht
  exact w_X3_hear_b182 hF
def W_X11_sit : List (Nat × Option Int) := [(2, some 7), (2, some 8), (2, some 9), (6, some 5), (6, some 6), (6, some 7), (6, some 11), (7, some 3), (7, some 4), (7, some 5), (7, some 6), (7, some 13), (9, some 13), (9, some 14), (81, none), (82, none), (83, none), (84, none), (126, none), (127, none), (128, none), (129, none), (130, none), (131, none), (132, none), (133, none), (134, none), (135, none), (136, none), (137, none), (138, none), (140, none), (150, none), (152, none), (153, none), (154, none)]
theorem w_X11_sit {v1 : Int} {M0 M : bM} (hF : b_fr W_X11_sit M0 M) : b_wl (F_X11_sit v1 M) (fun o : Int × bM => b_fr W_X11_sit M0 o.2) := by
  unfold F_X11_sit
  refine b_wl_b b_wl_any (fun o _ => ?_)
  refine b_wl_i (fun c2 => ?_) (fun c2 => ?_)
  · exact b_wl_s hF
  · refine b_wl_b b_wl_any (fun o _ => ?_)
    refine b_wl_i (fun c4 => ?_) (fun c4 => ?_)
    · refine b_wl_b (w_X4_know b_fr_refl) (fun o ho => ?_)
      replace hF := b_fr_tr hF (b_fr_mo (by decide +kernel) ho)
      refine b_wl_b (w_X3_hear b_fr_refl) (fun o ho => ?_)
      refine b_wl_two ?_
      replace hF := b_fr_tr hF (b_fr_mo (by decide +kernel) ho)
      exact b_wl_s hF
    · exact b_wl_s hF
def W_X11_worth : List (Nat × Option Int) := [(2, some 7), (2, some 8), (2, some 9), (6, some 5), (6, some 6), (6, some 7), (6, some 11), (7, some 3), (7, some 4), (7, some 5), (7, some 6), (7, some 13), (9, some 13), (9, some 14), (81, none), (82, none), (83, none), (84, none), (126, none), (127, none), (128, none), (129, none), (130, none), (131, none), (132, none), (133, none), (134, none), (135, none), (136, none), (137, none), (138, none), (140, none)]
theorem w_X11_worth {v1 : Int} {M0 M : bM} (hF : b_fr W_X11_worth M0 M) : b_wl (F_X11_worth v1 M) (fun o : Int × bM => b_fr W_X11_worth M0 o.2) := by
  unfold F_X11_worth
  refine b_wl_b b_wl_any (fun o _ => ?_)
  refine b_wl_i (fun c2 => ?_) (fun c2 => ?_)
  · exact b_wl_s hF
  · refine b_wl_b (w_X4_know b_fr_refl) (fun o ho => ?_)
    replace hF := b_fr_tr hF (b_fr_mo (by decide +kernel) ho)
    refine b_wl_b (w_X3_appraise b_fr_refl) (fun o ho => ?_)
    refine b_wl_two ?_
    replace hF := b_fr_tr hF (b_fr_mo (by decide +kernel) ho)
    exact b_wl_s hF
def W_X3_mustReopen : List (Nat × Option Int) := [(7, some 3), (7, some 4), (7, some 5), (7, some 6), (7, some 13), (9, some 13), (9, some 14), (130, none), (131, none), (132, none), (133, none), (134, none), (135, none), (136, none), (137, none), (138, none), (140, none)]
theorem w_X3_mustReopen_b47 {v1 : Int} {v2 : Int} {v3 : Int} {v4 : Int} {u0 : Int} {u1 : Int} {M0 M : bM} (hF : b_fr W_X3_mustReopen M0 M) : b_wl (F_X3_mustReopen_b47 v1 v2 v3 v4 u0 u1 M) (Sum.elim (fun t : Int × bM => b_fr W_X3_mustReopen M0 t.2) (Sum.elim (fun t : bM => b_fr W_X3_mustReopen M0 t) (fun o : Int × bM => b_fr W_X3_mustReopen M0 o.2))) := by
  unfold F_X3_mustReopen_b47
  refine b_wl_i (fun c9 => ?_) (fun c9 => ?_)
  · exact b_wl_s hF
  · refine b_wl_g (fun hg => ?_)
    exact b_wl_s hF
theorem w_X3_mustReopen_s9 {v1 : Int} {v2 : Int} {v3 : Int} {v4 : Int} {M0 M : bM} (hF : b_fr W_X3_mustReopen M0 M) : b_wl (F_X3_mustReopen_s9 v1 v2 v3 v4 M) (Sum.elim (fun t : Int × bM => b_fr W_X3_mustReopen M0 t.2) (Sum.elim (fun t : bM => b_fr W_X3_mustReopen M0 t) (fun o : Int × bM => b_fr W_X3_mustReopen M0 o.2))) := by
  unfold F_X3_mustReopen_s9
  refine b_wl_i (fun c2 => ?_) (fun c2 => ?_)
  · exact b_wl_s hF
  · refine b_wl_g (fun hg => ?_)
    refine b_wl_i (fun c4 => ?_) (fun c4 => ?_)
    · refine b_wl_b (w_X3_appraise b_fr_refl) (fun o ho => ?_)
      refine b_wl_two ?_
      replace hF := b_fr_tr hF (b_fr_mo (by decide +kernel) ho)
      refine b_wl_i (fun c8 => ?_) (fun c8 => ?_)
      · exact w_X3_mustReopen_b47 hF
      · exact w_X3_mustReopen_b47 hF
    · refine b_wl_g (fun hg => ?_)
      exact b_wl_s hF
theorem w_X3_mustReopen_b58 {M0 M : bM} (hF : b_fr W_X3_mustReopen M0 M) : b_wl (F_X3_mustReopen_b58 M) (fun o : Int × bM => b_fr W_X3_mustReopen M0 o.2) := by
  unfold F_X3_mustReopen_b58
  exact b_wl_s hF
theorem w_X3_mustReopen {v1 : Int} {v2 : Int} {M0 M : bM} (hF : b_fr W_X3_mustReopen M0 M) : b_wl (F_X3_mustReopen v1 v2 M) (fun o : Int × bM => b_fr W_X3_mustReopen M0 o.2) := by
  unfold F_X3_mustReopen
  refine b_wl_b b_wl_any (fun o _ => ?_)
  refine b_wl_b (b_wl_loop (A := (fun t : Int × bM => b_fr W_X3_mustReopen M0 t.2)) (fun t ht => w_X3_mustReopen_s9 ht) hF) (fun t ht => ?_)
  cases t with
  | inr o => exact b_wl_s ht
  | inl t =>
    replace hF : b_fr W_X3_mustReopen M0 t := ht
    refine b_wl_inl ?_
    exact w_X3_mustReopen_b58 hF
def W_X3_reopen : List (Nat × Option Int) := [(9, some 1), (150, none), (151, none), (152, none)]
theorem w_X3_reopen_s70 {v1 : Int} {v5 : Int} {M0 M : bM} (hF : b_fr W_X3_reopen M0 M) : b_wl (F_X3_reopen_s70 v1 v5 M) (Sum.elim (fun t : Int × bM => b_fr W_X3_reopen M0 t.2) (fun t : bM => b_fr W_X3_reopen M0 t)) := by
  unfold F_X3_reopen_s70
  refine b_wl_i (fun c15 => ?_) (fun c15 => ?_)
  · exact b_wl_s hF
  · refine b_wl_g (fun hg => ?_)
    refine b_wl_i (fun c17 => ?_) (fun c17 => ?_)
    · refine b_wl_g (fun hg => ?_)
      refine b_wl_lA (c := 150) hF (by decide +kernel) (fun hF => ?_)
      refine b_wl_g (fun hg => ?_)
      exact b_wl_s hF
    · refine b_wl_g (fun hg => ?_)
      exact b_wl_s hF
theorem w_X3_reopen_b104 {M0 M : bM} (hF : b_fr W_X3_reopen M0 M) : b_wl (F_X3_reopen_b104 M) (fun o : Int × bM => b_fr W_X3_reopen M0 o.2) := by
  unfold F_X3_reopen_b104
  exact b_wl_s hF
theorem w_X3_reopen {v1 : Int} {v2 : Int} {M0 M : bM} (hF : b_fr W_X3_reopen M0 M) : b_wl (F_X3_reopen v1 v2 M) (fun o : Int × bM => b_fr W_X3_reopen M0 o.2) := by
  unfold F_X3_reopen
  refine b_wl_b b_wl_any (fun o _ => ?_)
  refine b_wl_b b_wl_any (fun o _ => ?_)
  refine b_wl_i (fun c3 => ?_) (fun c3 => ?_)
  · exact b_wl_s hF
  · refine b_wl_b b_wl_any (fun o _ => ?_)
    refine b_wl_g (fun hg => ?_)
    have g5 := hg
    refine b_wl_b b_wl_any (fun o _ => ?_)
    refine b_wl_l ?_
    refine b_wl_g (fun hg => ?_)
    refine b_wl_lF (c := 9) (i := 1) hF (by decide +kernel) (fun hF => ?_)
    refine b_wl_g (fun hg => ?_)
    refine b_wl_lA (c := 151) hF (by decide +kernel) (fun hF => ?_)
    refine b_wl_g (fun hg => ?_)
    refine b_wl_lA (c := 152) hF (by decide +kernel) (fun hF => ?_)
    refine b_wl_b (b_wl_loop (A := (fun t : Int × bM => b_fr W_X3_reopen M0 t.2)) (fun t ht => w_X3_reopen_s70 ht) hF) (fun t ht => ?_)
    replace hF : b_fr W_X3_reopen M0 t := ht
    exact w_X3_reopen_b104 hF
def W_X11_open : List (Nat × Option Int) := [(2, some 7), (2, some 8), (2, some 9), (6, some 5), (6, some 6), (6, some 7), (6, some 11), (7, some 3), (7, some 4), (7, some 5), (7, some 6), (7, some 13), (9, some 1), (9, some 13), (9, some 14), (81, none), (82, none), (83, none), (84, none), (126, none), (127, none), (128, none), (129, none), (130, none), (131, none), (132, none), (133, none), (134, none), (135, none), (136, none), (137, none), (138, none), (140, none), (150, none), (151, none), (152, none)]
theorem w_X11_open {v1 : Int} {M0 M : bM} (hF : b_fr W_X11_open M0 M) : b_wl (F_X11_open v1 M) (fun o : Int × bM => b_fr W_X11_open M0 o.2) := by
  unfold F_X11_open
  refine b_wl_b b_wl_any (fun o _ => ?_)
  refine b_wl_i (fun c2 => ?_) (fun c2 => ?_)
  · exact b_wl_s hF
  · refine b_wl_b b_wl_any (fun o _ => ?_)
    refine b_wl_i (fun c4 => ?_) (fun c4 => ?_)
    · exact b_wl_s hF
    · refine b_wl_b (w_X4_know b_fr_refl) (fun o ho => ?_)
      replace hF := b_fr_tr hF (b_fr_mo (by decide +kernel) ho)
      refine b_wl_b (w_X3_mustReopen b_fr_refl) (fun o ho => ?_)
      refine b_wl_two ?_
      replace hF := b_fr_tr hF (b_fr_mo (by decide +kernel) ho)
      refine b_wl_i (fun c8 => ?_) (fun c8 => ?_)
      · exact b_wl_s hF
      · refine b_wl_b (w_X3_reopen b_fr_refl) (fun o ho => ?_)
        refine b_wl_two ?_
        replace hF := b_fr_tr hF (b_fr_mo (by decide +kernel) ho)
        exact b_wl_s hF
def W_X3_putCoin : List (Nat × Option Int) := [(9, some 1)]
theorem w_X3_putCoin {v1 : Int} {M0 M : bM} (hF : b_fr W_X3_putCoin M0 M) : b_wl (F_X3_putCoin v1 M) (fun o : Int × bM => b_fr W_X3_putCoin M0 o.2) := by
  unfold F_X3_putCoin
  refine b_wl_g (fun hg => ?_)
  refine b_wl_i (fun c2 => ?_) (fun c2 => ?_)
  · refine b_wl_g (fun hg => ?_)
    refine b_wl_lF (c := 9) (i := 1) hF (by decide +kernel) (fun hF => ?_)
    exact b_wl_s hF
  · exact b_wl_s hF
def W_X11_fund : List (Nat × Option Int) := [(9, some 1)]
theorem w_X11_fund {v1 : Int} {M0 M : bM} (hF : b_fr W_X11_fund M0 M) : b_wl (F_X11_fund v1 M) (fun o : Int × bM => b_fr W_X11_fund M0 o.2) := by
  unfold F_X11_fund
  refine b_wl_i (fun c1 => ?_) (fun c1 => ?_)
  · exact b_wl_s hF
  · refine b_wl_i (fun c2 => ?_) (fun c2 => ?_)
    · refine b_wl_b (w_X3_putCoin b_fr_refl) (fun o ho => ?_)
      refine b_wl_two ?_
      replace hF := b_fr_tr hF (b_fr_mo (by decide +kernel) ho)
      exact b_wl_s hF
    · exact b_wl_s hF
def W_X9_add : List (Nat × Option Int) := [(10, some 0), (10, some 13), (155, none), (156, none), (157, none)]
theorem w_X9_add {v1 : Int} {v2 : Int} {v3 : Int} {M0 M : bM} (hF : b_fr W_X9_add M0 M) : b_wl (F_X9_add v1 v2 v3 M) (fun o : Int × bM => b_fr W_X9_add M0 o.2) := by
  unfold F_X9_add
  refine b_wl_i (fun c1 => ?_) (fun c1 => ?_)
  · refine b_wl_g (fun hg => ?_)
    refine b_wl_lA (c := 155) hF (by decide +kernel) (fun hF => ?_)
    refine b_wl_g (fun hg => ?_)
    refine b_wl_lA (c := 156) hF (by decide +kernel) (fun hF => ?_)
    refine b_wl_g (fun hg => ?_)
    refine b_wl_lA (c := 157) hF (by decide +kernel) (fun hF => ?_)
    refine b_wl_g (fun hg => ?_)
    refine b_wl_lF (c := 10) (i := 0) hF (by decide +kernel) (fun hF => ?_)
    refine b_wl_lF (c := 10) (i := 13) hF (by decide +kernel) (fun hF => ?_)
    refine b_wl_g (fun hg => ?_)
    exact b_wl_s hF
  · exact b_wl_s hF
def W_X11_place : List (Nat × Option Int) := [(10, some 0), (10, some 13), (155, none), (156, none), (157, none)]
theorem w_X11_place {v1 : Int} {v2 : Int} {v3 : Int} {M0 M : bM} (hF : b_fr W_X11_place M0 M) : b_wl (F_X11_place v1 v2 v3 M) (fun o : Int × bM => b_fr W_X11_place M0 o.2) := by
  unfold F_X11_place
  refine b_wl_i (fun c1 => ?_) (fun c1 => ?_)
  · exact b_wl_s hF
  · refine b_wl_i (fun c2 => ?_) (fun c2 => ?_)
    · exact b_wl_s hF
    · refine b_wl_i (fun c3 => ?_) (fun c3 => ?_)
      · exact b_wl_s hF
      · refine b_wl_i (fun c4 => ?_) (fun c4 => ?_)
        · exact b_wl_s hF
        · refine b_wl_i (fun c5 => ?_) (fun c5 => ?_)
          · exact b_wl_s hF
          · refine b_wl_i (fun c6 => ?_) (fun c6 => ?_)
            · refine b_wl_b (w_X9_add b_fr_refl) (fun o ho => ?_)
              refine b_wl_two ?_
              replace hF := b_fr_tr hF (b_fr_mo (by decide +kernel) ho)
              exact b_wl_s hF
            · exact b_wl_s hF
def W_X9_addCase_a : List (Nat × Option Int) := [(159, none), (160, none), (161, none)]
theorem w_X9_addCase_a_s65 {v2 : Int} {v3 : Int} {v4 : Int} {M0 M : bM} (hF : b_fr W_X9_addCase_a M0 M) : b_wl (F_X9_addCase_a_s65 v2 v3 v4 M) (Sum.elim (fun t : Int × bM => b_fr W_X9_addCase_a M0 t.2) (Sum.elim (fun t : bM => b_fr W_X9_addCase_a M0 t) (fun o : Int × bM => b_fr W_X9_addCase_a M0 o.2))) := by
  unfold F_X9_addCase_a_s65
  refine b_wl_i (fun c8 => ?_) (fun c8 => ?_)
  · exact b_wl_s hF
  · refine b_wl_i (fun c9 => ?_) (fun c9 => ?_)
    · exact b_wl_s hF
    · refine b_wl_g (fun hg => ?_)
      refine b_wl_l ?_
      refine b_wl_b b_wl_any (fun o _ => ?_)
      refine b_wl_i (fun c14 => ?_) (fun c14 => ?_)
      · refine b_wl_g (fun hg => ?_)
        exact b_wl_s hF
      · refine b_wl_i (fun c16 => ?_) (fun c16 => ?_)
        · refine b_wl_g (fun hg => ?_)
          refine b_wl_l ?_
          refine b_wl_g (fun hg => ?_)
          refine b_wl_lA (c := 160) hF (by decide +kernel) (fun hF => ?_)
          refine b_wl_g (fun hg => ?_)
          refine b_wl_lA (c := 161) hF (by decide +kernel) (fun hF => ?_)
          refine b_wl_g (fun hg => ?_)
          refine b_wl_lA (c := 159) hF (by decide +kernel) (fun hF => ?_)
          refine b_wl_g (fun hg => ?_)
          exact b_wl_s hF
        · exact b_wl_s hF
theorem w_X9_addCase_a_b176 {M0 M : bM} (hF : b_fr W_X9_addCase_a M0 M) : b_wl (F_X9_addCase_a_b176 M) (fun o : Int × bM => b_fr W_X9_addCase_a M0 o.2) := by
  unfold F_X9_addCase_a_b176
  exact b_wl_s hF
theorem w_X9_addCase_a_b52 {v2 : Int} {v3 : Int} {M0 M : bM} (hF : b_fr W_X9_addCase_a M0 M) : b_wl (F_X9_addCase_a_b52 v2 v3 M) (fun o : Int × bM => b_fr W_X9_addCase_a M0 o.2) := by
  unfold F_X9_addCase_a_b52
  refine b_wl_g (fun hg => ?_)
  refine b_wl_lA (c := 159) hF (by decide +kernel) (fun hF => ?_)
  refine b_wl_b (b_wl_loop (A := (fun t : Int × bM => b_fr W_X9_addCase_a M0 t.2)) (fun t ht => w_X9_addCase_a_s65 ht) hF) (fun t ht => ?_)
  cases t with
  | inr o => exact b_wl_s ht
  | inl t =>
    replace hF : b_fr W_X9_addCase_a M0 t := ht
    refine b_wl_inl ?_
    exact w_X9_addCase_a_b176 hF
theorem w_X9_addCase_a {v1 : Nat} {M0 M : bM} (hF : b_fr W_X9_addCase_a M0 M) : b_wl (F_X9_addCase_a v1 M) (fun o : Int × bM => b_fr W_X9_addCase_a M0 o.2) := by
  unfold F_X9_addCase_a
  refine b_wl_g (fun hg => ?_)
  have g1 := hg
  refine b_wl_b b_wl_any (fun o _ => ?_)
  refine b_wl_b b_wl_any (fun o _ => ?_)
  refine b_wl_i (fun c4 => ?_) (fun c4 => ?_)
  · exact b_wl_s hF
  · refine b_wl_i (fun c5 => ?_) (fun c5 => ?_)
    · exact w_X9_addCase_a_b52 hF
    · refine b_wl_i (fun c30 => ?_) (fun c30 => ?_)
      · exact b_wl_s hF
      · exact w_X9_addCase_a_b52 hF
def W_X9_gather : List (Nat × Option Int) := [(7, some 3), (7, some 4), (7, some 5), (7, some 6), (7, some 13), (10, some 9), (130, none), (131, none), (132, none), (133, none), (134, none), (135, none), (136, none), (137, none), (138, none), (140, none), (159, none), (160, none), (161, none)]
theorem w_X9_gather_s7 {v1 : Int} {v2 : Int} {M0 M : bM} (hF : b_fr W_X9_gather M0 M) : b_wl (F_X9_gather_s7 v1 v2 M) (Sum.elim (fun t : Int × bM => b_fr W_X9_gather M0 t.2) (fun t : bM => b_fr W_X9_gather M0 t)) := by
  unfold F_X9_gather_s7
  refine b_wl_i (fun c2 => ?_) (fun c2 => ?_)
  · exact b_wl_s hF
  · refine b_wl_i (fun c3 => ?_) (fun c3 => ?_)
    · exact b_wl_s hF
    · refine b_wl_b b_wl_any (fun o _ => ?_)
      refine b_wl_i (fun c5 => ?_) (fun c5 => ?_)
      · refine b_wl_g (fun hg => ?_)
        exact b_wl_s hF
      · refine b_wl_b b_wl_any (fun o _ => ?_)
        refine b_wl_g (fun hg => ?_)
        refine b_wl_l ?_
        refine b_wl_b (w_X2_search b_fr_refl) (fun o ho => ?_)
        refine b_wl_two ?_
        replace hF := b_fr_tr hF (b_fr_mo (by decide +kernel) ho)
        refine b_wl_i (fun c12 => ?_) (fun c12 => ?_)
        · refine b_wl_g (fun hg => ?_)
          exact b_wl_s hF
        · refine b_wl_b b_wl_any (fun o _ => ?_)
          refine b_wl_b (w_X9_addCase_a b_fr_refl) (fun o ho => ?_)
          refine b_wl_two ?_
          replace hF := b_fr_tr hF (b_fr_mo (by decide +kernel) ho)
          refine b_wl_i (fun c17 => ?_) (fun c17 => ?_)
          · refine b_wl_g (fun hg => ?_)
            exact b_wl_s hF
          · refine b_wl_g (fun hg => ?_)
            refine b_wl_lF (c := 10) (i := 9) hF (by decide +kernel) (fun hF => ?_)
            refine b_wl_g (fun hg => ?_)
            exact b_wl_s hF
theorem w_X9_gather_b95 {M0 M : bM} (hF : b_fr W_X9_gather M0 M) : b_wl (F_X9_gather_b95 M) (fun o : bM => b_fr W_X9_gather M0 o) := by
  unfold F_X9_gather_b95
  exact b_wl_s hF
theorem w_X9_gather {v1 : Int} {M0 M : bM} (hF : b_fr W_X9_gather M0 M) : b_wl (F_X9_gather v1 M) (fun o : bM => b_fr W_X9_gather M0 o) := by
  unfold F_X9_gather
  refine b_wl_lF (c := 10) (i := 9) hF (by decide +kernel) (fun hF => ?_)
  refine b_wl_b (b_wl_loop (A := (fun t : Int × bM => b_fr W_X9_gather M0 t.2)) (fun t ht => w_X9_gather_s7 ht) hF) (fun t ht => ?_)
  replace hF : b_fr W_X9_gather M0 t := ht
  exact w_X9_gather_b95 hF
def W_J7_fill_53178_158 : List (Nat × Option Int) := [(158, none)]
theorem w_J7_fill_53178_158_s5 {v1 : Int} {v2 : Int} {v3 : Int} {M0 M : bM} (hF : b_fr W_J7_fill_53178_158 M0 M) : b_wl (F_J7_fill_53178_158_s5 v1 v2 v3 M) (Sum.elim (fun t : Int × bM => b_fr W_J7_fill_53178_158 M0 t.2) (fun t : bM => b_fr W_J7_fill_53178_158 M0 t)) := by
  unfold F_J7_fill_53178_158_s5
  refine b_wl_i (fun c1 => ?_) (fun c1 => ?_)
  · exact b_wl_s hF
  · refine b_wl_g (fun hg => ?_)
    refine b_wl_lA (c := 158) hF (by decide +kernel) (fun hF => ?_)
    refine b_wl_g (fun hg => ?_)
    exact b_wl_s hF
theorem w_J7_fill_53178_158_b20 {M0 M : bM} (hF : b_fr W_J7_fill_53178_158 M0 M) : b_wl (F_J7_fill_53178_158_b20 M) (fun o : bM => b_fr W_J7_fill_53178_158 M0 o) := by
  unfold F_J7_fill_53178_158_b20
  exact b_wl_s hF
theorem w_J7_fill_53178_158 {v1 : Int} {M0 M : bM} (hF : b_fr W_J7_fill_53178_158 M0 M) : b_wl (F_J7_fill_53178_158 v1 M) (fun o : bM => b_fr W_J7_fill_53178_158 M0 o) := by
  unfold F_J7_fill_53178_158
  refine b_wl_b (b_wl_loop (A := (fun t : Int × bM => b_fr W_J7_fill_53178_158 M0 t.2)) (fun t ht => w_J7_fill_53178_158_s5 ht) hF) (fun t ht => ?_)
  replace hF : b_fr W_J7_fill_53178_158 M0 t := ht
  exact w_J7_fill_53178_158_b20 hF
def W_X9_settledBy : List (Nat × Option Int) := [(7, some 3), (7, some 4), (7, some 5), (7, some 6), (7, some 13), (10, some 9), (130, none), (131, none), (132, none), (133, none), (134, none), (135, none), (136, none), (137, none), (138, none), (140, none), (158, none), (159, none), (160, none), (161, none)]
theorem w_X9_settledBy_s15 {v1 : Int} {v3 : Int} {M0 M : bM} (hF : b_fr W_X9_settledBy M0 M) : b_wl (F_X9_settledBy_s15 v1 v3 M) (Sum.elim (fun t : Int × bM => b_fr W_X9_settledBy M0 t.2) (fun t : bM => b_fr W_X9_settledBy M0 t)) := by
  unfold F_X9_settledBy_s15
  refine b_wl_i (fun c3 => ?_) (fun c3 => ?_)
  · exact b_wl_s hF
  · refine b_wl_i (fun c4 => ?_) (fun c4 => ?_)
    · refine b_wl_g (fun hg => ?_)
      exact b_wl_s hF
    · refine b_wl_g (fun hg => ?_)
      refine b_wl_lA (c := 158) hF (by decide +kernel) (fun hF => ?_)
      refine b_wl_g (fun hg => ?_)
      exact b_wl_s hF
theorem w_X9_settledBy_b57 {M0 M : bM} (hF : b_fr W_X9_settledBy M0 M) : b_wl (F_X9_settledBy_b57 M) (fun o : Int × bM => b_fr W_X9_settledBy M0 o.2) := by
  unfold F_X9_settledBy_b57
  refine b_wl_b b_wl_any (fun o _ => ?_)
  exact b_wl_s hF
theorem w_X9_settledBy {v1 : Int} {v2 : Int} {M0 M : bM} (hF : b_fr W_X9_settledBy M0 M) : b_wl (F_X9_settledBy v1 v2 M) (fun o : Int × bM => b_fr W_X9_settledBy M0 o.2) := by
  unfold F_X9_settledBy
  refine b_wl_b (w_X9_gather b_fr_refl) (fun o ho => ?_)
  replace hF := b_fr_tr hF (b_fr_mo (by decide +kernel) ho)
  refine b_wl_b (w_J7_fill_53178_158 b_fr_refl) (fun o ho => ?_)
  replace hF := b_fr_tr hF (b_fr_mo (by decide +kernel) ho)
  refine b_wl_b (b_wl_loop (A := (fun t : Int × bM => b_fr W_X9_settledBy M0 t.2)) (fun t ht => w_X9_settledBy_s15 ht) hF) (fun t ht => ?_)
  replace hF : b_fr W_X9_settledBy M0 t := ht
  exact w_X9_settledBy_b57 hF
def W_X11_settles : List (Nat × Option Int) := [(2, some 7), (2, some 8), (2, some 9), (6, some 5), (6, some 6), (6, some 7), (6, some 11), (7, some 3), (7, some 4), (7, some 5), (7, some 6), (7, some 13), (10, some 9), (81, none), (82, none), (83, none), (84, none), (126, none), (127, none), (128, none), (129, none), (130, none), (131, none), (132, none), (133, none), (134, none), (135, none), (136, none), (137, none), (138, none), (140, none), (158, none), (159, none), (160, none), (161, none)]
theorem w_X11_settles {v1 : Int} {M0 M : bM} (hF : b_fr W_X11_settles M0 M) : b_wl (F_X11_settles v1 M) (fun o : Int × bM => b_fr W_X11_settles M0 o.2) := by
  unfold F_X11_settles
  refine b_wl_i (fun c1 => ?_) (fun c1 => ?_)
  · exact b_wl_s hF
  · refine b_wl_i (fun c2 => ?_) (fun c2 => ?_)
    · refine b_wl_b (w_X4_know b_fr_refl) (fun o ho => ?_)
      replace hF := b_fr_tr hF (b_fr_mo (by decide +kernel) ho)
      refine b_wl_b (w_X9_settledBy b_fr_refl) (fun o ho => ?_)
      refine b_wl_two ?_
      replace hF := b_fr_tr hF (b_fr_mo (by decide +kernel) ho)
      exact b_wl_s hF
    · exact b_wl_s hF
def W_X9_turn : List (Nat × Option Int) := [(158, none)]
theorem w_X9_turn_b37 {v1 : Int} {v2 : Int} {v3 : Int} {v4 : Int} {u0 : Int} {M0 M : bM} (hF : b_fr W_X9_turn M0 M) : b_wl (F_X9_turn_b37 v1 v2 v3 v4 u0 M) (Sum.elim (fun t : Int × Int × bM => b_fr W_X9_turn M0 t.2.2) (fun t : Int × bM => b_fr W_X9_turn M0 t.2)) := by
  unfold F_X9_turn_b37
  refine b_wl_g (fun hg => ?_)
  refine b_wl_lA (c := 158) hF (by decide +kernel) (fun hF => ?_)
  refine b_wl_g (fun hg => ?_)
  refine b_wl_l ?_
  refine b_wl_g (fun hg => ?_)
  exact b_wl_s hF
theorem w_X9_turn_s5 {v1 : Int} {v2 : Int} {v3 : Int} {v4 : Int} {M0 M : bM} (hF : b_fr W_X9_turn M0 M) : b_wl (F_X9_turn_s5 v1 v2 v3 v4 M) (Sum.elim (fun t : Int × Int × bM => b_fr W_X9_turn M0 t.2.2) (fun t : Int × bM => b_fr W_X9_turn M0 t.2)) := by
  unfold F_X9_turn_s5
  refine b_wl_i (fun c1 => ?_) (fun c1 => ?_)
  · exact b_wl_s hF
  · refine b_wl_i (fun c2 => ?_) (fun c2 => ?_)
    · exact b_wl_s hF
    · refine b_wl_i (fun c3 => ?_) (fun c3 => ?_)
      · exact w_X9_turn_b37 hF
      · exact w_X9_turn_b37 hF
theorem w_X9_turn_b83 {v3 : Int} {M0 M : bM} (hF : b_fr W_X9_turn M0 M) : b_wl (F_X9_turn_b83 v3 M) (fun o : Int × bM => b_fr W_X9_turn M0 o.2) := by
  unfold F_X9_turn_b83
  exact b_wl_s hF
theorem w_X9_turn {v1 : Int} {v2 : Int} {M0 M : bM} (hF : b_fr W_X9_turn M0 M) : b_wl (F_X9_turn v1 v2 M) (fun o : Int × bM => b_fr W_X9_turn M0 o.2) := by
  unfold F_X9_turn
  refine b_wl_b (b_wl_loop (A := (fun t : Int × Int × bM => b_fr W_X9_turn M0 t.2.2)) (fun t ht => w_X9_turn_s5 ht) hF) (fun t ht => ?_)
  replace hF : b_fr W_X9_turn M0 t.2 := ht
  exact w_X9_turn_b83 hF
def W_X9_bestWithin : List (Nat × Option Int) := [(7, some 3), (7, some 4), (7, some 5), (7, some 6), (7, some 13), (10, some 9), (10, some 13), (10, some 14), (10, some 15), (130, none), (131, none), (132, none), (133, none), (134, none), (135, none), (136, none), (137, none), (138, none), (140, none), (158, none), (159, none), (160, none), (161, none)]
theorem w_X9_bestWithin_b95 {v1 : Int} {v4 : Int} {v5 : Int} {v6 : Int} {M0 M : bM} (hF : b_fr W_X9_bestWithin M0 M) : b_wl (F_X9_bestWithin_b95 v1 v4 v5 v6 M) (Sum.elim (fun t : Int × Int × Int × bM => b_fr W_X9_bestWithin M0 t.2.2.2) (fun t : Int × bM => b_fr W_X9_bestWithin M0 t.2)) := by
  unfold F_X9_bestWithin_b95
  refine b_wl_lF (c := 10) (i := 14) hF (by decide +kernel) (fun hF => ?_)
  refine b_wl_lF (c := 10) (i := 15) hF (by decide +kernel) (fun hF => ?_)
  refine b_wl_g (fun hg => ?_)
  exact b_wl_s hF
theorem w_X9_bestWithin_b66 {v1 : Int} {v3 : Int} {v4 : Int} {v5 : Int} {u0 : Int} {M0 M : bM} (hF : b_fr W_X9_bestWithin M0 M) : b_wl (F_X9_bestWithin_b66 v1 v3 v4 v5 u0 M) (Sum.elim (fun t : Int × Int × Int × bM => b_fr W_X9_bestWithin M0 t.2.2.2) (fun t : Int × bM => b_fr W_X9_bestWithin M0 t.2)) := by
  unfold F_X9_bestWithin_b66
  refine b_wl_i (fun c6 => ?_) (fun c6 => ?_)
  · exact w_X9_bestWithin_b95 hF
  · refine b_wl_i (fun c10 => ?_) (fun c10 => ?_)
    · refine b_wl_i (fun c12 => ?_) (fun c12 => ?_)
      · refine b_wl_g (fun hg => ?_)
        exact b_wl_s hF
      · refine b_wl_i (fun c14 => ?_) (fun c14 => ?_)
        · refine b_wl_g (fun hg => ?_)
          exact b_wl_s hF
        · exact w_X9_bestWithin_b95 hF
    · refine b_wl_g (fun hg => ?_)
      exact b_wl_s hF
theorem w_X9_bestWithin_b52 {v1 : Int} {v3 : Int} {v4 : Int} {v5 : Int} {M0 M : bM} (hF : b_fr W_X9_bestWithin M0 M) : b_wl (F_X9_bestWithin_b52 v1 v3 v4 v5 M) (Sum.elim (fun t : Int × Int × Int × bM => b_fr W_X9_bestWithin M0 t.2.2.2) (fun t : Int × bM => b_fr W_X9_bestWithin M0 t.2)) := by
  unfold F_X9_bestWithin_b52
  refine b_wl_i (fun c5 => ?_) (fun c5 => ?_)
  · exact w_X9_bestWithin_b66 hF
  · refine b_wl_b b_wl_any (fun o _ => ?_)
    exact w_X9_bestWithin_b66 hF
theorem w_X9_bestWithin_s21 {v1 : Int} {v3 : Int} {v4 : Int} {v5 : Int} {M0 M : bM} (hF : b_fr W_X9_bestWithin M0 M) : b_wl (F_X9_bestWithin_s21 v1 v3 v4 v5 M) (Sum.elim (fun t : Int × Int × Int × bM => b_fr W_X9_bestWithin M0 t.2.2.2) (fun t : Int × bM => b_fr W_X9_bestWithin M0 t.2)) := by
  unfold F_X9_bestWithin_s21
  refine b_wl_i (fun c3 => ?_) (fun c3 => ?_)
  · exact b_wl_s hF
  · refine b_wl_i (fun c4 => ?_) (fun c4 => ?_)
    · exact w_X9_bestWithin_b52 hF
    · refine b_wl_g (fun hg => ?_)
      refine b_wl_b (w_X9_turn b_fr_refl) (fun o ho => ?_)
      refine b_wl_two ?_
      replace hF := b_fr_tr hF (b_fr_mo (by decide +kernel) ho)
      refine b_wl_g (fun hg => ?_)
      refine b_wl_l ?_
      exact w_X9_bestWithin_b52 hF
theorem w_X9_bestWithin_b116 {v3 : Int} {M0 M : bM} (hF : b_fr W_X9_bestWithin M0 M) : b_wl (F_X9_bestWithin_b116 v3 M) (fun o : Int × bM => b_fr W_X9_bestWithin M0 o.2) := by
  unfold F_X9_bestWithin_b116
  refine b_wl_lF (c := 10) (i := 13) hF (by decide +kernel) (fun hF => ?_)
  exact b_wl_s hF
theorem w_X9_bestWithin {v1 : Int} {v2 : Int} {M0 M : bM} (hF : b_fr W_X9_bestWithin M0 M) : b_wl (F_X9_bestWithin v1 v2 M) (fun o : Int × bM => b_fr W_X9_bestWithin M0 o.2) := by
  unfold F_X9_bestWithin
  refine b_wl_b (w_X9_gather b_fr_refl) (fun o ho => ?_)
  replace hF := b_fr_tr hF (b_fr_mo (by decide +kernel) ho)
  refine b_wl_b (w_J7_fill_53178_158 b_fr_refl) (fun o ho => ?_)
  replace hF := b_fr_tr hF (b_fr_mo (by decide +kernel) ho)
  refine b_wl_b (b_wl_loop (A := (fun t : Int × Int × Int × bM => b_fr W_X9_bestWithin M0 t.2.2.2)) (fun t ht => w_X9_bestWithin_s21 ht) hF) (fun t ht => ?_)
  replace hF : b_fr W_X9_bestWithin M0 t.2 := ht
  exact w_X9_bestWithin_b116 hF
def W_X11_next : List (Nat × Option Int) := [(2, some 7), (2, some 8), (2, some 9), (6, some 5), (6, some 6), (6, some 7), (6, some 11), (7, some 3), (7, some 4), (7, some 5), (7, some 6), (7, some 13), (10, some 9), (10, some 13), (10, some 14), (10, some 15), (81, none), (82, none), (83, none), (84, none), (126, none), (127, none), (128, none), (129, none), (130, none), (131, none), (132, none), (133, none), (134, none), (135, none), (136, none), (137, none), (138, none), (140, none), (158, none), (159, none), (160, none), (161, none)]
theorem w_X11_next {v1 : Int} {M0 M : bM} (hF : b_fr W_X11_next M0 M) : b_wl (F_X11_next v1 M) (fun o : Int × bM => b_fr W_X11_next M0 o.2) := by
  unfold F_X11_next
  refine b_wl_i (fun c1 => ?_) (fun c1 => ?_)
  · exact b_wl_s hF
  · refine b_wl_i (fun c2 => ?_) (fun c2 => ?_)
    · refine b_wl_b (w_X4_know b_fr_refl) (fun o ho => ?_)
      replace hF := b_fr_tr hF (b_fr_mo (by decide +kernel) ho)
      refine b_wl_b (w_X9_bestWithin b_fr_refl) (fun o ho => ?_)
      refine b_wl_two ?_
      replace hF := b_fr_tr hF (b_fr_mo (by decide +kernel) ho)
      exact b_wl_s hF
    · exact b_wl_s hF
def W_X12_feed : List (Nat × Option Int) := [(11, some 1), (162, none)]
theorem w_X12_feed_s73 {v1 : Int} {v2 : Int} {v3 : Int} {v4 : Int} {v5 : Int} {v6 : Int} {v7 : Int} {v8 : Int} {M0 M : bM} (hF : b_fr W_X12_feed M0 M) : b_wl (F_X12_feed_s73 v1 v2 v3 v4 v5 v6 v7 v8 M) (Sum.elim (fun t : Int × bM => b_fr W_X12_feed M0 t.2) (fun t : bM => b_fr W_X12_feed M0 t)) := by
  unfold F_X12_feed_s73
  refine b_wl_i (fun c8 => ?_) (fun c8 => ?_)
  · exact b_wl_s hF
  · refine b_wl_g (fun hg => ?_)
    refine b_wl_lA (c := 162) hF (by decide +kernel) (fun hF => ?_)
    refine b_wl_g (fun hg => ?_)
    refine b_wl_lF (c := 11) (i := 1) hF (by decide +kernel) (fun hF => ?_)
    refine b_wl_g (fun hg => ?_)
    exact b_wl_s hF
theorem w_X12_feed_b109 {v1 : Int} {v2 : Int} {v3 : Int} {v4 : Int} {v5 : Int} {v6 : Int} {M0 M : bM} (hF : b_fr W_X12_feed M0 M) : b_wl (F_X12_feed_b109 v1 v2 v3 v4 v5 v6 M) (Sum.elim (fun t : Int × bM => b_fr W_X12_feed M0 t.2) (fun t : bM => b_fr W_X12_feed M0 t)) := by
  unfold F_X12_feed_b109
  refine b_wl_g (fun hg => ?_)
  exact b_wl_s hF
theorem w_X12_feed_b67 {v1 : Int} {v2 : Int} {v3 : Int} {v4 : Int} {v5 : Int} {v6 : Int} {u0 : Int} {M0 M : bM} (hF : b_fr W_X12_feed M0 M) : b_wl (F_X12_feed_b67 v1 v2 v3 v4 v5 v6 u0 M) (Sum.elim (fun t : Int × bM => b_fr W_X12_feed M0 t.2) (fun t : bM => b_fr W_X12_feed M0 t)) := by
  unfold F_X12_feed_b67
  refine b_wl_b (b_wl_loop (A := (fun t : Int × bM => b_fr W_X12_feed M0 t.2)) (fun t ht => w_X12_feed_s73 ht) hF) (fun t ht => ?_)
  replace hF : b_fr W_X12_feed M0 t := ht
  exact w_X12_feed_b109 hF
theorem w_X12_feed_s19 {v1 : Int} {v2 : Int} {v3 : Int} {v4 : Int} {v5 : Int} {v6 : Int} {M0 M : bM} (hF : b_fr W_X12_feed M0 M) : b_wl (F_X12_feed_s19 v1 v2 v3 v4 v5 v6 M) (Sum.elim (fun t : Int × bM => b_fr W_X12_feed M0 t.2) (fun t : bM => b_fr W_X12_feed M0 t)) := by
  unfold F_X12_feed_s19
  refine b_wl_i (fun c3 => ?_) (fun c3 => ?_)
  · exact b_wl_s hF
  · refine b_wl_i (fun c4 => ?_) (fun c4 => ?_)
    · exact w_X12_feed_b67 hF
    · refine b_wl_i (fun c5 => ?_) (fun c5 => ?_)
      · exact w_X12_feed_b67 hF
      · refine b_wl_i (fun c6 => ?_) (fun c6 => ?_)
        · exact w_X12_feed_b67 hF
        · refine b_wl_i (fun c7 => ?_) (fun c7 => ?_)
          · exact w_X12_feed_b67 hF
          · exact w_X12_feed_b67 hF
theorem w_X12_feed_b115 {M0 M : bM} (hF : b_fr W_X12_feed M0 M) : b_wl (F_X12_feed_b115 M) (fun o : Int × bM => b_fr W_X12_feed M0 o.2) := by
  unfold F_X12_feed_b115
  exact b_wl_s hF
theorem w_X12_feed {v1 : Int} {v2 : Int} {v3 : Int} {v4 : Int} {v5 : Int} {M0 M : bM} (hF : b_fr W_X12_feed M0 M) : b_wl (F_X12_feed v1 v2 v3 v4 v5 M) (fun o : Int × bM => b_fr W_X12_feed M0 o.2) := by
  unfold F_X12_feed
  refine b_wl_g (fun hg => ?_)
  refine b_wl_i (fun c2 => ?_) (fun c2 => ?_)
  · refine b_wl_b (b_wl_loop (A := (fun t : Int × bM => b_fr W_X12_feed M0 t.2)) (fun t ht => w_X12_feed_s19 ht) hF) (fun t ht => ?_)
    replace hF : b_fr W_X12_feed M0 t := ht
    exact w_X12_feed_b115 hF
  · exact b_wl_s hF
def W_X12_end : List (Nat × Option Int) := [(11, some 1)]
theorem w_X12_end {v1 : Int} {M0 M : bM} (hF : b_fr W_X12_end M0 M) : b_wl (F_X12_end v1 M) (fun o : Int × bM => b_fr W_X12_end M0 o.2) := by
  unfold F_X12_end
  refine b_wl_i (fun c1 => ?_) (fun c1 => ?_)
  · exact b_wl_s hF
  · refine b_wl_i (fun c2 => ?_) (fun c2 => ?_)
    · refine b_wl_lF (c := 11) (i := 1) hF (by decide +kernel) (fun hF => ?_)
      exact b_wl_s hF
    · exact b_wl_s hF
def W_X12_keyAt : List (Nat × Option Int) := []
theorem w_X12_keyAt_s54 {v1 : Int} {v2 : Int} {v3 : Int} {v4 : Int} {v5 : Int} {v6 : Int} {v7 : Int} {M0 M : bM} (hF : b_fr W_X12_keyAt M0 M) : b_wl (F_X12_keyAt_s54 v1 v2 v3 v4 v5 v6 v7 M) (Sum.elim (fun t : Int × Int × bM => b_fr W_X12_keyAt M0 t.2.2) (fun t : Int × bM => b_fr W_X12_keyAt M0 t.2)) := by
  unfold F_X12_keyAt_s54
  refine b_wl_i (fun c6 => ?_) (fun c6 => ?_)
  · exact b_wl_s hF
  · refine b_wl_i (fun c7 => ?_) (fun c7 => ?_)
    · exact b_wl_s hF
    · refine b_wl_g (fun hg => ?_)
      refine b_wl_b b_wl_any (fun o _ => ?_)
      refine b_wl_i (fun c12 => ?_) (fun c12 => ?_)
      · refine b_wl_g (fun hg => ?_)
        exact b_wl_s hF
      · refine b_wl_g (fun hg => ?_)
        exact b_wl_s hF
theorem w_X12_keyAt_b100 {v1 : Int} {v2 : Int} {v3 : Int} {v5 : Int} {v6 : Int} {M0 M : bM} (hF : b_fr W_X12_keyAt M0 M) : b_wl (F_X12_keyAt_b100 v1 v2 v3 v5 v6 M) (Sum.elim (fun t : Int × Int × Int × bM => b_fr W_X12_keyAt M0 t.2.2.2) (Sum.elim (fun t : bM => b_fr W_X12_keyAt M0 t) (fun o : Int × bM => b_fr W_X12_keyAt M0 o.2))) := by
  unfold F_X12_keyAt_b100
  refine b_wl_i (fun c15 => ?_) (fun c15 => ?_)
  · refine b_wl_g (fun hg => ?_)
    exact b_wl_s hF
  · exact b_wl_s hF
theorem w_X12_keyAt_b49 {v1 : Int} {v2 : Int} {v3 : Int} {v4 : Int} {v5 : Int} {u0 : Int} {M0 M : bM} (hF : b_fr W_X12_keyAt M0 M) : b_wl (F_X12_keyAt_b49 v1 v2 v3 v4 v5 u0 M) (Sum.elim (fun t : Int × Int × Int × bM => b_fr W_X12_keyAt M0 t.2.2.2) (Sum.elim (fun t : bM => b_fr W_X12_keyAt M0 t) (fun o : Int × bM => b_fr W_X12_keyAt M0 o.2))) := by
  unfold F_X12_keyAt_b49
  refine b_wl_b (b_wl_loop (A := (fun t : Int × Int × bM => b_fr W_X12_keyAt M0 t.2.2)) (fun t ht => w_X12_keyAt_s54 ht) hF) (fun t ht => ?_)
  replace hF : b_fr W_X12_keyAt M0 t.2 := ht
  exact w_X12_keyAt_b100 hF
theorem w_X12_keyAt_s8 {v1 : Int} {v2 : Int} {v3 : Int} {v4 : Int} {v5 : Int} {M0 M : bM} (hF : b_fr W_X12_keyAt M0 M) : b_wl (F_X12_keyAt_s8 v1 v2 v3 v4 v5 M) (Sum.elim (fun t : Int × Int × Int × bM => b_fr W_X12_keyAt M0 t.2.2.2) (Sum.elim (fun t : bM => b_fr W_X12_keyAt M0 t) (fun o : Int × bM => b_fr W_X12_keyAt M0 o.2))) := by
  unfold F_X12_keyAt_s8
  refine b_wl_i (fun c1 => ?_) (fun c1 => ?_)
  · exact b_wl_s hF
  · refine b_wl_g (fun hg => ?_)
    refine b_wl_i (fun c3 => ?_) (fun c3 => ?_)
    · refine b_wl_g (fun hg => ?_)
      refine b_wl_i (fun c5 => ?_) (fun c5 => ?_)
      · exact w_X12_keyAt_b49 hF
      · exact w_X12_keyAt_b49 hF
    · refine b_wl_g (fun hg => ?_)
      exact b_wl_s hF
theorem w_X12_keyAt_b122 {M0 M : bM} (hF : b_fr W_X12_keyAt M0 M) : b_wl (F_X12_keyAt_b122 M) (fun o : Int × bM => b_fr W_X12_keyAt M0 o.2) := by
  unfold F_X12_keyAt_b122
  exact b_wl_s hF
theorem w_X12_keyAt {v1 : Int} {v2 : Int} {M0 M : bM} (hF : b_fr W_X12_keyAt M0 M) : b_wl (F_X12_keyAt v1 v2 M) (fun o : Int × bM => b_fr W_X12_keyAt M0 o.2) := by
  unfold F_X12_keyAt
  refine b_wl_b (b_wl_loop (A := (fun t : Int × Int × Int × bM => b_fr W_X12_keyAt M0 t.2.2.2)) (fun t ht => w_X12_keyAt_s8 ht) hF) (fun t ht => ?_)
  cases t with
  | inr o => exact b_wl_s ht
  | inl t =>
    replace hF : b_fr W_X12_keyAt M0 t := ht
    refine b_wl_inl ?_
    exact w_X12_keyAt_b122 hF
def W_X12_scan : List (Nat × Option Int) := [(11, some 3), (11, some 4), (11, some 5), (11, some 6), (11, some 7), (11, some 10)]
theorem w_X12_scan_s5 {v1 : Int} {M0 M : bM} (hF : b_fr W_X12_scan M0 M) : b_wl (F_X12_scan_s5 v1 M) (Sum.elim (fun _ : Int => True) (fun _ : Int => True)) := by
  unfold F_X12_scan_s5
  refine b_wl_b b_wl_any (fun o _ => ?_)
  refine b_wl_i (fun c2 => ?_) (fun c2 => ?_)
  · refine b_wl_g (fun hg => ?_)
    exact b_wl_s trivial
  · refine b_wl_b b_wl_any (fun o _ => ?_)
    refine b_wl_i (fun c5 => ?_) (fun c5 => ?_)
    · refine b_wl_g (fun hg => ?_)
      exact b_wl_s trivial
    · exact b_wl_s trivial
theorem w_X12_scan_b313 {v3 : Int} {M0 M : bM} (hF : b_fr W_X12_scan M0 M) : b_wl (F_X12_scan_b313 v3 M) (fun o : bM => b_fr W_X12_scan M0 o) := by
  unfold F_X12_scan_b313
  refine b_wl_lF (c := 11) (i := 6) hF (by decide +kernel) (fun hF => ?_)
  exact b_wl_s hF
theorem w_X12_scan_b310 {v3 : Int} {u1 : Int} {M0 M : bM} (hF : b_fr W_X12_scan M0 M) : b_wl (F_X12_scan_b310 v3 u1 M) (fun o : bM => b_fr W_X12_scan M0 o) := by
  unfold F_X12_scan_b310
  refine b_wl_lF (c := 11) (i := 3) hF (by decide +kernel) (fun hF => ?_)
  exact w_X12_scan_b313 hF
theorem w_X12_scan_b228 {v1 : Int} {v3 : Int} {u1 : Int} {M0 M : bM} (hF : b_fr W_X12_scan M0 M) : b_wl (F_X12_scan_b228 v1 v3 u1 M) (Sum.elim (fun t : Int × bM => b_fr W_X12_scan M0 t.2) (fun t : Int × bM => b_fr W_X12_scan M0 t.2)) := by
  unfold F_X12_scan_b228
  refine b_wl_lF (c := 11) (i := 7) hF (by decide +kernel) (fun hF => ?_)
  refine b_wl_g (fun hg => ?_)
  exact b_wl_s hF
theorem w_X12_scan_s186 {v1 : Int} {v3 : Int} {M0 M : bM} (hF : b_fr W_X12_scan M0 M) : b_wl (F_X12_scan_s186 v1 v3 M) (Sum.elim (fun t : Int × bM => b_fr W_X12_scan M0 t.2) (fun t : Int × bM => b_fr W_X12_scan M0 t.2)) := by
  unfold F_X12_scan_s186
  refine b_wl_b b_wl_any (fun o _ => ?_)
  refine b_wl_b b_wl_any (fun o _ => ?_)
  refine b_wl_i (fun c27 => ?_) (fun c27 => ?_)
  · exact b_wl_s hF
  · refine b_wl_g (fun hg => ?_)
    refine b_wl_i (fun c29 => ?_) (fun c29 => ?_)
    · exact w_X12_scan_b228 hF
    · refine b_wl_g (fun hg => ?_)
      refine b_wl_b b_wl_any (fun o _ => ?_)
      refine b_wl_g (fun hg => ?_)
      exact w_X12_scan_b228 hF
theorem w_X12_scan_b250 {v3 : Int} {u1 : Int} {M0 M : bM} (hF : b_fr W_X12_scan M0 M) : b_wl (F_X12_scan_b250 v3 u1 M) (fun o : bM => b_fr W_X12_scan M0 o) := by
  unfold F_X12_scan_b250
  refine b_wl_lF (c := 11) (i := 3) hF (by decide +kernel) (fun hF => ?_)
  exact w_X12_scan_b313 hF
theorem w_X12_scan_b237 {v1 : Int} {v3 : Int} {M0 M : bM} (hF : b_fr W_X12_scan M0 M) : b_wl (F_X12_scan_b237 v1 v3 M) (fun o : bM => b_fr W_X12_scan M0 o) := by
  unfold F_X12_scan_b237
  refine b_wl_g (fun hg => ?_)
  refine b_wl_i (fun c37 => ?_) (fun c37 => ?_)
  · exact w_X12_scan_b250 hF
  · exact w_X12_scan_b250 hF
theorem w_X12_scan_s81 {v1 : Int} {v3 : Int} {M0 M : bM} (hF : b_fr W_X12_scan M0 M) : b_wl (F_X12_scan_s81 v1 v3 M) (Sum.elim (fun t : Int × bM => b_fr W_X12_scan M0 t.2) (fun t : Int × bM => b_fr W_X12_scan M0 t.2)) := by
  unfold F_X12_scan_s81
  refine b_wl_b b_wl_any (fun o _ => ?_)
  refine b_wl_b b_wl_any (fun o _ => ?_)
  refine b_wl_i (fun c42 => ?_) (fun c42 => ?_)
  · exact b_wl_s hF
  · refine b_wl_g (fun hg => ?_)
    refine b_wl_i (fun c44 => ?_) (fun c44 => ?_)
    · refine b_wl_g (fun hg => ?_)
      exact b_wl_s hF
    · refine b_wl_g (fun hg => ?_)
      refine b_wl_b b_wl_any (fun o _ => ?_)
      refine b_wl_g (fun hg => ?_)
      refine b_wl_lF (c := 11) (i := 10) hF (by decide +kernel) (fun hF => ?_)
      refine b_wl_g (fun hg => ?_)
      exact b_wl_s hF
theorem w_X12_scan_b145 {v1 : Int} {v3 : Int} {u1 : Int} {M0 M : bM} (hF : b_fr W_X12_scan M0 M) : b_wl (F_X12_scan_b145 v1 v3 u1 M) (fun o : bM => b_fr W_X12_scan M0 o) := by
  unfold F_X12_scan_b145
  refine b_wl_lF (c := 11) (i := 3) hF (by decide +kernel) (fun hF => ?_)
  refine b_wl_i (fun c56 => ?_) (fun c56 => ?_)
  · refine b_wl_g (fun hg => ?_)
    refine b_wl_b (w_X12_keyAt b_fr_refl) (fun o ho => ?_)
    refine b_wl_two ?_
    replace hF := b_fr_tr hF (b_fr_mo (by decide +kernel) ho)
    refine b_wl_lF (c := 11) (i := 4) hF (by decide +kernel) (fun hF => ?_)
    exact w_X12_scan_b313 hF
  · exact w_X12_scan_b313 hF
theorem w_X12_scan_b131 {v1 : Int} {v3 : Int} {M0 M : bM} (hF : b_fr W_X12_scan M0 M) : b_wl (F_X12_scan_b131 v1 v3 M) (fun o : bM => b_fr W_X12_scan M0 o) := by
  unfold F_X12_scan_b131
  refine b_wl_g (fun hg => ?_)
  refine b_wl_i (fun c54 => ?_) (fun c54 => ?_)
  · exact w_X12_scan_b145 hF
  · exact w_X12_scan_b145 hF
theorem w_X12_scan_b31 {v1 : Int} {M0 M : bM} (hF : b_fr W_X12_scan M0 M) : b_wl (F_X12_scan_b31 v1 M) (fun o : bM => b_fr W_X12_scan M0 o) := by
  unfold F_X12_scan_b31
  refine b_wl_lF (c := 11) (i := 5) hF (by decide +kernel) (fun hF => ?_)
  refine b_wl_b b_wl_any (fun o _ => ?_)
  refine b_wl_g (fun hg => ?_)
  refine b_wl_lF (c := 11) (i := 4) hF (by decide +kernel) (fun hF => ?_)
  refine b_wl_i (fun c11 => ?_) (fun c11 => ?_)
  · refine b_wl_lF (c := 11) (i := 3) hF (by decide +kernel) (fun hF => ?_)
    exact w_X12_scan_b313 hF
  · refine b_wl_b b_wl_any (fun o _ => ?_)
    refine b_wl_i (fun c13 => ?_) (fun c13 => ?_)
    · refine b_wl_b b_wl_any (fun o _ => ?_)
      refine b_wl_i (fun c15 => ?_) (fun c15 => ?_)
      · refine b_wl_i (fun c16 => ?_) (fun c16 => ?_)
        · exact w_X12_scan_b310 hF
        · refine b_wl_i (fun c17 => ?_) (fun c17 => ?_)
          · exact w_X12_scan_b310 hF
          · refine b_wl_i (fun c18 => ?_) (fun c18 => ?_)
            · exact w_X12_scan_b310 hF
            · refine b_wl_i (fun c19 => ?_) (fun c19 => ?_)
              · exact w_X12_scan_b310 hF
              · refine b_wl_i (fun c20 => ?_) (fun c20 => ?_)
                · exact w_X12_scan_b310 hF
                · exact w_X12_scan_b310 hF
      · refine b_wl_g (fun hg => ?_)
        refine b_wl_lF (c := 11) (i := 7) hF (by decide +kernel) (fun hF => ?_)
        refine b_wl_b (b_wl_loop (A := (fun t : Int × bM => b_fr W_X12_scan M0 t.2)) (fun t ht => w_X12_scan_s186 ht) hF) (fun t ht => ?_)
        replace hF : b_fr W_X12_scan M0 t.2 := ht
        exact w_X12_scan_b237 hF
    · refine b_wl_lF (c := 11) (i := 10) hF (by decide +kernel) (fun hF => ?_)
      refine b_wl_b (b_wl_loop (A := (fun t : Int × bM => b_fr W_X12_scan M0 t.2)) (fun t ht => w_X12_scan_s81 ht) hF) (fun t ht => ?_)
      replace hF : b_fr W_X12_scan M0 t.2 := ht
      exact w_X12_scan_b131 hF
theorem w_X12_scan {M0 M : bM} (hF : b_fr W_X12_scan M0 M) : b_wl (F_X12_scan M) (fun o : bM => b_fr W_X12_scan M0 o) := by
  unfold F_X12_scan
  refine b_wl_b (b_wl_loop (A := (fun _ : Int => True)) (fun t ht => w_X12_scan_s5 hF) trivial) (fun t ht => ?_)
  exact w_X12_scan_b31 hF
def W_X12_take : List (Nat × Option Int) := [(11, some 1), (11, some 2), (11, some 3), (11, some 4), (11, some 5), (11, some 6), (11, some 7), (11, some 10)]
theorem w_X12_take {M0 M : bM} (hF : b_fr W_X12_take M0 M) : b_wl (F_X12_take M) (fun o : bM => b_fr W_X12_take M0 o) := by
  unfold F_X12_take
  refine b_wl_lF (c := 11) (i := 2) hF (by decide +kernel) (fun hF => ?_)
  refine b_wl_lF (c := 11) (i := 1) hF (by decide +kernel) (fun hF => ?_)
  refine b_wl_lF (c := 11) (i := 6) hF (by decide +kernel) (fun hF => ?_)
  refine b_wl_b (w_X12_scan b_fr_refl) (fun o ho => ?_)
  replace hF := b_fr_tr hF (b_fr_mo (by decide +kernel) ho)
  exact b_wl_s hF
def W_X12_wrong : List (Nat × Option Int) := [(11, some 8), (11, some 9)]
theorem w_X12_wrong {v1 : Int} {M0 M : bM} (hF : b_fr W_X12_wrong M0 M) : b_wl (F_X12_wrong v1 M) (fun o : Int × bM => b_fr W_X12_wrong M0 o.2) := by
  unfold F_X12_wrong
  refine b_wl_lF (c := 11) (i := 8) hF (by decide +kernel) (fun hF => ?_)
  refine b_wl_lF (c := 11) (i := 9) hF (by decide +kernel) (fun hF => ?_)
  exact b_wl_s hF
def W_X12_pass : List (Nat × Option Int) := [(11, some 11)]
theorem w_X12_pass {v1 : Int} {M0 M : bM} (hF : b_fr W_X12_pass M0 M) : b_wl (F_X12_pass v1 M) (fun o : Int × bM => b_fr W_X12_pass M0 o.2) := by
  unfold F_X12_pass
  refine b_wl_b b_wl_any (fun o _ => ?_)
  refine b_wl_i (fun c2 => ?_) (fun c2 => ?_)
  · exact b_wl_s hF
  · refine b_wl_g (fun hg => ?_)
    refine b_wl_i (fun c4 => ?_) (fun c4 => ?_)
    · refine b_wl_g (fun hg => ?_)
      refine b_wl_lF (c := 11) (i := 11) hF (by decide +kernel) (fun hF => ?_)
      exact b_wl_s hF
    · exact b_wl_s hF
def W_X12_person : List (Nat × Option Int) := [(11, some 12), (163, none)]
theorem w_X12_person {v1 : Int} {M0 M : bM} (hF : b_fr W_X12_person M0 M) : b_wl (F_X12_person v1 M) (fun o : Int × bM => b_fr W_X12_person M0 o.2) := by
  unfold F_X12_person
  refine b_wl_b b_wl_any (fun o _ => ?_)
  refine b_wl_i (fun c2 => ?_) (fun c2 => ?_)
  · exact b_wl_s hF
  · refine b_wl_i (fun c3 => ?_) (fun c3 => ?_)
    · exact b_wl_s hF
    · refine b_wl_g (fun hg => ?_)
      refine b_wl_lA (c := 163) hF (by decide +kernel) (fun hF => ?_)
      refine b_wl_g (fun hg => ?_)
      refine b_wl_lF (c := 11) (i := 12) hF (by decide +kernel) (fun hF => ?_)
      refine b_wl_g (fun hg => ?_)
      exact b_wl_s hF
def W_X12_tell : List (Nat × Option Int) := [(11, some 13), (164, none), (165, none), (166, none), (167, none)]
theorem w_X12_tell {v1 : Int} {v2 : Int} {v3 : Int} {M0 M : bM} (hF : b_fr W_X12_tell M0 M) : b_wl (F_X12_tell v1 v2 v3 M) (fun o : Int × bM => b_fr W_X12_tell M0 o.2) := by
  unfold F_X12_tell
  refine b_wl_i (fun c1 => ?_) (fun c1 => ?_)
  · exact b_wl_s hF
  · refine b_wl_g (fun hg => ?_)
    refine b_wl_lA (c := 164) hF (by decide +kernel) (fun hF => ?_)
    refine b_wl_g (fun hg => ?_)
    refine b_wl_lA (c := 165) hF (by decide +kernel) (fun hF => ?_)
    refine b_wl_g (fun hg => ?_)
    refine b_wl_lA (c := 166) hF (by decide +kernel) (fun hF => ?_)
    refine b_wl_g (fun hg => ?_)
    refine b_wl_lA (c := 167) hF (by decide +kernel) (fun hF => ?_)
    refine b_wl_g (fun hg => ?_)
    refine b_wl_lF (c := 11) (i := 13) hF (by decide +kernel) (fun hF => ?_)
    exact b_wl_s hF
def W_X12_dead : List (Nat × Option Int) := [(11, some 13), (164, none), (165, none), (166, none), (167, none)]
theorem w_X12_dead {v1 : Int} {v2 : Int} {M0 M : bM} (hF : b_fr W_X12_dead M0 M) : b_wl (F_X12_dead v1 v2 M) (fun o : Int × bM => b_fr W_X12_dead M0 o.2) := by
  unfold F_X12_dead
  refine b_wl_b b_wl_any (fun o _ => ?_)
  refine b_wl_i (fun c2 => ?_) (fun c2 => ?_)
  · exact b_wl_s hF
  · refine b_wl_b b_wl_any (fun o _ => ?_)
    refine b_wl_i (fun c4 => ?_) (fun c4 => ?_)
    · exact b_wl_s hF
    · refine b_wl_b (w_X12_tell b_fr_refl) (fun o ho => ?_)
      refine b_wl_two ?_
      replace hF := b_fr_tr hF (b_fr_mo (by decide +kernel) ho)
      exact b_wl_s hF
def W_X12_same : List (Nat × Option Int) := [(11, some 13), (164, none), (165, none), (166, none), (167, none)]
theorem w_X12_same {v1 : Int} {v2 : Int} {M0 M : bM} (hF : b_fr W_X12_same M0 M) : b_wl (F_X12_same v1 v2 M) (fun o : Int × bM => b_fr W_X12_same M0 o.2) := by
  unfold F_X12_same
  refine b_wl_b b_wl_any (fun o _ => ?_)
  refine b_wl_i (fun c2 => ?_) (fun c2 => ?_)
  · exact b_wl_s hF
  · refine b_wl_b (w_X12_tell b_fr_refl) (fun o ho => ?_)
    refine b_wl_two ?_
    replace hF := b_fr_tr hF (b_fr_mo (by decide +kernel) ho)
    exact b_wl_s hF
def W_X12_apart : List (Nat × Option Int) := [(11, some 13), (164, none), (165, none), (166, none), (167, none)]
theorem w_X12_apart {v1 : Int} {v2 : Int} {M0 M : bM} (hF : b_fr W_X12_apart M0 M) : b_wl (F_X12_apart v1 v2 M) (fun o : Int × bM => b_fr W_X12_apart M0 o.2) := by
  unfold F_X12_apart
  refine b_wl_b b_wl_any (fun o _ => ?_)
  refine b_wl_i (fun c2 => ?_) (fun c2 => ?_)
  · exact b_wl_s hF
  · refine b_wl_b (w_X12_tell b_fr_refl) (fun o ho => ?_)
    refine b_wl_two ?_
    replace hF := b_fr_tr hF (b_fr_mo (by decide +kernel) ho)
    exact b_wl_s hF
def W_X12_child : List (Nat × Option Int) := [(11, some 13), (164, none), (165, none), (166, none), (167, none)]
theorem w_X12_child {v1 : Int} {v2 : Int} {M0 M : bM} (hF : b_fr W_X12_child M0 M) : b_wl (F_X12_child v1 v2 M) (fun o : Int × bM => b_fr W_X12_child M0 o.2) := by
  unfold F_X12_child
  refine b_wl_b b_wl_any (fun o _ => ?_)
  refine b_wl_i (fun c2 => ?_) (fun c2 => ?_)
  · exact b_wl_s hF
  · refine b_wl_b (w_X12_tell b_fr_refl) (fun o ho => ?_)
    refine b_wl_two ?_
    replace hF := b_fr_tr hF (b_fr_mo (by decide +kernel) ho)
    exact b_wl_s hF
def W_X12_makeOnes : List (Nat × Option Int) := [(168, none)]
theorem w_X12_makeOnes_s2 {v1 : Int} {v2 : Int} {M0 M : bM} (hF : b_fr W_X12_makeOnes M0 M) : b_wl (F_X12_makeOnes_s2 v1 v2 M) (Sum.elim (fun t : Int × bM => b_fr W_X12_makeOnes M0 t.2) (fun t : bM => b_fr W_X12_makeOnes M0 t)) := by
  unfold F_X12_makeOnes_s2
  refine b_wl_i (fun c1 => ?_) (fun c1 => ?_)
  · exact b_wl_s hF
  · refine b_wl_g (fun hg => ?_)
    refine b_wl_lA (c := 168) hF (by decide +kernel) (fun hF => ?_)
    refine b_wl_g (fun hg => ?_)
    exact b_wl_s hF
theorem w_X12_makeOnes_b152 {v1 : Int} {v3 : Int} {v4 : Int} {v5 : Int} {v6 : Int} {v7 : Int} {M0 M : bM} (hF : b_fr W_X12_makeOnes M0 M) : b_wl (F_X12_makeOnes_b152 v1 v3 v4 v5 v6 v7 M) (Sum.elim (fun t : Int × bM => b_fr W_X12_makeOnes M0 t.2) (fun t : bM => b_fr W_X12_makeOnes M0 t)) := by
  unfold F_X12_makeOnes_b152
  refine b_wl_g (fun hg => ?_)
  refine b_wl_lA (c := 168) hF (by decide +kernel) (fun hF => ?_)
  refine b_wl_g (fun hg => ?_)
  exact b_wl_s hF
theorem w_X12_makeOnes_s119 {v1 : Int} {v3 : Int} {v4 : Int} {v5 : Int} {v6 : Int} {v7 : Int} {M0 M : bM} (hF : b_fr W_X12_makeOnes M0 M) : b_wl (F_X12_makeOnes_s119 v1 v3 v4 v5 v6 v7 M) (Sum.elim (fun t : Int × bM => b_fr W_X12_makeOnes M0 t.2) (fun t : bM => b_fr W_X12_makeOnes M0 t)) := by
  unfold F_X12_makeOnes_s119
  refine b_wl_i (fun c20 => ?_) (fun c20 => ?_)
  · exact b_wl_s hF
  · refine b_wl_g (fun hg => ?_)
    refine b_wl_i (fun c22 => ?_) (fun c22 => ?_)
    · exact w_X12_makeOnes_b152 hF
    · refine b_wl_g (fun hg => ?_)
      refine b_wl_i (fun c27 => ?_) (fun c27 => ?_)
      · exact w_X12_makeOnes_b152 hF
      · refine b_wl_g (fun hg => ?_)
        exact b_wl_s hF
theorem w_X12_makeOnes_b167 {v1 : Int} {v3 : Int} {M0 M : bM} (hF : b_fr W_X12_makeOnes M0 M) : b_wl (F_X12_makeOnes_b167 v1 v3 M) (Sum.elim (fun t : Int × Int × bM => b_fr W_X12_makeOnes M0 t.2.2) (fun t : Int × bM => b_fr W_X12_makeOnes M0 t.2)) := by
  unfold F_X12_makeOnes_b167
  refine b_wl_g (fun hg => ?_)
  exact b_wl_s hF
theorem w_X12_makeOnes_b114 {v1 : Int} {v3 : Int} {v4 : Int} {v5 : Int} {u0 : Int} {M0 M : bM} (hF : b_fr W_X12_makeOnes M0 M) : b_wl (F_X12_makeOnes_b114 v1 v3 v4 v5 u0 M) (Sum.elim (fun t : Int × Int × bM => b_fr W_X12_makeOnes M0 t.2.2) (fun t : Int × bM => b_fr W_X12_makeOnes M0 t.2)) := by
  unfold F_X12_makeOnes_b114
  refine b_wl_b (b_wl_loop (A := (fun t : Int × bM => b_fr W_X12_makeOnes M0 t.2)) (fun t ht => w_X12_makeOnes_s119 ht) hF) (fun t ht => ?_)
  replace hF : b_fr W_X12_makeOnes M0 t := ht
  exact w_X12_makeOnes_b167 hF
theorem w_X12_makeOnes_s33 {v1 : Int} {v2 : Int} {v3 : Int} {M0 M : bM} (hF : b_fr W_X12_makeOnes M0 M) : b_wl (F_X12_makeOnes_s33 v1 v2 v3 M) (Sum.elim (fun t : Int × Int × bM => b_fr W_X12_makeOnes M0 t.2.2) (fun t : Int × bM => b_fr W_X12_makeOnes M0 t.2)) := by
  unfold F_X12_makeOnes_s33
  refine b_wl_i (fun c6 => ?_) (fun c6 => ?_)
  · exact b_wl_s hF
  · refine b_wl_g (fun hg => ?_)
    refine b_wl_i (fun c8 => ?_) (fun c8 => ?_)
    · refine b_wl_g (fun hg => ?_)
      refine b_wl_i (fun c11 => ?_) (fun c11 => ?_)
      · refine b_wl_g (fun hg => ?_)
        refine b_wl_l ?_
        refine b_wl_g (fun hg => ?_)
        refine b_wl_l ?_
        refine b_wl_i (fun c18 => ?_) (fun c18 => ?_)
        · refine b_wl_g (fun hg => ?_)
          exact b_wl_s hF
        · refine b_wl_i (fun c19 => ?_) (fun c19 => ?_)
          · exact w_X12_makeOnes_b114 hF
          · exact w_X12_makeOnes_b114 hF
      · refine b_wl_g (fun hg => ?_)
        exact b_wl_s hF
    · refine b_wl_g (fun hg => ?_)
      exact b_wl_s hF
theorem w_X12_makeOnes_b175 {v1 : Int} {v2 : Int} {M0 M : bM} (hF : b_fr W_X12_makeOnes M0 M) : b_wl (F_X12_makeOnes_b175 v1 v2 M) (Sum.elim (fun t : Int × bM => b_fr W_X12_makeOnes M0 t.2) (fun t : bM => b_fr W_X12_makeOnes M0 t)) := by
  unfold F_X12_makeOnes_b175
  exact b_wl_s hF
theorem w_X12_makeOnes_s25 {v1 : Int} {v2 : Int} {M0 M : bM} (hF : b_fr W_X12_makeOnes M0 M) : b_wl (F_X12_makeOnes_s25 v1 v2 M) (Sum.elim (fun t : Int × bM => b_fr W_X12_makeOnes M0 t.2) (fun t : bM => b_fr W_X12_makeOnes M0 t)) := by
  unfold F_X12_makeOnes_s25
  refine b_wl_i (fun c5 => ?_) (fun c5 => ?_)
  · exact b_wl_s hF
  · refine b_wl_b (b_wl_loop (A := (fun t : Int × Int × bM => b_fr W_X12_makeOnes M0 t.2.2)) (fun t ht => w_X12_makeOnes_s33 ht) hF) (fun t ht => ?_)
    replace hF : b_fr W_X12_makeOnes M0 t.2 := ht
    exact w_X12_makeOnes_b175 hF
theorem w_X12_makeOnes_b178 {M0 M : bM} (hF : b_fr W_X12_makeOnes M0 M) : b_wl (F_X12_makeOnes_b178 M) (fun o : bM => b_fr W_X12_makeOnes M0 o) := by
  unfold F_X12_makeOnes_b178
  exact b_wl_s hF
theorem w_X12_makeOnes_b23 {v1 : Int} {M0 M : bM} (hF : b_fr W_X12_makeOnes M0 M) : b_wl (F_X12_makeOnes_b23 v1 M) (fun o : bM => b_fr W_X12_makeOnes M0 o) := by
  unfold F_X12_makeOnes_b23
  refine b_wl_b (b_wl_loop (A := (fun t : Int × bM => b_fr W_X12_makeOnes M0 t.2)) (fun t ht => w_X12_makeOnes_s25 ht) hF) (fun t ht => ?_)
  replace hF : b_fr W_X12_makeOnes M0 t := ht
  exact w_X12_makeOnes_b178 hF
theorem w_X12_makeOnes {v1 : Int} {M0 M : bM} (hF : b_fr W_X12_makeOnes M0 M) : b_wl (F_X12_makeOnes v1 M) (fun o : bM => b_fr W_X12_makeOnes M0 o) := by
  unfold F_X12_makeOnes
  refine b_wl_b (b_wl_loop (A := (fun t : Int × bM => b_fr W_X12_makeOnes M0 t.2)) (fun t ht => w_X12_makeOnes_s2 ht) hF) (fun t ht => ?_)
  replace hF : b_fr W_X12_makeOnes M0 t := ht
  exact w_X12_makeOnes_b23 hF
def W_X12_deadOn : List (Nat × Option Int) := [(168, none)]
theorem w_X12_deadOn {v1 : Int} {v2 : Int} {M0 M : bM} (hF : b_fr W_X12_deadOn M0 M) : b_wl (F_X12_deadOn v1 v2 M) (fun o : Int × bM => b_fr W_X12_deadOn M0 o.2) := by
  unfold F_X12_deadOn
  refine b_wl_b b_wl_any (fun o _ => ?_)
  refine b_wl_i (fun c2 => ?_) (fun c2 => ?_)
  · exact b_wl_s hF
  · refine b_wl_b b_wl_any (fun o _ => ?_)
    refine b_wl_i (fun c4 => ?_) (fun c4 => ?_)
    · exact b_wl_s hF
    · refine b_wl_b (w_X12_makeOnes b_fr_refl) (fun o ho => ?_)
      replace hF := b_fr_tr hF (b_fr_mo (by decide +kernel) ho)
      refine b_wl_b b_wl_any (fun o _ => ?_)
      exact b_wl_s hF
def W_X12_one : List (Nat × Option Int) := [(168, none)]
theorem w_X12_one {v1 : Int} {v2 : Int} {v3 : Int} {M0 M : bM} (hF : b_fr W_X12_one M0 M) : b_wl (F_X12_one v1 v2 v3 M) (fun o : Int × bM => b_fr W_X12_one M0 o.2) := by
  unfold F_X12_one
  refine b_wl_b b_wl_any (fun o _ => ?_)
  refine b_wl_i (fun c2 => ?_) (fun c2 => ?_)
  · exact b_wl_s hF
  · refine b_wl_b b_wl_any (fun o _ => ?_)
    refine b_wl_i (fun c4 => ?_) (fun c4 => ?_)
    · exact b_wl_s hF
    · refine b_wl_b b_wl_any (fun o _ => ?_)
      refine b_wl_i (fun c6 => ?_) (fun c6 => ?_)
      · exact b_wl_s hF
      · refine b_wl_b (w_X12_makeOnes b_fr_refl) (fun o ho => ?_)
        replace hF := b_fr_tr hF (b_fr_mo (by decide +kernel) ho)
        refine b_wl_g (fun hg => ?_)
        refine b_wl_i (fun c10 => ?_) (fun c10 => ?_)
        · exact b_wl_s hF
        · exact b_wl_s hF
def W_X12_names : List (Nat × Option Int) := [(168, none)]
theorem w_X12_names_b78 {v1 : Int} {v3 : Int} {u0 : Int} {u1 : Int} {M0 M : bM} (hF : b_fr W_X12_names M0 M) : b_wl (F_X12_names_b78 v1 v3 u0 u1 M) (Sum.elim (fun _ : Int × Int => True) (fun _ : Int => True)) := by
  unfold F_X12_names_b78
  refine b_wl_g (fun hg => ?_)
  exact b_wl_s trivial
theorem w_X12_names_b77 {v1 : Int} {v3 : Int} {u0 : Int} {M0 M : bM} (hF : b_fr W_X12_names M0 M) : b_wl (F_X12_names_b77 v1 v3 u0 M) (Sum.elim (fun _ : Int × Int => True) (fun _ : Int => True)) := by
  unfold F_X12_names_b77
  exact w_X12_names_b78 hF
theorem w_X12_names_s19 {v1 : Int} {v2 : Int} {v3 : Int} {M0 M : bM} (hF : b_fr W_X12_names M0 M) : b_wl (F_X12_names_s19 v1 v2 v3 M) (Sum.elim (fun _ : Int × Int => True) (fun _ : Int => True)) := by
  unfold F_X12_names_s19
  refine b_wl_i (fun c4 => ?_) (fun c4 => ?_)
  · exact b_wl_s trivial
  · refine b_wl_g (fun hg => ?_)
    refine b_wl_i (fun c6 => ?_) (fun c6 => ?_)
    · refine b_wl_g (fun hg => ?_)
      refine b_wl_i (fun c10 => ?_) (fun c10 => ?_)
      · exact w_X12_names_b77 hF
      · refine b_wl_g (fun hg => ?_)
        refine b_wl_i (fun c14 => ?_) (fun c14 => ?_)
        · exact w_X12_names_b78 hF
        · exact w_X12_names_b77 hF
    · exact w_X12_names_b77 hF
theorem w_X12_names_b86 {v2 : Int} {M0 M : bM} (hF : b_fr W_X12_names M0 M) : b_wl (F_X12_names_b86 v2 M) (fun o : Int × bM => b_fr W_X12_names M0 o.2) := by
  unfold F_X12_names_b86
  exact b_wl_s hF
theorem w_X12_names {v1 : Int} {M0 M : bM} (hF : b_fr W_X12_names M0 M) : b_wl (F_X12_names v1 M) (fun o : Int × bM => b_fr W_X12_names M0 o.2) := by
  unfold F_X12_names
  refine b_wl_b b_wl_any (fun o _ => ?_)
  refine b_wl_i (fun c2 => ?_) (fun c2 => ?_)
  · exact b_wl_s hF
  · refine b_wl_b (w_X12_makeOnes b_fr_refl) (fun o ho => ?_)
    replace hF := b_fr_tr hF (b_fr_mo (by decide +kernel) ho)
    refine b_wl_b (b_wl_loop (A := (fun _ : Int × Int => True)) (fun t ht => w_X12_names_s19 hF) trivial) (fun t ht => ?_)
    exact w_X12_names_b86 hF
def W_X12_add : List (Nat × Option Int) := [(11, some 20), (169, none), (170, none), (174, none)]
theorem w_X12_add {v1 : Int} {v2 : Int} {v3 : Int} {M0 M : bM} (hF : b_fr W_X12_add M0 M) : b_wl (F_X12_add v1 v2 v3 M) (fun o : Int × bM => b_fr W_X12_add M0 o.2) := by
  unfold F_X12_add
  refine b_wl_g (fun hg => ?_)
  refine b_wl_lA (c := 169) hF (by decide +kernel) (fun hF => ?_)
  refine b_wl_g (fun hg => ?_)
  refine b_wl_lA (c := 170) hF (by decide +kernel) (fun hF => ?_)
  refine b_wl_g (fun hg => ?_)
  refine b_wl_lA (c := 174) hF (by decide +kernel) (fun hF => ?_)
  refine b_wl_g (fun hg => ?_)
  refine b_wl_lF (c := 11) (i := 20) hF (by decide +kernel) (fun hF => ?_)
  refine b_wl_g (fun hg => ?_)
  exact b_wl_s hF
def W_X12_lot : List (Nat × Option Int) := [(11, some 20), (169, none), (170, none), (174, none)]
theorem w_X12_lot {v1 : Int} {v2 : Int} {M0 M : bM} (hF : b_fr W_X12_lot M0 M) : b_wl (F_X12_lot v1 v2 M) (fun o : Int × bM => b_fr W_X12_lot M0 o.2) := by
  unfold F_X12_lot
  refine b_wl_b b_wl_any (fun o _ => ?_)
  refine b_wl_i (fun c2 => ?_) (fun c2 => ?_)
  · exact b_wl_s hF
  · refine b_wl_b b_wl_any (fun o _ => ?_)
    refine b_wl_i (fun c4 => ?_) (fun c4 => ?_)
    · exact b_wl_s hF
    · refine b_wl_i (fun c5 => ?_) (fun c5 => ?_)
      · exact b_wl_s hF
      · refine b_wl_b (w_X12_add b_fr_refl) (fun o ho => ?_)
        refine b_wl_two ?_
        replace hF := b_fr_tr hF (b_fr_mo (by decide +kernel) ho)
        exact b_wl_s hF
def W_X12_split : List (Nat × Option Int) := [(11, some 20), (169, none), (170, none), (171, none), (172, none), (174, none)]
theorem w_X12_split_b208 {v1 : Int} {v2 : Int} {v3 : Int} {v7 : Int} {v8 : Int} {M0 M : bM} (hF : b_fr W_X12_split M0 M) : b_wl (F_X12_split_b208 v1 v2 v3 v7 v8 M) (fun o : Int × bM => b_fr W_X12_split M0 o.2) := by
  unfold F_X12_split_b208
  refine b_wl_i (fun c37 => ?_) (fun c37 => ?_)
  · exact b_wl_s hF
  · refine b_wl_g (fun hg => ?_)
    refine b_wl_b (w_X12_add b_fr_refl) (fun o ho => ?_)
    refine b_wl_two ?_
    replace hF := b_fr_tr hF (b_fr_mo (by decide +kernel) ho)
    exact b_wl_s hF
theorem w_X12_split_b159 {v1 : Int} {v2 : Int} {v3 : Int} {v4 : Int} {v5 : Int} {v6 : Int} {v7 : Int} {v8 : Int} {u1 : Int} {u2 : Int} {u3 : Int} {M0 M : bM} (hF : b_fr W_X12_split M0 M) : b_wl (F_X12_split_b159 v1 v2 v3 v4 v5 v6 v7 v8 u1 u2 u3 M) (fun o : Int × bM => b_fr W_X12_split M0 o.2) := by
  unfold F_X12_split_b159
  refine b_wl_g (fun hg => ?_)
  refine b_wl_lA (c := 172) hF (by decide +kernel) (fun hF => ?_)
  refine b_wl_g (fun hg => ?_)
  refine b_wl_b (w_X12_add b_fr_refl) (fun o ho => ?_)
  refine b_wl_two ?_
  replace hF := b_fr_tr hF (b_fr_mo (by decide +kernel) ho)
  refine b_wl_g (fun hg => ?_)
  refine b_wl_b (w_X12_add b_fr_refl) (fun o ho => ?_)
  refine b_wl_two ?_
  replace hF := b_fr_tr hF (b_fr_mo (by decide +kernel) ho)
  refine b_wl_i (fun c36 => ?_) (fun c36 => ?_)
  · exact w_X12_split_b208 hF
  · refine b_wl_g (fun hg => ?_)
    refine b_wl_b (w_X12_add b_fr_refl) (fun o ho => ?_)
    refine b_wl_two ?_
    replace hF := b_fr_tr hF (b_fr_mo (by decide +kernel) ho)
    exact w_X12_split_b208 hF
theorem w_X12_split_b147 {v1 : Int} {v2 : Int} {v3 : Int} {v4 : Int} {v5 : Int} {v6 : Int} {v7 : Int} {v8 : Int} {u1 : Int} {u2 : Int} {u3 : Int} {M0 M : bM} (hF : b_fr W_X12_split M0 M) : b_wl (F_X12_split_b147 v1 v2 v3 v4 v5 v6 v7 v8 u1 u2 u3 M) (fun o : Int × bM => b_fr W_X12_split M0 o.2) := by
  unfold F_X12_split_b147
  refine b_wl_g (fun hg => ?_)
  refine b_wl_i (fun c26 => ?_) (fun c26 => ?_)
  · exact w_X12_split_b159 hF
  · exact w_X12_split_b159 hF
theorem w_X12_split_b69 {v1 : Int} {v2 : Int} {v3 : Int} {v4 : Int} {v5 : Int} {v6 : Int} {v7 : Int} {M0 M : bM} (hF : b_fr W_X12_split M0 M) : b_wl (F_X12_split_b69 v1 v2 v3 v4 v5 v6 v7 M) (fun o : Int × bM => b_fr W_X12_split M0 o.2) := by
  unfold F_X12_split_b69
  refine b_wl_g (fun hg => ?_)
  refine b_wl_i (fun c14 => ?_) (fun c14 => ?_)
  · exact b_wl_s hF
  · refine b_wl_g (fun hg => ?_)
    refine b_wl_i (fun c16 => ?_) (fun c16 => ?_)
    · refine b_wl_g (fun hg => ?_)
      refine b_wl_i (fun c18 => ?_) (fun c18 => ?_)
      · refine b_wl_g (fun hg => ?_)
        refine b_wl_lA (c := 171) hF (by decide +kernel) (fun hF => ?_)
        refine b_wl_g (fun hg => ?_)
        refine b_wl_i (fun c24 => ?_) (fun c24 => ?_)
        · exact w_X12_split_b147 hF
        · exact w_X12_split_b147 hF
      · exact b_wl_s hF
    · exact b_wl_s hF
theorem w_X12_split_b53 {v1 : Int} {v2 : Int} {v3 : Int} {v4 : Int} {v5 : Int} {v6 : Int} {v7 : Int} {M0 M : bM} (hF : b_fr W_X12_split M0 M) : b_wl (F_X12_split_b53 v1 v2 v3 v4 v5 v6 v7 M) (fun o : Int × bM => b_fr W_X12_split M0 o.2) := by
  unfold F_X12_split_b53
  refine b_wl_i (fun c12 => ?_) (fun c12 => ?_)
  · exact w_X12_split_b69 hF
  · refine b_wl_b b_wl_any (fun o _ => ?_)
    refine b_wl_i (fun c45 => ?_) (fun c45 => ?_)
    · exact b_wl_s hF
    · exact w_X12_split_b69 hF
theorem w_X12_split {v1 : Int} {v2 : Int} {v3 : Int} {v4 : Int} {v5 : Int} {v6 : Int} {v7 : Int} {M0 M : bM} (hF : b_fr W_X12_split M0 M) : b_wl (F_X12_split v1 v2 v3 v4 v5 v6 v7 M) (fun o : Int × bM => b_fr W_X12_split M0 o.2) := by
  unfold F_X12_split
  refine b_wl_b b_wl_any (fun o _ => ?_)
  refine b_wl_i (fun c2 => ?_) (fun c2 => ?_)
  · exact b_wl_s hF
  · refine b_wl_b b_wl_any (fun o _ => ?_)
    refine b_wl_i (fun c4 => ?_) (fun c4 => ?_)
    · exact b_wl_s hF
    · refine b_wl_b b_wl_any (fun o _ => ?_)
      refine b_wl_i (fun c6 => ?_) (fun c6 => ?_)
      · exact b_wl_s hF
      · refine b_wl_b b_wl_any (fun o _ => ?_)
        refine b_wl_i (fun c8 => ?_) (fun c8 => ?_)
        · exact b_wl_s hF
        · refine b_wl_b b_wl_any (fun o _ => ?_)
          refine b_wl_i (fun c10 => ?_) (fun c10 => ?_)
          · exact b_wl_s hF
          · refine b_wl_i (fun c11 => ?_) (fun c11 => ?_)
            · exact w_X12_split_b53 hF
            · refine b_wl_b b_wl_any (fun o _ => ?_)
              refine b_wl_i (fun c47 => ?_) (fun c47 => ?_)
              · exact b_wl_s hF
              · exact w_X12_split_b53 hF
def W_X12_join : List (Nat × Option Int) := [(11, some 20), (169, none), (170, none), (171, none), (173, none), (174, none)]
theorem w_X12_join_b72 {v1 : Int} {v2 : Int} {v3 : Int} {v4 : Int} {v5 : Int} {v6 : Int} {v7 : Int} {v8 : Int} {v10 : Int} {u0 : Int} {M0 M : bM} (hF : b_fr W_X12_join M0 M) : b_wl (F_X12_join_b72 v1 v2 v3 v4 v5 v6 v7 v8 v10 u0 M) (Sum.elim (fun _ : Int × Int => True) (Sum.elim (fun _ : Int => True) (fun o : Int × bM => b_fr W_X12_join M0 o.2))) := by
  unfold F_X12_join_b72
  refine b_wl_b b_wl_any (fun o _ => ?_)
  refine b_wl_i (fun c12 => ?_) (fun c12 => ?_)
  · exact b_wl_s hF
  · refine b_wl_i (fun c13 => ?_) (fun c13 => ?_)
    · exact b_wl_s hF
    · refine b_wl_l ?_
      refine b_wl_g (fun hg => ?_)
      exact b_wl_s trivial
theorem w_X12_join_s34 {v1 : Int} {v2 : Int} {v3 : Int} {v4 : Int} {v5 : Int} {v6 : Int} {v7 : Int} {v8 : Int} {v10 : Int} {M0 M : bM} (hF : b_fr W_X12_join M0 M) : b_wl (F_X12_join_s34 v1 v2 v3 v4 v5 v6 v7 v8 v10 M) (Sum.elim (fun _ : Int × Int => True) (Sum.elim (fun _ : Int => True) (fun o : Int × bM => b_fr W_X12_join M0 o.2))) := by
  unfold F_X12_join_s34
  refine b_wl_i (fun c7 => ?_) (fun c7 => ?_)
  · exact b_wl_s trivial
  · refine b_wl_i (fun c8 => ?_) (fun c8 => ?_)
    · exact w_X12_join_b72 hF
    · refine b_wl_i (fun c9 => ?_) (fun c9 => ?_)
      · exact w_X12_join_b72 hF
      · refine b_wl_i (fun c10 => ?_) (fun c10 => ?_)
        · exact w_X12_join_b72 hF
        · exact w_X12_join_b72 hF
theorem w_X12_join_s122 {v6 : Int} {v7 : Int} {v8 : Int} {v10 : Int} {v12 : Int} {v13 : Int} {M0 M : bM} (hF : b_fr W_X12_join M0 M) : b_wl (F_X12_join_s122 v6 v7 v8 v10 v12 v13 M) (Sum.elim (fun _ : Int × Int × Int => True) (Sum.elim (fun _ : Int × Int => True) (fun o : Int × bM => b_fr W_X12_join M0 o.2))) := by
  unfold F_X12_join_s122
  refine b_wl_i (fun c16 => ?_) (fun c16 => ?_)
  · exact b_wl_s trivial
  · refine b_wl_i (fun c17 => ?_) (fun c17 => ?_)
    · refine b_wl_g (fun hg => ?_)
      exact b_wl_s trivial
    · refine b_wl_g (fun hg => ?_)
      refine b_wl_i (fun c19 => ?_) (fun c19 => ?_)
      · exact b_wl_s hF
      · refine b_wl_g (fun hg => ?_)
        refine b_wl_i (fun c21 => ?_) (fun c21 => ?_)
        · refine b_wl_g (fun hg => ?_)
          refine b_wl_l ?_
          refine b_wl_g (fun hg => ?_)
          refine b_wl_l ?_
          refine b_wl_g (fun hg => ?_)
          exact b_wl_s trivial
        · exact b_wl_s hF
theorem w_X12_join_s217 {v6 : Int} {v7 : Int} {v8 : Int} {v10 : Int} {v12 : Int} {v13 : Int} {M0 M : bM} (hF : b_fr W_X12_join M0 M) : b_wl (F_X12_join_s217 v6 v7 v8 v10 v12 v13 M) (Sum.elim (fun t : Int × bM => b_fr W_X12_join M0 t.2) (fun t : bM => b_fr W_X12_join M0 t)) := by
  unfold F_X12_join_s217
  refine b_wl_i (fun c30 => ?_) (fun c30 => ?_)
  · exact b_wl_s hF
  · refine b_wl_i (fun c31 => ?_) (fun c31 => ?_)
    · refine b_wl_g (fun hg => ?_)
      refine b_wl_lA (c := 171) hF (by decide +kernel) (fun hF => ?_)
      refine b_wl_g (fun hg => ?_)
      exact b_wl_s hF
    · refine b_wl_g (fun hg => ?_)
      exact b_wl_s hF
theorem w_X12_join_b253 {v6 : Int} {v7 : Int} {v10 : Int} {v12 : Int} {M0 M : bM} (hF : b_fr W_X12_join M0 M) : b_wl (F_X12_join_b253 v6 v7 v10 v12 M) (fun o : Int × bM => b_fr W_X12_join M0 o.2) := by
  unfold F_X12_join_b253
  refine b_wl_b (w_X12_add b_fr_refl) (fun o ho => ?_)
  refine b_wl_two ?_
  replace hF := b_fr_tr hF (b_fr_mo (by decide +kernel) ho)
  refine b_wl_g (fun hg => ?_)
  refine b_wl_lA (c := 173) hF (by decide +kernel) (fun hF => ?_)
  exact b_wl_s hF
theorem w_X12_join_b202 {v6 : Int} {v7 : Int} {v8 : Int} {v10 : Int} {v12 : Int} {M0 M : bM} (hF : b_fr W_X12_join M0 M) : b_wl (F_X12_join_b202 v6 v7 v8 v10 v12 M) (fun o : Int × bM => b_fr W_X12_join M0 o.2) := by
  unfold F_X12_join_b202
  refine b_wl_i (fun c29 => ?_) (fun c29 => ?_)
  · exact b_wl_s hF
  · refine b_wl_b (b_wl_loop (A := (fun t : Int × bM => b_fr W_X12_join M0 t.2)) (fun t ht => w_X12_join_s217 ht) hF) (fun t ht => ?_)
    replace hF : b_fr W_X12_join M0 t := ht
    exact w_X12_join_b253 hF
theorem w_X12_join_b113 {v6 : Int} {v7 : Int} {v8 : Int} {M0 M : bM} (hF : b_fr W_X12_join M0 M) : b_wl (F_X12_join_b113 v6 v7 v8 M) (fun o : Int × bM => b_fr W_X12_join M0 o.2) := by
  unfold F_X12_join_b113
  refine b_wl_b (b_wl_loop (A := (fun _ : Int × Int × Int => True)) (fun t ht => w_X12_join_s122 hF) trivial) (fun t ht => ?_)
  cases t with
  | inr o => exact b_wl_s ht
  | inl t =>
    refine b_wl_inl ?_
    exact w_X12_join_b202 hF
theorem w_X12_join {v1 : Int} {v2 : Int} {v3 : Int} {v4 : Int} {v5 : Int} {v6 : Int} {v7 : Int} {M0 M : bM} (hF : b_fr W_X12_join M0 M) : b_wl (F_X12_join v1 v2 v3 v4 v5 v6 v7 M) (fun o : Int × bM => b_fr W_X12_join M0 o.2) := by
  unfold F_X12_join
  refine b_wl_b b_wl_any (fun o _ => ?_)
  refine b_wl_i (fun c2 => ?_) (fun c2 => ?_)
  · exact b_wl_s hF
  · refine b_wl_b b_wl_any (fun o _ => ?_)
    refine b_wl_i (fun c4 => ?_) (fun c4 => ?_)
    · exact b_wl_s hF
    · refine b_wl_b b_wl_any (fun o _ => ?_)
      refine b_wl_i (fun c6 => ?_) (fun c6 => ?_)
      · exact b_wl_s hF
      · refine b_wl_b (b_wl_loop (A := (fun _ : Int × Int => True)) (fun t ht => w_X12_join_s34 hF) trivial) (fun t ht => ?_)
        cases t with
        | inr o => exact b_wl_s ht
        | inl t =>
          refine b_wl_inl ?_
          exact w_X12_join_b113 hF
def W_X12_readBounds : List (Nat × Option Int) := [(11, some 3), (11, some 4), (11, some 5), (11, some 6), (11, some 7), (11, some 8), (11, some 9), (11, some 10), (11, some 32), (178, none), (179, none)]
theorem w_X12_readBounds_b19 {M0 M : bM} (hF : b_fr W_X12_readBounds M0 M) : b_wl (F_X12_readBounds_b19 M) (Sum.elim (fun t : Int × bM => b_fr W_X12_readBounds M0 t.2) (Sum.elim (fun t : Int × bM => b_fr W_X12_readBounds M0 t.2) (fun o : Int × bM => b_fr W_X12_readBounds M0 o.2))) := by
  unfold F_X12_readBounds_b19
  refine b_wl_b (w_X12_wrong b_fr_refl) (fun o ho => ?_)
  refine b_wl_two ?_
  replace hF := b_fr_tr hF (b_fr_mo (by decide +kernel) ho)
  refine b_wl_g (fun hg => ?_)
  exact b_wl_s hF
theorem w_X12_readBounds_s2 {v1 : Int} {M0 M : bM} (hF : b_fr W_X12_readBounds M0 M) : b_wl (F_X12_readBounds_s2 v1 M) (Sum.elim (fun t : Int × bM => b_fr W_X12_readBounds M0 t.2) (Sum.elim (fun t : Int × bM => b_fr W_X12_readBounds M0 t.2) (fun o : Int × bM => b_fr W_X12_readBounds M0 o.2))) := by
  unfold F_X12_readBounds_s2
  refine b_wl_i (fun c1 => ?_) (fun c1 => ?_)
  · refine b_wl_i (fun c5 => ?_) (fun c5 => ?_)
    · refine b_wl_i (fun c6 => ?_) (fun c6 => ?_)
      · refine b_wl_b (w_X12_wrong b_fr_refl) (fun o ho => ?_)
        refine b_wl_two ?_
        replace hF := b_fr_tr hF (b_fr_mo (by decide +kernel) ho)
        refine b_wl_g (fun hg => ?_)
        exact b_wl_s hF
      · refine b_wl_g (fun hg => ?_)
        refine b_wl_lA (c := 178) hF (by decide +kernel) (fun hF => ?_)
        refine b_wl_b (w_X12_scan b_fr_refl) (fun o ho => ?_)
        replace hF := b_fr_tr hF (b_fr_mo (by decide +kernel) ho)
        refine b_wl_i (fun c12 => ?_) (fun c12 => ?_)
        · refine b_wl_b b_wl_any (fun o _ => ?_)
          refine b_wl_i (fun c14 => ?_) (fun c14 => ?_)
          · refine b_wl_b (w_X12_wrong b_fr_refl) (fun o ho => ?_)
            refine b_wl_two ?_
            replace hF := b_fr_tr hF (b_fr_mo (by decide +kernel) ho)
            refine b_wl_g (fun hg => ?_)
            exact b_wl_s hF
          · refine b_wl_g (fun hg => ?_)
            refine b_wl_lA (c := 179) hF (by decide +kernel) (fun hF => ?_)
            refine b_wl_g (fun hg => ?_)
            refine b_wl_b (w_X12_scan b_fr_refl) (fun o ho => ?_)
            replace hF := b_fr_tr hF (b_fr_mo (by decide +kernel) ho)
            refine b_wl_i (fun c20 => ?_) (fun c20 => ?_)
            · refine b_wl_b (w_X12_scan b_fr_refl) (fun o ho => ?_)
              replace hF := b_fr_tr hF (b_fr_mo (by decide +kernel) ho)
              refine b_wl_i (fun c22 => ?_) (fun c22 => ?_)
              · exact b_wl_s hF
              · exact b_wl_s hF
            · refine b_wl_b (w_X12_wrong b_fr_refl) (fun o ho => ?_)
              refine b_wl_two ?_
              replace hF := b_fr_tr hF (b_fr_mo (by decide +kernel) ho)
              refine b_wl_g (fun hg => ?_)
              exact b_wl_s hF
        · refine b_wl_b (w_X12_wrong b_fr_refl) (fun o ho => ?_)
          refine b_wl_two ?_
          replace hF := b_fr_tr hF (b_fr_mo (by decide +kernel) ho)
          refine b_wl_g (fun hg => ?_)
          exact b_wl_s hF
    · exact w_X12_readBounds_b19 hF
  · exact w_X12_readBounds_b19 hF
theorem w_X12_readBounds_b139 {v1 : Int} {M0 M : bM} (hF : b_fr W_X12_readBounds M0 M) : b_wl (F_X12_readBounds_b139 v1 M) (fun o : Int × bM => b_fr W_X12_readBounds M0 o.2) := by
  unfold F_X12_readBounds_b139
  refine b_wl_lF (c := 11) (i := 32) hF (by decide +kernel) (fun hF => ?_)
  exact b_wl_s hF
theorem w_X12_readBounds {M0 M : bM} (hF : b_fr W_X12_readBounds M0 M) : b_wl (F_X12_readBounds M) (fun o : Int × bM => b_fr W_X12_readBounds M0 o.2) := by
  unfold F_X12_readBounds
  refine b_wl_b (b_wl_loop (A := (fun t : Int × bM => b_fr W_X12_readBounds M0 t.2)) (fun t ht => w_X12_readBounds_s2 ht) hF) (fun t ht => ?_)
  cases t with
  | inr o => exact b_wl_s ht
  | inl t =>
    replace hF : b_fr W_X12_readBounds M0 t.2 := ht
    refine b_wl_inl ?_
    exact w_X12_readBounds_b139 hF
def W_X12_bounds : List (Nat × Option Int) := [(11, some 1), (11, some 2), (11, some 3), (11, some 4), (11, some 5), (11, some 6), (11, some 7), (11, some 8), (11, some 9), (11, some 10), (11, some 32), (175, none), (176, none), (177, none), (178, none), (179, none)]
theorem w_X12_bounds_s81 {v1 : Int} {v4 : Int} {M0 M : bM} (hF : b_fr W_X12_bounds M0 M) : b_wl (F_X12_bounds_s81 v1 v4 M) (Sum.elim (fun t : Int × bM => b_fr W_X12_bounds M0 t.2) (fun t : bM => b_fr W_X12_bounds M0 t)) := by
  unfold F_X12_bounds_s81
  refine b_wl_i (fun c19 => ?_) (fun c19 => ?_)
  · exact b_wl_s hF
  · refine b_wl_g (fun hg => ?_)
    refine b_wl_lA (c := 178) hF (by decide +kernel) (fun hF => ?_)
    refine b_wl_g (fun hg => ?_)
    refine b_wl_lA (c := 179) hF (by decide +kernel) (fun hF => ?_)
    refine b_wl_g (fun hg => ?_)
    exact b_wl_s hF
theorem w_X12_bounds_b140 {M0 M : bM} (hF : b_fr W_X12_bounds M0 M) : b_wl (F_X12_bounds_b140 M) (fun o : Int × bM => b_fr W_X12_bounds M0 o.2) := by
  unfold F_X12_bounds_b140
  exact b_wl_s hF
theorem w_X12_bounds {v1 : Int} {v2 : Int} {v3 : Int} {M0 M : bM} (hF : b_fr W_X12_bounds M0 M) : b_wl (F_X12_bounds v1 v2 v3 M) (fun o : Int × bM => b_fr W_X12_bounds M0 o.2) := by
  unfold F_X12_bounds
  refine b_wl_b (w_X12_take b_fr_refl) (fun o ho => ?_)
  replace hF := b_fr_tr hF (b_fr_mo (by decide +kernel) ho)
  refine b_wl_b b_wl_any (fun o _ => ?_)
  refine b_wl_i (fun c3 => ?_) (fun c3 => ?_)
  · exact b_wl_s hF
  · refine b_wl_b b_wl_any (fun o _ => ?_)
    refine b_wl_i (fun c5 => ?_) (fun c5 => ?_)
    · exact b_wl_s hF
    · refine b_wl_b b_wl_any (fun o _ => ?_)
      refine b_wl_i (fun c7 => ?_) (fun c7 => ?_)
      · exact b_wl_s hF
      · refine b_wl_lF (c := 11) (i := 8) hF (by decide +kernel) (fun hF => ?_)
        refine b_wl_lF (c := 11) (i := 9) hF (by decide +kernel) (fun hF => ?_)
        refine b_wl_b (w_X12_readBounds b_fr_refl) (fun o ho => ?_)
        refine b_wl_two ?_
        replace hF := b_fr_tr hF (b_fr_mo (by decide +kernel) ho)
        refine b_wl_i (fun c12 => ?_) (fun c12 => ?_)
        · exact b_wl_s hF
        · refine b_wl_g (fun hg => ?_)
          refine b_wl_lA (c := 175) hF (by decide +kernel) (fun hF => ?_)
          refine b_wl_g (fun hg => ?_)
          refine b_wl_lA (c := 176) hF (by decide +kernel) (fun hF => ?_)
          refine b_wl_g (fun hg => ?_)
          refine b_wl_lA (c := 177) hF (by decide +kernel) (fun hF => ?_)
          refine b_wl_b (b_wl_loop (A := (fun t : Int × bM => b_fr W_X12_bounds M0 t.2)) (fun t ht => w_X12_bounds_s81 ht) hF) (fun t ht => ?_)
          replace hF : b_fr W_X12_bounds M0 t := ht
          exact w_X12_bounds_b140 hF
def W_X12_mend : List (Nat × Option Int) := [(179, none)]
theorem w_X12_mend_s22 {v1 : Int} {v2 : Int} {v3 : Int} {M0 M : bM} (hF : b_fr W_X12_mend M0 M) : b_wl (F_X12_mend_s22 v1 v2 v3 M) (Sum.elim (fun _ : Int => True) (Sum.elim (fun _ : Unit => True) (fun o : Int × bM => b_fr W_X12_mend M0 o.2))) := by
  unfold F_X12_mend_s22
  refine b_wl_i (fun c4 => ?_) (fun c4 => ?_)
  · exact b_wl_s trivial
  · refine b_wl_b b_wl_any (fun o _ => ?_)
    refine b_wl_i (fun c6 => ?_) (fun c6 => ?_)
    · refine b_wl_g (fun hg => ?_)
      exact b_wl_s trivial
    · refine b_wl_b b_wl_any (fun o _ => ?_)
      refine b_wl_i (fun c9 => ?_) (fun c9 => ?_)
      · exact b_wl_s hF
      · refine b_wl_g (fun hg => ?_)
        exact b_wl_s trivial
theorem w_X12_mend_b138 {v1 : Int} {v2 : Int} {v3 : Int} {u1 : Int} {u2 : Int} {u3 : Int} {M0 M : bM} (hF : b_fr W_X12_mend M0 M) : b_wl (F_X12_mend_b138 v1 v2 v3 u1 u2 u3 M) (Sum.elim (fun t : Int × bM => b_fr W_X12_mend M0 t.2) (fun t : bM => b_fr W_X12_mend M0 t)) := by
  unfold F_X12_mend_b138
  refine b_wl_g (fun hg => ?_)
  refine b_wl_lA (c := 179) hF (by decide +kernel) (fun hF => ?_)
  refine b_wl_g (fun hg => ?_)
  exact b_wl_s hF
theorem w_X12_mend_b127 {v1 : Int} {v2 : Int} {v3 : Int} {v6 : Int} {u1 : Int} {u2 : Int} {u3 : Int} {u4 : Int} {M0 M : bM} (hF : b_fr W_X12_mend M0 M) : b_wl (F_X12_mend_b127 v1 v2 v3 v6 u1 u2 u3 u4 M) (Sum.elim (fun t : Int × bM => b_fr W_X12_mend M0 t.2) (fun t : bM => b_fr W_X12_mend M0 t)) := by
  unfold F_X12_mend_b127
  refine b_wl_i (fun c19 => ?_) (fun c19 => ?_)
  · refine b_wl_g (fun hg => ?_)
    exact w_X12_mend_b138 hF
  · exact w_X12_mend_b138 hF
theorem w_X12_mend_b98 {v1 : Int} {v2 : Int} {v3 : Int} {v4 : Int} {v5 : Int} {u0 : Int} {M0 M : bM} (hF : b_fr W_X12_mend M0 M) : b_wl (F_X12_mend_b98 v1 v2 v3 v4 v5 u0 M) (Sum.elim (fun t : Int × bM => b_fr W_X12_mend M0 t.2) (fun t : bM => b_fr W_X12_mend M0 t)) := by
  unfold F_X12_mend_b98
  refine b_wl_g (fun hg => ?_)
  refine b_wl_i (fun c17 => ?_) (fun c17 => ?_)
  · refine b_wl_g (fun hg => ?_)
    exact w_X12_mend_b127 hF
  · exact w_X12_mend_b127 hF
theorem w_X12_mend_s56 {v1 : Int} {v2 : Int} {v3 : Int} {M0 M : bM} (hF : b_fr W_X12_mend M0 M) : b_wl (F_X12_mend_s56 v1 v2 v3 M) (Sum.elim (fun t : Int × bM => b_fr W_X12_mend M0 t.2) (fun t : bM => b_fr W_X12_mend M0 t)) := by
  unfold F_X12_mend_s56
  refine b_wl_i (fun c11 => ?_) (fun c11 => ?_)
  · exact b_wl_s hF
  · refine b_wl_b b_wl_any (fun o _ => ?_)
    refine b_wl_i (fun c13 => ?_) (fun c13 => ?_)
    · refine b_wl_g (fun hg => ?_)
      exact b_wl_s hF
    · refine b_wl_b b_wl_any (fun o _ => ?_)
      refine b_wl_i (fun c15 => ?_) (fun c15 => ?_)
      · exact w_X12_mend_b98 hF
      · refine b_wl_g (fun hg => ?_)
        exact w_X12_mend_b98 hF
theorem w_X12_mend_b146 {v2 : Int} {M0 M : bM} (hF : b_fr W_X12_mend M0 M) : b_wl (F_X12_mend_b146 v2 M) (fun o : Int × bM => b_fr W_X12_mend M0 o.2) := by
  unfold F_X12_mend_b146
  exact b_wl_s hF
theorem w_X12_mend_b54 {v1 : Int} {v2 : Int} {M0 M : bM} (hF : b_fr W_X12_mend M0 M) : b_wl (F_X12_mend_b54 v1 v2 M) (fun o : Int × bM => b_fr W_X12_mend M0 o.2) := by
  unfold F_X12_mend_b54
  refine b_wl_b (b_wl_loop (A := (fun t : Int × bM => b_fr W_X12_mend M0 t.2)) (fun t ht => w_X12_mend_s56 ht) hF) (fun t ht => ?_)
  replace hF : b_fr W_X12_mend M0 t := ht
  exact w_X12_mend_b146 hF
theorem w_X12_mend {v1 : Int} {M0 M : bM} (hF : b_fr W_X12_mend M0 M) : b_wl (F_X12_mend v1 M) (fun o : Int × bM => b_fr W_X12_mend M0 o.2) := by
  unfold F_X12_mend
  refine b_wl_b b_wl_any (fun o _ => ?_)
  refine b_wl_i (fun c2 => ?_) (fun c2 => ?_)
  · refine b_wl_b b_wl_any (fun o _ => ?_)
    refine b_wl_b (b_wl_loop (A := (fun _ : Int => True)) (fun t ht => w_X12_mend_s22 hF) trivial) (fun t ht => ?_)
    cases t with
    | inr o => exact b_wl_s ht
    | inl t =>
      refine b_wl_inl ?_
      exact w_X12_mend_b54 hF
  · refine b_wl_b b_wl_any (fun o _ => ?_)
    exact b_wl_s hF
def W_X12_walk : List (Nat × Option Int) := [(180, none), (181, none)]
theorem w_X12_walk_b163 {v1 : Int} {v2 : Int} {v3 : Int} {v5 : Int} {u0 : Int} {u1 : Int} {M0 M : bM} (hF : b_fr W_X12_walk M0 M) : b_wl (F_X12_walk_b163 v1 v2 v3 v5 u0 u1 M) (Sum.elim (fun t : Int × Int × Int × bM => b_fr W_X12_walk M0 t.2.2.2) (Sum.elim (fun t : bM => b_fr W_X12_walk M0 t) (fun o : bM => b_fr W_X12_walk M0 o))) := by
  unfold F_X12_walk_b163
  refine b_wl_g (fun hg => ?_)
  exact b_wl_s hF
theorem w_X12_walk_b116 {v1 : Int} {v2 : Int} {v4 : Int} {v5 : Int} {v6 : Int} {u0 : Int} {u1 : Int} {M0 M : bM} (hF : b_fr W_X12_walk M0 M) : b_wl (F_X12_walk_b116 v1 v2 v4 v5 v6 u0 u1 M) (Sum.elim (fun t : Int × Int × Int × bM => b_fr W_X12_walk M0 t.2.2.2) (Sum.elim (fun t : bM => b_fr W_X12_walk M0 t) (fun o : bM => b_fr W_X12_walk M0 o))) := by
  unfold F_X12_walk_b116
  refine b_wl_g (fun hg => ?_)
  refine b_wl_i (fun c24 => ?_) (fun c24 => ?_)
  · refine b_wl_g (fun hg => ?_)
    exact w_X12_walk_b163 hF
  · refine b_wl_g (fun hg => ?_)
    refine b_wl_i (fun c26 => ?_) (fun c26 => ?_)
    · refine b_wl_g (fun hg => ?_)
      exact w_X12_walk_b163 hF
    · exact w_X12_walk_b163 hF
theorem w_X12_walk_s18 {v1 : Int} {v2 : Int} {v3 : Int} {v4 : Int} {v5 : Int} {M0 M : bM} (hF : b_fr W_X12_walk M0 M) : b_wl (F_X12_walk_s18 v1 v2 v3 v4 v5 M) (Sum.elim (fun t : Int × Int × Int × bM => b_fr W_X12_walk M0 t.2.2.2) (Sum.elim (fun t : bM => b_fr W_X12_walk M0 t) (fun o : bM => b_fr W_X12_walk M0 o))) := by
  unfold F_X12_walk_s18
  refine b_wl_g (fun hg => ?_)
  refine b_wl_i (fun c6 => ?_) (fun c6 => ?_)
  · exact b_wl_s hF
  · refine b_wl_g (fun hg => ?_)
    refine b_wl_lA (c := 180) hF (by decide +kernel) (fun hF => ?_)
    refine b_wl_g (fun hg => ?_)
    refine b_wl_lA (c := 181) hF (by decide +kernel) (fun hF => ?_)
    refine b_wl_g (fun hg => ?_)
    refine b_wl_i (fun c14 => ?_) (fun c14 => ?_)
    · exact b_wl_s hF
    · refine b_wl_g (fun hg => ?_)
      refine b_wl_l ?_
      refine b_wl_g (fun hg => ?_)
      refine b_wl_i (fun c19 => ?_) (fun c19 => ?_)
      · refine b_wl_g (fun hg => ?_)
        exact w_X12_walk_b116 hF
      · refine b_wl_g (fun hg => ?_)
        refine b_wl_i (fun c21 => ?_) (fun c21 => ?_)
        · refine b_wl_g (fun hg => ?_)
          exact w_X12_walk_b116 hF
        · exact w_X12_walk_b116 hF
theorem w_X12_walk_b172 {M0 M : bM} (hF : b_fr W_X12_walk M0 M) : b_wl (F_X12_walk_b172 M) (fun o : bM => b_fr W_X12_walk M0 o) := by
  unfold F_X12_walk_b172
  exact b_wl_s hF
theorem w_X12_walk {v1 : Int} {v2 : Int} {M0 M : bM} (hF : b_fr W_X12_walk M0 M) : b_wl (F_X12_walk v1 v2 M) (fun o : bM => b_fr W_X12_walk M0 o) := by
  unfold F_X12_walk
  refine b_wl_g (fun hg => ?_)
  refine b_wl_l ?_
  refine b_wl_g (fun hg => ?_)
  refine b_wl_l ?_
  refine b_wl_b (b_wl_loop (A := (fun t : Int × Int × Int × bM => b_fr W_X12_walk M0 t.2.2.2)) (fun t ht => w_X12_walk_s18 ht) hF) (fun t ht => ?_)
  cases t with
  | inr o => exact b_wl_s ht
  | inl t =>
    replace hF : b_fr W_X12_walk M0 t := ht
    refine b_wl_inl ?_
    exact w_X12_walk_b172 hF
def W_X12_isArea : List (Nat × Option Int) := [(180, none), (181, none)]
theorem w_X12_isArea_b104 {v1 : Int} {v2 : Int} {v3 : Int} {v4 : Int} {v5 : Int} {M0 M : bM} (hF : b_fr W_X12_isArea M0 M) : b_wl (F_X12_isArea_b104 v1 v2 v3 v4 v5 M) (Sum.elim (fun _ : Int => True) (Sum.elim (fun _ : Unit => True) (Sum.elim (fun _ : Int => True) (Sum.elim (fun _ : Unit => True) (fun o : Int × bM => b_fr W_X12_isArea M0 o.2))))) := by
  unfold F_X12_isArea_b104
  refine b_wl_g (fun hg => ?_)
  refine b_wl_b b_wl_any (fun o _ => ?_)
  refine b_wl_i (fun c23 => ?_) (fun c23 => ?_)
  · refine b_wl_g (fun hg => ?_)
    exact b_wl_s trivial
  · exact b_wl_s hF
theorem w_X12_isArea_s85 {v1 : Int} {v2 : Int} {v3 : Int} {v4 : Int} {v5 : Int} {M0 M : bM} (hF : b_fr W_X12_isArea M0 M) : b_wl (F_X12_isArea_s85 v1 v2 v3 v4 v5 M) (Sum.elim (fun _ : Int => True) (Sum.elim (fun _ : Unit => True) (Sum.elim (fun _ : Int => True) (Sum.elim (fun _ : Unit => True) (fun o : Int × bM => b_fr W_X12_isArea M0 o.2))))) := by
  unfold F_X12_isArea_s85
  refine b_wl_i (fun c18 => ?_) (fun c18 => ?_)
  · exact b_wl_s trivial
  · refine b_wl_i (fun c19 => ?_) (fun c19 => ?_)
    · refine b_wl_g (fun hg => ?_)
      refine b_wl_i (fun c26 => ?_) (fun c26 => ?_)
      · refine b_wl_g (fun hg => ?_)
        exact b_wl_s trivial
      · exact w_X12_isArea_b104 hF
    · exact w_X12_isArea_b104 hF
theorem w_X12_isArea_b127 {v1 : Int} {v2 : Int} {v3 : Int} {v4 : Int} {M0 M : bM} (hF : b_fr W_X12_isArea M0 M) : b_wl (F_X12_isArea_b127 v1 v2 v3 v4 M) (Sum.elim (fun _ : Int => True) (Sum.elim (fun _ : Unit => True) (fun o : Int × bM => b_fr W_X12_isArea M0 o.2))) := by
  unfold F_X12_isArea_b127
  refine b_wl_g (fun hg => ?_)
  exact b_wl_s trivial
theorem w_X12_isArea_s36 {v1 : Int} {v2 : Int} {v3 : Int} {v4 : Int} {M0 M : bM} (hF : b_fr W_X12_isArea M0 M) : b_wl (F_X12_isArea_s36 v1 v2 v3 v4 M) (Sum.elim (fun _ : Int => True) (Sum.elim (fun _ : Unit => True) (fun o : Int × bM => b_fr W_X12_isArea M0 o.2))) := by
  unfold F_X12_isArea_s36
  refine b_wl_i (fun c8 => ?_) (fun c8 => ?_)
  · exact b_wl_s trivial
  · refine b_wl_g (fun hg => ?_)
    refine b_wl_i (fun c16 => ?_) (fun c16 => ?_)
    · exact b_wl_s hF
    · refine b_wl_g (fun hg => ?_)
      refine b_wl_b (b_wl_loop (A := (fun _ : Int => True)) (fun t ht => w_X12_isArea_s85 hF) trivial) (fun t ht => ?_)
      cases t with
      | inr o => exact b_wl_s ht
      | inl t =>
        refine b_wl_inl ?_
        exact w_X12_isArea_b127 hF
theorem w_X12_isArea_b133 {v3 : Int} {M0 M : bM} (hF : b_fr W_X12_isArea M0 M) : b_wl (F_X12_isArea_b133 v3 M) (fun o : Int × bM => b_fr W_X12_isArea M0 o.2) := by
  unfold F_X12_isArea_b133
  refine b_wl_i (fun c29 => ?_) (fun c29 => ?_)
  · exact b_wl_s hF
  · exact b_wl_s hF
theorem w_X12_isArea {v1 : Int} {v2 : Int} {M0 M : bM} (hF : b_fr W_X12_isArea M0 M) : b_wl (F_X12_isArea v1 v2 M) (fun o : Int × bM => b_fr W_X12_isArea M0 o.2) := by
  unfold F_X12_isArea
  refine b_wl_b b_wl_any (fun o _ => ?_)
  refine b_wl_i (fun c2 => ?_) (fun c2 => ?_)
  · refine b_wl_b b_wl_any (fun o _ => ?_)
    refine b_wl_i (fun c4 => ?_) (fun c4 => ?_)
    · refine b_wl_b (w_X12_walk b_fr_refl) (fun o ho => ?_)
      replace hF := b_fr_tr hF (b_fr_mo (by decide +kernel) ho)
      refine b_wl_g (fun hg => ?_)
      refine b_wl_l ?_
      refine b_wl_b (b_wl_loop (A := (fun _ : Int => True)) (fun t ht => w_X12_isArea_s36 hF) trivial) (fun t ht => ?_)
      cases t with
      | inr o => exact b_wl_s ht
      | inl t =>
        refine b_wl_inl ?_
        exact w_X12_isArea_b133 hF
    · exact b_wl_s hF
  · exact b_wl_s hF
def W_X12_area : List (Nat × Option Int) := [(180, none), (181, none)]
theorem w_X12_area {v1 : Int} {M0 M : bM} (hF : b_fr W_X12_area M0 M) : b_wl (F_X12_area v1 M) (fun o : Int × bM => b_fr W_X12_area M0 o.2) := by
  unfold F_X12_area
  refine b_wl_b b_wl_any (fun o _ => ?_)
  refine b_wl_i (fun c2 => ?_) (fun c2 => ?_)
  · refine b_wl_b (w_X12_isArea b_fr_refl) (fun o ho => ?_)
    refine b_wl_two ?_
    replace hF := b_fr_tr hF (b_fr_mo (by decide +kernel) ho)
    refine b_wl_i (fun c5 => ?_) (fun c5 => ?_)
    · exact b_wl_s hF
    · refine b_wl_b b_wl_any (fun o _ => ?_)
      exact b_wl_s hF
  · refine b_wl_b b_wl_any (fun o _ => ?_)
    exact b_wl_s hF
def W_X12_strip : List (Nat × Option Int) := [(180, none), (181, none)]
theorem w_X12_strip_b207 {v1 : Int} {v2 : Int} {v3 : Int} {v4 : Int} {v5 : Int} {v6 : Int} {M0 M : bM} (hF : b_fr W_X12_strip M0 M) : b_wl (F_X12_strip_b207 v1 v2 v3 v4 v5 v6 M) (Sum.elim (fun _ : Int × Int => True) (fun _ : Int => True)) := by
  unfold F_X12_strip_b207
  refine b_wl_b b_wl_any (fun o _ => ?_)
  exact b_wl_s trivial
theorem w_X12_strip_s114 {v1 : Int} {v2 : Int} {v3 : Int} {v4 : Int} {v5 : Int} {v6 : Int} {M0 M : bM} (hF : b_fr W_X12_strip M0 M) : b_wl (F_X12_strip_s114 v1 v2 v3 v4 v5 v6 M) (Sum.elim (fun _ : Int × Int => True) (fun _ : Int => True)) := by
  unfold F_X12_strip_s114
  refine b_wl_i (fun c22 => ?_) (fun c22 => ?_)
  · exact b_wl_s trivial
  · refine b_wl_i (fun c23 => ?_) (fun c23 => ?_)
    · exact b_wl_s trivial
    · refine b_wl_b b_wl_any (fun o _ => ?_)
      refine b_wl_g (fun hg => ?_)
      refine b_wl_l ?_
      refine b_wl_i (fun c27 => ?_) (fun c27 => ?_)
      · exact w_X12_strip_b207 hF
      · refine b_wl_g (fun hg => ?_)
        refine b_wl_b b_wl_any (fun o _ => ?_)
        refine b_wl_i (fun c34 => ?_) (fun c34 => ?_)
        · exact w_X12_strip_b207 hF
        · refine b_wl_g (fun hg => ?_)
          refine b_wl_b b_wl_any (fun o _ => ?_)
          refine b_wl_i (fun c40 => ?_) (fun c40 => ?_)
          · exact w_X12_strip_b207 hF
          · refine b_wl_g (fun hg => ?_)
            refine b_wl_l ?_
            exact w_X12_strip_b207 hF
theorem w_X12_strip_b221 {v1 : Int} {v2 : Int} {v3 : Int} {v4 : Int} {M0 M : bM} (hF : b_fr W_X12_strip M0 M) : b_wl (F_X12_strip_b221 v1 v2 v3 v4 M) (Sum.elim (fun _ : Int × Int => True) (fun _ : Int => True)) := by
  unfold F_X12_strip_b221
  refine b_wl_b b_wl_any (fun o _ => ?_)
  exact b_wl_s trivial
theorem w_X12_strip_s80 {v1 : Int} {v2 : Int} {v3 : Int} {v4 : Int} {M0 M : bM} (hF : b_fr W_X12_strip M0 M) : b_wl (F_X12_strip_s80 v1 v2 v3 v4 M) (Sum.elim (fun _ : Int × Int => True) (fun _ : Int => True)) := by
  unfold F_X12_strip_s80
  refine b_wl_i (fun c17 => ?_) (fun c17 => ?_)
  · exact b_wl_s trivial
  · refine b_wl_b b_wl_any (fun o _ => ?_)
    refine b_wl_g (fun hg => ?_)
    refine b_wl_l ?_
    refine b_wl_b b_wl_any (fun o _ => ?_)
    refine b_wl_b (b_wl_loop (A := (fun _ : Int × Int => True)) (fun t ht => w_X12_strip_s114 hF) trivial) (fun t ht => ?_)
    exact w_X12_strip_b221 hF
theorem w_X12_strip_b235 {v3 : Int} {M0 M : bM} (hF : b_fr W_X12_strip M0 M) : b_wl (F_X12_strip_b235 v3 M) (fun o : Int × bM => b_fr W_X12_strip M0 o.2) := by
  unfold F_X12_strip_b235
  exact b_wl_s hF
theorem w_X12_strip {v1 : Int} {v2 : Int} {M0 M : bM} (hF : b_fr W_X12_strip M0 M) : b_wl (F_X12_strip v1 v2 M) (fun o : Int × bM => b_fr W_X12_strip M0 o.2) := by
  unfold F_X12_strip
  refine b_wl_b b_wl_any (fun o _ => ?_)
  refine b_wl_i (fun c2 => ?_) (fun c2 => ?_)
  · exact b_wl_s hF
  · refine b_wl_b b_wl_any (fun o _ => ?_)
    refine b_wl_i (fun c4 => ?_) (fun c4 => ?_)
    · exact b_wl_s hF
    · refine b_wl_i (fun c5 => ?_) (fun c5 => ?_)
      · exact b_wl_s hF
      · refine b_wl_g (fun hg => ?_)
        refine b_wl_i (fun c7 => ?_) (fun c7 => ?_)
        · exact b_wl_s hF
        · refine b_wl_g (fun hg => ?_)
          refine b_wl_i (fun c9 => ?_) (fun c9 => ?_)
          · exact b_wl_s hF
          · refine b_wl_b (w_X12_isArea b_fr_refl) (fun o ho => ?_)
            refine b_wl_two ?_
            replace hF := b_fr_tr hF (b_fr_mo (by decide +kernel) ho)
            refine b_wl_i (fun c12 => ?_) (fun c12 => ?_)
            · exact b_wl_s hF
            · refine b_wl_b (w_X12_isArea b_fr_refl) (fun o ho => ?_)
              refine b_wl_two ?_
              replace hF := b_fr_tr hF (b_fr_mo (by decide +kernel) ho)
              refine b_wl_i (fun c15 => ?_) (fun c15 => ?_)
              · exact b_wl_s hF
              · refine b_wl_b b_wl_any (fun o _ => ?_)
                refine b_wl_b (b_wl_loop (A := (fun _ : Int × Int => True)) (fun t ht => w_X12_strip_s80 hF) trivial) (fun t ht => ?_)
                exact w_X12_strip_b235 hF
def W_X12_addStep : List (Nat × Option Int) := [(187, none), (188, none)]
theorem w_X12_addStep {v1 : Int} {M0 M : bM} (hF : b_fr W_X12_addStep M0 M) : b_wl (F_X12_addStep v1 M) (fun o : bM => b_fr W_X12_addStep M0 o) := by
  unfold F_X12_addStep
  refine b_wl_g (fun hg => ?_)
  refine b_wl_lA (c := 188) hF (by decide +kernel) (fun hF => ?_)
  refine b_wl_g (fun hg => ?_)
  refine b_wl_lA (c := 187) hF (by decide +kernel) (fun hF => ?_)
  exact b_wl_s hF
def W_X12_readSum : List (Nat × Option Int) := [(11, some 3), (11, some 4), (11, some 5), (11, some 6), (11, some 7), (11, some 8), (11, some 9), (11, some 10), (11, some 32), (192, none), (193, none)]
theorem w_X12_readSum_b85 {v1 : Int} {u1 : Int} {u2 : Int} {M0 M : bM} (hF : b_fr W_X12_readSum M0 M) : b_wl (F_X12_readSum_b85 v1 u1 u2 M) (Sum.elim (fun t : bM => b_fr W_X12_readSum M0 t) (fun o : Int × bM => b_fr W_X12_readSum M0 o.2)) := by
  unfold F_X12_readSum_b85
  refine b_wl_g (fun hg => ?_)
  refine b_wl_lA (c := 193) hF (by decide +kernel) (fun hF => ?_)
  refine b_wl_g (fun hg => ?_)
  refine b_wl_lF (c := 11) (i := 32) hF (by decide +kernel) (fun hF => ?_)
  refine b_wl_b (w_X12_scan b_fr_refl) (fun o ho => ?_)
  replace hF := b_fr_tr hF (b_fr_mo (by decide +kernel) ho)
  refine b_wl_i (fun c16 => ?_) (fun c16 => ?_)
  · refine b_wl_b (w_X12_scan b_fr_refl) (fun o ho => ?_)
    replace hF := b_fr_tr hF (b_fr_mo (by decide +kernel) ho)
    exact b_wl_s hF
  · exact b_wl_s hF
theorem w_X12_readSum_b58 {v1 : Int} {u1 : Int} {u2 : Int} {M0 M : bM} (hF : b_fr W_X12_readSum M0 M) : b_wl (F_X12_readSum_b58 v1 u1 u2 M) (Sum.elim (fun t : bM => b_fr W_X12_readSum M0 t) (fun o : Int × bM => b_fr W_X12_readSum M0 o.2)) := by
  unfold F_X12_readSum_b58
  refine b_wl_g (fun hg => ?_)
  refine b_wl_lA (c := 192) hF (by decide +kernel) (fun hF => ?_)
  refine b_wl_g (fun hg => ?_)
  refine b_wl_i (fun c10 => ?_) (fun c10 => ?_)
  · exact w_X12_readSum_b85 hF
  · exact w_X12_readSum_b85 hF
theorem w_X12_readSum_s5 {v1 : Int} {M0 M : bM} (hF : b_fr W_X12_readSum M0 M) : b_wl (F_X12_readSum_s5 v1 M) (Sum.elim (fun t : bM => b_fr W_X12_readSum M0 t) (fun o : Int × bM => b_fr W_X12_readSum M0 o.2)) := by
  unfold F_X12_readSum_s5
  refine b_wl_b b_wl_any (fun o _ => ?_)
  refine b_wl_i (fun c3 => ?_) (fun c3 => ?_)
  · refine b_wl_b (w_X12_wrong b_fr_refl) (fun o ho => ?_)
    refine b_wl_two ?_
    replace hF := b_fr_tr hF (b_fr_mo (by decide +kernel) ho)
    refine b_wl_g (fun hg => ?_)
    exact b_wl_s hF
  · refine b_wl_i (fun c4 => ?_) (fun c4 => ?_)
    · refine b_wl_b (w_X12_wrong b_fr_refl) (fun o ho => ?_)
      refine b_wl_two ?_
      replace hF := b_fr_tr hF (b_fr_mo (by decide +kernel) ho)
      refine b_wl_g (fun hg => ?_)
      exact b_wl_s hF
    · refine b_wl_g (fun hg => ?_)
      refine b_wl_i (fun c6 => ?_) (fun c6 => ?_)
      · exact w_X12_readSum_b58 hF
      · exact w_X12_readSum_b58 hF
theorem w_X12_readSum {v1 : Int} {M0 M : bM} (hF : b_fr W_X12_readSum M0 M) : b_wl (F_X12_readSum v1 M) (fun o : Int × bM => b_fr W_X12_readSum M0 o.2) := by
  unfold F_X12_readSum
  refine b_wl_lF (c := 11) (i := 32) hF (by decide +kernel) (fun hF => ?_)
  exact b_wl_loop (A := (fun t : bM => b_fr W_X12_readSum M0 t)) (fun t ht => w_X12_readSum_s5 ht) hF
def W_X12_readTest : List (Nat × Option Int) := [(11, some 3), (11, some 4), (11, some 5), (11, some 6), (11, some 7), (11, some 8), (11, some 9), (11, some 10), (11, some 32), (186, none), (187, none), (188, none), (189, none), (190, none), (191, none), (192, none), (193, none)]
theorem w_X12_readTest {M0 M : bM} (hF : b_fr W_X12_readTest M0 M) : b_wl (F_X12_readTest M) (fun o : Int × bM => b_fr W_X12_readTest M0 o.2) := by
  unfold F_X12_readTest
  refine b_wl_b b_wl_any (fun o _ => ?_)
  refine b_wl_i (fun c2 => ?_) (fun c2 => ?_)
  · refine b_wl_b (w_X12_wrong b_fr_refl) (fun o ho => ?_)
    refine b_wl_two ?_
    replace hF := b_fr_tr hF (b_fr_mo (by decide +kernel) ho)
    refine b_wl_g (fun hg => ?_)
    exact b_wl_s hF
  · refine b_wl_g (fun hg => ?_)
    refine b_wl_i (fun c4 => ?_) (fun c4 => ?_)
    · refine b_wl_b (w_X12_wrong b_fr_refl) (fun o ho => ?_)
      refine b_wl_two ?_
      replace hF := b_fr_tr hF (b_fr_mo (by decide +kernel) ho)
      refine b_wl_g (fun hg => ?_)
      exact b_wl_s hF
    · refine b_wl_g (fun hg => ?_)
      refine b_wl_l ?_
      refine b_wl_g (fun hg => ?_)
      refine b_wl_b (w_X12_addStep b_fr_refl) (fun o ho => ?_)
      replace hF := b_fr_tr hF (b_fr_mo (by decide +kernel) ho)
      refine b_wl_g (fun hg => ?_)
      refine b_wl_lA (c := 186) hF (by decide +kernel) (fun hF => ?_)
      refine b_wl_g (fun hg => ?_)
      refine b_wl_b (w_X12_readSum b_fr_refl) (fun o ho => ?_)
      refine b_wl_two ?_
      replace hF := b_fr_tr hF (b_fr_mo (by decide +kernel) ho)
      refine b_wl_i (fun c17 => ?_) (fun c17 => ?_)
      · exact b_wl_s hF
      · refine b_wl_g (fun hg => ?_)
        refine b_wl_lA (c := 190) hF (by decide +kernel) (fun hF => ?_)
        refine b_wl_g (fun hg => ?_)
        refine b_wl_lA (c := 191) hF (by decide +kernel) (fun hF => ?_)
        refine b_wl_g (fun hg => ?_)
        refine b_wl_lA (c := 189) hF (by decide +kernel) (fun hF => ?_)
        refine b_wl_i (fun c24 => ?_) (fun c24 => ?_)
        · refine b_wl_b b_wl_any (fun o _ => ?_)
          refine b_wl_i (fun c26 => ?_) (fun c26 => ?_)
          · exact b_wl_s hF
          · refine b_wl_g (fun hg => ?_)
            refine b_wl_lA (c := 189) hF (by decide +kernel) (fun hF => ?_)
            refine b_wl_b (w_X12_scan b_fr_refl) (fun o ho => ?_)
            replace hF := b_fr_tr hF (b_fr_mo (by decide +kernel) ho)
            refine b_wl_g (fun hg => ?_)
            refine b_wl_b (w_X12_readSum b_fr_refl) (fun o ho => ?_)
            refine b_wl_two ?_
            replace hF := b_fr_tr hF (b_fr_mo (by decide +kernel) ho)
            refine b_wl_i (fun c36 => ?_) (fun c36 => ?_)
            · exact b_wl_s hF
            · refine b_wl_g (fun hg => ?_)
              refine b_wl_lA (c := 191) hF (by decide +kernel) (fun hF => ?_)
              exact b_wl_s hF
        · exact b_wl_s hF
def W_X12_readNumber : List (Nat × Option Int) := [(11, some 3), (11, some 4), (11, some 5), (11, some 6), (11, some 7), (11, some 8), (11, some 9), (11, some 10), (11, some 32)]
theorem w_X12_readNumber {v1 : Int} {v2 : Int} {M0 M : bM} (hF : b_fr W_X12_readNumber M0 M) : b_wl (F_X12_readNumber v1 v2 M) (fun o : Int × bM => b_fr W_X12_readNumber M0 o.2) := by
  unfold F_X12_readNumber
  refine b_wl_i (fun c1 => ?_) (fun c1 => ?_)
  · refine b_wl_b b_wl_any (fun o _ => ?_)
    refine b_wl_i (fun c3 => ?_) (fun c3 => ?_)
    · refine b_wl_b (w_X12_wrong b_fr_refl) (fun o ho => ?_)
      refine b_wl_two ?_
      replace hF := b_fr_tr hF (b_fr_mo (by decide +kernel) ho)
      refine b_wl_g (fun hg => ?_)
      exact b_wl_s hF
    · refine b_wl_lF (c := 11) (i := 32) hF (by decide +kernel) (fun hF => ?_)
      refine b_wl_b (w_X12_scan b_fr_refl) (fun o ho => ?_)
      replace hF := b_fr_tr hF (b_fr_mo (by decide +kernel) ho)
      exact b_wl_s hF
  · refine b_wl_b (w_X12_wrong b_fr_refl) (fun o ho => ?_)
    refine b_wl_two ?_
    replace hF := b_fr_tr hF (b_fr_mo (by decide +kernel) ho)
    refine b_wl_g (fun hg => ?_)
    exact b_wl_s hF
def W_X12_readOne_L5 : List (Nat × Option Int) := [(11, some 3), (11, some 4), (11, some 5), (11, some 6), (11, some 7), (11, some 8), (11, some 9), (11, some 10), (11, some 32), (11, some 49), (186, none), (187, none), (188, none), (189, none), (190, none), (191, none), (192, none), (193, none)]
theorem w_X12_readOne_L5_b28 {u0 : Int} {M0 M : bM} (hF : b_fr W_X12_readOne_L5 M0 M) : b_wl (F_X12_readOne_L5_b28 u0 M) (Sum.elim (fun t : Int × bM => b_fr W_X12_readOne_L5 M0 t.2) (fun t : Int × bM => b_fr W_X12_readOne_L5 M0 t.2)) := by
  unfold F_X12_readOne_L5_b28
  refine b_wl_b (w_X12_scan b_fr_refl) (fun o ho => ?_)
  replace hF := b_fr_tr hF (b_fr_mo (by decide +kernel) ho)
  exact b_wl_s hF
theorem w_X12_readOne_L5_s2 {v1 : Int} {M0 M : bM} (hF : b_fr W_X12_readOne_L5 M0 M) : b_wl (F_X12_readOne_L5_s2 v1 M) (Sum.elim (fun t : Int × bM => b_fr W_X12_readOne_L5 M0 t.2) (fun t : Int × bM => b_fr W_X12_readOne_L5 M0 t.2)) := by
  unfold F_X12_readOne_L5_s2
  refine b_wl_i (fun c1 => ?_) (fun c1 => ?_)
  · refine b_wl_i (fun c2 => ?_) (fun c2 => ?_)
    · refine b_wl_i (fun c3 => ?_) (fun c3 => ?_)
      · exact w_X12_readOne_L5_b28 hF
      · exact w_X12_readOne_L5_b28 hF
    · exact b_wl_s hF
  · exact b_wl_s hF
theorem w_X12_readOne_L5_b122 {v1 : Int} {M0 M : bM} (hF : b_fr W_X12_readOne_L5 M0 M) : b_wl (F_X12_readOne_L5_b122 v1 M) (fun o : Int × bM => b_fr W_X12_readOne_L5 M0 o.2) := by
  unfold F_X12_readOne_L5_b122
  refine b_wl_i (fun c9 => ?_) (fun c9 => ?_)
  · exact b_wl_s hF
  · refine b_wl_b (w_X12_addStep b_fr_refl) (fun o ho => ?_)
    replace hF := b_fr_tr hF (b_fr_mo (by decide +kernel) ho)
    exact b_wl_s hF
theorem w_X12_readOne_L5_b36 {v1 : Int} {M0 M : bM} (hF : b_fr W_X12_readOne_L5 M0 M) : b_wl (F_X12_readOne_L5_b36 v1 M) (fun o : Int × bM => b_fr W_X12_readOne_L5 M0 o.2) := by
  unfold F_X12_readOne_L5_b36
  refine b_wl_i (fun c5 => ?_) (fun c5 => ?_)
  · refine b_wl_i (fun c11 => ?_) (fun c11 => ?_)
    · refine b_wl_b (w_X12_wrong b_fr_refl) (fun o ho => ?_)
      refine b_wl_two ?_
      replace hF := b_fr_tr hF (b_fr_mo (by decide +kernel) ho)
      refine b_wl_g (fun hg => ?_)
      exact b_wl_s hF
    · refine b_wl_g (fun hg => ?_)
      refine b_wl_lF (c := 11) (i := 49) hF (by decide +kernel) (fun hF => ?_)
      refine b_wl_b (w_X12_scan b_fr_refl) (fun o ho => ?_)
      replace hF := b_fr_tr hF (b_fr_mo (by decide +kernel) ho)
      exact fun a ha => absurd ha (by simp)
  · refine b_wl_b (w_X12_readTest b_fr_refl) (fun o ho => ?_)
    refine b_wl_two ?_
    replace hF := b_fr_tr hF (b_fr_mo (by decide +kernel) ho)
    refine b_wl_i (fun c8 => ?_) (fun c8 => ?_)
    · exact b_wl_s hF
    · exact w_X12_readOne_L5_b122 hF
theorem w_X12_readOne_L5 {M0 M : bM} (hF : b_fr W_X12_readOne_L5 M0 M) : b_wl (F_X12_readOne_L5 M) (fun o : Int × bM => b_fr W_X12_readOne_L5 M0 o.2) := by
  unfold F_X12_readOne_L5
  refine b_wl_b (b_wl_loop (A := (fun t : Int × bM => b_fr W_X12_readOne_L5 M0 t.2)) (fun t ht => w_X12_readOne_L5_s2 ht) hF) (fun t ht => ?_)
  replace hF : b_fr W_X12_readOne_L5 M0 t.2 := ht
  exact w_X12_readOne_L5_b36 hF
def W_X12_readAll_L5 : List (Nat × Option Int) := [(11, some 3), (11, some 4), (11, some 5), (11, some 6), (11, some 7), (11, some 8), (11, some 9), (11, some 10), (11, some 32), (11, some 49), (186, none), (187, none), (188, none), (189, none), (190, none), (191, none), (192, none), (193, none)]
theorem w_X12_readAll_L5_s9 {M0 M : bM} (hF : b_fr W_X12_readAll_L5 M0 M) : b_wl (F_X12_readAll_L5_s9 M) (Sum.elim (fun t : bM => b_fr W_X12_readAll_L5 M0 t) (Sum.elim (fun t : bM => b_fr W_X12_readAll_L5 M0 t) (fun o : Int × bM => b_fr W_X12_readAll_L5 M0 o.2))) := by
  unfold F_X12_readAll_L5_s9
  refine b_wl_i (fun c4 => ?_) (fun c4 => ?_)
  · refine b_wl_i (fun c5 => ?_) (fun c5 => ?_)
    · refine b_wl_b (w_X12_scan b_fr_refl) (fun o ho => ?_)
      replace hF := b_fr_tr hF (b_fr_mo (by decide +kernel) ho)
      refine b_wl_b (w_X12_readOne_L5 b_fr_refl) (fun o ho => ?_)
      refine b_wl_two ?_
      replace hF := b_fr_tr hF (b_fr_mo (by decide +kernel) ho)
      refine b_wl_i (fun c9 => ?_) (fun c9 => ?_)
      · exact b_wl_s hF
      · refine b_wl_b (w_X12_addStep b_fr_refl) (fun o ho => ?_)
        replace hF := b_fr_tr hF (b_fr_mo (by decide +kernel) ho)
        exact b_wl_s hF
    · exact b_wl_s hF
  · exact b_wl_s hF
theorem w_X12_readAll_L5_b47 {M0 M : bM} (hF : b_fr W_X12_readAll_L5 M0 M) : b_wl (F_X12_readAll_L5_b47 M) (fun o : Int × bM => b_fr W_X12_readAll_L5 M0 o.2) := by
  unfold F_X12_readAll_L5_b47
  exact b_wl_s hF
theorem w_X12_readAll_L5 {M0 M : bM} (hF : b_fr W_X12_readAll_L5 M0 M) : b_wl (F_X12_readAll_L5 M) (fun o : Int × bM => b_fr W_X12_readAll_L5 M0 o.2) := by
  unfold F_X12_readAll_L5
  refine b_wl_b (w_X12_readOne_L5 b_fr_refl) (fun o ho => ?_)
  refine b_wl_two ?_
  replace hF := b_fr_tr hF (b_fr_mo (by decide +kernel) ho)
  refine b_wl_i (fun c3 => ?_) (fun c3 => ?_)
  · exact b_wl_s hF
  · refine b_wl_b (b_wl_loop (A := (fun t : bM => b_fr W_X12_readAll_L5 M0 t)) (fun t ht => w_X12_readAll_L5_s9 ht) hF) (fun t ht => ?_)
    cases t with
    | inr o => exact b_wl_s ht
    | inl t =>
      replace hF : b_fr W_X12_readAll_L5 M0 t := ht
      refine b_wl_inl ?_
      exact w_X12_readAll_L5_b47 hF
def W_X12_readCond_L5 : List (Nat × Option Int) := [(11, some 3), (11, some 4), (11, some 5), (11, some 6), (11, some 7), (11, some 8), (11, some 9), (11, some 10), (11, some 32), (11, some 49), (186, none), (187, none), (188, none), (189, none), (190, none), (191, none), (192, none), (193, none)]
theorem w_X12_readCond_L5_s9 {M0 M : bM} (hF : b_fr W_X12_readCond_L5 M0 M) : b_wl (F_X12_readCond_L5_s9 M) (Sum.elim (fun t : bM => b_fr W_X12_readCond_L5 M0 t) (Sum.elim (fun t : bM => b_fr W_X12_readCond_L5 M0 t) (fun o : Int × bM => b_fr W_X12_readCond_L5 M0 o.2))) := by
  unfold F_X12_readCond_L5_s9
  refine b_wl_i (fun c4 => ?_) (fun c4 => ?_)
  · refine b_wl_i (fun c5 => ?_) (fun c5 => ?_)
    · refine b_wl_b (w_X12_scan b_fr_refl) (fun o ho => ?_)
      replace hF := b_fr_tr hF (b_fr_mo (by decide +kernel) ho)
      refine b_wl_b (w_X12_readAll_L5 b_fr_refl) (fun o ho => ?_)
      refine b_wl_two ?_
      replace hF := b_fr_tr hF (b_fr_mo (by decide +kernel) ho)
      refine b_wl_i (fun c9 => ?_) (fun c9 => ?_)
      · exact b_wl_s hF
      · refine b_wl_b (w_X12_addStep b_fr_refl) (fun o ho => ?_)
        replace hF := b_fr_tr hF (b_fr_mo (by decide +kernel) ho)
        exact b_wl_s hF
    · exact b_wl_s hF
  · exact b_wl_s hF
theorem w_X12_readCond_L5_b48 {M0 M : bM} (hF : b_fr W_X12_readCond_L5 M0 M) : b_wl (F_X12_readCond_L5_b48 M) (fun o : Int × bM => b_fr W_X12_readCond_L5 M0 o.2) := by
  unfold F_X12_readCond_L5_b48
  exact b_wl_s hF
theorem w_X12_readCond_L5 {M0 M : bM} (hF : b_fr W_X12_readCond_L5 M0 M) : b_wl (F_X12_readCond_L5 M) (fun o : Int × bM => b_fr W_X12_readCond_L5 M0 o.2) := by
  unfold F_X12_readCond_L5
  refine b_wl_b (w_X12_readAll_L5 b_fr_refl) (fun o ho => ?_)
  refine b_wl_two ?_
  replace hF := b_fr_tr hF (b_fr_mo (by decide +kernel) ho)
  refine b_wl_i (fun c3 => ?_) (fun c3 => ?_)
  · exact b_wl_s hF
  · refine b_wl_b (b_wl_loop (A := (fun t : bM => b_fr W_X12_readCond_L5 M0 t)) (fun t ht => w_X12_readCond_L5_s9 ht) hF) (fun t ht => ?_)
    cases t with
    | inr o => exact b_wl_s ht
    | inl t =>
      replace hF : b_fr W_X12_readCond_L5 M0 t := ht
      refine b_wl_inl ?_
      exact w_X12_readCond_L5_b48 hF
def W_X12_readOne_L4 : List (Nat × Option Int) := [(11, some 3), (11, some 4), (11, some 5), (11, some 6), (11, some 7), (11, some 8), (11, some 9), (11, some 10), (11, some 32), (11, some 49), (186, none), (187, none), (188, none), (189, none), (190, none), (191, none), (192, none), (193, none)]
theorem w_X12_readOne_L4_b28 {u0 : Int} {M0 M : bM} (hF : b_fr W_X12_readOne_L4 M0 M) : b_wl (F_X12_readOne_L4_b28 u0 M) (Sum.elim (fun t : Int × bM => b_fr W_X12_readOne_L4 M0 t.2) (fun t : Int × bM => b_fr W_X12_readOne_L4 M0 t.2)) := by
  unfold F_X12_readOne_L4_b28
  refine b_wl_b (w_X12_scan b_fr_refl) (fun o ho => ?_)
  replace hF := b_fr_tr hF (b_fr_mo (by decide +kernel) ho)
  exact b_wl_s hF
theorem w_X12_readOne_L4_s2 {v1 : Int} {M0 M : bM} (hF : b_fr W_X12_readOne_L4 M0 M) : b_wl (F_X12_readOne_L4_s2 v1 M) (Sum.elim (fun t : Int × bM => b_fr W_X12_readOne_L4 M0 t.2) (fun t : Int × bM => b_fr W_X12_readOne_L4 M0 t.2)) := by
  unfold F_X12_readOne_L4_s2
  refine b_wl_i (fun c1 => ?_) (fun c1 => ?_)
  · refine b_wl_i (fun c2 => ?_) (fun c2 => ?_)
    · refine b_wl_i (fun c3 => ?_) (fun c3 => ?_)
      · exact w_X12_readOne_L4_b28 hF
      · exact w_X12_readOne_L4_b28 hF
    · exact b_wl_s hF
  · exact b_wl_s hF
theorem w_X12_readOne_L4_b122 {v1 : Int} {M0 M : bM} (hF : b_fr W_X12_readOne_L4 M0 M) : b_wl (F_X12_readOne_L4_b122 v1 M) (fun o : Int × bM => b_fr W_X12_readOne_L4 M0 o.2) := by
  unfold F_X12_readOne_L4_b122
  refine b_wl_i (fun c9 => ?_) (fun c9 => ?_)
  · exact b_wl_s hF
  · refine b_wl_b (w_X12_addStep b_fr_refl) (fun o ho => ?_)
    replace hF := b_fr_tr hF (b_fr_mo (by decide +kernel) ho)
    exact b_wl_s hF
theorem w_X12_readOne_L4_b36 {v1 : Int} {M0 M : bM} (hF : b_fr W_X12_readOne_L4 M0 M) : b_wl (F_X12_readOne_L4_b36 v1 M) (fun o : Int × bM => b_fr W_X12_readOne_L4 M0 o.2) := by
  unfold F_X12_readOne_L4_b36
  refine b_wl_i (fun c5 => ?_) (fun c5 => ?_)
  · refine b_wl_i (fun c11 => ?_) (fun c11 => ?_)
    · refine b_wl_b (w_X12_wrong b_fr_refl) (fun o ho => ?_)
      refine b_wl_two ?_
      replace hF := b_fr_tr hF (b_fr_mo (by decide +kernel) ho)
      refine b_wl_g (fun hg => ?_)
      exact b_wl_s hF
    · refine b_wl_g (fun hg => ?_)
      refine b_wl_lF (c := 11) (i := 49) hF (by decide +kernel) (fun hF => ?_)
      refine b_wl_b (w_X12_scan b_fr_refl) (fun o ho => ?_)
      replace hF := b_fr_tr hF (b_fr_mo (by decide +kernel) ho)
      refine b_wl_b (w_X12_readCond_L5 b_fr_refl) (fun o ho => ?_)
      refine b_wl_two ?_
      replace hF := b_fr_tr hF (b_fr_mo (by decide +kernel) ho)
      refine b_wl_i (fun c17 => ?_) (fun c17 => ?_)
      · exact b_wl_s hF
      · refine b_wl_i (fun c18 => ?_) (fun c18 => ?_)
        · refine b_wl_g (fun hg => ?_)
          refine b_wl_lF (c := 11) (i := 49) hF (by decide +kernel) (fun hF => ?_)
          refine b_wl_b (w_X12_scan b_fr_refl) (fun o ho => ?_)
          replace hF := b_fr_tr hF (b_fr_mo (by decide +kernel) ho)
          exact w_X12_readOne_L4_b122 hF
        · refine b_wl_b (w_X12_wrong b_fr_refl) (fun o ho => ?_)
          refine b_wl_two ?_
          replace hF := b_fr_tr hF (b_fr_mo (by decide +kernel) ho)
          refine b_wl_g (fun hg => ?_)
          exact b_wl_s hF
  · refine b_wl_b (w_X12_readTest b_fr_refl) (fun o ho => ?_)
    refine b_wl_two ?_
    replace hF := b_fr_tr hF (b_fr_mo (by decide +kernel) ho)
    refine b_wl_i (fun c8 => ?_) (fun c8 => ?_)
    · exact b_wl_s hF
    · exact w_X12_readOne_L4_b122 hF
theorem w_X12_readOne_L4 {M0 M : bM} (hF : b_fr W_X12_readOne_L4 M0 M) : b_wl (F_X12_readOne_L4 M) (fun o : Int × bM => b_fr W_X12_readOne_L4 M0 o.2) := by
  unfold F_X12_readOne_L4
  refine b_wl_b (b_wl_loop (A := (fun t : Int × bM => b_fr W_X12_readOne_L4 M0 t.2)) (fun t ht => w_X12_readOne_L4_s2 ht) hF) (fun t ht => ?_)
  replace hF : b_fr W_X12_readOne_L4 M0 t.2 := ht
  exact w_X12_readOne_L4_b36 hF
def W_X12_readAll_L4 : List (Nat × Option Int) := [(11, some 3), (11, some 4), (11, some 5), (11, some 6), (11, some 7), (11, some 8), (11, some 9), (11, some 10), (11, some 32), (11, some 49), (186, none), (187, none), (188, none), (189, none), (190, none), (191, none), (192, none), (193, none)]
theorem w_X12_readAll_L4_s9 {M0 M : bM} (hF : b_fr W_X12_readAll_L4 M0 M) : b_wl (F_X12_readAll_L4_s9 M) (Sum.elim (fun t : bM => b_fr W_X12_readAll_L4 M0 t) (Sum.elim (fun t : bM => b_fr W_X12_readAll_L4 M0 t) (fun o : Int × bM => b_fr W_X12_readAll_L4 M0 o.2))) := by
  unfold F_X12_readAll_L4_s9
  refine b_wl_i (fun c4 => ?_) (fun c4 => ?_)
  · refine b_wl_i (fun c5 => ?_) (fun c5 => ?_)
    · refine b_wl_b (w_X12_scan b_fr_refl) (fun o ho => ?_)
      replace hF := b_fr_tr hF (b_fr_mo (by decide +kernel) ho)
      refine b_wl_b (w_X12_readOne_L4 b_fr_refl) (fun o ho => ?_)
      refine b_wl_two ?_
      replace hF := b_fr_tr hF (b_fr_mo (by decide +kernel) ho)
      refine b_wl_i (fun c9 => ?_) (fun c9 => ?_)
      · exact b_wl_s hF
      · refine b_wl_b (w_X12_addStep b_fr_refl) (fun o ho => ?_)
        replace hF := b_fr_tr hF (b_fr_mo (by decide +kernel) ho)
        exact b_wl_s hF
    · exact b_wl_s hF
  · exact b_wl_s hF
theorem w_X12_readAll_L4_b47 {M0 M : bM} (hF : b_fr W_X12_readAll_L4 M0 M) : b_wl (F_X12_readAll_L4_b47 M) (fun o : Int × bM => b_fr W_X12_readAll_L4 M0 o.2) := by
  unfold F_X12_readAll_L4_b47
  exact b_wl_s hF
theorem w_X12_readAll_L4 {M0 M : bM} (hF : b_fr W_X12_readAll_L4 M0 M) : b_wl (F_X12_readAll_L4 M) (fun o : Int × bM => b_fr W_X12_readAll_L4 M0 o.2) := by
  unfold F_X12_readAll_L4
  refine b_wl_b (w_X12_readOne_L4 b_fr_refl) (fun o ho => ?_)
  refine b_wl_two ?_
  replace hF := b_fr_tr hF (b_fr_mo (by decide +kernel) ho)
  refine b_wl_i (fun c3 => ?_) (fun c3 => ?_)
  · exact b_wl_s hF
  · refine b_wl_b (b_wl_loop (A := (fun t : bM => b_fr W_X12_readAll_L4 M0 t)) (fun t ht => w_X12_readAll_L4_s9 ht) hF) (fun t ht => ?_)
    cases t with
    | inr o => exact b_wl_s ht
    | inl t =>
      replace hF : b_fr W_X12_readAll_L4 M0 t := ht
      refine b_wl_inl ?_
      exact w_X12_readAll_L4_b47 hF
def W_X12_readCond_L4 : List (Nat × Option Int) := [(11, some 3), (11, some 4), (11, some 5), (11, some 6), (11, some 7), (11, some 8), (11, some 9), (11, some 10), (11, some 32), (11, some 49), (186, none), (187, none), (188, none), (189, none), (190, none), (191, none), (192, none), (193, none)]
theorem w_X12_readCond_L4_s9 {M0 M : bM} (hF : b_fr W_X12_readCond_L4 M0 M) : b_wl (F_X12_readCond_L4_s9 M) (Sum.elim (fun t : bM => b_fr W_X12_readCond_L4 M0 t) (Sum.elim (fun t : bM => b_fr W_X12_readCond_L4 M0 t) (fun o : Int × bM => b_fr W_X12_readCond_L4 M0 o.2))) := by
  unfold F_X12_readCond_L4_s9
  refine b_wl_i (fun c4 => ?_) (fun c4 => ?_)
  · refine b_wl_i (fun c5 => ?_) (fun c5 => ?_)
    · refine b_wl_b (w_X12_scan b_fr_refl) (fun o ho => ?_)
      replace hF := b_fr_tr hF (b_fr_mo (by decide +kernel) ho)
      refine b_wl_b (w_X12_readAll_L4 b_fr_refl) (fun o ho => ?_)
      refine b_wl_two ?_
      replace hF := b_fr_tr hF (b_fr_mo (by decide +kernel) ho)
      refine b_wl_i (fun c9 => ?_) (fun c9 => ?_)
      · exact b_wl_s hF
      · refine b_wl_b (w_X12_addStep b_fr_refl) (fun o ho => ?_)
        replace hF := b_fr_tr hF (b_fr_mo (by decide +kernel) ho)
        exact b_wl_s hF
    · exact b_wl_s hF
  · exact b_wl_s hF
theorem w_X12_readCond_L4_b48 {M0 M : bM} (hF : b_fr W_X12_readCond_L4 M0 M) : b_wl (F_X12_readCond_L4_b48 M) (fun o : Int × bM => b_fr W_X12_readCond_L4 M0 o.2) := by
  unfold F_X12_readCond_L4_b48
  exact b_wl_s hF
theorem w_X12_readCond_L4 {M0 M : bM} (hF : b_fr W_X12_readCond_L4 M0 M) : b_wl (F_X12_readCond_L4 M) (fun o : Int × bM => b_fr W_X12_readCond_L4 M0 o.2) := by
  unfold F_X12_readCond_L4
  refine b_wl_b (w_X12_readAll_L4 b_fr_refl) (fun o ho => ?_)
  refine b_wl_two ?_
  replace hF := b_fr_tr hF (b_fr_mo (by decide +kernel) ho)
  refine b_wl_i (fun c3 => ?_) (fun c3 => ?_)
  · exact b_wl_s hF
  · refine b_wl_b (b_wl_loop (A := (fun t : bM => b_fr W_X12_readCond_L4 M0 t)) (fun t ht => w_X12_readCond_L4_s9 ht) hF) (fun t ht => ?_)
    cases t with
    | inr o => exact b_wl_s ht
    | inl t =>
      replace hF : b_fr W_X12_readCond_L4 M0 t := ht
      refine b_wl_inl ?_
      exact w_X12_readCond_L4_b48 hF
def W_X12_readOne_L3 : List (Nat × Option Int) := [(11, some 3), (11, some 4), (11, some 5), (11, some 6), (11, some 7), (11, some 8), (11, some 9), (11, some 10), (11, some 32), (11, some 49), (186, none), (187, none), (188, none), (189, none), (190, none), (191, none), (192, none), (193, none)]
theorem w_X12_readOne_L3_b28 {u0 : Int} {M0 M : bM} (hF : b_fr W_X12_readOne_L3 M0 M) : b_wl (F_X12_readOne_L3_b28 u0 M) (Sum.elim (fun t : Int × bM => b_fr W_X12_readOne_L3 M0 t.2) (fun t : Int × bM => b_fr W_X12_readOne_L3 M0 t.2)) := by
  unfold F_X12_readOne_L3_b28
  refine b_wl_b (w_X12_scan b_fr_refl) (fun o ho => ?_)
  replace hF := b_fr_tr hF (b_fr_mo (by decide +kernel) ho)
  exact b_wl_s hF
theorem w_X12_readOne_L3_s2 {v1 : Int} {M0 M : bM} (hF : b_fr W_X12_readOne_L3 M0 M) : b_wl (F_X12_readOne_L3_s2 v1 M) (Sum.elim (fun t : Int × bM => b_fr W_X12_readOne_L3 M0 t.2) (fun t : Int × bM => b_fr W_X12_readOne_L3 M0 t.2)) := by
  unfold F_X12_readOne_L3_s2
  refine b_wl_i (fun c1 => ?_) (fun c1 => ?_)
  · refine b_wl_i (fun c2 => ?_) (fun c2 => ?_)
    · refine b_wl_i (fun c3 => ?_) (fun c3 => ?_)
      · exact w_X12_readOne_L3_b28 hF
      · exact w_X12_readOne_L3_b28 hF
    · exact b_wl_s hF
  · exact b_wl_s hF
theorem w_X12_readOne_L3_b122 {v1 : Int} {M0 M : bM} (hF : b_fr W_X12_readOne_L3 M0 M) : b_wl (F_X12_readOne_L3_b122 v1 M) (fun o : Int × bM => b_fr W_X12_readOne_L3 M0 o.2) := by
  unfold F_X12_readOne_L3_b122
  refine b_wl_i (fun c9 => ?_) (fun c9 => ?_)
  · exact b_wl_s hF
  · refine b_wl_b (w_X12_addStep b_fr_refl) (fun o ho => ?_)
    replace hF := b_fr_tr hF (b_fr_mo (by decide +kernel) ho)
    exact b_wl_s hF
theorem w_X12_readOne_L3_b36 {v1 : Int} {M0 M : bM} (hF : b_fr W_X12_readOne_L3 M0 M) : b_wl (F_X12_readOne_L3_b36 v1 M) (fun o : Int × bM => b_fr W_X12_readOne_L3 M0 o.2) := by
  unfold F_X12_readOne_L3_b36
  refine b_wl_i (fun c5 => ?_) (fun c5 => ?_)
  · refine b_wl_i (fun c11 => ?_) (fun c11 => ?_)
    · refine b_wl_b (w_X12_wrong b_fr_refl) (fun o ho => ?_)
      refine b_wl_two ?_
      replace hF := b_fr_tr hF (b_fr_mo (by decide +kernel) ho)
      refine b_wl_g (fun hg => ?_)
      exact b_wl_s hF
    · refine b_wl_g (fun hg => ?_)
      refine b_wl_lF (c := 11) (i := 49) hF (by decide +kernel) (fun hF => ?_)
      refine b_wl_b (w_X12_scan b_fr_refl) (fun o ho => ?_)
      replace hF := b_fr_tr hF (b_fr_mo (by decide +kernel) ho)
      refine b_wl_b (w_X12_readCond_L4 b_fr_refl) (fun o ho => ?_)
      refine b_wl_two ?_
      replace hF := b_fr_tr hF (b_fr_mo (by decide +kernel) ho)
      refine b_wl_i (fun c17 => ?_) (fun c17 => ?_)
      · exact b_wl_s hF
      · refine b_wl_i (fun c18 => ?_) (fun c18 => ?_)
        · refine b_wl_g (fun hg => ?_)
          refine b_wl_lF (c := 11) (i := 49) hF (by decide +kernel) (fun hF => ?_)
          refine b_wl_b (w_X12_scan b_fr_refl) (fun o ho => ?_)
          replace hF := b_fr_tr hF (b_fr_mo (by decide +kernel) ho)
          exact w_X12_readOne_L3_b122 hF
        · refine b_wl_b (w_X12_wrong b_fr_refl) (fun o ho => ?_)
          refine b_wl_two ?_
          replace hF := b_fr_tr hF (b_fr_mo (by decide +kernel) ho)
          refine b_wl_g (fun hg => ?_)
          exact b_wl_s hF
  · refine b_wl_b (w_X12_readTest b_fr_refl) (fun o ho => ?_)
    refine b_wl_two ?_
    replace hF := b_fr_tr hF (b_fr_mo (by decide +kernel) ho)
    refine b_wl_i (fun c8 => ?_) (fun c8 => ?_)
    · exact b_wl_s hF
    · exact w_X12_readOne_L3_b122 hF
theorem w_X12_readOne_L3 {M0 M : bM} (hF : b_fr W_X12_readOne_L3 M0 M) : b_wl (F_X12_readOne_L3 M) (fun o : Int × bM => b_fr W_X12_readOne_L3 M0 o.2) := by
  unfold F_X12_readOne_L3
  refine b_wl_b (b_wl_loop (A := (fun t : Int × bM => b_fr W_X12_readOne_L3 M0 t.2)) (fun t ht => w_X12_readOne_L3_s2 ht) hF) (fun t ht => ?_)
  replace hF : b_fr W_X12_readOne_L3 M0 t.2 := ht
  exact w_X12_readOne_L3_b36 hF
def W_X12_readAll_L3 : List (Nat × Option Int) := [(11, some 3), (11, some 4), (11, some 5), (11, some 6), (11, some 7), (11, some 8), (11, some 9), (11, some 10), (11, some 32), (11, some 49), (186, none), (187, none), (188, none), (189, none), (190, none), (191, none), (192, none), (193, none)]
theorem w_X12_readAll_L3_s9 {M0 M : bM} (hF : b_fr W_X12_readAll_L3 M0 M) : b_wl (F_X12_readAll_L3_s9 M) (Sum.elim (fun t : bM => b_fr W_X12_readAll_L3 M0 t) (Sum.elim (fun t : bM => b_fr W_X12_readAll_L3 M0 t) (fun o : Int × bM => b_fr W_X12_readAll_L3 M0 o.2))) := by
  unfold F_X12_readAll_L3_s9
  refine b_wl_i (fun c4 => ?_) (fun c4 => ?_)
  · refine b_wl_i (fun c5 => ?_) (fun c5 => ?_)
    · refine b_wl_b (w_X12_scan b_fr_refl) (fun o ho => ?_)
      replace hF := b_fr_tr hF (b_fr_mo (by decide +kernel) ho)
      refine b_wl_b (w_X12_readOne_L3 b_fr_refl) (fun o ho => ?_)
      refine b_wl_two ?_
      replace hF := b_fr_tr hF (b_fr_mo (by decide +kernel) ho)
      refine b_wl_i (fun c9 => ?_) (fun c9 => ?_)
      · exact b_wl_s hF
      · refine b_wl_b (w_X12_addStep b_fr_refl) (fun o ho => ?_)
        replace hF := b_fr_tr hF (b_fr_mo (by decide +kernel) ho)
        exact b_wl_s hF
    · exact b_wl_s hF
  · exact b_wl_s hF
theorem w_X12_readAll_L3_b47 {M0 M : bM} (hF : b_fr W_X12_readAll_L3 M0 M) : b_wl (F_X12_readAll_L3_b47 M) (fun o : Int × bM => b_fr W_X12_readAll_L3 M0 o.2) := by
  unfold F_X12_readAll_L3_b47
  exact b_wl_s hF
theorem w_X12_readAll_L3 {M0 M : bM} (hF : b_fr W_X12_readAll_L3 M0 M) : b_wl (F_X12_readAll_L3 M) (fun o : Int × bM => b_fr W_X12_readAll_L3 M0 o.2) := by
  unfold F_X12_readAll_L3
  refine b_wl_b (w_X12_readOne_L3 b_fr_refl) (fun o ho => ?_)
  refine b_wl_two ?_
  replace hF := b_fr_tr hF (b_fr_mo (by decide +kernel) ho)
  refine b_wl_i (fun c3 => ?_) (fun c3 => ?_)
  · exact b_wl_s hF
  · refine b_wl_b (b_wl_loop (A := (fun t : bM => b_fr W_X12_readAll_L3 M0 t)) (fun t ht => w_X12_readAll_L3_s9 ht) hF) (fun t ht => ?_)
    cases t with
    | inr o => exact b_wl_s ht
    | inl t =>
      replace hF : b_fr W_X12_readAll_L3 M0 t := ht
      refine b_wl_inl ?_
      exact w_X12_readAll_L3_b47 hF
def W_X12_readCond_L3 : List (Nat × Option Int) := [(11, some 3), (11, some 4), (11, some 5), (11, some 6), (11, some 7), (11, some 8), (11, some 9), (11, some 10), (11, some 32), (11, some 49), (186, none), (187, none), (188, none), (189, none), (190, none), (191, none), (192, none), (193, none)]
theorem w_X12_readCond_L3_s9 {M0 M : bM} (hF : b_fr W_X12_readCond_L3 M0 M) : b_wl (F_X12_readCond_L3_s9 M) (Sum.elim (fun t : bM => b_fr W_X12_readCond_L3 M0 t) (Sum.elim (fun t : bM => b_fr W_X12_readCond_L3 M0 t) (fun o : Int × bM => b_fr W_X12_readCond_L3 M0 o.2))) := by
  unfold F_X12_readCond_L3_s9
  refine b_wl_i (fun c4 => ?_) (fun c4 => ?_)
  · refine b_wl_i (fun c5 => ?_) (fun c5 => ?_)
    · refine b_wl_b (w_X12_scan b_fr_refl) (fun o ho => ?_)
      replace hF := b_fr_tr hF (b_fr_mo (by decide +kernel) ho)
      refine b_wl_b (w_X12_readAll_L3 b_fr_refl) (fun o ho => ?_)
      refine b_wl_two ?_
      replace hF := b_fr_tr hF (b_fr_mo (by decide +kernel) ho)
      refine b_wl_i (fun c9 => ?_) (fun c9 => ?_)
      · exact b_wl_s hF
      · refine b_wl_b (w_X12_addStep b_fr_refl) (fun o ho => ?_)
        replace hF := b_fr_tr hF (b_fr_mo (by decide +kernel) ho)
        exact b_wl_s hF
    · exact b_wl_s hF
  · exact b_wl_s hF
theorem w_X12_readCond_L3_b48 {M0 M : bM} (hF : b_fr W_X12_readCond_L3 M0 M) : b_wl (F_X12_readCond_L3_b48 M) (fun o : Int × bM => b_fr W_X12_readCond_L3 M0 o.2) := by
  unfold F_X12_readCond_L3_b48
  exact b_wl_s hF
theorem w_X12_readCond_L3 {M0 M : bM} (hF : b_fr W_X12_readCond_L3 M0 M) : b_wl (F_X12_readCond_L3 M) (fun o : Int × bM => b_fr W_X12_readCond_L3 M0 o.2) := by
  unfold F_X12_readCond_L3
  refine b_wl_b (w_X12_readAll_L3 b_fr_refl) (fun o ho => ?_)
  refine b_wl_two ?_
  replace hF := b_fr_tr hF (b_fr_mo (by decide +kernel) ho)
  refine b_wl_i (fun c3 => ?_) (fun c3 => ?_)
  · exact b_wl_s hF
  · refine b_wl_b (b_wl_loop (A := (fun t : bM => b_fr W_X12_readCond_L3 M0 t)) (fun t ht => w_X12_readCond_L3_s9 ht) hF) (fun t ht => ?_)
    cases t with
    | inr o => exact b_wl_s ht
    | inl t =>
      replace hF : b_fr W_X12_readCond_L3 M0 t := ht
      refine b_wl_inl ?_
      exact w_X12_readCond_L3_b48 hF
def W_X12_readOne_L2 : List (Nat × Option Int) := [(11, some 3), (11, some 4), (11, some 5), (11, some 6), (11, some 7), (11, some 8), (11, some 9), (11, some 10), (11, some 32), (11, some 49), (186, none), (187, none), (188, none), (189, none), (190, none), (191, none), (192, none), (193, none)]
theorem w_X12_readOne_L2_b28 {u0 : Int} {M0 M : bM} (hF : b_fr W_X12_readOne_L2 M0 M) : b_wl (F_X12_readOne_L2_b28 u0 M) (Sum.elim (fun t : Int × bM => b_fr W_X12_readOne_L2 M0 t.2) (fun t : Int × bM => b_fr W_X12_readOne_L2 M0 t.2)) := by
  unfold F_X12_readOne_L2_b28
  refine b_wl_b (w_X12_scan b_fr_refl) (fun o ho => ?_)
  replace hF := b_fr_tr hF (b_fr_mo (by decide +kernel) ho)
  exact b_wl_s hF
theorem w_X12_readOne_L2_s2 {v1 : Int} {M0 M : bM} (hF : b_fr W_X12_readOne_L2 M0 M) : b_wl (F_X12_readOne_L2_s2 v1 M) (Sum.elim (fun t : Int × bM => b_fr W_X12_readOne_L2 M0 t.2) (fun t : Int × bM => b_fr W_X12_readOne_L2 M0 t.2)) := by
  unfold F_X12_readOne_L2_s2
  refine b_wl_i (fun c1 => ?_) (fun c1 => ?_)
  · refine b_wl_i (fun c2 => ?_) (fun c2 => ?_)
    · refine b_wl_i (fun c3 => ?_) (fun c3 => ?_)
      · exact w_X12_readOne_L2_b28 hF
      · exact w_X12_readOne_L2_b28 hF
    · exact b_wl_s hF
  · exact b_wl_s hF
theorem w_X12_readOne_L2_b122 {v1 : Int} {M0 M : bM} (hF : b_fr W_X12_readOne_L2 M0 M) : b_wl (F_X12_readOne_L2_b122 v1 M) (fun o : Int × bM => b_fr W_X12_readOne_L2 M0 o.2) := by
  unfold F_X12_readOne_L2_b122
  refine b_wl_i (fun c9 => ?_) (fun c9 => ?_)
  · exact b_wl_s hF
  · refine b_wl_b (w_X12_addStep b_fr_refl) (fun o ho => ?_)
    replace hF := b_fr_tr hF (b_fr_mo (by decide +kernel) ho)
    exact b_wl_s hF
theorem w_X12_readOne_L2_b36 {v1 : Int} {M0 M : bM} (hF : b_fr W_X12_readOne_L2 M0 M) : b_wl (F_X12_readOne_L2_b36 v1 M) (fun o : Int × bM => b_fr W_X12_readOne_L2 M0 o.2) := by
  unfold F_X12_readOne_L2_b36
  refine b_wl_i (fun c5 => ?_) (fun c5 => ?_)
  · refine b_wl_i (fun c11 => ?_) (fun c11 => ?_)
    · refine b_wl_b (w_X12_wrong b_fr_refl) (fun o ho => ?_)
      refine b_wl_two ?_
      replace hF := b_fr_tr hF (b_fr_mo (by decide +kernel) ho)
      refine b_wl_g (fun hg => ?_)
      exact b_wl_s hF
    · refine b_wl_g (fun hg => ?_)
      refine b_wl_lF (c := 11) (i := 49) hF (by decide +kernel) (fun hF => ?_)
      refine b_wl_b (w_X12_scan b_fr_refl) (fun o ho => ?_)
      replace hF := b_fr_tr hF (b_fr_mo (by decide +kernel) ho)
      refine b_wl_b (w_X12_readCond_L3 b_fr_refl) (fun o ho => ?_)
      refine b_wl_two ?_
      replace hF := b_fr_tr hF (b_fr_mo (by decide +kernel) ho)
      refine b_wl_i (fun c17 => ?_) (fun c17 => ?_)
      · exact b_wl_s hF
      · refine b_wl_i (fun c18 => ?_) (fun c18 => ?_)
        · refine b_wl_g (fun hg => ?_)
          refine b_wl_lF (c := 11) (i := 49) hF (by decide +kernel) (fun hF => ?_)
          refine b_wl_b (w_X12_scan b_fr_refl) (fun o ho => ?_)
          replace hF := b_fr_tr hF (b_fr_mo (by decide +kernel) ho)
          exact w_X12_readOne_L2_b122 hF
        · refine b_wl_b (w_X12_wrong b_fr_refl) (fun o ho => ?_)
          refine b_wl_two ?_
          replace hF := b_fr_tr hF (b_fr_mo (by decide +kernel) ho)
          refine b_wl_g (fun hg => ?_)
          exact b_wl_s hF
  · refine b_wl_b (w_X12_readTest b_fr_refl) (fun o ho => ?_)
    refine b_wl_two ?_
    replace hF := b_fr_tr hF (b_fr_mo (by decide +kernel) ho)
    refine b_wl_i (fun c8 => ?_) (fun c8 => ?_)
    · exact b_wl_s hF
    · exact w_X12_readOne_L2_b122 hF
theorem w_X12_readOne_L2 {M0 M : bM} (hF : b_fr W_X12_readOne_L2 M0 M) : b_wl (F_X12_readOne_L2 M) (fun o : Int × bM => b_fr W_X12_readOne_L2 M0 o.2) := by
  unfold F_X12_readOne_L2
  refine b_wl_b (b_wl_loop (A := (fun t : Int × bM => b_fr W_X12_readOne_L2 M0 t.2)) (fun t ht => w_X12_readOne_L2_s2 ht) hF) (fun t ht => ?_)
  replace hF : b_fr W_X12_readOne_L2 M0 t.2 := ht
  exact w_X12_readOne_L2_b36 hF
