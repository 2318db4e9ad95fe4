theorem e_settleOne {v o a q : Int} {D : bM} (hv : 0 ≤ v ∧ v < 6) (hw : D 109 v = 4 * o + 2 * a + q) (ho : o = 0 ∨ o = 1) (ha : a = 0 ∨ a = 1) (hq : q = 0 ∨ q = 1) (hb : 0 ≤ D 4 9 ∧ D 4 9 + q + a ≤ 1000) : ∃ E, F_X1_settleOne v D = some E ∧ b_fr [(4, some 9), (108, none), (109, none)] D E ∧ (∀ u, u ≠ v → E 109 u = D 109 u) ∧ E 109 v = 4 * o ∧ E 4 9 = D 4 9 + q + a ∧ (∀ x, x < D 4 9 → E 108 x = D 108 x) ∧ (q = 1 → E 108 (D 4 9) = x_enc 0 8) ∧ (a = 1 → E 108 (D 4 9 + q) = x_enc 0 6) := by
  have b36 : ∀ G : bM, b_fr [(4, some 9), (108, none)] D G → G 4 9 = D 4 9 + q + a → (∀ x, x < D 4 9 → G 108 x = D 108 x) → (q = 1 → G 108 (D 4 9) = x_enc 0 8) → (a = 1 → G 108 (D 4 9 + q) = x_enc 0 6) → b_wp (F_X1_settleOne_b36 v G) (fun E => b_fr [(4, some 9), (108, none), (109, none)] D E ∧ (∀ u, u ≠ v → E 109 u = D 109 u) ∧ E 109 v = 4 * o ∧ E 4 9 = D 4 9 + q + a ∧ (∀ x, x < D 4 9 → E 108 x = D 108 x) ∧ (q = 1 → E 108 (D 4 9) = x_enc 0 8) ∧ (a = 1 → E 108 (D 4 9 + q) = x_enc 0 6)) := by
    intro G g1 g2 g3 g4 g5
    unfold F_X1_settleOne_b36
    have g9 : ∀ u, G 109 u = D 109 u := fun u => g1 109 u (by simp [b_ins])
    refine b_Wg hv (b_Wl (b_Ws ⟨b_frA (b_fr_mo (by decide) g1) (by decide), fun u hu => ?_, ?_, ?_, fun x hx => ?_, fun z => ?_, fun z => ?_⟩))
    · rw [b_upi hu, g9]
    · rw [b_ups, g9, hw, (i_8 (by omega)).2.2.1]; omega
    · rw [b_upc (by decide)]; exact g2
    · rw [b_upc (by decide)]; exact g3 x hx
    · rw [b_upc (by decide)]; exact g4 z
    · rw [b_upc (by decide)]; exact g5 z
  have b18 : ∀ G : bM, b_fr [(4, some 9), (108, none)] D G → G 4 9 = D 4 9 + q → (∀ x, x < D 4 9 → G 108 x = D 108 x) → (q = 1 → G 108 (D 4 9) = x_enc 0 8) → b_wp (F_X1_settleOne_b18 v G) (fun E => b_fr [(4, some 9), (108, none), (109, none)] D E ∧ (∀ u, u ≠ v → E 109 u = D 109 u) ∧ E 109 v = 4 * o ∧ E 4 9 = D 4 9 + q + a ∧ (∀ x, x < D 4 9 → E 108 x = D 108 x) ∧ (q = 1 → E 108 (D 4 9) = x_enc 0 8) ∧ (a = 1 → E 108 (D 4 9 + q) = x_enc 0 6)) := by
    intro G g1 g2 g3 g4
    unfold F_X1_settleOne_b18
    have g9 : G 109 v = D 109 v := g1 109 v (by simp [b_ins])
    have i2 := (i_8 (x := 4 * o + 2 * a + q) (by omega)).2.1
    rw [g9, hw, i2]
    refine b_Wg hv (b_Wi (fun z => b36 G g1 (by omega) g3 g4 (fun y => by omega)) (fun z => b_We (e_emit (by omega)) (b36 _ ?_ ?_ (fun x hx => ?_) (fun y => ?_) (fun y => ?_))))
    · unfold em; exact b_frF (b_frA g1 (by decide)) (by decide)
    · rw [em_f.2.1]; omega
    · rw [em_f.2.2, if_neg (by omega)]; exact g3 x hx
    · rw [em_f.2.2, if_neg (by omega)]; exact g4 y
    · rw [em_f.2.2, if_pos (by omega)]
  have all : b_wp (F_X1_settleOne v D) (fun E => b_fr [(4, some 9), (108, none), (109, none)] D E ∧ (∀ u, u ≠ v → E 109 u = D 109 u) ∧ E 109 v = 4 * o ∧ E 4 9 = D 4 9 + q + a ∧ (∀ x, x < D 4 9 → E 108 x = D 108 x) ∧ (q = 1 → E 108 (D 4 9) = x_enc 0 8) ∧ (a = 1 → E 108 (D 4 9 + q) = x_enc 0 6)) := by
    unfold F_X1_settleOne
    have i1 := (i_8 (x := 4 * o + 2 * a + q) (by omega)).1
    rw [hw, i1]
    refine b_Wg hv (b_Wi (fun z => b18 D b_fr_refl (by omega) (fun _ _ => rfl) (fun y => by omega)) (fun z => b_We (e_emit (by omega)) (b18 _ ?_ ?_ (fun x hx => ?_) (fun y => ?_))))
    · unfold em; exact b_frF (b_frA b_fr_refl (by decide)) (by decide)
    · rw [em_f.2.1]; omega
    · rw [em_f.2.2, if_neg (by omega)]
    · rw [em_f.2.2, if_pos rfl]
  obtain ⟨E, e, r⟩ := b_wp_ex all
  exact ⟨E, e, r⟩
/-- the relation without its TOKENS -/
def Rb (cc : Int → Int) (e9 : Int) (R : bM) (s p : Int) (k : Nat) (T lg : Int) : Prop := R 11 48 = p ∧ R 186 p = T ∧ R 187 p = k ∧ Gdd R cc s p T k ∧ e9 = s + x_q R p k + lg ∧ (lg = 0 ∨ (lg = 1 ∧ cc (s + x_q R p k) = x_enc 0 6)) ∧ N3 R ∧ 0 ≤ x_q R p k
theorem Rl_b {c : Int → Int} {n s p : Int} {C R : bM} {i k : Nat} {T lg : Int} : Rl c n s p C R i k T lg ↔ ((Ct c n C i ∧ Rt c R i ∧ (i : Int) ≤ qT c i ∧ C 4 11 = T) ∧ Rb (C 108) (C 4 9) R s p k T lg) := by
  constructor
  · intro ⟨h1, h2, h3, h4, h5, h6, h7, h8, h9, h10, h11, h12⟩
    exact ⟨⟨h1, h2, h3, h5⟩, h4, h6, h7, h8, h9, h10, h11, h12⟩
  · intro ⟨⟨h1, h2, h3, h5⟩, h4, h6, h7, h8, h9, h10, h11, h12⟩
    exact ⟨h1, h2, h3, h4, h5, h6, h7, h8, h9, h10, h11, h12⟩
theorem Rb_k {W : bW} {cc dd : Int → Int} {e9 : Int} {R Q : bM} {s p : Int} {k : Nat} {T lg : Int} (h : Rb cc e9 R s p k T lg) (hd : ∀ x, x < e9 → dd x = cc x) (fR : b_fr W R Q) (dR : b_dis W [(11, some 48), (186, none), (187, none), (188, none), (189, none), (190, none), (191, none), (192, none), (193, none)] = true) : Rb dd e9 Q s p k T lg ∧ x_q Q p k = x_q R p k ∧ x_dep Q p k = x_dep R p k := by
  obtain ⟨h4, h6, h7, h8, h9, h10, h11, h12⟩ := h
  have kR := b_kp1 fR dR
  have ag : Ag R Q p k T := ⟨fun m _ => kR 188 _ rfl, fun t _ _ => ⟨⟨kR 189 _ rfl, kR 190 _ rfl, kR 191 _ rfl⟩, fun j _ _ => ⟨kR 192 j rfl, kR 193 j rfl⟩⟩⟩
  obtain ⟨g1, g2, g3⟩ := Gdd_ext (dd := dd) h8 ag (fun x hx => hd x (by omega))
  refine ⟨⟨(kR 11 48 rfl).trans h4, (kR 186 p rfl).trans h6, (kR 187 p rfl).trans h7, g1, ?_, ?_, fun j => ?_, ?_⟩, g2, g3⟩
  · rw [g2]; exact h9
  · rw [g2]
    rcases h10 with h10 | h10
    · exact Or.inl h10
    · exact Or.inr ⟨h10.1, by rw [hd _ (by omega)]; exact h10.2⟩
  · rw [kR 193 j rfl]; exact h11 j
  · rw [g2]; exact h12
theorem Rb_lag {cc dd : Int → Int} {e9 : Int} {R : bM} {s p : Int} {k : Nat} {T : Int} (h : Rb cc e9 R s p k T 0) (hd : ∀ x, x < e9 → dd x = cc x) (hx : dd e9 = x_enc 0 6) : Rb dd (e9 + 1) R s p k T 1 := by
  obtain ⟨h4, h6, h7, h8, h9, h10, h11, h12⟩ := h
  obtain ⟨g1, g2, g3⟩ := Gdd_ext (dd := dd) h8 Ag_r (fun x hx => hd x (by omega))
  exact ⟨h4, h6, h7, g1, by omega, Or.inr ⟨rfl, by rw [show s + x_q R p k = e9 by omega]; exact hx⟩, h11, h12⟩
theorem Rb_op {cc dd : Int → Int} {e9 f9 : Int} {R : bM} {s p : Int} {k : Nat} {T lg lh y : Int} (h : Rb cc e9 R s p k T lg) (h108 : ∀ x, x < s + x_q R p k → dd x = cc x) (hy : y = -3 ∨ y = -1 ∨ y = -2) (hd : (if y = -3 then 1 else 2) ≤ x_dep R p k) (hx : dd (s + x_q R p k) = x_enc 0 (x_oc y)) (hD : f9 = s + x_q R p k + 1 + lh) (hl : lh = 0 ∨ (lh = 1 ∧ dd (s + x_q R p k + 1) = x_enc 0 6)) (hk : (k : Int) + 1 ≤ 8 * T) : Rb dd f9 (aS R p k y) s p (k + 1) T lh ∧ x_q (aS R p k y) p (k + 1) = x_q R p k + 1 ∧ x_dep (aS R p k y) p (k + 1) = (if y = -3 then x_dep R p k else x_dep R p k - 1) := by
  obtain ⟨h4, h6, h7, h8, h9, h10, h11, h12⟩ := h
  have aR := fun (z : Nat) (j : Int) (hz : z ≠ 188) (hw : z ≠ 187) => (aS_f (R := R) (p := p) (k := k) (v := y)).1 z j hz (fun q => hw q.1)
  have ag : Ag R (aS R p k y) p k T := ⟨fun m hm => by rw [aS_f.2.2, if_neg (by omega)], fun t _ _ => ⟨⟨aR _ _ (by decide) (by decide), aR _ _ (by decide) (by decide), aR _ _ (by decide) (by decide)⟩, fun j _ _ => ⟨aR _ _ (by decide) (by decide), aR _ _ (by decide) (by decide)⟩⟩⟩
  have T12 := h8.1
  obtain ⟨g1, g2, g3⟩ := Gdd_add (dd := dd) (U := T) (y := y) h8 ag h108 ⟨by omega, by omega⟩ hk (by rw [aS_f.2.2, if_pos rfl]) ⟨by omega, by omega⟩ (fun z => by omega) (fun z => ⟨hd, hx⟩)
  rw [if_neg (by omega)] at g2 g3
  refine ⟨⟨(aR _ _ (by decide) (by decide)).trans h4, (aR _ _ (by decide) (by decide)).trans h6, ?_, g1, ?_, ?_, fun j => ?_, ?_⟩, g2, g3⟩
  · rw [aS_f.2.1]; omega
  · rw [g2, hD]; omega
  · rw [g2]
    rcases hl with hl | hl
    · exact Or.inl hl
    · exact Or.inr ⟨hl.1, by rw [show s + (x_q R p k + 1) = s + x_q R p k + 1 by omega]; exact hl.2⟩
  · rw [aR 193 j (by decide) (by decide)]; exact h11 j
  · rw [g2]; omega
def W_cR : bW := W_tR ++ [(11, some 49)]
def W_cC : bW := W_tC ++ [(109, none)]
def Fl (C : bM) (r : Option (bM ⊕ (Int × bM))) (Q : bM) : Prop := ∃ D, r = some (.inr (0, D)) ∧ b_fr (W_cC ++ [(1, some 5), (1, some 6)]) C D ∧ D 1 5 = Q 11 8 ∧ D 1 6 = Q 11 9
def Dn (c : Int → Int) (n s p g v : Int) (C R : bM) (i k : Nat) (T lg : Int) (E : bM → bM) (X : Nat → Int → Prop) (r : Option (bM ⊕ (Int × bM))) (Q : bM) : Prop := ∃ (D : bM) (m j : Int) (i' k' : Nat) (T' o : Int), r = AFT v m j D ∧ (0 ≤ m ∧ m + v ≤ 5) ∧ (0 ≤ j ∧ j + 1 ≤ qT c i') ∧ b_fr W_cC C D ∧ (∀ u, u < v → D 109 u = C 109 u) ∧ (D 109 v = 4 * o ∧ (o = 0 ∨ o = 1)) ∧ (∀ q, q < s → D 108 q = C 108 q) ∧ Ct c n D i' ∧ Rl c n s p (E D) Q i' k' T' lg ∧ Q 11 49 = v ∧ x_dep Q p k' = x_dep R p k + 1 ∧ (T < T' ∧ (k' : Int) + 1 ≤ k + (8 - v) * (T' - T)) ∧ (E D) 4 9 + g ≤ qT c i' ∧ qT c i < qT c i' ∧ X i' o ∧ b_fr W_cR R Q
def Pst (c : Int → Int) (n s p g v : Int) (C R : bM) (i k : Nat) (T lg : Int) (E : bM → bM) (X : Nat → Int → Prop) (r : Option (bM ⊕ (Int × bM))) (x : Int × bM) : Prop := b_fr (W_cR ++ [(11, some 8), (11, some 9)]) R x.2 ∧ Fp p R x.2 ∧ ((x.1 = 0 ∧ Fl C r x.2) ∨ (x.1 = 1 ∧ Dn c n s p g v C R i k T lg E X r x.2))
def Pre (c : Int → Int) (n s p g v : Int) (C R : bM) (i k : Nat) (T j w : Int) : Prop := Rl c n s p C R i k T 0 ∧ R 11 49 = v ∧ C 109 v = w ∧ (0 ≤ j ∧ j + 1 ≤ qT c i) ∧ 0 ≤ g ∧ C 4 9 + g + 1 ≤ qT c i
/-- the reference's conditions, whatever the depth -/
noncomputable def rO_b (cond : bM → Option (Int × bM)) (v1 : Int) (M : bM) : Option (Int × bM) :=
  if (M 11 3) = 5 then (if (M 11 49) = 5 then (b_bind (F_X12_wrong 4 M) (fun t => b_two t (fun x25 M26 => b_g (x25 = 0 ∨ x25 = 1) (some (x25, M26))))) else (b_g (b_i32 ((M 11 49) + 1)) (b_let (b_up M 11 49 ((M 11 49) + 1)) (fun M13 => b_bind (F_X12_scan M13) (fun M14 => b_bind (cond M14) (fun t => b_two t (fun x15 M16 => if x15 = 0 then (some (0, M16)) else (if (M16 11 3) = 6 then (b_g (b_i32 ((M16 11 49) - 1)) (b_let (b_up M16 11 49 ((M16 11 49) - 1)) (fun M20 => b_bind (F_X12_scan M20) (fun M21 => F_X12_readOne_L5_b122 v1 M21)))) else (b_bind (F_X12_wrong 1 M16) (fun t => b_two t (fun x22 M23 => b_g (x22 = 0 ∨ x22 = 1) (some (x22, M23))))))))))))) else (b_bind (F_X12_readTest M) (fun t => b_two t (fun x6 M7 => if x6 = 0 then (some (0, M7)) else (F_X12_readOne_L5_b122 v1 M7))))
noncomputable def rO (cond : bM → Option (Int × bM)) (M : bM) : Option (Int × bM) := b_bind (b_loop (fun t : Int × bM => F_X12_readOne_L5_s2 t.1 t.2) (0, M)) (fun t => rO_b cond (t.1) (t.2))
noncomputable def rA_s (one : bM → Option (Int × bM)) (M : bM) : Option ((bM) ⊕ ((bM) ⊕ (Int × bM))) :=
  if (M 11 3) = 1 then (if (M 11 4) = 19 then (b_bind (F_X12_scan M) (fun M6 => b_bind (one M6) (fun t => b_two t (fun x7 M8 => if x7 = 0 then (some (.inr (.inr (0, M8)))) else (b_bind (F_X12_addStep (-1) M8) (fun M10 => some (.inl (M10)))))))) else (some (.inr (.inl (M))))) else (some (.inr (.inl (M))))
noncomputable def rA (one : bM → Option (Int × bM)) (M : bM) : Option (Int × bM) :=
  b_bind (one M) (fun t => b_two t (fun x1 M2 => if x1 = 0 then (some (0, M2)) else (b_bind (b_loop (fun t => rA_s one t) (M2)) (Sum.elim (fun t => F_X12_readAll_L5_b47 t) some))))
noncomputable def rC_s (all : bM → Option (Int × bM)) (M : bM) : Option ((bM) ⊕ ((bM) ⊕ (Int × bM))) :=
  if (M 11 3) = 1 then (if (M 11 4) = 18 then (b_bind (F_X12_scan M) (fun M6 => b_bind (all M6) (fun t => b_two t (fun x7 M8 => if x7 = 0 then (some (.inr (.inr (0, M8)))) else (b_bind (F_X12_addStep (-2) M8) (fun M10 => some (.inl (M10)))))))) else (some (.inr (.inl (M))))) else (some (.inr (.inl (M))))
noncomputable def rC (all : bM → Option (Int × bM)) (M : bM) : Option (Int × bM) :=
  b_bind (all M) (fun t => b_two t (fun x1 M2 => if x1 = 0 then (some (0, M2)) else (b_bind (b_loop (fun t => rC_s all t) (M2)) (Sum.elim (fun t => F_X12_readCond_L5_b48 t) some))))
theorem rO_5 : F_X12_readOne_L5 = rO (fun _ => none) := rfl
theorem rA_5 : F_X12_readAll_L5 = rA F_X12_readOne_L5 := rfl
theorem rC_5 : F_X12_readCond_L5 = rC F_X12_readAll_L5 := rfl
theorem rO_4 : F_X12_readOne_L4 = rO F_X12_readCond_L5 := rfl
theorem rA_4 : F_X12_readAll_L4 = rA F_X12_readOne_L4 := rfl
theorem rC_4 : F_X12_readCond_L4 = rC F_X12_readAll_L4 := rfl
theorem rO_3 : F_X12_readOne_L3 = rO F_X12_readCond_L4 := rfl
theorem rA_3 : F_X12_readAll_L3 = rA F_X12_readOne_L3 := rfl
theorem rC_3 : F_X12_readCond_L3 = rC F_X12_readAll_L3 := rfl
theorem rO_2 : F_X12_readOne_L2 = rO F_X12_readCond_L3 := rfl
theorem rA_2 : F_X12_readAll_L2 = rA F_X12_readOne_L2 := rfl
theorem rC_2 : F_X12_readCond_L2 = rC F_X12_readAll_L2 := rfl
theorem rO_1 : F_X12_readOne_L1 = rO F_X12_readCond_L2 := rfl
theorem rA_1 : F_X12_readAll_L1 = rA F_X12_readOne_L1 := rfl
theorem rC_1 : F_X12_readCond_L1 = rC F_X12_readAll_L1 := rfl
theorem rO_0 : F_X12_readOne_L0 = rO F_X12_readCond_L1 := rfl
theorem rA_0 : F_X12_readAll_L0 = rA F_X12_readOne_L0 := rfl
theorem rC_0 : F_X12_readCond_L0 = rC F_X12_readAll_L0 := rfl
