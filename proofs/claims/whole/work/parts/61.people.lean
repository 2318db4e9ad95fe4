def z_fold {α : Type} (f : Int → α → α) (a : α) : Nat → α
  | 0 => a
  | k + 1 => f k (z_fold f a k)
theorem z_fold_s {α : Type} {f : Int → α → α} {a : α} {i : Int} (h : 0 ≤ i) : z_fold f a (i + 1).toNat = f i (z_fold f a i.toNat) := by
  obtain ⟨n, rfl⟩ := Int.eq_ofNat_of_zero_le h
  rw [show ((n : Int) + 1).toNat = n + 1 by omega, show ((n : Int)).toNat = n by omega]
  rfl
theorem z_fold_c {α : Type} {f g : Int → α → α} {a : α} : ∀ k : Nat, (∀ (i : Nat) x, i < k → f i x = g i x) → z_fold f a k = z_fold g a k := by
  intro k
  induction k with
  | zero => intro _; rfl
  | succ k ih =>
    intro h
    show f k (z_fold f a k) = g k (z_fold g a k)
    rw [ih (fun i x hi => h i x (by omega)), h k _ (by omega)]
theorem z_fold_i {α : Type} {f : Int → α → α} {a : α} {P : α → Prop} (h0 : P a) : ∀ k : Nat, (∀ (i : Nat) x, i < k → P x → P (f i x)) → P (z_fold f a k) := by
  intro k
  induction k with
  | zero => intro _; exact h0
  | succ k ih => intro h; exact h k _ (by omega) (ih (fun i x hi hx => h i x (by omega) hx))
/-- labels: who is ONE, by the tellings in their order -/
def x_st (M : bM) (d k : Int) (L : Int → Int) : Int → Int := if M 164 k = 1 ∧ M 167 k ≤ d then fun p => if L p = max (L (M 165 k)) (L (M 166 k)) then min (L (M 165 k)) (L (M 166 k)) else L p else L
def x_lb (M : bM) (d : Int) (k : Nat) : Int → Int := z_fold (x_st M d) (fun p => p) k
def x_lab (M : bM) (d : Int) : Int → Int := x_lb M d (M 11 13).toNat
def P_lab (L : Int → Int) : Prop := (∀ p, L p ≤ p) ∧ (∀ p, L (L p) = L p) ∧ ∀ p, 0 ≤ p → 0 ≤ L p
theorem x_st_p {M : bM} {d k : Int} {L : Int → Int} (h : P_lab L) (hk : M 164 k = 1 → 0 ≤ M 165 k ∧ 0 ≤ M 166 k) : P_lab (x_st M d k L) := by
  unfold x_st
  by_cases q : M 164 k = 1 ∧ M 167 k ≤ d
  · rw [if_pos q]
    obtain ⟨h1, h2, h3⟩ := h
    have hk2 := hk q.1
    have ha := h2 (M 165 k)
    have hb := h2 (M 166 k)
    have ha3 := h3 _ hk2.1
    have hb3 := h3 _ hk2.2
    generalize L (M 165 k) = a at ha hb ha3 hb3 ⊢
    generalize L (M 166 k) = b at ha hb ha3 hb3 ⊢
    have hm : L (min a b) = min a b := by
      rcases Int.le_total a b with u | u
      · rw [Int.min_eq_left u]; exact ha
      · rw [Int.min_eq_right u]; exact hb
    refine ⟨fun p => ?_, fun p => ?_, fun p hp => ?_⟩
    · have := h1 p
      dsimp only
      split <;> omega
    · dsimp only
      by_cases q2 : L p = max a b
      · rw [if_pos q2, hm]
        split <;> rfl
      · rw [if_neg q2, h2 p, if_neg q2]
    · have := h3 p hp
      dsimp only
      split <;> omega
  · rw [if_neg q]; exact h
def T_ok (M : bM) : Prop := (0 ≤ M 11 12 ∧ M 11 12 ≤ 80) ∧ (0 ≤ M 11 13 ∧ M 11 13 ≤ 400) ∧ ∀ t, 0 ≤ t → t < M 11 13 → (0 ≤ M 165 t ∧ M 165 t < M 11 12) ∧ (M 164 t ≠ 0 → 0 ≤ M 166 t ∧ M 166 t < M 11 12) ∧ (M 164 t = 0 → 0 ≤ M 166 t ∧ M 166 t ≤ 9999)
theorem T_ok_of {M : bM} (h : R_ppl M) : T_ok M := by
  obtain ⟨h1, ⟨e1, e2, e3, e4, e5⟩, h3, h4⟩ := h
  refine ⟨by omega, by omega, fun t h0 ht => ?_⟩
  have := h4 t h0 (by omega)
  rw [e2, e3, e4]
  refine ⟨by omega, fun q => ?_, fun q => ?_⟩
  · have := this.2.2.1 q; omega
  · have := this.2.2.2.1 q; omega
theorem x_lb_p {M : bM} {d : Int} (hT : T_ok M) (k : Nat) (hk : k ≤ (M 11 13).toNat) : P_lab (x_lb M d k) := by
  unfold x_lb
  refine z_fold_i (P := P_lab) ⟨fun p => Int.le_refl p, fun p => rfl, fun p hp => hp⟩ k (fun i L hi hL => x_st_p hL (fun q => ?_))
  have h0 := hT.2.1
  have := hT.2.2 i (by omega) (by omega)
  have h2 := this.2.1 (by omega)
  omega
theorem x_lab_p {M : bM} {d : Int} (hT : T_ok M) : P_lab (x_lab M d) := x_lb_p hT _ (Nat.le_refl _)
theorem x_lab_r {M : bM} {d p : Int} (hT : T_ok M) (hp : 0 ≤ p ∧ p < M 11 12) : 0 ≤ x_lab M d p ∧ x_lab M d p < M 11 12 := by
  have h := x_lab_p (d := d) hT
  have h1 := h.1 p
  have h2 := h.2.2 p hp.1
  omega
theorem x_st_c {M M2 : bM} {d k : Int} {L : Int → Int} (h : M2 164 k = M 164 k) (h2 : M2 165 k = M 165 k) (h3 : M2 166 k = M 166 k) (h4 : M2 167 k = M 167 k) : x_st M2 d k L = x_st M d k L := by
  unfold x_st
  rw [h, h2, h3, h4]
theorem x_lab_c {M M2 : bM} {d : Int} (h0 : M2 11 13 = M 11 13) (h : ∀ k, 0 ≤ k → k < M 11 13 → M2 164 k = M 164 k ∧ M2 165 k = M 165 k ∧ M2 166 k = M 166 k ∧ M2 167 k = M 167 k) : x_lab M2 d = x_lab M d := by
  unfold x_lab x_lb
  rw [h0]
  refine z_fold_c _ (fun i x hi => ?_)
  have := h i (by omega) (by omega)
  exact x_st_c this.1 this.2.1 this.2.2.1 this.2.2.2
/-- the day of death of a label -/
def x_ds (M : bM) (d g k b : Int) : Int := if M 164 k = 0 ∧ M 167 k ≤ d ∧ x_lab M d (M 165 k) = g ∧ (b = -1 ∨ M 166 k < b) then M 166 k else b
def x_de (M : bM) (d g : Int) (k : Nat) : Int := z_fold (x_ds M d g) (-1) k
def x_dea (M : bM) (d g : Int) : Int := x_de M d g (M 11 13).toNat
/-- g has a child c, by the tellings ahead of i -/
def x_ch (M : bM) (d i g c : Int) : Prop := ∃ k, (0 ≤ k ∧ k < i) ∧ M 164 k = 3 ∧ M 167 k ≤ d ∧ x_lab M d (M 165 k) = g ∧ x_lab M d (M 166 k) = c
def x_chi (M : bM) (d g c : Int) : Prop := x_ch M d (M 11 13) g c
theorem x_ch_s {M : bM} {d i g c : Int} (h : 0 ≤ i) : x_ch M d (i + 1) g c ↔ x_ch M d i g c ∨ (M 164 i = 3 ∧ M 167 i ≤ d ∧ x_lab M d (M 165 i) = g ∧ x_lab M d (M 166 i) = c) := by
  constructor
  · intro ⟨k, hk, q⟩
    by_cases e : k = i
    · subst e; exact Or.inr q
    · exact Or.inl ⟨k, by omega, q⟩
  · intro q
    rcases q with ⟨k, hk, q⟩ | q
    · exact ⟨k, by omega, q⟩
    · exact ⟨i, by omega, q⟩
theorem x_dea_r {M : bM} {d g : Int} (hT : T_ok M) : -1 ≤ x_dea M d g ∧ x_dea M d g ≤ 9999 := by
  unfold x_dea x_de
  refine z_fold_i (P := fun b : Int => -1 ≤ b ∧ b ≤ 9999) (by omega) _ (fun i b hi hb => ?_)
  unfold x_ds
  by_cases q : M 164 i = 0 ∧ M 167 i ≤ d ∧ x_lab M d (M 165 i) = g ∧ (b = -1 ∨ M 166 i < b)
  · rw [if_pos q]
    have h0 := hT.2.1
    have := hT.2.2 i (by omega) (by omega)
    have := this.2.2 q.1
    omega
  · rw [if_neg q]; exact hb
theorem x_dea_c {M M2 : bM} {d : Int} (h0 : M2 11 13 = M 11 13) (h : ∀ k, 0 ≤ k → k < M 11 13 → M2 164 k = M 164 k ∧ M2 165 k = M 165 k ∧ M2 166 k = M 166 k ∧ M2 167 k = M 167 k) : x_dea M2 d = x_dea M d := by
  funext g
  have hl := x_lab_c (d := d) h0 h
  unfold x_dea x_de
  rw [h0]
  refine z_fold_c _ (fun i x hi => ?_)
  have := h i (by omega) (by omega)
  unfold x_ds
  rw [this.1, this.2.1, this.2.2.1, this.2.2.2, hl]
theorem x_chi_c {M M2 : bM} {d : Int} (h0 : M2 11 13 = M 11 13) (h : ∀ k, 0 ≤ k → k < M 11 13 → M2 164 k = M 164 k ∧ M2 165 k = M 165 k ∧ M2 166 k = M 166 k ∧ M2 167 k = M 167 k) (g c : Int) : x_chi M2 d g c ↔ x_chi M d g c := by
  have hl := x_lab_c (d := d) h0 h
  unfold x_chi x_ch
  rw [h0, hl]
  constructor
  · intro ⟨k, hk, q⟩
    have := h k hk.1 hk.2
    rw [this.1, this.2.1, this.2.2.1, this.2.2.2] at q
    exact ⟨k, hk, q⟩
  · intro ⟨k, hk, q⟩
    have := h k hk.1 hk.2
    refine ⟨k, hk, ?_⟩
    rw [this.1, this.2.1, this.2.2.1, this.2.2.2]
    exact q
theorem j_um : ∀ n : Nat, n < 64 → ((Int32.ofInt n).toInt64.toUInt64 &&& Int64.toUInt64 63).toBitVec.toNat = n := by decide +kernel
theorem j_bt_ushr {s k : Int} (hk : 0 ≤ k ∧ k < 64) : j_and (j_ushr s k) 1 = if j_bt s k.toNat = true then 1 else 0 := by
  obtain ⟨n, rfl⟩ := Int.eq_ofNat_of_zero_le hk.1
  unfold j_and j_ushr j_bt
  rw [Int64.ofInt_toInt]
  have hb : (((Int64.ofInt s).toUInt64 >>> ((Int32.ofInt n).toInt64.toUInt64 &&& Int64.toUInt64 63)).toInt64).toBitVec.getLsbD 0 = (Int64.ofInt s).toBitVec.getLsbD n := by
    show ((Int64.ofInt s).toUInt64 >>> ((Int32.ofInt n).toInt64.toUInt64 &&& Int64.toUInt64 63)).toBitVec.getLsbD 0 = _
    rw [UInt64.toBitVec_shiftRight]
    show ((Int64.ofInt s).toBitVec >>> (((Int32.ofInt n).toInt64.toUInt64 &&& Int64.toUInt64 63).toBitVec % 64)).getLsbD 0 = _
    have hm := j_um n (by omega)
    generalize ((Int32.ofInt n).toInt64.toUInt64 &&& Int64.toUInt64 63).toBitVec = y at hm
    have h2 : (y % 64).toNat = n := by
      rw [BitVec.toNat_umod, hm]
      show n % 64 = n
      omega
    rw [BitVec.ushiftRight_eq', BitVec.getLsbD_ushiftRight, h2]
    rfl
  have h2 : ((Int64.ofInt s).toUInt64 >>> ((Int32.ofInt n).toInt64.toUInt64 &&& Int64.toUInt64 63)).toInt64 &&& Int64.ofInt 1 = if (Int64.ofInt s).toBitVec.getLsbD n = true then 1 else 0 := by
    rw [← hb]
    generalize ((Int64.ofInt s).toUInt64 >>> ((Int32.ofInt n).toInt64.toUInt64 &&& Int64.toUInt64 63)).toInt64 = y
    refine Int64.toBitVec_inj.mp ?_
    rw [Int64.toBitVec_and]
    show y.toBitVec &&& 1#64 = _
    rw [BitVec.and_one_eq_setWidth_ofBool_getLsbD]
    cases y.toBitVec.getLsbD 0 <;> rfl
  rw [h2]
  show Int64.toInt _ = if (Int64.ofInt s).toBitVec.getLsbD n = true then 1 else 0
  cases (Int64.ofInt s).toBitVec.getLsbD n <;> rfl
theorem j_tstu {s k : Int} (hk : 0 ≤ k ∧ k < 64) : j_cmp (j_and (j_ushr s k) 1) 0 = 0 ↔ ¬ j_bt s k.toNat = true := by
  rw [j_bt_ushr hk]
  by_cases h : j_bt s k.toNat = true
  · simp [h, j_cmp]
  · simp [h, j_cmp]
/-- bit c of the children of g -/
def c_bit (M : bM) (g c : Int) : Bool := if 64 ≤ c then j_bt (M 84 g) (c - 64).toNat else j_bt (M 83 g) c.toNat
theorem j_bt_0 (i : Nat) : j_bt 0 i = false := by
  unfold j_bt
  show (0#64).getLsbD i = false
  simp
theorem t_kn54 {d : Int} {M : bM} (hn : 0 ≤ M 2 0 ∧ M 2 0 ≤ 80) : b_wp (b_loop (fun t : Int × bM => F_X8_know_s54 d t.1 t.2) (0, M)) (fun N => (∀ c j, c ≠ 81 → c ≠ 82 → c ≠ 83 → c ≠ 84 → N c j = M c j) ∧ ∀ p, 0 ≤ p → p < M 2 0 → N 81 p = p ∧ N 82 p = -1 ∧ N 83 p = 0 ∧ N 84 p = 0) := by
  refine b_loop_ind (I := fun t : Int × bM => (0 ≤ t.1 ∧ t.1 ≤ M 2 0) ∧ (∀ c j, c ≠ 81 → c ≠ 82 → c ≠ 83 → c ≠ 84 → t.2 c j = M c j) ∧ ∀ p, 0 ≤ p → p < t.1 → t.2 81 p = p ∧ t.2 82 p = -1 ∧ t.2 83 p = 0 ∧ t.2 84 p = 0) (fun t => (M 2 0 - t.1).toNat) ?_ (0, M) ⟨by dsimp only; omega, fun c j _ _ _ _ => rfl, fun p h1 h2 => by dsimp only at h2; omega⟩
  intro ⟨i, N⟩ ⟨h1, h2, h3⟩
  dsimp only at h1 h2 h3 ⊢
  unfold F_X8_know_s54
  have e := h2 2 0 (by decide) (by decide) (by decide) (by decide)
  rw [e]
  (repeat' first | with_reducible refine b_Wg (by omega) ?_ | with_reducible refine b_Wi (fun _ => ?_) (fun _ => ?_) | with_reducible refine b_Wl ?_ | with_reducible refine b_Ws ?_)
  · exact ⟨h2, fun p p0 p1 => h3 p p0 (by omega)⟩
  · refine ⟨⟨by dsimp only; omega, fun c j c1 c2 c3 c4 => ?_, fun p p0 p1 => ?_⟩, by dsimp only; omega⟩
    · dsimp only
      rw [b_upc c4, b_upc c3, b_upc c2, b_upc c1]
      exact h2 c j c1 c2 c3 c4
    · dsimp only at p1 ⊢
      by_cases q : p = i
      · subst q
        refine ⟨?_, ?_, ?_, ?_⟩
        · rw [b_upc (by decide), b_upc (by decide), b_upc (by decide), b_ups]
        · rw [b_upc (by decide), b_upc (by decide), b_ups]
        · rw [b_upc (by decide), b_ups]
        · rw [b_ups]
      · have := h3 p p0 (by omega)
        refine ⟨?_, ?_, ?_, ?_⟩
        · rw [b_upc (by decide), b_upc (by decide), b_upc (by decide), b_upi q]; exact this.1
        · rw [b_upc (by decide), b_upc (by decide), b_upi q, b_upc (by decide)]; exact this.2.1
        · rw [b_upc (by decide), b_upi q, b_upc (by decide), b_upc (by decide)]; exact this.2.2.1
        · rw [b_upi q, b_upc (by decide), b_upc (by decide), b_upc (by decide)]; exact this.2.2.2
theorem t_kn98 {d : Int} {M : bM} (hR : R_ppl M) (h81 : ∀ p, 0 ≤ p → p < M 2 0 → M 81 p = p) : b_wp (b_loop (fun t : Int × bM => F_X8_know_s98 d t.1 t.2) (0, M)) (fun N => (∀ c j, c ≠ 81 → N c j = M c j) ∧ ∀ p, 0 ≤ p → p < M 2 0 → N 81 p = x_lab M d p) := by
  have hT := T_ok_of hR
  obtain ⟨g1, ⟨e1, e2, e3, e4, e5⟩, g3, g4⟩ := hR
  refine b_loop_ind (I := fun t : Int × bM => (0 ≤ t.1 ∧ t.1 ≤ M 2 1) ∧ (∀ c j, c ≠ 81 → t.2 c j = M c j) ∧ ∀ p, 0 ≤ p → p < M 2 0 → t.2 81 p = x_lb M d t.1.toNat p) (fun t => (M 2 1 - t.1).toNat) ?_ (0, M) ⟨by dsimp only; omega, fun c j _ => rfl, h81⟩
  intro ⟨i, N⟩ ⟨h1, h2, h3⟩
  dsimp only at h1 h2 h3 ⊢
  unfold F_X8_know_s98
  have k20 := h2 2 0 (by decide)
  have k21 := h2 2 1 (by decide)
  have k77 := h2 77 i (by decide)
  have k78 := h2 78 i (by decide)
  have k79 := h2 79 i (by decide)
  have k80 := h2 80 i (by decide)
  rw [k21, k77, k78, k79, k80]
  by_cases q : M 2 1 ≤ i
  · refine b_Wt q (b_Ws ?_)
    refine ⟨h2, fun p p0 p1 => ?_⟩
    rw [h3 p p0 p1, show i = M 11 13 by omega]
    rfl
  · refine b_Wf q ?_
    have g5 := g4 i h1.1 (by omega)
    have hs : x_lb M d (i + 1).toNat = x_st M d i (x_lb M d i.toNat) := z_fold_s h1.1
    have hP := x_lb_p (d := d) hT i.toNat (by omega)
    have skip : (M 77 i = 1 → d < M 80 i) → b_wp (b_g (b_i32 (i + 1)) (some (Sum.inl (i + 1, N)) : Option ((Int × bM) ⊕ bM))) (Sum.elim (fun s2 : Int × bM => (((0 ≤ s2.1 ∧ s2.1 ≤ M 2 1) ∧ (∀ c j, c ≠ 81 → s2.2 c j = M c j) ∧ ∀ p, 0 ≤ p → p < M 2 0 → s2.2 81 p = x_lb M d s2.1.toNat p) ∧ (M 2 1 - s2.1).toNat < (M 2 1 - i).toNat)) (fun N => (∀ c j, c ≠ 81 → N c j = M c j) ∧ ∀ p, 0 ≤ p → p < M 2 0 → N 81 p = x_lab M d p)) := by
      intro w
      refine b_Wg (by omega) (b_Ws ⟨⟨by dsimp only; omega, h2, fun p p0 p1 => ?_⟩, by dsimp only; omega⟩)
      dsimp only
      rw [hs]
      unfold x_st
      rw [e2, e5, if_neg (fun z => by have := w z.1; omega)]
      exact h3 p p0 p1
    refine b_Wg (by omega) ?_
    refine b_Wi (fun q1 => b_Wg (by omega) (b_Wi (fun q2 => skip (fun _ => q2)) (fun q2 => ?_))) (fun q1 => skip (fun z => absurd z q1))
    refine b_Wg (by omega) ?_
    have r1 := h3 (M 78 i) (by omega) (by omega)
    have r2 := h3 (M 79 i) (by omega) (by omega)
    have u1 := hP.2.2 (M 78 i) (by omega)
    have u2 := hP.2.2 (M 79 i) (by omega)
    rw [r1, r2]
    refine b_We (e_X8_unite (by omega) (by omega)) ?_
    refine b_Wg (by omega) (b_Ws ⟨⟨by dsimp only; omega, fun c j hc => ?_, fun p p0 p1 => ?_⟩, by dsimp only; omega⟩)
    · dsimp only
      split
      · exact h2 c j hc
      · unfold p_rl
        rw [if_neg (fun z => hc z.1)]
        exact h2 c j hc
    · dsimp only
      rw [hs]
      unfold x_st
      rw [e2, e3, e4, e5, if_pos (show M 77 i = 1 ∧ M 80 i ≤ d from ⟨q1, by omega⟩)]
      have v := hP.1 p
      have v2 := h3 p p0 p1
      generalize x_lb M d i.toNat (M 78 i) = a at u1 u2 ⊢
      generalize x_lb M d i.toNat (M 79 i) = b at u1 u2 ⊢
      by_cases qa : a = b
      · rw [if_pos qa, v2]
        split <;> omega
      · rw [if_neg qa]
        unfold p_rl
        rw [v2, k20]
        by_cases qb : x_lb M d i.toNat p = max a b
        · rw [if_pos qb, if_pos ⟨rfl, by omega, by omega, qb⟩]
        · rw [if_neg qb, if_neg (fun z => qb z.2.2.2)]
