/-! the class's steps -/
def x_enc (v s : Int) : Int := j_or (j_shl v 4) s
theorem x_e4 : ((Int32.ofInt 4).toInt64 &&& 63).toBitVec.smod 64 = 4#64 := by decide +kernel
theorem x_en {v s : Int} (hv : 0 ≤ v ∧ v < 1152921504606846976) (hs : 0 ≤ s ∧ s < 16) : (Int64.ofInt (x_enc v s)).toBitVec.toNat = 16 * v.toNat + s.toNat := by
  obtain ⟨V, rfl⟩ := Int.eq_ofNat_of_zero_le hv.1
  obtain ⟨S, rfl⟩ := Int.eq_ofNat_of_zero_le hs.1
  unfold x_enc j_or j_shl
  rw [Int64.ofInt_toInt, Int64.ofInt_toInt, Int64.toBitVec_or, Int64.toBitVec_shiftLeft, x_e4]
  show ((BitVec.ofInt 64 (V : Int)) <<< 4#64 ||| BitVec.ofInt 64 (S : Int)).toNat = _
  rw [BitVec.ofInt_natCast, BitVec.ofInt_natCast, BitVec.toNat_or, BitVec.shiftLeft_eq', BitVec.toNat_shiftLeft, show (4#64).toNat = 4 from rfl, BitVec.toNat_ofNat, BitVec.toNat_ofNat, Nat.mod_eq_of_lt (show V < 2 ^ 64 by omega), Nat.mod_eq_of_lt (show S < 2 ^ 64 by omega), Nat.mod_eq_of_lt (show V <<< 4 < 2 ^ 64 by rw [Nat.shiftLeft_eq]; omega), ← Nat.shiftLeft_add_eq_or_of_lt (show S < 2 ^ 4 by omega), Nat.shiftLeft_eq]
  omega
theorem x_en_s {v s : Int} (hv : 0 ≤ v ∧ v < 1152921504606846976) (hs : 0 ≤ s ∧ s < 16) : j_and (x_enc v s) 15 = s := by
  have h := x_en hv hs
  unfold j_and
  have e : (Int64.ofInt (x_enc v s) &&& Int64.ofInt 15).toBitVec.toNat = s.toNat := by
    rw [Int64.toBitVec_and, BitVec.toNat_and, h]
    show (16 * v.toNat + s.toNat) &&& (2 ^ 4 - 1) = s.toNat
    rw [Nat.and_two_pow_sub_one_eq_mod]
    omega
  show (Int64.ofInt (x_enc v s) &&& Int64.ofInt 15).toBitVec.toInt = s
  rw [BitVec.toInt_eq_toNat_of_lt (by rw [e]; omega), e]
  omega
theorem x_en_v {v s : Int} (hv : 0 ≤ v ∧ v < 1152921504606846976) (hs : 0 ≤ s ∧ s < 16) : j_ushr (x_enc v s) 4 = v := by
  have h := x_en hv hs
  unfold j_ushr
  have e : ((Int64.ofInt (x_enc v s)).toUInt64 >>> ((Int32.ofInt 4).toInt64.toUInt64 &&& Int64.toUInt64 63)).toNat = v.toNat := by
    rw [UInt64.toNat_shiftRight]
    show (Int64.ofInt (x_enc v s)).toBitVec.toNat >>> (4 % 64) = v.toNat
    rw [h, Nat.shiftRight_eq_div_pow, show 2 ^ (4 % 64) = 16 from rfl]
    omega
  show ((Int64.ofInt (x_enc v s)).toUInt64 >>> ((Int32.ofInt 4).toInt64.toUInt64 &&& Int64.toUInt64 63)).toBitVec.toInt = v
  have e2 : ((Int64.ofInt (x_enc v s)).toUInt64 >>> ((Int32.ofInt 4).toInt64.toUInt64 &&& Int64.toUInt64 63)).toBitVec.toNat = v.toNat := e
  rw [BitVec.toInt_eq_toNat_of_lt (by rw [e2]; omega), e2]
  omega
def x_ln (M : bM) (t : Int) : Int := 2 * M 190 t + (if M 189 t = 0 then 0 else 2 * M 191 t - 1)
def x_sl (M : bM) (p i : Int) : Int := if 0 ≤ M 188 (100 * p + i) then x_ln M (12 * p + M 188 (100 * p + i)) else 1
def x_q (M : bM) (p : Int) (i : Nat) : Int := z_fold (fun j s => s + x_sl M p j) 0 i
def Tc (M : bM) (c : Int → Int) (q t : Int) : Prop := (M 192 t = 0 ∧ (0 ≤ M 193 t ∧ M 193 t ≤ 9999) ∧ c q = x_enc (M 193 t) 0) ∨ ((1 ≤ M 192 t ∧ M 192 t < 1152921504606846976) ∧ M 193 t = 0 ∧ c q = x_enc (M 192 t) 1)
def Sc (M : bM) (c : Int → Int) (q f m : Int) : Prop := (1 ≤ m ∧ m ≤ 3) ∧ Tc M c q f ∧ (2 ≤ m → Tc M c (q + 1) (f + 1) ∧ c (q + 2) = x_enc 0 2) ∧ (3 ≤ m → Tc M c (q + 3) (f + 2) ∧ c (q + 4) = x_enc 0 2)
def Xc (M : bM) (c : Int → Int) (q t : Int) : Prop := Sc M c q (6 * t) (M 190 t) ∧ ((M 189 t = 0 ∧ c (q + 2 * M 190 t - 1) = x_enc 0 9) ∨ ((1 ≤ M 189 t ∧ M 189 t ≤ 3) ∧ Sc M c (q + 2 * M 190 t - 1) (6 * t + 3) (M 191 t) ∧ c (q + 2 * M 190 t + 2 * M 191 t - 2) = x_enc 0 (M 189 t + 2)))
def x_oc (s : Int) : Int := if s = -3 then 8 else if s = -1 then 6 else 7
def Kc (M : bM) (c : Int → Int) (s p : Int) (i : Nat) : Prop := (0 ≤ M 188 (100 * p + i) → Xc M c (s + x_q M p i) (12 * p + M 188 (100 * p + i)) ∧ x_dep M p i ≤ 11) ∧ (M 188 (100 * p + i) < 0 → c (s + x_q M p i) = x_enc 0 (x_oc (M 188 (100 * p + i))))
/-- steps from s up to e are those of the reference's proof p -/
def Pc (M : bM) (c : Int → Int) (s e p : Int) : Prop := e = s + x_q M p (M 187 p).toNat ∧ ∀ i : Nat, (i : Int) < M 187 p → Kc M c s p i
/-- ACTS of the class and their proofs -/
def A_code (M : bM) (a : Nat) : Prop := (M (52 + a) 0 = 0 ∧ M 1000 ((62 + a : Nat) : Int) ≤ 1000) ∧ ∀ j, 0 ≤ j → j < M (12 + a) 1 → M (32 + a) j = M 184 (24 * ((a : Int) - 1) + j) * 100 + M 185 (24 * ((a : Int) - 1) + j) ∧ (0 ≤ M 184 (24 * ((a : Int) - 1) + j) ∧ M 184 (24 * ((a : Int) - 1) + j) ≤ 6) ∧ 0 ≤ M (52 + a) j ∧ M (52 + a) (j + 1) ≤ M 1000 ((62 + a : Nat) : Int) ∧ Pc M (M (62 + a)) (M (52 + a) j) (M (52 + a) (j + 1)) (24 * ((a : Int) - 1) + j)
def R_code (M : bM) : Prop := ∀ a : Nat, 1 ≤ a → (a : Int) ≤ M 4 0 → A_code M a
theorem x_mks_0 {M : bM} {k w : Int} : ∀ n : Nat, (∀ i : Nat, i < n → M 205 (12 * k + i) ≠ w) → x_mks M k w n = 0 := by
  intro n
  induction n with
  | zero => intro _; rfl
  | succ n ih =>
    intro h
    show (if M 205 (12 * k + (n : Int)) = w then x_mks M k w n + M 206 (12 * k + (n : Int)) else x_mks M k w n) = 0
    rw [if_neg (h n (by omega)), ih (fun i hi => h i (by omega))]
theorem x_mks_1 {M : bM} {k w : Int} {m : Nat} : ∀ n : Nat, m < n → M 205 (12 * k + m) = w → (∀ i : Nat, i < n → i ≠ m → M 205 (12 * k + i) ≠ w) → x_mks M k w n = M 206 (12 * k + m) := by
  intro n
  induction n with
  | zero => intro h; exact absurd h (by omega)
  | succ n ih =>
    intro h e h2
    show (if M 205 (12 * k + (n : Int)) = w then x_mks M k w n + M 206 (12 * k + (n : Int)) else x_mks M k w n) = _
    by_cases q : n = m
    · rw [q, if_pos e, x_mks_0 m (fun i hi => h2 i (by omega) (by omega))]
      omega
    · rw [if_neg (h2 n (by omega) q), ih (by omega) e (fun i hi => h2 i (by omega))]
/-- memory N at which the steps run: the class's cells as in M but for the stack and the weights -/
def Hm (M N : bM) : Prop := ∀ c j, c ≠ 125 → c ≠ 124 → ((c < 162 ∧ c ≠ 11) ∨ c = 1000) → N c j = M c j
theorem e_X7_mark {M N : bM} {k w : Int} (hN : Hm M N) (hM : R_marks M) (h5 : M 5 0 ≤ 120) (hk : 0 ≤ k ∧ k < M 5 0) : F_X7_mark k w N = some (x_mk M k w) := by
  have n5 := hN 5 0 (by decide) (by decide) (by decide)
  have n119 := hN 119 k (by decide) (by decide) (by decide)
  refine b_eqn ?_
  obtain ⟨m1, m2, m3⟩ := hM k hk.1 hk.2
  have e : x_mk M k w = x_mks M k w (M 207 k).toNat := rfl
  unfold F_X7_mark
  refine b_We (show F_X7_has k N = some 1 by unfold F_X7_has; rw [if_neg (by omega), if_neg (by omega)]) (b_Wf (by decide) (b_Wb (b_wp_m (fun o z => ?_) (b_loop_ind (P := Sum.elim (fun _ : Unit => ∀ i : Nat, (i : Int) < M 119 k → M 205 (12 * k + i) ≠ w) (fun x : Int => x = x_mk M k w)) (I := fun j : Int => (0 ≤ j ∧ j ≤ M 119 k) ∧ ∀ i : Nat, (i : Int) < j → M 205 (12 * k + i) ≠ w) (fun j => (M 119 k - j).toNat) ?_ 0 ⟨by omega, fun i hi => by omega⟩))))
  · rcases o with u | o
    · show b_wp (F_X7_mark_b60 N) _
      unfold F_X7_mark_b60
      have z2 : ∀ i : Nat, (i : Int) < M 119 k → M 205 (12 * k + i) ≠ w := z
      refine b_Ws ?_
      rw [e, x_mks_0 _ (fun i hi => z2 i (by omega))]
    · exact b_Ws z
  · intro j ⟨g1, g2⟩
    unfold F_X7_mark_s13
    rw [n119, hN 120 _ (by decide) (by decide) (by decide), hN 121 _ (by decide) (by decide) (by decide)]
    refine b_Wg (by omega) (b_Wi (fun a => b_Ws (fun i hi => g2 i (by omega))) (fun a => b_Wg (by omega) ?_))
    have mj := m2 j g1.1 (by omega)
    rw [show k * 12 + j = 12 * k + j by omega, ← mj.1, ← mj.2.1]
    refine b_Wi (fun b => b_Wg (by omega) (b_Ws ?_)) (fun b => b_Wg (by omega) (b_Ws ⟨⟨by omega, fun i hi => ?_⟩, by omega⟩))
    · have b2 := j_cmp_0.mp b
      show M 206 (12 * k + j) = _
      have q := x_mks_1 (M := M) (k := k) (w := w) (m := j.toNat) (M 207 k).toNat (by omega) (by rw [show ((j.toNat : Nat) : Int) = j by omega]; exact b2) (fun i hi hne => ?_)
      · rw [e, q, show ((j.toNat : Nat) : Int) = j by omega]
      · rw [← b2, (m2 i (by omega) (by omega)).1, mj.1]
        by_cases lt : (i : Int) < j
        · exact m3 i j (by omega) lt (by omega)
        · exact fun z => m3 j i g1.1 (by omega) (by omega) z.symm
    · by_cases q : (i : Int) = j
      · rw [q]; exact fun z => b (j_cmp_0.mpr z)
      · exact g2 i (by omega)
theorem rn_1 {σ ρ : Type} {f : σ → Option (σ ⊕ ρ)} {s s2 : σ} (h : f s = some (.inl s2)) : b_loop f s = b_loop f s2 := by
  rw [b_loop_eq, h]
  rfl
noncomputable abbrev fH (v0 : Nat) (v1 k : Int) : Int × Int × bM → Option ((Int × Int × bM) ⊕ (Int × bM)) := fun t => F_X0_holds_a_5_125_s11 v0 v1 k t.1 t.2.1 t.2.2
def Hc (M : bM) (v0 : Nat) (v1 k e : Int) (c : Int → Int) : Prop := (12 ≤ v0 ∧ v0 < 22) ∧ (0 ≤ v1 ∧ v1 < 24) ∧ M (v0 + 40) (v1 + 1) = e ∧ e ≤ M 1000 (((v0 + 50) : Nat) : Int) ∧ e ≤ 1000 ∧ M (v0 + 50) = c ∧ R_marks M ∧ M 5 0 ≤ 120 ∧ (0 ≤ k ∧ k < M 5 0)
theorem Hm_u {M N : bM} {n x : Int} (h : Hm M N) : Hm M (b_up N 125 n x) := fun c j hc h4 hl => by rw [b_upc hc]; exact h c j hc h4 hl
theorem ev_term {M N : bM} {v0 : Nat} {v1 k e n q t : Int} {c : Int → Int} (hC : Hc M v0 v1 k e c) (hN : Hm M N) (hq : 0 ≤ q ∧ q < e) (hn : 0 ≤ n ∧ n < 32) (hT : Tc M c q t) : b_loop (fH v0 v1 k) (n, q, N) = b_loop (fH v0 v1 k) (n + 1, q + 1, b_up N 125 n (x_tv M k t)) := by
  obtain ⟨c0, c1, ce, cl, ck, cc, cm, c5, cK⟩ := hC
  refine rn_1 (b_eqn ?_)
  show b_wp (F_X0_holds_a_5_125_s11 v0 v1 k n q N) _
  unfold F_X0_holds_a_5_125_s11
  have e1 : N (v0 + 40) (v1 + 1) = e := by rw [hN _ _ (by omega) (by omega) (by omega)]; exact ce
  have e2 : N (v0 + 50) q = c q := by rw [hN _ _ (by omega) (by omega) (by omega), cc]
  have e3 := hN 1000 (((v0 + 50) : Nat) : Int) (by decide) (by decide) (by decide)
  rw [e1, e2, e3]
  refine b_Wg (by omega) (b_Wf (by omega) (b_Wf (by omega) ?_))
  rcases hT with ⟨t1, t2, t3⟩ | ⟨t1, t2, t3⟩
  · rw [t3, x_en_s (by omega) (by omega), x_en_v (by omega) (by omega)]
    refine b_Wg (by omega) (b_Wl (b_Wg (by omega) (b_Wl (b_Wf (by decide) (b_Wf (by omega) (b_Wt rfl (b_Wg (by omega) ?_)))))))
    unfold F_X0_holds_a_5_125_b95
    refine b_Wg (by omega) (b_Wl (b_Wg (by omega) (b_Ws ?_)))
    unfold x_tv
    rw [if_pos t1, show M 193 t + 0 = M 193 t by omega]
  · rw [t3, x_en_s (by omega) (by omega), x_en_v (by omega) (by omega)]
    refine b_Wg (by omega) (b_Wl (b_Wg (by omega) (b_Wl (b_Wf (by decide) (b_Wf (by omega) (b_Wf (by decide) (b_We (e_X7_mark hN cm c5 cK) ?_)))))))
    unfold F_X0_holds_a_5_125_b95
    refine b_Wg (by omega) (b_Wl (b_Wg (by omega) (b_Ws ?_)))
    unfold x_tv
    rw [if_neg (by omega), t2, show (0 : Int) + x_mk M k (M 192 t) = x_mk M k (M 192 t) by omega]
theorem ev_two {M N : bM} {v0 : Nat} {v1 k e n q s x : Int} {c : Int → Int} (hC : Hc M v0 v1 k e c) (hN : Hm M N) (hq : 0 ≤ q ∧ q < e) (hn : 2 ≤ n ∧ n ≤ 32) (hs : 2 ≤ s ∧ s < 8) (hc : c q = x_enc 0 s) (hx : F_X0_ofTwo s (N 125 (n - 2)) (N 125 (n - 1)) N = some x) : b_loop (fH v0 v1 k) (n, q, N) = b_loop (fH v0 v1 k) (n - 1, q + 1, b_up N 125 (n - 2) x) := by
  obtain ⟨c0, c1, ce, cl, ck, cc, cm, c5, cK⟩ := hC
  refine rn_1 (b_eqn ?_)
  show b_wp (F_X0_holds_a_5_125_s11 v0 v1 k n q N) _
  unfold F_X0_holds_a_5_125_s11
  have e1 : N (v0 + 40) (v1 + 1) = e := by rw [hN _ _ (by omega) (by omega) (by omega)]; exact ce
  have e2 : N (v0 + 50) q = c q := by rw [hN _ _ (by omega) (by omega) (by omega), cc]
  have e3 := hN 1000 (((v0 + 50) : Nat) : Int) (by decide) (by decide) (by decide)
  rw [e1, e2, e3, hc, x_en_s (by omega) (by omega), x_en_v (by omega) (by omega), show n + (-1) - 1 = n - 2 by omega, show n + (-1) = n - 1 by omega]
  exact b_Wg (by omega) (b_Wf (by omega) (b_Wf (by omega) (b_Wg (by omega) (b_Wl (b_Wg (by omega) (b_Wl (b_Wt (by omega) (b_Wt (by omega) (b_Wf (by omega) (b_Wg (by omega) (b_We hx (b_Wg (by omega) (b_Wl (b_Wg (by omega) (b_Ws rfl)))))))))))))))
theorem ev_one {M N : bM} {v0 : Nat} {v1 k e n q s : Int} {c : Int → Int} (hC : Hc M v0 v1 k e c) (hN : Hm M N) (hq : 0 ≤ q ∧ q < e) (hn : 1 ≤ n ∧ n ≤ 32) (hs : s = 8 ∨ s = 9) (hc : c q = x_enc 0 s) : b_loop (fH v0 v1 k) (n, q, N) = b_loop (fH v0 v1 k) (n, q + 1, b_up N 125 (n - 1) (b_01 (0 < N 125 (n - 1) ↔ s = 9))) := by
  obtain ⟨c0, c1, ce, cl, ck, cc, cm, c5, cK⟩ := hC
  refine rn_1 (b_eqn ?_)
  show b_wp (F_X0_holds_a_5_125_s11 v0 v1 k n q N) _
  unfold F_X0_holds_a_5_125_s11
  have e1 : N (v0 + 40) (v1 + 1) = e := by rw [hN _ _ (by omega) (by omega) (by omega)]; exact ce
  have e2 : N (v0 + 50) q = c q := by rw [hN _ _ (by omega) (by omega) (by omega), cc]
  have e3 := hN 1000 (((v0 + 50) : Nat) : Int) (by decide) (by decide) (by decide)
  rw [e1, e2, e3, hc, x_en_s (by omega) (by omega), x_en_v (by omega) (by omega)]
  refine b_Wg (by omega) (b_Wf (by omega) (b_Wf (by omega) (b_Wg (by omega) (b_Wl (b_Wg (by omega) (b_Wl (b_Wt (by omega) (b_Wf (by omega) (b_Wf (by omega) (b_Wg (by omega) ?_))))))))))
  unfold F_X0_holds_a_5_125_b129 F_X0_holds_a_5_125_b151 F_X0_holds_a_5_125_b159
  refine b_Wi (fun a => ?_) (fun a => ?_)
  · refine b_Wg (by omega) (b_Wi (fun b => b_Wf (by decide) (b_Wg (by omega) (b_Wl (b_Wg (by omega) (b_Ws ?_))))) (fun b => b_Wt rfl (b_Wg (by omega) (b_Wl (b_Wg (by omega) (b_Ws ?_))))))
    · rw [b_01_0.mpr (fun z => by have := z.mpr b; omega)]
    · rw [b_01_1.mpr ⟨fun z => by omega, fun z => absurd z b⟩]
  · refine b_Wg (by omega) (b_Wi (fun b => b_Wt rfl (b_Wg (by omega) (b_Wl (b_Wg (by omega) (b_Ws ?_))))) (fun b => b_Wf (by decide) (b_Wg (by omega) (b_Wl (b_Wg (by omega) (b_Ws ?_))))))
    · rw [b_01_1.mpr ⟨fun z => b, fun z => by omega⟩]
    · rw [b_01_0.mpr (fun z => b (z.mp (by omega)))]
theorem x_tv_R {M : bM} {k t : Int} (hM : R_marks M) (hk : 0 ≤ k ∧ k < M 5 0) {c : Int → Int} {q : Int} (hT : Tc M c q t) : 0 ≤ x_tv M k t ∧ x_tv M k t ≤ 140000 := by
  obtain ⟨m1, m2, m3⟩ := hM k hk.1 hk.2
  refine x_tv_r (by rw [m1.1]; exact m1.2) (fun i a b => ?_) (by rcases hT with h | h <;> omega)
  rw [(m2 i a (by omega)).2.1]
  exact (m2 i a (by omega)).2.2
theorem e_two_add {a b : Int} {N : bM} (h : b_i32 (a + b)) : F_X0_ofTwo 2 a b N = some (a + b) := b_eqn (by unfold F_X0_ofTwo; exact b_Wt rfl (b_Wg h (b_Ws rfl)))
theorem ev_sum {M N : bM} {v0 : Nat} {v1 k e n q f m : Int} {c : Int → Int} (hC : Hc M v0 v1 k e c) (hN : Hm M N) (hq : 0 ≤ q ∧ q + 2 * m - 1 ≤ e) (hn : 0 ≤ n ∧ n < 30) (hS : Sc M c q f m) : ∃ P, b_loop (fH v0 v1 k) (n, q, N) = b_loop (fH v0 v1 k) (n + 1, q + 2 * m - 1, P) ∧ Hm M P ∧ (∀ j, j < n → P 125 j = N 125 j) ∧ P 125 n = x_sv M k f m ∧ (0 ≤ x_sv M k f m ∧ x_sv M k f m ≤ 420000) := by
  obtain ⟨s0, s1, s2, s3⟩ := hS
  have cm := hC.2.2.2.2.2.2.1
  have cK := hC.2.2.2.2.2.2.2.2
  have r1 := x_tv_R cm cK s1
  have g1 := ev_term hC hN (n := n) (by omega) (by omega) s1
  by_cases m1 : m = 1
  · refine ⟨_, g1.trans (by rw [m1, show q + 2 * 1 - 1 = q + 1 by omega]), Hm_u hN, fun j hj => b_upi (by omega), ?_, ?_⟩
    · rw [b_ups, m1]
      show x_tv M k f = 0 + x_tv M k (f + ((0 : Nat) : Int))
      rw [show f + ((0 : Nat) : Int) = f by omega]; omega
    · rw [m1]
      show 0 ≤ 0 + x_tv M k (f + ((0 : Nat) : Int)) ∧ 0 + x_tv M k (f + ((0 : Nat) : Int)) ≤ _
      rw [show f + ((0 : Nat) : Int) = f by omega]; omega
  · obtain ⟨u1, u2⟩ := s2 (by omega)
    have r2 := x_tv_R cm cK u1
    have g2 := ev_term hC (Hm_u (n := n) (x := x_tv M k f) hN) (n := n + 1) (by omega) (by omega) u1
    have g3 := ev_two hC (Hm_u (n := n + 1) (x := x_tv M k (f + 1)) (Hm_u (n := n) (x := x_tv M k f) hN)) (n := n + 1 + 1) (q := q + 1 + 1) (s := 2) (x := x_tv M k f + x_tv M k (f + 1)) (by omega) (by omega) (by decide) (by rw [show q + 1 + 1 = q + 2 by omega]; exact u2) (by
      rw [show n + 1 + 1 - 2 = n by omega, show n + 1 + 1 - 1 = n + 1 by omega, b_ups, b_upi (by omega), b_ups]
      exact e_two_add (by omega))
    rw [show n + 1 + 1 - 2 = n by omega, show n + 1 + 1 - 1 = n + 1 by omega] at g3
    generalize hP : b_up (b_up (b_up N 125 n (x_tv M k f)) 125 (n + 1) (x_tv M k (f + 1))) 125 n (x_tv M k f + x_tv M k (f + 1)) = P at g3
    have hPm : Hm M P := by subst hP; exact Hm_u (Hm_u (Hm_u hN))
    have p1 : ∀ j, j < n → P 125 j = N 125 j := fun j hj => by subst hP; rw [b_upi (by omega), b_upi (by omega), b_upi (by omega)]
    have p2 : P 125 n = x_tv M k f + x_tv M k (f + 1) := by subst hP; exact b_ups
    clear hP
    have g := g1.trans (g2.trans g3)
    by_cases m2 : m = 2
    · refine ⟨P, g.trans (by rw [m2, show q + 2 * 2 - 1 = q + 1 + 1 + 1 by omega]), hPm, p1, ?_, ?_⟩
      · rw [p2, m2]
        show _ = 0 + x_tv M k (f + ((0 : Nat) : Int)) + x_tv M k (f + ((1 : Nat) : Int))
        rw [show f + ((0 : Nat) : Int) = f by omega, show f + ((1 : Nat) : Int) = f + 1 by omega]; omega
      · rw [m2]
        show 0 ≤ 0 + x_tv M k (f + ((0 : Nat) : Int)) + x_tv M k (f + ((1 : Nat) : Int)) ∧ 0 + x_tv M k (f + ((0 : Nat) : Int)) + x_tv M k (f + ((1 : Nat) : Int)) ≤ _
        rw [show f + ((0 : Nat) : Int) = f by omega, show f + ((1 : Nat) : Int) = f + 1 by omega]; omega
    · obtain ⟨w1, w2⟩ := s3 (by omega)
      have r3 := x_tv_R cm cK w1
      have g4 := ev_term hC hPm (n := n + 1) (q := q + 1 + 1 + 1) (by omega) (by omega) (by rw [show q + 1 + 1 + 1 = q + 3 by omega]; exact w1)
      have g5 := ev_two hC (Hm_u (n := n + 1) (x := x_tv M k (f + 2)) hPm) (n := n + 1 + 1) (q := q + 1 + 1 + 1 + 1) (s := 2) (x := x_tv M k f + x_tv M k (f + 1) + x_tv M k (f + 2)) (by omega) (by omega) (by decide) (by rw [show q + 1 + 1 + 1 + 1 = q + 4 by omega]; exact w2) (by
        rw [show n + 1 + 1 - 2 = n by omega, show n + 1 + 1 - 1 = n + 1 by omega, b_ups, b_upi (by omega), p2]
        exact e_two_add (by omega))
      rw [show n + 1 + 1 - 2 = n by omega, show n + 1 + 1 - 1 = n + 1 by omega] at g5
      refine ⟨_, (g.trans (g4.trans g5)).trans (by rw [show m = 3 by omega, show q + 2 * 3 - 1 = q + 1 + 1 + 1 + 1 + 1 by omega]), Hm_u (Hm_u hPm), fun j hj => by rw [b_upi (by omega), b_upi (by omega)]; exact p1 j hj, ?_, ?_⟩
      · rw [b_ups, show m = 3 by omega]
        show _ = 0 + x_tv M k (f + ((0 : Nat) : Int)) + x_tv M k (f + ((1 : Nat) : Int)) + x_tv M k (f + ((2 : Nat) : Int))
        rw [show f + ((0 : Nat) : Int) = f by omega, show f + ((1 : Nat) : Int) = f + 1 by omega, show f + ((2 : Nat) : Int) = f + 2 by omega]; omega
      · rw [show m = 3 by omega]
        show 0 ≤ 0 + x_tv M k (f + ((0 : Nat) : Int)) + x_tv M k (f + ((1 : Nat) : Int)) + x_tv M k (f + ((2 : Nat) : Int)) ∧ 0 + x_tv M k (f + ((0 : Nat) : Int)) + x_tv M k (f + ((1 : Nat) : Int)) + x_tv M k (f + ((2 : Nat) : Int)) ≤ _
        rw [show f + ((0 : Nat) : Int) = f by omega, show f + ((1 : Nat) : Int) = f + 1 by omega, show f + ((2 : Nat) : Int) = f + 2 by omega]; omega
theorem ev_test {M N : bM} {v0 : Nat} {v1 k e n q t : Int} {c : Int → Int} (hC : Hc M v0 v1 k e c) (hN : Hm M N) (hq : 0 ≤ q ∧ q + x_ln M t ≤ e) (hn : 0 ≤ n ∧ n < 29) (hX : Xc M c q t) : ∃ P, b_loop (fH v0 v1 k) (n, q, N) = b_loop (fH v0 v1 k) (n + 1, q + x_ln M t, P) ∧ Hm M P ∧ (∀ j, j < n → P 125 j = N 125 j) ∧ P 125 n = x_tb M k t := by
  obtain ⟨hS, h2⟩ := hX
  have hm := hS.1
  unfold x_ln at hq ⊢
  rcases h2 with ⟨o0, oc⟩ | ⟨o0, hS2, oc⟩
  · rw [if_pos o0] at hq ⊢
    obtain ⟨P, g1, p1, p2, p3, p4⟩ := ev_sum hC hN (n := n) (by omega) (by omega) hS
    have g2 := ev_one hC p1 (n := n + 1) (q := q + 2 * M 190 t - 1) (s := 9) (by omega) (by omega) (Or.inr rfl) oc
    rw [show n + 1 - 1 = n by omega] at g2
    refine ⟨_, (g1.trans g2).trans (by rw [show q + 2 * M 190 t - 1 + 1 = q + (2 * M 190 t + 0) by omega]), Hm_u p1, fun j hj => by rw [b_upi (by omega)]; exact p2 j hj, ?_⟩
    rw [b_ups, p3]
    unfold x_tb
    rw [if_pos o0]
    by_cases z : 0 < x_sv M k (6 * t) (M 190 t)
    · rw [b_01_1.mpr z, b_01_1.mpr ⟨fun _ => rfl, fun _ => z⟩]
    · rw [b_01_0.mpr z, b_01_0.mpr (fun y => z (y.mpr rfl))]
  · rw [if_neg (by omega)] at hq ⊢
    have hm2 := hS2.1
    obtain ⟨P, g1, p1, p2, p3, p4⟩ := ev_sum hC hN (n := n) (by omega) (by omega) hS
    obtain ⟨Q, g2, q1, q2, q3, q4⟩ := ev_sum hC p1 (n := n + 1) (by omega) (by omega) hS2
    have hx : F_X0_ofTwo (M 189 t + 2) (Q 125 n) (Q 125 (n + 1)) Q = some (x_tb M k t) := by
      rw [q2 n (by omega), p3, q3]
      refine b_eqn ?_
      unfold F_X0_ofTwo x_tb
      rw [if_neg (show ¬ M 189 t = 0 by omega)]
      refine b_Wf (by omega) ?_
      by_cases a1 : M 189 t = 1
      · rw [if_pos a1]
        exact b_Wt (by omega) (b_Wi (fun z => b_Ws (b_01_0.mpr (by omega)).symm) (fun z => b_Ws (b_01_1.mpr (by omega)).symm))
      · rw [if_neg a1]
        refine b_Wf (by omega) ?_
        by_cases a2 : M 189 t = 2
        · rw [if_pos a2]
          exact b_Wt (by omega) (b_Wi (fun z => b_Ws (b_01_0.mpr (by omega)).symm) (fun z => b_Ws (b_01_1.mpr (by omega)).symm))
        · rw [if_neg a2]
          exact b_Wf (by omega) (b_Wt (by omega) (b_Wi (fun z => b_Ws (b_01_1.mpr z).symm) (fun z => b_Ws (b_01_0.mpr z).symm)))
    have g3 := ev_two hC q1 (n := n + 1 + 1) (q := q + 2 * M 190 t - 1 + 2 * M 191 t - 1) (s := M 189 t + 2) (x := x_tb M k t) (by omega) (by omega) (by omega) (by rw [show q + 2 * M 190 t - 1 + 2 * M 191 t - 1 = q + 2 * M 190 t + 2 * M 191 t - 2 by omega]; exact oc) (by rw [show n + 1 + 1 - 2 = n by omega, show n + 1 + 1 - 1 = n + 1 by omega]; exact hx)
    rw [show n + 1 + 1 - 2 = n by omega, show n + 1 + 1 - 1 = n + 1 by omega] at g3
    refine ⟨_, (g1.trans (g2.trans g3)).trans (by rw [show q + 2 * M 190 t - 1 + 2 * M 191 t - 1 + 1 = q + (2 * M 190 t + (2 * M 191 t - 1)) by omega]), Hm_u q1, fun j hj => by rw [b_upi (by omega), q2 j (by omega)]; exact p2 j hj, b_ups⟩
theorem x_q_s {M : bM} {p : Int} {i : Nat} : x_q M p (i + 1) = x_q M p i + x_sl M p i := rfl
theorem x_dep_s {M : bM} {p : Int} {i : Nat} : x_dep M p (i + 1) = x_d1 M p i (x_dep M p i) := rfl
theorem x_hs_s {M : bM} {p k : Int} {i : Nat} : x_hs M p k (i + 1) = x_h1 M p k i (x_hs M p k i) := rfl
theorem x_sl_r {M : bM} {c : Int → Int} {s e p : Int} (hP : Pc M c s e p) {i : Nat} (hi : (i : Int) < M 187 p) : 1 ≤ x_sl M p i := by
  unfold x_sl
  by_cases a : 0 ≤ M 188 (100 * p + (i : Int))
  · rw [if_pos a]
    have h := (hP.2 i hi).1 a
    obtain ⟨⟨⟨h1, _⟩, h2⟩, _⟩ := h
    unfold x_ln
    rcases h2 with y | y
    · rw [if_pos y.1]; omega
    · rw [if_neg (by omega)]; have := y.2.1.1; omega
  · rw [if_neg a]; omega
theorem x_q_m {M : bM} {c : Int → Int} {s e p : Int} (hP : Pc M c s e p) : ∀ n : Nat, ∀ i : Nat, ((i + n : Nat) : Int) ≤ M 187 p → x_q M p i + n ≤ x_q M p (i + n) := by
  intro n
  induction n with
  | zero => intro i _; rw [show i + 0 = i by omega]; omega
  | succ n ih =>
    intro i h
    have h1 := ih i (by omega)
    have h2 := x_sl_r hP (i := i + n) (by omega)
    rw [show i + (n + 1) = i + n + 1 by omega, x_q_s]
    omega
theorem ev_prog {M N : bM} {v0 : Nat} {v1 k e s p : Int} {c : Int → Int} (hC : Hc M v0 v1 k e c) (hN : Hm M N) (hs : 0 ≤ s) (hP : Pc M c s e p) (hW : W_prog M p) : ∀ i : Nat, (i : Int) ≤ M 187 p → (0 ≤ x_dep M p i ∧ x_dep M p i ≤ 12) ∧ ∃ P, b_loop (fH v0 v1 k) (0, s, N) = b_loop (fH v0 v1 k) (x_dep M p i, s + x_q M p i, P) ∧ Hm M P ∧ ∀ j, 0 ≤ j → j < x_dep M p i → P 125 j = (x_hs M p k i).2 j ∧ ((x_hs M p k i).2 j = 0 ∨ (x_hs M p k i).2 j = 1) := by
  intro i
  induction i with
  | zero =>
    intro _
    refine ⟨⟨Int.le_refl 0, show (0 : Int) ≤ 12 by decide⟩, N, ?_, hN, fun j h1 h2 => ?_⟩
    · rw [show s + x_q M p 0 = s from (by show s + 0 = s; omega)]; rfl
    · exact absurd h2 (show ¬ j < 0 by omega)
  | succ i ih =>
    intro hi
    obtain ⟨d1, P, g, p1, p2⟩ := ih (by omega)
    have hK := hP.2 i (by omega)
    obtain ⟨w1, w2, w3, w4⟩ := hW
    obtain ⟨v1', v2, v3, v4, v5⟩ := w3 i (by omega)
    have sr := x_sl_r hP (i := i) (by omega)
    have qm := x_q_m hP i 0 (by omega)
    rw [show 0 + i = i by omega] at qm
    have q0 : x_q M p 0 = 0 := rfl
    have qe := x_q_m hP ((M 187 p).toNat - (i + 1)) (i + 1) (by omega)
    rw [show i + 1 + ((M 187 p).toNat - (i + 1)) = (M 187 p).toNat by omega, x_q_s] at qe
    have he := hP.1
    have dh := x_dep_hs (M := M) (p := p) (k := k) i
    rw [x_q_s, x_dep_s, x_hs_s]
    unfold x_d1 x_h1
    unfold x_sl at sr qe ⊢
    by_cases a : 0 ≤ M 188 (100 * p + (i : Int))
    · rw [if_pos a] at sr qe ⊢
      rw [if_pos a, if_pos a]
      obtain ⟨hX, hd⟩ := hK.1 a
      obtain ⟨Q, g2, e1, e2, e3⟩ := ev_test hC p1 (n := x_dep M p i) (q := s + x_q M p i) (by omega) (by omega) hX
      refine ⟨by omega, Q, (g.trans g2).trans (by rw [show s + x_q M p i + x_ln M (12 * p + M 188 (100 * p + (i : Int))) = s + (x_q M p i + x_ln M (12 * p + M 188 (100 * p + (i : Int)))) by omega]), e1, fun j h1 h2 => ?_⟩
      dsimp only
      rw [dh]
      unfold z_up
      by_cases ej : j = x_dep M p i
      · rw [if_pos ej, ej]
        exact ⟨e3, x_tb_b⟩
      · rw [if_neg ej, e2 j (by omega)]
        exact p2 j h1 (by omega)
    · rw [if_neg a] at sr qe ⊢
      rw [if_neg a, if_neg a]
      have hc := hK.2 (by omega)
      unfold x_oc at hc
      by_cases b3 : M 188 (100 * p + (i : Int)) = -3
      · rw [if_pos b3] at hc
        rw [if_pos b3, if_pos b3]
        have dd := v3 b3
        have g2 := ev_one hC p1 (n := x_dep M p i) (q := s + x_q M p i) (s := 8) (by omega) (by omega) (Or.inl rfl) hc
        refine ⟨d1, _, (g.trans g2).trans (by rw [show s + x_q M p i + 1 = s + (x_q M p i + 1) by omega]), Hm_u p1, fun j h1 h2 => ?_⟩
        dsimp only
        rw [dh]
        unfold z_up
        by_cases ej : j = x_dep M p i - 1
        · rw [ej, b_ups, if_pos rfl]
          have t := p2 (x_dep M p i - 1) (by omega) (by omega)
          refine ⟨?_, b_01_b⟩
          rcases t.2 with y | y
          · rw [b_01_1.mpr y, b_01_1.mpr ⟨fun z => by omega, fun z => by omega⟩]
          · exact (b_01_0.mpr (fun z => absurd (z.mp (by omega)) (by decide))).trans (b_01_0.mpr (by omega)).symm
        · rw [b_upi ej, if_neg ej]
          exact p2 j h1 h2
      · rw [if_neg b3] at hc
        rw [if_neg b3, if_neg b3]
        have dd : 2 ≤ x_dep M p i := by
          by_cases b1 : M 188 (100 * p + (i : Int)) = -1
          · exact v4 b1
          · exact v5 (by omega)
        have t1 := p2 (x_dep M p i - 2) (by omega) (by omega)
        have t2 := p2 (x_dep M p i - 1) (by omega) (by omega)
        by_cases b1 : M 188 (100 * p + (i : Int)) = -1
        · rw [if_pos b1] at hc
          rw [if_pos b1]
          have hx : F_X0_ofTwo 6 (P 125 (x_dep M p i - 2)) (P 125 (x_dep M p i - 1)) P = some (b_01 ((x_hs M p k i).2 (x_dep M p i - 2) ≠ 0 ∧ (x_hs M p k i).2 (x_dep M p i - 1) ≠ 0)) := by
            rw [t1.1, t2.1]
            refine b_eqn ?_
            unfold F_X0_ofTwo
            refine b_Wf (by decide) (b_Wf (by decide) (b_Wf (by decide) (b_Wf (by decide) (b_Wt rfl (b_Ws ?_)))))
            rcases t1.2 with y1 | y1 <;> rcases t2.2 with y2 | y2 <;> rw [y1, y2]
            · rw [b_01_0.mpr (by decide)]; decide
            · rw [b_01_0.mpr (by decide)]; decide
            · rw [b_01_0.mpr (by decide)]; decide
            · rw [b_01_1.mpr (by decide)]; decide
          have g2 := ev_two hC p1 (n := x_dep M p i) (q := s + x_q M p i) (s := 6) (by omega) (by omega) (by decide) hc hx
          refine ⟨by omega, _, (g.trans g2).trans (by rw [show s + x_q M p i + 1 = s + (x_q M p i + 1) by omega]), Hm_u p1, fun j h1 h2 => ?_⟩
          dsimp only
          rw [dh]
          unfold z_up
          by_cases ej : j = x_dep M p i - 2
          · rw [ej, b_ups, if_pos rfl]
            exact ⟨rfl, b_01_b⟩
          · rw [b_upi ej, if_neg ej]
            exact p2 j h1 (by omega)
        · rw [if_neg b1] at hc
          rw [if_neg b1]
          have hx : F_X0_ofTwo 7 (P 125 (x_dep M p i - 2)) (P 125 (x_dep M p i - 1)) P = some (b_01 ((x_hs M p k i).2 (x_dep M p i - 2) ≠ 0 ∨ (x_hs M p k i).2 (x_dep M p i - 1) ≠ 0)) := by
            rw [t1.1, t2.1]
            refine b_eqn ?_
            unfold F_X0_ofTwo
            refine b_Wf (by decide) (b_Wf (by decide) (b_Wf (by decide) (b_Wf (by decide) (b_Wf (by decide) (b_Ws ?_)))))
            rcases t1.2 with y1 | y1 <;> rcases t2.2 with y2 | y2 <;> rw [y1, y2]
            · rw [b_01_0.mpr (by decide)]; decide
            · rw [b_01_1.mpr (by decide)]; decide
            · rw [b_01_1.mpr (by decide)]; decide
            · rw [b_01_1.mpr (by decide)]; decide
          have g2 := ev_two hC p1 (n := x_dep M p i) (q := s + x_q M p i) (s := 7) (by omega) (by omega) (by decide) hc hx
          refine ⟨by omega, _, (g.trans g2).trans (by rw [show s + x_q M p i + 1 = s + (x_q M p i + 1) by omega]), Hm_u p1, fun j h1 h2 => ?_⟩
          dsimp only
          rw [dh]
          unfold z_up
          by_cases ej : j = x_dep M p i - 2
          · rw [ej, b_ups, if_pos rfl]
            exact ⟨rfl, b_01_b⟩
          · rw [b_upi ej, if_neg ej]
            exact p2 j h1 (by omega)
theorem t_holds {M N : bM} {v0 : Nat} {v1 k e s p : Int} {c : Int → Int} (hC : Hc M v0 v1 k e c) (hN : Hm M N) (hs : 0 ≤ s) (h40 : M (v0 + 40) v1 = s) (hP : Pc M c s e p) (hW : W_prog M p) (h7 : 0 < M 187 p) : b_wp (F_X0_holds_a_5_125 v0 v1 k N) (fun o => o.1 = x_hold M p k ∧ (o.1 = 0 ∨ o.1 = 1) ∧ Hm M o.2) := by
  obtain ⟨d1, P, g, p1, p2⟩ := ev_prog hC hN hs hP hW (M 187 p).toNat (by omega)
  obtain ⟨c0, c1, ce, cl, ck, cc, cm, c5, cK⟩ := hC
  have wd := hW.2.2.2 h7
  have t := p2 0 (Int.le_refl 0) (by omega)
  have hh : x_hold M p k = (x_hs M p k (M 187 p).toNat).2 0 := by unfold x_hold; rw [if_neg (by omega)]
  unfold F_X0_holds_a_5_125
  rw [hN (v0 + 40) v1 (by omega) (by omega) (by omega), h40]
  refine b_Wg (by omega) (b_Wl (b_Wb ?_))
  show b_wp (b_loop (fH v0 v1 k) (0, s, N)) _
  rw [g, ← hP.1]
  refine b_Wloop ?_
  show b_wp (F_X0_holds_a_5_125_s11 v0 v1 k (x_dep M p (M 187 p).toNat) e P) _
  unfold F_X0_holds_a_5_125_s11
  have e1 : P (v0 + 40) (v1 + 1) = e := by rw [p1 _ _ (by omega) (by omega) (by omega)]; exact ce
  rw [e1]
  refine b_Wg (by omega) (b_Wt (Int.le_refl _) (b_Ws (b_Ws ?_)))
  show b_wp (F_X0_holds_a_5_125_b202 (x_dep M p (M 187 p).toNat) P) _
  unfold F_X0_holds_a_5_125_b202
  rw [hh, t.1]
  refine b_Wf (by omega) (b_Wi (fun z => b_Ws ⟨?_, Or.inl rfl, p1⟩) (fun z => b_Ws ⟨?_, Or.inr rfl, p1⟩))
  · show (0 : Int) = _
    rcases t.2 with y | y <;> omega
  · show (1 : Int) = _
    rcases t.2 with y | y <;> omega
