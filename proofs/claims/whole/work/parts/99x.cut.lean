/-- the bytes of the class's tape -/
def cb (M : bM) : Int → Int := fun p => if 0 ≤ p ∧ p < M 1 1 then i_and (M 72 p) 255 else -1
theorem cb_B {M : bM} (h : R_tape M) : z_B (cb M) (M 1 1) := by
  obtain ⟨h1, h2, h3, h4, h5⟩ := h
  refine ⟨⟨h2, h3⟩, fun p hp => if_neg (by omega), fun p p0 p1 => ?_⟩
  have e : cb M p = i_and (M 72 p) 255 := if_pos ⟨p0, p1⟩
  have hy := h5 p
  rw [e, i_and_b hy]
  split <;> omega
theorem e_byteAt {M : bM} {p : Int} (h : M 1 1 ≤ 1000) : F_X10_byteAt p M = some (cb M p) := by
  refine b_eqn ?_
  unfold F_X10_byteAt cb
  refine b_Wi (fun q => b_Ws (if_neg (by omega)).symm) (fun q => b_Wi (fun q1 => b_Ws (if_neg (by omega)).symm) (fun q1 => b_Wf (by omega) (b_Wg (by omega) (b_Ws (if_pos (by omega)).symm))))
theorem j_wl {v d : Int} (hv : 0 ≤ v ∧ v < 36028797018963968) (hd : 0 ≤ d ∧ d < 32) : j_or (j_shl v 5) d = 32 * v + d := by
  obtain ⟨n, rfl⟩ := Int.eq_ofNat_of_zero_le hv.1
  obtain ⟨m, rfl⟩ := Int.eq_ofNat_of_zero_le hd.1
  unfold j_or j_shl
  rw [Int64.ofInt_toInt]
  have e : Int64.ofInt (n : Int) <<< ((Int32.ofInt 5).toInt64 &&& 63) ||| Int64.ofInt (m : Int) = Int64.ofInt (32 * (n : Int) + m) := by
    refine Int64.toBitVec_inj.mp ?_
    rw [Int64.toBitVec_or, Int64.toBitVec_shiftLeft]
    have s5 : (((Int32.ofInt 5).toInt64 &&& 63).toBitVec.smod 64).toNat = 5 := j_sm 5 (by decide)
    generalize ((Int32.ofInt 5).toInt64 &&& 63).toBitVec.smod 64 = y at s5
    rw [BitVec.shiftLeft_eq', s5]
    show BitVec.ofInt 64 (n : Int) <<< 5 ||| BitVec.ofInt 64 (m : Int) = BitVec.ofInt 64 (32 * (n : Int) + m)
    rw [show (32 * (n : Int) + m) = ((32 * n + m : Nat) : Int) by omega, BitVec.ofInt_natCast, BitVec.ofInt_natCast, BitVec.ofInt_natCast]
    refine BitVec.eq_of_toNat_eq ?_
    rw [BitVec.toNat_or, BitVec.toNat_shiftLeft, BitVec.toNat_ofNat, BitVec.toNat_ofNat, BitVec.toNat_ofNat, Nat.shiftLeft_eq]
    have e1 : n % 2 ^ 64 = n := Nat.mod_eq_of_lt (by omega)
    have e2 : m % 2 ^ 64 = m := Nat.mod_eq_of_lt (by omega)
    have e3 : (32 * n + m) % 2 ^ 64 = 32 * n + m := Nat.mod_eq_of_lt (by omega)
    have e4 : n * 2 ^ 5 % 2 ^ 64 = 2 ^ 5 * n := by rw [Nat.mul_comm]; exact Nat.mod_eq_of_lt (by omega)
    rw [e1, e2, e3, e4, ← Nat.two_pow_add_eq_or_of_lt (by omega)]
  rw [e]
  exact to64 (by unfold b_r64; omega)
theorem z_pw12 : ∀ k : Nat, k < 12 → (32 : Int) ^ k ≤ 36028797018963968 := by decide +kernel
theorem e_isBlank {M : bM} {x : Int} : F_X10_isBlank x M = some (b_01 (x = 32 ∨ x = 10)) := by
  refine b_eqn ?_
  unfold F_X10_isBlank
  exact b_Wi (fun a => b_Ws (b_01_1.mpr (Or.inl a)).symm) (fun a => b_Wi (fun b => b_Ws (b_01_1.mpr (Or.inr b)).symm) (fun b => b_Ws (b_01_0.mpr (fun z => by rcases z with z | z; exact a z; exact b z)).symm))
theorem e_isSignByte {M : bM} {x : Int} : F_X10_isSignByte x M = some (b_01 (z_sg x)) := by
  refine b_eqn ?_
  unfold F_X10_isSignByte
  exact b_Wi (fun a => b_Ws (b_01_1.mpr (Or.inl a)).symm) (fun a => b_Wi (fun b => b_Ws (b_01_1.mpr (Or.inr (Or.inl b))).symm) (fun b => b_Wi (fun d => b_Ws (b_01_1.mpr (Or.inr (Or.inr (Or.inl d)))).symm) (fun d => b_Wi (fun e => b_Ws (b_01_1.mpr (Or.inr (Or.inr (Or.inr (Or.inl e))))).symm) (fun e => b_Wi (fun f => b_Ws (b_01_1.mpr (Or.inr (Or.inr (Or.inr (Or.inr f))))).symm) (fun f => b_Ws (b_01_0.mpr (fun z => by rcases z with z | z | z | z | z <;> omega)).symm)))))
/-- nothing but the value is changed -/
def Cq (M N : bM) : Prop := ∀ z j, ¬ (z = 1 ∧ j = 4) → N z j = M z j
theorem cb_c {M N : bM} (h1 : N 1 1 = M 1 1) (h2 : N 72 = M 72) : cb N = cb M := by
  unfold cb
  rw [h1, h2]
theorem cb_q {M N : bM} (h : Cq M N) : cb N = cb M := cb_c (h 1 1 (by decide)) (funext fun i => h 72 i (by omega))
/-- over blanks -/
theorem t_blank {M : bM} {p : Int} {c : Int → Int} {n : Int} (hB : z_B c n) (hc : cb M = c) (hn : M 1 1 = n) (hp : 0 ≤ p ∧ p ≤ n) : b_wp (b_loop (fun t : Int => F_X10_step_s5 t M) p) (fun q => q = t_q c p) := by
  have b := hB.1
  refine b_loop_ind (I := fun q : Int => (p ≤ q ∧ q ≤ n) ∧ ∀ j, p ≤ j → j < q → z_bl c j = true) (fun q => (n - q).toNat) ?_ p ⟨by omega, fun j j1 j2 => by omega⟩
  intro q ⟨h1, h3⟩
  unfold F_X10_step_s5
  rw [hn]
  have fin : z_bl c q = false → q = t_q c p := fun z => z_run_u ⟨h1.1, h3, z⟩ (t_q_p hB hp.1)
  refine b_Wi (fun a => b_Ws (fin (z_bl_n hB q a))) (fun a => b_We (e_byteAt (by omega)) (b_We e_isBlank (b_Wi (fun a1 => b_Ws (fin ?_)) (fun a1 => b_Wg (by omega) (b_Ws ⟨⟨by omega, fun j j1 j2 => ?_⟩, by omega⟩)))))
  · rw [b_01_0, hc] at a1
    exact decide_eq_false a1
  · rw [b_01_0] at a1
    have a2 := Decidable.of_not_not a1
    rw [hc] at a2
    by_cases z : j = q
    · rw [z]; exact decide_eq_true a2
    · exact h3 j j1 (by omega)
theorem t_cutWord {M : bM} {q : Int} {c : Int → Int} {n : Int} (hB : z_B c n) (hc : cb M = c) (hn : M 1 1 = n) (hq : 0 ≤ q ∧ q ≤ n) (h40 : M 1 4 = 0) : b_wp (b_loop (fun t : Int × bM => F_X10_step_s50 q t.1 t.2) (q, M)) (fun o => o.1 = z_run (z_sm c) 1001 q ∧ Cq M o.2 ∧ (o.1 - q ≤ 12 → o.2 1 4 = z_wd c q (o.1 - q).toNat)) := by
  have b := hB.1
  refine b_loop_ind (I := fun t : Int × bM => (q ≤ t.1 ∧ t.1 ≤ n) ∧ (∀ j, q ≤ j → j < t.1 → z_sm c j = true) ∧ Cq M t.2 ∧ (t.1 - q ≤ 12 → t.2 1 4 = z_wd c q (t.1 - q).toNat)) (fun t => (n - t.1).toNat) ?_ (q, M) ⟨by dsimp only; omega, fun j j1 j2 => by dsimp only at j2; omega, fun _ _ _ => rfl, fun _ => by dsimp only; rw [h40, show q - q = 0 by omega]; rfl⟩
  intro ⟨to, N⟩ ⟨h1, h3, hC, h5⟩
  dsimp only at h1 h3 hC h5 ⊢
  have n1 : N 1 1 = n := (hC 1 1 (by decide)).trans hn
  have cN : cb N = c := (cb_q hC).trans hc
  unfold F_X10_step_s50 F_X10_withLetter
  have fin : z_sm c to = false → to = z_run (z_sm c) 1001 q ∧ Cq M N ∧ (to - q ≤ 12 → N 1 4 = z_wd c q (to - q).toNat) := fun z => ⟨z_run_u ⟨h1.1, h3, z⟩ (z_run_p (z_sm_n hB) 1001 q (by omega)), hC, h5⟩
  refine b_Wi (fun a => b_Ws (fin (z_sm_n hB to (by omega)))) (fun a => b_We (e_byteAt (by omega)) (b_We e_X10_isLetter (b_Wi (fun a1 => b_Ws (fin ?_)) (fun a1 => b_We (e_byteAt (by omega)) ?_))))
  · rw [b_01_0, cN] at a1
    exact decide_eq_false a1
  rw [b_01_0] at a1
  have a2 := Decidable.of_not_not a1
  rw [cN] at a2 ⊢
  have lt := z_lt (z_sm_n hB) (p := to) (decide_eq_true a2)
  refine b_Wb (b_Wg (by omega) (b_Ws (b_Wl (b_Wg (by omega) (b_Ws ⟨⟨by dsimp only; omega, fun j j1 j2 => ?_, fun z j hz => ?_, fun y => ?_⟩, by dsimp only; omega⟩)))))
  · dsimp only at j2
    by_cases z : j = to
    · rw [z]; exact decide_eq_true a2
    · exact h3 j j1 (by omega)
  · dsimp only
    have e : ∀ x, b_up N 1 4 x z j = N z j := fun x => if_neg hz
    rw [e]; exact hC z j hz
  · dsimp only at y ⊢
    rw [b_ups]
    have e := h5 (by omega)
    have r := z_wd_r (c := c) (p := q) (to - q).toNat (fun j hj => by
      have := h3 (q + j) (by omega) (by omega)
      exact of_decide_eq_true this)
    have p12 := z_pw12 (to - q).toNat (by omega)
    rw [show (to + 1 - q).toNat = (to - q).toNat + 1 by omega]
    show _ = 32 * z_wd c q (to - q).toNat + (c (q + ((to - q).toNat : Int)) - 96)
    rw [show q + ((to - q).toNat : Int) = to by omega, e, j_wl (by omega) (by omega)]
    omega
theorem t_cutNum {M : bM} {q : Int} {c : Int → Int} {n : Int} (hB : z_B c n) (hc : cb M = c) (hn : M 1 1 = n) (hq : 0 ≤ q ∧ q ≤ n) (h40 : M 1 4 = 0) : b_wp (b_loop (fun t : Int × bM => F_X10_step_s118 q t.1 t.2) (q, M)) (fun o => o.1 = z_run (z_dg c) 1001 q ∧ Cq M o.2 ∧ (o.1 - q ≤ 4 → o.2 1 4 = z_nb c q (o.1 - q).toNat)) := by
  have b := hB.1
  refine b_loop_ind (I := fun t : Int × bM => (q ≤ t.1 ∧ t.1 ≤ n) ∧ (∀ j, q ≤ j → j < t.1 → z_dg c j = true) ∧ Cq M t.2 ∧ (t.1 - q ≤ 4 → t.2 1 4 = z_nb c q (t.1 - q).toNat)) (fun t => (n - t.1).toNat) ?_ (q, M) ⟨by dsimp only; omega, fun j j1 j2 => by dsimp only at j2; omega, fun _ _ _ => rfl, fun _ => by dsimp only; rw [h40, show q - q = 0 by omega]; rfl⟩
  intro ⟨to, N⟩ ⟨h1, h3, hC, h5⟩
  dsimp only at h1 h3 hC h5 ⊢
  have n1 : N 1 1 = n := (hC 1 1 (by decide)).trans hn
  have cN : cb N = c := (cb_q hC).trans hc
  unfold F_X10_step_s118
  have fin : z_dg c to = false → to = z_run (z_dg c) 1001 q ∧ Cq M N ∧ (to - q ≤ 4 → N 1 4 = z_nb c q (to - q).toNat) := fun z => ⟨z_run_u ⟨h1.1, h3, z⟩ (z_run_p (z_dg_n hB) 1001 q (by omega)), hC, h5⟩
  refine b_Wi (fun a => b_Ws (fin (z_dg_n hB to (by omega)))) (fun a => b_We (e_byteAt (by omega)) (b_We e_X10_isDigit (b_Wi (fun a1 => b_Ws (fin ?_)) (fun a1 => b_We (e_byteAt (by omega)) ?_))))
  · rw [b_01_0, cN] at a1
    exact decide_eq_false a1
  rw [b_01_0] at a1
  have a2 := Decidable.of_not_not a1
  rw [cN] at a2 ⊢
  have lt := z_lt (z_dg_n hB) (p := to) (decide_eq_true a2)
  refine b_Wl (b_Wg (by omega) (b_Ws ⟨⟨by dsimp only; omega, fun j j1 j2 => ?_, fun z j hz => ?_, fun y => ?_⟩, by dsimp only; omega⟩))
  · dsimp only at j2
    by_cases z : j = to
    · rw [z]; exact decide_eq_true a2
    · exact h3 j j1 (by omega)
  · dsimp only
    have e : ∀ x, b_up N 1 4 x z j = N z j := fun x => if_neg hz
    rw [e]; exact hC z j hz
  · dsimp only at y ⊢
    rw [b_ups]
    have e := h5 (by omega)
    have r := z_nb_r (c := c) (p := q) (to - q).toNat (fun j hj => by
      have := h3 (q + j) (by omega) (by omega)
      exact of_decide_eq_true this)
    have p4 : (10 : Int) ^ (to - q).toNat ≤ 10000 := by
      have : (to - q).toNat < 5 := by omega
      revert this
      generalize (to - q).toNat = m
      intro hm
      exact (show ∀ m : Nat, m < 5 → (10 : Int) ^ m ≤ 10000 by decide +kernel) m hm
    rw [show (to + 1 - q).toNat = (to - q).toNat + 1 by omega]
    show _ = 10 * z_nb c q (to - q).toNat + (c (q + ((to - q).toNat : Int)) - 48)
    rw [show q + ((to - q).toNat : Int) = to by omega, e, w64_id (x := z_nb c q (to - q).toNat * 10) (by unfold b_r64; omega), w64_id (x := z_nb c q (to - q).toNat * 10 + c to) (by unfold b_r64; omega), w64_id (by unfold b_r64; omega)]
    omega
/-- what a step changes -/
def Cq2 (M N : bM) : Prop := (∀ z j, z ≠ 1 → N z j = M z j) ∧ ∀ j, j ≠ 2 → j ≠ 3 → j ≠ 4 → j ≠ 7 → N 1 j = M 1 j
theorem Cq2_s {M O : bM} {u : Int} (h : Cq (b_up M 1 4 0) O) : Cq2 M (b_up O 1 2 u) := by
  refine ⟨fun z j hz => ?_, fun j h2 _ h4 _ => ?_⟩
  · rw [b_upc hz, h z j (fun e => hz e.1), b_upc hz]
  · rw [b_upi h2, h 1 j (fun e => h4 e.2), b_upi h4]
/-- the reader comes to the TOKEN found from p on -/
def Tq (c : Int → Int) (M : bM) (p : Int) (N : bM) : Prop := Cq2 M N ∧ N 1 7 = t_e c p ∧ N 1 2 = t_k c p ∧ N 1 3 = t_q c p ∧ (t_k c p ≠ 4 → N 1 4 = t_v c p)
theorem t_s226 {M X : bM} {c : Int → Int} {p e : Int} (hX : Cq2 M X) (hk : X 1 2 = t_k c p) (hv : t_k c p ≠ 4 → X 1 4 = t_v c p) (he : e = t_e c p) : b_wp (F_X10_step_b226 (t_q c p) e X) (Tq c M p) := by
  unfold F_X10_step_b226
  exact b_Wl (b_Wl (b_Ws ⟨⟨fun z j hz => by rw [b_upc hz, b_upc hz]; exact hX.1 z j hz, fun j h2 h3 h4 h7 => by rw [b_upi h7, b_upi h3]; exact hX.2 j h2 h3 h4 h7⟩, by rw [b_ups]; exact he, by rw [b_upi (by decide), b_upi (by decide)]; exact hk, by rw [b_upi (by decide), b_ups], fun z => by rw [b_upi (by decide), b_upi (by decide)]; exact hv z⟩))
theorem t_step {M : bM} {c : Int → Int} {n p : Int} (hB : z_B c n) (hc : cb M = c) (hn : M 1 1 = n) (h7 : M 1 7 = p) (hp : 0 ≤ p ∧ p ≤ n) : b_wp (F_X10_step M) (Tq c M p) := by
  have b := hB.1
  have ql := t_q_le hB hp.1 hp.2
  have q0 := t_q_p hB hp.1
  have nn := z_B_n hB (show 0 ≤ t_q c p by omega)
  unfold F_X10_step
  rw [h7]
  refine b_Wb (b_wp_m (fun q z => ?_) (t_blank hB hc hn hp))
  subst z
  unfold F_X10_step_b30
  refine b_We (e_byteAt (by omega)) (b_Wl ?_)
  rw [hc]
  have c7 : ∀ x, cb (b_up M 1 4 x) = c := fun x => (cb_c (b_upi (by decide)) (funext fun i => b_upc (by decide))).trans hc
  have n7 : ∀ x, b_up M 1 4 x 1 1 = n := fun x => (b_upi (by decide)).trans hn
  refine b_We e_X10_isLetter (b_Wi (fun a => b_We e_X10_isDigit (b_Wi (fun a1 => ?_) (fun a1 => ?_))) (fun a => ?_))
  · rw [b_01_0] at a a1
    rw [n7]
    refine b_Wi (fun a2 => b_Wl ?_) (fun a2 => b_We e_isSignByte ?_)
    · have hne : c (t_q c p) = -1 := nn.mpr a2
      refine t_s226 (Cq2_s (fun _ _ _ => rfl)) ?_ (fun _ => ?_) ?_
      · rw [b_ups, t_k_0.mpr hne]
      · rw [b_upi (by decide), b_ups]
        unfold t_v; rw [if_pos hne]
      · unfold t_e; rw [if_pos hne]
    · have hne : ¬ c (t_q c p) = -1 := fun z => a2 (nn.mp z)
      have ee : t_e c p = t_q c p + 1 := by unfold t_e; rw [if_neg hne, if_neg a, if_neg a1]
      have ev : t_v c p = c (t_q c p) := by unfold t_v; rw [if_neg hne, if_neg a, if_neg a1]
      have ek : t_k c p = if z_sg (c (t_q c p)) then 3 else 4 := by unfold t_k; rw [if_neg hne, if_neg a, if_neg a1]
      have cq : ∀ u x, Cq2 M (b_up (b_up (b_up M 1 4 0) 1 2 u) 1 4 x) := fun u x => ⟨fun z j hz => by rw [b_upc hz, b_upc hz, b_upc hz], fun j h2 _ h4 _ => by rw [b_upi h4, b_upi h2, b_upi h4]⟩
      unfold F_X10_step_b206
      refine b_Wi (fun a3 => b_Wl (b_Wl (b_Wg (by omega) (t_s226 (cq _ _) ?_ (fun _ => ?_) ee.symm)))) (fun a3 => b_Wl (b_Wl (b_Wg (by omega) (t_s226 (cq _ _) ?_ (fun _ => ?_) ee.symm))))
      · rw [b_upi (by decide), b_ups, ek, if_neg (b_01_0.mp a3)]
      · rw [b_ups, ev]
      · rw [b_upi (by decide), b_ups, ek, if_pos (Decidable.of_not_not (fun z => a3 (b_01_0.mpr z)))]
      · rw [b_ups, ev]
  · rw [b_01_0] at a a1
    have a2 := Decidable.of_not_not a1
    have hne : ¬ c (t_q c p) = -1 := fun z => by rw [z] at a2; omega
    have ee : t_e c p = z_run (z_dg c) 1001 (t_q c p) := by unfold t_e; rw [if_neg hne, if_neg a, if_pos a2]
    have ev : t_v c p = z_nb c (t_q c p) (t_e c p - t_q c p).toNat := by unfold t_v; rw [if_neg hne, if_neg a, if_pos a2]
    have ek : t_k c p = if t_e c p - t_q c p ≤ 4 then 2 else 4 := by unfold t_k; rw [if_neg hne, if_neg a, if_pos a2]
    have te := t_e_p hB hp.1 hp.2
    refine b_Wb (b_wp_m (fun o z => ?_) (t_cutNum hB (c7 0) (n7 0) ⟨by omega, ql⟩ b_ups))
    obtain ⟨to, O⟩ := o
    obtain ⟨z1, zC, z2⟩ := z
    dsimp only at z1 zC z2 ⊢
    rw [← ee] at z1
    subst z1
    unfold F_X10_step_b166 F_X10_step_b179
    refine b_Wg (by omega) (b_Wi (fun y => b_Wl (t_s226 (Cq2_s zC) ?_ (fun _ => ?_) rfl)) (fun y => b_Wl (t_s226 (Cq2_s zC) ?_ (fun z => ?_) rfl)))
    · rw [b_ups, ek, if_pos y]
    · rw [b_upi (by decide), z2 y, ev]
    · rw [b_ups, ek, if_neg y]
    · rw [if_neg y] at ek
      exact absurd ek z
  · rw [b_01_0] at a
    have a2 := Decidable.of_not_not a
    have hne : ¬ c (t_q c p) = -1 := fun z => by rw [z] at a2; omega
    have ee : t_e c p = z_run (z_sm c) 1001 (t_q c p) := by unfold t_e; rw [if_neg hne, if_pos a2]
    have ev : t_v c p = z_wd c (t_q c p) (t_e c p - t_q c p).toNat := by unfold t_v; rw [if_neg hne, if_pos a2]
    have ek : t_k c p = if t_e c p - t_q c p ≤ 12 then 1 else 4 := by unfold t_k; rw [if_neg hne, if_pos a2]
    have te := t_e_p hB hp.1 hp.2
    refine b_Wb (b_wp_m (fun o z => ?_) (t_cutWord hB (c7 0) (n7 0) ⟨by omega, ql⟩ b_ups))
    obtain ⟨to, O⟩ := o
    obtain ⟨z1, zC, z2⟩ := z
    dsimp only at z1 zC z2 ⊢
    rw [← ee] at z1
    subst z1
    unfold F_X10_step_b91 F_X10_step_b105
    refine b_Wg (by omega) (b_Wi (fun y => b_Wl (t_s226 (Cq2_s zC) ?_ (fun _ => ?_) rfl)) (fun y => b_Wl (t_s226 (Cq2_s zC) ?_ (fun z => ?_) rfl)))
    · rw [b_ups, ek, if_pos y]
    · rw [b_upi (by decide), z2 y, ev]
    · rw [b_ups, ek, if_neg y]
    · rw [if_neg y] at ek
      exact absurd ek z
/-- the bytes that are read -/
def Cr (c : Int → Int) (n : Int) (M : bM) : Prop := M 1 1 = n ∧ cb M = c
/-- the class's reader is at TOKEN i -/
def Cs (c : Int → Int) (M : bM) (i : Nat) : Prop := M 1 7 = t_at c (i + 1) ∧ M 1 2 = t_k c (t_at c i) ∧ M 1 3 = t_q c (t_at c i) ∧ (t_k c (t_at c i) ≠ 4 → M 1 4 = t_v c (t_at c i))
