/-- the bytes of the class's tape -/
def cb (M : bM) : Int → Int := fun p => if 0 ≤ p ∧ p < M 1 1 then i_and (M 72 p) 255 else -1
theorem cb_B {M : bM} (h : R_tape M) : z_B (cb M) (M 1 1) := by
  obtain ⟨h1, h2, h3, h4, h5⟩ := h
  refine ⟨⟨h2, h3⟩, fun p hp => if_neg (by omega), fun p p0 p1 => ?_⟩
  have e : cb M p = i_and (M 72 p) 255 := if_pos ⟨p0, p1⟩
  have hy := h5 p
  rw [e, i_and_b hy]
  split <;> omega
theorem e_byteAt {M : bM} {p : Int} (h : M 1 1 ≤ 1000) : F_X10_byteAt p M = some (cb M p) := by
  refine b_eqn ?_
  unfold F_X10_byteAt cb
  refine b_Wi (fun q => b_Ws (if_neg (by omega)).symm) (fun q => b_Wi (fun q1 => b_Ws (if_neg (by omega)).symm) (fun q1 => b_Wf (by omega) (b_Wg (by omega) (b_Ws (if_pos (by omega)).symm))))
theorem j_wl {v d : Int} (hv : 0 ≤ v ∧ v < 36028797018963968) (hd : 0 ≤ d ∧ d < 32) : j_or (j_shl v 5) d = 32 * v + d := by
  obtain ⟨n, rfl⟩ := Int.eq_ofNat_of_zero_le hv.1
  obtain ⟨m, rfl⟩ := Int.eq_ofNat_of_zero_le hd.1
  unfold j_or j_shl
  rw [Int64.ofInt_toInt]
  have e : Int64.ofInt (n : Int) <<< ((Int32.ofInt 5).toInt64 &&& 63) ||| Int64.ofInt (m : Int) = Int64.ofInt (32 * (n : Int) + m) := by
    refine Int64.toBitVec_inj.mp ?_
    rw [Int64.toBitVec_or, Int64.toBitVec_shiftLeft]
    have s5 : (((Int32.ofInt 5).toInt64 &&& 63).toBitVec.smod 64).toNat = 5 := j_sm 5 (by decide)
    generalize ((Int32.ofInt 5).toInt64 &&& 63).toBitVec.smod 64 = y at s5
    rw [BitVec.shiftLeft_eq', s5]
    show BitVec.ofInt 64 (n : Int) <<< 5 ||| BitVec.ofInt 64 (m : Int) = BitVec.ofInt 64 (32 * (n : Int) + m)
    rw [show (32 * (n : Int) + m) = ((32 * n + m : Nat) : Int) by omega, BitVec.ofInt_natCast, BitVec.ofInt_natCast, BitVec.ofInt_natCast]
    refine BitVec.eq_of_toNat_eq ?_
    rw [BitVec.toNat_or, BitVec.toNat_shiftLeft, BitVec.toNat_ofNat, BitVec.toNat_ofNat, BitVec.toNat_ofNat, Nat.shiftLeft_eq]
    have e1 : n % 2 ^ 64 = n := Nat.mod_eq_of_lt (by omega)
    have e2 : m % 2 ^ 64 = m := Nat.mod_eq_of_lt (by omega)
    have e3 : (32 * n + m) % 2 ^ 64 = 32 * n + m := Nat.mod_eq_of_lt (by omega)
    have e4 : n * 2 ^ 5 % 2 ^ 64 = 2 ^ 5 * n := by rw [Nat.mul_comm]; exact Nat.mod_eq_of_lt (by omega)
    rw [e1, e2, e3, e4, ← Nat.two_pow_add_eq_or_of_lt (by omega)]
  rw [e]
  exact to64 (by unfold b_r64; omega)
theorem z_pw12 : ∀ k : Nat, k < 12 → (32 : Int) ^ k ≤ 36028797018963968 := by decide +kernel
theorem t_cutWord {M : bM} {q : Int} {c : Int → Int} {n : Int} (hB : z_B c n) (hc : cb M = c) (hn : M 1 1 ≤ 1000) (hq : 0 ≤ q ∧ q ≤ n) : b_wp (b_loop (fun t : Int × Int × Int => F_X10_cutWord_s7 q t.1 t.2.1 t.2.2 M) (q, 0, 0)) (fun o => o.1 = z_run (z_sm c) 1001 q ∧ (o.1 - q ≤ 12 → o.2 = z_wd c q (o.1 - q).toNat)) := by
  have b := hB.1
  refine b_loop_ind (I := fun t : Int × Int × Int => (0 ≤ t.2.2 ∧ t.2.2 ≤ n - q) ∧ t.1 = q + t.2.2 ∧ (∀ j, q ≤ j → j < t.1 → z_sm c j = true) ∧ (t.2.2 ≤ 12 → t.2.1 = z_wd c q t.2.2.toNat)) (fun t => (n - q - t.2.2).toNat) ?_ (q, 0, 0) ⟨by dsimp only; omega, by dsimp only; omega, fun j j1 j2 => by dsimp only at j2; omega, fun _ => rfl⟩
  intro ⟨to, w, i⟩ ⟨h1, h2, h3, h4⟩
  dsimp only at h1 h2 h3 h4 ⊢
  unfold F_X10_cutWord_s7 F_X10_withLetter
  have fin : z_sm c to = false → to = z_run (z_sm c) 1001 q ∧ (to - q ≤ 12 → w = z_wd c q (to - q).toNat) := by
    intro z
    refine ⟨z_run_u ⟨by omega, h3, z⟩ (z_run_p (z_sm_n hB) 1001 q (by omega)), fun y => ?_⟩
    rw [show to - q = i by omega]
    exact h4 (by omega)
  refine b_Wi (fun a => b_Ws (fin (z_sm_n hB to (by omega)))) (fun a => b_We (e_byteAt hn) (b_We e_X10_isLetter (b_Wi (fun a1 => b_Ws (fin ?_)) (fun a1 => b_We (e_byteAt hn) ?_))))
  · rw [b_01_0, hc] at a1
    exact decide_eq_false a1
  rw [b_01_0] at a1
  have a2 := Decidable.of_not_not a1
  rw [hc] at a2 ⊢
  have lt := z_lt (z_sm_n hB) (p := to) (decide_eq_true a2)
  refine b_Wb (b_Wg (by omega) (b_Ws (b_Wg (by omega) (b_Ws ⟨⟨by dsimp only; omega, by dsimp only; omega, fun j j1 j2 => ?_, fun y => ?_⟩, by dsimp only; omega⟩))))
  · dsimp only at j2
    by_cases z : j = to
    · rw [z]; exact decide_eq_true a2
    · exact h3 j j1 (by omega)
  · dsimp only at y ⊢
    have e := h4 (by omega)
    have r := z_wd_r (c := c) (p := q) i.toNat (fun j hj => by
      have := h3 (q + j) (by omega) (by omega)
      exact of_decide_eq_true this)
    have p12 := z_pw12 i.toNat (by omega)
    rw [show (i + 1).toNat = i.toNat + 1 by omega]
    show _ = 32 * z_wd c q i.toNat + (c (q + (i.toNat : Int)) - 96)
    rw [show q + (i.toNat : Int) = to by omega, e, j_wl (by omega) (by omega)]
    omega
theorem t_cutNum {M : bM} {q : Int} {c : Int → Int} {n : Int} (hB : z_B c n) (hc : cb M = c) (hn : M 1 1 ≤ 1000) (hq : 0 ≤ q ∧ q ≤ n) : b_wp (b_loop (fun t : Int × Int × Int => F_X10_cutNumber_s7 q t.1 t.2.1 t.2.2 M) (q, 0, 0)) (fun o => o.1 = z_run (z_dg c) 1001 q ∧ (o.1 - q ≤ 4 → o.2 = z_nb c q (o.1 - q).toNat)) := by
  have b := hB.1
  refine b_loop_ind (I := fun t : Int × Int × Int => (0 ≤ t.2.2 ∧ t.2.2 ≤ n - q) ∧ t.1 = q + t.2.2 ∧ (∀ j, q ≤ j → j < t.1 → z_dg c j = true) ∧ (t.2.2 ≤ 4 → t.2.1 = z_nb c q t.2.2.toNat)) (fun t => (n - q - t.2.2).toNat) ?_ (q, 0, 0) ⟨by dsimp only; omega, by dsimp only; omega, fun j j1 j2 => by dsimp only at j2; omega, fun _ => rfl⟩
  intro ⟨to, w, i⟩ ⟨h1, h2, h3, h4⟩
  dsimp only at h1 h2 h3 h4 ⊢
  unfold F_X10_cutNumber_s7
  have fin : z_dg c to = false → to = z_run (z_dg c) 1001 q ∧ (to - q ≤ 4 → w = z_nb c q (to - q).toNat) := by
    intro z
    refine ⟨z_run_u ⟨by omega, h3, z⟩ (z_run_p (z_dg_n hB) 1001 q (by omega)), fun y => ?_⟩
    rw [show to - q = i by omega]
    exact h4 (by omega)
  refine b_Wi (fun a => b_Ws (fin (z_dg_n hB to (by omega)))) (fun a => b_We (e_byteAt hn) (b_We e_X10_isDigit (b_Wi (fun a1 => b_Ws (fin ?_)) (fun a1 => b_We (e_byteAt hn) (b_Wl ?_)))))
  · rw [b_01_0, hc] at a1
    exact decide_eq_false a1
  rw [b_01_0] at a1
  have a2 := Decidable.of_not_not a1
  rw [hc] at a2 ⊢
  have lt := z_lt (z_dg_n hB) (p := to) (decide_eq_true a2)
  refine b_Wg (by omega) (b_Ws ⟨⟨by dsimp only; omega, by dsimp only; omega, fun j j1 j2 => ?_, fun y => ?_⟩, by dsimp only; omega⟩)
  · dsimp only at j2
    by_cases z : j = to
    · rw [z]; exact decide_eq_true a2
    · exact h3 j j1 (by omega)
  · dsimp only at y ⊢
    have e := h4 (by omega)
    have r := z_nb_r (c := c) (p := q) i.toNat (fun j hj => by
      have := h3 (q + j) (by omega) (by omega)
      exact of_decide_eq_true this)
    have p4 : (10 : Int) ^ i.toNat ≤ 10000 := by
      have : i.toNat < 5 := by omega
      revert this
      generalize i.toNat = m
      intro hm
      exact (show ∀ m : Nat, m < 5 → (10 : Int) ^ m ≤ 10000 by decide +kernel) m hm
    rw [show (i + 1).toNat = i.toNat + 1 by omega]
    show _ = 10 * z_nb c q i.toNat + (c (q + (i.toNat : Int)) - 48)
    rw [show q + (i.toNat : Int) = to by omega, e, w64_id (x := z_nb c q i.toNat * 10) (by unfold b_r64; omega), w64_id (x := z_nb c q i.toNat * 10 + c to) (by unfold b_r64; omega), w64_id (by unfold b_r64; omega)]
    omega
/-- a TOKEN is kept -/
def kp (M : bM) (k q v : Int) : bM := b_up (b_up (b_up (b_up M 73 (M 1 8) k) 74 (M 1 8) q) 75 (M 1 8) v) 1 8 (M 1 8 + 1)
theorem i_b5 : ∀ n : Fin 5, i_b (n.val : Int) = (n.val : Int) := by decide +kernel
theorem e_keep {M : bM} {k q v : Int} (hT : 0 ≤ M 1 8 ∧ M 1 8 < 1000) (hk : 0 ≤ k ∧ k ≤ 4) : F_X10_keep k q v M = some (kp M k q v) := by
  have e := i_b5 ⟨k.toNat, by omega⟩
  dsimp only at e
  rw [show ((k.toNat : Nat) : Int) = k by omega] at e
  unfold F_X10_keep kp
  have a1 : ∀ x, b_up M 73 (M 1 8) x 1 8 = M 1 8 := fun x => b_upc (by decide)
  have a2 : ∀ N : bM, ∀ x y, b_up N 74 x y 1 8 = N 1 8 := fun N x y => b_upc (by decide)
  have a3 : ∀ N : bM, ∀ x y, b_up N 75 x y 1 8 = N 1 8 := fun N x y => b_upc (by decide)
  refine b_eqn (b_Wf (by omega) (b_Wg (by omega) (b_Wl ?_)))
  rw [a1]
  refine b_Wg (by omega) (b_Wl ?_)
  rw [a2, a1]
  refine b_Wg (by omega) (b_Wl ?_)
  rw [a3, a2, a1]
  refine b_Wg (by omega) (b_Wl (b_Ws ?_))
  rw [e]
/-- the class cuts the TOKEN that begins at t_q -/
theorem t_cut {M : bM} {p : Int} {c : Int → Int} {n : Int} (hB : z_B c n) (hc : cb M = c) (hn : M 1 1 ≤ 1000) (hp : 0 ≤ p ∧ p ≤ n) (hT : 0 ≤ M 1 8 ∧ M 1 8 < 1000) (hne : c (t_q c p) ≠ -1) : b_wp (F_X10_cut (t_q c p) (c (t_q c p)) M) (fun o => o.1 = t_e c p ∧ ∃ v, (t_k c p ≠ 4 → v = t_v c p) ∧ o.2 = kp M (t_k c p) (t_q c p) v) := by
  have q0 := t_q_p hB hp.1
  have ql := t_q_le hB hp.1 hp.2
  have b := hB.1
  unfold F_X10_cut
  refine b_We e_X10_isLetter (b_Wi (fun a => b_We e_X10_isDigit (b_Wi (fun a1 => ?_) (fun a1 => ?_))) (fun a => ?_))
  · rw [b_01_0] at a a1
    have ee : t_e c p = t_q c p + 1 := by unfold t_e; rw [if_neg hne, if_neg a, if_neg a1]
    have ev : t_v c p = c (t_q c p) := by unfold t_v; rw [if_neg hne, if_neg a, if_neg a1]
    have ek : t_k c p = if z_sg (c (t_q c p)) then 3 else 4 := by unfold t_k; rw [if_neg hne, if_neg a, if_neg a1]
    have yes : z_sg (c (t_q c p)) → b_wp (F_X10_cut_b56 (t_q c p) (c (t_q c p)) M) (fun o => o.1 = t_e c p ∧ ∃ v, (t_k c p ≠ 4 → v = t_v c p) ∧ o.2 = kp M (t_k c p) (t_q c p) v) := by
      intro z
      rw [if_pos z] at ek
      unfold F_X10_cut_b56 F_X10_cut_b61 F_X10_cut_b72
      exact b_Wf (by decide) (b_We (e_keep hT (by decide)) (b_Wg (by omega) (b_Ws ⟨ee.symm, _, fun _ => ev.symm, by dsimp only; rw [ek]⟩)))
    refine b_Wi (fun z => yes (Or.inl z)) (fun z1 => b_Wi (fun z => yes (Or.inr (Or.inl z))) (fun z2 => b_Wi (fun z => yes (Or.inr (Or.inr (Or.inl z)))) (fun z3 => b_Wi (fun z => yes (Or.inr (Or.inr (Or.inr (Or.inl z))))) (fun z4 => b_Wi (fun z => yes (Or.inr (Or.inr (Or.inr (Or.inr z))))) (fun z5 => ?_)))))
    rw [if_neg (fun z => by rcases z with z | z | z | z | z <;> omega)] at ek
    unfold F_X10_cut_b61 F_X10_cut_b72
    exact b_Wt rfl (b_We (e_keep hT (by decide)) (b_Wg (by omega) (b_Ws ⟨ee.symm, _, fun _ => ev.symm, by dsimp only; rw [ek]⟩)))
  · rw [b_01_0] at a a1
    have a2 := Decidable.of_not_not a1
    have ee : t_e c p = z_run (z_dg c) 1001 (t_q c p) := by unfold t_e; rw [if_neg hne, if_neg a, if_pos a2]
    have ev : t_v c p = z_nb c (t_q c p) (t_e c p - t_q c p).toNat := by unfold t_v; rw [if_neg hne, if_neg a, if_pos a2]
    have ek : t_k c p = if t_e c p - t_q c p ≤ 4 then 2 else 4 := by unfold t_k; rw [if_neg hne, if_neg a, if_pos a2]
    unfold F_X10_cutNumber F_X10_cutNumber_b52 F_X10_cutNumber_b65
    have te := t_e_p hB hp.1 hp.2
    refine b_Wb (b_Wb (b_wp_m (fun o z => ?_) (t_cutNum hB hc hn ⟨by omega, ql⟩)))
    obtain ⟨to, w⟩ := o
    obtain ⟨z1, z2⟩ := z
    dsimp only at z1 z2 ⊢
    rw [← ee] at z1
    subst z1
    refine b_Wg (by omega) (b_Wi (fun y => ?_) (fun y => ?_))
    · rw [if_pos y] at ek
      exact b_We (e_keep hT (by decide)) (b_Ws (b_Wtwo (b_Ws ⟨rfl, _, fun _ => (z2 y).trans ev.symm, by dsimp only; rw [ek]⟩)))
    · rw [if_neg y] at ek
      exact b_We (e_keep hT (by decide)) (b_Ws (b_Wtwo (b_Ws ⟨rfl, _, fun z => absurd ek z, by dsimp only; rw [ek]⟩)))
  · rw [b_01_0] at a
    have a2 := Decidable.of_not_not a
    have ee : t_e c p = z_run (z_sm c) 1001 (t_q c p) := by unfold t_e; rw [if_neg hne, if_pos a2]
    have ev : t_v c p = z_wd c (t_q c p) (t_e c p - t_q c p).toNat := by unfold t_v; rw [if_neg hne, if_pos a2]
    have ek : t_k c p = if t_e c p - t_q c p ≤ 12 then 1 else 4 := by unfold t_k; rw [if_neg hne, if_pos a2]
    unfold F_X10_cutWord F_X10_cutWord_b45 F_X10_cutWord_b59
    have te := t_e_p hB hp.1 hp.2
    refine b_Wb (b_Wb (b_wp_m (fun o z => ?_) (t_cutWord hB hc hn ⟨by omega, ql⟩)))
    obtain ⟨to, w⟩ := o
    obtain ⟨z1, z2⟩ := z
    dsimp only at z1 z2 ⊢
    rw [← ee] at z1
    subst z1
    refine b_Wg (by omega) (b_Wi (fun y => ?_) (fun y => ?_))
    · rw [if_pos y] at ek
      exact b_We (e_keep hT (by decide)) (b_Ws (b_Wtwo (b_Ws ⟨rfl, _, fun _ => (z2 y).trans ev.symm, by dsimp only; rw [ek]⟩)))
    · rw [if_neg y] at ek
      exact b_We (e_keep hT (by decide)) (b_Ws (b_Wtwo (b_Ws ⟨rfl, _, fun z => absurd ek z, by dsimp only; rw [ek]⟩)))
/-- all TOKENS are cut -/
def Cr (c : Int → Int) (n : Int) (M : bM) : Prop := (M 1 1 = n ∧ 0 ≤ M 1 8 ∧ M 1 8 ≤ 1000) ∧ (∀ j : Nat, (j : Int) < M 1 8 → (M 73 j = t_k c (t_at c j) ∧ M 73 j ≠ 0) ∧ M 74 j = t_q c (t_at c j) ∧ (t_k c (t_at c j) ≠ 4 → M 75 j = t_v c (t_at c j))) ∧ c (t_q c (t_at c (M 1 8).toNat)) = -1
/-- the class's reader is at TOKEN i -/
def Cs (c : Int → Int) (M : bM) (i : Nat) : Prop := M 1 7 = i ∧ M 1 2 = t_k c (t_at c i) ∧ M 1 3 = t_q c (t_at c i) ∧ (t_k c (t_at c i) ≠ 4 → M 1 4 = t_v c (t_at c i))
theorem t_step {M : bM} {c : Int → Int} {n : Int} {i : Nat} (hB : z_B c n) (hR : Cr c n M) (h7 : M 1 7 = (i : Int) - 1) (hi : (i : Int) ≤ 1000000) : b_wp (F_X10_step M) (fun N => (∀ z j, z ≠ 1 → N z j = M z j) ∧ (∀ j, j ≠ 2 → j ≠ 3 → j ≠ 4 → j ≠ 7 → N 1 j = M 1 j) ∧ Cs c N i) := by
  obtain ⟨⟨r1, r2⟩, r3, r4⟩ := hR
  unfold F_X10_step
  refine b_Wg (by omega) (b_Wl ?_)
  rw [show M 1 7 + 1 = (i : Int) by omega]
  generalize hU : b_up M 1 7 (i : Int) = U
  have u0 : ∀ z j, z ≠ 1 → U z j = M z j := fun z j hz => by subst hU; exact b_upc hz
  have u1 : ∀ j, j ≠ 7 → U 1 j = M 1 j := fun j hj => by subst hU; exact b_upi hj
  have u7 : U 1 7 = i := by subst hU; exact b_ups
  clear hU
  have u8 : U 1 8 = M 1 8 := u1 8 (by decide)
  rw [u7, u8]
  have fin : ∀ a b d, a = t_k c (t_at c i) → b = t_q c (t_at c i) → (t_k c (t_at c i) ≠ 4 → d = t_v c (t_at c i)) → (∀ z j, z ≠ 1 → b_up (b_up (b_up U 1 2 a) 1 3 b) 1 4 d z j = M z j) ∧ (∀ j, j ≠ 2 → j ≠ 3 → j ≠ 4 → j ≠ 7 → b_up (b_up (b_up U 1 2 a) 1 3 b) 1 4 d 1 j = M 1 j) ∧ Cs c (b_up (b_up (b_up U 1 2 a) 1 3 b) 1 4 d) i := by
    intro a b d ha hb hd
    refine ⟨fun z j hz => ?_, fun j j2 j3 j4 j7 => ?_, ?_, ?_, ?_, fun z => ?_⟩
    · rw [b_upc hz, b_upc hz, b_upc hz]; exact u0 z j hz
    · rw [b_upi j4, b_upi j3, b_upi j2]; exact u1 j j7
    · rw [b_upi (by decide), b_upi (by decide), b_upi (by decide)]; exact u7
    · rw [b_upi (by decide), b_upi (by decide), b_ups]; exact ha
    · rw [b_upi (by decide), b_ups]; exact hb
    · rw [b_ups]; exact hd z
  have ends : M 1 8 ≤ i → b_wp (F_X10_step_b42 U) (fun N => (∀ z j, z ≠ 1 → N z j = M z j) ∧ (∀ j, j ≠ 2 → j ≠ 3 → j ≠ 4 → j ≠ 7 → N 1 j = M 1 j) ∧ Cs c N i) := by
    intro z
    have e := t_at_end hB r4
    have k : t_q c (t_at c i) = n ∧ c (t_q c (t_at c i)) = -1 := by
      by_cases y : (M 1 8).toNat = i
      · rw [← y]; exact ⟨e.1, r4⟩
      · exact ⟨(e.2 i (by omega)).2.1, (e.2 i (by omega)).2.2⟩
    unfold F_X10_step_b42 F_X10_step_b43 F_X10_step_b62 F_X10_step_b86 F_X10_step_b107
    refine b_Wt rfl (b_Wl (b_Wt rfl (b_Wl (b_Wt rfl (b_Wl (b_Ws (fin _ _ _ (t_k_0.mpr k.2).symm ?_ (fun _ => ?_))))))))
    · rw [b_upi (by decide), u1 1 (by decide), r1, k.1]
    · unfold t_v; rw [if_pos k.2]
  refine b_Wf (by omega) (b_Wi (fun z => ends (by omega)) (fun z => b_Wf (by omega) ?_))
  obtain ⟨⟨s1, s2⟩, s3, s4⟩ := r3 i (by omega)
  have i0 : 0 ≤ (i : Int) := by omega
  generalize hii : (i : Int) = ii at *
  unfold F_X10_step_b43 F_X10_step_b62 F_X10_step_b86 F_X10_step_b107
  rw [u7, u0 73 _ (by decide)]
  refine b_Wf (by decide) (b_Wg (by omega) (b_Wl (b_Wf (by decide) ?_)))
  rw [b_upi (by decide), u7, b_upc (by decide), u0 74 _ (by decide)]
  refine b_Wg (by omega) (b_Wl (b_Wf (by decide) ?_))
  rw [b_upi (by decide), b_upi (by decide), u7, b_upc (by decide), b_upc (by decide), u0 75 _ (by decide)]
  exact b_Wg (by omega) (b_Wl (b_Ws (fin _ _ _ s1 s3 s4)))
