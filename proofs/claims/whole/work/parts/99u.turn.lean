theorem i_xs0 {a b k : Int} (hk : 0 ≤ k ∧ k < 32) : i_shr (i_xor a b) k = 0 ↔ ∀ j : Nat, k.toNat ≤ j → j < 32 → i_bt a j = i_bt b j := by
  obtain ⟨n, rfl⟩ := Int.eq_ofNat_of_zero_le hk.1
  have n32 : n < 32 := by omega
  unfold i_shr i_xor i_bt
  rw [Int32.ofInt_toInt]
  have e0 : (Int32.ofInt a ^^^ Int32.ofInt b).toBitVec = (Int32.ofInt a).toBitVec ^^^ (Int32.ofInt b).toBitVec := rfl
  generalize hx : (Int32.ofInt a ^^^ Int32.ofInt b) = x at *
  have hb : ∀ i : Nat, (x >>> (Int32.ofInt n &&& 31)).toBitVec.getLsbD i = (!decide (32 ≤ i) && if n + i < 32 then x.toBitVec.getLsbD (n + i) else x.toBitVec.msb) := by
    intro i
    rw [Int32.toBitVec_shiftRight, BitVec.sshiftRight_eq', BitVec.getLsbD_sshiftRight, i_sm n n32]
  have bx : ∀ j : Nat, x.toBitVec.getLsbD j = ((Int32.ofInt a).toBitVec.getLsbD j ^^ (Int32.ofInt b).toBitVec.getLsbD j) := fun j => by rw [e0, BitVec.getLsbD_xor]
  generalize hy : x >>> (Int32.ofInt n &&& 31) = y at *
  have z0 : y.toInt = 0 ↔ y = 0 := ⟨fun h => Int32.toInt_inj.mp (h.trans rfl), fun h => by rw [h]; rfl⟩
  show y.toInt = 0 ↔ ∀ j : Nat, ((n : Int)).toNat ≤ j → _
  rw [z0, show ((n : Int)).toNat = n by omega]
  refine ⟨fun h j h1 h2 => ?_, fun h => ?_⟩
  · have := hb (j - n)
    rw [h] at this
    have e : ((0 : Int32).toBitVec).getLsbD (j - n) = false := by
      show (0#32).getLsbD (j - n) = false
      simp
    rw [e, if_pos (by omega), show n + (j - n) = j by omega, bx] at this
    have d : ¬ 32 ≤ j - n := by omega
    rw [decide_eq_false d] at this
    revert this
    cases (Int32.ofInt a).toBitVec.getLsbD j <;> cases (Int32.ofInt b).toBitVec.getLsbD j <;> simp
  · have bf : ∀ j : Nat, n ≤ j → j < 32 → x.toBitVec.getLsbD j = false := fun j h1 h2 => by
      rw [bx, h j h1 h2]; simp
    refine Int32.toBitVec_inj.mp (BitVec.eq_of_getLsbD_eq fun i hi => ?_)
    rw [hb i]
    show _ = (0#32).getLsbD i
    by_cases q : n + i < 32
    · rw [if_pos q, bf _ (by omega) q]; simp
    · rw [if_neg q, BitVec.msb_eq_getLsbD_last, bf (32 - 1) (by omega) (by omega)]; simp
theorem i_bt_n {n : Nat} {j : Nat} (hj : j < 32) : i_bt (n : Int) j = n.testBit j := by
  show (BitVec.ofInt 32 (n : Int)).getLsbD j = _
  rw [BitVec.ofInt_natCast, BitVec.getLsbD_ofNat]
  simp [hj]
theorem bt_dec {v i : Nat} (hv : 1 ≤ v) (h : (v - 1).testBit i = v.testBit i) : ∀ j : Nat, i ≤ j → (v - 1).testBit j = v.testBit j := by
  intro j hj
  have ab : (v - 1) / 2 ^ i ≤ v / 2 ^ i := Nat.div_le_div_right (by omega)
  have ba : v / 2 ^ i ≤ (v - 1) / 2 ^ i + 1 := by
    have p : 0 < 2 ^ i := Nat.two_pow_pos i
    have := Nat.div_le_div_right (c := 2 ^ i) (show v ≤ v - 1 + 2 ^ i by omega)
    rw [Nat.add_div_right _ p] at this
    exact this
  rw [Nat.testBit_eq_decide_div_mod_eq, Nat.testBit_eq_decide_div_mod_eq] at h
  have pe : ((v - 1) / 2 ^ i % 2 = 1) ↔ (v / 2 ^ i % 2 = 1) := by
    have := decide_eq_decide.mp h
    exact this
  have e : (v - 1) / 2 ^ i = v / 2 ^ i := by
    generalize (v - 1) / 2 ^ i = a at *
    generalize v / 2 ^ i = b at *
    omega
  rw [Nat.testBit_eq_decide_div_mod_eq, Nat.testBit_eq_decide_div_mod_eq]
  have s : ∀ x : Nat, x / 2 ^ j = x / 2 ^ i / 2 ^ (j - i) := fun x => by
    rw [Nat.div_div_eq_div_mul, ← Nat.pow_add, show i + (j - i) = j by omega]
  rw [s, s, e]
/-- the sets v - 1 and v: from the place on where the bits no longer differ they are one -/
theorem bt_turn {v k : Int} (hv : 1 ≤ v) (hk : 0 ≤ k ∧ k < 32) : (i_shr (i_xor (v - 1) v) k = 0 → ∀ j : Nat, k.toNat ≤ j → j < 32 → i_bt (v - 1) j = i_bt v j) ∧ (¬ i_shr (i_xor (v - 1) v) k = 0 → i_bt (v - 1) k.toNat = ! i_bt v k.toNat) := by
  refine ⟨fun h => (i_xs0 hk).mp h, fun h => ?_⟩
  obtain ⟨n, rfl⟩ := Int.eq_ofNat_of_zero_le (show 0 ≤ v by omega)
  have e1 : ((n : Int) - 1) = ((n - 1 : Nat) : Int) := by omega
  by_cases q : i_bt ((n : Int) - 1) k.toNat = i_bt (n : Int) k.toNat
  · refine absurd ((i_xs0 hk).mpr fun j j1 j2 => ?_) h
    rw [e1, i_bt_n (by omega), i_bt_n (by omega)] at q
    rw [e1, i_bt_n j2, i_bt_n j2]
    exact bt_dec (by omega) q j j1
  · revert q
    cases i_bt ((n : Int) - 1) k.toNat <;> cases i_bt (n : Int) k.toNat <;> simp
theorem x_gn_t {M : bM} {s s2 b : Int} {i n : Nat} (h : ∀ j : Nat, i ≤ j → j < n → i_bt s2 j = i_bt s j) : ∀ m : Nat, i ≤ m → m ≤ n → x_gn M s2 b m - x_gn M s2 b i = x_gn M s b m - x_gn M s b i := by
  intro m
  induction m with
  | zero =>
    intro h1 _
    rw [show i = 0 by omega]
    rfl
  | succ m ih =>
    intro h1 h2
    by_cases q : i = m + 1
    · rw [q]; omega
    · have e := ih (by omega) (by omega)
      show x_gn M s2 b m + _ - _ = x_gn M s b m + _ - _
      rw [h m (by omega) (by omega)]
      omega
theorem x_cs_t {M : bM} {s s2 : Int} {i n : Nat} (h : ∀ j : Nat, i ≤ j → j < n → i_bt s2 j = i_bt s j) : ∀ m : Nat, i ≤ m → m ≤ n → x_cs M s2 m - x_cs M s2 i = x_cs M s m - x_cs M s i := by
  intro m
  induction m with
  | zero =>
    intro h1 _
    rw [show i = 0 by omega]
    rfl
  | succ m ih =>
    intro h1 h2
    by_cases q : i = m + 1
    · rw [q]; omega
    · have e := ih (by omega) (by omega)
      show x_cs M s2 m + _ - _ = x_cs M s m + _ - _
      rw [h m (by omega) (by omega)]
      omega
theorem t_turn {N Q : bM} {v : Int} (hP : R_place N) (hv : 1 ≤ v) (h10 : Q 10 0 = N 10 0) (h155 : ∀ i, Q 155 i = N 155 i) (h156 : ∀ i, Q 156 i = N 156 i) (h157 : ∀ i, Q 157 i = N 157 i) (h158 : ∀ b, 0 ≤ b → b < 30 → Q 158 b = x_gn N (v - 1) b (N 10 0).toNat) : b_wp (F_X9_turn (v - 1) v Q) (fun o => (∀ c j, c ≠ 158 → o.2 c j = Q c j) ∧ o.1 = x_cs N v (N 10 0).toNat - x_cs N (v - 1) (N 10 0).toNat ∧ ∀ b, 0 ≤ b → b < 30 → o.2 158 b = x_gn N v b (N 10 0).toNat) := by
  have p1 := hP.1
  unfold F_X9_turn F_X9_turn_b83
  refine b_Wb (b_wp_m (fun o z => b_Ws z) ?_)
  refine b_loop_ind (I := fun t : Int × Int × bM => (0 ≤ t.2.1 ∧ t.2.1 ≤ N 10 0) ∧ (∀ c j, c ≠ 158 → t.2.2 c j = Q c j) ∧ t.1 = x_cs N v t.2.1.toNat - x_cs N (v - 1) t.2.1.toNat ∧ ∀ b, 0 ≤ b → b < 30 → t.2.2 158 b = x_gn N v b t.2.1.toNat + (x_gn N (v - 1) b (N 10 0).toNat - x_gn N (v - 1) b t.2.1.toNat)) (fun t => (N 10 0 - t.2.1).toNat) ?_ (0, 0, Q) ⟨by dsimp only; omega, fun _ _ _ => rfl, by dsimp only; rfl, fun b b0 b1 => ?_⟩
  · intro ⟨m, k, R⟩ ⟨h1, h2, h3, h4⟩
    dsimp only at h1 h2 h3 h4 ⊢
    unfold F_X9_turn_s5 F_X9_turn_b37
    have r10 : R 10 0 = N 10 0 := by rw [h2 10 0 (by decide), h10]
    have r155 : R 155 k = N 155 k := by rw [h2 155 k (by decide), h155]
    have r156 : R 156 k = N 156 k := by rw [h2 156 k (by decide), h156]
    have r157 : R 157 k = N 157 k := by rw [h2 157 k (by decide), h157]
    rw [r10]
    refine b_Wi (fun q => b_Ws ?_) (fun q => b_Wi (fun q1 => b_Ws ?_) (fun q1 => ?_))
    · have e : k = N 10 0 := by omega
      rw [e] at h3 h4
      refine ⟨h2, h3, fun b b0 b1 => ?_⟩
      have := h4 b b0 b1
      dsimp only
      omega
    · have be := (bt_turn hv (k := k) (by omega)).1 q1
      have eg := fun b => x_gn_t (M := N) (s := v) (s2 := v - 1) (b := b) (i := k.toNat) (n := (N 10 0).toNat) (fun j j1 j2 => be j j1 (by omega)) (N 10 0).toNat (by omega) (Nat.le_refl _)
      have ec := x_cs_t (M := N) (s := v) (s2 := v - 1) (i := k.toNat) (n := (N 10 0).toNat) (fun j j1 j2 => be j j1 (by omega)) (N 10 0).toNat (by omega) (Nat.le_refl _)
      refine ⟨h2, ?_, fun b b0 b1 => ?_⟩
      · dsimp only; omega
      · dsimp only
        have := h4 b b0 b1
        have := eg b
        omega
    have nb := (bt_turn hv (k := k) (by omega)).2 q1
    have pk := hP.2.2 k h1.1 (by omega)
    have gv := x_gn_r (s := v) (b := N 156 k) hP k.toNat (by omega)
    have gw := x_gn_r (s := v - 1) (b := N 156 k) hP k.toNat (by omega)
    have gn := x_gn_r (s := v - 1) (b := N 156 k) hP (N 10 0).toNat (by omega)
    have cv := x_cs_r (s := v) hP k.toNat (by omega)
    have cw := x_cs_r (s := v - 1) hP k.toNat (by omega)
    have h4k := h4 (N 156 k) pk.2.1.1 pk.2.1.2
    rw [i_bt_shr (by omega), r156, r157]
    have sc := x_cs_s (M := N) (s := v) h1.1
    have sd := x_cs_s (M := N) (s := v - 1) h1.1
    have step : ∀ u, (u = 1 ∧ i_bt v k.toNat = true ∧ i_bt (v - 1) k.toNat = false) ∨ (u = -1 ∧ i_bt v k.toNat = false ∧ i_bt (v - 1) k.toNat = true) → ∀ b, 0 ≤ b → b < 30 → b_up R 158 (N 156 k) (R 158 (N 156 k) + u * N 157 k) 158 b = x_gn N v b (k + 1).toNat + (x_gn N (v - 1) b (N 10 0).toNat - x_gn N (v - 1) b (k + 1).toNat) := by
      intro u hu b b0 b1
      rw [b_upJ, x_gn_s h1.1, x_gn_s h1.1]
      have h4b := h4 b b0 b1
      rcases hu with ⟨rfl, u1, u2⟩ | ⟨rfl, u1, u2⟩
      · rw [u1, u2]
        by_cases e : b = N 156 k
        · rw [if_pos e, ← e, if_pos ⟨rfl, rfl⟩, if_neg (fun z => absurd z.1 (by decide))]
          omega
        · rw [if_neg e, if_neg (fun z => e z.2.symm), if_neg (fun z => e z.2.symm)]
          omega
      · rw [u1, u2]
        by_cases e : b = N 156 k
        · rw [if_pos e, ← e, if_neg (fun z => absurd z.1 (by decide)), if_pos ⟨rfl, rfl⟩]
          omega
        · rw [if_neg e, if_neg (fun z => e z.2.symm), if_neg (fun z => e z.2.symm)]
          omega
    by_cases qb : i_bt v k.toNat = true
    · have nb2 : i_bt (v - 1) k.toNat = false := by rw [nb, qb]; rfl
      rw [if_pos qb] at sc ⊢
      rw [if_neg (by rw [nb2]; decide)] at sd
      refine b_Wf (by decide) (b_Wg (by omega) (b_Wl ?_))
      rw [b_upc (by decide), r155]
      refine b_Wg (by omega) (b_Wl (b_Wg (by omega) (b_Ws ⟨⟨by dsimp only; omega, fun c j hc => ?_, ?_, step 1 (Or.inl ⟨rfl, qb, nb2⟩)⟩, by dsimp only; omega⟩)))
      · dsimp only; rw [b_upc hc]; exact h2 c j hc
      · dsimp only; omega
    · have qb1 : i_bt v k.toNat = false := by revert qb; cases i_bt v k.toNat <;> simp
      have nb2 : i_bt (v - 1) k.toNat = true := by rw [nb, qb1]; rfl
      rw [if_neg qb] at sc ⊢
      rw [if_pos nb2] at sd
      refine b_Wt rfl (b_Wg (by omega) (b_Wl ?_))
      rw [b_upc (by decide), r155]
      refine b_Wg (by omega) (b_Wl (b_Wg (by omega) (b_Ws ⟨⟨by dsimp only; omega, fun c j hc => ?_, ?_, step (-1) (Or.inr ⟨rfl, qb1, nb2⟩)⟩, by dsimp only; omega⟩)))
      · dsimp only; rw [b_upc hc]; exact h2 c j hc
      · dsimp only; omega
  · dsimp only
    rw [h158 b b0 b1]
    show _ = (0 : Int) + (_ - 0)
    omega
