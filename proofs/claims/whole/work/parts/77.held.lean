/-! bits of an int, division -/
def i_bt (s : Int) (i : Nat) : Bool := (Int32.ofInt s).toBitVec.getLsbD i
theorem i_bt_or {s t : Int} {i : Nat} : i_bt (i_or s t) i = (i_bt s i || i_bt t i) := by
  unfold i_bt i_or
  rw [Int32.ofInt_toInt, Int32.toBitVec_or, BitVec.getLsbD_or]
theorem i_sh1 : ∀ k : Nat, k < 32 → ((1 : Int32) <<< (Int32.ofInt k &&& 31)).toBitVec = BitVec.twoPow 32 k := by decide +kernel
theorem i_bt_shl {k : Int} {i : Nat} (hk : 0 ≤ k ∧ k < 32) : i_bt (i_shl 1 k) i = decide ((i : Int) = k) := by
  obtain ⟨n, rfl⟩ := Int.eq_ofNat_of_zero_le hk.1
  unfold i_bt i_shl
  rw [Int32.ofInt_toInt]
  have h1 : Int32.ofInt 1 = 1 := rfl
  rw [h1, i_sh1 n (by omega), BitVec.getLsbD_twoPow]
  by_cases q : n = i
  · subst q
    simp [show n < 32 by omega]
  · have q2 : ¬ (i : Int) = n := by omega
    simp [q, q2]
theorem i_sm : ∀ n : Nat, n < 32 → ((Int32.ofInt n &&& 31).toBitVec.smod 32).toNat = n := by decide +kernel
theorem i_and1 {y : Int32} : (y &&& Int32.ofInt 1).toInt = if y.toBitVec.getLsbD 0 = true then 1 else 0 := by
  have h2 : y &&& Int32.ofInt 1 = if y.toBitVec.getLsbD 0 = true then 1 else 0 := by
    refine Int32.toBitVec_inj.mp ?_
    rw [Int32.toBitVec_and]
    show y.toBitVec &&& 1#32 = _
    rw [BitVec.and_one_eq_setWidth_ofBool_getLsbD]
    cases y.toBitVec.getLsbD 0 <;> rfl
  rw [h2]
  cases y.toBitVec.getLsbD 0 <;> rfl
theorem i_bt_shr {s k : Int} (hk : 0 ≤ k ∧ k < 32) : i_and (i_shr s k) 1 = if i_bt s k.toNat = true then 1 else 0 := by
  obtain ⟨n, rfl⟩ := Int.eq_ofNat_of_zero_le hk.1
  unfold i_and i_shr i_bt
  rw [Int32.ofInt_toInt, i_and1]
  have hb : (Int32.ofInt s >>> (Int32.ofInt n &&& 31)).toBitVec.getLsbD 0 = (Int32.ofInt s).toBitVec.getLsbD n := by
    rw [Int32.toBitVec_shiftRight, BitVec.sshiftRight_eq', BitVec.getLsbD_sshiftRight, i_sm n (by omega)]
    simp [show n < 32 by omega]
  rw [hb]
  rfl
theorem i_um : ∀ n : Nat, n < 32 → ((Int32.ofInt n).toUInt32 &&& Int32.toUInt32 31).toBitVec.toNat = n := by decide +kernel
theorem i_bt_ushr {s k : Int} (hk : 0 ≤ k ∧ k < 32) : i_and (i_ushr s k) 1 = if i_bt s k.toNat = true then 1 else 0 := by
  obtain ⟨n, rfl⟩ := Int.eq_ofNat_of_zero_le hk.1
  unfold i_and i_ushr i_bt
  rw [Int32.ofInt_toInt, i_and1]
  have hb : (((Int32.ofInt s).toUInt32 >>> ((Int32.ofInt n).toUInt32 &&& Int32.toUInt32 31)).toInt32).toBitVec.getLsbD 0 = (Int32.ofInt s).toBitVec.getLsbD n := by
    show ((Int32.ofInt s).toUInt32 >>> ((Int32.ofInt n).toUInt32 &&& Int32.toUInt32 31)).toBitVec.getLsbD 0 = _
    rw [UInt32.toBitVec_shiftRight]
    show ((Int32.ofInt s).toBitVec >>> (((Int32.ofInt n).toUInt32 &&& Int32.toUInt32 31).toBitVec % 32)).getLsbD 0 = _
    have hm := i_um n (by omega)
    generalize ((Int32.ofInt n).toUInt32 &&& Int32.toUInt32 31).toBitVec = y at hm
    have h2 : (y % 32).toNat = n := by
      rw [BitVec.toNat_umod, hm]
      show n % 32 = n
      omega
    rw [BitVec.ushiftRight_eq', BitVec.getLsbD_ushiftRight, h2]
    rfl
  rw [hb]
  rfl
theorem i_bt_0 (i : Nat) : i_bt 0 i = false := by
  unfold i_bt
  show (0#32).getLsbD i = false
  simp
theorem i_dv {x y : Int} (hx : 0 ≤ x ∧ x < 2147483648) (hy : 0 < y ∧ y < 2147483648) : Int32.ofInt x / Int32.ofInt y = Int32.ofInt (x / y) := by
  have h1 : 0 ≤ x / y := Int.ediv_nonneg hx.1 (by omega)
  have h2 : x / y ≤ x := Int.ediv_le_self y hx.1
  refine Int32.toInt_inj.mp ?_
  rw [Int32.toInt_div_of_ne_right _ _ (fun h => ?_), to32 ⟨by omega, by omega⟩, to32 ⟨by omega, by omega⟩, to32 ⟨by omega, by omega⟩, Int.tdiv_eq_ediv_of_nonneg hx.1]
  have h3 := congrArg Int32.toInt h
  rw [to32 ⟨by omega, by omega⟩] at h3
  have h4 : Int32.toInt (-1) = -1 := by decide
  rw [h4] at h3
  omega
theorem i_div_e {x y : Int} (hx : 0 ≤ x ∧ x < 2147483648) (hy : 0 < y ∧ y < 2147483648) : i_div x y = x / y := by
  have h1 : 0 ≤ x / y := Int.ediv_nonneg hx.1 (by omega)
  have h2 : x / y ≤ x := Int.ediv_le_self y hx.1
  unfold i_div
  rw [i_dv hx hy, to32 ⟨by omega, by omega⟩]
theorem i_rem_e {x y : Int} (hx : 0 ≤ x ∧ x < 2147483648) (hy : 0 < y ∧ y < 2147483648) : i_rem x y = x % y := by
  have h1 : 0 ≤ x % y := Int.emod_nonneg x (by omega)
  have h2 : x % y < y := Int.emod_lt_of_pos x hy.1
  have h3 : x - x / y * y = x % y := by rw [Int.mul_comm, ← Int.emod_def]
  unfold i_rem
  rw [i_dv hx hy, ← Int32.ofInt_mul, ← Int32.ofInt_sub, h3, to32 ⟨by omega, by omega⟩]
/-! HELD -/
abbrev x_ty (M : bM) (d l p k : Int) : Prop := M 194 k = 4 ∧ x_C M d k ∧ M 196 (3 * k + 2) ≠ -1 ∧ j_bt (M 174 l) (M 196 (3 * k + 2)).toNat = true ∧ M 196 (3 * k + 1) ≠ -1 ∧ x_lab M d (M 196 (3 * k + 1)) = x_lab M d p ∧ 0 < x_wt M (x_act M d) k
def x_tx (M : bM) (d l p y : Int) : Prop := ∃ k, (0 ≤ k ∧ k < M 5 0) ∧ x_ty M d l p k ∧ M 197 k ≤ 365 * y + 364 ∧ 365 * y ≤ M 198 k
noncomputable def x_hd (M : bM) (d l p : Int) : Nat → Int
  | 0 => 0
  | n + 1 => @ite Int (x_tx M d l p n) (Classical.propDecidable _) (1 + x_hd M d l p n) 0
theorem x_hd_1 {M : bM} {d l p y : Int} (hy : 0 ≤ y) (h : x_tx M d l p y) : x_hd M d l p (y + 1).toNat = 1 + x_hd M d l p y.toNat := by
  obtain ⟨n, rfl⟩ := Int.eq_ofNat_of_zero_le hy
  rw [show ((n : Int) + 1).toNat = n + 1 by omega, show ((n : Int)).toNat = n by omega]
  have e : x_hd M d l p (n + 1) = @ite Int (x_tx M d l p n) (Classical.propDecidable _) (1 + x_hd M d l p n) 0 := rfl
  rw [e]
  exact @if_pos _ (Classical.propDecidable _) h _ _ _
theorem x_hd_0 {M : bM} {d l p y : Int} (hy : 0 ≤ y) (h : ¬ x_tx M d l p y) : x_hd M d l p (y + 1).toNat = 0 := by
  obtain ⟨n, rfl⟩ := Int.eq_ofNat_of_zero_le hy
  rw [show ((n : Int) + 1).toNat = n + 1 by omega]
  have e : x_hd M d l p (n + 1) = @ite Int (x_tx M d l p n) (Classical.propDecidable _) (1 + x_hd M d l p n) 0 := rfl
  rw [e]
  exact @if_neg _ (Classical.propDecidable _) h _ _ _
theorem x_hd_r {M : bM} {d l p : Int} : ∀ n : Nat, 0 ≤ x_hd M d l p n ∧ x_hd M d l p n ≤ n := by
  intro n
  induction n with
  | zero => exact ⟨Int.le_refl 0, Int.le_refl 0⟩
  | succ n ih =>
    by_cases h : x_tx M d l p n
    · have := x_hd_1 (by omega) h
      rw [show ((n : Int) + 1).toNat = n + 1 by omega, show ((n : Int)).toNat = n by omega] at this
      omega
    · have := x_hd_0 (by omega) h
      rw [show ((n : Int) + 1).toNat = n + 1 by omega] at this
      omega
theorem E_b_of {M : bM} {d : Int} (hE : E_all M) (hK : Kn M d) (hV : Evc M d) : E_b M d := ⟨hE.1, hK, hE.2.2.2.1, hE.2.2.2.2.1, hE.2.2.2.2.2.2.1, hE.2.2.2.2.2.2.2.1, hV.2.1, hV.2.2.1⟩
theorem E_n_refl {M : bM} : E_n M M := fun _ _ _ _ _ _ => rfl
theorem e_X4_isTaxOf {M : bM} {d l p k : Int} (hE : E_all M) (hK : Kn M d) (hV : Evc M d) (hk : 0 ≤ k ∧ k < M 5 0) (hl : 0 ≤ l ∧ l < M 3 0) (hp : 0 ≤ p ∧ p < M 2 0) (h4 : M 194 k = 4) : F_X4_isTaxOf k l p M = some (b_01 (x_ty M d l p k)) := by
  refine b_eqn ?_
  have hB := E_b_of hE hK hV
  have s1 := hE.2.2.2.1.1
  have l1 := hE.2.2.1.1
  have l2 : M 174 = M 91 := hE.2.2.1.2.1.2.2.2.2.1
  obtain ⟨p1, p2, p3, p4, p5, p6, p7, p8⟩ := hE.2.2.2.2.1 k hk.1 hk.2
  have hT := T_ok_of hE.1
  have r1 := hE.1.1
  have hlp := x_lab_r (d := d) (p := p) hT (by omega)
  have v1 := hV.2.2.1 k hk.1 hk.2
  unfold F_X4_isTaxOf
  refine b_We (e_X7_saying hk (by omega) (by omega)) (b_Wg (by omega) (b_We (e_X5_isAmong (by omega)) (b_Wi (fun q => b_Ws ?_) (fun q => b_Wg (by omega) (b_Wi (fun q1 => b_Ws ?_) (fun q1 => ?_))))))
  · rw [b_01_0] at q
    refine (b_01_0.mpr (fun z => q ⟨?_, ?_, ?_⟩)).symm
    · have := z.2.2.1; omega
    · omega
    · rw [← l2, ← p7.1]; exact z.2.2.2.1
  · exact (b_01_0.mpr (fun z => by have := v1.2.mpr z.2.1; omega)).symm
  · rw [b_01_0] at q
    have q := Decidable.of_not_not q
    refine b_We (e_X7_wb hB E_n_refl hk) (b_Wi (fun q2 => b_Ws ?_) (fun q2 => b_We (e_X4_thing hB E_n_refl hk (by omega)) (b_We (e_X8_groupOf hE.1 hK (Or.inr hp)) ?_)))
    · exact (b_01_0.mpr (fun z => by have := z.2.2.2.2.2.2; omega)).symm
    · rw [if_neg (show ¬ p = -1 by omega)]
      have hs : M 196 (3 * k + 2) ≠ -1 ∧ j_bt (M 174 l) (M 196 (3 * k + 2)).toNat = true := by
        rw [p7.1, l2]; exact ⟨by omega, q.2.2⟩
      refine b_Wi (fun q3 => b_Ws ?_) (fun q3 => b_Ws ?_)
      · unfold x_T at q3
        by_cases q4 : M 196 (3 * k + 1) = -1
        · rw [if_pos q4] at q3; omega
        · rw [if_neg q4, if_neg (by decide)] at q3
          exact (b_01_1.mpr ⟨h4, v1.2.mp (by omega), hs.1, hs.2, q4, q3, by omega⟩).symm
      · refine (b_01_0.mpr (fun z => q3 ?_)).symm
        unfold x_T
        rw [if_neg z.2.2.2.2.1, if_neg (by decide)]
        exact z.2.2.2.2.2.1
theorem t_years {a z : Int} {M : bM} (ha : 0 ≤ a ∧ a ≤ 27) : b_wp (F_X4_years a z M) (fun r => ∀ y : Nat, y ≤ 27 → (i_bt r y = true ↔ a ≤ y ∧ (y : Int) ≤ z)) := by
  unfold F_X4_years F_X4_years_b27
  refine b_Wb (b_loop_ind (I := fun s : Int × Int => (a ≤ s.2 ∧ s.2 ≤ 28 ∧ (s.2 ≤ z + 1 ∨ s.2 = a)) ∧ ∀ y : Nat, y ≤ 27 → (i_bt s.1 y = true ↔ a ≤ y ∧ (y : Int) < s.2)) (fun s => (28 - s.2).toNat) ?_ (0, a) ⟨by dsimp only; omega, fun y _ => ⟨fun h => by rw [i_bt_0] at h; exact absurd h (by decide), fun h => by have := h.2; dsimp only at this; omega⟩⟩)
  intro ⟨r, v⟩ ⟨h1, h2⟩
  dsimp only at h1 h2 ⊢
  unfold F_X4_years_s4
  refine b_Wi (fun q => b_Ws (b_Ws (fun y hy => ?_))) (fun q => b_Wi (fun q2 => b_Ws (b_Ws (fun y hy => ?_))) (fun q2 => b_Wl (b_Wg (by omega) (b_Ws ⟨⟨by dsimp only; omega, fun y hy => ?_⟩, by dsimp only; omega⟩))))
  · rw [h2 y hy]; omega
  · rw [h2 y hy]; omega
  · dsimp only
    rw [i_bt_or, i_bt_shl (by omega)]
    have h3 := h2 y hy
    by_cases qy : (y : Int) = v
    · rw [decide_eq_true qy]
      simp only [Bool.or_true, true_iff]
      omega
    · rw [decide_eq_false qy, Bool.or_false, h3]
      omega
theorem e_X4_yearsHeld {M : bM} {d l p y : Int} (hE : E_all M) (hK : Kn M d) (hV : Evc M d) (hl : 0 ≤ l ∧ l < M 3 0) (hp : 0 ≤ p ∧ p < M 2 0) (hy : 0 ≤ y ∧ y ≤ 27) : F_X4_yearsHeld l p y M = some (x_hd M d l p (y + 1).toNat) := by
  refine b_eqn ?_
  have s1 := hE.2.2.2.1.1
  unfold F_X4_yearsHeld
  refine b_Wb (b_wp_m (fun r hr => ?_) (b_loop_ind (P := fun r : Int => ∀ z : Nat, z ≤ 27 → (i_bt r z = true ↔ x_tx M d l p z)) (I := fun s : Int × Int => (0 ≤ s.2 ∧ s.2 ≤ M 5 0) ∧ ∀ z : Nat, z ≤ 27 → (i_bt s.1 z = true ↔ ∃ k, (0 ≤ k ∧ k < s.2) ∧ x_ty M d l p k ∧ M 197 k ≤ 365 * (z : Int) + 364 ∧ 365 * (z : Int) ≤ M 198 k)) (fun s => (M 5 0 - s.2).toNat) ?_ (0, 0) ⟨by dsimp only; omega, fun z _ => ⟨fun h => by rw [i_bt_0] at h; exact absurd h (by decide), fun ⟨k, hk, _⟩ => by dsimp only at hk; omega⟩⟩))
  · unfold F_X4_yearsHeld_b85 F_X4_yearsHeld_b115
    refine b_Wb (b_loop_ind (I := fun s : Int × Int => (-1 ≤ s.2 ∧ s.2 ≤ 27) ∧ (0 ≤ s.1 ∧ s.1 ≤ 27 - s.2) ∧ s.1 + x_hd M d l p (s.2 + 1).toNat = x_hd M d l p (y + 1).toNat) (fun s => (s.2 + 1).toNat) ?_ (0, y) ⟨by dsimp only; omega, by dsimp only; omega, by dsimp only; omega⟩)
    intro ⟨a, v⟩ ⟨h1, h2, h3⟩
    dsimp only at h1 h2 h3 ⊢
    unfold F_X4_yearsHeld_s91
    by_cases q : v < 0
    · refine b_Wt q (b_Ws (b_Ws (show a = _ from ?_)))
      rw [← h3, show v = -1 by omega]
      show a = a + 0
      omega
    · refine b_Wf q ?_
      rw [i_bt_shr (by omega)]
      have hb := hr v.toNat (by omega)
      rw [show ((v.toNat : Nat) : Int) = v by omega] at hb
      refine b_Wi (fun q1 => b_Ws (b_Ws (show a = _ from ?_))) (fun q1 => b_Wg (by omega) (b_Ws ⟨⟨by dsimp only; omega, by dsimp only; omega, ?_⟩, by dsimp only; omega⟩))
      · have : ¬ x_tx M d l p v := fun z => by rw [if_pos (hb.mpr z)] at q1; omega
        rw [x_hd_0 (by omega) this] at h3
        omega
      · have : x_tx M d l p v := hb.mp (by
          by_cases z : i_bt r v.toNat = true
          · exact z
          · rw [if_neg z] at q1; omega)
        rw [x_hd_1 (by omega) this] at h3
        dsimp only
        rw [show v + -1 + 1 = v by omega]
        omega
  · intro ⟨r, k⟩ ⟨h1, h2⟩
    dsimp only at h1 h2 ⊢
    unfold F_X4_yearsHeld_s6
    by_cases q : M 5 0 ≤ k
    · refine b_Wt q (b_Ws (fun z hz => ?_))
      rw [h2 z hz, show k = M 5 0 by omega]
      rfl
    · obtain ⟨p1, p2, p3, p4, p5, p6, p7, p8⟩ := hE.2.2.2.2.1 k h1.1 (by omega)
      have skip : ¬ x_ty M d l p k → ((0 ≤ k + 1 ∧ k + 1 ≤ M 5 0) ∧ ∀ z : Nat, z ≤ 27 → (i_bt r z = true ↔ ∃ j, (0 ≤ j ∧ j < k + 1) ∧ x_ty M d l p j ∧ M 197 j ≤ 365 * (z : Int) + 364 ∧ 365 * (z : Int) ≤ M 198 j)) ∧ (M 5 0 - (k + 1)).toNat < (M 5 0 - k).toNat := by
        intro n
        refine ⟨⟨by omega, fun z hz => ?_⟩, by omega⟩
        rw [h2 z hz]
        constructor
        · intro ⟨j, hj, g⟩
          exact ⟨j, by omega, g⟩
        · intro ⟨j, hj, g⟩
          by_cases qj : j = k
          · subst qj; exact absurd g.1 n
          · exact ⟨j, by omega, g⟩
      refine b_Wf q (b_Wg (by omega) (b_Wi (fun q1 => b_We (e_X4_isTaxOf hE hK hV ⟨h1.1, by omega⟩ hl hp (by omega)) (b_Wi (fun q2 => b_Wg (by omega) (b_Ws (skip (b_01_0.mp q2)))) (fun q2 => b_Wg (by omega) ?_))) (fun q1 => b_Wg (by omega) (b_Ws (skip (fun z => q1 (by rw [← p1.1]; exact z.1)))))))
      rw [b_01_0] at q2
      have q3 := Decidable.of_not_not q2
      rw [i_div_e (by omega) (by omega), i_div_e (by omega) (by omega)]
      refine b_Wb (b_wp_m (fun x hx => ?_) (t_years (by omega)))
      refine b_Wl (b_Wg (by omega) (b_Ws ⟨⟨by dsimp only; omega, fun z hz => ?_⟩, by dsimp only; omega⟩))
      dsimp only
      rw [i_bt_or, Bool.or_eq_true, h2 z hz, hx z hz]
      constructor
      · intro g
        rcases g with ⟨j, hj, g⟩ | g
        · exact ⟨j, by omega, g⟩
        · exact ⟨k, by omega, q3, by omega, by omega⟩
      · intro ⟨j, hj, g⟩
        by_cases qj : j = k
        · subst qj; exact Or.inr (by omega)
        · exact Or.inl ⟨j, by omega, g⟩
