/-! the memory in which class and reference begin -/
abbrev m_l : List (Nat × Int × Int) := [(11, 0, 1), (11, 9, -1), (11, 14, 1), (11, 15, 1), (11, 16, 1), (11, 17, 1), (11, 18, 1), (11, 19, 1), (11, 21, 1), (11, 22, 1), (11, 23, 1), (11, 24, 1), (11, 25, 1), (11, 26, 1), (11, 27, 1), (11, 28, 1), (11, 29, 1), (11, 30, 1), (11, 31, 1), (11, 33, 1), (11, 34, 1), (11, 36, 1), (11, 37, 1), (11, 38, 1), (11, 39, 1), (11, 40, 1), (11, 41, 1), (11, 42, 1), (11, 43, 1), (11, 44, 1), (11, 45, 1), (11, 46, 1), (11, 47, 1), (11, 54, 20), (11, 55, 1), (11, 56, 1), (11, 57, 1), (11, 58, 1), (11, 59, 1), (11, 60, 1), (11, 61, 1), (11, 62, 1), (11, 63, 1), (11, 64, 1), (11, 65, 1), (11, 66, 1), (11, 67, 1), (11, 68, 1), (11, 69, 1), (11, 70, 1), (11, 71, 1), (11, 72, 1), (11, 73, 1), (11, 74, 1), (11, 75, 1), (11, 76, 1), (11, 77, 1), (11, 78, 1), (11, 79, 1), (11, 88, 1), (11, 89, 1), (11, 90, 1), (11, 91, 1), (11, 92, 1), (11, 98, 1), (11, 100, 1), (11, 101, 1), (11, 102, 1), (11, 103, 1), (11, 104, 1), (11, 105, 1), (11, 108, 1), (11, 109, 1), (11, 110, 1), (11, 111, 1), (11, 112, 1), (11, 113, 1), (11, 114, 1), (11, 115, 1), (11, 116, 1), (11, 117, 1), (11, 119, 1), (11, 120, 1), (11, 121, 1), (11, 122, -1), (11, 123, -1), (11, 124, 1)]
def m_c : bM := b_up mbh10 0 10 0
def m_0 : bM := mi2 (mi1 (b_upl m_c m_l) 60) 11
theorem b_upl_lo {M : bM} {l : List (Nat × Int × Int)} {c : Nat} {i : Int} (h : l.all (fun u => decide (u.1 < 32) || u.1 == 141) = true) (hc : 32 ≤ c) (h2 : c ≠ 141) : b_upl M l c i = M c i := by
  refine b_upl_ne l M (fun u hu => ?_) i
  rw [List.all_eq_true] at h
  have := h u hu
  simp at this
  omega
theorem mz_c {c : Nat} {i : Int} (h1 : 32 ≤ c) (h2 : c ≠ 141) (h3 : c ≠ 85 ∧ c ≠ 104 ∧ c ≠ 105 ∧ c ≠ 106 ∧ c ≠ 107) : m_c c i = 0 := by
  unfold m_c mbh10 mbh9 mbh8 mbh7 mbh6 mbh5 mbh4 mbh3 mbh2 mbh1
  rw [b_upc (by omega), b_upc (by omega), b_upl_lo (by decide) h1 h2, b_upc (by omega), b_upl_lo (by decide) h1 h2, b_upc (by omega), b_upl_lo (by decide) h1 h2, b_upc (by omega), b_upl_lo (by decide) h1 h2, b_upc (by omega), b_upl_lo (by decide) h1 h2, b_upc (by omega), b_upl_lo (by decide) h1 h2, b_upc (by omega), b_upc (by omega), macs_ne 10 (by omega) (fun j hj => by omega), b_upc (by omega), b_upl_lo (by decide) h1 h2, b_set_n (by omega), b_upc (by omega), b_upl_lo (by decide) h1 h2, b_upc (by omega), b_upl_lo (by decide) h1 h2]
  rfl
theorem m_0c {c : Nat} {i : Int} (h1 : c ≠ 183) (h2 : c ≠ 171 ∧ c ≠ 217 ∧ c ≠ 236) (h3 : c ≠ 11) : m_0 c i = m_c c i := by
  unfold m_0 mi2 mi1
  rw [if_neg (fun q => h1 q.1), if_neg (fun q => by omega)]
  refine b_upl_ne m_l m_c (fun u hu => ?_) i
  have : ∀ u ∈ m_l, u.1 = 11 := by decide +kernel
  rw [this u hu]; exact h3
theorem m_0z {c : Nat} {i : Int} (h1 : 32 ≤ c) (h2 : c ≠ 141) (h3 : c ≠ 85 ∧ c ≠ 104 ∧ c ≠ 105 ∧ c ≠ 106 ∧ c ≠ 107) (h4 : c ≠ 183 ∧ c ≠ 171 ∧ c ≠ 217 ∧ c ≠ 236) : m_0 c i = 0 := by
  rw [m_0c h4.1 h4.2 (by omega)]; exact mz_c h1 h2 h3
theorem m_0e {c d : Nat} (h : ∀ i, m_0 c i = 0) (h2 : ∀ i, m_0 d i = 0) : m_0 c = m_0 d := funext fun i => (h i).trans (h2 i).symm
theorem m_0n {c : Nat} {i : Int} (h : c = 171 ∨ c = 217 ∨ c = 236) (hi : 0 ≤ i ∧ i < 60) : m_0 c i = -1 := by
  unfold m_0 mi2 mi1
  rw [if_neg (fun q => by omega), if_pos ⟨h, hi⟩]
theorem m_0r {i : Int} (hi : 0 ≤ i ∧ i < 11) : m_0 183 (99 + i) = s_plain i := by
  unfold m_0 mi2
  rw [if_pos ⟨rfl, by omega, by omega⟩, show 99 + i - 99 = i by omega]
/-- single places -/
theorem m_0f : (m_0 0 10 = 0 ∧ m_0 11 11 = 0 ∧ m_0 1 1 = 0 ∧ m_0 11 1 = 0 ∧ m_0 2 0 = 0 ∧ m_0 2 1 = 0 ∧ m_0 11 12 = 0 ∧ m_0 11 13 = 0 ∧ m_0 1 5 = 0 ∧ m_0 1 6 = -1 ∧ m_0 11 8 = 0 ∧ m_0 11 9 = -1) ∧ (m_0 3 0 = 0 ∧ m_0 11 20 = 0 ∧ m_0 9 1 = 0 ∧ m_0 11 107 = 0 ∧ m_0 6 0 = 0 ∧ m_0 11 52 = 0 ∧ m_0 5 1 = 20 ∧ m_0 11 54 = 20 ∧ m_0 10 0 = 0 ∧ m_0 11 118 = 0 ∧ m_0 10 13 = 0 ∧ m_0 11 122 = -1 ∧ m_0 11 123 = -1) ∧ (m_0 11 97 = 0 ∧ m_0 141 3 = -1 ∧ m_0 8 0 = 0 ∧ m_0 11 99 = 0 ∧ m_0 9 0 = 0 ∧ m_0 11 106 = 0 ∧ m_0 5 0 = 0 ∧ m_0 11 53 = 0 ∧ m_0 2 7 = -1 ∧ m_0 2 8 = 0 ∧ m_0 2 9 = 0 ∧ m_0 4 0 = 0 ∧ m_0 11 35 = 0 ∧ m_0 6 5 = 0 ∧ m_0 12 1 = 0) := by decide +kernel
theorem m_022 : ∀ i : Nat, i < 10 → m_0 22 (i : Int) = s_plain (i : Int) ∧ (0 ≤ s_plain (i : Int) ∧ s_plain (i : Int) ≤ 9999) ∧ (i = 6 → s_plain (i : Int) ≤ 99) := by decide +kernel
theorem m_85 {j : Nat} : m_0 85 (j : Int) = (s_cd s_t0 4 7).2 (j : Int) := by
  rw [m_0c (by decide) (by decide) (by decide)]
  unfold m_c mbh10 mbh9 mbh8 mbh7 mbh6 mbh5 mbh4 mbh3
  rw [b_upc (by decide), b_upc (by decide), b_upl_lo (by decide) (by decide) (by decide), b_upc (by decide), b_upl_lo (by decide) (by decide) (by decide), b_upc (by decide), b_upl_lo (by decide) (by decide) (by decide), b_upc (by decide), b_upl_lo (by decide) (by decide) (by decide), b_upc (by decide), b_upl_lo (by decide) (by decide) (by decide), b_upc (by decide), b_upl_lo (by decide) (by decide) (by decide), b_upc (by decide), b_upc (by decide), macs_ne 10 (by decide) (fun j hj => by omega), b_upc (by decide), b_upl_lo (by decide) (by decide) (by decide), b_set_s]
theorem macs_lo {M : bM} {c : Nat} {i : Int} (h : 32 ≤ c) (h2 : c ≠ 107) : ∀ k : Nat, k ≤ 10 → macs M k c i = mac6 M c i := by
  intro k
  induction k with
  | zero => intro _; rfl
  | succ k ih =>
    intro hk
    unfold macs
    rw [mact_ne (by omega) (by omega) h2]
    exact ih (by omega)
theorem m_10x {c : Nat} {j : Int} (hc : c = 104 ∨ c = 105 ∨ c = 106) : m_0 c j = mac6 mbh3 c j := by
  rw [m_0c (by omega) (by omega) (by omega)]
  unfold m_c mbh10 mbh9 mbh8 mbh7 mbh6 mbh5 mbh4
  rw [b_upc (by omega), b_upc (by omega), b_upl_lo (by decide) (by omega) (by omega), b_upc (by omega), b_upl_lo (by decide) (by omega) (by omega), b_upc (by omega), b_upl_lo (by decide) (by omega) (by omega), b_upc (by omega), b_upl_lo (by decide) (by omega) (by omega), b_upc (by omega), b_upl_lo (by decide) (by omega) (by omega), b_upc (by omega), b_upl_lo (by decide) (by omega) (by omega), b_upc (by omega), b_upc (by omega), macs_lo (by omega) (by omega) 10 (by decide)]
theorem m_104 {j : Int} : m_0 104 j = (s_cd s_t1 11 61).2 j := by
  rw [m_10x (by omega)]
  unfold mac6
  rw [b_upc (by decide), b_set_n (by decide), b_upc (by decide), b_set_n (by decide), b_upc (by decide), b_set_s]
theorem m_105 {j : Int} : m_0 105 j = (s_cd s_t2 7 39).2 j := by
  rw [m_10x (by omega)]
  unfold mac6
  rw [b_upc (by decide), b_set_n (by decide), b_upc (by decide), b_set_s]
theorem m_106 {j : Int} : m_0 106 j = (s_cd s_t3 7 30).2 j := by
  rw [m_10x (by omega)]
  unfold mac6
  rw [b_upc (by decide), b_set_s]
theorem m_wd1 : ∀ j : Nat, j < 10 → ([12748404, 644677, 4707412, 7216, 486155365, 409031, 26379859, 15782163, 8562259, 218564, 17382886] : List Int).getD j 0 = kW (j + 1) := by decide +kernel
theorem m_wd0 : ([12748404, 644677, 4707412, 7216, 486155365, 409031, 26379859, 15782163, 8562259, 218564, 17382886] : List Int).getD 10 0 = kW 0 := by decide +kernel
theorem m_wd2 : ∀ j : Nat, j < 7 → ([136356, 114201, 9900216, 493192, 20536, 17172101, 37166318708] : List Int).getD j 0 = kW (j + 11) := by decide +kernel
theorem m_wd3 : ∀ j : Nat, j < 7 → ([498, 1476, 14836, 1130181, 2273783, 307, 762030] : List Int).getD j 0 = kW (j + 18) := by decide +kernel
theorem m_wd : R_wd m_0 := by
  refine ⟨fun j hj => ?_, ?_, fun j hj => ?_, fun j hj => ?_⟩
  · rw [m_104]; exact (cds1 j).trans (m_wd1 j hj)
  · rw [m_104]
    have h := cds1 10
    rw [show ((10 : Nat) : Int) = 10 from rfl] at h
    exact h.trans m_wd0
  · rw [m_105]; exact (cds2 j).trans (m_wd2 j hj)
  · rw [m_106]; exact (cds3 j).trans (m_wd3 j hj)
theorem m_ways : R_ways m_0 := ⟨(m_85 (j := 0)).trans (cds0 0), (m_85 (j := 1)).trans (cds0 1), (m_85 (j := 2)).trans (cds0 2), (m_85 (j := 3)).trans (cds0 3)⟩
theorem R_fin_0 : R_fin 0 m_0 := by
  obtain ⟨⟨a1, a2, a3, a4, a5, a6, a7, a8, a9, a10, a11, a12⟩, ⟨b1, b2, b3, b4, b5, b6, b7, b8, b9, b10, b11, b12, b13⟩, c1, c2, c3, c4, c5, c6, c7, c8, c9, c10, c11, c12, c13, c14, c15⟩ := m_0f
  have z : ∀ c : Nat, 32 ≤ c ∧ c ≠ 141 ∧ c ≠ 85 ∧ c ≠ 104 ∧ c ≠ 105 ∧ c ≠ 106 ∧ c ≠ 107 ∧ c ≠ 183 ∧ c ≠ 171 ∧ c ≠ 217 ∧ c ≠ 236 → ∀ i, m_0 c i = 0 := fun c h i => m_0z h.1 h.2.1 ⟨h.2.2.1, h.2.2.2.1, h.2.2.2.2.1, h.2.2.2.2.2.1, h.2.2.2.2.2.2.1⟩ h.2.2.2.2.2.2.2
  refine ⟨⟨by omega, by omega, by omega⟩, ⟨by omega, by omega, by omega, m_0e (z 162 (by decide)) (z 72 (by decide)), fun i => by rw [z 72 (by decide)]; decide⟩, ⟨by omega, ⟨m_0e (z 163 (by decide)) (z 76 (by decide)), m_0e (z 164 (by decide)) (z 77 (by decide)), m_0e (z 165 (by decide)) (z 78 (by decide)), m_0e (z 166 (by decide)) (z 79 (by decide)), m_0e (z 167 (by decide)) (z 80 (by decide))⟩, fun p => by rw [z 76 (by decide)]; decide, fun t t0 t1 => by omega⟩, ⟨by omega, by omega⟩, ⟨by omega, ⟨m_0e (z 169 (by decide)) (z 86 (by decide)), m_0e (z 170 (by decide)) (z 87 (by decide)), m_0e (z 172 (by decide)) (z 89 (by decide)), m_0e (z 173 (by decide)) (z 90 (by decide)), m_0e (z 174 (by decide)) (z 91 (by decide)), m_0e (z 218 (by decide)) (z 93 (by decide))⟩, fun i i0 i1 => by omega, fun i i0 i1 => ⟨m_0n (by omega) ⟨by omega, i1⟩, m_0n (by omega) ⟨by omega, i1⟩⟩⟩, ⟨⟨m_0e (z 175 (by decide)) (z 94 (by decide)), m_0e (z 176 (by decide)) (z 95 (by decide)), m_0e (z 177 (by decide)) (z 96 (by decide))⟩, fun l => by rw [z 94 (by decide)]; decide, fun l i _ _ i0 i1 => by rw [z 94 (by decide)] at i1; omega⟩, ⟨by omega, by omega, by omega⟩, ⟨by omega, by omega, by omega⟩, ⟨by omega, by omega, by omega⟩, ?_⟩
  refine ⟨⟨by omega, ⟨m_0e (z 241 (by decide)) (z 155 (by decide)), m_0e (z 242 (by decide)) (z 156 (by decide)), m_0e (z 243 (by decide)) (z 157 (by decide))⟩, fun i i0 i1 => by omega⟩, Or.inl ⟨b11, b12, b13⟩, Or.inl ⟨c1, c2⟩, ⟨by omega, ⟨m_0e (z 225 (by decide)) (z 142 (by decide)), m_0e (z 227 (by decide)) (z 143 (by decide)), m_0e (z 228 (by decide)) (z 144 (by decide)), m_0e (z 229 (by decide)) (z 145 (by decide)), m_0e (z 230 (by decide)) (z 146 (by decide))⟩, fun i i0 i1 => by omega⟩, ⟨by omega, ⟨m_0e (z 231 (by decide)) (z 147 (by decide)), m_0e (z 232 (by decide)) (z 148 (by decide)), m_0e (z 233 (by decide)) (z 149 (by decide))⟩, fun i i0 i1 => by omega⟩, ⟨by omega, fun i i0 i1 => by omega, fun i _ _ => z 200 (by decide) i⟩, ⟨by omega, by omega, fun _ _ q => absurd q (by omega)⟩, ⟨⟨by omega, by omega, by omega⟩, fun a a1 a2 => by omega, fun a a2 => ?_⟩, fun k k0 k1 => by omega, fun k k0 k1 => by omega, Or.inl c14, fun k k0 k1 => by omega, fun a a1 a2 => by omega, fun r r0 r1 => by omega, ⟨fun c _ _ => ?_, fun l l0 l1 => Or.inl ⟨z 152 (by decide) l, m_0n (by omega) ⟨l0, l1⟩⟩⟩, fun c c0 c1 => by omega, m_ways, fun l _ _ => ⟨fun i i0 i1 => by rw [z 94 (by decide)] at i1; omega, Or.inl (fun i i0 i1 => by rw [z 94 (by decide)] at i1; omega)⟩, fun a a1 a2 => by omega, fun k _ _ => z 124 (by decide) _, fun l _ _ => by rw [z 95 (by decide), z 96 (by decide)]; decide, m_wd, fun j => by rw [z 193 (by decide)]; decide, fun a ha => z (52 + a) (by omega) 0, ?_, fun i i0 i1 => by omega, fun c _ _ => by rw [z 151 (by decide)]; decide⟩
  · have e : a = 0 := by omega
    subst e
    have q : (11 : Int) * x_mod ((0 : Nat) : Int) = 99 := by decide
    rw [q]
    refine ⟨?_, ⟨by rw [c15]; decide, by rw [c15]; decide⟩, fun _ => c15, fun i i0 i1 => ?_⟩
    · rw [m_0r ⟨by decide, by decide⟩]; exact c15
    · obtain ⟨n, rfl⟩ : ∃ n : Nat, i = n := ⟨i.toNat, by omega⟩
      obtain ⟨w1, w2, w3⟩ := m_022 n (by omega)
      rw [m_0r ⟨i0, by omega⟩, show m_0 (22 + 0) (n : Int) = s_plain n from w1]
      exact ⟨rfl, w2, fun q => w3 (by omega)⟩
  · rw [z 234 (by decide), z 150 (by decide), z 235 (by decide), z 151 (by decide)]; decide
  · show 1 ≤ m_0 11 54
    omega
