theorem Br_u {M : bM} {d l p r r2 : Int} (h : Br M d l p r) (h2 : Br M d l p r2) : r = r2 := by
  rcases h with ⟨a1, a2⟩ | ⟨a1, a2, a3⟩
  · rcases h2 with ⟨b1, b2⟩ | ⟨b1, b2, b3⟩
    · rw [a1, b1]
    · exact absurd b2 (a2 r2 b1)
  · rcases h2 with ⟨b1, b2⟩ | ⟨b1, b2, b3⟩
    · exact absurd a2 (b2 r a1)
    · by_cases q : r < r2
      · exact absurd a2 (b3 r q a1)
      · by_cases q2 : r2 < r
        · exact absurd b2 (a3 r2 q2 b1)
        · omega
theorem Gw_u {M : bM} {d l p x w w2 : Int} (h : Gw M d l p x w) (h2 : Gw M d l p x w2) : w = w2 := by
  rcases h with ⟨a1, a2⟩ | ⟨a1, a2, ⟨a3, a4, a5⟩, a6⟩
  · rcases h2 with ⟨b1, b2⟩ | ⟨b1, b2, b3⟩
    · rw [a1, b1]
    · exact absurd (Ch_x b2 b1) a2
  · rcases h2 with ⟨b1, b2⟩ | ⟨b1, b2, ⟨b3, b4, b5⟩, b6⟩
    · exact absurd (Ch_x a2 a1) b2
    · have e1 := b6 a3 a4 (by rw [← a5]; exact a2) (by rw [← a5]; exact a1)
      have e2 := a6 b3 b4 (by rw [← b5]; exact b2) (by rw [← b5]; exact b1)
      rw [← a5] at e1
      rw [← b5] at e2
      exact Int.le_antisymm e1 e2
theorem Sh_u {M : bM} {d l p x : Int} {t t2 : Nat} (h : Sh M d l p x t) (h2 : Sh M d l p x t2) : t = t2 := by
  by_cases q : t < t2
  · exact absurd h.2.1 (h2.2.2 t q)
  · by_cases q2 : t2 < t
    · exact absurd h2.2.1 (h.2.2 t2 q2)
    · omega
theorem Sr_u {M : bM} {d l p a a2 : Int} {F G : Int → Int} (hl : M 11 20 = M 3 0) (h : Sr M d l p a F) (h2 : Sr M d l p a2 G) : a = a2 ∧ (a ≠ -1 → (a = 0 ∨ a = 1) ∧ F 0 = a ∧ G 0 = F 0 ∧ G 1 = F 1 ∧ G 2 = F 2 ∧ G 3 = F 3 ∧ (0 ≤ F 2 ∧ F 2 ≤ 8) ∧ (0 ≤ F 3 ∧ F 3 < M 3 0) ∧ ∀ i, 0 ≤ i → i < F 2 → G (4 + i) = F (4 + i)) := by
  obtain ⟨r, w, b1, b2, b3⟩ := h
  obtain ⟨r', w', c1, c2, c3⟩ := h2
  have er := Br_u b1 c1
  subst er
  have ew := Gw_u b2 c2
  subst ew
  rcases b3 with ⟨m1, m2, m3, m4, t, m5, m6, ⟨m7, m8, m9⟩, ⟨D, m10⟩⟩ | ⟨m1, m2, m3, m4, m5, m6, m7⟩ | ⟨m1, m2, m3, m4⟩ | ⟨m1, m2, m3, be, r1, b, m4, m5, m6, m7, m8, m9⟩
  · rcases c3 with ⟨n1, n2, n3, n4, t', n5, n6, ⟨n7, n8, n9⟩, ⟨D', n10⟩⟩ | ⟨n1, _⟩ | ⟨n1, _⟩ | ⟨n1, _⟩
    · have et := Sh_u m5 n5
      subst et
      have e3 : G 3 = F 3 := by
        by_cases q : G 3 < F 3
        · obtain ⟨b, hb⟩ := n8
          exact absurd hb (m9 _ b q)
        · by_cases q2 : F 3 < G 3
          · obtain ⟨b, hb⟩ := m8
            exact absurd hb (n9 _ b q2)
          · clear m8 n8
            omega
      rw [e3] at n10
      have hu := Rp_u m10 n10
      have t8 := m5.1
      refine ⟨by rw [m2, n2], fun _ => ⟨Or.inl m2, by rw [m2, m3], by rw [m3, n3], by rw [m4, n4], by rw [m6, n6], e3, by clear m8 n8; omega, m7, fun i h0 h1 => ?_⟩⟩
      have := (hu i.toNat (by clear m8 n8; omega)).1
      have ei : ((i.toNat : Nat) : Int) = i := by omega
      rw [ei] at this
      exact this.symm
    · exact absurd n1 m1
    · exact absurd n1 m1
    · exact absurd n1 m1
  · rcases c3 with ⟨n1, _⟩ | ⟨n1, n2, n3, n4, n5, n6, n7⟩ | ⟨n1, n2, _⟩ | ⟨n1, n2, _⟩
    · exact absurd m1 n1
    · refine ⟨by rw [m3, n3], fun _ => ⟨Or.inl m3, by rw [m3, m4], by rw [m4, n4], by rw [m5, n5], by rw [m6, n6], by rw [m7, n7], by omega, ?_, fun i h0 h1 => by omega⟩⟩
      rcases b1 with ⟨q, _⟩ | ⟨⟨q, _⟩, _⟩
      · exact absurd q m2
      · omega
    · exact absurd n2 m2
    · exact absurd n2 m2
  · rcases c3 with ⟨n1, _⟩ | ⟨n1, n2, _⟩ | ⟨n1, n2, n3, n4⟩ | ⟨n1, n2, n3, be, r1, b, n4, _⟩
    · exact absurd m1 n1
    · exact absurd m2 n2
    · exact ⟨by rw [m3, n3], fun z => absurd m3 z⟩
    · exact absurd n4.1 (m4 _ _)
  · rcases c3 with ⟨n1, _⟩ | ⟨n1, n2, _⟩ | ⟨n1, n2, n3, n4⟩ | ⟨n1, n2, n3, be', r1', b', n4, n5, n6, n7, n8, n9⟩
    · exact absurd m1 n1
    · exact absurd m2 n2
    · exact absurd m4.1 (n4 _ _)
    · have x1 := m4.2.2 r1' b' n4.1
      have x2 := n4.2.2 r1 b m4.1
      have z1 := m4.2.1
      have z2 := n4.2.1
      have eb : be = be' := by
        have := x1.1
        have := x2.1
        rw [← z2] at *
        rw [← z1] at *
        omega
      subst eb
      have y1 := x1.2 z2.symm
      have y2 := x2.2 z1.symm
      have hr := m4.1.1.1
      refine ⟨by rw [m3, n3], fun _ => ⟨Or.inr m3, by rw [m3, m5], by rw [m5, n5], by rw [m6, n6], by rw [m7, n7], by omega, by omega, by omega, fun i h0 h1 => ?_⟩⟩
      have ei : i = 0 := by omega
      subst ei
      rw [show (4 : Int) + 0 = 4 from rfl, m9, n9]
      omega
theorem b_disA {W A B : bW} (h : b_dis W (A ++ B) = true) : b_dis W A = true ∧ b_dis W B = true := by
  unfold b_dis at h ⊢
  rw [List.all_eq_true] at h
  refine ⟨List.all_eq_true.mpr fun e he => ?_, List.all_eq_true.mpr fun e he => ?_⟩
  · have := h e he
    rw [List.all_append, Bool.and_eq_true] at this
    exact this.1
  · have := h e he
    rw [List.all_append, Bool.and_eq_true] at this
    exact this.2
/-- all that is asked at every call about EVIDENCE -/
def C_all (M : bM) : Prop := E_all M ∧ R_ev M ∧ P_all M ∧ R_root M
def S_E : bW := S_ppl ++ (S_know ++ (S_lots ++ (S_sign ++ (S_pap ++ (S_pages ++ (S_rules ++ (S_spec ++ ([(4, some 0), (124, none)] ++ S_burnt))))))))
def S_P : bW := [(11, some 54)] ++ (S_prog ++ S_marks)
def S_C : bW := S_E ++ (S_ev ++ (S_P ++ S_root))
theorem E_kk {W : bW} {M N : bM} (f : b_fr W M N) (d : b_dis W S_E = true) (h : E_all M) : E_all N := by
  unfold S_E at d
  have a1 := b_disA d
  have a2 := b_disA a1.2
  have a3 := b_disA a2.2
  have a4 := b_disA a3.2
  have a5 := b_disA a4.2
  have a6 := b_disA a5.2
  have a7 := b_disA a6.2
  have a8 := b_disA a7.2
  have a9 := b_disA a8.2
  exact E_all_k f a1.1 a2.1 a3.1 a4.1 a5.1 a6.1 a7.1 a8.1 a9.1 a9.2 h
theorem P_kk {W : bW} {M N : bM} (f : b_fr W M N) (d : b_dis W S_P = true) (h : P_all M) : P_all N := by
  unfold S_P at d
  have a1 := b_disA d
  have a2 := b_disA a1.2
  exact P_all_k f a1.1 a2.1 a2.2 h
theorem C_k {W : bW} {M N : bM} (f : b_fr W M N) (d : b_dis W S_C = true) (h : C_all M) : C_all N := by
  unfold S_C at d
  have a1 := b_disA d
  have a2 := b_disA a1.2
  have a3 := b_disA a2.2
  exact ⟨E_kk f a1.1 h.1, R_ev_k (b_kp1 f a2.1) h.2.1, P_kk f a3.1 h.2.2.1, R_root_k (b_kp1 f a3.2) h.2.2.2⟩
theorem G_k {W : bW} {M N : bM} {d : Int} (f : b_fr W M N) (h1 : b_dis W S_C = true) (h : G_all M d) : G_all N d := by
  unfold S_C at h1
  have a1 := b_disA h1
  have a2 := b_disA a1.2
  have b2 := a1.1
  unfold S_E at b2
  exact ⟨E_kk f a1.1 h.1, Kn_k f (b_disA (b_disA b2).2).1 h.2.1, Evc_k f a2.1 h.2.2⟩
/-- the evidence is brought up to the day -/
theorem t_evC {M : bM} {d : Int} (hC : C_all M) (hd : 0 ≤ d ∧ d ≤ 9999) : b_wp (F_X4_know d M) (fun N => b_fr W_X4_know M N ∧ C_all N ∧ G_all N d) := by
  refine b_wp_m (fun N w => ?_) (t_ev hC.1 hC.2.1 hd)
  obtain ⟨y1, y2, y3, y4, y5⟩ := w
  exact ⟨y1, ⟨y2, y3, P_kk y1 (by decide +kernel) hC.2.2.1, R_root_k (b_kp1 y1 (by decide +kernel)) hC.2.2.2⟩, y2, y4, y5⟩
theorem t_cpRow {P : bM} : b_wp (b_loop (fun t : Int × bM => F_X12_chain_s78 t.1 t.2) (0, P)) (fun O => (∀ c j, c ≠ 224 → O c j = P c j) ∧ ∀ j, 0 ≤ j → j < 8 → O 224 j = P 219 j) := by
  refine b_loop_ind (I := fun s : Int × bM => (0 ≤ s.1 ∧ s.1 ≤ 8) ∧ (∀ c j, c ≠ 224 → s.2 c j = P c j) ∧ ∀ j, 0 ≤ j → j < s.1 → s.2 224 j = P 219 j) (fun s => (8 - s.1).toNat) ?_ (0, P) ⟨by dsimp only; omega, fun _ _ _ => rfl, fun j h1 h2 => by dsimp only at h2; omega⟩
  intro ⟨v, Q⟩ ⟨h1, h2, h3⟩
  dsimp only at h1 h2 h3 ⊢
  unfold F_X12_chain_s78
  refine b_Wi (fun q => b_Ws ⟨h2, fun j j1 j2 => h3 j j1 (by omega)⟩) (fun q => b_Wg (by omega) (b_Wl (b_Wg (by omega) (b_Ws ⟨⟨by dsimp only; omega, fun c j hc => ?_, fun j j1 j2 => ?_⟩, by dsimp only; omega⟩))))
  · dsimp only
    rw [b_upc hc]; exact h2 c j hc
  · dsimp only at j2 ⊢
    by_cases qj : j = v
    · subst qj
      rw [b_ups]; exact h2 219 j (by decide)
    · rw [b_upi qj]; exact h3 j j1 (by omega)
theorem fN_h (N : bM) : fN N 0 = N 11 84 ∧ fN N 1 = N 11 85 ∧ fN N 2 = N 11 86 ∧ fN N 3 = N 11 87 := by
  unfold fN
  exact ⟨if_pos (by decide), if_pos (by decide), if_pos (by decide), if_pos (by decide)⟩
theorem fN_r (N : bM) {i : Int} (h : 0 ≤ i) : fN N (4 + i) = N 219 i := by
  unfold fN
  rw [if_neg (by omega), show (4 : Int) + i - 4 = i by omega]
/-- the CHAIN that the reference makes is the class's -/
def Cm (M : bM) (a : Int) (F : Int → Int) (x : Int) (O : bM) : Prop := (x = 0 ∧ a = -1) ∨ (x = 1 ∧ a ≠ -1 ∧ (a = 0 ∨ a = 1) ∧ F 0 = a ∧ O 11 84 = F 0 ∧ O 11 85 = F 1 ∧ O 11 86 = F 2 ∧ O 11 87 = F 3 ∧ (0 ≤ F 2 ∧ F 2 ≤ 8) ∧ (0 ≤ F 3 ∧ F 3 < M 3 0) ∧ ∀ i, 0 ≤ i → i < F 2 → O 219 i = F (4 + i))
theorem t_mkC {W : bW} {N Q : bM} {d l p a : Int} {F : Int → Int} (hs : Sr N d l p a F) (f : b_fr W N Q) (h1 : b_dis W S_C = true) (h2 : b_dis W S_chain = true) (h3 : b_dis W [(2, some 0)] = true) (hC : C_all N) (hG : G_all N d) (hl : 0 ≤ l ∧ l < N 3 0) (hp : 0 ≤ p ∧ p < N 2 0) : b_wp (F_X12_makeChain l p d Q) (fun o => b_fr W_X12_makeChain Q o.2 ∧ Cm N a F o.1 o.2) := by
  have hCQ := C_k f h1 hC
  have hGQ := G_k f h1 hG
  have gs : GS N Q := b_kp1 f h2
  have n3 : Q 3 0 = N 3 0 := gs 3 0 rfl
  have n2 : Q 2 0 = N 2 0 := b_kp1 f h3 2 0 rfl
  refine b_wp_m (fun o w => ?_) (t_makeChain (l := l) (p := p) hGQ hCQ.2.2.1 hCQ.2.2.2 (by omega) (by omega))
  obtain ⟨x, O⟩ := o
  obtain ⟨w1, w2, w3⟩ := w
  dsimp only at w1 w2 w3 ⊢
  refine ⟨w1, ?_⟩
  have u := Sr_u hC.1.2.2.1.1.1 hs (gs_Sr gs w3)
  obtain ⟨f0, f1, f2, f3⟩ := fN_h O
  by_cases q : x = 0
  · rw [if_pos q] at u
    exact Or.inl ⟨q, u.1⟩
  · rw [if_neg q] at u
    have q1 : x = 1 := by omega
    have e := u.1
    have qa : a ≠ -1 := by rw [u.1]; exact (w2.resolve_left q).2
    · have u2 := u.2 qa
      rw [f0, f1, f2, f3] at u2
      obtain ⟨v1, v2, v3, v4, v5, v6, v7, v8, v9⟩ := u2
      exact Or.inr ⟨q1, qa, v1, v2, v3, v4, v5, v6, v7, v8, fun i i0 i1 => by rw [← v9 i i0 i1, fN_r O i0]⟩
