def jP (M : bM) (d r : Int) (y : Int → Int) : Nat → Int
  | 0 => x_lab M d (M 217 r)
  | i + 1 => x_lab M d (g_T M (y i))
def jD (M : bM) (r : Int) (y : Int → Int) : Nat → Int
  | 0 => M 218 r
  | i + 1 => max (jD M r y i) (g_B M (y i))
/-- GAPS of the row from root r -/
def JN (M : bM) (d r : Int) (y : Int → Int) : Nat → Int → Prop
  | 0, g => g = 0
  | i + 1, g => ∃ g0 e, JN M d r y i g0 ∧ (e = 0 ∨ e = 1) ∧ (e = 0 ↔ g_nx M d (jP M d r y i) (y i)) ∧ g = g0 + e
theorem JN_u {M : bM} {d r : Int} {y : Int → Int} : ∀ (n : Nat) (g g2 : Int), JN M d r y n g → JN M d r y n g2 → g = g2 := by
  intro n
  induction n with
  | zero => intro g g2 h h2; exact h.trans h2.symm
  | succ n ih =>
    intro g g2 ⟨a, e, h1, h2, h3, h4⟩ ⟨a', e', h1', h2', h3', h4'⟩
    have e1 := ih _ _ h1 h1'
    have e2 : e = 0 ↔ e' = 0 := h3.trans h3'.symm
    omega
/-- the row can be walked from root r and ends at p -/
def jO (M : bM) (d p r : Int) (y : Int → Int) (n : Nat) : Prop := (∀ i : Nat, i < n → jD M r y i ≤ g_F M (y i)) ∧ g_en M d p (jP M d r y n)
/-- the fewest GAPS over the roots before k -/
def Jm (M : bM) (d l p : Int) (y : Int → Int) (n : Nat) (k a : Int) : Prop := (a = -1 ∧ ∀ r, r < k → g_rt M l r → ¬ jO M d p r y n) ∨ (0 ≤ a ∧ (∃ r, r < k ∧ g_rt M l r ∧ jO M d p r y n ∧ JN M d r y n a) ∧ ∀ r g, r < k → g_rt M l r → jO M d p r y n → JN M d r y n g → a ≤ g)
theorem Jm_u {M : bM} {d l p k a a2 : Int} {y : Int → Int} {n : Nat} (h : Jm M d l p y n k a) (h2 : Jm M d l p y n k a2) : a = a2 := by
  rcases h with ⟨b1, b2⟩ | ⟨b1, ⟨r, r1, r2, r3, r4⟩, b3⟩
  · rcases h2 with ⟨c1, c2⟩ | ⟨c1, ⟨s, s1, s2, s3, s4⟩, c3⟩
    · rw [b1, c1]
    · exact absurd s3 (b2 s s1 s2)
  · rcases h2 with ⟨c1, c2⟩ | ⟨c1, ⟨s, s1, s2, s3, s4⟩, c3⟩
    · exact absurd r3 (c2 r r1 r2)
    · exact Int.le_antisymm (b3 s a2 s1 s2 s3 s4) (c3 r a r1 r2 r3 r4)
theorem Jm_0 {M : bM} {d l p : Int} {y : Int → Int} {n : Nat} : Jm M d l p y n 0 (-1) := Or.inl ⟨rfl, fun r h z => by have := z.1.1; omega⟩
theorem Jm_n {M : bM} {d l p k a : Int} {y : Int → Int} {n : Nat} (h : Jm M d l p y n k a) (hk : g_rt M l k → ¬ jO M d p k y n) : Jm M d l p y n (k + 1) a := by
  rcases h with ⟨b1, b2⟩ | ⟨b1, ⟨r, r1, r2, r3, r4⟩, b3⟩
  · refine Or.inl ⟨b1, fun r h1 h2 h3 => ?_⟩
    by_cases e : r = k
    · subst e; exact hk h2 h3
    · exact b2 r (by clear h3 h2 hk b2; omega) h2 h3
  · refine Or.inr ⟨b1, ⟨r, by clear r2 r3 r4 b3 hk; omega, r2, r3, r4⟩, fun s g h1 h2 h3 h4 => ?_⟩
    by_cases e : s = k
    · subst e; exact absurd h3 (hk h2)
    · exact b3 s g (by clear h2 h3 h4 r2 r3 r4 b3 hk; omega) h2 h3 h4
theorem Jm_y {M : bM} {d l p k a x a2 : Int} {y : Int → Int} {n : Nat} (h : Jm M d l p y n k a) (hr : g_rt M l k) (ho : jO M d p k y n) (hx : JN M d k y n x) (hx0 : 0 ≤ x) (ha : a2 = if a = -1 ∨ x < a then x else a) : Jm M d l p y n (k + 1) a2 := by
  rcases h with ⟨b1, b2⟩ | ⟨b1, ⟨r, r1, r2, r3, r4⟩, b3⟩
  · rw [if_pos (Or.inl b1)] at ha
    rw [ha]
    refine Or.inr ⟨hx0, ⟨k, Int.lt_succ k, hr, ho, hx⟩, fun s g h1 h2 h3 h4 => ?_⟩
    by_cases e : s = k
    · subst e; exact Int.le_of_eq (JN_u _ _ _ hx h4)
    · exact absurd h3 (b2 s (by clear h2 h3 h4 b2 hr ho hx; omega) h2)
  · by_cases q : x < a
    · rw [if_pos (Or.inr q)] at ha
      rw [ha]
      refine Or.inr ⟨hx0, ⟨k, Int.lt_succ k, hr, ho, hx⟩, fun s g h1 h2 h3 h4 => ?_⟩
      by_cases e : s = k
      · subst e; exact Int.le_of_eq (JN_u _ _ _ hx h4)
      · have := b3 s g (by clear h2 h3 h4 b3 hr ho hx r2 r3 r4; omega) h2 h3 h4
        exact Int.le_trans (Int.le_of_lt q) this
    · rw [if_neg (fun z => by rcases z with z | z <;> clear r2 r3 r4 b3 hr ho hx <;> omega)] at ha
      rw [ha]
      refine Or.inr ⟨b1, ⟨r, by clear r2 r3 r4 b3 hr ho hx; omega, r2, r3, r4⟩, fun s g h1 h2 h3 h4 => ?_⟩
      by_cases e : s = k
      · subst e
        have := JN_u _ _ _ hx h4
        rw [← this]
        exact Int.not_lt.mp q
      · exact b3 s g (by clear h2 h3 h4 b3 hr ho hx r2 r3 r4; omega) h2 h3 h4
theorem t_gaps {M N Q : bM} {d l p r n : Int} {y : Int → Int} (hG : G_all M d) (hA : Ga M d l p N) (hb : M 6 0 ≤ 30) (h218 : N 93 r = M 218 r) (hr : g_rt M l r) (hr60 : r < 60) (hn : 0 ≤ n ∧ n ≤ 8) (hQ : ∀ c j, c ≠ 139 → Q c j = N c j) (hy : ∀ i, 0 ≤ i → i < n → (0 ≤ Q 139 i ∧ Q 139 i < N 7 6) ∧ N 130 (Q 139 i) = y i) : b_wp (F_X2_gapsOfRow r n Q) (fun x => (x = -1 ∧ ¬ ∀ i : Nat, i < n.toNat → jD M r y i ≤ g_F M (y i)) ∨ (0 ≤ x ∧ JN M d r y n.toNat x ∧ ∀ i : Nat, i < n.toNat → jD M r y i ≤ g_F M (y i))) := by
  have g1 := hA.1.1
  have g2 := hA.1.2.1
  have m1 := hA.2.2.2.1
  have m2 := hA.2.2.2.2.2
  have hr0 := hr.1.1
  unfold F_X2_gapsOfRow
  have lp : b_wp (b_loop (fun t : Int × Int × Int × Int => F_X2_gapsOfRow_s22 n t.1 t.2.1 t.2.2.1 t.2.2.2 Q) (30 + r, Q 93 r, 0, 0)) (Sum.elim (fun x => 0 ≤ x ∧ JN M d r y n.toNat x ∧ ∀ i : Nat, i < n.toNat → jD M r y i ≤ g_F M (y i)) (fun x => x = -1 ∧ ¬ ∀ i : Nat, i < n.toNat → jD M r y i ≤ g_F M (y i))) := by
    refine b_loop_ind (I := fun t : Int × Int × Int × Int => (0 ≤ t.2.2.2 ∧ t.2.2.2 ≤ n) ∧ (0 ≤ t.1 ∧ t.1 < 90) ∧ (∀ e, 0 ≤ e → e < N 7 6 → (gq N t.1 e = 0 ∨ gq N t.1 e = 1) ∧ (gq N t.1 e = 0 ↔ g_nx M d (jP M d r y t.2.2.2.toNat) (N 130 e))) ∧ t.2.1 = jD M r y t.2.2.2.toNat ∧ (0 ≤ t.2.2.1 ∧ t.2.2.1 ≤ t.2.2.2) ∧ JN M d r y t.2.2.2.toNat t.2.2.1 ∧ ∀ i : Nat, i < t.2.2.2.toNat → jD M r y i ≤ g_F M (y i)) (fun t => (n - t.2.2.2).toNat) ?_ (30 + r, Q 93 r, 0, 0) ⟨by dsimp only; omega, by dsimp only; omega, fun e e0 e1 => m2 r e hr e0 e1, by dsimp only; rw [hQ 93 r (by decide), h218]; rfl, by dsimp only; omega, rfl, fun i hi => by dsimp only at hi; omega⟩
    intro ⟨v3, v4, v5, k⟩ ⟨h1, h2, h3, h4, h5, h6, h7⟩
    dsimp only at h1 h2 h3 h4 h5 h6 h7 ⊢
    unfold F_X2_gapsOfRow_s22
    refine b_Wi (fun q => ?_) (fun q => b_Wf (by clear h3; omega) (b_Wg (by clear h3; omega) (b_Wl ?_)))
    · have e : k = n := by clear h3; omega
      rw [e] at h6 h7
      exact b_Ws ⟨h5.1, h6, h7⟩
    have hk := hy k h1.1 (by clear h3; omega)
    generalize hx : Q 139 k = x at hk
    have gx := g2 x hk.1.1 hk.1.2
    have hm := h3 x hk.1.1 hk.1.2
    have c132 : Q 132 x = g_F M (y k) := by rw [hQ 132 x (by decide), gx.2.2.1, hk.2]
    have c131 : Q 131 x = g_B M (y k) := by rw [hQ 131 x (by decide), gx.2.1, hk.2]
    have c136 : Q 136 v3 = N 136 v3 := hQ 136 _ (by decide)
    have ek : ((k.toNat : Nat) : Int) = k := by clear h3 hm; omega
    have ek1 : (k + 1).toNat = k.toNat + 1 := by clear h3 hm; omega
    have gb := G_rr hG gx.1.1.1
    have gT : g_T M (N 130 x) ≠ -1 := gx.1.1.2.2.2
    rw [hk.2] at hm gb gT
    rw [c132, c136, gq_u (N := N) (c := v3) (e := x) (by clear h3 hm; omega), show (1 : Int) - (1 - gq N v3 x) = gq N v3 x by clear h3 hm; omega, c131]
    refine b_Wg (by clear h3 hm; omega) (b_Wi (fun q1 => b_Wg (by clear h3; have := hm.1; clear hm; omega) (b_Wl (b_Wg (by clear h3 hm; omega) (b_Wl (b_Wg (by clear h3 hm; omega) (b_Ws ⟨⟨by clear h3 hm; dsimp only; omega, by clear h3 hm; dsimp only; omega, ?_, ?_, ?_, ?_, ?_⟩, by clear h3 hm; dsimp only; omega⟩)))))) (fun q1 => b_Ws ⟨rfl, fun z => q1 ?_⟩))
    · dsimp only
      intro e e0 e1
      rw [ek1]
      have m := m1 x e hk.1.1 hk.1.2 e0 e1
      rw [gx.2.2.2.2.2, hk.2] at m
      unfold g_lb at m
      rw [if_neg gT] at m
      show _ ∧ (_ ↔ g_nx M d (x_lab M d (g_T M (y (k.toNat : Nat)))) (N 130 e))
      rw [ek]
      exact m
    · dsimp only
      rw [ek1, h4]
      show _ = max _ (g_B M (y (k.toNat : Nat)))
      rw [ek]
    · dsimp only
      have := hm.1
      clear h3 hm
      omega
    · dsimp only
      rw [ek1]
      exact ⟨v5, gq N v3 x, h6, hm.1, by rw [ek]; exact hm.2, rfl⟩
    · dsimp only
      rw [ek1]
      intro i hi
      by_cases e : i = k.toNat
      · rw [e, ← h4, ek]; exact q1
      · exact h7 i (by clear h3 hm; omega)
    · have := z k.toNat (by clear h3 hm; omega)
      rw [← h4, ek] at this
      exact this
  refine b_Wg (by omega) (b_Wb (b_wp_m (fun o z => ?_) lp))
  rcases o with x | x
  · exact b_Ws (Or.inr z)
  · exact b_Ws (Or.inl z)
