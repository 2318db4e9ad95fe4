theorem t_jRow {M R : bM} {d l p n : Int} {y : Int → Int} (hO : O_all M d) (hZ : Zc M d l p R) (hn : 0 ≤ n ∧ n ≤ 8) (hy : ∀ i, R 162 i = y i + 48) (hyr : ∀ i, -128 ≤ y i + 48 ∧ y i + 48 < 128) : b_wp (b_loop (fun t : Int => F_X12_judge_s94 n t R) 0) (Sum.elim (fun _ : Unit => Jv M l y n) (fun o => o = (-1, R) ∧ ¬ Jv M l y n)) := by
  have b1 := hO.1.1.2.2.2.2.2.2.2.2
  have r52 : R 11 52 = M 6 0 := by rw [hZ.1 11 52 (by decide)]; exact b1.1
  have b2 := b1.2
  refine b_loop_ind (I := fun k : Int => (0 ≤ k ∧ k ≤ n) ∧ Jv M l y k) (fun k => (n - k).toNat) ?_ 0 ⟨by omega, fun i h1 h2 => by omega⟩
  intro k ⟨h1, h3⟩
  unfold F_X12_judge_s94
  have hyk := hyr k
  refine b_Wi (fun q => ?_) (fun q => ?_)
  · have e : k = n := by omega
    rw [e] at h3
    exact b_Ws h3
  rw [hy k, show y k + 48 - 48 = y k by omega, r52]
  refine b_Wg (by omega) (b_Wl (b_Wg (by unfold b_i32; omega) (b_We e_X12_in (b_Wi (fun q1 => b_Ws ⟨rfl, fun z => ?_⟩) (fun q1 => ?_)))))
  · rw [b_01_0] at q1
    have := (z k h1.1 (by omega)).1.1
    omega
  rw [b_01_0] at q1
  have hb : 0 ≤ y k ∧ y k < M 6 0 := by omega
  refine b_Wb (b_wp_m (fun x w => ?_) (t_oLink hO hZ hb))
  refine b_Wi (fun q2 => b_Ws ⟨rfl, fun z => ?_⟩) (fun q2 => ?_)
  · have := w.2.mpr (z k h1.1 (by omega)).1
    omega
  have hlk : g_lk M l (y k) := w.2.mp (by have := w.1; clear w; omega)
  have inn : b_wp (b_loop (fun t : Int => F_X12_judge_s142 n k t R) 0) (Sum.elim (fun _ : Unit => ∀ j, 0 ≤ j → j < k → y j ≠ y k) (Sum.elim (fun _ => False) (Sum.elim (fun _ => False) (fun o : Int × bM => o = (-1, R) ∧ ∃ j, (0 ≤ j ∧ j < k) ∧ y j = y k)))) := by
    refine b_loop_ind (I := fun t : Int => (0 ≤ t ∧ t ≤ k) ∧ ∀ c, 0 ≤ c → c < t → y c ≠ y k) (fun t => (k - t).toNat) ?_ 0 ⟨by omega, fun c h1 h2 => by omega⟩
    intro t ⟨t1, t2⟩
    unfold F_X12_judge_s142
    rw [hy t, hy k]
    refine b_Wi (fun q => b_Ws (fun j j0 j1 => t2 j j0 (by omega))) (fun q => b_Wg (by omega) (b_Wi (fun q1 => b_Ws ⟨rfl, t, ⟨t1.1, by omega⟩, by omega⟩) (fun q1 => b_Wg (by omega) (b_Ws ⟨⟨by omega, fun c c0 c1 => ?_⟩, by omega⟩))))
    by_cases e : c = t
    · rw [e]; omega
    · exact t2 c c0 (by omega)
  refine b_Wb (b_wp_m (fun o w => ?_) inn)
  rcases o with u | o | o | o
  · have w' : ∀ j, 0 ≤ j → j < k → y j ≠ y k := w
    show b_wp (F_X12_judge_b174 n k R) _
    unfold F_X12_judge_b174
    refine b_Wg (by omega) (b_Ws ⟨⟨by omega, fun i i0 i1 => ?_⟩, by omega⟩)
    by_cases e : i = k
    · subst e; exact ⟨hlk, w'⟩
    · exact h3 i i0 (by omega)
  · exact absurd w (fun z => z)
  · exact absurd w (fun z => z)
  · obtain ⟨w1, j, j1, j2⟩ := (show o = (-1, R) ∧ ∃ j, (0 ≤ j ∧ j < k) ∧ y j = y k from w)
    subst w1
    exact b_Ws ⟨rfl, fun z => (z k h1.1 (by omega)).2 j j1.1 j1.2 j2⟩
theorem t_jWalk {M R : bM} {d l p n r v5 : Int} {y : Int → Int} (hO : O_all M d) (hZ : Zc M d l p R) (hn : 0 ≤ n ∧ n ≤ 8) (hy : ∀ i, R 162 i = y i + 48) (hyr : ∀ i, -128 ≤ y i + 48 ∧ y i + 48 < 128) (hJ : Jv M l y n) (hr : g_rt M l r) : b_wp (b_loop (fun t : Int × Int × Int × Int × Int => F_X12_judge_s234 n v5 r t.1 t.2.1 t.2.2.1 t.2.2.2.1 t.2.2.2.2 R) (M 217 r, M 218 r, 0, 1, 0)) (fun o => (0 ≤ o.1 ∧ o.1 < M 2 0) ∧ x_lab M d o.1 = jP M d r y n.toNat ∧ 0 ≤ o.2.1 ∧ JN M d r y n.toNat o.2.1 ∧ (o.2.2 = 0 ∨ o.2.2 = 1) ∧ (o.2.2 = 1 ↔ ∀ i : Nat, i < n.toNat → jD M r y i ≤ g_F M (y i))) := by
  refine b_loop_ind (I := fun t : Int × Int × Int × Int × Int => (0 ≤ t.2.2.2.2 ∧ t.2.2.2.2 ≤ n) ∧ (0 ≤ t.1 ∧ t.1 < M 2 0) ∧ x_lab M d t.1 = jP M d r y t.2.2.2.2.toNat ∧ t.2.1 = jD M r y t.2.2.2.2.toNat ∧ (0 ≤ t.2.2.1 ∧ t.2.2.1 ≤ t.2.2.2.2) ∧ JN M d r y t.2.2.2.2.toNat t.2.2.1 ∧ (t.2.2.2.1 = 0 ∨ t.2.2.2.1 = 1) ∧ (t.2.2.2.1 = 1 ↔ ∀ i : Nat, i < t.2.2.2.2.toNat → jD M r y i ≤ g_F M (y i))) (fun t => (n - t.2.2.2.2).toNat) ?_ (M 217 r, M 218 r, 0, 1, 0) ⟨by dsimp only; omega, root_r hO hr.1 hr.2.1, rfl, rfl, by dsimp only; omega, rfl, Or.inr rfl, fun _ i hi => absurd hi (Nat.not_lt_zero _), fun _ => rfl⟩
  intro ⟨h, day, g, ok, k⟩ ⟨h1, h2, h3, h4, h5, h6, h7, h8⟩
  dsimp only at h1 h2 h3 h4 h5 h6 h7 h8 ⊢
  unfold F_X12_judge_s234
  have hyk := hyr k
  refine b_Wi (fun q => ?_) (fun q => ?_)
  · have e : k = n := by clear h8; omega
    rw [e] at h3 h6 h8
    exact b_Ws ⟨h2, h3, h5.1, h6, h7, h8⟩
  have kn : k < n := by clear h8; omega
  have hlk := (hJ k h1.1 kn).1
  have hbk := hlk.1
  have b1 := hO.1.1.2.2.2.2.2.2.2.2.2
  obtain ⟨u0, u1, u2, u3, u4, u5⟩ := O_eq hO hbk
  have gr := G_rr hO.1 hbk
  have gT : M 126 (10 * y k + 1) ≠ -1 := hlk.2.2.2
  have e209 : R 209 (3 * y k + 1) = M 126 (10 * y k + 1) := by rw [hZ.1 209 _ rfl]; exact u1
  have e211 : R 211 (y k) = g_B M (y k) := by rw [hZ.1 211 _ rfl]; exact u3
  have e212 : R 212 (y k) = g_F M (y k) := by rw [hZ.1 212 _ rfl]; exact u4
  have ek : ((k.toNat : Nat) : Int) = k := by clear h8; omega
  have ek1 : (k + 1).toNat = k.toNat + 1 := by clear h8; omega
  have s8 : (∀ i : Nat, i < (k + 1).toNat → jD M r y i ≤ g_F M (y i)) ↔ (ok = 1 ∧ day ≤ g_F M (y k)) := by
    rw [h8, ek1]
    refine ⟨fun z => ⟨fun i hi => z i (Nat.lt_succ_of_lt hi), ?_⟩, fun z i hi => ?_⟩
    · have := z k.toNat (Nat.lt_succ_self _)
      rw [← h4, ek] at this
      exact this
    · by_cases e : i = k.toNat
      · rw [e, ← h4, ek]; exact z.2
      · exact z.1 i (by clear h8 z; omega)
  rw [hy k, show y k + 48 - 48 = y k by omega]
  have b275 : ∀ u, (u = 0 ∨ u = 1) → (u = 1 ↔ (ok = 1 ∧ day ≤ g_F M (y k))) → b_wp (F_X12_judge_b275 n v5 r h day g k (y k) u R) (Sum.elim (fun t : Int × Int × Int × Int × Int => ((0 ≤ t.2.2.2.2 ∧ t.2.2.2.2 ≤ n) ∧ (0 ≤ t.1 ∧ t.1 < M 2 0) ∧ x_lab M d t.1 = jP M d r y t.2.2.2.2.toNat ∧ t.2.1 = jD M r y t.2.2.2.2.toNat ∧ (0 ≤ t.2.2.1 ∧ t.2.2.1 ≤ t.2.2.2.2) ∧ JN M d r y t.2.2.2.2.toNat t.2.2.1 ∧ (t.2.2.2.1 = 0 ∨ t.2.2.2.1 = 1) ∧ (t.2.2.2.1 = 1 ↔ ∀ i : Nat, i < t.2.2.2.2.toNat → jD M r y i ≤ g_F M (y i))) ∧ (n - t.2.2.2.2).toNat < (n - k).toNat) (fun o => (0 ≤ o.1 ∧ o.1 < M 2 0) ∧ x_lab M d o.1 = jP M d r y n.toNat ∧ 0 ≤ o.2.1 ∧ JN M d r y n.toNat o.2.1 ∧ (o.2.2 = 0 ∨ o.2.2 = 1) ∧ (o.2.2 = 1 ↔ ∀ i : Nat, i < n.toNat → jD M r y i ≤ g_F M (y i)))) := by
    intro u hu hu2
    unfold F_X12_judge_b275
    rw [e211]
    refine b_Wg (by clear h8 s8 hu2; omega) (b_We E_X12_greater (b_Wb (b_wp_m (fun x w => ?_) (t_oNext hO hZ hbk h2))))
    have fin : ∀ e, (e = 0 ∨ e = 1) → (e = 0 ↔ g_nx M d (x_lab M d h) (y k)) → b_wp (F_X12_judge_b309 n v5 r (max day (g_B M (y k))) u k (y k) g e R) (Sum.elim (fun t : Int × Int × Int × Int × Int => ((0 ≤ t.2.2.2.2 ∧ t.2.2.2.2 ≤ n) ∧ (0 ≤ t.1 ∧ t.1 < M 2 0) ∧ x_lab M d t.1 = jP M d r y t.2.2.2.2.toNat ∧ t.2.1 = jD M r y t.2.2.2.2.toNat ∧ (0 ≤ t.2.2.1 ∧ t.2.2.1 ≤ t.2.2.2.2) ∧ JN M d r y t.2.2.2.2.toNat t.2.2.1 ∧ (t.2.2.2.1 = 0 ∨ t.2.2.2.1 = 1) ∧ (t.2.2.2.1 = 1 ↔ ∀ i : Nat, i < t.2.2.2.2.toNat → jD M r y i ≤ g_F M (y i))) ∧ (n - t.2.2.2.2).toNat < (n - k).toNat) (fun o => (0 ≤ o.1 ∧ o.1 < M 2 0) ∧ x_lab M d o.1 = jP M d r y n.toNat ∧ 0 ≤ o.2.1 ∧ JN M d r y n.toNat o.2.1 ∧ (o.2.2 = 0 ∨ o.2.2 = 1) ∧ (o.2.2 = 1 ↔ ∀ i : Nat, i < n.toNat → jD M r y i ≤ g_F M (y i)))) := by
      intro e he he2
      unfold F_X12_judge_b309
      rw [e209]
      refine b_Wg (by clear h8 s8 hu2 he2 w; omega) (b_Wl (b_Wg (by clear h8 s8 hu2 he2 w; omega) (b_Ws ⟨⟨by clear h8 s8 hu2 he2 w; dsimp only; omega, by clear h8 s8 hu2 he2 w; dsimp only; omega, ?_, ?_, by clear h8 s8 hu2 he2 w; dsimp only; omega, ?_, hu, ?_⟩, by clear h8 s8 hu2 he2 w; dsimp only; omega⟩)))
      · dsimp only
        rw [ek1]
        show _ = x_lab M d (g_T M (y (k.toNat : Nat)))
        rw [ek]
      · dsimp only
        rw [ek1, h4]
        show _ = max _ (g_B M (y (k.toNat : Nat)))
        rw [ek]
      · dsimp only
        rw [ek1]
        rw [h3] at he2
        exact ⟨g, e, h6, he, by rw [ek]; exact he2, rfl⟩
      · dsimp only
        exact hu2.trans s8.symm
    refine b_Wi (fun qx => fin 1 (Or.inr rfl) ⟨fun z => absurd z (by decide), fun z => ?_⟩) (fun qx => fin 0 (Or.inl rfl) ⟨fun _ => w.2.mp ?_, fun _ => rfl⟩)
    · have := w.2.mpr z
      clear h8 s8 hu2 w
      omega
    · have := w.1
      clear h8 s8 hu2 w
      omega
  unfold F_X12_judge_b274
  refine b_Wg (by clear h8 s8 b275; omega) (b_Wl ?_)
  rw [e212]
  refine (b_Wi (fun a => b275 0 (Or.inl rfl) ⟨fun z => absurd z (by decide), fun z => ?_⟩) (fun a => b_Wg (by clear h8 s8 b275; omega) (b_Wi (fun c => b275 0 (Or.inl rfl) ⟨fun z => absurd z (by decide), fun z => ?_⟩) (fun c => b275 1 (Or.inr rfl) ⟨fun _ => ⟨?_, ?_⟩, fun _ => rfl⟩))))
  · have := z.1; clear h8 s8 b275; omega
  · have := z.2; clear h8 s8 b275; omega
  · clear h8 s8 b275; omega
  · clear h8 s8 b275; omega
