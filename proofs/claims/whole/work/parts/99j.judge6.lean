theorem t_jRoots {M R : bM} {d l p n : Int} {y : Int → Int} (hO : O_all M d) (hZ : Zc M d l p R) (hp : 0 ≤ p ∧ p < M 2 0) (hn : 0 ≤ n ∧ n ≤ 8) (hy : ∀ i, R 162 i = y i + 48) (hyr : ∀ i, -128 ≤ y i + 48 ∧ y i + 48 < 128) (hJ : Jv M l y n) : b_wp (b_loop (fun t : Int × Int => F_X12_judge_s186 n t.1 t.2 R) (-1, 0)) (fun a => Jm M d l p y n.toNat (M 11 20) a) := by
  have l1 := hO.1.1.2.2.1.1
  have r20 : R 11 20 = M 11 20 := hZ.1 11 20 (by decide)
  refine b_loop_ind (I := fun t : Int × Int => (0 ≤ t.2 ∧ t.2 ≤ M 11 20) ∧ Jm M d l p y n.toNat t.2 t.1) (fun t => (M 11 20 - t.2).toNat) ?_ (-1, 0) ⟨by dsimp only; omega, Jm_0⟩
  intro ⟨a, r⟩ ⟨h1, h2⟩
  dsimp only at h1 h2 ⊢
  unfold F_X12_judge_s186
  have ha : a = -1 ∨ 0 ≤ a := by
    rcases h2 with z | z
    · exact Or.inl z.1
    · exact Or.inr z.1
  refine b_Wi (fun q => b_Ws ?_) (fun q => ?_)
  · have e : r = M 11 20 := by clear h2; omega
    rw [← e]; exact h2
  have hr : r < M 11 20 := by clear h2; omega
  have r217 : R 217 r = M 217 r := hZ.1 217 r rfl
  have r218 : R 218 r = M 218 r := hZ.1 218 r rfl
  refine b_Wb (b_wp_m (fun x w => ?_) (t_oRoot hO hZ ⟨h1.1, hr⟩))
  refine b_Wi (fun qx => b_Wg (by clear h2 w; omega) (b_Ws ⟨⟨by clear h2 w; dsimp only; omega, Jm_n h2 (fun z => ?_)⟩, by clear h2 w; dsimp only; omega⟩)) (fun qx => ?_)
  · have := w.2.mpr z
    clear h2 w
    omega
  have hrt : g_rt M l r := w.2.mp (by have := w.1; clear h2 w; omega)
  clear w
  rw [r217, r218]
  refine b_Wg (by clear h2; omega) (b_Wl (b_Wg (by clear h2; omega) (b_Wl (b_Wb (b_wp_m (fun o z => ?_) (t_jWalk (v5 := a) hO hZ hn hy hyr hJ hrt))))))
  obtain ⟨h, g, ok⟩ := o
  obtain ⟨z1, z2, z3, z4, z5, z6⟩ := z
  dsimp only at z1 z2 z3 z4 z5 z6 ⊢
  unfold F_X12_judge_b331
  refine b_Wi (fun qo => b_Wg (by clear h2 z6; omega) (b_Ws ⟨⟨by clear h2 z6; dsimp only; omega, Jm_n h2 (fun _ k => ?_)⟩, by clear h2 z6; dsimp only; omega⟩)) (fun qo => ?_)
  · have := z6.mpr k.1
    clear h2 z6 k
    omega
  have ok1 := z6.mp (by clear h2 z6; omega)
  refine b_Wb (b_wp_m (fun e w => ?_) (t_oEnd hO hZ hp z1))
  rw [z2] at w
  refine b_Wi (fun qe => b_Wg (by clear h2 z6 w ok1; omega) (b_Ws ⟨⟨by clear h2 z6 w ok1; dsimp only; omega, Jm_n h2 (fun _ k => ?_)⟩, by clear h2 z6 w ok1; dsimp only; omega⟩)) (fun qe => ?_)
  · have := w.2.mpr k.2
    clear h2 z6 w k ok1
    omega
  have hen := w.2.mp (by have := w.1; clear h2 z6 w ok1; omega)
  have fin : ∀ a2, a2 = (if a = -1 ∨ g < a then g else a) → Jm M d l p y n.toNat (r + 1) a2 := fun a2 hh => Jm_y h2 hrt ⟨ok1, hen⟩ z4 z3 hh
  clear h2 z6 w ok1 hen
  refine b_Wi (fun c => b_Wg (by omega) (b_Ws ⟨⟨by dsimp only; omega, fin _ (if_pos (Or.inl c)).symm⟩, by dsimp only; omega⟩)) (fun c => b_Wi (fun e => b_Wg (by omega) (b_Ws ⟨⟨by dsimp only; omega, fin _ (if_neg (by omega)).symm⟩, by dsimp only; omega⟩)) (fun e => b_Wg (by omega) (b_Ws ⟨⟨by dsimp only; omega, fin _ (if_pos (by omega)).symm⟩, by dsimp only; omega⟩)))
theorem jP_c {M N : bM} (h : GS M N) (d r : Int) (y : Int → Int) : ∀ n, jP N d r y n = jP M d r y n := by
  obtain ⟨a1, a2, a3, a4, a5, a6, a7, a8, a9⟩ := gs_all h d 0 0
  intro n
  cases n with
  | zero => unfold jP; rw [a8, a9]
  | succ n =>
    show x_lab N d (g_T N (y n)) = x_lab M d (g_T M (y n))
    rw [a8, (a6 _).2.2.2]
theorem jD_c {M N : bM} (h : GS M N) (r : Int) (y : Int → Int) : ∀ n, jD N r y n = jD M r y n := by
  obtain ⟨a1, a2, a3, a4, a5, a6, a7, a8, a9⟩ := gs_all h 0 0 0
  intro n
  induction n with
  | zero => unfold jD; rw [a7]
  | succ n ih => unfold jD; rw [ih, (a6 _).1]
theorem JN_c {M N : bM} (h : GS M N) (d r : Int) (y : Int → Int) : ∀ n g, JN N d r y n g ↔ JN M d r y n g := by
  obtain ⟨a1, a2, a3, a4, a5, a6, a7, a8, a9⟩ := gs_all h d 0 0
  intro n
  induction n with
  | zero => intro g; exact Iff.rfl
  | succ n ih =>
    intro g
    unfold JN
    rw [jP_c h, a2]
    exact ⟨fun ⟨g0, e, x1, x2⟩ => ⟨g0, e, (ih g0).mp x1, x2⟩, fun ⟨g0, e, x1, x2⟩ => ⟨g0, e, (ih g0).mpr x1, x2⟩⟩
theorem jO_c {M N : bM} (h : GS M N) (d p r : Int) (y : Int → Int) (n : Nat) : jO N d p r y n ↔ jO M d p r y n := by
  obtain ⟨a1, a2, a3, a4, a5, a6, a7, a8, a9⟩ := gs_all h d 0 p
  unfold jO
  rw [jP_c h, a3]
  exact ⟨fun z => ⟨fun i hi => by rw [← jD_c h, ← (a6 _).2.1]; exact z.1 i hi, z.2⟩, fun z => ⟨fun i hi => by rw [jD_c h, (a6 _).2.1]; exact z.1 i hi, z.2⟩⟩
theorem Jm_c {M N : bM} (h : GS M N) {d l p k a : Int} {y : Int → Int} {n : Nat} (hj : Jm N d l p y n k a) : Jm M d l p y n k a := by
  obtain ⟨a1, a2, a3, a4, a5, a6, a7, a8, a9⟩ := gs_all h d l p
  unfold Jm at hj ⊢
  rw [a4] at hj
  rcases hj with ⟨b1, b2⟩ | ⟨b1, ⟨r, r1, r2, r3, r4⟩, b3⟩
  · exact Or.inl ⟨b1, fun r x1 x2 x3 => b2 r x1 x2 ((jO_c h d p r y n).mpr x3)⟩
  · exact Or.inr ⟨b1, ⟨r, r1, r2, (jO_c h d p r y n).mp r3, (JN_c h d r y n a).mp r4⟩, fun s g x1 x2 x3 x4 => b3 s g x1 x2 ((jO_c h d p s y n).mpr x3) ((JN_c h d s y n g).mpr x4)⟩
theorem Jv_c {M N : bM} (h : GS M N) {l k : Int} {y : Int → Int} : Jv N l y k ↔ Jv M l y k := by
  have a1 := (gs_all h 0 l 0).1
  unfold Jv
  rw [a1]
theorem Jr_u {M : bM} {d l p n a a2 : Int} {y : Int → Int} (h : Jr M d l p n y a) (h2 : Jr M d l p n y a2) : a = a2 := by
  rcases h with ⟨b1, b2⟩ | ⟨b1, b2⟩
  · rcases h2 with ⟨c1, c2⟩ | ⟨c1, c2⟩
    · rw [b1, c1]
    · exact absurd c1 b2
  · rcases h2 with ⟨c1, c2⟩ | ⟨c1, c2⟩
    · exact absurd b1 c2
    · exact Jm_u b2 c2
