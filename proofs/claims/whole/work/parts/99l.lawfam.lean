/-- the law's loop with a relation that may speak of the call's place -/
theorem law_loop2 {l : Launch} {E : bE} {Ln : Nat} {xs : Int → Int} {R : Int → bM → Prop} (hfg : b_fg E) (hx : ∀ i, b_r32 (xs i)) (hop : ∀ (A : bM → Prop) (a : Int → Int) (k i : Int) (M : bM), (0 ≤ i ∧ i + 8 ≤ 4096) → (∀ j, b_r32 (a j)) → R i M → A M → lw_one (R (i + 8)) A a k M)
    (hact : ∀ (kn : Nat × Nat) (i : Int) (M : bM), lw_c kn Ln i → i + 8 ≤ Ln → R i M → (∀ M2, R (i + 8) M2 → lw_hd l E Ln xs (kn.1 + 8, kn.2 + 1600) (i + 8) M2) → VL l E x_law b_full kn 1028 [(0, bR 2100), (1, bR 0), (2, bR 11), (3, bI i)] [] M (G_law E Ln xs)) : ∀ (n : Nat) (kn : Nat × Nat) (i : Int) (M : bM), (Ln - i).toNat ≤ n → lw_c kn Ln i → R i M → lw_hd l E Ln xs kn i M := by
  intro n
  induction n with
  | zero =>
    intro kn i M hn hc hR
    exact law_head hfg hc (fun hi => absurd hn (by omega))
  | succ n ih =>
    intro kn i M hn hc hR
    have hc0 := hc
    unfold lw_c at hc0
    refine law_head hfg hc (fun hi => ?_)
    have hk : ∀ M2, R (i + 8) M2 → lw_hd l E Ln xs (kn.1 + 8, kn.2 + 1600) (i + 8) M2 := fun M2 h2 => ih _ _ _ (by omega) (by unfold lw_c; dsimp only; omega) h2
    exact lw_mono hk (A := fun M => VL l E x_law b_full kn 1028 [(0, bR 2100), (1, bR 0), (2, bR 11), (3, bI i)] [] M (G_law E Ln xs)) id (hop _ (fun j => xs (i + j)) _ i M (by omega) (fun j => hx _) hR (hact kn i M hc hi hR hk))
