def lw_o0 (R A : bM → Prop) (a : Int → Int) (M : bM) : Prop := b_wp (F_X11_feed (a 1) (a 2) (a 3) (a 4) (a 5) M) (fun o => b_wp (F_X12_feed (a 1) (a 2) (a 3) (a 4) (a 5) o.2) (fun o2 => o.1 = o2.1 ∧ R o2.2))
theorem lw_m0 {R R2 A A2 : bM → Prop} {a : Int → Int} {M : bM} (h : ∀ M2, R M2 → R2 M2) (q : lw_o0 R A a M) : lw_o0 R2 A2 a M := b_wp_m (fun _ w => b_wp_m (fun _ z => ⟨z.1, h _ z.2⟩) w) q
def lw_o1 (R A : bM → Prop) (a : Int → Int) (M : bM) : Prop := b_wp (F_X11_end (a 1) M) (fun o => b_wp (F_X12_end (a 1) o.2) (fun o2 => o.1 = o2.1 ∧ R o2.2))
theorem lw_m1 {R R2 A A2 : bM → Prop} {a : Int → Int} {M : bM} (h : ∀ M2, R M2 → R2 M2) (q : lw_o1 R A a M) : lw_o1 R2 A2 a M := b_wp_m (fun _ w => b_wp_m (fun _ z => ⟨z.1, h _ z.2⟩) w) q
def lw_o2 (R A : bM → Prop) (a : Int → Int) (M : bM) : Prop := b_wp (F_X11_pass (a 1) M) (fun o => b_wp (F_X12_pass (a 1) o.2) (fun o2 => o.1 = o2.1 ∧ R o2.2))
theorem lw_m2 {R R2 A A2 : bM → Prop} {a : Int → Int} {M : bM} (h : ∀ M2, R M2 → R2 M2) (q : lw_o2 R A a M) : lw_o2 R2 A2 a M := b_wp_m (fun _ w => b_wp_m (fun _ z => ⟨z.1, h _ z.2⟩) w) q
def lw_o3 (R A : bM → Prop) (a : Int → Int) (M : bM) : Prop := b_wp (F_X11_person (a 1) M) (fun o => b_wp (F_X12_person (a 1) o.2) (fun o2 => o.1 = o2.1 ∧ R o2.2))
theorem lw_m3 {R R2 A A2 : bM → Prop} {a : Int → Int} {M : bM} (h : ∀ M2, R M2 → R2 M2) (q : lw_o3 R A a M) : lw_o3 R2 A2 a M := b_wp_m (fun _ w => b_wp_m (fun _ z => ⟨z.1, h _ z.2⟩) w) q
def lw_o4 (R A : bM → Prop) (a : Int → Int) (M : bM) : Prop := b_wp (F_X11_dead (a 1) (a 2) M) (fun o => b_wp (F_X12_dead (a 1) (a 2) o.2) (fun o2 => o.1 = o2.1 ∧ R o2.2))
theorem lw_m4 {R R2 A A2 : bM → Prop} {a : Int → Int} {M : bM} (h : ∀ M2, R M2 → R2 M2) (q : lw_o4 R A a M) : lw_o4 R2 A2 a M := b_wp_m (fun _ w => b_wp_m (fun _ z => ⟨z.1, h _ z.2⟩) w) q
def lw_o5 (R A : bM → Prop) (a : Int → Int) (M : bM) : Prop := b_wp (F_X11_same (a 1) (a 2) M) (fun o => b_wp (F_X12_same (a 1) (a 2) o.2) (fun o2 => o.1 = o2.1 ∧ R o2.2))
theorem lw_m5 {R R2 A A2 : bM → Prop} {a : Int → Int} {M : bM} (h : ∀ M2, R M2 → R2 M2) (q : lw_o5 R A a M) : lw_o5 R2 A2 a M := b_wp_m (fun _ w => b_wp_m (fun _ z => ⟨z.1, h _ z.2⟩) w) q
def lw_o6 (R A : bM → Prop) (a : Int → Int) (M : bM) : Prop := b_wp (F_X11_apart (a 1) (a 2) M) (fun o => b_wp (F_X12_apart (a 1) (a 2) o.2) (fun o2 => o.1 = o2.1 ∧ R o2.2))
theorem lw_m6 {R R2 A A2 : bM → Prop} {a : Int → Int} {M : bM} (h : ∀ M2, R M2 → R2 M2) (q : lw_o6 R A a M) : lw_o6 R2 A2 a M := b_wp_m (fun _ w => b_wp_m (fun _ z => ⟨z.1, h _ z.2⟩) w) q
def lw_o7 (R A : bM → Prop) (a : Int → Int) (M : bM) : Prop := b_wp (F_X11_child (a 1) (a 2) M) (fun o => b_wp (F_X12_child (a 1) (a 2) o.2) (fun o2 => o.1 = o2.1 ∧ R o2.2))
theorem lw_m7 {R R2 A A2 : bM → Prop} {a : Int → Int} {M : bM} (h : ∀ M2, R M2 → R2 M2) (q : lw_o7 R A a M) : lw_o7 R2 A2 a M := b_wp_m (fun _ w => b_wp_m (fun _ z => ⟨z.1, h _ z.2⟩) w) q
def lw_o8 (R A : bM → Prop) (a : Int → Int) (M : bM) : Prop := b_wp (F_X11_deadOn (a 1) (a 2) M) (fun o => b_wp (F_X12_deadOn (a 1) (a 2) o.2) (fun o2 => o.1 = o2.1 ∧ R o2.2))
theorem lw_m8 {R R2 A A2 : bM → Prop} {a : Int → Int} {M : bM} (h : ∀ M2, R M2 → R2 M2) (q : lw_o8 R A a M) : lw_o8 R2 A2 a M := b_wp_m (fun _ w => b_wp_m (fun _ z => ⟨z.1, h _ z.2⟩) w) q
def lw_o9 (R A : bM → Prop) (a : Int → Int) (M : bM) : Prop := b_wp (F_X11_one (a 1) (a 2) (a 3) M) (fun o => b_wp (F_X12_one (a 1) (a 2) (a 3) o.2) (fun o2 => o.1 = o2.1 ∧ R o2.2))
theorem lw_m9 {R R2 A A2 : bM → Prop} {a : Int → Int} {M : bM} (h : ∀ M2, R M2 → R2 M2) (q : lw_o9 R A a M) : lw_o9 R2 A2 a M := b_wp_m (fun _ w => b_wp_m (fun _ z => ⟨z.1, h _ z.2⟩) w) q
def lw_o10 (R A : bM → Prop) (a : Int → Int) (M : bM) : Prop := b_wp (F_X11_names (a 1) M) (fun o => b_wp (F_X12_names (a 1) o.2) (fun o2 => o.1 = o2.1 ∧ R o2.2))
theorem lw_m10 {R R2 A A2 : bM → Prop} {a : Int → Int} {M : bM} (h : ∀ M2, R M2 → R2 M2) (q : lw_o10 R A a M) : lw_o10 R2 A2 a M := b_wp_m (fun _ w => b_wp_m (fun _ z => ⟨z.1, h _ z.2⟩) w) q
def lw_o11 (R A : bM → Prop) (a : Int → Int) (M : bM) : Prop := b_wp (F_X11_lot (a 1) (a 2) M) (fun o => b_wp (F_X12_lot (a 1) (a 2) o.2) (fun o2 => o.1 = o2.1 ∧ R o2.2))
theorem lw_m11 {R R2 A A2 : bM → Prop} {a : Int → Int} {M : bM} (h : ∀ M2, R M2 → R2 M2) (q : lw_o11 R A a M) : lw_o11 R2 A2 a M := b_wp_m (fun _ w => b_wp_m (fun _ z => ⟨z.1, h _ z.2⟩) w) q
def lw_o12 (R A : bM → Prop) (a : Int → Int) (M : bM) : Prop := b_wp (F_X11_split (a 1) (a 2) (a 3) (a 4) (a 5) (a 6) (a 7) M) (fun o => b_wp (F_X12_split (a 1) (a 2) (a 3) (a 4) (a 5) (a 6) (a 7) o.2) (fun o2 => o.1 = o2.1 ∧ R o2.2))
theorem lw_m12 {R R2 A A2 : bM → Prop} {a : Int → Int} {M : bM} (h : ∀ M2, R M2 → R2 M2) (q : lw_o12 R A a M) : lw_o12 R2 A2 a M := b_wp_m (fun _ w => b_wp_m (fun _ z => ⟨z.1, h _ z.2⟩) w) q
def lw_o13 (R A : bM → Prop) (a : Int → Int) (M : bM) : Prop := b_wp (F_X11_join (a 1) (a 2) (a 3) (a 4) (a 5) (a 6) (a 7) M) (fun o => b_wp (F_X12_join (a 1) (a 2) (a 3) (a 4) (a 5) (a 6) (a 7) o.2) (fun o2 => o.1 = o2.1 ∧ R o2.2))
theorem lw_m13 {R R2 A A2 : bM → Prop} {a : Int → Int} {M : bM} (h : ∀ M2, R M2 → R2 M2) (q : lw_o13 R A a M) : lw_o13 R2 A2 a M := b_wp_m (fun _ w => b_wp_m (fun _ z => ⟨z.1, h _ z.2⟩) w) q
def lw_o14 (R A : bM → Prop) (a : Int → Int) (M : bM) : Prop := b_wp (F_X11_about (a 1) (a 2) M) (fun o => b_wp (F_X12_about (a 1) (a 2) M) (fun o2 => o = o2 ∧ R M))
theorem lw_m14 {R R2 A A2 : bM → Prop} {a : Int → Int} {M : bM} (h : ∀ M2, R M2 → R2 M2) (q : lw_o14 R A a M) : lw_o14 R2 A2 a M := b_wp_m (fun _ w => b_wp_m (fun _ z => ⟨z.1, h _ z.2⟩) w) q
def lw_o15 (R A : bM → Prop) (a : Int → Int) (M : bM) : Prop := b_wp (F_X11_line (a 1) M) (fun o => b_wp (F_X12_line (a 1) M) (fun o2 => o = o2 ∧ R M))
theorem lw_m15 {R R2 A A2 : bM → Prop} {a : Int → Int} {M : bM} (h : ∀ M2, R M2 → R2 M2) (q : lw_o15 R A a M) : lw_o15 R2 A2 a M := b_wp_m (fun _ w => b_wp_m (fun _ z => ⟨z.1, h _ z.2⟩) w) q
def lw_o16 (R A : bM → Prop) (a : Int → Int) (M : bM) : Prop := b_wp (F_X11_bounds (a 1) (a 2) (a 3) M) (fun o => b_wp (F_X12_bounds (a 1) (a 2) (a 3) o.2) (fun o2 => o.1 = o2.1 ∧ R o2.2))
theorem lw_m16 {R R2 A A2 : bM → Prop} {a : Int → Int} {M : bM} (h : ∀ M2, R M2 → R2 M2) (q : lw_o16 R A a M) : lw_o16 R2 A2 a M := b_wp_m (fun _ w => b_wp_m (fun _ z => ⟨z.1, h _ z.2⟩) w) q
def lw_o17 (R A : bM → Prop) (a : Int → Int) (M : bM) : Prop := b_wp (F_X11_error (a 1) M) (fun o => b_wp (F_X12_error (a 1) M) (fun o2 => o = o2 ∧ R M))
theorem lw_m17 {R R2 A A2 : bM → Prop} {a : Int → Int} {M : bM} (h : ∀ M2, R M2 → R2 M2) (q : lw_o17 R A a M) : lw_o17 R2 A2 a M := b_wp_m (fun _ w => b_wp_m (fun _ z => ⟨z.1, h _ z.2⟩) w) q
def lw_o18 (R A : bM → Prop) (a : Int → Int) (M : bM) : Prop := b_wp (F_X11_mend (a 1) M) (fun o => b_wp (F_X12_mend (a 1) o.2) (fun o2 => o.1 = o2.1 ∧ R o2.2))
theorem lw_m18 {R R2 A A2 : bM → Prop} {a : Int → Int} {M : bM} (h : ∀ M2, R M2 → R2 M2) (q : lw_o18 R A a M) : lw_o18 R2 A2 a M := b_wp_m (fun _ w => b_wp_m (fun _ z => ⟨z.1, h _ z.2⟩) w) q
def lw_o19 (R A : bM → Prop) (a : Int → Int) (M : bM) : Prop := b_wp (F_X11_area (a 1) M) (fun o => b_wp (F_X12_area (a 1) o.2) (fun o2 => o.1 = o2.1 ∧ R o2.2))
theorem lw_m19 {R R2 A A2 : bM → Prop} {a : Int → Int} {M : bM} (h : ∀ M2, R M2 → R2 M2) (q : lw_o19 R A a M) : lw_o19 R2 A2 a M := b_wp_m (fun _ w => b_wp_m (fun _ z => ⟨z.1, h _ z.2⟩) w) q
def lw_o20 (R A : bM → Prop) (a : Int → Int) (M : bM) : Prop := b_wp (F_X11_strip (a 1) (a 2) M) (fun o => b_wp (F_X12_strip (a 1) (a 2) o.2) (fun o2 => o.1 = o2.1 ∧ R o2.2))
theorem lw_m20 {R R2 A A2 : bM → Prop} {a : Int → Int} {M : bM} (h : ∀ M2, R M2 → R2 M2) (q : lw_o20 R A a M) : lw_o20 R2 A2 a M := b_wp_m (fun _ w => b_wp_m (fun _ z => ⟨z.1, h _ z.2⟩) w) q
def lw_o21 (R A : bM → Prop) (a : Int → Int) (M : bM) : Prop := A M
theorem lw_m21 {R R2 A A2 : bM → Prop} {a : Int → Int} {M : bM} (h : ∀ M2, R M2 → R2 M2) (hA : A M → A2 M) (q : lw_o21 R A a M) : lw_o21 R2 A2 a M := hA q
def lw_o22 (R A : bM → Prop) (a : Int → Int) (M : bM) : Prop := b_wp (F_X11_fault (a 1) M) (fun o => b_wp (F_X12_fault (a 1) M) (fun o2 => o = o2 ∧ R M))
theorem lw_m22 {R R2 A A2 : bM → Prop} {a : Int → Int} {M : bM} (h : ∀ M2, R M2 → R2 M2) (q : lw_o22 R A a M) : lw_o22 R2 A2 a M := b_wp_m (fun _ w => b_wp_m (fun _ z => ⟨z.1, h _ z.2⟩) w) q
def lw_o23 (R A : bM → Prop) (a : Int → Int) (M : bM) : Prop := b_wp (F_X11_rule (a 1) (a 2) M) (fun o => b_wp (F_X12_rule (a 1) (a 2) M) (fun o2 => o = o2 ∧ R M))
theorem lw_m23 {R R2 A A2 : bM → Prop} {a : Int → Int} {M : bM} (h : ∀ M2, R M2 → R2 M2) (q : lw_o23 R A a M) : lw_o23 R2 A2 a M := b_wp_m (fun _ w => b_wp_m (fun _ z => ⟨z.1, h _ z.2⟩) w) q
def lw_o24 (R A : bM → Prop) (a : Int → Int) (M : bM) : Prop := b_wp (F_X11_burnt M) (fun o => b_wp (F_X12_burnt o.2) (fun o2 => o.1 = o2.1 ∧ R o2.2))
theorem lw_m24 {R R2 A A2 : bM → Prop} {a : Int → Int} {M : bM} (h : ∀ M2, R M2 → R2 M2) (q : lw_o24 R A a M) : lw_o24 R2 A2 a M := b_wp_m (fun _ w => b_wp_m (fun _ z => ⟨z.1, h _ z.2⟩) w) q
def lw_o25 (R A : bM → Prop) (a : Int → Int) (M : bM) : Prop := b_wp (F_X11_paper (a 1) (a 2) (a 3) (a 4) (a 5) (a 6) (a 7) M) (fun o => b_wp (F_X12_paper (a 1) (a 2) (a 3) (a 4) (a 5) (a 6) (a 7) o.2) (fun o2 => o.1 = o2.1 ∧ R o2.2))
theorem lw_m25 {R R2 A A2 : bM → Prop} {a : Int → Int} {M : bM} (h : ∀ M2, R M2 → R2 M2) (q : lw_o25 R A a M) : lw_o25 R2 A2 a M := b_wp_m (fun _ w => b_wp_m (fun _ z => ⟨z.1, h _ z.2⟩) w) q
def lw_o26 (R A : bM → Prop) (a : Int → Int) (M : bM) : Prop := b_wp (F_X11_written (a 1) (a 2) (a 3) (a 4) (a 5) M) (fun o => b_wp (F_X12_written (a 1) (a 2) (a 3) (a 4) (a 5) o.2) (fun o2 => o.1 = o2.1 ∧ R o2.2))
theorem lw_m26 {R R2 A A2 : bM → Prop} {a : Int → Int} {M : bM} (h : ∀ M2, R M2 → R2 M2) (q : lw_o26 R A a M) : lw_o26 R2 A2 a M := b_wp_m (fun _ w => b_wp_m (fun _ z => ⟨z.1, h _ z.2⟩) w) q
def lw_o27 (R A : bM → Prop) (a : Int → Int) (M : bM) : Prop := b_wp (F_X11_pages (a 1) M) (fun o => b_wp (F_X12_pages (a 1) o.2) (fun o2 => o.1 = o2.1 ∧ R o2.2))
theorem lw_m27 {R R2 A A2 : bM → Prop} {a : Int → Int} {M : bM} (h : ∀ M2, R M2 → R2 M2) (q : lw_o27 R A a M) : lw_o27 R2 A2 a M := b_wp_m (fun _ w => b_wp_m (fun _ z => ⟨z.1, h _ z.2⟩) w) q
def lw_o28 (R A : bM → Prop) (a : Int → Int) (M : bM) : Prop := b_wp (F_X11_weight (a 1) (a 2) M) (fun o => b_wp (F_X12_weight (a 1) (a 2) M) (fun o2 => o = o2.1 ∧ R o2.2))
theorem lw_m28 {R R2 A A2 : bM → Prop} {a : Int → Int} {M : bM} (h : ∀ M2, R M2 → R2 M2) (q : lw_o28 R A a M) : lw_o28 R2 A2 a M := b_wp_m (fun _ w => b_wp_m (fun _ z => ⟨z.1, h _ z.2⟩) w) q
def lw_o29 (R A : bM → Prop) (a : Int → Int) (M : bM) : Prop := b_wp (F_X11_cant (a 1) (a 2) M) (fun o => b_wp (F_X12_cant (a 1) (a 2) o.2) (fun o2 => o.1 = o2.1 ∧ R o2.2))
theorem lw_m29 {R R2 A A2 : bM → Prop} {a : Int → Int} {M : bM} (h : ∀ M2, R M2 → R2 M2) (q : lw_o29 R A a M) : lw_o29 R2 A2 a M := b_wp_m (fun _ w => b_wp_m (fun _ z => ⟨z.1, h _ z.2⟩) w) q
def lw_o30 (R A : bM → Prop) (a : Int → Int) (M : bM) : Prop := b_wp (F_X11_shown (a 1) (a 2) (a 3) M) (fun o => b_wp (F_X12_shown (a 1) (a 2) (a 3) o.2) (fun o2 => o.1 = o2.1 ∧ R o2.2))
theorem lw_m30 {R R2 A A2 : bM → Prop} {a : Int → Int} {M : bM} (h : ∀ M2, R M2 → R2 M2) (q : lw_o30 R A a M) : lw_o30 R2 A2 a M := b_wp_m (fun _ w => b_wp_m (fun _ z => ⟨z.1, h _ z.2⟩) w) q
def lw_o31 (R A : bM → Prop) (a : Int → Int) (M : bM) : Prop := b_wp (F_X11_root (a 1) (a 2) (a 3) M) (fun o => b_wp (F_X12_root (a 1) (a 2) (a 3) o.2) (fun o2 => o.1 = o2.1 ∧ R o2.2))
theorem lw_m31 {R R2 A A2 : bM → Prop} {a : Int → Int} {M : bM} (h : ∀ M2, R M2 → R2 M2) (q : lw_o31 R A a M) : lw_o31 R2 A2 a M := b_wp_m (fun _ w => b_wp_m (fun _ z => ⟨z.1, h _ z.2⟩) w) q
def lw_o32 (R A : bM → Prop) (a : Int → Int) (M : bM) : Prop := b_wp (F_X11_chain (a 1) (a 2) (a 3) M) (fun o => b_wp (F_X12_chain (a 1) (a 2) (a 3) o.2) (fun o2 => o.1 = o2.1 ∧ R o2.2))
theorem lw_m32 {R R2 A A2 : bM → Prop} {a : Int → Int} {M : bM} (h : ∀ M2, R M2 → R2 M2) (q : lw_o32 R A a M) : lw_o32 R2 A2 a M := b_wp_m (fun _ w => b_wp_m (fun _ z => ⟨z.1, h _ z.2⟩) w) q
def lw_o33 (R A : bM → Prop) (a : Int → Int) (M : bM) : Prop := b_wp (F_X11_linked (a 1) M) (fun o => b_wp (F_X12_linked (a 1) M) (fun o2 => o = o2 ∧ R M))
theorem lw_m33 {R R2 A A2 : bM → Prop} {a : Int → Int} {M : bM} (h : ∀ M2, R M2 → R2 M2) (q : lw_o33 R A a M) : lw_o33 R2 A2 a M := b_wp_m (fun _ w => b_wp_m (fun _ z => ⟨z.1, h _ z.2⟩) w) q
def lw_o34 (R A : bM → Prop) (a : Int → Int) (M : bM) : Prop := b_wp (F_X11_judge (a 1) (a 2) (a 3) M) (fun o => b_wp (F_X12_judge (a 1) (a 2) (a 3) o.2) (fun o2 => o.1 = o2.1 ∧ R o2.2))
theorem lw_m34 {R R2 A A2 : bM → Prop} {a : Int → Int} {M : bM} (h : ∀ M2, R M2 → R2 M2) (q : lw_o34 R A a M) : lw_o34 R2 A2 a M := b_wp_m (fun _ w => b_wp_m (fun _ z => ⟨z.1, h _ z.2⟩) w) q
def lw_o35 (R A : bM → Prop) (a : Int → Int) (M : bM) : Prop := b_wp (F_X11_held (a 1) (a 2) (a 3) (a 4) M) (fun o => b_wp (F_X12_held (a 1) (a 2) (a 3) (a 4) o.2) (fun o2 => o.1 = o2.1 ∧ R o2.2))
theorem lw_m35 {R R2 A A2 : bM → Prop} {a : Int → Int} {M : bM} (h : ∀ M2, R M2 → R2 M2) (q : lw_o35 R A a M) : lw_o35 R2 A2 a M := b_wp_m (fun _ w => b_wp_m (fun _ z => ⟨z.1, h _ z.2⟩) w) q
def lw_o36 (R A : bM → Prop) (a : Int → Int) (M : bM) : Prop := b_wp (F_X11_mortgage (a 1) (a 2) (a 3) (a 4) (a 5) M) (fun o => b_wp (F_X12_mortgage (a 1) (a 2) (a 3) (a 4) (a 5) o.2) (fun o2 => o.1 = o2.1 ∧ R o2.2))
theorem lw_m36 {R R2 A A2 : bM → Prop} {a : Int → Int} {M : bM} (h : ∀ M2, R M2 → R2 M2) (q : lw_o36 R A a M) : lw_o36 R2 A2 a M := b_wp_m (fun _ w => b_wp_m (fun _ z => ⟨z.1, h _ z.2⟩) w) q
def lw_o37 (R A : bM → Prop) (a : Int → Int) (M : bM) : Prop := b_wp (F_X11_paid (a 1) (a 2) M) (fun o => b_wp (F_X12_paid (a 1) (a 2) o.2) (fun o2 => o.1 = o2.1 ∧ R o2.2))
theorem lw_m37 {R R2 A A2 : bM → Prop} {a : Int → Int} {M : bM} (h : ∀ M2, R M2 → R2 M2) (q : lw_o37 R A a M) : lw_o37 R2 A2 a M := b_wp_m (fun _ w => b_wp_m (fun _ z => ⟨z.1, h _ z.2⟩) w) q
def lw_o38 (R A : bM → Prop) (a : Int → Int) (M : bM) : Prop := b_wp (F_X11_stands (a 1) (a 2) (a 3) M) (fun o => b_wp (F_X12_stands (a 1) (a 2) (a 3) M) (fun o2 => o = o2 ∧ R M))
theorem lw_m38 {R R2 A A2 : bM → Prop} {a : Int → Int} {M : bM} (h : ∀ M2, R M2 → R2 M2) (q : lw_o38 R A a M) : lw_o38 R2 A2 a M := b_wp_m (fun _ w => b_wp_m (fun _ z => ⟨z.1, h _ z.2⟩) w) q
def lw_o39 (R A : bM → Prop) (a : Int → Int) (M : bM) : Prop := b_wp (F_X11_rank (a 1) (a 2) (a 3) M) (fun o => b_wp (F_X12_rank (a 1) (a 2) (a 3) M) (fun o2 => o = o2 ∧ R M))
theorem lw_m39 {R R2 A A2 : bM → Prop} {a : Int → Int} {M : bM} (h : ∀ M2, R M2 → R2 M2) (q : lw_o39 R A a M) : lw_o39 R2 A2 a M := b_wp_m (fun _ w => b_wp_m (fun _ z => ⟨z.1, h _ z.2⟩) w) q
def lw_o40 (R A : bM → Prop) (a : Int → Int) (M : bM) : Prop := b_wp (F_X11_claim (a 1) (a 2) M) (fun o => b_wp (F_X12_claim (a 1) (a 2) o.2) (fun o2 => o.1 = o2.1 ∧ R o2.2))
theorem lw_m40 {R R2 A A2 : bM → Prop} {a : Int → Int} {M : bM} (h : ∀ M2, R M2 → R2 M2) (q : lw_o40 R A a M) : lw_o40 R2 A2 a M := b_wp_m (fun _ w => b_wp_m (fun _ z => ⟨z.1, h _ z.2⟩) w) q
def lw_o41 (R A : bM → Prop) (a : Int → Int) (M : bM) : Prop := b_wp (F_X11_sit (a 1) M) (fun o => b_wp (F_X12_sit (a 1) o.2) (fun o2 => o.1 = o2.1 ∧ R o2.2))
theorem lw_m41 {R R2 A A2 : bM → Prop} {a : Int → Int} {M : bM} (h : ∀ M2, R M2 → R2 M2) (q : lw_o41 R A a M) : lw_o41 R2 A2 a M := b_wp_m (fun _ w => b_wp_m (fun _ z => ⟨z.1, h _ z.2⟩) w) q
def lw_o42 (R A : bM → Prop) (a : Int → Int) (M : bM) : Prop := b_wp (F_X11_worth (a 1) M) (fun o => b_wp (F_X12_worth (a 1) o.2) (fun o2 => o.1 = o2.1 ∧ R o2.2))
theorem lw_m42 {R R2 A A2 : bM → Prop} {a : Int → Int} {M : bM} (h : ∀ M2, R M2 → R2 M2) (q : lw_o42 R A a M) : lw_o42 R2 A2 a M := b_wp_m (fun _ w => b_wp_m (fun _ z => ⟨z.1, h _ z.2⟩) w) q
def lw_o43 (R A : bM → Prop) (a : Int → Int) (M : bM) : Prop := b_wp (F_X11_claimed (a 1) (a 2) M) (fun o => b_wp (F_X12_claimed (a 1) (a 2) M) (fun o2 => o = o2 ∧ R M))
theorem lw_m43 {R R2 A A2 : bM → Prop} {a : Int → Int} {M : bM} (h : ∀ M2, R M2 → R2 M2) (q : lw_o43 R A a M) : lw_o43 R2 A2 a M := b_wp_m (fun _ w => b_wp_m (fun _ z => ⟨z.1, h _ z.2⟩) w) q
def lw_o44 (R A : bM → Prop) (a : Int → Int) (M : bM) : Prop := b_wp (F_X11_ruled (a 1) (a 2) M) (fun o => b_wp (F_X12_ruled (a 1) (a 2) M) (fun o2 => o = o2 ∧ R M))
theorem lw_m44 {R R2 A A2 : bM → Prop} {a : Int → Int} {M : bM} (h : ∀ M2, R M2 → R2 M2) (q : lw_o44 R A a M) : lw_o44 R2 A2 a M := b_wp_m (fun _ w => b_wp_m (fun _ z => ⟨z.1, h _ z.2⟩) w) q
def lw_o45 (R A : bM → Prop) (a : Int → Int) (M : bM) : Prop := b_wp (F_X11_open (a 1) M) (fun o => b_wp (F_X12_open (a 1) o.2) (fun o2 => o.1 = o2.1 ∧ R o2.2))
theorem lw_m45 {R R2 A A2 : bM → Prop} {a : Int → Int} {M : bM} (h : ∀ M2, R M2 → R2 M2) (q : lw_o45 R A a M) : lw_o45 R2 A2 a M := b_wp_m (fun _ w => b_wp_m (fun _ z => ⟨z.1, h _ z.2⟩) w) q
def lw_o46 (R A : bM → Prop) (a : Int → Int) (M : bM) : Prop := b_wp (F_X11_fund (a 1) M) (fun o => b_wp (F_X12_fund (a 1) o.2) (fun o2 => o.1 = o2.1 ∧ R o2.2))
theorem lw_m46 {R R2 A A2 : bM → Prop} {a : Int → Int} {M : bM} (h : ∀ M2, R M2 → R2 M2) (q : lw_o46 R A a M) : lw_o46 R2 A2 a M := b_wp_m (fun _ w => b_wp_m (fun _ z => ⟨z.1, h _ z.2⟩) w) q
def lw_o47 (R A : bM → Prop) (a : Int → Int) (M : bM) : Prop := b_wp (F_X11_place (a 1) (a 2) (a 3) M) (fun o => b_wp (F_X12_place (a 1) (a 2) (a 3) o.2) (fun o2 => o.1 = o2.1 ∧ R o2.2))
theorem lw_m47 {R R2 A A2 : bM → Prop} {a : Int → Int} {M : bM} (h : ∀ M2, R M2 → R2 M2) (q : lw_o47 R A a M) : lw_o47 R2 A2 a M := b_wp_m (fun _ w => b_wp_m (fun _ z => ⟨z.1, h _ z.2⟩) w) q
def lw_o48 (R A : bM → Prop) (a : Int → Int) (M : bM) : Prop := b_wp (F_X11_settles (a 1) M) (fun o => b_wp (F_X12_settles (a 1) o.2) (fun o2 => o.1 = o2.1 ∧ R o2.2))
theorem lw_m48 {R R2 A A2 : bM → Prop} {a : Int → Int} {M : bM} (h : ∀ M2, R M2 → R2 M2) (q : lw_o48 R A a M) : lw_o48 R2 A2 a M := b_wp_m (fun _ w => b_wp_m (fun _ z => ⟨z.1, h _ z.2⟩) w) q
def lw_o49 (R A : bM → Prop) (a : Int → Int) (M : bM) : Prop := b_wp (F_X11_next (a 1) M) (fun o => b_wp (F_X12_next (a 1) o.2) (fun o2 => o.1 = o2.1 ∧ R o2.2))
theorem lw_m49 {R R2 A A2 : bM → Prop} {a : Int → Int} {M : bM} (h : ∀ M2, R M2 → R2 M2) (q : lw_o49 R A a M) : lw_o49 R2 A2 a M := b_wp_m (fun _ w => b_wp_m (fun _ z => ⟨z.1, h _ z.2⟩) w) q
def lw_o50 (R A : bM → Prop) (a : Int → Int) (M : bM) : Prop := b_wp (F_X11_looked (a 1) M) (fun o => b_wp (F_X12_looked (a 1) M) (fun o2 => o = o2 ∧ R M))
theorem lw_m50 {R R2 A A2 : bM → Prop} {a : Int → Int} {M : bM} (h : ∀ M2, R M2 → R2 M2) (q : lw_o50 R A a M) : lw_o50 R2 A2 a M := b_wp_m (fun _ w => b_wp_m (fun _ z => ⟨z.1, h _ z.2⟩) w) q
def lw_o51 (R A : bM → Prop) (a : Int → Int) (M : bM) : Prop := b_wp (F_X11_count (a 1) M) (fun o => b_wp (F_X12_count (a 1) M) (fun o2 => o = o2 ∧ R M))
theorem lw_m51 {R R2 A A2 : bM → Prop} {a : Int → Int} {M : bM} (h : ∀ M2, R M2 → R2 M2) (q : lw_o51 R A a M) : lw_o51 R2 A2 a M := b_wp_m (fun _ w => b_wp_m (fun _ z => ⟨z.1, h _ z.2⟩) w) q
/-- what case k asks of both sides, R behind it -/
def lw_one (R A : bM → Prop) (a : Int → Int) (k : Int) (M : bM) : Prop := if k = 0 then lw_o0 R A a M else (if k = 1 then lw_o1 R A a M else (if k = 2 then lw_o2 R A a M else (if k = 3 then lw_o3 R A a M else (if k = 4 then lw_o4 R A a M else (if k = 5 then lw_o5 R A a M else (if k = 6 then lw_o6 R A a M else (if k = 7 then lw_o7 R A a M else (if k = 8 then lw_o8 R A a M else (if k = 9 then lw_o9 R A a M else (if k = 10 then lw_o10 R A a M else (if k = 11 then lw_o11 R A a M else (if k = 12 then lw_o12 R A a M else (if k = 13 then lw_o13 R A a M else (if k = 14 then lw_o14 R A a M else (if k = 15 then lw_o15 R A a M else (if k = 16 then lw_o16 R A a M else (if k = 17 then lw_o17 R A a M else (if k = 18 then lw_o18 R A a M else (if k = 19 then lw_o19 R A a M else (if k = 20 then lw_o20 R A a M else (if k = 21 then lw_o21 R A a M else (if k = 22 then lw_o22 R A a M else (if k = 23 then lw_o23 R A a M else (if k = 24 then lw_o24 R A a M else (if k = 25 then lw_o25 R A a M else (if k = 26 then lw_o26 R A a M else (if k = 27 then lw_o27 R A a M else (if k = 28 then lw_o28 R A a M else (if k = 29 then lw_o29 R A a M else (if k = 30 then lw_o30 R A a M else (if k = 31 then lw_o31 R A a M else (if k = 32 then lw_o32 R A a M else (if k = 33 then lw_o33 R A a M else (if k = 34 then lw_o34 R A a M else (if k = 35 then lw_o35 R A a M else (if k = 36 then lw_o36 R A a M else (if k = 37 then lw_o37 R A a M else (if k = 38 then lw_o38 R A a M else (if k = 39 then lw_o39 R A a M else (if k = 40 then lw_o40 R A a M else (if k = 41 then lw_o41 R A a M else (if k = 42 then lw_o42 R A a M else (if k = 43 then lw_o43 R A a M else (if k = 44 then lw_o44 R A a M else (if k = 45 then lw_o45 R A a M else (if k = 46 then lw_o46 R A a M else (if k = 47 then lw_o47 R A a M else (if k = 48 then lw_o48 R A a M else (if k = 49 then lw_o49 R A a M else (if k = 50 then lw_o50 R A a M else (if k = 51 then lw_o51 R A a M else (R M))))))))))))))))))))))))))))))))))))))))))))))))))))
theorem lw_mono {R R2 A A2 : bM → Prop} {a : Int → Int} {k : Int} {M : bM} (h : ∀ M2, R M2 → R2 M2) (hA : A M → A2 M) (q : lw_one R A a k M) : lw_one R2 A2 a k M := by
  unfold lw_one at q ⊢
  by_cases c0 : k = 0
  · rw [if_pos c0] at q ⊢; exact lw_m0 h q
  rw [if_neg c0] at q ⊢
  by_cases c1 : k = 1
  · rw [if_pos c1] at q ⊢; exact lw_m1 h q
  rw [if_neg c1] at q ⊢
  by_cases c2 : k = 2
  · rw [if_pos c2] at q ⊢; exact lw_m2 h q
  rw [if_neg c2] at q ⊢
  by_cases c3 : k = 3
  · rw [if_pos c3] at q ⊢; exact lw_m3 h q
  rw [if_neg c3] at q ⊢
  by_cases c4 : k = 4
  · rw [if_pos c4] at q ⊢; exact lw_m4 h q
  rw [if_neg c4] at q ⊢
  by_cases c5 : k = 5
  · rw [if_pos c5] at q ⊢; exact lw_m5 h q
  rw [if_neg c5] at q ⊢
  by_cases c6 : k = 6
  · rw [if_pos c6] at q ⊢; exact lw_m6 h q
  rw [if_neg c6] at q ⊢
  by_cases c7 : k = 7
  · rw [if_pos c7] at q ⊢; exact lw_m7 h q
  rw [if_neg c7] at q ⊢
  by_cases c8 : k = 8
  · rw [if_pos c8] at q ⊢; exact lw_m8 h q
  rw [if_neg c8] at q ⊢
  by_cases c9 : k = 9
  · rw [if_pos c9] at q ⊢; exact lw_m9 h q
  rw [if_neg c9] at q ⊢
  by_cases c10 : k = 10
  · rw [if_pos c10] at q ⊢; exact lw_m10 h q
  rw [if_neg c10] at q ⊢
  by_cases c11 : k = 11
  · rw [if_pos c11] at q ⊢; exact lw_m11 h q
  rw [if_neg c11] at q ⊢
  by_cases c12 : k = 12
  · rw [if_pos c12] at q ⊢; exact lw_m12 h q
  rw [if_neg c12] at q ⊢
  by_cases c13 : k = 13
  · rw [if_pos c13] at q ⊢; exact lw_m13 h q
  rw [if_neg c13] at q ⊢
  by_cases c14 : k = 14
  · rw [if_pos c14] at q ⊢; exact lw_m14 h q
  rw [if_neg c14] at q ⊢
  by_cases c15 : k = 15
  · rw [if_pos c15] at q ⊢; exact lw_m15 h q
  rw [if_neg c15] at q ⊢
  by_cases c16 : k = 16
  · rw [if_pos c16] at q ⊢; exact lw_m16 h q
  rw [if_neg c16] at q ⊢
  by_cases c17 : k = 17
  · rw [if_pos c17] at q ⊢; exact lw_m17 h q
  rw [if_neg c17] at q ⊢
  by_cases c18 : k = 18
  · rw [if_pos c18] at q ⊢; exact lw_m18 h q
  rw [if_neg c18] at q ⊢
  by_cases c19 : k = 19
  · rw [if_pos c19] at q ⊢; exact lw_m19 h q
  rw [if_neg c19] at q ⊢
  by_cases c20 : k = 20
  · rw [if_pos c20] at q ⊢; exact lw_m20 h q
  rw [if_neg c20] at q ⊢
  by_cases c21 : k = 21
  · rw [if_pos c21] at q ⊢; exact lw_m21 h hA q
  rw [if_neg c21] at q ⊢
  by_cases c22 : k = 22
  · rw [if_pos c22] at q ⊢; exact lw_m22 h q
  rw [if_neg c22] at q ⊢
  by_cases c23 : k = 23
  · rw [if_pos c23] at q ⊢; exact lw_m23 h q
  rw [if_neg c23] at q ⊢
  by_cases c24 : k = 24
  · rw [if_pos c24] at q ⊢; exact lw_m24 h q
  rw [if_neg c24] at q ⊢
  by_cases c25 : k = 25
  · rw [if_pos c25] at q ⊢; exact lw_m25 h q
  rw [if_neg c25] at q ⊢
  by_cases c26 : k = 26
  · rw [if_pos c26] at q ⊢; exact lw_m26 h q
  rw [if_neg c26] at q ⊢
  by_cases c27 : k = 27
  · rw [if_pos c27] at q ⊢; exact lw_m27 h q
  rw [if_neg c27] at q ⊢
  by_cases c28 : k = 28
  · rw [if_pos c28] at q ⊢; exact lw_m28 h q
  rw [if_neg c28] at q ⊢
  by_cases c29 : k = 29
  · rw [if_pos c29] at q ⊢; exact lw_m29 h q
  rw [if_neg c29] at q ⊢
  by_cases c30 : k = 30
  · rw [if_pos c30] at q ⊢; exact lw_m30 h q
  rw [if_neg c30] at q ⊢
  by_cases c31 : k = 31
  · rw [if_pos c31] at q ⊢; exact lw_m31 h q
  rw [if_neg c31] at q ⊢
  by_cases c32 : k = 32
  · rw [if_pos c32] at q ⊢; exact lw_m32 h q
  rw [if_neg c32] at q ⊢
  by_cases c33 : k = 33
  · rw [if_pos c33] at q ⊢; exact lw_m33 h q
  rw [if_neg c33] at q ⊢
  by_cases c34 : k = 34
  · rw [if_pos c34] at q ⊢; exact lw_m34 h q
  rw [if_neg c34] at q ⊢
  by_cases c35 : k = 35
  · rw [if_pos c35] at q ⊢; exact lw_m35 h q
  rw [if_neg c35] at q ⊢
  by_cases c36 : k = 36
  · rw [if_pos c36] at q ⊢; exact lw_m36 h q
  rw [if_neg c36] at q ⊢
  by_cases c37 : k = 37
  · rw [if_pos c37] at q ⊢; exact lw_m37 h q
  rw [if_neg c37] at q ⊢
  by_cases c38 : k = 38
  · rw [if_pos c38] at q ⊢; exact lw_m38 h q
  rw [if_neg c38] at q ⊢
  by_cases c39 : k = 39
  · rw [if_pos c39] at q ⊢; exact lw_m39 h q
  rw [if_neg c39] at q ⊢
  by_cases c40 : k = 40
  · rw [if_pos c40] at q ⊢; exact lw_m40 h q
  rw [if_neg c40] at q ⊢
  by_cases c41 : k = 41
  · rw [if_pos c41] at q ⊢; exact lw_m41 h q
  rw [if_neg c41] at q ⊢
  by_cases c42 : k = 42
  · rw [if_pos c42] at q ⊢; exact lw_m42 h q
  rw [if_neg c42] at q ⊢
  by_cases c43 : k = 43
  · rw [if_pos c43] at q ⊢; exact lw_m43 h q
  rw [if_neg c43] at q ⊢
  by_cases c44 : k = 44
  · rw [if_pos c44] at q ⊢; exact lw_m44 h q
  rw [if_neg c44] at q ⊢
  by_cases c45 : k = 45
  · rw [if_pos c45] at q ⊢; exact lw_m45 h q
  rw [if_neg c45] at q ⊢
  by_cases c46 : k = 46
  · rw [if_pos c46] at q ⊢; exact lw_m46 h q
  rw [if_neg c46] at q ⊢
  by_cases c47 : k = 47
  · rw [if_pos c47] at q ⊢; exact lw_m47 h q
  rw [if_neg c47] at q ⊢
  by_cases c48 : k = 48
  · rw [if_pos c48] at q ⊢; exact lw_m48 h q
  rw [if_neg c48] at q ⊢
  by_cases c49 : k = 49
  · rw [if_pos c49] at q ⊢; exact lw_m49 h q
  rw [if_neg c49] at q ⊢
  by_cases c50 : k = 50
  · rw [if_pos c50] at q ⊢; exact lw_m50 h q
  rw [if_neg c50] at q ⊢
  by_cases c51 : k = 51
  · rw [if_pos c51] at q ⊢; exact lw_m51 h q
  rw [if_neg c51] at q ⊢
  exact h _ q
set_option maxRecDepth 4000 in
theorem law_head {l : Launch} {E : bE} {Ln : Nat} {xs : Int → Int} {kn : Nat × Nat} {i : Int} {M : bM} (hfg : b_fg E) (hc : lw_c kn Ln i) (h : i + 8 ≤ Ln → lw_one (fun M2 => lw_hd l E Ln xs (kn.1 + 8, kn.2 + 1600) (i + 8) M2) (fun M2 => VL l E x_law b_full kn 1028 [(0, bR 2100), (1, bR 0), (2, bR 11), (3, bI i)] [] M2 (G_law E Ln xs)) (fun j => xs (i + j)) (i_and (xs i) 63) M) : lw_hd l E Ln xs kn i M := by
  have hc0 := hc
  unfold lw_c at hc0
  refine v_iload_n (f := 3) 3 rfl dL_law_18 ?_
  refine v_aload_n (f := 0) 0 rfl dL_law_19 ?_
  refine f_slen hc0.1 dL_law_20 ?_
  refine v_bipush ⟨by decide, by decide⟩ (by decide) dL_law_21 ?_
  refine v_isubN (by unfold b_r32; omega) dL_law_23 ?_
  refine v_icmp_gt (tgt := 2111) dL_law_24 (by decide) (fun hj => ?_) (fun hj => ?_)
  · refine v_iconst ⟨by decide, by decide⟩ dL_law_2111 ?_
    exact f_lret (by omega) dL_law_2112
  have hi : i + 8 ≤ Ln := by omega
  replace h := h hi
  unfold lw_one at h
  refine v_aload_n (f := 0) 0 rfl dL_law_27 ?_
  refine v_iload_n (f := 3) 3 rfl dL_law_28 ?_
  refine f_sld hc0.1 (by omega) dL_law_29 ?_
  refine v_bipush ⟨by decide, by decide⟩ (by decide) dL_law_30 ?_
  refine v_iand (v := i_and _ _) rfl dL_law_32 ?_
  refine v_case (v := 0) (fun q => ?_) (fun n0 => ?_)
  · rw [if_pos q] at h
    refine v_tsIn (tgt := 256) (0) q (by decide) (by decide) rfl dL_law_33 (by decide) ?_
    exact law_0 hfg hc hi h
  rw [if_neg n0] at h
  refine v_case (v := 1) (fun q => ?_) (fun n1 => ?_)
  · rw [if_pos q] at h
    refine v_tsIn (tgt := 319) (1) q (by decide) (by decide) rfl dL_law_33 (by decide) ?_
    exact law_1 hfg hc hi h
  rw [if_neg n1] at h
  refine v_case (v := 2) (fun q => ?_) (fun n2 => ?_)
  · rw [if_pos q] at h
    refine v_tsIn (tgt := 342) (2) q (by decide) (by decide) rfl dL_law_33 (by decide) ?_
    exact law_2 hfg hc hi h
  rw [if_neg n2] at h
  refine v_case (v := 3) (fun q => ?_) (fun n3 => ?_)
  · rw [if_pos q] at h
    refine v_tsIn (tgt := 365) (3) q (by decide) (by decide) rfl dL_law_33 (by decide) ?_
    exact law_3 hfg hc hi h
  rw [if_neg n3] at h
  refine v_case (v := 4) (fun q => ?_) (fun n4 => ?_)
  · rw [if_pos q] at h
    refine v_tsIn (tgt := 388) (4) q (by decide) (by decide) rfl dL_law_33 (by decide) ?_
    exact law_4 hfg hc hi h
  rw [if_neg n4] at h
  refine v_case (v := 5) (fun q => ?_) (fun n5 => ?_)
  · rw [if_pos q] at h
    refine v_tsIn (tgt := 421) (5) q (by decide) (by decide) rfl dL_law_33 (by decide) ?_
    exact law_5 hfg hc hi h
  rw [if_neg n5] at h
  refine v_case (v := 6) (fun q => ?_) (fun n6 => ?_)
  · rw [if_pos q] at h
    refine v_tsIn (tgt := 454) (6) q (by decide) (by decide) rfl dL_law_33 (by decide) ?_
    exact law_6 hfg hc hi h
  rw [if_neg n6] at h
  refine v_case (v := 7) (fun q => ?_) (fun n7 => ?_)
  · rw [if_pos q] at h
    refine v_tsIn (tgt := 487) (7) q (by decide) (by decide) rfl dL_law_33 (by decide) ?_
    exact law_7 hfg hc hi h
  rw [if_neg n7] at h
  refine v_case (v := 8) (fun q => ?_) (fun n8 => ?_)
  · rw [if_pos q] at h
    refine v_tsIn (tgt := 520) (8) q (by decide) (by decide) rfl dL_law_33 (by decide) ?_
    exact law_8 hfg hc hi h
  rw [if_neg n8] at h
  refine v_case (v := 9) (fun q => ?_) (fun n9 => ?_)
  · rw [if_pos q] at h
    refine v_tsIn (tgt := 553) (9) q (by decide) (by decide) rfl dL_law_33 (by decide) ?_
    exact law_9 hfg hc hi h
  rw [if_neg n9] at h
  refine v_case (v := 10) (fun q => ?_) (fun n10 => ?_)
  · rw [if_pos q] at h
    refine v_tsIn (tgt := 596) (10) q (by decide) (by decide) rfl dL_law_33 (by decide) ?_
    exact law_10 hfg hc hi h
  rw [if_neg n10] at h
  refine v_case (v := 11) (fun q => ?_) (fun n11 => ?_)
  · rw [if_pos q] at h
    refine v_tsIn (tgt := 619) (11) q (by decide) (by decide) rfl dL_law_33 (by decide) ?_
    exact law_11 hfg hc hi h
  rw [if_neg n11] at h
  refine v_case (v := 12) (fun q => ?_) (fun n12 => ?_)
  · rw [if_pos q] at h
    refine v_tsIn (tgt := 652) (12) q (by decide) (by decide) rfl dL_law_33 (by decide) ?_
    exact law_12 hfg hc hi h
  rw [if_neg n12] at h
  refine v_case (v := 13) (fun q => ?_) (fun n13 => ?_)
  · rw [if_pos q] at h
    refine v_tsIn (tgt := 739) (13) q (by decide) (by decide) rfl dL_law_33 (by decide) ?_
    exact law_13 hfg hc hi h
  rw [if_neg n13] at h
  refine v_case (v := 14) (fun q => ?_) (fun n14 => ?_)
  · rw [if_pos q] at h
    refine v_tsIn (tgt := 826) (14) q (by decide) (by decide) rfl dL_law_33 (by decide) ?_
    exact law_14 hfg hc hi h
  rw [if_neg n14] at h
  refine v_case (v := 15) (fun q => ?_) (fun n15 => ?_)
  · rw [if_pos q] at h
    refine v_tsIn (tgt := 859) (15) q (by decide) (by decide) rfl dL_law_33 (by decide) ?_
    exact law_15 hfg hc hi h
  rw [if_neg n15] at h
  refine v_case (v := 16) (fun q => ?_) (fun n16 => ?_)
  · rw [if_pos q] at h
    refine v_tsIn (tgt := 883) (16) q (by decide) (by decide) rfl dL_law_33 (by decide) ?_
    exact law_16 hfg hc hi h
  rw [if_neg n16] at h
  refine v_case (v := 17) (fun q => ?_) (fun n17 => ?_)
  · rw [if_pos q] at h
    refine v_tsIn (tgt := 926) (17) q (by decide) (by decide) rfl dL_law_33 (by decide) ?_
    exact law_17 hfg hc hi h
  rw [if_neg n17] at h
  refine v_case (v := 18) (fun q => ?_) (fun n18 => ?_)
  · rw [if_pos q] at h
    refine v_tsIn (tgt := 949) (18) q (by decide) (by decide) rfl dL_law_33 (by decide) ?_
    exact law_18 hfg hc hi h
  rw [if_neg n18] at h
  refine v_case (v := 19) (fun q => ?_) (fun n19 => ?_)
  · rw [if_pos q] at h
    refine v_tsIn (tgt := 972) (19) q (by decide) (by decide) rfl dL_law_33 (by decide) ?_
    exact law_19 hfg hc hi h
  rw [if_neg n19] at h
  refine v_case (v := 20) (fun q => ?_) (fun n20 => ?_)
  · rw [if_pos q] at h
    refine v_tsIn (tgt := 995) (20) q (by decide) (by decide) rfl dL_law_33 (by decide) ?_
    exact law_20 hfg hc hi h
  rw [if_neg n20] at h
  refine v_case (v := 21) (fun q => ?_) (fun n21 => ?_)
  · rw [if_pos q] at h
    refine v_tsIn (tgt := 1028) (21) q (by decide) (by decide) rfl dL_law_33 (by decide) ?_
    exact h
  rw [if_neg n21] at h
  refine v_case (v := 22) (fun q => ?_) (fun n22 => ?_)
  · rw [if_pos q] at h
    refine v_tsIn (tgt := 1041) (22) q (by decide) (by decide) rfl dL_law_33 (by decide) ?_
    exact law_22 hfg hc hi h
  rw [if_neg n22] at h
  refine v_case (v := 23) (fun q => ?_) (fun n23 => ?_)
  · rw [if_pos q] at h
    refine v_tsIn (tgt := 1064) (23) q (by decide) (by decide) rfl dL_law_33 (by decide) ?_
    exact law_23 hfg hc hi h
  rw [if_neg n23] at h
  refine v_case (v := 24) (fun q => ?_) (fun n24 => ?_)
  · rw [if_pos q] at h
    refine v_tsIn (tgt := 1097) (24) q (by decide) (by decide) rfl dL_law_33 (by decide) ?_
    exact law_24 hfg hc hi h
  rw [if_neg n24] at h
  refine v_case (v := 25) (fun q => ?_) (fun n25 => ?_)
  · rw [if_pos q] at h
    refine v_tsIn (tgt := 1110) (25) q (by decide) (by decide) rfl dL_law_33 (by decide) ?_
    exact law_25 hfg hc hi h
  rw [if_neg n25] at h
  refine v_case (v := 26) (fun q => ?_) (fun n26 => ?_)
  · rw [if_pos q] at h
    refine v_tsIn (tgt := 1197) (26) q (by decide) (by decide) rfl dL_law_33 (by decide) ?_
    exact law_26 hfg hc hi h
  rw [if_neg n26] at h
  refine v_case (v := 27) (fun q => ?_) (fun n27 => ?_)
  · rw [if_pos q] at h
    refine v_tsIn (tgt := 1260) (27) q (by decide) (by decide) rfl dL_law_33 (by decide) ?_
    exact law_27 hfg hc hi h
  rw [if_neg n27] at h
  refine v_case (v := 28) (fun q => ?_) (fun n28 => ?_)
  · rw [if_pos q] at h
    refine v_tsIn (tgt := 1283) (28) q (by decide) (by decide) rfl dL_law_33 (by decide) ?_
    exact law_28 hfg hc hi h
  rw [if_neg n28] at h
  refine v_case (v := 29) (fun q => ?_) (fun n29 => ?_)
  · rw [if_pos q] at h
    refine v_tsIn (tgt := 1316) (29) q (by decide) (by decide) rfl dL_law_33 (by decide) ?_
    exact law_29 hfg hc hi h
  rw [if_neg n29] at h
  refine v_case (v := 30) (fun q => ?_) (fun n30 => ?_)
  · rw [if_pos q] at h
    refine v_tsIn (tgt := 1349) (30) q (by decide) (by decide) rfl dL_law_33 (by decide) ?_
    exact law_30 hfg hc hi h
  rw [if_neg n30] at h
  refine v_case (v := 31) (fun q => ?_) (fun n31 => ?_)
  · rw [if_pos q] at h
    refine v_tsIn (tgt := 1392) (31) q (by decide) (by decide) rfl dL_law_33 (by decide) ?_
    exact law_31 hfg hc hi h
  rw [if_neg n31] at h
  refine v_case (v := 32) (fun q => ?_) (fun n32 => ?_)
  · rw [if_pos q] at h
    refine v_tsIn (tgt := 1435) (32) q (by decide) (by decide) rfl dL_law_33 (by decide) ?_
    exact law_32 hfg hc hi h
  rw [if_neg n32] at h
  refine v_case (v := 33) (fun q => ?_) (fun n33 => ?_)
  · rw [if_pos q] at h
    refine v_tsIn (tgt := 1478) (33) q (by decide) (by decide) rfl dL_law_33 (by decide) ?_
    exact law_33 hfg hc hi h
  rw [if_neg n33] at h
  refine v_case (v := 34) (fun q => ?_) (fun n34 => ?_)
  · rw [if_pos q] at h
    refine v_tsIn (tgt := 1501) (34) q (by decide) (by decide) rfl dL_law_33 (by decide) ?_
    exact law_34 hfg hc hi h
  rw [if_neg n34] at h
  refine v_case (v := 35) (fun q => ?_) (fun n35 => ?_)
  · rw [if_pos q] at h
    refine v_tsIn (tgt := 1544) (35) q (by decide) (by decide) rfl dL_law_33 (by decide) ?_
    exact law_35 hfg hc hi h
  rw [if_neg n35] at h
  refine v_case (v := 36) (fun q => ?_) (fun n36 => ?_)
  · rw [if_pos q] at h
    refine v_tsIn (tgt := 1597) (36) q (by decide) (by decide) rfl dL_law_33 (by decide) ?_
    exact law_36 hfg hc hi h
  rw [if_neg n36] at h
  refine v_case (v := 37) (fun q => ?_) (fun n37 => ?_)
  · rw [if_pos q] at h
    refine v_tsIn (tgt := 1660) (37) q (by decide) (by decide) rfl dL_law_33 (by decide) ?_
    exact law_37 hfg hc hi h
  rw [if_neg n37] at h
  refine v_case (v := 38) (fun q => ?_) (fun n38 => ?_)
  · rw [if_pos q] at h
    refine v_tsIn (tgt := 1693) (38) q (by decide) (by decide) rfl dL_law_33 (by decide) ?_
    exact law_38 hfg hc hi h
  rw [if_neg n38] at h
  refine v_case (v := 39) (fun q => ?_) (fun n39 => ?_)
  · rw [if_pos q] at h
    refine v_tsIn (tgt := 1736) (39) q (by decide) (by decide) rfl dL_law_33 (by decide) ?_
    exact law_39 hfg hc hi h
  rw [if_neg n39] at h
  refine v_case (v := 40) (fun q => ?_) (fun n40 => ?_)
  · rw [if_pos q] at h
    refine v_tsIn (tgt := 1779) (40) q (by decide) (by decide) rfl dL_law_33 (by decide) ?_
    exact law_40 hfg hc hi h
  rw [if_neg n40] at h
  refine v_case (v := 41) (fun q => ?_) (fun n41 => ?_)
  · rw [if_pos q] at h
    refine v_tsIn (tgt := 1812) (41) q (by decide) (by decide) rfl dL_law_33 (by decide) ?_
    exact law_41 hfg hc hi h
  rw [if_neg n41] at h
  refine v_case (v := 42) (fun q => ?_) (fun n42 => ?_)
  · rw [if_pos q] at h
    refine v_tsIn (tgt := 1835) (42) q (by decide) (by decide) rfl dL_law_33 (by decide) ?_
    exact law_42 hfg hc hi h
  rw [if_neg n42] at h
  refine v_case (v := 43) (fun q => ?_) (fun n43 => ?_)
  · rw [if_pos q] at h
    refine v_tsIn (tgt := 1858) (43) q (by decide) (by decide) rfl dL_law_33 (by decide) ?_
    exact law_43 hfg hc hi h
  rw [if_neg n43] at h
  refine v_case (v := 44) (fun q => ?_) (fun n44 => ?_)
  · rw [if_pos q] at h
    refine v_tsIn (tgt := 1891) (44) q (by decide) (by decide) rfl dL_law_33 (by decide) ?_
    exact law_44 hfg hc hi h
  rw [if_neg n44] at h
  refine v_case (v := 45) (fun q => ?_) (fun n45 => ?_)
  · rw [if_pos q] at h
    refine v_tsIn (tgt := 1924) (45) q (by decide) (by decide) rfl dL_law_33 (by decide) ?_
    exact law_45 hfg hc hi h
  rw [if_neg n45] at h
  refine v_case (v := 46) (fun q => ?_) (fun n46 => ?_)
  · rw [if_pos q] at h
    refine v_tsIn (tgt := 1947) (46) q (by decide) (by decide) rfl dL_law_33 (by decide) ?_
    exact law_46 hfg hc hi h
  rw [if_neg n46] at h
  refine v_case (v := 47) (fun q => ?_) (fun n47 => ?_)
  · rw [if_pos q] at h
    refine v_tsIn (tgt := 1970) (47) q (by decide) (by decide) rfl dL_law_33 (by decide) ?_
    exact law_47 hfg hc hi h
  rw [if_neg n47] at h
  refine v_case (v := 48) (fun q => ?_) (fun n48 => ?_)
  · rw [if_pos q] at h
    refine v_tsIn (tgt := 2013) (48) q (by decide) (by decide) rfl dL_law_33 (by decide) ?_
    exact law_48 hfg hc hi h
  rw [if_neg n48] at h
  refine v_case (v := 49) (fun q => ?_) (fun n49 => ?_)
  · rw [if_pos q] at h
    refine v_tsIn (tgt := 2036) (49) q (by decide) (by decide) rfl dL_law_33 (by decide) ?_
    exact law_49 hfg hc hi h
  rw [if_neg n49] at h
  refine v_case (v := 50) (fun q => ?_) (fun n50 => ?_)
  · rw [if_pos q] at h
    refine v_tsIn (tgt := 2059) (50) q (by decide) (by decide) rfl dL_law_33 (by decide) ?_
    exact law_50 hfg hc hi h
  rw [if_neg n50] at h
  refine v_case (v := 51) (fun q => ?_) (fun n51 => ?_)
  · rw [if_pos q] at h
    refine v_tsIn (tgt := 2082) (51) q (by decide) (by decide) rfl dL_law_33 (by decide) ?_
    exact law_51 hfg hc hi h
  rw [if_neg n51] at h
  refine v_tsOut (tgt := 2105) (by omega) dL_law_33 (by decide) ?_
  refine v_iincN (ls' := [(3, bI _), (0, bR _), (1, bR _), (2, bR _)]) 3 rfl (by decide) (by unfold b_r32; omega) dL_law_2105 rfl ?_
  refine v_goto (tgt := 18) dL_law_2108 (by decide) ?_
  refine v_sub (ls2 := [(0, bR _), (1, bR _), (2, bR _), (3, bI _)]) [1, 2, 3, 0] rfl ?_
  exact v_widen (k2 := (kn.1 + 8, kn.2 + 1600)) ⟨show kn.1 ≤ kn.1 + 8 by omega, show kn.2 ≤ kn.2 + 1600 by omega⟩ h
/-- the law's loop: R holds, each case keeps R: true in the end -/
theorem law_loop {l : Launch} {E : bE} {Ln : Nat} {xs : Int → Int} {R : bM → Prop} (hfg : b_fg E) (hx : ∀ i, b_r32 (xs i)) (hop : ∀ (A : bM → Prop) (a : Int → Int) (k : Int) (M : bM), (∀ j, b_r32 (a j)) → R M → A M → lw_one R A a k M)
    (hact : ∀ (kn : Nat × Nat) (i : Int) (M : bM), lw_c kn Ln i → i + 8 ≤ Ln → R M → (∀ M2, R M2 → lw_hd l E Ln xs (kn.1 + 8, kn.2 + 1600) (i + 8) M2) → VL l E x_law b_full kn 1028 [(0, bR 2100), (1, bR 0), (2, bR 11), (3, bI i)] [] M (G_law E Ln xs)) : ∀ (n : Nat) (kn : Nat × Nat) (i : Int) (M : bM), (Ln - i).toNat ≤ n → lw_c kn Ln i → R M → lw_hd l E Ln xs kn i M := by
  intro n
  induction n with
  | zero =>
    intro kn i M hn hc hR
    exact law_head hfg hc (fun hi => absurd hn (by omega))
  | succ n ih =>
    intro kn i M hn hc hR
    have hc0 := hc
    unfold lw_c at hc0
    refine law_head hfg hc (fun hi => ?_)
    have hk : ∀ M2, R M2 → lw_hd l E Ln xs (kn.1 + 8, kn.2 + 1600) (i + 8) M2 := fun M2 h2 => ih _ _ _ (by omega) (by unfold lw_c; dsimp only; omega) h2
    exact lw_mono hk (A := fun M => VL l E x_law b_full kn 1028 [(0, bR 2100), (1, bR 0), (2, bR 11), (3, bI i)] [] M (G_law E Ln xs)) id (hop _ (fun j => xs (i + j)) _ M (fun j => hx _) hR (hact kn i M hc hi hR hk))
