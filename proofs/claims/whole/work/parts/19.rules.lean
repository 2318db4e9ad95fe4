/-! if there is an answer, then K -/
def b_wl {α : Type} (x : Option α) (K : α → Prop) : Prop := ∀ a, x = some a → K a
theorem b_wl_any {α : Type} {x : Option α} : b_wl x (fun _ => True) := fun _ _ => trivial
theorem b_wl_g {α : Type} {c : Prop} [Decidable c] {x : Option α} {K : α → Prop} (h : c → b_wl x K) : b_wl (b_g c x) K := by
  intro a ha
  unfold b_g at ha
  by_cases hc : c
  · rw [if_pos hc] at ha; exact h hc a ha
  · rw [if_neg hc] at ha; exact absurd ha (by simp)
theorem b_wl_i {α : Type} {c : Prop} [Decidable c] {x y : Option α} {K : α → Prop} (h : c → b_wl x K) (h2 : ¬ c → b_wl y K) : b_wl (if c then x else y) K := by
  by_cases hc : c
  · rw [if_pos hc]; exact h hc
  · rw [if_neg hc]; exact h2 hc
theorem b_wl_l {α β : Type} {e : α} {f : α → Option β} {K : β → Prop} (h : b_wl (f e) K) : b_wl (b_let e f) K := h
theorem b_wl_two {α β γ : Type} {t : α × β} {f : α → β → Option γ} {K : γ → Prop} (h : b_wl (f t.1 t.2) K) : b_wl (b_two t f) K := h
theorem b_wl_b {α β : Type} {x : Option α} {f : α → Option β} {K : β → Prop} {P : α → Prop} (hx : b_wl x P) (h : ∀ a, P a → b_wl (f a) K) : b_wl (b_bind x f) K := by
  intro b hb
  cases hq : x with
  | none => rw [hq] at hb; exact absurd hb (by simp [b_bind])
  | some a => rw [hq] at hb; exact h a (hx a hq) b hb
theorem b_wl_loop {σ ρ : Type} {f : σ → Option (σ ⊕ ρ)} {A : σ → Prop} {K : ρ → Prop} (hs : ∀ s, A s → b_wl (f s) (Sum.elim A K)) {s : σ} (h : A s) : b_wl (b_loop f s) K := by
  intro r hr
  obtain ⟨n, hn⟩ := b_loop_to hr
  clear hr
  induction n generalizing s with
  | zero => exact absurd hn (by simp [b_loopN])
  | succ n ih =>
    unfold b_loopN at hn
    cases hf : f s with
    | none => rw [hf] at hn; exact absurd hn (by simp)
    | some v =>
      have h1 := hs s h v hf
      rw [hf] at hn
      cases v with
      | inl s2 => exact ih h1 hn
      | inr r2 =>
        cases Option.some.inj hn
        exact h1
theorem b_wl_wp {α : Type} {x : Option α} {P K : α → Prop} (h : b_wl x P) (h2 : b_wp x K) : b_wp x (fun a => P a ∧ K a) := by
  obtain ⟨a, ha, hk⟩ := b_wp_ex h2
  exact b_wp_of ha ⟨h a ha, hk⟩
/-! places that a function may write -/
abbrev bW : Type := List (Nat × Option Int)
def b_ins (W : bW) (c : Nat) (i : Int) : Bool := W.any (fun e => e.1 == c && (match e.2 with | none => true | some k => k == i))
def b_insA (W : bW) (c : Nat) : Bool := W.any (fun e => e.1 == c && e.2.isNone)
def b_sbs (W W2 : bW) : Bool := W.all (fun e => match e.2 with | none => b_insA W2 e.1 | some k => b_ins W2 e.1 k)
def b_dis (W W2 : bW) : Bool := W.all (fun e => W2.all (fun f => e.1 != f.1 || (match e.2, f.2 with | some a, some b => a != b | _, _ => false)))
theorem b_insA_ins {W : bW} {c : Nat} (h : b_insA W c = true) (i : Int) : b_ins W c i = true := by
  unfold b_insA at h
  unfold b_ins
  rw [List.any_eq_true] at h ⊢
  obtain ⟨e, he, h1⟩ := h
  refine ⟨e, he, ?_⟩
  obtain ⟨a, b⟩ := e
  cases b with
  | none => simpa using h1
  | some k => simp at h1
theorem b_sbs_ins {W W2 : bW} (h : b_sbs W W2 = true) {c : Nat} {i : Int} (hi : b_ins W c i = true) : b_ins W2 c i = true := by
  unfold b_sbs at h
  rw [List.all_eq_true] at h
  unfold b_ins at hi
  rw [List.any_eq_true] at hi
  obtain ⟨e, he, h1⟩ := hi
  have h2 := h e he
  obtain ⟨a, b⟩ := e
  cases b with
  | none =>
    simp at h1 h2
    subst h1
    exact b_insA_ins h2 i
  | some k =>
    simp at h1 h2
    obtain ⟨rfl, rfl⟩ := h1
    exact h2
theorem b_dis_ins {W W2 : bW} (h : b_dis W W2 = true) {c : Nat} {i : Int} (hi : b_ins W2 c i = true) : b_ins W c i = false := by
  rw [← Bool.not_eq_true]
  intro hw
  unfold b_dis at h
  unfold b_ins at hi hw
  rw [List.any_eq_true] at hi hw
  obtain ⟨⟨a2, b2⟩, he2, h2⟩ := hi
  obtain ⟨⟨a1, b1⟩, he1, h1⟩ := hw
  rw [List.all_eq_true] at h
  have h3 := h _ he1
  rw [List.all_eq_true] at h3
  have h4 := h3 _ he2
  cases b1 <;> cases b2 <;> simp at h1 h2 h4 <;> (try omega)
/-- M' is M but for places of W -/
def b_fr (W : bW) (M M' : bM) : Prop := ∀ c i, b_ins W c i = false → M' c i = M c i
theorem b_fr_refl {W : bW} {M : bM} : b_fr W M M := fun _ _ _ => rfl
theorem b_fr_tr {W : bW} {M M1 M2 : bM} (h : b_fr W M M1) (h2 : b_fr W M1 M2) : b_fr W M M2 := fun c i hi => (h2 c i hi).trans (h c i hi)
theorem b_fr_mo {W W2 : bW} {M M1 : bM} (hs : b_sbs W W2 = true) (h : b_fr W M M1) : b_fr W2 M M1 := by
  intro c i hi
  refine h c i ?_
  rw [← Bool.not_eq_true]
  intro q
  rw [b_sbs_ins hs q] at hi
  exact absurd hi (by simp)
theorem b_frF {W : bW} {M M1 : bM} {c : Nat} {i x : Int} (h : b_fr W M M1) (hw : b_ins W c i = true) : b_fr W M (b_up M1 c i x) := by
  intro c2 i2 hi
  unfold b_up
  by_cases q : c2 = c ∧ i2 = i
  · obtain ⟨rfl, rfl⟩ := q
    rw [hw] at hi
    exact absurd hi (by simp)
  · rw [if_neg q]; exact h c2 i2 hi
theorem b_frA {W : bW} {M M1 : bM} {c : Nat} {i x : Int} (h : b_fr W M M1) (hw : b_insA W c = true) : b_fr W M (b_up M1 c i x) := b_frF h (b_insA_ins hw i)
theorem b_frS {W : bW} {M M1 : bM} {c : Nat} {f : Int → Int} (h : b_fr W M M1) (hw : b_insA W c = true) : b_fr W M (b_set M1 c f) := by
  intro c2 i2 hi
  by_cases q : c2 = c
  · subst q
    rw [b_insA_ins hw] at hi
    exact absurd hi (by simp)
  · rw [b_set_n q]; exact h c2 i2 hi
theorem b_act10 {W : bW} {c off : Nat} (hc : 12 ≤ c ∧ c < 22) (hw : (List.range 10).all (fun j => b_insA W (12 + j + off)) = true) : b_insA W (c + off) = true := by
  rw [List.all_eq_true] at hw
  have := hw (c - 12) (List.mem_range.mpr (by omega))
  rw [show 12 + (c - 12) + off = c + off by omega] at this
  exact this
theorem b_frU_a {W : bW} {M M1 : bM} {c off : Nat} {i x : Int} (h : b_fr W M M1) (hc : 12 ≤ c ∧ c < 22) (hw : (List.range 10).all (fun j => b_insA W (12 + j + off)) = true) : b_fr W M (b_up M1 (c + off) i x) := b_frA h (b_act10 hc hw)
theorem b_frS_a {W : bW} {M M1 : bM} {c off : Nat} {f : Int → Int} (h : b_fr W M M1) (hc : 12 ≤ c ∧ c < 22) (hw : (List.range 10).all (fun j => b_insA W (12 + j + off)) = true) : b_fr W M (b_set M1 (c + off) f) := b_frS h (b_act10 hc hw)
theorem b_frU_0 {W : bW} {M M1 : bM} {c : Nat} {i x : Int} (h : b_fr W M M1) (hc : 12 ≤ c ∧ c < 22) (hw : (List.range 10).all (fun j => b_insA W (12 + j + 0)) = true) : b_fr W M (b_up M1 c i x) := b_frA h (b_act10 (off := 0) hc hw)
theorem b_wl_s {α : Type} {a : α} {K : α → Prop} (h : K a) : b_wl (some a) K := fun b hb => by cases hb; exact h
theorem b_wl_inl {α β γ : Type} {f : α → Option γ} {g : β → Option γ} {t : α} {K : γ → Prop} (h : b_wl (f t) K) : b_wl (Sum.elim f g (Sum.inl t)) K := h
theorem b_wl_lA {β : Type} {W : bW} {M0 M : bM} {c : Nat} {i x : Int} {f : bM → Option β} {K : β → Prop} (hF : b_fr W M0 M) (hw : b_insA W c = true) (h : b_fr W M0 (b_up M c i x) → b_wl (f (b_up M c i x)) K) : b_wl (b_let (b_up M c i x) f) K := h (b_frA hF hw)
theorem b_wl_lF {β : Type} {W : bW} {M0 M : bM} {c : Nat} {i x : Int} {f : bM → Option β} {K : β → Prop} (hF : b_fr W M0 M) (hw : b_ins W c i = true) (h : b_fr W M0 (b_up M c i x) → b_wl (f (b_up M c i x)) K) : b_wl (b_let (b_up M c i x) f) K := h (b_frF hF hw)
theorem b_wl_lS {β : Type} {W : bW} {M0 M : bM} {c : Nat} {g : Int → Int} {f : bM → Option β} {K : β → Prop} (hF : b_fr W M0 M) (hw : b_insA W c = true) (h : b_fr W M0 (b_set M c g) → b_wl (f (b_set M c g)) K) : b_wl (b_let (b_set M c g) f) K := h (b_frS hF hw)
theorem b_wl_lUa {β : Type} {W : bW} {M0 M : bM} {c off : Nat} {i x : Int} {f : bM → Option β} {K : β → Prop} (hF : b_fr W M0 M) (hc : 12 ≤ c ∧ c < 22) (hw : (List.range 10).all (fun j => b_insA W (12 + j + off)) = true) (h : b_fr W M0 (b_up M (c + off) i x) → b_wl (f (b_up M (c + off) i x)) K) : b_wl (b_let (b_up M (c + off) i x) f) K := h (b_frU_a hF hc hw)
theorem b_wl_lSa {β : Type} {W : bW} {M0 M : bM} {c off : Nat} {g : Int → Int} {f : bM → Option β} {K : β → Prop} (hF : b_fr W M0 M) (hc : 12 ≤ c ∧ c < 22) (hw : (List.range 10).all (fun j => b_insA W (12 + j + off)) = true) (h : b_fr W M0 (b_set M (c + off) g) → b_wl (f (b_set M (c + off) g)) K) : b_wl (b_let (b_set M (c + off) g) f) K := h (b_frS_a hF hc hw)
theorem b_wl_lU0 {β : Type} {W : bW} {M0 M : bM} {c : Nat} {i x : Int} {f : bM → Option β} {K : β → Prop} (hF : b_fr W M0 M) (hc : 12 ≤ c ∧ c < 22) (hw : (List.range 10).all (fun j => b_insA W (12 + j + 0)) = true) (h : b_fr W M0 (b_up M c i x) → b_wl (f (b_up M c i x)) K) : b_wl (b_let (b_up M c i x) f) K := h (b_frU_0 hF hc hw)
/-! forward rules -/
theorem b_Wg {α : Type} {c : Prop} [Decidable c] {x : Option α} {K : α → Prop} (hc : c) (h : b_wp x K) : b_wp (b_g c x) K := by unfold b_g; rw [if_pos hc]; exact h
theorem b_Wi {α : Type} {c : Prop} [Decidable c] {x y : Option α} {K : α → Prop} (h : c → b_wp x K) (h2 : ¬ c → b_wp y K) : b_wp (if c then x else y) K := by
  by_cases hc : c
  · rw [if_pos hc]; exact h hc
  · rw [if_neg hc]; exact h2 hc
theorem b_Wt {α : Type} {c : Prop} [Decidable c] {x y : Option α} {K : α → Prop} (hc : c) (h : b_wp x K) : b_wp (if c then x else y) K := by rw [if_pos hc]; exact h
theorem b_Wf {α : Type} {c : Prop} [Decidable c] {x y : Option α} {K : α → Prop} (hc : ¬ c) (h : b_wp y K) : b_wp (if c then x else y) K := by rw [if_neg hc]; exact h
theorem b_Wl {α β : Type} {e : α} {f : α → Option β} {K : β → Prop} (h : b_wp (f e) K) : b_wp (b_let e f) K := h
theorem b_Wtwo {α β γ : Type} {t : α × β} {f : α → β → Option γ} {K : γ → Prop} (h : b_wp (f t.1 t.2) K) : b_wp (b_two t f) K := h
theorem b_Wb {α β : Type} {x : Option α} {f : α → Option β} {K : β → Prop} (h : b_wp x (fun a => b_wp (f a) K)) : b_wp (b_bind x f) K := by
  cases x with
  | some a => exact h
  | none => exact h
theorem b_We {α β : Type} {x : Option α} {a : α} {f : α → Option β} {K : β → Prop} (hx : x = some a) (h : b_wp (f a) K) : b_wp (b_bind x f) K := by rw [hx]; exact h
theorem b_Ws {α : Type} {a : α} {K : α → Prop} (h : K a) : b_wp (some a) K := h
