def b_wp {α : Type} : Option α → (α → Prop) → Prop
  | some a, K => K a
  | none, _ => False
def b_g {α : Type} (c : Prop) [Decidable c] (x : Option α) : Option α := if c then x else none
def b_let {α β : Type} (e : α) (f : α → Option β) : Option β := f e
def b_two {α β γ : Type} (t : α × β) (f : α → β → Option γ) : Option γ := f t.1 t.2
def b_bind {α β : Type} (x : Option α) (f : α → Option β) : Option β := match x with
  | some a => f a
  | none => none
abbrev b_i32 (x : Int) : Prop := -2147483648 ≤ x ∧ x < 2147483648
abbrev b_i64 (x : Int) : Prop := -9223372036854775808 ≤ x ∧ x < 9223372036854775808
def i_and (x y : Int) : Int := (Int32.ofInt x &&& Int32.ofInt y).toInt
def i_or (x y : Int) : Int := (Int32.ofInt x ||| Int32.ofInt y).toInt
def i_xor (x y : Int) : Int := (Int32.ofInt x ^^^ Int32.ofInt y).toInt
def i_div (x y : Int) : Int := (Int32.ofInt x / Int32.ofInt y).toInt
def i_rem (x y : Int) : Int := (Int32.ofInt x - Int32.ofInt x / Int32.ofInt y * Int32.ofInt y).toInt
def i_b (x : Int) : Int := ((Int32.ofInt x).toInt8.toInt32).toInt
def i_shl (x y : Int) : Int := (Int32.ofInt x <<< (Int32.ofInt y &&& 31)).toInt
def i_shr (x y : Int) : Int := (Int32.ofInt x >>> (Int32.ofInt y &&& 31)).toInt
def i_ushr (x y : Int) : Int := (((Int32.ofInt x).toUInt32 >>> ((Int32.ofInt y).toUInt32 &&& Int32.toUInt32 31)).toInt32).toInt
def j_and (x y : Int) : Int := (Int64.ofInt x &&& Int64.ofInt y).toInt
def j_or (x y : Int) : Int := (Int64.ofInt x ||| Int64.ofInt y).toInt
def j_shl (x y : Int) : Int := (Int64.ofInt x <<< ((Int32.ofInt y).toInt64 &&& 63)).toInt
def j_shr (x y : Int) : Int := (Int64.ofInt x >>> ((Int32.ofInt y).toInt64 &&& 63)).toInt
def j_ushr (x y : Int) : Int := (((Int64.ofInt x).toUInt64 >>> ((Int32.ofInt y).toInt64.toUInt64 &&& Int64.toUInt64 63)).toInt64).toInt
def j_cmp (x y : Int) : Int := if y < x then 1 else if x = y then 0 else -1
theorem b_wp_g {α : Type} {c : Prop} [Decidable c] {x : Option α} {K : α → Prop} (h : b_wp (b_g c x) K) : c ∧ b_wp x K := by
  unfold b_g at h
  by_cases hc : c
  · rw [if_pos hc] at h; exact ⟨hc, h⟩
  · rw [if_neg hc] at h; exact h.elim
theorem b_wp_t {α : Type} {c : Prop} [Decidable c] {x y : Option α} {K : α → Prop} (hc : c) (h : b_wp (if c then x else y) K) : b_wp x K := by rw [if_pos hc] at h; exact h
theorem b_wp_f {α : Type} {c : Prop} [Decidable c] {x y : Option α} {K : α → Prop} (hc : ¬ c) (h : b_wp (if c then x else y) K) : b_wp y K := by rw [if_neg hc] at h; exact h
theorem b_wp_l {α β : Type} {e : α} {f : α → Option β} {K : β → Prop} (h : b_wp (b_let e f) K) : b_wp (f e) K := h
theorem b_wp_two {α β γ : Type} {a : α} {b : β} {f : α → β → Option γ} {K : γ → Prop} (h : b_wp (b_two (a, b) f) K) : b_wp (f a b) K := h
theorem b_wp_b {α β : Type} {x : Option α} {f : α → Option β} {K : β → Prop} (h : b_wp (b_bind x f) K) : b_wp x (fun a => b_wp (f a) K) := by
  cases x with
  | some a => exact h
  | none => exact h
theorem b_wp_inl {α β γ : Type} {f : α → Option γ} {g : β → Option γ} {t : α} {K : γ → Prop} (h : b_wp (Sum.elim f g (Sum.inl t)) K) : b_wp (f t) K := h
theorem b_wp_m {α : Type} {x : Option α} {K K2 : α → Prop} (hk : ∀ a, K a → K2 a) (h : b_wp x K) : b_wp x K2 := by
  cases x with
  | some a => exact hk a h
  | none => exact h
theorem b_wp_of {α : Type} {x : Option α} {a : α} {K : α → Prop} (hx : x = some a) (h : K a) : b_wp x K := by rw [hx]; exact h
theorem b_wp_ex {α : Type} {x : Option α} {K : α → Prop} (h : b_wp x K) : ∃ a, x = some a ∧ K a := by
  cases x with
  | some a => exact ⟨a, rfl, h⟩
  | none => exact h.elim
/-! loops -/
def b_loopN {σ ρ : Type} (f : σ → Option (σ ⊕ ρ)) : Nat → σ → Option ρ
  | 0, _ => none
  | n + 1, s => match f s with
    | none => none
    | some (.inl s2) => b_loopN f n s2
    | some (.inr r) => some r
theorem b_loopN_up {σ ρ : Type} {f : σ → Option (σ ⊕ ρ)} : ∀ (n : Nat) {s : σ} {r : ρ}, b_loopN f n s = some r → b_loopN f (n + 1) s = some r := by
  intro n
  induction n with
  | zero => intro s r h; exact absurd h (by simp [b_loopN])
  | succ n ih =>
    intro s r h
    unfold b_loopN at h ⊢
    cases hf : f s with
    | none => rw [hf] at h; exact h
    | some v =>
      rw [hf] at h
      cases v with
      | inl s2 => exact ih h
      | inr r2 => exact h
theorem b_loopN_le {σ ρ : Type} {f : σ → Option (σ ⊕ ρ)} {n : Nat} {s : σ} {r : ρ} (h : b_loopN f n s = some r) (k : Nat) : b_loopN f (n + k) s = some r := by
  induction k with
  | zero => exact h
  | succ k ih => exact b_loopN_up _ ih
noncomputable def b_loop {σ ρ : Type} (f : σ → Option (σ ⊕ ρ)) (s : σ) : Option ρ := @dite (Option ρ) (∃ n r, b_loopN f n s = some r) (Classical.propDecidable _) (fun h => some (Classical.choose (Classical.choose_spec h))) (fun _ => none)
theorem b_loop_of {σ ρ : Type} {f : σ → Option (σ ⊕ ρ)} {n : Nat} {s : σ} {r : ρ} (h : b_loopN f n s = some r) : b_loop f s = some r := by
  have hx : ∃ n r, b_loopN f n s = some r := ⟨n, r, h⟩
  unfold b_loop
  rw [dif_pos hx]
  have h2 := Classical.choose_spec (Classical.choose_spec hx)
  have h3 := b_loopN_le h2 n
  have h4 := b_loopN_le h (Classical.choose hx)
  rw [Nat.add_comm] at h4
  rw [h4] at h3
  exact h3.symm
theorem b_loop_to {σ ρ : Type} {f : σ → Option (σ ⊕ ρ)} {s : σ} {r : ρ} (h : b_loop f s = some r) : ∃ n, b_loopN f n s = some r := by
  unfold b_loop at h
  by_cases hx : ∃ n r, b_loopN f n s = some r
  · rw [dif_pos hx] at h
    refine ⟨Classical.choose hx, ?_⟩
    have h2 := Classical.choose_spec (Classical.choose_spec hx)
    rw [← Option.some.inj h]
    exact h2
  · rw [dif_neg hx] at h
    exact absurd h (by simp)
/-- one turn of a loop -/
theorem b_loop_eq {σ ρ : Type} {f : σ → Option (σ ⊕ ρ)} {s : σ} : b_loop f s = b_bind (f s) (Sum.elim (b_loop f) some) := by
  cases hf : f s with
  | none =>
    cases hb : b_loop f s with
    | none => rfl
    | some r =>
      obtain ⟨n, hn⟩ := b_loop_to hb
      cases n with
      | zero => exact absurd hn (by simp [b_loopN])
      | succ n => unfold b_loopN at hn; rw [hf] at hn; exact absurd hn (by simp)
  | some v =>
    cases v with
    | inr r =>
      refine (b_loop_of (n := 1) ?_)
      unfold b_loopN
      rw [hf]
    | inl s2 =>
      show b_loop f s = b_loop f s2
      cases hb : b_loop f s with
      | some r =>
        obtain ⟨n, hn⟩ := b_loop_to hb
        cases n with
        | zero => exact absurd hn (by simp [b_loopN])
        | succ n =>
          unfold b_loopN at hn
          rw [hf] at hn
          exact (b_loop_of hn).symm
      | none =>
        cases hb2 : b_loop f s2 with
        | none => rfl
        | some r =>
          obtain ⟨n, hn⟩ := b_loop_to hb2
          have : b_loop f s = some r := b_loop_of (n := n + 1) (by unfold b_loopN; rw [hf]; exact hn)
          rw [hb] at this
          exact absurd this (by simp)
theorem b_loop_wp {σ ρ : Type} {f : σ → Option (σ ⊕ ρ)} {A : σ → Prop} {K : ρ → Prop} (hs : ∀ s, b_wp (f s) (Sum.elim A K) → A s) (s : σ) (h : b_wp (b_loop f s) K) : A s := by
  obtain ⟨r, hr, hK⟩ := b_wp_ex h
  obtain ⟨n, hn⟩ := b_loop_to hr
  clear h hr
  induction n generalizing s with
  | zero => exact absurd hn (by simp [b_loopN])
  | succ n ih =>
    unfold b_loopN at hn
    refine hs s ?_
    cases hf : f s with
    | none => rw [hf] at hn; exact absurd hn (by simp)
    | some v =>
      rw [hf] at hn
      cases v with
      | inl s2 => exact ih s2 hn
      | inr r2 =>
        show K r2
        rw [Option.some.inj hn]
        exact hK
/-- a loop's end by a measure -/
theorem b_loop_ind {σ ρ : Type} {f : σ → Option (σ ⊕ ρ)} {I : σ → Prop} {P : ρ → Prop} (m : σ → Nat) (hs : ∀ s, I s → b_wp (f s) (Sum.elim (fun s2 => I s2 ∧ m s2 < m s) P)) (s : σ) (h : I s) : b_wp (b_loop f s) P := by
  generalize hn : m s = n
  induction n using Nat.strongRecOn generalizing s with
  | _ n ih =>
    have h1 := hs s h
    rw [b_loop_eq]
    cases hf : f s with
    | none => rw [hf] at h1; exact h1.elim
    | some v =>
      rw [hf] at h1
      cases v with
      | inr r => exact h1
      | inl s2 => exact ih (m s2) (by rw [← hn]; exact h1.2) s2 h1.1 rfl
def b_pI (Q : Int × bM → Prop) : Option bV → bM → Prop := fun r M => ∃ x, r = some (bI x) ∧ Q (x, M)
def b_pJ (Q : Int × bM → Prop) : Option bV → bM → Prop := fun r M => ∃ x, r = some (bJ x) ∧ Q (x, M)
def b_pA (Q : Nat × bM → Prop) : Option bV → bM → Prop := fun r M => ∃ x, r = some (bR x) ∧ Q (x, M)
def b_pV (Q : bM → Prop) : Option bV → bM → Prop := fun r M => r = none ∧ Q M
def b_pIp (M0 : bM) (Q : Int → Prop) : Option bV → bM → Prop := fun r M => ∃ x, r = some (bI x) ∧ M = M0 ∧ Q x
def b_pJp (M0 : bM) (Q : Int → Prop) : Option bV → bM → Prop := fun r M => ∃ x, r = some (bJ x) ∧ M = M0 ∧ Q x
def b_pAp (M0 : bM) (Q : Nat → Prop) : Option bV → bM → Prop := fun r M => ∃ x, r = some (bR x) ∧ M = M0 ∧ Q x
theorem v_cVI {l : Launch} {E : bE} {X Y : bX} {kn : Nat × Nat} {pc ix : Nat} {ls : bL} {st : List bV} {M : bM} {G : bG} {y : MethodName} {As : List bV} {ci n c0 nA : Nat} {q : vw_C} {Q : Int × bM → Prop} (hC : b_C l E Y y (bR c0 :: As) M (b_pI Q)) (hfl : bX.fl Y = 0) (hk : b_kd c0 = (0, ci, n)) (hq : b_cl[ci]? = some q) (hcls : y.cls = q.1)
    (hw : Cond.code y (bX.cc Y) (bX.nL Y) (bX.ret Y) ∈ b_T) (hwl : Cond.methodLink (bX.own X) ix y ∈ b_T) (hwi : Cond.instanceMethod y ∈ b_T) (hws : Cond.selects q.1 y y ∈ b_T) (hwn : Cond.initialized q.1 ∈ b_T)
    (hd0 : q.1 ≠ "java/lang/invoke/MethodHandle" ∧ q.1 ≠ "java/lang/invoke/VarHandle" ∧ (parseMethodDescriptor y.desc).map (fun d => d.parameters.length) = some nA) (hn : As.length = nA)
    (hroom : (bX.R Y).frames + 1 ≤ (bX.R X).frames ∧ 8 + (bX.nL Y + 11) + (bX.R Y).locals ≤ (bX.R X).locals) (hmc : kn.1 + (bX.R Y).cells ≤ (bX.R X).cells ∧ kn.2 + (bX.R Y).slots ≤ (bX.R X).slots) (hcat : (st.map (fun v => if b_c2 v = true then 2 else 1)).sum ≤ 8)
    (hd : decode (bX.cc X) pc = .ok (.invokevirtual ix, 3)) (k : ∀ x M2, Q (x, M2) → VL l E X b_full (kn.1 + (bX.R Y).cells, kn.2 + (bX.R Y).slots) (pc + 3) ls (bI x :: st) M2 G) : VL l E X b_full kn pc ls (As.reverse ++ bR c0 :: st) M G := v_callV hC hfl hk hq hcls hw hwl hwi hws hwn hd0 hn hroom hmc hcat hd (fun r M2 hp => by
    obtain ⟨x, rfl, hx⟩ := hp
    exact k x M2 hx)
theorem v_cSI {l : Launch} {E : bE} {X Y : bX} {kn : Nat × Nat} {pc ix : Nat} {ls : bL} {st : List bV} {M : bM} {G : bG} {y : MethodName} {As : List bV} {nA : Nat} {Q : Int × bM → Prop} (hC : b_C l E Y y As M (b_pI Q)) (hfl : bX.fl Y = 0)
    (hw : Cond.code y (bX.cc Y) (bX.nL Y) (bX.ret Y) ∈ b_T) (hwl : Cond.methodLink (bX.own X) ix y ∈ b_T) (hws : Cond.static y ∈ b_T) (hwn : Cond.initialized y.cls ∈ b_T)
    (hd0 : y.cls ≠ "java/lang/invoke/MethodHandle" ∧ y.cls ≠ "java/lang/invoke/VarHandle" ∧ (parseMethodDescriptor y.desc).map (fun d => d.parameters.length) = some nA) (hn : As.length = nA)
    (hroom : (bX.R Y).frames + 1 ≤ (bX.R X).frames ∧ 8 + (bX.nL Y + 11) + (bX.R Y).locals ≤ (bX.R X).locals) (hmc : kn.1 + (bX.R Y).cells ≤ (bX.R X).cells ∧ kn.2 + (bX.R Y).slots ≤ (bX.R X).slots) (hcat : (st.map (fun v => if b_c2 v = true then 2 else 1)).sum ≤ 8)
    (hd : decode (bX.cc X) pc = .ok (.invokestatic ix, 3)) (k : ∀ x M2, Q (x, M2) → VL l E X b_full (kn.1 + (bX.R Y).cells, kn.2 + (bX.R Y).slots) (pc + 3) ls (bI x :: st) M2 G) : VL l E X b_full kn pc ls (As.reverse ++ st) M G := v_callS hC hfl hw hwl hws hwn hd0 hn hroom hmc hcat hd (fun r M2 hp => by
    obtain ⟨x, rfl, hx⟩ := hp
    exact k x M2 hx)
theorem v_cVIp {l : Launch} {E : bE} {X Y : bX} {kn : Nat × Nat} {pc ix : Nat} {ls : bL} {st : List bV} {M : bM} {G : bG} {y : MethodName} {As : List bV} {ci n c0 nA : Nat} {q : vw_C} {Q : Int → Prop} (hC : b_C l E Y y (bR c0 :: As) M (b_pIp M Q)) (hfl : bX.fl Y = 0) (hk : b_kd c0 = (0, ci, n)) (hq : b_cl[ci]? = some q) (hcls : y.cls = q.1)
    (hw : Cond.code y (bX.cc Y) (bX.nL Y) (bX.ret Y) ∈ b_T) (hwl : Cond.methodLink (bX.own X) ix y ∈ b_T) (hwi : Cond.instanceMethod y ∈ b_T) (hws : Cond.selects q.1 y y ∈ b_T) (hwn : Cond.initialized q.1 ∈ b_T)
    (hd0 : q.1 ≠ "java/lang/invoke/MethodHandle" ∧ q.1 ≠ "java/lang/invoke/VarHandle" ∧ (parseMethodDescriptor y.desc).map (fun d => d.parameters.length) = some nA) (hn : As.length = nA)
    (hroom : (bX.R Y).frames + 1 ≤ (bX.R X).frames ∧ 8 + (bX.nL Y + 11) + (bX.R Y).locals ≤ (bX.R X).locals) (hmc : kn.1 + (bX.R Y).cells ≤ (bX.R X).cells ∧ kn.2 + (bX.R Y).slots ≤ (bX.R X).slots) (hcat : (st.map (fun v => if b_c2 v = true then 2 else 1)).sum ≤ 8)
    (hd : decode (bX.cc X) pc = .ok (.invokevirtual ix, 3)) (k : ∀ x, Q x → VL l E X b_full (kn.1 + (bX.R Y).cells, kn.2 + (bX.R Y).slots) (pc + 3) ls (bI x :: st) M G) : VL l E X b_full kn pc ls (As.reverse ++ bR c0 :: st) M G := v_callV hC hfl hk hq hcls hw hwl hwi hws hwn hd0 hn hroom hmc hcat hd (fun r M2 hp => by
    obtain ⟨x, rfl, rfl, hx⟩ := hp
    exact k x hx)
theorem v_cSIp {l : Launch} {E : bE} {X Y : bX} {kn : Nat × Nat} {pc ix : Nat} {ls : bL} {st : List bV} {M : bM} {G : bG} {y : MethodName} {As : List bV} {nA : Nat} {Q : Int → Prop} (hC : b_C l E Y y As M (b_pIp M Q)) (hfl : bX.fl Y = 0)
    (hw : Cond.code y (bX.cc Y) (bX.nL Y) (bX.ret Y) ∈ b_T) (hwl : Cond.methodLink (bX.own X) ix y ∈ b_T) (hws : Cond.static y ∈ b_T) (hwn : Cond.initialized y.cls ∈ b_T)
    (hd0 : y.cls ≠ "java/lang/invoke/MethodHandle" ∧ y.cls ≠ "java/lang/invoke/VarHandle" ∧ (parseMethodDescriptor y.desc).map (fun d => d.parameters.length) = some nA) (hn : As.length = nA)
    (hroom : (bX.R Y).frames + 1 ≤ (bX.R X).frames ∧ 8 + (bX.nL Y + 11) + (bX.R Y).locals ≤ (bX.R X).locals) (hmc : kn.1 + (bX.R Y).cells ≤ (bX.R X).cells ∧ kn.2 + (bX.R Y).slots ≤ (bX.R X).slots) (hcat : (st.map (fun v => if b_c2 v = true then 2 else 1)).sum ≤ 8)
    (hd : decode (bX.cc X) pc = .ok (.invokestatic ix, 3)) (k : ∀ x, Q x → VL l E X b_full (kn.1 + (bX.R Y).cells, kn.2 + (bX.R Y).slots) (pc + 3) ls (bI x :: st) M G) : VL l E X b_full kn pc ls (As.reverse ++ st) M G := v_callS hC hfl hw hwl hws hwn hd0 hn hroom hmc hcat hd (fun r M2 hp => by
    obtain ⟨x, rfl, rfl, hx⟩ := hp
    exact k x hx)
theorem v_cVJ {l : Launch} {E : bE} {X Y : bX} {kn : Nat × Nat} {pc ix : Nat} {ls : bL} {st : List bV} {M : bM} {G : bG} {y : MethodName} {As : List bV} {ci n c0 nA : Nat} {q : vw_C} {Q : Int × bM → Prop} (hC : b_C l E Y y (bR c0 :: As) M (b_pJ Q)) (hfl : bX.fl Y = 0) (hk : b_kd c0 = (0, ci, n)) (hq : b_cl[ci]? = some q) (hcls : y.cls = q.1)
    (hw : Cond.code y (bX.cc Y) (bX.nL Y) (bX.ret Y) ∈ b_T) (hwl : Cond.methodLink (bX.own X) ix y ∈ b_T) (hwi : Cond.instanceMethod y ∈ b_T) (hws : Cond.selects q.1 y y ∈ b_T) (hwn : Cond.initialized q.1 ∈ b_T)
    (hd0 : q.1 ≠ "java/lang/invoke/MethodHandle" ∧ q.1 ≠ "java/lang/invoke/VarHandle" ∧ (parseMethodDescriptor y.desc).map (fun d => d.parameters.length) = some nA) (hn : As.length = nA)
    (hroom : (bX.R Y).frames + 1 ≤ (bX.R X).frames ∧ 8 + (bX.nL Y + 11) + (bX.R Y).locals ≤ (bX.R X).locals) (hmc : kn.1 + (bX.R Y).cells ≤ (bX.R X).cells ∧ kn.2 + (bX.R Y).slots ≤ (bX.R X).slots) (hcat : (st.map (fun v => if b_c2 v = true then 2 else 1)).sum ≤ 8)
    (hd : decode (bX.cc X) pc = .ok (.invokevirtual ix, 3)) (k : ∀ x M2, Q (x, M2) → VL l E X b_full (kn.1 + (bX.R Y).cells, kn.2 + (bX.R Y).slots) (pc + 3) ls (bJ x :: st) M2 G) : VL l E X b_full kn pc ls (As.reverse ++ bR c0 :: st) M G := v_callV hC hfl hk hq hcls hw hwl hwi hws hwn hd0 hn hroom hmc hcat hd (fun r M2 hp => by
    obtain ⟨x, rfl, hx⟩ := hp
    exact k x M2 hx)
theorem v_cSJ {l : Launch} {E : bE} {X Y : bX} {kn : Nat × Nat} {pc ix : Nat} {ls : bL} {st : List bV} {M : bM} {G : bG} {y : MethodName} {As : List bV} {nA : Nat} {Q : Int × bM → Prop} (hC : b_C l E Y y As M (b_pJ Q)) (hfl : bX.fl Y = 0)
    (hw : Cond.code y (bX.cc Y) (bX.nL Y) (bX.ret Y) ∈ b_T) (hwl : Cond.methodLink (bX.own X) ix y ∈ b_T) (hws : Cond.static y ∈ b_T) (hwn : Cond.initialized y.cls ∈ b_T)
    (hd0 : y.cls ≠ "java/lang/invoke/MethodHandle" ∧ y.cls ≠ "java/lang/invoke/VarHandle" ∧ (parseMethodDescriptor y.desc).map (fun d => d.parameters.length) = some nA) (hn : As.length = nA)
    (hroom : (bX.R Y).frames + 1 ≤ (bX.R X).frames ∧ 8 + (bX.nL Y + 11) + (bX.R Y).locals ≤ (bX.R X).locals) (hmc : kn.1 + (bX.R Y).cells ≤ (bX.R X).cells ∧ kn.2 + (bX.R Y).slots ≤ (bX.R X).slots) (hcat : (st.map (fun v => if b_c2 v = true then 2 else 1)).sum ≤ 8)
    (hd : decode (bX.cc X) pc = .ok (.invokestatic ix, 3)) (k : ∀ x M2, Q (x, M2) → VL l E X b_full (kn.1 + (bX.R Y).cells, kn.2 + (bX.R Y).slots) (pc + 3) ls (bJ x :: st) M2 G) : VL l E X b_full kn pc ls (As.reverse ++ st) M G := v_callS hC hfl hw hwl hws hwn hd0 hn hroom hmc hcat hd (fun r M2 hp => by
    obtain ⟨x, rfl, hx⟩ := hp
    exact k x M2 hx)
theorem v_cVJp {l : Launch} {E : bE} {X Y : bX} {kn : Nat × Nat} {pc ix : Nat} {ls : bL} {st : List bV} {M : bM} {G : bG} {y : MethodName} {As : List bV} {ci n c0 nA : Nat} {q : vw_C} {Q : Int → Prop} (hC : b_C l E Y y (bR c0 :: As) M (b_pJp M Q)) (hfl : bX.fl Y = 0) (hk : b_kd c0 = (0, ci, n)) (hq : b_cl[ci]? = some q) (hcls : y.cls = q.1)
    (hw : Cond.code y (bX.cc Y) (bX.nL Y) (bX.ret Y) ∈ b_T) (hwl : Cond.methodLink (bX.own X) ix y ∈ b_T) (hwi : Cond.instanceMethod y ∈ b_T) (hws : Cond.selects q.1 y y ∈ b_T) (hwn : Cond.initialized q.1 ∈ b_T)
    (hd0 : q.1 ≠ "java/lang/invoke/MethodHandle" ∧ q.1 ≠ "java/lang/invoke/VarHandle" ∧ (parseMethodDescriptor y.desc).map (fun d => d.parameters.length) = some nA) (hn : As.length = nA)
    (hroom : (bX.R Y).frames + 1 ≤ (bX.R X).frames ∧ 8 + (bX.nL Y + 11) + (bX.R Y).locals ≤ (bX.R X).locals) (hmc : kn.1 + (bX.R Y).cells ≤ (bX.R X).cells ∧ kn.2 + (bX.R Y).slots ≤ (bX.R X).slots) (hcat : (st.map (fun v => if b_c2 v = true then 2 else 1)).sum ≤ 8)
    (hd : decode (bX.cc X) pc = .ok (.invokevirtual ix, 3)) (k : ∀ x, Q x → VL l E X b_full (kn.1 + (bX.R Y).cells, kn.2 + (bX.R Y).slots) (pc + 3) ls (bJ x :: st) M G) : VL l E X b_full kn pc ls (As.reverse ++ bR c0 :: st) M G := v_callV hC hfl hk hq hcls hw hwl hwi hws hwn hd0 hn hroom hmc hcat hd (fun r M2 hp => by
    obtain ⟨x, rfl, rfl, hx⟩ := hp
    exact k x hx)
theorem v_cSJp {l : Launch} {E : bE} {X Y : bX} {kn : Nat × Nat} {pc ix : Nat} {ls : bL} {st : List bV} {M : bM} {G : bG} {y : MethodName} {As : List bV} {nA : Nat} {Q : Int → Prop} (hC : b_C l E Y y As M (b_pJp M Q)) (hfl : bX.fl Y = 0)
    (hw : Cond.code y (bX.cc Y) (bX.nL Y) (bX.ret Y) ∈ b_T) (hwl : Cond.methodLink (bX.own X) ix y ∈ b_T) (hws : Cond.static y ∈ b_T) (hwn : Cond.initialized y.cls ∈ b_T)
    (hd0 : y.cls ≠ "java/lang/invoke/MethodHandle" ∧ y.cls ≠ "java/lang/invoke/VarHandle" ∧ (parseMethodDescriptor y.desc).map (fun d => d.parameters.length) = some nA) (hn : As.length = nA)
    (hroom : (bX.R Y).frames + 1 ≤ (bX.R X).frames ∧ 8 + (bX.nL Y + 11) + (bX.R Y).locals ≤ (bX.R X).locals) (hmc : kn.1 + (bX.R Y).cells ≤ (bX.R X).cells ∧ kn.2 + (bX.R Y).slots ≤ (bX.R X).slots) (hcat : (st.map (fun v => if b_c2 v = true then 2 else 1)).sum ≤ 8)
    (hd : decode (bX.cc X) pc = .ok (.invokestatic ix, 3)) (k : ∀ x, Q x → VL l E X b_full (kn.1 + (bX.R Y).cells, kn.2 + (bX.R Y).slots) (pc + 3) ls (bJ x :: st) M G) : VL l E X b_full kn pc ls (As.reverse ++ st) M G := v_callS hC hfl hw hwl hws hwn hd0 hn hroom hmc hcat hd (fun r M2 hp => by
    obtain ⟨x, rfl, rfl, hx⟩ := hp
    exact k x hx)
theorem v_cVA {l : Launch} {E : bE} {X Y : bX} {kn : Nat × Nat} {pc ix : Nat} {ls : bL} {st : List bV} {M : bM} {G : bG} {y : MethodName} {As : List bV} {ci n c0 nA : Nat} {q : vw_C} {Q : Nat × bM → Prop} (hC : b_C l E Y y (bR c0 :: As) M (b_pA Q)) (hfl : bX.fl Y = 0) (hk : b_kd c0 = (0, ci, n)) (hq : b_cl[ci]? = some q) (hcls : y.cls = q.1)
    (hw : Cond.code y (bX.cc Y) (bX.nL Y) (bX.ret Y) ∈ b_T) (hwl : Cond.methodLink (bX.own X) ix y ∈ b_T) (hwi : Cond.instanceMethod y ∈ b_T) (hws : Cond.selects q.1 y y ∈ b_T) (hwn : Cond.initialized q.1 ∈ b_T)
    (hd0 : q.1 ≠ "java/lang/invoke/MethodHandle" ∧ q.1 ≠ "java/lang/invoke/VarHandle" ∧ (parseMethodDescriptor y.desc).map (fun d => d.parameters.length) = some nA) (hn : As.length = nA)
    (hroom : (bX.R Y).frames + 1 ≤ (bX.R X).frames ∧ 8 + (bX.nL Y + 11) + (bX.R Y).locals ≤ (bX.R X).locals) (hmc : kn.1 + (bX.R Y).cells ≤ (bX.R X).cells ∧ kn.2 + (bX.R Y).slots ≤ (bX.R X).slots) (hcat : (st.map (fun v => if b_c2 v = true then 2 else 1)).sum ≤ 8)
    (hd : decode (bX.cc X) pc = .ok (.invokevirtual ix, 3)) (k : ∀ x M2, Q (x, M2) → VL l E X b_full (kn.1 + (bX.R Y).cells, kn.2 + (bX.R Y).slots) (pc + 3) ls (bR x :: st) M2 G) : VL l E X b_full kn pc ls (As.reverse ++ bR c0 :: st) M G := v_callV hC hfl hk hq hcls hw hwl hwi hws hwn hd0 hn hroom hmc hcat hd (fun r M2 hp => by
    obtain ⟨x, rfl, hx⟩ := hp
    exact k x M2 hx)
theorem v_cSA {l : Launch} {E : bE} {X Y : bX} {kn : Nat × Nat} {pc ix : Nat} {ls : bL} {st : List bV} {M : bM} {G : bG} {y : MethodName} {As : List bV} {nA : Nat} {Q : Nat × bM → Prop} (hC : b_C l E Y y As M (b_pA Q)) (hfl : bX.fl Y = 0)
    (hw : Cond.code y (bX.cc Y) (bX.nL Y) (bX.ret Y) ∈ b_T) (hwl : Cond.methodLink (bX.own X) ix y ∈ b_T) (hws : Cond.static y ∈ b_T) (hwn : Cond.initialized y.cls ∈ b_T)
    (hd0 : y.cls ≠ "java/lang/invoke/MethodHandle" ∧ y.cls ≠ "java/lang/invoke/VarHandle" ∧ (parseMethodDescriptor y.desc).map (fun d => d.parameters.length) = some nA) (hn : As.length = nA)
    (hroom : (bX.R Y).frames + 1 ≤ (bX.R X).frames ∧ 8 + (bX.nL Y + 11) + (bX.R Y).locals ≤ (bX.R X).locals) (hmc : kn.1 + (bX.R Y).cells ≤ (bX.R X).cells ∧ kn.2 + (bX.R Y).slots ≤ (bX.R X).slots) (hcat : (st.map (fun v => if b_c2 v = true then 2 else 1)).sum ≤ 8)
    (hd : decode (bX.cc X) pc = .ok (.invokestatic ix, 3)) (k : ∀ x M2, Q (x, M2) → VL l E X b_full (kn.1 + (bX.R Y).cells, kn.2 + (bX.R Y).slots) (pc + 3) ls (bR x :: st) M2 G) : VL l E X b_full kn pc ls (As.reverse ++ st) M G := v_callS hC hfl hw hwl hws hwn hd0 hn hroom hmc hcat hd (fun r M2 hp => by
    obtain ⟨x, rfl, hx⟩ := hp
    exact k x M2 hx)
theorem v_cVAp {l : Launch} {E : bE} {X Y : bX} {kn : Nat × Nat} {pc ix : Nat} {ls : bL} {st : List bV} {M : bM} {G : bG} {y : MethodName} {As : List bV} {ci n c0 nA : Nat} {q : vw_C} {Q : Nat → Prop} (hC : b_C l E Y y (bR c0 :: As) M (b_pAp M Q)) (hfl : bX.fl Y = 0) (hk : b_kd c0 = (0, ci, n)) (hq : b_cl[ci]? = some q) (hcls : y.cls = q.1)
    (hw : Cond.code y (bX.cc Y) (bX.nL Y) (bX.ret Y) ∈ b_T) (hwl : Cond.methodLink (bX.own X) ix y ∈ b_T) (hwi : Cond.instanceMethod y ∈ b_T) (hws : Cond.selects q.1 y y ∈ b_T) (hwn : Cond.initialized q.1 ∈ b_T)
    (hd0 : q.1 ≠ "java/lang/invoke/MethodHandle" ∧ q.1 ≠ "java/lang/invoke/VarHandle" ∧ (parseMethodDescriptor y.desc).map (fun d => d.parameters.length) = some nA) (hn : As.length = nA)
    (hroom : (bX.R Y).frames + 1 ≤ (bX.R X).frames ∧ 8 + (bX.nL Y + 11) + (bX.R Y).locals ≤ (bX.R X).locals) (hmc : kn.1 + (bX.R Y).cells ≤ (bX.R X).cells ∧ kn.2 + (bX.R Y).slots ≤ (bX.R X).slots) (hcat : (st.map (fun v => if b_c2 v = true then 2 else 1)).sum ≤ 8)
    (hd : decode (bX.cc X) pc = .ok (.invokevirtual ix, 3)) (k : ∀ x, Q x → VL l E X b_full (kn.1 + (bX.R Y).cells, kn.2 + (bX.R Y).slots) (pc + 3) ls (bR x :: st) M G) : VL l E X b_full kn pc ls (As.reverse ++ bR c0 :: st) M G := v_callV hC hfl hk hq hcls hw hwl hwi hws hwn hd0 hn hroom hmc hcat hd (fun r M2 hp => by
    obtain ⟨x, rfl, rfl, hx⟩ := hp
    exact k x hx)
theorem v_cSAp {l : Launch} {E : bE} {X Y : bX} {kn : Nat × Nat} {pc ix : Nat} {ls : bL} {st : List bV} {M : bM} {G : bG} {y : MethodName} {As : List bV} {nA : Nat} {Q : Nat → Prop} (hC : b_C l E Y y As M (b_pAp M Q)) (hfl : bX.fl Y = 0)
    (hw : Cond.code y (bX.cc Y) (bX.nL Y) (bX.ret Y) ∈ b_T) (hwl : Cond.methodLink (bX.own X) ix y ∈ b_T) (hws : Cond.static y ∈ b_T) (hwn : Cond.initialized y.cls ∈ b_T)
    (hd0 : y.cls ≠ "java/lang/invoke/MethodHandle" ∧ y.cls ≠ "java/lang/invoke/VarHandle" ∧ (parseMethodDescriptor y.desc).map (fun d => d.parameters.length) = some nA) (hn : As.length = nA)
    (hroom : (bX.R Y).frames + 1 ≤ (bX.R X).frames ∧ 8 + (bX.nL Y + 11) + (bX.R Y).locals ≤ (bX.R X).locals) (hmc : kn.1 + (bX.R Y).cells ≤ (bX.R X).cells ∧ kn.2 + (bX.R Y).slots ≤ (bX.R X).slots) (hcat : (st.map (fun v => if b_c2 v = true then 2 else 1)).sum ≤ 8)
    (hd : decode (bX.cc X) pc = .ok (.invokestatic ix, 3)) (k : ∀ x, Q x → VL l E X b_full (kn.1 + (bX.R Y).cells, kn.2 + (bX.R Y).slots) (pc + 3) ls (bR x :: st) M G) : VL l E X b_full kn pc ls (As.reverse ++ st) M G := v_callS hC hfl hw hwl hws hwn hd0 hn hroom hmc hcat hd (fun r M2 hp => by
    obtain ⟨x, rfl, rfl, hx⟩ := hp
    exact k x hx)
theorem v_cVV {l : Launch} {E : bE} {X Y : bX} {kn : Nat × Nat} {pc ix : Nat} {ls : bL} {st : List bV} {M : bM} {G : bG} {y : MethodName} {As : List bV} {ci n c0 nA : Nat} {q : vw_C} {Q : bM → Prop} (hC : b_C l E Y y (bR c0 :: As) M (b_pV Q)) (hfl : bX.fl Y = 0) (hk : b_kd c0 = (0, ci, n)) (hq : b_cl[ci]? = some q) (hcls : y.cls = q.1)
    (hw : Cond.code y (bX.cc Y) (bX.nL Y) (bX.ret Y) ∈ b_T) (hwl : Cond.methodLink (bX.own X) ix y ∈ b_T) (hwi : Cond.instanceMethod y ∈ b_T) (hws : Cond.selects q.1 y y ∈ b_T) (hwn : Cond.initialized q.1 ∈ b_T)
    (hd0 : q.1 ≠ "java/lang/invoke/MethodHandle" ∧ q.1 ≠ "java/lang/invoke/VarHandle" ∧ (parseMethodDescriptor y.desc).map (fun d => d.parameters.length) = some nA) (hn : As.length = nA)
    (hroom : (bX.R Y).frames + 1 ≤ (bX.R X).frames ∧ 8 + (bX.nL Y + 11) + (bX.R Y).locals ≤ (bX.R X).locals) (hmc : kn.1 + (bX.R Y).cells ≤ (bX.R X).cells ∧ kn.2 + (bX.R Y).slots ≤ (bX.R X).slots) (hcat : (st.map (fun v => if b_c2 v = true then 2 else 1)).sum ≤ 8)
    (hd : decode (bX.cc X) pc = .ok (.invokevirtual ix, 3)) (k : ∀ M2, Q M2 → VL l E X b_full (kn.1 + (bX.R Y).cells, kn.2 + (bX.R Y).slots) (pc + 3) ls st M2 G) : VL l E X b_full kn pc ls (As.reverse ++ bR c0 :: st) M G := v_callV hC hfl hk hq hcls hw hwl hwi hws hwn hd0 hn hroom hmc hcat hd (fun r M2 hp => by
    obtain ⟨rfl, hx⟩ := hp
    exact k M2 hx)
theorem v_cSV {l : Launch} {E : bE} {X Y : bX} {kn : Nat × Nat} {pc ix : Nat} {ls : bL} {st : List bV} {M : bM} {G : bG} {y : MethodName} {As : List bV} {nA : Nat} {Q : bM → Prop} (hC : b_C l E Y y As M (b_pV Q)) (hfl : bX.fl Y = 0)
    (hw : Cond.code y (bX.cc Y) (bX.nL Y) (bX.ret Y) ∈ b_T) (hwl : Cond.methodLink (bX.own X) ix y ∈ b_T) (hws : Cond.static y ∈ b_T) (hwn : Cond.initialized y.cls ∈ b_T)
    (hd0 : y.cls ≠ "java/lang/invoke/MethodHandle" ∧ y.cls ≠ "java/lang/invoke/VarHandle" ∧ (parseMethodDescriptor y.desc).map (fun d => d.parameters.length) = some nA) (hn : As.length = nA)
    (hroom : (bX.R Y).frames + 1 ≤ (bX.R X).frames ∧ 8 + (bX.nL Y + 11) + (bX.R Y).locals ≤ (bX.R X).locals) (hmc : kn.1 + (bX.R Y).cells ≤ (bX.R X).cells ∧ kn.2 + (bX.R Y).slots ≤ (bX.R X).slots) (hcat : (st.map (fun v => if b_c2 v = true then 2 else 1)).sum ≤ 8)
    (hd : decode (bX.cc X) pc = .ok (.invokestatic ix, 3)) (k : ∀ M2, Q M2 → VL l E X b_full (kn.1 + (bX.R Y).cells, kn.2 + (bX.R Y).slots) (pc + 3) ls st M2 G) : VL l E X b_full kn pc ls (As.reverse ++ st) M G := v_callS hC hfl hw hwl hws hwn hd0 hn hroom hmc hcat hd (fun r M2 hp => by
    obtain ⟨rfl, hx⟩ := hp
    exact k M2 hx)
theorem v_okI {l : Launch} {E : bE} {X : bX} {kn : Nat × Nat} {pc : Nat} {ls : bL} {st : List bV} {M : bM} {G : bG} {L : List Nat} {x : Int} (k : b_r32 x → VL l E X L kn pc ls (bI x :: st) M G) : VL l E X L kn pc ls (bI x :: st) M G := by
  intro p e s m args below meth c H locs lsA A ad0 ad hX hS hL hsb hG
  exact k (hL.2.2 (bI x) List.mem_cons_self) p e s m args below meth c H locs lsA A ad0 ad hX hS hL hsb hG
theorem b_i2l {x : Int} (h : b_r32 x) : ((Int32.ofInt x).toInt64).toInt = x := by
  rw [Int32.toInt_toInt64]; exact to32 h
theorem v_i2lN {l : Launch} {E : bE} {X : bX} {kn : Nat × Nat} {pc : Nat} {ls : bL} {st : List bV} {M : bM} {G : bG} {L : List Nat} {x : Int} (hd : decode (bX.cc X) pc = .ok (.i2l, 1)) (k : VL l E X L kn (pc + 1) ls (bJ x :: st) M G) : VL l E X L kn pc ls (bI x :: st) M G := v_okI (fun h => v_i2l (b_i2l h) hd k)
theorem b_l2i {x : Int} (h : b_i32 x) : ((Int64.ofInt x).toInt32).toInt = x := by
  have h6 : (Int64.ofInt x).toInt = x := to64 ⟨by have := h.1; omega, by have := h.2; omega⟩
  rw [Int64.toInt_toInt32, h6]
  have e := to32 (x := x) h
  rw [Int32.toInt_ofInt] at e
  exact e
theorem v_l2iN {l : Launch} {E : bE} {X : bX} {kn : Nat × Nat} {pc : Nat} {ls : bL} {st : List bV} {M : bM} {G : bG} {L : List Nat} {x : Int} (h : b_i32 x) (hd : decode (bX.cc X) pc = .ok (.l2i, 1)) (k : VL l E X L kn (pc + 1) ls (bI x :: st) M G) : VL l E X L kn pc ls (bJ x :: st) M G := v_l2i (b_l2i h) hd k
theorem v_inegN {l : Launch} {E : bE} {X : bX} {kn : Nat × Nat} {pc : Nat} {ls : bL} {st : List bV} {M : bM} {G : bG} {L : List Nat} {x : Int} (h : b_i32 (-x)) (hd : decode (bX.cc X) pc = .ok (.ineg, 1)) (k : VL l E X L kn (pc + 1) ls (bI (-x) :: st) M G) : VL l E X L kn pc ls (bI x :: st) M G := v_ineg hd (by rw [w32_id h]; exact k)
theorem v_laddN {l : Launch} {E : bE} {X : bX} {kn : Nat × Nat} {pc : Nat} {ls : bL} {st : List bV} {M : bM} {G : bG} {L : List Nat} {x y : Int} (h : b_i64 (x + y)) (hd : decode (bX.cc X) pc = .ok (.ladd, 1)) (k : VL l E X L kn (pc + 1) ls (bJ (x + y) :: st) M G) : VL l E X L kn pc ls (bJ y :: bJ x :: st) M G := v_ladd hd (by rw [w64_id h]; exact k)
theorem v_lsubN {l : Launch} {E : bE} {X : bX} {kn : Nat × Nat} {pc : Nat} {ls : bL} {st : List bV} {M : bM} {G : bG} {L : List Nat} {x y : Int} (h : b_i64 (x - y)) (hd : decode (bX.cc X) pc = .ok (.lsub, 1)) (k : VL l E X L kn (pc + 1) ls (bJ (x - y) :: st) M G) : VL l E X L kn pc ls (bJ y :: bJ x :: st) M G := v_lsub hd (by rw [w64_id h]; exact k)
theorem v_lmulN {l : Launch} {E : bE} {X : bX} {kn : Nat × Nat} {pc : Nat} {ls : bL} {st : List bV} {M : bM} {G : bG} {L : List Nat} {x y : Int} (h : b_i64 (x * y)) (hd : decode (bX.cc X) pc = .ok (.lmul, 1)) (k : VL l E X L kn (pc + 1) ls (bJ (x * y) :: st) M G) : VL l E X L kn pc ls (bJ y :: bJ x :: st) M G := v_lmul hd (by rw [w64_id h]; exact k)
theorem v_lcmpN {l : Launch} {E : bE} {X : bX} {kn : Nat × Nat} {pc : Nat} {ls : bL} {st : List bV} {M : bM} {G : bG} {L : List Nat} {x y : Int} (hd : decode (bX.cc X) pc = .ok (.lcmp, 1)) (k : VL l E X L kn (pc + 1) ls (bI (j_cmp x y) :: st) M G) : VL l E X L kn pc ls (bJ y :: bJ x :: st) M G := v_lcmp hd k
theorem b_narz {x : Int} (h : x = 0 ∨ x = 1) : vp_nar .boolean (Int32.ofInt x) = Int32.ofInt x := by
  rcases h with rfl | rfl <;> rfl
theorem b_narb {x : Int} (h : -128 ≤ x ∧ x < 128) : vp_nar .byte (Int32.ofInt x) = Int32.ofInt x := by
  have h32 : (Int32.ofInt x).toInt = x := to32 ⟨by omega, by omega⟩
  show (Int32.ofInt x).toInt8.toInt32 = Int32.ofInt x
  rw [← Int32.toInt_inj, Int8.toInt_toInt32, Int32.toInt_toInt8, h32, Int.bmod_def]
  omega
theorem i_b_r (x : Int) : -128 ≤ i_b x ∧ i_b x < 128 := by
  unfold i_b
  rw [Int8.toInt_toInt32]
  exact ⟨Int8.le_toInt _, Int8.toInt_lt _⟩
theorem b_i2b {x : Int} (h : -128 ≤ x ∧ x < 128) : ((Int32.ofInt x).toInt8.toInt32).toInt = x := by
  have h32 : (Int32.ofInt x).toInt = x := to32 ⟨by omega, by omega⟩
  rw [Int8.toInt_toInt32, Int32.toInt_toInt8, h32, Int.bmod_def]
  omega
section Ldcw
variable {p : Program} {l : Launch} {e : Env} {R : Room} {s : State} {m : MethodId} {args : Array Value} {below : List Frame} {meth : Method} {c : Code} {H : Heap} {locs : List Loc} {cells slots : Nat} {Q : State → Prop} {cc : ByteArray} {pc : Nat} {ls : Array Slot} {rest : List Value}
theorem b_ldcw (hexec : p.tables.exec = Jvm.exec) (hb : c.code = cc) {own tx : String} {index q : Nat} (hown : s.vm.findClass own = some m.cls) (hZ : vk_R own index tx q s) (hdg : decode cc pc = .ok (.ldc_w index, 3))
    (k : W p l e R s m args below meth c H locs cells slots Q (F0 m (pc + 3) ls (.ref q :: rest))) : W p l e R s m args below meth c H locs cells slots Q (F0 m pc ls rest) := by
  intro T hT X
  obtain ⟨t, a1, b1⟩ := k T hT X
  obtain ⟨k1, cf, i, a', hk, hcf, hcp, -, hr, hev'⟩ := Cond.stringRef_spec hown hZ.1
  cases hZ.2.symm.trans hev'
  obtain ⟨k', hk', he⟩ := X.warmed.alike.2.2 _ _ hk
  have hr' : k'.resolved[index]? = some (some (.string q)) := by
    rcases X.warmed.entry hk hk' index with h | ⟨h, -⟩
    · rw [h]; exact hr
    · rw [hr] at h; cases h
  refine ⟨t, ?_, b1⟩
  have hdg' : decode c.code (F0 m pc ls rest).pc = .ok (.ldc_w index, 3) := by rw [hb]; exact hdg
  jvm_step X.here [hexec, hdg', Op.ldc_w.wp_string (e := e) (s := T) (f := F0 m pc ls rest) X.here.top hk' (by rw [he]; exact hcf) hcp hr']
  exact a1
end Ldcw
theorem f_ldcSw {l : Launch} {E : bE} {X : bX} {kn : Nat × Nat} {pc : Nat} {ls : bL} {st : List bV} {M : bM} {G : bG} {L : List Nat} {c1 ix : Nat} {tx : String} (hc : 2000 ≤ c1) (hR : vk_R (bX.own X) ix tx (E.2.2.2 c1) (b_S0 E)) (hd : decode (bX.cc X) pc = .ok (.ldc_w ix, 3)) (k : VL l E X L kn (pc + 3) ls (bR c1 :: st) M G) : VL l E X L kn pc ls st M G := by
  intro p e s m args below meth c H locs lsA A ad0 ad hX hS hL hsb hG
  obtain ⟨hx, hb, hml, hown, hts, hret, hlk, hK, hnm, hwm⟩ := id hX
  obtain ⟨hl, hlo, hso⟩ := id hL
  obtain ⟨hP, hD, hRg, hva, hA⟩ := id hS
  refine b_ldcw hx hb hown (vk_R.warm hwm hR) hd ?_
  rw [← hA.2.2.2.2 c1 hc]
  exact k p e s m args below meth c H locs lsA A ad0 ad hX hS ⟨hl, hlo, ok_c (v := bR c1) trivial hso⟩ hsb hG
theorem kd_act0 {c : Nat} (h : 12 ≤ c ∧ c < 22) : b_kd (c) = (0, 0, 6) := by
  have : c = 12 ∨ c = 13 ∨ c = 14 ∨ c = 15 ∨ c = 16 ∨ c = 17 ∨ c = 18 ∨ c = 19 ∨ c = 20 ∨ c = 21 := by omega
  rcases this with rfl | rfl | rfl | rfl | rfl | rfl | rfl | rfl | rfl | rfl
  · exact kd_12
  · exact kd_13
  · exact kd_14
  · exact kd_15
  · exact kd_16
  · exact kd_17
  · exact kd_18
  · exact kd_19
  · exact kd_20
  · exact kd_21
theorem kd_act10 {c : Nat} (h : 12 ≤ c ∧ c < 22) : b_kd (c + 10) = (1, 10, 0) := by
  have : c = 12 ∨ c = 13 ∨ c = 14 ∨ c = 15 ∨ c = 16 ∨ c = 17 ∨ c = 18 ∨ c = 19 ∨ c = 20 ∨ c = 21 := by omega
  rcases this with rfl | rfl | rfl | rfl | rfl | rfl | rfl | rfl | rfl | rfl
  · exact kd_22
  · exact kd_23
  · exact kd_24
  · exact kd_25
  · exact kd_26
  · exact kd_27
  · exact kd_28
  · exact kd_29
  · exact kd_30
  · exact kd_31
theorem kd_act20 {c : Nat} (h : 12 ≤ c ∧ c < 22) : b_kd (c + 20) = (1, 24, 0) := by
  have : c = 12 ∨ c = 13 ∨ c = 14 ∨ c = 15 ∨ c = 16 ∨ c = 17 ∨ c = 18 ∨ c = 19 ∨ c = 20 ∨ c = 21 := by omega
  rcases this with rfl | rfl | rfl | rfl | rfl | rfl | rfl | rfl | rfl | rfl
  · exact kd_32
  · exact kd_33
  · exact kd_34
  · exact kd_35
  · exact kd_36
  · exact kd_37
  · exact kd_38
  · exact kd_39
  · exact kd_40
  · exact kd_41
theorem kd_act30 {c : Nat} (h : 12 ≤ c ∧ c < 22) : b_kd (c + 30) = (9, 0, 0) := by
  have : c = 12 ∨ c = 13 ∨ c = 14 ∨ c = 15 ∨ c = 16 ∨ c = 17 ∨ c = 18 ∨ c = 19 ∨ c = 20 ∨ c = 21 := by omega
  rcases this with rfl | rfl | rfl | rfl | rfl | rfl | rfl | rfl | rfl | rfl
  · exact kd_42
  · exact kd_43
  · exact kd_44
  · exact kd_45
  · exact kd_46
  · exact kd_47
  · exact kd_48
  · exact kd_49
  · exact kd_50
  · exact kd_51
theorem kd_act40 {c : Nat} (h : 12 ≤ c ∧ c < 22) : b_kd (c + 40) = (1, 25, 0) := by
  have : c = 12 ∨ c = 13 ∨ c = 14 ∨ c = 15 ∨ c = 16 ∨ c = 17 ∨ c = 18 ∨ c = 19 ∨ c = 20 ∨ c = 21 := by omega
  rcases this with rfl | rfl | rfl | rfl | rfl | rfl | rfl | rfl | rfl | rfl
  · exact kd_52
  · exact kd_53
  · exact kd_54
  · exact kd_55
  · exact kd_56
  · exact kd_57
  · exact kd_58
  · exact kd_59
  · exact kd_60
  · exact kd_61
theorem kd_act50 {c : Nat} (h : 12 ≤ c ∧ c < 22) : b_kd (c + 50) = (6, 0, 0) := by
  have : c = 12 ∨ c = 13 ∨ c = 14 ∨ c = 15 ∨ c = 16 ∨ c = 17 ∨ c = 18 ∨ c = 19 ∨ c = 20 ∨ c = 21 := by omega
  rcases this with rfl | rfl | rfl | rfl | rfl | rfl | rfl | rfl | rfl | rfl
  · exact kd_62
  · exact kd_63
  · exact kd_64
  · exact kd_65
  · exact kd_66
  · exact kd_67
  · exact kd_68
  · exact kd_69
  · exact kd_70
  · exact kd_71
