/-! A small machine over integers: cells by number, memory M (cell, place) ↦ integer, values of three kinds. V: the real machine, at a frame that stands for the small one's, comes to the method's end with Post. -/
abbrev bV : Type := Int ⊕ Int ⊕ Nat
abbrev bI (x : Int) : bV := .inl x
abbrev bJ (x : Int) : bV := .inr (.inl x)
abbrev bR (c : Nat) : bV := .inr (.inr c)
abbrev bM : Type := Nat → Int → Int
abbrev bL : Type := List (Nat × bV)
def b_up (M : bM) (c : Nat) (i x : Int) : bM := fun c' j => if c' = c ∧ j = i then x else M c' j
def b_tv (ad : Nat → Nat) : bV → Value
  | .inl x => .int (Int32.ofInt x)
  | .inr (.inl x) => .long (Int64.ofInt x)
  | .inr (.inr c) => .ref (ad c)
def b_r32 (x : Int) : Prop := -2147483648 ≤ x ∧ x < 2147483648
def b_r64 (x : Int) : Prop := -9223372036854775808 ≤ x ∧ x < 9223372036854775808
def b_ok : bV → Prop
  | .inl x => b_r32 x
  | .inr (.inl x) => b_r64 x
  | .inr (.inr _) => True
def b_tl (ad : Nat → Nat) (ls : bL) : List (Nat × Value) := ls.map (fun q => (q.1, b_tv ad q.2))
-- numbers of what the tables name, the state in which all began
abbrev bE : Type := va_G × (Nat → ClassId) × State × (Nat → Nat)
def b_S0 (E : bE) : State := E.2.2.1
/-- cells from 2000 on are no part of the world: String constants, static rows; they lie where they lay -/
def b_fo (E : bE) (ad : Nat → Nat) : Prop := ∀ c, 2000 ≤ c → ad c = E.2.2.2 c
abbrev b_G : Nat := 1000
def b_fv (ad : Nat → Nat) (M : bM) (c ci k : Nat) : Value := match b_fk ci k with
  | (0, _) => .int (Int32.ofInt (M c k))
  | (1, _) => .long (Int64.ofInt (M c k))
  | (2, d) => if M c k = 0 then .null else .ref (ad d)
  | (3, d) => if M c k = 0 then .null else .ref (ad (c + d))
  | _ => if M c k = 0 then .null else .ref (ad (M c k).toNat)
def b_el (E : bE) (ad : Nat → Nat) (M : bM) (c : Nat) : va_E := match b_kd c with
  | (0, ci, n) => .inr (ci, (List.range n).map (b_fv ad M c ci))
  | (1, n, _) => .inl (E.2.1 1, n, .inl (fun i => Int32.ofInt (M c i)))
  | (2, n, _) => .inl (E.2.1 2, n, .inl (fun i => Int32.ofInt (M c i)))
  | (3, n, _) => .inl (E.2.1 3, n, .inl (fun i => Int32.ofInt (M c i)))
  | (4, n, _) => .inl (E.2.1 4, n, .inr (.inl (fun i => Int64.ofInt (M c i))))
  | (5, n, _) => .inl (E.2.1 5, n, .inr (.inr (.inr (.inr (fun i => if M c i = 0 ∨ n ≤ i then none else some (ad (12 + i)))))))
  | _ => .inl (E.2.1 4, (M b_G c).toNat, .inr (.inl (fun i => Int64.ofInt (M c i))))
/-- the cells that there are, by their numbers -/
def b_full : List Nat := (List.range b_NC).filter (fun c => decide ((b_kd c).1 ≠ 9))
def b_ws (E : bE) (ad : Nat → Nat) (M : bM) (L : List Nat) : va_W := L.map (fun c => (ad c, b_el E ad M c))
abbrev b_tys (E : bE) : List (ClassId × FieldType) := [(E.2.1 1, .int), (E.2.1 2, .byte), (E.2.1 3, .boolean), (E.2.1 4, .long), (E.2.1 5, .object "BurntHall$Act")]
/-- is place i of cell c a long -/
def b_lg (c : Nat) (i : Int) : Bool := match b_kd c with
  | (0, ci, _) => decide (b_fk ci i.toNat = (1, 0))
  | (4, _, _) => true
  | (6, _, _) => true
  | _ => false
/-- is place i of cell c a reference -/
def b_rf (c : Nat) (i : Int) : Bool := match b_kd c with
  | (0, ci, n) => decide (0 ≤ i ∧ i < n ∧ 2 ≤ (b_fk ci i.toNat).1)
  | (5, n, _) => decide (0 ≤ i ∧ i < n)
  | _ => false
def b_Rg (M : bM) : Prop := (∀ c i, if b_lg c i = true then b_r64 (M c i) else b_r32 (M c i)) ∧ ∀ c, 0 ≤ M b_G c
/-- in a world that is whole every reference stands -/
def b_Fl (L : List Nat) (M : bM) : Prop := L = b_full → ∀ c i, b_rf c i = true → M c i ≠ 0
/-- the cell that a reference at place i of cell c goes to -/
def b_tg (M : bM) (c : Nat) (i : Int) : Nat := match b_kd c with
  | (0, ci, _) => match b_fk ci i.toNat with
    | (2, d) => d
    | (3, d) => c + d
    | _ => (M c i).toNat
  | _ => 12 + i.toNat
def b_cld (L : List Nat) (M : bM) : Prop := ∀ c ∈ L, ∀ i, b_rf c i = true → M c i ≠ 0 → b_tg M c i ∈ L
def b_Inv (L : List Nat) (M : bM) : Prop := b_Rg M ∧ b_Fl L M ∧ b_cld L M
def b_D (L : List Nat) (ad : Nat → Nat) (A : Nat → Prop) : Prop := (∀ (i j a b : Nat), L[i]? = some a → L[j]? = some b → ad a = ad b → i = j) ∧ ∀ c ∈ L, A (ad c)
/-- cells whose address never changes -/
def b_fx (c : Nat) : Prop := c < 62 ∨ 72 ≤ c
def b_sb (fl : Nat) (L0 : List Nat) (ad0 ad : Nat → Nat) : Prop := match fl with
  | 0 => ad = ad0
  | 1 => ∀ c ∈ L0, ad c = ad0 c
  | _ => ∀ c ∈ L0, b_fx c → ad c = ad0 c
-- a method: where it stands, its bytes, its locals, its answer's type, its room, whether it may move or make cells
abbrev bX : Type := String × ByteArray × Nat × Option FieldType × Room × Nat × String
abbrev bX.own (X : bX) : String := X.1
abbrev bX.cc (X : bX) : ByteArray := X.2.1
abbrev bX.nL (X : bX) : Nat := X.2.2.1
abbrev bX.ret (X : bX) : Option FieldType := X.2.2.2.1
abbrev bX.R (X : bX) : Room := X.2.2.2.2.1
abbrev bX.fl (X : bX) : Nat := X.2.2.2.2.2.1
abbrev bX.nm (X : bX) : String := X.2.2.2.2.2.2
def b_rm (d mc ms : Nat) : Room := { frames := d, cells := mc, slots := ms, locals := 60 * d }
def b_At (E : bE) (X : bX) (p : Program) (s : State) (m : MethodId) (args : Array Value) (meth : Method) (c : Code) : Prop :=
  p.tables.exec = Jvm.exec ∧ c.code = bX.cc X ∧ c.maxLocals = bX.nL X ∧ s.vm.findClass (bX.own X) = some m.cls ∧ (∀ w ∈ b_T, w.before args s = true) ∧ meth.sig.returnType = bX.ret X ∧ meth.locks = false ∧ va_K E.1 b_cl (b_tys E) s ∧ (bX.nm X = "<init>" → meth.name = "<init>") ∧ (b_S0 E).WarmedH s.vm
/-- what lay below, when all began, is as it was -/
def b_Lo (E : bE) (ad : Nat → Nat) (A : Nat → Prop) (H : Heap) : Prop := (∀ q, H.size ≤ q → A q) ∧ (∀ q, A q → (b_S0 E).heap.size ≤ q) ∧ (b_S0 E).heap.size ≤ H.size ∧ (∀ q : Nat, q < (b_S0 E).heap.size → H[q]? = (b_S0 E).heap[q]?) ∧ b_fo E ad
def b_St (E : bE) (L : List Nat) (ad : Nat → Nat) (M : bM) (A : Nat → Prop) (s : State) (H : Heap) (locs : List Loc) : Prop :=
  va_P E.1 b_cl (b_ws E ad M L) H ∧ b_D L ad A ∧ b_Inv L M ∧ va_S A s.heap H locs ∧ b_Lo E ad A s.heap
def b_Ls (ad : Nat → Nat) (nL : Nat) (lsA : Array Slot) (ls : bL) (st : List bV) : Prop :=
  lv_has lsA nL (b_tl ad ls) ∧ (∀ q ∈ ls, b_ok q.2) ∧ ∀ v ∈ st, b_ok v
def b_Q (E : bE) (A : Nat → Prop) (fl : Nat) (L0 L1 : List Nat) (ad0 : Nat → Nat) (Post : Option bV → bM → Prop) : Array Value → State → Outcome → State → Prop := fun _ st oc t =>
  (∃ (r : Option bV) (M : bM) (ad : Nat → Nat), oc = .returned (r.map (b_tv ad)) ∧ (∀ v ∈ r, b_ok v) ∧ Post r M ∧ va_P E.1 b_cl (b_ws E ad M L1) t.heap ∧ b_D L1 ad A ∧ b_Inv L1 M ∧ va_K E.1 b_cl (b_tys E) t ∧ b_sb fl L0 ad0 ad ∧ b_fo E ad) ∧ va_F A st t
-- a goal: what the end must be, what else is known of the start, which cells there were
abbrev bG : Type := (State → Array Value → List Frame → (Nat → Prop) → (Nat → Nat) → State → Prop) × (State → (Nat → Prop) → Prop) × List Nat
def VL (l : Launch) (E : bE) (X : bX) (L : List Nat) (kn : Nat × Nat) (pc : Nat) (ls : bL) (st : List bV) (M : bM) (G : bG) : Prop :=
  ∀ (p : Program) (e : Env) (s : State) (m : MethodId) (args : Array Value) (below : List Frame) (meth : Method) (c : Code) (H : Heap) (locs : List Loc) (lsA : Array Slot) (A : Nat → Prop) (ad0 ad : Nat → Nat),
    b_At E X p s m args meth c → b_St E L ad M A s H locs → b_Ls ad (bX.nL X) lsA ls st → b_sb (bX.fl X) G.2.2 ad0 ad → G.2.1 s A →
    W p l e (bX.R X) s m args below meth c H locs kn.1 kn.2 (G.1 s args below A ad0) (F0 m pc lsA (st.map (b_tv ad)))
def b_std (E : bE) (X : bX) (L0 L1 : List Nat) (Post : Option bV → bM → Prop) : bG := (fun s args below A ad0 => MQ below (b_Q E A (bX.fl X) L0 L1 ad0 Post) args s (bX.R X).cells (bX.R X).slots A, fun _ _ => True, L0)
abbrev V (l : Launch) (E : bE) (X : bX) (kn : Nat × Nat) (pc : Nat) (ls : bL) (st : List bV) (M : bM) (Post : Option bV → bM → Prop) : Prop := VL l E X b_full kn pc ls st M (b_std E X b_full b_full Post)
/-! numbers -/
def w32 (x : Int) : Int := (Int32.ofInt x).toInt
def w64 (x : Int) : Int := (Int64.ofInt x).toInt
theorem of_w32 (x : Int) : Int32.ofInt (w32 x) = Int32.ofInt x := by unfold w32; rw [Int32.ofInt_toInt]
theorem of_w64 (x : Int) : Int64.ofInt (w64 x) = Int64.ofInt x := by unfold w64; rw [Int64.ofInt_toInt]
theorem r32_toInt (x : Int32) : b_r32 x.toInt := ⟨Int32.le_toInt x, Int32.toInt_lt x⟩
theorem r64_toInt (x : Int64) : b_r64 x.toInt := ⟨Int64.le_toInt x, Int64.toInt_lt x⟩
theorem r32_w (x : Int) : b_r32 (w32 x) := r32_toInt _
theorem r64_w (x : Int) : b_r64 (w64 x) := r64_toInt _
theorem w32_id {x : Int} (h : b_r32 x) : w32 x = x := Int32.toInt_ofInt_of_le h.1 h.2
theorem w64_id {x : Int} (h : b_r64 x) : w64 x = x := Int64.toInt_ofInt_of_le h.1 h.2
theorem to32 {x : Int} (h : b_r32 x) : (Int32.ofInt x).toInt = x := w32_id h
theorem to64 {x : Int} (h : b_r64 x) : (Int64.ofInt x).toInt = x := w64_id h
theorem lt32 {x y : Int} (hx : b_r32 x) (hy : b_r32 y) : Int32.ofInt x < Int32.ofInt y ↔ x < y := by rw [Int32.lt_iff_toInt_lt, to32 hx, to32 hy]
theorem le32 {x y : Int} (hx : b_r32 x) (hy : b_r32 y) : Int32.ofInt x ≤ Int32.ofInt y ↔ x ≤ y := by rw [Int32.le_iff_toInt_le, to32 hx, to32 hy]
theorem eq32 {x y : Int} (hx : b_r32 x) (hy : b_r32 y) : Int32.ofInt x = Int32.ofInt y ↔ x = y := by rw [← Int32.toInt_inj, to32 hx, to32 hy]
theorem eq64 {x y : Int} (hx : b_r64 x) (hy : b_r64 y) : Int64.ofInt x = Int64.ofInt y ↔ x = y := by rw [← Int64.toInt_inj, to64 hx, to64 hy]
theorem r32_0 : b_r32 0 := ⟨by decide, by decide⟩
theorem of32_0 : Int32.ofInt 0 = 0 := rfl
theorem lt64 {x y : Int} (hx : b_r64 x) (hy : b_r64 y) : Int64.ofInt x < Int64.ofInt y ↔ x < y := by rw [Int64.lt_iff_toInt_lt, to64 hx, to64 hy]
theorem nat32 {i : Int} {n : Nat} (h : 0 ≤ i ∧ i < n) (hn : n < 2147483648) : vp_in (Int32.ofInt i) n ∧ (Int32.ofInt i).toNatClampNeg = i.toNat := by
  have hr : b_r32 i := ⟨by omega, by omega⟩
  refine ⟨vp_in_iff.mpr ?_, ?_⟩
  · rw [to32 hr]; exact h
  · show (Int32.ofInt i).toInt.toNat = i.toNat
    rw [to32 hr]
