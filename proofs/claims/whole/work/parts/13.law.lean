/-! THE CLAIM OUT OF ONE WALK OF THE LAW'S BODY. Your part is whole_start (and what it stands on); all else here is the same for every law, but numbers. -/
def R_law : String := "BurntHallLaw"
def lw_P (b : Addr) (xs : List Int32) (args : Array Value) (s : State) : Prop := args = #[.ref b] ∧ s.IntsAt b xs ∧ xs.length ≤ 4096 ∧ (Jvm.Cond.and given_1 narrow_1).before args s = true
def lw_Q (_ : Array Value) (s : State) (o : Outcome) (t : State) : Prop := o = .returned (some (.int 1)) ∧ Framed s o t [] 600000 7302250
def lw_Z (below : List Frame) (a : Array Value) (s : State) : State → Prop := fun t => ∃ o, t.status = .running ∧ Ended t below o ∧ lw_Q a s o t
/-- the law's own end, with 1 on the stack, nothing written that was there before, its room as the claim has it -/
theorem lw_ret {p : Program} {l : Launch} {e : Env} {s : State} {m : MethodId} {below : List Frame} {meth : Method} {c : Code} {b : Nat} (hx : p.tables.exec = Jvm.exec) (hb : c.code = code) (hr : meth.sig.returnType = ret) (hlocks : meth.locks = false) {pc : Nat} {H : Heap} {ls : Array Slot} (hdg : decode code pc = .ok (.ireturn, 1)) : W p l e room_1 s m #[Value.ref b] below meth c H [] 600000 7302250 (lw_Z below #[Value.ref b] s) (F0 m pc ls [.int 1]) := by
  intro T hT X
  obtain ⟨fs, hret, hrun, hended, hW, hframe⟩ := X.leave (v := some (.int 1)) (hlocks := hlocks) (fun h => by rw [hr] at h; cases h)
  have hmeth' : T.vm.method? m = some meth := X.method'
  refine ⟨T.setFrames fs, ?_, .returned (some (.int 1)), hrun, hended, rfl, ⟨_, rfl⟩, hW, hframe⟩
  jvm_step X.here [X.here.top, hx, hb, hdg, hmeth', hr, ret, narrow_b1]
  (try refine ⟨rfl, ?_⟩); (try refine ⟨rfl, ?_⟩)
  first | (intro acts; rw [hret _ acts rfl rfl rfl]) | rw [hret _ _ rfl rfl rfl]
  exact Steps.refl _
/-- what holds at the law's entry: the machine, the code, the tables' words (any of lw_tbl by 'hts w (by decide +kernel)'), the script of L ints xs at the cell b, what the Statement gives of the start (any of its parts by flat_of_before) -/
def lw_At (p : Program) (s : State) (m : MethodId) (meth : Method) (c : Code) (b L : Nat) (xs : Nat → Int32) : Prop :=
  p.tables.exec = Jvm.exec ∧ c.code = code ∧ meth.sig.returnType = ret ∧ c.maxLocals = 4 ∧ s.vm.findClass R_law = some m.cls ∧ (∀ w ∈ lw_tbl, w.before #[Value.ref b] s = true) ∧ va_X b L xs s s.heap ∧ b < s.heap.size ∧ meth.locks = false ∧ (Jvm.Cond.and given_1 narrow_1).before #[Value.ref b] s = true
abbrev x_law : bX := ("BurntHallLaw", code, 4, ret, room_1, 1, "law")
/-- the law's goal: its end with true; the script, of Ln ints xs, lies at foreign cell 2100 -/
def G_law (E : bE) (Ln : Nat) (xs : Int → Int) : bG := (fun s args below _ _ => lw_Z below args s, fun s A => (∃ b : Nat, E.2.2.2 2100 = b ∧ ¬ A b ∧ b < s.heap.size ∧ va_X b Ln (fun j => Int32.ofInt (xs j)) s s.heap) ∧ b_S0 E = s ∧ ∀ i, b_r32 (xs i), [])
section Law
variable {l : Launch} {E : bE} {L : List Nat} {kn : Nat × Nat} {pc : Nat} {ls : bL} {st : List bV} {M : bM} {Ln : Nat} {xs : Int → Int}
theorem f_sld {i : Int} (hL : Ln ≤ 4096) (hi : 0 ≤ i ∧ i < Ln) (hd : decode (bX.cc x_law) pc = .ok (.iaload, 1)) (k : VL l E x_law L kn (pc + 1) ls (bI (xs i) :: st) M (G_law E Ln xs)) : VL l E x_law L kn pc ls (bI i :: bR 2100 :: st) M (G_law E Ln xs) := by
  intro p e s m args below meth c H locs lsA A ad0 ad hX hS hL hsb hG
  obtain ⟨hx, hb, hml, hown, hts, hret, hlk, hK, hnm, hwm⟩ := id hX
  obtain ⟨hl, hlo, hso⟩ := id hL
  obtain ⟨hP, hD, hRg, hva, hA⟩ := id hS
  obtain ⟨⟨b, hb0, hbA, hbl, hXs⟩, hs0, hr⟩ := id hG
  have hab : ad 2100 = b := (hA.2.2.2.2 2100 (by decide)).trans hb0
  obtain ⟨hin, hcl⟩ := nat32 hi (by omega)
  show W p l e (bX.R x_law) s m args below meth c H locs kn.1 kn.2 _ (F0 m pc lsA (.int (Int32.ofInt i) :: .ref (ad 2100) :: st.map (b_tv ad)))
  rw [hab]
  refine va_sld hx hb hXs hbl hbA hva hin hd ?_
  have h := k p e s m args below meth c H locs lsA A ad0 ad hX hS ⟨hl, hlo, ok_c (v := bI (xs i)) (hr i) (ok_t (ok_t hso))⟩ hsb hG
  rw [hcl, show ((i.toNat : Nat) : Int) = i from Int.toNat_of_nonneg hi.1]
  exact h
theorem f_slen (hL : Ln ≤ 4096) (hd : decode (bX.cc x_law) pc = .ok (.arraylength, 1)) (k : VL l E x_law L kn (pc + 1) ls (bI Ln :: st) M (G_law E Ln xs)) : VL l E x_law L kn pc ls (bR 2100 :: st) M (G_law E Ln xs) := by
  intro p e s m args below meth c H locs lsA A ad0 ad hX hS hL hsb hG
  obtain ⟨hx, hb, hml, hown, hts, hret, hlk, hK, hnm, hwm⟩ := id hX
  obtain ⟨hl, hlo, hso⟩ := id hL
  obtain ⟨hP, hD, hRg, hva, hA⟩ := id hS
  obtain ⟨⟨b, hb0, hbA, hbl, hXs⟩, hs0, hr⟩ := id hG
  have hab : ad 2100 = b := (hA.2.2.2.2 2100 (by decide)).trans hb0
  show W p l e (bX.R x_law) s m args below meth c H locs kn.1 kn.2 _ (F0 m pc lsA (.ref (ad 2100) :: st.map (b_tv ad)))
  rw [hab]
  refine va_slen hx hb hXs hbl hbA hva hd ?_
  exact k p e s m args below meth c H locs lsA A ad0 ad hX hS ⟨hl, hlo, ok_c (v := bI Ln) (show b_r32 Ln from ⟨by omega, by omega⟩) (ok_t hso)⟩ hsb hG
theorem lw_retA {p : Program} {l : Launch} {e : Env} {s : State} {m : MethodId} {args : Array Value} {below : List Frame} {meth : Method} {c : Code} (hx : p.tables.exec = Jvm.exec) (hb : c.code = code) (hr : meth.sig.returnType = ret) (hlocks : meth.locks = false) {pc : Nat} {H : Heap} {ls : Array Slot} (hdg : decode code pc = .ok (.ireturn, 1)) : W p l e room_1 s m args below meth c H [] 600000 7302250 (lw_Z below args s) (F0 m pc ls [.int 1]) := by
  intro T hT X
  obtain ⟨fs, hret, hrun, hended, hW, hframe⟩ := X.leave (v := some (.int 1)) (hlocks := hlocks) (fun h => by rw [hr] at h; cases h)
  have hmeth' : T.vm.method? m = some meth := X.method'
  refine ⟨T.setFrames fs, ?_, .returned (some (.int 1)), hrun, hended, rfl, ⟨_, rfl⟩, hW, hframe⟩
  jvm_step X.here [X.here.top, hx, hb, hdg, hmeth', hr, ret, narrow_b1]
  (try refine ⟨rfl, ?_⟩); (try refine ⟨rfl, ?_⟩)
  first | (intro acts; rw [hret _ acts rfl rfl rfl]) | rw [hret _ _ rfl rfl rfl]
  exact Steps.refl _
theorem f_lret (hkn : kn.1 ≤ 600000 ∧ kn.2 ≤ 7302250) (hd : decode (bX.cc x_law) pc = .ok (.ireturn, 1)) : VL l E x_law L kn pc ls [bI 1] M (G_law E Ln xs) := by
  intro p e s m args below meth c H locs lsA A ad0 ad hX hS hL hsb hG
  obtain ⟨hx, hb, hml, hown, hts, hret, hlk, hK, hnm, hwm⟩ := id hX
  obtain ⟨hl, hlo, hso⟩ := id hL
  obtain ⟨hP, hD, hRg, hva, hA⟩ := id hS
  obtain ⟨-, hs0, -⟩ := id hG
  refine W.widen (k := 600000) (n := 7302250) hkn.1 hkn.2 ?_
  refine va_forget (fun q hq => ?_) ?_
  · rw [← hs0]
    exact hA.2.1 _ (hva.2.2 q hq)
  · exact lw_retA hx hb hret hlk hd
end Law
