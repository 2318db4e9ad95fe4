theorem v_full {l : Launch} {E : bE} {X : bX} {L : List Nat} {kn : Nat × Nat} {pc : Nat} {ls : bL} {st : List bV} {M : bM} {G : bG} (hp : ∀ c, c ∈ L ↔ c ∈ b_full) (hfl : ∀ c i, b_rf c i = true → M c i ≠ 0) (k : VL l E X b_full kn pc ls st M G) : VL l E X L kn pc ls st M G := by
  intro p e s m args below meth c H locs lsA A ad0 ad hX hS hL hsb hG
  obtain ⟨hx, hb, hml, hown, hts, hret, hlk, hK, hnm, hwm⟩ := id hX
  obtain ⟨hl, hlo, hso⟩ := id hL
  obtain ⟨hP, hD, hRg, hva, hA⟩ := id hS
  have hix : ∀ c, c ∈ b_full → ∃ q, L[q]? = some c := fun c hc => List.getElem?_of_mem ((hp c).mpr hc)
  have hP2 : va_P E.1 b_cl (b_ws E ad M b_full) H := by
    intro j w hw
    unfold b_ws at hw
    rw [List.getElem?_map] at hw
    cases hj : b_full[j]? with
    | none => rw [hj] at hw; cases hw
    | some c1 =>
      rw [hj] at hw
      cases hw
      obtain ⟨q, hq⟩ := hix c1 (List.mem_of_getElem? hj)
      exact hP q _ (b_at hq)
  have hD2 : b_D b_full ad A := by
    refine ⟨fun i j a b hi hj hab => ?_, fun c1 hc1 => hD.2 c1 ((hp c1).mpr hc1)⟩
    obtain ⟨q1, h1⟩ := hix a (List.mem_of_getElem? hi)
    obtain ⟨q2, h2⟩ := hix b (List.mem_of_getElem? hj)
    have e := hD.1 q1 q2 a b h1 h2 hab
    subst e
    rw [h1] at h2
    cases h2
    exact (List.getElem?_inj (List.getElem?_eq_some_iff.mp hi).1 b_full_nd).mp (hi.trans hj.symm)
  have hI2 : b_Inv b_full M := ⟨hRg.1, fun _ => hfl, fun c1 hc1 i hr hz => (hp _).mp (hRg.2.2 c1 ((hp c1).mpr hc1) i hr hz)⟩
  exact k p e s m args below meth c H locs lsA A ad0 ad hX ⟨hP2, hD2, hI2, hva, hA⟩ hL hsb hG
