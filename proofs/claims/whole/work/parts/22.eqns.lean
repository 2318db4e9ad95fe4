theorem b_bind_s {α β : Type} {a : α} {f : α → Option β} : b_bind (some a) f = f a := rfl
theorem b_let_s {α β : Type} {a : α} {f : α → Option β} : b_let a f = f a := rfl
theorem b_two_s {α β γ : Type} {a : α} {b : β} {f : α → β → Option γ} : b_two (a, b) f = f a b := rfl
theorem b_g_s {α : Type} {c : Prop} [Decidable c] {x : Option α} (h : c) : b_g c x = x := by unfold b_g; rw [if_pos h]
theorem b_wp_s {α : Type} {a : α} {K : α → Prop} : b_wp (some a) K = K a := rfl
theorem b_it2 {α : Type} {a b : Prop} [Decidable a] [Decidable b] {x y : α} : (if a then x else (if b then x else y)) = if a ∨ b then x else y := by by_cases ha : a <;> by_cases hb : b <;> simp [ha, hb]
theorem b_it3 {α : Type} {a b : Prop} [Decidable a] [Decidable b] {x y : α} : (if a then x else (if b then y else x)) = if a ∨ ¬ b then x else y := by by_cases ha : a <;> by_cases hb : b <;> simp [ha, hb]
theorem b_it4 {α : Type} {a b : Prop} [Decidable a] [Decidable b] {x y : α} : (if a then (if b then y else x) else x) = if ¬ a ∨ ¬ b then x else y := by by_cases ha : a <;> by_cases hb : b <;> simp [ha, hb]
theorem b_it5 {α : Type} {a b : Prop} [Decidable a] [Decidable b] {x y : α} : (if a then (if b then x else y) else x) = if ¬ a ∨ b then x else y := by by_cases ha : a <;> by_cases hb : b <;> simp [ha, hb]
def b_01 (P : Prop) [Decidable P] : Int := if P then 1 else 0
theorem b_01_0 {P : Prop} [Decidable P] : b_01 P = 0 ↔ ¬ P := by unfold b_01; by_cases h : P <;> simp [h]
theorem b_01_1 {P : Prop} [Decidable P] : b_01 P = 1 ↔ P := by unfold b_01; by_cases h : P <;> simp [h]
theorem b_01_b {P : Prop} [Decidable P] : b_01 P = 0 ∨ b_01 P = 1 := by unfold b_01; by_cases h : P <;> simp [h]
theorem b_01_c {P P2 : Prop} [Decidable P] [Decidable P2] (h : P ↔ P2) : b_01 P = b_01 P2 := by unfold b_01; by_cases q : P <;> simp [q, h.mp, (show P2 ↔ P from h.symm)]
theorem b_eqn {α : Type} {x : Option α} {a : α} (h : b_wp x (fun r => r = a)) : x = some a := by
  obtain ⟨r, hr, rfl⟩ := b_wp_ex h
  exact hr
theorem e_X12_in {M : bM} {v lo hi : Int}  : F_X12_in v lo hi M = some (b_01 (lo ≤ v ∧ v ≤ hi)) := by
  refine b_eqn ?_
  unfold F_X12_in
  repeat' first
    | with_reducible refine b_Wi (fun _ => ?_) (fun _ => ?_)
    | with_reducible refine b_Wg ?_ ?_
    | with_reducible refine b_Wl ?_
    | with_reducible refine b_Wtwo ?_
    | with_reducible refine b_Wb ?_
    | with_reducible refine b_Ws ?_
    | exact b_01_b
  all_goals (try (unfold b_01; split))
  all_goals first | omega | rfl | (exfalso; omega)
theorem e_X12_isDay {M : bM} {v : Int}  : F_X12_isDay v M = some (b_01 (0 ≤ v ∧ v ≤ 9999)) := by
  refine b_eqn ?_
  unfold F_X12_isDay
  simp only [e_X12_in, b_bind_s, b_01_0]
  repeat' first
    | with_reducible refine b_Wi (fun _ => ?_) (fun _ => ?_)
    | with_reducible refine b_Wg ?_ ?_
    | with_reducible refine b_Wl ?_
    | with_reducible refine b_Wtwo ?_
    | with_reducible refine b_Wb ?_
    | with_reducible refine b_Ws ?_
    | exact b_01_b
  all_goals (try (unfold b_01; split))
  all_goals first | omega | rfl | (exfalso; omega)
theorem e_X12_isFeet {M : bM} {v : Int}  : F_X12_isFeet v M = some (b_01 (1 ≤ v ∧ v ≤ 999999)) := by
  refine b_eqn ?_
  unfold F_X12_isFeet
  simp only [e_X12_in, b_bind_s, b_01_0]
  repeat' first
    | with_reducible refine b_Wi (fun _ => ?_) (fun _ => ?_)
    | with_reducible refine b_Wg ?_ ?_
    | with_reducible refine b_Wl ?_
    | with_reducible refine b_Wtwo ?_
    | with_reducible refine b_Wb ?_
    | with_reducible refine b_Ws ?_
    | exact b_01_b
  all_goals (try (unfold b_01; split))
  all_goals first | omega | rfl | (exfalso; omega)
theorem e_X12_isSmall {M : bM} {v : Int}  : F_X12_isSmall v M = some (b_01 (97 ≤ v ∧ v ≤ 122)) := by
  refine b_eqn ?_
  unfold F_X12_isSmall
  repeat' first
    | with_reducible refine b_Wi (fun _ => ?_) (fun _ => ?_)
    | with_reducible refine b_Wg ?_ ?_
    | with_reducible refine b_Wl ?_
    | with_reducible refine b_Wtwo ?_
    | with_reducible refine b_Wb ?_
    | with_reducible refine b_Ws ?_
    | exact b_01_b
  all_goals (try (unfold b_01; split))
  all_goals first | omega | rfl | (exfalso; omega)
theorem e_X12_isDigit {M : bM} {v : Int}  : F_X12_isDigit v M = some (b_01 (48 ≤ v ∧ v ≤ 57)) := by
  refine b_eqn ?_
  unfold F_X12_isDigit
  repeat' first
    | with_reducible refine b_Wi (fun _ => ?_) (fun _ => ?_)
    | with_reducible refine b_Wg ?_ ?_
    | with_reducible refine b_Wl ?_
    | with_reducible refine b_Wtwo ?_
    | with_reducible refine b_Wb ?_
    | with_reducible refine b_Ws ?_
    | exact b_01_b
  all_goals (try (unfold b_01; split))
  all_goals first | omega | rfl | (exfalso; omega)
theorem e_X12_isPerson {M : bM} {p : Int} (h : 0 ≤ M 11 12 ∧ M 11 12 ≤ 80) : F_X12_isPerson p M = some (b_01 (0 ≤ p ∧ p < M 11 12)) := by
  refine b_eqn ?_
  unfold F_X12_isPerson
  simp only [e_X12_in, b_bind_s, b_01_0]
  repeat' first
    | with_reducible refine b_Wi (fun _ => ?_) (fun _ => ?_)
    | with_reducible refine b_Wg ?_ ?_
    | with_reducible refine b_Wl ?_
    | with_reducible refine b_Wtwo ?_
    | with_reducible refine b_Wb ?_
    | with_reducible refine b_Ws ?_
    | exact b_01_b
  all_goals (try (unfold b_01; split))
  all_goals first | omega | rfl | (exfalso; omega)
theorem e_X12_isLot {M : bM} {p : Int} (h : 0 ≤ M 11 20 ∧ M 11 20 ≤ 60) : F_X12_isLot p M = some (b_01 (0 ≤ p ∧ p < M 11 20)) := by
  refine b_eqn ?_
  unfold F_X12_isLot
  simp only [e_X12_in, b_bind_s, b_01_0]
  repeat' first
    | with_reducible refine b_Wi (fun _ => ?_) (fun _ => ?_)
    | with_reducible refine b_Wg ?_ ?_
    | with_reducible refine b_Wl ?_
    | with_reducible refine b_Wtwo ?_
    | with_reducible refine b_Wb ?_
    | with_reducible refine b_Ws ?_
    | exact b_01_b
  all_goals (try (unfold b_01; split))
  all_goals first | omega | rfl | (exfalso; omega)
theorem e_X12_isPaper {M : bM} {p : Int} (h : 0 ≤ M 11 53 ∧ M 11 53 ≤ 120) : F_X12_isPaper p M = some (b_01 (0 ≤ p ∧ p < M 11 53)) := by
  refine b_eqn ?_
  unfold F_X12_isPaper
  simp only [e_X12_in, b_bind_s, b_01_0]
  repeat' first
    | with_reducible refine b_Wi (fun _ => ?_) (fun _ => ?_)
    | with_reducible refine b_Wg ?_ ?_
    | with_reducible refine b_Wl ?_
    | with_reducible refine b_Wtwo ?_
    | with_reducible refine b_Wb ?_
    | with_reducible refine b_Ws ?_
    | exact b_01_b
  all_goals (try (unfold b_01; split))
  all_goals first | omega | rfl | (exfalso; omega)
theorem e_X12_isMortgage {M : bM} {p : Int} (h : 0 ≤ M 11 99 ∧ M 11 99 ≤ 40) : F_X12_isMortgage p M = some (b_01 (0 ≤ p ∧ p < M 11 99)) := by
  refine b_eqn ?_
  unfold F_X12_isMortgage
  simp only [e_X12_in, b_bind_s, b_01_0]
  repeat' first
    | with_reducible refine b_Wi (fun _ => ?_) (fun _ => ?_)
    | with_reducible refine b_Wg ?_ ?_
    | with_reducible refine b_Wl ?_
    | with_reducible refine b_Wtwo ?_
    | with_reducible refine b_Wb ?_
    | with_reducible refine b_Ws ?_
    | exact b_01_b
  all_goals (try (unfold b_01; split))
  all_goals first | omega | rfl | (exfalso; omega)
theorem e_X11_isDay {M : bM} {v : Int}  : F_X11_isDay v M = some (b_01 (0 ≤ v ∧ v ≤ 9999)) := by
  refine b_eqn ?_
  unfold F_X11_isDay
  repeat' first
    | with_reducible refine b_Wi (fun _ => ?_) (fun _ => ?_)
    | with_reducible refine b_Wg ?_ ?_
    | with_reducible refine b_Wl ?_
    | with_reducible refine b_Wtwo ?_
    | with_reducible refine b_Wb ?_
    | with_reducible refine b_Ws ?_
    | exact b_01_b
  all_goals (try (unfold b_01; split))
  all_goals first | omega | rfl | (exfalso; omega)
theorem e_X11_isNoneOr {M : bM} {v n : Int}  : F_X11_isNoneOr v n M = some (b_01 (-1 ≤ v ∧ v < n)) := by
  refine b_eqn ?_
  unfold F_X11_isNoneOr
  repeat' first
    | with_reducible refine b_Wi (fun _ => ?_) (fun _ => ?_)
    | with_reducible refine b_Wg ?_ ?_
    | with_reducible refine b_Wl ?_
    | with_reducible refine b_Wtwo ?_
    | with_reducible refine b_Wb ?_
    | with_reducible refine b_Ws ?_
    | exact b_01_b
  all_goals (try (unfold b_01; split))
  all_goals first | omega | rfl | (exfalso; omega)
theorem e_X5_isFeet {M : bM} {v : Int}  : F_X5_isFeet v M = some (b_01 (1 ≤ v ∧ v ≤ 999999)) := by
  refine b_eqn ?_
  unfold F_X5_isFeet
  repeat' first
    | with_reducible refine b_Wi (fun _ => ?_) (fun _ => ?_)
    | with_reducible refine b_Wg ?_ ?_
    | with_reducible refine b_Wl ?_
    | with_reducible refine b_Wtwo ?_
    | with_reducible refine b_Wb ?_
    | with_reducible refine b_Ws ?_
    | exact b_01_b
  all_goals (try (unfold b_01; split))
  all_goals first | omega | rfl | (exfalso; omega)
theorem e_X8_has {M : bM} {p : Int}  : F_X8_has p M = some (b_01 (0 ≤ p ∧ p < M 2 0)) := by
  refine b_eqn ?_
  unfold F_X8_has
  repeat' first
    | with_reducible refine b_Wi (fun _ => ?_) (fun _ => ?_)
    | with_reducible refine b_Wg ?_ ?_
    | with_reducible refine b_Wl ?_
    | with_reducible refine b_Wtwo ?_
    | with_reducible refine b_Wb ?_
    | with_reducible refine b_Ws ?_
    | exact b_01_b
  all_goals (try (unfold b_01; split))
  all_goals first | omega | rfl | (exfalso; omega)
theorem e_X5_has {M : bM} {p : Int}  : F_X5_has p M = some (b_01 (0 ≤ p ∧ p < M 3 0)) := by
  refine b_eqn ?_
  unfold F_X5_has
  repeat' first
    | with_reducible refine b_Wi (fun _ => ?_) (fun _ => ?_)
    | with_reducible refine b_Wg ?_ ?_
    | with_reducible refine b_Wl ?_
    | with_reducible refine b_Wtwo ?_
    | with_reducible refine b_Wb ?_
    | with_reducible refine b_Ws ?_
    | exact b_01_b
  all_goals (try (unfold b_01; split))
  all_goals first | omega | rfl | (exfalso; omega)
theorem e_X7_has {M : bM} {p : Int}  : F_X7_has p M = some (b_01 (0 ≤ p ∧ p < M 5 0)) := by
  refine b_eqn ?_
  unfold F_X7_has
  repeat' first
    | with_reducible refine b_Wi (fun _ => ?_) (fun _ => ?_)
    | with_reducible refine b_Wg ?_ ?_
    | with_reducible refine b_Wl ?_
    | with_reducible refine b_Wtwo ?_
    | with_reducible refine b_Wb ?_
    | with_reducible refine b_Ws ?_
    | exact b_01_b
  all_goals (try (unfold b_01; split))
  all_goals first | omega | rfl | (exfalso; omega)
theorem e_X6_has {M : bM} {p : Int}  : F_X6_has p M = some (b_01 (0 ≤ p ∧ p < M 8 0)) := by
  refine b_eqn ?_
  unfold F_X6_has
  repeat' first
    | with_reducible refine b_Wi (fun _ => ?_) (fun _ => ?_)
    | with_reducible refine b_Wg ?_ ?_
    | with_reducible refine b_Wl ?_
    | with_reducible refine b_Wtwo ?_
    | with_reducible refine b_Wb ?_
    | with_reducible refine b_Ws ?_
    | exact b_01_b
  all_goals (try (unfold b_01; split))
  all_goals first | omega | rfl | (exfalso; omega)
theorem e_X3_has {M : bM} {p : Int}  : F_X3_has p M = some (b_01 (0 ≤ p ∧ p < M 9 0)) := by
  refine b_eqn ?_
  unfold F_X3_has
  repeat' first
    | with_reducible refine b_Wi (fun _ => ?_) (fun _ => ?_)
    | with_reducible refine b_Wg ?_ ?_
    | with_reducible refine b_Wl ?_
    | with_reducible refine b_Wtwo ?_
    | with_reducible refine b_Wb ?_
    | with_reducible refine b_Ws ?_
    | exact b_01_b
  all_goals (try (unfold b_01; split))
  all_goals first | omega | rfl | (exfalso; omega)
theorem e_X10_isLetter {M : bM} {v : Int}  : F_X10_isLetter v M = some (b_01 (97 ≤ v ∧ v ≤ 122)) := by
  refine b_eqn ?_
  unfold F_X10_isLetter
  repeat' first
    | with_reducible refine b_Wi (fun _ => ?_) (fun _ => ?_)
    | with_reducible refine b_Wg ?_ ?_
    | with_reducible refine b_Wl ?_
    | with_reducible refine b_Wtwo ?_
    | with_reducible refine b_Wb ?_
    | with_reducible refine b_Ws ?_
    | exact b_01_b
  all_goals (try (unfold b_01; split))
  all_goals first | omega | rfl | (exfalso; omega)
theorem e_X10_isDigit {M : bM} {v : Int}  : F_X10_isDigit v M = some (b_01 (48 ≤ v ∧ v ≤ 57)) := by
  refine b_eqn ?_
  unfold F_X10_isDigit
  repeat' first
    | with_reducible refine b_Wi (fun _ => ?_) (fun _ => ?_)
    | with_reducible refine b_Wg ?_ ?_
    | with_reducible refine b_Wl ?_
    | with_reducible refine b_Wtwo ?_
    | with_reducible refine b_Wb ?_
    | with_reducible refine b_Ws ?_
    | exact b_01_b
  all_goals (try (unfold b_01; split))
  all_goals first | omega | rfl | (exfalso; omega)
theorem e_X12_isPair {M : bM} {p q : Int} (h : 0 ≤ M 11 12 ∧ M 11 12 ≤ 80) : F_X12_isPair p q M = some (b_01 (0 ≤ p ∧ p < M 11 12 ∧ 0 ≤ q ∧ q < M 11 12 ∧ p ≠ q)) := by
  refine b_eqn ?_
  unfold F_X12_isPair
  simp only [e_X12_isPerson h, b_bind_s, b_01_0]
  repeat' first
    | with_reducible refine b_Wi (fun _ => ?_) (fun _ => ?_)
    | with_reducible refine b_Wg ?_ ?_
    | with_reducible refine b_Wl ?_
    | with_reducible refine b_Wtwo ?_
    | with_reducible refine b_Wb ?_
    | with_reducible refine b_Ws ?_
    | exact b_01_b
  all_goals (try (unfold b_01; split))
  all_goals first | omega | rfl | (exfalso; omega)
theorem e_X12_isThere {M : bM} {p d : Int} (h : 0 ≤ p ∧ p < 60) : F_X12_isThere p d M = some (b_01 (M 170 p ≤ d ∧ (M 171 p = -1 ∨ d < M 171 p))) := by
  refine b_eqn ?_
  unfold F_X12_isThere
  repeat' first
    | with_reducible refine b_Wi (fun _ => ?_) (fun _ => ?_)
    | with_reducible refine b_Wg ?_ ?_
    | with_reducible refine b_Wl ?_
    | with_reducible refine b_Wtwo ?_
    | with_reducible refine b_Wb ?_
    | with_reducible refine b_Ws ?_
    | exact b_01_b
  all_goals (try (unfold b_01; split))
  all_goals first | omega | rfl | (exfalso; omega)
theorem e_X5_mayEnd {M : bM} {p d : Int} (h : M 3 0 ≤ 60) : F_X5_mayEnd p d M = some (b_01 ((0 ≤ p ∧ p < M 3 0) ∧ M 88 p = -1 ∧ M 87 p ≤ d)) := by
  refine b_eqn ?_
  unfold F_X5_mayEnd
  simp only [e_X5_has, b_bind_s, b_01_0]
  repeat' first
    | with_reducible refine b_Wi (fun _ => ?_) (fun _ => ?_)
    | with_reducible refine b_Wg ?_ ?_
    | with_reducible refine b_Wl ?_
    | with_reducible refine b_Wtwo ?_
    | with_reducible refine b_Wb ?_
    | with_reducible refine b_Ws ?_
    | exact b_01_b
  all_goals (try (unfold b_01; split))
  all_goals first | omega | rfl | (exfalso; omega)
theorem e_X5_room {M : bM} (h : 0 ≤ M 3 0 ∧ M 3 0 ≤ 60) : F_X5_room M = some (60 - M 3 0) := by
  unfold F_X5_room
  exact b_g_s (by omega)
theorem e_X5_isThereWithin {M : bM} {p a d : Int} (h : M 3 0 ≤ 60) : F_X5_isThereWithin p a d M = some (b_01 ((0 ≤ p ∧ p < M 3 0) ∧ M 87 p ≤ d ∧ (M 88 p = -1 ∨ max (M 87 p) a < M 88 p))) := by
  refine b_eqn ?_
  unfold F_X5_isThereWithin
  simp only [e_X5_has, b_bind_s, b_01_0]
  repeat' first
    | with_reducible refine b_Wi (fun _ => ?_) (fun _ => ?_)
    | with_reducible refine b_Wg ?_ ?_
    | with_reducible refine b_Wl ?_
    | with_reducible refine b_Wtwo ?_
    | with_reducible refine b_Wb ?_
    | with_reducible refine b_Ws ?_
    | exact b_01_b
  all_goals (try (unfold b_01; split))
  all_goals first | omega | rfl | (exfalso; omega)
theorem e_X5_isThere {M : bM} {p d : Int} (h : M 3 0 ≤ 60) : F_X5_isThere p d M = some (b_01 ((0 ≤ p ∧ p < M 3 0) ∧ M 87 p ≤ d ∧ (M 88 p = -1 ∨ d < M 88 p))) := by
  unfold F_X5_isThere
  rw [e_X5_isThereWithin h, b_bind_s, b_g_s b_01_b]
  exact congrArg some (b_01_c (by omega))
