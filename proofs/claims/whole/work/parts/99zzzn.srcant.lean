theorem sr_cant {M N : bM} {k : Int} (h : Sb2 M N) (hp : ∀ p, 0 ≤ p → p < M 2 0 → N 163 p = M 163 p) (hl : ∀ l, 0 ≤ l → l < M 3 0 → N 170 l = M 170 l ∧ N 171 l = M 171 l) (hP : R_pap M) (hS : R_sign M) (hk : 0 ≤ k ∧ k < M 5 0) (d : Int) : x_cant N d k = x_cant M d k := by
  obtain ⟨p1, p2, p3, p4, p5, p6, p7, p8⟩ := hP k hk.1 hk.2
  have e : x_pf N d k = x_pf M d k := by
    funext n
    unfold x_pf x_ps
    rw [sr_c h 200 (fun _ => rfl), sr_c h 199 (fun _ => rfl), sr_c h 203 (fun _ => rfl), sr_c h 204 (fun _ => rfl)]
  have s := hS.2.1 k hk.1 hk.2
  unfold x_cant x_out x_gone
  rw [sr_lab h, sr_dea h, e, h 11 54 rfl, sr_c h 200 (fun _ => rfl), sr_c h 201 (fun _ => rfl), sr_c h 202 (fun _ => rfl), sr_c h 196 (fun _ => rfl), sr_c h 197 (fun _ => rfl), sr_c h 198 (fun _ => rfl)]
  refine b_iteC ?_ rfl (b_iteC ?_ rfl (b_iteC ?_ rfl (b_iteC ?_ rfl rfl)))
  · refine and_congr_right (fun z => ?_)
    rw [hp (M 201 k) (by omega) (by omega)]
  · refine and_congr_right (fun z => ?_)
    rw [(hl (M 196 (3 * k + 2)) (by omega) (by omega)).1, (hl (M 196 (3 * k + 2)) (by omega) (by omega)).2]
  · refine and_congr_right (fun z => ?_)
    rw [hp (M 196 (3 * k)) (by omega) (by omega)]
  · refine and_congr_right (fun z => ?_)
    rw [hp (M 196 (3 * k + 1)) (by omega) (by omega)]
theorem sr_rule {M N : bM} (h : Sb2 M N) (hRu : R_rules M) (k183 : ∀ j, j < 88 ∨ 99 ≤ j → N 183 j = M 183 j) (d i : Int) (i0 : 0 ≤ i) (i1 : i < 11) : x_rule N d i = x_rule M d i := by
  have r := x_act_r (d := d) hRu
  have m1 := hRu.1
  unfold x_rule
  rw [sr_act h]
  refine k183 _ ?_
  unfold x_mod
  by_cases z : x_act M d = 0
  · rw [if_pos z]; omega
  · rw [if_neg z]; omega
