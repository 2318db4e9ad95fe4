theorem b_upF {M : bM} {c c2 : Nat} {i x : Int} (h : c2 ≠ c) : b_up M c i x c2 = M c2 := funext fun _ => b_upc h
theorem b_upE {M M2 : bM} {c c2 : Nat} {i x : Int} (h : M c = M2 c2) : b_up M c i x c = b_up M2 c2 i x c2 := by
  funext j
  by_cases q : j = i
  · subst q; rw [b_ups, b_ups]
  · rw [b_upi q, b_upi q, h]
theorem b_upJ {M : bM} {c : Nat} {i j x : Int} : b_up M c i x c j = if j = i then x else M c j := by
  by_cases q : j = i
  · subst q; rw [b_ups, if_pos rfl]
  · rw [b_upi q, if_neg q]
def S_day : bW := [(0, some 10), (11, some 11)]
def R_day (M : bM) : Prop := M 11 11 = M 0 10 ∧ 0 ≤ M 0 10 ∧ M 0 10 ≤ 9999
theorem R_day_k {M M2 : bM} (h : ∀ c i, b_ins S_day c i = true → M2 c i = M c i) (hR : R_day M) : R_day M2 := by
  have h0_10 : M2 0 10 = M 0 10 := h 0 10 rfl
  have h11_11 : M2 11 11 = M 11 11 := h 11 11 rfl
  unfold R_day at hR ⊢
  simp only [h0_10, h11_11]
  exact hR
def S_tape : bW := [(1, some 1), (11, some 1), (72, none), (162, none)]
def R_tape (M : bM) : Prop := M 11 1 = M 1 1 ∧ 0 ≤ M 1 1 ∧ M 1 1 ≤ 1000 ∧ M 162 = M 72 ∧ ∀ i, -128 ≤ M 72 i ∧ M 72 i < 128
theorem R_tape_k {M M2 : bM} (h : ∀ c i, b_ins S_tape c i = true → M2 c i = M c i) (hR : R_tape M) : R_tape M2 := by
  have h1_1 : M2 1 1 = M 1 1 := h 1 1 rfl
  have h11_1 : M2 11 1 = M 11 1 := h 11 1 rfl
  have h72 : M2 72 = M 72 := funext fun i => h 72 i rfl
  have h162 : M2 162 = M 162 := funext fun i => h 162 i rfl
  unfold R_tape at hR ⊢
  simp only [h1_1, h11_1, h72, h162]
  exact hR
def S_ppl : bW := [(2, some 0), (2, some 1), (11, some 12), (11, some 13), (76, none), (77, none), (78, none), (79, none), (80, none), (163, none), (164, none), (165, none), (166, none), (167, none)]
def R_ppl (M : bM) : Prop := (M 11 12 = M 2 0 ∧ 0 ≤ M 2 0 ∧ M 2 0 ≤ 80 ∧ M 11 13 = M 2 1 ∧ 0 ≤ M 2 1 ∧ M 2 1 ≤ 400) ∧ (M 163 = M 76 ∧ M 164 = M 77 ∧ M 165 = M 78 ∧ M 166 = M 79 ∧ M 167 = M 80) ∧ (∀ p, 0 ≤ M 76 p ∧ M 76 p ≤ 9999) ∧ ∀ t, 0 ≤ t → t < M 2 1 → (0 ≤ M 77 t ∧ M 77 t ≤ 3) ∧ (0 ≤ M 78 t ∧ M 78 t < M 2 0) ∧ (M 77 t ≠ 0 → 0 ≤ M 79 t ∧ M 79 t < M 2 0) ∧ (M 77 t = 0 → 0 ≤ M 79 t ∧ M 79 t ≤ 9999) ∧ (0 ≤ M 80 t ∧ M 80 t ≤ 9999)
theorem R_ppl_k {M M2 : bM} (h : ∀ c i, b_ins S_ppl c i = true → M2 c i = M c i) (hR : R_ppl M) : R_ppl M2 := by
  have h2_0 : M2 2 0 = M 2 0 := h 2 0 rfl
  have h2_1 : M2 2 1 = M 2 1 := h 2 1 rfl
  have h11_12 : M2 11 12 = M 11 12 := h 11 12 rfl
  have h11_13 : M2 11 13 = M 11 13 := h 11 13 rfl
  have h76 : M2 76 = M 76 := funext fun i => h 76 i rfl
  have h77 : M2 77 = M 77 := funext fun i => h 77 i rfl
  have h78 : M2 78 = M 78 := funext fun i => h 78 i rfl
  have h79 : M2 79 = M 79 := funext fun i => h 79 i rfl
  have h80 : M2 80 = M 80 := funext fun i => h 80 i rfl
  have h163 : M2 163 = M 163 := funext fun i => h 163 i rfl
  have h164 : M2 164 = M 164 := funext fun i => h 164 i rfl
  have h165 : M2 165 = M 165 := funext fun i => h 165 i rfl
  have h166 : M2 166 = M 166 := funext fun i => h 166 i rfl
  have h167 : M2 167 = M 167 := funext fun i => h 167 i rfl
  unfold R_ppl at hR ⊢
  simp only [h2_0, h2_1, h11_12, h11_13, h76, h77, h78, h79, h80, h163, h164, h165, h166, h167]
  exact hR
def S_fault : bW := [(1, some 5), (1, some 6), (11, some 8), (11, some 9)]
def R_fault (M : bM) : Prop := M 11 8 = M 1 5 ∧ M 11 9 = M 1 6
theorem R_fault_k {M M2 : bM} (h : ∀ c i, b_ins S_fault c i = true → M2 c i = M c i) (hR : R_fault M) : R_fault M2 := by
  have h1_5 : M2 1 5 = M 1 5 := h 1 5 rfl
  have h1_6 : M2 1 6 = M 1 6 := h 1 6 rfl
  have h11_8 : M2 11 8 = M 11 8 := h 11 8 rfl
  have h11_9 : M2 11 9 = M 11 9 := h 11 9 rfl
  unfold R_fault at hR ⊢
  simp only [h1_5, h1_6, h11_8, h11_9]
  exact hR
def S_lots : bW := [(3, some 0), (11, some 20), (86, none), (87, none), (88, none), (89, none), (90, none), (91, none), (92, none), (93, none), (169, none), (170, none), (171, none), (172, none), (173, none), (174, none), (217, none), (218, none)]
def R_lots (M : bM) : Prop := (M 11 20 = M 3 0 ∧ 0 ≤ M 3 0 ∧ M 3 0 ≤ 60) ∧ (M 169 = M 86 ∧ M 170 = M 87 ∧ M 172 = M 89 ∧ M 173 = M 90 ∧ M 174 = M 91 ∧ M 218 = M 93) ∧ (∀ i, 0 ≤ i → i < M 3 0 → (M 171 i = M 88 i ∧ M 217 i = M 92 i) ∧ (1 ≤ M 86 i ∧ M 86 i ≤ 999999) ∧ (0 ≤ M 87 i ∧ M 87 i ≤ 9999) ∧ (-1 ≤ M 88 i ∧ M 88 i ≤ 9999) ∧ (M 88 i = -1 ∨ M 87 i ≤ M 88 i)) ∧ ∀ i, M 3 0 ≤ i → i < 60 → M 171 i = -1 ∧ M 217 i = -1
theorem R_lots_k {M M2 : bM} (h : ∀ c i, b_ins S_lots c i = true → M2 c i = M c i) (hR : R_lots M) : R_lots M2 := by
  have h3_0 : M2 3 0 = M 3 0 := h 3 0 rfl
  have h11_20 : M2 11 20 = M 11 20 := h 11 20 rfl
  have h86 : M2 86 = M 86 := funext fun i => h 86 i rfl
  have h87 : M2 87 = M 87 := funext fun i => h 87 i rfl
  have h88 : M2 88 = M 88 := funext fun i => h 88 i rfl
  have h89 : M2 89 = M 89 := funext fun i => h 89 i rfl
  have h90 : M2 90 = M 90 := funext fun i => h 90 i rfl
  have h91 : M2 91 = M 91 := funext fun i => h 91 i rfl
  have h92 : M2 92 = M 92 := funext fun i => h 92 i rfl
  have h93 : M2 93 = M 93 := funext fun i => h 93 i rfl
  have h169 : M2 169 = M 169 := funext fun i => h 169 i rfl
  have h170 : M2 170 = M 170 := funext fun i => h 170 i rfl
  have h171 : M2 171 = M 171 := funext fun i => h 171 i rfl
  have h172 : M2 172 = M 172 := funext fun i => h 172 i rfl
  have h173 : M2 173 = M 173 := funext fun i => h 173 i rfl
  have h174 : M2 174 = M 174 := funext fun i => h 174 i rfl
  have h217 : M2 217 = M 217 := funext fun i => h 217 i rfl
  have h218 : M2 218 = M 218 := funext fun i => h 218 i rfl
  unfold R_lots at hR ⊢
  simp only [h3_0, h11_20, h86, h87, h88, h89, h90, h91, h92, h93, h169, h170, h171, h172, h173, h174, h217, h218]
  exact hR
def S_shape : bW := [(94, none), (95, none), (96, none), (97, none), (175, none), (176, none), (177, none), (178, none), (179, none)]
def R_shape (M : bM) : Prop := (M 175 = M 94 ∧ M 176 = M 95 ∧ M 177 = M 96) ∧ (∀ l, 0 ≤ M 94 l ∧ M 94 l ≤ 12) ∧ ∀ l i, 0 ≤ l → l < 60 → 0 ≤ i → i < M 94 l → M 97 (12 * l + i) = 100000 * M 178 (12 * l + i) + M 179 (12 * l + i) ∧ (0 ≤ M 178 (12 * l + i) ∧ M 178 (12 * l + i) ≤ 3) ∧ (0 ≤ M 179 (12 * l + i) ∧ M 179 (12 * l + i) ≤ 99999)
theorem R_shape_k {M M2 : bM} (h : ∀ c i, b_ins S_shape c i = true → M2 c i = M c i) (hR : R_shape M) : R_shape M2 := by
  have h94 : M2 94 = M 94 := funext fun i => h 94 i rfl
  have h95 : M2 95 = M 95 := funext fun i => h 95 i rfl
  have h96 : M2 96 = M 96 := funext fun i => h 96 i rfl
  have h97 : M2 97 = M 97 := funext fun i => h 97 i rfl
  have h175 : M2 175 = M 175 := funext fun i => h 175 i rfl
  have h176 : M2 176 = M 176 := funext fun i => h 176 i rfl
  have h177 : M2 177 = M 177 := funext fun i => h 177 i rfl
  have h178 : M2 178 = M 178 := funext fun i => h 178 i rfl
  have h179 : M2 179 = M 179 := funext fun i => h 179 i rfl
  unfold R_shape at hR ⊢
  simp only [h94, h95, h96, h97, h175, h176, h177, h178, h179]
  exact hR
def S_coin : bW := [(9, some 1), (11, some 107)]
def R_coin (M : bM) : Prop := M 11 107 = M 9 1 ∧ 0 ≤ M 9 1 ∧ M 9 1 ≤ 9999999
theorem R_coin_k {M M2 : bM} (h : ∀ c i, b_ins S_coin c i = true → M2 c i = M c i) (hR : R_coin M) : R_coin M2 := by
  have h9_1 : M2 9 1 = M 9 1 := h 9 1 rfl
  have h11_107 : M2 11 107 = M 11 107 := h 11 107 rfl
  unfold R_coin at hR ⊢
  simp only [h9_1, h11_107]
  exact hR
def S_burnt : bW := [(6, some 0), (11, some 52)]
def R_burnt (M : bM) : Prop := M 11 52 = M 6 0 ∧ 0 ≤ M 6 0 ∧ M 6 0 ≤ 30
theorem R_burnt_k {M M2 : bM} (h : ∀ c i, b_ins S_burnt c i = true → M2 c i = M c i) (hR : R_burnt M) : R_burnt M2 := by
  have h6_0 : M2 6 0 = M 6 0 := h 6 0 rfl
  have h11_52 : M2 11 52 = M 11 52 := h 11 52 rfl
  unfold R_burnt at hR ⊢
  simp only [h6_0, h11_52]
  exact hR
def S_pages : bW := [(5, some 1), (11, some 54)]
def R_pages (M : bM) : Prop := M 11 54 = M 5 1 ∧ 0 ≤ M 5 1 ∧ M 5 1 ≤ 40
theorem R_pages_k {M M2 : bM} (h : ∀ c i, b_ins S_pages c i = true → M2 c i = M c i) (hR : R_pages M) : R_pages M2 := by
  have h5_1 : M2 5 1 = M 5 1 := h 5 1 rfl
  have h11_54 : M2 11 54 = M 11 54 := h 11 54 rfl
  unfold R_pages at hR ⊢
  simp only [h5_1, h11_54]
  exact hR
def S_place : bW := [(10, some 0), (11, some 118), (155, none), (156, none), (157, none), (241, none), (242, none), (243, none)]
def R_place (M : bM) : Prop := (M 11 118 = M 10 0 ∧ 0 ≤ M 10 0 ∧ M 10 0 ≤ 12) ∧ (M 241 = M 155 ∧ M 242 = M 156 ∧ M 243 = M 157) ∧ ∀ i, 0 ≤ i → i < M 10 0 → (1 ≤ M 155 i ∧ M 155 i ≤ 99) ∧ (0 ≤ M 156 i ∧ M 156 i < 30) ∧ (1 ≤ M 157 i ∧ M 157 i ≤ 99)
theorem R_place_k {M M2 : bM} (h : ∀ c i, b_ins S_place c i = true → M2 c i = M c i) (hR : R_place M) : R_place M2 := by
  have h10_0 : M2 10 0 = M 10 0 := h 10 0 rfl
  have h11_118 : M2 11 118 = M 11 118 := h 11 118 rfl
  have h155 : M2 155 = M 155 := funext fun i => h 155 i rfl
  have h156 : M2 156 = M 156 := funext fun i => h 156 i rfl
  have h157 : M2 157 = M 157 := funext fun i => h 157 i rfl
  have h241 : M2 241 = M 241 := funext fun i => h 241 i rfl
  have h242 : M2 242 = M 242 := funext fun i => h 242 i rfl
  have h243 : M2 243 = M 243 := funext fun i => h 243 i rfl
  unfold R_place at hR ⊢
  simp only [h10_0, h11_118, h155, h156, h157, h241, h242, h243]
  exact hR
def S_look : bW := [(10, some 13), (10, some 14), (10, some 15), (11, some 122), (11, some 123)]
def R_look (M : bM) : Prop := (M 10 13 = 0 ∧ M 11 122 = -1 ∧ M 11 123 = -1) ∨ (M 10 13 = 1 ∧ M 11 122 = M 10 14 ∧ M 11 123 = M 10 15)
theorem R_look_k {M M2 : bM} (h : ∀ c i, b_ins S_look c i = true → M2 c i = M c i) (hR : R_look M) : R_look M2 := by
  have h10_13 : M2 10 13 = M 10 13 := h 10 13 rfl
  have h10_14 : M2 10 14 = M 10 14 := h 10 14 rfl
  have h10_15 : M2 10 15 = M 10 15 := h 10 15 rfl
  have h11_122 : M2 11 122 = M 11 122 := h 11 122 rfl
  have h11_123 : M2 11 123 = M 11 123 := h 11 123 rfl
  unfold R_look at hR ⊢
  simp only [h10_13, h10_14, h10_15, h11_122, h11_123]
  exact hR
def S_link : bW := [(141, none), (224, none), (11, some 93), (11, some 94), (11, some 95), (11, some 96), (11, some 97)]
def R_link (M : bM) : Prop := (M 11 97 = 0 ∧ M 141 3 = -1) ∨ (M 11 97 = 1 ∧ M 141 3 = M 11 96 ∧ 0 ≤ M 11 96 ∧ M 141 0 = M 11 93 ∧ M 141 1 = M 11 94 ∧ M 141 2 = M 11 95 ∧ 0 ≤ M 11 95 ∧ M 11 95 ≤ 8 ∧ ∀ i, 0 ≤ i → i < M 11 95 → M 141 (4 + i) = M 224 i)
theorem R_link_k {M M2 : bM} (h : ∀ c i, b_ins S_link c i = true → M2 c i = M c i) (hR : R_link M) : R_link M2 := by
  have h141 : M2 141 = M 141 := funext fun i => h 141 i rfl
  have h224 : M2 224 = M 224 := funext fun i => h 224 i rfl
  have h11_93 : M2 11 93 = M 11 93 := h 11 93 rfl
  have h11_94 : M2 11 94 = M 11 94 := h 11 94 rfl
  have h11_95 : M2 11 95 = M 11 95 := h 11 95 rfl
  have h11_96 : M2 11 96 = M 11 96 := h 11 96 rfl
  have h11_97 : M2 11 97 = M 11 97 := h 11 97 rfl
  unfold R_link at hR ⊢
  simp only [h141, h224, h11_93, h11_94, h11_95, h11_96, h11_97]
  exact hR
def S_mort : bW := [(8, some 0), (11, some 99), (142, none), (143, none), (144, none), (145, none), (146, none), (225, none), (227, none), (228, none), (229, none), (230, none)]
def R_mort (M : bM) : Prop := (M 11 99 = M 8 0 ∧ 0 ≤ M 8 0 ∧ M 8 0 ≤ 40) ∧ (M 225 = M 142 ∧ M 227 = M 143 ∧ M 228 = M 144 ∧ M 229 = M 145 ∧ M 230 = M 146) ∧ ∀ i, 0 ≤ i → i < M 8 0 → (0 ≤ M 142 i ∧ M 142 i < 60) ∧ (0 ≤ M 143 i ∧ M 143 i ≤ 9999) ∧ (M 143 i ≤ M 144 i ∧ M 144 i ≤ 9999) ∧ (-1 ≤ M 145 i ∧ M 145 i ≤ 9999) ∧ (M 145 i ≠ -1 → 0 ≤ M 146 i ∧ M 146 i ≤ 9999)
theorem R_mort_k {M M2 : bM} (h : ∀ c i, b_ins S_mort c i = true → M2 c i = M c i) (hR : R_mort M) : R_mort M2 := by
  have h8_0 : M2 8 0 = M 8 0 := h 8 0 rfl
  have h11_99 : M2 11 99 = M 11 99 := h 11 99 rfl
  have h142 : M2 142 = M 142 := funext fun i => h 142 i rfl
  have h143 : M2 143 = M 143 := funext fun i => h 143 i rfl
  have h144 : M2 144 = M 144 := funext fun i => h 144 i rfl
  have h145 : M2 145 = M 145 := funext fun i => h 145 i rfl
  have h146 : M2 146 = M 146 := funext fun i => h 146 i rfl
  have h225 : M2 225 = M 225 := funext fun i => h 225 i rfl
  have h227 : M2 227 = M 227 := funext fun i => h 227 i rfl
  have h228 : M2 228 = M 228 := funext fun i => h 228 i rfl
  have h229 : M2 229 = M 229 := funext fun i => h 229 i rfl
  have h230 : M2 230 = M 230 := funext fun i => h 230 i rfl
  unfold R_mort at hR ⊢
  simp only [h8_0, h11_99, h142, h143, h144, h145, h146, h225, h227, h228, h229, h230]
  exact hR
def S_claim : bW := [(9, some 0), (11, some 106), (147, none), (148, none), (149, none), (231, none), (232, none), (233, none)]
def R_claim (M : bM) : Prop := (M 11 106 = M 9 0 ∧ 0 ≤ M 9 0 ∧ M 9 0 ≤ 30) ∧ (M 231 = M 147 ∧ M 232 = M 148 ∧ M 233 = M 149) ∧ ∀ i, 0 ≤ i → i < M 9 0 → (0 ≤ M 147 i ∧ M 147 i < 80) ∧ (0 ≤ M 148 i ∧ M 148 i < 60) ∧ (0 ≤ M 149 i ∧ M 149 i ≤ 9999)
theorem R_claim_k {M M2 : bM} (h : ∀ c i, b_ins S_claim c i = true → M2 c i = M c i) (hR : R_claim M) : R_claim M2 := by
  have h9_0 : M2 9 0 = M 9 0 := h 9 0 rfl
  have h11_106 : M2 11 106 = M 11 106 := h 11 106 rfl
  have h147 : M2 147 = M 147 := funext fun i => h 147 i rfl
  have h148 : M2 148 = M 148 := funext fun i => h 148 i rfl
  have h149 : M2 149 = M 149 := funext fun i => h 149 i rfl
  have h231 : M2 231 = M 231 := funext fun i => h 231 i rfl
  have h232 : M2 232 = M 232 := funext fun i => h 232 i rfl
  have h233 : M2 233 = M 233 := funext fun i => h 233 i rfl
  unfold R_claim at hR ⊢
  simp only [h9_0, h11_106, h147, h148, h149, h231, h232, h233]
  exact hR
def S_sign : bW := [(5, some 0), (11, some 53), (116, none), (117, none), (118, none), (200, none), (201, none), (202, none), (203, none), (204, none)]
def R_sign (M : bM) : Prop := (M 11 53 = M 5 0 ∧ 0 ≤ M 5 0 ∧ M 5 0 ≤ 120) ∧ (∀ i, 0 ≤ i → i < M 5 0 → (M 200 i = 0 ∧ M 116 i = -1) ∨ (M 200 i = 1 ∧ M 201 i = M 116 i ∧ (0 ≤ M 116 i ∧ M 116 i < 80) ∧ M 202 i = M 117 i ∧ (0 ≤ M 117 i ∧ M 117 i ≤ 9999) ∧ M 118 i = 100 * M 203 i + M 204 i ∧ (0 ≤ M 203 i ∧ M 203 i ≤ 9) ∧ (0 ≤ M 204 i ∧ M 204 i ≤ 99))) ∧ ∀ i, M 5 0 ≤ i → i < 120 → M 200 i = 0
theorem R_sign_k {M M2 : bM} (h : ∀ c i, b_ins S_sign c i = true → M2 c i = M c i) (hR : R_sign M) : R_sign M2 := by
  have h5_0 : M2 5 0 = M 5 0 := h 5 0 rfl
  have h11_53 : M2 11 53 = M 11 53 := h 11 53 rfl
  have h116 : M2 116 = M 116 := funext fun i => h 116 i rfl
  have h117 : M2 117 = M 117 := funext fun i => h 117 i rfl
  have h118 : M2 118 = M 118 := funext fun i => h 118 i rfl
  have h200 : M2 200 = M 200 := funext fun i => h 200 i rfl
  have h201 : M2 201 = M 201 := funext fun i => h 201 i rfl
  have h202 : M2 202 = M 202 := funext fun i => h 202 i rfl
  have h203 : M2 203 = M 203 := funext fun i => h 203 i rfl
  have h204 : M2 204 = M 204 := funext fun i => h 204 i rfl
  unfold R_sign at hR ⊢
  simp only [h5_0, h11_53, h116, h117, h118, h200, h201, h202, h203, h204]
  exact hR
