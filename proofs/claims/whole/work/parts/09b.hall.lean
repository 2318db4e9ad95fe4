abbrev xX11_init : bX := ("BurntHall", prog_1_method_1_code, 1, (Option.none : Option Jvm.ClassFile.FieldType), b_rm 8 147 14097, 1, "<init>")
abbrev yX11_init : MethodName := ⟨"BurntHall", "<init>", "()V"⟩
theorem dX11_init_0 : decode prog_1_method_1_code 0 = .ok (.aload_n 0, 1) := by decide +kernel
theorem dX11_init_1 : decode prog_1_method_1_code 1 = .ok (.invokespecial 1, 3) := by decide +kernel
theorem dX11_init_4 : decode prog_1_method_1_code 4 = .ok (.aload_n 0, 1) := by decide +kernel
theorem dX11_init_5 : decode prog_1_method_1_code 5 = .ok (.new 7, 3) := by decide +kernel
theorem dX11_init_8 : decode prog_1_method_1_code 8 = .ok (.dup, 1) := by decide +kernel
theorem dX11_init_9 : decode prog_1_method_1_code 9 = .ok (.invokespecial 9, 3) := by decide +kernel
theorem dX11_init_12 : decode prog_1_method_1_code 12 = .ok (.putfield 10, 3) := by decide +kernel
theorem dX11_init_15 : decode prog_1_method_1_code 15 = .ok (.aload_n 0, 1) := by decide +kernel
theorem dX11_init_16 : decode prog_1_method_1_code 16 = .ok (.new 16, 3) := by decide +kernel
theorem dX11_init_19 : decode prog_1_method_1_code 19 = .ok (.dup, 1) := by decide +kernel
theorem dX11_init_20 : decode prog_1_method_1_code 20 = .ok (.invokespecial 18, 3) := by decide +kernel
theorem dX11_init_23 : decode prog_1_method_1_code 23 = .ok (.putfield 19, 3) := by decide +kernel
theorem dX11_init_26 : decode prog_1_method_1_code 26 = .ok (.aload_n 0, 1) := by decide +kernel
theorem dX11_init_27 : decode prog_1_method_1_code 27 = .ok (.new 23, 3) := by decide +kernel
theorem dX11_init_30 : decode prog_1_method_1_code 30 = .ok (.dup, 1) := by decide +kernel
theorem dX11_init_31 : decode prog_1_method_1_code 31 = .ok (.invokespecial 25, 3) := by decide +kernel
theorem dX11_init_34 : decode prog_1_method_1_code 34 = .ok (.putfield 26, 3) := by decide +kernel
theorem dX11_init_37 : decode prog_1_method_1_code 37 = .ok (.aload_n 0, 1) := by decide +kernel
theorem dX11_init_38 : decode prog_1_method_1_code 38 = .ok (.new 30, 3) := by decide +kernel
theorem dX11_init_41 : decode prog_1_method_1_code 41 = .ok (.dup, 1) := by decide +kernel
theorem dX11_init_42 : decode prog_1_method_1_code 42 = .ok (.aload_n 0, 1) := by decide +kernel
theorem dX11_init_43 : decode prog_1_method_1_code 43 = .ok (.getfield 10, 3) := by decide +kernel
theorem dX11_init_46 : decode prog_1_method_1_code 46 = .ok (.invokespecial 32, 3) := by decide +kernel
theorem dX11_init_49 : decode prog_1_method_1_code 49 = .ok (.putfield 35, 3) := by decide +kernel
theorem dX11_init_52 : decode prog_1_method_1_code 52 = .ok (.aload_n 0, 1) := by decide +kernel
theorem dX11_init_53 : decode prog_1_method_1_code 53 = .ok (.new 39, 3) := by decide +kernel
theorem dX11_init_56 : decode prog_1_method_1_code 56 = .ok (.dup, 1) := by decide +kernel
theorem dX11_init_57 : decode prog_1_method_1_code 57 = .ok (.invokespecial 41, 3) := by decide +kernel
theorem dX11_init_60 : decode prog_1_method_1_code 60 = .ok (.putfield 42, 3) := by decide +kernel
theorem dX11_init_63 : decode prog_1_method_1_code 63 = .ok (.aload_n 0, 1) := by decide +kernel
theorem dX11_init_64 : decode prog_1_method_1_code 64 = .ok (.new 46, 3) := by decide +kernel
theorem dX11_init_67 : decode prog_1_method_1_code 67 = .ok (.dup, 1) := by decide +kernel
theorem dX11_init_68 : decode prog_1_method_1_code 68 = .ok (.aload_n 0, 1) := by decide +kernel
theorem dX11_init_69 : decode prog_1_method_1_code 69 = .ok (.getfield 19, 3) := by decide +kernel
theorem dX11_init_72 : decode prog_1_method_1_code 72 = .ok (.aload_n 0, 1) := by decide +kernel
theorem dX11_init_73 : decode prog_1_method_1_code 73 = .ok (.getfield 26, 3) := by decide +kernel
theorem dX11_init_76 : decode prog_1_method_1_code 76 = .ok (.aload_n 0, 1) := by decide +kernel
theorem dX11_init_77 : decode prog_1_method_1_code 77 = .ok (.getfield 42, 3) := by decide +kernel
theorem dX11_init_80 : decode prog_1_method_1_code 80 = .ok (.aload_n 0, 1) := by decide +kernel
theorem dX11_init_81 : decode prog_1_method_1_code 81 = .ok (.getfield 35, 3) := by decide +kernel
theorem dX11_init_84 : decode prog_1_method_1_code 84 = .ok (.invokespecial 48, 3) := by decide +kernel
theorem dX11_init_87 : decode prog_1_method_1_code 87 = .ok (.putfield 51, 3) := by decide +kernel
theorem dX11_init_90 : decode prog_1_method_1_code 90 = .ok (.aload_n 0, 1) := by decide +kernel
theorem dX11_init_91 : decode prog_1_method_1_code 91 = .ok (.new 55, 3) := by decide +kernel
theorem dX11_init_94 : decode prog_1_method_1_code 94 = .ok (.dup, 1) := by decide +kernel
theorem dX11_init_95 : decode prog_1_method_1_code 95 = .ok (.aload_n 0, 1) := by decide +kernel
theorem dX11_init_96 : decode prog_1_method_1_code 96 = .ok (.getfield 19, 3) := by decide +kernel
theorem dX11_init_99 : decode prog_1_method_1_code 99 = .ok (.aload_n 0, 1) := by decide +kernel
theorem dX11_init_100 : decode prog_1_method_1_code 100 = .ok (.getfield 26, 3) := by decide +kernel
theorem dX11_init_103 : decode prog_1_method_1_code 103 = .ok (.aload_n 0, 1) := by decide +kernel
theorem dX11_init_104 : decode prog_1_method_1_code 104 = .ok (.getfield 51, 3) := by decide +kernel
theorem dX11_init_107 : decode prog_1_method_1_code 107 = .ok (.invokespecial 57, 3) := by decide +kernel
theorem dX11_init_110 : decode prog_1_method_1_code 110 = .ok (.putfield 60, 3) := by decide +kernel
theorem dX11_init_113 : decode prog_1_method_1_code 113 = .ok (.aload_n 0, 1) := by decide +kernel
theorem dX11_init_114 : decode prog_1_method_1_code 114 = .ok (.new 64, 3) := by decide +kernel
theorem dX11_init_117 : decode prog_1_method_1_code 117 = .ok (.dup, 1) := by decide +kernel
theorem dX11_init_118 : decode prog_1_method_1_code 118 = .ok (.aload_n 0, 1) := by decide +kernel
theorem dX11_init_119 : decode prog_1_method_1_code 119 = .ok (.getfield 26, 3) := by decide +kernel
theorem dX11_init_122 : decode prog_1_method_1_code 122 = .ok (.aload_n 0, 1) := by decide +kernel
theorem dX11_init_123 : decode prog_1_method_1_code 123 = .ok (.getfield 35, 3) := by decide +kernel
theorem dX11_init_126 : decode prog_1_method_1_code 126 = .ok (.invokespecial 66, 3) := by decide +kernel
theorem dX11_init_129 : decode prog_1_method_1_code 129 = .ok (.putfield 69, 3) := by decide +kernel
theorem dX11_init_132 : decode prog_1_method_1_code 132 = .ok (.aload_n 0, 1) := by decide +kernel
theorem dX11_init_133 : decode prog_1_method_1_code 133 = .ok (.new 73, 3) := by decide +kernel
theorem dX11_init_136 : decode prog_1_method_1_code 136 = .ok (.dup, 1) := by decide +kernel
theorem dX11_init_137 : decode prog_1_method_1_code 137 = .ok (.aload_n 0, 1) := by decide +kernel
theorem dX11_init_138 : decode prog_1_method_1_code 138 = .ok (.getfield 35, 3) := by decide +kernel
theorem dX11_init_141 : decode prog_1_method_1_code 141 = .ok (.aload_n 0, 1) := by decide +kernel
theorem dX11_init_142 : decode prog_1_method_1_code 142 = .ok (.getfield 51, 3) := by decide +kernel
theorem dX11_init_145 : decode prog_1_method_1_code 145 = .ok (.aload_n 0, 1) := by decide +kernel
theorem dX11_init_146 : decode prog_1_method_1_code 146 = .ok (.getfield 60, 3) := by decide +kernel
theorem dX11_init_149 : decode prog_1_method_1_code 149 = .ok (.invokespecial 75, 3) := by decide +kernel
theorem dX11_init_152 : decode prog_1_method_1_code 152 = .ok (.putfield 78, 3) := by decide +kernel
theorem dX11_init_155 : decode prog_1_method_1_code 155 = .ok (.aload_n 0, 1) := by decide +kernel
theorem dX11_init_156 : decode prog_1_method_1_code 156 = .ok (.new 82, 3) := by decide +kernel
theorem dX11_init_159 : decode prog_1_method_1_code 159 = .ok (.dup, 1) := by decide +kernel
theorem dX11_init_160 : decode prog_1_method_1_code 160 = .ok (.aload_n 0, 1) := by decide +kernel
theorem dX11_init_161 : decode prog_1_method_1_code 161 = .ok (.getfield 35, 3) := by decide +kernel
theorem dX11_init_164 : decode prog_1_method_1_code 164 = .ok (.aload_n 0, 1) := by decide +kernel
theorem dX11_init_165 : decode prog_1_method_1_code 165 = .ok (.getfield 51, 3) := by decide +kernel
theorem dX11_init_168 : decode prog_1_method_1_code 168 = .ok (.aload_n 0, 1) := by decide +kernel
theorem dX11_init_169 : decode prog_1_method_1_code 169 = .ok (.getfield 60, 3) := by decide +kernel
theorem dX11_init_172 : decode prog_1_method_1_code 172 = .ok (.aload_n 0, 1) := by decide +kernel
theorem dX11_init_173 : decode prog_1_method_1_code 173 = .ok (.getfield 78, 3) := by decide +kernel
theorem dX11_init_176 : decode prog_1_method_1_code 176 = .ok (.invokespecial 84, 3) := by decide +kernel
theorem dX11_init_179 : decode prog_1_method_1_code 179 = .ok (.putfield 87, 3) := by decide +kernel
theorem dX11_init_182 : decode prog_1_method_1_code 182 = .ok (.aload_n 0, 1) := by decide +kernel
theorem dX11_init_183 : decode prog_1_method_1_code 183 = .ok (.iconst 0, 1) := by decide +kernel
theorem dX11_init_184 : decode prog_1_method_1_code 184 = .ok (.putfield 91, 3) := by decide +kernel
theorem dX11_init_187 : decode prog_1_method_1_code 187 = .ok (.return_, 1) := by decide +kernel
def b_z : bM := fun _ _ => 0
theorem mbz0 : ∀ c ∈ ([1, 72, 2, 76, 77, 78, 79, 80, 81, 82, 83, 84, 3, 85, 86, 87, 88, 89, 90, 91, 92, 93, 94, 95, 96, 97, 98, 99, 100, 101, 102, 103, 4, 107, 108, 109, 104, 105, 106, 12, 22, 32, 52, 62, 13, 23, 33, 53, 63, 14, 24, 34, 54, 64, 15, 25, 35, 55, 65, 16, 26, 36, 56, 66, 17, 27, 37, 57, 67, 18, 28, 38, 58, 68, 19, 29, 39, 59, 69, 20, 30, 40, 60, 70, 21, 31, 41, 61, 71, 5, 110, 111, 112, 113, 114, 115, 116, 117, 118, 119, 120, 121, 122, 123, 124, 125, 6, 126, 127, 128, 129, 7, 130, 131, 132, 133, 134, 135, 136, 137, 138, 139, 140, 141, 8, 142, 143, 144, 145, 146, 9, 147, 148, 149, 150, 151, 152, 153, 154, 10, 155, 156, 157, 158, 159, 160, 161] : List Nat), ∀ i, b_z c i = 0 := fun _ _ _ => rfl
def mbh1 : bM := b_up (b_upl b_z [(1, 0, 1), (1, 6, -1)]) 0 0 1
set_option maxRecDepth 20000 in
theorem mbz1 : ∀ c ∈ ([2, 76, 77, 78, 79, 80, 81, 82, 83, 84, 3, 85, 86, 87, 88, 89, 90, 91, 92, 93, 94, 95, 96, 97, 98, 99, 100, 101, 102, 103, 4, 107, 108, 109, 104, 105, 106, 12, 22, 32, 52, 62, 13, 23, 33, 53, 63, 14, 24, 34, 54, 64, 15, 25, 35, 55, 65, 16, 26, 36, 56, 66, 17, 27, 37, 57, 67, 18, 28, 38, 58, 68, 19, 29, 39, 59, 69, 20, 30, 40, 60, 70, 21, 31, 41, 61, 71, 5, 110, 111, 112, 113, 114, 115, 116, 117, 118, 119, 120, 121, 122, 123, 124, 125, 6, 126, 127, 128, 129, 7, 130, 131, 132, 133, 134, 135, 136, 137, 138, 139, 140, 141, 8, 142, 143, 144, 145, 146, 9, 147, 148, 149, 150, 151, 152, 153, 154, 10, 155, 156, 157, 158, 159, 160, 161] : List Nat), ∀ i, mbh1 c i = 0 := by
  intro c hc i
  unfold mbh1
  rw [b_upc (by revert c; decide), b_upl_ne _ _ (by revert c; decide) i]
  exact mbz0 c (by revert c; decide) i
theorem mbg0 : ∀ k : Nat, b_z b_G k = 0 := by
  intro k
  rfl
def mbh2 : bM := b_up (b_upl mbh1 [(2, 2, 1), (2, 3, 1), (2, 4, 1), (2, 5, 1), (2, 6, 1), (2, 7, -1), (2, 10, 1), (2, 11, 1), (2, 12, 1), (2, 13, 1)]) 0 1 1
set_option maxRecDepth 20000 in
theorem mbz2 : ∀ c ∈ ([3, 85, 86, 87, 88, 89, 90, 91, 92, 93, 94, 95, 96, 97, 98, 99, 100, 101, 102, 103, 4, 107, 108, 109, 104, 105, 106, 12, 22, 32, 52, 62, 13, 23, 33, 53, 63, 14, 24, 34, 54, 64, 15, 25, 35, 55, 65, 16, 26, 36, 56, 66, 17, 27, 37, 57, 67, 18, 28, 38, 58, 68, 19, 29, 39, 59, 69, 20, 30, 40, 60, 70, 21, 31, 41, 61, 71, 5, 110, 111, 112, 113, 114, 115, 116, 117, 118, 119, 120, 121, 122, 123, 124, 125, 6, 126, 127, 128, 129, 7, 130, 131, 132, 133, 134, 135, 136, 137, 138, 139, 140, 141, 8, 142, 143, 144, 145, 146, 9, 147, 148, 149, 150, 151, 152, 153, 154, 10, 155, 156, 157, 158, 159, 160, 161] : List Nat), ∀ i, mbh2 c i = 0 := by
  intro c hc i
  unfold mbh2
  rw [b_upc (by revert c; decide), b_upl_ne _ _ (by revert c; decide) i]
  exact mbz1 c (by revert c; decide) i
theorem mbg1 : ∀ k : Nat, mbh1 b_G k = 0 := by
  intro k
  unfold mbh1
  rw [b_upc (by decide), b_upl_ne _ _ (by decide) k]
  exact mbg0 k
def mbh3 : bM := b_up (b_upl (b_set mbh2 85 (s_cd s_t0 4 7).2) [(3, 1, 1), (3, 2, 1), (3, 3, 1), (3, 4, 1), (3, 5, 1), (3, 6, 1), (3, 7, 1), (3, 8, 1), (3, 9, 1), (3, 10, 1), (3, 11, 1), (3, 12, 1), (3, 13, 1), (3, 14, 1), (3, 15, 1), (3, 16, 1), (3, 17, 1), (3, 18, 1), (3, 19, 1)]) 0 2 1
set_option maxRecDepth 20000 in
theorem mbz3 : ∀ c ∈ ([4, 107, 108, 109, 104, 105, 106, 12, 22, 32, 52, 62, 13, 23, 33, 53, 63, 14, 24, 34, 54, 64, 15, 25, 35, 55, 65, 16, 26, 36, 56, 66, 17, 27, 37, 57, 67, 18, 28, 38, 58, 68, 19, 29, 39, 59, 69, 20, 30, 40, 60, 70, 21, 31, 41, 61, 71, 5, 110, 111, 112, 113, 114, 115, 116, 117, 118, 119, 120, 121, 122, 123, 124, 125, 6, 126, 127, 128, 129, 7, 130, 131, 132, 133, 134, 135, 136, 137, 138, 139, 140, 141, 8, 142, 143, 144, 145, 146, 9, 147, 148, 149, 150, 151, 152, 153, 154, 10, 155, 156, 157, 158, 159, 160, 161] : List Nat), ∀ i, mbh3 c i = 0 := by
  intro c hc i
  unfold mbh3
  rw [b_upc (by revert c; decide), b_upl_ne _ _ (by revert c; decide) i, b_set_n (by revert c; decide)]
  exact mbz2 c (by revert c; decide) i
theorem mbg2 : ∀ k : Nat, mbh2 b_G k = 0 := by
  intro k
  unfold mbh2
  rw [b_upc (by decide), b_upl_ne _ _ (by decide) k]
  exact mbg1 k
def mbh4 : bM := b_up (b_up (macs mbh3 10) 4 8 13) 0 3 1
set_option maxRecDepth 20000 in
theorem mbz4 : ∀ c ∈ ([5, 110, 111, 112, 113, 114, 115, 116, 117, 118, 119, 120, 121, 122, 123, 124, 125, 6, 126, 127, 128, 129, 7, 130, 131, 132, 133, 134, 135, 136, 137, 138, 139, 140, 141, 8, 142, 143, 144, 145, 146, 9, 147, 148, 149, 150, 151, 152, 153, 154, 10, 155, 156, 157, 158, 159, 160, 161] : List Nat), ∀ i, mbh4 c i = 0 := by
  intro c hc i
  unfold mbh4
  rw [b_upc (by revert c; decide), b_upc (by revert c; decide), macs_ne 10 (by revert c; decide) (by revert c; decide)]
  exact mbz3 c (by revert c; decide) i
theorem mbg3 : ∀ k : Nat, mbh3 b_G k = 0 := by
  intro k
  unfold mbh3
  rw [b_upc (by decide), b_upl_ne _ _ (by decide) k, b_set_n (by decide)]
  exact mbg2 k
def mbh5 : bM := b_up (b_upl mbh4 [(5, 1, 20), (5, 2, 1), (5, 3, 1), (5, 4, 1), (5, 5, 1), (5, 6, 1), (5, 7, 1), (5, 8, 1), (5, 9, 1), (5, 10, 1), (5, 11, 1), (5, 12, 1), (5, 13, 1), (5, 14, 1), (5, 15, 1), (5, 17, 1), (5, 18, 1)]) 0 4 1
set_option maxRecDepth 20000 in
theorem mbz5 : ∀ c ∈ ([6, 126, 127, 128, 129, 7, 130, 131, 132, 133, 134, 135, 136, 137, 138, 139, 140, 141, 8, 142, 143, 144, 145, 146, 9, 147, 148, 149, 150, 151, 152, 153, 154, 10, 155, 156, 157, 158, 159, 160, 161] : List Nat), ∀ i, mbh5 c i = 0 := by
  intro c hc i
  unfold mbh5
  rw [b_upc (by revert c; decide), b_upl_ne _ _ (by revert c; decide) i]
  exact mbz4 c (by revert c; decide) i
def mbh6 : bM := b_up (b_upl mbh5 [(6, 8, 1), (6, 9, 1), (6, 10, 1), (6, 12, 1), (6, 1, 1), (6, 2, 1), (6, 3, 1), (6, 4, 1)]) 0 5 1
set_option maxRecDepth 20000 in
theorem mbz6 : ∀ c ∈ ([7, 130, 131, 132, 133, 134, 135, 136, 137, 138, 139, 140, 141, 8, 142, 143, 144, 145, 146, 9, 147, 148, 149, 150, 151, 152, 153, 154, 10, 155, 156, 157, 158, 159, 160, 161] : List Nat), ∀ i, mbh6 c i = 0 := by
  intro c hc i
  unfold mbh6
  rw [b_upc (by revert c; decide), b_upl_ne _ _ (by revert c; decide) i]
  exact mbz5 c (by revert c; decide) i
def mbh7 : bM := b_up (b_upl mbh6 [(7, 7, 1), (7, 8, 1), (7, 9, 1), (7, 10, 1), (7, 11, 1), (7, 12, 1), (7, 14, 1), (7, 15, 1), (7, 16, 1), (7, 17, 1), (7, 18, 1), (7, 19, 1), (7, 0, 1), (7, 1, 1), (7, 2, 1), (141, 3, -1)]) 0 6 1
set_option maxRecDepth 20000 in
theorem mbz7 : ∀ c ∈ ([8, 142, 143, 144, 145, 146, 9, 147, 148, 149, 150, 151, 152, 153, 154, 10, 155, 156, 157, 158, 159, 160, 161] : List Nat), ∀ i, mbh7 c i = 0 := by
  intro c hc i
  unfold mbh7
  rw [b_upc (by revert c; decide), b_upl_ne _ _ (by revert c; decide) i]
  exact mbz6 c (by revert c; decide) i
def mbh8 : bM := b_up (b_upl mbh7 [(8, 3, 1), (8, 4, 1), (8, 5, 1), (8, 6, 1), (8, 7, 1), (8, 1, 1), (8, 2, 1)]) 0 7 1
set_option maxRecDepth 20000 in
theorem mbz8 : ∀ c ∈ ([9, 147, 148, 149, 150, 151, 152, 153, 154, 10, 155, 156, 157, 158, 159, 160, 161] : List Nat), ∀ i, mbh8 c i = 0 := by
  intro c hc i
  unfold mbh8
  rw [b_upc (by revert c; decide), b_upl_ne _ _ (by revert c; decide) i]
  exact mbz7 c (by revert c; decide) i
def mbh9 : bM := b_up (b_upl mbh8 [(9, 5, 1), (9, 6, 1), (9, 7, 1), (9, 8, 1), (9, 9, 1), (9, 10, 1), (9, 11, 1), (9, 12, 1), (9, 2, 1), (9, 3, 1), (9, 4, 1)]) 0 8 1
set_option maxRecDepth 20000 in
theorem mbz9 : ∀ c ∈ ([10, 155, 156, 157, 158, 159, 160, 161] : List Nat), ∀ i, mbh9 c i = 0 := by
  intro c hc i
  unfold mbh9
  rw [b_upc (by revert c; decide), b_upl_ne _ _ (by revert c; decide) i]
  exact mbz8 c (by revert c; decide) i
def mbh10 : bM := b_up (b_upl mbh9 [(10, 5, 1), (10, 6, 1), (10, 7, 1), (10, 8, 1), (10, 10, 1), (10, 11, 1), (10, 12, 1), (10, 1, 1), (10, 2, 1), (10, 3, 1), (10, 4, 1)]) 0 9 1
set_option maxRecDepth 20000 in
theorem mbz10 : ∀ c ∈ ([] : List Nat), ∀ i, mbh10 c i = 0 := by
  intro c hc i
  unfold mbh10
  rw [b_upc (by revert c; decide), b_upl_ne _ _ (by revert c; decide) i]
  exact mbz9 c (by revert c; decide) i
theorem mb0w_1_0 : mbh1 0 0 ≠ 0 := by
  unfold mbh1; rw [b_ups]; decide
theorem mb0w_2_0 : mbh2 0 0 ≠ 0 := by
  unfold mbh2; rw [b_upi (by decide), b_upl_ne _ _ (by decide) _]; exact mb0w_1_0
theorem mb0w_3_0 : mbh3 0 0 ≠ 0 := by
  unfold mbh3; rw [b_upi (by decide), b_upl_ne _ _ (by decide) _, b_set_n (by decide)]; exact mb0w_2_0
theorem mb0w_2_1 : mbh2 0 1 ≠ 0 := by
  unfold mbh2; rw [b_ups]; decide
theorem mb0w_3_1 : mbh3 0 1 ≠ 0 := by
  unfold mbh3; rw [b_upi (by decide), b_upl_ne _ _ (by decide) _, b_set_n (by decide)]; exact mb0w_2_1
theorem mb0w_4_1 : mbh4 0 1 ≠ 0 := by
  unfold mbh4; rw [b_upi (by decide), b_upc (by decide), macs_ne 10 (by decide) (by decide)]; exact mb0w_3_1
theorem mb0w_5_1 : mbh5 0 1 ≠ 0 := by
  unfold mbh5; rw [b_upi (by decide), b_upl_ne _ _ (by decide) _]; exact mb0w_4_1
theorem mb0w_3_2 : mbh3 0 2 ≠ 0 := by
  unfold mbh3; rw [b_ups]; decide
theorem mb0w_4_2 : mbh4 0 2 ≠ 0 := by
  unfold mbh4; rw [b_upi (by decide), b_upc (by decide), macs_ne 10 (by decide) (by decide)]; exact mb0w_3_2
theorem mb0w_5_2 : mbh5 0 2 ≠ 0 := by
  unfold mbh5; rw [b_upi (by decide), b_upl_ne _ _ (by decide) _]; exact mb0w_4_2
theorem mb0w_4_3 : mbh4 0 3 ≠ 0 := by
  unfold mbh4; rw [b_ups]; decide
theorem mb0w_5_3 : mbh5 0 3 ≠ 0 := by
  unfold mbh5; rw [b_upi (by decide), b_upl_ne _ _ (by decide) _]; exact mb0w_4_3
theorem mb0w_5_4 : mbh5 0 4 ≠ 0 := by
  unfold mbh5; rw [b_ups]; decide
theorem mb0w_6_1 : mbh6 0 1 ≠ 0 := by
  unfold mbh6; rw [b_upi (by decide), b_upl_ne _ _ (by decide) _]; exact mb0w_5_1
theorem mb0w_6_2 : mbh6 0 2 ≠ 0 := by
  unfold mbh6; rw [b_upi (by decide), b_upl_ne _ _ (by decide) _]; exact mb0w_5_2
theorem mb0w_6_5 : mbh6 0 5 ≠ 0 := by
  unfold mbh6; rw [b_ups]; decide
theorem mb0w_7_2 : mbh7 0 2 ≠ 0 := by
  unfold mbh7; rw [b_upi (by decide), b_upl_ne _ _ (by decide) _]; exact mb0w_6_2
theorem mb0w_6_3 : mbh6 0 3 ≠ 0 := by
  unfold mbh6; rw [b_upi (by decide), b_upl_ne _ _ (by decide) _]; exact mb0w_5_3
theorem mb0w_7_3 : mbh7 0 3 ≠ 0 := by
  unfold mbh7; rw [b_upi (by decide), b_upl_ne _ _ (by decide) _]; exact mb0w_6_3
theorem mb0w_8_3 : mbh8 0 3 ≠ 0 := by
  unfold mbh8; rw [b_upi (by decide), b_upl_ne _ _ (by decide) _]; exact mb0w_7_3
theorem mb0w_7_5 : mbh7 0 5 ≠ 0 := by
  unfold mbh7; rw [b_upi (by decide), b_upl_ne _ _ (by decide) _]; exact mb0w_6_5
theorem mb0w_8_5 : mbh8 0 5 ≠ 0 := by
  unfold mbh8; rw [b_upi (by decide), b_upl_ne _ _ (by decide) _]; exact mb0w_7_5
theorem mb0w_7_6 : mbh7 0 6 ≠ 0 := by
  unfold mbh7; rw [b_ups]; decide
theorem mb0w_8_6 : mbh8 0 6 ≠ 0 := by
  unfold mbh8; rw [b_upi (by decide), b_upl_ne _ _ (by decide) _]; exact mb0w_7_6
theorem mb0w_9_3 : mbh9 0 3 ≠ 0 := by
  unfold mbh9; rw [b_upi (by decide), b_upl_ne _ _ (by decide) _]; exact mb0w_8_3
theorem mb0w_9_5 : mbh9 0 5 ≠ 0 := by
  unfold mbh9; rw [b_upi (by decide), b_upl_ne _ _ (by decide) _]; exact mb0w_8_5
theorem mb0w_9_6 : mbh9 0 6 ≠ 0 := by
  unfold mbh9; rw [b_upi (by decide), b_upl_ne _ _ (by decide) _]; exact mb0w_8_6
theorem mb0w_9_8 : mbh9 0 8 ≠ 0 := by
  unfold mbh9; rw [b_ups]; decide
set_option maxRecDepth 20000 in
theorem c_X11_init {l : Launch} {E : bE} (hfg : b_fg E) : b_CL l E xX11_init yX11_init [0] [0, 1, 72, 2, 76, 77, 78, 79, 80, 81, 82, 83, 84, 3, 85, 86, 87, 88, 89, 90, 91, 92, 93, 94, 95, 96, 97, 98, 99, 100, 101, 102, 103, 4, 107, 108, 109, 104, 105, 106, 12, 22, 32, 52, 62, 13, 23, 33, 53, 63, 14, 24, 34, 54, 64, 15, 25, 35, 55, 65, 16, 26, 36, 56, 66, 17, 27, 37, 57, 67, 18, 28, 38, 58, 68, 19, 29, 39, 59, 69, 20, 30, 40, 60, 70, 21, 31, 41, 61, 71, 5, 110, 111, 112, 113, 114, 115, 116, 117, 118, 119, 120, 121, 122, 123, 124, 125, 6, 126, 127, 128, 129, 7, 130, 131, 132, 133, 134, 135, 136, 137, 138, 139, 140, 141, 8, 142, 143, 144, 145, 146, 9, 147, 148, 149, 150, 151, 152, 153, 154, 10, 155, 156, 157, 158, 159, 160, 161] [bR 0] b_z (fun r M' => r = none ∧ M' = b_up mbh10 0 10 0) := by
  refine b_met (by decide) ⟨rfl, rfl⟩ (Nat.le_of_ble_eq_true rfl) (fun hA hRg => ?_)
  refine v_sub (ls2 := [(0, bR _)]) [0] rfl ?_
  refine v_aload_n (f := 0) 0 rfl dX11_init_0 ?_
  refine g_objInit wm_11_1 wob_i wob_c (Nat.le_of_ble_eq_true rfl) ⟨by decide, by decide⟩ dX11_init_1 ?_
  refine v_aload_n (f := 0) 0 rfl dX11_init_4 ?_
  refine g_new (c0 := 1) tyX10 kd_1 rfl rfl tyX10_ok dfX10 (by decide) (show (1 : Nat) ∉ ([0] : List Nat) from by decide) (fun i => mbz0 _ (by decide) i) (by decide +kernel) (by simp [b_nr]) (by simp [b_nr]) rfl wcl_11_7 wt_10 wn_10 ⟨by decide, by decide⟩ dX11_init_5 ?_
  refine v_dup rfl dX11_init_8 ?_
  refine g_callIN (host := "BurntHall") (L1 := [0, 1, 72]) (nA := 0) (As := []) (ix := 9) (c_X10_init (fun c hc => mbz0 c (by revert c; decide))) rfl rfl (show ∀ c ∈ ([0] : List Nat), c ∈ ([0, 1] : List Nat) from by decide) (by simp [b_iL]) (by simp [b_iL]) rfl rfl wc_X10_init (hfg.2.2.2.2.2.2.2.2.2.2.2.2.2.2.2.2.2.1) wi_X10_init wn_10 ⟨by decide, by decide, by decide⟩ rfl ⟨by decide, by decide⟩ ⟨by decide, by decide⟩ (Nat.le_of_ble_eq_true rfl) dX11_init_9 (fun r M2 hp => ?_)
  obtain ⟨rfl, rfl⟩ := hp
  dsimp only [Option.toList, List.cons_append, List.nil_append]
  refine g_putR (kf := 0) (kz := 0) rfl (by decide) kd_0 rfl ⟨by decide, by decide⟩ rfl (by decide) rfl rfl wf_11_10 rfl (ty := tyX11 0) rfl (fun _ => ⟨rfl, rfl⟩) dX11_init_12 ?_
  refine v_mem (M2 := mbh1) rfl ?_
  refine v_aload_n (f := 0) 0 rfl dX11_init_15 ?_
  refine g_new (c0 := 2) tyX8 kd_2 rfl rfl tyX8_ok dfX8 (by decide) (show (2 : Nat) ∉ ([0] : List Nat) from by decide) (fun i => mbz1 _ (by decide) i) (by decide +kernel) (by simp [b_nr]) (by simp [b_nr]) rfl wcl_11_16 wt_8 wn_8 ⟨by decide, by decide⟩ dX11_init_16 ?_
  refine v_dup rfl dX11_init_19 ?_
  refine g_callIN (host := "BurntHall") (L1 := [0, 1, 72, 2, 76, 77, 78, 79, 80, 81, 82, 83, 84]) (nA := 0) (As := []) (ix := 18) (c_X8_init (fun c hc => mbz1 c (by revert c; decide))) rfl rfl (show ∀ c ∈ ([0] : List Nat), c ∈ ([0, 1, 72, 2] : List Nat) from by decide) (by simp [b_iL]) (by simp [b_iL]) rfl rfl wc_X8_init (hfg.2.2.2.2.2.2.2.2.2.2.2.2.2.2.2.2.2.2.1) wi_X8_init wn_8 ⟨by decide, by decide, by decide⟩ rfl ⟨by decide, by decide⟩ ⟨by decide, by decide⟩ (Nat.le_of_ble_eq_true rfl) dX11_init_20 (fun r M2 hp => ?_)
  obtain ⟨rfl, rfl⟩ := hp
  dsimp only [Option.toList, List.cons_append, List.nil_append]
  refine g_putR (kf := 1) (kz := 1) rfl (by decide) kd_0 rfl ⟨by decide, by decide⟩ rfl (by decide) rfl rfl wf_11_19 rfl (ty := tyX11 1) rfl (fun _ => ⟨rfl, rfl⟩) dX11_init_23 ?_
  refine v_mem (M2 := mbh2) rfl ?_
  refine v_aload_n (f := 0) 0 rfl dX11_init_26 ?_
  refine g_new (c0 := 3) tyX5 kd_3 rfl rfl tyX5_ok dfX5 (by decide) (show (3 : Nat) ∉ ([0] : List Nat) from by decide) (fun i => mbz2 _ (by decide) i) (by decide +kernel) (by simp [b_nr]) (by simp [b_nr]) rfl wcl_11_23 wt_5 wn_5 ⟨by decide, by decide⟩ dX11_init_27 ?_
  refine v_dup rfl dX11_init_30 ?_
  refine g_callIN (host := "BurntHall") (L1 := [0, 1, 72, 2, 76, 77, 78, 79, 80, 81, 82, 83, 84, 3, 85, 86, 87, 88, 89, 90, 91, 92, 93, 94, 95, 96, 97, 98, 99, 100, 101, 102, 103]) (nA := 0) (As := []) (ix := 25) (c_X5_init hfg (fun c hc => mbz2 c (by revert c; decide))) rfl rfl (show ∀ c ∈ ([0] : List Nat), c ∈ ([0, 1, 72, 2, 76, 77, 78, 79, 80, 81, 82, 83, 84, 3] : List Nat) from by decide) (by simp [b_iL]) (by simp [b_iL]) rfl rfl wc_X5_init (hfg.2.2.2.2.2.2.2.2.2.2.2.2.2.2.2.2.2.2.2.1) wi_X5_init wn_5 ⟨by decide, by decide, by decide⟩ rfl ⟨by decide, by decide⟩ ⟨by decide, by decide⟩ (Nat.le_of_ble_eq_true rfl) dX11_init_31 (fun r M2 hp => ?_)
  obtain ⟨rfl, rfl⟩ := hp
  dsimp only [Option.toList, List.cons_append, List.nil_append]
  refine g_putR (kf := 2) (kz := 2) rfl (by decide) kd_0 rfl ⟨by decide, by decide⟩ rfl (by decide) rfl rfl wf_11_26 rfl (ty := tyX11 2) rfl (fun _ => ⟨rfl, rfl⟩) dX11_init_34 ?_
  refine v_mem (M2 := mbh3) rfl ?_
  refine v_aload_n (f := 0) 0 rfl dX11_init_37 ?_
  refine g_new (c0 := 4) tyX1 kd_4 rfl rfl tyX1_ok dfX1 (by decide) (show (4 : Nat) ∉ ([0] : List Nat) from by decide) (fun i => mbz3 _ (by decide) i) (by decide +kernel) (by simp [b_nr]) (by simp [b_nr]) rfl wcl_11_30 wt_1 wn_1 ⟨by decide, by decide⟩ dX11_init_38 ?_
  refine v_dup rfl dX11_init_41 ?_
  refine v_aload_n (f := 0) 0 rfl dX11_init_42 ?_
  refine g_getR (Or.inr mb0w_3_0) (kf := 0) (kz := 0) rfl (by decide) kd_0 rfl ⟨by decide, by decide⟩ rfl wf_11_10 dX11_init_43 ?_
  refine g_callI (L1 := [0, 1, 72, 2, 76, 77, 78, 79, 80, 81, 82, 83, 84, 3, 85, 86, 87, 88, 89, 90, 91, 92, 93, 94, 95, 96, 97, 98, 99, 100, 101, 102, 103, 4, 107, 108, 109, 104, 105, 106, 12, 22, 32, 52, 62, 13, 23, 33, 53, 63, 14, 24, 34, 54, 64, 15, 25, 35, 55, 65, 16, 26, 36, 56, 66, 17, 27, 37, 57, 67, 18, 28, 38, 58, 68, 19, 29, 39, 59, 69, 20, 30, 40, 60, 70, 21, 31, 41, 61, 71]) (nA := 1) (As := [bR 1]) (ix := 32) (c_X1_init hfg (fun c hc => mbz3 c (by revert c; decide)) (fun k _ => mbg3 _)) rfl rfl (show ∀ c ∈ ([0] : List Nat), c ∈ ([0, 1, 72, 2, 76, 77, 78, 79, 80, 81, 82, 83, 84, 3, 85, 86, 87, 88, 89, 90, 91, 92, 93, 94, 95, 96, 97, 98, 99, 100, 101, 102, 103, 4] : List Nat) from by decide) (by simp [b_iL]) (by simp [b_iL]) rfl rfl wc_X1_init (wm_11_32) wi_X1_init wn_1 ⟨by decide, by decide, by decide⟩ rfl ⟨by decide, by decide⟩ ⟨by decide, by decide⟩ (Nat.le_of_ble_eq_true rfl) dX11_init_46 (fun r M2 hp => ?_)
  obtain ⟨rfl, rfl⟩ := hp
  dsimp only [Option.toList, List.cons_append, List.nil_append]
  refine g_putR (kf := 3) (kz := 3) rfl (by decide) kd_0 rfl ⟨by decide, by decide⟩ rfl (by decide) rfl rfl wf_11_35 rfl (ty := tyX11 3) rfl (fun _ => ⟨rfl, rfl⟩) dX11_init_49 ?_
  refine v_mem (M2 := mbh4) rfl ?_
  refine v_aload_n (f := 0) 0 rfl dX11_init_52 ?_
  refine g_new (c0 := 5) tyX7 kd_5 rfl rfl tyX7_ok dfX7 (by decide) (show (5 : Nat) ∉ ([0] : List Nat) from by decide) (fun i => mbz4 _ (by decide) i) (by decide +kernel) (by simp [b_nr]) (by simp [b_nr]) rfl wcl_11_39 wt_7 wn_7 ⟨by decide, by decide⟩ dX11_init_53 ?_
  refine v_dup rfl dX11_init_56 ?_
  refine g_callIN (host := "BurntHall") (L1 := [0, 1, 72, 2, 76, 77, 78, 79, 80, 81, 82, 83, 84, 3, 85, 86, 87, 88, 89, 90, 91, 92, 93, 94, 95, 96, 97, 98, 99, 100, 101, 102, 103, 4, 107, 108, 109, 104, 105, 106, 12, 22, 32, 52, 62, 13, 23, 33, 53, 63, 14, 24, 34, 54, 64, 15, 25, 35, 55, 65, 16, 26, 36, 56, 66, 17, 27, 37, 57, 67, 18, 28, 38, 58, 68, 19, 29, 39, 59, 69, 20, 30, 40, 60, 70, 21, 31, 41, 61, 71, 5, 110, 111, 112, 113, 114, 115, 116, 117, 118, 119, 120, 121, 122, 123, 124, 125]) (nA := 0) (As := []) (ix := 41) (c_X7_init (fun c hc => mbz4 c (by revert c; decide))) rfl rfl (show ∀ c ∈ ([0] : List Nat), c ∈ ([0, 1, 72, 2, 76, 77, 78, 79, 80, 81, 82, 83, 84, 3, 85, 86, 87, 88, 89, 90, 91, 92, 93, 94, 95, 96, 97, 98, 99, 100, 101, 102, 103, 4, 107, 108, 109, 104, 105, 106, 12, 22, 32, 52, 62, 13, 23, 33, 53, 63, 14, 24, 34, 54, 64, 15, 25, 35, 55, 65, 16, 26, 36, 56, 66, 17, 27, 37, 57, 67, 18, 28, 38, 58, 68, 19, 29, 39, 59, 69, 20, 30, 40, 60, 70, 21, 31, 41, 61, 71, 5] : List Nat) from by decide) (by simp [b_iL]) (by simp [b_iL]) rfl rfl wc_X7_init (hfg.2.2.2.2.2.2.2.2.2.2.2.2.2.2.2.2.2.2.2.2.1) wi_X7_init wn_7 ⟨by decide, by decide, by decide⟩ rfl ⟨by decide, by decide⟩ ⟨by decide, by decide⟩ (Nat.le_of_ble_eq_true rfl) dX11_init_57 (fun r M2 hp => ?_)
  obtain ⟨rfl, rfl⟩ := hp
  dsimp only [Option.toList, List.cons_append, List.nil_append]
  refine g_putR (kf := 4) (kz := 4) rfl (by decide) kd_0 rfl ⟨by decide, by decide⟩ rfl (by decide) rfl rfl wf_11_42 rfl (ty := tyX11 4) rfl (fun _ => ⟨rfl, rfl⟩) dX11_init_60 ?_
  refine v_mem (M2 := mbh5) rfl ?_
  refine v_aload_n (f := 0) 0 rfl dX11_init_63 ?_
  refine g_new (c0 := 6) tyX4 kd_6 rfl rfl tyX4_ok dfX4 (by decide) (show (6 : Nat) ∉ ([0] : List Nat) from by decide) (fun i => mbz5 _ (by decide) i) (by decide +kernel) (by simp [b_nr]) (by simp [b_nr]) rfl wcl_11_46 wt_4 wn_4 ⟨by decide, by decide⟩ dX11_init_64 ?_
  refine v_dup rfl dX11_init_67 ?_
  refine v_aload_n (f := 0) 0 rfl dX11_init_68 ?_
  refine g_getR (Or.inr mb0w_5_1) (kf := 1) (kz := 1) rfl (by decide) kd_0 rfl ⟨by decide, by decide⟩ rfl wf_11_19 dX11_init_69 ?_
  refine v_aload_n (f := 0) 0 rfl dX11_init_72 ?_
  refine g_getR (Or.inr mb0w_5_2) (kf := 2) (kz := 2) rfl (by decide) kd_0 rfl ⟨by decide, by decide⟩ rfl wf_11_26 dX11_init_73 ?_
  refine v_aload_n (f := 0) 0 rfl dX11_init_76 ?_
  refine g_getR (Or.inr mb0w_5_4) (kf := 4) (kz := 4) rfl (by decide) kd_0 rfl ⟨by decide, by decide⟩ rfl wf_11_42 dX11_init_77 ?_
  refine v_aload_n (f := 0) 0 rfl dX11_init_80 ?_
  refine g_getR (Or.inr mb0w_5_3) (kf := 3) (kz := 3) rfl (by decide) kd_0 rfl ⟨by decide, by decide⟩ rfl wf_11_35 dX11_init_81 ?_
  refine g_callI (L1 := [0, 1, 72, 2, 76, 77, 78, 79, 80, 81, 82, 83, 84, 3, 85, 86, 87, 88, 89, 90, 91, 92, 93, 94, 95, 96, 97, 98, 99, 100, 101, 102, 103, 4, 107, 108, 109, 104, 105, 106, 12, 22, 32, 52, 62, 13, 23, 33, 53, 63, 14, 24, 34, 54, 64, 15, 25, 35, 55, 65, 16, 26, 36, 56, 66, 17, 27, 37, 57, 67, 18, 28, 38, 58, 68, 19, 29, 39, 59, 69, 20, 30, 40, 60, 70, 21, 31, 41, 61, 71, 5, 110, 111, 112, 113, 114, 115, 116, 117, 118, 119, 120, 121, 122, 123, 124, 125, 6, 126, 127, 128, 129]) (nA := 4) (As := [bR 2, bR 3, bR 5, bR 4]) (ix := 48) (c_X4_init (fun c hc => mbz5 c (by revert c; decide))) rfl rfl (show ∀ c ∈ ([0] : List Nat), c ∈ ([0, 1, 72, 2, 76, 77, 78, 79, 80, 81, 82, 83, 84, 3, 85, 86, 87, 88, 89, 90, 91, 92, 93, 94, 95, 96, 97, 98, 99, 100, 101, 102, 103, 4, 107, 108, 109, 104, 105, 106, 12, 22, 32, 52, 62, 13, 23, 33, 53, 63, 14, 24, 34, 54, 64, 15, 25, 35, 55, 65, 16, 26, 36, 56, 66, 17, 27, 37, 57, 67, 18, 28, 38, 58, 68, 19, 29, 39, 59, 69, 20, 30, 40, 60, 70, 21, 31, 41, 61, 71, 5, 110, 111, 112, 113, 114, 115, 116, 117, 118, 119, 120, 121, 122, 123, 124, 125, 6] : List Nat) from by decide) (by simp [b_iL]) (by simp [b_iL]) rfl rfl wc_X4_init (wm_11_48) wi_X4_init wn_4 ⟨by decide, by decide, by decide⟩ rfl ⟨by decide, by decide⟩ ⟨by decide, by decide⟩ (Nat.le_of_ble_eq_true rfl) dX11_init_84 (fun r M2 hp => ?_)
  obtain ⟨rfl, rfl⟩ := hp
  dsimp only [Option.toList, List.cons_append, List.nil_append]
  refine g_putR (kf := 5) (kz := 5) rfl (by decide) kd_0 rfl ⟨by decide, by decide⟩ rfl (by decide) rfl rfl wf_11_51 rfl (ty := tyX11 5) rfl (fun _ => ⟨rfl, rfl⟩) dX11_init_87 ?_
  refine v_mem (M2 := mbh6) rfl ?_
  refine v_aload_n (f := 0) 0 rfl dX11_init_90 ?_
  refine g_new (c0 := 7) tyX2 kd_7 rfl rfl tyX2_ok dfX2 (by decide) (show (7 : Nat) ∉ ([0] : List Nat) from by decide) (fun i => mbz6 _ (by decide) i) (by decide +kernel) (by simp [b_nr]) (by simp [b_nr]) rfl wcl_11_55 wt_2 wn_2 ⟨by decide, by decide⟩ dX11_init_91 ?_
  refine v_dup rfl dX11_init_94 ?_
  refine v_aload_n (f := 0) 0 rfl dX11_init_95 ?_
  refine g_getR (Or.inr mb0w_6_1) (kf := 1) (kz := 1) rfl (by decide) kd_0 rfl ⟨by decide, by decide⟩ rfl wf_11_19 dX11_init_96 ?_
  refine v_aload_n (f := 0) 0 rfl dX11_init_99 ?_
  refine g_getR (Or.inr mb0w_6_2) (kf := 2) (kz := 2) rfl (by decide) kd_0 rfl ⟨by decide, by decide⟩ rfl wf_11_26 dX11_init_100 ?_
  refine v_aload_n (f := 0) 0 rfl dX11_init_103 ?_
  refine g_getR (Or.inr mb0w_6_5) (kf := 5) (kz := 5) rfl (by decide) kd_0 rfl ⟨by decide, by decide⟩ rfl wf_11_51 dX11_init_104 ?_
  refine g_callI (L1 := [0, 1, 72, 2, 76, 77, 78, 79, 80, 81, 82, 83, 84, 3, 85, 86, 87, 88, 89, 90, 91, 92, 93, 94, 95, 96, 97, 98, 99, 100, 101, 102, 103, 4, 107, 108, 109, 104, 105, 106, 12, 22, 32, 52, 62, 13, 23, 33, 53, 63, 14, 24, 34, 54, 64, 15, 25, 35, 55, 65, 16, 26, 36, 56, 66, 17, 27, 37, 57, 67, 18, 28, 38, 58, 68, 19, 29, 39, 59, 69, 20, 30, 40, 60, 70, 21, 31, 41, 61, 71, 5, 110, 111, 112, 113, 114, 115, 116, 117, 118, 119, 120, 121, 122, 123, 124, 125, 6, 126, 127, 128, 129, 7, 130, 131, 132, 133, 134, 135, 136, 137, 138, 139, 140, 141]) (nA := 3) (As := [bR 2, bR 3, bR 6]) (ix := 57) (c_X2_init (fun c hc => mbz6 c (by revert c; decide))) rfl rfl (show ∀ c ∈ ([0] : List Nat), c ∈ ([0, 1, 72, 2, 76, 77, 78, 79, 80, 81, 82, 83, 84, 3, 85, 86, 87, 88, 89, 90, 91, 92, 93, 94, 95, 96, 97, 98, 99, 100, 101, 102, 103, 4, 107, 108, 109, 104, 105, 106, 12, 22, 32, 52, 62, 13, 23, 33, 53, 63, 14, 24, 34, 54, 64, 15, 25, 35, 55, 65, 16, 26, 36, 56, 66, 17, 27, 37, 57, 67, 18, 28, 38, 58, 68, 19, 29, 39, 59, 69, 20, 30, 40, 60, 70, 21, 31, 41, 61, 71, 5, 110, 111, 112, 113, 114, 115, 116, 117, 118, 119, 120, 121, 122, 123, 124, 125, 6, 126, 127, 128, 129, 7] : List Nat) from by decide) (by simp [b_iL]) (by simp [b_iL]) rfl rfl wc_X2_init (wm_11_57) wi_X2_init wn_2 ⟨by decide, by decide, by decide⟩ rfl ⟨by decide, by decide⟩ ⟨by decide, by decide⟩ (Nat.le_of_ble_eq_true rfl) dX11_init_107 (fun r M2 hp => ?_)
  obtain ⟨rfl, rfl⟩ := hp
  dsimp only [Option.toList, List.cons_append, List.nil_append]
  refine g_putR (kf := 6) (kz := 6) rfl (by decide) kd_0 rfl ⟨by decide, by decide⟩ rfl (by decide) rfl rfl wf_11_60 rfl (ty := tyX11 6) rfl (fun _ => ⟨rfl, rfl⟩) dX11_init_110 ?_
  refine v_mem (M2 := mbh7) rfl ?_
  refine v_aload_n (f := 0) 0 rfl dX11_init_113 ?_
  refine g_new (c0 := 8) tyX6 kd_8 rfl rfl tyX6_ok dfX6 (by decide) (show (8 : Nat) ∉ ([0] : List Nat) from by decide) (fun i => mbz7 _ (by decide) i) (by decide +kernel) (by simp [b_nr]) (by simp [b_nr]) rfl wcl_11_64 wt_6 wn_6 ⟨by decide, by decide⟩ dX11_init_114 ?_
  refine v_dup rfl dX11_init_117 ?_
  refine v_aload_n (f := 0) 0 rfl dX11_init_118 ?_
  refine g_getR (Or.inr mb0w_7_2) (kf := 2) (kz := 2) rfl (by decide) kd_0 rfl ⟨by decide, by decide⟩ rfl wf_11_26 dX11_init_119 ?_
  refine v_aload_n (f := 0) 0 rfl dX11_init_122 ?_
  refine g_getR (Or.inr mb0w_7_3) (kf := 3) (kz := 3) rfl (by decide) kd_0 rfl ⟨by decide, by decide⟩ rfl wf_11_35 dX11_init_123 ?_
  refine g_callI (L1 := [0, 1, 72, 2, 76, 77, 78, 79, 80, 81, 82, 83, 84, 3, 85, 86, 87, 88, 89, 90, 91, 92, 93, 94, 95, 96, 97, 98, 99, 100, 101, 102, 103, 4, 107, 108, 109, 104, 105, 106, 12, 22, 32, 52, 62, 13, 23, 33, 53, 63, 14, 24, 34, 54, 64, 15, 25, 35, 55, 65, 16, 26, 36, 56, 66, 17, 27, 37, 57, 67, 18, 28, 38, 58, 68, 19, 29, 39, 59, 69, 20, 30, 40, 60, 70, 21, 31, 41, 61, 71, 5, 110, 111, 112, 113, 114, 115, 116, 117, 118, 119, 120, 121, 122, 123, 124, 125, 6, 126, 127, 128, 129, 7, 130, 131, 132, 133, 134, 135, 136, 137, 138, 139, 140, 141, 8, 142, 143, 144, 145, 146]) (nA := 2) (As := [bR 3, bR 4]) (ix := 66) (c_X6_init (fun c hc => mbz7 c (by revert c; decide))) rfl rfl (show ∀ c ∈ ([0] : List Nat), c ∈ ([0, 1, 72, 2, 76, 77, 78, 79, 80, 81, 82, 83, 84, 3, 85, 86, 87, 88, 89, 90, 91, 92, 93, 94, 95, 96, 97, 98, 99, 100, 101, 102, 103, 4, 107, 108, 109, 104, 105, 106, 12, 22, 32, 52, 62, 13, 23, 33, 53, 63, 14, 24, 34, 54, 64, 15, 25, 35, 55, 65, 16, 26, 36, 56, 66, 17, 27, 37, 57, 67, 18, 28, 38, 58, 68, 19, 29, 39, 59, 69, 20, 30, 40, 60, 70, 21, 31, 41, 61, 71, 5, 110, 111, 112, 113, 114, 115, 116, 117, 118, 119, 120, 121, 122, 123, 124, 125, 6, 126, 127, 128, 129, 7, 130, 131, 132, 133, 134, 135, 136, 137, 138, 139, 140, 141, 8] : List Nat) from by decide) (by simp [b_iL]) (by simp [b_iL]) rfl rfl wc_X6_init (wm_11_66) wi_X6_init wn_6 ⟨by decide, by decide, by decide⟩ rfl ⟨by decide, by decide⟩ ⟨by decide, by decide⟩ (Nat.le_of_ble_eq_true rfl) dX11_init_126 (fun r M2 hp => ?_)
  obtain ⟨rfl, rfl⟩ := hp
  dsimp only [Option.toList, List.cons_append, List.nil_append]
  refine g_putR (kf := 7) (kz := 7) rfl (by decide) kd_0 rfl ⟨by decide, by decide⟩ rfl (by decide) rfl rfl wf_11_69 rfl (ty := tyX11 7) rfl (fun _ => ⟨rfl, rfl⟩) dX11_init_129 ?_
  refine v_mem (M2 := mbh8) rfl ?_
  refine v_aload_n (f := 0) 0 rfl dX11_init_132 ?_
  refine g_new (c0 := 9) tyX3 kd_9 rfl rfl tyX3_ok dfX3 (by decide) (show (9 : Nat) ∉ ([0] : List Nat) from by decide) (fun i => mbz8 _ (by decide) i) (by decide +kernel) (by simp [b_nr]) (by simp [b_nr]) rfl wcl_11_73 wt_3 wn_3 ⟨by decide, by decide⟩ dX11_init_133 ?_
  refine v_dup rfl dX11_init_136 ?_
  refine v_aload_n (f := 0) 0 rfl dX11_init_137 ?_
  refine g_getR (Or.inr mb0w_8_3) (kf := 3) (kz := 3) rfl (by decide) kd_0 rfl ⟨by decide, by decide⟩ rfl wf_11_35 dX11_init_138 ?_
  refine v_aload_n (f := 0) 0 rfl dX11_init_141 ?_
  refine g_getR (Or.inr mb0w_8_5) (kf := 5) (kz := 5) rfl (by decide) kd_0 rfl ⟨by decide, by decide⟩ rfl wf_11_51 dX11_init_142 ?_
  refine v_aload_n (f := 0) 0 rfl dX11_init_145 ?_
  refine g_getR (Or.inr mb0w_8_6) (kf := 6) (kz := 6) rfl (by decide) kd_0 rfl ⟨by decide, by decide⟩ rfl wf_11_60 dX11_init_146 ?_
  refine g_callI (L1 := [0, 1, 72, 2, 76, 77, 78, 79, 80, 81, 82, 83, 84, 3, 85, 86, 87, 88, 89, 90, 91, 92, 93, 94, 95, 96, 97, 98, 99, 100, 101, 102, 103, 4, 107, 108, 109, 104, 105, 106, 12, 22, 32, 52, 62, 13, 23, 33, 53, 63, 14, 24, 34, 54, 64, 15, 25, 35, 55, 65, 16, 26, 36, 56, 66, 17, 27, 37, 57, 67, 18, 28, 38, 58, 68, 19, 29, 39, 59, 69, 20, 30, 40, 60, 70, 21, 31, 41, 61, 71, 5, 110, 111, 112, 113, 114, 115, 116, 117, 118, 119, 120, 121, 122, 123, 124, 125, 6, 126, 127, 128, 129, 7, 130, 131, 132, 133, 134, 135, 136, 137, 138, 139, 140, 141, 8, 142, 143, 144, 145, 146, 9, 147, 148, 149, 150, 151, 152, 153, 154]) (nA := 3) (As := [bR 4, bR 6, bR 7]) (ix := 75) (c_X3_init (fun c hc => mbz8 c (by revert c; decide))) rfl rfl (show ∀ c ∈ ([0] : List Nat), c ∈ ([0, 1, 72, 2, 76, 77, 78, 79, 80, 81, 82, 83, 84, 3, 85, 86, 87, 88, 89, 90, 91, 92, 93, 94, 95, 96, 97, 98, 99, 100, 101, 102, 103, 4, 107, 108, 109, 104, 105, 106, 12, 22, 32, 52, 62, 13, 23, 33, 53, 63, 14, 24, 34, 54, 64, 15, 25, 35, 55, 65, 16, 26, 36, 56, 66, 17, 27, 37, 57, 67, 18, 28, 38, 58, 68, 19, 29, 39, 59, 69, 20, 30, 40, 60, 70, 21, 31, 41, 61, 71, 5, 110, 111, 112, 113, 114, 115, 116, 117, 118, 119, 120, 121, 122, 123, 124, 125, 6, 126, 127, 128, 129, 7, 130, 131, 132, 133, 134, 135, 136, 137, 138, 139, 140, 141, 8, 142, 143, 144, 145, 146, 9] : List Nat) from by decide) (by simp [b_iL]) (by simp [b_iL]) rfl rfl wc_X3_init (wm_11_75) wi_X3_init wn_3 ⟨by decide, by decide, by decide⟩ rfl ⟨by decide, by decide⟩ ⟨by decide, by decide⟩ (Nat.le_of_ble_eq_true rfl) dX11_init_149 (fun r M2 hp => ?_)
  obtain ⟨rfl, rfl⟩ := hp
  dsimp only [Option.toList, List.cons_append, List.nil_append]
  refine g_putR (kf := 8) (kz := 8) rfl (by decide) kd_0 rfl ⟨by decide, by decide⟩ rfl (by decide) rfl rfl wf_11_78 rfl (ty := tyX11 8) rfl (fun _ => ⟨rfl, rfl⟩) dX11_init_152 ?_
  refine v_mem (M2 := mbh9) rfl ?_
  refine v_aload_n (f := 0) 0 rfl dX11_init_155 ?_
  refine g_new (c0 := 10) tyX9 kd_10 rfl rfl tyX9_ok dfX9 (by decide) (show (10 : Nat) ∉ ([0] : List Nat) from by decide) (fun i => mbz9 _ (by decide) i) (by decide +kernel) (by simp [b_nr]) (by simp [b_nr]) rfl wcl_11_82 wt_9 wn_9 ⟨by decide, by decide⟩ dX11_init_156 ?_
  refine v_dup rfl dX11_init_159 ?_
  refine v_aload_n (f := 0) 0 rfl dX11_init_160 ?_
  refine g_getR (Or.inr mb0w_9_3) (kf := 3) (kz := 3) rfl (by decide) kd_0 rfl ⟨by decide, by decide⟩ rfl wf_11_35 dX11_init_161 ?_
  refine v_aload_n (f := 0) 0 rfl dX11_init_164 ?_
  refine g_getR (Or.inr mb0w_9_5) (kf := 5) (kz := 5) rfl (by decide) kd_0 rfl ⟨by decide, by decide⟩ rfl wf_11_51 dX11_init_165 ?_
  refine v_aload_n (f := 0) 0 rfl dX11_init_168 ?_
  refine g_getR (Or.inr mb0w_9_6) (kf := 6) (kz := 6) rfl (by decide) kd_0 rfl ⟨by decide, by decide⟩ rfl wf_11_60 dX11_init_169 ?_
  refine v_aload_n (f := 0) 0 rfl dX11_init_172 ?_
  refine g_getR (Or.inr mb0w_9_8) (kf := 8) (kz := 8) rfl (by decide) kd_0 rfl ⟨by decide, by decide⟩ rfl wf_11_78 dX11_init_173 ?_
  refine g_callI (L1 := [0, 1, 72, 2, 76, 77, 78, 79, 80, 81, 82, 83, 84, 3, 85, 86, 87, 88, 89, 90, 91, 92, 93, 94, 95, 96, 97, 98, 99, 100, 101, 102, 103, 4, 107, 108, 109, 104, 105, 106, 12, 22, 32, 52, 62, 13, 23, 33, 53, 63, 14, 24, 34, 54, 64, 15, 25, 35, 55, 65, 16, 26, 36, 56, 66, 17, 27, 37, 57, 67, 18, 28, 38, 58, 68, 19, 29, 39, 59, 69, 20, 30, 40, 60, 70, 21, 31, 41, 61, 71, 5, 110, 111, 112, 113, 114, 115, 116, 117, 118, 119, 120, 121, 122, 123, 124, 125, 6, 126, 127, 128, 129, 7, 130, 131, 132, 133, 134, 135, 136, 137, 138, 139, 140, 141, 8, 142, 143, 144, 145, 146, 9, 147, 148, 149, 150, 151, 152, 153, 154, 10, 155, 156, 157, 158, 159, 160, 161]) (nA := 4) (As := [bR 4, bR 6, bR 7, bR 9]) (ix := 84) (c_X9_init (fun c hc => mbz9 c (by revert c; decide))) rfl rfl (show ∀ c ∈ ([0] : List Nat), c ∈ ([0, 1, 72, 2, 76, 77, 78, 79, 80, 81, 82, 83, 84, 3, 85, 86, 87, 88, 89, 90, 91, 92, 93, 94, 95, 96, 97, 98, 99, 100, 101, 102, 103, 4, 107, 108, 109, 104, 105, 106, 12, 22, 32, 52, 62, 13, 23, 33, 53, 63, 14, 24, 34, 54, 64, 15, 25, 35, 55, 65, 16, 26, 36, 56, 66, 17, 27, 37, 57, 67, 18, 28, 38, 58, 68, 19, 29, 39, 59, 69, 20, 30, 40, 60, 70, 21, 31, 41, 61, 71, 5, 110, 111, 112, 113, 114, 115, 116, 117, 118, 119, 120, 121, 122, 123, 124, 125, 6, 126, 127, 128, 129, 7, 130, 131, 132, 133, 134, 135, 136, 137, 138, 139, 140, 141, 8, 142, 143, 144, 145, 146, 9, 147, 148, 149, 150, 151, 152, 153, 154, 10] : List Nat) from by decide) (by simp [b_iL]) (by simp [b_iL]) rfl rfl wc_X9_init (wm_11_84) wi_X9_init wn_9 ⟨by decide, by decide, by decide⟩ rfl ⟨by decide, by decide⟩ ⟨by decide, by decide⟩ (Nat.le_of_ble_eq_true rfl) dX11_init_176 (fun r M2 hp => ?_)
  obtain ⟨rfl, rfl⟩ := hp
  dsimp only [Option.toList, List.cons_append, List.nil_append]
  refine g_putR (kf := 9) (kz := 9) rfl (by decide) kd_0 rfl ⟨by decide, by decide⟩ rfl (by decide) rfl rfl wf_11_87 rfl (ty := tyX11 9) rfl (fun _ => ⟨rfl, rfl⟩) dX11_init_179 ?_
  refine v_mem (M2 := mbh10) rfl ?_
  refine v_aload_n (f := 0) 0 rfl dX11_init_182 ?_
  refine v_iconst ⟨by decide, by decide⟩ dX11_init_183 ?_
  refine g_putI (kf := 10) (kz := 10) rfl (by decide) kd_0 rfl ⟨by decide, by decide⟩ rfl wf_11_91 rfl rfl dX11_init_184 ?_
  exact v_return rfl dX11_init_187 ⟨by decide, by decide⟩ ⟨rfl, rfl⟩
