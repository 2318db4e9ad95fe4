/-! what the Statement gives of the start -/
theorem f_str {args : Array Value} {s : State} {tm : Term} {N : Nat} {g : Int → Int} {A : Nat → Prop} (hN : N < 2 ^ 31) (hex : (Cond.exactly tm "java/lang/String").before args s = true) (hco : (Cond.eq (.field tm "java/lang/String" "coder" "B") (.int (Int32.ofInt 0))).before args s = true) (har : (Cond.arrayOf (.field tm "java/lang/String" "value" "[B") .byte).before args s = true) (hle : (Cond.eq (.length (.field tm "java/lang/String" "value" "[B")) (.int (Int32.ofNat N))).before args s = true) (hel : ∀ j : Nat, j < N → (Cond.eq (.elem (.field tm "java/lang/String" "value" "[B") (.int (Int32.ofNat j))) (.int (Int32.ofInt (g (j : Int))))).before args s = true) (hA : ∀ a : Nat, a < s.heap.size → ¬ A a) :
    ∃ a t : Nat, tm.eval args s none [] s = some (.ref a) ∧ va_O "java/lang/String" a A s s.heap ∧ va_OF "java/lang/String" "coder" "B" (.int (Int32.ofInt 0)) a A s s.heap ∧ va_OF "java/lang/String" "value" "[B" (.ref t) a A s s.heap ∧ va_T .byte t N (fun j => .int (Int32.ofInt (g (j : Int)))) A s s.heap := by
  obtain ⟨a, c, cA, kA, q1, q2, q3, q4, q5, q6, -⟩ := Cond.exactly_spec (args := args) (first := s) (o := none) (s := s) (idx := []) (t := tm) (cls := "java/lang/String") hex
  obtain ⟨t, ht, hT⟩ := va_Tof (f := fun j => .int (Int32.ofInt (g (j : Int)))) (A := A) hN har (va_eqt hle) (fun j hj => va_eqt (hel j hj)) hA
  exact ⟨a, t, q1, va_Oof hex q1 hA, vk_OFof q1 (va_eqt hco) hA, vk_OFof q1 ht hA, hT⟩
theorem f_arr {args : Array Value} {s : State} {ty : FieldType} (h : (Cond.arrayClass ty).before args s = true) : ∃ cA : ClassId, ArrOfT s cA ty ∧ s.vm.findClass ("[" ++ ty.toString) = some cA := by
  obtain ⟨cA, kA, comp, h1, h2, h3⟩ := Cond.arrayClass_spec h
  exact ⟨cA, fun n z => ⟨fun k h => (by cases h), kA, h2, comp, h3⟩, h1⟩
theorem f_arrO {args : Array Value} {s : State} {C : String} (h : (Cond.arrayOver (.object C)).before args s = true) : ∃ cA : ClassId, ArrOfT s cA (.object C) ∧ va_RA s cA (.object C) := by
  obtain ⟨comp, cA, kA, f4, -, f2, f3, f1⟩ := Cond.arrayOver_spec h
  exact ⟨cA, fun n z => ⟨fun k h => (by cases h), kA, f2, comp, f3⟩, kA, comp, f2, f3, f4, f1⟩
def n_fl : List Cond := flatC (Jvm.Cond.and given_1 narrow_1)
set_option maxRecDepth 100000 in
theorem na_t0 : ∀ j : Nat, j < 7 → n_fl[52 + j]? = some (Cond.eq (.elem (.field (.string "BurntHall$Lots" 9) "java/lang/String" "value" "[B") (.int (Int32.ofNat j))) (.int (Int32.ofInt (s_t0 (j : Int))))) := by decide +kernel
theorem na_h0 : n_fl[48]? = some (Cond.exactly (.string "BurntHall$Lots" 9) "java/lang/String") ∧ n_fl[49]? = some (Cond.eq (.field (.string "BurntHall$Lots" 9) "java/lang/String" "coder" "B") (.int (Int32.ofInt 0))) ∧ n_fl[50]? = some (Cond.arrayOf (.field (.string "BurntHall$Lots" 9) "java/lang/String" "value" "[B") .byte) ∧ n_fl[51]? = some (Cond.eq (.length (.field (.string "BurntHall$Lots" 9) "java/lang/String" "value" "[B")) (.int (Int32.ofNat 7))) := by decide +kernel
set_option maxRecDepth 100000 in
theorem na_t1 : ∀ j : Nat, j < 61 → n_fl[63 + j]? = some (Cond.eq (.elem (.field (.string "BurntHall$Acts" 31) "java/lang/String" "value" "[B") (.int (Int32.ofNat j))) (.int (Int32.ofInt (s_t1 (j : Int))))) := by decide +kernel
theorem na_h1 : n_fl[59]? = some (Cond.exactly (.string "BurntHall$Acts" 31) "java/lang/String") ∧ n_fl[60]? = some (Cond.eq (.field (.string "BurntHall$Acts" 31) "java/lang/String" "coder" "B") (.int (Int32.ofInt 0))) ∧ n_fl[61]? = some (Cond.arrayOf (.field (.string "BurntHall$Acts" 31) "java/lang/String" "value" "[B") .byte) ∧ n_fl[62]? = some (Cond.eq (.length (.field (.string "BurntHall$Acts" 31) "java/lang/String" "value" "[B")) (.int (Int32.ofNat 61))) := by decide +kernel
set_option maxRecDepth 100000 in
theorem na_t2 : ∀ j : Nat, j < 39 → n_fl[129 + j]? = some (Cond.eq (.elem (.field (.string "BurntHall$Acts" 40) "java/lang/String" "value" "[B") (.int (Int32.ofNat j))) (.int (Int32.ofInt (s_t2 (j : Int))))) := by decide +kernel
theorem na_h2 : n_fl[125]? = some (Cond.exactly (.string "BurntHall$Acts" 40) "java/lang/String") ∧ n_fl[126]? = some (Cond.eq (.field (.string "BurntHall$Acts" 40) "java/lang/String" "coder" "B") (.int (Int32.ofInt 0))) ∧ n_fl[127]? = some (Cond.arrayOf (.field (.string "BurntHall$Acts" 40) "java/lang/String" "value" "[B") .byte) ∧ n_fl[128]? = some (Cond.eq (.length (.field (.string "BurntHall$Acts" 40) "java/lang/String" "value" "[B")) (.int (Int32.ofNat 39))) := by decide +kernel
set_option maxRecDepth 100000 in
theorem na_t3 : ∀ j : Nat, j < 30 → n_fl[174 + j]? = some (Cond.eq (.elem (.field (.string "BurntHall$Acts" 45) "java/lang/String" "value" "[B") (.int (Int32.ofNat j))) (.int (Int32.ofInt (s_t3 (j : Int))))) := by decide +kernel
theorem na_h3 : n_fl[170]? = some (Cond.exactly (.string "BurntHall$Acts" 45) "java/lang/String") ∧ n_fl[171]? = some (Cond.eq (.field (.string "BurntHall$Acts" 45) "java/lang/String" "coder" "B") (.int (Int32.ofInt 0))) ∧ n_fl[172]? = some (Cond.arrayOf (.field (.string "BurntHall$Acts" 45) "java/lang/String" "value" "[B") .byte) ∧ n_fl[173]? = some (Cond.eq (.length (.field (.string "BurntHall$Acts" 45) "java/lang/String" "value" "[B")) (.int (Int32.ofNat 30))) := by decide +kernel
set_option maxRecDepth 100000 in
theorem na_t4 : ∀ j : Nat, j < 141 → n_fl[211 + j]? = some (Cond.eq (.elem (.field (.string "BurntHallModel" 295) "java/lang/String" "value" "[B") (.int (Int32.ofNat j))) (.int (Int32.ofInt (s_t4 (j : Int))))) := by decide +kernel
theorem na_h4 : n_fl[207]? = some (Cond.exactly (.string "BurntHallModel" 295) "java/lang/String") ∧ n_fl[208]? = some (Cond.eq (.field (.string "BurntHallModel" 295) "java/lang/String" "coder" "B") (.int (Int32.ofInt 0))) ∧ n_fl[209]? = some (Cond.arrayOf (.field (.string "BurntHallModel" 295) "java/lang/String" "value" "[B") .byte) ∧ n_fl[210]? = some (Cond.eq (.length (.field (.string "BurntHallModel" 295) "java/lang/String" "value" "[B")) (.int (Int32.ofNat 141))) := by decide +kernel
theorem na_u0 : (∀ j : Nat, j < 10 → n_fl[12 + j]? = some (Cond.eq (.elem (.static "BurntHall$Act" "UNTOLD" "[I") (.int (Int32.ofNat j))) (.int (Int32.ofInt (s_u0 (j : Int)))))) ∧ n_fl[10]? = some (Cond.arrayOf (.static "BurntHall$Act" "UNTOLD" "[I") .int) ∧ n_fl[11]? = some (Cond.eq (.length (.static "BurntHall$Act" "UNTOLD" "[I")) (.int (Int32.ofNat 10))) := by decide +kernel
theorem na_u1 : (∀ j : Nat, j < 10 → n_fl[25 + j]? = some (Cond.eq (.elem (.static "BurntHall$Acts" "LOWEST" "[I") (.int (Int32.ofNat j))) (.int (Int32.ofInt (s_u1 (j : Int)))))) ∧ n_fl[23]? = some (Cond.arrayOf (.static "BurntHall$Acts" "LOWEST" "[I") .int) ∧ n_fl[24]? = some (Cond.eq (.length (.static "BurntHall$Acts" "LOWEST" "[I")) (.int (Int32.ofNat 10))) := by decide +kernel
theorem na_u2 : (∀ j : Nat, j < 10 → n_fl[38 + j]? = some (Cond.eq (.elem (.static "BurntHall$Acts" "HIGHEST" "[I") (.int (Int32.ofNat j))) (.int (Int32.ofInt (s_u2 (j : Int)))))) ∧ n_fl[36]? = some (Cond.arrayOf (.static "BurntHall$Acts" "HIGHEST" "[I") .int) ∧ n_fl[37]? = some (Cond.eq (.length (.static "BurntHall$Acts" "HIGHEST" "[I")) (.int (Int32.ofNat 10))) := by decide +kernel
theorem na_j : n_fl[4]? = some (Cond.eq (.static "java/lang/String" "COMPACT_STRINGS" "Z") (.int (Int32.ofInt 1))) ∧ n_fl[5]? = some (Cond.isRef (.static "jdk/internal/util/Preconditions" "SIOOBE_FORMATTER" "Ljava/util/function/BiFunction;")) := by decide +kernel
theorem nw_sr0 : tables_1[130]? = some (Cond.stringRef "BurntHall$Lots" 9 "n e s w") := by decide +kernel
theorem nw_sr1 : tables_1[265]? = some (Cond.stringRef "BurntHall$Acts" 31 "least sure doubt gap notice long years oaths heirs fund proof") := by decide +kernel
theorem nw_sr2 : tables_1[267]? = some (Cond.stringRef "BurntHall$Acts" 40 "deed copy index oath tax plate abstract") := by decide +kernel
theorem nw_sr3 : tables_1[268]? = some (Cond.stringRef "BurntHall$Acts" 45 "or and not above below is when") := by decide +kernel
theorem nw_sr4 : tables_1[2204]? = some (Cond.stringRef "BurntHallModel" 295 "proof least sure doubt gap notice long years oaths heirs fund deed copy index oath tax plate abstract or and not above below is when n e s w ") := by decide +kernel
theorem nw_ls_c : tables_1[143]? = some (Cond.laysStatic "java/lang/String" "COMPACT_STRINGS" "Z") := by decide +kernel
theorem nw_ls_p : tables_1[159]? = some (Cond.laysStatic "jdk/internal/util/Preconditions" "SIOOBE_FORMATTER" "Ljava/util/function/BiFunction;") := by decide +kernel
theorem nw_ls_0 : tables_1[275]? = some (Cond.laysStatic "BurntHall$Act" "UNTOLD" "[I") := by decide +kernel
theorem nw_ls_1 : tables_1[1112]? = some (Cond.laysStatic "BurntHall$Acts" "LOWEST" "[I") := by decide +kernel
theorem nw_ls_2 : tables_1[1114]? = some (Cond.laysStatic "BurntHall$Acts" "HIGHEST" "[I") := by decide +kernel
theorem nw_in_s : tables_1[5]? = some (Cond.initialized "java/lang/String") := by decide +kernel
theorem nw_in_p : tables_1[7]? = some (Cond.initialized "jdk/internal/util/Preconditions") := by decide +kernel
theorem nw_in_a : tables_1[10]? = some (Cond.initialized "BurntHall$Act") := by decide +kernel
theorem nw_in_as : tables_1[9]? = some (Cond.initialized "BurntHall$Acts") := by decide +kernel
theorem nw_mn9 : tables_1[31]? = some (Cond.methodLinkNest "BurntHall" 9 ⟨"BurntHall$Tape", "<init>", "()V"⟩ "BurntHall") := by decide +kernel
theorem nw_mn18 : tables_1[72]? = some (Cond.methodLinkNest "BurntHall" 18 ⟨"BurntHall$People", "<init>", "()V"⟩ "BurntHall") := by decide +kernel
theorem nw_mn25 : tables_1[126]? = some (Cond.methodLinkNest "BurntHall" 25 ⟨"BurntHall$Lots", "<init>", "()V"⟩ "BurntHall") := by decide +kernel
theorem nw_mn41 : tables_1[341]? = some (Cond.methodLinkNest "BurntHall" 41 ⟨"BurntHall$Papers", "<init>", "()V"⟩ "BurntHall") := by decide +kernel
theorem nw_ao : tables_1[264]? = some (Cond.arrayOver (.object "BurntHall$Act")) := by decide +kernel
theorem nw_ac_int : tables_1[122]? = some (Cond.arrayClass .int) := by decide +kernel
theorem nw_ac_byte : tables_1[69]? = some (Cond.arrayClass .byte) := by decide +kernel
theorem nw_ac_boolean : tables_1[465]? = some (Cond.arrayClass .boolean) := by decide +kernel
theorem nw_ac_long : tables_1[123]? = some (Cond.arrayClass .long) := by decide +kernel
