-- ===== PART A: goes FIRST, ahead of the names: the tables' words, and 'selects' of the private methods out of them =====
/-- a private method of a class that the tables say can be made, by its rows of tables_1 -/
def lw_okq (q : MethodName × Nat) : Prop := (q.1.cls ≠ "java/lang/invoke/MethodHandle" ∧ q.1.cls ≠ "java/lang/invoke/VarHandle") ∧ Cond.instantiable q.1.cls q.2 ∈ tables_1 ∧ Cond.privateMethod q.1 ∈ tables_1 ∧ Cond.instanceMethod q.1 ∈ tables_1
theorem lw_p0 : lw_okq (⟨"TasterPanels", "giveOrders", "(LTasterPanels$Test;I)V"⟩, 7) := ⟨⟨by decide +kernel, by decide +kernel⟩, List.mem_of_getElem? (i := 12) (by decide +kernel), List.mem_of_getElem? (i := 112) (by decide +kernel), List.mem_of_getElem? (i := 113) (by decide +kernel)⟩
theorem lw_p1 : lw_okq (⟨"TasterPanels", "mixOrders", "(III)V"⟩, 7) := ⟨⟨by decide +kernel, by decide +kernel⟩, List.mem_of_getElem? (i := 12) (by decide +kernel), List.mem_of_getElem? (i := 121) (by decide +kernel), List.mem_of_getElem? (i := 122) (by decide +kernel)⟩
theorem lw_p2 : lw_okq (⟨"TasterPanels", "testAt", "(I)LTasterPanels$Test;"⟩, 7) := ⟨⟨by decide +kernel, by decide +kernel⟩, List.mem_of_getElem? (i := 12) (by decide +kernel), List.mem_of_getElem? (i := 133) (by decide +kernel), List.mem_of_getElem? (i := 134) (by decide +kernel)⟩
theorem lw_p3 : lw_okq (⟨"TasterPanels", "tasterAt", "(I)LTasterPanels$Taster;"⟩, 7) := ⟨⟨by decide +kernel, by decide +kernel⟩, List.mem_of_getElem? (i := 12) (by decide +kernel), List.mem_of_getElem? (i := 137) (by decide +kernel), List.mem_of_getElem? (i := 138) (by decide +kernel)⟩
theorem lw_p4 : lw_okq (⟨"TasterPanels", "differenceAt", "(I)LTasterPanels$Test;"⟩, 7) := ⟨⟨by decide +kernel, by decide +kernel⟩, List.mem_of_getElem? (i := 12) (by decide +kernel), List.mem_of_getElem? (i := 163) (by decide +kernel), List.mem_of_getElem? (i := 164) (by decide +kernel)⟩
theorem lw_p5 : lw_okq (⟨"TasterPanels", "rankingAt", "(I)LTasterPanels$Test;"⟩, 7) := ⟨⟨by decide +kernel, by decide +kernel⟩, List.mem_of_getElem? (i := 12) (by decide +kernel), List.mem_of_getElem? (i := 204) (by decide +kernel), List.mem_of_getElem? (i := 205) (by decide +kernel)⟩
theorem lw_p6 : lw_okq (⟨"TasterPanels", "waysAsFarAs", "(III)J"⟩, 7) := ⟨⟨by decide +kernel, by decide +kernel⟩, List.mem_of_getElem? (i := 12) (by decide +kernel), List.mem_of_getElem? (i := 221) (by decide +kernel), List.mem_of_getElem? (i := 222) (by decide +kernel)⟩
theorem lw_p7 : lw_okq (⟨"TasterPanels", "countSums", "(II)V"⟩, 7) := ⟨⟨by decide +kernel, by decide +kernel⟩, List.mem_of_getElem? (i := 12) (by decide +kernel), List.mem_of_getElem? (i := 225) (by decide +kernel), List.mem_of_getElem? (i := 226) (by decide +kernel)⟩
theorem lw_p8 : lw_okq (⟨"java/lang/Throwable", "fillInStackTrace", "(I)Ljava/lang/Throwable;"⟩, 6) := ⟨⟨by decide +kernel, by decide +kernel⟩, List.mem_of_getElem? (i := 301) (by decide +kernel), List.mem_of_getElem? (i := 299) (by decide +kernel), List.mem_of_getElem? (i := 300) (by decide +kernel)⟩
theorem lw_p9 : lw_okq (⟨"TasterPanelsModel", "isTest", "(I)Z"⟩, 12) := ⟨⟨by decide +kernel, by decide +kernel⟩, List.mem_of_getElem? (i := 332) (by decide +kernel), List.mem_of_getElem? (i := 391) (by decide +kernel), List.mem_of_getElem? (i := 392) (by decide +kernel)⟩
theorem lw_p10 : lw_okq (⟨"TasterPanelsModel", "isTaster", "(I)Z"⟩, 12) := ⟨⟨by decide +kernel, by decide +kernel⟩, List.mem_of_getElem? (i := 332) (by decide +kernel), List.mem_of_getElem? (i := 395) (by decide +kernel), List.mem_of_getElem? (i := 396) (by decide +kernel)⟩
theorem lw_p11 : lw_okq (⟨"TasterPanelsModel", "served", "(I)I"⟩, 12) := ⟨⟨by decide +kernel, by decide +kernel⟩, List.mem_of_getElem? (i := 332) (by decide +kernel), List.mem_of_getElem? (i := 399) (by decide +kernel), List.mem_of_getElem? (i := 400) (by decide +kernel)⟩
theorem lw_p12 : lw_okq (⟨"TasterPanelsModel", "orderOf", "(II)I"⟩, 12) := ⟨⟨by decide +kernel, by decide +kernel⟩, List.mem_of_getElem? (i := 332) (by decide +kernel), List.mem_of_getElem? (i := 403) (by decide +kernel), List.mem_of_getElem? (i := 404) (by decide +kernel)⟩
theorem lw_p13 : lw_okq (⟨"TasterPanelsModel", "orders", "(I)I"⟩, 12) := ⟨⟨by decide +kernel, by decide +kernel⟩, List.mem_of_getElem? (i := 332) (by decide +kernel), List.mem_of_getElem? (i := 407) (by decide +kernel), List.mem_of_getElem? (i := 408) (by decide +kernel)⟩
theorem lw_p14 : lw_okq (⟨"TasterPanelsModel", "first", "(I)I"⟩, 12) := ⟨⟨by decide +kernel, by decide +kernel⟩, List.mem_of_getElem? (i := 332) (by decide +kernel), List.mem_of_getElem? (i := 420) (by decide +kernel), List.mem_of_getElem? (i := 421) (by decide +kernel)⟩
theorem lw_p15 : lw_okq (⟨"TasterPanelsModel", "rightOnes", "(I)I"⟩, 12) := ⟨⟨by decide +kernel, by decide +kernel⟩, List.mem_of_getElem? (i := 332) (by decide +kernel), List.mem_of_getElem? (i := 432) (by decide +kernel), List.mem_of_getElem? (i := 433) (by decide +kernel)⟩
def lw_privs_1 : List (MethodName × Nat) := [(⟨"TasterPanels", "giveOrders", "(LTasterPanels$Test;I)V"⟩, 7), (⟨"TasterPanels", "mixOrders", "(III)V"⟩, 7), (⟨"TasterPanels", "testAt", "(I)LTasterPanels$Test;"⟩, 7), (⟨"TasterPanels", "tasterAt", "(I)LTasterPanels$Taster;"⟩, 7), (⟨"TasterPanels", "differenceAt", "(I)LTasterPanels$Test;"⟩, 7), (⟨"TasterPanels", "rankingAt", "(I)LTasterPanels$Test;"⟩, 7), (⟨"TasterPanels", "waysAsFarAs", "(III)J"⟩, 7), (⟨"TasterPanels", "countSums", "(II)V"⟩, 7), (⟨"java/lang/Throwable", "fillInStackTrace", "(I)Ljava/lang/Throwable;"⟩, 6), (⟨"TasterPanelsModel", "isTest", "(I)Z"⟩, 12), (⟨"TasterPanelsModel", "isTaster", "(I)Z"⟩, 12), (⟨"TasterPanelsModel", "served", "(I)I"⟩, 12), (⟨"TasterPanelsModel", "orderOf", "(II)I"⟩, 12), (⟨"TasterPanelsModel", "orders", "(I)I"⟩, 12), (⟨"TasterPanelsModel", "first", "(I)I"⟩, 12), (⟨"TasterPanelsModel", "rightOnes", "(I)I"⟩, 12)]
theorem lw_r1 : ∀ q ∈ lw_privs_1, lw_okq q := List.forall_mem_cons.mpr ⟨lw_p0, List.forall_mem_cons.mpr ⟨lw_p1, List.forall_mem_cons.mpr ⟨lw_p2, List.forall_mem_cons.mpr ⟨lw_p3, List.forall_mem_cons.mpr ⟨lw_p4, List.forall_mem_cons.mpr ⟨lw_p5, List.forall_mem_cons.mpr ⟨lw_p6, List.forall_mem_cons.mpr ⟨lw_p7, List.forall_mem_cons.mpr ⟨lw_p8, List.forall_mem_cons.mpr ⟨lw_p9, List.forall_mem_cons.mpr ⟨lw_p10, List.forall_mem_cons.mpr ⟨lw_p11, List.forall_mem_cons.mpr ⟨lw_p12, List.forall_mem_cons.mpr ⟨lw_p13, List.forall_mem_cons.mpr ⟨lw_p14, List.forall_mem_cons.mpr ⟨lw_p15, fun _ h => absurd h List.not_mem_nil⟩⟩⟩⟩⟩⟩⟩⟩⟩⟩⟩⟩⟩⟩⟩⟩
theorem lw_p16 : lw_okq (⟨"TasterPanelsModel", "isRight", "(II)Z"⟩, 12) := ⟨⟨by decide +kernel, by decide +kernel⟩, List.mem_of_getElem? (i := 332) (by decide +kernel), List.mem_of_getElem? (i := 436) (by decide +kernel), List.mem_of_getElem? (i := 437) (by decide +kernel)⟩
theorem lw_p17 : lw_okq (⟨"TasterPanelsModel", "answered", "(I)I"⟩, 12) := ⟨⟨by decide +kernel, by decide +kernel⟩, List.mem_of_getElem? (i := 332) (by decide +kernel), List.mem_of_getElem? (i := 446) (by decide +kernel), List.mem_of_getElem? (i := 447) (by decide +kernel)⟩
theorem lw_p18 : lw_okq (⟨"TasterPanelsModel", "atLeast", "(III)J"⟩, 12) := ⟨⟨by decide +kernel, by decide +kernel⟩, List.mem_of_getElem? (i := 332) (by decide +kernel), List.mem_of_getElem? (i := 451) (by decide +kernel), List.mem_of_getElem? (i := 452) (by decide +kernel)⟩
def lw_privs_2 : List (MethodName × Nat) := [(⟨"TasterPanelsModel", "isRight", "(II)Z"⟩, 12), (⟨"TasterPanelsModel", "answered", "(I)I"⟩, 12), (⟨"TasterPanelsModel", "atLeast", "(III)J"⟩, 12)]
theorem lw_r2 : ∀ q ∈ lw_privs_2, lw_okq q := List.forall_mem_cons.mpr ⟨lw_p16, List.forall_mem_cons.mpr ⟨lw_p17, List.forall_mem_cons.mpr ⟨lw_p18, fun _ h => absurd h List.not_mem_nil⟩⟩⟩
def lw_privs : List (MethodName × Nat) := lw_privs_1 ++ (lw_privs_2)
def lw_tbl : List Cond := k2_sels lw_privs ++ tables_1
theorem lw_privs_ok : ∀ q ∈ lw_privs, lw_okq q := by
  show ∀ q ∈ lw_privs_1 ++ (lw_privs_2), lw_okq q
  exact List.forall_mem_append.mpr ⟨lw_r1, lw_r2⟩
/-- the words that every method takes along: all good ones of the tables -/
def TT : List Cond := lw_tbl.filter goodWord
theorem inTT {w : Cond} (i : Nat) (h : lw_tbl[i]? = some w) (g : goodWord w = true) : w ∈ TT := List.mem_filter.mpr ⟨List.mem_of_getElem? h, g⟩
theorem TT_good {w : Cond} (h : w ∈ TT) : (w.onTables && w.keeps) = true ∨ ∃ ty, w = .arrayClass ty := good_of_word (List.mem_filter.mp h).2
theorem TT_in {w : Cond} (h : w ∈ TT) : w ∈ lw_tbl := (List.mem_filter.mp h).1
theorem TT_gi {ws : List Cond} (h : ∀ w ∈ ws, w ∈ TT) : GoodIn TT ws := fun w hw => ⟨h w hw, TT_good (h w hw)⟩
theorem TT_code {w : Cond} (h : w ∈ TT) : GoodIn TT (w :: TT) := TT_gi (fun v hv => (List.mem_cons.mp hv).elim (fun e => e ▸ h) id)
theorem TT_ap {a b : List Cond} (ha : ∀ w ∈ a, w ∈ TT) (hb : GoodIn TT b) : GoodIn TT (a ++ b) := fun w hw => (List.mem_append.mp hw).elim (fun h => ⟨ha w h, TT_good (ha w h)⟩) (hb w)
theorem TT_S {own : String} {idx : Nat} {y : MethodName} {b : ByteArray} {n : Nat} {r : Option FieldType} (h1 : Cond.methodLink own idx y ∈ TT) (h2 : Cond.static y ∈ TT) (h3 : Cond.initialized y.cls ∈ TT) (h4 : Cond.code y b n r ∈ TT) : GoodIn TT (va_wsS own idx y (Cond.code y b n r :: TT)) := by
  refine TT_ap (fun w hw => ?_) (TT_code h4)
  rcases List.mem_cons.mp hw with rfl | hw
  · exact h1
  rcases List.mem_cons.mp hw with rfl | hw
  · exact h2
  rcases List.mem_cons.mp hw with rfl | hw
  · exact h3
  exact absurd hw List.not_mem_nil
theorem TT_V {own C : String} {idx : Nat} {y : MethodName} {b : ByteArray} {n : Nat} {r : Option FieldType} (h1 : Cond.methodLink own idx y ∈ TT) (h2 : Cond.instanceMethod y ∈ TT) (h5 : Cond.selects C y y ∈ TT) (h3 : Cond.initialized C ∈ TT) (h4 : Cond.code y b n r ∈ TT) : GoodIn TT (wsV own idx C y (Cond.code y b n r :: TT)) := by
  refine TT_ap (fun w hw => ?_) (TT_code h4)
  rcases List.mem_cons.mp hw with rfl | hw
  · exact h1
  rcases List.mem_cons.mp hw with rfl | hw
  · exact h2
  rcases List.mem_cons.mp hw with rfl | hw
  · exact h5
  rcases List.mem_cons.mp hw with rfl | hw
  · exact h3
  exact absurd hw List.not_mem_nil
def RT : String := "TasterPanels$Taster"
def FT : u_T := fun k => match k with
  | 0 => ("TasterPanels$Taster", "told", "[Z", true)
  | 1 => ("TasterPanels$Taster", "found", "[Z", true)
  | 2 => ("TasterPanels$Taster", "answers", "I", false)
  | _ => ("TasterPanels$Taster", "rights", "I", false)
def tyT : Nat → FieldType := fun k => match k with
  | 0 => .array .boolean
  | 1 => .array .boolean
  | 2 => .int
  | _ => .int
theorem nmT : ∀ a, a < 4 → ∀ b, b < 4 → a ≠ b → (FT a).2.1 ≠ (FT b).2.1 := by decide +kernel
theorem tyT_ok : ∀ k, k < 4 → parseFieldDescriptor (FT k).2.2.1 = some (tyT k) := by decide +kernel
def RS : String := "TasterPanels$Test"
def FS : u_T := fun k => match k with
  | 0 => ("TasterPanels$Test", "kind", "I", true)
  | 1 => ("TasterPanels$Test", "samples", "I", true)
  | 2 => ("TasterPanels$Test", "orders", "[I", true)
  | 3 => ("TasterPanels$Test", "answered", "[Z", true)
  | 4 => ("TasterPanels$Test", "ranks", "[I", true)
  | 5 => ("TasterPanels$Test", "answers", "I", false)
  | _ => ("TasterPanels$Test", "rights", "I", false)
def tyS : Nat → FieldType := fun k => match k with
  | 0 => .int
  | 1 => .int
  | 2 => .array .int
  | 3 => .array .boolean
  | 4 => .array .int
  | 5 => .int
  | _ => .int
theorem nmS : ∀ a, a < 7 → ∀ b, b < 7 → a ≠ b → (FS a).2.1 ≠ (FS b).2.1 := by decide +kernel
theorem tyS_ok : ∀ k, k < 7 → parseFieldDescriptor (FS k).2.2.1 = some (tyS k) := by decide +kernel
def RP : String := "TasterPanels"
def FP : u_T := fun k => match k with
  | 0 => ("TasterPanels", "seed", "J", true)
  | 1 => ("TasterPanels", "tasters", "[LTasterPanels$Taster;", true)
  | 2 => ("TasterPanels", "tests", "[LTasterPanels$Test;", true)
  | 3 => ("TasterPanels", "tasterCount", "I", false)
  | 4 => ("TasterPanels", "testCount", "I", false)
  | 5 => ("TasterPanels", "mixed", "[I", true)
  | _ => ("TasterPanels", "sumWays", "[J", true)
def tyP : Nat → FieldType := fun k => match k with
  | 0 => .long
  | 1 => .array (.object "TasterPanels$Taster")
  | 2 => .array (.object "TasterPanels$Test")
  | 3 => .int
  | 4 => .int
  | 5 => .array .int
  | _ => .array .long
theorem nmP : ∀ a, a < 7 → ∀ b, b < 7 → a ≠ b → (FP a).2.1 ≠ (FP b).2.1 := by decide +kernel
theorem tyP_ok : ∀ k, k < 7 → parseFieldDescriptor (FP k).2.2.1 = some (tyP k) := by decide +kernel
def RM : String := "TasterPanelsModel"
def FM : u_T := fun k => match k with
  | 0 => ("TasterPanelsModel", "seed", "J", true)
  | 1 => ("TasterPanelsModel", "tasters", "I", false)
  | 2 => ("TasterPanelsModel", "tests", "I", false)
  | 3 => ("TasterPanelsModel", "kinds", "[I", true)
  | 4 => ("TasterPanelsModel", "samples", "[I", true)
  | 5 => ("TasterPanelsModel", "answers", "[I", true)
  | 6 => ("TasterPanelsModel", "ranks", "[I", true)
  | 7 => ("TasterPanelsModel", "steps", "[I", true)
  | 8 => ("TasterPanelsModel", "mixed", "[I", true)
  | 9 => ("TasterPanelsModel", "ways", "[J", true)
  | 10 => ("TasterPanelsModel", "next", "[J", true)
  | _ => ("TasterPanelsModel", "thrown", "I", false)
def tyM : Nat → FieldType := fun k => match k with
  | 0 => .long
  | 1 => .int
  | 2 => .int
  | 3 => .array .int
  | 4 => .array .int
  | 5 => .array .int
  | 6 => .array .int
  | 7 => .array .int
  | 8 => .array .int
  | 9 => .array .long
  | 10 => .array .long
  | _ => .int
theorem nmM : ∀ a, a < 12 → ∀ b, b < 12 → a ≠ b → (FM a).2.1 ≠ (FM b).2.1 := by decide +kernel
theorem tyM_ok : ∀ k, k < 12 → parseFieldDescriptor (FM k).2.2.1 = some (tyM k) := by decide +kernel
def RL : String := "TasterPanelsLaw"
abbrev vwCl : List vw_C := [(RT, FT, 4), (RS, FS, 7), (RP, FP, 7), (RM, FM, 12)]
abbrev bP_init : ByteArray := prog_1_method_1_code
abbrev yP_init : MethodName := ⟨"TasterPanels", "<init>", "(J)V"⟩
abbrev wP_init : List Cond := Cond.code yP_init bP_init 3 none :: TT
abbrev bP_taster : ByteArray := prog_1_method_2_code
abbrev yP_taster : MethodName := ⟨"TasterPanels", "taster", "()I"⟩
abbrev wP_taster : List Cond := Cond.code yP_taster bP_taster 1 (some FieldType.int) :: TT
abbrev bT_init : ByteArray := prog_2_method_1_code
abbrev yT_init : MethodName := ⟨"TasterPanels$Taster", "<init>", "()V"⟩
abbrev wT_init : List Cond := Cond.code yT_init bT_init 1 none :: TT
abbrev bP_test : ByteArray := prog_1_method_3_code
abbrev yP_test : MethodName := ⟨"TasterPanels", "test", "(II)I"⟩
abbrev wP_test : List Cond := Cond.code yP_test bP_test 4 (some FieldType.int) :: TT
abbrev bP_isKindOf : ByteArray := prog_1_method_19_code
abbrev yP_isKindOf : MethodName := ⟨"TasterPanels", "isKindOf", "(II)Z"⟩
abbrev wP_isKindOf : List Cond := Cond.code yP_isKindOf bP_isKindOf 2 (some FieldType.boolean) :: TT
abbrev bS_init : ByteArray := prog_3_method_1_code
abbrev yS_init : MethodName := ⟨"TasterPanels$Test", "<init>", "(II)V"⟩
abbrev wS_init : List Cond := Cond.code yS_init bS_init 3 none :: TT
abbrev bP_giveOrders : ByteArray := prog_1_method_22_code
abbrev yP_giveOrders : MethodName := ⟨"TasterPanels", "giveOrders", "(LTasterPanels$Test;I)V"⟩
abbrev wP_giveOrders : List Cond := Cond.code yP_giveOrders bP_giveOrders 7 none :: TT
abbrev bP_orderCount : ByteArray := prog_1_method_21_code
abbrev yP_orderCount : MethodName := ⟨"TasterPanels", "orderCount", "(LTasterPanels$Test;)I"⟩
abbrev wP_orderCount : List Cond := Cond.code yP_orderCount bP_orderCount 1 (some FieldType.int) :: TT
abbrev bP_mixOrders : ByteArray := prog_1_method_23_code
abbrev yP_mixOrders : MethodName := ⟨"TasterPanels", "mixOrders", "(III)V"⟩
abbrev wP_mixOrders : List Cond := Cond.code yP_mixOrders bP_mixOrders 9 none :: TT
abbrev bP_order : ByteArray := prog_1_method_4_code
abbrev yP_order : MethodName := ⟨"TasterPanels", "order", "(III)I"⟩
abbrev wP_order : List Cond := Cond.code yP_order bP_order 5 (some FieldType.int) :: TT
abbrev bP_testAt : ByteArray := prog_1_method_16_code
abbrev yP_testAt : MethodName := ⟨"TasterPanels", "testAt", "(I)LTasterPanels$Test;"⟩
abbrev wP_testAt : List Cond := Cond.code yP_testAt bP_testAt 2 (some (FieldType.object "TasterPanels$Test")) :: TT
abbrev bP_tasterAt : ByteArray := prog_1_method_15_code
abbrev yP_tasterAt : MethodName := ⟨"TasterPanels", "tasterAt", "(I)LTasterPanels$Taster;"⟩
abbrev wP_tasterAt : List Cond := Cond.code yP_tasterAt bP_tasterAt 2 (some (FieldType.object "TasterPanels$Taster")) :: TT
abbrev bP_servings : ByteArray := prog_1_method_24_code
abbrev yP_servings : MethodName := ⟨"TasterPanels", "servings", "(LTasterPanels$Test;)I"⟩
abbrev wP_servings : List Cond := Cond.code yP_servings bP_servings 1 (some FieldType.int) :: TT
abbrev bP_served : ByteArray := prog_1_method_25_code
abbrev yP_served : MethodName := ⟨"TasterPanels", "served", "(LTasterPanels$Test;II)I"⟩
abbrev wP_served : List Cond := Cond.code yP_served bP_served 3 (some FieldType.int) :: TT
abbrev bP_sampleInRow : ByteArray := prog_1_method_26_code
abbrev yP_sampleInRow : MethodName := ⟨"TasterPanels", "sampleInRow", "(III)I"⟩
abbrev wP_sampleInRow : List Cond := Cond.code yP_sampleInRow bP_sampleInRow 8 (some FieldType.int) :: TT
abbrev bP_unusedSample : ByteArray := prog_1_method_27_code
abbrev yP_unusedSample : MethodName := ⟨"TasterPanels", "unusedSample", "(II)I"⟩
abbrev wP_unusedSample : List Cond := Cond.code yP_unusedSample bP_unusedSample 4 (some FieldType.int) :: TT
abbrev bP_answer : ByteArray := prog_1_method_5_code
abbrev yP_answer : MethodName := ⟨"TasterPanels", "answer", "(III)Z"⟩
abbrev wP_answer : List Cond := Cond.code yP_answer bP_answer 6 (some FieldType.boolean) :: TT
abbrev bP_differenceAt : ByteArray := prog_1_method_17_code
abbrev yP_differenceAt : MethodName := ⟨"TasterPanels", "differenceAt", "(I)LTasterPanels$Test;"⟩
abbrev wP_differenceAt : List Cond := Cond.code yP_differenceAt bP_differenceAt 3 (some (FieldType.object "TasterPanels$Test")) :: TT
abbrev bP_rightPlace : ByteArray := prog_1_method_28_code
abbrev yP_rightPlace : MethodName := ⟨"TasterPanels", "rightPlace", "(II)I"⟩
abbrev wP_rightPlace : List Cond := Cond.code yP_rightPlace bP_rightPlace 2 (some FieldType.int) :: TT
abbrev bP_chance : ByteArray := prog_1_method_6_code
abbrev yP_chance : MethodName := ⟨"TasterPanels", "chance", "(II)J"⟩
abbrev wP_chance : List Cond := Cond.code yP_chance bP_chance 6 (some FieldType.long) :: TT
abbrev bP_isPart : ByteArray := prog_1_method_20_code
abbrev yP_isPart : MethodName := ⟨"TasterPanels", "isPart", "(I)Z"⟩
abbrev wP_isPart : List Cond := Cond.code yP_isPart bP_isPart 1 (some FieldType.boolean) :: TT
abbrev bP_waysOfAtLeast : ByteArray := prog_1_method_32_code
abbrev yP_waysOfAtLeast : MethodName := ⟨"TasterPanels", "waysOfAtLeast", "(III)J"⟩
abbrev wP_waysOfAtLeast : List Cond := Cond.code yP_waysOfAtLeast bP_waysOfAtLeast 8 (some FieldType.long) :: TT
abbrev bP_power : ByteArray := prog_1_method_36_code
abbrev yP_power : MethodName := ⟨"TasterPanels", "power", "(II)J"⟩
abbrev wP_power : List Cond := Cond.code yP_power bP_power 5 (some FieldType.long) :: TT
abbrev bP_reducedPart : ByteArray := prog_1_method_37_code
abbrev yP_reducedPart : MethodName := ⟨"TasterPanels", "reducedPart", "(JJI)J"⟩
abbrev wP_reducedPart : List Cond := Cond.code yP_reducedPart bP_reducedPart 7 (some FieldType.long) :: TT
abbrev bP_commonDivisor : ByteArray := prog_1_method_38_code
abbrev yP_commonDivisor : MethodName := ⟨"TasterPanels", "commonDivisor", "(JJ)J"⟩
abbrev wP_commonDivisor : List Cond := Cond.code yP_commonDivisor bP_commonDivisor 11 (some FieldType.long) :: TT
abbrev bP_right : ByteArray := prog_1_method_7_code
abbrev yP_right : MethodName := ⟨"TasterPanels", "right", "(I)I"⟩
abbrev wP_right : List Cond := Cond.code yP_right bP_right 3 (some FieldType.int) :: TT
abbrev bP_rank : ByteArray := prog_1_method_8_code
abbrev yP_rank : MethodName := ⟨"TasterPanels", "rank", "(IIII)Z"⟩
abbrev wP_rank : List Cond := Cond.code yP_rank bP_rank 6 (some FieldType.boolean) :: TT
abbrev bP_rankingAt : ByteArray := prog_1_method_18_code
abbrev yP_rankingAt : MethodName := ⟨"TasterPanels", "rankingAt", "(I)LTasterPanels$Test;"⟩
abbrev wP_rankingAt : List Cond := Cond.code yP_rankingAt bP_rankingAt 3 (some (FieldType.object "TasterPanels$Test")) :: TT
abbrev bP_rankOf : ByteArray := prog_1_method_29_code
abbrev yP_rankOf : MethodName := ⟨"TasterPanels", "rankOf", "(LTasterPanels$Test;II)I"⟩
abbrev wP_rankOf : List Cond := Cond.code yP_rankOf bP_rankOf 3 (some FieldType.int) :: TT
abbrev bP_hasGiven : ByteArray := prog_1_method_30_code
abbrev yP_hasGiven : MethodName := ⟨"TasterPanels", "hasGiven", "(LTasterPanels$Test;II)Z"⟩
abbrev wP_hasGiven : List Cond := Cond.code yP_hasGiven bP_hasGiven 4 (some FieldType.boolean) :: TT
abbrev bP_permuted : ByteArray := prog_1_method_9_code
abbrev yP_permuted : MethodName := ⟨"TasterPanels", "permuted", "(II)J"⟩
abbrev wP_permuted : List Cond := Cond.code yP_permuted bP_permuted 8 (some FieldType.long) :: TT
abbrev bP_hasRankedAll : ByteArray := prog_1_method_31_code
abbrev yP_hasRankedAll : MethodName := ⟨"TasterPanels", "hasRankedAll", "(LTasterPanels$Test;I)Z"⟩
abbrev wP_hasRankedAll : List Cond := Cond.code yP_hasRankedAll bP_hasRankedAll 3 (some FieldType.boolean) :: TT
abbrev bP_waysAsFarAs : ByteArray := prog_1_method_33_code
abbrev yP_waysAsFarAs : MethodName := ⟨"TasterPanels", "waysAsFarAs", "(III)J"⟩
abbrev wP_waysAsFarAs : List Cond := Cond.code yP_waysAsFarAs bP_waysAsFarAs 9 (some FieldType.long) :: TT
abbrev bP_countSums : ByteArray := prog_1_method_34_code
abbrev yP_countSums : MethodName := ⟨"TasterPanels", "countSums", "(II)V"⟩
abbrev wP_countSums : List Cond := Cond.code yP_countSums bP_countSums 8 none :: TT
abbrev bP_threshold : ByteArray := prog_1_method_10_code
abbrev yP_threshold : MethodName := ⟨"TasterPanels", "threshold", "(I)D"⟩
abbrev wP_threshold : List Cond := Cond.code yP_threshold bP_threshold 5 (some FieldType.double) :: TT
abbrev bP_strength : ByteArray := prog_1_method_35_code
abbrev yP_strength : MethodName := ⟨"TasterPanels", "strength", "(I)D"⟩
abbrev wP_strength : List Cond := Cond.code yP_strength bP_strength 1 (some FieldType.double) :: TT
abbrev bP_level : ByteArray := prog_1_method_11_code
abbrev yP_level : MethodName := ⟨"TasterPanels", "level", "(IIZ)Z"⟩
abbrev wP_level : List Cond := Cond.code yP_level bP_level 5 (some FieldType.boolean) :: TT
abbrev bP_out : ByteArray := prog_1_method_12_code
abbrev yP_out : MethodName := ⟨"TasterPanels", "out", "(I)Z"⟩
abbrev wP_out : List Cond := Cond.code yP_out bP_out 3 (some FieldType.boolean) :: TT
abbrev bP_size : ByteArray := prog_1_method_13_code
abbrev yP_size : MethodName := ⟨"TasterPanels", "size", "(IJJ)I"⟩
abbrev wP_size : List Cond := Cond.code yP_size bP_size 10 (some FieldType.int) :: TT
abbrev bL_cell : ByteArray := method_2_code
abbrev yL_cell : MethodName := ⟨"TasterPanelsLaw", "cell", "([II)I"⟩
abbrev wL_cell : List Cond := Cond.code yL_cell bL_cell 2 (some FieldType.int) :: TT
abbrev bL_row : ByteArray := method_3_code
abbrev yL_row : MethodName := ⟨"TasterPanelsLaw", "row", "(LTasterPanels;I[J)I"⟩
abbrev bP_row : ByteArray := prog_1_method_14_code
abbrev yP_row : MethodName := ⟨"TasterPanels", "row", "(I)I"⟩
abbrev wP_row : List Cond := Cond.code yP_row bP_row 5 (some FieldType.int) :: TT
abbrev bM_init : ByteArray := prog_5_method_1_code
abbrev yM_init : MethodName := ⟨"TasterPanelsModel", "<init>", "(J)V"⟩
abbrev wM_init : List Cond := Cond.code yM_init bM_init 3 none :: TT
abbrev bM_thrown : ByteArray := prog_5_method_2_code
abbrev yM_thrown : MethodName := ⟨"TasterPanelsModel", "thrown", "()I"⟩
abbrev wM_thrown : List Cond := Cond.code yM_thrown bM_thrown 1 (some FieldType.int) :: TT
abbrev bM_taster : ByteArray := prog_5_method_3_code
abbrev yM_taster : MethodName := ⟨"TasterPanelsModel", "taster", "()I"⟩
abbrev wM_taster : List Cond := Cond.code yM_taster bM_taster 1 (some FieldType.int) :: TT
abbrev bM_test : ByteArray := prog_5_method_4_code
abbrev yM_test : MethodName := ⟨"TasterPanelsModel", "test", "(II)I"⟩
abbrev wM_test : List Cond := Cond.code yM_test bM_test 4 (some FieldType.int) :: TT
abbrev bM_order : ByteArray := prog_5_method_12_code
abbrev yM_order : MethodName := ⟨"TasterPanelsModel", "order", "(III)I"⟩
abbrev wM_order : List Cond := Cond.code yM_order bM_order 5 (some FieldType.int) :: TT
abbrev bM_isTest : ByteArray := prog_5_method_5_code
abbrev yM_isTest : MethodName := ⟨"TasterPanelsModel", "isTest", "(I)Z"⟩
abbrev wM_isTest : List Cond := Cond.code yM_isTest bM_isTest 2 (some FieldType.boolean) :: TT
abbrev bM_isTaster : ByteArray := prog_5_method_6_code
abbrev yM_isTaster : MethodName := ⟨"TasterPanelsModel", "isTaster", "(I)Z"⟩
abbrev wM_isTaster : List Cond := Cond.code yM_isTaster bM_isTaster 2 (some FieldType.boolean) :: TT
abbrev bM_served : ByteArray := prog_5_method_10_code
abbrev yM_served : MethodName := ⟨"TasterPanelsModel", "served", "(I)I"⟩
abbrev wM_served : List Cond := Cond.code yM_served bM_served 2 (some FieldType.int) :: TT
abbrev bM_orderOf : ByteArray := prog_5_method_8_code
abbrev yM_orderOf : MethodName := ⟨"TasterPanelsModel", "orderOf", "(II)I"⟩
abbrev wM_orderOf : List Cond := Cond.code yM_orderOf bM_orderOf 10 (some FieldType.int) :: TT
abbrev bM_orders : ByteArray := prog_5_method_7_code
abbrev yM_orders : MethodName := ⟨"TasterPanelsModel", "orders", "(I)I"⟩
abbrev wM_orders : List Cond := Cond.code yM_orders bM_orders 4 (some FieldType.int) :: TT
abbrev bM_item : ByteArray := prog_5_method_9_code
abbrev yM_item : MethodName := ⟨"TasterPanelsModel", "item", "(III)I"⟩
abbrev wM_item : List Cond := Cond.code yM_item bM_item 9 (some FieldType.int) :: TT
abbrev bM_first : ByteArray := prog_5_method_11_code
abbrev yM_first : MethodName := ⟨"TasterPanelsModel", "first", "(I)I"⟩
abbrev wM_first : List Cond := Cond.code yM_first bM_first 2 (some FieldType.int) :: TT
abbrev bM_answer : ByteArray := prog_5_method_13_code
abbrev yM_answer : MethodName := ⟨"TasterPanelsModel", "answer", "(III)Z"⟩
abbrev wM_answer : List Cond := Cond.code yM_answer bM_answer 4 (some FieldType.boolean) :: TT
abbrev bM_right : ByteArray := prog_5_method_17_code
abbrev yM_right : MethodName := ⟨"TasterPanelsModel", "right", "(I)I"⟩
abbrev wM_right : List Cond := Cond.code yM_right bM_right 2 (some FieldType.int) :: TT
abbrev bM_rightOnes : ByteArray := prog_5_method_16_code
abbrev yM_rightOnes : MethodName := ⟨"TasterPanelsModel", "rightOnes", "(I)I"⟩
abbrev wM_rightOnes : List Cond := Cond.code yM_rightOnes bM_rightOnes 4 (some FieldType.int) :: TT
abbrev bM_isRight : ByteArray := prog_5_method_14_code
abbrev yM_isRight : MethodName := ⟨"TasterPanelsModel", "isRight", "(II)Z"⟩
abbrev wM_isRight : List Cond := Cond.code yM_isRight bM_isRight 3 (some FieldType.boolean) :: TT
abbrev bM_chance : ByteArray := prog_5_method_21_code
abbrev yM_chance : MethodName := ⟨"TasterPanelsModel", "chance", "(II)J"⟩
abbrev wM_chance : List Cond := Cond.code yM_chance bM_chance 5 (some FieldType.long) :: TT
abbrev bM_answered : ByteArray := prog_5_method_15_code
abbrev yM_answered : MethodName := ⟨"TasterPanelsModel", "answered", "(I)I"⟩
abbrev wM_answered : List Cond := Cond.code yM_answered bM_answered 4 (some FieldType.int) :: TT
abbrev bM_atLeast : ByteArray := prog_5_method_20_code
abbrev yM_atLeast : MethodName := ⟨"TasterPanelsModel", "atLeast", "(III)J"⟩
abbrev wM_atLeast : List Cond := Cond.code yM_atLeast bM_atLeast 7 (some FieldType.long) :: TT
abbrev bM_power : ByteArray := prog_5_method_19_code
abbrev yM_power : MethodName := ⟨"TasterPanelsModel", "power", "(JI)J"⟩
abbrev wM_power : List Cond := Cond.code yM_power bM_power 6 (some FieldType.long) :: TT
abbrev bM_reduced : ByteArray := prog_5_method_18_code
abbrev yM_reduced : MethodName := ⟨"TasterPanelsModel", "reduced", "(JJI)J"⟩
abbrev wM_reduced : List Cond := Cond.code yM_reduced bM_reduced 11 (some FieldType.long) :: TT
abbrev bM_rank : ByteArray := prog_5_method_22_code
abbrev yM_rank : MethodName := ⟨"TasterPanelsModel", "rank", "(IIII)Z"⟩
abbrev wM_rank : List Cond := Cond.code yM_rank bM_rank 8 (some FieldType.boolean) :: TT
abbrev bM_permuted : ByteArray := prog_5_method_23_code
abbrev yM_permuted : MethodName := ⟨"TasterPanelsModel", "permuted", "(II)J"⟩
abbrev wM_permuted : List Cond := Cond.code yM_permuted bM_permuted 10 (some FieldType.long) :: TT
abbrev bM_threshold : ByteArray := prog_5_method_25_code
abbrev yM_threshold : MethodName := ⟨"TasterPanelsModel", "threshold", "(I)D"⟩
abbrev wM_threshold : List Cond := Cond.code yM_threshold bM_threshold 7 (some FieldType.double) :: TT
abbrev bM_strength : ByteArray := prog_5_method_24_code
abbrev yM_strength : MethodName := ⟨"TasterPanelsModel", "strength", "(I)D"⟩
abbrev wM_strength : List Cond := Cond.code yM_strength bM_strength 1 (some FieldType.double) :: TT
abbrev bM_level : ByteArray := prog_5_method_26_code
abbrev yM_level : MethodName := ⟨"TasterPanelsModel", "level", "(IIZ)Z"⟩
abbrev wM_level : List Cond := Cond.code yM_level bM_level 4 (some FieldType.boolean) :: TT
abbrev bM_out : ByteArray := prog_5_method_27_code
abbrev yM_out : MethodName := ⟨"TasterPanelsModel", "out", "(I)Z"⟩
abbrev wM_out : List Cond := Cond.code yM_out bM_out 6 (some FieldType.boolean) :: TT
abbrev bM_size : ByteArray := prog_5_method_28_code
abbrev yM_size : MethodName := ⟨"TasterPanelsModel", "size", "(IJJ)I"⟩
abbrev wM_size : List Cond := Cond.code yM_size bM_size 9 (some FieldType.int) :: TT
abbrev bM_row : ByteArray := prog_5_method_29_code
abbrev yM_row : MethodName := ⟨"TasterPanelsModel", "row", "(I)I"⟩
abbrev wM_row : List Cond := Cond.code yM_row bM_row 3 (some FieldType.int) :: TT
theorem knL : (Cond.initialized "TasterPanelsLaw") ∈ TT := inTT 19 (by decide +kernel) (by decide +kernel)
theorem knP : (Cond.initialized "TasterPanels") ∈ TT := inTT 20 (by decide +kernel) (by decide +kernel)
theorem knM : (Cond.initialized "TasterPanelsModel") ∈ TT := inTT 21 (by decide +kernel) (by decide +kernel)
theorem knT : (Cond.initialized "TasterPanels$Taster") ∈ TT := inTT 22 (by decide +kernel) (by decide +kernel)
theorem knS : (Cond.initialized "TasterPanels$Test") ∈ TT := inTT 23 (by decide +kernel) (by decide +kernel)
theorem kn_math : (Cond.initialized "java/lang/Math") ∈ TT := inTT 24 (by decide +kernel) (by decide +kernel)
theorem kL8 : (Cond.classLink "TasterPanelsLaw" (8 : Nat) "TasterPanels") ∈ TT := inTT 30 (by decide +kernel) (by decide +kernel)
theorem kxP : (Cond.instantiable "TasterPanels" (7 : Nat)) ∈ TT := inTT 31 (by decide +kernel) (by decide +kernel)
theorem kL21 : (Cond.methodLink "TasterPanelsLaw" (21 : Nat) ({ cls := "TasterPanels", name := "<init>", desc := "(J)V" } : MethodName)) ∈ TT := inTT 32 (by decide +kernel) (by decide +kernel)
theorem kiP_init : (Cond.instanceMethod ({ cls := "TasterPanels", name := "<init>", desc := "(J)V" } : MethodName)) ∈ TT := inTT 33 (by decide +kernel) (by decide +kernel)
theorem kcP_init : (Cond.code ({ cls := "TasterPanels", name := "<init>", desc := "(J)V" } : MethodName) prog_1_method_1_code (3 : Nat) (Option.none : Option FieldType)) ∈ TT := inTT 34 (by decide +kernel) (by decide +kernel)
theorem kP1 : (Cond.methodLink "TasterPanels" (1 : Nat) ({ cls := "java/lang/Object", name := "<init>", desc := "()V" } : MethodName)) ∈ TT := inTT 35 (by decide +kernel) (by decide +kernel)
theorem ki_obj : (Cond.instanceMethod ({ cls := "java/lang/Object", name := "<init>", desc := "()V" } : MethodName)) ∈ TT := inTT 36 (by decide +kernel) (by decide +kernel)
theorem kc_obj : (Cond.code ({ cls := "java/lang/Object", name := "<init>", desc := "()V" } : MethodName) object_method_1_code (1 : Nat) (Option.none : Option FieldType)) ∈ TT := inTT 37 (by decide +kernel) (by decide +kernel)
theorem kP9 : (Cond.classLink "TasterPanels" (9 : Nat) "TasterPanels$Taster") ∈ TT := inTT 38 (by decide +kernel) (by decide +kernel)
theorem kP15 : (Cond.classLink "TasterPanels" (15 : Nat) "TasterPanels$Test") ∈ TT := inTT 40 (by decide +kernel) (by decide +kernel)
theorem kP29 : (Cond.fieldLink "TasterPanels" (29 : Nat) "TasterPanels" "seed" "J") ∈ TT := inTT 42 (by decide +kernel) (by decide +kernel)
theorem kP11 : (Cond.fieldLink "TasterPanels" (11 : Nat) "TasterPanels" "tasters" "[LTasterPanels$Taster;") ∈ TT := inTT 43 (by decide +kernel) (by decide +kernel)
theorem kP17 : (Cond.fieldLink "TasterPanels" (17 : Nat) "TasterPanels" "tests" "[LTasterPanels$Test;") ∈ TT := inTT 44 (by decide +kernel) (by decide +kernel)
theorem kP33 : (Cond.fieldLink "TasterPanels" (33 : Nat) "TasterPanels" "tasterCount" "I") ∈ TT := inTT 45 (by decide +kernel) (by decide +kernel)
theorem kP42 : (Cond.fieldLink "TasterPanels" (42 : Nat) "TasterPanels" "testCount" "I") ∈ TT := inTT 46 (by decide +kernel) (by decide +kernel)
theorem kP21 : (Cond.fieldLink "TasterPanels" (21 : Nat) "TasterPanels" "mixed" "[I") ∈ TT := inTT 47 (by decide +kernel) (by decide +kernel)
theorem kP25 : (Cond.fieldLink "TasterPanels" (25 : Nat) "TasterPanels" "sumWays" "[J") ∈ TT := inTT 48 (by decide +kernel) (by decide +kernel)
theorem ka_int : (Cond.arrayClass FieldType.int) ∈ TT := inTT 64 (by decide +kernel) (by decide +kernel)
theorem ka_long : (Cond.arrayClass FieldType.long) ∈ TT := inTT 65 (by decide +kernel) (by decide +kernel)
theorem kL27 : (Cond.methodLink "TasterPanelsLaw" (27 : Nat) ({ cls := "TasterPanels", name := "taster", desc := "()I" } : MethodName)) ∈ TT := inTT 66 (by decide +kernel) (by decide +kernel)
theorem kiP_taster : (Cond.instanceMethod ({ cls := "TasterPanels", name := "taster", desc := "()I" } : MethodName)) ∈ TT := inTT 67 (by decide +kernel) (by decide +kernel)
theorem ksP_taster : (Cond.selects "TasterPanels" ({ cls := "TasterPanels", name := "taster", desc := "()I" } : MethodName) ({ cls := "TasterPanels", name := "taster", desc := "()I" } : MethodName)) ∈ TT := inTT 68 (by decide +kernel) (by decide +kernel)
theorem kcP_taster : (Cond.code ({ cls := "TasterPanels", name := "taster", desc := "()I" } : MethodName) prog_1_method_2_code (1 : Nat) (Option.some FieldType.int)) ∈ TT := inTT 69 (by decide +kernel) (by decide +kernel)
theorem kxT : (Cond.instantiable "TasterPanels$Taster" (4 : Nat)) ∈ TT := inTT 70 (by decide +kernel) (by decide +kernel)
theorem kiT_init : (Cond.instanceMethod ({ cls := "TasterPanels$Taster", name := "<init>", desc := "()V" } : MethodName)) ∈ TT := inTT 72 (by decide +kernel) (by decide +kernel)
theorem kcT_init : (Cond.code ({ cls := "TasterPanels$Taster", name := "<init>", desc := "()V" } : MethodName) prog_2_method_1_code (1 : Nat) (Option.none : Option FieldType)) ∈ TT := inTT 73 (by decide +kernel) (by decide +kernel)
theorem kT3 : (Cond.methodLink "TasterPanels$Taster" (3 : Nat) ({ cls := "java/lang/Object", name := "<init>", desc := "()V" } : MethodName)) ∈ TT := inTT 74 (by decide +kernel) (by decide +kernel)
theorem kT9 : (Cond.fieldLink "TasterPanels$Taster" (9 : Nat) "TasterPanels$Taster" "told" "[Z") ∈ TT := inTT 75 (by decide +kernel) (by decide +kernel)
theorem kT15 : (Cond.fieldLink "TasterPanels$Taster" (15 : Nat) "TasterPanels$Taster" "found" "[Z") ∈ TT := inTT 77 (by decide +kernel) (by decide +kernel)
theorem ka_boolean : (Cond.arrayClass FieldType.boolean) ∈ TT := inTT 90 (by decide +kernel) (by decide +kernel)
theorem kL32 : (Cond.methodLink "TasterPanelsLaw" (32 : Nat) ({ cls := "TasterPanels", name := "test", desc := "(II)I" } : MethodName)) ∈ TT := inTT 91 (by decide +kernel) (by decide +kernel)
theorem kiP_test : (Cond.instanceMethod ({ cls := "TasterPanels", name := "test", desc := "(II)I" } : MethodName)) ∈ TT := inTT 92 (by decide +kernel) (by decide +kernel)
theorem ksP_test : (Cond.selects "TasterPanels" ({ cls := "TasterPanels", name := "test", desc := "(II)I" } : MethodName) ({ cls := "TasterPanels", name := "test", desc := "(II)I" } : MethodName)) ∈ TT := inTT 93 (by decide +kernel) (by decide +kernel)
theorem kcP_test : (Cond.code ({ cls := "TasterPanels", name := "test", desc := "(II)I" } : MethodName) prog_1_method_3_code (4 : Nat) (Option.some FieldType.int)) ∈ TT := inTT 94 (by decide +kernel) (by decide +kernel)
theorem kP38 : (Cond.methodLink "TasterPanels" (38 : Nat) ({ cls := "TasterPanels", name := "isKindOf", desc := "(II)Z" } : MethodName)) ∈ TT := inTT 95 (by decide +kernel) (by decide +kernel)
theorem ktP_isKindOf : (Cond.static ({ cls := "TasterPanels", name := "isKindOf", desc := "(II)Z" } : MethodName)) ∈ TT := inTT 96 (by decide +kernel) (by decide +kernel)
theorem kcP_isKindOf : (Cond.code ({ cls := "TasterPanels", name := "isKindOf", desc := "(II)Z" } : MethodName) prog_1_method_19_code (2 : Nat) (Option.some FieldType.boolean)) ∈ TT := inTT 97 (by decide +kernel) (by decide +kernel)
theorem kxS : (Cond.instantiable "TasterPanels$Test" (7 : Nat)) ∈ TT := inTT 98 (by decide +kernel) (by decide +kernel)
theorem kiS_init : (Cond.instanceMethod ({ cls := "TasterPanels$Test", name := "<init>", desc := "(II)V" } : MethodName)) ∈ TT := inTT 100 (by decide +kernel) (by decide +kernel)
theorem kcS_init : (Cond.code ({ cls := "TasterPanels$Test", name := "<init>", desc := "(II)V" } : MethodName) prog_3_method_1_code (3 : Nat) (Option.none : Option FieldType)) ∈ TT := inTT 101 (by decide +kernel) (by decide +kernel)
theorem kS3 : (Cond.methodLink "TasterPanels$Test" (3 : Nat) ({ cls := "java/lang/Object", name := "<init>", desc := "()V" } : MethodName)) ∈ TT := inTT 102 (by decide +kernel) (by decide +kernel)
theorem kS22 : (Cond.fieldLink "TasterPanels$Test" (22 : Nat) "TasterPanels$Test" "kind" "I") ∈ TT := inTT 103 (by decide +kernel) (by decide +kernel)
theorem kS26 : (Cond.fieldLink "TasterPanels$Test" (26 : Nat) "TasterPanels$Test" "samples" "I") ∈ TT := inTT 105 (by decide +kernel) (by decide +kernel)
theorem kS9 : (Cond.fieldLink "TasterPanels$Test" (9 : Nat) "TasterPanels$Test" "orders" "[I") ∈ TT := inTT 107 (by decide +kernel) (by decide +kernel)
theorem kS15 : (Cond.fieldLink "TasterPanels$Test" (15 : Nat) "TasterPanels$Test" "answered" "[Z") ∈ TT := inTT 109 (by decide +kernel) (by decide +kernel)
theorem kS19 : (Cond.fieldLink "TasterPanels$Test" (19 : Nat) "TasterPanels$Test" "ranks" "[I") ∈ TT := inTT 111 (by decide +kernel) (by decide +kernel)
theorem kP48 : (Cond.methodLink "TasterPanels" (48 : Nat) ({ cls := "TasterPanels", name := "giveOrders", desc := "(LTasterPanels$Test;I)V" } : MethodName)) ∈ TT := inTT 130 (by decide +kernel) (by decide +kernel)
theorem kiP_giveOrders : (Cond.instanceMethod ({ cls := "TasterPanels", name := "giveOrders", desc := "(LTasterPanels$Test;I)V" } : MethodName)) ∈ TT := inTT 132 (by decide +kernel) (by decide +kernel)
theorem kcP_giveOrders : (Cond.code ({ cls := "TasterPanels", name := "giveOrders", desc := "(LTasterPanels$Test;I)V" } : MethodName) prog_1_method_22_code (7 : Nat) (Option.none : Option FieldType)) ∈ TT := inTT 133 (by decide +kernel) (by decide +kernel)
theorem kP160 : (Cond.methodLink "TasterPanels" (160 : Nat) ({ cls := "TasterPanels", name := "orderCount", desc := "(LTasterPanels$Test;)I" } : MethodName)) ∈ TT := inTT 134 (by decide +kernel) (by decide +kernel)
theorem ktP_orderCount : (Cond.static ({ cls := "TasterPanels", name := "orderCount", desc := "(LTasterPanels$Test;)I" } : MethodName)) ∈ TT := inTT 135 (by decide +kernel) (by decide +kernel)
theorem kcP_orderCount : (Cond.code ({ cls := "TasterPanels", name := "orderCount", desc := "(LTasterPanels$Test;)I" } : MethodName) prog_1_method_21_code (1 : Nat) (Option.some FieldType.int)) ∈ TT := inTT 136 (by decide +kernel) (by decide +kernel)
theorem kP157 : (Cond.fieldLink "TasterPanels" (157 : Nat) "TasterPanels" "FACTORIALS" "[I") ∈ TT := inTT 137 (by decide +kernel) (by decide +kernel)
theorem kP163 : (Cond.methodLink "TasterPanels" (163 : Nat) ({ cls := "TasterPanels", name := "mixOrders", desc := "(III)V" } : MethodName)) ∈ TT := inTT 139 (by decide +kernel) (by decide +kernel)
theorem kiP_mixOrders : (Cond.instanceMethod ({ cls := "TasterPanels", name := "mixOrders", desc := "(III)V" } : MethodName)) ∈ TT := inTT 141 (by decide +kernel) (by decide +kernel)
theorem kcP_mixOrders : (Cond.code ({ cls := "TasterPanels", name := "mixOrders", desc := "(III)V" } : MethodName) prog_1_method_23_code (9 : Nat) (Option.none : Option FieldType)) ∈ TT := inTT 142 (by decide +kernel) (by decide +kernel)
theorem kP167 : (Cond.constantLong "TasterPanels" (167 : Nat) (1000003 : Int64)) ∈ TT := inTT 143 (by decide +kernel) (by decide +kernel)
theorem kP169 : (Cond.constantLong "TasterPanels" (169 : Nat) (7919 : Int64)) ∈ TT := inTT 144 (by decide +kernel) (by decide +kernel)
theorem kP171 : (Cond.constantLong "TasterPanels" (171 : Nat) (6364136223846793005 : Int64)) ∈ TT := inTT 145 (by decide +kernel) (by decide +kernel)
theorem kP173 : (Cond.constantLong "TasterPanels" (173 : Nat) (1442695040888963407 : Int64)) ∈ TT := inTT 146 (by decide +kernel) (by decide +kernel)
theorem kL37 : (Cond.methodLink "TasterPanelsLaw" (37 : Nat) ({ cls := "TasterPanels", name := "order", desc := "(III)I" } : MethodName)) ∈ TT := inTT 147 (by decide +kernel) (by decide +kernel)
theorem kiP_order : (Cond.instanceMethod ({ cls := "TasterPanels", name := "order", desc := "(III)I" } : MethodName)) ∈ TT := inTT 148 (by decide +kernel) (by decide +kernel)
theorem ksP_order : (Cond.selects "TasterPanels" ({ cls := "TasterPanels", name := "order", desc := "(III)I" } : MethodName) ({ cls := "TasterPanels", name := "order", desc := "(III)I" } : MethodName)) ∈ TT := inTT 149 (by decide +kernel) (by decide +kernel)
theorem kcP_order : (Cond.code ({ cls := "TasterPanels", name := "order", desc := "(III)I" } : MethodName) prog_1_method_4_code (5 : Nat) (Option.some FieldType.int)) ∈ TT := inTT 150 (by decide +kernel) (by decide +kernel)
theorem kP52 : (Cond.methodLink "TasterPanels" (52 : Nat) ({ cls := "TasterPanels", name := "testAt", desc := "(I)LTasterPanels$Test;" } : MethodName)) ∈ TT := inTT 151 (by decide +kernel) (by decide +kernel)
theorem kiP_testAt : (Cond.instanceMethod ({ cls := "TasterPanels", name := "testAt", desc := "(I)LTasterPanels$Test;" } : MethodName)) ∈ TT := inTT 153 (by decide +kernel) (by decide +kernel)
theorem kcP_testAt : (Cond.code ({ cls := "TasterPanels", name := "testAt", desc := "(I)LTasterPanels$Test;" } : MethodName) prog_1_method_16_code (2 : Nat) (Option.some (FieldType.object "TasterPanels$Test"))) ∈ TT := inTT 154 (by decide +kernel) (by decide +kernel)
theorem kP56 : (Cond.methodLink "TasterPanels" (56 : Nat) ({ cls := "TasterPanels", name := "tasterAt", desc := "(I)LTasterPanels$Taster;" } : MethodName)) ∈ TT := inTT 155 (by decide +kernel) (by decide +kernel)
theorem kiP_tasterAt : (Cond.instanceMethod ({ cls := "TasterPanels", name := "tasterAt", desc := "(I)LTasterPanels$Taster;" } : MethodName)) ∈ TT := inTT 157 (by decide +kernel) (by decide +kernel)
theorem kcP_tasterAt : (Cond.code ({ cls := "TasterPanels", name := "tasterAt", desc := "(I)LTasterPanels$Taster;" } : MethodName) prog_1_method_15_code (2 : Nat) (Option.some (FieldType.object "TasterPanels$Taster"))) ∈ TT := inTT 158 (by decide +kernel) (by decide +kernel)
theorem kP60 : (Cond.methodLink "TasterPanels" (60 : Nat) ({ cls := "TasterPanels", name := "servings", desc := "(LTasterPanels$Test;)I" } : MethodName)) ∈ TT := inTT 159 (by decide +kernel) (by decide +kernel)
theorem ktP_servings : (Cond.static ({ cls := "TasterPanels", name := "servings", desc := "(LTasterPanels$Test;)I" } : MethodName)) ∈ TT := inTT 160 (by decide +kernel) (by decide +kernel)
theorem kcP_servings : (Cond.code ({ cls := "TasterPanels", name := "servings", desc := "(LTasterPanels$Test;)I" } : MethodName) prog_1_method_24_code (1 : Nat) (Option.some FieldType.int)) ∈ TT := inTT 161 (by decide +kernel) (by decide +kernel)
theorem kP67 : (Cond.methodLink "TasterPanels" (67 : Nat) ({ cls := "TasterPanels", name := "served", desc := "(LTasterPanels$Test;II)I" } : MethodName)) ∈ TT := inTT 162 (by decide +kernel) (by decide +kernel)
theorem ktP_served : (Cond.static ({ cls := "TasterPanels", name := "served", desc := "(LTasterPanels$Test;II)I" } : MethodName)) ∈ TT := inTT 163 (by decide +kernel) (by decide +kernel)
theorem kcP_served : (Cond.code ({ cls := "TasterPanels", name := "served", desc := "(LTasterPanels$Test;II)I" } : MethodName) prog_1_method_25_code (3 : Nat) (Option.some FieldType.int)) ∈ TT := inTT 164 (by decide +kernel) (by decide +kernel)
theorem kP175 : (Cond.fieldLink "TasterPanels" (175 : Nat) "TasterPanels" "TRIANGLE_SERVED" "[I") ∈ TT := inTT 165 (by decide +kernel) (by decide +kernel)
theorem kP178 : (Cond.fieldLink "TasterPanels" (178 : Nat) "TasterPanels" "PAIR_SERVED" "[I") ∈ TT := inTT 167 (by decide +kernel) (by decide +kernel)
theorem kP181 : (Cond.fieldLink "TasterPanels" (181 : Nat) "TasterPanels" "DUO_SERVED" "[I") ∈ TT := inTT 169 (by decide +kernel) (by decide +kernel)
theorem kP184 : (Cond.methodLink "TasterPanels" (184 : Nat) ({ cls := "TasterPanels", name := "sampleInRow", desc := "(III)I" } : MethodName)) ∈ TT := inTT 171 (by decide +kernel) (by decide +kernel)
theorem ktP_sampleInRow : (Cond.static ({ cls := "TasterPanels", name := "sampleInRow", desc := "(III)I" } : MethodName)) ∈ TT := inTT 172 (by decide +kernel) (by decide +kernel)
theorem kcP_sampleInRow : (Cond.code ({ cls := "TasterPanels", name := "sampleInRow", desc := "(III)I" } : MethodName) prog_1_method_26_code (8 : Nat) (Option.some FieldType.int)) ∈ TT := inTT 173 (by decide +kernel) (by decide +kernel)
theorem kP188 : (Cond.methodLink "TasterPanels" (188 : Nat) ({ cls := "TasterPanels", name := "unusedSample", desc := "(II)I" } : MethodName)) ∈ TT := inTT 174 (by decide +kernel) (by decide +kernel)
theorem ktP_unusedSample : (Cond.static ({ cls := "TasterPanels", name := "unusedSample", desc := "(II)I" } : MethodName)) ∈ TT := inTT 175 (by decide +kernel) (by decide +kernel)
theorem kcP_unusedSample : (Cond.code ({ cls := "TasterPanels", name := "unusedSample", desc := "(II)I" } : MethodName) prog_1_method_27_code (4 : Nat) (Option.some FieldType.int)) ∈ TT := inTT 176 (by decide +kernel) (by decide +kernel)
theorem kL42 : (Cond.methodLink "TasterPanelsLaw" (42 : Nat) ({ cls := "TasterPanels", name := "answer", desc := "(III)Z" } : MethodName)) ∈ TT := inTT 177 (by decide +kernel) (by decide +kernel)
theorem kiP_answer : (Cond.instanceMethod ({ cls := "TasterPanels", name := "answer", desc := "(III)Z" } : MethodName)) ∈ TT := inTT 178 (by decide +kernel) (by decide +kernel)
theorem ksP_answer : (Cond.selects "TasterPanels" ({ cls := "TasterPanels", name := "answer", desc := "(III)Z" } : MethodName) ({ cls := "TasterPanels", name := "answer", desc := "(III)Z" } : MethodName)) ∈ TT := inTT 179 (by decide +kernel) (by decide +kernel)
theorem kcP_answer : (Cond.code ({ cls := "TasterPanels", name := "answer", desc := "(III)Z" } : MethodName) prog_1_method_5_code (6 : Nat) (Option.some FieldType.boolean)) ∈ TT := inTT 180 (by decide +kernel) (by decide +kernel)
theorem kP71 : (Cond.methodLink "TasterPanels" (71 : Nat) ({ cls := "TasterPanels", name := "differenceAt", desc := "(I)LTasterPanels$Test;" } : MethodName)) ∈ TT := inTT 181 (by decide +kernel) (by decide +kernel)
theorem kiP_differenceAt : (Cond.instanceMethod ({ cls := "TasterPanels", name := "differenceAt", desc := "(I)LTasterPanels$Test;" } : MethodName)) ∈ TT := inTT 183 (by decide +kernel) (by decide +kernel)
theorem kcP_differenceAt : (Cond.code ({ cls := "TasterPanels", name := "differenceAt", desc := "(I)LTasterPanels$Test;" } : MethodName) prog_1_method_17_code (3 : Nat) (Option.some (FieldType.object "TasterPanels$Test"))) ∈ TT := inTT 184 (by decide +kernel) (by decide +kernel)
theorem kP88 : (Cond.methodLink "TasterPanels" (88 : Nat) ({ cls := "TasterPanels", name := "rightPlace", desc := "(II)I" } : MethodName)) ∈ TT := inTT 185 (by decide +kernel) (by decide +kernel)
theorem ktP_rightPlace : (Cond.static ({ cls := "TasterPanels", name := "rightPlace", desc := "(II)I" } : MethodName)) ∈ TT := inTT 186 (by decide +kernel) (by decide +kernel)
theorem kcP_rightPlace : (Cond.code ({ cls := "TasterPanels", name := "rightPlace", desc := "(II)I" } : MethodName) prog_1_method_28_code (2 : Nat) (Option.some FieldType.int)) ∈ TT := inTT 187 (by decide +kernel) (by decide +kernel)
theorem kP191 : (Cond.fieldLink "TasterPanels" (191 : Nat) "TasterPanels" "TRIANGLE_RIGHT" "[I") ∈ TT := inTT 188 (by decide +kernel) (by decide +kernel)
theorem kP194 : (Cond.fieldLink "TasterPanels" (194 : Nat) "TasterPanels" "PAIR_RIGHT" "[I") ∈ TT := inTT 190 (by decide +kernel) (by decide +kernel)
theorem kP197 : (Cond.fieldLink "TasterPanels" (197 : Nat) "TasterPanels" "DUO_RIGHT" "[I") ∈ TT := inTT 192 (by decide +kernel) (by decide +kernel)
theorem kL47 : (Cond.methodLink "TasterPanelsLaw" (47 : Nat) ({ cls := "TasterPanels", name := "chance", desc := "(II)J" } : MethodName)) ∈ TT := inTT 194 (by decide +kernel) (by decide +kernel)
theorem kiP_chance : (Cond.instanceMethod ({ cls := "TasterPanels", name := "chance", desc := "(II)J" } : MethodName)) ∈ TT := inTT 195 (by decide +kernel) (by decide +kernel)
theorem ksP_chance : (Cond.selects "TasterPanels" ({ cls := "TasterPanels", name := "chance", desc := "(II)J" } : MethodName) ({ cls := "TasterPanels", name := "chance", desc := "(II)J" } : MethodName)) ∈ TT := inTT 196 (by decide +kernel) (by decide +kernel)
theorem kcP_chance : (Cond.code ({ cls := "TasterPanels", name := "chance", desc := "(II)J" } : MethodName) prog_1_method_6_code (6 : Nat) (Option.some FieldType.long)) ∈ TT := inTT 197 (by decide +kernel) (by decide +kernel)
theorem kP96 : (Cond.methodLink "TasterPanels" (96 : Nat) ({ cls := "TasterPanels", name := "isPart", desc := "(I)Z" } : MethodName)) ∈ TT := inTT 198 (by decide +kernel) (by decide +kernel)
theorem ktP_isPart : (Cond.static ({ cls := "TasterPanels", name := "isPart", desc := "(I)Z" } : MethodName)) ∈ TT := inTT 199 (by decide +kernel) (by decide +kernel)
theorem kcP_isPart : (Cond.code ({ cls := "TasterPanels", name := "isPart", desc := "(I)Z" } : MethodName) prog_1_method_20_code (1 : Nat) (Option.some FieldType.boolean)) ∈ TT := inTT 200 (by decide +kernel) (by decide +kernel)
theorem kP100 : (Cond.constantLong "TasterPanels" (100 : Nat) (-1 : Int64)) ∈ TT := inTT 201 (by decide +kernel) (by decide +kernel)
theorem kP102 : (Cond.methodLink "TasterPanels" (102 : Nat) ({ cls := "TasterPanels", name := "waysOfAtLeast", desc := "(III)J" } : MethodName)) ∈ TT := inTT 202 (by decide +kernel) (by decide +kernel)
theorem ktP_waysOfAtLeast : (Cond.static ({ cls := "TasterPanels", name := "waysOfAtLeast", desc := "(III)J" } : MethodName)) ∈ TT := inTT 203 (by decide +kernel) (by decide +kernel)
theorem kcP_waysOfAtLeast : (Cond.code ({ cls := "TasterPanels", name := "waysOfAtLeast", desc := "(III)J" } : MethodName) prog_1_method_32_code (8 : Nat) (Option.some FieldType.long)) ∈ TT := inTT 204 (by decide +kernel) (by decide +kernel)
theorem kP106 : (Cond.methodLink "TasterPanels" (106 : Nat) ({ cls := "TasterPanels", name := "power", desc := "(II)J" } : MethodName)) ∈ TT := inTT 205 (by decide +kernel) (by decide +kernel)
theorem ktP_power : (Cond.static ({ cls := "TasterPanels", name := "power", desc := "(II)J" } : MethodName)) ∈ TT := inTT 206 (by decide +kernel) (by decide +kernel)
theorem kcP_power : (Cond.code ({ cls := "TasterPanels", name := "power", desc := "(II)J" } : MethodName) prog_1_method_36_code (5 : Nat) (Option.some FieldType.long)) ∈ TT := inTT 207 (by decide +kernel) (by decide +kernel)
theorem kP110 : (Cond.methodLink "TasterPanels" (110 : Nat) ({ cls := "TasterPanels", name := "reducedPart", desc := "(JJI)J" } : MethodName)) ∈ TT := inTT 208 (by decide +kernel) (by decide +kernel)
theorem ktP_reducedPart : (Cond.static ({ cls := "TasterPanels", name := "reducedPart", desc := "(JJI)J" } : MethodName)) ∈ TT := inTT 209 (by decide +kernel) (by decide +kernel)
theorem kcP_reducedPart : (Cond.code ({ cls := "TasterPanels", name := "reducedPart", desc := "(JJI)J" } : MethodName) prog_1_method_37_code (7 : Nat) (Option.some FieldType.long)) ∈ TT := inTT 210 (by decide +kernel) (by decide +kernel)
theorem kP211 : (Cond.methodLink "TasterPanels" (211 : Nat) ({ cls := "TasterPanels", name := "commonDivisor", desc := "(JJ)J" } : MethodName)) ∈ TT := inTT 211 (by decide +kernel) (by decide +kernel)
theorem ktP_commonDivisor : (Cond.static ({ cls := "TasterPanels", name := "commonDivisor", desc := "(JJ)J" } : MethodName)) ∈ TT := inTT 212 (by decide +kernel) (by decide +kernel)
theorem kcP_commonDivisor : (Cond.code ({ cls := "TasterPanels", name := "commonDivisor", desc := "(JJ)J" } : MethodName) prog_1_method_38_code (11 : Nat) (Option.some FieldType.long)) ∈ TT := inTT 213 (by decide +kernel) (by decide +kernel)
theorem kL52 : (Cond.methodLink "TasterPanelsLaw" (52 : Nat) ({ cls := "TasterPanels", name := "right", desc := "(I)I" } : MethodName)) ∈ TT := inTT 214 (by decide +kernel) (by decide +kernel)
theorem kiP_right : (Cond.instanceMethod ({ cls := "TasterPanels", name := "right", desc := "(I)I" } : MethodName)) ∈ TT := inTT 215 (by decide +kernel) (by decide +kernel)
theorem ksP_right : (Cond.selects "TasterPanels" ({ cls := "TasterPanels", name := "right", desc := "(I)I" } : MethodName) ({ cls := "TasterPanels", name := "right", desc := "(I)I" } : MethodName)) ∈ TT := inTT 216 (by decide +kernel) (by decide +kernel)
theorem kcP_right : (Cond.code ({ cls := "TasterPanels", name := "right", desc := "(I)I" } : MethodName) prog_1_method_7_code (3 : Nat) (Option.some FieldType.int)) ∈ TT := inTT 217 (by decide +kernel) (by decide +kernel)
theorem kL56 : (Cond.methodLink "TasterPanelsLaw" (56 : Nat) ({ cls := "TasterPanels", name := "rank", desc := "(IIII)Z" } : MethodName)) ∈ TT := inTT 218 (by decide +kernel) (by decide +kernel)
theorem kiP_rank : (Cond.instanceMethod ({ cls := "TasterPanels", name := "rank", desc := "(IIII)Z" } : MethodName)) ∈ TT := inTT 219 (by decide +kernel) (by decide +kernel)
theorem ksP_rank : (Cond.selects "TasterPanels" ({ cls := "TasterPanels", name := "rank", desc := "(IIII)Z" } : MethodName) ({ cls := "TasterPanels", name := "rank", desc := "(IIII)Z" } : MethodName)) ∈ TT := inTT 220 (by decide +kernel) (by decide +kernel)
theorem kcP_rank : (Cond.code ({ cls := "TasterPanels", name := "rank", desc := "(IIII)Z" } : MethodName) prog_1_method_8_code (6 : Nat) (Option.some FieldType.boolean)) ∈ TT := inTT 221 (by decide +kernel) (by decide +kernel)
theorem kP114 : (Cond.methodLink "TasterPanels" (114 : Nat) ({ cls := "TasterPanels", name := "rankingAt", desc := "(I)LTasterPanels$Test;" } : MethodName)) ∈ TT := inTT 222 (by decide +kernel) (by decide +kernel)
theorem kiP_rankingAt : (Cond.instanceMethod ({ cls := "TasterPanels", name := "rankingAt", desc := "(I)LTasterPanels$Test;" } : MethodName)) ∈ TT := inTT 224 (by decide +kernel) (by decide +kernel)
theorem kcP_rankingAt : (Cond.code ({ cls := "TasterPanels", name := "rankingAt", desc := "(I)LTasterPanels$Test;" } : MethodName) prog_1_method_18_code (3 : Nat) (Option.some (FieldType.object "TasterPanels$Test"))) ∈ TT := inTT 225 (by decide +kernel) (by decide +kernel)
theorem kP117 : (Cond.methodLink "TasterPanels" (117 : Nat) ({ cls := "TasterPanels", name := "rankOf", desc := "(LTasterPanels$Test;II)I" } : MethodName)) ∈ TT := inTT 226 (by decide +kernel) (by decide +kernel)
theorem ktP_rankOf : (Cond.static ({ cls := "TasterPanels", name := "rankOf", desc := "(LTasterPanels$Test;II)I" } : MethodName)) ∈ TT := inTT 227 (by decide +kernel) (by decide +kernel)
theorem kcP_rankOf : (Cond.code ({ cls := "TasterPanels", name := "rankOf", desc := "(LTasterPanels$Test;II)I" } : MethodName) prog_1_method_29_code (3 : Nat) (Option.some FieldType.int)) ∈ TT := inTT 228 (by decide +kernel) (by decide +kernel)
theorem kP120 : (Cond.methodLink "TasterPanels" (120 : Nat) ({ cls := "TasterPanels", name := "hasGiven", desc := "(LTasterPanels$Test;II)Z" } : MethodName)) ∈ TT := inTT 229 (by decide +kernel) (by decide +kernel)
theorem ktP_hasGiven : (Cond.static ({ cls := "TasterPanels", name := "hasGiven", desc := "(LTasterPanels$Test;II)Z" } : MethodName)) ∈ TT := inTT 230 (by decide +kernel) (by decide +kernel)
theorem kcP_hasGiven : (Cond.code ({ cls := "TasterPanels", name := "hasGiven", desc := "(LTasterPanels$Test;II)Z" } : MethodName) prog_1_method_30_code (4 : Nat) (Option.some FieldType.boolean)) ∈ TT := inTT 231 (by decide +kernel) (by decide +kernel)
theorem kL61 : (Cond.methodLink "TasterPanelsLaw" (61 : Nat) ({ cls := "TasterPanels", name := "permuted", desc := "(II)J" } : MethodName)) ∈ TT := inTT 232 (by decide +kernel) (by decide +kernel)
theorem kiP_permuted : (Cond.instanceMethod ({ cls := "TasterPanels", name := "permuted", desc := "(II)J" } : MethodName)) ∈ TT := inTT 233 (by decide +kernel) (by decide +kernel)
theorem ksP_permuted : (Cond.selects "TasterPanels" ({ cls := "TasterPanels", name := "permuted", desc := "(II)J" } : MethodName) ({ cls := "TasterPanels", name := "permuted", desc := "(II)J" } : MethodName)) ∈ TT := inTT 234 (by decide +kernel) (by decide +kernel)
theorem kcP_permuted : (Cond.code ({ cls := "TasterPanels", name := "permuted", desc := "(II)J" } : MethodName) prog_1_method_9_code (8 : Nat) (Option.some FieldType.long)) ∈ TT := inTT 235 (by decide +kernel) (by decide +kernel)
theorem kP127 : (Cond.methodLink "TasterPanels" (127 : Nat) ({ cls := "TasterPanels", name := "hasRankedAll", desc := "(LTasterPanels$Test;I)Z" } : MethodName)) ∈ TT := inTT 236 (by decide +kernel) (by decide +kernel)
theorem ktP_hasRankedAll : (Cond.static ({ cls := "TasterPanels", name := "hasRankedAll", desc := "(LTasterPanels$Test;I)Z" } : MethodName)) ∈ TT := inTT 237 (by decide +kernel) (by decide +kernel)
theorem kcP_hasRankedAll : (Cond.code ({ cls := "TasterPanels", name := "hasRankedAll", desc := "(LTasterPanels$Test;I)Z" } : MethodName) prog_1_method_31_code (3 : Nat) (Option.some FieldType.boolean)) ∈ TT := inTT 238 (by decide +kernel) (by decide +kernel)
theorem kP131 : (Cond.methodLink "TasterPanels" (131 : Nat) ({ cls := "TasterPanels", name := "waysAsFarAs", desc := "(III)J" } : MethodName)) ∈ TT := inTT 239 (by decide +kernel) (by decide +kernel)
theorem kiP_waysAsFarAs : (Cond.instanceMethod ({ cls := "TasterPanels", name := "waysAsFarAs", desc := "(III)J" } : MethodName)) ∈ TT := inTT 241 (by decide +kernel) (by decide +kernel)
theorem kcP_waysAsFarAs : (Cond.code ({ cls := "TasterPanels", name := "waysAsFarAs", desc := "(III)J" } : MethodName) prog_1_method_33_code (9 : Nat) (Option.some FieldType.long)) ∈ TT := inTT 242 (by decide +kernel) (by decide +kernel)
theorem kP200 : (Cond.methodLink "TasterPanels" (200 : Nat) ({ cls := "TasterPanels", name := "countSums", desc := "(II)V" } : MethodName)) ∈ TT := inTT 243 (by decide +kernel) (by decide +kernel)
theorem kiP_countSums : (Cond.instanceMethod ({ cls := "TasterPanels", name := "countSums", desc := "(II)V" } : MethodName)) ∈ TT := inTT 245 (by decide +kernel) (by decide +kernel)
theorem kcP_countSums : (Cond.code ({ cls := "TasterPanels", name := "countSums", desc := "(II)V" } : MethodName) prog_1_method_34_code (8 : Nat) (Option.none : Option FieldType)) ∈ TT := inTT 246 (by decide +kernel) (by decide +kernel)
theorem kP203 : (Cond.methodLink "TasterPanels" (203 : Nat) ({ cls := "java/lang/Math", name := "abs", desc := "(I)I" } : MethodName)) ∈ TT := inTT 247 (by decide +kernel) (by decide +kernel)
theorem kt_abs : (Cond.static ({ cls := "java/lang/Math", name := "abs", desc := "(I)I" } : MethodName)) ∈ TT := inTT 248 (by decide +kernel) (by decide +kernel)
theorem kc_abs : (Cond.code ({ cls := "java/lang/Math", name := "abs", desc := "(I)I" } : MethodName) prog_8_method_59_code (1 : Nat) (Option.some FieldType.int)) ∈ TT := inTT 249 (by decide +kernel) (by decide +kernel)
theorem kL65 : (Cond.methodLink "TasterPanelsLaw" (65 : Nat) ({ cls := "TasterPanels", name := "threshold", desc := "(I)D" } : MethodName)) ∈ TT := inTT 250 (by decide +kernel) (by decide +kernel)
theorem kiP_threshold : (Cond.instanceMethod ({ cls := "TasterPanels", name := "threshold", desc := "(I)D" } : MethodName)) ∈ TT := inTT 251 (by decide +kernel) (by decide +kernel)
theorem ksP_threshold : (Cond.selects "TasterPanels" ({ cls := "TasterPanels", name := "threshold", desc := "(I)D" } : MethodName) ({ cls := "TasterPanels", name := "threshold", desc := "(I)D" } : MethodName)) ∈ TT := inTT 252 (by decide +kernel) (by decide +kernel)
theorem kcP_threshold : (Cond.code ({ cls := "TasterPanels", name := "threshold", desc := "(I)D" } : MethodName) prog_1_method_10_code (5 : Nat) (Option.some FieldType.double)) ∈ TT := inTT 253 (by decide +kernel) (by decide +kernel)
theorem kP134 : (Cond.constantDouble "TasterPanels" (134 : Nat) (13830554455654793216 : UInt64)) ∈ TT := inTT 254 (by decide +kernel) (by decide +kernel)
theorem kP142 : (Cond.methodLink "TasterPanels" (142 : Nat) ({ cls := "TasterPanels", name := "strength", desc := "(I)D" } : MethodName)) ∈ TT := inTT 255 (by decide +kernel) (by decide +kernel)
theorem ktP_strength : (Cond.static ({ cls := "TasterPanels", name := "strength", desc := "(I)D" } : MethodName)) ∈ TT := inTT 256 (by decide +kernel) (by decide +kernel)
theorem kcP_strength : (Cond.code ({ cls := "TasterPanels", name := "strength", desc := "(I)D" } : MethodName) prog_1_method_35_code (1 : Nat) (Option.some FieldType.double)) ∈ TT := inTT 257 (by decide +kernel) (by decide +kernel)
theorem kP209 : (Cond.constantDouble "TasterPanels" (209 : Nat) (4620693217682128896 : UInt64)) ∈ TT := inTT 258 (by decide +kernel) (by decide +kernel)
theorem kP146 : (Cond.constantDouble "TasterPanels" (146 : Nat) (4611686018427387904 : UInt64)) ∈ TT := inTT 259 (by decide +kernel) (by decide +kernel)
theorem kL70 : (Cond.methodLink "TasterPanelsLaw" (70 : Nat) ({ cls := "TasterPanels", name := "level", desc := "(IIZ)Z" } : MethodName)) ∈ TT := inTT 260 (by decide +kernel) (by decide +kernel)
theorem kiP_level : (Cond.instanceMethod ({ cls := "TasterPanels", name := "level", desc := "(IIZ)Z" } : MethodName)) ∈ TT := inTT 261 (by decide +kernel) (by decide +kernel)
theorem ksP_level : (Cond.selects "TasterPanels" ({ cls := "TasterPanels", name := "level", desc := "(IIZ)Z" } : MethodName) ({ cls := "TasterPanels", name := "level", desc := "(IIZ)Z" } : MethodName)) ∈ TT := inTT 262 (by decide +kernel) (by decide +kernel)
theorem kcP_level : (Cond.code ({ cls := "TasterPanels", name := "level", desc := "(IIZ)Z" } : MethodName) prog_1_method_11_code (5 : Nat) (Option.some FieldType.boolean)) ∈ TT := inTT 263 (by decide +kernel) (by decide +kernel)
theorem kL75 : (Cond.methodLink "TasterPanelsLaw" (75 : Nat) ({ cls := "TasterPanels", name := "out", desc := "(I)Z" } : MethodName)) ∈ TT := inTT 264 (by decide +kernel) (by decide +kernel)
theorem kiP_out : (Cond.instanceMethod ({ cls := "TasterPanels", name := "out", desc := "(I)Z" } : MethodName)) ∈ TT := inTT 265 (by decide +kernel) (by decide +kernel)
theorem ksP_out : (Cond.selects "TasterPanels" ({ cls := "TasterPanels", name := "out", desc := "(I)Z" } : MethodName) ({ cls := "TasterPanels", name := "out", desc := "(I)Z" } : MethodName)) ∈ TT := inTT 266 (by decide +kernel) (by decide +kernel)
theorem kcP_out : (Cond.code ({ cls := "TasterPanels", name := "out", desc := "(I)Z" } : MethodName) prog_1_method_12_code (3 : Nat) (Option.some FieldType.boolean)) ∈ TT := inTT 267 (by decide +kernel) (by decide +kernel)
theorem kL82 : (Cond.methodLink "TasterPanelsLaw" (82 : Nat) ({ cls := "TasterPanels", name := "size", desc := "(IJJ)I" } : MethodName)) ∈ TT := inTT 268 (by decide +kernel) (by decide +kernel)
theorem kiP_size : (Cond.instanceMethod ({ cls := "TasterPanels", name := "size", desc := "(IJJ)I" } : MethodName)) ∈ TT := inTT 269 (by decide +kernel) (by decide +kernel)
theorem ksP_size : (Cond.selects "TasterPanels" ({ cls := "TasterPanels", name := "size", desc := "(IJJ)I" } : MethodName) ({ cls := "TasterPanels", name := "size", desc := "(IJJ)I" } : MethodName)) ∈ TT := inTT 270 (by decide +kernel) (by decide +kernel)
theorem kcP_size : (Cond.code ({ cls := "TasterPanels", name := "size", desc := "(IJJ)I" } : MethodName) prog_1_method_13_code (10 : Nat) (Option.some FieldType.int)) ∈ TT := inTT 271 (by decide +kernel) (by decide +kernel)
theorem kL15 : (Cond.methodLink "TasterPanelsLaw" (15 : Nat) ({ cls := "TasterPanelsLaw", name := "cell", desc := "([II)I" } : MethodName)) ∈ TT := inTT 272 (by decide +kernel) (by decide +kernel)
theorem ktL_cell : (Cond.static ({ cls := "TasterPanelsLaw", name := "cell", desc := "([II)I" } : MethodName)) ∈ TT := inTT 273 (by decide +kernel) (by decide +kernel)
theorem kcL_cell : (Cond.code ({ cls := "TasterPanelsLaw", name := "cell", desc := "([II)I" } : MethodName) method_2_code (2 : Nat) (Option.some FieldType.int)) ∈ TT := inTT 274 (by decide +kernel) (by decide +kernel)
theorem kL87 : (Cond.methodLink "TasterPanelsLaw" (87 : Nat) ({ cls := "TasterPanelsLaw", name := "row", desc := "(LTasterPanels;I[J)I" } : MethodName)) ∈ TT := inTT 275 (by decide +kernel) (by decide +kernel)
theorem ktL_row : (Cond.static ({ cls := "TasterPanelsLaw", name := "row", desc := "(LTasterPanels;I[J)I" } : MethodName)) ∈ TT := inTT 276 (by decide +kernel) (by decide +kernel)
theorem kL13 : (Cond.classLink "TasterPanelsLaw" (13 : Nat) "java/lang/IndexOutOfBoundsException") ∈ TT := inTT 278 (by decide +kernel) (by decide +kernel)
theorem kL7 : (Cond.methodLink "TasterPanelsLaw" (7 : Nat) ({ cls := "TasterPanels", name := "row", desc := "(I)I" } : MethodName)) ∈ TT := inTT 279 (by decide +kernel) (by decide +kernel)
theorem kiP_row : (Cond.instanceMethod ({ cls := "TasterPanels", name := "row", desc := "(I)I" } : MethodName)) ∈ TT := inTT 280 (by decide +kernel) (by decide +kernel)
theorem ksP_row : (Cond.selects "TasterPanels" ({ cls := "TasterPanels", name := "row", desc := "(I)I" } : MethodName) ({ cls := "TasterPanels", name := "row", desc := "(I)I" } : MethodName)) ∈ TT := inTT 281 (by decide +kernel) (by decide +kernel)
theorem kcP_row : (Cond.code ({ cls := "TasterPanels", name := "row", desc := "(I)I" } : MethodName) prog_1_method_14_code (5 : Nat) (Option.some FieldType.int)) ∈ TT := inTT 282 (by decide +kernel) (by decide +kernel)
theorem kP148 : (Cond.classLink "TasterPanels" (148 : Nat) "java/lang/IndexOutOfBoundsException") ∈ TT := inTT 283 (by decide +kernel) (by decide +kernel)
theorem kP152 : (Cond.methodLink "TasterPanels" (152 : Nat) ({ cls := "java/lang/IndexOutOfBoundsException", name := "<init>", desc := "(Ljava/lang/String;)V" } : MethodName)) ∈ TT := inTT 323 (by decide +kernel) (by decide +kernel)
theorem ka_byte : (Cond.arrayClass FieldType.byte) ∈ TT := inTT 348 (by decide +kernel) (by decide +kernel)
theorem kP155 : (Cond.constantLong "TasterPanels" (155 : Nat) (20 : Int64)) ∈ TT := inTT 349 (by decide +kernel) (by decide +kernel)
theorem kL24 : (Cond.classLink "TasterPanelsLaw" (24 : Nat) "TasterPanelsModel") ∈ TT := inTT 350 (by decide +kernel) (by decide +kernel)
theorem kxM : (Cond.instantiable "TasterPanelsModel" (12 : Nat)) ∈ TT := inTT 351 (by decide +kernel) (by decide +kernel)
theorem kL26 : (Cond.methodLink "TasterPanelsLaw" (26 : Nat) ({ cls := "TasterPanelsModel", name := "<init>", desc := "(J)V" } : MethodName)) ∈ TT := inTT 352 (by decide +kernel) (by decide +kernel)
theorem kiM_init : (Cond.instanceMethod ({ cls := "TasterPanelsModel", name := "<init>", desc := "(J)V" } : MethodName)) ∈ TT := inTT 353 (by decide +kernel) (by decide +kernel)
theorem kcM_init : (Cond.code ({ cls := "TasterPanelsModel", name := "<init>", desc := "(J)V" } : MethodName) prog_5_method_1_code (3 : Nat) (Option.none : Option FieldType)) ∈ TT := inTT 354 (by decide +kernel) (by decide +kernel)
theorem kM1 : (Cond.methodLink "TasterPanelsModel" (1 : Nat) ({ cls := "java/lang/Object", name := "<init>", desc := "()V" } : MethodName)) ∈ TT := inTT 355 (by decide +kernel) (by decide +kernel)
theorem kM35 : (Cond.fieldLink "TasterPanelsModel" (35 : Nat) "TasterPanelsModel" "seed" "J") ∈ TT := inTT 356 (by decide +kernel) (by decide +kernel)
theorem kM43 : (Cond.fieldLink "TasterPanelsModel" (43 : Nat) "TasterPanelsModel" "tasters" "I") ∈ TT := inTT 357 (by decide +kernel) (by decide +kernel)
theorem kM46 : (Cond.fieldLink "TasterPanelsModel" (46 : Nat) "TasterPanelsModel" "tests" "I") ∈ TT := inTT 358 (by decide +kernel) (by decide +kernel)
theorem kM9 : (Cond.fieldLink "TasterPanelsModel" (9 : Nat) "TasterPanelsModel" "kinds" "[I") ∈ TT := inTT 359 (by decide +kernel) (by decide +kernel)
theorem kM13 : (Cond.fieldLink "TasterPanelsModel" (13 : Nat) "TasterPanelsModel" "samples" "[I") ∈ TT := inTT 360 (by decide +kernel) (by decide +kernel)
theorem kM16 : (Cond.fieldLink "TasterPanelsModel" (16 : Nat) "TasterPanelsModel" "answers" "[I") ∈ TT := inTT 361 (by decide +kernel) (by decide +kernel)
theorem kM19 : (Cond.fieldLink "TasterPanelsModel" (19 : Nat) "TasterPanelsModel" "ranks" "[I") ∈ TT := inTT 362 (by decide +kernel) (by decide +kernel)
theorem kM22 : (Cond.fieldLink "TasterPanelsModel" (22 : Nat) "TasterPanelsModel" "steps" "[I") ∈ TT := inTT 363 (by decide +kernel) (by decide +kernel)
theorem kM25 : (Cond.fieldLink "TasterPanelsModel" (25 : Nat) "TasterPanelsModel" "mixed" "[I") ∈ TT := inTT 364 (by decide +kernel) (by decide +kernel)
theorem kM28 : (Cond.fieldLink "TasterPanelsModel" (28 : Nat) "TasterPanelsModel" "ways" "[J") ∈ TT := inTT 365 (by decide +kernel) (by decide +kernel)
theorem kM32 : (Cond.fieldLink "TasterPanelsModel" (32 : Nat) "TasterPanelsModel" "next" "[J") ∈ TT := inTT 366 (by decide +kernel) (by decide +kernel)
theorem kM39 : (Cond.fieldLink "TasterPanelsModel" (39 : Nat) "TasterPanelsModel" "thrown" "I") ∈ TT := inTT 367 (by decide +kernel) (by decide +kernel)
theorem kL91 : (Cond.methodLink "TasterPanelsLaw" (91 : Nat) ({ cls := "TasterPanelsModel", name := "thrown", desc := "()I" } : MethodName)) ∈ TT := inTT 393 (by decide +kernel) (by decide +kernel)
theorem kiM_thrown : (Cond.instanceMethod ({ cls := "TasterPanelsModel", name := "thrown", desc := "()I" } : MethodName)) ∈ TT := inTT 394 (by decide +kernel) (by decide +kernel)
theorem ksM_thrown : (Cond.selects "TasterPanelsModel" ({ cls := "TasterPanelsModel", name := "thrown", desc := "()I" } : MethodName) ({ cls := "TasterPanelsModel", name := "thrown", desc := "()I" } : MethodName)) ∈ TT := inTT 395 (by decide +kernel) (by decide +kernel)
theorem kcM_thrown : (Cond.code ({ cls := "TasterPanelsModel", name := "thrown", desc := "()I" } : MethodName) prog_5_method_2_code (1 : Nat) (Option.some FieldType.int)) ∈ TT := inTT 396 (by decide +kernel) (by decide +kernel)
theorem kL31 : (Cond.methodLink "TasterPanelsLaw" (31 : Nat) ({ cls := "TasterPanelsModel", name := "taster", desc := "()I" } : MethodName)) ∈ TT := inTT 397 (by decide +kernel) (by decide +kernel)
theorem kiM_taster : (Cond.instanceMethod ({ cls := "TasterPanelsModel", name := "taster", desc := "()I" } : MethodName)) ∈ TT := inTT 398 (by decide +kernel) (by decide +kernel)
theorem ksM_taster : (Cond.selects "TasterPanelsModel" ({ cls := "TasterPanelsModel", name := "taster", desc := "()I" } : MethodName) ({ cls := "TasterPanelsModel", name := "taster", desc := "()I" } : MethodName)) ∈ TT := inTT 399 (by decide +kernel) (by decide +kernel)
theorem kcM_taster : (Cond.code ({ cls := "TasterPanelsModel", name := "taster", desc := "()I" } : MethodName) prog_5_method_3_code (1 : Nat) (Option.some FieldType.int)) ∈ TT := inTT 400 (by decide +kernel) (by decide +kernel)
theorem kL36 : (Cond.methodLink "TasterPanelsLaw" (36 : Nat) ({ cls := "TasterPanelsModel", name := "test", desc := "(II)I" } : MethodName)) ∈ TT := inTT 401 (by decide +kernel) (by decide +kernel)
theorem kiM_test : (Cond.instanceMethod ({ cls := "TasterPanelsModel", name := "test", desc := "(II)I" } : MethodName)) ∈ TT := inTT 402 (by decide +kernel) (by decide +kernel)
theorem ksM_test : (Cond.selects "TasterPanelsModel" ({ cls := "TasterPanelsModel", name := "test", desc := "(II)I" } : MethodName) ({ cls := "TasterPanelsModel", name := "test", desc := "(II)I" } : MethodName)) ∈ TT := inTT 403 (by decide +kernel) (by decide +kernel)
theorem kcM_test : (Cond.code ({ cls := "TasterPanelsModel", name := "test", desc := "(II)I" } : MethodName) prog_5_method_4_code (4 : Nat) (Option.some FieldType.int)) ∈ TT := inTT 404 (by decide +kernel) (by decide +kernel)
theorem kL41 : (Cond.methodLink "TasterPanelsLaw" (41 : Nat) ({ cls := "TasterPanelsModel", name := "order", desc := "(III)I" } : MethodName)) ∈ TT := inTT 405 (by decide +kernel) (by decide +kernel)
theorem kiM_order : (Cond.instanceMethod ({ cls := "TasterPanelsModel", name := "order", desc := "(III)I" } : MethodName)) ∈ TT := inTT 406 (by decide +kernel) (by decide +kernel)
theorem ksM_order : (Cond.selects "TasterPanelsModel" ({ cls := "TasterPanelsModel", name := "order", desc := "(III)I" } : MethodName) ({ cls := "TasterPanelsModel", name := "order", desc := "(III)I" } : MethodName)) ∈ TT := inTT 407 (by decide +kernel) (by decide +kernel)
theorem kcM_order : (Cond.code ({ cls := "TasterPanelsModel", name := "order", desc := "(III)I" } : MethodName) prog_5_method_12_code (5 : Nat) (Option.some FieldType.int)) ∈ TT := inTT 408 (by decide +kernel) (by decide +kernel)
theorem kM61 : (Cond.methodLink "TasterPanelsModel" (61 : Nat) ({ cls := "TasterPanelsModel", name := "isTest", desc := "(I)Z" } : MethodName)) ∈ TT := inTT 409 (by decide +kernel) (by decide +kernel)
theorem kiM_isTest : (Cond.instanceMethod ({ cls := "TasterPanelsModel", name := "isTest", desc := "(I)Z" } : MethodName)) ∈ TT := inTT 411 (by decide +kernel) (by decide +kernel)
theorem kcM_isTest : (Cond.code ({ cls := "TasterPanelsModel", name := "isTest", desc := "(I)Z" } : MethodName) prog_5_method_5_code (2 : Nat) (Option.some FieldType.boolean)) ∈ TT := inTT 412 (by decide +kernel) (by decide +kernel)
theorem kM65 : (Cond.methodLink "TasterPanelsModel" (65 : Nat) ({ cls := "TasterPanelsModel", name := "isTaster", desc := "(I)Z" } : MethodName)) ∈ TT := inTT 413 (by decide +kernel) (by decide +kernel)
theorem kiM_isTaster : (Cond.instanceMethod ({ cls := "TasterPanelsModel", name := "isTaster", desc := "(I)Z" } : MethodName)) ∈ TT := inTT 415 (by decide +kernel) (by decide +kernel)
theorem kcM_isTaster : (Cond.code ({ cls := "TasterPanelsModel", name := "isTaster", desc := "(I)Z" } : MethodName) prog_5_method_6_code (2 : Nat) (Option.some FieldType.boolean)) ∈ TT := inTT 416 (by decide +kernel) (by decide +kernel)
theorem kM68 : (Cond.methodLink "TasterPanelsModel" (68 : Nat) ({ cls := "TasterPanelsModel", name := "served", desc := "(I)I" } : MethodName)) ∈ TT := inTT 417 (by decide +kernel) (by decide +kernel)
theorem kiM_served : (Cond.instanceMethod ({ cls := "TasterPanelsModel", name := "served", desc := "(I)I" } : MethodName)) ∈ TT := inTT 419 (by decide +kernel) (by decide +kernel)
theorem kcM_served : (Cond.code ({ cls := "TasterPanelsModel", name := "served", desc := "(I)I" } : MethodName) prog_5_method_10_code (2 : Nat) (Option.some FieldType.int)) ∈ TT := inTT 420 (by decide +kernel) (by decide +kernel)
theorem kM71 : (Cond.methodLink "TasterPanelsModel" (71 : Nat) ({ cls := "TasterPanelsModel", name := "orderOf", desc := "(II)I" } : MethodName)) ∈ TT := inTT 421 (by decide +kernel) (by decide +kernel)
theorem kiM_orderOf : (Cond.instanceMethod ({ cls := "TasterPanelsModel", name := "orderOf", desc := "(II)I" } : MethodName)) ∈ TT := inTT 423 (by decide +kernel) (by decide +kernel)
theorem kcM_orderOf : (Cond.code ({ cls := "TasterPanelsModel", name := "orderOf", desc := "(II)I" } : MethodName) prog_5_method_8_code (10 : Nat) (Option.some FieldType.int)) ∈ TT := inTT 424 (by decide +kernel) (by decide +kernel)
theorem kM49 : (Cond.methodLink "TasterPanelsModel" (49 : Nat) ({ cls := "TasterPanelsModel", name := "orders", desc := "(I)I" } : MethodName)) ∈ TT := inTT 425 (by decide +kernel) (by decide +kernel)
theorem kiM_orders : (Cond.instanceMethod ({ cls := "TasterPanelsModel", name := "orders", desc := "(I)I" } : MethodName)) ∈ TT := inTT 427 (by decide +kernel) (by decide +kernel)
theorem kcM_orders : (Cond.code ({ cls := "TasterPanelsModel", name := "orders", desc := "(I)I" } : MethodName) prog_5_method_7_code (4 : Nat) (Option.some FieldType.int)) ∈ TT := inTT 428 (by decide +kernel) (by decide +kernel)
theorem kM53 : (Cond.constantLong "TasterPanelsModel" (53 : Nat) (1000003 : Int64)) ∈ TT := inTT 429 (by decide +kernel) (by decide +kernel)
theorem kM55 : (Cond.constantLong "TasterPanelsModel" (55 : Nat) (7919 : Int64)) ∈ TT := inTT 430 (by decide +kernel) (by decide +kernel)
theorem kM57 : (Cond.constantLong "TasterPanelsModel" (57 : Nat) (6364136223846793005 : Int64)) ∈ TT := inTT 431 (by decide +kernel) (by decide +kernel)
theorem kM59 : (Cond.constantLong "TasterPanelsModel" (59 : Nat) (1442695040888963407 : Int64)) ∈ TT := inTT 432 (by decide +kernel) (by decide +kernel)
theorem kM75 : (Cond.methodLink "TasterPanelsModel" (75 : Nat) ({ cls := "TasterPanelsModel", name := "item", desc := "(III)I" } : MethodName)) ∈ TT := inTT 433 (by decide +kernel) (by decide +kernel)
theorem ktM_item : (Cond.static ({ cls := "TasterPanelsModel", name := "item", desc := "(III)I" } : MethodName)) ∈ TT := inTT 434 (by decide +kernel) (by decide +kernel)
theorem kcM_item : (Cond.code ({ cls := "TasterPanelsModel", name := "item", desc := "(III)I" } : MethodName) prog_5_method_9_code (9 : Nat) (Option.some FieldType.int)) ∈ TT := inTT 435 (by decide +kernel) (by decide +kernel)
theorem kM79 : (Cond.fieldLink "TasterPanelsModel" (79 : Nat) "TasterPanelsModel" "SERVED" "[I") ∈ TT := inTT 436 (by decide +kernel) (by decide +kernel)
theorem kM82 : (Cond.methodLink "TasterPanelsModel" (82 : Nat) ({ cls := "TasterPanelsModel", name := "first", desc := "(I)I" } : MethodName)) ∈ TT := inTT 438 (by decide +kernel) (by decide +kernel)
theorem kiM_first : (Cond.instanceMethod ({ cls := "TasterPanelsModel", name := "first", desc := "(I)I" } : MethodName)) ∈ TT := inTT 440 (by decide +kernel) (by decide +kernel)
theorem kcM_first : (Cond.code ({ cls := "TasterPanelsModel", name := "first", desc := "(I)I" } : MethodName) prog_5_method_11_code (2 : Nat) (Option.some FieldType.int)) ∈ TT := inTT 441 (by decide +kernel) (by decide +kernel)
theorem kL46 : (Cond.methodLink "TasterPanelsLaw" (46 : Nat) ({ cls := "TasterPanelsModel", name := "answer", desc := "(III)Z" } : MethodName)) ∈ TT := inTT 442 (by decide +kernel) (by decide +kernel)
theorem kiM_answer : (Cond.instanceMethod ({ cls := "TasterPanelsModel", name := "answer", desc := "(III)Z" } : MethodName)) ∈ TT := inTT 443 (by decide +kernel) (by decide +kernel)
theorem ksM_answer : (Cond.selects "TasterPanelsModel" ({ cls := "TasterPanelsModel", name := "answer", desc := "(III)Z" } : MethodName) ({ cls := "TasterPanelsModel", name := "answer", desc := "(III)Z" } : MethodName)) ∈ TT := inTT 444 (by decide +kernel) (by decide +kernel)
theorem kcM_answer : (Cond.code ({ cls := "TasterPanelsModel", name := "answer", desc := "(III)Z" } : MethodName) prog_5_method_13_code (4 : Nat) (Option.some FieldType.boolean)) ∈ TT := inTT 445 (by decide +kernel) (by decide +kernel)
theorem kL55 : (Cond.methodLink "TasterPanelsLaw" (55 : Nat) ({ cls := "TasterPanelsModel", name := "right", desc := "(I)I" } : MethodName)) ∈ TT := inTT 446 (by decide +kernel) (by decide +kernel)
theorem kiM_right : (Cond.instanceMethod ({ cls := "TasterPanelsModel", name := "right", desc := "(I)I" } : MethodName)) ∈ TT := inTT 447 (by decide +kernel) (by decide +kernel)
theorem ksM_right : (Cond.selects "TasterPanelsModel" ({ cls := "TasterPanelsModel", name := "right", desc := "(I)I" } : MethodName) ({ cls := "TasterPanelsModel", name := "right", desc := "(I)I" } : MethodName)) ∈ TT := inTT 448 (by decide +kernel) (by decide +kernel)
theorem kcM_right : (Cond.code ({ cls := "TasterPanelsModel", name := "right", desc := "(I)I" } : MethodName) prog_5_method_17_code (2 : Nat) (Option.some FieldType.int)) ∈ TT := inTT 449 (by decide +kernel) (by decide +kernel)
theorem kM92 : (Cond.methodLink "TasterPanelsModel" (92 : Nat) ({ cls := "TasterPanelsModel", name := "rightOnes", desc := "(I)I" } : MethodName)) ∈ TT := inTT 450 (by decide +kernel) (by decide +kernel)
theorem kiM_rightOnes : (Cond.instanceMethod ({ cls := "TasterPanelsModel", name := "rightOnes", desc := "(I)I" } : MethodName)) ∈ TT := inTT 452 (by decide +kernel) (by decide +kernel)
theorem kcM_rightOnes : (Cond.code ({ cls := "TasterPanelsModel", name := "rightOnes", desc := "(I)I" } : MethodName) prog_5_method_16_code (4 : Nat) (Option.some FieldType.int)) ∈ TT := inTT 453 (by decide +kernel) (by decide +kernel)
theorem kM88 : (Cond.methodLink "TasterPanelsModel" (88 : Nat) ({ cls := "TasterPanelsModel", name := "isRight", desc := "(II)Z" } : MethodName)) ∈ TT := inTT 454 (by decide +kernel) (by decide +kernel)
theorem kiM_isRight : (Cond.instanceMethod ({ cls := "TasterPanelsModel", name := "isRight", desc := "(II)Z" } : MethodName)) ∈ TT := inTT 456 (by decide +kernel) (by decide +kernel)
theorem kcM_isRight : (Cond.code ({ cls := "TasterPanelsModel", name := "isRight", desc := "(II)Z" } : MethodName) prog_5_method_14_code (3 : Nat) (Option.some FieldType.boolean)) ∈ TT := inTT 457 (by decide +kernel) (by decide +kernel)
theorem kM85 : (Cond.fieldLink "TasterPanelsModel" (85 : Nat) "TasterPanelsModel" "RIGHT" "[I") ∈ TT := inTT 458 (by decide +kernel) (by decide +kernel)
theorem kL51 : (Cond.methodLink "TasterPanelsLaw" (51 : Nat) ({ cls := "TasterPanelsModel", name := "chance", desc := "(II)J" } : MethodName)) ∈ TT := inTT 460 (by decide +kernel) (by decide +kernel)
theorem kiM_chance : (Cond.instanceMethod ({ cls := "TasterPanelsModel", name := "chance", desc := "(II)J" } : MethodName)) ∈ TT := inTT 461 (by decide +kernel) (by decide +kernel)
theorem ksM_chance : (Cond.selects "TasterPanelsModel" ({ cls := "TasterPanelsModel", name := "chance", desc := "(II)J" } : MethodName) ({ cls := "TasterPanelsModel", name := "chance", desc := "(II)J" } : MethodName)) ∈ TT := inTT 462 (by decide +kernel) (by decide +kernel)
theorem kcM_chance : (Cond.code ({ cls := "TasterPanelsModel", name := "chance", desc := "(II)J" } : MethodName) prog_5_method_21_code (5 : Nat) (Option.some FieldType.long)) ∈ TT := inTT 463 (by decide +kernel) (by decide +kernel)
theorem kM95 : (Cond.methodLink "TasterPanelsModel" (95 : Nat) ({ cls := "TasterPanelsModel", name := "answered", desc := "(I)I" } : MethodName)) ∈ TT := inTT 464 (by decide +kernel) (by decide +kernel)
theorem kiM_answered : (Cond.instanceMethod ({ cls := "TasterPanelsModel", name := "answered", desc := "(I)I" } : MethodName)) ∈ TT := inTT 466 (by decide +kernel) (by decide +kernel)
theorem kcM_answered : (Cond.code ({ cls := "TasterPanelsModel", name := "answered", desc := "(I)I" } : MethodName) prog_5_method_15_code (4 : Nat) (Option.some FieldType.int)) ∈ TT := inTT 467 (by decide +kernel) (by decide +kernel)
theorem kM98 : (Cond.constantLong "TasterPanelsModel" (98 : Nat) (-1 : Int64)) ∈ TT := inTT 468 (by decide +kernel) (by decide +kernel)
theorem kM100 : (Cond.methodLink "TasterPanelsModel" (100 : Nat) ({ cls := "TasterPanelsModel", name := "atLeast", desc := "(III)J" } : MethodName)) ∈ TT := inTT 469 (by decide +kernel) (by decide +kernel)
theorem kiM_atLeast : (Cond.instanceMethod ({ cls := "TasterPanelsModel", name := "atLeast", desc := "(III)J" } : MethodName)) ∈ TT := inTT 471 (by decide +kernel) (by decide +kernel)
theorem kcM_atLeast : (Cond.code ({ cls := "TasterPanelsModel", name := "atLeast", desc := "(III)J" } : MethodName) prog_5_method_20_code (7 : Nat) (Option.some FieldType.long)) ∈ TT := inTT 472 (by decide +kernel) (by decide +kernel)
theorem kM104 : (Cond.methodLink "TasterPanelsModel" (104 : Nat) ({ cls := "TasterPanelsModel", name := "power", desc := "(JI)J" } : MethodName)) ∈ TT := inTT 473 (by decide +kernel) (by decide +kernel)
theorem ktM_power : (Cond.static ({ cls := "TasterPanelsModel", name := "power", desc := "(JI)J" } : MethodName)) ∈ TT := inTT 474 (by decide +kernel) (by decide +kernel)
theorem kcM_power : (Cond.code ({ cls := "TasterPanelsModel", name := "power", desc := "(JI)J" } : MethodName) prog_5_method_19_code (6 : Nat) (Option.some FieldType.long)) ∈ TT := inTT 475 (by decide +kernel) (by decide +kernel)
theorem kM108 : (Cond.methodLink "TasterPanelsModel" (108 : Nat) ({ cls := "TasterPanelsModel", name := "reduced", desc := "(JJI)J" } : MethodName)) ∈ TT := inTT 476 (by decide +kernel) (by decide +kernel)
theorem ktM_reduced : (Cond.static ({ cls := "TasterPanelsModel", name := "reduced", desc := "(JJI)J" } : MethodName)) ∈ TT := inTT 477 (by decide +kernel) (by decide +kernel)
theorem kcM_reduced : (Cond.code ({ cls := "TasterPanelsModel", name := "reduced", desc := "(JJI)J" } : MethodName) prog_5_method_18_code (11 : Nat) (Option.some FieldType.long)) ∈ TT := inTT 478 (by decide +kernel) (by decide +kernel)
theorem kL60 : (Cond.methodLink "TasterPanelsLaw" (60 : Nat) ({ cls := "TasterPanelsModel", name := "rank", desc := "(IIII)Z" } : MethodName)) ∈ TT := inTT 479 (by decide +kernel) (by decide +kernel)
theorem kiM_rank : (Cond.instanceMethod ({ cls := "TasterPanelsModel", name := "rank", desc := "(IIII)Z" } : MethodName)) ∈ TT := inTT 480 (by decide +kernel) (by decide +kernel)
theorem ksM_rank : (Cond.selects "TasterPanelsModel" ({ cls := "TasterPanelsModel", name := "rank", desc := "(IIII)Z" } : MethodName) ({ cls := "TasterPanelsModel", name := "rank", desc := "(IIII)Z" } : MethodName)) ∈ TT := inTT 481 (by decide +kernel) (by decide +kernel)
theorem kcM_rank : (Cond.code ({ cls := "TasterPanelsModel", name := "rank", desc := "(IIII)Z" } : MethodName) prog_5_method_22_code (8 : Nat) (Option.some FieldType.boolean)) ∈ TT := inTT 482 (by decide +kernel) (by decide +kernel)
theorem kL64 : (Cond.methodLink "TasterPanelsLaw" (64 : Nat) ({ cls := "TasterPanelsModel", name := "permuted", desc := "(II)J" } : MethodName)) ∈ TT := inTT 483 (by decide +kernel) (by decide +kernel)
theorem kiM_permuted : (Cond.instanceMethod ({ cls := "TasterPanelsModel", name := "permuted", desc := "(II)J" } : MethodName)) ∈ TT := inTT 484 (by decide +kernel) (by decide +kernel)
theorem ksM_permuted : (Cond.selects "TasterPanelsModel" ({ cls := "TasterPanelsModel", name := "permuted", desc := "(II)J" } : MethodName) ({ cls := "TasterPanelsModel", name := "permuted", desc := "(II)J" } : MethodName)) ∈ TT := inTT 485 (by decide +kernel) (by decide +kernel)
theorem kcM_permuted : (Cond.code ({ cls := "TasterPanelsModel", name := "permuted", desc := "(II)J" } : MethodName) prog_5_method_23_code (10 : Nat) (Option.some FieldType.long)) ∈ TT := inTT 486 (by decide +kernel) (by decide +kernel)
theorem kM112 : (Cond.methodLink "TasterPanelsModel" (112 : Nat) ({ cls := "java/lang/System", name := "arraycopy", desc := "(Ljava/lang/Object;ILjava/lang/Object;II)V" } : MethodName)) ∈ TT := inTT 487 (by decide +kernel) (by decide +kernel)
theorem kM118 : (Cond.methodLink "TasterPanelsModel" (118 : Nat) ({ cls := "java/lang/Math", name := "abs", desc := "(I)I" } : MethodName)) ∈ TT := inTT 490 (by decide +kernel) (by decide +kernel)
theorem kL69 : (Cond.methodLink "TasterPanelsLaw" (69 : Nat) ({ cls := "TasterPanelsModel", name := "threshold", desc := "(I)D" } : MethodName)) ∈ TT := inTT 491 (by decide +kernel) (by decide +kernel)
theorem kiM_threshold : (Cond.instanceMethod ({ cls := "TasterPanelsModel", name := "threshold", desc := "(I)D" } : MethodName)) ∈ TT := inTT 492 (by decide +kernel) (by decide +kernel)
theorem ksM_threshold : (Cond.selects "TasterPanelsModel" ({ cls := "TasterPanelsModel", name := "threshold", desc := "(I)D" } : MethodName) ({ cls := "TasterPanelsModel", name := "threshold", desc := "(I)D" } : MethodName)) ∈ TT := inTT 493 (by decide +kernel) (by decide +kernel)
theorem kcM_threshold : (Cond.code ({ cls := "TasterPanelsModel", name := "threshold", desc := "(I)D" } : MethodName) prog_5_method_25_code (7 : Nat) (Option.some FieldType.double)) ∈ TT := inTT 494 (by decide +kernel) (by decide +kernel)
theorem kM125 : (Cond.constantDouble "TasterPanelsModel" (125 : Nat) (13830554455654793216 : UInt64)) ∈ TT := inTT 495 (by decide +kernel) (by decide +kernel)
theorem kM127 : (Cond.constantDouble "TasterPanelsModel" (127 : Nat) (4611686018427387904 : UInt64)) ∈ TT := inTT 496 (by decide +kernel) (by decide +kernel)
theorem kM129 : (Cond.methodLink "TasterPanelsModel" (129 : Nat) ({ cls := "TasterPanelsModel", name := "strength", desc := "(I)D" } : MethodName)) ∈ TT := inTT 497 (by decide +kernel) (by decide +kernel)
theorem ktM_strength : (Cond.static ({ cls := "TasterPanelsModel", name := "strength", desc := "(I)D" } : MethodName)) ∈ TT := inTT 498 (by decide +kernel) (by decide +kernel)
theorem kcM_strength : (Cond.code ({ cls := "TasterPanelsModel", name := "strength", desc := "(I)D" } : MethodName) prog_5_method_24_code (1 : Nat) (Option.some FieldType.double)) ∈ TT := inTT 499 (by decide +kernel) (by decide +kernel)
theorem kM123 : (Cond.constantDouble "TasterPanelsModel" (123 : Nat) (4620693217682128896 : UInt64)) ∈ TT := inTT 500 (by decide +kernel) (by decide +kernel)
theorem kL74 : (Cond.methodLink "TasterPanelsLaw" (74 : Nat) ({ cls := "TasterPanelsModel", name := "level", desc := "(IIZ)Z" } : MethodName)) ∈ TT := inTT 501 (by decide +kernel) (by decide +kernel)
theorem kiM_level : (Cond.instanceMethod ({ cls := "TasterPanelsModel", name := "level", desc := "(IIZ)Z" } : MethodName)) ∈ TT := inTT 502 (by decide +kernel) (by decide +kernel)
theorem ksM_level : (Cond.selects "TasterPanelsModel" ({ cls := "TasterPanelsModel", name := "level", desc := "(IIZ)Z" } : MethodName) ({ cls := "TasterPanelsModel", name := "level", desc := "(IIZ)Z" } : MethodName)) ∈ TT := inTT 503 (by decide +kernel) (by decide +kernel)
theorem kcM_level : (Cond.code ({ cls := "TasterPanelsModel", name := "level", desc := "(IIZ)Z" } : MethodName) prog_5_method_26_code (4 : Nat) (Option.some FieldType.boolean)) ∈ TT := inTT 504 (by decide +kernel) (by decide +kernel)
theorem kL79 : (Cond.methodLink "TasterPanelsLaw" (79 : Nat) ({ cls := "TasterPanelsModel", name := "out", desc := "(I)Z" } : MethodName)) ∈ TT := inTT 505 (by decide +kernel) (by decide +kernel)
theorem kiM_out : (Cond.instanceMethod ({ cls := "TasterPanelsModel", name := "out", desc := "(I)Z" } : MethodName)) ∈ TT := inTT 506 (by decide +kernel) (by decide +kernel)
theorem ksM_out : (Cond.selects "TasterPanelsModel" ({ cls := "TasterPanelsModel", name := "out", desc := "(I)Z" } : MethodName) ({ cls := "TasterPanelsModel", name := "out", desc := "(I)Z" } : MethodName)) ∈ TT := inTT 507 (by decide +kernel) (by decide +kernel)
theorem kcM_out : (Cond.code ({ cls := "TasterPanelsModel", name := "out", desc := "(I)Z" } : MethodName) prog_5_method_27_code (6 : Nat) (Option.some FieldType.boolean)) ∈ TT := inTT 508 (by decide +kernel) (by decide +kernel)
theorem kL86 : (Cond.methodLink "TasterPanelsLaw" (86 : Nat) ({ cls := "TasterPanelsModel", name := "size", desc := "(IJJ)I" } : MethodName)) ∈ TT := inTT 509 (by decide +kernel) (by decide +kernel)
theorem kiM_size : (Cond.instanceMethod ({ cls := "TasterPanelsModel", name := "size", desc := "(IJJ)I" } : MethodName)) ∈ TT := inTT 510 (by decide +kernel) (by decide +kernel)
theorem ksM_size : (Cond.selects "TasterPanelsModel" ({ cls := "TasterPanelsModel", name := "size", desc := "(IJJ)I" } : MethodName) ({ cls := "TasterPanelsModel", name := "size", desc := "(IJJ)I" } : MethodName)) ∈ TT := inTT 511 (by decide +kernel) (by decide +kernel)
theorem kcM_size : (Cond.code ({ cls := "TasterPanelsModel", name := "size", desc := "(IJJ)I" } : MethodName) prog_5_method_28_code (9 : Nat) (Option.some FieldType.int)) ∈ TT := inTT 512 (by decide +kernel) (by decide +kernel)
theorem kM133 : (Cond.constantLong "TasterPanelsModel" (133 : Nat) (3 : Int64)) ∈ TT := inTT 513 (by decide +kernel) (by decide +kernel)
theorem kM135 : (Cond.constantLong "TasterPanelsModel" (135 : Nat) (2 : Int64)) ∈ TT := inTT 514 (by decide +kernel) (by decide +kernel)
theorem kL90 : (Cond.methodLink "TasterPanelsLaw" (90 : Nat) ({ cls := "TasterPanelsModel", name := "row", desc := "(I)I" } : MethodName)) ∈ TT := inTT 515 (by decide +kernel) (by decide +kernel)
theorem kiM_row : (Cond.instanceMethod ({ cls := "TasterPanelsModel", name := "row", desc := "(I)I" } : MethodName)) ∈ TT := inTT 516 (by decide +kernel) (by decide +kernel)
theorem ksM_row : (Cond.selects "TasterPanelsModel" ({ cls := "TasterPanelsModel", name := "row", desc := "(I)I" } : MethodName) ({ cls := "TasterPanelsModel", name := "row", desc := "(I)I" } : MethodName)) ∈ TT := inTT 517 (by decide +kernel) (by decide +kernel)
theorem kcM_row : (Cond.code ({ cls := "TasterPanelsModel", name := "row", desc := "(I)I" } : MethodName) prog_5_method_29_code (3 : Nat) (Option.some FieldType.int)) ∈ TT := inTT 518 (by decide +kernel) (by decide +kernel)
theorem kM137 : (Cond.constantLong "TasterPanelsModel" (137 : Nat) (20 : Int64)) ∈ TT := inTT 519 (by decide +kernel) (by decide +kernel)
theorem kL80 : (Cond.constantLong "TasterPanelsLaw" (80 : Nat) (4294967295 : Int64)) ∈ TT := inTT 520 (by decide +kernel) (by decide +kernel)
theorem ksP_giveOrders : Cond.selects "TasterPanels" (⟨"TasterPanels", "giveOrders", "(LTasterPanels$Test;I)V"⟩ : MethodName) (⟨"TasterPanels", "giveOrders", "(LTasterPanels$Test;I)V"⟩ : MethodName) ∈ TT := inTT 0 (by decide +kernel) (by decide +kernel)
theorem ksP_mixOrders : Cond.selects "TasterPanels" (⟨"TasterPanels", "mixOrders", "(III)V"⟩ : MethodName) (⟨"TasterPanels", "mixOrders", "(III)V"⟩ : MethodName) ∈ TT := inTT 1 (by decide +kernel) (by decide +kernel)
theorem ksP_testAt : Cond.selects "TasterPanels" (⟨"TasterPanels", "testAt", "(I)LTasterPanels$Test;"⟩ : MethodName) (⟨"TasterPanels", "testAt", "(I)LTasterPanels$Test;"⟩ : MethodName) ∈ TT := inTT 2 (by decide +kernel) (by decide +kernel)
theorem ksP_tasterAt : Cond.selects "TasterPanels" (⟨"TasterPanels", "tasterAt", "(I)LTasterPanels$Taster;"⟩ : MethodName) (⟨"TasterPanels", "tasterAt", "(I)LTasterPanels$Taster;"⟩ : MethodName) ∈ TT := inTT 3 (by decide +kernel) (by decide +kernel)
theorem ksP_differenceAt : Cond.selects "TasterPanels" (⟨"TasterPanels", "differenceAt", "(I)LTasterPanels$Test;"⟩ : MethodName) (⟨"TasterPanels", "differenceAt", "(I)LTasterPanels$Test;"⟩ : MethodName) ∈ TT := inTT 4 (by decide +kernel) (by decide +kernel)
theorem ksP_rankingAt : Cond.selects "TasterPanels" (⟨"TasterPanels", "rankingAt", "(I)LTasterPanels$Test;"⟩ : MethodName) (⟨"TasterPanels", "rankingAt", "(I)LTasterPanels$Test;"⟩ : MethodName) ∈ TT := inTT 5 (by decide +kernel) (by decide +kernel)
theorem ksP_waysAsFarAs : Cond.selects "TasterPanels" (⟨"TasterPanels", "waysAsFarAs", "(III)J"⟩ : MethodName) (⟨"TasterPanels", "waysAsFarAs", "(III)J"⟩ : MethodName) ∈ TT := inTT 6 (by decide +kernel) (by decide +kernel)
theorem ksP_countSums : Cond.selects "TasterPanels" (⟨"TasterPanels", "countSums", "(II)V"⟩ : MethodName) (⟨"TasterPanels", "countSums", "(II)V"⟩ : MethodName) ∈ TT := inTT 7 (by decide +kernel) (by decide +kernel)
theorem ksM_isTest : Cond.selects "TasterPanelsModel" (⟨"TasterPanelsModel", "isTest", "(I)Z"⟩ : MethodName) (⟨"TasterPanelsModel", "isTest", "(I)Z"⟩ : MethodName) ∈ TT := inTT 9 (by decide +kernel) (by decide +kernel)
theorem ksM_isTaster : Cond.selects "TasterPanelsModel" (⟨"TasterPanelsModel", "isTaster", "(I)Z"⟩ : MethodName) (⟨"TasterPanelsModel", "isTaster", "(I)Z"⟩ : MethodName) ∈ TT := inTT 10 (by decide +kernel) (by decide +kernel)
theorem ksM_served : Cond.selects "TasterPanelsModel" (⟨"TasterPanelsModel", "served", "(I)I"⟩ : MethodName) (⟨"TasterPanelsModel", "served", "(I)I"⟩ : MethodName) ∈ TT := inTT 11 (by decide +kernel) (by decide +kernel)
theorem ksM_orderOf : Cond.selects "TasterPanelsModel" (⟨"TasterPanelsModel", "orderOf", "(II)I"⟩ : MethodName) (⟨"TasterPanelsModel", "orderOf", "(II)I"⟩ : MethodName) ∈ TT := inTT 12 (by decide +kernel) (by decide +kernel)
theorem ksM_orders : Cond.selects "TasterPanelsModel" (⟨"TasterPanelsModel", "orders", "(I)I"⟩ : MethodName) (⟨"TasterPanelsModel", "orders", "(I)I"⟩ : MethodName) ∈ TT := inTT 13 (by decide +kernel) (by decide +kernel)
theorem ksM_first : Cond.selects "TasterPanelsModel" (⟨"TasterPanelsModel", "first", "(I)I"⟩ : MethodName) (⟨"TasterPanelsModel", "first", "(I)I"⟩ : MethodName) ∈ TT := inTT 14 (by decide +kernel) (by decide +kernel)
theorem ksM_rightOnes : Cond.selects "TasterPanelsModel" (⟨"TasterPanelsModel", "rightOnes", "(I)I"⟩ : MethodName) (⟨"TasterPanelsModel", "rightOnes", "(I)I"⟩ : MethodName) ∈ TT := inTT 15 (by decide +kernel) (by decide +kernel)
theorem ksM_isRight : Cond.selects "TasterPanelsModel" (⟨"TasterPanelsModel", "isRight", "(II)Z"⟩ : MethodName) (⟨"TasterPanelsModel", "isRight", "(II)Z"⟩ : MethodName) ∈ TT := inTT 16 (by decide +kernel) (by decide +kernel)
theorem ksM_answered : Cond.selects "TasterPanelsModel" (⟨"TasterPanelsModel", "answered", "(I)I"⟩ : MethodName) (⟨"TasterPanelsModel", "answered", "(I)I"⟩ : MethodName) ∈ TT := inTT 17 (by decide +kernel) (by decide +kernel)
theorem ksM_atLeast : Cond.selects "TasterPanelsModel" (⟨"TasterPanelsModel", "atLeast", "(III)J"⟩ : MethodName) (⟨"TasterPanelsModel", "atLeast", "(III)J"⟩ : MethodName) ∈ TT := inTT 18 (by decide +kernel) (by decide +kernel)
theorem inT : ∀ w ∈ u_ws RT FT 4, w ∈ TT := by
  intro w hw
  obtain ⟨k, hk, rfl⟩ := List.mem_map.mp hw
  have hk := List.mem_range.mp hk
  match k, hk with
  | 0, _ => exact inTT 81 (by decide +kernel) (by decide +kernel)
  | 1, _ => exact inTT 83 (by decide +kernel) (by decide +kernel)
  | 2, _ => exact inTT 85 (by decide +kernel) (by decide +kernel)
  | 3, _ => exact inTT 87 (by decide +kernel) (by decide +kernel)
  | k + 4, hk => exact absurd hk (by omega)
theorem inS : ∀ w ∈ u_ws RS FS 7, w ∈ TT := by
  intro w hw
  obtain ⟨k, hk, rfl⟩ := List.mem_map.mp hw
  have hk := List.mem_range.mp hk
  match k, hk with
  | 0, _ => exact inTT 115 (by decide +kernel) (by decide +kernel)
  | 1, _ => exact inTT 117 (by decide +kernel) (by decide +kernel)
  | 2, _ => exact inTT 119 (by decide +kernel) (by decide +kernel)
  | 3, _ => exact inTT 121 (by decide +kernel) (by decide +kernel)
  | 4, _ => exact inTT 123 (by decide +kernel) (by decide +kernel)
  | 5, _ => exact inTT 125 (by decide +kernel) (by decide +kernel)
  | 6, _ => exact inTT 127 (by decide +kernel) (by decide +kernel)
  | k + 7, hk => exact absurd hk (by omega)
theorem inP : ∀ w ∈ u_ws RP FP 7, w ∈ TT := by
  intro w hw
  obtain ⟨k, hk, rfl⟩ := List.mem_map.mp hw
  have hk := List.mem_range.mp hk
  match k, hk with
  | 0, _ => exact inTT 49 (by decide +kernel) (by decide +kernel)
  | 1, _ => exact inTT 51 (by decide +kernel) (by decide +kernel)
  | 2, _ => exact inTT 53 (by decide +kernel) (by decide +kernel)
  | 3, _ => exact inTT 55 (by decide +kernel) (by decide +kernel)
  | 4, _ => exact inTT 57 (by decide +kernel) (by decide +kernel)
  | 5, _ => exact inTT 59 (by decide +kernel) (by decide +kernel)
  | 6, _ => exact inTT 61 (by decide +kernel) (by decide +kernel)
  | k + 7, hk => exact absurd hk (by omega)
theorem inM : ∀ w ∈ u_ws RM FM 12, w ∈ TT := by
  intro w hw
  obtain ⟨k, hk, rfl⟩ := List.mem_map.mp hw
  have hk := List.mem_range.mp hk
  match k, hk with
  | 0, _ => exact inTT 368 (by decide +kernel) (by decide +kernel)
  | 1, _ => exact inTT 370 (by decide +kernel) (by decide +kernel)
  | 2, _ => exact inTT 372 (by decide +kernel) (by decide +kernel)
  | 3, _ => exact inTT 374 (by decide +kernel) (by decide +kernel)
  | 4, _ => exact inTT 376 (by decide +kernel) (by decide +kernel)
  | 5, _ => exact inTT 378 (by decide +kernel) (by decide +kernel)
  | 6, _ => exact inTT 380 (by decide +kernel) (by decide +kernel)
  | 7, _ => exact inTT 382 (by decide +kernel) (by decide +kernel)
  | 8, _ => exact inTT 384 (by decide +kernel) (by decide +kernel)
  | 9, _ => exact inTT 386 (by decide +kernel) (by decide +kernel)
  | 10, _ => exact inTT 388 (by decide +kernel) (by decide +kernel)
  | 11, _ => exact inTT 390 (by decide +kernel) (by decide +kernel)
  | k + 12, hk => exact absurd hk (by omega)
/-- the links to private members of the nest -/
def NN : List Cond := [(Cond.methodLinkNest "TasterPanels" (37 : Nat) ({ cls := "TasterPanels$Taster", name := "<init>", desc := "()V" } : MethodName) "TasterPanels"), (Cond.fieldLinkNest "TasterPanels" (136 : Nat) "TasterPanels$Taster" "told" "[Z" "TasterPanels"), (Cond.fieldLinkNest "TasterPanels" (139 : Nat) "TasterPanels$Taster" "found" "[Z" "TasterPanels"), (Cond.fieldLinkNest "TasterPanels" (84 : Nat) "TasterPanels$Taster" "answers" "I" "TasterPanels"), (Cond.fieldLinkNest "TasterPanels" (95 : Nat) "TasterPanels$Taster" "rights" "I" "TasterPanels"), (Cond.methodLinkNest "TasterPanels" (45 : Nat) ({ cls := "TasterPanels$Test", name := "<init>", desc := "(II)V" } : MethodName) "TasterPanels"), (Cond.fieldLinkNest "TasterPanels" (85 : Nat) "TasterPanels$Test" "kind" "I" "TasterPanels"), (Cond.fieldLinkNest "TasterPanels" (74 : Nat) "TasterPanels$Test" "samples" "I" "TasterPanels"), (Cond.fieldLinkNest "TasterPanels" (64 : Nat) "TasterPanels$Test" "orders" "[I" "TasterPanels"), (Cond.fieldLinkNest "TasterPanels" (77 : Nat) "TasterPanels$Test" "answered" "[Z" "TasterPanels"), (Cond.fieldLinkNest "TasterPanels" (124 : Nat) "TasterPanels$Test" "ranks" "[I" "TasterPanels"), (Cond.fieldLinkNest "TasterPanels" (81 : Nat) "TasterPanels$Test" "answers" "I" "TasterPanels"), (Cond.fieldLinkNest "TasterPanels" (92 : Nat) "TasterPanels$Test" "rights" "I" "TasterPanels")]
theorem NN_in : ∀ w ∈ NN, w ∈ lw_tbl := by
  intro w hw
  simp only [NN, List.mem_cons, List.not_mem_nil, or_false] at hw
  rcases hw with rfl | rfl | rfl | rfl | rfl | rfl | rfl | rfl | rfl | rfl | rfl | rfl | rfl
  · exact List.mem_of_getElem? (i := 71) (by decide +kernel)
  · exact List.mem_of_getElem? (i := 76) (by decide +kernel)
  · exact List.mem_of_getElem? (i := 78) (by decide +kernel)
  · exact List.mem_of_getElem? (i := 79) (by decide +kernel)
  · exact List.mem_of_getElem? (i := 80) (by decide +kernel)
  · exact List.mem_of_getElem? (i := 99) (by decide +kernel)
  · exact List.mem_of_getElem? (i := 104) (by decide +kernel)
  · exact List.mem_of_getElem? (i := 106) (by decide +kernel)
  · exact List.mem_of_getElem? (i := 108) (by decide +kernel)
  · exact List.mem_of_getElem? (i := 110) (by decide +kernel)
  · exact List.mem_of_getElem? (i := 112) (by decide +kernel)
  · exact List.mem_of_getElem? (i := 113) (by decide +kernel)
  · exact List.mem_of_getElem? (i := 114) (by decide +kernel)
def Nst (U : State) : Prop := (∀ w ∈ NN, va_Nw w U) ∧ va_AO "TasterPanels$Taster" U ∧ va_AO "TasterPanels$Test" U
theorem kA_T : Cond.arrayOver (.object "TasterPanels$Taster") ∈ lw_tbl := List.mem_of_getElem? (i := 39) (by decide +kernel)
theorem kA_S : Cond.arrayOver (.object "TasterPanels$Test") ∈ lw_tbl := List.mem_of_getElem? (i := 41) (by decide +kernel)
theorem Nst.warm {s U : State} (hW : s.WarmedH U.vm) (h : Nst s) : Nst U := by
  refine ⟨?_, va_AO.moved hW.alike h.2.1, va_AO.moved hW.alike h.2.2⟩
  intro w hw
  have h1 := h.1 w hw
  simp only [NN, List.mem_cons, List.not_mem_nil, or_false] at hw
  rcases hw with rfl | rfl | rfl | rfl | rfl | rfl | rfl | rfl | rfl | rfl | rfl | rfl | rfl
  all_goals first | exact va_Nw.warmF hW h1 | exact va_Nw.warmM hW h1
theorem kN37 {U : State} (h : Nst U) : va_Nw (Cond.methodLinkNest "TasterPanels" (37 : Nat) ({ cls := "TasterPanels$Taster", name := "<init>", desc := "()V" } : MethodName) "TasterPanels") U := h.1 _ (List.mem_of_getElem? (i := 0) rfl)
theorem kN136 {U : State} (h : Nst U) : va_Nw (Cond.fieldLinkNest "TasterPanels" (136 : Nat) "TasterPanels$Taster" "told" "[Z" "TasterPanels") U := h.1 _ (List.mem_of_getElem? (i := 1) rfl)
theorem kN139 {U : State} (h : Nst U) : va_Nw (Cond.fieldLinkNest "TasterPanels" (139 : Nat) "TasterPanels$Taster" "found" "[Z" "TasterPanels") U := h.1 _ (List.mem_of_getElem? (i := 2) rfl)
theorem kN84 {U : State} (h : Nst U) : va_Nw (Cond.fieldLinkNest "TasterPanels" (84 : Nat) "TasterPanels$Taster" "answers" "I" "TasterPanels") U := h.1 _ (List.mem_of_getElem? (i := 3) rfl)
theorem kN95 {U : State} (h : Nst U) : va_Nw (Cond.fieldLinkNest "TasterPanels" (95 : Nat) "TasterPanels$Taster" "rights" "I" "TasterPanels") U := h.1 _ (List.mem_of_getElem? (i := 4) rfl)
theorem kN45 {U : State} (h : Nst U) : va_Nw (Cond.methodLinkNest "TasterPanels" (45 : Nat) ({ cls := "TasterPanels$Test", name := "<init>", desc := "(II)V" } : MethodName) "TasterPanels") U := h.1 _ (List.mem_of_getElem? (i := 5) rfl)
theorem kN85 {U : State} (h : Nst U) : va_Nw (Cond.fieldLinkNest "TasterPanels" (85 : Nat) "TasterPanels$Test" "kind" "I" "TasterPanels") U := h.1 _ (List.mem_of_getElem? (i := 6) rfl)
theorem kN74 {U : State} (h : Nst U) : va_Nw (Cond.fieldLinkNest "TasterPanels" (74 : Nat) "TasterPanels$Test" "samples" "I" "TasterPanels") U := h.1 _ (List.mem_of_getElem? (i := 7) rfl)
theorem kN64 {U : State} (h : Nst U) : va_Nw (Cond.fieldLinkNest "TasterPanels" (64 : Nat) "TasterPanels$Test" "orders" "[I" "TasterPanels") U := h.1 _ (List.mem_of_getElem? (i := 8) rfl)
theorem kN77 {U : State} (h : Nst U) : va_Nw (Cond.fieldLinkNest "TasterPanels" (77 : Nat) "TasterPanels$Test" "answered" "[Z" "TasterPanels") U := h.1 _ (List.mem_of_getElem? (i := 9) rfl)
theorem kN124 {U : State} (h : Nst U) : va_Nw (Cond.fieldLinkNest "TasterPanels" (124 : Nat) "TasterPanels$Test" "ranks" "[I" "TasterPanels") U := h.1 _ (List.mem_of_getElem? (i := 10) rfl)
theorem kN81 {U : State} (h : Nst U) : va_Nw (Cond.fieldLinkNest "TasterPanels" (81 : Nat) "TasterPanels$Test" "answers" "I" "TasterPanels") U := h.1 _ (List.mem_of_getElem? (i := 11) rfl)
theorem kN92 {U : State} (h : Nst U) : va_Nw (Cond.fieldLinkNest "TasterPanels" (92 : Nat) "TasterPanels$Test" "rights" "I" "TasterPanels") U := h.1 _ (List.mem_of_getElem? (i := 12) rfl)
