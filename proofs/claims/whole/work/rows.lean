section
-- ===== PART A: goes FIRST, ahead of the names: the tables' words, and 'selects' of the private methods out of them =====
/-- a private method of a class that the tables say can be made, by its rows of tables_1 -/
def lw_okq (q : MethodName × Nat) : Prop := (q.1.cls ≠ "java/lang/invoke/MethodHandle" ∧ q.1.cls ≠ "java/lang/invoke/VarHandle") ∧ Cond.instantiable q.1.cls q.2 ∈ tables_1 ∧ Cond.privateMethod q.1 ∈ tables_1 ∧ Cond.instanceMethod q.1 ∈ tables_1
theorem lw_p0 : lw_okq (⟨"TasterPanels", "giveOrders", "(LTasterPanels$Test;I)V"⟩, 7) := ⟨⟨by decide +kernel, by decide +kernel⟩, List.mem_of_getElem? (i := 12) (by decide +kernel), List.mem_of_getElem? (i := 112) (by decide +kernel), List.mem_of_getElem? (i := 113) (by decide +kernel)⟩
theorem lw_p1 : lw_okq (⟨"TasterPanels", "mixOrders", "(III)V"⟩, 7) := ⟨⟨by decide +kernel, by decide +kernel⟩, List.mem_of_getElem? (i := 12) (by decide +kernel), List.mem_of_getElem? (i := 121) (by decide +kernel), List.mem_of_getElem? (i := 122) (by decide +kernel)⟩
theorem lw_p2 : lw_okq (⟨"TasterPanels", "testAt", "(I)LTasterPanels$Test;"⟩, 7) := ⟨⟨by decide +kernel, by decide +kernel⟩, List.mem_of_getElem? (i := 12) (by decide +kernel), List.mem_of_getElem? (i := 133) (by decide +kernel), List.mem_of_getElem? (i := 134) (by decide +kernel)⟩
theorem lw_p3 : lw_okq (⟨"TasterPanels", "tasterAt", "(I)LTasterPanels$Taster;"⟩, 7) := ⟨⟨by decide +kernel, by decide +kernel⟩, List.mem_of_getElem? (i := 12) (by decide +kernel), List.mem_of_getElem? (i := 137) (by decide +kernel), List.mem_of_getElem? (i := 138) (by decide +kernel)⟩
theorem lw_p4 : lw_okq (⟨"TasterPanels", "differenceAt", "(I)LTasterPanels$Test;"⟩, 7) := ⟨⟨by decide +kernel, by decide +kernel⟩, List.mem_of_getElem? (i := 12) (by decide +kernel), List.mem_of_getElem? (i := 163) (by decide +kernel), List.mem_of_getElem? (i := 164) (by decide +kernel)⟩
theorem lw_p5 : lw_okq (⟨"TasterPanels", "rankingAt", "(I)LTasterPanels$Test;"⟩, 7) := ⟨⟨by decide +kernel, by decide +kernel⟩, List.mem_of_getElem? (i := 12) (by decide +kernel), List.mem_of_getElem? (i := 204) (by decide +kernel), List.mem_of_getElem? (i := 205) (by decide +kernel)⟩
theorem lw_p6 : lw_okq (⟨"TasterPanels", "waysAsFarAs", "(III)J"⟩, 7) := ⟨⟨by decide +kernel, by decide +kernel⟩, List.mem_of_getElem? (i := 12) (by decide +kernel), List.mem_of_getElem? (i := 221) (by decide +kernel), List.mem_of_getElem? (i := 222) (by decide +kernel)⟩
theorem lw_p7 : lw_okq (⟨"TasterPanels", "countSums", "(II)V"⟩, 7) := ⟨⟨by decide +kernel, by decide +kernel⟩, List.mem_of_getElem? (i := 12) (by decide +kernel), List.mem_of_getElem? (i := 225) (by decide +kernel), List.mem_of_getElem? (i := 226) (by decide +kernel)⟩
theorem lw_p8 : lw_okq (⟨"java/lang/Throwable", "fillInStackTrace", "(I)Ljava/lang/Throwable;"⟩, 6) := ⟨⟨by decide +kernel, by decide +kernel⟩, List.mem_of_getElem? (i := 301) (by decide +kernel), List.mem_of_getElem? (i := 299) (by decide +kernel), List.mem_of_getElem? (i := 300) (by decide +kernel)⟩
theorem lw_p9 : lw_okq (⟨"TasterPanelsModel", "isTest", "(I)Z"⟩, 12) := ⟨⟨by decide +kernel, by decide +kernel⟩, List.mem_of_getElem? (i := 332) (by decide +kernel), List.mem_of_getElem? (i := 391) (by decide +kernel), List.mem_of_getElem? (i := 392) (by decide +kernel)⟩
theorem lw_p10 : lw_okq (⟨"TasterPanelsModel", "isTaster", "(I)Z"⟩, 12) := ⟨⟨by decide +kernel, by decide +kernel⟩, List.mem_of_getElem? (i := 332) (by decide +kernel), List.mem_of_getElem? (i := 395) (by decide +kernel), List.mem_of_getElem? (i := 396) (by decide +kernel)⟩
theorem lw_p11 : lw_okq (⟨"TasterPanelsModel", "served", "(I)I"⟩, 12) := ⟨⟨by decide +kernel, by decide +kernel⟩, List.mem_of_getElem? (i := 332) (by decide +kernel), List.mem_of_getElem? (i := 399) (by decide +kernel), List.mem_of_getElem? (i := 400) (by decide +kernel)⟩
theorem lw_p12 : lw_okq (⟨"TasterPanelsModel", "orderOf", "(II)I"⟩, 12) := ⟨⟨by decide +kernel, by decide +kernel⟩, List.mem_of_getElem? (i := 332) (by decide +kernel), List.mem_of_getElem? (i := 403) (by decide +kernel), List.mem_of_getElem? (i := 404) (by decide +kernel)⟩
theorem lw_p13 : lw_okq (⟨"TasterPanelsModel", "orders", "(I)I"⟩, 12) := ⟨⟨by decide +kernel, by decide +kernel⟩, List.mem_of_getElem? (i := 332) (by decide +kernel), List.mem_of_getElem? (i := 407) (by decide +kernel), List.mem_of_getElem? (i := 408) (by decide +kernel)⟩
theorem lw_p14 : lw_okq (⟨"TasterPanelsModel", "first", "(I)I"⟩, 12) := ⟨⟨by decide +kernel, by decide +kernel⟩, List.mem_of_getElem? (i := 332) (by decide +kernel), List.mem_of_getElem? (i := 420) (by decide +kernel), List.mem_of_getElem? (i := 421) (by decide +kernel)⟩
theorem lw_p15 : lw_okq (⟨"TasterPanelsModel", "rightOnes", "(I)I"⟩, 12) := ⟨⟨by decide +kernel, by decide +kernel⟩, List.mem_of_getElem? (i := 332) (by decide +kernel), List.mem_of_getElem? (i := 432) (by decide +kernel), List.mem_of_getElem? (i := 433) (by decide +kernel)⟩
def lw_privs_1 : List (MethodName × Nat) := [(⟨"TasterPanels", "giveOrders", "(LTasterPanels$Test;I)V"⟩, 7), (⟨"TasterPanels", "mixOrders", "(III)V"⟩, 7), (⟨"TasterPanels", "testAt", "(I)LTasterPanels$Test;"⟩, 7), (⟨"TasterPanels", "tasterAt", "(I)LTasterPanels$Taster;"⟩, 7), (⟨"TasterPanels", "differenceAt", "(I)LTasterPanels$Test;"⟩, 7), (⟨"TasterPanels", "rankingAt", "(I)LTasterPanels$Test;"⟩, 7), (⟨"TasterPanels", "waysAsFarAs", "(III)J"⟩, 7), (⟨"TasterPanels", "countSums", "(II)V"⟩, 7), (⟨"java/lang/Throwable", "fillInStackTrace", "(I)Ljava/lang/Throwable;"⟩, 6), (⟨"TasterPanelsModel", "isTest", "(I)Z"⟩, 12), (⟨"TasterPanelsModel", "isTaster", "(I)Z"⟩, 12), (⟨"TasterPanelsModel", "served", "(I)I"⟩, 12), (⟨"TasterPanelsModel", "orderOf", "(II)I"⟩, 12), (⟨"TasterPanelsModel", "orders", "(I)I"⟩, 12), (⟨"TasterPanelsModel", "first", "(I)I"⟩, 12), (⟨"TasterPanelsModel", "rightOnes", "(I)I"⟩, 12)]
theorem lw_r1 : ∀ q ∈ lw_privs_1, lw_okq q := List.forall_mem_cons.mpr ⟨lw_p0, List.forall_mem_cons.mpr ⟨lw_p1, List.forall_mem_cons.mpr ⟨lw_p2, List.forall_mem_cons.mpr ⟨lw_p3, List.forall_mem_cons.mpr ⟨lw_p4, List.forall_mem_cons.mpr ⟨lw_p5, List.forall_mem_cons.mpr ⟨lw_p6, List.forall_mem_cons.mpr ⟨lw_p7, List.forall_mem_cons.mpr ⟨lw_p8, List.forall_mem_cons.mpr ⟨lw_p9, List.forall_mem_cons.mpr ⟨lw_p10, List.forall_mem_cons.mpr ⟨lw_p11, List.forall_mem_cons.mpr ⟨lw_p12, List.forall_mem_cons.mpr ⟨lw_p13, List.forall_mem_cons.mpr ⟨lw_p14, List.forall_mem_cons.mpr ⟨lw_p15, fun _ h => absurd h List.not_mem_nil⟩⟩⟩⟩⟩⟩⟩⟩⟩⟩⟩⟩⟩⟩⟩⟩
theorem lw_p16 : lw_okq (⟨"TasterPanelsModel", "isRight", "(II)Z"⟩, 12) := ⟨⟨by decide +kernel, by decide +kernel⟩, List.mem_of_getElem? (i := 332) (by decide +kernel), List.mem_of_getElem? (i := 436) (by decide +kernel), List.mem_of_getElem? (i := 437) (by decide +kernel)⟩
theorem lw_p17 : lw_okq (⟨"TasterPanelsModel", "answered", "(I)I"⟩, 12) := ⟨⟨by decide +kernel, by decide +kernel⟩, List.mem_of_getElem? (i := 332) (by decide +kernel), List.mem_of_getElem? (i := 446) (by decide +kernel), List.mem_of_getElem? (i := 447) (by decide +kernel)⟩
theorem lw_p18 : lw_okq (⟨"TasterPanelsModel", "atLeast", "(III)J"⟩, 12) := ⟨⟨by decide +kernel, by decide +kernel⟩, List.mem_of_getElem? (i := 332) (by decide +kernel), List.mem_of_getElem? (i := 451) (by decide +kernel), List.mem_of_getElem? (i := 452) (by decide +kernel)⟩
def lw_privs_2 : List (MethodName × Nat) := [(⟨"TasterPanelsModel", "isRight", "(II)Z"⟩, 12), (⟨"TasterPanelsModel", "answered", "(I)I"⟩, 12), (⟨"TasterPanelsModel", "atLeast", "(III)J"⟩, 12)]
theorem lw_r2 : ∀ q ∈ lw_privs_2, lw_okq q := List.forall_mem_cons.mpr ⟨lw_p16, List.forall_mem_cons.mpr ⟨lw_p17, List.forall_mem_cons.mpr ⟨lw_p18, fun _ h => absurd h List.not_mem_nil⟩⟩⟩
def lw_privs : List (MethodName × Nat) := lw_privs_1 ++ (lw_privs_2)
def lw_tbl : List Cond := k2_sels lw_privs ++ tables_1
theorem lw_privs_ok : ∀ q ∈ lw_privs, lw_okq q := by
  show ∀ q ∈ lw_privs_1 ++ (lw_privs_2), lw_okq q
  exact List.forall_mem_append.mpr ⟨lw_r1, lw_r2⟩
/-- the words that every method takes along: all good ones of the tables -/
def TT : List Cond := lw_tbl.filter goodWord
theorem inTT {w : Cond} (i : Nat) (h : lw_tbl[i]? = some w) (g : goodWord w = true) : w ∈ TT := List.mem_filter.mpr ⟨List.mem_of_getElem? h, g⟩
theorem TT_good {w : Cond} (h : w ∈ TT) : (w.onTables && w.keeps) = true ∨ ∃ ty, w = .arrayClass ty := good_of_word (List.mem_filter.mp h).2
theorem TT_in {w : Cond} (h : w ∈ TT) : w ∈ lw_tbl := (List.mem_filter.mp h).1
theorem TT_gi {ws : List Cond} (h : ∀ w ∈ ws, w ∈ TT) : GoodIn TT ws := fun w hw => ⟨h w hw, TT_good (h w hw)⟩
theorem TT_code {w : Cond} (h : w ∈ TT) : GoodIn TT (w :: TT) := TT_gi (fun v hv => (List.mem_cons.mp hv).elim (fun e => e ▸ h) id)
theorem TT_ap {a b : List Cond} (ha : ∀ w ∈ a, w ∈ TT) (hb : GoodIn TT b) : GoodIn TT (a ++ b) := fun w hw => (List.mem_append.mp hw).elim (fun h => ⟨ha w h, TT_good (ha w h)⟩) (hb w)
theorem TT_S {own : String} {idx : Nat} {y : MethodName} {b : ByteArray} {n : Nat} {r : Option FieldType} (h1 : Cond.methodLink own idx y ∈ TT) (h2 : Cond.static y ∈ TT) (h3 : Cond.initialized y.cls ∈ TT) (h4 : Cond.code y b n r ∈ TT) : GoodIn TT (va_wsS own idx y (Cond.code y b n r :: TT)) := by
  refine TT_ap (fun w hw => ?_) (TT_code h4)
  rcases List.mem_cons.mp hw with rfl | hw
  · exact h1
  rcases List.mem_cons.mp hw with rfl | hw
  · exact h2
  rcases List.mem_cons.mp hw with rfl | hw
  · exact h3
  exact absurd hw List.not_mem_nil
theorem TT_V {own C : String} {idx : Nat} {y : MethodName} {b : ByteArray} {n : Nat} {r : Option FieldType} (h1 : Cond.methodLink own idx y ∈ TT) (h2 : Cond.instanceMethod y ∈ TT) (h5 : Cond.selects C y y ∈ TT) (h3 : Cond.initialized C ∈ TT) (h4 : Cond.code y b n r ∈ TT) : GoodIn TT (wsV own idx C y (Cond.code y b n r :: TT)) := by
  refine TT_ap (fun w hw => ?_) (TT_code h4)
  rcases List.mem_cons.mp hw with rfl | hw
  · exact h1
  rcases List.mem_cons.mp hw with rfl | hw
  · exact h2
  rcases List.mem_cons.mp hw with rfl | hw
  · exact h5
  rcases List.mem_cons.mp hw with rfl | hw
  · exact h3
  exact absurd hw List.not_mem_nil
def RT : String := "TasterPanels$Taster"
def FT : u_T := fun k => match k with
  | 0 => ("TasterPanels$Taster", "told", "[Z", true)
  | 1 => ("TasterPanels$Taster", "found", "[Z", true)
  | 2 => ("TasterPanels$Taster", "answers", "I", false)
  | _ => ("TasterPanels$Taster", "rights", "I", false)
def tyT : Nat → FieldType := fun k => match k with
  | 0 => .array .boolean
  | 1 => .array .boolean
  | 2 => .int
  | _ => .int
theorem nmT : ∀ a, a < 4 → ∀ b, b < 4 → a ≠ b → (FT a).2.1 ≠ (FT b).2.1 := by decide +kernel
theorem tyT_ok : ∀ k, k < 4 → parseFieldDescriptor (FT k).2.2.1 = some (tyT k) := by decide +kernel
def RS : String := "TasterPanels$Test"
def FS : u_T := fun k => match k with
  | 0 => ("TasterPanels$Test", "kind", "I", true)
  | 1 => ("TasterPanels$Test", "samples", "I", true)
  | 2 => ("TasterPanels$Test", "orders", "[I", true)
  | 3 => ("TasterPanels$Test", "answered", "[Z", true)
  | 4 => ("TasterPanels$Test", "ranks", "[I", true)
  | 5 => ("TasterPanels$Test", "answers", "I", false)
  | _ => ("TasterPanels$Test", "rights", "I", false)
def tyS : Nat → FieldType := fun k => match k with
  | 0 => .int
  | 1 => .int
  | 2 => .array .int
  | 3 => .array .boolean
  | 4 => .array .int
  | 5 => .int
  | _ => .int
theorem nmS : ∀ a, a < 7 → ∀ b, b < 7 → a ≠ b → (FS a).2.1 ≠ (FS b).2.1 := by decide +kernel
theorem tyS_ok : ∀ k, k < 7 → parseFieldDescriptor (FS k).2.2.1 = some (tyS k) := by decide +kernel
def RP : String := "TasterPanels"
def FP : u_T := fun k => match k with
  | 0 => ("TasterPanels", "seed", "J", true)
  | 1 => ("TasterPanels", "tasters", "[LTasterPanels$Taster;", true)
  | 2 => ("TasterPanels", "tests", "[LTasterPanels$Test;", true)
  | 3 => ("TasterPanels", "tasterCount", "I", false)
  | 4 => ("TasterPanels", "testCount", "I", false)
  | 5 => ("TasterPanels", "mixed", "[I", true)
  | _ => ("TasterPanels", "sumWays", "[J", true)
def tyP : Nat → FieldType := fun k => match k with
  | 0 => .long
  | 1 => .array (.object "TasterPanels$Taster")
  | 2 => .array (.object "TasterPanels$Test")
  | 3 => .int
  | 4 => .int
  | 5 => .array .int
  | _ => .array .long
theorem nmP : ∀ a, a < 7 → ∀ b, b < 7 → a ≠ b → (FP a).2.1 ≠ (FP b).2.1 := by decide +kernel
theorem tyP_ok : ∀ k, k < 7 → parseFieldDescriptor (FP k).2.2.1 = some (tyP k) := by decide +kernel
def RM : String := "TasterPanelsModel"
def FM : u_T := fun k => match k with
  | 0 => ("TasterPanelsModel", "seed", "J", true)
  | 1 => ("TasterPanelsModel", "tasters", "I", false)
  | 2 => ("TasterPanelsModel", "tests", "I", false)
  | 3 => ("TasterPanelsModel", "kinds", "[I", true)
  | 4 => ("TasterPanelsModel", "samples", "[I", true)
  | 5 => ("TasterPanelsModel", "answers", "[I", true)
  | 6 => ("TasterPanelsModel", "ranks", "[I", true)
  | 7 => ("TasterPanelsModel", "steps", "[I", true)
  | 8 => ("TasterPanelsModel", "mixed", "[I", true)
  | 9 => ("TasterPanelsModel", "ways", "[J", true)
  | 10 => ("TasterPanelsModel", "next", "[J", true)
  | _ => ("TasterPanelsModel", "thrown", "I", false)
def tyM : Nat → FieldType := fun k => match k with
  | 0 => .long
  | 1 => .int
  | 2 => .int
  | 3 => .array .int
  | 4 => .array .int
  | 5 => .array .int
  | 6 => .array .int
  | 7 => .array .int
  | 8 => .array .int
  | 9 => .array .long
  | 10 => .array .long
  | _ => .int
theorem nmM : ∀ a, a < 12 → ∀ b, b < 12 → a ≠ b → (FM a).2.1 ≠ (FM b).2.1 := by decide +kernel
theorem tyM_ok : ∀ k, k < 12 → parseFieldDescriptor (FM k).2.2.1 = some (tyM k) := by decide +kernel
def RL : String := "TasterPanelsLaw"
abbrev vwCl : List vw_C := [(RT, FT, 4), (RS, FS, 7), (RP, FP, 7), (RM, FM, 12)]
abbrev bP_init : ByteArray := prog_1_method_1_code
abbrev yP_init : MethodName := ⟨"TasterPanels", "<init>", "(J)V"⟩
abbrev wP_init : List Cond := Cond.code yP_init bP_init 3 none :: TT
abbrev bP_taster : ByteArray := prog_1_method_2_code
abbrev yP_taster : MethodName := ⟨"TasterPanels", "taster", "()I"⟩
abbrev wP_taster : List Cond := Cond.code yP_taster bP_taster 1 (some FieldType.int) :: TT
abbrev bT_init : ByteArray := prog_2_method_1_code
abbrev yT_init : MethodName := ⟨"TasterPanels$Taster", "<init>", "()V"⟩
abbrev wT_init : List Cond := Cond.code yT_init bT_init 1 none :: TT
abbrev bP_test : ByteArray := prog_1_method_3_code
abbrev yP_test : MethodName := ⟨"TasterPanels", "test", "(II)I"⟩
abbrev wP_test : List Cond := Cond.code yP_test bP_test 4 (some FieldType.int) :: TT
abbrev bP_isKindOf : ByteArray := prog_1_method_19_code
abbrev yP_isKindOf : MethodName := ⟨"TasterPanels", "isKindOf", "(II)Z"⟩
abbrev wP_isKindOf : List Cond := Cond.code yP_isKindOf bP_isKindOf 2 (some FieldType.boolean) :: TT
abbrev bS_init : ByteArray := prog_3_method_1_code
abbrev yS_init : MethodName := ⟨"TasterPanels$Test", "<init>", "(II)V"⟩
abbrev wS_init : List Cond := Cond.code yS_init bS_init 3 none :: TT
abbrev bP_giveOrders : ByteArray := prog_1_method_22_code
abbrev yP_giveOrders : MethodName := ⟨"TasterPanels", "giveOrders", "(LTasterPanels$Test;I)V"⟩
abbrev wP_giveOrders : List Cond := Cond.code yP_giveOrders bP_giveOrders 7 none :: TT
abbrev bP_orderCount : ByteArray := prog_1_method_21_code
abbrev yP_orderCount : MethodName := ⟨"TasterPanels", "orderCount", "(LTasterPanels$Test;)I"⟩
abbrev wP_orderCount : List Cond := Cond.code yP_orderCount bP_orderCount 1 (some FieldType.int) :: TT
abbrev bP_mixOrders : ByteArray := prog_1_method_23_code
abbrev yP_mixOrders : MethodName := ⟨"TasterPanels", "mixOrders", "(III)V"⟩
abbrev wP_mixOrders : List Cond := Cond.code yP_mixOrders bP_mixOrders 9 none :: TT
abbrev bP_order : ByteArray := prog_1_method_4_code
abbrev yP_order : MethodName := ⟨"TasterPanels", "order", "(III)I"⟩
abbrev wP_order : List Cond := Cond.code yP_order bP_order 5 (some FieldType.int) :: TT
abbrev bP_testAt : ByteArray := prog_1_method_16_code
abbrev yP_testAt : MethodName := ⟨"TasterPanels", "testAt", "(I)LTasterPanels$Test;"⟩
abbrev wP_testAt : List Cond := Cond.code yP_testAt bP_testAt 2 (some (FieldType.object "TasterPanels$Test")) :: TT
abbrev bP_tasterAt : ByteArray := prog_1_method_15_code
abbrev yP_tasterAt : MethodName := ⟨"TasterPanels", "tasterAt", "(I)LTasterPanels$Taster;"⟩
abbrev wP_tasterAt : List Cond := Cond.code yP_tasterAt bP_tasterAt 2 (some (FieldType.object "TasterPanels$Taster")) :: TT
abbrev bP_servings : ByteArray := prog_1_method_24_code
abbrev yP_servings : MethodName := ⟨"TasterPanels", "servings", "(LTasterPanels$Test;)I"⟩
abbrev wP_servings : List Cond := Cond.code yP_servings bP_servings 1 (some FieldType.int) :: TT
abbrev bP_served : ByteArray := prog_1_method_25_code
abbrev yP_served : MethodName := ⟨"TasterPanels", "served", "(LTasterPanels$Test;II)I"⟩
abbrev wP_served : List Cond := Cond.code yP_served bP_served 3 (some FieldType.int) :: TT
abbrev bP_sampleInRow : ByteArray := prog_1_method_26_code
abbrev yP_sampleInRow : MethodName := ⟨"TasterPanels", "sampleInRow", "(III)I"⟩
abbrev wP_sampleInRow : List Cond := Cond.code yP_sampleInRow bP_sampleInRow 8 (some FieldType.int) :: TT
abbrev bP_unusedSample : ByteArray := prog_1_method_27_code
abbrev yP_unusedSample : MethodName := ⟨"TasterPanels", "unusedSample", "(II)I"⟩
abbrev wP_unusedSample : List Cond := Cond.code yP_unusedSample bP_unusedSample 4 (some FieldType.int) :: TT
abbrev bP_answer : ByteArray := prog_1_method_5_code
abbrev yP_answer : MethodName := ⟨"TasterPanels", "answer", "(III)Z"⟩
abbrev wP_answer : List Cond := Cond.code yP_answer bP_answer 6 (some FieldType.boolean) :: TT
abbrev bP_differenceAt : ByteArray := prog_1_method_17_code
abbrev yP_differenceAt : MethodName := ⟨"TasterPanels", "differenceAt", "(I)LTasterPanels$Test;"⟩
abbrev wP_differenceAt : List Cond := Cond.code yP_differenceAt bP_differenceAt 3 (some (FieldType.object "TasterPanels$Test")) :: TT
abbrev bP_rightPlace : ByteArray := prog_1_method_28_code
abbrev yP_rightPlace : MethodName := ⟨"TasterPanels", "rightPlace", "(II)I"⟩
abbrev wP_rightPlace : List Cond := Cond.code yP_rightPlace bP_rightPlace 2 (some FieldType.int) :: TT
abbrev bP_chance : ByteArray := prog_1_method_6_code
abbrev yP_chance : MethodName := ⟨"TasterPanels", "chance", "(II)J"⟩
abbrev wP_chance : List Cond := Cond.code yP_chance bP_chance 6 (some FieldType.long) :: TT
abbrev bP_isPart : ByteArray := prog_1_method_20_code
abbrev yP_isPart : MethodName := ⟨"TasterPanels", "isPart", "(I)Z"⟩
abbrev wP_isPart : List Cond := Cond.code yP_isPart bP_isPart 1 (some FieldType.boolean) :: TT
abbrev bP_waysOfAtLeast : ByteArray := prog_1_method_32_code
abbrev yP_waysOfAtLeast : MethodName := ⟨"TasterPanels", "waysOfAtLeast", "(III)J"⟩
abbrev wP_waysOfAtLeast : List Cond := Cond.code yP_waysOfAtLeast bP_waysOfAtLeast 8 (some FieldType.long) :: TT
abbrev bP_power : ByteArray := prog_1_method_36_code
abbrev yP_power : MethodName := ⟨"TasterPanels", "power", "(II)J"⟩
abbrev wP_power : List Cond := Cond.code yP_power bP_power 5 (some FieldType.long) :: TT
abbrev bP_reducedPart : ByteArray := prog_1_method_37_code
abbrev yP_reducedPart : MethodName := ⟨"TasterPanels", "reducedPart", "(JJI)J"⟩
abbrev wP_reducedPart : List Cond := Cond.code yP_reducedPart bP_reducedPart 7 (some FieldType.long) :: TT
abbrev bP_commonDivisor : ByteArray := prog_1_method_38_code
abbrev yP_commonDivisor : MethodName := ⟨"TasterPanels", "commonDivisor", "(JJ)J"⟩
abbrev wP_commonDivisor : List Cond := Cond.code yP_commonDivisor bP_commonDivisor 11 (some FieldType.long) :: TT
abbrev bP_right : ByteArray := prog_1_method_7_code
abbrev yP_right : MethodName := ⟨"TasterPanels", "right", "(I)I"⟩
abbrev wP_right : List Cond := Cond.code yP_right bP_right 3 (some FieldType.int) :: TT
abbrev bP_rank : ByteArray := prog_1_method_8_code
abbrev yP_rank : MethodName := ⟨"TasterPanels", "rank", "(IIII)Z"⟩
abbrev wP_rank : List Cond := Cond.code yP_rank bP_rank 6 (some FieldType.boolean) :: TT
abbrev bP_rankingAt : ByteArray := prog_1_method_18_code
abbrev yP_rankingAt : MethodName := ⟨"TasterPanels", "rankingAt", "(I)LTasterPanels$Test;"⟩
abbrev wP_rankingAt : List Cond := Cond.code yP_rankingAt bP_rankingAt 3 (some (FieldType.object "TasterPanels$Test")) :: TT
abbrev bP_rankOf : ByteArray := prog_1_method_29_code
abbrev yP_rankOf : MethodName := ⟨"TasterPanels", "rankOf", "(LTasterPanels$Test;II)I"⟩
abbrev wP_rankOf : List Cond := Cond.code yP_rankOf bP_rankOf 3 (some FieldType.int) :: TT
abbrev bP_hasGiven : ByteArray := prog_1_method_30_code
abbrev yP_hasGiven : MethodName := ⟨"TasterPanels", "hasGiven", "(LTasterPanels$Test;II)Z"⟩
abbrev wP_hasGiven : List Cond := Cond.code yP_hasGiven bP_hasGiven 4 (some FieldType.boolean) :: TT
abbrev bP_permuted : ByteArray := prog_1_method_9_code
abbrev yP_permuted : MethodName := ⟨"TasterPanels", "permuted", "(II)J"⟩
abbrev wP_permuted : List Cond := Cond.code yP_permuted bP_permuted 8 (some FieldType.long) :: TT
abbrev bP_hasRankedAll : ByteArray := prog_1_method_31_code
abbrev yP_hasRankedAll : MethodName := ⟨"TasterPanels", "hasRankedAll", "(LTasterPanels$Test;I)Z"⟩
abbrev wP_hasRankedAll : List Cond := Cond.code yP_hasRankedAll bP_hasRankedAll 3 (some FieldType.boolean) :: TT
abbrev bP_waysAsFarAs : ByteArray := prog_1_method_33_code
abbrev yP_waysAsFarAs : MethodName := ⟨"TasterPanels", "waysAsFarAs", "(III)J"⟩
abbrev wP_waysAsFarAs : List Cond := Cond.code yP_waysAsFarAs bP_waysAsFarAs 9 (some FieldType.long) :: TT
abbrev bP_countSums : ByteArray := prog_1_method_34_code
abbrev yP_countSums : MethodName := ⟨"TasterPanels", "countSums", "(II)V"⟩
abbrev wP_countSums : List Cond := Cond.code yP_countSums bP_countSums 8 none :: TT
abbrev bP_threshold : ByteArray := prog_1_method_10_code
abbrev yP_threshold : MethodName := ⟨"TasterPanels", "threshold", "(I)D"⟩
abbrev wP_threshold : List Cond := Cond.code yP_threshold bP_threshold 5 (some FieldType.double) :: TT
abbrev bP_strength : ByteArray := prog_1_method_35_code
abbrev yP_strength : MethodName := ⟨"TasterPanels", "strength", "(I)D"⟩
abbrev wP_strength : List Cond := Cond.code yP_strength bP_strength 1 (some FieldType.double) :: TT
abbrev bP_level : ByteArray := prog_1_method_11_code
abbrev yP_level : MethodName := ⟨"TasterPanels", "level", "(IIZ)Z"⟩
abbrev wP_level : List Cond := Cond.code yP_level bP_level 5 (some FieldType.boolean) :: TT
abbrev bP_out : ByteArray := prog_1_method_12_code
abbrev yP_out : MethodName := ⟨"TasterPanels", "out", "(I)Z"⟩
abbrev wP_out : List Cond := Cond.code yP_out bP_out 3 (some FieldType.boolean) :: TT
abbrev bP_size : ByteArray := prog_1_method_13_code
abbrev yP_size : MethodName := ⟨"TasterPanels", "size", "(IJJ)I"⟩
abbrev wP_size : List Cond := Cond.code yP_size bP_size 10 (some FieldType.int) :: TT
abbrev bL_cell : ByteArray := method_2_code
abbrev yL_cell : MethodName := ⟨"TasterPanelsLaw", "cell", "([II)I"⟩
abbrev wL_cell : List Cond := Cond.code yL_cell bL_cell 2 (some FieldType.int) :: TT
abbrev bL_row : ByteArray := method_3_code
abbrev yL_row : MethodName := ⟨"TasterPanelsLaw", "row", "(LTasterPanels;I[J)I"⟩
abbrev bP_row : ByteArray := prog_1_method_14_code
abbrev yP_row : MethodName := ⟨"TasterPanels", "row", "(I)I"⟩
abbrev wP_row : List Cond := Cond.code yP_row bP_row 5 (some FieldType.int) :: TT
abbrev bM_init : ByteArray := prog_5_method_1_code
abbrev yM_init : MethodName := ⟨"TasterPanelsModel", "<init>", "(J)V"⟩
abbrev wM_init : List Cond := Cond.code yM_init bM_init 3 none :: TT
abbrev bM_thrown : ByteArray := prog_5_method_2_code
abbrev yM_thrown : MethodName := ⟨"TasterPanelsModel", "thrown", "()I"⟩
abbrev wM_thrown : List Cond := Cond.code yM_thrown bM_thrown 1 (some FieldType.int) :: TT
abbrev bM_taster : ByteArray := prog_5_method_3_code
abbrev yM_taster : MethodName := ⟨"TasterPanelsModel", "taster", "()I"⟩
abbrev wM_taster : List Cond := Cond.code yM_taster bM_taster 1 (some FieldType.int) :: TT
abbrev bM_test : ByteArray := prog_5_method_4_code
abbrev yM_test : MethodName := ⟨"TasterPanelsModel", "test", "(II)I"⟩
abbrev wM_test : List Cond := Cond.code yM_test bM_test 4 (some FieldType.int) :: TT
abbrev bM_order : ByteArray := prog_5_method_12_code
abbrev yM_order : MethodName := ⟨"TasterPanelsModel", "order", "(III)I"⟩
abbrev wM_order : List Cond := Cond.code yM_order bM_order 5 (some FieldType.int) :: TT
abbrev bM_isTest : ByteArray := prog_5_method_5_code
abbrev yM_isTest : MethodName := ⟨"TasterPanelsModel", "isTest", "(I)Z"⟩
abbrev wM_isTest : List Cond := Cond.code yM_isTest bM_isTest 2 (some FieldType.boolean) :: TT
abbrev bM_isTaster : ByteArray := prog_5_method_6_code
abbrev yM_isTaster : MethodName := ⟨"TasterPanelsModel", "isTaster", "(I)Z"⟩
abbrev wM_isTaster : List Cond := Cond.code yM_isTaster bM_isTaster 2 (some FieldType.boolean) :: TT
abbrev bM_served : ByteArray := prog_5_method_10_code
abbrev yM_served : MethodName := ⟨"TasterPanelsModel", "served", "(I)I"⟩
abbrev wM_served : List Cond := Cond.code yM_served bM_served 2 (some FieldType.int) :: TT
abbrev bM_orderOf : ByteArray := prog_5_method_8_code
abbrev yM_orderOf : MethodName := ⟨"TasterPanelsModel", "orderOf", "(II)I"⟩
abbrev wM_orderOf : List Cond := Cond.code yM_orderOf bM_orderOf 10 (some FieldType.int) :: TT
abbrev bM_orders : ByteArray := prog_5_method_7_code
abbrev yM_orders : MethodName := ⟨"TasterPanelsModel", "orders", "(I)I"⟩
abbrev wM_orders : List Cond := Cond.code yM_orders bM_orders 4 (some FieldType.int) :: TT
abbrev bM_item : ByteArray := prog_5_method_9_code
abbrev yM_item : MethodName := ⟨"TasterPanelsModel", "item", "(III)I"⟩
abbrev wM_item : List Cond := Cond.code yM_item bM_item 9 (some FieldType.int) :: TT
abbrev bM_first : ByteArray := prog_5_method_11_code
abbrev yM_first : MethodName := ⟨"TasterPanelsModel", "first", "(I)I"⟩
abbrev wM_first : List Cond := Cond.code yM_first bM_first 2 (some FieldType.int) :: TT
abbrev bM_answer : ByteArray := prog_5_method_13_code
abbrev yM_answer : MethodName := ⟨"TasterPanelsModel", "answer", "(III)Z"⟩
abbrev wM_answer : List Cond := Cond.code yM_answer bM_answer 4 (some FieldType.boolean) :: TT
abbrev bM_right : ByteArray := prog_5_method_17_code
abbrev yM_right : MethodName := ⟨"TasterPanelsModel", "right", "(I)I"⟩
abbrev wM_right : List Cond := Cond.code yM_right bM_right 2 (some FieldType.int) :: TT
abbrev bM_rightOnes : ByteArray := prog_5_method_16_code
abbrev yM_rightOnes : MethodName := ⟨"TasterPanelsModel", "rightOnes", "(I)I"⟩
abbrev wM_rightOnes : List Cond := Cond.code yM_rightOnes bM_rightOnes 4 (some FieldType.int) :: TT
abbrev bM_isRight : ByteArray := prog_5_method_14_code
abbrev yM_isRight : MethodName := ⟨"TasterPanelsModel", "isRight", "(II)Z"⟩
abbrev wM_isRight : List Cond := Cond.code yM_isRight bM_isRight 3 (some FieldType.boolean) :: TT
abbrev bM_chance : ByteArray := prog_5_method_21_code
abbrev yM_chance : MethodName := ⟨"TasterPanelsModel", "chance", "(II)J"⟩
abbrev wM_chance : List Cond := Cond.code yM_chance bM_chance 5 (some FieldType.long) :: TT
abbrev bM_answered : ByteArray := prog_5_method_15_code
abbrev yM_answered : MethodName := ⟨"TasterPanelsModel", "answered", "(I)I"⟩
abbrev wM_answered : List Cond := Cond.code yM_answered bM_answered 4 (some FieldType.int) :: TT
abbrev bM_atLeast : ByteArray := prog_5_method_20_code
abbrev yM_atLeast : MethodName := ⟨"TasterPanelsModel", "atLeast", "(III)J"⟩
abbrev wM_atLeast : List Cond := Cond.code yM_atLeast bM_atLeast 7 (some FieldType.long) :: TT
abbrev bM_power : ByteArray := prog_5_method_19_code
abbrev yM_power : MethodName := ⟨"TasterPanelsModel", "power", "(JI)J"⟩
abbrev wM_power : List Cond := Cond.code yM_power bM_power 6 (some FieldType.long) :: TT
abbrev bM_reduced : ByteArray := prog_5_method_18_code
abbrev yM_reduced : MethodName := ⟨"TasterPanelsModel", "reduced", "(JJI)J"⟩
abbrev wM_reduced : List Cond := Cond.code yM_reduced bM_reduced 11 (some FieldType.long) :: TT
abbrev bM_rank : ByteArray := prog_5_method_22_code
abbrev yM_rank : MethodName := ⟨"TasterPanelsModel", "rank", "(IIII)Z"⟩
abbrev wM_rank : List Cond := Cond.code yM_rank bM_rank 8 (some FieldType.boolean) :: TT
abbrev bM_permuted : ByteArray := prog_5_method_23_code
abbrev yM_permuted : MethodName := ⟨"TasterPanelsModel", "permuted", "(II)J"⟩
abbrev wM_permuted : List Cond := Cond.code yM_permuted bM_permuted 10 (some FieldType.long) :: TT
abbrev bM_threshold : ByteArray := prog_5_method_25_code
abbrev yM_threshold : MethodName := ⟨"TasterPanelsModel", "threshold", "(I)D"⟩
abbrev wM_threshold : List Cond := Cond.code yM_threshold bM_threshold 7 (some FieldType.double) :: TT
abbrev bM_strength : ByteArray := prog_5_method_24_code
abbrev yM_strength : MethodName := ⟨"TasterPanelsModel", "strength", "(I)D"⟩
abbrev wM_strength : List Cond := Cond.code yM_strength bM_strength 1 (some FieldType.double) :: TT
abbrev bM_level : ByteArray := prog_5_method_26_code
abbrev yM_level : MethodName := ⟨"TasterPanelsModel", "level", "(IIZ)Z"⟩
abbrev wM_level : List Cond := Cond.code yM_level bM_level 4 (some FieldType.boolean) :: TT
abbrev bM_out : ByteArray := prog_5_method_27_code
abbrev yM_out : MethodName := ⟨"TasterPanelsModel", "out", "(I)Z"⟩
abbrev wM_out : List Cond := Cond.code yM_out bM_out 6 (some FieldType.boolean) :: TT
abbrev bM_size : ByteArray := prog_5_method_28_code
abbrev yM_size : MethodName := ⟨"TasterPanelsModel", "size", "(IJJ)I"⟩
abbrev wM_size : List Cond := Cond.code yM_size bM_size 9 (some FieldType.int) :: TT
abbrev bM_row : ByteArray := prog_5_method_29_code
abbrev yM_row : MethodName := ⟨"TasterPanelsModel", "row", "(I)I"⟩
abbrev wM_row : List Cond := Cond.code yM_row bM_row 3 (some FieldType.int) :: TT
theorem knL : (Cond.initialized "TasterPanelsLaw") ∈ TT := inTT 19 (by decide +kernel) (by decide +kernel)
theorem knP : (Cond.initialized "TasterPanels") ∈ TT := inTT 20 (by decide +kernel) (by decide +kernel)
theorem knM : (Cond.initialized "TasterPanelsModel") ∈ TT := inTT 21 (by decide +kernel) (by decide +kernel)
theorem knT : (Cond.initialized "TasterPanels$Taster") ∈ TT := inTT 22 (by decide +kernel) (by decide +kernel)
theorem knS : (Cond.initialized "TasterPanels$Test") ∈ TT := inTT 23 (by decide +kernel) (by decide +kernel)
theorem kn_math : (Cond.initialized "java/lang/Math") ∈ TT := inTT 24 (by decide +kernel) (by decide +kernel)
theorem kL8 : (Cond.classLink "TasterPanelsLaw" (8 : Nat) "TasterPanels") ∈ TT := inTT 30 (by decide +kernel) (by decide +kernel)
theorem kxP : (Cond.instantiable "TasterPanels" (7 : Nat)) ∈ TT := inTT 31 (by decide +kernel) (by decide +kernel)
theorem kL21 : (Cond.methodLink "TasterPanelsLaw" (21 : Nat) ({ cls := "TasterPanels", name := "<init>", desc := "(J)V" } : MethodName)) ∈ TT := inTT 32 (by decide +kernel) (by decide +kernel)
theorem kiP_init : (Cond.instanceMethod ({ cls := "TasterPanels", name := "<init>", desc := "(J)V" } : MethodName)) ∈ TT := inTT 33 (by decide +kernel) (by decide +kernel)
theorem kcP_init : (Cond.code ({ cls := "TasterPanels", name := "<init>", desc := "(J)V" } : MethodName) prog_1_method_1_code (3 : Nat) (Option.none : Option FieldType)) ∈ TT := inTT 34 (by decide +kernel) (by decide +kernel)
theorem kP1 : (Cond.methodLink "TasterPanels" (1 : Nat) ({ cls := "java/lang/Object", name := "<init>", desc := "()V" } : MethodName)) ∈ TT := inTT 35 (by decide +kernel) (by decide +kernel)
theorem ki_obj : (Cond.instanceMethod ({ cls := "java/lang/Object", name := "<init>", desc := "()V" } : MethodName)) ∈ TT := inTT 36 (by decide +kernel) (by decide +kernel)
theorem kc_obj : (Cond.code ({ cls := "java/lang/Object", name := "<init>", desc := "()V" } : MethodName) object_method_1_code (1 : Nat) (Option.none : Option FieldType)) ∈ TT := inTT 37 (by decide +kernel) (by decide +kernel)
theorem kP9 : (Cond.classLink "TasterPanels" (9 : Nat) "TasterPanels$Taster") ∈ TT := inTT 38 (by decide +kernel) (by decide +kernel)
theorem kP15 : (Cond.classLink "TasterPanels" (15 : Nat) "TasterPanels$Test") ∈ TT := inTT 40 (by decide +kernel) (by decide +kernel)
theorem kP29 : (Cond.fieldLink "TasterPanels" (29 : Nat) "TasterPanels" "seed" "J") ∈ TT := inTT 42 (by decide +kernel) (by decide +kernel)
theorem kP11 : (Cond.fieldLink "TasterPanels" (11 : Nat) "TasterPanels" "tasters" "[LTasterPanels$Taster;") ∈ TT := inTT 43 (by decide +kernel) (by decide +kernel)
theorem kP17 : (Cond.fieldLink "TasterPanels" (17 : Nat) "TasterPanels" "tests" "[LTasterPanels$Test;") ∈ TT := inTT 44 (by decide +kernel) (by decide +kernel)
theorem kP33 : (Cond.fieldLink "TasterPanels" (33 : Nat) "TasterPanels" "tasterCount" "I") ∈ TT := inTT 45 (by decide +kernel) (by decide +kernel)
theorem kP42 : (Cond.fieldLink "TasterPanels" (42 : Nat) "TasterPanels" "testCount" "I") ∈ TT := inTT 46 (by decide +kernel) (by decide +kernel)
theorem kP21 : (Cond.fieldLink "TasterPanels" (21 : Nat) "TasterPanels" "mixed" "[I") ∈ TT := inTT 47 (by decide +kernel) (by decide +kernel)
theorem kP25 : (Cond.fieldLink "TasterPanels" (25 : Nat) "TasterPanels" "sumWays" "[J") ∈ TT := inTT 48 (by decide +kernel) (by decide +kernel)
theorem ka_int : (Cond.arrayClass FieldType.int) ∈ TT := inTT 64 (by decide +kernel) (by decide +kernel)
theorem ka_long : (Cond.arrayClass FieldType.long) ∈ TT := inTT 65 (by decide +kernel) (by decide +kernel)
theorem kL27 : (Cond.methodLink "TasterPanelsLaw" (27 : Nat) ({ cls := "TasterPanels", name := "taster", desc := "()I" } : MethodName)) ∈ TT := inTT 66 (by decide +kernel) (by decide +kernel)
theorem kiP_taster : (Cond.instanceMethod ({ cls := "TasterPanels", name := "taster", desc := "()I" } : MethodName)) ∈ TT := inTT 67 (by decide +kernel) (by decide +kernel)
theorem ksP_taster : (Cond.selects "TasterPanels" ({ cls := "TasterPanels", name := "taster", desc := "()I" } : MethodName) ({ cls := "TasterPanels", name := "taster", desc := "()I" } : MethodName)) ∈ TT := inTT 68 (by decide +kernel) (by decide +kernel)
theorem kcP_taster : (Cond.code ({ cls := "TasterPanels", name := "taster", desc := "()I" } : MethodName) prog_1_method_2_code (1 : Nat) (Option.some FieldType.int)) ∈ TT := inTT 69 (by decide +kernel) (by decide +kernel)
theorem kxT : (Cond.instantiable "TasterPanels$Taster" (4 : Nat)) ∈ TT := inTT 70 (by decide +kernel) (by decide +kernel)
theorem kiT_init : (Cond.instanceMethod ({ cls := "TasterPanels$Taster", name := "<init>", desc := "()V" } : MethodName)) ∈ TT := inTT 72 (by decide +kernel) (by decide +kernel)
theorem kcT_init : (Cond.code ({ cls := "TasterPanels$Taster", name := "<init>", desc := "()V" } : MethodName) prog_2_method_1_code (1 : Nat) (Option.none : Option FieldType)) ∈ TT := inTT 73 (by decide +kernel) (by decide +kernel)
theorem kT3 : (Cond.methodLink "TasterPanels$Taster" (3 : Nat) ({ cls := "java/lang/Object", name := "<init>", desc := "()V" } : MethodName)) ∈ TT := inTT 74 (by decide +kernel) (by decide +kernel)
theorem kT9 : (Cond.fieldLink "TasterPanels$Taster" (9 : Nat) "TasterPanels$Taster" "told" "[Z") ∈ TT := inTT 75 (by decide +kernel) (by decide +kernel)
theorem kT15 : (Cond.fieldLink "TasterPanels$Taster" (15 : Nat) "TasterPanels$Taster" "found" "[Z") ∈ TT := inTT 77 (by decide +kernel) (by decide +kernel)
theorem ka_boolean : (Cond.arrayClass FieldType.boolean) ∈ TT := inTT 90 (by decide +kernel) (by decide +kernel)
theorem kL32 : (Cond.methodLink "TasterPanelsLaw" (32 : Nat) ({ cls := "TasterPanels", name := "test", desc := "(II)I" } : MethodName)) ∈ TT := inTT 91 (by decide +kernel) (by decide +kernel)
theorem kiP_test : (Cond.instanceMethod ({ cls := "TasterPanels", name := "test", desc := "(II)I" } : MethodName)) ∈ TT := inTT 92 (by decide +kernel) (by decide +kernel)
theorem ksP_test : (Cond.selects "TasterPanels" ({ cls := "TasterPanels", name := "test", desc := "(II)I" } : MethodName) ({ cls := "TasterPanels", name := "test", desc := "(II)I" } : MethodName)) ∈ TT := inTT 93 (by decide +kernel) (by decide +kernel)
theorem kcP_test : (Cond.code ({ cls := "TasterPanels", name := "test", desc := "(II)I" } : MethodName) prog_1_method_3_code (4 : Nat) (Option.some FieldType.int)) ∈ TT := inTT 94 (by decide +kernel) (by decide +kernel)
theorem kP38 : (Cond.methodLink "TasterPanels" (38 : Nat) ({ cls := "TasterPanels", name := "isKindOf", desc := "(II)Z" } : MethodName)) ∈ TT := inTT 95 (by decide +kernel) (by decide +kernel)
theorem ktP_isKindOf : (Cond.static ({ cls := "TasterPanels", name := "isKindOf", desc := "(II)Z" } : MethodName)) ∈ TT := inTT 96 (by decide +kernel) (by decide +kernel)
theorem kcP_isKindOf : (Cond.code ({ cls := "TasterPanels", name := "isKindOf", desc := "(II)Z" } : MethodName) prog_1_method_19_code (2 : Nat) (Option.some FieldType.boolean)) ∈ TT := inTT 97 (by decide +kernel) (by decide +kernel)
theorem kxS : (Cond.instantiable "TasterPanels$Test" (7 : Nat)) ∈ TT := inTT 98 (by decide +kernel) (by decide +kernel)
theorem kiS_init : (Cond.instanceMethod ({ cls := "TasterPanels$Test", name := "<init>", desc := "(II)V" } : MethodName)) ∈ TT := inTT 100 (by decide +kernel) (by decide +kernel)
theorem kcS_init : (Cond.code ({ cls := "TasterPanels$Test", name := "<init>", desc := "(II)V" } : MethodName) prog_3_method_1_code (3 : Nat) (Option.none : Option FieldType)) ∈ TT := inTT 101 (by decide +kernel) (by decide +kernel)
theorem kS3 : (Cond.methodLink "TasterPanels$Test" (3 : Nat) ({ cls := "java/lang/Object", name := "<init>", desc := "()V" } : MethodName)) ∈ TT := inTT 102 (by decide +kernel) (by decide +kernel)
theorem kS22 : (Cond.fieldLink "TasterPanels$Test" (22 : Nat) "TasterPanels$Test" "kind" "I") ∈ TT := inTT 103 (by decide +kernel) (by decide +kernel)
theorem kS26 : (Cond.fieldLink "TasterPanels$Test" (26 : Nat) "TasterPanels$Test" "samples" "I") ∈ TT := inTT 105 (by decide +kernel) (by decide +kernel)
theorem kS9 : (Cond.fieldLink "TasterPanels$Test" (9 : Nat) "TasterPanels$Test" "orders" "[I") ∈ TT := inTT 107 (by decide +kernel) (by decide +kernel)
theorem kS15 : (Cond.fieldLink "TasterPanels$Test" (15 : Nat) "TasterPanels$Test" "answered" "[Z") ∈ TT := inTT 109 (by decide +kernel) (by decide +kernel)
theorem kS19 : (Cond.fieldLink "TasterPanels$Test" (19 : Nat) "TasterPanels$Test" "ranks" "[I") ∈ TT := inTT 111 (by decide +kernel) (by decide +kernel)
theorem kP48 : (Cond.methodLink "TasterPanels" (48 : Nat) ({ cls := "TasterPanels", name := "giveOrders", desc := "(LTasterPanels$Test;I)V" } : MethodName)) ∈ TT := inTT 130 (by decide +kernel) (by decide +kernel)
theorem kiP_giveOrders : (Cond.instanceMethod ({ cls := "TasterPanels", name := "giveOrders", desc := "(LTasterPanels$Test;I)V" } : MethodName)) ∈ TT := inTT 132 (by decide +kernel) (by decide +kernel)
theorem kcP_giveOrders : (Cond.code ({ cls := "TasterPanels", name := "giveOrders", desc := "(LTasterPanels$Test;I)V" } : MethodName) prog_1_method_22_code (7 : Nat) (Option.none : Option FieldType)) ∈ TT := inTT 133 (by decide +kernel) (by decide +kernel)
theorem kP160 : (Cond.methodLink "TasterPanels" (160 : Nat) ({ cls := "TasterPanels", name := "orderCount", desc := "(LTasterPanels$Test;)I" } : MethodName)) ∈ TT := inTT 134 (by decide +kernel) (by decide +kernel)
theorem ktP_orderCount : (Cond.static ({ cls := "TasterPanels", name := "orderCount", desc := "(LTasterPanels$Test;)I" } : MethodName)) ∈ TT := inTT 135 (by decide +kernel) (by decide +kernel)
theorem kcP_orderCount : (Cond.code ({ cls := "TasterPanels", name := "orderCount", desc := "(LTasterPanels$Test;)I" } : MethodName) prog_1_method_21_code (1 : Nat) (Option.some FieldType.int)) ∈ TT := inTT 136 (by decide +kernel) (by decide +kernel)
theorem kP157 : (Cond.fieldLink "TasterPanels" (157 : Nat) "TasterPanels" "FACTORIALS" "[I") ∈ TT := inTT 137 (by decide +kernel) (by decide +kernel)
theorem kP163 : (Cond.methodLink "TasterPanels" (163 : Nat) ({ cls := "TasterPanels", name := "mixOrders", desc := "(III)V" } : MethodName)) ∈ TT := inTT 139 (by decide +kernel) (by decide +kernel)
theorem kiP_mixOrders : (Cond.instanceMethod ({ cls := "TasterPanels", name := "mixOrders", desc := "(III)V" } : MethodName)) ∈ TT := inTT 141 (by decide +kernel) (by decide +kernel)
theorem kcP_mixOrders : (Cond.code ({ cls := "TasterPanels", name := "mixOrders", desc := "(III)V" } : MethodName) prog_1_method_23_code (9 : Nat) (Option.none : Option FieldType)) ∈ TT := inTT 142 (by decide +kernel) (by decide +kernel)
theorem kP167 : (Cond.constantLong "TasterPanels" (167 : Nat) (1000003 : Int64)) ∈ TT := inTT 143 (by decide +kernel) (by decide +kernel)
theorem kP169 : (Cond.constantLong "TasterPanels" (169 : Nat) (7919 : Int64)) ∈ TT := inTT 144 (by decide +kernel) (by decide +kernel)
theorem kP171 : (Cond.constantLong "TasterPanels" (171 : Nat) (6364136223846793005 : Int64)) ∈ TT := inTT 145 (by decide +kernel) (by decide +kernel)
theorem kP173 : (Cond.constantLong "TasterPanels" (173 : Nat) (1442695040888963407 : Int64)) ∈ TT := inTT 146 (by decide +kernel) (by decide +kernel)
theorem kL37 : (Cond.methodLink "TasterPanelsLaw" (37 : Nat) ({ cls := "TasterPanels", name := "order", desc := "(III)I" } : MethodName)) ∈ TT := inTT 147 (by decide +kernel) (by decide +kernel)
theorem kiP_order : (Cond.instanceMethod ({ cls := "TasterPanels", name := "order", desc := "(III)I" } : MethodName)) ∈ TT := inTT 148 (by decide +kernel) (by decide +kernel)
theorem ksP_order : (Cond.selects "TasterPanels" ({ cls := "TasterPanels", name := "order", desc := "(III)I" } : MethodName) ({ cls := "TasterPanels", name := "order", desc := "(III)I" } : MethodName)) ∈ TT := inTT 149 (by decide +kernel) (by decide +kernel)
theorem kcP_order : (Cond.code ({ cls := "TasterPanels", name := "order", desc := "(III)I" } : MethodName) prog_1_method_4_code (5 : Nat) (Option.some FieldType.int)) ∈ TT := inTT 150 (by decide +kernel) (by decide +kernel)
theorem kP52 : (Cond.methodLink "TasterPanels" (52 : Nat) ({ cls := "TasterPanels", name := "testAt", desc := "(I)LTasterPanels$Test;" } : MethodName)) ∈ TT := inTT 151 (by decide +kernel) (by decide +kernel)
theorem kiP_testAt : (Cond.instanceMethod ({ cls := "TasterPanels", name := "testAt", desc := "(I)LTasterPanels$Test;" } : MethodName)) ∈ TT := inTT 153 (by decide +kernel) (by decide +kernel)
theorem kcP_testAt : (Cond.code ({ cls := "TasterPanels", name := "testAt", desc := "(I)LTasterPanels$Test;" } : MethodName) prog_1_method_16_code (2 : Nat) (Option.some (FieldType.object "TasterPanels$Test"))) ∈ TT := inTT 154 (by decide +kernel) (by decide +kernel)
theorem kP56 : (Cond.methodLink "TasterPanels" (56 : Nat) ({ cls := "TasterPanels", name := "tasterAt", desc := "(I)LTasterPanels$Taster;" } : MethodName)) ∈ TT := inTT 155 (by decide +kernel) (by decide +kernel)
theorem kiP_tasterAt : (Cond.instanceMethod ({ cls := "TasterPanels", name := "tasterAt", desc := "(I)LTasterPanels$Taster;" } : MethodName)) ∈ TT := inTT 157 (by decide +kernel) (by decide +kernel)
theorem kcP_tasterAt : (Cond.code ({ cls := "TasterPanels", name := "tasterAt", desc := "(I)LTasterPanels$Taster;" } : MethodName) prog_1_method_15_code (2 : Nat) (Option.some (FieldType.object "TasterPanels$Taster"))) ∈ TT := inTT 158 (by decide +kernel) (by decide +kernel)
theorem kP60 : (Cond.methodLink "TasterPanels" (60 : Nat) ({ cls := "TasterPanels", name := "servings", desc := "(LTasterPanels$Test;)I" } : MethodName)) ∈ TT := inTT 159 (by decide +kernel) (by decide +kernel)
theorem ktP_servings : (Cond.static ({ cls := "TasterPanels", name := "servings", desc := "(LTasterPanels$Test;)I" } : MethodName)) ∈ TT := inTT 160 (by decide +kernel) (by decide +kernel)
theorem kcP_servings : (Cond.code ({ cls := "TasterPanels", name := "servings", desc := "(LTasterPanels$Test;)I" } : MethodName) prog_1_method_24_code (1 : Nat) (Option.some FieldType.int)) ∈ TT := inTT 161 (by decide +kernel) (by decide +kernel)
theorem kP67 : (Cond.methodLink "TasterPanels" (67 : Nat) ({ cls := "TasterPanels", name := "served", desc := "(LTasterPanels$Test;II)I" } : MethodName)) ∈ TT := inTT 162 (by decide +kernel) (by decide +kernel)
theorem ktP_served : (Cond.static ({ cls := "TasterPanels", name := "served", desc := "(LTasterPanels$Test;II)I" } : MethodName)) ∈ TT := inTT 163 (by decide +kernel) (by decide +kernel)
theorem kcP_served : (Cond.code ({ cls := "TasterPanels", name := "served", desc := "(LTasterPanels$Test;II)I" } : MethodName) prog_1_method_25_code (3 : Nat) (Option.some FieldType.int)) ∈ TT := inTT 164 (by decide +kernel) (by decide +kernel)
theorem kP175 : (Cond.fieldLink "TasterPanels" (175 : Nat) "TasterPanels" "TRIANGLE_SERVED" "[I") ∈ TT := inTT 165 (by decide +kernel) (by decide +kernel)
theorem kP178 : (Cond.fieldLink "TasterPanels" (178 : Nat) "TasterPanels" "PAIR_SERVED" "[I") ∈ TT := inTT 167 (by decide +kernel) (by decide +kernel)
theorem kP181 : (Cond.fieldLink "TasterPanels" (181 : Nat) "TasterPanels" "DUO_SERVED" "[I") ∈ TT := inTT 169 (by decide +kernel) (by decide +kernel)
theorem kP184 : (Cond.methodLink "TasterPanels" (184 : Nat) ({ cls := "TasterPanels", name := "sampleInRow", desc := "(III)I" } : MethodName)) ∈ TT := inTT 171 (by decide +kernel) (by decide +kernel)
theorem ktP_sampleInRow : (Cond.static ({ cls := "TasterPanels", name := "sampleInRow", desc := "(III)I" } : MethodName)) ∈ TT := inTT 172 (by decide +kernel) (by decide +kernel)
theorem kcP_sampleInRow : (Cond.code ({ cls := "TasterPanels", name := "sampleInRow", desc := "(III)I" } : MethodName) prog_1_method_26_code (8 : Nat) (Option.some FieldType.int)) ∈ TT := inTT 173 (by decide +kernel) (by decide +kernel)
theorem kP188 : (Cond.methodLink "TasterPanels" (188 : Nat) ({ cls := "TasterPanels", name := "unusedSample", desc := "(II)I" } : MethodName)) ∈ TT := inTT 174 (by decide +kernel) (by decide +kernel)
theorem ktP_unusedSample : (Cond.static ({ cls := "TasterPanels", name := "unusedSample", desc := "(II)I" } : MethodName)) ∈ TT := inTT 175 (by decide +kernel) (by decide +kernel)
theorem kcP_unusedSample : (Cond.code ({ cls := "TasterPanels", name := "unusedSample", desc := "(II)I" } : MethodName) prog_1_method_27_code (4 : Nat) (Option.some FieldType.int)) ∈ TT := inTT 176 (by decide +kernel) (by decide +kernel)
theorem kL42 : (Cond.methodLink "TasterPanelsLaw" (42 : Nat) ({ cls := "TasterPanels", name := "answer", desc := "(III)Z" } : MethodName)) ∈ TT := inTT 177 (by decide +kernel) (by decide +kernel)
theorem kiP_answer : (Cond.instanceMethod ({ cls := "TasterPanels", name := "answer", desc := "(III)Z" } : MethodName)) ∈ TT := inTT 178 (by decide +kernel) (by decide +kernel)
theorem ksP_answer : (Cond.selects "TasterPanels" ({ cls := "TasterPanels", name := "answer", desc := "(III)Z" } : MethodName) ({ cls := "TasterPanels", name := "answer", desc := "(III)Z" } : MethodName)) ∈ TT := inTT 179 (by decide +kernel) (by decide +kernel)
theorem kcP_answer : (Cond.code ({ cls := "TasterPanels", name := "answer", desc := "(III)Z" } : MethodName) prog_1_method_5_code (6 : Nat) (Option.some FieldType.boolean)) ∈ TT := inTT 180 (by decide +kernel) (by decide +kernel)
theorem kP71 : (Cond.methodLink "TasterPanels" (71 : Nat) ({ cls := "TasterPanels", name := "differenceAt", desc := "(I)LTasterPanels$Test;" } : MethodName)) ∈ TT := inTT 181 (by decide +kernel) (by decide +kernel)
theorem kiP_differenceAt : (Cond.instanceMethod ({ cls := "TasterPanels", name := "differenceAt", desc := "(I)LTasterPanels$Test;" } : MethodName)) ∈ TT := inTT 183 (by decide +kernel) (by decide +kernel)
theorem kcP_differenceAt : (Cond.code ({ cls := "TasterPanels", name := "differenceAt", desc := "(I)LTasterPanels$Test;" } : MethodName) prog_1_method_17_code (3 : Nat) (Option.some (FieldType.object "TasterPanels$Test"))) ∈ TT := inTT 184 (by decide +kernel) (by decide +kernel)
theorem kP88 : (Cond.methodLink "TasterPanels" (88 : Nat) ({ cls := "TasterPanels", name := "rightPlace", desc := "(II)I" } : MethodName)) ∈ TT := inTT 185 (by decide +kernel) (by decide +kernel)
theorem ktP_rightPlace : (Cond.static ({ cls := "TasterPanels", name := "rightPlace", desc := "(II)I" } : MethodName)) ∈ TT := inTT 186 (by decide +kernel) (by decide +kernel)
theorem kcP_rightPlace : (Cond.code ({ cls := "TasterPanels", name := "rightPlace", desc := "(II)I" } : MethodName) prog_1_method_28_code (2 : Nat) (Option.some FieldType.int)) ∈ TT := inTT 187 (by decide +kernel) (by decide +kernel)
theorem kP191 : (Cond.fieldLink "TasterPanels" (191 : Nat) "TasterPanels" "TRIANGLE_RIGHT" "[I") ∈ TT := inTT 188 (by decide +kernel) (by decide +kernel)
theorem kP194 : (Cond.fieldLink "TasterPanels" (194 : Nat) "TasterPanels" "PAIR_RIGHT" "[I") ∈ TT := inTT 190 (by decide +kernel) (by decide +kernel)
theorem kP197 : (Cond.fieldLink "TasterPanels" (197 : Nat) "TasterPanels" "DUO_RIGHT" "[I") ∈ TT := inTT 192 (by decide +kernel) (by decide +kernel)
theorem kL47 : (Cond.methodLink "TasterPanelsLaw" (47 : Nat) ({ cls := "TasterPanels", name := "chance", desc := "(II)J" } : MethodName)) ∈ TT := inTT 194 (by decide +kernel) (by decide +kernel)
theorem kiP_chance : (Cond.instanceMethod ({ cls := "TasterPanels", name := "chance", desc := "(II)J" } : MethodName)) ∈ TT := inTT 195 (by decide +kernel) (by decide +kernel)
theorem ksP_chance : (Cond.selects "TasterPanels" ({ cls := "TasterPanels", name := "chance", desc := "(II)J" } : MethodName) ({ cls := "TasterPanels", name := "chance", desc := "(II)J" } : MethodName)) ∈ TT := inTT 196 (by decide +kernel) (by decide +kernel)
theorem kcP_chance : (Cond.code ({ cls := "TasterPanels", name := "chance", desc := "(II)J" } : MethodName) prog_1_method_6_code (6 : Nat) (Option.some FieldType.long)) ∈ TT := inTT 197 (by decide +kernel) (by decide +kernel)
theorem kP96 : (Cond.methodLink "TasterPanels" (96 : Nat) ({ cls := "TasterPanels", name := "isPart", desc := "(I)Z" } : MethodName)) ∈ TT := inTT 198 (by decide +kernel) (by decide +kernel)
theorem ktP_isPart : (Cond.static ({ cls := "TasterPanels", name := "isPart", desc := "(I)Z" } : MethodName)) ∈ TT := inTT 199 (by decide +kernel) (by decide +kernel)
theorem kcP_isPart : (Cond.code ({ cls := "TasterPanels", name := "isPart", desc := "(I)Z" } : MethodName) prog_1_method_20_code (1 : Nat) (Option.some FieldType.boolean)) ∈ TT := inTT 200 (by decide +kernel) (by decide +kernel)
theorem kP100 : (Cond.constantLong "TasterPanels" (100 : Nat) (-1 : Int64)) ∈ TT := inTT 201 (by decide +kernel) (by decide +kernel)
theorem kP102 : (Cond.methodLink "TasterPanels" (102 : Nat) ({ cls := "TasterPanels", name := "waysOfAtLeast", desc := "(III)J" } : MethodName)) ∈ TT := inTT 202 (by decide +kernel) (by decide +kernel)
theorem ktP_waysOfAtLeast : (Cond.static ({ cls := "TasterPanels", name := "waysOfAtLeast", desc := "(III)J" } : MethodName)) ∈ TT := inTT 203 (by decide +kernel) (by decide +kernel)
theorem kcP_waysOfAtLeast : (Cond.code ({ cls := "TasterPanels", name := "waysOfAtLeast", desc := "(III)J" } : MethodName) prog_1_method_32_code (8 : Nat) (Option.some FieldType.long)) ∈ TT := inTT 204 (by decide +kernel) (by decide +kernel)
theorem kP106 : (Cond.methodLink "TasterPanels" (106 : Nat) ({ cls := "TasterPanels", name := "power", desc := "(II)J" } : MethodName)) ∈ TT := inTT 205 (by decide +kernel) (by decide +kernel)
theorem ktP_power : (Cond.static ({ cls := "TasterPanels", name := "power", desc := "(II)J" } : MethodName)) ∈ TT := inTT 206 (by decide +kernel) (by decide +kernel)
theorem kcP_power : (Cond.code ({ cls := "TasterPanels", name := "power", desc := "(II)J" } : MethodName) prog_1_method_36_code (5 : Nat) (Option.some FieldType.long)) ∈ TT := inTT 207 (by decide +kernel) (by decide +kernel)
theorem kP110 : (Cond.methodLink "TasterPanels" (110 : Nat) ({ cls := "TasterPanels", name := "reducedPart", desc := "(JJI)J" } : MethodName)) ∈ TT := inTT 208 (by decide +kernel) (by decide +kernel)
theorem ktP_reducedPart : (Cond.static ({ cls := "TasterPanels", name := "reducedPart", desc := "(JJI)J" } : MethodName)) ∈ TT := inTT 209 (by decide +kernel) (by decide +kernel)
theorem kcP_reducedPart : (Cond.code ({ cls := "TasterPanels", name := "reducedPart", desc := "(JJI)J" } : MethodName) prog_1_method_37_code (7 : Nat) (Option.some FieldType.long)) ∈ TT := inTT 210 (by decide +kernel) (by decide +kernel)
theorem kP211 : (Cond.methodLink "TasterPanels" (211 : Nat) ({ cls := "TasterPanels", name := "commonDivisor", desc := "(JJ)J" } : MethodName)) ∈ TT := inTT 211 (by decide +kernel) (by decide +kernel)
theorem ktP_commonDivisor : (Cond.static ({ cls := "TasterPanels", name := "commonDivisor", desc := "(JJ)J" } : MethodName)) ∈ TT := inTT 212 (by decide +kernel) (by decide +kernel)
theorem kcP_commonDivisor : (Cond.code ({ cls := "TasterPanels", name := "commonDivisor", desc := "(JJ)J" } : MethodName) prog_1_method_38_code (11 : Nat) (Option.some FieldType.long)) ∈ TT := inTT 213 (by decide +kernel) (by decide +kernel)
theorem kL52 : (Cond.methodLink "TasterPanelsLaw" (52 : Nat) ({ cls := "TasterPanels", name := "right", desc := "(I)I" } : MethodName)) ∈ TT := inTT 214 (by decide +kernel) (by decide +kernel)
theorem kiP_right : (Cond.instanceMethod ({ cls := "TasterPanels", name := "right", desc := "(I)I" } : MethodName)) ∈ TT := inTT 215 (by decide +kernel) (by decide +kernel)
theorem ksP_right : (Cond.selects "TasterPanels" ({ cls := "TasterPanels", name := "right", desc := "(I)I" } : MethodName) ({ cls := "TasterPanels", name := "right", desc := "(I)I" } : MethodName)) ∈ TT := inTT 216 (by decide +kernel) (by decide +kernel)
theorem kcP_right : (Cond.code ({ cls := "TasterPanels", name := "right", desc := "(I)I" } : MethodName) prog_1_method_7_code (3 : Nat) (Option.some FieldType.int)) ∈ TT := inTT 217 (by decide +kernel) (by decide +kernel)
theorem kL56 : (Cond.methodLink "TasterPanelsLaw" (56 : Nat) ({ cls := "TasterPanels", name := "rank", desc := "(IIII)Z" } : MethodName)) ∈ TT := inTT 218 (by decide +kernel) (by decide +kernel)
theorem kiP_rank : (Cond.instanceMethod ({ cls := "TasterPanels", name := "rank", desc := "(IIII)Z" } : MethodName)) ∈ TT := inTT 219 (by decide +kernel) (by decide +kernel)
theorem ksP_rank : (Cond.selects "TasterPanels" ({ cls := "TasterPanels", name := "rank", desc := "(IIII)Z" } : MethodName) ({ cls := "TasterPanels", name := "rank", desc := "(IIII)Z" } : MethodName)) ∈ TT := inTT 220 (by decide +kernel) (by decide +kernel)
theorem kcP_rank : (Cond.code ({ cls := "TasterPanels", name := "rank", desc := "(IIII)Z" } : MethodName) prog_1_method_8_code (6 : Nat) (Option.some FieldType.boolean)) ∈ TT := inTT 221 (by decide +kernel) (by decide +kernel)
theorem kP114 : (Cond.methodLink "TasterPanels" (114 : Nat) ({ cls := "TasterPanels", name := "rankingAt", desc := "(I)LTasterPanels$Test;" } : MethodName)) ∈ TT := inTT 222 (by decide +kernel) (by decide +kernel)
theorem kiP_rankingAt : (Cond.instanceMethod ({ cls := "TasterPanels", name := "rankingAt", desc := "(I)LTasterPanels$Test;" } : MethodName)) ∈ TT := inTT 224 (by decide +kernel) (by decide +kernel)
theorem kcP_rankingAt : (Cond.code ({ cls := "TasterPanels", name := "rankingAt", desc := "(I)LTasterPanels$Test;" } : MethodName) prog_1_method_18_code (3 : Nat) (Option.some (FieldType.object "TasterPanels$Test"))) ∈ TT := inTT 225 (by decide +kernel) (by decide +kernel)
theorem kP117 : (Cond.methodLink "TasterPanels" (117 : Nat) ({ cls := "TasterPanels", name := "rankOf", desc := "(LTasterPanels$Test;II)I" } : MethodName)) ∈ TT := inTT 226 (by decide +kernel) (by decide +kernel)
theorem ktP_rankOf : (Cond.static ({ cls := "TasterPanels", name := "rankOf", desc := "(LTasterPanels$Test;II)I" } : MethodName)) ∈ TT := inTT 227 (by decide +kernel) (by decide +kernel)
theorem kcP_rankOf : (Cond.code ({ cls := "TasterPanels", name := "rankOf", desc := "(LTasterPanels$Test;II)I" } : MethodName) prog_1_method_29_code (3 : Nat) (Option.some FieldType.int)) ∈ TT := inTT 228 (by decide +kernel) (by decide +kernel)
theorem kP120 : (Cond.methodLink "TasterPanels" (120 : Nat) ({ cls := "TasterPanels", name := "hasGiven", desc := "(LTasterPanels$Test;II)Z" } : MethodName)) ∈ TT := inTT 229 (by decide +kernel) (by decide +kernel)
theorem ktP_hasGiven : (Cond.static ({ cls := "TasterPanels", name := "hasGiven", desc := "(LTasterPanels$Test;II)Z" } : MethodName)) ∈ TT := inTT 230 (by decide +kernel) (by decide +kernel)
theorem kcP_hasGiven : (Cond.code ({ cls := "TasterPanels", name := "hasGiven", desc := "(LTasterPanels$Test;II)Z" } : MethodName) prog_1_method_30_code (4 : Nat) (Option.some FieldType.boolean)) ∈ TT := inTT 231 (by decide +kernel) (by decide +kernel)
theorem kL61 : (Cond.methodLink "TasterPanelsLaw" (61 : Nat) ({ cls := "TasterPanels", name := "permuted", desc := "(II)J" } : MethodName)) ∈ TT := inTT 232 (by decide +kernel) (by decide +kernel)
theorem kiP_permuted : (Cond.instanceMethod ({ cls := "TasterPanels", name := "permuted", desc := "(II)J" } : MethodName)) ∈ TT := inTT 233 (by decide +kernel) (by decide +kernel)
theorem ksP_permuted : (Cond.selects "TasterPanels" ({ cls := "TasterPanels", name := "permuted", desc := "(II)J" } : MethodName) ({ cls := "TasterPanels", name := "permuted", desc := "(II)J" } : MethodName)) ∈ TT := inTT 234 (by decide +kernel) (by decide +kernel)
theorem kcP_permuted : (Cond.code ({ cls := "TasterPanels", name := "permuted", desc := "(II)J" } : MethodName) prog_1_method_9_code (8 : Nat) (Option.some FieldType.long)) ∈ TT := inTT 235 (by decide +kernel) (by decide +kernel)
theorem kP127 : (Cond.methodLink "TasterPanels" (127 : Nat) ({ cls := "TasterPanels", name := "hasRankedAll", desc := "(LTasterPanels$Test;I)Z" } : MethodName)) ∈ TT := inTT 236 (by decide +kernel) (by decide +kernel)
theorem ktP_hasRankedAll : (Cond.static ({ cls := "TasterPanels", name := "hasRankedAll", desc := "(LTasterPanels$Test;I)Z" } : MethodName)) ∈ TT := inTT 237 (by decide +kernel) (by decide +kernel)
theorem kcP_hasRankedAll : (Cond.code ({ cls := "TasterPanels", name := "hasRankedAll", desc := "(LTasterPanels$Test;I)Z" } : MethodName) prog_1_method_31_code (3 : Nat) (Option.some FieldType.boolean)) ∈ TT := inTT 238 (by decide +kernel) (by decide +kernel)
theorem kP131 : (Cond.methodLink "TasterPanels" (131 : Nat) ({ cls := "TasterPanels", name := "waysAsFarAs", desc := "(III)J" } : MethodName)) ∈ TT := inTT 239 (by decide +kernel) (by decide +kernel)
theorem kiP_waysAsFarAs : (Cond.instanceMethod ({ cls := "TasterPanels", name := "waysAsFarAs", desc := "(III)J" } : MethodName)) ∈ TT := inTT 241 (by decide +kernel) (by decide +kernel)
theorem kcP_waysAsFarAs : (Cond.code ({ cls := "TasterPanels", name := "waysAsFarAs", desc := "(III)J" } : MethodName) prog_1_method_33_code (9 : Nat) (Option.some FieldType.long)) ∈ TT := inTT 242 (by decide +kernel) (by decide +kernel)
theorem kP200 : (Cond.methodLink "TasterPanels" (200 : Nat) ({ cls := "TasterPanels", name := "countSums", desc := "(II)V" } : MethodName)) ∈ TT := inTT 243 (by decide +kernel) (by decide +kernel)
theorem kiP_countSums : (Cond.instanceMethod ({ cls := "TasterPanels", name := "countSums", desc := "(II)V" } : MethodName)) ∈ TT := inTT 245 (by decide +kernel) (by decide +kernel)
theorem kcP_countSums : (Cond.code ({ cls := "TasterPanels", name := "countSums", desc := "(II)V" } : MethodName) prog_1_method_34_code (8 : Nat) (Option.none : Option FieldType)) ∈ TT := inTT 246 (by decide +kernel) (by decide +kernel)
theorem kP203 : (Cond.methodLink "TasterPanels" (203 : Nat) ({ cls := "java/lang/Math", name := "abs", desc := "(I)I" } : MethodName)) ∈ TT := inTT 247 (by decide +kernel) (by decide +kernel)
theorem kt_abs : (Cond.static ({ cls := "java/lang/Math", name := "abs", desc := "(I)I" } : MethodName)) ∈ TT := inTT 248 (by decide +kernel) (by decide +kernel)
theorem kc_abs : (Cond.code ({ cls := "java/lang/Math", name := "abs", desc := "(I)I" } : MethodName) prog_8_method_59_code (1 : Nat) (Option.some FieldType.int)) ∈ TT := inTT 249 (by decide +kernel) (by decide +kernel)
theorem kL65 : (Cond.methodLink "TasterPanelsLaw" (65 : Nat) ({ cls := "TasterPanels", name := "threshold", desc := "(I)D" } : MethodName)) ∈ TT := inTT 250 (by decide +kernel) (by decide +kernel)
theorem kiP_threshold : (Cond.instanceMethod ({ cls := "TasterPanels", name := "threshold", desc := "(I)D" } : MethodName)) ∈ TT := inTT 251 (by decide +kernel) (by decide +kernel)
theorem ksP_threshold : (Cond.selects "TasterPanels" ({ cls := "TasterPanels", name := "threshold", desc := "(I)D" } : MethodName) ({ cls := "TasterPanels", name := "threshold", desc := "(I)D" } : MethodName)) ∈ TT := inTT 252 (by decide +kernel) (by decide +kernel)
theorem kcP_threshold : (Cond.code ({ cls := "TasterPanels", name := "threshold", desc := "(I)D" } : MethodName) prog_1_method_10_code (5 : Nat) (Option.some FieldType.double)) ∈ TT := inTT 253 (by decide +kernel) (by decide +kernel)
theorem kP134 : (Cond.constantDouble "TasterPanels" (134 : Nat) (13830554455654793216 : UInt64)) ∈ TT := inTT 254 (by decide +kernel) (by decide +kernel)
theorem kP142 : (Cond.methodLink "TasterPanels" (142 : Nat) ({ cls := "TasterPanels", name := "strength", desc := "(I)D" } : MethodName)) ∈ TT := inTT 255 (by decide +kernel) (by decide +kernel)
theorem ktP_strength : (Cond.static ({ cls := "TasterPanels", name := "strength", desc := "(I)D" } : MethodName)) ∈ TT := inTT 256 (by decide +kernel) (by decide +kernel)
theorem kcP_strength : (Cond.code ({ cls := "TasterPanels", name := "strength", desc := "(I)D" } : MethodName) prog_1_method_35_code (1 : Nat) (Option.some FieldType.double)) ∈ TT := inTT 257 (by decide +kernel) (by decide +kernel)
theorem kP209 : (Cond.constantDouble "TasterPanels" (209 : Nat) (4620693217682128896 : UInt64)) ∈ TT := inTT 258 (by decide +kernel) (by decide +kernel)
theorem kP146 : (Cond.constantDouble "TasterPanels" (146 : Nat) (4611686018427387904 : UInt64)) ∈ TT := inTT 259 (by decide +kernel) (by decide +kernel)
theorem kL70 : (Cond.methodLink "TasterPanelsLaw" (70 : Nat) ({ cls := "TasterPanels", name := "level", desc := "(IIZ)Z" } : MethodName)) ∈ TT := inTT 260 (by decide +kernel) (by decide +kernel)
theorem kiP_level : (Cond.instanceMethod ({ cls := "TasterPanels", name := "level", desc := "(IIZ)Z" } : MethodName)) ∈ TT := inTT 261 (by decide +kernel) (by decide +kernel)
theorem ksP_level : (Cond.selects "TasterPanels" ({ cls := "TasterPanels", name := "level", desc := "(IIZ)Z" } : MethodName) ({ cls := "TasterPanels", name := "level", desc := "(IIZ)Z" } : MethodName)) ∈ TT := inTT 262 (by decide +kernel) (by decide +kernel)
theorem kcP_level : (Cond.code ({ cls := "TasterPanels", name := "level", desc := "(IIZ)Z" } : MethodName) prog_1_method_11_code (5 : Nat) (Option.some FieldType.boolean)) ∈ TT := inTT 263 (by decide +kernel) (by decide +kernel)
theorem kL75 : (Cond.methodLink "TasterPanelsLaw" (75 : Nat) ({ cls := "TasterPanels", name := "out", desc := "(I)Z" } : MethodName)) ∈ TT := inTT 264 (by decide +kernel) (by decide +kernel)
theorem kiP_out : (Cond.instanceMethod ({ cls := "TasterPanels", name := "out", desc := "(I)Z" } : MethodName)) ∈ TT := inTT 265 (by decide +kernel) (by decide +kernel)
theorem ksP_out : (Cond.selects "TasterPanels" ({ cls := "TasterPanels", name := "out", desc := "(I)Z" } : MethodName) ({ cls := "TasterPanels", name := "out", desc := "(I)Z" } : MethodName)) ∈ TT := inTT 266 (by decide +kernel) (by decide +kernel)
theorem kcP_out : (Cond.code ({ cls := "TasterPanels", name := "out", desc := "(I)Z" } : MethodName) prog_1_method_12_code (3 : Nat) (Option.some FieldType.boolean)) ∈ TT := inTT 267 (by decide +kernel) (by decide +kernel)
theorem kL82 : (Cond.methodLink "TasterPanelsLaw" (82 : Nat) ({ cls := "TasterPanels", name := "size", desc := "(IJJ)I" } : MethodName)) ∈ TT := inTT 268 (by decide +kernel) (by decide +kernel)
theorem kiP_size : (Cond.instanceMethod ({ cls := "TasterPanels", name := "size", desc := "(IJJ)I" } : MethodName)) ∈ TT := inTT 269 (by decide +kernel) (by decide +kernel)
theorem ksP_size : (Cond.selects "TasterPanels" ({ cls := "TasterPanels", name := "size", desc := "(IJJ)I" } : MethodName) ({ cls := "TasterPanels", name := "size", desc := "(IJJ)I" } : MethodName)) ∈ TT := inTT 270 (by decide +kernel) (by decide +kernel)
theorem kcP_size : (Cond.code ({ cls := "TasterPanels", name := "size", desc := "(IJJ)I" } : MethodName) prog_1_method_13_code (10 : Nat) (Option.some FieldType.int)) ∈ TT := inTT 271 (by decide +kernel) (by decide +kernel)
theorem kL15 : (Cond.methodLink "TasterPanelsLaw" (15 : Nat) ({ cls := "TasterPanelsLaw", name := "cell", desc := "([II)I" } : MethodName)) ∈ TT := inTT 272 (by decide +kernel) (by decide +kernel)
theorem ktL_cell : (Cond.static ({ cls := "TasterPanelsLaw", name := "cell", desc := "([II)I" } : MethodName)) ∈ TT := inTT 273 (by decide +kernel) (by decide +kernel)
theorem kcL_cell : (Cond.code ({ cls := "TasterPanelsLaw", name := "cell", desc := "([II)I" } : MethodName) method_2_code (2 : Nat) (Option.some FieldType.int)) ∈ TT := inTT 274 (by decide +kernel) (by decide +kernel)
theorem kL87 : (Cond.methodLink "TasterPanelsLaw" (87 : Nat) ({ cls := "TasterPanelsLaw", name := "row", desc := "(LTasterPanels;I[J)I" } : MethodName)) ∈ TT := inTT 275 (by decide +kernel) (by decide +kernel)
theorem ktL_row : (Cond.static ({ cls := "TasterPanelsLaw", name := "row", desc := "(LTasterPanels;I[J)I" } : MethodName)) ∈ TT := inTT 276 (by decide +kernel) (by decide +kernel)
theorem kL13 : (Cond.classLink "TasterPanelsLaw" (13 : Nat) "java/lang/IndexOutOfBoundsException") ∈ TT := inTT 278 (by decide +kernel) (by decide +kernel)
theorem kL7 : (Cond.methodLink "TasterPanelsLaw" (7 : Nat) ({ cls := "TasterPanels", name := "row", desc := "(I)I" } : MethodName)) ∈ TT := inTT 279 (by decide +kernel) (by decide +kernel)
theorem kiP_row : (Cond.instanceMethod ({ cls := "TasterPanels", name := "row", desc := "(I)I" } : MethodName)) ∈ TT := inTT 280 (by decide +kernel) (by decide +kernel)
theorem ksP_row : (Cond.selects "TasterPanels" ({ cls := "TasterPanels", name := "row", desc := "(I)I" } : MethodName) ({ cls := "TasterPanels", name := "row", desc := "(I)I" } : MethodName)) ∈ TT := inTT 281 (by decide +kernel) (by decide +kernel)
theorem kcP_row : (Cond.code ({ cls := "TasterPanels", name := "row", desc := "(I)I" } : MethodName) prog_1_method_14_code (5 : Nat) (Option.some FieldType.int)) ∈ TT := inTT 282 (by decide +kernel) (by decide +kernel)
theorem kP148 : (Cond.classLink "TasterPanels" (148 : Nat) "java/lang/IndexOutOfBoundsException") ∈ TT := inTT 283 (by decide +kernel) (by decide +kernel)
theorem kP152 : (Cond.methodLink "TasterPanels" (152 : Nat) ({ cls := "java/lang/IndexOutOfBoundsException", name := "<init>", desc := "(Ljava/lang/String;)V" } : MethodName)) ∈ TT := inTT 323 (by decide +kernel) (by decide +kernel)
theorem ka_byte : (Cond.arrayClass FieldType.byte) ∈ TT := inTT 348 (by decide +kernel) (by decide +kernel)
theorem kP155 : (Cond.constantLong "TasterPanels" (155 : Nat) (20 : Int64)) ∈ TT := inTT 349 (by decide +kernel) (by decide +kernel)
theorem kL24 : (Cond.classLink "TasterPanelsLaw" (24 : Nat) "TasterPanelsModel") ∈ TT := inTT 350 (by decide +kernel) (by decide +kernel)
theorem kxM : (Cond.instantiable "TasterPanelsModel" (12 : Nat)) ∈ TT := inTT 351 (by decide +kernel) (by decide +kernel)
theorem kL26 : (Cond.methodLink "TasterPanelsLaw" (26 : Nat) ({ cls := "TasterPanelsModel", name := "<init>", desc := "(J)V" } : MethodName)) ∈ TT := inTT 352 (by decide +kernel) (by decide +kernel)
theorem kiM_init : (Cond.instanceMethod ({ cls := "TasterPanelsModel", name := "<init>", desc := "(J)V" } : MethodName)) ∈ TT := inTT 353 (by decide +kernel) (by decide +kernel)
theorem kcM_init : (Cond.code ({ cls := "TasterPanelsModel", name := "<init>", desc := "(J)V" } : MethodName) prog_5_method_1_code (3 : Nat) (Option.none : Option FieldType)) ∈ TT := inTT 354 (by decide +kernel) (by decide +kernel)
theorem kM1 : (Cond.methodLink "TasterPanelsModel" (1 : Nat) ({ cls := "java/lang/Object", name := "<init>", desc := "()V" } : MethodName)) ∈ TT := inTT 355 (by decide +kernel) (by decide +kernel)
theorem kM35 : (Cond.fieldLink "TasterPanelsModel" (35 : Nat) "TasterPanelsModel" "seed" "J") ∈ TT := inTT 356 (by decide +kernel) (by decide +kernel)
theorem kM43 : (Cond.fieldLink "TasterPanelsModel" (43 : Nat) "TasterPanelsModel" "tasters" "I") ∈ TT := inTT 357 (by decide +kernel) (by decide +kernel)
theorem kM46 : (Cond.fieldLink "TasterPanelsModel" (46 : Nat) "TasterPanelsModel" "tests" "I") ∈ TT := inTT 358 (by decide +kernel) (by decide +kernel)
theorem kM9 : (Cond.fieldLink "TasterPanelsModel" (9 : Nat) "TasterPanelsModel" "kinds" "[I") ∈ TT := inTT 359 (by decide +kernel) (by decide +kernel)
theorem kM13 : (Cond.fieldLink "TasterPanelsModel" (13 : Nat) "TasterPanelsModel" "samples" "[I") ∈ TT := inTT 360 (by decide +kernel) (by decide +kernel)
theorem kM16 : (Cond.fieldLink "TasterPanelsModel" (16 : Nat) "TasterPanelsModel" "answers" "[I") ∈ TT := inTT 361 (by decide +kernel) (by decide +kernel)
theorem kM19 : (Cond.fieldLink "TasterPanelsModel" (19 : Nat) "TasterPanelsModel" "ranks" "[I") ∈ TT := inTT 362 (by decide +kernel) (by decide +kernel)
theorem kM22 : (Cond.fieldLink "TasterPanelsModel" (22 : Nat) "TasterPanelsModel" "steps" "[I") ∈ TT := inTT 363 (by decide +kernel) (by decide +kernel)
theorem kM25 : (Cond.fieldLink "TasterPanelsModel" (25 : Nat) "TasterPanelsModel" "mixed" "[I") ∈ TT := inTT 364 (by decide +kernel) (by decide +kernel)
theorem kM28 : (Cond.fieldLink "TasterPanelsModel" (28 : Nat) "TasterPanelsModel" "ways" "[J") ∈ TT := inTT 365 (by decide +kernel) (by decide +kernel)
theorem kM32 : (Cond.fieldLink "TasterPanelsModel" (32 : Nat) "TasterPanelsModel" "next" "[J") ∈ TT := inTT 366 (by decide +kernel) (by decide +kernel)
theorem kM39 : (Cond.fieldLink "TasterPanelsModel" (39 : Nat) "TasterPanelsModel" "thrown" "I") ∈ TT := inTT 367 (by decide +kernel) (by decide +kernel)
theorem kL91 : (Cond.methodLink "TasterPanelsLaw" (91 : Nat) ({ cls := "TasterPanelsModel", name := "thrown", desc := "()I" } : MethodName)) ∈ TT := inTT 393 (by decide +kernel) (by decide +kernel)
theorem kiM_thrown : (Cond.instanceMethod ({ cls := "TasterPanelsModel", name := "thrown", desc := "()I" } : MethodName)) ∈ TT := inTT 394 (by decide +kernel) (by decide +kernel)
theorem ksM_thrown : (Cond.selects "TasterPanelsModel" ({ cls := "TasterPanelsModel", name := "thrown", desc := "()I" } : MethodName) ({ cls := "TasterPanelsModel", name := "thrown", desc := "()I" } : MethodName)) ∈ TT := inTT 395 (by decide +kernel) (by decide +kernel)
theorem kcM_thrown : (Cond.code ({ cls := "TasterPanelsModel", name := "thrown", desc := "()I" } : MethodName) prog_5_method_2_code (1 : Nat) (Option.some FieldType.int)) ∈ TT := inTT 396 (by decide +kernel) (by decide +kernel)
theorem kL31 : (Cond.methodLink "TasterPanelsLaw" (31 : Nat) ({ cls := "TasterPanelsModel", name := "taster", desc := "()I" } : MethodName)) ∈ TT := inTT 397 (by decide +kernel) (by decide +kernel)
theorem kiM_taster : (Cond.instanceMethod ({ cls := "TasterPanelsModel", name := "taster", desc := "()I" } : MethodName)) ∈ TT := inTT 398 (by decide +kernel) (by decide +kernel)
theorem ksM_taster : (Cond.selects "TasterPanelsModel" ({ cls := "TasterPanelsModel", name := "taster", desc := "()I" } : MethodName) ({ cls := "TasterPanelsModel", name := "taster", desc := "()I" } : MethodName)) ∈ TT := inTT 399 (by decide +kernel) (by decide +kernel)
theorem kcM_taster : (Cond.code ({ cls := "TasterPanelsModel", name := "taster", desc := "()I" } : MethodName) prog_5_method_3_code (1 : Nat) (Option.some FieldType.int)) ∈ TT := inTT 400 (by decide +kernel) (by decide +kernel)
theorem kL36 : (Cond.methodLink "TasterPanelsLaw" (36 : Nat) ({ cls := "TasterPanelsModel", name := "test", desc := "(II)I" } : MethodName)) ∈ TT := inTT 401 (by decide +kernel) (by decide +kernel)
theorem kiM_test : (Cond.instanceMethod ({ cls := "TasterPanelsModel", name := "test", desc := "(II)I" } : MethodName)) ∈ TT := inTT 402 (by decide +kernel) (by decide +kernel)
theorem ksM_test : (Cond.selects "TasterPanelsModel" ({ cls := "TasterPanelsModel", name := "test", desc := "(II)I" } : MethodName) ({ cls := "TasterPanelsModel", name := "test", desc := "(II)I" } : MethodName)) ∈ TT := inTT 403 (by decide +kernel) (by decide +kernel)
theorem kcM_test : (Cond.code ({ cls := "TasterPanelsModel", name := "test", desc := "(II)I" } : MethodName) prog_5_method_4_code (4 : Nat) (Option.some FieldType.int)) ∈ TT := inTT 404 (by decide +kernel) (by decide +kernel)
theorem kL41 : (Cond.methodLink "TasterPanelsLaw" (41 : Nat) ({ cls := "TasterPanelsModel", name := "order", desc := "(III)I" } : MethodName)) ∈ TT := inTT 405 (by decide +kernel) (by decide +kernel)
theorem kiM_order : (Cond.instanceMethod ({ cls := "TasterPanelsModel", name := "order", desc := "(III)I" } : MethodName)) ∈ TT := inTT 406 (by decide +kernel) (by decide +kernel)
theorem ksM_order : (Cond.selects "TasterPanelsModel" ({ cls := "TasterPanelsModel", name := "order", desc := "(III)I" } : MethodName) ({ cls := "TasterPanelsModel", name := "order", desc := "(III)I" } : MethodName)) ∈ TT := inTT 407 (by decide +kernel) (by decide +kernel)
theorem kcM_order : (Cond.code ({ cls := "TasterPanelsModel", name := "order", desc := "(III)I" } : MethodName) prog_5_method_12_code (5 : Nat) (Option.some FieldType.int)) ∈ TT := inTT 408 (by decide +kernel) (by decide +kernel)
theorem kM61 : (Cond.methodLink "TasterPanelsModel" (61 : Nat) ({ cls := "TasterPanelsModel", name := "isTest", desc := "(I)Z" } : MethodName)) ∈ TT := inTT 409 (by decide +kernel) (by decide +kernel)
theorem kiM_isTest : (Cond.instanceMethod ({ cls := "TasterPanelsModel", name := "isTest", desc := "(I)Z" } : MethodName)) ∈ TT := inTT 411 (by decide +kernel) (by decide +kernel)
theorem kcM_isTest : (Cond.code ({ cls := "TasterPanelsModel", name := "isTest", desc := "(I)Z" } : MethodName) prog_5_method_5_code (2 : Nat) (Option.some FieldType.boolean)) ∈ TT := inTT 412 (by decide +kernel) (by decide +kernel)
theorem kM65 : (Cond.methodLink "TasterPanelsModel" (65 : Nat) ({ cls := "TasterPanelsModel", name := "isTaster", desc := "(I)Z" } : MethodName)) ∈ TT := inTT 413 (by decide +kernel) (by decide +kernel)
theorem kiM_isTaster : (Cond.instanceMethod ({ cls := "TasterPanelsModel", name := "isTaster", desc := "(I)Z" } : MethodName)) ∈ TT := inTT 415 (by decide +kernel) (by decide +kernel)
theorem kcM_isTaster : (Cond.code ({ cls := "TasterPanelsModel", name := "isTaster", desc := "(I)Z" } : MethodName) prog_5_method_6_code (2 : Nat) (Option.some FieldType.boolean)) ∈ TT := inTT 416 (by decide +kernel) (by decide +kernel)
theorem kM68 : (Cond.methodLink "TasterPanelsModel" (68 : Nat) ({ cls := "TasterPanelsModel", name := "served", desc := "(I)I" } : MethodName)) ∈ TT := inTT 417 (by decide +kernel) (by decide +kernel)
theorem kiM_served : (Cond.instanceMethod ({ cls := "TasterPanelsModel", name := "served", desc := "(I)I" } : MethodName)) ∈ TT := inTT 419 (by decide +kernel) (by decide +kernel)
theorem kcM_served : (Cond.code ({ cls := "TasterPanelsModel", name := "served", desc := "(I)I" } : MethodName) prog_5_method_10_code (2 : Nat) (Option.some FieldType.int)) ∈ TT := inTT 420 (by decide +kernel) (by decide +kernel)
theorem kM71 : (Cond.methodLink "TasterPanelsModel" (71 : Nat) ({ cls := "TasterPanelsModel", name := "orderOf", desc := "(II)I" } : MethodName)) ∈ TT := inTT 421 (by decide +kernel) (by decide +kernel)
theorem kiM_orderOf : (Cond.instanceMethod ({ cls := "TasterPanelsModel", name := "orderOf", desc := "(II)I" } : MethodName)) ∈ TT := inTT 423 (by decide +kernel) (by decide +kernel)
theorem kcM_orderOf : (Cond.code ({ cls := "TasterPanelsModel", name := "orderOf", desc := "(II)I" } : MethodName) prog_5_method_8_code (10 : Nat) (Option.some FieldType.int)) ∈ TT := inTT 424 (by decide +kernel) (by decide +kernel)
theorem kM49 : (Cond.methodLink "TasterPanelsModel" (49 : Nat) ({ cls := "TasterPanelsModel", name := "orders", desc := "(I)I" } : MethodName)) ∈ TT := inTT 425 (by decide +kernel) (by decide +kernel)
theorem kiM_orders : (Cond.instanceMethod ({ cls := "TasterPanelsModel", name := "orders", desc := "(I)I" } : MethodName)) ∈ TT := inTT 427 (by decide +kernel) (by decide +kernel)
theorem kcM_orders : (Cond.code ({ cls := "TasterPanelsModel", name := "orders", desc := "(I)I" } : MethodName) prog_5_method_7_code (4 : Nat) (Option.some FieldType.int)) ∈ TT := inTT 428 (by decide +kernel) (by decide +kernel)
theorem kM53 : (Cond.constantLong "TasterPanelsModel" (53 : Nat) (1000003 : Int64)) ∈ TT := inTT 429 (by decide +kernel) (by decide +kernel)
theorem kM55 : (Cond.constantLong "TasterPanelsModel" (55 : Nat) (7919 : Int64)) ∈ TT := inTT 430 (by decide +kernel) (by decide +kernel)
theorem kM57 : (Cond.constantLong "TasterPanelsModel" (57 : Nat) (6364136223846793005 : Int64)) ∈ TT := inTT 431 (by decide +kernel) (by decide +kernel)
theorem kM59 : (Cond.constantLong "TasterPanelsModel" (59 : Nat) (1442695040888963407 : Int64)) ∈ TT := inTT 432 (by decide +kernel) (by decide +kernel)
theorem kM75 : (Cond.methodLink "TasterPanelsModel" (75 : Nat) ({ cls := "TasterPanelsModel", name := "item", desc := "(III)I" } : MethodName)) ∈ TT := inTT 433 (by decide +kernel) (by decide +kernel)
theorem ktM_item : (Cond.static ({ cls := "TasterPanelsModel", name := "item", desc := "(III)I" } : MethodName)) ∈ TT := inTT 434 (by decide +kernel) (by decide +kernel)
theorem kcM_item : (Cond.code ({ cls := "TasterPanelsModel", name := "item", desc := "(III)I" } : MethodName) prog_5_method_9_code (9 : Nat) (Option.some FieldType.int)) ∈ TT := inTT 435 (by decide +kernel) (by decide +kernel)
theorem kM79 : (Cond.fieldLink "TasterPanelsModel" (79 : Nat) "TasterPanelsModel" "SERVED" "[I") ∈ TT := inTT 436 (by decide +kernel) (by decide +kernel)
theorem kM82 : (Cond.methodLink "TasterPanelsModel" (82 : Nat) ({ cls := "TasterPanelsModel", name := "first", desc := "(I)I" } : MethodName)) ∈ TT := inTT 438 (by decide +kernel) (by decide +kernel)
theorem kiM_first : (Cond.instanceMethod ({ cls := "TasterPanelsModel", name := "first", desc := "(I)I" } : MethodName)) ∈ TT := inTT 440 (by decide +kernel) (by decide +kernel)
theorem kcM_first : (Cond.code ({ cls := "TasterPanelsModel", name := "first", desc := "(I)I" } : MethodName) prog_5_method_11_code (2 : Nat) (Option.some FieldType.int)) ∈ TT := inTT 441 (by decide +kernel) (by decide +kernel)
theorem kL46 : (Cond.methodLink "TasterPanelsLaw" (46 : Nat) ({ cls := "TasterPanelsModel", name := "answer", desc := "(III)Z" } : MethodName)) ∈ TT := inTT 442 (by decide +kernel) (by decide +kernel)
theorem kiM_answer : (Cond.instanceMethod ({ cls := "TasterPanelsModel", name := "answer", desc := "(III)Z" } : MethodName)) ∈ TT := inTT 443 (by decide +kernel) (by decide +kernel)
theorem ksM_answer : (Cond.selects "TasterPanelsModel" ({ cls := "TasterPanelsModel", name := "answer", desc := "(III)Z" } : MethodName) ({ cls := "TasterPanelsModel", name := "answer", desc := "(III)Z" } : MethodName)) ∈ TT := inTT 444 (by decide +kernel) (by decide +kernel)
theorem kcM_answer : (Cond.code ({ cls := "TasterPanelsModel", name := "answer", desc := "(III)Z" } : MethodName) prog_5_method_13_code (4 : Nat) (Option.some FieldType.boolean)) ∈ TT := inTT 445 (by decide +kernel) (by decide +kernel)
theorem kL55 : (Cond.methodLink "TasterPanelsLaw" (55 : Nat) ({ cls := "TasterPanelsModel", name := "right", desc := "(I)I" } : MethodName)) ∈ TT := inTT 446 (by decide +kernel) (by decide +kernel)
theorem kiM_right : (Cond.instanceMethod ({ cls := "TasterPanelsModel", name := "right", desc := "(I)I" } : MethodName)) ∈ TT := inTT 447 (by decide +kernel) (by decide +kernel)
theorem ksM_right : (Cond.selects "TasterPanelsModel" ({ cls := "TasterPanelsModel", name := "right", desc := "(I)I" } : MethodName) ({ cls := "TasterPanelsModel", name := "right", desc := "(I)I" } : MethodName)) ∈ TT := inTT 448 (by decide +kernel) (by decide +kernel)
theorem kcM_right : (Cond.code ({ cls := "TasterPanelsModel", name := "right", desc := "(I)I" } : MethodName) prog_5_method_17_code (2 : Nat) (Option.some FieldType.int)) ∈ TT := inTT 449 (by decide +kernel) (by decide +kernel)
theorem kM92 : (Cond.methodLink "TasterPanelsModel" (92 : Nat) ({ cls := "TasterPanelsModel", name := "rightOnes", desc := "(I)I" } : MethodName)) ∈ TT := inTT 450 (by decide +kernel) (by decide +kernel)
theorem kiM_rightOnes : (Cond.instanceMethod ({ cls := "TasterPanelsModel", name := "rightOnes", desc := "(I)I" } : MethodName)) ∈ TT := inTT 452 (by decide +kernel) (by decide +kernel)
theorem kcM_rightOnes : (Cond.code ({ cls := "TasterPanelsModel", name := "rightOnes", desc := "(I)I" } : MethodName) prog_5_method_16_code (4 : Nat) (Option.some FieldType.int)) ∈ TT := inTT 453 (by decide +kernel) (by decide +kernel)
theorem kM88 : (Cond.methodLink "TasterPanelsModel" (88 : Nat) ({ cls := "TasterPanelsModel", name := "isRight", desc := "(II)Z" } : MethodName)) ∈ TT := inTT 454 (by decide +kernel) (by decide +kernel)
theorem kiM_isRight : (Cond.instanceMethod ({ cls := "TasterPanelsModel", name := "isRight", desc := "(II)Z" } : MethodName)) ∈ TT := inTT 456 (by decide +kernel) (by decide +kernel)
theorem kcM_isRight : (Cond.code ({ cls := "TasterPanelsModel", name := "isRight", desc := "(II)Z" } : MethodName) prog_5_method_14_code (3 : Nat) (Option.some FieldType.boolean)) ∈ TT := inTT 457 (by decide +kernel) (by decide +kernel)
theorem kM85 : (Cond.fieldLink "TasterPanelsModel" (85 : Nat) "TasterPanelsModel" "RIGHT" "[I") ∈ TT := inTT 458 (by decide +kernel) (by decide +kernel)
theorem kL51 : (Cond.methodLink "TasterPanelsLaw" (51 : Nat) ({ cls := "TasterPanelsModel", name := "chance", desc := "(II)J" } : MethodName)) ∈ TT := inTT 460 (by decide +kernel) (by decide +kernel)
theorem kiM_chance : (Cond.instanceMethod ({ cls := "TasterPanelsModel", name := "chance", desc := "(II)J" } : MethodName)) ∈ TT := inTT 461 (by decide +kernel) (by decide +kernel)
theorem ksM_chance : (Cond.selects "TasterPanelsModel" ({ cls := "TasterPanelsModel", name := "chance", desc := "(II)J" } : MethodName) ({ cls := "TasterPanelsModel", name := "chance", desc := "(II)J" } : MethodName)) ∈ TT := inTT 462 (by decide +kernel) (by decide +kernel)
theorem kcM_chance : (Cond.code ({ cls := "TasterPanelsModel", name := "chance", desc := "(II)J" } : MethodName) prog_5_method_21_code (5 : Nat) (Option.some FieldType.long)) ∈ TT := inTT 463 (by decide +kernel) (by decide +kernel)
theorem kM95 : (Cond.methodLink "TasterPanelsModel" (95 : Nat) ({ cls := "TasterPanelsModel", name := "answered", desc := "(I)I" } : MethodName)) ∈ TT := inTT 464 (by decide +kernel) (by decide +kernel)
theorem kiM_answered : (Cond.instanceMethod ({ cls := "TasterPanelsModel", name := "answered", desc := "(I)I" } : MethodName)) ∈ TT := inTT 466 (by decide +kernel) (by decide +kernel)
theorem kcM_answered : (Cond.code ({ cls := "TasterPanelsModel", name := "answered", desc := "(I)I" } : MethodName) prog_5_method_15_code (4 : Nat) (Option.some FieldType.int)) ∈ TT := inTT 467 (by decide +kernel) (by decide +kernel)
theorem kM98 : (Cond.constantLong "TasterPanelsModel" (98 : Nat) (-1 : Int64)) ∈ TT := inTT 468 (by decide +kernel) (by decide +kernel)
theorem kM100 : (Cond.methodLink "TasterPanelsModel" (100 : Nat) ({ cls := "TasterPanelsModel", name := "atLeast", desc := "(III)J" } : MethodName)) ∈ TT := inTT 469 (by decide +kernel) (by decide +kernel)
theorem kiM_atLeast : (Cond.instanceMethod ({ cls := "TasterPanelsModel", name := "atLeast", desc := "(III)J" } : MethodName)) ∈ TT := inTT 471 (by decide +kernel) (by decide +kernel)
theorem kcM_atLeast : (Cond.code ({ cls := "TasterPanelsModel", name := "atLeast", desc := "(III)J" } : MethodName) prog_5_method_20_code (7 : Nat) (Option.some FieldType.long)) ∈ TT := inTT 472 (by decide +kernel) (by decide +kernel)
theorem kM104 : (Cond.methodLink "TasterPanelsModel" (104 : Nat) ({ cls := "TasterPanelsModel", name := "power", desc := "(JI)J" } : MethodName)) ∈ TT := inTT 473 (by decide +kernel) (by decide +kernel)
theorem ktM_power : (Cond.static ({ cls := "TasterPanelsModel", name := "power", desc := "(JI)J" } : MethodName)) ∈ TT := inTT 474 (by decide +kernel) (by decide +kernel)
theorem kcM_power : (Cond.code ({ cls := "TasterPanelsModel", name := "power", desc := "(JI)J" } : MethodName) prog_5_method_19_code (6 : Nat) (Option.some FieldType.long)) ∈ TT := inTT 475 (by decide +kernel) (by decide +kernel)
theorem kM108 : (Cond.methodLink "TasterPanelsModel" (108 : Nat) ({ cls := "TasterPanelsModel", name := "reduced", desc := "(JJI)J" } : MethodName)) ∈ TT := inTT 476 (by decide +kernel) (by decide +kernel)
theorem ktM_reduced : (Cond.static ({ cls := "TasterPanelsModel", name := "reduced", desc := "(JJI)J" } : MethodName)) ∈ TT := inTT 477 (by decide +kernel) (by decide +kernel)
theorem kcM_reduced : (Cond.code ({ cls := "TasterPanelsModel", name := "reduced", desc := "(JJI)J" } : MethodName) prog_5_method_18_code (11 : Nat) (Option.some FieldType.long)) ∈ TT := inTT 478 (by decide +kernel) (by decide +kernel)
theorem kL60 : (Cond.methodLink "TasterPanelsLaw" (60 : Nat) ({ cls := "TasterPanelsModel", name := "rank", desc := "(IIII)Z" } : MethodName)) ∈ TT := inTT 479 (by decide +kernel) (by decide +kernel)
theorem kiM_rank : (Cond.instanceMethod ({ cls := "TasterPanelsModel", name := "rank", desc := "(IIII)Z" } : MethodName)) ∈ TT := inTT 480 (by decide +kernel) (by decide +kernel)
theorem ksM_rank : (Cond.selects "TasterPanelsModel" ({ cls := "TasterPanelsModel", name := "rank", desc := "(IIII)Z" } : MethodName) ({ cls := "TasterPanelsModel", name := "rank", desc := "(IIII)Z" } : MethodName)) ∈ TT := inTT 481 (by decide +kernel) (by decide +kernel)
theorem kcM_rank : (Cond.code ({ cls := "TasterPanelsModel", name := "rank", desc := "(IIII)Z" } : MethodName) prog_5_method_22_code (8 : Nat) (Option.some FieldType.boolean)) ∈ TT := inTT 482 (by decide +kernel) (by decide +kernel)
theorem kL64 : (Cond.methodLink "TasterPanelsLaw" (64 : Nat) ({ cls := "TasterPanelsModel", name := "permuted", desc := "(II)J" } : MethodName)) ∈ TT := inTT 483 (by decide +kernel) (by decide +kernel)
theorem kiM_permuted : (Cond.instanceMethod ({ cls := "TasterPanelsModel", name := "permuted", desc := "(II)J" } : MethodName)) ∈ TT := inTT 484 (by decide +kernel) (by decide +kernel)
theorem ksM_permuted : (Cond.selects "TasterPanelsModel" ({ cls := "TasterPanelsModel", name := "permuted", desc := "(II)J" } : MethodName) ({ cls := "TasterPanelsModel", name := "permuted", desc := "(II)J" } : MethodName)) ∈ TT := inTT 485 (by decide +kernel) (by decide +kernel)
theorem kcM_permuted : (Cond.code ({ cls := "TasterPanelsModel", name := "permuted", desc := "(II)J" } : MethodName) prog_5_method_23_code (10 : Nat) (Option.some FieldType.long)) ∈ TT := inTT 486 (by decide +kernel) (by decide +kernel)
theorem kM112 : (Cond.methodLink "TasterPanelsModel" (112 : Nat) ({ cls := "java/lang/System", name := "arraycopy", desc := "(Ljava/lang/Object;ILjava/lang/Object;II)V" } : MethodName)) ∈ TT := inTT 487 (by decide +kernel) (by decide +kernel)
theorem kM118 : (Cond.methodLink "TasterPanelsModel" (118 : Nat) ({ cls := "java/lang/Math", name := "abs", desc := "(I)I" } : MethodName)) ∈ TT := inTT 490 (by decide +kernel) (by decide +kernel)
theorem kL69 : (Cond.methodLink "TasterPanelsLaw" (69 : Nat) ({ cls := "TasterPanelsModel", name := "threshold", desc := "(I)D" } : MethodName)) ∈ TT := inTT 491 (by decide +kernel) (by decide +kernel)
theorem kiM_threshold : (Cond.instanceMethod ({ cls := "TasterPanelsModel", name := "threshold", desc := "(I)D" } : MethodName)) ∈ TT := inTT 492 (by decide +kernel) (by decide +kernel)
theorem ksM_threshold : (Cond.selects "TasterPanelsModel" ({ cls := "TasterPanelsModel", name := "threshold", desc := "(I)D" } : MethodName) ({ cls := "TasterPanelsModel", name := "threshold", desc := "(I)D" } : MethodName)) ∈ TT := inTT 493 (by decide +kernel) (by decide +kernel)
theorem kcM_threshold : (Cond.code ({ cls := "TasterPanelsModel", name := "threshold", desc := "(I)D" } : MethodName) prog_5_method_25_code (7 : Nat) (Option.some FieldType.double)) ∈ TT := inTT 494 (by decide +kernel) (by decide +kernel)
theorem kM125 : (Cond.constantDouble "TasterPanelsModel" (125 : Nat) (13830554455654793216 : UInt64)) ∈ TT := inTT 495 (by decide +kernel) (by decide +kernel)
theorem kM127 : (Cond.constantDouble "TasterPanelsModel" (127 : Nat) (4611686018427387904 : UInt64)) ∈ TT := inTT 496 (by decide +kernel) (by decide +kernel)
theorem kM129 : (Cond.methodLink "TasterPanelsModel" (129 : Nat) ({ cls := "TasterPanelsModel", name := "strength", desc := "(I)D" } : MethodName)) ∈ TT := inTT 497 (by decide +kernel) (by decide +kernel)
theorem ktM_strength : (Cond.static ({ cls := "TasterPanelsModel", name := "strength", desc := "(I)D" } : MethodName)) ∈ TT := inTT 498 (by decide +kernel) (by decide +kernel)
theorem kcM_strength : (Cond.code ({ cls := "TasterPanelsModel", name := "strength", desc := "(I)D" } : MethodName) prog_5_method_24_code (1 : Nat) (Option.some FieldType.double)) ∈ TT := inTT 499 (by decide +kernel) (by decide +kernel)
theorem kM123 : (Cond.constantDouble "TasterPanelsModel" (123 : Nat) (4620693217682128896 : UInt64)) ∈ TT := inTT 500 (by decide +kernel) (by decide +kernel)
theorem kL74 : (Cond.methodLink "TasterPanelsLaw" (74 : Nat) ({ cls := "TasterPanelsModel", name := "level", desc := "(IIZ)Z" } : MethodName)) ∈ TT := inTT 501 (by decide +kernel) (by decide +kernel)
theorem kiM_level : (Cond.instanceMethod ({ cls := "TasterPanelsModel", name := "level", desc := "(IIZ)Z" } : MethodName)) ∈ TT := inTT 502 (by decide +kernel) (by decide +kernel)
theorem ksM_level : (Cond.selects "TasterPanelsModel" ({ cls := "TasterPanelsModel", name := "level", desc := "(IIZ)Z" } : MethodName) ({ cls := "TasterPanelsModel", name := "level", desc := "(IIZ)Z" } : MethodName)) ∈ TT := inTT 503 (by decide +kernel) (by decide +kernel)
theorem kcM_level : (Cond.code ({ cls := "TasterPanelsModel", name := "level", desc := "(IIZ)Z" } : MethodName) prog_5_method_26_code (4 : Nat) (Option.some FieldType.boolean)) ∈ TT := inTT 504 (by decide +kernel) (by decide +kernel)
theorem kL79 : (Cond.methodLink "TasterPanelsLaw" (79 : Nat) ({ cls := "TasterPanelsModel", name := "out", desc := "(I)Z" } : MethodName)) ∈ TT := inTT 505 (by decide +kernel) (by decide +kernel)
theorem kiM_out : (Cond.instanceMethod ({ cls := "TasterPanelsModel", name := "out", desc := "(I)Z" } : MethodName)) ∈ TT := inTT 506 (by decide +kernel) (by decide +kernel)
theorem ksM_out : (Cond.selects "TasterPanelsModel" ({ cls := "TasterPanelsModel", name := "out", desc := "(I)Z" } : MethodName) ({ cls := "TasterPanelsModel", name := "out", desc := "(I)Z" } : MethodName)) ∈ TT := inTT 507 (by decide +kernel) (by decide +kernel)
theorem kcM_out : (Cond.code ({ cls := "TasterPanelsModel", name := "out", desc := "(I)Z" } : MethodName) prog_5_method_27_code (6 : Nat) (Option.some FieldType.boolean)) ∈ TT := inTT 508 (by decide +kernel) (by decide +kernel)
theorem kL86 : (Cond.methodLink "TasterPanelsLaw" (86 : Nat) ({ cls := "TasterPanelsModel", name := "size", desc := "(IJJ)I" } : MethodName)) ∈ TT := inTT 509 (by decide +kernel) (by decide +kernel)
theorem kiM_size : (Cond.instanceMethod ({ cls := "TasterPanelsModel", name := "size", desc := "(IJJ)I" } : MethodName)) ∈ TT := inTT 510 (by decide +kernel) (by decide +kernel)
theorem ksM_size : (Cond.selects "TasterPanelsModel" ({ cls := "TasterPanelsModel", name := "size", desc := "(IJJ)I" } : MethodName) ({ cls := "TasterPanelsModel", name := "size", desc := "(IJJ)I" } : MethodName)) ∈ TT := inTT 511 (by decide +kernel) (by decide +kernel)
theorem kcM_size : (Cond.code ({ cls := "TasterPanelsModel", name := "size", desc := "(IJJ)I" } : MethodName) prog_5_method_28_code (9 : Nat) (Option.some FieldType.int)) ∈ TT := inTT 512 (by decide +kernel) (by decide +kernel)
theorem kM133 : (Cond.constantLong "TasterPanelsModel" (133 : Nat) (3 : Int64)) ∈ TT := inTT 513 (by decide +kernel) (by decide +kernel)
theorem kM135 : (Cond.constantLong "TasterPanelsModel" (135 : Nat) (2 : Int64)) ∈ TT := inTT 514 (by decide +kernel) (by decide +kernel)
theorem kL90 : (Cond.methodLink "TasterPanelsLaw" (90 : Nat) ({ cls := "TasterPanelsModel", name := "row", desc := "(I)I" } : MethodName)) ∈ TT := inTT 515 (by decide +kernel) (by decide +kernel)
theorem kiM_row : (Cond.instanceMethod ({ cls := "TasterPanelsModel", name := "row", desc := "(I)I" } : MethodName)) ∈ TT := inTT 516 (by decide +kernel) (by decide +kernel)
theorem ksM_row : (Cond.selects "TasterPanelsModel" ({ cls := "TasterPanelsModel", name := "row", desc := "(I)I" } : MethodName) ({ cls := "TasterPanelsModel", name := "row", desc := "(I)I" } : MethodName)) ∈ TT := inTT 517 (by decide +kernel) (by decide +kernel)
theorem kcM_row : (Cond.code ({ cls := "TasterPanelsModel", name := "row", desc := "(I)I" } : MethodName) prog_5_method_29_code (3 : Nat) (Option.some FieldType.int)) ∈ TT := inTT 518 (by decide +kernel) (by decide +kernel)
theorem kM137 : (Cond.constantLong "TasterPanelsModel" (137 : Nat) (20 : Int64)) ∈ TT := inTT 519 (by decide +kernel) (by decide +kernel)
theorem kL80 : (Cond.constantLong "TasterPanelsLaw" (80 : Nat) (4294967295 : Int64)) ∈ TT := inTT 520 (by decide +kernel) (by decide +kernel)
theorem ksP_giveOrders : Cond.selects "TasterPanels" (⟨"TasterPanels", "giveOrders", "(LTasterPanels$Test;I)V"⟩ : MethodName) (⟨"TasterPanels", "giveOrders", "(LTasterPanels$Test;I)V"⟩ : MethodName) ∈ TT := inTT 0 (by decide +kernel) (by decide +kernel)
theorem ksP_mixOrders : Cond.selects "TasterPanels" (⟨"TasterPanels", "mixOrders", "(III)V"⟩ : MethodName) (⟨"TasterPanels", "mixOrders", "(III)V"⟩ : MethodName) ∈ TT := inTT 1 (by decide +kernel) (by decide +kernel)
theorem ksP_testAt : Cond.selects "TasterPanels" (⟨"TasterPanels", "testAt", "(I)LTasterPanels$Test;"⟩ : MethodName) (⟨"TasterPanels", "testAt", "(I)LTasterPanels$Test;"⟩ : MethodName) ∈ TT := inTT 2 (by decide +kernel) (by decide +kernel)
theorem ksP_tasterAt : Cond.selects "TasterPanels" (⟨"TasterPanels", "tasterAt", "(I)LTasterPanels$Taster;"⟩ : MethodName) (⟨"TasterPanels", "tasterAt", "(I)LTasterPanels$Taster;"⟩ : MethodName) ∈ TT := inTT 3 (by decide +kernel) (by decide +kernel)
theorem ksP_differenceAt : Cond.selects "TasterPanels" (⟨"TasterPanels", "differenceAt", "(I)LTasterPanels$Test;"⟩ : MethodName) (⟨"TasterPanels", "differenceAt", "(I)LTasterPanels$Test;"⟩ : MethodName) ∈ TT := inTT 4 (by decide +kernel) (by decide +kernel)
theorem ksP_rankingAt : Cond.selects "TasterPanels" (⟨"TasterPanels", "rankingAt", "(I)LTasterPanels$Test;"⟩ : MethodName) (⟨"TasterPanels", "rankingAt", "(I)LTasterPanels$Test;"⟩ : MethodName) ∈ TT := inTT 5 (by decide +kernel) (by decide +kernel)
theorem ksP_waysAsFarAs : Cond.selects "TasterPanels" (⟨"TasterPanels", "waysAsFarAs", "(III)J"⟩ : MethodName) (⟨"TasterPanels", "waysAsFarAs", "(III)J"⟩ : MethodName) ∈ TT := inTT 6 (by decide +kernel) (by decide +kernel)
theorem ksP_countSums : Cond.selects "TasterPanels" (⟨"TasterPanels", "countSums", "(II)V"⟩ : MethodName) (⟨"TasterPanels", "countSums", "(II)V"⟩ : MethodName) ∈ TT := inTT 7 (by decide +kernel) (by decide +kernel)
theorem ksM_isTest : Cond.selects "TasterPanelsModel" (⟨"TasterPanelsModel", "isTest", "(I)Z"⟩ : MethodName) (⟨"TasterPanelsModel", "isTest", "(I)Z"⟩ : MethodName) ∈ TT := inTT 9 (by decide +kernel) (by decide +kernel)
theorem ksM_isTaster : Cond.selects "TasterPanelsModel" (⟨"TasterPanelsModel", "isTaster", "(I)Z"⟩ : MethodName) (⟨"TasterPanelsModel", "isTaster", "(I)Z"⟩ : MethodName) ∈ TT := inTT 10 (by decide +kernel) (by decide +kernel)
theorem ksM_served : Cond.selects "TasterPanelsModel" (⟨"TasterPanelsModel", "served", "(I)I"⟩ : MethodName) (⟨"TasterPanelsModel", "served", "(I)I"⟩ : MethodName) ∈ TT := inTT 11 (by decide +kernel) (by decide +kernel)
theorem ksM_orderOf : Cond.selects "TasterPanelsModel" (⟨"TasterPanelsModel", "orderOf", "(II)I"⟩ : MethodName) (⟨"TasterPanelsModel", "orderOf", "(II)I"⟩ : MethodName) ∈ TT := inTT 12 (by decide +kernel) (by decide +kernel)
theorem ksM_orders : Cond.selects "TasterPanelsModel" (⟨"TasterPanelsModel", "orders", "(I)I"⟩ : MethodName) (⟨"TasterPanelsModel", "orders", "(I)I"⟩ : MethodName) ∈ TT := inTT 13 (by decide +kernel) (by decide +kernel)
theorem ksM_first : Cond.selects "TasterPanelsModel" (⟨"TasterPanelsModel", "first", "(I)I"⟩ : MethodName) (⟨"TasterPanelsModel", "first", "(I)I"⟩ : MethodName) ∈ TT := inTT 14 (by decide +kernel) (by decide +kernel)
theorem ksM_rightOnes : Cond.selects "TasterPanelsModel" (⟨"TasterPanelsModel", "rightOnes", "(I)I"⟩ : MethodName) (⟨"TasterPanelsModel", "rightOnes", "(I)I"⟩ : MethodName) ∈ TT := inTT 15 (by decide +kernel) (by decide +kernel)
theorem ksM_isRight : Cond.selects "TasterPanelsModel" (⟨"TasterPanelsModel", "isRight", "(II)Z"⟩ : MethodName) (⟨"TasterPanelsModel", "isRight", "(II)Z"⟩ : MethodName) ∈ TT := inTT 16 (by decide +kernel) (by decide +kernel)
theorem ksM_answered : Cond.selects "TasterPanelsModel" (⟨"TasterPanelsModel", "answered", "(I)I"⟩ : MethodName) (⟨"TasterPanelsModel", "answered", "(I)I"⟩ : MethodName) ∈ TT := inTT 17 (by decide +kernel) (by decide +kernel)
theorem ksM_atLeast : Cond.selects "TasterPanelsModel" (⟨"TasterPanelsModel", "atLeast", "(III)J"⟩ : MethodName) (⟨"TasterPanelsModel", "atLeast", "(III)J"⟩ : MethodName) ∈ TT := inTT 18 (by decide +kernel) (by decide +kernel)
theorem inT : ∀ w ∈ u_ws RT FT 4, w ∈ TT := by
  intro w hw
  obtain ⟨k, hk, rfl⟩ := List.mem_map.mp hw
  have hk := List.mem_range.mp hk
  match k, hk with
  | 0, _ => exact inTT 81 (by decide +kernel) (by decide +kernel)
  | 1, _ => exact inTT 83 (by decide +kernel) (by decide +kernel)
  | 2, _ => exact inTT 85 (by decide +kernel) (by decide +kernel)
  | 3, _ => exact inTT 87 (by decide +kernel) (by decide +kernel)
  | k + 4, hk => exact absurd hk (by omega)
theorem inS : ∀ w ∈ u_ws RS FS 7, w ∈ TT := by
  intro w hw
  obtain ⟨k, hk, rfl⟩ := List.mem_map.mp hw
  have hk := List.mem_range.mp hk
  match k, hk with
  | 0, _ => exact inTT 115 (by decide +kernel) (by decide +kernel)
  | 1, _ => exact inTT 117 (by decide +kernel) (by decide +kernel)
  | 2, _ => exact inTT 119 (by decide +kernel) (by decide +kernel)
  | 3, _ => exact inTT 121 (by decide +kernel) (by decide +kernel)
  | 4, _ => exact inTT 123 (by decide +kernel) (by decide +kernel)
  | 5, _ => exact inTT 125 (by decide +kernel) (by decide +kernel)
  | 6, _ => exact inTT 127 (by decide +kernel) (by decide +kernel)
  | k + 7, hk => exact absurd hk (by omega)
theorem inP : ∀ w ∈ u_ws RP FP 7, w ∈ TT := by
  intro w hw
  obtain ⟨k, hk, rfl⟩ := List.mem_map.mp hw
  have hk := List.mem_range.mp hk
  match k, hk with
  | 0, _ => exact inTT 49 (by decide +kernel) (by decide +kernel)
  | 1, _ => exact inTT 51 (by decide +kernel) (by decide +kernel)
  | 2, _ => exact inTT 53 (by decide +kernel) (by decide +kernel)
  | 3, _ => exact inTT 55 (by decide +kernel) (by decide +kernel)
  | 4, _ => exact inTT 57 (by decide +kernel) (by decide +kernel)
  | 5, _ => exact inTT 59 (by decide +kernel) (by decide +kernel)
  | 6, _ => exact inTT 61 (by decide +kernel) (by decide +kernel)
  | k + 7, hk => exact absurd hk (by omega)
theorem inM : ∀ w ∈ u_ws RM FM 12, w ∈ TT := by
  intro w hw
  obtain ⟨k, hk, rfl⟩ := List.mem_map.mp hw
  have hk := List.mem_range.mp hk
  match k, hk with
  | 0, _ => exact inTT 368 (by decide +kernel) (by decide +kernel)
  | 1, _ => exact inTT 370 (by decide +kernel) (by decide +kernel)
  | 2, _ => exact inTT 372 (by decide +kernel) (by decide +kernel)
  | 3, _ => exact inTT 374 (by decide +kernel) (by decide +kernel)
  | 4, _ => exact inTT 376 (by decide +kernel) (by decide +kernel)
  | 5, _ => exact inTT 378 (by decide +kernel) (by decide +kernel)
  | 6, _ => exact inTT 380 (by decide +kernel) (by decide +kernel)
  | 7, _ => exact inTT 382 (by decide +kernel) (by decide +kernel)
  | 8, _ => exact inTT 384 (by decide +kernel) (by decide +kernel)
  | 9, _ => exact inTT 386 (by decide +kernel) (by decide +kernel)
  | 10, _ => exact inTT 388 (by decide +kernel) (by decide +kernel)
  | 11, _ => exact inTT 390 (by decide +kernel) (by decide +kernel)
  | k + 12, hk => exact absurd hk (by omega)
/-- the links to private members of the nest -/
def NN : List Cond := [(Cond.methodLinkNest "TasterPanels" (37 : Nat) ({ cls := "TasterPanels$Taster", name := "<init>", desc := "()V" } : MethodName) "TasterPanels"), (Cond.fieldLinkNest "TasterPanels" (136 : Nat) "TasterPanels$Taster" "told" "[Z" "TasterPanels"), (Cond.fieldLinkNest "TasterPanels" (139 : Nat) "TasterPanels$Taster" "found" "[Z" "TasterPanels"), (Cond.fieldLinkNest "TasterPanels" (84 : Nat) "TasterPanels$Taster" "answers" "I" "TasterPanels"), (Cond.fieldLinkNest "TasterPanels" (95 : Nat) "TasterPanels$Taster" "rights" "I" "TasterPanels"), (Cond.methodLinkNest "TasterPanels" (45 : Nat) ({ cls := "TasterPanels$Test", name := "<init>", desc := "(II)V" } : MethodName) "TasterPanels"), (Cond.fieldLinkNest "TasterPanels" (85 : Nat) "TasterPanels$Test" "kind" "I" "TasterPanels"), (Cond.fieldLinkNest "TasterPanels" (74 : Nat) "TasterPanels$Test" "samples" "I" "TasterPanels"), (Cond.fieldLinkNest "TasterPanels" (64 : Nat) "TasterPanels$Test" "orders" "[I" "TasterPanels"), (Cond.fieldLinkNest "TasterPanels" (77 : Nat) "TasterPanels$Test" "answered" "[Z" "TasterPanels"), (Cond.fieldLinkNest "TasterPanels" (124 : Nat) "TasterPanels$Test" "ranks" "[I" "TasterPanels"), (Cond.fieldLinkNest "TasterPanels" (81 : Nat) "TasterPanels$Test" "answers" "I" "TasterPanels"), (Cond.fieldLinkNest "TasterPanels" (92 : Nat) "TasterPanels$Test" "rights" "I" "TasterPanels")]
theorem NN_in : ∀ w ∈ NN, w ∈ lw_tbl := by
  intro w hw
  simp only [NN, List.mem_cons, List.not_mem_nil, or_false] at hw
  rcases hw with rfl | rfl | rfl | rfl | rfl | rfl | rfl | rfl | rfl | rfl | rfl | rfl | rfl
  · exact List.mem_of_getElem? (i := 71) (by decide +kernel)
  · exact List.mem_of_getElem? (i := 76) (by decide +kernel)
  · exact List.mem_of_getElem? (i := 78) (by decide +kernel)
  · exact List.mem_of_getElem? (i := 79) (by decide +kernel)
  · exact List.mem_of_getElem? (i := 80) (by decide +kernel)
  · exact List.mem_of_getElem? (i := 99) (by decide +kernel)
  · exact List.mem_of_getElem? (i := 104) (by decide +kernel)
  · exact List.mem_of_getElem? (i := 106) (by decide +kernel)
  · exact List.mem_of_getElem? (i := 108) (by decide +kernel)
  · exact List.mem_of_getElem? (i := 110) (by decide +kernel)
  · exact List.mem_of_getElem? (i := 112) (by decide +kernel)
  · exact List.mem_of_getElem? (i := 113) (by decide +kernel)
  · exact List.mem_of_getElem? (i := 114) (by decide +kernel)
def Nst (U : State) : Prop := (∀ w ∈ NN, va_Nw w U) ∧ va_AO "TasterPanels$Taster" U ∧ va_AO "TasterPanels$Test" U
theorem kA_T : Cond.arrayOver (.object "TasterPanels$Taster") ∈ lw_tbl := List.mem_of_getElem? (i := 39) (by decide +kernel)
theorem kA_S : Cond.arrayOver (.object "TasterPanels$Test") ∈ lw_tbl := List.mem_of_getElem? (i := 41) (by decide +kernel)
theorem Nst.warm {s U : State} (hW : s.WarmedH U.vm) (h : Nst s) : Nst U := by
  refine ⟨?_, va_AO.moved hW.alike h.2.1, va_AO.moved hW.alike h.2.2⟩
  intro w hw
  have h1 := h.1 w hw
  simp only [NN, List.mem_cons, List.not_mem_nil, or_false] at hw
  rcases hw with rfl | rfl | rfl | rfl | rfl | rfl | rfl | rfl | rfl | rfl | rfl | rfl | rfl
  all_goals first | exact va_Nw.warmF hW h1 | exact va_Nw.warmM hW h1
theorem kN37 {U : State} (h : Nst U) : va_Nw (Cond.methodLinkNest "TasterPanels" (37 : Nat) ({ cls := "TasterPanels$Taster", name := "<init>", desc := "()V" } : MethodName) "TasterPanels") U := h.1 _ (List.mem_of_getElem? (i := 0) rfl)
theorem kN136 {U : State} (h : Nst U) : va_Nw (Cond.fieldLinkNest "TasterPanels" (136 : Nat) "TasterPanels$Taster" "told" "[Z" "TasterPanels") U := h.1 _ (List.mem_of_getElem? (i := 1) rfl)
theorem kN139 {U : State} (h : Nst U) : va_Nw (Cond.fieldLinkNest "TasterPanels" (139 : Nat) "TasterPanels$Taster" "found" "[Z" "TasterPanels") U := h.1 _ (List.mem_of_getElem? (i := 2) rfl)
theorem kN84 {U : State} (h : Nst U) : va_Nw (Cond.fieldLinkNest "TasterPanels" (84 : Nat) "TasterPanels$Taster" "answers" "I" "TasterPanels") U := h.1 _ (List.mem_of_getElem? (i := 3) rfl)
theorem kN95 {U : State} (h : Nst U) : va_Nw (Cond.fieldLinkNest "TasterPanels" (95 : Nat) "TasterPanels$Taster" "rights" "I" "TasterPanels") U := h.1 _ (List.mem_of_getElem? (i := 4) rfl)
theorem kN45 {U : State} (h : Nst U) : va_Nw (Cond.methodLinkNest "TasterPanels" (45 : Nat) ({ cls := "TasterPanels$Test", name := "<init>", desc := "(II)V" } : MethodName) "TasterPanels") U := h.1 _ (List.mem_of_getElem? (i := 5) rfl)
theorem kN85 {U : State} (h : Nst U) : va_Nw (Cond.fieldLinkNest "TasterPanels" (85 : Nat) "TasterPanels$Test" "kind" "I" "TasterPanels") U := h.1 _ (List.mem_of_getElem? (i := 6) rfl)
theorem kN74 {U : State} (h : Nst U) : va_Nw (Cond.fieldLinkNest "TasterPanels" (74 : Nat) "TasterPanels$Test" "samples" "I" "TasterPanels") U := h.1 _ (List.mem_of_getElem? (i := 7) rfl)
theorem kN64 {U : State} (h : Nst U) : va_Nw (Cond.fieldLinkNest "TasterPanels" (64 : Nat) "TasterPanels$Test" "orders" "[I" "TasterPanels") U := h.1 _ (List.mem_of_getElem? (i := 8) rfl)
theorem kN77 {U : State} (h : Nst U) : va_Nw (Cond.fieldLinkNest "TasterPanels" (77 : Nat) "TasterPanels$Test" "answered" "[Z" "TasterPanels") U := h.1 _ (List.mem_of_getElem? (i := 9) rfl)
theorem kN124 {U : State} (h : Nst U) : va_Nw (Cond.fieldLinkNest "TasterPanels" (124 : Nat) "TasterPanels$Test" "ranks" "[I" "TasterPanels") U := h.1 _ (List.mem_of_getElem? (i := 10) rfl)
theorem kN81 {U : State} (h : Nst U) : va_Nw (Cond.fieldLinkNest "TasterPanels" (81 : Nat) "TasterPanels$Test" "answers" "I" "TasterPanels") U := h.1 _ (List.mem_of_getElem? (i := 11) rfl)
theorem kN92 {U : State} (h : Nst U) : va_Nw (Cond.fieldLinkNest "TasterPanels" (92 : Nat) "TasterPanels$Test" "rights" "I" "TasterPanels") U := h.1 _ (List.mem_of_getElem? (i := 12) rfl)
end
section
theorem dP_init_0 : decode bP_init 0 = .ok (.aload_n 0, 1) := by decide +kernel
theorem dP_init_1 : decode bP_init 1 = .ok (.invokespecial 1, 3) := by decide +kernel
theorem dP_init_4 : decode bP_init 4 = .ok (.aload_n 0, 1) := by decide +kernel
theorem dP_init_5 : decode bP_init 5 = .ok (.bipush 26, 2) := by decide +kernel
theorem dP_init_7 : decode bP_init 7 = .ok (.anewarray 9, 3) := by decide +kernel
theorem dP_init_10 : decode bP_init 10 = .ok (.putfield 11, 3) := by decide +kernel
theorem dP_init_13 : decode bP_init 13 = .ok (.aload_n 0, 1) := by decide +kernel
theorem dP_init_14 : decode bP_init 14 = .ok (.bipush 40, 2) := by decide +kernel
theorem dP_init_16 : decode bP_init 16 = .ok (.anewarray 15, 3) := by decide +kernel
theorem dP_init_19 : decode bP_init 19 = .ok (.putfield 17, 3) := by decide +kernel
theorem dP_init_22 : decode bP_init 22 = .ok (.aload_n 0, 1) := by decide +kernel
theorem dP_init_23 : decode bP_init 23 = .ok (.bipush 120, 2) := by decide +kernel
theorem dP_init_25 : decode bP_init 25 = .ok (.newarray .int, 2) := by decide +kernel
theorem dP_init_27 : decode bP_init 27 = .ok (.putfield 21, 3) := by decide +kernel
theorem dP_init_30 : decode bP_init 30 = .ok (.aload_n 0, 1) := by decide +kernel
theorem dP_init_31 : decode bP_init 31 = .ok (.sipush 131, 3) := by decide +kernel
theorem dP_init_34 : decode bP_init 34 = .ok (.newarray .long, 2) := by decide +kernel
theorem dP_init_36 : decode bP_init 36 = .ok (.putfield 25, 3) := by decide +kernel
theorem dP_init_39 : decode bP_init 39 = .ok (.aload_n 0, 1) := by decide +kernel
theorem dP_init_40 : decode bP_init 40 = .ok (.lload_n 1, 1) := by decide +kernel
theorem dP_init_41 : decode bP_init 41 = .ok (.putfield 29, 3) := by decide +kernel
theorem dP_init_44 : decode bP_init 44 = .ok (.return_, 1) := by decide +kernel
theorem dP_taster_0 : decode bP_taster 0 = .ok (.aload_n 0, 1) := by decide +kernel
theorem dP_taster_1 : decode bP_taster 1 = .ok (.getfield 33, 3) := by decide +kernel
theorem dP_taster_4 : decode bP_taster 4 = .ok (.bipush 26, 2) := by decide +kernel
theorem dP_taster_6 : decode bP_taster 6 = .ok (.if_icmp .lt 6, 3) := by decide +kernel
theorem dP_taster_9 : decode bP_taster 9 = .ok (.bipush (-2), 2) := by decide +kernel
theorem dP_taster_11 : decode bP_taster 11 = .ok (.ireturn, 1) := by decide +kernel
theorem dP_taster_12 : decode bP_taster 12 = .ok (.aload_n 0, 1) := by decide +kernel
theorem dP_taster_13 : decode bP_taster 13 = .ok (.getfield 11, 3) := by decide +kernel
theorem dP_taster_16 : decode bP_taster 16 = .ok (.aload_n 0, 1) := by decide +kernel
theorem dP_taster_17 : decode bP_taster 17 = .ok (.getfield 33, 3) := by decide +kernel
theorem dP_taster_20 : decode bP_taster 20 = .ok (.new 9, 3) := by decide +kernel
theorem dP_taster_23 : decode bP_taster 23 = .ok (.dup, 1) := by decide +kernel
theorem dP_taster_24 : decode bP_taster 24 = .ok (.invokespecial 37, 3) := by decide +kernel
theorem dP_taster_27 : decode bP_taster 27 = .ok (.aastore, 1) := by decide +kernel
theorem dP_taster_28 : decode bP_taster 28 = .ok (.aload_n 0, 1) := by decide +kernel
theorem dP_taster_29 : decode bP_taster 29 = .ok (.dup, 1) := by decide +kernel
theorem dP_taster_30 : decode bP_taster 30 = .ok (.getfield 33, 3) := by decide +kernel
theorem dP_taster_33 : decode bP_taster 33 = .ok (.dup_x1, 1) := by decide +kernel
theorem dP_taster_34 : decode bP_taster 34 = .ok (.iconst 1, 1) := by decide +kernel
theorem dP_taster_35 : decode bP_taster 35 = .ok (.iadd, 1) := by decide +kernel
theorem dP_taster_36 : decode bP_taster 36 = .ok (.putfield 33, 3) := by decide +kernel
theorem dP_taster_39 : decode bP_taster 39 = .ok (.ireturn, 1) := by decide +kernel
theorem dT_init_0 : decode bT_init 0 = .ok (.aload_n 0, 1) := by decide +kernel
theorem dT_init_1 : decode bT_init 1 = .ok (.invokespecial 3, 3) := by decide +kernel
theorem dT_init_4 : decode bT_init 4 = .ok (.aload_n 0, 1) := by decide +kernel
theorem dT_init_5 : decode bT_init 5 = .ok (.bipush 16, 2) := by decide +kernel
theorem dT_init_7 : decode bT_init 7 = .ok (.newarray .boolean, 2) := by decide +kernel
theorem dT_init_9 : decode bT_init 9 = .ok (.putfield 9, 3) := by decide +kernel
theorem dT_init_12 : decode bT_init 12 = .ok (.aload_n 0, 1) := by decide +kernel
theorem dT_init_13 : decode bT_init 13 = .ok (.bipush 16, 2) := by decide +kernel
theorem dT_init_15 : decode bT_init 15 = .ok (.newarray .boolean, 2) := by decide +kernel
theorem dT_init_17 : decode bT_init 17 = .ok (.putfield 15, 3) := by decide +kernel
theorem dT_init_20 : decode bT_init 20 = .ok (.return_, 1) := by decide +kernel
theorem dP_test_0 : decode bP_test 0 = .ok (.iload_n 1, 1) := by decide +kernel
theorem dP_test_1 : decode bP_test 1 = .ok (.iload_n 2, 1) := by decide +kernel
theorem dP_test_2 : decode bP_test 2 = .ok (.invokestatic 38, 3) := by decide +kernel
theorem dP_test_5 : decode bP_test 5 = .ok (.ifCond .ne 5, 3) := by decide +kernel
theorem dP_test_8 : decode bP_test 8 = .ok (.iconst (-1), 1) := by decide +kernel
theorem dP_test_9 : decode bP_test 9 = .ok (.ireturn, 1) := by decide +kernel
theorem dP_test_10 : decode bP_test 10 = .ok (.aload_n 0, 1) := by decide +kernel
theorem dP_test_11 : decode bP_test 11 = .ok (.getfield 42, 3) := by decide +kernel
theorem dP_test_14 : decode bP_test 14 = .ok (.bipush 40, 2) := by decide +kernel
theorem dP_test_16 : decode bP_test 16 = .ok (.if_icmp .lt 6, 3) := by decide +kernel
theorem dP_test_19 : decode bP_test 19 = .ok (.bipush (-2), 2) := by decide +kernel
theorem dP_test_21 : decode bP_test 21 = .ok (.ireturn, 1) := by decide +kernel
theorem dP_test_22 : decode bP_test 22 = .ok (.new 15, 3) := by decide +kernel
theorem dP_test_25 : decode bP_test 25 = .ok (.dup, 1) := by decide +kernel
theorem dP_test_26 : decode bP_test 26 = .ok (.iload_n 1, 1) := by decide +kernel
theorem dP_test_27 : decode bP_test 27 = .ok (.iload_n 2, 1) := by decide +kernel
theorem dP_test_28 : decode bP_test 28 = .ok (.invokespecial 45, 3) := by decide +kernel
theorem dP_test_31 : decode bP_test 31 = .ok (.astore_n 3, 1) := by decide +kernel
theorem dP_test_32 : decode bP_test 32 = .ok (.aload_n 0, 1) := by decide +kernel
theorem dP_test_33 : decode bP_test 33 = .ok (.aload_n 3, 1) := by decide +kernel
theorem dP_test_34 : decode bP_test 34 = .ok (.aload_n 0, 1) := by decide +kernel
theorem dP_test_35 : decode bP_test 35 = .ok (.getfield 42, 3) := by decide +kernel
theorem dP_test_38 : decode bP_test 38 = .ok (.invokevirtual 48, 3) := by decide +kernel
theorem dP_test_41 : decode bP_test 41 = .ok (.aload_n 0, 1) := by decide +kernel
theorem dP_test_42 : decode bP_test 42 = .ok (.getfield 17, 3) := by decide +kernel
theorem dP_test_45 : decode bP_test 45 = .ok (.aload_n 0, 1) := by decide +kernel
theorem dP_test_46 : decode bP_test 46 = .ok (.getfield 42, 3) := by decide +kernel
theorem dP_test_49 : decode bP_test 49 = .ok (.aload_n 3, 1) := by decide +kernel
theorem dP_test_50 : decode bP_test 50 = .ok (.aastore, 1) := by decide +kernel
theorem dP_test_51 : decode bP_test 51 = .ok (.aload_n 0, 1) := by decide +kernel
theorem dP_test_52 : decode bP_test 52 = .ok (.dup, 1) := by decide +kernel
theorem dP_test_53 : decode bP_test 53 = .ok (.getfield 42, 3) := by decide +kernel
theorem dP_test_56 : decode bP_test 56 = .ok (.dup_x1, 1) := by decide +kernel
theorem dP_test_57 : decode bP_test 57 = .ok (.iconst 1, 1) := by decide +kernel
theorem dP_test_58 : decode bP_test 58 = .ok (.iadd, 1) := by decide +kernel
theorem dP_test_59 : decode bP_test 59 = .ok (.putfield 42, 3) := by decide +kernel
theorem dP_test_62 : decode bP_test 62 = .ok (.ireturn, 1) := by decide +kernel
theorem dP_isKindOf_0 : decode bP_isKindOf 0 = .ok (.iload_n 0, 1) := by decide +kernel
theorem dP_isKindOf_1 : decode bP_isKindOf 1 = .ok (.tableswitch 69 0 3 #[31, 42, 42, 53], 31) := by decide +kernel
theorem dP_isKindOf_32 : decode bP_isKindOf 32 = .ok (.iload_n 1, 1) := by decide +kernel
theorem dP_isKindOf_33 : decode bP_isKindOf 33 = .ok (.iconst 3, 1) := by decide +kernel
theorem dP_isKindOf_34 : decode bP_isKindOf 34 = .ok (.if_icmp .ne 7, 3) := by decide +kernel
theorem dP_isKindOf_37 : decode bP_isKindOf 37 = .ok (.iconst 1, 1) := by decide +kernel
theorem dP_isKindOf_38 : decode bP_isKindOf 38 = .ok (.goto 4, 3) := by decide +kernel
theorem dP_isKindOf_41 : decode bP_isKindOf 41 = .ok (.iconst 0, 1) := by decide +kernel
theorem dP_isKindOf_42 : decode bP_isKindOf 42 = .ok (.ireturn, 1) := by decide +kernel
theorem dP_isKindOf_43 : decode bP_isKindOf 43 = .ok (.iload_n 1, 1) := by decide +kernel
theorem dP_isKindOf_44 : decode bP_isKindOf 44 = .ok (.iconst 2, 1) := by decide +kernel
theorem dP_isKindOf_45 : decode bP_isKindOf 45 = .ok (.if_icmp .ne 7, 3) := by decide +kernel
theorem dP_isKindOf_48 : decode bP_isKindOf 48 = .ok (.iconst 1, 1) := by decide +kernel
theorem dP_isKindOf_49 : decode bP_isKindOf 49 = .ok (.goto 4, 3) := by decide +kernel
theorem dP_isKindOf_52 : decode bP_isKindOf 52 = .ok (.iconst 0, 1) := by decide +kernel
theorem dP_isKindOf_53 : decode bP_isKindOf 53 = .ok (.ireturn, 1) := by decide +kernel
theorem dP_isKindOf_54 : decode bP_isKindOf 54 = .ok (.iload_n 1, 1) := by decide +kernel
theorem dP_isKindOf_55 : decode bP_isKindOf 55 = .ok (.iconst 2, 1) := by decide +kernel
theorem dP_isKindOf_56 : decode bP_isKindOf 56 = .ok (.if_icmp .lt 12, 3) := by decide +kernel
theorem dP_isKindOf_59 : decode bP_isKindOf 59 = .ok (.iload_n 1, 1) := by decide +kernel
theorem dP_isKindOf_60 : decode bP_isKindOf 60 = .ok (.iconst 5, 1) := by decide +kernel
theorem dP_isKindOf_61 : decode bP_isKindOf 61 = .ok (.if_icmp .gt 7, 3) := by decide +kernel
theorem dP_isKindOf_64 : decode bP_isKindOf 64 = .ok (.iconst 1, 1) := by decide +kernel
theorem dP_isKindOf_65 : decode bP_isKindOf 65 = .ok (.goto 4, 3) := by decide +kernel
theorem dP_isKindOf_68 : decode bP_isKindOf 68 = .ok (.iconst 0, 1) := by decide +kernel
theorem dP_isKindOf_69 : decode bP_isKindOf 69 = .ok (.ireturn, 1) := by decide +kernel
theorem dP_isKindOf_70 : decode bP_isKindOf 70 = .ok (.iconst 0, 1) := by decide +kernel
theorem dP_isKindOf_71 : decode bP_isKindOf 71 = .ok (.ireturn, 1) := by decide +kernel
theorem dS_init_0 : decode bS_init 0 = .ok (.aload_n 0, 1) := by decide +kernel
theorem dS_init_1 : decode bS_init 1 = .ok (.invokespecial 3, 3) := by decide +kernel
theorem dS_init_4 : decode bS_init 4 = .ok (.aload_n 0, 1) := by decide +kernel
theorem dS_init_5 : decode bS_init 5 = .ok (.bipush 26, 2) := by decide +kernel
theorem dS_init_7 : decode bS_init 7 = .ok (.newarray .int, 2) := by decide +kernel
theorem dS_init_9 : decode bS_init 9 = .ok (.putfield 9, 3) := by decide +kernel
theorem dS_init_12 : decode bS_init 12 = .ok (.aload_n 0, 1) := by decide +kernel
theorem dS_init_13 : decode bS_init 13 = .ok (.bipush 26, 2) := by decide +kernel
theorem dS_init_15 : decode bS_init 15 = .ok (.newarray .boolean, 2) := by decide +kernel
theorem dS_init_17 : decode bS_init 17 = .ok (.putfield 15, 3) := by decide +kernel
theorem dS_init_20 : decode bS_init 20 = .ok (.aload_n 0, 1) := by decide +kernel
theorem dS_init_21 : decode bS_init 21 = .ok (.sipush 130, 3) := by decide +kernel
theorem dS_init_24 : decode bS_init 24 = .ok (.newarray .int, 2) := by decide +kernel
theorem dS_init_26 : decode bS_init 26 = .ok (.putfield 19, 3) := by decide +kernel
theorem dS_init_29 : decode bS_init 29 = .ok (.aload_n 0, 1) := by decide +kernel
theorem dS_init_30 : decode bS_init 30 = .ok (.iload_n 1, 1) := by decide +kernel
theorem dS_init_31 : decode bS_init 31 = .ok (.putfield 22, 3) := by decide +kernel
theorem dS_init_34 : decode bS_init 34 = .ok (.aload_n 0, 1) := by decide +kernel
theorem dS_init_35 : decode bS_init 35 = .ok (.iload_n 2, 1) := by decide +kernel
theorem dS_init_36 : decode bS_init 36 = .ok (.putfield 26, 3) := by decide +kernel
theorem dS_init_39 : decode bS_init 39 = .ok (.return_, 1) := by decide +kernel
theorem dP_giveOrders_0 : decode bP_giveOrders 0 = .ok (.aload_n 1, 1) := by decide +kernel
theorem dP_giveOrders_1 : decode bP_giveOrders 1 = .ok (.invokestatic 160, 3) := by decide +kernel
theorem dP_giveOrders_4 : decode bP_giveOrders 4 = .ok (.istore_n 3, 1) := by decide +kernel
theorem dP_giveOrders_5 : decode bP_giveOrders 5 = .ok (.iconst 0, 1) := by decide +kernel
theorem dP_giveOrders_6 : decode bP_giveOrders 6 = .ok (.istore 4, 2) := by decide +kernel
theorem dP_giveOrders_8 : decode bP_giveOrders 8 = .ok (.iconst 0, 1) := by decide +kernel
theorem dP_giveOrders_9 : decode bP_giveOrders 9 = .ok (.istore 5, 2) := by decide +kernel
theorem dP_giveOrders_11 : decode bP_giveOrders 11 = .ok (.aload_n 0, 1) := by decide +kernel
theorem dP_giveOrders_12 : decode bP_giveOrders 12 = .ok (.iload_n 3, 1) := by decide +kernel
theorem dP_giveOrders_13 : decode bP_giveOrders 13 = .ok (.iload_n 2, 1) := by decide +kernel
theorem dP_giveOrders_14 : decode bP_giveOrders 14 = .ok (.iload 4, 2) := by decide +kernel
theorem dP_giveOrders_16 : decode bP_giveOrders 16 = .ok (.invokevirtual 163, 3) := by decide +kernel
theorem dP_giveOrders_19 : decode bP_giveOrders 19 = .ok (.iconst 0, 1) := by decide +kernel
theorem dP_giveOrders_20 : decode bP_giveOrders 20 = .ok (.istore 6, 2) := by decide +kernel
theorem dP_giveOrders_22 : decode bP_giveOrders 22 = .ok (.iload 6, 2) := by decide +kernel
theorem dP_giveOrders_24 : decode bP_giveOrders 24 = .ok (.bipush 26, 2) := by decide +kernel
theorem dP_giveOrders_26 : decode bP_giveOrders 26 = .ok (.if_icmp .ge 46, 3) := by decide +kernel
theorem dP_giveOrders_29 : decode bP_giveOrders 29 = .ok (.iload 5, 2) := by decide +kernel
theorem dP_giveOrders_31 : decode bP_giveOrders 31 = .ok (.iload_n 3, 1) := by decide +kernel
theorem dP_giveOrders_32 : decode bP_giveOrders 32 = .ok (.if_icmp .lt 17, 3) := by decide +kernel
theorem dP_giveOrders_35 : decode bP_giveOrders 35 = .ok (.iinc 4 1, 3) := by decide +kernel
theorem dP_giveOrders_38 : decode bP_giveOrders 38 = .ok (.iconst 0, 1) := by decide +kernel
theorem dP_giveOrders_39 : decode bP_giveOrders 39 = .ok (.istore 5, 2) := by decide +kernel
theorem dP_giveOrders_41 : decode bP_giveOrders 41 = .ok (.aload_n 0, 1) := by decide +kernel
theorem dP_giveOrders_42 : decode bP_giveOrders 42 = .ok (.iload_n 3, 1) := by decide +kernel
theorem dP_giveOrders_43 : decode bP_giveOrders 43 = .ok (.iload_n 2, 1) := by decide +kernel
theorem dP_giveOrders_44 : decode bP_giveOrders 44 = .ok (.iload 4, 2) := by decide +kernel
theorem dP_giveOrders_46 : decode bP_giveOrders 46 = .ok (.invokevirtual 163, 3) := by decide +kernel
theorem dP_giveOrders_49 : decode bP_giveOrders 49 = .ok (.aload_n 1, 1) := by decide +kernel
theorem dP_giveOrders_50 : decode bP_giveOrders 50 = .ok (.getfield 64, 3) := by decide +kernel
theorem dP_giveOrders_53 : decode bP_giveOrders 53 = .ok (.iload 6, 2) := by decide +kernel
theorem dP_giveOrders_55 : decode bP_giveOrders 55 = .ok (.aload_n 0, 1) := by decide +kernel
theorem dP_giveOrders_56 : decode bP_giveOrders 56 = .ok (.getfield 21, 3) := by decide +kernel
theorem dP_giveOrders_59 : decode bP_giveOrders 59 = .ok (.iload 5, 2) := by decide +kernel
theorem dP_giveOrders_61 : decode bP_giveOrders 61 = .ok (.iaload, 1) := by decide +kernel
theorem dP_giveOrders_62 : decode bP_giveOrders 62 = .ok (.iastore, 1) := by decide +kernel
theorem dP_giveOrders_63 : decode bP_giveOrders 63 = .ok (.iinc 5 1, 3) := by decide +kernel
theorem dP_giveOrders_66 : decode bP_giveOrders 66 = .ok (.iinc 6 1, 3) := by decide +kernel
theorem dP_giveOrders_69 : decode bP_giveOrders 69 = .ok (.goto (-47), 3) := by decide +kernel
theorem dP_giveOrders_72 : decode bP_giveOrders 72 = .ok (.return_, 1) := by decide +kernel
theorem dP_orderCount_0 : decode bP_orderCount 0 = .ok (.aload_n 0, 1) := by decide +kernel
theorem dP_orderCount_1 : decode bP_orderCount 1 = .ok (.getfield 85, 3) := by decide +kernel
theorem dP_orderCount_4 : decode bP_orderCount 4 = .ok (.tableswitch 35 0 2 #[28, 31, 33], 28) := by decide +kernel
theorem dP_orderCount_32 : decode bP_orderCount 32 = .ok (.bipush 6, 2) := by decide +kernel
theorem dP_orderCount_34 : decode bP_orderCount 34 = .ok (.ireturn, 1) := by decide +kernel
theorem dP_orderCount_35 : decode bP_orderCount 35 = .ok (.iconst 2, 1) := by decide +kernel
theorem dP_orderCount_36 : decode bP_orderCount 36 = .ok (.ireturn, 1) := by decide +kernel
theorem dP_orderCount_37 : decode bP_orderCount 37 = .ok (.iconst 4, 1) := by decide +kernel
theorem dP_orderCount_38 : decode bP_orderCount 38 = .ok (.ireturn, 1) := by decide +kernel
theorem dP_orderCount_39 : decode bP_orderCount 39 = .ok (.getstatic 157, 3) := by decide +kernel
theorem dP_orderCount_42 : decode bP_orderCount 42 = .ok (.aload_n 0, 1) := by decide +kernel
theorem dP_orderCount_43 : decode bP_orderCount 43 = .ok (.getfield 74, 3) := by decide +kernel
theorem dP_orderCount_46 : decode bP_orderCount 46 = .ok (.iaload, 1) := by decide +kernel
theorem dP_orderCount_47 : decode bP_orderCount 47 = .ok (.ireturn, 1) := by decide +kernel
theorem dP_mixOrders_0 : decode bP_mixOrders 0 = .ok (.iconst 0, 1) := by decide +kernel
theorem dP_mixOrders_1 : decode bP_mixOrders 1 = .ok (.istore 4, 2) := by decide +kernel
theorem dP_mixOrders_3 : decode bP_mixOrders 3 = .ok (.iload 4, 2) := by decide +kernel
theorem dP_mixOrders_5 : decode bP_mixOrders 5 = .ok (.iload_n 1, 1) := by decide +kernel
theorem dP_mixOrders_6 : decode bP_mixOrders 6 = .ok (.if_icmp .ge 18, 3) := by decide +kernel
theorem dP_mixOrders_9 : decode bP_mixOrders 9 = .ok (.aload_n 0, 1) := by decide +kernel
theorem dP_mixOrders_10 : decode bP_mixOrders 10 = .ok (.getfield 21, 3) := by decide +kernel
theorem dP_mixOrders_13 : decode bP_mixOrders 13 = .ok (.iload 4, 2) := by decide +kernel
theorem dP_mixOrders_15 : decode bP_mixOrders 15 = .ok (.iload 4, 2) := by decide +kernel
theorem dP_mixOrders_17 : decode bP_mixOrders 17 = .ok (.iastore, 1) := by decide +kernel
theorem dP_mixOrders_18 : decode bP_mixOrders 18 = .ok (.iinc 4 1, 3) := by decide +kernel
theorem dP_mixOrders_21 : decode bP_mixOrders 21 = .ok (.goto (-18), 3) := by decide +kernel
theorem dP_mixOrders_24 : decode bP_mixOrders 24 = .ok (.aload_n 0, 1) := by decide +kernel
theorem dP_mixOrders_25 : decode bP_mixOrders 25 = .ok (.getfield 29, 3) := by decide +kernel
theorem dP_mixOrders_28 : decode bP_mixOrders 28 = .ok (.ldc2_w 167, 3) := by decide +kernel
theorem dP_mixOrders_31 : decode bP_mixOrders 31 = .ok (.iload_n 2, 1) := by decide +kernel
theorem dP_mixOrders_32 : decode bP_mixOrders 32 = .ok (.i2l, 1) := by decide +kernel
theorem dP_mixOrders_33 : decode bP_mixOrders 33 = .ok (.lmul, 1) := by decide +kernel
theorem dP_mixOrders_34 : decode bP_mixOrders 34 = .ok (.ladd, 1) := by decide +kernel
theorem dP_mixOrders_35 : decode bP_mixOrders 35 = .ok (.ldc2_w 169, 3) := by decide +kernel
theorem dP_mixOrders_38 : decode bP_mixOrders 38 = .ok (.iload_n 3, 1) := by decide +kernel
theorem dP_mixOrders_39 : decode bP_mixOrders 39 = .ok (.i2l, 1) := by decide +kernel
theorem dP_mixOrders_40 : decode bP_mixOrders 40 = .ok (.lmul, 1) := by decide +kernel
theorem dP_mixOrders_41 : decode bP_mixOrders 41 = .ok (.ladd, 1) := by decide +kernel
theorem dP_mixOrders_42 : decode bP_mixOrders 42 = .ok (.lstore 4, 2) := by decide +kernel
theorem dP_mixOrders_44 : decode bP_mixOrders 44 = .ok (.iload_n 1, 1) := by decide +kernel
theorem dP_mixOrders_45 : decode bP_mixOrders 45 = .ok (.iconst 1, 1) := by decide +kernel
theorem dP_mixOrders_46 : decode bP_mixOrders 46 = .ok (.isub, 1) := by decide +kernel
theorem dP_mixOrders_47 : decode bP_mixOrders 47 = .ok (.istore 6, 2) := by decide +kernel
theorem dP_mixOrders_49 : decode bP_mixOrders 49 = .ok (.iload 6, 2) := by decide +kernel
theorem dP_mixOrders_51 : decode bP_mixOrders 51 = .ok (.iconst 1, 1) := by decide +kernel
theorem dP_mixOrders_52 : decode bP_mixOrders 52 = .ok (.if_icmp .lt 67, 3) := by decide +kernel
theorem dP_mixOrders_55 : decode bP_mixOrders 55 = .ok (.lload 4, 2) := by decide +kernel
theorem dP_mixOrders_57 : decode bP_mixOrders 57 = .ok (.ldc2_w 171, 3) := by decide +kernel
theorem dP_mixOrders_60 : decode bP_mixOrders 60 = .ok (.lmul, 1) := by decide +kernel
theorem dP_mixOrders_61 : decode bP_mixOrders 61 = .ok (.ldc2_w 173, 3) := by decide +kernel
theorem dP_mixOrders_64 : decode bP_mixOrders 64 = .ok (.ladd, 1) := by decide +kernel
theorem dP_mixOrders_65 : decode bP_mixOrders 65 = .ok (.lstore 4, 2) := by decide +kernel
theorem dP_mixOrders_67 : decode bP_mixOrders 67 = .ok (.lload 4, 2) := by decide +kernel
theorem dP_mixOrders_69 : decode bP_mixOrders 69 = .ok (.bipush 33, 2) := by decide +kernel
theorem dP_mixOrders_71 : decode bP_mixOrders 71 = .ok (.lushr, 1) := by decide +kernel
theorem dP_mixOrders_72 : decode bP_mixOrders 72 = .ok (.iload 6, 2) := by decide +kernel
theorem dP_mixOrders_74 : decode bP_mixOrders 74 = .ok (.iconst 1, 1) := by decide +kernel
theorem dP_mixOrders_75 : decode bP_mixOrders 75 = .ok (.iadd, 1) := by decide +kernel
theorem dP_mixOrders_76 : decode bP_mixOrders 76 = .ok (.i2l, 1) := by decide +kernel
theorem dP_mixOrders_77 : decode bP_mixOrders 77 = .ok (.lrem, 1) := by decide +kernel
theorem dP_mixOrders_78 : decode bP_mixOrders 78 = .ok (.l2i, 1) := by decide +kernel
theorem dP_mixOrders_79 : decode bP_mixOrders 79 = .ok (.istore 7, 2) := by decide +kernel
theorem dP_mixOrders_81 : decode bP_mixOrders 81 = .ok (.aload_n 0, 1) := by decide +kernel
theorem dP_mixOrders_82 : decode bP_mixOrders 82 = .ok (.getfield 21, 3) := by decide +kernel
theorem dP_mixOrders_85 : decode bP_mixOrders 85 = .ok (.iload 6, 2) := by decide +kernel
theorem dP_mixOrders_87 : decode bP_mixOrders 87 = .ok (.iaload, 1) := by decide +kernel
theorem dP_mixOrders_88 : decode bP_mixOrders 88 = .ok (.istore 8, 2) := by decide +kernel
theorem dP_mixOrders_90 : decode bP_mixOrders 90 = .ok (.aload_n 0, 1) := by decide +kernel
theorem dP_mixOrders_91 : decode bP_mixOrders 91 = .ok (.getfield 21, 3) := by decide +kernel
theorem dP_mixOrders_94 : decode bP_mixOrders 94 = .ok (.iload 6, 2) := by decide +kernel
theorem dP_mixOrders_96 : decode bP_mixOrders 96 = .ok (.aload_n 0, 1) := by decide +kernel
theorem dP_mixOrders_97 : decode bP_mixOrders 97 = .ok (.getfield 21, 3) := by decide +kernel
theorem dP_mixOrders_100 : decode bP_mixOrders 100 = .ok (.iload 7, 2) := by decide +kernel
theorem dP_mixOrders_102 : decode bP_mixOrders 102 = .ok (.iaload, 1) := by decide +kernel
theorem dP_mixOrders_103 : decode bP_mixOrders 103 = .ok (.iastore, 1) := by decide +kernel
theorem dP_mixOrders_104 : decode bP_mixOrders 104 = .ok (.aload_n 0, 1) := by decide +kernel
theorem dP_mixOrders_105 : decode bP_mixOrders 105 = .ok (.getfield 21, 3) := by decide +kernel
theorem dP_mixOrders_108 : decode bP_mixOrders 108 = .ok (.iload 7, 2) := by decide +kernel
theorem dP_mixOrders_110 : decode bP_mixOrders 110 = .ok (.iload 8, 2) := by decide +kernel
theorem dP_mixOrders_112 : decode bP_mixOrders 112 = .ok (.iastore, 1) := by decide +kernel
theorem dP_mixOrders_113 : decode bP_mixOrders 113 = .ok (.iinc 6 (-1), 3) := by decide +kernel
theorem dP_mixOrders_116 : decode bP_mixOrders 116 = .ok (.goto (-67), 3) := by decide +kernel
theorem dP_mixOrders_119 : decode bP_mixOrders 119 = .ok (.return_, 1) := by decide +kernel
theorem dP_order_0 : decode bP_order 0 = .ok (.aload_n 0, 1) := by decide +kernel
theorem dP_order_1 : decode bP_order 1 = .ok (.iload_n 1, 1) := by decide +kernel
theorem dP_order_2 : decode bP_order 2 = .ok (.invokevirtual 52, 3) := by decide +kernel
theorem dP_order_5 : decode bP_order 5 = .ok (.astore 4, 2) := by decide +kernel
theorem dP_order_7 : decode bP_order 7 = .ok (.aload 4, 2) := by decide +kernel
theorem dP_order_9 : decode bP_order 9 = .ok (.ifnull 24, 3) := by decide +kernel
theorem dP_order_12 : decode bP_order 12 = .ok (.aload_n 0, 1) := by decide +kernel
theorem dP_order_13 : decode bP_order 13 = .ok (.iload_n 2, 1) := by decide +kernel
theorem dP_order_14 : decode bP_order 14 = .ok (.invokevirtual 56, 3) := by decide +kernel
theorem dP_order_17 : decode bP_order 17 = .ok (.ifnull 16, 3) := by decide +kernel
theorem dP_order_20 : decode bP_order 20 = .ok (.iload_n 3, 1) := by decide +kernel
theorem dP_order_21 : decode bP_order 21 = .ok (.ifCond .lt 12, 3) := by decide +kernel
theorem dP_order_24 : decode bP_order 24 = .ok (.iload_n 3, 1) := by decide +kernel
theorem dP_order_25 : decode bP_order 25 = .ok (.aload 4, 2) := by decide +kernel
theorem dP_order_27 : decode bP_order 27 = .ok (.invokestatic 60, 3) := by decide +kernel
theorem dP_order_30 : decode bP_order 30 = .ok (.if_icmp .lt 5, 3) := by decide +kernel
theorem dP_order_33 : decode bP_order 33 = .ok (.iconst (-1), 1) := by decide +kernel
theorem dP_order_34 : decode bP_order 34 = .ok (.ireturn, 1) := by decide +kernel
theorem dP_order_35 : decode bP_order 35 = .ok (.aload 4, 2) := by decide +kernel
theorem dP_order_37 : decode bP_order 37 = .ok (.aload 4, 2) := by decide +kernel
theorem dP_order_39 : decode bP_order 39 = .ok (.getfield 64, 3) := by decide +kernel
theorem dP_order_42 : decode bP_order 42 = .ok (.iload_n 2, 1) := by decide +kernel
theorem dP_order_43 : decode bP_order 43 = .ok (.iaload, 1) := by decide +kernel
theorem dP_order_44 : decode bP_order 44 = .ok (.iload_n 3, 1) := by decide +kernel
theorem dP_order_45 : decode bP_order 45 = .ok (.invokestatic 67, 3) := by decide +kernel
theorem dP_order_48 : decode bP_order 48 = .ok (.ireturn, 1) := by decide +kernel
theorem dP_testAt_0 : decode bP_testAt 0 = .ok (.iload_n 1, 1) := by decide +kernel
theorem dP_testAt_1 : decode bP_testAt 1 = .ok (.ifCond .lt 9, 3) := by decide +kernel
theorem dP_testAt_4 : decode bP_testAt 4 = .ok (.iload_n 1, 1) := by decide +kernel
theorem dP_testAt_5 : decode bP_testAt 5 = .ok (.bipush 40, 2) := by decide +kernel
theorem dP_testAt_7 : decode bP_testAt 7 = .ok (.if_icmp .lt 7, 3) := by decide +kernel
theorem dP_testAt_10 : decode bP_testAt 10 = .ok (.aconst_null, 1) := by decide +kernel
theorem dP_testAt_11 : decode bP_testAt 11 = .ok (.goto 9, 3) := by decide +kernel
theorem dP_testAt_14 : decode bP_testAt 14 = .ok (.aload_n 0, 1) := by decide +kernel
theorem dP_testAt_15 : decode bP_testAt 15 = .ok (.getfield 17, 3) := by decide +kernel
theorem dP_testAt_18 : decode bP_testAt 18 = .ok (.iload_n 1, 1) := by decide +kernel
theorem dP_testAt_19 : decode bP_testAt 19 = .ok (.aaload, 1) := by decide +kernel
theorem dP_testAt_20 : decode bP_testAt 20 = .ok (.areturn, 1) := by decide +kernel
theorem dP_tasterAt_0 : decode bP_tasterAt 0 = .ok (.iload_n 1, 1) := by decide +kernel
theorem dP_tasterAt_1 : decode bP_tasterAt 1 = .ok (.ifCond .lt 9, 3) := by decide +kernel
theorem dP_tasterAt_4 : decode bP_tasterAt 4 = .ok (.iload_n 1, 1) := by decide +kernel
theorem dP_tasterAt_5 : decode bP_tasterAt 5 = .ok (.bipush 26, 2) := by decide +kernel
theorem dP_tasterAt_7 : decode bP_tasterAt 7 = .ok (.if_icmp .lt 7, 3) := by decide +kernel
theorem dP_tasterAt_10 : decode bP_tasterAt 10 = .ok (.aconst_null, 1) := by decide +kernel
theorem dP_tasterAt_11 : decode bP_tasterAt 11 = .ok (.goto 9, 3) := by decide +kernel
theorem dP_tasterAt_14 : decode bP_tasterAt 14 = .ok (.aload_n 0, 1) := by decide +kernel
theorem dP_tasterAt_15 : decode bP_tasterAt 15 = .ok (.getfield 11, 3) := by decide +kernel
theorem dP_tasterAt_18 : decode bP_tasterAt 18 = .ok (.iload_n 1, 1) := by decide +kernel
theorem dP_tasterAt_19 : decode bP_tasterAt 19 = .ok (.aaload, 1) := by decide +kernel
theorem dP_tasterAt_20 : decode bP_tasterAt 20 = .ok (.areturn, 1) := by decide +kernel
theorem dP_servings_0 : decode bP_servings 0 = .ok (.aload_n 0, 1) := by decide +kernel
theorem dP_servings_1 : decode bP_servings 1 = .ok (.getfield 85, 3) := by decide +kernel
theorem dP_servings_4 : decode bP_servings 4 = .ok (.iconst 2, 1) := by decide +kernel
theorem dP_servings_5 : decode bP_servings 5 = .ok (.if_icmp .ne 7, 3) := by decide +kernel
theorem dP_servings_8 : decode bP_servings 8 = .ok (.iconst 3, 1) := by decide +kernel
theorem dP_servings_9 : decode bP_servings 9 = .ok (.goto 7, 3) := by decide +kernel
theorem dP_servings_12 : decode bP_servings 12 = .ok (.aload_n 0, 1) := by decide +kernel
theorem dP_servings_13 : decode bP_servings 13 = .ok (.getfield 74, 3) := by decide +kernel
theorem dP_servings_16 : decode bP_servings 16 = .ok (.ireturn, 1) := by decide +kernel
theorem dP_served_0 : decode bP_served 0 = .ok (.aload_n 0, 1) := by decide +kernel
theorem dP_served_1 : decode bP_served 1 = .ok (.getfield 85, 3) := by decide +kernel
theorem dP_served_4 : decode bP_served 4 = .ok (.tableswitch 58 0 2 #[28, 38, 48], 28) := by decide +kernel
theorem dP_served_32 : decode bP_served 32 = .ok (.getstatic 175, 3) := by decide +kernel
theorem dP_served_35 : decode bP_served 35 = .ok (.iload_n 1, 1) := by decide +kernel
theorem dP_served_36 : decode bP_served 36 = .ok (.iconst 3, 1) := by decide +kernel
theorem dP_served_37 : decode bP_served 37 = .ok (.imul, 1) := by decide +kernel
theorem dP_served_38 : decode bP_served 38 = .ok (.iload_n 2, 1) := by decide +kernel
theorem dP_served_39 : decode bP_served 39 = .ok (.iadd, 1) := by decide +kernel
theorem dP_served_40 : decode bP_served 40 = .ok (.iaload, 1) := by decide +kernel
theorem dP_served_41 : decode bP_served 41 = .ok (.ireturn, 1) := by decide +kernel
theorem dP_served_42 : decode bP_served 42 = .ok (.getstatic 178, 3) := by decide +kernel
theorem dP_served_45 : decode bP_served 45 = .ok (.iload_n 1, 1) := by decide +kernel
theorem dP_served_46 : decode bP_served 46 = .ok (.iconst 2, 1) := by decide +kernel
theorem dP_served_47 : decode bP_served 47 = .ok (.imul, 1) := by decide +kernel
theorem dP_served_48 : decode bP_served 48 = .ok (.iload_n 2, 1) := by decide +kernel
theorem dP_served_49 : decode bP_served 49 = .ok (.iadd, 1) := by decide +kernel
theorem dP_served_50 : decode bP_served 50 = .ok (.iaload, 1) := by decide +kernel
theorem dP_served_51 : decode bP_served 51 = .ok (.ireturn, 1) := by decide +kernel
theorem dP_served_52 : decode bP_served 52 = .ok (.getstatic 181, 3) := by decide +kernel
theorem dP_served_55 : decode bP_served 55 = .ok (.iload_n 1, 1) := by decide +kernel
theorem dP_served_56 : decode bP_served 56 = .ok (.iconst 3, 1) := by decide +kernel
theorem dP_served_57 : decode bP_served 57 = .ok (.imul, 1) := by decide +kernel
theorem dP_served_58 : decode bP_served 58 = .ok (.iload_n 2, 1) := by decide +kernel
theorem dP_served_59 : decode bP_served 59 = .ok (.iadd, 1) := by decide +kernel
theorem dP_served_60 : decode bP_served 60 = .ok (.iaload, 1) := by decide +kernel
theorem dP_served_61 : decode bP_served 61 = .ok (.ireturn, 1) := by decide +kernel
theorem dP_served_62 : decode bP_served 62 = .ok (.aload_n 0, 1) := by decide +kernel
theorem dP_served_63 : decode bP_served 63 = .ok (.getfield 74, 3) := by decide +kernel
theorem dP_served_66 : decode bP_served 66 = .ok (.iload_n 1, 1) := by decide +kernel
theorem dP_served_67 : decode bP_served 67 = .ok (.iload_n 2, 1) := by decide +kernel
theorem dP_served_68 : decode bP_served 68 = .ok (.invokestatic 184, 3) := by decide +kernel
theorem dP_served_71 : decode bP_served 71 = .ok (.ireturn, 1) := by decide +kernel
theorem dP_sampleInRow_0 : decode bP_sampleInRow 0 = .ok (.iconst 0, 1) := by decide +kernel
theorem dP_sampleInRow_1 : decode bP_sampleInRow 1 = .ok (.istore_n 3, 1) := by decide +kernel
theorem dP_sampleInRow_2 : decode bP_sampleInRow 2 = .ok (.iload_n 1, 1) := by decide +kernel
theorem dP_sampleInRow_3 : decode bP_sampleInRow 3 = .ok (.istore 4, 2) := by decide +kernel
theorem dP_sampleInRow_5 : decode bP_sampleInRow 5 = .ok (.iconst (-1), 1) := by decide +kernel
theorem dP_sampleInRow_6 : decode bP_sampleInRow 6 = .ok (.istore 5, 2) := by decide +kernel
theorem dP_sampleInRow_8 : decode bP_sampleInRow 8 = .ok (.iconst 0, 1) := by decide +kernel
theorem dP_sampleInRow_9 : decode bP_sampleInRow 9 = .ok (.istore 6, 2) := by decide +kernel
theorem dP_sampleInRow_11 : decode bP_sampleInRow 11 = .ok (.iload 6, 2) := by decide +kernel
theorem dP_sampleInRow_13 : decode bP_sampleInRow 13 = .ok (.iload_n 2, 1) := by decide +kernel
theorem dP_sampleInRow_14 : decode bP_sampleInRow 14 = .ok (.if_icmp .gt 52, 3) := by decide +kernel
theorem dP_sampleInRow_17 : decode bP_sampleInRow 17 = .ok (.iload 6, 2) := by decide +kernel
theorem dP_sampleInRow_19 : decode bP_sampleInRow 19 = .ok (.iload_n 0, 1) := by decide +kernel
theorem dP_sampleInRow_20 : decode bP_sampleInRow 20 = .ok (.if_icmp .ge 46, 3) := by decide +kernel
theorem dP_sampleInRow_23 : decode bP_sampleInRow 23 = .ok (.getstatic 157, 3) := by decide +kernel
theorem dP_sampleInRow_26 : decode bP_sampleInRow 26 = .ok (.iload_n 0, 1) := by decide +kernel
theorem dP_sampleInRow_27 : decode bP_sampleInRow 27 = .ok (.iconst 1, 1) := by decide +kernel
theorem dP_sampleInRow_28 : decode bP_sampleInRow 28 = .ok (.isub, 1) := by decide +kernel
theorem dP_sampleInRow_29 : decode bP_sampleInRow 29 = .ok (.iload 6, 2) := by decide +kernel
theorem dP_sampleInRow_31 : decode bP_sampleInRow 31 = .ok (.isub, 1) := by decide +kernel
theorem dP_sampleInRow_32 : decode bP_sampleInRow 32 = .ok (.iaload, 1) := by decide +kernel
theorem dP_sampleInRow_33 : decode bP_sampleInRow 33 = .ok (.istore 7, 2) := by decide +kernel
theorem dP_sampleInRow_35 : decode bP_sampleInRow 35 = .ok (.iload_n 3, 1) := by decide +kernel
theorem dP_sampleInRow_36 : decode bP_sampleInRow 36 = .ok (.iload 4, 2) := by decide +kernel
theorem dP_sampleInRow_38 : decode bP_sampleInRow 38 = .ok (.iload 7, 2) := by decide +kernel
theorem dP_sampleInRow_40 : decode bP_sampleInRow 40 = .ok (.idiv, 1) := by decide +kernel
theorem dP_sampleInRow_41 : decode bP_sampleInRow 41 = .ok (.invokestatic 188, 3) := by decide +kernel
theorem dP_sampleInRow_44 : decode bP_sampleInRow 44 = .ok (.istore 5, 2) := by decide +kernel
theorem dP_sampleInRow_46 : decode bP_sampleInRow 46 = .ok (.iload_n 3, 1) := by decide +kernel
theorem dP_sampleInRow_47 : decode bP_sampleInRow 47 = .ok (.iconst 1, 1) := by decide +kernel
theorem dP_sampleInRow_48 : decode bP_sampleInRow 48 = .ok (.iload 5, 2) := by decide +kernel
theorem dP_sampleInRow_50 : decode bP_sampleInRow 50 = .ok (.ishl, 1) := by decide +kernel
theorem dP_sampleInRow_51 : decode bP_sampleInRow 51 = .ok (.ior, 1) := by decide +kernel
theorem dP_sampleInRow_52 : decode bP_sampleInRow 52 = .ok (.istore_n 3, 1) := by decide +kernel
theorem dP_sampleInRow_53 : decode bP_sampleInRow 53 = .ok (.iload 4, 2) := by decide +kernel
theorem dP_sampleInRow_55 : decode bP_sampleInRow 55 = .ok (.iload 7, 2) := by decide +kernel
theorem dP_sampleInRow_57 : decode bP_sampleInRow 57 = .ok (.irem, 1) := by decide +kernel
theorem dP_sampleInRow_58 : decode bP_sampleInRow 58 = .ok (.istore 4, 2) := by decide +kernel
theorem dP_sampleInRow_60 : decode bP_sampleInRow 60 = .ok (.iinc 6 1, 3) := by decide +kernel
theorem dP_sampleInRow_63 : decode bP_sampleInRow 63 = .ok (.goto (-52), 3) := by decide +kernel
theorem dP_sampleInRow_66 : decode bP_sampleInRow 66 = .ok (.iload 5, 2) := by decide +kernel
theorem dP_sampleInRow_68 : decode bP_sampleInRow 68 = .ok (.ireturn, 1) := by decide +kernel
theorem dP_unusedSample_0 : decode bP_unusedSample 0 = .ok (.iload_n 1, 1) := by decide +kernel
theorem dP_unusedSample_1 : decode bP_unusedSample 1 = .ok (.istore_n 2, 1) := by decide +kernel
theorem dP_unusedSample_2 : decode bP_unusedSample 2 = .ok (.iconst 0, 1) := by decide +kernel
theorem dP_unusedSample_3 : decode bP_unusedSample 3 = .ok (.istore_n 3, 1) := by decide +kernel
theorem dP_unusedSample_4 : decode bP_unusedSample 4 = .ok (.iload_n 3, 1) := by decide +kernel
theorem dP_unusedSample_5 : decode bP_unusedSample 5 = .ok (.iconst 5, 1) := by decide +kernel
theorem dP_unusedSample_6 : decode bP_unusedSample 6 = .ok (.if_icmp .ge 26, 3) := by decide +kernel
theorem dP_unusedSample_9 : decode bP_unusedSample 9 = .ok (.iload_n 0, 1) := by decide +kernel
theorem dP_unusedSample_10 : decode bP_unusedSample 10 = .ok (.iload_n 3, 1) := by decide +kernel
theorem dP_unusedSample_11 : decode bP_unusedSample 11 = .ok (.ishr, 1) := by decide +kernel
theorem dP_unusedSample_12 : decode bP_unusedSample 12 = .ok (.iconst 1, 1) := by decide +kernel
theorem dP_unusedSample_13 : decode bP_unusedSample 13 = .ok (.iand, 1) := by decide +kernel
theorem dP_unusedSample_14 : decode bP_unusedSample 14 = .ok (.ifCond .ne 12, 3) := by decide +kernel
theorem dP_unusedSample_17 : decode bP_unusedSample 17 = .ok (.iload_n 2, 1) := by decide +kernel
theorem dP_unusedSample_18 : decode bP_unusedSample 18 = .ok (.ifCond .ne 5, 3) := by decide +kernel
theorem dP_unusedSample_21 : decode bP_unusedSample 21 = .ok (.iload_n 3, 1) := by decide +kernel
theorem dP_unusedSample_22 : decode bP_unusedSample 22 = .ok (.ireturn, 1) := by decide +kernel
theorem dP_unusedSample_23 : decode bP_unusedSample 23 = .ok (.iinc 2 (-1), 3) := by decide +kernel
theorem dP_unusedSample_26 : decode bP_unusedSample 26 = .ok (.iinc 3 1, 3) := by decide +kernel
theorem dP_unusedSample_29 : decode bP_unusedSample 29 = .ok (.goto (-25), 3) := by decide +kernel
theorem dP_unusedSample_32 : decode bP_unusedSample 32 = .ok (.iconst (-1), 1) := by decide +kernel
theorem dP_unusedSample_33 : decode bP_unusedSample 33 = .ok (.ireturn, 1) := by decide +kernel
theorem dP_answer_0 : decode bP_answer 0 = .ok (.aload_n 0, 1) := by decide +kernel
theorem dP_answer_1 : decode bP_answer 1 = .ok (.iload_n 1, 1) := by decide +kernel
theorem dP_answer_2 : decode bP_answer 2 = .ok (.invokevirtual 71, 3) := by decide +kernel
theorem dP_answer_5 : decode bP_answer 5 = .ok (.astore 4, 2) := by decide +kernel
theorem dP_answer_7 : decode bP_answer 7 = .ok (.aload_n 0, 1) := by decide +kernel
theorem dP_answer_8 : decode bP_answer 8 = .ok (.iload_n 2, 1) := by decide +kernel
theorem dP_answer_9 : decode bP_answer 9 = .ok (.invokevirtual 56, 3) := by decide +kernel
theorem dP_answer_12 : decode bP_answer 12 = .ok (.astore 5, 2) := by decide +kernel
theorem dP_answer_14 : decode bP_answer 14 = .ok (.aload 4, 2) := by decide +kernel
theorem dP_answer_16 : decode bP_answer 16 = .ok (.ifnull 31, 3) := by decide +kernel
theorem dP_answer_19 : decode bP_answer 19 = .ok (.aload 5, 2) := by decide +kernel
theorem dP_answer_21 : decode bP_answer 21 = .ok (.ifnull 26, 3) := by decide +kernel
theorem dP_answer_24 : decode bP_answer 24 = .ok (.iload_n 3, 1) := by decide +kernel
theorem dP_answer_25 : decode bP_answer 25 = .ok (.ifCond .lt 22, 3) := by decide +kernel
theorem dP_answer_28 : decode bP_answer 28 = .ok (.iload_n 3, 1) := by decide +kernel
theorem dP_answer_29 : decode bP_answer 29 = .ok (.aload 4, 2) := by decide +kernel
theorem dP_answer_31 : decode bP_answer 31 = .ok (.getfield 74, 3) := by decide +kernel
theorem dP_answer_34 : decode bP_answer 34 = .ok (.if_icmp .ge 13, 3) := by decide +kernel
theorem dP_answer_37 : decode bP_answer 37 = .ok (.aload 4, 2) := by decide +kernel
theorem dP_answer_39 : decode bP_answer 39 = .ok (.getfield 77, 3) := by decide +kernel
theorem dP_answer_42 : decode bP_answer 42 = .ok (.iload_n 2, 1) := by decide +kernel
theorem dP_answer_43 : decode bP_answer 43 = .ok (.baload, 1) := by decide +kernel
theorem dP_answer_44 : decode bP_answer 44 = .ok (.ifCond .eq 5, 3) := by decide +kernel
theorem dP_answer_47 : decode bP_answer 47 = .ok (.iconst 0, 1) := by decide +kernel
theorem dP_answer_48 : decode bP_answer 48 = .ok (.ireturn, 1) := by decide +kernel
theorem dP_answer_49 : decode bP_answer 49 = .ok (.aload 4, 2) := by decide +kernel
theorem dP_answer_51 : decode bP_answer 51 = .ok (.getfield 77, 3) := by decide +kernel
theorem dP_answer_54 : decode bP_answer 54 = .ok (.iload_n 2, 1) := by decide +kernel
theorem dP_answer_55 : decode bP_answer 55 = .ok (.iconst 1, 1) := by decide +kernel
theorem dP_answer_56 : decode bP_answer 56 = .ok (.bastore, 1) := by decide +kernel
theorem dP_answer_57 : decode bP_answer 57 = .ok (.aload 4, 2) := by decide +kernel
theorem dP_answer_59 : decode bP_answer 59 = .ok (.dup, 1) := by decide +kernel
theorem dP_answer_60 : decode bP_answer 60 = .ok (.getfield 81, 3) := by decide +kernel
theorem dP_answer_63 : decode bP_answer 63 = .ok (.iconst 1, 1) := by decide +kernel
theorem dP_answer_64 : decode bP_answer 64 = .ok (.iadd, 1) := by decide +kernel
theorem dP_answer_65 : decode bP_answer 65 = .ok (.putfield 81, 3) := by decide +kernel
theorem dP_answer_68 : decode bP_answer 68 = .ok (.aload 5, 2) := by decide +kernel
theorem dP_answer_70 : decode bP_answer 70 = .ok (.dup, 1) := by decide +kernel
theorem dP_answer_71 : decode bP_answer 71 = .ok (.getfield 84, 3) := by decide +kernel
theorem dP_answer_74 : decode bP_answer 74 = .ok (.iconst 1, 1) := by decide +kernel
theorem dP_answer_75 : decode bP_answer 75 = .ok (.iadd, 1) := by decide +kernel
theorem dP_answer_76 : decode bP_answer 76 = .ok (.putfield 84, 3) := by decide +kernel
theorem dP_answer_79 : decode bP_answer 79 = .ok (.iload_n 3, 1) := by decide +kernel
theorem dP_answer_80 : decode bP_answer 80 = .ok (.aload 4, 2) := by decide +kernel
theorem dP_answer_82 : decode bP_answer 82 = .ok (.getfield 85, 3) := by decide +kernel
theorem dP_answer_85 : decode bP_answer 85 = .ok (.aload 4, 2) := by decide +kernel
theorem dP_answer_87 : decode bP_answer 87 = .ok (.getfield 64, 3) := by decide +kernel
theorem dP_answer_90 : decode bP_answer 90 = .ok (.iload_n 2, 1) := by decide +kernel
theorem dP_answer_91 : decode bP_answer 91 = .ok (.iaload, 1) := by decide +kernel
theorem dP_answer_92 : decode bP_answer 92 = .ok (.invokestatic 88, 3) := by decide +kernel
theorem dP_answer_95 : decode bP_answer 95 = .ok (.if_icmp .ne 25, 3) := by decide +kernel
theorem dP_answer_98 : decode bP_answer 98 = .ok (.aload 4, 2) := by decide +kernel
theorem dP_answer_100 : decode bP_answer 100 = .ok (.dup, 1) := by decide +kernel
theorem dP_answer_101 : decode bP_answer 101 = .ok (.getfield 92, 3) := by decide +kernel
theorem dP_answer_104 : decode bP_answer 104 = .ok (.iconst 1, 1) := by decide +kernel
theorem dP_answer_105 : decode bP_answer 105 = .ok (.iadd, 1) := by decide +kernel
theorem dP_answer_106 : decode bP_answer 106 = .ok (.putfield 92, 3) := by decide +kernel
theorem dP_answer_109 : decode bP_answer 109 = .ok (.aload 5, 2) := by decide +kernel
theorem dP_answer_111 : decode bP_answer 111 = .ok (.dup, 1) := by decide +kernel
theorem dP_answer_112 : decode bP_answer 112 = .ok (.getfield 95, 3) := by decide +kernel
theorem dP_answer_115 : decode bP_answer 115 = .ok (.iconst 1, 1) := by decide +kernel
theorem dP_answer_116 : decode bP_answer 116 = .ok (.iadd, 1) := by decide +kernel
theorem dP_answer_117 : decode bP_answer 117 = .ok (.putfield 95, 3) := by decide +kernel
theorem dP_answer_120 : decode bP_answer 120 = .ok (.iconst 1, 1) := by decide +kernel
theorem dP_answer_121 : decode bP_answer 121 = .ok (.ireturn, 1) := by decide +kernel
theorem dP_differenceAt_0 : decode bP_differenceAt 0 = .ok (.aload_n 0, 1) := by decide +kernel
theorem dP_differenceAt_1 : decode bP_differenceAt 1 = .ok (.iload_n 1, 1) := by decide +kernel
theorem dP_differenceAt_2 : decode bP_differenceAt 2 = .ok (.invokevirtual 52, 3) := by decide +kernel
theorem dP_differenceAt_5 : decode bP_differenceAt 5 = .ok (.astore_n 2, 1) := by decide +kernel
theorem dP_differenceAt_6 : decode bP_differenceAt 6 = .ok (.aload_n 2, 1) := by decide +kernel
theorem dP_differenceAt_7 : decode bP_differenceAt 7 = .ok (.ifnull 11, 3) := by decide +kernel
theorem dP_differenceAt_10 : decode bP_differenceAt 10 = .ok (.aload_n 2, 1) := by decide +kernel
theorem dP_differenceAt_11 : decode bP_differenceAt 11 = .ok (.getfield 85, 3) := by decide +kernel
theorem dP_differenceAt_14 : decode bP_differenceAt 14 = .ok (.iconst 3, 1) := by decide +kernel
theorem dP_differenceAt_15 : decode bP_differenceAt 15 = .ok (.if_icmp .ne 7, 3) := by decide +kernel
theorem dP_differenceAt_18 : decode bP_differenceAt 18 = .ok (.aconst_null, 1) := by decide +kernel
theorem dP_differenceAt_19 : decode bP_differenceAt 19 = .ok (.goto 4, 3) := by decide +kernel
theorem dP_differenceAt_22 : decode bP_differenceAt 22 = .ok (.aload_n 2, 1) := by decide +kernel
theorem dP_differenceAt_23 : decode bP_differenceAt 23 = .ok (.areturn, 1) := by decide +kernel
theorem dP_rightPlace_0 : decode bP_rightPlace 0 = .ok (.iload_n 0, 1) := by decide +kernel
theorem dP_rightPlace_1 : decode bP_rightPlace 1 = .ok (.lookupswitch 39 #[(0, 27), (1, 33)], 27) := by decide +kernel
theorem dP_rightPlace_28 : decode bP_rightPlace 28 = .ok (.getstatic 191, 3) := by decide +kernel
theorem dP_rightPlace_31 : decode bP_rightPlace 31 = .ok (.iload_n 1, 1) := by decide +kernel
theorem dP_rightPlace_32 : decode bP_rightPlace 32 = .ok (.iaload, 1) := by decide +kernel
theorem dP_rightPlace_33 : decode bP_rightPlace 33 = .ok (.ireturn, 1) := by decide +kernel
theorem dP_rightPlace_34 : decode bP_rightPlace 34 = .ok (.getstatic 194, 3) := by decide +kernel
theorem dP_rightPlace_37 : decode bP_rightPlace 37 = .ok (.iload_n 1, 1) := by decide +kernel
theorem dP_rightPlace_38 : decode bP_rightPlace 38 = .ok (.iaload, 1) := by decide +kernel
theorem dP_rightPlace_39 : decode bP_rightPlace 39 = .ok (.ireturn, 1) := by decide +kernel
theorem dP_rightPlace_40 : decode bP_rightPlace 40 = .ok (.getstatic 197, 3) := by decide +kernel
theorem dP_rightPlace_43 : decode bP_rightPlace 43 = .ok (.iload_n 1, 1) := by decide +kernel
theorem dP_rightPlace_44 : decode bP_rightPlace 44 = .ok (.iaload, 1) := by decide +kernel
theorem dP_rightPlace_45 : decode bP_rightPlace 45 = .ok (.ireturn, 1) := by decide +kernel
theorem dP_chance_0 : decode bP_chance 0 = .ok (.aload_n 0, 1) := by decide +kernel
theorem dP_chance_1 : decode bP_chance 1 = .ok (.iload_n 1, 1) := by decide +kernel
theorem dP_chance_2 : decode bP_chance 2 = .ok (.invokevirtual 71, 3) := by decide +kernel
theorem dP_chance_5 : decode bP_chance 5 = .ok (.astore_n 3, 1) := by decide +kernel
theorem dP_chance_6 : decode bP_chance 6 = .ok (.aload_n 3, 1) := by decide +kernel
theorem dP_chance_7 : decode bP_chance 7 = .ok (.ifnull 17, 3) := by decide +kernel
theorem dP_chance_10 : decode bP_chance 10 = .ok (.aload_n 3, 1) := by decide +kernel
theorem dP_chance_11 : decode bP_chance 11 = .ok (.getfield 81, 3) := by decide +kernel
theorem dP_chance_14 : decode bP_chance 14 = .ok (.ifCond .eq 10, 3) := by decide +kernel
theorem dP_chance_17 : decode bP_chance 17 = .ok (.iload_n 2, 1) := by decide +kernel
theorem dP_chance_18 : decode bP_chance 18 = .ok (.invokestatic 96, 3) := by decide +kernel
theorem dP_chance_21 : decode bP_chance 21 = .ok (.ifCond .ne 7, 3) := by decide +kernel
theorem dP_chance_24 : decode bP_chance 24 = .ok (.ldc2_w 100, 3) := by decide +kernel
theorem dP_chance_27 : decode bP_chance 27 = .ok (.lreturn, 1) := by decide +kernel
theorem dP_chance_28 : decode bP_chance 28 = .ok (.aload_n 3, 1) := by decide +kernel
theorem dP_chance_29 : decode bP_chance 29 = .ok (.getfield 92, 3) := by decide +kernel
theorem dP_chance_32 : decode bP_chance 32 = .ok (.aload_n 3, 1) := by decide +kernel
theorem dP_chance_33 : decode bP_chance 33 = .ok (.getfield 81, 3) := by decide +kernel
theorem dP_chance_36 : decode bP_chance 36 = .ok (.aload_n 3, 1) := by decide +kernel
theorem dP_chance_37 : decode bP_chance 37 = .ok (.getfield 74, 3) := by decide +kernel
theorem dP_chance_40 : decode bP_chance 40 = .ok (.invokestatic 102, 3) := by decide +kernel
theorem dP_chance_43 : decode bP_chance 43 = .ok (.lstore 4, 2) := by decide +kernel
theorem dP_chance_45 : decode bP_chance 45 = .ok (.lload 4, 2) := by decide +kernel
theorem dP_chance_47 : decode bP_chance 47 = .ok (.aload_n 3, 1) := by decide +kernel
theorem dP_chance_48 : decode bP_chance 48 = .ok (.getfield 74, 3) := by decide +kernel
theorem dP_chance_51 : decode bP_chance 51 = .ok (.aload_n 3, 1) := by decide +kernel
theorem dP_chance_52 : decode bP_chance 52 = .ok (.getfield 81, 3) := by decide +kernel
theorem dP_chance_55 : decode bP_chance 55 = .ok (.invokestatic 106, 3) := by decide +kernel
theorem dP_chance_58 : decode bP_chance 58 = .ok (.iload_n 2, 1) := by decide +kernel
theorem dP_chance_59 : decode bP_chance 59 = .ok (.invokestatic 110, 3) := by decide +kernel
theorem dP_chance_62 : decode bP_chance 62 = .ok (.lreturn, 1) := by decide +kernel
theorem dP_isPart_0 : decode bP_isPart 0 = .ok (.iload_n 0, 1) := by decide +kernel
theorem dP_isPart_1 : decode bP_isPart 1 = .ok (.ifCond .eq 8, 3) := by decide +kernel
theorem dP_isPart_4 : decode bP_isPart 4 = .ok (.iload_n 0, 1) := by decide +kernel
theorem dP_isPart_5 : decode bP_isPart 5 = .ok (.iconst 1, 1) := by decide +kernel
theorem dP_isPart_6 : decode bP_isPart 6 = .ok (.if_icmp .ne 7, 3) := by decide +kernel
theorem dP_isPart_9 : decode bP_isPart 9 = .ok (.iconst 1, 1) := by decide +kernel
theorem dP_isPart_10 : decode bP_isPart 10 = .ok (.goto 4, 3) := by decide +kernel
theorem dP_isPart_13 : decode bP_isPart 13 = .ok (.iconst 0, 1) := by decide +kernel
theorem dP_isPart_14 : decode bP_isPart 14 = .ok (.ireturn, 1) := by decide +kernel
theorem dP_waysOfAtLeast_0 : decode bP_waysOfAtLeast 0 = .ok (.lconst 0, 1) := by decide +kernel
theorem dP_waysOfAtLeast_1 : decode bP_waysOfAtLeast 1 = .ok (.lstore_n 3, 1) := by decide +kernel
theorem dP_waysOfAtLeast_2 : decode bP_waysOfAtLeast 2 = .ok (.lconst 1, 1) := by decide +kernel
theorem dP_waysOfAtLeast_3 : decode bP_waysOfAtLeast 3 = .ok (.lstore 5, 2) := by decide +kernel
theorem dP_waysOfAtLeast_5 : decode bP_waysOfAtLeast 5 = .ok (.iload_n 1, 1) := by decide +kernel
theorem dP_waysOfAtLeast_6 : decode bP_waysOfAtLeast 6 = .ok (.istore 7, 2) := by decide +kernel
theorem dP_waysOfAtLeast_8 : decode bP_waysOfAtLeast 8 = .ok (.iload 7, 2) := by decide +kernel
theorem dP_waysOfAtLeast_10 : decode bP_waysOfAtLeast 10 = .ok (.iload_n 0, 1) := by decide +kernel
theorem dP_waysOfAtLeast_11 : decode bP_waysOfAtLeast 11 = .ok (.if_icmp .lt 35, 3) := by decide +kernel
theorem dP_waysOfAtLeast_14 : decode bP_waysOfAtLeast 14 = .ok (.lload_n 3, 1) := by decide +kernel
theorem dP_waysOfAtLeast_15 : decode bP_waysOfAtLeast 15 = .ok (.lload 5, 2) := by decide +kernel
theorem dP_waysOfAtLeast_17 : decode bP_waysOfAtLeast 17 = .ok (.ladd, 1) := by decide +kernel
theorem dP_waysOfAtLeast_18 : decode bP_waysOfAtLeast 18 = .ok (.lstore_n 3, 1) := by decide +kernel
theorem dP_waysOfAtLeast_19 : decode bP_waysOfAtLeast 19 = .ok (.lload 5, 2) := by decide +kernel
theorem dP_waysOfAtLeast_21 : decode bP_waysOfAtLeast 21 = .ok (.iload 7, 2) := by decide +kernel
theorem dP_waysOfAtLeast_23 : decode bP_waysOfAtLeast 23 = .ok (.i2l, 1) := by decide +kernel
theorem dP_waysOfAtLeast_24 : decode bP_waysOfAtLeast 24 = .ok (.lmul, 1) := by decide +kernel
theorem dP_waysOfAtLeast_25 : decode bP_waysOfAtLeast 25 = .ok (.iload_n 1, 1) := by decide +kernel
theorem dP_waysOfAtLeast_26 : decode bP_waysOfAtLeast 26 = .ok (.iload 7, 2) := by decide +kernel
theorem dP_waysOfAtLeast_28 : decode bP_waysOfAtLeast 28 = .ok (.isub, 1) := by decide +kernel
theorem dP_waysOfAtLeast_29 : decode bP_waysOfAtLeast 29 = .ok (.iconst 1, 1) := by decide +kernel
theorem dP_waysOfAtLeast_30 : decode bP_waysOfAtLeast 30 = .ok (.iadd, 1) := by decide +kernel
theorem dP_waysOfAtLeast_31 : decode bP_waysOfAtLeast 31 = .ok (.i2l, 1) := by decide +kernel
theorem dP_waysOfAtLeast_32 : decode bP_waysOfAtLeast 32 = .ok (.ldiv, 1) := by decide +kernel
theorem dP_waysOfAtLeast_33 : decode bP_waysOfAtLeast 33 = .ok (.iload_n 2, 1) := by decide +kernel
theorem dP_waysOfAtLeast_34 : decode bP_waysOfAtLeast 34 = .ok (.iconst 1, 1) := by decide +kernel
theorem dP_waysOfAtLeast_35 : decode bP_waysOfAtLeast 35 = .ok (.isub, 1) := by decide +kernel
theorem dP_waysOfAtLeast_36 : decode bP_waysOfAtLeast 36 = .ok (.i2l, 1) := by decide +kernel
theorem dP_waysOfAtLeast_37 : decode bP_waysOfAtLeast 37 = .ok (.lmul, 1) := by decide +kernel
theorem dP_waysOfAtLeast_38 : decode bP_waysOfAtLeast 38 = .ok (.lstore 5, 2) := by decide +kernel
theorem dP_waysOfAtLeast_40 : decode bP_waysOfAtLeast 40 = .ok (.iinc 7 (-1), 3) := by decide +kernel
theorem dP_waysOfAtLeast_43 : decode bP_waysOfAtLeast 43 = .ok (.goto (-35), 3) := by decide +kernel
theorem dP_waysOfAtLeast_46 : decode bP_waysOfAtLeast 46 = .ok (.lload_n 3, 1) := by decide +kernel
theorem dP_waysOfAtLeast_47 : decode bP_waysOfAtLeast 47 = .ok (.lreturn, 1) := by decide +kernel
theorem dP_power_0 : decode bP_power 0 = .ok (.lconst 1, 1) := by decide +kernel
theorem dP_power_1 : decode bP_power 1 = .ok (.lstore_n 2, 1) := by decide +kernel
theorem dP_power_2 : decode bP_power 2 = .ok (.iconst 0, 1) := by decide +kernel
theorem dP_power_3 : decode bP_power 3 = .ok (.istore 4, 2) := by decide +kernel
theorem dP_power_5 : decode bP_power 5 = .ok (.iload 4, 2) := by decide +kernel
theorem dP_power_7 : decode bP_power 7 = .ok (.iload_n 1, 1) := by decide +kernel
theorem dP_power_8 : decode bP_power 8 = .ok (.if_icmp .ge 14, 3) := by decide +kernel
theorem dP_power_11 : decode bP_power 11 = .ok (.lload_n 2, 1) := by decide +kernel
theorem dP_power_12 : decode bP_power 12 = .ok (.iload_n 0, 1) := by decide +kernel
theorem dP_power_13 : decode bP_power 13 = .ok (.i2l, 1) := by decide +kernel
theorem dP_power_14 : decode bP_power 14 = .ok (.lmul, 1) := by decide +kernel
theorem dP_power_15 : decode bP_power 15 = .ok (.lstore_n 2, 1) := by decide +kernel
theorem dP_power_16 : decode bP_power 16 = .ok (.iinc 4 1, 3) := by decide +kernel
theorem dP_power_19 : decode bP_power 19 = .ok (.goto (-14), 3) := by decide +kernel
theorem dP_power_22 : decode bP_power 22 = .ok (.lload_n 2, 1) := by decide +kernel
theorem dP_power_23 : decode bP_power 23 = .ok (.lreturn, 1) := by decide +kernel
theorem dP_reducedPart_0 : decode bP_reducedPart 0 = .ok (.lload_n 0, 1) := by decide +kernel
theorem dP_reducedPart_1 : decode bP_reducedPart 1 = .ok (.lload_n 2, 1) := by decide +kernel
theorem dP_reducedPart_2 : decode bP_reducedPart 2 = .ok (.invokestatic 211, 3) := by decide +kernel
theorem dP_reducedPart_5 : decode bP_reducedPart 5 = .ok (.lstore 5, 2) := by decide +kernel
theorem dP_reducedPart_7 : decode bP_reducedPart 7 = .ok (.iload 4, 2) := by decide +kernel
theorem dP_reducedPart_9 : decode bP_reducedPart 9 = .ok (.ifCond .ne 7, 3) := by decide +kernel
theorem dP_reducedPart_12 : decode bP_reducedPart 12 = .ok (.lload_n 0, 1) := by decide +kernel
theorem dP_reducedPart_13 : decode bP_reducedPart 13 = .ok (.goto 4, 3) := by decide +kernel
theorem dP_reducedPart_16 : decode bP_reducedPart 16 = .ok (.lload_n 2, 1) := by decide +kernel
theorem dP_reducedPart_17 : decode bP_reducedPart 17 = .ok (.lload 5, 2) := by decide +kernel
theorem dP_reducedPart_19 : decode bP_reducedPart 19 = .ok (.ldiv, 1) := by decide +kernel
theorem dP_reducedPart_20 : decode bP_reducedPart 20 = .ok (.lreturn, 1) := by decide +kernel
theorem dP_commonDivisor_0 : decode bP_commonDivisor 0 = .ok (.lload_n 2, 1) := by decide +kernel
theorem dP_commonDivisor_1 : decode bP_commonDivisor 1 = .ok (.lstore 4, 2) := by decide +kernel
theorem dP_commonDivisor_3 : decode bP_commonDivisor 3 = .ok (.lload_n 0, 1) := by decide +kernel
theorem dP_commonDivisor_4 : decode bP_commonDivisor 4 = .ok (.lstore 6, 2) := by decide +kernel
theorem dP_commonDivisor_6 : decode bP_commonDivisor 6 = .ok (.iconst 0, 1) := by decide +kernel
theorem dP_commonDivisor_7 : decode bP_commonDivisor 7 = .ok (.istore 8, 2) := by decide +kernel
theorem dP_commonDivisor_9 : decode bP_commonDivisor 9 = .ok (.iload 8, 2) := by decide +kernel
theorem dP_commonDivisor_11 : decode bP_commonDivisor 11 = .ok (.bipush 100, 2) := by decide +kernel
theorem dP_commonDivisor_13 : decode bP_commonDivisor 13 = .ok (.if_icmp .ge 31, 3) := by decide +kernel
theorem dP_commonDivisor_16 : decode bP_commonDivisor 16 = .ok (.lload 6, 2) := by decide +kernel
theorem dP_commonDivisor_18 : decode bP_commonDivisor 18 = .ok (.lconst 0, 1) := by decide +kernel
theorem dP_commonDivisor_19 : decode bP_commonDivisor 19 = .ok (.lcmp, 1) := by decide +kernel
theorem dP_commonDivisor_20 : decode bP_commonDivisor 20 = .ok (.ifCond .eq 24, 3) := by decide +kernel
theorem dP_commonDivisor_23 : decode bP_commonDivisor 23 = .ok (.lload 4, 2) := by decide +kernel
theorem dP_commonDivisor_25 : decode bP_commonDivisor 25 = .ok (.lload 6, 2) := by decide +kernel
theorem dP_commonDivisor_27 : decode bP_commonDivisor 27 = .ok (.lrem, 1) := by decide +kernel
theorem dP_commonDivisor_28 : decode bP_commonDivisor 28 = .ok (.lstore 9, 2) := by decide +kernel
theorem dP_commonDivisor_30 : decode bP_commonDivisor 30 = .ok (.lload 6, 2) := by decide +kernel
theorem dP_commonDivisor_32 : decode bP_commonDivisor 32 = .ok (.lstore 4, 2) := by decide +kernel
theorem dP_commonDivisor_34 : decode bP_commonDivisor 34 = .ok (.lload 9, 2) := by decide +kernel
theorem dP_commonDivisor_36 : decode bP_commonDivisor 36 = .ok (.lstore 6, 2) := by decide +kernel
theorem dP_commonDivisor_38 : decode bP_commonDivisor 38 = .ok (.iinc 8 1, 3) := by decide +kernel
theorem dP_commonDivisor_41 : decode bP_commonDivisor 41 = .ok (.goto (-32), 3) := by decide +kernel
theorem dP_commonDivisor_44 : decode bP_commonDivisor 44 = .ok (.lload 4, 2) := by decide +kernel
theorem dP_commonDivisor_46 : decode bP_commonDivisor 46 = .ok (.lreturn, 1) := by decide +kernel
theorem dP_right_0 : decode bP_right 0 = .ok (.aload_n 0, 1) := by decide +kernel
theorem dP_right_1 : decode bP_right 1 = .ok (.iload_n 1, 1) := by decide +kernel
theorem dP_right_2 : decode bP_right 2 = .ok (.invokevirtual 71, 3) := by decide +kernel
theorem dP_right_5 : decode bP_right 5 = .ok (.astore_n 2, 1) := by decide +kernel
theorem dP_right_6 : decode bP_right 6 = .ok (.aload_n 2, 1) := by decide +kernel
theorem dP_right_7 : decode bP_right 7 = .ok (.ifnonnull 7, 3) := by decide +kernel
theorem dP_right_10 : decode bP_right 10 = .ok (.iconst (-1), 1) := by decide +kernel
theorem dP_right_11 : decode bP_right 11 = .ok (.goto 7, 3) := by decide +kernel
theorem dP_right_14 : decode bP_right 14 = .ok (.aload_n 2, 1) := by decide +kernel
theorem dP_right_15 : decode bP_right 15 = .ok (.getfield 92, 3) := by decide +kernel
theorem dP_right_18 : decode bP_right 18 = .ok (.ireturn, 1) := by decide +kernel
theorem dP_rank_0 : decode bP_rank 0 = .ok (.aload_n 0, 1) := by decide +kernel
theorem dP_rank_1 : decode bP_rank 1 = .ok (.iload_n 1, 1) := by decide +kernel
theorem dP_rank_2 : decode bP_rank 2 = .ok (.invokevirtual 114, 3) := by decide +kernel
theorem dP_rank_5 : decode bP_rank 5 = .ok (.astore 5, 2) := by decide +kernel
theorem dP_rank_7 : decode bP_rank 7 = .ok (.aload 5, 2) := by decide +kernel
theorem dP_rank_9 : decode bP_rank 9 = .ok (.ifnull 24, 3) := by decide +kernel
theorem dP_rank_12 : decode bP_rank 12 = .ok (.aload_n 0, 1) := by decide +kernel
theorem dP_rank_13 : decode bP_rank 13 = .ok (.iload_n 2, 1) := by decide +kernel
theorem dP_rank_14 : decode bP_rank 14 = .ok (.invokevirtual 56, 3) := by decide +kernel
theorem dP_rank_17 : decode bP_rank 17 = .ok (.ifnull 16, 3) := by decide +kernel
theorem dP_rank_20 : decode bP_rank 20 = .ok (.iload_n 3, 1) := by decide +kernel
theorem dP_rank_21 : decode bP_rank 21 = .ok (.ifCond .lt 12, 3) := by decide +kernel
theorem dP_rank_24 : decode bP_rank 24 = .ok (.iload_n 3, 1) := by decide +kernel
theorem dP_rank_25 : decode bP_rank 25 = .ok (.aload 5, 2) := by decide +kernel
theorem dP_rank_27 : decode bP_rank 27 = .ok (.getfield 74, 3) := by decide +kernel
theorem dP_rank_30 : decode bP_rank 30 = .ok (.if_icmp .lt 5, 3) := by decide +kernel
theorem dP_rank_33 : decode bP_rank 33 = .ok (.iconst 0, 1) := by decide +kernel
theorem dP_rank_34 : decode bP_rank 34 = .ok (.ireturn, 1) := by decide +kernel
theorem dP_rank_35 : decode bP_rank 35 = .ok (.iload 4, 2) := by decide +kernel
theorem dP_rank_37 : decode bP_rank 37 = .ok (.iconst 1, 1) := by decide +kernel
theorem dP_rank_38 : decode bP_rank 38 = .ok (.if_icmp .lt 34, 3) := by decide +kernel
theorem dP_rank_41 : decode bP_rank 41 = .ok (.iload 4, 2) := by decide +kernel
theorem dP_rank_43 : decode bP_rank 43 = .ok (.aload 5, 2) := by decide +kernel
theorem dP_rank_45 : decode bP_rank 45 = .ok (.getfield 74, 3) := by decide +kernel
theorem dP_rank_48 : decode bP_rank 48 = .ok (.if_icmp .gt 24, 3) := by decide +kernel
theorem dP_rank_51 : decode bP_rank 51 = .ok (.aload 5, 2) := by decide +kernel
theorem dP_rank_53 : decode bP_rank 53 = .ok (.iload_n 2, 1) := by decide +kernel
theorem dP_rank_54 : decode bP_rank 54 = .ok (.iload_n 3, 1) := by decide +kernel
theorem dP_rank_55 : decode bP_rank 55 = .ok (.invokestatic 117, 3) := by decide +kernel
theorem dP_rank_58 : decode bP_rank 58 = .ok (.ifCond .ne 14, 3) := by decide +kernel
theorem dP_rank_61 : decode bP_rank 61 = .ok (.aload 5, 2) := by decide +kernel
theorem dP_rank_63 : decode bP_rank 63 = .ok (.iload_n 2, 1) := by decide +kernel
theorem dP_rank_64 : decode bP_rank 64 = .ok (.iload 4, 2) := by decide +kernel
theorem dP_rank_66 : decode bP_rank 66 = .ok (.invokestatic 120, 3) := by decide +kernel
theorem dP_rank_69 : decode bP_rank 69 = .ok (.ifCond .eq 5, 3) := by decide +kernel
theorem dP_rank_72 : decode bP_rank 72 = .ok (.iconst 0, 1) := by decide +kernel
theorem dP_rank_73 : decode bP_rank 73 = .ok (.ireturn, 1) := by decide +kernel
theorem dP_rank_74 : decode bP_rank 74 = .ok (.aload 5, 2) := by decide +kernel
theorem dP_rank_76 : decode bP_rank 76 = .ok (.getfield 124, 3) := by decide +kernel
theorem dP_rank_79 : decode bP_rank 79 = .ok (.iload_n 2, 1) := by decide +kernel
theorem dP_rank_80 : decode bP_rank 80 = .ok (.iconst 5, 1) := by decide +kernel
theorem dP_rank_81 : decode bP_rank 81 = .ok (.imul, 1) := by decide +kernel
theorem dP_rank_82 : decode bP_rank 82 = .ok (.iload_n 3, 1) := by decide +kernel
theorem dP_rank_83 : decode bP_rank 83 = .ok (.iadd, 1) := by decide +kernel
theorem dP_rank_84 : decode bP_rank 84 = .ok (.iload 4, 2) := by decide +kernel
theorem dP_rank_86 : decode bP_rank 86 = .ok (.iastore, 1) := by decide +kernel
theorem dP_rank_87 : decode bP_rank 87 = .ok (.iconst 1, 1) := by decide +kernel
theorem dP_rank_88 : decode bP_rank 88 = .ok (.ireturn, 1) := by decide +kernel
theorem dP_rankingAt_0 : decode bP_rankingAt 0 = .ok (.aload_n 0, 1) := by decide +kernel
theorem dP_rankingAt_1 : decode bP_rankingAt 1 = .ok (.iload_n 1, 1) := by decide +kernel
theorem dP_rankingAt_2 : decode bP_rankingAt 2 = .ok (.invokevirtual 52, 3) := by decide +kernel
theorem dP_rankingAt_5 : decode bP_rankingAt 5 = .ok (.astore_n 2, 1) := by decide +kernel
theorem dP_rankingAt_6 : decode bP_rankingAt 6 = .ok (.aload_n 2, 1) := by decide +kernel
theorem dP_rankingAt_7 : decode bP_rankingAt 7 = .ok (.ifnull 11, 3) := by decide +kernel
theorem dP_rankingAt_10 : decode bP_rankingAt 10 = .ok (.aload_n 2, 1) := by decide +kernel
theorem dP_rankingAt_11 : decode bP_rankingAt 11 = .ok (.getfield 85, 3) := by decide +kernel
theorem dP_rankingAt_14 : decode bP_rankingAt 14 = .ok (.iconst 3, 1) := by decide +kernel
theorem dP_rankingAt_15 : decode bP_rankingAt 15 = .ok (.if_icmp .eq 7, 3) := by decide +kernel
theorem dP_rankingAt_18 : decode bP_rankingAt 18 = .ok (.aconst_null, 1) := by decide +kernel
theorem dP_rankingAt_19 : decode bP_rankingAt 19 = .ok (.goto 4, 3) := by decide +kernel
theorem dP_rankingAt_22 : decode bP_rankingAt 22 = .ok (.aload_n 2, 1) := by decide +kernel
theorem dP_rankingAt_23 : decode bP_rankingAt 23 = .ok (.areturn, 1) := by decide +kernel
theorem dP_rankOf_0 : decode bP_rankOf 0 = .ok (.aload_n 0, 1) := by decide +kernel
theorem dP_rankOf_1 : decode bP_rankOf 1 = .ok (.getfield 124, 3) := by decide +kernel
theorem dP_rankOf_4 : decode bP_rankOf 4 = .ok (.iload_n 1, 1) := by decide +kernel
theorem dP_rankOf_5 : decode bP_rankOf 5 = .ok (.iconst 5, 1) := by decide +kernel
theorem dP_rankOf_6 : decode bP_rankOf 6 = .ok (.imul, 1) := by decide +kernel
theorem dP_rankOf_7 : decode bP_rankOf 7 = .ok (.iload_n 2, 1) := by decide +kernel
theorem dP_rankOf_8 : decode bP_rankOf 8 = .ok (.iadd, 1) := by decide +kernel
theorem dP_rankOf_9 : decode bP_rankOf 9 = .ok (.iaload, 1) := by decide +kernel
theorem dP_rankOf_10 : decode bP_rankOf 10 = .ok (.ireturn, 1) := by decide +kernel
theorem dP_hasGiven_0 : decode bP_hasGiven 0 = .ok (.iconst 0, 1) := by decide +kernel
theorem dP_hasGiven_1 : decode bP_hasGiven 1 = .ok (.istore_n 3, 1) := by decide +kernel
theorem dP_hasGiven_2 : decode bP_hasGiven 2 = .ok (.iload_n 3, 1) := by decide +kernel
theorem dP_hasGiven_3 : decode bP_hasGiven 3 = .ok (.aload_n 0, 1) := by decide +kernel
theorem dP_hasGiven_4 : decode bP_hasGiven 4 = .ok (.getfield 74, 3) := by decide +kernel
theorem dP_hasGiven_7 : decode bP_hasGiven 7 = .ok (.if_icmp .ge 21, 3) := by decide +kernel
theorem dP_hasGiven_10 : decode bP_hasGiven 10 = .ok (.aload_n 0, 1) := by decide +kernel
theorem dP_hasGiven_11 : decode bP_hasGiven 11 = .ok (.iload_n 1, 1) := by decide +kernel
theorem dP_hasGiven_12 : decode bP_hasGiven 12 = .ok (.iload_n 3, 1) := by decide +kernel
theorem dP_hasGiven_13 : decode bP_hasGiven 13 = .ok (.invokestatic 117, 3) := by decide +kernel
theorem dP_hasGiven_16 : decode bP_hasGiven 16 = .ok (.iload_n 2, 1) := by decide +kernel
theorem dP_hasGiven_17 : decode bP_hasGiven 17 = .ok (.if_icmp .ne 5, 3) := by decide +kernel
theorem dP_hasGiven_20 : decode bP_hasGiven 20 = .ok (.iconst 1, 1) := by decide +kernel
theorem dP_hasGiven_21 : decode bP_hasGiven 21 = .ok (.ireturn, 1) := by decide +kernel
theorem dP_hasGiven_22 : decode bP_hasGiven 22 = .ok (.iinc 3 1, 3) := by decide +kernel
theorem dP_hasGiven_25 : decode bP_hasGiven 25 = .ok (.goto (-23), 3) := by decide +kernel
theorem dP_hasGiven_28 : decode bP_hasGiven 28 = .ok (.iconst 0, 1) := by decide +kernel
theorem dP_hasGiven_29 : decode bP_hasGiven 29 = .ok (.ireturn, 1) := by decide +kernel
theorem dP_permuted_0 : decode bP_permuted 0 = .ok (.aload_n 0, 1) := by decide +kernel
theorem dP_permuted_1 : decode bP_permuted 1 = .ok (.iload_n 1, 1) := by decide +kernel
theorem dP_permuted_2 : decode bP_permuted 2 = .ok (.invokevirtual 114, 3) := by decide +kernel
theorem dP_permuted_5 : decode bP_permuted 5 = .ok (.astore_n 3, 1) := by decide +kernel
theorem dP_permuted_6 : decode bP_permuted 6 = .ok (.aload_n 3, 1) := by decide +kernel
theorem dP_permuted_7 : decode bP_permuted 7 = .ok (.ifnull 10, 3) := by decide +kernel
theorem dP_permuted_10 : decode bP_permuted 10 = .ok (.iload_n 2, 1) := by decide +kernel
theorem dP_permuted_11 : decode bP_permuted 11 = .ok (.invokestatic 96, 3) := by decide +kernel
theorem dP_permuted_14 : decode bP_permuted 14 = .ok (.ifCond .ne 7, 3) := by decide +kernel
theorem dP_permuted_17 : decode bP_permuted 17 = .ok (.ldc2_w 100, 3) := by decide +kernel
theorem dP_permuted_20 : decode bP_permuted 20 = .ok (.lreturn, 1) := by decide +kernel
theorem dP_permuted_21 : decode bP_permuted 21 = .ok (.iconst 0, 1) := by decide +kernel
theorem dP_permuted_22 : decode bP_permuted 22 = .ok (.istore 4, 2) := by decide +kernel
theorem dP_permuted_24 : decode bP_permuted 24 = .ok (.iconst 0, 1) := by decide +kernel
theorem dP_permuted_25 : decode bP_permuted 25 = .ok (.istore 5, 2) := by decide +kernel
theorem dP_permuted_27 : decode bP_permuted 27 = .ok (.iconst 0, 1) := by decide +kernel
theorem dP_permuted_28 : decode bP_permuted 28 = .ok (.istore 6, 2) := by decide +kernel
theorem dP_permuted_30 : decode bP_permuted 30 = .ok (.iload 6, 2) := by decide +kernel
theorem dP_permuted_32 : decode bP_permuted 32 = .ok (.bipush 26, 2) := by decide +kernel
theorem dP_permuted_34 : decode bP_permuted 34 = .ok (.if_icmp .ge 33, 3) := by decide +kernel
theorem dP_permuted_37 : decode bP_permuted 37 = .ok (.aload_n 3, 1) := by decide +kernel
theorem dP_permuted_38 : decode bP_permuted 38 = .ok (.iload 6, 2) := by decide +kernel
theorem dP_permuted_40 : decode bP_permuted 40 = .ok (.invokestatic 127, 3) := by decide +kernel
theorem dP_permuted_43 : decode bP_permuted 43 = .ok (.ifCond .eq 18, 3) := by decide +kernel
theorem dP_permuted_46 : decode bP_permuted 46 = .ok (.iinc 4 1, 3) := by decide +kernel
theorem dP_permuted_49 : decode bP_permuted 49 = .ok (.iload 5, 2) := by decide +kernel
theorem dP_permuted_51 : decode bP_permuted 51 = .ok (.aload_n 3, 1) := by decide +kernel
theorem dP_permuted_52 : decode bP_permuted 52 = .ok (.iload 6, 2) := by decide +kernel
theorem dP_permuted_54 : decode bP_permuted 54 = .ok (.iconst 0, 1) := by decide +kernel
theorem dP_permuted_55 : decode bP_permuted 55 = .ok (.invokestatic 117, 3) := by decide +kernel
theorem dP_permuted_58 : decode bP_permuted 58 = .ok (.iadd, 1) := by decide +kernel
theorem dP_permuted_59 : decode bP_permuted 59 = .ok (.istore 5, 2) := by decide +kernel
theorem dP_permuted_61 : decode bP_permuted 61 = .ok (.iinc 6 1, 3) := by decide +kernel
theorem dP_permuted_64 : decode bP_permuted 64 = .ok (.goto (-34), 3) := by decide +kernel
theorem dP_permuted_67 : decode bP_permuted 67 = .ok (.iload 4, 2) := by decide +kernel
theorem dP_permuted_69 : decode bP_permuted 69 = .ok (.ifCond .ne 7, 3) := by decide +kernel
theorem dP_permuted_72 : decode bP_permuted 72 = .ok (.ldc2_w 100, 3) := by decide +kernel
theorem dP_permuted_75 : decode bP_permuted 75 = .ok (.lreturn, 1) := by decide +kernel
theorem dP_permuted_76 : decode bP_permuted 76 = .ok (.aload_n 0, 1) := by decide +kernel
theorem dP_permuted_77 : decode bP_permuted 77 = .ok (.iload 5, 2) := by decide +kernel
theorem dP_permuted_79 : decode bP_permuted 79 = .ok (.iload 4, 2) := by decide +kernel
theorem dP_permuted_81 : decode bP_permuted 81 = .ok (.aload_n 3, 1) := by decide +kernel
theorem dP_permuted_82 : decode bP_permuted 82 = .ok (.getfield 74, 3) := by decide +kernel
theorem dP_permuted_85 : decode bP_permuted 85 = .ok (.invokevirtual 131, 3) := by decide +kernel
theorem dP_permuted_88 : decode bP_permuted 88 = .ok (.lstore 6, 2) := by decide +kernel
theorem dP_permuted_90 : decode bP_permuted 90 = .ok (.lload 6, 2) := by decide +kernel
theorem dP_permuted_92 : decode bP_permuted 92 = .ok (.aload_n 3, 1) := by decide +kernel
theorem dP_permuted_93 : decode bP_permuted 93 = .ok (.getfield 74, 3) := by decide +kernel
theorem dP_permuted_96 : decode bP_permuted 96 = .ok (.iload 4, 2) := by decide +kernel
theorem dP_permuted_98 : decode bP_permuted 98 = .ok (.invokestatic 106, 3) := by decide +kernel
theorem dP_permuted_101 : decode bP_permuted 101 = .ok (.iload_n 2, 1) := by decide +kernel
theorem dP_permuted_102 : decode bP_permuted 102 = .ok (.invokestatic 110, 3) := by decide +kernel
theorem dP_permuted_105 : decode bP_permuted 105 = .ok (.lreturn, 1) := by decide +kernel
theorem dP_hasRankedAll_0 : decode bP_hasRankedAll 0 = .ok (.iconst 0, 1) := by decide +kernel
theorem dP_hasRankedAll_1 : decode bP_hasRankedAll 1 = .ok (.istore_n 2, 1) := by decide +kernel
theorem dP_hasRankedAll_2 : decode bP_hasRankedAll 2 = .ok (.iload_n 2, 1) := by decide +kernel
theorem dP_hasRankedAll_3 : decode bP_hasRankedAll 3 = .ok (.aload_n 0, 1) := by decide +kernel
theorem dP_hasRankedAll_4 : decode bP_hasRankedAll 4 = .ok (.getfield 74, 3) := by decide +kernel
theorem dP_hasRankedAll_7 : decode bP_hasRankedAll 7 = .ok (.if_icmp .ge 20, 3) := by decide +kernel
theorem dP_hasRankedAll_10 : decode bP_hasRankedAll 10 = .ok (.aload_n 0, 1) := by decide +kernel
theorem dP_hasRankedAll_11 : decode bP_hasRankedAll 11 = .ok (.iload_n 1, 1) := by decide +kernel
theorem dP_hasRankedAll_12 : decode bP_hasRankedAll 12 = .ok (.iload_n 2, 1) := by decide +kernel
theorem dP_hasRankedAll_13 : decode bP_hasRankedAll 13 = .ok (.invokestatic 117, 3) := by decide +kernel
theorem dP_hasRankedAll_16 : decode bP_hasRankedAll 16 = .ok (.ifCond .ne 5, 3) := by decide +kernel
theorem dP_hasRankedAll_19 : decode bP_hasRankedAll 19 = .ok (.iconst 0, 1) := by decide +kernel
theorem dP_hasRankedAll_20 : decode bP_hasRankedAll 20 = .ok (.ireturn, 1) := by decide +kernel
theorem dP_hasRankedAll_21 : decode bP_hasRankedAll 21 = .ok (.iinc 2 1, 3) := by decide +kernel
theorem dP_hasRankedAll_24 : decode bP_hasRankedAll 24 = .ok (.goto (-22), 3) := by decide +kernel
theorem dP_hasRankedAll_27 : decode bP_hasRankedAll 27 = .ok (.iconst 1, 1) := by decide +kernel
theorem dP_hasRankedAll_28 : decode bP_hasRankedAll 28 = .ok (.ireturn, 1) := by decide +kernel
theorem dP_waysAsFarAs_0 : decode bP_waysAsFarAs 0 = .ok (.aload_n 0, 1) := by decide +kernel
theorem dP_waysAsFarAs_1 : decode bP_waysAsFarAs 1 = .ok (.iload_n 2, 1) := by decide +kernel
theorem dP_waysAsFarAs_2 : decode bP_waysAsFarAs 2 = .ok (.iload_n 3, 1) := by decide +kernel
theorem dP_waysAsFarAs_3 : decode bP_waysAsFarAs 3 = .ok (.invokevirtual 200, 3) := by decide +kernel
theorem dP_waysAsFarAs_6 : decode bP_waysAsFarAs 6 = .ok (.iload_n 2, 1) := by decide +kernel
theorem dP_waysAsFarAs_7 : decode bP_waysAsFarAs 7 = .ok (.iload_n 3, 1) := by decide +kernel
theorem dP_waysAsFarAs_8 : decode bP_waysAsFarAs 8 = .ok (.iconst 1, 1) := by decide +kernel
theorem dP_waysAsFarAs_9 : decode bP_waysAsFarAs 9 = .ok (.iadd, 1) := by decide +kernel
theorem dP_waysAsFarAs_10 : decode bP_waysAsFarAs 10 = .ok (.imul, 1) := by decide +kernel
theorem dP_waysAsFarAs_11 : decode bP_waysAsFarAs 11 = .ok (.istore 4, 2) := by decide +kernel
theorem dP_waysAsFarAs_13 : decode bP_waysAsFarAs 13 = .ok (.iconst 2, 1) := by decide +kernel
theorem dP_waysAsFarAs_14 : decode bP_waysAsFarAs 14 = .ok (.iload_n 1, 1) := by decide +kernel
theorem dP_waysAsFarAs_15 : decode bP_waysAsFarAs 15 = .ok (.imul, 1) := by decide +kernel
theorem dP_waysAsFarAs_16 : decode bP_waysAsFarAs 16 = .ok (.iload 4, 2) := by decide +kernel
theorem dP_waysAsFarAs_18 : decode bP_waysAsFarAs 18 = .ok (.isub, 1) := by decide +kernel
theorem dP_waysAsFarAs_19 : decode bP_waysAsFarAs 19 = .ok (.invokestatic 203, 3) := by decide +kernel
theorem dP_waysAsFarAs_22 : decode bP_waysAsFarAs 22 = .ok (.istore 5, 2) := by decide +kernel
theorem dP_waysAsFarAs_24 : decode bP_waysAsFarAs 24 = .ok (.lconst 0, 1) := by decide +kernel
theorem dP_waysAsFarAs_25 : decode bP_waysAsFarAs 25 = .ok (.lstore 6, 2) := by decide +kernel
theorem dP_waysAsFarAs_27 : decode bP_waysAsFarAs 27 = .ok (.iload_n 2, 1) := by decide +kernel
theorem dP_waysAsFarAs_28 : decode bP_waysAsFarAs 28 = .ok (.istore 8, 2) := by decide +kernel
theorem dP_waysAsFarAs_30 : decode bP_waysAsFarAs 30 = .ok (.iload 8, 2) := by decide +kernel
theorem dP_waysAsFarAs_32 : decode bP_waysAsFarAs 32 = .ok (.iload_n 2, 1) := by decide +kernel
theorem dP_waysAsFarAs_33 : decode bP_waysAsFarAs 33 = .ok (.iload_n 3, 1) := by decide +kernel
theorem dP_waysAsFarAs_34 : decode bP_waysAsFarAs 34 = .ok (.imul, 1) := by decide +kernel
theorem dP_waysAsFarAs_35 : decode bP_waysAsFarAs 35 = .ok (.if_icmp .gt 36, 3) := by decide +kernel
theorem dP_waysAsFarAs_38 : decode bP_waysAsFarAs 38 = .ok (.iconst 2, 1) := by decide +kernel
theorem dP_waysAsFarAs_39 : decode bP_waysAsFarAs 39 = .ok (.iload 8, 2) := by decide +kernel
theorem dP_waysAsFarAs_41 : decode bP_waysAsFarAs 41 = .ok (.imul, 1) := by decide +kernel
theorem dP_waysAsFarAs_42 : decode bP_waysAsFarAs 42 = .ok (.iload 4, 2) := by decide +kernel
theorem dP_waysAsFarAs_44 : decode bP_waysAsFarAs 44 = .ok (.isub, 1) := by decide +kernel
theorem dP_waysAsFarAs_45 : decode bP_waysAsFarAs 45 = .ok (.invokestatic 203, 3) := by decide +kernel
theorem dP_waysAsFarAs_48 : decode bP_waysAsFarAs 48 = .ok (.iload 5, 2) := by decide +kernel
theorem dP_waysAsFarAs_50 : decode bP_waysAsFarAs 50 = .ok (.if_icmp .lt 15, 3) := by decide +kernel
theorem dP_waysAsFarAs_53 : decode bP_waysAsFarAs 53 = .ok (.lload 6, 2) := by decide +kernel
theorem dP_waysAsFarAs_55 : decode bP_waysAsFarAs 55 = .ok (.aload_n 0, 1) := by decide +kernel
theorem dP_waysAsFarAs_56 : decode bP_waysAsFarAs 56 = .ok (.getfield 25, 3) := by decide +kernel
theorem dP_waysAsFarAs_59 : decode bP_waysAsFarAs 59 = .ok (.iload 8, 2) := by decide +kernel
theorem dP_waysAsFarAs_61 : decode bP_waysAsFarAs 61 = .ok (.laload, 1) := by decide +kernel
theorem dP_waysAsFarAs_62 : decode bP_waysAsFarAs 62 = .ok (.ladd, 1) := by decide +kernel
theorem dP_waysAsFarAs_63 : decode bP_waysAsFarAs 63 = .ok (.lstore 6, 2) := by decide +kernel
theorem dP_waysAsFarAs_65 : decode bP_waysAsFarAs 65 = .ok (.iinc 8 1, 3) := by decide +kernel
theorem dP_waysAsFarAs_68 : decode bP_waysAsFarAs 68 = .ok (.goto (-38), 3) := by decide +kernel
theorem dP_waysAsFarAs_71 : decode bP_waysAsFarAs 71 = .ok (.lload 6, 2) := by decide +kernel
theorem dP_waysAsFarAs_73 : decode bP_waysAsFarAs 73 = .ok (.lreturn, 1) := by decide +kernel
theorem dP_countSums_0 : decode bP_countSums 0 = .ok (.iconst 0, 1) := by decide +kernel
theorem dP_countSums_1 : decode bP_countSums 1 = .ok (.istore_n 3, 1) := by decide +kernel
theorem dP_countSums_2 : decode bP_countSums 2 = .ok (.iload_n 3, 1) := by decide +kernel
theorem dP_countSums_3 : decode bP_countSums 3 = .ok (.aload_n 0, 1) := by decide +kernel
theorem dP_countSums_4 : decode bP_countSums 4 = .ok (.getfield 25, 3) := by decide +kernel
theorem dP_countSums_7 : decode bP_countSums 7 = .ok (.arraylength, 1) := by decide +kernel
theorem dP_countSums_8 : decode bP_countSums 8 = .ok (.if_icmp .ge 16, 3) := by decide +kernel
theorem dP_countSums_11 : decode bP_countSums 11 = .ok (.aload_n 0, 1) := by decide +kernel
theorem dP_countSums_12 : decode bP_countSums 12 = .ok (.getfield 25, 3) := by decide +kernel
theorem dP_countSums_15 : decode bP_countSums 15 = .ok (.iload_n 3, 1) := by decide +kernel
theorem dP_countSums_16 : decode bP_countSums 16 = .ok (.lconst 0, 1) := by decide +kernel
theorem dP_countSums_17 : decode bP_countSums 17 = .ok (.lastore, 1) := by decide +kernel
theorem dP_countSums_18 : decode bP_countSums 18 = .ok (.iinc 3 1, 3) := by decide +kernel
theorem dP_countSums_21 : decode bP_countSums 21 = .ok (.goto (-19), 3) := by decide +kernel
theorem dP_countSums_24 : decode bP_countSums 24 = .ok (.aload_n 0, 1) := by decide +kernel
theorem dP_countSums_25 : decode bP_countSums 25 = .ok (.getfield 25, 3) := by decide +kernel
theorem dP_countSums_28 : decode bP_countSums 28 = .ok (.iconst 0, 1) := by decide +kernel
theorem dP_countSums_29 : decode bP_countSums 29 = .ok (.lconst 1, 1) := by decide +kernel
theorem dP_countSums_30 : decode bP_countSums 30 = .ok (.lastore, 1) := by decide +kernel
theorem dP_countSums_31 : decode bP_countSums 31 = .ok (.iconst 1, 1) := by decide +kernel
theorem dP_countSums_32 : decode bP_countSums 32 = .ok (.istore_n 3, 1) := by decide +kernel
theorem dP_countSums_33 : decode bP_countSums 33 = .ok (.iload_n 3, 1) := by decide +kernel
theorem dP_countSums_34 : decode bP_countSums 34 = .ok (.iload_n 1, 1) := by decide +kernel
theorem dP_countSums_35 : decode bP_countSums 35 = .ok (.if_icmp .gt 74, 3) := by decide +kernel
theorem dP_countSums_38 : decode bP_countSums 38 = .ok (.iload_n 3, 1) := by decide +kernel
theorem dP_countSums_39 : decode bP_countSums 39 = .ok (.iload_n 2, 1) := by decide +kernel
theorem dP_countSums_40 : decode bP_countSums 40 = .ok (.imul, 1) := by decide +kernel
theorem dP_countSums_41 : decode bP_countSums 41 = .ok (.istore 4, 2) := by decide +kernel
theorem dP_countSums_43 : decode bP_countSums 43 = .ok (.iload 4, 2) := by decide +kernel
theorem dP_countSums_45 : decode bP_countSums 45 = .ok (.ifCond .lt 58, 3) := by decide +kernel
theorem dP_countSums_48 : decode bP_countSums 48 = .ok (.lconst 0, 1) := by decide +kernel
theorem dP_countSums_49 : decode bP_countSums 49 = .ok (.lstore 5, 2) := by decide +kernel
theorem dP_countSums_51 : decode bP_countSums 51 = .ok (.iconst 1, 1) := by decide +kernel
theorem dP_countSums_52 : decode bP_countSums 52 = .ok (.istore 7, 2) := by decide +kernel
theorem dP_countSums_54 : decode bP_countSums 54 = .ok (.iload 7, 2) := by decide +kernel
theorem dP_countSums_56 : decode bP_countSums 56 = .ok (.iload_n 2, 1) := by decide +kernel
theorem dP_countSums_57 : decode bP_countSums 57 = .ok (.if_icmp .gt 31, 3) := by decide +kernel
theorem dP_countSums_60 : decode bP_countSums 60 = .ok (.iload 7, 2) := by decide +kernel
theorem dP_countSums_62 : decode bP_countSums 62 = .ok (.iload 4, 2) := by decide +kernel
theorem dP_countSums_64 : decode bP_countSums 64 = .ok (.if_icmp .gt 24, 3) := by decide +kernel
theorem dP_countSums_67 : decode bP_countSums 67 = .ok (.lload 5, 2) := by decide +kernel
theorem dP_countSums_69 : decode bP_countSums 69 = .ok (.aload_n 0, 1) := by decide +kernel
theorem dP_countSums_70 : decode bP_countSums 70 = .ok (.getfield 25, 3) := by decide +kernel
theorem dP_countSums_73 : decode bP_countSums 73 = .ok (.iload 4, 2) := by decide +kernel
theorem dP_countSums_75 : decode bP_countSums 75 = .ok (.iload 7, 2) := by decide +kernel
theorem dP_countSums_77 : decode bP_countSums 77 = .ok (.isub, 1) := by decide +kernel
theorem dP_countSums_78 : decode bP_countSums 78 = .ok (.laload, 1) := by decide +kernel
theorem dP_countSums_79 : decode bP_countSums 79 = .ok (.ladd, 1) := by decide +kernel
theorem dP_countSums_80 : decode bP_countSums 80 = .ok (.lstore 5, 2) := by decide +kernel
theorem dP_countSums_82 : decode bP_countSums 82 = .ok (.iinc 7 1, 3) := by decide +kernel
theorem dP_countSums_85 : decode bP_countSums 85 = .ok (.goto (-31), 3) := by decide +kernel
theorem dP_countSums_88 : decode bP_countSums 88 = .ok (.aload_n 0, 1) := by decide +kernel
theorem dP_countSums_89 : decode bP_countSums 89 = .ok (.getfield 25, 3) := by decide +kernel
theorem dP_countSums_92 : decode bP_countSums 92 = .ok (.iload 4, 2) := by decide +kernel
theorem dP_countSums_94 : decode bP_countSums 94 = .ok (.lload 5, 2) := by decide +kernel
theorem dP_countSums_96 : decode bP_countSums 96 = .ok (.lastore, 1) := by decide +kernel
theorem dP_countSums_97 : decode bP_countSums 97 = .ok (.iinc 4 (-1), 3) := by decide +kernel
theorem dP_countSums_100 : decode bP_countSums 100 = .ok (.goto (-57), 3) := by decide +kernel
theorem dP_countSums_103 : decode bP_countSums 103 = .ok (.iinc 3 1, 3) := by decide +kernel
theorem dP_countSums_106 : decode bP_countSums 106 = .ok (.goto (-73), 3) := by decide +kernel
theorem dP_countSums_109 : decode bP_countSums 109 = .ok (.return_, 1) := by decide +kernel
end
section
theorem dP_threshold_0 : decode bP_threshold 0 = .ok (.aload_n 0, 1) := by decide +kernel
theorem dP_threshold_1 : decode bP_threshold 1 = .ok (.iload_n 1, 1) := by decide +kernel
theorem dP_threshold_2 : decode bP_threshold 2 = .ok (.invokevirtual 56, 3) := by decide +kernel
theorem dP_threshold_5 : decode bP_threshold 5 = .ok (.astore_n 2, 1) := by decide +kernel
theorem dP_threshold_6 : decode bP_threshold 6 = .ok (.aload_n 2, 1) := by decide +kernel
theorem dP_threshold_7 : decode bP_threshold 7 = .ok (.ifnonnull 7, 3) := by decide +kernel
theorem dP_threshold_10 : decode bP_threshold 10 = .ok (.ldc2_w 134, 3) := by decide +kernel
theorem dP_threshold_13 : decode bP_threshold 13 = .ok (.dreturn, 1) := by decide +kernel
theorem dP_threshold_14 : decode bP_threshold 14 = .ok (.iconst (-1), 1) := by decide +kernel
theorem dP_threshold_15 : decode bP_threshold 15 = .ok (.istore_n 3, 1) := by decide +kernel
theorem dP_threshold_16 : decode bP_threshold 16 = .ok (.bipush 15, 2) := by decide +kernel
theorem dP_threshold_18 : decode bP_threshold 18 = .ok (.istore 4, 2) := by decide +kernel
theorem dP_threshold_20 : decode bP_threshold 20 = .ok (.iload 4, 2) := by decide +kernel
theorem dP_threshold_22 : decode bP_threshold 22 = .ok (.ifCond .lt 74, 3) := by decide +kernel
theorem dP_threshold_25 : decode bP_threshold 25 = .ok (.aload_n 2, 1) := by decide +kernel
theorem dP_threshold_26 : decode bP_threshold 26 = .ok (.getfield 136, 3) := by decide +kernel
theorem dP_threshold_29 : decode bP_threshold 29 = .ok (.iload 4, 2) := by decide +kernel
theorem dP_threshold_31 : decode bP_threshold 31 = .ok (.baload, 1) := by decide +kernel
theorem dP_threshold_32 : decode bP_threshold 32 = .ok (.ifCond .eq 45, 3) := by decide +kernel
theorem dP_threshold_35 : decode bP_threshold 35 = .ok (.aload_n 2, 1) := by decide +kernel
theorem dP_threshold_36 : decode bP_threshold 36 = .ok (.getfield 139, 3) := by decide +kernel
theorem dP_threshold_39 : decode bP_threshold 39 = .ok (.iload 4, 2) := by decide +kernel
theorem dP_threshold_41 : decode bP_threshold 41 = .ok (.baload, 1) := by decide +kernel
theorem dP_threshold_42 : decode bP_threshold 42 = .ok (.ifCond .ne 35, 3) := by decide +kernel
theorem dP_threshold_45 : decode bP_threshold 45 = .ok (.iload_n 3, 1) := by decide +kernel
theorem dP_threshold_46 : decode bP_threshold 46 = .ok (.iconst (-1), 1) := by decide +kernel
theorem dP_threshold_47 : decode bP_threshold 47 = .ok (.if_icmp .ne 15, 3) := by decide +kernel
theorem dP_threshold_50 : decode bP_threshold 50 = .ok (.iload 4, 2) := by decide +kernel
theorem dP_threshold_52 : decode bP_threshold 52 = .ok (.invokestatic 142, 3) := by decide +kernel
theorem dP_threshold_55 : decode bP_threshold 55 = .ok (.ldc2_w 146, 3) := by decide +kernel
theorem dP_threshold_58 : decode bP_threshold 58 = .ok (.dmul, 1) := by decide +kernel
theorem dP_threshold_59 : decode bP_threshold 59 = .ok (.goto 17, 3) := by decide +kernel
theorem dP_threshold_62 : decode bP_threshold 62 = .ok (.iload_n 3, 1) := by decide +kernel
theorem dP_threshold_63 : decode bP_threshold 63 = .ok (.invokestatic 142, 3) := by decide +kernel
theorem dP_threshold_66 : decode bP_threshold 66 = .ok (.iload 4, 2) := by decide +kernel
theorem dP_threshold_68 : decode bP_threshold 68 = .ok (.invokestatic 142, 3) := by decide +kernel
theorem dP_threshold_71 : decode bP_threshold 71 = .ok (.dadd, 1) := by decide +kernel
theorem dP_threshold_72 : decode bP_threshold 72 = .ok (.ldc2_w 146, 3) := by decide +kernel
theorem dP_threshold_75 : decode bP_threshold 75 = .ok (.ddiv, 1) := by decide +kernel
theorem dP_threshold_76 : decode bP_threshold 76 = .ok (.dreturn, 1) := by decide +kernel
theorem dP_threshold_77 : decode bP_threshold 77 = .ok (.aload_n 2, 1) := by decide +kernel
theorem dP_threshold_78 : decode bP_threshold 78 = .ok (.getfield 136, 3) := by decide +kernel
theorem dP_threshold_81 : decode bP_threshold 81 = .ok (.iload 4, 2) := by decide +kernel
theorem dP_threshold_83 : decode bP_threshold 83 = .ok (.baload, 1) := by decide +kernel
theorem dP_threshold_84 : decode bP_threshold 84 = .ok (.ifCond .eq 6, 3) := by decide +kernel
theorem dP_threshold_87 : decode bP_threshold 87 = .ok (.iload 4, 2) := by decide +kernel
theorem dP_threshold_89 : decode bP_threshold 89 = .ok (.istore_n 3, 1) := by decide +kernel
theorem dP_threshold_90 : decode bP_threshold 90 = .ok (.iinc 4 (-1), 3) := by decide +kernel
theorem dP_threshold_93 : decode bP_threshold 93 = .ok (.goto (-73), 3) := by decide +kernel
theorem dP_threshold_96 : decode bP_threshold 96 = .ok (.iload_n 3, 1) := by decide +kernel
theorem dP_threshold_97 : decode bP_threshold 97 = .ok (.iconst (-1), 1) := by decide +kernel
theorem dP_threshold_98 : decode bP_threshold 98 = .ok (.if_icmp .ne 7, 3) := by decide +kernel
theorem dP_threshold_101 : decode bP_threshold 101 = .ok (.dconst 0, 1) := by decide +kernel
theorem dP_threshold_102 : decode bP_threshold 102 = .ok (.goto 11, 3) := by decide +kernel
theorem dP_threshold_105 : decode bP_threshold 105 = .ok (.iload_n 3, 1) := by decide +kernel
theorem dP_threshold_106 : decode bP_threshold 106 = .ok (.invokestatic 142, 3) := by decide +kernel
theorem dP_threshold_109 : decode bP_threshold 109 = .ok (.ldc2_w 146, 3) := by decide +kernel
theorem dP_threshold_112 : decode bP_threshold 112 = .ok (.ddiv, 1) := by decide +kernel
theorem dP_threshold_113 : decode bP_threshold 113 = .ok (.dreturn, 1) := by decide +kernel
theorem dP_strength_0 : decode bP_strength 0 = .ok (.iconst 1, 1) := by decide +kernel
theorem dP_strength_1 : decode bP_strength 1 = .ok (.iload_n 0, 1) := by decide +kernel
theorem dP_strength_2 : decode bP_strength 2 = .ok (.ishl, 1) := by decide +kernel
theorem dP_strength_3 : decode bP_strength 3 = .ok (.i2d, 1) := by decide +kernel
theorem dP_strength_4 : decode bP_strength 4 = .ok (.ldc2_w 209, 3) := by decide +kernel
theorem dP_strength_7 : decode bP_strength 7 = .ok (.ddiv, 1) := by decide +kernel
theorem dP_strength_8 : decode bP_strength 8 = .ok (.dreturn, 1) := by decide +kernel
theorem dP_level_0 : decode bP_level 0 = .ok (.aload_n 0, 1) := by decide +kernel
theorem dP_level_1 : decode bP_level 1 = .ok (.iload_n 1, 1) := by decide +kernel
theorem dP_level_2 : decode bP_level 2 = .ok (.invokevirtual 56, 3) := by decide +kernel
theorem dP_level_5 : decode bP_level 5 = .ok (.astore 4, 2) := by decide +kernel
theorem dP_level_7 : decode bP_level 7 = .ok (.aload 4, 2) := by decide +kernel
theorem dP_level_9 : decode bP_level 9 = .ok (.ifnull 13, 3) := by decide +kernel
theorem dP_level_12 : decode bP_level 12 = .ok (.iload_n 2, 1) := by decide +kernel
theorem dP_level_13 : decode bP_level 13 = .ok (.ifCond .lt 9, 3) := by decide +kernel
theorem dP_level_16 : decode bP_level 16 = .ok (.iload_n 2, 1) := by decide +kernel
theorem dP_level_17 : decode bP_level 17 = .ok (.bipush 16, 2) := by decide +kernel
theorem dP_level_19 : decode bP_level 19 = .ok (.if_icmp .lt 5, 3) := by decide +kernel
theorem dP_level_22 : decode bP_level 22 = .ok (.iconst 0, 1) := by decide +kernel
theorem dP_level_23 : decode bP_level 23 = .ok (.ireturn, 1) := by decide +kernel
theorem dP_level_24 : decode bP_level 24 = .ok (.aload 4, 2) := by decide +kernel
theorem dP_level_26 : decode bP_level 26 = .ok (.getfield 136, 3) := by decide +kernel
theorem dP_level_29 : decode bP_level 29 = .ok (.iload_n 2, 1) := by decide +kernel
theorem dP_level_30 : decode bP_level 30 = .ok (.iconst 1, 1) := by decide +kernel
theorem dP_level_31 : decode bP_level 31 = .ok (.bastore, 1) := by decide +kernel
theorem dP_level_32 : decode bP_level 32 = .ok (.aload 4, 2) := by decide +kernel
theorem dP_level_34 : decode bP_level 34 = .ok (.getfield 139, 3) := by decide +kernel
theorem dP_level_37 : decode bP_level 37 = .ok (.iload_n 2, 1) := by decide +kernel
theorem dP_level_38 : decode bP_level 38 = .ok (.iload_n 3, 1) := by decide +kernel
theorem dP_level_39 : decode bP_level 39 = .ok (.bastore, 1) := by decide +kernel
theorem dP_level_40 : decode bP_level 40 = .ok (.iconst 1, 1) := by decide +kernel
theorem dP_level_41 : decode bP_level 41 = .ok (.ireturn, 1) := by decide +kernel
theorem dP_out_0 : decode bP_out 0 = .ok (.aload_n 0, 1) := by decide +kernel
theorem dP_out_1 : decode bP_out 1 = .ok (.iload_n 1, 1) := by decide +kernel
theorem dP_out_2 : decode bP_out 2 = .ok (.invokevirtual 56, 3) := by decide +kernel
theorem dP_out_5 : decode bP_out 5 = .ok (.astore_n 2, 1) := by decide +kernel
theorem dP_out_6 : decode bP_out 6 = .ok (.aload_n 2, 1) := by decide +kernel
theorem dP_out_7 : decode bP_out 7 = .ok (.ifnull 28, 3) := by decide +kernel
theorem dP_out_10 : decode bP_out 10 = .ok (.aload_n 2, 1) := by decide +kernel
theorem dP_out_11 : decode bP_out 11 = .ok (.getfield 84, 3) := by decide +kernel
theorem dP_out_14 : decode bP_out 14 = .ok (.iconst 5, 1) := by decide +kernel
theorem dP_out_15 : decode bP_out 15 = .ok (.if_icmp .lt 20, 3) := by decide +kernel
theorem dP_out_18 : decode bP_out 18 = .ok (.iconst 3, 1) := by decide +kernel
theorem dP_out_19 : decode bP_out 19 = .ok (.aload_n 2, 1) := by decide +kernel
theorem dP_out_20 : decode bP_out 20 = .ok (.getfield 95, 3) := by decide +kernel
theorem dP_out_23 : decode bP_out 23 = .ok (.imul, 1) := by decide +kernel
theorem dP_out_24 : decode bP_out 24 = .ok (.aload_n 2, 1) := by decide +kernel
theorem dP_out_25 : decode bP_out 25 = .ok (.getfield 84, 3) := by decide +kernel
theorem dP_out_28 : decode bP_out 28 = .ok (.if_icmp .ge 7, 3) := by decide +kernel
theorem dP_out_31 : decode bP_out 31 = .ok (.iconst 1, 1) := by decide +kernel
theorem dP_out_32 : decode bP_out 32 = .ok (.goto 4, 3) := by decide +kernel
theorem dP_out_35 : decode bP_out 35 = .ok (.iconst 0, 1) := by decide +kernel
theorem dP_out_36 : decode bP_out 36 = .ok (.ireturn, 1) := by decide +kernel
theorem dP_size_0 : decode bP_size 0 = .ok (.iload_n 1, 1) := by decide +kernel
theorem dP_size_1 : decode bP_size 1 = .ok (.ifCond .lt 21, 3) := by decide +kernel
theorem dP_size_4 : decode bP_size 4 = .ok (.iload_n 1, 1) := by decide +kernel
theorem dP_size_5 : decode bP_size 5 = .ok (.iconst 2, 1) := by decide +kernel
theorem dP_size_6 : decode bP_size 6 = .ok (.if_icmp .gt 16, 3) := by decide +kernel
theorem dP_size_9 : decode bP_size 9 = .ok (.lload_n 2, 1) := by decide +kernel
theorem dP_size_10 : decode bP_size 10 = .ok (.lconst 1, 1) := by decide +kernel
theorem dP_size_11 : decode bP_size 11 = .ok (.lcmp, 1) := by decide +kernel
theorem dP_size_12 : decode bP_size 12 = .ok (.ifCond .lt 10, 3) := by decide +kernel
theorem dP_size_15 : decode bP_size 15 = .ok (.lload 4, 2) := by decide +kernel
theorem dP_size_17 : decode bP_size 17 = .ok (.lconst 1, 1) := by decide +kernel
theorem dP_size_18 : decode bP_size 18 = .ok (.lcmp, 1) := by decide +kernel
theorem dP_size_19 : decode bP_size 19 = .ok (.ifCond .ge 5, 3) := by decide +kernel
theorem dP_size_22 : decode bP_size 22 = .ok (.iconst (-1), 1) := by decide +kernel
theorem dP_size_23 : decode bP_size 23 = .ok (.ireturn, 1) := by decide +kernel
theorem dP_size_24 : decode bP_size 24 = .ok (.lload 4, 2) := by decide +kernel
theorem dP_size_26 : decode bP_size 26 = .ok (.lconst 1, 1) := by decide +kernel
theorem dP_size_27 : decode bP_size 27 = .ok (.lsub, 1) := by decide +kernel
theorem dP_size_28 : decode bP_size 28 = .ok (.lload_n 2, 1) := by decide +kernel
theorem dP_size_29 : decode bP_size 29 = .ok (.ldiv, 1) := by decide +kernel
theorem dP_size_30 : decode bP_size 30 = .ok (.lconst 1, 1) := by decide +kernel
theorem dP_size_31 : decode bP_size 31 = .ok (.ladd, 1) := by decide +kernel
theorem dP_size_32 : decode bP_size 32 = .ok (.lstore 6, 2) := by decide +kernel
theorem dP_size_34 : decode bP_size 34 = .ok (.iload_n 1, 1) := by decide +kernel
theorem dP_size_35 : decode bP_size 35 = .ok (.ifCond .ne 7, 3) := by decide +kernel
theorem dP_size_38 : decode bP_size 38 = .ok (.iconst 3, 1) := by decide +kernel
theorem dP_size_39 : decode bP_size 39 = .ok (.goto 4, 3) := by decide +kernel
theorem dP_size_42 : decode bP_size 42 = .ok (.iconst 2, 1) := by decide +kernel
theorem dP_size_43 : decode bP_size 43 = .ok (.istore 8, 2) := by decide +kernel
theorem dP_size_45 : decode bP_size 45 = .ok (.iconst 1, 1) := by decide +kernel
theorem dP_size_46 : decode bP_size 46 = .ok (.istore 9, 2) := by decide +kernel
theorem dP_size_48 : decode bP_size 48 = .ok (.iload 9, 2) := by decide +kernel
theorem dP_size_50 : decode bP_size 50 = .ok (.bipush 26, 2) := by decide +kernel
theorem dP_size_52 : decode bP_size 52 = .ok (.if_icmp .gt 25, 3) := by decide +kernel
theorem dP_size_55 : decode bP_size 55 = .ok (.iload 8, 2) := by decide +kernel
theorem dP_size_57 : decode bP_size 57 = .ok (.iload 9, 2) := by decide +kernel
theorem dP_size_59 : decode bP_size 59 = .ok (.invokestatic 106, 3) := by decide +kernel
theorem dP_size_62 : decode bP_size 62 = .ok (.lload 6, 2) := by decide +kernel
theorem dP_size_64 : decode bP_size 64 = .ok (.lcmp, 1) := by decide +kernel
theorem dP_size_65 : decode bP_size 65 = .ok (.ifCond .lt 6, 3) := by decide +kernel
theorem dP_size_68 : decode bP_size 68 = .ok (.iload 9, 2) := by decide +kernel
theorem dP_size_70 : decode bP_size 70 = .ok (.ireturn, 1) := by decide +kernel
theorem dP_size_71 : decode bP_size 71 = .ok (.iinc 9 1, 3) := by decide +kernel
theorem dP_size_74 : decode bP_size 74 = .ok (.goto (-26), 3) := by decide +kernel
theorem dP_size_77 : decode bP_size 77 = .ok (.iconst (-1), 1) := by decide +kernel
theorem dP_size_78 : decode bP_size 78 = .ok (.ireturn, 1) := by decide +kernel
theorem dL_cell_0 : decode bL_cell 0 = .ok (.iload_n 1, 1) := by decide +kernel
theorem dL_cell_1 : decode bL_cell 1 = .ok (.aload_n 0, 1) := by decide +kernel
theorem dL_cell_2 : decode bL_cell 2 = .ok (.arraylength, 1) := by decide +kernel
theorem dL_cell_3 : decode bL_cell 3 = .ok (.if_icmp .ge 9, 3) := by decide +kernel
theorem dL_cell_6 : decode bL_cell 6 = .ok (.aload_n 0, 1) := by decide +kernel
theorem dL_cell_7 : decode bL_cell 7 = .ok (.iload_n 1, 1) := by decide +kernel
theorem dL_cell_8 : decode bL_cell 8 = .ok (.iaload, 1) := by decide +kernel
theorem dL_cell_9 : decode bL_cell 9 = .ok (.goto 4, 3) := by decide +kernel
theorem dL_cell_12 : decode bL_cell 12 = .ok (.iconst 0, 1) := by decide +kernel
theorem dL_cell_13 : decode bL_cell 13 = .ok (.ireturn, 1) := by decide +kernel
theorem dL_row_0 : decode bL_row 0 = .ok (.aload_n 2, 1) := by decide +kernel
theorem dL_row_1 : decode bL_row 1 = .ok (.iconst 0, 1) := by decide +kernel
theorem dL_row_2 : decode bL_row 2 = .ok (.aload_n 0, 1) := by decide +kernel
theorem dL_row_3 : decode bL_row 3 = .ok (.iload_n 1, 1) := by decide +kernel
theorem dL_row_4 : decode bL_row 4 = .ok (.invokevirtual 7, 3) := by decide +kernel
theorem dL_row_7 : decode bL_row 7 = .ok (.i2l, 1) := by decide +kernel
theorem dL_row_8 : decode bL_row 8 = .ok (.lastore, 1) := by decide +kernel
theorem dL_row_9 : decode bL_row 9 = .ok (.goto 6, 3) := by decide +kernel
theorem dL_row_12 : decode bL_row 12 = .ok (.astore_n 3, 1) := by decide +kernel
theorem dL_row_13 : decode bL_row 13 = .ok (.iconst 1, 1) := by decide +kernel
theorem dL_row_14 : decode bL_row 14 = .ok (.ireturn, 1) := by decide +kernel
theorem dL_row_15 : decode bL_row 15 = .ok (.iconst 0, 1) := by decide +kernel
theorem dL_row_16 : decode bL_row 16 = .ok (.ireturn, 1) := by decide +kernel
theorem dP_row_0 : decode bP_row 0 = .ok (.iload_n 1, 1) := by decide +kernel
theorem dP_row_1 : decode bP_row 1 = .ok (.iconst 1, 1) := by decide +kernel
theorem dP_row_2 : decode bP_row 2 = .ok (.if_icmp .lt 9, 3) := by decide +kernel
theorem dP_row_5 : decode bP_row 5 = .ok (.iload_n 1, 1) := by decide +kernel
theorem dP_row_6 : decode bP_row 6 = .ok (.bipush 26, 2) := by decide +kernel
theorem dP_row_8 : decode bP_row 8 = .ok (.if_icmp .le 13, 3) := by decide +kernel
theorem dP_row_11 : decode bP_row 11 = .ok (.new 148, 3) := by decide +kernel
theorem dP_row_14 : decode bP_row 14 = .ok (.dup, 1) := by decide +kernel
theorem dP_row_15 : decode bP_row 15 = .ok (.ldc 150, 2) := by decide +kernel
theorem dP_row_17 : decode bP_row 17 = .ok (.invokespecial 152, 3) := by decide +kernel
theorem dP_row_20 : decode bP_row 20 = .ok (.athrow, 1) := by decide +kernel
theorem dP_row_21 : decode bP_row 21 = .ok (.iconst 3, 1) := by decide +kernel
theorem dP_row_22 : decode bP_row 22 = .ok (.iload_n 1, 1) := by decide +kernel
theorem dP_row_23 : decode bP_row 23 = .ok (.invokestatic 106, 3) := by decide +kernel
theorem dP_row_26 : decode bP_row 26 = .ok (.lstore_n 2, 1) := by decide +kernel
theorem dP_row_27 : decode bP_row 27 = .ok (.iconst 0, 1) := by decide +kernel
theorem dP_row_28 : decode bP_row 28 = .ok (.istore 4, 2) := by decide +kernel
theorem dP_row_30 : decode bP_row 30 = .ok (.iload 4, 2) := by decide +kernel
theorem dP_row_32 : decode bP_row 32 = .ok (.iload_n 1, 1) := by decide +kernel
theorem dP_row_33 : decode bP_row 33 = .ok (.if_icmp .gt 28, 3) := by decide +kernel
theorem dP_row_36 : decode bP_row 36 = .ok (.ldc2_w 155, 3) := by decide +kernel
theorem dP_row_39 : decode bP_row 39 = .ok (.iload 4, 2) := by decide +kernel
theorem dP_row_41 : decode bP_row 41 = .ok (.iload_n 1, 1) := by decide +kernel
theorem dP_row_42 : decode bP_row 42 = .ok (.iconst 3, 1) := by decide +kernel
theorem dP_row_43 : decode bP_row 43 = .ok (.invokestatic 102, 3) := by decide +kernel
theorem dP_row_46 : decode bP_row 46 = .ok (.lmul, 1) := by decide +kernel
theorem dP_row_47 : decode bP_row 47 = .ok (.lload_n 2, 1) := by decide +kernel
theorem dP_row_48 : decode bP_row 48 = .ok (.lcmp, 1) := by decide +kernel
theorem dP_row_49 : decode bP_row 49 = .ok (.ifCond .gt 6, 3) := by decide +kernel
theorem dP_row_52 : decode bP_row 52 = .ok (.iload 4, 2) := by decide +kernel
theorem dP_row_54 : decode bP_row 54 = .ok (.ireturn, 1) := by decide +kernel
theorem dP_row_55 : decode bP_row 55 = .ok (.iinc 4 1, 3) := by decide +kernel
theorem dP_row_58 : decode bP_row 58 = .ok (.goto (-28), 3) := by decide +kernel
theorem dP_row_61 : decode bP_row 61 = .ok (.iload_n 1, 1) := by decide +kernel
theorem dP_row_62 : decode bP_row 62 = .ok (.iconst 1, 1) := by decide +kernel
theorem dP_row_63 : decode bP_row 63 = .ok (.iadd, 1) := by decide +kernel
theorem dP_row_64 : decode bP_row 64 = .ok (.ireturn, 1) := by decide +kernel
theorem dM_init_0 : decode bM_init 0 = .ok (.aload_n 0, 1) := by decide +kernel
theorem dM_init_1 : decode bM_init 1 = .ok (.invokespecial 1, 3) := by decide +kernel
theorem dM_init_4 : decode bM_init 4 = .ok (.aload_n 0, 1) := by decide +kernel
theorem dM_init_5 : decode bM_init 5 = .ok (.bipush 40, 2) := by decide +kernel
theorem dM_init_7 : decode bM_init 7 = .ok (.newarray .int, 2) := by decide +kernel
theorem dM_init_9 : decode bM_init 9 = .ok (.putfield 9, 3) := by decide +kernel
theorem dM_init_12 : decode bM_init 12 = .ok (.aload_n 0, 1) := by decide +kernel
theorem dM_init_13 : decode bM_init 13 = .ok (.bipush 40, 2) := by decide +kernel
theorem dM_init_15 : decode bM_init 15 = .ok (.newarray .int, 2) := by decide +kernel
theorem dM_init_17 : decode bM_init 17 = .ok (.putfield 13, 3) := by decide +kernel
theorem dM_init_20 : decode bM_init 20 = .ok (.aload_n 0, 1) := by decide +kernel
theorem dM_init_21 : decode bM_init 21 = .ok (.sipush 1040, 3) := by decide +kernel
theorem dM_init_24 : decode bM_init 24 = .ok (.newarray .int, 2) := by decide +kernel
theorem dM_init_26 : decode bM_init 26 = .ok (.putfield 16, 3) := by decide +kernel
theorem dM_init_29 : decode bM_init 29 = .ok (.aload_n 0, 1) := by decide +kernel
theorem dM_init_30 : decode bM_init 30 = .ok (.sipush 5200, 3) := by decide +kernel
theorem dM_init_33 : decode bM_init 33 = .ok (.newarray .int, 2) := by decide +kernel
theorem dM_init_35 : decode bM_init 35 = .ok (.putfield 19, 3) := by decide +kernel
theorem dM_init_38 : decode bM_init 38 = .ok (.aload_n 0, 1) := by decide +kernel
theorem dM_init_39 : decode bM_init 39 = .ok (.sipush 416, 3) := by decide +kernel
theorem dM_init_42 : decode bM_init 42 = .ok (.newarray .int, 2) := by decide +kernel
theorem dM_init_44 : decode bM_init 44 = .ok (.putfield 22, 3) := by decide +kernel
theorem dM_init_47 : decode bM_init 47 = .ok (.aload_n 0, 1) := by decide +kernel
theorem dM_init_48 : decode bM_init 48 = .ok (.bipush 120, 2) := by decide +kernel
theorem dM_init_50 : decode bM_init 50 = .ok (.newarray .int, 2) := by decide +kernel
theorem dM_init_52 : decode bM_init 52 = .ok (.putfield 25, 3) := by decide +kernel
theorem dM_init_55 : decode bM_init 55 = .ok (.aload_n 0, 1) := by decide +kernel
theorem dM_init_56 : decode bM_init 56 = .ok (.sipush 140, 3) := by decide +kernel
theorem dM_init_59 : decode bM_init 59 = .ok (.newarray .long, 2) := by decide +kernel
theorem dM_init_61 : decode bM_init 61 = .ok (.putfield 28, 3) := by decide +kernel
theorem dM_init_64 : decode bM_init 64 = .ok (.aload_n 0, 1) := by decide +kernel
theorem dM_init_65 : decode bM_init 65 = .ok (.sipush 140, 3) := by decide +kernel
theorem dM_init_68 : decode bM_init 68 = .ok (.newarray .long, 2) := by decide +kernel
theorem dM_init_70 : decode bM_init 70 = .ok (.putfield 32, 3) := by decide +kernel
theorem dM_init_73 : decode bM_init 73 = .ok (.aload_n 0, 1) := by decide +kernel
theorem dM_init_74 : decode bM_init 74 = .ok (.lload_n 1, 1) := by decide +kernel
theorem dM_init_75 : decode bM_init 75 = .ok (.putfield 35, 3) := by decide +kernel
theorem dM_init_78 : decode bM_init 78 = .ok (.return_, 1) := by decide +kernel
theorem dM_thrown_0 : decode bM_thrown 0 = .ok (.aload_n 0, 1) := by decide +kernel
theorem dM_thrown_1 : decode bM_thrown 1 = .ok (.getfield 39, 3) := by decide +kernel
theorem dM_thrown_4 : decode bM_thrown 4 = .ok (.ireturn, 1) := by decide +kernel
theorem dM_taster_0 : decode bM_taster 0 = .ok (.aload_n 0, 1) := by decide +kernel
theorem dM_taster_1 : decode bM_taster 1 = .ok (.iconst 0, 1) := by decide +kernel
theorem dM_taster_2 : decode bM_taster 2 = .ok (.putfield 39, 3) := by decide +kernel
theorem dM_taster_5 : decode bM_taster 5 = .ok (.aload_n 0, 1) := by decide +kernel
theorem dM_taster_6 : decode bM_taster 6 = .ok (.getfield 43, 3) := by decide +kernel
theorem dM_taster_9 : decode bM_taster 9 = .ok (.bipush 26, 2) := by decide +kernel
theorem dM_taster_11 : decode bM_taster 11 = .ok (.if_icmp .ne 6, 3) := by decide +kernel
theorem dM_taster_14 : decode bM_taster 14 = .ok (.bipush (-2), 2) := by decide +kernel
theorem dM_taster_16 : decode bM_taster 16 = .ok (.ireturn, 1) := by decide +kernel
theorem dM_taster_17 : decode bM_taster 17 = .ok (.aload_n 0, 1) := by decide +kernel
theorem dM_taster_18 : decode bM_taster 18 = .ok (.dup, 1) := by decide +kernel
theorem dM_taster_19 : decode bM_taster 19 = .ok (.getfield 43, 3) := by decide +kernel
theorem dM_taster_22 : decode bM_taster 22 = .ok (.iconst 1, 1) := by decide +kernel
theorem dM_taster_23 : decode bM_taster 23 = .ok (.iadd, 1) := by decide +kernel
theorem dM_taster_24 : decode bM_taster 24 = .ok (.putfield 43, 3) := by decide +kernel
theorem dM_taster_27 : decode bM_taster 27 = .ok (.aload_n 0, 1) := by decide +kernel
theorem dM_taster_28 : decode bM_taster 28 = .ok (.getfield 43, 3) := by decide +kernel
theorem dM_taster_31 : decode bM_taster 31 = .ok (.iconst 1, 1) := by decide +kernel
theorem dM_taster_32 : decode bM_taster 32 = .ok (.isub, 1) := by decide +kernel
theorem dM_taster_33 : decode bM_taster 33 = .ok (.ireturn, 1) := by decide +kernel
theorem dM_test_0 : decode bM_test 0 = .ok (.aload_n 0, 1) := by decide +kernel
theorem dM_test_1 : decode bM_test 1 = .ok (.iconst 0, 1) := by decide +kernel
theorem dM_test_2 : decode bM_test 2 = .ok (.putfield 39, 3) := by decide +kernel
theorem dM_test_5 : decode bM_test 5 = .ok (.iload_n 1, 1) := by decide +kernel
theorem dM_test_6 : decode bM_test 6 = .ok (.ifCond .ne 8, 3) := by decide +kernel
theorem dM_test_9 : decode bM_test 9 = .ok (.iload_n 2, 1) := by decide +kernel
theorem dM_test_10 : decode bM_test 10 = .ok (.iconst 3, 1) := by decide +kernel
theorem dM_test_11 : decode bM_test 11 = .ok (.if_icmp .eq 33, 3) := by decide +kernel
theorem dM_test_14 : decode bM_test 14 = .ok (.iload_n 1, 1) := by decide +kernel
theorem dM_test_15 : decode bM_test 15 = .ok (.iconst 1, 1) := by decide +kernel
theorem dM_test_16 : decode bM_test 16 = .ok (.if_icmp .eq 8, 3) := by decide +kernel
theorem dM_test_19 : decode bM_test 19 = .ok (.iload_n 1, 1) := by decide +kernel
theorem dM_test_20 : decode bM_test 20 = .ok (.iconst 2, 1) := by decide +kernel
theorem dM_test_21 : decode bM_test 21 = .ok (.if_icmp .ne 8, 3) := by decide +kernel
theorem dM_test_24 : decode bM_test 24 = .ok (.iload_n 2, 1) := by decide +kernel
theorem dM_test_25 : decode bM_test 25 = .ok (.iconst 2, 1) := by decide +kernel
theorem dM_test_26 : decode bM_test 26 = .ok (.if_icmp .eq 18, 3) := by decide +kernel
theorem dM_test_29 : decode bM_test 29 = .ok (.iload_n 1, 1) := by decide +kernel
theorem dM_test_30 : decode bM_test 30 = .ok (.iconst 3, 1) := by decide +kernel
theorem dM_test_31 : decode bM_test 31 = .ok (.if_icmp .ne 17, 3) := by decide +kernel
theorem dM_test_34 : decode bM_test 34 = .ok (.iload_n 2, 1) := by decide +kernel
theorem dM_test_35 : decode bM_test 35 = .ok (.iconst 2, 1) := by decide +kernel
theorem dM_test_36 : decode bM_test 36 = .ok (.if_icmp .lt 12, 3) := by decide +kernel
theorem dM_test_39 : decode bM_test 39 = .ok (.iload_n 2, 1) := by decide +kernel
theorem dM_test_40 : decode bM_test 40 = .ok (.iconst 5, 1) := by decide +kernel
theorem dM_test_41 : decode bM_test 41 = .ok (.if_icmp .gt 7, 3) := by decide +kernel
theorem dM_test_44 : decode bM_test 44 = .ok (.iconst 1, 1) := by decide +kernel
theorem dM_test_45 : decode bM_test 45 = .ok (.goto 4, 3) := by decide +kernel
theorem dM_test_48 : decode bM_test 48 = .ok (.iconst 0, 1) := by decide +kernel
theorem dM_test_49 : decode bM_test 49 = .ok (.istore_n 3, 1) := by decide +kernel
theorem dM_test_50 : decode bM_test 50 = .ok (.iload_n 3, 1) := by decide +kernel
theorem dM_test_51 : decode bM_test 51 = .ok (.ifCond .ne 5, 3) := by decide +kernel
theorem dM_test_54 : decode bM_test 54 = .ok (.iconst (-1), 1) := by decide +kernel
theorem dM_test_55 : decode bM_test 55 = .ok (.ireturn, 1) := by decide +kernel
theorem dM_test_56 : decode bM_test 56 = .ok (.aload_n 0, 1) := by decide +kernel
theorem dM_test_57 : decode bM_test 57 = .ok (.getfield 46, 3) := by decide +kernel
theorem dM_test_60 : decode bM_test 60 = .ok (.bipush 40, 2) := by decide +kernel
theorem dM_test_62 : decode bM_test 62 = .ok (.if_icmp .ne 6, 3) := by decide +kernel
theorem dM_test_65 : decode bM_test 65 = .ok (.bipush (-2), 2) := by decide +kernel
theorem dM_test_67 : decode bM_test 67 = .ok (.ireturn, 1) := by decide +kernel
theorem dM_test_68 : decode bM_test 68 = .ok (.aload_n 0, 1) := by decide +kernel
theorem dM_test_69 : decode bM_test 69 = .ok (.getfield 9, 3) := by decide +kernel
theorem dM_test_72 : decode bM_test 72 = .ok (.aload_n 0, 1) := by decide +kernel
theorem dM_test_73 : decode bM_test 73 = .ok (.getfield 46, 3) := by decide +kernel
theorem dM_test_76 : decode bM_test 76 = .ok (.iload_n 1, 1) := by decide +kernel
theorem dM_test_77 : decode bM_test 77 = .ok (.iastore, 1) := by decide +kernel
theorem dM_test_78 : decode bM_test 78 = .ok (.aload_n 0, 1) := by decide +kernel
theorem dM_test_79 : decode bM_test 79 = .ok (.getfield 13, 3) := by decide +kernel
theorem dM_test_82 : decode bM_test 82 = .ok (.aload_n 0, 1) := by decide +kernel
theorem dM_test_83 : decode bM_test 83 = .ok (.getfield 46, 3) := by decide +kernel
theorem dM_test_86 : decode bM_test 86 = .ok (.iload_n 2, 1) := by decide +kernel
theorem dM_test_87 : decode bM_test 87 = .ok (.iastore, 1) := by decide +kernel
theorem dM_test_88 : decode bM_test 88 = .ok (.aload_n 0, 1) := by decide +kernel
theorem dM_test_89 : decode bM_test 89 = .ok (.dup, 1) := by decide +kernel
theorem dM_test_90 : decode bM_test 90 = .ok (.getfield 46, 3) := by decide +kernel
theorem dM_test_93 : decode bM_test 93 = .ok (.iconst 1, 1) := by decide +kernel
theorem dM_test_94 : decode bM_test 94 = .ok (.iadd, 1) := by decide +kernel
theorem dM_test_95 : decode bM_test 95 = .ok (.putfield 46, 3) := by decide +kernel
theorem dM_test_98 : decode bM_test 98 = .ok (.aload_n 0, 1) := by decide +kernel
theorem dM_test_99 : decode bM_test 99 = .ok (.getfield 46, 3) := by decide +kernel
theorem dM_test_102 : decode bM_test 102 = .ok (.iconst 1, 1) := by decide +kernel
theorem dM_test_103 : decode bM_test 103 = .ok (.isub, 1) := by decide +kernel
theorem dM_test_104 : decode bM_test 104 = .ok (.ireturn, 1) := by decide +kernel
theorem dM_order_0 : decode bM_order 0 = .ok (.aload_n 0, 1) := by decide +kernel
theorem dM_order_1 : decode bM_order 1 = .ok (.iconst 0, 1) := by decide +kernel
theorem dM_order_2 : decode bM_order 2 = .ok (.putfield 39, 3) := by decide +kernel
theorem dM_order_5 : decode bM_order 5 = .ok (.aload_n 0, 1) := by decide +kernel
theorem dM_order_6 : decode bM_order 6 = .ok (.iload_n 1, 1) := by decide +kernel
theorem dM_order_7 : decode bM_order 7 = .ok (.invokevirtual 61, 3) := by decide +kernel
theorem dM_order_10 : decode bM_order 10 = .ok (.ifCond .eq 24, 3) := by decide +kernel
theorem dM_order_13 : decode bM_order 13 = .ok (.aload_n 0, 1) := by decide +kernel
theorem dM_order_14 : decode bM_order 14 = .ok (.iload_n 2, 1) := by decide +kernel
theorem dM_order_15 : decode bM_order 15 = .ok (.invokevirtual 65, 3) := by decide +kernel
theorem dM_order_18 : decode bM_order 18 = .ok (.ifCond .eq 16, 3) := by decide +kernel
theorem dM_order_21 : decode bM_order 21 = .ok (.iload_n 3, 1) := by decide +kernel
theorem dM_order_22 : decode bM_order 22 = .ok (.ifCond .lt 12, 3) := by decide +kernel
theorem dM_order_25 : decode bM_order 25 = .ok (.iload_n 3, 1) := by decide +kernel
theorem dM_order_26 : decode bM_order 26 = .ok (.aload_n 0, 1) := by decide +kernel
theorem dM_order_27 : decode bM_order 27 = .ok (.iload_n 1, 1) := by decide +kernel
theorem dM_order_28 : decode bM_order 28 = .ok (.invokevirtual 68, 3) := by decide +kernel
theorem dM_order_31 : decode bM_order 31 = .ok (.if_icmp .lt 5, 3) := by decide +kernel
theorem dM_order_34 : decode bM_order 34 = .ok (.iconst (-1), 1) := by decide +kernel
theorem dM_order_35 : decode bM_order 35 = .ok (.ireturn, 1) := by decide +kernel
theorem dM_order_36 : decode bM_order 36 = .ok (.aload_n 0, 1) := by decide +kernel
theorem dM_order_37 : decode bM_order 37 = .ok (.iload_n 1, 1) := by decide +kernel
theorem dM_order_38 : decode bM_order 38 = .ok (.iload_n 2, 1) := by decide +kernel
theorem dM_order_39 : decode bM_order 39 = .ok (.invokevirtual 71, 3) := by decide +kernel
theorem dM_order_42 : decode bM_order 42 = .ok (.istore 4, 2) := by decide +kernel
theorem dM_order_44 : decode bM_order 44 = .ok (.aload_n 0, 1) := by decide +kernel
theorem dM_order_45 : decode bM_order 45 = .ok (.getfield 9, 3) := by decide +kernel
theorem dM_order_48 : decode bM_order 48 = .ok (.iload_n 1, 1) := by decide +kernel
theorem dM_order_49 : decode bM_order 49 = .ok (.iaload, 1) := by decide +kernel
theorem dM_order_50 : decode bM_order 50 = .ok (.iconst 3, 1) := by decide +kernel
theorem dM_order_51 : decode bM_order 51 = .ok (.if_icmp .ne 18, 3) := by decide +kernel
theorem dM_order_54 : decode bM_order 54 = .ok (.aload_n 0, 1) := by decide +kernel
theorem dM_order_55 : decode bM_order 55 = .ok (.getfield 13, 3) := by decide +kernel
theorem dM_order_58 : decode bM_order 58 = .ok (.iload_n 1, 1) := by decide +kernel
theorem dM_order_59 : decode bM_order 59 = .ok (.iaload, 1) := by decide +kernel
theorem dM_order_60 : decode bM_order 60 = .ok (.iload 4, 2) := by decide +kernel
theorem dM_order_62 : decode bM_order 62 = .ok (.iload_n 3, 1) := by decide +kernel
theorem dM_order_63 : decode bM_order 63 = .ok (.invokestatic 75, 3) := by decide +kernel
theorem dM_order_66 : decode bM_order 66 = .ok (.goto 19, 3) := by decide +kernel
theorem dM_order_69 : decode bM_order 69 = .ok (.getstatic 79, 3) := by decide +kernel
theorem dM_order_72 : decode bM_order 72 = .ok (.iconst 3, 1) := by decide +kernel
theorem dM_order_73 : decode bM_order 73 = .ok (.aload_n 0, 1) := by decide +kernel
theorem dM_order_74 : decode bM_order 74 = .ok (.iload_n 1, 1) := by decide +kernel
theorem dM_order_75 : decode bM_order 75 = .ok (.invokevirtual 82, 3) := by decide +kernel
theorem dM_order_78 : decode bM_order 78 = .ok (.iload 4, 2) := by decide +kernel
theorem dM_order_80 : decode bM_order 80 = .ok (.iadd, 1) := by decide +kernel
theorem dM_order_81 : decode bM_order 81 = .ok (.imul, 1) := by decide +kernel
theorem dM_order_82 : decode bM_order 82 = .ok (.iload_n 3, 1) := by decide +kernel
theorem dM_order_83 : decode bM_order 83 = .ok (.iadd, 1) := by decide +kernel
theorem dM_order_84 : decode bM_order 84 = .ok (.iaload, 1) := by decide +kernel
theorem dM_order_85 : decode bM_order 85 = .ok (.ireturn, 1) := by decide +kernel
theorem dM_isTest_0 : decode bM_isTest 0 = .ok (.iload_n 1, 1) := by decide +kernel
theorem dM_isTest_1 : decode bM_isTest 1 = .ok (.ifCond .lt 15, 3) := by decide +kernel
theorem dM_isTest_4 : decode bM_isTest 4 = .ok (.iload_n 1, 1) := by decide +kernel
theorem dM_isTest_5 : decode bM_isTest 5 = .ok (.aload_n 0, 1) := by decide +kernel
theorem dM_isTest_6 : decode bM_isTest 6 = .ok (.getfield 46, 3) := by decide +kernel
theorem dM_isTest_9 : decode bM_isTest 9 = .ok (.if_icmp .ge 7, 3) := by decide +kernel
theorem dM_isTest_12 : decode bM_isTest 12 = .ok (.iconst 1, 1) := by decide +kernel
theorem dM_isTest_13 : decode bM_isTest 13 = .ok (.goto 4, 3) := by decide +kernel
theorem dM_isTest_16 : decode bM_isTest 16 = .ok (.iconst 0, 1) := by decide +kernel
theorem dM_isTest_17 : decode bM_isTest 17 = .ok (.ireturn, 1) := by decide +kernel
theorem dM_isTaster_0 : decode bM_isTaster 0 = .ok (.iload_n 1, 1) := by decide +kernel
theorem dM_isTaster_1 : decode bM_isTaster 1 = .ok (.ifCond .lt 15, 3) := by decide +kernel
theorem dM_isTaster_4 : decode bM_isTaster 4 = .ok (.iload_n 1, 1) := by decide +kernel
theorem dM_isTaster_5 : decode bM_isTaster 5 = .ok (.aload_n 0, 1) := by decide +kernel
theorem dM_isTaster_6 : decode bM_isTaster 6 = .ok (.getfield 43, 3) := by decide +kernel
theorem dM_isTaster_9 : decode bM_isTaster 9 = .ok (.if_icmp .ge 7, 3) := by decide +kernel
theorem dM_isTaster_12 : decode bM_isTaster 12 = .ok (.iconst 1, 1) := by decide +kernel
theorem dM_isTaster_13 : decode bM_isTaster 13 = .ok (.goto 4, 3) := by decide +kernel
theorem dM_isTaster_16 : decode bM_isTaster 16 = .ok (.iconst 0, 1) := by decide +kernel
theorem dM_isTaster_17 : decode bM_isTaster 17 = .ok (.ireturn, 1) := by decide +kernel
theorem dM_served_0 : decode bM_served 0 = .ok (.aload_n 0, 1) := by decide +kernel
theorem dM_served_1 : decode bM_served 1 = .ok (.getfield 9, 3) := by decide +kernel
theorem dM_served_4 : decode bM_served 4 = .ok (.iload_n 1, 1) := by decide +kernel
theorem dM_served_5 : decode bM_served 5 = .ok (.iaload, 1) := by decide +kernel
theorem dM_served_6 : decode bM_served 6 = .ok (.iconst 1, 1) := by decide +kernel
theorem dM_served_7 : decode bM_served 7 = .ok (.if_icmp .ne 7, 3) := by decide +kernel
theorem dM_served_10 : decode bM_served 10 = .ok (.iconst 2, 1) := by decide +kernel
theorem dM_served_11 : decode bM_served 11 = .ok (.goto 23, 3) := by decide +kernel
theorem dM_served_14 : decode bM_served 14 = .ok (.aload_n 0, 1) := by decide +kernel
theorem dM_served_15 : decode bM_served 15 = .ok (.getfield 9, 3) := by decide +kernel
theorem dM_served_18 : decode bM_served 18 = .ok (.iload_n 1, 1) := by decide +kernel
theorem dM_served_19 : decode bM_served 19 = .ok (.iaload, 1) := by decide +kernel
theorem dM_served_20 : decode bM_served 20 = .ok (.iconst 3, 1) := by decide +kernel
theorem dM_served_21 : decode bM_served 21 = .ok (.if_icmp .ne 12, 3) := by decide +kernel
theorem dM_served_24 : decode bM_served 24 = .ok (.aload_n 0, 1) := by decide +kernel
theorem dM_served_25 : decode bM_served 25 = .ok (.getfield 13, 3) := by decide +kernel
theorem dM_served_28 : decode bM_served 28 = .ok (.iload_n 1, 1) := by decide +kernel
theorem dM_served_29 : decode bM_served 29 = .ok (.iaload, 1) := by decide +kernel
theorem dM_served_30 : decode bM_served 30 = .ok (.goto 4, 3) := by decide +kernel
theorem dM_served_33 : decode bM_served 33 = .ok (.iconst 3, 1) := by decide +kernel
theorem dM_served_34 : decode bM_served 34 = .ok (.ireturn, 1) := by decide +kernel
theorem dM_orderOf_0 : decode bM_orderOf 0 = .ok (.aload_n 0, 1) := by decide +kernel
theorem dM_orderOf_1 : decode bM_orderOf 1 = .ok (.iload_n 1, 1) := by decide +kernel
theorem dM_orderOf_2 : decode bM_orderOf 2 = .ok (.invokevirtual 49, 3) := by decide +kernel
theorem dM_orderOf_5 : decode bM_orderOf 5 = .ok (.istore_n 3, 1) := by decide +kernel
theorem dM_orderOf_6 : decode bM_orderOf 6 = .ok (.iload_n 2, 1) := by decide +kernel
theorem dM_orderOf_7 : decode bM_orderOf 7 = .ok (.iload_n 3, 1) := by decide +kernel
theorem dM_orderOf_8 : decode bM_orderOf 8 = .ok (.idiv, 1) := by decide +kernel
theorem dM_orderOf_9 : decode bM_orderOf 9 = .ok (.istore 4, 2) := by decide +kernel
theorem dM_orderOf_11 : decode bM_orderOf 11 = .ok (.iconst 0, 1) := by decide +kernel
theorem dM_orderOf_12 : decode bM_orderOf 12 = .ok (.istore 5, 2) := by decide +kernel
theorem dM_orderOf_14 : decode bM_orderOf 14 = .ok (.iload 5, 2) := by decide +kernel
theorem dM_orderOf_16 : decode bM_orderOf 16 = .ok (.iload_n 3, 1) := by decide +kernel
theorem dM_orderOf_17 : decode bM_orderOf 17 = .ok (.if_icmp .ge 18, 3) := by decide +kernel
theorem dM_orderOf_20 : decode bM_orderOf 20 = .ok (.aload_n 0, 1) := by decide +kernel
theorem dM_orderOf_21 : decode bM_orderOf 21 = .ok (.getfield 25, 3) := by decide +kernel
theorem dM_orderOf_24 : decode bM_orderOf 24 = .ok (.iload 5, 2) := by decide +kernel
theorem dM_orderOf_26 : decode bM_orderOf 26 = .ok (.iload 5, 2) := by decide +kernel
theorem dM_orderOf_28 : decode bM_orderOf 28 = .ok (.iastore, 1) := by decide +kernel
theorem dM_orderOf_29 : decode bM_orderOf 29 = .ok (.iinc 5 1, 3) := by decide +kernel
theorem dM_orderOf_32 : decode bM_orderOf 32 = .ok (.goto (-18), 3) := by decide +kernel
theorem dM_orderOf_35 : decode bM_orderOf 35 = .ok (.aload_n 0, 1) := by decide +kernel
theorem dM_orderOf_36 : decode bM_orderOf 36 = .ok (.getfield 35, 3) := by decide +kernel
theorem dM_orderOf_39 : decode bM_orderOf 39 = .ok (.ldc2_w 53, 3) := by decide +kernel
theorem dM_orderOf_42 : decode bM_orderOf 42 = .ok (.iload_n 1, 1) := by decide +kernel
theorem dM_orderOf_43 : decode bM_orderOf 43 = .ok (.i2l, 1) := by decide +kernel
theorem dM_orderOf_44 : decode bM_orderOf 44 = .ok (.lmul, 1) := by decide +kernel
theorem dM_orderOf_45 : decode bM_orderOf 45 = .ok (.ladd, 1) := by decide +kernel
theorem dM_orderOf_46 : decode bM_orderOf 46 = .ok (.ldc2_w 55, 3) := by decide +kernel
theorem dM_orderOf_49 : decode bM_orderOf 49 = .ok (.iload 4, 2) := by decide +kernel
theorem dM_orderOf_51 : decode bM_orderOf 51 = .ok (.i2l, 1) := by decide +kernel
theorem dM_orderOf_52 : decode bM_orderOf 52 = .ok (.lmul, 1) := by decide +kernel
theorem dM_orderOf_53 : decode bM_orderOf 53 = .ok (.ladd, 1) := by decide +kernel
theorem dM_orderOf_54 : decode bM_orderOf 54 = .ok (.lstore 5, 2) := by decide +kernel
theorem dM_orderOf_56 : decode bM_orderOf 56 = .ok (.iload_n 3, 1) := by decide +kernel
theorem dM_orderOf_57 : decode bM_orderOf 57 = .ok (.iconst 1, 1) := by decide +kernel
theorem dM_orderOf_58 : decode bM_orderOf 58 = .ok (.isub, 1) := by decide +kernel
theorem dM_orderOf_59 : decode bM_orderOf 59 = .ok (.istore 7, 2) := by decide +kernel
theorem dM_orderOf_61 : decode bM_orderOf 61 = .ok (.iload 7, 2) := by decide +kernel
theorem dM_orderOf_63 : decode bM_orderOf 63 = .ok (.ifCond .le 67, 3) := by decide +kernel
theorem dM_orderOf_66 : decode bM_orderOf 66 = .ok (.lload 5, 2) := by decide +kernel
theorem dM_orderOf_68 : decode bM_orderOf 68 = .ok (.ldc2_w 57, 3) := by decide +kernel
theorem dM_orderOf_71 : decode bM_orderOf 71 = .ok (.lmul, 1) := by decide +kernel
theorem dM_orderOf_72 : decode bM_orderOf 72 = .ok (.ldc2_w 59, 3) := by decide +kernel
theorem dM_orderOf_75 : decode bM_orderOf 75 = .ok (.ladd, 1) := by decide +kernel
theorem dM_orderOf_76 : decode bM_orderOf 76 = .ok (.lstore 5, 2) := by decide +kernel
theorem dM_orderOf_78 : decode bM_orderOf 78 = .ok (.lload 5, 2) := by decide +kernel
theorem dM_orderOf_80 : decode bM_orderOf 80 = .ok (.bipush 33, 2) := by decide +kernel
theorem dM_orderOf_82 : decode bM_orderOf 82 = .ok (.lushr, 1) := by decide +kernel
theorem dM_orderOf_83 : decode bM_orderOf 83 = .ok (.iload 7, 2) := by decide +kernel
theorem dM_orderOf_85 : decode bM_orderOf 85 = .ok (.iconst 1, 1) := by decide +kernel
theorem dM_orderOf_86 : decode bM_orderOf 86 = .ok (.iadd, 1) := by decide +kernel
theorem dM_orderOf_87 : decode bM_orderOf 87 = .ok (.i2l, 1) := by decide +kernel
theorem dM_orderOf_88 : decode bM_orderOf 88 = .ok (.lrem, 1) := by decide +kernel
theorem dM_orderOf_89 : decode bM_orderOf 89 = .ok (.l2i, 1) := by decide +kernel
theorem dM_orderOf_90 : decode bM_orderOf 90 = .ok (.istore 8, 2) := by decide +kernel
theorem dM_orderOf_92 : decode bM_orderOf 92 = .ok (.aload_n 0, 1) := by decide +kernel
theorem dM_orderOf_93 : decode bM_orderOf 93 = .ok (.getfield 25, 3) := by decide +kernel
theorem dM_orderOf_96 : decode bM_orderOf 96 = .ok (.iload 7, 2) := by decide +kernel
theorem dM_orderOf_98 : decode bM_orderOf 98 = .ok (.iaload, 1) := by decide +kernel
theorem dM_orderOf_99 : decode bM_orderOf 99 = .ok (.istore 9, 2) := by decide +kernel
theorem dM_orderOf_101 : decode bM_orderOf 101 = .ok (.aload_n 0, 1) := by decide +kernel
theorem dM_orderOf_102 : decode bM_orderOf 102 = .ok (.getfield 25, 3) := by decide +kernel
theorem dM_orderOf_105 : decode bM_orderOf 105 = .ok (.iload 7, 2) := by decide +kernel
theorem dM_orderOf_107 : decode bM_orderOf 107 = .ok (.aload_n 0, 1) := by decide +kernel
theorem dM_orderOf_108 : decode bM_orderOf 108 = .ok (.getfield 25, 3) := by decide +kernel
theorem dM_orderOf_111 : decode bM_orderOf 111 = .ok (.iload 8, 2) := by decide +kernel
theorem dM_orderOf_113 : decode bM_orderOf 113 = .ok (.iaload, 1) := by decide +kernel
theorem dM_orderOf_114 : decode bM_orderOf 114 = .ok (.iastore, 1) := by decide +kernel
theorem dM_orderOf_115 : decode bM_orderOf 115 = .ok (.aload_n 0, 1) := by decide +kernel
theorem dM_orderOf_116 : decode bM_orderOf 116 = .ok (.getfield 25, 3) := by decide +kernel
theorem dM_orderOf_119 : decode bM_orderOf 119 = .ok (.iload 8, 2) := by decide +kernel
theorem dM_orderOf_121 : decode bM_orderOf 121 = .ok (.iload 9, 2) := by decide +kernel
theorem dM_orderOf_123 : decode bM_orderOf 123 = .ok (.iastore, 1) := by decide +kernel
theorem dM_orderOf_124 : decode bM_orderOf 124 = .ok (.iinc 7 (-1), 3) := by decide +kernel
theorem dM_orderOf_127 : decode bM_orderOf 127 = .ok (.goto (-66), 3) := by decide +kernel
theorem dM_orderOf_130 : decode bM_orderOf 130 = .ok (.aload_n 0, 1) := by decide +kernel
theorem dM_orderOf_131 : decode bM_orderOf 131 = .ok (.getfield 25, 3) := by decide +kernel
theorem dM_orderOf_134 : decode bM_orderOf 134 = .ok (.iload_n 2, 1) := by decide +kernel
theorem dM_orderOf_135 : decode bM_orderOf 135 = .ok (.iload_n 3, 1) := by decide +kernel
theorem dM_orderOf_136 : decode bM_orderOf 136 = .ok (.irem, 1) := by decide +kernel
theorem dM_orderOf_137 : decode bM_orderOf 137 = .ok (.iaload, 1) := by decide +kernel
theorem dM_orderOf_138 : decode bM_orderOf 138 = .ok (.ireturn, 1) := by decide +kernel
theorem dM_orders_0 : decode bM_orders 0 = .ok (.iconst 1, 1) := by decide +kernel
theorem dM_orders_1 : decode bM_orders 1 = .ok (.istore_n 2, 1) := by decide +kernel
theorem dM_orders_2 : decode bM_orders 2 = .ok (.iconst 2, 1) := by decide +kernel
theorem dM_orders_3 : decode bM_orders 3 = .ok (.istore_n 3, 1) := by decide +kernel
theorem dM_orders_4 : decode bM_orders 4 = .ok (.iload_n 3, 1) := by decide +kernel
theorem dM_orders_5 : decode bM_orders 5 = .ok (.aload_n 0, 1) := by decide +kernel
theorem dM_orders_6 : decode bM_orders 6 = .ok (.getfield 13, 3) := by decide +kernel
theorem dM_orders_9 : decode bM_orders 9 = .ok (.iload_n 1, 1) := by decide +kernel
theorem dM_orders_10 : decode bM_orders 10 = .ok (.iaload, 1) := by decide +kernel
theorem dM_orders_11 : decode bM_orders 11 = .ok (.if_icmp .gt 13, 3) := by decide +kernel
theorem dM_orders_14 : decode bM_orders 14 = .ok (.iload_n 2, 1) := by decide +kernel
theorem dM_orders_15 : decode bM_orders 15 = .ok (.iload_n 3, 1) := by decide +kernel
theorem dM_orders_16 : decode bM_orders 16 = .ok (.imul, 1) := by decide +kernel
theorem dM_orders_17 : decode bM_orders 17 = .ok (.istore_n 2, 1) := by decide +kernel
theorem dM_orders_18 : decode bM_orders 18 = .ok (.iinc 3 1, 3) := by decide +kernel
theorem dM_orders_21 : decode bM_orders 21 = .ok (.goto (-17), 3) := by decide +kernel
theorem dM_orders_24 : decode bM_orders 24 = .ok (.aload_n 0, 1) := by decide +kernel
theorem dM_orders_25 : decode bM_orders 25 = .ok (.getfield 9, 3) := by decide +kernel
theorem dM_orders_28 : decode bM_orders 28 = .ok (.iload_n 1, 1) := by decide +kernel
theorem dM_orders_29 : decode bM_orders 29 = .ok (.iaload, 1) := by decide +kernel
theorem dM_orders_30 : decode bM_orders 30 = .ok (.ifCond .ne 8, 3) := by decide +kernel
theorem dM_orders_33 : decode bM_orders 33 = .ok (.bipush 6, 2) := by decide +kernel
theorem dM_orders_35 : decode bM_orders 35 = .ok (.goto 32, 3) := by decide +kernel
theorem dM_orders_38 : decode bM_orders 38 = .ok (.aload_n 0, 1) := by decide +kernel
theorem dM_orders_39 : decode bM_orders 39 = .ok (.getfield 9, 3) := by decide +kernel
theorem dM_orders_42 : decode bM_orders 42 = .ok (.iload_n 1, 1) := by decide +kernel
theorem dM_orders_43 : decode bM_orders 43 = .ok (.iaload, 1) := by decide +kernel
theorem dM_orders_44 : decode bM_orders 44 = .ok (.iconst 1, 1) := by decide +kernel
theorem dM_orders_45 : decode bM_orders 45 = .ok (.if_icmp .ne 7, 3) := by decide +kernel
theorem dM_orders_48 : decode bM_orders 48 = .ok (.iconst 2, 1) := by decide +kernel
theorem dM_orders_49 : decode bM_orders 49 = .ok (.goto 18, 3) := by decide +kernel
theorem dM_orders_52 : decode bM_orders 52 = .ok (.aload_n 0, 1) := by decide +kernel
theorem dM_orders_53 : decode bM_orders 53 = .ok (.getfield 9, 3) := by decide +kernel
theorem dM_orders_56 : decode bM_orders 56 = .ok (.iload_n 1, 1) := by decide +kernel
theorem dM_orders_57 : decode bM_orders 57 = .ok (.iaload, 1) := by decide +kernel
theorem dM_orders_58 : decode bM_orders 58 = .ok (.iconst 2, 1) := by decide +kernel
theorem dM_orders_59 : decode bM_orders 59 = .ok (.if_icmp .ne 7, 3) := by decide +kernel
theorem dM_orders_62 : decode bM_orders 62 = .ok (.iconst 4, 1) := by decide +kernel
theorem dM_orders_63 : decode bM_orders 63 = .ok (.goto 4, 3) := by decide +kernel
theorem dM_orders_66 : decode bM_orders 66 = .ok (.iload_n 2, 1) := by decide +kernel
theorem dM_orders_67 : decode bM_orders 67 = .ok (.ireturn, 1) := by decide +kernel
theorem dM_item_0 : decode bM_item 0 = .ok (.iconst 0, 1) := by decide +kernel
theorem dM_item_1 : decode bM_item 1 = .ok (.istore_n 3, 1) := by decide +kernel
theorem dM_item_2 : decode bM_item 2 = .ok (.iload_n 1, 1) := by decide +kernel
theorem dM_item_3 : decode bM_item 3 = .ok (.istore 4, 2) := by decide +kernel
theorem dM_item_5 : decode bM_item 5 = .ok (.iconst 0, 1) := by decide +kernel
theorem dM_item_6 : decode bM_item 6 = .ok (.istore 5, 2) := by decide +kernel
theorem dM_item_8 : decode bM_item 8 = .ok (.iconst 0, 1) := by decide +kernel
theorem dM_item_9 : decode bM_item 9 = .ok (.istore 6, 2) := by decide +kernel
theorem dM_item_11 : decode bM_item 11 = .ok (.iload 6, 2) := by decide +kernel
theorem dM_item_13 : decode bM_item 13 = .ok (.iload_n 2, 1) := by decide +kernel
theorem dM_item_14 : decode bM_item 14 = .ok (.if_icmp .gt 91, 3) := by decide +kernel
theorem dM_item_17 : decode bM_item 17 = .ok (.iconst 1, 1) := by decide +kernel
theorem dM_item_18 : decode bM_item 18 = .ok (.istore 7, 2) := by decide +kernel
theorem dM_item_20 : decode bM_item 20 = .ok (.iconst 2, 1) := by decide +kernel
theorem dM_item_21 : decode bM_item 21 = .ok (.istore 8, 2) := by decide +kernel
theorem dM_item_23 : decode bM_item 23 = .ok (.iload 8, 2) := by decide +kernel
theorem dM_item_25 : decode bM_item 25 = .ok (.iload_n 0, 1) := by decide +kernel
theorem dM_item_26 : decode bM_item 26 = .ok (.iload 6, 2) := by decide +kernel
theorem dM_item_28 : decode bM_item 28 = .ok (.isub, 1) := by decide +kernel
theorem dM_item_29 : decode bM_item 29 = .ok (.if_icmp .ge 16, 3) := by decide +kernel
theorem dM_item_32 : decode bM_item 32 = .ok (.iload 7, 2) := by decide +kernel
theorem dM_item_34 : decode bM_item 34 = .ok (.iload 8, 2) := by decide +kernel
theorem dM_item_36 : decode bM_item 36 = .ok (.imul, 1) := by decide +kernel
theorem dM_item_37 : decode bM_item 37 = .ok (.istore 7, 2) := by decide +kernel
theorem dM_item_39 : decode bM_item 39 = .ok (.iinc 8 1, 3) := by decide +kernel
theorem dM_item_42 : decode bM_item 42 = .ok (.goto (-19), 3) := by decide +kernel
theorem dM_item_45 : decode bM_item 45 = .ok (.iload 4, 2) := by decide +kernel
theorem dM_item_47 : decode bM_item 47 = .ok (.iload 7, 2) := by decide +kernel
theorem dM_item_49 : decode bM_item 49 = .ok (.idiv, 1) := by decide +kernel
theorem dM_item_50 : decode bM_item 50 = .ok (.istore 8, 2) := by decide +kernel
theorem dM_item_52 : decode bM_item 52 = .ok (.iload 4, 2) := by decide +kernel
theorem dM_item_54 : decode bM_item 54 = .ok (.iload 7, 2) := by decide +kernel
theorem dM_item_56 : decode bM_item 56 = .ok (.irem, 1) := by decide +kernel
theorem dM_item_57 : decode bM_item 57 = .ok (.istore 4, 2) := by decide +kernel
theorem dM_item_59 : decode bM_item 59 = .ok (.iconst (-1), 1) := by decide +kernel
theorem dM_item_60 : decode bM_item 60 = .ok (.istore 5, 2) := by decide +kernel
theorem dM_item_62 : decode bM_item 62 = .ok (.iload 8, 2) := by decide +kernel
theorem dM_item_64 : decode bM_item 64 = .ok (.ifCond .lt 28, 3) := by decide +kernel
theorem dM_item_67 : decode bM_item 67 = .ok (.iinc 5 1, 3) := by decide +kernel
theorem dM_item_70 : decode bM_item 70 = .ok (.iload 8, 2) := by decide +kernel
theorem dM_item_72 : decode bM_item 72 = .ok (.iload_n 3, 1) := by decide +kernel
theorem dM_item_73 : decode bM_item 73 = .ok (.iload 5, 2) := by decide +kernel
theorem dM_item_75 : decode bM_item 75 = .ok (.ishr, 1) := by decide +kernel
theorem dM_item_76 : decode bM_item 76 = .ok (.iconst 1, 1) := by decide +kernel
theorem dM_item_77 : decode bM_item 77 = .ok (.iand, 1) := by decide +kernel
theorem dM_item_78 : decode bM_item 78 = .ok (.ifCond .ne 7, 3) := by decide +kernel
theorem dM_item_81 : decode bM_item 81 = .ok (.iconst 1, 1) := by decide +kernel
theorem dM_item_82 : decode bM_item 82 = .ok (.goto 4, 3) := by decide +kernel
theorem dM_item_85 : decode bM_item 85 = .ok (.iconst 0, 1) := by decide +kernel
theorem dM_item_86 : decode bM_item 86 = .ok (.isub, 1) := by decide +kernel
theorem dM_item_87 : decode bM_item 87 = .ok (.istore 8, 2) := by decide +kernel
theorem dM_item_89 : decode bM_item 89 = .ok (.goto (-27), 3) := by decide +kernel
theorem dM_item_92 : decode bM_item 92 = .ok (.iload_n 3, 1) := by decide +kernel
theorem dM_item_93 : decode bM_item 93 = .ok (.iconst 1, 1) := by decide +kernel
theorem dM_item_94 : decode bM_item 94 = .ok (.iload 5, 2) := by decide +kernel
theorem dM_item_96 : decode bM_item 96 = .ok (.ishl, 1) := by decide +kernel
theorem dM_item_97 : decode bM_item 97 = .ok (.ior, 1) := by decide +kernel
theorem dM_item_98 : decode bM_item 98 = .ok (.istore_n 3, 1) := by decide +kernel
theorem dM_item_99 : decode bM_item 99 = .ok (.iinc 6 1, 3) := by decide +kernel
theorem dM_item_102 : decode bM_item 102 = .ok (.goto (-91), 3) := by decide +kernel
theorem dM_item_105 : decode bM_item 105 = .ok (.iload 5, 2) := by decide +kernel
theorem dM_item_107 : decode bM_item 107 = .ok (.ireturn, 1) := by decide +kernel
theorem dM_first_0 : decode bM_first 0 = .ok (.aload_n 0, 1) := by decide +kernel
theorem dM_first_1 : decode bM_first 1 = .ok (.getfield 9, 3) := by decide +kernel
theorem dM_first_4 : decode bM_first 4 = .ok (.iload_n 1, 1) := by decide +kernel
theorem dM_first_5 : decode bM_first 5 = .ok (.iaload, 1) := by decide +kernel
theorem dM_first_6 : decode bM_first 6 = .ok (.ifCond .ne 7, 3) := by decide +kernel
theorem dM_first_9 : decode bM_first 9 = .ok (.iconst 0, 1) := by decide +kernel
theorem dM_first_10 : decode bM_first 10 = .ok (.goto 20, 3) := by decide +kernel
theorem dM_first_13 : decode bM_first 13 = .ok (.aload_n 0, 1) := by decide +kernel
theorem dM_first_14 : decode bM_first 14 = .ok (.getfield 9, 3) := by decide +kernel
theorem dM_first_17 : decode bM_first 17 = .ok (.iload_n 1, 1) := by decide +kernel
theorem dM_first_18 : decode bM_first 18 = .ok (.iaload, 1) := by decide +kernel
theorem dM_first_19 : decode bM_first 19 = .ok (.iconst 1, 1) := by decide +kernel
theorem dM_first_20 : decode bM_first 20 = .ok (.if_icmp .ne 8, 3) := by decide +kernel
theorem dM_first_23 : decode bM_first 23 = .ok (.bipush 6, 2) := by decide +kernel
theorem dM_first_25 : decode bM_first 25 = .ok (.goto 5, 3) := by decide +kernel
theorem dM_first_28 : decode bM_first 28 = .ok (.bipush 8, 2) := by decide +kernel
theorem dM_first_30 : decode bM_first 30 = .ok (.ireturn, 1) := by decide +kernel
theorem dM_answer_0 : decode bM_answer 0 = .ok (.aload_n 0, 1) := by decide +kernel
theorem dM_answer_1 : decode bM_answer 1 = .ok (.iconst 0, 1) := by decide +kernel
theorem dM_answer_2 : decode bM_answer 2 = .ok (.putfield 39, 3) := by decide +kernel
theorem dM_answer_5 : decode bM_answer 5 = .ok (.aload_n 0, 1) := by decide +kernel
theorem dM_answer_6 : decode bM_answer 6 = .ok (.iload_n 1, 1) := by decide +kernel
theorem dM_answer_7 : decode bM_answer 7 = .ok (.invokevirtual 61, 3) := by decide +kernel
theorem dM_answer_10 : decode bM_answer 10 = .ok (.ifCond .eq 49, 3) := by decide +kernel
theorem dM_answer_13 : decode bM_answer 13 = .ok (.aload_n 0, 1) := by decide +kernel
theorem dM_answer_14 : decode bM_answer 14 = .ok (.iload_n 2, 1) := by decide +kernel
theorem dM_answer_15 : decode bM_answer 15 = .ok (.invokevirtual 65, 3) := by decide +kernel
theorem dM_answer_18 : decode bM_answer 18 = .ok (.ifCond .eq 41, 3) := by decide +kernel
theorem dM_answer_21 : decode bM_answer 21 = .ok (.aload_n 0, 1) := by decide +kernel
theorem dM_answer_22 : decode bM_answer 22 = .ok (.getfield 9, 3) := by decide +kernel
theorem dM_answer_25 : decode bM_answer 25 = .ok (.iload_n 1, 1) := by decide +kernel
theorem dM_answer_26 : decode bM_answer 26 = .ok (.iaload, 1) := by decide +kernel
theorem dM_answer_27 : decode bM_answer 27 = .ok (.iconst 3, 1) := by decide +kernel
theorem dM_answer_28 : decode bM_answer 28 = .ok (.if_icmp .eq 31, 3) := by decide +kernel
theorem dM_answer_31 : decode bM_answer 31 = .ok (.iload_n 3, 1) := by decide +kernel
theorem dM_answer_32 : decode bM_answer 32 = .ok (.ifCond .lt 27, 3) := by decide +kernel
theorem dM_answer_35 : decode bM_answer 35 = .ok (.iload_n 3, 1) := by decide +kernel
theorem dM_answer_36 : decode bM_answer 36 = .ok (.aload_n 0, 1) := by decide +kernel
theorem dM_answer_37 : decode bM_answer 37 = .ok (.getfield 13, 3) := by decide +kernel
theorem dM_answer_40 : decode bM_answer 40 = .ok (.iload_n 1, 1) := by decide +kernel
theorem dM_answer_41 : decode bM_answer 41 = .ok (.iaload, 1) := by decide +kernel
theorem dM_answer_42 : decode bM_answer 42 = .ok (.if_icmp .ge 17, 3) := by decide +kernel
theorem dM_answer_45 : decode bM_answer 45 = .ok (.aload_n 0, 1) := by decide +kernel
theorem dM_answer_46 : decode bM_answer 46 = .ok (.getfield 16, 3) := by decide +kernel
theorem dM_answer_49 : decode bM_answer 49 = .ok (.bipush 26, 2) := by decide +kernel
theorem dM_answer_51 : decode bM_answer 51 = .ok (.iload_n 1, 1) := by decide +kernel
theorem dM_answer_52 : decode bM_answer 52 = .ok (.imul, 1) := by decide +kernel
theorem dM_answer_53 : decode bM_answer 53 = .ok (.iload_n 2, 1) := by decide +kernel
theorem dM_answer_54 : decode bM_answer 54 = .ok (.iadd, 1) := by decide +kernel
theorem dM_answer_55 : decode bM_answer 55 = .ok (.iaload, 1) := by decide +kernel
theorem dM_answer_56 : decode bM_answer 56 = .ok (.ifCond .le 5, 3) := by decide +kernel
theorem dM_answer_59 : decode bM_answer 59 = .ok (.iconst 0, 1) := by decide +kernel
theorem dM_answer_60 : decode bM_answer 60 = .ok (.ireturn, 1) := by decide +kernel
theorem dM_answer_61 : decode bM_answer 61 = .ok (.aload_n 0, 1) := by decide +kernel
theorem dM_answer_62 : decode bM_answer 62 = .ok (.getfield 16, 3) := by decide +kernel
theorem dM_answer_65 : decode bM_answer 65 = .ok (.bipush 26, 2) := by decide +kernel
theorem dM_answer_67 : decode bM_answer 67 = .ok (.iload_n 1, 1) := by decide +kernel
theorem dM_answer_68 : decode bM_answer 68 = .ok (.imul, 1) := by decide +kernel
theorem dM_answer_69 : decode bM_answer 69 = .ok (.iload_n 2, 1) := by decide +kernel
theorem dM_answer_70 : decode bM_answer 70 = .ok (.iadd, 1) := by decide +kernel
theorem dM_answer_71 : decode bM_answer 71 = .ok (.iload_n 3, 1) := by decide +kernel
theorem dM_answer_72 : decode bM_answer 72 = .ok (.iconst 1, 1) := by decide +kernel
theorem dM_answer_73 : decode bM_answer 73 = .ok (.iadd, 1) := by decide +kernel
theorem dM_answer_74 : decode bM_answer 74 = .ok (.iastore, 1) := by decide +kernel
theorem dM_answer_75 : decode bM_answer 75 = .ok (.iconst 1, 1) := by decide +kernel
theorem dM_answer_76 : decode bM_answer 76 = .ok (.ireturn, 1) := by decide +kernel
theorem dM_right_0 : decode bM_right 0 = .ok (.aload_n 0, 1) := by decide +kernel
theorem dM_right_1 : decode bM_right 1 = .ok (.iconst 0, 1) := by decide +kernel
theorem dM_right_2 : decode bM_right 2 = .ok (.putfield 39, 3) := by decide +kernel
theorem dM_right_5 : decode bM_right 5 = .ok (.aload_n 0, 1) := by decide +kernel
theorem dM_right_6 : decode bM_right 6 = .ok (.iload_n 1, 1) := by decide +kernel
theorem dM_right_7 : decode bM_right 7 = .ok (.invokevirtual 61, 3) := by decide +kernel
theorem dM_right_10 : decode bM_right 10 = .ok (.ifCond .eq 13, 3) := by decide +kernel
theorem dM_right_13 : decode bM_right 13 = .ok (.aload_n 0, 1) := by decide +kernel
theorem dM_right_14 : decode bM_right 14 = .ok (.getfield 9, 3) := by decide +kernel
theorem dM_right_17 : decode bM_right 17 = .ok (.iload_n 1, 1) := by decide +kernel
theorem dM_right_18 : decode bM_right 18 = .ok (.iaload, 1) := by decide +kernel
theorem dM_right_19 : decode bM_right 19 = .ok (.iconst 3, 1) := by decide +kernel
theorem dM_right_20 : decode bM_right 20 = .ok (.if_icmp .ne 7, 3) := by decide +kernel
theorem dM_right_23 : decode bM_right 23 = .ok (.iconst (-1), 1) := by decide +kernel
theorem dM_right_24 : decode bM_right 24 = .ok (.goto 8, 3) := by decide +kernel
theorem dM_right_27 : decode bM_right 27 = .ok (.aload_n 0, 1) := by decide +kernel
theorem dM_right_28 : decode bM_right 28 = .ok (.iload_n 1, 1) := by decide +kernel
theorem dM_right_29 : decode bM_right 29 = .ok (.invokevirtual 92, 3) := by decide +kernel
theorem dM_right_32 : decode bM_right 32 = .ok (.ireturn, 1) := by decide +kernel
theorem dM_rightOnes_0 : decode bM_rightOnes 0 = .ok (.iconst 0, 1) := by decide +kernel
theorem dM_rightOnes_1 : decode bM_rightOnes 1 = .ok (.istore_n 2, 1) := by decide +kernel
theorem dM_rightOnes_2 : decode bM_rightOnes 2 = .ok (.iconst 0, 1) := by decide +kernel
theorem dM_rightOnes_3 : decode bM_rightOnes 3 = .ok (.istore_n 3, 1) := by decide +kernel
theorem dM_rightOnes_4 : decode bM_rightOnes 4 = .ok (.iload_n 3, 1) := by decide +kernel
theorem dM_rightOnes_5 : decode bM_rightOnes 5 = .ok (.aload_n 0, 1) := by decide +kernel
theorem dM_rightOnes_6 : decode bM_rightOnes 6 = .ok (.getfield 43, 3) := by decide +kernel
theorem dM_rightOnes_9 : decode bM_rightOnes 9 = .ok (.if_icmp .ge 40, 3) := by decide +kernel
theorem dM_rightOnes_12 : decode bM_rightOnes 12 = .ok (.iload_n 2, 1) := by decide +kernel
theorem dM_rightOnes_13 : decode bM_rightOnes 13 = .ok (.aload_n 0, 1) := by decide +kernel
theorem dM_rightOnes_14 : decode bM_rightOnes 14 = .ok (.getfield 16, 3) := by decide +kernel
theorem dM_rightOnes_17 : decode bM_rightOnes 17 = .ok (.bipush 26, 2) := by decide +kernel
theorem dM_rightOnes_19 : decode bM_rightOnes 19 = .ok (.iload_n 1, 1) := by decide +kernel
theorem dM_rightOnes_20 : decode bM_rightOnes 20 = .ok (.imul, 1) := by decide +kernel
theorem dM_rightOnes_21 : decode bM_rightOnes 21 = .ok (.iload_n 3, 1) := by decide +kernel
theorem dM_rightOnes_22 : decode bM_rightOnes 22 = .ok (.iadd, 1) := by decide +kernel
theorem dM_rightOnes_23 : decode bM_rightOnes 23 = .ok (.iaload, 1) := by decide +kernel
theorem dM_rightOnes_24 : decode bM_rightOnes 24 = .ok (.ifCond .le 16, 3) := by decide +kernel
theorem dM_rightOnes_27 : decode bM_rightOnes 27 = .ok (.aload_n 0, 1) := by decide +kernel
theorem dM_rightOnes_28 : decode bM_rightOnes 28 = .ok (.iload_n 1, 1) := by decide +kernel
theorem dM_rightOnes_29 : decode bM_rightOnes 29 = .ok (.iload_n 3, 1) := by decide +kernel
theorem dM_rightOnes_30 : decode bM_rightOnes 30 = .ok (.invokevirtual 88, 3) := by decide +kernel
theorem dM_rightOnes_33 : decode bM_rightOnes 33 = .ok (.ifCond .eq 7, 3) := by decide +kernel
theorem dM_rightOnes_36 : decode bM_rightOnes 36 = .ok (.iconst 1, 1) := by decide +kernel
theorem dM_rightOnes_37 : decode bM_rightOnes 37 = .ok (.goto 4, 3) := by decide +kernel
theorem dM_rightOnes_40 : decode bM_rightOnes 40 = .ok (.iconst 0, 1) := by decide +kernel
theorem dM_rightOnes_41 : decode bM_rightOnes 41 = .ok (.iadd, 1) := by decide +kernel
theorem dM_rightOnes_42 : decode bM_rightOnes 42 = .ok (.istore_n 2, 1) := by decide +kernel
theorem dM_rightOnes_43 : decode bM_rightOnes 43 = .ok (.iinc 3 1, 3) := by decide +kernel
theorem dM_rightOnes_46 : decode bM_rightOnes 46 = .ok (.goto (-42), 3) := by decide +kernel
theorem dM_rightOnes_49 : decode bM_rightOnes 49 = .ok (.iload_n 2, 1) := by decide +kernel
theorem dM_rightOnes_50 : decode bM_rightOnes 50 = .ok (.ireturn, 1) := by decide +kernel
theorem dM_isRight_0 : decode bM_isRight 0 = .ok (.aload_n 0, 1) := by decide +kernel
theorem dM_isRight_1 : decode bM_isRight 1 = .ok (.getfield 16, 3) := by decide +kernel
theorem dM_isRight_4 : decode bM_isRight 4 = .ok (.bipush 26, 2) := by decide +kernel
theorem dM_isRight_6 : decode bM_isRight 6 = .ok (.iload_n 1, 1) := by decide +kernel
theorem dM_isRight_7 : decode bM_isRight 7 = .ok (.imul, 1) := by decide +kernel
theorem dM_isRight_8 : decode bM_isRight 8 = .ok (.iload_n 2, 1) := by decide +kernel
theorem dM_isRight_9 : decode bM_isRight 9 = .ok (.iadd, 1) := by decide +kernel
theorem dM_isRight_10 : decode bM_isRight 10 = .ok (.iaload, 1) := by decide +kernel
theorem dM_isRight_11 : decode bM_isRight 11 = .ok (.iconst 1, 1) := by decide +kernel
theorem dM_isRight_12 : decode bM_isRight 12 = .ok (.getstatic 85, 3) := by decide +kernel
theorem dM_isRight_15 : decode bM_isRight 15 = .ok (.aload_n 0, 1) := by decide +kernel
theorem dM_isRight_16 : decode bM_isRight 16 = .ok (.iload_n 1, 1) := by decide +kernel
theorem dM_isRight_17 : decode bM_isRight 17 = .ok (.invokevirtual 82, 3) := by decide +kernel
theorem dM_isRight_20 : decode bM_isRight 20 = .ok (.aload_n 0, 1) := by decide +kernel
theorem dM_isRight_21 : decode bM_isRight 21 = .ok (.iload_n 1, 1) := by decide +kernel
theorem dM_isRight_22 : decode bM_isRight 22 = .ok (.iload_n 2, 1) := by decide +kernel
theorem dM_isRight_23 : decode bM_isRight 23 = .ok (.invokevirtual 71, 3) := by decide +kernel
theorem dM_isRight_26 : decode bM_isRight 26 = .ok (.iadd, 1) := by decide +kernel
theorem dM_isRight_27 : decode bM_isRight 27 = .ok (.iaload, 1) := by decide +kernel
theorem dM_isRight_28 : decode bM_isRight 28 = .ok (.iadd, 1) := by decide +kernel
theorem dM_isRight_29 : decode bM_isRight 29 = .ok (.if_icmp .ne 7, 3) := by decide +kernel
theorem dM_isRight_32 : decode bM_isRight 32 = .ok (.iconst 1, 1) := by decide +kernel
theorem dM_isRight_33 : decode bM_isRight 33 = .ok (.goto 4, 3) := by decide +kernel
theorem dM_isRight_36 : decode bM_isRight 36 = .ok (.iconst 0, 1) := by decide +kernel
theorem dM_isRight_37 : decode bM_isRight 37 = .ok (.ireturn, 1) := by decide +kernel
theorem dM_chance_0 : decode bM_chance 0 = .ok (.aload_n 0, 1) := by decide +kernel
theorem dM_chance_1 : decode bM_chance 1 = .ok (.iconst 0, 1) := by decide +kernel
theorem dM_chance_2 : decode bM_chance 2 = .ok (.putfield 39, 3) := by decide +kernel
theorem dM_chance_5 : decode bM_chance 5 = .ok (.aload_n 0, 1) := by decide +kernel
theorem dM_chance_6 : decode bM_chance 6 = .ok (.iload_n 1, 1) := by decide +kernel
theorem dM_chance_7 : decode bM_chance 7 = .ok (.invokevirtual 61, 3) := by decide +kernel
theorem dM_chance_10 : decode bM_chance 10 = .ok (.ifCond .eq 30, 3) := by decide +kernel
theorem dM_chance_13 : decode bM_chance 13 = .ok (.aload_n 0, 1) := by decide +kernel
theorem dM_chance_14 : decode bM_chance 14 = .ok (.getfield 9, 3) := by decide +kernel
theorem dM_chance_17 : decode bM_chance 17 = .ok (.iload_n 1, 1) := by decide +kernel
theorem dM_chance_18 : decode bM_chance 18 = .ok (.iaload, 1) := by decide +kernel
theorem dM_chance_19 : decode bM_chance 19 = .ok (.iconst 3, 1) := by decide +kernel
theorem dM_chance_20 : decode bM_chance 20 = .ok (.if_icmp .eq 20, 3) := by decide +kernel
theorem dM_chance_23 : decode bM_chance 23 = .ok (.aload_n 0, 1) := by decide +kernel
theorem dM_chance_24 : decode bM_chance 24 = .ok (.iload_n 1, 1) := by decide +kernel
theorem dM_chance_25 : decode bM_chance 25 = .ok (.invokevirtual 95, 3) := by decide +kernel
theorem dM_chance_28 : decode bM_chance 28 = .ok (.ifCond .eq 12, 3) := by decide +kernel
theorem dM_chance_31 : decode bM_chance 31 = .ok (.iload_n 2, 1) := by decide +kernel
theorem dM_chance_32 : decode bM_chance 32 = .ok (.ifCond .lt 8, 3) := by decide +kernel
theorem dM_chance_35 : decode bM_chance 35 = .ok (.iload_n 2, 1) := by decide +kernel
theorem dM_chance_36 : decode bM_chance 36 = .ok (.iconst 1, 1) := by decide +kernel
theorem dM_chance_37 : decode bM_chance 37 = .ok (.if_icmp .le 7, 3) := by decide +kernel
theorem dM_chance_40 : decode bM_chance 40 = .ok (.ldc2_w 98, 3) := by decide +kernel
theorem dM_chance_43 : decode bM_chance 43 = .ok (.lreturn, 1) := by decide +kernel
theorem dM_chance_44 : decode bM_chance 44 = .ok (.aload_n 0, 1) := by decide +kernel
theorem dM_chance_45 : decode bM_chance 45 = .ok (.iload_n 1, 1) := by decide +kernel
theorem dM_chance_46 : decode bM_chance 46 = .ok (.invokevirtual 95, 3) := by decide +kernel
theorem dM_chance_49 : decode bM_chance 49 = .ok (.istore_n 3, 1) := by decide +kernel
theorem dM_chance_50 : decode bM_chance 50 = .ok (.aload_n 0, 1) := by decide +kernel
theorem dM_chance_51 : decode bM_chance 51 = .ok (.getfield 9, 3) := by decide +kernel
theorem dM_chance_54 : decode bM_chance 54 = .ok (.iload_n 1, 1) := by decide +kernel
theorem dM_chance_55 : decode bM_chance 55 = .ok (.iaload, 1) := by decide +kernel
theorem dM_chance_56 : decode bM_chance 56 = .ok (.ifCond .ne 7, 3) := by decide +kernel
theorem dM_chance_59 : decode bM_chance 59 = .ok (.iconst 3, 1) := by decide +kernel
theorem dM_chance_60 : decode bM_chance 60 = .ok (.goto 4, 3) := by decide +kernel
theorem dM_chance_63 : decode bM_chance 63 = .ok (.iconst 2, 1) := by decide +kernel
theorem dM_chance_64 : decode bM_chance 64 = .ok (.istore 4, 2) := by decide +kernel
theorem dM_chance_66 : decode bM_chance 66 = .ok (.aload_n 0, 1) := by decide +kernel
theorem dM_chance_67 : decode bM_chance 67 = .ok (.iload_n 3, 1) := by decide +kernel
theorem dM_chance_68 : decode bM_chance 68 = .ok (.aload_n 0, 1) := by decide +kernel
theorem dM_chance_69 : decode bM_chance 69 = .ok (.iload_n 1, 1) := by decide +kernel
theorem dM_chance_70 : decode bM_chance 70 = .ok (.invokevirtual 92, 3) := by decide +kernel
theorem dM_chance_73 : decode bM_chance 73 = .ok (.iload 4, 2) := by decide +kernel
theorem dM_chance_75 : decode bM_chance 75 = .ok (.invokevirtual 100, 3) := by decide +kernel
theorem dM_chance_78 : decode bM_chance 78 = .ok (.iload 4, 2) := by decide +kernel
theorem dM_chance_80 : decode bM_chance 80 = .ok (.i2l, 1) := by decide +kernel
theorem dM_chance_81 : decode bM_chance 81 = .ok (.iload_n 3, 1) := by decide +kernel
theorem dM_chance_82 : decode bM_chance 82 = .ok (.invokestatic 104, 3) := by decide +kernel
theorem dM_chance_85 : decode bM_chance 85 = .ok (.iload_n 2, 1) := by decide +kernel
theorem dM_chance_86 : decode bM_chance 86 = .ok (.invokestatic 108, 3) := by decide +kernel
theorem dM_chance_89 : decode bM_chance 89 = .ok (.lreturn, 1) := by decide +kernel
theorem dM_answered_0 : decode bM_answered 0 = .ok (.iconst 0, 1) := by decide +kernel
theorem dM_answered_1 : decode bM_answered 1 = .ok (.istore_n 2, 1) := by decide +kernel
theorem dM_answered_2 : decode bM_answered 2 = .ok (.iconst 0, 1) := by decide +kernel
theorem dM_answered_3 : decode bM_answered 3 = .ok (.istore_n 3, 1) := by decide +kernel
theorem dM_answered_4 : decode bM_answered 4 = .ok (.iload_n 3, 1) := by decide +kernel
theorem dM_answered_5 : decode bM_answered 5 = .ok (.aload_n 0, 1) := by decide +kernel
theorem dM_answered_6 : decode bM_answered 6 = .ok (.getfield 43, 3) := by decide +kernel
theorem dM_answered_9 : decode bM_answered 9 = .ok (.if_icmp .ge 31, 3) := by decide +kernel
theorem dM_answered_12 : decode bM_answered 12 = .ok (.iload_n 2, 1) := by decide +kernel
theorem dM_answered_13 : decode bM_answered 13 = .ok (.aload_n 0, 1) := by decide +kernel
theorem dM_answered_14 : decode bM_answered 14 = .ok (.getfield 16, 3) := by decide +kernel
theorem dM_answered_17 : decode bM_answered 17 = .ok (.bipush 26, 2) := by decide +kernel
theorem dM_answered_19 : decode bM_answered 19 = .ok (.iload_n 1, 1) := by decide +kernel
theorem dM_answered_20 : decode bM_answered 20 = .ok (.imul, 1) := by decide +kernel
theorem dM_answered_21 : decode bM_answered 21 = .ok (.iload_n 3, 1) := by decide +kernel
theorem dM_answered_22 : decode bM_answered 22 = .ok (.iadd, 1) := by decide +kernel
theorem dM_answered_23 : decode bM_answered 23 = .ok (.iaload, 1) := by decide +kernel
theorem dM_answered_24 : decode bM_answered 24 = .ok (.ifCond .le 7, 3) := by decide +kernel
theorem dM_answered_27 : decode bM_answered 27 = .ok (.iconst 1, 1) := by decide +kernel
theorem dM_answered_28 : decode bM_answered 28 = .ok (.goto 4, 3) := by decide +kernel
theorem dM_answered_31 : decode bM_answered 31 = .ok (.iconst 0, 1) := by decide +kernel
theorem dM_answered_32 : decode bM_answered 32 = .ok (.iadd, 1) := by decide +kernel
theorem dM_answered_33 : decode bM_answered 33 = .ok (.istore_n 2, 1) := by decide +kernel
theorem dM_answered_34 : decode bM_answered 34 = .ok (.iinc 3 1, 3) := by decide +kernel
theorem dM_answered_37 : decode bM_answered 37 = .ok (.goto (-33), 3) := by decide +kernel
theorem dM_answered_40 : decode bM_answered 40 = .ok (.iload_n 2, 1) := by decide +kernel
theorem dM_answered_41 : decode bM_answered 41 = .ok (.ireturn, 1) := by decide +kernel
theorem dM_atLeast_0 : decode bM_atLeast 0 = .ok (.iconst 0, 1) := by decide +kernel
theorem dM_atLeast_1 : decode bM_atLeast 1 = .ok (.istore 4, 2) := by decide +kernel
theorem dM_atLeast_3 : decode bM_atLeast 3 = .ok (.iload 4, 2) := by decide +kernel
theorem dM_atLeast_5 : decode bM_atLeast 5 = .ok (.iload_n 1, 1) := by decide +kernel
theorem dM_atLeast_6 : decode bM_atLeast 6 = .ok (.if_icmp .gt 26, 3) := by decide +kernel
theorem dM_atLeast_9 : decode bM_atLeast 9 = .ok (.aload_n 0, 1) := by decide +kernel
theorem dM_atLeast_10 : decode bM_atLeast 10 = .ok (.getfield 28, 3) := by decide +kernel
theorem dM_atLeast_13 : decode bM_atLeast 13 = .ok (.iload 4, 2) := by decide +kernel
theorem dM_atLeast_15 : decode bM_atLeast 15 = .ok (.iload 4, 2) := by decide +kernel
theorem dM_atLeast_17 : decode bM_atLeast 17 = .ok (.ifCond .ne 7, 3) := by decide +kernel
theorem dM_atLeast_20 : decode bM_atLeast 20 = .ok (.lconst 1, 1) := by decide +kernel
theorem dM_atLeast_21 : decode bM_atLeast 21 = .ok (.goto 4, 3) := by decide +kernel
theorem dM_atLeast_24 : decode bM_atLeast 24 = .ok (.lconst 0, 1) := by decide +kernel
theorem dM_atLeast_25 : decode bM_atLeast 25 = .ok (.lastore, 1) := by decide +kernel
theorem dM_atLeast_26 : decode bM_atLeast 26 = .ok (.iinc 4 1, 3) := by decide +kernel
theorem dM_atLeast_29 : decode bM_atLeast 29 = .ok (.goto (-26), 3) := by decide +kernel
theorem dM_atLeast_32 : decode bM_atLeast 32 = .ok (.iconst 0, 1) := by decide +kernel
theorem dM_atLeast_33 : decode bM_atLeast 33 = .ok (.istore 4, 2) := by decide +kernel
theorem dM_atLeast_35 : decode bM_atLeast 35 = .ok (.iload 4, 2) := by decide +kernel
theorem dM_atLeast_37 : decode bM_atLeast 37 = .ok (.iload_n 1, 1) := by decide +kernel
theorem dM_atLeast_38 : decode bM_atLeast 38 = .ok (.if_icmp .ge 61, 3) := by decide +kernel
theorem dM_atLeast_41 : decode bM_atLeast 41 = .ok (.iload_n 1, 1) := by decide +kernel
theorem dM_atLeast_42 : decode bM_atLeast 42 = .ok (.istore 5, 2) := by decide +kernel
theorem dM_atLeast_44 : decode bM_atLeast 44 = .ok (.iload 5, 2) := by decide +kernel
theorem dM_atLeast_46 : decode bM_atLeast 46 = .ok (.ifCond .lt 47, 3) := by decide +kernel
theorem dM_atLeast_49 : decode bM_atLeast 49 = .ok (.aload_n 0, 1) := by decide +kernel
theorem dM_atLeast_50 : decode bM_atLeast 50 = .ok (.getfield 28, 3) := by decide +kernel
theorem dM_atLeast_53 : decode bM_atLeast 53 = .ok (.iload 5, 2) := by decide +kernel
theorem dM_atLeast_55 : decode bM_atLeast 55 = .ok (.aload_n 0, 1) := by decide +kernel
theorem dM_atLeast_56 : decode bM_atLeast 56 = .ok (.getfield 28, 3) := by decide +kernel
theorem dM_atLeast_59 : decode bM_atLeast 59 = .ok (.iload 5, 2) := by decide +kernel
theorem dM_atLeast_61 : decode bM_atLeast 61 = .ok (.laload, 1) := by decide +kernel
theorem dM_atLeast_62 : decode bM_atLeast 62 = .ok (.iload_n 3, 1) := by decide +kernel
theorem dM_atLeast_63 : decode bM_atLeast 63 = .ok (.iconst 1, 1) := by decide +kernel
theorem dM_atLeast_64 : decode bM_atLeast 64 = .ok (.isub, 1) := by decide +kernel
theorem dM_atLeast_65 : decode bM_atLeast 65 = .ok (.i2l, 1) := by decide +kernel
theorem dM_atLeast_66 : decode bM_atLeast 66 = .ok (.lmul, 1) := by decide +kernel
theorem dM_atLeast_67 : decode bM_atLeast 67 = .ok (.iload 5, 2) := by decide +kernel
theorem dM_atLeast_69 : decode bM_atLeast 69 = .ok (.ifCond .le 15, 3) := by decide +kernel
theorem dM_atLeast_72 : decode bM_atLeast 72 = .ok (.aload_n 0, 1) := by decide +kernel
theorem dM_atLeast_73 : decode bM_atLeast 73 = .ok (.getfield 28, 3) := by decide +kernel
theorem dM_atLeast_76 : decode bM_atLeast 76 = .ok (.iload 5, 2) := by decide +kernel
theorem dM_atLeast_78 : decode bM_atLeast 78 = .ok (.iconst 1, 1) := by decide +kernel
theorem dM_atLeast_79 : decode bM_atLeast 79 = .ok (.isub, 1) := by decide +kernel
theorem dM_atLeast_80 : decode bM_atLeast 80 = .ok (.laload, 1) := by decide +kernel
theorem dM_atLeast_81 : decode bM_atLeast 81 = .ok (.goto 4, 3) := by decide +kernel
theorem dM_atLeast_84 : decode bM_atLeast 84 = .ok (.lconst 0, 1) := by decide +kernel
theorem dM_atLeast_85 : decode bM_atLeast 85 = .ok (.ladd, 1) := by decide +kernel
theorem dM_atLeast_86 : decode bM_atLeast 86 = .ok (.lastore, 1) := by decide +kernel
theorem dM_atLeast_87 : decode bM_atLeast 87 = .ok (.iinc 5 (-1), 3) := by decide +kernel
theorem dM_atLeast_90 : decode bM_atLeast 90 = .ok (.goto (-46), 3) := by decide +kernel
theorem dM_atLeast_93 : decode bM_atLeast 93 = .ok (.iinc 4 1, 3) := by decide +kernel
theorem dM_atLeast_96 : decode bM_atLeast 96 = .ok (.goto (-61), 3) := by decide +kernel
theorem dM_atLeast_99 : decode bM_atLeast 99 = .ok (.lconst 0, 1) := by decide +kernel
theorem dM_atLeast_100 : decode bM_atLeast 100 = .ok (.lstore 4, 2) := by decide +kernel
theorem dM_atLeast_102 : decode bM_atLeast 102 = .ok (.iload_n 2, 1) := by decide +kernel
theorem dM_atLeast_103 : decode bM_atLeast 103 = .ok (.istore 6, 2) := by decide +kernel
theorem dM_atLeast_105 : decode bM_atLeast 105 = .ok (.iload 6, 2) := by decide +kernel
theorem dM_atLeast_107 : decode bM_atLeast 107 = .ok (.iload_n 1, 1) := by decide +kernel
theorem dM_atLeast_108 : decode bM_atLeast 108 = .ok (.if_icmp .gt 21, 3) := by decide +kernel
theorem dM_atLeast_111 : decode bM_atLeast 111 = .ok (.lload 4, 2) := by decide +kernel
theorem dM_atLeast_113 : decode bM_atLeast 113 = .ok (.aload_n 0, 1) := by decide +kernel
theorem dM_atLeast_114 : decode bM_atLeast 114 = .ok (.getfield 28, 3) := by decide +kernel
theorem dM_atLeast_117 : decode bM_atLeast 117 = .ok (.iload 6, 2) := by decide +kernel
theorem dM_atLeast_119 : decode bM_atLeast 119 = .ok (.laload, 1) := by decide +kernel
theorem dM_atLeast_120 : decode bM_atLeast 120 = .ok (.ladd, 1) := by decide +kernel
theorem dM_atLeast_121 : decode bM_atLeast 121 = .ok (.lstore 4, 2) := by decide +kernel
theorem dM_atLeast_123 : decode bM_atLeast 123 = .ok (.iinc 6 1, 3) := by decide +kernel
theorem dM_atLeast_126 : decode bM_atLeast 126 = .ok (.goto (-21), 3) := by decide +kernel
theorem dM_atLeast_129 : decode bM_atLeast 129 = .ok (.lload 4, 2) := by decide +kernel
theorem dM_atLeast_131 : decode bM_atLeast 131 = .ok (.lreturn, 1) := by decide +kernel
end
section
theorem dM_power_0 : decode bM_power 0 = .ok (.lconst 1, 1) := by decide +kernel
theorem dM_power_1 : decode bM_power 1 = .ok (.lstore_n 3, 1) := by decide +kernel
theorem dM_power_2 : decode bM_power 2 = .ok (.iconst 0, 1) := by decide +kernel
theorem dM_power_3 : decode bM_power 3 = .ok (.istore 5, 2) := by decide +kernel
theorem dM_power_5 : decode bM_power 5 = .ok (.iload 5, 2) := by decide +kernel
theorem dM_power_7 : decode bM_power 7 = .ok (.iload_n 2, 1) := by decide +kernel
theorem dM_power_8 : decode bM_power 8 = .ok (.if_icmp .ge 13, 3) := by decide +kernel
theorem dM_power_11 : decode bM_power 11 = .ok (.lload_n 3, 1) := by decide +kernel
theorem dM_power_12 : decode bM_power 12 = .ok (.lload_n 0, 1) := by decide +kernel
theorem dM_power_13 : decode bM_power 13 = .ok (.lmul, 1) := by decide +kernel
theorem dM_power_14 : decode bM_power 14 = .ok (.lstore_n 3, 1) := by decide +kernel
theorem dM_power_15 : decode bM_power 15 = .ok (.iinc 5 1, 3) := by decide +kernel
theorem dM_power_18 : decode bM_power 18 = .ok (.goto (-13), 3) := by decide +kernel
theorem dM_power_21 : decode bM_power 21 = .ok (.lload_n 3, 1) := by decide +kernel
theorem dM_power_22 : decode bM_power 22 = .ok (.lreturn, 1) := by decide +kernel
theorem dM_reduced_0 : decode bM_reduced 0 = .ok (.lload_n 2, 1) := by decide +kernel
theorem dM_reduced_1 : decode bM_reduced 1 = .ok (.lstore 5, 2) := by decide +kernel
theorem dM_reduced_3 : decode bM_reduced 3 = .ok (.lload_n 0, 1) := by decide +kernel
theorem dM_reduced_4 : decode bM_reduced 4 = .ok (.lstore 7, 2) := by decide +kernel
theorem dM_reduced_6 : decode bM_reduced 6 = .ok (.lload 7, 2) := by decide +kernel
theorem dM_reduced_8 : decode bM_reduced 8 = .ok (.lconst 0, 1) := by decide +kernel
theorem dM_reduced_9 : decode bM_reduced 9 = .ok (.lcmp, 1) := by decide +kernel
theorem dM_reduced_10 : decode bM_reduced 10 = .ok (.ifCond .le 21, 3) := by decide +kernel
theorem dM_reduced_13 : decode bM_reduced 13 = .ok (.lload 5, 2) := by decide +kernel
theorem dM_reduced_15 : decode bM_reduced 15 = .ok (.lload 7, 2) := by decide +kernel
theorem dM_reduced_17 : decode bM_reduced 17 = .ok (.lrem, 1) := by decide +kernel
theorem dM_reduced_18 : decode bM_reduced 18 = .ok (.lstore 9, 2) := by decide +kernel
theorem dM_reduced_20 : decode bM_reduced 20 = .ok (.lload 7, 2) := by decide +kernel
theorem dM_reduced_22 : decode bM_reduced 22 = .ok (.lstore 5, 2) := by decide +kernel
theorem dM_reduced_24 : decode bM_reduced 24 = .ok (.lload 9, 2) := by decide +kernel
theorem dM_reduced_26 : decode bM_reduced 26 = .ok (.lstore 7, 2) := by decide +kernel
theorem dM_reduced_28 : decode bM_reduced 28 = .ok (.goto (-22), 3) := by decide +kernel
theorem dM_reduced_31 : decode bM_reduced 31 = .ok (.iload 4, 2) := by decide +kernel
theorem dM_reduced_33 : decode bM_reduced 33 = .ok (.ifCond .ne 10, 3) := by decide +kernel
theorem dM_reduced_36 : decode bM_reduced 36 = .ok (.lload_n 0, 1) := by decide +kernel
theorem dM_reduced_37 : decode bM_reduced 37 = .ok (.lload 5, 2) := by decide +kernel
theorem dM_reduced_39 : decode bM_reduced 39 = .ok (.ldiv, 1) := by decide +kernel
theorem dM_reduced_40 : decode bM_reduced 40 = .ok (.goto 7, 3) := by decide +kernel
theorem dM_reduced_43 : decode bM_reduced 43 = .ok (.lload_n 2, 1) := by decide +kernel
theorem dM_reduced_44 : decode bM_reduced 44 = .ok (.lload 5, 2) := by decide +kernel
theorem dM_reduced_46 : decode bM_reduced 46 = .ok (.ldiv, 1) := by decide +kernel
theorem dM_reduced_47 : decode bM_reduced 47 = .ok (.lreturn, 1) := by decide +kernel
theorem dM_rank_0 : decode bM_rank 0 = .ok (.aload_n 0, 1) := by decide +kernel
theorem dM_rank_1 : decode bM_rank 1 = .ok (.iconst 0, 1) := by decide +kernel
theorem dM_rank_2 : decode bM_rank 2 = .ok (.putfield 39, 3) := by decide +kernel
theorem dM_rank_5 : decode bM_rank 5 = .ok (.aload_n 0, 1) := by decide +kernel
theorem dM_rank_6 : decode bM_rank 6 = .ok (.iload_n 1, 1) := by decide +kernel
theorem dM_rank_7 : decode bM_rank 7 = .ok (.invokevirtual 61, 3) := by decide +kernel
theorem dM_rank_10 : decode bM_rank 10 = .ok (.ifCond .eq 52, 3) := by decide +kernel
theorem dM_rank_13 : decode bM_rank 13 = .ok (.aload_n 0, 1) := by decide +kernel
theorem dM_rank_14 : decode bM_rank 14 = .ok (.getfield 9, 3) := by decide +kernel
theorem dM_rank_17 : decode bM_rank 17 = .ok (.iload_n 1, 1) := by decide +kernel
theorem dM_rank_18 : decode bM_rank 18 = .ok (.iaload, 1) := by decide +kernel
theorem dM_rank_19 : decode bM_rank 19 = .ok (.iconst 3, 1) := by decide +kernel
theorem dM_rank_20 : decode bM_rank 20 = .ok (.if_icmp .ne 42, 3) := by decide +kernel
theorem dM_rank_23 : decode bM_rank 23 = .ok (.aload_n 0, 1) := by decide +kernel
theorem dM_rank_24 : decode bM_rank 24 = .ok (.iload_n 2, 1) := by decide +kernel
theorem dM_rank_25 : decode bM_rank 25 = .ok (.invokevirtual 65, 3) := by decide +kernel
theorem dM_rank_28 : decode bM_rank 28 = .ok (.ifCond .eq 34, 3) := by decide +kernel
theorem dM_rank_31 : decode bM_rank 31 = .ok (.iload_n 3, 1) := by decide +kernel
theorem dM_rank_32 : decode bM_rank 32 = .ok (.ifCond .lt 30, 3) := by decide +kernel
theorem dM_rank_35 : decode bM_rank 35 = .ok (.iload_n 3, 1) := by decide +kernel
theorem dM_rank_36 : decode bM_rank 36 = .ok (.aload_n 0, 1) := by decide +kernel
theorem dM_rank_37 : decode bM_rank 37 = .ok (.getfield 13, 3) := by decide +kernel
theorem dM_rank_40 : decode bM_rank 40 = .ok (.iload_n 1, 1) := by decide +kernel
theorem dM_rank_41 : decode bM_rank 41 = .ok (.iaload, 1) := by decide +kernel
theorem dM_rank_42 : decode bM_rank 42 = .ok (.if_icmp .ge 20, 3) := by decide +kernel
theorem dM_rank_45 : decode bM_rank 45 = .ok (.iload 4, 2) := by decide +kernel
theorem dM_rank_47 : decode bM_rank 47 = .ok (.iconst 1, 1) := by decide +kernel
theorem dM_rank_48 : decode bM_rank 48 = .ok (.if_icmp .lt 14, 3) := by decide +kernel
theorem dM_rank_51 : decode bM_rank 51 = .ok (.iload 4, 2) := by decide +kernel
theorem dM_rank_53 : decode bM_rank 53 = .ok (.aload_n 0, 1) := by decide +kernel
theorem dM_rank_54 : decode bM_rank 54 = .ok (.getfield 13, 3) := by decide +kernel
theorem dM_rank_57 : decode bM_rank 57 = .ok (.iload_n 1, 1) := by decide +kernel
theorem dM_rank_58 : decode bM_rank 58 = .ok (.iaload, 1) := by decide +kernel
theorem dM_rank_59 : decode bM_rank 59 = .ok (.if_icmp .le 5, 3) := by decide +kernel
theorem dM_rank_62 : decode bM_rank 62 = .ok (.iconst 0, 1) := by decide +kernel
theorem dM_rank_63 : decode bM_rank 63 = .ok (.ireturn, 1) := by decide +kernel
theorem dM_rank_64 : decode bM_rank 64 = .ok (.iconst 5, 1) := by decide +kernel
theorem dM_rank_65 : decode bM_rank 65 = .ok (.bipush 26, 2) := by decide +kernel
theorem dM_rank_67 : decode bM_rank 67 = .ok (.iload_n 1, 1) := by decide +kernel
theorem dM_rank_68 : decode bM_rank 68 = .ok (.imul, 1) := by decide +kernel
theorem dM_rank_69 : decode bM_rank 69 = .ok (.iload_n 2, 1) := by decide +kernel
theorem dM_rank_70 : decode bM_rank 70 = .ok (.iadd, 1) := by decide +kernel
theorem dM_rank_71 : decode bM_rank 71 = .ok (.imul, 1) := by decide +kernel
theorem dM_rank_72 : decode bM_rank 72 = .ok (.istore 5, 2) := by decide +kernel
theorem dM_rank_74 : decode bM_rank 74 = .ok (.aload_n 0, 1) := by decide +kernel
theorem dM_rank_75 : decode bM_rank 75 = .ok (.getfield 19, 3) := by decide +kernel
theorem dM_rank_78 : decode bM_rank 78 = .ok (.iload 5, 2) := by decide +kernel
theorem dM_rank_80 : decode bM_rank 80 = .ok (.iload_n 3, 1) := by decide +kernel
theorem dM_rank_81 : decode bM_rank 81 = .ok (.iadd, 1) := by decide +kernel
theorem dM_rank_82 : decode bM_rank 82 = .ok (.iaload, 1) := by decide +kernel
theorem dM_rank_83 : decode bM_rank 83 = .ok (.ifCond .ne 7, 3) := by decide +kernel
theorem dM_rank_86 : decode bM_rank 86 = .ok (.iconst 1, 1) := by decide +kernel
theorem dM_rank_87 : decode bM_rank 87 = .ok (.goto 4, 3) := by decide +kernel
theorem dM_rank_90 : decode bM_rank 90 = .ok (.iconst 0, 1) := by decide +kernel
theorem dM_rank_91 : decode bM_rank 91 = .ok (.istore 6, 2) := by decide +kernel
theorem dM_rank_93 : decode bM_rank 93 = .ok (.iconst 0, 1) := by decide +kernel
theorem dM_rank_94 : decode bM_rank 94 = .ok (.istore 7, 2) := by decide +kernel
theorem dM_rank_96 : decode bM_rank 96 = .ok (.iload 7, 2) := by decide +kernel
theorem dM_rank_98 : decode bM_rank 98 = .ok (.iconst 5, 1) := by decide +kernel
theorem dM_rank_99 : decode bM_rank 99 = .ok (.if_icmp .ge 36, 3) := by decide +kernel
theorem dM_rank_102 : decode bM_rank 102 = .ok (.iload 6, 2) := by decide +kernel
theorem dM_rank_104 : decode bM_rank 104 = .ok (.ifCond .eq 22, 3) := by decide +kernel
theorem dM_rank_107 : decode bM_rank 107 = .ok (.aload_n 0, 1) := by decide +kernel
theorem dM_rank_108 : decode bM_rank 108 = .ok (.getfield 19, 3) := by decide +kernel
theorem dM_rank_111 : decode bM_rank 111 = .ok (.iload 5, 2) := by decide +kernel
theorem dM_rank_113 : decode bM_rank 113 = .ok (.iload 7, 2) := by decide +kernel
theorem dM_rank_115 : decode bM_rank 115 = .ok (.iadd, 1) := by decide +kernel
theorem dM_rank_116 : decode bM_rank 116 = .ok (.iaload, 1) := by decide +kernel
theorem dM_rank_117 : decode bM_rank 117 = .ok (.iload 4, 2) := by decide +kernel
theorem dM_rank_119 : decode bM_rank 119 = .ok (.if_icmp .eq 7, 3) := by decide +kernel
theorem dM_rank_122 : decode bM_rank 122 = .ok (.iconst 1, 1) := by decide +kernel
theorem dM_rank_123 : decode bM_rank 123 = .ok (.goto 4, 3) := by decide +kernel
theorem dM_rank_126 : decode bM_rank 126 = .ok (.iconst 0, 1) := by decide +kernel
theorem dM_rank_127 : decode bM_rank 127 = .ok (.istore 6, 2) := by decide +kernel
theorem dM_rank_129 : decode bM_rank 129 = .ok (.iinc 7 1, 3) := by decide +kernel
theorem dM_rank_132 : decode bM_rank 132 = .ok (.goto (-36), 3) := by decide +kernel
theorem dM_rank_135 : decode bM_rank 135 = .ok (.iload 6, 2) := by decide +kernel
theorem dM_rank_137 : decode bM_rank 137 = .ok (.ifCond .eq 14, 3) := by decide +kernel
theorem dM_rank_140 : decode bM_rank 140 = .ok (.aload_n 0, 1) := by decide +kernel
theorem dM_rank_141 : decode bM_rank 141 = .ok (.getfield 19, 3) := by decide +kernel
theorem dM_rank_144 : decode bM_rank 144 = .ok (.iload 5, 2) := by decide +kernel
theorem dM_rank_146 : decode bM_rank 146 = .ok (.iload_n 3, 1) := by decide +kernel
theorem dM_rank_147 : decode bM_rank 147 = .ok (.iadd, 1) := by decide +kernel
theorem dM_rank_148 : decode bM_rank 148 = .ok (.iload 4, 2) := by decide +kernel
theorem dM_rank_150 : decode bM_rank 150 = .ok (.iastore, 1) := by decide +kernel
theorem dM_rank_151 : decode bM_rank 151 = .ok (.iload 6, 2) := by decide +kernel
theorem dM_rank_153 : decode bM_rank 153 = .ok (.ireturn, 1) := by decide +kernel
theorem dM_permuted_0 : decode bM_permuted 0 = .ok (.aload_n 0, 1) := by decide +kernel
theorem dM_permuted_1 : decode bM_permuted 1 = .ok (.iconst 0, 1) := by decide +kernel
theorem dM_permuted_2 : decode bM_permuted 2 = .ok (.putfield 39, 3) := by decide +kernel
theorem dM_permuted_5 : decode bM_permuted 5 = .ok (.aload_n 0, 1) := by decide +kernel
theorem dM_permuted_6 : decode bM_permuted 6 = .ok (.iload_n 1, 1) := by decide +kernel
theorem dM_permuted_7 : decode bM_permuted 7 = .ok (.invokevirtual 61, 3) := by decide +kernel
theorem dM_permuted_10 : decode bM_permuted 10 = .ok (.ifCond .eq 22, 3) := by decide +kernel
theorem dM_permuted_13 : decode bM_permuted 13 = .ok (.aload_n 0, 1) := by decide +kernel
theorem dM_permuted_14 : decode bM_permuted 14 = .ok (.getfield 9, 3) := by decide +kernel
theorem dM_permuted_17 : decode bM_permuted 17 = .ok (.iload_n 1, 1) := by decide +kernel
theorem dM_permuted_18 : decode bM_permuted 18 = .ok (.iaload, 1) := by decide +kernel
theorem dM_permuted_19 : decode bM_permuted 19 = .ok (.iconst 3, 1) := by decide +kernel
theorem dM_permuted_20 : decode bM_permuted 20 = .ok (.if_icmp .ne 12, 3) := by decide +kernel
theorem dM_permuted_23 : decode bM_permuted 23 = .ok (.iload_n 2, 1) := by decide +kernel
theorem dM_permuted_24 : decode bM_permuted 24 = .ok (.ifCond .lt 8, 3) := by decide +kernel
theorem dM_permuted_27 : decode bM_permuted 27 = .ok (.iload_n 2, 1) := by decide +kernel
theorem dM_permuted_28 : decode bM_permuted 28 = .ok (.iconst 1, 1) := by decide +kernel
theorem dM_permuted_29 : decode bM_permuted 29 = .ok (.if_icmp .le 7, 3) := by decide +kernel
theorem dM_permuted_32 : decode bM_permuted 32 = .ok (.ldc2_w 98, 3) := by decide +kernel
theorem dM_permuted_35 : decode bM_permuted 35 = .ok (.lreturn, 1) := by decide +kernel
theorem dM_permuted_36 : decode bM_permuted 36 = .ok (.aload_n 0, 1) := by decide +kernel
theorem dM_permuted_37 : decode bM_permuted 37 = .ok (.getfield 13, 3) := by decide +kernel
theorem dM_permuted_40 : decode bM_permuted 40 = .ok (.iload_n 1, 1) := by decide +kernel
theorem dM_permuted_41 : decode bM_permuted 41 = .ok (.iaload, 1) := by decide +kernel
theorem dM_permuted_42 : decode bM_permuted 42 = .ok (.istore_n 3, 1) := by decide +kernel
theorem dM_permuted_43 : decode bM_permuted 43 = .ok (.iconst 0, 1) := by decide +kernel
theorem dM_permuted_44 : decode bM_permuted 44 = .ok (.istore 4, 2) := by decide +kernel
theorem dM_permuted_46 : decode bM_permuted 46 = .ok (.iconst 0, 1) := by decide +kernel
theorem dM_permuted_47 : decode bM_permuted 47 = .ok (.istore 5, 2) := by decide +kernel
theorem dM_permuted_49 : decode bM_permuted 49 = .ok (.iconst 0, 1) := by decide +kernel
theorem dM_permuted_50 : decode bM_permuted 50 = .ok (.istore 6, 2) := by decide +kernel
theorem dM_permuted_52 : decode bM_permuted 52 = .ok (.iload 6, 2) := by decide +kernel
theorem dM_permuted_54 : decode bM_permuted 54 = .ok (.aload_n 0, 1) := by decide +kernel
theorem dM_permuted_55 : decode bM_permuted 55 = .ok (.getfield 43, 3) := by decide +kernel
theorem dM_permuted_58 : decode bM_permuted 58 = .ok (.if_icmp .ge 99, 3) := by decide +kernel
theorem dM_permuted_61 : decode bM_permuted 61 = .ok (.iconst 5, 1) := by decide +kernel
theorem dM_permuted_62 : decode bM_permuted 62 = .ok (.bipush 26, 2) := by decide +kernel
theorem dM_permuted_64 : decode bM_permuted 64 = .ok (.iload_n 1, 1) := by decide +kernel
theorem dM_permuted_65 : decode bM_permuted 65 = .ok (.imul, 1) := by decide +kernel
theorem dM_permuted_66 : decode bM_permuted 66 = .ok (.iload 6, 2) := by decide +kernel
theorem dM_permuted_68 : decode bM_permuted 68 = .ok (.iadd, 1) := by decide +kernel
theorem dM_permuted_69 : decode bM_permuted 69 = .ok (.imul, 1) := by decide +kernel
theorem dM_permuted_70 : decode bM_permuted 70 = .ok (.istore 7, 2) := by decide +kernel
theorem dM_permuted_72 : decode bM_permuted 72 = .ok (.iconst 1, 1) := by decide +kernel
theorem dM_permuted_73 : decode bM_permuted 73 = .ok (.istore 8, 2) := by decide +kernel
theorem dM_permuted_75 : decode bM_permuted 75 = .ok (.iconst 0, 1) := by decide +kernel
theorem dM_permuted_76 : decode bM_permuted 76 = .ok (.istore 9, 2) := by decide +kernel
theorem dM_permuted_78 : decode bM_permuted 78 = .ok (.iload 9, 2) := by decide +kernel
theorem dM_permuted_80 : decode bM_permuted 80 = .ok (.iload_n 3, 1) := by decide +kernel
theorem dM_permuted_81 : decode bM_permuted 81 = .ok (.if_icmp .ge 34, 3) := by decide +kernel
theorem dM_permuted_84 : decode bM_permuted 84 = .ok (.iload 8, 2) := by decide +kernel
theorem dM_permuted_86 : decode bM_permuted 86 = .ok (.ifCond .eq 20, 3) := by decide +kernel
theorem dM_permuted_89 : decode bM_permuted 89 = .ok (.aload_n 0, 1) := by decide +kernel
theorem dM_permuted_90 : decode bM_permuted 90 = .ok (.getfield 19, 3) := by decide +kernel
theorem dM_permuted_93 : decode bM_permuted 93 = .ok (.iload 7, 2) := by decide +kernel
theorem dM_permuted_95 : decode bM_permuted 95 = .ok (.iload 9, 2) := by decide +kernel
theorem dM_permuted_97 : decode bM_permuted 97 = .ok (.iadd, 1) := by decide +kernel
theorem dM_permuted_98 : decode bM_permuted 98 = .ok (.iaload, 1) := by decide +kernel
theorem dM_permuted_99 : decode bM_permuted 99 = .ok (.ifCond .le 7, 3) := by decide +kernel
theorem dM_permuted_102 : decode bM_permuted 102 = .ok (.iconst 1, 1) := by decide +kernel
theorem dM_permuted_103 : decode bM_permuted 103 = .ok (.goto 4, 3) := by decide +kernel
theorem dM_permuted_106 : decode bM_permuted 106 = .ok (.iconst 0, 1) := by decide +kernel
theorem dM_permuted_107 : decode bM_permuted 107 = .ok (.istore 8, 2) := by decide +kernel
theorem dM_permuted_109 : decode bM_permuted 109 = .ok (.iinc 9 1, 3) := by decide +kernel
theorem dM_permuted_112 : decode bM_permuted 112 = .ok (.goto (-34), 3) := by decide +kernel
theorem dM_permuted_115 : decode bM_permuted 115 = .ok (.iload 4, 2) := by decide +kernel
theorem dM_permuted_117 : decode bM_permuted 117 = .ok (.iload 8, 2) := by decide +kernel
theorem dM_permuted_119 : decode bM_permuted 119 = .ok (.ifCond .eq 7, 3) := by decide +kernel
theorem dM_permuted_122 : decode bM_permuted 122 = .ok (.iconst 1, 1) := by decide +kernel
theorem dM_permuted_123 : decode bM_permuted 123 = .ok (.goto 4, 3) := by decide +kernel
theorem dM_permuted_126 : decode bM_permuted 126 = .ok (.iconst 0, 1) := by decide +kernel
theorem dM_permuted_127 : decode bM_permuted 127 = .ok (.iadd, 1) := by decide +kernel
theorem dM_permuted_128 : decode bM_permuted 128 = .ok (.istore 4, 2) := by decide +kernel
theorem dM_permuted_130 : decode bM_permuted 130 = .ok (.iload 5, 2) := by decide +kernel
theorem dM_permuted_132 : decode bM_permuted 132 = .ok (.iload 8, 2) := by decide +kernel
theorem dM_permuted_134 : decode bM_permuted 134 = .ok (.ifCond .eq 13, 3) := by decide +kernel
theorem dM_permuted_137 : decode bM_permuted 137 = .ok (.aload_n 0, 1) := by decide +kernel
theorem dM_permuted_138 : decode bM_permuted 138 = .ok (.getfield 19, 3) := by decide +kernel
theorem dM_permuted_141 : decode bM_permuted 141 = .ok (.iload 7, 2) := by decide +kernel
theorem dM_permuted_143 : decode bM_permuted 143 = .ok (.iaload, 1) := by decide +kernel
theorem dM_permuted_144 : decode bM_permuted 144 = .ok (.goto 4, 3) := by decide +kernel
theorem dM_permuted_147 : decode bM_permuted 147 = .ok (.iconst 0, 1) := by decide +kernel
theorem dM_permuted_148 : decode bM_permuted 148 = .ok (.iadd, 1) := by decide +kernel
theorem dM_permuted_149 : decode bM_permuted 149 = .ok (.istore 5, 2) := by decide +kernel
theorem dM_permuted_151 : decode bM_permuted 151 = .ok (.iinc 6 1, 3) := by decide +kernel
theorem dM_permuted_154 : decode bM_permuted 154 = .ok (.goto (-102), 3) := by decide +kernel
theorem dM_permuted_157 : decode bM_permuted 157 = .ok (.iload 4, 2) := by decide +kernel
theorem dM_permuted_159 : decode bM_permuted 159 = .ok (.ifCond .ne 7, 3) := by decide +kernel
theorem dM_permuted_162 : decode bM_permuted 162 = .ok (.ldc2_w 98, 3) := by decide +kernel
theorem dM_permuted_165 : decode bM_permuted 165 = .ok (.lreturn, 1) := by decide +kernel
theorem dM_permuted_166 : decode bM_permuted 166 = .ok (.iconst 0, 1) := by decide +kernel
theorem dM_permuted_167 : decode bM_permuted 167 = .ok (.istore 6, 2) := by decide +kernel
theorem dM_permuted_169 : decode bM_permuted 169 = .ok (.iload 6, 2) := by decide +kernel
theorem dM_permuted_171 : decode bM_permuted 171 = .ok (.iconst 5, 1) := by decide +kernel
theorem dM_permuted_172 : decode bM_permuted 172 = .ok (.iload 4, 2) := by decide +kernel
theorem dM_permuted_174 : decode bM_permuted 174 = .ok (.imul, 1) := by decide +kernel
theorem dM_permuted_175 : decode bM_permuted 175 = .ok (.if_icmp .gt 26, 3) := by decide +kernel
theorem dM_permuted_178 : decode bM_permuted 178 = .ok (.aload_n 0, 1) := by decide +kernel
theorem dM_permuted_179 : decode bM_permuted 179 = .ok (.getfield 28, 3) := by decide +kernel
theorem dM_permuted_182 : decode bM_permuted 182 = .ok (.iload 6, 2) := by decide +kernel
theorem dM_permuted_184 : decode bM_permuted 184 = .ok (.iload 6, 2) := by decide +kernel
theorem dM_permuted_186 : decode bM_permuted 186 = .ok (.ifCond .ne 7, 3) := by decide +kernel
theorem dM_permuted_189 : decode bM_permuted 189 = .ok (.lconst 1, 1) := by decide +kernel
theorem dM_permuted_190 : decode bM_permuted 190 = .ok (.goto 4, 3) := by decide +kernel
theorem dM_permuted_193 : decode bM_permuted 193 = .ok (.lconst 0, 1) := by decide +kernel
theorem dM_permuted_194 : decode bM_permuted 194 = .ok (.lastore, 1) := by decide +kernel
theorem dM_permuted_195 : decode bM_permuted 195 = .ok (.iinc 6 1, 3) := by decide +kernel
theorem dM_permuted_198 : decode bM_permuted 198 = .ok (.goto (-29), 3) := by decide +kernel
theorem dM_permuted_201 : decode bM_permuted 201 = .ok (.iconst 0, 1) := by decide +kernel
theorem dM_permuted_202 : decode bM_permuted 202 = .ok (.istore 6, 2) := by decide +kernel
theorem dM_permuted_204 : decode bM_permuted 204 = .ok (.iload 6, 2) := by decide +kernel
theorem dM_permuted_206 : decode bM_permuted 206 = .ok (.iload 4, 2) := by decide +kernel
theorem dM_permuted_208 : decode bM_permuted 208 = .ok (.if_icmp .ge 96, 3) := by decide +kernel
theorem dM_permuted_211 : decode bM_permuted 211 = .ok (.iconst 0, 1) := by decide +kernel
theorem dM_permuted_212 : decode bM_permuted 212 = .ok (.istore 7, 2) := by decide +kernel
theorem dM_permuted_214 : decode bM_permuted 214 = .ok (.iload 7, 2) := by decide +kernel
theorem dM_permuted_216 : decode bM_permuted 216 = .ok (.iconst 5, 1) := by decide +kernel
theorem dM_permuted_217 : decode bM_permuted 217 = .ok (.iload 4, 2) := by decide +kernel
theorem dM_permuted_219 : decode bM_permuted 219 = .ok (.imul, 1) := by decide +kernel
theorem dM_permuted_220 : decode bM_permuted 220 = .ok (.if_icmp .gt 59, 3) := by decide +kernel
theorem dM_permuted_223 : decode bM_permuted 223 = .ok (.aload_n 0, 1) := by decide +kernel
theorem dM_permuted_224 : decode bM_permuted 224 = .ok (.getfield 32, 3) := by decide +kernel
theorem dM_permuted_227 : decode bM_permuted 227 = .ok (.iload 7, 2) := by decide +kernel
theorem dM_permuted_229 : decode bM_permuted 229 = .ok (.lconst 0, 1) := by decide +kernel
theorem dM_permuted_230 : decode bM_permuted 230 = .ok (.lastore, 1) := by decide +kernel
theorem dM_permuted_231 : decode bM_permuted 231 = .ok (.iconst 1, 1) := by decide +kernel
theorem dM_permuted_232 : decode bM_permuted 232 = .ok (.istore 8, 2) := by decide +kernel
theorem dM_permuted_234 : decode bM_permuted 234 = .ok (.iload 8, 2) := by decide +kernel
theorem dM_permuted_236 : decode bM_permuted 236 = .ok (.iload_n 3, 1) := by decide +kernel
theorem dM_permuted_237 : decode bM_permuted 237 = .ok (.if_icmp .gt 36, 3) := by decide +kernel
theorem dM_permuted_240 : decode bM_permuted 240 = .ok (.iload 8, 2) := by decide +kernel
theorem dM_permuted_242 : decode bM_permuted 242 = .ok (.iload 7, 2) := by decide +kernel
theorem dM_permuted_244 : decode bM_permuted 244 = .ok (.if_icmp .gt 29, 3) := by decide +kernel
theorem dM_permuted_247 : decode bM_permuted 247 = .ok (.aload_n 0, 1) := by decide +kernel
theorem dM_permuted_248 : decode bM_permuted 248 = .ok (.getfield 32, 3) := by decide +kernel
theorem dM_permuted_251 : decode bM_permuted 251 = .ok (.iload 7, 2) := by decide +kernel
theorem dM_permuted_253 : decode bM_permuted 253 = .ok (.dup2, 1) := by decide +kernel
theorem dM_permuted_254 : decode bM_permuted 254 = .ok (.laload, 1) := by decide +kernel
theorem dM_permuted_255 : decode bM_permuted 255 = .ok (.aload_n 0, 1) := by decide +kernel
theorem dM_permuted_256 : decode bM_permuted 256 = .ok (.getfield 28, 3) := by decide +kernel
theorem dM_permuted_259 : decode bM_permuted 259 = .ok (.iload 7, 2) := by decide +kernel
theorem dM_permuted_261 : decode bM_permuted 261 = .ok (.iload 8, 2) := by decide +kernel
theorem dM_permuted_263 : decode bM_permuted 263 = .ok (.isub, 1) := by decide +kernel
theorem dM_permuted_264 : decode bM_permuted 264 = .ok (.laload, 1) := by decide +kernel
theorem dM_permuted_265 : decode bM_permuted 265 = .ok (.ladd, 1) := by decide +kernel
theorem dM_permuted_266 : decode bM_permuted 266 = .ok (.lastore, 1) := by decide +kernel
theorem dM_permuted_267 : decode bM_permuted 267 = .ok (.iinc 8 1, 3) := by decide +kernel
theorem dM_permuted_270 : decode bM_permuted 270 = .ok (.goto (-36), 3) := by decide +kernel
theorem dM_permuted_273 : decode bM_permuted 273 = .ok (.iinc 7 1, 3) := by decide +kernel
theorem dM_permuted_276 : decode bM_permuted 276 = .ok (.goto (-62), 3) := by decide +kernel
theorem dM_permuted_279 : decode bM_permuted 279 = .ok (.aload_n 0, 1) := by decide +kernel
theorem dM_permuted_280 : decode bM_permuted 280 = .ok (.getfield 32, 3) := by decide +kernel
theorem dM_permuted_283 : decode bM_permuted 283 = .ok (.iconst 0, 1) := by decide +kernel
theorem dM_permuted_284 : decode bM_permuted 284 = .ok (.aload_n 0, 1) := by decide +kernel
theorem dM_permuted_285 : decode bM_permuted 285 = .ok (.getfield 28, 3) := by decide +kernel
theorem dM_permuted_288 : decode bM_permuted 288 = .ok (.iconst 0, 1) := by decide +kernel
theorem dM_permuted_289 : decode bM_permuted 289 = .ok (.iconst 5, 1) := by decide +kernel
theorem dM_permuted_290 : decode bM_permuted 290 = .ok (.iload 4, 2) := by decide +kernel
theorem dM_permuted_292 : decode bM_permuted 292 = .ok (.imul, 1) := by decide +kernel
theorem dM_permuted_293 : decode bM_permuted 293 = .ok (.iconst 1, 1) := by decide +kernel
theorem dM_permuted_294 : decode bM_permuted 294 = .ok (.iadd, 1) := by decide +kernel
theorem dM_permuted_295 : decode bM_permuted 295 = .ok (.invokestatic 112, 3) := by decide +kernel
theorem dM_permuted_298 : decode bM_permuted 298 = .ok (.iinc 6 1, 3) := by decide +kernel
theorem dM_permuted_301 : decode bM_permuted 301 = .ok (.goto (-97), 3) := by decide +kernel
theorem dM_permuted_304 : decode bM_permuted 304 = .ok (.iconst 2, 1) := by decide +kernel
theorem dM_permuted_305 : decode bM_permuted 305 = .ok (.iload 5, 2) := by decide +kernel
theorem dM_permuted_307 : decode bM_permuted 307 = .ok (.imul, 1) := by decide +kernel
theorem dM_permuted_308 : decode bM_permuted 308 = .ok (.iload 4, 2) := by decide +kernel
theorem dM_permuted_310 : decode bM_permuted 310 = .ok (.iload_n 3, 1) := by decide +kernel
theorem dM_permuted_311 : decode bM_permuted 311 = .ok (.iconst 1, 1) := by decide +kernel
theorem dM_permuted_312 : decode bM_permuted 312 = .ok (.iadd, 1) := by decide +kernel
theorem dM_permuted_313 : decode bM_permuted 313 = .ok (.imul, 1) := by decide +kernel
theorem dM_permuted_314 : decode bM_permuted 314 = .ok (.isub, 1) := by decide +kernel
theorem dM_permuted_315 : decode bM_permuted 315 = .ok (.invokestatic 118, 3) := by decide +kernel
theorem dM_permuted_318 : decode bM_permuted 318 = .ok (.istore 6, 2) := by decide +kernel
theorem dM_permuted_320 : decode bM_permuted 320 = .ok (.lconst 0, 1) := by decide +kernel
theorem dM_permuted_321 : decode bM_permuted 321 = .ok (.lstore 7, 2) := by decide +kernel
theorem dM_permuted_323 : decode bM_permuted 323 = .ok (.iconst 0, 1) := by decide +kernel
theorem dM_permuted_324 : decode bM_permuted 324 = .ok (.istore 9, 2) := by decide +kernel
theorem dM_permuted_326 : decode bM_permuted 326 = .ok (.iload 9, 2) := by decide +kernel
theorem dM_permuted_328 : decode bM_permuted 328 = .ok (.iconst 5, 1) := by decide +kernel
theorem dM_permuted_329 : decode bM_permuted 329 = .ok (.iload 4, 2) := by decide +kernel
theorem dM_permuted_331 : decode bM_permuted 331 = .ok (.imul, 1) := by decide +kernel
theorem dM_permuted_332 : decode bM_permuted 332 = .ok (.if_icmp .gt 44, 3) := by decide +kernel
theorem dM_permuted_335 : decode bM_permuted 335 = .ok (.lload 7, 2) := by decide +kernel
theorem dM_permuted_337 : decode bM_permuted 337 = .ok (.iconst 2, 1) := by decide +kernel
theorem dM_permuted_338 : decode bM_permuted 338 = .ok (.iload 9, 2) := by decide +kernel
theorem dM_permuted_340 : decode bM_permuted 340 = .ok (.imul, 1) := by decide +kernel
theorem dM_permuted_341 : decode bM_permuted 341 = .ok (.iload 4, 2) := by decide +kernel
theorem dM_permuted_343 : decode bM_permuted 343 = .ok (.iload_n 3, 1) := by decide +kernel
theorem dM_permuted_344 : decode bM_permuted 344 = .ok (.iconst 1, 1) := by decide +kernel
theorem dM_permuted_345 : decode bM_permuted 345 = .ok (.iadd, 1) := by decide +kernel
theorem dM_permuted_346 : decode bM_permuted 346 = .ok (.imul, 1) := by decide +kernel
theorem dM_permuted_347 : decode bM_permuted 347 = .ok (.isub, 1) := by decide +kernel
theorem dM_permuted_348 : decode bM_permuted 348 = .ok (.invokestatic 118, 3) := by decide +kernel
theorem dM_permuted_351 : decode bM_permuted 351 = .ok (.iload 6, 2) := by decide +kernel
theorem dM_permuted_353 : decode bM_permuted 353 = .ok (.if_icmp .lt 13, 3) := by decide +kernel
theorem dM_permuted_356 : decode bM_permuted 356 = .ok (.aload_n 0, 1) := by decide +kernel
theorem dM_permuted_357 : decode bM_permuted 357 = .ok (.getfield 28, 3) := by decide +kernel
theorem dM_permuted_360 : decode bM_permuted 360 = .ok (.iload 9, 2) := by decide +kernel
theorem dM_permuted_362 : decode bM_permuted 362 = .ok (.laload, 1) := by decide +kernel
theorem dM_permuted_363 : decode bM_permuted 363 = .ok (.goto 4, 3) := by decide +kernel
theorem dM_permuted_366 : decode bM_permuted 366 = .ok (.lconst 0, 1) := by decide +kernel
theorem dM_permuted_367 : decode bM_permuted 367 = .ok (.ladd, 1) := by decide +kernel
theorem dM_permuted_368 : decode bM_permuted 368 = .ok (.lstore 7, 2) := by decide +kernel
theorem dM_permuted_370 : decode bM_permuted 370 = .ok (.iinc 9 1, 3) := by decide +kernel
theorem dM_permuted_373 : decode bM_permuted 373 = .ok (.goto (-47), 3) := by decide +kernel
theorem dM_permuted_376 : decode bM_permuted 376 = .ok (.lload 7, 2) := by decide +kernel
theorem dM_permuted_378 : decode bM_permuted 378 = .ok (.iload_n 3, 1) := by decide +kernel
theorem dM_permuted_379 : decode bM_permuted 379 = .ok (.i2l, 1) := by decide +kernel
theorem dM_permuted_380 : decode bM_permuted 380 = .ok (.iload 4, 2) := by decide +kernel
theorem dM_permuted_382 : decode bM_permuted 382 = .ok (.invokestatic 104, 3) := by decide +kernel
theorem dM_permuted_385 : decode bM_permuted 385 = .ok (.iload_n 2, 1) := by decide +kernel
theorem dM_permuted_386 : decode bM_permuted 386 = .ok (.invokestatic 108, 3) := by decide +kernel
theorem dM_permuted_389 : decode bM_permuted 389 = .ok (.lreturn, 1) := by decide +kernel
theorem dM_threshold_0 : decode bM_threshold 0 = .ok (.aload_n 0, 1) := by decide +kernel
theorem dM_threshold_1 : decode bM_threshold 1 = .ok (.iconst 0, 1) := by decide +kernel
theorem dM_threshold_2 : decode bM_threshold 2 = .ok (.putfield 39, 3) := by decide +kernel
theorem dM_threshold_5 : decode bM_threshold 5 = .ok (.aload_n 0, 1) := by decide +kernel
theorem dM_threshold_6 : decode bM_threshold 6 = .ok (.iload_n 1, 1) := by decide +kernel
theorem dM_threshold_7 : decode bM_threshold 7 = .ok (.invokevirtual 65, 3) := by decide +kernel
theorem dM_threshold_10 : decode bM_threshold 10 = .ok (.ifCond .ne 7, 3) := by decide +kernel
theorem dM_threshold_13 : decode bM_threshold 13 = .ok (.ldc2_w 125, 3) := by decide +kernel
theorem dM_threshold_16 : decode bM_threshold 16 = .ok (.dreturn, 1) := by decide +kernel
theorem dM_threshold_17 : decode bM_threshold 17 = .ok (.bipush 16, 2) := by decide +kernel
theorem dM_threshold_19 : decode bM_threshold 19 = .ok (.istore_n 2, 1) := by decide +kernel
theorem dM_threshold_20 : decode bM_threshold 20 = .ok (.iconst (-1), 1) := by decide +kernel
theorem dM_threshold_21 : decode bM_threshold 21 = .ok (.istore_n 3, 1) := by decide +kernel
theorem dM_threshold_22 : decode bM_threshold 22 = .ok (.iconst (-1), 1) := by decide +kernel
theorem dM_threshold_23 : decode bM_threshold 23 = .ok (.istore 4, 2) := by decide +kernel
theorem dM_threshold_25 : decode bM_threshold 25 = .ok (.bipush 15, 2) := by decide +kernel
theorem dM_threshold_27 : decode bM_threshold 27 = .ok (.istore 5, 2) := by decide +kernel
theorem dM_threshold_29 : decode bM_threshold 29 = .ok (.iload 5, 2) := by decide +kernel
theorem dM_threshold_31 : decode bM_threshold 31 = .ok (.ifCond .lt 77, 3) := by decide +kernel
theorem dM_threshold_34 : decode bM_threshold 34 = .ok (.aload_n 0, 1) := by decide +kernel
theorem dM_threshold_35 : decode bM_threshold 35 = .ok (.getfield 22, 3) := by decide +kernel
theorem dM_threshold_38 : decode bM_threshold 38 = .ok (.bipush 16, 2) := by decide +kernel
theorem dM_threshold_40 : decode bM_threshold 40 = .ok (.iload_n 1, 1) := by decide +kernel
theorem dM_threshold_41 : decode bM_threshold 41 = .ok (.imul, 1) := by decide +kernel
theorem dM_threshold_42 : decode bM_threshold 42 = .ok (.iload 5, 2) := by decide +kernel
theorem dM_threshold_44 : decode bM_threshold 44 = .ok (.iadd, 1) := by decide +kernel
theorem dM_threshold_45 : decode bM_threshold 45 = .ok (.iaload, 1) := by decide +kernel
theorem dM_threshold_46 : decode bM_threshold 46 = .ok (.istore 6, 2) := by decide +kernel
theorem dM_threshold_48 : decode bM_threshold 48 = .ok (.iload 6, 2) := by decide +kernel
theorem dM_threshold_50 : decode bM_threshold 50 = .ok (.ifCond .le 13, 3) := by decide +kernel
theorem dM_threshold_53 : decode bM_threshold 53 = .ok (.iload 4, 2) := by decide +kernel
theorem dM_threshold_55 : decode bM_threshold 55 = .ok (.ifCond .ge 8, 3) := by decide +kernel
theorem dM_threshold_58 : decode bM_threshold 58 = .ok (.iload 5, 2) := by decide +kernel
theorem dM_threshold_60 : decode bM_threshold 60 = .ok (.goto 5, 3) := by decide +kernel
theorem dM_threshold_63 : decode bM_threshold 63 = .ok (.iload 4, 2) := by decide +kernel
theorem dM_threshold_65 : decode bM_threshold 65 = .ok (.istore 4, 2) := by decide +kernel
theorem dM_threshold_67 : decode bM_threshold 67 = .ok (.iload 6, 2) := by decide +kernel
theorem dM_threshold_69 : decode bM_threshold 69 = .ok (.ifCond .le 33, 3) := by decide +kernel
theorem dM_threshold_72 : decode bM_threshold 72 = .ok (.iload_n 3, 1) := by decide +kernel
theorem dM_threshold_73 : decode bM_threshold 73 = .ok (.ifCond .ge 29, 3) := by decide +kernel
theorem dM_threshold_76 : decode bM_threshold 76 = .ok (.iload 6, 2) := by decide +kernel
theorem dM_threshold_78 : decode bM_threshold 78 = .ok (.iconst 2, 1) := by decide +kernel
theorem dM_threshold_79 : decode bM_threshold 79 = .ok (.if_icmp .ne 8, 3) := by decide +kernel
theorem dM_threshold_82 : decode bM_threshold 82 = .ok (.iload 5, 2) := by decide +kernel
theorem dM_threshold_84 : decode bM_threshold 84 = .ok (.goto 4, 3) := by decide +kernel
theorem dM_threshold_87 : decode bM_threshold 87 = .ok (.iload_n 2, 1) := by decide +kernel
theorem dM_threshold_88 : decode bM_threshold 88 = .ok (.istore_n 2, 1) := by decide +kernel
theorem dM_threshold_89 : decode bM_threshold 89 = .ok (.iload 6, 2) := by decide +kernel
theorem dM_threshold_91 : decode bM_threshold 91 = .ok (.iconst 1, 1) := by decide +kernel
theorem dM_threshold_92 : decode bM_threshold 92 = .ok (.if_icmp .ne 8, 3) := by decide +kernel
theorem dM_threshold_95 : decode bM_threshold 95 = .ok (.iload 5, 2) := by decide +kernel
theorem dM_threshold_97 : decode bM_threshold 97 = .ok (.goto 4, 3) := by decide +kernel
theorem dM_threshold_100 : decode bM_threshold 100 = .ok (.iconst (-1), 1) := by decide +kernel
theorem dM_threshold_101 : decode bM_threshold 101 = .ok (.istore_n 3, 1) := by decide +kernel
theorem dM_threshold_102 : decode bM_threshold 102 = .ok (.iinc 5 (-1), 3) := by decide +kernel
theorem dM_threshold_105 : decode bM_threshold 105 = .ok (.goto (-76), 3) := by decide +kernel
theorem dM_threshold_108 : decode bM_threshold 108 = .ok (.iload 4, 2) := by decide +kernel
theorem dM_threshold_110 : decode bM_threshold 110 = .ok (.ifCond .ge 5, 3) := by decide +kernel
theorem dM_threshold_113 : decode bM_threshold 113 = .ok (.dconst 0, 1) := by decide +kernel
theorem dM_threshold_114 : decode bM_threshold 114 = .ok (.dreturn, 1) := by decide +kernel
theorem dM_threshold_115 : decode bM_threshold 115 = .ok (.iload_n 2, 1) := by decide +kernel
theorem dM_threshold_116 : decode bM_threshold 116 = .ok (.bipush 16, 2) := by decide +kernel
theorem dM_threshold_118 : decode bM_threshold 118 = .ok (.if_icmp .ne 13, 3) := by decide +kernel
theorem dM_threshold_121 : decode bM_threshold 121 = .ok (.ldc2_w 127, 3) := by decide +kernel
theorem dM_threshold_124 : decode bM_threshold 124 = .ok (.iload 4, 2) := by decide +kernel
theorem dM_threshold_126 : decode bM_threshold 126 = .ok (.invokestatic 129, 3) := by decide +kernel
theorem dM_threshold_129 : decode bM_threshold 129 = .ok (.dmul, 1) := by decide +kernel
theorem dM_threshold_130 : decode bM_threshold 130 = .ok (.dreturn, 1) := by decide +kernel
theorem dM_threshold_131 : decode bM_threshold 131 = .ok (.iload_n 3, 1) := by decide +kernel
theorem dM_threshold_132 : decode bM_threshold 132 = .ok (.ifCond .ge 14, 3) := by decide +kernel
theorem dM_threshold_135 : decode bM_threshold 135 = .ok (.iload_n 2, 1) := by decide +kernel
theorem dM_threshold_136 : decode bM_threshold 136 = .ok (.invokestatic 129, 3) := by decide +kernel
theorem dM_threshold_139 : decode bM_threshold 139 = .ok (.ldc2_w 127, 3) := by decide +kernel
theorem dM_threshold_142 : decode bM_threshold 142 = .ok (.ddiv, 1) := by decide +kernel
theorem dM_threshold_143 : decode bM_threshold 143 = .ok (.goto 16, 3) := by decide +kernel
theorem dM_threshold_146 : decode bM_threshold 146 = .ok (.iload_n 2, 1) := by decide +kernel
theorem dM_threshold_147 : decode bM_threshold 147 = .ok (.invokestatic 129, 3) := by decide +kernel
theorem dM_threshold_150 : decode bM_threshold 150 = .ok (.iload_n 3, 1) := by decide +kernel
theorem dM_threshold_151 : decode bM_threshold 151 = .ok (.invokestatic 129, 3) := by decide +kernel
theorem dM_threshold_154 : decode bM_threshold 154 = .ok (.dadd, 1) := by decide +kernel
theorem dM_threshold_155 : decode bM_threshold 155 = .ok (.ldc2_w 127, 3) := by decide +kernel
theorem dM_threshold_158 : decode bM_threshold 158 = .ok (.ddiv, 1) := by decide +kernel
theorem dM_threshold_159 : decode bM_threshold 159 = .ok (.dreturn, 1) := by decide +kernel
theorem dM_strength_0 : decode bM_strength 0 = .ok (.iconst 1, 1) := by decide +kernel
theorem dM_strength_1 : decode bM_strength 1 = .ok (.iload_n 0, 1) := by decide +kernel
theorem dM_strength_2 : decode bM_strength 2 = .ok (.ishl, 1) := by decide +kernel
theorem dM_strength_3 : decode bM_strength 3 = .ok (.i2d, 1) := by decide +kernel
theorem dM_strength_4 : decode bM_strength 4 = .ok (.ldc2_w 123, 3) := by decide +kernel
theorem dM_strength_7 : decode bM_strength 7 = .ok (.ddiv, 1) := by decide +kernel
theorem dM_strength_8 : decode bM_strength 8 = .ok (.dreturn, 1) := by decide +kernel
theorem dM_level_0 : decode bM_level 0 = .ok (.aload_n 0, 1) := by decide +kernel
theorem dM_level_1 : decode bM_level 1 = .ok (.iconst 0, 1) := by decide +kernel
theorem dM_level_2 : decode bM_level 2 = .ok (.putfield 39, 3) := by decide +kernel
theorem dM_level_5 : decode bM_level 5 = .ok (.aload_n 0, 1) := by decide +kernel
theorem dM_level_6 : decode bM_level 6 = .ok (.iload_n 1, 1) := by decide +kernel
theorem dM_level_7 : decode bM_level 7 = .ok (.invokevirtual 65, 3) := by decide +kernel
theorem dM_level_10 : decode bM_level 10 = .ok (.ifCond .eq 13, 3) := by decide +kernel
theorem dM_level_13 : decode bM_level 13 = .ok (.iload_n 2, 1) := by decide +kernel
theorem dM_level_14 : decode bM_level 14 = .ok (.ifCond .lt 9, 3) := by decide +kernel
theorem dM_level_17 : decode bM_level 17 = .ok (.iload_n 2, 1) := by decide +kernel
theorem dM_level_18 : decode bM_level 18 = .ok (.bipush 16, 2) := by decide +kernel
theorem dM_level_20 : decode bM_level 20 = .ok (.if_icmp .lt 5, 3) := by decide +kernel
theorem dM_level_23 : decode bM_level 23 = .ok (.iconst 0, 1) := by decide +kernel
theorem dM_level_24 : decode bM_level 24 = .ok (.ireturn, 1) := by decide +kernel
theorem dM_level_25 : decode bM_level 25 = .ok (.aload_n 0, 1) := by decide +kernel
theorem dM_level_26 : decode bM_level 26 = .ok (.getfield 22, 3) := by decide +kernel
theorem dM_level_29 : decode bM_level 29 = .ok (.bipush 16, 2) := by decide +kernel
theorem dM_level_31 : decode bM_level 31 = .ok (.iload_n 1, 1) := by decide +kernel
theorem dM_level_32 : decode bM_level 32 = .ok (.imul, 1) := by decide +kernel
theorem dM_level_33 : decode bM_level 33 = .ok (.iload_n 2, 1) := by decide +kernel
theorem dM_level_34 : decode bM_level 34 = .ok (.iadd, 1) := by decide +kernel
theorem dM_level_35 : decode bM_level 35 = .ok (.iload_n 3, 1) := by decide +kernel
theorem dM_level_36 : decode bM_level 36 = .ok (.ifCond .eq 7, 3) := by decide +kernel
theorem dM_level_39 : decode bM_level 39 = .ok (.iconst 2, 1) := by decide +kernel
theorem dM_level_40 : decode bM_level 40 = .ok (.goto 4, 3) := by decide +kernel
theorem dM_level_43 : decode bM_level 43 = .ok (.iconst 1, 1) := by decide +kernel
theorem dM_level_44 : decode bM_level 44 = .ok (.iastore, 1) := by decide +kernel
theorem dM_level_45 : decode bM_level 45 = .ok (.iconst 1, 1) := by decide +kernel
theorem dM_level_46 : decode bM_level 46 = .ok (.ireturn, 1) := by decide +kernel
theorem dM_out_0 : decode bM_out 0 = .ok (.aload_n 0, 1) := by decide +kernel
theorem dM_out_1 : decode bM_out 1 = .ok (.iconst 0, 1) := by decide +kernel
theorem dM_out_2 : decode bM_out 2 = .ok (.putfield 39, 3) := by decide +kernel
theorem dM_out_5 : decode bM_out 5 = .ok (.aload_n 0, 1) := by decide +kernel
theorem dM_out_6 : decode bM_out 6 = .ok (.iload_n 1, 1) := by decide +kernel
theorem dM_out_7 : decode bM_out 7 = .ok (.invokevirtual 65, 3) := by decide +kernel
theorem dM_out_10 : decode bM_out 10 = .ok (.ifCond .ne 5, 3) := by decide +kernel
theorem dM_out_13 : decode bM_out 13 = .ok (.iconst 0, 1) := by decide +kernel
theorem dM_out_14 : decode bM_out 14 = .ok (.ireturn, 1) := by decide +kernel
theorem dM_out_15 : decode bM_out 15 = .ok (.iconst 0, 1) := by decide +kernel
theorem dM_out_16 : decode bM_out 16 = .ok (.istore_n 2, 1) := by decide +kernel
theorem dM_out_17 : decode bM_out 17 = .ok (.iconst 0, 1) := by decide +kernel
theorem dM_out_18 : decode bM_out 18 = .ok (.istore_n 3, 1) := by decide +kernel
theorem dM_out_19 : decode bM_out 19 = .ok (.iconst 0, 1) := by decide +kernel
theorem dM_out_20 : decode bM_out 20 = .ok (.istore 4, 2) := by decide +kernel
theorem dM_out_22 : decode bM_out 22 = .ok (.iload 4, 2) := by decide +kernel
theorem dM_out_24 : decode bM_out 24 = .ok (.aload_n 0, 1) := by decide +kernel
theorem dM_out_25 : decode bM_out 25 = .ok (.getfield 46, 3) := by decide +kernel
theorem dM_out_28 : decode bM_out 28 = .ok (.if_icmp .ge 78, 3) := by decide +kernel
theorem dM_out_31 : decode bM_out 31 = .ok (.aload_n 0, 1) := by decide +kernel
theorem dM_out_32 : decode bM_out 32 = .ok (.getfield 9, 3) := by decide +kernel
theorem dM_out_35 : decode bM_out 35 = .ok (.iload 4, 2) := by decide +kernel
theorem dM_out_37 : decode bM_out 37 = .ok (.iaload, 1) := by decide +kernel
theorem dM_out_38 : decode bM_out 38 = .ok (.iconst 3, 1) := by decide +kernel
theorem dM_out_39 : decode bM_out 39 = .ok (.if_icmp .eq 22, 3) := by decide +kernel
theorem dM_out_42 : decode bM_out 42 = .ok (.aload_n 0, 1) := by decide +kernel
theorem dM_out_43 : decode bM_out 43 = .ok (.getfield 16, 3) := by decide +kernel
theorem dM_out_46 : decode bM_out 46 = .ok (.bipush 26, 2) := by decide +kernel
theorem dM_out_48 : decode bM_out 48 = .ok (.iload 4, 2) := by decide +kernel
theorem dM_out_50 : decode bM_out 50 = .ok (.imul, 1) := by decide +kernel
theorem dM_out_51 : decode bM_out 51 = .ok (.iload_n 1, 1) := by decide +kernel
theorem dM_out_52 : decode bM_out 52 = .ok (.iadd, 1) := by decide +kernel
theorem dM_out_53 : decode bM_out 53 = .ok (.iaload, 1) := by decide +kernel
theorem dM_out_54 : decode bM_out 54 = .ok (.ifCond .le 7, 3) := by decide +kernel
theorem dM_out_57 : decode bM_out 57 = .ok (.iconst 1, 1) := by decide +kernel
theorem dM_out_58 : decode bM_out 58 = .ok (.goto 4, 3) := by decide +kernel
theorem dM_out_61 : decode bM_out 61 = .ok (.iconst 0, 1) := by decide +kernel
theorem dM_out_62 : decode bM_out 62 = .ok (.istore 5, 2) := by decide +kernel
theorem dM_out_64 : decode bM_out 64 = .ok (.iload_n 2, 1) := by decide +kernel
theorem dM_out_65 : decode bM_out 65 = .ok (.iload 5, 2) := by decide +kernel
theorem dM_out_67 : decode bM_out 67 = .ok (.ifCond .eq 7, 3) := by decide +kernel
theorem dM_out_70 : decode bM_out 70 = .ok (.iconst 1, 1) := by decide +kernel
theorem dM_out_71 : decode bM_out 71 = .ok (.goto 4, 3) := by decide +kernel
theorem dM_out_74 : decode bM_out 74 = .ok (.iconst 0, 1) := by decide +kernel
theorem dM_out_75 : decode bM_out 75 = .ok (.iadd, 1) := by decide +kernel
theorem dM_out_76 : decode bM_out 76 = .ok (.istore_n 2, 1) := by decide +kernel
theorem dM_out_77 : decode bM_out 77 = .ok (.iload_n 3, 1) := by decide +kernel
theorem dM_out_78 : decode bM_out 78 = .ok (.iload 5, 2) := by decide +kernel
theorem dM_out_80 : decode bM_out 80 = .ok (.ifCond .eq 17, 3) := by decide +kernel
theorem dM_out_83 : decode bM_out 83 = .ok (.aload_n 0, 1) := by decide +kernel
theorem dM_out_84 : decode bM_out 84 = .ok (.iload 4, 2) := by decide +kernel
theorem dM_out_86 : decode bM_out 86 = .ok (.iload_n 1, 1) := by decide +kernel
theorem dM_out_87 : decode bM_out 87 = .ok (.invokevirtual 88, 3) := by decide +kernel
theorem dM_out_90 : decode bM_out 90 = .ok (.ifCond .eq 7, 3) := by decide +kernel
theorem dM_out_93 : decode bM_out 93 = .ok (.iconst 1, 1) := by decide +kernel
theorem dM_out_94 : decode bM_out 94 = .ok (.goto 4, 3) := by decide +kernel
theorem dM_out_97 : decode bM_out 97 = .ok (.iconst 0, 1) := by decide +kernel
theorem dM_out_98 : decode bM_out 98 = .ok (.iadd, 1) := by decide +kernel
theorem dM_out_99 : decode bM_out 99 = .ok (.istore_n 3, 1) := by decide +kernel
theorem dM_out_100 : decode bM_out 100 = .ok (.iinc 4 1, 3) := by decide +kernel
theorem dM_out_103 : decode bM_out 103 = .ok (.goto (-81), 3) := by decide +kernel
theorem dM_out_106 : decode bM_out 106 = .ok (.iload_n 2, 1) := by decide +kernel
theorem dM_out_107 : decode bM_out 107 = .ok (.iconst 5, 1) := by decide +kernel
theorem dM_out_108 : decode bM_out 108 = .ok (.if_icmp .lt 14, 3) := by decide +kernel
theorem dM_out_111 : decode bM_out 111 = .ok (.iconst 3, 1) := by decide +kernel
theorem dM_out_112 : decode bM_out 112 = .ok (.iload_n 3, 1) := by decide +kernel
theorem dM_out_113 : decode bM_out 113 = .ok (.imul, 1) := by decide +kernel
theorem dM_out_114 : decode bM_out 114 = .ok (.iload_n 2, 1) := by decide +kernel
theorem dM_out_115 : decode bM_out 115 = .ok (.if_icmp .ge 7, 3) := by decide +kernel
theorem dM_out_118 : decode bM_out 118 = .ok (.iconst 1, 1) := by decide +kernel
theorem dM_out_119 : decode bM_out 119 = .ok (.goto 4, 3) := by decide +kernel
theorem dM_out_122 : decode bM_out 122 = .ok (.iconst 0, 1) := by decide +kernel
theorem dM_out_123 : decode bM_out 123 = .ok (.ireturn, 1) := by decide +kernel
theorem dM_size_0 : decode bM_size 0 = .ok (.aload_n 0, 1) := by decide +kernel
theorem dM_size_1 : decode bM_size 1 = .ok (.iconst 0, 1) := by decide +kernel
theorem dM_size_2 : decode bM_size 2 = .ok (.putfield 39, 3) := by decide +kernel
theorem dM_size_5 : decode bM_size 5 = .ok (.iload_n 1, 1) := by decide +kernel
theorem dM_size_6 : decode bM_size 6 = .ok (.ifCond .lt 21, 3) := by decide +kernel
theorem dM_size_9 : decode bM_size 9 = .ok (.iload_n 1, 1) := by decide +kernel
theorem dM_size_10 : decode bM_size 10 = .ok (.iconst 2, 1) := by decide +kernel
theorem dM_size_11 : decode bM_size 11 = .ok (.if_icmp .gt 16, 3) := by decide +kernel
theorem dM_size_14 : decode bM_size 14 = .ok (.lload_n 2, 1) := by decide +kernel
theorem dM_size_15 : decode bM_size 15 = .ok (.lconst 1, 1) := by decide +kernel
theorem dM_size_16 : decode bM_size 16 = .ok (.lcmp, 1) := by decide +kernel
theorem dM_size_17 : decode bM_size 17 = .ok (.ifCond .lt 10, 3) := by decide +kernel
theorem dM_size_20 : decode bM_size 20 = .ok (.lload 4, 2) := by decide +kernel
theorem dM_size_22 : decode bM_size 22 = .ok (.lconst 1, 1) := by decide +kernel
theorem dM_size_23 : decode bM_size 23 = .ok (.lcmp, 1) := by decide +kernel
theorem dM_size_24 : decode bM_size 24 = .ok (.ifCond .ge 5, 3) := by decide +kernel
theorem dM_size_27 : decode bM_size 27 = .ok (.iconst (-1), 1) := by decide +kernel
theorem dM_size_28 : decode bM_size 28 = .ok (.ireturn, 1) := by decide +kernel
theorem dM_size_29 : decode bM_size 29 = .ok (.lload 4, 2) := by decide +kernel
theorem dM_size_31 : decode bM_size 31 = .ok (.lload_n 2, 1) := by decide +kernel
theorem dM_size_32 : decode bM_size 32 = .ok (.ldiv, 1) := by decide +kernel
theorem dM_size_33 : decode bM_size 33 = .ok (.lload 4, 2) := by decide +kernel
theorem dM_size_35 : decode bM_size 35 = .ok (.lload_n 2, 1) := by decide +kernel
theorem dM_size_36 : decode bM_size 36 = .ok (.lrem, 1) := by decide +kernel
theorem dM_size_37 : decode bM_size 37 = .ok (.lconst 0, 1) := by decide +kernel
theorem dM_size_38 : decode bM_size 38 = .ok (.lcmp, 1) := by decide +kernel
theorem dM_size_39 : decode bM_size 39 = .ok (.ifCond .le 7, 3) := by decide +kernel
theorem dM_size_42 : decode bM_size 42 = .ok (.lconst 1, 1) := by decide +kernel
theorem dM_size_43 : decode bM_size 43 = .ok (.goto 4, 3) := by decide +kernel
theorem dM_size_46 : decode bM_size 46 = .ok (.lconst 0, 1) := by decide +kernel
theorem dM_size_47 : decode bM_size 47 = .ok (.ladd, 1) := by decide +kernel
theorem dM_size_48 : decode bM_size 48 = .ok (.lstore 6, 2) := by decide +kernel
theorem dM_size_50 : decode bM_size 50 = .ok (.iconst 1, 1) := by decide +kernel
theorem dM_size_51 : decode bM_size 51 = .ok (.istore 8, 2) := by decide +kernel
theorem dM_size_53 : decode bM_size 53 = .ok (.iload 8, 2) := by decide +kernel
theorem dM_size_55 : decode bM_size 55 = .ok (.bipush 26, 2) := by decide +kernel
theorem dM_size_57 : decode bM_size 57 = .ok (.if_icmp .gt 36, 3) := by decide +kernel
theorem dM_size_60 : decode bM_size 60 = .ok (.iload_n 1, 1) := by decide +kernel
theorem dM_size_61 : decode bM_size 61 = .ok (.ifCond .ne 9, 3) := by decide +kernel
theorem dM_size_64 : decode bM_size 64 = .ok (.ldc2_w 133, 3) := by decide +kernel
theorem dM_size_67 : decode bM_size 67 = .ok (.goto 6, 3) := by decide +kernel
theorem dM_size_70 : decode bM_size 70 = .ok (.ldc2_w 135, 3) := by decide +kernel
theorem dM_size_73 : decode bM_size 73 = .ok (.iload 8, 2) := by decide +kernel
theorem dM_size_75 : decode bM_size 75 = .ok (.invokestatic 104, 3) := by decide +kernel
theorem dM_size_78 : decode bM_size 78 = .ok (.lload 6, 2) := by decide +kernel
theorem dM_size_80 : decode bM_size 80 = .ok (.lcmp, 1) := by decide +kernel
theorem dM_size_81 : decode bM_size 81 = .ok (.ifCond .lt 6, 3) := by decide +kernel
theorem dM_size_84 : decode bM_size 84 = .ok (.iload 8, 2) := by decide +kernel
theorem dM_size_86 : decode bM_size 86 = .ok (.ireturn, 1) := by decide +kernel
theorem dM_size_87 : decode bM_size 87 = .ok (.iinc 8 1, 3) := by decide +kernel
theorem dM_size_90 : decode bM_size 90 = .ok (.goto (-37), 3) := by decide +kernel
theorem dM_size_93 : decode bM_size 93 = .ok (.iconst (-1), 1) := by decide +kernel
theorem dM_size_94 : decode bM_size 94 = .ok (.ireturn, 1) := by decide +kernel
theorem dM_row_0 : decode bM_row 0 = .ok (.aload_n 0, 1) := by decide +kernel
theorem dM_row_1 : decode bM_row 1 = .ok (.iload_n 1, 1) := by decide +kernel
theorem dM_row_2 : decode bM_row 2 = .ok (.iconst 1, 1) := by decide +kernel
theorem dM_row_3 : decode bM_row 3 = .ok (.if_icmp .lt 9, 3) := by decide +kernel
theorem dM_row_6 : decode bM_row 6 = .ok (.iload_n 1, 1) := by decide +kernel
theorem dM_row_7 : decode bM_row 7 = .ok (.bipush 26, 2) := by decide +kernel
theorem dM_row_9 : decode bM_row 9 = .ok (.if_icmp .le 7, 3) := by decide +kernel
theorem dM_row_12 : decode bM_row 12 = .ok (.iconst 1, 1) := by decide +kernel
theorem dM_row_13 : decode bM_row 13 = .ok (.goto 4, 3) := by decide +kernel
theorem dM_row_16 : decode bM_row 16 = .ok (.iconst 0, 1) := by decide +kernel
theorem dM_row_17 : decode bM_row 17 = .ok (.putfield 39, 3) := by decide +kernel
theorem dM_row_20 : decode bM_row 20 = .ok (.aload_n 0, 1) := by decide +kernel
theorem dM_row_21 : decode bM_row 21 = .ok (.getfield 39, 3) := by decide +kernel
theorem dM_row_24 : decode bM_row 24 = .ok (.ifCond .le 5, 3) := by decide +kernel
theorem dM_row_27 : decode bM_row 27 = .ok (.iconst 0, 1) := by decide +kernel
theorem dM_row_28 : decode bM_row 28 = .ok (.ireturn, 1) := by decide +kernel
theorem dM_row_29 : decode bM_row 29 = .ok (.iconst 0, 1) := by decide +kernel
theorem dM_row_30 : decode bM_row 30 = .ok (.istore_n 2, 1) := by decide +kernel
theorem dM_row_31 : decode bM_row 31 = .ok (.iload_n 2, 1) := by decide +kernel
theorem dM_row_32 : decode bM_row 32 = .ok (.iload_n 1, 1) := by decide +kernel
theorem dM_row_33 : decode bM_row 33 = .ok (.if_icmp .gt 31, 3) := by decide +kernel
theorem dM_row_36 : decode bM_row 36 = .ok (.aload_n 0, 1) := by decide +kernel
theorem dM_row_37 : decode bM_row 37 = .ok (.iload_n 1, 1) := by decide +kernel
theorem dM_row_38 : decode bM_row 38 = .ok (.iload_n 2, 1) := by decide +kernel
theorem dM_row_39 : decode bM_row 39 = .ok (.iconst 3, 1) := by decide +kernel
theorem dM_row_40 : decode bM_row 40 = .ok (.invokevirtual 100, 3) := by decide +kernel
theorem dM_row_43 : decode bM_row 43 = .ok (.ldc2_w 133, 3) := by decide +kernel
theorem dM_row_46 : decode bM_row 46 = .ok (.iload_n 1, 1) := by decide +kernel
theorem dM_row_47 : decode bM_row 47 = .ok (.invokestatic 104, 3) := by decide +kernel
theorem dM_row_50 : decode bM_row 50 = .ok (.ldc2_w 137, 3) := by decide +kernel
theorem dM_row_53 : decode bM_row 53 = .ok (.ldiv, 1) := by decide +kernel
theorem dM_row_54 : decode bM_row 54 = .ok (.lcmp, 1) := by decide +kernel
theorem dM_row_55 : decode bM_row 55 = .ok (.ifCond .le 9, 3) := by decide +kernel
theorem dM_row_58 : decode bM_row 58 = .ok (.iinc 2 1, 3) := by decide +kernel
theorem dM_row_61 : decode bM_row 61 = .ok (.goto (-30), 3) := by decide +kernel
theorem dM_row_64 : decode bM_row 64 = .ok (.iload_n 2, 1) := by decide +kernel
theorem dM_row_65 : decode bM_row 65 = .ok (.ireturn, 1) := by decide +kernel
end
section
theorem dL_law_0 : decode code 0 = .ok (.new 8, 3) := by decide +kernel
theorem dL_law_3 : decode code 3 = .ok (.dup, 1) := by decide +kernel
theorem dL_law_4 : decode code 4 = .ok (.aload_n 0, 1) := by decide +kernel
theorem dL_law_5 : decode code 5 = .ok (.iconst 0, 1) := by decide +kernel
theorem dL_law_6 : decode code 6 = .ok (.invokestatic 15, 3) := by decide +kernel
theorem dL_law_9 : decode code 9 = .ok (.i2l, 1) := by decide +kernel
theorem dL_law_10 : decode code 10 = .ok (.invokespecial 21, 3) := by decide +kernel
theorem dL_law_13 : decode code 13 = .ok (.astore_n 1, 1) := by decide +kernel
theorem dL_law_14 : decode code 14 = .ok (.new 24, 3) := by decide +kernel
theorem dL_law_17 : decode code 17 = .ok (.dup, 1) := by decide +kernel
theorem dL_law_18 : decode code 18 = .ok (.aload_n 0, 1) := by decide +kernel
theorem dL_law_19 : decode code 19 = .ok (.iconst 0, 1) := by decide +kernel
theorem dL_law_20 : decode code 20 = .ok (.invokestatic 15, 3) := by decide +kernel
theorem dL_law_23 : decode code 23 = .ok (.i2l, 1) := by decide +kernel
theorem dL_law_24 : decode code 24 = .ok (.invokespecial 26, 3) := by decide +kernel
theorem dL_law_27 : decode code 27 = .ok (.astore_n 2, 1) := by decide +kernel
theorem dL_law_28 : decode code 28 = .ok (.iconst 1, 1) := by decide +kernel
theorem dL_law_29 : decode code 29 = .ok (.newarray .long, 2) := by decide +kernel
theorem dL_law_31 : decode code 31 = .ok (.astore_n 3, 1) := by decide +kernel
theorem dL_law_32 : decode code 32 = .ok (.iconst 1, 1) := by decide +kernel
theorem dL_law_33 : decode code 33 = .ok (.istore 4, 2) := by decide +kernel
theorem dL_law_35 : decode code 35 = .ok (.iload 4, 2) := by decide +kernel
theorem dL_law_37 : decode code 37 = .ok (.aload_n 0, 1) := by decide +kernel
theorem dL_law_38 : decode code 38 = .ok (.arraylength, 1) := by decide +kernel
theorem dL_law_39 : decode code 39 = .ok (.bipush 6, 2) := by decide +kernel
theorem dL_law_41 : decode code 41 = .ok (.isub, 1) := by decide +kernel
theorem dL_law_42 : decode code 42 = .ok (.if_icmp .gt 706, 3) := by decide +kernel
theorem dL_law_45 : decode code 45 = .ok (.aload_n 0, 1) := by decide +kernel
theorem dL_law_46 : decode code 46 = .ok (.iload 4, 2) := by decide +kernel
theorem dL_law_48 : decode code 48 = .ok (.iaload, 1) := by decide +kernel
theorem dL_law_49 : decode code 49 = .ok (.bipush 15, 2) := by decide +kernel
theorem dL_law_51 : decode code 51 = .ok (.iand, 1) := by decide +kernel
theorem dL_law_52 : decode code 52 = .ok (.tableswitch 690 0 12 #[68, 81, 118, 167, 216, 254, 279, 340, 378, 431, 496, 521, 634], 68) := by decide +kernel
theorem dL_law_120 : decode code 120 = .ok (.aload_n 1, 1) := by decide +kernel
theorem dL_law_121 : decode code 121 = .ok (.invokevirtual 27, 3) := by decide +kernel
theorem dL_law_124 : decode code 124 = .ok (.aload_n 2, 1) := by decide +kernel
theorem dL_law_125 : decode code 125 = .ok (.invokevirtual 31, 3) := by decide +kernel
theorem dL_law_128 : decode code 128 = .ok (.if_icmp .eq 614, 3) := by decide +kernel
theorem dL_law_131 : decode code 131 = .ok (.iconst 0, 1) := by decide +kernel
theorem dL_law_132 : decode code 132 = .ok (.ireturn, 1) := by decide +kernel
theorem dL_law_133 : decode code 133 = .ok (.aload_n 1, 1) := by decide +kernel
theorem dL_law_134 : decode code 134 = .ok (.aload_n 0, 1) := by decide +kernel
theorem dL_law_135 : decode code 135 = .ok (.iload 4, 2) := by decide +kernel
theorem dL_law_137 : decode code 137 = .ok (.iconst 1, 1) := by decide +kernel
theorem dL_law_138 : decode code 138 = .ok (.iadd, 1) := by decide +kernel
theorem dL_law_139 : decode code 139 = .ok (.iaload, 1) := by decide +kernel
theorem dL_law_140 : decode code 140 = .ok (.aload_n 0, 1) := by decide +kernel
theorem dL_law_141 : decode code 141 = .ok (.iload 4, 2) := by decide +kernel
theorem dL_law_143 : decode code 143 = .ok (.iconst 2, 1) := by decide +kernel
theorem dL_law_144 : decode code 144 = .ok (.iadd, 1) := by decide +kernel
theorem dL_law_145 : decode code 145 = .ok (.iaload, 1) := by decide +kernel
theorem dL_law_146 : decode code 146 = .ok (.invokevirtual 32, 3) := by decide +kernel
theorem dL_law_149 : decode code 149 = .ok (.aload_n 2, 1) := by decide +kernel
theorem dL_law_150 : decode code 150 = .ok (.aload_n 0, 1) := by decide +kernel
theorem dL_law_151 : decode code 151 = .ok (.iload 4, 2) := by decide +kernel
theorem dL_law_153 : decode code 153 = .ok (.iconst 1, 1) := by decide +kernel
theorem dL_law_154 : decode code 154 = .ok (.iadd, 1) := by decide +kernel
theorem dL_law_155 : decode code 155 = .ok (.iaload, 1) := by decide +kernel
theorem dL_law_156 : decode code 156 = .ok (.aload_n 0, 1) := by decide +kernel
theorem dL_law_157 : decode code 157 = .ok (.iload 4, 2) := by decide +kernel
theorem dL_law_159 : decode code 159 = .ok (.iconst 2, 1) := by decide +kernel
theorem dL_law_160 : decode code 160 = .ok (.iadd, 1) := by decide +kernel
theorem dL_law_161 : decode code 161 = .ok (.iaload, 1) := by decide +kernel
theorem dL_law_162 : decode code 162 = .ok (.invokevirtual 36, 3) := by decide +kernel
theorem dL_law_165 : decode code 165 = .ok (.if_icmp .eq 577, 3) := by decide +kernel
theorem dL_law_168 : decode code 168 = .ok (.iconst 0, 1) := by decide +kernel
theorem dL_law_169 : decode code 169 = .ok (.ireturn, 1) := by decide +kernel
theorem dL_law_170 : decode code 170 = .ok (.aload_n 1, 1) := by decide +kernel
theorem dL_law_171 : decode code 171 = .ok (.aload_n 0, 1) := by decide +kernel
theorem dL_law_172 : decode code 172 = .ok (.iload 4, 2) := by decide +kernel
theorem dL_law_174 : decode code 174 = .ok (.iconst 1, 1) := by decide +kernel
theorem dL_law_175 : decode code 175 = .ok (.iadd, 1) := by decide +kernel
theorem dL_law_176 : decode code 176 = .ok (.iaload, 1) := by decide +kernel
theorem dL_law_177 : decode code 177 = .ok (.aload_n 0, 1) := by decide +kernel
theorem dL_law_178 : decode code 178 = .ok (.iload 4, 2) := by decide +kernel
theorem dL_law_180 : decode code 180 = .ok (.iconst 2, 1) := by decide +kernel
theorem dL_law_181 : decode code 181 = .ok (.iadd, 1) := by decide +kernel
theorem dL_law_182 : decode code 182 = .ok (.iaload, 1) := by decide +kernel
theorem dL_law_183 : decode code 183 = .ok (.aload_n 0, 1) := by decide +kernel
theorem dL_law_184 : decode code 184 = .ok (.iload 4, 2) := by decide +kernel
theorem dL_law_186 : decode code 186 = .ok (.iconst 3, 1) := by decide +kernel
theorem dL_law_187 : decode code 187 = .ok (.iadd, 1) := by decide +kernel
theorem dL_law_188 : decode code 188 = .ok (.iaload, 1) := by decide +kernel
theorem dL_law_189 : decode code 189 = .ok (.invokevirtual 37, 3) := by decide +kernel
theorem dL_law_192 : decode code 192 = .ok (.aload_n 2, 1) := by decide +kernel
theorem dL_law_193 : decode code 193 = .ok (.aload_n 0, 1) := by decide +kernel
theorem dL_law_194 : decode code 194 = .ok (.iload 4, 2) := by decide +kernel
theorem dL_law_196 : decode code 196 = .ok (.iconst 1, 1) := by decide +kernel
theorem dL_law_197 : decode code 197 = .ok (.iadd, 1) := by decide +kernel
theorem dL_law_198 : decode code 198 = .ok (.iaload, 1) := by decide +kernel
theorem dL_law_199 : decode code 199 = .ok (.aload_n 0, 1) := by decide +kernel
theorem dL_law_200 : decode code 200 = .ok (.iload 4, 2) := by decide +kernel
theorem dL_law_202 : decode code 202 = .ok (.iconst 2, 1) := by decide +kernel
theorem dL_law_203 : decode code 203 = .ok (.iadd, 1) := by decide +kernel
theorem dL_law_204 : decode code 204 = .ok (.iaload, 1) := by decide +kernel
theorem dL_law_205 : decode code 205 = .ok (.aload_n 0, 1) := by decide +kernel
theorem dL_law_206 : decode code 206 = .ok (.iload 4, 2) := by decide +kernel
theorem dL_law_208 : decode code 208 = .ok (.iconst 3, 1) := by decide +kernel
theorem dL_law_209 : decode code 209 = .ok (.iadd, 1) := by decide +kernel
theorem dL_law_210 : decode code 210 = .ok (.iaload, 1) := by decide +kernel
theorem dL_law_211 : decode code 211 = .ok (.invokevirtual 41, 3) := by decide +kernel
theorem dL_law_214 : decode code 214 = .ok (.if_icmp .eq 528, 3) := by decide +kernel
theorem dL_law_217 : decode code 217 = .ok (.iconst 0, 1) := by decide +kernel
theorem dL_law_218 : decode code 218 = .ok (.ireturn, 1) := by decide +kernel
theorem dL_law_219 : decode code 219 = .ok (.aload_n 1, 1) := by decide +kernel
theorem dL_law_220 : decode code 220 = .ok (.aload_n 0, 1) := by decide +kernel
theorem dL_law_221 : decode code 221 = .ok (.iload 4, 2) := by decide +kernel
theorem dL_law_223 : decode code 223 = .ok (.iconst 1, 1) := by decide +kernel
theorem dL_law_224 : decode code 224 = .ok (.iadd, 1) := by decide +kernel
theorem dL_law_225 : decode code 225 = .ok (.iaload, 1) := by decide +kernel
theorem dL_law_226 : decode code 226 = .ok (.aload_n 0, 1) := by decide +kernel
theorem dL_law_227 : decode code 227 = .ok (.iload 4, 2) := by decide +kernel
theorem dL_law_229 : decode code 229 = .ok (.iconst 2, 1) := by decide +kernel
theorem dL_law_230 : decode code 230 = .ok (.iadd, 1) := by decide +kernel
theorem dL_law_231 : decode code 231 = .ok (.iaload, 1) := by decide +kernel
theorem dL_law_232 : decode code 232 = .ok (.aload_n 0, 1) := by decide +kernel
theorem dL_law_233 : decode code 233 = .ok (.iload 4, 2) := by decide +kernel
theorem dL_law_235 : decode code 235 = .ok (.iconst 3, 1) := by decide +kernel
theorem dL_law_236 : decode code 236 = .ok (.iadd, 1) := by decide +kernel
theorem dL_law_237 : decode code 237 = .ok (.iaload, 1) := by decide +kernel
theorem dL_law_238 : decode code 238 = .ok (.invokevirtual 42, 3) := by decide +kernel
theorem dL_law_241 : decode code 241 = .ok (.aload_n 2, 1) := by decide +kernel
theorem dL_law_242 : decode code 242 = .ok (.aload_n 0, 1) := by decide +kernel
theorem dL_law_243 : decode code 243 = .ok (.iload 4, 2) := by decide +kernel
theorem dL_law_245 : decode code 245 = .ok (.iconst 1, 1) := by decide +kernel
theorem dL_law_246 : decode code 246 = .ok (.iadd, 1) := by decide +kernel
theorem dL_law_247 : decode code 247 = .ok (.iaload, 1) := by decide +kernel
theorem dL_law_248 : decode code 248 = .ok (.aload_n 0, 1) := by decide +kernel
theorem dL_law_249 : decode code 249 = .ok (.iload 4, 2) := by decide +kernel
theorem dL_law_251 : decode code 251 = .ok (.iconst 2, 1) := by decide +kernel
theorem dL_law_252 : decode code 252 = .ok (.iadd, 1) := by decide +kernel
theorem dL_law_253 : decode code 253 = .ok (.iaload, 1) := by decide +kernel
theorem dL_law_254 : decode code 254 = .ok (.aload_n 0, 1) := by decide +kernel
theorem dL_law_255 : decode code 255 = .ok (.iload 4, 2) := by decide +kernel
theorem dL_law_257 : decode code 257 = .ok (.iconst 3, 1) := by decide +kernel
theorem dL_law_258 : decode code 258 = .ok (.iadd, 1) := by decide +kernel
theorem dL_law_259 : decode code 259 = .ok (.iaload, 1) := by decide +kernel
theorem dL_law_260 : decode code 260 = .ok (.invokevirtual 46, 3) := by decide +kernel
theorem dL_law_263 : decode code 263 = .ok (.if_icmp .eq 479, 3) := by decide +kernel
theorem dL_law_266 : decode code 266 = .ok (.iconst 0, 1) := by decide +kernel
theorem dL_law_267 : decode code 267 = .ok (.ireturn, 1) := by decide +kernel
theorem dL_law_268 : decode code 268 = .ok (.aload_n 1, 1) := by decide +kernel
theorem dL_law_269 : decode code 269 = .ok (.aload_n 0, 1) := by decide +kernel
theorem dL_law_270 : decode code 270 = .ok (.iload 4, 2) := by decide +kernel
theorem dL_law_272 : decode code 272 = .ok (.iconst 1, 1) := by decide +kernel
theorem dL_law_273 : decode code 273 = .ok (.iadd, 1) := by decide +kernel
theorem dL_law_274 : decode code 274 = .ok (.iaload, 1) := by decide +kernel
theorem dL_law_275 : decode code 275 = .ok (.aload_n 0, 1) := by decide +kernel
theorem dL_law_276 : decode code 276 = .ok (.iload 4, 2) := by decide +kernel
theorem dL_law_278 : decode code 278 = .ok (.iconst 2, 1) := by decide +kernel
theorem dL_law_279 : decode code 279 = .ok (.iadd, 1) := by decide +kernel
theorem dL_law_280 : decode code 280 = .ok (.iaload, 1) := by decide +kernel
theorem dL_law_281 : decode code 281 = .ok (.invokevirtual 47, 3) := by decide +kernel
theorem dL_law_284 : decode code 284 = .ok (.aload_n 2, 1) := by decide +kernel
theorem dL_law_285 : decode code 285 = .ok (.aload_n 0, 1) := by decide +kernel
theorem dL_law_286 : decode code 286 = .ok (.iload 4, 2) := by decide +kernel
theorem dL_law_288 : decode code 288 = .ok (.iconst 1, 1) := by decide +kernel
theorem dL_law_289 : decode code 289 = .ok (.iadd, 1) := by decide +kernel
theorem dL_law_290 : decode code 290 = .ok (.iaload, 1) := by decide +kernel
theorem dL_law_291 : decode code 291 = .ok (.aload_n 0, 1) := by decide +kernel
theorem dL_law_292 : decode code 292 = .ok (.iload 4, 2) := by decide +kernel
theorem dL_law_294 : decode code 294 = .ok (.iconst 2, 1) := by decide +kernel
theorem dL_law_295 : decode code 295 = .ok (.iadd, 1) := by decide +kernel
theorem dL_law_296 : decode code 296 = .ok (.iaload, 1) := by decide +kernel
theorem dL_law_297 : decode code 297 = .ok (.invokevirtual 51, 3) := by decide +kernel
theorem dL_law_300 : decode code 300 = .ok (.lcmp, 1) := by decide +kernel
theorem dL_law_301 : decode code 301 = .ok (.ifCond .eq 441, 3) := by decide +kernel
theorem dL_law_304 : decode code 304 = .ok (.iconst 0, 1) := by decide +kernel
theorem dL_law_305 : decode code 305 = .ok (.ireturn, 1) := by decide +kernel
theorem dL_law_306 : decode code 306 = .ok (.aload_n 1, 1) := by decide +kernel
theorem dL_law_307 : decode code 307 = .ok (.aload_n 0, 1) := by decide +kernel
theorem dL_law_308 : decode code 308 = .ok (.iload 4, 2) := by decide +kernel
theorem dL_law_310 : decode code 310 = .ok (.iconst 1, 1) := by decide +kernel
theorem dL_law_311 : decode code 311 = .ok (.iadd, 1) := by decide +kernel
theorem dL_law_312 : decode code 312 = .ok (.iaload, 1) := by decide +kernel
theorem dL_law_313 : decode code 313 = .ok (.invokevirtual 52, 3) := by decide +kernel
theorem dL_law_316 : decode code 316 = .ok (.aload_n 2, 1) := by decide +kernel
theorem dL_law_317 : decode code 317 = .ok (.aload_n 0, 1) := by decide +kernel
theorem dL_law_318 : decode code 318 = .ok (.iload 4, 2) := by decide +kernel
theorem dL_law_320 : decode code 320 = .ok (.iconst 1, 1) := by decide +kernel
theorem dL_law_321 : decode code 321 = .ok (.iadd, 1) := by decide +kernel
theorem dL_law_322 : decode code 322 = .ok (.iaload, 1) := by decide +kernel
theorem dL_law_323 : decode code 323 = .ok (.invokevirtual 55, 3) := by decide +kernel
theorem dL_law_326 : decode code 326 = .ok (.if_icmp .eq 416, 3) := by decide +kernel
theorem dL_law_329 : decode code 329 = .ok (.iconst 0, 1) := by decide +kernel
theorem dL_law_330 : decode code 330 = .ok (.ireturn, 1) := by decide +kernel
theorem dL_law_331 : decode code 331 = .ok (.aload_n 1, 1) := by decide +kernel
theorem dL_law_332 : decode code 332 = .ok (.aload_n 0, 1) := by decide +kernel
theorem dL_law_333 : decode code 333 = .ok (.iload 4, 2) := by decide +kernel
theorem dL_law_335 : decode code 335 = .ok (.iconst 1, 1) := by decide +kernel
theorem dL_law_336 : decode code 336 = .ok (.iadd, 1) := by decide +kernel
theorem dL_law_337 : decode code 337 = .ok (.iaload, 1) := by decide +kernel
theorem dL_law_338 : decode code 338 = .ok (.aload_n 0, 1) := by decide +kernel
theorem dL_law_339 : decode code 339 = .ok (.iload 4, 2) := by decide +kernel
theorem dL_law_341 : decode code 341 = .ok (.iconst 2, 1) := by decide +kernel
theorem dL_law_342 : decode code 342 = .ok (.iadd, 1) := by decide +kernel
theorem dL_law_343 : decode code 343 = .ok (.iaload, 1) := by decide +kernel
theorem dL_law_344 : decode code 344 = .ok (.aload_n 0, 1) := by decide +kernel
theorem dL_law_345 : decode code 345 = .ok (.iload 4, 2) := by decide +kernel
theorem dL_law_347 : decode code 347 = .ok (.iconst 3, 1) := by decide +kernel
theorem dL_law_348 : decode code 348 = .ok (.iadd, 1) := by decide +kernel
theorem dL_law_349 : decode code 349 = .ok (.iaload, 1) := by decide +kernel
theorem dL_law_350 : decode code 350 = .ok (.aload_n 0, 1) := by decide +kernel
theorem dL_law_351 : decode code 351 = .ok (.iload 4, 2) := by decide +kernel
theorem dL_law_353 : decode code 353 = .ok (.iconst 4, 1) := by decide +kernel
theorem dL_law_354 : decode code 354 = .ok (.iadd, 1) := by decide +kernel
theorem dL_law_355 : decode code 355 = .ok (.iaload, 1) := by decide +kernel
theorem dL_law_356 : decode code 356 = .ok (.invokevirtual 56, 3) := by decide +kernel
theorem dL_law_359 : decode code 359 = .ok (.aload_n 2, 1) := by decide +kernel
theorem dL_law_360 : decode code 360 = .ok (.aload_n 0, 1) := by decide +kernel
theorem dL_law_361 : decode code 361 = .ok (.iload 4, 2) := by decide +kernel
theorem dL_law_363 : decode code 363 = .ok (.iconst 1, 1) := by decide +kernel
theorem dL_law_364 : decode code 364 = .ok (.iadd, 1) := by decide +kernel
theorem dL_law_365 : decode code 365 = .ok (.iaload, 1) := by decide +kernel
theorem dL_law_366 : decode code 366 = .ok (.aload_n 0, 1) := by decide +kernel
theorem dL_law_367 : decode code 367 = .ok (.iload 4, 2) := by decide +kernel
theorem dL_law_369 : decode code 369 = .ok (.iconst 2, 1) := by decide +kernel
theorem dL_law_370 : decode code 370 = .ok (.iadd, 1) := by decide +kernel
theorem dL_law_371 : decode code 371 = .ok (.iaload, 1) := by decide +kernel
theorem dL_law_372 : decode code 372 = .ok (.aload_n 0, 1) := by decide +kernel
theorem dL_law_373 : decode code 373 = .ok (.iload 4, 2) := by decide +kernel
theorem dL_law_375 : decode code 375 = .ok (.iconst 3, 1) := by decide +kernel
theorem dL_law_376 : decode code 376 = .ok (.iadd, 1) := by decide +kernel
theorem dL_law_377 : decode code 377 = .ok (.iaload, 1) := by decide +kernel
theorem dL_law_378 : decode code 378 = .ok (.aload_n 0, 1) := by decide +kernel
theorem dL_law_379 : decode code 379 = .ok (.iload 4, 2) := by decide +kernel
theorem dL_law_381 : decode code 381 = .ok (.iconst 4, 1) := by decide +kernel
theorem dL_law_382 : decode code 382 = .ok (.iadd, 1) := by decide +kernel
theorem dL_law_383 : decode code 383 = .ok (.iaload, 1) := by decide +kernel
theorem dL_law_384 : decode code 384 = .ok (.invokevirtual 60, 3) := by decide +kernel
theorem dL_law_387 : decode code 387 = .ok (.if_icmp .eq 355, 3) := by decide +kernel
theorem dL_law_390 : decode code 390 = .ok (.iconst 0, 1) := by decide +kernel
theorem dL_law_391 : decode code 391 = .ok (.ireturn, 1) := by decide +kernel
theorem dL_law_392 : decode code 392 = .ok (.aload_n 1, 1) := by decide +kernel
theorem dL_law_393 : decode code 393 = .ok (.aload_n 0, 1) := by decide +kernel
theorem dL_law_394 : decode code 394 = .ok (.iload 4, 2) := by decide +kernel
theorem dL_law_396 : decode code 396 = .ok (.iconst 1, 1) := by decide +kernel
theorem dL_law_397 : decode code 397 = .ok (.iadd, 1) := by decide +kernel
theorem dL_law_398 : decode code 398 = .ok (.iaload, 1) := by decide +kernel
theorem dL_law_399 : decode code 399 = .ok (.aload_n 0, 1) := by decide +kernel
theorem dL_law_400 : decode code 400 = .ok (.iload 4, 2) := by decide +kernel
theorem dL_law_402 : decode code 402 = .ok (.iconst 2, 1) := by decide +kernel
theorem dL_law_403 : decode code 403 = .ok (.iadd, 1) := by decide +kernel
theorem dL_law_404 : decode code 404 = .ok (.iaload, 1) := by decide +kernel
theorem dL_law_405 : decode code 405 = .ok (.invokevirtual 61, 3) := by decide +kernel
theorem dL_law_408 : decode code 408 = .ok (.aload_n 2, 1) := by decide +kernel
theorem dL_law_409 : decode code 409 = .ok (.aload_n 0, 1) := by decide +kernel
theorem dL_law_410 : decode code 410 = .ok (.iload 4, 2) := by decide +kernel
theorem dL_law_412 : decode code 412 = .ok (.iconst 1, 1) := by decide +kernel
theorem dL_law_413 : decode code 413 = .ok (.iadd, 1) := by decide +kernel
theorem dL_law_414 : decode code 414 = .ok (.iaload, 1) := by decide +kernel
theorem dL_law_415 : decode code 415 = .ok (.aload_n 0, 1) := by decide +kernel
theorem dL_law_416 : decode code 416 = .ok (.iload 4, 2) := by decide +kernel
theorem dL_law_418 : decode code 418 = .ok (.iconst 2, 1) := by decide +kernel
theorem dL_law_419 : decode code 419 = .ok (.iadd, 1) := by decide +kernel
theorem dL_law_420 : decode code 420 = .ok (.iaload, 1) := by decide +kernel
theorem dL_law_421 : decode code 421 = .ok (.invokevirtual 64, 3) := by decide +kernel
theorem dL_law_424 : decode code 424 = .ok (.lcmp, 1) := by decide +kernel
theorem dL_law_425 : decode code 425 = .ok (.ifCond .eq 317, 3) := by decide +kernel
theorem dL_law_428 : decode code 428 = .ok (.iconst 0, 1) := by decide +kernel
theorem dL_law_429 : decode code 429 = .ok (.ireturn, 1) := by decide +kernel
theorem dL_law_430 : decode code 430 = .ok (.aload_n 1, 1) := by decide +kernel
theorem dL_law_431 : decode code 431 = .ok (.aload_n 0, 1) := by decide +kernel
theorem dL_law_432 : decode code 432 = .ok (.iload 4, 2) := by decide +kernel
theorem dL_law_434 : decode code 434 = .ok (.iconst 1, 1) := by decide +kernel
theorem dL_law_435 : decode code 435 = .ok (.iadd, 1) := by decide +kernel
theorem dL_law_436 : decode code 436 = .ok (.iaload, 1) := by decide +kernel
theorem dL_law_437 : decode code 437 = .ok (.invokevirtual 65, 3) := by decide +kernel
theorem dL_law_440 : decode code 440 = .ok (.dstore 5, 2) := by decide +kernel
theorem dL_law_442 : decode code 442 = .ok (.aload_n 2, 1) := by decide +kernel
theorem dL_law_443 : decode code 443 = .ok (.aload_n 0, 1) := by decide +kernel
theorem dL_law_444 : decode code 444 = .ok (.iload 4, 2) := by decide +kernel
theorem dL_law_446 : decode code 446 = .ok (.iconst 1, 1) := by decide +kernel
theorem dL_law_447 : decode code 447 = .ok (.iadd, 1) := by decide +kernel
theorem dL_law_448 : decode code 448 = .ok (.iaload, 1) := by decide +kernel
theorem dL_law_449 : decode code 449 = .ok (.invokevirtual 69, 3) := by decide +kernel
theorem dL_law_452 : decode code 452 = .ok (.dstore 7, 2) := by decide +kernel
theorem dL_law_454 : decode code 454 = .ok (.dload 5, 2) := by decide +kernel
theorem dL_law_456 : decode code 456 = .ok (.dload 7, 2) := by decide +kernel
theorem dL_law_458 : decode code 458 = .ok (.dcmp .l, 1) := by decide +kernel
theorem dL_law_459 : decode code 459 = .ok (.ifCond .eq 21, 3) := by decide +kernel
theorem dL_law_462 : decode code 462 = .ok (.dload 5, 2) := by decide +kernel
theorem dL_law_464 : decode code 464 = .ok (.dload 5, 2) := by decide +kernel
theorem dL_law_466 : decode code 466 = .ok (.dcmp .l, 1) := by decide +kernel
theorem dL_law_467 : decode code 467 = .ok (.ifCond .eq 11, 3) := by decide +kernel
theorem dL_law_470 : decode code 470 = .ok (.dload 7, 2) := by decide +kernel
theorem dL_law_472 : decode code 472 = .ok (.dload 7, 2) := by decide +kernel
theorem dL_law_474 : decode code 474 = .ok (.dcmp .l, 1) := by decide +kernel
theorem dL_law_475 : decode code 475 = .ok (.ifCond .ne 5, 3) := by decide +kernel
theorem dL_law_478 : decode code 478 = .ok (.iconst 0, 1) := by decide +kernel
theorem dL_law_479 : decode code 479 = .ok (.ireturn, 1) := by decide +kernel
theorem dL_law_480 : decode code 480 = .ok (.goto 262, 3) := by decide +kernel
theorem dL_law_483 : decode code 483 = .ok (.aload_n 1, 1) := by decide +kernel
theorem dL_law_484 : decode code 484 = .ok (.aload_n 0, 1) := by decide +kernel
theorem dL_law_485 : decode code 485 = .ok (.iload 4, 2) := by decide +kernel
theorem dL_law_487 : decode code 487 = .ok (.iconst 1, 1) := by decide +kernel
theorem dL_law_488 : decode code 488 = .ok (.iadd, 1) := by decide +kernel
theorem dL_law_489 : decode code 489 = .ok (.iaload, 1) := by decide +kernel
theorem dL_law_490 : decode code 490 = .ok (.aload_n 0, 1) := by decide +kernel
theorem dL_law_491 : decode code 491 = .ok (.iload 4, 2) := by decide +kernel
theorem dL_law_493 : decode code 493 = .ok (.iconst 2, 1) := by decide +kernel
theorem dL_law_494 : decode code 494 = .ok (.iadd, 1) := by decide +kernel
theorem dL_law_495 : decode code 495 = .ok (.iaload, 1) := by decide +kernel
theorem dL_law_496 : decode code 496 = .ok (.aload_n 0, 1) := by decide +kernel
theorem dL_law_497 : decode code 497 = .ok (.iload 4, 2) := by decide +kernel
theorem dL_law_499 : decode code 499 = .ok (.iconst 3, 1) := by decide +kernel
theorem dL_law_500 : decode code 500 = .ok (.iadd, 1) := by decide +kernel
theorem dL_law_501 : decode code 501 = .ok (.iaload, 1) := by decide +kernel
theorem dL_law_502 : decode code 502 = .ok (.ifCond .eq 7, 3) := by decide +kernel
theorem dL_law_505 : decode code 505 = .ok (.iconst 1, 1) := by decide +kernel
theorem dL_law_506 : decode code 506 = .ok (.goto 4, 3) := by decide +kernel
theorem dL_law_509 : decode code 509 = .ok (.iconst 0, 1) := by decide +kernel
theorem dL_law_510 : decode code 510 = .ok (.invokevirtual 70, 3) := by decide +kernel
theorem dL_law_513 : decode code 513 = .ok (.aload_n 2, 1) := by decide +kernel
theorem dL_law_514 : decode code 514 = .ok (.aload_n 0, 1) := by decide +kernel
theorem dL_law_515 : decode code 515 = .ok (.iload 4, 2) := by decide +kernel
theorem dL_law_517 : decode code 517 = .ok (.iconst 1, 1) := by decide +kernel
theorem dL_law_518 : decode code 518 = .ok (.iadd, 1) := by decide +kernel
theorem dL_law_519 : decode code 519 = .ok (.iaload, 1) := by decide +kernel
theorem dL_law_520 : decode code 520 = .ok (.aload_n 0, 1) := by decide +kernel
theorem dL_law_521 : decode code 521 = .ok (.iload 4, 2) := by decide +kernel
theorem dL_law_523 : decode code 523 = .ok (.iconst 2, 1) := by decide +kernel
theorem dL_law_524 : decode code 524 = .ok (.iadd, 1) := by decide +kernel
theorem dL_law_525 : decode code 525 = .ok (.iaload, 1) := by decide +kernel
theorem dL_law_526 : decode code 526 = .ok (.aload_n 0, 1) := by decide +kernel
theorem dL_law_527 : decode code 527 = .ok (.iload 4, 2) := by decide +kernel
theorem dL_law_529 : decode code 529 = .ok (.iconst 3, 1) := by decide +kernel
theorem dL_law_530 : decode code 530 = .ok (.iadd, 1) := by decide +kernel
theorem dL_law_531 : decode code 531 = .ok (.iaload, 1) := by decide +kernel
theorem dL_law_532 : decode code 532 = .ok (.ifCond .eq 7, 3) := by decide +kernel
theorem dL_law_535 : decode code 535 = .ok (.iconst 1, 1) := by decide +kernel
theorem dL_law_536 : decode code 536 = .ok (.goto 4, 3) := by decide +kernel
theorem dL_law_539 : decode code 539 = .ok (.iconst 0, 1) := by decide +kernel
theorem dL_law_540 : decode code 540 = .ok (.invokevirtual 74, 3) := by decide +kernel
theorem dL_law_543 : decode code 543 = .ok (.if_icmp .eq 199, 3) := by decide +kernel
theorem dL_law_546 : decode code 546 = .ok (.iconst 0, 1) := by decide +kernel
theorem dL_law_547 : decode code 547 = .ok (.ireturn, 1) := by decide +kernel
theorem dL_law_548 : decode code 548 = .ok (.aload_n 1, 1) := by decide +kernel
theorem dL_law_549 : decode code 549 = .ok (.aload_n 0, 1) := by decide +kernel
theorem dL_law_550 : decode code 550 = .ok (.iload 4, 2) := by decide +kernel
theorem dL_law_552 : decode code 552 = .ok (.iconst 1, 1) := by decide +kernel
theorem dL_law_553 : decode code 553 = .ok (.iadd, 1) := by decide +kernel
theorem dL_law_554 : decode code 554 = .ok (.iaload, 1) := by decide +kernel
theorem dL_law_555 : decode code 555 = .ok (.invokevirtual 75, 3) := by decide +kernel
theorem dL_law_558 : decode code 558 = .ok (.aload_n 2, 1) := by decide +kernel
theorem dL_law_559 : decode code 559 = .ok (.aload_n 0, 1) := by decide +kernel
theorem dL_law_560 : decode code 560 = .ok (.iload 4, 2) := by decide +kernel
theorem dL_law_562 : decode code 562 = .ok (.iconst 1, 1) := by decide +kernel
theorem dL_law_563 : decode code 563 = .ok (.iadd, 1) := by decide +kernel
theorem dL_law_564 : decode code 564 = .ok (.iaload, 1) := by decide +kernel
theorem dL_law_565 : decode code 565 = .ok (.invokevirtual 79, 3) := by decide +kernel
theorem dL_law_568 : decode code 568 = .ok (.if_icmp .eq 174, 3) := by decide +kernel
theorem dL_law_571 : decode code 571 = .ok (.iconst 0, 1) := by decide +kernel
theorem dL_law_572 : decode code 572 = .ok (.ireturn, 1) := by decide +kernel
theorem dL_law_573 : decode code 573 = .ok (.aload_n 1, 1) := by decide +kernel
theorem dL_law_574 : decode code 574 = .ok (.aload_n 0, 1) := by decide +kernel
theorem dL_law_575 : decode code 575 = .ok (.iload 4, 2) := by decide +kernel
theorem dL_law_577 : decode code 577 = .ok (.iconst 1, 1) := by decide +kernel
theorem dL_law_578 : decode code 578 = .ok (.iadd, 1) := by decide +kernel
theorem dL_law_579 : decode code 579 = .ok (.iaload, 1) := by decide +kernel
theorem dL_law_580 : decode code 580 = .ok (.aload_n 0, 1) := by decide +kernel
theorem dL_law_581 : decode code 581 = .ok (.iload 4, 2) := by decide +kernel
theorem dL_law_583 : decode code 583 = .ok (.iconst 2, 1) := by decide +kernel
theorem dL_law_584 : decode code 584 = .ok (.iadd, 1) := by decide +kernel
theorem dL_law_585 : decode code 585 = .ok (.iaload, 1) := by decide +kernel
theorem dL_law_586 : decode code 586 = .ok (.i2l, 1) := by decide +kernel
theorem dL_law_587 : decode code 587 = .ok (.bipush 32, 2) := by decide +kernel
theorem dL_law_589 : decode code 589 = .ok (.lshl, 1) := by decide +kernel
theorem dL_law_590 : decode code 590 = .ok (.aload_n 0, 1) := by decide +kernel
theorem dL_law_591 : decode code 591 = .ok (.iload 4, 2) := by decide +kernel
theorem dL_law_593 : decode code 593 = .ok (.iconst 3, 1) := by decide +kernel
theorem dL_law_594 : decode code 594 = .ok (.iadd, 1) := by decide +kernel
theorem dL_law_595 : decode code 595 = .ok (.iaload, 1) := by decide +kernel
theorem dL_law_596 : decode code 596 = .ok (.i2l, 1) := by decide +kernel
theorem dL_law_597 : decode code 597 = .ok (.ldc2_w 80, 3) := by decide +kernel
theorem dL_law_600 : decode code 600 = .ok (.land, 1) := by decide +kernel
theorem dL_law_601 : decode code 601 = .ok (.lor, 1) := by decide +kernel
theorem dL_law_602 : decode code 602 = .ok (.aload_n 0, 1) := by decide +kernel
theorem dL_law_603 : decode code 603 = .ok (.iload 4, 2) := by decide +kernel
theorem dL_law_605 : decode code 605 = .ok (.iconst 4, 1) := by decide +kernel
theorem dL_law_606 : decode code 606 = .ok (.iadd, 1) := by decide +kernel
theorem dL_law_607 : decode code 607 = .ok (.iaload, 1) := by decide +kernel
theorem dL_law_608 : decode code 608 = .ok (.i2l, 1) := by decide +kernel
theorem dL_law_609 : decode code 609 = .ok (.bipush 32, 2) := by decide +kernel
theorem dL_law_611 : decode code 611 = .ok (.lshl, 1) := by decide +kernel
theorem dL_law_612 : decode code 612 = .ok (.aload_n 0, 1) := by decide +kernel
theorem dL_law_613 : decode code 613 = .ok (.iload 4, 2) := by decide +kernel
theorem dL_law_615 : decode code 615 = .ok (.iconst 5, 1) := by decide +kernel
theorem dL_law_616 : decode code 616 = .ok (.iadd, 1) := by decide +kernel
theorem dL_law_617 : decode code 617 = .ok (.iaload, 1) := by decide +kernel
theorem dL_law_618 : decode code 618 = .ok (.i2l, 1) := by decide +kernel
theorem dL_law_619 : decode code 619 = .ok (.ldc2_w 80, 3) := by decide +kernel
theorem dL_law_622 : decode code 622 = .ok (.land, 1) := by decide +kernel
theorem dL_law_623 : decode code 623 = .ok (.lor, 1) := by decide +kernel
theorem dL_law_624 : decode code 624 = .ok (.invokevirtual 82, 3) := by decide +kernel
theorem dL_law_627 : decode code 627 = .ok (.aload_n 2, 1) := by decide +kernel
theorem dL_law_628 : decode code 628 = .ok (.aload_n 0, 1) := by decide +kernel
theorem dL_law_629 : decode code 629 = .ok (.iload 4, 2) := by decide +kernel
theorem dL_law_631 : decode code 631 = .ok (.iconst 1, 1) := by decide +kernel
theorem dL_law_632 : decode code 632 = .ok (.iadd, 1) := by decide +kernel
theorem dL_law_633 : decode code 633 = .ok (.iaload, 1) := by decide +kernel
theorem dL_law_634 : decode code 634 = .ok (.aload_n 0, 1) := by decide +kernel
theorem dL_law_635 : decode code 635 = .ok (.iload 4, 2) := by decide +kernel
theorem dL_law_637 : decode code 637 = .ok (.iconst 2, 1) := by decide +kernel
theorem dL_law_638 : decode code 638 = .ok (.iadd, 1) := by decide +kernel
theorem dL_law_639 : decode code 639 = .ok (.iaload, 1) := by decide +kernel
theorem dL_law_640 : decode code 640 = .ok (.i2l, 1) := by decide +kernel
theorem dL_law_641 : decode code 641 = .ok (.bipush 32, 2) := by decide +kernel
theorem dL_law_643 : decode code 643 = .ok (.lshl, 1) := by decide +kernel
theorem dL_law_644 : decode code 644 = .ok (.aload_n 0, 1) := by decide +kernel
theorem dL_law_645 : decode code 645 = .ok (.iload 4, 2) := by decide +kernel
theorem dL_law_647 : decode code 647 = .ok (.iconst 3, 1) := by decide +kernel
theorem dL_law_648 : decode code 648 = .ok (.iadd, 1) := by decide +kernel
theorem dL_law_649 : decode code 649 = .ok (.iaload, 1) := by decide +kernel
theorem dL_law_650 : decode code 650 = .ok (.i2l, 1) := by decide +kernel
theorem dL_law_651 : decode code 651 = .ok (.ldc2_w 80, 3) := by decide +kernel
theorem dL_law_654 : decode code 654 = .ok (.land, 1) := by decide +kernel
theorem dL_law_655 : decode code 655 = .ok (.lor, 1) := by decide +kernel
theorem dL_law_656 : decode code 656 = .ok (.aload_n 0, 1) := by decide +kernel
theorem dL_law_657 : decode code 657 = .ok (.iload 4, 2) := by decide +kernel
theorem dL_law_659 : decode code 659 = .ok (.iconst 4, 1) := by decide +kernel
theorem dL_law_660 : decode code 660 = .ok (.iadd, 1) := by decide +kernel
theorem dL_law_661 : decode code 661 = .ok (.iaload, 1) := by decide +kernel
theorem dL_law_662 : decode code 662 = .ok (.i2l, 1) := by decide +kernel
theorem dL_law_663 : decode code 663 = .ok (.bipush 32, 2) := by decide +kernel
theorem dL_law_665 : decode code 665 = .ok (.lshl, 1) := by decide +kernel
theorem dL_law_666 : decode code 666 = .ok (.aload_n 0, 1) := by decide +kernel
theorem dL_law_667 : decode code 667 = .ok (.iload 4, 2) := by decide +kernel
theorem dL_law_669 : decode code 669 = .ok (.iconst 5, 1) := by decide +kernel
theorem dL_law_670 : decode code 670 = .ok (.iadd, 1) := by decide +kernel
theorem dL_law_671 : decode code 671 = .ok (.iaload, 1) := by decide +kernel
theorem dL_law_672 : decode code 672 = .ok (.i2l, 1) := by decide +kernel
theorem dL_law_673 : decode code 673 = .ok (.ldc2_w 80, 3) := by decide +kernel
theorem dL_law_676 : decode code 676 = .ok (.land, 1) := by decide +kernel
theorem dL_law_677 : decode code 677 = .ok (.lor, 1) := by decide +kernel
theorem dL_law_678 : decode code 678 = .ok (.invokevirtual 86, 3) := by decide +kernel
theorem dL_law_681 : decode code 681 = .ok (.if_icmp .eq 61, 3) := by decide +kernel
theorem dL_law_684 : decode code 684 = .ok (.iconst 0, 1) := by decide +kernel
theorem dL_law_685 : decode code 685 = .ok (.ireturn, 1) := by decide +kernel
theorem dL_law_686 : decode code 686 = .ok (.aload_n 1, 1) := by decide +kernel
theorem dL_law_687 : decode code 687 = .ok (.aload_n 0, 1) := by decide +kernel
theorem dL_law_688 : decode code 688 = .ok (.iload 4, 2) := by decide +kernel
theorem dL_law_690 : decode code 690 = .ok (.iconst 1, 1) := by decide +kernel
theorem dL_law_691 : decode code 691 = .ok (.iadd, 1) := by decide +kernel
theorem dL_law_692 : decode code 692 = .ok (.iaload, 1) := by decide +kernel
theorem dL_law_693 : decode code 693 = .ok (.aload_n 3, 1) := by decide +kernel
theorem dL_law_694 : decode code 694 = .ok (.invokestatic 87, 3) := by decide +kernel
theorem dL_law_697 : decode code 697 = .ok (.istore 5, 2) := by decide +kernel
theorem dL_law_699 : decode code 699 = .ok (.aload_n 2, 1) := by decide +kernel
theorem dL_law_700 : decode code 700 = .ok (.aload_n 0, 1) := by decide +kernel
theorem dL_law_701 : decode code 701 = .ok (.iload 4, 2) := by decide +kernel
theorem dL_law_703 : decode code 703 = .ok (.iconst 1, 1) := by decide +kernel
theorem dL_law_704 : decode code 704 = .ok (.iadd, 1) := by decide +kernel
theorem dL_law_705 : decode code 705 = .ok (.iaload, 1) := by decide +kernel
theorem dL_law_706 : decode code 706 = .ok (.invokevirtual 90, 3) := by decide +kernel
theorem dL_law_709 : decode code 709 = .ok (.istore 6, 2) := by decide +kernel
theorem dL_law_711 : decode code 711 = .ok (.aload_n 2, 1) := by decide +kernel
theorem dL_law_712 : decode code 712 = .ok (.invokevirtual 91, 3) := by decide +kernel
theorem dL_law_715 : decode code 715 = .ok (.iload 5, 2) := by decide +kernel
theorem dL_law_717 : decode code 717 = .ok (.if_icmp .eq 5, 3) := by decide +kernel
theorem dL_law_720 : decode code 720 = .ok (.iconst 0, 1) := by decide +kernel
theorem dL_law_721 : decode code 721 = .ok (.ireturn, 1) := by decide +kernel
theorem dL_law_722 : decode code 722 = .ok (.iload 5, 2) := by decide +kernel
theorem dL_law_724 : decode code 724 = .ok (.ifCond .ne 15, 3) := by decide +kernel
theorem dL_law_727 : decode code 727 = .ok (.aload_n 3, 1) := by decide +kernel
theorem dL_law_728 : decode code 728 = .ok (.iconst 0, 1) := by decide +kernel
theorem dL_law_729 : decode code 729 = .ok (.laload, 1) := by decide +kernel
theorem dL_law_730 : decode code 730 = .ok (.iload 6, 2) := by decide +kernel
theorem dL_law_732 : decode code 732 = .ok (.i2l, 1) := by decide +kernel
theorem dL_law_733 : decode code 733 = .ok (.lcmp, 1) := by decide +kernel
theorem dL_law_734 : decode code 734 = .ok (.ifCond .eq 5, 3) := by decide +kernel
theorem dL_law_737 : decode code 737 = .ok (.iconst 0, 1) := by decide +kernel
theorem dL_law_738 : decode code 738 = .ok (.ireturn, 1) := by decide +kernel
theorem dL_law_739 : decode code 739 = .ok (.goto 3, 3) := by decide +kernel
theorem dL_law_742 : decode code 742 = .ok (.iinc 4 6, 3) := by decide +kernel
theorem dL_law_745 : decode code 745 = .ok (.goto (-710), 3) := by decide +kernel
theorem dL_law_748 : decode code 748 = .ok (.iconst 1, 1) := by decide +kernel
theorem dL_law_749 : decode code 749 = .ok (.ireturn, 1) := by decide +kernel
end
section
/-! xkit: instruction rows with named results, comparisons of small naturals, calls with an exact answer -/
section XK
variable {p : Program} {l : Launch} {e : Env} {R : Room} {s : State} {m : MethodId} {args : Array Value} {below : List Frame} {meth : Method} {c : Code} {H : Heap} {locs : List Loc} {cells slots : Nat} {Q : State → Prop}
variable {cc : ByteArray} {pc : Nat} {ls : Array Slot} {rest : List Value}
theorem x_iadd (hexec : p.tables.exec = Jvm.exec) (hb : c.code = cc) {x y v : Int32} (hdg : decode cc pc = .ok (.iadd, 1)) (hv : x + y = v) (k : W p l e R s m args below meth c H locs cells slots Q (F0 m (pc + 1) ls (.int v :: rest))) : W p l e R s m args below meth c H locs cells slots Q (F0 m pc ls (.int y :: .int x :: rest)) := by
  subst hv
  exact lv_iadd hexec hb hdg k
theorem x_isub (hexec : p.tables.exec = Jvm.exec) (hb : c.code = cc) {x y v : Int32} (hdg : decode cc pc = .ok (.isub, 1)) (hv : x - y = v) (k : W p l e R s m args below meth c H locs cells slots Q (F0 m (pc + 1) ls (.int v :: rest))) : W p l e R s m args below meth c H locs cells slots Q (F0 m pc ls (.int y :: .int x :: rest)) := by
  subst hv
  exact lv_isub hexec hb hdg k
theorem x_imul (hexec : p.tables.exec = Jvm.exec) (hb : c.code = cc) {x y v : Int32} (hdg : decode cc pc = .ok (.imul, 1)) (hv : x * y = v) (k : W p l e R s m args below meth c H locs cells slots Q (F0 m (pc + 1) ls (.int v :: rest))) : W p l e R s m args below meth c H locs cells slots Q (F0 m pc ls (.int y :: .int x :: rest)) := by
  subst hv
  exact lv_imul hexec hb hdg k
theorem x_iand (hexec : p.tables.exec = Jvm.exec) (hb : c.code = cc) {x y v : Int32} (hdg : decode cc pc = .ok (.iand, 1)) (hv : x &&& y = v) (k : W p l e R s m args below meth c H locs cells slots Q (F0 m (pc + 1) ls (.int v :: rest))) : W p l e R s m args below meth c H locs cells slots Q (F0 m pc ls (.int y :: .int x :: rest)) := by
  subst hv
  exact lv_iand hexec hb hdg k
theorem x_ior (hexec : p.tables.exec = Jvm.exec) (hb : c.code = cc) {x y v : Int32} (hdg : decode cc pc = .ok (.ior, 1)) (hv : x ||| y = v) (k : W p l e R s m args below meth c H locs cells slots Q (F0 m (pc + 1) ls (.int v :: rest))) : W p l e R s m args below meth c H locs cells slots Q (F0 m pc ls (.int y :: .int x :: rest)) := by
  subst hv
  exact lv_ior hexec hb hdg k
theorem x_ishl (hexec : p.tables.exec = Jvm.exec) (hb : c.code = cc) {x y v : Int32} (hdg : decode cc pc = .ok (.ishl, 1)) (hv : x <<< (y &&& 31) = v) (k : W p l e R s m args below meth c H locs cells slots Q (F0 m (pc + 1) ls (.int v :: rest))) : W p l e R s m args below meth c H locs cells slots Q (F0 m pc ls (.int y :: .int x :: rest)) := by
  subst hv
  exact lv_ishl hexec hb hdg k
theorem x_ishr (hexec : p.tables.exec = Jvm.exec) (hb : c.code = cc) {x y v : Int32} (hdg : decode cc pc = .ok (.ishr, 1)) (hv : x >>> (y &&& 31) = v) (k : W p l e R s m args below meth c H locs cells slots Q (F0 m (pc + 1) ls (.int v :: rest))) : W p l e R s m args below meth c H locs cells slots Q (F0 m pc ls (.int y :: .int x :: rest)) := by
  subst hv
  exact lv_ishr hexec hb hdg k
theorem x_ladd (hexec : p.tables.exec = Jvm.exec) (hb : c.code = cc) {x y v : Int64} (hdg : decode cc pc = .ok (.ladd, 1)) (hv : x + y = v) (k : W p l e R s m args below meth c H locs cells slots Q (F0 m (pc + 1) ls (.long v :: rest))) : W p l e R s m args below meth c H locs cells slots Q (F0 m pc ls (.long y :: .long x :: rest)) := by
  subst hv
  exact lv_ladd hexec hb hdg k
theorem x_lsub (hexec : p.tables.exec = Jvm.exec) (hb : c.code = cc) {x y v : Int64} (hdg : decode cc pc = .ok (.lsub, 1)) (hv : x - y = v) (k : W p l e R s m args below meth c H locs cells slots Q (F0 m (pc + 1) ls (.long v :: rest))) : W p l e R s m args below meth c H locs cells slots Q (F0 m pc ls (.long y :: .long x :: rest)) := by
  subst hv
  exact lv_lsub hexec hb hdg k
theorem x_lmul (hexec : p.tables.exec = Jvm.exec) (hb : c.code = cc) {x y v : Int64} (hdg : decode cc pc = .ok (.lmul, 1)) (hv : x * y = v) (k : W p l e R s m args below meth c H locs cells slots Q (F0 m (pc + 1) ls (.long v :: rest))) : W p l e R s m args below meth c H locs cells slots Q (F0 m pc ls (.long y :: .long x :: rest)) := by
  subst hv
  exact lv_lmul hexec hb hdg k
theorem x_land (hexec : p.tables.exec = Jvm.exec) (hb : c.code = cc) {x y v : Int64} (hdg : decode cc pc = .ok (.land, 1)) (hv : x &&& y = v) (k : W p l e R s m args below meth c H locs cells slots Q (F0 m (pc + 1) ls (.long v :: rest))) : W p l e R s m args below meth c H locs cells slots Q (F0 m pc ls (.long y :: .long x :: rest)) := by
  subst hv
  exact lv_land hexec hb hdg k
theorem x_lor (hexec : p.tables.exec = Jvm.exec) (hb : c.code = cc) {x y v : Int64} (hdg : decode cc pc = .ok (.lor, 1)) (hv : x ||| y = v) (k : W p l e R s m args below meth c H locs cells slots Q (F0 m (pc + 1) ls (.long v :: rest))) : W p l e R s m args below meth c H locs cells slots Q (F0 m pc ls (.long y :: .long x :: rest)) := by
  subst hv
  exact lv_lor hexec hb hdg k
theorem x_idiv (hexec : p.tables.exec = Jvm.exec) (hb : c.code = cc) {x y v : Int32} (hdg : decode cc pc = .ok (.idiv, 1)) (hne : ¬ y = 0) (hv : x / y = v) (k : W p l e R s m args below meth c H locs cells slots Q (F0 m (pc + 1) ls (.int v :: rest))) : W p l e R s m args below meth c H locs cells slots Q (F0 m pc ls (.int y :: .int x :: rest)) := by
  subst hv
  exact lv_idiv hexec hb hdg hne k
theorem x_irem (hexec : p.tables.exec = Jvm.exec) (hb : c.code = cc) {x y v : Int32} (hdg : decode cc pc = .ok (.irem, 1)) (hne : ¬ y = 0) (hv : x - x / y * y = v) (k : W p l e R s m args below meth c H locs cells slots Q (F0 m (pc + 1) ls (.int v :: rest))) : W p l e R s m args below meth c H locs cells slots Q (F0 m pc ls (.int y :: .int x :: rest)) := by
  subst hv
  exact lv_irem hexec hb hdg hne k
theorem x_ldiv (hexec : p.tables.exec = Jvm.exec) (hb : c.code = cc) {x y v : Int64} (hdg : decode cc pc = .ok (.ldiv, 1)) (hne : ¬ y = 0) (hv : x / y = v) (k : W p l e R s m args below meth c H locs cells slots Q (F0 m (pc + 1) ls (.long v :: rest))) : W p l e R s m args below meth c H locs cells slots Q (F0 m pc ls (.long y :: .long x :: rest)) := by
  subst hv
  exact lv_ldiv hexec hb hdg hne k
theorem x_lrem (hexec : p.tables.exec = Jvm.exec) (hb : c.code = cc) {x y v : Int64} (hdg : decode cc pc = .ok (.lrem, 1)) (hne : ¬ y = 0) (hv : x - x / y * y = v) (k : W p l e R s m args below meth c H locs cells slots Q (F0 m (pc + 1) ls (.long v :: rest))) : W p l e R s m args below meth c H locs cells slots Q (F0 m pc ls (.long y :: .long x :: rest)) := by
  subst hv
  exact lv_lrem hexec hb hdg hne k
theorem x_topn {a b : Nat} (h : a = b) (k : W p l e R s m args below meth c H locs cells slots Q (F0 m pc ls (.int (nI b) :: rest))) : W p l e R s m args below meth c H locs cells slots Q (F0 m pc ls (.int (nI a) :: rest)) := h ▸ k
theorem x_topi {x y : Int32} (h : x = y) (k : W p l e R s m args below meth c H locs cells slots Q (F0 m pc ls (.int y :: rest))) : W p l e R s m args below meth c H locs cells slots Q (F0 m pc ls (.int x :: rest)) := h ▸ k
theorem x_topl {x y : Int64} (h : x = y) (k : W p l e R s m args below meth c H locs cells slots Q (F0 m pc ls (.long y :: rest))) : W p l e R s m args below meth c H locs cells slots Q (F0 m pc ls (.long x :: rest)) := h ▸ k
theorem x_clt (hexec : p.tables.exec = Jvm.exec) (hb : c.code = cc) {a b : Nat} {off : Int} {tgt : Nat} (hdg : decode cc pc = .ok (.if_icmp .lt off, 3)) (ht : (pc : Int) + off = (tgt : Int)) (ha : a < 2 ^ 31) (hb2 : b < 2 ^ 31) (kt : a < b → W p l e R s m args below meth c H locs cells slots Q (F0 m tgt ls rest)) (kf : b ≤ a → W p l e R s m args below meth c H locs cells slots Q (F0 m (pc + 3) ls rest)) : W p l e R s m args below meth c H locs cells slots Q (F0 m pc ls (.int (nI b) :: .int (nI a) :: rest)) :=
  lv_icmp_lt hexec hb hdg ht (fun h => kt ((nI_ltI ha hb2).mp h)) (fun h => kf (Nat.le_of_not_lt fun q => h ((nI_ltI ha hb2).mpr q)))
theorem x_cge (hexec : p.tables.exec = Jvm.exec) (hb : c.code = cc) {a b : Nat} {off : Int} {tgt : Nat} (hdg : decode cc pc = .ok (.if_icmp .ge off, 3)) (ht : (pc : Int) + off = (tgt : Int)) (ha : a < 2 ^ 31) (hb2 : b < 2 ^ 31) (kt : b ≤ a → W p l e R s m args below meth c H locs cells slots Q (F0 m tgt ls rest)) (kf : a < b → W p l e R s m args below meth c H locs cells slots Q (F0 m (pc + 3) ls rest)) : W p l e R s m args below meth c H locs cells slots Q (F0 m pc ls (.int (nI b) :: .int (nI a) :: rest)) :=
  lv_icmp_ge hexec hb hdg ht (fun h => kt ((nI_leI hb2 ha).mp h)) (fun h => kf (Nat.lt_of_not_le fun q => h ((nI_leI hb2 ha).mpr q)))
theorem x_cgt (hexec : p.tables.exec = Jvm.exec) (hb : c.code = cc) {a b : Nat} {off : Int} {tgt : Nat} (hdg : decode cc pc = .ok (.if_icmp .gt off, 3)) (ht : (pc : Int) + off = (tgt : Int)) (ha : a < 2 ^ 31) (hb2 : b < 2 ^ 31) (kt : b < a → W p l e R s m args below meth c H locs cells slots Q (F0 m tgt ls rest)) (kf : a ≤ b → W p l e R s m args below meth c H locs cells slots Q (F0 m (pc + 3) ls rest)) : W p l e R s m args below meth c H locs cells slots Q (F0 m pc ls (.int (nI b) :: .int (nI a) :: rest)) :=
  lv_icmp_gt hexec hb hdg ht (fun h => kt ((nI_ltI hb2 ha).mp h)) (fun h => kf (Nat.le_of_not_lt fun q => h ((nI_ltI hb2 ha).mpr q)))
theorem x_cle (hexec : p.tables.exec = Jvm.exec) (hb : c.code = cc) {a b : Nat} {off : Int} {tgt : Nat} (hdg : decode cc pc = .ok (.if_icmp .le off, 3)) (ht : (pc : Int) + off = (tgt : Int)) (ha : a < 2 ^ 31) (hb2 : b < 2 ^ 31) (kt : a ≤ b → W p l e R s m args below meth c H locs cells slots Q (F0 m tgt ls rest)) (kf : b < a → W p l e R s m args below meth c H locs cells slots Q (F0 m (pc + 3) ls rest)) : W p l e R s m args below meth c H locs cells slots Q (F0 m pc ls (.int (nI b) :: .int (nI a) :: rest)) :=
  lv_icmp_le hexec hb hdg ht (fun h => kt ((nI_leI ha hb2).mp h)) (fun h => kf (Nat.lt_of_not_le fun q => h ((nI_leI ha hb2).mpr q)))
theorem x_ceq (hexec : p.tables.exec = Jvm.exec) (hb : c.code = cc) {a b : Nat} {off : Int} {tgt : Nat} (hdg : decode cc pc = .ok (.if_icmp .eq off, 3)) (ht : (pc : Int) + off = (tgt : Int)) (ha : a < 2 ^ 31) (hb2 : b < 2 ^ 31) (kt : a = b → W p l e R s m args below meth c H locs cells slots Q (F0 m tgt ls rest)) (kf : a ≠ b → W p l e R s m args below meth c H locs cells slots Q (F0 m (pc + 3) ls rest)) : W p l e R s m args below meth c H locs cells slots Q (F0 m pc ls (.int (nI b) :: .int (nI a) :: rest)) :=
  lv_icmp_eq hexec hb hdg ht (fun h => kt ((nI_eq ha hb2).mp h)) (fun h => kf (fun q => h ((nI_eq ha hb2).mpr q)))
theorem x_cne (hexec : p.tables.exec = Jvm.exec) (hb : c.code = cc) {a b : Nat} {off : Int} {tgt : Nat} (hdg : decode cc pc = .ok (.if_icmp .ne off, 3)) (ht : (pc : Int) + off = (tgt : Int)) (ha : a < 2 ^ 31) (hb2 : b < 2 ^ 31) (kt : a ≠ b → W p l e R s m args below meth c H locs cells slots Q (F0 m tgt ls rest)) (kf : a = b → W p l e R s m args below meth c H locs cells slots Q (F0 m (pc + 3) ls rest)) : W p l e R s m args below meth c H locs cells slots Q (F0 m pc ls (.int (nI b) :: .int (nI a) :: rest)) :=
  lv_icmp_ne hexec hb hdg ht (fun h => kt (fun q => h ((nI_eq ha hb2).mpr q))) (fun h => kf ((nI_eq ha hb2).mp h))
theorem x_zeq (hexec : p.tables.exec = Jvm.exec) (hb : c.code = cc) {a : Nat} {off : Int} {tgt : Nat} (hdg : decode cc pc = .ok (.ifCond .eq off, 3)) (ht : (pc : Int) + off = (tgt : Int)) (ha : a < 2 ^ 31) (kt : a = 0 → W p l e R s m args below meth c H locs cells slots Q (F0 m tgt ls rest)) (kf : a ≠ 0 → W p l e R s m args below meth c H locs cells slots Q (F0 m (pc + 3) ls rest)) : W p l e R s m args below meth c H locs cells slots Q (F0 m pc ls (.int (nI a) :: rest)) :=
  lv_if_eq hexec hb hdg ht (fun h => kt ((nI_eq ha (by decide : 0 < 2 ^ 31)).mp (by rw [nI_0]; exact h))) (fun h => kf (fun q => h (by rw [q]; exact nI_0)))
theorem x_zne (hexec : p.tables.exec = Jvm.exec) (hb : c.code = cc) {a : Nat} {off : Int} {tgt : Nat} (hdg : decode cc pc = .ok (.ifCond .ne off, 3)) (ht : (pc : Int) + off = (tgt : Int)) (ha : a < 2 ^ 31) (kt : a ≠ 0 → W p l e R s m args below meth c H locs cells slots Q (F0 m tgt ls rest)) (kf : a = 0 → W p l e R s m args below meth c H locs cells slots Q (F0 m (pc + 3) ls rest)) : W p l e R s m args below meth c H locs cells slots Q (F0 m pc ls (.int (nI a) :: rest)) :=
  lv_if_ne hexec hb hdg ht (fun h => kt (fun q => h (by rw [q]; exact nI_0))) (fun h => kf ((nI_eq ha (by decide : 0 < 2 ^ 31)).mp (by rw [nI_0]; exact h)))
theorem x_zgt (hexec : p.tables.exec = Jvm.exec) (hb : c.code = cc) {a : Nat} {off : Int} {tgt : Nat} (hdg : decode cc pc = .ok (.ifCond .gt off, 3)) (ht : (pc : Int) + off = (tgt : Int)) (ha : a < 2 ^ 31) (kt : 0 < a → W p l e R s m args below meth c H locs cells slots Q (F0 m tgt ls rest)) (kf : a = 0 → W p l e R s m args below meth c H locs cells slots Q (F0 m (pc + 3) ls rest)) : W p l e R s m args below meth c H locs cells slots Q (F0 m pc ls (.int (nI a) :: rest)) :=
  lv_if_gt hexec hb hdg ht (fun h => kt ((nI_ltI (by decide : 0 < 2 ^ 31) ha).mp (by rw [nI_0]; exact h))) (fun h => kf (Nat.eq_zero_of_not_pos fun q => h (by rw [← nI_0]; exact (nI_ltI (by decide : 0 < 2 ^ 31) ha).mpr q)))
theorem x_zle (hexec : p.tables.exec = Jvm.exec) (hb : c.code = cc) {a : Nat} {off : Int} {tgt : Nat} (hdg : decode cc pc = .ok (.ifCond .le off, 3)) (ht : (pc : Int) + off = (tgt : Int)) (ha : a < 2 ^ 31) (kt : a = 0 → W p l e R s m args below meth c H locs cells slots Q (F0 m tgt ls rest)) (kf : 0 < a → W p l e R s m args below meth c H locs cells slots Q (F0 m (pc + 3) ls rest)) : W p l e R s m args below meth c H locs cells slots Q (F0 m pc ls (.int (nI a) :: rest)) :=
  lv_if_le hexec hb hdg ht (fun h => kt (Nat.le_zero.mp ((nI_leI ha (by decide : 0 < 2 ^ 31)).mp (by rw [nI_0]; exact h)))) (fun h => kf (Nat.pos_of_ne_zero fun q => h (by rw [q, nI_0]; exact Int32.le_refl _)))
theorem x_zlt (hexec : p.tables.exec = Jvm.exec) (hb : c.code = cc) {a : Nat} {off : Int} {tgt : Nat} (hdg : decode cc pc = .ok (.ifCond .lt off, 3)) (ht : (pc : Int) + off = (tgt : Int)) (ha : a < 2 ^ 31) (kf : W p l e R s m args below meth c H locs cells slots Q (F0 m (pc + 3) ls rest)) : W p l e R s m args below meth c H locs cells slots Q (F0 m pc ls (.int (nI a) :: rest)) :=
  lv_if_lt hexec hb hdg ht (fun h => absurd h (nI_pos ha)) (fun _ => kf)
theorem x_zge (hexec : p.tables.exec = Jvm.exec) (hb : c.code = cc) {a : Nat} {off : Int} {tgt : Nat} (hdg : decode cc pc = .ok (.ifCond .ge off, 3)) (ht : (pc : Int) + off = (tgt : Int)) (ha : a < 2 ^ 31) (kt : W p l e R s m args below meth c H locs cells slots Q (F0 m tgt ls rest)) : W p l e R s m args below meth c H locs cells slots Q (F0 m pc ls (.int (nI a) :: rest)) :=
  lv_if_ge hexec hb hdg ht (fun _ => kt) (fun h => absurd (nI_pos' ha) h)
theorem x_lge (hexec : p.tables.exec = Jvm.exec) (hb : c.code = cc) {x y : Int64} {off : Int} {tgt : Nat} (hd1 : decode cc pc = .ok (.lcmp, 1)) (hdg : decode cc (pc + 1) = .ok (.ifCond .ge off, 3)) (ht : ((pc + 1 : Nat) : Int) + off = (tgt : Int)) (kt : y ≤ x → W p l e R s m args below meth c H locs cells slots Q (F0 m tgt ls rest)) (kf : ¬ y ≤ x → W p l e R s m args below meth c H locs cells slots Q (F0 m (pc + 1 + 3) ls rest)) : W p l e R s m args below meth c H locs cells slots Q (F0 m pc ls (.long y :: .long x :: rest)) :=
  W.lcmp hexec hb hd1 (lv_if_ge hexec hb hdg ht (fun h => kt ((lg_cmp_ge x y).mp h)) (fun h => kf (fun q => h ((lg_cmp_ge x y).mpr q))))
theorem x_lle (hexec : p.tables.exec = Jvm.exec) (hb : c.code = cc) {x y : Int64} {off : Int} {tgt : Nat} (hd1 : decode cc pc = .ok (.lcmp, 1)) (hdg : decode cc (pc + 1) = .ok (.ifCond .le off, 3)) (ht : ((pc + 1 : Nat) : Int) + off = (tgt : Int)) (kt : x ≤ y → W p l e R s m args below meth c H locs cells slots Q (F0 m tgt ls rest)) (kf : ¬ x ≤ y → W p l e R s m args below meth c H locs cells slots Q (F0 m (pc + 1 + 3) ls rest)) : W p l e R s m args below meth c H locs cells slots Q (F0 m pc ls (.long y :: .long x :: rest)) :=
  W.lcmp hexec hb hd1 (lv_if_le hexec hb hdg ht (fun h => kt ((lg_cmp_le x y).mp h)) (fun h => kf (fun q => h ((lg_cmp_le x y).mpr q))))
theorem x_lgt (hexec : p.tables.exec = Jvm.exec) (hb : c.code = cc) {x y : Int64} {off : Int} {tgt : Nat} (hd1 : decode cc pc = .ok (.lcmp, 1)) (hdg : decode cc (pc + 1) = .ok (.ifCond .gt off, 3)) (ht : ((pc + 1 : Nat) : Int) + off = (tgt : Int)) (kt : y < x → W p l e R s m args below meth c H locs cells slots Q (F0 m tgt ls rest)) (kf : ¬ y < x → W p l e R s m args below meth c H locs cells slots Q (F0 m (pc + 1 + 3) ls rest)) : W p l e R s m args below meth c H locs cells slots Q (F0 m pc ls (.long y :: .long x :: rest)) :=
  W.lcmp hexec hb hd1 (lv_if_gt hexec hb hdg ht (fun h => kt ((lg_cmp_gt x y).mp h)) (fun h => kf (fun q => h ((lg_cmp_gt x y).mpr q))))
theorem x_llt (hexec : p.tables.exec = Jvm.exec) (hb : c.code = cc) {x y : Int64} {off : Int} {tgt : Nat} (hd1 : decode cc pc = .ok (.lcmp, 1)) (hdg : decode cc (pc + 1) = .ok (.ifCond .lt off, 3)) (ht : ((pc + 1 : Nat) : Int) + off = (tgt : Int)) (kt : x < y → W p l e R s m args below meth c H locs cells slots Q (F0 m tgt ls rest)) (kf : ¬ x < y → W p l e R s m args below meth c H locs cells slots Q (F0 m (pc + 1 + 3) ls rest)) : W p l e R s m args below meth c H locs cells slots Q (F0 m pc ls (.long y :: .long x :: rest)) :=
  W.lcmp hexec hb hd1 (lv_if_lt hexec hb hdg ht (fun h => kt ((lg_cmp_lt x y).mp h)) (fun h => kf (fun q => h ((lg_cmp_lt x y).mpr q))))
theorem x_leq (hexec : p.tables.exec = Jvm.exec) (hb : c.code = cc) {x y : Int64} {off : Int} {tgt : Nat} (hd1 : decode cc pc = .ok (.lcmp, 1)) (hdg : decode cc (pc + 1) = .ok (.ifCond .eq off, 3)) (ht : ((pc + 1 : Nat) : Int) + off = (tgt : Int)) (kt : x = y → W p l e R s m args below meth c H locs cells slots Q (F0 m tgt ls rest)) (kf : ¬ x = y → W p l e R s m args below meth c H locs cells slots Q (F0 m (pc + 1 + 3) ls rest)) : W p l e R s m args below meth c H locs cells slots Q (F0 m pc ls (.long y :: .long x :: rest)) :=
  W.lcmp hexec hb hd1 (lv_if_eq hexec hb hdg ht (fun h => kt ((lg_cmp_eq x y).mp h)) (fun h => kf (fun q => h ((lg_cmp_eq x y).mpr q))))
theorem x_lne (hexec : p.tables.exec = Jvm.exec) (hb : c.code = cc) {x y : Int64} {off : Int} {tgt : Nat} (hd1 : decode cc pc = .ok (.lcmp, 1)) (hdg : decode cc (pc + 1) = .ok (.ifCond .ne off, 3)) (ht : ((pc + 1 : Nat) : Int) + off = (tgt : Int)) (kt : ¬ x = y → W p l e R s m args below meth c H locs cells slots Q (F0 m tgt ls rest)) (kf : x = y → W p l e R s m args below meth c H locs cells slots Q (F0 m (pc + 1 + 3) ls rest)) : W p l e R s m args below meth c H locs cells slots Q (F0 m pc ls (.long y :: .long x :: rest)) :=
  W.lcmp hexec hb hd1 (lv_if_ne hexec hb hdg ht (fun h => kt (fun q => h ((lg_cmp_eq x y).mpr q))) (fun h => kf ((lg_cmp_eq x y).mp h)))
variable {D : va_G} {cl : List vw_C} {A : Nat → Prop} {a : Nat} {tys : List (ClassId × FieldType)} {ws : va_W} {H0 : Heap}
theorem x_iald (hexec : p.tables.exec = Jvm.exec) (hb : c.code = cc) (hK : va_K D cl tys s) (hP : va_P D cl ws H) (q0 t0 : Nat) {cA : ClassId} {n : Nat} {f : Nat → Int32} {j : Nat} {v : Int32} (ha : ws[q0]? = some (a, .inl (cA, n, .inl f))) (ht : tys[t0]? = some (cA, .int)) (hj : j < n) (hn : n < 2 ^ 31) (hv : f j = v) (hdg : decode cc pc = .ok (.iaload, 1)) (kk : W p l e R s m args below meth c H locs cells slots Q (F0 m (pc + 1) ls (.int v :: rest))) : W p l e R s m args below meth c H locs cells slots Q (F0 m pc ls (.int (nI j) :: .ref a :: rest)) := by
  refine va_iald hexec hb hK hP q0 t0 ha ht (vp_in_nI hj hn) hdg ?_
  rw [nI_clamp (Nat.lt_trans hj hn), hv]
  exact kk
theorem x_zald (hexec : p.tables.exec = Jvm.exec) (hb : c.code = cc) (hK : va_K D cl tys s) (hP : va_P D cl ws H) (q0 t0 : Nat) {cA : ClassId} {n : Nat} {f : Nat → Int32} {j : Nat} {v : Int32} (ha : ws[q0]? = some (a, .inl (cA, n, .inl f))) (ht : tys[t0]? = some (cA, .boolean)) (hj : j < n) (hn : n < 2 ^ 31) (hv : f j = v) (hdg : decode cc pc = .ok (.baload, 1)) (kk : W p l e R s m args below meth c H locs cells slots Q (F0 m (pc + 1) ls (.int v :: rest))) : W p l e R s m args below meth c H locs cells slots Q (F0 m pc ls (.int (nI j) :: .ref a :: rest)) := by
  refine va_zald hexec hb hK hP q0 t0 ha ht (vp_in_nI hj hn) hdg ?_
  rw [nI_clamp (Nat.lt_trans hj hn), hv]
  exact kk
theorem x_lald (hexec : p.tables.exec = Jvm.exec) (hb : c.code = cc) (hK : va_K D cl tys s) (hP : va_P D cl ws H) (q0 t0 : Nat) {cA : ClassId} {n : Nat} {f : Nat → Int64} {j : Nat} {v : Int64} (ha : ws[q0]? = some (a, .inl (cA, n, .inr (.inl f)))) (ht : tys[t0]? = some (cA, .long)) (hj : j < n) (hn : n < 2 ^ 31) (hv : f j = v) (hdg : decode cc pc = .ok (.laload, 1)) (kk : W p l e R s m args below meth c H locs cells slots Q (F0 m (pc + 1) ls (.long v :: rest))) : W p l e R s m args below meth c H locs cells slots Q (F0 m pc ls (.int (nI j) :: .ref a :: rest)) := by
  refine va_lald hexec hb hK hP q0 t0 ha ht (vp_in_nI hj hn) hdg ?_
  rw [nI_clamp (Nat.lt_trans hj hn), hv]
  exact kk
theorem x_aald (hexec : p.tables.exec = Jvm.exec) (hb : c.code = cc) (hK : va_K D cl tys s) (hP : va_P D cl ws H) (q0 t0 : Nat) {cA : ClassId} {C : String} {n : Nat} {f : Nat → Option Nat} {j : Nat} {v : Value} (ha : ws[q0]? = some (a, .inl (cA, n, .inr (.inr (.inr (.inr f)))))) (ht : tys[t0]? = some (cA, .object C)) (hj : j < n) (hn : n < 2 ^ 31) (hv : va_rf (f j) = v) (hdg : decode cc pc = .ok (.aaload, 1)) (kk : W p l e R s m args below meth c H locs cells slots Q (F0 m (pc + 1) ls (v :: rest))) : W p l e R s m args below meth c H locs cells slots Q (F0 m pc ls (.int (nI j) :: .ref a :: rest)) := by
  refine va_aldq hexec hb hK hP q0 t0 ha ht (vp_in_nI hj hn) hdg ?_
  rw [nI_clamp (Nat.lt_trans hj hn), hv]
  exact kk
theorem x_iast (hexec : p.tables.exec = Jvm.exec) (hb : c.code = cc) (hK : va_K D cl tys s) (hP : va_P D cl ws H) (hD : va_D A ws) (hS : va_S A H0 H locs) (q0 t0 : Nat) {cA : ClassId} {n : Nat} {f : Nat → Int32} {j : Nat} {x : Int32} (ha : ws[q0]? = some (a, .inl (cA, n, .inl (f)))) (ht : tys[t0]? = some (cA, .int)) (hj : j < n) (hn : n < 2 ^ 31) (hdg : decode cc pc = .ok (.iastore, 1)) (kk : ∀ (H1 : Heap) (locs1 : List Loc), va_P D cl (ws.set q0 (a, .inl (cA, n, .inl (upd f j x)))) H1 → va_D A (ws.set q0 (a, .inl (cA, n, .inl (upd f j x)))) → va_S A H0 H1 locs1 → W p l e R s m args below meth c H1 locs1 cells slots Q (F0 m (pc + 1) ls rest)) : W p l e R s m args below meth c H locs cells slots Q (F0 m pc ls (.int x :: .int (nI j) :: .ref a :: rest)) := by
  refine va_iast hexec hb hK hP hD hS q0 t0 ha ht (vp_in_nI hj hn) hdg ?_
  rw [nI_clamp (Nat.lt_trans hj hn)]
  exact kk
theorem x_last (hexec : p.tables.exec = Jvm.exec) (hb : c.code = cc) (hK : va_K D cl tys s) (hP : va_P D cl ws H) (hD : va_D A ws) (hS : va_S A H0 H locs) (q0 t0 : Nat) {cA : ClassId} {n : Nat} {f : Nat → Int64} {j : Nat} {x : Int64} (ha : ws[q0]? = some (a, .inl (cA, n, .inr (.inl (f))))) (ht : tys[t0]? = some (cA, .long)) (hj : j < n) (hn : n < 2 ^ 31) (hdg : decode cc pc = .ok (.lastore, 1)) (kk : ∀ (H1 : Heap) (locs1 : List Loc), va_P D cl (ws.set q0 (a, .inl (cA, n, .inr (.inl (vp_updL f j x))))) H1 → va_D A (ws.set q0 (a, .inl (cA, n, .inr (.inl (vp_updL f j x))))) → va_S A H0 H1 locs1 → W p l e R s m args below meth c H1 locs1 cells slots Q (F0 m (pc + 1) ls rest)) : W p l e R s m args below meth c H locs cells slots Q (F0 m pc ls (.long x :: .int (nI j) :: .ref a :: rest)) := by
  refine va_last hexec hb hK hP hD hS q0 t0 ha ht (vp_in_nI hj hn) hdg ?_
  rw [nI_clamp (Nat.lt_trans hj hn)]
  exact kk
theorem x_zast (hexec : p.tables.exec = Jvm.exec) (hb : c.code = cc) (hK : va_K D cl tys s) (hP : va_P D cl ws H) (hD : va_D A ws) (hS : va_S A H0 H locs) (q0 t0 : Nat) {cA : ClassId} {n : Nat} {f : Nat → Int32} {j : Nat} {x : Int32} (ha : ws[q0]? = some (a, .inl (cA, n, .inl (f)))) (ht : tys[t0]? = some (cA, .boolean)) (hj : j < n) (hn : n < 2 ^ 31) (hx1 : vp_nar .boolean x = x) (hdg : decode cc pc = .ok (.bastore, 1)) (kk : ∀ (H1 : Heap) (locs1 : List Loc), va_P D cl (ws.set q0 (a, .inl (cA, n, .inl (upd f j x)))) H1 → va_D A (ws.set q0 (a, .inl (cA, n, .inl (upd f j x)))) → va_S A H0 H1 locs1 → W p l e R s m args below meth c H1 locs1 cells slots Q (F0 m (pc + 1) ls rest)) : W p l e R s m args below meth c H locs cells slots Q (F0 m pc ls (.int x :: .int (nI j) :: .ref a :: rest)) := by
  refine va_zast hexec hb hK hP hD hS q0 t0 ha ht (vp_in_nI hj hn) hdg ?_
  rw [nI_clamp (Nat.lt_trans hj hn), hx1]
  exact kk
theorem x_ti (hexec : p.tables.exec = Jvm.exec) (hb : c.code = cc) {t N : Nat} {f : Nat → Value} (hT : va_T .int t N f A s s.heap) (hS : va_S A s.heap H locs) {j : Nat} (hj : j < N) (hN : N < 2 ^ 31) {v : Value} (hv : f j = v) (hdg : decode cc pc = .ok (.iaload, 1)) (kk : W p l e R s m args below meth c H locs cells slots Q (F0 m (pc + 1) ls (v :: rest))) : W p l e R s m args below meth c H locs cells slots Q (F0 m pc ls (.int (nI j) :: .ref t :: rest)) :=
  va_ti hexec hb hT hS (vp_in_nI hj hN) (by rw [nI_clamp (Nat.lt_trans hj hN)]; exact hv) hdg kk
/-- an exact answer, the heap as it was -/
def q_P (r : Option Value) : Array Value → State → Outcome → State → Prop := fun _ st o t => o = .returned r ∧ t.heap = st.heap
theorem x_callP {v : Value} {a : Array Value} {st0 : List Value} (hr : va_Run p l e R s m args below meth c H locs cells slots 0 0 (F0 m pc ls st0) rest (q_P (some v) a) (fun _ => False)) (kk : W p l e R s m args below meth c H locs cells slots Q (F0 m (pc + 3) ls (v :: rest))) : W p l e R s m args below meth c H locs cells slots Q (F0 m pc ls st0) := by
  intro T hT X
  obtain ⟨v1, st₀, t, T', L, h0, X', hL, e1, e2, ⟨hv, hh⟩, st⟩ := hr T hT X
  cases hv
  obtain ⟨t2, a1, b1⟩ := kk T' (by rw [e1, hh, h0]) (Stand.forget X' (fun q h => (hL q h).elim))
  exact ⟨t2, st t2 a1, b1⟩
/-- an answer and a heap with 'post' -/
def q_W (post : Option Value → Heap → Prop) : Array Value → State → Outcome → State → Prop := fun _ st o t => ∃ v, o = .returned v ∧ post v t.heap
theorem x_callW {post : Option Value → Heap → Prop} {A0 : Nat → Prop} {free : Addr → Prop} {mc ms : Nat} {a : Array Value} {st0 : List Value} (hr : va_Run p l e R s m args below meth c H locs cells slots mc ms (F0 m pc ls st0) rest (q_W post a) free) (hS : va_S A0 H0 H locs) (hf : ∀ q, free q → A0 q) (hp : ∀ v H1, post v H1 → H.size ≤ H1.size ∧ ∀ q : Nat, q < H.size → ¬ A0 q → H1[q]? = H[q]?)
    (kk : ∀ (v : Option Value) (H1 : Heap) (locs1 : List Loc), post v H1 → va_S A0 H0 H1 locs1 → W p l e R s m args below meth c H1 locs1 (cells + mc) (slots + ms) Q (F0 m (pc + 3) ls (v.toList ++ rest))) : W p l e R s m args below meth c H locs cells slots Q (F0 m pc ls st0) := by
  intro T hT X
  obtain ⟨v, st₀, t, T', L, h0, X', hL, e1, e2, ⟨v1, hv, hp1⟩, st⟩ := hr T hT X
  cases hv
  obtain ⟨hz, hk⟩ := hp v t.heap hp1
  obtain ⟨t2, a1, b1⟩ := kk v t.heap (locs ++ L) hp1
    ⟨Nat.le_trans hS.1 hz, fun q h1 h2 => by rw [hk q (Nat.lt_of_lt_of_le h1 hS.1) h2]; exact hS.2.1 q h1 h2, fun q hq => by
      rcases List.mem_append.mp hq with h | h
      · exact hS.2.2 q h
      · exact hf _ (hL q h)⟩ T' e1 X'
  exact ⟨t2, st t2 a1, b1⟩
end XK
end
section
/-! env: what holds at every call: the tables' classes, the nest's links, the static tables -/
abbrev tyK (κ : Nat → ClassId) : List (ClassId × FieldType) := [(κ 0, .int), (κ 1, .boolean), (κ 2, .long), (κ 3, .object "TasterPanels$Taster"), (κ 4, .object "TasterPanels$Test")]
def tb (l : List Nat) : Nat → Value := fun j => .int (nI (l.getD j 0))
def StaO (C n : String) (l : List Nat) (base : Nat) (U : State) (H : Heap) : Prop := ∃ t : Nat, va_Z C n "[I" (.ref t) (fun q => base ≤ q) U H ∧ va_T .int t l.length (tb l) (fun q => base ≤ q) U H
def tFACT : List Nat := [1, 1, 2, 6, 24, 120]
def tTS : List Nat := [0, 0, 1, 0, 1, 0, 1, 0, 0, 1, 1, 0, 1, 0, 1, 0, 1, 1]
def tPS : List Nat := [0, 1, 1, 0]
def tDS : List Nat := [0, 0, 1, 0, 1, 0, 1, 0, 1, 1, 1, 0]
def tTR : List Nat := [2, 1, 0, 2, 1, 0]
def tPR : List Nat := [1, 0]
def tDR : List Nat := [0, 1, 1, 0]
def tSERVED : List Nat := [0, 0, 1, 0, 1, 0, 1, 0, 0, 1, 1, 0, 1, 0, 1, 0, 1, 1, 0, 1, 9, 1, 0, 9, 0, 0, 1, 0, 1, 0, 1, 0, 1, 1, 1, 0]
def tRIGHT : List Nat := [2, 1, 0, 2, 1, 0, 1, 0, 0, 1, 1, 0]
def StaL : List (String × String × List Nat) := [("TasterPanels", "FACTORIALS", tFACT), ("TasterPanels", "TRIANGLE_SERVED", tTS), ("TasterPanels", "PAIR_SERVED", tPS), ("TasterPanels", "DUO_SERVED", tDS), ("TasterPanels", "TRIANGLE_RIGHT", tTR), ("TasterPanels", "PAIR_RIGHT", tPR), ("TasterPanels", "DUO_RIGHT", tDR), ("TasterPanelsModel", "SERVED", tSERVED), ("TasterPanelsModel", "RIGHT", tRIGHT)]
def Sta (base : Nat) (U : State) (H : Heap) : Prop := ∀ (k : Nat) (q : String × String × List Nat), StaL[k]? = some q → StaO q.1 q.2.1 q.2.2 base U H
theorem Sta.moved {base : Nat} {u U : State} {H : Heap} (hvm : u.vm.Alike U.vm) (h : Sta base u H) : Sta base U H := fun k q hq => by
  obtain ⟨t, h1, h2⟩ := h k q hq
  exact ⟨t, va_Z.moved hvm h1, va_T.moved hvm h2⟩
theorem Sta.kept {base : Nat} {U : State} {H H1 : Heap} (h : Sta base U H) (hq : ∀ a : Nat, a < H.size → ¬ base ≤ a → H1[a]? = H[a]?) : Sta base U H1 := fun k q hk => by
  obtain ⟨t, h1, h2⟩ := h k q hk
  exact ⟨t, va_Z.kept h1 hq, va_T.kept h2 hq⟩
def EV (D : va_G) (κ : Nat → ClassId) (base : Nat) (U : State) : Prop := va_K D vwCl (tyK κ) U ∧ Nst U ∧ Sta base U U.heap
theorem EV.go {D : va_G} {κ : Nat → ClassId} {base : Nat} {s U : State} {A : Nat → Prop} {H : Heap} {locs : List Loc} (h : EV D κ base s) (hS : va_S A s.heap H locs) (hA : ∀ q, A q → base ≤ q) (hU : U.heap = H) (hW : s.WarmedH U.vm) : EV D κ base U :=
  ⟨va_K.moved hW.alike h.1, h.2.1.warm hW, by
    rw [hU]
    exact (h.2.2.moved hW.alike).kept (fun a h1 h2 => hS.2.1 a h1 (fun z => h2 (hA a z)))⟩
def Pq (D : va_G) (κ : Nat → ClassId) (base : Nat) (av : List Value) (H0 : Heap) : Array Value → State → Prop := va_Pc av (fun U => U.heap = H0 ∧ EV D κ base U)
theorem Nst.same {u U : State} (h : u.vm = U.vm) (hN : Nst u) : Nst U := by
  refine ⟨?_, va_AO.moved (h ▸ Vm.Alike.refl _) hN.2.1, va_AO.moved (h ▸ Vm.Alike.refl _) hN.2.2⟩
  intro w hw
  have h1 := hN.1 w hw
  simp only [NN, List.mem_cons, List.not_mem_nil, or_false] at hw
  rcases hw with rfl | rfl | rfl | rfl | rfl | rfl | rfl | rfl | rfl | rfl | rfl | rfl | rfl
  all_goals exact va_Nw.same rfl h h1
theorem Pq.blind {D : va_G} {κ : Nat → ClassId} {base : Nat} {av : List Value} {H0 : Heap} : FrameBlind (Pq D κ base av H0) := by
  intro a U g mk h
  obtain ⟨h1, h2, h3, h4, h5⟩ := h
  exact ⟨h1, h2, va_K.moved (u := U) (U := U.calling g mk a) (Vm.Alike.refl U.vm) h3, Nst.same (u := U) (U := U.calling g mk a) rfl h4, Sta.moved (u := U) (U := U.calling g mk a) (Vm.Alike.refl U.vm) h5⟩
theorem pcS {D : va_G} {κ : Nat → ClassId} {base : Nat} {s : State} {A : Nat → Prop} {H : Heap} {locs : List Loc} {As : List Value} (h : EV D κ base s) (hS : va_S A s.heap H locs) (hA : ∀ q, A q → base ≤ q) : PreS s H (Pq D κ base As H) As :=
  ⟨Pq.blind, fun _ hU hW => ⟨rfl, hU, h.go hS hA hU hW⟩⟩
theorem pcV {D : va_G} {κ : Nat → ClassId} {base : Nat} {s : State} {A : Nat → Prop} {H : Heap} {locs : List Loc} {C : String} {b : Nat} {As : List Value} (h : EV D κ base s) (hS : va_S A s.heap H locs) (hA : ∀ q, A q → base ≤ q) (hr : ∃ cellB : Cell, H[b]? = some cellB ∧ cellB.vm.isStatics = false ∧ s.vm.findClass C = some cellB.cls) : PreV s H C b (Pq D κ base (.ref b :: As) H) As :=
  ⟨Pq.blind, hr, fun _ hU hW => ⟨rfl, hU, h.go hS hA hU hW⟩⟩
end
section
/-! the class's pure static methods -/
theorem lN_ne0 {r : Nat} (h0 : 0 < r) (h : r < 2 ^ 63) : ¬ lN r = 0 := fun q => by
  have := (pk_lEQ h (by decide : 0 < 2 ^ 63)).mp q
  omega
theorem addm1 (y : Int32) : y + Int32.ofInt (-1) = y - 1 := by rw [Int32.sub_eq_add_neg]; rfl
theorem neg1_lt {r : Nat} (h : r < 2 ^ 31) : nI 0 - 1 < nI r := by
  rw [Int32.lt_iff_toInt_lt, nI_toInt h, show (nI 0 - 1).toInt = -1 by decide]
  omega
theorem out_of {x : Int32} (n : Nat) (hn : n < 2 ^ 31) (h : ∀ j : Nat, j ≤ n → ¬ x = nI j) : x.toInt < 0 ∨ (n : Int) < x.toInt := by
  by_cases h1 : x.toInt < 0
  · exact Or.inl h1
  · by_cases h2 : (n : Int) < x.toInt
    · exact Or.inr h2
    · exfalso
      refine h x.toInt.toNat (by omega) (Int32.toInt_inj.mp ?_)
      rw [nI_toInt (by omega)]
      omega
def pw_w (n pl : Nat) : Nat → Nat
  | 0 => 1
  | k + 1 => pw_w n pl k * (n - k) / (k + 1) * (pl - 1)
def pw_s (n pl : Nat) : Nat → Nat
  | 0 => 0
  | k + 1 => pw_s n pl k + pw_w n pl k
/-- of all pl ^ n ways to guess, those with at least r right, as the class reckons it -/
def pw_ways (r n pl : Nat) : Nat := pw_s n pl (n + 1 - r)
theorem pw_bd2 : ∀ n, n < 27 → ∀ k, k < 28 → pw_w n 2 k * 27 < 2 ^ 63 := by decide +kernel
theorem pw_bd3 : ∀ n, n < 27 → ∀ k, k < 28 → pw_w n 3 k * 27 < 2 ^ 63 := by decide +kernel
theorem pw_bd {n pl k : Nat} (hn : n < 27) (hp : pl = 2 ∨ pl = 3) (hk : k < 28) : pw_w n pl k * 27 < 2 ^ 63 := by
  rcases hp with rfl | rfl
  · exact pw_bd2 n hn k hk
  · exact pw_bd3 n hn k hk
theorem pw_bdx {n pl k x : Nat} (hn : n < 27) (hp : pl = 2 ∨ pl = 3) (hk : k < 28) (hx : x ≤ 27) : pw_w n pl k * x < 2 ^ 63 :=
  Nat.lt_of_le_of_lt (Nat.mul_le_mul_left _ hx) (pw_bd hn hp hk)
def cd : Nat → Nat → Nat → Nat
  | 0, d, _ => d
  | f + 1, d, r => if r = 0 then d else cd f r (d % r)
theorem cd_pos : ∀ (f d r : Nat), 0 < d → 0 < cd f d r
  | 0, _, _, h => h
  | f + 1, d, r, h => by
    unfold cd
    split
    · exact h
    · exact cd_pos f r (d % r) (by omega)
theorem cd_lt : ∀ (f d r B : Nat), d < B → r < B → cd f d r < B
  | 0, _, _, _, h, _ => h
  | f + 1, d, r, B, h, h2 => by
    unfold cd
    split
    · exact h
    · exact cd_lt f r (d % r) B h2 (Nat.lt_of_le_of_lt (Nat.mod_le _ _) h)
theorem cd_z (f d : Nat) : cd f d 0 = d := by cases f <;> simp [cd]
theorem cd_s (f d r : Nat) (h : 0 < r) : cd (f + 1) d r = cd f r (d % r) := by rw [cd, if_neg (by omega)]
/-- the class's reducedPart -/
def rdp (a b part : Nat) : Nat := (if part = 0 then a else b) / cd 100 b a
/-- a step's strength -/
def strv (k : Nat) : UInt64 := FP.ddiv (FP.i2d (nI 1 <<< (nI k &&& 31))) 4620693217682128896
theorem strv_ok : ∀ k, k < 16 → strv k &&& 0x7fffffffffffffff ≤ 0x7ff0000000000000 := by decide +kernel
/-- which kinds and numbers of samples make a test -/
def okK (k n : Int32) : Bool := decide ((k = 0 ∧ n = 3) ∨ ((k = 1 ∨ k = 2) ∧ n = 2) ∨ (k = 3 ∧ 2 ≤ n ∧ n ≤ 5))
def usI : Nat → Int32 → Int32 → Nat → Int32
  | 0, _, _, _ => -1
  | f + 1, u, lf, sm => if (u >>> (nI sm &&& 31)) &&& nI 1 = 0 then (if lf = 0 then nI sm else usI f u (lf + (-1)) (sm + 1)) else usI f u lf (sm + 1)
def siI (n : Nat) : Nat → Nat → Int32 → Nat → Int32 → Int32
  | 0, _, _, _, sm => sm
  | f + 1, j, u, rs, _ => siI n f (j + 1) (u ||| (nI 1 <<< (usI 5 u (nI (rs / tFACT.getD (n - 1 - j) 0)) 0 &&& 31))) (rs % tFACT.getD (n - 1 - j) 0) (usI 5 u (nI (rs / tFACT.getD (n - 1 - j) 0)) 0)
theorem fact_ok : ∀ i, i < 6 → 0 < tFACT.getD i 0 ∧ tFACT.getD i 0 < 200 := by decide
set_option maxHeartbeats 400000 in
set_option maxRecDepth 100000 in
theorem c_P_power (l : Launch) (D : va_G) (κ : Nat → ClassId) (base : Nat) (H0 : Heap) (b t : Nat) (h1 : b < 2 ^ 31) (h2 : t < 2 ^ 31) : Met l yP_power wP_power ({ frames := 0, cells := 0, slots := 0, locals := 0 }) (Pq D κ base [.int (nI b), .int (nI t)] H0) (q_P (some (.long (lN (b ^ t))))) 0 0 (fun _ => False) := by
  refine Met.ofW (cc := bP_power) (maxL := 5) (ret := (some FieldType.long)) (by decide) rfl ?_
  intro p e s m args below meth c s₁ B hml hv
  obtain ⟨rfl, hH, hE⟩ := hv
  subst hH
  have hx := B.exec
  have hb := B.bytes
  have hr := B.returns
  have hT : ∀ w ∈ TT, w.before _ s = true := fun w h => atoms_spec (ws := wP_power) B.pre w (List.mem_cons_of_mem _ h)
  have hown : s.vm.findClass "TasterPanels" = some m.cls := findClass_of_methodNamed B.named
  have hlocks := B.notSynchronized
  have hK := hE.1
  have hS : va_S (fun q => base ≤ q) s.heap s.heap [] := va_S.rf
  have hAb : ∀ q : Nat, (fun q : Nat => base ≤ q) q → base ≤ q := fun _ h => h
  have hl := lv_entry ([.int (nI b), .int (nI t)]) (n := 5) (Nat.le_of_ble_eq_true rfl)
  rw [lg_entry_eq]
  generalize (lg_sl ([.int (nI b), .int (nI t)]) ++ List.replicate (5 - (lg_sl ([.int (nI b), .int (nI t)])).length) Slot.unset).toArray = ls at hl ⊢
  have hl : lv_has ls 5 [(0, .int (nI b)), (1, .int (nI t))] := hl
  have loop : ∀ (fu : Nat) (i : Nat), (i ≤ t) → t - i < fu → ∀ ls : Array Slot, lv_has ls 5 [(0, .int (nI b)), (1, .int (nI t)), (2, .long (lN (b ^ i))), (4, .int (nI i))] → W p l e (headSpec wP_power ({ frames := 0, cells := 0, slots := 0, locals := 0 })).room s m ([.int (nI b), .int (nI t)] : List Value).toArray below meth c s.heap [] 0 0 (MQ below (q_P (some (.long (lN (b ^ t))))) ([.int (nI b), .int (nI t)] : List Value).toArray s 0 0 (fun _ => False)) (F0 m 5 ls []) := by
    intro fu
    induction fu with
    | zero =>
      intro i hi hmu
      exact absurd hmu (Nat.not_lt_zero _)
    | succ fu ih =>
      intro i hi hmu ls hl
      refine lv_iload hx hb dP_power_5 (lv_at hl 3 rfl) ?_
      refine lv_iload_n hx hb dP_power_7 rfl (lv_at hl 1 rfl) ?_
      refine x_cge (a := i) (b := t) (tgt := 22) hx hb dP_power_8 (by decide) (by omega) (by omega) (fun h1 => ?_) (fun h1 => ?_)
      · have e1 : i = t := by omega
        subst e1
        refine lv_lload_n hx hb dP_power_22 rfl (lv_at hl 2 rfl) ?_
        exact W.lret (v := lN (b ^ i)) hx hb hr (fun t ht hW => ⟨rfl, ht⟩) (fun q h => absurd h List.not_mem_nil) dP_power_23
      · refine lv_lload_n hx hb dP_power_11 rfl (lv_at hl 2 rfl) ?_
        refine lv_iload_n hx hb dP_power_12 rfl (lv_at hl 0 rfl) ?_
        refine lv_i2l (v := lN b) hx hb dP_power_13 (nI_l (by omega)) ?_
        refine x_lmul (v := lN ((b ^ i) * b)) hx hb dP_power_14 (lN_mul _ _) ?_
        refine x_topl (y := lN (b ^ (i + 1))) (by rw [Nat.pow_succ]) ?_
        refine lv_lstore_n (lv' := [(2, .long (lN (b ^ (i + 1)))), (0, .int (nI b)), (1, .int (nI t)), (4, .int (nI i))]) hx hb dP_power_15 rfl hl (by decide) rfl (fun ls hl => ?_)
        refine lv_iinc (v := nI (i + 1)) (lv' := [(4, .int (nI (i + 1))), (2, .long (lN (b ^ (i + 1)))), (0, .int (nI b)), (1, .int (nI t))]) hx hb dP_power_16 hl (k := 3) rfl (nI_add _ _) (by decide) rfl (fun ls hl => ?_)
        refine lv_goto (tgt := 5) hx hb dP_power_19 (by decide) ?_
        exact ih (i + 1) (by omega) (by omega) ls (lv_sub hl [2, 3, 1, 0] rfl)
  refine lv_lconst (v := lN 1) hx hb dP_power_0 (by decide) ?_
  refine lv_lstore_n (lv' := [(2, .long (lN 1)), (0, .int (nI b)), (1, .int (nI t))]) hx hb dP_power_1 rfl hl (by decide) rfl (fun ls hl => ?_)
  refine lv_iconst (v := nI 0) hx hb dP_power_2 (by decide) ?_
  refine lv_istore (lv' := [(4, .int (nI 0)), (2, .long (lN 1)), (0, .int (nI b)), (1, .int (nI t))]) hx hb dP_power_3 hl (by decide) rfl (fun ls hl => ?_)
  exact loop (t + 1) 0 (Nat.zero_le _) (by omega) ls (lv_sub hl [2, 3, 1, 0] rfl)
set_option maxHeartbeats 400000 in
set_option maxRecDepth 100000 in
theorem c_P_isPart (l : Launch) (D : va_G) (κ : Nat → ClassId) (base : Nat) (H0 : Heap) (x : Int32) (r : Nat) (hr0 : r = if x = 0 ∨ x = 1 then 1 else 0) : Met l yP_isPart wP_isPart ({ frames := 0, cells := 0, slots := 0, locals := 0 }) (Pq D κ base [.int x] H0) (q_P (some (.int (nI r)))) 0 0 (fun _ => False) := by
  refine Met.ofW (cc := bP_isPart) (maxL := 1) (ret := (some FieldType.boolean)) (by decide) rfl ?_
  intro p e s m args below meth c s₁ B hml hv
  obtain ⟨rfl, hH, hE⟩ := hv
  subst hH
  have hx := B.exec
  have hb := B.bytes
  have hr := B.returns
  have hT : ∀ w ∈ TT, w.before _ s = true := fun w h => atoms_spec (ws := wP_isPart) B.pre w (List.mem_cons_of_mem _ h)
  have hown : s.vm.findClass "TasterPanels" = some m.cls := findClass_of_methodNamed B.named
  have hlocks := B.notSynchronized
  have hK := hE.1
  have hS : va_S (fun q => base ≤ q) s.heap s.heap [] := va_S.rf
  have hAb : ∀ q : Nat, (fun q : Nat => base ≤ q) q → base ≤ q := fun _ h => h
  have hl := lv_entry ([.int x]) (n := 1) (Nat.le_of_ble_eq_true rfl)
  rw [lg_entry_eq]
  generalize (lg_sl ([.int x]) ++ List.replicate (1 - (lg_sl ([.int x])).length) Slot.unset).toArray = ls at hl ⊢
  have hl : lv_has ls 1 [(0, .int x)] := hl
  refine lv_iload_n hx hb dP_isPart_0 rfl (lv_at hl 0 rfl) ?_
  refine lv_if_eq (tgt := 9) hx hb dP_isPart_1 (by decide) (fun h1 => ?_) (fun h1 => ?_)
  · refine lv_iconst (v := nI 1) hx hb dP_isPart_9 (by decide) ?_
    refine lv_goto (tgt := 14) hx hb dP_isPart_10 (by decide) ?_
    exact W.zret (v := nI 1) hx hb hr (by decide) (fun t ht hW => ⟨congrArg (fun z => Outcome.returned (some (Value.int (nI z)))) (by rw [hr0, if_pos (Or.inl h1)]), ht⟩) (fun q h => absurd h List.not_mem_nil) dP_isPart_14
  · refine lv_iload_n hx hb dP_isPart_4 rfl (lv_at hl 0 rfl) ?_
    refine lv_iconst (v := nI 1) hx hb dP_isPart_5 (by decide) ?_
    refine lv_icmp_ne (tgt := 13) hx hb dP_isPart_6 (by decide) (fun h2 => ?_) (fun h2 => ?_)
    · refine lv_iconst (v := nI 0) hx hb dP_isPart_13 (by decide) ?_
      exact W.zret (v := nI 0) hx hb hr (by decide) (fun t ht hW => ⟨congrArg (fun z => Outcome.returned (some (Value.int (nI z)))) (by rw [hr0, if_neg (by intro q; rcases q with q | q; exact h1 q; exact h2 q)]), ht⟩) (fun q h => absurd h List.not_mem_nil) dP_isPart_14
    · refine lv_iconst (v := nI 1) hx hb dP_isPart_9 (by decide) ?_
      refine lv_goto (tgt := 14) hx hb dP_isPart_10 (by decide) ?_
      exact W.zret (v := nI 1) hx hb hr (by decide) (fun t ht hW => ⟨congrArg (fun z => Outcome.returned (some (Value.int (nI z)))) (by rw [hr0, if_pos (Or.inr (show x = 1 from h2))]), ht⟩) (fun q h => absurd h List.not_mem_nil) dP_isPart_14
set_option maxHeartbeats 400000 in
set_option maxRecDepth 100000 in
theorem c_P_commonDivisor (l : Launch) (D : va_G) (κ : Nat → ClassId) (base : Nat) (H0 : Heap) (a b : Nat) (ha : a < 2 ^ 63) (hb0 : b < 2 ^ 63) : Met l yP_commonDivisor wP_commonDivisor ({ frames := 0, cells := 0, slots := 0, locals := 0 }) (Pq D κ base [.long (lN a), .long (lN b)] H0) (q_P (some (.long (lN (cd 100 b a))))) 0 0 (fun _ => False) := by
  refine Met.ofW (cc := bP_commonDivisor) (maxL := 11) (ret := (some FieldType.long)) (by decide) rfl ?_
  intro p e s m args below meth c s₁ B hml hv
  obtain ⟨rfl, hH, hE⟩ := hv
  subst hH
  have hx := B.exec
  have hb := B.bytes
  have hr := B.returns
  have hT : ∀ w ∈ TT, w.before _ s = true := fun w h => atoms_spec (ws := wP_commonDivisor) B.pre w (List.mem_cons_of_mem _ h)
  have hown : s.vm.findClass "TasterPanels" = some m.cls := findClass_of_methodNamed B.named
  have hlocks := B.notSynchronized
  have hK := hE.1
  have hS : va_S (fun q => base ≤ q) s.heap s.heap [] := va_S.rf
  have hAb : ∀ q : Nat, (fun q : Nat => base ≤ q) q → base ≤ q := fun _ h => h
  have hl := lv_entry ([.long (lN a), .long (lN b)]) (n := 11) (Nat.le_of_ble_eq_true rfl)
  rw [lg_entry_eq]
  generalize (lg_sl ([.long (lN a), .long (lN b)]) ++ List.replicate (11 - (lg_sl ([.long (lN a), .long (lN b)])).length) Slot.unset).toArray = ls at hl ⊢
  have hl : lv_has ls 11 [(0, .long (lN a)), (2, .long (lN b))] := hl
  have loop : ∀ (fu : Nat) (j d r : Nat), (j ≤ 100) → (d < 2 ^ 63) → (r < 2 ^ 63) → (cd (100 - j) d r = cd 100 b a) → 100 - j < fu → ∀ ls : Array Slot, lv_has ls 11 [(0, .long (lN a)), (2, .long (lN b)), (4, .long (lN d)), (6, .long (lN r)), (8, .int (nI j))] → W p l e (headSpec wP_commonDivisor ({ frames := 0, cells := 0, slots := 0, locals := 0 })).room s m ([.long (lN a), .long (lN b)] : List Value).toArray below meth c s.heap [] 0 0 (MQ below (q_P (some (.long (lN (cd 100 b a))))) ([.long (lN a), .long (lN b)] : List Value).toArray s 0 0 (fun _ => False)) (F0 m 9 ls []) := by
    intro fu
    induction fu with
    | zero =>
      intro j d r hj hd hr1 heq hmu
      exact absurd hmu (Nat.not_lt_zero _)
    | succ fu ih =>
      intro j d r hj hd hr1 heq hmu ls hl
      refine lv_iload hx hb dP_commonDivisor_9 (lv_at hl 4 rfl) ?_
      refine lv_bipush (v := nI 100) hx hb dP_commonDivisor_11 (by decide) ?_
      refine x_cge (a := j) (b := 100) (tgt := 44) hx hb dP_commonDivisor_13 (by decide) (by omega) (by omega) (fun h1 => ?_) (fun h1 => ?_)
      · refine lv_lload hx hb dP_commonDivisor_44 (lv_at hl 2 rfl) ?_
        refine x_topl (y := lN (cd 100 b a)) (by rw [← heq, show 100 - j = 0 by omega]; rfl) ?_
        exact W.lret (v := lN (cd 100 b a)) hx hb hr (fun t ht hW => ⟨rfl, ht⟩) (fun q h => absurd h List.not_mem_nil) dP_commonDivisor_46
      · refine lv_lload hx hb dP_commonDivisor_16 (lv_at hl 3 rfl) ?_
        refine lv_lconst (v := lN 0) hx hb dP_commonDivisor_18 (by decide) ?_
        refine x_leq (tgt := 44) hx hb dP_commonDivisor_19 dP_commonDivisor_20 (by decide) (fun h2 => ?_) (fun h2 => ?_)
        · refine lv_lload hx hb dP_commonDivisor_44 (lv_at hl 2 rfl) ?_
          refine x_topl (y := lN (cd 100 b a)) (by have e2 := (pk_lEQ hr1 (by decide : 0 < 2 ^ 63)).mp h2; rw [← heq, e2, cd_z]) ?_
          exact W.lret (v := lN (cd 100 b a)) hx hb hr (fun t ht hW => ⟨rfl, ht⟩) (fun q h => absurd h List.not_mem_nil) dP_commonDivisor_46
        · have hr0 : 0 < r := Nat.pos_of_ne_zero (fun q => h2 (by rw [q]))
          refine lv_lload hx hb dP_commonDivisor_23 (lv_at hl 2 rfl) ?_
          refine lv_lload hx hb dP_commonDivisor_25 (lv_at hl 3 rfl) ?_
          refine x_lrem (v := lN (d % r)) hx hb dP_commonDivisor_27 (lN_ne0 (by omega) (by omega)) (pk_lRem (by omega) (by omega) (by omega)) ?_
          refine lv_lstore (lv' := [(9, .long (lN (d % r))), (0, .long (lN a)), (2, .long (lN b)), (4, .long (lN d)), (6, .long (lN r)), (8, .int (nI j))]) hx hb dP_commonDivisor_28 hl (by decide) rfl (fun ls hl => ?_)
          refine lv_lload hx hb dP_commonDivisor_30 (lv_at hl 4 rfl) ?_
          refine lv_lstore (lv' := [(4, .long (lN r)), (9, .long (lN (d % r))), (0, .long (lN a)), (2, .long (lN b)), (6, .long (lN r)), (8, .int (nI j))]) hx hb dP_commonDivisor_32 hl (by decide) rfl (fun ls hl => ?_)
          refine lv_lload hx hb dP_commonDivisor_34 (lv_at hl 1 rfl) ?_
          refine lv_lstore (lv' := [(6, .long (lN (d % r))), (4, .long (lN r)), (9, .long (lN (d % r))), (0, .long (lN a)), (2, .long (lN b)), (8, .int (nI j))]) hx hb dP_commonDivisor_36 hl (by decide) rfl (fun ls hl => ?_)
          refine lv_iinc (v := nI (j + 1)) (lv' := [(8, .int (nI (j + 1))), (6, .long (lN (d % r))), (4, .long (lN r)), (9, .long (lN (d % r))), (0, .long (lN a)), (2, .long (lN b))]) hx hb dP_commonDivisor_38 hl (k := 5) rfl (nI_add _ _) (by decide) rfl (fun ls hl => ?_)
          refine lv_goto (tgt := 9) hx hb dP_commonDivisor_41 (by decide) ?_
          exact ih (j + 1) r (d % r) (by omega) hr1 (Nat.lt_of_le_of_lt (Nat.mod_le _ _) hd) (by rw [← heq, show 100 - j = (100 - (j + 1)) + 1 by omega, cd_s _ _ _ hr0]) (by omega) ls (lv_sub hl [4, 5, 2, 1, 0] rfl)
  refine lv_lload_n hx hb dP_commonDivisor_0 rfl (lv_at hl 1 rfl) ?_
  refine lv_lstore (lv' := [(4, .long (lN b)), (0, .long (lN a)), (2, .long (lN b))]) hx hb dP_commonDivisor_1 hl (by decide) rfl (fun ls hl => ?_)
  refine lv_lload_n hx hb dP_commonDivisor_3 rfl (lv_at hl 1 rfl) ?_
  refine lv_lstore (lv' := [(6, .long (lN a)), (4, .long (lN b)), (0, .long (lN a)), (2, .long (lN b))]) hx hb dP_commonDivisor_4 hl (by decide) rfl (fun ls hl => ?_)
  refine lv_iconst (v := nI 0) hx hb dP_commonDivisor_6 (by decide) ?_
  refine lv_istore (lv' := [(8, .int (nI 0)), (6, .long (lN a)), (4, .long (lN b)), (0, .long (lN a)), (2, .long (lN b))]) hx hb dP_commonDivisor_7 hl (by decide) rfl (fun ls hl => ?_)
  exact loop 101 0 b a (Nat.zero_le _) hb0 ha rfl (by omega) ls (lv_sub hl [3, 4, 2, 1, 0] rfl)
set_option maxHeartbeats 400000 in
set_option maxRecDepth 100000 in
theorem c_P_reducedPart (l : Launch) (D : va_G) (κ : Nat → ClassId) (base : Nat) (H0 : Heap) (a b q : Nat) (ha : a < 2 ^ 63) (hb0 : b < 2 ^ 63) (hb1 : 0 < b) (hq : q < 2) : Met l yP_reducedPart wP_reducedPart ({ frames := 1, cells := 0, slots := 0, locals := 30 }) (Pq D κ base [.long (lN a), .long (lN b), .int (nI q)] H0) (q_P (some (.long (lN (rdp a b q))))) 0 0 (fun _ => False) := by
  refine Met.ofW (cc := bP_reducedPart) (maxL := 7) (ret := (some FieldType.long)) (by decide) rfl ?_
  intro p e s m args below meth c s₁ B hml hv
  obtain ⟨rfl, hH, hE⟩ := hv
  subst hH
  have hx := B.exec
  have hb := B.bytes
  have hr := B.returns
  have hT : ∀ w ∈ TT, w.before _ s = true := fun w h => atoms_spec (ws := wP_reducedPart) B.pre w (List.mem_cons_of_mem _ h)
  have hown : s.vm.findClass "TasterPanels" = some m.cls := findClass_of_methodNamed B.named
  have hlocks := B.notSynchronized
  have hK := hE.1
  have hS : va_S (fun q => base ≤ q) s.heap s.heap [] := va_S.rf
  have hAb : ∀ q : Nat, (fun q : Nat => base ≤ q) q → base ≤ q := fun _ h => h
  have hl := lv_entry ([.long (lN a), .long (lN b), .int (nI q)]) (n := 7) (Nat.le_of_ble_eq_true rfl)
  rw [lg_entry_eq]
  generalize (lg_sl ([.long (lN a), .long (lN b), .int (nI q)]) ++ List.replicate (7 - (lg_sl ([.long (lN a), .long (lN b), .int (nI q)])).length) Slot.unset).toArray = ls at hl ⊢
  have hl : lv_has ls 7 [(0, .long (lN a)), (2, .long (lN b)), (4, .int (nI q))] := hl
  have hc := cd_lt 100 b a (2 ^ 63) hb0 ha
  have hc0 := cd_pos 100 b a hb1
  refine lv_lload_n hx hb dP_reducedPart_0 rfl (lv_at hl 0 rfl) ?_
  refine lv_lload_n hx hb dP_reducedPart_1 rfl (lv_at hl 1 rfl) ?_
  refine x_callP (v := .long (lN (cd 100 b a))) (va_runS (As := [.long (lN a), .long (lN b)]) (rest := []) ⟨hx, hb, hml, hown, hT⟩ (c_P_commonDivisor l D κ base s.heap a b ha hb0) (va_cwS 2 hT (TT_S kP211 ktP_commonDivisor knP kcP_commonDivisor) rfl rfl rfl (by decide +kernel) ⟨Nat.le_of_ble_eq_true rfl, Nat.le_of_ble_eq_true rfl⟩) (pcS hE hS hAb) rfl rfl hl.1 rfl (lv_room (Nat.le_of_ble_eq_true rfl)) dP_reducedPart_2 ⟨Nat.le_of_ble_eq_true rfl, Nat.le_of_ble_eq_true rfl⟩) ?_
  refine lv_lstore (lv' := [(5, .long (lN (cd 100 b a))), (0, .long (lN a)), (2, .long (lN b)), (4, .int (nI q))]) hx hb dP_reducedPart_5 hl (by decide) rfl (fun ls hl => ?_)
  refine lv_iload hx hb dP_reducedPart_7 (lv_at hl 3 rfl) ?_
  refine x_zne (a := q) (tgt := 16) hx hb dP_reducedPart_9 (by decide) (by omega) (fun h1 => ?_) (fun h1 => ?_)
  · refine lv_lload_n hx hb dP_reducedPart_16 rfl (lv_at hl 2 rfl) ?_
    refine lv_lload hx hb dP_reducedPart_17 (lv_at hl 0 rfl) ?_
    refine x_ldiv (v := lN (b / (cd 100 b a))) hx hb dP_reducedPart_19 (lN_ne0 (hc0) (hc)) (pk_lDiv (by assumption) (hc0) (hc)) ?_
    refine x_topl (y := lN (rdp a b q)) (by rw [rdp, if_neg h1]) ?_
    exact W.lret (v := lN (rdp a b q)) hx hb hr (fun t ht hW => ⟨rfl, ht⟩) (fun q h => absurd h List.not_mem_nil) dP_reducedPart_20
  · refine lv_lload_n hx hb dP_reducedPart_12 rfl (lv_at hl 1 rfl) ?_
    refine lv_goto (tgt := 17) hx hb dP_reducedPart_13 (by decide) ?_
    refine lv_lload hx hb dP_reducedPart_17 (lv_at hl 0 rfl) ?_
    refine x_ldiv (v := lN (a / (cd 100 b a))) hx hb dP_reducedPart_19 (lN_ne0 (hc0) (hc)) (pk_lDiv (by assumption) (hc0) (hc)) ?_
    refine x_topl (y := lN (rdp a b q)) (by rw [rdp, if_pos h1]) ?_
    exact W.lret (v := lN (rdp a b q)) hx hb hr (fun t ht hW => ⟨rfl, ht⟩) (fun q h => absurd h List.not_mem_nil) dP_reducedPart_20
set_option maxHeartbeats 400000 in
set_option maxRecDepth 100000 in
theorem c_P_waysOfAtLeast (l : Launch) (D : va_G) (κ : Nat → ClassId) (base : Nat) (H0 : Heap) (r n pl : Nat) (hn : n < 27) (hr1 : r ≤ n + 1) (hp : pl = 2 ∨ pl = 3) : Met l yP_waysOfAtLeast wP_waysOfAtLeast ({ frames := 0, cells := 0, slots := 0, locals := 0 }) (Pq D κ base [.int (nI r), .int (nI n), .int (nI pl)] H0) (q_P (some (.long (lN (pw_ways r n pl))))) 0 0 (fun _ => False) := by
  refine Met.ofW (cc := bP_waysOfAtLeast) (maxL := 8) (ret := (some FieldType.long)) (by decide) rfl ?_
  intro p e s m args below meth c s₁ B hml hv
  obtain ⟨rfl, hH, hE⟩ := hv
  subst hH
  have hx := B.exec
  have hb := B.bytes
  have hr := B.returns
  have hT : ∀ w ∈ TT, w.before _ s = true := fun w h => atoms_spec (ws := wP_waysOfAtLeast) B.pre w (List.mem_cons_of_mem _ h)
  have hown : s.vm.findClass "TasterPanels" = some m.cls := findClass_of_methodNamed B.named
  have hlocks := B.notSynchronized
  have hK := hE.1
  have hS : va_S (fun q => base ≤ q) s.heap s.heap [] := va_S.rf
  have hAb : ∀ q : Nat, (fun q : Nat => base ≤ q) q → base ≤ q := fun _ h => h
  have hl := lv_entry ([.int (nI r), .int (nI n), .int (nI pl)]) (n := 8) (Nat.le_of_ble_eq_true rfl)
  rw [lg_entry_eq]
  generalize (lg_sl ([.int (nI r), .int (nI n), .int (nI pl)]) ++ List.replicate (8 - (lg_sl ([.int (nI r), .int (nI n), .int (nI pl)])).length) Slot.unset).toArray = ls at hl ⊢
  have hl : lv_has ls 8 [(0, .int (nI r)), (1, .int (nI n)), (2, .int (nI pl))] := hl
  have loop : ∀ (fu : Nat) (x : Nat), (x ≤ n + 1) → (r ≤ x) → x < fu → ∀ ls : Array Slot, lv_has ls 8 [(0, .int (nI r)), (1, .int (nI n)), (2, .int (nI pl)), (3, .long (lN (pw_s n pl (n + 1 - x)))), (5, .long (lN (pw_w n pl (n + 1 - x)))), (7, .int (nI x - 1))] → W p l e (headSpec wP_waysOfAtLeast ({ frames := 0, cells := 0, slots := 0, locals := 0 })).room s m ([.int (nI r), .int (nI n), .int (nI pl)] : List Value).toArray below meth c s.heap [] 0 0 (MQ below (q_P (some (.long (lN (pw_ways r n pl))))) ([.int (nI r), .int (nI n), .int (nI pl)] : List Value).toArray s 0 0 (fun _ => False)) (F0 m 8 ls []) := by
    intro fu
    induction fu with
    | zero =>
      intro x hx1 hx2 hmu
      exact absurd hmu (Nat.not_lt_zero _)
    | succ fu ih =>
      intro x hx1 hx2 hmu ls hl
      rcases x with _ | x
      · refine lv_iload hx hb dP_waysOfAtLeast_8 (lv_at hl 5 rfl) ?_
        refine lv_iload_n hx hb dP_waysOfAtLeast_10 rfl (lv_at hl 0 rfl) ?_
        refine lv_icmp_lt (tgt := 46) hx hb dP_waysOfAtLeast_11 (by decide) (fun h1 => ?_) (fun h1 => absurd (neg1_lt (by omega)) h1)
        refine lv_lload_n hx hb dP_waysOfAtLeast_46 rfl (lv_at hl 3 rfl) ?_
        refine x_topl (y := lN (pw_ways r n pl)) (by rw [pw_ways, show r = 0 by omega]) ?_
        exact W.lret (v := lN (pw_ways r n pl)) hx hb hr (fun t ht hW => ⟨rfl, ht⟩) (fun q h => absurd h List.not_mem_nil) dP_waysOfAtLeast_47
      · rw [nI_pred] at hl
        rw [show n + 1 - (x + 1) = n - x by omega] at hl
        have hl : lv_has ls 8 [(0, .int (nI r)), (1, .int (nI n)), (2, .int (nI pl)), (3, .long (lN (pw_s n pl (n - x)))), (5, .long (lN (pw_w n pl (n - x)))), (7, .int (nI x))] := hl
        refine lv_iload hx hb dP_waysOfAtLeast_8 (lv_at hl 5 rfl) ?_
        refine lv_iload_n hx hb dP_waysOfAtLeast_10 rfl (lv_at hl 0 rfl) ?_
        refine x_clt (a := x) (b := r) (tgt := 46) hx hb dP_waysOfAtLeast_11 (by decide) (by omega) (by omega) (fun h2 => ?_) (fun h2 => ?_)
        · refine lv_lload_n hx hb dP_waysOfAtLeast_46 rfl (lv_at hl 3 rfl) ?_
          refine x_topl (y := lN (pw_ways r n pl)) (by rw [pw_ways, show n + 1 - r = n - x by omega]) ?_
          exact W.lret (v := lN (pw_ways r n pl)) hx hb hr (fun t ht hW => ⟨rfl, ht⟩) (fun q h => absurd h List.not_mem_nil) dP_waysOfAtLeast_47
        · have hb1 := pw_bdx (x := x) hn hp (show n - x < 28 by omega) (by omega)
          refine lv_lload_n hx hb dP_waysOfAtLeast_14 rfl (lv_at hl 3 rfl) ?_
          refine lv_lload hx hb dP_waysOfAtLeast_15 (lv_at hl 4 rfl) ?_
          refine x_ladd (v := lN ((pw_s n pl (n - x)) + (pw_w n pl (n - x)))) hx hb dP_waysOfAtLeast_17 (lN_add _ _) ?_
          refine x_topl (y := lN (pw_s n pl (n + 1 - x))) (by rw [show n + 1 - x = (n - x) + 1 by omega]; rfl) ?_
          refine lv_lstore_n (lv' := [(3, .long (lN (pw_s n pl (n + 1 - x)))), (0, .int (nI r)), (1, .int (nI n)), (2, .int (nI pl)), (5, .long (lN (pw_w n pl (n - x)))), (7, .int (nI x))]) hx hb dP_waysOfAtLeast_18 rfl hl (by decide) rfl (fun ls hl => ?_)
          refine lv_lload hx hb dP_waysOfAtLeast_19 (lv_at hl 4 rfl) ?_
          refine lv_iload hx hb dP_waysOfAtLeast_21 (lv_at hl 5 rfl) ?_
          refine lv_i2l (v := lN x) hx hb dP_waysOfAtLeast_23 (nI_l (by omega)) ?_
          refine x_lmul (v := lN ((pw_w n pl (n - x)) * x)) hx hb dP_waysOfAtLeast_24 (lN_mul _ _) ?_
          refine lv_iload_n hx hb dP_waysOfAtLeast_25 rfl (lv_at hl 2 rfl) ?_
          refine lv_iload hx hb dP_waysOfAtLeast_26 (lv_at hl 5 rfl) ?_
          refine x_isub (v := nI (n - x)) hx hb dP_waysOfAtLeast_28 (pk_sub (by omega)) ?_
          refine lv_iconst (v := nI 1) hx hb dP_waysOfAtLeast_29 (by decide) ?_
          refine x_iadd (v := nI ((n - x) + 1)) hx hb dP_waysOfAtLeast_30 (nI_add _ _) ?_
          refine lv_i2l (v := lN ((n - x) + 1)) hx hb dP_waysOfAtLeast_31 (nI_l (by omega)) ?_
          refine x_ldiv (v := lN (((pw_w n pl (n - x)) * x) / ((n - x) + 1))) hx hb dP_waysOfAtLeast_32 (lN_ne0 (by omega) (by omega)) (pk_lDiv (hb1) (by omega) (by omega)) ?_
          refine lv_iload_n hx hb dP_waysOfAtLeast_33 rfl (lv_at hl 3 rfl) ?_
          refine lv_iconst (v := nI 1) hx hb dP_waysOfAtLeast_34 (by decide) ?_
          refine x_isub (v := nI (pl - 1)) hx hb dP_waysOfAtLeast_35 (pk_sub (by omega)) ?_
          refine lv_i2l (v := lN (pl - 1)) hx hb dP_waysOfAtLeast_36 (nI_l (by omega)) ?_
          refine x_lmul (v := lN ((((pw_w n pl (n - x)) * x) / ((n - x) + 1)) * (pl - 1))) hx hb dP_waysOfAtLeast_37 (lN_mul _ _) ?_
          refine x_topl (y := lN (pw_w n pl (n + 1 - x))) (by rw [show n + 1 - x = (n - x) + 1 by omega, pw_w, show n - (n - x) = x by omega]) ?_
          refine lv_lstore (lv' := [(5, .long (lN (pw_w n pl (n + 1 - x)))), (3, .long (lN (pw_s n pl (n + 1 - x)))), (0, .int (nI r)), (1, .int (nI n)), (2, .int (nI pl)), (7, .int (nI x))]) hx hb dP_waysOfAtLeast_38 hl (by decide) rfl (fun ls hl => ?_)
          refine lv_iinc (v := nI x - 1) (lv' := [(7, .int (nI x - 1)), (5, .long (lN (pw_w n pl (n + 1 - x)))), (3, .long (lN (pw_s n pl (n + 1 - x)))), (0, .int (nI r)), (1, .int (nI n)), (2, .int (nI pl))]) hx hb dP_waysOfAtLeast_40 hl (k := 5) rfl (addm1 _) (by decide) rfl (fun ls hl => ?_)
          refine lv_goto (tgt := 8) hx hb dP_waysOfAtLeast_43 (by decide) ?_
          exact ih x (by omega) (by omega) (by omega) ls (lv_sub hl [3, 4, 5, 2, 1, 0] rfl)
  refine lv_lconst (v := lN 0) hx hb dP_waysOfAtLeast_0 (by decide) ?_
  refine lv_lstore_n (lv' := [(3, .long (lN 0)), (0, .int (nI r)), (1, .int (nI n)), (2, .int (nI pl))]) hx hb dP_waysOfAtLeast_1 rfl hl (by decide) rfl (fun ls hl => ?_)
  refine lv_lconst (v := lN 1) hx hb dP_waysOfAtLeast_2 (by decide) ?_
  refine lv_lstore (lv' := [(5, .long (lN 1)), (3, .long (lN 0)), (0, .int (nI r)), (1, .int (nI n)), (2, .int (nI pl))]) hx hb dP_waysOfAtLeast_3 hl (by decide) rfl (fun ls hl => ?_)
  refine lv_iload_n hx hb dP_waysOfAtLeast_5 rfl (lv_at hl 3 rfl) ?_
  refine lv_istore (lv' := [(7, .int (nI n)), (5, .long (lN 1)), (3, .long (lN 0)), (0, .int (nI r)), (1, .int (nI n)), (2, .int (nI pl))]) hx hb dP_waysOfAtLeast_6 hl (by decide) rfl (fun ls hl => ?_)
  have hl := lv_sub hl [3, 4, 5, 2, 1, 0] rfl
  have hl : lv_has ls 8 [(0, .int (nI r)), (1, .int (nI n)), (2, .int (nI pl)), (3, .long (lN (pw_s n pl (n + 1 - (n + 1))))), (5, .long (lN (pw_w n pl (n + 1 - (n + 1))))), (7, .int (nI (n + 1) - 1))] := by rw [Nat.sub_self, nI_pred]; exact hl
  exact loop (n + 2) (n + 1) (by omega) (by omega) (by omega) ls hl
set_option maxHeartbeats 400000 in
set_option maxRecDepth 100000 in
theorem c_P_strength (l : Launch) (D : va_G) (κ : Nat → ClassId) (base : Nat) (H0 : Heap) (k : Nat) (hk : k < 16) : Met l yP_strength wP_strength ({ frames := 0, cells := 0, slots := 0, locals := 0 }) (Pq D κ base [.int (nI k)] H0) (q_P (some (.double (strv k)))) 0 0 (fun _ => False) := by
  refine Met.ofW (cc := bP_strength) (maxL := 1) (ret := (some FieldType.double)) (by decide) rfl ?_
  intro p e s m args below meth c s₁ B hml hv
  obtain ⟨rfl, hH, hE⟩ := hv
  subst hH
  have hx := B.exec
  have hb := B.bytes
  have hr := B.returns
  have hT : ∀ w ∈ TT, w.before _ s = true := fun w h => atoms_spec (ws := wP_strength) B.pre w (List.mem_cons_of_mem _ h)
  have hown : s.vm.findClass "TasterPanels" = some m.cls := findClass_of_methodNamed B.named
  have hlocks := B.notSynchronized
  have hK := hE.1
  have hS : va_S (fun q => base ≤ q) s.heap s.heap [] := va_S.rf
  have hAb : ∀ q : Nat, (fun q : Nat => base ≤ q) q → base ≤ q := fun _ h => h
  have hl := lv_entry ([.int (nI k)]) (n := 1) (Nat.le_of_ble_eq_true rfl)
  rw [lg_entry_eq]
  generalize (lg_sl ([.int (nI k)]) ++ List.replicate (1 - (lg_sl ([.int (nI k)])).length) Slot.unset).toArray = ls at hl ⊢
  have hl : lv_has ls 1 [(0, .int (nI k))] := hl
  refine lv_iconst (v := nI 1) hx hb dP_strength_0 (by decide) ?_
  refine lv_iload_n hx hb dP_strength_1 rfl (lv_at hl 0 rfl) ?_
  refine x_ishl (v := (nI 1) <<< ((nI k) &&& 31)) hx hb dP_strength_2 (rfl) ?_
  refine lv_i2d hx hb dP_strength_3 ?_
  refine lv_ldc2d (v := 4620693217682128896) hx hb hown (hT _ kP209) dP_strength_4 ?_
  refine lv_ddiv hx hb dP_strength_7 (strv_ok k hk) ?_
  exact W.dret (v := FP.ddiv (FP.i2d ((nI 1) <<< ((nI k) &&& 31))) 4620693217682128896) hx hb hr (fun t ht hW => ⟨rfl, ht⟩) (fun q h => absurd h List.not_mem_nil) dP_strength_8
set_option maxHeartbeats 400000 in
set_option maxRecDepth 100000 in
theorem c_P_isKindOf (l : Launch) (D : va_G) (κ : Nat → ClassId) (base : Nat) (H0 : Heap) (k n : Int32) (r : Nat) (hr0 : r = if okK k n = true then 1 else 0) : Met l yP_isKindOf wP_isKindOf ({ frames := 0, cells := 0, slots := 0, locals := 0 }) (Pq D κ base [.int k, .int n] H0) (q_P (some (.int (nI r)))) 0 0 (fun _ => False) := by
  refine Met.ofW (cc := bP_isKindOf) (maxL := 2) (ret := (some FieldType.boolean)) (by decide) rfl ?_
  intro p e s m args below meth c s₁ B hml hv
  obtain ⟨rfl, hH, hE⟩ := hv
  subst hH
  have hx := B.exec
  have hb := B.bytes
  have hr := B.returns
  have hT : ∀ w ∈ TT, w.before _ s = true := fun w h => atoms_spec (ws := wP_isKindOf) B.pre w (List.mem_cons_of_mem _ h)
  have hown : s.vm.findClass "TasterPanels" = some m.cls := findClass_of_methodNamed B.named
  have hlocks := B.notSynchronized
  have hK := hE.1
  have hS : va_S (fun q => base ≤ q) s.heap s.heap [] := va_S.rf
  have hAb : ∀ q : Nat, (fun q : Nat => base ≤ q) q → base ≤ q := fun _ h => h
  have hl := lv_entry ([.int k, .int n]) (n := 2) (Nat.le_of_ble_eq_true rfl)
  rw [lg_entry_eq]
  generalize (lg_sl ([.int k, .int n]) ++ List.replicate (2 - (lg_sl ([.int k, .int n])).length) Slot.unset).toArray = ls at hl ⊢
  have hl : lv_has ls 2 [(0, .int k), (1, .int n)] := hl
  by_cases e0 : k = nI 0
  · subst e0
    refine lv_iload_n hx hb dP_isKindOf_0 rfl (lv_at hl 0 rfl) ?_
    refine lv_tableIn (off := 31) (tgt := 32) hx hb dP_isKindOf_1 (by decide) (by decide) (by decide) (by decide) ?_
    refine lv_iload_n hx hb dP_isKindOf_32 rfl (lv_at hl 1 rfl) ?_
    refine lv_iconst (v := nI 3) hx hb dP_isKindOf_33 (by decide) ?_
    refine lv_icmp_ne (tgt := 41) hx hb dP_isKindOf_34 (by decide) (fun h1 => ?_) (fun h1 => ?_)
    · refine lv_iconst (v := nI 0) hx hb dP_isKindOf_41 (by decide) ?_
      exact W.zret (v := nI 0) hx hb hr (by decide) (fun t ht hW => ⟨congrArg (fun z => Outcome.returned (some (Value.int (nI z)))) (by rw [hr0, if_neg (by simp_all [okK, nI]; try (intro q; exact absurd q (Int32.not_le.mpr (by assumption))))]), ht⟩) (fun q h => absurd h List.not_mem_nil) dP_isKindOf_42
    · refine lv_iconst (v := nI 1) hx hb dP_isKindOf_37 (by decide) ?_
      refine lv_goto (tgt := 42) hx hb dP_isKindOf_38 (by decide) ?_
      exact W.zret (v := nI 1) hx hb hr (by decide) (fun t ht hW => ⟨congrArg (fun z => Outcome.returned (some (Value.int (nI z)))) (by rw [hr0, if_pos (by simp_all [okK, nI])]), ht⟩) (fun q h => absurd h List.not_mem_nil) dP_isKindOf_42
  · by_cases e1 : k = nI 1
    · subst e1
      refine lv_iload_n hx hb dP_isKindOf_0 rfl (lv_at hl 0 rfl) ?_
      refine lv_tableIn (off := 42) (tgt := 43) hx hb dP_isKindOf_1 (by decide) (by decide) (by decide) (by decide) ?_
      refine lv_iload_n hx hb dP_isKindOf_43 rfl (lv_at hl 1 rfl) ?_
      refine lv_iconst (v := nI 2) hx hb dP_isKindOf_44 (by decide) ?_
      refine lv_icmp_ne (tgt := 52) hx hb dP_isKindOf_45 (by decide) (fun h2 => ?_) (fun h2 => ?_)
      · refine lv_iconst (v := nI 0) hx hb dP_isKindOf_52 (by decide) ?_
        exact W.zret (v := nI 0) hx hb hr (by decide) (fun t ht hW => ⟨congrArg (fun z => Outcome.returned (some (Value.int (nI z)))) (by rw [hr0, if_neg (by simp_all [okK, nI]; try (intro q; exact absurd q (Int32.not_le.mpr (by assumption))))]), ht⟩) (fun q h => absurd h List.not_mem_nil) dP_isKindOf_53
      · refine lv_iconst (v := nI 1) hx hb dP_isKindOf_48 (by decide) ?_
        refine lv_goto (tgt := 53) hx hb dP_isKindOf_49 (by decide) ?_
        exact W.zret (v := nI 1) hx hb hr (by decide) (fun t ht hW => ⟨congrArg (fun z => Outcome.returned (some (Value.int (nI z)))) (by rw [hr0, if_pos (by simp_all [okK, nI])]), ht⟩) (fun q h => absurd h List.not_mem_nil) dP_isKindOf_53
    · by_cases e2 : k = nI 2
      · subst e2
        refine lv_iload_n hx hb dP_isKindOf_0 rfl (lv_at hl 0 rfl) ?_
        refine lv_tableIn (off := 42) (tgt := 43) hx hb dP_isKindOf_1 (by decide) (by decide) (by decide) (by decide) ?_
        refine lv_iload_n hx hb dP_isKindOf_43 rfl (lv_at hl 1 rfl) ?_
        refine lv_iconst (v := nI 2) hx hb dP_isKindOf_44 (by decide) ?_
        refine lv_icmp_ne (tgt := 52) hx hb dP_isKindOf_45 (by decide) (fun h3 => ?_) (fun h3 => ?_)
        · refine lv_iconst (v := nI 0) hx hb dP_isKindOf_52 (by decide) ?_
          exact W.zret (v := nI 0) hx hb hr (by decide) (fun t ht hW => ⟨congrArg (fun z => Outcome.returned (some (Value.int (nI z)))) (by rw [hr0, if_neg (by simp_all [okK, nI]; try (intro q; exact absurd q (Int32.not_le.mpr (by assumption))))]), ht⟩) (fun q h => absurd h List.not_mem_nil) dP_isKindOf_53
        · refine lv_iconst (v := nI 1) hx hb dP_isKindOf_48 (by decide) ?_
          refine lv_goto (tgt := 53) hx hb dP_isKindOf_49 (by decide) ?_
          exact W.zret (v := nI 1) hx hb hr (by decide) (fun t ht hW => ⟨congrArg (fun z => Outcome.returned (some (Value.int (nI z)))) (by rw [hr0, if_pos (by simp_all [okK, nI])]), ht⟩) (fun q h => absurd h List.not_mem_nil) dP_isKindOf_53
      · by_cases e3 : k = nI 3
        · subst e3
          refine lv_iload_n hx hb dP_isKindOf_0 rfl (lv_at hl 0 rfl) ?_
          refine lv_tableIn (off := 53) (tgt := 54) hx hb dP_isKindOf_1 (by decide) (by decide) (by decide) (by decide) ?_
          refine lv_iload_n hx hb dP_isKindOf_54 rfl (lv_at hl 1 rfl) ?_
          refine lv_iconst (v := nI 2) hx hb dP_isKindOf_55 (by decide) ?_
          refine lv_icmp_lt (tgt := 68) hx hb dP_isKindOf_56 (by decide) (fun h4 => ?_) (fun h4 => ?_)
          · refine lv_iconst (v := nI 0) hx hb dP_isKindOf_68 (by decide) ?_
            exact W.zret (v := nI 0) hx hb hr (by decide) (fun t ht hW => ⟨congrArg (fun z => Outcome.returned (some (Value.int (nI z)))) (by rw [hr0, if_neg (by simp_all [okK, nI]; try (intro q; exact absurd q (Int32.not_le.mpr (by assumption))))]), ht⟩) (fun q h => absurd h List.not_mem_nil) dP_isKindOf_69
          · refine lv_iload_n hx hb dP_isKindOf_59 rfl (lv_at hl 1 rfl) ?_
            refine lv_iconst (v := nI 5) hx hb dP_isKindOf_60 (by decide) ?_
            refine lv_icmp_gt (tgt := 68) hx hb dP_isKindOf_61 (by decide) (fun h5 => ?_) (fun h5 => ?_)
            · refine lv_iconst (v := nI 0) hx hb dP_isKindOf_68 (by decide) ?_
              exact W.zret (v := nI 0) hx hb hr (by decide) (fun t ht hW => ⟨congrArg (fun z => Outcome.returned (some (Value.int (nI z)))) (by rw [hr0, if_neg (by simp_all [okK, nI]; try (intro q; exact absurd q (Int32.not_le.mpr (by assumption))))]), ht⟩) (fun q h => absurd h List.not_mem_nil) dP_isKindOf_69
            · refine lv_iconst (v := nI 1) hx hb dP_isKindOf_64 (by decide) ?_
              refine lv_goto (tgt := 69) hx hb dP_isKindOf_65 (by decide) ?_
              exact W.zret (v := nI 1) hx hb hr (by decide) (fun t ht hW => ⟨congrArg (fun z => Outcome.returned (some (Value.int (nI z)))) (by rw [hr0, if_pos (by simp_all [okK, nI])]), ht⟩) (fun q h => absurd h List.not_mem_nil) dP_isKindOf_69
        · refine lv_iload_n hx hb dP_isKindOf_0 rfl (lv_at hl 0 rfl) ?_
          refine lv_tableOut (tgt := 70) hx hb dP_isKindOf_1 (out_of 3 (by decide) (fun j hj => by rcases (show j = 0 ∨ j = 1 ∨ j = 2 ∨ j = 3 by omega) with rfl | rfl | rfl | rfl <;> assumption)) (by decide) ?_
          refine lv_iconst (v := nI 0) hx hb dP_isKindOf_70 (by decide) ?_
          exact W.zret (v := nI 0) hx hb hr (by decide) (fun t ht hW => ⟨congrArg (fun z => Outcome.returned (some (Value.int (nI z)))) (by rw [hr0, if_neg (by simp_all [okK, nI])]), ht⟩) (fun q h => absurd h List.not_mem_nil) dP_isKindOf_71
set_option maxHeartbeats 400000 in
set_option maxRecDepth 100000 in
theorem c_P_unusedSample (l : Launch) (D : va_G) (κ : Nat → ClassId) (base : Nat) (H0 : Heap) (u lf : Int32) : Met l yP_unusedSample wP_unusedSample ({ frames := 0, cells := 0, slots := 0, locals := 0 }) (Pq D κ base [.int u, .int lf] H0) (q_P (some (.int (usI 5 u lf 0)))) 0 0 (fun _ => False) := by
  refine Met.ofW (cc := bP_unusedSample) (maxL := 4) (ret := (some FieldType.int)) (by decide) rfl ?_
  intro p e s m args below meth c s₁ B hml hv
  obtain ⟨rfl, hH, hE⟩ := hv
  subst hH
  have hx := B.exec
  have hb := B.bytes
  have hr := B.returns
  have hT : ∀ w ∈ TT, w.before _ s = true := fun w h => atoms_spec (ws := wP_unusedSample) B.pre w (List.mem_cons_of_mem _ h)
  have hown : s.vm.findClass "TasterPanels" = some m.cls := findClass_of_methodNamed B.named
  have hlocks := B.notSynchronized
  have hK := hE.1
  have hS : va_S (fun q => base ≤ q) s.heap s.heap [] := va_S.rf
  have hAb : ∀ q : Nat, (fun q : Nat => base ≤ q) q → base ≤ q := fun _ h => h
  have hl := lv_entry ([.int u, .int lf]) (n := 4) (Nat.le_of_ble_eq_true rfl)
  rw [lg_entry_eq]
  generalize (lg_sl ([.int u, .int lf]) ++ List.replicate (4 - (lg_sl ([.int u, .int lf])).length) Slot.unset).toArray = ls at hl ⊢
  have hl : lv_has ls 4 [(0, .int u), (1, .int lf)] := hl
  have loop : ∀ (fu : Nat) (j : Nat) (q : Int32), (j ≤ 5) → (usI (5 - j) u q j = usI 5 u lf 0) → 5 - j < fu → ∀ ls : Array Slot, lv_has ls 4 [(0, .int u), (1, .int lf), (2, .int q), (3, .int (nI j))] → W p l e (headSpec wP_unusedSample ({ frames := 0, cells := 0, slots := 0, locals := 0 })).room s m ([.int u, .int lf] : List Value).toArray below meth c s.heap [] 0 0 (MQ below (q_P (some (.int (usI 5 u lf 0)))) ([.int u, .int lf] : List Value).toArray s 0 0 (fun _ => False)) (F0 m 4 ls []) := by
    intro fu
    induction fu with
    | zero =>
      intro j q hj heq hmu
      exact absurd hmu (Nat.not_lt_zero _)
    | succ fu ih =>
      intro j q hj heq hmu ls hl
      refine lv_iload_n hx hb dP_unusedSample_4 rfl (lv_at hl 3 rfl) ?_
      refine lv_iconst (v := nI 5) hx hb dP_unusedSample_5 (by decide) ?_
      refine x_cge (a := j) (b := 5) (tgt := 32) hx hb dP_unusedSample_6 (by decide) (by omega) (by omega) (fun h1 => ?_) (fun h1 => ?_)
      · refine lv_iconst (v := -1) hx hb dP_unusedSample_32 (by decide) ?_
        rw [show 5 - j = 0 by omega] at heq
        refine x_topi (y := usI 5 u lf 0) (by rw [← heq]; rfl) ?_
        exact W.iret (v := usI 5 u lf 0) hx hb hr (fun t ht hW => ⟨rfl, ht⟩) (fun q h => absurd h List.not_mem_nil) dP_unusedSample_33
      · rw [show 5 - j = (5 - (j + 1)) + 1 by omega] at heq
        refine lv_iload_n hx hb dP_unusedSample_9 rfl (lv_at hl 0 rfl) ?_
        refine lv_iload_n hx hb dP_unusedSample_10 rfl (lv_at hl 3 rfl) ?_
        refine x_ishr (v := u >>> ((nI j) &&& 31)) hx hb dP_unusedSample_11 (rfl) ?_
        refine lv_iconst (v := nI 1) hx hb dP_unusedSample_12 (by decide) ?_
        refine x_iand (v := (u >>> ((nI j) &&& 31)) &&& (nI 1)) hx hb dP_unusedSample_13 (rfl) ?_
        refine lv_if_ne (tgt := 26) hx hb dP_unusedSample_14 (by decide) (fun h2 => ?_) (fun h2 => ?_)
        · rw [usI, if_neg h2] at heq
          refine lv_iinc (v := nI (j + 1)) (lv' := [(3, .int (nI (j + 1))), (0, .int u), (1, .int lf), (2, .int q)]) hx hb dP_unusedSample_26 hl (k := 3) rfl (nI_add _ _) (by decide) rfl (fun ls hl => ?_)
          refine lv_goto (tgt := 4) hx hb dP_unusedSample_29 (by decide) ?_
          exact ih (j + 1) q (by omega) heq (by omega) ls (lv_sub hl [1, 2, 3, 0] rfl)
        · refine lv_iload_n hx hb dP_unusedSample_17 rfl (lv_at hl 2 rfl) ?_
          refine lv_if_ne (tgt := 23) hx hb dP_unusedSample_18 (by decide) (fun h3 => ?_) (fun h3 => ?_)
          · rw [usI, if_pos h2, if_neg h3] at heq
            refine lv_iinc (v := q + (-1)) (lv' := [(2, .int (q + (-1))), (0, .int u), (1, .int lf), (3, .int (nI j))]) hx hb dP_unusedSample_23 hl (k := 2) rfl (rfl) (by decide) rfl (fun ls hl => ?_)
            refine lv_iinc (v := nI (j + 1)) (lv' := [(3, .int (nI (j + 1))), (2, .int (q + (-1))), (0, .int u), (1, .int lf)]) hx hb dP_unusedSample_26 hl (k := 3) rfl (nI_add _ _) (by decide) rfl (fun ls hl => ?_)
            refine lv_goto (tgt := 4) hx hb dP_unusedSample_29 (by decide) ?_
            exact ih (j + 1) (q + (-1)) (by omega) heq (by omega) ls (lv_sub hl [2, 3, 1, 0] rfl)
          · rw [usI, if_pos h2, if_pos h3] at heq
            refine lv_iload_n hx hb dP_unusedSample_21 rfl (lv_at hl 3 rfl) ?_
            refine x_topi (y := usI 5 u lf 0) (heq) ?_
            exact W.iret (v := usI 5 u lf 0) hx hb hr (fun t ht hW => ⟨rfl, ht⟩) (fun q h => absurd h List.not_mem_nil) dP_unusedSample_22
  refine lv_iload_n hx hb dP_unusedSample_0 rfl (lv_at hl 1 rfl) ?_
  refine lv_istore_n (lv' := [(2, .int lf), (0, .int u), (1, .int lf)]) hx hb dP_unusedSample_1 rfl hl (by decide) rfl (fun ls hl => ?_)
  refine lv_iconst (v := nI 0) hx hb dP_unusedSample_2 (by decide) ?_
  refine lv_istore_n (lv' := [(3, .int (nI 0)), (2, .int lf), (0, .int u), (1, .int lf)]) hx hb dP_unusedSample_3 rfl hl (by decide) rfl (fun ls hl => ?_)
  exact loop 6 0 lf (Nat.zero_le _) rfl (by omega) ls (lv_sub hl [2, 3, 1, 0] rfl)
set_option maxHeartbeats 400000 in
set_option maxRecDepth 100000 in
theorem c_P_sampleInRow (l : Launch) (D : va_G) (κ : Nat → ClassId) (base : Nat) (H0 : Heap) (n row k : Nat) (hn : n ≤ 5) (hrow : row < 2 ^ 31) (hk : k < n) : Met l yP_sampleInRow wP_sampleInRow ({ frames := 1, cells := 0, slots := 0, locals := 23 }) (Pq D κ base [.int (nI n), .int (nI row), .int (nI k)] H0) (q_P (some (.int (siI n (k + 1) 0 (nI 0) row (-1))))) 0 0 (fun _ => False) := by
  refine Met.ofW (cc := bP_sampleInRow) (maxL := 8) (ret := (some FieldType.int)) (by decide) rfl ?_
  intro p e s m args below meth c s₁ B hml hv
  obtain ⟨rfl, hH, hE⟩ := hv
  subst hH
  have hx := B.exec
  have hb := B.bytes
  have hr := B.returns
  have hT : ∀ w ∈ TT, w.before _ s = true := fun w h => atoms_spec (ws := wP_sampleInRow) B.pre w (List.mem_cons_of_mem _ h)
  have hown : s.vm.findClass "TasterPanels" = some m.cls := findClass_of_methodNamed B.named
  have hlocks := B.notSynchronized
  have hK := hE.1
  have hS : va_S (fun q => base ≤ q) s.heap s.heap [] := va_S.rf
  have hAb : ∀ q : Nat, (fun q : Nat => base ≤ q) q → base ≤ q := fun _ h => h
  have hl := lv_entry ([.int (nI n), .int (nI row), .int (nI k)]) (n := 8) (Nat.le_of_ble_eq_true rfl)
  rw [lg_entry_eq]
  generalize (lg_sl ([.int (nI n), .int (nI row), .int (nI k)]) ++ List.replicate (8 - (lg_sl ([.int (nI n), .int (nI row), .int (nI k)])).length) Slot.unset).toArray = ls at hl ⊢
  have hl : lv_has ls 8 [(0, .int (nI n)), (1, .int (nI row)), (2, .int (nI k))] := hl
  obtain ⟨t0, hZ0, hT0⟩ := hE.2.2 0 _ rfl
  dsimp only at hZ0 hT0
  have loop : ∀ (fu : Nat) (j : Nat) (u : Int32) (rs : Nat) (sm : Int32), (j ≤ k + 1) → (rs < 2 ^ 31) → (siI n (k + 1 - j) j u rs sm = siI n (k + 1) 0 (nI 0) row (-1)) → k + 1 - j < fu → ∀ ls : Array Slot, lv_has ls 8 [(0, .int (nI n)), (1, .int (nI row)), (2, .int (nI k)), (3, .int u), (4, .int (nI rs)), (5, .int sm), (6, .int (nI j))] → W p l e (headSpec wP_sampleInRow ({ frames := 1, cells := 0, slots := 0, locals := 23 })).room s m ([.int (nI n), .int (nI row), .int (nI k)] : List Value).toArray below meth c s.heap [] 0 0 (MQ below (q_P (some (.int (siI n (k + 1) 0 (nI 0) row (-1))))) ([.int (nI n), .int (nI row), .int (nI k)] : List Value).toArray s 0 0 (fun _ => False)) (F0 m 11 ls []) := by
    intro fu
    induction fu with
    | zero =>
      intro j u rs sm hj hrs heq hmu
      exact absurd hmu (Nat.not_lt_zero _)
    | succ fu ih =>
      intro j u rs sm hj hrs heq hmu ls hl
      refine lv_iload hx hb dP_sampleInRow_11 (lv_at hl 6 rfl) ?_
      refine lv_iload_n hx hb dP_sampleInRow_13 rfl (lv_at hl 2 rfl) ?_
      refine x_cgt (a := j) (b := k) (tgt := 66) hx hb dP_sampleInRow_14 (by decide) (by omega) (by omega) (fun h1 => ?_) (fun h1 => ?_)
      · refine lv_iload hx hb dP_sampleInRow_66 (lv_at hl 5 rfl) ?_
        rw [show k + 1 - j = 0 by omega] at heq
        refine x_topi (y := siI n (k + 1) 0 (nI 0) row (-1)) (heq) ?_
        exact W.iret (v := siI n (k + 1) 0 (nI 0) row (-1)) hx hb hr (fun t ht hW => ⟨rfl, ht⟩) (fun q h => absurd h List.not_mem_nil) dP_sampleInRow_68
      · refine lv_iload hx hb dP_sampleInRow_17 (lv_at hl 6 rfl) ?_
        refine lv_iload_n hx hb dP_sampleInRow_19 rfl (lv_at hl 0 rfl) ?_
        refine x_cge (a := j) (b := n) (tgt := 66) hx hb dP_sampleInRow_20 (by decide) (by omega) (by omega) (fun h2 => absurd h2 (by omega)) (fun h2 => ?_)
        rw [show k + 1 - j = (k + 1 - (j + 1)) + 1 by omega] at heq
        obtain ⟨f1, f2⟩ := fact_ok (n - 1 - j) (by omega)
        refine va_gets hx hb hZ0 hS hown (hT _ kP157) (fun _ h9 => h9) dP_sampleInRow_23 ?_
        refine lv_iload_n hx hb dP_sampleInRow_26 rfl (lv_at hl 0 rfl) ?_
        refine lv_iconst (v := nI 1) hx hb dP_sampleInRow_27 (by decide) ?_
        refine x_isub (v := nI (n - 1)) hx hb dP_sampleInRow_28 (pk_sub (by omega)) ?_
        refine lv_iload hx hb dP_sampleInRow_29 (lv_at hl 6 rfl) ?_
        refine x_isub (v := nI ((n - 1) - j)) hx hb dP_sampleInRow_31 (pk_sub (by omega)) ?_
        refine x_ti (v := .int (nI (tFACT.getD ((n - 1) - j) 0))) hx hb hT0 hS (j := (n - 1) - j) (show (n - 1) - j < 6 by omega) (by decide) rfl dP_sampleInRow_32 ?_
        refine lv_istore (lv' := [(7, .int (nI (tFACT.getD ((n - 1) - j) 0))), (0, .int (nI n)), (1, .int (nI row)), (2, .int (nI k)), (3, .int u), (4, .int (nI rs)), (5, .int sm), (6, .int (nI j))]) hx hb dP_sampleInRow_33 hl (by decide) rfl (fun ls hl => ?_)
        refine lv_iload_n hx hb dP_sampleInRow_35 rfl (lv_at hl 4 rfl) ?_
        refine lv_iload hx hb dP_sampleInRow_36 (lv_at hl 5 rfl) ?_
        refine lv_iload hx hb dP_sampleInRow_38 (lv_at hl 0 rfl) ?_
        refine x_idiv (v := nI (rs / (tFACT.getD ((n - 1) - j) 0))) hx hb dP_sampleInRow_40 (nI_ne0 (by omega) (by omega)) (pk_div (by omega) (by omega) (by omega)) ?_
        refine x_callP (v := .int (usI 5 u (nI (rs / tFACT.getD (n - 1 - j) 0)) 0)) (va_runS (As := [.int u, .int (nI (rs / (tFACT.getD ((n - 1) - j) 0)))]) (rest := []) ⟨hx, hb, hml, hown, hT⟩ (c_P_unusedSample l D κ base s.heap u (nI (rs / tFACT.getD (n - 1 - j) 0))) (va_cwS 2 hT (TT_S kP188 ktP_unusedSample knP kcP_unusedSample) rfl rfl rfl (by decide +kernel) ⟨Nat.le_of_ble_eq_true rfl, Nat.le_of_ble_eq_true rfl⟩) (pcS hE hS hAb) rfl rfl hl.1 rfl (lv_room (Nat.le_of_ble_eq_true rfl)) dP_sampleInRow_41 ⟨Nat.le_of_ble_eq_true rfl, Nat.le_of_ble_eq_true rfl⟩) ?_
        refine lv_istore (lv' := [(5, .int (usI 5 u (nI (rs / tFACT.getD (n - 1 - j) 0)) 0)), (7, .int (nI (tFACT.getD ((n - 1) - j) 0))), (0, .int (nI n)), (1, .int (nI row)), (2, .int (nI k)), (3, .int u), (4, .int (nI rs)), (6, .int (nI j))]) hx hb dP_sampleInRow_44 hl (by decide) rfl (fun ls hl => ?_)
        refine lv_iload_n hx hb dP_sampleInRow_46 rfl (lv_at hl 5 rfl) ?_
        refine lv_iconst (v := nI 1) hx hb dP_sampleInRow_47 (by decide) ?_
        refine lv_iload hx hb dP_sampleInRow_48 (lv_at hl 0 rfl) ?_
        refine x_ishl (v := (nI 1) <<< ((usI 5 u (nI (rs / tFACT.getD (n - 1 - j) 0)) 0) &&& 31)) hx hb dP_sampleInRow_50 (rfl) ?_
        refine x_ior (v := u ||| ((nI 1) <<< ((usI 5 u (nI (rs / tFACT.getD (n - 1 - j) 0)) 0) &&& 31))) hx hb dP_sampleInRow_51 (rfl) ?_
        refine lv_istore_n (lv' := [(3, .int (u ||| ((nI 1) <<< ((usI 5 u (nI (rs / tFACT.getD (n - 1 - j) 0)) 0) &&& 31)))), (5, .int (usI 5 u (nI (rs / tFACT.getD (n - 1 - j) 0)) 0)), (7, .int (nI (tFACT.getD ((n - 1) - j) 0))), (0, .int (nI n)), (1, .int (nI row)), (2, .int (nI k)), (4, .int (nI rs)), (6, .int (nI j))]) hx hb dP_sampleInRow_52 rfl hl (by decide) rfl (fun ls hl => ?_)
        refine lv_iload hx hb dP_sampleInRow_53 (lv_at hl 6 rfl) ?_
        refine lv_iload hx hb dP_sampleInRow_55 (lv_at hl 2 rfl) ?_
        refine x_irem (v := nI (rs % (tFACT.getD ((n - 1) - j) 0))) hx hb dP_sampleInRow_57 (nI_ne0 (by omega) (by omega)) (pk_rem (by omega) (by omega) (by omega)) ?_
        refine lv_istore (lv' := [(4, .int (nI (rs % (tFACT.getD ((n - 1) - j) 0)))), (3, .int (u ||| ((nI 1) <<< ((usI 5 u (nI (rs / tFACT.getD (n - 1 - j) 0)) 0) &&& 31)))), (5, .int (usI 5 u (nI (rs / tFACT.getD (n - 1 - j) 0)) 0)), (7, .int (nI (tFACT.getD ((n - 1) - j) 0))), (0, .int (nI n)), (1, .int (nI row)), (2, .int (nI k)), (6, .int (nI j))]) hx hb dP_sampleInRow_58 hl (by decide) rfl (fun ls hl => ?_)
        refine lv_iinc (v := nI (j + 1)) (lv' := [(6, .int (nI (j + 1))), (4, .int (nI (rs % (tFACT.getD ((n - 1) - j) 0)))), (3, .int (u ||| ((nI 1) <<< ((usI 5 u (nI (rs / tFACT.getD (n - 1 - j) 0)) 0) &&& 31)))), (5, .int (usI 5 u (nI (rs / tFACT.getD (n - 1 - j) 0)) 0)), (7, .int (nI (tFACT.getD ((n - 1) - j) 0))), (0, .int (nI n)), (1, .int (nI row)), (2, .int (nI k))]) hx hb dP_sampleInRow_60 hl (k := 7) rfl (nI_add _ _) (by decide) rfl (fun ls hl => ?_)
        refine lv_goto (tgt := 11) hx hb dP_sampleInRow_63 (by decide) ?_
        exact ih (j + 1) (u ||| (nI 1 <<< (usI 5 u (nI (rs / tFACT.getD (n - 1 - j) 0)) 0 &&& 31))) (rs % tFACT.getD (n - 1 - j) 0) (usI 5 u (nI (rs / tFACT.getD (n - 1 - j) 0)) 0) (by omega) (Nat.lt_of_le_of_lt (Nat.mod_le _ _) hrs) heq (by omega) ls (lv_sub hl [5, 6, 7, 2, 1, 3, 0] rfl)
  refine lv_iconst (v := nI 0) hx hb dP_sampleInRow_0 (by decide) ?_
  refine lv_istore_n (lv' := [(3, .int (nI 0)), (0, .int (nI n)), (1, .int (nI row)), (2, .int (nI k))]) hx hb dP_sampleInRow_1 rfl hl (by decide) rfl (fun ls hl => ?_)
  refine lv_iload_n hx hb dP_sampleInRow_2 rfl (lv_at hl 2 rfl) ?_
  refine lv_istore (lv' := [(4, .int (nI row)), (3, .int (nI 0)), (0, .int (nI n)), (1, .int (nI row)), (2, .int (nI k))]) hx hb dP_sampleInRow_3 hl (by decide) rfl (fun ls hl => ?_)
  refine lv_iconst (v := -1) hx hb dP_sampleInRow_5 (by decide) ?_
  refine lv_istore (lv' := [(5, .int (-1)), (4, .int (nI row)), (3, .int (nI 0)), (0, .int (nI n)), (1, .int (nI row)), (2, .int (nI k))]) hx hb dP_sampleInRow_6 hl (by decide) rfl (fun ls hl => ?_)
  refine lv_iconst (v := nI 0) hx hb dP_sampleInRow_8 (by decide) ?_
  refine lv_istore (lv' := [(6, .int (nI 0)), (5, .int (-1)), (4, .int (nI row)), (3, .int (nI 0)), (0, .int (nI n)), (1, .int (nI row)), (2, .int (nI k))]) hx hb dP_sampleInRow_9 hl (by decide) rfl (fun ls hl => ?_)
  exact loop (k + 2) 0 (nI 0) row (-1) (Nat.zero_le _) hrow rfl (by omega) ls (lv_sub hl [4, 5, 6, 3, 2, 1, 0] rfl)
end
section
/-! the class's reads: what a test says, who is there -/
def cntO (kd sp : Nat) : Nat := if kd = 0 then 6 else if kd = 1 then 2 else if kd = 2 then 4 else tFACT.getD sp 0
def srvI (kd sp o k : Nat) : Int32 := if kd = 0 then nI (tTS.getD (o * 3 + k) 0) else if kd = 1 then nI (tPS.getD (o * 2 + k) 0) else if kd = 2 then nI (tDS.getD (o * 3 + k) 0) else siI sp (k + 1) 0 (nI 0) o (-1)
theorem at_out {x : Int32} {n j : Nat} {P : Prop} (hn : n < 2 ^ 31) (hj : j < n) (h : x < 0 ∨ nI n ≤ x) (e : x = nI j) : P := by
  exfalso
  subst e
  rcases h with h | h
  · exact absurd h (nI_pos (by omega))
  · exact absurd h (nI_ge hj hn)
theorem nI_inj {a b : Nat} (ha : a < 2 ^ 31) (hb : b < 2 ^ 31) (h : nI a = nI b) : a = b := (nI_eq ha hb).mp h
theorem none_at {fr : Nat → Option Nat} {x : Int32} {n : Nat} (hn : n < 2 ^ 31) (hx0 : (x < 0 ∨ nI n ≤ x) ∨ ∃ j, j < n ∧ x = nI j ∧ fr j = none) (j : Nat) (hj : j < n) (e : x = nI j) : Value.null = va_rf (fr j) := by
  rcases hx0 with h | ⟨i, hi, e2, h⟩
  · exact at_out hn hj h e
  · have := nI_inj (by omega) (by omega) (e2.symm.trans e)
    subst this
    rw [h]
    rfl
theorem some_at {fr : Nat → Option Nat} {j q n : Nat} (hn : n < 2 ^ 31) (hj : j < n) (hf : fr j = some q) (i : Nat) (hi : i < n) (e : nI j = nI i) : Value.ref q = va_rf (fr i) := by
  have := nI_inj (by omega) (by omega) e
  subst this
  rw [hf]
  rfl
def rgtN (kd o : Nat) : Nat := if kd = 0 then tTR.getD o 0 else if kd = 1 then tPR.getD o 0 else tDR.getD o 0
set_option maxHeartbeats 400000 in
set_option maxRecDepth 100000 in
theorem c_P_servings (l : Launch) (D : va_G) (κ : Nat → ClassId) (base : Nat) (H0 : Heap) {q kd sp an ri : Nat} (hP : va_P D vwCl [(q, .inr (1, [.int (nI kd), .int (nI sp), .ref (q + 1), .ref (q + 2), .ref (q + 3), .int (nI an), .int (nI ri)]))] H0) (hk : kd < 4) (r : Nat) (hr2 : kd = 2 → r = 3) (hr1 : kd ≠ 2 → r = sp) : Met l yP_servings wP_servings ({ frames := 0, cells := 0, slots := 0, locals := 0 }) (Pq D κ base [.ref q] H0) (q_P (some (.int (nI r)))) 0 0 (fun _ => False) := by
  refine Met.ofW (cc := bP_servings) (maxL := 1) (ret := (some FieldType.int)) (by decide) rfl ?_
  intro p e s m args below meth c s₁ B hml hv
  obtain ⟨rfl, hH, hE⟩ := hv
  subst hH
  have hx := B.exec
  have hb := B.bytes
  have hr := B.returns
  have hT : ∀ w ∈ TT, w.before _ s = true := fun w h => atoms_spec (ws := wP_servings) B.pre w (List.mem_cons_of_mem _ h)
  have hown : s.vm.findClass "TasterPanels" = some m.cls := findClass_of_methodNamed B.named
  have hlocks := B.notSynchronized
  have hK := hE.1
  have hS : va_S (fun q => base ≤ q) s.heap s.heap [] := va_S.rf
  have hAb : ∀ q : Nat, (fun q : Nat => base ≤ q) q → base ≤ q := fun _ h => h
  have hl := lv_entry ([.ref q]) (n := 1) (Nat.le_of_ble_eq_true rfl)
  rw [lg_entry_eq]
  generalize (lg_sl ([.ref q]) ++ List.replicate (1 - (lg_sl ([.ref q])).length) Slot.unset).toArray = ls at hl ⊢
  have hl : lv_has ls 1 [(0, .ref q)] := hl
  refine lv_aload_n hx hb dP_servings_0 rfl (lv_at hl 0 rfl) ?_
  refine va_getN (D := D) (ci := 1) (v := .int (nI kd)) (C := RS) (T := FS) (N := 7) hx hb hT inS hown hK hP 0 rfl rfl 0 (by decide) (va_Nw.use rfl (kN85 hE.2.1)) (fun _ h9 => h9) rfl dP_servings_1 ?_
  refine lv_iconst (v := nI 2) hx hb dP_servings_4 (by decide) ?_
  refine x_cne (a := kd) (b := 2) (tgt := 12) hx hb dP_servings_5 (by decide) (by omega) (by omega) (fun h1 => ?_) (fun h1 => ?_)
  · refine lv_aload_n hx hb dP_servings_12 rfl (lv_at hl 0 rfl) ?_
    refine va_getN (D := D) (ci := 1) (v := .int (nI sp)) (C := RS) (T := FS) (N := 7) hx hb hT inS hown hK hP 0 rfl rfl 1 (by decide) (va_Nw.use rfl (kN74 hE.2.1)) (fun _ h9 => h9) rfl dP_servings_13 ?_
    refine x_topn (b := r) ((hr1 h1).symm) ?_
    exact W.iret (v := nI r) hx hb hr (fun t ht hW => ⟨rfl, ht⟩) (fun q h => absurd h List.not_mem_nil) dP_servings_16
  · refine lv_iconst (v := nI 3) hx hb dP_servings_8 (by decide) ?_
    refine lv_goto (tgt := 16) hx hb dP_servings_9 (by decide) ?_
    refine x_topn (b := r) ((hr2 h1).symm) ?_
    exact W.iret (v := nI r) hx hb hr (fun t ht hW => ⟨rfl, ht⟩) (fun q h => absurd h List.not_mem_nil) dP_servings_16
set_option maxHeartbeats 400000 in
set_option maxRecDepth 100000 in
theorem c_P_orderCount (l : Launch) (D : va_G) (κ : Nat → ClassId) (base : Nat) (H0 : Heap) {q kd sp an ri : Nat} (hP : va_P D vwCl [(q, .inr (1, [.int (nI kd), .int (nI sp), .ref (q + 1), .ref (q + 2), .ref (q + 3), .int (nI an), .int (nI ri)]))] H0) (hk : kd < 4) (hs : sp ≤ 5) : Met l yP_orderCount wP_orderCount ({ frames := 0, cells := 0, slots := 0, locals := 0 }) (Pq D κ base [.ref q] H0) (q_P (some (.int (nI (cntO kd sp))))) 0 0 (fun _ => False) := by
  refine Met.ofW (cc := bP_orderCount) (maxL := 1) (ret := (some FieldType.int)) (by decide) rfl ?_
  intro p e s m args below meth c s₁ B hml hv
  obtain ⟨rfl, hH, hE⟩ := hv
  subst hH
  have hx := B.exec
  have hb := B.bytes
  have hr := B.returns
  have hT : ∀ w ∈ TT, w.before _ s = true := fun w h => atoms_spec (ws := wP_orderCount) B.pre w (List.mem_cons_of_mem _ h)
  have hown : s.vm.findClass "TasterPanels" = some m.cls := findClass_of_methodNamed B.named
  have hlocks := B.notSynchronized
  have hK := hE.1
  have hS : va_S (fun q => base ≤ q) s.heap s.heap [] := va_S.rf
  have hAb : ∀ q : Nat, (fun q : Nat => base ≤ q) q → base ≤ q := fun _ h => h
  have hl := lv_entry ([.ref q]) (n := 1) (Nat.le_of_ble_eq_true rfl)
  rw [lg_entry_eq]
  generalize (lg_sl ([.ref q]) ++ List.replicate (1 - (lg_sl ([.ref q])).length) Slot.unset).toArray = ls at hl ⊢
  have hl : lv_has ls 1 [(0, .ref q)] := hl
  obtain ⟨t0, hZ0, hT0⟩ := hE.2.2 0 _ rfl
  dsimp only at hZ0 hT0
  refine lv_aload_n hx hb dP_orderCount_0 rfl (lv_at hl 0 rfl) ?_
  refine va_getN (D := D) (ci := 1) (v := .int (nI kd)) (C := RS) (T := FS) (N := 7) hx hb hT inS hown hK hP 0 rfl rfl 0 (by decide) (va_Nw.use rfl (kN85 hE.2.1)) (fun _ h9 => h9) rfl dP_orderCount_1 ?_
  rcases (show kd = 0 ∨ kd = 1 ∨ kd = 2 ∨ kd = 3 by omega) with rfl | rfl | rfl | rfl
  · refine lv_tableIn (off := 28) (tgt := 32) hx hb dP_orderCount_4 (by decide) (by decide) (by decide) (by decide) ?_
    refine lv_bipush (v := nI 6) hx hb dP_orderCount_32 (by decide) ?_
    refine x_topn (b := cntO 0 sp) (rfl) ?_
    exact W.iret (v := nI (cntO 0 sp)) hx hb hr (fun t ht hW => ⟨rfl, ht⟩) (fun q h => absurd h List.not_mem_nil) dP_orderCount_34
  · refine lv_tableIn (off := 31) (tgt := 35) hx hb dP_orderCount_4 (by decide) (by decide) (by decide) (by decide) ?_
    refine lv_iconst (v := nI 2) hx hb dP_orderCount_35 (by decide) ?_
    refine x_topn (b := cntO 1 sp) (rfl) ?_
    exact W.iret (v := nI (cntO 1 sp)) hx hb hr (fun t ht hW => ⟨rfl, ht⟩) (fun q h => absurd h List.not_mem_nil) dP_orderCount_36
  · refine lv_tableIn (off := 33) (tgt := 37) hx hb dP_orderCount_4 (by decide) (by decide) (by decide) (by decide) ?_
    refine lv_iconst (v := nI 4) hx hb dP_orderCount_37 (by decide) ?_
    refine x_topn (b := cntO 2 sp) (rfl) ?_
    exact W.iret (v := nI (cntO 2 sp)) hx hb hr (fun t ht hW => ⟨rfl, ht⟩) (fun q h => absurd h List.not_mem_nil) dP_orderCount_38
  · refine lv_tableOut (tgt := 39) hx hb dP_orderCount_4 (by decide) (by decide) ?_
    refine va_gets hx hb hZ0 hS hown (hT _ kP157) (fun _ h9 => h9) dP_orderCount_39 ?_
    refine lv_aload_n hx hb dP_orderCount_42 rfl (lv_at hl 0 rfl) ?_
    refine va_getN (D := D) (ci := 1) (v := .int (nI sp)) (C := RS) (T := FS) (N := 7) hx hb hT inS hown hK hP 0 rfl rfl 1 (by decide) (va_Nw.use rfl (kN74 hE.2.1)) (fun _ h9 => h9) rfl dP_orderCount_43 ?_
    refine x_ti (v := .int (nI (tFACT.getD sp 0))) hx hb hT0 hS (j := sp) (show sp < 6 by omega) (by decide) rfl dP_orderCount_46 ?_
    refine x_topn (b := cntO 3 sp) (rfl) ?_
    exact W.iret (v := nI (cntO 3 sp)) hx hb hr (fun t ht hW => ⟨rfl, ht⟩) (fun q h => absurd h List.not_mem_nil) dP_orderCount_47
set_option maxHeartbeats 400000 in
set_option maxRecDepth 100000 in
theorem c_P_rankOf (l : Launch) (D : va_G) (κ : Nat → ClassId) (base : Nat) (H0 : Heap) {q kd sp an ri : Nat} {rk : Nat → Int32} (hP : va_P D vwCl [(q, .inr (1, [.int (nI kd), .int (nI sp), .ref (q + 1), .ref (q + 2), .ref (q + 3), .int (nI an), .int (nI ri)])), ((q + 3), .inl (κ 0, 130, .inl rk))] H0) (i j : Nat) (hi : i < 26) (hj : j < 5) : Met l yP_rankOf wP_rankOf ({ frames := 0, cells := 0, slots := 0, locals := 0 }) (Pq D κ base [.ref q, .int (nI i), .int (nI j)] H0) (q_P (some (.int (rk (i * 5 + j))))) 0 0 (fun _ => False) := by
  refine Met.ofW (cc := bP_rankOf) (maxL := 3) (ret := (some FieldType.int)) (by decide) rfl ?_
  intro p e s m args below meth c s₁ B hml hv
  obtain ⟨rfl, hH, hE⟩ := hv
  subst hH
  have hx := B.exec
  have hb := B.bytes
  have hr := B.returns
  have hT : ∀ w ∈ TT, w.before _ s = true := fun w h => atoms_spec (ws := wP_rankOf) B.pre w (List.mem_cons_of_mem _ h)
  have hown : s.vm.findClass "TasterPanels" = some m.cls := findClass_of_methodNamed B.named
  have hlocks := B.notSynchronized
  have hK := hE.1
  have hS : va_S (fun q => base ≤ q) s.heap s.heap [] := va_S.rf
  have hAb : ∀ q : Nat, (fun q : Nat => base ≤ q) q → base ≤ q := fun _ h => h
  have hl := lv_entry ([.ref q, .int (nI i), .int (nI j)]) (n := 3) (Nat.le_of_ble_eq_true rfl)
  rw [lg_entry_eq]
  generalize (lg_sl ([.ref q, .int (nI i), .int (nI j)]) ++ List.replicate (3 - (lg_sl ([.ref q, .int (nI i), .int (nI j)])).length) Slot.unset).toArray = ls at hl ⊢
  have hl : lv_has ls 3 [(0, .ref q), (1, .int (nI i)), (2, .int (nI j))] := hl
  refine lv_aload_n hx hb dP_rankOf_0 rfl (lv_at hl 0 rfl) ?_
  refine va_getN (D := D) (ci := 1) (v := .ref (q + 3)) (C := RS) (T := FS) (N := 7) hx hb hT inS hown hK hP 0 rfl rfl 4 (by decide) (va_Nw.use rfl (kN124 hE.2.1)) (fun _ h9 => h9) rfl dP_rankOf_1 ?_
  refine lv_iload_n hx hb dP_rankOf_4 rfl (lv_at hl 1 rfl) ?_
  refine lv_iconst (v := nI 5) hx hb dP_rankOf_5 (by decide) ?_
  refine x_imul (v := nI (i * 5)) hx hb dP_rankOf_6 (pk_mul _ _) ?_
  refine lv_iload_n hx hb dP_rankOf_7 rfl (lv_at hl 2 rfl) ?_
  refine x_iadd (v := nI ((i * 5) + j)) hx hb dP_rankOf_8 (nI_add _ _) ?_
  refine x_iald hx hb hK hP 1 0 (j := (i * 5) + j) (v := rk ((i * 5) + j)) rfl rfl (by omega) (by decide) (rfl) dP_rankOf_9 ?_
  exact W.iret (v := rk ((i * 5) + j)) hx hb hr (fun t ht hW => ⟨rfl, ht⟩) (fun q h => absurd h List.not_mem_nil) dP_rankOf_10
set_option maxHeartbeats 400000 in
set_option maxRecDepth 100000 in
theorem c_P_hasGiven (l : Launch) (D : va_G) (κ : Nat → ClassId) (base : Nat) (H0 : Heap) {q kd sp an ri : Nat} {rk : Nat → Int32} (hP : va_P D vwCl [(q, .inr (1, [.int (nI kd), .int (nI sp), .ref (q + 1), .ref (q + 2), .ref (q + 3), .int (nI an), .int (nI ri)])), ((q + 3), .inl (κ 0, 130, .inl rk))] H0) (hs : sp ≤ 5) (i : Nat) (x : Int32) (hi : i < 26) (r : Nat) (h1 : (∃ j, j < sp ∧ rk (i * 5 + j) = x) → r = 1) (h0 : (∀ j, j < sp → ¬ rk (i * 5 + j) = x) → r = 0) : Met l yP_hasGiven wP_hasGiven ({ frames := 1, cells := 0, slots := 0, locals := 22 }) (Pq D κ base [.ref q, .int (nI i), .int x] H0) (q_P (some (.int (nI r)))) 0 0 (fun _ => False) := by
  refine Met.ofW (cc := bP_hasGiven) (maxL := 4) (ret := (some FieldType.boolean)) (by decide) rfl ?_
  intro p e s m args below meth c s₁ B hml hv
  obtain ⟨rfl, hH, hE⟩ := hv
  subst hH
  have hx := B.exec
  have hb := B.bytes
  have hr := B.returns
  have hT : ∀ w ∈ TT, w.before _ s = true := fun w h => atoms_spec (ws := wP_hasGiven) B.pre w (List.mem_cons_of_mem _ h)
  have hown : s.vm.findClass "TasterPanels" = some m.cls := findClass_of_methodNamed B.named
  have hlocks := B.notSynchronized
  have hK := hE.1
  have hS : va_S (fun q => base ≤ q) s.heap s.heap [] := va_S.rf
  have hAb : ∀ q : Nat, (fun q : Nat => base ≤ q) q → base ≤ q := fun _ h => h
  have hl := lv_entry ([.ref q, .int (nI i), .int x]) (n := 4) (Nat.le_of_ble_eq_true rfl)
  rw [lg_entry_eq]
  generalize (lg_sl ([.ref q, .int (nI i), .int x]) ++ List.replicate (4 - (lg_sl ([.ref q, .int (nI i), .int x])).length) Slot.unset).toArray = ls at hl ⊢
  have hl : lv_has ls 4 [(0, .ref q), (1, .int (nI i)), (2, .int x)] := hl
  have loop : ∀ (fu : Nat) (j : Nat), (j ≤ sp) → (∀ k, k < j → ¬ rk (i * 5 + k) = x) → sp - j < fu → ∀ ls : Array Slot, lv_has ls 4 [(0, .ref q), (1, .int (nI i)), (2, .int x), (3, .int (nI j))] → W p l e (headSpec wP_hasGiven ({ frames := 1, cells := 0, slots := 0, locals := 22 })).room s m ([.ref q, .int (nI i), .int x] : List Value).toArray below meth c s.heap [] 0 0 (MQ below (q_P (some (.int (nI r)))) ([.ref q, .int (nI i), .int x] : List Value).toArray s 0 0 (fun _ => False)) (F0 m 2 ls []) := by
    intro fu
    induction fu with
    | zero =>
      intro j hj hj2 hmu
      exact absurd hmu (Nat.not_lt_zero _)
    | succ fu ih =>
      intro j hj hj2 hmu ls hl
      refine lv_iload_n hx hb dP_hasGiven_2 rfl (lv_at hl 3 rfl) ?_
      refine lv_aload_n hx hb dP_hasGiven_3 rfl (lv_at hl 0 rfl) ?_
      refine va_getN (D := D) (ci := 1) (v := .int (nI sp)) (C := RS) (T := FS) (N := 7) hx hb hT inS hown hK hP 0 rfl rfl 1 (by decide) (va_Nw.use rfl (kN74 hE.2.1)) (fun _ h9 => h9) rfl dP_hasGiven_4 ?_
      refine x_cge (a := j) (b := sp) (tgt := 28) hx hb dP_hasGiven_7 (by decide) (by omega) (by omega) (fun g1 => ?_) (fun g1 => ?_)
      · refine lv_iconst (v := nI 0) hx hb dP_hasGiven_28 (by decide) ?_
        exact W.zret (v := nI 0) hx hb hr (by decide) (fun t ht hW => ⟨congrArg (fun z => Outcome.returned (some (Value.int (nI z)))) ((h0 (fun k hk => hj2 k (by omega))).symm), ht⟩) (fun q h => absurd h List.not_mem_nil) dP_hasGiven_29
      · refine lv_aload_n hx hb dP_hasGiven_10 rfl (lv_at hl 0 rfl) ?_
        refine lv_iload_n hx hb dP_hasGiven_11 rfl (lv_at hl 1 rfl) ?_
        refine lv_iload_n hx hb dP_hasGiven_12 rfl (lv_at hl 3 rfl) ?_
        refine x_callP (v := .int (rk (i * 5 + j))) (va_runS (As := [.ref q, .int (nI i), .int (nI j)]) (rest := []) ⟨hx, hb, hml, hown, hT⟩ (c_P_rankOf l D κ base s.heap hP i j hi (by omega)) (va_cwS 3 hT (TT_S kP117 ktP_rankOf knP kcP_rankOf) rfl rfl rfl (by decide +kernel) ⟨Nat.le_of_ble_eq_true rfl, Nat.le_of_ble_eq_true rfl⟩) (pcS hE hS hAb) rfl rfl hl.1 rfl (lv_room (Nat.le_of_ble_eq_true rfl)) dP_hasGiven_13 ⟨Nat.le_of_ble_eq_true rfl, Nat.le_of_ble_eq_true rfl⟩) ?_
        refine lv_iload_n hx hb dP_hasGiven_16 rfl (lv_at hl 2 rfl) ?_
        refine lv_icmp_ne (tgt := 22) hx hb dP_hasGiven_17 (by decide) (fun g2 => ?_) (fun g2 => ?_)
        · refine lv_iinc (v := nI (j + 1)) (lv' := [(3, .int (nI (j + 1))), (0, .ref q), (1, .int (nI i)), (2, .int x)]) hx hb dP_hasGiven_22 hl (k := 3) rfl (nI_add _ _) (by decide) rfl (fun ls hl => ?_)
          refine lv_goto (tgt := 2) hx hb dP_hasGiven_25 (by decide) ?_
          exact ih (j + 1) (by omega) (lt_s hj2 g2) (by omega) ls (lv_sub hl [1, 2, 3, 0] rfl)
        · refine lv_iconst (v := nI 1) hx hb dP_hasGiven_20 (by decide) ?_
          exact W.zret (v := nI 1) hx hb hr (by decide) (fun t ht hW => ⟨congrArg (fun z => Outcome.returned (some (Value.int (nI z)))) ((h1 ⟨j, g1, g2⟩).symm), ht⟩) (fun q h => absurd h List.not_mem_nil) dP_hasGiven_21
  refine lv_iconst (v := nI 0) hx hb dP_hasGiven_0 (by decide) ?_
  refine lv_istore_n (lv' := [(3, .int (nI 0)), (0, .ref q), (1, .int (nI i)), (2, .int x)]) hx hb dP_hasGiven_1 rfl hl (by decide) rfl (fun ls hl => ?_)
  exact loop (sp + 1) 0 (Nat.zero_le _) lt_0 (by omega) ls (lv_sub hl [1, 2, 3, 0] rfl)
set_option maxHeartbeats 400000 in
set_option maxRecDepth 100000 in
theorem c_P_hasRankedAll (l : Launch) (D : va_G) (κ : Nat → ClassId) (base : Nat) (H0 : Heap) {q kd sp an ri : Nat} {rk : Nat → Int32} (hP : va_P D vwCl [(q, .inr (1, [.int (nI kd), .int (nI sp), .ref (q + 1), .ref (q + 2), .ref (q + 3), .int (nI an), .int (nI ri)])), ((q + 3), .inl (κ 0, 130, .inl rk))] H0) (hs : sp ≤ 5) (i : Nat) (hi : i < 26) (r : Nat) (h1 : (∀ j, j < sp → ¬ rk (i * 5 + j) = 0) → r = 1) (h0 : (∃ j, j < sp ∧ rk (i * 5 + j) = 0) → r = 0) : Met l yP_hasRankedAll wP_hasRankedAll ({ frames := 1, cells := 0, slots := 0, locals := 22 }) (Pq D κ base [.ref q, .int (nI i)] H0) (q_P (some (.int (nI r)))) 0 0 (fun _ => False) := by
  refine Met.ofW (cc := bP_hasRankedAll) (maxL := 3) (ret := (some FieldType.boolean)) (by decide) rfl ?_
  intro p e s m args below meth c s₁ B hml hv
  obtain ⟨rfl, hH, hE⟩ := hv
  subst hH
  have hx := B.exec
  have hb := B.bytes
  have hr := B.returns
  have hT : ∀ w ∈ TT, w.before _ s = true := fun w h => atoms_spec (ws := wP_hasRankedAll) B.pre w (List.mem_cons_of_mem _ h)
  have hown : s.vm.findClass "TasterPanels" = some m.cls := findClass_of_methodNamed B.named
  have hlocks := B.notSynchronized
  have hK := hE.1
  have hS : va_S (fun q => base ≤ q) s.heap s.heap [] := va_S.rf
  have hAb : ∀ q : Nat, (fun q : Nat => base ≤ q) q → base ≤ q := fun _ h => h
  have hl := lv_entry ([.ref q, .int (nI i)]) (n := 3) (Nat.le_of_ble_eq_true rfl)
  rw [lg_entry_eq]
  generalize (lg_sl ([.ref q, .int (nI i)]) ++ List.replicate (3 - (lg_sl ([.ref q, .int (nI i)])).length) Slot.unset).toArray = ls at hl ⊢
  have hl : lv_has ls 3 [(0, .ref q), (1, .int (nI i))] := hl
  have loop : ∀ (fu : Nat) (j : Nat), (j ≤ sp) → (∀ k, k < j → ¬ rk (i * 5 + k) = 0) → sp - j < fu → ∀ ls : Array Slot, lv_has ls 3 [(0, .ref q), (1, .int (nI i)), (2, .int (nI j))] → W p l e (headSpec wP_hasRankedAll ({ frames := 1, cells := 0, slots := 0, locals := 22 })).room s m ([.ref q, .int (nI i)] : List Value).toArray below meth c s.heap [] 0 0 (MQ below (q_P (some (.int (nI r)))) ([.ref q, .int (nI i)] : List Value).toArray s 0 0 (fun _ => False)) (F0 m 2 ls []) := by
    intro fu
    induction fu with
    | zero =>
      intro j hj hj2 hmu
      exact absurd hmu (Nat.not_lt_zero _)
    | succ fu ih =>
      intro j hj hj2 hmu ls hl
      refine lv_iload_n hx hb dP_hasRankedAll_2 rfl (lv_at hl 2 rfl) ?_
      refine lv_aload_n hx hb dP_hasRankedAll_3 rfl (lv_at hl 0 rfl) ?_
      refine va_getN (D := D) (ci := 1) (v := .int (nI sp)) (C := RS) (T := FS) (N := 7) hx hb hT inS hown hK hP 0 rfl rfl 1 (by decide) (va_Nw.use rfl (kN74 hE.2.1)) (fun _ h9 => h9) rfl dP_hasRankedAll_4 ?_
      refine x_cge (a := j) (b := sp) (tgt := 27) hx hb dP_hasRankedAll_7 (by decide) (by omega) (by omega) (fun g1 => ?_) (fun g1 => ?_)
      · refine lv_iconst (v := nI 1) hx hb dP_hasRankedAll_27 (by decide) ?_
        exact W.zret (v := nI 1) hx hb hr (by decide) (fun t ht hW => ⟨congrArg (fun z => Outcome.returned (some (Value.int (nI z)))) ((h1 (fun k hk => hj2 k (by omega))).symm), ht⟩) (fun q h => absurd h List.not_mem_nil) dP_hasRankedAll_28
      · refine lv_aload_n hx hb dP_hasRankedAll_10 rfl (lv_at hl 0 rfl) ?_
        refine lv_iload_n hx hb dP_hasRankedAll_11 rfl (lv_at hl 1 rfl) ?_
        refine lv_iload_n hx hb dP_hasRankedAll_12 rfl (lv_at hl 2 rfl) ?_
        refine x_callP (v := .int (rk (i * 5 + j))) (va_runS (As := [.ref q, .int (nI i), .int (nI j)]) (rest := []) ⟨hx, hb, hml, hown, hT⟩ (c_P_rankOf l D κ base s.heap hP i j hi (by omega)) (va_cwS 3 hT (TT_S kP117 ktP_rankOf knP kcP_rankOf) rfl rfl rfl (by decide +kernel) ⟨Nat.le_of_ble_eq_true rfl, Nat.le_of_ble_eq_true rfl⟩) (pcS hE hS hAb) rfl rfl hl.1 rfl (lv_room (Nat.le_of_ble_eq_true rfl)) dP_hasRankedAll_13 ⟨Nat.le_of_ble_eq_true rfl, Nat.le_of_ble_eq_true rfl⟩) ?_
        refine lv_if_ne (tgt := 21) hx hb dP_hasRankedAll_16 (by decide) (fun g2 => ?_) (fun g2 => ?_)
        · refine lv_iinc (v := nI (j + 1)) (lv' := [(2, .int (nI (j + 1))), (0, .ref q), (1, .int (nI i))]) hx hb dP_hasRankedAll_21 hl (k := 2) rfl (nI_add _ _) (by decide) rfl (fun ls hl => ?_)
          refine lv_goto (tgt := 2) hx hb dP_hasRankedAll_24 (by decide) ?_
          exact ih (j + 1) (by omega) (lt_s hj2 g2) (by omega) ls (lv_sub hl [1, 2, 0] rfl)
        · refine lv_iconst (v := nI 0) hx hb dP_hasRankedAll_19 (by decide) ?_
          exact W.zret (v := nI 0) hx hb hr (by decide) (fun t ht hW => ⟨congrArg (fun z => Outcome.returned (some (Value.int (nI z)))) ((h0 ⟨j, g1, g2⟩).symm), ht⟩) (fun q h => absurd h List.not_mem_nil) dP_hasRankedAll_20
  refine lv_iconst (v := nI 0) hx hb dP_hasRankedAll_0 (by decide) ?_
  refine lv_istore_n (lv' := [(2, .int (nI 0)), (0, .ref q), (1, .int (nI i))]) hx hb dP_hasRankedAll_1 rfl hl (by decide) rfl (fun ls hl => ?_)
  exact loop (sp + 1) 0 (Nat.zero_le _) lt_0 (by omega) ls (lv_sub hl [1, 2, 0] rfl)
set_option maxHeartbeats 400000 in
set_option maxRecDepth 100000 in
theorem c_P_rightPlace (l : Launch) (D : va_G) (κ : Nat → ClassId) (base : Nat) (H0 : Heap) (kd o : Nat) (hk : kd < 3) (ho : o < cntO kd 0) : Met l yP_rightPlace wP_rightPlace ({ frames := 0, cells := 0, slots := 0, locals := 0 }) (Pq D κ base [.int (nI kd), .int (nI o)] H0) (q_P (some (.int (nI (rgtN kd o))))) 0 0 (fun _ => False) := by
  refine Met.ofW (cc := bP_rightPlace) (maxL := 2) (ret := (some FieldType.int)) (by decide) rfl ?_
  intro p e s m args below meth c s₁ B hml hv
  obtain ⟨rfl, hH, hE⟩ := hv
  subst hH
  have hx := B.exec
  have hb := B.bytes
  have hr := B.returns
  have hT : ∀ w ∈ TT, w.before _ s = true := fun w h => atoms_spec (ws := wP_rightPlace) B.pre w (List.mem_cons_of_mem _ h)
  have hown : s.vm.findClass "TasterPanels" = some m.cls := findClass_of_methodNamed B.named
  have hlocks := B.notSynchronized
  have hK := hE.1
  have hS : va_S (fun q => base ≤ q) s.heap s.heap [] := va_S.rf
  have hAb : ∀ q : Nat, (fun q : Nat => base ≤ q) q → base ≤ q := fun _ h => h
  have hl := lv_entry ([.int (nI kd), .int (nI o)]) (n := 2) (Nat.le_of_ble_eq_true rfl)
  rw [lg_entry_eq]
  generalize (lg_sl ([.int (nI kd), .int (nI o)]) ++ List.replicate (2 - (lg_sl ([.int (nI kd), .int (nI o)])).length) Slot.unset).toArray = ls at hl ⊢
  have hl : lv_has ls 2 [(0, .int (nI kd)), (1, .int (nI o))] := hl
  obtain ⟨t4, hZ4, hT4⟩ := hE.2.2 4 _ rfl
  dsimp only at hZ4 hT4
  obtain ⟨t5, hZ5, hT5⟩ := hE.2.2 5 _ rfl
  dsimp only at hZ5 hT5
  obtain ⟨t6, hZ6, hT6⟩ := hE.2.2 6 _ rfl
  dsimp only at hZ6 hT6
  refine lv_iload_n hx hb dP_rightPlace_0 rfl (lv_at hl 0 rfl) ?_
  rcases (show kd = 0 ∨ kd = 1 ∨ kd = 2 by omega) with rfl | rfl | rfl
  · have ho : o < 6 := ho
    refine lv_lookup (off := 27) (tgt := 28) hx hb dP_rightPlace_1 (by decide) (by decide) (by decide) ?_
    refine va_gets hx hb hZ4 hS hown (hT _ kP191) (fun _ h9 => h9) dP_rightPlace_28 ?_
    refine lv_iload_n hx hb dP_rightPlace_31 rfl (lv_at hl 1 rfl) ?_
    refine x_ti (v := .int (nI (tTR.getD o 0))) hx hb hT4 hS (j := o) (show o < 6 by omega) (by decide) rfl dP_rightPlace_32 ?_
    refine x_topn (b := rgtN 0 o) (rfl) ?_
    exact W.iret (v := nI (rgtN 0 o)) hx hb hr (fun t ht hW => ⟨rfl, ht⟩) (fun q h => absurd h List.not_mem_nil) dP_rightPlace_33
  · have ho : o < 2 := ho
    refine lv_lookup (off := 33) (tgt := 34) hx hb dP_rightPlace_1 (by decide) (by decide) (by decide) ?_
    refine va_gets hx hb hZ5 hS hown (hT _ kP194) (fun _ h9 => h9) dP_rightPlace_34 ?_
    refine lv_iload_n hx hb dP_rightPlace_37 rfl (lv_at hl 1 rfl) ?_
    refine x_ti (v := .int (nI (tPR.getD o 0))) hx hb hT5 hS (j := o) (show o < 2 by omega) (by decide) rfl dP_rightPlace_38 ?_
    refine x_topn (b := rgtN 1 o) (rfl) ?_
    exact W.iret (v := nI (rgtN 1 o)) hx hb hr (fun t ht hW => ⟨rfl, ht⟩) (fun q h => absurd h List.not_mem_nil) dP_rightPlace_39
  · have ho : o < 4 := ho
    refine lv_lookup (off := 39) (tgt := 40) hx hb dP_rightPlace_1 (by decide) (by decide) (by decide) ?_
    refine va_gets hx hb hZ6 hS hown (hT _ kP197) (fun _ h9 => h9) dP_rightPlace_40 ?_
    refine lv_iload_n hx hb dP_rightPlace_43 rfl (lv_at hl 1 rfl) ?_
    refine x_ti (v := .int (nI (tDR.getD o 0))) hx hb hT6 hS (j := o) (show o < 4 by omega) (by decide) rfl dP_rightPlace_44 ?_
    refine x_topn (b := rgtN 2 o) (rfl) ?_
    exact W.iret (v := nI (rgtN 2 o)) hx hb hr (fun t ht hW => ⟨rfl, ht⟩) (fun q h => absurd h List.not_mem_nil) dP_rightPlace_45
set_option maxHeartbeats 400000 in
set_option maxRecDepth 100000 in
theorem c_P_served (l : Launch) (D : va_G) (κ : Nat → ClassId) (base : Nat) (H0 : Heap) {q kd sp an ri : Nat} (hP : va_P D vwCl [(q, .inr (1, [.int (nI kd), .int (nI sp), .ref (q + 1), .ref (q + 2), .ref (q + 3), .int (nI an), .int (nI ri)]))] H0) (hk : kd < 4) (hs : sp ≤ 5) (o k : Nat) (ho : o < 2 ^ 31) (h0 : kd = 0 → o < 6 ∧ k < 3) (h1 : kd = 1 → o < 2 ∧ k < 2) (h2 : kd = 2 → o < 4 ∧ k < 3) (h3 : kd = 3 → k < sp) : Met l yP_served wP_served ({ frames := 2, cells := 0, slots := 0, locals := 50 }) (Pq D κ base [.ref q, .int (nI o), .int (nI k)] H0) (q_P (some (.int (srvI kd sp o k)))) 0 0 (fun _ => False) := by
  refine Met.ofW (cc := bP_served) (maxL := 3) (ret := (some FieldType.int)) (by decide) rfl ?_
  intro p e s m args below meth c s₁ B hml hv
  obtain ⟨rfl, hH, hE⟩ := hv
  subst hH
  have hx := B.exec
  have hb := B.bytes
  have hr := B.returns
  have hT : ∀ w ∈ TT, w.before _ s = true := fun w h => atoms_spec (ws := wP_served) B.pre w (List.mem_cons_of_mem _ h)
  have hown : s.vm.findClass "TasterPanels" = some m.cls := findClass_of_methodNamed B.named
  have hlocks := B.notSynchronized
  have hK := hE.1
  have hS : va_S (fun q => base ≤ q) s.heap s.heap [] := va_S.rf
  have hAb : ∀ q : Nat, (fun q : Nat => base ≤ q) q → base ≤ q := fun _ h => h
  have hl := lv_entry ([.ref q, .int (nI o), .int (nI k)]) (n := 3) (Nat.le_of_ble_eq_true rfl)
  rw [lg_entry_eq]
  generalize (lg_sl ([.ref q, .int (nI o), .int (nI k)]) ++ List.replicate (3 - (lg_sl ([.ref q, .int (nI o), .int (nI k)])).length) Slot.unset).toArray = ls at hl ⊢
  have hl : lv_has ls 3 [(0, .ref q), (1, .int (nI o)), (2, .int (nI k))] := hl
  obtain ⟨t1, hZ1, hT1⟩ := hE.2.2 1 _ rfl
  dsimp only at hZ1 hT1
  obtain ⟨t2, hZ2, hT2⟩ := hE.2.2 2 _ rfl
  dsimp only at hZ2 hT2
  obtain ⟨t3, hZ3, hT3⟩ := hE.2.2 3 _ rfl
  dsimp only at hZ3 hT3
  refine lv_aload_n hx hb dP_served_0 rfl (lv_at hl 0 rfl) ?_
  refine va_getN (D := D) (ci := 1) (v := .int (nI kd)) (C := RS) (T := FS) (N := 7) hx hb hT inS hown hK hP 0 rfl rfl 0 (by decide) (va_Nw.use rfl (kN85 hE.2.1)) (fun _ h9 => h9) rfl dP_served_1 ?_
  rcases (show kd = 0 ∨ kd = 1 ∨ kd = 2 ∨ kd = 3 by omega) with rfl | rfl | rfl | rfl
  · have hh := h0 rfl
    refine lv_tableIn (off := 28) (tgt := 32) hx hb dP_served_4 (by decide) (by decide) (by decide) (by decide) ?_
    refine va_gets hx hb hZ1 hS hown (hT _ kP175) (fun _ h9 => h9) dP_served_32 ?_
    refine lv_iload_n hx hb dP_served_35 rfl (lv_at hl 1 rfl) ?_
    refine lv_iconst (v := nI 3) hx hb dP_served_36 (by decide) ?_
    refine x_imul (v := nI (o * 3)) hx hb dP_served_37 (pk_mul _ _) ?_
    refine lv_iload_n hx hb dP_served_38 rfl (lv_at hl 2 rfl) ?_
    refine x_iadd (v := nI ((o * 3) + k)) hx hb dP_served_39 (nI_add _ _) ?_
    refine x_ti (v := .int (nI (tTS.getD ((o * 3) + k) 0))) hx hb hT1 hS (j := (o * 3) + k) (show (o * 3) + k < 18 by omega) (by decide) rfl dP_served_40 ?_
    refine x_topi (y := srvI 0 sp o k) (rfl) ?_
    exact W.iret (v := srvI 0 sp o k) hx hb hr (fun t ht hW => ⟨rfl, ht⟩) (fun q h => absurd h List.not_mem_nil) dP_served_41
  · have hh := h1 rfl
    refine lv_tableIn (off := 38) (tgt := 42) hx hb dP_served_4 (by decide) (by decide) (by decide) (by decide) ?_
    refine va_gets hx hb hZ2 hS hown (hT _ kP178) (fun _ h9 => h9) dP_served_42 ?_
    refine lv_iload_n hx hb dP_served_45 rfl (lv_at hl 1 rfl) ?_
    refine lv_iconst (v := nI 2) hx hb dP_served_46 (by decide) ?_
    refine x_imul (v := nI (o * 2)) hx hb dP_served_47 (pk_mul _ _) ?_
    refine lv_iload_n hx hb dP_served_48 rfl (lv_at hl 2 rfl) ?_
    refine x_iadd (v := nI ((o * 2) + k)) hx hb dP_served_49 (nI_add _ _) ?_
    refine x_ti (v := .int (nI (tPS.getD ((o * 2) + k) 0))) hx hb hT2 hS (j := (o * 2) + k) (show (o * 2) + k < 4 by omega) (by decide) rfl dP_served_50 ?_
    refine x_topi (y := srvI 1 sp o k) (rfl) ?_
    exact W.iret (v := srvI 1 sp o k) hx hb hr (fun t ht hW => ⟨rfl, ht⟩) (fun q h => absurd h List.not_mem_nil) dP_served_51
  · have hh := h2 rfl
    refine lv_tableIn (off := 48) (tgt := 52) hx hb dP_served_4 (by decide) (by decide) (by decide) (by decide) ?_
    refine va_gets hx hb hZ3 hS hown (hT _ kP181) (fun _ h9 => h9) dP_served_52 ?_
    refine lv_iload_n hx hb dP_served_55 rfl (lv_at hl 1 rfl) ?_
    refine lv_iconst (v := nI 3) hx hb dP_served_56 (by decide) ?_
    refine x_imul (v := nI (o * 3)) hx hb dP_served_57 (pk_mul _ _) ?_
    refine lv_iload_n hx hb dP_served_58 rfl (lv_at hl 2 rfl) ?_
    refine x_iadd (v := nI ((o * 3) + k)) hx hb dP_served_59 (nI_add _ _) ?_
    refine x_ti (v := .int (nI (tDS.getD ((o * 3) + k) 0))) hx hb hT3 hS (j := (o * 3) + k) (show (o * 3) + k < 12 by omega) (by decide) rfl dP_served_60 ?_
    refine x_topi (y := srvI 2 sp o k) (rfl) ?_
    exact W.iret (v := srvI 2 sp o k) hx hb hr (fun t ht hW => ⟨rfl, ht⟩) (fun q h => absurd h List.not_mem_nil) dP_served_61
  · have hh := h3 rfl
    refine lv_tableOut (tgt := 62) hx hb dP_served_4 (by decide) (by decide) ?_
    refine lv_aload_n hx hb dP_served_62 rfl (lv_at hl 0 rfl) ?_
    refine va_getN (D := D) (ci := 1) (v := .int (nI sp)) (C := RS) (T := FS) (N := 7) hx hb hT inS hown hK hP 0 rfl rfl 1 (by decide) (va_Nw.use rfl (kN74 hE.2.1)) (fun _ h9 => h9) rfl dP_served_63 ?_
    refine lv_iload_n hx hb dP_served_66 rfl (lv_at hl 1 rfl) ?_
    refine lv_iload_n hx hb dP_served_67 rfl (lv_at hl 2 rfl) ?_
    refine x_callP (v := .int (siI sp (k + 1) 0 (nI 0) o (-1))) (va_runS (As := [.int (nI sp), .int (nI o), .int (nI k)]) (rest := []) ⟨hx, hb, hml, hown, hT⟩ (c_P_sampleInRow l D κ base s.heap sp o k hs ho hh) (va_cwS 3 hT (TT_S kP184 ktP_sampleInRow knP kcP_sampleInRow) rfl rfl rfl (by decide +kernel) ⟨Nat.le_of_ble_eq_true rfl, Nat.le_of_ble_eq_true rfl⟩) (pcS hE hS hAb) rfl rfl hl.1 rfl (lv_room (Nat.le_of_ble_eq_true rfl)) dP_served_68 ⟨Nat.le_of_ble_eq_true rfl, Nat.le_of_ble_eq_true rfl⟩) ?_
    refine x_topi (y := srvI 3 sp o k) (rfl) ?_
    exact W.iret (v := srvI 3 sp o k) hx hb hr (fun t ht hW => ⟨rfl, ht⟩) (fun q h => absurd h List.not_mem_nil) dP_served_71
set_option maxHeartbeats 400000 in
set_option maxRecDepth 100000 in
theorem c_P_tasterAt (l : Launch) (D : va_G) (κ : Nat → ClassId) (base : Nat) (H0 : Heap) {a nT nS : Nat} {sd : Int64} {fr : Nat → Option Nat} (hP : va_P D vwCl [(a, .inr (2, [.long sd, .ref (a + 1), .ref (a + 2), .int (nI nT), .int (nI nS), .ref (a + 3), .ref (a + 4)])), ((a + 1), .inl (κ 3, 26, .inr (.inr (.inr (.inr fr)))))] H0) (x : Int32) (r : Value) (hr0 : (x < 0 ∨ nI 26 ≤ x) → r = .null) (hr1 : ∀ j, j < 26 → x = nI j → r = va_rf (fr j)) : Met l yP_tasterAt wP_tasterAt ({ frames := 0, cells := 0, slots := 0, locals := 0 }) (Pq D κ base [.ref a, .int x] H0) (q_P (some (r))) 0 0 (fun _ => False) := by
  refine Met.ofW (cc := bP_tasterAt) (maxL := 2) (ret := (some (FieldType.object "TasterPanels$Taster"))) (by decide) rfl ?_
  intro p e s m args below meth c s₁ B hml hv
  obtain ⟨rfl, hH, hE⟩ := hv
  subst hH
  have hx := B.exec
  have hb := B.bytes
  have hr := B.returns
  have hT : ∀ w ∈ TT, w.before _ s = true := fun w h => atoms_spec (ws := wP_tasterAt) B.pre w (List.mem_cons_of_mem _ h)
  have hown : s.vm.findClass "TasterPanels" = some m.cls := findClass_of_methodNamed B.named
  have hlocks := B.notSynchronized
  have hK := hE.1
  have hS : va_S (fun q => base ≤ q) s.heap s.heap [] := va_S.rf
  have hAb : ∀ q : Nat, (fun q : Nat => base ≤ q) q → base ≤ q := fun _ h => h
  have hl := lv_entry ([.ref a, .int x]) (n := 2) (Nat.le_of_ble_eq_true rfl)
  rw [lg_entry_eq]
  generalize (lg_sl ([.ref a, .int x]) ++ List.replicate (2 - (lg_sl ([.ref a, .int x])).length) Slot.unset).toArray = ls at hl ⊢
  have hl : lv_has ls 2 [(0, .ref a), (1, .int x)] := hl
  rcases pk_ix x (show 26 < 2 ^ 31 by decide) with e1 | e1 | ⟨j, hj, rfl⟩
  · refine lv_iload_n hx hb dP_tasterAt_0 rfl (lv_at hl 1 rfl) ?_
    refine lv_if_lt (tgt := 10) hx hb dP_tasterAt_1 (by decide) (fun h1 => ?_) (fun h1 => absurd e1 h1)
    refine lv_null hx hb dP_tasterAt_10 ?_
    refine lv_goto (tgt := 20) hx hb dP_tasterAt_11 (by decide) ?_
    exact W.aret (v := .null) hx hb hr (Or.inl ⟨_, rfl⟩) (Or.inl rfl) (fun t ht hW => ⟨by rw [hr0 (Or.inl e1)], ht⟩) (fun q h => absurd h List.not_mem_nil) dP_tasterAt_20
  · refine lv_iload_n hx hb dP_tasterAt_0 rfl (lv_at hl 1 rfl) ?_
    refine lv_if_lt (tgt := 10) hx hb dP_tasterAt_1 (by decide) (fun h2 => absurd h2 (fun q => absurd (Int32.lt_of_le_of_lt e1 q) (by decide))) (fun h2 => ?_)
    refine lv_iload_n hx hb dP_tasterAt_4 rfl (lv_at hl 1 rfl) ?_
    refine lv_bipush (v := nI 26) hx hb dP_tasterAt_5 (by decide) ?_
    refine lv_icmp_lt (tgt := 14) hx hb dP_tasterAt_7 (by decide) (fun h3 => absurd (Int32.lt_of_le_of_lt e1 h3) (fun q => Int32.lt_irrefl q)) (fun h3 => ?_)
    refine lv_null hx hb dP_tasterAt_10 ?_
    refine lv_goto (tgt := 20) hx hb dP_tasterAt_11 (by decide) ?_
    exact W.aret (v := .null) hx hb hr (Or.inl ⟨_, rfl⟩) (Or.inl rfl) (fun t ht hW => ⟨by rw [hr0 (Or.inr e1)], ht⟩) (fun q h => absurd h List.not_mem_nil) dP_tasterAt_20
  · refine lv_iload_n hx hb dP_tasterAt_0 rfl (lv_at hl 1 rfl) ?_
    refine x_zlt (a := j) (tgt := 10) hx hb dP_tasterAt_1 (by decide) (by omega) ?_
    refine lv_iload_n hx hb dP_tasterAt_4 rfl (lv_at hl 1 rfl) ?_
    refine lv_bipush (v := nI 26) hx hb dP_tasterAt_5 (by decide) ?_
    refine x_clt (a := j) (b := 26) (tgt := 14) hx hb dP_tasterAt_7 (by decide) (by omega) (by omega) (fun h5 => ?_) (fun h5 => absurd h5 (by omega))
    refine lv_aload_n hx hb dP_tasterAt_14 rfl (lv_at hl 0 rfl) ?_
    refine va_get (D := D) (ci := 2) (v := .ref (a + 1)) (C := RP) (T := FP) (N := 7) hx hb hT inP hown hK hP 0 rfl rfl 1 (by decide) (hT _ kP11) (fun _ h9 => h9) rfl dP_tasterAt_15 ?_
    refine lv_iload_n hx hb dP_tasterAt_18 rfl (lv_at hl 1 rfl) ?_
    refine x_aald hx hb hK hP 1 3 (j := j) (v := va_rf (fr j)) rfl rfl (by omega) (by decide) (rfl) dP_tasterAt_19 ?_
    exact W.aret (v := va_rf (fr j)) hx hb hr (Or.inl ⟨_, rfl⟩) (va_rf_or _) (fun t ht hW => ⟨by rw [hr1 j hj rfl], ht⟩) (fun q h => absurd h List.not_mem_nil) dP_tasterAt_20
set_option maxHeartbeats 400000 in
set_option maxRecDepth 100000 in
theorem c_P_testAt (l : Launch) (D : va_G) (κ : Nat → ClassId) (base : Nat) (H0 : Heap) {a nT nS : Nat} {sd : Int64} {fr : Nat → Option Nat} (hP : va_P D vwCl [(a, .inr (2, [.long sd, .ref (a + 1), .ref (a + 2), .int (nI nT), .int (nI nS), .ref (a + 3), .ref (a + 4)])), ((a + 2), .inl (κ 4, 40, .inr (.inr (.inr (.inr fr)))))] H0) (x : Int32) (r : Value) (hr0 : (x < 0 ∨ nI 40 ≤ x) → r = .null) (hr1 : ∀ j, j < 40 → x = nI j → r = va_rf (fr j)) : Met l yP_testAt wP_testAt ({ frames := 0, cells := 0, slots := 0, locals := 0 }) (Pq D κ base [.ref a, .int x] H0) (q_P (some (r))) 0 0 (fun _ => False) := by
  refine Met.ofW (cc := bP_testAt) (maxL := 2) (ret := (some (FieldType.object "TasterPanels$Test"))) (by decide) rfl ?_
  intro p e s m args below meth c s₁ B hml hv
  obtain ⟨rfl, hH, hE⟩ := hv
  subst hH
  have hx := B.exec
  have hb := B.bytes
  have hr := B.returns
  have hT : ∀ w ∈ TT, w.before _ s = true := fun w h => atoms_spec (ws := wP_testAt) B.pre w (List.mem_cons_of_mem _ h)
  have hown : s.vm.findClass "TasterPanels" = some m.cls := findClass_of_methodNamed B.named
  have hlocks := B.notSynchronized
  have hK := hE.1
  have hS : va_S (fun q => base ≤ q) s.heap s.heap [] := va_S.rf
  have hAb : ∀ q : Nat, (fun q : Nat => base ≤ q) q → base ≤ q := fun _ h => h
  have hl := lv_entry ([.ref a, .int x]) (n := 2) (Nat.le_of_ble_eq_true rfl)
  rw [lg_entry_eq]
  generalize (lg_sl ([.ref a, .int x]) ++ List.replicate (2 - (lg_sl ([.ref a, .int x])).length) Slot.unset).toArray = ls at hl ⊢
  have hl : lv_has ls 2 [(0, .ref a), (1, .int x)] := hl
  rcases pk_ix x (show 40 < 2 ^ 31 by decide) with e1 | e1 | ⟨j, hj, rfl⟩
  · refine lv_iload_n hx hb dP_testAt_0 rfl (lv_at hl 1 rfl) ?_
    refine lv_if_lt (tgt := 10) hx hb dP_testAt_1 (by decide) (fun h1 => ?_) (fun h1 => absurd e1 h1)
    refine lv_null hx hb dP_testAt_10 ?_
    refine lv_goto (tgt := 20) hx hb dP_testAt_11 (by decide) ?_
    exact W.aret (v := .null) hx hb hr (Or.inl ⟨_, rfl⟩) (Or.inl rfl) (fun t ht hW => ⟨by rw [hr0 (Or.inl e1)], ht⟩) (fun q h => absurd h List.not_mem_nil) dP_testAt_20
  · refine lv_iload_n hx hb dP_testAt_0 rfl (lv_at hl 1 rfl) ?_
    refine lv_if_lt (tgt := 10) hx hb dP_testAt_1 (by decide) (fun h2 => absurd h2 (fun q => absurd (Int32.lt_of_le_of_lt e1 q) (by decide))) (fun h2 => ?_)
    refine lv_iload_n hx hb dP_testAt_4 rfl (lv_at hl 1 rfl) ?_
    refine lv_bipush (v := nI 40) hx hb dP_testAt_5 (by decide) ?_
    refine lv_icmp_lt (tgt := 14) hx hb dP_testAt_7 (by decide) (fun h3 => absurd (Int32.lt_of_le_of_lt e1 h3) (fun q => Int32.lt_irrefl q)) (fun h3 => ?_)
    refine lv_null hx hb dP_testAt_10 ?_
    refine lv_goto (tgt := 20) hx hb dP_testAt_11 (by decide) ?_
    exact W.aret (v := .null) hx hb hr (Or.inl ⟨_, rfl⟩) (Or.inl rfl) (fun t ht hW => ⟨by rw [hr0 (Or.inr e1)], ht⟩) (fun q h => absurd h List.not_mem_nil) dP_testAt_20
  · refine lv_iload_n hx hb dP_testAt_0 rfl (lv_at hl 1 rfl) ?_
    refine x_zlt (a := j) (tgt := 10) hx hb dP_testAt_1 (by decide) (by omega) ?_
    refine lv_iload_n hx hb dP_testAt_4 rfl (lv_at hl 1 rfl) ?_
    refine lv_bipush (v := nI 40) hx hb dP_testAt_5 (by decide) ?_
    refine x_clt (a := j) (b := 40) (tgt := 14) hx hb dP_testAt_7 (by decide) (by omega) (by omega) (fun h5 => ?_) (fun h5 => absurd h5 (by omega))
    refine lv_aload_n hx hb dP_testAt_14 rfl (lv_at hl 0 rfl) ?_
    refine va_get (D := D) (ci := 2) (v := .ref (a + 2)) (C := RP) (T := FP) (N := 7) hx hb hT inP hown hK hP 0 rfl rfl 2 (by decide) (hT _ kP17) (fun _ h9 => h9) rfl dP_testAt_15 ?_
    refine lv_iload_n hx hb dP_testAt_18 rfl (lv_at hl 1 rfl) ?_
    refine x_aald hx hb hK hP 1 4 (j := j) (v := va_rf (fr j)) rfl rfl (by omega) (by decide) (rfl) dP_testAt_19 ?_
    exact W.aret (v := va_rf (fr j)) hx hb hr (Or.inl ⟨_, rfl⟩) (va_rf_or _) (fun t ht hW => ⟨by rw [hr1 j hj rfl], ht⟩) (fun q h => absurd h List.not_mem_nil) dP_testAt_20
set_option maxHeartbeats 400000 in
set_option maxRecDepth 100000 in
theorem c_P_differenceAt_none (l : Launch) (D : va_G) (κ : Nat → ClassId) (base : Nat) (H0 : Heap) {a nT nS : Nat} {sd : Int64} {fr : Nat → Option Nat} (hP : va_P D vwCl [(a, .inr (2, [.long sd, .ref (a + 1), .ref (a + 2), .int (nI nT), .int (nI nS), .ref (a + 3), .ref (a + 4)])), ((a + 2), .inl (κ 4, 40, .inr (.inr (.inr (.inr fr)))))] H0) (x : Int32) (hx0 : (x < 0 ∨ nI 40 ≤ x) ∨ ∃ j, j < 40 ∧ x = nI j ∧ fr j = none) : Met l yP_differenceAt wP_differenceAt ({ frames := 1, cells := 0, slots := 0, locals := 21 }) (Pq D κ base [.ref a, .int x] H0) (q_P (some (.null))) 0 0 (fun _ => False) := by
  refine Met.ofW (cc := bP_differenceAt) (maxL := 3) (ret := (some (FieldType.object "TasterPanels$Test"))) (by decide) rfl ?_
  intro p e s m args below meth c s₁ B hml hv
  obtain ⟨rfl, hH, hE⟩ := hv
  subst hH
  have hx := B.exec
  have hb := B.bytes
  have hr := B.returns
  have hT : ∀ w ∈ TT, w.before _ s = true := fun w h => atoms_spec (ws := wP_differenceAt) B.pre w (List.mem_cons_of_mem _ h)
  have hown : s.vm.findClass "TasterPanels" = some m.cls := findClass_of_methodNamed B.named
  have hlocks := B.notSynchronized
  have hK := hE.1
  have hS : va_S (fun q => base ≤ q) s.heap s.heap [] := va_S.rf
  have hAb : ∀ q : Nat, (fun q : Nat => base ≤ q) q → base ≤ q := fun _ h => h
  have hl := lv_entry ([.ref a, .int x]) (n := 3) (Nat.le_of_ble_eq_true rfl)
  rw [lg_entry_eq]
  generalize (lg_sl ([.ref a, .int x]) ++ List.replicate (3 - (lg_sl ([.ref a, .int x])).length) Slot.unset).toArray = ls at hl ⊢
  have hl : lv_has ls 3 [(0, .ref a), (1, .int x)] := hl
  refine lv_aload_n hx hb dP_differenceAt_0 rfl (lv_at hl 0 rfl) ?_
  refine lv_iload_n hx hb dP_differenceAt_1 rfl (lv_at hl 1 rfl) ?_
  refine x_callP (v := .null) (va_runV (As := [.int x]) (rest := []) ⟨hx, hb, hml, hown, hT⟩ (c_P_testAt l D κ base s.heap hP x .null (fun _ => rfl) (none_at (by decide) hx0)) (cwV 1 hT (TT_V kP52 kiP_testAt ksP_testAt knP kcP_testAt) rfl rfl rfl (by decide +kernel) ⟨Nat.le_of_ble_eq_true rfl, Nat.le_of_ble_eq_true rfl⟩) (pcV hE hS hAb (va_recv hK hP (ci := 2) (q0 := 0) rfl rfl)) rfl rfl hl.1 rfl (lv_room (Nat.le_of_ble_eq_true rfl)) dP_differenceAt_2 ⟨Nat.le_of_ble_eq_true rfl, Nat.le_of_ble_eq_true rfl⟩) ?_
  refine lv_astore_nN (lv' := [(2, .null), (0, .ref a), (1, .int x)]) hx hb dP_differenceAt_5 rfl hl (by decide) rfl (fun ls hl => ?_)
  refine lv_aload_nN hx hb dP_differenceAt_6 rfl (lv_at hl 0 rfl) ?_
  refine lv_ifnullN (tgt := 18) hx hb dP_differenceAt_7 (by decide) ?_
  refine lv_null hx hb dP_differenceAt_18 ?_
  refine lv_goto (tgt := 23) hx hb dP_differenceAt_19 (by decide) ?_
  exact W.aret (v := .null) hx hb hr (Or.inl ⟨_, rfl⟩) (Or.inl rfl) (fun t ht hW => ⟨rfl, ht⟩) (fun q h => absurd h List.not_mem_nil) dP_differenceAt_23
set_option maxHeartbeats 400000 in
set_option maxRecDepth 100000 in
theorem c_P_differenceAt_some (l : Launch) (D : va_G) (κ : Nat → ClassId) (base : Nat) (H0 : Heap) {a nT nS q kd sp an ri : Nat} {sd : Int64} {fr : Nat → Option Nat} (hP : va_P D vwCl [(a, .inr (2, [.long sd, .ref (a + 1), .ref (a + 2), .int (nI nT), .int (nI nS), .ref (a + 3), .ref (a + 4)])), ((a + 2), .inl (κ 4, 40, .inr (.inr (.inr (.inr fr))))), (q, .inr (1, [.int (nI kd), .int (nI sp), .ref (q + 1), .ref (q + 2), .ref (q + 3), .int (nI an), .int (nI ri)]))] H0) (j : Nat) (hj : j < 40) (hf : fr j = some q) (hk : kd < 4) (r : Value) (hr0 : kd = 3 → r = .null) (hr1 : kd ≠ 3 → r = .ref q) : Met l yP_differenceAt wP_differenceAt ({ frames := 1, cells := 0, slots := 0, locals := 21 }) (Pq D κ base [.ref a, .int (nI j)] H0) (q_P (some (r))) 0 0 (fun _ => False) := by
  refine Met.ofW (cc := bP_differenceAt) (maxL := 3) (ret := (some (FieldType.object "TasterPanels$Test"))) (by decide) rfl ?_
  intro p e s m args below meth c s₁ B hml hv
  obtain ⟨rfl, hH, hE⟩ := hv
  subst hH
  have hx := B.exec
  have hb := B.bytes
  have hr := B.returns
  have hT : ∀ w ∈ TT, w.before _ s = true := fun w h => atoms_spec (ws := wP_differenceAt) B.pre w (List.mem_cons_of_mem _ h)
  have hown : s.vm.findClass "TasterPanels" = some m.cls := findClass_of_methodNamed B.named
  have hlocks := B.notSynchronized
  have hK := hE.1
  have hS : va_S (fun q => base ≤ q) s.heap s.heap [] := va_S.rf
  have hAb : ∀ q : Nat, (fun q : Nat => base ≤ q) q → base ≤ q := fun _ h => h
  have hl := lv_entry ([.ref a, .int (nI j)]) (n := 3) (Nat.le_of_ble_eq_true rfl)
  rw [lg_entry_eq]
  generalize (lg_sl ([.ref a, .int (nI j)]) ++ List.replicate (3 - (lg_sl ([.ref a, .int (nI j)])).length) Slot.unset).toArray = ls at hl ⊢
  have hl : lv_has ls 3 [(0, .ref a), (1, .int (nI j))] := hl
  refine lv_aload_n hx hb dP_differenceAt_0 rfl (lv_at hl 0 rfl) ?_
  refine lv_iload_n hx hb dP_differenceAt_1 rfl (lv_at hl 1 rfl) ?_
  refine x_callP (v := .ref q) (va_runV (As := [.int (nI j)]) (rest := []) ⟨hx, hb, hml, hown, hT⟩ (c_P_testAt l D κ base s.heap (hP.sub [0, 1] rfl) (nI j) (.ref q) (fun h => at_out (by decide) hj h rfl) (some_at (by decide) hj hf)) (cwV 1 hT (TT_V kP52 kiP_testAt ksP_testAt knP kcP_testAt) rfl rfl rfl (by decide +kernel) ⟨Nat.le_of_ble_eq_true rfl, Nat.le_of_ble_eq_true rfl⟩) (pcV hE hS hAb (va_recv hK hP (ci := 2) (q0 := 0) rfl rfl)) rfl rfl hl.1 rfl (lv_room (Nat.le_of_ble_eq_true rfl)) dP_differenceAt_2 ⟨Nat.le_of_ble_eq_true rfl, Nat.le_of_ble_eq_true rfl⟩) ?_
  refine lv_astore_n (lv' := [(2, .ref q), (0, .ref a), (1, .int (nI j))]) hx hb dP_differenceAt_5 rfl hl (by decide) rfl (fun ls hl => ?_)
  refine lv_aload_n hx hb dP_differenceAt_6 rfl (lv_at hl 0 rfl) ?_
  refine lv_ifnull hx hb dP_differenceAt_7 ?_
  refine lv_aload_n hx hb dP_differenceAt_10 rfl (lv_at hl 0 rfl) ?_
  refine va_getN (D := D) (ci := 1) (v := .int (nI kd)) (C := RS) (T := FS) (N := 7) hx hb hT inS hown hK hP 2 rfl rfl 0 (by decide) (va_Nw.use rfl (kN85 hE.2.1)) (fun _ h9 => h9) rfl dP_differenceAt_11 ?_
  refine lv_iconst (v := nI 3) hx hb dP_differenceAt_14 (by decide) ?_
  refine x_cne (a := kd) (b := 3) (tgt := 22) hx hb dP_differenceAt_15 (by decide) (by omega) (by omega) (fun h1 => ?_) (fun h1 => ?_)
  · refine lv_aload_n hx hb dP_differenceAt_22 rfl (lv_at hl 0 rfl) ?_
    exact W.aret (v := .ref q) hx hb hr (Or.inl ⟨_, rfl⟩) (Or.inr ⟨_, rfl⟩) (fun t ht hW => ⟨by rw [hr1 h1], ht⟩) (fun q h => absurd h List.not_mem_nil) dP_differenceAt_23
  · refine lv_null hx hb dP_differenceAt_18 ?_
    refine lv_goto (tgt := 23) hx hb dP_differenceAt_19 (by decide) ?_
    exact W.aret (v := .null) hx hb hr (Or.inl ⟨_, rfl⟩) (Or.inl rfl) (fun t ht hW => ⟨by rw [hr0 h1], ht⟩) (fun q h => absurd h List.not_mem_nil) dP_differenceAt_23
set_option maxHeartbeats 400000 in
set_option maxRecDepth 100000 in
theorem c_P_rankingAt_none (l : Launch) (D : va_G) (κ : Nat → ClassId) (base : Nat) (H0 : Heap) {a nT nS : Nat} {sd : Int64} {fr : Nat → Option Nat} (hP : va_P D vwCl [(a, .inr (2, [.long sd, .ref (a + 1), .ref (a + 2), .int (nI nT), .int (nI nS), .ref (a + 3), .ref (a + 4)])), ((a + 2), .inl (κ 4, 40, .inr (.inr (.inr (.inr fr)))))] H0) (x : Int32) (hx0 : (x < 0 ∨ nI 40 ≤ x) ∨ ∃ j, j < 40 ∧ x = nI j ∧ fr j = none) : Met l yP_rankingAt wP_rankingAt ({ frames := 1, cells := 0, slots := 0, locals := 21 }) (Pq D κ base [.ref a, .int x] H0) (q_P (some (.null))) 0 0 (fun _ => False) := by
  refine Met.ofW (cc := bP_rankingAt) (maxL := 3) (ret := (some (FieldType.object "TasterPanels$Test"))) (by decide) rfl ?_
  intro p e s m args below meth c s₁ B hml hv
  obtain ⟨rfl, hH, hE⟩ := hv
  subst hH
  have hx := B.exec
  have hb := B.bytes
  have hr := B.returns
  have hT : ∀ w ∈ TT, w.before _ s = true := fun w h => atoms_spec (ws := wP_rankingAt) B.pre w (List.mem_cons_of_mem _ h)
  have hown : s.vm.findClass "TasterPanels" = some m.cls := findClass_of_methodNamed B.named
  have hlocks := B.notSynchronized
  have hK := hE.1
  have hS : va_S (fun q => base ≤ q) s.heap s.heap [] := va_S.rf
  have hAb : ∀ q : Nat, (fun q : Nat => base ≤ q) q → base ≤ q := fun _ h => h
  have hl := lv_entry ([.ref a, .int x]) (n := 3) (Nat.le_of_ble_eq_true rfl)
  rw [lg_entry_eq]
  generalize (lg_sl ([.ref a, .int x]) ++ List.replicate (3 - (lg_sl ([.ref a, .int x])).length) Slot.unset).toArray = ls at hl ⊢
  have hl : lv_has ls 3 [(0, .ref a), (1, .int x)] := hl
  refine lv_aload_n hx hb dP_rankingAt_0 rfl (lv_at hl 0 rfl) ?_
  refine lv_iload_n hx hb dP_rankingAt_1 rfl (lv_at hl 1 rfl) ?_
  refine x_callP (v := .null) (va_runV (As := [.int x]) (rest := []) ⟨hx, hb, hml, hown, hT⟩ (c_P_testAt l D κ base s.heap hP x .null (fun _ => rfl) (none_at (by decide) hx0)) (cwV 1 hT (TT_V kP52 kiP_testAt ksP_testAt knP kcP_testAt) rfl rfl rfl (by decide +kernel) ⟨Nat.le_of_ble_eq_true rfl, Nat.le_of_ble_eq_true rfl⟩) (pcV hE hS hAb (va_recv hK hP (ci := 2) (q0 := 0) rfl rfl)) rfl rfl hl.1 rfl (lv_room (Nat.le_of_ble_eq_true rfl)) dP_rankingAt_2 ⟨Nat.le_of_ble_eq_true rfl, Nat.le_of_ble_eq_true rfl⟩) ?_
  refine lv_astore_nN (lv' := [(2, .null), (0, .ref a), (1, .int x)]) hx hb dP_rankingAt_5 rfl hl (by decide) rfl (fun ls hl => ?_)
  refine lv_aload_nN hx hb dP_rankingAt_6 rfl (lv_at hl 0 rfl) ?_
  refine lv_ifnullN (tgt := 18) hx hb dP_rankingAt_7 (by decide) ?_
  refine lv_null hx hb dP_rankingAt_18 ?_
  refine lv_goto (tgt := 23) hx hb dP_rankingAt_19 (by decide) ?_
  exact W.aret (v := .null) hx hb hr (Or.inl ⟨_, rfl⟩) (Or.inl rfl) (fun t ht hW => ⟨rfl, ht⟩) (fun q h => absurd h List.not_mem_nil) dP_rankingAt_23
set_option maxHeartbeats 400000 in
set_option maxRecDepth 100000 in
theorem c_P_rankingAt_some (l : Launch) (D : va_G) (κ : Nat → ClassId) (base : Nat) (H0 : Heap) {a nT nS q kd sp an ri : Nat} {sd : Int64} {fr : Nat → Option Nat} (hP : va_P D vwCl [(a, .inr (2, [.long sd, .ref (a + 1), .ref (a + 2), .int (nI nT), .int (nI nS), .ref (a + 3), .ref (a + 4)])), ((a + 2), .inl (κ 4, 40, .inr (.inr (.inr (.inr fr))))), (q, .inr (1, [.int (nI kd), .int (nI sp), .ref (q + 1), .ref (q + 2), .ref (q + 3), .int (nI an), .int (nI ri)]))] H0) (j : Nat) (hj : j < 40) (hf : fr j = some q) (hk : kd < 4) (r : Value) (hr0 : kd ≠ 3 → r = .null) (hr1 : kd = 3 → r = .ref q) : Met l yP_rankingAt wP_rankingAt ({ frames := 1, cells := 0, slots := 0, locals := 21 }) (Pq D κ base [.ref a, .int (nI j)] H0) (q_P (some (r))) 0 0 (fun _ => False) := by
  refine Met.ofW (cc := bP_rankingAt) (maxL := 3) (ret := (some (FieldType.object "TasterPanels$Test"))) (by decide) rfl ?_
  intro p e s m args below meth c s₁ B hml hv
  obtain ⟨rfl, hH, hE⟩ := hv
  subst hH
  have hx := B.exec
  have hb := B.bytes
  have hr := B.returns
  have hT : ∀ w ∈ TT, w.before _ s = true := fun w h => atoms_spec (ws := wP_rankingAt) B.pre w (List.mem_cons_of_mem _ h)
  have hown : s.vm.findClass "TasterPanels" = some m.cls := findClass_of_methodNamed B.named
  have hlocks := B.notSynchronized
  have hK := hE.1
  have hS : va_S (fun q => base ≤ q) s.heap s.heap [] := va_S.rf
  have hAb : ∀ q : Nat, (fun q : Nat => base ≤ q) q → base ≤ q := fun _ h => h
  have hl := lv_entry ([.ref a, .int (nI j)]) (n := 3) (Nat.le_of_ble_eq_true rfl)
  rw [lg_entry_eq]
  generalize (lg_sl ([.ref a, .int (nI j)]) ++ List.replicate (3 - (lg_sl ([.ref a, .int (nI j)])).length) Slot.unset).toArray = ls at hl ⊢
  have hl : lv_has ls 3 [(0, .ref a), (1, .int (nI j))] := hl
  refine lv_aload_n hx hb dP_rankingAt_0 rfl (lv_at hl 0 rfl) ?_
  refine lv_iload_n hx hb dP_rankingAt_1 rfl (lv_at hl 1 rfl) ?_
  refine x_callP (v := .ref q) (va_runV (As := [.int (nI j)]) (rest := []) ⟨hx, hb, hml, hown, hT⟩ (c_P_testAt l D κ base s.heap (hP.sub [0, 1] rfl) (nI j) (.ref q) (fun h => at_out (by decide) hj h rfl) (some_at (by decide) hj hf)) (cwV 1 hT (TT_V kP52 kiP_testAt ksP_testAt knP kcP_testAt) rfl rfl rfl (by decide +kernel) ⟨Nat.le_of_ble_eq_true rfl, Nat.le_of_ble_eq_true rfl⟩) (pcV hE hS hAb (va_recv hK hP (ci := 2) (q0 := 0) rfl rfl)) rfl rfl hl.1 rfl (lv_room (Nat.le_of_ble_eq_true rfl)) dP_rankingAt_2 ⟨Nat.le_of_ble_eq_true rfl, Nat.le_of_ble_eq_true rfl⟩) ?_
  refine lv_astore_n (lv' := [(2, .ref q), (0, .ref a), (1, .int (nI j))]) hx hb dP_rankingAt_5 rfl hl (by decide) rfl (fun ls hl => ?_)
  refine lv_aload_n hx hb dP_rankingAt_6 rfl (lv_at hl 0 rfl) ?_
  refine lv_ifnull hx hb dP_rankingAt_7 ?_
  refine lv_aload_n hx hb dP_rankingAt_10 rfl (lv_at hl 0 rfl) ?_
  refine va_getN (D := D) (ci := 1) (v := .int (nI kd)) (C := RS) (T := FS) (N := 7) hx hb hT inS hown hK hP 2 rfl rfl 0 (by decide) (va_Nw.use rfl (kN85 hE.2.1)) (fun _ h9 => h9) rfl dP_rankingAt_11 ?_
  refine lv_iconst (v := nI 3) hx hb dP_rankingAt_14 (by decide) ?_
  refine x_ceq (a := kd) (b := 3) (tgt := 22) hx hb dP_rankingAt_15 (by decide) (by omega) (by omega) (fun h1 => ?_) (fun h1 => ?_)
  · refine lv_aload_n hx hb dP_rankingAt_22 rfl (lv_at hl 0 rfl) ?_
    exact W.aret (v := .ref q) hx hb hr (Or.inl ⟨_, rfl⟩) (Or.inr ⟨_, rfl⟩) (fun t ht hW => ⟨by rw [hr1 h1], ht⟩) (fun q h => absurd h List.not_mem_nil) dP_rankingAt_23
  · refine lv_null hx hb dP_rankingAt_18 ?_
    refine lv_goto (tgt := 23) hx hb dP_rankingAt_19 (by decide) ?_
    exact W.aret (v := .null) hx hb hr (Or.inl ⟨_, rfl⟩) (Or.inl rfl) (fun t ht hW => ⟨by rw [hr0 h1], ht⟩) (fun q h => absurd h List.not_mem_nil) dP_rankingAt_23
end
section
/-! the class's state: its cells, by blocks: the object a .. a + 4, a taster bT i .. + 2, a test bS j .. + 3 -/
def okN (k n : Nat) : Prop := (k = 0 ∧ n = 3) ∨ ((k = 1 ∨ k = 2) ∧ n = 2) ∨ (k = 3 ∧ 2 ≤ n ∧ n ≤ 5)
/-- bounds and places of the class's state -/
def RCb (base a : Nat) (nT nS : Nat) (bT bS : Nat → Nat) (td fd : Nat → Nat → Nat) (ta tr kd sp ca cr : Nat → Nat) (od aw rk : Nat → Nat → Nat) (h : Nat) : Prop :=
  (nT ≤ 26 ∧ nS ≤ 40 ∧ base ≤ a ∧ a + 5 ≤ h) ∧ (∀ j, j < nS → okN (kd j) (sp j) ∧ ca j ≤ 26 ∧ cr j ≤ ca j ∧ (∀ i, i < 26 → od j i < cntO (kd j) (sp j) ∧ aw j i ≤ 1) ∧ ∀ x, x < 130 → rk j x ≤ 5) ∧
  (∀ i, i < nT → ta i ≤ 40 ∧ tr i ≤ ta i ∧ ∀ k, k < 16 → td i k ≤ 1 ∧ fd i k ≤ 1) ∧
  (∀ i, i < nT → a + 5 ≤ bT i ∧ bT i + 3 ≤ h) ∧ (∀ j, j < nS → a + 5 ≤ bS j ∧ bS j + 4 ≤ h) ∧ (∀ i i', i < i' → i' < nT → bT i + 3 ≤ bT i') ∧ (∀ j j', j < j' → j' < nS → bS j + 4 ≤ bS j') ∧ ∀ i j, i < nT → j < nS → bT i + 3 ≤ bS j ∨ bS j + 4 ≤ bT i
def RC (D : va_G) (κ : Nat → ClassId) (base a : Nat) (sd : Int64) (nT nS : Nat) (bT bS : Nat → Nat) (td fd : Nat → Nat → Nat) (ta tr kd sp ca cr : Nat → Nat) (od aw rk : Nat → Nat → Nat) (H : Heap) : Prop :=
  (∃ (fT fS : Nat → Option Nat) (mx : Nat → Int32) (sw : Nat → Int64), va_P D vwCl [(a, .inr (2, [.long sd, .ref (a + 1), .ref (a + 2), .int (nI nT), .int (nI nS), .ref (a + 3), .ref (a + 4)])), ((a + 1), .inl (κ 3, 26, .inr (.inr (.inr (.inr fT))))), ((a + 2), .inl (κ 4, 40, .inr (.inr (.inr (.inr fS))))), ((a + 3), .inl (κ 0, 120, .inl mx)), ((a + 4), .inl (κ 2, 131, .inr (.inl sw)))] H ∧ (∀ i, i < 26 → fT i = if i < nT then some (bT i) else none) ∧ ∀ j, j < 40 → fS j = if j < nS then some (bS j) else none) ∧
  (∀ i, i < nT → va_P D vwCl [((bT i), .inr (0, [.ref ((bT i) + 1), .ref ((bT i) + 2), .int (nI (ta i)), .int (nI (tr i))])), (((bT i) + 1), .inl (κ 1, 16, .inl (fun k => nI (td i k)))), (((bT i) + 2), .inl (κ 1, 16, .inl (fun k => nI (fd i k))))] H) ∧ (∀ j, j < nS → va_P D vwCl [((bS j), .inr (1, [.int (nI (kd j)), .int (nI (sp j)), .ref ((bS j) + 1), .ref ((bS j) + 2), .ref ((bS j) + 3), .int (nI (ca j)), .int (nI (cr j))])), (((bS j) + 1), .inl (κ 0, 26, .inl (fun i => nI (od j i)))), (((bS j) + 2), .inl (κ 1, 26, .inl (fun i => nI (aw j i)))), (((bS j) + 3), .inl (κ 0, 130, .inl (fun x => nI (rk j x))))] H) ∧ RCb base a nT nS bT bS td fd ta tr kd sp ca cr od aw rk H.size
theorem okN.lt {k n : Nat} (h : okN k n) : k < 4 ∧ 2 ≤ n ∧ n ≤ 5 := by
  rcases h with h | h | h <;> omega
theorem vp_cell_congr {c : ClassId} {n : Nat} {f g : Nat → Int32} (h : ∀ j, j < n → f j = g j) : vp_cell c (n, .inl f) = vp_cell c (n, .inl g) := by
  simp only [vp_cell_i, arrV]
  congr 2
  funext j
  rw [h j.val j.isLt]
theorem vp_cell_congrQ {c : ClassId} {n : Nat} {f g : Nat → Option Nat} (h : ∀ j, j < n → f j = g j) : vp_cell c (n, .inr (.inr (.inr (.inr f)))) = vp_cell c (n, .inr (.inr (.inr (.inr g)))) := by
  simp only [vp_cell_q, arrV]
  congr 2
  funext j
  rw [h j.val j.isLt]
/-- no such test -/
def noS (nS : Nat) (x : Int32) : Prop := (x < 0 ∨ nI 40 ≤ x) ∨ ∃ j, j < 40 ∧ x = nI j ∧ nS ≤ j
theorem whoS (nS : Nat) (x : Int32) : noS nS x ∨ ∃ j, j < nS ∧ j < 40 ∧ x = nI j := by
  rcases pk_ix x (show 40 < 2 ^ 31 by decide) with h | h | ⟨j, hj, h⟩
  · exact Or.inl (Or.inl (Or.inl h))
  · exact Or.inl (Or.inl (Or.inr h))
  · by_cases q : j < nS
    · exact Or.inr ⟨j, q, hj, h⟩
    · exact Or.inl (Or.inr ⟨j, hj, h, by omega⟩)
def noT (nT : Nat) (x : Int32) : Prop := (x < 0 ∨ nI 26 ≤ x) ∨ ∃ j, j < 26 ∧ x = nI j ∧ nT ≤ j
theorem whoT (nT : Nat) (x : Int32) : noT nT x ∨ ∃ j, j < nT ∧ j < 26 ∧ x = nI j := by
  rcases pk_ix x (show 26 < 2 ^ 31 by decide) with h | h | ⟨j, hj, h⟩
  · exact Or.inl (Or.inl (Or.inl h))
  · exact Or.inl (Or.inl (Or.inr h))
  · by_cases q : j < nT
    · exact Or.inr ⟨j, q, hj, h⟩
    · exact Or.inl (Or.inr ⟨j, hj, h, by omega⟩)
theorem noS_fr {nS : Nat} {bS : Nat → Nat} {fS : Nat → Option Nat} {x : Int32} (h : noS nS x) (hf : ∀ j, j < 40 → fS j = if j < nS then some (bS j) else none) : (x < 0 ∨ nI 40 ≤ x) ∨ ∃ j, j < 40 ∧ x = nI j ∧ fS j = none := by
  rcases h with h | ⟨j, h1, h2, h3⟩
  · exact Or.inl h
  · exact Or.inr ⟨j, h1, h2, by rw [hf j h1, if_neg (by omega)]⟩
theorem noT_fr {nT : Nat} {bT : Nat → Nat} {fT : Nat → Option Nat} {x : Int32} (h : noT nT x) (hf : ∀ j, j < 26 → fT j = if j < nT then some (bT j) else none) : (x < 0 ∨ nI 26 ≤ x) ∨ ∃ j, j < 26 ∧ x = nI j ∧ fT j = none := by
  rcases h with h | ⟨j, h1, h2, h3⟩
  · exact Or.inl h
  · exact Or.inr ⟨j, h1, h2, by rw [hf j h1, if_neg (by omega)]⟩
end
section
/-! the class's public reads -/
def srvN (kd sp : Nat) : Nat := if kd = 2 then 3 else sp
theorem cntO_le {k n : Nat} (h : okN k n) : 0 < cntO k n ∧ cntO k n ≤ 120 := by
  obtain ⟨h1, h2, h3⟩ := h.lt
  rcases (show k = 0 ∨ k = 1 ∨ k = 2 ∨ k = 3 by omega) with rfl | rfl | rfl | rfl
  · exact ⟨by simp [cntO], by simp [cntO]⟩
  · exact ⟨by simp [cntO], by simp [cntO]⟩
  · exact ⟨by simp [cntO], by simp [cntO]⟩
  · rcases (show n = 2 ∨ n = 3 ∨ n = 4 ∨ n = 5 by omega) with rfl | rfl | rfl | rfl <;> exact ⟨by decide, by decide⟩
theorem served_ok {k n o z : Nat} (h : okN k n) (ho : o < cntO k n) (hz : z < srvN k n) : (k = 0 → o < 6 ∧ z < 3) ∧ (k = 1 → o < 2 ∧ z < 2) ∧ (k = 2 → o < 4 ∧ z < 3) ∧ (k = 3 → z < n) ∧ o < 2 ^ 31 := by
  have hc := (cntO_le h).2
  refine ⟨fun e => ?_, fun e => ?_, fun e => ?_, fun e => ?_, by omega⟩
  · subst e
    have : n = 3 := by rcases h with h | h | h <;> omega
    subst this
    exact ⟨ho, hz⟩
  · subst e
    have : n = 2 := by rcases h with h | h | h <;> omega
    subst this
    exact ⟨ho, hz⟩
  · subst e
    exact ⟨ho, hz⟩
  · subst e
    exact hz
def d2 : UInt64 := 4611686018427387904
def thC (td fd : Nat → Nat) : Nat → Option Nat → UInt64
  | 0, none => FP.dconst0
  | 0, some m => FP.ddiv (strv m) d2
  | k + 1, none => if td k = 0 then thC td fd k none else if fd k = 0 then FP.dmul (strv k) d2 else thC td fd k (some k)
  | k + 1, some m => if td k = 0 then thC td fd k (some m) else if fd k = 0 then FP.ddiv (FP.dadd (strv m) (strv k)) d2 else thC td fd k (some k)
theorem th1 : ∀ k, k < 16 → FP.dmul (strv k) 4611686018427387904 &&& 0x7fffffffffffffff ≤ 0x7ff0000000000000 := by decide +kernel
theorem th2 : ∀ k, k < 16 → FP.ddiv (strv k) 4611686018427387904 &&& 0x7fffffffffffffff ≤ 0x7ff0000000000000 := by decide +kernel
theorem th3 : ∀ m, m < 16 → ∀ k, k < 16 → FP.dadd (strv m) (strv k) &&& 0x7fffffffffffffff ≤ 0x7ff0000000000000 := by decide +kernel
theorem th4 : ∀ m, m < 16 → ∀ k, k < 16 → FP.ddiv (FP.dadd (strv m) (strv k)) 4611686018427387904 &&& 0x7fffffffffffffff ≤ 0x7ff0000000000000 := by decide +kernel
def lstI : Option Nat → Int32
  | none => -1
  | some m => nI m
theorem pw_lt2 : ∀ n, n < 27 → ∀ r, r < 28 → 20 * pw_ways r n 2 < 2 ^ 63 := by decide +kernel
theorem pw_lt3 : ∀ n, n < 27 → ∀ r, r < 28 → 20 * pw_ways r n 3 < 2 ^ 63 := by decide +kernel
theorem pw_lt {n r pl : Nat} (hn : n < 27) (hr : r < 28) (hp : pl = 2 ∨ pl = 3) : 20 * pw_ways r n pl < 2 ^ 63 := by
  rcases hp with rfl | rfl
  · exact pw_lt2 n hn r hr
  · exact pw_lt3 n hn r hr
theorem pp_lt2 : ∀ n, n < 27 → 2 ^ n < 2 ^ 63 := by decide +kernel
theorem pp_lt3 : ∀ n, n < 27 → 3 ^ n < 2 ^ 63 := by decide +kernel
theorem pp_lt {n pl : Nat} (hn : n < 27) (hp : pl = 2 ∨ pl = 3) : pl ^ n < 2 ^ 63 := by
  rcases hp with rfl | rfl
  · exact pp_lt2 n hn
  · exact pp_lt3 n hn
def szF (pl w : Nat) : Nat → Nat → Int32
  | 0, _ => -1
  | f + 1, c => if w ≤ pl ^ c then nI c else szF pl w f (c + 1)
def rwF (k : Nat) : Nat → Nat → Nat
  | 0, _ => k + 1
  | f + 1, r => if 20 * pw_ways r k 3 ≤ 3 ^ k then r else rwF k f (r + 1)
theorem sp23 {k n : Nat} (h : okN k n) (hk : ¬ k = 3) : n = 2 ∨ n = 3 := by rcases h with h | h | h <;> omega
set_option maxHeartbeats 400000 in
set_option maxRecDepth 100000 in
theorem c_P_right (l : Launch) (D : va_G) (κ : Nat → ClassId) (base : Nat) (H0 : Heap) {a : Nat} {sd : Int64} {nT nS : Nat} {bT bS : Nat → Nat} {td fd : Nat → Nat → Nat} {ta tr kd sp ca cr : Nat → Nat} {od aw rk : Nat → Nat → Nat} (hR : RC D κ base a sd nT nS bT bS td fd ta tr kd sp ca cr od aw rk H0) (x r : Int32) (h0 : noS nS x → r = -1) (h1 : ∀ j, j < nS → x = nI j → kd j = 3 → r = -1) (h2 : ∀ j, j < nS → x = nI j → ¬ kd j = 3 → r = nI (cr j)) : Met l yP_right wP_right ({ frames := 2, cells := 0, slots := 0, locals := 43 }) (Pq D κ base [.ref a, .int x] H0) (q_P (some (.int r))) 0 0 (fun _ => False) := by
  refine Met.ofW (cc := bP_right) (maxL := 3) (ret := (some FieldType.int)) (by decide) rfl ?_
  intro p e s m args below meth c s₁ B hml hv
  obtain ⟨rfl, hH, hE⟩ := hv
  subst hH
  have hx := B.exec
  have hb := B.bytes
  have hr := B.returns
  have hT : ∀ w ∈ TT, w.before _ s = true := fun w h => atoms_spec (ws := wP_right) B.pre w (List.mem_cons_of_mem _ h)
  have hown : s.vm.findClass "TasterPanels" = some m.cls := findClass_of_methodNamed B.named
  have hlocks := B.notSynchronized
  have hK := hE.1
  have hS : va_S (fun q => base ≤ q) s.heap s.heap [] := va_S.rf
  have hAb : ∀ q : Nat, (fun q : Nat => base ≤ q) q → base ≤ q := fun _ h => h
  have hl := lv_entry ([.ref a, .int x]) (n := 3) (Nat.le_of_ble_eq_true rfl)
  rw [lg_entry_eq]
  generalize (lg_sl ([.ref a, .int x]) ++ List.replicate (3 - (lg_sl ([.ref a, .int x])).length) Slot.unset).toArray = ls at hl ⊢
  have hl : lv_has ls 3 [(0, .ref a), (1, .int x)] := hl
  obtain ⟨⟨fT, fS, mx, sw, hP, hfT, hfS⟩, hTas, hTes, hbd⟩ := hR
  obtain ⟨⟨hnT, hnS, hba, hah⟩, hb1, hb2, hb3⟩ := hbd
  rcases whoS nS x with e1 | ⟨j, hj, hj4, rfl⟩
  · refine lv_aload_n hx hb dP_right_0 rfl (lv_at hl 0 rfl) ?_
    refine lv_iload_n hx hb dP_right_1 rfl (lv_at hl 1 rfl) ?_
    refine x_callP (v := .null) (va_runV (As := [.int x]) (rest := []) ⟨hx, hb, hml, hown, hT⟩ (c_P_differenceAt_none l D κ base s.heap (hP.sub [0, 2] rfl) x (noS_fr e1 hfS)) (cwV 1 hT (TT_V kP71 kiP_differenceAt ksP_differenceAt knP kcP_differenceAt) rfl rfl rfl (by decide +kernel) ⟨Nat.le_of_ble_eq_true rfl, Nat.le_of_ble_eq_true rfl⟩) (pcV hE hS hAb (va_recv hK hP (ci := 2) (q0 := 0) rfl rfl)) rfl rfl hl.1 rfl (lv_room (Nat.le_of_ble_eq_true rfl)) dP_right_2 ⟨Nat.le_of_ble_eq_true rfl, Nat.le_of_ble_eq_true rfl⟩) ?_
    refine lv_astore_nN (lv' := [(2, .null), (0, .ref a), (1, .int x)]) hx hb dP_right_5 rfl hl (by decide) rfl (fun ls hl => ?_)
    refine lv_aload_nN hx hb dP_right_6 rfl (lv_at hl 0 rfl) ?_
    refine lv_ifnonnullN hx hb dP_right_7 ?_
    refine lv_iconst (v := -1) hx hb dP_right_10 (by decide) ?_
    refine lv_goto (tgt := 18) hx hb dP_right_11 (by decide) ?_
    refine x_topi (y := r) ((h0 e1).symm) ?_
    exact W.iret (v := r) hx hb hr (fun t ht hW => ⟨rfl, ht⟩) (fun q h => absurd h List.not_mem_nil) dP_right_18
  · have hP : va_P D vwCl [(a, .inr (2, [.long sd, .ref (a + 1), .ref (a + 2), .int (nI nT), .int (nI nS), .ref (a + 3), .ref (a + 4)])), ((a + 2), .inl (κ 4, 40, .inr (.inr (.inr (.inr fS))))), ((bS j), .inr (1, [.int (nI (kd j)), .int (nI (sp j)), .ref ((bS j) + 1), .ref ((bS j) + 2), .ref ((bS j) + 3), .int (nI (ca j)), .int (nI (cr j))]))] s.heap := va_P.app (hP.sub [0, 2] rfl) ((hTes j hj).sub [0] rfl)
    by_cases hk : kd j = 3
    · refine lv_aload_n hx hb dP_right_0 rfl (lv_at hl 0 rfl) ?_
      refine lv_iload_n hx hb dP_right_1 rfl (lv_at hl 1 rfl) ?_
      refine x_callP (v := .null) (va_runV (As := [.int (nI j)]) (rest := []) ⟨hx, hb, hml, hown, hT⟩ (c_P_differenceAt_some l D κ base s.heap (hP.sub [0, 1, 2] rfl) j hj4 (by rw [hfS j hj4, if_pos hj]) (hb1 j hj).1.lt.1 (.null) (fun _ => rfl) (fun q => absurd hk q)) (cwV 1 hT (TT_V kP71 kiP_differenceAt ksP_differenceAt knP kcP_differenceAt) rfl rfl rfl (by decide +kernel) ⟨Nat.le_of_ble_eq_true rfl, Nat.le_of_ble_eq_true rfl⟩) (pcV hE hS hAb (va_recv hK hP (ci := 2) (q0 := 0) rfl rfl)) rfl rfl hl.1 rfl (lv_room (Nat.le_of_ble_eq_true rfl)) dP_right_2 ⟨Nat.le_of_ble_eq_true rfl, Nat.le_of_ble_eq_true rfl⟩) ?_
      refine lv_astore_nN (lv' := [(2, .null), (0, .ref a), (1, .int (nI j))]) hx hb dP_right_5 rfl hl (by decide) rfl (fun ls hl => ?_)
      refine lv_aload_nN hx hb dP_right_6 rfl (lv_at hl 0 rfl) ?_
      refine lv_ifnonnullN hx hb dP_right_7 ?_
      refine lv_iconst (v := -1) hx hb dP_right_10 (by decide) ?_
      refine lv_goto (tgt := 18) hx hb dP_right_11 (by decide) ?_
      refine x_topi (y := r) ((h1 j hj rfl hk).symm) ?_
      exact W.iret (v := r) hx hb hr (fun t ht hW => ⟨rfl, ht⟩) (fun q h => absurd h List.not_mem_nil) dP_right_18
    · refine lv_aload_n hx hb dP_right_0 rfl (lv_at hl 0 rfl) ?_
      refine lv_iload_n hx hb dP_right_1 rfl (lv_at hl 1 rfl) ?_
      refine x_callP (v := .ref (bS j)) (va_runV (As := [.int (nI j)]) (rest := []) ⟨hx, hb, hml, hown, hT⟩ (c_P_differenceAt_some l D κ base s.heap (hP.sub [0, 1, 2] rfl) j hj4 (by rw [hfS j hj4, if_pos hj]) (hb1 j hj).1.lt.1 (.ref (bS j)) (fun q => absurd q hk) (fun _ => rfl)) (cwV 1 hT (TT_V kP71 kiP_differenceAt ksP_differenceAt knP kcP_differenceAt) rfl rfl rfl (by decide +kernel) ⟨Nat.le_of_ble_eq_true rfl, Nat.le_of_ble_eq_true rfl⟩) (pcV hE hS hAb (va_recv hK hP (ci := 2) (q0 := 0) rfl rfl)) rfl rfl hl.1 rfl (lv_room (Nat.le_of_ble_eq_true rfl)) dP_right_2 ⟨Nat.le_of_ble_eq_true rfl, Nat.le_of_ble_eq_true rfl⟩) ?_
      refine lv_astore_n (lv' := [(2, .ref (bS j)), (0, .ref a), (1, .int (nI j))]) hx hb dP_right_5 rfl hl (by decide) rfl (fun ls hl => ?_)
      refine lv_aload_n hx hb dP_right_6 rfl (lv_at hl 0 rfl) ?_
      refine lv_ifnonnull (tgt := 14) hx hb dP_right_7 (by decide) ?_
      refine lv_aload_n hx hb dP_right_14 rfl (lv_at hl 0 rfl) ?_
      refine va_getN (D := D) (ci := 1) (v := .int (nI (cr j))) (C := RS) (T := FS) (N := 7) hx hb hT inS hown hK hP 2 rfl rfl 6 (by decide) (va_Nw.use rfl (kN92 hE.2.1)) (fun _ h9 => h9) rfl dP_right_15 ?_
      refine x_topi (y := r) ((h2 j hj rfl hk).symm) ?_
      exact W.iret (v := r) hx hb hr (fun t ht hW => ⟨rfl, ht⟩) (fun q h => absurd h List.not_mem_nil) dP_right_18
set_option maxHeartbeats 400000 in
set_option maxRecDepth 100000 in
theorem c_P_order (l : Launch) (D : va_G) (κ : Nat → ClassId) (base : Nat) (H0 : Heap) {a : Nat} {sd : Int64} {nT nS : Nat} {bT bS : Nat → Nat} {td fd : Nat → Nat → Nat} {ta tr kd sp ca cr : Nat → Nat} {od aw rk : Nat → Nat → Nat} (hR : RC D κ base a sd nT nS bT bS td fd ta tr kd sp ca cr od aw rk H0) (x y z r : Int32) (h0 : noS nS x → r = -1) (h1 : noT nT y → r = -1) (h2 : ∀ j, j < nS → x = nI j → (z < 0 ∨ nI (srvN (kd j) (sp j)) ≤ z) → r = -1) (h3 : ∀ j i k, j < nS → i < nT → x = nI j → y = nI i → z = nI k → k < srvN (kd j) (sp j) → r = srvI (kd j) (sp j) (od j i) k) : Met l yP_order wP_order ({ frames := 3, cells := 0, slots := 0, locals := 72 }) (Pq D κ base [.ref a, .int x, .int y, .int z] H0) (q_P (some (.int r))) 0 0 (fun _ => False) := by
  refine Met.ofW (cc := bP_order) (maxL := 5) (ret := (some FieldType.int)) (by decide) rfl ?_
  intro p e s m args below meth c s₁ B hml hv
  obtain ⟨rfl, hH, hE⟩ := hv
  subst hH
  have hx := B.exec
  have hb := B.bytes
  have hr := B.returns
  have hT : ∀ w ∈ TT, w.before _ s = true := fun w h => atoms_spec (ws := wP_order) B.pre w (List.mem_cons_of_mem _ h)
  have hown : s.vm.findClass "TasterPanels" = some m.cls := findClass_of_methodNamed B.named
  have hlocks := B.notSynchronized
  have hK := hE.1
  have hS : va_S (fun q => base ≤ q) s.heap s.heap [] := va_S.rf
  have hAb : ∀ q : Nat, (fun q : Nat => base ≤ q) q → base ≤ q := fun _ h => h
  have hl := lv_entry ([.ref a, .int x, .int y, .int z]) (n := 5) (Nat.le_of_ble_eq_true rfl)
  rw [lg_entry_eq]
  generalize (lg_sl ([.ref a, .int x, .int y, .int z]) ++ List.replicate (5 - (lg_sl ([.ref a, .int x, .int y, .int z])).length) Slot.unset).toArray = ls at hl ⊢
  have hl : lv_has ls 5 [(0, .ref a), (1, .int x), (2, .int y), (3, .int z)] := hl
  obtain ⟨⟨fT, fS, mx, sw, hP, hfT, hfS⟩, hTas, hTes, hbd⟩ := hR
  obtain ⟨⟨hnT, hnS, hba, hah⟩, hb1, hb2, hb3⟩ := hbd
  rcases whoS nS x with e1 | ⟨j, hj, hj4, rfl⟩
  · refine lv_aload_n hx hb dP_order_0 rfl (lv_at hl 0 rfl) ?_
    refine lv_iload_n hx hb dP_order_1 rfl (lv_at hl 1 rfl) ?_
    refine x_callP (v := .null) (va_runV (As := [.int x]) (rest := []) ⟨hx, hb, hml, hown, hT⟩ (c_P_testAt l D κ base s.heap (hP.sub [0, 2] rfl) x .null (fun _ => rfl) (none_at (by decide) (noS_fr e1 hfS))) (cwV 1 hT (TT_V kP52 kiP_testAt ksP_testAt knP kcP_testAt) rfl rfl rfl (by decide +kernel) ⟨Nat.le_of_ble_eq_true rfl, Nat.le_of_ble_eq_true rfl⟩) (pcV hE hS hAb (va_recv hK hP (ci := 2) (q0 := 0) rfl rfl)) rfl rfl hl.1 rfl (lv_room (Nat.le_of_ble_eq_true rfl)) dP_order_2 ⟨Nat.le_of_ble_eq_true rfl, Nat.le_of_ble_eq_true rfl⟩) ?_
    refine lv_astoreN (lv' := [(4, .null), (0, .ref a), (1, .int x), (2, .int y), (3, .int z)]) hx hb dP_order_5 hl (by decide) rfl (fun ls hl => ?_)
    refine lv_aloadN hx hb dP_order_7 (lv_at hl 0 rfl) ?_
    refine lv_ifnullN (tgt := 33) hx hb dP_order_9 (by decide) ?_
    refine lv_iconst (v := -1) hx hb dP_order_33 (by decide) ?_
    refine x_topi (y := r) ((h0 e1).symm) ?_
    exact W.iret (v := r) hx hb hr (fun t ht hW => ⟨rfl, ht⟩) (fun q h => absurd h List.not_mem_nil) dP_order_34
  · have hP : va_P D vwCl [(a, .inr (2, [.long sd, .ref (a + 1), .ref (a + 2), .int (nI nT), .int (nI nS), .ref (a + 3), .ref (a + 4)])), ((a + 1), .inl (κ 3, 26, .inr (.inr (.inr (.inr fT))))), ((a + 2), .inl (κ 4, 40, .inr (.inr (.inr (.inr fS))))), ((bS j), .inr (1, [.int (nI (kd j)), .int (nI (sp j)), .ref ((bS j) + 1), .ref ((bS j) + 2), .ref ((bS j) + 3), .int (nI (ca j)), .int (nI (cr j))])), (((bS j) + 1), .inl (κ 0, 26, .inl (fun i => nI (od j i))))] s.heap := va_P.app (hP.sub [0, 1, 2] rfl) ((hTes j hj).sub [0, 1] rfl)
    obtain ⟨hok, -, -, hod, -⟩ := hb1 j hj
    refine lv_aload_n hx hb dP_order_0 rfl (lv_at hl 0 rfl) ?_
    refine lv_iload_n hx hb dP_order_1 rfl (lv_at hl 1 rfl) ?_
    refine x_callP (v := .ref (bS j)) (va_runV (As := [.int (nI j)]) (rest := []) ⟨hx, hb, hml, hown, hT⟩ (c_P_testAt l D κ base s.heap (hP.sub [0, 2] rfl) (nI j) (.ref (bS j)) (fun h => at_out (by decide) hj4 h rfl) (some_at (by decide) hj4 (by rw [hfS j hj4, if_pos hj]))) (cwV 1 hT (TT_V kP52 kiP_testAt ksP_testAt knP kcP_testAt) rfl rfl rfl (by decide +kernel) ⟨Nat.le_of_ble_eq_true rfl, Nat.le_of_ble_eq_true rfl⟩) (pcV hE hS hAb (va_recv hK hP (ci := 2) (q0 := 0) rfl rfl)) rfl rfl hl.1 rfl (lv_room (Nat.le_of_ble_eq_true rfl)) dP_order_2 ⟨Nat.le_of_ble_eq_true rfl, Nat.le_of_ble_eq_true rfl⟩) ?_
    refine lv_astore (lv' := [(4, .ref (bS j)), (0, .ref a), (1, .int (nI j)), (2, .int y), (3, .int z)]) hx hb dP_order_5 hl (by decide) rfl (fun ls hl => ?_)
    refine lv_aload hx hb dP_order_7 (lv_at hl 0 rfl) ?_
    refine lv_ifnull hx hb dP_order_9 ?_
    refine lv_aload_n hx hb dP_order_12 rfl (lv_at hl 1 rfl) ?_
    refine lv_iload_n hx hb dP_order_13 rfl (lv_at hl 3 rfl) ?_
    rcases whoT nT y with e2 | ⟨i, hi, hi26, rfl⟩
    · refine x_callP (v := .null) (va_runV (As := [.int y]) (rest := []) ⟨hx, hb, hml, hown, hT⟩ (c_P_tasterAt l D κ base s.heap (hP.sub [0, 1] rfl) y .null (fun _ => rfl) (none_at (by decide) (noT_fr e2 hfT))) (cwV 1 hT (TT_V kP56 kiP_tasterAt ksP_tasterAt knP kcP_tasterAt) rfl rfl rfl (by decide +kernel) ⟨Nat.le_of_ble_eq_true rfl, Nat.le_of_ble_eq_true rfl⟩) (pcV hE hS hAb (va_recv hK hP (ci := 2) (q0 := 0) rfl rfl)) rfl rfl hl.1 rfl (lv_room (Nat.le_of_ble_eq_true rfl)) dP_order_14 ⟨Nat.le_of_ble_eq_true rfl, Nat.le_of_ble_eq_true rfl⟩) ?_
      refine lv_ifnullN (tgt := 33) hx hb dP_order_17 (by decide) ?_
      refine lv_iconst (v := -1) hx hb dP_order_33 (by decide) ?_
      refine x_topi (y := r) ((h1 e2).symm) ?_
      exact W.iret (v := r) hx hb hr (fun t ht hW => ⟨rfl, ht⟩) (fun q h => absurd h List.not_mem_nil) dP_order_34
    · refine x_callP (v := .ref (bT i)) (va_runV (As := [.int (nI i)]) (rest := []) ⟨hx, hb, hml, hown, hT⟩ (c_P_tasterAt l D κ base s.heap (hP.sub [0, 1] rfl) (nI i) (.ref (bT i)) (fun h => at_out (by decide) hi26 h rfl) (some_at (by decide) hi26 (by rw [hfT i hi26, if_pos hi]))) (cwV 1 hT (TT_V kP56 kiP_tasterAt ksP_tasterAt knP kcP_tasterAt) rfl rfl rfl (by decide +kernel) ⟨Nat.le_of_ble_eq_true rfl, Nat.le_of_ble_eq_true rfl⟩) (pcV hE hS hAb (va_recv hK hP (ci := 2) (q0 := 0) rfl rfl)) rfl rfl hl.1 rfl (lv_room (Nat.le_of_ble_eq_true rfl)) dP_order_14 ⟨Nat.le_of_ble_eq_true rfl, Nat.le_of_ble_eq_true rfl⟩) ?_
      refine lv_ifnull hx hb dP_order_17 ?_
      refine lv_iload_n hx hb dP_order_20 rfl (lv_at hl 4 rfl) ?_
      have hsv : srvN (kd j) (sp j) < 2 ^ 31 := by have := hok.lt; unfold srvN; split <;> omega
      rcases pk_ix z hsv with e3 | e3 | ⟨k, hk, rfl⟩
      · refine lv_if_lt (tgt := 33) hx hb dP_order_21 (by decide) (fun h5 => ?_) (fun h5 => absurd e3 h5)
        refine lv_iconst (v := -1) hx hb dP_order_33 (by decide) ?_
        refine x_topi (y := r) ((h2 j hj rfl (Or.inl e3)).symm) ?_
        exact W.iret (v := r) hx hb hr (fun t ht hW => ⟨rfl, ht⟩) (fun q h => absurd h List.not_mem_nil) dP_order_34
      · refine lv_if_lt (tgt := 33) hx hb dP_order_21 (by decide) (fun h6 => absurd (Int32.lt_of_le_of_lt e3 h6) (nI_pos hsv)) (fun h6 => ?_)
        refine lv_iload_n hx hb dP_order_24 rfl (lv_at hl 4 rfl) ?_
        refine lv_aload hx hb dP_order_25 (lv_at hl 0 rfl) ?_
        refine x_callP (v := .int (nI (srvN (kd j) (sp j)))) (va_runS (As := [.ref (bS j)]) (rest := [.int z]) ⟨hx, hb, hml, hown, hT⟩ (c_P_servings l D κ base s.heap (hP.sub [3] rfl) hok.lt.1 (srvN (kd j) (sp j)) (fun q => if_pos q) (fun q => if_neg q)) (va_cwS 1 hT (TT_S kP60 ktP_servings knP kcP_servings) rfl rfl rfl (by decide +kernel) ⟨Nat.le_of_ble_eq_true rfl, Nat.le_of_ble_eq_true rfl⟩) (pcS hE hS hAb) rfl rfl hl.1 rfl (lv_room (Nat.le_of_ble_eq_true rfl)) dP_order_27 ⟨Nat.le_of_ble_eq_true rfl, Nat.le_of_ble_eq_true rfl⟩) ?_
        refine lv_icmp_lt (tgt := 35) hx hb dP_order_30 (by decide) (fun h7 => absurd (Int32.lt_of_le_of_lt e3 h7) (fun q => Int32.lt_irrefl q)) (fun h7 => ?_)
        refine lv_iconst (v := -1) hx hb dP_order_33 (by decide) ?_
        refine x_topi (y := r) ((h2 j hj rfl (Or.inr e3)).symm) ?_
        exact W.iret (v := r) hx hb hr (fun t ht hW => ⟨rfl, ht⟩) (fun q h => absurd h List.not_mem_nil) dP_order_34
      · refine x_zlt (a := k) (tgt := 33) hx hb dP_order_21 (by decide) (by omega) ?_
        refine lv_iload_n hx hb dP_order_24 rfl (lv_at hl 4 rfl) ?_
        refine lv_aload hx hb dP_order_25 (lv_at hl 0 rfl) ?_
        refine x_callP (v := .int (nI (srvN (kd j) (sp j)))) (va_runS (As := [.ref (bS j)]) (rest := [.int (nI k)]) ⟨hx, hb, hml, hown, hT⟩ (c_P_servings l D κ base s.heap (hP.sub [3] rfl) hok.lt.1 (srvN (kd j) (sp j)) (fun q => if_pos q) (fun q => if_neg q)) (va_cwS 1 hT (TT_S kP60 ktP_servings knP kcP_servings) rfl rfl rfl (by decide +kernel) ⟨Nat.le_of_ble_eq_true rfl, Nat.le_of_ble_eq_true rfl⟩) (pcS hE hS hAb) rfl rfl hl.1 rfl (lv_room (Nat.le_of_ble_eq_true rfl)) dP_order_27 ⟨Nat.le_of_ble_eq_true rfl, Nat.le_of_ble_eq_true rfl⟩) ?_
        refine x_clt (a := k) (b := srvN (kd j) (sp j)) (tgt := 35) hx hb dP_order_30 (by decide) (by omega) (hsv) (fun h9 => ?_) (fun h9 => absurd h9 (by omega))
        refine lv_aload hx hb dP_order_35 (lv_at hl 0 rfl) ?_
        refine lv_aload hx hb dP_order_37 (lv_at hl 0 rfl) ?_
        refine va_getN (D := D) (ci := 1) (v := .ref ((bS j) + 1)) (C := RS) (T := FS) (N := 7) hx hb hT inS hown hK hP 3 rfl rfl 2 (by decide) (va_Nw.use rfl (kN64 hE.2.1)) (fun _ h9 => h9) rfl dP_order_39 ?_
        refine lv_iload_n hx hb dP_order_42 rfl (lv_at hl 3 rfl) ?_
        refine x_iald hx hb hK hP 4 0 (j := i) (v := nI (od j i)) rfl rfl (by omega) (by decide) (rfl) dP_order_43 ?_
        refine lv_iload_n hx hb dP_order_44 rfl (lv_at hl 4 rfl) ?_
        obtain ⟨g0, g1, g2, g3, g4⟩ := served_ok hok (hod i hi26).1 hk
        refine x_callP (v := .int (srvI (kd j) (sp j) (od j i) k)) (va_runS (As := [.ref (bS j), .int (nI (od j i)), .int (nI k)]) (rest := []) ⟨hx, hb, hml, hown, hT⟩ (c_P_served l D κ base s.heap (hP.sub [3] rfl) hok.lt.1 hok.lt.2.2 (od j i) k g4 g0 g1 g2 g3) (va_cwS 3 hT (TT_S kP67 ktP_served knP kcP_served) rfl rfl rfl (by decide +kernel) ⟨Nat.le_of_ble_eq_true rfl, Nat.le_of_ble_eq_true rfl⟩) (pcS hE hS hAb) rfl rfl hl.1 rfl (lv_room (Nat.le_of_ble_eq_true rfl)) dP_order_45 ⟨Nat.le_of_ble_eq_true rfl, Nat.le_of_ble_eq_true rfl⟩) ?_
        refine x_topi (y := r) ((h3 j i k hj hi rfl rfl rfl hk).symm) ?_
        exact W.iret (v := r) hx hb hr (fun t ht hW => ⟨rfl, ht⟩) (fun q h => absurd h List.not_mem_nil) dP_order_48
set_option maxHeartbeats 400000 in
set_option maxRecDepth 100000 in
theorem c_P_out (l : Launch) (D : va_G) (κ : Nat → ClassId) (base : Nat) (H0 : Heap) {a : Nat} {sd : Int64} {nT nS : Nat} {bT bS : Nat → Nat} {td fd : Nat → Nat → Nat} {ta tr kd sp ca cr : Nat → Nat} {od aw rk : Nat → Nat → Nat} (hR : RC D κ base a sd nT nS bT bS td fd ta tr kd sp ca cr od aw rk H0) (x : Int32) (r : Nat) (h0 : noT nT x → r = 0) (h1 : ∀ i, i < nT → x = nI i → r = if 5 ≤ ta i ∧ 3 * tr i < ta i then 1 else 0) : Met l yP_out wP_out ({ frames := 1, cells := 0, slots := 0, locals := 21 }) (Pq D κ base [.ref a, .int x] H0) (q_P (some (.int (nI r)))) 0 0 (fun _ => False) := by
  refine Met.ofW (cc := bP_out) (maxL := 3) (ret := (some FieldType.boolean)) (by decide) rfl ?_
  intro p e s m args below meth c s₁ B hml hv
  obtain ⟨rfl, hH, hE⟩ := hv
  subst hH
  have hx := B.exec
  have hb := B.bytes
  have hr := B.returns
  have hT : ∀ w ∈ TT, w.before _ s = true := fun w h => atoms_spec (ws := wP_out) B.pre w (List.mem_cons_of_mem _ h)
  have hown : s.vm.findClass "TasterPanels" = some m.cls := findClass_of_methodNamed B.named
  have hlocks := B.notSynchronized
  have hK := hE.1
  have hS : va_S (fun q => base ≤ q) s.heap s.heap [] := va_S.rf
  have hAb : ∀ q : Nat, (fun q : Nat => base ≤ q) q → base ≤ q := fun _ h => h
  have hl := lv_entry ([.ref a, .int x]) (n := 3) (Nat.le_of_ble_eq_true rfl)
  rw [lg_entry_eq]
  generalize (lg_sl ([.ref a, .int x]) ++ List.replicate (3 - (lg_sl ([.ref a, .int x])).length) Slot.unset).toArray = ls at hl ⊢
  have hl : lv_has ls 3 [(0, .ref a), (1, .int x)] := hl
  obtain ⟨⟨fT, fS, mx, sw, hP, hfT, hfS⟩, hTas, hTes, hbd⟩ := hR
  obtain ⟨⟨hnT, hnS, hba, hah⟩, hb1, hb2, hb3⟩ := hbd
  rcases whoT nT x with e1 | ⟨i, hi, hi26, rfl⟩
  · refine lv_aload_n hx hb dP_out_0 rfl (lv_at hl 0 rfl) ?_
    refine lv_iload_n hx hb dP_out_1 rfl (lv_at hl 1 rfl) ?_
    refine x_callP (v := .null) (va_runV (As := [.int x]) (rest := []) ⟨hx, hb, hml, hown, hT⟩ (c_P_tasterAt l D κ base s.heap (hP.sub [0, 1] rfl) x .null (fun _ => rfl) (none_at (by decide) (noT_fr e1 hfT))) (cwV 1 hT (TT_V kP56 kiP_tasterAt ksP_tasterAt knP kcP_tasterAt) rfl rfl rfl (by decide +kernel) ⟨Nat.le_of_ble_eq_true rfl, Nat.le_of_ble_eq_true rfl⟩) (pcV hE hS hAb (va_recv hK hP (ci := 2) (q0 := 0) rfl rfl)) rfl rfl hl.1 rfl (lv_room (Nat.le_of_ble_eq_true rfl)) dP_out_2 ⟨Nat.le_of_ble_eq_true rfl, Nat.le_of_ble_eq_true rfl⟩) ?_
    refine lv_astore_nN (lv' := [(2, .null), (0, .ref a), (1, .int x)]) hx hb dP_out_5 rfl hl (by decide) rfl (fun ls hl => ?_)
    refine lv_aload_nN hx hb dP_out_6 rfl (lv_at hl 0 rfl) ?_
    refine lv_ifnullN (tgt := 35) hx hb dP_out_7 (by decide) ?_
    refine lv_iconst (v := nI 0) hx hb dP_out_35 (by decide) ?_
    exact W.zret (v := nI 0) hx hb hr (by decide) (fun t ht hW => ⟨congrArg (fun z => Outcome.returned (some (Value.int (nI z)))) ((h0 e1).symm), ht⟩) (fun q h => absurd h List.not_mem_nil) dP_out_36
  · have hP : va_P D vwCl [(a, .inr (2, [.long sd, .ref (a + 1), .ref (a + 2), .int (nI nT), .int (nI nS), .ref (a + 3), .ref (a + 4)])), ((a + 1), .inl (κ 3, 26, .inr (.inr (.inr (.inr fT))))), ((bT i), .inr (0, [.ref ((bT i) + 1), .ref ((bT i) + 2), .int (nI (ta i)), .int (nI (tr i))]))] s.heap := va_P.app (hP.sub [0, 1] rfl) ((hTas i hi).sub [0] rfl)
    obtain ⟨ht1, ht2, -⟩ := hb2 i hi
    refine lv_aload_n hx hb dP_out_0 rfl (lv_at hl 0 rfl) ?_
    refine lv_iload_n hx hb dP_out_1 rfl (lv_at hl 1 rfl) ?_
    refine x_callP (v := .ref (bT i)) (va_runV (As := [.int (nI i)]) (rest := []) ⟨hx, hb, hml, hown, hT⟩ (c_P_tasterAt l D κ base s.heap (hP.sub [0, 1] rfl) (nI i) (.ref (bT i)) (fun h => at_out (by decide) hi26 h rfl) (some_at (by decide) hi26 (by rw [hfT i hi26, if_pos hi]))) (cwV 1 hT (TT_V kP56 kiP_tasterAt ksP_tasterAt knP kcP_tasterAt) rfl rfl rfl (by decide +kernel) ⟨Nat.le_of_ble_eq_true rfl, Nat.le_of_ble_eq_true rfl⟩) (pcV hE hS hAb (va_recv hK hP (ci := 2) (q0 := 0) rfl rfl)) rfl rfl hl.1 rfl (lv_room (Nat.le_of_ble_eq_true rfl)) dP_out_2 ⟨Nat.le_of_ble_eq_true rfl, Nat.le_of_ble_eq_true rfl⟩) ?_
    refine lv_astore_n (lv' := [(2, .ref (bT i)), (0, .ref a), (1, .int (nI i))]) hx hb dP_out_5 rfl hl (by decide) rfl (fun ls hl => ?_)
    refine lv_aload_n hx hb dP_out_6 rfl (lv_at hl 0 rfl) ?_
    refine lv_ifnull hx hb dP_out_7 ?_
    refine lv_aload_n hx hb dP_out_10 rfl (lv_at hl 0 rfl) ?_
    refine va_getN (D := D) (ci := 0) (v := .int (nI (ta i))) (C := RT) (T := FT) (N := 4) hx hb hT inT hown hK hP 2 rfl rfl 2 (by decide) (va_Nw.use rfl (kN84 hE.2.1)) (fun _ h9 => h9) rfl dP_out_11 ?_
    refine lv_iconst (v := nI 5) hx hb dP_out_14 (by decide) ?_
    refine x_clt (a := ta i) (b := 5) (tgt := 35) hx hb dP_out_15 (by decide) (by omega) (by omega) (fun h3 => ?_) (fun h3 => ?_)
    · refine lv_iconst (v := nI 0) hx hb dP_out_35 (by decide) ?_
      exact W.zret (v := nI 0) hx hb hr (by decide) (fun t ht hW => ⟨congrArg (fun z => Outcome.returned (some (Value.int (nI z)))) (by rw [h1 i hi rfl, if_neg (by omega)]), ht⟩) (fun q h => absurd h List.not_mem_nil) dP_out_36
    · refine lv_iconst (v := nI 3) hx hb dP_out_18 (by decide) ?_
      refine lv_aload_n hx hb dP_out_19 rfl (lv_at hl 0 rfl) ?_
      refine va_getN (D := D) (ci := 0) (v := .int (nI (tr i))) (C := RT) (T := FT) (N := 4) hx hb hT inT hown hK hP 2 rfl rfl 3 (by decide) (va_Nw.use rfl (kN95 hE.2.1)) (fun _ h9 => h9) rfl dP_out_20 ?_
      refine x_imul (v := nI (3 * (tr i))) hx hb dP_out_23 (pk_mul _ _) ?_
      refine lv_aload_n hx hb dP_out_24 rfl (lv_at hl 0 rfl) ?_
      refine va_getN (D := D) (ci := 0) (v := .int (nI (ta i))) (C := RT) (T := FT) (N := 4) hx hb hT inT hown hK hP 2 rfl rfl 2 (by decide) (va_Nw.use rfl (kN84 hE.2.1)) (fun _ h9 => h9) rfl dP_out_25 ?_
      refine x_cge (a := 3 * (tr i)) (b := ta i) (tgt := 35) hx hb dP_out_28 (by decide) (by omega) (by omega) (fun h4 => ?_) (fun h4 => ?_)
      · refine lv_iconst (v := nI 0) hx hb dP_out_35 (by decide) ?_
        exact W.zret (v := nI 0) hx hb hr (by decide) (fun t ht hW => ⟨congrArg (fun z => Outcome.returned (some (Value.int (nI z)))) (by rw [h1 i hi rfl, if_neg (by omega)]), ht⟩) (fun q h => absurd h List.not_mem_nil) dP_out_36
      · refine lv_iconst (v := nI 1) hx hb dP_out_31 (by decide) ?_
        refine lv_goto (tgt := 36) hx hb dP_out_32 (by decide) ?_
        exact W.zret (v := nI 1) hx hb hr (by decide) (fun t ht hW => ⟨congrArg (fun z => Outcome.returned (some (Value.int (nI z)))) (by rw [h1 i hi rfl, if_pos (by omega)]), ht⟩) (fun q h => absurd h List.not_mem_nil) dP_out_36
theorem m1_ne {m : Nat} (h : m < 2 ^ 31) : ¬ nI m = -1 := fun q => absurd (show nI m < 0 by rw [q]; decide) (nI_pos h)
set_option maxHeartbeats 400000 in
set_option maxRecDepth 100000 in
theorem c_P_threshold (l : Launch) (D : va_G) (κ : Nat → ClassId) (base : Nat) (H0 : Heap) {a : Nat} {sd : Int64} {nT nS : Nat} {bT bS : Nat → Nat} {td fd : Nat → Nat → Nat} {ta tr kd sp ca cr : Nat → Nat} {od aw rk : Nat → Nat → Nat} (hR : RC D κ base a sd nT nS bT bS td fd ta tr kd sp ca cr od aw rk H0) (x : Int32) (r : UInt64) (h0 : noT nT x → r = 13830554455654793216) (h1 : ∀ i, i < nT → x = nI i → r = thC (td i) (fd i) 16 none) : Met l yP_threshold wP_threshold ({ frames := 1, cells := 0, slots := 0, locals := 21 }) (Pq D κ base [.ref a, .int x] H0) (q_P (some (.double r))) 0 0 (fun _ => False) := by
  refine Met.ofW (cc := bP_threshold) (maxL := 5) (ret := (some FieldType.double)) (by decide) rfl ?_
  intro p e s m args below meth c s₁ B hml hv
  obtain ⟨rfl, hH, hE⟩ := hv
  subst hH
  have hx := B.exec
  have hb := B.bytes
  have hr := B.returns
  have hT : ∀ w ∈ TT, w.before _ s = true := fun w h => atoms_spec (ws := wP_threshold) B.pre w (List.mem_cons_of_mem _ h)
  have hown : s.vm.findClass "TasterPanels" = some m.cls := findClass_of_methodNamed B.named
  have hlocks := B.notSynchronized
  have hK := hE.1
  have hS : va_S (fun q => base ≤ q) s.heap s.heap [] := va_S.rf
  have hAb : ∀ q : Nat, (fun q : Nat => base ≤ q) q → base ≤ q := fun _ h => h
  have hl := lv_entry ([.ref a, .int x]) (n := 5) (Nat.le_of_ble_eq_true rfl)
  rw [lg_entry_eq]
  generalize (lg_sl ([.ref a, .int x]) ++ List.replicate (5 - (lg_sl ([.ref a, .int x])).length) Slot.unset).toArray = ls at hl ⊢
  have hl : lv_has ls 5 [(0, .ref a), (1, .int x)] := hl
  obtain ⟨⟨fT, fS, mx, sw, hP, hfT, hfS⟩, hTas, hTes, hbd⟩ := hR
  obtain ⟨⟨hnT, hnS, hba, hah⟩, hb1, hb2, hb3⟩ := hbd
  rcases whoT nT x with e1 | ⟨i, hi, hi26, rfl⟩
  · refine lv_aload_n hx hb dP_threshold_0 rfl (lv_at hl 0 rfl) ?_
    refine lv_iload_n hx hb dP_threshold_1 rfl (lv_at hl 1 rfl) ?_
    refine x_callP (v := .null) (va_runV (As := [.int x]) (rest := []) ⟨hx, hb, hml, hown, hT⟩ (c_P_tasterAt l D κ base s.heap (hP.sub [0, 1] rfl) x .null (fun _ => rfl) (none_at (by decide) (noT_fr e1 hfT))) (cwV 1 hT (TT_V kP56 kiP_tasterAt ksP_tasterAt knP kcP_tasterAt) rfl rfl rfl (by decide +kernel) ⟨Nat.le_of_ble_eq_true rfl, Nat.le_of_ble_eq_true rfl⟩) (pcV hE hS hAb (va_recv hK hP (ci := 2) (q0 := 0) rfl rfl)) rfl rfl hl.1 rfl (lv_room (Nat.le_of_ble_eq_true rfl)) dP_threshold_2 ⟨Nat.le_of_ble_eq_true rfl, Nat.le_of_ble_eq_true rfl⟩) ?_
    refine lv_astore_nN (lv' := [(2, .null), (0, .ref a), (1, .int x)]) hx hb dP_threshold_5 rfl hl (by decide) rfl (fun ls hl => ?_)
    refine lv_aload_nN hx hb dP_threshold_6 rfl (lv_at hl 0 rfl) ?_
    refine lv_ifnonnullN hx hb dP_threshold_7 ?_
    refine lv_ldc2d (v := 13830554455654793216) hx hb hown (hT _ kP134) dP_threshold_10 ?_
    exact W.dret (v := 13830554455654793216) hx hb hr (fun t ht hW => ⟨by rw [h0 e1], ht⟩) (fun q h => absurd h List.not_mem_nil) dP_threshold_13
  · have hP : va_P D vwCl [(a, .inr (2, [.long sd, .ref (a + 1), .ref (a + 2), .int (nI nT), .int (nI nS), .ref (a + 3), .ref (a + 4)])), ((a + 1), .inl (κ 3, 26, .inr (.inr (.inr (.inr fT))))), ((bT i), .inr (0, [.ref ((bT i) + 1), .ref ((bT i) + 2), .int (nI (ta i)), .int (nI (tr i))])), (((bT i) + 1), .inl (κ 1, 16, .inl (fun k => nI (td i k)))), (((bT i) + 2), .inl (κ 1, 16, .inl (fun k => nI (fd i k))))] s.heap := va_P.app (hP.sub [0, 1] rfl) ((hTas i hi).sub [0, 1, 2] rfl)
    obtain ⟨-, -, ht3⟩ := hb2 i hi
    have hr1 := h1 i hi rfl
    have loop : ∀ (fu : Nat) (k : Nat) (lst : Option Nat), (k ≤ 16) → (∀ m, lst = some m → m < 16) → (thC (td i) (fd i) k lst = thC (td i) (fd i) 16 none) → k < fu → ∀ ls : Array Slot, lv_has ls 5 [(0, .ref a), (1, .int (nI i)), (2, .ref (bT i)), (3, .int (lstI lst)), (4, .int (nI k - 1))] → W p l e (headSpec wP_threshold ({ frames := 1, cells := 0, slots := 0, locals := 21 })).room s m ([.ref a, .int (nI i)] : List Value).toArray below meth c s.heap [] 0 0 (MQ below (q_P (some (.double r))) ([.ref a, .int (nI i)] : List Value).toArray s 0 0 (fun _ => False)) (F0 m 20 ls []) := by
      intro fu
      induction fu with
      | zero =>
        intro k lst hk hlst heq hmu
        exact absurd hmu (Nat.not_lt_zero _)
      | succ fu ih =>
        intro k lst hk hlst heq hmu ls hl
        rcases k with _ | k
        · refine lv_iload hx hb dP_threshold_20 (lv_at hl 4 rfl) ?_
          refine lv_if_lt (tgt := 96) hx hb dP_threshold_22 (by decide) (fun h2 => ?_) (fun h2 => absurd (by decide) h2)
          rcases lst with _ | m
          · refine lv_iload_n hx hb dP_threshold_96 rfl (lv_at hl 3 rfl) ?_
            refine lv_iconst (v := -1) hx hb dP_threshold_97 (by decide) ?_
            refine lv_icmp_ne (tgt := 105) hx hb dP_threshold_98 (by decide) (fun h3 => absurd rfl h3) (fun h3 => ?_)
            refine lv_dconst0 hx hb dP_threshold_101 ?_
            refine lv_goto (tgt := 113) hx hb dP_threshold_102 (by decide) ?_
            exact W.dret (v := FP.dconst0) hx hb hr (fun t ht hW => ⟨by rw [hr1, ← heq]; rfl, ht⟩) (fun q h => absurd h List.not_mem_nil) dP_threshold_113
          · have hm := hlst m rfl
            refine lv_iload_n hx hb dP_threshold_96 rfl (lv_at hl 3 rfl) ?_
            refine x_topi (y := nI m) (rfl) ?_
            refine lv_iconst (v := -1) hx hb dP_threshold_97 (by decide) ?_
            refine lv_icmp_ne (tgt := 105) hx hb dP_threshold_98 (by decide) (fun h4 => ?_) (fun h4 => absurd h4 (m1_ne (by omega)))
            refine lv_iload_n hx hb dP_threshold_105 rfl (lv_at hl 3 rfl) ?_
            refine x_topi (y := nI m) (rfl) ?_
            refine x_callP (v := .double (strv m)) (va_runS (As := [.int (nI m)]) (rest := []) ⟨hx, hb, hml, hown, hT⟩ (c_P_strength l D κ base s.heap m hm) (va_cwS 1 hT (TT_S kP142 ktP_strength knP kcP_strength) rfl rfl rfl (by decide +kernel) ⟨Nat.le_of_ble_eq_true rfl, Nat.le_of_ble_eq_true rfl⟩) (pcS hE hS hAb) rfl rfl hl.1 rfl (lv_room (Nat.le_of_ble_eq_true rfl)) dP_threshold_106 ⟨Nat.le_of_ble_eq_true rfl, Nat.le_of_ble_eq_true rfl⟩) ?_
            refine lv_ldc2d (v := 4611686018427387904) hx hb hown (hT _ kP146) dP_threshold_109 ?_
            refine lv_ddiv hx hb dP_threshold_112 (th2 m hm) ?_
            exact W.dret (v := FP.ddiv (strv m) 4611686018427387904) hx hb hr (fun t ht hW => ⟨by rw [hr1, ← heq]; rfl, ht⟩) (fun q h => absurd h List.not_mem_nil) dP_threshold_113
        · rw [nI_pred] at hl
          obtain ⟨hk1, hk2⟩ := ht3 k (by omega)
          refine lv_iload hx hb dP_threshold_20 (lv_at hl 4 rfl) ?_
          refine x_zlt (a := k) (tgt := 96) hx hb dP_threshold_22 (by decide) (by omega) ?_
          refine lv_aload_n hx hb dP_threshold_25 rfl (lv_at hl 2 rfl) ?_
          refine va_getN (D := D) (ci := 0) (v := .ref ((bT i) + 1)) (C := RT) (T := FT) (N := 4) hx hb hT inT hown hK hP 2 rfl rfl 0 (by decide) (va_Nw.use rfl (kN136 hE.2.1)) (fun _ h9 => h9) rfl dP_threshold_26 ?_
          refine lv_iload hx hb dP_threshold_29 (lv_at hl 4 rfl) ?_
          refine x_zald hx hb hK hP 3 1 (j := k) (v := nI (td i k)) rfl rfl (by omega) (by decide) (rfl) dP_threshold_31 ?_
          refine x_zeq (a := td i k) (tgt := 77) hx hb dP_threshold_32 (by decide) (by omega) (fun g1 => ?_) (fun g1 => ?_)
          · refine lv_aload_n hx hb dP_threshold_77 rfl (lv_at hl 2 rfl) ?_
            refine va_getN (D := D) (ci := 0) (v := .ref ((bT i) + 1)) (C := RT) (T := FT) (N := 4) hx hb hT inT hown hK hP 2 rfl rfl 0 (by decide) (va_Nw.use rfl (kN136 hE.2.1)) (fun _ h9 => h9) rfl dP_threshold_78 ?_
            refine lv_iload hx hb dP_threshold_81 (lv_at hl 4 rfl) ?_
            refine x_zald hx hb hK hP 3 1 (j := k) (v := nI (td i k)) rfl rfl (by omega) (by decide) (rfl) dP_threshold_83 ?_
            refine x_zeq (a := td i k) (tgt := 90) hx hb dP_threshold_84 (by decide) (by omega) (fun h6 => ?_) (fun h6 => absurd g1 h6)
            refine lv_iinc (v := nI k - 1) (lv' := [(4, .int (nI k - 1)), (0, .ref a), (1, .int (nI i)), (2, .ref (bT i)), (3, .int (lstI lst))]) hx hb dP_threshold_90 hl (k := 4) rfl (addm1 _) (by decide) rfl (fun ls hl => ?_)
            refine lv_goto (tgt := 20) hx hb dP_threshold_93 (by decide) ?_
            exact ih k lst (by omega) hlst (by cases lst <;> rw [← heq, thC, if_pos g1]) (by omega) ls (lv_sub hl [1, 2, 3, 4, 0] rfl)
          · refine lv_aload_n hx hb dP_threshold_35 rfl (lv_at hl 2 rfl) ?_
            refine va_getN (D := D) (ci := 0) (v := .ref ((bT i) + 2)) (C := RT) (T := FT) (N := 4) hx hb hT inT hown hK hP 2 rfl rfl 1 (by decide) (va_Nw.use rfl (kN139 hE.2.1)) (fun _ h9 => h9) rfl dP_threshold_36 ?_
            refine lv_iload hx hb dP_threshold_39 (lv_at hl 4 rfl) ?_
            refine x_zald hx hb hK hP 4 1 (j := k) (v := nI (fd i k)) rfl rfl (by omega) (by decide) (rfl) dP_threshold_41 ?_
            refine x_zne (a := fd i k) (tgt := 77) hx hb dP_threshold_42 (by decide) (by omega) (fun g2 => ?_) (fun g2 => ?_)
            · refine lv_aload_n hx hb dP_threshold_77 rfl (lv_at hl 2 rfl) ?_
              refine va_getN (D := D) (ci := 0) (v := .ref ((bT i) + 1)) (C := RT) (T := FT) (N := 4) hx hb hT inT hown hK hP 2 rfl rfl 0 (by decide) (va_Nw.use rfl (kN136 hE.2.1)) (fun _ h9 => h9) rfl dP_threshold_78 ?_
              refine lv_iload hx hb dP_threshold_81 (lv_at hl 4 rfl) ?_
              refine x_zald hx hb hK hP 3 1 (j := k) (v := nI (td i k)) rfl rfl (by omega) (by decide) (rfl) dP_threshold_83 ?_
              refine x_zeq (a := td i k) (tgt := 90) hx hb dP_threshold_84 (by decide) (by omega) (fun h7 => absurd h7 g1) (fun h7 => ?_)
              refine lv_iload hx hb dP_threshold_87 (lv_at hl 4 rfl) ?_
              refine x_topi (y := lstI (some k)) (rfl) ?_
              refine lv_istore_n (lv' := [(3, .int (lstI (some k))), (0, .ref a), (1, .int (nI i)), (2, .ref (bT i)), (4, .int (nI k))]) hx hb dP_threshold_89 rfl hl (by decide) rfl (fun ls hl => ?_)
              refine lv_iinc (v := nI k - 1) (lv' := [(4, .int (nI k - 1)), (3, .int (lstI (some k))), (0, .ref a), (1, .int (nI i)), (2, .ref (bT i))]) hx hb dP_threshold_90 hl (k := 4) rfl (addm1 _) (by decide) rfl (fun ls hl => ?_)
              refine lv_goto (tgt := 20) hx hb dP_threshold_93 (by decide) ?_
              exact ih k (some k) (by omega) (fun m q => by cases q; omega) (by cases lst <;> rw [← heq, thC, if_neg g1, if_neg g2]) (by omega) ls (lv_sub hl [2, 3, 4, 1, 0] rfl)
            · rcases lst with _ | m
              · refine lv_iload_n hx hb dP_threshold_45 rfl (lv_at hl 3 rfl) ?_
                refine lv_iconst (v := -1) hx hb dP_threshold_46 (by decide) ?_
                refine lv_icmp_ne (tgt := 62) hx hb dP_threshold_47 (by decide) (fun h8 => absurd rfl h8) (fun h8 => ?_)
                refine lv_iload hx hb dP_threshold_50 (lv_at hl 4 rfl) ?_
                refine x_callP (v := .double (strv k)) (va_runS (As := [.int (nI k)]) (rest := []) ⟨hx, hb, hml, hown, hT⟩ (c_P_strength l D κ base s.heap k (by omega)) (va_cwS 1 hT (TT_S kP142 ktP_strength knP kcP_strength) rfl rfl rfl (by decide +kernel) ⟨Nat.le_of_ble_eq_true rfl, Nat.le_of_ble_eq_true rfl⟩) (pcS hE hS hAb) rfl rfl hl.1 rfl (lv_room (Nat.le_of_ble_eq_true rfl)) dP_threshold_52 ⟨Nat.le_of_ble_eq_true rfl, Nat.le_of_ble_eq_true rfl⟩) ?_
                refine lv_ldc2d (v := 4611686018427387904) hx hb hown (hT _ kP146) dP_threshold_55 ?_
                refine lv_dmul hx hb dP_threshold_58 (th1 k (by omega)) ?_
                refine lv_goto (tgt := 76) hx hb dP_threshold_59 (by decide) ?_
                exact W.dret (v := FP.dmul (strv k) 4611686018427387904) hx hb hr (fun t ht hW => ⟨by rw [hr1, ← heq, thC, if_neg g1, if_pos g2]; rfl, ht⟩) (fun q h => absurd h List.not_mem_nil) dP_threshold_76
              · have hm := hlst m rfl
                refine lv_iload_n hx hb dP_threshold_45 rfl (lv_at hl 3 rfl) ?_
                refine x_topi (y := nI m) (rfl) ?_
                refine lv_iconst (v := -1) hx hb dP_threshold_46 (by decide) ?_
                refine lv_icmp_ne (tgt := 62) hx hb dP_threshold_47 (by decide) (fun h9 => ?_) (fun h9 => absurd h9 (m1_ne (by omega)))
                refine lv_iload_n hx hb dP_threshold_62 rfl (lv_at hl 3 rfl) ?_
                refine x_topi (y := nI m) (rfl) ?_
                refine x_callP (v := .double (strv m)) (va_runS (As := [.int (nI m)]) (rest := []) ⟨hx, hb, hml, hown, hT⟩ (c_P_strength l D κ base s.heap m hm) (va_cwS 1 hT (TT_S kP142 ktP_strength knP kcP_strength) rfl rfl rfl (by decide +kernel) ⟨Nat.le_of_ble_eq_true rfl, Nat.le_of_ble_eq_true rfl⟩) (pcS hE hS hAb) rfl rfl hl.1 rfl (lv_room (Nat.le_of_ble_eq_true rfl)) dP_threshold_63 ⟨Nat.le_of_ble_eq_true rfl, Nat.le_of_ble_eq_true rfl⟩) ?_
                refine lv_iload hx hb dP_threshold_66 (lv_at hl 4 rfl) ?_
                refine x_callP (v := .double (strv k)) (va_runS (As := [.int (nI k)]) (rest := [.double (strv m)]) ⟨hx, hb, hml, hown, hT⟩ (c_P_strength l D κ base s.heap k (by omega)) (va_cwS 1 hT (TT_S kP142 ktP_strength knP kcP_strength) rfl rfl rfl (by decide +kernel) ⟨Nat.le_of_ble_eq_true rfl, Nat.le_of_ble_eq_true rfl⟩) (pcS hE hS hAb) rfl rfl hl.1 rfl (lv_room (Nat.le_of_ble_eq_true rfl)) dP_threshold_68 ⟨Nat.le_of_ble_eq_true rfl, Nat.le_of_ble_eq_true rfl⟩) ?_
                refine lv_dadd hx hb dP_threshold_71 (th3 m hm k (by omega)) ?_
                refine lv_ldc2d (v := 4611686018427387904) hx hb hown (hT _ kP146) dP_threshold_72 ?_
                refine lv_ddiv hx hb dP_threshold_75 (th4 m hm k (by omega)) ?_
                exact W.dret (v := FP.ddiv (FP.dadd (strv m) (strv k)) 4611686018427387904) hx hb hr (fun t ht hW => ⟨by rw [hr1, ← heq, thC, if_neg g1, if_pos g2]; rfl, ht⟩) (fun q h => absurd h List.not_mem_nil) dP_threshold_76
    refine lv_aload_n hx hb dP_threshold_0 rfl (lv_at hl 0 rfl) ?_
    refine lv_iload_n hx hb dP_threshold_1 rfl (lv_at hl 1 rfl) ?_
    refine x_callP (v := .ref (bT i)) (va_runV (As := [.int (nI i)]) (rest := []) ⟨hx, hb, hml, hown, hT⟩ (c_P_tasterAt l D κ base s.heap (hP.sub [0, 1] rfl) (nI i) (.ref (bT i)) (fun h => at_out (by decide) hi26 h rfl) (some_at (by decide) hi26 (by rw [hfT i hi26, if_pos hi]))) (cwV 1 hT (TT_V kP56 kiP_tasterAt ksP_tasterAt knP kcP_tasterAt) rfl rfl rfl (by decide +kernel) ⟨Nat.le_of_ble_eq_true rfl, Nat.le_of_ble_eq_true rfl⟩) (pcV hE hS hAb (va_recv hK hP (ci := 2) (q0 := 0) rfl rfl)) rfl rfl hl.1 rfl (lv_room (Nat.le_of_ble_eq_true rfl)) dP_threshold_2 ⟨Nat.le_of_ble_eq_true rfl, Nat.le_of_ble_eq_true rfl⟩) ?_
    refine lv_astore_n (lv' := [(2, .ref (bT i)), (0, .ref a), (1, .int (nI i))]) hx hb dP_threshold_5 rfl hl (by decide) rfl (fun ls hl => ?_)
    refine lv_aload_n hx hb dP_threshold_6 rfl (lv_at hl 0 rfl) ?_
    refine lv_ifnonnull (tgt := 14) hx hb dP_threshold_7 (by decide) ?_
    refine lv_iconst (v := -1) hx hb dP_threshold_14 (by decide) ?_
    refine x_topi (y := lstI none) (rfl) ?_
    refine lv_istore_n (lv' := [(3, .int (lstI none)), (2, .ref (bT i)), (0, .ref a), (1, .int (nI i))]) hx hb dP_threshold_15 rfl hl (by decide) rfl (fun ls hl => ?_)
    refine lv_bipush (v := nI 15) hx hb dP_threshold_16 (by decide) ?_
    refine x_topi (y := nI 16 - 1) (by decide) ?_
    refine lv_istore (lv' := [(4, .int (nI 16 - 1)), (3, .int (lstI none)), (2, .ref (bT i)), (0, .ref a), (1, .int (nI i))]) hx hb dP_threshold_18 hl (by decide) rfl (fun ls hl => ?_)
    exact loop 17 16 none (by omega) (fun m q => by cases q) rfl (by omega) ls (lv_sub hl [3, 4, 2, 1, 0] rfl)
end
section
/-! chance, size, row (where it answers) -/
theorem lpos (u : Int64) : u < lN 1 ∨ ∃ A : Nat, 1 ≤ A ∧ A < 2 ^ 63 ∧ u = lN A := by
  by_cases h : u < lN 1
  · exact Or.inl h
  · obtain ⟨k, hk, e⟩ := pk_lOf (x := u) (fun q => h (Int64.lt_trans q (by decide)))
    subst e
    refine Or.inr ⟨k, ?_, hk, rfl⟩
    rcases Nat.eq_zero_or_pos k with h1 | h1
    · subst h1
      exact absurd (by decide) h
    · exact h1
set_option maxHeartbeats 400000 in
set_option maxRecDepth 100000 in
theorem c_P_chance (l : Launch) (D : va_G) (κ : Nat → ClassId) (base : Nat) (H0 : Heap) {a : Nat} {sd : Int64} {nT nS : Nat} {bT bS : Nat → Nat} {td fd : Nat → Nat → Nat} {ta tr kd sp ca cr : Nat → Nat} {od aw rk : Nat → Nat → Nat} (hR : RC D κ base a sd nT nS bT bS td fd ta tr kd sp ca cr od aw rk H0) (x y : Int32) (r : Int64) (h0 : noS nS x → r = -1) (h1 : ∀ j, j < nS → x = nI j → (kd j = 3 ∨ ca j = 0) → r = -1) (h2 : (¬ y = 0 ∧ ¬ y = 1) → r = -1) (h3 : ∀ j p, j < nS → x = nI j → ¬ kd j = 3 → ¬ ca j = 0 → p < 2 → y = nI p → r = lN (rdp (pw_ways (cr j) (ca j) (sp j)) (sp j ^ ca j) p)) : Met l yP_chance wP_chance ({ frames := 2, cells := 0, slots := 0, locals := 56 }) (Pq D κ base [.ref a, .int x, .int y] H0) (q_P (some (.long r))) 0 0 (fun _ => False) := by
  refine Met.ofW (cc := bP_chance) (maxL := 6) (ret := (some FieldType.long)) (by decide) rfl ?_
  intro p e s m args below meth c s₁ B hml hv
  obtain ⟨rfl, hH, hE⟩ := hv
  subst hH
  have hx := B.exec
  have hb := B.bytes
  have hr := B.returns
  have hT : ∀ w ∈ TT, w.before _ s = true := fun w h => atoms_spec (ws := wP_chance) B.pre w (List.mem_cons_of_mem _ h)
  have hown : s.vm.findClass "TasterPanels" = some m.cls := findClass_of_methodNamed B.named
  have hlocks := B.notSynchronized
  have hK := hE.1
  have hS : va_S (fun q => base ≤ q) s.heap s.heap [] := va_S.rf
  have hAb : ∀ q : Nat, (fun q : Nat => base ≤ q) q → base ≤ q := fun _ h => h
  have hl := lv_entry ([.ref a, .int x, .int y]) (n := 6) (Nat.le_of_ble_eq_true rfl)
  rw [lg_entry_eq]
  generalize (lg_sl ([.ref a, .int x, .int y]) ++ List.replicate (6 - (lg_sl ([.ref a, .int x, .int y])).length) Slot.unset).toArray = ls at hl ⊢
  have hl : lv_has ls 6 [(0, .ref a), (1, .int x), (2, .int y)] := hl
  obtain ⟨⟨fT, fS, mx, sw, hP, hfT, hfS⟩, hTas, hTes, hbd⟩ := hR
  obtain ⟨⟨hnT, hnS, hba, hah⟩, hb1, hb2, hb3⟩ := hbd
  rcases whoS nS x with e1 | ⟨j, hj, hj4, rfl⟩
  · refine lv_aload_n hx hb dP_chance_0 rfl (lv_at hl 0 rfl) ?_
    refine lv_iload_n hx hb dP_chance_1 rfl (lv_at hl 1 rfl) ?_
    refine x_callP (v := .null) (va_runV (As := [.int x]) (rest := []) ⟨hx, hb, hml, hown, hT⟩ (c_P_differenceAt_none l D κ base s.heap (hP.sub [0, 2] rfl) x (noS_fr e1 hfS)) (cwV 1 hT (TT_V kP71 kiP_differenceAt ksP_differenceAt knP kcP_differenceAt) rfl rfl rfl (by decide +kernel) ⟨Nat.le_of_ble_eq_true rfl, Nat.le_of_ble_eq_true rfl⟩) (pcV hE hS hAb (va_recv hK hP (ci := 2) (q0 := 0) rfl rfl)) rfl rfl hl.1 rfl (lv_room (Nat.le_of_ble_eq_true rfl)) dP_chance_2 ⟨Nat.le_of_ble_eq_true rfl, Nat.le_of_ble_eq_true rfl⟩) ?_
    refine lv_astore_nN (lv' := [(3, .null), (0, .ref a), (1, .int x), (2, .int y)]) hx hb dP_chance_5 rfl hl (by decide) rfl (fun ls hl => ?_)
    refine lv_aload_nN hx hb dP_chance_6 rfl (lv_at hl 0 rfl) ?_
    refine lv_ifnullN (tgt := 24) hx hb dP_chance_7 (by decide) ?_
    refine lv_ldc2 (v := -1) hx hb hown (hT _ kP100) dP_chance_24 ?_
    refine x_topl (y := r) ((h0 e1).symm) ?_
    exact W.lret (v := r) hx hb hr (fun t ht hW => ⟨rfl, ht⟩) (fun q h => absurd h List.not_mem_nil) dP_chance_27
  · have hP : va_P D vwCl [(a, .inr (2, [.long sd, .ref (a + 1), .ref (a + 2), .int (nI nT), .int (nI nS), .ref (a + 3), .ref (a + 4)])), ((a + 2), .inl (κ 4, 40, .inr (.inr (.inr (.inr fS))))), ((bS j), .inr (1, [.int (nI (kd j)), .int (nI (sp j)), .ref ((bS j) + 1), .ref ((bS j) + 2), .ref ((bS j) + 3), .int (nI (ca j)), .int (nI (cr j))]))] s.heap := va_P.app (hP.sub [0, 2] rfl) ((hTes j hj).sub [0] rfl)
    obtain ⟨hok, hca, hcr, -, -⟩ := hb1 j hj
    by_cases hk : kd j = 3
    · refine lv_aload_n hx hb dP_chance_0 rfl (lv_at hl 0 rfl) ?_
      refine lv_iload_n hx hb dP_chance_1 rfl (lv_at hl 1 rfl) ?_
      refine x_callP (v := .null) (va_runV (As := [.int (nI j)]) (rest := []) ⟨hx, hb, hml, hown, hT⟩ (c_P_differenceAt_some l D κ base s.heap (hP.sub [0, 1, 2] rfl) j hj4 (by rw [hfS j hj4, if_pos hj]) (hb1 j hj).1.lt.1 (.null) (fun _ => rfl) (fun q => absurd hk q)) (cwV 1 hT (TT_V kP71 kiP_differenceAt ksP_differenceAt knP kcP_differenceAt) rfl rfl rfl (by decide +kernel) ⟨Nat.le_of_ble_eq_true rfl, Nat.le_of_ble_eq_true rfl⟩) (pcV hE hS hAb (va_recv hK hP (ci := 2) (q0 := 0) rfl rfl)) rfl rfl hl.1 rfl (lv_room (Nat.le_of_ble_eq_true rfl)) dP_chance_2 ⟨Nat.le_of_ble_eq_true rfl, Nat.le_of_ble_eq_true rfl⟩) ?_
      refine lv_astore_nN (lv' := [(3, .null), (0, .ref a), (1, .int (nI j)), (2, .int y)]) hx hb dP_chance_5 rfl hl (by decide) rfl (fun ls hl => ?_)
      refine lv_aload_nN hx hb dP_chance_6 rfl (lv_at hl 0 rfl) ?_
      refine lv_ifnullN (tgt := 24) hx hb dP_chance_7 (by decide) ?_
      refine lv_ldc2 (v := -1) hx hb hown (hT _ kP100) dP_chance_24 ?_
      refine x_topl (y := r) ((h1 j hj rfl (Or.inl hk)).symm) ?_
      exact W.lret (v := r) hx hb hr (fun t ht hW => ⟨rfl, ht⟩) (fun q h => absurd h List.not_mem_nil) dP_chance_27
    · have h23 := sp23 hok hk
      refine lv_aload_n hx hb dP_chance_0 rfl (lv_at hl 0 rfl) ?_
      refine lv_iload_n hx hb dP_chance_1 rfl (lv_at hl 1 rfl) ?_
      refine x_callP (v := .ref (bS j)) (va_runV (As := [.int (nI j)]) (rest := []) ⟨hx, hb, hml, hown, hT⟩ (c_P_differenceAt_some l D κ base s.heap (hP.sub [0, 1, 2] rfl) j hj4 (by rw [hfS j hj4, if_pos hj]) (hb1 j hj).1.lt.1 (.ref (bS j)) (fun q => absurd q hk) (fun _ => rfl)) (cwV 1 hT (TT_V kP71 kiP_differenceAt ksP_differenceAt knP kcP_differenceAt) rfl rfl rfl (by decide +kernel) ⟨Nat.le_of_ble_eq_true rfl, Nat.le_of_ble_eq_true rfl⟩) (pcV hE hS hAb (va_recv hK hP (ci := 2) (q0 := 0) rfl rfl)) rfl rfl hl.1 rfl (lv_room (Nat.le_of_ble_eq_true rfl)) dP_chance_2 ⟨Nat.le_of_ble_eq_true rfl, Nat.le_of_ble_eq_true rfl⟩) ?_
      refine lv_astore_n (lv' := [(3, .ref (bS j)), (0, .ref a), (1, .int (nI j)), (2, .int y)]) hx hb dP_chance_5 rfl hl (by decide) rfl (fun ls hl => ?_)
      refine lv_aload_n hx hb dP_chance_6 rfl (lv_at hl 0 rfl) ?_
      refine lv_ifnull hx hb dP_chance_7 ?_
      refine lv_aload_n hx hb dP_chance_10 rfl (lv_at hl 0 rfl) ?_
      refine va_getN (D := D) (ci := 1) (v := .int (nI (ca j))) (C := RS) (T := FS) (N := 7) hx hb hT inS hown hK hP 2 rfl rfl 5 (by decide) (va_Nw.use rfl (kN81 hE.2.1)) (fun _ h9 => h9) rfl dP_chance_11 ?_
      refine x_zeq (a := ca j) (tgt := 24) hx hb dP_chance_14 (by decide) (by omega) (fun g1 => ?_) (fun g1 => ?_)
      · refine lv_ldc2 (v := -1) hx hb hown (hT _ kP100) dP_chance_24 ?_
        refine x_topl (y := r) ((h1 j hj rfl (Or.inr g1)).symm) ?_
        exact W.lret (v := r) hx hb hr (fun t ht hW => ⟨rfl, ht⟩) (fun q h => absurd h List.not_mem_nil) dP_chance_27
      · refine lv_iload_n hx hb dP_chance_17 rfl (lv_at hl 3 rfl) ?_
        by_cases e2 : y = nI 0
        · subst e2
          refine x_callP (v := .int (nI 1)) (va_runS (As := [.int (nI 0)]) (rest := []) ⟨hx, hb, hml, hown, hT⟩ (c_P_isPart l D κ base s.heap (nI 0) 1 (by decide)) (va_cwS 1 hT (TT_S kP96 ktP_isPart knP kcP_isPart) rfl rfl rfl (by decide +kernel) ⟨Nat.le_of_ble_eq_true rfl, Nat.le_of_ble_eq_true rfl⟩) (pcS hE hS hAb) rfl rfl hl.1 rfl (lv_room (Nat.le_of_ble_eq_true rfl)) dP_chance_18 ⟨Nat.le_of_ble_eq_true rfl, Nat.le_of_ble_eq_true rfl⟩) ?_
          refine x_zne (a := 1) (tgt := 28) hx hb dP_chance_21 (by decide) (by omega) (fun h4 => ?_) (fun h4 => absurd h4 (by decide))
          refine lv_aload_n hx hb dP_chance_28 rfl (lv_at hl 0 rfl) ?_
          refine va_getN (D := D) (ci := 1) (v := .int (nI (cr j))) (C := RS) (T := FS) (N := 7) hx hb hT inS hown hK hP 2 rfl rfl 6 (by decide) (va_Nw.use rfl (kN92 hE.2.1)) (fun _ h9 => h9) rfl dP_chance_29 ?_
          refine lv_aload_n hx hb dP_chance_32 rfl (lv_at hl 0 rfl) ?_
          refine va_getN (D := D) (ci := 1) (v := .int (nI (ca j))) (C := RS) (T := FS) (N := 7) hx hb hT inS hown hK hP 2 rfl rfl 5 (by decide) (va_Nw.use rfl (kN81 hE.2.1)) (fun _ h9 => h9) rfl dP_chance_33 ?_
          refine lv_aload_n hx hb dP_chance_36 rfl (lv_at hl 0 rfl) ?_
          refine va_getN (D := D) (ci := 1) (v := .int (nI (sp j))) (C := RS) (T := FS) (N := 7) hx hb hT inS hown hK hP 2 rfl rfl 1 (by decide) (va_Nw.use rfl (kN74 hE.2.1)) (fun _ h9 => h9) rfl dP_chance_37 ?_
          refine x_callP (v := .long (lN (pw_ways (cr j) (ca j) (sp j)))) (va_runS (As := [.int (nI (cr j)), .int (nI (ca j)), .int (nI (sp j))]) (rest := []) ⟨hx, hb, hml, hown, hT⟩ (c_P_waysOfAtLeast l D κ base s.heap (cr j) (ca j) (sp j) (by omega) (by omega) h23) (va_cwS 3 hT (TT_S kP102 ktP_waysOfAtLeast knP kcP_waysOfAtLeast) rfl rfl rfl (by decide +kernel) ⟨Nat.le_of_ble_eq_true rfl, Nat.le_of_ble_eq_true rfl⟩) (pcS hE hS hAb) rfl rfl hl.1 rfl (lv_room (Nat.le_of_ble_eq_true rfl)) dP_chance_40 ⟨Nat.le_of_ble_eq_true rfl, Nat.le_of_ble_eq_true rfl⟩) ?_
          refine lv_lstore (lv' := [(4, .long (lN (pw_ways (cr j) (ca j) (sp j)))), (3, .ref (bS j)), (0, .ref a), (1, .int (nI j)), (2, .int (nI 0))]) hx hb dP_chance_43 hl (by decide) rfl (fun ls hl => ?_)
          refine lv_lload hx hb dP_chance_45 (lv_at hl 0 rfl) ?_
          refine lv_aload_n hx hb dP_chance_47 rfl (lv_at hl 1 rfl) ?_
          refine va_getN (D := D) (ci := 1) (v := .int (nI (sp j))) (C := RS) (T := FS) (N := 7) hx hb hT inS hown hK hP 2 rfl rfl 1 (by decide) (va_Nw.use rfl (kN74 hE.2.1)) (fun _ h9 => h9) rfl dP_chance_48 ?_
          refine lv_aload_n hx hb dP_chance_51 rfl (lv_at hl 1 rfl) ?_
          refine va_getN (D := D) (ci := 1) (v := .int (nI (ca j))) (C := RS) (T := FS) (N := 7) hx hb hT inS hown hK hP 2 rfl rfl 5 (by decide) (va_Nw.use rfl (kN81 hE.2.1)) (fun _ h9 => h9) rfl dP_chance_52 ?_
          refine x_callP (v := .long (lN (sp j ^ ca j))) (va_runS (As := [.int (nI (sp j)), .int (nI (ca j))]) (rest := [.long (lN (pw_ways (cr j) (ca j) (sp j)))]) ⟨hx, hb, hml, hown, hT⟩ (c_P_power l D κ base s.heap (sp j) (ca j) (by omega) (by omega)) (va_cwS 2 hT (TT_S kP106 ktP_power knP kcP_power) rfl rfl rfl (by decide +kernel) ⟨Nat.le_of_ble_eq_true rfl, Nat.le_of_ble_eq_true rfl⟩) (pcS hE hS hAb) rfl rfl hl.1 rfl (lv_room (Nat.le_of_ble_eq_true rfl)) dP_chance_55 ⟨Nat.le_of_ble_eq_true rfl, Nat.le_of_ble_eq_true rfl⟩) ?_
          refine lv_iload_n hx hb dP_chance_58 rfl (lv_at hl 4 rfl) ?_
          have hw := pw_lt (r := cr j) (show ca j < 27 by omega) (by omega) h23
          have hp2 := pp_lt (show ca j < 27 by omega) h23
          refine x_callP (v := .long (lN (rdp (pw_ways (cr j) (ca j) (sp j)) (sp j ^ ca j) 0))) (va_runS (As := [.long (lN (pw_ways (cr j) (ca j) (sp j))), .long (lN (sp j ^ ca j)), .int (nI 0)]) (rest := []) ⟨hx, hb, hml, hown, hT⟩ (c_P_reducedPart l D κ base s.heap (pw_ways (cr j) (ca j) (sp j)) (sp j ^ ca j) 0 (by omega) hp2 (Nat.pow_pos (by omega)) (by decide)) (va_cwS 3 hT (TT_S kP110 ktP_reducedPart knP kcP_reducedPart) rfl rfl rfl (by decide +kernel) ⟨Nat.le_of_ble_eq_true rfl, Nat.le_of_ble_eq_true rfl⟩) (pcS hE hS hAb) rfl rfl hl.1 rfl (lv_room (Nat.le_of_ble_eq_true rfl)) dP_chance_59 ⟨Nat.le_of_ble_eq_true rfl, Nat.le_of_ble_eq_true rfl⟩) ?_
          refine x_topl (y := r) ((h3 j 0 hj rfl hk g1 (by decide) rfl).symm) ?_
          exact W.lret (v := r) hx hb hr (fun t ht hW => ⟨rfl, ht⟩) (fun q h => absurd h List.not_mem_nil) dP_chance_62
        · by_cases e3 : y = nI 1
          · subst e3
            refine x_callP (v := .int (nI 1)) (va_runS (As := [.int (nI 1)]) (rest := []) ⟨hx, hb, hml, hown, hT⟩ (c_P_isPart l D κ base s.heap (nI 1) 1 (by decide)) (va_cwS 1 hT (TT_S kP96 ktP_isPart knP kcP_isPart) rfl rfl rfl (by decide +kernel) ⟨Nat.le_of_ble_eq_true rfl, Nat.le_of_ble_eq_true rfl⟩) (pcS hE hS hAb) rfl rfl hl.1 rfl (lv_room (Nat.le_of_ble_eq_true rfl)) dP_chance_18 ⟨Nat.le_of_ble_eq_true rfl, Nat.le_of_ble_eq_true rfl⟩) ?_
            refine x_zne (a := 1) (tgt := 28) hx hb dP_chance_21 (by decide) (by omega) (fun h5 => ?_) (fun h5 => absurd h5 (by decide))
            refine lv_aload_n hx hb dP_chance_28 rfl (lv_at hl 0 rfl) ?_
            refine va_getN (D := D) (ci := 1) (v := .int (nI (cr j))) (C := RS) (T := FS) (N := 7) hx hb hT inS hown hK hP 2 rfl rfl 6 (by decide) (va_Nw.use rfl (kN92 hE.2.1)) (fun _ h9 => h9) rfl dP_chance_29 ?_
            refine lv_aload_n hx hb dP_chance_32 rfl (lv_at hl 0 rfl) ?_
            refine va_getN (D := D) (ci := 1) (v := .int (nI (ca j))) (C := RS) (T := FS) (N := 7) hx hb hT inS hown hK hP 2 rfl rfl 5 (by decide) (va_Nw.use rfl (kN81 hE.2.1)) (fun _ h9 => h9) rfl dP_chance_33 ?_
            refine lv_aload_n hx hb dP_chance_36 rfl (lv_at hl 0 rfl) ?_
            refine va_getN (D := D) (ci := 1) (v := .int (nI (sp j))) (C := RS) (T := FS) (N := 7) hx hb hT inS hown hK hP 2 rfl rfl 1 (by decide) (va_Nw.use rfl (kN74 hE.2.1)) (fun _ h9 => h9) rfl dP_chance_37 ?_
            refine x_callP (v := .long (lN (pw_ways (cr j) (ca j) (sp j)))) (va_runS (As := [.int (nI (cr j)), .int (nI (ca j)), .int (nI (sp j))]) (rest := []) ⟨hx, hb, hml, hown, hT⟩ (c_P_waysOfAtLeast l D κ base s.heap (cr j) (ca j) (sp j) (by omega) (by omega) h23) (va_cwS 3 hT (TT_S kP102 ktP_waysOfAtLeast knP kcP_waysOfAtLeast) rfl rfl rfl (by decide +kernel) ⟨Nat.le_of_ble_eq_true rfl, Nat.le_of_ble_eq_true rfl⟩) (pcS hE hS hAb) rfl rfl hl.1 rfl (lv_room (Nat.le_of_ble_eq_true rfl)) dP_chance_40 ⟨Nat.le_of_ble_eq_true rfl, Nat.le_of_ble_eq_true rfl⟩) ?_
            refine lv_lstore (lv' := [(4, .long (lN (pw_ways (cr j) (ca j) (sp j)))), (3, .ref (bS j)), (0, .ref a), (1, .int (nI j)), (2, .int (nI 1))]) hx hb dP_chance_43 hl (by decide) rfl (fun ls hl => ?_)
            refine lv_lload hx hb dP_chance_45 (lv_at hl 0 rfl) ?_
            refine lv_aload_n hx hb dP_chance_47 rfl (lv_at hl 1 rfl) ?_
            refine va_getN (D := D) (ci := 1) (v := .int (nI (sp j))) (C := RS) (T := FS) (N := 7) hx hb hT inS hown hK hP 2 rfl rfl 1 (by decide) (va_Nw.use rfl (kN74 hE.2.1)) (fun _ h9 => h9) rfl dP_chance_48 ?_
            refine lv_aload_n hx hb dP_chance_51 rfl (lv_at hl 1 rfl) ?_
            refine va_getN (D := D) (ci := 1) (v := .int (nI (ca j))) (C := RS) (T := FS) (N := 7) hx hb hT inS hown hK hP 2 rfl rfl 5 (by decide) (va_Nw.use rfl (kN81 hE.2.1)) (fun _ h9 => h9) rfl dP_chance_52 ?_
            refine x_callP (v := .long (lN (sp j ^ ca j))) (va_runS (As := [.int (nI (sp j)), .int (nI (ca j))]) (rest := [.long (lN (pw_ways (cr j) (ca j) (sp j)))]) ⟨hx, hb, hml, hown, hT⟩ (c_P_power l D κ base s.heap (sp j) (ca j) (by omega) (by omega)) (va_cwS 2 hT (TT_S kP106 ktP_power knP kcP_power) rfl rfl rfl (by decide +kernel) ⟨Nat.le_of_ble_eq_true rfl, Nat.le_of_ble_eq_true rfl⟩) (pcS hE hS hAb) rfl rfl hl.1 rfl (lv_room (Nat.le_of_ble_eq_true rfl)) dP_chance_55 ⟨Nat.le_of_ble_eq_true rfl, Nat.le_of_ble_eq_true rfl⟩) ?_
            refine lv_iload_n hx hb dP_chance_58 rfl (lv_at hl 4 rfl) ?_
            have hw := pw_lt (r := cr j) (show ca j < 27 by omega) (by omega) h23
            have hp2 := pp_lt (show ca j < 27 by omega) h23
            refine x_callP (v := .long (lN (rdp (pw_ways (cr j) (ca j) (sp j)) (sp j ^ ca j) 1))) (va_runS (As := [.long (lN (pw_ways (cr j) (ca j) (sp j))), .long (lN (sp j ^ ca j)), .int (nI 1)]) (rest := []) ⟨hx, hb, hml, hown, hT⟩ (c_P_reducedPart l D κ base s.heap (pw_ways (cr j) (ca j) (sp j)) (sp j ^ ca j) 1 (by omega) hp2 (Nat.pow_pos (by omega)) (by decide)) (va_cwS 3 hT (TT_S kP110 ktP_reducedPart knP kcP_reducedPart) rfl rfl rfl (by decide +kernel) ⟨Nat.le_of_ble_eq_true rfl, Nat.le_of_ble_eq_true rfl⟩) (pcS hE hS hAb) rfl rfl hl.1 rfl (lv_room (Nat.le_of_ble_eq_true rfl)) dP_chance_59 ⟨Nat.le_of_ble_eq_true rfl, Nat.le_of_ble_eq_true rfl⟩) ?_
            refine x_topl (y := r) ((h3 j 1 hj rfl hk g1 (by decide) rfl).symm) ?_
            exact W.lret (v := r) hx hb hr (fun t ht hW => ⟨rfl, ht⟩) (fun q h => absurd h List.not_mem_nil) dP_chance_62
          · refine x_callP (v := .int (nI 0)) (va_runS (As := [.int y]) (rest := []) ⟨hx, hb, hml, hown, hT⟩ (c_P_isPart l D κ base s.heap y 0 (by rw [if_neg]; intro q; rcases q with q | q; exact e2 q; exact e3 q)) (va_cwS 1 hT (TT_S kP96 ktP_isPart knP kcP_isPart) rfl rfl rfl (by decide +kernel) ⟨Nat.le_of_ble_eq_true rfl, Nat.le_of_ble_eq_true rfl⟩) (pcS hE hS hAb) rfl rfl hl.1 rfl (lv_room (Nat.le_of_ble_eq_true rfl)) dP_chance_18 ⟨Nat.le_of_ble_eq_true rfl, Nat.le_of_ble_eq_true rfl⟩) ?_
            refine x_zne (a := 0) (tgt := 28) hx hb dP_chance_21 (by decide) (by omega) (fun h6 => absurd rfl h6) (fun h6 => ?_)
            refine lv_ldc2 (v := -1) hx hb hown (hT _ kP100) dP_chance_24 ?_
            refine x_topl (y := r) ((h2 ⟨e2, e3⟩).symm) ?_
            exact W.lret (v := r) hx hb hr (fun t ht hW => ⟨rfl, ht⟩) (fun q h => absurd h List.not_mem_nil) dP_chance_27
set_option maxHeartbeats 400000 in
set_option maxRecDepth 100000 in
theorem c_P_size (l : Launch) (D : va_G) (κ : Nat → ClassId) (base : Nat) (H0 : Heap) (a : Nat) (x : Int32) (u v : Int64) (r : Int32) (h0 : (x < 0 ∨ nI 3 ≤ x ∨ u < lN 1 ∨ v < lN 1) → r = -1) (h1 : ∀ k A BB, k < 3 → x = nI k → 1 ≤ A → A < 2 ^ 63 → u = lN A → 1 ≤ BB → BB < 2 ^ 63 → v = lN BB → r = szF (if k = 0 then 3 else 2) ((BB - 1) / A + 1) 26 1) : Met l yP_size wP_size ({ frames := 1, cells := 0, slots := 0, locals := 24 }) (Pq D κ base [.ref a, .int x, .long u, .long v] H0) (q_P (some (.int r))) 0 0 (fun _ => False) := by
  refine Met.ofW (cc := bP_size) (maxL := 10) (ret := (some FieldType.int)) (by decide) rfl ?_
  intro p e s m args below meth c s₁ B hml hv
  obtain ⟨rfl, hH, hE⟩ := hv
  subst hH
  have hx := B.exec
  have hb := B.bytes
  have hr := B.returns
  have hT : ∀ w ∈ TT, w.before _ s = true := fun w h => atoms_spec (ws := wP_size) B.pre w (List.mem_cons_of_mem _ h)
  have hown : s.vm.findClass "TasterPanels" = some m.cls := findClass_of_methodNamed B.named
  have hlocks := B.notSynchronized
  have hK := hE.1
  have hS : va_S (fun q => base ≤ q) s.heap s.heap [] := va_S.rf
  have hAb : ∀ q : Nat, (fun q : Nat => base ≤ q) q → base ≤ q := fun _ h => h
  have hl := lv_entry ([.ref a, .int x, .long u, .long v]) (n := 10) (Nat.le_of_ble_eq_true rfl)
  rw [lg_entry_eq]
  generalize (lg_sl ([.ref a, .int x, .long u, .long v]) ++ List.replicate (10 - (lg_sl ([.ref a, .int x, .long u, .long v])).length) Slot.unset).toArray = ls at hl ⊢
  have hl : lv_has ls 10 [(0, .ref a), (1, .int x), (2, .long u), (4, .long v)] := hl
  rcases pk_ix x (show 3 < 2 ^ 31 by decide) with e1 | e1 | ⟨k, hk, rfl⟩
  · refine lv_iload_n hx hb dP_size_0 rfl (lv_at hl 1 rfl) ?_
    refine lv_if_lt (tgt := 22) hx hb dP_size_1 (by decide) (fun h1 => ?_) (fun h1 => absurd e1 h1)
    refine lv_iconst (v := -1) hx hb dP_size_22 (by decide) ?_
    refine x_topi (y := r) ((h0 (Or.inl e1)).symm) ?_
    exact W.iret (v := r) hx hb hr (fun t ht hW => ⟨rfl, ht⟩) (fun q h => absurd h List.not_mem_nil) dP_size_23
  · refine lv_iload_n hx hb dP_size_0 rfl (lv_at hl 1 rfl) ?_
    refine lv_if_lt (tgt := 22) hx hb dP_size_1 (by decide) (fun h2 => absurd (Int32.lt_of_le_of_lt e1 h2) (by decide)) (fun h2 => ?_)
    refine lv_iload_n hx hb dP_size_4 rfl (lv_at hl 1 rfl) ?_
    refine lv_iconst (v := nI 2) hx hb dP_size_5 (by decide) ?_
    refine lv_icmp_gt (tgt := 22) hx hb dP_size_6 (by decide) (fun h3 => ?_) (fun h3 => absurd (Int32.lt_of_lt_of_le (show nI 2 < nI 3 by decide) e1) h3)
    refine lv_iconst (v := -1) hx hb dP_size_22 (by decide) ?_
    refine x_topi (y := r) ((h0 (Or.inr (Or.inl e1))).symm) ?_
    exact W.iret (v := r) hx hb hr (fun t ht hW => ⟨rfl, ht⟩) (fun q h => absurd h List.not_mem_nil) dP_size_23
  · refine lv_iload_n hx hb dP_size_0 rfl (lv_at hl 1 rfl) ?_
    refine x_zlt (a := k) (tgt := 22) hx hb dP_size_1 (by decide) (by omega) ?_
    refine lv_iload_n hx hb dP_size_4 rfl (lv_at hl 1 rfl) ?_
    refine lv_iconst (v := nI 2) hx hb dP_size_5 (by decide) ?_
    refine x_cgt (a := k) (b := 2) (tgt := 22) hx hb dP_size_6 (by decide) (by omega) (by omega) (fun h5 => absurd h5 (by omega)) (fun h5 => ?_)
    refine lv_lload_n hx hb dP_size_9 rfl (lv_at hl 2 rfl) ?_
    refine lv_lconst (v := lN 1) hx hb dP_size_10 (by decide) ?_
    rcases lpos u with e2 | ⟨A, hA1, hA2, rfl⟩
    · refine x_llt (tgt := 22) hx hb dP_size_11 dP_size_12 (by decide) (fun h6 => ?_) (fun h6 => absurd e2 h6)
      refine lv_iconst (v := -1) hx hb dP_size_22 (by decide) ?_
      refine x_topi (y := r) ((h0 (Or.inr (Or.inr (Or.inl e2)))).symm) ?_
      exact W.iret (v := r) hx hb hr (fun t ht hW => ⟨rfl, ht⟩) (fun q h => absurd h List.not_mem_nil) dP_size_23
    · refine x_llt (tgt := 22) hx hb dP_size_11 dP_size_12 (by decide) (fun h7 => absurd ((pk_lLT hA2 (by decide)).mp h7) (by omega)) (fun h7 => ?_)
      refine lv_lload hx hb dP_size_15 (lv_at hl 3 rfl) ?_
      refine lv_lconst (v := lN 1) hx hb dP_size_17 (by decide) ?_
      rcases lpos v with e3 | ⟨BB, hB1, hB2, rfl⟩
      · refine x_lge (tgt := 24) hx hb dP_size_18 dP_size_19 (by decide) (fun h8 => absurd (Int64.lt_of_lt_of_le e3 h8) (fun q => Int64.lt_irrefl q)) (fun h8 => ?_)
        refine lv_iconst (v := -1) hx hb dP_size_22 (by decide) ?_
        refine x_topi (y := r) ((h0 (Or.inr (Or.inr (Or.inr e3)))).symm) ?_
        exact W.iret (v := r) hx hb hr (fun t ht hW => ⟨rfl, ht⟩) (fun q h => absurd h List.not_mem_nil) dP_size_23
      · refine x_lge (tgt := 24) hx hb dP_size_18 dP_size_19 (by decide) (fun h9 => ?_) (fun h9 => absurd ((pk_lLE (by decide) hB2).mpr hB1) h9)
        refine lv_lload hx hb dP_size_24 (lv_at hl 3 rfl) ?_
        refine lv_lconst (v := lN 1) hx hb dP_size_26 (by decide) ?_
        refine x_lsub (v := (lN BB) - (lN 1)) hx hb dP_size_27 (rfl) ?_
        refine x_topl (y := lN (BB - 1)) (lN_sub hB1) ?_
        have hw : (BB - 1) / A + 1 < 2 ^ 63 := by have := Nat.div_le_self (BB - 1) A; omega
        refine lv_lload_n hx hb dP_size_28 rfl (lv_at hl 2 rfl) ?_
        refine x_ldiv (v := lN ((BB - 1) / A)) hx hb dP_size_29 (lN_ne0 (by omega) (hA2)) (pk_lDiv (by omega) (by omega) (hA2)) ?_
        refine lv_lconst (v := lN 1) hx hb dP_size_30 (by decide) ?_
        refine x_ladd (v := lN (((BB - 1) / A) + 1)) hx hb dP_size_31 (lN_add _ _) ?_
        refine lv_lstore (lv' := [(6, .long (lN (((BB - 1) / A) + 1))), (0, .ref a), (1, .int (nI k)), (2, .long (lN A)), (4, .long (lN BB))]) hx hb dP_size_32 hl (by decide) rfl (fun ls hl => ?_)
        refine lv_iload_n hx hb dP_size_34 rfl (lv_at hl 2 rfl) ?_
        refine x_zne (a := k) (tgt := 42) hx hb dP_size_35 (by decide) (by omega) (fun g0 => ?_) (fun g0 => ?_)
        · refine lv_iconst (v := nI 2) hx hb dP_size_42 (by decide) ?_
          refine lv_istore (lv' := [(8, .int (nI 2)), (6, .long (lN (((BB - 1) / A) + 1))), (0, .ref a), (1, .int (nI k)), (2, .long (lN A)), (4, .long (lN BB))]) hx hb dP_size_43 hl (by decide) rfl (fun ls hl => ?_)
          refine lv_iconst (v := nI 1) hx hb dP_size_45 (by decide) ?_
          refine lv_istore (lv' := [(9, .int (nI 1)), (8, .int (nI 2)), (6, .long (lN (((BB - 1) / A) + 1))), (0, .ref a), (1, .int (nI k)), (2, .long (lN A)), (4, .long (lN BB))]) hx hb dP_size_46 hl (by decide) rfl (fun ls hl => ?_)
          have loop : ∀ (fu : Nat) (w : Nat), (w ≤ 27) → (1 ≤ w) → (szF 2 ((BB - 1) / A + 1) (27 - w) w = szF 2 ((BB - 1) / A + 1) 26 1) → 27 - w < fu → ∀ ls : Array Slot, lv_has ls 10 [(6, .long (lN ((BB - 1) / A + 1))), (8, .int (nI 2)), (9, .int (nI w))] → W p l e (headSpec wP_size ({ frames := 1, cells := 0, slots := 0, locals := 24 })).room s m ([.ref a, .int (nI k), .long (lN A), .long (lN BB)] : List Value).toArray below meth c s.heap [] 0 0 (MQ below (q_P (some (.int r))) ([.ref a, .int (nI k), .long (lN A), .long (lN BB)] : List Value).toArray s 0 0 (fun _ => False)) (F0 m 48 ls []) := by
            intro fu
            induction fu with
            | zero =>
              intro w hc hc1 heq hmu
              exact absurd hmu (Nat.not_lt_zero _)
            | succ fu ih =>
              intro w hc hc1 heq hmu ls hl
              refine lv_iload hx hb dP_size_48 (lv_at hl 2 rfl) ?_
              refine lv_bipush (v := nI 26) hx hb dP_size_50 (by decide) ?_
              refine x_cgt (a := w) (b := 26) (tgt := 77) hx hb dP_size_52 (by decide) (by omega) (by omega) (fun g1 => ?_) (fun g1 => ?_)
              · refine lv_iconst (v := -1) hx hb dP_size_77 (by decide) ?_
                refine x_topi (y := r) (by rw [h1 k A BB hk rfl hA1 hA2 rfl hB1 hB2 rfl, if_neg g0, ← heq, show 27 - w = 0 by omega]; rfl) ?_
                exact W.iret (v := r) hx hb hr (fun t ht hW => ⟨rfl, ht⟩) (fun q h => absurd h List.not_mem_nil) dP_size_78
              · rw [show 27 - w = (27 - (w + 1)) + 1 by omega, szF] at heq
                have hpp := pp_lt (pl := 2) (show w < 27 by omega) (by decide)
                refine lv_iload hx hb dP_size_55 (lv_at hl 1 rfl) ?_
                refine lv_iload hx hb dP_size_57 (lv_at hl 2 rfl) ?_
                refine x_callP (v := .long (lN (2 ^ w))) (va_runS (As := [.int (nI 2), .int (nI w)]) (rest := []) ⟨hx, hb, hml, hown, hT⟩ (c_P_power l D κ base s.heap 2 w (by decide) (by omega)) (va_cwS 2 hT (TT_S kP106 ktP_power knP kcP_power) rfl rfl rfl (by decide +kernel) ⟨Nat.le_of_ble_eq_true rfl, Nat.le_of_ble_eq_true rfl⟩) (pcS hE hS hAb) rfl rfl hl.1 rfl (lv_room (Nat.le_of_ble_eq_true rfl)) dP_size_59 ⟨Nat.le_of_ble_eq_true rfl, Nat.le_of_ble_eq_true rfl⟩) ?_
                refine lv_lload hx hb dP_size_62 (lv_at hl 0 rfl) ?_
                refine x_llt (tgt := 71) hx hb dP_size_64 dP_size_65 (by decide) (fun g2 => ?_) (fun g2 => ?_)
                · rw [if_neg (Nat.not_le.mpr ((pk_lLT hpp hw).mp g2))] at heq
                  refine lv_iinc (v := nI (w + 1)) (lv' := [(9, .int (nI (w + 1))), (6, .long (lN ((BB - 1) / A + 1))), (8, .int (nI 2))]) hx hb dP_size_71 hl (k := 2) rfl (nI_add _ _) (by decide) rfl (fun ls hl => ?_)
                  refine lv_goto (tgt := 48) hx hb dP_size_74 (by decide) ?_
                  exact ih (w + 1) (by omega) (by omega) heq (by omega) ls (lv_sub hl [1, 2, 0] rfl)
                · rw [if_pos (Nat.le_of_not_lt fun q => g2 ((pk_lLT hpp hw).mpr q))] at heq
                  refine lv_iload hx hb dP_size_68 (lv_at hl 2 rfl) ?_
                  refine x_topi (y := r) (by rw [h1 k A BB hk rfl hA1 hA2 rfl hB1 hB2 rfl, if_neg g0, ← heq]) ?_
                  exact W.iret (v := r) hx hb hr (fun t ht hW => ⟨rfl, ht⟩) (fun q h => absurd h List.not_mem_nil) dP_size_70
          exact loop 27 1 (by omega) (by omega) rfl (by omega) ls (lv_sub hl [2, 1, 0] rfl)
        · refine lv_iconst (v := nI 3) hx hb dP_size_38 (by decide) ?_
          refine lv_goto (tgt := 43) hx hb dP_size_39 (by decide) ?_
          refine lv_istore (lv' := [(8, .int (nI 3)), (6, .long (lN (((BB - 1) / A) + 1))), (0, .ref a), (1, .int (nI k)), (2, .long (lN A)), (4, .long (lN BB))]) hx hb dP_size_43 hl (by decide) rfl (fun ls hl => ?_)
          refine lv_iconst (v := nI 1) hx hb dP_size_45 (by decide) ?_
          refine lv_istore (lv' := [(9, .int (nI 1)), (8, .int (nI 3)), (6, .long (lN (((BB - 1) / A) + 1))), (0, .ref a), (1, .int (nI k)), (2, .long (lN A)), (4, .long (lN BB))]) hx hb dP_size_46 hl (by decide) rfl (fun ls hl => ?_)
          have loop : ∀ (fu : Nat) (w : Nat), (w ≤ 27) → (1 ≤ w) → (szF 3 ((BB - 1) / A + 1) (27 - w) w = szF 3 ((BB - 1) / A + 1) 26 1) → 27 - w < fu → ∀ ls : Array Slot, lv_has ls 10 [(6, .long (lN ((BB - 1) / A + 1))), (8, .int (nI 3)), (9, .int (nI w))] → W p l e (headSpec wP_size ({ frames := 1, cells := 0, slots := 0, locals := 24 })).room s m ([.ref a, .int (nI k), .long (lN A), .long (lN BB)] : List Value).toArray below meth c s.heap [] 0 0 (MQ below (q_P (some (.int r))) ([.ref a, .int (nI k), .long (lN A), .long (lN BB)] : List Value).toArray s 0 0 (fun _ => False)) (F0 m 48 ls []) := by
            intro fu
            induction fu with
            | zero =>
              intro w hc hc1 heq hmu
              exact absurd hmu (Nat.not_lt_zero _)
            | succ fu ih =>
              intro w hc hc1 heq hmu ls hl
              refine lv_iload hx hb dP_size_48 (lv_at hl 2 rfl) ?_
              refine lv_bipush (v := nI 26) hx hb dP_size_50 (by decide) ?_
              refine x_cgt (a := w) (b := 26) (tgt := 77) hx hb dP_size_52 (by decide) (by omega) (by omega) (fun g1 => ?_) (fun g1 => ?_)
              · refine lv_iconst (v := -1) hx hb dP_size_77 (by decide) ?_
                refine x_topi (y := r) (by rw [h1 k A BB hk rfl hA1 hA2 rfl hB1 hB2 rfl, if_pos g0, ← heq, show 27 - w = 0 by omega]; rfl) ?_
                exact W.iret (v := r) hx hb hr (fun t ht hW => ⟨rfl, ht⟩) (fun q h => absurd h List.not_mem_nil) dP_size_78
              · rw [show 27 - w = (27 - (w + 1)) + 1 by omega, szF] at heq
                have hpp := pp_lt (pl := 3) (show w < 27 by omega) (by decide)
                refine lv_iload hx hb dP_size_55 (lv_at hl 1 rfl) ?_
                refine lv_iload hx hb dP_size_57 (lv_at hl 2 rfl) ?_
                refine x_callP (v := .long (lN (3 ^ w))) (va_runS (As := [.int (nI 3), .int (nI w)]) (rest := []) ⟨hx, hb, hml, hown, hT⟩ (c_P_power l D κ base s.heap 3 w (by decide) (by omega)) (va_cwS 2 hT (TT_S kP106 ktP_power knP kcP_power) rfl rfl rfl (by decide +kernel) ⟨Nat.le_of_ble_eq_true rfl, Nat.le_of_ble_eq_true rfl⟩) (pcS hE hS hAb) rfl rfl hl.1 rfl (lv_room (Nat.le_of_ble_eq_true rfl)) dP_size_59 ⟨Nat.le_of_ble_eq_true rfl, Nat.le_of_ble_eq_true rfl⟩) ?_
                refine lv_lload hx hb dP_size_62 (lv_at hl 0 rfl) ?_
                refine x_llt (tgt := 71) hx hb dP_size_64 dP_size_65 (by decide) (fun g2 => ?_) (fun g2 => ?_)
                · rw [if_neg (Nat.not_le.mpr ((pk_lLT hpp hw).mp g2))] at heq
                  refine lv_iinc (v := nI (w + 1)) (lv' := [(9, .int (nI (w + 1))), (6, .long (lN ((BB - 1) / A + 1))), (8, .int (nI 3))]) hx hb dP_size_71 hl (k := 2) rfl (nI_add _ _) (by decide) rfl (fun ls hl => ?_)
                  refine lv_goto (tgt := 48) hx hb dP_size_74 (by decide) ?_
                  exact ih (w + 1) (by omega) (by omega) heq (by omega) ls (lv_sub hl [1, 2, 0] rfl)
                · rw [if_pos (Nat.le_of_not_lt fun q => g2 ((pk_lLT hpp hw).mpr q))] at heq
                  refine lv_iload hx hb dP_size_68 (lv_at hl 2 rfl) ?_
                  refine x_topi (y := r) (by rw [h1 k A BB hk rfl hA1 hA2 rfl hB1 hB2 rfl, if_pos g0, ← heq]) ?_
                  exact W.iret (v := r) hx hb hr (fun t ht hW => ⟨rfl, ht⟩) (fun q h => absurd h List.not_mem_nil) dP_size_70
          exact loop 27 1 (by omega) (by omega) rfl (by omega) ls (lv_sub hl [2, 1, 0] rfl)
set_option maxHeartbeats 400000 in
set_option maxRecDepth 100000 in
theorem c_P_row (l : Launch) (D : va_G) (κ : Nat → ClassId) (base : Nat) (H0 : Heap) (a k : Nat) (hk1 : 1 ≤ k) (hk2 : k ≤ 26) : Met l yP_row wP_row ({ frames := 1, cells := 0, slots := 0, locals := 27 }) (Pq D κ base [.ref a, .int (nI k)] H0) (q_P (some (.int (nI (rwF k (k + 1) 0))))) 0 0 (fun _ => False) := by
  refine Met.ofW (cc := bP_row) (maxL := 5) (ret := (some FieldType.int)) (by decide) rfl ?_
  intro p e s m args below meth c s₁ B hml hv
  obtain ⟨rfl, hH, hE⟩ := hv
  subst hH
  have hx := B.exec
  have hb := B.bytes
  have hr := B.returns
  have hT : ∀ w ∈ TT, w.before _ s = true := fun w h => atoms_spec (ws := wP_row) B.pre w (List.mem_cons_of_mem _ h)
  have hown : s.vm.findClass "TasterPanels" = some m.cls := findClass_of_methodNamed B.named
  have hlocks := B.notSynchronized
  have hK := hE.1
  have hS : va_S (fun q => base ≤ q) s.heap s.heap [] := va_S.rf
  have hAb : ∀ q : Nat, (fun q : Nat => base ≤ q) q → base ≤ q := fun _ h => h
  have hl := lv_entry ([.ref a, .int (nI k)]) (n := 5) (Nat.le_of_ble_eq_true rfl)
  rw [lg_entry_eq]
  generalize (lg_sl ([.ref a, .int (nI k)]) ++ List.replicate (5 - (lg_sl ([.ref a, .int (nI k)])).length) Slot.unset).toArray = ls at hl ⊢
  have hl : lv_has ls 5 [(0, .ref a), (1, .int (nI k))] := hl
  refine lv_iload_n hx hb dP_row_0 rfl (lv_at hl 1 rfl) ?_
  refine lv_iconst (v := nI 1) hx hb dP_row_1 (by decide) ?_
  refine x_clt (a := k) (b := 1) (tgt := 11) hx hb dP_row_2 (by decide) (by omega) (by omega) (fun h1 => absurd h1 (by omega)) (fun h1 => ?_)
  refine lv_iload_n hx hb dP_row_5 rfl (lv_at hl 1 rfl) ?_
  refine lv_bipush (v := nI 26) hx hb dP_row_6 (by decide) ?_
  refine x_cle (a := k) (b := 26) (tgt := 21) hx hb dP_row_8 (by decide) (by omega) (by omega) (fun h2 => ?_) (fun h2 => absurd h2 (by omega))
  have loop : ∀ (fu : Nat) (r : Nat), (r ≤ k + 1) → (rwF k (k + 1 - r) r = rwF k (k + 1) 0) → k + 1 - r < fu → ∀ ls : Array Slot, lv_has ls 5 [(1, .int (nI k)), (2, .long (lN (3 ^ k))), (4, .int (nI r))] → W p l e (headSpec wP_row ({ frames := 1, cells := 0, slots := 0, locals := 27 })).room s m ([.ref a, .int (nI k)] : List Value).toArray below meth c s.heap [] 0 0 (MQ below (q_P (some (.int (nI (rwF k (k + 1) 0))))) ([.ref a, .int (nI k)] : List Value).toArray s 0 0 (fun _ => False)) (F0 m 30 ls []) := by
    intro fu
    induction fu with
    | zero =>
      intro r hr1 heq hmu
      exact absurd hmu (Nat.not_lt_zero _)
    | succ fu ih =>
      intro r hr1 heq hmu ls hl
      refine lv_iload hx hb dP_row_30 (lv_at hl 2 rfl) ?_
      refine lv_iload_n hx hb dP_row_32 rfl (lv_at hl 0 rfl) ?_
      refine x_cgt (a := r) (b := k) (tgt := 61) hx hb dP_row_33 (by decide) (by omega) (by omega) (fun g1 => ?_) (fun g1 => ?_)
      · refine lv_iload_n hx hb dP_row_61 rfl (lv_at hl 0 rfl) ?_
        refine lv_iconst (v := nI 1) hx hb dP_row_62 (by decide) ?_
        refine x_iadd (v := nI (k + 1)) hx hb dP_row_63 (nI_add _ _) ?_
        refine x_topn (b := rwF k (k + 1) 0) (by rw [← heq, show k + 1 - r = 0 by omega]; rfl) ?_
        exact W.iret (v := nI (rwF k (k + 1) 0)) hx hb hr (fun t ht hW => ⟨rfl, ht⟩) (fun q h => absurd h List.not_mem_nil) dP_row_64
      · rw [show k + 1 - r = (k + 1 - (r + 1)) + 1 by omega, rwF] at heq
        have hw := pw_lt (n := k) (r := r) (pl := 3) (by omega) (by omega) (Or.inr rfl)
        have hpp := pp_lt (n := k) (pl := 3) (by omega) (Or.inr rfl)
        refine lv_ldc2 (v := lN 20) hx hb hown (hT _ kP155) dP_row_36 ?_
        refine lv_iload hx hb dP_row_39 (lv_at hl 2 rfl) ?_
        refine lv_iload_n hx hb dP_row_41 rfl (lv_at hl 0 rfl) ?_
        refine lv_iconst (v := nI 3) hx hb dP_row_42 (by decide) ?_
        refine x_callP (v := .long (lN (pw_ways r k 3))) (va_runS (As := [.int (nI r), .int (nI k), .int (nI 3)]) (rest := [.long (lN 20)]) ⟨hx, hb, hml, hown, hT⟩ (c_P_waysOfAtLeast l D κ base s.heap r k 3 (by omega) (by omega) (Or.inr rfl)) (va_cwS 3 hT (TT_S kP102 ktP_waysOfAtLeast knP kcP_waysOfAtLeast) rfl rfl rfl (by decide +kernel) ⟨Nat.le_of_ble_eq_true rfl, Nat.le_of_ble_eq_true rfl⟩) (pcS hE hS hAb) rfl rfl hl.1 rfl (lv_room (Nat.le_of_ble_eq_true rfl)) dP_row_43 ⟨Nat.le_of_ble_eq_true rfl, Nat.le_of_ble_eq_true rfl⟩) ?_
        refine x_lmul (v := lN (20 * (pw_ways r k 3))) hx hb dP_row_46 (lN_mul _ _) ?_
        refine lv_lload_n hx hb dP_row_47 rfl (lv_at hl 1 rfl) ?_
        refine x_lgt (tgt := 55) hx hb dP_row_48 dP_row_49 (by decide) (fun g2 => ?_) (fun g2 => ?_)
        · rw [if_neg (Nat.not_le.mpr ((pk_lLT hpp hw).mp g2))] at heq
          refine lv_iinc (v := nI (r + 1)) (lv' := [(4, .int (nI (r + 1))), (1, .int (nI k)), (2, .long (lN (3 ^ k)))]) hx hb dP_row_55 hl (k := 2) rfl (nI_add _ _) (by decide) rfl (fun ls hl => ?_)
          refine lv_goto (tgt := 30) hx hb dP_row_58 (by decide) ?_
          exact ih (r + 1) (by omega) heq (by omega) ls (lv_sub hl [1, 2, 0] rfl)
        · rw [if_pos (Nat.le_of_not_lt fun q => g2 ((pk_lLT hpp hw).mpr q))] at heq
          refine lv_iload hx hb dP_row_52 (lv_at hl 2 rfl) ?_
          refine x_topn (b := rwF k (k + 1) 0) (heq) ?_
          exact W.iret (v := nI (rwF k (k + 1) 0)) hx hb hr (fun t ht hW => ⟨rfl, ht⟩) (fun q h => absurd h List.not_mem_nil) dP_row_54
  refine lv_iconst (v := nI 3) hx hb dP_row_21 (by decide) ?_
  refine lv_iload_n hx hb dP_row_22 rfl (lv_at hl 1 rfl) ?_
  refine x_callP (v := .long (lN (3 ^ k))) (va_runS (As := [.int (nI 3), .int (nI k)]) (rest := []) ⟨hx, hb, hml, hown, hT⟩ (c_P_power l D κ base s.heap 3 k (by decide) (by omega)) (va_cwS 2 hT (TT_S kP106 ktP_power knP kcP_power) rfl rfl rfl (by decide +kernel) ⟨Nat.le_of_ble_eq_true rfl, Nat.le_of_ble_eq_true rfl⟩) (pcS hE hS hAb) rfl rfl hl.1 rfl (lv_room (Nat.le_of_ble_eq_true rfl)) dP_row_23 ⟨Nat.le_of_ble_eq_true rfl, Nat.le_of_ble_eq_true rfl⟩) ?_
  refine lv_lstore_n (lv' := [(2, .long (lN (3 ^ k))), (0, .ref a), (1, .int (nI k))]) hx hb dP_row_26 rfl hl (by decide) rfl (fun ls hl => ?_)
  refine lv_iconst (v := nI 0) hx hb dP_row_27 (by decide) ?_
  refine lv_istore (lv' := [(4, .int (nI 0)), (2, .long (lN (3 ^ k))), (0, .ref a), (1, .int (nI k))]) hx hb dP_row_28 hl (by decide) rfl (fun ls hl => ?_)
  exact loop (k + 2) 0 (by omega) rfl (by omega) ls (lv_sub hl [3, 1, 0] rfl)
end
section
/-! wkit: writes: new cells at the heap's end, what a writing method leaves -/
section WK
variable {p : Program} {l : Launch} {e : Env} {R : Room} {s : State} {m : MethodId} {args : Array Value} {below : List Frame} {meth : Method} {c : Code} {H : Heap} {locs : List Loc} {cells slots : Nat} {Q : State → Prop}
variable {cc : ByteArray} {pc : Nat} {ls : Array Slot} {rest : List Value} {D : va_G} {cl : List vw_C} {A : Nat → Prop} {tys : List (ClassId × FieldType)} {ws : va_W} {H0 : Heap}
theorem x_new (hexec : p.tables.exec = Jvm.exec) (hb : c.code = cc) {own C : String} {T : u_T} {N ci index : Nat} {Ts : List Cond} (hts : ∀ w ∈ Ts, w.before args s = true) (hin : ∀ w ∈ u_ws C T N, w ∈ Ts) (ty : Nat → FieldType) (hty : ∀ k, k < N → parseFieldDescriptor (T k).2.2.1 = some (ty k)) (hown : s.vm.findClass own = some m.cls) (hcl : (Cond.classLink own index C).before args s = true) (hinst : (Cond.instantiable C N).before args s = true) (hini : (Cond.initialized C).before args s = true)
    (hK : va_K D cl tys s) (hP : va_P D cl ws H) (hD : va_D A ws) (hS : va_S A H0 H locs) (hA : ∀ q, H0.size ≤ q → A q) (hc : cl[ci]? = some (C, T, N)) {fs : List Value} (hfs : ∀ j, j < N → defaultValue (ty j) = vp_V fs j) (hcells : cells + 1 ≤ R.cells) (hslots : slots + N ≤ R.slots) {h : Nat} (hh : H.size = h) (hdg : decode cc pc = .ok (.new index, 3))
    (kk : ∀ (H1 : Heap), va_P D cl (ws ++ [(h, .inr (ci, fs))]) H1 → va_D A (ws ++ [(h, .inr (ci, fs))]) → va_S A H0 H1 locs → H1.size = h + 1 →
      W p l e R s m args below meth c H1 locs (cells + 1) (slots + N) Q (F0 m (pc + 3) ls (.ref h :: rest))) : W p l e R s m args below meth c H locs cells slots Q (F0 m pc ls rest) := by
  subst hh
  have hKn := hK.1 ci _ hc
  refine W.newcK hexec hb hown hcl hinst hini rfl hdg hcells hslots hKn.2.1 rfl fun H1 kC hkC e1 z1 o1 => ?_
  have hk : ∀ (k : Nat) (x : Nat × va_E), ws[k]? = some x → H1[x.1]? = H[x.1]? := fun k x hx => o1 x.1 ((hP k x hx).lt)
  refine kk H1 ((hP.kept hk).app (fun k x hx => ?_)) (hD.push hP rfl (hA _ hS.1)) ⟨Nat.le_trans hS.1 (by omega), fun x h1 h2 => (o1 x (Nat.lt_of_lt_of_le h1 hS.1)).trans (hS.2.1 x h1 h2), hS.2.2⟩ z1
  have hz : k < 1 := (List.getElem?_eq_some_iff.mp hx).1
  rw [show k = 0 by omega] at hx
  cases hx
  exact ⟨_, hc, (u_born ty hts hin hKn hkC e1 hty).to hfs⟩
theorem x_newa (hexec : p.tables.exec = Jvm.exec) (hb : c.code = cc) {atype : ArrayType} (harr : (Cond.arrayClass (newarray.typeOf atype)).before args s = true) {ty : FieldType} (hty : newarray.typeOf atype = ty) (hno : ∀ C, ty ≠ .object C) (hK : va_K D cl tys s) (hP : va_P D cl ws H) (hD : va_D A ws) (hS : va_S A H0 H locs) (hA : ∀ q, H0.size ≤ q → A q) (t0 : Nat) {cA : ClassId} (ht : tys[t0]? = some (cA, ty))
    {N' : Nat} {a0 : vp_A} (ha : ∀ cA : ClassId, vp_cell cA a0 = arrV cA N' (fun _ => defaultValue ty)) (hn : N' < 2 ^ 31) (hbytes : N' * componentBytes ty ≤ 536870912) (hcells : cells + 1 ≤ R.cells) (hslots : slots + N' ≤ R.slots) {h : Nat} (hh : H.size = h) (hdg : decode cc pc = .ok (.newarray atype, 2))
    (kk : ∀ (H1 : Heap), va_P D cl (ws ++ [(h, .inl (cA, a0))]) H1 → va_D A (ws ++ [(h, .inl (cA, a0))]) → va_S A H0 H1 locs → H1.size = h + 1 →
      W p l e R s m args below meth c H1 locs (cells + 1) (slots + N') Q (F0 m (pc + 2) ls (.ref h :: rest))) : W p l e R s m args below meth c H locs cells slots Q (F0 m pc ls (.int (nI N') :: rest)) := by
  subst hty
  subst hh
  refine va_newaK hexec hb harr rfl hdg rfl (nI_pos hn) (nI_clamp hn) hbytes hcells hslots rfl fun H1 cB e1 z1 o1 hAr hNm => ?_
  have hcc : cB = cA := by
    have h2 := (hK.2 t0 _ ht).2
    have h3 : s.vm.findClass ("[" ++ (newarray.typeOf atype).toString) = some cA := by
      cases atype <;> exact h2
    exact Option.some.inj (hNm.symm.trans h3)
  subst hcc
  have hk : ∀ (k : Nat) (x : Nat × va_E), ws[k]? = some x → H1[x.1]? = H[x.1]? := fun k x hx => o1 x.1 ((hP k x hx).lt)
  refine kk H1 ((hP.kept hk).app (fun k x hx => ?_)) (hD.push hP rfl (hA _ hS.1)) ⟨Nat.le_trans hS.1 (by omega), fun x h1 h2 => (o1 x (Nat.lt_of_lt_of_le h1 hS.1)).trans (hS.2.1 x h1 h2), hS.2.2⟩ z1
  have hz : k < 1 := (List.getElem?_eq_some_iff.mp hx).1
  rw [show k = 0 by omega] at hx
  cases hx
  show H1[H.size]? = some (vp_cell _ _)
  rw [ha]
  exact e1
theorem x_newq (hexec : p.tables.exec = Jvm.exec) (hb : c.code = cc) {own C : String} {index : Nat} (hown : s.vm.findClass own = some m.cls) (hclink : (Cond.classLink own index C).before args s = true) (hover : va_AO C s) (hK : va_K D cl tys s) (hP : va_P D cl ws H) (hD : va_D A ws) (hS : va_S A H0 H locs) (hA : ∀ q, H0.size ≤ q → A q) (t0 : Nat) {cA : ClassId} (ht : tys[t0]? = some (cA, .object C))
    {N' : Nat} (hn : N' < 2 ^ 31) (hbytes : N' * 4 ≤ 536870912) (hcells : cells + 1 ≤ R.cells) (hslots : slots + N' ≤ R.slots) {h : Nat} (hh : H.size = h) (hdg : decode cc pc = .ok (.anewarray index, 3))
    (kk : ∀ (H1 : Heap), va_P D cl (ws ++ [(h, .inl (cA, N', .inr (.inr (.inr (.inr (fun _ => none))))))]) H1 → va_D A (ws ++ [(h, .inl (cA, N', .inr (.inr (.inr (.inr (fun _ => none))))))]) → va_S A H0 H1 locs → H1.size = h + 1 →
      W p l e R s m args below meth c H1 locs (cells + 1) (slots + N') Q (F0 m (pc + 3) ls (.ref h :: rest))) : W p l e R s m args below meth c H locs cells slots Q (F0 m pc ls (.int (nI N') :: rest)) := by
  subst hh
  have hcl := nI_clamp hn
  refine W.anew hexec hb hown hclink (va_AO.use hover) rfl hdg rfl (nI_pos hn) (by rw [hcl]; exact hbytes) hcells (by rw [hcl]; exact hslots) fun cB kA comp f1 f2 f3 f4 => ?_
  have hcc : cB = cA := by
    obtain ⟨kA2, comp2, g1, g2, g3, g4⟩ := (hK.2 t0 _ ht).2
    exact Option.some.inj (f1.symm.trans g4)
  subst hcc
  rw [hcl]
  generalize hH1 : H.push ({ cls := cB, slots := Array.replicate N' .null, vm := .none } : Cell) = H1
  have z1 : H1.size = H.size + 1 := by rw [← hH1, Array.size_push]
  have e1 : H1[H.size]? = some (arrV cB N' (fun _ => .null)) := by rw [← hH1, Array.getElem?_push_size, ← arrV_new]
  have o1 : ∀ q : Nat, q < H.size → H1[q]? = H[q]? := fun q hq => by rw [← hH1, Array.getElem?_push, if_neg (Nat.ne_of_lt hq)]
  have hk : ∀ (k : Nat) (x : Nat × va_E), ws[k]? = some x → H1[x.1]? = H[x.1]? := fun k x hx => o1 x.1 ((hP k x hx).lt)
  refine kk H1 ((hP.kept hk).app (fun k x hx => ?_)) (hD.push hP rfl (hA _ hS.1)) ⟨Nat.le_trans hS.1 (by omega), fun x h1 h2 => (o1 x (Nat.lt_of_lt_of_le h1 hS.1)).trans (hS.2.1 x h1 h2), hS.2.2⟩ z1
  have hz : k < 1 := (List.getElem?_eq_some_iff.mp hx).1
  rw [show k = 0 by omega] at hx
  cases hx
  show H1[H.size]? = some (vp_cell _ _)
  rw [vp_cell_q]
  exact e1
theorem x_aast (hexec : p.tables.exec = Jvm.exec) (hb : c.code = cc) (hK : va_K D cl tys s) (hP : va_P D cl ws H) (hD : va_D A ws) (hS : va_S A H0 H locs) (q0 t0 qk ci : Nat) {cA : ClassId} {r : vw_C} {n v a : Nat} {vs : List Value} {f : Nat → Option Nat} (ha : ws[q0]? = some (a, .inl (cA, n, .inr (.inr (.inr (.inr f)))))) (ht : tys[t0]? = some (cA, .object r.1)) (hv : ws[qk]? = some (v, .inr (ci, vs))) (hc : cl[ci]? = some r) {j : Nat} (hj : j < n) (hn : n < 2 ^ 31) (hdg : decode cc pc = .ok (.aastore, 1))
    (kk : ∀ (H1 : Heap) (locs1 : List Loc), va_P D cl (ws.set q0 (a, .inl (cA, n, .inr (.inr (.inr (.inr (va_up f j (some v)))))))) H1 → va_D A (ws.set q0 (a, .inl (cA, n, .inr (.inr (.inr (.inr (va_up f j (some v)))))))) → va_S A H0 H1 locs1 → H1.size = H.size → W p l e R s m args below meth c H1 locs1 cells slots Q (F0 m (pc + 1) ls rest)) : W p l e R s m args below meth c H locs cells slots Q (F0 m pc ls (.ref v :: .int (nI j) :: .ref a :: rest)) := by
  have hcl : (nI j).toNatClampNeg = j := nI_clamp (Nat.lt_trans hj hn)
  have h0 : ¬ nI j < 0 := nI_pos (Nat.lt_trans hj hn)
  obtain ⟨r', hr', cellV, g1, g2, g3, -⟩ := hP qk _ hv
  have hcls := (hK.1 ci r hc).2
  obtain ⟨kA, comp, k1, k2, k3, -⟩ := (hK.2 t0 _ ht).2
  have hcomp : comp = D.1 ci := Option.some.inj (k3.symm.trans hcls.1)
  subst hcomp
  obtain ⟨kC, hkC, -⟩ := hcls.2
  refine W.aast hexec hb (hP q0 _ ha) (fun q h => by cases h) (fun h => by cases h) k1 k2 rfl hkC ⟨h0, by show _ < (arrV _ _ _).slots.size; rw [arrV_size, hcl]; exact hj⟩ g1 (fun q h => by rw [g3] at h; cases h) (by rw [g2]; exact hkC) (by rw [g2]; exact va_assign hcls) rfl rfl hdg fun H1 e z oq => ?_
  refine kk H1 _ (hP.set hD ha ?_ oq) (hD.set ha) (hS.put z oq (hD.2 q0 _ ha)) z
  show H1[a]? = some (vp_cell _ _)
  rw [e]
  rw [vp_cell_q, vp_cell_q, arrV_store]
  congr 2
  funext q
  rw [hcl]
  by_cases hq : q = j
  · subst hq
    simp [updV, va_up, va_rf]
  · simp [updV, va_up, hq]
end WK
/-- what a writing method leaves: its answer, its cells, nothing else changed -/
def Pst (D : va_G) (A : Nat → Prop) (H0 : Heap) (r : Option Value) (ws1 : va_W) : Option Value → Heap → Prop := fun v H => v = r ∧ va_P D vwCl ws1 H ∧ va_D A ws1 ∧ H0.size ≤ H.size ∧ ∀ q : Nat, q < H0.size → ¬ A q → H[q]? = H0[q]?
theorem Pst.fr {D : va_G} {A A0 : Nat → Prop} {H0 : Heap} {r : Option Value} {ws1 : va_W} (hF : ∀ q, A q → A0 q) {v : Option Value} {H1 : Heap} (h : Pst D A H0 r ws1 v H1) : H0.size ≤ H1.size ∧ ∀ q : Nat, q < H0.size → ¬ A0 q → H1[q]? = H0[q]? := ⟨h.2.2.2.1, fun q h1 h2 => h.2.2.2.2 q h1 (fun z => h2 (hF q z))⟩
theorem kc_obj' : Cond.code Lib.objectInit ⟨#[0xb1]⟩ 1 none ∈ TT := kc_obj
section WK2
variable {p : Program} {l : Launch} {e : Env} {R : Room} {s : State} {m : MethodId} {args : Array Value} {below : List Frame} {meth : Method} {c : Code} {H : Heap} {locs : List Loc} {cells slots : Nat} {Q : State → Prop}
variable {cc : ByteArray} {pc : Nat} {ls : Array Slot} {rest : List Value} {D : va_G} {cl : List vw_C} {A : Nat → Prop} {a : Nat} {tys : List (ClassId × FieldType)} {ws : va_W} {H0 : Heap}
theorem x_putF (hexec : p.tables.exec = Jvm.exec) (hb : c.code = cc) {own ref C : String} {T : u_T} {N ci index : Nat} {Ts : List Cond} (hts : ∀ w ∈ Ts, w.before args s = true) (hin : ∀ w ∈ u_ws C T N, w ∈ Ts) (ty0 : Nat → FieldType) (hty : ∀ k, k < N → parseFieldDescriptor (T k).2.2.1 = some (ty0 k)) (hnm : ∀ a, a < N → ∀ b, b < N → a ≠ b → (T a).2.1 ≠ (T b).2.1) (hown : s.vm.findClass own = some m.cls) (hK : va_K D cl tys s) (hP : va_P D cl ws H) (hD : va_D A ws) (hS0 : va_S A H0 H locs) (q0 : Nat) {fs : List Value} (he : ws[q0]? = some (a, .inr (ci, fs))) (hc : cl[ci]? = some (C, T, N)) (k : Nat) (hk : k < N) (hlink : (Cond.fieldLink own index ref (T k).2.1 (T k).2.2.1).before args s = true) (hsame : ∀ x, s.fieldFound? (T k).1 (T k).2.1 (T k).2.2.1 = some x → s.fieldFound? ref (T k).2.1 (T k).2.2.1 = some x) (hfin : (T k).2.2.2 = true) (hin2 : meth.name = "<init>") (hdecl : (T k).1 = own) {ty : FieldType} {v : Value} (hd : parseFieldDescriptor (T k).2.2.1 = some ty) (hn : narrow ty v = v) (hfit : fits ty v = true) (hl : k < fs.length)
    (hdg : decode cc pc = .ok (.putfield index, 3)) (kk : ∀ (H1 : Heap) (locs1 : List Loc), va_P D cl (ws.set q0 (a, .inr (ci, fs.set k v))) H1 → va_D A (ws.set q0 (a, .inr (ci, fs.set k v))) → va_S A H0 H1 locs1 → H1.size = H.size → W p l e R s m args below meth c H1 locs1 cells slots Q (F0 m (pc + 3) ls rest)) : W p l e R s m args below meth c H locs cells slots Q (F0 m pc ls (v :: .ref a :: rest)) := by
  have hap := va_apart (own := own) hts hin ty0 hty hnm hK hc
  obtain ⟨r, h1, cell, q1, q2, q3, q4⟩ := hP q0 _ he
  have hr : r = (C, T, N) := Option.some.inj (h1.symm.trans hc)
  subst hr
  obtain ⟨hS, hfc, kC, hkC, hkind⟩ := hK.1 ci _ hc
  obtain ⟨cf, kf, fi, f, hi, hsl⟩ := hS k hk
  have hlay := hts _ (hin _ (u_in_lay hk))
  unfold u_lay at hlay
  rw [if_pos hfin] at hlay
  have hst := (u_facts hfc hkC (u_lays hts hin hk) hi).1
  have hcf : m.cls = cf := by
    obtain ⟨_, _, c', _, _, _, -, -, hf', -, -, -, hown2, -⟩ := Cond.laysFinal_spec hlay
    have e1 : c' = cf := by have := hi.symm.trans hf'; simp at this; exact this.1.symm
    rw [hdecl] at hown2
    rw [← e1]; exact Option.some.inj (hown.symm.trans hown2)
  have h6 := u_fits hfc hkC hkind (Or.inr hlay) hi hd hn hfit
  refine W.putFinK hexec hb hown hlink (hsame _ hi) hst hcf hin2 (by rw [q2]; exact h6) q1 q3 (by rw [hsl]; exact k2_hasslot (q4 k hk)) rfl rfl hdg fun H' e1 e2 e3 => ?_
  rw [hsl] at e1 ⊢
  exact kk H' _ (hP.set hD he ⟨_, hc, t_OB.to (V := updV (vp_V fs) k v) ⟨_, e1, q2, q3, t_set q4 hap hk v⟩ (fun j _ => vp_updV_set hl v j)⟩ e3) (hD.set he) (hS0.put e2 e3 (hD.2 q0 _ he)) e2
end WK2
end
section
/-! constructors -/
set_option maxHeartbeats 400000 in
set_option maxRecDepth 100000 in
theorem c_T_init (l : Launch) (D : va_G) (κ : Nat → ClassId) (base : Nat) (H0 : Heap) {q : Nat} (hz : H0.size = (q + 1)) (hP : va_P D vwCl [(q, .inr (0, [.null, .null, .int (nI 0), .int (nI 0)]))] H0) (hD0 : va_D (fun q => base ≤ q) [(q, .inr (0, [.null, .null, .int (nI 0), .int (nI 0)]))]) (hbs : base ≤ H0.size)  : Met l yT_init wT_init ({ frames := 1, cells := 2, slots := 32, locals := 12 }) (Pq D κ base [.ref q] H0) (q_W (fun v H => Pst D (va_A [(q, .inr (0, [.null, .null, .int (nI 0), .int (nI 0)]))] H0.size) H0 none [(q, .inr (0, [.ref (q + 1), .ref (q + 2), .int (nI 0), .int (nI 0)])), ((q + 1), .inl (κ 1, 16, .inl (fun _ => nI 0))), ((q + 2), .inl (κ 1, 16, .inl (fun _ => nI 0)))] v H ∧ H.size = q + 3)) 2 32 (va_A [(q, .inr (0, [.null, .null, .int (nI 0), .int (nI 0)]))] H0.size) := by
  refine Met.ofW (cc := bT_init) (maxL := 1) (ret := none) (by decide) rfl ?_
  intro p e s m args below meth c s₁ B hml hv
  obtain ⟨rfl, hH, hE⟩ := hv
  subst hH
  have hx := B.exec
  have hb := B.bytes
  have hr := B.returns
  have hT : ∀ w ∈ TT, w.before _ s = true := fun w h => atoms_spec (ws := wT_init) B.pre w (List.mem_cons_of_mem _ h)
  have hown : s.vm.findClass "TasterPanels$Taster" = some m.cls := findClass_of_methodNamed B.named
  have hlocks := B.notSynchronized
  have hin : meth.name = "<init>" := (name_of_methodNamed B.named B.method).1
  have hK := hE.1
  have hD := hD0.self (sz := s.heap.size)
  have hAb : ∀ x9, va_A [(q, .inr (0, [.null, .null, .int (nI 0), .int (nI 0)]))] s.heap.size x9 → base ≤ x9 := fun x9 h => by rcases h with ⟨k, e, h⟩ | h; exact hD0.2 k _ h; exact Nat.le_trans hbs h
  generalize hAe : va_A [(q, .inr (0, [.null, .null, .int (nI 0), .int (nI 0)]))] s.heap.size = A at hD hAb ⊢
  have hA : ∀ x9, s.heap.size ≤ x9 → A x9 := fun x9 h => by rw [← hAe]; exact Or.inr h
  have hS : va_S A s.heap s.heap [] := va_S.rf
  have hl := lv_entry ([.ref q]) (n := 1) (Nat.le_of_ble_eq_true rfl)
  rw [lg_entry_eq]
  generalize (lg_sl ([.ref q]) ++ List.replicate (1 - (lg_sl ([.ref q])).length) Slot.unset).toArray = ls at hl ⊢
  have hl : lv_has ls 1 [(0, .ref q)] := hl
  refine lv_aload_n hx hb dT_init_0 rfl (lv_at hl 0 rfl) ?_
  refine W.objInit hx hb hown (hT _ kT3) (hT _ ki_obj) (hT _ kc_obj') rfl (by rw [hml]; exact hl.1) rfl dT_init_1 (Nat.le_of_ble_eq_true rfl) (Nat.le_of_ble_eq_true rfl) ?_
  refine W.eq (g2 := F0 m 4 ls []) rfl ?_
  refine lv_aload_n hx hb dT_init_4 rfl (lv_at hl 0 rfl) ?_
  refine lv_bipush (v := nI 16) hx hb dT_init_5 (by decide) ?_
  refine x_newa (atype := .boolean) (a0 := (16, .inl (fun _ => nI 0))) hx hb (hT _ ka_boolean) rfl (fun C h => by cases h) hK hP hD hS hA 1 rfl (fun _ => rfl) (by decide) (by decide) (Nat.le_of_ble_eq_true rfl) (Nat.le_of_ble_eq_true rfl) hz dT_init_7 (fun H hP hD hS hz => ?_)
  have hP : va_P D vwCl [(q, .inr (0, [.null, .null, .int (nI 0), .int (nI 0)])), ((q + 1), .inl (κ 1, 16, .inl (fun _ => nI 0)))] H := hP
  have hD : va_D A [(q, .inr (0, [.null, .null, .int (nI 0), .int (nI 0)])), ((q + 1), .inl (κ 1, 16, .inl (fun _ => nI 0)))] := hD
  refine x_putF (D := D) (ci := 0) (v := .ref (q + 1)) (ty := .array .boolean) (C := RT) (T := FT) (N := 4) hx hb hT inT tyT tyT_ok nmT hown hK hP hD hS 0 rfl rfl 0 (by decide) (hT _ kT9) (fun _ h9 => h9) rfl hin rfl (by decide +kernel) rfl rfl (Nat.le_of_ble_eq_true rfl) dT_init_9 (fun H locs hP hD hS hz9 => ?_)
  rw [hz] at hz9
  have hz := hz9
  have hP : va_P D vwCl [(q, .inr (0, [.ref (q + 1), .null, .int (nI 0), .int (nI 0)])), ((q + 1), .inl (κ 1, 16, .inl (fun _ => nI 0)))] H := hP
  have hD : va_D A [(q, .inr (0, [.ref (q + 1), .null, .int (nI 0), .int (nI 0)])), ((q + 1), .inl (κ 1, 16, .inl (fun _ => nI 0)))] := hD
  refine lv_aload_n hx hb dT_init_12 rfl (lv_at hl 0 rfl) ?_
  refine lv_bipush (v := nI 16) hx hb dT_init_13 (by decide) ?_
  refine x_newa (atype := .boolean) (a0 := (16, .inl (fun _ => nI 0))) hx hb (hT _ ka_boolean) rfl (fun C h => by cases h) hK hP hD hS hA 1 rfl (fun _ => rfl) (by decide) (by decide) (Nat.le_of_ble_eq_true rfl) (Nat.le_of_ble_eq_true rfl) hz dT_init_15 (fun H hP hD hS hz => ?_)
  have hP : va_P D vwCl [(q, .inr (0, [.ref (q + 1), .null, .int (nI 0), .int (nI 0)])), ((q + 1), .inl (κ 1, 16, .inl (fun _ => nI 0))), ((q + 2), .inl (κ 1, 16, .inl (fun _ => nI 0)))] H := hP
  have hD : va_D A [(q, .inr (0, [.ref (q + 1), .null, .int (nI 0), .int (nI 0)])), ((q + 1), .inl (κ 1, 16, .inl (fun _ => nI 0))), ((q + 2), .inl (κ 1, 16, .inl (fun _ => nI 0)))] := hD
  refine x_putF (D := D) (ci := 0) (v := .ref (q + 2)) (ty := .array .boolean) (C := RT) (T := FT) (N := 4) hx hb hT inT tyT tyT_ok nmT hown hK hP hD hS 0 rfl rfl 1 (by decide) (hT _ kT15) (fun _ h9 => h9) rfl hin rfl (by decide +kernel) rfl rfl (Nat.le_of_ble_eq_true rfl) dT_init_17 (fun H locs hP hD hS hz9 => ?_)
  rw [hz] at hz9
  have hz := hz9
  have hP : va_P D vwCl [(q, .inr (0, [.ref (q + 1), .ref (q + 2), .int (nI 0), .int (nI 0)])), ((q + 1), .inl (κ 1, 16, .inl (fun _ => nI 0))), ((q + 2), .inl (κ 1, 16, .inl (fun _ => nI 0)))] H := hP
  have hD : va_D A [(q, .inr (0, [.ref (q + 1), .ref (q + 2), .int (nI 0), .int (nI 0)])), ((q + 1), .inl (κ 1, 16, .inl (fun _ => nI 0))), ((q + 2), .inl (κ 1, 16, .inl (fun _ => nI 0)))] := hD
  exact W.vret hx hb hr (fun t ht hW => ⟨none, rfl, by rw [ht]; exact ⟨⟨rfl, hP, hD, hS.1, hS.2.1⟩, hz⟩⟩) hS.2.2 dT_init_20
set_option maxHeartbeats 400000 in
set_option maxRecDepth 100000 in
theorem c_S_init (l : Launch) (D : va_G) (κ : Nat → ClassId) (base : Nat) (H0 : Heap) {q : Nat} (kd sp : Nat) (hz : H0.size = (q + 1)) (hP : va_P D vwCl [(q, .inr (1, [.int (nI 0), .int (nI 0), .null, .null, .null, .int (nI 0), .int (nI 0)]))] H0) (hD0 : va_D (fun q => base ≤ q) [(q, .inr (1, [.int (nI 0), .int (nI 0), .null, .null, .null, .int (nI 0), .int (nI 0)]))]) (hbs : base ≤ H0.size)  : Met l yS_init wS_init ({ frames := 1, cells := 3, slots := 182, locals := 12 }) (Pq D κ base [.ref q, .int (nI kd), .int (nI sp)] H0) (q_W (fun v H => Pst D (va_A [(q, .inr (1, [.int (nI 0), .int (nI 0), .null, .null, .null, .int (nI 0), .int (nI 0)]))] H0.size) H0 none [(q, .inr (1, [.int (nI kd), .int (nI sp), .ref (q + 1), .ref (q + 2), .ref (q + 3), .int (nI 0), .int (nI 0)])), ((q + 1), .inl (κ 0, 26, .inl (fun _ => nI 0))), ((q + 2), .inl (κ 1, 26, .inl (fun _ => nI 0))), ((q + 3), .inl (κ 0, 130, .inl (fun _ => nI 0)))] v H ∧ H.size = q + 4)) 3 182 (va_A [(q, .inr (1, [.int (nI 0), .int (nI 0), .null, .null, .null, .int (nI 0), .int (nI 0)]))] H0.size) := by
  refine Met.ofW (cc := bS_init) (maxL := 3) (ret := none) (by decide) rfl ?_
  intro p e s m args below meth c s₁ B hml hv
  obtain ⟨rfl, hH, hE⟩ := hv
  subst hH
  have hx := B.exec
  have hb := B.bytes
  have hr := B.returns
  have hT : ∀ w ∈ TT, w.before _ s = true := fun w h => atoms_spec (ws := wS_init) B.pre w (List.mem_cons_of_mem _ h)
  have hown : s.vm.findClass "TasterPanels$Test" = some m.cls := findClass_of_methodNamed B.named
  have hlocks := B.notSynchronized
  have hin : meth.name = "<init>" := (name_of_methodNamed B.named B.method).1
  have hK := hE.1
  have hD := hD0.self (sz := s.heap.size)
  have hAb : ∀ x9, va_A [(q, .inr (1, [.int (nI 0), .int (nI 0), .null, .null, .null, .int (nI 0), .int (nI 0)]))] s.heap.size x9 → base ≤ x9 := fun x9 h => by rcases h with ⟨k, e, h⟩ | h; exact hD0.2 k _ h; exact Nat.le_trans hbs h
  generalize hAe : va_A [(q, .inr (1, [.int (nI 0), .int (nI 0), .null, .null, .null, .int (nI 0), .int (nI 0)]))] s.heap.size = A at hD hAb ⊢
  have hA : ∀ x9, s.heap.size ≤ x9 → A x9 := fun x9 h => by rw [← hAe]; exact Or.inr h
  have hS : va_S A s.heap s.heap [] := va_S.rf
  have hl := lv_entry ([.ref q, .int (nI kd), .int (nI sp)]) (n := 3) (Nat.le_of_ble_eq_true rfl)
  rw [lg_entry_eq]
  generalize (lg_sl ([.ref q, .int (nI kd), .int (nI sp)]) ++ List.replicate (3 - (lg_sl ([.ref q, .int (nI kd), .int (nI sp)])).length) Slot.unset).toArray = ls at hl ⊢
  have hl : lv_has ls 3 [(0, .ref q), (1, .int (nI kd)), (2, .int (nI sp))] := hl
  refine lv_aload_n hx hb dS_init_0 rfl (lv_at hl 0 rfl) ?_
  refine W.objInit hx hb hown (hT _ kS3) (hT _ ki_obj) (hT _ kc_obj') rfl (by rw [hml]; exact hl.1) rfl dS_init_1 (Nat.le_of_ble_eq_true rfl) (Nat.le_of_ble_eq_true rfl) ?_
  refine W.eq (g2 := F0 m 4 ls []) rfl ?_
  refine lv_aload_n hx hb dS_init_4 rfl (lv_at hl 0 rfl) ?_
  refine lv_bipush (v := nI 26) hx hb dS_init_5 (by decide) ?_
  refine x_newa (atype := .int) (a0 := (26, .inl (fun _ => nI 0))) hx hb (hT _ ka_int) rfl (fun C h => by cases h) hK hP hD hS hA 0 rfl (fun _ => rfl) (by decide) (by decide) (Nat.le_of_ble_eq_true rfl) (Nat.le_of_ble_eq_true rfl) hz dS_init_7 (fun H hP hD hS hz => ?_)
  have hP : va_P D vwCl [(q, .inr (1, [.int (nI 0), .int (nI 0), .null, .null, .null, .int (nI 0), .int (nI 0)])), ((q + 1), .inl (κ 0, 26, .inl (fun _ => nI 0)))] H := hP
  have hD : va_D A [(q, .inr (1, [.int (nI 0), .int (nI 0), .null, .null, .null, .int (nI 0), .int (nI 0)])), ((q + 1), .inl (κ 0, 26, .inl (fun _ => nI 0)))] := hD
  refine x_putF (D := D) (ci := 1) (v := .ref (q + 1)) (ty := .array .int) (C := RS) (T := FS) (N := 7) hx hb hT inS tyS tyS_ok nmS hown hK hP hD hS 0 rfl rfl 2 (by decide) (hT _ kS9) (fun _ h9 => h9) rfl hin rfl (by decide +kernel) rfl rfl (Nat.le_of_ble_eq_true rfl) dS_init_9 (fun H locs hP hD hS hz9 => ?_)
  rw [hz] at hz9
  have hz := hz9
  have hP : va_P D vwCl [(q, .inr (1, [.int (nI 0), .int (nI 0), .ref (q + 1), .null, .null, .int (nI 0), .int (nI 0)])), ((q + 1), .inl (κ 0, 26, .inl (fun _ => nI 0)))] H := hP
  have hD : va_D A [(q, .inr (1, [.int (nI 0), .int (nI 0), .ref (q + 1), .null, .null, .int (nI 0), .int (nI 0)])), ((q + 1), .inl (κ 0, 26, .inl (fun _ => nI 0)))] := hD
  refine lv_aload_n hx hb dS_init_12 rfl (lv_at hl 0 rfl) ?_
  refine lv_bipush (v := nI 26) hx hb dS_init_13 (by decide) ?_
  refine x_newa (atype := .boolean) (a0 := (26, .inl (fun _ => nI 0))) hx hb (hT _ ka_boolean) rfl (fun C h => by cases h) hK hP hD hS hA 1 rfl (fun _ => rfl) (by decide) (by decide) (Nat.le_of_ble_eq_true rfl) (Nat.le_of_ble_eq_true rfl) hz dS_init_15 (fun H hP hD hS hz => ?_)
  have hP : va_P D vwCl [(q, .inr (1, [.int (nI 0), .int (nI 0), .ref (q + 1), .null, .null, .int (nI 0), .int (nI 0)])), ((q + 1), .inl (κ 0, 26, .inl (fun _ => nI 0))), ((q + 2), .inl (κ 1, 26, .inl (fun _ => nI 0)))] H := hP
  have hD : va_D A [(q, .inr (1, [.int (nI 0), .int (nI 0), .ref (q + 1), .null, .null, .int (nI 0), .int (nI 0)])), ((q + 1), .inl (κ 0, 26, .inl (fun _ => nI 0))), ((q + 2), .inl (κ 1, 26, .inl (fun _ => nI 0)))] := hD
  refine x_putF (D := D) (ci := 1) (v := .ref (q + 2)) (ty := .array .boolean) (C := RS) (T := FS) (N := 7) hx hb hT inS tyS tyS_ok nmS hown hK hP hD hS 0 rfl rfl 3 (by decide) (hT _ kS15) (fun _ h9 => h9) rfl hin rfl (by decide +kernel) rfl rfl (Nat.le_of_ble_eq_true rfl) dS_init_17 (fun H locs hP hD hS hz9 => ?_)
  rw [hz] at hz9
  have hz := hz9
  have hP : va_P D vwCl [(q, .inr (1, [.int (nI 0), .int (nI 0), .ref (q + 1), .ref (q + 2), .null, .int (nI 0), .int (nI 0)])), ((q + 1), .inl (κ 0, 26, .inl (fun _ => nI 0))), ((q + 2), .inl (κ 1, 26, .inl (fun _ => nI 0)))] H := hP
  have hD : va_D A [(q, .inr (1, [.int (nI 0), .int (nI 0), .ref (q + 1), .ref (q + 2), .null, .int (nI 0), .int (nI 0)])), ((q + 1), .inl (κ 0, 26, .inl (fun _ => nI 0))), ((q + 2), .inl (κ 1, 26, .inl (fun _ => nI 0)))] := hD
  refine lv_aload_n hx hb dS_init_20 rfl (lv_at hl 0 rfl) ?_
  refine lv_sipush (v := nI 130) hx hb dS_init_21 (by decide) ?_
  refine x_newa (atype := .int) (a0 := (130, .inl (fun _ => nI 0))) hx hb (hT _ ka_int) rfl (fun C h => by cases h) hK hP hD hS hA 0 rfl (fun _ => rfl) (by decide) (by decide) (Nat.le_of_ble_eq_true rfl) (Nat.le_of_ble_eq_true rfl) hz dS_init_24 (fun H hP hD hS hz => ?_)
  have hP : va_P D vwCl [(q, .inr (1, [.int (nI 0), .int (nI 0), .ref (q + 1), .ref (q + 2), .null, .int (nI 0), .int (nI 0)])), ((q + 1), .inl (κ 0, 26, .inl (fun _ => nI 0))), ((q + 2), .inl (κ 1, 26, .inl (fun _ => nI 0))), ((q + 3), .inl (κ 0, 130, .inl (fun _ => nI 0)))] H := hP
  have hD : va_D A [(q, .inr (1, [.int (nI 0), .int (nI 0), .ref (q + 1), .ref (q + 2), .null, .int (nI 0), .int (nI 0)])), ((q + 1), .inl (κ 0, 26, .inl (fun _ => nI 0))), ((q + 2), .inl (κ 1, 26, .inl (fun _ => nI 0))), ((q + 3), .inl (κ 0, 130, .inl (fun _ => nI 0)))] := hD
  refine x_putF (D := D) (ci := 1) (v := .ref (q + 3)) (ty := .array .int) (C := RS) (T := FS) (N := 7) hx hb hT inS tyS tyS_ok nmS hown hK hP hD hS 0 rfl rfl 4 (by decide) (hT _ kS19) (fun _ h9 => h9) rfl hin rfl (by decide +kernel) rfl rfl (Nat.le_of_ble_eq_true rfl) dS_init_26 (fun H locs hP hD hS hz9 => ?_)
  rw [hz] at hz9
  have hz := hz9
  have hP : va_P D vwCl [(q, .inr (1, [.int (nI 0), .int (nI 0), .ref (q + 1), .ref (q + 2), .ref (q + 3), .int (nI 0), .int (nI 0)])), ((q + 1), .inl (κ 0, 26, .inl (fun _ => nI 0))), ((q + 2), .inl (κ 1, 26, .inl (fun _ => nI 0))), ((q + 3), .inl (κ 0, 130, .inl (fun _ => nI 0)))] H := hP
  have hD : va_D A [(q, .inr (1, [.int (nI 0), .int (nI 0), .ref (q + 1), .ref (q + 2), .ref (q + 3), .int (nI 0), .int (nI 0)])), ((q + 1), .inl (κ 0, 26, .inl (fun _ => nI 0))), ((q + 2), .inl (κ 1, 26, .inl (fun _ => nI 0))), ((q + 3), .inl (κ 0, 130, .inl (fun _ => nI 0)))] := hD
  refine lv_aload_n hx hb dS_init_29 rfl (lv_at hl 0 rfl) ?_
  refine lv_iload_n hx hb dS_init_30 rfl (lv_at hl 1 rfl) ?_
  refine x_putF (D := D) (ci := 1) (v := .int (nI kd)) (ty := .int) (C := RS) (T := FS) (N := 7) hx hb hT inS tyS tyS_ok nmS hown hK hP hD hS 0 rfl rfl 0 (by decide) (hT _ kS22) (fun _ h9 => h9) rfl hin rfl (by decide +kernel) rfl rfl (Nat.le_of_ble_eq_true rfl) dS_init_31 (fun H locs hP hD hS hz9 => ?_)
  rw [hz] at hz9
  have hz := hz9
  have hP : va_P D vwCl [(q, .inr (1, [.int (nI kd), .int (nI 0), .ref (q + 1), .ref (q + 2), .ref (q + 3), .int (nI 0), .int (nI 0)])), ((q + 1), .inl (κ 0, 26, .inl (fun _ => nI 0))), ((q + 2), .inl (κ 1, 26, .inl (fun _ => nI 0))), ((q + 3), .inl (κ 0, 130, .inl (fun _ => nI 0)))] H := hP
  have hD : va_D A [(q, .inr (1, [.int (nI kd), .int (nI 0), .ref (q + 1), .ref (q + 2), .ref (q + 3), .int (nI 0), .int (nI 0)])), ((q + 1), .inl (κ 0, 26, .inl (fun _ => nI 0))), ((q + 2), .inl (κ 1, 26, .inl (fun _ => nI 0))), ((q + 3), .inl (κ 0, 130, .inl (fun _ => nI 0)))] := hD
  refine lv_aload_n hx hb dS_init_34 rfl (lv_at hl 0 rfl) ?_
  refine lv_iload_n hx hb dS_init_35 rfl (lv_at hl 2 rfl) ?_
  refine x_putF (D := D) (ci := 1) (v := .int (nI sp)) (ty := .int) (C := RS) (T := FS) (N := 7) hx hb hT inS tyS tyS_ok nmS hown hK hP hD hS 0 rfl rfl 1 (by decide) (hT _ kS26) (fun _ h9 => h9) rfl hin rfl (by decide +kernel) rfl rfl (Nat.le_of_ble_eq_true rfl) dS_init_36 (fun H locs hP hD hS hz9 => ?_)
  rw [hz] at hz9
  have hz := hz9
  have hP : va_P D vwCl [(q, .inr (1, [.int (nI kd), .int (nI sp), .ref (q + 1), .ref (q + 2), .ref (q + 3), .int (nI 0), .int (nI 0)])), ((q + 1), .inl (κ 0, 26, .inl (fun _ => nI 0))), ((q + 2), .inl (κ 1, 26, .inl (fun _ => nI 0))), ((q + 3), .inl (κ 0, 130, .inl (fun _ => nI 0)))] H := hP
  have hD : va_D A [(q, .inr (1, [.int (nI kd), .int (nI sp), .ref (q + 1), .ref (q + 2), .ref (q + 3), .int (nI 0), .int (nI 0)])), ((q + 1), .inl (κ 0, 26, .inl (fun _ => nI 0))), ((q + 2), .inl (κ 1, 26, .inl (fun _ => nI 0))), ((q + 3), .inl (κ 0, 130, .inl (fun _ => nI 0)))] := hD
  exact W.vret hx hb hr (fun t ht hW => ⟨none, rfl, by rw [ht]; exact ⟨⟨rfl, hP, hD, hS.1, hS.2.1⟩, hz⟩⟩) hS.2.2 dS_init_39
set_option maxHeartbeats 400000 in
set_option maxRecDepth 100000 in
theorem c_P_init (l : Launch) (D : va_G) (κ : Nat → ClassId) (base : Nat) (H0 : Heap) {a : Nat} (sd : Int64) (hz : H0.size = (a + 1)) (hP : va_P D vwCl [(a, .inr (2, [.long (lN 0), .null, .null, .int (nI 0), .int (nI 0), .null, .null]))] H0) (hD0 : va_D (fun q => base ≤ q) [(a, .inr (2, [.long (lN 0), .null, .null, .int (nI 0), .int (nI 0), .null, .null]))]) (hbs : base ≤ H0.size)  : Met l yP_init wP_init ({ frames := 1, cells := 4, slots := 317, locals := 12 }) (Pq D κ base [.ref a, .long sd] H0) (q_W (fun v H => Pst D (va_A [(a, .inr (2, [.long (lN 0), .null, .null, .int (nI 0), .int (nI 0), .null, .null]))] H0.size) H0 none [(a, .inr (2, [.long sd, .ref (a + 1), .ref (a + 2), .int (nI 0), .int (nI 0), .ref (a + 3), .ref (a + 4)])), ((a + 1), .inl (κ 3, 26, .inr (.inr (.inr (.inr (fun _ => none)))))), ((a + 2), .inl (κ 4, 40, .inr (.inr (.inr (.inr (fun _ => none)))))), ((a + 3), .inl (κ 0, 120, .inl (fun _ => nI 0))), ((a + 4), .inl (κ 2, 131, .inr (.inl (fun _ => lN 0))))] v H ∧ H.size = a + 5)) 4 317 (va_A [(a, .inr (2, [.long (lN 0), .null, .null, .int (nI 0), .int (nI 0), .null, .null]))] H0.size) := by
  refine Met.ofW (cc := bP_init) (maxL := 3) (ret := none) (by decide) rfl ?_
  intro p e s m args below meth c s₁ B hml hv
  obtain ⟨rfl, hH, hE⟩ := hv
  subst hH
  have hx := B.exec
  have hb := B.bytes
  have hr := B.returns
  have hT : ∀ w ∈ TT, w.before _ s = true := fun w h => atoms_spec (ws := wP_init) B.pre w (List.mem_cons_of_mem _ h)
  have hown : s.vm.findClass "TasterPanels" = some m.cls := findClass_of_methodNamed B.named
  have hlocks := B.notSynchronized
  have hin : meth.name = "<init>" := (name_of_methodNamed B.named B.method).1
  have hK := hE.1
  have hD := hD0.self (sz := s.heap.size)
  have hAb : ∀ x9, va_A [(a, .inr (2, [.long (lN 0), .null, .null, .int (nI 0), .int (nI 0), .null, .null]))] s.heap.size x9 → base ≤ x9 := fun x9 h => by rcases h with ⟨k, e, h⟩ | h; exact hD0.2 k _ h; exact Nat.le_trans hbs h
  generalize hAe : va_A [(a, .inr (2, [.long (lN 0), .null, .null, .int (nI 0), .int (nI 0), .null, .null]))] s.heap.size = A at hD hAb ⊢
  have hA : ∀ x9, s.heap.size ≤ x9 → A x9 := fun x9 h => by rw [← hAe]; exact Or.inr h
  have hS : va_S A s.heap s.heap [] := va_S.rf
  have hl := lv_entry ([.ref a, .long sd]) (n := 3) (Nat.le_of_ble_eq_true rfl)
  rw [lg_entry_eq]
  generalize (lg_sl ([.ref a, .long sd]) ++ List.replicate (3 - (lg_sl ([.ref a, .long sd])).length) Slot.unset).toArray = ls at hl ⊢
  have hl : lv_has ls 3 [(0, .ref a), (1, .long sd)] := hl
  refine lv_aload_n hx hb dP_init_0 rfl (lv_at hl 0 rfl) ?_
  refine W.objInit hx hb hown (hT _ kP1) (hT _ ki_obj) (hT _ kc_obj') rfl (by rw [hml]; exact hl.1) rfl dP_init_1 (Nat.le_of_ble_eq_true rfl) (Nat.le_of_ble_eq_true rfl) ?_
  refine W.eq (g2 := F0 m 4 ls []) rfl ?_
  refine lv_aload_n hx hb dP_init_4 rfl (lv_at hl 0 rfl) ?_
  refine lv_bipush (v := nI 26) hx hb dP_init_5 (by decide) ?_
  refine x_newq hx hb hown (hT _ kP9) hE.2.1.2.1 hK hP hD hS hA 3 rfl (by decide) (by decide) (Nat.le_of_ble_eq_true rfl) (Nat.le_of_ble_eq_true rfl) hz dP_init_7 (fun H hP hD hS hz => ?_)
  have hP : va_P D vwCl [(a, .inr (2, [.long (lN 0), .null, .null, .int (nI 0), .int (nI 0), .null, .null])), ((a + 1), .inl (κ 3, 26, .inr (.inr (.inr (.inr (fun _ => none))))))] H := hP
  have hD : va_D A [(a, .inr (2, [.long (lN 0), .null, .null, .int (nI 0), .int (nI 0), .null, .null])), ((a + 1), .inl (κ 3, 26, .inr (.inr (.inr (.inr (fun _ => none))))))] := hD
  refine x_putF (D := D) (ci := 2) (v := .ref (a + 1)) (ty := .array (.object "TasterPanels$Taster")) (C := RP) (T := FP) (N := 7) hx hb hT inP tyP tyP_ok nmP hown hK hP hD hS 0 rfl rfl 1 (by decide) (hT _ kP11) (fun _ h9 => h9) rfl hin rfl (by decide +kernel) rfl rfl (Nat.le_of_ble_eq_true rfl) dP_init_10 (fun H locs hP hD hS hz9 => ?_)
  rw [hz] at hz9
  have hz := hz9
  have hP : va_P D vwCl [(a, .inr (2, [.long (lN 0), .ref (a + 1), .null, .int (nI 0), .int (nI 0), .null, .null])), ((a + 1), .inl (κ 3, 26, .inr (.inr (.inr (.inr (fun _ => none))))))] H := hP
  have hD : va_D A [(a, .inr (2, [.long (lN 0), .ref (a + 1), .null, .int (nI 0), .int (nI 0), .null, .null])), ((a + 1), .inl (κ 3, 26, .inr (.inr (.inr (.inr (fun _ => none))))))] := hD
  refine lv_aload_n hx hb dP_init_13 rfl (lv_at hl 0 rfl) ?_
  refine lv_bipush (v := nI 40) hx hb dP_init_14 (by decide) ?_
  refine x_newq hx hb hown (hT _ kP15) hE.2.1.2.2 hK hP hD hS hA 4 rfl (by decide) (by decide) (Nat.le_of_ble_eq_true rfl) (Nat.le_of_ble_eq_true rfl) hz dP_init_16 (fun H hP hD hS hz => ?_)
  have hP : va_P D vwCl [(a, .inr (2, [.long (lN 0), .ref (a + 1), .null, .int (nI 0), .int (nI 0), .null, .null])), ((a + 1), .inl (κ 3, 26, .inr (.inr (.inr (.inr (fun _ => none)))))), ((a + 2), .inl (κ 4, 40, .inr (.inr (.inr (.inr (fun _ => none))))))] H := hP
  have hD : va_D A [(a, .inr (2, [.long (lN 0), .ref (a + 1), .null, .int (nI 0), .int (nI 0), .null, .null])), ((a + 1), .inl (κ 3, 26, .inr (.inr (.inr (.inr (fun _ => none)))))), ((a + 2), .inl (κ 4, 40, .inr (.inr (.inr (.inr (fun _ => none))))))] := hD
  refine x_putF (D := D) (ci := 2) (v := .ref (a + 2)) (ty := .array (.object "TasterPanels$Test")) (C := RP) (T := FP) (N := 7) hx hb hT inP tyP tyP_ok nmP hown hK hP hD hS 0 rfl rfl 2 (by decide) (hT _ kP17) (fun _ h9 => h9) rfl hin rfl (by decide +kernel) rfl rfl (Nat.le_of_ble_eq_true rfl) dP_init_19 (fun H locs hP hD hS hz9 => ?_)
  rw [hz] at hz9
  have hz := hz9
  have hP : va_P D vwCl [(a, .inr (2, [.long (lN 0), .ref (a + 1), .ref (a + 2), .int (nI 0), .int (nI 0), .null, .null])), ((a + 1), .inl (κ 3, 26, .inr (.inr (.inr (.inr (fun _ => none)))))), ((a + 2), .inl (κ 4, 40, .inr (.inr (.inr (.inr (fun _ => none))))))] H := hP
  have hD : va_D A [(a, .inr (2, [.long (lN 0), .ref (a + 1), .ref (a + 2), .int (nI 0), .int (nI 0), .null, .null])), ((a + 1), .inl (κ 3, 26, .inr (.inr (.inr (.inr (fun _ => none)))))), ((a + 2), .inl (κ 4, 40, .inr (.inr (.inr (.inr (fun _ => none))))))] := hD
  refine lv_aload_n hx hb dP_init_22 rfl (lv_at hl 0 rfl) ?_
  refine lv_bipush (v := nI 120) hx hb dP_init_23 (by decide) ?_
  refine x_newa (atype := .int) (a0 := (120, .inl (fun _ => nI 0))) hx hb (hT _ ka_int) rfl (fun C h => by cases h) hK hP hD hS hA 0 rfl (fun _ => rfl) (by decide) (by decide) (Nat.le_of_ble_eq_true rfl) (Nat.le_of_ble_eq_true rfl) hz dP_init_25 (fun H hP hD hS hz => ?_)
  have hP : va_P D vwCl [(a, .inr (2, [.long (lN 0), .ref (a + 1), .ref (a + 2), .int (nI 0), .int (nI 0), .null, .null])), ((a + 1), .inl (κ 3, 26, .inr (.inr (.inr (.inr (fun _ => none)))))), ((a + 2), .inl (κ 4, 40, .inr (.inr (.inr (.inr (fun _ => none)))))), ((a + 3), .inl (κ 0, 120, .inl (fun _ => nI 0)))] H := hP
  have hD : va_D A [(a, .inr (2, [.long (lN 0), .ref (a + 1), .ref (a + 2), .int (nI 0), .int (nI 0), .null, .null])), ((a + 1), .inl (κ 3, 26, .inr (.inr (.inr (.inr (fun _ => none)))))), ((a + 2), .inl (κ 4, 40, .inr (.inr (.inr (.inr (fun _ => none)))))), ((a + 3), .inl (κ 0, 120, .inl (fun _ => nI 0)))] := hD
  refine x_putF (D := D) (ci := 2) (v := .ref (a + 3)) (ty := .array .int) (C := RP) (T := FP) (N := 7) hx hb hT inP tyP tyP_ok nmP hown hK hP hD hS 0 rfl rfl 5 (by decide) (hT _ kP21) (fun _ h9 => h9) rfl hin rfl (by decide +kernel) rfl rfl (Nat.le_of_ble_eq_true rfl) dP_init_27 (fun H locs hP hD hS hz9 => ?_)
  rw [hz] at hz9
  have hz := hz9
  have hP : va_P D vwCl [(a, .inr (2, [.long (lN 0), .ref (a + 1), .ref (a + 2), .int (nI 0), .int (nI 0), .ref (a + 3), .null])), ((a + 1), .inl (κ 3, 26, .inr (.inr (.inr (.inr (fun _ => none)))))), ((a + 2), .inl (κ 4, 40, .inr (.inr (.inr (.inr (fun _ => none)))))), ((a + 3), .inl (κ 0, 120, .inl (fun _ => nI 0)))] H := hP
  have hD : va_D A [(a, .inr (2, [.long (lN 0), .ref (a + 1), .ref (a + 2), .int (nI 0), .int (nI 0), .ref (a + 3), .null])), ((a + 1), .inl (κ 3, 26, .inr (.inr (.inr (.inr (fun _ => none)))))), ((a + 2), .inl (κ 4, 40, .inr (.inr (.inr (.inr (fun _ => none)))))), ((a + 3), .inl (κ 0, 120, .inl (fun _ => nI 0)))] := hD
  refine lv_aload_n hx hb dP_init_30 rfl (lv_at hl 0 rfl) ?_
  refine lv_sipush (v := nI 131) hx hb dP_init_31 (by decide) ?_
  refine x_newa (atype := .long) (a0 := (131, .inr (.inl (fun _ => lN 0)))) hx hb (hT _ ka_long) rfl (fun C h => by cases h) hK hP hD hS hA 2 rfl (fun _ => rfl) (by decide) (by decide) (Nat.le_of_ble_eq_true rfl) (Nat.le_of_ble_eq_true rfl) hz dP_init_34 (fun H hP hD hS hz => ?_)
  have hP : va_P D vwCl [(a, .inr (2, [.long (lN 0), .ref (a + 1), .ref (a + 2), .int (nI 0), .int (nI 0), .ref (a + 3), .null])), ((a + 1), .inl (κ 3, 26, .inr (.inr (.inr (.inr (fun _ => none)))))), ((a + 2), .inl (κ 4, 40, .inr (.inr (.inr (.inr (fun _ => none)))))), ((a + 3), .inl (κ 0, 120, .inl (fun _ => nI 0))), ((a + 4), .inl (κ 2, 131, .inr (.inl (fun _ => lN 0))))] H := hP
  have hD : va_D A [(a, .inr (2, [.long (lN 0), .ref (a + 1), .ref (a + 2), .int (nI 0), .int (nI 0), .ref (a + 3), .null])), ((a + 1), .inl (κ 3, 26, .inr (.inr (.inr (.inr (fun _ => none)))))), ((a + 2), .inl (κ 4, 40, .inr (.inr (.inr (.inr (fun _ => none)))))), ((a + 3), .inl (κ 0, 120, .inl (fun _ => nI 0))), ((a + 4), .inl (κ 2, 131, .inr (.inl (fun _ => lN 0))))] := hD
  refine x_putF (D := D) (ci := 2) (v := .ref (a + 4)) (ty := .array .long) (C := RP) (T := FP) (N := 7) hx hb hT inP tyP tyP_ok nmP hown hK hP hD hS 0 rfl rfl 6 (by decide) (hT _ kP25) (fun _ h9 => h9) rfl hin rfl (by decide +kernel) rfl rfl (Nat.le_of_ble_eq_true rfl) dP_init_36 (fun H locs hP hD hS hz9 => ?_)
  rw [hz] at hz9
  have hz := hz9
  have hP : va_P D vwCl [(a, .inr (2, [.long (lN 0), .ref (a + 1), .ref (a + 2), .int (nI 0), .int (nI 0), .ref (a + 3), .ref (a + 4)])), ((a + 1), .inl (κ 3, 26, .inr (.inr (.inr (.inr (fun _ => none)))))), ((a + 2), .inl (κ 4, 40, .inr (.inr (.inr (.inr (fun _ => none)))))), ((a + 3), .inl (κ 0, 120, .inl (fun _ => nI 0))), ((a + 4), .inl (κ 2, 131, .inr (.inl (fun _ => lN 0))))] H := hP
  have hD : va_D A [(a, .inr (2, [.long (lN 0), .ref (a + 1), .ref (a + 2), .int (nI 0), .int (nI 0), .ref (a + 3), .ref (a + 4)])), ((a + 1), .inl (κ 3, 26, .inr (.inr (.inr (.inr (fun _ => none)))))), ((a + 2), .inl (κ 4, 40, .inr (.inr (.inr (.inr (fun _ => none)))))), ((a + 3), .inl (κ 0, 120, .inl (fun _ => nI 0))), ((a + 4), .inl (κ 2, 131, .inr (.inl (fun _ => lN 0))))] := hD
  refine lv_aload_n hx hb dP_init_39 rfl (lv_at hl 0 rfl) ?_
  refine lv_lload_n hx hb dP_init_40 rfl (lv_at hl 1 rfl) ?_
  refine x_putF (D := D) (ci := 2) (v := .long sd) (ty := .long) (C := RP) (T := FP) (N := 7) hx hb hT inP tyP tyP_ok nmP hown hK hP hD hS 0 rfl rfl 0 (by decide) (hT _ kP29) (fun _ h9 => h9) rfl hin rfl (by decide +kernel) rfl rfl (Nat.le_of_ble_eq_true rfl) dP_init_41 (fun H locs hP hD hS hz9 => ?_)
  rw [hz] at hz9
  have hz := hz9
  have hP : va_P D vwCl [(a, .inr (2, [.long sd, .ref (a + 1), .ref (a + 2), .int (nI 0), .int (nI 0), .ref (a + 3), .ref (a + 4)])), ((a + 1), .inl (κ 3, 26, .inr (.inr (.inr (.inr (fun _ => none)))))), ((a + 2), .inl (κ 4, 40, .inr (.inr (.inr (.inr (fun _ => none)))))), ((a + 3), .inl (κ 0, 120, .inl (fun _ => nI 0))), ((a + 4), .inl (κ 2, 131, .inr (.inl (fun _ => lN 0))))] H := hP
  have hD : va_D A [(a, .inr (2, [.long sd, .ref (a + 1), .ref (a + 2), .int (nI 0), .int (nI 0), .ref (a + 3), .ref (a + 4)])), ((a + 1), .inl (κ 3, 26, .inr (.inr (.inr (.inr (fun _ => none)))))), ((a + 2), .inl (κ 4, 40, .inr (.inr (.inr (.inr (fun _ => none)))))), ((a + 3), .inl (κ 0, 120, .inl (fun _ => nI 0))), ((a + 4), .inl (κ 2, 131, .inr (.inl (fun _ => lN 0))))] := hD
  exact W.vret hx hb hr (fun t ht hW => ⟨none, rfl, by rw [ht]; exact ⟨⟨rfl, hP, hD, hS.1, hS.2.1⟩, hz⟩⟩) hS.2.2 dP_init_44
end
section
/-! lifting: the state behind a write -/
def u2 (f : Nat → Nat → Nat) (i k v : Nat) : Nat → Nat → Nat := fun i' k' => if i' = i ∧ k' = k then v else f i' k'
def u1 (f : Nat → Nat) (i v : Nat) : Nat → Nat := fun i' => if i' = i then v else f i'
theorem u2_ne {f : Nat → Nat → Nat} {i k v i' : Nat} (h : i' ≠ i) : u2 f i k v i' = f i' := by
  funext k'
  simp [u2, h]
theorem u1_ne {f : Nat → Nat} {i v i' : Nat} (h : i' ≠ i) : u1 f i v i' = f i' := by simp [u1, h]
theorem u1_eq {f : Nat → Nat} {i v : Nat} : u1 f i v i = v := by simp [u1]
theorem u2_upd {f : Nat → Nat → Nat} {i k v : Nat} : upd (fun k' => nI (f i k')) k (nI v) = fun k' => nI (u2 f i k v i k') := by
  funext k'
  by_cases h : k' = k
  · simp [upd, u2, h]
  · simp [upd, u2, h]
theorem u2_le {f : Nat → Nat → Nat} {i k v i' k' B : Nat} (h : f i' k' ≤ B) (hv : v ≤ B) : u2 f i k v i' k' ≤ B := by
  unfold u2
  split <;> assumption
theorem D_of {Z : Nat → Prop} {ws : va_W} (h : (ws.map Prod.fst).Nodup) (hb : ∀ x ∈ ws.map Prod.fst, Z x) : va_D Z ws := by
  refine ⟨fun i j p q hi hj e => ?_, fun k q hk => hb _ (List.mem_map.mpr ⟨q, List.mem_of_getElem? hk, rfl⟩)⟩
  have h1 : (ws.map Prod.fst)[i]? = some p.1 := by rw [List.getElem?_map, hi]; rfl
  have h2 : (ws.map Prod.fst)[j]? = some p.1 := by rw [List.getElem?_map, hj, e]; rfl
  have l1 := (List.getElem?_eq_some_iff.mp h1).1
  exact (List.getElem?_inj l1 h).mp (h1.trans h2.symm)
theorem A_addr {ws : va_W} {sz q : Nat} (h : va_A ws sz q) : q ∈ ws.map Prod.fst ∨ sz ≤ q := by
  rcases h with ⟨k, e, h⟩ | h
  · exact Or.inl (List.mem_map.mpr ⟨_, List.mem_of_getElem? h, rfl⟩)
  · exact Or.inr h
theorem keepW {D : va_G} {ws : va_W} {A : Nat → Prop} {H0 H : Heap} (hk : ∀ q : Nat, q < H0.size → ¬ A q → H[q]? = H0[q]?) (hP : va_P D vwCl ws H0) (hn : ∀ x ∈ ws.map Prod.fst, ¬ A x) : va_P D vwCl ws H :=
  hP.kept (fun k q h => hk q.1 (hP k q h).lt (hn _ (List.mem_map.mpr ⟨q, List.mem_of_getElem? h, rfl⟩)))
/-- the class's own cells, and new ones -/
def OwnC (a nT nS : Nat) (bT bS : Nat → Nat) (sz q : Nat) : Prop := (a ≤ q ∧ q < a + 5) ∨ (∃ i, i < nT ∧ bT i ≤ q ∧ q < bT i + 3) ∨ (∃ j, j < nS ∧ bS j ≤ q ∧ q < bS j + 4) ∨ sz ≤ q
def FrC (a nT nS : Nat) (bT bS : Nat → Nat) (H0 H : Heap) : Prop := H0.size ≤ H.size ∧ ∀ q : Nat, q < H0.size → ¬ OwnC a nT nS bT bS H0.size q → H[q]? = H0[q]?
theorem FrC.rf {a nT nS : Nat} {bT bS : Nat → Nat} {H0 : Heap} : FrC a nT nS bT bS H0 H0 := ⟨Nat.le_refl _, fun _ _ _ => rfl⟩
theorem ownTS {a nT nS sz q i j : Nat} {bT bS : Nat → Nat} (hi : i < nT) (hj : j < nS) (h : (a ≤ q ∧ q < a + 5) ∨ (bT i ≤ q ∧ q < bT i + 3) ∨ (bS j ≤ q ∧ q < bS j + 4) ∨ sz ≤ q) : OwnC a nT nS bT bS sz q := by
  rcases h with h | h | h | h
  · exact Or.inl h
  · exact Or.inr (Or.inl ⟨i, hi, h⟩)
  · exact Or.inr (Or.inr (Or.inl ⟨j, hj, h⟩))
  · exact Or.inr (Or.inr (Or.inr h))
theorem ownT {a nT nS sz q i : Nat} {bT bS : Nat → Nat} (hi : i < nT) (h : (a ≤ q ∧ q < a + 5) ∨ (bT i ≤ q ∧ q < bT i + 3) ∨ sz ≤ q) : OwnC a nT nS bT bS sz q := by
  rcases h with h | h | h
  · exact Or.inl h
  · exact Or.inr (Or.inl ⟨i, hi, h⟩)
  · exact Or.inr (Or.inr (Or.inr h))
theorem ownS {a nT nS sz q j : Nat} {bT bS : Nat → Nat} (hj : j < nS) (h : (a ≤ q ∧ q < a + 5) ∨ (bS j ≤ q ∧ q < bS j + 4) ∨ sz ≤ q) : OwnC a nT nS bT bS sz q := by
  rcases h with h | h | h
  · exact Or.inl h
  · exact Or.inr (Or.inr (Or.inl ⟨j, hj, h⟩))
  · exact Or.inr (Or.inr (Or.inr h))
theorem ownR {a nT nS sz q : Nat} {bT bS : Nat → Nat} (h : (a ≤ q ∧ q < a + 5) ∨ sz ≤ q) : OwnC a nT nS bT bS sz q := by
  rcases h with h | h
  · exact Or.inl h
  · exact Or.inr (Or.inr (Or.inr h))
theorem OwnC.base {base a nT nS h : Nat} {bT bS : Nat → Nat} {q : Nat} (ha : base ≤ a) (hah : a ≤ h) (h1 : ∀ i, i < nT → a + 5 ≤ bT i ∧ bT i + 3 ≤ h) (h2 : ∀ j, j < nS → a + 5 ≤ bS j ∧ bS j + 4 ≤ h) (hq : OwnC a nT nS bT bS h q) : base ≤ q := by
  rcases hq with h | ⟨i, hi, h⟩ | ⟨j, hj, h⟩ | h
  · omega
  · have := h1 i hi; omega
  · have := h2 j hj; omega
  · omega
theorem RC_level {D : va_G} {κ : Nat → ClassId} {base a : Nat} {sd : Int64} {nT nS : Nat} {bT bS : Nat → Nat} {td fd : Nat → Nat → Nat} {ta tr kd sp ca cr : Nat → Nat} {od aw rk : Nat → Nat → Nat} {H0 H : Heap} {A : Nat → Prop} {fT : Nat → Option Nat} (hR : RC D κ base a sd nT nS bT bS td fd ta tr kd sp ca cr od aw rk H0) {i k z : Nat} (hi : i < nT) (hz : z ≤ 1) (hAq : ∀ x9, A x9 → (x9 = a ∨ x9 = (a + 1) ∨ x9 = (bT i) ∨ x9 = ((bT i) + 1) ∨ x9 = ((bT i) + 2)) ∨ H0.size ≤ x9)
    (hsz : H0.size ≤ H.size) (hk : ∀ q : Nat, q < H0.size → ¬ A q → H[q]? = H0[q]?) (hf : ∀ i, i < 26 → fT i = if i < nT then some (bT i) else none) (hP : va_P D vwCl [(a, .inr (2, [.long sd, .ref (a + 1), .ref (a + 2), .int (nI nT), .int (nI nS), .ref (a + 3), .ref (a + 4)])), ((a + 1), .inl (κ 3, 26, .inr (.inr (.inr (.inr fT))))), ((bT i), .inr (0, [.ref ((bT i) + 1), .ref ((bT i) + 2), .int (nI (ta i)), .int (nI (tr i))])), (((bT i) + 1), .inl (κ 1, 16, .inl (upd (fun k => nI (td i k)) k (nI 1)))), (((bT i) + 2), .inl (κ 1, 16, .inl (upd (fun k => nI (fd i k)) k (nI z))))] H) :
    RC D κ base a sd nT nS bT bS (u2 td i k 1) (u2 fd i k z) ta tr kd sp ca cr od aw rk H := by
  obtain ⟨⟨fT0, fS, mx, sw, hP0, hfT, hfS⟩, hTas, hTes, ⟨hnT, hnS, hba, hah⟩, hb1, hb2, hs1, hs2, hs3, hs4, hs5⟩ := hR
  refine ⟨⟨fT, fS, mx, sw, ?_, hf, hfS⟩, fun i' hi' => ?_, fun j hj => keepW hk (hTes j hj) ?_, ⟨⟨hnT, hnS, hba, by omega⟩, hb1, fun i' hi' => ?_, fun i' hi' => ?_, fun j hj => ?_, hs3, hs4, hs5⟩⟩
  · have h1 := hP.sub (ws' := [(a, .inr (2, [.long sd, .ref (a + 1), .ref (a + 2), .int (nI nT), .int (nI nS), .ref (a + 3), .ref (a + 4)])), ((a + 1), .inl (κ 3, 26, .inr (.inr (.inr (.inr fT)))))]) [0, 1] rfl
    have h2 := keepW hk (hP0.sub (ws' := [((a + 2), .inl (κ 4, 40, .inr (.inr (.inr (.inr fS))))), ((a + 3), .inl (κ 0, 120, .inl mx)), ((a + 4), .inl (κ 2, 131, .inr (.inl sw)))]) [2, 3, 4] rfl) (by
      simp only [List.map, List.nodup_cons, List.mem_cons, List.not_mem_nil, or_false, not_or, List.nodup_nil, and_true, not_false_eq_true, List.forall_mem_cons, forall_eq_or_imp, forall_eq]
      have := hs1 i hi
      refine ⟨fun q => ?_, fun q => ?_, fun q => ?_⟩ <;> (have := hAq _ q; omega))
    exact h1.app h2
  · by_cases e : i' = i
    · subst e
      have h3 := hP.sub (ws' := [((bT i'), .inr (0, [.ref ((bT i') + 1), .ref ((bT i') + 2), .int (nI (ta i')), .int (nI (tr i'))])), (((bT i') + 1), .inl (κ 1, 16, .inl (upd (fun k => nI (td i' k)) k (nI 1)))), (((bT i') + 2), .inl (κ 1, 16, .inl (upd (fun k => nI (fd i' k)) k (nI z))))]) [2, 3, 4] rfl
      rw [u2_upd, u2_upd] at h3
      exact h3
    · rw [u2_ne e, u2_ne e]
      refine keepW hk (hTas i' hi') ?_
      simp only [List.map, List.nodup_cons, List.mem_cons, List.not_mem_nil, or_false, not_or, List.nodup_nil, and_true, not_false_eq_true, List.forall_mem_cons, forall_eq_or_imp, forall_eq]
      have b1 := hs1 i hi
      have b2 := hs1 i' hi'
      have b3 : bT i + 3 ≤ bT i' ∨ bT i' + 3 ≤ bT i := by
        rcases Nat.lt_or_gt_of_ne e with q | q
        · exact Or.inr (hs3 i' i q hi)
        · exact Or.inl (hs3 i i' q hi')
      refine ⟨fun q => ?_, fun q => ?_, fun q => ?_⟩ <;> (have := hAq _ q; omega)
  · simp only [List.map, List.nodup_cons, List.mem_cons, List.not_mem_nil, or_false, not_or, List.nodup_nil, and_true, not_false_eq_true, List.forall_mem_cons, forall_eq_or_imp, forall_eq]
    have b1 := hs1 i hi
    have b2 := hs2 j hj
    have b3 := hs5 i j hi hj
    refine ⟨fun q => ?_, fun q => ?_, fun q => ?_, fun q => ?_⟩ <;> (have := hAq _ q; omega)
  · obtain ⟨c1, c2, c3⟩ := hb2 i' hi'
    exact ⟨c1, c2, fun k' hk' => ⟨u2_le (c3 k' hk').1 (Nat.le_refl 1), u2_le (c3 k' hk').2 hz⟩⟩
  · have := hs1 i' hi'; omega
  · have := hs2 j hj; omega
theorem RC_rank {D : va_G} {κ : Nat → ClassId} {base a : Nat} {sd : Int64} {nT nS : Nat} {bT bS : Nat → Nat} {td fd : Nat → Nat → Nat} {ta tr kd sp ca cr : Nat → Nat} {od aw rk : Nat → Nat → Nat} {H0 H : Heap} {A : Nat → Prop} {fT fS : Nat → Option Nat} (hR : RC D κ base a sd nT nS bT bS td fd ta tr kd sp ca cr od aw rk H0) {j x v : Nat} (hj : j < nS) (hv : v ≤ 5) (hAq : ∀ x9, A x9 → (x9 = a ∨ x9 = (a + 1) ∨ x9 = (a + 2) ∨ x9 = (bS j) ∨ x9 = ((bS j) + 3)) ∨ H0.size ≤ x9)
    (hsz : H0.size ≤ H.size) (hk : ∀ q : Nat, q < H0.size → ¬ A q → H[q]? = H0[q]?) (hf : ∀ i, i < 26 → fT i = if i < nT then some (bT i) else none) (hf2 : ∀ j, j < 40 → fS j = if j < nS then some (bS j) else none) (hP : va_P D vwCl [(a, .inr (2, [.long sd, .ref (a + 1), .ref (a + 2), .int (nI nT), .int (nI nS), .ref (a + 3), .ref (a + 4)])), ((a + 1), .inl (κ 3, 26, .inr (.inr (.inr (.inr fT))))), ((a + 2), .inl (κ 4, 40, .inr (.inr (.inr (.inr fS))))), ((bS j), .inr (1, [.int (nI (kd j)), .int (nI (sp j)), .ref ((bS j) + 1), .ref ((bS j) + 2), .ref ((bS j) + 3), .int (nI (ca j)), .int (nI (cr j))])), (((bS j) + 3), .inl (κ 0, 130, .inl (upd (fun x => nI (rk j x)) x (nI v))))] H) :
    RC D κ base a sd nT nS bT bS td fd ta tr kd sp ca cr od aw (u2 rk j x v) H := by
  obtain ⟨⟨fT0, fS0, mx, sw, hP0, hfT, hfS⟩, hTas, hTes, ⟨hnT, hnS, hba, hah⟩, hb1, hb2, hs1, hs2, hs3, hs4, hs5⟩ := hR
  refine ⟨⟨fT, fS, mx, sw, ?_, hf, hf2⟩, fun i hi => keepW hk (hTas i hi) ?_, fun j' hj' => ?_, ⟨⟨hnT, hnS, hba, by omega⟩, fun j' hj' => ?_, hb2, fun i' hi' => ?_, fun j hj => ?_, hs3, hs4, hs5⟩⟩
  · have h1 := hP.sub (ws' := [(a, .inr (2, [.long sd, .ref (a + 1), .ref (a + 2), .int (nI nT), .int (nI nS), .ref (a + 3), .ref (a + 4)])), ((a + 1), .inl (κ 3, 26, .inr (.inr (.inr (.inr fT))))), ((a + 2), .inl (κ 4, 40, .inr (.inr (.inr (.inr fS)))))]) [0, 1, 2] rfl
    have h2 := keepW hk (hP0.sub (ws' := [((a + 3), .inl (κ 0, 120, .inl mx)), ((a + 4), .inl (κ 2, 131, .inr (.inl sw)))]) [3, 4] rfl) (by
      simp only [List.map, List.nodup_cons, List.mem_cons, List.not_mem_nil, or_false, not_or, List.nodup_nil, and_true, not_false_eq_true, List.forall_mem_cons, forall_eq_or_imp, forall_eq]
      have := hs2 j hj
      refine ⟨fun q => ?_, fun q => ?_⟩ <;> (have := hAq _ q; omega))
    exact h1.app h2
  · simp only [List.map, List.nodup_cons, List.mem_cons, List.not_mem_nil, or_false, not_or, List.nodup_nil, and_true, not_false_eq_true, List.forall_mem_cons, forall_eq_or_imp, forall_eq]
    have b1 := hs1 i hi
    have b2 := hs2 j hj
    have b3 := hs5 i j hi hj
    refine ⟨fun q => ?_, fun q => ?_, fun q => ?_⟩ <;> (have := hAq _ q; omega)
  · by_cases e : j' = j
    · subst e
      have b2 := hs2 j' hj'
      have h3 := hP.sub (ws' := [((bS j'), .inr (1, [.int (nI (kd j')), .int (nI (sp j')), .ref ((bS j') + 1), .ref ((bS j') + 2), .ref ((bS j') + 3), .int (nI (ca j')), .int (nI (cr j'))]))]) [3] rfl
      have h4 := hP.sub (ws' := [(((bS j') + 3), .inl (κ 0, 130, .inl (upd (fun x => nI (rk j' x)) x (nI v))))]) [4] rfl
      have h5 := keepW hk ((hTes j' hj').sub (ws' := [(((bS j') + 1), .inl (κ 0, 26, .inl (fun i => nI (od j' i)))), (((bS j') + 2), .inl (κ 1, 26, .inl (fun i => nI (aw j' i))))]) [1, 2] rfl) (by
        simp only [List.map, List.nodup_cons, List.mem_cons, List.not_mem_nil, or_false, not_or, List.nodup_nil, and_true, not_false_eq_true, List.forall_mem_cons, forall_eq_or_imp, forall_eq]
        refine ⟨fun q => ?_, fun q => ?_⟩ <;> (have := hAq _ q; omega))
      rw [u2_upd] at h4
      exact (h3.app h5).app h4
    · rw [u2_ne e]
      refine keepW hk (hTes j' hj') ?_
      simp only [List.map, List.nodup_cons, List.mem_cons, List.not_mem_nil, or_false, not_or, List.nodup_nil, and_true, not_false_eq_true, List.forall_mem_cons, forall_eq_or_imp, forall_eq]
      have b1 := hs2 j hj
      have b2 := hs2 j' hj'
      have b3 : bS j + 4 ≤ bS j' ∨ bS j' + 4 ≤ bS j := by
        rcases Nat.lt_or_gt_of_ne e with q | q
        · exact Or.inr (hs4 j' j q hj)
        · exact Or.inl (hs4 j j' q hj')
      refine ⟨fun q => ?_, fun q => ?_, fun q => ?_, fun q => ?_⟩ <;> (have := hAq _ q; omega)
  · obtain ⟨c1, c2, c3, c4, c5⟩ := hb1 j' hj'
    exact ⟨c1, c2, c3, c4, fun y hy => u2_le (c5 y hy) hv⟩
  · have := hs1 i' hi'; omega
  · have := hs2 j hj; omega
theorem RC_answer {D : va_G} {κ : Nat → ClassId} {base a : Nat} {sd : Int64} {nT nS : Nat} {bT bS : Nat → Nat} {td fd : Nat → Nat → Nat} {ta tr kd sp ca cr : Nat → Nat} {od aw rk : Nat → Nat → Nat} {H0 H : Heap} {A : Nat → Prop} {fT fS : Nat → Option Nat} (hR : RC D κ base a sd nT nS bT bS td fd ta tr kd sp ca cr od aw rk H0) {i j c t : Nat} (hi : i < nT) (hi2 : i < 26) (hj : j < nS) (hc : ca j + 1 ≤ 26) (ht : ta i + 1 ≤ 40) (hc2 : c ≤ ca j + 1) (ht2 : t ≤ ta i + 1) (hAq : ∀ x9, A x9 → (x9 = a ∨ x9 = (a + 1) ∨ x9 = (a + 2) ∨ x9 = (bS j) ∨ x9 = ((bS j) + 1) ∨ x9 = ((bS j) + 2) ∨ x9 = (bT i)) ∨ H0.size ≤ x9)
    (hsz : H0.size ≤ H.size) (hk : ∀ q : Nat, q < H0.size → ¬ A q → H[q]? = H0[q]?) (hf : ∀ i, i < 26 → fT i = if i < nT then some (bT i) else none) (hf2 : ∀ j, j < 40 → fS j = if j < nS then some (bS j) else none) (hP : va_P D vwCl [(a, .inr (2, [.long sd, .ref (a + 1), .ref (a + 2), .int (nI nT), .int (nI nS), .ref (a + 3), .ref (a + 4)])), ((a + 1), .inl (κ 3, 26, .inr (.inr (.inr (.inr fT))))), ((a + 2), .inl (κ 4, 40, .inr (.inr (.inr (.inr fS))))), ((bS j), .inr (1, [.int (nI (kd j)), .int (nI (sp j)), .ref ((bS j) + 1), .ref ((bS j) + 2), .ref ((bS j) + 3), .int (nI (ca j + 1)), .int (nI c)])), (((bS j) + 1), .inl (κ 0, 26, .inl (fun i => nI (od j i)))), (((bS j) + 2), .inl (κ 1, 26, .inl (upd (fun i => nI (aw j i)) i (nI 1)))), ((bT i), .inr (0, [.ref ((bT i) + 1), .ref ((bT i) + 2), .int (nI (ta i + 1)), .int (nI t)]))] H) :
    RC D κ base a sd nT nS bT bS td fd (u1 ta i (ta i + 1)) (u1 tr i t) kd sp (u1 ca j (ca j + 1)) (u1 cr j c) od (u2 aw j i 1) rk H := by
  obtain ⟨⟨fT0, fS0, mx, sw, hP0, hfT, hfS⟩, hTas, hTes, ⟨hnT, hnS, hba, hah⟩, hb1, hb2, hs1, hs2, hs3, hs4, hs5⟩ := hR
  have b1 := hs1 i hi
  have b2 := hs2 j hj
  have b3 := hs5 i j hi hj
  refine ⟨⟨fT, fS, mx, sw, ?_, hf, hf2⟩, fun i' hi' => ?_, fun j' hj' => ?_, ⟨⟨hnT, hnS, hba, by omega⟩, fun j' hj' => ?_, fun i' hi' => ?_, fun i' hi' => ?_, fun j hj => ?_, hs3, hs4, hs5⟩⟩
  · have h1 := hP.sub (ws' := [(a, .inr (2, [.long sd, .ref (a + 1), .ref (a + 2), .int (nI nT), .int (nI nS), .ref (a + 3), .ref (a + 4)])), ((a + 1), .inl (κ 3, 26, .inr (.inr (.inr (.inr fT))))), ((a + 2), .inl (κ 4, 40, .inr (.inr (.inr (.inr fS)))))]) [0, 1, 2] rfl
    have h2 := keepW hk (hP0.sub (ws' := [((a + 3), .inl (κ 0, 120, .inl mx)), ((a + 4), .inl (κ 2, 131, .inr (.inl sw)))]) [3, 4] rfl) (by
      simp only [List.map, List.nodup_cons, List.mem_cons, List.not_mem_nil, or_false, not_or, List.nodup_nil, and_true, not_false_eq_true, List.forall_mem_cons, forall_eq_or_imp, forall_eq]
      refine ⟨fun q => ?_, fun q => ?_⟩ <;> (have := hAq _ q; omega))
    exact h1.app h2
  · by_cases e : i' = i
    · subst e
      have h3 := hP.sub (ws' := [((bT i'), .inr (0, [.ref ((bT i') + 1), .ref ((bT i') + 2), .int (nI (ta i' + 1)), .int (nI t)]))]) [6] rfl
      have h5 := keepW hk ((hTas i' hi').sub (ws' := [(((bT i') + 1), .inl (κ 1, 16, .inl (fun k => nI (td i' k)))), (((bT i') + 2), .inl (κ 1, 16, .inl (fun k => nI (fd i' k))))]) [1, 2] rfl) (by
        simp only [List.map, List.nodup_cons, List.mem_cons, List.not_mem_nil, or_false, not_or, List.nodup_nil, and_true, not_false_eq_true, List.forall_mem_cons, forall_eq_or_imp, forall_eq]
        refine ⟨fun q => ?_, fun q => ?_⟩ <;> (have := hAq _ q; omega))
      rw [u1_eq, u1_eq]
      exact h3.app h5
    · rw [u1_ne e, u1_ne e]
      refine keepW hk (hTas i' hi') ?_
      simp only [List.map, List.nodup_cons, List.mem_cons, List.not_mem_nil, or_false, not_or, List.nodup_nil, and_true, not_false_eq_true, List.forall_mem_cons, forall_eq_or_imp, forall_eq]
      have c2 := hs1 i' hi'
      have c3 := hs5 i' j hi' hj
      have c4 : bT i + 3 ≤ bT i' ∨ bT i' + 3 ≤ bT i := by
        rcases Nat.lt_or_gt_of_ne e with q | q
        · exact Or.inr (hs3 i' i q hi)
        · exact Or.inl (hs3 i i' q hi')
      refine ⟨fun q => ?_, fun q => ?_, fun q => ?_⟩ <;> (have := hAq _ q; omega)
  · by_cases e : j' = j
    · subst e
      have h3 := hP.sub (ws' := [((bS j'), .inr (1, [.int (nI (kd j')), .int (nI (sp j')), .ref ((bS j') + 1), .ref ((bS j') + 2), .ref ((bS j') + 3), .int (nI (ca j' + 1)), .int (nI c)])), (((bS j') + 1), .inl (κ 0, 26, .inl (fun i => nI (od j' i)))), (((bS j') + 2), .inl (κ 1, 26, .inl (upd (fun i => nI (aw j' i)) i (nI 1))))]) [3, 4, 5] rfl
      have h5 := keepW hk ((hTes j' hj').sub (ws' := [(((bS j') + 3), .inl (κ 0, 130, .inl (fun x => nI (rk j' x))))]) [3] rfl) (by
        simp only [List.map, List.nodup_cons, List.mem_cons, List.not_mem_nil, or_false, not_or, List.nodup_nil, and_true, not_false_eq_true, List.forall_mem_cons, forall_eq_or_imp, forall_eq]
        exact fun q => by have := hAq _ q; omega)
      rw [u2_upd] at h3
      rw [u1_eq, u1_eq]
      exact h3.app h5
    · rw [u1_ne e, u1_ne e, u2_ne e]
      refine keepW hk (hTes j' hj') ?_
      simp only [List.map, List.nodup_cons, List.mem_cons, List.not_mem_nil, or_false, not_or, List.nodup_nil, and_true, not_false_eq_true, List.forall_mem_cons, forall_eq_or_imp, forall_eq]
      have c2 := hs2 j' hj'
      have c3 := hs5 i j' hi hj'
      have c4 : bS j + 4 ≤ bS j' ∨ bS j' + 4 ≤ bS j := by
        rcases Nat.lt_or_gt_of_ne e with q | q
        · exact Or.inr (hs4 j' j q hj)
        · exact Or.inl (hs4 j j' q hj')
      refine ⟨fun q => ?_, fun q => ?_, fun q => ?_, fun q => ?_⟩ <;> (have := hAq _ q; omega)
  · obtain ⟨c1, c2, c3, c4, c5⟩ := hb1 j' hj'
    refine ⟨c1, ?_, ?_, fun y hy => ⟨(c4 y hy).1, u2_le (c4 y hy).2 (Nat.le_refl 1)⟩, c5⟩
    · unfold u1; split <;> omega
    · by_cases e : j' = j
      · subst e; rw [u1_eq, u1_eq]; exact hc2
      · rw [u1_ne e, u1_ne e]; exact c3
  · obtain ⟨c1, c2, c3⟩ := hb2 i' hi'
    refine ⟨?_, ?_, c3⟩
    · unfold u1; split <;> omega
    · by_cases e : i' = i
      · subst e; rw [u1_eq, u1_eq]; exact ht2
      · rw [u1_ne e, u1_ne e]; exact c2
  · have := hs1 i' hi'; omega
  · have := hs2 j hj; omega
end
section
set_option maxHeartbeats 400000 in
set_option maxRecDepth 100000 in
theorem c_P_level (l : Launch) (D : va_G) (κ : Nat → ClassId) (base : Nat) (H0 : Heap) {a : Nat} {sd : Int64} {nT nS : Nat} {bT bS : Nat → Nat} {td fd : Nat → Nat → Nat} {ta tr kd sp ca cr : Nat → Nat} {od aw rk : Nat → Nat → Nat} (hR : RC D κ base a sd nT nS bT bS td fd ta tr kd sp ca cr od aw rk H0) (x y : Int32) (z : Nat) (hz1 : z ≤ 1) (r : Nat) (td2 fd2 : Nat → Nat → Nat) (h0 : (noT nT x ∨ y < 0 ∨ nI 16 ≤ y) → r = 0 ∧ td2 = td ∧ fd2 = fd) (h1 : ∀ i k, i < nT → k < 16 → x = nI i → y = nI k → r = 1 ∧ td2 = u2 td i k 1 ∧ fd2 = u2 fd i k z) : Met l yP_level wP_level ({ frames := 1, cells := 0, slots := 0, locals := 21 }) (Pq D κ base [.ref a, .int x, .int y, .int (nI z)] H0) (q_W (fun v H => v = some (.int (nI r)) ∧ RC D κ base a sd nT nS bT bS td2 fd2 ta tr kd sp ca cr od aw rk H ∧ FrC a nT nS bT bS H0 H)) 0 0 (OwnC a nT nS bT bS H0.size) := by
  refine Met.ofW (cc := bP_level) (maxL := 5) (ret := (some FieldType.boolean)) (by decide) rfl ?_
  intro p e s m args below meth c s₁ B hml hv
  obtain ⟨rfl, hH, hE⟩ := hv
  subst hH
  have hx := B.exec
  have hb := B.bytes
  have hr := B.returns
  have hT : ∀ w ∈ TT, w.before _ s = true := fun w h => atoms_spec (ws := wP_level) B.pre w (List.mem_cons_of_mem _ h)
  have hown : s.vm.findClass "TasterPanels" = some m.cls := findClass_of_methodNamed B.named
  have hlocks := B.notSynchronized
  have hK := hE.1
  have hS : va_S (fun q => base ≤ q) s.heap s.heap [] := va_S.rf
  have hAb : ∀ q : Nat, (fun q : Nat => base ≤ q) q → base ≤ q := fun _ h => h
  have hl := lv_entry ([.ref a, .int x, .int y, .int (nI z)]) (n := 5) (Nat.le_of_ble_eq_true rfl)
  rw [lg_entry_eq]
  generalize (lg_sl ([.ref a, .int x, .int y, .int (nI z)]) ++ List.replicate (5 - (lg_sl ([.ref a, .int x, .int y, .int (nI z)])).length) Slot.unset).toArray = ls at hl ⊢
  have hl : lv_has ls 5 [(0, .ref a), (1, .int x), (2, .int y), (3, .int (nI z))] := hl
  have hR0 := hR
  obtain ⟨⟨fT, fS, mx, sw, hP, hfT, hfS⟩, hTas, hTes, hbd⟩ := hR
  obtain ⟨⟨hnT, hnS, hba, hah⟩, hb1, hb2, hs1, hs2, hs3, hs4, hs5⟩ := hbd
  have hbs : base ≤ s.heap.size := by omega
  have hOb : ∀ x9, OwnC a nT nS bT bS s.heap.size x9 → base ≤ x9 := fun x9 h => OwnC.base hba (by omega) hs1 hs2 h
  have hS : va_S (OwnC a nT nS bT bS s.heap.size) s.heap s.heap [] := va_S.rf
  have hAb := hOb
  rcases whoT nT x with e1 | ⟨i, hi, hi26, rfl⟩
  · refine lv_aload_n hx hb dP_level_0 rfl (lv_at hl 0 rfl) ?_
    refine lv_iload_n hx hb dP_level_1 rfl (lv_at hl 1 rfl) ?_
    refine x_callP (v := .null) (va_runV (As := [.int x]) (rest := []) ⟨hx, hb, hml, hown, hT⟩ (c_P_tasterAt l D κ base s.heap (hP.sub [0, 1] rfl) x .null (fun _ => rfl) (none_at (by decide) (noT_fr e1 hfT))) (cwV 1 hT (TT_V kP56 kiP_tasterAt ksP_tasterAt knP kcP_tasterAt) rfl rfl rfl (by decide +kernel) ⟨Nat.le_of_ble_eq_true rfl, Nat.le_of_ble_eq_true rfl⟩) (pcV hE hS hAb (va_recv hK hP (ci := 2) (q0 := 0) rfl rfl)) rfl rfl hl.1 rfl (lv_room (Nat.le_of_ble_eq_true rfl)) dP_level_2 ⟨Nat.le_of_ble_eq_true rfl, Nat.le_of_ble_eq_true rfl⟩) ?_
    refine lv_astoreN (lv' := [(4, .null), (0, .ref a), (1, .int x), (2, .int y), (3, .int (nI z))]) hx hb dP_level_5 hl (by decide) rfl (fun ls hl => ?_)
    refine lv_aloadN hx hb dP_level_7 (lv_at hl 0 rfl) ?_
    refine lv_ifnullN (tgt := 22) hx hb dP_level_9 (by decide) ?_
    refine lv_iconst (v := nI 0) hx hb dP_level_22 (by decide) ?_
    obtain ⟨g1, g2, g3⟩ := h0 (Or.inl e1)
    exact W.zret (v := nI 0) hx hb hr (by decide) (fun t ht hW => ⟨some (.int (nI 0)), rfl, by rw [ht]; exact ⟨by rw [g1], by rw [g2, g3]; exact hR0, FrC.rf⟩⟩) (fun q h => absurd h List.not_mem_nil) dP_level_23
  · have hP : va_P D vwCl [(a, .inr (2, [.long sd, .ref (a + 1), .ref (a + 2), .int (nI nT), .int (nI nS), .ref (a + 3), .ref (a + 4)])), ((a + 1), .inl (κ 3, 26, .inr (.inr (.inr (.inr fT))))), ((bT i), .inr (0, [.ref ((bT i) + 1), .ref ((bT i) + 2), .int (nI (ta i)), .int (nI (tr i))])), (((bT i) + 1), .inl (κ 1, 16, .inl (fun k => nI (td i k)))), (((bT i) + 2), .inl (κ 1, 16, .inl (fun k => nI (fd i k))))] s.heap := va_P.app (hP.sub [0, 1] rfl) ((hTas i hi).sub [0, 1, 2] rfl)
    have b1 := hs1 i hi
    refine lv_aload_n hx hb dP_level_0 rfl (lv_at hl 0 rfl) ?_
    refine lv_iload_n hx hb dP_level_1 rfl (lv_at hl 1 rfl) ?_
    refine x_callP (v := .ref (bT i)) (va_runV (As := [.int (nI i)]) (rest := []) ⟨hx, hb, hml, hown, hT⟩ (c_P_tasterAt l D κ base s.heap (hP.sub [0, 1] rfl) (nI i) (.ref (bT i)) (fun h => at_out (by decide) hi26 h rfl) (some_at (by decide) hi26 (by rw [hfT i hi26, if_pos hi]))) (cwV 1 hT (TT_V kP56 kiP_tasterAt ksP_tasterAt knP kcP_tasterAt) rfl rfl rfl (by decide +kernel) ⟨Nat.le_of_ble_eq_true rfl, Nat.le_of_ble_eq_true rfl⟩) (pcV hE hS hAb (va_recv hK hP (ci := 2) (q0 := 0) rfl rfl)) rfl rfl hl.1 rfl (lv_room (Nat.le_of_ble_eq_true rfl)) dP_level_2 ⟨Nat.le_of_ble_eq_true rfl, Nat.le_of_ble_eq_true rfl⟩) ?_
    refine lv_astore (lv' := [(4, .ref (bT i)), (0, .ref a), (1, .int (nI i)), (2, .int y), (3, .int (nI z))]) hx hb dP_level_5 hl (by decide) rfl (fun ls hl => ?_)
    refine lv_aload hx hb dP_level_7 (lv_at hl 0 rfl) ?_
    refine lv_ifnull hx hb dP_level_9 ?_
    refine lv_iload_n hx hb dP_level_12 rfl (lv_at hl 3 rfl) ?_
    rcases pk_ix y (show 16 < 2 ^ 31 by decide) with e2 | e2 | ⟨k, hk, rfl⟩
    · refine lv_if_lt (tgt := 22) hx hb dP_level_13 (by decide) (fun h3 => ?_) (fun h3 => absurd e2 h3)
      refine lv_iconst (v := nI 0) hx hb dP_level_22 (by decide) ?_
      obtain ⟨g1, g2, g3⟩ := h0 (Or.inr (Or.inl e2))
      exact W.zret (v := nI 0) hx hb hr (by decide) (fun t ht hW => ⟨some (.int (nI 0)), rfl, by rw [ht]; exact ⟨by rw [g1], by rw [g2, g3]; exact hR0, FrC.rf⟩⟩) (fun q h => absurd h List.not_mem_nil) dP_level_23
    · refine lv_if_lt (tgt := 22) hx hb dP_level_13 (by decide) (fun h4 => absurd (Int32.lt_of_le_of_lt e2 h4) (by decide)) (fun h4 => ?_)
      refine lv_iload_n hx hb dP_level_16 rfl (lv_at hl 3 rfl) ?_
      refine lv_bipush (v := nI 16) hx hb dP_level_17 (by decide) ?_
      refine lv_icmp_lt (tgt := 24) hx hb dP_level_19 (by decide) (fun h5 => absurd (Int32.lt_of_le_of_lt e2 h5) (fun q => Int32.lt_irrefl q)) (fun h5 => ?_)
      refine lv_iconst (v := nI 0) hx hb dP_level_22 (by decide) ?_
      obtain ⟨g1, g2, g3⟩ := h0 (Or.inr (Or.inr e2))
      exact W.zret (v := nI 0) hx hb hr (by decide) (fun t ht hW => ⟨some (.int (nI 0)), rfl, by rw [ht]; exact ⟨by rw [g1], by rw [g2, g3]; exact hR0, FrC.rf⟩⟩) (fun q h => absurd h List.not_mem_nil) dP_level_23
    · refine x_zlt (a := k) (tgt := 22) hx hb dP_level_13 (by decide) (by omega) ?_
      refine lv_iload_n hx hb dP_level_16 rfl (lv_at hl 3 rfl) ?_
      refine lv_bipush (v := nI 16) hx hb dP_level_17 (by decide) ?_
      refine x_clt (a := k) (b := 16) (tgt := 24) hx hb dP_level_19 (by decide) (by omega) (by omega) (fun h7 => ?_) (fun h7 => absurd h7 (by omega))
      obtain ⟨g1, g2, g3⟩ := h1 i k hi hk rfl rfl
      rcases (show z = 0 ∨ z = 1 by omega) with rfl | rfl
      · have hnd : ([(a, .inr (2, [.long sd, .ref (a + 1), .ref (a + 2), .int (nI nT), .int (nI nS), .ref (a + 3), .ref (a + 4)])), ((a + 1), .inl (κ 3, 26, .inr (.inr (.inr (.inr fT))))), ((bT i), .inr (0, [.ref ((bT i) + 1), .ref ((bT i) + 2), .int (nI (ta i)), .int (nI (tr i))])), (((bT i) + 1), .inl (κ 1, 16, .inl (fun k => nI (td i k)))), (((bT i) + 2), .inl (κ 1, 16, .inl (fun k => nI (fd i k))))] : va_W).map Prod.fst |>.Nodup := by simp only [List.map, List.nodup_cons, List.mem_cons, List.not_mem_nil, or_false, not_or, List.nodup_nil, and_true, not_false_eq_true, List.forall_mem_cons, forall_eq_or_imp, forall_eq]; omega
        have hD0 : va_D (fun q => base ≤ q) [(a, .inr (2, [.long sd, .ref (a + 1), .ref (a + 2), .int (nI nT), .int (nI nS), .ref (a + 3), .ref (a + 4)])), ((a + 1), .inl (κ 3, 26, .inr (.inr (.inr (.inr fT))))), ((bT i), .inr (0, [.ref ((bT i) + 1), .ref ((bT i) + 2), .int (nI (ta i)), .int (nI (tr i))])), (((bT i) + 1), .inl (κ 1, 16, .inl (fun k => nI (td i k)))), (((bT i) + 2), .inl (κ 1, 16, .inl (fun k => nI (fd i k))))] := D_of hnd (by simp only [List.map, List.nodup_cons, List.mem_cons, List.not_mem_nil, or_false, not_or, List.nodup_nil, and_true, not_false_eq_true, List.forall_mem_cons, forall_eq_or_imp, forall_eq]; omega)
        have hD := hD0.self (sz := s.heap.size)
        have hAb : ∀ x9, va_A [(a, .inr (2, [.long sd, .ref (a + 1), .ref (a + 2), .int (nI nT), .int (nI nS), .ref (a + 3), .ref (a + 4)])), ((a + 1), .inl (κ 3, 26, .inr (.inr (.inr (.inr fT))))), ((bT i), .inr (0, [.ref ((bT i) + 1), .ref ((bT i) + 2), .int (nI (ta i)), .int (nI (tr i))])), (((bT i) + 1), .inl (κ 1, 16, .inl (fun k => nI (td i k)))), (((bT i) + 2), .inl (κ 1, 16, .inl (fun k => nI (fd i k))))] s.heap.size x9 → base ≤ x9 := fun x9 h => by rcases h with ⟨k9, e9, h⟩ | h; exact hD0.2 k9 _ h; exact Nat.le_trans hbs h
        have hAq : ∀ x9, va_A [(a, .inr (2, [.long sd, .ref (a + 1), .ref (a + 2), .int (nI nT), .int (nI nS), .ref (a + 3), .ref (a + 4)])), ((a + 1), .inl (κ 3, 26, .inr (.inr (.inr (.inr fT))))), ((bT i), .inr (0, [.ref ((bT i) + 1), .ref ((bT i) + 2), .int (nI (ta i)), .int (nI (tr i))])), (((bT i) + 1), .inl (κ 1, 16, .inl (fun k => nI (td i k)))), (((bT i) + 2), .inl (κ 1, 16, .inl (fun k => nI (fd i k))))] s.heap.size x9 → (x9 = a ∨ x9 = (a + 1) ∨ x9 = (bT i) ∨ x9 = ((bT i) + 1) ∨ x9 = ((bT i) + 2)) ∨ s.heap.size ≤ x9 := fun x9 h => by have := A_addr h; simpa only [List.map, List.mem_cons, List.not_mem_nil, or_false] using this
        have hAO : ∀ x9, va_A [(a, .inr (2, [.long sd, .ref (a + 1), .ref (a + 2), .int (nI nT), .int (nI nS), .ref (a + 3), .ref (a + 4)])), ((a + 1), .inl (κ 3, 26, .inr (.inr (.inr (.inr fT))))), ((bT i), .inr (0, [.ref ((bT i) + 1), .ref ((bT i) + 2), .int (nI (ta i)), .int (nI (tr i))])), (((bT i) + 1), .inl (κ 1, 16, .inl (fun k => nI (td i k)))), (((bT i) + 2), .inl (κ 1, 16, .inl (fun k => nI (fd i k))))] s.heap.size x9 → OwnC a nT nS bT bS s.heap.size x9 := fun x9 h => by exact ownT hi (by have := hAq x9 h; omega)
        generalize hAe : va_A [(a, .inr (2, [.long sd, .ref (a + 1), .ref (a + 2), .int (nI nT), .int (nI nS), .ref (a + 3), .ref (a + 4)])), ((a + 1), .inl (κ 3, 26, .inr (.inr (.inr (.inr fT))))), ((bT i), .inr (0, [.ref ((bT i) + 1), .ref ((bT i) + 2), .int (nI (ta i)), .int (nI (tr i))])), (((bT i) + 1), .inl (κ 1, 16, .inl (fun k => nI (td i k)))), (((bT i) + 2), .inl (κ 1, 16, .inl (fun k => nI (fd i k))))] s.heap.size = A at hD hAb hAq hAO
        have hA : ∀ x9, s.heap.size ≤ x9 → A x9 := fun x9 h => by rw [← hAe]; exact Or.inr h
        have hS : va_S A s.heap s.heap [] := va_S.rf
        refine lv_aload hx hb dP_level_24 (lv_at hl 0 rfl) ?_
        refine va_getN (D := D) (ci := 0) (v := .ref ((bT i) + 1)) (C := RT) (T := FT) (N := 4) hx hb hT inT hown hK hP 2 rfl rfl 0 (by decide) (va_Nw.use rfl (kN136 hE.2.1)) (fun _ h9 => h9) rfl dP_level_26 ?_
        refine lv_iload_n hx hb dP_level_29 rfl (lv_at hl 3 rfl) ?_
        refine lv_iconst (v := nI 1) hx hb dP_level_30 (by decide) ?_
        refine x_zast hx hb hK hP hD hS 3 1 (j := k) rfl rfl (by omega) (by decide) (by decide) dP_level_31 (fun H locs hP hD hS => ?_)
        have hP : va_P D vwCl [(a, .inr (2, [.long sd, .ref (a + 1), .ref (a + 2), .int (nI nT), .int (nI nS), .ref (a + 3), .ref (a + 4)])), ((a + 1), .inl (κ 3, 26, .inr (.inr (.inr (.inr fT))))), ((bT i), .inr (0, [.ref ((bT i) + 1), .ref ((bT i) + 2), .int (nI (ta i)), .int (nI (tr i))])), (((bT i) + 1), .inl (κ 1, 16, .inl (upd (fun k => nI (td i k)) k (nI 1)))), (((bT i) + 2), .inl (κ 1, 16, .inl (fun k => nI (fd i k))))] H := hP
        have hD : va_D A [(a, .inr (2, [.long sd, .ref (a + 1), .ref (a + 2), .int (nI nT), .int (nI nS), .ref (a + 3), .ref (a + 4)])), ((a + 1), .inl (κ 3, 26, .inr (.inr (.inr (.inr fT))))), ((bT i), .inr (0, [.ref ((bT i) + 1), .ref ((bT i) + 2), .int (nI (ta i)), .int (nI (tr i))])), (((bT i) + 1), .inl (κ 1, 16, .inl (upd (fun k => nI (td i k)) k (nI 1)))), (((bT i) + 2), .inl (κ 1, 16, .inl (fun k => nI (fd i k))))] := hD
        refine lv_aload hx hb dP_level_32 (lv_at hl 0 rfl) ?_
        refine va_getN (D := D) (ci := 0) (v := .ref ((bT i) + 2)) (C := RT) (T := FT) (N := 4) hx hb hT inT hown hK hP 2 rfl rfl 1 (by decide) (va_Nw.use rfl (kN139 hE.2.1)) (fun _ h9 => h9) rfl dP_level_34 ?_
        refine lv_iload_n hx hb dP_level_37 rfl (lv_at hl 3 rfl) ?_
        refine lv_iload_n hx hb dP_level_38 rfl (lv_at hl 4 rfl) ?_
        refine x_zast hx hb hK hP hD hS 4 1 (j := k) rfl rfl (by omega) (by decide) (by decide) dP_level_39 (fun H locs hP hD hS => ?_)
        have hP : va_P D vwCl [(a, .inr (2, [.long sd, .ref (a + 1), .ref (a + 2), .int (nI nT), .int (nI nS), .ref (a + 3), .ref (a + 4)])), ((a + 1), .inl (κ 3, 26, .inr (.inr (.inr (.inr fT))))), ((bT i), .inr (0, [.ref ((bT i) + 1), .ref ((bT i) + 2), .int (nI (ta i)), .int (nI (tr i))])), (((bT i) + 1), .inl (κ 1, 16, .inl (upd (fun k => nI (td i k)) k (nI 1)))), (((bT i) + 2), .inl (κ 1, 16, .inl (upd (fun k => nI (fd i k)) k (nI 0))))] H := hP
        have hD : va_D A [(a, .inr (2, [.long sd, .ref (a + 1), .ref (a + 2), .int (nI nT), .int (nI nS), .ref (a + 3), .ref (a + 4)])), ((a + 1), .inl (κ 3, 26, .inr (.inr (.inr (.inr fT))))), ((bT i), .inr (0, [.ref ((bT i) + 1), .ref ((bT i) + 2), .int (nI (ta i)), .int (nI (tr i))])), (((bT i) + 1), .inl (κ 1, 16, .inl (upd (fun k => nI (td i k)) k (nI 1)))), (((bT i) + 2), .inl (κ 1, 16, .inl (upd (fun k => nI (fd i k)) k (nI 0))))] := hD
        refine lv_iconst (v := nI 1) hx hb dP_level_40 (by decide) ?_
        exact W.zret (v := nI 1) hx hb hr (by decide) (fun t ht hW => ⟨some (.int (nI 1)), rfl, by rw [ht]; exact ⟨by rw [g1], by rw [g2, g3]; exact RC_level hR0 hi (by decide) hAq hS.1 hS.2.1 hfT hP, ⟨hS.1, fun q h1 h2 => hS.2.1 q h1 (fun z => h2 (hAO q z))⟩⟩⟩) (fun q h => hAO _ (hS.2.2 q h)) dP_level_41
      · have hnd : ([(a, .inr (2, [.long sd, .ref (a + 1), .ref (a + 2), .int (nI nT), .int (nI nS), .ref (a + 3), .ref (a + 4)])), ((a + 1), .inl (κ 3, 26, .inr (.inr (.inr (.inr fT))))), ((bT i), .inr (0, [.ref ((bT i) + 1), .ref ((bT i) + 2), .int (nI (ta i)), .int (nI (tr i))])), (((bT i) + 1), .inl (κ 1, 16, .inl (fun k => nI (td i k)))), (((bT i) + 2), .inl (κ 1, 16, .inl (fun k => nI (fd i k))))] : va_W).map Prod.fst |>.Nodup := by simp only [List.map, List.nodup_cons, List.mem_cons, List.not_mem_nil, or_false, not_or, List.nodup_nil, and_true, not_false_eq_true, List.forall_mem_cons, forall_eq_or_imp, forall_eq]; omega
        have hD0 : va_D (fun q => base ≤ q) [(a, .inr (2, [.long sd, .ref (a + 1), .ref (a + 2), .int (nI nT), .int (nI nS), .ref (a + 3), .ref (a + 4)])), ((a + 1), .inl (κ 3, 26, .inr (.inr (.inr (.inr fT))))), ((bT i), .inr (0, [.ref ((bT i) + 1), .ref ((bT i) + 2), .int (nI (ta i)), .int (nI (tr i))])), (((bT i) + 1), .inl (κ 1, 16, .inl (fun k => nI (td i k)))), (((bT i) + 2), .inl (κ 1, 16, .inl (fun k => nI (fd i k))))] := D_of hnd (by simp only [List.map, List.nodup_cons, List.mem_cons, List.not_mem_nil, or_false, not_or, List.nodup_nil, and_true, not_false_eq_true, List.forall_mem_cons, forall_eq_or_imp, forall_eq]; omega)
        have hD := hD0.self (sz := s.heap.size)
        have hAb : ∀ x9, va_A [(a, .inr (2, [.long sd, .ref (a + 1), .ref (a + 2), .int (nI nT), .int (nI nS), .ref (a + 3), .ref (a + 4)])), ((a + 1), .inl (κ 3, 26, .inr (.inr (.inr (.inr fT))))), ((bT i), .inr (0, [.ref ((bT i) + 1), .ref ((bT i) + 2), .int (nI (ta i)), .int (nI (tr i))])), (((bT i) + 1), .inl (κ 1, 16, .inl (fun k => nI (td i k)))), (((bT i) + 2), .inl (κ 1, 16, .inl (fun k => nI (fd i k))))] s.heap.size x9 → base ≤ x9 := fun x9 h => by rcases h with ⟨k9, e9, h⟩ | h; exact hD0.2 k9 _ h; exact Nat.le_trans hbs h
        have hAq : ∀ x9, va_A [(a, .inr (2, [.long sd, .ref (a + 1), .ref (a + 2), .int (nI nT), .int (nI nS), .ref (a + 3), .ref (a + 4)])), ((a + 1), .inl (κ 3, 26, .inr (.inr (.inr (.inr fT))))), ((bT i), .inr (0, [.ref ((bT i) + 1), .ref ((bT i) + 2), .int (nI (ta i)), .int (nI (tr i))])), (((bT i) + 1), .inl (κ 1, 16, .inl (fun k => nI (td i k)))), (((bT i) + 2), .inl (κ 1, 16, .inl (fun k => nI (fd i k))))] s.heap.size x9 → (x9 = a ∨ x9 = (a + 1) ∨ x9 = (bT i) ∨ x9 = ((bT i) + 1) ∨ x9 = ((bT i) + 2)) ∨ s.heap.size ≤ x9 := fun x9 h => by have := A_addr h; simpa only [List.map, List.mem_cons, List.not_mem_nil, or_false] using this
        have hAO : ∀ x9, va_A [(a, .inr (2, [.long sd, .ref (a + 1), .ref (a + 2), .int (nI nT), .int (nI nS), .ref (a + 3), .ref (a + 4)])), ((a + 1), .inl (κ 3, 26, .inr (.inr (.inr (.inr fT))))), ((bT i), .inr (0, [.ref ((bT i) + 1), .ref ((bT i) + 2), .int (nI (ta i)), .int (nI (tr i))])), (((bT i) + 1), .inl (κ 1, 16, .inl (fun k => nI (td i k)))), (((bT i) + 2), .inl (κ 1, 16, .inl (fun k => nI (fd i k))))] s.heap.size x9 → OwnC a nT nS bT bS s.heap.size x9 := fun x9 h => by exact ownT hi (by have := hAq x9 h; omega)
        generalize hAe : va_A [(a, .inr (2, [.long sd, .ref (a + 1), .ref (a + 2), .int (nI nT), .int (nI nS), .ref (a + 3), .ref (a + 4)])), ((a + 1), .inl (κ 3, 26, .inr (.inr (.inr (.inr fT))))), ((bT i), .inr (0, [.ref ((bT i) + 1), .ref ((bT i) + 2), .int (nI (ta i)), .int (nI (tr i))])), (((bT i) + 1), .inl (κ 1, 16, .inl (fun k => nI (td i k)))), (((bT i) + 2), .inl (κ 1, 16, .inl (fun k => nI (fd i k))))] s.heap.size = A at hD hAb hAq hAO
        have hA : ∀ x9, s.heap.size ≤ x9 → A x9 := fun x9 h => by rw [← hAe]; exact Or.inr h
        have hS : va_S A s.heap s.heap [] := va_S.rf
        refine lv_aload hx hb dP_level_24 (lv_at hl 0 rfl) ?_
        refine va_getN (D := D) (ci := 0) (v := .ref ((bT i) + 1)) (C := RT) (T := FT) (N := 4) hx hb hT inT hown hK hP 2 rfl rfl 0 (by decide) (va_Nw.use rfl (kN136 hE.2.1)) (fun _ h9 => h9) rfl dP_level_26 ?_
        refine lv_iload_n hx hb dP_level_29 rfl (lv_at hl 3 rfl) ?_
        refine lv_iconst (v := nI 1) hx hb dP_level_30 (by decide) ?_
        refine x_zast hx hb hK hP hD hS 3 1 (j := k) rfl rfl (by omega) (by decide) (by decide) dP_level_31 (fun H locs hP hD hS => ?_)
        have hP : va_P D vwCl [(a, .inr (2, [.long sd, .ref (a + 1), .ref (a + 2), .int (nI nT), .int (nI nS), .ref (a + 3), .ref (a + 4)])), ((a + 1), .inl (κ 3, 26, .inr (.inr (.inr (.inr fT))))), ((bT i), .inr (0, [.ref ((bT i) + 1), .ref ((bT i) + 2), .int (nI (ta i)), .int (nI (tr i))])), (((bT i) + 1), .inl (κ 1, 16, .inl (upd (fun k => nI (td i k)) k (nI 1)))), (((bT i) + 2), .inl (κ 1, 16, .inl (fun k => nI (fd i k))))] H := hP
        have hD : va_D A [(a, .inr (2, [.long sd, .ref (a + 1), .ref (a + 2), .int (nI nT), .int (nI nS), .ref (a + 3), .ref (a + 4)])), ((a + 1), .inl (κ 3, 26, .inr (.inr (.inr (.inr fT))))), ((bT i), .inr (0, [.ref ((bT i) + 1), .ref ((bT i) + 2), .int (nI (ta i)), .int (nI (tr i))])), (((bT i) + 1), .inl (κ 1, 16, .inl (upd (fun k => nI (td i k)) k (nI 1)))), (((bT i) + 2), .inl (κ 1, 16, .inl (fun k => nI (fd i k))))] := hD
        refine lv_aload hx hb dP_level_32 (lv_at hl 0 rfl) ?_
        refine va_getN (D := D) (ci := 0) (v := .ref ((bT i) + 2)) (C := RT) (T := FT) (N := 4) hx hb hT inT hown hK hP 2 rfl rfl 1 (by decide) (va_Nw.use rfl (kN139 hE.2.1)) (fun _ h9 => h9) rfl dP_level_34 ?_
        refine lv_iload_n hx hb dP_level_37 rfl (lv_at hl 3 rfl) ?_
        refine lv_iload_n hx hb dP_level_38 rfl (lv_at hl 4 rfl) ?_
        refine x_zast hx hb hK hP hD hS 4 1 (j := k) rfl rfl (by omega) (by decide) (by decide) dP_level_39 (fun H locs hP hD hS => ?_)
        have hP : va_P D vwCl [(a, .inr (2, [.long sd, .ref (a + 1), .ref (a + 2), .int (nI nT), .int (nI nS), .ref (a + 3), .ref (a + 4)])), ((a + 1), .inl (κ 3, 26, .inr (.inr (.inr (.inr fT))))), ((bT i), .inr (0, [.ref ((bT i) + 1), .ref ((bT i) + 2), .int (nI (ta i)), .int (nI (tr i))])), (((bT i) + 1), .inl (κ 1, 16, .inl (upd (fun k => nI (td i k)) k (nI 1)))), (((bT i) + 2), .inl (κ 1, 16, .inl (upd (fun k => nI (fd i k)) k (nI 1))))] H := hP
        have hD : va_D A [(a, .inr (2, [.long sd, .ref (a + 1), .ref (a + 2), .int (nI nT), .int (nI nS), .ref (a + 3), .ref (a + 4)])), ((a + 1), .inl (κ 3, 26, .inr (.inr (.inr (.inr fT))))), ((bT i), .inr (0, [.ref ((bT i) + 1), .ref ((bT i) + 2), .int (nI (ta i)), .int (nI (tr i))])), (((bT i) + 1), .inl (κ 1, 16, .inl (upd (fun k => nI (td i k)) k (nI 1)))), (((bT i) + 2), .inl (κ 1, 16, .inl (upd (fun k => nI (fd i k)) k (nI 1))))] := hD
        refine lv_iconst (v := nI 1) hx hb dP_level_40 (by decide) ?_
        exact W.zret (v := nI 1) hx hb hr (by decide) (fun t ht hW => ⟨some (.int (nI 1)), rfl, by rw [ht]; exact ⟨by rw [g1], by rw [g2, g3]; exact RC_level hR0 hi (by decide) hAq hS.1 hS.2.1 hfT hP, ⟨hS.1, fun q h1 h2 => hS.2.1 q h1 (fun z => h2 (hAO q z))⟩⟩⟩) (fun q h => hAO _ (hS.2.2 q h)) dP_level_41
end
section
set_option maxHeartbeats 400000 in
set_option maxRecDepth 100000 in
theorem c_P_rank (l : Launch) (D : va_G) (κ : Nat → ClassId) (base : Nat) (H0 : Heap) {a : Nat} {sd : Int64} {nT nS : Nat} {bT bS : Nat → Nat} {td fd : Nat → Nat → Nat} {ta tr kd sp ca cr : Nat → Nat} {od aw rk : Nat → Nat → Nat} (hR : RC D κ base a sd nT nS bT bS td fd ta tr kd sp ca cr od aw rk H0) (x y z w : Int32) (r : Nat) (rk2 : Nat → Nat → Nat) (q1 : noS nS x → r = 0 ∧ rk2 = rk) (q2 : noT nT y → r = 0 ∧ rk2 = rk) (q3 : ∀ j, j < nS → x = nI j → ¬ kd j = 3 → r = 0 ∧ rk2 = rk) (q4 : ∀ j, j < nS → x = nI j → (z < 0 ∨ nI (sp j) ≤ z) → r = 0 ∧ rk2 = rk) (q5 : ∀ j, j < nS → x = nI j → (w < nI 1 ∨ nI (sp j) < w) → r = 0 ∧ rk2 = rk) (q6 : ∀ j i k v, j < nS → i < nT → k < sp j → x = nI j → y = nI i → z = nI k → w = nI v → 1 ≤ v → v ≤ sp j → (¬ rk j (i * 5 + k) = 0 ∨ ∃ n, n < sp j ∧ rk j (i * 5 + n) = v) → r = 0 ∧ rk2 = rk) (q7 : ∀ j i k v, j < nS → i < nT → k < sp j → x = nI j → y = nI i → z = nI k → w = nI v → 1 ≤ v → v ≤ sp j → kd j = 3 → rk j (i * 5 + k) = 0 → (¬ ∃ n, n < sp j ∧ rk j (i * 5 + n) = v) → r = 1 ∧ rk2 = u2 rk j (i * 5 + k) v) : Met l yP_rank wP_rank ({ frames := 2, cells := 0, slots := 0, locals := 45 }) (Pq D κ base [.ref a, .int x, .int y, .int z, .int w] H0) (q_W (fun v H => v = some (.int (nI r)) ∧ RC D κ base a sd nT nS bT bS td fd ta tr kd sp ca cr od aw rk2 H ∧ FrC a nT nS bT bS H0 H)) 0 0 (OwnC a nT nS bT bS H0.size) := by
  refine Met.ofW (cc := bP_rank) (maxL := 6) (ret := (some FieldType.boolean)) (by decide) rfl ?_
  intro p e s m args below meth c s₁ B hml hv
  obtain ⟨rfl, hH, hE⟩ := hv
  subst hH
  have hx := B.exec
  have hb := B.bytes
  have hr := B.returns
  have hT : ∀ w ∈ TT, w.before _ s = true := fun w h => atoms_spec (ws := wP_rank) B.pre w (List.mem_cons_of_mem _ h)
  have hown : s.vm.findClass "TasterPanels" = some m.cls := findClass_of_methodNamed B.named
  have hlocks := B.notSynchronized
  have hK := hE.1
  have hS : va_S (fun q => base ≤ q) s.heap s.heap [] := va_S.rf
  have hAb : ∀ q : Nat, (fun q : Nat => base ≤ q) q → base ≤ q := fun _ h => h
  have hl := lv_entry ([.ref a, .int x, .int y, .int z, .int w]) (n := 6) (Nat.le_of_ble_eq_true rfl)
  rw [lg_entry_eq]
  generalize (lg_sl ([.ref a, .int x, .int y, .int z, .int w]) ++ List.replicate (6 - (lg_sl ([.ref a, .int x, .int y, .int z, .int w])).length) Slot.unset).toArray = ls at hl ⊢
  have hl : lv_has ls 6 [(0, .ref a), (1, .int x), (2, .int y), (3, .int z), (4, .int w)] := hl
  have hR0 := hR
  obtain ⟨⟨fT, fS, mx, sw, hP, hfT, hfS⟩, hTas, hTes, hbd⟩ := hR
  obtain ⟨⟨hnT, hnS, hba, hah⟩, hb1, hb2, hs1, hs2, hs3, hs4, hs5⟩ := hbd
  have hbs : base ≤ s.heap.size := by omega
  have hOb : ∀ x9, OwnC a nT nS bT bS s.heap.size x9 → base ≤ x9 := fun x9 h => OwnC.base hba (by omega) hs1 hs2 h
  have hS : va_S (OwnC a nT nS bT bS s.heap.size) s.heap s.heap [] := va_S.rf
  have hAb := hOb
  rcases whoS nS x with e1 | ⟨j, hj, hj4, rfl⟩
  · refine lv_aload_n hx hb dP_rank_0 rfl (lv_at hl 0 rfl) ?_
    refine lv_iload_n hx hb dP_rank_1 rfl (lv_at hl 1 rfl) ?_
    refine x_callP (v := .null) (va_runV (As := [.int x]) (rest := []) ⟨hx, hb, hml, hown, hT⟩ (c_P_rankingAt_none l D κ base s.heap (hP.sub [0, 2] rfl) x (noS_fr e1 hfS)) (cwV 1 hT (TT_V kP114 kiP_rankingAt ksP_rankingAt knP kcP_rankingAt) rfl rfl rfl (by decide +kernel) ⟨Nat.le_of_ble_eq_true rfl, Nat.le_of_ble_eq_true rfl⟩) (pcV hE hS hAb (va_recv hK hP (ci := 2) (q0 := 0) rfl rfl)) rfl rfl hl.1 rfl (lv_room (Nat.le_of_ble_eq_true rfl)) dP_rank_2 ⟨Nat.le_of_ble_eq_true rfl, Nat.le_of_ble_eq_true rfl⟩) ?_
    refine lv_astoreN (lv' := [(5, .null), (0, .ref a), (1, .int x), (2, .int y), (3, .int z), (4, .int w)]) hx hb dP_rank_5 hl (by decide) rfl (fun ls hl => ?_)
    refine lv_aloadN hx hb dP_rank_7 (lv_at hl 0 rfl) ?_
    refine lv_ifnullN (tgt := 33) hx hb dP_rank_9 (by decide) ?_
    refine lv_iconst (v := nI 0) hx hb dP_rank_33 (by decide) ?_
    obtain ⟨g1, g2⟩ := q1 e1
    exact W.zret (v := nI 0) hx hb hr (by decide) (fun t ht hW => ⟨some (.int (nI 0)), rfl, by rw [ht]; exact ⟨by rw [g1], by rw [g2]; exact hR0, FrC.rf⟩⟩) (fun q h => absurd h List.not_mem_nil) dP_rank_34
  · have hP : va_P D vwCl [(a, .inr (2, [.long sd, .ref (a + 1), .ref (a + 2), .int (nI nT), .int (nI nS), .ref (a + 3), .ref (a + 4)])), ((a + 1), .inl (κ 3, 26, .inr (.inr (.inr (.inr fT))))), ((a + 2), .inl (κ 4, 40, .inr (.inr (.inr (.inr fS))))), ((bS j), .inr (1, [.int (nI (kd j)), .int (nI (sp j)), .ref ((bS j) + 1), .ref ((bS j) + 2), .ref ((bS j) + 3), .int (nI (ca j)), .int (nI (cr j))])), (((bS j) + 3), .inl (κ 0, 130, .inl (fun x => nI (rk j x))))] s.heap := va_P.app (hP.sub [0, 1, 2] rfl) ((hTes j hj).sub [0, 3] rfl)
    have b1 := hs2 j hj
    obtain ⟨hok, -, -, -, hrk⟩ := hb1 j hj
    have hsp := hok.lt
    by_cases hk : kd j = 3
    · refine lv_aload_n hx hb dP_rank_0 rfl (lv_at hl 0 rfl) ?_
      refine lv_iload_n hx hb dP_rank_1 rfl (lv_at hl 1 rfl) ?_
      refine x_callP (v := .ref (bS j)) (va_runV (As := [.int (nI j)]) (rest := []) ⟨hx, hb, hml, hown, hT⟩ (c_P_rankingAt_some l D κ base s.heap (hP.sub [0, 2, 3] rfl) j hj4 (by rw [hfS j hj4, if_pos hj]) (hb1 j hj).1.lt.1 (.ref (bS j)) (fun q => absurd hk q) (fun _ => rfl)) (cwV 1 hT (TT_V kP114 kiP_rankingAt ksP_rankingAt knP kcP_rankingAt) rfl rfl rfl (by decide +kernel) ⟨Nat.le_of_ble_eq_true rfl, Nat.le_of_ble_eq_true rfl⟩) (pcV hE hS hAb (va_recv hK hP (ci := 2) (q0 := 0) rfl rfl)) rfl rfl hl.1 rfl (lv_room (Nat.le_of_ble_eq_true rfl)) dP_rank_2 ⟨Nat.le_of_ble_eq_true rfl, Nat.le_of_ble_eq_true rfl⟩) ?_
      refine lv_astore (lv' := [(5, .ref (bS j)), (0, .ref a), (1, .int (nI j)), (2, .int y), (3, .int z), (4, .int w)]) hx hb dP_rank_5 hl (by decide) rfl (fun ls hl => ?_)
      refine lv_aload hx hb dP_rank_7 (lv_at hl 0 rfl) ?_
      refine lv_ifnull hx hb dP_rank_9 ?_
      refine lv_aload_n hx hb dP_rank_12 rfl (lv_at hl 1 rfl) ?_
      refine lv_iload_n hx hb dP_rank_13 rfl (lv_at hl 3 rfl) ?_
      rcases whoT nT y with e2 | ⟨i, hi, hi26, rfl⟩
      · refine x_callP (v := .null) (va_runV (As := [.int y]) (rest := []) ⟨hx, hb, hml, hown, hT⟩ (c_P_tasterAt l D κ base s.heap (hP.sub [0, 1] rfl) y .null (fun _ => rfl) (none_at (by decide) (noT_fr e2 hfT))) (cwV 1 hT (TT_V kP56 kiP_tasterAt ksP_tasterAt knP kcP_tasterAt) rfl rfl rfl (by decide +kernel) ⟨Nat.le_of_ble_eq_true rfl, Nat.le_of_ble_eq_true rfl⟩) (pcV hE hS hAb (va_recv hK hP (ci := 2) (q0 := 0) rfl rfl)) rfl rfl hl.1 rfl (lv_room (Nat.le_of_ble_eq_true rfl)) dP_rank_14 ⟨Nat.le_of_ble_eq_true rfl, Nat.le_of_ble_eq_true rfl⟩) ?_
        refine lv_ifnullN (tgt := 33) hx hb dP_rank_17 (by decide) ?_
        refine lv_iconst (v := nI 0) hx hb dP_rank_33 (by decide) ?_
        obtain ⟨g1, g2⟩ := q2 e2
        exact W.zret (v := nI 0) hx hb hr (by decide) (fun t ht hW => ⟨some (.int (nI 0)), rfl, by rw [ht]; exact ⟨by rw [g1], by rw [g2]; exact hR0, FrC.rf⟩⟩) (fun q h => absurd h List.not_mem_nil) dP_rank_34
      · refine x_callP (v := .ref (bT i)) (va_runV (As := [.int (nI i)]) (rest := []) ⟨hx, hb, hml, hown, hT⟩ (c_P_tasterAt l D κ base s.heap (hP.sub [0, 1] rfl) (nI i) (.ref (bT i)) (fun h => at_out (by decide) hi26 h rfl) (some_at (by decide) hi26 (by rw [hfT i hi26, if_pos hi]))) (cwV 1 hT (TT_V kP56 kiP_tasterAt ksP_tasterAt knP kcP_tasterAt) rfl rfl rfl (by decide +kernel) ⟨Nat.le_of_ble_eq_true rfl, Nat.le_of_ble_eq_true rfl⟩) (pcV hE hS hAb (va_recv hK hP (ci := 2) (q0 := 0) rfl rfl)) rfl rfl hl.1 rfl (lv_room (Nat.le_of_ble_eq_true rfl)) dP_rank_14 ⟨Nat.le_of_ble_eq_true rfl, Nat.le_of_ble_eq_true rfl⟩) ?_
        refine lv_ifnull hx hb dP_rank_17 ?_
        refine lv_iload_n hx hb dP_rank_20 rfl (lv_at hl 4 rfl) ?_
        rcases pk_ix z (show sp j < 2 ^ 31 by omega) with e3 | e3 | ⟨k, hk2, rfl⟩
        · refine lv_if_lt (tgt := 33) hx hb dP_rank_21 (by decide) (fun h5 => ?_) (fun h5 => absurd e3 h5)
          refine lv_iconst (v := nI 0) hx hb dP_rank_33 (by decide) ?_
          obtain ⟨g1, g2⟩ := q4 j hj rfl (Or.inl e3)
          exact W.zret (v := nI 0) hx hb hr (by decide) (fun t ht hW => ⟨some (.int (nI 0)), rfl, by rw [ht]; exact ⟨by rw [g1], by rw [g2]; exact hR0, FrC.rf⟩⟩) (fun q h => absurd h List.not_mem_nil) dP_rank_34
        · refine lv_if_lt (tgt := 33) hx hb dP_rank_21 (by decide) (fun h6 => absurd (Int32.lt_of_le_of_lt e3 h6) (nI_pos (by omega))) (fun h6 => ?_)
          refine lv_iload_n hx hb dP_rank_24 rfl (lv_at hl 4 rfl) ?_
          refine lv_aload hx hb dP_rank_25 (lv_at hl 0 rfl) ?_
          refine va_getN (D := D) (ci := 1) (v := .int (nI (sp j))) (C := RS) (T := FS) (N := 7) hx hb hT inS hown hK hP 3 rfl rfl 1 (by decide) (va_Nw.use rfl (kN74 hE.2.1)) (fun _ h9 => h9) rfl dP_rank_27 ?_
          refine lv_icmp_lt (tgt := 35) hx hb dP_rank_30 (by decide) (fun h7 => absurd (Int32.lt_of_le_of_lt e3 h7) (fun q => Int32.lt_irrefl q)) (fun h7 => ?_)
          refine lv_iconst (v := nI 0) hx hb dP_rank_33 (by decide) ?_
          obtain ⟨g1, g2⟩ := q4 j hj rfl (Or.inr e3)
          exact W.zret (v := nI 0) hx hb hr (by decide) (fun t ht hW => ⟨some (.int (nI 0)), rfl, by rw [ht]; exact ⟨by rw [g1], by rw [g2]; exact hR0, FrC.rf⟩⟩) (fun q h => absurd h List.not_mem_nil) dP_rank_34
        · refine x_zlt (a := k) (tgt := 33) hx hb dP_rank_21 (by decide) (by omega) ?_
          refine lv_iload_n hx hb dP_rank_24 rfl (lv_at hl 4 rfl) ?_
          refine lv_aload hx hb dP_rank_25 (lv_at hl 0 rfl) ?_
          refine va_getN (D := D) (ci := 1) (v := .int (nI (sp j))) (C := RS) (T := FS) (N := 7) hx hb hT inS hown hK hP 3 rfl rfl 1 (by decide) (va_Nw.use rfl (kN74 hE.2.1)) (fun _ h9 => h9) rfl dP_rank_27 ?_
          refine x_clt (a := k) (b := sp j) (tgt := 35) hx hb dP_rank_30 (by decide) (by omega) (by omega) (fun h9 => ?_) (fun h9 => absurd h9 (by omega))
          refine lv_iload hx hb dP_rank_35 (lv_at hl 5 rfl) ?_
          refine lv_iconst (v := nI 1) hx hb dP_rank_37 (by decide) ?_
          rcases pk_ix w (show sp j + 1 < 2 ^ 31 by omega) with e4 | e4 | ⟨v, hv, rfl⟩
          · refine lv_icmp_lt (tgt := 72) hx hb dP_rank_38 (by decide) (fun h10 => ?_) (fun h10 => absurd (Int32.lt_trans e4 (by decide)) h10)
            refine lv_iconst (v := nI 0) hx hb dP_rank_72 (by decide) ?_
            obtain ⟨g1, g2⟩ := q5 j hj rfl (Or.inl (Int32.lt_trans e4 (by decide)))
            exact W.zret (v := nI 0) hx hb hr (by decide) (fun t ht hW => ⟨some (.int (nI 0)), rfl, by rw [ht]; exact ⟨by rw [g1], by rw [g2]; exact hR0, FrC.rf⟩⟩) (fun q h => absurd h List.not_mem_nil) dP_rank_73
          · have e5 : nI (sp j) < w := Int32.lt_of_lt_of_le (nI_lt (by omega) (by omega)) e4
            refine lv_icmp_lt (tgt := 72) hx hb dP_rank_38 (by decide) (fun h11 => absurd (Int32.lt_of_le_of_lt e4 h11) (nI_nlt (by omega) (by omega))) (fun h11 => ?_)
            refine lv_iload hx hb dP_rank_41 (lv_at hl 5 rfl) ?_
            refine lv_aload hx hb dP_rank_43 (lv_at hl 0 rfl) ?_
            refine va_getN (D := D) (ci := 1) (v := .int (nI (sp j))) (C := RS) (T := FS) (N := 7) hx hb hT inS hown hK hP 3 rfl rfl 1 (by decide) (va_Nw.use rfl (kN74 hE.2.1)) (fun _ h9 => h9) rfl dP_rank_45 ?_
            refine lv_icmp_gt (tgt := 72) hx hb dP_rank_48 (by decide) (fun h12 => ?_) (fun h12 => absurd e5 h12)
            refine lv_iconst (v := nI 0) hx hb dP_rank_72 (by decide) ?_
            obtain ⟨g1, g2⟩ := q5 j hj rfl (Or.inr e5)
            exact W.zret (v := nI 0) hx hb hr (by decide) (fun t ht hW => ⟨some (.int (nI 0)), rfl, by rw [ht]; exact ⟨by rw [g1], by rw [g2]; exact hR0, FrC.rf⟩⟩) (fun q h => absurd h List.not_mem_nil) dP_rank_73
          · refine x_clt (a := v) (b := 1) (tgt := 72) hx hb dP_rank_38 (by decide) (by omega) (by omega) (fun g4 => ?_) (fun g4 => ?_)
            · refine lv_iconst (v := nI 0) hx hb dP_rank_72 (by decide) ?_
              obtain ⟨g1, g2⟩ := q5 j hj rfl (Or.inl (nI_lt (by omega) (by decide)))
              exact W.zret (v := nI 0) hx hb hr (by decide) (fun t ht hW => ⟨some (.int (nI 0)), rfl, by rw [ht]; exact ⟨by rw [g1], by rw [g2]; exact hR0, FrC.rf⟩⟩) (fun q h => absurd h List.not_mem_nil) dP_rank_73
            · refine lv_iload hx hb dP_rank_41 (lv_at hl 5 rfl) ?_
              refine lv_aload hx hb dP_rank_43 (lv_at hl 0 rfl) ?_
              refine va_getN (D := D) (ci := 1) (v := .int (nI (sp j))) (C := RS) (T := FS) (N := 7) hx hb hT inS hown hK hP 3 rfl rfl 1 (by decide) (va_Nw.use rfl (kN74 hE.2.1)) (fun _ h9 => h9) rfl dP_rank_45 ?_
              refine x_cgt (a := v) (b := sp j) (tgt := 72) hx hb dP_rank_48 (by decide) (by omega) (by omega) (fun h13 => absurd h13 (by omega)) (fun h13 => ?_)
              refine lv_aload hx hb dP_rank_51 (lv_at hl 0 rfl) ?_
              refine lv_iload_n hx hb dP_rank_53 rfl (lv_at hl 3 rfl) ?_
              refine lv_iload_n hx hb dP_rank_54 rfl (lv_at hl 4 rfl) ?_
              have hrb := hrk (i * 5 + k) (by omega)
              refine x_callP (v := .int (nI (rk j (i * 5 + k)))) (va_runS (As := [.ref (bS j), .int (nI i), .int (nI k)]) (rest := []) ⟨hx, hb, hml, hown, hT⟩ (c_P_rankOf l D κ base s.heap (hP.sub [3, 4] rfl) i k hi26 (by omega)) (va_cwS 3 hT (TT_S kP117 ktP_rankOf knP kcP_rankOf) rfl rfl rfl (by decide +kernel) ⟨Nat.le_of_ble_eq_true rfl, Nat.le_of_ble_eq_true rfl⟩) (pcS hE hS hAb) rfl rfl hl.1 rfl (lv_room (Nat.le_of_ble_eq_true rfl)) dP_rank_55 ⟨Nat.le_of_ble_eq_true rfl, Nat.le_of_ble_eq_true rfl⟩) ?_
              refine x_zne (a := rk j (i * 5 + k)) (tgt := 72) hx hb dP_rank_58 (by decide) (by omega) (fun g5 => ?_) (fun g5 => ?_)
              · refine lv_iconst (v := nI 0) hx hb dP_rank_72 (by decide) ?_
                obtain ⟨g1, g2⟩ := q6 j i k v hj hi hk2 rfl rfl rfl rfl (by omega) (by omega) (Or.inl g5)
                exact W.zret (v := nI 0) hx hb hr (by decide) (fun t ht hW => ⟨some (.int (nI 0)), rfl, by rw [ht]; exact ⟨by rw [g1], by rw [g2]; exact hR0, FrC.rf⟩⟩) (fun q h => absurd h List.not_mem_nil) dP_rank_73
              · refine lv_aload hx hb dP_rank_61 (lv_at hl 0 rfl) ?_
                refine lv_iload_n hx hb dP_rank_63 rfl (lv_at hl 3 rfl) ?_
                refine lv_iload hx hb dP_rank_64 (lv_at hl 5 rfl) ?_
                by_cases hg : ∃ n, n < sp j ∧ rk j (i * 5 + n) = v
                · refine x_callP (v := .int (nI 1)) (va_runS (As := [.ref (bS j), .int (nI i), .int (nI v)]) (rest := []) ⟨hx, hb, hml, hown, hT⟩ (c_P_hasGiven l D κ base s.heap (hP.sub [3, 4] rfl) hsp.2.2 i (nI v) hi26 1 (fun _ => rfl) (fun h => by obtain ⟨n, h1, h2⟩ := hg; exact absurd (show nI (rk j (i * 5 + n)) = nI v by rw [h2]) (h n h1))) (va_cwS 3 hT (TT_S kP120 ktP_hasGiven knP kcP_hasGiven) rfl rfl rfl (by decide +kernel) ⟨Nat.le_of_ble_eq_true rfl, Nat.le_of_ble_eq_true rfl⟩) (pcS hE hS hAb) rfl rfl hl.1 rfl (lv_room (Nat.le_of_ble_eq_true rfl)) dP_rank_66 ⟨Nat.le_of_ble_eq_true rfl, Nat.le_of_ble_eq_true rfl⟩) ?_
                  refine x_zeq (a := 1) (tgt := 74) hx hb dP_rank_69 (by decide) (by omega) (fun h14 => absurd h14 (by decide)) (fun h14 => ?_)
                  refine lv_iconst (v := nI 0) hx hb dP_rank_72 (by decide) ?_
                  obtain ⟨g1, g2⟩ := q6 j i k v hj hi hk2 rfl rfl rfl rfl (by omega) (by omega) (Or.inr hg)
                  exact W.zret (v := nI 0) hx hb hr (by decide) (fun t ht hW => ⟨some (.int (nI 0)), rfl, by rw [ht]; exact ⟨by rw [g1], by rw [g2]; exact hR0, FrC.rf⟩⟩) (fun q h => absurd h List.not_mem_nil) dP_rank_73
                · refine x_callP (v := .int (nI 0)) (va_runS (As := [.ref (bS j), .int (nI i), .int (nI v)]) (rest := []) ⟨hx, hb, hml, hown, hT⟩ (c_P_hasGiven l D κ base s.heap (hP.sub [3, 4] rfl) hsp.2.2 i (nI v) hi26 0 (fun h => by obtain ⟨n, h1, h2⟩ := h; exact absurd ⟨n, h1, nI_inj (by have := hrk (i * 5 + n) (by omega); omega) (by omega) h2⟩ hg) (fun _ => rfl)) (va_cwS 3 hT (TT_S kP120 ktP_hasGiven knP kcP_hasGiven) rfl rfl rfl (by decide +kernel) ⟨Nat.le_of_ble_eq_true rfl, Nat.le_of_ble_eq_true rfl⟩) (pcS hE hS hAb) rfl rfl hl.1 rfl (lv_room (Nat.le_of_ble_eq_true rfl)) dP_rank_66 ⟨Nat.le_of_ble_eq_true rfl, Nat.le_of_ble_eq_true rfl⟩) ?_
                  refine x_zeq (a := 0) (tgt := 74) hx hb dP_rank_69 (by decide) (by omega) (fun h15 => ?_) (fun h15 => absurd rfl h15)
                  obtain ⟨g1, g2⟩ := q7 j i k v hj hi hk2 rfl rfl rfl rfl (by omega) (by omega) hk g5 hg
                  have hnd : ([(a, .inr (2, [.long sd, .ref (a + 1), .ref (a + 2), .int (nI nT), .int (nI nS), .ref (a + 3), .ref (a + 4)])), ((a + 1), .inl (κ 3, 26, .inr (.inr (.inr (.inr fT))))), ((a + 2), .inl (κ 4, 40, .inr (.inr (.inr (.inr fS))))), ((bS j), .inr (1, [.int (nI (kd j)), .int (nI (sp j)), .ref ((bS j) + 1), .ref ((bS j) + 2), .ref ((bS j) + 3), .int (nI (ca j)), .int (nI (cr j))])), (((bS j) + 3), .inl (κ 0, 130, .inl (fun x => nI (rk j x))))] : va_W).map Prod.fst |>.Nodup := by simp only [List.map, List.nodup_cons, List.mem_cons, List.not_mem_nil, or_false, not_or, List.nodup_nil, and_true, not_false_eq_true, List.forall_mem_cons, forall_eq_or_imp, forall_eq]; omega
                  have hD0 : va_D (fun q => base ≤ q) [(a, .inr (2, [.long sd, .ref (a + 1), .ref (a + 2), .int (nI nT), .int (nI nS), .ref (a + 3), .ref (a + 4)])), ((a + 1), .inl (κ 3, 26, .inr (.inr (.inr (.inr fT))))), ((a + 2), .inl (κ 4, 40, .inr (.inr (.inr (.inr fS))))), ((bS j), .inr (1, [.int (nI (kd j)), .int (nI (sp j)), .ref ((bS j) + 1), .ref ((bS j) + 2), .ref ((bS j) + 3), .int (nI (ca j)), .int (nI (cr j))])), (((bS j) + 3), .inl (κ 0, 130, .inl (fun x => nI (rk j x))))] := D_of hnd (by simp only [List.map, List.nodup_cons, List.mem_cons, List.not_mem_nil, or_false, not_or, List.nodup_nil, and_true, not_false_eq_true, List.forall_mem_cons, forall_eq_or_imp, forall_eq]; omega)
                  have hD := hD0.self (sz := s.heap.size)
                  have hAb : ∀ x9, va_A [(a, .inr (2, [.long sd, .ref (a + 1), .ref (a + 2), .int (nI nT), .int (nI nS), .ref (a + 3), .ref (a + 4)])), ((a + 1), .inl (κ 3, 26, .inr (.inr (.inr (.inr fT))))), ((a + 2), .inl (κ 4, 40, .inr (.inr (.inr (.inr fS))))), ((bS j), .inr (1, [.int (nI (kd j)), .int (nI (sp j)), .ref ((bS j) + 1), .ref ((bS j) + 2), .ref ((bS j) + 3), .int (nI (ca j)), .int (nI (cr j))])), (((bS j) + 3), .inl (κ 0, 130, .inl (fun x => nI (rk j x))))] s.heap.size x9 → base ≤ x9 := fun x9 h => by rcases h with ⟨k9, e9, h⟩ | h; exact hD0.2 k9 _ h; exact Nat.le_trans hbs h
                  have hAq : ∀ x9, va_A [(a, .inr (2, [.long sd, .ref (a + 1), .ref (a + 2), .int (nI nT), .int (nI nS), .ref (a + 3), .ref (a + 4)])), ((a + 1), .inl (κ 3, 26, .inr (.inr (.inr (.inr fT))))), ((a + 2), .inl (κ 4, 40, .inr (.inr (.inr (.inr fS))))), ((bS j), .inr (1, [.int (nI (kd j)), .int (nI (sp j)), .ref ((bS j) + 1), .ref ((bS j) + 2), .ref ((bS j) + 3), .int (nI (ca j)), .int (nI (cr j))])), (((bS j) + 3), .inl (κ 0, 130, .inl (fun x => nI (rk j x))))] s.heap.size x9 → (x9 = a ∨ x9 = (a + 1) ∨ x9 = (a + 2) ∨ x9 = (bS j) ∨ x9 = ((bS j) + 3)) ∨ s.heap.size ≤ x9 := fun x9 h => by have := A_addr h; simpa only [List.map, List.mem_cons, List.not_mem_nil, or_false] using this
                  have hAO : ∀ x9, va_A [(a, .inr (2, [.long sd, .ref (a + 1), .ref (a + 2), .int (nI nT), .int (nI nS), .ref (a + 3), .ref (a + 4)])), ((a + 1), .inl (κ 3, 26, .inr (.inr (.inr (.inr fT))))), ((a + 2), .inl (κ 4, 40, .inr (.inr (.inr (.inr fS))))), ((bS j), .inr (1, [.int (nI (kd j)), .int (nI (sp j)), .ref ((bS j) + 1), .ref ((bS j) + 2), .ref ((bS j) + 3), .int (nI (ca j)), .int (nI (cr j))])), (((bS j) + 3), .inl (κ 0, 130, .inl (fun x => nI (rk j x))))] s.heap.size x9 → OwnC a nT nS bT bS s.heap.size x9 := fun x9 h => by exact ownS hj (by have := hAq x9 h; omega)
                  generalize hAe : va_A [(a, .inr (2, [.long sd, .ref (a + 1), .ref (a + 2), .int (nI nT), .int (nI nS), .ref (a + 3), .ref (a + 4)])), ((a + 1), .inl (κ 3, 26, .inr (.inr (.inr (.inr fT))))), ((a + 2), .inl (κ 4, 40, .inr (.inr (.inr (.inr fS))))), ((bS j), .inr (1, [.int (nI (kd j)), .int (nI (sp j)), .ref ((bS j) + 1), .ref ((bS j) + 2), .ref ((bS j) + 3), .int (nI (ca j)), .int (nI (cr j))])), (((bS j) + 3), .inl (κ 0, 130, .inl (fun x => nI (rk j x))))] s.heap.size = A at hD hAb hAq hAO
                  have hA : ∀ x9, s.heap.size ≤ x9 → A x9 := fun x9 h => by rw [← hAe]; exact Or.inr h
                  have hS : va_S A s.heap s.heap [] := va_S.rf
                  refine lv_aload hx hb dP_rank_74 (lv_at hl 0 rfl) ?_
                  refine va_getN (D := D) (ci := 1) (v := .ref ((bS j) + 3)) (C := RS) (T := FS) (N := 7) hx hb hT inS hown hK hP 3 rfl rfl 4 (by decide) (va_Nw.use rfl (kN124 hE.2.1)) (fun _ h9 => h9) rfl dP_rank_76 ?_
                  refine lv_iload_n hx hb dP_rank_79 rfl (lv_at hl 3 rfl) ?_
                  refine lv_iconst (v := nI 5) hx hb dP_rank_80 (by decide) ?_
                  refine x_imul (v := nI (i * 5)) hx hb dP_rank_81 (pk_mul _ _) ?_
                  refine lv_iload_n hx hb dP_rank_82 rfl (lv_at hl 4 rfl) ?_
                  refine x_iadd (v := nI ((i * 5) + k)) hx hb dP_rank_83 (nI_add _ _) ?_
                  refine lv_iload hx hb dP_rank_84 (lv_at hl 5 rfl) ?_
                  refine x_iast hx hb hK hP hD hS 4 0 (j := (i * 5) + k) rfl rfl (by omega) (by decide) dP_rank_86 (fun H locs hP hD hS => ?_)
                  have hP : va_P D vwCl [(a, .inr (2, [.long sd, .ref (a + 1), .ref (a + 2), .int (nI nT), .int (nI nS), .ref (a + 3), .ref (a + 4)])), ((a + 1), .inl (κ 3, 26, .inr (.inr (.inr (.inr fT))))), ((a + 2), .inl (κ 4, 40, .inr (.inr (.inr (.inr fS))))), ((bS j), .inr (1, [.int (nI (kd j)), .int (nI (sp j)), .ref ((bS j) + 1), .ref ((bS j) + 2), .ref ((bS j) + 3), .int (nI (ca j)), .int (nI (cr j))])), (((bS j) + 3), .inl (κ 0, 130, .inl (upd (fun x => nI (rk j x)) ((i * 5) + k) (nI v))))] H := hP
                  have hD : va_D A [(a, .inr (2, [.long sd, .ref (a + 1), .ref (a + 2), .int (nI nT), .int (nI nS), .ref (a + 3), .ref (a + 4)])), ((a + 1), .inl (κ 3, 26, .inr (.inr (.inr (.inr fT))))), ((a + 2), .inl (κ 4, 40, .inr (.inr (.inr (.inr fS))))), ((bS j), .inr (1, [.int (nI (kd j)), .int (nI (sp j)), .ref ((bS j) + 1), .ref ((bS j) + 2), .ref ((bS j) + 3), .int (nI (ca j)), .int (nI (cr j))])), (((bS j) + 3), .inl (κ 0, 130, .inl (upd (fun x => nI (rk j x)) ((i * 5) + k) (nI v))))] := hD
                  refine lv_iconst (v := nI 1) hx hb dP_rank_87 (by decide) ?_
                  exact W.zret (v := nI 1) hx hb hr (by decide) (fun t ht hW => ⟨some (.int (nI 1)), rfl, by rw [ht]; exact ⟨by rw [g1], by rw [g2]; exact RC_rank hR0 hj (by omega) hAq hS.1 hS.2.1 hfT hfS hP, ⟨hS.1, fun q h1 h2 => hS.2.1 q h1 (fun z => h2 (hAO q z))⟩⟩⟩) (fun q h => hAO _ (hS.2.2 q h)) dP_rank_88
    · refine lv_aload_n hx hb dP_rank_0 rfl (lv_at hl 0 rfl) ?_
      refine lv_iload_n hx hb dP_rank_1 rfl (lv_at hl 1 rfl) ?_
      refine x_callP (v := .null) (va_runV (As := [.int (nI j)]) (rest := []) ⟨hx, hb, hml, hown, hT⟩ (c_P_rankingAt_some l D κ base s.heap (hP.sub [0, 2, 3] rfl) j hj4 (by rw [hfS j hj4, if_pos hj]) (hb1 j hj).1.lt.1 (.null) (fun _ => rfl) (fun q => absurd q hk)) (cwV 1 hT (TT_V kP114 kiP_rankingAt ksP_rankingAt knP kcP_rankingAt) rfl rfl rfl (by decide +kernel) ⟨Nat.le_of_ble_eq_true rfl, Nat.le_of_ble_eq_true rfl⟩) (pcV hE hS hAb (va_recv hK hP (ci := 2) (q0 := 0) rfl rfl)) rfl rfl hl.1 rfl (lv_room (Nat.le_of_ble_eq_true rfl)) dP_rank_2 ⟨Nat.le_of_ble_eq_true rfl, Nat.le_of_ble_eq_true rfl⟩) ?_
      refine lv_astoreN (lv' := [(5, .null), (0, .ref a), (1, .int (nI j)), (2, .int y), (3, .int z), (4, .int w)]) hx hb dP_rank_5 hl (by decide) rfl (fun ls hl => ?_)
      refine lv_aloadN hx hb dP_rank_7 (lv_at hl 0 rfl) ?_
      refine lv_ifnullN (tgt := 33) hx hb dP_rank_9 (by decide) ?_
      refine lv_iconst (v := nI 0) hx hb dP_rank_33 (by decide) ?_
      obtain ⟨g1, g2⟩ := q3 j hj rfl hk
      exact W.zret (v := nI 0) hx hb hr (by decide) (fun t ht hW => ⟨some (.int (nI 0)), rfl, by rw [ht]; exact ⟨by rw [g1], by rw [g2]; exact hR0, FrC.rf⟩⟩) (fun q h => absurd h List.not_mem_nil) dP_rank_34
theorem cntO_k {k n : Nat} (hk : k < 3) : cntO k n = cntO k 0 := by
  rcases (show k = 0 ∨ k = 1 ∨ k = 2 by omega) with rfl | rfl | rfl <;> rfl
theorem rgtN_lt {k o : Nat} (hk : k < 3) (ho : o < cntO k 0) : rgtN k o < 3 := by
  rcases (show k = 0 ∨ k = 1 ∨ k = 2 by omega) with rfl | rfl | rfl
  · have : ∀ o, o < 6 → rgtN 0 o < 3 := by decide
    exact this o ho
  · have : ∀ o, o < 2 → rgtN 1 o < 3 := by decide
    exact this o ho
  · have : ∀ o, o < 4 → rgtN 2 o < 3 := by decide
    exact this o ho
set_option maxHeartbeats 400000 in
set_option maxRecDepth 100000 in
theorem c_P_answer (l : Launch) (D : va_G) (κ : Nat → ClassId) (base : Nat) (H0 : Heap) {a : Nat} {sd : Int64} {nT nS : Nat} {bT bS : Nat → Nat} {td fd : Nat → Nat → Nat} {ta tr kd sp ca cr : Nat → Nat} {od aw rk : Nat → Nat → Nat} (hR : RC D κ base a sd nT nS bT bS td fd ta tr kd sp ca cr od aw rk H0) (x y z : Int32) (r : Nat) (aw2 : Nat → Nat → Nat) (ca2 cr2 ta2 tr2 : Nat → Nat) (q1 : noS nS x → r = 0 ∧ aw2 = aw ∧ ca2 = ca ∧ cr2 = cr ∧ ta2 = ta ∧ tr2 = tr) (q2 : noT nT y → r = 0 ∧ aw2 = aw ∧ ca2 = ca ∧ cr2 = cr ∧ ta2 = ta ∧ tr2 = tr) (q3 : ∀ j, j < nS → x = nI j → kd j = 3 → r = 0 ∧ aw2 = aw ∧ ca2 = ca ∧ cr2 = cr ∧ ta2 = ta ∧ tr2 = tr) (q4 : ∀ j, j < nS → x = nI j → (z < 0 ∨ nI (sp j) ≤ z) → r = 0 ∧ aw2 = aw ∧ ca2 = ca ∧ cr2 = cr ∧ ta2 = ta ∧ tr2 = tr) (q5 : ∀ j i, j < nS → i < nT → x = nI j → y = nI i → ¬ aw j i = 0 → r = 0 ∧ aw2 = aw ∧ ca2 = ca ∧ cr2 = cr ∧ ta2 = ta ∧ tr2 = tr) (q6 : ∀ j i k, j < nS → i < nT → k < sp j → x = nI j → y = nI i → z = nI k → ¬ kd j = 3 → aw j i = 0 → (ca j + 1 ≤ 26 ∧ ta i + 1 ≤ 40) ∧ r = 1 ∧ aw2 = u2 aw j i 1 ∧ ca2 = u1 ca j (ca j + 1) ∧ ta2 = u1 ta i (ta i + 1) ∧ (k = rgtN (kd j) (od j i) → cr2 = u1 cr j (cr j + 1) ∧ tr2 = u1 tr i (tr i + 1)) ∧ (k ≠ rgtN (kd j) (od j i) → cr2 = u1 cr j (cr j) ∧ tr2 = u1 tr i (tr i))) : Met l yP_answer wP_answer ({ frames := 2, cells := 0, slots := 0, locals := 43 }) (Pq D κ base [.ref a, .int x, .int y, .int z] H0) (q_W (fun v H => v = some (.int (nI r)) ∧ RC D κ base a sd nT nS bT bS td fd ta2 tr2 kd sp ca2 cr2 od aw2 rk H ∧ FrC a nT nS bT bS H0 H)) 0 0 (OwnC a nT nS bT bS H0.size) := by
  refine Met.ofW (cc := bP_answer) (maxL := 6) (ret := (some FieldType.boolean)) (by decide) rfl ?_
  intro p e s m args below meth c s₁ B hml hv
  obtain ⟨rfl, hH, hE⟩ := hv
  subst hH
  have hx := B.exec
  have hb := B.bytes
  have hr := B.returns
  have hT : ∀ w ∈ TT, w.before _ s = true := fun w h => atoms_spec (ws := wP_answer) B.pre w (List.mem_cons_of_mem _ h)
  have hown : s.vm.findClass "TasterPanels" = some m.cls := findClass_of_methodNamed B.named
  have hlocks := B.notSynchronized
  have hK := hE.1
  have hS : va_S (fun q => base ≤ q) s.heap s.heap [] := va_S.rf
  have hAb : ∀ q : Nat, (fun q : Nat => base ≤ q) q → base ≤ q := fun _ h => h
  have hl := lv_entry ([.ref a, .int x, .int y, .int z]) (n := 6) (Nat.le_of_ble_eq_true rfl)
  rw [lg_entry_eq]
  generalize (lg_sl ([.ref a, .int x, .int y, .int z]) ++ List.replicate (6 - (lg_sl ([.ref a, .int x, .int y, .int z])).length) Slot.unset).toArray = ls at hl ⊢
  have hl : lv_has ls 6 [(0, .ref a), (1, .int x), (2, .int y), (3, .int z)] := hl
  have hR0 := hR
  obtain ⟨⟨fT, fS, mx, sw, hP, hfT, hfS⟩, hTas, hTes, hbd⟩ := hR
  obtain ⟨⟨hnT, hnS, hba, hah⟩, hb1, hb2, hs1, hs2, hs3, hs4, hs5⟩ := hbd
  have hbs : base ≤ s.heap.size := by omega
  have hOb : ∀ x9, OwnC a nT nS bT bS s.heap.size x9 → base ≤ x9 := fun x9 h => OwnC.base hba (by omega) hs1 hs2 h
  have hS : va_S (OwnC a nT nS bT bS s.heap.size) s.heap s.heap [] := va_S.rf
  have hAb := hOb
  rcases whoS nS x with e1 | ⟨j, hj, hj4, rfl⟩
  · refine lv_aload_n hx hb dP_answer_0 rfl (lv_at hl 0 rfl) ?_
    refine lv_iload_n hx hb dP_answer_1 rfl (lv_at hl 1 rfl) ?_
    refine x_callP (v := .null) (va_runV (As := [.int x]) (rest := []) ⟨hx, hb, hml, hown, hT⟩ (c_P_differenceAt_none l D κ base s.heap (hP.sub [0, 2] rfl) x (noS_fr e1 hfS)) (cwV 1 hT (TT_V kP71 kiP_differenceAt ksP_differenceAt knP kcP_differenceAt) rfl rfl rfl (by decide +kernel) ⟨Nat.le_of_ble_eq_true rfl, Nat.le_of_ble_eq_true rfl⟩) (pcV hE hS hAb (va_recv hK hP (ci := 2) (q0 := 0) rfl rfl)) rfl rfl hl.1 rfl (lv_room (Nat.le_of_ble_eq_true rfl)) dP_answer_2 ⟨Nat.le_of_ble_eq_true rfl, Nat.le_of_ble_eq_true rfl⟩) ?_
    refine lv_astoreN (lv' := [(4, .null), (0, .ref a), (1, .int x), (2, .int y), (3, .int z)]) hx hb dP_answer_5 hl (by decide) rfl (fun ls hl => ?_)
    refine lv_aload_n hx hb dP_answer_7 rfl (lv_at hl 1 rfl) ?_
    refine lv_iload_n hx hb dP_answer_8 rfl (lv_at hl 3 rfl) ?_
    rcases whoT nT y with e2 | ⟨i, hi, hi26, rfl⟩
    · refine x_callP (v := .null) (va_runV (As := [.int y]) (rest := []) ⟨hx, hb, hml, hown, hT⟩ (c_P_tasterAt l D κ base s.heap (hP.sub [0, 1] rfl) y .null (fun _ => rfl) (none_at (by decide) (noT_fr e2 hfT))) (cwV 1 hT (TT_V kP56 kiP_tasterAt ksP_tasterAt knP kcP_tasterAt) rfl rfl rfl (by decide +kernel) ⟨Nat.le_of_ble_eq_true rfl, Nat.le_of_ble_eq_true rfl⟩) (pcV hE hS hAb (va_recv hK hP (ci := 2) (q0 := 0) rfl rfl)) rfl rfl hl.1 rfl (lv_room (Nat.le_of_ble_eq_true rfl)) dP_answer_9 ⟨Nat.le_of_ble_eq_true rfl, Nat.le_of_ble_eq_true rfl⟩) ?_
      refine lv_astoreN (lv' := [(5, .null), (4, .null), (0, .ref a), (1, .int x), (2, .int y), (3, .int z)]) hx hb dP_answer_12 hl (by decide) rfl (fun ls hl => ?_)
      refine lv_aloadN hx hb dP_answer_14 (lv_at hl 1 rfl) ?_
      refine lv_ifnullN (tgt := 47) hx hb dP_answer_16 (by decide) ?_
      refine lv_iconst (v := nI 0) hx hb dP_answer_47 (by decide) ?_
      obtain ⟨g1, rfl, rfl, rfl, rfl, rfl⟩ := q1 e1
      exact W.zret (v := nI 0) hx hb hr (by decide) (fun t ht hW => ⟨some (.int (nI 0)), rfl, by rw [ht]; exact ⟨by rw [g1], hR0, FrC.rf⟩⟩) (fun q h => absurd h List.not_mem_nil) dP_answer_48
    · refine x_callP (v := .ref (bT i)) (va_runV (As := [.int (nI i)]) (rest := []) ⟨hx, hb, hml, hown, hT⟩ (c_P_tasterAt l D κ base s.heap (hP.sub [0, 1] rfl) (nI i) (.ref (bT i)) (fun h => at_out (by decide) hi26 h rfl) (some_at (by decide) hi26 (by rw [hfT i hi26, if_pos hi]))) (cwV 1 hT (TT_V kP56 kiP_tasterAt ksP_tasterAt knP kcP_tasterAt) rfl rfl rfl (by decide +kernel) ⟨Nat.le_of_ble_eq_true rfl, Nat.le_of_ble_eq_true rfl⟩) (pcV hE hS hAb (va_recv hK hP (ci := 2) (q0 := 0) rfl rfl)) rfl rfl hl.1 rfl (lv_room (Nat.le_of_ble_eq_true rfl)) dP_answer_9 ⟨Nat.le_of_ble_eq_true rfl, Nat.le_of_ble_eq_true rfl⟩) ?_
      refine lv_astore (lv' := [(5, .ref (bT i)), (4, .null), (0, .ref a), (1, .int x), (2, .int (nI i)), (3, .int z)]) hx hb dP_answer_12 hl (by decide) rfl (fun ls hl => ?_)
      refine lv_aloadN hx hb dP_answer_14 (lv_at hl 1 rfl) ?_
      refine lv_ifnullN (tgt := 47) hx hb dP_answer_16 (by decide) ?_
      refine lv_iconst (v := nI 0) hx hb dP_answer_47 (by decide) ?_
      obtain ⟨g1, rfl, rfl, rfl, rfl, rfl⟩ := q1 e1
      exact W.zret (v := nI 0) hx hb hr (by decide) (fun t ht hW => ⟨some (.int (nI 0)), rfl, by rw [ht]; exact ⟨by rw [g1], hR0, FrC.rf⟩⟩) (fun q h => absurd h List.not_mem_nil) dP_answer_48
  · have hP : va_P D vwCl [(a, .inr (2, [.long sd, .ref (a + 1), .ref (a + 2), .int (nI nT), .int (nI nS), .ref (a + 3), .ref (a + 4)])), ((a + 1), .inl (κ 3, 26, .inr (.inr (.inr (.inr fT))))), ((a + 2), .inl (κ 4, 40, .inr (.inr (.inr (.inr fS))))), ((bS j), .inr (1, [.int (nI (kd j)), .int (nI (sp j)), .ref ((bS j) + 1), .ref ((bS j) + 2), .ref ((bS j) + 3), .int (nI (ca j)), .int (nI (cr j))])), (((bS j) + 1), .inl (κ 0, 26, .inl (fun i => nI (od j i)))), (((bS j) + 2), .inl (κ 1, 26, .inl (fun i => nI (aw j i))))] s.heap := va_P.app (hP.sub [0, 1, 2] rfl) ((hTes j hj).sub [0, 1, 2] rfl)
    have b2 := hs2 j hj
    obtain ⟨hok, hca, hcr, hoa, -⟩ := hb1 j hj
    have hsp := hok.lt
    by_cases hk : kd j = 3
    · refine lv_aload_n hx hb dP_answer_0 rfl (lv_at hl 0 rfl) ?_
      refine lv_iload_n hx hb dP_answer_1 rfl (lv_at hl 1 rfl) ?_
      refine x_callP (v := .null) (va_runV (As := [.int (nI j)]) (rest := []) ⟨hx, hb, hml, hown, hT⟩ (c_P_differenceAt_some l D κ base s.heap (hP.sub [0, 2, 3] rfl) j hj4 (by rw [hfS j hj4, if_pos hj]) (hb1 j hj).1.lt.1 (.null) (fun _ => rfl) (fun q => absurd hk q)) (cwV 1 hT (TT_V kP71 kiP_differenceAt ksP_differenceAt knP kcP_differenceAt) rfl rfl rfl (by decide +kernel) ⟨Nat.le_of_ble_eq_true rfl, Nat.le_of_ble_eq_true rfl⟩) (pcV hE hS hAb (va_recv hK hP (ci := 2) (q0 := 0) rfl rfl)) rfl rfl hl.1 rfl (lv_room (Nat.le_of_ble_eq_true rfl)) dP_answer_2 ⟨Nat.le_of_ble_eq_true rfl, Nat.le_of_ble_eq_true rfl⟩) ?_
      refine lv_astoreN (lv' := [(4, .null), (0, .ref a), (1, .int (nI j)), (2, .int y), (3, .int z)]) hx hb dP_answer_5 hl (by decide) rfl (fun ls hl => ?_)
      refine lv_aload_n hx hb dP_answer_7 rfl (lv_at hl 1 rfl) ?_
      refine lv_iload_n hx hb dP_answer_8 rfl (lv_at hl 3 rfl) ?_
      rcases whoT nT y with e2 | ⟨i, hi, hi26, rfl⟩
      · refine x_callP (v := .null) (va_runV (As := [.int y]) (rest := []) ⟨hx, hb, hml, hown, hT⟩ (c_P_tasterAt l D κ base s.heap (hP.sub [0, 1] rfl) y .null (fun _ => rfl) (none_at (by decide) (noT_fr e2 hfT))) (cwV 1 hT (TT_V kP56 kiP_tasterAt ksP_tasterAt knP kcP_tasterAt) rfl rfl rfl (by decide +kernel) ⟨Nat.le_of_ble_eq_true rfl, Nat.le_of_ble_eq_true rfl⟩) (pcV hE hS hAb (va_recv hK hP (ci := 2) (q0 := 0) rfl rfl)) rfl rfl hl.1 rfl (lv_room (Nat.le_of_ble_eq_true rfl)) dP_answer_9 ⟨Nat.le_of_ble_eq_true rfl, Nat.le_of_ble_eq_true rfl⟩) ?_
        refine lv_astoreN (lv' := [(5, .null), (4, .null), (0, .ref a), (1, .int (nI j)), (2, .int y), (3, .int z)]) hx hb dP_answer_12 hl (by decide) rfl (fun ls hl => ?_)
        refine lv_aloadN hx hb dP_answer_14 (lv_at hl 1 rfl) ?_
        refine lv_ifnullN (tgt := 47) hx hb dP_answer_16 (by decide) ?_
        refine lv_iconst (v := nI 0) hx hb dP_answer_47 (by decide) ?_
        obtain ⟨g1, rfl, rfl, rfl, rfl, rfl⟩ := q3 j hj rfl hk
        exact W.zret (v := nI 0) hx hb hr (by decide) (fun t ht hW => ⟨some (.int (nI 0)), rfl, by rw [ht]; exact ⟨by rw [g1], hR0, FrC.rf⟩⟩) (fun q h => absurd h List.not_mem_nil) dP_answer_48
      · refine x_callP (v := .ref (bT i)) (va_runV (As := [.int (nI i)]) (rest := []) ⟨hx, hb, hml, hown, hT⟩ (c_P_tasterAt l D κ base s.heap (hP.sub [0, 1] rfl) (nI i) (.ref (bT i)) (fun h => at_out (by decide) hi26 h rfl) (some_at (by decide) hi26 (by rw [hfT i hi26, if_pos hi]))) (cwV 1 hT (TT_V kP56 kiP_tasterAt ksP_tasterAt knP kcP_tasterAt) rfl rfl rfl (by decide +kernel) ⟨Nat.le_of_ble_eq_true rfl, Nat.le_of_ble_eq_true rfl⟩) (pcV hE hS hAb (va_recv hK hP (ci := 2) (q0 := 0) rfl rfl)) rfl rfl hl.1 rfl (lv_room (Nat.le_of_ble_eq_true rfl)) dP_answer_9 ⟨Nat.le_of_ble_eq_true rfl, Nat.le_of_ble_eq_true rfl⟩) ?_
        refine lv_astore (lv' := [(5, .ref (bT i)), (4, .null), (0, .ref a), (1, .int (nI j)), (2, .int (nI i)), (3, .int z)]) hx hb dP_answer_12 hl (by decide) rfl (fun ls hl => ?_)
        refine lv_aloadN hx hb dP_answer_14 (lv_at hl 1 rfl) ?_
        refine lv_ifnullN (tgt := 47) hx hb dP_answer_16 (by decide) ?_
        refine lv_iconst (v := nI 0) hx hb dP_answer_47 (by decide) ?_
        obtain ⟨g1, rfl, rfl, rfl, rfl, rfl⟩ := q3 j hj rfl hk
        exact W.zret (v := nI 0) hx hb hr (by decide) (fun t ht hW => ⟨some (.int (nI 0)), rfl, by rw [ht]; exact ⟨by rw [g1], hR0, FrC.rf⟩⟩) (fun q h => absurd h List.not_mem_nil) dP_answer_48
    · refine lv_aload_n hx hb dP_answer_0 rfl (lv_at hl 0 rfl) ?_
      refine lv_iload_n hx hb dP_answer_1 rfl (lv_at hl 1 rfl) ?_
      refine x_callP (v := .ref (bS j)) (va_runV (As := [.int (nI j)]) (rest := []) ⟨hx, hb, hml, hown, hT⟩ (c_P_differenceAt_some l D κ base s.heap (hP.sub [0, 2, 3] rfl) j hj4 (by rw [hfS j hj4, if_pos hj]) (hb1 j hj).1.lt.1 (.ref (bS j)) (fun q => absurd q hk) (fun _ => rfl)) (cwV 1 hT (TT_V kP71 kiP_differenceAt ksP_differenceAt knP kcP_differenceAt) rfl rfl rfl (by decide +kernel) ⟨Nat.le_of_ble_eq_true rfl, Nat.le_of_ble_eq_true rfl⟩) (pcV hE hS hAb (va_recv hK hP (ci := 2) (q0 := 0) rfl rfl)) rfl rfl hl.1 rfl (lv_room (Nat.le_of_ble_eq_true rfl)) dP_answer_2 ⟨Nat.le_of_ble_eq_true rfl, Nat.le_of_ble_eq_true rfl⟩) ?_
      refine lv_astore (lv' := [(4, .ref (bS j)), (0, .ref a), (1, .int (nI j)), (2, .int y), (3, .int z)]) hx hb dP_answer_5 hl (by decide) rfl (fun ls hl => ?_)
      refine lv_aload_n hx hb dP_answer_7 rfl (lv_at hl 1 rfl) ?_
      refine lv_iload_n hx hb dP_answer_8 rfl (lv_at hl 3 rfl) ?_
      rcases whoT nT y with e2 | ⟨i, hi, hi26, rfl⟩
      · refine x_callP (v := .null) (va_runV (As := [.int y]) (rest := []) ⟨hx, hb, hml, hown, hT⟩ (c_P_tasterAt l D κ base s.heap (hP.sub [0, 1] rfl) y .null (fun _ => rfl) (none_at (by decide) (noT_fr e2 hfT))) (cwV 1 hT (TT_V kP56 kiP_tasterAt ksP_tasterAt knP kcP_tasterAt) rfl rfl rfl (by decide +kernel) ⟨Nat.le_of_ble_eq_true rfl, Nat.le_of_ble_eq_true rfl⟩) (pcV hE hS hAb (va_recv hK hP (ci := 2) (q0 := 0) rfl rfl)) rfl rfl hl.1 rfl (lv_room (Nat.le_of_ble_eq_true rfl)) dP_answer_9 ⟨Nat.le_of_ble_eq_true rfl, Nat.le_of_ble_eq_true rfl⟩) ?_
        refine lv_astoreN (lv' := [(5, .null), (4, .ref (bS j)), (0, .ref a), (1, .int (nI j)), (2, .int y), (3, .int z)]) hx hb dP_answer_12 hl (by decide) rfl (fun ls hl => ?_)
        refine lv_aload hx hb dP_answer_14 (lv_at hl 1 rfl) ?_
        refine lv_ifnull hx hb dP_answer_16 ?_
        refine lv_aloadN hx hb dP_answer_19 (lv_at hl 0 rfl) ?_
        refine lv_ifnullN (tgt := 47) hx hb dP_answer_21 (by decide) ?_
        refine lv_iconst (v := nI 0) hx hb dP_answer_47 (by decide) ?_
        obtain ⟨g1, rfl, rfl, rfl, rfl, rfl⟩ := q2 e2
        exact W.zret (v := nI 0) hx hb hr (by decide) (fun t ht hW => ⟨some (.int (nI 0)), rfl, by rw [ht]; exact ⟨by rw [g1], hR0, FrC.rf⟩⟩) (fun q h => absurd h List.not_mem_nil) dP_answer_48
      · refine x_callP (v := .ref (bT i)) (va_runV (As := [.int (nI i)]) (rest := []) ⟨hx, hb, hml, hown, hT⟩ (c_P_tasterAt l D κ base s.heap (hP.sub [0, 1] rfl) (nI i) (.ref (bT i)) (fun h => at_out (by decide) hi26 h rfl) (some_at (by decide) hi26 (by rw [hfT i hi26, if_pos hi]))) (cwV 1 hT (TT_V kP56 kiP_tasterAt ksP_tasterAt knP kcP_tasterAt) rfl rfl rfl (by decide +kernel) ⟨Nat.le_of_ble_eq_true rfl, Nat.le_of_ble_eq_true rfl⟩) (pcV hE hS hAb (va_recv hK hP (ci := 2) (q0 := 0) rfl rfl)) rfl rfl hl.1 rfl (lv_room (Nat.le_of_ble_eq_true rfl)) dP_answer_9 ⟨Nat.le_of_ble_eq_true rfl, Nat.le_of_ble_eq_true rfl⟩) ?_
        have b1 := hs1 i hi
        have b3 := hs5 i j hi hj
        obtain ⟨ht1, ht2, -⟩ := hb2 i hi
        obtain ⟨ho, haw⟩ := hoa i hi26
        have hP : va_P D vwCl [(a, .inr (2, [.long sd, .ref (a + 1), .ref (a + 2), .int (nI nT), .int (nI nS), .ref (a + 3), .ref (a + 4)])), ((a + 1), .inl (κ 3, 26, .inr (.inr (.inr (.inr fT))))), ((a + 2), .inl (κ 4, 40, .inr (.inr (.inr (.inr fS))))), ((bS j), .inr (1, [.int (nI (kd j)), .int (nI (sp j)), .ref ((bS j) + 1), .ref ((bS j) + 2), .ref ((bS j) + 3), .int (nI (ca j)), .int (nI (cr j))])), (((bS j) + 1), .inl (κ 0, 26, .inl (fun i => nI (od j i)))), (((bS j) + 2), .inl (κ 1, 26, .inl (fun i => nI (aw j i)))), ((bT i), .inr (0, [.ref ((bT i) + 1), .ref ((bT i) + 2), .int (nI (ta i)), .int (nI (tr i))]))] s.heap := va_P.app hP ((hTas i hi).sub [0] rfl)
        refine lv_astore (lv' := [(5, .ref (bT i)), (4, .ref (bS j)), (0, .ref a), (1, .int (nI j)), (2, .int (nI i)), (3, .int z)]) hx hb dP_answer_12 hl (by decide) rfl (fun ls hl => ?_)
        refine lv_aload hx hb dP_answer_14 (lv_at hl 1 rfl) ?_
        refine lv_ifnull hx hb dP_answer_16 ?_
        refine lv_aload hx hb dP_answer_19 (lv_at hl 0 rfl) ?_
        refine lv_ifnull hx hb dP_answer_21 ?_
        refine lv_iload_n hx hb dP_answer_24 rfl (lv_at hl 5 rfl) ?_
        rcases pk_ix z (show sp j < 2 ^ 31 by omega) with e3 | e3 | ⟨k, hk2, rfl⟩
        · refine lv_if_lt (tgt := 47) hx hb dP_answer_25 (by decide) (fun h9 => ?_) (fun h9 => absurd e3 h9)
          refine lv_iconst (v := nI 0) hx hb dP_answer_47 (by decide) ?_
          obtain ⟨g1, rfl, rfl, rfl, rfl, rfl⟩ := q4 j hj rfl (Or.inl e3)
          exact W.zret (v := nI 0) hx hb hr (by decide) (fun t ht hW => ⟨some (.int (nI 0)), rfl, by rw [ht]; exact ⟨by rw [g1], hR0, FrC.rf⟩⟩) (fun q h => absurd h List.not_mem_nil) dP_answer_48
        · refine lv_if_lt (tgt := 47) hx hb dP_answer_25 (by decide) (fun h10 => absurd (Int32.lt_of_le_of_lt e3 h10) (nI_pos (by omega))) (fun h10 => ?_)
          refine lv_iload_n hx hb dP_answer_28 rfl (lv_at hl 5 rfl) ?_
          refine lv_aload hx hb dP_answer_29 (lv_at hl 1 rfl) ?_
          refine va_getN (D := D) (ci := 1) (v := .int (nI (sp j))) (C := RS) (T := FS) (N := 7) hx hb hT inS hown hK hP 3 rfl rfl 1 (by decide) (va_Nw.use rfl (kN74 hE.2.1)) (fun _ h9 => h9) rfl dP_answer_31 ?_
          refine lv_icmp_ge (tgt := 47) hx hb dP_answer_34 (by decide) (fun h11 => ?_) (fun h11 => absurd e3 h11)
          refine lv_iconst (v := nI 0) hx hb dP_answer_47 (by decide) ?_
          obtain ⟨g1, rfl, rfl, rfl, rfl, rfl⟩ := q4 j hj rfl (Or.inr e3)
          exact W.zret (v := nI 0) hx hb hr (by decide) (fun t ht hW => ⟨some (.int (nI 0)), rfl, by rw [ht]; exact ⟨by rw [g1], hR0, FrC.rf⟩⟩) (fun q h => absurd h List.not_mem_nil) dP_answer_48
        · refine x_zlt (a := k) (tgt := 47) hx hb dP_answer_25 (by decide) (by omega) ?_
          refine lv_iload_n hx hb dP_answer_28 rfl (lv_at hl 5 rfl) ?_
          refine lv_aload hx hb dP_answer_29 (lv_at hl 1 rfl) ?_
          refine va_getN (D := D) (ci := 1) (v := .int (nI (sp j))) (C := RS) (T := FS) (N := 7) hx hb hT inS hown hK hP 3 rfl rfl 1 (by decide) (va_Nw.use rfl (kN74 hE.2.1)) (fun _ h9 => h9) rfl dP_answer_31 ?_
          refine x_cge (a := k) (b := sp j) (tgt := 47) hx hb dP_answer_34 (by decide) (by omega) (by omega) (fun h13 => absurd h13 (by omega)) (fun h13 => ?_)
          refine lv_aload hx hb dP_answer_37 (lv_at hl 1 rfl) ?_
          refine va_getN (D := D) (ci := 1) (v := .ref ((bS j) + 2)) (C := RS) (T := FS) (N := 7) hx hb hT inS hown hK hP 3 rfl rfl 3 (by decide) (va_Nw.use rfl (kN77 hE.2.1)) (fun _ h9 => h9) rfl dP_answer_39 ?_
          refine lv_iload_n hx hb dP_answer_42 rfl (lv_at hl 4 rfl) ?_
          refine x_zald hx hb hK hP 5 1 (j := i) (v := nI (aw j i)) rfl rfl (by omega) (by decide) (rfl) dP_answer_43 ?_
          refine x_zeq (a := aw j i) (tgt := 49) hx hb dP_answer_44 (by decide) (by omega) (fun g5 => ?_) (fun g5 => ?_)
          · obtain ⟨⟨c1, c2⟩, g1, g2, g3, g4, gy, gn⟩ := q6 j i k hj hi hk2 rfl rfl rfl hk g5
            have hrg := cntO_le hok
            have hko : od j i < cntO (kd j) 0 := by rw [← cntO_k (n := sp j) (show kd j < 3 by omega)]; exact ho
            have hrN := rgtN_lt (show kd j < 3 by omega) hko
            have hnd : ([(a, .inr (2, [.long sd, .ref (a + 1), .ref (a + 2), .int (nI nT), .int (nI nS), .ref (a + 3), .ref (a + 4)])), ((a + 1), .inl (κ 3, 26, .inr (.inr (.inr (.inr fT))))), ((a + 2), .inl (κ 4, 40, .inr (.inr (.inr (.inr fS))))), ((bS j), .inr (1, [.int (nI (kd j)), .int (nI (sp j)), .ref ((bS j) + 1), .ref ((bS j) + 2), .ref ((bS j) + 3), .int (nI (ca j)), .int (nI (cr j))])), (((bS j) + 1), .inl (κ 0, 26, .inl (fun i => nI (od j i)))), (((bS j) + 2), .inl (κ 1, 26, .inl (fun i => nI (aw j i)))), ((bT i), .inr (0, [.ref ((bT i) + 1), .ref ((bT i) + 2), .int (nI (ta i)), .int (nI (tr i))]))] : va_W).map Prod.fst |>.Nodup := by simp only [List.map, List.nodup_cons, List.mem_cons, List.not_mem_nil, or_false, not_or, List.nodup_nil, and_true, not_false_eq_true, List.forall_mem_cons, forall_eq_or_imp, forall_eq]; omega
            have hD0 : va_D (fun q => base ≤ q) [(a, .inr (2, [.long sd, .ref (a + 1), .ref (a + 2), .int (nI nT), .int (nI nS), .ref (a + 3), .ref (a + 4)])), ((a + 1), .inl (κ 3, 26, .inr (.inr (.inr (.inr fT))))), ((a + 2), .inl (κ 4, 40, .inr (.inr (.inr (.inr fS))))), ((bS j), .inr (1, [.int (nI (kd j)), .int (nI (sp j)), .ref ((bS j) + 1), .ref ((bS j) + 2), .ref ((bS j) + 3), .int (nI (ca j)), .int (nI (cr j))])), (((bS j) + 1), .inl (κ 0, 26, .inl (fun i => nI (od j i)))), (((bS j) + 2), .inl (κ 1, 26, .inl (fun i => nI (aw j i)))), ((bT i), .inr (0, [.ref ((bT i) + 1), .ref ((bT i) + 2), .int (nI (ta i)), .int (nI (tr i))]))] := D_of hnd (by simp only [List.map, List.nodup_cons, List.mem_cons, List.not_mem_nil, or_false, not_or, List.nodup_nil, and_true, not_false_eq_true, List.forall_mem_cons, forall_eq_or_imp, forall_eq]; omega)
            have hD := hD0.self (sz := s.heap.size)
            have hAb : ∀ x9, va_A [(a, .inr (2, [.long sd, .ref (a + 1), .ref (a + 2), .int (nI nT), .int (nI nS), .ref (a + 3), .ref (a + 4)])), ((a + 1), .inl (κ 3, 26, .inr (.inr (.inr (.inr fT))))), ((a + 2), .inl (κ 4, 40, .inr (.inr (.inr (.inr fS))))), ((bS j), .inr (1, [.int (nI (kd j)), .int (nI (sp j)), .ref ((bS j) + 1), .ref ((bS j) + 2), .ref ((bS j) + 3), .int (nI (ca j)), .int (nI (cr j))])), (((bS j) + 1), .inl (κ 0, 26, .inl (fun i => nI (od j i)))), (((bS j) + 2), .inl (κ 1, 26, .inl (fun i => nI (aw j i)))), ((bT i), .inr (0, [.ref ((bT i) + 1), .ref ((bT i) + 2), .int (nI (ta i)), .int (nI (tr i))]))] s.heap.size x9 → base ≤ x9 := fun x9 h => by rcases h with ⟨k9, e9, h⟩ | h; exact hD0.2 k9 _ h; exact Nat.le_trans hbs h
            have hAq : ∀ x9, va_A [(a, .inr (2, [.long sd, .ref (a + 1), .ref (a + 2), .int (nI nT), .int (nI nS), .ref (a + 3), .ref (a + 4)])), ((a + 1), .inl (κ 3, 26, .inr (.inr (.inr (.inr fT))))), ((a + 2), .inl (κ 4, 40, .inr (.inr (.inr (.inr fS))))), ((bS j), .inr (1, [.int (nI (kd j)), .int (nI (sp j)), .ref ((bS j) + 1), .ref ((bS j) + 2), .ref ((bS j) + 3), .int (nI (ca j)), .int (nI (cr j))])), (((bS j) + 1), .inl (κ 0, 26, .inl (fun i => nI (od j i)))), (((bS j) + 2), .inl (κ 1, 26, .inl (fun i => nI (aw j i)))), ((bT i), .inr (0, [.ref ((bT i) + 1), .ref ((bT i) + 2), .int (nI (ta i)), .int (nI (tr i))]))] s.heap.size x9 → (x9 = a ∨ x9 = (a + 1) ∨ x9 = (a + 2) ∨ x9 = (bS j) ∨ x9 = ((bS j) + 1) ∨ x9 = ((bS j) + 2) ∨ x9 = (bT i)) ∨ s.heap.size ≤ x9 := fun x9 h => by have := A_addr h; simpa only [List.map, List.mem_cons, List.not_mem_nil, or_false] using this
            have hAO : ∀ x9, va_A [(a, .inr (2, [.long sd, .ref (a + 1), .ref (a + 2), .int (nI nT), .int (nI nS), .ref (a + 3), .ref (a + 4)])), ((a + 1), .inl (κ 3, 26, .inr (.inr (.inr (.inr fT))))), ((a + 2), .inl (κ 4, 40, .inr (.inr (.inr (.inr fS))))), ((bS j), .inr (1, [.int (nI (kd j)), .int (nI (sp j)), .ref ((bS j) + 1), .ref ((bS j) + 2), .ref ((bS j) + 3), .int (nI (ca j)), .int (nI (cr j))])), (((bS j) + 1), .inl (κ 0, 26, .inl (fun i => nI (od j i)))), (((bS j) + 2), .inl (κ 1, 26, .inl (fun i => nI (aw j i)))), ((bT i), .inr (0, [.ref ((bT i) + 1), .ref ((bT i) + 2), .int (nI (ta i)), .int (nI (tr i))]))] s.heap.size x9 → OwnC a nT nS bT bS s.heap.size x9 := fun x9 h => by exact ownTS hi hj (by have := hAq x9 h; omega)
            generalize hAe : va_A [(a, .inr (2, [.long sd, .ref (a + 1), .ref (a + 2), .int (nI nT), .int (nI nS), .ref (a + 3), .ref (a + 4)])), ((a + 1), .inl (κ 3, 26, .inr (.inr (.inr (.inr fT))))), ((a + 2), .inl (κ 4, 40, .inr (.inr (.inr (.inr fS))))), ((bS j), .inr (1, [.int (nI (kd j)), .int (nI (sp j)), .ref ((bS j) + 1), .ref ((bS j) + 2), .ref ((bS j) + 3), .int (nI (ca j)), .int (nI (cr j))])), (((bS j) + 1), .inl (κ 0, 26, .inl (fun i => nI (od j i)))), (((bS j) + 2), .inl (κ 1, 26, .inl (fun i => nI (aw j i)))), ((bT i), .inr (0, [.ref ((bT i) + 1), .ref ((bT i) + 2), .int (nI (ta i)), .int (nI (tr i))]))] s.heap.size = A at hD hAb hAq hAO
            have hA : ∀ x9, s.heap.size ≤ x9 → A x9 := fun x9 h => by rw [← hAe]; exact Or.inr h
            have hS : va_S A s.heap s.heap [] := va_S.rf
            refine lv_aload hx hb dP_answer_49 (lv_at hl 1 rfl) ?_
            refine va_getN (D := D) (ci := 1) (v := .ref ((bS j) + 2)) (C := RS) (T := FS) (N := 7) hx hb hT inS hown hK hP 3 rfl rfl 3 (by decide) (va_Nw.use rfl (kN77 hE.2.1)) (fun _ h9 => h9) rfl dP_answer_51 ?_
            refine lv_iload_n hx hb dP_answer_54 rfl (lv_at hl 4 rfl) ?_
            refine lv_iconst (v := nI 1) hx hb dP_answer_55 (by decide) ?_
            refine x_zast hx hb hK hP hD hS 5 1 (j := i) rfl rfl (by omega) (by decide) (by decide) dP_answer_56 (fun H locs hP hD hS => ?_)
            have hP : va_P D vwCl [(a, .inr (2, [.long sd, .ref (a + 1), .ref (a + 2), .int (nI nT), .int (nI nS), .ref (a + 3), .ref (a + 4)])), ((a + 1), .inl (κ 3, 26, .inr (.inr (.inr (.inr fT))))), ((a + 2), .inl (κ 4, 40, .inr (.inr (.inr (.inr fS))))), ((bS j), .inr (1, [.int (nI (kd j)), .int (nI (sp j)), .ref ((bS j) + 1), .ref ((bS j) + 2), .ref ((bS j) + 3), .int (nI (ca j)), .int (nI (cr j))])), (((bS j) + 1), .inl (κ 0, 26, .inl (fun i => nI (od j i)))), (((bS j) + 2), .inl (κ 1, 26, .inl (upd (fun i => nI (aw j i)) i (nI 1)))), ((bT i), .inr (0, [.ref ((bT i) + 1), .ref ((bT i) + 2), .int (nI (ta i)), .int (nI (tr i))]))] H := hP
            have hD : va_D A [(a, .inr (2, [.long sd, .ref (a + 1), .ref (a + 2), .int (nI nT), .int (nI nS), .ref (a + 3), .ref (a + 4)])), ((a + 1), .inl (κ 3, 26, .inr (.inr (.inr (.inr fT))))), ((a + 2), .inl (κ 4, 40, .inr (.inr (.inr (.inr fS))))), ((bS j), .inr (1, [.int (nI (kd j)), .int (nI (sp j)), .ref ((bS j) + 1), .ref ((bS j) + 2), .ref ((bS j) + 3), .int (nI (ca j)), .int (nI (cr j))])), (((bS j) + 1), .inl (κ 0, 26, .inl (fun i => nI (od j i)))), (((bS j) + 2), .inl (κ 1, 26, .inl (upd (fun i => nI (aw j i)) i (nI 1)))), ((bT i), .inr (0, [.ref ((bT i) + 1), .ref ((bT i) + 2), .int (nI (ta i)), .int (nI (tr i))]))] := hD
            refine lv_aload hx hb dP_answer_57 (lv_at hl 1 rfl) ?_
            refine lv_dup hx hb dP_answer_59 rfl ?_
            refine va_getN (D := D) (ci := 1) (v := .int (nI (ca j))) (C := RS) (T := FS) (N := 7) hx hb hT inS hown hK hP 3 rfl rfl 5 (by decide) (va_Nw.use rfl (kN81 hE.2.1)) (fun _ h9 => h9) rfl dP_answer_60 ?_
            refine lv_iconst (v := nI 1) hx hb dP_answer_63 (by decide) ?_
            refine x_iadd (v := nI ((ca j) + 1)) hx hb dP_answer_64 (nI_add _ _) ?_
            refine va_putN (D := D) (ci := 1) (v := .int (nI ((ca j) + 1))) (ty := .int) (C := RS) (T := FS) (N := 7) hx hb hT inS tyS tyS_ok nmS hown hK hP hD hS 3 rfl rfl 5 (by decide) (va_Nw.use rfl (kN81 hE.2.1)) (fun _ h9 => h9) rfl (by decide +kernel) rfl rfl (Nat.le_of_ble_eq_true rfl) dP_answer_65 (fun H locs hP hD hS => ?_)
            have hP : va_P D vwCl [(a, .inr (2, [.long sd, .ref (a + 1), .ref (a + 2), .int (nI nT), .int (nI nS), .ref (a + 3), .ref (a + 4)])), ((a + 1), .inl (κ 3, 26, .inr (.inr (.inr (.inr fT))))), ((a + 2), .inl (κ 4, 40, .inr (.inr (.inr (.inr fS))))), ((bS j), .inr (1, [.int (nI (kd j)), .int (nI (sp j)), .ref ((bS j) + 1), .ref ((bS j) + 2), .ref ((bS j) + 3), .int (nI ((ca j) + 1)), .int (nI (cr j))])), (((bS j) + 1), .inl (κ 0, 26, .inl (fun i => nI (od j i)))), (((bS j) + 2), .inl (κ 1, 26, .inl (upd (fun i => nI (aw j i)) i (nI 1)))), ((bT i), .inr (0, [.ref ((bT i) + 1), .ref ((bT i) + 2), .int (nI (ta i)), .int (nI (tr i))]))] H := hP
            have hD : va_D A [(a, .inr (2, [.long sd, .ref (a + 1), .ref (a + 2), .int (nI nT), .int (nI nS), .ref (a + 3), .ref (a + 4)])), ((a + 1), .inl (κ 3, 26, .inr (.inr (.inr (.inr fT))))), ((a + 2), .inl (κ 4, 40, .inr (.inr (.inr (.inr fS))))), ((bS j), .inr (1, [.int (nI (kd j)), .int (nI (sp j)), .ref ((bS j) + 1), .ref ((bS j) + 2), .ref ((bS j) + 3), .int (nI ((ca j) + 1)), .int (nI (cr j))])), (((bS j) + 1), .inl (κ 0, 26, .inl (fun i => nI (od j i)))), (((bS j) + 2), .inl (κ 1, 26, .inl (upd (fun i => nI (aw j i)) i (nI 1)))), ((bT i), .inr (0, [.ref ((bT i) + 1), .ref ((bT i) + 2), .int (nI (ta i)), .int (nI (tr i))]))] := hD
            refine lv_aload hx hb dP_answer_68 (lv_at hl 0 rfl) ?_
            refine lv_dup hx hb dP_answer_70 rfl ?_
            refine va_getN (D := D) (ci := 0) (v := .int (nI (ta i))) (C := RT) (T := FT) (N := 4) hx hb hT inT hown hK hP 6 rfl rfl 2 (by decide) (va_Nw.use rfl (kN84 hE.2.1)) (fun _ h9 => h9) rfl dP_answer_71 ?_
            refine lv_iconst (v := nI 1) hx hb dP_answer_74 (by decide) ?_
            refine x_iadd (v := nI ((ta i) + 1)) hx hb dP_answer_75 (nI_add _ _) ?_
            refine va_putN (D := D) (ci := 0) (v := .int (nI ((ta i) + 1))) (ty := .int) (C := RT) (T := FT) (N := 4) hx hb hT inT tyT tyT_ok nmT hown hK hP hD hS 6 rfl rfl 2 (by decide) (va_Nw.use rfl (kN84 hE.2.1)) (fun _ h9 => h9) rfl (by decide +kernel) rfl rfl (Nat.le_of_ble_eq_true rfl) dP_answer_76 (fun H locs hP hD hS => ?_)
            have hP : va_P D vwCl [(a, .inr (2, [.long sd, .ref (a + 1), .ref (a + 2), .int (nI nT), .int (nI nS), .ref (a + 3), .ref (a + 4)])), ((a + 1), .inl (κ 3, 26, .inr (.inr (.inr (.inr fT))))), ((a + 2), .inl (κ 4, 40, .inr (.inr (.inr (.inr fS))))), ((bS j), .inr (1, [.int (nI (kd j)), .int (nI (sp j)), .ref ((bS j) + 1), .ref ((bS j) + 2), .ref ((bS j) + 3), .int (nI ((ca j) + 1)), .int (nI (cr j))])), (((bS j) + 1), .inl (κ 0, 26, .inl (fun i => nI (od j i)))), (((bS j) + 2), .inl (κ 1, 26, .inl (upd (fun i => nI (aw j i)) i (nI 1)))), ((bT i), .inr (0, [.ref ((bT i) + 1), .ref ((bT i) + 2), .int (nI ((ta i) + 1)), .int (nI (tr i))]))] H := hP
            have hD : va_D A [(a, .inr (2, [.long sd, .ref (a + 1), .ref (a + 2), .int (nI nT), .int (nI nS), .ref (a + 3), .ref (a + 4)])), ((a + 1), .inl (κ 3, 26, .inr (.inr (.inr (.inr fT))))), ((a + 2), .inl (κ 4, 40, .inr (.inr (.inr (.inr fS))))), ((bS j), .inr (1, [.int (nI (kd j)), .int (nI (sp j)), .ref ((bS j) + 1), .ref ((bS j) + 2), .ref ((bS j) + 3), .int (nI ((ca j) + 1)), .int (nI (cr j))])), (((bS j) + 1), .inl (κ 0, 26, .inl (fun i => nI (od j i)))), (((bS j) + 2), .inl (κ 1, 26, .inl (upd (fun i => nI (aw j i)) i (nI 1)))), ((bT i), .inr (0, [.ref ((bT i) + 1), .ref ((bT i) + 2), .int (nI ((ta i) + 1)), .int (nI (tr i))]))] := hD
            refine lv_iload_n hx hb dP_answer_79 rfl (lv_at hl 5 rfl) ?_
            refine lv_aload hx hb dP_answer_80 (lv_at hl 1 rfl) ?_
            refine va_getN (D := D) (ci := 1) (v := .int (nI (kd j))) (C := RS) (T := FS) (N := 7) hx hb hT inS hown hK hP 3 rfl rfl 0 (by decide) (va_Nw.use rfl (kN85 hE.2.1)) (fun _ h9 => h9) rfl dP_answer_82 ?_
            refine lv_aload hx hb dP_answer_85 (lv_at hl 1 rfl) ?_
            refine va_getN (D := D) (ci := 1) (v := .ref ((bS j) + 1)) (C := RS) (T := FS) (N := 7) hx hb hT inS hown hK hP 3 rfl rfl 2 (by decide) (va_Nw.use rfl (kN64 hE.2.1)) (fun _ h9 => h9) rfl dP_answer_87 ?_
            refine lv_iload_n hx hb dP_answer_90 rfl (lv_at hl 4 rfl) ?_
            refine x_iald hx hb hK hP 4 0 (j := i) (v := nI (od j i)) rfl rfl (by omega) (by decide) (rfl) dP_answer_91 ?_
            refine x_callP (v := .int (nI (rgtN (kd j) (od j i)))) (va_runS (As := [.int (nI (kd j)), .int (nI (od j i))]) (rest := [.int (nI k)]) ⟨hx, hb, hml, hown, hT⟩ (c_P_rightPlace l D κ base H (kd j) (od j i) (by omega) hko) (va_cwS 2 hT (TT_S kP88 ktP_rightPlace knP kcP_rightPlace) rfl rfl rfl (by decide +kernel) ⟨Nat.le_of_ble_eq_true rfl, Nat.le_of_ble_eq_true rfl⟩) (pcS hE hS hAb) rfl rfl hl.1 rfl (lv_room (Nat.le_of_ble_eq_true rfl)) dP_answer_92 ⟨Nat.le_of_ble_eq_true rfl, Nat.le_of_ble_eq_true rfl⟩) ?_
            refine x_cne (a := k) (b := rgtN (kd j) (od j i)) (tgt := 120) hx hb dP_answer_95 (by decide) (by omega) (by omega) (fun g8 => ?_) (fun g8 => ?_)
            · refine lv_iconst (v := nI 1) hx hb dP_answer_120 (by decide) ?_
              obtain ⟨g6, g7⟩ := gn g8
              exact W.zret (v := nI 1) hx hb hr (by decide) (fun t ht hW => ⟨some (.int (nI 1)), rfl, by rw [ht]; exact ⟨by rw [g1], by rw [g2, g3, g4, g6, g7]; exact RC_answer hR0 hi hi26 hj c1 c2 (by omega) (by omega) hAq hS.1 hS.2.1 hfT hfS (hP.sub [0, 1, 2, 3, 4, 5, 6] rfl), ⟨hS.1, fun q h1 h2 => hS.2.1 q h1 (fun z => h2 (hAO q z))⟩⟩⟩) (fun q h => hAO _ (hS.2.2 q h)) dP_answer_121
            · refine lv_aload hx hb dP_answer_98 (lv_at hl 1 rfl) ?_
              refine lv_dup hx hb dP_answer_100 rfl ?_
              refine va_getN (D := D) (ci := 1) (v := .int (nI (cr j))) (C := RS) (T := FS) (N := 7) hx hb hT inS hown hK hP 3 rfl rfl 6 (by decide) (va_Nw.use rfl (kN92 hE.2.1)) (fun _ h9 => h9) rfl dP_answer_101 ?_
              refine lv_iconst (v := nI 1) hx hb dP_answer_104 (by decide) ?_
              refine x_iadd (v := nI ((cr j) + 1)) hx hb dP_answer_105 (nI_add _ _) ?_
              refine va_putN (D := D) (ci := 1) (v := .int (nI ((cr j) + 1))) (ty := .int) (C := RS) (T := FS) (N := 7) hx hb hT inS tyS tyS_ok nmS hown hK hP hD hS 3 rfl rfl 6 (by decide) (va_Nw.use rfl (kN92 hE.2.1)) (fun _ h9 => h9) rfl (by decide +kernel) rfl rfl (Nat.le_of_ble_eq_true rfl) dP_answer_106 (fun H locs hP hD hS => ?_)
              have hP : va_P D vwCl [(a, .inr (2, [.long sd, .ref (a + 1), .ref (a + 2), .int (nI nT), .int (nI nS), .ref (a + 3), .ref (a + 4)])), ((a + 1), .inl (κ 3, 26, .inr (.inr (.inr (.inr fT))))), ((a + 2), .inl (κ 4, 40, .inr (.inr (.inr (.inr fS))))), ((bS j), .inr (1, [.int (nI (kd j)), .int (nI (sp j)), .ref ((bS j) + 1), .ref ((bS j) + 2), .ref ((bS j) + 3), .int (nI ((ca j) + 1)), .int (nI ((cr j) + 1))])), (((bS j) + 1), .inl (κ 0, 26, .inl (fun i => nI (od j i)))), (((bS j) + 2), .inl (κ 1, 26, .inl (upd (fun i => nI (aw j i)) i (nI 1)))), ((bT i), .inr (0, [.ref ((bT i) + 1), .ref ((bT i) + 2), .int (nI ((ta i) + 1)), .int (nI (tr i))]))] H := hP
              have hD : va_D A [(a, .inr (2, [.long sd, .ref (a + 1), .ref (a + 2), .int (nI nT), .int (nI nS), .ref (a + 3), .ref (a + 4)])), ((a + 1), .inl (κ 3, 26, .inr (.inr (.inr (.inr fT))))), ((a + 2), .inl (κ 4, 40, .inr (.inr (.inr (.inr fS))))), ((bS j), .inr (1, [.int (nI (kd j)), .int (nI (sp j)), .ref ((bS j) + 1), .ref ((bS j) + 2), .ref ((bS j) + 3), .int (nI ((ca j) + 1)), .int (nI ((cr j) + 1))])), (((bS j) + 1), .inl (κ 0, 26, .inl (fun i => nI (od j i)))), (((bS j) + 2), .inl (κ 1, 26, .inl (upd (fun i => nI (aw j i)) i (nI 1)))), ((bT i), .inr (0, [.ref ((bT i) + 1), .ref ((bT i) + 2), .int (nI ((ta i) + 1)), .int (nI (tr i))]))] := hD
              refine lv_aload hx hb dP_answer_109 (lv_at hl 0 rfl) ?_
              refine lv_dup hx hb dP_answer_111 rfl ?_
              refine va_getN (D := D) (ci := 0) (v := .int (nI (tr i))) (C := RT) (T := FT) (N := 4) hx hb hT inT hown hK hP 6 rfl rfl 3 (by decide) (va_Nw.use rfl (kN95 hE.2.1)) (fun _ h9 => h9) rfl dP_answer_112 ?_
              refine lv_iconst (v := nI 1) hx hb dP_answer_115 (by decide) ?_
              refine x_iadd (v := nI ((tr i) + 1)) hx hb dP_answer_116 (nI_add _ _) ?_
              refine va_putN (D := D) (ci := 0) (v := .int (nI ((tr i) + 1))) (ty := .int) (C := RT) (T := FT) (N := 4) hx hb hT inT tyT tyT_ok nmT hown hK hP hD hS 6 rfl rfl 3 (by decide) (va_Nw.use rfl (kN95 hE.2.1)) (fun _ h9 => h9) rfl (by decide +kernel) rfl rfl (Nat.le_of_ble_eq_true rfl) dP_answer_117 (fun H locs hP hD hS => ?_)
              have hP : va_P D vwCl [(a, .inr (2, [.long sd, .ref (a + 1), .ref (a + 2), .int (nI nT), .int (nI nS), .ref (a + 3), .ref (a + 4)])), ((a + 1), .inl (κ 3, 26, .inr (.inr (.inr (.inr fT))))), ((a + 2), .inl (κ 4, 40, .inr (.inr (.inr (.inr fS))))), ((bS j), .inr (1, [.int (nI (kd j)), .int (nI (sp j)), .ref ((bS j) + 1), .ref ((bS j) + 2), .ref ((bS j) + 3), .int (nI ((ca j) + 1)), .int (nI ((cr j) + 1))])), (((bS j) + 1), .inl (κ 0, 26, .inl (fun i => nI (od j i)))), (((bS j) + 2), .inl (κ 1, 26, .inl (upd (fun i => nI (aw j i)) i (nI 1)))), ((bT i), .inr (0, [.ref ((bT i) + 1), .ref ((bT i) + 2), .int (nI ((ta i) + 1)), .int (nI ((tr i) + 1))]))] H := hP
              have hD : va_D A [(a, .inr (2, [.long sd, .ref (a + 1), .ref (a + 2), .int (nI nT), .int (nI nS), .ref (a + 3), .ref (a + 4)])), ((a + 1), .inl (κ 3, 26, .inr (.inr (.inr (.inr fT))))), ((a + 2), .inl (κ 4, 40, .inr (.inr (.inr (.inr fS))))), ((bS j), .inr (1, [.int (nI (kd j)), .int (nI (sp j)), .ref ((bS j) + 1), .ref ((bS j) + 2), .ref ((bS j) + 3), .int (nI ((ca j) + 1)), .int (nI ((cr j) + 1))])), (((bS j) + 1), .inl (κ 0, 26, .inl (fun i => nI (od j i)))), (((bS j) + 2), .inl (κ 1, 26, .inl (upd (fun i => nI (aw j i)) i (nI 1)))), ((bT i), .inr (0, [.ref ((bT i) + 1), .ref ((bT i) + 2), .int (nI ((ta i) + 1)), .int (nI ((tr i) + 1))]))] := hD
              refine lv_iconst (v := nI 1) hx hb dP_answer_120 (by decide) ?_
              obtain ⟨g6, g7⟩ := gy g8
              exact W.zret (v := nI 1) hx hb hr (by decide) (fun t ht hW => ⟨some (.int (nI 1)), rfl, by rw [ht]; exact ⟨by rw [g1], by rw [g2, g3, g4, g6, g7]; exact RC_answer hR0 hi hi26 hj c1 c2 (by omega) (by omega) hAq hS.1 hS.2.1 hfT hfS (hP.sub [0, 1, 2, 3, 4, 5, 6] rfl), ⟨hS.1, fun q h1 h2 => hS.2.1 q h1 (fun z => h2 (hAO q z))⟩⟩⟩) (fun q h => hAO _ (hS.2.2 q h)) dP_answer_121
          · refine lv_iconst (v := nI 0) hx hb dP_answer_47 (by decide) ?_
            obtain ⟨g1, rfl, rfl, rfl, rfl, rfl⟩ := q5 j i hj hi rfl rfl g5
            exact W.zret (v := nI 0) hx hb hr (by decide) (fun t ht hW => ⟨some (.int (nI 0)), rfl, by rw [ht]; exact ⟨by rw [g1], hR0, FrC.rf⟩⟩) (fun q h => absurd h List.not_mem_nil) dP_answer_48
end
section
/-! the mixing of orders -/
theorem ushr33 (h : Int64) : (h.toUInt64 >>> ((nI 33).toInt64.toUInt64 &&& Int64.toUInt64 63)).toInt64 = lN (h.toUInt64.toNat / 2 ^ 33) := by
  rw [show (nI 33).toInt64.toUInt64 &&& Int64.toUInt64 63 = (33 : UInt64) by decide]
  have h1 : (h.toUInt64 >>> (33 : UInt64)).toNat = h.toUInt64.toNat / 2 ^ 33 := by
    rw [UInt64.toNat_shiftRight, Nat.shiftRight_eq_div_pow]
    rfl
  rw [← h1]
  apply Int64.toBitVec_inj.mp
  show (h.toUInt64 >>> (33 : UInt64)).toBitVec = BitVec.ofNat 64 (h.toUInt64 >>> (33 : UInt64)).toNat
  apply BitVec.eq_of_toNat_eq
  rw [BitVec.toNat_ofNat]
  exact (Nat.mod_eq_of_lt (UInt64.toNat_lt _)).symm
theorem upd_nx {F : Nat → Int32} {i : Nat} (hF : ∀ k, k < i → F k = nI k) : ∀ k, k < i + 1 → upd F i (nI i) k = nI k := by
  intro k hk
  by_cases h : k = i
  · simp [upd, h]
  · simp [upd, h, hF k (by omega)]
def lcg (h : Int64) : Int64 := h * 6364136223846793005 + 1442695040888963407
def oth (h : Int64) (i : Nat) : Nat := h.toUInt64.toNat / 2 ^ 33 % (i + 1)
def swp (f : Nat → Nat) (i j : Nat) : Nat → Nat := fun k => if k = j then f i else if k = i then f j else f k
def mixF : Nat → Int64 → (Nat → Nat) → (Nat → Nat)
  | 0, _, f => f
  | i + 1, h, f => mixF i (lcg h) (swp f (i + 1) (oth (lcg h) (i + 1)))
def mixH (sd : Int64) (t b : Nat) : Int64 := sd + lN (1000003 * t) + lN (7919 * b)
def mixR (n : Nat) (sd : Int64) (t b : Nat) : Nat → Nat := mixF (n - 1) (mixH sd t b) (fun k => k)
/-- the order that taster i gets in test t, of n orders -/
def ordv (n : Nat) (sd : Int64) (t i : Nat) : Nat := mixR n sd t (i / n) (i % n)
theorem z33 (h : Int64) : h.toUInt64.toNat / 2 ^ 33 < 2 ^ 31 := by
  have := h.toUInt64.toNat_lt
  omega
theorem swp_lt {f : Nat → Nat} {i j n : Nat} (hf : ∀ k, k < n → f k < n) (hi : i < n) (hj : j < n) : ∀ k, k < n → swp f i j k < n := by
  intro k hk
  unfold swp
  split
  · exact hf i hi
  · split
    · exact hf j hj
    · exact hf k hk
theorem mixF_lt : ∀ (x : Nat) (h : Int64) (f : Nat → Nat) (n : Nat), x < n → (∀ k, k < n → f k < n) → ∀ k, k < n → mixF x h f k < n
  | 0, _, _, _, _, hf => hf
  | x + 1, h, f, n, hx, hf => by
    unfold mixF
    have ho : oth (lcg h) (x + 1) < x + 1 + 1 := Nat.mod_lt _ (by omega)
    exact mixF_lt x _ _ n (by omega) (swp_lt hf hx (by omega))
theorem mixR_lt {n : Nat} (sd : Int64) (t b : Nat) (hn : 0 < n) (k : Nat) (hk : k < n) : mixR n sd t b k < n := mixF_lt (n - 1) _ _ n (by omega) (fun _ h => h) k hk
theorem ordv_lt {n : Nat} (sd : Int64) (t i : Nat) (hn : 0 < n) : ordv n sd t i < n := mixR_lt sd t _ hn _ (Nat.mod_lt _ hn)
theorem swp_F {F : Nat → Int32} {f : Nat → Nat} {i j n : Nat} (hF : ∀ k, k < n → F k = nI (f k)) (hi : i < n) (hj : j < n) : ∀ k, k < n → upd (upd F i (F j)) j (F i) k = nI (swp f i j k) := by
  intro k hk
  by_cases h1 : k = j
  · simp [upd, swp, h1, hF i hi]
  · by_cases h2 : k = i
    · subst h2
      simp [upd, swp, h1, hF j hj]
    · simp [upd, swp, h1, h2, hF k hk]
set_option maxHeartbeats 400000 in
set_option maxRecDepth 100000 in
theorem c_P_mixOrders (l : Launch) (D : va_G) (κ : Nat → ClassId) (base : Nat) (H0 : Heap) {a nT nS : Nat} {sd : Int64} {Fz : Nat → Int32} (n t b : Nat) (hn1 : 1 ≤ n) (hn2 : n ≤ 120) (ht : t < 2 ^ 31) (hb0 : b < 2 ^ 31) (hP : va_P D vwCl [(a, .inr (2, [.long sd, .ref (a + 1), .ref (a + 2), .int (nI nT), .int (nI nS), .ref (a + 3), .ref (a + 4)])), ((a + 3), .inl (κ 0, 120, .inl Fz))] H0) (hD0 : va_D (fun q => base ≤ q) [(a, .inr (2, [.long sd, .ref (a + 1), .ref (a + 2), .int (nI nT), .int (nI nS), .ref (a + 3), .ref (a + 4)])), ((a + 3), .inl (κ 0, 120, .inl Fz))]) (hbs : base ≤ H0.size)  : Met l yP_mixOrders wP_mixOrders ({ frames := 0, cells := 0, slots := 0, locals := 0 }) (Pq D κ base [.ref a, .int (nI n), .int (nI t), .int (nI b)] H0) (q_W (fun v H => ∃ F : Nat → Int32, Pst D (va_A [(a, .inr (2, [.long sd, .ref (a + 1), .ref (a + 2), .int (nI nT), .int (nI nS), .ref (a + 3), .ref (a + 4)])), ((a + 3), .inl (κ 0, 120, .inl Fz))] H0.size) H0 none [(a, .inr (2, [.long sd, .ref (a + 1), .ref (a + 2), .int (nI nT), .int (nI nS), .ref (a + 3), .ref (a + 4)])), ((a + 3), .inl (κ 0, 120, .inl F))] v H ∧ ∀ k, k < n → F k = nI (mixR n sd t b k))) 0 0 (va_A [(a, .inr (2, [.long sd, .ref (a + 1), .ref (a + 2), .int (nI nT), .int (nI nS), .ref (a + 3), .ref (a + 4)])), ((a + 3), .inl (κ 0, 120, .inl Fz))] H0.size) := by
  refine Met.ofW (cc := bP_mixOrders) (maxL := 9) (ret := none) (by decide) rfl ?_
  intro p e s m args below meth c s₁ B hml hv
  obtain ⟨rfl, hH, hE⟩ := hv
  subst hH
  have hx := B.exec
  have hb := B.bytes
  have hr := B.returns
  have hT : ∀ w ∈ TT, w.before _ s = true := fun w h => atoms_spec (ws := wP_mixOrders) B.pre w (List.mem_cons_of_mem _ h)
  have hown : s.vm.findClass "TasterPanels" = some m.cls := findClass_of_methodNamed B.named
  have hlocks := B.notSynchronized
  have hK := hE.1
  have hD := hD0.self (sz := s.heap.size)
  have hAb : ∀ x9, va_A [(a, .inr (2, [.long sd, .ref (a + 1), .ref (a + 2), .int (nI nT), .int (nI nS), .ref (a + 3), .ref (a + 4)])), ((a + 3), .inl (κ 0, 120, .inl Fz))] s.heap.size x9 → base ≤ x9 := fun x9 h => by rcases h with ⟨k, e, h⟩ | h; exact hD0.2 k _ h; exact Nat.le_trans hbs h
  generalize hAe : va_A [(a, .inr (2, [.long sd, .ref (a + 1), .ref (a + 2), .int (nI nT), .int (nI nS), .ref (a + 3), .ref (a + 4)])), ((a + 3), .inl (κ 0, 120, .inl Fz))] s.heap.size = A at hD hAb ⊢
  have hA : ∀ x9, s.heap.size ≤ x9 → A x9 := fun x9 h => by rw [← hAe]; exact Or.inr h
  have hS : va_S A s.heap s.heap [] := va_S.rf
  have hl := lv_entry ([.ref a, .int (nI n), .int (nI t), .int (nI b)]) (n := 9) (Nat.le_of_ble_eq_true rfl)
  rw [lg_entry_eq]
  generalize (lg_sl ([.ref a, .int (nI n), .int (nI t), .int (nI b)]) ++ List.replicate (9 - (lg_sl ([.ref a, .int (nI n), .int (nI t), .int (nI b)])).length) Slot.unset).toArray = ls at hl ⊢
  have hl : lv_has ls 9 [(0, .ref a), (1, .int (nI n)), (2, .int (nI t)), (3, .int (nI b))] := hl
  have loop2 : ∀ (fu : Nat) (x : Nat) (hh : Int64) (f : Nat → Nat) (F : Nat → Int32) (H : Heap) (locs : List Loc), (x < n) → (∀ k, k < n → F k = nI (f k)) → (mixF x hh f = mixR n sd t b) → va_P D vwCl [(a, .inr (2, [.long sd, .ref (a + 1), .ref (a + 2), .int (nI nT), .int (nI nS), .ref (a + 3), .ref (a + 4)])), ((a + 3), .inl (κ 0, 120, .inl F))] H → va_D A [(a, .inr (2, [.long sd, .ref (a + 1), .ref (a + 2), .int (nI nT), .int (nI nS), .ref (a + 3), .ref (a + 4)])), ((a + 3), .inl (κ 0, 120, .inl F))] → va_S A s.heap H locs → x < fu → ∀ ls : Array Slot, lv_has ls 9 [(0, .ref a), (1, .int (nI n)), (6, .int (nI x)), (4, .long hh)] → W p l e (headSpec wP_mixOrders ({ frames := 0, cells := 0, slots := 0, locals := 0 })).room s m ([.ref a, .int (nI n), .int (nI t), .int (nI b)] : List Value).toArray below meth c H locs 0 0 (MQ below (q_W (fun v H => ∃ F : Nat → Int32, Pst D A s.heap none [(a, .inr (2, [.long sd, .ref (a + 1), .ref (a + 2), .int (nI nT), .int (nI nS), .ref (a + 3), .ref (a + 4)])), ((a + 3), .inl (κ 0, 120, .inl F))] v H ∧ ∀ k, k < n → F k = nI (mixR n sd t b k))) ([.ref a, .int (nI n), .int (nI t), .int (nI b)] : List Value).toArray s 0 0 A) (F0 m 49 ls []) := by
    intro fu
    induction fu with
    | zero =>
      intro x hh f F H locs hx1 hF heq hP hD hS hmu
      exact absurd hmu (Nat.not_lt_zero _)
    | succ fu ih =>
      intro x hh f F H locs hx1 hF heq hP hD hS hmu ls hl
      refine lv_iload hx hb dP_mixOrders_49 (lv_at hl 2 rfl) ?_
      refine lv_iconst (v := nI 1) hx hb dP_mixOrders_51 (by decide) ?_
      refine x_clt (a := x) (b := 1) (tgt := 119) hx hb dP_mixOrders_52 (by decide) (by omega) (by omega) (fun h1 => ?_) (fun h1 => ?_)
      · have e1 : x = 0 := by omega
        subst e1
        exact W.vret hx hb hr (fun t ht hW => ⟨none, rfl, by rw [ht]; exact ⟨F, ⟨rfl, hP, hD, hS.1, hS.2.1⟩, fun k hk => by rw [← heq]; exact hF k hk⟩⟩) hS.2.2 dP_mixOrders_119
      · obtain ⟨y, rfl⟩ : ∃ y, x = y + 1 := ⟨x - 1, by omega⟩
        refine lv_lload hx hb dP_mixOrders_55 (lv_at hl 3 rfl) ?_
        refine lv_ldc2 (v := 6364136223846793005) hx hb hown (hT _ kP171) dP_mixOrders_57 ?_
        refine x_lmul (v := hh * 6364136223846793005) hx hb dP_mixOrders_60 (rfl) ?_
        refine lv_ldc2 (v := 1442695040888963407) hx hb hown (hT _ kP173) dP_mixOrders_61 ?_
        refine x_ladd (v := (hh * 6364136223846793005) + 1442695040888963407) hx hb dP_mixOrders_64 (rfl) ?_
        refine x_topl (y := lcg hh) (rfl) ?_
        have hz33 := z33 (lcg hh)
        refine lv_lstore (lv' := [(4, .long (lcg hh)), (0, .ref a), (1, .int (nI n)), (6, .int (nI (y + 1)))]) hx hb dP_mixOrders_65 hl (by decide) rfl (fun ls hl => ?_)
        refine lv_lload hx hb dP_mixOrders_67 (lv_at hl 0 rfl) ?_
        refine lv_bipush (v := nI 33) hx hb dP_mixOrders_69 (by decide) ?_
        refine lv_lushr (v := lN ((lcg hh).toUInt64.toNat / 2 ^ 33)) hx hb dP_mixOrders_71 (ushr33 _) ?_
        refine lv_iload hx hb dP_mixOrders_72 (lv_at hl 3 rfl) ?_
        refine lv_iconst (v := nI 1) hx hb dP_mixOrders_74 (by decide) ?_
        refine x_iadd (v := nI ((y + 1) + 1)) hx hb dP_mixOrders_75 (nI_add _ _) ?_
        refine lv_i2l (v := lN ((y + 1) + 1)) hx hb dP_mixOrders_76 (nI_l (by omega)) ?_
        refine x_lrem (v := lN (((lcg hh).toUInt64.toNat / 2 ^ 33) % ((y + 1) + 1))) hx hb dP_mixOrders_77 (lN_ne0 (by omega) (by omega)) (pk_lRem (by omega) (by omega) (by omega)) ?_
        refine lv_l2i (v := nI (((lcg hh).toUInt64.toNat / 2 ^ 33) % ((y + 1) + 1))) hx hb dP_mixOrders_78 (lN_i _) ?_
        refine x_topn (b := oth (lcg hh) (y + 1)) (rfl) ?_
        have ho : oth (lcg hh) (y + 1) < y + 1 + 1 := Nat.mod_lt _ (by omega)
        refine lv_istore (lv' := [(7, .int (nI (oth (lcg hh) (y + 1)))), (4, .long (lcg hh)), (0, .ref a), (1, .int (nI n)), (6, .int (nI (y + 1)))]) hx hb dP_mixOrders_79 hl (by decide) rfl (fun ls hl => ?_)
        refine lv_aload_n hx hb dP_mixOrders_81 rfl (lv_at hl 2 rfl) ?_
        refine va_get (D := D) (ci := 2) (v := .ref (a + 3)) (C := RP) (T := FP) (N := 7) hx hb hT inP hown hK hP 0 rfl rfl 5 (by decide) (hT _ kP21) (fun _ h9 => h9) rfl dP_mixOrders_82 ?_
        refine lv_iload hx hb dP_mixOrders_85 (lv_at hl 4 rfl) ?_
        refine x_iald hx hb hK hP 1 0 (j := y + 1) (v := F (y + 1)) rfl rfl (by omega) (by decide) (rfl) dP_mixOrders_87 ?_
        refine lv_istore (lv' := [(8, .int (F (y + 1))), (7, .int (nI (oth (lcg hh) (y + 1)))), (4, .long (lcg hh)), (0, .ref a), (1, .int (nI n)), (6, .int (nI (y + 1)))]) hx hb dP_mixOrders_88 hl (by decide) rfl (fun ls hl => ?_)
        refine lv_aload_n hx hb dP_mixOrders_90 rfl (lv_at hl 3 rfl) ?_
        refine va_get (D := D) (ci := 2) (v := .ref (a + 3)) (C := RP) (T := FP) (N := 7) hx hb hT inP hown hK hP 0 rfl rfl 5 (by decide) (hT _ kP21) (fun _ h9 => h9) rfl dP_mixOrders_91 ?_
        refine lv_iload hx hb dP_mixOrders_94 (lv_at hl 5 rfl) ?_
        refine lv_aload_n hx hb dP_mixOrders_96 rfl (lv_at hl 3 rfl) ?_
        refine va_get (D := D) (ci := 2) (v := .ref (a + 3)) (C := RP) (T := FP) (N := 7) hx hb hT inP hown hK hP 0 rfl rfl 5 (by decide) (hT _ kP21) (fun _ h9 => h9) rfl dP_mixOrders_97 ?_
        refine lv_iload hx hb dP_mixOrders_100 (lv_at hl 1 rfl) ?_
        refine x_iald hx hb hK hP 1 0 (j := oth (lcg hh) (y + 1)) (v := F (oth (lcg hh) (y + 1))) rfl rfl (by omega) (by decide) (rfl) dP_mixOrders_102 ?_
        refine x_iast hx hb hK hP hD hS 1 0 (j := y + 1) rfl rfl (by omega) (by decide) dP_mixOrders_103 (fun H locs hP hD hS => ?_)
        have hP : va_P D vwCl [(a, .inr (2, [.long sd, .ref (a + 1), .ref (a + 2), .int (nI nT), .int (nI nS), .ref (a + 3), .ref (a + 4)])), ((a + 3), .inl (κ 0, 120, .inl (upd F (y + 1) (F (oth (lcg hh) (y + 1))))))] H := hP
        have hD : va_D A [(a, .inr (2, [.long sd, .ref (a + 1), .ref (a + 2), .int (nI nT), .int (nI nS), .ref (a + 3), .ref (a + 4)])), ((a + 3), .inl (κ 0, 120, .inl (upd F (y + 1) (F (oth (lcg hh) (y + 1))))))] := hD
        refine lv_aload_n hx hb dP_mixOrders_104 rfl (lv_at hl 3 rfl) ?_
        refine va_get (D := D) (ci := 2) (v := .ref (a + 3)) (C := RP) (T := FP) (N := 7) hx hb hT inP hown hK hP 0 rfl rfl 5 (by decide) (hT _ kP21) (fun _ h9 => h9) rfl dP_mixOrders_105 ?_
        refine lv_iload hx hb dP_mixOrders_108 (lv_at hl 1 rfl) ?_
        refine lv_iload hx hb dP_mixOrders_110 (lv_at hl 0 rfl) ?_
        refine x_iast hx hb hK hP hD hS 1 0 (j := oth (lcg hh) (y + 1)) rfl rfl (by omega) (by decide) dP_mixOrders_112 (fun H locs hP hD hS => ?_)
        have hP : va_P D vwCl [(a, .inr (2, [.long sd, .ref (a + 1), .ref (a + 2), .int (nI nT), .int (nI nS), .ref (a + 3), .ref (a + 4)])), ((a + 3), .inl (κ 0, 120, .inl (upd (upd F (y + 1) (F (oth (lcg hh) (y + 1)))) (oth (lcg hh) (y + 1)) (F (y + 1)))))] H := hP
        have hD : va_D A [(a, .inr (2, [.long sd, .ref (a + 1), .ref (a + 2), .int (nI nT), .int (nI nS), .ref (a + 3), .ref (a + 4)])), ((a + 3), .inl (κ 0, 120, .inl (upd (upd F (y + 1) (F (oth (lcg hh) (y + 1)))) (oth (lcg hh) (y + 1)) (F (y + 1)))))] := hD
        refine lv_iinc (v := nI y) (lv' := [(6, .int (nI y)), (8, .int (F (y + 1))), (7, .int (nI (oth (lcg hh) (y + 1)))), (4, .long (lcg hh)), (0, .ref a), (1, .int (nI n))]) hx hb dP_mixOrders_113 hl (k := 5) rfl (pk_m1 _) (by decide) rfl (fun ls hl => ?_)
        refine lv_goto (tgt := 49) hx hb dP_mixOrders_116 (by decide) ?_
        exact ih y (lcg hh) (swp f (y + 1) (oth (lcg hh) (y + 1))) _ _ _ (by omega) (swp_F hF (by omega) (by omega)) heq hP hD hS (by omega) ls (lv_sub hl [4, 5, 0, 3] rfl)
  have loop1 : ∀ (fu : Nat) (i : Nat) (F : Nat → Int32) (H : Heap) (locs : List Loc), (i ≤ n) → (∀ k, k < i → F k = nI k) → va_P D vwCl [(a, .inr (2, [.long sd, .ref (a + 1), .ref (a + 2), .int (nI nT), .int (nI nS), .ref (a + 3), .ref (a + 4)])), ((a + 3), .inl (κ 0, 120, .inl F))] H → va_D A [(a, .inr (2, [.long sd, .ref (a + 1), .ref (a + 2), .int (nI nT), .int (nI nS), .ref (a + 3), .ref (a + 4)])), ((a + 3), .inl (κ 0, 120, .inl F))] → va_S A s.heap H locs → n - i < fu → ∀ ls : Array Slot, lv_has ls 9 [(0, .ref a), (1, .int (nI n)), (2, .int (nI t)), (3, .int (nI b)), (4, .int (nI i))] → W p l e (headSpec wP_mixOrders ({ frames := 0, cells := 0, slots := 0, locals := 0 })).room s m ([.ref a, .int (nI n), .int (nI t), .int (nI b)] : List Value).toArray below meth c H locs 0 0 (MQ below (q_W (fun v H => ∃ F : Nat → Int32, Pst D A s.heap none [(a, .inr (2, [.long sd, .ref (a + 1), .ref (a + 2), .int (nI nT), .int (nI nS), .ref (a + 3), .ref (a + 4)])), ((a + 3), .inl (κ 0, 120, .inl F))] v H ∧ ∀ k, k < n → F k = nI (mixR n sd t b k))) ([.ref a, .int (nI n), .int (nI t), .int (nI b)] : List Value).toArray s 0 0 A) (F0 m 3 ls []) := by
    intro fu
    induction fu with
    | zero =>
      intro i F H locs hi hF hP hD hS hmu
      exact absurd hmu (Nat.not_lt_zero _)
    | succ fu ih =>
      intro i F H locs hi hF hP hD hS hmu ls hl
      refine lv_iload hx hb dP_mixOrders_3 (lv_at hl 4 rfl) ?_
      refine lv_iload_n hx hb dP_mixOrders_5 rfl (lv_at hl 1 rfl) ?_
      refine x_cge (a := i) (b := n) (tgt := 24) hx hb dP_mixOrders_6 (by decide) (by omega) (by omega) (fun h2 => ?_) (fun h2 => ?_)
      · have hF2 : ∀ k, k < n → F k = nI k := fun k hk => hF k (by omega)
        refine lv_aload_n hx hb dP_mixOrders_24 rfl (lv_at hl 0 rfl) ?_
        refine va_get (D := D) (ci := 2) (v := .long sd) (C := RP) (T := FP) (N := 7) hx hb hT inP hown hK hP 0 rfl rfl 0 (by decide) (hT _ kP29) (fun _ h9 => h9) rfl dP_mixOrders_25 ?_
        refine lv_ldc2 (v := lN 1000003) hx hb hown (hT _ kP167) dP_mixOrders_28 ?_
        refine lv_iload_n hx hb dP_mixOrders_31 rfl (lv_at hl 2 rfl) ?_
        refine lv_i2l (v := lN t) hx hb dP_mixOrders_32 (nI_l (by omega)) ?_
        refine x_lmul (v := lN (1000003 * t)) hx hb dP_mixOrders_33 (lN_mul _ _) ?_
        refine x_ladd (v := sd + (lN (1000003 * t))) hx hb dP_mixOrders_34 (rfl) ?_
        refine lv_ldc2 (v := lN 7919) hx hb hown (hT _ kP169) dP_mixOrders_35 ?_
        refine lv_iload_n hx hb dP_mixOrders_38 rfl (lv_at hl 3 rfl) ?_
        refine lv_i2l (v := lN b) hx hb dP_mixOrders_39 (nI_l (by omega)) ?_
        refine x_lmul (v := lN (7919 * b)) hx hb dP_mixOrders_40 (lN_mul _ _) ?_
        refine x_ladd (v := (sd + (lN (1000003 * t))) + (lN (7919 * b))) hx hb dP_mixOrders_41 (rfl) ?_
        refine x_topl (y := mixH sd t b) (rfl) ?_
        refine lv_lstore (lv' := [(4, .long (mixH sd t b)), (0, .ref a), (1, .int (nI n)), (2, .int (nI t)), (3, .int (nI b))]) hx hb dP_mixOrders_42 hl (by decide) rfl (fun ls hl => ?_)
        refine lv_iload_n hx hb dP_mixOrders_44 rfl (lv_at hl 2 rfl) ?_
        refine lv_iconst (v := nI 1) hx hb dP_mixOrders_45 (by decide) ?_
        refine x_isub (v := nI (n - 1)) hx hb dP_mixOrders_46 (pk_sub (by omega)) ?_
        refine lv_istore (lv' := [(6, .int (nI (n - 1))), (4, .long (mixH sd t b)), (0, .ref a), (1, .int (nI n)), (2, .int (nI t)), (3, .int (nI b))]) hx hb dP_mixOrders_47 hl (by decide) rfl (fun ls hl => ?_)
        exact loop2 (n + 1) (n - 1) (mixH sd t b) (fun k => k) F _ _ (by omega) hF2 rfl hP hD hS (by omega) ls (lv_sub hl [2, 3, 0, 1] rfl)
      · refine lv_aload_n hx hb dP_mixOrders_9 rfl (lv_at hl 0 rfl) ?_
        refine va_get (D := D) (ci := 2) (v := .ref (a + 3)) (C := RP) (T := FP) (N := 7) hx hb hT inP hown hK hP 0 rfl rfl 5 (by decide) (hT _ kP21) (fun _ h9 => h9) rfl dP_mixOrders_10 ?_
        refine lv_iload hx hb dP_mixOrders_13 (lv_at hl 4 rfl) ?_
        refine lv_iload hx hb dP_mixOrders_15 (lv_at hl 4 rfl) ?_
        refine x_iast hx hb hK hP hD hS 1 0 (j := i) rfl rfl (by omega) (by decide) dP_mixOrders_17 (fun H locs hP hD hS => ?_)
        have hP : va_P D vwCl [(a, .inr (2, [.long sd, .ref (a + 1), .ref (a + 2), .int (nI nT), .int (nI nS), .ref (a + 3), .ref (a + 4)])), ((a + 3), .inl (κ 0, 120, .inl (upd F i (nI i))))] H := hP
        have hD : va_D A [(a, .inr (2, [.long sd, .ref (a + 1), .ref (a + 2), .int (nI nT), .int (nI nS), .ref (a + 3), .ref (a + 4)])), ((a + 3), .inl (κ 0, 120, .inl (upd F i (nI i))))] := hD
        refine lv_iinc (v := nI (i + 1)) (lv' := [(4, .int (nI (i + 1))), (0, .ref a), (1, .int (nI n)), (2, .int (nI t)), (3, .int (nI b))]) hx hb dP_mixOrders_18 hl (k := 4) rfl (nI_add _ _) (by decide) rfl (fun ls hl => ?_)
        refine lv_goto (tgt := 3) hx hb dP_mixOrders_21 (by decide) ?_
        exact ih (i + 1) (upd F i (nI i)) _ _ (by omega) (upd_nx hF) hP hD hS (by omega) ls (lv_sub hl [1, 2, 3, 4, 0] rfl)
  refine lv_iconst (v := nI 0) hx hb dP_mixOrders_0 (by decide) ?_
  refine lv_istore (lv' := [(4, .int (nI 0)), (0, .ref a), (1, .int (nI n)), (2, .int (nI t)), (3, .int (nI b))]) hx hb dP_mixOrders_1 hl (by decide) rfl (fun ls hl => ?_)
  exact loop1 (n + 1) 0 Fz _ _ (by omega) (fun k hk => absurd hk (Nat.not_lt_zero _)) hP hD hS (by omega) ls (lv_sub hl [1, 2, 3, 4, 0] rfl)
end
section
/-! taster, test -/
theorem ordv_at {n : Nat} (sd : Int64) (t : Nat) {b pl : Nat} (h : pl < n) : ordv n sd t (b * n + pl) = mixR n sd t b pl := by
  unfold ordv
  have h1 : (b * n + pl) / n = b := by
    rw [Nat.add_comm, Nat.add_mul_div_right _ _ (by omega), Nat.div_eq_of_lt h, Nat.zero_add]
  have h2 : (b * n + pl) % n = pl := by
    rw [Nat.add_comm, Nat.add_mul_mod_self_right, Nat.mod_eq_of_lt h]
  rw [h1, h2]
def ur (f : Nat → Nat → Nat) (i : Nat) (g : Nat → Nat) : Nat → Nat → Nat := fun i' => if i' = i then g else f i'
theorem ur_eq {f : Nat → Nat → Nat} {i : Nat} {g : Nat → Nat} : ur f i g i = g := by simp [ur]
theorem ur_ne {f : Nat → Nat → Nat} {i i' : Nat} {g : Nat → Nat} (h : i' ≠ i) : ur f i g i' = f i' := by simp [ur, h]
theorem ord_nx {G : Nat → Int32} {n i b pl : Nat} {sd : Int64} {t : Nat} {v : Int32} (hG : ∀ x, x < i → G x = nI (ordv n sd t x)) (hi : i = b * n + pl) (hp : pl < n) (hv : v = nI (mixR n sd t b pl)) : ∀ x, x < i + 1 → upd G i v x = nI (ordv n sd t x) := by
  intro x hx
  by_cases h : x = i
  · subst h
    simp only [upd, if_pos]
    rw [hv, hi, ordv_at sd t hp]
  · simp only [upd, if_neg h]
    exact hG x (by omega)
theorem okK_nat {x y : Int32} (h : okK x y = true) : ∃ k n : Nat, okN k n ∧ x = nI k ∧ y = nI n := by
  have h := of_decide_eq_true h
  rcases h with ⟨rfl, rfl⟩ | ⟨rfl | rfl, rfl⟩ | ⟨rfl, h1, h2⟩
  · exact ⟨0, 3, Or.inl ⟨rfl, rfl⟩, rfl, rfl⟩
  · exact ⟨1, 2, Or.inr (Or.inl ⟨Or.inl rfl, rfl⟩), rfl, rfl⟩
  · exact ⟨2, 2, Or.inr (Or.inl ⟨Or.inr rfl, rfl⟩), rfl, rfl⟩
  · obtain ⟨j, hj, e⟩ := nI_of2 (x := y) (M := 5) (n := 5) (by decide) (fun q => absurd (Int32.lt_of_le_of_lt h1 q) (by decide)) h2
    refine ⟨3, j, Or.inr (Or.inr ⟨rfl, ?_, hj⟩), rfl, e⟩
    rw [e] at h1
    exact (nI_leI (by decide) (by omega)).mp h1
theorem okK_of {k n : Nat} (h : okN k n) : okK (nI k) (nI n) = true := by
  rcases h with ⟨rfl, rfl⟩ | ⟨rfl | rfl, rfl⟩ | ⟨rfl, h1, h2⟩
  · decide
  · decide
  · decide
  · rcases (show n = 2 ∨ n = 3 ∨ n = 4 ∨ n = 5 by omega) with rfl | rfl | rfl | rfl <;> decide
set_option maxHeartbeats 400000 in
set_option maxRecDepth 100000 in
theorem c_P_giveOrders (l : Launch) (D : va_G) (κ : Nat → ClassId) (base : Nat) (H0 : Heap) {a q kd sp nT nS : Nat} {sd : Int64} {Fz Gz : Nat → Int32} (n t : Nat) (hok : okN kd sp) (hn : n = cntO kd sp) (ht : t < 2 ^ 31) (hP : va_P D vwCl [(a, .inr (2, [.long sd, .ref (a + 1), .ref (a + 2), .int (nI nT), .int (nI nS), .ref (a + 3), .ref (a + 4)])), ((a + 3), .inl (κ 0, 120, .inl Fz)), (q, .inr (1, [.int (nI kd), .int (nI sp), .ref (q + 1), .ref (q + 2), .ref (q + 3), .int (nI 0), .int (nI 0)])), ((q + 1), .inl (κ 0, 26, .inl Gz))] H0) (hD0 : va_D (fun q => base ≤ q) [(a, .inr (2, [.long sd, .ref (a + 1), .ref (a + 2), .int (nI nT), .int (nI nS), .ref (a + 3), .ref (a + 4)])), ((a + 3), .inl (κ 0, 120, .inl Fz)), (q, .inr (1, [.int (nI kd), .int (nI sp), .ref (q + 1), .ref (q + 2), .ref (q + 3), .int (nI 0), .int (nI 0)])), ((q + 1), .inl (κ 0, 26, .inl Gz))]) (hbs : base ≤ H0.size)  : Met l yP_giveOrders wP_giveOrders ({ frames := 1, cells := 0, slots := 0, locals := 28 }) (Pq D κ base [.ref a, .ref q, .int (nI t)] H0) (q_W (fun v H => ∃ F G : Nat → Int32, Pst D (va_A [(a, .inr (2, [.long sd, .ref (a + 1), .ref (a + 2), .int (nI nT), .int (nI nS), .ref (a + 3), .ref (a + 4)])), ((a + 3), .inl (κ 0, 120, .inl Fz)), (q, .inr (1, [.int (nI kd), .int (nI sp), .ref (q + 1), .ref (q + 2), .ref (q + 3), .int (nI 0), .int (nI 0)])), ((q + 1), .inl (κ 0, 26, .inl Gz))] H0.size) H0 none [(a, .inr (2, [.long sd, .ref (a + 1), .ref (a + 2), .int (nI nT), .int (nI nS), .ref (a + 3), .ref (a + 4)])), ((a + 3), .inl (κ 0, 120, .inl F)), (q, .inr (1, [.int (nI kd), .int (nI sp), .ref (q + 1), .ref (q + 2), .ref (q + 3), .int (nI 0), .int (nI 0)])), ((q + 1), .inl (κ 0, 26, .inl G))] v H ∧ ∀ i, i < 26 → G i = nI (ordv n sd t i))) 0 0 (va_A [(a, .inr (2, [.long sd, .ref (a + 1), .ref (a + 2), .int (nI nT), .int (nI nS), .ref (a + 3), .ref (a + 4)])), ((a + 3), .inl (κ 0, 120, .inl Fz)), (q, .inr (1, [.int (nI kd), .int (nI sp), .ref (q + 1), .ref (q + 2), .ref (q + 3), .int (nI 0), .int (nI 0)])), ((q + 1), .inl (κ 0, 26, .inl Gz))] H0.size) := by
  refine Met.ofW (cc := bP_giveOrders) (maxL := 7) (ret := none) (by decide) rfl ?_
  intro p e s m args below meth c s₁ B hml hv
  obtain ⟨rfl, hH, hE⟩ := hv
  subst hH
  have hx := B.exec
  have hb := B.bytes
  have hr := B.returns
  have hT : ∀ w ∈ TT, w.before _ s = true := fun w h => atoms_spec (ws := wP_giveOrders) B.pre w (List.mem_cons_of_mem _ h)
  have hown : s.vm.findClass "TasterPanels" = some m.cls := findClass_of_methodNamed B.named
  have hlocks := B.notSynchronized
  have hK := hE.1
  have hD := hD0.self (sz := s.heap.size)
  have hAb : ∀ x9, va_A [(a, .inr (2, [.long sd, .ref (a + 1), .ref (a + 2), .int (nI nT), .int (nI nS), .ref (a + 3), .ref (a + 4)])), ((a + 3), .inl (κ 0, 120, .inl Fz)), (q, .inr (1, [.int (nI kd), .int (nI sp), .ref (q + 1), .ref (q + 2), .ref (q + 3), .int (nI 0), .int (nI 0)])), ((q + 1), .inl (κ 0, 26, .inl Gz))] s.heap.size x9 → base ≤ x9 := fun x9 h => by rcases h with ⟨k, e, h⟩ | h; exact hD0.2 k _ h; exact Nat.le_trans hbs h
  generalize hAe : va_A [(a, .inr (2, [.long sd, .ref (a + 1), .ref (a + 2), .int (nI nT), .int (nI nS), .ref (a + 3), .ref (a + 4)])), ((a + 3), .inl (κ 0, 120, .inl Fz)), (q, .inr (1, [.int (nI kd), .int (nI sp), .ref (q + 1), .ref (q + 2), .ref (q + 3), .int (nI 0), .int (nI 0)])), ((q + 1), .inl (κ 0, 26, .inl Gz))] s.heap.size = A at hD hAb ⊢
  have hA : ∀ x9, s.heap.size ≤ x9 → A x9 := fun x9 h => by rw [← hAe]; exact Or.inr h
  have hS : va_S A s.heap s.heap [] := va_S.rf
  have hl := lv_entry ([.ref a, .ref q, .int (nI t)]) (n := 7) (Nat.le_of_ble_eq_true rfl)
  rw [lg_entry_eq]
  generalize (lg_sl ([.ref a, .ref q, .int (nI t)]) ++ List.replicate (7 - (lg_sl ([.ref a, .ref q, .int (nI t)])).length) Slot.unset).toArray = ls at hl ⊢
  have hl : lv_has ls 7 [(0, .ref a), (1, .ref q), (2, .int (nI t))] := hl
  have hsp := hok.lt
  have hn1 : 1 ≤ n ∧ n ≤ 120 := by rw [hn]; exact cntO_le hok
  have loop : ∀ (fu : Nat) (i b pl : Nat) (F G : Nat → Int32) (H : Heap) (locs : List Loc), (i ≤ 26) → (pl ≤ n) → (i = b * n + pl) → (b ≤ 26) → (∀ k, k < n → F k = nI (mixR n sd t b k)) → (∀ x, x < i → G x = nI (ordv n sd t x)) → va_P D vwCl [(a, .inr (2, [.long sd, .ref (a + 1), .ref (a + 2), .int (nI nT), .int (nI nS), .ref (a + 3), .ref (a + 4)])), ((a + 3), .inl (κ 0, 120, .inl F)), (q, .inr (1, [.int (nI kd), .int (nI sp), .ref (q + 1), .ref (q + 2), .ref (q + 3), .int (nI 0), .int (nI 0)])), ((q + 1), .inl (κ 0, 26, .inl G))] H → va_D A [(a, .inr (2, [.long sd, .ref (a + 1), .ref (a + 2), .int (nI nT), .int (nI nS), .ref (a + 3), .ref (a + 4)])), ((a + 3), .inl (κ 0, 120, .inl F)), (q, .inr (1, [.int (nI kd), .int (nI sp), .ref (q + 1), .ref (q + 2), .ref (q + 3), .int (nI 0), .int (nI 0)])), ((q + 1), .inl (κ 0, 26, .inl G))] → va_S A s.heap H locs → 26 - i < fu → ∀ ls : Array Slot, lv_has ls 7 [(0, .ref a), (1, .ref q), (2, .int (nI t)), (3, .int (nI n)), (4, .int (nI b)), (5, .int (nI pl)), (6, .int (nI i))] → W p l e (headSpec wP_giveOrders ({ frames := 1, cells := 0, slots := 0, locals := 28 })).room s m ([.ref a, .ref q, .int (nI t)] : List Value).toArray below meth c H locs 0 0 (MQ below (q_W (fun v H => ∃ F G : Nat → Int32, Pst D A s.heap none [(a, .inr (2, [.long sd, .ref (a + 1), .ref (a + 2), .int (nI nT), .int (nI nS), .ref (a + 3), .ref (a + 4)])), ((a + 3), .inl (κ 0, 120, .inl F)), (q, .inr (1, [.int (nI kd), .int (nI sp), .ref (q + 1), .ref (q + 2), .ref (q + 3), .int (nI 0), .int (nI 0)])), ((q + 1), .inl (κ 0, 26, .inl G))] v H ∧ ∀ i, i < 26 → G i = nI (ordv n sd t i))) ([.ref a, .ref q, .int (nI t)] : List Value).toArray s 0 0 A) (F0 m 22 ls []) := by
    intro fu
    induction fu with
    | zero =>
      intro i b pl F G H locs hi hpl hib hbb hF hG hP hD hS hmu
      exact absurd hmu (Nat.not_lt_zero _)
    | succ fu ih =>
      intro i b pl F G H locs hi hpl hib hbb hF hG hP hD hS hmu ls hl
      refine lv_iload hx hb dP_giveOrders_22 (lv_at hl 6 rfl) ?_
      refine lv_bipush (v := nI 26) hx hb dP_giveOrders_24 (by decide) ?_
      refine x_cge (a := i) (b := 26) (tgt := 72) hx hb dP_giveOrders_26 (by decide) (by omega) (by omega) (fun g1 => ?_) (fun g1 => ?_)
      · exact W.vret hx hb hr (fun t ht hW => ⟨none, rfl, by rw [ht]; exact ⟨F, G, ⟨rfl, hP, hD, hS.1, hS.2.1⟩, fun x hx => hG x (by omega)⟩⟩) hS.2.2 dP_giveOrders_72
      · refine lv_iload hx hb dP_giveOrders_29 (lv_at hl 5 rfl) ?_
        refine lv_iload_n hx hb dP_giveOrders_31 rfl (lv_at hl 3 rfl) ?_
        refine x_clt (a := pl) (b := n) (tgt := 49) hx hb dP_giveOrders_32 (by decide) (by omega) (by omega) (fun g2 => ?_) (fun g2 => ?_)
        · have hi0 : i = b * n + pl := hib
          refine lv_aload_n hx hb dP_giveOrders_49 rfl (lv_at hl 1 rfl) ?_
          refine va_getN (D := D) (ci := 1) (v := .ref (q + 1)) (C := RS) (T := FS) (N := 7) hx hb hT inS hown hK hP 2 rfl rfl 2 (by decide) (va_Nw.use rfl (kN64 hE.2.1)) (fun _ h9 => h9) rfl dP_giveOrders_50 ?_
          refine lv_iload hx hb dP_giveOrders_53 (lv_at hl 6 rfl) ?_
          refine lv_aload_n hx hb dP_giveOrders_55 rfl (lv_at hl 0 rfl) ?_
          refine va_get (D := D) (ci := 2) (v := .ref (a + 3)) (C := RP) (T := FP) (N := 7) hx hb hT inP hown hK hP 0 rfl rfl 5 (by decide) (hT _ kP21) (fun _ h9 => h9) rfl dP_giveOrders_56 ?_
          refine lv_iload hx hb dP_giveOrders_59 (lv_at hl 5 rfl) ?_
          refine x_iald hx hb hK hP 1 0 (j := pl) (v := F pl) rfl rfl (by omega) (by decide) (rfl) dP_giveOrders_61 ?_
          refine x_iast hx hb hK hP hD hS 3 0 (j := i) rfl rfl (by omega) (by decide) dP_giveOrders_62 (fun H locs hP hD hS => ?_)
          have hP : va_P D vwCl [(a, .inr (2, [.long sd, .ref (a + 1), .ref (a + 2), .int (nI nT), .int (nI nS), .ref (a + 3), .ref (a + 4)])), ((a + 3), .inl (κ 0, 120, .inl F)), (q, .inr (1, [.int (nI kd), .int (nI sp), .ref (q + 1), .ref (q + 2), .ref (q + 3), .int (nI 0), .int (nI 0)])), ((q + 1), .inl (κ 0, 26, .inl (upd G i (F pl))))] H := hP
          have hD : va_D A [(a, .inr (2, [.long sd, .ref (a + 1), .ref (a + 2), .int (nI nT), .int (nI nS), .ref (a + 3), .ref (a + 4)])), ((a + 3), .inl (κ 0, 120, .inl F)), (q, .inr (1, [.int (nI kd), .int (nI sp), .ref (q + 1), .ref (q + 2), .ref (q + 3), .int (nI 0), .int (nI 0)])), ((q + 1), .inl (κ 0, 26, .inl (upd G i (F pl))))] := hD
          refine lv_iinc (v := nI (pl + 1)) (lv' := [(5, .int (nI (pl + 1))), (0, .ref a), (1, .ref q), (2, .int (nI t)), (3, .int (nI n)), (4, .int (nI b)), (6, .int (nI i))]) hx hb dP_giveOrders_63 hl (k := 5) rfl (nI_add _ _) (by decide) rfl (fun ls hl => ?_)
          refine lv_iinc (v := nI (i + 1)) (lv' := [(6, .int (nI (i + 1))), (5, .int (nI (pl + 1))), (0, .ref a), (1, .ref q), (2, .int (nI t)), (3, .int (nI n)), (4, .int (nI b))]) hx hb dP_giveOrders_66 hl (k := 6) rfl (nI_add _ _) (by decide) rfl (fun ls hl => ?_)
          refine lv_goto (tgt := 22) hx hb dP_giveOrders_69 (by decide) ?_
          exact ih (i + 1) b (pl + 1) F (upd G i (F pl)) _ _ (by omega) (by omega) (by omega) (by omega) hF (ord_nx (b := b) (pl := pl) hG (by have := hi0; omega) (by omega) (hF _ (by omega))) hP hD hS (by omega) ls (lv_sub hl [2, 3, 4, 5, 6, 1, 0] rfl)
        · have e1 : pl = n := by omega
          have e2 : (b + 1) * n = b * n + n := by rw [Nat.add_mul, Nat.one_mul]
          have hi0 : i = (b + 1) * n + 0 := by omega
          have e3 : b + 1 ≤ (b + 1) * n := Nat.le_mul_of_pos_right _ (by omega)
          refine lv_iinc (v := nI (b + 1)) (lv' := [(4, .int (nI (b + 1))), (0, .ref a), (1, .ref q), (2, .int (nI t)), (3, .int (nI n)), (5, .int (nI pl)), (6, .int (nI i))]) hx hb dP_giveOrders_35 hl (k := 4) rfl (nI_add _ _) (by decide) rfl (fun ls hl => ?_)
          refine lv_iconst (v := nI 0) hx hb dP_giveOrders_38 (by decide) ?_
          refine lv_istore (lv' := [(5, .int (nI 0)), (4, .int (nI (b + 1))), (0, .ref a), (1, .ref q), (2, .int (nI t)), (3, .int (nI n)), (6, .int (nI i))]) hx hb dP_giveOrders_39 hl (by decide) rfl (fun ls hl => ?_)
          refine lv_aload_n hx hb dP_giveOrders_41 rfl (lv_at hl 2 rfl) ?_
          refine lv_iload_n hx hb dP_giveOrders_42 rfl (lv_at hl 5 rfl) ?_
          refine lv_iload_n hx hb dP_giveOrders_43 rfl (lv_at hl 4 rfl) ?_
          refine lv_iload hx hb dP_giveOrders_44 (lv_at hl 1 rfl) ?_
          have hFc := va_free (wc := [(a, .inr (2, [.long sd, .ref (a + 1), .ref (a + 2), .int (nI nT), .int (nI nS), .ref (a + 3), .ref (a + 4)])), ((a + 3), .inl (κ 0, 120, .inl F))]) hD hS hA [0, 1] rfl
          have hPc := hP.sub (ws' := [(a, .inr (2, [.long sd, .ref (a + 1), .ref (a + 2), .int (nI nT), .int (nI nS), .ref (a + 3), .ref (a + 4)])), ((a + 3), .inl (κ 0, 120, .inl F))]) [0, 1] rfl
          have hDc := (hD.sub (ws' := [(a, .inr (2, [.long sd, .ref (a + 1), .ref (a + 2), .int (nI nT), .int (nI nS), .ref (a + 3), .ref (a + 4)])), ((a + 3), .inl (κ 0, 120, .inl F))]) [0, 1] (by decide) rfl).weaken (fun _ _ _ h => hAb _ h)
          have hbc : base ≤ H.size := Nat.le_trans hbs hS.1
          refine x_callW (va_runV (As := [.int (nI n), .int (nI t), .int (nI (b + 1))]) (rest := []) ⟨hx, hb, hml, hown, hT⟩ (c_P_mixOrders l D κ base H n t (b + 1) hn1.1 hn1.2 ht (by omega) hPc hDc hbc) (cwV 3 hT (TT_V kP163 kiP_mixOrders ksP_mixOrders knP kcP_mixOrders) rfl rfl rfl (by decide +kernel) ⟨Nat.le_of_ble_eq_true rfl, Nat.le_of_ble_eq_true rfl⟩) (pcV hE hS hAb (va_recv hK hP (ci := 2) (q0 := 0) rfl rfl)) rfl rfl hl.1 rfl (lv_room (Nat.le_of_ble_eq_true rfl)) dP_giveOrders_46 ⟨Nat.le_of_ble_eq_true rfl, Nat.le_of_ble_eq_true rfl⟩) hS (fun q h => hFc q h) (fun v H1 h => by obtain ⟨F9, h9, -⟩ := h; exact Pst.fr hFc h9) (fun v H locs hpost hS => ?_)
          obtain ⟨F2, ⟨rfl, hP1, hD1, hz1, hk1⟩, hF2⟩ := hpost
          obtain ⟨hP, hD⟩ := va_join (wr := [(q, .inr (1, [.int (nI kd), .int (nI sp), .ref (q + 1), .ref (q + 2), .ref (q + 3), .int (nI 0), .int (nI 0)])), ((q + 1), .inl (κ 0, 26, .inl G))]) (w1 := [(a, .inr (2, [.long sd, .ref (a + 1), .ref (a + 2), .int (nI nT), .int (nI nS), .ref (a + 3), .ref (a + 4)])), ((a + 3), .inl (κ 0, 120, .inl F2))]) hP hD [0, 1] [2, 3] rfl rfl (by decide) (by decide) hk1 hFc hP1 hD1
          have hP : va_P D vwCl [(q, .inr (1, [.int (nI kd), .int (nI sp), .ref (q + 1), .ref (q + 2), .ref (q + 3), .int (nI 0), .int (nI 0)])), ((q + 1), .inl (κ 0, 26, .inl G)), (a, .inr (2, [.long sd, .ref (a + 1), .ref (a + 2), .int (nI nT), .int (nI nS), .ref (a + 3), .ref (a + 4)])), ((a + 3), .inl (κ 0, 120, .inl F2))] H := hP
          have hD : va_D A [(q, .inr (1, [.int (nI kd), .int (nI sp), .ref (q + 1), .ref (q + 2), .ref (q + 3), .int (nI 0), .int (nI 0)])), ((q + 1), .inl (κ 0, 26, .inl G)), (a, .inr (2, [.long sd, .ref (a + 1), .ref (a + 2), .int (nI nT), .int (nI nS), .ref (a + 3), .ref (a + 4)])), ((a + 3), .inl (κ 0, 120, .inl F2))] := hD
          refine W.eq (g2 := F0 m 49 ls []) rfl ?_
          have hP := hP.sub (ws' := [(a, .inr (2, [.long sd, .ref (a + 1), .ref (a + 2), .int (nI nT), .int (nI nS), .ref (a + 3), .ref (a + 4)])), ((a + 3), .inl (κ 0, 120, .inl F2)), (q, .inr (1, [.int (nI kd), .int (nI sp), .ref (q + 1), .ref (q + 2), .ref (q + 3), .int (nI 0), .int (nI 0)])), ((q + 1), .inl (κ 0, 26, .inl G))]) [2, 3, 0, 1] rfl
          have hD := hD.sub (ws' := [(a, .inr (2, [.long sd, .ref (a + 1), .ref (a + 2), .int (nI nT), .int (nI nS), .ref (a + 3), .ref (a + 4)])), ((a + 3), .inl (κ 0, 120, .inl F2)), (q, .inr (1, [.int (nI kd), .int (nI sp), .ref (q + 1), .ref (q + 2), .ref (q + 3), .int (nI 0), .int (nI 0)])), ((q + 1), .inl (κ 0, 26, .inl G))]) [2, 3, 0, 1] (by decide) rfl
          refine lv_aload_n hx hb dP_giveOrders_49 rfl (lv_at hl 3 rfl) ?_
          refine va_getN (D := D) (ci := 1) (v := .ref (q + 1)) (C := RS) (T := FS) (N := 7) hx hb hT inS hown hK hP 2 rfl rfl 2 (by decide) (va_Nw.use rfl (kN64 hE.2.1)) (fun _ h9 => h9) rfl dP_giveOrders_50 ?_
          refine lv_iload hx hb dP_giveOrders_53 (lv_at hl 6 rfl) ?_
          refine lv_aload_n hx hb dP_giveOrders_55 rfl (lv_at hl 2 rfl) ?_
          refine va_get (D := D) (ci := 2) (v := .ref (a + 3)) (C := RP) (T := FP) (N := 7) hx hb hT inP hown hK hP 0 rfl rfl 5 (by decide) (hT _ kP21) (fun _ h9 => h9) rfl dP_giveOrders_56 ?_
          refine lv_iload hx hb dP_giveOrders_59 (lv_at hl 0 rfl) ?_
          refine x_iald hx hb hK hP 1 0 (j := 0) (v := F2 0) rfl rfl (by omega) (by decide) (rfl) dP_giveOrders_61 ?_
          refine x_iast hx hb hK hP hD hS 3 0 (j := i) rfl rfl (by omega) (by decide) dP_giveOrders_62 (fun H locs hP hD hS => ?_)
          have hP : va_P D vwCl [(a, .inr (2, [.long sd, .ref (a + 1), .ref (a + 2), .int (nI nT), .int (nI nS), .ref (a + 3), .ref (a + 4)])), ((a + 3), .inl (κ 0, 120, .inl F2)), (q, .inr (1, [.int (nI kd), .int (nI sp), .ref (q + 1), .ref (q + 2), .ref (q + 3), .int (nI 0), .int (nI 0)])), ((q + 1), .inl (κ 0, 26, .inl (upd G i (F2 0))))] H := hP
          have hD : va_D A [(a, .inr (2, [.long sd, .ref (a + 1), .ref (a + 2), .int (nI nT), .int (nI nS), .ref (a + 3), .ref (a + 4)])), ((a + 3), .inl (κ 0, 120, .inl F2)), (q, .inr (1, [.int (nI kd), .int (nI sp), .ref (q + 1), .ref (q + 2), .ref (q + 3), .int (nI 0), .int (nI 0)])), ((q + 1), .inl (κ 0, 26, .inl (upd G i (F2 0))))] := hD
          refine lv_iinc (v := nI (0 + 1)) (lv' := [(5, .int (nI (0 + 1))), (4, .int (nI (b + 1))), (0, .ref a), (1, .ref q), (2, .int (nI t)), (3, .int (nI n)), (6, .int (nI i))]) hx hb dP_giveOrders_63 hl (k := 0) rfl (nI_add _ _) (by decide) rfl (fun ls hl => ?_)
          refine lv_iinc (v := nI (i + 1)) (lv' := [(6, .int (nI (i + 1))), (5, .int (nI (0 + 1))), (4, .int (nI (b + 1))), (0, .ref a), (1, .ref q), (2, .int (nI t)), (3, .int (nI n))]) hx hb dP_giveOrders_66 hl (k := 6) rfl (nI_add _ _) (by decide) rfl (fun ls hl => ?_)
          refine lv_goto (tgt := 22) hx hb dP_giveOrders_69 (by decide) ?_
          exact ih (i + 1) (b + 1) (0 + 1) F2 (upd G i (F2 0)) _ _ (by omega) (by omega) (by omega) (by omega) hF2 (ord_nx (b := b + 1) (pl := 0) hG (by have := hi0; omega) (by omega) (hF2 _ (by omega))) hP hD hS (by omega) ls (lv_sub hl [3, 4, 5, 6, 2, 1, 0] rfl)
  refine lv_aload_n hx hb dP_giveOrders_0 rfl (lv_at hl 1 rfl) ?_
  refine x_callP (v := .int (nI (cntO kd sp))) (va_runS (As := [.ref q]) (rest := []) ⟨hx, hb, hml, hown, hT⟩ (c_P_orderCount l D κ base s.heap (hP.sub [2] rfl) hsp.1 hsp.2.2) (va_cwS 1 hT (TT_S kP160 ktP_orderCount knP kcP_orderCount) rfl rfl rfl (by decide +kernel) ⟨Nat.le_of_ble_eq_true rfl, Nat.le_of_ble_eq_true rfl⟩) (pcS hE hS hAb) rfl rfl hl.1 rfl (lv_room (Nat.le_of_ble_eq_true rfl)) dP_giveOrders_1 ⟨Nat.le_of_ble_eq_true rfl, Nat.le_of_ble_eq_true rfl⟩) ?_
  refine x_topn (b := n) (hn.symm) ?_
  refine lv_istore_n (lv' := [(3, .int (nI n)), (0, .ref a), (1, .ref q), (2, .int (nI t))]) hx hb dP_giveOrders_4 rfl hl (by decide) rfl (fun ls hl => ?_)
  refine lv_iconst (v := nI 0) hx hb dP_giveOrders_5 (by decide) ?_
  refine lv_istore (lv' := [(4, .int (nI 0)), (3, .int (nI n)), (0, .ref a), (1, .ref q), (2, .int (nI t))]) hx hb dP_giveOrders_6 hl (by decide) rfl (fun ls hl => ?_)
  refine lv_iconst (v := nI 0) hx hb dP_giveOrders_8 (by decide) ?_
  refine lv_istore (lv' := [(5, .int (nI 0)), (4, .int (nI 0)), (3, .int (nI n)), (0, .ref a), (1, .ref q), (2, .int (nI t))]) hx hb dP_giveOrders_9 hl (by decide) rfl (fun ls hl => ?_)
  refine lv_aload_n hx hb dP_giveOrders_11 rfl (lv_at hl 3 rfl) ?_
  refine lv_iload_n hx hb dP_giveOrders_12 rfl (lv_at hl 2 rfl) ?_
  refine lv_iload_n hx hb dP_giveOrders_13 rfl (lv_at hl 5 rfl) ?_
  refine lv_iload hx hb dP_giveOrders_14 (lv_at hl 1 rfl) ?_
  have hFc := va_free (wc := [(a, .inr (2, [.long sd, .ref (a + 1), .ref (a + 2), .int (nI nT), .int (nI nS), .ref (a + 3), .ref (a + 4)])), ((a + 3), .inl (κ 0, 120, .inl Fz))]) hD hS hA [0, 1] rfl
  have hPc := hP.sub (ws' := [(a, .inr (2, [.long sd, .ref (a + 1), .ref (a + 2), .int (nI nT), .int (nI nS), .ref (a + 3), .ref (a + 4)])), ((a + 3), .inl (κ 0, 120, .inl Fz))]) [0, 1] rfl
  have hDc := (hD.sub (ws' := [(a, .inr (2, [.long sd, .ref (a + 1), .ref (a + 2), .int (nI nT), .int (nI nS), .ref (a + 3), .ref (a + 4)])), ((a + 3), .inl (κ 0, 120, .inl Fz))]) [0, 1] (by decide) rfl).weaken (fun _ _ _ h => hAb _ h)
  have hbc : base ≤ s.heap.size := Nat.le_trans hbs hS.1
  refine x_callW (va_runV (As := [.int (nI n), .int (nI t), .int (nI 0)]) (rest := []) ⟨hx, hb, hml, hown, hT⟩ (c_P_mixOrders l D κ base s.heap n t (0) hn1.1 hn1.2 ht (by omega) hPc hDc hbc) (cwV 3 hT (TT_V kP163 kiP_mixOrders ksP_mixOrders knP kcP_mixOrders) rfl rfl rfl (by decide +kernel) ⟨Nat.le_of_ble_eq_true rfl, Nat.le_of_ble_eq_true rfl⟩) (pcV hE hS hAb (va_recv hK hP (ci := 2) (q0 := 0) rfl rfl)) rfl rfl hl.1 rfl (lv_room (Nat.le_of_ble_eq_true rfl)) dP_giveOrders_16 ⟨Nat.le_of_ble_eq_true rfl, Nat.le_of_ble_eq_true rfl⟩) hS (fun q h => hFc q h) (fun v H1 h => by obtain ⟨F9, h9, -⟩ := h; exact Pst.fr hFc h9) (fun v H locs hpost hS => ?_)
  obtain ⟨F2, ⟨rfl, hP1, hD1, hz1, hk1⟩, hF2⟩ := hpost
  obtain ⟨hP, hD⟩ := va_join (wr := [(q, .inr (1, [.int (nI kd), .int (nI sp), .ref (q + 1), .ref (q + 2), .ref (q + 3), .int (nI 0), .int (nI 0)])), ((q + 1), .inl (κ 0, 26, .inl Gz))]) (w1 := [(a, .inr (2, [.long sd, .ref (a + 1), .ref (a + 2), .int (nI nT), .int (nI nS), .ref (a + 3), .ref (a + 4)])), ((a + 3), .inl (κ 0, 120, .inl F2))]) hP hD [0, 1] [2, 3] rfl rfl (by decide) (by decide) hk1 hFc hP1 hD1
  have hP : va_P D vwCl [(q, .inr (1, [.int (nI kd), .int (nI sp), .ref (q + 1), .ref (q + 2), .ref (q + 3), .int (nI 0), .int (nI 0)])), ((q + 1), .inl (κ 0, 26, .inl Gz)), (a, .inr (2, [.long sd, .ref (a + 1), .ref (a + 2), .int (nI nT), .int (nI nS), .ref (a + 3), .ref (a + 4)])), ((a + 3), .inl (κ 0, 120, .inl F2))] H := hP
  have hD : va_D A [(q, .inr (1, [.int (nI kd), .int (nI sp), .ref (q + 1), .ref (q + 2), .ref (q + 3), .int (nI 0), .int (nI 0)])), ((q + 1), .inl (κ 0, 26, .inl Gz)), (a, .inr (2, [.long sd, .ref (a + 1), .ref (a + 2), .int (nI nT), .int (nI nS), .ref (a + 3), .ref (a + 4)])), ((a + 3), .inl (κ 0, 120, .inl F2))] := hD
  refine W.eq (g2 := F0 m 19 ls []) rfl ?_
  have hP := hP.sub (ws' := [(a, .inr (2, [.long sd, .ref (a + 1), .ref (a + 2), .int (nI nT), .int (nI nS), .ref (a + 3), .ref (a + 4)])), ((a + 3), .inl (κ 0, 120, .inl F2)), (q, .inr (1, [.int (nI kd), .int (nI sp), .ref (q + 1), .ref (q + 2), .ref (q + 3), .int (nI 0), .int (nI 0)])), ((q + 1), .inl (κ 0, 26, .inl Gz))]) [2, 3, 0, 1] rfl
  have hD := hD.sub (ws' := [(a, .inr (2, [.long sd, .ref (a + 1), .ref (a + 2), .int (nI nT), .int (nI nS), .ref (a + 3), .ref (a + 4)])), ((a + 3), .inl (κ 0, 120, .inl F2)), (q, .inr (1, [.int (nI kd), .int (nI sp), .ref (q + 1), .ref (q + 2), .ref (q + 3), .int (nI 0), .int (nI 0)])), ((q + 1), .inl (κ 0, 26, .inl Gz))]) [2, 3, 0, 1] (by decide) rfl
  refine lv_iconst (v := nI 0) hx hb dP_giveOrders_19 (by decide) ?_
  refine lv_istore (lv' := [(6, .int (nI 0)), (5, .int (nI 0)), (4, .int (nI 0)), (3, .int (nI n)), (0, .ref a), (1, .ref q), (2, .int (nI t))]) hx hb dP_giveOrders_20 hl (by decide) rfl (fun ls hl => ?_)
  exact loop 27 0 0 0 F2 Gz _ _ (by omega) (by omega) (by omega) (by omega) hF2 (fun x hx => absurd hx (Nat.not_lt_zero _)) hP hD hS (by omega) ls (lv_sub hl [4, 5, 6, 3, 2, 1, 0] rfl)
end
section
/-! taster() and test(): new blocks -/
theorem va_P.congr1 {D : va_G} {q : Nat} {c : ClassId} {n : Nat} {f g : Nat → Int32} {H : Heap} (h : va_P D vwCl [(q, .inl (c, n, .inl f))] H) (hfg : ∀ j, j < n → f j = g j) : va_P D vwCl [(q, .inl (c, n, .inl g))] H := by
  intro k x hx
  have hz : k < 1 := (List.getElem?_eq_some_iff.mp hx).1
  rw [show k = 0 by omega] at hx
  cases hx
  have h1 := h 0 _ rfl
  show H[q]? = some (vp_cell c (n, .inl g))
  rw [← vp_cell_congr hfg]
  exact h1
theorem RC_taster {D : va_G} {κ : Nat → ClassId} {base a : Nat} {sd : Int64} {nT nS : Nat} {bT bS : Nat → Nat} {td fd : Nat → Nat → Nat} {ta tr kd sp ca cr : Nat → Nat} {od aw rk : Nat → Nat → Nat} {H0 H : Heap} {A : Nat → Prop} {fT : Nat → Option Nat} (hR : RC D κ base a sd nT nS bT bS td fd ta tr kd sp ca cr od aw rk H0) (hn : nT < 26) (hAq : ∀ x9, A x9 → (x9 = a ∨ x9 = (a + 1)) ∨ H0.size ≤ x9)
    (hsz : H0.size ≤ H.size) (hk : ∀ q : Nat, q < H0.size → ¬ A q → H[q]? = H0[q]?) (hf : ∀ i, i < 26 → fT i = if i < nT then some (bT i) else none) (hP : va_P D vwCl [(a, .inr (2, [.long sd, .ref (a + 1), .ref (a + 2), .int (nI (nT + 1)), .int (nI nS), .ref (a + 3), .ref (a + 4)])), ((a + 1), .inl (κ 3, 26, .inr (.inr (.inr (.inr (va_up fT nT (some H0.size))))))), (H0.size, .inr (0, [.ref (H0.size + 1), .ref (H0.size + 2), .int (nI 0), .int (nI 0)])), ((H0.size + 1), .inl (κ 1, 16, .inl (fun _ => nI 0))), ((H0.size + 2), .inl (κ 1, 16, .inl (fun _ => nI 0)))] H) :
    RC D κ base a sd (nT + 1) nS (u1 bT nT H0.size) bS (ur td nT (fun _ => 0)) (ur fd nT (fun _ => 0)) (u1 ta nT 0) (u1 tr nT 0) kd sp ca cr od aw rk H := by
  obtain ⟨⟨fT0, fS, mx, sw, hP0, hfT, hfS⟩, hTas, hTes, ⟨hnT, hnS, hba, hah⟩, hb1, hb2, hs1, hs2, hs3, hs4, hs5⟩ := hR
  have hend : H0.size + 2 < H.size := (hP 4 _ rfl).lt
  refine ⟨⟨va_up fT nT (some H0.size), fS, mx, sw, ?_, fun i hi => ?_, hfS⟩, fun i hi => ?_, fun j hj => keepW hk (hTes j hj) ?_, ⟨⟨by omega, hnS, hba, by omega⟩, hb1, fun i hi => ?_, fun i hi => ?_, fun j hj => ?_, fun i i' h1 h2 => ?_, hs4, fun i j hi hj => ?_⟩⟩
  · have h1 := hP.sub (ws' := [(a, .inr (2, [.long sd, .ref (a + 1), .ref (a + 2), .int (nI (nT + 1)), .int (nI nS), .ref (a + 3), .ref (a + 4)])), ((a + 1), .inl (κ 3, 26, .inr (.inr (.inr (.inr (va_up fT nT (some H0.size)))))))]) [0, 1] rfl
    have h2 := keepW hk (hP0.sub (ws' := [((a + 2), .inl (κ 4, 40, .inr (.inr (.inr (.inr fS))))), ((a + 3), .inl (κ 0, 120, .inl mx)), ((a + 4), .inl (κ 2, 131, .inr (.inl sw)))]) [2, 3, 4] rfl) (by
      simp only [List.map, List.nodup_cons, List.mem_cons, List.not_mem_nil, or_false, not_or, List.nodup_nil, and_true, not_false_eq_true, List.forall_mem_cons, forall_eq_or_imp, forall_eq]
      refine ⟨fun q => ?_, fun q => ?_, fun q => ?_⟩ <;> (have := hAq _ q; omega))
    exact h1.app h2
  · by_cases e : i = nT
    · subst e
      rw [va_up_self, if_pos (by omega), u1_eq]
    · rw [va_up_ne _ _ e, hf i hi, u1_ne e]
      by_cases h : i < nT
      · rw [if_pos h, if_pos (by omega)]
      · rw [if_neg h, if_neg (by omega)]
  · by_cases e : i = nT
    · subst e
      rw [u1_eq, u1_eq, u1_eq, ur_eq, ur_eq]
      exact hP.sub [2, 3, 4] rfl
    · rw [u1_ne e, u1_ne e, u1_ne e, ur_ne e, ur_ne e]
      have b := hs1 i (by omega)
      refine keepW hk (hTas i (by omega)) ?_
      simp only [List.map, List.nodup_cons, List.mem_cons, List.not_mem_nil, or_false, not_or, List.nodup_nil, and_true, not_false_eq_true, List.forall_mem_cons, forall_eq_or_imp, forall_eq]
      refine ⟨fun q => ?_, fun q => ?_, fun q => ?_⟩ <;> (have := hAq _ q; omega)
  · simp only [List.map, List.nodup_cons, List.mem_cons, List.not_mem_nil, or_false, not_or, List.nodup_nil, and_true, not_false_eq_true, List.forall_mem_cons, forall_eq_or_imp, forall_eq]
    have b2 := hs2 j hj
    refine ⟨fun q => ?_, fun q => ?_, fun q => ?_, fun q => ?_⟩ <;> (have := hAq _ q; omega)
  · by_cases e : i = nT
    · subst e
      rw [u1_eq, u1_eq, ur_eq, ur_eq]
      exact ⟨by omega, by omega, fun k hk => ⟨by omega, by omega⟩⟩
    · rw [u1_ne e, u1_ne e, ur_ne e, ur_ne e]
      exact hb2 i (by omega)
  · by_cases e : i = nT
    · subst e
      rw [u1_eq]
      omega
    · rw [u1_ne e]
      have b := hs1 i (by omega)
      omega
  · have := hs2 j hj; omega
  · have e1 : i ≠ nT := by omega
    rw [u1_ne e1]
    by_cases e : i' = nT
    · subst e
      rw [u1_eq]
      have b := hs1 i (by omega)
      omega
    · rw [u1_ne e]
      exact hs3 i i' h1 (by omega)
  · have b2 := hs2 j hj
    by_cases e : i = nT
    · subst e
      rw [u1_eq]
      omega
    · rw [u1_ne e]
      exact hs5 i j (by omega) hj
set_option maxHeartbeats 400000 in
set_option maxRecDepth 100000 in
theorem c_P_taster (l : Launch) (D : va_G) (κ : Nat → ClassId) (base : Nat) (H0 : Heap) {a : Nat} {sd : Int64} {nT nS : Nat} {bT bS : Nat → Nat} {td fd : Nat → Nat → Nat} {ta tr kd sp ca cr : Nat → Nat} {od aw rk : Nat → Nat → Nat} (hR : RC D κ base a sd nT nS bT bS td fd ta tr kd sp ca cr od aw rk H0)  : Met l yP_taster wP_taster ({ frames := 2, cells := 3, slots := 36, locals := 32 }) (Pq D κ base [.ref a] H0) (q_W (fun v H => (26 ≤ nT → v = some (.int (-2)) ∧ RC D κ base a sd nT nS bT bS td fd ta tr kd sp ca cr od aw rk H) ∧ (nT < 26 → v = some (.int (nI nT)) ∧ ∃ b, RC D κ base a sd (nT + 1) nS (u1 bT nT b) bS (ur td nT (fun _ => 0)) (ur fd nT (fun _ => 0)) (u1 ta nT 0) (u1 tr nT 0) kd sp ca cr od aw rk H) ∧ FrC a nT nS bT bS H0 H)) 3 36 (OwnC a nT nS bT bS H0.size) := by
  refine Met.ofW (cc := bP_taster) (maxL := 1) (ret := (some FieldType.int)) (by decide) rfl ?_
  intro p e s m args below meth c s₁ B hml hv
  obtain ⟨rfl, hH, hE⟩ := hv
  subst hH
  have hx := B.exec
  have hb := B.bytes
  have hr := B.returns
  have hT : ∀ w ∈ TT, w.before _ s = true := fun w h => atoms_spec (ws := wP_taster) B.pre w (List.mem_cons_of_mem _ h)
  have hown : s.vm.findClass "TasterPanels" = some m.cls := findClass_of_methodNamed B.named
  have hlocks := B.notSynchronized
  have hK := hE.1
  have hS : va_S (fun q => base ≤ q) s.heap s.heap [] := va_S.rf
  have hAb : ∀ q : Nat, (fun q : Nat => base ≤ q) q → base ≤ q := fun _ h => h
  have hl := lv_entry ([.ref a]) (n := 1) (Nat.le_of_ble_eq_true rfl)
  rw [lg_entry_eq]
  generalize (lg_sl ([.ref a]) ++ List.replicate (1 - (lg_sl ([.ref a])).length) Slot.unset).toArray = ls at hl ⊢
  have hl : lv_has ls 1 [(0, .ref a)] := hl
  have hR0 := hR
  obtain ⟨⟨fT, fS, mx, sw, hP, hfT, hfS⟩, hTas, hTes, hbd⟩ := hR
  obtain ⟨⟨hnT, hnS, hba, hah⟩, hb1, hb2, hs1, hs2, hs3, hs4, hs5⟩ := hbd
  have hbs : base ≤ s.heap.size := by omega
  have hOb : ∀ x9, OwnC a nT nS bT bS s.heap.size x9 → base ≤ x9 := fun x9 h => OwnC.base hba (by omega) hs1 hs2 h
  have hS : va_S (OwnC a nT nS bT bS s.heap.size) s.heap s.heap [] := va_S.rf
  have hAb := hOb
  refine lv_aload_n hx hb dP_taster_0 rfl (lv_at hl 0 rfl) ?_
  refine va_get (D := D) (ci := 2) (v := .int (nI nT)) (C := RP) (T := FP) (N := 7) hx hb hT inP hown hK hP 0 rfl rfl 3 (by decide) (hT _ kP33) (fun _ h9 => h9) rfl dP_taster_1 ?_
  refine lv_bipush (v := nI 26) hx hb dP_taster_4 (by decide) ?_
  refine x_clt (a := nT) (b := 26) (tgt := 12) hx hb dP_taster_6 (by decide) (by omega) (by omega) (fun h1 => ?_) (fun h1 => ?_)
  · have hnn : nT < 26 := by omega
    have hP : va_P D vwCl [(a, .inr (2, [.long sd, .ref (a + 1), .ref (a + 2), .int (nI nT), .int (nI nS), .ref (a + 3), .ref (a + 4)])), ((a + 1), .inl (κ 3, 26, .inr (.inr (.inr (.inr fT)))))] s.heap := hP.sub [0, 1] rfl
    have hnd : ([(a, .inr (2, [.long sd, .ref (a + 1), .ref (a + 2), .int (nI nT), .int (nI nS), .ref (a + 3), .ref (a + 4)])), ((a + 1), .inl (κ 3, 26, .inr (.inr (.inr (.inr fT)))))] : va_W).map Prod.fst |>.Nodup := by simp only [List.map, List.nodup_cons, List.mem_cons, List.not_mem_nil, or_false, not_or, List.nodup_nil, and_true, not_false_eq_true, List.forall_mem_cons, forall_eq_or_imp, forall_eq]; omega
    have hD0 : va_D (fun q => base ≤ q) [(a, .inr (2, [.long sd, .ref (a + 1), .ref (a + 2), .int (nI nT), .int (nI nS), .ref (a + 3), .ref (a + 4)])), ((a + 1), .inl (κ 3, 26, .inr (.inr (.inr (.inr fT)))))] := D_of hnd (by simp only [List.map, List.nodup_cons, List.mem_cons, List.not_mem_nil, or_false, not_or, List.nodup_nil, and_true, not_false_eq_true, List.forall_mem_cons, forall_eq_or_imp, forall_eq]; omega)
    have hD := hD0.self (sz := s.heap.size)
    have hAb : ∀ x9, va_A [(a, .inr (2, [.long sd, .ref (a + 1), .ref (a + 2), .int (nI nT), .int (nI nS), .ref (a + 3), .ref (a + 4)])), ((a + 1), .inl (κ 3, 26, .inr (.inr (.inr (.inr fT)))))] s.heap.size x9 → base ≤ x9 := fun x9 h => by rcases h with ⟨k9, e9, h⟩ | h; exact hD0.2 k9 _ h; exact Nat.le_trans hbs h
    have hAq : ∀ x9, va_A [(a, .inr (2, [.long sd, .ref (a + 1), .ref (a + 2), .int (nI nT), .int (nI nS), .ref (a + 3), .ref (a + 4)])), ((a + 1), .inl (κ 3, 26, .inr (.inr (.inr (.inr fT)))))] s.heap.size x9 → (x9 = a ∨ x9 = (a + 1)) ∨ s.heap.size ≤ x9 := fun x9 h => by have := A_addr h; simpa only [List.map, List.mem_cons, List.not_mem_nil, or_false] using this
    have hAO : ∀ x9, va_A [(a, .inr (2, [.long sd, .ref (a + 1), .ref (a + 2), .int (nI nT), .int (nI nS), .ref (a + 3), .ref (a + 4)])), ((a + 1), .inl (κ 3, 26, .inr (.inr (.inr (.inr fT)))))] s.heap.size x9 → OwnC a nT nS bT bS s.heap.size x9 := fun x9 h => by exact ownR (by have := hAq x9 h; omega)
    generalize hAe : va_A [(a, .inr (2, [.long sd, .ref (a + 1), .ref (a + 2), .int (nI nT), .int (nI nS), .ref (a + 3), .ref (a + 4)])), ((a + 1), .inl (κ 3, 26, .inr (.inr (.inr (.inr fT)))))] s.heap.size = A at hD hAb hAq hAO
    have hA : ∀ x9, s.heap.size ≤ x9 → A x9 := fun x9 h => by rw [← hAe]; exact Or.inr h
    have hS : va_S A s.heap s.heap [] := va_S.rf
    have hz : s.heap.size = s.heap.size := rfl
    refine lv_aload_n hx hb dP_taster_12 rfl (lv_at hl 0 rfl) ?_
    refine va_get (D := D) (ci := 2) (v := .ref (a + 1)) (C := RP) (T := FP) (N := 7) hx hb hT inP hown hK hP 0 rfl rfl 1 (by decide) (hT _ kP11) (fun _ h9 => h9) rfl dP_taster_13 ?_
    refine lv_aload_n hx hb dP_taster_16 rfl (lv_at hl 0 rfl) ?_
    refine va_get (D := D) (ci := 2) (v := .int (nI nT)) (C := RP) (T := FP) (N := 7) hx hb hT inP hown hK hP 0 rfl rfl 3 (by decide) (hT _ kP33) (fun _ h9 => h9) rfl dP_taster_17 ?_
    refine x_new (ci := 0) (fs := [.null, .null, .int (nI 0), .int (nI 0)]) (C := RT) (T := FT) (N := 4) hx hb hT inT tyT tyT_ok hown (hT _ kP9) (hT _ kxT) (hT _ knT) hK hP hD hS hA rfl (fun j hj => by rcases (show j = 0 ∨ j = 1 ∨ j = 2 ∨ j = 3 by omega) with rfl | rfl | rfl | rfl <;> rfl) (Nat.le_of_ble_eq_true rfl) (Nat.le_of_ble_eq_true rfl) hz dP_taster_20 (fun H hP hD hS hz => ?_)
    have hP : va_P D vwCl [(a, .inr (2, [.long sd, .ref (a + 1), .ref (a + 2), .int (nI nT), .int (nI nS), .ref (a + 3), .ref (a + 4)])), ((a + 1), .inl (κ 3, 26, .inr (.inr (.inr (.inr fT))))), (s.heap.size, .inr (0, [.null, .null, .int (nI 0), .int (nI 0)]))] H := hP
    have hD : va_D A [(a, .inr (2, [.long sd, .ref (a + 1), .ref (a + 2), .int (nI nT), .int (nI nS), .ref (a + 3), .ref (a + 4)])), ((a + 1), .inl (κ 3, 26, .inr (.inr (.inr (.inr fT))))), (s.heap.size, .inr (0, [.null, .null, .int (nI 0), .int (nI 0)]))] := hD
    refine lv_dup hx hb dP_taster_23 rfl ?_
    have hFc := va_free (wc := [(s.heap.size, .inr (0, [.null, .null, .int (nI 0), .int (nI 0)]))]) hD hS hA [2] rfl
    have hPc := hP.sub (ws' := [(s.heap.size, .inr (0, [.null, .null, .int (nI 0), .int (nI 0)]))]) [2] rfl
    have hDc := (hD.sub (ws' := [(s.heap.size, .inr (0, [.null, .null, .int (nI 0), .int (nI 0)]))]) [2] (by decide) rfl).weaken (fun _ _ _ h => hAb _ h)
    have hbc : base ≤ H.size := Nat.le_trans hbs hS.1
    refine x_callW (va_runIN (As := []) (rest := [.ref s.heap.size, .int (nI nT), .ref (a + 1)]) ⟨hx, hb, hml, hown, hT⟩ (c_T_init l D κ base H (q := s.heap.size) hz hPc hDc hbc) ⟨va_cnB 0 hT (TT_code kcT_init) rfl rfl rfl (kN37 hE.2.1) (hT _ knT) (by decide +kernel) ⟨Nat.le_of_ble_eq_true rfl, Nat.le_of_ble_eq_true rfl⟩, rfl, hT _ kiT_init⟩ (pcS hE hS hAb) rfl rfl hl.1 rfl (lv_room (Nat.le_of_ble_eq_true rfl)) dP_taster_24 ⟨Nat.le_of_ble_eq_true rfl, Nat.le_of_ble_eq_true rfl⟩) hS (fun q h => hFc q h) (fun v H1 h => Pst.fr hFc h.1) (fun v H locs hpost hS => ?_)
    obtain ⟨⟨rfl, hP1, hD1, hz1, hk1⟩, hz⟩ := hpost
    obtain ⟨hP, hD⟩ := va_join (wr := [(a, .inr (2, [.long sd, .ref (a + 1), .ref (a + 2), .int (nI nT), .int (nI nS), .ref (a + 3), .ref (a + 4)])), ((a + 1), .inl (κ 3, 26, .inr (.inr (.inr (.inr fT)))))]) (w1 := [(s.heap.size, .inr (0, [.ref (s.heap.size + 1), .ref (s.heap.size + 2), .int (nI 0), .int (nI 0)])), ((s.heap.size + 1), .inl (κ 1, 16, .inl (fun _ => nI 0))), ((s.heap.size + 2), .inl (κ 1, 16, .inl (fun _ => nI 0)))]) hP hD [2] [0, 1] rfl rfl (by decide) (by decide) hk1 hFc hP1 hD1
    have hP : va_P D vwCl [(a, .inr (2, [.long sd, .ref (a + 1), .ref (a + 2), .int (nI nT), .int (nI nS), .ref (a + 3), .ref (a + 4)])), ((a + 1), .inl (κ 3, 26, .inr (.inr (.inr (.inr fT))))), (s.heap.size, .inr (0, [.ref (s.heap.size + 1), .ref (s.heap.size + 2), .int (nI 0), .int (nI 0)])), ((s.heap.size + 1), .inl (κ 1, 16, .inl (fun _ => nI 0))), ((s.heap.size + 2), .inl (κ 1, 16, .inl (fun _ => nI 0)))] H := hP
    have hD : va_D A [(a, .inr (2, [.long sd, .ref (a + 1), .ref (a + 2), .int (nI nT), .int (nI nS), .ref (a + 3), .ref (a + 4)])), ((a + 1), .inl (κ 3, 26, .inr (.inr (.inr (.inr fT))))), (s.heap.size, .inr (0, [.ref (s.heap.size + 1), .ref (s.heap.size + 2), .int (nI 0), .int (nI 0)])), ((s.heap.size + 1), .inl (κ 1, 16, .inl (fun _ => nI 0))), ((s.heap.size + 2), .inl (κ 1, 16, .inl (fun _ => nI 0)))] := hD
    refine W.eq (g2 := F0 m 27 ls [.ref s.heap.size, .int (nI nT), .ref (a + 1)]) rfl ?_
    refine x_aast hx hb hK hP hD hS 1 3 2 0 (j := nT) rfl rfl rfl rfl (by omega) (by decide) dP_taster_27 (fun H locs hP hD hS hz9 => ?_)
    have hP : va_P D vwCl [(a, .inr (2, [.long sd, .ref (a + 1), .ref (a + 2), .int (nI nT), .int (nI nS), .ref (a + 3), .ref (a + 4)])), ((a + 1), .inl (κ 3, 26, .inr (.inr (.inr (.inr (va_up fT nT (some s.heap.size))))))), (s.heap.size, .inr (0, [.ref (s.heap.size + 1), .ref (s.heap.size + 2), .int (nI 0), .int (nI 0)])), ((s.heap.size + 1), .inl (κ 1, 16, .inl (fun _ => nI 0))), ((s.heap.size + 2), .inl (κ 1, 16, .inl (fun _ => nI 0)))] H := hP
    have hD : va_D A [(a, .inr (2, [.long sd, .ref (a + 1), .ref (a + 2), .int (nI nT), .int (nI nS), .ref (a + 3), .ref (a + 4)])), ((a + 1), .inl (κ 3, 26, .inr (.inr (.inr (.inr (va_up fT nT (some s.heap.size))))))), (s.heap.size, .inr (0, [.ref (s.heap.size + 1), .ref (s.heap.size + 2), .int (nI 0), .int (nI 0)])), ((s.heap.size + 1), .inl (κ 1, 16, .inl (fun _ => nI 0))), ((s.heap.size + 2), .inl (κ 1, 16, .inl (fun _ => nI 0)))] := hD
    refine lv_aload_n hx hb dP_taster_28 rfl (lv_at hl 0 rfl) ?_
    refine lv_dup hx hb dP_taster_29 rfl ?_
    refine va_get (D := D) (ci := 2) (v := .int (nI nT)) (C := RP) (T := FP) (N := 7) hx hb hT inP hown hK hP 0 rfl rfl 3 (by decide) (hT _ kP33) (fun _ h9 => h9) rfl dP_taster_30 ?_
    refine lv_dup_x1 hx hb dP_taster_33 rfl rfl ?_
    refine lv_iconst (v := nI 1) hx hb dP_taster_34 (by decide) ?_
    refine x_iadd (v := nI (nT + 1)) hx hb dP_taster_35 (nI_add _ _) ?_
    refine va_put (D := D) (ci := 2) (v := .int (nI (nT + 1))) (ty := .int) (C := RP) (T := FP) (N := 7) hx hb hT inP tyP tyP_ok nmP hown hK hP hD hS 0 rfl rfl 3 (by decide) (hT _ kP33) (fun _ h9 => h9) rfl (by decide +kernel) rfl rfl (Nat.le_of_ble_eq_true rfl) dP_taster_36 (fun H locs hP hD hS => ?_)
    have hP : va_P D vwCl [(a, .inr (2, [.long sd, .ref (a + 1), .ref (a + 2), .int (nI (nT + 1)), .int (nI nS), .ref (a + 3), .ref (a + 4)])), ((a + 1), .inl (κ 3, 26, .inr (.inr (.inr (.inr (va_up fT nT (some s.heap.size))))))), (s.heap.size, .inr (0, [.ref (s.heap.size + 1), .ref (s.heap.size + 2), .int (nI 0), .int (nI 0)])), ((s.heap.size + 1), .inl (κ 1, 16, .inl (fun _ => nI 0))), ((s.heap.size + 2), .inl (κ 1, 16, .inl (fun _ => nI 0)))] H := hP
    have hD : va_D A [(a, .inr (2, [.long sd, .ref (a + 1), .ref (a + 2), .int (nI (nT + 1)), .int (nI nS), .ref (a + 3), .ref (a + 4)])), ((a + 1), .inl (κ 3, 26, .inr (.inr (.inr (.inr (va_up fT nT (some s.heap.size))))))), (s.heap.size, .inr (0, [.ref (s.heap.size + 1), .ref (s.heap.size + 2), .int (nI 0), .int (nI 0)])), ((s.heap.size + 1), .inl (κ 1, 16, .inl (fun _ => nI 0))), ((s.heap.size + 2), .inl (κ 1, 16, .inl (fun _ => nI 0)))] := hD
    refine W.widen (k := 3) (n := 36) (by decide) (by decide) ?_
    exact W.iret (v := nI nT) hx hb hr (fun t ht hW => ⟨some (.int (nI nT)), rfl, by rw [ht]; exact ⟨fun q => absurd q (by omega), fun _ => ⟨rfl, s.heap.size, RC_taster hR0 hnn hAq hS.1 hS.2.1 hfT hP⟩, ⟨hS.1, fun q h1 h2 => hS.2.1 q h1 (fun z => h2 (hAO q z))⟩⟩⟩) (fun q h => hAO _ (hS.2.2 q h)) dP_taster_39
  · refine lv_bipush (v := -2) hx hb dP_taster_9 (by decide) ?_
    refine W.widen (k := 3) (n := 36) (by decide) (by decide) ?_
    exact W.iret (v := -2) hx hb hr (fun t ht hW => ⟨some (.int (-2)), rfl, by rw [ht]; exact ⟨fun _ => ⟨rfl, hR0⟩, fun q => absurd q (by omega), FrC.rf⟩⟩) (fun q h => absurd h List.not_mem_nil) dP_taster_11
end
section
theorem RC_test {D : va_G} {κ : Nat → ClassId} {base a : Nat} {sd : Int64} {nT nS : Nat} {bT bS : Nat → Nat} {td fd : Nat → Nat → Nat} {ta tr kd sp ca cr : Nat → Nat} {od aw rk : Nat → Nat → Nat} {H0 H : Heap} {A : Nat → Prop} {fS : Nat → Option Nat} {F G : Nat → Int32} {k n : Nat} (hR : RC D κ base a sd nT nS bT bS td fd ta tr kd sp ca cr od aw rk H0) (hn : nS < 40) (hok : okN k n) (hG : ∀ i, i < 26 → G i = nI (ordv (cntO k n) sd nS i)) (hAq : ∀ x9, A x9 → (x9 = a ∨ x9 = (a + 2) ∨ x9 = (a + 3)) ∨ H0.size ≤ x9)
    (hsz : H0.size ≤ H.size) (hk : ∀ q : Nat, q < H0.size → ¬ A q → H[q]? = H0[q]?) (hf : ∀ j, j < 40 → fS j = if j < nS then some (bS j) else none) (hP : va_P D vwCl [(a, .inr (2, [.long sd, .ref (a + 1), .ref (a + 2), .int (nI nT), .int (nI (nS + 1)), .ref (a + 3), .ref (a + 4)])), ((a + 2), .inl (κ 4, 40, .inr (.inr (.inr (.inr (va_up fS nS (some H0.size))))))), ((a + 3), .inl (κ 0, 120, .inl F)), (H0.size, .inr (1, [.int (nI k), .int (nI n), .ref (H0.size + 1), .ref (H0.size + 2), .ref (H0.size + 3), .int (nI 0), .int (nI 0)])), ((H0.size + 1), .inl (κ 0, 26, .inl G)), ((H0.size + 2), .inl (κ 1, 26, .inl (fun _ => nI 0))), ((H0.size + 3), .inl (κ 0, 130, .inl (fun _ => nI 0)))] H) :
    RC D κ base a sd nT (nS + 1) bT (u1 bS nS H0.size) td fd ta tr (u1 kd nS k) (u1 sp nS n) (u1 ca nS 0) (u1 cr nS 0) (ur od nS (ordv (cntO k n) sd nS)) (ur aw nS (fun _ => 0)) (ur rk nS (fun _ => 0)) H := by
  obtain ⟨⟨fT, fS0, mx, sw, hP0, hfT, hfS⟩, hTas, hTes, ⟨hnT, hnS, hba, hah⟩, hb1, hb2, hs1, hs2, hs3, hs4, hs5⟩ := hR
  have hend : H0.size + 3 < H.size := (hP 6 _ rfl).lt
  refine ⟨⟨fT, va_up fS nS (some H0.size), F, sw, ?_, hfT, fun j hj => ?_⟩, fun i hi => keepW hk (hTas i hi) ?_, fun j hj => ?_, ⟨⟨hnT, by omega, hba, by omega⟩, fun j hj => ?_, hb2, fun i hi => ?_, fun j hj => ?_, hs3, fun j j' h1 h2 => ?_, fun i j hi hj => ?_⟩⟩
  · have h1 := hP.sub (ws' := [(a, .inr (2, [.long sd, .ref (a + 1), .ref (a + 2), .int (nI nT), .int (nI (nS + 1)), .ref (a + 3), .ref (a + 4)]))]) [0] rfl
    have h2 := keepW hk (hP0.sub (ws' := [((a + 1), .inl (κ 3, 26, .inr (.inr (.inr (.inr fT)))))]) [1] rfl) (by
      simp only [List.map, List.nodup_cons, List.mem_cons, List.not_mem_nil, or_false, not_or, List.nodup_nil, and_true, not_false_eq_true, List.forall_mem_cons, forall_eq_or_imp, forall_eq]
      exact fun q => by have := hAq _ q; omega)
    have h3 := hP.sub (ws' := [((a + 2), .inl (κ 4, 40, .inr (.inr (.inr (.inr (va_up fS nS (some H0.size))))))), ((a + 3), .inl (κ 0, 120, .inl F))]) [1, 2] rfl
    have h4 := keepW hk (hP0.sub (ws' := [((a + 4), .inl (κ 2, 131, .inr (.inl sw)))]) [4] rfl) (by
      simp only [List.map, List.nodup_cons, List.mem_cons, List.not_mem_nil, or_false, not_or, List.nodup_nil, and_true, not_false_eq_true, List.forall_mem_cons, forall_eq_or_imp, forall_eq]
      exact fun q => by have := hAq _ q; omega)
    exact ((h1.app h2).app h3).app h4
  · by_cases e : j = nS
    · subst e
      rw [va_up_self, if_pos (by omega), u1_eq]
    · rw [va_up_ne _ _ e, hf j hj, u1_ne e]
      by_cases h : j < nS
      · rw [if_pos h, if_pos (by omega)]
      · rw [if_neg h, if_neg (by omega)]
  · simp only [List.map, List.nodup_cons, List.mem_cons, List.not_mem_nil, or_false, not_or, List.nodup_nil, and_true, not_false_eq_true, List.forall_mem_cons, forall_eq_or_imp, forall_eq]
    have b2 := hs1 i hi
    refine ⟨fun q => ?_, fun q => ?_, fun q => ?_⟩ <;> (have := hAq _ q; omega)
  · by_cases e : j = nS
    · subst e
      rw [u1_eq, u1_eq, u1_eq, u1_eq, u1_eq, ur_eq, ur_eq, ur_eq]
      have h1 := hP.sub (ws' := [(H0.size, .inr (1, [.int (nI k), .int (nI n), .ref (H0.size + 1), .ref (H0.size + 2), .ref (H0.size + 3), .int (nI 0), .int (nI 0)]))]) [3] rfl
      have h2 := hP.sub (ws' := [((H0.size + 1), .inl (κ 0, 26, .inl G))]) [4] rfl
      have h3 := hP.sub (ws' := [((H0.size + 2), .inl (κ 1, 26, .inl (fun _ => nI 0))), ((H0.size + 3), .inl (κ 0, 130, .inl (fun _ => nI 0)))]) [5, 6] rfl
      exact (h1.app (h2.congr1 hG)).app h3
    · rw [u1_ne e, u1_ne e, u1_ne e, u1_ne e, u1_ne e, ur_ne e, ur_ne e, ur_ne e]
      have b := hs2 j (by omega)
      refine keepW hk (hTes j (by omega)) ?_
      simp only [List.map, List.nodup_cons, List.mem_cons, List.not_mem_nil, or_false, not_or, List.nodup_nil, and_true, not_false_eq_true, List.forall_mem_cons, forall_eq_or_imp, forall_eq]
      refine ⟨fun q => ?_, fun q => ?_, fun q => ?_, fun q => ?_⟩ <;> (have := hAq _ q; omega)
  · by_cases e : j = nS
    · subst e
      rw [u1_eq, u1_eq, u1_eq, u1_eq, ur_eq, ur_eq, ur_eq]
      exact ⟨hok, by omega, by omega, fun i hi => ⟨ordv_lt _ _ _ (cntO_le hok).1, by omega⟩, fun x hx => by omega⟩
    · rw [u1_ne e, u1_ne e, u1_ne e, u1_ne e, ur_ne e, ur_ne e, ur_ne e]
      exact hb1 j (by omega)
  · have := hs1 i hi; omega
  · by_cases e : j = nS
    · subst e
      rw [u1_eq]
      omega
    · rw [u1_ne e]
      have b := hs2 j (by omega)
      omega
  · have e1 : j ≠ nS := by omega
    rw [u1_ne e1]
    by_cases e : j' = nS
    · subst e
      rw [u1_eq]
      have b := hs2 j (by omega)
      omega
    · rw [u1_ne e]
      exact hs4 j j' h1 (by omega)
  · have b2 := hs1 i hi
    by_cases e : j = nS
    · subst e
      rw [u1_eq]
      omega
    · rw [u1_ne e]
      exact hs5 i j hi (by omega)
set_option maxHeartbeats 400000 in
set_option maxRecDepth 100000 in
theorem c_P_test (l : Launch) (D : va_G) (κ : Nat → ClassId) (base : Nat) (H0 : Heap) {a : Nat} {sd : Int64} {nT nS : Nat} {bT bS : Nat → Nat} {td fd : Nat → Nat → Nat} {ta tr kd sp ca cr : Nat → Nat} {od aw rk : Nat → Nat → Nat} (hR : RC D κ base a sd nT nS bT bS td fd ta tr kd sp ca cr od aw rk H0) (x y : Int32) : Met l yP_test wP_test ({ frames := 2, cells := 4, slots := 189, locals := 54 }) (Pq D κ base [.ref a, .int x, .int y] H0) (q_W (fun v H => (okK x y = false → v = some (.int (-1)) ∧ RC D κ base a sd nT nS bT bS td fd ta tr kd sp ca cr od aw rk H) ∧ (okK x y = true → 40 ≤ nS → v = some (.int (-2)) ∧ RC D κ base a sd nT nS bT bS td fd ta tr kd sp ca cr od aw rk H) ∧ (∀ k n, okN k n → x = nI k → y = nI n → nS < 40 → v = some (.int (nI nS)) ∧ ∃ b, RC D κ base a sd nT (nS + 1) bT (u1 bS nS b) td fd ta tr (u1 kd nS k) (u1 sp nS n) (u1 ca nS 0) (u1 cr nS 0) (ur od nS (ordv (cntO k n) sd nS)) (ur aw nS (fun _ => 0)) (ur rk nS (fun _ => 0)) H) ∧ FrC a nT nS bT bS H0 H)) 4 189 (OwnC a nT nS bT bS H0.size) := by
  refine Met.ofW (cc := bP_test) (maxL := 4) (ret := (some FieldType.int)) (by decide) rfl ?_
  intro p e s m args below meth c s₁ B hml hv
  obtain ⟨rfl, hH, hE⟩ := hv
  subst hH
  have hx := B.exec
  have hb := B.bytes
  have hr := B.returns
  have hT : ∀ w ∈ TT, w.before _ s = true := fun w h => atoms_spec (ws := wP_test) B.pre w (List.mem_cons_of_mem _ h)
  have hown : s.vm.findClass "TasterPanels" = some m.cls := findClass_of_methodNamed B.named
  have hlocks := B.notSynchronized
  have hK := hE.1
  have hS : va_S (fun q => base ≤ q) s.heap s.heap [] := va_S.rf
  have hAb : ∀ q : Nat, (fun q : Nat => base ≤ q) q → base ≤ q := fun _ h => h
  have hl := lv_entry ([.ref a, .int x, .int y]) (n := 4) (Nat.le_of_ble_eq_true rfl)
  rw [lg_entry_eq]
  generalize (lg_sl ([.ref a, .int x, .int y]) ++ List.replicate (4 - (lg_sl ([.ref a, .int x, .int y])).length) Slot.unset).toArray = ls at hl ⊢
  have hl : lv_has ls 4 [(0, .ref a), (1, .int x), (2, .int y)] := hl
  have hR0 := hR
  obtain ⟨⟨fT, fS, mx, sw, hP, hfT, hfS⟩, hTas, hTes, hbd⟩ := hR
  obtain ⟨⟨hnT, hnS, hba, hah⟩, hb1, hb2, hs1, hs2, hs3, hs4, hs5⟩ := hbd
  have hbs : base ≤ s.heap.size := by omega
  have hOb : ∀ x9, OwnC a nT nS bT bS s.heap.size x9 → base ≤ x9 := fun x9 h => OwnC.base hba (by omega) hs1 hs2 h
  have hS : va_S (OwnC a nT nS bT bS s.heap.size) s.heap s.heap [] := va_S.rf
  have hAb := hOb
  refine lv_iload_n hx hb dP_test_0 rfl (lv_at hl 1 rfl) ?_
  refine lv_iload_n hx hb dP_test_1 rfl (lv_at hl 2 rfl) ?_
  by_cases hok : okK x y = true
  · refine x_callP (v := .int (nI 1)) (va_runS (As := [.int x, .int y]) (rest := []) ⟨hx, hb, hml, hown, hT⟩ (c_P_isKindOf l D κ base s.heap x y 1 (by rw [if_pos hok])) (va_cwS 2 hT (TT_S kP38 ktP_isKindOf knP kcP_isKindOf) rfl rfl rfl (by decide +kernel) ⟨Nat.le_of_ble_eq_true rfl, Nat.le_of_ble_eq_true rfl⟩) (pcS hE hS hAb) rfl rfl hl.1 rfl (lv_room (Nat.le_of_ble_eq_true rfl)) dP_test_2 ⟨Nat.le_of_ble_eq_true rfl, Nat.le_of_ble_eq_true rfl⟩) ?_
    refine x_zne (a := 1) (tgt := 10) hx hb dP_test_5 (by decide) (by omega) (fun h1 => ?_) (fun h1 => absurd h1 (by decide))
    refine lv_aload_n hx hb dP_test_10 rfl (lv_at hl 0 rfl) ?_
    refine va_get (D := D) (ci := 2) (v := .int (nI nS)) (C := RP) (T := FP) (N := 7) hx hb hT inP hown hK hP 0 rfl rfl 4 (by decide) (hT _ kP42) (fun _ h9 => h9) rfl dP_test_11 ?_
    refine lv_bipush (v := nI 40) hx hb dP_test_14 (by decide) ?_
    refine x_clt (a := nS) (b := 40) (tgt := 22) hx hb dP_test_16 (by decide) (by omega) (by omega) (fun h2 => ?_) (fun h2 => ?_)
    · have hnn : nS < 40 := by omega
      obtain ⟨k, n, hkn, rfl, rfl⟩ := okK_nat hok
      have hkl := hkn.lt
      have hP : va_P D vwCl [(a, .inr (2, [.long sd, .ref (a + 1), .ref (a + 2), .int (nI nT), .int (nI nS), .ref (a + 3), .ref (a + 4)])), ((a + 2), .inl (κ 4, 40, .inr (.inr (.inr (.inr fS))))), ((a + 3), .inl (κ 0, 120, .inl mx))] s.heap := hP.sub [0, 2, 3] rfl
      have hnd : ([(a, .inr (2, [.long sd, .ref (a + 1), .ref (a + 2), .int (nI nT), .int (nI nS), .ref (a + 3), .ref (a + 4)])), ((a + 2), .inl (κ 4, 40, .inr (.inr (.inr (.inr fS))))), ((a + 3), .inl (κ 0, 120, .inl mx))] : va_W).map Prod.fst |>.Nodup := by simp only [List.map, List.nodup_cons, List.mem_cons, List.not_mem_nil, or_false, not_or, List.nodup_nil, and_true, not_false_eq_true, List.forall_mem_cons, forall_eq_or_imp, forall_eq]; omega
      have hD0 : va_D (fun q => base ≤ q) [(a, .inr (2, [.long sd, .ref (a + 1), .ref (a + 2), .int (nI nT), .int (nI nS), .ref (a + 3), .ref (a + 4)])), ((a + 2), .inl (κ 4, 40, .inr (.inr (.inr (.inr fS))))), ((a + 3), .inl (κ 0, 120, .inl mx))] := D_of hnd (by simp only [List.map, List.nodup_cons, List.mem_cons, List.not_mem_nil, or_false, not_or, List.nodup_nil, and_true, not_false_eq_true, List.forall_mem_cons, forall_eq_or_imp, forall_eq]; omega)
      have hD := hD0.self (sz := s.heap.size)
      have hAb : ∀ x9, va_A [(a, .inr (2, [.long sd, .ref (a + 1), .ref (a + 2), .int (nI nT), .int (nI nS), .ref (a + 3), .ref (a + 4)])), ((a + 2), .inl (κ 4, 40, .inr (.inr (.inr (.inr fS))))), ((a + 3), .inl (κ 0, 120, .inl mx))] s.heap.size x9 → base ≤ x9 := fun x9 h => by rcases h with ⟨k9, e9, h⟩ | h; exact hD0.2 k9 _ h; exact Nat.le_trans hbs h
      have hAq : ∀ x9, va_A [(a, .inr (2, [.long sd, .ref (a + 1), .ref (a + 2), .int (nI nT), .int (nI nS), .ref (a + 3), .ref (a + 4)])), ((a + 2), .inl (κ 4, 40, .inr (.inr (.inr (.inr fS))))), ((a + 3), .inl (κ 0, 120, .inl mx))] s.heap.size x9 → (x9 = a ∨ x9 = (a + 2) ∨ x9 = (a + 3)) ∨ s.heap.size ≤ x9 := fun x9 h => by have := A_addr h; simpa only [List.map, List.mem_cons, List.not_mem_nil, or_false] using this
      have hAO : ∀ x9, va_A [(a, .inr (2, [.long sd, .ref (a + 1), .ref (a + 2), .int (nI nT), .int (nI nS), .ref (a + 3), .ref (a + 4)])), ((a + 2), .inl (κ 4, 40, .inr (.inr (.inr (.inr fS))))), ((a + 3), .inl (κ 0, 120, .inl mx))] s.heap.size x9 → OwnC a nT nS bT bS s.heap.size x9 := fun x9 h => by exact ownR (by have := hAq x9 h; omega)
      generalize hAe : va_A [(a, .inr (2, [.long sd, .ref (a + 1), .ref (a + 2), .int (nI nT), .int (nI nS), .ref (a + 3), .ref (a + 4)])), ((a + 2), .inl (κ 4, 40, .inr (.inr (.inr (.inr fS))))), ((a + 3), .inl (κ 0, 120, .inl mx))] s.heap.size = A at hD hAb hAq hAO
      have hA : ∀ x9, s.heap.size ≤ x9 → A x9 := fun x9 h => by rw [← hAe]; exact Or.inr h
      have hS : va_S A s.heap s.heap [] := va_S.rf
      have hz : s.heap.size = s.heap.size := rfl
      refine x_new (ci := 1) (fs := [.int (nI 0), .int (nI 0), .null, .null, .null, .int (nI 0), .int (nI 0)]) (C := RS) (T := FS) (N := 7) hx hb hT inS tyS tyS_ok hown (hT _ kP15) (hT _ kxS) (hT _ knS) hK hP hD hS hA rfl (fun j hj => by rcases (show j = 0 ∨ j = 1 ∨ j = 2 ∨ j = 3 ∨ j = 4 ∨ j = 5 ∨ j = 6 by omega) with rfl | rfl | rfl | rfl | rfl | rfl | rfl <;> rfl) (Nat.le_of_ble_eq_true rfl) (Nat.le_of_ble_eq_true rfl) hz dP_test_22 (fun H hP hD hS hz => ?_)
      have hP : va_P D vwCl [(a, .inr (2, [.long sd, .ref (a + 1), .ref (a + 2), .int (nI nT), .int (nI nS), .ref (a + 3), .ref (a + 4)])), ((a + 2), .inl (κ 4, 40, .inr (.inr (.inr (.inr fS))))), ((a + 3), .inl (κ 0, 120, .inl mx)), (s.heap.size, .inr (1, [.int (nI 0), .int (nI 0), .null, .null, .null, .int (nI 0), .int (nI 0)]))] H := hP
      have hD : va_D A [(a, .inr (2, [.long sd, .ref (a + 1), .ref (a + 2), .int (nI nT), .int (nI nS), .ref (a + 3), .ref (a + 4)])), ((a + 2), .inl (κ 4, 40, .inr (.inr (.inr (.inr fS))))), ((a + 3), .inl (κ 0, 120, .inl mx)), (s.heap.size, .inr (1, [.int (nI 0), .int (nI 0), .null, .null, .null, .int (nI 0), .int (nI 0)]))] := hD
      refine lv_dup hx hb dP_test_25 rfl ?_
      refine lv_iload_n hx hb dP_test_26 rfl (lv_at hl 1 rfl) ?_
      refine lv_iload_n hx hb dP_test_27 rfl (lv_at hl 2 rfl) ?_
      have hFc := va_free (wc := [(s.heap.size, .inr (1, [.int (nI 0), .int (nI 0), .null, .null, .null, .int (nI 0), .int (nI 0)]))]) hD hS hA [3] rfl
      have hPc := hP.sub (ws' := [(s.heap.size, .inr (1, [.int (nI 0), .int (nI 0), .null, .null, .null, .int (nI 0), .int (nI 0)]))]) [3] rfl
      have hDc := (hD.sub (ws' := [(s.heap.size, .inr (1, [.int (nI 0), .int (nI 0), .null, .null, .null, .int (nI 0), .int (nI 0)]))]) [3] (by decide) rfl).weaken (fun _ _ _ h => hAb _ h)
      have hbc : base ≤ H.size := Nat.le_trans hbs hS.1
      refine x_callW (va_runIN (As := [.int (nI k), .int (nI n)]) (rest := [.ref s.heap.size]) ⟨hx, hb, hml, hown, hT⟩ (c_S_init l D κ base H (q := s.heap.size) k n hz hPc hDc hbc) ⟨va_cnB 2 hT (TT_code kcS_init) rfl rfl rfl (kN45 hE.2.1) (hT _ knS) (by decide +kernel) ⟨Nat.le_of_ble_eq_true rfl, Nat.le_of_ble_eq_true rfl⟩, rfl, hT _ kiS_init⟩ (pcS hE hS hAb) rfl rfl hl.1 rfl (lv_room (Nat.le_of_ble_eq_true rfl)) dP_test_28 ⟨Nat.le_of_ble_eq_true rfl, Nat.le_of_ble_eq_true rfl⟩) hS (fun q h => hFc q h) (fun v H1 h => Pst.fr hFc h.1) (fun v H locs hpost hS => ?_)
      obtain ⟨⟨rfl, hP1, hD1, hz1, hk1⟩, hz⟩ := hpost
      obtain ⟨hP, hD⟩ := va_join (wr := [(a, .inr (2, [.long sd, .ref (a + 1), .ref (a + 2), .int (nI nT), .int (nI nS), .ref (a + 3), .ref (a + 4)])), ((a + 2), .inl (κ 4, 40, .inr (.inr (.inr (.inr fS))))), ((a + 3), .inl (κ 0, 120, .inl mx))]) (w1 := [(s.heap.size, .inr (1, [.int (nI k), .int (nI n), .ref (s.heap.size + 1), .ref (s.heap.size + 2), .ref (s.heap.size + 3), .int (nI 0), .int (nI 0)])), ((s.heap.size + 1), .inl (κ 0, 26, .inl (fun _ => nI 0))), ((s.heap.size + 2), .inl (κ 1, 26, .inl (fun _ => nI 0))), ((s.heap.size + 3), .inl (κ 0, 130, .inl (fun _ => nI 0)))]) hP hD [3] [0, 1, 2] rfl rfl (by decide) (by decide) hk1 hFc hP1 hD1
      have hP : va_P D vwCl [(a, .inr (2, [.long sd, .ref (a + 1), .ref (a + 2), .int (nI nT), .int (nI nS), .ref (a + 3), .ref (a + 4)])), ((a + 2), .inl (κ 4, 40, .inr (.inr (.inr (.inr fS))))), ((a + 3), .inl (κ 0, 120, .inl mx)), (s.heap.size, .inr (1, [.int (nI k), .int (nI n), .ref (s.heap.size + 1), .ref (s.heap.size + 2), .ref (s.heap.size + 3), .int (nI 0), .int (nI 0)])), ((s.heap.size + 1), .inl (κ 0, 26, .inl (fun _ => nI 0))), ((s.heap.size + 2), .inl (κ 1, 26, .inl (fun _ => nI 0))), ((s.heap.size + 3), .inl (κ 0, 130, .inl (fun _ => nI 0)))] H := hP
      have hD : va_D A [(a, .inr (2, [.long sd, .ref (a + 1), .ref (a + 2), .int (nI nT), .int (nI nS), .ref (a + 3), .ref (a + 4)])), ((a + 2), .inl (κ 4, 40, .inr (.inr (.inr (.inr fS))))), ((a + 3), .inl (κ 0, 120, .inl mx)), (s.heap.size, .inr (1, [.int (nI k), .int (nI n), .ref (s.heap.size + 1), .ref (s.heap.size + 2), .ref (s.heap.size + 3), .int (nI 0), .int (nI 0)])), ((s.heap.size + 1), .inl (κ 0, 26, .inl (fun _ => nI 0))), ((s.heap.size + 2), .inl (κ 1, 26, .inl (fun _ => nI 0))), ((s.heap.size + 3), .inl (κ 0, 130, .inl (fun _ => nI 0)))] := hD
      refine W.eq (g2 := F0 m 31 ls [.ref s.heap.size]) rfl ?_
      refine lv_astore_n (lv' := [(3, .ref s.heap.size), (0, .ref a), (1, .int (nI k)), (2, .int (nI n))]) hx hb dP_test_31 rfl hl (by decide) rfl (fun ls hl => ?_)
      refine lv_aload_n hx hb dP_test_32 rfl (lv_at hl 1 rfl) ?_
      refine lv_aload_n hx hb dP_test_33 rfl (lv_at hl 0 rfl) ?_
      refine lv_aload_n hx hb dP_test_34 rfl (lv_at hl 1 rfl) ?_
      refine va_get (D := D) (ci := 2) (v := .int (nI nS)) (C := RP) (T := FP) (N := 7) hx hb hT inP hown hK hP 0 rfl rfl 4 (by decide) (hT _ kP42) (fun _ h9 => h9) rfl dP_test_35 ?_
      have hFc := va_free (wc := [(a, .inr (2, [.long sd, .ref (a + 1), .ref (a + 2), .int (nI nT), .int (nI nS), .ref (a + 3), .ref (a + 4)])), ((a + 3), .inl (κ 0, 120, .inl mx)), (s.heap.size, .inr (1, [.int (nI k), .int (nI n), .ref (s.heap.size + 1), .ref (s.heap.size + 2), .ref (s.heap.size + 3), .int (nI 0), .int (nI 0)])), ((s.heap.size + 1), .inl (κ 0, 26, .inl (fun _ => nI 0)))]) hD hS hA [0, 2, 3, 4] rfl
      have hPc := hP.sub (ws' := [(a, .inr (2, [.long sd, .ref (a + 1), .ref (a + 2), .int (nI nT), .int (nI nS), .ref (a + 3), .ref (a + 4)])), ((a + 3), .inl (κ 0, 120, .inl mx)), (s.heap.size, .inr (1, [.int (nI k), .int (nI n), .ref (s.heap.size + 1), .ref (s.heap.size + 2), .ref (s.heap.size + 3), .int (nI 0), .int (nI 0)])), ((s.heap.size + 1), .inl (κ 0, 26, .inl (fun _ => nI 0)))]) [0, 2, 3, 4] rfl
      have hDc := (hD.sub (ws' := [(a, .inr (2, [.long sd, .ref (a + 1), .ref (a + 2), .int (nI nT), .int (nI nS), .ref (a + 3), .ref (a + 4)])), ((a + 3), .inl (κ 0, 120, .inl mx)), (s.heap.size, .inr (1, [.int (nI k), .int (nI n), .ref (s.heap.size + 1), .ref (s.heap.size + 2), .ref (s.heap.size + 3), .int (nI 0), .int (nI 0)])), ((s.heap.size + 1), .inl (κ 0, 26, .inl (fun _ => nI 0)))]) [0, 2, 3, 4] (by decide) rfl).weaken (fun _ _ _ h => hAb _ h)
      have hbc : base ≤ H.size := Nat.le_trans hbs hS.1
      refine x_callW (va_runV (As := [.ref s.heap.size, .int (nI nS)]) (rest := []) ⟨hx, hb, hml, hown, hT⟩ (c_P_giveOrders l D κ base H (cntO k n) nS hkn rfl (by omega) hPc hDc hbc) (cwV 2 hT (TT_V kP48 kiP_giveOrders ksP_giveOrders knP kcP_giveOrders) rfl rfl rfl (by decide +kernel) ⟨Nat.le_of_ble_eq_true rfl, Nat.le_of_ble_eq_true rfl⟩) (pcV hE hS hAb (va_recv hK hP (ci := 2) (q0 := 0) rfl rfl)) rfl rfl hl.1 rfl (lv_room (Nat.le_of_ble_eq_true rfl)) dP_test_38 ⟨Nat.le_of_ble_eq_true rfl, Nat.le_of_ble_eq_true rfl⟩) hS (fun q h => hFc q h) (fun v H1 h => by obtain ⟨F9, G9, h9, -⟩ := h; exact Pst.fr hFc h9) (fun v H locs hpost hS => ?_)
      obtain ⟨F2, G2, ⟨rfl, hP1, hD1, hz1, hk1⟩, hG2⟩ := hpost
      obtain ⟨hP, hD⟩ := va_join (wr := [((a + 2), .inl (κ 4, 40, .inr (.inr (.inr (.inr fS))))), ((s.heap.size + 2), .inl (κ 1, 26, .inl (fun _ => nI 0))), ((s.heap.size + 3), .inl (κ 0, 130, .inl (fun _ => nI 0)))]) (w1 := [(a, .inr (2, [.long sd, .ref (a + 1), .ref (a + 2), .int (nI nT), .int (nI nS), .ref (a + 3), .ref (a + 4)])), ((a + 3), .inl (κ 0, 120, .inl F2)), (s.heap.size, .inr (1, [.int (nI k), .int (nI n), .ref (s.heap.size + 1), .ref (s.heap.size + 2), .ref (s.heap.size + 3), .int (nI 0), .int (nI 0)])), ((s.heap.size + 1), .inl (κ 0, 26, .inl G2))]) hP hD [0, 2, 3, 4] [1, 5, 6] rfl rfl (by decide) (by decide) hk1 hFc hP1 hD1
      have hP : va_P D vwCl [((a + 2), .inl (κ 4, 40, .inr (.inr (.inr (.inr fS))))), ((s.heap.size + 2), .inl (κ 1, 26, .inl (fun _ => nI 0))), ((s.heap.size + 3), .inl (κ 0, 130, .inl (fun _ => nI 0))), (a, .inr (2, [.long sd, .ref (a + 1), .ref (a + 2), .int (nI nT), .int (nI nS), .ref (a + 3), .ref (a + 4)])), ((a + 3), .inl (κ 0, 120, .inl F2)), (s.heap.size, .inr (1, [.int (nI k), .int (nI n), .ref (s.heap.size + 1), .ref (s.heap.size + 2), .ref (s.heap.size + 3), .int (nI 0), .int (nI 0)])), ((s.heap.size + 1), .inl (κ 0, 26, .inl G2))] H := hP
      have hD : va_D A [((a + 2), .inl (κ 4, 40, .inr (.inr (.inr (.inr fS))))), ((s.heap.size + 2), .inl (κ 1, 26, .inl (fun _ => nI 0))), ((s.heap.size + 3), .inl (κ 0, 130, .inl (fun _ => nI 0))), (a, .inr (2, [.long sd, .ref (a + 1), .ref (a + 2), .int (nI nT), .int (nI nS), .ref (a + 3), .ref (a + 4)])), ((a + 3), .inl (κ 0, 120, .inl F2)), (s.heap.size, .inr (1, [.int (nI k), .int (nI n), .ref (s.heap.size + 1), .ref (s.heap.size + 2), .ref (s.heap.size + 3), .int (nI 0), .int (nI 0)])), ((s.heap.size + 1), .inl (κ 0, 26, .inl G2))] := hD
      refine W.eq (g2 := F0 m 41 ls []) rfl ?_
      refine lv_aload_n hx hb dP_test_41 rfl (lv_at hl 1 rfl) ?_
      refine va_get (D := D) (ci := 2) (v := .ref (a + 2)) (C := RP) (T := FP) (N := 7) hx hb hT inP hown hK hP 3 rfl rfl 2 (by decide) (hT _ kP17) (fun _ h9 => h9) rfl dP_test_42 ?_
      refine lv_aload_n hx hb dP_test_45 rfl (lv_at hl 1 rfl) ?_
      refine va_get (D := D) (ci := 2) (v := .int (nI nS)) (C := RP) (T := FP) (N := 7) hx hb hT inP hown hK hP 3 rfl rfl 4 (by decide) (hT _ kP42) (fun _ h9 => h9) rfl dP_test_46 ?_
      refine lv_aload_n hx hb dP_test_49 rfl (lv_at hl 0 rfl) ?_
      refine x_aast hx hb hK hP hD hS 0 4 5 1 (j := nS) rfl rfl rfl rfl (by omega) (by decide) dP_test_50 (fun H locs hP hD hS hz9 => ?_)
      have hP : va_P D vwCl [((a + 2), .inl (κ 4, 40, .inr (.inr (.inr (.inr (va_up fS nS (some s.heap.size))))))), ((s.heap.size + 2), .inl (κ 1, 26, .inl (fun _ => nI 0))), ((s.heap.size + 3), .inl (κ 0, 130, .inl (fun _ => nI 0))), (a, .inr (2, [.long sd, .ref (a + 1), .ref (a + 2), .int (nI nT), .int (nI nS), .ref (a + 3), .ref (a + 4)])), ((a + 3), .inl (κ 0, 120, .inl F2)), (s.heap.size, .inr (1, [.int (nI k), .int (nI n), .ref (s.heap.size + 1), .ref (s.heap.size + 2), .ref (s.heap.size + 3), .int (nI 0), .int (nI 0)])), ((s.heap.size + 1), .inl (κ 0, 26, .inl G2))] H := hP
      have hD : va_D A [((a + 2), .inl (κ 4, 40, .inr (.inr (.inr (.inr (va_up fS nS (some s.heap.size))))))), ((s.heap.size + 2), .inl (κ 1, 26, .inl (fun _ => nI 0))), ((s.heap.size + 3), .inl (κ 0, 130, .inl (fun _ => nI 0))), (a, .inr (2, [.long sd, .ref (a + 1), .ref (a + 2), .int (nI nT), .int (nI nS), .ref (a + 3), .ref (a + 4)])), ((a + 3), .inl (κ 0, 120, .inl F2)), (s.heap.size, .inr (1, [.int (nI k), .int (nI n), .ref (s.heap.size + 1), .ref (s.heap.size + 2), .ref (s.heap.size + 3), .int (nI 0), .int (nI 0)])), ((s.heap.size + 1), .inl (κ 0, 26, .inl G2))] := hD
      refine lv_aload_n hx hb dP_test_51 rfl (lv_at hl 1 rfl) ?_
      refine lv_dup hx hb dP_test_52 rfl ?_
      refine va_get (D := D) (ci := 2) (v := .int (nI nS)) (C := RP) (T := FP) (N := 7) hx hb hT inP hown hK hP 3 rfl rfl 4 (by decide) (hT _ kP42) (fun _ h9 => h9) rfl dP_test_53 ?_
      refine lv_dup_x1 hx hb dP_test_56 rfl rfl ?_
      refine lv_iconst (v := nI 1) hx hb dP_test_57 (by decide) ?_
      refine x_iadd (v := nI (nS + 1)) hx hb dP_test_58 (nI_add _ _) ?_
      refine va_put (D := D) (ci := 2) (v := .int (nI (nS + 1))) (ty := .int) (C := RP) (T := FP) (N := 7) hx hb hT inP tyP tyP_ok nmP hown hK hP hD hS 3 rfl rfl 4 (by decide) (hT _ kP42) (fun _ h9 => h9) rfl (by decide +kernel) rfl rfl (Nat.le_of_ble_eq_true rfl) dP_test_59 (fun H locs hP hD hS => ?_)
      have hP : va_P D vwCl [((a + 2), .inl (κ 4, 40, .inr (.inr (.inr (.inr (va_up fS nS (some s.heap.size))))))), ((s.heap.size + 2), .inl (κ 1, 26, .inl (fun _ => nI 0))), ((s.heap.size + 3), .inl (κ 0, 130, .inl (fun _ => nI 0))), (a, .inr (2, [.long sd, .ref (a + 1), .ref (a + 2), .int (nI nT), .int (nI (nS + 1)), .ref (a + 3), .ref (a + 4)])), ((a + 3), .inl (κ 0, 120, .inl F2)), (s.heap.size, .inr (1, [.int (nI k), .int (nI n), .ref (s.heap.size + 1), .ref (s.heap.size + 2), .ref (s.heap.size + 3), .int (nI 0), .int (nI 0)])), ((s.heap.size + 1), .inl (κ 0, 26, .inl G2))] H := hP
      have hD : va_D A [((a + 2), .inl (κ 4, 40, .inr (.inr (.inr (.inr (va_up fS nS (some s.heap.size))))))), ((s.heap.size + 2), .inl (κ 1, 26, .inl (fun _ => nI 0))), ((s.heap.size + 3), .inl (κ 0, 130, .inl (fun _ => nI 0))), (a, .inr (2, [.long sd, .ref (a + 1), .ref (a + 2), .int (nI nT), .int (nI (nS + 1)), .ref (a + 3), .ref (a + 4)])), ((a + 3), .inl (κ 0, 120, .inl F2)), (s.heap.size, .inr (1, [.int (nI k), .int (nI n), .ref (s.heap.size + 1), .ref (s.heap.size + 2), .ref (s.heap.size + 3), .int (nI 0), .int (nI 0)])), ((s.heap.size + 1), .inl (κ 0, 26, .inl G2))] := hD
      have hP := hP.sub (ws' := [(a, .inr (2, [.long sd, .ref (a + 1), .ref (a + 2), .int (nI nT), .int (nI (nS + 1)), .ref (a + 3), .ref (a + 4)])), ((a + 2), .inl (κ 4, 40, .inr (.inr (.inr (.inr (va_up fS nS (some s.heap.size))))))), ((a + 3), .inl (κ 0, 120, .inl F2)), (s.heap.size, .inr (1, [.int (nI k), .int (nI n), .ref (s.heap.size + 1), .ref (s.heap.size + 2), .ref (s.heap.size + 3), .int (nI 0), .int (nI 0)])), ((s.heap.size + 1), .inl (κ 0, 26, .inl G2)), ((s.heap.size + 2), .inl (κ 1, 26, .inl (fun _ => nI 0))), ((s.heap.size + 3), .inl (κ 0, 130, .inl (fun _ => nI 0)))]) [3, 0, 4, 5, 6, 1, 2] rfl
      have hD := hD.sub (ws' := [(a, .inr (2, [.long sd, .ref (a + 1), .ref (a + 2), .int (nI nT), .int (nI (nS + 1)), .ref (a + 3), .ref (a + 4)])), ((a + 2), .inl (κ 4, 40, .inr (.inr (.inr (.inr (va_up fS nS (some s.heap.size))))))), ((a + 3), .inl (κ 0, 120, .inl F2)), (s.heap.size, .inr (1, [.int (nI k), .int (nI n), .ref (s.heap.size + 1), .ref (s.heap.size + 2), .ref (s.heap.size + 3), .int (nI 0), .int (nI 0)])), ((s.heap.size + 1), .inl (κ 0, 26, .inl G2)), ((s.heap.size + 2), .inl (κ 1, 26, .inl (fun _ => nI 0))), ((s.heap.size + 3), .inl (κ 0, 130, .inl (fun _ => nI 0)))]) [3, 0, 4, 5, 6, 1, 2] (by decide) rfl
      refine W.widen (k := 4) (n := 189) (by decide) (by decide) ?_
      have hinj : ∀ k2 n2, okN k2 n2 → nI k = nI k2 → nI n = nI n2 → k2 = k ∧ n2 = n := fun k2 n2 h e1 e2 => by have := h.lt; exact ⟨(nI_inj (by omega) (by omega) e1).symm, (nI_inj (by omega) (by omega) e2).symm⟩
      exact W.iret (v := nI nS) hx hb hr (fun t ht hW => ⟨some (.int (nI nS)), rfl, by rw [ht]; exact ⟨fun q => absurd q (by rw [hok]; decide), fun _ q => absurd q (by omega), fun k2 n2 h2 e1 e2 _ => by obtain ⟨rfl, rfl⟩ := hinj k2 n2 h2 e1 e2; exact ⟨rfl, s.heap.size, RC_test hR0 hnn hkn hG2 hAq hS.1 hS.2.1 hfS hP⟩, ⟨hS.1, fun q h1 h2 => hS.2.1 q h1 (fun z => h2 (hAO q z))⟩⟩⟩) (fun q h => hAO _ (hS.2.2 q h)) dP_test_62
    · refine lv_bipush (v := -2) hx hb dP_test_19 (by decide) ?_
      refine W.widen (k := 4) (n := 189) (by decide) (by decide) ?_
      exact W.iret (v := -2) hx hb hr (fun t ht hW => ⟨some (.int (-2)), rfl, by rw [ht]; exact ⟨fun q => absurd q (by rw [hok]; decide), fun _ _ => ⟨rfl, hR0⟩, fun _ _ _ _ _ q => absurd q (by omega), FrC.rf⟩⟩) (fun q h => absurd h List.not_mem_nil) dP_test_21
  · refine x_callP (v := .int (nI 0)) (va_runS (As := [.int x, .int y]) (rest := []) ⟨hx, hb, hml, hown, hT⟩ (c_P_isKindOf l D κ base s.heap x y 0 (by rw [if_neg hok])) (va_cwS 2 hT (TT_S kP38 ktP_isKindOf knP kcP_isKindOf) rfl rfl rfl (by decide +kernel) ⟨Nat.le_of_ble_eq_true rfl, Nat.le_of_ble_eq_true rfl⟩) (pcS hE hS hAb) rfl rfl hl.1 rfl (lv_room (Nat.le_of_ble_eq_true rfl)) dP_test_2 ⟨Nat.le_of_ble_eq_true rfl, Nat.le_of_ble_eq_true rfl⟩) ?_
    refine x_zne (a := 0) (tgt := 10) hx hb dP_test_5 (by decide) (by omega) (fun h3 => absurd rfl h3) (fun h3 => ?_)
    refine lv_iconst (v := -1) hx hb dP_test_8 (by decide) ?_
    refine W.widen (k := 4) (n := 189) (by decide) (by decide) ?_
    exact W.iret (v := -1) hx hb hr (fun t ht hW => ⟨some (.int (-1)), rfl, by rw [ht]; exact ⟨fun _ => ⟨rfl, hR0⟩, fun q => absurd q hok, fun k n hkn e1 e2 => absurd (by rw [e1, e2]; exact okK_of hkn) hok, FrC.rf⟩⟩) (fun q h => absurd h List.not_mem_nil) dP_test_9
end
section
/-! permuted -/
theorem kc_abs' : Cond.code Lib.Math.abs.name Lib.Math.abs.code 1 (some .int) ∈ TT := kc_abs
def sgS (g : Nat → Nat) (x : Nat) : Nat → Nat
  | 0 => 0
  | r + 1 => sgS g x r + g (x - (r + 1))
/-- in how many ways m ranks out of 1 .. n have the sum x, as the class reckons it -/
def cG (n : Nat) : Nat → Nat → Nat
  | 0 => fun x => if x = 0 then 1 else 0
  | m + 1 => fun x => if x ≤ (m + 1) * n then sgS (cG n m) x (min n x) else cG n m x
def adist (x y : Nat) : Nat := if x ≤ y then y - x else x - y
def wfA (g : Nat → Nat) (mid far st : Nat) : Nat → Nat
  | 0 => 0
  | k + 1 => wfA g mid far st k + (if far ≤ adist (2 * (st + k)) mid then g (st + k) else 0)
def wfC (sum m n : Nat) : Nat := wfA (cG n m) (m * (n + 1)) (adist (2 * sum) (m * (n + 1))) m (m * n + 1 - m)
theorem absd {A B0 : Nat} (hA : A < 2 ^ 30) (hB : B0 < 2 ^ 30) : (if 0 ≤ nI A - nI B0 then nI A - nI B0 else 0 - (nI A - nI B0)) = nI (adist A B0) := by
  have h1 := pk_sub_toInt hA hB
  by_cases h : A ≤ B0
  · rcases Nat.eq_or_lt_of_le h with e | e
    · subst e
      rw [show nI A - nI A = 0 by rw [Int32.sub_self], if_pos (by decide)]
      simp [adist, nI]
    · rw [if_neg (fun q => by rw [Int32.le_iff_toInt_le, h1] at q; have : (0 : Int32).toInt = 0 := by decide
                              omega)]
      unfold adist
      rw [if_pos h]
      apply Int32.toInt_inj.mp
      rw [nI_toInt (by omega), Int32.toInt_sub, h1]
      have : (0 : Int32).toInt = 0 := by decide
      rw [this, Int.bmod_eq_of_le (by omega) (by omega)]
      omega
  · rw [if_pos (by rw [Int32.le_iff_toInt_le, h1]; have : (0 : Int32).toInt = 0 := by decide
                   omega)]
    unfold adist
    rw [if_neg h]
    exact pk_sub (by omega)
def rkAll (f : Nat → Nat) (n i : Nat) : Bool := decide (∀ k, k < n → ¬ f (i * 5 + k) = 0)
def rkC (f : Nat → Nat) (n : Nat) : Nat → Nat
  | 0 => 0
  | t + 1 => rkC f n t + (if rkAll f n t = true then 1 else 0)
def rkS (f : Nat → Nat) (n : Nat) : Nat → Nat
  | 0 => 0
  | t + 1 => rkS f n t + (if rkAll f n t = true then f (t * 5) else 0)
theorem rkC_le (f : Nat → Nat) (n : Nat) : ∀ t, rkC f n t ≤ t
  | 0 => Nat.le_refl 0
  | t + 1 => by
    have := rkC_le f n t
    unfold rkC
    split <;> omega
theorem rkS_le (f : Nat → Nat) (n : Nat) (hf : ∀ x, x < 130 → f x ≤ 5) : ∀ t, t ≤ 26 → rkS f n t ≤ 5 * t
  | 0, _ => Nat.le_refl 0
  | t + 1, h => by
    have h1 := rkS_le f n hf t (by omega)
    have h2 := hf (t * 5) (by omega)
    unfold rkS
    split <;> omega
def tot (g : Nat → Nat) : Nat → Nat
  | 0 => 0
  | x + 1 => tot g x + g x
theorem tot_mono (g : Nat → Nat) {a b : Nat} (h : a ≤ b) : tot g a ≤ tot g b := by
  induction b with
  | zero => rw [Nat.le_zero.mp h]; exact Nat.le_refl _
  | succ b ih =>
    rcases Nat.eq_or_lt_of_le h with e | e
    · rw [e]; exact Nat.le_refl _
    · exact Nat.le_trans (ih (by omega)) (Nat.le_add_right _ _)
def tsh (g : Nat → Nat) (r : Nat) : Nat → Nat
  | 0 => 0
  | x + 1 => tsh g r x + (if r ≤ x then g (x - r) else 0)
theorem tsh_eq (g : Nat → Nat) (r : Nat) : ∀ x, tsh g r x = tot g (x - r)
  | 0 => by rw [Nat.zero_sub]; rfl
  | x + 1 => by
    unfold tsh
    rw [tsh_eq g r x]
    by_cases h : r ≤ x
    · rw [if_pos h, show x + 1 - r = (x - r) + 1 by omega]
      rfl
    · rw [if_neg h, show x + 1 - r = 0 by omega, show x - r = 0 by omega]
      rfl
theorem sgS_cap (g : Nat → Nat) (x : Nat) : ∀ r, r ≤ x → sgS g x r = sgS g x (min r x) := fun r h => by rw [Nat.min_eq_left h]
def tsg (g : Nat → Nat) (n : Nat) : Nat → Nat
  | 0 => 0
  | x + 1 => tsg g n x + sgS g x (min n x)
theorem tsg_s (g : Nat → Nat) (n : Nat) : ∀ x, tsg g (n + 1) x = tsg g n x + tsh g (n + 1) x
  | 0 => rfl
  | x + 1 => by
    unfold tsg tsh
    rw [tsg_s g n x]
    by_cases h : n + 1 ≤ x
    · rw [if_pos h, Nat.min_eq_left h, Nat.min_eq_left (by omega)]
      have e : sgS g x (n + 1) = sgS g x n + g (x - (n + 1)) := rfl
      omega
    · rw [if_neg h, Nat.min_eq_right (by omega), Nat.min_eq_right (by omega)]
      omega
theorem tsg_le (g : Nat → Nat) : ∀ (n x : Nat), tsg g n x ≤ n * tot g x
  | 0, x => by
    have : tsg g 0 x = 0 := by
      induction x with
      | zero => rfl
      | succ x ih => unfold tsg; rw [ih, Nat.zero_min]; rfl
    omega
  | n + 1, x => by
    rw [tsg_s, tsh_eq, Nat.add_mul, Nat.one_mul]
    have h1 := tsg_le g n x
    have h2 := tot_mono g (show x - (n + 1) ≤ x by omega)
    omega
theorem cG_sup (n : Nat) : ∀ (m x : Nat), m * n < x → cG n m x = 0
  | 0, x, h => by
    unfold cG
    rw [if_neg (by omega)]
  | m + 1, x, h => by
    unfold cG
    rw [Nat.add_mul] at h
    rw [if_neg (by rw [Nat.add_mul]; omega)]
    exact cG_sup n m x (by omega)
theorem sgS_zero (g : Nat → Nat) (x : Nat) : ∀ r, (∀ k, 1 ≤ k → k ≤ r → g (x - k) = 0) → sgS g x r = 0
  | 0, _ => rfl
  | r + 1, h => by
    unfold sgS
    rw [sgS_zero g x r (fun k h1 h2 => h k h1 (by omega)), h (r + 1) (by omega) (Nat.le_refl _)]
/-- the same without the bound: beyond it all is nought -/
theorem cG_step (n m x : Nat) : cG n (m + 1) x = sgS (cG n m) x (min n x) := by
  show (if x ≤ (m + 1) * n then sgS (cG n m) x (min n x) else cG n m x) = _
  by_cases h : x ≤ (m + 1) * n
  · rw [if_pos h]
  · rw [if_neg h]
    rw [Nat.add_mul, Nat.one_mul] at h
    rw [cG_sup n m x (by omega), sgS_zero]
    intro k h1 h2
    have : k ≤ n := Nat.le_trans h2 (Nat.min_le_left _ _)
    exact cG_sup n m (x - k) (by omega)
theorem tot_congr {f g : Nat → Nat} (h : ∀ x, f x = g x) : ∀ x, tot f x = tot g x
  | 0 => rfl
  | x + 1 => by
    unfold tot
    rw [tot_congr h x, h x]
theorem tot_tsg (g : Nat → Nat) (n : Nat) : ∀ x, tot (fun y => sgS g y (min n y)) x = tsg g n x
  | 0 => rfl
  | x + 1 => by
    unfold tot tsg
    rw [tot_tsg g n x]
theorem cG_tot (n : Nat) : ∀ (m x : Nat), tot (cG n m) x ≤ n ^ m
  | 0, x => by
    rw [Nat.pow_zero]
    induction x with
    | zero => exact Nat.zero_le _
    | succ x ih =>
      unfold tot
      rcases Nat.eq_zero_or_pos x with e | e
      · subst e
        exact Nat.le_refl 1
      · show tot (cG n 0) x + (if x = 0 then 1 else 0) ≤ 1
        rw [if_neg (by omega)]
        exact ih
  | m + 1, x => by
    rw [tot_congr (cG_step n m), tot_tsg, Nat.pow_succ, Nat.mul_comm]
    exact Nat.le_trans (tsg_le _ n x) (Nat.mul_le_mul_left _ (cG_tot n m x))
theorem wfA_tot (g : Nat → Nat) (mid far st : Nat) : ∀ k, tot g st + wfA g mid far st k ≤ tot g (st + k)
  | 0 => Nat.le_refl _
  | k + 1 => by
    have h := wfA_tot g mid far st k
    show tot g st + (wfA g mid far st k + (if far ≤ adist (2 * (st + k)) mid then g (st + k) else 0)) ≤ tot g (st + k) + g (st + k)
    split <;> omega
theorem wfC_le (sum m n : Nat) : wfC sum m n ≤ n ^ m := by
  have h1 := wfA_tot (cG n m) (m * (n + 1)) (adist (2 * sum) (m * (n + 1))) m (m * n + 1 - m)
  have h2 := cG_tot n m (m + (m * n + 1 - m))
  unfold wfC
  omega
theorem pow5_lt {n m : Nat} (hn : n ≤ 5) (hm : m ≤ 26) : n ^ m < 2 ^ 63 := by
  have h1 : n ^ m ≤ 5 ^ m := Nat.pow_le_pow_left hn m
  have h2 : 5 ^ m ≤ 5 ^ 26 := Nat.pow_le_pow_right (by omega) hm
  have h3 : 5 ^ 26 < 2 ^ 63 := by decide
  omega
theorem sw_put {S : Nat → Int64} {g g2 : Nat → Nat} {y : Nat} (hS : ∀ x, x < 131 → S x = lN (if y + 1 ≤ x then g2 x else g x)) : ∀ x, x < 131 → vp_updL S y (lN (g2 y)) x = lN (if y ≤ x then g2 x else g x) := by
  intro x hx
  by_cases h : x = y
  · subst h
    simp [vp_updL]
  · simp only [vp_updL, if_neg h]
    rw [hS x hx]
    by_cases h1 : y + 1 ≤ x
    · rw [if_pos h1, if_pos (by omega)]
    · rw [if_neg h1, if_neg (by omega)]
theorem sw_z {S : Nat → Int64} {i : Nat} (h : ∀ x, x < i → S x = lN 0) : ∀ x, x < i + 1 → vp_updL S i (lN 0) x = lN 0 := by
  intro x hx
  by_cases e : x = i
  · simp [vp_updL, e]
  · simp only [vp_updL, if_neg e]
    exact h x (by omega)
theorem sw_0 {S : Nat → Int64} {n : Nat} (h : ∀ x, x < 131 → S x = lN 0) : ∀ x, x < 131 → vp_updL S 0 (lN 1) x = lN (cG n 0 x) := by
  intro x hx
  by_cases e : x = 0
  · simp [vp_updL, cG, e]
  · simp only [vp_updL, if_neg e]
    rw [h x hx]
    simp [cG, e]
theorem sw_3 {S : Nat → Int64} {n k : Nat} (h : ∀ x, x < 131 → S x = lN (cG n k x)) : ∀ x, x < 131 → S x = lN (if (k + 1) * n + 1 ≤ x then cG n (k + 1) x else cG n k x) := by
  intro x hx
  rw [h x hx]
  by_cases e : (k + 1) * n + 1 ≤ x
  · rw [if_pos e]
    show lN (cG n k x) = lN (if x ≤ (k + 1) * n then _ else _)
    rw [if_neg (by omega)]
  · rw [if_neg e]
set_option maxHeartbeats 400000 in
set_option maxRecDepth 100000 in
theorem c_P_countSums (l : Launch) (D : va_G) (κ : Nat → ClassId) (base : Nat) (H0 : Heap) {a nT nS : Nat} {sd : Int64} {Sz : Nat → Int64} (m0 n : Nat) (hm : m0 ≤ 26) (hn : n ≤ 5) (hP : va_P D vwCl [(a, .inr (2, [.long sd, .ref (a + 1), .ref (a + 2), .int (nI nT), .int (nI nS), .ref (a + 3), .ref (a + 4)])), ((a + 4), .inl (κ 2, 131, .inr (.inl Sz)))] H0) (hD0 : va_D (fun q => base ≤ q) [(a, .inr (2, [.long sd, .ref (a + 1), .ref (a + 2), .int (nI nT), .int (nI nS), .ref (a + 3), .ref (a + 4)])), ((a + 4), .inl (κ 2, 131, .inr (.inl Sz)))]) (hbs : base ≤ H0.size)  : Met l yP_countSums wP_countSums ({ frames := 0, cells := 0, slots := 0, locals := 0 }) (Pq D κ base [.ref a, .int (nI m0), .int (nI n)] H0) (q_W (fun v H => ∃ S : Nat → Int64, Pst D (va_A [(a, .inr (2, [.long sd, .ref (a + 1), .ref (a + 2), .int (nI nT), .int (nI nS), .ref (a + 3), .ref (a + 4)])), ((a + 4), .inl (κ 2, 131, .inr (.inl Sz)))] H0.size) H0 none [(a, .inr (2, [.long sd, .ref (a + 1), .ref (a + 2), .int (nI nT), .int (nI nS), .ref (a + 3), .ref (a + 4)])), ((a + 4), .inl (κ 2, 131, .inr (.inl S)))] v H ∧ ∀ x, x < 131 → S x = lN (cG n m0 x))) 0 0 (va_A [(a, .inr (2, [.long sd, .ref (a + 1), .ref (a + 2), .int (nI nT), .int (nI nS), .ref (a + 3), .ref (a + 4)])), ((a + 4), .inl (κ 2, 131, .inr (.inl Sz)))] H0.size) := by
  refine Met.ofW (cc := bP_countSums) (maxL := 8) (ret := none) (by decide) rfl ?_
  intro p e s m args below meth c s₁ B hml hv
  obtain ⟨rfl, hH, hE⟩ := hv
  subst hH
  have hx := B.exec
  have hb := B.bytes
  have hr := B.returns
  have hT : ∀ w ∈ TT, w.before _ s = true := fun w h => atoms_spec (ws := wP_countSums) B.pre w (List.mem_cons_of_mem _ h)
  have hown : s.vm.findClass "TasterPanels" = some m.cls := findClass_of_methodNamed B.named
  have hlocks := B.notSynchronized
  have hK := hE.1
  have hD := hD0.self (sz := s.heap.size)
  have hAb : ∀ x9, va_A [(a, .inr (2, [.long sd, .ref (a + 1), .ref (a + 2), .int (nI nT), .int (nI nS), .ref (a + 3), .ref (a + 4)])), ((a + 4), .inl (κ 2, 131, .inr (.inl Sz)))] s.heap.size x9 → base ≤ x9 := fun x9 h => by rcases h with ⟨k, e, h⟩ | h; exact hD0.2 k _ h; exact Nat.le_trans hbs h
  generalize hAe : va_A [(a, .inr (2, [.long sd, .ref (a + 1), .ref (a + 2), .int (nI nT), .int (nI nS), .ref (a + 3), .ref (a + 4)])), ((a + 4), .inl (κ 2, 131, .inr (.inl Sz)))] s.heap.size = A at hD hAb ⊢
  have hA : ∀ x9, s.heap.size ≤ x9 → A x9 := fun x9 h => by rw [← hAe]; exact Or.inr h
  have hS : va_S A s.heap s.heap [] := va_S.rf
  have hl := lv_entry ([.ref a, .int (nI m0), .int (nI n)]) (n := 8) (Nat.le_of_ble_eq_true rfl)
  rw [lg_entry_eq]
  generalize (lg_sl ([.ref a, .int (nI m0), .int (nI n)]) ++ List.replicate (8 - (lg_sl ([.ref a, .int (nI m0), .int (nI n)])).length) Slot.unset).toArray = ls at hl ⊢
  have hl : lv_has ls 8 [(0, .ref a), (1, .int (nI m0)), (2, .int (nI n))] := hl
  have loop2 : ∀ (fu : Nat) (k : Nat) (S : Nat → Int64) (H : Heap) (locs : List Loc), (k ≤ m0) → (∀ x, x < 131 → S x = lN (cG n k x)) → va_P D vwCl [(a, .inr (2, [.long sd, .ref (a + 1), .ref (a + 2), .int (nI nT), .int (nI nS), .ref (a + 3), .ref (a + 4)])), ((a + 4), .inl (κ 2, 131, .inr (.inl S)))] H → va_D A [(a, .inr (2, [.long sd, .ref (a + 1), .ref (a + 2), .int (nI nT), .int (nI nS), .ref (a + 3), .ref (a + 4)])), ((a + 4), .inl (κ 2, 131, .inr (.inl S)))] → va_S A s.heap H locs → m0 - k < fu → ∀ ls : Array Slot, lv_has ls 8 [(0, .ref a), (1, .int (nI m0)), (2, .int (nI n)), (3, .int (nI (k + 1)))] → W p l e (headSpec wP_countSums ({ frames := 0, cells := 0, slots := 0, locals := 0 })).room s m ([.ref a, .int (nI m0), .int (nI n)] : List Value).toArray below meth c H locs 0 0 (MQ below (q_W (fun v H => ∃ S : Nat → Int64, Pst D A s.heap none [(a, .inr (2, [.long sd, .ref (a + 1), .ref (a + 2), .int (nI nT), .int (nI nS), .ref (a + 3), .ref (a + 4)])), ((a + 4), .inl (κ 2, 131, .inr (.inl S)))] v H ∧ ∀ x, x < 131 → S x = lN (cG n m0 x))) ([.ref a, .int (nI m0), .int (nI n)] : List Value).toArray s 0 0 A) (F0 m 33 ls []) := by
    intro fu
    induction fu with
    | zero =>
      intro k S H locs hk hSx hP hD hS hmu
      exact absurd hmu (Nat.not_lt_zero _)
    | succ fu ih2 =>
      intro k S H locs hk hSx hP hD hS hmu ls hl
      refine lv_iload_n hx hb dP_countSums_33 rfl (lv_at hl 3 rfl) ?_
      refine lv_iload_n hx hb dP_countSums_34 rfl (lv_at hl 1 rfl) ?_
      refine x_cgt (a := k + 1) (b := m0) (tgt := 109) hx hb dP_countSums_35 (by decide) (by omega) (by omega) (fun g0 => ?_) (fun g0 => ?_)
      · have e1 : k = m0 := by omega
        exact W.vret hx hb hr (fun t ht hW => ⟨none, rfl, by rw [ht]; exact ⟨S, ⟨rfl, hP, hD, hS.1, hS.2.1⟩, fun x hx => by rw [hSx x hx, e1]⟩⟩) hS.2.2 dP_countSums_109
      · have hb9 : (k + 1) * n ≤ 130 := by have := Nat.mul_le_mul (show k + 1 ≤ 26 by omega) hn; omega
        have loop3 : ∀ (fu : Nat) (y : Nat) (S : Nat → Int64) (H : Heap) (locs : List Loc), (y ≤ (k + 1) * n + 1) → (∀ x, x < 131 → S x = lN (if y ≤ x then cG n (k + 1) x else cG n k x)) → va_P D vwCl [(a, .inr (2, [.long sd, .ref (a + 1), .ref (a + 2), .int (nI nT), .int (nI nS), .ref (a + 3), .ref (a + 4)])), ((a + 4), .inl (κ 2, 131, .inr (.inl S)))] H → va_D A [(a, .inr (2, [.long sd, .ref (a + 1), .ref (a + 2), .int (nI nT), .int (nI nS), .ref (a + 3), .ref (a + 4)])), ((a + 4), .inl (κ 2, 131, .inr (.inl S)))] → va_S A s.heap H locs → y < fu → ∀ ls : Array Slot, lv_has ls 8 [(0, .ref a), (1, .int (nI m0)), (2, .int (nI n)), (3, .int (nI (k + 1))), (4, .int (nI y - 1))] → W p l e (headSpec wP_countSums ({ frames := 0, cells := 0, slots := 0, locals := 0 })).room s m ([.ref a, .int (nI m0), .int (nI n)] : List Value).toArray below meth c H locs 0 0 (MQ below (q_W (fun v H => ∃ S : Nat → Int64, Pst D A s.heap none [(a, .inr (2, [.long sd, .ref (a + 1), .ref (a + 2), .int (nI nT), .int (nI nS), .ref (a + 3), .ref (a + 4)])), ((a + 4), .inl (κ 2, 131, .inr (.inl S)))] v H ∧ ∀ x, x < 131 → S x = lN (cG n m0 x))) ([.ref a, .int (nI m0), .int (nI n)] : List Value).toArray s 0 0 A) (F0 m 43 ls []) := by
          intro fu
          induction fu with
          | zero =>
            intro y S H locs hy hSx hP hD hS hmu
            exact absurd hmu (Nat.not_lt_zero _)
          | succ fu ih3 =>
            intro y S H locs hy hSx hP hD hS hmu ls hl
            rcases y with _ | y
            · refine lv_iload hx hb dP_countSums_43 (lv_at hl 4 rfl) ?_
              refine lv_if_lt (tgt := 103) hx hb dP_countSums_45 (by decide) (fun h1 => ?_) (fun h1 => absurd (by decide) h1)
              refine lv_iinc (v := nI (k + 1 + 1)) (lv' := [(3, .int (nI (k + 1 + 1))), (0, .ref a), (1, .int (nI m0)), (2, .int (nI n)), (4, .int (nI 0 - 1))]) hx hb dP_countSums_103 hl (k := 3) rfl (nI_add _ _) (by decide) rfl (fun ls hl => ?_)
              refine lv_goto (tgt := 33) hx hb dP_countSums_106 (by decide) ?_
              exact ih2 (k + 1) S _ _ (by omega) (fun x hx => by rw [hSx x hx, if_pos (Nat.zero_le _)]) hP hD hS (by omega) ls (lv_sub hl [1, 2, 3, 0] rfl)
            · rw [nI_pred] at hl
              refine lv_iload hx hb dP_countSums_43 (lv_at hl 4 rfl) ?_
              refine x_zlt (a := y) (tgt := 103) hx hb dP_countSums_45 (by decide) (by omega) ?_
              have loop4 : ∀ (fu : Nat) (r : Nat), (r ≤ n) → (r ≤ y) → n - r < fu → ∀ ls : Array Slot, lv_has ls 8 [(0, .ref a), (1, .int (nI m0)), (2, .int (nI n)), (3, .int (nI (k + 1))), (4, .int (nI y)), (5, .long (lN (sgS (cG n k) y r))), (7, .int (nI (r + 1)))] → W p l e (headSpec wP_countSums ({ frames := 0, cells := 0, slots := 0, locals := 0 })).room s m ([.ref a, .int (nI m0), .int (nI n)] : List Value).toArray below meth c H locs 0 0 (MQ below (q_W (fun v H => ∃ S : Nat → Int64, Pst D A s.heap none [(a, .inr (2, [.long sd, .ref (a + 1), .ref (a + 2), .int (nI nT), .int (nI nS), .ref (a + 3), .ref (a + 4)])), ((a + 4), .inl (κ 2, 131, .inr (.inl S)))] v H ∧ ∀ x, x < 131 → S x = lN (cG n m0 x))) ([.ref a, .int (nI m0), .int (nI n)] : List Value).toArray s 0 0 A) (F0 m 54 ls []) := by
                intro fu
                induction fu with
                | zero =>
                  intro r hr1 hr2 hmu
                  exact absurd hmu (Nat.not_lt_zero _)
                | succ fu ih4 =>
                  intro r hr1 hr2 hmu ls hl
                  refine lv_iload hx hb dP_countSums_54 (lv_at hl 6 rfl) ?_
                  refine lv_iload_n hx hb dP_countSums_56 rfl (lv_at hl 2 rfl) ?_
                  refine x_cgt (a := r + 1) (b := n) (tgt := 88) hx hb dP_countSums_57 (by decide) (by omega) (by omega) (fun g1 => ?_) (fun g1 => ?_)
                  · refine lv_aload_n hx hb dP_countSums_88 rfl (lv_at hl 0 rfl) ?_
                    refine va_get (D := D) (ci := 2) (v := .ref (a + 4)) (C := RP) (T := FP) (N := 7) hx hb hT inP hown hK hP 0 rfl rfl 6 (by decide) (hT _ kP25) (fun _ h9 => h9) rfl dP_countSums_89 ?_
                    refine lv_iload hx hb dP_countSums_92 (lv_at hl 4 rfl) ?_
                    refine lv_lload hx hb dP_countSums_94 (lv_at hl 5 rfl) ?_
                    refine x_topl (y := lN (cG n (k + 1) y)) (by rw [cG_step, show min n y = r by omega]) ?_
                    refine x_last hx hb hK hP hD hS 1 2 (j := y) rfl rfl (by omega) (by decide) dP_countSums_96 (fun H locs hP hD hS => ?_)
                    have hP : va_P D vwCl [(a, .inr (2, [.long sd, .ref (a + 1), .ref (a + 2), .int (nI nT), .int (nI nS), .ref (a + 3), .ref (a + 4)])), ((a + 4), .inl (κ 2, 131, .inr (.inl (vp_updL S y (lN (cG n (k + 1) y))))))] H := hP
                    have hD : va_D A [(a, .inr (2, [.long sd, .ref (a + 1), .ref (a + 2), .int (nI nT), .int (nI nS), .ref (a + 3), .ref (a + 4)])), ((a + 4), .inl (κ 2, 131, .inr (.inl (vp_updL S y (lN (cG n (k + 1) y))))))] := hD
                    refine lv_iinc (v := nI y - 1) (lv' := [(4, .int (nI y - 1)), (0, .ref a), (1, .int (nI m0)), (2, .int (nI n)), (3, .int (nI (k + 1))), (5, .long (lN (sgS (cG n k) y r))), (7, .int (nI (r + 1)))]) hx hb dP_countSums_97 hl (k := 4) rfl (addm1 _) (by decide) rfl (fun ls hl => ?_)
                    refine lv_goto (tgt := 43) hx hb dP_countSums_100 (by decide) ?_
                    exact ih3 y _ _ _ (by omega) (sw_put (g := cG n k) (g2 := cG n (k + 1)) hSx) hP hD hS (by omega) ls (lv_sub hl [1, 2, 3, 4, 0] rfl)
                  · refine lv_iload hx hb dP_countSums_60 (lv_at hl 6 rfl) ?_
                    refine lv_iload hx hb dP_countSums_62 (lv_at hl 4 rfl) ?_
                    refine x_cgt (a := r + 1) (b := y) (tgt := 88) hx hb dP_countSums_64 (by decide) (by omega) (by omega) (fun g2 => ?_) (fun g2 => ?_)
                    · refine lv_aload_n hx hb dP_countSums_88 rfl (lv_at hl 0 rfl) ?_
                      refine va_get (D := D) (ci := 2) (v := .ref (a + 4)) (C := RP) (T := FP) (N := 7) hx hb hT inP hown hK hP 0 rfl rfl 6 (by decide) (hT _ kP25) (fun _ h9 => h9) rfl dP_countSums_89 ?_
                      refine lv_iload hx hb dP_countSums_92 (lv_at hl 4 rfl) ?_
                      refine lv_lload hx hb dP_countSums_94 (lv_at hl 5 rfl) ?_
                      refine x_topl (y := lN (cG n (k + 1) y)) (by rw [cG_step, show min n y = r by omega]) ?_
                      refine x_last hx hb hK hP hD hS 1 2 (j := y) rfl rfl (by omega) (by decide) dP_countSums_96 (fun H locs hP hD hS => ?_)
                      have hP : va_P D vwCl [(a, .inr (2, [.long sd, .ref (a + 1), .ref (a + 2), .int (nI nT), .int (nI nS), .ref (a + 3), .ref (a + 4)])), ((a + 4), .inl (κ 2, 131, .inr (.inl (vp_updL S y (lN (cG n (k + 1) y))))))] H := hP
                      have hD : va_D A [(a, .inr (2, [.long sd, .ref (a + 1), .ref (a + 2), .int (nI nT), .int (nI nS), .ref (a + 3), .ref (a + 4)])), ((a + 4), .inl (κ 2, 131, .inr (.inl (vp_updL S y (lN (cG n (k + 1) y))))))] := hD
                      refine lv_iinc (v := nI y - 1) (lv' := [(4, .int (nI y - 1)), (0, .ref a), (1, .int (nI m0)), (2, .int (nI n)), (3, .int (nI (k + 1))), (5, .long (lN (sgS (cG n k) y r))), (7, .int (nI (r + 1)))]) hx hb dP_countSums_97 hl (k := 4) rfl (addm1 _) (by decide) rfl (fun ls hl => ?_)
                      refine lv_goto (tgt := 43) hx hb dP_countSums_100 (by decide) ?_
                      exact ih3 y _ _ _ (by omega) (sw_put (g := cG n k) (g2 := cG n (k + 1)) hSx) hP hD hS (by omega) ls (lv_sub hl [1, 2, 3, 4, 0] rfl)
                    · refine lv_lload hx hb dP_countSums_67 (lv_at hl 5 rfl) ?_
                      refine lv_aload_n hx hb dP_countSums_69 rfl (lv_at hl 0 rfl) ?_
                      refine va_get (D := D) (ci := 2) (v := .ref (a + 4)) (C := RP) (T := FP) (N := 7) hx hb hT inP hown hK hP 0 rfl rfl 6 (by decide) (hT _ kP25) (fun _ h9 => h9) rfl dP_countSums_70 ?_
                      refine lv_iload hx hb dP_countSums_73 (lv_at hl 4 rfl) ?_
                      refine lv_iload hx hb dP_countSums_75 (lv_at hl 6 rfl) ?_
                      refine x_isub (v := nI (y - (r + 1))) hx hb dP_countSums_77 (pk_sub (by omega)) ?_
                      refine x_lald hx hb hK hP 1 2 (j := y - (r + 1)) (v := S (y - (r + 1))) rfl rfl (by omega) (by decide) (rfl) dP_countSums_78 ?_
                      refine x_ladd (v := (lN (sgS (cG n k) y r)) + (S (y - (r + 1)))) hx hb dP_countSums_79 (rfl) ?_
                      refine x_topl (y := lN (sgS (cG n k) y (r + 1))) (by rw [hSx _ (by omega), if_neg (by omega), lN_add]; rfl) ?_
                      refine lv_lstore (lv' := [(5, .long (lN (sgS (cG n k) y (r + 1)))), (0, .ref a), (1, .int (nI m0)), (2, .int (nI n)), (3, .int (nI (k + 1))), (4, .int (nI y)), (7, .int (nI (r + 1)))]) hx hb dP_countSums_80 hl (by decide) rfl (fun ls hl => ?_)
                      refine lv_iinc (v := nI (r + 1 + 1)) (lv' := [(7, .int (nI (r + 1 + 1))), (5, .long (lN (sgS (cG n k) y (r + 1)))), (0, .ref a), (1, .int (nI m0)), (2, .int (nI n)), (3, .int (nI (k + 1))), (4, .int (nI y))]) hx hb dP_countSums_82 hl (k := 6) rfl (nI_add _ _) (by decide) rfl (fun ls hl => ?_)
                      refine lv_goto (tgt := 54) hx hb dP_countSums_85 (by decide) ?_
                      exact ih4 (r + 1) (by omega) (by omega) (by omega) ls (lv_sub hl [2, 3, 4, 5, 6, 1, 0] rfl)
              refine lv_lconst (v := lN 0) hx hb dP_countSums_48 (by decide) ?_
              refine lv_lstore (lv' := [(5, .long (lN 0)), (0, .ref a), (1, .int (nI m0)), (2, .int (nI n)), (3, .int (nI (k + 1))), (4, .int (nI y))]) hx hb dP_countSums_49 hl (by decide) rfl (fun ls hl => ?_)
              refine lv_iconst (v := nI 1) hx hb dP_countSums_51 (by decide) ?_
              refine lv_istore (lv' := [(7, .int (nI 1)), (5, .long (lN 0)), (0, .ref a), (1, .int (nI m0)), (2, .int (nI n)), (3, .int (nI (k + 1))), (4, .int (nI y))]) hx hb dP_countSums_52 hl (by decide) rfl (fun ls hl => ?_)
              exact loop4 (n + 1) 0 (by omega) (by omega) (by omega) ls (lv_sub hl [2, 3, 4, 5, 6, 1, 0] rfl)
        refine lv_iload_n hx hb dP_countSums_38 rfl (lv_at hl 3 rfl) ?_
        refine lv_iload_n hx hb dP_countSums_39 rfl (lv_at hl 2 rfl) ?_
        refine x_imul (v := nI ((k + 1) * n)) hx hb dP_countSums_40 (pk_mul _ _) ?_
        refine x_topi (y := nI ((k + 1) * n + 1) - 1) ((nI_pred _).symm) ?_
        refine lv_istore (lv' := [(4, .int (nI ((k + 1) * n + 1) - 1)), (0, .ref a), (1, .int (nI m0)), (2, .int (nI n)), (3, .int (nI (k + 1)))]) hx hb dP_countSums_41 hl (by decide) rfl (fun ls hl => ?_)
        exact loop3 ((k + 1) * n + 2) ((k + 1) * n + 1) S _ _ (by omega) (sw_3 hSx) hP hD hS (by omega) ls (lv_sub hl [1, 2, 3, 4, 0] rfl)
  have loop1 : ∀ (fu : Nat) (i : Nat) (S : Nat → Int64) (H : Heap) (locs : List Loc), (i ≤ 131) → (∀ x, x < i → S x = lN 0) → va_P D vwCl [(a, .inr (2, [.long sd, .ref (a + 1), .ref (a + 2), .int (nI nT), .int (nI nS), .ref (a + 3), .ref (a + 4)])), ((a + 4), .inl (κ 2, 131, .inr (.inl S)))] H → va_D A [(a, .inr (2, [.long sd, .ref (a + 1), .ref (a + 2), .int (nI nT), .int (nI nS), .ref (a + 3), .ref (a + 4)])), ((a + 4), .inl (κ 2, 131, .inr (.inl S)))] → va_S A s.heap H locs → 131 - i < fu → ∀ ls : Array Slot, lv_has ls 8 [(0, .ref a), (1, .int (nI m0)), (2, .int (nI n)), (3, .int (nI i))] → W p l e (headSpec wP_countSums ({ frames := 0, cells := 0, slots := 0, locals := 0 })).room s m ([.ref a, .int (nI m0), .int (nI n)] : List Value).toArray below meth c H locs 0 0 (MQ below (q_W (fun v H => ∃ S : Nat → Int64, Pst D A s.heap none [(a, .inr (2, [.long sd, .ref (a + 1), .ref (a + 2), .int (nI nT), .int (nI nS), .ref (a + 3), .ref (a + 4)])), ((a + 4), .inl (κ 2, 131, .inr (.inl S)))] v H ∧ ∀ x, x < 131 → S x = lN (cG n m0 x))) ([.ref a, .int (nI m0), .int (nI n)] : List Value).toArray s 0 0 A) (F0 m 2 ls []) := by
    intro fu
    induction fu with
    | zero =>
      intro i S H locs hi hSx hP hD hS hmu
      exact absurd hmu (Nat.not_lt_zero _)
    | succ fu ih =>
      intro i S H locs hi hSx hP hD hS hmu ls hl
      refine lv_iload_n hx hb dP_countSums_2 rfl (lv_at hl 3 rfl) ?_
      refine lv_aload_n hx hb dP_countSums_3 rfl (lv_at hl 0 rfl) ?_
      refine va_get (D := D) (ci := 2) (v := .ref (a + 4)) (C := RP) (T := FP) (N := 7) hx hb hT inP hown hK hP 0 rfl rfl 6 (by decide) (hT _ kP25) (fun _ h9 => h9) rfl dP_countSums_4 ?_
      refine va_alen hx hb hK hP 1 2 (v := nI 131) rfl rfl rfl dP_countSums_7 ?_
      refine x_cge (a := i) (b := 131) (tgt := 24) hx hb dP_countSums_8 (by decide) (by omega) (by omega) (fun h3 => ?_) (fun h3 => ?_)
      · have hS1 : ∀ x, x < 131 → S x = lN 0 := fun x hx => hSx x (by omega)
        refine lv_aload_n hx hb dP_countSums_24 rfl (lv_at hl 0 rfl) ?_
        refine va_get (D := D) (ci := 2) (v := .ref (a + 4)) (C := RP) (T := FP) (N := 7) hx hb hT inP hown hK hP 0 rfl rfl 6 (by decide) (hT _ kP25) (fun _ h9 => h9) rfl dP_countSums_25 ?_
        refine lv_iconst (v := nI 0) hx hb dP_countSums_28 (by decide) ?_
        refine lv_lconst (v := lN 1) hx hb dP_countSums_29 (by decide) ?_
        refine x_last hx hb hK hP hD hS 1 2 (j := 0) rfl rfl (by omega) (by decide) dP_countSums_30 (fun H locs hP hD hS => ?_)
        have hP : va_P D vwCl [(a, .inr (2, [.long sd, .ref (a + 1), .ref (a + 2), .int (nI nT), .int (nI nS), .ref (a + 3), .ref (a + 4)])), ((a + 4), .inl (κ 2, 131, .inr (.inl (vp_updL S 0 (lN 1)))))] H := hP
        have hD : va_D A [(a, .inr (2, [.long sd, .ref (a + 1), .ref (a + 2), .int (nI nT), .int (nI nS), .ref (a + 3), .ref (a + 4)])), ((a + 4), .inl (κ 2, 131, .inr (.inl (vp_updL S 0 (lN 1)))))] := hD
        refine lv_iconst (v := nI 1) hx hb dP_countSums_31 (by decide) ?_
        refine lv_istore_n (lv' := [(3, .int (nI 1)), (0, .ref a), (1, .int (nI m0)), (2, .int (nI n))]) hx hb dP_countSums_32 rfl hl (by decide) rfl (fun ls hl => ?_)
        exact loop2 27 0 _ _ _ (by omega) (sw_0 hS1) hP hD hS (by omega) ls (lv_sub hl [1, 2, 3, 0] rfl)
      · refine lv_aload_n hx hb dP_countSums_11 rfl (lv_at hl 0 rfl) ?_
        refine va_get (D := D) (ci := 2) (v := .ref (a + 4)) (C := RP) (T := FP) (N := 7) hx hb hT inP hown hK hP 0 rfl rfl 6 (by decide) (hT _ kP25) (fun _ h9 => h9) rfl dP_countSums_12 ?_
        refine lv_iload_n hx hb dP_countSums_15 rfl (lv_at hl 3 rfl) ?_
        refine lv_lconst (v := lN 0) hx hb dP_countSums_16 (by decide) ?_
        refine x_last hx hb hK hP hD hS 1 2 (j := i) rfl rfl (by omega) (by decide) dP_countSums_17 (fun H locs hP hD hS => ?_)
        have hP : va_P D vwCl [(a, .inr (2, [.long sd, .ref (a + 1), .ref (a + 2), .int (nI nT), .int (nI nS), .ref (a + 3), .ref (a + 4)])), ((a + 4), .inl (κ 2, 131, .inr (.inl (vp_updL S i (lN 0)))))] H := hP
        have hD : va_D A [(a, .inr (2, [.long sd, .ref (a + 1), .ref (a + 2), .int (nI nT), .int (nI nS), .ref (a + 3), .ref (a + 4)])), ((a + 4), .inl (κ 2, 131, .inr (.inl (vp_updL S i (lN 0)))))] := hD
        refine lv_iinc (v := nI (i + 1)) (lv' := [(3, .int (nI (i + 1))), (0, .ref a), (1, .int (nI m0)), (2, .int (nI n))]) hx hb dP_countSums_18 hl (k := 3) rfl (nI_add _ _) (by decide) rfl (fun ls hl => ?_)
        refine lv_goto (tgt := 2) hx hb dP_countSums_21 (by decide) ?_
        exact ih (i + 1) _ _ _ (by omega) (sw_z hSx) hP hD hS (by omega) ls (lv_sub hl [1, 2, 3, 0] rfl)
  refine lv_iconst (v := nI 0) hx hb dP_countSums_0 (by decide) ?_
  refine lv_istore_n (lv' := [(3, .int (nI 0)), (0, .ref a), (1, .int (nI m0)), (2, .int (nI n))]) hx hb dP_countSums_1 rfl hl (by decide) rfl (fun ls hl => ?_)
  exact loop1 132 0 Sz _ _ (by omega) (fun x hx => absurd hx (Nat.not_lt_zero _)) hP hD hS (by omega) ls (lv_sub hl [1, 2, 3, 0] rfl)
end
section
theorem RC_sw {D : va_G} {κ : Nat → ClassId} {base a : Nat} {sd : Int64} {nT nS : Nat} {bT bS : Nat → Nat} {td fd : Nat → Nat → Nat} {ta tr kd sp ca cr : Nat → Nat} {od aw rk : Nat → Nat → Nat} {H0 H : Heap} {A : Nat → Prop} {S : Nat → Int64} (hR : RC D κ base a sd nT nS bT bS td fd ta tr kd sp ca cr od aw rk H0) {j : Nat} (hj : j < nS) (hAq : ∀ x9, A x9 → (x9 = a ∨ x9 = (a + 4) ∨ x9 = (bS j)) ∨ H0.size ≤ x9)
    (hsz : H0.size ≤ H.size) (hk : ∀ q : Nat, q < H0.size → ¬ A q → H[q]? = H0[q]?) (hP : va_P D vwCl [(a, .inr (2, [.long sd, .ref (a + 1), .ref (a + 2), .int (nI nT), .int (nI nS), .ref (a + 3), .ref (a + 4)])), ((a + 4), .inl (κ 2, 131, .inr (.inl S))), ((bS j), .inr (1, [.int (nI (kd j)), .int (nI (sp j)), .ref ((bS j) + 1), .ref ((bS j) + 2), .ref ((bS j) + 3), .int (nI (ca j)), .int (nI (cr j))]))] H) : RC D κ base a sd nT nS bT bS td fd ta tr kd sp ca cr od aw rk H := by
  obtain ⟨⟨fT, fS, mx, sw, hP0, hfT, hfS⟩, hTas, hTes, ⟨hnT, hnS, hba, hah⟩, hb1, hb2, hs1, hs2, hs3, hs4, hs5⟩ := hR
  have b2 := hs2 j hj
  refine ⟨⟨fT, fS, mx, S, ?_, hfT, hfS⟩, fun i hi => keepW hk (hTas i hi) ?_, fun j' hj' => ?_, ⟨⟨hnT, hnS, hba, by omega⟩, hb1, hb2, fun i hi => ?_, fun j hj => ?_, hs3, hs4, hs5⟩⟩
  · have h1 := hP.sub (ws' := [(a, .inr (2, [.long sd, .ref (a + 1), .ref (a + 2), .int (nI nT), .int (nI nS), .ref (a + 3), .ref (a + 4)]))]) [0] rfl
    have h2 := keepW hk (hP0.sub (ws' := [((a + 1), .inl (κ 3, 26, .inr (.inr (.inr (.inr fT))))), ((a + 2), .inl (κ 4, 40, .inr (.inr (.inr (.inr fS))))), ((a + 3), .inl (κ 0, 120, .inl mx))]) [1, 2, 3] rfl) (by
      simp only [List.map, List.nodup_cons, List.mem_cons, List.not_mem_nil, or_false, not_or, List.nodup_nil, and_true, not_false_eq_true, List.forall_mem_cons, forall_eq_or_imp, forall_eq]
      refine ⟨fun q => ?_, fun q => ?_, fun q => ?_⟩ <;> (have := hAq _ q; omega))
    have h3 := hP.sub (ws' := [((a + 4), .inl (κ 2, 131, .inr (.inl S)))]) [1] rfl
    exact (h1.app h2).app h3
  · simp only [List.map, List.nodup_cons, List.mem_cons, List.not_mem_nil, or_false, not_or, List.nodup_nil, and_true, not_false_eq_true, List.forall_mem_cons, forall_eq_or_imp, forall_eq]
    have b1 := hs1 i hi
    have b3 := hs5 i j hi hj
    refine ⟨fun q => ?_, fun q => ?_, fun q => ?_⟩ <;> (have := hAq _ q; omega)
  · by_cases e : j' = j
    · subst e
      have h3 := hP.sub (ws' := [((bS j'), .inr (1, [.int (nI (kd j')), .int (nI (sp j')), .ref ((bS j') + 1), .ref ((bS j') + 2), .ref ((bS j') + 3), .int (nI (ca j')), .int (nI (cr j'))]))]) [2] rfl
      have h5 := keepW hk ((hTes j' hj').sub (ws' := [(((bS j') + 1), .inl (κ 0, 26, .inl (fun i => nI (od j' i)))), (((bS j') + 2), .inl (κ 1, 26, .inl (fun i => nI (aw j' i)))), (((bS j') + 3), .inl (κ 0, 130, .inl (fun x => nI (rk j' x))))]) [1, 2, 3] rfl) (by
        simp only [List.map, List.nodup_cons, List.mem_cons, List.not_mem_nil, or_false, not_or, List.nodup_nil, and_true, not_false_eq_true, List.forall_mem_cons, forall_eq_or_imp, forall_eq]
        refine ⟨fun q => ?_, fun q => ?_, fun q => ?_⟩ <;> (have := hAq _ q; omega))
      exact h3.app h5
    · refine keepW hk (hTes j' hj') ?_
      simp only [List.map, List.nodup_cons, List.mem_cons, List.not_mem_nil, or_false, not_or, List.nodup_nil, and_true, not_false_eq_true, List.forall_mem_cons, forall_eq_or_imp, forall_eq]
      have c2 := hs2 j' hj'
      have c4 : bS j + 4 ≤ bS j' ∨ bS j' + 4 ≤ bS j := by
        rcases Nat.lt_or_gt_of_ne e with q | q
        · exact Or.inr (hs4 j' j q hj)
        · exact Or.inl (hs4 j j' q hj')
      refine ⟨fun q => ?_, fun q => ?_, fun q => ?_, fun q => ?_⟩ <;> (have := hAq _ q; omega)
  · have := hs1 i hi; omega
  · have := hs2 j hj; omega
set_option maxHeartbeats 400000 in
set_option maxRecDepth 100000 in
theorem c_P_waysAsFarAs (l : Launch) (D : va_G) (κ : Nat → ClassId) (base : Nat) (H0 : Heap) {a nT nS : Nat} {sd : Int64} {Sz : Nat → Int64} (sum m0 n : Nat) (hs0 : sum ≤ 130) (hm : m0 ≤ 26) (hn : n ≤ 5) (hn1 : 1 ≤ n) (hP : va_P D vwCl [(a, .inr (2, [.long sd, .ref (a + 1), .ref (a + 2), .int (nI nT), .int (nI nS), .ref (a + 3), .ref (a + 4)])), ((a + 4), .inl (κ 2, 131, .inr (.inl Sz)))] H0) (hD0 : va_D (fun q => base ≤ q) [(a, .inr (2, [.long sd, .ref (a + 1), .ref (a + 2), .int (nI nT), .int (nI nS), .ref (a + 3), .ref (a + 4)])), ((a + 4), .inl (κ 2, 131, .inr (.inl Sz)))]) (hbs : base ≤ H0.size)  : Met l yP_waysAsFarAs wP_waysAsFarAs ({ frames := 1, cells := 0, slots := 0, locals := 27 }) (Pq D κ base [.ref a, .int (nI sum), .int (nI m0), .int (nI n)] H0) (q_W (fun v H => ∃ S : Nat → Int64, Pst D (va_A [(a, .inr (2, [.long sd, .ref (a + 1), .ref (a + 2), .int (nI nT), .int (nI nS), .ref (a + 3), .ref (a + 4)])), ((a + 4), .inl (κ 2, 131, .inr (.inl Sz)))] H0.size) H0 (some (.long (lN (wfC sum m0 n)))) [(a, .inr (2, [.long sd, .ref (a + 1), .ref (a + 2), .int (nI nT), .int (nI nS), .ref (a + 3), .ref (a + 4)])), ((a + 4), .inl (κ 2, 131, .inr (.inl S)))] v H)) 0 0 (va_A [(a, .inr (2, [.long sd, .ref (a + 1), .ref (a + 2), .int (nI nT), .int (nI nS), .ref (a + 3), .ref (a + 4)])), ((a + 4), .inl (κ 2, 131, .inr (.inl Sz)))] H0.size) := by
  refine Met.ofW (cc := bP_waysAsFarAs) (maxL := 9) (ret := (some FieldType.long)) (by decide) rfl ?_
  intro p e s m args below meth c s₁ B hml hv
  obtain ⟨rfl, hH, hE⟩ := hv
  subst hH
  have hx := B.exec
  have hb := B.bytes
  have hr := B.returns
  have hT : ∀ w ∈ TT, w.before _ s = true := fun w h => atoms_spec (ws := wP_waysAsFarAs) B.pre w (List.mem_cons_of_mem _ h)
  have hown : s.vm.findClass "TasterPanels" = some m.cls := findClass_of_methodNamed B.named
  have hlocks := B.notSynchronized
  have hK := hE.1
  have hD := hD0.self (sz := s.heap.size)
  have hAb : ∀ x9, va_A [(a, .inr (2, [.long sd, .ref (a + 1), .ref (a + 2), .int (nI nT), .int (nI nS), .ref (a + 3), .ref (a + 4)])), ((a + 4), .inl (κ 2, 131, .inr (.inl Sz)))] s.heap.size x9 → base ≤ x9 := fun x9 h => by rcases h with ⟨k, e, h⟩ | h; exact hD0.2 k _ h; exact Nat.le_trans hbs h
  generalize hAe : va_A [(a, .inr (2, [.long sd, .ref (a + 1), .ref (a + 2), .int (nI nT), .int (nI nS), .ref (a + 3), .ref (a + 4)])), ((a + 4), .inl (κ 2, 131, .inr (.inl Sz)))] s.heap.size = A at hD hAb ⊢
  have hA : ∀ x9, s.heap.size ≤ x9 → A x9 := fun x9 h => by rw [← hAe]; exact Or.inr h
  have hS : va_S A s.heap s.heap [] := va_S.rf
  have hl := lv_entry ([.ref a, .int (nI sum), .int (nI m0), .int (nI n)]) (n := 9) (Nat.le_of_ble_eq_true rfl)
  rw [lg_entry_eq]
  generalize (lg_sl ([.ref a, .int (nI sum), .int (nI m0), .int (nI n)]) ++ List.replicate (9 - (lg_sl ([.ref a, .int (nI sum), .int (nI m0), .int (nI n)])).length) Slot.unset).toArray = ls at hl ⊢
  have hl : lv_has ls 9 [(0, .ref a), (1, .int (nI sum)), (2, .int (nI m0)), (3, .int (nI n))] := hl
  have hb9 : m0 * n ≤ 130 := by have := Nat.mul_le_mul hm hn; omega
  have hb8 : m0 * (n + 1) ≤ 156 := by have := Nat.mul_le_mul hm (show n + 1 ≤ 6 by omega); omega
  have hb7 : m0 ≤ m0 * n := Nat.le_mul_of_pos_right _ hn1
  refine lv_aload_n hx hb dP_waysAsFarAs_0 rfl (lv_at hl 0 rfl) ?_
  refine lv_iload_n hx hb dP_waysAsFarAs_1 rfl (lv_at hl 2 rfl) ?_
  refine lv_iload_n hx hb dP_waysAsFarAs_2 rfl (lv_at hl 3 rfl) ?_
  have hFc := va_free (wc := [(a, .inr (2, [.long sd, .ref (a + 1), .ref (a + 2), .int (nI nT), .int (nI nS), .ref (a + 3), .ref (a + 4)])), ((a + 4), .inl (κ 2, 131, .inr (.inl Sz)))]) hD hS hA [0, 1] rfl
  have hPc := hP.sub (ws' := [(a, .inr (2, [.long sd, .ref (a + 1), .ref (a + 2), .int (nI nT), .int (nI nS), .ref (a + 3), .ref (a + 4)])), ((a + 4), .inl (κ 2, 131, .inr (.inl Sz)))]) [0, 1] rfl
  have hDc := (hD.sub (ws' := [(a, .inr (2, [.long sd, .ref (a + 1), .ref (a + 2), .int (nI nT), .int (nI nS), .ref (a + 3), .ref (a + 4)])), ((a + 4), .inl (κ 2, 131, .inr (.inl Sz)))]) [0, 1] (by decide) rfl).weaken (fun _ _ _ h => hAb _ h)
  have hbc : base ≤ s.heap.size := Nat.le_trans hbs hS.1
  refine x_callW (va_runV (As := [.int (nI m0), .int (nI n)]) (rest := []) ⟨hx, hb, hml, hown, hT⟩ (c_P_countSums l D κ base s.heap m0 n hm hn hPc hDc hbc) (cwV 2 hT (TT_V kP200 kiP_countSums ksP_countSums knP kcP_countSums) rfl rfl rfl (by decide +kernel) ⟨Nat.le_of_ble_eq_true rfl, Nat.le_of_ble_eq_true rfl⟩) (pcV hE hS hAb (va_recv hK hP (ci := 2) (q0 := 0) rfl rfl)) rfl rfl hl.1 rfl (lv_room (Nat.le_of_ble_eq_true rfl)) dP_waysAsFarAs_3 ⟨Nat.le_of_ble_eq_true rfl, Nat.le_of_ble_eq_true rfl⟩) hS (fun q h => hFc q h) (fun v H1 h => by obtain ⟨S9, h9, -⟩ := h; exact Pst.fr hFc h9) (fun v H locs hpost hS => ?_)
  obtain ⟨S2, ⟨rfl, hP1, hD1, hz1, hk1⟩, hS2⟩ := hpost
  obtain ⟨hP, hD⟩ := va_join (wr := []) (w1 := [(a, .inr (2, [.long sd, .ref (a + 1), .ref (a + 2), .int (nI nT), .int (nI nS), .ref (a + 3), .ref (a + 4)])), ((a + 4), .inl (κ 2, 131, .inr (.inl S2)))]) hP hD [0, 1] [] rfl rfl (by decide) (by decide) hk1 hFc hP1 hD1
  have hP : va_P D vwCl [(a, .inr (2, [.long sd, .ref (a + 1), .ref (a + 2), .int (nI nT), .int (nI nS), .ref (a + 3), .ref (a + 4)])), ((a + 4), .inl (κ 2, 131, .inr (.inl S2)))] H := hP
  have hD : va_D A [(a, .inr (2, [.long sd, .ref (a + 1), .ref (a + 2), .int (nI nT), .int (nI nS), .ref (a + 3), .ref (a + 4)])), ((a + 4), .inl (κ 2, 131, .inr (.inl S2)))] := hD
  refine W.eq (g2 := F0 m 6 ls []) rfl ?_
  have hfar : adist (2 * sum) (m0 * (n + 1)) ≤ 260 := by unfold adist; split <;> omega
  have loop : ∀ (fu : Nat) (k : Nat), (k ≤ m0 * n + 1 - m0) → m0 * n + 1 - m0 - k < fu → ∀ ls : Array Slot, lv_has ls 9 [(0, .ref a), (2, .int (nI m0)), (3, .int (nI n)), (4, .int (nI (m0 * (n + 1)))), (5, .int (nI (adist (2 * sum) (m0 * (n + 1))))), (6, .long (lN (wfA (cG n m0) (m0 * (n + 1)) (adist (2 * sum) (m0 * (n + 1))) m0 k))), (8, .int (nI (m0 + k)))] → W p l e (headSpec wP_waysAsFarAs ({ frames := 1, cells := 0, slots := 0, locals := 27 })).room s m ([.ref a, .int (nI sum), .int (nI m0), .int (nI n)] : List Value).toArray below meth c H locs (0 + 0) (0 + 0) (MQ below (q_W (fun v H => ∃ S : Nat → Int64, Pst D A s.heap (some (.long (lN (wfC sum m0 n)))) [(a, .inr (2, [.long sd, .ref (a + 1), .ref (a + 2), .int (nI nT), .int (nI nS), .ref (a + 3), .ref (a + 4)])), ((a + 4), .inl (κ 2, 131, .inr (.inl S)))] v H)) ([.ref a, .int (nI sum), .int (nI m0), .int (nI n)] : List Value).toArray s 0 0 A) (F0 m 30 ls []) := by
    intro fu
    induction fu with
    | zero =>
      intro k hk hmu
      exact absurd hmu (Nat.not_lt_zero _)
    | succ fu ih =>
      intro k hk hmu ls hl
      refine lv_iload hx hb dP_waysAsFarAs_30 (lv_at hl 6 rfl) ?_
      refine lv_iload_n hx hb dP_waysAsFarAs_32 rfl (lv_at hl 1 rfl) ?_
      refine lv_iload_n hx hb dP_waysAsFarAs_33 rfl (lv_at hl 2 rfl) ?_
      refine x_imul (v := nI (m0 * n)) hx hb dP_waysAsFarAs_34 (pk_mul _ _) ?_
      refine x_cgt (a := m0 + k) (b := m0 * n) (tgt := 71) hx hb dP_waysAsFarAs_35 (by decide) (by omega) (by omega) (fun g1 => ?_) (fun g1 => ?_)
      · refine lv_lload hx hb dP_waysAsFarAs_71 (lv_at hl 5 rfl) ?_
        refine x_topl (y := lN (wfC sum m0 n)) (by rw [wfC, show k = m0 * n + 1 - m0 by omega]) ?_
        exact W.lret (v := lN (wfC sum m0 n)) hx hb hr (fun t ht hW => ⟨some (.long (lN (wfC sum m0 n))), rfl, by rw [ht]; exact ⟨S2, rfl, hP, hD, hS.1, hS.2.1⟩⟩) hS.2.2 dP_waysAsFarAs_73
      · refine lv_iconst (v := nI 2) hx hb dP_waysAsFarAs_38 (by decide) ?_
        refine lv_iload hx hb dP_waysAsFarAs_39 (lv_at hl 6 rfl) ?_
        refine x_imul (v := nI (2 * (m0 + k))) hx hb dP_waysAsFarAs_41 (pk_mul _ _) ?_
        refine lv_iload hx hb dP_waysAsFarAs_42 (lv_at hl 3 rfl) ?_
        refine x_isub (v := (nI (2 * (m0 + k))) - (nI (m0 * (n + 1)))) hx hb dP_waysAsFarAs_44 (rfl) ?_
        refine va_mabs hx hb (hml.trans hl.1.symm) hown (hT _ kP203) (hT _ kt_abs) (hT _ kn_math) (hT _ kc_abs') (Nat.le_of_ble_eq_true rfl) (Nat.le_of_ble_eq_true rfl) (Nat.le_of_ble_eq_true rfl) (Nat.le_of_ble_eq_true rfl) dP_waysAsFarAs_45 ?_
        refine x_topi (y := nI (adist (2 * (m0 + k)) (m0 * (n + 1)))) (absd (by omega) (by omega)) ?_
        have hd9 : adist (2 * (m0 + k)) (m0 * (n + 1)) ≤ 300 := by unfold adist; split <;> omega
        refine lv_iload hx hb dP_waysAsFarAs_48 (lv_at hl 4 rfl) ?_
        refine x_clt (a := adist (2 * (m0 + k)) (m0 * (n + 1))) (b := adist (2 * sum) (m0 * (n + 1))) (tgt := 65) hx hb dP_waysAsFarAs_50 (by decide) (by omega) (by omega) (fun g2 => ?_) (fun g2 => ?_)
        · have e9 : wfA (cG n m0) (m0 * (n + 1)) (adist (2 * sum) (m0 * (n + 1))) m0 (k + 1) = wfA (cG n m0) (m0 * (n + 1)) (adist (2 * sum) (m0 * (n + 1))) m0 k := by rw [wfA, if_neg (by omega), Nat.add_zero]
          rw [← e9] at hl
          refine lv_iinc (v := nI (m0 + k + 1)) (lv' := [(8, .int (nI (m0 + k + 1))), (0, .ref a), (2, .int (nI m0)), (3, .int (nI n)), (4, .int (nI (m0 * (n + 1)))), (5, .int (nI (adist (2 * sum) (m0 * (n + 1))))), (6, .long (lN (wfA (cG n m0) (m0 * (n + 1)) (adist (2 * sum) (m0 * (n + 1))) m0 (k + 1))))]) hx hb dP_waysAsFarAs_65 hl (k := 6) rfl (nI_add _ _) (by decide) rfl (fun ls hl => ?_)
          refine lv_goto (tgt := 30) hx hb dP_waysAsFarAs_68 (by decide) ?_
          exact ih (k + 1) (by omega) (by omega) ls (lv_sub hl [1, 2, 3, 4, 5, 6, 0] rfl)
        · refine lv_lload hx hb dP_waysAsFarAs_53 (lv_at hl 5 rfl) ?_
          refine lv_aload_n hx hb dP_waysAsFarAs_55 rfl (lv_at hl 0 rfl) ?_
          refine va_get (D := D) (ci := 2) (v := .ref (a + 4)) (C := RP) (T := FP) (N := 7) hx hb hT inP hown hK hP 0 rfl rfl 6 (by decide) (hT _ kP25) (fun _ h9 => h9) rfl dP_waysAsFarAs_56 ?_
          refine lv_iload hx hb dP_waysAsFarAs_59 (lv_at hl 6 rfl) ?_
          refine x_lald hx hb hK hP 1 2 (j := m0 + k) (v := S2 (m0 + k)) rfl rfl (by omega) (by decide) (rfl) dP_waysAsFarAs_61 ?_
          refine x_ladd (v := (lN (wfA (cG n m0) (m0 * (n + 1)) (adist (2 * sum) (m0 * (n + 1))) m0 k)) + (S2 (m0 + k))) hx hb dP_waysAsFarAs_62 (rfl) ?_
          refine x_topl (y := lN (wfA (cG n m0) (m0 * (n + 1)) (adist (2 * sum) (m0 * (n + 1))) m0 (k + 1))) (by rw [hS2 _ (by omega), lN_add, wfA, if_pos (by omega)]) ?_
          refine lv_lstore (lv' := [(6, .long (lN (wfA (cG n m0) (m0 * (n + 1)) (adist (2 * sum) (m0 * (n + 1))) m0 (k + 1)))), (0, .ref a), (2, .int (nI m0)), (3, .int (nI n)), (4, .int (nI (m0 * (n + 1)))), (5, .int (nI (adist (2 * sum) (m0 * (n + 1))))), (8, .int (nI (m0 + k)))]) hx hb dP_waysAsFarAs_63 hl (by decide) rfl (fun ls hl => ?_)
          refine lv_iinc (v := nI (m0 + k + 1)) (lv' := [(8, .int (nI (m0 + k + 1))), (6, .long (lN (wfA (cG n m0) (m0 * (n + 1)) (adist (2 * sum) (m0 * (n + 1))) m0 (k + 1)))), (0, .ref a), (2, .int (nI m0)), (3, .int (nI n)), (4, .int (nI (m0 * (n + 1)))), (5, .int (nI (adist (2 * sum) (m0 * (n + 1)))))]) hx hb dP_waysAsFarAs_65 hl (k := 6) rfl (nI_add _ _) (by decide) rfl (fun ls hl => ?_)
          refine lv_goto (tgt := 30) hx hb dP_waysAsFarAs_68 (by decide) ?_
          exact ih (k + 1) (by omega) (by omega) ls (lv_sub hl [2, 3, 4, 5, 6, 1, 0] rfl)
  refine lv_iload_n hx hb dP_waysAsFarAs_6 rfl (lv_at hl 2 rfl) ?_
  refine lv_iload_n hx hb dP_waysAsFarAs_7 rfl (lv_at hl 3 rfl) ?_
  refine lv_iconst (v := nI 1) hx hb dP_waysAsFarAs_8 (by decide) ?_
  refine x_iadd (v := nI (n + 1)) hx hb dP_waysAsFarAs_9 (nI_add _ _) ?_
  refine x_imul (v := nI (m0 * (n + 1))) hx hb dP_waysAsFarAs_10 (pk_mul _ _) ?_
  refine lv_istore (lv' := [(4, .int (nI (m0 * (n + 1)))), (0, .ref a), (1, .int (nI sum)), (2, .int (nI m0)), (3, .int (nI n))]) hx hb dP_waysAsFarAs_11 hl (by decide) rfl (fun ls hl => ?_)
  refine lv_iconst (v := nI 2) hx hb dP_waysAsFarAs_13 (by decide) ?_
  refine lv_iload_n hx hb dP_waysAsFarAs_14 rfl (lv_at hl 2 rfl) ?_
  refine x_imul (v := nI (2 * sum)) hx hb dP_waysAsFarAs_15 (pk_mul _ _) ?_
  refine lv_iload hx hb dP_waysAsFarAs_16 (lv_at hl 0 rfl) ?_
  refine x_isub (v := (nI (2 * sum)) - (nI (m0 * (n + 1)))) hx hb dP_waysAsFarAs_18 (rfl) ?_
  refine va_mabs hx hb (hml.trans hl.1.symm) hown (hT _ kP203) (hT _ kt_abs) (hT _ kn_math) (hT _ kc_abs') (Nat.le_of_ble_eq_true rfl) (Nat.le_of_ble_eq_true rfl) (Nat.le_of_ble_eq_true rfl) (Nat.le_of_ble_eq_true rfl) dP_waysAsFarAs_19 ?_
  refine x_topi (y := nI (adist (2 * sum) (m0 * (n + 1)))) (absd (by omega) (by omega)) ?_
  refine lv_istore (lv' := [(5, .int (nI (adist (2 * sum) (m0 * (n + 1))))), (4, .int (nI (m0 * (n + 1)))), (0, .ref a), (1, .int (nI sum)), (2, .int (nI m0)), (3, .int (nI n))]) hx hb dP_waysAsFarAs_22 hl (by decide) rfl (fun ls hl => ?_)
  refine lv_lconst (v := lN 0) hx hb dP_waysAsFarAs_24 (by decide) ?_
  refine lv_lstore (lv' := [(6, .long (lN 0)), (5, .int (nI (adist (2 * sum) (m0 * (n + 1))))), (4, .int (nI (m0 * (n + 1)))), (0, .ref a), (1, .int (nI sum)), (2, .int (nI m0)), (3, .int (nI n))]) hx hb dP_waysAsFarAs_25 hl (by decide) rfl (fun ls hl => ?_)
  refine lv_iload_n hx hb dP_waysAsFarAs_27 rfl (lv_at hl 5 rfl) ?_
  refine x_topn (b := m0 + 0) (by omega) ?_
  refine lv_istore (lv' := [(8, .int (nI (m0 + 0))), (6, .long (lN 0)), (5, .int (nI (adist (2 * sum) (m0 * (n + 1))))), (4, .int (nI (m0 * (n + 1)))), (0, .ref a), (1, .int (nI sum)), (2, .int (nI m0)), (3, .int (nI n))]) hx hb dP_waysAsFarAs_28 hl (by decide) rfl (fun ls hl => ?_)
  exact loop (m0 * n + 2) 0 (by omega) (by omega) ls (lv_sub hl [4, 6, 7, 3, 2, 1, 0] rfl)
theorem rkAll_of {f : Nat → Nat} {n i : Nat} (h : ∀ k, k < n → ¬ f (i * 5 + k) = 0) : rkAll f n i = true := decide_eq_true h
set_option maxHeartbeats 400000 in
set_option maxRecDepth 100000 in
theorem c_P_permuted (l : Launch) (D : va_G) (κ : Nat → ClassId) (base : Nat) (H0 : Heap) {a : Nat} {sd : Int64} {nT nS : Nat} {bT bS : Nat → Nat} {td fd : Nat → Nat → Nat} {ta tr kd sp ca cr : Nat → Nat} {od aw rk : Nat → Nat → Nat} (hR : RC D κ base a sd nT nS bT bS td fd ta tr kd sp ca cr od aw rk H0) (x y : Int32) (r : Int64) (p0 : noS nS x → r = -1) (p1 : ∀ j, j < nS → x = nI j → ¬ kd j = 3 → r = -1) (p2 : (¬ y = 0 ∧ ¬ y = 1) → r = -1) (p3 : ∀ j, j < nS → x = nI j → rkC (rk j) (sp j) 26 = 0 → r = -1) (p4 : ∀ j p, j < nS → x = nI j → kd j = 3 → p < 2 → y = nI p → ¬ rkC (rk j) (sp j) 26 = 0 → r = lN (rdp (wfC (rkS (rk j) (sp j) 26) (rkC (rk j) (sp j) 26) (sp j)) (sp j ^ rkC (rk j) (sp j) 26) p)) : Met l yP_permuted wP_permuted ({ frames := 2, cells := 0, slots := 0, locals := 56 }) (Pq D κ base [.ref a, .int x, .int y] H0) (q_W (fun v H => v = some (.long r) ∧ RC D κ base a sd nT nS bT bS td fd ta tr kd sp ca cr od aw rk H ∧ FrC a nT nS bT bS H0 H)) 0 0 (OwnC a nT nS bT bS H0.size) := by
  refine Met.ofW (cc := bP_permuted) (maxL := 8) (ret := (some FieldType.long)) (by decide) rfl ?_
  intro p e s m args below meth c s₁ B hml hv
  obtain ⟨rfl, hH, hE⟩ := hv
  subst hH
  have hx := B.exec
  have hb := B.bytes
  have hr := B.returns
  have hT : ∀ w ∈ TT, w.before _ s = true := fun w h => atoms_spec (ws := wP_permuted) B.pre w (List.mem_cons_of_mem _ h)
  have hown : s.vm.findClass "TasterPanels" = some m.cls := findClass_of_methodNamed B.named
  have hlocks := B.notSynchronized
  have hK := hE.1
  have hS : va_S (fun q => base ≤ q) s.heap s.heap [] := va_S.rf
  have hAb : ∀ q : Nat, (fun q : Nat => base ≤ q) q → base ≤ q := fun _ h => h
  have hl := lv_entry ([.ref a, .int x, .int y]) (n := 8) (Nat.le_of_ble_eq_true rfl)
  rw [lg_entry_eq]
  generalize (lg_sl ([.ref a, .int x, .int y]) ++ List.replicate (8 - (lg_sl ([.ref a, .int x, .int y])).length) Slot.unset).toArray = ls at hl ⊢
  have hl : lv_has ls 8 [(0, .ref a), (1, .int x), (2, .int y)] := hl
  have hR0 := hR
  obtain ⟨⟨fT, fS, mx, sw, hP, hfT, hfS⟩, hTas, hTes, hbd⟩ := hR
  obtain ⟨⟨hnT, hnS, hba, hah⟩, hb1, hb2, hs1, hs2, hs3, hs4, hs5⟩ := hbd
  have hbs : base ≤ s.heap.size := by omega
  have hOb : ∀ x9, OwnC a nT nS bT bS s.heap.size x9 → base ≤ x9 := fun x9 h => OwnC.base hba (by omega) hs1 hs2 h
  have hS : va_S (OwnC a nT nS bT bS s.heap.size) s.heap s.heap [] := va_S.rf
  have hAb := hOb
  rcases whoS nS x with e1 | ⟨j, hj, hj4, rfl⟩
  · refine lv_aload_n hx hb dP_permuted_0 rfl (lv_at hl 0 rfl) ?_
    refine lv_iload_n hx hb dP_permuted_1 rfl (lv_at hl 1 rfl) ?_
    refine x_callP (v := .null) (va_runV (As := [.int x]) (rest := []) ⟨hx, hb, hml, hown, hT⟩ (c_P_rankingAt_none l D κ base s.heap (hP.sub [0, 2] rfl) x (noS_fr e1 hfS)) (cwV 1 hT (TT_V kP114 kiP_rankingAt ksP_rankingAt knP kcP_rankingAt) rfl rfl rfl (by decide +kernel) ⟨Nat.le_of_ble_eq_true rfl, Nat.le_of_ble_eq_true rfl⟩) (pcV hE hS hAb (va_recv hK hP (ci := 2) (q0 := 0) rfl rfl)) rfl rfl hl.1 rfl (lv_room (Nat.le_of_ble_eq_true rfl)) dP_permuted_2 ⟨Nat.le_of_ble_eq_true rfl, Nat.le_of_ble_eq_true rfl⟩) ?_
    refine lv_astore_nN (lv' := [(3, .null), (0, .ref a), (1, .int x), (2, .int y)]) hx hb dP_permuted_5 rfl hl (by decide) rfl (fun ls hl => ?_)
    refine lv_aload_nN hx hb dP_permuted_6 rfl (lv_at hl 0 rfl) ?_
    refine lv_ifnullN (tgt := 17) hx hb dP_permuted_7 (by decide) ?_
    refine lv_ldc2 (v := -1) hx hb hown (hT _ kP100) dP_permuted_17 ?_
    exact W.lret (v := -1) hx hb hr (fun t ht hW => ⟨some (.long (-1)), rfl, by rw [ht]; exact ⟨by rw [p0 e1], hR0, FrC.rf⟩⟩) (fun q h => absurd h List.not_mem_nil) dP_permuted_20
  · have hP : va_P D vwCl [(a, .inr (2, [.long sd, .ref (a + 1), .ref (a + 2), .int (nI nT), .int (nI nS), .ref (a + 3), .ref (a + 4)])), ((a + 2), .inl (κ 4, 40, .inr (.inr (.inr (.inr fS))))), ((a + 4), .inl (κ 2, 131, .inr (.inl sw))), ((bS j), .inr (1, [.int (nI (kd j)), .int (nI (sp j)), .ref ((bS j) + 1), .ref ((bS j) + 2), .ref ((bS j) + 3), .int (nI (ca j)), .int (nI (cr j))])), (((bS j) + 3), .inl (κ 0, 130, .inl (fun x => nI (rk j x))))] s.heap := va_P.app (hP.sub [0, 2, 4] rfl) ((hTes j hj).sub [0, 3] rfl)
    have b2 := hs2 j hj
    obtain ⟨hok, -, -, -, hrk⟩ := hb1 j hj
    have hsp := hok.lt
    by_cases hk : kd j = 3
    · refine lv_aload_n hx hb dP_permuted_0 rfl (lv_at hl 0 rfl) ?_
      refine lv_iload_n hx hb dP_permuted_1 rfl (lv_at hl 1 rfl) ?_
      refine x_callP (v := .ref (bS j)) (va_runV (As := [.int (nI j)]) (rest := []) ⟨hx, hb, hml, hown, hT⟩ (c_P_rankingAt_some l D κ base s.heap (hP.sub [0, 1, 3] rfl) j hj4 (by rw [hfS j hj4, if_pos hj]) (hb1 j hj).1.lt.1 (.ref (bS j)) (fun q => absurd hk q) (fun _ => rfl)) (cwV 1 hT (TT_V kP114 kiP_rankingAt ksP_rankingAt knP kcP_rankingAt) rfl rfl rfl (by decide +kernel) ⟨Nat.le_of_ble_eq_true rfl, Nat.le_of_ble_eq_true rfl⟩) (pcV hE hS hAb (va_recv hK hP (ci := 2) (q0 := 0) rfl rfl)) rfl rfl hl.1 rfl (lv_room (Nat.le_of_ble_eq_true rfl)) dP_permuted_2 ⟨Nat.le_of_ble_eq_true rfl, Nat.le_of_ble_eq_true rfl⟩) ?_
      refine lv_astore_n (lv' := [(3, .ref (bS j)), (0, .ref a), (1, .int (nI j)), (2, .int y)]) hx hb dP_permuted_5 rfl hl (by decide) rfl (fun ls hl => ?_)
      refine lv_aload_n hx hb dP_permuted_6 rfl (lv_at hl 0 rfl) ?_
      refine lv_ifnull hx hb dP_permuted_7 ?_
      refine lv_iload_n hx hb dP_permuted_10 rfl (lv_at hl 3 rfl) ?_
      by_cases e2 : y = nI 0
      · subst e2
        refine x_callP (v := .int (nI 1)) (va_runS (As := [.int (nI 0)]) (rest := []) ⟨hx, hb, hml, hown, hT⟩ (c_P_isPart l D κ base s.heap (nI 0) 1 (by decide)) (va_cwS 1 hT (TT_S kP96 ktP_isPart knP kcP_isPart) rfl rfl rfl (by decide +kernel) ⟨Nat.le_of_ble_eq_true rfl, Nat.le_of_ble_eq_true rfl⟩) (pcS hE hS hAb) rfl rfl hl.1 rfl (lv_room (Nat.le_of_ble_eq_true rfl)) dP_permuted_11 ⟨Nat.le_of_ble_eq_true rfl, Nat.le_of_ble_eq_true rfl⟩) ?_
        refine x_zne (a := 1) (tgt := 21) hx hb dP_permuted_14 (by decide) (by omega) (fun h3 => ?_) (fun h3 => absurd h3 (by decide))
        have loop : ∀ (fu : Nat) (t : Nat), (t ≤ 26) → 26 - t < fu → ∀ ls : Array Slot, lv_has ls 8 [(0, .ref a), (2, .int (nI 0)), (3, .ref (bS j)), (4, .int (nI (rkC (rk j) (sp j) t))), (5, .int (nI (rkS (rk j) (sp j) t))), (6, .int (nI t))] → W p l e (headSpec wP_permuted ({ frames := 2, cells := 0, slots := 0, locals := 56 })).room s m ([.ref a, .int (nI j), .int (nI 0)] : List Value).toArray below meth c s.heap [] 0 0 (MQ below (q_W (fun v H => v = some (.long r) ∧ RC D κ base a sd nT nS bT bS td fd ta tr kd sp ca cr od aw rk H ∧ FrC a nT nS bT bS s.heap H)) ([.ref a, .int (nI j), .int (nI 0)] : List Value).toArray s 0 0 (OwnC a nT nS bT bS s.heap.size)) (F0 m 30 ls []) := by
          intro fu
          induction fu with
          | zero =>
            intro t ht hmu
            exact absurd hmu (Nat.not_lt_zero _)
          | succ fu ih =>
            intro t ht hmu ls hl
            refine lv_iload hx hb dP_permuted_30 (lv_at hl 5 rfl) ?_
            refine lv_bipush (v := nI 26) hx hb dP_permuted_32 (by decide) ?_
            refine x_cge (a := t) (b := 26) (tgt := 67) hx hb dP_permuted_34 (by decide) (by omega) (by omega) (fun g1 => ?_) (fun g1 => ?_)
            · have e9 : t = 26 := by omega
              subst e9
              refine lv_iload hx hb dP_permuted_67 (lv_at hl 3 rfl) ?_
              have c1 := rkC_le (rk j) (sp j) 26
              have c2 := rkS_le (rk j) (sp j) hrk 26 (by omega)
              refine x_zne (a := rkC (rk j) (sp j) 26) (tgt := 76) hx hb dP_permuted_69 (by decide) (by omega) (fun g9 => ?_) (fun g9 => ?_)
              · have hP : va_P D vwCl [(a, .inr (2, [.long sd, .ref (a + 1), .ref (a + 2), .int (nI nT), .int (nI nS), .ref (a + 3), .ref (a + 4)])), ((a + 4), .inl (κ 2, 131, .inr (.inl sw))), ((bS j), .inr (1, [.int (nI (kd j)), .int (nI (sp j)), .ref ((bS j) + 1), .ref ((bS j) + 2), .ref ((bS j) + 3), .int (nI (ca j)), .int (nI (cr j))]))] s.heap := hP.sub [0, 2, 3] rfl
                have hnd : ([(a, .inr (2, [.long sd, .ref (a + 1), .ref (a + 2), .int (nI nT), .int (nI nS), .ref (a + 3), .ref (a + 4)])), ((a + 4), .inl (κ 2, 131, .inr (.inl sw))), ((bS j), .inr (1, [.int (nI (kd j)), .int (nI (sp j)), .ref ((bS j) + 1), .ref ((bS j) + 2), .ref ((bS j) + 3), .int (nI (ca j)), .int (nI (cr j))]))] : va_W).map Prod.fst |>.Nodup := by simp only [List.map, List.nodup_cons, List.mem_cons, List.not_mem_nil, or_false, not_or, List.nodup_nil, and_true, not_false_eq_true, List.forall_mem_cons, forall_eq_or_imp, forall_eq]; omega
                have hD0 : va_D (fun q => base ≤ q) [(a, .inr (2, [.long sd, .ref (a + 1), .ref (a + 2), .int (nI nT), .int (nI nS), .ref (a + 3), .ref (a + 4)])), ((a + 4), .inl (κ 2, 131, .inr (.inl sw))), ((bS j), .inr (1, [.int (nI (kd j)), .int (nI (sp j)), .ref ((bS j) + 1), .ref ((bS j) + 2), .ref ((bS j) + 3), .int (nI (ca j)), .int (nI (cr j))]))] := D_of hnd (by simp only [List.map, List.nodup_cons, List.mem_cons, List.not_mem_nil, or_false, not_or, List.nodup_nil, and_true, not_false_eq_true, List.forall_mem_cons, forall_eq_or_imp, forall_eq]; omega)
                have hD := hD0.self (sz := s.heap.size)
                have hAb : ∀ x9, va_A [(a, .inr (2, [.long sd, .ref (a + 1), .ref (a + 2), .int (nI nT), .int (nI nS), .ref (a + 3), .ref (a + 4)])), ((a + 4), .inl (κ 2, 131, .inr (.inl sw))), ((bS j), .inr (1, [.int (nI (kd j)), .int (nI (sp j)), .ref ((bS j) + 1), .ref ((bS j) + 2), .ref ((bS j) + 3), .int (nI (ca j)), .int (nI (cr j))]))] s.heap.size x9 → base ≤ x9 := fun x9 h => by rcases h with ⟨k9, e9, h⟩ | h; exact hD0.2 k9 _ h; exact Nat.le_trans hbs h
                have hAq : ∀ x9, va_A [(a, .inr (2, [.long sd, .ref (a + 1), .ref (a + 2), .int (nI nT), .int (nI nS), .ref (a + 3), .ref (a + 4)])), ((a + 4), .inl (κ 2, 131, .inr (.inl sw))), ((bS j), .inr (1, [.int (nI (kd j)), .int (nI (sp j)), .ref ((bS j) + 1), .ref ((bS j) + 2), .ref ((bS j) + 3), .int (nI (ca j)), .int (nI (cr j))]))] s.heap.size x9 → (x9 = a ∨ x9 = (a + 4) ∨ x9 = (bS j)) ∨ s.heap.size ≤ x9 := fun x9 h => by have := A_addr h; simpa only [List.map, List.mem_cons, List.not_mem_nil, or_false] using this
                have hAO : ∀ x9, va_A [(a, .inr (2, [.long sd, .ref (a + 1), .ref (a + 2), .int (nI nT), .int (nI nS), .ref (a + 3), .ref (a + 4)])), ((a + 4), .inl (κ 2, 131, .inr (.inl sw))), ((bS j), .inr (1, [.int (nI (kd j)), .int (nI (sp j)), .ref ((bS j) + 1), .ref ((bS j) + 2), .ref ((bS j) + 3), .int (nI (ca j)), .int (nI (cr j))]))] s.heap.size x9 → OwnC a nT nS bT bS s.heap.size x9 := fun x9 h => by exact ownS hj (by have := hAq x9 h; omega)
                generalize hAe : va_A [(a, .inr (2, [.long sd, .ref (a + 1), .ref (a + 2), .int (nI nT), .int (nI nS), .ref (a + 3), .ref (a + 4)])), ((a + 4), .inl (κ 2, 131, .inr (.inl sw))), ((bS j), .inr (1, [.int (nI (kd j)), .int (nI (sp j)), .ref ((bS j) + 1), .ref ((bS j) + 2), .ref ((bS j) + 3), .int (nI (ca j)), .int (nI (cr j))]))] s.heap.size = A at hD hAb hAq hAO
                have hA : ∀ x9, s.heap.size ≤ x9 → A x9 := fun x9 h => by rw [← hAe]; exact Or.inr h
                have hS : va_S A s.heap s.heap [] := va_S.rf
                refine lv_aload_n hx hb dP_permuted_76 rfl (lv_at hl 0 rfl) ?_
                refine lv_iload hx hb dP_permuted_77 (lv_at hl 4 rfl) ?_
                refine lv_iload hx hb dP_permuted_79 (lv_at hl 3 rfl) ?_
                refine lv_aload_n hx hb dP_permuted_81 rfl (lv_at hl 2 rfl) ?_
                refine va_getN (D := D) (ci := 1) (v := .int (nI (sp j))) (C := RS) (T := FS) (N := 7) hx hb hT inS hown hK hP 2 rfl rfl 1 (by decide) (va_Nw.use rfl (kN74 hE.2.1)) (fun _ h9 => h9) rfl dP_permuted_82 ?_
                have hFc := va_free (wc := [(a, .inr (2, [.long sd, .ref (a + 1), .ref (a + 2), .int (nI nT), .int (nI nS), .ref (a + 3), .ref (a + 4)])), ((a + 4), .inl (κ 2, 131, .inr (.inl sw)))]) hD hS hA [0, 1] rfl
                have hPc := hP.sub (ws' := [(a, .inr (2, [.long sd, .ref (a + 1), .ref (a + 2), .int (nI nT), .int (nI nS), .ref (a + 3), .ref (a + 4)])), ((a + 4), .inl (κ 2, 131, .inr (.inl sw)))]) [0, 1] rfl
                have hDc := (hD.sub (ws' := [(a, .inr (2, [.long sd, .ref (a + 1), .ref (a + 2), .int (nI nT), .int (nI nS), .ref (a + 3), .ref (a + 4)])), ((a + 4), .inl (κ 2, 131, .inr (.inl sw)))]) [0, 1] (by decide) rfl).weaken (fun _ _ _ h => hAb _ h)
                have hbc : base ≤ s.heap.size := Nat.le_trans hbs hS.1
                refine x_callW (va_runV (As := [.int (nI (rkS (rk j) (sp j) 26)), .int (nI (rkC (rk j) (sp j) 26)), .int (nI (sp j))]) (rest := []) ⟨hx, hb, hml, hown, hT⟩ (c_P_waysAsFarAs l D κ base s.heap (rkS (rk j) (sp j) 26) (rkC (rk j) (sp j) 26) (sp j) (by omega) (by omega) hsp.2.2 (by omega) hPc hDc hbc) (cwV 3 hT (TT_V kP131 kiP_waysAsFarAs ksP_waysAsFarAs knP kcP_waysAsFarAs) rfl rfl rfl (by decide +kernel) ⟨Nat.le_of_ble_eq_true rfl, Nat.le_of_ble_eq_true rfl⟩) (pcV hE hS hAb (va_recv hK hP (ci := 2) (q0 := 0) rfl rfl)) rfl rfl hl.1 rfl (lv_room (Nat.le_of_ble_eq_true rfl)) dP_permuted_85 ⟨Nat.le_of_ble_eq_true rfl, Nat.le_of_ble_eq_true rfl⟩) hS (fun q h => hFc q h) (fun v H1 h => by obtain ⟨S9, h9⟩ := h; exact Pst.fr hFc h9) (fun v H locs hpost hS => ?_)
                obtain ⟨S2, rfl, hP1, hD1, hz1, hk1⟩ := hpost
                obtain ⟨hP, hD⟩ := va_join (wr := [((bS j), .inr (1, [.int (nI (kd j)), .int (nI (sp j)), .ref ((bS j) + 1), .ref ((bS j) + 2), .ref ((bS j) + 3), .int (nI (ca j)), .int (nI (cr j))]))]) (w1 := [(a, .inr (2, [.long sd, .ref (a + 1), .ref (a + 2), .int (nI nT), .int (nI nS), .ref (a + 3), .ref (a + 4)])), ((a + 4), .inl (κ 2, 131, .inr (.inl S2)))]) hP hD [0, 1] [2] rfl rfl (by decide) (by decide) hk1 hFc hP1 hD1
                have hP : va_P D vwCl [((bS j), .inr (1, [.int (nI (kd j)), .int (nI (sp j)), .ref ((bS j) + 1), .ref ((bS j) + 2), .ref ((bS j) + 3), .int (nI (ca j)), .int (nI (cr j))])), (a, .inr (2, [.long sd, .ref (a + 1), .ref (a + 2), .int (nI nT), .int (nI nS), .ref (a + 3), .ref (a + 4)])), ((a + 4), .inl (κ 2, 131, .inr (.inl S2)))] H := hP
                have hD : va_D A [((bS j), .inr (1, [.int (nI (kd j)), .int (nI (sp j)), .ref ((bS j) + 1), .ref ((bS j) + 2), .ref ((bS j) + 3), .int (nI (ca j)), .int (nI (cr j))])), (a, .inr (2, [.long sd, .ref (a + 1), .ref (a + 2), .int (nI nT), .int (nI nS), .ref (a + 3), .ref (a + 4)])), ((a + 4), .inl (κ 2, 131, .inr (.inl S2)))] := hD
                refine W.eq (g2 := F0 m 88 ls [.long (lN (wfC (rkS (rk j) (sp j) 26) (rkC (rk j) (sp j) 26) (sp j)))]) rfl ?_
                refine lv_lstore (lv' := [(6, .long (lN (wfC (rkS (rk j) (sp j) 26) (rkC (rk j) (sp j) 26) (sp j)))), (0, .ref a), (2, .int (nI 0)), (3, .ref (bS j)), (4, .int (nI (rkC (rk j) (sp j) 26))), (5, .int (nI (rkS (rk j) (sp j) 26)))]) hx hb dP_permuted_88 hl (by decide) rfl (fun ls hl => ?_)
                refine lv_lload hx hb dP_permuted_90 (lv_at hl 0 rfl) ?_
                refine lv_aload_n hx hb dP_permuted_92 rfl (lv_at hl 3 rfl) ?_
                refine va_getN (D := D) (ci := 1) (v := .int (nI (sp j))) (C := RS) (T := FS) (N := 7) hx hb hT inS hown hK hP 0 rfl rfl 1 (by decide) (va_Nw.use rfl (kN74 hE.2.1)) (fun _ h9 => h9) rfl dP_permuted_93 ?_
                refine lv_iload hx hb dP_permuted_96 (lv_at hl 4 rfl) ?_
                refine x_callP (v := .long (lN (sp j ^ rkC (rk j) (sp j) 26))) (va_runS (As := [.int (nI (sp j)), .int (nI (rkC (rk j) (sp j) 26))]) (rest := [.long (lN (wfC (rkS (rk j) (sp j) 26) (rkC (rk j) (sp j) 26) (sp j)))]) ⟨hx, hb, hml, hown, hT⟩ (c_P_power l D κ base H (sp j) (rkC (rk j) (sp j) 26) (by omega) (by omega)) (va_cwS 2 hT (TT_S kP106 ktP_power knP kcP_power) rfl rfl rfl (by decide +kernel) ⟨Nat.le_of_ble_eq_true rfl, Nat.le_of_ble_eq_true rfl⟩) (pcS hE hS hAb) rfl rfl hl.1 rfl (lv_room (Nat.le_of_ble_eq_true rfl)) dP_permuted_98 ⟨Nat.le_of_ble_eq_true rfl, Nat.le_of_ble_eq_true rfl⟩) ?_
                refine lv_iload_n hx hb dP_permuted_101 rfl (lv_at hl 2 rfl) ?_
                have hp9 := pow5_lt (n := sp j) (m := rkC (rk j) (sp j) 26) hsp.2.2 (by omega)
                have hw9 := wfC_le (rkS (rk j) (sp j) 26) (rkC (rk j) (sp j) 26) (sp j)
                refine x_callP (v := .long (lN (rdp (wfC (rkS (rk j) (sp j) 26) (rkC (rk j) (sp j) 26) (sp j)) (sp j ^ rkC (rk j) (sp j) 26) 0))) (va_runS (As := [.long (lN (wfC (rkS (rk j) (sp j) 26) (rkC (rk j) (sp j) 26) (sp j))), .long (lN (sp j ^ rkC (rk j) (sp j) 26)), .int (nI 0)]) (rest := []) ⟨hx, hb, hml, hown, hT⟩ (c_P_reducedPart l D κ base H (wfC (rkS (rk j) (sp j) 26) (rkC (rk j) (sp j) 26) (sp j)) (sp j ^ rkC (rk j) (sp j) 26) 0 (by omega) hp9 (Nat.pow_pos (by omega)) (by decide)) (va_cwS 3 hT (TT_S kP110 ktP_reducedPart knP kcP_reducedPart) rfl rfl rfl (by decide +kernel) ⟨Nat.le_of_ble_eq_true rfl, Nat.le_of_ble_eq_true rfl⟩) (pcS hE hS hAb) rfl rfl hl.1 rfl (lv_room (Nat.le_of_ble_eq_true rfl)) dP_permuted_102 ⟨Nat.le_of_ble_eq_true rfl, Nat.le_of_ble_eq_true rfl⟩) ?_
                have hP := hP.sub (ws' := [(a, .inr (2, [.long sd, .ref (a + 1), .ref (a + 2), .int (nI nT), .int (nI nS), .ref (a + 3), .ref (a + 4)])), ((a + 4), .inl (κ 2, 131, .inr (.inl S2))), ((bS j), .inr (1, [.int (nI (kd j)), .int (nI (sp j)), .ref ((bS j) + 1), .ref ((bS j) + 2), .ref ((bS j) + 3), .int (nI (ca j)), .int (nI (cr j))]))]) [1, 2, 0] rfl
                have hD := hD.sub (ws' := [(a, .inr (2, [.long sd, .ref (a + 1), .ref (a + 2), .int (nI nT), .int (nI nS), .ref (a + 3), .ref (a + 4)])), ((a + 4), .inl (κ 2, 131, .inr (.inl S2))), ((bS j), .inr (1, [.int (nI (kd j)), .int (nI (sp j)), .ref ((bS j) + 1), .ref ((bS j) + 2), .ref ((bS j) + 3), .int (nI (ca j)), .int (nI (cr j))]))]) [1, 2, 0] (by decide) rfl
                exact W.lret (v := lN (rdp (wfC (rkS (rk j) (sp j) 26) (rkC (rk j) (sp j) 26) (sp j)) (sp j ^ rkC (rk j) (sp j) 26) 0)) hx hb hr (fun t ht hW => ⟨some (.long (lN (rdp (wfC (rkS (rk j) (sp j) 26) (rkC (rk j) (sp j) 26) (sp j)) (sp j ^ rkC (rk j) (sp j) 26) 0))), rfl, by rw [ht]; exact ⟨by rw [p4 j 0 hj rfl hk (by decide) rfl g9], RC_sw hR0 hj hAq hS.1 hS.2.1 hP, ⟨hS.1, fun q h1 h2 => hS.2.1 q h1 (fun z => h2 (hAO q z))⟩⟩⟩) (fun q h => hAO _ (hS.2.2 q h)) dP_permuted_105
              · refine lv_ldc2 (v := -1) hx hb hown (hT _ kP100) dP_permuted_72 ?_
                exact W.lret (v := -1) hx hb hr (fun t ht hW => ⟨some (.long (-1)), rfl, by rw [ht]; exact ⟨by rw [p3 j hj rfl g9], hR0, FrC.rf⟩⟩) (fun q h => absurd h List.not_mem_nil) dP_permuted_75
            · refine lv_aload_n hx hb dP_permuted_37 rfl (lv_at hl 2 rfl) ?_
              refine lv_iload hx hb dP_permuted_38 (lv_at hl 5 rfl) ?_
              by_cases hall : rkAll (rk j) (sp j) t = true
              · refine x_callP (v := .int (nI 1)) (va_runS (As := [.ref (bS j), .int (nI t)]) (rest := []) ⟨hx, hb, hml, hown, hT⟩ (c_P_hasRankedAll l D κ base s.heap (hP.sub [3, 4] rfl) hsp.2.2 t (by omega) 1 (fun _ => rfl) (fun h => by obtain ⟨k, h8, h9⟩ := h; exact absurd (nI_inj (by have := hrk (t * 5 + k) (by omega); omega) (by decide) h9) (of_decide_eq_true hall k h8))) (va_cwS 2 hT (TT_S kP127 ktP_hasRankedAll knP kcP_hasRankedAll) rfl rfl rfl (by decide +kernel) ⟨Nat.le_of_ble_eq_true rfl, Nat.le_of_ble_eq_true rfl⟩) (pcS hE hS hAb) rfl rfl hl.1 rfl (lv_room (Nat.le_of_ble_eq_true rfl)) dP_permuted_40 ⟨Nat.le_of_ble_eq_true rfl, Nat.le_of_ble_eq_true rfl⟩) ?_
                refine x_zeq (a := 1) (tgt := 61) hx hb dP_permuted_43 (by decide) (by omega) (fun h4 => absurd h4 (by decide)) (fun h4 => ?_)
                have c8 := rkC_le (rk j) (sp j) t
                have c9 := rkS_le (rk j) (sp j) hrk t (by omega)
                refine lv_iinc (v := nI (rkC (rk j) (sp j) t + 1)) (lv' := [(4, .int (nI (rkC (rk j) (sp j) t + 1))), (0, .ref a), (2, .int (nI 0)), (3, .ref (bS j)), (5, .int (nI (rkS (rk j) (sp j) t))), (6, .int (nI t))]) hx hb dP_permuted_46 hl (k := 3) rfl (nI_add _ _) (by decide) rfl (fun ls hl => ?_)
                refine lv_iload hx hb dP_permuted_49 (lv_at hl 4 rfl) ?_
                refine lv_aload_n hx hb dP_permuted_51 rfl (lv_at hl 3 rfl) ?_
                refine lv_iload hx hb dP_permuted_52 (lv_at hl 5 rfl) ?_
                refine lv_iconst (v := nI 0) hx hb dP_permuted_54 (by decide) ?_
                refine x_callP (v := .int (nI (rk j (t * 5 + 0)))) (va_runS (As := [.ref (bS j), .int (nI t), .int (nI 0)]) (rest := [.int (nI (rkS (rk j) (sp j) t))]) ⟨hx, hb, hml, hown, hT⟩ (c_P_rankOf l D κ base s.heap (hP.sub [3, 4] rfl) t 0 (by omega) (by omega)) (va_cwS 3 hT (TT_S kP117 ktP_rankOf knP kcP_rankOf) rfl rfl rfl (by decide +kernel) ⟨Nat.le_of_ble_eq_true rfl, Nat.le_of_ble_eq_true rfl⟩) (pcS hE hS hAb) rfl rfl hl.1 rfl (lv_room (Nat.le_of_ble_eq_true rfl)) dP_permuted_55 ⟨Nat.le_of_ble_eq_true rfl, Nat.le_of_ble_eq_true rfl⟩) ?_
                refine x_iadd (v := nI ((rkS (rk j) (sp j) t) + (rk j (t * 5 + 0)))) hx hb dP_permuted_58 (nI_add _ _) ?_
                refine x_topn (b := rkS (rk j) (sp j) (t + 1)) (by rw [rkS, if_pos hall]; rfl) ?_
                refine lv_istore (lv' := [(5, .int (nI (rkS (rk j) (sp j) (t + 1)))), (4, .int (nI (rkC (rk j) (sp j) t + 1))), (0, .ref a), (2, .int (nI 0)), (3, .ref (bS j)), (6, .int (nI t))]) hx hb dP_permuted_59 hl (by decide) rfl (fun ls hl => ?_)
                refine lv_iinc (v := nI (t + 1)) (lv' := [(6, .int (nI (t + 1))), (5, .int (nI (rkS (rk j) (sp j) (t + 1)))), (4, .int (nI (rkC (rk j) (sp j) t + 1))), (0, .ref a), (2, .int (nI 0)), (3, .ref (bS j))]) hx hb dP_permuted_61 hl (k := 5) rfl (nI_add _ _) (by decide) rfl (fun ls hl => ?_)
                refine lv_goto (tgt := 30) hx hb dP_permuted_64 (by decide) ?_
                rw [show rkC (rk j) (sp j) t + 1 = rkC (rk j) (sp j) (t + 1) by rw [rkC, if_pos hall]] at hl
                exact ih (t + 1) (by omega) (by omega) ls (lv_sub hl [3, 4, 5, 2, 1, 0] rfl)
              · refine x_callP (v := .int (nI 0)) (va_runS (As := [.ref (bS j), .int (nI t)]) (rest := []) ⟨hx, hb, hml, hown, hT⟩ (c_P_hasRankedAll l D κ base s.heap (hP.sub [3, 4] rfl) hsp.2.2 t (by omega) 0 (fun h => absurd (rkAll_of (fun k hk9 q => h k hk9 (by show nI (rk j (t * 5 + k)) = 0; rw [q]; exact nI_0))) hall) (fun _ => rfl)) (va_cwS 2 hT (TT_S kP127 ktP_hasRankedAll knP kcP_hasRankedAll) rfl rfl rfl (by decide +kernel) ⟨Nat.le_of_ble_eq_true rfl, Nat.le_of_ble_eq_true rfl⟩) (pcS hE hS hAb) rfl rfl hl.1 rfl (lv_room (Nat.le_of_ble_eq_true rfl)) dP_permuted_40 ⟨Nat.le_of_ble_eq_true rfl, Nat.le_of_ble_eq_true rfl⟩) ?_
                refine x_zeq (a := 0) (tgt := 61) hx hb dP_permuted_43 (by decide) (by omega) (fun h5 => ?_) (fun h5 => absurd rfl h5)
                refine lv_iinc (v := nI (t + 1)) (lv' := [(6, .int (nI (t + 1))), (0, .ref a), (2, .int (nI 0)), (3, .ref (bS j)), (4, .int (nI (rkC (rk j) (sp j) t))), (5, .int (nI (rkS (rk j) (sp j) t)))]) hx hb dP_permuted_61 hl (k := 5) rfl (nI_add _ _) (by decide) rfl (fun ls hl => ?_)
                refine lv_goto (tgt := 30) hx hb dP_permuted_64 (by decide) ?_
                rw [show rkC (rk j) (sp j) t = rkC (rk j) (sp j) (t + 1) by rw [rkC, if_neg hall]; rfl, show rkS (rk j) (sp j) t = rkS (rk j) (sp j) (t + 1) by rw [rkS, if_neg hall]; rfl] at hl
                exact ih (t + 1) (by omega) (by omega) ls (lv_sub hl [1, 2, 3, 4, 5, 0] rfl)
        refine lv_iconst (v := nI 0) hx hb dP_permuted_21 (by decide) ?_
        refine lv_istore (lv' := [(4, .int (nI 0)), (3, .ref (bS j)), (0, .ref a), (1, .int (nI j)), (2, .int (nI 0))]) hx hb dP_permuted_22 hl (by decide) rfl (fun ls hl => ?_)
        refine lv_iconst (v := nI 0) hx hb dP_permuted_24 (by decide) ?_
        refine lv_istore (lv' := [(5, .int (nI 0)), (4, .int (nI 0)), (3, .ref (bS j)), (0, .ref a), (1, .int (nI j)), (2, .int (nI 0))]) hx hb dP_permuted_25 hl (by decide) rfl (fun ls hl => ?_)
        refine lv_iconst (v := nI 0) hx hb dP_permuted_27 (by decide) ?_
        refine lv_istore (lv' := [(6, .int (nI 0)), (5, .int (nI 0)), (4, .int (nI 0)), (3, .ref (bS j)), (0, .ref a), (1, .int (nI j)), (2, .int (nI 0))]) hx hb dP_permuted_28 hl (by decide) rfl (fun ls hl => ?_)
        exact loop 27 0 (by omega) (by omega) ls (lv_sub hl [4, 6, 3, 2, 1, 0] rfl)
      · by_cases e3 : y = nI 1
        · subst e3
          refine x_callP (v := .int (nI 1)) (va_runS (As := [.int (nI 1)]) (rest := []) ⟨hx, hb, hml, hown, hT⟩ (c_P_isPart l D κ base s.heap (nI 1) 1 (by decide)) (va_cwS 1 hT (TT_S kP96 ktP_isPart knP kcP_isPart) rfl rfl rfl (by decide +kernel) ⟨Nat.le_of_ble_eq_true rfl, Nat.le_of_ble_eq_true rfl⟩) (pcS hE hS hAb) rfl rfl hl.1 rfl (lv_room (Nat.le_of_ble_eq_true rfl)) dP_permuted_11 ⟨Nat.le_of_ble_eq_true rfl, Nat.le_of_ble_eq_true rfl⟩) ?_
          refine x_zne (a := 1) (tgt := 21) hx hb dP_permuted_14 (by decide) (by omega) (fun h6 => ?_) (fun h6 => absurd h6 (by decide))
          have loop : ∀ (fu : Nat) (t : Nat), (t ≤ 26) → 26 - t < fu → ∀ ls : Array Slot, lv_has ls 8 [(0, .ref a), (2, .int (nI 1)), (3, .ref (bS j)), (4, .int (nI (rkC (rk j) (sp j) t))), (5, .int (nI (rkS (rk j) (sp j) t))), (6, .int (nI t))] → W p l e (headSpec wP_permuted ({ frames := 2, cells := 0, slots := 0, locals := 56 })).room s m ([.ref a, .int (nI j), .int (nI 1)] : List Value).toArray below meth c s.heap [] (0 + 0) (0 + 0) (MQ below (q_W (fun v H => v = some (.long r) ∧ RC D κ base a sd nT nS bT bS td fd ta tr kd sp ca cr od aw rk H ∧ FrC a nT nS bT bS s.heap H)) ([.ref a, .int (nI j), .int (nI 1)] : List Value).toArray s 0 0 (OwnC a nT nS bT bS s.heap.size)) (F0 m 30 ls []) := by
            intro fu
            induction fu with
            | zero =>
              intro t ht hmu
              exact absurd hmu (Nat.not_lt_zero _)
            | succ fu ih =>
              intro t ht hmu ls hl
              refine lv_iload hx hb dP_permuted_30 (lv_at hl 5 rfl) ?_
              refine lv_bipush (v := nI 26) hx hb dP_permuted_32 (by decide) ?_
              refine x_cge (a := t) (b := 26) (tgt := 67) hx hb dP_permuted_34 (by decide) (by omega) (by omega) (fun g1 => ?_) (fun g1 => ?_)
              · have e9 : t = 26 := by omega
                subst e9
                refine lv_iload hx hb dP_permuted_67 (lv_at hl 3 rfl) ?_
                have c1 := rkC_le (rk j) (sp j) 26
                have c2 := rkS_le (rk j) (sp j) hrk 26 (by omega)
                refine x_zne (a := rkC (rk j) (sp j) 26) (tgt := 76) hx hb dP_permuted_69 (by decide) (by omega) (fun g9 => ?_) (fun g9 => ?_)
                · have hP : va_P D vwCl [(a, .inr (2, [.long sd, .ref (a + 1), .ref (a + 2), .int (nI nT), .int (nI nS), .ref (a + 3), .ref (a + 4)])), ((a + 4), .inl (κ 2, 131, .inr (.inl sw))), ((bS j), .inr (1, [.int (nI (kd j)), .int (nI (sp j)), .ref ((bS j) + 1), .ref ((bS j) + 2), .ref ((bS j) + 3), .int (nI (ca j)), .int (nI (cr j))]))] s.heap := hP.sub [0, 2, 3] rfl
                  have hnd : ([(a, .inr (2, [.long sd, .ref (a + 1), .ref (a + 2), .int (nI nT), .int (nI nS), .ref (a + 3), .ref (a + 4)])), ((a + 4), .inl (κ 2, 131, .inr (.inl sw))), ((bS j), .inr (1, [.int (nI (kd j)), .int (nI (sp j)), .ref ((bS j) + 1), .ref ((bS j) + 2), .ref ((bS j) + 3), .int (nI (ca j)), .int (nI (cr j))]))] : va_W).map Prod.fst |>.Nodup := by simp only [List.map, List.nodup_cons, List.mem_cons, List.not_mem_nil, or_false, not_or, List.nodup_nil, and_true, not_false_eq_true, List.forall_mem_cons, forall_eq_or_imp, forall_eq]; omega
                  have hD0 : va_D (fun q => base ≤ q) [(a, .inr (2, [.long sd, .ref (a + 1), .ref (a + 2), .int (nI nT), .int (nI nS), .ref (a + 3), .ref (a + 4)])), ((a + 4), .inl (κ 2, 131, .inr (.inl sw))), ((bS j), .inr (1, [.int (nI (kd j)), .int (nI (sp j)), .ref ((bS j) + 1), .ref ((bS j) + 2), .ref ((bS j) + 3), .int (nI (ca j)), .int (nI (cr j))]))] := D_of hnd (by simp only [List.map, List.nodup_cons, List.mem_cons, List.not_mem_nil, or_false, not_or, List.nodup_nil, and_true, not_false_eq_true, List.forall_mem_cons, forall_eq_or_imp, forall_eq]; omega)
                  have hD := hD0.self (sz := s.heap.size)
                  have hAb : ∀ x9, va_A [(a, .inr (2, [.long sd, .ref (a + 1), .ref (a + 2), .int (nI nT), .int (nI nS), .ref (a + 3), .ref (a + 4)])), ((a + 4), .inl (κ 2, 131, .inr (.inl sw))), ((bS j), .inr (1, [.int (nI (kd j)), .int (nI (sp j)), .ref ((bS j) + 1), .ref ((bS j) + 2), .ref ((bS j) + 3), .int (nI (ca j)), .int (nI (cr j))]))] s.heap.size x9 → base ≤ x9 := fun x9 h => by rcases h with ⟨k9, e9, h⟩ | h; exact hD0.2 k9 _ h; exact Nat.le_trans hbs h
                  have hAq : ∀ x9, va_A [(a, .inr (2, [.long sd, .ref (a + 1), .ref (a + 2), .int (nI nT), .int (nI nS), .ref (a + 3), .ref (a + 4)])), ((a + 4), .inl (κ 2, 131, .inr (.inl sw))), ((bS j), .inr (1, [.int (nI (kd j)), .int (nI (sp j)), .ref ((bS j) + 1), .ref ((bS j) + 2), .ref ((bS j) + 3), .int (nI (ca j)), .int (nI (cr j))]))] s.heap.size x9 → (x9 = a ∨ x9 = (a + 4) ∨ x9 = (bS j)) ∨ s.heap.size ≤ x9 := fun x9 h => by have := A_addr h; simpa only [List.map, List.mem_cons, List.not_mem_nil, or_false] using this
                  have hAO : ∀ x9, va_A [(a, .inr (2, [.long sd, .ref (a + 1), .ref (a + 2), .int (nI nT), .int (nI nS), .ref (a + 3), .ref (a + 4)])), ((a + 4), .inl (κ 2, 131, .inr (.inl sw))), ((bS j), .inr (1, [.int (nI (kd j)), .int (nI (sp j)), .ref ((bS j) + 1), .ref ((bS j) + 2), .ref ((bS j) + 3), .int (nI (ca j)), .int (nI (cr j))]))] s.heap.size x9 → OwnC a nT nS bT bS s.heap.size x9 := fun x9 h => by exact ownS hj (by have := hAq x9 h; omega)
                  generalize hAe : va_A [(a, .inr (2, [.long sd, .ref (a + 1), .ref (a + 2), .int (nI nT), .int (nI nS), .ref (a + 3), .ref (a + 4)])), ((a + 4), .inl (κ 2, 131, .inr (.inl sw))), ((bS j), .inr (1, [.int (nI (kd j)), .int (nI (sp j)), .ref ((bS j) + 1), .ref ((bS j) + 2), .ref ((bS j) + 3), .int (nI (ca j)), .int (nI (cr j))]))] s.heap.size = A at hD hAb hAq hAO
                  have hA : ∀ x9, s.heap.size ≤ x9 → A x9 := fun x9 h => by rw [← hAe]; exact Or.inr h
                  have hS : va_S A s.heap s.heap [] := va_S.rf
                  refine lv_aload_n hx hb dP_permuted_76 rfl (lv_at hl 0 rfl) ?_
                  refine lv_iload hx hb dP_permuted_77 (lv_at hl 4 rfl) ?_
                  refine lv_iload hx hb dP_permuted_79 (lv_at hl 3 rfl) ?_
                  refine lv_aload_n hx hb dP_permuted_81 rfl (lv_at hl 2 rfl) ?_
                  refine va_getN (D := D) (ci := 1) (v := .int (nI (sp j))) (C := RS) (T := FS) (N := 7) hx hb hT inS hown hK hP 2 rfl rfl 1 (by decide) (va_Nw.use rfl (kN74 hE.2.1)) (fun _ h9 => h9) rfl dP_permuted_82 ?_
                  have hFc := va_free (wc := [(a, .inr (2, [.long sd, .ref (a + 1), .ref (a + 2), .int (nI nT), .int (nI nS), .ref (a + 3), .ref (a + 4)])), ((a + 4), .inl (κ 2, 131, .inr (.inl sw)))]) hD hS hA [0, 1] rfl
                  have hPc := hP.sub (ws' := [(a, .inr (2, [.long sd, .ref (a + 1), .ref (a + 2), .int (nI nT), .int (nI nS), .ref (a + 3), .ref (a + 4)])), ((a + 4), .inl (κ 2, 131, .inr (.inl sw)))]) [0, 1] rfl
                  have hDc := (hD.sub (ws' := [(a, .inr (2, [.long sd, .ref (a + 1), .ref (a + 2), .int (nI nT), .int (nI nS), .ref (a + 3), .ref (a + 4)])), ((a + 4), .inl (κ 2, 131, .inr (.inl sw)))]) [0, 1] (by decide) rfl).weaken (fun _ _ _ h => hAb _ h)
                  have hbc : base ≤ s.heap.size := Nat.le_trans hbs hS.1
                  refine x_callW (va_runV (As := [.int (nI (rkS (rk j) (sp j) 26)), .int (nI (rkC (rk j) (sp j) 26)), .int (nI (sp j))]) (rest := []) ⟨hx, hb, hml, hown, hT⟩ (c_P_waysAsFarAs l D κ base s.heap (rkS (rk j) (sp j) 26) (rkC (rk j) (sp j) 26) (sp j) (by omega) (by omega) hsp.2.2 (by omega) hPc hDc hbc) (cwV 3 hT (TT_V kP131 kiP_waysAsFarAs ksP_waysAsFarAs knP kcP_waysAsFarAs) rfl rfl rfl (by decide +kernel) ⟨Nat.le_of_ble_eq_true rfl, Nat.le_of_ble_eq_true rfl⟩) (pcV hE hS hAb (va_recv hK hP (ci := 2) (q0 := 0) rfl rfl)) rfl rfl hl.1 rfl (lv_room (Nat.le_of_ble_eq_true rfl)) dP_permuted_85 ⟨Nat.le_of_ble_eq_true rfl, Nat.le_of_ble_eq_true rfl⟩) hS (fun q h => hFc q h) (fun v H1 h => by obtain ⟨S9, h9⟩ := h; exact Pst.fr hFc h9) (fun v H locs hpost hS => ?_)
                  obtain ⟨S2, rfl, hP1, hD1, hz1, hk1⟩ := hpost
                  obtain ⟨hP, hD⟩ := va_join (wr := [((bS j), .inr (1, [.int (nI (kd j)), .int (nI (sp j)), .ref ((bS j) + 1), .ref ((bS j) + 2), .ref ((bS j) + 3), .int (nI (ca j)), .int (nI (cr j))]))]) (w1 := [(a, .inr (2, [.long sd, .ref (a + 1), .ref (a + 2), .int (nI nT), .int (nI nS), .ref (a + 3), .ref (a + 4)])), ((a + 4), .inl (κ 2, 131, .inr (.inl S2)))]) hP hD [0, 1] [2] rfl rfl (by decide) (by decide) hk1 hFc hP1 hD1
                  have hP : va_P D vwCl [((bS j), .inr (1, [.int (nI (kd j)), .int (nI (sp j)), .ref ((bS j) + 1), .ref ((bS j) + 2), .ref ((bS j) + 3), .int (nI (ca j)), .int (nI (cr j))])), (a, .inr (2, [.long sd, .ref (a + 1), .ref (a + 2), .int (nI nT), .int (nI nS), .ref (a + 3), .ref (a + 4)])), ((a + 4), .inl (κ 2, 131, .inr (.inl S2)))] H := hP
                  have hD : va_D A [((bS j), .inr (1, [.int (nI (kd j)), .int (nI (sp j)), .ref ((bS j) + 1), .ref ((bS j) + 2), .ref ((bS j) + 3), .int (nI (ca j)), .int (nI (cr j))])), (a, .inr (2, [.long sd, .ref (a + 1), .ref (a + 2), .int (nI nT), .int (nI nS), .ref (a + 3), .ref (a + 4)])), ((a + 4), .inl (κ 2, 131, .inr (.inl S2)))] := hD
                  refine W.eq (g2 := F0 m 88 ls [.long (lN (wfC (rkS (rk j) (sp j) 26) (rkC (rk j) (sp j) 26) (sp j)))]) rfl ?_
                  refine lv_lstore (lv' := [(6, .long (lN (wfC (rkS (rk j) (sp j) 26) (rkC (rk j) (sp j) 26) (sp j)))), (0, .ref a), (2, .int (nI 1)), (3, .ref (bS j)), (4, .int (nI (rkC (rk j) (sp j) 26))), (5, .int (nI (rkS (rk j) (sp j) 26)))]) hx hb dP_permuted_88 hl (by decide) rfl (fun ls hl => ?_)
                  refine lv_lload hx hb dP_permuted_90 (lv_at hl 0 rfl) ?_
                  refine lv_aload_n hx hb dP_permuted_92 rfl (lv_at hl 3 rfl) ?_
                  refine va_getN (D := D) (ci := 1) (v := .int (nI (sp j))) (C := RS) (T := FS) (N := 7) hx hb hT inS hown hK hP 0 rfl rfl 1 (by decide) (va_Nw.use rfl (kN74 hE.2.1)) (fun _ h9 => h9) rfl dP_permuted_93 ?_
                  refine lv_iload hx hb dP_permuted_96 (lv_at hl 4 rfl) ?_
                  refine x_callP (v := .long (lN (sp j ^ rkC (rk j) (sp j) 26))) (va_runS (As := [.int (nI (sp j)), .int (nI (rkC (rk j) (sp j) 26))]) (rest := [.long (lN (wfC (rkS (rk j) (sp j) 26) (rkC (rk j) (sp j) 26) (sp j)))]) ⟨hx, hb, hml, hown, hT⟩ (c_P_power l D κ base H (sp j) (rkC (rk j) (sp j) 26) (by omega) (by omega)) (va_cwS 2 hT (TT_S kP106 ktP_power knP kcP_power) rfl rfl rfl (by decide +kernel) ⟨Nat.le_of_ble_eq_true rfl, Nat.le_of_ble_eq_true rfl⟩) (pcS hE hS hAb) rfl rfl hl.1 rfl (lv_room (Nat.le_of_ble_eq_true rfl)) dP_permuted_98 ⟨Nat.le_of_ble_eq_true rfl, Nat.le_of_ble_eq_true rfl⟩) ?_
                  refine lv_iload_n hx hb dP_permuted_101 rfl (lv_at hl 2 rfl) ?_
                  have hp9 := pow5_lt (n := sp j) (m := rkC (rk j) (sp j) 26) hsp.2.2 (by omega)
                  have hw9 := wfC_le (rkS (rk j) (sp j) 26) (rkC (rk j) (sp j) 26) (sp j)
                  refine x_callP (v := .long (lN (rdp (wfC (rkS (rk j) (sp j) 26) (rkC (rk j) (sp j) 26) (sp j)) (sp j ^ rkC (rk j) (sp j) 26) 1))) (va_runS (As := [.long (lN (wfC (rkS (rk j) (sp j) 26) (rkC (rk j) (sp j) 26) (sp j))), .long (lN (sp j ^ rkC (rk j) (sp j) 26)), .int (nI 1)]) (rest := []) ⟨hx, hb, hml, hown, hT⟩ (c_P_reducedPart l D κ base H (wfC (rkS (rk j) (sp j) 26) (rkC (rk j) (sp j) 26) (sp j)) (sp j ^ rkC (rk j) (sp j) 26) 1 (by omega) hp9 (Nat.pow_pos (by omega)) (by decide)) (va_cwS 3 hT (TT_S kP110 ktP_reducedPart knP kcP_reducedPart) rfl rfl rfl (by decide +kernel) ⟨Nat.le_of_ble_eq_true rfl, Nat.le_of_ble_eq_true rfl⟩) (pcS hE hS hAb) rfl rfl hl.1 rfl (lv_room (Nat.le_of_ble_eq_true rfl)) dP_permuted_102 ⟨Nat.le_of_ble_eq_true rfl, Nat.le_of_ble_eq_true rfl⟩) ?_
                  have hP := hP.sub (ws' := [(a, .inr (2, [.long sd, .ref (a + 1), .ref (a + 2), .int (nI nT), .int (nI nS), .ref (a + 3), .ref (a + 4)])), ((a + 4), .inl (κ 2, 131, .inr (.inl S2))), ((bS j), .inr (1, [.int (nI (kd j)), .int (nI (sp j)), .ref ((bS j) + 1), .ref ((bS j) + 2), .ref ((bS j) + 3), .int (nI (ca j)), .int (nI (cr j))]))]) [1, 2, 0] rfl
                  have hD := hD.sub (ws' := [(a, .inr (2, [.long sd, .ref (a + 1), .ref (a + 2), .int (nI nT), .int (nI nS), .ref (a + 3), .ref (a + 4)])), ((a + 4), .inl (κ 2, 131, .inr (.inl S2))), ((bS j), .inr (1, [.int (nI (kd j)), .int (nI (sp j)), .ref ((bS j) + 1), .ref ((bS j) + 2), .ref ((bS j) + 3), .int (nI (ca j)), .int (nI (cr j))]))]) [1, 2, 0] (by decide) rfl
                  exact W.lret (v := lN (rdp (wfC (rkS (rk j) (sp j) 26) (rkC (rk j) (sp j) 26) (sp j)) (sp j ^ rkC (rk j) (sp j) 26) 1)) hx hb hr (fun t ht hW => ⟨some (.long (lN (rdp (wfC (rkS (rk j) (sp j) 26) (rkC (rk j) (sp j) 26) (sp j)) (sp j ^ rkC (rk j) (sp j) 26) 1))), rfl, by rw [ht]; exact ⟨by rw [p4 j 1 hj rfl hk (by decide) rfl g9], RC_sw hR0 hj hAq hS.1 hS.2.1 hP, ⟨hS.1, fun q h1 h2 => hS.2.1 q h1 (fun z => h2 (hAO q z))⟩⟩⟩) (fun q h => hAO _ (hS.2.2 q h)) dP_permuted_105
                · refine lv_ldc2 (v := -1) hx hb hown (hT _ kP100) dP_permuted_72 ?_
                  exact W.lret (v := -1) hx hb hr (fun t ht hW => ⟨some (.long (-1)), rfl, by rw [ht]; exact ⟨by rw [p3 j hj rfl g9], hR0, FrC.rf⟩⟩) (fun q h => absurd h List.not_mem_nil) dP_permuted_75
              · refine lv_aload_n hx hb dP_permuted_37 rfl (lv_at hl 2 rfl) ?_
                refine lv_iload hx hb dP_permuted_38 (lv_at hl 5 rfl) ?_
                by_cases hall : rkAll (rk j) (sp j) t = true
                · refine x_callP (v := .int (nI 1)) (va_runS (As := [.ref (bS j), .int (nI t)]) (rest := []) ⟨hx, hb, hml, hown, hT⟩ (c_P_hasRankedAll l D κ base s.heap (hP.sub [3, 4] rfl) hsp.2.2 t (by omega) 1 (fun _ => rfl) (fun h => by obtain ⟨k, h8, h9⟩ := h; exact absurd (nI_inj (by have := hrk (t * 5 + k) (by omega); omega) (by decide) h9) (of_decide_eq_true hall k h8))) (va_cwS 2 hT (TT_S kP127 ktP_hasRankedAll knP kcP_hasRankedAll) rfl rfl rfl (by decide +kernel) ⟨Nat.le_of_ble_eq_true rfl, Nat.le_of_ble_eq_true rfl⟩) (pcS hE hS hAb) rfl rfl hl.1 rfl (lv_room (Nat.le_of_ble_eq_true rfl)) dP_permuted_40 ⟨Nat.le_of_ble_eq_true rfl, Nat.le_of_ble_eq_true rfl⟩) ?_
                  refine x_zeq (a := 1) (tgt := 61) hx hb dP_permuted_43 (by decide) (by omega) (fun h7 => absurd h7 (by decide)) (fun h7 => ?_)
                  have c8 := rkC_le (rk j) (sp j) t
                  have c9 := rkS_le (rk j) (sp j) hrk t (by omega)
                  refine lv_iinc (v := nI (rkC (rk j) (sp j) t + 1)) (lv' := [(4, .int (nI (rkC (rk j) (sp j) t + 1))), (0, .ref a), (2, .int (nI 1)), (3, .ref (bS j)), (5, .int (nI (rkS (rk j) (sp j) t))), (6, .int (nI t))]) hx hb dP_permuted_46 hl (k := 3) rfl (nI_add _ _) (by decide) rfl (fun ls hl => ?_)
                  refine lv_iload hx hb dP_permuted_49 (lv_at hl 4 rfl) ?_
                  refine lv_aload_n hx hb dP_permuted_51 rfl (lv_at hl 3 rfl) ?_
                  refine lv_iload hx hb dP_permuted_52 (lv_at hl 5 rfl) ?_
                  refine lv_iconst (v := nI 0) hx hb dP_permuted_54 (by decide) ?_
                  refine x_callP (v := .int (nI (rk j (t * 5 + 0)))) (va_runS (As := [.ref (bS j), .int (nI t), .int (nI 0)]) (rest := [.int (nI (rkS (rk j) (sp j) t))]) ⟨hx, hb, hml, hown, hT⟩ (c_P_rankOf l D κ base s.heap (hP.sub [3, 4] rfl) t 0 (by omega) (by omega)) (va_cwS 3 hT (TT_S kP117 ktP_rankOf knP kcP_rankOf) rfl rfl rfl (by decide +kernel) ⟨Nat.le_of_ble_eq_true rfl, Nat.le_of_ble_eq_true rfl⟩) (pcS hE hS hAb) rfl rfl hl.1 rfl (lv_room (Nat.le_of_ble_eq_true rfl)) dP_permuted_55 ⟨Nat.le_of_ble_eq_true rfl, Nat.le_of_ble_eq_true rfl⟩) ?_
                  refine x_iadd (v := nI ((rkS (rk j) (sp j) t) + (rk j (t * 5 + 0)))) hx hb dP_permuted_58 (nI_add _ _) ?_
                  refine x_topn (b := rkS (rk j) (sp j) (t + 1)) (by rw [rkS, if_pos hall]; rfl) ?_
                  refine lv_istore (lv' := [(5, .int (nI (rkS (rk j) (sp j) (t + 1)))), (4, .int (nI (rkC (rk j) (sp j) t + 1))), (0, .ref a), (2, .int (nI 1)), (3, .ref (bS j)), (6, .int (nI t))]) hx hb dP_permuted_59 hl (by decide) rfl (fun ls hl => ?_)
                  refine lv_iinc (v := nI (t + 1)) (lv' := [(6, .int (nI (t + 1))), (5, .int (nI (rkS (rk j) (sp j) (t + 1)))), (4, .int (nI (rkC (rk j) (sp j) t + 1))), (0, .ref a), (2, .int (nI 1)), (3, .ref (bS j))]) hx hb dP_permuted_61 hl (k := 5) rfl (nI_add _ _) (by decide) rfl (fun ls hl => ?_)
                  refine lv_goto (tgt := 30) hx hb dP_permuted_64 (by decide) ?_
                  rw [show rkC (rk j) (sp j) t + 1 = rkC (rk j) (sp j) (t + 1) by rw [rkC, if_pos hall]] at hl
                  exact ih (t + 1) (by omega) (by omega) ls (lv_sub hl [3, 4, 5, 2, 1, 0] rfl)
                · refine x_callP (v := .int (nI 0)) (va_runS (As := [.ref (bS j), .int (nI t)]) (rest := []) ⟨hx, hb, hml, hown, hT⟩ (c_P_hasRankedAll l D κ base s.heap (hP.sub [3, 4] rfl) hsp.2.2 t (by omega) 0 (fun h => absurd (rkAll_of (fun k hk9 q => h k hk9 (by show nI (rk j (t * 5 + k)) = 0; rw [q]; exact nI_0))) hall) (fun _ => rfl)) (va_cwS 2 hT (TT_S kP127 ktP_hasRankedAll knP kcP_hasRankedAll) rfl rfl rfl (by decide +kernel) ⟨Nat.le_of_ble_eq_true rfl, Nat.le_of_ble_eq_true rfl⟩) (pcS hE hS hAb) rfl rfl hl.1 rfl (lv_room (Nat.le_of_ble_eq_true rfl)) dP_permuted_40 ⟨Nat.le_of_ble_eq_true rfl, Nat.le_of_ble_eq_true rfl⟩) ?_
                  refine x_zeq (a := 0) (tgt := 61) hx hb dP_permuted_43 (by decide) (by omega) (fun h8 => ?_) (fun h8 => absurd rfl h8)
                  refine lv_iinc (v := nI (t + 1)) (lv' := [(6, .int (nI (t + 1))), (0, .ref a), (2, .int (nI 1)), (3, .ref (bS j)), (4, .int (nI (rkC (rk j) (sp j) t))), (5, .int (nI (rkS (rk j) (sp j) t)))]) hx hb dP_permuted_61 hl (k := 5) rfl (nI_add _ _) (by decide) rfl (fun ls hl => ?_)
                  refine lv_goto (tgt := 30) hx hb dP_permuted_64 (by decide) ?_
                  rw [show rkC (rk j) (sp j) t = rkC (rk j) (sp j) (t + 1) by rw [rkC, if_neg hall]; rfl, show rkS (rk j) (sp j) t = rkS (rk j) (sp j) (t + 1) by rw [rkS, if_neg hall]; rfl] at hl
                  exact ih (t + 1) (by omega) (by omega) ls (lv_sub hl [1, 2, 3, 4, 5, 0] rfl)
          refine lv_iconst (v := nI 0) hx hb dP_permuted_21 (by decide) ?_
          refine lv_istore (lv' := [(4, .int (nI 0)), (3, .ref (bS j)), (0, .ref a), (1, .int (nI j)), (2, .int (nI 1))]) hx hb dP_permuted_22 hl (by decide) rfl (fun ls hl => ?_)
          refine lv_iconst (v := nI 0) hx hb dP_permuted_24 (by decide) ?_
          refine lv_istore (lv' := [(5, .int (nI 0)), (4, .int (nI 0)), (3, .ref (bS j)), (0, .ref a), (1, .int (nI j)), (2, .int (nI 1))]) hx hb dP_permuted_25 hl (by decide) rfl (fun ls hl => ?_)
          refine lv_iconst (v := nI 0) hx hb dP_permuted_27 (by decide) ?_
          refine lv_istore (lv' := [(6, .int (nI 0)), (5, .int (nI 0)), (4, .int (nI 0)), (3, .ref (bS j)), (0, .ref a), (1, .int (nI j)), (2, .int (nI 1))]) hx hb dP_permuted_28 hl (by decide) rfl (fun ls hl => ?_)
          exact loop 27 0 (by omega) (by omega) ls (lv_sub hl [4, 6, 3, 2, 1, 0] rfl)
        · refine x_callP (v := .int (nI 0)) (va_runS (As := [.int y]) (rest := []) ⟨hx, hb, hml, hown, hT⟩ (c_P_isPart l D κ base s.heap y 0 (by rw [if_neg]; intro q; rcases q with q | q; exact e2 q; exact e3 q)) (va_cwS 1 hT (TT_S kP96 ktP_isPart knP kcP_isPart) rfl rfl rfl (by decide +kernel) ⟨Nat.le_of_ble_eq_true rfl, Nat.le_of_ble_eq_true rfl⟩) (pcS hE hS hAb) rfl rfl hl.1 rfl (lv_room (Nat.le_of_ble_eq_true rfl)) dP_permuted_11 ⟨Nat.le_of_ble_eq_true rfl, Nat.le_of_ble_eq_true rfl⟩) ?_
          refine x_zne (a := 0) (tgt := 21) hx hb dP_permuted_14 (by decide) (by omega) (fun h9 => absurd rfl h9) (fun h9 => ?_)
          refine lv_ldc2 (v := -1) hx hb hown (hT _ kP100) dP_permuted_17 ?_
          exact W.lret (v := -1) hx hb hr (fun t ht hW => ⟨some (.long (-1)), rfl, by rw [ht]; exact ⟨by rw [p2 ⟨e2, e3⟩], hR0, FrC.rf⟩⟩) (fun q h => absurd h List.not_mem_nil) dP_permuted_20
    · refine lv_aload_n hx hb dP_permuted_0 rfl (lv_at hl 0 rfl) ?_
      refine lv_iload_n hx hb dP_permuted_1 rfl (lv_at hl 1 rfl) ?_
      refine x_callP (v := .null) (va_runV (As := [.int (nI j)]) (rest := []) ⟨hx, hb, hml, hown, hT⟩ (c_P_rankingAt_some l D κ base s.heap (hP.sub [0, 1, 3] rfl) j hj4 (by rw [hfS j hj4, if_pos hj]) (hb1 j hj).1.lt.1 (.null) (fun _ => rfl) (fun q => absurd q hk)) (cwV 1 hT (TT_V kP114 kiP_rankingAt ksP_rankingAt knP kcP_rankingAt) rfl rfl rfl (by decide +kernel) ⟨Nat.le_of_ble_eq_true rfl, Nat.le_of_ble_eq_true rfl⟩) (pcV hE hS hAb (va_recv hK hP (ci := 2) (q0 := 0) rfl rfl)) rfl rfl hl.1 rfl (lv_room (Nat.le_of_ble_eq_true rfl)) dP_permuted_2 ⟨Nat.le_of_ble_eq_true rfl, Nat.le_of_ble_eq_true rfl⟩) ?_
      refine lv_astore_nN (lv' := [(3, .null), (0, .ref a), (1, .int (nI j)), (2, .int y)]) hx hb dP_permuted_5 rfl hl (by decide) rfl (fun ls hl => ?_)
      refine lv_aload_nN hx hb dP_permuted_6 rfl (lv_at hl 0 rfl) ?_
      refine lv_ifnullN (tgt := 17) hx hb dP_permuted_7 (by decide) ?_
      refine lv_ldc2 (v := -1) hx hb hown (hT _ kP100) dP_permuted_17 ?_
      exact W.lret (v := -1) hx hb hr (fun t ht hW => ⟨some (.long (-1)), rfl, by rw [ht]; exact ⟨by rw [p1 j hj rfl hk], hR0, FrC.rf⟩⟩) (fun q h => absurd h List.not_mem_nil) dP_permuted_20
end
section
/-! the model: pure methods and reads -/
def facN : Nat → Nat
  | 0 => 1
  | k + 1 => facN k * (k + 1)
def frow (n pl : Nat) : Nat := facN (n - pl - 1)
theorem frow_ex {n pl mm : Nat} (h1 : 2 ≤ mm) (h2 : mm = 2 ∨ mm ≤ n - pl) (h3 : n - pl ≤ mm) (h4 : 1 ≤ n - pl) : facN (mm - 1) = frow n pl := by
  unfold frow
  rcases (show mm = n - pl ∨ (mm = 2 ∧ n - pl = 1) by omega) with e | ⟨e, e2⟩
  · rw [e]
  · rw [e, e2]
    rfl
theorem facN_ok : ∀ k, k < 6 → facN k = tFACT.getD k 0 := by decide
theorem facN_b : ∀ k, k < 6 → 0 < facN k ∧ facN k ≤ 120 := by decide
def itW : Nat → Int32 → Int32 → Int32 → Option Int32
  | 0, _, _, _ => none
  | f + 1, u, fd, sk => if sk < 0 then some fd else itW f u (fd + (1)) (sk - (if (u >>> ((fd + (1)) &&& 31)) &&& nI 1 = 0 then nI 1 else nI 0))
def itO (n : Nat) : Nat → Nat → Int32 → Nat → Int32 → Option Int32
  | 0, _, _, _, fd => some fd
  | f + 1, pl, u, lf, _ => (itW 16 u (-1) (nI (lf / frow n pl))).bind fun g => itO n f (pl + 1) (u ||| (nI 1 <<< (g &&& 31))) (lf % frow n pl) g
theorem it_ok2 : ∀ o, o < 2 → ∀ k, k < 2 → itO 2 (k + 1) 0 (nI 0) o (nI 0) = some (siI 2 (k + 1) 0 (nI 0) o (-1)) := by decide +kernel
theorem it_ok3 : ∀ o, o < 6 → ∀ k, k < 3 → itO 3 (k + 1) 0 (nI 0) o (nI 0) = some (siI 3 (k + 1) 0 (nI 0) o (-1)) := by decide +kernel
theorem it_ok4 : ∀ o, o < 24 → ∀ k, k < 4 → itO 4 (k + 1) 0 (nI 0) o (nI 0) = some (siI 4 (k + 1) 0 (nI 0) o (-1)) := by decide +kernel
theorem it_ok5 : ∀ o, o < 120 → ∀ k, k < 5 → itO 5 (k + 1) 0 (nI 0) o (nI 0) = some (siI 5 (k + 1) 0 (nI 0) o (-1)) := by decide +kernel
theorem it_ok {n o k : Nat} (h1 : 2 ≤ n) (h2 : n ≤ 5) (ho : o < tFACT.getD n 0) (hk : k < n) : itO n (k + 1) 0 (nI 0) o (nI 0) = some (siI n (k + 1) 0 (nI 0) o (-1)) := by
  rcases (show n = 2 ∨ n = 3 ∨ n = 4 ∨ n = 5 by omega) with rfl | rfl | rfl | rfl
  · exact it_ok2 o ho k hk
  · exact it_ok3 o ho k hk
  · exact it_ok4 o ho k hk
  · exact it_ok5 o ho k hk
theorem gcd_nx (d r : Nat) : Nat.gcd r (d % r) = Nat.gcd d r := by
  rw [Nat.gcd_comm r (d % r), ← Nat.gcd_rec, Nat.gcd_comm]
/-- how many of the first p have answered test t -/
def cnA (ma : Nat → Nat) (t : Nat) : Nat → Nat
  | 0 => 0
  | p + 1 => cnA ma t p + (if 0 < ma (26 * t + p) then 1 else 0)
theorem cnA_le (ma : Nat → Nat) (t : Nat) : ∀ p, cnA ma t p ≤ p
  | 0 => Nat.le_refl 0
  | p + 1 => by
    have := cnA_le ma t p
    unfold cnA
    split <;> omega
def fstN (kd : Nat) : Nat := if kd = 0 then 0 else if kd = 1 then 6 else 8
set_option maxHeartbeats 400000 in
set_option maxRecDepth 100000 in
theorem c_M_power (l : Launch) (D : va_G) (κ : Nat → ClassId) (base : Nat) (H0 : Heap) (b t : Nat) (h2 : t < 2 ^ 31) : Met l yM_power wM_power ({ frames := 0, cells := 0, slots := 0, locals := 0 }) (Pq D κ base [.long (lN b), .int (nI t)] H0) (q_P (some (.long (lN (b ^ t))))) 0 0 (fun _ => False) := by
  refine Met.ofW (cc := bM_power) (maxL := 6) (ret := (some FieldType.long)) (by decide) rfl ?_
  intro p e s m args below meth c s₁ B hml hv
  obtain ⟨rfl, hH, hE⟩ := hv
  subst hH
  have hx := B.exec
  have hb := B.bytes
  have hr := B.returns
  have hT : ∀ w ∈ TT, w.before _ s = true := fun w h => atoms_spec (ws := wM_power) B.pre w (List.mem_cons_of_mem _ h)
  have hown : s.vm.findClass "TasterPanelsModel" = some m.cls := findClass_of_methodNamed B.named
  have hlocks := B.notSynchronized
  have hK := hE.1
  have hS : va_S (fun q => base ≤ q) s.heap s.heap [] := va_S.rf
  have hAb : ∀ q : Nat, (fun q : Nat => base ≤ q) q → base ≤ q := fun _ h => h
  have hl := lv_entry ([.long (lN b), .int (nI t)]) (n := 6) (Nat.le_of_ble_eq_true rfl)
  rw [lg_entry_eq]
  generalize (lg_sl ([.long (lN b), .int (nI t)]) ++ List.replicate (6 - (lg_sl ([.long (lN b), .int (nI t)])).length) Slot.unset).toArray = ls at hl ⊢
  have hl : lv_has ls 6 [(0, .long (lN b)), (2, .int (nI t))] := hl
  have loop : ∀ (fu : Nat) (i : Nat), (i ≤ t) → t - i < fu → ∀ ls : Array Slot, lv_has ls 6 [(0, .long (lN b)), (2, .int (nI t)), (3, .long (lN (b ^ i))), (5, .int (nI i))] → W p l e (headSpec wM_power ({ frames := 0, cells := 0, slots := 0, locals := 0 })).room s m ([.long (lN b), .int (nI t)] : List Value).toArray below meth c s.heap [] 0 0 (MQ below (q_P (some (.long (lN (b ^ t))))) ([.long (lN b), .int (nI t)] : List Value).toArray s 0 0 (fun _ => False)) (F0 m 5 ls []) := by
    intro fu
    induction fu with
    | zero =>
      intro i hi hmu
      exact absurd hmu (Nat.not_lt_zero _)
    | succ fu ih =>
      intro i hi hmu ls hl
      refine lv_iload hx hb dM_power_5 (lv_at hl 3 rfl) ?_
      refine lv_iload_n hx hb dM_power_7 rfl (lv_at hl 1 rfl) ?_
      refine x_cge (a := i) (b := t) (tgt := 21) hx hb dM_power_8 (by decide) (by omega) (by omega) (fun h1 => ?_) (fun h1 => ?_)
      · have e1 : i = t := by omega
        subst e1
        refine lv_lload_n hx hb dM_power_21 rfl (lv_at hl 2 rfl) ?_
        exact W.lret (v := lN (b ^ i)) hx hb hr (fun t ht hW => ⟨rfl, ht⟩) (fun q h => absurd h List.not_mem_nil) dM_power_22
      · refine lv_lload_n hx hb dM_power_11 rfl (lv_at hl 2 rfl) ?_
        refine lv_lload_n hx hb dM_power_12 rfl (lv_at hl 0 rfl) ?_
        refine x_lmul (v := lN ((b ^ i) * b)) hx hb dM_power_13 (lN_mul _ _) ?_
        refine x_topl (y := lN (b ^ (i + 1))) (by rw [Nat.pow_succ]) ?_
        refine lv_lstore_n (lv' := [(3, .long (lN (b ^ (i + 1)))), (0, .long (lN b)), (2, .int (nI t)), (5, .int (nI i))]) hx hb dM_power_14 rfl hl (by decide) rfl (fun ls hl => ?_)
        refine lv_iinc (v := nI (i + 1)) (lv' := [(5, .int (nI (i + 1))), (3, .long (lN (b ^ (i + 1)))), (0, .long (lN b)), (2, .int (nI t))]) hx hb dM_power_15 hl (k := 3) rfl (nI_add _ _) (by decide) rfl (fun ls hl => ?_)
        refine lv_goto (tgt := 5) hx hb dM_power_18 (by decide) ?_
        exact ih (i + 1) (by omega) (by omega) ls (lv_sub hl [2, 3, 1, 0] rfl)
  refine lv_lconst (v := lN 1) hx hb dM_power_0 (by decide) ?_
  refine lv_lstore_n (lv' := [(3, .long (lN 1)), (0, .long (lN b)), (2, .int (nI t))]) hx hb dM_power_1 rfl hl (by decide) rfl (fun ls hl => ?_)
  refine lv_iconst (v := nI 0) hx hb dM_power_2 (by decide) ?_
  refine lv_istore (lv' := [(5, .int (nI 0)), (3, .long (lN 1)), (0, .long (lN b)), (2, .int (nI t))]) hx hb dM_power_3 hl (by decide) rfl (fun ls hl => ?_)
  exact loop (t + 1) 0 (Nat.zero_le _) (by omega) ls (lv_sub hl [2, 3, 1, 0] rfl)
set_option maxHeartbeats 400000 in
set_option maxRecDepth 100000 in
theorem c_M_reduced (l : Launch) (D : va_G) (κ : Nat → ClassId) (base : Nat) (H0 : Heap) (a b q : Nat) (ha : a < 2 ^ 63) (hb0 : b < 2 ^ 63) (hb1 : 0 < b) (hq : q < 2) : Met l yM_reduced wM_reduced ({ frames := 0, cells := 0, slots := 0, locals := 0 }) (Pq D κ base [.long (lN a), .long (lN b), .int (nI q)] H0) (q_P (some (.long (lN ((if q = 0 then a else b) / Nat.gcd b a))))) 0 0 (fun _ => False) := by
  refine Met.ofW (cc := bM_reduced) (maxL := 11) (ret := (some FieldType.long)) (by decide) rfl ?_
  intro p e s m args below meth c s₁ B hml hv
  obtain ⟨rfl, hH, hE⟩ := hv
  subst hH
  have hx := B.exec
  have hb := B.bytes
  have hr := B.returns
  have hT : ∀ w ∈ TT, w.before _ s = true := fun w h => atoms_spec (ws := wM_reduced) B.pre w (List.mem_cons_of_mem _ h)
  have hown : s.vm.findClass "TasterPanelsModel" = some m.cls := findClass_of_methodNamed B.named
  have hlocks := B.notSynchronized
  have hK := hE.1
  have hS : va_S (fun q => base ≤ q) s.heap s.heap [] := va_S.rf
  have hAb : ∀ q : Nat, (fun q : Nat => base ≤ q) q → base ≤ q := fun _ h => h
  have hl := lv_entry ([.long (lN a), .long (lN b), .int (nI q)]) (n := 11) (Nat.le_of_ble_eq_true rfl)
  rw [lg_entry_eq]
  generalize (lg_sl ([.long (lN a), .long (lN b), .int (nI q)]) ++ List.replicate (11 - (lg_sl ([.long (lN a), .long (lN b), .int (nI q)])).length) Slot.unset).toArray = ls at hl ⊢
  have hl : lv_has ls 11 [(0, .long (lN a)), (2, .long (lN b)), (4, .int (nI q))] := hl
  have loop : ∀ (fu : Nat) (d r : Nat), (d < 2 ^ 63) → (r < 2 ^ 63) → (0 < d) → (Nat.gcd d r = Nat.gcd b a) → r < fu → ∀ ls : Array Slot, lv_has ls 11 [(0, .long (lN a)), (2, .long (lN b)), (4, .int (nI q)), (5, .long (lN d)), (7, .long (lN r))] → W p l e (headSpec wM_reduced ({ frames := 0, cells := 0, slots := 0, locals := 0 })).room s m ([.long (lN a), .long (lN b), .int (nI q)] : List Value).toArray below meth c s.heap [] 0 0 (MQ below (q_P (some (.long (lN ((if q = 0 then a else b) / Nat.gcd b a))))) ([.long (lN a), .long (lN b), .int (nI q)] : List Value).toArray s 0 0 (fun _ => False)) (F0 m 6 ls []) := by
    intro fu
    induction fu with
    | zero =>
      intro d r hd hr1 hd0 heq hmu
      exact absurd hmu (Nat.not_lt_zero _)
    | succ fu ih =>
      intro d r hd hr1 hd0 heq hmu ls hl
      refine lv_lload hx hb dM_reduced_6 (lv_at hl 4 rfl) ?_
      refine lv_lconst (v := lN 0) hx hb dM_reduced_8 (by decide) ?_
      refine x_lle (tgt := 31) hx hb dM_reduced_9 dM_reduced_10 (by decide) (fun g1 => ?_) (fun g1 => ?_)
      · have e1 : r = 0 := by have := (pk_lLE hr1 (by decide : 0 < 2 ^ 63)).mp g1; omega
        have e2 : d = Nat.gcd b a := by rw [← heq, e1, Nat.gcd_zero_right]
        refine lv_iload hx hb dM_reduced_31 (lv_at hl 2 rfl) ?_
        refine x_zne (a := q) (tgt := 43) hx hb dM_reduced_33 (by decide) (by omega) (fun g2 => ?_) (fun g2 => ?_)
        · refine lv_lload_n hx hb dM_reduced_43 rfl (lv_at hl 1 rfl) ?_
          refine lv_lload hx hb dM_reduced_44 (lv_at hl 3 rfl) ?_
          refine x_ldiv (v := lN (b / d)) hx hb dM_reduced_46 (lN_ne0 (hd0) (hd)) (pk_lDiv (by assumption) (hd0) (hd)) ?_
          refine x_topl (y := lN ((if q = 0 then a else b) / Nat.gcd b a)) (by rw [if_neg g2, e2]) ?_
          exact W.lret (v := lN ((if q = 0 then a else b) / Nat.gcd b a)) hx hb hr (fun t ht hW => ⟨rfl, ht⟩) (fun q h => absurd h List.not_mem_nil) dM_reduced_47
        · refine lv_lload_n hx hb dM_reduced_36 rfl (lv_at hl 0 rfl) ?_
          refine lv_lload hx hb dM_reduced_37 (lv_at hl 3 rfl) ?_
          refine x_ldiv (v := lN (a / d)) hx hb dM_reduced_39 (lN_ne0 (hd0) (hd)) (pk_lDiv (by assumption) (hd0) (hd)) ?_
          refine lv_goto (tgt := 47) hx hb dM_reduced_40 (by decide) ?_
          refine x_topl (y := lN ((if q = 0 then a else b) / Nat.gcd b a)) (by rw [if_pos g2, e2]) ?_
          exact W.lret (v := lN ((if q = 0 then a else b) / Nat.gcd b a)) hx hb hr (fun t ht hW => ⟨rfl, ht⟩) (fun q h => absurd h List.not_mem_nil) dM_reduced_47
      · have hr0 : 0 < r := Nat.pos_of_ne_zero (fun q => g1 (by rw [q]; exact Int64.le_refl _))
        refine lv_lload hx hb dM_reduced_13 (lv_at hl 3 rfl) ?_
        refine lv_lload hx hb dM_reduced_15 (lv_at hl 4 rfl) ?_
        refine x_lrem (v := lN (d % r)) hx hb dM_reduced_17 (lN_ne0 (hr0) (hr1)) (pk_lRem (hd) (hr0) (hr1)) ?_
        refine lv_lstore (lv' := [(9, .long (lN (d % r))), (0, .long (lN a)), (2, .long (lN b)), (4, .int (nI q)), (5, .long (lN d)), (7, .long (lN r))]) hx hb dM_reduced_18 hl (by decide) rfl (fun ls hl => ?_)
        refine lv_lload hx hb dM_reduced_20 (lv_at hl 5 rfl) ?_
        refine lv_lstore (lv' := [(5, .long (lN r)), (9, .long (lN (d % r))), (0, .long (lN a)), (2, .long (lN b)), (4, .int (nI q)), (7, .long (lN r))]) hx hb dM_reduced_22 hl (by decide) rfl (fun ls hl => ?_)
        refine lv_lload hx hb dM_reduced_24 (lv_at hl 1 rfl) ?_
        refine lv_lstore (lv' := [(7, .long (lN (d % r))), (5, .long (lN r)), (9, .long (lN (d % r))), (0, .long (lN a)), (2, .long (lN b)), (4, .int (nI q))]) hx hb dM_reduced_26 hl (by decide) rfl (fun ls hl => ?_)
        refine lv_goto (tgt := 6) hx hb dM_reduced_28 (by decide) ?_
        exact ih r (d % r) hr1 (Nat.lt_trans (Nat.mod_lt _ hr0) hr1) hr0 ((gcd_nx d r).trans heq) (Nat.lt_of_lt_of_le (Nat.mod_lt _ hr0) (Nat.le_of_lt_succ hmu)) ls (lv_sub hl [3, 4, 5, 1, 0] rfl)
  refine lv_lload_n hx hb dM_reduced_0 rfl (lv_at hl 1 rfl) ?_
  refine lv_lstore (lv' := [(5, .long (lN b)), (0, .long (lN a)), (2, .long (lN b)), (4, .int (nI q))]) hx hb dM_reduced_1 hl (by decide) rfl (fun ls hl => ?_)
  refine lv_lload_n hx hb dM_reduced_3 rfl (lv_at hl 1 rfl) ?_
  refine lv_lstore (lv' := [(7, .long (lN a)), (5, .long (lN b)), (0, .long (lN a)), (2, .long (lN b)), (4, .int (nI q))]) hx hb dM_reduced_4 hl (by decide) rfl (fun ls hl => ?_)
  exact loop (a + 1) b a hb0 ha hb1 rfl (by omega) ls (lv_sub hl [2, 3, 4, 1, 0] rfl)
set_option maxHeartbeats 400000 in
set_option maxRecDepth 100000 in
theorem c_M_strength (l : Launch) (D : va_G) (κ : Nat → ClassId) (base : Nat) (H0 : Heap) (k : Nat) (hk : k < 16) : Met l yM_strength wM_strength ({ frames := 0, cells := 0, slots := 0, locals := 0 }) (Pq D κ base [.int (nI k)] H0) (q_P (some (.double (strv k)))) 0 0 (fun _ => False) := by
  refine Met.ofW (cc := bM_strength) (maxL := 1) (ret := (some FieldType.double)) (by decide) rfl ?_
  intro p e s m args below meth c s₁ B hml hv
  obtain ⟨rfl, hH, hE⟩ := hv
  subst hH
  have hx := B.exec
  have hb := B.bytes
  have hr := B.returns
  have hT : ∀ w ∈ TT, w.before _ s = true := fun w h => atoms_spec (ws := wM_strength) B.pre w (List.mem_cons_of_mem _ h)
  have hown : s.vm.findClass "TasterPanelsModel" = some m.cls := findClass_of_methodNamed B.named
  have hlocks := B.notSynchronized
  have hK := hE.1
  have hS : va_S (fun q => base ≤ q) s.heap s.heap [] := va_S.rf
  have hAb : ∀ q : Nat, (fun q : Nat => base ≤ q) q → base ≤ q := fun _ h => h
  have hl := lv_entry ([.int (nI k)]) (n := 1) (Nat.le_of_ble_eq_true rfl)
  rw [lg_entry_eq]
  generalize (lg_sl ([.int (nI k)]) ++ List.replicate (1 - (lg_sl ([.int (nI k)])).length) Slot.unset).toArray = ls at hl ⊢
  have hl : lv_has ls 1 [(0, .int (nI k))] := hl
  refine lv_iconst (v := nI 1) hx hb dM_strength_0 (by decide) ?_
  refine lv_iload_n hx hb dM_strength_1 rfl (lv_at hl 0 rfl) ?_
  refine x_ishl (v := (nI 1) <<< ((nI k) &&& 31)) hx hb dM_strength_2 (rfl) ?_
  refine lv_i2d hx hb dM_strength_3 ?_
  refine lv_ldc2d (v := 4620693217682128896) hx hb hown (hT _ kM123) dM_strength_4 ?_
  refine lv_ddiv hx hb dM_strength_7 (strv_ok k hk) ?_
  exact W.dret (v := FP.ddiv (FP.i2d ((nI 1) <<< ((nI k) &&& 31))) 4620693217682128896) hx hb hr (fun t ht hW => ⟨rfl, ht⟩) (fun q h => absurd h List.not_mem_nil) dM_strength_8
set_option maxHeartbeats 400000 in
set_option maxRecDepth 100000 in
theorem c_M_item (l : Launch) (D : va_G) (κ : Nat → ClassId) (base : Nat) (H0 : Heap) (n o k : Nat) (hn : n ≤ 5) (ho : o < 2 ^ 31) (hk : k < n) (r : Int32) (hr0 : itO n (k + 1) 0 (nI 0) o (nI 0) = some r) : Met l yM_item wM_item ({ frames := 0, cells := 0, slots := 0, locals := 0 }) (Pq D κ base [.int (nI n), .int (nI o), .int (nI k)] H0) (q_P (some (.int r))) 0 0 (fun _ => False) := by
  refine Met.ofW (cc := bM_item) (maxL := 9) (ret := (some FieldType.int)) (by decide) rfl ?_
  intro p e s m args below meth c s₁ B hml hv
  obtain ⟨rfl, hH, hE⟩ := hv
  subst hH
  have hx := B.exec
  have hb := B.bytes
  have hr := B.returns
  have hT : ∀ w ∈ TT, w.before _ s = true := fun w h => atoms_spec (ws := wM_item) B.pre w (List.mem_cons_of_mem _ h)
  have hown : s.vm.findClass "TasterPanelsModel" = some m.cls := findClass_of_methodNamed B.named
  have hlocks := B.notSynchronized
  have hK := hE.1
  have hS : va_S (fun q => base ≤ q) s.heap s.heap [] := va_S.rf
  have hAb : ∀ q : Nat, (fun q : Nat => base ≤ q) q → base ≤ q := fun _ h => h
  have hl := lv_entry ([.int (nI n), .int (nI o), .int (nI k)]) (n := 9) (Nat.le_of_ble_eq_true rfl)
  rw [lg_entry_eq]
  generalize (lg_sl ([.int (nI n), .int (nI o), .int (nI k)]) ++ List.replicate (9 - (lg_sl ([.int (nI n), .int (nI o), .int (nI k)])).length) Slot.unset).toArray = ls at hl ⊢
  have hl : lv_has ls 9 [(0, .int (nI n)), (1, .int (nI o)), (2, .int (nI k))] := hl
  have loop : ∀ (fu : Nat) (pl : Nat) (u : Int32) (lf : Nat) (fd : Int32), (pl ≤ k + 1) → (lf < 2 ^ 31) → (itO n (k + 1 - pl) pl u lf fd = some r) → k + 1 - pl < fu → ∀ ls : Array Slot, lv_has ls 9 [(0, .int (nI n)), (1, .int (nI o)), (2, .int (nI k)), (3, .int u), (4, .int (nI lf)), (5, .int fd), (6, .int (nI pl))] → W p l e (headSpec wM_item ({ frames := 0, cells := 0, slots := 0, locals := 0 })).room s m ([.int (nI n), .int (nI o), .int (nI k)] : List Value).toArray below meth c s.heap [] 0 0 (MQ below (q_P (some (.int r))) ([.int (nI n), .int (nI o), .int (nI k)] : List Value).toArray s 0 0 (fun _ => False)) (F0 m 11 ls []) := by
    intro fu
    induction fu with
    | zero =>
      intro pl u lf fd hpl hlf heq hmu
      exact absurd hmu (Nat.not_lt_zero _)
    | succ fu ih =>
      intro pl u lf fd hpl hlf heq hmu ls hl
      refine lv_iload hx hb dM_item_11 (lv_at hl 6 rfl) ?_
      refine lv_iload_n hx hb dM_item_13 rfl (lv_at hl 2 rfl) ?_
      refine x_cgt (a := pl) (b := k) (tgt := 105) hx hb dM_item_14 (by decide) (by omega) (by omega) (fun g1 => ?_) (fun g1 => ?_)
      · refine lv_iload hx hb dM_item_105 (lv_at hl 5 rfl) ?_
        rw [show k + 1 - pl = 0 by omega] at heq
        refine x_topi (y := r) (Option.some.inj heq) ?_
        exact W.iret (v := r) hx hb hr (fun t ht hW => ⟨rfl, ht⟩) (fun q h => absurd h List.not_mem_nil) dM_item_107
      · rw [show k + 1 - pl = (k + 1 - (pl + 1)) + 1 by omega, itO] at heq
        obtain ⟨f1, f2⟩ := facN_b (n - pl - 1) (by omega)
        have f3 : facN (n - pl - 1) = frow n pl := rfl
        obtain ⟨g, hg, heq2⟩ := Option.bind_eq_some_iff.mp heq
        have loopW : ∀ (fw : Nat) (fd sk : Int32), itW fw u fd sk = some g → ∀ ls : Array Slot, lv_has ls 9 [(0, .int (nI n)), (1, .int (nI o)), (2, .int (nI k)), (3, .int u), (4, .int (nI (lf % frow n pl))), (5, .int fd), (6, .int (nI pl)), (8, .int sk)] → W p l e (headSpec wM_item ({ frames := 0, cells := 0, slots := 0, locals := 0 })).room s m ([.int (nI n), .int (nI o), .int (nI k)] : List Value).toArray below meth c s.heap [] 0 0 (MQ below (q_P (some (.int r))) ([.int (nI n), .int (nI o), .int (nI k)] : List Value).toArray s 0 0 (fun _ => False)) (F0 m 62 ls []) := by
          intro fw
          induction fw with
          | zero =>
            intro fd sk hw
            cases hw
          | succ fw ihw =>
            intro fd sk hw ls hl
            refine lv_iload hx hb dM_item_62 (lv_at hl 7 rfl) ?_
            refine lv_if_lt (tgt := 92) hx hb dM_item_64 (by decide) (fun g5 => ?_) (fun g5 => ?_)
            · rw [itW, if_pos g5] at hw
              have e7 := Option.some.inj hw
              subst e7
              refine lv_iload_n hx hb dM_item_92 rfl (lv_at hl 3 rfl) ?_
              refine lv_iconst (v := nI 1) hx hb dM_item_93 (by decide) ?_
              refine lv_iload hx hb dM_item_94 (lv_at hl 5 rfl) ?_
              refine x_ishl (v := (nI 1) <<< (fd &&& 31)) hx hb dM_item_96 (rfl) ?_
              refine x_ior (v := u ||| ((nI 1) <<< (fd &&& 31))) hx hb dM_item_97 (rfl) ?_
              refine lv_istore_n (lv' := [(3, .int (u ||| ((nI 1) <<< (fd &&& 31)))), (0, .int (nI n)), (1, .int (nI o)), (2, .int (nI k)), (4, .int (nI (lf % frow n pl))), (5, .int fd), (6, .int (nI pl)), (8, .int sk)]) hx hb dM_item_98 rfl hl (by decide) rfl (fun ls hl => ?_)
              refine lv_iinc (v := nI (pl + 1)) (lv' := [(6, .int (nI (pl + 1))), (3, .int (u ||| ((nI 1) <<< (fd &&& 31)))), (0, .int (nI n)), (1, .int (nI o)), (2, .int (nI k)), (4, .int (nI (lf % frow n pl))), (5, .int fd), (8, .int sk)]) hx hb dM_item_99 hl (k := 6) rfl (nI_add _ _) (by decide) rfl (fun ls hl => ?_)
              refine lv_goto (tgt := 11) hx hb dM_item_102 (by decide) ?_
              exact ih (pl + 1) (u ||| (nI 1 <<< (fd &&& 31))) (lf % frow n pl) fd (by omega) (Nat.lt_of_le_of_lt (Nat.mod_le _ _) hlf) heq2 (by omega) ls (lv_sub hl [2, 3, 4, 1, 5, 6, 0] rfl)
            · rw [itW, if_neg g5] at hw
              refine lv_iinc (v := fd + (1)) (lv' := [(5, .int (fd + (1))), (0, .int (nI n)), (1, .int (nI o)), (2, .int (nI k)), (3, .int u), (4, .int (nI (lf % frow n pl))), (6, .int (nI pl)), (8, .int sk)]) hx hb dM_item_67 hl (k := 5) rfl (rfl) (by decide) rfl (fun ls hl => ?_)
              refine lv_iload hx hb dM_item_70 (lv_at hl 7 rfl) ?_
              refine lv_iload_n hx hb dM_item_72 rfl (lv_at hl 4 rfl) ?_
              refine lv_iload hx hb dM_item_73 (lv_at hl 0 rfl) ?_
              refine x_ishr (v := u >>> ((fd + (1)) &&& 31)) hx hb dM_item_75 (rfl) ?_
              refine lv_iconst (v := nI 1) hx hb dM_item_76 (by decide) ?_
              refine x_iand (v := (u >>> ((fd + (1)) &&& 31)) &&& (nI 1)) hx hb dM_item_77 (rfl) ?_
              refine lv_if_ne (tgt := 85) hx hb dM_item_78 (by decide) (fun g6 => ?_) (fun g6 => ?_)
              · rw [if_neg g6] at hw
                refine lv_iconst (v := nI 0) hx hb dM_item_85 (by decide) ?_
                refine x_isub (v := sk - (nI 0)) hx hb dM_item_86 (rfl) ?_
                refine lv_istore (lv' := [(8, .int (sk - (nI 0))), (5, .int (fd + (1))), (0, .int (nI n)), (1, .int (nI o)), (2, .int (nI k)), (3, .int u), (4, .int (nI (lf % frow n pl))), (6, .int (nI pl))]) hx hb dM_item_87 hl (by decide) rfl (fun ls hl => ?_)
                refine lv_goto (tgt := 62) hx hb dM_item_89 (by decide) ?_
                exact ihw _ _ hw ls (lv_sub hl [2, 3, 4, 5, 6, 1, 7, 0] rfl)
              · rw [if_pos g6] at hw
                refine lv_iconst (v := nI 1) hx hb dM_item_81 (by decide) ?_
                refine lv_goto (tgt := 86) hx hb dM_item_82 (by decide) ?_
                refine x_isub (v := sk - (nI 1)) hx hb dM_item_86 (rfl) ?_
                refine lv_istore (lv' := [(8, .int (sk - (nI 1))), (5, .int (fd + (1))), (0, .int (nI n)), (1, .int (nI o)), (2, .int (nI k)), (3, .int u), (4, .int (nI (lf % frow n pl))), (6, .int (nI pl))]) hx hb dM_item_87 hl (by decide) rfl (fun ls hl => ?_)
                refine lv_goto (tgt := 62) hx hb dM_item_89 (by decide) ?_
                exact ihw _ _ hw ls (lv_sub hl [2, 3, 4, 5, 6, 1, 7, 0] rfl)
        have loopR : ∀ (fu : Nat) (mm : Nat), (2 ≤ mm) → (mm = 2 ∨ mm ≤ n - pl) → n - pl + 2 - mm < fu → ∀ ls : Array Slot, lv_has ls 9 [(0, .int (nI n)), (1, .int (nI o)), (2, .int (nI k)), (3, .int u), (4, .int (nI lf)), (6, .int (nI pl)), (7, .int (nI (facN (mm - 1)))), (8, .int (nI mm))] → W p l e (headSpec wM_item ({ frames := 0, cells := 0, slots := 0, locals := 0 })).room s m ([.int (nI n), .int (nI o), .int (nI k)] : List Value).toArray below meth c s.heap [] 0 0 (MQ below (q_P (some (.int r))) ([.int (nI n), .int (nI o), .int (nI k)] : List Value).toArray s 0 0 (fun _ => False)) (F0 m 23 ls []) := by
          intro fu
          induction fu with
          | zero =>
            intro mm hm1 hm2 hmu
            exact absurd hmu (Nat.not_lt_zero _)
          | succ fu ihR =>
            intro mm hm1 hm2 hmu ls hl
            refine lv_iload hx hb dM_item_23 (lv_at hl 7 rfl) ?_
            refine lv_iload_n hx hb dM_item_25 rfl (lv_at hl 0 rfl) ?_
            refine lv_iload hx hb dM_item_26 (lv_at hl 5 rfl) ?_
            refine x_isub (v := nI (n - pl)) hx hb dM_item_28 (pk_sub (by omega)) ?_
            refine x_cge (a := mm) (b := n - pl) (tgt := 45) hx hb dM_item_29 (by decide) (by omega) (by omega) (fun g4 => ?_) (fun g4 => ?_)
            · have e8 : facN (mm - 1) = frow n pl := frow_ex hm1 hm2 g4 (by omega)
              rw [e8] at hl
              rw [f3] at f1 f2
              refine lv_iload hx hb dM_item_45 (lv_at hl 4 rfl) ?_
              refine lv_iload hx hb dM_item_47 (lv_at hl 6 rfl) ?_
              refine x_idiv (v := nI (lf / (frow n pl))) hx hb dM_item_49 (nI_ne0 (by omega) (by omega)) (pk_div (by omega) (by omega) (by omega)) ?_
              refine lv_istore (lv' := [(8, .int (nI (lf / (frow n pl)))), (0, .int (nI n)), (1, .int (nI o)), (2, .int (nI k)), (3, .int u), (4, .int (nI lf)), (6, .int (nI pl)), (7, .int (nI (frow n pl)))]) hx hb dM_item_50 hl (by decide) rfl (fun ls hl => ?_)
              refine lv_iload hx hb dM_item_52 (lv_at hl 5 rfl) ?_
              refine lv_iload hx hb dM_item_54 (lv_at hl 7 rfl) ?_
              refine x_irem (v := nI (lf % (frow n pl))) hx hb dM_item_56 (nI_ne0 (by omega) (by omega)) (pk_rem (by omega) (by omega) (by omega)) ?_
              refine lv_istore (lv' := [(4, .int (nI (lf % (frow n pl)))), (8, .int (nI (lf / (frow n pl)))), (0, .int (nI n)), (1, .int (nI o)), (2, .int (nI k)), (3, .int u), (6, .int (nI pl)), (7, .int (nI (frow n pl)))]) hx hb dM_item_57 hl (by decide) rfl (fun ls hl => ?_)
              refine lv_iconst (v := -1) hx hb dM_item_59 (by decide) ?_
              refine lv_istore (lv' := [(5, .int (-1)), (4, .int (nI (lf % (frow n pl)))), (8, .int (nI (lf / (frow n pl)))), (0, .int (nI n)), (1, .int (nI o)), (2, .int (nI k)), (3, .int u), (6, .int (nI pl)), (7, .int (nI (frow n pl)))]) hx hb dM_item_60 hl (by decide) rfl (fun ls hl => ?_)
              exact loopW 16 _ _ hg ls (lv_sub hl [3, 4, 5, 6, 1, 0, 7, 2] rfl)
            · obtain ⟨f4, f5⟩ := facN_b (mm - 1) (by omega)
              refine lv_iload hx hb dM_item_32 (lv_at hl 6 rfl) ?_
              refine lv_iload hx hb dM_item_34 (lv_at hl 7 rfl) ?_
              refine x_imul (v := nI ((facN (mm - 1)) * mm)) hx hb dM_item_36 (pk_mul _ _) ?_
              refine x_topn (b := facN (mm + 1 - 1)) (by rw [show mm + 1 - 1 = (mm - 1) + 1 by omega, facN, show mm - 1 + 1 = mm by omega]) ?_
              refine lv_istore (lv' := [(7, .int (nI (facN (mm + 1 - 1)))), (0, .int (nI n)), (1, .int (nI o)), (2, .int (nI k)), (3, .int u), (4, .int (nI lf)), (6, .int (nI pl)), (8, .int (nI mm))]) hx hb dM_item_37 hl (by decide) rfl (fun ls hl => ?_)
              refine lv_iinc (v := nI (mm + 1)) (lv' := [(8, .int (nI (mm + 1))), (7, .int (nI (facN (mm + 1 - 1)))), (0, .int (nI n)), (1, .int (nI o)), (2, .int (nI k)), (3, .int u), (4, .int (nI lf)), (6, .int (nI pl))]) hx hb dM_item_39 hl (k := 7) rfl (nI_add _ _) (by decide) rfl (fun ls hl => ?_)
              refine lv_goto (tgt := 23) hx hb dM_item_42 (by decide) ?_
              exact ihR (mm + 1) (by omega) (by omega) (by omega) ls (lv_sub hl [2, 3, 4, 5, 6, 7, 1, 0] rfl)
        refine lv_iconst (v := nI 1) hx hb dM_item_17 (by decide) ?_
        refine x_topn (b := facN (2 - 1)) (rfl) ?_
        refine lv_istore (lv' := [(7, .int (nI (facN (2 - 1)))), (0, .int (nI n)), (1, .int (nI o)), (2, .int (nI k)), (3, .int u), (4, .int (nI lf)), (5, .int fd), (6, .int (nI pl))]) hx hb dM_item_18 hl (by decide) rfl (fun ls hl => ?_)
        refine lv_iconst (v := nI 2) hx hb dM_item_20 (by decide) ?_
        refine lv_istore (lv' := [(8, .int (nI 2)), (7, .int (nI (facN (2 - 1)))), (0, .int (nI n)), (1, .int (nI o)), (2, .int (nI k)), (3, .int u), (4, .int (nI lf)), (5, .int fd), (6, .int (nI pl))]) hx hb dM_item_21 hl (by decide) rfl (fun ls hl => ?_)
        exact loopR (n - pl + 1) 2 (by omega) (Or.inl rfl) (by omega) ls (lv_sub hl [2, 3, 4, 5, 6, 8, 1, 0] rfl)
  refine lv_iconst (v := nI 0) hx hb dM_item_0 (by decide) ?_
  refine lv_istore_n (lv' := [(3, .int (nI 0)), (0, .int (nI n)), (1, .int (nI o)), (2, .int (nI k))]) hx hb dM_item_1 rfl hl (by decide) rfl (fun ls hl => ?_)
  refine lv_iload_n hx hb dM_item_2 rfl (lv_at hl 2 rfl) ?_
  refine lv_istore (lv' := [(4, .int (nI o)), (3, .int (nI 0)), (0, .int (nI n)), (1, .int (nI o)), (2, .int (nI k))]) hx hb dM_item_3 hl (by decide) rfl (fun ls hl => ?_)
  refine lv_iconst (v := nI 0) hx hb dM_item_5 (by decide) ?_
  refine lv_istore (lv' := [(5, .int (nI 0)), (4, .int (nI o)), (3, .int (nI 0)), (0, .int (nI n)), (1, .int (nI o)), (2, .int (nI k))]) hx hb dM_item_6 hl (by decide) rfl (fun ls hl => ?_)
  refine lv_iconst (v := nI 0) hx hb dM_item_8 (by decide) ?_
  refine lv_istore (lv' := [(6, .int (nI 0)), (5, .int (nI 0)), (4, .int (nI o)), (3, .int (nI 0)), (0, .int (nI n)), (1, .int (nI o)), (2, .int (nI k))]) hx hb dM_item_9 hl (by decide) rfl (fun ls hl => ?_)
  exact loop (k + 2) 0 (nI 0) o (nI 0) (by omega) ho hr0 (by omega) ls (lv_sub hl [4, 5, 6, 3, 2, 1, 0] rfl)
set_option maxHeartbeats 400000 in
set_option maxRecDepth 100000 in
theorem c_M_isTest (l : Launch) (D : va_G) (κ : Nat → ClassId) (base : Nat) (H0 : Heap) {b nT nS th : Nat} {sd : Int64} {mk ms ma mr mt : Nat → Nat} (hP : va_P D vwCl [(b, .inr (3, [.long sd, .int (nI nT), .int (nI nS), .ref (b + 1), .ref (b + 2), .ref (b + 3), .ref (b + 4), .ref (b + 5), .ref (b + 6), .ref (b + 7), .ref (b + 8), .int (nI th)]))] H0) (hn : nS < 2 ^ 31) (x : Int32) (r : Nat) (q0 : (x < 0 ∨ nI nS ≤ x) → r = 0) (q1 : ∀ j, j < nS → x = nI j → r = 1) : Met l yM_isTest wM_isTest ({ frames := 0, cells := 0, slots := 0, locals := 0 }) (Pq D κ base [.ref b, .int x] H0) (q_P (some (.int (nI r)))) 0 0 (fun _ => False) := by
  refine Met.ofW (cc := bM_isTest) (maxL := 2) (ret := (some FieldType.boolean)) (by decide) rfl ?_
  intro p e s m args below meth c s₁ B hml hv
  obtain ⟨rfl, hH, hE⟩ := hv
  subst hH
  have hx := B.exec
  have hb := B.bytes
  have hr := B.returns
  have hT : ∀ w ∈ TT, w.before _ s = true := fun w h => atoms_spec (ws := wM_isTest) B.pre w (List.mem_cons_of_mem _ h)
  have hown : s.vm.findClass "TasterPanelsModel" = some m.cls := findClass_of_methodNamed B.named
  have hlocks := B.notSynchronized
  have hK := hE.1
  have hS : va_S (fun q => base ≤ q) s.heap s.heap [] := va_S.rf
  have hAb : ∀ q : Nat, (fun q : Nat => base ≤ q) q → base ≤ q := fun _ h => h
  have hl := lv_entry ([.ref b, .int x]) (n := 2) (Nat.le_of_ble_eq_true rfl)
  rw [lg_entry_eq]
  generalize (lg_sl ([.ref b, .int x]) ++ List.replicate (2 - (lg_sl ([.ref b, .int x])).length) Slot.unset).toArray = ls at hl ⊢
  have hl : lv_has ls 2 [(0, .ref b), (1, .int x)] := hl
  rcases pk_ix x hn with e1 | e1 | ⟨j, hj, rfl⟩
  · refine lv_iload_n hx hb dM_isTest_0 rfl (lv_at hl 1 rfl) ?_
    refine lv_if_lt (tgt := 16) hx hb dM_isTest_1 (by decide) (fun h1 => ?_) (fun h1 => absurd e1 h1)
    refine lv_iconst (v := nI 0) hx hb dM_isTest_16 (by decide) ?_
    exact W.zret (v := nI 0) hx hb hr (by decide) (fun t ht hW => ⟨congrArg (fun z => Outcome.returned (some (Value.int (nI z)))) ((q0 (Or.inl e1)).symm), ht⟩) (fun q h => absurd h List.not_mem_nil) dM_isTest_17
  · refine lv_iload_n hx hb dM_isTest_0 rfl (lv_at hl 1 rfl) ?_
    refine lv_if_lt (tgt := 16) hx hb dM_isTest_1 (by decide) (fun h2 => absurd (Int32.lt_of_le_of_lt e1 h2) (nI_pos hn)) (fun h2 => ?_)
    refine lv_iload_n hx hb dM_isTest_4 rfl (lv_at hl 1 rfl) ?_
    refine lv_aload_n hx hb dM_isTest_5 rfl (lv_at hl 0 rfl) ?_
    refine va_get (D := D) (ci := 3) (v := .int (nI nS)) (C := RM) (T := FM) (N := 12) hx hb hT inM hown hK hP 0 rfl rfl 2 (by decide) (hT _ kM46) (fun _ h9 => h9) rfl dM_isTest_6 ?_
    refine lv_icmp_ge (tgt := 16) hx hb dM_isTest_9 (by decide) (fun h3 => ?_) (fun h3 => absurd e1 h3)
    refine lv_iconst (v := nI 0) hx hb dM_isTest_16 (by decide) ?_
    exact W.zret (v := nI 0) hx hb hr (by decide) (fun t ht hW => ⟨congrArg (fun z => Outcome.returned (some (Value.int (nI z)))) ((q0 (Or.inr e1)).symm), ht⟩) (fun q h => absurd h List.not_mem_nil) dM_isTest_17
  · refine lv_iload_n hx hb dM_isTest_0 rfl (lv_at hl 1 rfl) ?_
    refine x_zlt (a := j) (tgt := 16) hx hb dM_isTest_1 (by decide) (by omega) ?_
    refine lv_iload_n hx hb dM_isTest_4 rfl (lv_at hl 1 rfl) ?_
    refine lv_aload_n hx hb dM_isTest_5 rfl (lv_at hl 0 rfl) ?_
    refine va_get (D := D) (ci := 3) (v := .int (nI nS)) (C := RM) (T := FM) (N := 12) hx hb hT inM hown hK hP 0 rfl rfl 2 (by decide) (hT _ kM46) (fun _ h9 => h9) rfl dM_isTest_6 ?_
    refine x_cge (a := j) (b := nS) (tgt := 16) hx hb dM_isTest_9 (by decide) (by omega) (by omega) (fun h5 => absurd h5 (by omega)) (fun h5 => ?_)
    refine lv_iconst (v := nI 1) hx hb dM_isTest_12 (by decide) ?_
    refine lv_goto (tgt := 17) hx hb dM_isTest_13 (by decide) ?_
    exact W.zret (v := nI 1) hx hb hr (by decide) (fun t ht hW => ⟨congrArg (fun z => Outcome.returned (some (Value.int (nI z)))) ((q1 j hj rfl).symm), ht⟩) (fun q h => absurd h List.not_mem_nil) dM_isTest_17
set_option maxHeartbeats 400000 in
set_option maxRecDepth 100000 in
theorem c_M_isTaster (l : Launch) (D : va_G) (κ : Nat → ClassId) (base : Nat) (H0 : Heap) {b nT nS th : Nat} {sd : Int64} {mk ms ma mr mt : Nat → Nat} (hP : va_P D vwCl [(b, .inr (3, [.long sd, .int (nI nT), .int (nI nS), .ref (b + 1), .ref (b + 2), .ref (b + 3), .ref (b + 4), .ref (b + 5), .ref (b + 6), .ref (b + 7), .ref (b + 8), .int (nI th)]))] H0) (hn : nT < 2 ^ 31) (x : Int32) (r : Nat) (q0 : (x < 0 ∨ nI nT ≤ x) → r = 0) (q1 : ∀ j, j < nT → x = nI j → r = 1) : Met l yM_isTaster wM_isTaster ({ frames := 0, cells := 0, slots := 0, locals := 0 }) (Pq D κ base [.ref b, .int x] H0) (q_P (some (.int (nI r)))) 0 0 (fun _ => False) := by
  refine Met.ofW (cc := bM_isTaster) (maxL := 2) (ret := (some FieldType.boolean)) (by decide) rfl ?_
  intro p e s m args below meth c s₁ B hml hv
  obtain ⟨rfl, hH, hE⟩ := hv
  subst hH
  have hx := B.exec
  have hb := B.bytes
  have hr := B.returns
  have hT : ∀ w ∈ TT, w.before _ s = true := fun w h => atoms_spec (ws := wM_isTaster) B.pre w (List.mem_cons_of_mem _ h)
  have hown : s.vm.findClass "TasterPanelsModel" = some m.cls := findClass_of_methodNamed B.named
  have hlocks := B.notSynchronized
  have hK := hE.1
  have hS : va_S (fun q => base ≤ q) s.heap s.heap [] := va_S.rf
  have hAb : ∀ q : Nat, (fun q : Nat => base ≤ q) q → base ≤ q := fun _ h => h
  have hl := lv_entry ([.ref b, .int x]) (n := 2) (Nat.le_of_ble_eq_true rfl)
  rw [lg_entry_eq]
  generalize (lg_sl ([.ref b, .int x]) ++ List.replicate (2 - (lg_sl ([.ref b, .int x])).length) Slot.unset).toArray = ls at hl ⊢
  have hl : lv_has ls 2 [(0, .ref b), (1, .int x)] := hl
  rcases pk_ix x hn with e1 | e1 | ⟨j, hj, rfl⟩
  · refine lv_iload_n hx hb dM_isTaster_0 rfl (lv_at hl 1 rfl) ?_
    refine lv_if_lt (tgt := 16) hx hb dM_isTaster_1 (by decide) (fun h1 => ?_) (fun h1 => absurd e1 h1)
    refine lv_iconst (v := nI 0) hx hb dM_isTaster_16 (by decide) ?_
    exact W.zret (v := nI 0) hx hb hr (by decide) (fun t ht hW => ⟨congrArg (fun z => Outcome.returned (some (Value.int (nI z)))) ((q0 (Or.inl e1)).symm), ht⟩) (fun q h => absurd h List.not_mem_nil) dM_isTaster_17
  · refine lv_iload_n hx hb dM_isTaster_0 rfl (lv_at hl 1 rfl) ?_
    refine lv_if_lt (tgt := 16) hx hb dM_isTaster_1 (by decide) (fun h2 => absurd (Int32.lt_of_le_of_lt e1 h2) (nI_pos hn)) (fun h2 => ?_)
    refine lv_iload_n hx hb dM_isTaster_4 rfl (lv_at hl 1 rfl) ?_
    refine lv_aload_n hx hb dM_isTaster_5 rfl (lv_at hl 0 rfl) ?_
    refine va_get (D := D) (ci := 3) (v := .int (nI nT)) (C := RM) (T := FM) (N := 12) hx hb hT inM hown hK hP 0 rfl rfl 1 (by decide) (hT _ kM43) (fun _ h9 => h9) rfl dM_isTaster_6 ?_
    refine lv_icmp_ge (tgt := 16) hx hb dM_isTaster_9 (by decide) (fun h3 => ?_) (fun h3 => absurd e1 h3)
    refine lv_iconst (v := nI 0) hx hb dM_isTaster_16 (by decide) ?_
    exact W.zret (v := nI 0) hx hb hr (by decide) (fun t ht hW => ⟨congrArg (fun z => Outcome.returned (some (Value.int (nI z)))) ((q0 (Or.inr e1)).symm), ht⟩) (fun q h => absurd h List.not_mem_nil) dM_isTaster_17
  · refine lv_iload_n hx hb dM_isTaster_0 rfl (lv_at hl 1 rfl) ?_
    refine x_zlt (a := j) (tgt := 16) hx hb dM_isTaster_1 (by decide) (by omega) ?_
    refine lv_iload_n hx hb dM_isTaster_4 rfl (lv_at hl 1 rfl) ?_
    refine lv_aload_n hx hb dM_isTaster_5 rfl (lv_at hl 0 rfl) ?_
    refine va_get (D := D) (ci := 3) (v := .int (nI nT)) (C := RM) (T := FM) (N := 12) hx hb hT inM hown hK hP 0 rfl rfl 1 (by decide) (hT _ kM43) (fun _ h9 => h9) rfl dM_isTaster_6 ?_
    refine x_cge (a := j) (b := nT) (tgt := 16) hx hb dM_isTaster_9 (by decide) (by omega) (by omega) (fun h5 => absurd h5 (by omega)) (fun h5 => ?_)
    refine lv_iconst (v := nI 1) hx hb dM_isTaster_12 (by decide) ?_
    refine lv_goto (tgt := 17) hx hb dM_isTaster_13 (by decide) ?_
    exact W.zret (v := nI 1) hx hb hr (by decide) (fun t ht hW => ⟨congrArg (fun z => Outcome.returned (some (Value.int (nI z)))) ((q1 j hj rfl).symm), ht⟩) (fun q h => absurd h List.not_mem_nil) dM_isTaster_17
set_option maxHeartbeats 400000 in
set_option maxRecDepth 100000 in
theorem c_M_orders (l : Launch) (D : va_G) (κ : Nat → ClassId) (base : Nat) (H0 : Heap) {b nT nS th : Nat} {sd : Int64} {mk ms ma mr mt : Nat → Nat} (hP : va_P D vwCl [(b, .inr (3, [.long sd, .int (nI nT), .int (nI nS), .ref (b + 1), .ref (b + 2), .ref (b + 3), .ref (b + 4), .ref (b + 5), .ref (b + 6), .ref (b + 7), .ref (b + 8), .int (nI th)])), ((b + 1), .inl (κ 0, 40, .inl (fun j => nI (mk j)))), ((b + 2), .inl (κ 0, 40, .inl (fun j => nI (ms j))))] H0) (t : Nat) (ht : t < 40) (hok : okN (mk t) (ms t)) : Met l yM_orders wM_orders ({ frames := 0, cells := 0, slots := 0, locals := 0 }) (Pq D κ base [.ref b, .int (nI t)] H0) (q_P (some (.int (nI (cntO (mk t) (ms t)))))) 0 0 (fun _ => False) := by
  refine Met.ofW (cc := bM_orders) (maxL := 4) (ret := (some FieldType.int)) (by decide) rfl ?_
  intro p e s m args below meth c s₁ B hml hv
  obtain ⟨rfl, hH, hE⟩ := hv
  subst hH
  have hx := B.exec
  have hb := B.bytes
  have hr := B.returns
  have hT : ∀ w ∈ TT, w.before _ s = true := fun w h => atoms_spec (ws := wM_orders) B.pre w (List.mem_cons_of_mem _ h)
  have hown : s.vm.findClass "TasterPanelsModel" = some m.cls := findClass_of_methodNamed B.named
  have hlocks := B.notSynchronized
  have hK := hE.1
  have hS : va_S (fun q => base ≤ q) s.heap s.heap [] := va_S.rf
  have hAb : ∀ q : Nat, (fun q : Nat => base ≤ q) q → base ≤ q := fun _ h => h
  have hl := lv_entry ([.ref b, .int (nI t)]) (n := 4) (Nat.le_of_ble_eq_true rfl)
  rw [lg_entry_eq]
  generalize (lg_sl ([.ref b, .int (nI t)]) ++ List.replicate (4 - (lg_sl ([.ref b, .int (nI t)])).length) Slot.unset).toArray = ls at hl ⊢
  have hl : lv_has ls 4 [(0, .ref b), (1, .int (nI t))] := hl
  have hsp := hok.lt
  have loop : ∀ (fu : Nat) (k : Nat), (2 ≤ k) → (k ≤ ms t + 1) → 7 - k < fu → ∀ ls : Array Slot, lv_has ls 4 [(0, .ref b), (1, .int (nI t)), (2, .int (nI (facN (k - 1)))), (3, .int (nI k))] → W p l e (headSpec wM_orders ({ frames := 0, cells := 0, slots := 0, locals := 0 })).room s m ([.ref b, .int (nI t)] : List Value).toArray below meth c s.heap [] 0 0 (MQ below (q_P (some (.int (nI (cntO (mk t) (ms t)))))) ([.ref b, .int (nI t)] : List Value).toArray s 0 0 (fun _ => False)) (F0 m 4 ls []) := by
    intro fu
    induction fu with
    | zero =>
      intro k hk1 hk2 hmu
      exact absurd hmu (Nat.not_lt_zero _)
    | succ fu ih =>
      intro k hk1 hk2 hmu ls hl
      refine lv_iload_n hx hb dM_orders_4 rfl (lv_at hl 3 rfl) ?_
      refine lv_aload_n hx hb dM_orders_5 rfl (lv_at hl 0 rfl) ?_
      refine va_get (D := D) (ci := 3) (v := .ref (b + 2)) (C := RM) (T := FM) (N := 12) hx hb hT inM hown hK hP 0 rfl rfl 4 (by decide) (hT _ kM13) (fun _ h9 => h9) rfl dM_orders_6 ?_
      refine lv_iload_n hx hb dM_orders_9 rfl (lv_at hl 1 rfl) ?_
      refine x_iald hx hb hK hP 2 0 (j := t) (v := nI (ms t)) rfl rfl (by omega) (by decide) (rfl) dM_orders_10 ?_
      refine x_cgt (a := k) (b := ms t) (tgt := 24) hx hb dM_orders_11 (by decide) (by omega) (by omega) (fun g1 => ?_) (fun g1 => ?_)
      · have e1 : facN (k - 1) = facN (ms t) := by rw [show k - 1 = ms t by omega]
        have e2 := facN_ok (ms t) (by omega)
        refine lv_aload_n hx hb dM_orders_24 rfl (lv_at hl 0 rfl) ?_
        refine va_get (D := D) (ci := 3) (v := .ref (b + 1)) (C := RM) (T := FM) (N := 12) hx hb hT inM hown hK hP 0 rfl rfl 3 (by decide) (hT _ kM9) (fun _ h9 => h9) rfl dM_orders_25 ?_
        refine lv_iload_n hx hb dM_orders_28 rfl (lv_at hl 1 rfl) ?_
        refine x_iald hx hb hK hP 1 0 (j := t) (v := nI (mk t)) rfl rfl (by omega) (by decide) (rfl) dM_orders_29 ?_
        refine x_zne (a := mk t) (tgt := 38) hx hb dM_orders_30 (by decide) (by omega) (fun g2 => ?_) (fun g2 => ?_)
        · refine lv_aload_n hx hb dM_orders_38 rfl (lv_at hl 0 rfl) ?_
          refine va_get (D := D) (ci := 3) (v := .ref (b + 1)) (C := RM) (T := FM) (N := 12) hx hb hT inM hown hK hP 0 rfl rfl 3 (by decide) (hT _ kM9) (fun _ h9 => h9) rfl dM_orders_39 ?_
          refine lv_iload_n hx hb dM_orders_42 rfl (lv_at hl 1 rfl) ?_
          refine x_iald hx hb hK hP 1 0 (j := t) (v := nI (mk t)) rfl rfl (by omega) (by decide) (rfl) dM_orders_43 ?_
          refine lv_iconst (v := nI 1) hx hb dM_orders_44 (by decide) ?_
          refine x_cne (a := mk t) (b := 1) (tgt := 52) hx hb dM_orders_45 (by decide) (by omega) (by omega) (fun g3 => ?_) (fun g3 => ?_)
          · refine lv_aload_n hx hb dM_orders_52 rfl (lv_at hl 0 rfl) ?_
            refine va_get (D := D) (ci := 3) (v := .ref (b + 1)) (C := RM) (T := FM) (N := 12) hx hb hT inM hown hK hP 0 rfl rfl 3 (by decide) (hT _ kM9) (fun _ h9 => h9) rfl dM_orders_53 ?_
            refine lv_iload_n hx hb dM_orders_56 rfl (lv_at hl 1 rfl) ?_
            refine x_iald hx hb hK hP 1 0 (j := t) (v := nI (mk t)) rfl rfl (by omega) (by decide) (rfl) dM_orders_57 ?_
            refine lv_iconst (v := nI 2) hx hb dM_orders_58 (by decide) ?_
            refine x_cne (a := mk t) (b := 2) (tgt := 66) hx hb dM_orders_59 (by decide) (by omega) (by omega) (fun g4 => ?_) (fun g4 => ?_)
            · refine lv_iload_n hx hb dM_orders_66 rfl (lv_at hl 2 rfl) ?_
              refine x_topn (b := cntO (mk t) (ms t)) (by rw [cntO, if_neg g2, if_neg g3, if_neg g4, ← e2, e1]) ?_
              exact W.iret (v := nI (cntO (mk t) (ms t))) hx hb hr (fun t ht hW => ⟨rfl, ht⟩) (fun q h => absurd h List.not_mem_nil) dM_orders_67
            · refine lv_iconst (v := nI 4) hx hb dM_orders_62 (by decide) ?_
              refine lv_goto (tgt := 67) hx hb dM_orders_63 (by decide) ?_
              refine x_topn (b := cntO (mk t) (ms t)) (by rw [cntO, if_neg g2, if_neg g3, if_pos g4]) ?_
              exact W.iret (v := nI (cntO (mk t) (ms t))) hx hb hr (fun t ht hW => ⟨rfl, ht⟩) (fun q h => absurd h List.not_mem_nil) dM_orders_67
          · refine lv_iconst (v := nI 2) hx hb dM_orders_48 (by decide) ?_
            refine lv_goto (tgt := 67) hx hb dM_orders_49 (by decide) ?_
            refine x_topn (b := cntO (mk t) (ms t)) (by rw [cntO, if_neg g2, if_pos g3]) ?_
            exact W.iret (v := nI (cntO (mk t) (ms t))) hx hb hr (fun t ht hW => ⟨rfl, ht⟩) (fun q h => absurd h List.not_mem_nil) dM_orders_67
        · refine lv_bipush (v := nI 6) hx hb dM_orders_33 (by decide) ?_
          refine lv_goto (tgt := 67) hx hb dM_orders_35 (by decide) ?_
          refine x_topn (b := cntO (mk t) (ms t)) (by rw [cntO, if_pos g2]) ?_
          exact W.iret (v := nI (cntO (mk t) (ms t))) hx hb hr (fun t ht hW => ⟨rfl, ht⟩) (fun q h => absurd h List.not_mem_nil) dM_orders_67
      · obtain ⟨f4, f5⟩ := facN_b (k - 1) (by omega)
        refine lv_iload_n hx hb dM_orders_14 rfl (lv_at hl 2 rfl) ?_
        refine lv_iload_n hx hb dM_orders_15 rfl (lv_at hl 3 rfl) ?_
        refine x_imul (v := nI ((facN (k - 1)) * k)) hx hb dM_orders_16 (pk_mul _ _) ?_
        refine x_topn (b := facN (k + 1 - 1)) (by rw [show k + 1 - 1 = (k - 1) + 1 by omega, facN, show k - 1 + 1 = k by omega]) ?_
        refine lv_istore_n (lv' := [(2, .int (nI (facN (k + 1 - 1)))), (0, .ref b), (1, .int (nI t)), (3, .int (nI k))]) hx hb dM_orders_17 rfl hl (by decide) rfl (fun ls hl => ?_)
        refine lv_iinc (v := nI (k + 1)) (lv' := [(3, .int (nI (k + 1))), (2, .int (nI (facN (k + 1 - 1)))), (0, .ref b), (1, .int (nI t))]) hx hb dM_orders_18 hl (k := 3) rfl (nI_add _ _) (by decide) rfl (fun ls hl => ?_)
        refine lv_goto (tgt := 4) hx hb dM_orders_21 (by decide) ?_
        exact ih (k + 1) (by omega) (by omega) (by omega) ls (lv_sub hl [2, 3, 1, 0] rfl)
  refine lv_iconst (v := nI 1) hx hb dM_orders_0 (by decide) ?_
  refine x_topn (b := facN (2 - 1)) (rfl) ?_
  refine lv_istore_n (lv' := [(2, .int (nI (facN (2 - 1)))), (0, .ref b), (1, .int (nI t))]) hx hb dM_orders_1 rfl hl (by decide) rfl (fun ls hl => ?_)
  refine lv_iconst (v := nI 2) hx hb dM_orders_2 (by decide) ?_
  refine lv_istore_n (lv' := [(3, .int (nI 2)), (2, .int (nI (facN (2 - 1)))), (0, .ref b), (1, .int (nI t))]) hx hb dM_orders_3 rfl hl (by decide) rfl (fun ls hl => ?_)
  exact loop 6 2 (by omega) (by omega) (by omega) ls (lv_sub hl [2, 3, 1, 0] rfl)
set_option maxHeartbeats 400000 in
set_option maxRecDepth 100000 in
theorem c_M_served (l : Launch) (D : va_G) (κ : Nat → ClassId) (base : Nat) (H0 : Heap) {b nT nS th : Nat} {sd : Int64} {mk ms ma mr mt : Nat → Nat} (hP : va_P D vwCl [(b, .inr (3, [.long sd, .int (nI nT), .int (nI nS), .ref (b + 1), .ref (b + 2), .ref (b + 3), .ref (b + 4), .ref (b + 5), .ref (b + 6), .ref (b + 7), .ref (b + 8), .int (nI th)])), ((b + 1), .inl (κ 0, 40, .inl (fun j => nI (mk j)))), ((b + 2), .inl (κ 0, 40, .inl (fun j => nI (ms j))))] H0) (t : Nat) (ht : t < 40) (hok : okN (mk t) (ms t)) : Met l yM_served wM_served ({ frames := 0, cells := 0, slots := 0, locals := 0 }) (Pq D κ base [.ref b, .int (nI t)] H0) (q_P (some (.int (nI (srvN (mk t) (ms t)))))) 0 0 (fun _ => False) := by
  refine Met.ofW (cc := bM_served) (maxL := 2) (ret := (some FieldType.int)) (by decide) rfl ?_
  intro p e s m args below meth c s₁ B hml hv
  obtain ⟨rfl, hH, hE⟩ := hv
  subst hH
  have hx := B.exec
  have hb := B.bytes
  have hr := B.returns
  have hT : ∀ w ∈ TT, w.before _ s = true := fun w h => atoms_spec (ws := wM_served) B.pre w (List.mem_cons_of_mem _ h)
  have hown : s.vm.findClass "TasterPanelsModel" = some m.cls := findClass_of_methodNamed B.named
  have hlocks := B.notSynchronized
  have hK := hE.1
  have hS : va_S (fun q => base ≤ q) s.heap s.heap [] := va_S.rf
  have hAb : ∀ q : Nat, (fun q : Nat => base ≤ q) q → base ≤ q := fun _ h => h
  have hl := lv_entry ([.ref b, .int (nI t)]) (n := 2) (Nat.le_of_ble_eq_true rfl)
  rw [lg_entry_eq]
  generalize (lg_sl ([.ref b, .int (nI t)]) ++ List.replicate (2 - (lg_sl ([.ref b, .int (nI t)])).length) Slot.unset).toArray = ls at hl ⊢
  have hl : lv_has ls 2 [(0, .ref b), (1, .int (nI t))] := hl
  have hsp := hok.lt
  refine lv_aload_n hx hb dM_served_0 rfl (lv_at hl 0 rfl) ?_
  refine va_get (D := D) (ci := 3) (v := .ref (b + 1)) (C := RM) (T := FM) (N := 12) hx hb hT inM hown hK hP 0 rfl rfl 3 (by decide) (hT _ kM9) (fun _ h9 => h9) rfl dM_served_1 ?_
  refine lv_iload_n hx hb dM_served_4 rfl (lv_at hl 1 rfl) ?_
  refine x_iald hx hb hK hP 1 0 (j := t) (v := nI (mk t)) rfl rfl (by omega) (by decide) (rfl) dM_served_5 ?_
  refine lv_iconst (v := nI 1) hx hb dM_served_6 (by decide) ?_
  refine x_cne (a := mk t) (b := 1) (tgt := 14) hx hb dM_served_7 (by decide) (by omega) (by omega) (fun g1 => ?_) (fun g1 => ?_)
  · refine lv_aload_n hx hb dM_served_14 rfl (lv_at hl 0 rfl) ?_
    refine va_get (D := D) (ci := 3) (v := .ref (b + 1)) (C := RM) (T := FM) (N := 12) hx hb hT inM hown hK hP 0 rfl rfl 3 (by decide) (hT _ kM9) (fun _ h9 => h9) rfl dM_served_15 ?_
    refine lv_iload_n hx hb dM_served_18 rfl (lv_at hl 1 rfl) ?_
    refine x_iald hx hb hK hP 1 0 (j := t) (v := nI (mk t)) rfl rfl (by omega) (by decide) (rfl) dM_served_19 ?_
    refine lv_iconst (v := nI 3) hx hb dM_served_20 (by decide) ?_
    refine x_cne (a := mk t) (b := 3) (tgt := 33) hx hb dM_served_21 (by decide) (by omega) (by omega) (fun g2 => ?_) (fun g2 => ?_)
    · refine lv_iconst (v := nI 3) hx hb dM_served_33 (by decide) ?_
      refine x_topn (b := srvN (mk t) (ms t)) (by unfold srvN; rcases hok with h | h | h <;> split <;> omega) ?_
      exact W.iret (v := nI (srvN (mk t) (ms t))) hx hb hr (fun t ht hW => ⟨rfl, ht⟩) (fun q h => absurd h List.not_mem_nil) dM_served_34
    · refine lv_aload_n hx hb dM_served_24 rfl (lv_at hl 0 rfl) ?_
      refine va_get (D := D) (ci := 3) (v := .ref (b + 2)) (C := RM) (T := FM) (N := 12) hx hb hT inM hown hK hP 0 rfl rfl 4 (by decide) (hT _ kM13) (fun _ h9 => h9) rfl dM_served_25 ?_
      refine lv_iload_n hx hb dM_served_28 rfl (lv_at hl 1 rfl) ?_
      refine x_iald hx hb hK hP 2 0 (j := t) (v := nI (ms t)) rfl rfl (by omega) (by decide) (rfl) dM_served_29 ?_
      refine lv_goto (tgt := 34) hx hb dM_served_30 (by decide) ?_
      refine x_topn (b := srvN (mk t) (ms t)) (by unfold srvN; rcases hok with h | h | h <;> split <;> omega) ?_
      exact W.iret (v := nI (srvN (mk t) (ms t))) hx hb hr (fun t ht hW => ⟨rfl, ht⟩) (fun q h => absurd h List.not_mem_nil) dM_served_34
  · refine lv_iconst (v := nI 2) hx hb dM_served_10 (by decide) ?_
    refine lv_goto (tgt := 34) hx hb dM_served_11 (by decide) ?_
    refine x_topn (b := srvN (mk t) (ms t)) (by unfold srvN; rcases hok with h | h | h <;> split <;> omega) ?_
    exact W.iret (v := nI (srvN (mk t) (ms t))) hx hb hr (fun t ht hW => ⟨rfl, ht⟩) (fun q h => absurd h List.not_mem_nil) dM_served_34
set_option maxHeartbeats 400000 in
set_option maxRecDepth 100000 in
theorem c_M_first (l : Launch) (D : va_G) (κ : Nat → ClassId) (base : Nat) (H0 : Heap) {b nT nS th : Nat} {sd : Int64} {mk ms ma mr mt : Nat → Nat} (hP : va_P D vwCl [(b, .inr (3, [.long sd, .int (nI nT), .int (nI nS), .ref (b + 1), .ref (b + 2), .ref (b + 3), .ref (b + 4), .ref (b + 5), .ref (b + 6), .ref (b + 7), .ref (b + 8), .int (nI th)])), ((b + 1), .inl (κ 0, 40, .inl (fun j => nI (mk j))))] H0) (t : Nat) (ht : t < 40) (hk4 : mk t < 4) : Met l yM_first wM_first ({ frames := 0, cells := 0, slots := 0, locals := 0 }) (Pq D κ base [.ref b, .int (nI t)] H0) (q_P (some (.int (nI (fstN (mk t)))))) 0 0 (fun _ => False) := by
  refine Met.ofW (cc := bM_first) (maxL := 2) (ret := (some FieldType.int)) (by decide) rfl ?_
  intro p e s m args below meth c s₁ B hml hv
  obtain ⟨rfl, hH, hE⟩ := hv
  subst hH
  have hx := B.exec
  have hb := B.bytes
  have hr := B.returns
  have hT : ∀ w ∈ TT, w.before _ s = true := fun w h => atoms_spec (ws := wM_first) B.pre w (List.mem_cons_of_mem _ h)
  have hown : s.vm.findClass "TasterPanelsModel" = some m.cls := findClass_of_methodNamed B.named
  have hlocks := B.notSynchronized
  have hK := hE.1
  have hS : va_S (fun q => base ≤ q) s.heap s.heap [] := va_S.rf
  have hAb : ∀ q : Nat, (fun q : Nat => base ≤ q) q → base ≤ q := fun _ h => h
  have hl := lv_entry ([.ref b, .int (nI t)]) (n := 2) (Nat.le_of_ble_eq_true rfl)
  rw [lg_entry_eq]
  generalize (lg_sl ([.ref b, .int (nI t)]) ++ List.replicate (2 - (lg_sl ([.ref b, .int (nI t)])).length) Slot.unset).toArray = ls at hl ⊢
  have hl : lv_has ls 2 [(0, .ref b), (1, .int (nI t))] := hl
  refine lv_aload_n hx hb dM_first_0 rfl (lv_at hl 0 rfl) ?_
  refine va_get (D := D) (ci := 3) (v := .ref (b + 1)) (C := RM) (T := FM) (N := 12) hx hb hT inM hown hK hP 0 rfl rfl 3 (by decide) (hT _ kM9) (fun _ h9 => h9) rfl dM_first_1 ?_
  refine lv_iload_n hx hb dM_first_4 rfl (lv_at hl 1 rfl) ?_
  refine x_iald hx hb hK hP 1 0 (j := t) (v := nI (mk t)) rfl rfl (by omega) (by decide) (rfl) dM_first_5 ?_
  refine x_zne (a := mk t) (tgt := 13) hx hb dM_first_6 (by decide) (by omega) (fun g1 => ?_) (fun g1 => ?_)
  · refine lv_aload_n hx hb dM_first_13 rfl (lv_at hl 0 rfl) ?_
    refine va_get (D := D) (ci := 3) (v := .ref (b + 1)) (C := RM) (T := FM) (N := 12) hx hb hT inM hown hK hP 0 rfl rfl 3 (by decide) (hT _ kM9) (fun _ h9 => h9) rfl dM_first_14 ?_
    refine lv_iload_n hx hb dM_first_17 rfl (lv_at hl 1 rfl) ?_
    refine x_iald hx hb hK hP 1 0 (j := t) (v := nI (mk t)) rfl rfl (by omega) (by decide) (rfl) dM_first_18 ?_
    refine lv_iconst (v := nI 1) hx hb dM_first_19 (by decide) ?_
    refine x_cne (a := mk t) (b := 1) (tgt := 28) hx hb dM_first_20 (by decide) (by omega) (by omega) (fun g2 => ?_) (fun g2 => ?_)
    · refine lv_bipush (v := nI 8) hx hb dM_first_28 (by decide) ?_
      refine x_topn (b := fstN (mk t)) (by rw [fstN, if_neg g1, if_neg g2]) ?_
      exact W.iret (v := nI (fstN (mk t))) hx hb hr (fun t ht hW => ⟨rfl, ht⟩) (fun q h => absurd h List.not_mem_nil) dM_first_30
    · refine lv_bipush (v := nI 6) hx hb dM_first_23 (by decide) ?_
      refine lv_goto (tgt := 30) hx hb dM_first_25 (by decide) ?_
      refine x_topn (b := fstN (mk t)) (by rw [fstN, if_neg g1, if_pos g2]) ?_
      exact W.iret (v := nI (fstN (mk t))) hx hb hr (fun t ht hW => ⟨rfl, ht⟩) (fun q h => absurd h List.not_mem_nil) dM_first_30
  · refine lv_iconst (v := nI 0) hx hb dM_first_9 (by decide) ?_
    refine lv_goto (tgt := 30) hx hb dM_first_10 (by decide) ?_
    refine x_topn (b := fstN (mk t)) (by rw [fstN, if_pos g1]) ?_
    exact W.iret (v := nI (fstN (mk t))) hx hb hr (fun t ht hW => ⟨rfl, ht⟩) (fun q h => absurd h List.not_mem_nil) dM_first_30
set_option maxHeartbeats 400000 in
set_option maxRecDepth 100000 in
theorem c_M_answered (l : Launch) (D : va_G) (κ : Nat → ClassId) (base : Nat) (H0 : Heap) {b nT nS th : Nat} {sd : Int64} {mk ms ma mr mt : Nat → Nat} (hP : va_P D vwCl [(b, .inr (3, [.long sd, .int (nI nT), .int (nI nS), .ref (b + 1), .ref (b + 2), .ref (b + 3), .ref (b + 4), .ref (b + 5), .ref (b + 6), .ref (b + 7), .ref (b + 8), .int (nI th)])), ((b + 3), .inl (κ 0, 1040, .inl (fun x => nI (ma x))))] H0) (hn : nT ≤ 26) (hma : ∀ x, x < 1040 → ma x ≤ 5) (t : Nat) (ht : t < 40) : Met l yM_answered wM_answered ({ frames := 0, cells := 0, slots := 0, locals := 0 }) (Pq D κ base [.ref b, .int (nI t)] H0) (q_P (some (.int (nI (cnA ma t nT))))) 0 0 (fun _ => False) := by
  refine Met.ofW (cc := bM_answered) (maxL := 4) (ret := (some FieldType.int)) (by decide) rfl ?_
  intro p e s m args below meth c s₁ B hml hv
  obtain ⟨rfl, hH, hE⟩ := hv
  subst hH
  have hx := B.exec
  have hb := B.bytes
  have hr := B.returns
  have hT : ∀ w ∈ TT, w.before _ s = true := fun w h => atoms_spec (ws := wM_answered) B.pre w (List.mem_cons_of_mem _ h)
  have hown : s.vm.findClass "TasterPanelsModel" = some m.cls := findClass_of_methodNamed B.named
  have hlocks := B.notSynchronized
  have hK := hE.1
  have hS : va_S (fun q => base ≤ q) s.heap s.heap [] := va_S.rf
  have hAb : ∀ q : Nat, (fun q : Nat => base ≤ q) q → base ≤ q := fun _ h => h
  have hl := lv_entry ([.ref b, .int (nI t)]) (n := 4) (Nat.le_of_ble_eq_true rfl)
  rw [lg_entry_eq]
  generalize (lg_sl ([.ref b, .int (nI t)]) ++ List.replicate (4 - (lg_sl ([.ref b, .int (nI t)])).length) Slot.unset).toArray = ls at hl ⊢
  have hl : lv_has ls 4 [(0, .ref b), (1, .int (nI t))] := hl
  have loop : ∀ (fu : Nat) (pp : Nat), (pp ≤ nT) → nT - pp < fu → ∀ ls : Array Slot, lv_has ls 4 [(0, .ref b), (1, .int (nI t)), (2, .int (nI (cnA ma t pp))), (3, .int (nI pp))] → W p l e (headSpec wM_answered ({ frames := 0, cells := 0, slots := 0, locals := 0 })).room s m ([.ref b, .int (nI t)] : List Value).toArray below meth c s.heap [] 0 0 (MQ below (q_P (some (.int (nI (cnA ma t nT))))) ([.ref b, .int (nI t)] : List Value).toArray s 0 0 (fun _ => False)) (F0 m 4 ls []) := by
    intro fu
    induction fu with
    | zero =>
      intro pp hp hmu
      exact absurd hmu (Nat.not_lt_zero _)
    | succ fu ih =>
      intro pp hp hmu ls hl
      have hc := cnA_le ma t pp
      refine lv_iload_n hx hb dM_answered_4 rfl (lv_at hl 3 rfl) ?_
      refine lv_aload_n hx hb dM_answered_5 rfl (lv_at hl 0 rfl) ?_
      refine va_get (D := D) (ci := 3) (v := .int (nI nT)) (C := RM) (T := FM) (N := 12) hx hb hT inM hown hK hP 0 rfl rfl 1 (by decide) (hT _ kM43) (fun _ h9 => h9) rfl dM_answered_6 ?_
      refine x_cge (a := pp) (b := nT) (tgt := 40) hx hb dM_answered_9 (by decide) (by omega) (by omega) (fun g1 => ?_) (fun g1 => ?_)
      · have e1 : pp = nT := by omega
        subst e1
        refine lv_iload_n hx hb dM_answered_40 rfl (lv_at hl 2 rfl) ?_
        exact W.iret (v := nI (cnA ma t pp)) hx hb hr (fun t ht hW => ⟨rfl, ht⟩) (fun q h => absurd h List.not_mem_nil) dM_answered_41
      · have hb9 := hma (26 * t + pp) (by omega)
        refine lv_iload_n hx hb dM_answered_12 rfl (lv_at hl 2 rfl) ?_
        refine lv_aload_n hx hb dM_answered_13 rfl (lv_at hl 0 rfl) ?_
        refine va_get (D := D) (ci := 3) (v := .ref (b + 3)) (C := RM) (T := FM) (N := 12) hx hb hT inM hown hK hP 0 rfl rfl 5 (by decide) (hT _ kM16) (fun _ h9 => h9) rfl dM_answered_14 ?_
        refine lv_bipush (v := nI 26) hx hb dM_answered_17 (by decide) ?_
        refine lv_iload_n hx hb dM_answered_19 rfl (lv_at hl 1 rfl) ?_
        refine x_imul (v := nI (26 * t)) hx hb dM_answered_20 (pk_mul _ _) ?_
        refine lv_iload_n hx hb dM_answered_21 rfl (lv_at hl 3 rfl) ?_
        refine x_iadd (v := nI ((26 * t) + pp)) hx hb dM_answered_22 (nI_add _ _) ?_
        refine x_iald hx hb hK hP 1 0 (j := (26 * t) + pp) (v := nI (ma ((26 * t) + pp))) rfl rfl (by omega) (by decide) (rfl) dM_answered_23 ?_
        refine x_zle (a := ma ((26 * t) + pp)) (tgt := 31) hx hb dM_answered_24 (by decide) (by omega) (fun g2 => ?_) (fun g2 => ?_)
        · refine lv_iconst (v := nI 0) hx hb dM_answered_31 (by decide) ?_
          refine x_iadd (v := nI ((cnA ma t pp) + 0)) hx hb dM_answered_32 (nI_add _ _) ?_
          refine x_topn (b := cnA ma t (pp + 1)) (by rw [cnA, if_neg (by omega)]) ?_
          refine lv_istore_n (lv' := [(2, .int (nI (cnA ma t (pp + 1)))), (0, .ref b), (1, .int (nI t)), (3, .int (nI pp))]) hx hb dM_answered_33 rfl hl (by decide) rfl (fun ls hl => ?_)
          refine lv_iinc (v := nI (pp + 1)) (lv' := [(3, .int (nI (pp + 1))), (2, .int (nI (cnA ma t (pp + 1)))), (0, .ref b), (1, .int (nI t))]) hx hb dM_answered_34 hl (k := 3) rfl (nI_add _ _) (by decide) rfl (fun ls hl => ?_)
          refine lv_goto (tgt := 4) hx hb dM_answered_37 (by decide) ?_
          exact ih (pp + 1) (by omega) (by omega) ls (lv_sub hl [2, 3, 1, 0] rfl)
        · refine lv_iconst (v := nI 1) hx hb dM_answered_27 (by decide) ?_
          refine lv_goto (tgt := 32) hx hb dM_answered_28 (by decide) ?_
          refine x_iadd (v := nI ((cnA ma t pp) + 1)) hx hb dM_answered_32 (nI_add _ _) ?_
          refine x_topn (b := cnA ma t (pp + 1)) (by rw [cnA, if_pos (by omega)]) ?_
          refine lv_istore_n (lv' := [(2, .int (nI (cnA ma t (pp + 1)))), (0, .ref b), (1, .int (nI t)), (3, .int (nI pp))]) hx hb dM_answered_33 rfl hl (by decide) rfl (fun ls hl => ?_)
          refine lv_iinc (v := nI (pp + 1)) (lv' := [(3, .int (nI (pp + 1))), (2, .int (nI (cnA ma t (pp + 1)))), (0, .ref b), (1, .int (nI t))]) hx hb dM_answered_34 hl (k := 3) rfl (nI_add _ _) (by decide) rfl (fun ls hl => ?_)
          refine lv_goto (tgt := 4) hx hb dM_answered_37 (by decide) ?_
          exact ih (pp + 1) (by omega) (by omega) ls (lv_sub hl [2, 3, 1, 0] rfl)
  refine lv_iconst (v := nI 0) hx hb dM_answered_0 (by decide) ?_
  refine lv_istore_n (lv' := [(2, .int (nI 0)), (0, .ref b), (1, .int (nI t))]) hx hb dM_answered_1 rfl hl (by decide) rfl (fun ls hl => ?_)
  refine lv_iconst (v := nI 0) hx hb dM_answered_2 (by decide) ?_
  refine lv_istore_n (lv' := [(3, .int (nI 0)), (2, .int (nI 0)), (0, .ref b), (1, .int (nI t))]) hx hb dM_answered_3 rfl hl (by decide) rfl (fun ls hl => ?_)
  exact loop (nT + 1) 0 (by omega) (by omega) ls (lv_sub hl [2, 3, 1, 0] rfl)
set_option maxHeartbeats 400000 in
set_option maxRecDepth 100000 in
theorem c_M_thrown (l : Launch) (D : va_G) (κ : Nat → ClassId) (base : Nat) (H0 : Heap) {b nT nS th : Nat} {sd : Int64} {mk ms ma mr mt : Nat → Nat} (hP : va_P D vwCl [(b, .inr (3, [.long sd, .int (nI nT), .int (nI nS), .ref (b + 1), .ref (b + 2), .ref (b + 3), .ref (b + 4), .ref (b + 5), .ref (b + 6), .ref (b + 7), .ref (b + 8), .int (nI th)]))] H0)  : Met l yM_thrown wM_thrown ({ frames := 0, cells := 0, slots := 0, locals := 0 }) (Pq D κ base [.ref b] H0) (q_P (some (.int (nI th)))) 0 0 (fun _ => False) := by
  refine Met.ofW (cc := bM_thrown) (maxL := 1) (ret := (some FieldType.int)) (by decide) rfl ?_
  intro p e s m args below meth c s₁ B hml hv
  obtain ⟨rfl, hH, hE⟩ := hv
  subst hH
  have hx := B.exec
  have hb := B.bytes
  have hr := B.returns
  have hT : ∀ w ∈ TT, w.before _ s = true := fun w h => atoms_spec (ws := wM_thrown) B.pre w (List.mem_cons_of_mem _ h)
  have hown : s.vm.findClass "TasterPanelsModel" = some m.cls := findClass_of_methodNamed B.named
  have hlocks := B.notSynchronized
  have hK := hE.1
  have hS : va_S (fun q => base ≤ q) s.heap s.heap [] := va_S.rf
  have hAb : ∀ q : Nat, (fun q : Nat => base ≤ q) q → base ≤ q := fun _ h => h
  have hl := lv_entry ([.ref b]) (n := 1) (Nat.le_of_ble_eq_true rfl)
  rw [lg_entry_eq]
  generalize (lg_sl ([.ref b]) ++ List.replicate (1 - (lg_sl ([.ref b])).length) Slot.unset).toArray = ls at hl ⊢
  have hl : lv_has ls 1 [(0, .ref b)] := hl
  refine lv_aload_n hx hb dM_thrown_0 rfl (lv_at hl 0 rfl) ?_
  refine va_get (D := D) (ci := 3) (v := .int (nI th)) (C := RM) (T := FM) (N := 12) hx hb hT inM hown hK hP 0 rfl rfl 11 (by decide) (hT _ kM39) (fun _ h9 => h9) rfl dM_thrown_1 ?_
  exact W.iret (v := nI th) hx hb hr (fun t ht hW => ⟨rfl, ht⟩) (fun q h => absurd h List.not_mem_nil) dM_thrown_4
end
