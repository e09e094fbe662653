section
-- ===== PART A: goes FIRST, ahead of the names: the tables' words, and 'selects' of the private methods out of them =====
/-- a private method of a class that the tables say can be made, by its rows of tables_1 -/
def lw_okq (q : MethodName × Nat) : Prop := (q.1.cls ≠ "java/lang/invoke/MethodHandle" ∧ q.1.cls ≠ "java/lang/invoke/VarHandle") ∧ Cond.instantiable q.1.cls q.2 ∈ tables_1 ∧ Cond.privateMethod q.1 ∈ tables_1 ∧ Cond.instanceMethod q.1 ∈ tables_1
theorem lw_p0 : lw_okq (⟨"DefaultRepair", "isStatement", "(I)Z"⟩, 15) := ⟨⟨by decide +kernel, by decide +kernel⟩, List.mem_of_getElem? (i := 4) (by decide +kernel), List.mem_of_getElem? (i := 74) (by decide +kernel), List.mem_of_getElem? (i := 75) (by decide +kernel)⟩
theorem lw_p1 : lw_okq (⟨"DefaultRepair", "isHard", "(I)Z"⟩, 15) := ⟨⟨by decide +kernel, by decide +kernel⟩, List.mem_of_getElem? (i := 4) (by decide +kernel), List.mem_of_getElem? (i := 78) (by decide +kernel), List.mem_of_getElem? (i := 79) (by decide +kernel)⟩
theorem lw_p2 : lw_okq (⟨"DefaultRepair", "supportsOf", "(I)I"⟩, 15) := ⟨⟨by decide +kernel, by decide +kernel⟩, List.mem_of_getElem? (i := 4) (by decide +kernel), List.mem_of_getElem? (i := 101) (by decide +kernel), List.mem_of_getElem? (i := 102) (by decide +kernel)⟩
theorem lw_p3 : lw_okq (⟨"DefaultRepair", "refresh", "()V"⟩, 15) := ⟨⟨by decide +kernel, by decide +kernel⟩, List.mem_of_getElem? (i := 4) (by decide +kernel), List.mem_of_getElem? (i := 116) (by decide +kernel), List.mem_of_getElem? (i := 117) (by decide +kernel)⟩
theorem lw_p4 : lw_okq (⟨"DefaultRepair", "markClashing", "()V"⟩, 15) := ⟨⟨by decide +kernel, by decide +kernel⟩, List.mem_of_getElem? (i := 4) (by decide +kernel), List.mem_of_getElem? (i := 120) (by decide +kernel), List.mem_of_getElem? (i := 121) (by decide +kernel)⟩
theorem lw_p5 : lw_okq (⟨"DefaultRepair", "setCount", "()I"⟩, 15) := ⟨⟨by decide +kernel, by decide +kernel⟩, List.mem_of_getElem? (i := 4) (by decide +kernel), List.mem_of_getElem? (i := 124) (by decide +kernel), List.mem_of_getElem? (i := 125) (by decide +kernel)⟩
theorem lw_p6 : lw_okq (⟨"DefaultRepair", "hasClashingPart", "(I)Z"⟩, 15) := ⟨⟨by decide +kernel, by decide +kernel⟩, List.mem_of_getElem? (i := 4) (by decide +kernel), List.mem_of_getElem? (i := 128) (by decide +kernel), List.mem_of_getElem? (i := 129) (by decide +kernel)⟩
theorem lw_p7 : lw_okq (⟨"DefaultRepair", "collectFullGrown", "()V"⟩, 15) := ⟨⟨by decide +kernel, by decide +kernel⟩, List.mem_of_getElem? (i := 4) (by decide +kernel), List.mem_of_getElem? (i := 132) (by decide +kernel), List.mem_of_getElem? (i := 133) (by decide +kernel)⟩
theorem lw_p8 : lw_okq (⟨"DefaultRepair", "companyOf", "(I)I"⟩, 15) := ⟨⟨by decide +kernel, by decide +kernel⟩, List.mem_of_getElem? (i := 4) (by decide +kernel), List.mem_of_getElem? (i := 136) (by decide +kernel), List.mem_of_getElem? (i := 137) (by decide +kernel)⟩
theorem lw_p9 : lw_okq (⟨"DefaultRepair", "statementBits", "()I"⟩, 15) := ⟨⟨by decide +kernel, by decide +kernel⟩, List.mem_of_getElem? (i := 4) (by decide +kernel), List.mem_of_getElem? (i := 140) (by decide +kernel), List.mem_of_getElem? (i := 141) (by decide +kernel)⟩
theorem lw_p10 : lw_okq (⟨"DefaultRepair", "defaultsOfRanks", "(II)I"⟩, 15) := ⟨⟨by decide +kernel, by decide +kernel⟩, List.mem_of_getElem? (i := 4) (by decide +kernel), List.mem_of_getElem? (i := 144) (by decide +kernel), List.mem_of_getElem? (i := 145) (by decide +kernel)⟩
theorem lw_p11 : lw_okq (⟨"DefaultRepair", "isKept", "(I)Z"⟩, 15) := ⟨⟨by decide +kernel, by decide +kernel⟩, List.mem_of_getElem? (i := 4) (by decide +kernel), List.mem_of_getElem? (i := 148) (by decide +kernel), List.mem_of_getElem? (i := 149) (by decide +kernel)⟩
theorem lw_p12 : lw_okq (⟨"DefaultRepair", "canGrow", "(I)Z"⟩, 15) := ⟨⟨by decide +kernel, by decide +kernel⟩, List.mem_of_getElem? (i := 4) (by decide +kernel), List.mem_of_getElem? (i := 155) (by decide +kernel), List.mem_of_getElem? (i := 156) (by decide +kernel)⟩
theorem lw_p13 : lw_okq (⟨"DefaultRepair", "addRepair", "(I)V"⟩, 15) := ⟨⟨by decide +kernel, by decide +kernel⟩, List.mem_of_getElem? (i := 4) (by decide +kernel), List.mem_of_getElem? (i := 159) (by decide +kernel), List.mem_of_getElem? (i := 160) (by decide +kernel)⟩
theorem lw_p14 : lw_okq (⟨"DefaultRepair", "collectWorthiest", "()V"⟩, 15) := ⟨⟨by decide +kernel, by decide +kernel⟩, List.mem_of_getElem? (i := 4) (by decide +kernel), List.mem_of_getElem? (i := 163) (by decide +kernel), List.mem_of_getElem? (i := 164) (by decide +kernel)⟩
theorem lw_p15 : lw_okq (⟨"DefaultRepair", "worth", "(II)J"⟩, 15) := ⟨⟨by decide +kernel, by decide +kernel⟩, List.mem_of_getElem? (i := 4) (by decide +kernel), List.mem_of_getElem? (i := 168) (by decide +kernel), List.mem_of_getElem? (i := 169) (by decide +kernel)⟩
def lw_privs_1 : List (MethodName × Nat) := [(⟨"DefaultRepair", "isStatement", "(I)Z"⟩, 15), (⟨"DefaultRepair", "isHard", "(I)Z"⟩, 15), (⟨"DefaultRepair", "supportsOf", "(I)I"⟩, 15), (⟨"DefaultRepair", "refresh", "()V"⟩, 15), (⟨"DefaultRepair", "markClashing", "()V"⟩, 15), (⟨"DefaultRepair", "setCount", "()I"⟩, 15), (⟨"DefaultRepair", "hasClashingPart", "(I)Z"⟩, 15), (⟨"DefaultRepair", "collectFullGrown", "()V"⟩, 15), (⟨"DefaultRepair", "companyOf", "(I)I"⟩, 15), (⟨"DefaultRepair", "statementBits", "()I"⟩, 15), (⟨"DefaultRepair", "defaultsOfRanks", "(II)I"⟩, 15), (⟨"DefaultRepair", "isKept", "(I)Z"⟩, 15), (⟨"DefaultRepair", "canGrow", "(I)Z"⟩, 15), (⟨"DefaultRepair", "addRepair", "(I)V"⟩, 15), (⟨"DefaultRepair", "collectWorthiest", "()V"⟩, 15), (⟨"DefaultRepair", "worth", "(II)J"⟩, 15)]
theorem lw_r1 : ∀ q ∈ lw_privs_1, lw_okq q := List.forall_mem_cons.mpr ⟨lw_p0, List.forall_mem_cons.mpr ⟨lw_p1, List.forall_mem_cons.mpr ⟨lw_p2, List.forall_mem_cons.mpr ⟨lw_p3, List.forall_mem_cons.mpr ⟨lw_p4, List.forall_mem_cons.mpr ⟨lw_p5, List.forall_mem_cons.mpr ⟨lw_p6, List.forall_mem_cons.mpr ⟨lw_p7, List.forall_mem_cons.mpr ⟨lw_p8, List.forall_mem_cons.mpr ⟨lw_p9, List.forall_mem_cons.mpr ⟨lw_p10, List.forall_mem_cons.mpr ⟨lw_p11, List.forall_mem_cons.mpr ⟨lw_p12, List.forall_mem_cons.mpr ⟨lw_p13, List.forall_mem_cons.mpr ⟨lw_p14, List.forall_mem_cons.mpr ⟨lw_p15, fun _ h => absurd h List.not_mem_nil⟩⟩⟩⟩⟩⟩⟩⟩⟩⟩⟩⟩⟩⟩⟩⟩
theorem lw_p16 : lw_okq (⟨"DefaultRepair", "isRepair", "(I)Z"⟩, 15) := ⟨⟨by decide +kernel, by decide +kernel⟩, List.mem_of_getElem? (i := 4) (by decide +kernel), List.mem_of_getElem? (i := 176) (by decide +kernel), List.mem_of_getElem? (i := 177) (by decide +kernel)⟩
theorem lw_p17 : lw_okq (⟨"DefaultRepair", "holds", "(II)Z"⟩, 15) := ⟨⟨by decide +kernel, by decide +kernel⟩, List.mem_of_getElem? (i := 4) (by decide +kernel), List.mem_of_getElem? (i := 188) (by decide +kernel), List.mem_of_getElem? (i := 189) (by decide +kernel)⟩
theorem lw_p18 : lw_okq (⟨"DefaultRepair", "verdict", "(I)I"⟩, 15) := ⟨⟨by decide +kernel, by decide +kernel⟩, List.mem_of_getElem? (i := 4) (by decide +kernel), List.mem_of_getElem? (i := 192) (by decide +kernel), List.mem_of_getElem? (i := 193) (by decide +kernel)⟩
theorem lw_p19 : lw_okq (⟨"DefaultRepair", "isBetter", "(III)Z"⟩, 15) := ⟨⟨by decide +kernel, by decide +kernel⟩, List.mem_of_getElem? (i := 4) (by decide +kernel), List.mem_of_getElem? (i := 204) (by decide +kernel), List.mem_of_getElem? (i := 205) (by decide +kernel)⟩
theorem lw_p20 : lw_okq (⟨"DefaultRepair", "hasMoreByRank", "(II)Z"⟩, 15) := ⟨⟨by decide +kernel, by decide +kernel⟩, List.mem_of_getElem? (i := 4) (by decide +kernel), List.mem_of_getElem? (i := 211) (by decide +kernel), List.mem_of_getElem? (i := 212) (by decide +kernel)⟩
theorem lw_p21 : lw_okq (⟨"DefaultRepair", "leastAfter", "(I)I"⟩, 15) := ⟨⟨by decide +kernel, by decide +kernel⟩, List.mem_of_getElem? (i := 4) (by decide +kernel), List.mem_of_getElem? (i := 219) (by decide +kernel), List.mem_of_getElem? (i := 220) (by decide +kernel)⟩
theorem lw_p22 : lw_okq (⟨"DefaultRepair", "isLeast", "(I)Z"⟩, 15) := ⟨⟨by decide +kernel, by decide +kernel⟩, List.mem_of_getElem? (i := 4) (by decide +kernel), List.mem_of_getElem? (i := 223) (by decide +kernel), List.mem_of_getElem? (i := 224) (by decide +kernel)⟩
theorem lw_p23 : lw_okq (⟨"DefaultRepairModel", "isStatement", "(I)Z"⟩, 14) := ⟨⟨by decide +kernel, by decide +kernel⟩, List.mem_of_getElem? (i := 231) (by decide +kernel), List.mem_of_getElem? (i := 291) (by decide +kernel), List.mem_of_getElem? (i := 292) (by decide +kernel)⟩
theorem lw_p24 : lw_okq (⟨"DefaultRepairModel", "isBetter", "(III)Z"⟩, 14) := ⟨⟨by decide +kernel, by decide +kernel⟩, List.mem_of_getElem? (i := 231) (by decide +kernel), List.mem_of_getElem? (i := 319) (by decide +kernel), List.mem_of_getElem? (i := 320) (by decide +kernel)⟩
theorem lw_p25 : lw_okq (⟨"DefaultRepairModel", "compare", "(IIIZ)I"⟩, 14) := ⟨⟨by decide +kernel, by decide +kernel⟩, List.mem_of_getElem? (i := 231) (by decide +kernel), List.mem_of_getElem? (i := 326) (by decide +kernel), List.mem_of_getElem? (i := 327) (by decide +kernel)⟩
theorem lw_p26 : lw_okq (⟨"DefaultRepairModel", "work", "()V"⟩, 14) := ⟨⟨by decide +kernel, by decide +kernel⟩, List.mem_of_getElem? (i := 231) (by decide +kernel), List.mem_of_getElem? (i := 334) (by decide +kernel), List.mem_of_getElem? (i := 335) (by decide +kernel)⟩
theorem lw_p27 : lw_okq (⟨"DefaultRepairModel", "isKept", "(I)Z"⟩, 14) := ⟨⟨by decide +kernel, by decide +kernel⟩, List.mem_of_getElem? (i := 231) (by decide +kernel), List.mem_of_getElem? (i := 338) (by decide +kernel), List.mem_of_getElem? (i := 339) (by decide +kernel)⟩
theorem lw_p28 : lw_okq (⟨"DefaultRepairModel", "told", "(I)I"⟩, 14) := ⟨⟨by decide +kernel, by decide +kernel⟩, List.mem_of_getElem? (i := 231) (by decide +kernel), List.mem_of_getElem? (i := 354) (by decide +kernel), List.mem_of_getElem? (i := 355) (by decide +kernel)⟩
theorem lw_p29 : lw_okq (⟨"DefaultRepairModel", "isLeast", "(I)Z"⟩, 14) := ⟨⟨by decide +kernel, by decide +kernel⟩, List.mem_of_getElem? (i := 231) (by decide +kernel), List.mem_of_getElem? (i := 366) (by decide +kernel), List.mem_of_getElem? (i := 367) (by decide +kernel)⟩
def lw_privs_2 : List (MethodName × Nat) := [(⟨"DefaultRepair", "isRepair", "(I)Z"⟩, 15), (⟨"DefaultRepair", "holds", "(II)Z"⟩, 15), (⟨"DefaultRepair", "verdict", "(I)I"⟩, 15), (⟨"DefaultRepair", "isBetter", "(III)Z"⟩, 15), (⟨"DefaultRepair", "hasMoreByRank", "(II)Z"⟩, 15), (⟨"DefaultRepair", "leastAfter", "(I)I"⟩, 15), (⟨"DefaultRepair", "isLeast", "(I)Z"⟩, 15), (⟨"DefaultRepairModel", "isStatement", "(I)Z"⟩, 14), (⟨"DefaultRepairModel", "isBetter", "(III)Z"⟩, 14), (⟨"DefaultRepairModel", "compare", "(IIIZ)I"⟩, 14), (⟨"DefaultRepairModel", "work", "()V"⟩, 14), (⟨"DefaultRepairModel", "isKept", "(I)Z"⟩, 14), (⟨"DefaultRepairModel", "told", "(I)I"⟩, 14), (⟨"DefaultRepairModel", "isLeast", "(I)Z"⟩, 14)]
theorem lw_r2 : ∀ q ∈ lw_privs_2, lw_okq q := List.forall_mem_cons.mpr ⟨lw_p16, List.forall_mem_cons.mpr ⟨lw_p17, List.forall_mem_cons.mpr ⟨lw_p18, List.forall_mem_cons.mpr ⟨lw_p19, List.forall_mem_cons.mpr ⟨lw_p20, List.forall_mem_cons.mpr ⟨lw_p21, List.forall_mem_cons.mpr ⟨lw_p22, List.forall_mem_cons.mpr ⟨lw_p23, List.forall_mem_cons.mpr ⟨lw_p24, List.forall_mem_cons.mpr ⟨lw_p25, List.forall_mem_cons.mpr ⟨lw_p26, List.forall_mem_cons.mpr ⟨lw_p27, List.forall_mem_cons.mpr ⟨lw_p28, List.forall_mem_cons.mpr ⟨lw_p29, fun _ h => absurd h List.not_mem_nil⟩⟩⟩⟩⟩⟩⟩⟩⟩⟩⟩⟩⟩⟩
def lw_privs : List (MethodName × Nat) := lw_privs_1 ++ (lw_privs_2)
def lw_tbl : List Cond := k2_sels lw_privs ++ tables_1
theorem lw_privs_ok : ∀ q ∈ lw_privs, lw_okq q := by
  show ∀ q ∈ lw_privs_1 ++ (lw_privs_2), lw_okq q
  exact List.forall_mem_append.mpr ⟨lw_r1, lw_r2⟩
end
section
/-- the words of the tables that stay true: every method here takes them all -/
def tbl : List Cond := lw_tbl.filter goodWord
theorem tb_mem {w : Cond} (h : w ∈ lw_tbl) (hg : goodWord w = true) : w ∈ tbl := List.mem_filter.mpr ⟨h, hg⟩
def RX : String := "DefaultRepair"
def TX : u_T := fun k => match k with
  | 0 => ("DefaultRepair", "statementCount", "I", false)
  | 1 => ("DefaultRepair", "hardBits", "I", false)
  | 2 => ("DefaultRepair", "ranks", "[I", true)
  | 3 => ("DefaultRepair", "weights", "[I", true)
  | 4 => ("DefaultRepair", "clashes", "[I", true)
  | 5 => ("DefaultRepair", "clashCount", "I", false)
  | 6 => ("DefaultRepair", "supports", "[I", true)
  | 7 => ("DefaultRepair", "supportAnswers", "[I", true)
  | 8 => ("DefaultRepair", "supportCount", "I", false)
  | 9 => ("DefaultRepair", "orderNow", "I", false)
  | 10 => ("DefaultRepair", "fresh", "Z", false)
  | 11 => ("DefaultRepair", "clashing", "[Z", true)
  | 12 => ("DefaultRepair", "company", "[I", true)
  | 13 => ("DefaultRepair", "repairs", "[I", true)
  | _ => ("DefaultRepair", "repairCount", "I", false)
def tyX : Nat → FieldType := fun k => match k with
  | 0 => .int
  | 1 => .int
  | 2 => .array .int
  | 3 => .array .int
  | 4 => .array .int
  | 5 => .int
  | 6 => .array .int
  | 7 => .array .int
  | 8 => .int
  | 9 => .int
  | 10 => .boolean
  | 11 => .array .boolean
  | 12 => .array .int
  | 13 => .array .int
  | _ => .int
theorem nmX : ∀ a, a < 15 → ∀ b, b < 15 → a ≠ b → (TX a).2.1 ≠ (TX b).2.1 := by decide +kernel
theorem tyX_ok : ∀ k, k < 15 → parseFieldDescriptor (TX k).2.2.1 = some (tyX k) := by decide +kernel
theorem inX : ∀ w ∈ u_ws RX TX 15, w ∈ tbl := by decide +kernel
def RY : String := "DefaultRepairModel"
def TY : u_T := fun k => match k with
  | 0 => ("DefaultRepairModel", "count", "I", false)
  | 1 => ("DefaultRepairModel", "hards", "[Z", true)
  | 2 => ("DefaultRepairModel", "ranks", "[I", true)
  | 3 => ("DefaultRepairModel", "weights", "[I", true)
  | 4 => ("DefaultRepairModel", "clashes", "[I", true)
  | 5 => ("DefaultRepairModel", "clashCount", "I", false)
  | 6 => ("DefaultRepairModel", "owners", "[I", true)
  | 7 => ("DefaultRepairModel", "supports", "[I", true)
  | 8 => ("DefaultRepairModel", "supportCount", "I", false)
  | 9 => ("DefaultRepairModel", "order", "I", false)
  | 10 => ("DefaultRepairModel", "known", "Z", false)
  | 11 => ("DefaultRepairModel", "keeps", "[Z", true)
  | 12 => ("DefaultRepairModel", "repairs", "[I", true)
  | _ => ("DefaultRepairModel", "repairCount", "I", false)
def tyY : Nat → FieldType := fun k => match k with
  | 0 => .int
  | 1 => .array .boolean
  | 2 => .array .int
  | 3 => .array .int
  | 4 => .array .int
  | 5 => .int
  | 6 => .array .int
  | 7 => .array .int
  | 8 => .int
  | 9 => .int
  | 10 => .boolean
  | 11 => .array .boolean
  | 12 => .array .int
  | _ => .int
theorem nmY : ∀ a, a < 14 → ∀ b, b < 14 → a ≠ b → (TY a).2.1 ≠ (TY b).2.1 := by decide +kernel
theorem tyY_ok : ∀ k, k < 14 → parseFieldDescriptor (TY k).2.2.1 = some (tyY k) := by decide +kernel
theorem inY : ∀ w ∈ u_ws RY TY 14, w ∈ tbl := by decide +kernel
def RL : String := "DefaultRepairLaw"
abbrev clX : List vw_C := [(RX, TX, 15), (RY, TY, 14)]
abbrev b_X_init : ByteArray := prog_1_method_1_code
def y_X_init : MethodName := ⟨RX, "<init>", "()V"⟩
def w_X_init : List Cond := Cond.code y_X_init b_X_init 1 none :: tbl
theorem h_X_init_code : Cond.code y_X_init b_X_init 1 none ∈ tbl := tb_mem (List.mem_of_getElem? (i := 37) rfl) rfl
theorem h_X_init_kind : Cond.instanceMethod y_X_init ∈ tbl := tb_mem (List.mem_of_getElem? (i := 36) (by decide +kernel)) rfl
abbrev b_X_fact : ByteArray := prog_1_method_2_code
def y_X_fact : MethodName := ⟨RX, "fact", "(ZII)I"⟩
def w_X_fact : List Cond := Cond.code y_X_fact b_X_fact 5 (some .int) :: tbl
theorem h_X_fact_code : Cond.code y_X_fact b_X_fact 5 (some .int) ∈ tbl := tb_mem (List.mem_of_getElem? (i := 92) rfl) rfl
theorem h_X_fact_kind : Cond.instanceMethod y_X_fact ∈ tbl := tb_mem (List.mem_of_getElem? (i := 90) (by decide +kernel)) rfl
theorem h_X_fact_sel : Cond.selects RX y_X_fact y_X_fact ∈ tbl := tb_mem (List.mem_of_getElem? (i := 91) (by decide +kernel)) rfl
abbrev b_X_harden : ByteArray := prog_1_method_3_code
def y_X_harden : MethodName := ⟨RX, "harden", "(IZ)I"⟩
def w_X_harden : List Cond := Cond.code y_X_harden b_X_harden 3 (some .int) :: tbl
theorem h_X_harden_code : Cond.code y_X_harden b_X_harden 3 (some .int) ∈ tbl := tb_mem (List.mem_of_getElem? (i := 102) rfl) rfl
theorem h_X_harden_kind : Cond.instanceMethod y_X_harden ∈ tbl := tb_mem (List.mem_of_getElem? (i := 100) (by decide +kernel)) rfl
theorem h_X_harden_sel : Cond.selects RX y_X_harden y_X_harden ∈ tbl := tb_mem (List.mem_of_getElem? (i := 101) (by decide +kernel)) rfl
abbrev b_X_weight : ByteArray := prog_1_method_4_code
def y_X_weight : MethodName := ⟨RX, "weight", "(III)I"⟩
def w_X_weight : List Cond := Cond.code y_X_weight b_X_weight 4 (some .int) :: tbl
theorem h_X_weight_code : Cond.code y_X_weight b_X_weight 4 (some .int) ∈ tbl := tb_mem (List.mem_of_getElem? (i := 114) rfl) rfl
theorem h_X_weight_kind : Cond.instanceMethod y_X_weight ∈ tbl := tb_mem (List.mem_of_getElem? (i := 112) (by decide +kernel)) rfl
theorem h_X_weight_sel : Cond.selects RX y_X_weight y_X_weight ∈ tbl := tb_mem (List.mem_of_getElem? (i := 113) (by decide +kernel)) rfl
abbrev b_X_clash : ByteArray := prog_1_method_5_code
def y_X_clash : MethodName := ⟨RX, "clash", "(I)I"⟩
def w_X_clash : List Cond := Cond.code y_X_clash b_X_clash 2 (some .int) :: tbl
theorem h_X_clash_code : Cond.code y_X_clash b_X_clash 2 (some .int) ∈ tbl := tb_mem (List.mem_of_getElem? (i := 118) rfl) rfl
theorem h_X_clash_kind : Cond.instanceMethod y_X_clash ∈ tbl := tb_mem (List.mem_of_getElem? (i := 116) (by decide +kernel)) rfl
theorem h_X_clash_sel : Cond.selects RX y_X_clash y_X_clash ∈ tbl := tb_mem (List.mem_of_getElem? (i := 117) (by decide +kernel)) rfl
abbrev b_X_settle : ByteArray := prog_1_method_6_code
def y_X_settle : MethodName := ⟨RX, "settle", "()I"⟩
def w_X_settle : List Cond := Cond.code y_X_settle b_X_settle 1 (some .int) :: tbl
theorem h_X_settle_code : Cond.code y_X_settle b_X_settle 1 (some .int) ∈ tbl := tb_mem (List.mem_of_getElem? (i := 122) rfl) rfl
theorem h_X_settle_kind : Cond.instanceMethod y_X_settle ∈ tbl := tb_mem (List.mem_of_getElem? (i := 120) (by decide +kernel)) rfl
theorem h_X_settle_sel : Cond.selects RX y_X_settle y_X_settle ∈ tbl := tb_mem (List.mem_of_getElem? (i := 121) (by decide +kernel)) rfl
abbrev b_X_support : ByteArray := prog_1_method_7_code
def y_X_support : MethodName := ⟨RX, "support", "(II)I"⟩
def w_X_support : List Cond := Cond.code y_X_support b_X_support 3 (some .int) :: tbl
theorem h_X_support_code : Cond.code y_X_support b_X_support 3 (some .int) ∈ tbl := tb_mem (List.mem_of_getElem? (i := 126) rfl) rfl
theorem h_X_support_kind : Cond.instanceMethod y_X_support ∈ tbl := tb_mem (List.mem_of_getElem? (i := 124) (by decide +kernel)) rfl
theorem h_X_support_sel : Cond.selects RX y_X_support y_X_support ∈ tbl := tb_mem (List.mem_of_getElem? (i := 125) (by decide +kernel)) rfl
abbrev b_X_order : ByteArray := prog_1_method_8_code
def y_X_order : MethodName := ⟨RX, "order", "(I)I"⟩
def w_X_order : List Cond := Cond.code y_X_order b_X_order 2 (some .int) :: tbl
theorem h_X_order_code : Cond.code y_X_order b_X_order 2 (some .int) ∈ tbl := tb_mem (List.mem_of_getElem? (i := 137) rfl) rfl
theorem h_X_order_kind : Cond.instanceMethod y_X_order ∈ tbl := tb_mem (List.mem_of_getElem? (i := 135) (by decide +kernel)) rfl
theorem h_X_order_sel : Cond.selects RX y_X_order y_X_order ∈ tbl := tb_mem (List.mem_of_getElem? (i := 136) (by decide +kernel)) rfl
abbrev b_X_find : ByteArray := prog_1_method_9_code
def y_X_find : MethodName := ⟨RX, "find", "()I"⟩
def w_X_find : List Cond := Cond.code y_X_find b_X_find 1 (some .int) :: tbl
theorem h_X_find_code : Cond.code y_X_find b_X_find 1 (some .int) ∈ tbl := tb_mem (List.mem_of_getElem? (i := 144) rfl) rfl
theorem h_X_find_kind : Cond.instanceMethod y_X_find ∈ tbl := tb_mem (List.mem_of_getElem? (i := 142) (by decide +kernel)) rfl
theorem h_X_find_sel : Cond.selects RX y_X_find y_X_find ∈ tbl := tb_mem (List.mem_of_getElem? (i := 143) (by decide +kernel)) rfl
abbrev b_X_kept : ByteArray := prog_1_method_10_code
def y_X_kept : MethodName := ⟨RX, "kept", "(I)I"⟩
def w_X_kept : List Cond := Cond.code y_X_kept b_X_kept 2 (some .int) :: tbl
theorem h_X_kept_code : Cond.code y_X_kept b_X_kept 2 (some .int) ∈ tbl := tb_mem (List.mem_of_getElem? (i := 204) rfl) rfl
theorem h_X_kept_kind : Cond.instanceMethod y_X_kept ∈ tbl := tb_mem (List.mem_of_getElem? (i := 202) (by decide +kernel)) rfl
theorem h_X_kept_sel : Cond.selects RX y_X_kept y_X_kept ∈ tbl := tb_mem (List.mem_of_getElem? (i := 203) (by decide +kernel)) rfl
abbrev b_X_left : ByteArray := prog_1_method_11_code
def y_X_left : MethodName := ⟨RX, "left", "(II)I"⟩
def w_X_left : List Cond := Cond.code y_X_left b_X_left 6 (some .int) :: tbl
theorem h_X_left_code : Cond.code y_X_left b_X_left 6 (some .int) ∈ tbl := tb_mem (List.mem_of_getElem? (i := 212) rfl) rfl
theorem h_X_left_kind : Cond.instanceMethod y_X_left ∈ tbl := tb_mem (List.mem_of_getElem? (i := 210) (by decide +kernel)) rfl
theorem h_X_left_sel : Cond.selects RX y_X_left y_X_left ∈ tbl := tb_mem (List.mem_of_getElem? (i := 211) (by decide +kernel)) rfl
abbrev b_X_truth : ByteArray := prog_1_method_12_code
def y_X_truth : MethodName := ⟨RX, "truth", "(I)I"⟩
def w_X_truth : List Cond := Cond.code y_X_truth b_X_truth 4 (some .int) :: tbl
theorem h_X_truth_code : Cond.code y_X_truth b_X_truth 4 (some .int) ∈ tbl := tb_mem (List.mem_of_getElem? (i := 216) rfl) rfl
theorem h_X_truth_kind : Cond.instanceMethod y_X_truth ∈ tbl := tb_mem (List.mem_of_getElem? (i := 214) (by decide +kernel)) rfl
theorem h_X_truth_sel : Cond.selects RX y_X_truth y_X_truth ∈ tbl := tb_mem (List.mem_of_getElem? (i := 215) (by decide +kernel)) rfl
abbrev b_X_surely : ByteArray := prog_1_method_13_code
def y_X_surely : MethodName := ⟨RX, "surely", "(I)I"⟩
def w_X_surely : List Cond := Cond.code y_X_surely b_X_surely 4 (some .int) :: tbl
theorem h_X_surely_code : Cond.code y_X_surely b_X_surely 4 (some .int) ∈ tbl := tb_mem (List.mem_of_getElem? (i := 228) rfl) rfl
theorem h_X_surely_kind : Cond.instanceMethod y_X_surely ∈ tbl := tb_mem (List.mem_of_getElem? (i := 226) (by decide +kernel)) rfl
theorem h_X_surely_sel : Cond.selects RX y_X_surely y_X_surely ∈ tbl := tb_mem (List.mem_of_getElem? (i := 227) (by decide +kernel)) rfl
abbrev b_X_better : ByteArray := prog_1_method_14_code
def y_X_better : MethodName := ⟨RX, "better", "(III)I"⟩
def w_X_better : List Cond := Cond.code y_X_better b_X_better 6 (some .int) :: tbl
theorem h_X_better_code : Cond.code y_X_better b_X_better 6 (some .int) ∈ tbl := tb_mem (List.mem_of_getElem? (i := 232) rfl) rfl
theorem h_X_better_kind : Cond.instanceMethod y_X_better ∈ tbl := tb_mem (List.mem_of_getElem? (i := 230) (by decide +kernel)) rfl
theorem h_X_better_sel : Cond.selects RX y_X_better y_X_better ∈ tbl := tb_mem (List.mem_of_getElem? (i := 231) (by decide +kernel)) rfl
abbrev b_X_least : ByteArray := prog_1_method_15_code
def y_X_least : MethodName := ⟨RX, "least", "(I)I"⟩
def w_X_least : List Cond := Cond.code y_X_least b_X_least 4 (some .int) :: tbl
theorem h_X_least_code : Cond.code y_X_least b_X_least 4 (some .int) ∈ tbl := tb_mem (List.mem_of_getElem? (i := 247) rfl) rfl
theorem h_X_least_kind : Cond.instanceMethod y_X_least ∈ tbl := tb_mem (List.mem_of_getElem? (i := 245) (by decide +kernel)) rfl
theorem h_X_least_sel : Cond.selects RX y_X_least y_X_least ∈ tbl := tb_mem (List.mem_of_getElem? (i := 246) (by decide +kernel)) rfl
abbrev b_X_size : ByteArray := prog_1_method_16_code
def y_X_size : MethodName := ⟨RX, "size", "()I"⟩
def w_X_size : List Cond := Cond.code y_X_size b_X_size 1 (some .int) :: tbl
theorem h_X_size_code : Cond.code y_X_size b_X_size 1 (some .int) ∈ tbl := tb_mem (List.mem_of_getElem? (i := 259) rfl) rfl
theorem h_X_size_kind : Cond.instanceMethod y_X_size ∈ tbl := tb_mem (List.mem_of_getElem? (i := 257) (by decide +kernel)) rfl
theorem h_X_size_sel : Cond.selects RX y_X_size y_X_size ∈ tbl := tb_mem (List.mem_of_getElem? (i := 258) (by decide +kernel)) rfl
abbrev b_X_isRank : ByteArray := prog_1_method_17_code
def y_X_isRank : MethodName := ⟨RX, "isRank", "(I)Z"⟩
def w_X_isRank : List Cond := Cond.code y_X_isRank b_X_isRank 1 (some .boolean) :: tbl
theorem h_X_isRank_code : Cond.code y_X_isRank b_X_isRank 1 (some .boolean) ∈ tbl := tb_mem (List.mem_of_getElem? (i := 95) rfl) rfl
theorem h_X_isRank_kind : Cond.static y_X_isRank ∈ tbl := tb_mem (List.mem_of_getElem? (i := 94) (by decide +kernel)) rfl
abbrev b_X_isWeight : ByteArray := prog_1_method_18_code
def y_X_isWeight : MethodName := ⟨RX, "isWeight", "(I)Z"⟩
def w_X_isWeight : List Cond := Cond.code y_X_isWeight b_X_isWeight 1 (some .boolean) :: tbl
theorem h_X_isWeight_code : Cond.code y_X_isWeight b_X_isWeight 1 (some .boolean) ∈ tbl := tb_mem (List.mem_of_getElem? (i := 98) rfl) rfl
theorem h_X_isWeight_kind : Cond.static y_X_isWeight ∈ tbl := tb_mem (List.mem_of_getElem? (i := 97) (by decide +kernel)) rfl
abbrev b_X_isAnswer : ByteArray := prog_1_method_19_code
def y_X_isAnswer : MethodName := ⟨RX, "isAnswer", "(I)Z"⟩
def w_X_isAnswer : List Cond := Cond.code y_X_isAnswer b_X_isAnswer 1 (some .boolean) :: tbl
theorem h_X_isAnswer_code : Cond.code y_X_isAnswer b_X_isAnswer 1 (some .boolean) ∈ tbl := tb_mem (List.mem_of_getElem? (i := 129) rfl) rfl
theorem h_X_isAnswer_kind : Cond.static y_X_isAnswer ∈ tbl := tb_mem (List.mem_of_getElem? (i := 128) (by decide +kernel)) rfl
abbrev b_X_isOrder : ByteArray := prog_1_method_20_code
def y_X_isOrder : MethodName := ⟨RX, "isOrder", "(I)Z"⟩
def w_X_isOrder : List Cond := Cond.code y_X_isOrder b_X_isOrder 1 (some .boolean) :: tbl
theorem h_X_isOrder_code : Cond.code y_X_isOrder b_X_isOrder 1 (some .boolean) ∈ tbl := tb_mem (List.mem_of_getElem? (i := 140) rfl) rfl
theorem h_X_isOrder_kind : Cond.static y_X_isOrder ∈ tbl := tb_mem (List.mem_of_getElem? (i := 139) (by decide +kernel)) rfl
abbrev b_X_isStatement : ByteArray := prog_1_method_21_code
def y_X_isStatement : MethodName := ⟨RX, "isStatement", "(I)Z"⟩
def w_X_isStatement : List Cond := Cond.code y_X_isStatement b_X_isStatement 2 (some .boolean) :: tbl
theorem h_X_isStatement_code : Cond.code y_X_isStatement b_X_isStatement 2 (some .boolean) ∈ tbl := tb_mem (List.mem_of_getElem? (i := 106) rfl) rfl
theorem h_X_isStatement_kind : Cond.instanceMethod y_X_isStatement ∈ tbl := tb_mem (List.mem_of_getElem? (i := 105) (by decide +kernel)) rfl
theorem h_X_isStatement_sel : Cond.selects RX y_X_isStatement y_X_isStatement ∈ tbl := tb_mem (List.mem_of_getElem? (i := 0) (by decide +kernel)) rfl
abbrev b_X_isRepair : ByteArray := prog_1_method_22_code
def y_X_isRepair : MethodName := ⟨RX, "isRepair", "(I)Z"⟩
def w_X_isRepair : List Cond := Cond.code y_X_isRepair b_X_isRepair 2 (some .boolean) :: tbl
theorem h_X_isRepair_code : Cond.code y_X_isRepair b_X_isRepair 2 (some .boolean) ∈ tbl := tb_mem (List.mem_of_getElem? (i := 208) rfl) rfl
theorem h_X_isRepair_kind : Cond.instanceMethod y_X_isRepair ∈ tbl := tb_mem (List.mem_of_getElem? (i := 207) (by decide +kernel)) rfl
theorem h_X_isRepair_sel : Cond.selects RX y_X_isRepair y_X_isRepair ∈ tbl := tb_mem (List.mem_of_getElem? (i := 16) (by decide +kernel)) rfl
abbrev b_X_isHard : ByteArray := prog_1_method_23_code
def y_X_isHard : MethodName := ⟨RX, "isHard", "(I)Z"⟩
def w_X_isHard : List Cond := Cond.code y_X_isHard b_X_isHard 2 (some .boolean) :: tbl
theorem h_X_isHard_code : Cond.code y_X_isHard b_X_isHard 2 (some .boolean) ∈ tbl := tb_mem (List.mem_of_getElem? (i := 110) rfl) rfl
theorem h_X_isHard_kind : Cond.instanceMethod y_X_isHard ∈ tbl := tb_mem (List.mem_of_getElem? (i := 109) (by decide +kernel)) rfl
theorem h_X_isHard_sel : Cond.selects RX y_X_isHard y_X_isHard ∈ tbl := tb_mem (List.mem_of_getElem? (i := 1) (by decide +kernel)) rfl
abbrev b_X_setCount : ByteArray := prog_1_method_24_code
def y_X_setCount : MethodName := ⟨RX, "setCount", "()I"⟩
def w_X_setCount : List Cond := Cond.code y_X_setCount b_X_setCount 1 (some .int) :: tbl
theorem h_X_setCount_code : Cond.code y_X_setCount b_X_setCount 1 (some .int) ∈ tbl := tb_mem (List.mem_of_getElem? (i := 156) rfl) rfl
theorem h_X_setCount_kind : Cond.instanceMethod y_X_setCount ∈ tbl := tb_mem (List.mem_of_getElem? (i := 155) (by decide +kernel)) rfl
theorem h_X_setCount_sel : Cond.selects RX y_X_setCount y_X_setCount ∈ tbl := tb_mem (List.mem_of_getElem? (i := 5) (by decide +kernel)) rfl
abbrev b_X_statementBits : ByteArray := prog_1_method_25_code
def y_X_statementBits : MethodName := ⟨RX, "statementBits", "()I"⟩
def w_X_statementBits : List Cond := Cond.code y_X_statementBits b_X_statementBits 1 (some .int) :: tbl
theorem h_X_statementBits_code : Cond.code y_X_statementBits b_X_statementBits 1 (some .int) ∈ tbl := tb_mem (List.mem_of_getElem? (i := 172) rfl) rfl
theorem h_X_statementBits_kind : Cond.instanceMethod y_X_statementBits ∈ tbl := tb_mem (List.mem_of_getElem? (i := 171) (by decide +kernel)) rfl
theorem h_X_statementBits_sel : Cond.selects RX y_X_statementBits y_X_statementBits ∈ tbl := tb_mem (List.mem_of_getElem? (i := 9) (by decide +kernel)) rfl
abbrev b_X_isBetter : ByteArray := prog_1_method_26_code
def y_X_isBetter : MethodName := ⟨RX, "isBetter", "(III)Z"⟩
def w_X_isBetter : List Cond := Cond.code y_X_isBetter b_X_isBetter 4 (some .boolean) :: tbl
theorem h_X_isBetter_code : Cond.code y_X_isBetter b_X_isBetter 4 (some .boolean) ∈ tbl := tb_mem (List.mem_of_getElem? (i := 236) rfl) rfl
theorem h_X_isBetter_kind : Cond.instanceMethod y_X_isBetter ∈ tbl := tb_mem (List.mem_of_getElem? (i := 235) (by decide +kernel)) rfl
theorem h_X_isBetter_sel : Cond.selects RX y_X_isBetter y_X_isBetter ∈ tbl := tb_mem (List.mem_of_getElem? (i := 19) (by decide +kernel)) rfl
abbrev b_X_isPart : ByteArray := prog_1_method_27_code
def y_X_isPart : MethodName := ⟨RX, "isPart", "(II)Z"⟩
def w_X_isPart : List Cond := Cond.code y_X_isPart b_X_isPart 2 (some .boolean) :: tbl
theorem h_X_isPart_code : Cond.code y_X_isPart b_X_isPart 2 (some .boolean) ∈ tbl := tb_mem (List.mem_of_getElem? (i := 183) rfl) rfl
theorem h_X_isPart_kind : Cond.static y_X_isPart ∈ tbl := tb_mem (List.mem_of_getElem? (i := 182) (by decide +kernel)) rfl
abbrev b_X_hasMore : ByteArray := prog_1_method_28_code
def y_X_hasMore : MethodName := ⟨RX, "hasMore", "(II)Z"⟩
def w_X_hasMore : List Cond := Cond.code y_X_hasMore b_X_hasMore 2 (some .boolean) :: tbl
theorem h_X_hasMore_code : Cond.code y_X_hasMore b_X_hasMore 2 (some .boolean) ∈ tbl := tb_mem (List.mem_of_getElem? (i := 239) rfl) rfl
theorem h_X_hasMore_kind : Cond.static y_X_hasMore ∈ tbl := tb_mem (List.mem_of_getElem? (i := 238) (by decide +kernel)) rfl
abbrev b_X_hasMoreByRank : ByteArray := prog_1_method_29_code
def y_X_hasMoreByRank : MethodName := ⟨RX, "hasMoreByRank", "(II)Z"⟩
def w_X_hasMoreByRank : List Cond := Cond.code y_X_hasMoreByRank b_X_hasMoreByRank 5 (some .boolean) :: tbl
theorem h_X_hasMoreByRank_code : Cond.code y_X_hasMoreByRank b_X_hasMoreByRank 5 (some .boolean) ∈ tbl := tb_mem (List.mem_of_getElem? (i := 243) rfl) rfl
theorem h_X_hasMoreByRank_kind : Cond.instanceMethod y_X_hasMoreByRank ∈ tbl := tb_mem (List.mem_of_getElem? (i := 242) (by decide +kernel)) rfl
theorem h_X_hasMoreByRank_sel : Cond.selects RX y_X_hasMoreByRank y_X_hasMoreByRank ∈ tbl := tb_mem (List.mem_of_getElem? (i := 20) (by decide +kernel)) rfl
abbrev b_X_defaultsOfRanks : ByteArray := prog_1_method_30_code
def y_X_defaultsOfRanks : MethodName := ⟨RX, "defaultsOfRanks", "(II)I"⟩
def w_X_defaultsOfRanks : List Cond := Cond.code y_X_defaultsOfRanks b_X_defaultsOfRanks 5 (some .int) :: tbl
theorem h_X_defaultsOfRanks_code : Cond.code y_X_defaultsOfRanks b_X_defaultsOfRanks 5 (some .int) ∈ tbl := tb_mem (List.mem_of_getElem? (i := 176) rfl) rfl
theorem h_X_defaultsOfRanks_kind : Cond.instanceMethod y_X_defaultsOfRanks ∈ tbl := tb_mem (List.mem_of_getElem? (i := 175) (by decide +kernel)) rfl
theorem h_X_defaultsOfRanks_sel : Cond.selects RX y_X_defaultsOfRanks y_X_defaultsOfRanks ∈ tbl := tb_mem (List.mem_of_getElem? (i := 10) (by decide +kernel)) rfl
abbrev b_X_worth : ByteArray := prog_1_method_31_code
def y_X_worth : MethodName := ⟨RX, "worth", "(II)J"⟩
def w_X_worth : List Cond := Cond.code y_X_worth b_X_worth 6 (some .long) :: tbl
theorem h_X_worth_code : Cond.code y_X_worth b_X_worth 6 (some .long) ∈ tbl := tb_mem (List.mem_of_getElem? (i := 200) rfl) rfl
theorem h_X_worth_kind : Cond.instanceMethod y_X_worth ∈ tbl := tb_mem (List.mem_of_getElem? (i := 199) (by decide +kernel)) rfl
theorem h_X_worth_sel : Cond.selects RX y_X_worth y_X_worth ∈ tbl := tb_mem (List.mem_of_getElem? (i := 15) (by decide +kernel)) rfl
abbrev b_X_supportsOf : ByteArray := prog_1_method_32_code
def y_X_supportsOf : MethodName := ⟨RX, "supportsOf", "(I)I"⟩
def w_X_supportsOf : List Cond := Cond.code y_X_supportsOf b_X_supportsOf 4 (some .int) :: tbl
theorem h_X_supportsOf_code : Cond.code y_X_supportsOf b_X_supportsOf 4 (some .int) ∈ tbl := tb_mem (List.mem_of_getElem? (i := 133) rfl) rfl
theorem h_X_supportsOf_kind : Cond.instanceMethod y_X_supportsOf ∈ tbl := tb_mem (List.mem_of_getElem? (i := 132) (by decide +kernel)) rfl
theorem h_X_supportsOf_sel : Cond.selects RX y_X_supportsOf y_X_supportsOf ∈ tbl := tb_mem (List.mem_of_getElem? (i := 2) (by decide +kernel)) rfl
abbrev b_X_holds : ByteArray := prog_1_method_33_code
def y_X_holds : MethodName := ⟨RX, "holds", "(II)Z"⟩
def w_X_holds : List Cond := Cond.code y_X_holds b_X_holds 4 (some .boolean) :: tbl
theorem h_X_holds_code : Cond.code y_X_holds b_X_holds 4 (some .boolean) ∈ tbl := tb_mem (List.mem_of_getElem? (i := 220) rfl) rfl
theorem h_X_holds_kind : Cond.instanceMethod y_X_holds ∈ tbl := tb_mem (List.mem_of_getElem? (i := 219) (by decide +kernel)) rfl
theorem h_X_holds_sel : Cond.selects RX y_X_holds y_X_holds ∈ tbl := tb_mem (List.mem_of_getElem? (i := 17) (by decide +kernel)) rfl
abbrev b_X_verdict : ByteArray := prog_1_method_34_code
def y_X_verdict : MethodName := ⟨RX, "verdict", "(I)I"⟩
def w_X_verdict : List Cond := Cond.code y_X_verdict b_X_verdict 2 (some .int) :: tbl
theorem h_X_verdict_code : Cond.code y_X_verdict b_X_verdict 2 (some .int) ∈ tbl := tb_mem (List.mem_of_getElem? (i := 224) rfl) rfl
theorem h_X_verdict_kind : Cond.instanceMethod y_X_verdict ∈ tbl := tb_mem (List.mem_of_getElem? (i := 223) (by decide +kernel)) rfl
theorem h_X_verdict_sel : Cond.selects RX y_X_verdict y_X_verdict ∈ tbl := tb_mem (List.mem_of_getElem? (i := 18) (by decide +kernel)) rfl
abbrev b_X_leastAfter : ByteArray := prog_1_method_35_code
def y_X_leastAfter : MethodName := ⟨RX, "leastAfter", "(I)I"⟩
def w_X_leastAfter : List Cond := Cond.code y_X_leastAfter b_X_leastAfter 5 (some .int) :: tbl
theorem h_X_leastAfter_code : Cond.code y_X_leastAfter b_X_leastAfter 5 (some .int) ∈ tbl := tb_mem (List.mem_of_getElem? (i := 251) rfl) rfl
theorem h_X_leastAfter_kind : Cond.instanceMethod y_X_leastAfter ∈ tbl := tb_mem (List.mem_of_getElem? (i := 250) (by decide +kernel)) rfl
theorem h_X_leastAfter_sel : Cond.selects RX y_X_leastAfter y_X_leastAfter ∈ tbl := tb_mem (List.mem_of_getElem? (i := 21) (by decide +kernel)) rfl
abbrev b_X_isLeast : ByteArray := prog_1_method_36_code
def y_X_isLeast : MethodName := ⟨RX, "isLeast", "(I)Z"⟩
def w_X_isLeast : List Cond := Cond.code y_X_isLeast b_X_isLeast 3 (some .boolean) :: tbl
theorem h_X_isLeast_code : Cond.code y_X_isLeast b_X_isLeast 3 (some .boolean) ∈ tbl := tb_mem (List.mem_of_getElem? (i := 255) rfl) rfl
theorem h_X_isLeast_kind : Cond.instanceMethod y_X_isLeast ∈ tbl := tb_mem (List.mem_of_getElem? (i := 254) (by decide +kernel)) rfl
theorem h_X_isLeast_sel : Cond.selects RX y_X_isLeast y_X_isLeast ∈ tbl := tb_mem (List.mem_of_getElem? (i := 22) (by decide +kernel)) rfl
abbrev b_X_refresh : ByteArray := prog_1_method_37_code
def y_X_refresh : MethodName := ⟨RX, "refresh", "()V"⟩
def w_X_refresh : List Cond := Cond.code y_X_refresh b_X_refresh 1 none :: tbl
theorem h_X_refresh_code : Cond.code y_X_refresh b_X_refresh 1 none ∈ tbl := tb_mem (List.mem_of_getElem? (i := 148) rfl) rfl
theorem h_X_refresh_kind : Cond.instanceMethod y_X_refresh ∈ tbl := tb_mem (List.mem_of_getElem? (i := 147) (by decide +kernel)) rfl
theorem h_X_refresh_sel : Cond.selects RX y_X_refresh y_X_refresh ∈ tbl := tb_mem (List.mem_of_getElem? (i := 3) (by decide +kernel)) rfl
abbrev b_X_markClashing : ByteArray := prog_1_method_38_code
def y_X_markClashing : MethodName := ⟨RX, "markClashing", "()V"⟩
def w_X_markClashing : List Cond := Cond.code y_X_markClashing b_X_markClashing 3 none :: tbl
theorem h_X_markClashing_code : Cond.code y_X_markClashing b_X_markClashing 3 none ∈ tbl := tb_mem (List.mem_of_getElem? (i := 152) rfl) rfl
theorem h_X_markClashing_kind : Cond.instanceMethod y_X_markClashing ∈ tbl := tb_mem (List.mem_of_getElem? (i := 151) (by decide +kernel)) rfl
theorem h_X_markClashing_sel : Cond.selects RX y_X_markClashing y_X_markClashing ∈ tbl := tb_mem (List.mem_of_getElem? (i := 4) (by decide +kernel)) rfl
abbrev b_X_hasClashingPart : ByteArray := prog_1_method_39_code
def y_X_hasClashingPart : MethodName := ⟨RX, "hasClashingPart", "(I)Z"⟩
def w_X_hasClashingPart : List Cond := Cond.code y_X_hasClashingPart b_X_hasClashingPart 4 (some .boolean) :: tbl
theorem h_X_hasClashingPart_code : Cond.code y_X_hasClashingPart b_X_hasClashingPart 4 (some .boolean) ∈ tbl := tb_mem (List.mem_of_getElem? (i := 160) rfl) rfl
theorem h_X_hasClashingPart_kind : Cond.instanceMethod y_X_hasClashingPart ∈ tbl := tb_mem (List.mem_of_getElem? (i := 159) (by decide +kernel)) rfl
theorem h_X_hasClashingPart_sel : Cond.selects RX y_X_hasClashingPart y_X_hasClashingPart ∈ tbl := tb_mem (List.mem_of_getElem? (i := 6) (by decide +kernel)) rfl
abbrev b_X_isKept : ByteArray := prog_1_method_40_code
def y_X_isKept : MethodName := ⟨RX, "isKept", "(I)Z"⟩
def w_X_isKept : List Cond := Cond.code y_X_isKept b_X_isKept 2 (some .boolean) :: tbl
theorem h_X_isKept_code : Cond.code y_X_isKept b_X_isKept 2 (some .boolean) ∈ tbl := tb_mem (List.mem_of_getElem? (i := 180) rfl) rfl
theorem h_X_isKept_kind : Cond.instanceMethod y_X_isKept ∈ tbl := tb_mem (List.mem_of_getElem? (i := 179) (by decide +kernel)) rfl
theorem h_X_isKept_sel : Cond.selects RX y_X_isKept y_X_isKept ∈ tbl := tb_mem (List.mem_of_getElem? (i := 11) (by decide +kernel)) rfl
abbrev b_X_addRepair : ByteArray := prog_1_method_41_code
def y_X_addRepair : MethodName := ⟨RX, "addRepair", "(I)V"⟩
def w_X_addRepair : List Cond := Cond.code y_X_addRepair b_X_addRepair 2 none :: tbl
theorem h_X_addRepair_code : Cond.code y_X_addRepair b_X_addRepair 2 none ∈ tbl := tb_mem (List.mem_of_getElem? (i := 191) rfl) rfl
theorem h_X_addRepair_kind : Cond.instanceMethod y_X_addRepair ∈ tbl := tb_mem (List.mem_of_getElem? (i := 190) (by decide +kernel)) rfl
theorem h_X_addRepair_sel : Cond.selects RX y_X_addRepair y_X_addRepair ∈ tbl := tb_mem (List.mem_of_getElem? (i := 13) (by decide +kernel)) rfl
abbrev b_X_collectFullGrown : ByteArray := prog_1_method_42_code
def y_X_collectFullGrown : MethodName := ⟨RX, "collectFullGrown", "()V"⟩
def w_X_collectFullGrown : List Cond := Cond.code y_X_collectFullGrown b_X_collectFullGrown 3 none :: tbl
theorem h_X_collectFullGrown_code : Cond.code y_X_collectFullGrown b_X_collectFullGrown 3 none ∈ tbl := tb_mem (List.mem_of_getElem? (i := 164) rfl) rfl
theorem h_X_collectFullGrown_kind : Cond.instanceMethod y_X_collectFullGrown ∈ tbl := tb_mem (List.mem_of_getElem? (i := 163) (by decide +kernel)) rfl
theorem h_X_collectFullGrown_sel : Cond.selects RX y_X_collectFullGrown y_X_collectFullGrown ∈ tbl := tb_mem (List.mem_of_getElem? (i := 7) (by decide +kernel)) rfl
abbrev b_X_companyOf : ByteArray := prog_1_method_43_code
def y_X_companyOf : MethodName := ⟨RX, "companyOf", "(I)I"⟩
def w_X_companyOf : List Cond := Cond.code y_X_companyOf b_X_companyOf 2 (some .int) :: tbl
theorem h_X_companyOf_code : Cond.code y_X_companyOf b_X_companyOf 2 (some .int) ∈ tbl := tb_mem (List.mem_of_getElem? (i := 168) rfl) rfl
theorem h_X_companyOf_kind : Cond.instanceMethod y_X_companyOf ∈ tbl := tb_mem (List.mem_of_getElem? (i := 167) (by decide +kernel)) rfl
theorem h_X_companyOf_sel : Cond.selects RX y_X_companyOf y_X_companyOf ∈ tbl := tb_mem (List.mem_of_getElem? (i := 8) (by decide +kernel)) rfl
abbrev b_X_canGrow : ByteArray := prog_1_method_44_code
def y_X_canGrow : MethodName := ⟨RX, "canGrow", "(I)Z"⟩
def w_X_canGrow : List Cond := Cond.code y_X_canGrow b_X_canGrow 4 (some .boolean) :: tbl
theorem h_X_canGrow_code : Cond.code y_X_canGrow b_X_canGrow 4 (some .boolean) ∈ tbl := tb_mem (List.mem_of_getElem? (i := 187) rfl) rfl
theorem h_X_canGrow_kind : Cond.instanceMethod y_X_canGrow ∈ tbl := tb_mem (List.mem_of_getElem? (i := 186) (by decide +kernel)) rfl
theorem h_X_canGrow_sel : Cond.selects RX y_X_canGrow y_X_canGrow ∈ tbl := tb_mem (List.mem_of_getElem? (i := 12) (by decide +kernel)) rfl
abbrev b_X_collectWorthiest : ByteArray := prog_1_method_45_code
def y_X_collectWorthiest : MethodName := ⟨RX, "collectWorthiest", "()V"⟩
def w_X_collectWorthiest : List Cond := Cond.code y_X_collectWorthiest b_X_collectWorthiest 7 none :: tbl
theorem h_X_collectWorthiest_code : Cond.code y_X_collectWorthiest b_X_collectWorthiest 7 none ∈ tbl := tb_mem (List.mem_of_getElem? (i := 195) rfl) rfl
theorem h_X_collectWorthiest_kind : Cond.instanceMethod y_X_collectWorthiest ∈ tbl := tb_mem (List.mem_of_getElem? (i := 194) (by decide +kernel)) rfl
theorem h_X_collectWorthiest_sel : Cond.selects RX y_X_collectWorthiest y_X_collectWorthiest ∈ tbl := tb_mem (List.mem_of_getElem? (i := 14) (by decide +kernel)) rfl
abbrev b_Y_init : ByteArray := prog_3_method_1_code
def y_Y_init : MethodName := ⟨RY, "<init>", "()V"⟩
def w_Y_init : List Cond := Cond.code y_Y_init b_Y_init 1 none :: tbl
theorem h_Y_init_code : Cond.code y_Y_init b_Y_init 1 none ∈ tbl := tb_mem (List.mem_of_getElem? (i := 264) rfl) rfl
theorem h_Y_init_kind : Cond.instanceMethod y_Y_init ∈ tbl := tb_mem (List.mem_of_getElem? (i := 263) (by decide +kernel)) rfl
abbrev b_Y_isStatement : ByteArray := prog_3_method_2_code
def y_Y_isStatement : MethodName := ⟨RY, "isStatement", "(I)Z"⟩
def w_Y_isStatement : List Cond := Cond.code y_Y_isStatement b_Y_isStatement 2 (some .boolean) :: tbl
theorem h_Y_isStatement_code : Cond.code y_Y_isStatement b_Y_isStatement 2 (some .boolean) ∈ tbl := tb_mem (List.mem_of_getElem? (i := 323) rfl) rfl
theorem h_Y_isStatement_kind : Cond.instanceMethod y_Y_isStatement ∈ tbl := tb_mem (List.mem_of_getElem? (i := 322) (by decide +kernel)) rfl
theorem h_Y_isStatement_sel : Cond.selects RY y_Y_isStatement y_Y_isStatement ∈ tbl := tb_mem (List.mem_of_getElem? (i := 23) (by decide +kernel)) rfl
abbrev b_Y_areGood : ByteArray := prog_3_method_3_code
def y_Y_areGood : MethodName := ⟨RY, "areGood", "(II)Z"⟩
def w_Y_areGood : List Cond := Cond.code y_Y_areGood b_Y_areGood 2 (some .boolean) :: tbl
theorem h_Y_areGood_code : Cond.code y_Y_areGood b_Y_areGood 2 (some .boolean) ∈ tbl := tb_mem (List.mem_of_getElem? (i := 315) rfl) rfl
theorem h_Y_areGood_kind : Cond.static y_Y_areGood ∈ tbl := tb_mem (List.mem_of_getElem? (i := 314) (by decide +kernel)) rfl
abbrev b_Y_fact : ByteArray := prog_3_method_4_code
def y_Y_fact : MethodName := ⟨RY, "fact", "(ZII)I"⟩
def w_Y_fact : List Cond := Cond.code y_Y_fact b_Y_fact 4 (some .int) :: tbl
theorem h_Y_fact_code : Cond.code y_Y_fact b_Y_fact 4 (some .int) ∈ tbl := tb_mem (List.mem_of_getElem? (i := 312) rfl) rfl
theorem h_Y_fact_kind : Cond.instanceMethod y_Y_fact ∈ tbl := tb_mem (List.mem_of_getElem? (i := 310) (by decide +kernel)) rfl
theorem h_Y_fact_sel : Cond.selects RY y_Y_fact y_Y_fact ∈ tbl := tb_mem (List.mem_of_getElem? (i := 311) (by decide +kernel)) rfl
abbrev b_Y_harden : ByteArray := prog_3_method_5_code
def y_Y_harden : MethodName := ⟨RY, "harden", "(IZ)I"⟩
def w_Y_harden : List Cond := Cond.code y_Y_harden b_Y_harden 4 (some .int) :: tbl
theorem h_Y_harden_code : Cond.code y_Y_harden b_Y_harden 4 (some .int) ∈ tbl := tb_mem (List.mem_of_getElem? (i := 319) rfl) rfl
theorem h_Y_harden_kind : Cond.instanceMethod y_Y_harden ∈ tbl := tb_mem (List.mem_of_getElem? (i := 317) (by decide +kernel)) rfl
theorem h_Y_harden_sel : Cond.selects RY y_Y_harden y_Y_harden ∈ tbl := tb_mem (List.mem_of_getElem? (i := 318) (by decide +kernel)) rfl
abbrev b_Y_weight : ByteArray := prog_3_method_6_code
def y_Y_weight : MethodName := ⟨RY, "weight", "(III)I"⟩
def w_Y_weight : List Cond := Cond.code y_Y_weight b_Y_weight 4 (some .int) :: tbl
theorem h_Y_weight_code : Cond.code y_Y_weight b_Y_weight 4 (some .int) ∈ tbl := tb_mem (List.mem_of_getElem? (i := 327) rfl) rfl
theorem h_Y_weight_kind : Cond.instanceMethod y_Y_weight ∈ tbl := tb_mem (List.mem_of_getElem? (i := 325) (by decide +kernel)) rfl
theorem h_Y_weight_sel : Cond.selects RY y_Y_weight y_Y_weight ∈ tbl := tb_mem (List.mem_of_getElem? (i := 326) (by decide +kernel)) rfl
abbrev b_Y_clash : ByteArray := prog_3_method_7_code
def y_Y_clash : MethodName := ⟨RY, "clash", "(I)I"⟩
def w_Y_clash : List Cond := Cond.code y_Y_clash b_Y_clash 2 (some .int) :: tbl
theorem h_Y_clash_code : Cond.code y_Y_clash b_Y_clash 2 (some .int) ∈ tbl := tb_mem (List.mem_of_getElem? (i := 331) rfl) rfl
theorem h_Y_clash_kind : Cond.instanceMethod y_Y_clash ∈ tbl := tb_mem (List.mem_of_getElem? (i := 329) (by decide +kernel)) rfl
theorem h_Y_clash_sel : Cond.selects RY y_Y_clash y_Y_clash ∈ tbl := tb_mem (List.mem_of_getElem? (i := 330) (by decide +kernel)) rfl
abbrev b_Y_settle : ByteArray := prog_3_method_8_code
def y_Y_settle : MethodName := ⟨RY, "settle", "()I"⟩
def w_Y_settle : List Cond := Cond.code y_Y_settle b_Y_settle 1 (some .int) :: tbl
theorem h_Y_settle_code : Cond.code y_Y_settle b_Y_settle 1 (some .int) ∈ tbl := tb_mem (List.mem_of_getElem? (i := 335) rfl) rfl
theorem h_Y_settle_kind : Cond.instanceMethod y_Y_settle ∈ tbl := tb_mem (List.mem_of_getElem? (i := 333) (by decide +kernel)) rfl
theorem h_Y_settle_sel : Cond.selects RY y_Y_settle y_Y_settle ∈ tbl := tb_mem (List.mem_of_getElem? (i := 334) (by decide +kernel)) rfl
abbrev b_Y_support : ByteArray := prog_3_method_9_code
def y_Y_support : MethodName := ⟨RY, "support", "(II)I"⟩
def w_Y_support : List Cond := Cond.code y_Y_support b_Y_support 5 (some .int) :: tbl
theorem h_Y_support_code : Cond.code y_Y_support b_Y_support 5 (some .int) ∈ tbl := tb_mem (List.mem_of_getElem? (i := 339) rfl) rfl
theorem h_Y_support_kind : Cond.instanceMethod y_Y_support ∈ tbl := tb_mem (List.mem_of_getElem? (i := 337) (by decide +kernel)) rfl
theorem h_Y_support_sel : Cond.selects RY y_Y_support y_Y_support ∈ tbl := tb_mem (List.mem_of_getElem? (i := 338) (by decide +kernel)) rfl
abbrev b_Y_order : ByteArray := prog_3_method_10_code
def y_Y_order : MethodName := ⟨RY, "order", "(I)I"⟩
def w_Y_order : List Cond := Cond.code y_Y_order b_Y_order 2 (some .int) :: tbl
theorem h_Y_order_code : Cond.code y_Y_order b_Y_order 2 (some .int) ∈ tbl := tb_mem (List.mem_of_getElem? (i := 343) rfl) rfl
theorem h_Y_order_kind : Cond.instanceMethod y_Y_order ∈ tbl := tb_mem (List.mem_of_getElem? (i := 341) (by decide +kernel)) rfl
theorem h_Y_order_sel : Cond.selects RY y_Y_order y_Y_order ∈ tbl := tb_mem (List.mem_of_getElem? (i := 342) (by decide +kernel)) rfl
abbrev b_Y_has : ByteArray := prog_3_method_11_code
def y_Y_has : MethodName := ⟨RY, "has", "(II)Z"⟩
def w_Y_has : List Cond := Cond.code y_Y_has b_Y_has 2 (some .boolean) :: tbl
theorem h_Y_has_code : Cond.code y_Y_has b_Y_has 2 (some .boolean) ∈ tbl := tb_mem (List.mem_of_getElem? (i := 354) rfl) rfl
theorem h_Y_has_kind : Cond.static y_Y_has ∈ tbl := tb_mem (List.mem_of_getElem? (i := 353) (by decide +kernel)) rfl
abbrev b_Y_compare : ByteArray := prog_3_method_12_code
def y_Y_compare : MethodName := ⟨RY, "compare", "(IIIZ)I"⟩
def w_Y_compare : List Cond := Cond.code y_Y_compare b_Y_compare 8 (some .int) :: tbl
theorem h_Y_compare_code : Cond.code y_Y_compare b_Y_compare 8 (some .int) ∈ tbl := tb_mem (List.mem_of_getElem? (i := 358) rfl) rfl
theorem h_Y_compare_kind : Cond.instanceMethod y_Y_compare ∈ tbl := tb_mem (List.mem_of_getElem? (i := 357) (by decide +kernel)) rfl
theorem h_Y_compare_sel : Cond.selects RY y_Y_compare y_Y_compare ∈ tbl := tb_mem (List.mem_of_getElem? (i := 25) (by decide +kernel)) rfl
abbrev b_Y_isBetter : ByteArray := prog_3_method_13_code
def y_Y_isBetter : MethodName := ⟨RY, "isBetter", "(III)Z"⟩
def w_Y_isBetter : List Cond := Cond.code y_Y_isBetter b_Y_isBetter 6 (some .boolean) :: tbl
theorem h_Y_isBetter_code : Cond.code y_Y_isBetter b_Y_isBetter 6 (some .boolean) ∈ tbl := tb_mem (List.mem_of_getElem? (i := 351) rfl) rfl
theorem h_Y_isBetter_kind : Cond.instanceMethod y_Y_isBetter ∈ tbl := tb_mem (List.mem_of_getElem? (i := 350) (by decide +kernel)) rfl
theorem h_Y_isBetter_sel : Cond.selects RY y_Y_isBetter y_Y_isBetter ∈ tbl := tb_mem (List.mem_of_getElem? (i := 24) (by decide +kernel)) rfl
abbrev b_Y_better : ByteArray := prog_3_method_14_code
def y_Y_better : MethodName := ⟨RY, "better", "(III)I"⟩
def w_Y_better : List Cond := Cond.code y_Y_better b_Y_better 5 (some .int) :: tbl
theorem h_Y_better_code : Cond.code y_Y_better b_Y_better 5 (some .int) ∈ tbl := tb_mem (List.mem_of_getElem? (i := 347) rfl) rfl
theorem h_Y_better_kind : Cond.instanceMethod y_Y_better ∈ tbl := tb_mem (List.mem_of_getElem? (i := 345) (by decide +kernel)) rfl
theorem h_Y_better_sel : Cond.selects RY y_Y_better y_Y_better ∈ tbl := tb_mem (List.mem_of_getElem? (i := 346) (by decide +kernel)) rfl
abbrev b_Y_isKept : ByteArray := prog_3_method_15_code
def y_Y_isKept : MethodName := ⟨RY, "isKept", "(I)Z"⟩
def w_Y_isKept : List Cond := Cond.code y_Y_isKept b_Y_isKept 4 (some .boolean) :: tbl
theorem h_Y_isKept_code : Cond.code y_Y_isKept b_Y_isKept 4 (some .boolean) ∈ tbl := tb_mem (List.mem_of_getElem? (i := 370) rfl) rfl
theorem h_Y_isKept_kind : Cond.instanceMethod y_Y_isKept ∈ tbl := tb_mem (List.mem_of_getElem? (i := 369) (by decide +kernel)) rfl
theorem h_Y_isKept_sel : Cond.selects RY y_Y_isKept y_Y_isKept ∈ tbl := tb_mem (List.mem_of_getElem? (i := 27) (by decide +kernel)) rfl
abbrev b_Y_work : ByteArray := prog_3_method_16_code
def y_Y_work : MethodName := ⟨RY, "work", "()V"⟩
def w_Y_work : List Cond := Cond.code y_Y_work b_Y_work 4 none :: tbl
theorem h_Y_work_code : Cond.code y_Y_work b_Y_work 4 none ∈ tbl := tb_mem (List.mem_of_getElem? (i := 366) rfl) rfl
theorem h_Y_work_kind : Cond.instanceMethod y_Y_work ∈ tbl := tb_mem (List.mem_of_getElem? (i := 365) (by decide +kernel)) rfl
theorem h_Y_work_sel : Cond.selects RY y_Y_work y_Y_work ∈ tbl := tb_mem (List.mem_of_getElem? (i := 26) (by decide +kernel)) rfl
abbrev b_Y_find : ByteArray := prog_3_method_17_code
def y_Y_find : MethodName := ⟨RY, "find", "()I"⟩
def w_Y_find : List Cond := Cond.code y_Y_find b_Y_find 1 (some .int) :: tbl
theorem h_Y_find_code : Cond.code y_Y_find b_Y_find 1 (some .int) ∈ tbl := tb_mem (List.mem_of_getElem? (i := 362) rfl) rfl
theorem h_Y_find_kind : Cond.instanceMethod y_Y_find ∈ tbl := tb_mem (List.mem_of_getElem? (i := 360) (by decide +kernel)) rfl
theorem h_Y_find_sel : Cond.selects RY y_Y_find y_Y_find ∈ tbl := tb_mem (List.mem_of_getElem? (i := 361) (by decide +kernel)) rfl
abbrev b_Y_kept : ByteArray := prog_3_method_18_code
def y_Y_kept : MethodName := ⟨RY, "kept", "(I)I"⟩
def w_Y_kept : List Cond := Cond.code y_Y_kept b_Y_kept 2 (some .int) :: tbl
theorem h_Y_kept_code : Cond.code y_Y_kept b_Y_kept 2 (some .int) ∈ tbl := tb_mem (List.mem_of_getElem? (i := 374) rfl) rfl
theorem h_Y_kept_kind : Cond.instanceMethod y_Y_kept ∈ tbl := tb_mem (List.mem_of_getElem? (i := 372) (by decide +kernel)) rfl
theorem h_Y_kept_sel : Cond.selects RY y_Y_kept y_Y_kept ∈ tbl := tb_mem (List.mem_of_getElem? (i := 373) (by decide +kernel)) rfl
abbrev b_Y_left : ByteArray := prog_3_method_19_code
def y_Y_left : MethodName := ⟨RY, "left", "(II)I"⟩
def w_Y_left : List Cond := Cond.code y_Y_left b_Y_left 5 (some .int) :: tbl
theorem h_Y_left_code : Cond.code y_Y_left b_Y_left 5 (some .int) ∈ tbl := tb_mem (List.mem_of_getElem? (i := 378) rfl) rfl
theorem h_Y_left_kind : Cond.instanceMethod y_Y_left ∈ tbl := tb_mem (List.mem_of_getElem? (i := 376) (by decide +kernel)) rfl
theorem h_Y_left_sel : Cond.selects RY y_Y_left y_Y_left ∈ tbl := tb_mem (List.mem_of_getElem? (i := 377) (by decide +kernel)) rfl
abbrev b_Y_told : ByteArray := prog_3_method_20_code
def y_Y_told : MethodName := ⟨RY, "told", "(I)I"⟩
def w_Y_told : List Cond := Cond.code y_Y_told b_Y_told 2 (some .int) :: tbl
theorem h_Y_told_code : Cond.code y_Y_told b_Y_told 2 (some .int) ∈ tbl := tb_mem (List.mem_of_getElem? (i := 386) rfl) rfl
theorem h_Y_told_kind : Cond.instanceMethod y_Y_told ∈ tbl := tb_mem (List.mem_of_getElem? (i := 385) (by decide +kernel)) rfl
theorem h_Y_told_sel : Cond.selects RY y_Y_told y_Y_told ∈ tbl := tb_mem (List.mem_of_getElem? (i := 28) (by decide +kernel)) rfl
abbrev b_Y_truth : ByteArray := prog_3_method_21_code
def y_Y_truth : MethodName := ⟨RY, "truth", "(I)I"⟩
def w_Y_truth : List Cond := Cond.code y_Y_truth b_Y_truth 6 (some .int) :: tbl
theorem h_Y_truth_code : Cond.code y_Y_truth b_Y_truth 6 (some .int) ∈ tbl := tb_mem (List.mem_of_getElem? (i := 382) rfl) rfl
theorem h_Y_truth_kind : Cond.instanceMethod y_Y_truth ∈ tbl := tb_mem (List.mem_of_getElem? (i := 380) (by decide +kernel)) rfl
theorem h_Y_truth_sel : Cond.selects RY y_Y_truth y_Y_truth ∈ tbl := tb_mem (List.mem_of_getElem? (i := 381) (by decide +kernel)) rfl
abbrev b_Y_surely : ByteArray := prog_3_method_22_code
def y_Y_surely : MethodName := ⟨RY, "surely", "(I)I"⟩
def w_Y_surely : List Cond := Cond.code y_Y_surely b_Y_surely 4 (some .int) :: tbl
theorem h_Y_surely_code : Cond.code y_Y_surely b_Y_surely 4 (some .int) ∈ tbl := tb_mem (List.mem_of_getElem? (i := 390) rfl) rfl
theorem h_Y_surely_kind : Cond.instanceMethod y_Y_surely ∈ tbl := tb_mem (List.mem_of_getElem? (i := 388) (by decide +kernel)) rfl
theorem h_Y_surely_sel : Cond.selects RY y_Y_surely y_Y_surely ∈ tbl := tb_mem (List.mem_of_getElem? (i := 389) (by decide +kernel)) rfl
abbrev b_Y_isLeast : ByteArray := prog_3_method_23_code
def y_Y_isLeast : MethodName := ⟨RY, "isLeast", "(I)Z"⟩
def w_Y_isLeast : List Cond := Cond.code y_Y_isLeast b_Y_isLeast 5 (some .boolean) :: tbl
theorem h_Y_isLeast_code : Cond.code y_Y_isLeast b_Y_isLeast 5 (some .boolean) ∈ tbl := tb_mem (List.mem_of_getElem? (i := 398) rfl) rfl
theorem h_Y_isLeast_kind : Cond.instanceMethod y_Y_isLeast ∈ tbl := tb_mem (List.mem_of_getElem? (i := 397) (by decide +kernel)) rfl
theorem h_Y_isLeast_sel : Cond.selects RY y_Y_isLeast y_Y_isLeast ∈ tbl := tb_mem (List.mem_of_getElem? (i := 29) (by decide +kernel)) rfl
abbrev b_Y_least : ByteArray := prog_3_method_24_code
def y_Y_least : MethodName := ⟨RY, "least", "(I)I"⟩
def w_Y_least : List Cond := Cond.code y_Y_least b_Y_least 4 (some .int) :: tbl
theorem h_Y_least_code : Cond.code y_Y_least b_Y_least 4 (some .int) ∈ tbl := tb_mem (List.mem_of_getElem? (i := 394) rfl) rfl
theorem h_Y_least_kind : Cond.instanceMethod y_Y_least ∈ tbl := tb_mem (List.mem_of_getElem? (i := 392) (by decide +kernel)) rfl
theorem h_Y_least_sel : Cond.selects RY y_Y_least y_Y_least ∈ tbl := tb_mem (List.mem_of_getElem? (i := 393) (by decide +kernel)) rfl
abbrev b_Y_size : ByteArray := prog_3_method_25_code
def y_Y_size : MethodName := ⟨RY, "size", "()I"⟩
def w_Y_size : List Cond := Cond.code y_Y_size b_Y_size 1 (some .int) :: tbl
theorem h_Y_size_code : Cond.code y_Y_size b_Y_size 1 (some .int) ∈ tbl := tb_mem (List.mem_of_getElem? (i := 402) rfl) rfl
theorem h_Y_size_kind : Cond.instanceMethod y_Y_size ∈ tbl := tb_mem (List.mem_of_getElem? (i := 400) (by decide +kernel)) rfl
theorem h_Y_size_sel : Cond.selects RY y_Y_size y_Y_size ∈ tbl := tb_mem (List.mem_of_getElem? (i := 401) (by decide +kernel)) rfl
theorem h_X_ini : Cond.initialized RX ∈ tbl := tb_mem (List.mem_of_getElem? (i := 31) (by decide +kernel)) rfl
theorem h_Y_ini : Cond.initialized RY ∈ tbl := tb_mem (List.mem_of_getElem? (i := 32) (by decide +kernel)) rfl
theorem tb_of {w : Cond} (h : w ∈ tbl) : w ∈ tbl ∧ ((w.onTables && w.keeps) = true ∨ ∃ ty, w = .arrayClass ty) := ⟨h, good_of_word (List.mem_filter.mp h).2⟩
theorem tb_all {y : MethodName} {bytes : ByteArray} {n : Nat} {r : Option FieldType} (hc : Cond.code y bytes n r ∈ tbl) : GoodIn tbl (Cond.code y bytes n r :: tbl) := by
  intro w hw
  rcases List.mem_cons.mp hw with h | h
  · rw [h]; exact tb_of hc
  · exact tb_of h
theorem tb_V {own C : String} {idx : Nat} {y : MethodName} {ws : List Cond} (h1 : Cond.methodLink own idx y ∈ tbl) (h2 : Cond.instanceMethod y ∈ tbl) (h3 : Cond.selects C y y ∈ tbl) (h4 : Cond.initialized C ∈ tbl) (h5 : GoodIn tbl ws) : GoodIn tbl (wsV own idx C y ws) := by
  intro w hw
  rcases List.mem_append.mp hw with h | h
  · simp only [List.mem_cons, List.not_mem_nil, or_false] at h
    rcases h with h | h | h | h <;> rw [h]
    · exact tb_of h1
    · exact tb_of h2
    · exact tb_of h3
    · exact tb_of h4
  · exact h5 w h
theorem tb_S {own : String} {idx : Nat} {y : MethodName} {ws : List Cond} (h1 : Cond.methodLink own idx y ∈ tbl) (h2 : Cond.static y ∈ tbl) (h4 : Cond.initialized own ∈ tbl) (h5 : GoodIn tbl ws) : GoodIn tbl (wsS own idx y ws) := by
  intro w hw
  rcases List.mem_append.mp hw with h | h
  · simp only [List.mem_cons, List.not_mem_nil, or_false] at h
    rcases h with h | h | h <;> rw [h]
    · exact tb_of h1
    · exact tb_of h2
    · exact tb_of h4
  · exact h5 w h
theorem l_X_3 : Cond.methodLink RX 3 objectInit ∈ tbl := tb_mem (List.mem_of_getElem? (i := 38) (by decide +kernel)) rfl
theorem f_X_9 : Cond.fieldLink RX 9 "DefaultRepair" "statementCount" "I" ∈ tbl := tb_mem (List.mem_of_getElem? (i := 41) (by decide +kernel)) rfl
theorem f_X_13 : Cond.fieldLink RX 13 "DefaultRepair" "hardBits" "I" ∈ tbl := tb_mem (List.mem_of_getElem? (i := 42) (by decide +kernel)) rfl
theorem f_X_16 : Cond.fieldLink RX 16 "DefaultRepair" "ranks" "[I" ∈ tbl := tb_mem (List.mem_of_getElem? (i := 43) (by decide +kernel)) rfl
theorem f_X_20 : Cond.fieldLink RX 20 "DefaultRepair" "weights" "[I" ∈ tbl := tb_mem (List.mem_of_getElem? (i := 44) (by decide +kernel)) rfl
theorem f_X_23 : Cond.fieldLink RX 23 "DefaultRepair" "clashes" "[I" ∈ tbl := tb_mem (List.mem_of_getElem? (i := 45) (by decide +kernel)) rfl
theorem f_X_26 : Cond.fieldLink RX 26 "DefaultRepair" "clashCount" "I" ∈ tbl := tb_mem (List.mem_of_getElem? (i := 46) (by decide +kernel)) rfl
theorem f_X_29 : Cond.fieldLink RX 29 "DefaultRepair" "supports" "[I" ∈ tbl := tb_mem (List.mem_of_getElem? (i := 47) (by decide +kernel)) rfl
theorem f_X_32 : Cond.fieldLink RX 32 "DefaultRepair" "supportAnswers" "[I" ∈ tbl := tb_mem (List.mem_of_getElem? (i := 48) (by decide +kernel)) rfl
theorem f_X_35 : Cond.fieldLink RX 35 "DefaultRepair" "supportCount" "I" ∈ tbl := tb_mem (List.mem_of_getElem? (i := 49) (by decide +kernel)) rfl
theorem f_X_38 : Cond.fieldLink RX 38 "DefaultRepair" "orderNow" "I" ∈ tbl := tb_mem (List.mem_of_getElem? (i := 50) (by decide +kernel)) rfl
theorem f_X_41 : Cond.fieldLink RX 41 "DefaultRepair" "fresh" "Z" ∈ tbl := tb_mem (List.mem_of_getElem? (i := 51) (by decide +kernel)) rfl
theorem f_X_45 : Cond.fieldLink RX 45 "DefaultRepair" "clashing" "[Z" ∈ tbl := tb_mem (List.mem_of_getElem? (i := 52) (by decide +kernel)) rfl
theorem f_X_49 : Cond.fieldLink RX 49 "DefaultRepair" "company" "[I" ∈ tbl := tb_mem (List.mem_of_getElem? (i := 53) (by decide +kernel)) rfl
theorem f_X_52 : Cond.fieldLink RX 52 "DefaultRepair" "repairs" "[I" ∈ tbl := tb_mem (List.mem_of_getElem? (i := 54) (by decide +kernel)) rfl
theorem f_X_55 : Cond.fieldLink RX 55 "DefaultRepair" "repairCount" "I" ∈ tbl := tb_mem (List.mem_of_getElem? (i := 55) (by decide +kernel)) rfl
theorem l_X_58 : Cond.methodLink RX 58 y_X_isRank ∈ tbl := tb_mem (List.mem_of_getElem? (i := 93) (by decide +kernel)) rfl
theorem g_X_58 : GoodIn tbl (wsS RX 58 y_X_isRank w_X_isRank) := tb_S l_X_58 h_X_isRank_kind h_X_ini (tb_all h_X_isRank_code)
theorem l_X_62 : Cond.methodLink RX 62 y_X_isWeight ∈ tbl := tb_mem (List.mem_of_getElem? (i := 96) (by decide +kernel)) rfl
theorem g_X_62 : GoodIn tbl (wsS RX 62 y_X_isWeight w_X_isWeight) := tb_S l_X_62 h_X_isWeight_kind h_X_ini (tb_all h_X_isWeight_code)
theorem l_X_65 : Cond.methodLink RX 65 y_X_isStatement ∈ tbl := tb_mem (List.mem_of_getElem? (i := 103) (by decide +kernel)) rfl
theorem g_X_65 : GoodIn tbl (wsV RX 65 RX y_X_isStatement w_X_isStatement) := tb_V l_X_65 h_X_isStatement_kind h_X_isStatement_sel h_X_ini (tb_all h_X_isStatement_code)
theorem l_X_68 : Cond.methodLink RX 68 y_X_isHard ∈ tbl := tb_mem (List.mem_of_getElem? (i := 107) (by decide +kernel)) rfl
theorem g_X_68 : GoodIn tbl (wsV RX 68 RX y_X_isHard w_X_isHard) := tb_V l_X_68 h_X_isHard_kind h_X_isHard_sel h_X_ini (tb_all h_X_isHard_code)
theorem l_X_71 : Cond.methodLink RX 71 y_X_isAnswer ∈ tbl := tb_mem (List.mem_of_getElem? (i := 127) (by decide +kernel)) rfl
theorem g_X_71 : GoodIn tbl (wsS RX 71 y_X_isAnswer w_X_isAnswer) := tb_S l_X_71 h_X_isAnswer_kind h_X_ini (tb_all h_X_isAnswer_code)
theorem l_X_74 : Cond.methodLink RX 74 y_X_supportsOf ∈ tbl := tb_mem (List.mem_of_getElem? (i := 130) (by decide +kernel)) rfl
theorem g_X_74 : GoodIn tbl (wsV RX 74 RX y_X_supportsOf w_X_supportsOf) := tb_V l_X_74 h_X_supportsOf_kind h_X_supportsOf_sel h_X_ini (tb_all h_X_supportsOf_code)
theorem l_X_78 : Cond.methodLink RX 78 y_X_isOrder ∈ tbl := tb_mem (List.mem_of_getElem? (i := 138) (by decide +kernel)) rfl
theorem g_X_78 : GoodIn tbl (wsS RX 78 y_X_isOrder w_X_isOrder) := tb_S l_X_78 h_X_isOrder_kind h_X_ini (tb_all h_X_isOrder_code)
theorem l_X_81 : Cond.methodLink RX 81 y_X_refresh ∈ tbl := tb_mem (List.mem_of_getElem? (i := 145) (by decide +kernel)) rfl
theorem g_X_81 : GoodIn tbl (wsV RX 81 RX y_X_refresh w_X_refresh) := tb_V l_X_81 h_X_refresh_kind h_X_refresh_sel h_X_ini (tb_all h_X_refresh_code)
theorem l_X_84 : Cond.methodLink RX 84 y_X_isRepair ∈ tbl := tb_mem (List.mem_of_getElem? (i := 205) (by decide +kernel)) rfl
theorem g_X_84 : GoodIn tbl (wsV RX 84 RX y_X_isRepair w_X_isRepair) := tb_V l_X_84 h_X_isRepair_kind h_X_isRepair_sel h_X_ini (tb_all h_X_isRepair_code)
theorem l_X_87 : Cond.methodLink RX 87 y_X_holds ∈ tbl := tb_mem (List.mem_of_getElem? (i := 217) (by decide +kernel)) rfl
theorem g_X_87 : GoodIn tbl (wsV RX 87 RX y_X_holds w_X_holds) := tb_V l_X_87 h_X_holds_kind h_X_holds_sel h_X_ini (tb_all h_X_holds_code)
theorem l_X_91 : Cond.methodLink RX 91 y_X_verdict ∈ tbl := tb_mem (List.mem_of_getElem? (i := 221) (by decide +kernel)) rfl
theorem g_X_91 : GoodIn tbl (wsV RX 91 RX y_X_verdict w_X_verdict) := tb_V l_X_91 h_X_verdict_kind h_X_verdict_sel h_X_ini (tb_all h_X_verdict_code)
theorem l_X_94 : Cond.methodLink RX 94 y_X_statementBits ∈ tbl := tb_mem (List.mem_of_getElem? (i := 169) (by decide +kernel)) rfl
theorem g_X_94 : GoodIn tbl (wsV RX 94 RX y_X_statementBits w_X_statementBits) := tb_V l_X_94 h_X_statementBits_kind h_X_statementBits_sel h_X_ini (tb_all h_X_statementBits_code)
theorem l_X_98 : Cond.methodLink RX 98 y_X_isBetter ∈ tbl := tb_mem (List.mem_of_getElem? (i := 233) (by decide +kernel)) rfl
theorem g_X_98 : GoodIn tbl (wsV RX 98 RX y_X_isBetter w_X_isBetter) := tb_V l_X_98 h_X_isBetter_kind h_X_isBetter_sel h_X_ini (tb_all h_X_isBetter_code)
theorem l_X_102 : Cond.methodLink RX 102 y_X_leastAfter ∈ tbl := tb_mem (List.mem_of_getElem? (i := 248) (by decide +kernel)) rfl
theorem g_X_102 : GoodIn tbl (wsV RX 102 RX y_X_leastAfter w_X_leastAfter) := tb_V l_X_102 h_X_leastAfter_kind h_X_leastAfter_sel h_X_ini (tb_all h_X_leastAfter_code)
theorem l_X_105 : Cond.methodLink RX 105 y_X_setCount ∈ tbl := tb_mem (List.mem_of_getElem? (i := 153) (by decide +kernel)) rfl
theorem g_X_105 : GoodIn tbl (wsV RX 105 RX y_X_setCount w_X_setCount) := tb_V l_X_105 h_X_setCount_kind h_X_setCount_sel h_X_ini (tb_all h_X_setCount_code)
theorem l_X_108 : Cond.methodLink RX 108 y_X_hasMore ∈ tbl := tb_mem (List.mem_of_getElem? (i := 237) (by decide +kernel)) rfl
theorem g_X_108 : GoodIn tbl (wsS RX 108 y_X_hasMore w_X_hasMore) := tb_S l_X_108 h_X_hasMore_kind h_X_ini (tb_all h_X_hasMore_code)
theorem l_X_111 : Cond.methodLink RX 111 y_X_hasMoreByRank ∈ tbl := tb_mem (List.mem_of_getElem? (i := 240) (by decide +kernel)) rfl
theorem g_X_111 : GoodIn tbl (wsV RX 111 RX y_X_hasMoreByRank w_X_hasMoreByRank) := tb_V l_X_111 h_X_hasMoreByRank_kind h_X_hasMoreByRank_sel h_X_ini (tb_all h_X_hasMoreByRank_code)
theorem l_X_114 : Cond.methodLink RX 114 y_X_worth ∈ tbl := tb_mem (List.mem_of_getElem? (i := 197) (by decide +kernel)) rfl
theorem g_X_114 : GoodIn tbl (wsV RX 114 RX y_X_worth w_X_worth) := tb_V l_X_114 h_X_worth_kind h_X_worth_sel h_X_ini (tb_all h_X_worth_code)
theorem l_X_118 : Cond.methodLink RX 118 y_X_isPart ∈ tbl := tb_mem (List.mem_of_getElem? (i := 181) (by decide +kernel)) rfl
theorem g_X_118 : GoodIn tbl (wsS RX 118 y_X_isPart w_X_isPart) := tb_S l_X_118 h_X_isPart_kind h_X_ini (tb_all h_X_isPart_code)
theorem l_X_121 : Cond.methodLink RX 121 y_X_defaultsOfRanks ∈ tbl := tb_mem (List.mem_of_getElem? (i := 173) (by decide +kernel)) rfl
theorem g_X_121 : GoodIn tbl (wsV RX 121 RX y_X_defaultsOfRanks w_X_defaultsOfRanks) := tb_V l_X_121 h_X_defaultsOfRanks_kind h_X_defaultsOfRanks_sel h_X_ini (tb_all h_X_defaultsOfRanks_code)
theorem l_X_125 : Cond.methodLink RX 125 y_X_isLeast ∈ tbl := tb_mem (List.mem_of_getElem? (i := 252) (by decide +kernel)) rfl
theorem g_X_125 : GoodIn tbl (wsV RX 125 RX y_X_isLeast w_X_isLeast) := tb_V l_X_125 h_X_isLeast_kind h_X_isLeast_sel h_X_ini (tb_all h_X_isLeast_code)
theorem l_X_128 : Cond.methodLink RX 128 y_X_markClashing ∈ tbl := tb_mem (List.mem_of_getElem? (i := 149) (by decide +kernel)) rfl
theorem g_X_128 : GoodIn tbl (wsV RX 128 RX y_X_markClashing w_X_markClashing) := tb_V l_X_128 h_X_markClashing_kind h_X_markClashing_sel h_X_ini (tb_all h_X_markClashing_code)
theorem l_X_131 : Cond.methodLink RX 131 y_X_collectFullGrown ∈ tbl := tb_mem (List.mem_of_getElem? (i := 161) (by decide +kernel)) rfl
theorem g_X_131 : GoodIn tbl (wsV RX 131 RX y_X_collectFullGrown w_X_collectFullGrown) := tb_V l_X_131 h_X_collectFullGrown_kind h_X_collectFullGrown_sel h_X_ini (tb_all h_X_collectFullGrown_code)
theorem l_X_134 : Cond.methodLink RX 134 y_X_collectWorthiest ∈ tbl := tb_mem (List.mem_of_getElem? (i := 192) (by decide +kernel)) rfl
theorem g_X_134 : GoodIn tbl (wsV RX 134 RX y_X_collectWorthiest w_X_collectWorthiest) := tb_V l_X_134 h_X_collectWorthiest_kind h_X_collectWorthiest_sel h_X_ini (tb_all h_X_collectWorthiest_code)
theorem l_X_137 : Cond.methodLink RX 137 y_X_hasClashingPart ∈ tbl := tb_mem (List.mem_of_getElem? (i := 157) (by decide +kernel)) rfl
theorem g_X_137 : GoodIn tbl (wsV RX 137 RX y_X_hasClashingPart w_X_hasClashingPart) := tb_V l_X_137 h_X_hasClashingPart_kind h_X_hasClashingPart_sel h_X_ini (tb_all h_X_hasClashingPart_code)
theorem l_X_140 : Cond.methodLink RX 140 y_X_companyOf ∈ tbl := tb_mem (List.mem_of_getElem? (i := 165) (by decide +kernel)) rfl
theorem g_X_140 : GoodIn tbl (wsV RX 140 RX y_X_companyOf w_X_companyOf) := tb_V l_X_140 h_X_companyOf_kind h_X_companyOf_sel h_X_ini (tb_all h_X_companyOf_code)
theorem l_X_143 : Cond.methodLink RX 143 y_X_isKept ∈ tbl := tb_mem (List.mem_of_getElem? (i := 177) (by decide +kernel)) rfl
theorem g_X_143 : GoodIn tbl (wsV RX 143 RX y_X_isKept w_X_isKept) := tb_V l_X_143 h_X_isKept_kind h_X_isKept_sel h_X_ini (tb_all h_X_isKept_code)
theorem l_X_146 : Cond.methodLink RX 146 y_X_canGrow ∈ tbl := tb_mem (List.mem_of_getElem? (i := 184) (by decide +kernel)) rfl
theorem g_X_146 : GoodIn tbl (wsV RX 146 RX y_X_canGrow w_X_canGrow) := tb_V l_X_146 h_X_canGrow_kind h_X_canGrow_sel h_X_ini (tb_all h_X_canGrow_code)
theorem l_X_149 : Cond.methodLink RX 149 y_X_addRepair ∈ tbl := tb_mem (List.mem_of_getElem? (i := 188) (by decide +kernel)) rfl
theorem g_X_149 : GoodIn tbl (wsV RX 149 RX y_X_addRepair w_X_addRepair) := tb_V l_X_149 h_X_addRepair_kind h_X_addRepair_sel h_X_ini (tb_all h_X_addRepair_code)
theorem l_Y_1 : Cond.methodLink RY 1 objectInit ∈ tbl := tb_mem (List.mem_of_getElem? (i := 265) (by decide +kernel)) rfl
theorem f_Y_7 : Cond.fieldLink RY 7 "DefaultRepairModel" "hards" "[Z" ∈ tbl := tb_mem (List.mem_of_getElem? (i := 267) (by decide +kernel)) rfl
theorem f_Y_13 : Cond.fieldLink RY 13 "DefaultRepairModel" "ranks" "[I" ∈ tbl := tb_mem (List.mem_of_getElem? (i := 268) (by decide +kernel)) rfl
theorem f_Y_17 : Cond.fieldLink RY 17 "DefaultRepairModel" "weights" "[I" ∈ tbl := tb_mem (List.mem_of_getElem? (i := 269) (by decide +kernel)) rfl
theorem f_Y_20 : Cond.fieldLink RY 20 "DefaultRepairModel" "clashes" "[I" ∈ tbl := tb_mem (List.mem_of_getElem? (i := 270) (by decide +kernel)) rfl
theorem f_Y_23 : Cond.fieldLink RY 23 "DefaultRepairModel" "owners" "[I" ∈ tbl := tb_mem (List.mem_of_getElem? (i := 272) (by decide +kernel)) rfl
theorem f_Y_26 : Cond.fieldLink RY 26 "DefaultRepairModel" "supports" "[I" ∈ tbl := tb_mem (List.mem_of_getElem? (i := 273) (by decide +kernel)) rfl
theorem f_Y_29 : Cond.fieldLink RY 29 "DefaultRepairModel" "keeps" "[Z" ∈ tbl := tb_mem (List.mem_of_getElem? (i := 277) (by decide +kernel)) rfl
theorem f_Y_32 : Cond.fieldLink RY 32 "DefaultRepairModel" "repairs" "[I" ∈ tbl := tb_mem (List.mem_of_getElem? (i := 278) (by decide +kernel)) rfl
theorem f_Y_35 : Cond.fieldLink RY 35 "DefaultRepairModel" "count" "I" ∈ tbl := tb_mem (List.mem_of_getElem? (i := 266) (by decide +kernel)) rfl
theorem l_Y_39 : Cond.methodLink RY 39 y_Y_areGood ∈ tbl := tb_mem (List.mem_of_getElem? (i := 313) (by decide +kernel)) rfl
theorem g_Y_39 : GoodIn tbl (wsS RY 39 y_Y_areGood w_Y_areGood) := tb_S l_Y_39 h_Y_areGood_kind h_Y_ini (tb_all h_Y_areGood_code)
theorem f_Y_43 : Cond.fieldLink RY 43 "DefaultRepairModel" "known" "Z" ∈ tbl := tb_mem (List.mem_of_getElem? (i := 276) (by decide +kernel)) rfl
theorem l_Y_47 : Cond.methodLink RY 47 y_Y_isStatement ∈ tbl := tb_mem (List.mem_of_getElem? (i := 320) (by decide +kernel)) rfl
theorem g_Y_47 : GoodIn tbl (wsV RY 47 RY y_Y_isStatement w_Y_isStatement) := tb_V l_Y_47 h_Y_isStatement_kind h_Y_isStatement_sel h_Y_ini (tb_all h_Y_isStatement_code)
theorem f_Y_51 : Cond.fieldLink RY 51 "DefaultRepairModel" "clashCount" "I" ∈ tbl := tb_mem (List.mem_of_getElem? (i := 271) (by decide +kernel)) rfl
theorem f_Y_54 : Cond.fieldLink RY 54 "DefaultRepairModel" "supportCount" "I" ∈ tbl := tb_mem (List.mem_of_getElem? (i := 274) (by decide +kernel)) rfl
theorem f_Y_57 : Cond.fieldLink RY 57 "DefaultRepairModel" "order" "I" ∈ tbl := tb_mem (List.mem_of_getElem? (i := 275) (by decide +kernel)) rfl
theorem l_Y_60 : Cond.methodLink RY 60 y_Y_has ∈ tbl := tb_mem (List.mem_of_getElem? (i := 352) (by decide +kernel)) rfl
theorem g_Y_60 : GoodIn tbl (wsS RY 60 y_Y_has w_Y_has) := tb_S l_Y_60 h_Y_has_kind h_Y_ini (tb_all h_Y_has_code)
theorem l_Y_63 : Cond.methodLink RY 63 y_Y_compare ∈ tbl := tb_mem (List.mem_of_getElem? (i := 355) (by decide +kernel)) rfl
theorem g_Y_63 : GoodIn tbl (wsV RY 63 RY y_Y_compare w_Y_compare) := tb_V l_Y_63 h_Y_compare_kind h_Y_compare_sel h_Y_ini (tb_all h_Y_compare_code)
theorem l_Y_67 : Cond.methodLink RY 67 y_Y_isBetter ∈ tbl := tb_mem (List.mem_of_getElem? (i := 348) (by decide +kernel)) rfl
theorem g_Y_67 : GoodIn tbl (wsV RY 67 RY y_Y_isBetter w_Y_isBetter) := tb_V l_Y_67 h_Y_isBetter_kind h_Y_isBetter_sel h_Y_ini (tb_all h_Y_isBetter_code)
theorem l_Y_71 : Cond.methodLink RY 71 y_Y_isKept ∈ tbl := tb_mem (List.mem_of_getElem? (i := 367) (by decide +kernel)) rfl
theorem g_Y_71 : GoodIn tbl (wsV RY 71 RY y_Y_isKept w_Y_isKept) := tb_V l_Y_71 h_Y_isKept_kind h_Y_isKept_sel h_Y_ini (tb_all h_Y_isKept_code)
theorem f_Y_74 : Cond.fieldLink RY 74 "DefaultRepairModel" "repairCount" "I" ∈ tbl := tb_mem (List.mem_of_getElem? (i := 279) (by decide +kernel)) rfl
theorem l_Y_77 : Cond.methodLink RY 77 y_Y_work ∈ tbl := tb_mem (List.mem_of_getElem? (i := 363) (by decide +kernel)) rfl
theorem g_Y_77 : GoodIn tbl (wsV RY 77 RY y_Y_work w_Y_work) := tb_V l_Y_77 h_Y_work_kind h_Y_work_sel h_Y_ini (tb_all h_Y_work_code)
theorem l_Y_80 : Cond.methodLink RY 80 y_Y_told ∈ tbl := tb_mem (List.mem_of_getElem? (i := 383) (by decide +kernel)) rfl
theorem g_Y_80 : GoodIn tbl (wsV RY 80 RY y_Y_told w_Y_told) := tb_V l_Y_80 h_Y_told_kind h_Y_told_sel h_Y_ini (tb_all h_Y_told_code)
theorem l_Y_84 : Cond.methodLink RY 84 y_Y_isLeast ∈ tbl := tb_mem (List.mem_of_getElem? (i := 395) (by decide +kernel)) rfl
theorem g_Y_84 : GoodIn tbl (wsV RY 84 RY y_Y_isLeast w_Y_isLeast) := tb_V l_Y_84 h_Y_isLeast_kind h_Y_isLeast_sel h_Y_ini (tb_all h_Y_isLeast_code)
theorem l_L_9 : Cond.methodLink RL 9 y_X_init ∈ tbl := tb_mem (List.mem_of_getElem? (i := 35) (by decide +kernel)) rfl
theorem g_L_9 : GoodIn tbl w_X_init := tb_all h_X_init_code
theorem l_L_12 : Cond.methodLink RL 12 y_Y_init ∈ tbl := tb_mem (List.mem_of_getElem? (i := 262) (by decide +kernel)) rfl
theorem g_L_12 : GoodIn tbl w_Y_init := tb_all h_Y_init_code
theorem l_L_13 : Cond.methodLink RL 13 y_X_fact ∈ tbl := tb_mem (List.mem_of_getElem? (i := 89) (by decide +kernel)) rfl
theorem g_L_13 : GoodIn tbl (wsV RL 13 RX y_X_fact w_X_fact) := tb_V l_L_13 h_X_fact_kind h_X_fact_sel h_X_ini (tb_all h_X_fact_code)
theorem l_L_17 : Cond.methodLink RL 17 y_Y_fact ∈ tbl := tb_mem (List.mem_of_getElem? (i := 309) (by decide +kernel)) rfl
theorem g_L_17 : GoodIn tbl (wsV RL 17 RY y_Y_fact w_Y_fact) := tb_V l_L_17 h_Y_fact_kind h_Y_fact_sel h_Y_ini (tb_all h_Y_fact_code)
theorem l_L_18 : Cond.methodLink RL 18 y_X_harden ∈ tbl := tb_mem (List.mem_of_getElem? (i := 99) (by decide +kernel)) rfl
theorem g_L_18 : GoodIn tbl (wsV RL 18 RX y_X_harden w_X_harden) := tb_V l_L_18 h_X_harden_kind h_X_harden_sel h_X_ini (tb_all h_X_harden_code)
theorem l_L_22 : Cond.methodLink RL 22 y_Y_harden ∈ tbl := tb_mem (List.mem_of_getElem? (i := 316) (by decide +kernel)) rfl
theorem g_L_22 : GoodIn tbl (wsV RL 22 RY y_Y_harden w_Y_harden) := tb_V l_L_22 h_Y_harden_kind h_Y_harden_sel h_Y_ini (tb_all h_Y_harden_code)
theorem l_L_23 : Cond.methodLink RL 23 y_X_weight ∈ tbl := tb_mem (List.mem_of_getElem? (i := 111) (by decide +kernel)) rfl
theorem g_L_23 : GoodIn tbl (wsV RL 23 RX y_X_weight w_X_weight) := tb_V l_L_23 h_X_weight_kind h_X_weight_sel h_X_ini (tb_all h_X_weight_code)
theorem l_L_27 : Cond.methodLink RL 27 y_Y_weight ∈ tbl := tb_mem (List.mem_of_getElem? (i := 324) (by decide +kernel)) rfl
theorem g_L_27 : GoodIn tbl (wsV RL 27 RY y_Y_weight w_Y_weight) := tb_V l_L_27 h_Y_weight_kind h_Y_weight_sel h_Y_ini (tb_all h_Y_weight_code)
theorem l_L_28 : Cond.methodLink RL 28 y_X_clash ∈ tbl := tb_mem (List.mem_of_getElem? (i := 115) (by decide +kernel)) rfl
theorem g_L_28 : GoodIn tbl (wsV RL 28 RX y_X_clash w_X_clash) := tb_V l_L_28 h_X_clash_kind h_X_clash_sel h_X_ini (tb_all h_X_clash_code)
theorem l_L_32 : Cond.methodLink RL 32 y_Y_clash ∈ tbl := tb_mem (List.mem_of_getElem? (i := 328) (by decide +kernel)) rfl
theorem g_L_32 : GoodIn tbl (wsV RL 32 RY y_Y_clash w_Y_clash) := tb_V l_L_32 h_Y_clash_kind h_Y_clash_sel h_Y_ini (tb_all h_Y_clash_code)
theorem l_L_33 : Cond.methodLink RL 33 y_X_settle ∈ tbl := tb_mem (List.mem_of_getElem? (i := 119) (by decide +kernel)) rfl
theorem g_L_33 : GoodIn tbl (wsV RL 33 RX y_X_settle w_X_settle) := tb_V l_L_33 h_X_settle_kind h_X_settle_sel h_X_ini (tb_all h_X_settle_code)
theorem l_L_37 : Cond.methodLink RL 37 y_Y_settle ∈ tbl := tb_mem (List.mem_of_getElem? (i := 332) (by decide +kernel)) rfl
theorem g_L_37 : GoodIn tbl (wsV RL 37 RY y_Y_settle w_Y_settle) := tb_V l_L_37 h_Y_settle_kind h_Y_settle_sel h_Y_ini (tb_all h_Y_settle_code)
theorem l_L_38 : Cond.methodLink RL 38 y_X_support ∈ tbl := tb_mem (List.mem_of_getElem? (i := 123) (by decide +kernel)) rfl
theorem g_L_38 : GoodIn tbl (wsV RL 38 RX y_X_support w_X_support) := tb_V l_L_38 h_X_support_kind h_X_support_sel h_X_ini (tb_all h_X_support_code)
theorem l_L_42 : Cond.methodLink RL 42 y_Y_support ∈ tbl := tb_mem (List.mem_of_getElem? (i := 336) (by decide +kernel)) rfl
theorem g_L_42 : GoodIn tbl (wsV RL 42 RY y_Y_support w_Y_support) := tb_V l_L_42 h_Y_support_kind h_Y_support_sel h_Y_ini (tb_all h_Y_support_code)
theorem l_L_43 : Cond.methodLink RL 43 y_X_order ∈ tbl := tb_mem (List.mem_of_getElem? (i := 134) (by decide +kernel)) rfl
theorem g_L_43 : GoodIn tbl (wsV RL 43 RX y_X_order w_X_order) := tb_V l_L_43 h_X_order_kind h_X_order_sel h_X_ini (tb_all h_X_order_code)
theorem l_L_46 : Cond.methodLink RL 46 y_Y_order ∈ tbl := tb_mem (List.mem_of_getElem? (i := 340) (by decide +kernel)) rfl
theorem g_L_46 : GoodIn tbl (wsV RL 46 RY y_Y_order w_Y_order) := tb_V l_L_46 h_Y_order_kind h_Y_order_sel h_Y_ini (tb_all h_Y_order_code)
theorem l_L_47 : Cond.methodLink RL 47 y_X_find ∈ tbl := tb_mem (List.mem_of_getElem? (i := 141) (by decide +kernel)) rfl
theorem g_L_47 : GoodIn tbl (wsV RL 47 RX y_X_find w_X_find) := tb_V l_L_47 h_X_find_kind h_X_find_sel h_X_ini (tb_all h_X_find_code)
theorem l_L_50 : Cond.methodLink RL 50 y_Y_find ∈ tbl := tb_mem (List.mem_of_getElem? (i := 359) (by decide +kernel)) rfl
theorem g_L_50 : GoodIn tbl (wsV RL 50 RY y_Y_find w_Y_find) := tb_V l_L_50 h_Y_find_kind h_Y_find_sel h_Y_ini (tb_all h_Y_find_code)
theorem l_L_51 : Cond.methodLink RL 51 y_X_kept ∈ tbl := tb_mem (List.mem_of_getElem? (i := 201) (by decide +kernel)) rfl
theorem g_L_51 : GoodIn tbl (wsV RL 51 RX y_X_kept w_X_kept) := tb_V l_L_51 h_X_kept_kind h_X_kept_sel h_X_ini (tb_all h_X_kept_code)
theorem l_L_54 : Cond.methodLink RL 54 y_Y_kept ∈ tbl := tb_mem (List.mem_of_getElem? (i := 371) (by decide +kernel)) rfl
theorem g_L_54 : GoodIn tbl (wsV RL 54 RY y_Y_kept w_Y_kept) := tb_V l_L_54 h_Y_kept_kind h_Y_kept_sel h_Y_ini (tb_all h_Y_kept_code)
theorem l_L_55 : Cond.methodLink RL 55 y_X_left ∈ tbl := tb_mem (List.mem_of_getElem? (i := 209) (by decide +kernel)) rfl
theorem g_L_55 : GoodIn tbl (wsV RL 55 RX y_X_left w_X_left) := tb_V l_L_55 h_X_left_kind h_X_left_sel h_X_ini (tb_all h_X_left_code)
theorem l_L_58 : Cond.methodLink RL 58 y_Y_left ∈ tbl := tb_mem (List.mem_of_getElem? (i := 375) (by decide +kernel)) rfl
theorem g_L_58 : GoodIn tbl (wsV RL 58 RY y_Y_left w_Y_left) := tb_V l_L_58 h_Y_left_kind h_Y_left_sel h_Y_ini (tb_all h_Y_left_code)
theorem l_L_59 : Cond.methodLink RL 59 y_X_truth ∈ tbl := tb_mem (List.mem_of_getElem? (i := 213) (by decide +kernel)) rfl
theorem g_L_59 : GoodIn tbl (wsV RL 59 RX y_X_truth w_X_truth) := tb_V l_L_59 h_X_truth_kind h_X_truth_sel h_X_ini (tb_all h_X_truth_code)
theorem l_L_62 : Cond.methodLink RL 62 y_Y_truth ∈ tbl := tb_mem (List.mem_of_getElem? (i := 379) (by decide +kernel)) rfl
theorem g_L_62 : GoodIn tbl (wsV RL 62 RY y_Y_truth w_Y_truth) := tb_V l_L_62 h_Y_truth_kind h_Y_truth_sel h_Y_ini (tb_all h_Y_truth_code)
theorem l_L_63 : Cond.methodLink RL 63 y_X_surely ∈ tbl := tb_mem (List.mem_of_getElem? (i := 225) (by decide +kernel)) rfl
theorem g_L_63 : GoodIn tbl (wsV RL 63 RX y_X_surely w_X_surely) := tb_V l_L_63 h_X_surely_kind h_X_surely_sel h_X_ini (tb_all h_X_surely_code)
theorem l_L_66 : Cond.methodLink RL 66 y_Y_surely ∈ tbl := tb_mem (List.mem_of_getElem? (i := 387) (by decide +kernel)) rfl
theorem g_L_66 : GoodIn tbl (wsV RL 66 RY y_Y_surely w_Y_surely) := tb_V l_L_66 h_Y_surely_kind h_Y_surely_sel h_Y_ini (tb_all h_Y_surely_code)
theorem l_L_67 : Cond.methodLink RL 67 y_X_better ∈ tbl := tb_mem (List.mem_of_getElem? (i := 229) (by decide +kernel)) rfl
theorem g_L_67 : GoodIn tbl (wsV RL 67 RX y_X_better w_X_better) := tb_V l_L_67 h_X_better_kind h_X_better_sel h_X_ini (tb_all h_X_better_code)
theorem l_L_70 : Cond.methodLink RL 70 y_Y_better ∈ tbl := tb_mem (List.mem_of_getElem? (i := 344) (by decide +kernel)) rfl
theorem g_L_70 : GoodIn tbl (wsV RL 70 RY y_Y_better w_Y_better) := tb_V l_L_70 h_Y_better_kind h_Y_better_sel h_Y_ini (tb_all h_Y_better_code)
theorem l_L_71 : Cond.methodLink RL 71 y_X_least ∈ tbl := tb_mem (List.mem_of_getElem? (i := 244) (by decide +kernel)) rfl
theorem g_L_71 : GoodIn tbl (wsV RL 71 RX y_X_least w_X_least) := tb_V l_L_71 h_X_least_kind h_X_least_sel h_X_ini (tb_all h_X_least_code)
theorem l_L_74 : Cond.methodLink RL 74 y_Y_least ∈ tbl := tb_mem (List.mem_of_getElem? (i := 391) (by decide +kernel)) rfl
theorem g_L_74 : GoodIn tbl (wsV RL 74 RY y_Y_least w_Y_least) := tb_V l_L_74 h_Y_least_kind h_Y_least_sel h_Y_ini (tb_all h_Y_least_code)
theorem l_L_75 : Cond.methodLink RL 75 y_X_size ∈ tbl := tb_mem (List.mem_of_getElem? (i := 256) (by decide +kernel)) rfl
theorem g_L_75 : GoodIn tbl (wsV RL 75 RX y_X_size w_X_size) := tb_V l_L_75 h_X_size_kind h_X_size_sel h_X_ini (tb_all h_X_size_code)
theorem l_L_78 : Cond.methodLink RL 78 y_Y_size ∈ tbl := tb_mem (List.mem_of_getElem? (i := 399) (by decide +kernel)) rfl
theorem g_L_78 : GoodIn tbl (wsV RL 78 RY y_Y_size w_Y_size) := tb_V l_L_78 h_Y_size_kind h_Y_size_sel h_Y_ini (tb_all h_Y_size_code)
theorem h_objk : Cond.instanceMethod objectInit ∈ tbl := tb_mem (List.mem_of_getElem? (i := 39) (by decide +kernel)) rfl
theorem h_objc : Cond.code objectInit ⟨#[0xb1]⟩ 1 none ∈ tbl := tb_mem (List.mem_of_getElem? (i := 40) rfl) rfl
theorem h_arr_int : Cond.arrayClass .int ∈ tbl := tb_mem (List.mem_of_getElem? (i := 87) (by decide +kernel)) rfl
theorem h_arr_boolean : Cond.arrayClass .boolean ∈ tbl := tb_mem (List.mem_of_getElem? (i := 88) (by decide +kernel)) rfl
theorem h_L_X : Cond.classLink RL 7 RX ∈ tbl := tb_mem (List.mem_of_getElem? (i := 33) (by decide +kernel)) rfl
theorem h_X_inst : Cond.instantiable RX 15 ∈ tbl := tb_mem (List.mem_of_getElem? (i := 34) (by decide +kernel)) rfl
theorem h_L_Y : Cond.classLink RL 10 RY ∈ tbl := tb_mem (List.mem_of_getElem? (i := 260) (by decide +kernel)) rfl
theorem h_Y_inst : Cond.instantiable RY 14 ∈ tbl := tb_mem (List.mem_of_getElem? (i := 261) (by decide +kernel)) rfl
theorem k_X_153 : Cond.constantLong RX 153 (-1 : Int64) ∈ tbl := tb_mem (List.mem_of_getElem? (i := 196) (by decide +kernel)) rfl
end
section
theorem d_X_init_0 : decode b_X_init 0 = .ok (.aload_n 0, 1) := by decide +kernel
theorem d_X_init_1 : decode b_X_init 1 = .ok (.invokespecial 3, 3) := by decide +kernel
theorem d_X_init_4 : decode b_X_init 4 = .ok (.aload_n 0, 1) := by decide +kernel
theorem d_X_init_5 : decode b_X_init 5 = .ok (.iconst 0, 1) := by decide +kernel
theorem d_X_init_6 : decode b_X_init 6 = .ok (.putfield 9, 3) := by decide +kernel
theorem d_X_init_9 : decode b_X_init 9 = .ok (.aload_n 0, 1) := by decide +kernel
theorem d_X_init_10 : decode b_X_init 10 = .ok (.iconst 0, 1) := by decide +kernel
theorem d_X_init_11 : decode b_X_init 11 = .ok (.putfield 13, 3) := by decide +kernel
theorem d_X_init_14 : decode b_X_init 14 = .ok (.aload_n 0, 1) := by decide +kernel
theorem d_X_init_15 : decode b_X_init 15 = .ok (.bipush 11, 2) := by decide +kernel
theorem d_X_init_17 : decode b_X_init 17 = .ok (.newarray .int, 2) := by decide +kernel
theorem d_X_init_19 : decode b_X_init 19 = .ok (.putfield 16, 3) := by decide +kernel
theorem d_X_init_22 : decode b_X_init 22 = .ok (.aload_n 0, 1) := by decide +kernel
theorem d_X_init_23 : decode b_X_init 23 = .ok (.bipush 11, 2) := by decide +kernel
theorem d_X_init_25 : decode b_X_init 25 = .ok (.newarray .int, 2) := by decide +kernel
theorem d_X_init_27 : decode b_X_init 27 = .ok (.putfield 20, 3) := by decide +kernel
theorem d_X_init_30 : decode b_X_init 30 = .ok (.aload_n 0, 1) := by decide +kernel
theorem d_X_init_31 : decode b_X_init 31 = .ok (.bipush 40, 2) := by decide +kernel
theorem d_X_init_33 : decode b_X_init 33 = .ok (.newarray .int, 2) := by decide +kernel
theorem d_X_init_35 : decode b_X_init 35 = .ok (.putfield 23, 3) := by decide +kernel
theorem d_X_init_38 : decode b_X_init 38 = .ok (.aload_n 0, 1) := by decide +kernel
theorem d_X_init_39 : decode b_X_init 39 = .ok (.iconst 0, 1) := by decide +kernel
theorem d_X_init_40 : decode b_X_init 40 = .ok (.putfield 26, 3) := by decide +kernel
theorem d_X_init_43 : decode b_X_init 43 = .ok (.aload_n 0, 1) := by decide +kernel
theorem d_X_init_44 : decode b_X_init 44 = .ok (.bipush 20, 2) := by decide +kernel
theorem d_X_init_46 : decode b_X_init 46 = .ok (.newarray .int, 2) := by decide +kernel
theorem d_X_init_48 : decode b_X_init 48 = .ok (.putfield 29, 3) := by decide +kernel
theorem d_X_init_51 : decode b_X_init 51 = .ok (.aload_n 0, 1) := by decide +kernel
theorem d_X_init_52 : decode b_X_init 52 = .ok (.bipush 20, 2) := by decide +kernel
theorem d_X_init_54 : decode b_X_init 54 = .ok (.newarray .int, 2) := by decide +kernel
theorem d_X_init_56 : decode b_X_init 56 = .ok (.putfield 32, 3) := by decide +kernel
theorem d_X_init_59 : decode b_X_init 59 = .ok (.aload_n 0, 1) := by decide +kernel
theorem d_X_init_60 : decode b_X_init 60 = .ok (.iconst 0, 1) := by decide +kernel
theorem d_X_init_61 : decode b_X_init 61 = .ok (.putfield 35, 3) := by decide +kernel
theorem d_X_init_64 : decode b_X_init 64 = .ok (.aload_n 0, 1) := by decide +kernel
theorem d_X_init_65 : decode b_X_init 65 = .ok (.iconst 0, 1) := by decide +kernel
theorem d_X_init_66 : decode b_X_init 66 = .ok (.putfield 38, 3) := by decide +kernel
theorem d_X_init_69 : decode b_X_init 69 = .ok (.aload_n 0, 1) := by decide +kernel
theorem d_X_init_70 : decode b_X_init 70 = .ok (.iconst 0, 1) := by decide +kernel
theorem d_X_init_71 : decode b_X_init 71 = .ok (.putfield 41, 3) := by decide +kernel
theorem d_X_init_74 : decode b_X_init 74 = .ok (.aload_n 0, 1) := by decide +kernel
theorem d_X_init_75 : decode b_X_init 75 = .ok (.sipush 2048, 3) := by decide +kernel
theorem d_X_init_78 : decode b_X_init 78 = .ok (.newarray .boolean, 2) := by decide +kernel
theorem d_X_init_80 : decode b_X_init 80 = .ok (.putfield 45, 3) := by decide +kernel
theorem d_X_init_83 : decode b_X_init 83 = .ok (.aload_n 0, 1) := by decide +kernel
theorem d_X_init_84 : decode b_X_init 84 = .ok (.bipush 11, 2) := by decide +kernel
theorem d_X_init_86 : decode b_X_init 86 = .ok (.newarray .int, 2) := by decide +kernel
theorem d_X_init_88 : decode b_X_init 88 = .ok (.putfield 49, 3) := by decide +kernel
theorem d_X_init_91 : decode b_X_init 91 = .ok (.aload_n 0, 1) := by decide +kernel
theorem d_X_init_92 : decode b_X_init 92 = .ok (.sipush 462, 3) := by decide +kernel
theorem d_X_init_95 : decode b_X_init 95 = .ok (.newarray .int, 2) := by decide +kernel
theorem d_X_init_97 : decode b_X_init 97 = .ok (.putfield 52, 3) := by decide +kernel
theorem d_X_init_100 : decode b_X_init 100 = .ok (.aload_n 0, 1) := by decide +kernel
theorem d_X_init_101 : decode b_X_init 101 = .ok (.iconst 0, 1) := by decide +kernel
theorem d_X_init_102 : decode b_X_init 102 = .ok (.putfield 55, 3) := by decide +kernel
theorem d_X_init_105 : decode b_X_init 105 = .ok (.return_, 1) := by decide +kernel
theorem d_X_fact_0 : decode b_X_fact 0 = .ok (.iload_n 2, 1) := by decide +kernel
theorem d_X_fact_1 : decode b_X_fact 1 = .ok (.invokestatic 58, 3) := by decide +kernel
theorem d_X_fact_4 : decode b_X_fact 4 = .ok (.ifCond .eq 10, 3) := by decide +kernel
theorem d_X_fact_7 : decode b_X_fact 7 = .ok (.iload_n 3, 1) := by decide +kernel
theorem d_X_fact_8 : decode b_X_fact 8 = .ok (.invokestatic 62, 3) := by decide +kernel
theorem d_X_fact_11 : decode b_X_fact 11 = .ok (.ifCond .ne 5, 3) := by decide +kernel
theorem d_X_fact_14 : decode b_X_fact 14 = .ok (.iconst (-1), 1) := by decide +kernel
theorem d_X_fact_15 : decode b_X_fact 15 = .ok (.ireturn, 1) := by decide +kernel
theorem d_X_fact_16 : decode b_X_fact 16 = .ok (.aload_n 0, 1) := by decide +kernel
theorem d_X_fact_17 : decode b_X_fact 17 = .ok (.getfield 9, 3) := by decide +kernel
theorem d_X_fact_20 : decode b_X_fact 20 = .ok (.bipush 11, 2) := by decide +kernel
theorem d_X_fact_22 : decode b_X_fact 22 = .ok (.if_icmp .lt 6, 3) := by decide +kernel
theorem d_X_fact_25 : decode b_X_fact 25 = .ok (.bipush (-3), 2) := by decide +kernel
theorem d_X_fact_27 : decode b_X_fact 27 = .ok (.ireturn, 1) := by decide +kernel
theorem d_X_fact_28 : decode b_X_fact 28 = .ok (.aload_n 0, 1) := by decide +kernel
theorem d_X_fact_29 : decode b_X_fact 29 = .ok (.getfield 9, 3) := by decide +kernel
theorem d_X_fact_32 : decode b_X_fact 32 = .ok (.istore 4, 2) := by decide +kernel
theorem d_X_fact_34 : decode b_X_fact 34 = .ok (.aload_n 0, 1) := by decide +kernel
theorem d_X_fact_35 : decode b_X_fact 35 = .ok (.getfield 16, 3) := by decide +kernel
theorem d_X_fact_38 : decode b_X_fact 38 = .ok (.iload 4, 2) := by decide +kernel
theorem d_X_fact_40 : decode b_X_fact 40 = .ok (.iload_n 2, 1) := by decide +kernel
theorem d_X_fact_41 : decode b_X_fact 41 = .ok (.iastore, 1) := by decide +kernel
theorem d_X_fact_42 : decode b_X_fact 42 = .ok (.aload_n 0, 1) := by decide +kernel
theorem d_X_fact_43 : decode b_X_fact 43 = .ok (.getfield 20, 3) := by decide +kernel
theorem d_X_fact_46 : decode b_X_fact 46 = .ok (.iload 4, 2) := by decide +kernel
theorem d_X_fact_48 : decode b_X_fact 48 = .ok (.iload_n 3, 1) := by decide +kernel
theorem d_X_fact_49 : decode b_X_fact 49 = .ok (.iastore, 1) := by decide +kernel
theorem d_X_fact_50 : decode b_X_fact 50 = .ok (.iload_n 1, 1) := by decide +kernel
theorem d_X_fact_51 : decode b_X_fact 51 = .ok (.ifCond .eq 16, 3) := by decide +kernel
theorem d_X_fact_54 : decode b_X_fact 54 = .ok (.aload_n 0, 1) := by decide +kernel
theorem d_X_fact_55 : decode b_X_fact 55 = .ok (.dup, 1) := by decide +kernel
theorem d_X_fact_56 : decode b_X_fact 56 = .ok (.getfield 13, 3) := by decide +kernel
theorem d_X_fact_59 : decode b_X_fact 59 = .ok (.iconst 1, 1) := by decide +kernel
theorem d_X_fact_60 : decode b_X_fact 60 = .ok (.iload 4, 2) := by decide +kernel
theorem d_X_fact_62 : decode b_X_fact 62 = .ok (.ishl, 1) := by decide +kernel
theorem d_X_fact_63 : decode b_X_fact 63 = .ok (.ior, 1) := by decide +kernel
theorem d_X_fact_64 : decode b_X_fact 64 = .ok (.putfield 13, 3) := by decide +kernel
theorem d_X_fact_67 : decode b_X_fact 67 = .ok (.aload_n 0, 1) := by decide +kernel
theorem d_X_fact_68 : decode b_X_fact 68 = .ok (.iload 4, 2) := by decide +kernel
theorem d_X_fact_70 : decode b_X_fact 70 = .ok (.iconst 1, 1) := by decide +kernel
theorem d_X_fact_71 : decode b_X_fact 71 = .ok (.iadd, 1) := by decide +kernel
theorem d_X_fact_72 : decode b_X_fact 72 = .ok (.putfield 9, 3) := by decide +kernel
theorem d_X_fact_75 : decode b_X_fact 75 = .ok (.aload_n 0, 1) := by decide +kernel
theorem d_X_fact_76 : decode b_X_fact 76 = .ok (.iconst 0, 1) := by decide +kernel
theorem d_X_fact_77 : decode b_X_fact 77 = .ok (.putfield 41, 3) := by decide +kernel
theorem d_X_fact_80 : decode b_X_fact 80 = .ok (.iload 4, 2) := by decide +kernel
theorem d_X_fact_82 : decode b_X_fact 82 = .ok (.ireturn, 1) := by decide +kernel
theorem d_X_harden_0 : decode b_X_harden 0 = .ok (.aload_n 0, 1) := by decide +kernel
theorem d_X_harden_1 : decode b_X_harden 1 = .ok (.iload_n 1, 1) := by decide +kernel
theorem d_X_harden_2 : decode b_X_harden 2 = .ok (.invokevirtual 65, 3) := by decide +kernel
theorem d_X_harden_5 : decode b_X_harden 5 = .ok (.ifCond .ne 5, 3) := by decide +kernel
theorem d_X_harden_8 : decode b_X_harden 8 = .ok (.iconst (-1), 1) := by decide +kernel
theorem d_X_harden_9 : decode b_X_harden 9 = .ok (.ireturn, 1) := by decide +kernel
theorem d_X_harden_10 : decode b_X_harden 10 = .ok (.aload_n 0, 1) := by decide +kernel
theorem d_X_harden_11 : decode b_X_harden 11 = .ok (.iload_n 1, 1) := by decide +kernel
theorem d_X_harden_12 : decode b_X_harden 12 = .ok (.invokevirtual 68, 3) := by decide +kernel
theorem d_X_harden_15 : decode b_X_harden 15 = .ok (.iload_n 2, 1) := by decide +kernel
theorem d_X_harden_16 : decode b_X_harden 16 = .ok (.if_icmp .ne 5, 3) := by decide +kernel
theorem d_X_harden_19 : decode b_X_harden 19 = .ok (.iconst 0, 1) := by decide +kernel
theorem d_X_harden_20 : decode b_X_harden 20 = .ok (.ireturn, 1) := by decide +kernel
theorem d_X_harden_21 : decode b_X_harden 21 = .ok (.aload_n 0, 1) := by decide +kernel
theorem d_X_harden_22 : decode b_X_harden 22 = .ok (.dup, 1) := by decide +kernel
theorem d_X_harden_23 : decode b_X_harden 23 = .ok (.getfield 13, 3) := by decide +kernel
theorem d_X_harden_26 : decode b_X_harden 26 = .ok (.iconst 1, 1) := by decide +kernel
theorem d_X_harden_27 : decode b_X_harden 27 = .ok (.iload_n 1, 1) := by decide +kernel
theorem d_X_harden_28 : decode b_X_harden 28 = .ok (.ishl, 1) := by decide +kernel
theorem d_X_harden_29 : decode b_X_harden 29 = .ok (.ixor, 1) := by decide +kernel
theorem d_X_harden_30 : decode b_X_harden 30 = .ok (.putfield 13, 3) := by decide +kernel
theorem d_X_harden_33 : decode b_X_harden 33 = .ok (.aload_n 0, 1) := by decide +kernel
theorem d_X_harden_34 : decode b_X_harden 34 = .ok (.iconst 0, 1) := by decide +kernel
theorem d_X_harden_35 : decode b_X_harden 35 = .ok (.putfield 41, 3) := by decide +kernel
theorem d_X_harden_38 : decode b_X_harden 38 = .ok (.iconst 1, 1) := by decide +kernel
theorem d_X_harden_39 : decode b_X_harden 39 = .ok (.ireturn, 1) := by decide +kernel
theorem d_X_weight_0 : decode b_X_weight 0 = .ok (.aload_n 0, 1) := by decide +kernel
theorem d_X_weight_1 : decode b_X_weight 1 = .ok (.iload_n 1, 1) := by decide +kernel
theorem d_X_weight_2 : decode b_X_weight 2 = .ok (.invokevirtual 65, 3) := by decide +kernel
theorem d_X_weight_5 : decode b_X_weight 5 = .ok (.ifCond .eq 17, 3) := by decide +kernel
theorem d_X_weight_8 : decode b_X_weight 8 = .ok (.iload_n 2, 1) := by decide +kernel
theorem d_X_weight_9 : decode b_X_weight 9 = .ok (.invokestatic 58, 3) := by decide +kernel
theorem d_X_weight_12 : decode b_X_weight 12 = .ok (.ifCond .eq 10, 3) := by decide +kernel
theorem d_X_weight_15 : decode b_X_weight 15 = .ok (.iload_n 3, 1) := by decide +kernel
theorem d_X_weight_16 : decode b_X_weight 16 = .ok (.invokestatic 62, 3) := by decide +kernel
theorem d_X_weight_19 : decode b_X_weight 19 = .ok (.ifCond .ne 5, 3) := by decide +kernel
theorem d_X_weight_22 : decode b_X_weight 22 = .ok (.iconst (-1), 1) := by decide +kernel
theorem d_X_weight_23 : decode b_X_weight 23 = .ok (.ireturn, 1) := by decide +kernel
theorem d_X_weight_24 : decode b_X_weight 24 = .ok (.aload_n 0, 1) := by decide +kernel
theorem d_X_weight_25 : decode b_X_weight 25 = .ok (.getfield 16, 3) := by decide +kernel
theorem d_X_weight_28 : decode b_X_weight 28 = .ok (.iload_n 1, 1) := by decide +kernel
theorem d_X_weight_29 : decode b_X_weight 29 = .ok (.iload_n 2, 1) := by decide +kernel
theorem d_X_weight_30 : decode b_X_weight 30 = .ok (.iastore, 1) := by decide +kernel
theorem d_X_weight_31 : decode b_X_weight 31 = .ok (.aload_n 0, 1) := by decide +kernel
theorem d_X_weight_32 : decode b_X_weight 32 = .ok (.getfield 20, 3) := by decide +kernel
theorem d_X_weight_35 : decode b_X_weight 35 = .ok (.iload_n 1, 1) := by decide +kernel
theorem d_X_weight_36 : decode b_X_weight 36 = .ok (.iload_n 3, 1) := by decide +kernel
theorem d_X_weight_37 : decode b_X_weight 37 = .ok (.iastore, 1) := by decide +kernel
theorem d_X_weight_38 : decode b_X_weight 38 = .ok (.aload_n 0, 1) := by decide +kernel
theorem d_X_weight_39 : decode b_X_weight 39 = .ok (.iconst 0, 1) := by decide +kernel
theorem d_X_weight_40 : decode b_X_weight 40 = .ok (.putfield 41, 3) := by decide +kernel
theorem d_X_weight_43 : decode b_X_weight 43 = .ok (.iconst 1, 1) := by decide +kernel
theorem d_X_weight_44 : decode b_X_weight 44 = .ok (.ireturn, 1) := by decide +kernel
theorem d_X_clash_0 : decode b_X_clash 0 = .ok (.aload_n 0, 1) := by decide +kernel
theorem d_X_clash_1 : decode b_X_clash 1 = .ok (.getfield 26, 3) := by decide +kernel
theorem d_X_clash_4 : decode b_X_clash 4 = .ok (.bipush 40, 2) := by decide +kernel
theorem d_X_clash_6 : decode b_X_clash 6 = .ok (.if_icmp .lt 6, 3) := by decide +kernel
theorem d_X_clash_9 : decode b_X_clash 9 = .ok (.bipush (-3), 2) := by decide +kernel
theorem d_X_clash_11 : decode b_X_clash 11 = .ok (.ireturn, 1) := by decide +kernel
theorem d_X_clash_12 : decode b_X_clash 12 = .ok (.aload_n 0, 1) := by decide +kernel
theorem d_X_clash_13 : decode b_X_clash 13 = .ok (.getfield 23, 3) := by decide +kernel
theorem d_X_clash_16 : decode b_X_clash 16 = .ok (.aload_n 0, 1) := by decide +kernel
theorem d_X_clash_17 : decode b_X_clash 17 = .ok (.getfield 26, 3) := by decide +kernel
theorem d_X_clash_20 : decode b_X_clash 20 = .ok (.iload_n 1, 1) := by decide +kernel
theorem d_X_clash_21 : decode b_X_clash 21 = .ok (.sipush 2047, 3) := by decide +kernel
theorem d_X_clash_24 : decode b_X_clash 24 = .ok (.iand, 1) := by decide +kernel
theorem d_X_clash_25 : decode b_X_clash 25 = .ok (.iastore, 1) := by decide +kernel
theorem d_X_clash_26 : decode b_X_clash 26 = .ok (.aload_n 0, 1) := by decide +kernel
theorem d_X_clash_27 : decode b_X_clash 27 = .ok (.dup, 1) := by decide +kernel
theorem d_X_clash_28 : decode b_X_clash 28 = .ok (.getfield 26, 3) := by decide +kernel
theorem d_X_clash_31 : decode b_X_clash 31 = .ok (.iconst 1, 1) := by decide +kernel
theorem d_X_clash_32 : decode b_X_clash 32 = .ok (.iadd, 1) := by decide +kernel
theorem d_X_clash_33 : decode b_X_clash 33 = .ok (.putfield 26, 3) := by decide +kernel
theorem d_X_clash_36 : decode b_X_clash 36 = .ok (.aload_n 0, 1) := by decide +kernel
theorem d_X_clash_37 : decode b_X_clash 37 = .ok (.iconst 0, 1) := by decide +kernel
theorem d_X_clash_38 : decode b_X_clash 38 = .ok (.putfield 41, 3) := by decide +kernel
theorem d_X_clash_41 : decode b_X_clash 41 = .ok (.aload_n 0, 1) := by decide +kernel
theorem d_X_clash_42 : decode b_X_clash 42 = .ok (.getfield 26, 3) := by decide +kernel
theorem d_X_clash_45 : decode b_X_clash 45 = .ok (.ireturn, 1) := by decide +kernel
theorem d_X_settle_0 : decode b_X_settle 0 = .ok (.aload_n 0, 1) := by decide +kernel
theorem d_X_settle_1 : decode b_X_settle 1 = .ok (.getfield 26, 3) := by decide +kernel
theorem d_X_settle_4 : decode b_X_settle 4 = .ok (.ifCond .gt 6, 3) := by decide +kernel
theorem d_X_settle_7 : decode b_X_settle 7 = .ok (.bipush (-2), 2) := by decide +kernel
theorem d_X_settle_9 : decode b_X_settle 9 = .ok (.ireturn, 1) := by decide +kernel
theorem d_X_settle_10 : decode b_X_settle 10 = .ok (.aload_n 0, 1) := by decide +kernel
theorem d_X_settle_11 : decode b_X_settle 11 = .ok (.dup, 1) := by decide +kernel
theorem d_X_settle_12 : decode b_X_settle 12 = .ok (.getfield 26, 3) := by decide +kernel
theorem d_X_settle_15 : decode b_X_settle 15 = .ok (.iconst 1, 1) := by decide +kernel
theorem d_X_settle_16 : decode b_X_settle 16 = .ok (.isub, 1) := by decide +kernel
theorem d_X_settle_17 : decode b_X_settle 17 = .ok (.putfield 26, 3) := by decide +kernel
theorem d_X_settle_20 : decode b_X_settle 20 = .ok (.aload_n 0, 1) := by decide +kernel
theorem d_X_settle_21 : decode b_X_settle 21 = .ok (.iconst 0, 1) := by decide +kernel
theorem d_X_settle_22 : decode b_X_settle 22 = .ok (.putfield 41, 3) := by decide +kernel
theorem d_X_settle_25 : decode b_X_settle 25 = .ok (.aload_n 0, 1) := by decide +kernel
theorem d_X_settle_26 : decode b_X_settle 26 = .ok (.getfield 26, 3) := by decide +kernel
theorem d_X_settle_29 : decode b_X_settle 29 = .ok (.ireturn, 1) := by decide +kernel
theorem d_X_support_0 : decode b_X_support 0 = .ok (.iload_n 1, 1) := by decide +kernel
theorem d_X_support_1 : decode b_X_support 1 = .ok (.invokestatic 71, 3) := by decide +kernel
theorem d_X_support_4 : decode b_X_support 4 = .ok (.ifCond .ne 5, 3) := by decide +kernel
theorem d_X_support_7 : decode b_X_support 7 = .ok (.iconst (-1), 1) := by decide +kernel
theorem d_X_support_8 : decode b_X_support 8 = .ok (.ireturn, 1) := by decide +kernel
theorem d_X_support_9 : decode b_X_support 9 = .ok (.aload_n 0, 1) := by decide +kernel
theorem d_X_support_10 : decode b_X_support 10 = .ok (.getfield 35, 3) := by decide +kernel
theorem d_X_support_13 : decode b_X_support 13 = .ok (.bipush 20, 2) := by decide +kernel
theorem d_X_support_15 : decode b_X_support 15 = .ok (.if_icmp .lt 6, 3) := by decide +kernel
theorem d_X_support_18 : decode b_X_support 18 = .ok (.bipush (-3), 2) := by decide +kernel
theorem d_X_support_20 : decode b_X_support 20 = .ok (.ireturn, 1) := by decide +kernel
theorem d_X_support_21 : decode b_X_support 21 = .ok (.aload_n 0, 1) := by decide +kernel
theorem d_X_support_22 : decode b_X_support 22 = .ok (.getfield 29, 3) := by decide +kernel
theorem d_X_support_25 : decode b_X_support 25 = .ok (.aload_n 0, 1) := by decide +kernel
theorem d_X_support_26 : decode b_X_support 26 = .ok (.getfield 35, 3) := by decide +kernel
theorem d_X_support_29 : decode b_X_support 29 = .ok (.iload_n 2, 1) := by decide +kernel
theorem d_X_support_30 : decode b_X_support 30 = .ok (.sipush 2047, 3) := by decide +kernel
theorem d_X_support_33 : decode b_X_support 33 = .ok (.iand, 1) := by decide +kernel
theorem d_X_support_34 : decode b_X_support 34 = .ok (.iastore, 1) := by decide +kernel
theorem d_X_support_35 : decode b_X_support 35 = .ok (.aload_n 0, 1) := by decide +kernel
theorem d_X_support_36 : decode b_X_support 36 = .ok (.getfield 32, 3) := by decide +kernel
theorem d_X_support_39 : decode b_X_support 39 = .ok (.aload_n 0, 1) := by decide +kernel
theorem d_X_support_40 : decode b_X_support 40 = .ok (.getfield 35, 3) := by decide +kernel
theorem d_X_support_43 : decode b_X_support 43 = .ok (.iload_n 1, 1) := by decide +kernel
theorem d_X_support_44 : decode b_X_support 44 = .ok (.iastore, 1) := by decide +kernel
theorem d_X_support_45 : decode b_X_support 45 = .ok (.aload_n 0, 1) := by decide +kernel
theorem d_X_support_46 : decode b_X_support 46 = .ok (.dup, 1) := by decide +kernel
theorem d_X_support_47 : decode b_X_support 47 = .ok (.getfield 35, 3) := by decide +kernel
theorem d_X_support_50 : decode b_X_support 50 = .ok (.iconst 1, 1) := by decide +kernel
theorem d_X_support_51 : decode b_X_support 51 = .ok (.iadd, 1) := by decide +kernel
theorem d_X_support_52 : decode b_X_support 52 = .ok (.putfield 35, 3) := by decide +kernel
theorem d_X_support_55 : decode b_X_support 55 = .ok (.aload_n 0, 1) := by decide +kernel
theorem d_X_support_56 : decode b_X_support 56 = .ok (.iload_n 1, 1) := by decide +kernel
theorem d_X_support_57 : decode b_X_support 57 = .ok (.invokevirtual 74, 3) := by decide +kernel
theorem d_X_support_60 : decode b_X_support 60 = .ok (.ireturn, 1) := by decide +kernel
theorem d_X_order_0 : decode b_X_order 0 = .ok (.iload_n 1, 1) := by decide +kernel
theorem d_X_order_1 : decode b_X_order 1 = .ok (.invokestatic 78, 3) := by decide +kernel
theorem d_X_order_4 : decode b_X_order 4 = .ok (.ifCond .ne 5, 3) := by decide +kernel
theorem d_X_order_7 : decode b_X_order 7 = .ok (.iconst (-1), 1) := by decide +kernel
theorem d_X_order_8 : decode b_X_order 8 = .ok (.ireturn, 1) := by decide +kernel
theorem d_X_order_9 : decode b_X_order 9 = .ok (.aload_n 0, 1) := by decide +kernel
theorem d_X_order_10 : decode b_X_order 10 = .ok (.iload_n 1, 1) := by decide +kernel
theorem d_X_order_11 : decode b_X_order 11 = .ok (.putfield 38, 3) := by decide +kernel
theorem d_X_order_14 : decode b_X_order 14 = .ok (.aload_n 0, 1) := by decide +kernel
theorem d_X_order_15 : decode b_X_order 15 = .ok (.iconst 0, 1) := by decide +kernel
theorem d_X_order_16 : decode b_X_order 16 = .ok (.putfield 41, 3) := by decide +kernel
theorem d_X_order_19 : decode b_X_order 19 = .ok (.iconst 1, 1) := by decide +kernel
theorem d_X_order_20 : decode b_X_order 20 = .ok (.ireturn, 1) := by decide +kernel
theorem d_X_find_0 : decode b_X_find 0 = .ok (.aload_n 0, 1) := by decide +kernel
theorem d_X_find_1 : decode b_X_find 1 = .ok (.invokevirtual 81, 3) := by decide +kernel
theorem d_X_find_4 : decode b_X_find 4 = .ok (.aload_n 0, 1) := by decide +kernel
theorem d_X_find_5 : decode b_X_find 5 = .ok (.getfield 55, 3) := by decide +kernel
theorem d_X_find_8 : decode b_X_find 8 = .ok (.ireturn, 1) := by decide +kernel
theorem d_X_kept_0 : decode b_X_kept 0 = .ok (.aload_n 0, 1) := by decide +kernel
theorem d_X_kept_1 : decode b_X_kept 1 = .ok (.invokevirtual 81, 3) := by decide +kernel
theorem d_X_kept_4 : decode b_X_kept 4 = .ok (.aload_n 0, 1) := by decide +kernel
theorem d_X_kept_5 : decode b_X_kept 5 = .ok (.iload_n 1, 1) := by decide +kernel
theorem d_X_kept_6 : decode b_X_kept 6 = .ok (.invokevirtual 84, 3) := by decide +kernel
theorem d_X_kept_9 : decode b_X_kept 9 = .ok (.ifCond .eq 12, 3) := by decide +kernel
theorem d_X_kept_12 : decode b_X_kept 12 = .ok (.aload_n 0, 1) := by decide +kernel
theorem d_X_kept_13 : decode b_X_kept 13 = .ok (.getfield 52, 3) := by decide +kernel
theorem d_X_kept_16 : decode b_X_kept 16 = .ok (.iload_n 1, 1) := by decide +kernel
theorem d_X_kept_17 : decode b_X_kept 17 = .ok (.iaload, 1) := by decide +kernel
theorem d_X_kept_18 : decode b_X_kept 18 = .ok (.goto 5, 3) := by decide +kernel
theorem d_X_kept_21 : decode b_X_kept 21 = .ok (.bipush (-2), 2) := by decide +kernel
theorem d_X_kept_23 : decode b_X_kept 23 = .ok (.ireturn, 1) := by decide +kernel
theorem d_X_left_0 : decode b_X_left 0 = .ok (.aload_n 0, 1) := by decide +kernel
theorem d_X_left_1 : decode b_X_left 1 = .ok (.invokevirtual 81, 3) := by decide +kernel
theorem d_X_left_4 : decode b_X_left 4 = .ok (.aload_n 0, 1) := by decide +kernel
theorem d_X_left_5 : decode b_X_left 5 = .ok (.iload_n 1, 1) := by decide +kernel
theorem d_X_left_6 : decode b_X_left 6 = .ok (.invokevirtual 84, 3) := by decide +kernel
theorem d_X_left_9 : decode b_X_left 9 = .ok (.ifCond .eq 7, 3) := by decide +kernel
theorem d_X_left_12 : decode b_X_left 12 = .ok (.iload_n 2, 1) := by decide +kernel
theorem d_X_left_13 : decode b_X_left 13 = .ok (.ifCond .ge 6, 3) := by decide +kernel
theorem d_X_left_16 : decode b_X_left 16 = .ok (.bipush (-2), 2) := by decide +kernel
theorem d_X_left_18 : decode b_X_left 18 = .ok (.ireturn, 1) := by decide +kernel
theorem d_X_left_19 : decode b_X_left 19 = .ok (.aload_n 0, 1) := by decide +kernel
theorem d_X_left_20 : decode b_X_left 20 = .ok (.getfield 52, 3) := by decide +kernel
theorem d_X_left_23 : decode b_X_left 23 = .ok (.iload_n 1, 1) := by decide +kernel
theorem d_X_left_24 : decode b_X_left 24 = .ok (.iaload, 1) := by decide +kernel
theorem d_X_left_25 : decode b_X_left 25 = .ok (.istore_n 3, 1) := by decide +kernel
theorem d_X_left_26 : decode b_X_left 26 = .ok (.iconst 0, 1) := by decide +kernel
theorem d_X_left_27 : decode b_X_left 27 = .ok (.istore 4, 2) := by decide +kernel
theorem d_X_left_29 : decode b_X_left 29 = .ok (.iconst 0, 1) := by decide +kernel
theorem d_X_left_30 : decode b_X_left 30 = .ok (.istore 5, 2) := by decide +kernel
theorem d_X_left_32 : decode b_X_left 32 = .ok (.iload 5, 2) := by decide +kernel
theorem d_X_left_34 : decode b_X_left 34 = .ok (.aload_n 0, 1) := by decide +kernel
theorem d_X_left_35 : decode b_X_left 35 = .ok (.getfield 9, 3) := by decide +kernel
theorem d_X_left_38 : decode b_X_left 38 = .ok (.if_icmp .ge 30, 3) := by decide +kernel
theorem d_X_left_41 : decode b_X_left 41 = .ok (.iload_n 3, 1) := by decide +kernel
theorem d_X_left_42 : decode b_X_left 42 = .ok (.iconst 1, 1) := by decide +kernel
theorem d_X_left_43 : decode b_X_left 43 = .ok (.iload 5, 2) := by decide +kernel
theorem d_X_left_45 : decode b_X_left 45 = .ok (.ishl, 1) := by decide +kernel
theorem d_X_left_46 : decode b_X_left 46 = .ok (.iand, 1) := by decide +kernel
theorem d_X_left_47 : decode b_X_left 47 = .ok (.ifCond .ne 15, 3) := by decide +kernel
theorem d_X_left_50 : decode b_X_left 50 = .ok (.iload 4, 2) := by decide +kernel
theorem d_X_left_52 : decode b_X_left 52 = .ok (.iload_n 2, 1) := by decide +kernel
theorem d_X_left_53 : decode b_X_left 53 = .ok (.if_icmp .ne 6, 3) := by decide +kernel
theorem d_X_left_56 : decode b_X_left 56 = .ok (.iload 5, 2) := by decide +kernel
theorem d_X_left_58 : decode b_X_left 58 = .ok (.ireturn, 1) := by decide +kernel
theorem d_X_left_59 : decode b_X_left 59 = .ok (.iinc 4 1, 3) := by decide +kernel
theorem d_X_left_62 : decode b_X_left 62 = .ok (.iinc 5 1, 3) := by decide +kernel
theorem d_X_left_65 : decode b_X_left 65 = .ok (.goto (-33), 3) := by decide +kernel
theorem d_X_left_68 : decode b_X_left 68 = .ok (.bipush (-2), 2) := by decide +kernel
theorem d_X_left_70 : decode b_X_left 70 = .ok (.ireturn, 1) := by decide +kernel
theorem d_X_truth_0 : decode b_X_truth 0 = .ok (.iload_n 1, 1) := by decide +kernel
theorem d_X_truth_1 : decode b_X_truth 1 = .ok (.invokestatic 71, 3) := by decide +kernel
theorem d_X_truth_4 : decode b_X_truth 4 = .ok (.ifCond .ne 5, 3) := by decide +kernel
theorem d_X_truth_7 : decode b_X_truth 7 = .ok (.iconst (-1), 1) := by decide +kernel
theorem d_X_truth_8 : decode b_X_truth 8 = .ok (.ireturn, 1) := by decide +kernel
theorem d_X_truth_9 : decode b_X_truth 9 = .ok (.aload_n 0, 1) := by decide +kernel
theorem d_X_truth_10 : decode b_X_truth 10 = .ok (.invokevirtual 81, 3) := by decide +kernel
theorem d_X_truth_13 : decode b_X_truth 13 = .ok (.iconst 0, 1) := by decide +kernel
theorem d_X_truth_14 : decode b_X_truth 14 = .ok (.istore_n 2, 1) := by decide +kernel
theorem d_X_truth_15 : decode b_X_truth 15 = .ok (.iconst 0, 1) := by decide +kernel
theorem d_X_truth_16 : decode b_X_truth 16 = .ok (.istore_n 3, 1) := by decide +kernel
theorem d_X_truth_17 : decode b_X_truth 17 = .ok (.iload_n 3, 1) := by decide +kernel
theorem d_X_truth_18 : decode b_X_truth 18 = .ok (.aload_n 0, 1) := by decide +kernel
theorem d_X_truth_19 : decode b_X_truth 19 = .ok (.getfield 55, 3) := by decide +kernel
theorem d_X_truth_22 : decode b_X_truth 22 = .ok (.if_icmp .ge 26, 3) := by decide +kernel
theorem d_X_truth_25 : decode b_X_truth 25 = .ok (.aload_n 0, 1) := by decide +kernel
theorem d_X_truth_26 : decode b_X_truth 26 = .ok (.iload_n 1, 1) := by decide +kernel
theorem d_X_truth_27 : decode b_X_truth 27 = .ok (.aload_n 0, 1) := by decide +kernel
theorem d_X_truth_28 : decode b_X_truth 28 = .ok (.getfield 52, 3) := by decide +kernel
theorem d_X_truth_31 : decode b_X_truth 31 = .ok (.iload_n 3, 1) := by decide +kernel
theorem d_X_truth_32 : decode b_X_truth 32 = .ok (.iaload, 1) := by decide +kernel
theorem d_X_truth_33 : decode b_X_truth 33 = .ok (.invokevirtual 87, 3) := by decide +kernel
theorem d_X_truth_36 : decode b_X_truth 36 = .ok (.ifCond .eq 6, 3) := by decide +kernel
theorem d_X_truth_39 : decode b_X_truth 39 = .ok (.iinc 2 1, 3) := by decide +kernel
theorem d_X_truth_42 : decode b_X_truth 42 = .ok (.iinc 3 1, 3) := by decide +kernel
theorem d_X_truth_45 : decode b_X_truth 45 = .ok (.goto (-28), 3) := by decide +kernel
theorem d_X_truth_48 : decode b_X_truth 48 = .ok (.aload_n 0, 1) := by decide +kernel
theorem d_X_truth_49 : decode b_X_truth 49 = .ok (.iload_n 2, 1) := by decide +kernel
theorem d_X_truth_50 : decode b_X_truth 50 = .ok (.invokevirtual 91, 3) := by decide +kernel
theorem d_X_truth_53 : decode b_X_truth 53 = .ok (.ireturn, 1) := by decide +kernel
theorem d_X_surely_0 : decode b_X_surely 0 = .ok (.aload_n 0, 1) := by decide +kernel
theorem d_X_surely_1 : decode b_X_surely 1 = .ok (.iload_n 1, 1) := by decide +kernel
theorem d_X_surely_2 : decode b_X_surely 2 = .ok (.invokevirtual 65, 3) := by decide +kernel
theorem d_X_surely_5 : decode b_X_surely 5 = .ok (.ifCond .ne 5, 3) := by decide +kernel
theorem d_X_surely_8 : decode b_X_surely 8 = .ok (.iconst (-1), 1) := by decide +kernel
theorem d_X_surely_9 : decode b_X_surely 9 = .ok (.ireturn, 1) := by decide +kernel
theorem d_X_surely_10 : decode b_X_surely 10 = .ok (.aload_n 0, 1) := by decide +kernel
theorem d_X_surely_11 : decode b_X_surely 11 = .ok (.invokevirtual 81, 3) := by decide +kernel
theorem d_X_surely_14 : decode b_X_surely 14 = .ok (.iconst 0, 1) := by decide +kernel
theorem d_X_surely_15 : decode b_X_surely 15 = .ok (.istore_n 2, 1) := by decide +kernel
theorem d_X_surely_16 : decode b_X_surely 16 = .ok (.iconst 0, 1) := by decide +kernel
theorem d_X_surely_17 : decode b_X_surely 17 = .ok (.istore_n 3, 1) := by decide +kernel
theorem d_X_surely_18 : decode b_X_surely 18 = .ok (.iload_n 3, 1) := by decide +kernel
theorem d_X_surely_19 : decode b_X_surely 19 = .ok (.aload_n 0, 1) := by decide +kernel
theorem d_X_surely_20 : decode b_X_surely 20 = .ok (.getfield 55, 3) := by decide +kernel
theorem d_X_surely_23 : decode b_X_surely 23 = .ok (.if_icmp .ge 25, 3) := by decide +kernel
theorem d_X_surely_26 : decode b_X_surely 26 = .ok (.aload_n 0, 1) := by decide +kernel
theorem d_X_surely_27 : decode b_X_surely 27 = .ok (.getfield 52, 3) := by decide +kernel
theorem d_X_surely_30 : decode b_X_surely 30 = .ok (.iload_n 3, 1) := by decide +kernel
theorem d_X_surely_31 : decode b_X_surely 31 = .ok (.iaload, 1) := by decide +kernel
theorem d_X_surely_32 : decode b_X_surely 32 = .ok (.iconst 1, 1) := by decide +kernel
theorem d_X_surely_33 : decode b_X_surely 33 = .ok (.iload_n 1, 1) := by decide +kernel
theorem d_X_surely_34 : decode b_X_surely 34 = .ok (.ishl, 1) := by decide +kernel
theorem d_X_surely_35 : decode b_X_surely 35 = .ok (.iand, 1) := by decide +kernel
theorem d_X_surely_36 : decode b_X_surely 36 = .ok (.ifCond .eq 6, 3) := by decide +kernel
theorem d_X_surely_39 : decode b_X_surely 39 = .ok (.iinc 2 1, 3) := by decide +kernel
theorem d_X_surely_42 : decode b_X_surely 42 = .ok (.iinc 3 1, 3) := by decide +kernel
theorem d_X_surely_45 : decode b_X_surely 45 = .ok (.goto (-27), 3) := by decide +kernel
theorem d_X_surely_48 : decode b_X_surely 48 = .ok (.aload_n 0, 1) := by decide +kernel
theorem d_X_surely_49 : decode b_X_surely 49 = .ok (.iload_n 2, 1) := by decide +kernel
theorem d_X_surely_50 : decode b_X_surely 50 = .ok (.invokevirtual 91, 3) := by decide +kernel
theorem d_X_surely_53 : decode b_X_surely 53 = .ok (.ireturn, 1) := by decide +kernel
theorem d_X_better_0 : decode b_X_better 0 = .ok (.iload_n 3, 1) := by decide +kernel
theorem d_X_better_1 : decode b_X_better 1 = .ok (.invokestatic 78, 3) := by decide +kernel
theorem d_X_better_4 : decode b_X_better 4 = .ok (.ifCond .ne 5, 3) := by decide +kernel
theorem d_X_better_7 : decode b_X_better 7 = .ok (.iconst (-1), 1) := by decide +kernel
theorem d_X_better_8 : decode b_X_better 8 = .ok (.ireturn, 1) := by decide +kernel
theorem d_X_better_9 : decode b_X_better 9 = .ok (.iload_n 1, 1) := by decide +kernel
theorem d_X_better_10 : decode b_X_better 10 = .ok (.aload_n 0, 1) := by decide +kernel
theorem d_X_better_11 : decode b_X_better 11 = .ok (.invokevirtual 94, 3) := by decide +kernel
theorem d_X_better_14 : decode b_X_better 14 = .ok (.iand, 1) := by decide +kernel
theorem d_X_better_15 : decode b_X_better 15 = .ok (.istore 4, 2) := by decide +kernel
theorem d_X_better_17 : decode b_X_better 17 = .ok (.iload_n 2, 1) := by decide +kernel
theorem d_X_better_18 : decode b_X_better 18 = .ok (.aload_n 0, 1) := by decide +kernel
theorem d_X_better_19 : decode b_X_better 19 = .ok (.invokevirtual 94, 3) := by decide +kernel
theorem d_X_better_22 : decode b_X_better 22 = .ok (.iand, 1) := by decide +kernel
theorem d_X_better_23 : decode b_X_better 23 = .ok (.istore 5, 2) := by decide +kernel
theorem d_X_better_25 : decode b_X_better 25 = .ok (.aload_n 0, 1) := by decide +kernel
theorem d_X_better_26 : decode b_X_better 26 = .ok (.iload 4, 2) := by decide +kernel
theorem d_X_better_28 : decode b_X_better 28 = .ok (.iload 5, 2) := by decide +kernel
theorem d_X_better_30 : decode b_X_better 30 = .ok (.iload_n 3, 1) := by decide +kernel
theorem d_X_better_31 : decode b_X_better 31 = .ok (.invokevirtual 98, 3) := by decide +kernel
theorem d_X_better_34 : decode b_X_better 34 = .ok (.ifCond .eq 7, 3) := by decide +kernel
theorem d_X_better_37 : decode b_X_better 37 = .ok (.iconst 1, 1) := by decide +kernel
theorem d_X_better_38 : decode b_X_better 38 = .ok (.goto 4, 3) := by decide +kernel
theorem d_X_better_41 : decode b_X_better 41 = .ok (.iconst 0, 1) := by decide +kernel
theorem d_X_better_42 : decode b_X_better 42 = .ok (.ireturn, 1) := by decide +kernel
theorem d_X_least_0 : decode b_X_least 0 = .ok (.iload_n 1, 1) := by decide +kernel
theorem d_X_least_1 : decode b_X_least 1 = .ok (.ifCond .lt 11, 3) := by decide +kernel
theorem d_X_least_4 : decode b_X_least 4 = .ok (.iload_n 1, 1) := by decide +kernel
theorem d_X_least_5 : decode b_X_least 5 = .ok (.aload_n 0, 1) := by decide +kernel
theorem d_X_least_6 : decode b_X_least 6 = .ok (.getfield 26, 3) := by decide +kernel
theorem d_X_least_9 : decode b_X_least 9 = .ok (.if_icmp .lt 6, 3) := by decide +kernel
theorem d_X_least_12 : decode b_X_least 12 = .ok (.bipush (-2), 2) := by decide +kernel
theorem d_X_least_14 : decode b_X_least 14 = .ok (.ireturn, 1) := by decide +kernel
theorem d_X_least_15 : decode b_X_least 15 = .ok (.bipush (-2), 2) := by decide +kernel
theorem d_X_least_17 : decode b_X_least 17 = .ok (.istore_n 2, 1) := by decide +kernel
theorem d_X_least_18 : decode b_X_least 18 = .ok (.iconst 0, 1) := by decide +kernel
theorem d_X_least_19 : decode b_X_least 19 = .ok (.istore_n 3, 1) := by decide +kernel
theorem d_X_least_20 : decode b_X_least 20 = .ok (.iload_n 3, 1) := by decide +kernel
theorem d_X_least_21 : decode b_X_least 21 = .ok (.iload_n 1, 1) := by decide +kernel
theorem d_X_least_22 : decode b_X_least 22 = .ok (.if_icmp .gt 22, 3) := by decide +kernel
theorem d_X_least_25 : decode b_X_least 25 = .ok (.aload_n 0, 1) := by decide +kernel
theorem d_X_least_26 : decode b_X_least 26 = .ok (.iload_n 2, 1) := by decide +kernel
theorem d_X_least_27 : decode b_X_least 27 = .ok (.invokevirtual 102, 3) := by decide +kernel
theorem d_X_least_30 : decode b_X_least 30 = .ok (.istore_n 2, 1) := by decide +kernel
theorem d_X_least_31 : decode b_X_least 31 = .ok (.iload_n 2, 1) := by decide +kernel
theorem d_X_least_32 : decode b_X_least 32 = .ok (.ifCond .ge 6, 3) := by decide +kernel
theorem d_X_least_35 : decode b_X_least 35 = .ok (.bipush (-2), 2) := by decide +kernel
theorem d_X_least_37 : decode b_X_least 37 = .ok (.ireturn, 1) := by decide +kernel
theorem d_X_least_38 : decode b_X_least 38 = .ok (.iinc 3 1, 3) := by decide +kernel
theorem d_X_least_41 : decode b_X_least 41 = .ok (.goto (-21), 3) := by decide +kernel
theorem d_X_least_44 : decode b_X_least 44 = .ok (.iload_n 2, 1) := by decide +kernel
theorem d_X_least_45 : decode b_X_least 45 = .ok (.ireturn, 1) := by decide +kernel
theorem d_X_size_0 : decode b_X_size 0 = .ok (.aload_n 0, 1) := by decide +kernel
theorem d_X_size_1 : decode b_X_size 1 = .ok (.getfield 9, 3) := by decide +kernel
theorem d_X_size_4 : decode b_X_size 4 = .ok (.ireturn, 1) := by decide +kernel
theorem d_X_isRank_0 : decode b_X_isRank 0 = .ok (.iload_n 0, 1) := by decide +kernel
theorem d_X_isRank_1 : decode b_X_isRank 1 = .ok (.ifCond .lt 13, 3) := by decide +kernel
theorem d_X_isRank_4 : decode b_X_isRank 4 = .ok (.iload_n 0, 1) := by decide +kernel
theorem d_X_isRank_5 : decode b_X_isRank 5 = .ok (.bipush 7, 2) := by decide +kernel
theorem d_X_isRank_7 : decode b_X_isRank 7 = .ok (.if_icmp .gt 7, 3) := by decide +kernel
theorem d_X_isRank_10 : decode b_X_isRank 10 = .ok (.iconst 1, 1) := by decide +kernel
theorem d_X_isRank_11 : decode b_X_isRank 11 = .ok (.goto 4, 3) := by decide +kernel
theorem d_X_isRank_14 : decode b_X_isRank 14 = .ok (.iconst 0, 1) := by decide +kernel
theorem d_X_isRank_15 : decode b_X_isRank 15 = .ok (.ireturn, 1) := by decide +kernel
theorem d_X_isWeight_0 : decode b_X_isWeight 0 = .ok (.iload_n 0, 1) := by decide +kernel
theorem d_X_isWeight_1 : decode b_X_isWeight 1 = .ok (.iconst 1, 1) := by decide +kernel
theorem d_X_isWeight_2 : decode b_X_isWeight 2 = .ok (.if_icmp .lt 14, 3) := by decide +kernel
theorem d_X_isWeight_5 : decode b_X_isWeight 5 = .ok (.iload_n 0, 1) := by decide +kernel
theorem d_X_isWeight_6 : decode b_X_isWeight 6 = .ok (.sipush 1000, 3) := by decide +kernel
theorem d_X_isWeight_9 : decode b_X_isWeight 9 = .ok (.if_icmp .gt 7, 3) := by decide +kernel
theorem d_X_isWeight_12 : decode b_X_isWeight 12 = .ok (.iconst 1, 1) := by decide +kernel
theorem d_X_isWeight_13 : decode b_X_isWeight 13 = .ok (.goto 4, 3) := by decide +kernel
theorem d_X_isWeight_16 : decode b_X_isWeight 16 = .ok (.iconst 0, 1) := by decide +kernel
theorem d_X_isWeight_17 : decode b_X_isWeight 17 = .ok (.ireturn, 1) := by decide +kernel
theorem d_X_isAnswer_0 : decode b_X_isAnswer 0 = .ok (.iload_n 0, 1) := by decide +kernel
theorem d_X_isAnswer_1 : decode b_X_isAnswer 1 = .ok (.ifCond .lt 13, 3) := by decide +kernel
theorem d_X_isAnswer_4 : decode b_X_isAnswer 4 = .ok (.iload_n 0, 1) := by decide +kernel
theorem d_X_isAnswer_5 : decode b_X_isAnswer 5 = .ok (.bipush 8, 2) := by decide +kernel
theorem d_X_isAnswer_7 : decode b_X_isAnswer 7 = .ok (.if_icmp .ge 7, 3) := by decide +kernel
theorem d_X_isAnswer_10 : decode b_X_isAnswer 10 = .ok (.iconst 1, 1) := by decide +kernel
theorem d_X_isAnswer_11 : decode b_X_isAnswer 11 = .ok (.goto 4, 3) := by decide +kernel
theorem d_X_isAnswer_14 : decode b_X_isAnswer 14 = .ok (.iconst 0, 1) := by decide +kernel
theorem d_X_isAnswer_15 : decode b_X_isAnswer 15 = .ok (.ireturn, 1) := by decide +kernel
theorem d_X_isOrder_0 : decode b_X_isOrder 0 = .ok (.iload_n 0, 1) := by decide +kernel
theorem d_X_isOrder_1 : decode b_X_isOrder 1 = .ok (.ifCond .lt 12, 3) := by decide +kernel
theorem d_X_isOrder_4 : decode b_X_isOrder 4 = .ok (.iload_n 0, 1) := by decide +kernel
theorem d_X_isOrder_5 : decode b_X_isOrder 5 = .ok (.iconst 3, 1) := by decide +kernel
theorem d_X_isOrder_6 : decode b_X_isOrder 6 = .ok (.if_icmp .gt 7, 3) := by decide +kernel
theorem d_X_isOrder_9 : decode b_X_isOrder 9 = .ok (.iconst 1, 1) := by decide +kernel
theorem d_X_isOrder_10 : decode b_X_isOrder 10 = .ok (.goto 4, 3) := by decide +kernel
theorem d_X_isOrder_13 : decode b_X_isOrder 13 = .ok (.iconst 0, 1) := by decide +kernel
theorem d_X_isOrder_14 : decode b_X_isOrder 14 = .ok (.ireturn, 1) := by decide +kernel
theorem d_X_isStatement_0 : decode b_X_isStatement 0 = .ok (.iload_n 1, 1) := by decide +kernel
theorem d_X_isStatement_1 : decode b_X_isStatement 1 = .ok (.ifCond .lt 15, 3) := by decide +kernel
theorem d_X_isStatement_4 : decode b_X_isStatement 4 = .ok (.iload_n 1, 1) := by decide +kernel
theorem d_X_isStatement_5 : decode b_X_isStatement 5 = .ok (.aload_n 0, 1) := by decide +kernel
theorem d_X_isStatement_6 : decode b_X_isStatement 6 = .ok (.getfield 9, 3) := by decide +kernel
theorem d_X_isStatement_9 : decode b_X_isStatement 9 = .ok (.if_icmp .ge 7, 3) := by decide +kernel
theorem d_X_isStatement_12 : decode b_X_isStatement 12 = .ok (.iconst 1, 1) := by decide +kernel
theorem d_X_isStatement_13 : decode b_X_isStatement 13 = .ok (.goto 4, 3) := by decide +kernel
theorem d_X_isStatement_16 : decode b_X_isStatement 16 = .ok (.iconst 0, 1) := by decide +kernel
theorem d_X_isStatement_17 : decode b_X_isStatement 17 = .ok (.ireturn, 1) := by decide +kernel
theorem d_X_isRepair_0 : decode b_X_isRepair 0 = .ok (.iload_n 1, 1) := by decide +kernel
theorem d_X_isRepair_1 : decode b_X_isRepair 1 = .ok (.ifCond .lt 15, 3) := by decide +kernel
theorem d_X_isRepair_4 : decode b_X_isRepair 4 = .ok (.iload_n 1, 1) := by decide +kernel
theorem d_X_isRepair_5 : decode b_X_isRepair 5 = .ok (.aload_n 0, 1) := by decide +kernel
theorem d_X_isRepair_6 : decode b_X_isRepair 6 = .ok (.getfield 55, 3) := by decide +kernel
theorem d_X_isRepair_9 : decode b_X_isRepair 9 = .ok (.if_icmp .ge 7, 3) := by decide +kernel
theorem d_X_isRepair_12 : decode b_X_isRepair 12 = .ok (.iconst 1, 1) := by decide +kernel
theorem d_X_isRepair_13 : decode b_X_isRepair 13 = .ok (.goto 4, 3) := by decide +kernel
theorem d_X_isRepair_16 : decode b_X_isRepair 16 = .ok (.iconst 0, 1) := by decide +kernel
theorem d_X_isRepair_17 : decode b_X_isRepair 17 = .ok (.ireturn, 1) := by decide +kernel
theorem d_X_isHard_0 : decode b_X_isHard 0 = .ok (.aload_n 0, 1) := by decide +kernel
theorem d_X_isHard_1 : decode b_X_isHard 1 = .ok (.getfield 13, 3) := by decide +kernel
theorem d_X_isHard_4 : decode b_X_isHard 4 = .ok (.iconst 1, 1) := by decide +kernel
theorem d_X_isHard_5 : decode b_X_isHard 5 = .ok (.iload_n 1, 1) := by decide +kernel
theorem d_X_isHard_6 : decode b_X_isHard 6 = .ok (.ishl, 1) := by decide +kernel
theorem d_X_isHard_7 : decode b_X_isHard 7 = .ok (.iand, 1) := by decide +kernel
theorem d_X_isHard_8 : decode b_X_isHard 8 = .ok (.ifCond .eq 7, 3) := by decide +kernel
theorem d_X_isHard_11 : decode b_X_isHard 11 = .ok (.iconst 1, 1) := by decide +kernel
theorem d_X_isHard_12 : decode b_X_isHard 12 = .ok (.goto 4, 3) := by decide +kernel
theorem d_X_isHard_15 : decode b_X_isHard 15 = .ok (.iconst 0, 1) := by decide +kernel
theorem d_X_isHard_16 : decode b_X_isHard 16 = .ok (.ireturn, 1) := by decide +kernel
theorem d_X_setCount_0 : decode b_X_setCount 0 = .ok (.iconst 1, 1) := by decide +kernel
theorem d_X_setCount_1 : decode b_X_setCount 1 = .ok (.aload_n 0, 1) := by decide +kernel
theorem d_X_setCount_2 : decode b_X_setCount 2 = .ok (.getfield 9, 3) := by decide +kernel
theorem d_X_setCount_5 : decode b_X_setCount 5 = .ok (.ishl, 1) := by decide +kernel
theorem d_X_setCount_6 : decode b_X_setCount 6 = .ok (.ireturn, 1) := by decide +kernel
theorem d_X_statementBits_0 : decode b_X_statementBits 0 = .ok (.aload_n 0, 1) := by decide +kernel
theorem d_X_statementBits_1 : decode b_X_statementBits 1 = .ok (.invokevirtual 105, 3) := by decide +kernel
theorem d_X_statementBits_4 : decode b_X_statementBits 4 = .ok (.iconst 1, 1) := by decide +kernel
theorem d_X_statementBits_5 : decode b_X_statementBits 5 = .ok (.isub, 1) := by decide +kernel
theorem d_X_statementBits_6 : decode b_X_statementBits 6 = .ok (.ireturn, 1) := by decide +kernel
theorem d_X_isBetter_0 : decode b_X_isBetter 0 = .ok (.iload_n 3, 1) := by decide +kernel
theorem d_X_isBetter_1 : decode b_X_isBetter 1 = .ok (.ifCond .ne 9, 3) := by decide +kernel
theorem d_X_isBetter_4 : decode b_X_isBetter 4 = .ok (.iload_n 1, 1) := by decide +kernel
theorem d_X_isBetter_5 : decode b_X_isBetter 5 = .ok (.iload_n 2, 1) := by decide +kernel
theorem d_X_isBetter_6 : decode b_X_isBetter 6 = .ok (.invokestatic 108, 3) := by decide +kernel
theorem d_X_isBetter_9 : decode b_X_isBetter 9 = .ok (.ireturn, 1) := by decide +kernel
theorem d_X_isBetter_10 : decode b_X_isBetter 10 = .ok (.iload_n 3, 1) := by decide +kernel
theorem d_X_isBetter_11 : decode b_X_isBetter 11 = .ok (.iconst 1, 1) := by decide +kernel
theorem d_X_isBetter_12 : decode b_X_isBetter 12 = .ok (.if_icmp .ne 10, 3) := by decide +kernel
theorem d_X_isBetter_15 : decode b_X_isBetter 15 = .ok (.aload_n 0, 1) := by decide +kernel
theorem d_X_isBetter_16 : decode b_X_isBetter 16 = .ok (.iload_n 1, 1) := by decide +kernel
theorem d_X_isBetter_17 : decode b_X_isBetter 17 = .ok (.iload_n 2, 1) := by decide +kernel
theorem d_X_isBetter_18 : decode b_X_isBetter 18 = .ok (.invokevirtual 111, 3) := by decide +kernel
theorem d_X_isBetter_21 : decode b_X_isBetter 21 = .ok (.ireturn, 1) := by decide +kernel
theorem d_X_isBetter_22 : decode b_X_isBetter 22 = .ok (.aload_n 0, 1) := by decide +kernel
theorem d_X_isBetter_23 : decode b_X_isBetter 23 = .ok (.iload_n 1, 1) := by decide +kernel
theorem d_X_isBetter_24 : decode b_X_isBetter 24 = .ok (.iload_n 3, 1) := by decide +kernel
theorem d_X_isBetter_25 : decode b_X_isBetter 25 = .ok (.invokevirtual 114, 3) := by decide +kernel
theorem d_X_isBetter_28 : decode b_X_isBetter 28 = .ok (.aload_n 0, 1) := by decide +kernel
theorem d_X_isBetter_29 : decode b_X_isBetter 29 = .ok (.iload_n 2, 1) := by decide +kernel
theorem d_X_isBetter_30 : decode b_X_isBetter 30 = .ok (.iload_n 3, 1) := by decide +kernel
theorem d_X_isBetter_31 : decode b_X_isBetter 31 = .ok (.invokevirtual 114, 3) := by decide +kernel
theorem d_X_isBetter_34 : decode b_X_isBetter 34 = .ok (.lcmp, 1) := by decide +kernel
theorem d_X_isBetter_35 : decode b_X_isBetter 35 = .ok (.ifCond .le 7, 3) := by decide +kernel
theorem d_X_isBetter_38 : decode b_X_isBetter 38 = .ok (.iconst 1, 1) := by decide +kernel
theorem d_X_isBetter_39 : decode b_X_isBetter 39 = .ok (.goto 4, 3) := by decide +kernel
theorem d_X_isBetter_42 : decode b_X_isBetter 42 = .ok (.iconst 0, 1) := by decide +kernel
theorem d_X_isBetter_43 : decode b_X_isBetter 43 = .ok (.ireturn, 1) := by decide +kernel
theorem d_X_isPart_0 : decode b_X_isPart 0 = .ok (.iload_n 0, 1) := by decide +kernel
theorem d_X_isPart_1 : decode b_X_isPart 1 = .ok (.iload_n 1, 1) := by decide +kernel
theorem d_X_isPart_2 : decode b_X_isPart 2 = .ok (.iconst (-1), 1) := by decide +kernel
theorem d_X_isPart_3 : decode b_X_isPart 3 = .ok (.ixor, 1) := by decide +kernel
theorem d_X_isPart_4 : decode b_X_isPart 4 = .ok (.iand, 1) := by decide +kernel
theorem d_X_isPart_5 : decode b_X_isPart 5 = .ok (.ifCond .ne 7, 3) := by decide +kernel
theorem d_X_isPart_8 : decode b_X_isPart 8 = .ok (.iconst 1, 1) := by decide +kernel
theorem d_X_isPart_9 : decode b_X_isPart 9 = .ok (.goto 4, 3) := by decide +kernel
theorem d_X_isPart_12 : decode b_X_isPart 12 = .ok (.iconst 0, 1) := by decide +kernel
theorem d_X_isPart_13 : decode b_X_isPart 13 = .ok (.ireturn, 1) := by decide +kernel
theorem d_X_hasMore_0 : decode b_X_hasMore 0 = .ok (.iload_n 0, 1) := by decide +kernel
theorem d_X_hasMore_1 : decode b_X_hasMore 1 = .ok (.iload_n 1, 1) := by decide +kernel
theorem d_X_hasMore_2 : decode b_X_hasMore 2 = .ok (.if_icmp .eq 15, 3) := by decide +kernel
theorem d_X_hasMore_5 : decode b_X_hasMore 5 = .ok (.iload_n 1, 1) := by decide +kernel
theorem d_X_hasMore_6 : decode b_X_hasMore 6 = .ok (.iload_n 0, 1) := by decide +kernel
theorem d_X_hasMore_7 : decode b_X_hasMore 7 = .ok (.invokestatic 118, 3) := by decide +kernel
theorem d_X_hasMore_10 : decode b_X_hasMore 10 = .ok (.ifCond .eq 7, 3) := by decide +kernel
theorem d_X_hasMore_13 : decode b_X_hasMore 13 = .ok (.iconst 1, 1) := by decide +kernel
theorem d_X_hasMore_14 : decode b_X_hasMore 14 = .ok (.goto 4, 3) := by decide +kernel
theorem d_X_hasMore_17 : decode b_X_hasMore 17 = .ok (.iconst 0, 1) := by decide +kernel
theorem d_X_hasMore_18 : decode b_X_hasMore 18 = .ok (.ireturn, 1) := by decide +kernel
theorem d_X_hasMoreByRank_0 : decode b_X_hasMoreByRank 0 = .ok (.iconst 0, 1) := by decide +kernel
theorem d_X_hasMoreByRank_1 : decode b_X_hasMoreByRank 1 = .ok (.istore_n 3, 1) := by decide +kernel
theorem d_X_hasMoreByRank_2 : decode b_X_hasMoreByRank 2 = .ok (.iload_n 3, 1) := by decide +kernel
theorem d_X_hasMoreByRank_3 : decode b_X_hasMoreByRank 3 = .ok (.bipush 7, 2) := by decide +kernel
theorem d_X_hasMoreByRank_5 : decode b_X_hasMoreByRank 5 = .ok (.if_icmp .gt 40, 3) := by decide +kernel
theorem d_X_hasMoreByRank_8 : decode b_X_hasMoreByRank 8 = .ok (.aload_n 0, 1) := by decide +kernel
theorem d_X_hasMoreByRank_9 : decode b_X_hasMoreByRank 9 = .ok (.iload_n 3, 1) := by decide +kernel
theorem d_X_hasMoreByRank_10 : decode b_X_hasMoreByRank 10 = .ok (.iload_n 3, 1) := by decide +kernel
theorem d_X_hasMoreByRank_11 : decode b_X_hasMoreByRank 11 = .ok (.invokevirtual 121, 3) := by decide +kernel
theorem d_X_hasMoreByRank_14 : decode b_X_hasMoreByRank 14 = .ok (.istore 4, 2) := by decide +kernel
theorem d_X_hasMoreByRank_16 : decode b_X_hasMoreByRank 16 = .ok (.iload_n 1, 1) := by decide +kernel
theorem d_X_hasMoreByRank_17 : decode b_X_hasMoreByRank 17 = .ok (.iload 4, 2) := by decide +kernel
theorem d_X_hasMoreByRank_19 : decode b_X_hasMoreByRank 19 = .ok (.iand, 1) := by decide +kernel
theorem d_X_hasMoreByRank_20 : decode b_X_hasMoreByRank 20 = .ok (.iload_n 2, 1) := by decide +kernel
theorem d_X_hasMoreByRank_21 : decode b_X_hasMoreByRank 21 = .ok (.iload 4, 2) := by decide +kernel
theorem d_X_hasMoreByRank_23 : decode b_X_hasMoreByRank 23 = .ok (.iand, 1) := by decide +kernel
theorem d_X_hasMoreByRank_24 : decode b_X_hasMoreByRank 24 = .ok (.if_icmp .eq 15, 3) := by decide +kernel
theorem d_X_hasMoreByRank_27 : decode b_X_hasMoreByRank 27 = .ok (.iload_n 1, 1) := by decide +kernel
theorem d_X_hasMoreByRank_28 : decode b_X_hasMoreByRank 28 = .ok (.iload 4, 2) := by decide +kernel
theorem d_X_hasMoreByRank_30 : decode b_X_hasMoreByRank 30 = .ok (.iand, 1) := by decide +kernel
theorem d_X_hasMoreByRank_31 : decode b_X_hasMoreByRank 31 = .ok (.iload_n 2, 1) := by decide +kernel
theorem d_X_hasMoreByRank_32 : decode b_X_hasMoreByRank 32 = .ok (.iload 4, 2) := by decide +kernel
theorem d_X_hasMoreByRank_34 : decode b_X_hasMoreByRank 34 = .ok (.iand, 1) := by decide +kernel
theorem d_X_hasMoreByRank_35 : decode b_X_hasMoreByRank 35 = .ok (.invokestatic 108, 3) := by decide +kernel
theorem d_X_hasMoreByRank_38 : decode b_X_hasMoreByRank 38 = .ok (.ireturn, 1) := by decide +kernel
theorem d_X_hasMoreByRank_39 : decode b_X_hasMoreByRank 39 = .ok (.iinc 3 1, 3) := by decide +kernel
theorem d_X_hasMoreByRank_42 : decode b_X_hasMoreByRank 42 = .ok (.goto (-40), 3) := by decide +kernel
theorem d_X_hasMoreByRank_45 : decode b_X_hasMoreByRank 45 = .ok (.iconst 0, 1) := by decide +kernel
theorem d_X_hasMoreByRank_46 : decode b_X_hasMoreByRank 46 = .ok (.ireturn, 1) := by decide +kernel
theorem d_X_defaultsOfRanks_0 : decode b_X_defaultsOfRanks 0 = .ok (.iconst 0, 1) := by decide +kernel
theorem d_X_defaultsOfRanks_1 : decode b_X_defaultsOfRanks 1 = .ok (.istore_n 3, 1) := by decide +kernel
theorem d_X_defaultsOfRanks_2 : decode b_X_defaultsOfRanks 2 = .ok (.iconst 0, 1) := by decide +kernel
theorem d_X_defaultsOfRanks_3 : decode b_X_defaultsOfRanks 3 = .ok (.istore 4, 2) := by decide +kernel
theorem d_X_defaultsOfRanks_5 : decode b_X_defaultsOfRanks 5 = .ok (.iload 4, 2) := by decide +kernel
theorem d_X_defaultsOfRanks_7 : decode b_X_defaultsOfRanks 7 = .ok (.aload_n 0, 1) := by decide +kernel
theorem d_X_defaultsOfRanks_8 : decode b_X_defaultsOfRanks 8 = .ok (.getfield 9, 3) := by decide +kernel
theorem d_X_defaultsOfRanks_11 : decode b_X_defaultsOfRanks 11 = .ok (.if_icmp .ge 47, 3) := by decide +kernel
theorem d_X_defaultsOfRanks_14 : decode b_X_defaultsOfRanks 14 = .ok (.aload_n 0, 1) := by decide +kernel
theorem d_X_defaultsOfRanks_15 : decode b_X_defaultsOfRanks 15 = .ok (.iload 4, 2) := by decide +kernel
theorem d_X_defaultsOfRanks_17 : decode b_X_defaultsOfRanks 17 = .ok (.invokevirtual 68, 3) := by decide +kernel
theorem d_X_defaultsOfRanks_20 : decode b_X_defaultsOfRanks 20 = .ok (.ifCond .ne 32, 3) := by decide +kernel
theorem d_X_defaultsOfRanks_23 : decode b_X_defaultsOfRanks 23 = .ok (.aload_n 0, 1) := by decide +kernel
theorem d_X_defaultsOfRanks_24 : decode b_X_defaultsOfRanks 24 = .ok (.getfield 16, 3) := by decide +kernel
theorem d_X_defaultsOfRanks_27 : decode b_X_defaultsOfRanks 27 = .ok (.iload 4, 2) := by decide +kernel
theorem d_X_defaultsOfRanks_29 : decode b_X_defaultsOfRanks 29 = .ok (.iaload, 1) := by decide +kernel
theorem d_X_defaultsOfRanks_30 : decode b_X_defaultsOfRanks 30 = .ok (.iload_n 1, 1) := by decide +kernel
theorem d_X_defaultsOfRanks_31 : decode b_X_defaultsOfRanks 31 = .ok (.if_icmp .lt 21, 3) := by decide +kernel
theorem d_X_defaultsOfRanks_34 : decode b_X_defaultsOfRanks 34 = .ok (.aload_n 0, 1) := by decide +kernel
theorem d_X_defaultsOfRanks_35 : decode b_X_defaultsOfRanks 35 = .ok (.getfield 16, 3) := by decide +kernel
theorem d_X_defaultsOfRanks_38 : decode b_X_defaultsOfRanks 38 = .ok (.iload 4, 2) := by decide +kernel
theorem d_X_defaultsOfRanks_40 : decode b_X_defaultsOfRanks 40 = .ok (.iaload, 1) := by decide +kernel
theorem d_X_defaultsOfRanks_41 : decode b_X_defaultsOfRanks 41 = .ok (.iload_n 2, 1) := by decide +kernel
theorem d_X_defaultsOfRanks_42 : decode b_X_defaultsOfRanks 42 = .ok (.if_icmp .gt 10, 3) := by decide +kernel
theorem d_X_defaultsOfRanks_45 : decode b_X_defaultsOfRanks 45 = .ok (.iload_n 3, 1) := by decide +kernel
theorem d_X_defaultsOfRanks_46 : decode b_X_defaultsOfRanks 46 = .ok (.iconst 1, 1) := by decide +kernel
theorem d_X_defaultsOfRanks_47 : decode b_X_defaultsOfRanks 47 = .ok (.iload 4, 2) := by decide +kernel
theorem d_X_defaultsOfRanks_49 : decode b_X_defaultsOfRanks 49 = .ok (.ishl, 1) := by decide +kernel
theorem d_X_defaultsOfRanks_50 : decode b_X_defaultsOfRanks 50 = .ok (.ior, 1) := by decide +kernel
theorem d_X_defaultsOfRanks_51 : decode b_X_defaultsOfRanks 51 = .ok (.istore_n 3, 1) := by decide +kernel
theorem d_X_defaultsOfRanks_52 : decode b_X_defaultsOfRanks 52 = .ok (.iinc 4 1, 3) := by decide +kernel
theorem d_X_defaultsOfRanks_55 : decode b_X_defaultsOfRanks 55 = .ok (.goto (-50), 3) := by decide +kernel
theorem d_X_defaultsOfRanks_58 : decode b_X_defaultsOfRanks 58 = .ok (.iload_n 3, 1) := by decide +kernel
theorem d_X_defaultsOfRanks_59 : decode b_X_defaultsOfRanks 59 = .ok (.ireturn, 1) := by decide +kernel
theorem d_X_worth_0 : decode b_X_worth 0 = .ok (.lconst 0, 1) := by decide +kernel
theorem d_X_worth_1 : decode b_X_worth 1 = .ok (.lstore_n 3, 1) := by decide +kernel
theorem d_X_worth_2 : decode b_X_worth 2 = .ok (.iconst 0, 1) := by decide +kernel
theorem d_X_worth_3 : decode b_X_worth 3 = .ok (.istore 5, 2) := by decide +kernel
theorem d_X_worth_5 : decode b_X_worth 5 = .ok (.iload 5, 2) := by decide +kernel
theorem d_X_worth_7 : decode b_X_worth 7 = .ok (.aload_n 0, 1) := by decide +kernel
theorem d_X_worth_8 : decode b_X_worth 8 = .ok (.getfield 9, 3) := by decide +kernel
theorem d_X_worth_11 : decode b_X_worth 11 = .ok (.if_icmp .ge 60, 3) := by decide +kernel
theorem d_X_worth_14 : decode b_X_worth 14 = .ok (.iload_n 1, 1) := by decide +kernel
theorem d_X_worth_15 : decode b_X_worth 15 = .ok (.iconst 1, 1) := by decide +kernel
theorem d_X_worth_16 : decode b_X_worth 16 = .ok (.iload 5, 2) := by decide +kernel
theorem d_X_worth_18 : decode b_X_worth 18 = .ok (.ishl, 1) := by decide +kernel
theorem d_X_worth_19 : decode b_X_worth 19 = .ok (.iand, 1) := by decide +kernel
theorem d_X_worth_20 : decode b_X_worth 20 = .ok (.ifCond .eq 45, 3) := by decide +kernel
theorem d_X_worth_23 : decode b_X_worth 23 = .ok (.aload_n 0, 1) := by decide +kernel
theorem d_X_worth_24 : decode b_X_worth 24 = .ok (.iload 5, 2) := by decide +kernel
theorem d_X_worth_26 : decode b_X_worth 26 = .ok (.invokevirtual 68, 3) := by decide +kernel
theorem d_X_worth_29 : decode b_X_worth 29 = .ok (.ifCond .ne 36, 3) := by decide +kernel
theorem d_X_worth_32 : decode b_X_worth 32 = .ok (.lload_n 3, 1) := by decide +kernel
theorem d_X_worth_33 : decode b_X_worth 33 = .ok (.iload_n 2, 1) := by decide +kernel
theorem d_X_worth_34 : decode b_X_worth 34 = .ok (.iconst 2, 1) := by decide +kernel
theorem d_X_worth_35 : decode b_X_worth 35 = .ok (.if_icmp .ne 20, 3) := by decide +kernel
theorem d_X_worth_38 : decode b_X_worth 38 = .ok (.lconst 1, 1) := by decide +kernel
theorem d_X_worth_39 : decode b_X_worth 39 = .ok (.iconst 4, 1) := by decide +kernel
theorem d_X_worth_40 : decode b_X_worth 40 = .ok (.bipush 7, 2) := by decide +kernel
theorem d_X_worth_42 : decode b_X_worth 42 = .ok (.aload_n 0, 1) := by decide +kernel
theorem d_X_worth_43 : decode b_X_worth 43 = .ok (.getfield 16, 3) := by decide +kernel
theorem d_X_worth_46 : decode b_X_worth 46 = .ok (.iload 5, 2) := by decide +kernel
theorem d_X_worth_48 : decode b_X_worth 48 = .ok (.iaload, 1) := by decide +kernel
theorem d_X_worth_49 : decode b_X_worth 49 = .ok (.isub, 1) := by decide +kernel
theorem d_X_worth_50 : decode b_X_worth 50 = .ok (.imul, 1) := by decide +kernel
theorem d_X_worth_51 : decode b_X_worth 51 = .ok (.lshl, 1) := by decide +kernel
theorem d_X_worth_52 : decode b_X_worth 52 = .ok (.goto 11, 3) := by decide +kernel
theorem d_X_worth_55 : decode b_X_worth 55 = .ok (.aload_n 0, 1) := by decide +kernel
theorem d_X_worth_56 : decode b_X_worth 56 = .ok (.getfield 20, 3) := by decide +kernel
theorem d_X_worth_59 : decode b_X_worth 59 = .ok (.iload 5, 2) := by decide +kernel
theorem d_X_worth_61 : decode b_X_worth 61 = .ok (.iaload, 1) := by decide +kernel
theorem d_X_worth_62 : decode b_X_worth 62 = .ok (.i2l, 1) := by decide +kernel
theorem d_X_worth_63 : decode b_X_worth 63 = .ok (.ladd, 1) := by decide +kernel
theorem d_X_worth_64 : decode b_X_worth 64 = .ok (.lstore_n 3, 1) := by decide +kernel
theorem d_X_worth_65 : decode b_X_worth 65 = .ok (.iinc 5 1, 3) := by decide +kernel
theorem d_X_worth_68 : decode b_X_worth 68 = .ok (.goto (-63), 3) := by decide +kernel
theorem d_X_worth_71 : decode b_X_worth 71 = .ok (.lload_n 3, 1) := by decide +kernel
theorem d_X_worth_72 : decode b_X_worth 72 = .ok (.lreturn, 1) := by decide +kernel
theorem d_X_supportsOf_0 : decode b_X_supportsOf 0 = .ok (.iconst 0, 1) := by decide +kernel
theorem d_X_supportsOf_1 : decode b_X_supportsOf 1 = .ok (.istore_n 2, 1) := by decide +kernel
theorem d_X_supportsOf_2 : decode b_X_supportsOf 2 = .ok (.iconst 0, 1) := by decide +kernel
theorem d_X_supportsOf_3 : decode b_X_supportsOf 3 = .ok (.istore_n 3, 1) := by decide +kernel
theorem d_X_supportsOf_4 : decode b_X_supportsOf 4 = .ok (.iload_n 3, 1) := by decide +kernel
theorem d_X_supportsOf_5 : decode b_X_supportsOf 5 = .ok (.aload_n 0, 1) := by decide +kernel
theorem d_X_supportsOf_6 : decode b_X_supportsOf 6 = .ok (.getfield 35, 3) := by decide +kernel
theorem d_X_supportsOf_9 : decode b_X_supportsOf 9 = .ok (.if_icmp .ge 22, 3) := by decide +kernel
theorem d_X_supportsOf_12 : decode b_X_supportsOf 12 = .ok (.aload_n 0, 1) := by decide +kernel
theorem d_X_supportsOf_13 : decode b_X_supportsOf 13 = .ok (.getfield 32, 3) := by decide +kernel
theorem d_X_supportsOf_16 : decode b_X_supportsOf 16 = .ok (.iload_n 3, 1) := by decide +kernel
theorem d_X_supportsOf_17 : decode b_X_supportsOf 17 = .ok (.iaload, 1) := by decide +kernel
theorem d_X_supportsOf_18 : decode b_X_supportsOf 18 = .ok (.iload_n 1, 1) := by decide +kernel
theorem d_X_supportsOf_19 : decode b_X_supportsOf 19 = .ok (.if_icmp .ne 6, 3) := by decide +kernel
theorem d_X_supportsOf_22 : decode b_X_supportsOf 22 = .ok (.iinc 2 1, 3) := by decide +kernel
theorem d_X_supportsOf_25 : decode b_X_supportsOf 25 = .ok (.iinc 3 1, 3) := by decide +kernel
theorem d_X_supportsOf_28 : decode b_X_supportsOf 28 = .ok (.goto (-24), 3) := by decide +kernel
theorem d_X_supportsOf_31 : decode b_X_supportsOf 31 = .ok (.iload_n 2, 1) := by decide +kernel
theorem d_X_supportsOf_32 : decode b_X_supportsOf 32 = .ok (.ireturn, 1) := by decide +kernel
theorem d_X_holds_0 : decode b_X_holds 0 = .ok (.iconst 0, 1) := by decide +kernel
theorem d_X_holds_1 : decode b_X_holds 1 = .ok (.istore_n 3, 1) := by decide +kernel
theorem d_X_holds_2 : decode b_X_holds 2 = .ok (.iload_n 3, 1) := by decide +kernel
theorem d_X_holds_3 : decode b_X_holds 3 = .ok (.aload_n 0, 1) := by decide +kernel
theorem d_X_holds_4 : decode b_X_holds 4 = .ok (.getfield 35, 3) := by decide +kernel
theorem d_X_holds_7 : decode b_X_holds 7 = .ok (.if_icmp .ge 34, 3) := by decide +kernel
theorem d_X_holds_10 : decode b_X_holds 10 = .ok (.aload_n 0, 1) := by decide +kernel
theorem d_X_holds_11 : decode b_X_holds 11 = .ok (.getfield 32, 3) := by decide +kernel
theorem d_X_holds_14 : decode b_X_holds 14 = .ok (.iload_n 3, 1) := by decide +kernel
theorem d_X_holds_15 : decode b_X_holds 15 = .ok (.iaload, 1) := by decide +kernel
theorem d_X_holds_16 : decode b_X_holds 16 = .ok (.iload_n 1, 1) := by decide +kernel
theorem d_X_holds_17 : decode b_X_holds 17 = .ok (.if_icmp .ne 18, 3) := by decide +kernel
theorem d_X_holds_20 : decode b_X_holds 20 = .ok (.aload_n 0, 1) := by decide +kernel
theorem d_X_holds_21 : decode b_X_holds 21 = .ok (.getfield 29, 3) := by decide +kernel
theorem d_X_holds_24 : decode b_X_holds 24 = .ok (.iload_n 3, 1) := by decide +kernel
theorem d_X_holds_25 : decode b_X_holds 25 = .ok (.iaload, 1) := by decide +kernel
theorem d_X_holds_26 : decode b_X_holds 26 = .ok (.iload_n 2, 1) := by decide +kernel
theorem d_X_holds_27 : decode b_X_holds 27 = .ok (.invokestatic 118, 3) := by decide +kernel
theorem d_X_holds_30 : decode b_X_holds 30 = .ok (.ifCond .eq 5, 3) := by decide +kernel
theorem d_X_holds_33 : decode b_X_holds 33 = .ok (.iconst 1, 1) := by decide +kernel
theorem d_X_holds_34 : decode b_X_holds 34 = .ok (.ireturn, 1) := by decide +kernel
theorem d_X_holds_35 : decode b_X_holds 35 = .ok (.iinc 3 1, 3) := by decide +kernel
theorem d_X_holds_38 : decode b_X_holds 38 = .ok (.goto (-36), 3) := by decide +kernel
theorem d_X_holds_41 : decode b_X_holds 41 = .ok (.iconst 0, 1) := by decide +kernel
theorem d_X_holds_42 : decode b_X_holds 42 = .ok (.ireturn, 1) := by decide +kernel
theorem d_X_verdict_0 : decode b_X_verdict 0 = .ok (.aload_n 0, 1) := by decide +kernel
theorem d_X_verdict_1 : decode b_X_verdict 1 = .ok (.getfield 55, 3) := by decide +kernel
theorem d_X_verdict_4 : decode b_X_verdict 4 = .ok (.ifCond .ne 6, 3) := by decide +kernel
theorem d_X_verdict_7 : decode b_X_verdict 7 = .ok (.bipush (-2), 2) := by decide +kernel
theorem d_X_verdict_9 : decode b_X_verdict 9 = .ok (.ireturn, 1) := by decide +kernel
theorem d_X_verdict_10 : decode b_X_verdict 10 = .ok (.iload_n 1, 1) := by decide +kernel
theorem d_X_verdict_11 : decode b_X_verdict 11 = .ok (.aload_n 0, 1) := by decide +kernel
theorem d_X_verdict_12 : decode b_X_verdict 12 = .ok (.getfield 55, 3) := by decide +kernel
theorem d_X_verdict_15 : decode b_X_verdict 15 = .ok (.if_icmp .ne 5, 3) := by decide +kernel
theorem d_X_verdict_18 : decode b_X_verdict 18 = .ok (.iconst 2, 1) := by decide +kernel
theorem d_X_verdict_19 : decode b_X_verdict 19 = .ok (.ireturn, 1) := by decide +kernel
theorem d_X_verdict_20 : decode b_X_verdict 20 = .ok (.iload_n 1, 1) := by decide +kernel
theorem d_X_verdict_21 : decode b_X_verdict 21 = .ok (.ifCond .le 7, 3) := by decide +kernel
theorem d_X_verdict_24 : decode b_X_verdict 24 = .ok (.iconst 1, 1) := by decide +kernel
theorem d_X_verdict_25 : decode b_X_verdict 25 = .ok (.goto 4, 3) := by decide +kernel
theorem d_X_verdict_28 : decode b_X_verdict 28 = .ok (.iconst 0, 1) := by decide +kernel
theorem d_X_verdict_29 : decode b_X_verdict 29 = .ok (.ireturn, 1) := by decide +kernel
theorem d_X_leastAfter_0 : decode b_X_leastAfter 0 = .ok (.bipush (-2), 2) := by decide +kernel
theorem d_X_leastAfter_2 : decode b_X_leastAfter 2 = .ok (.istore_n 2, 1) := by decide +kernel
theorem d_X_leastAfter_3 : decode b_X_leastAfter 3 = .ok (.iconst 0, 1) := by decide +kernel
theorem d_X_leastAfter_4 : decode b_X_leastAfter 4 = .ok (.istore_n 3, 1) := by decide +kernel
theorem d_X_leastAfter_5 : decode b_X_leastAfter 5 = .ok (.iload_n 3, 1) := by decide +kernel
theorem d_X_leastAfter_6 : decode b_X_leastAfter 6 = .ok (.aload_n 0, 1) := by decide +kernel
theorem d_X_leastAfter_7 : decode b_X_leastAfter 7 = .ok (.getfield 26, 3) := by decide +kernel
theorem d_X_leastAfter_10 : decode b_X_leastAfter 10 = .ok (.if_icmp .ge 45, 3) := by decide +kernel
theorem d_X_leastAfter_13 : decode b_X_leastAfter 13 = .ok (.aload_n 0, 1) := by decide +kernel
theorem d_X_leastAfter_14 : decode b_X_leastAfter 14 = .ok (.getfield 23, 3) := by decide +kernel
theorem d_X_leastAfter_17 : decode b_X_leastAfter 17 = .ok (.iload_n 3, 1) := by decide +kernel
theorem d_X_leastAfter_18 : decode b_X_leastAfter 18 = .ok (.iaload, 1) := by decide +kernel
theorem d_X_leastAfter_19 : decode b_X_leastAfter 19 = .ok (.istore 4, 2) := by decide +kernel
theorem d_X_leastAfter_21 : decode b_X_leastAfter 21 = .ok (.iload 4, 2) := by decide +kernel
theorem d_X_leastAfter_23 : decode b_X_leastAfter 23 = .ok (.iload_n 1, 1) := by decide +kernel
theorem d_X_leastAfter_24 : decode b_X_leastAfter 24 = .ok (.if_icmp .le 25, 3) := by decide +kernel
theorem d_X_leastAfter_27 : decode b_X_leastAfter 27 = .ok (.iload_n 2, 1) := by decide +kernel
theorem d_X_leastAfter_28 : decode b_X_leastAfter 28 = .ok (.ifCond .lt 9, 3) := by decide +kernel
theorem d_X_leastAfter_31 : decode b_X_leastAfter 31 = .ok (.iload 4, 2) := by decide +kernel
theorem d_X_leastAfter_33 : decode b_X_leastAfter 33 = .ok (.iload_n 2, 1) := by decide +kernel
theorem d_X_leastAfter_34 : decode b_X_leastAfter 34 = .ok (.if_icmp .ge 15, 3) := by decide +kernel
theorem d_X_leastAfter_37 : decode b_X_leastAfter 37 = .ok (.aload_n 0, 1) := by decide +kernel
theorem d_X_leastAfter_38 : decode b_X_leastAfter 38 = .ok (.iload 4, 2) := by decide +kernel
theorem d_X_leastAfter_40 : decode b_X_leastAfter 40 = .ok (.invokevirtual 125, 3) := by decide +kernel
theorem d_X_leastAfter_43 : decode b_X_leastAfter 43 = .ok (.ifCond .eq 6, 3) := by decide +kernel
theorem d_X_leastAfter_46 : decode b_X_leastAfter 46 = .ok (.iload 4, 2) := by decide +kernel
theorem d_X_leastAfter_48 : decode b_X_leastAfter 48 = .ok (.istore_n 2, 1) := by decide +kernel
theorem d_X_leastAfter_49 : decode b_X_leastAfter 49 = .ok (.iinc 3 1, 3) := by decide +kernel
theorem d_X_leastAfter_52 : decode b_X_leastAfter 52 = .ok (.goto (-47), 3) := by decide +kernel
theorem d_X_leastAfter_55 : decode b_X_leastAfter 55 = .ok (.iload_n 2, 1) := by decide +kernel
theorem d_X_leastAfter_56 : decode b_X_leastAfter 56 = .ok (.ireturn, 1) := by decide +kernel
theorem d_X_isLeast_0 : decode b_X_isLeast 0 = .ok (.iload_n 1, 1) := by decide +kernel
theorem d_X_isLeast_1 : decode b_X_isLeast 1 = .ok (.aload_n 0, 1) := by decide +kernel
theorem d_X_isLeast_2 : decode b_X_isLeast 2 = .ok (.invokevirtual 94, 3) := by decide +kernel
theorem d_X_isLeast_5 : decode b_X_isLeast 5 = .ok (.invokestatic 118, 3) := by decide +kernel
theorem d_X_isLeast_8 : decode b_X_isLeast 8 = .ok (.ifCond .ne 5, 3) := by decide +kernel
theorem d_X_isLeast_11 : decode b_X_isLeast 11 = .ok (.iconst 0, 1) := by decide +kernel
theorem d_X_isLeast_12 : decode b_X_isLeast 12 = .ok (.ireturn, 1) := by decide +kernel
theorem d_X_isLeast_13 : decode b_X_isLeast 13 = .ok (.iconst 0, 1) := by decide +kernel
theorem d_X_isLeast_14 : decode b_X_isLeast 14 = .ok (.istore_n 2, 1) := by decide +kernel
theorem d_X_isLeast_15 : decode b_X_isLeast 15 = .ok (.iload_n 2, 1) := by decide +kernel
theorem d_X_isLeast_16 : decode b_X_isLeast 16 = .ok (.aload_n 0, 1) := by decide +kernel
theorem d_X_isLeast_17 : decode b_X_isLeast 17 = .ok (.getfield 26, 3) := by decide +kernel
theorem d_X_isLeast_20 : decode b_X_isLeast 20 = .ok (.if_icmp .ge 24, 3) := by decide +kernel
theorem d_X_isLeast_23 : decode b_X_isLeast 23 = .ok (.iload_n 1, 1) := by decide +kernel
theorem d_X_isLeast_24 : decode b_X_isLeast 24 = .ok (.aload_n 0, 1) := by decide +kernel
theorem d_X_isLeast_25 : decode b_X_isLeast 25 = .ok (.getfield 23, 3) := by decide +kernel
theorem d_X_isLeast_28 : decode b_X_isLeast 28 = .ok (.iload_n 2, 1) := by decide +kernel
theorem d_X_isLeast_29 : decode b_X_isLeast 29 = .ok (.iaload, 1) := by decide +kernel
theorem d_X_isLeast_30 : decode b_X_isLeast 30 = .ok (.invokestatic 108, 3) := by decide +kernel
theorem d_X_isLeast_33 : decode b_X_isLeast 33 = .ok (.ifCond .eq 5, 3) := by decide +kernel
theorem d_X_isLeast_36 : decode b_X_isLeast 36 = .ok (.iconst 0, 1) := by decide +kernel
theorem d_X_isLeast_37 : decode b_X_isLeast 37 = .ok (.ireturn, 1) := by decide +kernel
theorem d_X_isLeast_38 : decode b_X_isLeast 38 = .ok (.iinc 2 1, 3) := by decide +kernel
theorem d_X_isLeast_41 : decode b_X_isLeast 41 = .ok (.goto (-26), 3) := by decide +kernel
theorem d_X_isLeast_44 : decode b_X_isLeast 44 = .ok (.iconst 1, 1) := by decide +kernel
theorem d_X_isLeast_45 : decode b_X_isLeast 45 = .ok (.ireturn, 1) := by decide +kernel
theorem d_X_refresh_0 : decode b_X_refresh 0 = .ok (.aload_n 0, 1) := by decide +kernel
theorem d_X_refresh_1 : decode b_X_refresh 1 = .ok (.getfield 41, 3) := by decide +kernel
theorem d_X_refresh_4 : decode b_X_refresh 4 = .ok (.ifCond .eq 4, 3) := by decide +kernel
theorem d_X_refresh_7 : decode b_X_refresh 7 = .ok (.return_, 1) := by decide +kernel
theorem d_X_refresh_8 : decode b_X_refresh 8 = .ok (.aload_n 0, 1) := by decide +kernel
theorem d_X_refresh_9 : decode b_X_refresh 9 = .ok (.invokevirtual 128, 3) := by decide +kernel
theorem d_X_refresh_12 : decode b_X_refresh 12 = .ok (.aload_n 0, 1) := by decide +kernel
theorem d_X_refresh_13 : decode b_X_refresh 13 = .ok (.iconst 0, 1) := by decide +kernel
theorem d_X_refresh_14 : decode b_X_refresh 14 = .ok (.putfield 55, 3) := by decide +kernel
theorem d_X_refresh_17 : decode b_X_refresh 17 = .ok (.aload_n 0, 1) := by decide +kernel
theorem d_X_refresh_18 : decode b_X_refresh 18 = .ok (.getfield 38, 3) := by decide +kernel
theorem d_X_refresh_21 : decode b_X_refresh 21 = .ok (.ifCond .eq 11, 3) := by decide +kernel
theorem d_X_refresh_24 : decode b_X_refresh 24 = .ok (.aload_n 0, 1) := by decide +kernel
theorem d_X_refresh_25 : decode b_X_refresh 25 = .ok (.getfield 38, 3) := by decide +kernel
theorem d_X_refresh_28 : decode b_X_refresh 28 = .ok (.iconst 1, 1) := by decide +kernel
theorem d_X_refresh_29 : decode b_X_refresh 29 = .ok (.if_icmp .ne 10, 3) := by decide +kernel
theorem d_X_refresh_32 : decode b_X_refresh 32 = .ok (.aload_n 0, 1) := by decide +kernel
theorem d_X_refresh_33 : decode b_X_refresh 33 = .ok (.invokevirtual 131, 3) := by decide +kernel
theorem d_X_refresh_36 : decode b_X_refresh 36 = .ok (.goto 7, 3) := by decide +kernel
theorem d_X_refresh_39 : decode b_X_refresh 39 = .ok (.aload_n 0, 1) := by decide +kernel
theorem d_X_refresh_40 : decode b_X_refresh 40 = .ok (.invokevirtual 134, 3) := by decide +kernel
theorem d_X_refresh_43 : decode b_X_refresh 43 = .ok (.aload_n 0, 1) := by decide +kernel
theorem d_X_refresh_44 : decode b_X_refresh 44 = .ok (.iconst 1, 1) := by decide +kernel
theorem d_X_refresh_45 : decode b_X_refresh 45 = .ok (.putfield 41, 3) := by decide +kernel
theorem d_X_refresh_48 : decode b_X_refresh 48 = .ok (.return_, 1) := by decide +kernel
theorem d_X_markClashing_0 : decode b_X_markClashing 0 = .ok (.aload_n 0, 1) := by decide +kernel
theorem d_X_markClashing_1 : decode b_X_markClashing 1 = .ok (.invokevirtual 105, 3) := by decide +kernel
theorem d_X_markClashing_4 : decode b_X_markClashing 4 = .ok (.istore_n 1, 1) := by decide +kernel
theorem d_X_markClashing_5 : decode b_X_markClashing 5 = .ok (.iconst 0, 1) := by decide +kernel
theorem d_X_markClashing_6 : decode b_X_markClashing 6 = .ok (.istore_n 2, 1) := by decide +kernel
theorem d_X_markClashing_7 : decode b_X_markClashing 7 = .ok (.iload_n 2, 1) := by decide +kernel
theorem d_X_markClashing_8 : decode b_X_markClashing 8 = .ok (.iload_n 1, 1) := by decide +kernel
theorem d_X_markClashing_9 : decode b_X_markClashing 9 = .ok (.if_icmp .ge 16, 3) := by decide +kernel
theorem d_X_markClashing_12 : decode b_X_markClashing 12 = .ok (.aload_n 0, 1) := by decide +kernel
theorem d_X_markClashing_13 : decode b_X_markClashing 13 = .ok (.getfield 45, 3) := by decide +kernel
theorem d_X_markClashing_16 : decode b_X_markClashing 16 = .ok (.iload_n 2, 1) := by decide +kernel
theorem d_X_markClashing_17 : decode b_X_markClashing 17 = .ok (.iconst 0, 1) := by decide +kernel
theorem d_X_markClashing_18 : decode b_X_markClashing 18 = .ok (.bastore, 1) := by decide +kernel
theorem d_X_markClashing_19 : decode b_X_markClashing 19 = .ok (.iinc 2 1, 3) := by decide +kernel
theorem d_X_markClashing_22 : decode b_X_markClashing 22 = .ok (.goto (-15), 3) := by decide +kernel
theorem d_X_markClashing_25 : decode b_X_markClashing 25 = .ok (.iconst 0, 1) := by decide +kernel
theorem d_X_markClashing_26 : decode b_X_markClashing 26 = .ok (.istore_n 2, 1) := by decide +kernel
theorem d_X_markClashing_27 : decode b_X_markClashing 27 = .ok (.iload_n 2, 1) := by decide +kernel
theorem d_X_markClashing_28 : decode b_X_markClashing 28 = .ok (.aload_n 0, 1) := by decide +kernel
theorem d_X_markClashing_29 : decode b_X_markClashing 29 = .ok (.getfield 26, 3) := by decide +kernel
theorem d_X_markClashing_32 : decode b_X_markClashing 32 = .ok (.if_icmp .ge 31, 3) := by decide +kernel
theorem d_X_markClashing_35 : decode b_X_markClashing 35 = .ok (.aload_n 0, 1) := by decide +kernel
theorem d_X_markClashing_36 : decode b_X_markClashing 36 = .ok (.getfield 23, 3) := by decide +kernel
theorem d_X_markClashing_39 : decode b_X_markClashing 39 = .ok (.iload_n 2, 1) := by decide +kernel
theorem d_X_markClashing_40 : decode b_X_markClashing 40 = .ok (.iaload, 1) := by decide +kernel
theorem d_X_markClashing_41 : decode b_X_markClashing 41 = .ok (.iload_n 1, 1) := by decide +kernel
theorem d_X_markClashing_42 : decode b_X_markClashing 42 = .ok (.if_icmp .ge 15, 3) := by decide +kernel
theorem d_X_markClashing_45 : decode b_X_markClashing 45 = .ok (.aload_n 0, 1) := by decide +kernel
theorem d_X_markClashing_46 : decode b_X_markClashing 46 = .ok (.getfield 45, 3) := by decide +kernel
theorem d_X_markClashing_49 : decode b_X_markClashing 49 = .ok (.aload_n 0, 1) := by decide +kernel
theorem d_X_markClashing_50 : decode b_X_markClashing 50 = .ok (.getfield 23, 3) := by decide +kernel
theorem d_X_markClashing_53 : decode b_X_markClashing 53 = .ok (.iload_n 2, 1) := by decide +kernel
theorem d_X_markClashing_54 : decode b_X_markClashing 54 = .ok (.iaload, 1) := by decide +kernel
theorem d_X_markClashing_55 : decode b_X_markClashing 55 = .ok (.iconst 1, 1) := by decide +kernel
theorem d_X_markClashing_56 : decode b_X_markClashing 56 = .ok (.bastore, 1) := by decide +kernel
theorem d_X_markClashing_57 : decode b_X_markClashing 57 = .ok (.iinc 2 1, 3) := by decide +kernel
theorem d_X_markClashing_60 : decode b_X_markClashing 60 = .ok (.goto (-33), 3) := by decide +kernel
theorem d_X_markClashing_63 : decode b_X_markClashing 63 = .ok (.iconst 0, 1) := by decide +kernel
theorem d_X_markClashing_64 : decode b_X_markClashing 64 = .ok (.istore_n 2, 1) := by decide +kernel
theorem d_X_markClashing_65 : decode b_X_markClashing 65 = .ok (.iload_n 2, 1) := by decide +kernel
theorem d_X_markClashing_66 : decode b_X_markClashing 66 = .ok (.iload_n 1, 1) := by decide +kernel
theorem d_X_markClashing_67 : decode b_X_markClashing 67 = .ok (.if_icmp .ge 29, 3) := by decide +kernel
theorem d_X_markClashing_70 : decode b_X_markClashing 70 = .ok (.aload_n 0, 1) := by decide +kernel
theorem d_X_markClashing_71 : decode b_X_markClashing 71 = .ok (.getfield 45, 3) := by decide +kernel
theorem d_X_markClashing_74 : decode b_X_markClashing 74 = .ok (.iload_n 2, 1) := by decide +kernel
theorem d_X_markClashing_75 : decode b_X_markClashing 75 = .ok (.baload, 1) := by decide +kernel
theorem d_X_markClashing_76 : decode b_X_markClashing 76 = .ok (.ifCond .ne 14, 3) := by decide +kernel
theorem d_X_markClashing_79 : decode b_X_markClashing 79 = .ok (.aload_n 0, 1) := by decide +kernel
theorem d_X_markClashing_80 : decode b_X_markClashing 80 = .ok (.getfield 45, 3) := by decide +kernel
theorem d_X_markClashing_83 : decode b_X_markClashing 83 = .ok (.iload_n 2, 1) := by decide +kernel
theorem d_X_markClashing_84 : decode b_X_markClashing 84 = .ok (.aload_n 0, 1) := by decide +kernel
theorem d_X_markClashing_85 : decode b_X_markClashing 85 = .ok (.iload_n 2, 1) := by decide +kernel
theorem d_X_markClashing_86 : decode b_X_markClashing 86 = .ok (.invokevirtual 137, 3) := by decide +kernel
theorem d_X_markClashing_89 : decode b_X_markClashing 89 = .ok (.bastore, 1) := by decide +kernel
theorem d_X_markClashing_90 : decode b_X_markClashing 90 = .ok (.iinc 2 1, 3) := by decide +kernel
theorem d_X_markClashing_93 : decode b_X_markClashing 93 = .ok (.goto (-28), 3) := by decide +kernel
theorem d_X_markClashing_96 : decode b_X_markClashing 96 = .ok (.return_, 1) := by decide +kernel
theorem d_X_hasClashingPart_0 : decode b_X_hasClashingPart 0 = .ok (.iconst 0, 1) := by decide +kernel
theorem d_X_hasClashingPart_1 : decode b_X_hasClashingPart 1 = .ok (.istore_n 2, 1) := by decide +kernel
theorem d_X_hasClashingPart_2 : decode b_X_hasClashingPart 2 = .ok (.iload_n 2, 1) := by decide +kernel
theorem d_X_hasClashingPart_3 : decode b_X_hasClashingPart 3 = .ok (.aload_n 0, 1) := by decide +kernel
theorem d_X_hasClashingPart_4 : decode b_X_hasClashingPart 4 = .ok (.getfield 9, 3) := by decide +kernel
theorem d_X_hasClashingPart_7 : decode b_X_hasClashingPart 7 = .ok (.if_icmp .ge 32, 3) := by decide +kernel
theorem d_X_hasClashingPart_10 : decode b_X_hasClashingPart 10 = .ok (.iconst 1, 1) := by decide +kernel
theorem d_X_hasClashingPart_11 : decode b_X_hasClashingPart 11 = .ok (.iload_n 2, 1) := by decide +kernel
theorem d_X_hasClashingPart_12 : decode b_X_hasClashingPart 12 = .ok (.ishl, 1) := by decide +kernel
theorem d_X_hasClashingPart_13 : decode b_X_hasClashingPart 13 = .ok (.istore_n 3, 1) := by decide +kernel
theorem d_X_hasClashingPart_14 : decode b_X_hasClashingPart 14 = .ok (.iload_n 1, 1) := by decide +kernel
theorem d_X_hasClashingPart_15 : decode b_X_hasClashingPart 15 = .ok (.iload_n 3, 1) := by decide +kernel
theorem d_X_hasClashingPart_16 : decode b_X_hasClashingPart 16 = .ok (.iand, 1) := by decide +kernel
theorem d_X_hasClashingPart_17 : decode b_X_hasClashingPart 17 = .ok (.ifCond .eq 16, 3) := by decide +kernel
theorem d_X_hasClashingPart_20 : decode b_X_hasClashingPart 20 = .ok (.aload_n 0, 1) := by decide +kernel
theorem d_X_hasClashingPart_21 : decode b_X_hasClashingPart 21 = .ok (.getfield 45, 3) := by decide +kernel
theorem d_X_hasClashingPart_24 : decode b_X_hasClashingPart 24 = .ok (.iload_n 1, 1) := by decide +kernel
theorem d_X_hasClashingPart_25 : decode b_X_hasClashingPart 25 = .ok (.iload_n 3, 1) := by decide +kernel
theorem d_X_hasClashingPart_26 : decode b_X_hasClashingPart 26 = .ok (.ixor, 1) := by decide +kernel
theorem d_X_hasClashingPart_27 : decode b_X_hasClashingPart 27 = .ok (.baload, 1) := by decide +kernel
theorem d_X_hasClashingPart_28 : decode b_X_hasClashingPart 28 = .ok (.ifCond .eq 5, 3) := by decide +kernel
theorem d_X_hasClashingPart_31 : decode b_X_hasClashingPart 31 = .ok (.iconst 1, 1) := by decide +kernel
theorem d_X_hasClashingPart_32 : decode b_X_hasClashingPart 32 = .ok (.ireturn, 1) := by decide +kernel
theorem d_X_hasClashingPart_33 : decode b_X_hasClashingPart 33 = .ok (.iinc 2 1, 3) := by decide +kernel
theorem d_X_hasClashingPart_36 : decode b_X_hasClashingPart 36 = .ok (.goto (-34), 3) := by decide +kernel
theorem d_X_hasClashingPart_39 : decode b_X_hasClashingPart 39 = .ok (.iconst 0, 1) := by decide +kernel
theorem d_X_hasClashingPart_40 : decode b_X_hasClashingPart 40 = .ok (.ireturn, 1) := by decide +kernel
theorem d_X_isKept_0 : decode b_X_isKept 0 = .ok (.aload_n 0, 1) := by decide +kernel
theorem d_X_isKept_1 : decode b_X_isKept 1 = .ok (.getfield 13, 3) := by decide +kernel
theorem d_X_isKept_4 : decode b_X_isKept 4 = .ok (.iload_n 1, 1) := by decide +kernel
theorem d_X_isKept_5 : decode b_X_isKept 5 = .ok (.invokestatic 118, 3) := by decide +kernel
theorem d_X_isKept_8 : decode b_X_isKept 8 = .ok (.ifCond .eq 16, 3) := by decide +kernel
theorem d_X_isKept_11 : decode b_X_isKept 11 = .ok (.aload_n 0, 1) := by decide +kernel
theorem d_X_isKept_12 : decode b_X_isKept 12 = .ok (.getfield 45, 3) := by decide +kernel
theorem d_X_isKept_15 : decode b_X_isKept 15 = .ok (.iload_n 1, 1) := by decide +kernel
theorem d_X_isKept_16 : decode b_X_isKept 16 = .ok (.baload, 1) := by decide +kernel
theorem d_X_isKept_17 : decode b_X_isKept 17 = .ok (.ifCond .ne 7, 3) := by decide +kernel
theorem d_X_isKept_20 : decode b_X_isKept 20 = .ok (.iconst 1, 1) := by decide +kernel
theorem d_X_isKept_21 : decode b_X_isKept 21 = .ok (.goto 4, 3) := by decide +kernel
theorem d_X_isKept_24 : decode b_X_isKept 24 = .ok (.iconst 0, 1) := by decide +kernel
theorem d_X_isKept_25 : decode b_X_isKept 25 = .ok (.ireturn, 1) := by decide +kernel
theorem d_X_addRepair_0 : decode b_X_addRepair 0 = .ok (.aload_n 0, 1) := by decide +kernel
theorem d_X_addRepair_1 : decode b_X_addRepair 1 = .ok (.getfield 55, 3) := by decide +kernel
theorem d_X_addRepair_4 : decode b_X_addRepair 4 = .ok (.sipush 462, 3) := by decide +kernel
theorem d_X_addRepair_7 : decode b_X_addRepair 7 = .ok (.if_icmp .ge 23, 3) := by decide +kernel
theorem d_X_addRepair_10 : decode b_X_addRepair 10 = .ok (.aload_n 0, 1) := by decide +kernel
theorem d_X_addRepair_11 : decode b_X_addRepair 11 = .ok (.getfield 52, 3) := by decide +kernel
theorem d_X_addRepair_14 : decode b_X_addRepair 14 = .ok (.aload_n 0, 1) := by decide +kernel
theorem d_X_addRepair_15 : decode b_X_addRepair 15 = .ok (.getfield 55, 3) := by decide +kernel
theorem d_X_addRepair_18 : decode b_X_addRepair 18 = .ok (.iload_n 1, 1) := by decide +kernel
theorem d_X_addRepair_19 : decode b_X_addRepair 19 = .ok (.iastore, 1) := by decide +kernel
theorem d_X_addRepair_20 : decode b_X_addRepair 20 = .ok (.aload_n 0, 1) := by decide +kernel
theorem d_X_addRepair_21 : decode b_X_addRepair 21 = .ok (.dup, 1) := by decide +kernel
theorem d_X_addRepair_22 : decode b_X_addRepair 22 = .ok (.getfield 55, 3) := by decide +kernel
theorem d_X_addRepair_25 : decode b_X_addRepair 25 = .ok (.iconst 1, 1) := by decide +kernel
theorem d_X_addRepair_26 : decode b_X_addRepair 26 = .ok (.iadd, 1) := by decide +kernel
theorem d_X_addRepair_27 : decode b_X_addRepair 27 = .ok (.putfield 55, 3) := by decide +kernel
theorem d_X_addRepair_30 : decode b_X_addRepair 30 = .ok (.return_, 1) := by decide +kernel
theorem d_X_collectFullGrown_0 : decode b_X_collectFullGrown 0 = .ok (.iconst 0, 1) := by decide +kernel
theorem d_X_collectFullGrown_1 : decode b_X_collectFullGrown 1 = .ok (.istore_n 1, 1) := by decide +kernel
theorem d_X_collectFullGrown_2 : decode b_X_collectFullGrown 2 = .ok (.iload_n 1, 1) := by decide +kernel
theorem d_X_collectFullGrown_3 : decode b_X_collectFullGrown 3 = .ok (.aload_n 0, 1) := by decide +kernel
theorem d_X_collectFullGrown_4 : decode b_X_collectFullGrown 4 = .ok (.getfield 9, 3) := by decide +kernel
theorem d_X_collectFullGrown_7 : decode b_X_collectFullGrown 7 = .ok (.if_icmp .ge 20, 3) := by decide +kernel
theorem d_X_collectFullGrown_10 : decode b_X_collectFullGrown 10 = .ok (.aload_n 0, 1) := by decide +kernel
theorem d_X_collectFullGrown_11 : decode b_X_collectFullGrown 11 = .ok (.getfield 49, 3) := by decide +kernel
theorem d_X_collectFullGrown_14 : decode b_X_collectFullGrown 14 = .ok (.iload_n 1, 1) := by decide +kernel
theorem d_X_collectFullGrown_15 : decode b_X_collectFullGrown 15 = .ok (.aload_n 0, 1) := by decide +kernel
theorem d_X_collectFullGrown_16 : decode b_X_collectFullGrown 16 = .ok (.iload_n 1, 1) := by decide +kernel
theorem d_X_collectFullGrown_17 : decode b_X_collectFullGrown 17 = .ok (.invokevirtual 140, 3) := by decide +kernel
theorem d_X_collectFullGrown_20 : decode b_X_collectFullGrown 20 = .ok (.iastore, 1) := by decide +kernel
theorem d_X_collectFullGrown_21 : decode b_X_collectFullGrown 21 = .ok (.iinc 1 1, 3) := by decide +kernel
theorem d_X_collectFullGrown_24 : decode b_X_collectFullGrown 24 = .ok (.goto (-22), 3) := by decide +kernel
theorem d_X_collectFullGrown_27 : decode b_X_collectFullGrown 27 = .ok (.aload_n 0, 1) := by decide +kernel
theorem d_X_collectFullGrown_28 : decode b_X_collectFullGrown 28 = .ok (.invokevirtual 105, 3) := by decide +kernel
theorem d_X_collectFullGrown_31 : decode b_X_collectFullGrown 31 = .ok (.istore_n 1, 1) := by decide +kernel
theorem d_X_collectFullGrown_32 : decode b_X_collectFullGrown 32 = .ok (.iconst 0, 1) := by decide +kernel
theorem d_X_collectFullGrown_33 : decode b_X_collectFullGrown 33 = .ok (.istore_n 2, 1) := by decide +kernel
theorem d_X_collectFullGrown_34 : decode b_X_collectFullGrown 34 = .ok (.iload_n 2, 1) := by decide +kernel
theorem d_X_collectFullGrown_35 : decode b_X_collectFullGrown 35 = .ok (.iload_n 1, 1) := by decide +kernel
theorem d_X_collectFullGrown_36 : decode b_X_collectFullGrown 36 = .ok (.if_icmp .ge 30, 3) := by decide +kernel
theorem d_X_collectFullGrown_39 : decode b_X_collectFullGrown 39 = .ok (.aload_n 0, 1) := by decide +kernel
theorem d_X_collectFullGrown_40 : decode b_X_collectFullGrown 40 = .ok (.iload_n 2, 1) := by decide +kernel
theorem d_X_collectFullGrown_41 : decode b_X_collectFullGrown 41 = .ok (.invokevirtual 143, 3) := by decide +kernel
theorem d_X_collectFullGrown_44 : decode b_X_collectFullGrown 44 = .ok (.ifCond .eq 16, 3) := by decide +kernel
theorem d_X_collectFullGrown_47 : decode b_X_collectFullGrown 47 = .ok (.aload_n 0, 1) := by decide +kernel
theorem d_X_collectFullGrown_48 : decode b_X_collectFullGrown 48 = .ok (.iload_n 2, 1) := by decide +kernel
theorem d_X_collectFullGrown_49 : decode b_X_collectFullGrown 49 = .ok (.invokevirtual 146, 3) := by decide +kernel
theorem d_X_collectFullGrown_52 : decode b_X_collectFullGrown 52 = .ok (.ifCond .ne 8, 3) := by decide +kernel
theorem d_X_collectFullGrown_55 : decode b_X_collectFullGrown 55 = .ok (.aload_n 0, 1) := by decide +kernel
theorem d_X_collectFullGrown_56 : decode b_X_collectFullGrown 56 = .ok (.iload_n 2, 1) := by decide +kernel
theorem d_X_collectFullGrown_57 : decode b_X_collectFullGrown 57 = .ok (.invokevirtual 149, 3) := by decide +kernel
theorem d_X_collectFullGrown_60 : decode b_X_collectFullGrown 60 = .ok (.iinc 2 1, 3) := by decide +kernel
theorem d_X_collectFullGrown_63 : decode b_X_collectFullGrown 63 = .ok (.goto (-29), 3) := by decide +kernel
theorem d_X_collectFullGrown_66 : decode b_X_collectFullGrown 66 = .ok (.return_, 1) := by decide +kernel
theorem d_X_companyOf_0 : decode b_X_companyOf 0 = .ok (.aload_n 0, 1) := by decide +kernel
theorem d_X_companyOf_1 : decode b_X_companyOf 1 = .ok (.getfield 38, 3) := by decide +kernel
theorem d_X_companyOf_4 : decode b_X_companyOf 4 = .ok (.ifCond .ne 8, 3) := by decide +kernel
theorem d_X_companyOf_7 : decode b_X_companyOf 7 = .ok (.aload_n 0, 1) := by decide +kernel
theorem d_X_companyOf_8 : decode b_X_companyOf 8 = .ok (.invokevirtual 94, 3) := by decide +kernel
theorem d_X_companyOf_11 : decode b_X_companyOf 11 = .ok (.ireturn, 1) := by decide +kernel
theorem d_X_companyOf_12 : decode b_X_companyOf 12 = .ok (.aload_n 0, 1) := by decide +kernel
theorem d_X_companyOf_13 : decode b_X_companyOf 13 = .ok (.getfield 13, 3) := by decide +kernel
theorem d_X_companyOf_16 : decode b_X_companyOf 16 = .ok (.aload_n 0, 1) := by decide +kernel
theorem d_X_companyOf_17 : decode b_X_companyOf 17 = .ok (.iconst 0, 1) := by decide +kernel
theorem d_X_companyOf_18 : decode b_X_companyOf 18 = .ok (.aload_n 0, 1) := by decide +kernel
theorem d_X_companyOf_19 : decode b_X_companyOf 19 = .ok (.getfield 16, 3) := by decide +kernel
theorem d_X_companyOf_22 : decode b_X_companyOf 22 = .ok (.iload_n 1, 1) := by decide +kernel
theorem d_X_companyOf_23 : decode b_X_companyOf 23 = .ok (.iaload, 1) := by decide +kernel
theorem d_X_companyOf_24 : decode b_X_companyOf 24 = .ok (.invokevirtual 121, 3) := by decide +kernel
theorem d_X_companyOf_27 : decode b_X_companyOf 27 = .ok (.ior, 1) := by decide +kernel
theorem d_X_companyOf_28 : decode b_X_companyOf 28 = .ok (.ireturn, 1) := by decide +kernel
theorem d_X_canGrow_0 : decode b_X_canGrow 0 = .ok (.iconst 0, 1) := by decide +kernel
theorem d_X_canGrow_1 : decode b_X_canGrow 1 = .ok (.istore_n 2, 1) := by decide +kernel
theorem d_X_canGrow_2 : decode b_X_canGrow 2 = .ok (.iload_n 2, 1) := by decide +kernel
theorem d_X_canGrow_3 : decode b_X_canGrow 3 = .ok (.aload_n 0, 1) := by decide +kernel
theorem d_X_canGrow_4 : decode b_X_canGrow 4 = .ok (.getfield 9, 3) := by decide +kernel
theorem d_X_canGrow_7 : decode b_X_canGrow 7 = .ok (.if_icmp .ge 39, 3) := by decide +kernel
theorem d_X_canGrow_10 : decode b_X_canGrow 10 = .ok (.iconst 1, 1) := by decide +kernel
theorem d_X_canGrow_11 : decode b_X_canGrow 11 = .ok (.iload_n 2, 1) := by decide +kernel
theorem d_X_canGrow_12 : decode b_X_canGrow 12 = .ok (.ishl, 1) := by decide +kernel
theorem d_X_canGrow_13 : decode b_X_canGrow 13 = .ok (.istore_n 3, 1) := by decide +kernel
theorem d_X_canGrow_14 : decode b_X_canGrow 14 = .ok (.iload_n 1, 1) := by decide +kernel
theorem d_X_canGrow_15 : decode b_X_canGrow 15 = .ok (.iload_n 3, 1) := by decide +kernel
theorem d_X_canGrow_16 : decode b_X_canGrow 16 = .ok (.iand, 1) := by decide +kernel
theorem d_X_canGrow_17 : decode b_X_canGrow 17 = .ok (.ifCond .ne 23, 3) := by decide +kernel
theorem d_X_canGrow_20 : decode b_X_canGrow 20 = .ok (.aload_n 0, 1) := by decide +kernel
theorem d_X_canGrow_21 : decode b_X_canGrow 21 = .ok (.getfield 45, 3) := by decide +kernel
theorem d_X_canGrow_24 : decode b_X_canGrow 24 = .ok (.iload_n 1, 1) := by decide +kernel
theorem d_X_canGrow_25 : decode b_X_canGrow 25 = .ok (.aload_n 0, 1) := by decide +kernel
theorem d_X_canGrow_26 : decode b_X_canGrow 26 = .ok (.getfield 49, 3) := by decide +kernel
theorem d_X_canGrow_29 : decode b_X_canGrow 29 = .ok (.iload_n 2, 1) := by decide +kernel
theorem d_X_canGrow_30 : decode b_X_canGrow 30 = .ok (.iaload, 1) := by decide +kernel
theorem d_X_canGrow_31 : decode b_X_canGrow 31 = .ok (.iand, 1) := by decide +kernel
theorem d_X_canGrow_32 : decode b_X_canGrow 32 = .ok (.iload_n 3, 1) := by decide +kernel
theorem d_X_canGrow_33 : decode b_X_canGrow 33 = .ok (.ior, 1) := by decide +kernel
theorem d_X_canGrow_34 : decode b_X_canGrow 34 = .ok (.baload, 1) := by decide +kernel
theorem d_X_canGrow_35 : decode b_X_canGrow 35 = .ok (.ifCond .ne 5, 3) := by decide +kernel
theorem d_X_canGrow_38 : decode b_X_canGrow 38 = .ok (.iconst 1, 1) := by decide +kernel
theorem d_X_canGrow_39 : decode b_X_canGrow 39 = .ok (.ireturn, 1) := by decide +kernel
theorem d_X_canGrow_40 : decode b_X_canGrow 40 = .ok (.iinc 2 1, 3) := by decide +kernel
theorem d_X_canGrow_43 : decode b_X_canGrow 43 = .ok (.goto (-41), 3) := by decide +kernel
theorem d_X_canGrow_46 : decode b_X_canGrow 46 = .ok (.iconst 0, 1) := by decide +kernel
theorem d_X_canGrow_47 : decode b_X_canGrow 47 = .ok (.ireturn, 1) := by decide +kernel
theorem d_X_collectWorthiest_0 : decode b_X_collectWorthiest 0 = .ok (.aload_n 0, 1) := by decide +kernel
theorem d_X_collectWorthiest_1 : decode b_X_collectWorthiest 1 = .ok (.invokevirtual 105, 3) := by decide +kernel
theorem d_X_collectWorthiest_4 : decode b_X_collectWorthiest 4 = .ok (.istore_n 1, 1) := by decide +kernel
theorem d_X_collectWorthiest_5 : decode b_X_collectWorthiest 5 = .ok (.ldc2_w 153, 3) := by decide +kernel
theorem d_X_collectWorthiest_8 : decode b_X_collectWorthiest 8 = .ok (.lstore_n 2, 1) := by decide +kernel
theorem d_X_collectWorthiest_9 : decode b_X_collectWorthiest 9 = .ok (.iconst 0, 1) := by decide +kernel
theorem d_X_collectWorthiest_10 : decode b_X_collectWorthiest 10 = .ok (.istore 4, 2) := by decide +kernel
theorem d_X_collectWorthiest_12 : decode b_X_collectWorthiest 12 = .ok (.iload 4, 2) := by decide +kernel
theorem d_X_collectWorthiest_14 : decode b_X_collectWorthiest 14 = .ok (.iload_n 1, 1) := by decide +kernel
theorem d_X_collectWorthiest_15 : decode b_X_collectWorthiest 15 = .ok (.if_icmp .ge 58, 3) := by decide +kernel
theorem d_X_collectWorthiest_18 : decode b_X_collectWorthiest 18 = .ok (.aload_n 0, 1) := by decide +kernel
theorem d_X_collectWorthiest_19 : decode b_X_collectWorthiest 19 = .ok (.iload 4, 2) := by decide +kernel
theorem d_X_collectWorthiest_21 : decode b_X_collectWorthiest 21 = .ok (.invokevirtual 143, 3) := by decide +kernel
theorem d_X_collectWorthiest_24 : decode b_X_collectWorthiest 24 = .ok (.ifCond .eq 43, 3) := by decide +kernel
theorem d_X_collectWorthiest_27 : decode b_X_collectWorthiest 27 = .ok (.aload_n 0, 1) := by decide +kernel
theorem d_X_collectWorthiest_28 : decode b_X_collectWorthiest 28 = .ok (.iload 4, 2) := by decide +kernel
theorem d_X_collectWorthiest_30 : decode b_X_collectWorthiest 30 = .ok (.aload_n 0, 1) := by decide +kernel
theorem d_X_collectWorthiest_31 : decode b_X_collectWorthiest 31 = .ok (.getfield 38, 3) := by decide +kernel
theorem d_X_collectWorthiest_34 : decode b_X_collectWorthiest 34 = .ok (.invokevirtual 114, 3) := by decide +kernel
theorem d_X_collectWorthiest_37 : decode b_X_collectWorthiest 37 = .ok (.lstore 5, 2) := by decide +kernel
theorem d_X_collectWorthiest_39 : decode b_X_collectWorthiest 39 = .ok (.lload 5, 2) := by decide +kernel
theorem d_X_collectWorthiest_41 : decode b_X_collectWorthiest 41 = .ok (.lload_n 2, 1) := by decide +kernel
theorem d_X_collectWorthiest_42 : decode b_X_collectWorthiest 42 = .ok (.lcmp, 1) := by decide +kernel
theorem d_X_collectWorthiest_43 : decode b_X_collectWorthiest 43 = .ok (.ifCond .le 11, 3) := by decide +kernel
theorem d_X_collectWorthiest_46 : decode b_X_collectWorthiest 46 = .ok (.lload 5, 2) := by decide +kernel
theorem d_X_collectWorthiest_48 : decode b_X_collectWorthiest 48 = .ok (.lstore_n 2, 1) := by decide +kernel
theorem d_X_collectWorthiest_49 : decode b_X_collectWorthiest 49 = .ok (.aload_n 0, 1) := by decide +kernel
theorem d_X_collectWorthiest_50 : decode b_X_collectWorthiest 50 = .ok (.iconst 0, 1) := by decide +kernel
theorem d_X_collectWorthiest_51 : decode b_X_collectWorthiest 51 = .ok (.putfield 55, 3) := by decide +kernel
theorem d_X_collectWorthiest_54 : decode b_X_collectWorthiest 54 = .ok (.lload 5, 2) := by decide +kernel
theorem d_X_collectWorthiest_56 : decode b_X_collectWorthiest 56 = .ok (.lload_n 2, 1) := by decide +kernel
theorem d_X_collectWorthiest_57 : decode b_X_collectWorthiest 57 = .ok (.lcmp, 1) := by decide +kernel
theorem d_X_collectWorthiest_58 : decode b_X_collectWorthiest 58 = .ok (.ifCond .ne 9, 3) := by decide +kernel
theorem d_X_collectWorthiest_61 : decode b_X_collectWorthiest 61 = .ok (.aload_n 0, 1) := by decide +kernel
theorem d_X_collectWorthiest_62 : decode b_X_collectWorthiest 62 = .ok (.iload 4, 2) := by decide +kernel
theorem d_X_collectWorthiest_64 : decode b_X_collectWorthiest 64 = .ok (.invokevirtual 149, 3) := by decide +kernel
theorem d_X_collectWorthiest_67 : decode b_X_collectWorthiest 67 = .ok (.iinc 4 1, 3) := by decide +kernel
theorem d_X_collectWorthiest_70 : decode b_X_collectWorthiest 70 = .ok (.goto (-58), 3) := by decide +kernel
theorem d_X_collectWorthiest_73 : decode b_X_collectWorthiest 73 = .ok (.return_, 1) := by decide +kernel
end
section
theorem d_Y_init_0 : decode b_Y_init 0 = .ok (.aload_n 0, 1) := by decide +kernel
theorem d_Y_init_1 : decode b_Y_init 1 = .ok (.invokespecial 1, 3) := by decide +kernel
theorem d_Y_init_4 : decode b_Y_init 4 = .ok (.aload_n 0, 1) := by decide +kernel
theorem d_Y_init_5 : decode b_Y_init 5 = .ok (.bipush 11, 2) := by decide +kernel
theorem d_Y_init_7 : decode b_Y_init 7 = .ok (.newarray .boolean, 2) := by decide +kernel
theorem d_Y_init_9 : decode b_Y_init 9 = .ok (.putfield 7, 3) := by decide +kernel
theorem d_Y_init_12 : decode b_Y_init 12 = .ok (.aload_n 0, 1) := by decide +kernel
theorem d_Y_init_13 : decode b_Y_init 13 = .ok (.bipush 11, 2) := by decide +kernel
theorem d_Y_init_15 : decode b_Y_init 15 = .ok (.newarray .int, 2) := by decide +kernel
theorem d_Y_init_17 : decode b_Y_init 17 = .ok (.putfield 13, 3) := by decide +kernel
theorem d_Y_init_20 : decode b_Y_init 20 = .ok (.aload_n 0, 1) := by decide +kernel
theorem d_Y_init_21 : decode b_Y_init 21 = .ok (.bipush 11, 2) := by decide +kernel
theorem d_Y_init_23 : decode b_Y_init 23 = .ok (.newarray .int, 2) := by decide +kernel
theorem d_Y_init_25 : decode b_Y_init 25 = .ok (.putfield 17, 3) := by decide +kernel
theorem d_Y_init_28 : decode b_Y_init 28 = .ok (.aload_n 0, 1) := by decide +kernel
theorem d_Y_init_29 : decode b_Y_init 29 = .ok (.bipush 40, 2) := by decide +kernel
theorem d_Y_init_31 : decode b_Y_init 31 = .ok (.newarray .int, 2) := by decide +kernel
theorem d_Y_init_33 : decode b_Y_init 33 = .ok (.putfield 20, 3) := by decide +kernel
theorem d_Y_init_36 : decode b_Y_init 36 = .ok (.aload_n 0, 1) := by decide +kernel
theorem d_Y_init_37 : decode b_Y_init 37 = .ok (.bipush 20, 2) := by decide +kernel
theorem d_Y_init_39 : decode b_Y_init 39 = .ok (.newarray .int, 2) := by decide +kernel
theorem d_Y_init_41 : decode b_Y_init 41 = .ok (.putfield 23, 3) := by decide +kernel
theorem d_Y_init_44 : decode b_Y_init 44 = .ok (.aload_n 0, 1) := by decide +kernel
theorem d_Y_init_45 : decode b_Y_init 45 = .ok (.bipush 20, 2) := by decide +kernel
theorem d_Y_init_47 : decode b_Y_init 47 = .ok (.newarray .int, 2) := by decide +kernel
theorem d_Y_init_49 : decode b_Y_init 49 = .ok (.putfield 26, 3) := by decide +kernel
theorem d_Y_init_52 : decode b_Y_init 52 = .ok (.aload_n 0, 1) := by decide +kernel
theorem d_Y_init_53 : decode b_Y_init 53 = .ok (.sipush 2048, 3) := by decide +kernel
theorem d_Y_init_56 : decode b_Y_init 56 = .ok (.newarray .boolean, 2) := by decide +kernel
theorem d_Y_init_58 : decode b_Y_init 58 = .ok (.putfield 29, 3) := by decide +kernel
theorem d_Y_init_61 : decode b_Y_init 61 = .ok (.aload_n 0, 1) := by decide +kernel
theorem d_Y_init_62 : decode b_Y_init 62 = .ok (.sipush 2048, 3) := by decide +kernel
theorem d_Y_init_65 : decode b_Y_init 65 = .ok (.newarray .int, 2) := by decide +kernel
theorem d_Y_init_67 : decode b_Y_init 67 = .ok (.putfield 32, 3) := by decide +kernel
theorem d_Y_init_70 : decode b_Y_init 70 = .ok (.return_, 1) := by decide +kernel
theorem d_Y_isStatement_0 : decode b_Y_isStatement 0 = .ok (.iload_n 1, 1) := by decide +kernel
theorem d_Y_isStatement_1 : decode b_Y_isStatement 1 = .ok (.ifCond .lt 15, 3) := by decide +kernel
theorem d_Y_isStatement_4 : decode b_Y_isStatement 4 = .ok (.iload_n 1, 1) := by decide +kernel
theorem d_Y_isStatement_5 : decode b_Y_isStatement 5 = .ok (.aload_n 0, 1) := by decide +kernel
theorem d_Y_isStatement_6 : decode b_Y_isStatement 6 = .ok (.getfield 35, 3) := by decide +kernel
theorem d_Y_isStatement_9 : decode b_Y_isStatement 9 = .ok (.if_icmp .ge 7, 3) := by decide +kernel
theorem d_Y_isStatement_12 : decode b_Y_isStatement 12 = .ok (.iconst 1, 1) := by decide +kernel
theorem d_Y_isStatement_13 : decode b_Y_isStatement 13 = .ok (.goto 4, 3) := by decide +kernel
theorem d_Y_isStatement_16 : decode b_Y_isStatement 16 = .ok (.iconst 0, 1) := by decide +kernel
theorem d_Y_isStatement_17 : decode b_Y_isStatement 17 = .ok (.ireturn, 1) := by decide +kernel
theorem d_Y_areGood_0 : decode b_Y_areGood 0 = .ok (.iload_n 0, 1) := by decide +kernel
theorem d_Y_areGood_1 : decode b_Y_areGood 1 = .ok (.ifCond .lt 24, 3) := by decide +kernel
theorem d_Y_areGood_4 : decode b_Y_areGood 4 = .ok (.iload_n 0, 1) := by decide +kernel
theorem d_Y_areGood_5 : decode b_Y_areGood 5 = .ok (.bipush 8, 2) := by decide +kernel
theorem d_Y_areGood_7 : decode b_Y_areGood 7 = .ok (.if_icmp .ge 18, 3) := by decide +kernel
theorem d_Y_areGood_10 : decode b_Y_areGood 10 = .ok (.iload_n 1, 1) := by decide +kernel
theorem d_Y_areGood_11 : decode b_Y_areGood 11 = .ok (.ifCond .le 14, 3) := by decide +kernel
theorem d_Y_areGood_14 : decode b_Y_areGood 14 = .ok (.iload_n 1, 1) := by decide +kernel
theorem d_Y_areGood_15 : decode b_Y_areGood 15 = .ok (.sipush 1000, 3) := by decide +kernel
theorem d_Y_areGood_18 : decode b_Y_areGood 18 = .ok (.if_icmp .gt 7, 3) := by decide +kernel
theorem d_Y_areGood_21 : decode b_Y_areGood 21 = .ok (.iconst 1, 1) := by decide +kernel
theorem d_Y_areGood_22 : decode b_Y_areGood 22 = .ok (.goto 4, 3) := by decide +kernel
theorem d_Y_areGood_25 : decode b_Y_areGood 25 = .ok (.iconst 0, 1) := by decide +kernel
theorem d_Y_areGood_26 : decode b_Y_areGood 26 = .ok (.ireturn, 1) := by decide +kernel
theorem d_Y_fact_0 : decode b_Y_fact 0 = .ok (.iload_n 2, 1) := by decide +kernel
theorem d_Y_fact_1 : decode b_Y_fact 1 = .ok (.iload_n 3, 1) := by decide +kernel
theorem d_Y_fact_2 : decode b_Y_fact 2 = .ok (.invokestatic 39, 3) := by decide +kernel
theorem d_Y_fact_5 : decode b_Y_fact 5 = .ok (.ifCond .ne 5, 3) := by decide +kernel
theorem d_Y_fact_8 : decode b_Y_fact 8 = .ok (.iconst (-1), 1) := by decide +kernel
theorem d_Y_fact_9 : decode b_Y_fact 9 = .ok (.ireturn, 1) := by decide +kernel
theorem d_Y_fact_10 : decode b_Y_fact 10 = .ok (.aload_n 0, 1) := by decide +kernel
theorem d_Y_fact_11 : decode b_Y_fact 11 = .ok (.getfield 35, 3) := by decide +kernel
theorem d_Y_fact_14 : decode b_Y_fact 14 = .ok (.bipush 11, 2) := by decide +kernel
theorem d_Y_fact_16 : decode b_Y_fact 16 = .ok (.if_icmp .ne 6, 3) := by decide +kernel
theorem d_Y_fact_19 : decode b_Y_fact 19 = .ok (.bipush (-3), 2) := by decide +kernel
theorem d_Y_fact_21 : decode b_Y_fact 21 = .ok (.ireturn, 1) := by decide +kernel
theorem d_Y_fact_22 : decode b_Y_fact 22 = .ok (.aload_n 0, 1) := by decide +kernel
theorem d_Y_fact_23 : decode b_Y_fact 23 = .ok (.getfield 7, 3) := by decide +kernel
theorem d_Y_fact_26 : decode b_Y_fact 26 = .ok (.aload_n 0, 1) := by decide +kernel
theorem d_Y_fact_27 : decode b_Y_fact 27 = .ok (.getfield 35, 3) := by decide +kernel
theorem d_Y_fact_30 : decode b_Y_fact 30 = .ok (.iload_n 1, 1) := by decide +kernel
theorem d_Y_fact_31 : decode b_Y_fact 31 = .ok (.bastore, 1) := by decide +kernel
theorem d_Y_fact_32 : decode b_Y_fact 32 = .ok (.aload_n 0, 1) := by decide +kernel
theorem d_Y_fact_33 : decode b_Y_fact 33 = .ok (.getfield 13, 3) := by decide +kernel
theorem d_Y_fact_36 : decode b_Y_fact 36 = .ok (.aload_n 0, 1) := by decide +kernel
theorem d_Y_fact_37 : decode b_Y_fact 37 = .ok (.getfield 35, 3) := by decide +kernel
theorem d_Y_fact_40 : decode b_Y_fact 40 = .ok (.iload_n 2, 1) := by decide +kernel
theorem d_Y_fact_41 : decode b_Y_fact 41 = .ok (.iastore, 1) := by decide +kernel
theorem d_Y_fact_42 : decode b_Y_fact 42 = .ok (.aload_n 0, 1) := by decide +kernel
theorem d_Y_fact_43 : decode b_Y_fact 43 = .ok (.getfield 17, 3) := by decide +kernel
theorem d_Y_fact_46 : decode b_Y_fact 46 = .ok (.aload_n 0, 1) := by decide +kernel
theorem d_Y_fact_47 : decode b_Y_fact 47 = .ok (.getfield 35, 3) := by decide +kernel
theorem d_Y_fact_50 : decode b_Y_fact 50 = .ok (.iload_n 3, 1) := by decide +kernel
theorem d_Y_fact_51 : decode b_Y_fact 51 = .ok (.iastore, 1) := by decide +kernel
theorem d_Y_fact_52 : decode b_Y_fact 52 = .ok (.aload_n 0, 1) := by decide +kernel
theorem d_Y_fact_53 : decode b_Y_fact 53 = .ok (.dup, 1) := by decide +kernel
theorem d_Y_fact_54 : decode b_Y_fact 54 = .ok (.getfield 35, 3) := by decide +kernel
theorem d_Y_fact_57 : decode b_Y_fact 57 = .ok (.iconst 1, 1) := by decide +kernel
theorem d_Y_fact_58 : decode b_Y_fact 58 = .ok (.iadd, 1) := by decide +kernel
theorem d_Y_fact_59 : decode b_Y_fact 59 = .ok (.putfield 35, 3) := by decide +kernel
theorem d_Y_fact_62 : decode b_Y_fact 62 = .ok (.aload_n 0, 1) := by decide +kernel
theorem d_Y_fact_63 : decode b_Y_fact 63 = .ok (.iconst 0, 1) := by decide +kernel
theorem d_Y_fact_64 : decode b_Y_fact 64 = .ok (.putfield 43, 3) := by decide +kernel
theorem d_Y_fact_67 : decode b_Y_fact 67 = .ok (.aload_n 0, 1) := by decide +kernel
theorem d_Y_fact_68 : decode b_Y_fact 68 = .ok (.getfield 35, 3) := by decide +kernel
theorem d_Y_fact_71 : decode b_Y_fact 71 = .ok (.iconst 1, 1) := by decide +kernel
theorem d_Y_fact_72 : decode b_Y_fact 72 = .ok (.isub, 1) := by decide +kernel
theorem d_Y_fact_73 : decode b_Y_fact 73 = .ok (.ireturn, 1) := by decide +kernel
theorem d_Y_harden_0 : decode b_Y_harden 0 = .ok (.aload_n 0, 1) := by decide +kernel
theorem d_Y_harden_1 : decode b_Y_harden 1 = .ok (.iload_n 1, 1) := by decide +kernel
theorem d_Y_harden_2 : decode b_Y_harden 2 = .ok (.invokevirtual 47, 3) := by decide +kernel
theorem d_Y_harden_5 : decode b_Y_harden 5 = .ok (.ifCond .ne 5, 3) := by decide +kernel
theorem d_Y_harden_8 : decode b_Y_harden 8 = .ok (.iconst (-1), 1) := by decide +kernel
theorem d_Y_harden_9 : decode b_Y_harden 9 = .ok (.ireturn, 1) := by decide +kernel
theorem d_Y_harden_10 : decode b_Y_harden 10 = .ok (.aload_n 0, 1) := by decide +kernel
theorem d_Y_harden_11 : decode b_Y_harden 11 = .ok (.getfield 7, 3) := by decide +kernel
theorem d_Y_harden_14 : decode b_Y_harden 14 = .ok (.iload_n 1, 1) := by decide +kernel
theorem d_Y_harden_15 : decode b_Y_harden 15 = .ok (.baload, 1) := by decide +kernel
theorem d_Y_harden_16 : decode b_Y_harden 16 = .ok (.iload_n 2, 1) := by decide +kernel
theorem d_Y_harden_17 : decode b_Y_harden 17 = .ok (.if_icmp .ne 7, 3) := by decide +kernel
theorem d_Y_harden_20 : decode b_Y_harden 20 = .ok (.iconst 0, 1) := by decide +kernel
theorem d_Y_harden_21 : decode b_Y_harden 21 = .ok (.goto 4, 3) := by decide +kernel
theorem d_Y_harden_24 : decode b_Y_harden 24 = .ok (.iconst 1, 1) := by decide +kernel
theorem d_Y_harden_25 : decode b_Y_harden 25 = .ok (.istore_n 3, 1) := by decide +kernel
theorem d_Y_harden_26 : decode b_Y_harden 26 = .ok (.aload_n 0, 1) := by decide +kernel
theorem d_Y_harden_27 : decode b_Y_harden 27 = .ok (.getfield 7, 3) := by decide +kernel
theorem d_Y_harden_30 : decode b_Y_harden 30 = .ok (.iload_n 1, 1) := by decide +kernel
theorem d_Y_harden_31 : decode b_Y_harden 31 = .ok (.iload_n 2, 1) := by decide +kernel
theorem d_Y_harden_32 : decode b_Y_harden 32 = .ok (.bastore, 1) := by decide +kernel
theorem d_Y_harden_33 : decode b_Y_harden 33 = .ok (.aload_n 0, 1) := by decide +kernel
theorem d_Y_harden_34 : decode b_Y_harden 34 = .ok (.iconst 0, 1) := by decide +kernel
theorem d_Y_harden_35 : decode b_Y_harden 35 = .ok (.putfield 43, 3) := by decide +kernel
theorem d_Y_harden_38 : decode b_Y_harden 38 = .ok (.iload_n 3, 1) := by decide +kernel
theorem d_Y_harden_39 : decode b_Y_harden 39 = .ok (.ireturn, 1) := by decide +kernel
theorem d_Y_weight_0 : decode b_Y_weight 0 = .ok (.aload_n 0, 1) := by decide +kernel
theorem d_Y_weight_1 : decode b_Y_weight 1 = .ok (.iload_n 1, 1) := by decide +kernel
theorem d_Y_weight_2 : decode b_Y_weight 2 = .ok (.invokevirtual 47, 3) := by decide +kernel
theorem d_Y_weight_5 : decode b_Y_weight 5 = .ok (.ifCond .eq 11, 3) := by decide +kernel
theorem d_Y_weight_8 : decode b_Y_weight 8 = .ok (.iload_n 2, 1) := by decide +kernel
theorem d_Y_weight_9 : decode b_Y_weight 9 = .ok (.iload_n 3, 1) := by decide +kernel
theorem d_Y_weight_10 : decode b_Y_weight 10 = .ok (.invokestatic 39, 3) := by decide +kernel
theorem d_Y_weight_13 : decode b_Y_weight 13 = .ok (.ifCond .ne 5, 3) := by decide +kernel
theorem d_Y_weight_16 : decode b_Y_weight 16 = .ok (.iconst (-1), 1) := by decide +kernel
theorem d_Y_weight_17 : decode b_Y_weight 17 = .ok (.ireturn, 1) := by decide +kernel
theorem d_Y_weight_18 : decode b_Y_weight 18 = .ok (.aload_n 0, 1) := by decide +kernel
theorem d_Y_weight_19 : decode b_Y_weight 19 = .ok (.getfield 13, 3) := by decide +kernel
theorem d_Y_weight_22 : decode b_Y_weight 22 = .ok (.iload_n 1, 1) := by decide +kernel
theorem d_Y_weight_23 : decode b_Y_weight 23 = .ok (.iload_n 2, 1) := by decide +kernel
theorem d_Y_weight_24 : decode b_Y_weight 24 = .ok (.iastore, 1) := by decide +kernel
theorem d_Y_weight_25 : decode b_Y_weight 25 = .ok (.aload_n 0, 1) := by decide +kernel
theorem d_Y_weight_26 : decode b_Y_weight 26 = .ok (.getfield 17, 3) := by decide +kernel
theorem d_Y_weight_29 : decode b_Y_weight 29 = .ok (.iload_n 1, 1) := by decide +kernel
theorem d_Y_weight_30 : decode b_Y_weight 30 = .ok (.iload_n 3, 1) := by decide +kernel
theorem d_Y_weight_31 : decode b_Y_weight 31 = .ok (.iastore, 1) := by decide +kernel
theorem d_Y_weight_32 : decode b_Y_weight 32 = .ok (.aload_n 0, 1) := by decide +kernel
theorem d_Y_weight_33 : decode b_Y_weight 33 = .ok (.iconst 0, 1) := by decide +kernel
theorem d_Y_weight_34 : decode b_Y_weight 34 = .ok (.putfield 43, 3) := by decide +kernel
theorem d_Y_weight_37 : decode b_Y_weight 37 = .ok (.iconst 1, 1) := by decide +kernel
theorem d_Y_weight_38 : decode b_Y_weight 38 = .ok (.ireturn, 1) := by decide +kernel
theorem d_Y_clash_0 : decode b_Y_clash 0 = .ok (.aload_n 0, 1) := by decide +kernel
theorem d_Y_clash_1 : decode b_Y_clash 1 = .ok (.getfield 51, 3) := by decide +kernel
theorem d_Y_clash_4 : decode b_Y_clash 4 = .ok (.bipush 40, 2) := by decide +kernel
theorem d_Y_clash_6 : decode b_Y_clash 6 = .ok (.if_icmp .ne 6, 3) := by decide +kernel
theorem d_Y_clash_9 : decode b_Y_clash 9 = .ok (.bipush (-3), 2) := by decide +kernel
theorem d_Y_clash_11 : decode b_Y_clash 11 = .ok (.ireturn, 1) := by decide +kernel
theorem d_Y_clash_12 : decode b_Y_clash 12 = .ok (.aload_n 0, 1) := by decide +kernel
theorem d_Y_clash_13 : decode b_Y_clash 13 = .ok (.getfield 20, 3) := by decide +kernel
theorem d_Y_clash_16 : decode b_Y_clash 16 = .ok (.aload_n 0, 1) := by decide +kernel
theorem d_Y_clash_17 : decode b_Y_clash 17 = .ok (.getfield 51, 3) := by decide +kernel
theorem d_Y_clash_20 : decode b_Y_clash 20 = .ok (.iload_n 1, 1) := by decide +kernel
theorem d_Y_clash_21 : decode b_Y_clash 21 = .ok (.sipush 2047, 3) := by decide +kernel
theorem d_Y_clash_24 : decode b_Y_clash 24 = .ok (.iand, 1) := by decide +kernel
theorem d_Y_clash_25 : decode b_Y_clash 25 = .ok (.iastore, 1) := by decide +kernel
theorem d_Y_clash_26 : decode b_Y_clash 26 = .ok (.aload_n 0, 1) := by decide +kernel
theorem d_Y_clash_27 : decode b_Y_clash 27 = .ok (.dup, 1) := by decide +kernel
theorem d_Y_clash_28 : decode b_Y_clash 28 = .ok (.getfield 51, 3) := by decide +kernel
theorem d_Y_clash_31 : decode b_Y_clash 31 = .ok (.iconst 1, 1) := by decide +kernel
theorem d_Y_clash_32 : decode b_Y_clash 32 = .ok (.iadd, 1) := by decide +kernel
theorem d_Y_clash_33 : decode b_Y_clash 33 = .ok (.putfield 51, 3) := by decide +kernel
theorem d_Y_clash_36 : decode b_Y_clash 36 = .ok (.aload_n 0, 1) := by decide +kernel
theorem d_Y_clash_37 : decode b_Y_clash 37 = .ok (.iconst 0, 1) := by decide +kernel
theorem d_Y_clash_38 : decode b_Y_clash 38 = .ok (.putfield 43, 3) := by decide +kernel
theorem d_Y_clash_41 : decode b_Y_clash 41 = .ok (.aload_n 0, 1) := by decide +kernel
theorem d_Y_clash_42 : decode b_Y_clash 42 = .ok (.getfield 51, 3) := by decide +kernel
theorem d_Y_clash_45 : decode b_Y_clash 45 = .ok (.ireturn, 1) := by decide +kernel
theorem d_Y_settle_0 : decode b_Y_settle 0 = .ok (.aload_n 0, 1) := by decide +kernel
theorem d_Y_settle_1 : decode b_Y_settle 1 = .ok (.getfield 51, 3) := by decide +kernel
theorem d_Y_settle_4 : decode b_Y_settle 4 = .ok (.ifCond .ne 6, 3) := by decide +kernel
theorem d_Y_settle_7 : decode b_Y_settle 7 = .ok (.bipush (-2), 2) := by decide +kernel
theorem d_Y_settle_9 : decode b_Y_settle 9 = .ok (.ireturn, 1) := by decide +kernel
theorem d_Y_settle_10 : decode b_Y_settle 10 = .ok (.aload_n 0, 1) := by decide +kernel
theorem d_Y_settle_11 : decode b_Y_settle 11 = .ok (.dup, 1) := by decide +kernel
theorem d_Y_settle_12 : decode b_Y_settle 12 = .ok (.getfield 51, 3) := by decide +kernel
theorem d_Y_settle_15 : decode b_Y_settle 15 = .ok (.iconst 1, 1) := by decide +kernel
theorem d_Y_settle_16 : decode b_Y_settle 16 = .ok (.isub, 1) := by decide +kernel
theorem d_Y_settle_17 : decode b_Y_settle 17 = .ok (.putfield 51, 3) := by decide +kernel
theorem d_Y_settle_20 : decode b_Y_settle 20 = .ok (.aload_n 0, 1) := by decide +kernel
theorem d_Y_settle_21 : decode b_Y_settle 21 = .ok (.iconst 0, 1) := by decide +kernel
theorem d_Y_settle_22 : decode b_Y_settle 22 = .ok (.putfield 43, 3) := by decide +kernel
theorem d_Y_settle_25 : decode b_Y_settle 25 = .ok (.aload_n 0, 1) := by decide +kernel
theorem d_Y_settle_26 : decode b_Y_settle 26 = .ok (.getfield 51, 3) := by decide +kernel
theorem d_Y_settle_29 : decode b_Y_settle 29 = .ok (.ireturn, 1) := by decide +kernel
theorem d_Y_support_0 : decode b_Y_support 0 = .ok (.iload_n 1, 1) := by decide +kernel
theorem d_Y_support_1 : decode b_Y_support 1 = .ok (.ifCond .lt 9, 3) := by decide +kernel
theorem d_Y_support_4 : decode b_Y_support 4 = .ok (.iload_n 1, 1) := by decide +kernel
theorem d_Y_support_5 : decode b_Y_support 5 = .ok (.bipush 8, 2) := by decide +kernel
theorem d_Y_support_7 : decode b_Y_support 7 = .ok (.if_icmp .lt 5, 3) := by decide +kernel
theorem d_Y_support_10 : decode b_Y_support 10 = .ok (.iconst (-1), 1) := by decide +kernel
theorem d_Y_support_11 : decode b_Y_support 11 = .ok (.ireturn, 1) := by decide +kernel
theorem d_Y_support_12 : decode b_Y_support 12 = .ok (.aload_n 0, 1) := by decide +kernel
theorem d_Y_support_13 : decode b_Y_support 13 = .ok (.getfield 54, 3) := by decide +kernel
theorem d_Y_support_16 : decode b_Y_support 16 = .ok (.bipush 20, 2) := by decide +kernel
theorem d_Y_support_18 : decode b_Y_support 18 = .ok (.if_icmp .ne 6, 3) := by decide +kernel
theorem d_Y_support_21 : decode b_Y_support 21 = .ok (.bipush (-3), 2) := by decide +kernel
theorem d_Y_support_23 : decode b_Y_support 23 = .ok (.ireturn, 1) := by decide +kernel
theorem d_Y_support_24 : decode b_Y_support 24 = .ok (.aload_n 0, 1) := by decide +kernel
theorem d_Y_support_25 : decode b_Y_support 25 = .ok (.getfield 23, 3) := by decide +kernel
theorem d_Y_support_28 : decode b_Y_support 28 = .ok (.aload_n 0, 1) := by decide +kernel
theorem d_Y_support_29 : decode b_Y_support 29 = .ok (.getfield 54, 3) := by decide +kernel
theorem d_Y_support_32 : decode b_Y_support 32 = .ok (.iload_n 1, 1) := by decide +kernel
theorem d_Y_support_33 : decode b_Y_support 33 = .ok (.iastore, 1) := by decide +kernel
theorem d_Y_support_34 : decode b_Y_support 34 = .ok (.aload_n 0, 1) := by decide +kernel
theorem d_Y_support_35 : decode b_Y_support 35 = .ok (.getfield 26, 3) := by decide +kernel
theorem d_Y_support_38 : decode b_Y_support 38 = .ok (.aload_n 0, 1) := by decide +kernel
theorem d_Y_support_39 : decode b_Y_support 39 = .ok (.getfield 54, 3) := by decide +kernel
theorem d_Y_support_42 : decode b_Y_support 42 = .ok (.iload_n 2, 1) := by decide +kernel
theorem d_Y_support_43 : decode b_Y_support 43 = .ok (.sipush 2047, 3) := by decide +kernel
theorem d_Y_support_46 : decode b_Y_support 46 = .ok (.iand, 1) := by decide +kernel
theorem d_Y_support_47 : decode b_Y_support 47 = .ok (.iastore, 1) := by decide +kernel
theorem d_Y_support_48 : decode b_Y_support 48 = .ok (.aload_n 0, 1) := by decide +kernel
theorem d_Y_support_49 : decode b_Y_support 49 = .ok (.dup, 1) := by decide +kernel
theorem d_Y_support_50 : decode b_Y_support 50 = .ok (.getfield 54, 3) := by decide +kernel
theorem d_Y_support_53 : decode b_Y_support 53 = .ok (.iconst 1, 1) := by decide +kernel
theorem d_Y_support_54 : decode b_Y_support 54 = .ok (.iadd, 1) := by decide +kernel
theorem d_Y_support_55 : decode b_Y_support 55 = .ok (.putfield 54, 3) := by decide +kernel
theorem d_Y_support_58 : decode b_Y_support 58 = .ok (.iconst 0, 1) := by decide +kernel
theorem d_Y_support_59 : decode b_Y_support 59 = .ok (.istore_n 3, 1) := by decide +kernel
theorem d_Y_support_60 : decode b_Y_support 60 = .ok (.iconst 0, 1) := by decide +kernel
theorem d_Y_support_61 : decode b_Y_support 61 = .ok (.istore 4, 2) := by decide +kernel
theorem d_Y_support_63 : decode b_Y_support 63 = .ok (.iload 4, 2) := by decide +kernel
theorem d_Y_support_65 : decode b_Y_support 65 = .ok (.aload_n 0, 1) := by decide +kernel
theorem d_Y_support_66 : decode b_Y_support 66 = .ok (.getfield 54, 3) := by decide +kernel
theorem d_Y_support_69 : decode b_Y_support 69 = .ok (.if_icmp .ge 28, 3) := by decide +kernel
theorem d_Y_support_72 : decode b_Y_support 72 = .ok (.iload_n 3, 1) := by decide +kernel
theorem d_Y_support_73 : decode b_Y_support 73 = .ok (.aload_n 0, 1) := by decide +kernel
theorem d_Y_support_74 : decode b_Y_support 74 = .ok (.getfield 23, 3) := by decide +kernel
theorem d_Y_support_77 : decode b_Y_support 77 = .ok (.iload 4, 2) := by decide +kernel
theorem d_Y_support_79 : decode b_Y_support 79 = .ok (.iaload, 1) := by decide +kernel
theorem d_Y_support_80 : decode b_Y_support 80 = .ok (.iload_n 1, 1) := by decide +kernel
theorem d_Y_support_81 : decode b_Y_support 81 = .ok (.if_icmp .ne 7, 3) := by decide +kernel
theorem d_Y_support_84 : decode b_Y_support 84 = .ok (.iconst 1, 1) := by decide +kernel
theorem d_Y_support_85 : decode b_Y_support 85 = .ok (.goto 4, 3) := by decide +kernel
theorem d_Y_support_88 : decode b_Y_support 88 = .ok (.iconst 0, 1) := by decide +kernel
theorem d_Y_support_89 : decode b_Y_support 89 = .ok (.iadd, 1) := by decide +kernel
theorem d_Y_support_90 : decode b_Y_support 90 = .ok (.istore_n 3, 1) := by decide +kernel
theorem d_Y_support_91 : decode b_Y_support 91 = .ok (.iinc 4 1, 3) := by decide +kernel
theorem d_Y_support_94 : decode b_Y_support 94 = .ok (.goto (-31), 3) := by decide +kernel
theorem d_Y_support_97 : decode b_Y_support 97 = .ok (.iload_n 3, 1) := by decide +kernel
theorem d_Y_support_98 : decode b_Y_support 98 = .ok (.ireturn, 1) := by decide +kernel
theorem d_Y_order_0 : decode b_Y_order 0 = .ok (.iload_n 1, 1) := by decide +kernel
theorem d_Y_order_1 : decode b_Y_order 1 = .ok (.ifCond .lt 8, 3) := by decide +kernel
theorem d_Y_order_4 : decode b_Y_order 4 = .ok (.iload_n 1, 1) := by decide +kernel
theorem d_Y_order_5 : decode b_Y_order 5 = .ok (.iconst 3, 1) := by decide +kernel
theorem d_Y_order_6 : decode b_Y_order 6 = .ok (.if_icmp .le 5, 3) := by decide +kernel
theorem d_Y_order_9 : decode b_Y_order 9 = .ok (.iconst (-1), 1) := by decide +kernel
theorem d_Y_order_10 : decode b_Y_order 10 = .ok (.ireturn, 1) := by decide +kernel
theorem d_Y_order_11 : decode b_Y_order 11 = .ok (.aload_n 0, 1) := by decide +kernel
theorem d_Y_order_12 : decode b_Y_order 12 = .ok (.iload_n 1, 1) := by decide +kernel
theorem d_Y_order_13 : decode b_Y_order 13 = .ok (.putfield 57, 3) := by decide +kernel
theorem d_Y_order_16 : decode b_Y_order 16 = .ok (.aload_n 0, 1) := by decide +kernel
theorem d_Y_order_17 : decode b_Y_order 17 = .ok (.iconst 0, 1) := by decide +kernel
theorem d_Y_order_18 : decode b_Y_order 18 = .ok (.putfield 43, 3) := by decide +kernel
theorem d_Y_order_21 : decode b_Y_order 21 = .ok (.iconst 1, 1) := by decide +kernel
theorem d_Y_order_22 : decode b_Y_order 22 = .ok (.ireturn, 1) := by decide +kernel
theorem d_Y_has_0 : decode b_Y_has 0 = .ok (.iload_n 0, 1) := by decide +kernel
theorem d_Y_has_1 : decode b_Y_has 1 = .ok (.iload_n 1, 1) := by decide +kernel
theorem d_Y_has_2 : decode b_Y_has 2 = .ok (.ishr, 1) := by decide +kernel
theorem d_Y_has_3 : decode b_Y_has 3 = .ok (.iconst 1, 1) := by decide +kernel
theorem d_Y_has_4 : decode b_Y_has 4 = .ok (.iand, 1) := by decide +kernel
theorem d_Y_has_5 : decode b_Y_has 5 = .ok (.iconst 1, 1) := by decide +kernel
theorem d_Y_has_6 : decode b_Y_has 6 = .ok (.if_icmp .ne 7, 3) := by decide +kernel
theorem d_Y_has_9 : decode b_Y_has 9 = .ok (.iconst 1, 1) := by decide +kernel
theorem d_Y_has_10 : decode b_Y_has 10 = .ok (.goto 4, 3) := by decide +kernel
theorem d_Y_has_13 : decode b_Y_has 13 = .ok (.iconst 0, 1) := by decide +kernel
theorem d_Y_has_14 : decode b_Y_has 14 = .ok (.ireturn, 1) := by decide +kernel
theorem d_Y_compare_0 : decode b_Y_compare 0 = .ok (.iconst 0, 1) := by decide +kernel
theorem d_Y_compare_1 : decode b_Y_compare 1 = .ok (.istore 5, 2) := by decide +kernel
theorem d_Y_compare_3 : decode b_Y_compare 3 = .ok (.iconst 0, 1) := by decide +kernel
theorem d_Y_compare_4 : decode b_Y_compare 4 = .ok (.istore 6, 2) := by decide +kernel
theorem d_Y_compare_6 : decode b_Y_compare 6 = .ok (.iconst 0, 1) := by decide +kernel
theorem d_Y_compare_7 : decode b_Y_compare 7 = .ok (.istore 7, 2) := by decide +kernel
theorem d_Y_compare_9 : decode b_Y_compare 9 = .ok (.iload 7, 2) := by decide +kernel
theorem d_Y_compare_11 : decode b_Y_compare 11 = .ok (.aload_n 0, 1) := by decide +kernel
theorem d_Y_compare_12 : decode b_Y_compare 12 = .ok (.getfield 35, 3) := by decide +kernel
theorem d_Y_compare_15 : decode b_Y_compare 15 = .ok (.if_icmp .ge 66, 3) := by decide +kernel
theorem d_Y_compare_18 : decode b_Y_compare 18 = .ok (.aload_n 0, 1) := by decide +kernel
theorem d_Y_compare_19 : decode b_Y_compare 19 = .ok (.getfield 7, 3) := by decide +kernel
theorem d_Y_compare_22 : decode b_Y_compare 22 = .ok (.iload 7, 2) := by decide +kernel
theorem d_Y_compare_24 : decode b_Y_compare 24 = .ok (.baload, 1) := by decide +kernel
theorem d_Y_compare_25 : decode b_Y_compare 25 = .ok (.ifCond .ne 50, 3) := by decide +kernel
theorem d_Y_compare_28 : decode b_Y_compare 28 = .ok (.aload_n 0, 1) := by decide +kernel
theorem d_Y_compare_29 : decode b_Y_compare 29 = .ok (.getfield 13, 3) := by decide +kernel
theorem d_Y_compare_32 : decode b_Y_compare 32 = .ok (.iload 7, 2) := by decide +kernel
theorem d_Y_compare_34 : decode b_Y_compare 34 = .ok (.iaload, 1) := by decide +kernel
theorem d_Y_compare_35 : decode b_Y_compare 35 = .ok (.iload_n 3, 1) := by decide +kernel
theorem d_Y_compare_36 : decode b_Y_compare 36 = .ok (.if_icmp .ne 39, 3) := by decide +kernel
theorem d_Y_compare_39 : decode b_Y_compare 39 = .ok (.iload_n 1, 1) := by decide +kernel
theorem d_Y_compare_40 : decode b_Y_compare 40 = .ok (.iload 7, 2) := by decide +kernel
theorem d_Y_compare_42 : decode b_Y_compare 42 = .ok (.invokestatic 60, 3) := by decide +kernel
theorem d_Y_compare_45 : decode b_Y_compare 45 = .ok (.iload_n 2, 1) := by decide +kernel
theorem d_Y_compare_46 : decode b_Y_compare 46 = .ok (.iload 7, 2) := by decide +kernel
theorem d_Y_compare_48 : decode b_Y_compare 48 = .ok (.invokestatic 60, 3) := by decide +kernel
theorem d_Y_compare_51 : decode b_Y_compare 51 = .ok (.if_icmp .ne 6, 3) := by decide +kernel
theorem d_Y_compare_54 : decode b_Y_compare 54 = .ok (.goto 21, 3) := by decide +kernel
theorem d_Y_compare_57 : decode b_Y_compare 57 = .ok (.iload_n 1, 1) := by decide +kernel
theorem d_Y_compare_58 : decode b_Y_compare 58 = .ok (.iload 7, 2) := by decide +kernel
theorem d_Y_compare_60 : decode b_Y_compare 60 = .ok (.invokestatic 60, 3) := by decide +kernel
theorem d_Y_compare_63 : decode b_Y_compare 63 = .ok (.ifCond .eq 9, 3) := by decide +kernel
theorem d_Y_compare_66 : decode b_Y_compare 66 = .ok (.iinc 5 1, 3) := by decide +kernel
theorem d_Y_compare_69 : decode b_Y_compare 69 = .ok (.goto 6, 3) := by decide +kernel
theorem d_Y_compare_72 : decode b_Y_compare 72 = .ok (.iinc 6 1, 3) := by decide +kernel
theorem d_Y_compare_75 : decode b_Y_compare 75 = .ok (.iinc 7 1, 3) := by decide +kernel
theorem d_Y_compare_78 : decode b_Y_compare 78 = .ok (.goto (-69), 3) := by decide +kernel
theorem d_Y_compare_81 : decode b_Y_compare 81 = .ok (.iload 4, 2) := by decide +kernel
theorem d_Y_compare_83 : decode b_Y_compare 83 = .ok (.ifCond .eq 27, 3) := by decide +kernel
theorem d_Y_compare_86 : decode b_Y_compare 86 = .ok (.iload 5, 2) := by decide +kernel
theorem d_Y_compare_88 : decode b_Y_compare 88 = .ok (.iload 6, 2) := by decide +kernel
theorem d_Y_compare_90 : decode b_Y_compare 90 = .ok (.if_icmp .ne 7, 3) := by decide +kernel
theorem d_Y_compare_93 : decode b_Y_compare 93 = .ok (.iconst 0, 1) := by decide +kernel
theorem d_Y_compare_94 : decode b_Y_compare 94 = .ok (.goto 15, 3) := by decide +kernel
theorem d_Y_compare_97 : decode b_Y_compare 97 = .ok (.iload 5, 2) := by decide +kernel
theorem d_Y_compare_99 : decode b_Y_compare 99 = .ok (.iload 6, 2) := by decide +kernel
theorem d_Y_compare_101 : decode b_Y_compare 101 = .ok (.if_icmp .le 7, 3) := by decide +kernel
theorem d_Y_compare_104 : decode b_Y_compare 104 = .ok (.iconst 1, 1) := by decide +kernel
theorem d_Y_compare_105 : decode b_Y_compare 105 = .ok (.goto 4, 3) := by decide +kernel
theorem d_Y_compare_108 : decode b_Y_compare 108 = .ok (.iconst 2, 1) := by decide +kernel
theorem d_Y_compare_109 : decode b_Y_compare 109 = .ok (.ireturn, 1) := by decide +kernel
theorem d_Y_compare_110 : decode b_Y_compare 110 = .ok (.iload 5, 2) := by decide +kernel
theorem d_Y_compare_112 : decode b_Y_compare 112 = .ok (.ifCond .ne 12, 3) := by decide +kernel
theorem d_Y_compare_115 : decode b_Y_compare 115 = .ok (.iload 6, 2) := by decide +kernel
theorem d_Y_compare_117 : decode b_Y_compare 117 = .ok (.ifCond .ne 7, 3) := by decide +kernel
theorem d_Y_compare_120 : decode b_Y_compare 120 = .ok (.iconst 0, 1) := by decide +kernel
theorem d_Y_compare_121 : decode b_Y_compare 121 = .ok (.goto 22, 3) := by decide +kernel
theorem d_Y_compare_124 : decode b_Y_compare 124 = .ok (.iload 6, 2) := by decide +kernel
theorem d_Y_compare_126 : decode b_Y_compare 126 = .ok (.ifCond .ne 7, 3) := by decide +kernel
theorem d_Y_compare_129 : decode b_Y_compare 129 = .ok (.iconst 1, 1) := by decide +kernel
theorem d_Y_compare_130 : decode b_Y_compare 130 = .ok (.goto 13, 3) := by decide +kernel
theorem d_Y_compare_133 : decode b_Y_compare 133 = .ok (.iload 5, 2) := by decide +kernel
theorem d_Y_compare_135 : decode b_Y_compare 135 = .ok (.ifCond .ne 7, 3) := by decide +kernel
theorem d_Y_compare_138 : decode b_Y_compare 138 = .ok (.iconst 2, 1) := by decide +kernel
theorem d_Y_compare_139 : decode b_Y_compare 139 = .ok (.goto 4, 3) := by decide +kernel
theorem d_Y_compare_142 : decode b_Y_compare 142 = .ok (.iconst 3, 1) := by decide +kernel
theorem d_Y_compare_143 : decode b_Y_compare 143 = .ok (.ireturn, 1) := by decide +kernel
theorem d_Y_isBetter_0 : decode b_Y_isBetter 0 = .ok (.iload_n 3, 1) := by decide +kernel
theorem d_Y_isBetter_1 : decode b_Y_isBetter 1 = .ok (.ifCond .ne 21, 3) := by decide +kernel
theorem d_Y_isBetter_4 : decode b_Y_isBetter 4 = .ok (.iload_n 1, 1) := by decide +kernel
theorem d_Y_isBetter_5 : decode b_Y_isBetter 5 = .ok (.iload_n 2, 1) := by decide +kernel
theorem d_Y_isBetter_6 : decode b_Y_isBetter 6 = .ok (.if_icmp .eq 14, 3) := by decide +kernel
theorem d_Y_isBetter_9 : decode b_Y_isBetter 9 = .ok (.iload_n 1, 1) := by decide +kernel
theorem d_Y_isBetter_10 : decode b_Y_isBetter 10 = .ok (.iload_n 2, 1) := by decide +kernel
theorem d_Y_isBetter_11 : decode b_Y_isBetter 11 = .ok (.ior, 1) := by decide +kernel
theorem d_Y_isBetter_12 : decode b_Y_isBetter 12 = .ok (.iload_n 1, 1) := by decide +kernel
theorem d_Y_isBetter_13 : decode b_Y_isBetter 13 = .ok (.if_icmp .ne 7, 3) := by decide +kernel
theorem d_Y_isBetter_16 : decode b_Y_isBetter 16 = .ok (.iconst 1, 1) := by decide +kernel
theorem d_Y_isBetter_17 : decode b_Y_isBetter 17 = .ok (.goto 4, 3) := by decide +kernel
theorem d_Y_isBetter_20 : decode b_Y_isBetter 20 = .ok (.iconst 0, 1) := by decide +kernel
theorem d_Y_isBetter_21 : decode b_Y_isBetter 21 = .ok (.ireturn, 1) := by decide +kernel
theorem d_Y_isBetter_22 : decode b_Y_isBetter 22 = .ok (.iload_n 3, 1) := by decide +kernel
theorem d_Y_isBetter_23 : decode b_Y_isBetter 23 = .ok (.iconst 3, 1) := by decide +kernel
theorem d_Y_isBetter_24 : decode b_Y_isBetter 24 = .ok (.if_icmp .ne 97, 3) := by decide +kernel
theorem d_Y_isBetter_27 : decode b_Y_isBetter 27 = .ok (.iconst 0, 1) := by decide +kernel
theorem d_Y_isBetter_28 : decode b_Y_isBetter 28 = .ok (.istore 4, 2) := by decide +kernel
theorem d_Y_isBetter_30 : decode b_Y_isBetter 30 = .ok (.iconst 0, 1) := by decide +kernel
theorem d_Y_isBetter_31 : decode b_Y_isBetter 31 = .ok (.istore 5, 2) := by decide +kernel
theorem d_Y_isBetter_33 : decode b_Y_isBetter 33 = .ok (.iload 5, 2) := by decide +kernel
theorem d_Y_isBetter_35 : decode b_Y_isBetter 35 = .ok (.aload_n 0, 1) := by decide +kernel
theorem d_Y_isBetter_36 : decode b_Y_isBetter 36 = .ok (.getfield 35, 3) := by decide +kernel
theorem d_Y_isBetter_39 : decode b_Y_isBetter 39 = .ok (.if_icmp .ge 71, 3) := by decide +kernel
theorem d_Y_isBetter_42 : decode b_Y_isBetter 42 = .ok (.aload_n 0, 1) := by decide +kernel
theorem d_Y_isBetter_43 : decode b_Y_isBetter 43 = .ok (.getfield 7, 3) := by decide +kernel
theorem d_Y_isBetter_46 : decode b_Y_isBetter 46 = .ok (.iload 5, 2) := by decide +kernel
theorem d_Y_isBetter_48 : decode b_Y_isBetter 48 = .ok (.baload, 1) := by decide +kernel
theorem d_Y_isBetter_49 : decode b_Y_isBetter 49 = .ok (.ifCond .ne 24, 3) := by decide +kernel
theorem d_Y_isBetter_52 : decode b_Y_isBetter 52 = .ok (.iload_n 1, 1) := by decide +kernel
theorem d_Y_isBetter_53 : decode b_Y_isBetter 53 = .ok (.iload 5, 2) := by decide +kernel
theorem d_Y_isBetter_55 : decode b_Y_isBetter 55 = .ok (.invokestatic 60, 3) := by decide +kernel
theorem d_Y_isBetter_58 : decode b_Y_isBetter 58 = .ok (.ifCond .eq 15, 3) := by decide +kernel
theorem d_Y_isBetter_61 : decode b_Y_isBetter 61 = .ok (.iload 4, 2) := by decide +kernel
theorem d_Y_isBetter_63 : decode b_Y_isBetter 63 = .ok (.aload_n 0, 1) := by decide +kernel
theorem d_Y_isBetter_64 : decode b_Y_isBetter 64 = .ok (.getfield 17, 3) := by decide +kernel
theorem d_Y_isBetter_67 : decode b_Y_isBetter 67 = .ok (.iload 5, 2) := by decide +kernel
theorem d_Y_isBetter_69 : decode b_Y_isBetter 69 = .ok (.iaload, 1) := by decide +kernel
theorem d_Y_isBetter_70 : decode b_Y_isBetter 70 = .ok (.iadd, 1) := by decide +kernel
theorem d_Y_isBetter_71 : decode b_Y_isBetter 71 = .ok (.istore 4, 2) := by decide +kernel
theorem d_Y_isBetter_73 : decode b_Y_isBetter 73 = .ok (.aload_n 0, 1) := by decide +kernel
theorem d_Y_isBetter_74 : decode b_Y_isBetter 74 = .ok (.getfield 7, 3) := by decide +kernel
theorem d_Y_isBetter_77 : decode b_Y_isBetter 77 = .ok (.iload 5, 2) := by decide +kernel
theorem d_Y_isBetter_79 : decode b_Y_isBetter 79 = .ok (.baload, 1) := by decide +kernel
theorem d_Y_isBetter_80 : decode b_Y_isBetter 80 = .ok (.ifCond .ne 24, 3) := by decide +kernel
theorem d_Y_isBetter_83 : decode b_Y_isBetter 83 = .ok (.iload_n 2, 1) := by decide +kernel
theorem d_Y_isBetter_84 : decode b_Y_isBetter 84 = .ok (.iload 5, 2) := by decide +kernel
theorem d_Y_isBetter_86 : decode b_Y_isBetter 86 = .ok (.invokestatic 60, 3) := by decide +kernel
theorem d_Y_isBetter_89 : decode b_Y_isBetter 89 = .ok (.ifCond .eq 15, 3) := by decide +kernel
theorem d_Y_isBetter_92 : decode b_Y_isBetter 92 = .ok (.iload 4, 2) := by decide +kernel
theorem d_Y_isBetter_94 : decode b_Y_isBetter 94 = .ok (.aload_n 0, 1) := by decide +kernel
theorem d_Y_isBetter_95 : decode b_Y_isBetter 95 = .ok (.getfield 17, 3) := by decide +kernel
theorem d_Y_isBetter_98 : decode b_Y_isBetter 98 = .ok (.iload 5, 2) := by decide +kernel
theorem d_Y_isBetter_100 : decode b_Y_isBetter 100 = .ok (.iaload, 1) := by decide +kernel
theorem d_Y_isBetter_101 : decode b_Y_isBetter 101 = .ok (.isub, 1) := by decide +kernel
theorem d_Y_isBetter_102 : decode b_Y_isBetter 102 = .ok (.istore 4, 2) := by decide +kernel
theorem d_Y_isBetter_104 : decode b_Y_isBetter 104 = .ok (.iinc 5 1, 3) := by decide +kernel
theorem d_Y_isBetter_107 : decode b_Y_isBetter 107 = .ok (.goto (-74), 3) := by decide +kernel
theorem d_Y_isBetter_110 : decode b_Y_isBetter 110 = .ok (.iload 4, 2) := by decide +kernel
theorem d_Y_isBetter_112 : decode b_Y_isBetter 112 = .ok (.ifCond .le 7, 3) := by decide +kernel
theorem d_Y_isBetter_115 : decode b_Y_isBetter 115 = .ok (.iconst 1, 1) := by decide +kernel
theorem d_Y_isBetter_116 : decode b_Y_isBetter 116 = .ok (.goto 4, 3) := by decide +kernel
theorem d_Y_isBetter_119 : decode b_Y_isBetter 119 = .ok (.iconst 0, 1) := by decide +kernel
theorem d_Y_isBetter_120 : decode b_Y_isBetter 120 = .ok (.ireturn, 1) := by decide +kernel
theorem d_Y_isBetter_121 : decode b_Y_isBetter 121 = .ok (.iconst 0, 1) := by decide +kernel
theorem d_Y_isBetter_122 : decode b_Y_isBetter 122 = .ok (.istore 4, 2) := by decide +kernel
theorem d_Y_isBetter_124 : decode b_Y_isBetter 124 = .ok (.iconst 0, 1) := by decide +kernel
theorem d_Y_isBetter_125 : decode b_Y_isBetter 125 = .ok (.istore 5, 2) := by decide +kernel
theorem d_Y_isBetter_127 : decode b_Y_isBetter 127 = .ok (.iload 5, 2) := by decide +kernel
theorem d_Y_isBetter_129 : decode b_Y_isBetter 129 = .ok (.bipush 8, 2) := by decide +kernel
theorem d_Y_isBetter_131 : decode b_Y_isBetter 131 = .ok (.if_icmp .ge 34, 3) := by decide +kernel
theorem d_Y_isBetter_134 : decode b_Y_isBetter 134 = .ok (.iload 4, 2) := by decide +kernel
theorem d_Y_isBetter_136 : decode b_Y_isBetter 136 = .ok (.ifCond .ne 29, 3) := by decide +kernel
theorem d_Y_isBetter_139 : decode b_Y_isBetter 139 = .ok (.aload_n 0, 1) := by decide +kernel
theorem d_Y_isBetter_140 : decode b_Y_isBetter 140 = .ok (.iload_n 1, 1) := by decide +kernel
theorem d_Y_isBetter_141 : decode b_Y_isBetter 141 = .ok (.iload_n 2, 1) := by decide +kernel
theorem d_Y_isBetter_142 : decode b_Y_isBetter 142 = .ok (.iload 5, 2) := by decide +kernel
theorem d_Y_isBetter_144 : decode b_Y_isBetter 144 = .ok (.iload_n 3, 1) := by decide +kernel
theorem d_Y_isBetter_145 : decode b_Y_isBetter 145 = .ok (.iconst 2, 1) := by decide +kernel
theorem d_Y_isBetter_146 : decode b_Y_isBetter 146 = .ok (.if_icmp .ne 7, 3) := by decide +kernel
theorem d_Y_isBetter_149 : decode b_Y_isBetter 149 = .ok (.iconst 1, 1) := by decide +kernel
theorem d_Y_isBetter_150 : decode b_Y_isBetter 150 = .ok (.goto 4, 3) := by decide +kernel
theorem d_Y_isBetter_153 : decode b_Y_isBetter 153 = .ok (.iconst 0, 1) := by decide +kernel
theorem d_Y_isBetter_154 : decode b_Y_isBetter 154 = .ok (.invokevirtual 63, 3) := by decide +kernel
theorem d_Y_isBetter_157 : decode b_Y_isBetter 157 = .ok (.istore 4, 2) := by decide +kernel
theorem d_Y_isBetter_159 : decode b_Y_isBetter 159 = .ok (.iinc 5 1, 3) := by decide +kernel
theorem d_Y_isBetter_162 : decode b_Y_isBetter 162 = .ok (.goto (-35), 3) := by decide +kernel
theorem d_Y_isBetter_165 : decode b_Y_isBetter 165 = .ok (.iload 4, 2) := by decide +kernel
theorem d_Y_isBetter_167 : decode b_Y_isBetter 167 = .ok (.iconst 1, 1) := by decide +kernel
theorem d_Y_isBetter_168 : decode b_Y_isBetter 168 = .ok (.if_icmp .ne 7, 3) := by decide +kernel
theorem d_Y_isBetter_171 : decode b_Y_isBetter 171 = .ok (.iconst 1, 1) := by decide +kernel
theorem d_Y_isBetter_172 : decode b_Y_isBetter 172 = .ok (.goto 4, 3) := by decide +kernel
theorem d_Y_isBetter_175 : decode b_Y_isBetter 175 = .ok (.iconst 0, 1) := by decide +kernel
theorem d_Y_isBetter_176 : decode b_Y_isBetter 176 = .ok (.ireturn, 1) := by decide +kernel
theorem d_Y_better_0 : decode b_Y_better 0 = .ok (.iload_n 3, 1) := by decide +kernel
theorem d_Y_better_1 : decode b_Y_better 1 = .ok (.ifCond .lt 8, 3) := by decide +kernel
theorem d_Y_better_4 : decode b_Y_better 4 = .ok (.iload_n 3, 1) := by decide +kernel
theorem d_Y_better_5 : decode b_Y_better 5 = .ok (.iconst 3, 1) := by decide +kernel
theorem d_Y_better_6 : decode b_Y_better 6 = .ok (.if_icmp .le 5, 3) := by decide +kernel
theorem d_Y_better_9 : decode b_Y_better 9 = .ok (.iconst (-1), 1) := by decide +kernel
theorem d_Y_better_10 : decode b_Y_better 10 = .ok (.ireturn, 1) := by decide +kernel
theorem d_Y_better_11 : decode b_Y_better 11 = .ok (.iconst 1, 1) := by decide +kernel
theorem d_Y_better_12 : decode b_Y_better 12 = .ok (.aload_n 0, 1) := by decide +kernel
theorem d_Y_better_13 : decode b_Y_better 13 = .ok (.getfield 35, 3) := by decide +kernel
theorem d_Y_better_16 : decode b_Y_better 16 = .ok (.ishl, 1) := by decide +kernel
theorem d_Y_better_17 : decode b_Y_better 17 = .ok (.iconst 1, 1) := by decide +kernel
theorem d_Y_better_18 : decode b_Y_better 18 = .ok (.isub, 1) := by decide +kernel
theorem d_Y_better_19 : decode b_Y_better 19 = .ok (.istore 4, 2) := by decide +kernel
theorem d_Y_better_21 : decode b_Y_better 21 = .ok (.aload_n 0, 1) := by decide +kernel
theorem d_Y_better_22 : decode b_Y_better 22 = .ok (.iload_n 1, 1) := by decide +kernel
theorem d_Y_better_23 : decode b_Y_better 23 = .ok (.iload 4, 2) := by decide +kernel
theorem d_Y_better_25 : decode b_Y_better 25 = .ok (.iand, 1) := by decide +kernel
theorem d_Y_better_26 : decode b_Y_better 26 = .ok (.iload_n 2, 1) := by decide +kernel
theorem d_Y_better_27 : decode b_Y_better 27 = .ok (.iload 4, 2) := by decide +kernel
theorem d_Y_better_29 : decode b_Y_better 29 = .ok (.iand, 1) := by decide +kernel
theorem d_Y_better_30 : decode b_Y_better 30 = .ok (.iload_n 3, 1) := by decide +kernel
theorem d_Y_better_31 : decode b_Y_better 31 = .ok (.invokevirtual 67, 3) := by decide +kernel
theorem d_Y_better_34 : decode b_Y_better 34 = .ok (.ifCond .eq 7, 3) := by decide +kernel
theorem d_Y_better_37 : decode b_Y_better 37 = .ok (.iconst 1, 1) := by decide +kernel
theorem d_Y_better_38 : decode b_Y_better 38 = .ok (.goto 4, 3) := by decide +kernel
theorem d_Y_better_41 : decode b_Y_better 41 = .ok (.iconst 0, 1) := by decide +kernel
theorem d_Y_better_42 : decode b_Y_better 42 = .ok (.ireturn, 1) := by decide +kernel
theorem d_Y_isKept_0 : decode b_Y_isKept 0 = .ok (.iconst 1, 1) := by decide +kernel
theorem d_Y_isKept_1 : decode b_Y_isKept 1 = .ok (.istore_n 2, 1) := by decide +kernel
theorem d_Y_isKept_2 : decode b_Y_isKept 2 = .ok (.iconst 0, 1) := by decide +kernel
theorem d_Y_isKept_3 : decode b_Y_isKept 3 = .ok (.istore_n 3, 1) := by decide +kernel
theorem d_Y_isKept_4 : decode b_Y_isKept 4 = .ok (.iload_n 3, 1) := by decide +kernel
theorem d_Y_isKept_5 : decode b_Y_isKept 5 = .ok (.aload_n 0, 1) := by decide +kernel
theorem d_Y_isKept_6 : decode b_Y_isKept 6 = .ok (.getfield 35, 3) := by decide +kernel
theorem d_Y_isKept_9 : decode b_Y_isKept 9 = .ok (.if_icmp .ge 36, 3) := by decide +kernel
theorem d_Y_isKept_12 : decode b_Y_isKept 12 = .ok (.iload_n 2, 1) := by decide +kernel
theorem d_Y_isKept_13 : decode b_Y_isKept 13 = .ok (.ifCond .eq 32, 3) := by decide +kernel
theorem d_Y_isKept_16 : decode b_Y_isKept 16 = .ok (.aload_n 0, 1) := by decide +kernel
theorem d_Y_isKept_17 : decode b_Y_isKept 17 = .ok (.getfield 7, 3) := by decide +kernel
theorem d_Y_isKept_20 : decode b_Y_isKept 20 = .ok (.iload_n 3, 1) := by decide +kernel
theorem d_Y_isKept_21 : decode b_Y_isKept 21 = .ok (.baload, 1) := by decide +kernel
theorem d_Y_isKept_22 : decode b_Y_isKept 22 = .ok (.ifCond .eq 11, 3) := by decide +kernel
theorem d_Y_isKept_25 : decode b_Y_isKept 25 = .ok (.iload_n 1, 1) := by decide +kernel
theorem d_Y_isKept_26 : decode b_Y_isKept 26 = .ok (.iload_n 3, 1) := by decide +kernel
theorem d_Y_isKept_27 : decode b_Y_isKept 27 = .ok (.invokestatic 60, 3) := by decide +kernel
theorem d_Y_isKept_30 : decode b_Y_isKept 30 = .ok (.ifCond .eq 7, 3) := by decide +kernel
theorem d_Y_isKept_33 : decode b_Y_isKept 33 = .ok (.iconst 1, 1) := by decide +kernel
theorem d_Y_isKept_34 : decode b_Y_isKept 34 = .ok (.goto 4, 3) := by decide +kernel
theorem d_Y_isKept_37 : decode b_Y_isKept 37 = .ok (.iconst 0, 1) := by decide +kernel
theorem d_Y_isKept_38 : decode b_Y_isKept 38 = .ok (.istore_n 2, 1) := by decide +kernel
theorem d_Y_isKept_39 : decode b_Y_isKept 39 = .ok (.iinc 3 1, 3) := by decide +kernel
theorem d_Y_isKept_42 : decode b_Y_isKept 42 = .ok (.goto (-38), 3) := by decide +kernel
theorem d_Y_isKept_45 : decode b_Y_isKept 45 = .ok (.iconst 0, 1) := by decide +kernel
theorem d_Y_isKept_46 : decode b_Y_isKept 46 = .ok (.istore_n 3, 1) := by decide +kernel
theorem d_Y_isKept_47 : decode b_Y_isKept 47 = .ok (.iload_n 3, 1) := by decide +kernel
theorem d_Y_isKept_48 : decode b_Y_isKept 48 = .ok (.aload_n 0, 1) := by decide +kernel
theorem d_Y_isKept_49 : decode b_Y_isKept 49 = .ok (.getfield 51, 3) := by decide +kernel
theorem d_Y_isKept_52 : decode b_Y_isKept 52 = .ok (.if_icmp .ge 32, 3) := by decide +kernel
theorem d_Y_isKept_55 : decode b_Y_isKept 55 = .ok (.iload_n 2, 1) := by decide +kernel
theorem d_Y_isKept_56 : decode b_Y_isKept 56 = .ok (.ifCond .eq 28, 3) := by decide +kernel
theorem d_Y_isKept_59 : decode b_Y_isKept 59 = .ok (.aload_n 0, 1) := by decide +kernel
theorem d_Y_isKept_60 : decode b_Y_isKept 60 = .ok (.getfield 20, 3) := by decide +kernel
theorem d_Y_isKept_63 : decode b_Y_isKept 63 = .ok (.iload_n 3, 1) := by decide +kernel
theorem d_Y_isKept_64 : decode b_Y_isKept 64 = .ok (.iaload, 1) := by decide +kernel
theorem d_Y_isKept_65 : decode b_Y_isKept 65 = .ok (.iload_n 1, 1) := by decide +kernel
theorem d_Y_isKept_66 : decode b_Y_isKept 66 = .ok (.iconst (-1), 1) := by decide +kernel
theorem d_Y_isKept_67 : decode b_Y_isKept 67 = .ok (.ixor, 1) := by decide +kernel
theorem d_Y_isKept_68 : decode b_Y_isKept 68 = .ok (.iand, 1) := by decide +kernel
theorem d_Y_isKept_69 : decode b_Y_isKept 69 = .ok (.ifCond .eq 7, 3) := by decide +kernel
theorem d_Y_isKept_72 : decode b_Y_isKept 72 = .ok (.iconst 1, 1) := by decide +kernel
theorem d_Y_isKept_73 : decode b_Y_isKept 73 = .ok (.goto 4, 3) := by decide +kernel
theorem d_Y_isKept_76 : decode b_Y_isKept 76 = .ok (.iconst 0, 1) := by decide +kernel
theorem d_Y_isKept_77 : decode b_Y_isKept 77 = .ok (.istore_n 2, 1) := by decide +kernel
theorem d_Y_isKept_78 : decode b_Y_isKept 78 = .ok (.iinc 3 1, 3) := by decide +kernel
theorem d_Y_isKept_81 : decode b_Y_isKept 81 = .ok (.goto (-34), 3) := by decide +kernel
theorem d_Y_isKept_84 : decode b_Y_isKept 84 = .ok (.iload_n 2, 1) := by decide +kernel
theorem d_Y_isKept_85 : decode b_Y_isKept 85 = .ok (.ireturn, 1) := by decide +kernel
theorem d_Y_work_0 : decode b_Y_work 0 = .ok (.aload_n 0, 1) := by decide +kernel
theorem d_Y_work_1 : decode b_Y_work 1 = .ok (.getfield 43, 3) := by decide +kernel
theorem d_Y_work_4 : decode b_Y_work 4 = .ok (.ifCond .eq 4, 3) := by decide +kernel
theorem d_Y_work_7 : decode b_Y_work 7 = .ok (.return_, 1) := by decide +kernel
theorem d_Y_work_8 : decode b_Y_work 8 = .ok (.iconst 1, 1) := by decide +kernel
theorem d_Y_work_9 : decode b_Y_work 9 = .ok (.aload_n 0, 1) := by decide +kernel
theorem d_Y_work_10 : decode b_Y_work 10 = .ok (.getfield 35, 3) := by decide +kernel
theorem d_Y_work_13 : decode b_Y_work 13 = .ok (.ishl, 1) := by decide +kernel
theorem d_Y_work_14 : decode b_Y_work 14 = .ok (.istore_n 1, 1) := by decide +kernel
theorem d_Y_work_15 : decode b_Y_work 15 = .ok (.iconst 0, 1) := by decide +kernel
theorem d_Y_work_16 : decode b_Y_work 16 = .ok (.istore_n 2, 1) := by decide +kernel
theorem d_Y_work_17 : decode b_Y_work 17 = .ok (.iload_n 2, 1) := by decide +kernel
theorem d_Y_work_18 : decode b_Y_work 18 = .ok (.iload_n 1, 1) := by decide +kernel
theorem d_Y_work_19 : decode b_Y_work 19 = .ok (.if_icmp .ge 20, 3) := by decide +kernel
theorem d_Y_work_22 : decode b_Y_work 22 = .ok (.aload_n 0, 1) := by decide +kernel
theorem d_Y_work_23 : decode b_Y_work 23 = .ok (.getfield 29, 3) := by decide +kernel
theorem d_Y_work_26 : decode b_Y_work 26 = .ok (.iload_n 2, 1) := by decide +kernel
theorem d_Y_work_27 : decode b_Y_work 27 = .ok (.aload_n 0, 1) := by decide +kernel
theorem d_Y_work_28 : decode b_Y_work 28 = .ok (.iload_n 2, 1) := by decide +kernel
theorem d_Y_work_29 : decode b_Y_work 29 = .ok (.invokevirtual 71, 3) := by decide +kernel
theorem d_Y_work_32 : decode b_Y_work 32 = .ok (.bastore, 1) := by decide +kernel
theorem d_Y_work_33 : decode b_Y_work 33 = .ok (.iinc 2 1, 3) := by decide +kernel
theorem d_Y_work_36 : decode b_Y_work 36 = .ok (.goto (-19), 3) := by decide +kernel
theorem d_Y_work_39 : decode b_Y_work 39 = .ok (.aload_n 0, 1) := by decide +kernel
theorem d_Y_work_40 : decode b_Y_work 40 = .ok (.iconst 0, 1) := by decide +kernel
theorem d_Y_work_41 : decode b_Y_work 41 = .ok (.putfield 74, 3) := by decide +kernel
theorem d_Y_work_44 : decode b_Y_work 44 = .ok (.iconst 0, 1) := by decide +kernel
theorem d_Y_work_45 : decode b_Y_work 45 = .ok (.istore_n 2, 1) := by decide +kernel
theorem d_Y_work_46 : decode b_Y_work 46 = .ok (.iload_n 2, 1) := by decide +kernel
theorem d_Y_work_47 : decode b_Y_work 47 = .ok (.iload_n 1, 1) := by decide +kernel
theorem d_Y_work_48 : decode b_Y_work 48 = .ok (.if_icmp .ge 84, 3) := by decide +kernel
theorem d_Y_work_51 : decode b_Y_work 51 = .ok (.aload_n 0, 1) := by decide +kernel
theorem d_Y_work_52 : decode b_Y_work 52 = .ok (.getfield 29, 3) := by decide +kernel
theorem d_Y_work_55 : decode b_Y_work 55 = .ok (.iload_n 2, 1) := by decide +kernel
theorem d_Y_work_56 : decode b_Y_work 56 = .ok (.baload, 1) := by decide +kernel
theorem d_Y_work_57 : decode b_Y_work 57 = .ok (.ifCond .ne 6, 3) := by decide +kernel
theorem d_Y_work_60 : decode b_Y_work 60 = .ok (.goto 66, 3) := by decide +kernel
theorem d_Y_work_63 : decode b_Y_work 63 = .ok (.iload_n 1, 1) := by decide +kernel
theorem d_Y_work_64 : decode b_Y_work 64 = .ok (.iconst 1, 1) := by decide +kernel
theorem d_Y_work_65 : decode b_Y_work 65 = .ok (.isub, 1) := by decide +kernel
theorem d_Y_work_66 : decode b_Y_work 66 = .ok (.istore_n 3, 1) := by decide +kernel
theorem d_Y_work_67 : decode b_Y_work 67 = .ok (.iload_n 3, 1) := by decide +kernel
theorem d_Y_work_68 : decode b_Y_work 68 = .ok (.ifCond .lt 31, 3) := by decide +kernel
theorem d_Y_work_71 : decode b_Y_work 71 = .ok (.aload_n 0, 1) := by decide +kernel
theorem d_Y_work_72 : decode b_Y_work 72 = .ok (.getfield 29, 3) := by decide +kernel
theorem d_Y_work_75 : decode b_Y_work 75 = .ok (.iload_n 3, 1) := by decide +kernel
theorem d_Y_work_76 : decode b_Y_work 76 = .ok (.baload, 1) := by decide +kernel
theorem d_Y_work_77 : decode b_Y_work 77 = .ok (.ifCond .eq 16, 3) := by decide +kernel
theorem d_Y_work_80 : decode b_Y_work 80 = .ok (.aload_n 0, 1) := by decide +kernel
theorem d_Y_work_81 : decode b_Y_work 81 = .ok (.iload_n 3, 1) := by decide +kernel
theorem d_Y_work_82 : decode b_Y_work 82 = .ok (.iload_n 2, 1) := by decide +kernel
theorem d_Y_work_83 : decode b_Y_work 83 = .ok (.aload_n 0, 1) := by decide +kernel
theorem d_Y_work_84 : decode b_Y_work 84 = .ok (.getfield 57, 3) := by decide +kernel
theorem d_Y_work_87 : decode b_Y_work 87 = .ok (.invokevirtual 67, 3) := by decide +kernel
theorem d_Y_work_90 : decode b_Y_work 90 = .ok (.ifCond .ne 9, 3) := by decide +kernel
theorem d_Y_work_93 : decode b_Y_work 93 = .ok (.iinc 3 (-1), 3) := by decide +kernel
theorem d_Y_work_96 : decode b_Y_work 96 = .ok (.goto (-29), 3) := by decide +kernel
theorem d_Y_work_99 : decode b_Y_work 99 = .ok (.iload_n 3, 1) := by decide +kernel
theorem d_Y_work_100 : decode b_Y_work 100 = .ok (.ifCond .lt 6, 3) := by decide +kernel
theorem d_Y_work_103 : decode b_Y_work 103 = .ok (.goto 23, 3) := by decide +kernel
theorem d_Y_work_106 : decode b_Y_work 106 = .ok (.aload_n 0, 1) := by decide +kernel
theorem d_Y_work_107 : decode b_Y_work 107 = .ok (.getfield 32, 3) := by decide +kernel
theorem d_Y_work_110 : decode b_Y_work 110 = .ok (.aload_n 0, 1) := by decide +kernel
theorem d_Y_work_111 : decode b_Y_work 111 = .ok (.getfield 74, 3) := by decide +kernel
theorem d_Y_work_114 : decode b_Y_work 114 = .ok (.iload_n 2, 1) := by decide +kernel
theorem d_Y_work_115 : decode b_Y_work 115 = .ok (.iastore, 1) := by decide +kernel
theorem d_Y_work_116 : decode b_Y_work 116 = .ok (.aload_n 0, 1) := by decide +kernel
theorem d_Y_work_117 : decode b_Y_work 117 = .ok (.dup, 1) := by decide +kernel
theorem d_Y_work_118 : decode b_Y_work 118 = .ok (.getfield 74, 3) := by decide +kernel
theorem d_Y_work_121 : decode b_Y_work 121 = .ok (.iconst 1, 1) := by decide +kernel
theorem d_Y_work_122 : decode b_Y_work 122 = .ok (.iadd, 1) := by decide +kernel
theorem d_Y_work_123 : decode b_Y_work 123 = .ok (.putfield 74, 3) := by decide +kernel
theorem d_Y_work_126 : decode b_Y_work 126 = .ok (.iinc 2 1, 3) := by decide +kernel
theorem d_Y_work_129 : decode b_Y_work 129 = .ok (.goto (-83), 3) := by decide +kernel
theorem d_Y_work_132 : decode b_Y_work 132 = .ok (.aload_n 0, 1) := by decide +kernel
theorem d_Y_work_133 : decode b_Y_work 133 = .ok (.iconst 1, 1) := by decide +kernel
theorem d_Y_work_134 : decode b_Y_work 134 = .ok (.putfield 43, 3) := by decide +kernel
theorem d_Y_work_137 : decode b_Y_work 137 = .ok (.return_, 1) := by decide +kernel
theorem d_Y_find_0 : decode b_Y_find 0 = .ok (.aload_n 0, 1) := by decide +kernel
theorem d_Y_find_1 : decode b_Y_find 1 = .ok (.invokevirtual 77, 3) := by decide +kernel
theorem d_Y_find_4 : decode b_Y_find 4 = .ok (.aload_n 0, 1) := by decide +kernel
theorem d_Y_find_5 : decode b_Y_find 5 = .ok (.getfield 74, 3) := by decide +kernel
theorem d_Y_find_8 : decode b_Y_find 8 = .ok (.ireturn, 1) := by decide +kernel
theorem d_Y_kept_0 : decode b_Y_kept 0 = .ok (.aload_n 0, 1) := by decide +kernel
theorem d_Y_kept_1 : decode b_Y_kept 1 = .ok (.invokevirtual 77, 3) := by decide +kernel
theorem d_Y_kept_4 : decode b_Y_kept 4 = .ok (.iload_n 1, 1) := by decide +kernel
theorem d_Y_kept_5 : decode b_Y_kept 5 = .ok (.ifCond .lt 20, 3) := by decide +kernel
theorem d_Y_kept_8 : decode b_Y_kept 8 = .ok (.iload_n 1, 1) := by decide +kernel
theorem d_Y_kept_9 : decode b_Y_kept 9 = .ok (.aload_n 0, 1) := by decide +kernel
theorem d_Y_kept_10 : decode b_Y_kept 10 = .ok (.getfield 74, 3) := by decide +kernel
theorem d_Y_kept_13 : decode b_Y_kept 13 = .ok (.if_icmp .ge 12, 3) := by decide +kernel
theorem d_Y_kept_16 : decode b_Y_kept 16 = .ok (.aload_n 0, 1) := by decide +kernel
theorem d_Y_kept_17 : decode b_Y_kept 17 = .ok (.getfield 32, 3) := by decide +kernel
theorem d_Y_kept_20 : decode b_Y_kept 20 = .ok (.iload_n 1, 1) := by decide +kernel
theorem d_Y_kept_21 : decode b_Y_kept 21 = .ok (.iaload, 1) := by decide +kernel
theorem d_Y_kept_22 : decode b_Y_kept 22 = .ok (.goto 5, 3) := by decide +kernel
theorem d_Y_kept_25 : decode b_Y_kept 25 = .ok (.bipush (-2), 2) := by decide +kernel
theorem d_Y_kept_27 : decode b_Y_kept 27 = .ok (.ireturn, 1) := by decide +kernel
theorem d_Y_left_0 : decode b_Y_left 0 = .ok (.aload_n 0, 1) := by decide +kernel
theorem d_Y_left_1 : decode b_Y_left 1 = .ok (.invokevirtual 77, 3) := by decide +kernel
theorem d_Y_left_4 : decode b_Y_left 4 = .ok (.iload_n 1, 1) := by decide +kernel
theorem d_Y_left_5 : decode b_Y_left 5 = .ok (.ifCond .lt 15, 3) := by decide +kernel
theorem d_Y_left_8 : decode b_Y_left 8 = .ok (.iload_n 1, 1) := by decide +kernel
theorem d_Y_left_9 : decode b_Y_left 9 = .ok (.aload_n 0, 1) := by decide +kernel
theorem d_Y_left_10 : decode b_Y_left 10 = .ok (.getfield 74, 3) := by decide +kernel
theorem d_Y_left_13 : decode b_Y_left 13 = .ok (.if_icmp .ge 7, 3) := by decide +kernel
theorem d_Y_left_16 : decode b_Y_left 16 = .ok (.iload_n 2, 1) := by decide +kernel
theorem d_Y_left_17 : decode b_Y_left 17 = .ok (.ifCond .ge 6, 3) := by decide +kernel
theorem d_Y_left_20 : decode b_Y_left 20 = .ok (.bipush (-2), 2) := by decide +kernel
theorem d_Y_left_22 : decode b_Y_left 22 = .ok (.ireturn, 1) := by decide +kernel
theorem d_Y_left_23 : decode b_Y_left 23 = .ok (.iload_n 2, 1) := by decide +kernel
theorem d_Y_left_24 : decode b_Y_left 24 = .ok (.istore_n 3, 1) := by decide +kernel
theorem d_Y_left_25 : decode b_Y_left 25 = .ok (.iconst 0, 1) := by decide +kernel
theorem d_Y_left_26 : decode b_Y_left 26 = .ok (.istore 4, 2) := by decide +kernel
theorem d_Y_left_28 : decode b_Y_left 28 = .ok (.iload 4, 2) := by decide +kernel
theorem d_Y_left_30 : decode b_Y_left 30 = .ok (.aload_n 0, 1) := by decide +kernel
theorem d_Y_left_31 : decode b_Y_left 31 = .ok (.getfield 35, 3) := by decide +kernel
theorem d_Y_left_34 : decode b_Y_left 34 = .ok (.if_icmp .ge 36, 3) := by decide +kernel
theorem d_Y_left_37 : decode b_Y_left 37 = .ok (.aload_n 0, 1) := by decide +kernel
theorem d_Y_left_38 : decode b_Y_left 38 = .ok (.getfield 32, 3) := by decide +kernel
theorem d_Y_left_41 : decode b_Y_left 41 = .ok (.iload_n 1, 1) := by decide +kernel
theorem d_Y_left_42 : decode b_Y_left 42 = .ok (.iaload, 1) := by decide +kernel
theorem d_Y_left_43 : decode b_Y_left 43 = .ok (.iload 4, 2) := by decide +kernel
theorem d_Y_left_45 : decode b_Y_left 45 = .ok (.invokestatic 60, 3) := by decide +kernel
theorem d_Y_left_48 : decode b_Y_left 48 = .ok (.ifCond .eq 6, 3) := by decide +kernel
theorem d_Y_left_51 : decode b_Y_left 51 = .ok (.goto 13, 3) := by decide +kernel
theorem d_Y_left_54 : decode b_Y_left 54 = .ok (.iload_n 3, 1) := by decide +kernel
theorem d_Y_left_55 : decode b_Y_left 55 = .ok (.ifCond .ne 6, 3) := by decide +kernel
theorem d_Y_left_58 : decode b_Y_left 58 = .ok (.iload 4, 2) := by decide +kernel
theorem d_Y_left_60 : decode b_Y_left 60 = .ok (.ireturn, 1) := by decide +kernel
theorem d_Y_left_61 : decode b_Y_left 61 = .ok (.iinc 3 (-1), 3) := by decide +kernel
theorem d_Y_left_64 : decode b_Y_left 64 = .ok (.iinc 4 1, 3) := by decide +kernel
theorem d_Y_left_67 : decode b_Y_left 67 = .ok (.goto (-39), 3) := by decide +kernel
theorem d_Y_left_70 : decode b_Y_left 70 = .ok (.bipush (-2), 2) := by decide +kernel
theorem d_Y_left_72 : decode b_Y_left 72 = .ok (.ireturn, 1) := by decide +kernel
theorem d_Y_told_0 : decode b_Y_told 0 = .ok (.aload_n 0, 1) := by decide +kernel
theorem d_Y_told_1 : decode b_Y_told 1 = .ok (.getfield 74, 3) := by decide +kernel
theorem d_Y_told_4 : decode b_Y_told 4 = .ok (.ifCond .ne 8, 3) := by decide +kernel
theorem d_Y_told_7 : decode b_Y_told 7 = .ok (.bipush (-2), 2) := by decide +kernel
theorem d_Y_told_9 : decode b_Y_told 9 = .ok (.goto 24, 3) := by decide +kernel
theorem d_Y_told_12 : decode b_Y_told 12 = .ok (.iload_n 1, 1) := by decide +kernel
theorem d_Y_told_13 : decode b_Y_told 13 = .ok (.aload_n 0, 1) := by decide +kernel
theorem d_Y_told_14 : decode b_Y_told 14 = .ok (.getfield 74, 3) := by decide +kernel
theorem d_Y_told_17 : decode b_Y_told 17 = .ok (.if_icmp .ne 7, 3) := by decide +kernel
theorem d_Y_told_20 : decode b_Y_told 20 = .ok (.iconst 2, 1) := by decide +kernel
theorem d_Y_told_21 : decode b_Y_told 21 = .ok (.goto 12, 3) := by decide +kernel
theorem d_Y_told_24 : decode b_Y_told 24 = .ok (.iload_n 1, 1) := by decide +kernel
theorem d_Y_told_25 : decode b_Y_told 25 = .ok (.ifCond .le 7, 3) := by decide +kernel
theorem d_Y_told_28 : decode b_Y_told 28 = .ok (.iconst 1, 1) := by decide +kernel
theorem d_Y_told_29 : decode b_Y_told 29 = .ok (.goto 4, 3) := by decide +kernel
theorem d_Y_told_32 : decode b_Y_told 32 = .ok (.iconst 0, 1) := by decide +kernel
theorem d_Y_told_33 : decode b_Y_told 33 = .ok (.ireturn, 1) := by decide +kernel
theorem d_Y_truth_0 : decode b_Y_truth 0 = .ok (.iload_n 1, 1) := by decide +kernel
theorem d_Y_truth_1 : decode b_Y_truth 1 = .ok (.ifCond .lt 9, 3) := by decide +kernel
theorem d_Y_truth_4 : decode b_Y_truth 4 = .ok (.iload_n 1, 1) := by decide +kernel
theorem d_Y_truth_5 : decode b_Y_truth 5 = .ok (.bipush 8, 2) := by decide +kernel
theorem d_Y_truth_7 : decode b_Y_truth 7 = .ok (.if_icmp .lt 5, 3) := by decide +kernel
theorem d_Y_truth_10 : decode b_Y_truth 10 = .ok (.iconst (-1), 1) := by decide +kernel
theorem d_Y_truth_11 : decode b_Y_truth 11 = .ok (.ireturn, 1) := by decide +kernel
theorem d_Y_truth_12 : decode b_Y_truth 12 = .ok (.aload_n 0, 1) := by decide +kernel
theorem d_Y_truth_13 : decode b_Y_truth 13 = .ok (.invokevirtual 77, 3) := by decide +kernel
theorem d_Y_truth_16 : decode b_Y_truth 16 = .ok (.iconst 0, 1) := by decide +kernel
theorem d_Y_truth_17 : decode b_Y_truth 17 = .ok (.istore_n 2, 1) := by decide +kernel
theorem d_Y_truth_18 : decode b_Y_truth 18 = .ok (.iconst 0, 1) := by decide +kernel
theorem d_Y_truth_19 : decode b_Y_truth 19 = .ok (.istore_n 3, 1) := by decide +kernel
theorem d_Y_truth_20 : decode b_Y_truth 20 = .ok (.iload_n 3, 1) := by decide +kernel
theorem d_Y_truth_21 : decode b_Y_truth 21 = .ok (.aload_n 0, 1) := by decide +kernel
theorem d_Y_truth_22 : decode b_Y_truth 22 = .ok (.getfield 74, 3) := by decide +kernel
theorem d_Y_truth_25 : decode b_Y_truth 25 = .ok (.if_icmp .ge 85, 3) := by decide +kernel
theorem d_Y_truth_28 : decode b_Y_truth 28 = .ok (.iconst 0, 1) := by decide +kernel
theorem d_Y_truth_29 : decode b_Y_truth 29 = .ok (.istore 4, 2) := by decide +kernel
theorem d_Y_truth_31 : decode b_Y_truth 31 = .ok (.iconst 0, 1) := by decide +kernel
theorem d_Y_truth_32 : decode b_Y_truth 32 = .ok (.istore 5, 2) := by decide +kernel
theorem d_Y_truth_34 : decode b_Y_truth 34 = .ok (.iload 5, 2) := by decide +kernel
theorem d_Y_truth_36 : decode b_Y_truth 36 = .ok (.aload_n 0, 1) := by decide +kernel
theorem d_Y_truth_37 : decode b_Y_truth 37 = .ok (.getfield 54, 3) := by decide +kernel
theorem d_Y_truth_40 : decode b_Y_truth 40 = .ok (.if_icmp .ge 51, 3) := by decide +kernel
theorem d_Y_truth_43 : decode b_Y_truth 43 = .ok (.iload 4, 2) := by decide +kernel
theorem d_Y_truth_45 : decode b_Y_truth 45 = .ok (.ifCond .ne 33, 3) := by decide +kernel
theorem d_Y_truth_48 : decode b_Y_truth 48 = .ok (.aload_n 0, 1) := by decide +kernel
theorem d_Y_truth_49 : decode b_Y_truth 49 = .ok (.getfield 23, 3) := by decide +kernel
theorem d_Y_truth_52 : decode b_Y_truth 52 = .ok (.iload 5, 2) := by decide +kernel
theorem d_Y_truth_54 : decode b_Y_truth 54 = .ok (.iaload, 1) := by decide +kernel
theorem d_Y_truth_55 : decode b_Y_truth 55 = .ok (.iload_n 1, 1) := by decide +kernel
theorem d_Y_truth_56 : decode b_Y_truth 56 = .ok (.if_icmp .ne 26, 3) := by decide +kernel
theorem d_Y_truth_59 : decode b_Y_truth 59 = .ok (.aload_n 0, 1) := by decide +kernel
theorem d_Y_truth_60 : decode b_Y_truth 60 = .ok (.getfield 26, 3) := by decide +kernel
theorem d_Y_truth_63 : decode b_Y_truth 63 = .ok (.iload 5, 2) := by decide +kernel
theorem d_Y_truth_65 : decode b_Y_truth 65 = .ok (.iaload, 1) := by decide +kernel
theorem d_Y_truth_66 : decode b_Y_truth 66 = .ok (.aload_n 0, 1) := by decide +kernel
theorem d_Y_truth_67 : decode b_Y_truth 67 = .ok (.getfield 32, 3) := by decide +kernel
theorem d_Y_truth_70 : decode b_Y_truth 70 = .ok (.iload_n 3, 1) := by decide +kernel
theorem d_Y_truth_71 : decode b_Y_truth 71 = .ok (.iaload, 1) := by decide +kernel
theorem d_Y_truth_72 : decode b_Y_truth 72 = .ok (.iconst (-1), 1) := by decide +kernel
theorem d_Y_truth_73 : decode b_Y_truth 73 = .ok (.ixor, 1) := by decide +kernel
theorem d_Y_truth_74 : decode b_Y_truth 74 = .ok (.iand, 1) := by decide +kernel
theorem d_Y_truth_75 : decode b_Y_truth 75 = .ok (.ifCond .ne 7, 3) := by decide +kernel
theorem d_Y_truth_78 : decode b_Y_truth 78 = .ok (.iconst 1, 1) := by decide +kernel
theorem d_Y_truth_79 : decode b_Y_truth 79 = .ok (.goto 4, 3) := by decide +kernel
theorem d_Y_truth_82 : decode b_Y_truth 82 = .ok (.iconst 0, 1) := by decide +kernel
theorem d_Y_truth_83 : decode b_Y_truth 83 = .ok (.istore 4, 2) := by decide +kernel
theorem d_Y_truth_85 : decode b_Y_truth 85 = .ok (.iinc 5 1, 3) := by decide +kernel
theorem d_Y_truth_88 : decode b_Y_truth 88 = .ok (.goto (-54), 3) := by decide +kernel
theorem d_Y_truth_91 : decode b_Y_truth 91 = .ok (.iload_n 2, 1) := by decide +kernel
theorem d_Y_truth_92 : decode b_Y_truth 92 = .ok (.iload 4, 2) := by decide +kernel
theorem d_Y_truth_94 : decode b_Y_truth 94 = .ok (.ifCond .eq 7, 3) := by decide +kernel
theorem d_Y_truth_97 : decode b_Y_truth 97 = .ok (.iconst 1, 1) := by decide +kernel
theorem d_Y_truth_98 : decode b_Y_truth 98 = .ok (.goto 4, 3) := by decide +kernel
theorem d_Y_truth_101 : decode b_Y_truth 101 = .ok (.iconst 0, 1) := by decide +kernel
theorem d_Y_truth_102 : decode b_Y_truth 102 = .ok (.iadd, 1) := by decide +kernel
theorem d_Y_truth_103 : decode b_Y_truth 103 = .ok (.istore_n 2, 1) := by decide +kernel
theorem d_Y_truth_104 : decode b_Y_truth 104 = .ok (.iinc 3 1, 3) := by decide +kernel
theorem d_Y_truth_107 : decode b_Y_truth 107 = .ok (.goto (-87), 3) := by decide +kernel
theorem d_Y_truth_110 : decode b_Y_truth 110 = .ok (.aload_n 0, 1) := by decide +kernel
theorem d_Y_truth_111 : decode b_Y_truth 111 = .ok (.iload_n 2, 1) := by decide +kernel
theorem d_Y_truth_112 : decode b_Y_truth 112 = .ok (.invokevirtual 80, 3) := by decide +kernel
theorem d_Y_truth_115 : decode b_Y_truth 115 = .ok (.ireturn, 1) := by decide +kernel
theorem d_Y_surely_0 : decode b_Y_surely 0 = .ok (.aload_n 0, 1) := by decide +kernel
theorem d_Y_surely_1 : decode b_Y_surely 1 = .ok (.iload_n 1, 1) := by decide +kernel
theorem d_Y_surely_2 : decode b_Y_surely 2 = .ok (.invokevirtual 47, 3) := by decide +kernel
theorem d_Y_surely_5 : decode b_Y_surely 5 = .ok (.ifCond .ne 5, 3) := by decide +kernel
theorem d_Y_surely_8 : decode b_Y_surely 8 = .ok (.iconst (-1), 1) := by decide +kernel
theorem d_Y_surely_9 : decode b_Y_surely 9 = .ok (.ireturn, 1) := by decide +kernel
theorem d_Y_surely_10 : decode b_Y_surely 10 = .ok (.aload_n 0, 1) := by decide +kernel
theorem d_Y_surely_11 : decode b_Y_surely 11 = .ok (.invokevirtual 77, 3) := by decide +kernel
theorem d_Y_surely_14 : decode b_Y_surely 14 = .ok (.iconst 0, 1) := by decide +kernel
theorem d_Y_surely_15 : decode b_Y_surely 15 = .ok (.istore_n 2, 1) := by decide +kernel
theorem d_Y_surely_16 : decode b_Y_surely 16 = .ok (.iconst 0, 1) := by decide +kernel
theorem d_Y_surely_17 : decode b_Y_surely 17 = .ok (.istore_n 3, 1) := by decide +kernel
theorem d_Y_surely_18 : decode b_Y_surely 18 = .ok (.iload_n 3, 1) := by decide +kernel
theorem d_Y_surely_19 : decode b_Y_surely 19 = .ok (.aload_n 0, 1) := by decide +kernel
theorem d_Y_surely_20 : decode b_Y_surely 20 = .ok (.getfield 74, 3) := by decide +kernel
theorem d_Y_surely_23 : decode b_Y_surely 23 = .ok (.if_icmp .ge 30, 3) := by decide +kernel
theorem d_Y_surely_26 : decode b_Y_surely 26 = .ok (.iload_n 2, 1) := by decide +kernel
theorem d_Y_surely_27 : decode b_Y_surely 27 = .ok (.aload_n 0, 1) := by decide +kernel
theorem d_Y_surely_28 : decode b_Y_surely 28 = .ok (.getfield 32, 3) := by decide +kernel
theorem d_Y_surely_31 : decode b_Y_surely 31 = .ok (.iload_n 3, 1) := by decide +kernel
theorem d_Y_surely_32 : decode b_Y_surely 32 = .ok (.iaload, 1) := by decide +kernel
theorem d_Y_surely_33 : decode b_Y_surely 33 = .ok (.iload_n 1, 1) := by decide +kernel
theorem d_Y_surely_34 : decode b_Y_surely 34 = .ok (.invokestatic 60, 3) := by decide +kernel
theorem d_Y_surely_37 : decode b_Y_surely 37 = .ok (.ifCond .eq 7, 3) := by decide +kernel
theorem d_Y_surely_40 : decode b_Y_surely 40 = .ok (.iconst 1, 1) := by decide +kernel
theorem d_Y_surely_41 : decode b_Y_surely 41 = .ok (.goto 4, 3) := by decide +kernel
theorem d_Y_surely_44 : decode b_Y_surely 44 = .ok (.iconst 0, 1) := by decide +kernel
theorem d_Y_surely_45 : decode b_Y_surely 45 = .ok (.iadd, 1) := by decide +kernel
theorem d_Y_surely_46 : decode b_Y_surely 46 = .ok (.istore_n 2, 1) := by decide +kernel
theorem d_Y_surely_47 : decode b_Y_surely 47 = .ok (.iinc 3 1, 3) := by decide +kernel
theorem d_Y_surely_50 : decode b_Y_surely 50 = .ok (.goto (-32), 3) := by decide +kernel
theorem d_Y_surely_53 : decode b_Y_surely 53 = .ok (.aload_n 0, 1) := by decide +kernel
theorem d_Y_surely_54 : decode b_Y_surely 54 = .ok (.iload_n 2, 1) := by decide +kernel
theorem d_Y_surely_55 : decode b_Y_surely 55 = .ok (.invokevirtual 80, 3) := by decide +kernel
theorem d_Y_surely_58 : decode b_Y_surely 58 = .ok (.ireturn, 1) := by decide +kernel
theorem d_Y_isLeast_0 : decode b_Y_isLeast 0 = .ok (.iload_n 1, 1) := by decide +kernel
theorem d_Y_isLeast_1 : decode b_Y_isLeast 1 = .ok (.aload_n 0, 1) := by decide +kernel
theorem d_Y_isLeast_2 : decode b_Y_isLeast 2 = .ok (.getfield 35, 3) := by decide +kernel
theorem d_Y_isLeast_5 : decode b_Y_isLeast 5 = .ok (.ishr, 1) := by decide +kernel
theorem d_Y_isLeast_6 : decode b_Y_isLeast 6 = .ok (.ifCond .eq 5, 3) := by decide +kernel
theorem d_Y_isLeast_9 : decode b_Y_isLeast 9 = .ok (.iconst 0, 1) := by decide +kernel
theorem d_Y_isLeast_10 : decode b_Y_isLeast 10 = .ok (.ireturn, 1) := by decide +kernel
theorem d_Y_isLeast_11 : decode b_Y_isLeast 11 = .ok (.iconst 0, 1) := by decide +kernel
theorem d_Y_isLeast_12 : decode b_Y_isLeast 12 = .ok (.istore_n 2, 1) := by decide +kernel
theorem d_Y_isLeast_13 : decode b_Y_isLeast 13 = .ok (.iconst 1, 1) := by decide +kernel
theorem d_Y_isLeast_14 : decode b_Y_isLeast 14 = .ok (.istore_n 3, 1) := by decide +kernel
theorem d_Y_isLeast_15 : decode b_Y_isLeast 15 = .ok (.iconst 0, 1) := by decide +kernel
theorem d_Y_isLeast_16 : decode b_Y_isLeast 16 = .ok (.istore 4, 2) := by decide +kernel
theorem d_Y_isLeast_18 : decode b_Y_isLeast 18 = .ok (.iload 4, 2) := by decide +kernel
theorem d_Y_isLeast_20 : decode b_Y_isLeast 20 = .ok (.aload_n 0, 1) := by decide +kernel
theorem d_Y_isLeast_21 : decode b_Y_isLeast 21 = .ok (.getfield 51, 3) := by decide +kernel
theorem d_Y_isLeast_24 : decode b_Y_isLeast 24 = .ok (.if_icmp .ge 65, 3) := by decide +kernel
theorem d_Y_isLeast_27 : decode b_Y_isLeast 27 = .ok (.iload_n 2, 1) := by decide +kernel
theorem d_Y_isLeast_28 : decode b_Y_isLeast 28 = .ok (.ifCond .ne 14, 3) := by decide +kernel
theorem d_Y_isLeast_31 : decode b_Y_isLeast 31 = .ok (.aload_n 0, 1) := by decide +kernel
theorem d_Y_isLeast_32 : decode b_Y_isLeast 32 = .ok (.getfield 20, 3) := by decide +kernel
theorem d_Y_isLeast_35 : decode b_Y_isLeast 35 = .ok (.iload 4, 2) := by decide +kernel
theorem d_Y_isLeast_37 : decode b_Y_isLeast 37 = .ok (.iaload, 1) := by decide +kernel
theorem d_Y_isLeast_38 : decode b_Y_isLeast 38 = .ok (.iload_n 1, 1) := by decide +kernel
theorem d_Y_isLeast_39 : decode b_Y_isLeast 39 = .ok (.if_icmp .ne 7, 3) := by decide +kernel
theorem d_Y_isLeast_42 : decode b_Y_isLeast 42 = .ok (.iconst 1, 1) := by decide +kernel
theorem d_Y_isLeast_43 : decode b_Y_isLeast 43 = .ok (.goto 4, 3) := by decide +kernel
theorem d_Y_isLeast_46 : decode b_Y_isLeast 46 = .ok (.iconst 0, 1) := by decide +kernel
theorem d_Y_isLeast_47 : decode b_Y_isLeast 47 = .ok (.istore_n 2, 1) := by decide +kernel
theorem d_Y_isLeast_48 : decode b_Y_isLeast 48 = .ok (.iload_n 3, 1) := by decide +kernel
theorem d_Y_isLeast_49 : decode b_Y_isLeast 49 = .ok (.ifCond .eq 32, 3) := by decide +kernel
theorem d_Y_isLeast_52 : decode b_Y_isLeast 52 = .ok (.aload_n 0, 1) := by decide +kernel
theorem d_Y_isLeast_53 : decode b_Y_isLeast 53 = .ok (.getfield 20, 3) := by decide +kernel
theorem d_Y_isLeast_56 : decode b_Y_isLeast 56 = .ok (.iload 4, 2) := by decide +kernel
theorem d_Y_isLeast_58 : decode b_Y_isLeast 58 = .ok (.iaload, 1) := by decide +kernel
theorem d_Y_isLeast_59 : decode b_Y_isLeast 59 = .ok (.iload_n 1, 1) := by decide +kernel
theorem d_Y_isLeast_60 : decode b_Y_isLeast 60 = .ok (.if_icmp .eq 17, 3) := by decide +kernel
theorem d_Y_isLeast_63 : decode b_Y_isLeast 63 = .ok (.aload_n 0, 1) := by decide +kernel
theorem d_Y_isLeast_64 : decode b_Y_isLeast 64 = .ok (.getfield 20, 3) := by decide +kernel
theorem d_Y_isLeast_67 : decode b_Y_isLeast 67 = .ok (.iload 4, 2) := by decide +kernel
theorem d_Y_isLeast_69 : decode b_Y_isLeast 69 = .ok (.iaload, 1) := by decide +kernel
theorem d_Y_isLeast_70 : decode b_Y_isLeast 70 = .ok (.iload_n 1, 1) := by decide +kernel
theorem d_Y_isLeast_71 : decode b_Y_isLeast 71 = .ok (.iconst (-1), 1) := by decide +kernel
theorem d_Y_isLeast_72 : decode b_Y_isLeast 72 = .ok (.ixor, 1) := by decide +kernel
theorem d_Y_isLeast_73 : decode b_Y_isLeast 73 = .ok (.iand, 1) := by decide +kernel
theorem d_Y_isLeast_74 : decode b_Y_isLeast 74 = .ok (.ifCond .eq 7, 3) := by decide +kernel
theorem d_Y_isLeast_77 : decode b_Y_isLeast 77 = .ok (.iconst 1, 1) := by decide +kernel
theorem d_Y_isLeast_78 : decode b_Y_isLeast 78 = .ok (.goto 4, 3) := by decide +kernel
theorem d_Y_isLeast_81 : decode b_Y_isLeast 81 = .ok (.iconst 0, 1) := by decide +kernel
theorem d_Y_isLeast_82 : decode b_Y_isLeast 82 = .ok (.istore_n 3, 1) := by decide +kernel
theorem d_Y_isLeast_83 : decode b_Y_isLeast 83 = .ok (.iinc 4 1, 3) := by decide +kernel
theorem d_Y_isLeast_86 : decode b_Y_isLeast 86 = .ok (.goto (-68), 3) := by decide +kernel
theorem d_Y_isLeast_89 : decode b_Y_isLeast 89 = .ok (.iload_n 2, 1) := by decide +kernel
theorem d_Y_isLeast_90 : decode b_Y_isLeast 90 = .ok (.ifCond .eq 11, 3) := by decide +kernel
theorem d_Y_isLeast_93 : decode b_Y_isLeast 93 = .ok (.iload_n 3, 1) := by decide +kernel
theorem d_Y_isLeast_94 : decode b_Y_isLeast 94 = .ok (.ifCond .eq 7, 3) := by decide +kernel
theorem d_Y_isLeast_97 : decode b_Y_isLeast 97 = .ok (.iconst 1, 1) := by decide +kernel
theorem d_Y_isLeast_98 : decode b_Y_isLeast 98 = .ok (.goto 4, 3) := by decide +kernel
theorem d_Y_isLeast_101 : decode b_Y_isLeast 101 = .ok (.iconst 0, 1) := by decide +kernel
theorem d_Y_isLeast_102 : decode b_Y_isLeast 102 = .ok (.ireturn, 1) := by decide +kernel
theorem d_Y_least_0 : decode b_Y_least 0 = .ok (.iload_n 1, 1) := by decide +kernel
theorem d_Y_least_1 : decode b_Y_least 1 = .ok (.istore_n 2, 1) := by decide +kernel
theorem d_Y_least_2 : decode b_Y_least 2 = .ok (.iconst 0, 1) := by decide +kernel
theorem d_Y_least_3 : decode b_Y_least 3 = .ok (.istore_n 3, 1) := by decide +kernel
theorem d_Y_least_4 : decode b_Y_least 4 = .ok (.iload_n 3, 1) := by decide +kernel
theorem d_Y_least_5 : decode b_Y_least 5 = .ok (.sipush 2048, 3) := by decide +kernel
theorem d_Y_least_8 : decode b_Y_least 8 = .ok (.if_icmp .ge 33, 3) := by decide +kernel
theorem d_Y_least_11 : decode b_Y_least 11 = .ok (.iload_n 1, 1) := by decide +kernel
theorem d_Y_least_12 : decode b_Y_least 12 = .ok (.ifCond .lt 29, 3) := by decide +kernel
theorem d_Y_least_15 : decode b_Y_least 15 = .ok (.aload_n 0, 1) := by decide +kernel
theorem d_Y_least_16 : decode b_Y_least 16 = .ok (.iload_n 3, 1) := by decide +kernel
theorem d_Y_least_17 : decode b_Y_least 17 = .ok (.invokevirtual 84, 3) := by decide +kernel
theorem d_Y_least_20 : decode b_Y_least 20 = .ok (.ifCond .ne 6, 3) := by decide +kernel
theorem d_Y_least_23 : decode b_Y_least 23 = .ok (.goto 12, 3) := by decide +kernel
theorem d_Y_least_26 : decode b_Y_least 26 = .ok (.iload_n 2, 1) := by decide +kernel
theorem d_Y_least_27 : decode b_Y_least 27 = .ok (.ifCond .ne 5, 3) := by decide +kernel
theorem d_Y_least_30 : decode b_Y_least 30 = .ok (.iload_n 3, 1) := by decide +kernel
theorem d_Y_least_31 : decode b_Y_least 31 = .ok (.ireturn, 1) := by decide +kernel
theorem d_Y_least_32 : decode b_Y_least 32 = .ok (.iinc 2 (-1), 3) := by decide +kernel
theorem d_Y_least_35 : decode b_Y_least 35 = .ok (.iinc 3 1, 3) := by decide +kernel
theorem d_Y_least_38 : decode b_Y_least 38 = .ok (.goto (-34), 3) := by decide +kernel
theorem d_Y_least_41 : decode b_Y_least 41 = .ok (.bipush (-2), 2) := by decide +kernel
theorem d_Y_least_43 : decode b_Y_least 43 = .ok (.ireturn, 1) := by decide +kernel
theorem d_Y_size_0 : decode b_Y_size 0 = .ok (.aload_n 0, 1) := by decide +kernel
theorem d_Y_size_1 : decode b_Y_size 1 = .ok (.getfield 35, 3) := by decide +kernel
theorem d_Y_size_4 : decode b_Y_size 4 = .ok (.ireturn, 1) := by decide +kernel
end
section
theorem d_L_law_0 : decode code 0 = .ok (.new 7, 3) := by decide +kernel
theorem d_L_law_3 : decode code 3 = .ok (.dup, 1) := by decide +kernel
theorem d_L_law_4 : decode code 4 = .ok (.invokespecial 9, 3) := by decide +kernel
theorem d_L_law_7 : decode code 7 = .ok (.astore_n 1, 1) := by decide +kernel
theorem d_L_law_8 : decode code 8 = .ok (.new 10, 3) := by decide +kernel
theorem d_L_law_11 : decode code 11 = .ok (.dup, 1) := by decide +kernel
theorem d_L_law_12 : decode code 12 = .ok (.invokespecial 12, 3) := by decide +kernel
theorem d_L_law_15 : decode code 15 = .ok (.astore_n 2, 1) := by decide +kernel
theorem d_L_law_16 : decode code 16 = .ok (.iconst 0, 1) := by decide +kernel
theorem d_L_law_17 : decode code 17 = .ok (.istore_n 3, 1) := by decide +kernel
theorem d_L_law_18 : decode code 18 = .ok (.iload_n 3, 1) := by decide +kernel
theorem d_L_law_19 : decode code 19 = .ok (.aload_n 0, 1) := by decide +kernel
theorem d_L_law_20 : decode code 20 = .ok (.arraylength, 1) := by decide +kernel
theorem d_L_law_21 : decode code 21 = .ok (.iconst 4, 1) := by decide +kernel
theorem d_L_law_22 : decode code 22 = .ok (.isub, 1) := by decide +kernel
theorem d_L_law_23 : decode code 23 = .ok (.if_icmp .gt 528, 3) := by decide +kernel
theorem d_L_law_26 : decode code 26 = .ok (.aload_n 0, 1) := by decide +kernel
theorem d_L_law_27 : decode code 27 = .ok (.iload_n 3, 1) := by decide +kernel
theorem d_L_law_28 : decode code 28 = .ok (.iaload, 1) := by decide +kernel
theorem d_L_law_29 : decode code 29 = .ok (.bipush 15, 2) := by decide +kernel
theorem d_L_law_31 : decode code 31 = .ok (.iand, 1) := by decide +kernel
theorem d_L_law_32 : decode code 32 = .ok (.tableswitch 513 0 14 #[76, 135, 184, 227, 250, 263, 296, 319, 332, 355, 388, 411, 434, 477, 500], 76) := by decide +kernel
theorem d_L_law_108 : decode code 108 = .ok (.aload_n 1, 1) := by decide +kernel
theorem d_L_law_109 : decode code 109 = .ok (.aload_n 0, 1) := by decide +kernel
theorem d_L_law_110 : decode code 110 = .ok (.iload_n 3, 1) := by decide +kernel
theorem d_L_law_111 : decode code 111 = .ok (.iconst 1, 1) := by decide +kernel
theorem d_L_law_112 : decode code 112 = .ok (.iadd, 1) := by decide +kernel
theorem d_L_law_113 : decode code 113 = .ok (.iaload, 1) := by decide +kernel
theorem d_L_law_114 : decode code 114 = .ok (.ifCond .eq 7, 3) := by decide +kernel
theorem d_L_law_117 : decode code 117 = .ok (.iconst 1, 1) := by decide +kernel
theorem d_L_law_118 : decode code 118 = .ok (.goto 4, 3) := by decide +kernel
theorem d_L_law_121 : decode code 121 = .ok (.iconst 0, 1) := by decide +kernel
theorem d_L_law_122 : decode code 122 = .ok (.aload_n 0, 1) := by decide +kernel
theorem d_L_law_123 : decode code 123 = .ok (.iload_n 3, 1) := by decide +kernel
theorem d_L_law_124 : decode code 124 = .ok (.iconst 2, 1) := by decide +kernel
theorem d_L_law_125 : decode code 125 = .ok (.iadd, 1) := by decide +kernel
theorem d_L_law_126 : decode code 126 = .ok (.iaload, 1) := by decide +kernel
theorem d_L_law_127 : decode code 127 = .ok (.aload_n 0, 1) := by decide +kernel
theorem d_L_law_128 : decode code 128 = .ok (.iload_n 3, 1) := by decide +kernel
theorem d_L_law_129 : decode code 129 = .ok (.iconst 3, 1) := by decide +kernel
theorem d_L_law_130 : decode code 130 = .ok (.iadd, 1) := by decide +kernel
theorem d_L_law_131 : decode code 131 = .ok (.iaload, 1) := by decide +kernel
theorem d_L_law_132 : decode code 132 = .ok (.invokevirtual 13, 3) := by decide +kernel
theorem d_L_law_135 : decode code 135 = .ok (.aload_n 2, 1) := by decide +kernel
theorem d_L_law_136 : decode code 136 = .ok (.aload_n 0, 1) := by decide +kernel
theorem d_L_law_137 : decode code 137 = .ok (.iload_n 3, 1) := by decide +kernel
theorem d_L_law_138 : decode code 138 = .ok (.iconst 1, 1) := by decide +kernel
theorem d_L_law_139 : decode code 139 = .ok (.iadd, 1) := by decide +kernel
theorem d_L_law_140 : decode code 140 = .ok (.iaload, 1) := by decide +kernel
theorem d_L_law_141 : decode code 141 = .ok (.ifCond .eq 7, 3) := by decide +kernel
theorem d_L_law_144 : decode code 144 = .ok (.iconst 1, 1) := by decide +kernel
theorem d_L_law_145 : decode code 145 = .ok (.goto 4, 3) := by decide +kernel
theorem d_L_law_148 : decode code 148 = .ok (.iconst 0, 1) := by decide +kernel
theorem d_L_law_149 : decode code 149 = .ok (.aload_n 0, 1) := by decide +kernel
theorem d_L_law_150 : decode code 150 = .ok (.iload_n 3, 1) := by decide +kernel
theorem d_L_law_151 : decode code 151 = .ok (.iconst 2, 1) := by decide +kernel
theorem d_L_law_152 : decode code 152 = .ok (.iadd, 1) := by decide +kernel
theorem d_L_law_153 : decode code 153 = .ok (.iaload, 1) := by decide +kernel
theorem d_L_law_154 : decode code 154 = .ok (.aload_n 0, 1) := by decide +kernel
theorem d_L_law_155 : decode code 155 = .ok (.iload_n 3, 1) := by decide +kernel
theorem d_L_law_156 : decode code 156 = .ok (.iconst 3, 1) := by decide +kernel
theorem d_L_law_157 : decode code 157 = .ok (.iadd, 1) := by decide +kernel
theorem d_L_law_158 : decode code 158 = .ok (.iaload, 1) := by decide +kernel
theorem d_L_law_159 : decode code 159 = .ok (.invokevirtual 17, 3) := by decide +kernel
theorem d_L_law_162 : decode code 162 = .ok (.if_icmp .eq 383, 3) := by decide +kernel
theorem d_L_law_165 : decode code 165 = .ok (.iconst 0, 1) := by decide +kernel
theorem d_L_law_166 : decode code 166 = .ok (.ireturn, 1) := by decide +kernel
theorem d_L_law_167 : decode code 167 = .ok (.aload_n 1, 1) := by decide +kernel
theorem d_L_law_168 : decode code 168 = .ok (.aload_n 0, 1) := by decide +kernel
theorem d_L_law_169 : decode code 169 = .ok (.iload_n 3, 1) := by decide +kernel
theorem d_L_law_170 : decode code 170 = .ok (.iconst 1, 1) := by decide +kernel
theorem d_L_law_171 : decode code 171 = .ok (.iadd, 1) := by decide +kernel
theorem d_L_law_172 : decode code 172 = .ok (.iaload, 1) := by decide +kernel
theorem d_L_law_173 : decode code 173 = .ok (.aload_n 0, 1) := by decide +kernel
theorem d_L_law_174 : decode code 174 = .ok (.iload_n 3, 1) := by decide +kernel
theorem d_L_law_175 : decode code 175 = .ok (.iconst 2, 1) := by decide +kernel
theorem d_L_law_176 : decode code 176 = .ok (.iadd, 1) := by decide +kernel
theorem d_L_law_177 : decode code 177 = .ok (.iaload, 1) := by decide +kernel
theorem d_L_law_178 : decode code 178 = .ok (.ifCond .eq 7, 3) := by decide +kernel
theorem d_L_law_181 : decode code 181 = .ok (.iconst 1, 1) := by decide +kernel
theorem d_L_law_182 : decode code 182 = .ok (.goto 4, 3) := by decide +kernel
theorem d_L_law_185 : decode code 185 = .ok (.iconst 0, 1) := by decide +kernel
theorem d_L_law_186 : decode code 186 = .ok (.invokevirtual 18, 3) := by decide +kernel
theorem d_L_law_189 : decode code 189 = .ok (.aload_n 2, 1) := by decide +kernel
theorem d_L_law_190 : decode code 190 = .ok (.aload_n 0, 1) := by decide +kernel
theorem d_L_law_191 : decode code 191 = .ok (.iload_n 3, 1) := by decide +kernel
theorem d_L_law_192 : decode code 192 = .ok (.iconst 1, 1) := by decide +kernel
theorem d_L_law_193 : decode code 193 = .ok (.iadd, 1) := by decide +kernel
theorem d_L_law_194 : decode code 194 = .ok (.iaload, 1) := by decide +kernel
theorem d_L_law_195 : decode code 195 = .ok (.aload_n 0, 1) := by decide +kernel
theorem d_L_law_196 : decode code 196 = .ok (.iload_n 3, 1) := by decide +kernel
theorem d_L_law_197 : decode code 197 = .ok (.iconst 2, 1) := by decide +kernel
theorem d_L_law_198 : decode code 198 = .ok (.iadd, 1) := by decide +kernel
theorem d_L_law_199 : decode code 199 = .ok (.iaload, 1) := by decide +kernel
theorem d_L_law_200 : decode code 200 = .ok (.ifCond .eq 7, 3) := by decide +kernel
theorem d_L_law_203 : decode code 203 = .ok (.iconst 1, 1) := by decide +kernel
theorem d_L_law_204 : decode code 204 = .ok (.goto 4, 3) := by decide +kernel
theorem d_L_law_207 : decode code 207 = .ok (.iconst 0, 1) := by decide +kernel
theorem d_L_law_208 : decode code 208 = .ok (.invokevirtual 22, 3) := by decide +kernel
theorem d_L_law_211 : decode code 211 = .ok (.if_icmp .eq 334, 3) := by decide +kernel
theorem d_L_law_214 : decode code 214 = .ok (.iconst 0, 1) := by decide +kernel
theorem d_L_law_215 : decode code 215 = .ok (.ireturn, 1) := by decide +kernel
theorem d_L_law_216 : decode code 216 = .ok (.aload_n 1, 1) := by decide +kernel
theorem d_L_law_217 : decode code 217 = .ok (.aload_n 0, 1) := by decide +kernel
theorem d_L_law_218 : decode code 218 = .ok (.iload_n 3, 1) := by decide +kernel
theorem d_L_law_219 : decode code 219 = .ok (.iconst 1, 1) := by decide +kernel
theorem d_L_law_220 : decode code 220 = .ok (.iadd, 1) := by decide +kernel
theorem d_L_law_221 : decode code 221 = .ok (.iaload, 1) := by decide +kernel
theorem d_L_law_222 : decode code 222 = .ok (.aload_n 0, 1) := by decide +kernel
theorem d_L_law_223 : decode code 223 = .ok (.iload_n 3, 1) := by decide +kernel
theorem d_L_law_224 : decode code 224 = .ok (.iconst 2, 1) := by decide +kernel
theorem d_L_law_225 : decode code 225 = .ok (.iadd, 1) := by decide +kernel
theorem d_L_law_226 : decode code 226 = .ok (.iaload, 1) := by decide +kernel
theorem d_L_law_227 : decode code 227 = .ok (.aload_n 0, 1) := by decide +kernel
theorem d_L_law_228 : decode code 228 = .ok (.iload_n 3, 1) := by decide +kernel
theorem d_L_law_229 : decode code 229 = .ok (.iconst 3, 1) := by decide +kernel
theorem d_L_law_230 : decode code 230 = .ok (.iadd, 1) := by decide +kernel
theorem d_L_law_231 : decode code 231 = .ok (.iaload, 1) := by decide +kernel
theorem d_L_law_232 : decode code 232 = .ok (.invokevirtual 23, 3) := by decide +kernel
theorem d_L_law_235 : decode code 235 = .ok (.aload_n 2, 1) := by decide +kernel
theorem d_L_law_236 : decode code 236 = .ok (.aload_n 0, 1) := by decide +kernel
theorem d_L_law_237 : decode code 237 = .ok (.iload_n 3, 1) := by decide +kernel
theorem d_L_law_238 : decode code 238 = .ok (.iconst 1, 1) := by decide +kernel
theorem d_L_law_239 : decode code 239 = .ok (.iadd, 1) := by decide +kernel
theorem d_L_law_240 : decode code 240 = .ok (.iaload, 1) := by decide +kernel
theorem d_L_law_241 : decode code 241 = .ok (.aload_n 0, 1) := by decide +kernel
theorem d_L_law_242 : decode code 242 = .ok (.iload_n 3, 1) := by decide +kernel
theorem d_L_law_243 : decode code 243 = .ok (.iconst 2, 1) := by decide +kernel
theorem d_L_law_244 : decode code 244 = .ok (.iadd, 1) := by decide +kernel
theorem d_L_law_245 : decode code 245 = .ok (.iaload, 1) := by decide +kernel
theorem d_L_law_246 : decode code 246 = .ok (.aload_n 0, 1) := by decide +kernel
theorem d_L_law_247 : decode code 247 = .ok (.iload_n 3, 1) := by decide +kernel
theorem d_L_law_248 : decode code 248 = .ok (.iconst 3, 1) := by decide +kernel
theorem d_L_law_249 : decode code 249 = .ok (.iadd, 1) := by decide +kernel
theorem d_L_law_250 : decode code 250 = .ok (.iaload, 1) := by decide +kernel
theorem d_L_law_251 : decode code 251 = .ok (.invokevirtual 27, 3) := by decide +kernel
theorem d_L_law_254 : decode code 254 = .ok (.if_icmp .eq 291, 3) := by decide +kernel
theorem d_L_law_257 : decode code 257 = .ok (.iconst 0, 1) := by decide +kernel
theorem d_L_law_258 : decode code 258 = .ok (.ireturn, 1) := by decide +kernel
theorem d_L_law_259 : decode code 259 = .ok (.aload_n 1, 1) := by decide +kernel
theorem d_L_law_260 : decode code 260 = .ok (.aload_n 0, 1) := by decide +kernel
theorem d_L_law_261 : decode code 261 = .ok (.iload_n 3, 1) := by decide +kernel
theorem d_L_law_262 : decode code 262 = .ok (.iconst 1, 1) := by decide +kernel
theorem d_L_law_263 : decode code 263 = .ok (.iadd, 1) := by decide +kernel
theorem d_L_law_264 : decode code 264 = .ok (.iaload, 1) := by decide +kernel
theorem d_L_law_265 : decode code 265 = .ok (.invokevirtual 28, 3) := by decide +kernel
theorem d_L_law_268 : decode code 268 = .ok (.aload_n 2, 1) := by decide +kernel
theorem d_L_law_269 : decode code 269 = .ok (.aload_n 0, 1) := by decide +kernel
theorem d_L_law_270 : decode code 270 = .ok (.iload_n 3, 1) := by decide +kernel
theorem d_L_law_271 : decode code 271 = .ok (.iconst 1, 1) := by decide +kernel
theorem d_L_law_272 : decode code 272 = .ok (.iadd, 1) := by decide +kernel
theorem d_L_law_273 : decode code 273 = .ok (.iaload, 1) := by decide +kernel
theorem d_L_law_274 : decode code 274 = .ok (.invokevirtual 32, 3) := by decide +kernel
theorem d_L_law_277 : decode code 277 = .ok (.if_icmp .eq 268, 3) := by decide +kernel
theorem d_L_law_280 : decode code 280 = .ok (.iconst 0, 1) := by decide +kernel
theorem d_L_law_281 : decode code 281 = .ok (.ireturn, 1) := by decide +kernel
theorem d_L_law_282 : decode code 282 = .ok (.aload_n 1, 1) := by decide +kernel
theorem d_L_law_283 : decode code 283 = .ok (.invokevirtual 33, 3) := by decide +kernel
theorem d_L_law_286 : decode code 286 = .ok (.aload_n 2, 1) := by decide +kernel
theorem d_L_law_287 : decode code 287 = .ok (.invokevirtual 37, 3) := by decide +kernel
theorem d_L_law_290 : decode code 290 = .ok (.if_icmp .eq 255, 3) := by decide +kernel
theorem d_L_law_293 : decode code 293 = .ok (.iconst 0, 1) := by decide +kernel
theorem d_L_law_294 : decode code 294 = .ok (.ireturn, 1) := by decide +kernel
theorem d_L_law_295 : decode code 295 = .ok (.aload_n 1, 1) := by decide +kernel
theorem d_L_law_296 : decode code 296 = .ok (.aload_n 0, 1) := by decide +kernel
theorem d_L_law_297 : decode code 297 = .ok (.iload_n 3, 1) := by decide +kernel
theorem d_L_law_298 : decode code 298 = .ok (.iconst 1, 1) := by decide +kernel
theorem d_L_law_299 : decode code 299 = .ok (.iadd, 1) := by decide +kernel
theorem d_L_law_300 : decode code 300 = .ok (.iaload, 1) := by decide +kernel
theorem d_L_law_301 : decode code 301 = .ok (.aload_n 0, 1) := by decide +kernel
theorem d_L_law_302 : decode code 302 = .ok (.iload_n 3, 1) := by decide +kernel
theorem d_L_law_303 : decode code 303 = .ok (.iconst 2, 1) := by decide +kernel
theorem d_L_law_304 : decode code 304 = .ok (.iadd, 1) := by decide +kernel
theorem d_L_law_305 : decode code 305 = .ok (.iaload, 1) := by decide +kernel
theorem d_L_law_306 : decode code 306 = .ok (.invokevirtual 38, 3) := by decide +kernel
theorem d_L_law_309 : decode code 309 = .ok (.aload_n 2, 1) := by decide +kernel
theorem d_L_law_310 : decode code 310 = .ok (.aload_n 0, 1) := by decide +kernel
theorem d_L_law_311 : decode code 311 = .ok (.iload_n 3, 1) := by decide +kernel
theorem d_L_law_312 : decode code 312 = .ok (.iconst 1, 1) := by decide +kernel
theorem d_L_law_313 : decode code 313 = .ok (.iadd, 1) := by decide +kernel
theorem d_L_law_314 : decode code 314 = .ok (.iaload, 1) := by decide +kernel
theorem d_L_law_315 : decode code 315 = .ok (.aload_n 0, 1) := by decide +kernel
theorem d_L_law_316 : decode code 316 = .ok (.iload_n 3, 1) := by decide +kernel
theorem d_L_law_317 : decode code 317 = .ok (.iconst 2, 1) := by decide +kernel
theorem d_L_law_318 : decode code 318 = .ok (.iadd, 1) := by decide +kernel
theorem d_L_law_319 : decode code 319 = .ok (.iaload, 1) := by decide +kernel
theorem d_L_law_320 : decode code 320 = .ok (.invokevirtual 42, 3) := by decide +kernel
theorem d_L_law_323 : decode code 323 = .ok (.if_icmp .eq 222, 3) := by decide +kernel
theorem d_L_law_326 : decode code 326 = .ok (.iconst 0, 1) := by decide +kernel
theorem d_L_law_327 : decode code 327 = .ok (.ireturn, 1) := by decide +kernel
theorem d_L_law_328 : decode code 328 = .ok (.aload_n 1, 1) := by decide +kernel
theorem d_L_law_329 : decode code 329 = .ok (.aload_n 0, 1) := by decide +kernel
theorem d_L_law_330 : decode code 330 = .ok (.iload_n 3, 1) := by decide +kernel
theorem d_L_law_331 : decode code 331 = .ok (.iconst 1, 1) := by decide +kernel
theorem d_L_law_332 : decode code 332 = .ok (.iadd, 1) := by decide +kernel
theorem d_L_law_333 : decode code 333 = .ok (.iaload, 1) := by decide +kernel
theorem d_L_law_334 : decode code 334 = .ok (.invokevirtual 43, 3) := by decide +kernel
theorem d_L_law_337 : decode code 337 = .ok (.aload_n 2, 1) := by decide +kernel
theorem d_L_law_338 : decode code 338 = .ok (.aload_n 0, 1) := by decide +kernel
theorem d_L_law_339 : decode code 339 = .ok (.iload_n 3, 1) := by decide +kernel
theorem d_L_law_340 : decode code 340 = .ok (.iconst 1, 1) := by decide +kernel
theorem d_L_law_341 : decode code 341 = .ok (.iadd, 1) := by decide +kernel
theorem d_L_law_342 : decode code 342 = .ok (.iaload, 1) := by decide +kernel
theorem d_L_law_343 : decode code 343 = .ok (.invokevirtual 46, 3) := by decide +kernel
theorem d_L_law_346 : decode code 346 = .ok (.if_icmp .eq 199, 3) := by decide +kernel
theorem d_L_law_349 : decode code 349 = .ok (.iconst 0, 1) := by decide +kernel
theorem d_L_law_350 : decode code 350 = .ok (.ireturn, 1) := by decide +kernel
theorem d_L_law_351 : decode code 351 = .ok (.aload_n 1, 1) := by decide +kernel
theorem d_L_law_352 : decode code 352 = .ok (.invokevirtual 47, 3) := by decide +kernel
theorem d_L_law_355 : decode code 355 = .ok (.aload_n 2, 1) := by decide +kernel
theorem d_L_law_356 : decode code 356 = .ok (.invokevirtual 50, 3) := by decide +kernel
theorem d_L_law_359 : decode code 359 = .ok (.if_icmp .eq 186, 3) := by decide +kernel
theorem d_L_law_362 : decode code 362 = .ok (.iconst 0, 1) := by decide +kernel
theorem d_L_law_363 : decode code 363 = .ok (.ireturn, 1) := by decide +kernel
theorem d_L_law_364 : decode code 364 = .ok (.aload_n 1, 1) := by decide +kernel
theorem d_L_law_365 : decode code 365 = .ok (.aload_n 0, 1) := by decide +kernel
theorem d_L_law_366 : decode code 366 = .ok (.iload_n 3, 1) := by decide +kernel
theorem d_L_law_367 : decode code 367 = .ok (.iconst 1, 1) := by decide +kernel
theorem d_L_law_368 : decode code 368 = .ok (.iadd, 1) := by decide +kernel
theorem d_L_law_369 : decode code 369 = .ok (.iaload, 1) := by decide +kernel
theorem d_L_law_370 : decode code 370 = .ok (.invokevirtual 51, 3) := by decide +kernel
theorem d_L_law_373 : decode code 373 = .ok (.aload_n 2, 1) := by decide +kernel
theorem d_L_law_374 : decode code 374 = .ok (.aload_n 0, 1) := by decide +kernel
theorem d_L_law_375 : decode code 375 = .ok (.iload_n 3, 1) := by decide +kernel
theorem d_L_law_376 : decode code 376 = .ok (.iconst 1, 1) := by decide +kernel
theorem d_L_law_377 : decode code 377 = .ok (.iadd, 1) := by decide +kernel
theorem d_L_law_378 : decode code 378 = .ok (.iaload, 1) := by decide +kernel
theorem d_L_law_379 : decode code 379 = .ok (.invokevirtual 54, 3) := by decide +kernel
theorem d_L_law_382 : decode code 382 = .ok (.if_icmp .eq 163, 3) := by decide +kernel
theorem d_L_law_385 : decode code 385 = .ok (.iconst 0, 1) := by decide +kernel
theorem d_L_law_386 : decode code 386 = .ok (.ireturn, 1) := by decide +kernel
theorem d_L_law_387 : decode code 387 = .ok (.aload_n 1, 1) := by decide +kernel
theorem d_L_law_388 : decode code 388 = .ok (.aload_n 0, 1) := by decide +kernel
theorem d_L_law_389 : decode code 389 = .ok (.iload_n 3, 1) := by decide +kernel
theorem d_L_law_390 : decode code 390 = .ok (.iconst 1, 1) := by decide +kernel
theorem d_L_law_391 : decode code 391 = .ok (.iadd, 1) := by decide +kernel
theorem d_L_law_392 : decode code 392 = .ok (.iaload, 1) := by decide +kernel
theorem d_L_law_393 : decode code 393 = .ok (.aload_n 0, 1) := by decide +kernel
theorem d_L_law_394 : decode code 394 = .ok (.iload_n 3, 1) := by decide +kernel
theorem d_L_law_395 : decode code 395 = .ok (.iconst 2, 1) := by decide +kernel
theorem d_L_law_396 : decode code 396 = .ok (.iadd, 1) := by decide +kernel
theorem d_L_law_397 : decode code 397 = .ok (.iaload, 1) := by decide +kernel
theorem d_L_law_398 : decode code 398 = .ok (.invokevirtual 55, 3) := by decide +kernel
theorem d_L_law_401 : decode code 401 = .ok (.aload_n 2, 1) := by decide +kernel
theorem d_L_law_402 : decode code 402 = .ok (.aload_n 0, 1) := by decide +kernel
theorem d_L_law_403 : decode code 403 = .ok (.iload_n 3, 1) := by decide +kernel
theorem d_L_law_404 : decode code 404 = .ok (.iconst 1, 1) := by decide +kernel
theorem d_L_law_405 : decode code 405 = .ok (.iadd, 1) := by decide +kernel
theorem d_L_law_406 : decode code 406 = .ok (.iaload, 1) := by decide +kernel
theorem d_L_law_407 : decode code 407 = .ok (.aload_n 0, 1) := by decide +kernel
theorem d_L_law_408 : decode code 408 = .ok (.iload_n 3, 1) := by decide +kernel
theorem d_L_law_409 : decode code 409 = .ok (.iconst 2, 1) := by decide +kernel
theorem d_L_law_410 : decode code 410 = .ok (.iadd, 1) := by decide +kernel
theorem d_L_law_411 : decode code 411 = .ok (.iaload, 1) := by decide +kernel
theorem d_L_law_412 : decode code 412 = .ok (.invokevirtual 58, 3) := by decide +kernel
theorem d_L_law_415 : decode code 415 = .ok (.if_icmp .eq 130, 3) := by decide +kernel
theorem d_L_law_418 : decode code 418 = .ok (.iconst 0, 1) := by decide +kernel
theorem d_L_law_419 : decode code 419 = .ok (.ireturn, 1) := by decide +kernel
theorem d_L_law_420 : decode code 420 = .ok (.aload_n 1, 1) := by decide +kernel
theorem d_L_law_421 : decode code 421 = .ok (.aload_n 0, 1) := by decide +kernel
theorem d_L_law_422 : decode code 422 = .ok (.iload_n 3, 1) := by decide +kernel
theorem d_L_law_423 : decode code 423 = .ok (.iconst 1, 1) := by decide +kernel
theorem d_L_law_424 : decode code 424 = .ok (.iadd, 1) := by decide +kernel
theorem d_L_law_425 : decode code 425 = .ok (.iaload, 1) := by decide +kernel
theorem d_L_law_426 : decode code 426 = .ok (.invokevirtual 59, 3) := by decide +kernel
theorem d_L_law_429 : decode code 429 = .ok (.aload_n 2, 1) := by decide +kernel
theorem d_L_law_430 : decode code 430 = .ok (.aload_n 0, 1) := by decide +kernel
theorem d_L_law_431 : decode code 431 = .ok (.iload_n 3, 1) := by decide +kernel
theorem d_L_law_432 : decode code 432 = .ok (.iconst 1, 1) := by decide +kernel
theorem d_L_law_433 : decode code 433 = .ok (.iadd, 1) := by decide +kernel
theorem d_L_law_434 : decode code 434 = .ok (.iaload, 1) := by decide +kernel
theorem d_L_law_435 : decode code 435 = .ok (.invokevirtual 62, 3) := by decide +kernel
theorem d_L_law_438 : decode code 438 = .ok (.if_icmp .eq 107, 3) := by decide +kernel
theorem d_L_law_441 : decode code 441 = .ok (.iconst 0, 1) := by decide +kernel
theorem d_L_law_442 : decode code 442 = .ok (.ireturn, 1) := by decide +kernel
theorem d_L_law_443 : decode code 443 = .ok (.aload_n 1, 1) := by decide +kernel
theorem d_L_law_444 : decode code 444 = .ok (.aload_n 0, 1) := by decide +kernel
theorem d_L_law_445 : decode code 445 = .ok (.iload_n 3, 1) := by decide +kernel
theorem d_L_law_446 : decode code 446 = .ok (.iconst 1, 1) := by decide +kernel
theorem d_L_law_447 : decode code 447 = .ok (.iadd, 1) := by decide +kernel
theorem d_L_law_448 : decode code 448 = .ok (.iaload, 1) := by decide +kernel
theorem d_L_law_449 : decode code 449 = .ok (.invokevirtual 63, 3) := by decide +kernel
theorem d_L_law_452 : decode code 452 = .ok (.aload_n 2, 1) := by decide +kernel
theorem d_L_law_453 : decode code 453 = .ok (.aload_n 0, 1) := by decide +kernel
theorem d_L_law_454 : decode code 454 = .ok (.iload_n 3, 1) := by decide +kernel
theorem d_L_law_455 : decode code 455 = .ok (.iconst 1, 1) := by decide +kernel
theorem d_L_law_456 : decode code 456 = .ok (.iadd, 1) := by decide +kernel
theorem d_L_law_457 : decode code 457 = .ok (.iaload, 1) := by decide +kernel
theorem d_L_law_458 : decode code 458 = .ok (.invokevirtual 66, 3) := by decide +kernel
theorem d_L_law_461 : decode code 461 = .ok (.if_icmp .eq 84, 3) := by decide +kernel
theorem d_L_law_464 : decode code 464 = .ok (.iconst 0, 1) := by decide +kernel
theorem d_L_law_465 : decode code 465 = .ok (.ireturn, 1) := by decide +kernel
theorem d_L_law_466 : decode code 466 = .ok (.aload_n 1, 1) := by decide +kernel
theorem d_L_law_467 : decode code 467 = .ok (.aload_n 0, 1) := by decide +kernel
theorem d_L_law_468 : decode code 468 = .ok (.iload_n 3, 1) := by decide +kernel
theorem d_L_law_469 : decode code 469 = .ok (.iconst 1, 1) := by decide +kernel
theorem d_L_law_470 : decode code 470 = .ok (.iadd, 1) := by decide +kernel
theorem d_L_law_471 : decode code 471 = .ok (.iaload, 1) := by decide +kernel
theorem d_L_law_472 : decode code 472 = .ok (.aload_n 0, 1) := by decide +kernel
theorem d_L_law_473 : decode code 473 = .ok (.iload_n 3, 1) := by decide +kernel
theorem d_L_law_474 : decode code 474 = .ok (.iconst 2, 1) := by decide +kernel
theorem d_L_law_475 : decode code 475 = .ok (.iadd, 1) := by decide +kernel
theorem d_L_law_476 : decode code 476 = .ok (.iaload, 1) := by decide +kernel
theorem d_L_law_477 : decode code 477 = .ok (.aload_n 0, 1) := by decide +kernel
theorem d_L_law_478 : decode code 478 = .ok (.iload_n 3, 1) := by decide +kernel
theorem d_L_law_479 : decode code 479 = .ok (.iconst 3, 1) := by decide +kernel
theorem d_L_law_480 : decode code 480 = .ok (.iadd, 1) := by decide +kernel
theorem d_L_law_481 : decode code 481 = .ok (.iaload, 1) := by decide +kernel
theorem d_L_law_482 : decode code 482 = .ok (.invokevirtual 67, 3) := by decide +kernel
theorem d_L_law_485 : decode code 485 = .ok (.aload_n 2, 1) := by decide +kernel
theorem d_L_law_486 : decode code 486 = .ok (.aload_n 0, 1) := by decide +kernel
theorem d_L_law_487 : decode code 487 = .ok (.iload_n 3, 1) := by decide +kernel
theorem d_L_law_488 : decode code 488 = .ok (.iconst 1, 1) := by decide +kernel
theorem d_L_law_489 : decode code 489 = .ok (.iadd, 1) := by decide +kernel
theorem d_L_law_490 : decode code 490 = .ok (.iaload, 1) := by decide +kernel
theorem d_L_law_491 : decode code 491 = .ok (.aload_n 0, 1) := by decide +kernel
theorem d_L_law_492 : decode code 492 = .ok (.iload_n 3, 1) := by decide +kernel
theorem d_L_law_493 : decode code 493 = .ok (.iconst 2, 1) := by decide +kernel
theorem d_L_law_494 : decode code 494 = .ok (.iadd, 1) := by decide +kernel
theorem d_L_law_495 : decode code 495 = .ok (.iaload, 1) := by decide +kernel
theorem d_L_law_496 : decode code 496 = .ok (.aload_n 0, 1) := by decide +kernel
theorem d_L_law_497 : decode code 497 = .ok (.iload_n 3, 1) := by decide +kernel
theorem d_L_law_498 : decode code 498 = .ok (.iconst 3, 1) := by decide +kernel
theorem d_L_law_499 : decode code 499 = .ok (.iadd, 1) := by decide +kernel
theorem d_L_law_500 : decode code 500 = .ok (.iaload, 1) := by decide +kernel
theorem d_L_law_501 : decode code 501 = .ok (.invokevirtual 70, 3) := by decide +kernel
theorem d_L_law_504 : decode code 504 = .ok (.if_icmp .eq 41, 3) := by decide +kernel
theorem d_L_law_507 : decode code 507 = .ok (.iconst 0, 1) := by decide +kernel
theorem d_L_law_508 : decode code 508 = .ok (.ireturn, 1) := by decide +kernel
theorem d_L_law_509 : decode code 509 = .ok (.aload_n 1, 1) := by decide +kernel
theorem d_L_law_510 : decode code 510 = .ok (.aload_n 0, 1) := by decide +kernel
theorem d_L_law_511 : decode code 511 = .ok (.iload_n 3, 1) := by decide +kernel
theorem d_L_law_512 : decode code 512 = .ok (.iconst 1, 1) := by decide +kernel
theorem d_L_law_513 : decode code 513 = .ok (.iadd, 1) := by decide +kernel
theorem d_L_law_514 : decode code 514 = .ok (.iaload, 1) := by decide +kernel
theorem d_L_law_515 : decode code 515 = .ok (.invokevirtual 71, 3) := by decide +kernel
theorem d_L_law_518 : decode code 518 = .ok (.aload_n 2, 1) := by decide +kernel
theorem d_L_law_519 : decode code 519 = .ok (.aload_n 0, 1) := by decide +kernel
theorem d_L_law_520 : decode code 520 = .ok (.iload_n 3, 1) := by decide +kernel
theorem d_L_law_521 : decode code 521 = .ok (.iconst 1, 1) := by decide +kernel
theorem d_L_law_522 : decode code 522 = .ok (.iadd, 1) := by decide +kernel
theorem d_L_law_523 : decode code 523 = .ok (.iaload, 1) := by decide +kernel
theorem d_L_law_524 : decode code 524 = .ok (.invokevirtual 74, 3) := by decide +kernel
theorem d_L_law_527 : decode code 527 = .ok (.if_icmp .eq 18, 3) := by decide +kernel
theorem d_L_law_530 : decode code 530 = .ok (.iconst 0, 1) := by decide +kernel
theorem d_L_law_531 : decode code 531 = .ok (.ireturn, 1) := by decide +kernel
theorem d_L_law_532 : decode code 532 = .ok (.aload_n 1, 1) := by decide +kernel
theorem d_L_law_533 : decode code 533 = .ok (.invokevirtual 75, 3) := by decide +kernel
theorem d_L_law_536 : decode code 536 = .ok (.aload_n 2, 1) := by decide +kernel
theorem d_L_law_537 : decode code 537 = .ok (.invokevirtual 78, 3) := by decide +kernel
theorem d_L_law_540 : decode code 540 = .ok (.if_icmp .eq 5, 3) := by decide +kernel
theorem d_L_law_543 : decode code 543 = .ok (.iconst 0, 1) := by decide +kernel
theorem d_L_law_544 : decode code 544 = .ok (.ireturn, 1) := by decide +kernel
theorem d_L_law_545 : decode code 545 = .ok (.iinc 3 4, 3) := by decide +kernel
theorem d_L_law_548 : decode code 548 = .ok (.goto (-530), 3) := by decide +kernel
theorem d_L_law_551 : decode code 551 = .ok (.iconst 1, 1) := by decide +kernel
theorem d_L_law_552 : decode code 552 = .ok (.ireturn, 1) := by decide +kernel
end
section
/-! Rows for calls and loops, over any class list: methods that only read (rd_), methods that change cells of their world and make none (wr_). -/
section RDB
variable {p : Program} {l : Launch} {e : Env} {R : Room} {s : State} {m : MethodId} {args : Array Value} {below : List Frame} {meth : Method} {c : Code} {H : Heap} {locs : List Loc} {cells slots : Nat} {Q : State → Prop}
variable {pc : Nat} {ls : Array Slot} {rest st0 : List Value}
variable {D : va_G} {cl : List vw_C} {ws ws' : va_W} {tys : List (ClassId × FieldType)}
def rd_Pc (D : va_G) (cl : List vw_C) (ws : va_W) (tys : List (ClassId × FieldType)) (av : List Value) : Array Value → State → Prop := va_Pc av (fun U => va_P D cl ws U.heap ∧ va_K D cl tys U)
theorem rd_blind {av : List Value} : FrameBlind (rd_Pc D cl ws tys av) := fun a U g mk q => by
  obtain ⟨q0, qP, qK⟩ := q
  exact ⟨q0, qP, va_K.moved (u := U) (U := U.calling g mk a) (Vm.Alike.refl U.vm) qK⟩
/-- a static method that reads nothing -/
def rd_P0 (av : List Value) : Array Value → State → Prop := va_Pc av (fun _ => True)
theorem rd_blind0 {av : List Value} : FrameBlind (rd_P0 av) := fun a U g mk q => ⟨q.1, trivial⟩
variable {y : MethodName} {bytes cc : ByteArray} {maxL nL n index : Nat} {ret : Option FieldType} {w : List Cond} {rm : Room} {Ts : List Cond} {own C : String} {b : Addr} {As : List Value} {r : Value}
theorem rd_V (S : CallFix p m c cc nL s args Ts own) (hM : Met l y w rm (rd_Pc D cl ws tys (.ref b :: As)) (k2_QcV r) 0 0 (fun _ => False)) (cw : CallW R s args own C index y bytes maxL ret w rm 0 0 n)
    (hK : va_K D cl tys s) (hP : va_P D cl ws H) (q0 : Nat) {ci : Nat} {T : u_T} {N : Nat} {fs : List Value} (hc : cl[ci]? = some (C, T, N)) (he : ws[q0]? = some (b, .inr (ci, fs)))
    (hn : As.length = n) (hsize : ls.size = nL) (hstack : st0 = As.reverse ++ .ref b :: rest) (hW : (rest.map fun v => v.category).sum ≤ 8) (hdg : decode cc pc = .ok (.invokevirtual index, 3)) (hf : cells + 0 ≤ R.cells ∧ slots + 0 ≤ R.slots)
    (kk : W p l e R s m args below meth c H locs cells slots Q (F0 m (pc + 3) ls (r :: rest))) : W p l e R s m args below meth c H locs cells slots Q (F0 m pc ls st0) := by
  subst hstack
  exact W.callV (W.runV (As := As) (rest := rest) (g := F0 m pc ls (As.reverse ++ .ref b :: rest)) S hM cw ⟨rd_blind, va_recv hK hP hc he, fun U hU hW => ⟨rfl, by rw [hU]; exact hP, va_K.moved hW.alike hK⟩⟩ rfl hn hsize rfl (lv_room hW) hdg hf) kk
theorem rd_S (S : CallFix p m c cc nL s args Ts own) (hM : Met l y w rm (rd_P0 As) (k2_QcV r) 0 0 (fun _ => False)) (cw : CallB R s args own index y bytes maxL ret w rm 0 0 n ∧ (Cond.static y).before args s = true)
    (hn : As.length = n) (hsize : ls.size = nL) (hstack : st0 = As.reverse ++ rest) (hW : (rest.map fun v => v.category).sum ≤ 8) (hdg : decode cc pc = .ok (.invokestatic index, 3)) (hf : cells + 0 ≤ R.cells ∧ slots + 0 ≤ R.slots)
    (kk : W p l e R s m args below meth c H locs cells slots Q (F0 m (pc + 3) ls (r :: rest))) : W p l e R s m args below meth c H locs cells slots Q (F0 m pc ls st0) := by
  subst hstack
  exact W.callV (W.runS (As := As) (rest := rest) (g := F0 m pc ls (As.reverse ++ rest)) S hM cw ⟨rd_blind0, fun U hU hW => ⟨rfl, trivial⟩⟩ rfl hn hsize rfl (lv_room hW) hdg hf) kk
def wr_Pc (D : va_G) (cl : List vw_C) (ws : va_W) (tys : List (ClassId × FieldType)) (sz : Nat) (av : List Value) : Array Value → State → Prop := va_Pc av (fun U => U.heap.size = sz ∧ va_P D cl ws U.heap ∧ va_K D cl tys U ∧ va_D (fun _ => True) ws)
theorem wr_blind {av : List Value} {sz : Nat} : FrameBlind (wr_Pc D cl ws tys sz av) := fun a U g mk q => by
  obtain ⟨q0, q1, qP, qK, qD⟩ := q
  exact ⟨q0, q1, qP, va_K.moved (u := U) (U := U.calling g mk a) (Vm.Alike.refl U.vm) qK, qD⟩
def wr_Q (D : va_G) (cl : List vw_C) (ws ws' : va_W) (sz : Nat) (ro : Option Value) : Array Value → State → Outcome → State → Prop := fun _ st o t => o = .returned ro ∧ va_P D cl ws' t.heap ∧ va_F (va_A ws sz) st t
theorem wr_D {A : Nat → Prop} (h : va_D A ws) (ha : ws'.map (·.1) = ws.map (·.1)) : va_D A ws' := by
  have key : ∀ (k : Nat) (q : Nat × va_E), ws'[k]? = some q → ∃ q0, ws[k]? = some q0 ∧ q0.1 = q.1 := by
    intro k q hk
    have h1 : (ws.map (·.1))[k]? = some q.1 := by rw [← ha, List.getElem?_map, hk]; rfl
    rw [List.getElem?_map] at h1
    cases hq : ws[k]? with
    | none => rw [hq] at h1; cases h1
    | some q0 => rw [hq] at h1; exact ⟨q0, rfl, Option.some.inj h1⟩
  refine ⟨fun i j x y hi hj hxy => ?_, fun k q hk => ?_⟩
  · obtain ⟨x0, h1, h2⟩ := key i x hi
    obtain ⟨y0, h3, h4⟩ := key j y hj
    exact h.1 i j x0 y0 h1 h3 (h2.trans (hxy.trans h4.symm))
  · obtain ⟨q0, h1, h2⟩ := key k q hk
    rw [← h2]
    exact h.2 k q0 h1
variable {A : Nat → Prop} {H0 : Heap} {ro : Option Value}
theorem wr_run (hr : va_Run p l e R s m args below meth c H locs cells slots 0 0 (F0 m pc ls st0) rest (wr_Q D cl ws ws' H.size ro #[]) (va_A ws H.size)) (hD : va_D A ws) (hS : va_S A H0 H locs) (hA : ∀ q, H0.size ≤ q → A q) (ha : ws'.map (·.1) = ws.map (·.1))
    (kk : ∀ (H1 : Heap) (locs1 : List Loc), va_P D cl ws' H1 → va_D A ws' → va_S A H0 H1 locs1 → W p l e R s m args below meth c H1 locs1 cells slots Q (F0 m (pc + 3) ls (ro.toList ++ rest))) : W p l e R s m args below meth c H locs cells slots Q (F0 m pc ls st0) := by
  intro T hT X
  obtain ⟨v, st₀, t, T', L, h0, X', hL, e1, e2, ⟨hv, hp, hz, hk⟩, st⟩ := hr T hT X
  cases hv
  rw [h0] at hz hk
  have hF : ∀ q, va_A ws H.size q → A q := fun q h => by
    rcases h with ⟨k, e, h⟩ | h
    · exact hD.2 k (q, e) h
    · exact hA q (Nat.le_trans hS.1 h)
  obtain ⟨t2, a1, b1⟩ := kk T'.heap (locs ++ L) (by rw [e1]; exact hp) (wr_D hD ha)
    ⟨Nat.le_trans hS.1 (by rw [e1]; exact hz), fun q h1 h2 => by rw [e1, hk q (Nat.lt_of_lt_of_le h1 hS.1) (fun z => h2 (hF q z))]; exact hS.2.1 q h1 h2, fun q hq => by
      rcases List.mem_append.mp hq with h | h
      · exact hS.2.2 q h
      · exact hF _ (hL q h)⟩ T' rfl X'
  exact ⟨t2, st t2 a1, b1⟩
theorem wr_V (S : CallFix p m c cc nL s args Ts own) (hM : Met l y w rm (wr_Pc D cl ws tys H.size (.ref b :: As)) (wr_Q D cl ws ws' H.size ro) 0 0 (va_A ws H.size)) (cw : CallW R s args own C index y bytes maxL ret w rm 0 0 n)
    (hK : va_K D cl tys s) (hP : va_P D cl ws H) (hD : va_D A ws) (hS : va_S A H0 H locs) (hA : ∀ q, H0.size ≤ q → A q) (q0 : Nat) {ci : Nat} {T : u_T} {N : Nat} {fs : List Value} (hc : cl[ci]? = some (C, T, N)) (he : ws[q0]? = some (b, .inr (ci, fs)))
    (hn : As.length = n) (hsize : ls.size = nL) (hstack : st0 = As.reverse ++ .ref b :: rest) (hW : (rest.map fun v => v.category).sum ≤ 8) (hdg : decode cc pc = .ok (.invokevirtual index, 3)) (hf : cells + 0 ≤ R.cells ∧ slots + 0 ≤ R.slots) (ha : ws'.map (·.1) = ws.map (·.1))
    (kk : ∀ (H1 : Heap) (locs1 : List Loc), va_P D cl ws' H1 → va_D A ws' → va_S A H0 H1 locs1 → W p l e R s m args below meth c H1 locs1 cells slots Q (F0 m (pc + 3) ls (ro.toList ++ rest))) : W p l e R s m args below meth c H locs cells slots Q (F0 m pc ls st0) := by
  subst hstack
  exact wr_run (va_runV (As := As) (rest := rest) (g := F0 m pc ls (As.reverse ++ .ref b :: rest)) S hM cw ⟨wr_blind, va_recv hK hP hc he, fun U hU hW => ⟨rfl, by rw [hU], by rw [hU]; exact hP, va_K.moved hW.alike hK, hD.weaken (fun _ _ _ _ => trivial)⟩⟩ rfl hn hsize rfl (lv_room hW) hdg hf) hD hS hA ha kk
/-- the int on top by another name -/
theorem rd_top {x z : Int32} (h : x = z) (k : W p l e R s m args below meth c H locs cells slots Q (F0 m pc ls (.int z :: rest))) : W p l e R s m args below meth c H locs cells slots Q (F0 m pc ls (.int x :: rest)) := h ▸ k
theorem rd_topl {x z : Int64} (h : x = z) (k : W p l e R s m args below meth c H locs cells slots Q (F0 m pc ls (.long z :: rest))) : W p l e R s m args below meth c H locs cells slots Q (F0 m pc ls (.long x :: rest)) := h ▸ k
/-- a loop that reads: it counts from i up to N -/
theorem rd_loop {nL : Nat} {σ : Type} (N : Nat) (lvs : Nat → σ → List (Nat × Value)) (I : Nat → σ → Prop)
    (step : ∀ (i : Nat) (x : σ) (ls : Array Slot), i ≤ N → I i x → lv_has ls nL (lvs i x) → (i < N → ∀ (z : σ) (ls' : Array Slot), I (i + 1) z → lv_has ls' nL (lvs (i + 1) z) → W p l e R s m args below meth c H locs cells slots Q (F0 m pc ls' [])) → W p l e R s m args below meth c H locs cells slots Q (F0 m pc ls [])) :
    ∀ (i : Nat) (x : σ) (ls : Array Slot), i ≤ N → I i x → lv_has ls nL (lvs i x) → W p l e R s m args below meth c H locs cells slots Q (F0 m pc ls []) := by
  have key : ∀ (k i : Nat) (x : σ) (ls : Array Slot), N - i = k → i ≤ N → I i x → lv_has ls nL (lvs i x) → W p l e R s m args below meth c H locs cells slots Q (F0 m pc ls []) := by
    intro k
    induction k with
    | zero =>
      intro i x ls h1 h2 h3 h4
      exact step i x ls h2 h3 h4 (fun h => by omega)
    | succ k ih =>
      intro i x ls h1 h2 h3 h4
      exact step i x ls h2 h3 h4 (fun h z ls' h5 h6 => ih (i + 1) z ls' (by omega) (by omega) h5 h6)
  intro i x ls h1 h2 h3
  exact key _ i x ls rfl h1 h2 h3
/-- a loop that writes -/
theorem wr_loop {nL : Nat} {σ : Type} (N : Nat) (lvs : Nat → σ → List (Nat × Value)) (wo : Nat → σ → va_W) (I : Nat → σ → Prop)
    (step : ∀ (i : Nat) (x : σ) (ls : Array Slot) (H : Heap) (locs : List Loc), i ≤ N → I i x → lv_has ls nL (lvs i x) → va_P D cl (wo i x) H → va_D A (wo i x) → va_S A H0 H locs → (i < N → ∀ (z : σ) (ls' : Array Slot) (H' : Heap) (locs' : List Loc), I (i + 1) z → lv_has ls' nL (lvs (i + 1) z) → va_P D cl (wo (i + 1) z) H' → va_D A (wo (i + 1) z) → va_S A H0 H' locs' → W p l e R s m args below meth c H' locs' cells slots Q (F0 m pc ls' [])) → W p l e R s m args below meth c H locs cells slots Q (F0 m pc ls [])) :
    ∀ (i : Nat) (x : σ) (ls : Array Slot) (H : Heap) (locs : List Loc), i ≤ N → I i x → lv_has ls nL (lvs i x) → va_P D cl (wo i x) H → va_D A (wo i x) → va_S A H0 H locs → W p l e R s m args below meth c H locs cells slots Q (F0 m pc ls []) := by
  have key : ∀ (k i : Nat) (x : σ) (ls : Array Slot) (H : Heap) (locs : List Loc), N - i = k → i ≤ N → I i x → lv_has ls nL (lvs i x) → va_P D cl (wo i x) H → va_D A (wo i x) → va_S A H0 H locs → W p l e R s m args below meth c H locs cells slots Q (F0 m pc ls []) := by
    intro k
    induction k with
    | zero =>
      intro i x ls H locs h1 h2 h3 h4 h5 h6 h7
      exact step i x ls H locs h2 h3 h4 h5 h6 h7 (fun h => by omega)
    | succ k ih =>
      intro i x ls H locs h1 h2 h3 h4 h5 h6 h7
      exact step i x ls H locs h2 h3 h4 h5 h6 h7 (fun h z ls' H' locs' h8 h9 h10 h11 h12 => ih (i + 1) z ls' H' locs' (by omega) (by omega) h8 h9 h10 h11 h12)
  intro i x ls H locs h1 h2 h3 h4 h5 h6
  exact key _ i x ls H locs rfl h1 h2 h3 h4 h5 h6
end RDB
def bI (b : Bool) : Int32 := if b then 1 else 0
section RDM
variable {p : Program} {l : Launch} {e : Env} {R : Room} {s : State} {m : MethodId} {args : Array Value} {below : List Frame} {meth : Method} {c : Code} {H : Heap} {locs : List Loc} {cells slots : Nat} {Q : State → Prop}
variable {D : va_G} {cl : List vw_C} {ws ws' : va_W} {tys : List (ClassId × FieldType)} {cc : ByteArray} {pc : Nat} {ls : Array Slot}
theorem rd_iret {v z : Int32} (hx : p.tables.exec = Jvm.exec) (hb : c.code = cc) (hr : meth.sig.returnType = some .int) (hlocks : meth.locks = false) (hdg : decode cc pc = .ok (.ireturn, 1)) (h : v = z) : W p l e R s m args below meth c s.heap [] 0 0 (MQ below (k2_QcV (.int z)) args s 0 0 (fun _ => False)) (F0 m pc ls [.int v]) := by
  subst h
  exact W.iret hx hb hr (fun t ht hW => ⟨rfl, ht⟩) (fun q hq => by cases hq) hdg hlocks
theorem rd_zret {v : Int32} {z : Bool} (hx : p.tables.exec = Jvm.exec) (hb : c.code = cc) (hr : meth.sig.returnType = some .boolean) (hlocks : meth.locks = false) (hdg : decode cc pc = .ok (.ireturn, 1)) (h : v = bI z) : W p l e R s m args below meth c s.heap [] 0 0 (MQ below (k2_QcV (.int (bI z))) args s 0 0 (fun _ => False)) (F0 m pc ls [.int v]) := by
  subst h
  exact W.zret hx hb hr (by cases z <;> rfl) (fun t ht hW => ⟨rfl, ht⟩) (fun q hq => by cases hq) hdg hlocks
theorem rd_lret {v z : Int64} (hx : p.tables.exec = Jvm.exec) (hb : c.code = cc) (hr : meth.sig.returnType = some .long) (hlocks : meth.locks = false) (hdg : decode cc pc = .ok (.lreturn, 1)) (h : v = z) : W p l e R s m args below meth c s.heap [] 0 0 (MQ below (k2_QcV (.long z)) args s 0 0 (fun _ => False)) (F0 m pc ls [.long v]) := by
  subst h
  exact W.lret hx hb hr (fun t ht hW => ⟨rfl, ht⟩) (fun q hq => by cases hq) hdg hlocks
theorem wr_vret (hx : p.tables.exec = Jvm.exec) (hb : c.code = cc) (hr : meth.sig.returnType = none) (hlocks : meth.locks = false) (hdg : decode cc pc = .ok (.return_, 1)) (hS : va_S (va_A ws s.heap.size) s.heap H locs) (hP : va_P D cl ws' H) : W p l e R s m args below meth c H locs 0 0 (MQ below (wr_Q D cl ws ws' s.heap.size none) args s 0 0 (va_A ws s.heap.size)) (F0 m pc ls []) :=
  W.vret hx hb hr (fun t ht hW => ⟨rfl, by rw [ht]; exact hP, hS.F ht⟩) hS.2.2 hdg hlocks
theorem wr_iret {v z : Int32} (hx : p.tables.exec = Jvm.exec) (hb : c.code = cc) (hr : meth.sig.returnType = some .int) (hlocks : meth.locks = false) (hdg : decode cc pc = .ok (.ireturn, 1)) (hS : va_S (va_A ws s.heap.size) s.heap H locs) (hP : va_P D cl ws' H) (h : v = z) : W p l e R s m args below meth c H locs 0 0 (MQ below (wr_Q D cl ws ws' s.heap.size (some (.int z))) args s 0 0 (va_A ws s.heap.size)) (F0 m pc ls [.int v]) := by
  subst h
  exact W.iret hx hb hr (fun t ht hW => ⟨rfl, by rw [ht]; exact hP, hS.F ht⟩) hS.2.2 hdg hlocks
/-- a method that reads: from its entry -/
theorem rd_met {y : MethodName} {w w' : List Cond} {rm : Room} {av : List Value} {maxL : Nat} {ret : Option FieldType} {lv0 : List (Nat × Value)} {Qc : Array Value → State → Outcome → State → Prop} (hy : plainName y.cls = true) (hw : w = Cond.code y cc maxL ret :: w') (hlen : (lg_sl av).length ≤ maxL) (hlv : lv_args 0 av = lv0)
    (body : ∀ (p : Program) (e : Env) (s : State) (m : MethodId) (below : List Frame) (meth : Method) (c : Code) (ls : Array Slot), p.tables.exec = Jvm.exec → c.code = cc → meth.sig.returnType = ret → c.maxLocals = maxL → s.vm.findClass y.cls = some m.cls → (∀ z ∈ w, z.before av.toArray s = true) → meth.locks = false → va_P D cl ws s.heap → va_K D cl tys s → lv_has ls maxL lv0 →
      W p l e rm s m av.toArray below meth c s.heap [] 0 0 (MQ below Qc av.toArray s 0 0 (fun _ => False)) (F0 m 0 ls [])) : Met l y w rm (rd_Pc D cl ws tys av) Qc 0 0 (fun _ => False) := by
  refine Met.ofW (cc := cc) (maxL := maxL) (ret := ret) hy hw ?_
  intro p e s m args below meth c s₁ B hml hv
  obtain ⟨rfl, hP, hK⟩ := hv
  have hl := lv_entry av (n := maxL) hlen
  rw [lg_entry_eq]
  rw [hlv] at hl
  exact body p e s m below meth c _ B.exec B.bytes B.returns hml (findClass_of_methodNamed B.named) (atoms_spec (ws := w) B.pre) B.notSynchronized hP hK hl
theorem rd_met0 {y : MethodName} {w w' : List Cond} {rm : Room} {av : List Value} {maxL : Nat} {ret : Option FieldType} {lv0 : List (Nat × Value)} {Qc : Array Value → State → Outcome → State → Prop} (hy : plainName y.cls = true) (hw : w = Cond.code y cc maxL ret :: w') (hlen : (lg_sl av).length ≤ maxL) (hlv : lv_args 0 av = lv0)
    (body : ∀ (p : Program) (e : Env) (s : State) (m : MethodId) (below : List Frame) (meth : Method) (c : Code) (ls : Array Slot), p.tables.exec = Jvm.exec → c.code = cc → meth.sig.returnType = ret → c.maxLocals = maxL → s.vm.findClass y.cls = some m.cls → (∀ z ∈ w, z.before av.toArray s = true) → meth.locks = false → lv_has ls maxL lv0 →
      W p l e rm s m av.toArray below meth c s.heap [] 0 0 (MQ below Qc av.toArray s 0 0 (fun _ => False)) (F0 m 0 ls [])) : Met l y w rm (rd_P0 av) Qc 0 0 (fun _ => False) := by
  refine Met.ofW (cc := cc) (maxL := maxL) (ret := ret) hy hw ?_
  intro p e s m args below meth c s₁ B hml hv
  obtain ⟨rfl, -⟩ := hv
  have hl := lv_entry av (n := maxL) hlen
  rw [lg_entry_eq]
  rw [hlv] at hl
  exact body p e s m below meth c _ B.exec B.bytes B.returns hml (findClass_of_methodNamed B.named) (atoms_spec (ws := w) B.pre) B.notSynchronized hl
/-- a method that writes: from its entry -/
theorem wr_met {y : MethodName} {w w' : List Cond} {rm : Room} {av : List Value} {maxL sz : Nat} {ret : Option FieldType} {lv0 : List (Nat × Value)} {ro : Option Value} (hy : plainName y.cls = true) (hw : w = Cond.code y cc maxL ret :: w') (hlen : (lg_sl av).length ≤ maxL) (hlv : lv_args 0 av = lv0)
    (body : ∀ (p : Program) (e : Env) (s : State) (m : MethodId) (below : List Frame) (meth : Method) (c : Code) (ls : Array Slot), p.tables.exec = Jvm.exec → c.code = cc → meth.sig.returnType = ret → c.maxLocals = maxL → s.vm.findClass y.cls = some m.cls → (∀ z ∈ w, z.before av.toArray s = true) → meth.locks = false → va_P D cl ws s.heap → va_K D cl tys s → va_D (va_A ws s.heap.size) ws → va_S (va_A ws s.heap.size) s.heap s.heap [] → (∀ q, s.heap.size ≤ q → va_A ws s.heap.size q) → lv_has ls maxL lv0 →
      W p l e rm s m av.toArray below meth c s.heap [] 0 0 (MQ below (wr_Q D cl ws ws' s.heap.size ro) av.toArray s 0 0 (va_A ws s.heap.size)) (F0 m 0 ls [])) : Met l y w rm (wr_Pc D cl ws tys sz av) (wr_Q D cl ws ws' sz ro) 0 0 (va_A ws sz) := by
  refine Met.ofW (cc := cc) (maxL := maxL) (ret := ret) hy hw ?_
  intro p e s m args below meth c s₁ B hml hv
  obtain ⟨rfl, hsz, hP, hK, hD⟩ := hv
  subst hsz
  have hl := lv_entry av (n := maxL) hlen
  rw [lg_entry_eq]
  rw [hlv] at hl
  exact body p e s m below meth c _ B.exec B.bytes B.returns hml (findClass_of_methodNamed B.named) (atoms_spec (ws := w) B.pre) B.notSynchronized hP hK (hD.self (sz := s.heap.size)) va_S.rf (fun q h => Or.inr h) hl
end RDM
end
section
def sp_c0 : List (List Nat) := [[0, 1024, 1536, 1792, 1920, 1984, 2016, 2032, 2040, 2044, 2046, 2047], [1, 1025, 1537, 1793, 1921, 1985, 2017, 2033, 2041, 2045], [2, 1026, 1538, 1794, 1922, 1986, 2018, 2034, 2042, 2043], [3, 1027, 1539, 1795, 1923, 1987, 2019, 2035], [4, 1028, 1540, 1796, 1924, 1988, 2020, 2036, 2038, 2039], [5, 1029, 1541, 1797, 1925, 1989, 2021, 2037], [6, 1030, 1542, 1798, 1926, 1990, 2022, 2023], [7, 1031, 1543, 1799, 1927, 1991], [8, 1032, 1544, 1800, 1928, 1992, 2024, 2028, 2030, 2031], [9, 1033, 1545, 1801, 1929, 1993, 2025, 2029], [10, 1034, 1546, 1802, 1930, 1994, 2026, 2027], [11, 1035, 1547, 1803, 1931, 1995], [12, 1036, 1548, 1804, 1932, 1996, 1998, 1999], [13, 1037, 1549, 1805, 1933, 1997], [14, 1038, 1550, 1806, 1934, 1935], [15, 1039, 1551, 1807], [16, 1040, 1552, 1808, 1936, 2000, 2008, 2012, 2014, 2015], [17, 1041, 1553, 1809, 1937, 2001, 2009, 2013], [18, 1042, 1554, 1810, 1938, 2002, 2010, 2011], [19, 1043, 1555, 1811, 1939, 2003], [20, 1044, 1556, 1812, 1940, 2004, 2006, 2007], [21, 1045, 1557, 1813, 1941, 2005], [22, 1046, 1558, 1814, 1942, 1943], [23, 1047, 1559, 1815], [24, 1048, 1560, 1816, 1944, 1948, 1950, 1951], [25, 1049, 1561, 1817, 1945, 1949], [26, 1050, 1562, 1818, 1946, 1947], [27, 1051, 1563, 1819], [28, 1052, 1564, 1820, 1822, 1823], [29, 1053, 1565, 1821], [30, 1054, 1566, 1567], [31, 1055], [32, 1056, 1568, 1824, 1952, 1968, 1976, 1980, 1982, 1983], [33, 1057, 1569, 1825, 1953, 1969, 1977, 1981], [34, 1058, 1570, 1826, 1954, 1970, 1978, 1979], [35, 1059, 1571, 1827, 1955, 1971], [36, 1060, 1572, 1828, 1956, 1972, 1974, 1975], [37, 1061, 1573, 1829, 1957, 1973], [38, 1062, 1574, 1830, 1958, 1959], [39, 1063, 1575, 1831], [40, 1064, 1576, 1832, 1960, 1964, 1966, 1967], [41, 1065, 1577, 1833, 1961, 1965], [42, 1066, 1578, 1834, 1962, 1963], [43, 1067, 1579, 1835], [44, 1068, 1580, 1836, 1838, 1839], [45, 1069, 1581, 1837], [46, 1070, 1582, 1583], [47, 1071], [48, 1072, 1584, 1840, 1848, 1852, 1854, 1855], [49, 1073, 1585, 1841, 1849, 1853], [50, 1074, 1586, 1842, 1850, 1851], [51, 1075, 1587, 1843], [52, 1076, 1588, 1844, 1846, 1847], [53, 1077, 1589, 1845], [54, 1078, 1590, 1591], [55, 1079], [56, 1080, 1592, 1596, 1598, 1599], [57, 1081, 1593, 1597], [58, 1082, 1594, 1595], [59, 1083], [60, 1084, 1086, 1087], [61, 1085], [62, 63], [64, 1088, 1600, 1856, 1888, 1904, 1912, 1916, 1918, 1919], [65, 1089, 1601, 1857, 1889, 1905, 1913, 1917], [66, 1090, 1602, 1858, 1890, 1906, 1914, 1915]]
def sp_c1 : List (List Nat) := [[67, 1091, 1603, 1859, 1891, 1907], [68, 1092, 1604, 1860, 1892, 1908, 1910, 1911], [69, 1093, 1605, 1861, 1893, 1909], [70, 1094, 1606, 1862, 1894, 1895], [71, 1095, 1607, 1863], [72, 1096, 1608, 1864, 1896, 1900, 1902, 1903], [73, 1097, 1609, 1865, 1897, 1901], [74, 1098, 1610, 1866, 1898, 1899], [75, 1099, 1611, 1867], [76, 1100, 1612, 1868, 1870, 1871], [77, 1101, 1613, 1869], [78, 1102, 1614, 1615], [79, 1103], [80, 1104, 1616, 1872, 1880, 1884, 1886, 1887], [81, 1105, 1617, 1873, 1881, 1885], [82, 1106, 1618, 1874, 1882, 1883], [83, 1107, 1619, 1875], [84, 1108, 1620, 1876, 1878, 1879], [85, 1109, 1621, 1877], [86, 1110, 1622, 1623], [87, 1111], [88, 1112, 1624, 1628, 1630, 1631], [89, 1113, 1625, 1629], [90, 1114, 1626, 1627], [91, 1115], [92, 1116, 1118, 1119], [93, 1117], [94, 95], [96, 1120, 1632, 1648, 1656, 1660, 1662, 1663], [97, 1121, 1633, 1649, 1657, 1661], [98, 1122, 1634, 1650, 1658, 1659], [99, 1123, 1635, 1651], [100, 1124, 1636, 1652, 1654, 1655], [101, 1125, 1637, 1653], [102, 1126, 1638, 1639], [103, 1127], [104, 1128, 1640, 1644, 1646, 1647], [105, 1129, 1641, 1645], [106, 1130, 1642, 1643], [107, 1131], [108, 1132, 1134, 1135], [109, 1133], [110, 111], [112, 1136, 1144, 1148, 1150, 1151], [113, 1137, 1145, 1149], [114, 1138, 1146, 1147], [115, 1139], [116, 1140, 1142, 1143], [117, 1141], [118, 119], [120, 124, 126, 127], [121, 125], [122, 123], [128, 1152, 1664, 1728, 1760, 1776, 1784, 1788, 1790, 1791], [129, 1153, 1665, 1729, 1761, 1777, 1785, 1789], [130, 1154, 1666, 1730, 1762, 1778, 1786, 1787], [131, 1155, 1667, 1731, 1763, 1779], [132, 1156, 1668, 1732, 1764, 1780, 1782, 1783], [133, 1157, 1669, 1733, 1765, 1781], [134, 1158, 1670, 1734, 1766, 1767], [135, 1159, 1671, 1735], [136, 1160, 1672, 1736, 1768, 1772, 1774, 1775], [137, 1161, 1673, 1737, 1769, 1773], [138, 1162, 1674, 1738, 1770, 1771], [139, 1163, 1675, 1739], [140, 1164, 1676, 1740, 1742, 1743]]
def sp_c2 : List (List Nat) := [[141, 1165, 1677, 1741], [142, 1166, 1678, 1679], [143, 1167], [144, 1168, 1680, 1744, 1752, 1756, 1758, 1759], [145, 1169, 1681, 1745, 1753, 1757], [146, 1170, 1682, 1746, 1754, 1755], [147, 1171, 1683, 1747], [148, 1172, 1684, 1748, 1750, 1751], [149, 1173, 1685, 1749], [150, 1174, 1686, 1687], [151, 1175], [152, 1176, 1688, 1692, 1694, 1695], [153, 1177, 1689, 1693], [154, 1178, 1690, 1691], [155, 1179], [156, 1180, 1182, 1183], [157, 1181], [158, 159], [160, 1184, 1696, 1712, 1720, 1724, 1726, 1727], [161, 1185, 1697, 1713, 1721, 1725], [162, 1186, 1698, 1714, 1722, 1723], [163, 1187, 1699, 1715], [164, 1188, 1700, 1716, 1718, 1719], [165, 1189, 1701, 1717], [166, 1190, 1702, 1703], [167, 1191], [168, 1192, 1704, 1708, 1710, 1711], [169, 1193, 1705, 1709], [170, 1194, 1706, 1707], [171, 1195], [172, 1196, 1198, 1199], [173, 1197], [174, 175], [176, 1200, 1208, 1212, 1214, 1215], [177, 1201, 1209, 1213], [178, 1202, 1210, 1211], [179, 1203], [180, 1204, 1206, 1207], [181, 1205], [182, 183], [184, 188, 190, 191], [185, 189], [186, 187], [192, 1216, 1248, 1264, 1272, 1276, 1278, 1279], [193, 1217, 1249, 1265, 1273, 1277], [194, 1218, 1250, 1266, 1274, 1275], [195, 1219, 1251, 1267], [196, 1220, 1252, 1268, 1270, 1271], [197, 1221, 1253, 1269], [198, 1222, 1254, 1255], [199, 1223], [200, 1224, 1256, 1260, 1262, 1263], [201, 1225, 1257, 1261], [202, 1226, 1258, 1259], [203, 1227], [204, 1228, 1230, 1231], [205, 1229], [206, 207], [208, 1232, 1240, 1244, 1246, 1247], [209, 1233, 1241, 1245], [210, 1234, 1242, 1243], [211, 1235], [212, 1236, 1238, 1239], [213, 1237], [214, 215], [216, 220, 222, 223]]
def sp_c3 : List (List Nat) := [[217, 221], [218, 219], [224, 240, 248, 252, 254, 255], [225, 241, 249, 253], [226, 242, 250, 251], [227, 243], [228, 244, 246, 247], [229, 245], [230, 231], [232, 236, 238, 239], [233, 237], [234, 235], [256, 1280, 1408, 1472, 1504, 1520, 1528, 1532, 1534, 1535], [257, 1281, 1409, 1473, 1505, 1521, 1529, 1533], [258, 1282, 1410, 1474, 1506, 1522, 1530, 1531], [259, 1283, 1411, 1475, 1507, 1523], [260, 1284, 1412, 1476, 1508, 1524, 1526, 1527], [261, 1285, 1413, 1477, 1509, 1525], [262, 1286, 1414, 1478, 1510, 1511], [263, 1287, 1415, 1479], [264, 1288, 1416, 1480, 1512, 1516, 1518, 1519], [265, 1289, 1417, 1481, 1513, 1517], [266, 1290, 1418, 1482, 1514, 1515], [267, 1291, 1419, 1483], [268, 1292, 1420, 1484, 1486, 1487], [269, 1293, 1421, 1485], [270, 1294, 1422, 1423], [271, 1295], [272, 1296, 1424, 1488, 1496, 1500, 1502, 1503], [273, 1297, 1425, 1489, 1497, 1501], [274, 1298, 1426, 1490, 1498, 1499], [275, 1299, 1427, 1491], [276, 1300, 1428, 1492, 1494, 1495], [277, 1301, 1429, 1493], [278, 1302, 1430, 1431], [279, 1303], [280, 1304, 1432, 1436, 1438, 1439], [281, 1305, 1433, 1437], [282, 1306, 1434, 1435], [283, 1307], [284, 1308, 1310, 1311], [285, 1309], [286, 287], [288, 1312, 1440, 1456, 1464, 1468, 1470, 1471], [289, 1313, 1441, 1457, 1465, 1469], [290, 1314, 1442, 1458, 1466, 1467], [291, 1315, 1443, 1459], [292, 1316, 1444, 1460, 1462, 1463], [293, 1317, 1445, 1461], [294, 1318, 1446, 1447], [295, 1319], [296, 1320, 1448, 1452, 1454, 1455], [297, 1321, 1449, 1453], [298, 1322, 1450, 1451], [299, 1323], [300, 1324, 1326, 1327], [301, 1325], [302, 303], [304, 1328, 1336, 1340, 1342, 1343], [305, 1329, 1337, 1341], [306, 1330, 1338, 1339], [307, 1331], [308, 1332, 1334, 1335], [309, 1333], [310, 311], [312, 316, 318, 319]]
def sp_c4 : List (List Nat) := [[313, 317], [314, 315], [320, 1344, 1376, 1392, 1400, 1404, 1406, 1407], [321, 1345, 1377, 1393, 1401, 1405], [322, 1346, 1378, 1394, 1402, 1403], [323, 1347, 1379, 1395], [324, 1348, 1380, 1396, 1398, 1399], [325, 1349, 1381, 1397], [326, 1350, 1382, 1383], [327, 1351], [328, 1352, 1384, 1388, 1390, 1391], [329, 1353, 1385, 1389], [330, 1354, 1386, 1387], [331, 1355], [332, 1356, 1358, 1359], [333, 1357], [334, 335], [336, 1360, 1368, 1372, 1374, 1375], [337, 1361, 1369, 1373], [338, 1362, 1370, 1371], [339, 1363], [340, 1364, 1366, 1367], [341, 1365], [342, 343], [344, 348, 350, 351], [345, 349], [346, 347], [352, 368, 376, 380, 382, 383], [353, 369, 377, 381], [354, 370, 378, 379], [355, 371], [356, 372, 374, 375], [357, 373], [358, 359], [360, 364, 366, 367], [361, 365], [362, 363], [384, 448, 480, 496, 504, 508, 510, 511], [385, 449, 481, 497, 505, 509], [386, 450, 482, 498, 506, 507], [387, 451, 483, 499], [388, 452, 484, 500, 502, 503], [389, 453, 485, 501], [390, 454, 486, 487], [391, 455], [392, 456, 488, 492, 494, 495], [393, 457, 489, 493], [394, 458, 490, 491], [395, 459], [396, 460, 462, 463], [397, 461], [398, 399], [400, 464, 472, 476, 478, 479], [401, 465, 473, 477], [402, 466, 474, 475], [403, 467], [404, 468, 470, 471], [405, 469], [406, 407], [408, 412, 414, 415], [409, 413], [410, 411], [416, 432, 440, 444, 446, 447], [417, 433, 441, 445], [418, 434, 442, 443], [419, 435]]
def sp_c5 : List (List Nat) := [[420, 436, 438, 439], [421, 437], [422, 423], [424, 428, 430, 431], [425, 429], [426, 427], [512, 768, 896, 960, 992, 1008, 1016, 1020, 1022, 1023], [513, 769, 897, 961, 993, 1009, 1017, 1021], [514, 770, 898, 962, 994, 1010, 1018, 1019], [515, 771, 899, 963, 995, 1011], [516, 772, 900, 964, 996, 1012, 1014, 1015], [517, 773, 901, 965, 997, 1013], [518, 774, 902, 966, 998, 999], [519, 775, 903, 967], [520, 776, 904, 968, 1000, 1004, 1006, 1007], [521, 777, 905, 969, 1001, 1005], [522, 778, 906, 970, 1002, 1003], [523, 779, 907, 971], [524, 780, 908, 972, 974, 975], [525, 781, 909, 973], [526, 782, 910, 911], [527, 783], [528, 784, 912, 976, 984, 988, 990, 991], [529, 785, 913, 977, 985, 989], [530, 786, 914, 978, 986, 987], [531, 787, 915, 979], [532, 788, 916, 980, 982, 983], [533, 789, 917, 981], [534, 790, 918, 919], [535, 791], [536, 792, 920, 924, 926, 927], [537, 793, 921, 925], [538, 794, 922, 923], [539, 795], [540, 796, 798, 799], [541, 797], [542, 543], [544, 800, 928, 944, 952, 956, 958, 959], [545, 801, 929, 945, 953, 957], [546, 802, 930, 946, 954, 955], [547, 803, 931, 947], [548, 804, 932, 948, 950, 951], [549, 805, 933, 949], [550, 806, 934, 935], [551, 807], [552, 808, 936, 940, 942, 943], [553, 809, 937, 941], [554, 810, 938, 939], [555, 811], [556, 812, 814, 815], [557, 813], [558, 559], [560, 816, 824, 828, 830, 831], [561, 817, 825, 829], [562, 818, 826, 827], [563, 819], [564, 820, 822, 823], [565, 821], [566, 567], [568, 572, 574, 575], [569, 573], [570, 571], [576, 832, 864, 880, 888, 892, 894, 895], [577, 833, 865, 881, 889, 893], [578, 834, 866, 882, 890, 891], [579, 835, 867, 883]]
def sp_c6 : List (List Nat) := [[580, 836, 868, 884, 886, 887], [581, 837, 869, 885], [582, 838, 870, 871], [583, 839], [584, 840, 872, 876, 878, 879], [585, 841, 873, 877], [586, 842, 874, 875], [587, 843], [588, 844, 846, 847], [589, 845], [590, 591], [592, 848, 856, 860, 862, 863], [593, 849, 857, 861], [594, 850, 858, 859], [595, 851], [596, 852, 854, 855], [597, 853], [598, 599], [600, 604, 606, 607], [601, 605], [602, 603], [608, 624, 632, 636, 638, 639], [609, 625, 633, 637], [610, 626, 634, 635], [611, 627], [612, 628, 630, 631], [613, 629], [614, 615], [616, 620, 622, 623], [617, 621], [618, 619], [640, 704, 736, 752, 760, 764, 766, 767], [641, 705, 737, 753, 761, 765], [642, 706, 738, 754, 762, 763], [643, 707, 739, 755], [644, 708, 740, 756, 758, 759], [645, 709, 741, 757], [646, 710, 742, 743], [647, 711], [648, 712, 744, 748, 750, 751], [649, 713, 745, 749], [650, 714, 746, 747], [651, 715], [652, 716, 718, 719], [653, 717], [654, 655], [656, 720, 728, 732, 734, 735], [657, 721, 729, 733], [658, 722, 730, 731], [659, 723], [660, 724, 726, 727], [661, 725], [662, 663], [664, 668, 670, 671], [665, 669], [666, 667], [672, 688, 696, 700, 702, 703], [673, 689, 697, 701], [674, 690, 698, 699], [675, 691], [676, 692, 694, 695], [677, 693], [678, 679], [680, 684, 686, 687], [681, 685], [682, 683]]
def sp_c : List (List Nat) := sp_c0 ++ sp_c1 ++ sp_c2 ++ sp_c3 ++ sp_c4 ++ sp_c5 ++ sp_c6
/-- a is a part of b -/
def sp_sub (a b : Nat) : Bool := (a &&& b) == a
def sp_ok : List Nat → Bool
  | [] => true
  | a :: l => l.all (fun b => sp_sub a b) && sp_ok l
def sp_or : List Nat → Nat
  | [] => 0
  | a :: l => sp_or l ||| (1 <<< a)
def sp_orc : List (List Nat) → Nat
  | [] => 0
  | c :: l => sp_orc l ||| sp_or c
set_option maxRecDepth 100000 in
theorem sp_chains : sp_c.all sp_ok = true := by decide +kernel
set_option maxRecDepth 100000 in
theorem sp_len : sp_c.length = 462 := by decide +kernel
set_option maxRecDepth 100000 in
theorem sp_cover0 : sp_orc sp_c = 2 ^ 2048 - 1 := by decide +kernel
theorem sp_or_mem : ∀ (l : List Nat) (i : Nat), (sp_or l).testBit i = true → i ∈ l
  | [], i, h => by simp [sp_or] at h
  | a :: l, i, h => by
    rw [sp_or, Nat.testBit_or, Bool.or_eq_true] at h
    rcases h with h | h
    · exact List.mem_cons_of_mem _ (sp_or_mem l i h)
    · rw [Nat.one_shiftLeft, Nat.testBit_two_pow] at h
      have h : a = i := of_decide_eq_true h
      rw [h]
      exact List.mem_cons_self
theorem sp_orc_mem : ∀ (l : List (List Nat)) (i : Nat), (sp_orc l).testBit i = true → ∃ c ∈ l, i ∈ c
  | [], i, h => by simp [sp_orc] at h
  | c :: l, i, h => by
    rw [sp_orc, Nat.testBit_or, Bool.or_eq_true] at h
    rcases h with h | h
    · obtain ⟨d, h1, h2⟩ := sp_orc_mem l i h
      exact ⟨d, List.mem_cons_of_mem _ h1, h2⟩
    · exact ⟨c, List.mem_cons_self, sp_or_mem c i h⟩
theorem sp_cover (i : Nat) (h : i < 2048) : ∃ c ∈ sp_c, i ∈ c := by
  refine sp_orc_mem sp_c i ?_
  rw [sp_cover0, Nat.testBit_two_pow_sub_one]
  exact decide_eq_true h
theorem sp_ok_cmp : ∀ (c : List Nat), sp_ok c = true → ∀ a ∈ c, ∀ b ∈ c, a = b ∨ sp_sub a b = true ∨ sp_sub b a = true
  | [], _, a, h, _, _ => by cases h
  | x :: l, hc, a, ha, b, hb => by
    rw [sp_ok, Bool.and_eq_true, List.all_eq_true] at hc
    rcases List.mem_cons.mp ha with h1 | h1
    · rcases List.mem_cons.mp hb with h2 | h2
      · exact Or.inl (h1.trans h2.symm)
      · rw [h1]; exact Or.inr (Or.inl (hc.1 b h2))
    · rcases List.mem_cons.mp hb with h2 | h2
      · rw [h2]; exact Or.inr (Or.inr (hc.1 a h1))
      · exact sp_ok_cmp l hc.2 a h1 b h2
def sp_ix (S : Nat) : Nat := sp_c.findIdx (fun c => c.contains S)
theorem sp_ix_in (S : Nat) (h : S < 2048) : ∃ hl : sp_ix S < sp_c.length, S ∈ sp_c[sp_ix S] := by
  obtain ⟨c, h1, h2⟩ := sp_cover S h
  have hl : sp_ix S < sp_c.length := List.findIdx_lt_length_of_exists ⟨c, h1, by simpa using h2⟩
  refine ⟨hl, ?_⟩
  have h9 : (sp_c[sp_ix S]).contains S = true := List.findIdx_getElem (p := fun c : List Nat => c.contains S) (w := hl)
  generalize sp_c[sp_ix S] = d at h9 ⊢
  simpa using h9
/-- of the sets of 11 statements at most 462 can stand so that none is a part of another one -/
theorem sp_bound (F : List Nat) (hn : F.Nodup) (hb : ∀ a ∈ F, a < 2048) (ha : ∀ a ∈ F, ∀ b ∈ F, sp_sub a b = true → a = b) : F.length ≤ 462 := by
  have key : ∀ a ∈ F, ∀ b ∈ F, sp_ix a = sp_ix b → a = b := by
    intro a h1 b h2 e
    obtain ⟨l1, m1⟩ := sp_ix_in a (hb a h1)
    obtain ⟨l2, m2⟩ := sp_ix_in b (hb b h2)
    have m3 : b ∈ sp_c[sp_ix a] := by simpa only [e] using m2
    have hok : sp_ok sp_c[sp_ix a] = true := (List.all_eq_true.mp sp_chains) _ (List.getElem_mem l1)
    rcases sp_ok_cmp _ hok a m1 b m3 with q | q | q
    · exact q
    · exact ha a h1 b h2 q
    · exact (ha b h2 a h1 q).symm
  have h1 : (F.map sp_ix).Nodup := by
    unfold List.Nodup
    rw [List.pairwise_map]
    exact List.Pairwise.imp_of_mem (fun {a b} h1 h2 hne e => hne (key a h1 b h2 e)) hn
  have h2 : F.map sp_ix ⊆ List.range 462 := by
    intro x hx
    obtain ⟨a, h3, rfl⟩ := List.mem_map.mp hx
    obtain ⟨l1, -⟩ := sp_ix_in a (hb a h3)
    rw [sp_len] at l1
    exact List.mem_range.mpr l1
  have h3 := h1.length_le_of_subset h2
  rwa [List.length_map, List.length_range] at h3
end
section
/-! bits: Int32 of small numbers -/
theorem bx_and (a b : Nat) : nI a &&& nI b = nI (a &&& b) := by
  apply Int32.toBitVec_inj.1
  show BitVec.ofNat 32 a &&& BitVec.ofNat 32 b = BitVec.ofNat 32 (a &&& b)
  rw [BitVec.ofNat_and]
theorem bx_xor (a b : Nat) : nI a ^^^ nI b = nI (a ^^^ b) := by
  apply Int32.toBitVec_inj.1
  show BitVec.ofNat 32 a ^^^ BitVec.ofNat 32 b = BitVec.ofNat 32 (a ^^^ b)
  rw [BitVec.ofNat_xor]
theorem bx_or (a b : Nat) : nI a ||| nI b = nI (a ||| b) := by
  apply Int32.toBitVec_inj.1
  show BitVec.ofNat 32 a ||| BitVec.ofNat 32 b = BitVec.ofNat 32 (a ||| b)
  rw [BitVec.ofNat_or]
theorem bx_shl : ∀ i, i < 31 → (1 : Int32) <<< (nI i &&& 31) = nI (2 ^ i) := by decide +kernel
theorem bx_not : ((-1 : Int32)).toBitVec = BitVec.allOnes 32 := by decide
theorem bx_part {a b : Nat} (ha : a < 2 ^ 31) : (nI a &&& (nI b ^^^ (-1))) = 0 ↔ sp_sub a b = true := by
  rw [← Int32.toBitVec_inj, Int32.toBitVec_and, Int32.toBitVec_xor, bx_not]
  show (BitVec.ofNat 32 a &&& (BitVec.ofNat 32 b ^^^ BitVec.allOnes 32)) = 0#32 ↔ _
  unfold sp_sub
  rw [beq_iff_eq]
  have hk : ∀ i, i < 32 → (BitVec.ofNat 32 a &&& (BitVec.ofNat 32 b ^^^ BitVec.allOnes 32)).getLsbD i = (a.testBit i && !b.testBit i) := by
    intro i hi
    rw [BitVec.getLsbD_and, BitVec.getLsbD_xor, BitVec.getLsbD_ofNat, BitVec.getLsbD_ofNat, BitVec.getLsbD_allOnes, decide_eq_true hi]
    cases a.testBit i <;> cases b.testBit i <;> rfl
  constructor
  · intro h
    apply Nat.eq_of_testBit_eq
    intro i
    rw [Nat.testBit_and]
    rcases Nat.lt_or_ge i 32 with hi | hi
    · have h1 := hk i hi
      rw [h, BitVec.getLsbD_zero] at h1
      revert h1
      cases a.testBit i <;> cases b.testBit i <;> decide
    · rw [Nat.testBit_lt_two_pow (Nat.lt_of_lt_of_le ha (Nat.pow_le_pow_right (by decide) (by omega)))]
      rfl
  · intro h
    apply BitVec.eq_of_getLsbD_eq
    intro i hi
    rw [hk i hi, BitVec.getLsbD_zero]
    have h1 : (a &&& b).testBit i = a.testBit i := by rw [h]
    rw [Nat.testBit_and] at h1
    revert h1
    cases a.testBit i <;> cases b.testBit i <;> decide
theorem bx_bit {a i : Nat} (ha : a < 2 ^ 31) (hi : i < 31) : (nI a &&& nI (2 ^ i)) = 0 ↔ a.testBit i = false := by
  have hl : a &&& 2 ^ i < 2 ^ 31 := Nat.and_lt_two_pow a (Nat.pow_lt_pow_right (by decide) hi)
  rw [bx_and, ← nI_0, nI_eq hl (by decide)]
  constructor
  · intro h
    have h1 : (a &&& 2 ^ i).testBit i = false := by rw [h]; exact Nat.zero_testBit i
    rw [Nat.testBit_and, Nat.testBit_two_pow_self, Bool.and_true] at h1
    exact h1
  · intro h
    apply Nat.eq_of_testBit_eq
    intro j
    rw [Nat.testBit_and, Nat.testBit_two_pow, Nat.zero_testBit]
    rcases Nat.decEq i j with q | q
    · rw [decide_eq_false q, Bool.and_false]
    · rw [← q, h]; rfl
theorem bI_0 {b : Bool} : bI b = 0 ↔ b = false := by cases b <;> simp [bI] <;> decide
theorem bI_t : bI true = 1 := rfl
theorem bI_f : bI false = 0 := rfl
theorem upd_nI (f : Nat → Nat) (k v : Nat) : upd (fun j => nI (f j)) k (nI v) = fun j => nI (va_up f k v j) := by
  funext j
  unfold upd va_up
  split <;> rfl
theorem upd_bI (f : Nat → Bool) (k : Nat) (v : Bool) : upd (fun j => bI (f j)) k (vp_nar .boolean (bI v)) = fun j => bI (va_up f k v j) := by
  funext j
  unfold upd va_up
  have h : vp_nar .boolean (bI v) = bI v := by cases v <;> rfl
  rw [h]
  split <;> rfl
end
section
/-! The worlds of class (wX) and reference (wY), in numbers. -/
abbrev wX (h : Nat → Nat) (cI cZ : ClassId) (n bt : Nat) (rk wt cl : Nat → Nat) (cc : Nat) (su sa : Nat → Nat) (sc od : Nat) (fr : Bool) (cg : Nat → Bool) (co rp : Nat → Nat) (rc : Nat) : va_W :=
  [(h 0, .inr (0, [.int (nI n), .int (nI bt), .ref (h 1), .ref (h 2), .ref (h 3), .int (nI cc), .ref (h 4), .ref (h 5), .int (nI sc), .int (nI od), .int (bI fr), .ref (h 6), .ref (h 7), .ref (h 8), .int (nI rc)])),
   (h 1, .inl (cI, 11, .inl (fun j => nI (rk j)))), (h 2, .inl (cI, 11, .inl (fun j => nI (wt j)))), (h 3, .inl (cI, 40, .inl (fun j => nI (cl j)))), (h 4, .inl (cI, 20, .inl (fun j => nI (su j)))), (h 5, .inl (cI, 20, .inl (fun j => nI (sa j)))), (h 6, .inl (cZ, 2048, .inl (fun j => bI (cg j)))), (h 7, .inl (cI, 11, .inl (fun j => nI (co j)))), (h 8, .inl (cI, 462, .inl (fun j => nI (rp j))))]
abbrev wY (h : Nat → Nat) (cI cZ : ClassId) (n : Nat) (hd : Nat → Bool) (rk wt cl : Nat → Nat) (cc : Nat) (ow su : Nat → Nat) (sc od : Nat) (kn : Bool) (ke : Nat → Bool) (rp : Nat → Nat) (rc : Nat) : va_W :=
  [(h 0, .inr (1, [.int (nI n), .ref (h 1), .ref (h 2), .ref (h 3), .ref (h 4), .int (nI cc), .ref (h 5), .ref (h 6), .int (nI sc), .int (nI od), .int (bI kn), .ref (h 7), .ref (h 8), .int (nI rc)])),
   (h 1, .inl (cZ, 11, .inl (fun j => bI (hd j)))), (h 2, .inl (cI, 11, .inl (fun j => nI (rk j)))), (h 3, .inl (cI, 11, .inl (fun j => nI (wt j)))), (h 4, .inl (cI, 40, .inl (fun j => nI (cl j)))), (h 5, .inl (cI, 20, .inl (fun j => nI (ow j)))), (h 6, .inl (cI, 20, .inl (fun j => nI (su j)))), (h 7, .inl (cZ, 2048, .inl (fun j => bI (ke j)))), (h 8, .inl (cI, 2048, .inl (fun j => nI (rp j))))]
def okR (x : Int32) : Bool := !decide (x < 0) && !decide (7 < x)
def okW (x : Int32) : Bool := !decide (x < 1) && !decide (1000 < x)
def okA (x : Int32) : Bool := !decide (x < 0) && !decide (8 ≤ x)
def okO (x : Int32) : Bool := !decide (x < 0) && !decide (3 < x)
def okS (n : Nat) (x : Int32) : Bool := !decide (x < 0) && !decide (nI n ≤ x)
/-- b is a part of a, and not all of it -/
def hasM (a b : Nat) : Bool := !decide (a = b) && sp_sub b a
theorem bx_dec {a : Nat} (h : 0 < a) : nI a - 1 = nI (a - 1) := by
  show nI a - nI 1 = _
  exact pk_sub h
theorem bx_p2 {n : Nat} (h : n ≤ 11) : 2 ^ n ≤ 2048 := Nat.le_trans (Nat.pow_le_pow_right (by decide) h) (by decide)
theorem bx_pos (n : Nat) : 0 < 2 ^ n := Nat.pow_pos (by decide)
end
section
section MX1
variable {D : va_G} {h : Nat → Nat} {cI cZ : ClassId} {n bt : Nat} {rk wt cl : Nat → Nat} {cc : Nat} {su sa : Nat → Nat} {sc od : Nat} {fr : Bool} {cg : Nat → Bool} {co rp : Nat → Nat} {rc : Nat}
set_option maxHeartbeats 4000000 in
set_option maxRecDepth 100000 in
theorem c_X_isRank (l : Launch) (x : Int32) : Met l y_X_isRank w_X_isRank (k2_rm 0 0) (rd_P0 [.int x]) (k2_QcV (.int (bI (okR x)))) 0 0 (fun _ => False) := by
  refine rd_met0 (by decide) rfl (Nat.le_of_ble_eq_true rfl) rfl ?_
  intro p e s m below meth c ls hx hb hr hml hown hts hlocks hl
  have hts : ∀ w ∈ tbl, w.before _ s = true := fun w h => hts w (List.mem_cons_of_mem _ h)
  have hown : s.vm.findClass RX = some m.cls := hown
  have hl : lv_has ls 1 [(0, .int x)] := hl
  refine lv_iload_n hx hb d_X_isRank_0 rfl (lv_at hl 0 rfl) ?_
  refine lv_if_lt (tgt := 14) hx hb d_X_isRank_1 (by decide) (fun c1 => ?_) (fun c1 => ?_)
  · refine lv_iconst (v := 0) hx hb d_X_isRank_14 (by decide) ?_
    exact rd_zret hx hb hr hlocks d_X_isRank_15 (by simp [okR, bI, c1])
  · refine lv_iload_n hx hb d_X_isRank_4 rfl (lv_at hl 0 rfl) ?_
    refine lv_bipush (v := 7) hx hb d_X_isRank_5 (by decide) ?_
    refine lv_icmp_gt (tgt := 14) hx hb d_X_isRank_7 (by decide) (fun c7 => ?_) (fun c7 => ?_)
    · refine lv_iconst (v := 0) hx hb d_X_isRank_14 (by decide) ?_
      exact rd_zret hx hb hr hlocks d_X_isRank_15 (by simp [okR, bI, c1, c7])
    · refine lv_iconst (v := 1) hx hb d_X_isRank_10 (by decide) ?_
      refine lv_goto (tgt := 15) hx hb d_X_isRank_11 (by decide) ?_
      exact rd_zret hx hb hr hlocks d_X_isRank_15 (by simp [okR, bI, c1, c7])
set_option maxHeartbeats 4000000 in
set_option maxRecDepth 100000 in
theorem c_X_isWeight (l : Launch) (x : Int32) : Met l y_X_isWeight w_X_isWeight (k2_rm 0 0) (rd_P0 [.int x]) (k2_QcV (.int (bI (okW x)))) 0 0 (fun _ => False) := by
  refine rd_met0 (by decide) rfl (Nat.le_of_ble_eq_true rfl) rfl ?_
  intro p e s m below meth c ls hx hb hr hml hown hts hlocks hl
  have hts : ∀ w ∈ tbl, w.before _ s = true := fun w h => hts w (List.mem_cons_of_mem _ h)
  have hown : s.vm.findClass RX = some m.cls := hown
  have hl : lv_has ls 1 [(0, .int x)] := hl
  refine lv_iload_n hx hb d_X_isWeight_0 rfl (lv_at hl 0 rfl) ?_
  refine lv_iconst (v := 1) hx hb d_X_isWeight_1 (by decide) ?_
  refine lv_icmp_lt (tgt := 16) hx hb d_X_isWeight_2 (by decide) (fun c2 => ?_) (fun c2 => ?_)
  · refine lv_iconst (v := 0) hx hb d_X_isWeight_16 (by decide) ?_
    exact rd_zret hx hb hr hlocks d_X_isWeight_17 (by simp [okW, bI, c2])
  · refine lv_iload_n hx hb d_X_isWeight_5 rfl (lv_at hl 0 rfl) ?_
    refine lv_sipush (v := 1000) hx hb d_X_isWeight_6 (by decide) ?_
    refine lv_icmp_gt (tgt := 16) hx hb d_X_isWeight_9 (by decide) (fun c9 => ?_) (fun c9 => ?_)
    · refine lv_iconst (v := 0) hx hb d_X_isWeight_16 (by decide) ?_
      exact rd_zret hx hb hr hlocks d_X_isWeight_17 (by simp [okW, bI, c2, c9])
    · refine lv_iconst (v := 1) hx hb d_X_isWeight_12 (by decide) ?_
      refine lv_goto (tgt := 17) hx hb d_X_isWeight_13 (by decide) ?_
      exact rd_zret hx hb hr hlocks d_X_isWeight_17 (by simp [okW, bI, c2, c9])
set_option maxHeartbeats 4000000 in
set_option maxRecDepth 100000 in
theorem c_X_isAnswer (l : Launch) (x : Int32) : Met l y_X_isAnswer w_X_isAnswer (k2_rm 0 0) (rd_P0 [.int x]) (k2_QcV (.int (bI (okA x)))) 0 0 (fun _ => False) := by
  refine rd_met0 (by decide) rfl (Nat.le_of_ble_eq_true rfl) rfl ?_
  intro p e s m below meth c ls hx hb hr hml hown hts hlocks hl
  have hts : ∀ w ∈ tbl, w.before _ s = true := fun w h => hts w (List.mem_cons_of_mem _ h)
  have hown : s.vm.findClass RX = some m.cls := hown
  have hl : lv_has ls 1 [(0, .int x)] := hl
  refine lv_iload_n hx hb d_X_isAnswer_0 rfl (lv_at hl 0 rfl) ?_
  refine lv_if_lt (tgt := 14) hx hb d_X_isAnswer_1 (by decide) (fun c1 => ?_) (fun c1 => ?_)
  · refine lv_iconst (v := 0) hx hb d_X_isAnswer_14 (by decide) ?_
    exact rd_zret hx hb hr hlocks d_X_isAnswer_15 (by simp [okA, bI, c1])
  · refine lv_iload_n hx hb d_X_isAnswer_4 rfl (lv_at hl 0 rfl) ?_
    refine lv_bipush (v := 8) hx hb d_X_isAnswer_5 (by decide) ?_
    refine lv_icmp_ge (tgt := 14) hx hb d_X_isAnswer_7 (by decide) (fun c7 => ?_) (fun c7 => ?_)
    · refine lv_iconst (v := 0) hx hb d_X_isAnswer_14 (by decide) ?_
      exact rd_zret hx hb hr hlocks d_X_isAnswer_15 (by simp [okA, bI, c1, c7])
    · refine lv_iconst (v := 1) hx hb d_X_isAnswer_10 (by decide) ?_
      refine lv_goto (tgt := 15) hx hb d_X_isAnswer_11 (by decide) ?_
      exact rd_zret hx hb hr hlocks d_X_isAnswer_15 (by simp [okA, bI, c1, c7])
set_option maxHeartbeats 4000000 in
set_option maxRecDepth 100000 in
theorem c_X_isOrder (l : Launch) (x : Int32) : Met l y_X_isOrder w_X_isOrder (k2_rm 0 0) (rd_P0 [.int x]) (k2_QcV (.int (bI (okO x)))) 0 0 (fun _ => False) := by
  refine rd_met0 (by decide) rfl (Nat.le_of_ble_eq_true rfl) rfl ?_
  intro p e s m below meth c ls hx hb hr hml hown hts hlocks hl
  have hts : ∀ w ∈ tbl, w.before _ s = true := fun w h => hts w (List.mem_cons_of_mem _ h)
  have hown : s.vm.findClass RX = some m.cls := hown
  have hl : lv_has ls 1 [(0, .int x)] := hl
  refine lv_iload_n hx hb d_X_isOrder_0 rfl (lv_at hl 0 rfl) ?_
  refine lv_if_lt (tgt := 13) hx hb d_X_isOrder_1 (by decide) (fun c1 => ?_) (fun c1 => ?_)
  · refine lv_iconst (v := 0) hx hb d_X_isOrder_13 (by decide) ?_
    exact rd_zret hx hb hr hlocks d_X_isOrder_14 (by simp [okO, bI, c1])
  · refine lv_iload_n hx hb d_X_isOrder_4 rfl (lv_at hl 0 rfl) ?_
    refine lv_iconst (v := 3) hx hb d_X_isOrder_5 (by decide) ?_
    refine lv_icmp_gt (tgt := 13) hx hb d_X_isOrder_6 (by decide) (fun c6 => ?_) (fun c6 => ?_)
    · refine lv_iconst (v := 0) hx hb d_X_isOrder_13 (by decide) ?_
      exact rd_zret hx hb hr hlocks d_X_isOrder_14 (by simp [okO, bI, c1, c6])
    · refine lv_iconst (v := 1) hx hb d_X_isOrder_9 (by decide) ?_
      refine lv_goto (tgt := 14) hx hb d_X_isOrder_10 (by decide) ?_
      exact rd_zret hx hb hr hlocks d_X_isOrder_14 (by simp [okO, bI, c1, c6])
set_option maxHeartbeats 4000000 in
set_option maxRecDepth 100000 in
theorem c_X_isStatement (l : Launch) (x : Int32) : Met l y_X_isStatement w_X_isStatement (k2_rm 0 0) (rd_Pc D clX (wX h cI cZ n bt rk wt cl cc su sa sc od fr cg co rp rc) [(cI, .int), (cZ, .boolean)] [.ref (h 0), .int x]) (k2_QcV (.int (bI (okS n x)))) 0 0 (fun _ => False) := by
  refine rd_met (by decide) rfl (Nat.le_of_ble_eq_true rfl) rfl ?_
  intro p e s m below meth c ls hx hb hr hml hown hts hlocks hP hK hl
  have hts : ∀ w ∈ tbl, w.before _ s = true := fun w h => hts w (List.mem_cons_of_mem _ h)
  have hown : s.vm.findClass RX = some m.cls := hown
  have hl : lv_has ls 2 [(0, .ref (h 0)), (1, .int x)] := hl
  refine lv_iload_n hx hb d_X_isStatement_0 rfl (lv_at hl 1 rfl) ?_
  refine lv_if_lt (tgt := 16) hx hb d_X_isStatement_1 (by decide) (fun c1 => ?_) (fun c1 => ?_)
  · refine lv_iconst (v := 0) hx hb d_X_isStatement_16 (by decide) ?_
    exact rd_zret hx hb hr hlocks d_X_isStatement_17 (by simp [okS, bI, c1])
  · refine lv_iload_n hx hb d_X_isStatement_4 rfl (lv_at hl 1 rfl) ?_
    refine lv_aload_n hx hb d_X_isStatement_5 rfl (lv_at hl 0 rfl) ?_
    refine va_get (D := D) (ci := 0) (v := .int (nI n)) (C := RX) (T := TX) (N := 15) hx hb hts inX hown hK hP 0 rfl rfl 0 (by decide) (hts _ f_X_9) (fun _ h9 => h9) rfl d_X_isStatement_6 ?_
    refine lv_icmp_ge (tgt := 16) hx hb d_X_isStatement_9 (by decide) (fun c9 => ?_) (fun c9 => ?_)
    · refine lv_iconst (v := 0) hx hb d_X_isStatement_16 (by decide) ?_
      exact rd_zret hx hb hr hlocks d_X_isStatement_17 (by simp [okS, bI, c1, c9])
    · refine lv_iconst (v := 1) hx hb d_X_isStatement_12 (by decide) ?_
      refine lv_goto (tgt := 17) hx hb d_X_isStatement_13 (by decide) ?_
      exact rd_zret hx hb hr hlocks d_X_isStatement_17 (by simp [okS, bI, c1, c9])
set_option maxHeartbeats 4000000 in
set_option maxRecDepth 100000 in
theorem c_X_isRepair (l : Launch) (x : Int32) : Met l y_X_isRepair w_X_isRepair (k2_rm 0 0) (rd_Pc D clX (wX h cI cZ n bt rk wt cl cc su sa sc od fr cg co rp rc) [(cI, .int), (cZ, .boolean)] [.ref (h 0), .int x]) (k2_QcV (.int (bI (okS rc x)))) 0 0 (fun _ => False) := by
  refine rd_met (by decide) rfl (Nat.le_of_ble_eq_true rfl) rfl ?_
  intro p e s m below meth c ls hx hb hr hml hown hts hlocks hP hK hl
  have hts : ∀ w ∈ tbl, w.before _ s = true := fun w h => hts w (List.mem_cons_of_mem _ h)
  have hown : s.vm.findClass RX = some m.cls := hown
  have hl : lv_has ls 2 [(0, .ref (h 0)), (1, .int x)] := hl
  refine lv_iload_n hx hb d_X_isRepair_0 rfl (lv_at hl 1 rfl) ?_
  refine lv_if_lt (tgt := 16) hx hb d_X_isRepair_1 (by decide) (fun c1 => ?_) (fun c1 => ?_)
  · refine lv_iconst (v := 0) hx hb d_X_isRepair_16 (by decide) ?_
    exact rd_zret hx hb hr hlocks d_X_isRepair_17 (by simp [okS, bI, c1])
  · refine lv_iload_n hx hb d_X_isRepair_4 rfl (lv_at hl 1 rfl) ?_
    refine lv_aload_n hx hb d_X_isRepair_5 rfl (lv_at hl 0 rfl) ?_
    refine va_get (D := D) (ci := 0) (v := .int (nI rc)) (C := RX) (T := TX) (N := 15) hx hb hts inX hown hK hP 0 rfl rfl 14 (by decide) (hts _ f_X_55) (fun _ h9 => h9) rfl d_X_isRepair_6 ?_
    refine lv_icmp_ge (tgt := 16) hx hb d_X_isRepair_9 (by decide) (fun c9 => ?_) (fun c9 => ?_)
    · refine lv_iconst (v := 0) hx hb d_X_isRepair_16 (by decide) ?_
      exact rd_zret hx hb hr hlocks d_X_isRepair_17 (by simp [okS, bI, c1, c9])
    · refine lv_iconst (v := 1) hx hb d_X_isRepair_12 (by decide) ?_
      refine lv_goto (tgt := 17) hx hb d_X_isRepair_13 (by decide) ?_
      exact rd_zret hx hb hr hlocks d_X_isRepair_17 (by simp [okS, bI, c1, c9])
set_option maxHeartbeats 4000000 in
set_option maxRecDepth 100000 in
theorem c_X_isHard (l : Launch) (i : Nat) (hi : i < 31) (hbt : bt < 2 ^ 31) : Met l y_X_isHard w_X_isHard (k2_rm 0 0) (rd_Pc D clX (wX h cI cZ n bt rk wt cl cc su sa sc od fr cg co rp rc) [(cI, .int), (cZ, .boolean)] [.ref (h 0), .int (nI i)]) (k2_QcV (.int (bI (bt.testBit i)))) 0 0 (fun _ => False) := by
  refine rd_met (by decide) rfl (Nat.le_of_ble_eq_true rfl) rfl ?_
  intro p e s m below meth c ls hx hb hr hml hown hts hlocks hP hK hl
  have hts : ∀ w ∈ tbl, w.before _ s = true := fun w h => hts w (List.mem_cons_of_mem _ h)
  have hown : s.vm.findClass RX = some m.cls := hown
  have hl : lv_has ls 2 [(0, .ref (h 0)), (1, .int (nI i))] := hl
  refine lv_aload_n hx hb d_X_isHard_0 rfl (lv_at hl 0 rfl) ?_
  refine va_get (D := D) (ci := 0) (v := .int (nI bt)) (C := RX) (T := TX) (N := 15) hx hb hts inX hown hK hP 0 rfl rfl 1 (by decide) (hts _ f_X_13) (fun _ h9 => h9) rfl d_X_isHard_1 ?_
  refine lv_iconst (v := 1) hx hb d_X_isHard_4 (by decide) ?_
  refine lv_iload_n hx hb d_X_isHard_5 rfl (lv_at hl 1 rfl) ?_
  refine lv_ishl hx hb d_X_isHard_6 ?_
  refine rd_top (z := nI (2 ^ i)) (bx_shl i hi) ?_
  refine lv_iand hx hb d_X_isHard_7 ?_
  refine lv_if_eq (tgt := 15) hx hb d_X_isHard_8 (by decide) (fun c8 => ?_) (fun c8 => ?_)
  · refine lv_iconst (v := 0) hx hb d_X_isHard_15 (by decide) ?_
    exact rd_zret hx hb hr hlocks d_X_isHard_16 (by rw [(bx_bit hbt hi).mp c8]; rfl)
  · refine lv_iconst (v := 1) hx hb d_X_isHard_11 (by decide) ?_
    refine lv_goto (tgt := 16) hx hb d_X_isHard_12 (by decide) ?_
    exact rd_zret hx hb hr hlocks d_X_isHard_16 (by cases hq : bt.testBit i; exact absurd ((bx_bit hbt hi).mpr hq) c8; rfl)
set_option maxHeartbeats 4000000 in
set_option maxRecDepth 100000 in
theorem c_X_setCount (l : Launch) (hn : n ≤ 11) : Met l y_X_setCount w_X_setCount (k2_rm 0 0) (rd_Pc D clX (wX h cI cZ n bt rk wt cl cc su sa sc od fr cg co rp rc) [(cI, .int), (cZ, .boolean)] [.ref (h 0)]) (k2_QcV (.int (nI (2 ^ n)))) 0 0 (fun _ => False) := by
  refine rd_met (by decide) rfl (Nat.le_of_ble_eq_true rfl) rfl ?_
  intro p e s m below meth c ls hx hb hr hml hown hts hlocks hP hK hl
  have hts : ∀ w ∈ tbl, w.before _ s = true := fun w h => hts w (List.mem_cons_of_mem _ h)
  have hown : s.vm.findClass RX = some m.cls := hown
  have hl : lv_has ls 1 [(0, .ref (h 0))] := hl
  refine lv_iconst (v := 1) hx hb d_X_setCount_0 (by decide) ?_
  refine lv_aload_n hx hb d_X_setCount_1 rfl (lv_at hl 0 rfl) ?_
  refine va_get (D := D) (ci := 0) (v := .int (nI n)) (C := RX) (T := TX) (N := 15) hx hb hts inX hown hK hP 0 rfl rfl 0 (by decide) (hts _ f_X_9) (fun _ h9 => h9) rfl d_X_setCount_2 ?_
  refine lv_ishl hx hb d_X_setCount_5 ?_
  refine rd_top (z := nI (2 ^ n)) (bx_shl n (by omega)) ?_
  exact rd_iret hx hb hr hlocks d_X_setCount_6 (rfl)
set_option maxHeartbeats 4000000 in
set_option maxRecDepth 100000 in
theorem c_X_statementBits (l : Launch) (hn : n ≤ 11) : Met l y_X_statementBits w_X_statementBits (k2_rm 1 20) (rd_Pc D clX (wX h cI cZ n bt rk wt cl cc su sa sc od fr cg co rp rc) [(cI, .int), (cZ, .boolean)] [.ref (h 0)]) (k2_QcV (.int (nI (2 ^ n - 1)))) 0 0 (fun _ => False) := by
  refine rd_met (by decide) rfl (Nat.le_of_ble_eq_true rfl) rfl ?_
  intro p e s m below meth c ls hx hb hr hml hown hts hlocks hP hK hl
  have hts : ∀ w ∈ tbl, w.before _ s = true := fun w h => hts w (List.mem_cons_of_mem _ h)
  have hown : s.vm.findClass RX = some m.cls := hown
  have hl : lv_has ls 1 [(0, .ref (h 0))] := hl
  refine lv_aload_n hx hb d_X_statementBits_0 rfl (lv_at hl 0 rfl) ?_
  refine rd_V (As := []) (rest := []) ⟨hx, hb, hml, hown, hts⟩ (c_X_setCount l hn) (cwV 0 hts g_X_105 rfl rfl rfl (by decide +kernel) ⟨Nat.le_of_ble_eq_true rfl, Nat.le_of_ble_eq_true rfl⟩) hK hP 0 rfl rfl rfl hl.1 rfl (Nat.le_of_ble_eq_true rfl) d_X_statementBits_1 ⟨Nat.zero_le _, Nat.zero_le _⟩ ?_
  refine lv_iconst (v := 1) hx hb d_X_statementBits_4 (by decide) ?_
  refine lv_isub hx hb d_X_statementBits_5 ?_
  refine rd_top (z := nI (2 ^ n - 1)) (bx_dec (bx_pos n)) ?_
  exact rd_iret hx hb hr hlocks d_X_statementBits_6 (rfl)
set_option maxHeartbeats 4000000 in
set_option maxRecDepth 100000 in
theorem c_X_isPart (l : Launch) (a b : Nat) (ha : a < 2 ^ 31) : Met l y_X_isPart w_X_isPart (k2_rm 0 0) (rd_P0 [.int (nI a), .int (nI b)]) (k2_QcV (.int (bI (sp_sub a b)))) 0 0 (fun _ => False) := by
  refine rd_met0 (by decide) rfl (Nat.le_of_ble_eq_true rfl) rfl ?_
  intro p e s m below meth c ls hx hb hr hml hown hts hlocks hl
  have hts : ∀ w ∈ tbl, w.before _ s = true := fun w h => hts w (List.mem_cons_of_mem _ h)
  have hown : s.vm.findClass RX = some m.cls := hown
  have hl : lv_has ls 2 [(0, .int (nI a)), (1, .int (nI b))] := hl
  refine lv_iload_n hx hb d_X_isPart_0 rfl (lv_at hl 0 rfl) ?_
  refine lv_iload_n hx hb d_X_isPart_1 rfl (lv_at hl 1 rfl) ?_
  refine lv_iconst (v := (-1)) hx hb d_X_isPart_2 (by decide) ?_
  refine lv_ixor hx hb d_X_isPart_3 ?_
  refine lv_iand hx hb d_X_isPart_4 ?_
  refine lv_if_ne (tgt := 12) hx hb d_X_isPart_5 (by decide) (fun c5 => ?_) (fun c5 => ?_)
  · refine lv_iconst (v := 0) hx hb d_X_isPart_12 (by decide) ?_
    exact rd_zret hx hb hr hlocks d_X_isPart_13 (by cases hq : sp_sub a b; rfl; exact absurd ((bx_part ha).mpr hq) c5)
  · refine lv_iconst (v := 1) hx hb d_X_isPart_8 (by decide) ?_
    refine lv_goto (tgt := 13) hx hb d_X_isPart_9 (by decide) ?_
    exact rd_zret hx hb hr hlocks d_X_isPart_13 (by rw [(bx_part ha).mp c5]; rfl)
set_option maxHeartbeats 4000000 in
set_option maxRecDepth 100000 in
theorem c_X_hasMore (l : Launch) (a b : Nat) (ha : a < 2 ^ 31) (hb2 : b < 2 ^ 31) : Met l y_X_hasMore w_X_hasMore (k2_rm 1 21) (rd_P0 [.int (nI a), .int (nI b)]) (k2_QcV (.int (bI (hasM a b)))) 0 0 (fun _ => False) := by
  refine rd_met0 (by decide) rfl (Nat.le_of_ble_eq_true rfl) rfl ?_
  intro p e s m below meth c ls hx hb hr hml hown hts hlocks hl
  have hts : ∀ w ∈ tbl, w.before _ s = true := fun w h => hts w (List.mem_cons_of_mem _ h)
  have hown : s.vm.findClass RX = some m.cls := hown
  have hl : lv_has ls 2 [(0, .int (nI a)), (1, .int (nI b))] := hl
  refine lv_iload_n hx hb d_X_hasMore_0 rfl (lv_at hl 0 rfl) ?_
  refine lv_iload_n hx hb d_X_hasMore_1 rfl (lv_at hl 1 rfl) ?_
  refine lv_icmp_eq (tgt := 17) hx hb d_X_hasMore_2 (by decide) (fun c2 => ?_) (fun c2 => ?_)
  · refine lv_iconst (v := 0) hx hb d_X_hasMore_17 (by decide) ?_
    exact rd_zret hx hb hr hlocks d_X_hasMore_18 (by rw [show a = b from (nI_eq ha hb2).mp c2]; simp [hasM, bI])
  · refine lv_iload_n hx hb d_X_hasMore_5 rfl (lv_at hl 1 rfl) ?_
    refine lv_iload_n hx hb d_X_hasMore_6 rfl (lv_at hl 0 rfl) ?_
    refine rd_S (As := [.int (nI b), .int (nI a)]) (rest := []) ⟨hx, hb, hml, hown, hts⟩ (c_X_isPart l b a hb2) (cwS 2 hts g_X_118 rfl rfl rfl (by decide +kernel) ⟨Nat.le_of_ble_eq_true rfl, Nat.le_of_ble_eq_true rfl⟩) rfl hl.1 rfl (Nat.le_of_ble_eq_true rfl) d_X_hasMore_7 ⟨Nat.zero_le _, Nat.zero_le _⟩ ?_
    refine lv_if_eq (tgt := 17) hx hb d_X_hasMore_10 (by decide) (fun c10 => ?_) (fun c10 => ?_)
    · refine lv_iconst (v := 0) hx hb d_X_hasMore_17 (by decide) ?_
      exact rd_zret hx hb hr hlocks d_X_hasMore_18 (by rw [hasM, bI_0.mp c10]; simp [bI])
    · refine lv_iconst (v := 1) hx hb d_X_hasMore_13 (by decide) ?_
      refine lv_goto (tgt := 18) hx hb d_X_hasMore_14 (by decide) ?_
      exact rd_zret hx hb hr hlocks d_X_hasMore_18 (by rw [hasM, decide_eq_false (fun q => c2 (by rw [q])), show sp_sub b a = true by cases hq : sp_sub b a; exact absurd (bI_0.mpr hq) c10; rfl]; rfl)
end MX1
end
section
/-! What the class's methods work out, as functions of numbers. -/
theorem lp_ge {i N : Nat} (hi : i ≤ N) (hN : N < 2 ^ 31) (c : nI N ≤ nI i) : i = N := Nat.le_antisymm hi ((nI_leI hN (Nat.lt_of_le_of_lt hi hN)).mp c)
theorem lp_lt {i N : Nat} (hi : i ≤ N) (hN : N < 2 ^ 31) (c : ¬ nI N ≤ nI i) : i < N := Nat.lt_of_not_le (fun q => c ((nI_leI hN (Nat.lt_of_le_of_lt hi hN)).mpr q))
theorem ar_nI (f : Nat → Nat) {i : Nat} (h : i < 2 ^ 31) : (fun j => nI (f j)) (nI i).toNatClampNeg = nI (f i) := by
  show nI (f (nI i).toNatClampNeg) = _
  rw [nI_clamp h]
theorem ar_bI (f : Nat → Bool) {i : Nat} (h : i < 2 ^ 31) : (fun j => bI (f j)) (nI i).toNatClampNeg = bI (f i) := by
  show bI (f (nI i).toNatClampNeg) = _
  rw [nI_clamp h]
def anyB (P : Nat → Bool) : Nat → Bool
  | 0 => false
  | k + 1 => anyB P k || P k
theorem anyB_iff {P : Nat → Bool} : ∀ {n : Nat}, anyB P n = true ↔ ∃ i, i < n ∧ P i = true
  | 0 => by simp [anyB]
  | n + 1 => by
    rw [anyB, Bool.or_eq_true, anyB_iff]
    constructor
    · rintro (⟨i, h1, h2⟩ | h)
      · exact ⟨i, by omega, h2⟩
      · exact ⟨n, by omega, h⟩
    · rintro ⟨i, h1, h2⟩
      rcases Nat.lt_or_ge i n with h | h
      · exact Or.inl ⟨i, h, h2⟩
      · exact Or.inr (by rw [show n = i by omega]; exact h2)
theorem anyB_of {P : Nat → Bool} {n i : Nat} (h : i < n) (hp : P i = true) : anyB P n = true := anyB_iff.mpr ⟨i, h, hp⟩
theorem anyB_next {P : Nat → Bool} {i : Nat} (h : anyB P i = false) (hp : P i = false) : anyB P (i + 1) = false := by rw [anyB, h, hp]; rfl
def cntB (P : Nat → Bool) : Nat → Nat
  | 0 => 0
  | k + 1 => cntB P k + (if P k then 1 else 0)
theorem cntB_le {P : Nat → Bool} : ∀ {n : Nat}, cntB P n ≤ n
  | 0 => Nat.le_refl _
  | n + 1 => by
    have := cntB_le (P := P) (n := n)
    rw [cntB]
    split <;> omega
/-- the defaults of the ranks f .. t among the first k statements, as bits -/
def dfl (bt : Nat) (rk : Nat → Nat) (f t : Nat) : Nat → Nat
  | 0 => 0
  | k + 1 => if bt.testBit k = false ∧ f ≤ rk k ∧ rk k ≤ t then dfl bt rk f t k ||| 2 ^ k else dfl bt rk f t k
theorem dfl_lt {bt : Nat} {rk : Nat → Nat} {f t : Nat} : ∀ k, dfl bt rk f t k < 2 ^ k
  | 0 => by simp [dfl]
  | k + 1 => by
    have h := dfl_lt (bt := bt) (rk := rk) (f := f) (t := t) k
    have h2 : 2 ^ k < 2 ^ (k + 1) := Nat.pow_lt_pow_right (by decide) (by omega)
    rw [dfl]
    split
    · exact Nat.or_lt_two_pow (Nat.lt_trans h h2) h2
    · exact Nat.lt_trans h h2
theorem dfl_bit {bt : Nat} {rk : Nat → Nat} {f t : Nat} {i : Nat} : ∀ k, (dfl bt rk f t k).testBit i = (decide (i < k) && !bt.testBit i && decide (f ≤ rk i) && decide (rk i ≤ t))
  | 0 => by simp [dfl]
  | k + 1 => by
    have h := dfl_bit (bt := bt) (rk := rk) (f := f) (t := t) (i := i) k
    rw [dfl]
    rcases Nat.lt_trichotomy i k with q | q | q
    · rw [decide_eq_true (show i < k + 1 by omega)]
      rw [decide_eq_true q] at h
      split
      · rw [Nat.testBit_or, h, Nat.testBit_two_pow, decide_eq_false (show ¬ k = i by omega), Bool.or_false]
      · exact h
    · subst q
      rw [decide_eq_false (Nat.lt_irrefl i)] at h
      rw [decide_eq_true (show i < i + 1 by omega)]
      split
      · rename_i hc
        rw [Nat.testBit_or, h, Nat.testBit_two_pow_self, hc.1, decide_eq_true hc.2.1, decide_eq_true hc.2.2]
        rfl
      · rename_i hc
        rw [h]
        cases h1 : bt.testBit i
        · rcases Nat.lt_or_ge (rk i) f with h2 | h2
          · rw [decide_eq_false (show ¬ f ≤ rk i by omega)]; rfl
          · rw [decide_eq_false (show ¬ rk i ≤ t from fun h3 => hc ⟨h1, h2, h3⟩)]; simp
        · rfl
    · rw [decide_eq_false (show ¬ i < k + 1 by omega)]
      rw [decide_eq_false (show ¬ i < k by omega)] at h
      split
      · rw [Nat.testBit_or, h, Nat.testBit_two_pow, decide_eq_false (show ¬ k = i by omega), Bool.or_false]
      · rw [h]
/-- a set's worth by order o (2 or 3), among the first k statements -/
def wor (bt : Nat) (rk wt : Nat → Nat) (S o : Nat) : Nat → Nat
  | 0 => 0
  | k + 1 => wor bt rk wt S o k + (if S.testBit k = true ∧ bt.testBit k = false then (if o = 2 then 2 ^ (4 * (7 - rk k)) else wt k) else 0)
theorem wor_le {bt : Nat} {rk wt : Nat → Nat} {S o B : Nat} (h1 : ∀ j, 2 ^ (4 * (7 - rk j)) ≤ B) (h2 : ∀ j, wt j ≤ B) : ∀ k, wor bt rk wt S o k ≤ k * B
  | 0 => by simp [wor]
  | k + 1 => by
    have h := wor_le (bt := bt) (S := S) (o := o) h1 h2 k
    have h3 := h1 k
    have h4 := h2 k
    rw [wor, show (k + 1) * B = k * B + B from Nat.succ_mul k B]
    generalize 2 ^ (4 * (7 - rk k)) = z at h3 ⊢
    generalize k * B = y at h ⊢
    split
    · split <;> omega
    · omega
theorem wor_lt {bt : Nat} {rk wt : Nat → Nat} {S o : Nat} (hw : ∀ j, wt j ≤ 1000) {k : Nat} (hk : k ≤ 11) : wor bt rk wt S o k < 2 ^ 33 := by
  have h := wor_le (bt := bt) (S := S) (o := o) (rk := rk) (B := 2 ^ 28) (fun j => Nat.pow_le_pow_right (by decide) (by omega)) (fun j => Nat.le_trans (hw j) (by decide)) k
  exact Nat.lt_of_le_of_lt h (Nat.lt_of_le_of_lt (Nat.mul_le_mul_right _ hk) (by decide))
theorem sh_1 : ∀ k, k < 64 → (1 : Int64) <<< ((nI k).toInt64 &&& 63) = lN (2 ^ k) := by decide +kernel
/-- order 1, rank by rank from r on, k ranks more; f r: the defaults of rank r -/
def hmr (f : Nat → Nat) (a b : Nat) : Nat → Nat → Bool
  | 0, _ => false
  | k + 1, r => if a &&& f r = b &&& f r then hmr f a b k (r + 1) else hasM (a &&& f r) (b &&& f r)
def betX (n bt : Nat) (rk wt : Nat → Nat) (a b o : Nat) : Bool := if o = 0 then hasM a b else if o = 1 then hmr (fun r => dfl bt rk r r n) a b 8 0 else decide (wor bt rk wt b o n < wor bt rk wt a o n)
def holX (sa su : Nat → Nat) (sc a S : Nat) : Bool := anyB (fun k => decide (sa k = a) && sp_sub (su k) S) sc
def vdt (rc x : Nat) : Int32 := if rc = 0 then -2 else if x = rc then 2 else if 0 < x then 1 else 0
def isLX (n : Nat) (cl : Nat → Nat) (cc S : Nat) : Bool := sp_sub S (2 ^ n - 1) && !anyB (fun k => hasM S (cl k)) cc
def oI (x : Option Nat) : Int32 := match x with
  | none => -2
  | some a => nI a
/-- the least clash with the next greater bits among the first k clashes -/
def lsA (L : Nat → Bool) (cl : Nat → Nat) (last : Option Nat) : Nat → Option Nat
  | 0 => none
  | k + 1 => if (∀ z, last = some z → z < cl k) ∧ (∀ z, lsA L cl last k = some z → cl k < z) ∧ L (cl k) = true then some (cl k) else lsA L cl last k
/-- place r (from 0) of those among j, j + 1 .. (k of them) that P names -/
def nthF (P : Nat → Bool) : Nat → Nat → Nat → Option Nat
  | 0, _, _ => none
  | k + 1, j, r => if P j then (if r = 0 then some j else nthF P k (j + 1) (r - 1)) else nthF P k (j + 1) r
end
section
section MX2
variable {D : va_G} {h : Nat → Nat} {cI cZ : ClassId} {n bt : Nat} {rk wt cl : Nat → Nat} {cc : Nat} {su sa : Nat → Nat} {sc od : Nat} {fr : Bool} {cg : Nat → Bool} {co rp : Nat → Nat} {rc : Nat}
set_option maxHeartbeats 4000000 in
set_option maxRecDepth 100000 in
theorem c_X_defaultsOfRanks (l : Launch) (f t : Nat) (hn : n ≤ 11) (hbt : bt < 2 ^ 31) (hrk : ∀ j, rk j < 8) (hf : f < 8) (ht : t < 8) : Met l y_X_defaultsOfRanks w_X_defaultsOfRanks (k2_rm 1 21) (rd_Pc D clX (wX h cI cZ n bt rk wt cl cc su sa sc od fr cg co rp rc) [(cI, .int), (cZ, .boolean)] [.ref (h 0), .int (nI f), .int (nI t)]) (k2_QcV (.int (nI (dfl bt rk f t n)))) 0 0 (fun _ => False) := by
  refine rd_met (by decide) rfl (Nat.le_of_ble_eq_true rfl) rfl ?_
  intro p e s m below meth c ls hx hb hr hml hown hts hlocks hP hK hl
  have hts : ∀ w ∈ tbl, w.before _ s = true := fun w h => hts w (List.mem_cons_of_mem _ h)
  have hown : s.vm.findClass RX = some m.cls := hown
  have hl : lv_has ls 5 [(0, .ref (h 0)), (1, .int (nI f)), (2, .int (nI t))] := hl
  refine lv_iconst (v := 0) hx hb d_X_defaultsOfRanks_0 (by decide) ?_
  refine lv_istore_n (lv' := [(3, .int 0), (0, .ref (h 0)), (1, .int (nI f)), (2, .int (nI t))]) hx hb d_X_defaultsOfRanks_1 rfl hl (by decide) rfl (fun ls hl => ?_)
  refine lv_iconst (v := 0) hx hb d_X_defaultsOfRanks_2 (by decide) ?_
  refine lv_istore (lv' := [(4, .int 0), (3, .int 0), (0, .ref (h 0)), (1, .int (nI f)), (2, .int (nI t))]) hx hb d_X_defaultsOfRanks_3 hl (by decide) rfl (fun ls hl => ?_)
  refine rd_loop (nL := 5) (σ := Nat) (n) (fun i x => [(0, .ref (h 0)), (1, .int (nI f)), (2, .int (nI t)), (3, .int (nI x)), (4, .int (nI i))]) (fun i x => x = dfl bt rk f t i) ?_ 0 0 ls (Nat.zero_le _) (rfl) (lv_sub hl [2, 3, 4, 1, 0] rfl)
  intro i x ls hi hI hl ih
  have hI : x = dfl bt rk f t i := hI
  have hl : lv_has ls 5 [(0, .ref (h 0)), (1, .int (nI f)), (2, .int (nI t)), (3, .int (nI x)), (4, .int (nI i))] := hl
  refine lv_iload hx hb d_X_defaultsOfRanks_5 (lv_at hl 4 rfl) ?_
  refine lv_aload_n hx hb d_X_defaultsOfRanks_7 rfl (lv_at hl 0 rfl) ?_
  refine va_get (D := D) (ci := 0) (v := .int (nI n)) (C := RX) (T := TX) (N := 15) hx hb hts inX hown hK hP 0 rfl rfl 0 (by decide) (hts _ f_X_9) (fun _ h9 => h9) rfl d_X_defaultsOfRanks_8 ?_
  refine lv_icmp_ge (tgt := 58) hx hb d_X_defaultsOfRanks_11 (by decide) (fun c11 => ?_) (fun c11 => ?_)
  · have hN : i = n := lp_ge hi (by omega) c11
    refine lv_iload_n hx hb d_X_defaultsOfRanks_58 rfl (lv_at hl 3 rfl) ?_
    exact rd_iret hx hb hr hlocks d_X_defaultsOfRanks_59 (by rw [hI, hN])
  · have hlt : i < n := lp_lt hi (by omega) c11
    refine lv_aload_n hx hb d_X_defaultsOfRanks_14 rfl (lv_at hl 0 rfl) ?_
    refine lv_iload hx hb d_X_defaultsOfRanks_15 (lv_at hl 4 rfl) ?_
    refine rd_V (As := [.int (nI i)]) (rest := []) ⟨hx, hb, hml, hown, hts⟩ (c_X_isHard l i (by omega) hbt) (cwV 1 hts g_X_68 rfl rfl rfl (by decide +kernel) ⟨Nat.le_of_ble_eq_true rfl, Nat.le_of_ble_eq_true rfl⟩) hK hP 0 rfl rfl rfl hl.1 rfl (Nat.le_of_ble_eq_true rfl) d_X_defaultsOfRanks_17 ⟨Nat.zero_le _, Nat.zero_le _⟩ ?_
    refine lv_if_ne (tgt := 52) hx hb d_X_defaultsOfRanks_20 (by decide) (fun c20 => ?_) (fun c20 => ?_)
    · refine lv_iinc (v := (nI (i + 1))) (lv' := [(4, .int (nI (i + 1))), (0, .ref (h 0)), (1, .int (nI f)), (2, .int (nI t)), (3, .int (nI x))]) hx hb d_X_defaultsOfRanks_52 hl (k := 4) rfl (nI_1 i) (by decide) rfl (fun ls hl => ?_)
      refine lv_goto (tgt := 5) hx hb d_X_defaultsOfRanks_55 (by decide) ?_
      exact ih hlt x ls (by show _ = dfl bt rk f t (i + 1); rw [hI, dfl, if_neg (fun q => c20 (bI_0.mpr q.1))]) (lv_sub hl [1, 2, 3, 4, 0] rfl)
    · refine lv_aload_n hx hb d_X_defaultsOfRanks_23 rfl (lv_at hl 0 rfl) ?_
      refine va_get (D := D) (ci := 0) (v := .ref (h 1)) (C := RX) (T := TX) (N := 15) hx hb hts inX hown hK hP 0 rfl rfl 2 (by decide) (hts _ f_X_16) (fun _ h9 => h9) rfl d_X_defaultsOfRanks_24 ?_
      refine lv_iload hx hb d_X_defaultsOfRanks_27 (lv_at hl 4 rfl) ?_
      refine va_iald hx hb hK hP 1 0 rfl rfl (vp_in_nI (show i < 11 by omega) (by decide)) d_X_defaultsOfRanks_29 ?_
      refine rd_top (z := nI (rk i)) (ar_nI rk (by omega)) ?_
      refine lv_iload_n hx hb d_X_defaultsOfRanks_30 rfl (lv_at hl 1 rfl) ?_
      refine lv_icmp_lt (tgt := 52) hx hb d_X_defaultsOfRanks_31 (by decide) (fun c31 => ?_) (fun c31 => ?_)
      · refine lv_iinc (v := (nI (i + 1))) (lv' := [(4, .int (nI (i + 1))), (0, .ref (h 0)), (1, .int (nI f)), (2, .int (nI t)), (3, .int (nI x))]) hx hb d_X_defaultsOfRanks_52 hl (k := 4) rfl (nI_1 i) (by decide) rfl (fun ls hl => ?_)
        refine lv_goto (tgt := 5) hx hb d_X_defaultsOfRanks_55 (by decide) ?_
        exact ih hlt x ls (by show _ = dfl bt rk f t (i + 1); rw [hI, dfl, if_neg (fun q => absurd c31 (Int32.not_lt.mpr ((nI_leI (by omega) (by have := hrk i; omega)).mpr q.2.1)))]) (lv_sub hl [1, 2, 3, 4, 0] rfl)
      · refine lv_aload_n hx hb d_X_defaultsOfRanks_34 rfl (lv_at hl 0 rfl) ?_
        refine va_get (D := D) (ci := 0) (v := .ref (h 1)) (C := RX) (T := TX) (N := 15) hx hb hts inX hown hK hP 0 rfl rfl 2 (by decide) (hts _ f_X_16) (fun _ h9 => h9) rfl d_X_defaultsOfRanks_35 ?_
        refine lv_iload hx hb d_X_defaultsOfRanks_38 (lv_at hl 4 rfl) ?_
        refine va_iald hx hb hK hP 1 0 rfl rfl (vp_in_nI (show i < 11 by omega) (by decide)) d_X_defaultsOfRanks_40 ?_
        refine rd_top (z := nI (rk i)) (ar_nI rk (by omega)) ?_
        refine lv_iload_n hx hb d_X_defaultsOfRanks_41 rfl (lv_at hl 2 rfl) ?_
        refine lv_icmp_gt (tgt := 52) hx hb d_X_defaultsOfRanks_42 (by decide) (fun c42 => ?_) (fun c42 => ?_)
        · refine lv_iinc (v := (nI (i + 1))) (lv' := [(4, .int (nI (i + 1))), (0, .ref (h 0)), (1, .int (nI f)), (2, .int (nI t)), (3, .int (nI x))]) hx hb d_X_defaultsOfRanks_52 hl (k := 4) rfl (nI_1 i) (by decide) rfl (fun ls hl => ?_)
          refine lv_goto (tgt := 5) hx hb d_X_defaultsOfRanks_55 (by decide) ?_
          exact ih hlt x ls (by show _ = dfl bt rk f t (i + 1); rw [hI, dfl, if_neg (fun q => absurd c42 (Int32.not_lt.mpr ((nI_leI (by have := hrk i; omega) (by omega)).mpr q.2.2)))]) (lv_sub hl [1, 2, 3, 4, 0] rfl)
        · refine lv_iload_n hx hb d_X_defaultsOfRanks_45 rfl (lv_at hl 3 rfl) ?_
          refine lv_iconst (v := 1) hx hb d_X_defaultsOfRanks_46 (by decide) ?_
          refine lv_iload hx hb d_X_defaultsOfRanks_47 (lv_at hl 4 rfl) ?_
          refine lv_ishl hx hb d_X_defaultsOfRanks_49 ?_
          refine rd_top (z := nI (2 ^ i)) (bx_shl i (by omega)) ?_
          refine lv_ior hx hb d_X_defaultsOfRanks_50 ?_
          refine rd_top (z := nI (x ||| 2 ^ i)) (bx_or x (2 ^ i)) ?_
          refine lv_istore_n (lv' := [(3, .int (nI (x ||| 2 ^ i))), (0, .ref (h 0)), (1, .int (nI f)), (2, .int (nI t)), (4, .int (nI i))]) hx hb d_X_defaultsOfRanks_51 rfl hl (by decide) rfl (fun ls hl => ?_)
          refine lv_iinc (v := (nI (i + 1))) (lv' := [(4, .int (nI (i + 1))), (3, .int (nI (x ||| 2 ^ i))), (0, .ref (h 0)), (1, .int (nI f)), (2, .int (nI t))]) hx hb d_X_defaultsOfRanks_52 hl (k := 4) rfl (nI_1 i) (by decide) rfl (fun ls hl => ?_)
          refine lv_goto (tgt := 5) hx hb d_X_defaultsOfRanks_55 (by decide) ?_
          exact ih hlt (x ||| 2 ^ i) ls (by show _ = dfl bt rk f t (i + 1); rw [hI, dfl, if_pos ⟨bI_0.mp c20, (nI_leI (by omega) (by have := hrk i; omega)).mp (Int32.not_lt.mp c31), (nI_leI (by have := hrk i; omega) (by omega)).mp (Int32.not_lt.mp c42)⟩]) (lv_sub hl [2, 3, 4, 1, 0] rfl)
set_option maxHeartbeats 4000000 in
set_option maxRecDepth 100000 in
theorem c_X_worth (l : Launch) (S o : Nat) (hn : n ≤ 11) (hbt : bt < 2 ^ 31) (hrk : ∀ j, rk j < 8) (hwt : ∀ j, wt j ≤ 1000) (hS2 : S < 2 ^ 31) (ho : o < 4) : Met l y_X_worth w_X_worth (k2_rm 1 21) (rd_Pc D clX (wX h cI cZ n bt rk wt cl cc su sa sc od fr cg co rp rc) [(cI, .int), (cZ, .boolean)] [.ref (h 0), .int (nI S), .int (nI o)]) (k2_QcV (.long (lN (wor bt rk wt S o n)))) 0 0 (fun _ => False) := by
  refine rd_met (by decide) rfl (Nat.le_of_ble_eq_true rfl) rfl ?_
  intro p e s m below meth c ls hx hb hr hml hown hts hlocks hP hK hl
  have hts : ∀ w ∈ tbl, w.before _ s = true := fun w h => hts w (List.mem_cons_of_mem _ h)
  have hown : s.vm.findClass RX = some m.cls := hown
  have hl : lv_has ls 6 [(0, .ref (h 0)), (1, .int (nI S)), (2, .int (nI o))] := hl
  refine lv_lconst (v := 0) hx hb d_X_worth_0 (by decide) ?_
  refine lv_lstore_n (lv' := [(3, .long 0), (0, .ref (h 0)), (1, .int (nI S)), (2, .int (nI o))]) hx hb d_X_worth_1 rfl hl (by decide) rfl (fun ls hl => ?_)
  refine lv_iconst (v := 0) hx hb d_X_worth_2 (by decide) ?_
  refine lv_istore (lv' := [(5, .int 0), (3, .long 0), (0, .ref (h 0)), (1, .int (nI S)), (2, .int (nI o))]) hx hb d_X_worth_3 hl (by decide) rfl (fun ls hl => ?_)
  refine rd_loop (nL := 6) (σ := Nat) (n) (fun i x => [(0, .ref (h 0)), (1, .int (nI S)), (2, .int (nI o)), (3, .long (lN x)), (5, .int (nI i))]) (fun i x => x = wor bt rk wt S o i) ?_ 0 0 ls (Nat.zero_le _) (rfl) (lv_sub hl [2, 3, 4, 1, 0] rfl)
  intro i x ls hi hI hl ih
  have hI : x = wor bt rk wt S o i := hI
  have hl : lv_has ls 6 [(0, .ref (h 0)), (1, .int (nI S)), (2, .int (nI o)), (3, .long (lN x)), (5, .int (nI i))] := hl
  refine lv_iload hx hb d_X_worth_5 (lv_at hl 4 rfl) ?_
  refine lv_aload_n hx hb d_X_worth_7 rfl (lv_at hl 0 rfl) ?_
  refine va_get (D := D) (ci := 0) (v := .int (nI n)) (C := RX) (T := TX) (N := 15) hx hb hts inX hown hK hP 0 rfl rfl 0 (by decide) (hts _ f_X_9) (fun _ h9 => h9) rfl d_X_worth_8 ?_
  refine lv_icmp_ge (tgt := 71) hx hb d_X_worth_11 (by decide) (fun c11 => ?_) (fun c11 => ?_)
  · have hN : i = n := lp_ge hi (by omega) c11
    refine lv_lload_n hx hb d_X_worth_71 rfl (lv_at hl 3 rfl) ?_
    exact rd_lret hx hb hr hlocks d_X_worth_72 (by rw [hI, hN])
  · have hlt : i < n := lp_lt hi (by omega) c11
    refine lv_iload_n hx hb d_X_worth_14 rfl (lv_at hl 1 rfl) ?_
    refine lv_iconst (v := 1) hx hb d_X_worth_15 (by decide) ?_
    refine lv_iload hx hb d_X_worth_16 (lv_at hl 4 rfl) ?_
    refine lv_ishl hx hb d_X_worth_18 ?_
    refine rd_top (z := nI (2 ^ i)) (bx_shl i (by omega)) ?_
    refine lv_iand hx hb d_X_worth_19 ?_
    refine lv_if_eq (tgt := 65) hx hb d_X_worth_20 (by decide) (fun c20 => ?_) (fun c20 => ?_)
    · refine lv_iinc (v := (nI (i + 1))) (lv' := [(5, .int (nI (i + 1))), (0, .ref (h 0)), (1, .int (nI S)), (2, .int (nI o)), (3, .long (lN x))]) hx hb d_X_worth_65 hl (k := 4) rfl (nI_1 i) (by decide) rfl (fun ls hl => ?_)
      refine lv_goto (tgt := 5) hx hb d_X_worth_68 (by decide) ?_
      exact ih hlt x ls (by show _ = wor bt rk wt S o (i + 1); rw [hI, wor, if_neg (fun q => absurd ((bx_bit hS2 (by omega)).mp c20) (by rw [q.1]; decide))]; rfl) (lv_sub hl [1, 2, 3, 4, 0] rfl)
    · refine lv_aload_n hx hb d_X_worth_23 rfl (lv_at hl 0 rfl) ?_
      refine lv_iload hx hb d_X_worth_24 (lv_at hl 4 rfl) ?_
      refine rd_V (As := [.int (nI i)]) (rest := []) ⟨hx, hb, hml, hown, hts⟩ (c_X_isHard l i (by omega) hbt) (cwV 1 hts g_X_68 rfl rfl rfl (by decide +kernel) ⟨Nat.le_of_ble_eq_true rfl, Nat.le_of_ble_eq_true rfl⟩) hK hP 0 rfl rfl rfl hl.1 rfl (Nat.le_of_ble_eq_true rfl) d_X_worth_26 ⟨Nat.zero_le _, Nat.zero_le _⟩ ?_
      refine lv_if_ne (tgt := 65) hx hb d_X_worth_29 (by decide) (fun c29 => ?_) (fun c29 => ?_)
      · refine lv_iinc (v := (nI (i + 1))) (lv' := [(5, .int (nI (i + 1))), (0, .ref (h 0)), (1, .int (nI S)), (2, .int (nI o)), (3, .long (lN x))]) hx hb d_X_worth_65 hl (k := 4) rfl (nI_1 i) (by decide) rfl (fun ls hl => ?_)
        refine lv_goto (tgt := 5) hx hb d_X_worth_68 (by decide) ?_
        exact ih hlt x ls (by show _ = wor bt rk wt S o (i + 1); rw [hI, wor, if_neg (fun q => c29 (bI_0.mpr q.2))]; rfl) (lv_sub hl [1, 2, 3, 4, 0] rfl)
      · refine lv_lload_n hx hb d_X_worth_32 rfl (lv_at hl 3 rfl) ?_
        refine lv_iload_n hx hb d_X_worth_33 rfl (lv_at hl 2 rfl) ?_
        refine lv_iconst (v := 2) hx hb d_X_worth_34 (by decide) ?_
        refine lv_icmp_ne (tgt := 55) hx hb d_X_worth_35 (by decide) (fun c35 => ?_) (fun c35 => ?_)
        · refine lv_aload_n hx hb d_X_worth_55 rfl (lv_at hl 0 rfl) ?_
          refine va_get (D := D) (ci := 0) (v := .ref (h 2)) (C := RX) (T := TX) (N := 15) hx hb hts inX hown hK hP 0 rfl rfl 3 (by decide) (hts _ f_X_20) (fun _ h9 => h9) rfl d_X_worth_56 ?_
          refine lv_iload hx hb d_X_worth_59 (lv_at hl 4 rfl) ?_
          refine va_iald hx hb hK hP 2 0 rfl rfl (vp_in_nI (show i < 11 by omega) (by decide)) d_X_worth_61 ?_
          refine rd_top (z := nI (wt i)) (ar_nI wt (by omega)) ?_
          refine lv_i2l (v := (nI (wt i)).toInt64) hx hb d_X_worth_62 rfl ?_
          refine rd_topl (z := lN (wt i)) (nI_l (by have := hwt i; omega)) ?_
          refine lv_ladd hx hb d_X_worth_63 ?_
          refine rd_topl (z := lN (x + wt i)) (lN_add x (wt i)) ?_
          refine lv_lstore_n (lv' := [(3, .long (lN (x + wt i))), (0, .ref (h 0)), (1, .int (nI S)), (2, .int (nI o)), (5, .int (nI i))]) hx hb d_X_worth_64 rfl hl (by decide) rfl (fun ls hl => ?_)
          refine lv_iinc (v := (nI (i + 1))) (lv' := [(5, .int (nI (i + 1))), (3, .long (lN (x + wt i))), (0, .ref (h 0)), (1, .int (nI S)), (2, .int (nI o))]) hx hb d_X_worth_65 hl (k := 4) rfl (nI_1 i) (by decide) rfl (fun ls hl => ?_)
          refine lv_goto (tgt := 5) hx hb d_X_worth_68 (by decide) ?_
          exact ih hlt (x + wt i) ls (by show _ = wor bt rk wt S o (i + 1); rw [hI, wor, if_pos ⟨show S.testBit i = true by cases hq : S.testBit i; exact absurd ((bx_bit hS2 (by omega)).mpr hq) c20; rfl, bI_0.mp c29⟩, if_neg (show ¬ o = 2 from fun q => c35 (by rw [q]; rfl))]) (lv_sub hl [2, 3, 4, 1, 0] rfl)
        · refine lv_lconst (v := 1) hx hb d_X_worth_38 (by decide) ?_
          refine lv_iconst (v := 4) hx hb d_X_worth_39 (by decide) ?_
          refine lv_bipush (v := 7) hx hb d_X_worth_40 (by decide) ?_
          refine lv_aload_n hx hb d_X_worth_42 rfl (lv_at hl 0 rfl) ?_
          refine va_get (D := D) (ci := 0) (v := .ref (h 1)) (C := RX) (T := TX) (N := 15) hx hb hts inX hown hK hP 0 rfl rfl 2 (by decide) (hts _ f_X_16) (fun _ h9 => h9) rfl d_X_worth_43 ?_
          refine lv_iload hx hb d_X_worth_46 (lv_at hl 4 rfl) ?_
          refine va_iald hx hb hK hP 1 0 rfl rfl (vp_in_nI (show i < 11 by omega) (by decide)) d_X_worth_48 ?_
          refine rd_top (z := nI (rk i)) (ar_nI rk (by omega)) ?_
          refine lv_isub hx hb d_X_worth_49 ?_
          refine rd_top (z := nI (7 - rk i)) (pk_sub (a := 7) (b := rk i) (by have := hrk i; omega)) ?_
          refine lv_imul hx hb d_X_worth_50 ?_
          refine rd_top (z := nI (4 * (7 - rk i))) (pk_mul 4 (7 - rk i)) ?_
          refine lv_lshl (v := (lN (2 ^ (4 * (7 - rk i))))) hx hb d_X_worth_51 (sh_1 (4 * (7 - rk i)) (by omega)) ?_
          refine lv_goto (tgt := 63) hx hb d_X_worth_52 (by decide) ?_
          refine lv_ladd hx hb d_X_worth_63 ?_
          refine rd_topl (z := lN (x + 2 ^ (4 * (7 - rk i)))) (lN_add x (2 ^ (4 * (7 - rk i)))) ?_
          refine lv_lstore_n (lv' := [(3, .long (lN (x + 2 ^ (4 * (7 - rk i))))), (0, .ref (h 0)), (1, .int (nI S)), (2, .int (nI o)), (5, .int (nI i))]) hx hb d_X_worth_64 rfl hl (by decide) rfl (fun ls hl => ?_)
          refine lv_iinc (v := (nI (i + 1))) (lv' := [(5, .int (nI (i + 1))), (3, .long (lN (x + 2 ^ (4 * (7 - rk i))))), (0, .ref (h 0)), (1, .int (nI S)), (2, .int (nI o))]) hx hb d_X_worth_65 hl (k := 4) rfl (nI_1 i) (by decide) rfl (fun ls hl => ?_)
          refine lv_goto (tgt := 5) hx hb d_X_worth_68 (by decide) ?_
          exact ih hlt (x + 2 ^ (4 * (7 - rk i))) ls (by show _ = wor bt rk wt S o (i + 1); rw [hI, wor, if_pos ⟨show S.testBit i = true by cases hq : S.testBit i; exact absurd ((bx_bit hS2 (by omega)).mpr hq) c20; rfl, bI_0.mp c29⟩, if_pos (show o = 2 from (nI_eq (by omega) (by decide)).mp c35)]) (lv_sub hl [2, 3, 4, 1, 0] rfl)
end MX2
end
section
section MX3
variable {D : va_G} {h : Nat → Nat} {cI cZ : ClassId} {n bt : Nat} {rk wt cl : Nat → Nat} {cc : Nat} {su sa : Nat → Nat} {sc od : Nat} {fr : Bool} {cg : Nat → Bool} {co rp : Nat → Nat} {rc : Nat}
set_option maxHeartbeats 4000000 in
set_option maxRecDepth 100000 in
theorem c_X_hasMoreByRank (l : Launch) (a b : Nat) (hn : n ≤ 11) (hbt : bt < 2 ^ 31) (hrk : ∀ j, rk j < 8) : Met l y_X_hasMoreByRank w_X_hasMoreByRank (k2_rm 2 45) (rd_Pc D clX (wX h cI cZ n bt rk wt cl cc su sa sc od fr cg co rp rc) [(cI, .int), (cZ, .boolean)] [.ref (h 0), .int (nI a), .int (nI b)]) (k2_QcV (.int (bI (hmr (fun r => dfl bt rk r r n) a b 8 0)))) 0 0 (fun _ => False) := by
  refine rd_met (by decide) rfl (Nat.le_of_ble_eq_true rfl) rfl ?_
  intro p e s m below meth c ls hx hb hr hml hown hts hlocks hP hK hl
  have hts : ∀ w ∈ tbl, w.before _ s = true := fun w h => hts w (List.mem_cons_of_mem _ h)
  have hown : s.vm.findClass RX = some m.cls := hown
  have hl : lv_has ls 5 [(0, .ref (h 0)), (1, .int (nI a)), (2, .int (nI b))] := hl
  refine lv_iconst (v := 0) hx hb d_X_hasMoreByRank_0 (by decide) ?_
  refine lv_istore_n (lv' := [(3, .int 0), (0, .ref (h 0)), (1, .int (nI a)), (2, .int (nI b))]) hx hb d_X_hasMoreByRank_1 rfl hl (by decide) rfl (fun ls hl => ?_)
  refine rd_loop (nL := 5) (σ := Unit) (8) (fun i _ => [(0, .ref (h 0)), (1, .int (nI a)), (2, .int (nI b)), (3, .int (nI i))]) (fun i _ => hmr (fun r => dfl bt rk r r n) a b 8 0 = hmr (fun r => dfl bt rk r r n) a b (8 - i) i) ?_ 0 () ls (Nat.zero_le _) (rfl) (lv_sub hl [1, 2, 3, 0] rfl)
  intro i _ ls hi hI hl ih
  have hI : hmr (fun r => dfl bt rk r r n) a b 8 0 = hmr (fun r => dfl bt rk r r n) a b (8 - i) i := hI
  have hl : lv_has ls 5 [(0, .ref (h 0)), (1, .int (nI a)), (2, .int (nI b)), (3, .int (nI i))] := hl
  refine lv_iload_n hx hb d_X_hasMoreByRank_2 rfl (lv_at hl 3 rfl) ?_
  refine lv_bipush (v := 7) hx hb d_X_hasMoreByRank_3 (by decide) ?_
  refine lv_icmp_gt (tgt := 45) hx hb d_X_hasMoreByRank_5 (by decide) (fun c5 => ?_) (fun c5 => ?_)
  · have hN : i = 8 := by have := (nI_ltI (a := 7) (b := i) (by decide) (by omega)).mp c5; omega
    refine lv_iconst (v := 0) hx hb d_X_hasMoreByRank_45 (by decide) ?_
    exact rd_zret hx hb hr hlocks d_X_hasMoreByRank_46 (by rw [hI, hN]; rfl)
  · have hlt : i < 8 := by rcases Nat.lt_or_ge i 8 with q | q; exact q; exact absurd ((nI_ltI (a := 7) (b := i) (by decide) (by omega)).mpr (by omega)) c5
    refine lv_aload_n hx hb d_X_hasMoreByRank_8 rfl (lv_at hl 0 rfl) ?_
    refine lv_iload_n hx hb d_X_hasMoreByRank_9 rfl (lv_at hl 3 rfl) ?_
    refine lv_iload_n hx hb d_X_hasMoreByRank_10 rfl (lv_at hl 3 rfl) ?_
    refine rd_V (As := [.int (nI i), .int (nI i)]) (rest := []) ⟨hx, hb, hml, hown, hts⟩ (c_X_defaultsOfRanks l i i hn hbt hrk (by omega) (by omega)) (cwV 2 hts g_X_121 rfl rfl rfl (by decide +kernel) ⟨Nat.le_of_ble_eq_true rfl, Nat.le_of_ble_eq_true rfl⟩) hK hP 0 rfl rfl rfl hl.1 rfl (Nat.le_of_ble_eq_true rfl) d_X_hasMoreByRank_11 ⟨Nat.zero_le _, Nat.zero_le _⟩ ?_
    refine lv_istore (lv' := [(4, .int (nI (dfl bt rk i i n))), (0, .ref (h 0)), (1, .int (nI a)), (2, .int (nI b)), (3, .int (nI i))]) hx hb d_X_hasMoreByRank_14 hl (by decide) rfl (fun ls hl => ?_)
    refine lv_iload_n hx hb d_X_hasMoreByRank_16 rfl (lv_at hl 2 rfl) ?_
    refine lv_iload hx hb d_X_hasMoreByRank_17 (lv_at hl 0 rfl) ?_
    refine lv_iand hx hb d_X_hasMoreByRank_19 ?_
    refine rd_top (z := nI (a &&& dfl bt rk i i n)) (bx_and _ _) ?_
    refine lv_iload_n hx hb d_X_hasMoreByRank_20 rfl (lv_at hl 3 rfl) ?_
    refine lv_iload hx hb d_X_hasMoreByRank_21 (lv_at hl 0 rfl) ?_
    refine lv_iand hx hb d_X_hasMoreByRank_23 ?_
    refine rd_top (z := nI (b &&& dfl bt rk i i n)) (bx_and _ _) ?_
    refine lv_icmp_eq (tgt := 39) hx hb d_X_hasMoreByRank_24 (by decide) (fun c24 => ?_) (fun c24 => ?_)
    · refine lv_iinc (v := (nI (i + 1))) (lv' := [(3, .int (nI (i + 1))), (4, .int (nI (dfl bt rk i i n))), (0, .ref (h 0)), (1, .int (nI a)), (2, .int (nI b))]) hx hb d_X_hasMoreByRank_39 hl (k := 4) rfl (nI_1 i) (by decide) rfl (fun ls hl => ?_)
      refine lv_goto (tgt := 2) hx hb d_X_hasMoreByRank_42 (by decide) ?_
      exact ih hlt () ls (by show hmr (fun r => dfl bt rk r r n) a b 8 0 = hmr (fun r => dfl bt rk r r n) a b (8 - (i + 1)) (i + 1); rw [hI, show 8 - i = (8 - (i + 1)) + 1 by omega, hmr, if_pos ((nI_eq (show a &&& dfl bt rk i i n < 2 ^ 31 from Nat.and_lt_two_pow a (Nat.lt_of_lt_of_le (dfl_lt n) (Nat.pow_le_pow_right (by decide) (by omega)))) (show b &&& dfl bt rk i i n < 2 ^ 31 from Nat.and_lt_two_pow b (Nat.lt_of_lt_of_le (dfl_lt n) (Nat.pow_le_pow_right (by decide) (by omega))))).mp c24)]) (lv_sub hl [2, 3, 4, 0] rfl)
    · refine lv_iload_n hx hb d_X_hasMoreByRank_27 rfl (lv_at hl 2 rfl) ?_
      refine lv_iload hx hb d_X_hasMoreByRank_28 (lv_at hl 0 rfl) ?_
      refine lv_iand hx hb d_X_hasMoreByRank_30 ?_
      refine rd_top (z := nI (a &&& dfl bt rk i i n)) (bx_and _ _) ?_
      refine lv_iload_n hx hb d_X_hasMoreByRank_31 rfl (lv_at hl 3 rfl) ?_
      refine lv_iload hx hb d_X_hasMoreByRank_32 (lv_at hl 0 rfl) ?_
      refine lv_iand hx hb d_X_hasMoreByRank_34 ?_
      refine rd_top (z := nI (b &&& dfl bt rk i i n)) (bx_and _ _) ?_
      refine rd_S (As := [.int (nI (a &&& dfl bt rk i i n)), .int (nI (b &&& dfl bt rk i i n))]) (rest := []) ⟨hx, hb, hml, hown, hts⟩ (c_X_hasMore l (a &&& dfl bt rk i i n) (b &&& dfl bt rk i i n) (show a &&& dfl bt rk i i n < 2 ^ 31 from Nat.and_lt_two_pow a (Nat.lt_of_lt_of_le (dfl_lt n) (Nat.pow_le_pow_right (by decide) (by omega)))) (show b &&& dfl bt rk i i n < 2 ^ 31 from Nat.and_lt_two_pow b (Nat.lt_of_lt_of_le (dfl_lt n) (Nat.pow_le_pow_right (by decide) (by omega))))) (cwS 2 hts g_X_108 rfl rfl rfl (by decide +kernel) ⟨Nat.le_of_ble_eq_true rfl, Nat.le_of_ble_eq_true rfl⟩) rfl hl.1 rfl (Nat.le_of_ble_eq_true rfl) d_X_hasMoreByRank_35 ⟨Nat.zero_le _, Nat.zero_le _⟩ ?_
      exact rd_zret hx hb hr hlocks d_X_hasMoreByRank_38 (by rw [hI, show 8 - i = (8 - (i + 1)) + 1 by omega, hmr, if_neg (fun q => c24 (congrArg nI q))])
set_option maxHeartbeats 4000000 in
set_option maxRecDepth 100000 in
theorem c_X_isBetter (l : Launch) (a b o : Nat) (hn : n ≤ 11) (hbt : bt < 2 ^ 31) (hrk : ∀ j, rk j < 8) (hwt : ∀ j, wt j ≤ 1000) (ha : a < 2 ^ 31) (hb2 : b < 2 ^ 31) (ho : o < 4) : Met l y_X_isBetter w_X_isBetter (k2_rm 3 69) (rd_Pc D clX (wX h cI cZ n bt rk wt cl cc su sa sc od fr cg co rp rc) [(cI, .int), (cZ, .boolean)] [.ref (h 0), .int (nI a), .int (nI b), .int (nI o)]) (k2_QcV (.int (bI (betX n bt rk wt a b o)))) 0 0 (fun _ => False) := by
  refine rd_met (by decide) rfl (Nat.le_of_ble_eq_true rfl) rfl ?_
  intro p e s m below meth c ls hx hb hr hml hown hts hlocks hP hK hl
  have hts : ∀ w ∈ tbl, w.before _ s = true := fun w h => hts w (List.mem_cons_of_mem _ h)
  have hown : s.vm.findClass RX = some m.cls := hown
  have hl : lv_has ls 4 [(0, .ref (h 0)), (1, .int (nI a)), (2, .int (nI b)), (3, .int (nI o))] := hl
  refine lv_iload_n hx hb d_X_isBetter_0 rfl (lv_at hl 3 rfl) ?_
  refine lv_if_ne (tgt := 10) hx hb d_X_isBetter_1 (by decide) (fun c1 => ?_) (fun c1 => ?_)
  · have ho0 : ¬ o = 0 := fun q => c1 (by rw [q]; rfl)
    refine lv_iload_n hx hb d_X_isBetter_10 rfl (lv_at hl 3 rfl) ?_
    refine lv_iconst (v := 1) hx hb d_X_isBetter_11 (by decide) ?_
    refine lv_icmp_ne (tgt := 22) hx hb d_X_isBetter_12 (by decide) (fun c12 => ?_) (fun c12 => ?_)
    · have ho1 : ¬ o = 1 := fun q => c12 (by rw [q]; rfl)
      refine lv_aload_n hx hb d_X_isBetter_22 rfl (lv_at hl 0 rfl) ?_
      refine lv_iload_n hx hb d_X_isBetter_23 rfl (lv_at hl 1 rfl) ?_
      refine lv_iload_n hx hb d_X_isBetter_24 rfl (lv_at hl 3 rfl) ?_
      refine rd_V (As := [.int (nI a), .int (nI o)]) (rest := []) ⟨hx, hb, hml, hown, hts⟩ (c_X_worth l a o hn hbt hrk hwt ha ho) (cwV 2 hts g_X_114 rfl rfl rfl (by decide +kernel) ⟨Nat.le_of_ble_eq_true rfl, Nat.le_of_ble_eq_true rfl⟩) hK hP 0 rfl rfl rfl hl.1 rfl (Nat.le_of_ble_eq_true rfl) d_X_isBetter_25 ⟨Nat.zero_le _, Nat.zero_le _⟩ ?_
      refine lv_aload_n hx hb d_X_isBetter_28 rfl (lv_at hl 0 rfl) ?_
      refine lv_iload_n hx hb d_X_isBetter_29 rfl (lv_at hl 2 rfl) ?_
      refine lv_iload_n hx hb d_X_isBetter_30 rfl (lv_at hl 3 rfl) ?_
      refine rd_V (As := [.int (nI b), .int (nI o)]) (rest := [.long (lN (wor bt rk wt a o n))]) ⟨hx, hb, hml, hown, hts⟩ (c_X_worth l b o hn hbt hrk hwt hb2 ho) (cwV 2 hts g_X_114 rfl rfl rfl (by decide +kernel) ⟨Nat.le_of_ble_eq_true rfl, Nat.le_of_ble_eq_true rfl⟩) hK hP 0 rfl rfl rfl hl.1 rfl (Nat.le_of_ble_eq_true rfl) d_X_isBetter_31 ⟨Nat.zero_le _, Nat.zero_le _⟩ ?_
      refine W.lcmp hx hb d_X_isBetter_34 ?_
      refine lv_if_le (tgt := 42) hx hb d_X_isBetter_35 (by decide) (fun c35 => ?_) (fun c35 => ?_)
      · refine lv_iconst (v := 0) hx hb d_X_isBetter_42 (by decide) ?_
        exact rd_zret hx hb hr hlocks d_X_isBetter_43 (by rw [betX, if_neg ho0, if_neg ho1, decide_eq_false (Nat.not_lt.mpr ((pk_lLE (Nat.lt_trans (wor_lt hwt hn) (by decide)) (Nat.lt_trans (wor_lt hwt hn) (by decide))).mp ((lg_cmp_le _ _).mp c35)))]; rfl)
      · refine lv_iconst (v := 1) hx hb d_X_isBetter_38 (by decide) ?_
        refine lv_goto (tgt := 43) hx hb d_X_isBetter_39 (by decide) ?_
        exact rd_zret hx hb hr hlocks d_X_isBetter_43 (by rw [betX, if_neg ho0, if_neg ho1, decide_eq_true (Nat.lt_of_not_le (fun q => c35 ((lg_cmp_le _ _).mpr ((pk_lLE (Nat.lt_trans (wor_lt hwt hn) (by decide)) (Nat.lt_trans (wor_lt hwt hn) (by decide))).mpr q))))]; rfl)
    · have ho1 : o = 1 := (nI_eq (b := 1) (by omega) (by decide)).mp c12
      refine lv_aload_n hx hb d_X_isBetter_15 rfl (lv_at hl 0 rfl) ?_
      refine lv_iload_n hx hb d_X_isBetter_16 rfl (lv_at hl 1 rfl) ?_
      refine lv_iload_n hx hb d_X_isBetter_17 rfl (lv_at hl 2 rfl) ?_
      refine rd_V (As := [.int (nI a), .int (nI b)]) (rest := []) ⟨hx, hb, hml, hown, hts⟩ (c_X_hasMoreByRank l a b hn hbt hrk) (cwV 2 hts g_X_111 rfl rfl rfl (by decide +kernel) ⟨Nat.le_of_ble_eq_true rfl, Nat.le_of_ble_eq_true rfl⟩) hK hP 0 rfl rfl rfl hl.1 rfl (Nat.le_of_ble_eq_true rfl) d_X_isBetter_18 ⟨Nat.zero_le _, Nat.zero_le _⟩ ?_
      exact rd_zret hx hb hr hlocks d_X_isBetter_21 (by rw [betX, if_neg ho0, if_pos ho1])
  · have ho0 : o = 0 := (nI_eq (b := 0) (by omega) (by decide)).mp c1
    refine lv_iload_n hx hb d_X_isBetter_4 rfl (lv_at hl 1 rfl) ?_
    refine lv_iload_n hx hb d_X_isBetter_5 rfl (lv_at hl 2 rfl) ?_
    refine rd_S (As := [.int (nI a), .int (nI b)]) (rest := []) ⟨hx, hb, hml, hown, hts⟩ (c_X_hasMore l a b ha hb2) (cwS 2 hts g_X_108 rfl rfl rfl (by decide +kernel) ⟨Nat.le_of_ble_eq_true rfl, Nat.le_of_ble_eq_true rfl⟩) rfl hl.1 rfl (Nat.le_of_ble_eq_true rfl) d_X_isBetter_6 ⟨Nat.zero_le _, Nat.zero_le _⟩ ?_
    exact rd_zret hx hb hr hlocks d_X_isBetter_9 (by rw [betX, if_pos ho0])
set_option maxHeartbeats 4000000 in
set_option maxRecDepth 100000 in
theorem c_X_supportsOf (l : Launch) (a : Nat) (ha : a < 2 ^ 31) (hsc : sc ≤ 20) (hsa : ∀ j, sa j < 8) : Met l y_X_supportsOf w_X_supportsOf (k2_rm 0 0) (rd_Pc D clX (wX h cI cZ n bt rk wt cl cc su sa sc od fr cg co rp rc) [(cI, .int), (cZ, .boolean)] [.ref (h 0), .int (nI a)]) (k2_QcV (.int (nI (cntB (fun k => decide (sa k = a)) sc)))) 0 0 (fun _ => False) := by
  refine rd_met (by decide) rfl (Nat.le_of_ble_eq_true rfl) rfl ?_
  intro p e s m below meth c ls hx hb hr hml hown hts hlocks hP hK hl
  have hts : ∀ w ∈ tbl, w.before _ s = true := fun w h => hts w (List.mem_cons_of_mem _ h)
  have hown : s.vm.findClass RX = some m.cls := hown
  have hl : lv_has ls 4 [(0, .ref (h 0)), (1, .int (nI a))] := hl
  refine lv_iconst (v := 0) hx hb d_X_supportsOf_0 (by decide) ?_
  refine lv_istore_n (lv' := [(2, .int 0), (0, .ref (h 0)), (1, .int (nI a))]) hx hb d_X_supportsOf_1 rfl hl (by decide) rfl (fun ls hl => ?_)
  refine lv_iconst (v := 0) hx hb d_X_supportsOf_2 (by decide) ?_
  refine lv_istore_n (lv' := [(3, .int 0), (2, .int 0), (0, .ref (h 0)), (1, .int (nI a))]) hx hb d_X_supportsOf_3 rfl hl (by decide) rfl (fun ls hl => ?_)
  refine rd_loop (nL := 4) (σ := Nat) (sc) (fun i x => [(0, .ref (h 0)), (1, .int (nI a)), (2, .int (nI x)), (3, .int (nI i))]) (fun i x => x = cntB (fun k => decide (sa k = a)) i) ?_ 0 0 ls (Nat.zero_le _) (rfl) (lv_sub hl [2, 3, 1, 0] rfl)
  intro i x ls hi hI hl ih
  have hI : x = cntB (fun k => decide (sa k = a)) i := hI
  have hl : lv_has ls 4 [(0, .ref (h 0)), (1, .int (nI a)), (2, .int (nI x)), (3, .int (nI i))] := hl
  refine lv_iload_n hx hb d_X_supportsOf_4 rfl (lv_at hl 3 rfl) ?_
  refine lv_aload_n hx hb d_X_supportsOf_5 rfl (lv_at hl 0 rfl) ?_
  refine va_get (D := D) (ci := 0) (v := .int (nI sc)) (C := RX) (T := TX) (N := 15) hx hb hts inX hown hK hP 0 rfl rfl 8 (by decide) (hts _ f_X_35) (fun _ h9 => h9) rfl d_X_supportsOf_6 ?_
  refine lv_icmp_ge (tgt := 31) hx hb d_X_supportsOf_9 (by decide) (fun c9 => ?_) (fun c9 => ?_)
  · have hN : i = sc := lp_ge hi (by omega) c9
    refine lv_iload_n hx hb d_X_supportsOf_31 rfl (lv_at hl 2 rfl) ?_
    exact rd_iret hx hb hr hlocks d_X_supportsOf_32 (by rw [hI, hN])
  · have hlt : i < sc := lp_lt hi (by omega) c9
    refine lv_aload_n hx hb d_X_supportsOf_12 rfl (lv_at hl 0 rfl) ?_
    refine va_get (D := D) (ci := 0) (v := .ref (h 5)) (C := RX) (T := TX) (N := 15) hx hb hts inX hown hK hP 0 rfl rfl 7 (by decide) (hts _ f_X_32) (fun _ h9 => h9) rfl d_X_supportsOf_13 ?_
    refine lv_iload_n hx hb d_X_supportsOf_16 rfl (lv_at hl 3 rfl) ?_
    refine va_iald hx hb hK hP 5 0 rfl rfl (vp_in_nI (show i < 20 by omega) (by decide)) d_X_supportsOf_17 ?_
    refine rd_top (z := nI (sa i)) (ar_nI sa (by omega)) ?_
    refine lv_iload_n hx hb d_X_supportsOf_18 rfl (lv_at hl 1 rfl) ?_
    refine lv_icmp_ne (tgt := 25) hx hb d_X_supportsOf_19 (by decide) (fun c19 => ?_) (fun c19 => ?_)
    · refine lv_iinc (v := (nI (i + 1))) (lv' := [(3, .int (nI (i + 1))), (0, .ref (h 0)), (1, .int (nI a)), (2, .int (nI x))]) hx hb d_X_supportsOf_25 hl (k := 3) rfl (nI_1 i) (by decide) rfl (fun ls hl => ?_)
      refine lv_goto (tgt := 4) hx hb d_X_supportsOf_28 (by decide) ?_
      exact ih hlt x ls (by show _ = cntB (fun k => decide (sa k = a)) (i + 1); rw [hI, cntB, if_neg (by simpa using fun q => c19 (congrArg nI q))]; rfl) (lv_sub hl [1, 2, 3, 0] rfl)
    · refine lv_iinc (v := (nI (x + 1))) (lv' := [(2, .int (nI (x + 1))), (0, .ref (h 0)), (1, .int (nI a)), (3, .int (nI i))]) hx hb d_X_supportsOf_22 hl (k := 2) rfl (nI_1 x) (by decide) rfl (fun ls hl => ?_)
      refine lv_iinc (v := (nI (i + 1))) (lv' := [(3, .int (nI (i + 1))), (2, .int (nI (x + 1))), (0, .ref (h 0)), (1, .int (nI a))]) hx hb d_X_supportsOf_25 hl (k := 3) rfl (nI_1 i) (by decide) rfl (fun ls hl => ?_)
      refine lv_goto (tgt := 4) hx hb d_X_supportsOf_28 (by decide) ?_
      exact ih hlt (x + 1) ls (by show _ = cntB (fun k => decide (sa k = a)) (i + 1); rw [hI, cntB, if_pos (by simpa using (nI_eq (by have := hsa i; omega) ha).mp c19)]) (lv_sub hl [2, 3, 1, 0] rfl)
set_option maxHeartbeats 4000000 in
set_option maxRecDepth 100000 in
theorem c_X_holds (l : Launch) (a S : Nat) (ha : a < 2 ^ 31) (hsc : sc ≤ 20) (hsa : ∀ j, sa j < 8) (hsu : ∀ j, su j < 2048) : Met l y_X_holds w_X_holds (k2_rm 1 21) (rd_Pc D clX (wX h cI cZ n bt rk wt cl cc su sa sc od fr cg co rp rc) [(cI, .int), (cZ, .boolean)] [.ref (h 0), .int (nI a), .int (nI S)]) (k2_QcV (.int (bI (holX sa su sc a S)))) 0 0 (fun _ => False) := by
  refine rd_met (by decide) rfl (Nat.le_of_ble_eq_true rfl) rfl ?_
  intro p e s m below meth c ls hx hb hr hml hown hts hlocks hP hK hl
  have hts : ∀ w ∈ tbl, w.before _ s = true := fun w h => hts w (List.mem_cons_of_mem _ h)
  have hown : s.vm.findClass RX = some m.cls := hown
  have hl : lv_has ls 4 [(0, .ref (h 0)), (1, .int (nI a)), (2, .int (nI S))] := hl
  refine lv_iconst (v := 0) hx hb d_X_holds_0 (by decide) ?_
  refine lv_istore_n (lv' := [(3, .int 0), (0, .ref (h 0)), (1, .int (nI a)), (2, .int (nI S))]) hx hb d_X_holds_1 rfl hl (by decide) rfl (fun ls hl => ?_)
  refine rd_loop (nL := 4) (σ := Unit) (sc) (fun i _ => [(0, .ref (h 0)), (1, .int (nI a)), (2, .int (nI S)), (3, .int (nI i))]) (fun i _ => anyB (fun k => decide (sa k = a) && sp_sub (su k) S) i = false) ?_ 0 () ls (Nat.zero_le _) (rfl) (lv_sub hl [1, 2, 3, 0] rfl)
  intro i _ ls hi hI hl ih
  have hI : anyB (fun k => decide (sa k = a) && sp_sub (su k) S) i = false := hI
  have hl : lv_has ls 4 [(0, .ref (h 0)), (1, .int (nI a)), (2, .int (nI S)), (3, .int (nI i))] := hl
  refine lv_iload_n hx hb d_X_holds_2 rfl (lv_at hl 3 rfl) ?_
  refine lv_aload_n hx hb d_X_holds_3 rfl (lv_at hl 0 rfl) ?_
  refine va_get (D := D) (ci := 0) (v := .int (nI sc)) (C := RX) (T := TX) (N := 15) hx hb hts inX hown hK hP 0 rfl rfl 8 (by decide) (hts _ f_X_35) (fun _ h9 => h9) rfl d_X_holds_4 ?_
  refine lv_icmp_ge (tgt := 41) hx hb d_X_holds_7 (by decide) (fun c7 => ?_) (fun c7 => ?_)
  · have hN : i = sc := lp_ge hi (by omega) c7
    refine lv_iconst (v := 0) hx hb d_X_holds_41 (by decide) ?_
    exact rd_zret hx hb hr hlocks d_X_holds_42 (by rw [holX, ← hN, hI]; rfl)
  · have hlt : i < sc := lp_lt hi (by omega) c7
    refine lv_aload_n hx hb d_X_holds_10 rfl (lv_at hl 0 rfl) ?_
    refine va_get (D := D) (ci := 0) (v := .ref (h 5)) (C := RX) (T := TX) (N := 15) hx hb hts inX hown hK hP 0 rfl rfl 7 (by decide) (hts _ f_X_32) (fun _ h9 => h9) rfl d_X_holds_11 ?_
    refine lv_iload_n hx hb d_X_holds_14 rfl (lv_at hl 3 rfl) ?_
    refine va_iald hx hb hK hP 5 0 rfl rfl (vp_in_nI (show i < 20 by omega) (by decide)) d_X_holds_15 ?_
    refine rd_top (z := nI (sa i)) (ar_nI sa (by omega)) ?_
    refine lv_iload_n hx hb d_X_holds_16 rfl (lv_at hl 1 rfl) ?_
    refine lv_icmp_ne (tgt := 35) hx hb d_X_holds_17 (by decide) (fun c17 => ?_) (fun c17 => ?_)
    · refine lv_iinc (v := (nI (i + 1))) (lv' := [(3, .int (nI (i + 1))), (0, .ref (h 0)), (1, .int (nI a)), (2, .int (nI S))]) hx hb d_X_holds_35 hl (k := 3) rfl (nI_1 i) (by decide) rfl (fun ls hl => ?_)
      refine lv_goto (tgt := 2) hx hb d_X_holds_38 (by decide) ?_
      exact ih hlt () ls (anyB_next hI (by show (decide (sa i = a) && _) = false; rw [decide_eq_false (fun q => c17 (congrArg nI q))]; rfl)) (lv_sub hl [1, 2, 3, 0] rfl)
    · refine lv_aload_n hx hb d_X_holds_20 rfl (lv_at hl 0 rfl) ?_
      refine va_get (D := D) (ci := 0) (v := .ref (h 4)) (C := RX) (T := TX) (N := 15) hx hb hts inX hown hK hP 0 rfl rfl 6 (by decide) (hts _ f_X_29) (fun _ h9 => h9) rfl d_X_holds_21 ?_
      refine lv_iload_n hx hb d_X_holds_24 rfl (lv_at hl 3 rfl) ?_
      refine va_iald hx hb hK hP 4 0 rfl rfl (vp_in_nI (show i < 20 by omega) (by decide)) d_X_holds_25 ?_
      refine rd_top (z := nI (su i)) (ar_nI su (by omega)) ?_
      refine lv_iload_n hx hb d_X_holds_26 rfl (lv_at hl 2 rfl) ?_
      refine rd_S (As := [.int (nI (su i)), .int (nI S)]) (rest := []) ⟨hx, hb, hml, hown, hts⟩ (c_X_isPart l (su i) S (by have := hsu i; omega)) (cwS 2 hts g_X_118 rfl rfl rfl (by decide +kernel) ⟨Nat.le_of_ble_eq_true rfl, Nat.le_of_ble_eq_true rfl⟩) rfl hl.1 rfl (Nat.le_of_ble_eq_true rfl) d_X_holds_27 ⟨Nat.zero_le _, Nat.zero_le _⟩ ?_
      refine lv_if_eq (tgt := 35) hx hb d_X_holds_30 (by decide) (fun c30 => ?_) (fun c30 => ?_)
      · refine lv_iinc (v := (nI (i + 1))) (lv' := [(3, .int (nI (i + 1))), (0, .ref (h 0)), (1, .int (nI a)), (2, .int (nI S))]) hx hb d_X_holds_35 hl (k := 3) rfl (nI_1 i) (by decide) rfl (fun ls hl => ?_)
        refine lv_goto (tgt := 2) hx hb d_X_holds_38 (by decide) ?_
        exact ih hlt () ls (anyB_next hI (by show (_ && sp_sub (su i) S) = false; rw [bI_0.mp c30, Bool.and_false])) (lv_sub hl [1, 2, 3, 0] rfl)
      · refine lv_iconst (v := 1) hx hb d_X_holds_33 (by decide) ?_
        exact rd_zret hx hb hr hlocks d_X_holds_34 (by rw [holX, anyB_of hlt (by show (decide (sa i = a) && sp_sub (su i) S) = true; rw [decide_eq_true ((nI_eq (by have := hsa i; omega) ha).mp c17), show sp_sub (su i) S = true by cases hq : sp_sub (su i) S; exact absurd (bI_0.mpr hq) c30; rfl]; rfl)]; rfl)
set_option maxHeartbeats 4000000 in
set_option maxRecDepth 100000 in
theorem c_X_verdict (l : Launch) (x : Nat) (hx2 : x < 2 ^ 31) (hrc : rc < 2 ^ 31) : Met l y_X_verdict w_X_verdict (k2_rm 0 0) (rd_Pc D clX (wX h cI cZ n bt rk wt cl cc su sa sc od fr cg co rp rc) [(cI, .int), (cZ, .boolean)] [.ref (h 0), .int (nI x)]) (k2_QcV (.int (vdt rc x))) 0 0 (fun _ => False) := by
  refine rd_met (by decide) rfl (Nat.le_of_ble_eq_true rfl) rfl ?_
  intro p e s m below meth c ls hx hb hr hml hown hts hlocks hP hK hl
  have hts : ∀ w ∈ tbl, w.before _ s = true := fun w h => hts w (List.mem_cons_of_mem _ h)
  have hown : s.vm.findClass RX = some m.cls := hown
  have hl : lv_has ls 2 [(0, .ref (h 0)), (1, .int (nI x))] := hl
  refine lv_aload_n hx hb d_X_verdict_0 rfl (lv_at hl 0 rfl) ?_
  refine va_get (D := D) (ci := 0) (v := .int (nI rc)) (C := RX) (T := TX) (N := 15) hx hb hts inX hown hK hP 0 rfl rfl 14 (by decide) (hts _ f_X_55) (fun _ h9 => h9) rfl d_X_verdict_1 ?_
  refine lv_if_ne (tgt := 10) hx hb d_X_verdict_4 (by decide) (fun c4 => ?_) (fun c4 => ?_)
  · have h0 : ¬ rc = 0 := fun q => c4 (by rw [q]; rfl)
    refine lv_iload_n hx hb d_X_verdict_10 rfl (lv_at hl 1 rfl) ?_
    refine lv_aload_n hx hb d_X_verdict_11 rfl (lv_at hl 0 rfl) ?_
    refine va_get (D := D) (ci := 0) (v := .int (nI rc)) (C := RX) (T := TX) (N := 15) hx hb hts inX hown hK hP 0 rfl rfl 14 (by decide) (hts _ f_X_55) (fun _ h9 => h9) rfl d_X_verdict_12 ?_
    refine lv_icmp_ne (tgt := 20) hx hb d_X_verdict_15 (by decide) (fun c15 => ?_) (fun c15 => ?_)
    · refine lv_iload_n hx hb d_X_verdict_20 rfl (lv_at hl 1 rfl) ?_
      refine lv_if_le (tgt := 28) hx hb d_X_verdict_21 (by decide) (fun c21 => ?_) (fun c21 => ?_)
      · refine lv_iconst (v := 0) hx hb d_X_verdict_28 (by decide) ?_
        exact rd_iret hx hb hr hlocks d_X_verdict_29 (by rw [vdt, if_neg h0, if_neg (fun q => c15 (congrArg nI q)), if_neg (fun q => nI_nle q hx2 c21)])
      · refine lv_iconst (v := 1) hx hb d_X_verdict_24 (by decide) ?_
        refine lv_goto (tgt := 29) hx hb d_X_verdict_25 (by decide) ?_
        exact rd_iret hx hb hr hlocks d_X_verdict_29 (by rw [vdt, if_neg h0, if_neg (fun q => c15 (congrArg nI q)), if_pos (Nat.pos_of_ne_zero (fun q => c21 (by rw [q]; decide)))])
    · refine lv_iconst (v := 2) hx hb d_X_verdict_18 (by decide) ?_
      exact rd_iret hx hb hr hlocks d_X_verdict_19 (by rw [vdt, if_neg h0, if_pos ((nI_eq hx2 hrc).mp c15)])
  · have h0 : rc = 0 := (nI_eq (b := 0) hrc (by decide)).mp c4
    refine lv_bipush (v := (-2)) hx hb d_X_verdict_7 (by decide) ?_
    exact rd_iret hx hb hr hlocks d_X_verdict_9 (by rw [vdt, if_pos h0])
set_option maxHeartbeats 4000000 in
set_option maxRecDepth 100000 in
theorem c_X_isLeast (l : Launch) (S : Nat) (hn : n ≤ 11) (hS2 : S < 2 ^ 31) (hcc : cc ≤ 40) (hcl : ∀ j, cl j < 2048) : Met l y_X_isLeast w_X_isLeast (k2_rm 2 42) (rd_Pc D clX (wX h cI cZ n bt rk wt cl cc su sa sc od fr cg co rp rc) [(cI, .int), (cZ, .boolean)] [.ref (h 0), .int (nI S)]) (k2_QcV (.int (bI (isLX n cl cc S)))) 0 0 (fun _ => False) := by
  refine rd_met (by decide) rfl (Nat.le_of_ble_eq_true rfl) rfl ?_
  intro p e s m below meth c ls hx hb hr hml hown hts hlocks hP hK hl
  have hts : ∀ w ∈ tbl, w.before _ s = true := fun w h => hts w (List.mem_cons_of_mem _ h)
  have hown : s.vm.findClass RX = some m.cls := hown
  have hl : lv_has ls 3 [(0, .ref (h 0)), (1, .int (nI S))] := hl
  refine lv_iload_n hx hb d_X_isLeast_0 rfl (lv_at hl 1 rfl) ?_
  refine lv_aload_n hx hb d_X_isLeast_1 rfl (lv_at hl 0 rfl) ?_
  refine rd_V (As := []) (rest := [.int (nI S)]) ⟨hx, hb, hml, hown, hts⟩ (c_X_statementBits l hn) (cwV 0 hts g_X_94 rfl rfl rfl (by decide +kernel) ⟨Nat.le_of_ble_eq_true rfl, Nat.le_of_ble_eq_true rfl⟩) hK hP 0 rfl rfl rfl hl.1 rfl (Nat.le_of_ble_eq_true rfl) d_X_isLeast_2 ⟨Nat.zero_le _, Nat.zero_le _⟩ ?_
  refine rd_S (As := [.int (nI S), .int (nI (2 ^ n - 1))]) (rest := []) ⟨hx, hb, hml, hown, hts⟩ (c_X_isPart l S (2 ^ n - 1) hS2) (cwS 2 hts g_X_118 rfl rfl rfl (by decide +kernel) ⟨Nat.le_of_ble_eq_true rfl, Nat.le_of_ble_eq_true rfl⟩) rfl hl.1 rfl (Nat.le_of_ble_eq_true rfl) d_X_isLeast_5 ⟨Nat.zero_le _, Nat.zero_le _⟩ ?_
  refine lv_if_ne (tgt := 13) hx hb d_X_isLeast_8 (by decide) (fun c8 => ?_) (fun c8 => ?_)
  · refine lv_iconst (v := 0) hx hb d_X_isLeast_13 (by decide) ?_
    refine lv_istore_n (lv' := [(2, .int 0), (0, .ref (h 0)), (1, .int (nI S))]) hx hb d_X_isLeast_14 rfl hl (by decide) rfl (fun ls hl => ?_)
    refine rd_loop (nL := 3) (σ := Unit) (cc) (fun i _ => [(0, .ref (h 0)), (1, .int (nI S)), (2, .int (nI i))]) (fun i _ => anyB (fun k => hasM S (cl k)) i = false) ?_ 0 () ls (Nat.zero_le _) (rfl) (lv_sub hl [1, 2, 0] rfl)
    intro i _ ls hi hI hl ih
    have hI : anyB (fun k => hasM S (cl k)) i = false := hI
    have hl : lv_has ls 3 [(0, .ref (h 0)), (1, .int (nI S)), (2, .int (nI i))] := hl
    refine lv_iload_n hx hb d_X_isLeast_15 rfl (lv_at hl 2 rfl) ?_
    refine lv_aload_n hx hb d_X_isLeast_16 rfl (lv_at hl 0 rfl) ?_
    refine va_get (D := D) (ci := 0) (v := .int (nI cc)) (C := RX) (T := TX) (N := 15) hx hb hts inX hown hK hP 0 rfl rfl 5 (by decide) (hts _ f_X_26) (fun _ h9 => h9) rfl d_X_isLeast_17 ?_
    refine lv_icmp_ge (tgt := 44) hx hb d_X_isLeast_20 (by decide) (fun c20 => ?_) (fun c20 => ?_)
    · have hN : i = cc := lp_ge hi (by omega) c20
      refine lv_iconst (v := 1) hx hb d_X_isLeast_44 (by decide) ?_
      exact rd_zret hx hb hr hlocks d_X_isLeast_45 (by rw [isLX, ← hN, hI, show sp_sub S (2 ^ n - 1) = true by cases hq : sp_sub S (2 ^ n - 1); exact absurd (bI_0.mpr hq) c8; rfl]; rfl)
    · have hlt : i < cc := lp_lt hi (by omega) c20
      refine lv_iload_n hx hb d_X_isLeast_23 rfl (lv_at hl 1 rfl) ?_
      refine lv_aload_n hx hb d_X_isLeast_24 rfl (lv_at hl 0 rfl) ?_
      refine va_get (D := D) (ci := 0) (v := .ref (h 3)) (C := RX) (T := TX) (N := 15) hx hb hts inX hown hK hP 0 rfl rfl 4 (by decide) (hts _ f_X_23) (fun _ h9 => h9) rfl d_X_isLeast_25 ?_
      refine lv_iload_n hx hb d_X_isLeast_28 rfl (lv_at hl 2 rfl) ?_
      refine va_iald hx hb hK hP 3 0 rfl rfl (vp_in_nI (show i < 40 by omega) (by decide)) d_X_isLeast_29 ?_
      refine rd_top (z := nI (cl i)) (ar_nI cl (by omega)) ?_
      refine rd_S (As := [.int (nI S), .int (nI (cl i))]) (rest := []) ⟨hx, hb, hml, hown, hts⟩ (c_X_hasMore l S (cl i) hS2 (by have := hcl i; omega)) (cwS 2 hts g_X_108 rfl rfl rfl (by decide +kernel) ⟨Nat.le_of_ble_eq_true rfl, Nat.le_of_ble_eq_true rfl⟩) rfl hl.1 rfl (Nat.le_of_ble_eq_true rfl) d_X_isLeast_30 ⟨Nat.zero_le _, Nat.zero_le _⟩ ?_
      refine lv_if_eq (tgt := 38) hx hb d_X_isLeast_33 (by decide) (fun c33 => ?_) (fun c33 => ?_)
      · refine lv_iinc (v := (nI (i + 1))) (lv' := [(2, .int (nI (i + 1))), (0, .ref (h 0)), (1, .int (nI S))]) hx hb d_X_isLeast_38 hl (k := 2) rfl (nI_1 i) (by decide) rfl (fun ls hl => ?_)
        refine lv_goto (tgt := 15) hx hb d_X_isLeast_41 (by decide) ?_
        exact ih hlt () ls (anyB_next hI (bI_0.mp c33)) (lv_sub hl [1, 2, 0] rfl)
      · refine lv_iconst (v := 0) hx hb d_X_isLeast_36 (by decide) ?_
        exact rd_zret hx hb hr hlocks d_X_isLeast_37 (by rw [isLX, anyB_of (P := fun k => hasM S (cl k)) hlt (show hasM S (cl i) = true by cases hq : hasM S (cl i); exact absurd (bI_0.mpr hq) c33; rfl), Bool.not_true, Bool.and_false]; rfl)
  · refine lv_iconst (v := 0) hx hb d_X_isLeast_11 (by decide) ?_
    exact rd_zret hx hb hr hlocks d_X_isLeast_12 (by rw [isLX, bI_0.mp c8]; rfl)
set_option maxHeartbeats 4000000 in
set_option maxRecDepth 100000 in
theorem c_X_hasClashingPart (l : Launch) (S : Nat) (hn : n ≤ 11) (hS2 : S < 2048) : Met l y_X_hasClashingPart w_X_hasClashingPart (k2_rm 0 0) (rd_Pc D clX (wX h cI cZ n bt rk wt cl cc su sa sc od fr cg co rp rc) [(cI, .int), (cZ, .boolean)] [.ref (h 0), .int (nI S)]) (k2_QcV (.int (bI (anyB (fun i => S.testBit i && cg (S ^^^ 2 ^ i)) n)))) 0 0 (fun _ => False) := by
  refine rd_met (by decide) rfl (Nat.le_of_ble_eq_true rfl) rfl ?_
  intro p e s m below meth c ls hx hb hr hml hown hts hlocks hP hK hl
  have hts : ∀ w ∈ tbl, w.before _ s = true := fun w h => hts w (List.mem_cons_of_mem _ h)
  have hown : s.vm.findClass RX = some m.cls := hown
  have hl : lv_has ls 4 [(0, .ref (h 0)), (1, .int (nI S))] := hl
  refine lv_iconst (v := 0) hx hb d_X_hasClashingPart_0 (by decide) ?_
  refine lv_istore_n (lv' := [(2, .int 0), (0, .ref (h 0)), (1, .int (nI S))]) hx hb d_X_hasClashingPart_1 rfl hl (by decide) rfl (fun ls hl => ?_)
  refine rd_loop (nL := 4) (σ := Unit) (n) (fun i _ => [(0, .ref (h 0)), (1, .int (nI S)), (2, .int (nI i))]) (fun i _ => anyB (fun i => S.testBit i && cg (S ^^^ 2 ^ i)) i = false) ?_ 0 () ls (Nat.zero_le _) (rfl) (lv_sub hl [1, 2, 0] rfl)
  intro i _ ls hi hI hl ih
  have hI : anyB (fun i => S.testBit i && cg (S ^^^ 2 ^ i)) i = false := hI
  have hl : lv_has ls 4 [(0, .ref (h 0)), (1, .int (nI S)), (2, .int (nI i))] := hl
  refine lv_iload_n hx hb d_X_hasClashingPart_2 rfl (lv_at hl 2 rfl) ?_
  refine lv_aload_n hx hb d_X_hasClashingPart_3 rfl (lv_at hl 0 rfl) ?_
  refine va_get (D := D) (ci := 0) (v := .int (nI n)) (C := RX) (T := TX) (N := 15) hx hb hts inX hown hK hP 0 rfl rfl 0 (by decide) (hts _ f_X_9) (fun _ h9 => h9) rfl d_X_hasClashingPart_4 ?_
  refine lv_icmp_ge (tgt := 39) hx hb d_X_hasClashingPart_7 (by decide) (fun c7 => ?_) (fun c7 => ?_)
  · have hN : i = n := lp_ge hi (by omega) c7
    refine lv_iconst (v := 0) hx hb d_X_hasClashingPart_39 (by decide) ?_
    exact rd_zret hx hb hr hlocks d_X_hasClashingPart_40 (by rw [← hN, hI]; rfl)
  · have hlt : i < n := lp_lt hi (by omega) c7
    refine lv_iconst (v := 1) hx hb d_X_hasClashingPart_10 (by decide) ?_
    refine lv_iload_n hx hb d_X_hasClashingPart_11 rfl (lv_at hl 2 rfl) ?_
    refine lv_ishl hx hb d_X_hasClashingPart_12 ?_
    refine rd_top (z := nI (2 ^ i)) (bx_shl i (by omega)) ?_
    refine lv_istore_n (lv' := [(3, .int (nI (2 ^ i))), (0, .ref (h 0)), (1, .int (nI S)), (2, .int (nI i))]) hx hb d_X_hasClashingPart_13 rfl hl (by decide) rfl (fun ls hl => ?_)
    refine lv_iload_n hx hb d_X_hasClashingPart_14 rfl (lv_at hl 2 rfl) ?_
    refine lv_iload_n hx hb d_X_hasClashingPart_15 rfl (lv_at hl 0 rfl) ?_
    refine lv_iand hx hb d_X_hasClashingPart_16 ?_
    refine lv_if_eq (tgt := 33) hx hb d_X_hasClashingPart_17 (by decide) (fun c17 => ?_) (fun c17 => ?_)
    · refine lv_iinc (v := (nI (i + 1))) (lv' := [(2, .int (nI (i + 1))), (3, .int (nI (2 ^ i))), (0, .ref (h 0)), (1, .int (nI S))]) hx hb d_X_hasClashingPart_33 hl (k := 3) rfl (nI_1 i) (by decide) rfl (fun ls hl => ?_)
      refine lv_goto (tgt := 2) hx hb d_X_hasClashingPart_36 (by decide) ?_
      exact ih hlt () ls (anyB_next hI (by show (S.testBit i && _) = false; rw [(bx_bit (by omega) (by omega)).mp c17]; rfl)) (lv_sub hl [2, 3, 0] rfl)
    · refine lv_aload_n hx hb d_X_hasClashingPart_20 rfl (lv_at hl 1 rfl) ?_
      refine va_get (D := D) (ci := 0) (v := .ref (h 6)) (C := RX) (T := TX) (N := 15) hx hb hts inX hown hK hP 0 rfl rfl 11 (by decide) (hts _ f_X_45) (fun _ h9 => h9) rfl d_X_hasClashingPart_21 ?_
      refine lv_iload_n hx hb d_X_hasClashingPart_24 rfl (lv_at hl 2 rfl) ?_
      refine lv_iload_n hx hb d_X_hasClashingPart_25 rfl (lv_at hl 0 rfl) ?_
      refine lv_ixor hx hb d_X_hasClashingPart_26 ?_
      refine rd_top (z := nI (S ^^^ 2 ^ i)) (bx_xor S (2 ^ i)) ?_
      refine va_zald hx hb hK hP 6 1 rfl rfl (vp_in_nI (show S ^^^ 2 ^ i < 2048 from Nat.xor_lt_two_pow (n := 11) hS2 (Nat.pow_lt_pow_right (by decide) (by omega))) (by decide)) d_X_hasClashingPart_27 ?_
      refine rd_top (z := bI (cg (S ^^^ 2 ^ i))) (ar_bI cg (show S ^^^ 2 ^ i < 2 ^ 31 from Nat.lt_trans (Nat.xor_lt_two_pow (n := 11) hS2 (Nat.pow_lt_pow_right (by decide) (by omega))) (by decide))) ?_
      refine lv_if_eq (tgt := 33) hx hb d_X_hasClashingPart_28 (by decide) (fun c28 => ?_) (fun c28 => ?_)
      · refine lv_iinc (v := (nI (i + 1))) (lv' := [(2, .int (nI (i + 1))), (3, .int (nI (2 ^ i))), (0, .ref (h 0)), (1, .int (nI S))]) hx hb d_X_hasClashingPart_33 hl (k := 3) rfl (nI_1 i) (by decide) rfl (fun ls hl => ?_)
        refine lv_goto (tgt := 2) hx hb d_X_hasClashingPart_36 (by decide) ?_
        exact ih hlt () ls (anyB_next hI (by show (_ && cg (S ^^^ 2 ^ i)) = false; rw [bI_0.mp c28, Bool.and_false])) (lv_sub hl [2, 3, 0] rfl)
      · refine lv_iconst (v := 1) hx hb d_X_hasClashingPart_31 (by decide) ?_
        exact rd_zret hx hb hr hlocks d_X_hasClashingPart_32 (by rw [anyB_of (P := fun i => S.testBit i && cg (S ^^^ 2 ^ i)) hlt (by show (S.testBit i && cg (S ^^^ 2 ^ i)) = true; rw [show S.testBit i = true by cases hq : S.testBit i; exact absurd ((bx_bit (by omega) (by omega)).mpr hq) c17; rfl, show cg (S ^^^ 2 ^ i) = true by cases hq : cg (S ^^^ 2 ^ i); exact absurd (bI_0.mpr hq) c28; rfl]; rfl)]; rfl)
set_option maxHeartbeats 4000000 in
set_option maxRecDepth 100000 in
theorem c_X_canGrow (l : Launch) (S : Nat) (hn : n ≤ 11) (hS2 : S < 2048) : Met l y_X_canGrow w_X_canGrow (k2_rm 0 0) (rd_Pc D clX (wX h cI cZ n bt rk wt cl cc su sa sc od fr cg co rp rc) [(cI, .int), (cZ, .boolean)] [.ref (h 0), .int (nI S)]) (k2_QcV (.int (bI (anyB (fun i => !S.testBit i && !cg ((S &&& co i) ||| 2 ^ i)) n)))) 0 0 (fun _ => False) := by
  refine rd_met (by decide) rfl (Nat.le_of_ble_eq_true rfl) rfl ?_
  intro p e s m below meth c ls hx hb hr hml hown hts hlocks hP hK hl
  have hts : ∀ w ∈ tbl, w.before _ s = true := fun w h => hts w (List.mem_cons_of_mem _ h)
  have hown : s.vm.findClass RX = some m.cls := hown
  have hl : lv_has ls 4 [(0, .ref (h 0)), (1, .int (nI S))] := hl
  refine lv_iconst (v := 0) hx hb d_X_canGrow_0 (by decide) ?_
  refine lv_istore_n (lv' := [(2, .int 0), (0, .ref (h 0)), (1, .int (nI S))]) hx hb d_X_canGrow_1 rfl hl (by decide) rfl (fun ls hl => ?_)
  refine rd_loop (nL := 4) (σ := Unit) (n) (fun i _ => [(0, .ref (h 0)), (1, .int (nI S)), (2, .int (nI i))]) (fun i _ => anyB (fun i => !S.testBit i && !cg ((S &&& co i) ||| 2 ^ i)) i = false) ?_ 0 () ls (Nat.zero_le _) (rfl) (lv_sub hl [1, 2, 0] rfl)
  intro i _ ls hi hI hl ih
  have hI : anyB (fun i => !S.testBit i && !cg ((S &&& co i) ||| 2 ^ i)) i = false := hI
  have hl : lv_has ls 4 [(0, .ref (h 0)), (1, .int (nI S)), (2, .int (nI i))] := hl
  refine lv_iload_n hx hb d_X_canGrow_2 rfl (lv_at hl 2 rfl) ?_
  refine lv_aload_n hx hb d_X_canGrow_3 rfl (lv_at hl 0 rfl) ?_
  refine va_get (D := D) (ci := 0) (v := .int (nI n)) (C := RX) (T := TX) (N := 15) hx hb hts inX hown hK hP 0 rfl rfl 0 (by decide) (hts _ f_X_9) (fun _ h9 => h9) rfl d_X_canGrow_4 ?_
  refine lv_icmp_ge (tgt := 46) hx hb d_X_canGrow_7 (by decide) (fun c7 => ?_) (fun c7 => ?_)
  · have hN : i = n := lp_ge hi (by omega) c7
    refine lv_iconst (v := 0) hx hb d_X_canGrow_46 (by decide) ?_
    exact rd_zret hx hb hr hlocks d_X_canGrow_47 (by rw [← hN, hI]; rfl)
  · have hlt : i < n := lp_lt hi (by omega) c7
    refine lv_iconst (v := 1) hx hb d_X_canGrow_10 (by decide) ?_
    refine lv_iload_n hx hb d_X_canGrow_11 rfl (lv_at hl 2 rfl) ?_
    refine lv_ishl hx hb d_X_canGrow_12 ?_
    refine rd_top (z := nI (2 ^ i)) (bx_shl i (by omega)) ?_
    refine lv_istore_n (lv' := [(3, .int (nI (2 ^ i))), (0, .ref (h 0)), (1, .int (nI S)), (2, .int (nI i))]) hx hb d_X_canGrow_13 rfl hl (by decide) rfl (fun ls hl => ?_)
    refine lv_iload_n hx hb d_X_canGrow_14 rfl (lv_at hl 2 rfl) ?_
    refine lv_iload_n hx hb d_X_canGrow_15 rfl (lv_at hl 0 rfl) ?_
    refine lv_iand hx hb d_X_canGrow_16 ?_
    refine lv_if_ne (tgt := 40) hx hb d_X_canGrow_17 (by decide) (fun c17 => ?_) (fun c17 => ?_)
    · refine lv_iinc (v := (nI (i + 1))) (lv' := [(2, .int (nI (i + 1))), (3, .int (nI (2 ^ i))), (0, .ref (h 0)), (1, .int (nI S))]) hx hb d_X_canGrow_40 hl (k := 3) rfl (nI_1 i) (by decide) rfl (fun ls hl => ?_)
      refine lv_goto (tgt := 2) hx hb d_X_canGrow_43 (by decide) ?_
      exact ih hlt () ls (anyB_next hI (by show (!S.testBit i && _) = false; rw [show S.testBit i = true by cases hq : S.testBit i; exact absurd ((bx_bit (by omega) (by omega)).mpr hq) c17; rfl]; rfl)) (lv_sub hl [2, 3, 0] rfl)
    · refine lv_aload_n hx hb d_X_canGrow_20 rfl (lv_at hl 1 rfl) ?_
      refine va_get (D := D) (ci := 0) (v := .ref (h 6)) (C := RX) (T := TX) (N := 15) hx hb hts inX hown hK hP 0 rfl rfl 11 (by decide) (hts _ f_X_45) (fun _ h9 => h9) rfl d_X_canGrow_21 ?_
      refine lv_iload_n hx hb d_X_canGrow_24 rfl (lv_at hl 2 rfl) ?_
      refine lv_aload_n hx hb d_X_canGrow_25 rfl (lv_at hl 1 rfl) ?_
      refine va_get (D := D) (ci := 0) (v := .ref (h 7)) (C := RX) (T := TX) (N := 15) hx hb hts inX hown hK hP 0 rfl rfl 12 (by decide) (hts _ f_X_49) (fun _ h9 => h9) rfl d_X_canGrow_26 ?_
      refine lv_iload_n hx hb d_X_canGrow_29 rfl (lv_at hl 3 rfl) ?_
      refine va_iald hx hb hK hP 7 0 rfl rfl (vp_in_nI (show i < 11 by omega) (by decide)) d_X_canGrow_30 ?_
      refine rd_top (z := nI (co i)) (ar_nI co (by omega)) ?_
      refine lv_iand hx hb d_X_canGrow_31 ?_
      refine rd_top (z := nI (S &&& co i)) (bx_and _ _) ?_
      refine lv_iload_n hx hb d_X_canGrow_32 rfl (lv_at hl 0 rfl) ?_
      refine lv_ior hx hb d_X_canGrow_33 ?_
      refine rd_top (z := nI ((S &&& co i) ||| 2 ^ i)) (bx_or _ _) ?_
      refine va_zald hx hb hK hP 6 1 rfl rfl (vp_in_nI (show (S &&& co i) ||| 2 ^ i < 2048 from Nat.or_lt_two_pow (n := 11) (Nat.lt_of_le_of_lt Nat.and_le_left hS2) (Nat.pow_lt_pow_right (by decide) (by omega))) (by decide)) d_X_canGrow_34 ?_
      refine rd_top (z := bI (cg ((S &&& co i) ||| 2 ^ i))) (ar_bI cg (Nat.lt_trans (show (S &&& co i) ||| 2 ^ i < 2048 from Nat.or_lt_two_pow (n := 11) (Nat.lt_of_le_of_lt Nat.and_le_left hS2) (Nat.pow_lt_pow_right (by decide) (by omega))) (by decide))) ?_
      refine lv_if_ne (tgt := 40) hx hb d_X_canGrow_35 (by decide) (fun c35 => ?_) (fun c35 => ?_)
      · refine lv_iinc (v := (nI (i + 1))) (lv' := [(2, .int (nI (i + 1))), (3, .int (nI (2 ^ i))), (0, .ref (h 0)), (1, .int (nI S))]) hx hb d_X_canGrow_40 hl (k := 3) rfl (nI_1 i) (by decide) rfl (fun ls hl => ?_)
        refine lv_goto (tgt := 2) hx hb d_X_canGrow_43 (by decide) ?_
        exact ih hlt () ls (anyB_next hI (by show (_ && !cg ((S &&& co i) ||| 2 ^ i)) = false; rw [show cg ((S &&& co i) ||| 2 ^ i) = true by cases hq : cg ((S &&& co i) ||| 2 ^ i); exact absurd (bI_0.mpr hq) c35; rfl, Bool.not_true, Bool.and_false])) (lv_sub hl [2, 3, 0] rfl)
      · refine lv_iconst (v := 1) hx hb d_X_canGrow_38 (by decide) ?_
        exact rd_zret hx hb hr hlocks d_X_canGrow_39 (by rw [anyB_of (P := fun i => !S.testBit i && !cg ((S &&& co i) ||| 2 ^ i)) hlt (by show (!S.testBit i && !cg ((S &&& co i) ||| 2 ^ i)) = true; rw [(bx_bit (by omega) (by omega)).mp c17, bI_0.mp c35]; rfl)]; rfl)
set_option maxHeartbeats 4000000 in
set_option maxRecDepth 100000 in
theorem c_X_isKept (l : Launch) (S : Nat) (hS2 : S < 2048) (hbt : bt < 2 ^ 31) : Met l y_X_isKept w_X_isKept (k2_rm 1 21) (rd_Pc D clX (wX h cI cZ n bt rk wt cl cc su sa sc od fr cg co rp rc) [(cI, .int), (cZ, .boolean)] [.ref (h 0), .int (nI S)]) (k2_QcV (.int (bI (sp_sub bt S && !cg S)))) 0 0 (fun _ => False) := by
  refine rd_met (by decide) rfl (Nat.le_of_ble_eq_true rfl) rfl ?_
  intro p e s m below meth c ls hx hb hr hml hown hts hlocks hP hK hl
  have hts : ∀ w ∈ tbl, w.before _ s = true := fun w h => hts w (List.mem_cons_of_mem _ h)
  have hown : s.vm.findClass RX = some m.cls := hown
  have hl : lv_has ls 2 [(0, .ref (h 0)), (1, .int (nI S))] := hl
  refine lv_aload_n hx hb d_X_isKept_0 rfl (lv_at hl 0 rfl) ?_
  refine va_get (D := D) (ci := 0) (v := .int (nI bt)) (C := RX) (T := TX) (N := 15) hx hb hts inX hown hK hP 0 rfl rfl 1 (by decide) (hts _ f_X_13) (fun _ h9 => h9) rfl d_X_isKept_1 ?_
  refine lv_iload_n hx hb d_X_isKept_4 rfl (lv_at hl 1 rfl) ?_
  refine rd_S (As := [.int (nI bt), .int (nI S)]) (rest := []) ⟨hx, hb, hml, hown, hts⟩ (c_X_isPart l bt S hbt) (cwS 2 hts g_X_118 rfl rfl rfl (by decide +kernel) ⟨Nat.le_of_ble_eq_true rfl, Nat.le_of_ble_eq_true rfl⟩) rfl hl.1 rfl (Nat.le_of_ble_eq_true rfl) d_X_isKept_5 ⟨Nat.zero_le _, Nat.zero_le _⟩ ?_
  refine lv_if_eq (tgt := 24) hx hb d_X_isKept_8 (by decide) (fun c8 => ?_) (fun c8 => ?_)
  · refine lv_iconst (v := 0) hx hb d_X_isKept_24 (by decide) ?_
    exact rd_zret hx hb hr hlocks d_X_isKept_25 (by rw [bI_0.mp c8]; rfl)
  · refine lv_aload_n hx hb d_X_isKept_11 rfl (lv_at hl 0 rfl) ?_
    refine va_get (D := D) (ci := 0) (v := .ref (h 6)) (C := RX) (T := TX) (N := 15) hx hb hts inX hown hK hP 0 rfl rfl 11 (by decide) (hts _ f_X_45) (fun _ h9 => h9) rfl d_X_isKept_12 ?_
    refine lv_iload_n hx hb d_X_isKept_15 rfl (lv_at hl 1 rfl) ?_
    refine va_zald hx hb hK hP 6 1 rfl rfl (vp_in_nI hS2 (by decide)) d_X_isKept_16 ?_
    refine rd_top (z := bI (cg S)) (ar_bI cg (by omega)) ?_
    refine lv_if_ne (tgt := 24) hx hb d_X_isKept_17 (by decide) (fun c17 => ?_) (fun c17 => ?_)
    · refine lv_iconst (v := 0) hx hb d_X_isKept_24 (by decide) ?_
      exact rd_zret hx hb hr hlocks d_X_isKept_25 (by rw [show cg S = true by cases hq : cg S; exact absurd (bI_0.mpr hq) c17; rfl, Bool.not_true, Bool.and_false]; rfl)
    · refine lv_iconst (v := 1) hx hb d_X_isKept_20 (by decide) ?_
      refine lv_goto (tgt := 25) hx hb d_X_isKept_21 (by decide) ?_
      exact rd_zret hx hb hr hlocks d_X_isKept_25 (by rw [show sp_sub bt S = true by cases hq : sp_sub bt S; exact absurd (bI_0.mpr hq) c8; rfl, bI_0.mp c17]; rfl)
/-- what a set keeps when it takes statement i in, by order o -/
def comX (n bt : Nat) (rk : Nat → Nat) (od i : Nat) : Nat := if od = 0 then 2 ^ n - 1 else bt ||| dfl bt rk 0 (rk i) n
set_option maxHeartbeats 4000000 in
set_option maxRecDepth 100000 in
theorem c_X_companyOf (l : Launch) (i : Nat) (hi : i < 11) (hn : n ≤ 11) (hbt : bt < 2 ^ 31) (hrk : ∀ j, rk j < 8) (ho : od < 4) : Met l y_X_companyOf w_X_companyOf (k2_rm 2 45) (rd_Pc D clX (wX h cI cZ n bt rk wt cl cc su sa sc od fr cg co rp rc) [(cI, .int), (cZ, .boolean)] [.ref (h 0), .int (nI i)]) (k2_QcV (.int (nI (comX n bt rk od i)))) 0 0 (fun _ => False) := by
  refine rd_met (by decide) rfl (Nat.le_of_ble_eq_true rfl) rfl ?_
  intro p e s m below meth c ls hx hb hr hml hown hts hlocks hP hK hl
  have hts : ∀ w ∈ tbl, w.before _ s = true := fun w h => hts w (List.mem_cons_of_mem _ h)
  have hown : s.vm.findClass RX = some m.cls := hown
  have hl : lv_has ls 2 [(0, .ref (h 0)), (1, .int (nI i))] := hl
  refine lv_aload_n hx hb d_X_companyOf_0 rfl (lv_at hl 0 rfl) ?_
  refine va_get (D := D) (ci := 0) (v := .int (nI od)) (C := RX) (T := TX) (N := 15) hx hb hts inX hown hK hP 0 rfl rfl 9 (by decide) (hts _ f_X_38) (fun _ h9 => h9) rfl d_X_companyOf_1 ?_
  refine lv_if_ne (tgt := 12) hx hb d_X_companyOf_4 (by decide) (fun c4 => ?_) (fun c4 => ?_)
  · refine lv_aload_n hx hb d_X_companyOf_12 rfl (lv_at hl 0 rfl) ?_
    refine va_get (D := D) (ci := 0) (v := .int (nI bt)) (C := RX) (T := TX) (N := 15) hx hb hts inX hown hK hP 0 rfl rfl 1 (by decide) (hts _ f_X_13) (fun _ h9 => h9) rfl d_X_companyOf_13 ?_
    refine lv_aload_n hx hb d_X_companyOf_16 rfl (lv_at hl 0 rfl) ?_
    refine lv_iconst (v := 0) hx hb d_X_companyOf_17 (by decide) ?_
    refine rd_top (z := nI 0) (rfl) ?_
    refine lv_aload_n hx hb d_X_companyOf_18 rfl (lv_at hl 0 rfl) ?_
    refine va_get (D := D) (ci := 0) (v := .ref (h 1)) (C := RX) (T := TX) (N := 15) hx hb hts inX hown hK hP 0 rfl rfl 2 (by decide) (hts _ f_X_16) (fun _ h9 => h9) rfl d_X_companyOf_19 ?_
    refine lv_iload_n hx hb d_X_companyOf_22 rfl (lv_at hl 1 rfl) ?_
    refine va_iald hx hb hK hP 1 0 rfl rfl (vp_in_nI hi (by decide)) d_X_companyOf_23 ?_
    refine rd_top (z := nI (rk i)) (ar_nI rk (by omega)) ?_
    refine rd_V (As := [.int (nI 0), .int (nI (rk i))]) (rest := [.int (nI bt)]) ⟨hx, hb, hml, hown, hts⟩ (c_X_defaultsOfRanks l 0 (rk i) hn hbt hrk (by decide) (hrk i)) (cwV 2 hts g_X_121 rfl rfl rfl (by decide +kernel) ⟨Nat.le_of_ble_eq_true rfl, Nat.le_of_ble_eq_true rfl⟩) hK hP 0 rfl rfl rfl hl.1 rfl (Nat.le_of_ble_eq_true rfl) d_X_companyOf_24 ⟨Nat.zero_le _, Nat.zero_le _⟩ ?_
    refine lv_ior hx hb d_X_companyOf_27 ?_
    refine rd_top (z := nI (bt ||| dfl bt rk 0 (rk i) n)) (bx_or _ _) ?_
    exact rd_iret hx hb hr hlocks d_X_companyOf_28 (by rw [comX, if_neg (fun q => c4 (by rw [q]; rfl))])
  · refine lv_aload_n hx hb d_X_companyOf_7 rfl (lv_at hl 0 rfl) ?_
    refine rd_V (As := []) (rest := []) ⟨hx, hb, hml, hown, hts⟩ (c_X_statementBits l hn) (cwV 0 hts g_X_94 rfl rfl rfl (by decide +kernel) ⟨Nat.le_of_ble_eq_true rfl, Nat.le_of_ble_eq_true rfl⟩) hK hP 0 rfl rfl rfl hl.1 rfl (Nat.le_of_ble_eq_true rfl) d_X_companyOf_8 ⟨Nat.zero_le _, Nat.zero_le _⟩ ?_
    exact rd_iret hx hb hr hlocks d_X_companyOf_11 (by rw [comX, if_pos ((nI_eq (b := 0) (by omega) (by decide)).mp c4)])
end MX3
end
section
/-! methods that write, with more than one possible end: the end's numbers come with what is known of them -/
section WRE
variable {p : Program} {l : Launch} {e : Env} {R : Room} {s : State} {m : MethodId} {args : Array Value} {below : List Frame} {meth : Method} {c : Code} {H : Heap} {locs : List Loc} {cells slots : Nat} {Q : State → Prop}
variable {D : va_G} {cl : List vw_C} {ws : va_W} {tys : List (ClassId × FieldType)} {cc : ByteArray} {pc : Nat} {ls : Array Slot} {rest st0 : List Value} {σ : Type} {WS : σ → va_W} {ro : σ → Option Value} {post : σ → Prop}
def wE_Q (D : va_G) (cl : List vw_C) (ws : va_W) {σ : Type} (WS : σ → va_W) (ro : σ → Option Value) (post : σ → Prop) (sz : Nat) : Array Value → State → Outcome → State → Prop := fun _ st o t => ∃ u : σ, o = .returned (ro u) ∧ post u ∧ va_P D cl (WS u) t.heap ∧ va_F (va_A ws sz) st t
theorem wE_vret (u : σ) (hx : p.tables.exec = Jvm.exec) (hb : c.code = cc) (hr : meth.sig.returnType = none) (hlocks : meth.locks = false) (hdg : decode cc pc = .ok (.return_, 1)) (hS : va_S (va_A ws s.heap.size) s.heap H locs) (hP : va_P D cl (WS u) H) (hu : post u) (hro : ro u = none) : W p l e R s m args below meth c H locs 0 0 (MQ below (wE_Q D cl ws WS ro post s.heap.size) args s 0 0 (va_A ws s.heap.size)) (F0 m pc ls []) :=
  W.vret hx hb hr (fun t ht hW => ⟨u, by rw [hro], hu, by rw [ht]; exact hP, hS.F ht⟩) hS.2.2 hdg hlocks
theorem wE_iret (u : σ) {v : Int32} (hx : p.tables.exec = Jvm.exec) (hb : c.code = cc) (hr : meth.sig.returnType = some .int) (hlocks : meth.locks = false) (hdg : decode cc pc = .ok (.ireturn, 1)) (hS : va_S (va_A ws s.heap.size) s.heap H locs) (hP : va_P D cl (WS u) H) (hu : post u) (hro : ro u = some (.int v)) : W p l e R s m args below meth c H locs 0 0 (MQ below (wE_Q D cl ws WS ro post s.heap.size) args s 0 0 (va_A ws s.heap.size)) (F0 m pc ls [.int v]) :=
  W.iret hx hb hr (fun t ht hW => ⟨u, by rw [hro], hu, by rw [ht]; exact hP, hS.F ht⟩) hS.2.2 hdg hlocks
theorem wE_met {y : MethodName} {w w' : List Cond} {rm : Room} {av : List Value} {maxL sz : Nat} {ret : Option FieldType} {lv0 : List (Nat × Value)} (hy : plainName y.cls = true) (hw : w = Cond.code y cc maxL ret :: w') (hlen : (lg_sl av).length ≤ maxL) (hlv : lv_args 0 av = lv0)
    (body : ∀ (p : Program) (e : Env) (s : State) (m : MethodId) (below : List Frame) (meth : Method) (c : Code) (ls : Array Slot), p.tables.exec = Jvm.exec → c.code = cc → meth.sig.returnType = ret → c.maxLocals = maxL → s.vm.findClass y.cls = some m.cls → (∀ z ∈ w, z.before av.toArray s = true) → meth.locks = false → va_P D cl ws s.heap → va_K D cl tys s → va_D (va_A ws s.heap.size) ws → va_S (va_A ws s.heap.size) s.heap s.heap [] → (∀ q, s.heap.size ≤ q → va_A ws s.heap.size q) → lv_has ls maxL lv0 →
      W p l e rm s m av.toArray below meth c s.heap [] 0 0 (MQ below (wE_Q D cl ws WS ro post s.heap.size) av.toArray s 0 0 (va_A ws s.heap.size)) (F0 m 0 ls [])) : Met l y w rm (wr_Pc D cl ws tys sz av) (wE_Q D cl ws WS ro post sz) 0 0 (va_A ws sz) := by
  refine Met.ofW (cc := cc) (maxL := maxL) (ret := ret) hy hw ?_
  intro p e s m args below meth c s₁ B hml hv
  obtain ⟨rfl, hsz, hP, hK, hD⟩ := hv
  subst hsz
  have hl := lv_entry av (n := maxL) hlen
  rw [lg_entry_eq]
  rw [hlv] at hl
  exact body p e s m below meth c _ B.exec B.bytes B.returns hml (findClass_of_methodNamed B.named) (atoms_spec (ws := w) B.pre) B.notSynchronized hP hK (hD.self (sz := s.heap.size)) va_S.rf (fun q h => Or.inr h) hl
variable {A : Nat → Prop} {H0 : Heap}
theorem wE_run {a : Array Value} (hr : va_Run p l e R s m args below meth c H locs cells slots 0 0 (F0 m pc ls st0) rest (wE_Q D cl ws WS ro post H.size a) (va_A ws H.size)) (hD : va_D A ws) (hS : va_S A H0 H locs) (hA : ∀ q, H0.size ≤ q → A q) (ha : ∀ u, (WS u).map (·.1) = ws.map (·.1))
    (kk : ∀ (u : σ) (H1 : Heap) (locs1 : List Loc), post u → va_P D cl (WS u) H1 → va_D A (WS u) → va_S A H0 H1 locs1 → W p l e R s m args below meth c H1 locs1 cells slots Q (F0 m (pc + 3) ls ((ro u).toList ++ rest))) : W p l e R s m args below meth c H locs cells slots Q (F0 m pc ls st0) := by
  intro T hT X
  obtain ⟨v, st₀, t, T', L, h0, X', hL, e1, e2, ⟨u, hv, hu, hp, hz, hk⟩, st⟩ := hr T hT X
  cases hv
  rw [h0] at hz hk
  have hF : ∀ q, va_A ws H.size q → A q := fun q h => by
    rcases h with ⟨k, e, h⟩ | h
    · exact hD.2 k (q, e) h
    · exact hA q (Nat.le_trans hS.1 h)
  obtain ⟨t2, a1, b1⟩ := kk u T'.heap (locs ++ L) hu (by rw [e1]; exact hp) (wr_D hD (ha u))
    ⟨Nat.le_trans hS.1 (by rw [e1]; exact hz), fun q h1 h2 => by rw [e1, hk q (Nat.lt_of_lt_of_le h1 hS.1) (fun z => h2 (hF q z))]; exact hS.2.1 q h1 h2, fun q hq => by
      rcases List.mem_append.mp hq with h | h
      · exact hS.2.2 q h
      · exact hF _ (hL q h)⟩ T' rfl X'
  exact ⟨t2, st t2 a1, b1⟩
variable {y : MethodName} {bytes : ByteArray} {maxL nL n index : Nat} {ret : Option FieldType} {w : List Cond} {rm : Room} {Ts : List Cond} {own C : String} {b : Addr} {As : List Value}
theorem wE_V (S : CallFix p m c cc nL s args Ts own) (hM : Met l y w rm (wr_Pc D cl ws tys H.size (.ref b :: As)) (wE_Q D cl ws WS ro post H.size) 0 0 (va_A ws H.size)) (cw : CallW R s args own C index y bytes maxL ret w rm 0 0 n)
    (hK : va_K D cl tys s) (hP : va_P D cl ws H) (hD : va_D A ws) (hS : va_S A H0 H locs) (hA : ∀ q, H0.size ≤ q → A q) (q0 : Nat) {ci : Nat} {T : u_T} {N : Nat} {fs : List Value} (hc : cl[ci]? = some (C, T, N)) (he : ws[q0]? = some (b, .inr (ci, fs)))
    (hn : As.length = n) (hsize : ls.size = nL) (hstack : st0 = As.reverse ++ .ref b :: rest) (hW : (rest.map fun v => v.category).sum ≤ 8) (hdg : decode cc pc = .ok (.invokevirtual index, 3)) (hf : cells + 0 ≤ R.cells ∧ slots + 0 ≤ R.slots) (ha : ∀ u, (WS u).map (·.1) = ws.map (·.1))
    (kk : ∀ (u : σ) (H1 : Heap) (locs1 : List Loc), post u → va_P D cl (WS u) H1 → va_D A (WS u) → va_S A H0 H1 locs1 → W p l e R s m args below meth c H1 locs1 cells slots Q (F0 m (pc + 3) ls ((ro u).toList ++ rest))) : W p l e R s m args below meth c H locs cells slots Q (F0 m pc ls st0) := by
  subst hstack
  exact wE_run (va_runV (As := As) (rest := rest) (g := F0 m pc ls (As.reverse ++ .ref b :: rest)) S hM cw ⟨wr_blind, va_recv hK hP hc he, fun U hU hW => ⟨rfl, by rw [hU], by rw [hU]; exact hP, va_K.moved hW.alike hK, hD.weaken (fun _ _ _ _ => trivial)⟩⟩ rfl hn hsize rfl (lv_room hW) hdg hf) hD hS hA ha kk
end WRE
/-! pure rows for the writing methods -/
def isArr (rp : Nat → Nat) (L : List Nat) : Prop := ∀ i, i < L.length → rp i = L.getD i 0
theorem isArr_nil (rp : Nat → Nat) : isArr rp [] := fun i h => by simp at h
theorem isArr_push {rp : Nat → Nat} {L : List Nat} (h : isArr rp L) (S : Nat) : isArr (va_up rp L.length S) (L ++ [S]) := by
  intro i hi
  rw [List.length_append, List.length_singleton] at hi
  unfold va_up
  split
  · rename_i q
    rw [q, List.getD_eq_getElem?_getD, List.getElem?_append_right (Nat.le_refl _), Nat.sub_self]
    rfl
  · rename_i q
    have hl : i < L.length := by omega
    rw [h i hl, List.getD_eq_getElem?_getD, List.getD_eq_getElem?_getD, List.getElem?_append_left hl]
def flt (P : Nat → Bool) (k : Nat) : List Nat := (List.range k).filter P
theorem flt_0 (P : Nat → Bool) : flt P 0 = [] := rfl
theorem flt_t {P : Nat → Bool} {k : Nat} (h : P k = true) : flt P (k + 1) = flt P k ++ [k] := by
  unfold flt
  rw [List.range_succ, List.filter_append, List.filter_cons_of_pos h]
  rfl
theorem flt_f {P : Nat → Bool} {k : Nat} (h : P k = false) : flt P (k + 1) = flt P k := by
  unfold flt
  rw [List.range_succ, List.filter_append, List.filter_cons_of_neg (by rw [h]; decide)]
  simp
theorem flt_mem {P : Nat → Bool} {k x : Nat} : x ∈ flt P k ↔ x < k ∧ P x = true := by
  unfold flt
  rw [List.mem_filter, List.mem_range]
theorem flt_nodup (P : Nat → Bool) (k : Nat) : (flt P k).Nodup := List.Pairwise.filter _ List.nodup_range
theorem flt_congr {P Q : Nat → Bool} {k : Nat} (h : ∀ x, x < k → P x = Q x) : flt P k = flt Q k := by
  unfold flt
  exact List.filter_congr (fun x hx => h x (List.mem_range.mp hx))
/-- a set has all of a clash -/
def clS (cl : Nat → Nat) (cc S : Nat) : Bool := anyB (fun k => sp_sub (cl k) S) cc
theorem sub_iff {a b : Nat} : sp_sub a b = true ↔ ∀ i, a.testBit i = true → b.testBit i = true := by
  unfold sp_sub
  rw [beq_iff_eq]
  constructor
  · intro h i hi
    have h1 : (a &&& b).testBit i = a.testBit i := by rw [h]
    rw [Nat.testBit_and, hi, Bool.true_and] at h1
    exact h1
  · intro h
    apply Nat.eq_of_testBit_eq
    intro i
    rw [Nat.testBit_and]
    cases hq : a.testBit i
    · rfl
    · rw [h i hq]; rfl
theorem sub_refl (a : Nat) : sp_sub a a = true := sub_iff.mpr (fun _ h => h)
theorem sub_trans {a b c : Nat} (h1 : sp_sub a b = true) (h2 : sp_sub b c = true) : sp_sub a c = true := sub_iff.mpr (fun i h => sub_iff.mp h2 i (sub_iff.mp h1 i h))
theorem sub_anti {a b : Nat} (h1 : sp_sub a b = true) (h2 : sp_sub b a = true) : a = b := by
  apply Nat.eq_of_testBit_eq
  intro i
  cases ha : a.testBit i
  · cases hb : b.testBit i
    · rfl
    · rw [sub_iff.mp h2 i hb] at ha; cases ha
  · rw [sub_iff.mp h1 i ha]
theorem sub_le {a b : Nat} (h : sp_sub a b = true) : a ≤ b := by
  unfold sp_sub at h
  rw [← beq_iff_eq.mp h]
  exact Nat.and_le_right
theorem sub_more {a b : Nat} (h : sp_sub a b = true) (hne : a ≠ b) : ∃ i, b.testBit i = true ∧ a.testBit i = false := by
  refine Classical.byContradiction fun hq => hne (sub_anti h (sub_iff.mpr fun i hi => ?_))
  cases ha : a.testBit i
  · exact absurd ⟨i, hi, ha⟩ hq
  · rfl
theorem bit_lt {a i k : Nat} (h : a < 2 ^ k) (hi : a.testBit i = true) : i < k := by
  rcases Nat.lt_or_ge i k with q | q
  · exact q
  · rw [Nat.testBit_lt_two_pow (Nat.lt_of_lt_of_le h (Nat.pow_le_pow_right (by decide) q))] at hi; cases hi
theorem clS_mono {cl : Nat → Nat} {cc S T : Nat} (h : sp_sub S T = true) (hc : clS cl cc S = true) : clS cl cc T = true := by
  obtain ⟨k, h1, h2⟩ := anyB_iff.mp hc
  exact anyB_iff.mpr ⟨k, h1, sub_trans h2 h⟩
theorem xor_bit {S s i : Nat} : (S ^^^ 2 ^ s).testBit i = (S.testBit i ^^ decide (s = i)) := by rw [Nat.testBit_xor, Nat.testBit_two_pow]
theorem xor_sub {S s : Nat} (h : S.testBit s = true) : sp_sub (S ^^^ 2 ^ s) S = true := by
  refine sub_iff.mpr fun i hi => ?_
  rw [xor_bit] at hi
  rcases Nat.decEq s i with q | q
  · rw [decide_eq_false q, Bool.xor_false] at hi; exact hi
  · rw [← q]; exact h
theorem xor_lt {S s : Nat} (h : S.testBit s = true) : S ^^^ 2 ^ s < S := by
  refine Nat.lt_of_le_of_ne (sub_le (xor_sub h)) fun q => ?_
  have h1 : (S ^^^ 2 ^ s).testBit s = S.testBit s := by rw [q]
  rw [xor_bit, h, decide_eq_true rfl] at h1
  cases h1
/-- a set clashes when it is a clash, or clashes without one of its statements -/
theorem clS_step {cl : Nat → Nat} {cc n S : Nat} (hS : S < 2 ^ n) : clS cl cc S = (anyB (fun k => decide (cl k = S)) cc || anyB (fun i => S.testBit i && clS cl cc (S ^^^ 2 ^ i)) n) := by
  rw [Bool.eq_iff_iff, Bool.or_eq_true]
  constructor
  · intro h
    obtain ⟨k, h1, h2⟩ := anyB_iff.mp h
    rcases Nat.decEq (cl k) S with q | q
    · obtain ⟨i, h3, h4⟩ := sub_more h2 q
      refine Or.inr (anyB_of (bit_lt hS h3) ?_)
      show (S.testBit i && _) = true
      rw [h3, Bool.true_and]
      refine anyB_of h1 (sub_iff.mpr fun j hj => ?_)
      rw [xor_bit, sub_iff.mp h2 j hj, decide_eq_false (fun q => by rw [← q, h4] at hj; cases hj)]
      rfl
    · exact Or.inl (anyB_of h1 (decide_eq_true q))
  · rintro (h | h)
    · obtain ⟨k, h1, h2⟩ := anyB_iff.mp h
      exact anyB_of h1 (by rw [of_decide_eq_true h2]; exact sub_refl S)
    · obtain ⟨i, h1, h2⟩ := anyB_iff.mp h
      rw [Bool.and_eq_true] at h2
      exact clS_mono (xor_sub h2.1) h2.2
theorem mk_0 {cl : Nat → Nat} {cc n i : Nat} {x : Nat → Bool} (hi : i < 2 ^ n) (hI : ∀ S, S < 2 ^ n → x S = if S < i then clS cl cc S else anyB (fun j => decide (cl j = S)) cc) : clS cl cc i = (x i || anyB (fun s => i.testBit s && x (i ^^^ 2 ^ s)) n) := by
  have h1 := hI i hi
  rw [if_neg (Nat.lt_irrefl i)] at h1
  rw [clS_step hi, h1]
  congr 1
  rw [Bool.eq_iff_iff, anyB_iff, anyB_iff]
  constructor
  · rintro ⟨s, h2, h3⟩
    refine ⟨s, h2, ?_⟩
    rw [Bool.and_eq_true] at h3 ⊢
    have h4 := xor_lt h3.1
    exact ⟨h3.1, by rw [hI _ (Nat.lt_trans h4 hi), if_pos h4]; exact h3.2⟩
  · rintro ⟨s, h2, h3⟩
    refine ⟨s, h2, ?_⟩
    rw [Bool.and_eq_true] at h3 ⊢
    have h4 := xor_lt h3.1
    have h5 := h3.2
    rw [hI _ (Nat.lt_trans h4 hi), if_pos h4] at h5
    exact ⟨h3.1, h5⟩
theorem mk_1 {cl : Nat → Nat} {cc n i : Nat} {x : Nat → Bool} (hi : i < 2 ^ n) (hI : ∀ S, S < 2 ^ n → x S = if S < i then clS cl cc S else anyB (fun j => decide (cl j = S)) cc) (hx : x i = true) (S : Nat) (hS : S < 2 ^ n) : x S = if S < i + 1 then clS cl cc S else anyB (fun j => decide (cl j = S)) cc := by
  rcases Nat.lt_trichotomy S i with q | q | q
  · rw [hI S hS, if_pos q, if_pos (by omega)]
  · rw [q, if_pos (by omega), mk_0 hi hI, hx]; rfl
  · rw [hI S hS, if_neg (by omega), if_neg (by omega)]
theorem mk_2 {cl : Nat → Nat} {cc n i : Nat} {x : Nat → Bool} (hi : i < 2 ^ n) (hI : ∀ S, S < 2 ^ n → x S = if S < i then clS cl cc S else anyB (fun j => decide (cl j = S)) cc) (hx : x i = false) (S : Nat) (hS : S < 2 ^ n) : va_up x i (anyB (fun s => i.testBit s && x (i ^^^ 2 ^ s)) n) S = if S < i + 1 then clS cl cc S else anyB (fun j => decide (cl j = S)) cc := by
  unfold va_up
  rcases Nat.lt_trichotomy S i with q | q | q
  · rw [if_neg (by omega), hI S hS, if_pos q, if_pos (by omega)]
  · rw [if_pos q, q, if_pos (by omega), mk_0 hi hI, hx]; rfl
  · rw [if_neg (by omega), hI S hS, if_neg (by omega), if_neg (by omega)]
end
section
/-! the least clashes, as the class looks for them -/
theorem oi_neg {x : Option Nat} (hx : ∀ z, x = some z → z < 2 ^ 31) : oI x < 0 ↔ x = none := by
  cases x with
  | none => exact ⟨fun _ => rfl, fun _ => (by decide : (-2 : Int32) < 0)⟩
  | some a => exact ⟨fun h => absurd h (nI_pos (hx a rfl)), fun h => by cases h⟩
theorem oi_1 {la : Option Nat} {c : Nat} (hla : ∀ z, la = some z → z < 2 ^ 31) (hc : c < 2 ^ 31) : nI c ≤ oI la ↔ ¬ ∀ z, la = some z → z < c := by
  cases la with
  | none =>
    refine ⟨fun h => ?_, fun h => absurd (fun z hz => by cases hz) h⟩
    have h1 : (nI c).toInt ≤ (-2 : Int32).toInt := Int32.le_iff_toInt_le.mp h
    rw [nI_toInt hc, show (-2 : Int32).toInt = -2 from rfl] at h1
    omega
  | some a =>
    show nI c ≤ nI a ↔ _
    rw [nI_leI hc (hla a rfl)]
    exact ⟨fun h q => absurd (q a rfl) (by omega), fun h => Nat.le_of_not_lt (fun q => h (fun z hz => by cases hz; exact q))⟩
theorem oi_2 {x : Option Nat} {c : Nat} (hx : ∀ z, x = some z → z < 2 ^ 31) (hc : c < 2 ^ 31) (h0 : ¬ oI x < 0) : oI x ≤ nI c ↔ ¬ ∀ z, x = some z → c < z := by
  cases x with
  | none => exact absurd (by decide : (-2 : Int32) < 0) h0
  | some a =>
    show nI a ≤ nI c ↔ _
    rw [nI_leI (hx a rfl) hc]
    exact ⟨fun h q => absurd (q a rfl) (by omega), fun h => Nat.le_of_not_lt (fun q => h (fun z hz => by cases hz; exact q))⟩
theorem lsA_lt {L : Nat → Bool} {cl : Nat → Nat} {la : Option Nat} (hcl : ∀ j, cl j < 2048) : ∀ k z, lsA L cl la k = some z → z < 2048
  | 0, z, h => by cases h
  | k + 1, z, h => by
    rw [lsA] at h
    split at h
    · cases h; exact hcl k
    · exact lsA_lt hcl k z h
/-- k steps from s on -/
def lsR (L : Nat → Bool) (cl : Nat → Nat) (cc : Nat) : Nat → Option Nat → Option Nat
  | 0, s => s
  | k + 1, s => match lsA L cl s cc with
    | none => none
    | some z => lsR L cl cc k (some z)
/-- the answer of least -/
def leaX (n : Nat) (cl : Nat → Nat) (cc : Nat) (x : Int32) : Int32 := if x < 0 ∨ ¬ x < nI cc then -2 else oI (lsR (isLX n cl cc) cl cc (x.toNatClampNeg + 1) none)
end
section
section MX4
variable {D : va_G} {h : Nat → Nat} {cI cZ : ClassId} {n bt : Nat} {rk wt cl : Nat → Nat} {cc : Nat} {su sa : Nat → Nat} {sc od : Nat} {fr : Bool} {cg : Nat → Bool} {co rp : Nat → Nat} {rc : Nat}
set_option maxHeartbeats 4000000 in
set_option maxRecDepth 100000 in
theorem c_X_leastAfter (l : Launch) (la : Option Nat) (hla : ∀ z, la = some z → z < 2 ^ 31) (hn : n ≤ 11) (hcc : cc ≤ 40) (hcl : ∀ j, cl j < 2048) : Met l y_X_leastAfter w_X_leastAfter (k2_rm 3 64) (rd_Pc D clX (wX h cI cZ n bt rk wt cl cc su sa sc od fr cg co rp rc) [(cI, .int), (cZ, .boolean)] [.ref (h 0), .int (oI la)]) (k2_QcV (.int (oI (lsA (isLX n cl cc) cl la cc)))) 0 0 (fun _ => False) := by
  refine rd_met (by decide) rfl (Nat.le_of_ble_eq_true rfl) rfl ?_
  intro p e s m below meth c ls hx hb hr hml hown hts hlocks hP hK hl
  have hts : ∀ w ∈ tbl, w.before _ s = true := fun w h => hts w (List.mem_cons_of_mem _ h)
  have hown : s.vm.findClass RX = some m.cls := hown
  have hl : lv_has ls 5 [(0, .ref (h 0)), (1, .int (oI la))] := hl
  refine lv_bipush (v := (-2)) hx hb d_X_leastAfter_0 (by decide) ?_
  refine rd_top (z := oI none) (rfl) ?_
  refine lv_istore_n (lv' := [(2, .int (oI none)), (0, .ref (h 0)), (1, .int (oI la))]) hx hb d_X_leastAfter_2 rfl hl (by decide) rfl (fun ls hl => ?_)
  refine lv_iconst (v := 0) hx hb d_X_leastAfter_3 (by decide) ?_
  refine lv_istore_n (lv' := [(3, .int 0), (2, .int (oI none)), (0, .ref (h 0)), (1, .int (oI la))]) hx hb d_X_leastAfter_4 rfl hl (by decide) rfl (fun ls hl => ?_)
  refine rd_loop (nL := 5) (σ := Option Nat) (cc) (fun i x => [(0, .ref (h 0)), (1, .int (oI la)), (2, .int (oI x)), (3, .int (nI i))]) (fun i x => x = lsA (isLX n cl cc) cl la i) ?_ 0 none ls (Nat.zero_le _) (rfl) (lv_sub hl [2, 3, 1, 0] rfl)
  intro i x ls hi hI hl ih
  have hI : x = lsA (isLX n cl cc) cl la i := hI
  have hl : lv_has ls 5 [(0, .ref (h 0)), (1, .int (oI la)), (2, .int (oI x)), (3, .int (nI i))] := hl
  refine lv_iload_n hx hb d_X_leastAfter_5 rfl (lv_at hl 3 rfl) ?_
  refine lv_aload_n hx hb d_X_leastAfter_6 rfl (lv_at hl 0 rfl) ?_
  refine va_get (D := D) (ci := 0) (v := .int (nI cc)) (C := RX) (T := TX) (N := 15) hx hb hts inX hown hK hP 0 rfl rfl 5 (by decide) (hts _ f_X_26) (fun _ h9 => h9) rfl d_X_leastAfter_7 ?_
  refine lv_icmp_ge (tgt := 55) hx hb d_X_leastAfter_10 (by decide) (fun c10 => ?_) (fun c10 => ?_)
  · have hN : i = cc := lp_ge hi (by omega) c10
    refine lv_iload_n hx hb d_X_leastAfter_55 rfl (lv_at hl 2 rfl) ?_
    exact rd_iret hx hb hr hlocks d_X_leastAfter_56 (by rw [hI, hN])
  · have hlt : i < cc := lp_lt hi (by omega) c10
    refine lv_aload_n hx hb d_X_leastAfter_13 rfl (lv_at hl 0 rfl) ?_
    refine va_get (D := D) (ci := 0) (v := .ref (h 3)) (C := RX) (T := TX) (N := 15) hx hb hts inX hown hK hP 0 rfl rfl 4 (by decide) (hts _ f_X_23) (fun _ h9 => h9) rfl d_X_leastAfter_14 ?_
    refine lv_iload_n hx hb d_X_leastAfter_17 rfl (lv_at hl 3 rfl) ?_
    refine va_iald hx hb hK hP 3 0 rfl rfl (vp_in_nI (show i < 40 by omega) (by decide)) d_X_leastAfter_18 ?_
    refine rd_top (z := nI (cl i)) (ar_nI cl (by omega)) ?_
    refine lv_istore (lv' := [(4, .int (nI (cl i))), (0, .ref (h 0)), (1, .int (oI la)), (2, .int (oI x)), (3, .int (nI i))]) hx hb d_X_leastAfter_19 hl (by decide) rfl (fun ls hl => ?_)
    refine lv_iload hx hb d_X_leastAfter_21 (lv_at hl 0 rfl) ?_
    refine lv_iload_n hx hb d_X_leastAfter_23 rfl (lv_at hl 2 rfl) ?_
    refine lv_icmp_le (tgt := 49) hx hb d_X_leastAfter_24 (by decide) (fun c24 => ?_) (fun c24 => ?_)
    · refine lv_iinc (v := (nI (i + 1))) (lv' := [(3, .int (nI (i + 1))), (4, .int (nI (cl i))), (0, .ref (h 0)), (1, .int (oI la)), (2, .int (oI x))]) hx hb d_X_leastAfter_49 hl (k := 4) rfl (nI_1 i) (by decide) rfl (fun ls hl => ?_)
      refine lv_goto (tgt := 5) hx hb d_X_leastAfter_52 (by decide) ?_
      exact ih hlt x ls (by show _ = lsA (isLX n cl cc) cl la (i + 1); rw [lsA, if_neg (fun q => (oi_1 hla (Nat.lt_trans (hcl i) (by decide))).mp c24 q.1)]; exact hI) (lv_sub hl [2, 3, 4, 0] rfl)
    · refine lv_iload_n hx hb d_X_leastAfter_27 rfl (lv_at hl 3 rfl) ?_
      refine lv_if_lt (tgt := 37) hx hb d_X_leastAfter_28 (by decide) (fun c28 => ?_) (fun c28 => ?_)
      · refine lv_aload_n hx hb d_X_leastAfter_37 rfl (lv_at hl 1 rfl) ?_
        refine lv_iload hx hb d_X_leastAfter_38 (lv_at hl 0 rfl) ?_
        refine rd_V (As := [.int (nI (cl i))]) (rest := []) ⟨hx, hb, hml, hown, hts⟩ (c_X_isLeast l (cl i) hn (Nat.lt_trans (hcl i) (by decide)) hcc hcl) (cwV 1 hts g_X_125 rfl rfl rfl (by decide +kernel) ⟨Nat.le_of_ble_eq_true rfl, Nat.le_of_ble_eq_true rfl⟩) hK hP 0 rfl rfl rfl hl.1 rfl (Nat.le_of_ble_eq_true rfl) d_X_leastAfter_40 ⟨Nat.zero_le _, Nat.zero_le _⟩ ?_
        refine lv_if_eq (tgt := 49) hx hb d_X_leastAfter_43 (by decide) (fun c43 => ?_) (fun c43 => ?_)
        · refine lv_iinc (v := (nI (i + 1))) (lv' := [(3, .int (nI (i + 1))), (4, .int (nI (cl i))), (0, .ref (h 0)), (1, .int (oI la)), (2, .int (oI x))]) hx hb d_X_leastAfter_49 hl (k := 4) rfl (nI_1 i) (by decide) rfl (fun ls hl => ?_)
          refine lv_goto (tgt := 5) hx hb d_X_leastAfter_52 (by decide) ?_
          exact ih hlt x ls (by show _ = lsA (isLX n cl cc) cl la (i + 1); rw [lsA, if_neg (fun q => by rw [bI_0.mp c43] at q; exact absurd q.2.2 (by decide))]; exact hI) (lv_sub hl [2, 3, 4, 0] rfl)
        · refine lv_iload hx hb d_X_leastAfter_46 (lv_at hl 0 rfl) ?_
          refine rd_top (z := oI (some (cl i))) (rfl) ?_
          refine lv_istore_n (lv' := [(2, .int (oI (some (cl i)))), (4, .int (nI (cl i))), (0, .ref (h 0)), (1, .int (oI la)), (3, .int (nI i))]) hx hb d_X_leastAfter_48 rfl hl (by decide) rfl (fun ls hl => ?_)
          refine lv_iinc (v := (nI (i + 1))) (lv' := [(3, .int (nI (i + 1))), (2, .int (oI (some (cl i)))), (4, .int (nI (cl i))), (0, .ref (h 0)), (1, .int (oI la))]) hx hb d_X_leastAfter_49 hl (k := 4) rfl (nI_1 i) (by decide) rfl (fun ls hl => ?_)
          refine lv_goto (tgt := 5) hx hb d_X_leastAfter_52 (by decide) ?_
          exact ih hlt (some (cl i)) ls (by show _ = lsA (isLX n cl cc) cl la (i + 1); rw [lsA, if_pos ⟨Classical.byContradiction fun q => c24 ((oi_1 hla (Nat.lt_trans (hcl i) (by decide))).mpr q), (fun z hz => by rw [← hI, (oi_neg (fun z hz => Nat.lt_trans (lsA_lt hcl i z (hI ▸ hz)) (by decide))).mp c28] at hz; cases hz), show isLX n cl cc (cl i) = true by cases hq : isLX n cl cc (cl i); exact absurd (bI_0.mpr hq) c43; rfl⟩]) (lv_sub hl [3, 4, 1, 0] rfl)
      · refine lv_iload hx hb d_X_leastAfter_31 (lv_at hl 0 rfl) ?_
        refine lv_iload_n hx hb d_X_leastAfter_33 rfl (lv_at hl 3 rfl) ?_
        refine lv_icmp_ge (tgt := 49) hx hb d_X_leastAfter_34 (by decide) (fun c34 => ?_) (fun c34 => ?_)
        · refine lv_iinc (v := (nI (i + 1))) (lv' := [(3, .int (nI (i + 1))), (4, .int (nI (cl i))), (0, .ref (h 0)), (1, .int (oI la)), (2, .int (oI x))]) hx hb d_X_leastAfter_49 hl (k := 4) rfl (nI_1 i) (by decide) rfl (fun ls hl => ?_)
          refine lv_goto (tgt := 5) hx hb d_X_leastAfter_52 (by decide) ?_
          exact ih hlt x ls (by show _ = lsA (isLX n cl cc) cl la (i + 1); rw [lsA, if_neg (fun q => (oi_2 (fun z hz => Nat.lt_trans (lsA_lt hcl i z (hI ▸ hz)) (by decide)) (Nat.lt_trans (hcl i) (by decide)) c28).mp c34 (by rw [hI]; exact q.2.1))]; exact hI) (lv_sub hl [2, 3, 4, 0] rfl)
        · refine lv_aload_n hx hb d_X_leastAfter_37 rfl (lv_at hl 1 rfl) ?_
          refine lv_iload hx hb d_X_leastAfter_38 (lv_at hl 0 rfl) ?_
          refine rd_V (As := [.int (nI (cl i))]) (rest := []) ⟨hx, hb, hml, hown, hts⟩ (c_X_isLeast l (cl i) hn (Nat.lt_trans (hcl i) (by decide)) hcc hcl) (cwV 1 hts g_X_125 rfl rfl rfl (by decide +kernel) ⟨Nat.le_of_ble_eq_true rfl, Nat.le_of_ble_eq_true rfl⟩) hK hP 0 rfl rfl rfl hl.1 rfl (Nat.le_of_ble_eq_true rfl) d_X_leastAfter_40 ⟨Nat.zero_le _, Nat.zero_le _⟩ ?_
          refine lv_if_eq (tgt := 49) hx hb d_X_leastAfter_43 (by decide) (fun c43 => ?_) (fun c43 => ?_)
          · refine lv_iinc (v := (nI (i + 1))) (lv' := [(3, .int (nI (i + 1))), (4, .int (nI (cl i))), (0, .ref (h 0)), (1, .int (oI la)), (2, .int (oI x))]) hx hb d_X_leastAfter_49 hl (k := 4) rfl (nI_1 i) (by decide) rfl (fun ls hl => ?_)
            refine lv_goto (tgt := 5) hx hb d_X_leastAfter_52 (by decide) ?_
            exact ih hlt x ls (by show _ = lsA (isLX n cl cc) cl la (i + 1); rw [lsA, if_neg (fun q => by rw [bI_0.mp c43] at q; exact absurd q.2.2 (by decide))]; exact hI) (lv_sub hl [2, 3, 4, 0] rfl)
          · refine lv_iload hx hb d_X_leastAfter_46 (lv_at hl 0 rfl) ?_
            refine rd_top (z := oI (some (cl i))) (rfl) ?_
            refine lv_istore_n (lv' := [(2, .int (oI (some (cl i)))), (4, .int (nI (cl i))), (0, .ref (h 0)), (1, .int (oI la)), (3, .int (nI i))]) hx hb d_X_leastAfter_48 rfl hl (by decide) rfl (fun ls hl => ?_)
            refine lv_iinc (v := (nI (i + 1))) (lv' := [(3, .int (nI (i + 1))), (2, .int (oI (some (cl i)))), (4, .int (nI (cl i))), (0, .ref (h 0)), (1, .int (oI la))]) hx hb d_X_leastAfter_49 hl (k := 4) rfl (nI_1 i) (by decide) rfl (fun ls hl => ?_)
            refine lv_goto (tgt := 5) hx hb d_X_leastAfter_52 (by decide) ?_
            exact ih hlt (some (cl i)) ls (by show _ = lsA (isLX n cl cc) cl la (i + 1); rw [lsA, if_pos ⟨Classical.byContradiction fun q => c24 ((oi_1 hla (Nat.lt_trans (hcl i) (by decide))).mpr q), Classical.byContradiction fun q => c34 ((oi_2 (fun z hz => Nat.lt_trans (lsA_lt hcl i z (hI ▸ hz)) (by decide)) (Nat.lt_trans (hcl i) (by decide)) c28).mpr (by rw [hI]; exact q)), show isLX n cl cc (cl i) = true by cases hq : isLX n cl cc (cl i); exact absurd (bI_0.mpr hq) c43; rfl⟩]) (lv_sub hl [3, 4, 1, 0] rfl)
set_option maxHeartbeats 4000000 in
set_option maxRecDepth 100000 in
theorem c_X_least (l : Launch) (x : Int32) (hn : n ≤ 11) (hcc : cc ≤ 40) (hcl : ∀ j, cl j < 2048) : Met l y_X_least w_X_least (k2_rm 4 88) (rd_Pc D clX (wX h cI cZ n bt rk wt cl cc su sa sc od fr cg co rp rc) [(cI, .int), (cZ, .boolean)] [.ref (h 0), .int x]) (k2_QcV (.int (leaX n cl cc x))) 0 0 (fun _ => False) := by
  refine rd_met (by decide) rfl (Nat.le_of_ble_eq_true rfl) rfl ?_
  intro p e s m below meth c ls hx hb hr hml hown hts hlocks hP hK hl
  have hts : ∀ w ∈ tbl, w.before _ s = true := fun w h => hts w (List.mem_cons_of_mem _ h)
  have hown : s.vm.findClass RX = some m.cls := hown
  have hl : lv_has ls 4 [(0, .ref (h 0)), (1, .int x)] := hl
  refine lv_iload_n hx hb d_X_least_0 rfl (lv_at hl 1 rfl) ?_
  refine lv_if_lt (tgt := 12) hx hb d_X_least_1 (by decide) (fun c1 => ?_) (fun c1 => ?_)
  · refine lv_bipush (v := (-2)) hx hb d_X_least_12 (by decide) ?_
    exact rd_iret hx hb hr hlocks d_X_least_14 (by rw [leaX, if_pos (Or.inl c1)])
  · refine lv_iload_n hx hb d_X_least_4 rfl (lv_at hl 1 rfl) ?_
    refine lv_aload_n hx hb d_X_least_5 rfl (lv_at hl 0 rfl) ?_
    refine va_get (D := D) (ci := 0) (v := .int (nI cc)) (C := RX) (T := TX) (N := 15) hx hb hts inX hown hK hP 0 rfl rfl 5 (by decide) (hts _ f_X_26) (fun _ h9 => h9) rfl d_X_least_6 ?_
    refine lv_icmp_lt (tgt := 15) hx hb d_X_least_9 (by decide) (fun c9 => ?_) (fun c9 => ?_)
    · obtain ⟨r, hr1, hr2⟩ : ∃ r : Nat, r < cc ∧ x = nI r := by
        obtain ⟨j, hj, e⟩ := nI_of c1
        exact ⟨j, (nI_ltI hj (by omega)).mp (by rw [← e]; exact c9), e⟩
      subst hr2
      have hv : leaX n cl cc (nI r) = oI (lsR (isLX n cl cc) cl cc (r + 1) none) := by rw [leaX, if_neg (fun q => q.elim c1 (fun q => q c9)), nI_clamp (by omega)]
      refine lv_bipush (v := (-2)) hx hb d_X_least_15 (by decide) ?_
      refine rd_top (z := oI none) (rfl) ?_
      refine lv_istore_n (lv' := [(2, .int (oI none)), (0, .ref (h 0)), (1, .int (nI r))]) hx hb d_X_least_17 rfl hl (by decide) rfl (fun ls hl => ?_)
      refine lv_iconst (v := 0) hx hb d_X_least_18 (by decide) ?_
      refine lv_istore_n (lv' := [(3, .int 0), (2, .int (oI none)), (0, .ref (h 0)), (1, .int (nI r))]) hx hb d_X_least_19 rfl hl (by decide) rfl (fun ls hl => ?_)
      refine rd_loop (nL := 4) (σ := Option Nat) (r + 1) (fun i x => [(0, .ref (h 0)), (1, .int (nI r)), (2, .int (oI x)), (3, .int (nI i))]) (fun i x => (∀ z, x = some z → z < 2 ^ 31) ∧ lsR (isLX n cl cc) cl cc (r + 1) none = lsR (isLX n cl cc) cl cc (r + 1 - i) x) ?_ 0 none ls (Nat.zero_le _) (⟨(fun z hz => by cases hz), rfl⟩) (lv_sub hl [2, 3, 1, 0] rfl)
      intro i x ls hi hI hl ih
      obtain ⟨hxb, hI⟩ : (∀ z, x = some z → z < 2 ^ 31) ∧ lsR (isLX n cl cc) cl cc (r + 1) none = lsR (isLX n cl cc) cl cc (r + 1 - i) x := hI
      have hl : lv_has ls 4 [(0, .ref (h 0)), (1, .int (nI r)), (2, .int (oI x)), (3, .int (nI i))] := hl
      refine lv_iload_n hx hb d_X_least_20 rfl (lv_at hl 3 rfl) ?_
      refine lv_iload_n hx hb d_X_least_21 rfl (lv_at hl 1 rfl) ?_
      refine lv_icmp_gt (tgt := 44) hx hb d_X_least_22 (by decide) (fun c22 => ?_) (fun c22 => ?_)
      · have hN : i = r + 1 := by have := (nI_ltI (by omega) (by omega)).mp c22; omega
        refine lv_iload_n hx hb d_X_least_44 rfl (lv_at hl 2 rfl) ?_
        exact rd_iret hx hb hr hlocks d_X_least_45 (by rw [hv, hI, hN, Nat.sub_self]; rfl)
      · have hlt : i < r + 1 := by rcases Nat.lt_or_ge i (r + 1) with q | q; exact q; exact absurd ((nI_ltI (by omega) (by omega)).mpr (by omega)) c22
        refine lv_aload_n hx hb d_X_least_25 rfl (lv_at hl 0 rfl) ?_
        refine lv_iload_n hx hb d_X_least_26 rfl (lv_at hl 2 rfl) ?_
        refine rd_V (As := [.int (oI x)]) (rest := []) ⟨hx, hb, hml, hown, hts⟩ (c_X_leastAfter l x hxb hn hcc hcl) (cwV 1 hts g_X_102 rfl rfl rfl (by decide +kernel) ⟨Nat.le_of_ble_eq_true rfl, Nat.le_of_ble_eq_true rfl⟩) hK hP 0 rfl rfl rfl hl.1 rfl (Nat.le_of_ble_eq_true rfl) d_X_least_27 ⟨Nat.zero_le _, Nat.zero_le _⟩ ?_
        refine lv_istore_n (lv' := [(2, .int (oI (lsA (isLX n cl cc) cl x cc))), (0, .ref (h 0)), (1, .int (nI r)), (3, .int (nI i))]) hx hb d_X_least_30 rfl hl (by decide) rfl (fun ls hl => ?_)
        refine lv_iload_n hx hb d_X_least_31 rfl (lv_at hl 0 rfl) ?_
        refine lv_if_ge (tgt := 38) hx hb d_X_least_32 (by decide) (fun c32 => ?_) (fun c32 => ?_)
        · refine lv_iinc (v := (nI (i + 1))) (lv' := [(3, .int (nI (i + 1))), (2, .int (oI (lsA (isLX n cl cc) cl x cc))), (0, .ref (h 0)), (1, .int (nI r))]) hx hb d_X_least_38 hl (k := 3) rfl (nI_1 i) (by decide) rfl (fun ls hl => ?_)
          refine lv_goto (tgt := 20) hx hb d_X_least_41 (by decide) ?_
          exact ih hlt (lsA (isLX n cl cc) cl x cc) ls (⟨fun z hz => Nat.lt_trans (lsA_lt hcl cc z hz) (by decide), by rw [hI, show r + 1 - i = (r + 1 - (i + 1)) + 1 by omega, lsR]; cases hq : lsA (isLX n cl cc) cl x cc with | none => rw [hq] at c32; exact absurd c32 (by decide) | some z => rfl⟩) (lv_sub hl [2, 3, 1, 0] rfl)
        · refine lv_bipush (v := (-2)) hx hb d_X_least_35 (by decide) ?_
          exact rd_iret hx hb hr hlocks d_X_least_37 (by rw [hv, hI, show r + 1 - i = (r + 1 - (i + 1)) + 1 by omega, lsR]; cases hq : lsA (isLX n cl cc) cl x cc with | none => rfl | some z => rw [hq] at c32; exact absurd (nI_pos' (Nat.lt_trans (lsA_lt hcl cc z hq) (by decide))) c32)
    · refine lv_bipush (v := (-2)) hx hb d_X_least_12 (by decide) ?_
      exact rd_iret hx hb hr hlocks d_X_least_14 (by rw [leaX, if_pos (Or.inr c9)])
set_option maxHeartbeats 4000000 in
set_option maxRecDepth 100000 in
theorem c_X_size (l : Launch)  : Met l y_X_size w_X_size (k2_rm 0 0) (rd_Pc D clX (wX h cI cZ n bt rk wt cl cc su sa sc od fr cg co rp rc) [(cI, .int), (cZ, .boolean)] [.ref (h 0)]) (k2_QcV (.int (nI n))) 0 0 (fun _ => False) := by
  refine rd_met (by decide) rfl (Nat.le_of_ble_eq_true rfl) rfl ?_
  intro p e s m below meth c ls hx hb hr hml hown hts hlocks hP hK hl
  have hts : ∀ w ∈ tbl, w.before _ s = true := fun w h => hts w (List.mem_cons_of_mem _ h)
  have hown : s.vm.findClass RX = some m.cls := hown
  have hl : lv_has ls 1 [(0, .ref (h 0))] := hl
  refine lv_aload_n hx hb d_X_size_0 rfl (lv_at hl 0 rfl) ?_
  refine va_get (D := D) (ci := 0) (v := .int (nI n)) (C := RX) (T := TX) (N := 15) hx hb hts inX hown hK hP 0 rfl rfl 0 (by decide) (hts _ f_X_9) (fun _ h9 => h9) rfl d_X_size_1 ?_
  exact rd_iret hx hb hr hlocks d_X_size_4 (rfl)
end MX4
end
section
section MX5
variable {D : va_G} {h : Nat → Nat} {cI cZ : ClassId} {n bt : Nat} {rk wt cl : Nat → Nat} {cc : Nat} {su sa : Nat → Nat} {sc od : Nat} {fr : Bool} {cg : Nat → Bool} {co rp : Nat → Nat} {rc : Nat}
set_option maxHeartbeats 4000000 in
set_option maxRecDepth 100000 in
theorem c_X_markClashing (l : Launch) (sz : Nat) (hn : n ≤ 11) (hcc : cc ≤ 40) (hcl : ∀ j, cl j < 2048) : Met l y_X_markClashing w_X_markClashing (k2_rm 1 23) (wr_Pc D clX (wX h cI cZ n bt rk wt cl cc su sa sc od fr cg co rp rc) [(cI, .int), (cZ, .boolean)] sz [.ref (h 0)]) (wE_Q D clX (wX h cI cZ n bt rk wt cl cc su sa sc od fr cg co rp rc) (σ := Nat → Bool) (fun u => wX h cI cZ n bt rk wt cl cc su sa sc od fr u co rp rc) (fun _ => none) (fun u => ∀ S, S < 2 ^ n → u S = clS cl cc S) sz) 0 0 (va_A (wX h cI cZ n bt rk wt cl cc su sa sc od fr cg co rp rc) sz) := by
  refine wE_met (by decide) rfl (Nat.le_of_ble_eq_true rfl) rfl ?_
  intro p e s m below meth c ls hx hb hr hml hown hts hlocks hP hK hD hS hA hl
  have hts : ∀ w ∈ tbl, w.before _ s = true := fun w h => hts w (List.mem_cons_of_mem _ h)
  have hown : s.vm.findClass RX = some m.cls := hown
  have hl : lv_has ls 3 [(0, .ref (h 0))] := hl
  refine lv_aload_n hx hb d_X_markClashing_0 rfl (lv_at hl 0 rfl) ?_
  refine rd_V (As := []) (rest := []) ⟨hx, hb, hml, hown, hts⟩ (c_X_setCount l hn) (cwV 0 hts g_X_105 rfl rfl rfl (by decide +kernel) ⟨Nat.le_of_ble_eq_true rfl, Nat.le_of_ble_eq_true rfl⟩) hK hP 0 rfl rfl rfl hl.1 rfl (Nat.le_of_ble_eq_true rfl) d_X_markClashing_1 ⟨Nat.zero_le _, Nat.zero_le _⟩ ?_
  refine lv_istore_n (lv' := [(1, .int (nI (2 ^ n))), (0, .ref (h 0))]) hx hb d_X_markClashing_4 rfl hl (by decide) rfl (fun ls hl => ?_)
  have hb3 : 2 ^ n ≤ 2048 := bx_p2 hn
  refine lv_iconst (v := 0) hx hb d_X_markClashing_5 (by decide) ?_
  refine lv_istore_n (lv' := [(2, .int 0), (1, .int (nI (2 ^ n))), (0, .ref (h 0))]) hx hb d_X_markClashing_6 rfl hl (by decide) rfl (fun ls hl => ?_)
  refine wr_loop (nL := 3) (σ := Nat → Bool) (2 ^ n) (fun i x => [(0, .ref (h 0)), (1, .int (nI (2 ^ n))), (2, .int (nI i))]) (fun i x => wX h cI cZ n bt rk wt cl cc su sa sc od fr x co rp rc) (fun i x => ∀ S, S < i → x S = false) ?_ 0 cg ls _ _ (Nat.zero_le _) (fun S hS => absurd hS (Nat.not_lt_zero S)) (lv_sub hl [2, 1, 0] rfl) hP hD hS
  intro i x ls H locs hi hI hl hP hD hS ih
  have hI : ∀ S, S < i → x S = false := hI
  have hl : lv_has ls 3 [(0, .ref (h 0)), (1, .int (nI (2 ^ n))), (2, .int (nI i))] := hl
  have hP : va_P D clX (wX h cI cZ n bt rk wt cl cc su sa sc od fr x co rp rc) H := hP
  have hD : va_D _ (wX h cI cZ n bt rk wt cl cc su sa sc od fr x co rp rc) := hD
  refine lv_iload_n hx hb d_X_markClashing_7 rfl (lv_at hl 2 rfl) ?_
  refine lv_iload_n hx hb d_X_markClashing_8 rfl (lv_at hl 1 rfl) ?_
  refine lv_icmp_ge (tgt := 25) hx hb d_X_markClashing_9 (by decide) (fun c9 => ?_) (fun c9 => ?_)
  · have hN : i = 2 ^ n := lp_ge hi (by omega) c9
    refine lv_iconst (v := 0) hx hb d_X_markClashing_25 (by decide) ?_
    refine lv_istore_n (lv' := [(2, .int 0), (0, .ref (h 0)), (1, .int (nI (2 ^ n)))]) hx hb d_X_markClashing_26 rfl hl (by decide) rfl (fun ls hl => ?_)
    refine wr_loop (nL := 3) (σ := Nat → Bool) (cc) (fun i x => [(0, .ref (h 0)), (1, .int (nI (2 ^ n))), (2, .int (nI i))]) (fun i x => wX h cI cZ n bt rk wt cl cc su sa sc od fr x co rp rc) (fun i x => ∀ S, S < 2 ^ n → x S = anyB (fun j => decide (cl j = S))  i) ?_ 0 x ls _ _ (Nat.zero_le _) (fun S hS => hI S (by rw [hN]; exact hS)) (lv_sub hl [1, 2, 0] rfl) hP hD hS
    intro i x ls H locs hi hI hl hP hD hS ih
    have hI : ∀ S, S < 2 ^ n → x S = anyB (fun j => decide (cl j = S))  i := hI
    have hl : lv_has ls 3 [(0, .ref (h 0)), (1, .int (nI (2 ^ n))), (2, .int (nI i))] := hl
    have hP : va_P D clX (wX h cI cZ n bt rk wt cl cc su sa sc od fr x co rp rc) H := hP
    have hD : va_D _ (wX h cI cZ n bt rk wt cl cc su sa sc od fr x co rp rc) := hD
    refine lv_iload_n hx hb d_X_markClashing_27 rfl (lv_at hl 2 rfl) ?_
    refine lv_aload_n hx hb d_X_markClashing_28 rfl (lv_at hl 0 rfl) ?_
    refine va_get (D := D) (ci := 0) (v := .int (nI cc)) (C := RX) (T := TX) (N := 15) hx hb hts inX hown hK hP 0 rfl rfl 5 (by decide) (hts _ f_X_26) (fun _ h9 => h9) rfl d_X_markClashing_29 ?_
    refine lv_icmp_ge (tgt := 63) hx hb d_X_markClashing_32 (by decide) (fun c32 => ?_) (fun c32 => ?_)
    · have hN : i = cc := lp_ge hi (by omega) c32
      refine lv_iconst (v := 0) hx hb d_X_markClashing_63 (by decide) ?_
      refine lv_istore_n (lv' := [(2, .int 0), (0, .ref (h 0)), (1, .int (nI (2 ^ n)))]) hx hb d_X_markClashing_64 rfl hl (by decide) rfl (fun ls hl => ?_)
      refine wr_loop (nL := 3) (σ := Nat → Bool) (2 ^ n) (fun i x => [(0, .ref (h 0)), (1, .int (nI (2 ^ n))), (2, .int (nI i))]) (fun i x => wX h cI cZ n bt rk wt cl cc su sa sc od fr x co rp rc) (fun i x => ∀ S, S < 2 ^ n → x S = if S < i then clS cl cc S else anyB (fun j => decide (cl j = S))  cc) ?_ 0 x ls _ _ (Nat.zero_le _) (fun S hS => by rw [hI S hS, hN]; rfl) (lv_sub hl [1, 2, 0] rfl) hP hD hS
      intro i x ls H locs hi hI hl hP hD hS ih
      have hI : ∀ S, S < 2 ^ n → x S = if S < i then clS cl cc S else anyB (fun j => decide (cl j = S))  cc := hI
      have hl : lv_has ls 3 [(0, .ref (h 0)), (1, .int (nI (2 ^ n))), (2, .int (nI i))] := hl
      have hP : va_P D clX (wX h cI cZ n bt rk wt cl cc su sa sc od fr x co rp rc) H := hP
      have hD : va_D _ (wX h cI cZ n bt rk wt cl cc su sa sc od fr x co rp rc) := hD
      refine lv_iload_n hx hb d_X_markClashing_65 rfl (lv_at hl 2 rfl) ?_
      refine lv_iload_n hx hb d_X_markClashing_66 rfl (lv_at hl 1 rfl) ?_
      refine lv_icmp_ge (tgt := 96) hx hb d_X_markClashing_67 (by decide) (fun c67 => ?_) (fun c67 => ?_)
      · have hN : i = 2 ^ n := lp_ge hi (by omega) c67
        exact wE_vret x hx hb hr hlocks d_X_markClashing_96 hS hP (fun S hS2 => by rw [hI S hS2, if_pos (by rw [hN]; exact hS2)]) rfl
      · have hlt : i < 2 ^ n := lp_lt hi (by omega) c67
        refine lv_aload_n hx hb d_X_markClashing_70 rfl (lv_at hl 0 rfl) ?_
        refine va_get (D := D) (ci := 0) (v := .ref (h 6)) (C := RX) (T := TX) (N := 15) hx hb hts inX hown hK hP 0 rfl rfl 11 (by decide) (hts _ f_X_45) (fun _ h9 => h9) rfl d_X_markClashing_71 ?_
        refine lv_iload_n hx hb d_X_markClashing_74 rfl (lv_at hl 2 rfl) ?_
        refine va_zald hx hb hK hP 6 1 rfl rfl (vp_in_nI (show i < 2048 by omega) (by decide)) d_X_markClashing_75 ?_
        refine rd_top (z := bI (x i)) (ar_bI x (by omega)) ?_
        refine lv_if_ne (tgt := 90) hx hb d_X_markClashing_76 (by decide) (fun c76 => ?_) (fun c76 => ?_)
        · refine lv_iinc (v := (nI (i + 1))) (lv' := [(2, .int (nI (i + 1))), (0, .ref (h 0)), (1, .int (nI (2 ^ n)))]) hx hb d_X_markClashing_90 hl (k := 2) rfl (nI_1 i) (by decide) rfl (fun ls hl => ?_)
          refine lv_goto (tgt := 65) hx hb d_X_markClashing_93 (by decide) ?_
          exact ih hlt x ls _ _ (fun S hS => mk_1 hlt hI (show x i = true by cases hq : x i; exact absurd (bI_0.mpr hq) c76; rfl) S hS) (lv_sub hl [1, 2, 0] rfl) hP hD hS
        · refine lv_aload_n hx hb d_X_markClashing_79 rfl (lv_at hl 0 rfl) ?_
          refine va_get (D := D) (ci := 0) (v := .ref (h 6)) (C := RX) (T := TX) (N := 15) hx hb hts inX hown hK hP 0 rfl rfl 11 (by decide) (hts _ f_X_45) (fun _ h9 => h9) rfl d_X_markClashing_80 ?_
          refine lv_iload_n hx hb d_X_markClashing_83 rfl (lv_at hl 2 rfl) ?_
          refine lv_aload_n hx hb d_X_markClashing_84 rfl (lv_at hl 0 rfl) ?_
          refine lv_iload_n hx hb d_X_markClashing_85 rfl (lv_at hl 2 rfl) ?_
          refine rd_V (As := [.int (nI i)]) (rest := [.int (nI i), .ref (h 6)]) ⟨hx, hb, hml, hown, hts⟩ (c_X_hasClashingPart l i hn (by omega)) (cwV 1 hts g_X_137 rfl rfl rfl (by decide +kernel) ⟨Nat.le_of_ble_eq_true rfl, Nat.le_of_ble_eq_true rfl⟩) hK hP 0 rfl rfl rfl hl.1 rfl (Nat.le_of_ble_eq_true rfl) d_X_markClashing_86 ⟨Nat.zero_le _, Nat.zero_le _⟩ ?_
          refine va_zast hx hb hK hP hD hS 6 1 rfl rfl (vp_in_nI (show i < 2048 by omega) (by decide)) d_X_markClashing_89 (fun H locs hP hD hS => ?_)
          have hu : upd (fun j => bI (x j)) (nI i).toNatClampNeg (vp_nar .boolean (bI (anyB (fun s => i.testBit s && x (i ^^^ 2 ^ s)) n))) = fun j => bI ((va_up x i (anyB (fun s => i.testBit s && x (i ^^^ 2 ^ s)) n)) j) := by rw [nI_clamp (by omega)]; exact upd_bI x i _
          rw [hu] at hP hD
          have hP : va_P D clX (wX h cI cZ n bt rk wt cl cc su sa sc od fr (va_up x i (anyB (fun s => i.testBit s && x (i ^^^ 2 ^ s)) n)) co rp rc) H := hP
          have hD : va_D _ (wX h cI cZ n bt rk wt cl cc su sa sc od fr (va_up x i (anyB (fun s => i.testBit s && x (i ^^^ 2 ^ s)) n)) co rp rc) := hD
          refine lv_iinc (v := (nI (i + 1))) (lv' := [(2, .int (nI (i + 1))), (0, .ref (h 0)), (1, .int (nI (2 ^ n)))]) hx hb d_X_markClashing_90 hl (k := 2) rfl (nI_1 i) (by decide) rfl (fun ls hl => ?_)
          refine lv_goto (tgt := 65) hx hb d_X_markClashing_93 (by decide) ?_
          exact ih hlt (va_up x i (anyB (fun s => i.testBit s && x (i ^^^ 2 ^ s)) n)) ls _ _ (fun S hS => mk_2 hlt hI (bI_0.mp c76) S hS) (lv_sub hl [1, 2, 0] rfl) hP hD hS
    · have hlt : i < cc := lp_lt hi (by omega) c32
      refine lv_aload_n hx hb d_X_markClashing_35 rfl (lv_at hl 0 rfl) ?_
      refine va_get (D := D) (ci := 0) (v := .ref (h 3)) (C := RX) (T := TX) (N := 15) hx hb hts inX hown hK hP 0 rfl rfl 4 (by decide) (hts _ f_X_23) (fun _ h9 => h9) rfl d_X_markClashing_36 ?_
      refine lv_iload_n hx hb d_X_markClashing_39 rfl (lv_at hl 2 rfl) ?_
      refine va_iald hx hb hK hP 3 0 rfl rfl (vp_in_nI (show i < 40 by omega) (by decide)) d_X_markClashing_40 ?_
      refine rd_top (z := nI (cl i)) (ar_nI cl (by omega)) ?_
      refine lv_iload_n hx hb d_X_markClashing_41 rfl (lv_at hl 1 rfl) ?_
      refine lv_icmp_ge (tgt := 57) hx hb d_X_markClashing_42 (by decide) (fun c42 => ?_) (fun c42 => ?_)
      · have hc : ¬ cl i < 2 ^ n := fun q => (nI_ge q (by omega)) c42
        refine lv_iinc (v := (nI (i + 1))) (lv' := [(2, .int (nI (i + 1))), (0, .ref (h 0)), (1, .int (nI (2 ^ n)))]) hx hb d_X_markClashing_57 hl (k := 2) rfl (nI_1 i) (by decide) rfl (fun ls hl => ?_)
        refine lv_goto (tgt := 27) hx hb d_X_markClashing_60 (by decide) ?_
        exact ih hlt x ls _ _ (fun S hS => by rw [hI S hS, anyB, decide_eq_false (fun q => hc (by rw [q]; exact hS)), Bool.or_false]) (lv_sub hl [1, 2, 0] rfl) hP hD hS
      · have hc : cl i < 2 ^ n := (nI_ltI (by have := hcl i; omega) (by omega)).mp (Int32.not_le.mp c42)
        refine lv_aload_n hx hb d_X_markClashing_45 rfl (lv_at hl 0 rfl) ?_
        refine va_get (D := D) (ci := 0) (v := .ref (h 6)) (C := RX) (T := TX) (N := 15) hx hb hts inX hown hK hP 0 rfl rfl 11 (by decide) (hts _ f_X_45) (fun _ h9 => h9) rfl d_X_markClashing_46 ?_
        refine lv_aload_n hx hb d_X_markClashing_49 rfl (lv_at hl 0 rfl) ?_
        refine va_get (D := D) (ci := 0) (v := .ref (h 3)) (C := RX) (T := TX) (N := 15) hx hb hts inX hown hK hP 0 rfl rfl 4 (by decide) (hts _ f_X_23) (fun _ h9 => h9) rfl d_X_markClashing_50 ?_
        refine lv_iload_n hx hb d_X_markClashing_53 rfl (lv_at hl 2 rfl) ?_
        refine va_iald hx hb hK hP 3 0 rfl rfl (vp_in_nI (show i < 40 by omega) (by decide)) d_X_markClashing_54 ?_
        refine rd_top (z := nI (cl i)) (ar_nI cl (by omega)) ?_
        refine lv_iconst (v := 1) hx hb d_X_markClashing_55 (by decide) ?_
        refine va_zast hx hb hK hP hD hS 6 1 rfl rfl (vp_in_nI (hcl i) (by decide)) d_X_markClashing_56 (fun H locs hP hD hS => ?_)
        have hu : upd (fun j => bI (x j)) (nI (cl i)).toNatClampNeg (vp_nar .boolean 1) = fun j => bI ((va_up x (cl i) true) j) := by rw [nI_clamp (by have := hcl i; omega)]; exact upd_bI x (cl i) true
        rw [hu] at hP hD
        have hP : va_P D clX (wX h cI cZ n bt rk wt cl cc su sa sc od fr (va_up x (cl i) true) co rp rc) H := hP
        have hD : va_D _ (wX h cI cZ n bt rk wt cl cc su sa sc od fr (va_up x (cl i) true) co rp rc) := hD
        refine lv_iinc (v := (nI (i + 1))) (lv' := [(2, .int (nI (i + 1))), (0, .ref (h 0)), (1, .int (nI (2 ^ n)))]) hx hb d_X_markClashing_57 hl (k := 2) rfl (nI_1 i) (by decide) rfl (fun ls hl => ?_)
        refine lv_goto (tgt := 27) hx hb d_X_markClashing_60 (by decide) ?_
        exact ih hlt (va_up x (cl i) true) ls _ _ (fun S hS => by unfold va_up; split; (rename_i q; rw [anyB, decide_eq_true q.symm, Bool.or_true]); (rename_i q; rw [hI S hS, anyB, decide_eq_false (fun z => q z.symm), Bool.or_false])) (lv_sub hl [1, 2, 0] rfl) hP hD hS
  · have hlt : i < 2 ^ n := lp_lt hi (by omega) c9
    refine lv_aload_n hx hb d_X_markClashing_12 rfl (lv_at hl 0 rfl) ?_
    refine va_get (D := D) (ci := 0) (v := .ref (h 6)) (C := RX) (T := TX) (N := 15) hx hb hts inX hown hK hP 0 rfl rfl 11 (by decide) (hts _ f_X_45) (fun _ h9 => h9) rfl d_X_markClashing_13 ?_
    refine lv_iload_n hx hb d_X_markClashing_16 rfl (lv_at hl 2 rfl) ?_
    refine lv_iconst (v := 0) hx hb d_X_markClashing_17 (by decide) ?_
    refine va_zast hx hb hK hP hD hS 6 1 rfl rfl (vp_in_nI (show i < 2048 by omega) (by decide)) d_X_markClashing_18 (fun H locs hP hD hS => ?_)
    have hu : upd (fun j => bI (x j)) (nI i).toNatClampNeg (vp_nar .boolean 0) = fun j => bI ((va_up x i false) j) := by rw [nI_clamp (by omega)]; exact upd_bI x i false
    rw [hu] at hP hD
    have hP : va_P D clX (wX h cI cZ n bt rk wt cl cc su sa sc od fr (va_up x i false) co rp rc) H := hP
    have hD : va_D _ (wX h cI cZ n bt rk wt cl cc su sa sc od fr (va_up x i false) co rp rc) := hD
    refine lv_iinc (v := (nI (i + 1))) (lv' := [(2, .int (nI (i + 1))), (0, .ref (h 0)), (1, .int (nI (2 ^ n)))]) hx hb d_X_markClashing_19 hl (k := 2) rfl (nI_1 i) (by decide) rfl (fun ls hl => ?_)
    refine lv_goto (tgt := 7) hx hb d_X_markClashing_22 (by decide) ?_
    exact ih hlt (va_up x i false) ls _ _ (fun S hS => by unfold va_up; split; rfl; exact hI S (by omega)) (lv_sub hl [1, 2, 0] rfl) hP hD hS
set_option maxHeartbeats 4000000 in
set_option maxRecDepth 100000 in
theorem c_X_addRepair (l : Launch) (sz : Nat) (S : Nat) (hrc : rc < 462) : Met l y_X_addRepair w_X_addRepair (k2_rm 0 0) (wr_Pc D clX (wX h cI cZ n bt rk wt cl cc su sa sc od fr cg co rp rc) [(cI, .int), (cZ, .boolean)] sz [.ref (h 0), .int (nI S)]) (wr_Q D clX (wX h cI cZ n bt rk wt cl cc su sa sc od fr cg co rp rc) (wX h cI cZ n bt rk wt cl cc su sa sc od fr cg co (va_up rp rc S) (rc + 1)) sz (none)) 0 0 (va_A (wX h cI cZ n bt rk wt cl cc su sa sc od fr cg co rp rc) sz) := by
  refine wr_met (by decide) rfl (Nat.le_of_ble_eq_true rfl) rfl ?_
  intro p e s m below meth c ls hx hb hr hml hown hts hlocks hP hK hD hS hA hl
  have hts : ∀ w ∈ tbl, w.before _ s = true := fun w h => hts w (List.mem_cons_of_mem _ h)
  have hown : s.vm.findClass RX = some m.cls := hown
  have hl : lv_has ls 2 [(0, .ref (h 0)), (1, .int (nI S))] := hl
  refine lv_aload_n hx hb d_X_addRepair_0 rfl (lv_at hl 0 rfl) ?_
  refine va_get (D := D) (ci := 0) (v := .int (nI rc)) (C := RX) (T := TX) (N := 15) hx hb hts inX hown hK hP 0 rfl rfl 14 (by decide) (hts _ f_X_55) (fun _ h9 => h9) rfl d_X_addRepair_1 ?_
  refine lv_sipush (v := 462) hx hb d_X_addRepair_4 (by decide) ?_
  refine lv_icmp_ge (tgt := 30) hx hb d_X_addRepair_7 (by decide) (fun c7 => ?_) (fun c7 => ?_)
  · exact absurd c7 (nI_ge (b := 462) hrc (by decide))
  · refine lv_aload_n hx hb d_X_addRepair_10 rfl (lv_at hl 0 rfl) ?_
    refine va_get (D := D) (ci := 0) (v := .ref (h 8)) (C := RX) (T := TX) (N := 15) hx hb hts inX hown hK hP 0 rfl rfl 13 (by decide) (hts _ f_X_52) (fun _ h9 => h9) rfl d_X_addRepair_11 ?_
    refine lv_aload_n hx hb d_X_addRepair_14 rfl (lv_at hl 0 rfl) ?_
    refine va_get (D := D) (ci := 0) (v := .int (nI rc)) (C := RX) (T := TX) (N := 15) hx hb hts inX hown hK hP 0 rfl rfl 14 (by decide) (hts _ f_X_55) (fun _ h9 => h9) rfl d_X_addRepair_15 ?_
    refine lv_iload_n hx hb d_X_addRepair_18 rfl (lv_at hl 1 rfl) ?_
    refine va_iast hx hb hK hP hD hS 8 0 rfl rfl (vp_in_nI hrc (by decide)) d_X_addRepair_19 (fun H locs hP hD hS => ?_)
    have hu : upd (fun j => nI (rp j)) (nI rc).toNatClampNeg (nI S) = fun j => nI ((va_up rp rc S) j) := by rw [nI_clamp (by omega)]; exact upd_nI rp rc S
    rw [hu] at hP hD
    have hP : va_P D clX (wX h cI cZ n bt rk wt cl cc su sa sc od fr cg co (va_up rp rc S) rc) H := hP
    have hD : va_D _ (wX h cI cZ n bt rk wt cl cc su sa sc od fr cg co (va_up rp rc S) rc) := hD
    refine lv_aload_n hx hb d_X_addRepair_20 rfl (lv_at hl 0 rfl) ?_
    refine lv_dup hx hb d_X_addRepair_21 rfl ?_
    refine va_get (D := D) (ci := 0) (v := .int (nI rc)) (C := RX) (T := TX) (N := 15) hx hb hts inX hown hK hP 0 rfl rfl 14 (by decide) (hts _ f_X_55) (fun _ h9 => h9) rfl d_X_addRepair_22 ?_
    refine lv_iconst (v := 1) hx hb d_X_addRepair_25 (by decide) ?_
    refine lv_iadd hx hb d_X_addRepair_26 ?_
    refine rd_top (z := nI (rc + 1)) (nI_1 rc) ?_
    refine va_put (D := D) (ci := 0) (v := .int (nI (rc + 1))) (ty := .int) (C := RX) (T := TX) (N := 15) hx hb hts inX tyX tyX_ok nmX hown hK hP hD hS 0 rfl rfl 14 (by decide) (hts _ f_X_55) (fun _ h9 => h9) rfl (by decide +kernel) rfl rfl (Nat.le_of_ble_eq_true rfl) d_X_addRepair_27 (fun H locs hP hD hS => ?_)
    have hP : va_P D clX (wX h cI cZ n bt rk wt cl cc su sa sc od fr cg co (va_up rp rc S) (rc + 1)) H := hP
    have hD : va_D _ (wX h cI cZ n bt rk wt cl cc su sa sc od fr cg co (va_up rp rc S) (rc + 1)) := hD
    exact wr_vret hx hb hr hlocks d_X_addRepair_30 hS (hP)
end MX5
end
section
/-! the repairs -/
def kepX (bt : Nat) (cl : Nat → Nat) (cc S : Nat) : Bool := sp_sub bt S && !clS cl cc S
def isRep (n bt : Nat) (rk wt cl : Nat → Nat) (cc od S : Nat) : Bool := kepX bt cl cc S && !anyB (fun T => kepX bt cl cc T && betX n bt rk wt T S od) (2 ^ n)
def reps (n bt : Nat) (rk wt cl : Nat → Nat) (cc od : Nat) : List Nat := flt (isRep n bt rk wt cl cc od) (2 ^ n)
theorem anyB_congr {P Q : Nat → Bool} : ∀ {n : Nat}, (∀ i, i < n → P i = Q i) → anyB P n = anyB Q n
  | 0, _ => rfl
  | n + 1, h => by rw [anyB, anyB, anyB_congr (fun i hi => h i (by omega)), h n (by omega)]
theorem anyB_not {P : Nat → Bool} {n : Nat} : anyB P n = false ↔ ∀ i, i < n → P i = false := by
  constructor
  · intro h i hi
    cases hq : P i
    · rfl
    · rw [anyB_of hi hq] at h; cases h
  · intro h
    cases hq : anyB P n
    · rfl
    · obtain ⟨i, h1, h2⟩ := anyB_iff.mp hq
      rw [h i h1] at h2; cases h2
theorem hasM_iff {a b : Nat} : hasM a b = true ↔ a ≠ b ∧ sp_sub b a = true := by
  unfold hasM
  rw [Bool.and_eq_true, Bool.not_eq_true', decide_eq_false_iff_not]
theorem or_bit {S i j : Nat} : (S ||| 2 ^ i).testBit j = (S.testBit j || decide (i = j)) := by rw [Nat.testBit_or, Nat.testBit_two_pow]
theorem hmr_iff {f : Nat → Nat} {a b : Nat} : ∀ {k r : Nat}, hmr f a b k r = true ↔ ∃ q, q < k ∧ (∀ z, z < q → a &&& f (r + z) = b &&& f (r + z)) ∧ hasM (a &&& f (r + q)) (b &&& f (r + q)) = true
  | 0, r => by simp [hmr]
  | k + 1, r => by
    rw [hmr]
    split
    · rename_i he
      rw [hmr_iff]
      constructor
      · rintro ⟨q, h1, h2, h3⟩
        refine ⟨q + 1, by omega, fun z hz => ?_, by rw [show r + (q + 1) = r + 1 + q by omega]; exact h3⟩
        rcases Nat.decEq z 0 with h | h
        · have := h2 (z - 1) (by omega)
          rwa [show r + 1 + (z - 1) = r + z by omega] at this
        · rw [h]; exact he
      · rintro ⟨q, h1, h2, h3⟩
        rcases Nat.decEq q 0 with h | h
        · refine ⟨q - 1, by omega, fun z hz => ?_, by rw [show r + 1 + (q - 1) = r + q by omega]; exact h3⟩
          have := h2 (z + 1) (by omega)
          rwa [show r + (z + 1) = r + 1 + z by omega] at this
        · rw [h] at h3
          exact absurd he (hasM_iff.mp h3).1
    · rename_i he
      constructor
      · intro h
        exact ⟨0, by omega, fun z hz => by omega, h⟩
      · rintro ⟨q, h1, h2, h3⟩
        rcases Nat.decEq q 0 with h | h
        · exact absurd (h2 0 (by omega)) he
        · rw [h] at h3; exact h3
theorem and_bit {a b i : Nat} : (a &&& b).testBit i = (a.testBit i && b.testBit i) := Nat.testBit_and a b i
/-- two sets are alike on the bits of f -/
theorem and_eq {a b f : Nat} (h : ∀ i, f.testBit i = true → a.testBit i = b.testBit i) : a &&& f = b &&& f := by
  apply Nat.eq_of_testBit_eq
  intro i
  rw [and_bit, and_bit]
  cases hf : f.testBit i
  · rw [Bool.and_false, Bool.and_false]
  · rw [h i hf]
theorem eq_and {a b f i : Nat} (h : a &&& f = b &&& f) (hf : f.testBit i = true) : a.testBit i = b.testBit i := by
  have h1 : (a &&& f).testBit i = (b &&& f).testBit i := by rw [h]
  rwa [and_bit, and_bit, hf, Bool.and_true, Bool.and_true] at h1
theorem dfl_t {bt : Nat} {rk : Nat → Nat} {f t i n : Nat} : (dfl bt rk f t n).testBit i = true ↔ i < n ∧ bt.testBit i = false ∧ f ≤ rk i ∧ rk i ≤ t := by
  rw [dfl_bit, Bool.and_eq_true, Bool.and_eq_true, Bool.and_eq_true, decide_eq_true_eq, decide_eq_true_eq, decide_eq_true_eq, Bool.not_eq_true']
  exact ⟨fun h => ⟨h.1.1.1, h.1.1.2, h.1.2, h.2⟩, fun h => ⟨⟨⟨h.1, h.2.1⟩, h.2.2.1⟩, h.2.2.2⟩⟩
/-- a set that has all of another one, and more, and both all hard ones, is better by every order -/
theorem wor_mono {bt : Nat} {rk wt : Nat → Nat} {S T o : Nat} (h : sp_sub S T = true) : ∀ k, wor bt rk wt S o k ≤ wor bt rk wt T o k
  | 0 => Nat.le_refl _
  | k + 1 => by
    have h1 := wor_mono (bt := bt) (rk := rk) (wt := wt) (o := o) h k
    rw [wor, wor]
    cases hs : S.testBit k
    · rw [if_neg (fun q => by cases q.1)]; omega
    · rw [sub_iff.mp h k hs]; omega
theorem wor_more {bt : Nat} {rk wt : Nat → Nat} {S T o i : Nat} (hw : 1 ≤ wt i) (h : sp_sub S T = true) (hb : bt.testBit i = false) (hT : T.testBit i = true) (hS : S.testBit i = false) : ∀ k, i < k → wor bt rk wt S o k < wor bt rk wt T o k
  | 0, hk => absurd hk (Nat.not_lt_zero i)
  | k + 1, hk => by
    rcases Nat.decEq i k with q | q
    · have h1 := wor_more (rk := rk) (o := o) hw h hb hT hS k (by omega)
      rw [wor, wor]
      cases hs : S.testBit k
      · rw [if_neg (fun q => by cases q.1)]; omega
      · rw [sub_iff.mp h k hs]; omega
    · have h1 := wor_mono (bt := bt) (rk := rk) (wt := wt) (o := o) h k
      rw [wor, wor, ← q, hS, hT, hb, if_neg (fun q => by cases q.1), if_pos ⟨rfl, rfl⟩]
      rw [← q] at h1
      have h2 := hw
      have h3 : 0 < 2 ^ (4 * (7 - rk i)) := bx_pos _
      generalize 2 ^ (4 * (7 - rk i)) = z at h3 ⊢
      split <;> omega
theorem bet_more {n bt : Nat} {rk wt : Nat → Nat} {S T od : Nat} (hrk : ∀ j, rk j < 8) (hw : ∀ j, j < n → 1 ≤ wt j) (hT : T < 2 ^ n) (hb : sp_sub bt S = true) (h : sp_sub S T = true) (hne : S ≠ T) : betX n bt rk wt T S od = true := by
  obtain ⟨i, h1, h2⟩ := sub_more h hne
  have h3 : bt.testBit i = false := by
    cases hq : bt.testBit i
    · rfl
    · rw [sub_iff.mp hb i hq] at h2; cases h2
  have hi := bit_lt hT h1
  unfold betX
  split
  · exact hasM_iff.mpr ⟨fun q => hne q.symm, h⟩
  · split
    · obtain ⟨q, ⟨h4, h5⟩, h6⟩ := pk_least (fun r => r < 8 ∧ S &&& dfl bt rk r r n ≠ T &&& dfl bt rk r r n) ⟨rk i, hrk i, fun e => by
        have := eq_and e (i := i) (dfl_t.mpr ⟨hi, h3, Nat.le_refl _, Nat.le_refl _⟩)
        rw [h1, h2] at this; cases this⟩
      refine hmr_iff.mpr ⟨q, h4, fun z hz => ?_, hasM_iff.mpr ⟨fun e => h5 (by rw [Nat.zero_add] at e; exact e.symm), ?_⟩⟩
      · rw [Nat.zero_add]
        refine Classical.byContradiction fun e => h6 z hz ⟨by omega, fun e2 => e e2.symm⟩
      · refine sub_iff.mpr fun j hj => ?_
        rw [and_bit, Bool.and_eq_true] at hj ⊢
        exact ⟨sub_iff.mp h j hj.1, hj.2⟩
    · exact decide_eq_true (wor_more (hw i hi) h h3 h1 h2 n hi)
theorem rep_anti {n bt : Nat} {rk wt cl : Nat → Nat} {cc od S T : Nat} (hrk : ∀ j, rk j < 8) (hw : ∀ j, j < n → 1 ≤ wt j) (hT : T < 2 ^ n) (h1 : isRep n bt rk wt cl cc od S = true) (h2 : isRep n bt rk wt cl cc od T = true) (h : sp_sub S T = true) : S = T := by
  refine Classical.byContradiction fun hne => ?_
  unfold isRep at h1 h2
  rw [Bool.and_eq_true, Bool.not_eq_true'] at h1 h2
  have hk := h1.1
  unfold kepX at hk
  rw [Bool.and_eq_true] at hk
  have h3 := anyB_not.mp h1.2 T hT
  rw [h2.1, bet_more hrk hw hT hk.1 h hne] at h3
  cases h3
theorem flt_anti {P : Nat → Bool} {n k : Nat} (hn : n ≤ 11) (hk : k ≤ 2 ^ n) (h : ∀ S T, S < 2 ^ n → T < 2 ^ n → P S = true → P T = true → sp_sub S T = true → S = T) : (flt P k).length ≤ 462 := by
  refine sp_bound _ (flt_nodup P k) (fun a ha => ?_) (fun a ha b hb hs => ?_)
  · have := (flt_mem.mp ha).1
    have := bx_p2 hn
    omega
  · have h1 := flt_mem.mp ha
    have h2 := flt_mem.mp hb
    exact h a b (by omega) (by omega) h1.2 h2.2 hs
theorem rep_len {n bt : Nat} {rk wt cl : Nat → Nat} {cc od k : Nat} (hn : n ≤ 11) (hk : k ≤ 2 ^ n) (hrk : ∀ j, rk j < 8) (hw : ∀ j, j < n → 1 ≤ wt j) : (flt (isRep n bt rk wt cl cc od) k).length ≤ 462 :=
  flt_anti hn hk (fun _ _ _ hT h1 h2 h => rep_anti hrk hw hT h1 h2 h)
/-- orders 0 and 1, as the class tries them -/
def groX (n bt : Nat) (rk : Nat → Nat) (od : Nat) (cg : Nat → Bool) (S : Nat) : Bool := (sp_sub bt S && !cg S) && !anyB (fun i => !S.testBit i && !cg ((S &&& comX n bt rk od i) ||| 2 ^ i)) n
theorem gro_lt {n S i c : Nat} (hS : S < 2 ^ n) (hi : i < n) : (S &&& c) ||| 2 ^ i < 2 ^ n := Nat.or_lt_two_pow (Nat.lt_of_le_of_lt Nat.and_le_left hS) (Nat.pow_lt_pow_right (by decide) hi)
theorem gro_rep {n bt : Nat} {rk wt cl : Nat → Nat} {cc od : Nat} {cg : Nat → Bool} {S : Nat} (hrk : ∀ j, rk j < 8) (hod : od < 2) (hbt : bt < 2 ^ n) (hS : S < 2 ^ n) (hcg : ∀ T, T < 2 ^ n → cg T = clS cl cc T) : groX n bt rk od cg S = isRep n bt rk wt cl cc od S := by
  unfold groX isRep
  rw [hcg S hS]
  show (kepX bt cl cc S && _) = _
  cases hk : kepX bt cl cc S
  · rfl
  rw [Bool.true_and, Bool.true_and]
  congr 1
  have hk2 := hk
  unfold kepX at hk2
  rw [Bool.and_eq_true, Bool.not_eq_true'] at hk2
  obtain ⟨hb, hc⟩ := hk2
  rw [Bool.eq_iff_iff, anyB_iff, anyB_iff]
  constructor
  · rintro ⟨i, hi, h1⟩
    rw [Bool.and_eq_true, Bool.not_eq_true', Bool.not_eq_true'] at h1
    obtain ⟨h1, h2⟩ := h1
    have hU := gro_lt (c := comX n bt rk od i) hS hi
    rw [hcg _ hU] at h2
    have hbi : bt.testBit i = false := by
      cases hq : bt.testBit i
      · rfl
      · rw [sub_iff.mp hb i hq] at h1; cases h1
    have hbc : sp_sub bt (comX n bt rk od i) = true := by
      refine sub_iff.mpr fun j hj => ?_
      unfold comX
      split
      · rw [Nat.testBit_two_pow_sub_one]
        exact decide_eq_true (bit_lt hbt hj)
      · rw [Nat.testBit_or, hj]; rfl
    refine ⟨_, hU, ?_⟩
    rw [Bool.and_eq_true]
    refine ⟨?_, ?_⟩
    · unfold kepX
      rw [Bool.and_eq_true, Bool.not_eq_true']
      refine ⟨sub_iff.mpr fun j hj => ?_, h2⟩
      rw [or_bit, and_bit, sub_iff.mp hb j hj, sub_iff.mp hbc j hj]
      rfl
    · unfold betX
      split
      · rename_i h0
        rw [comX, if_pos h0]
        refine hasM_iff.mpr ⟨fun e => ?_, sub_iff.mpr fun j hj => ?_⟩
        · have h5 : ((S &&& (2 ^ n - 1)) ||| 2 ^ i).testBit i = S.testBit i := by rw [e]
          rw [or_bit, h1, decide_eq_true rfl, Bool.or_true] at h5
          cases h5
        · rw [or_bit, and_bit, hj, Nat.testBit_two_pow_sub_one, decide_eq_true (bit_lt hS hj)]
          rfl
      · rename_i h0
        rw [if_pos (show od = 1 by omega), comX, if_neg h0]
        refine hmr_iff.mpr ⟨rk i, hrk i, fun z hz => ?_, hasM_iff.mpr ⟨fun e => ?_, sub_iff.mpr fun j hj => ?_⟩⟩
        · refine and_eq fun j hj => ?_
          rw [Nat.zero_add] at hj
          have hj2 := dfl_t.mp hj
          rw [or_bit, and_bit, Nat.testBit_or, dfl_t.mpr ⟨hj2.1, hj2.2.1, Nat.zero_le _, by omega⟩, Bool.or_true, Bool.and_true, decide_eq_false (fun q => by rw [← q] at hj2; omega), Bool.or_false]
        · rw [Nat.zero_add] at e
          have h5 := eq_and e (i := i) (dfl_t.mpr ⟨hi, hbi, Nat.le_refl _, Nat.le_refl _⟩)
          rw [or_bit, h1, decide_eq_true rfl, Bool.or_true] at h5
          cases h5
        · rw [Nat.zero_add, and_bit, Bool.and_eq_true] at hj
          have hj2 := dfl_t.mp hj.2
          rw [Nat.zero_add, and_bit, or_bit, and_bit, Nat.testBit_or, hj.1, hj.2, dfl_t.mpr ⟨hj2.1, hj2.2.1, Nat.zero_le _, by omega⟩]
          simp
  · rintro ⟨T, hT, h1⟩
    rw [Bool.and_eq_true] at h1
    obtain ⟨h1, h2⟩ := h1
    unfold kepX at h1
    rw [Bool.and_eq_true, Bool.not_eq_true'] at h1
    obtain ⟨hbT, hcT⟩ := h1
    have fin : ∀ i, i < n → S.testBit i = false → sp_sub ((S &&& comX n bt rk od i) ||| 2 ^ i) T = true → ∃ i, i < n ∧ (!S.testBit i && !cg ((S &&& comX n bt rk od i) ||| 2 ^ i)) = true := by
      intro i hi h3 h4
      refine ⟨i, hi, ?_⟩
      rw [h3, hcg _ (gro_lt hS hi)]
      cases hq : clS cl cc ((S &&& comX n bt rk od i) ||| 2 ^ i)
      · rfl
      · rw [clS_mono h4 hq] at hcT; cases hcT
    unfold betX at h2
    split at h2
    · rename_i h0
      obtain ⟨h3, h4⟩ := hasM_iff.mp h2
      obtain ⟨i, h5, h6⟩ := sub_more h4 (fun q => h3 q.symm)
      refine fin i (bit_lt hT h5) h6 (sub_iff.mpr fun j hj => ?_)
      rw [or_bit, and_bit, Bool.or_eq_true, Bool.and_eq_true] at hj
      rcases hj with hj | hj
      · exact sub_iff.mp h4 j hj.1
      · rw [← of_decide_eq_true hj]; exact h5
    · rename_i h0
      rw [if_pos (show od = 1 by omega)] at h2
      obtain ⟨q, h3, h4, h5⟩ := hmr_iff.mp h2
      obtain ⟨h6, h7⟩ := hasM_iff.mp h5
      rw [Nat.zero_add] at h6 h7
      obtain ⟨i, h8, h9⟩ := sub_more h7 (fun z => h6 z.symm)
      rw [and_bit, Bool.and_eq_true] at h8
      have hi := dfl_t.mp h8.2
      rw [and_bit, h8.2, Bool.and_true] at h9
      refine fin i hi.1 h9 (sub_iff.mpr fun j hj => ?_)
      rw [or_bit, and_bit, Bool.or_eq_true, Bool.and_eq_true, comX, if_neg h0, Nat.testBit_or, Bool.or_eq_true] at hj
      rcases hj with ⟨hj, hj2 | hj2⟩ | hj
      · exact sub_iff.mp hbT j hj2
      · have hd := dfl_t.mp hj2
        rcases Nat.lt_or_ge (rk j) q with hq | hq
        · have h10 := h4 (rk j) hq
          rw [Nat.zero_add] at h10
          rw [eq_and h10 (i := j) (dfl_t.mpr ⟨hd.1, hd.2.1, Nat.le_refl _, Nat.le_refl _⟩)]
          exact hj
        · have h11 : (S &&& dfl bt rk q q n).testBit j = true := by
            rw [and_bit, hj, dfl_t.mpr ⟨hd.1, hd.2.1, hq, by omega⟩]; rfl
          have h12 := sub_iff.mp h7 j h11
          rw [and_bit, Bool.and_eq_true] at h12
          exact h12.1
      · rw [← of_decide_eq_true hj]; exact h8.1
end
section
/-! orders 2 and 3: the worthiest kept sets, as the class collects them -/
def wst (K : Nat → Bool) (w : Nat → Nat) : Nat → Option Nat × List Nat
  | 0 => (none, [])
  | i + 1 => if K i = true then (if (wst K w i).1 = some (w i) then ((wst K w i).1, (wst K w i).2 ++ [i]) else if (∀ v, (wst K w i).1 = some v → v < w i) then (some (w i), [i]) else wst K w i) else wst K w i
/-- what is known of it: the greatest worth so far, and the list of those that have it -/
theorem wst_inv {K : Nat → Bool} {w : Nat → Nat} : ∀ k, (∀ S, S < k → K S = true → ∃ v, (wst K w k).1 = some v ∧ w S ≤ v) ∧ (∀ v, (wst K w k).1 = some v → ∃ S, S < k ∧ K S = true ∧ w S = v) ∧ (wst K w k).2 = flt (fun S => K S && decide ((wst K w k).1 = some (w S))) k
  | 0 => ⟨fun S h => absurd h (Nat.not_lt_zero S), (fun v h => by cases h), rfl⟩
  | i + 1 => by
    obtain ⟨h1, h2, h3⟩ := wst_inv (K := K) (w := w) i
    rw [wst]
    by_cases hK : K i = true
    · rw [if_pos hK]
      by_cases he : (wst K w i).1 = some (w i)
      · rw [if_pos he]
        refine ⟨fun S hS hk => ?_, fun v hv => ?_, ?_⟩
        · rcases Nat.lt_or_ge S i with q | q
          · exact h1 S q hk
          · exact ⟨w i, he, by rw [show S = i by omega]; exact Nat.le_refl _⟩
        · obtain ⟨S, a, b, c⟩ := h2 v hv
          exact ⟨S, by omega, b, c⟩
        · rw [flt_t (by rw [hK, decide_eq_true he]; rfl), h3]
      · rw [if_neg he]
        by_cases hm : ∀ v, (wst K w i).1 = some v → v < w i
        · rw [if_pos hm]
          have hlt : ∀ S, S < i → K S = true → w S < w i := fun S hS hk => by
            obtain ⟨v, a, b⟩ := h1 S hS hk
            exact Nat.lt_of_le_of_lt b (hm v a)
          refine ⟨fun S hS hk => ⟨w i, rfl, ?_⟩, fun v hv => ⟨i, by omega, hK, Option.some.inj hv⟩, ?_⟩
          · rcases Nat.lt_or_ge S i with q | q
            · exact Nat.le_of_lt (hlt S q hk)
            · rw [show S = i by omega]; exact Nat.le_refl _
          · rw [flt_t (by rw [hK]; simp)]
            have h9 : flt (fun S => K S && decide (some (w i) = some (w S))) i = [] := by
              refine List.eq_nil_iff_forall_not_mem.mpr fun S hS => ?_
              obtain ⟨a, b⟩ := flt_mem.mp hS
              rw [Bool.and_eq_true] at b
              have := hlt S a b.1
              have := Option.some.inj (of_decide_eq_true b.2)
              omega
            show [i] = flt (fun S => K S && decide (some (w i) = some (w S))) i ++ [i]
            rw [h9]; rfl
        · rw [if_neg hm]
          refine ⟨fun S hS hk => ?_, fun v hv => ?_, ?_⟩
          · rcases Nat.lt_or_ge S i with q | q
            · exact h1 S q hk
            · have hx : ∃ v, (wst K w i).1 = some v ∧ ¬ v < w i := Classical.byContradiction fun z => hm fun v hv => Classical.byContradiction fun y => z ⟨v, hv, y⟩
              obtain ⟨v, a, b⟩ := hx
              exact ⟨v, a, by rw [show S = i by omega]; omega⟩
          · obtain ⟨S, a, b, c⟩ := h2 v hv
            exact ⟨S, by omega, b, c⟩
          · rw [flt_f (by rw [decide_eq_false he, Bool.and_false])]
            exact h3
    · rw [if_neg hK]
      have hK' : K i = false := by cases hq : K i; rfl; exact absurd hq hK
      refine ⟨fun S hS hk => ?_, fun v hv => ?_, ?_⟩
      · rcases Nat.lt_or_ge S i with q | q
        · exact h1 S q hk
        · rw [show S = i by omega] at hk; exact absurd hk hK
      · obtain ⟨S, a, b, c⟩ := h2 v hv
        exact ⟨S, by omega, b, c⟩
      · rw [flt_f (by rw [hK', Bool.false_and])]
        exact h3
theorem wst_len {n bt : Nat} {rk wt : Nat → Nat} {K : Nat → Bool} {o k : Nat} (hn : n ≤ 11) (hk : k ≤ 2 ^ n) (hw : ∀ j, j < n → 1 ≤ wt j) (hK : ∀ S, K S = true → sp_sub bt S = true) : (wst K (fun S => wor bt rk wt S o n) k).2.length ≤ 462 := by
  rw [(wst_inv k).2.2]
  refine flt_anti hn hk fun S T hS hT h1 h2 h => ?_
  rw [Bool.and_eq_true] at h1 h2
  refine Classical.byContradiction fun hne => ?_
  obtain ⟨i, h3, h4⟩ := sub_more h hne
  have hb : bt.testBit i = false := by
    cases hq : bt.testBit i
    · rfl
    · rw [sub_iff.mp (hK S h1.1) i hq] at h4; cases h4
  have h5 := wor_more (rk := rk) (o := o) (hw i (bit_lt hT h3)) h hb h3 h4 n (bit_lt hT h3)
  have h6 := (of_decide_eq_true h1.2).symm.trans (of_decide_eq_true h2.2)
  have h7 := Option.some.inj h6
  omega
theorem wst_rep {n bt : Nat} {rk wt cl : Nat → Nat} {cc od : Nat} (hod : 2 ≤ od) : (wst (kepX bt cl cc) (fun S => wor bt rk wt S od n) (2 ^ n)).2 = reps n bt rk wt cl cc od := by
  obtain ⟨h1, h2, h3⟩ := wst_inv (K := kepX bt cl cc) (w := fun S => wor bt rk wt S od n) (2 ^ n)
  rw [h3]
  refine flt_congr fun S hS => ?_
  unfold isRep
  cases hk : kepX bt cl cc S
  · rfl
  rw [Bool.true_and, Bool.true_and]
  have hb : ∀ T, betX n bt rk wt T S od = decide (wor bt rk wt S od n < wor bt rk wt T od n) := fun T => by
    unfold betX
    rw [if_neg (show ¬ od = 0 by omega), if_neg (show ¬ od = 1 by omega)]
  obtain ⟨v, h4, h5⟩ := h1 S hS hk
  rw [Bool.eq_iff_iff, Bool.not_eq_true', decide_eq_true_eq]
  constructor
  · intro h
    refine anyB_not.mpr fun T hT => ?_
    cases hkT : kepX bt cl cc T
    · rfl
    · rw [Bool.true_and, hb]
      obtain ⟨v2, h6, h7⟩ := h1 T hT hkT
      rw [h] at h6
      exact decide_eq_false (by have := Option.some.inj h6; omega)
  · intro h
    obtain ⟨T, h6, h7, h8⟩ := h2 v h4
    have h9 := anyB_not.mp h T h6
    rw [h7, Bool.true_and, hb] at h9
    have h10 := of_decide_eq_false h9
    rw [h4]
    have : wor bt rk wt T od n = v := h8
    exact congrArg some (by omega)
theorem wst_congr {K J : Nat → Bool} {w : Nat → Nat} : ∀ k, (∀ S, S < k → K S = J S) → wst K w k = wst J w k
  | 0, _ => rfl
  | i + 1, h => by rw [wst, wst, wst_congr i (fun S hS => h S (by omega)), h i (by omega)]
def mI (m : Option Nat) : Int64 := match m with
  | none => -1
  | some v => lN v
theorem mI_le {m : Option Nat} {a : Nat} (ha : a < 2 ^ 62) (hm : ∀ v, m = some v → v < 2 ^ 62) : lg_cmp (lN a) (mI m) ≤ 0 ↔ ¬ ∀ v, m = some v → v < a := by
  rw [lg_cmp_le]
  cases m with
  | none =>
    refine ⟨fun h => ?_, fun h => absurd (fun v hv => by cases hv) h⟩
    have h1 : (lN a).toInt ≤ (-1 : Int64).toInt := Int64.le_iff_toInt_le.mp h
    rw [pk_lT (by omega), show (-1 : Int64).toInt = -1 from rfl] at h1
    omega
  | some v =>
    have h1 := hm v rfl
    show lN a ≤ lN v ↔ _
    rw [pk_lLE (by omega) (by omega)]
    exact ⟨fun h q => absurd (q v rfl) (by omega), fun h => Nat.le_of_not_lt (fun q => h (fun z hz => by cases hz; exact q))⟩
theorem mI_eq {m : Option Nat} {a : Nat} (ha : a < 2 ^ 62) (hm : ∀ v, m = some v → v < 2 ^ 62) : lg_cmp (lN a) (mI m) = 0 ↔ m = some a := by
  rw [lg_cmp_eq]
  cases m with
  | none =>
    refine ⟨fun h => ?_, fun h => by cases h⟩
    have h1 : (lN a).toInt = (-1 : Int64).toInt := congrArg Int64.toInt h
    rw [pk_lT (by omega), show (-1 : Int64).toInt = -1 from rfl] at h1
    omega
  | some v =>
    have h1 := hm v rfl
    show lN a = lN v ↔ _
    rw [pk_lEQ (by omega) (by omega)]
    exact ⟨fun h => by rw [h], fun h => (Option.some.inj h).symm⟩
theorem wst_lt {K : Nat → Bool} {w : Nat → Nat} {B : Nat} (h : ∀ S, w S < B) (k v : Nat) (hv : (wst K w k).1 = some v) : v < B := by
  obtain ⟨S, -, -, e⟩ := (wst_inv k).2.1 v hv
  rw [← e]
  exact h S
end
section
section MX6
variable {D : va_G} {h : Nat → Nat} {cI cZ : ClassId} {n bt : Nat} {rk wt cl : Nat → Nat} {cc : Nat} {su sa : Nat → Nat} {sc od : Nat} {fr : Bool} {cg : Nat → Bool} {co rp : Nat → Nat} {rc : Nat}
set_option maxHeartbeats 4000000 in
set_option maxRecDepth 100000 in
theorem c_X_collectFullGrown (l : Launch) (sz : Nat) (hn : n ≤ 11) (hbt : bt < 2 ^ 31) (hrk : ∀ j, rk j < 8) (ho : od < 4) (hrc0 : rc = 0) (hB : ∀ k, k ≤ 2 ^ n → (flt (groX n bt rk od cg) k).length ≤ 462) : Met l y_X_collectFullGrown w_X_collectFullGrown (k2_rm 3 66) (wr_Pc D clX (wX h cI cZ n bt rk wt cl cc su sa sc od fr cg co rp rc) [(cI, .int), (cZ, .boolean)] sz [.ref (h 0)]) (wE_Q D clX (wX h cI cZ n bt rk wt cl cc su sa sc od fr cg co rp rc) (σ := (Nat → Nat) × (Nat → Nat)) (fun u => wX h cI cZ n bt rk wt cl cc su sa sc od fr cg u.1 u.2 ((flt (groX n bt rk od cg) (2 ^ n)).length)) (fun _ => none) (fun u => isArr u.2 (flt (groX n bt rk od cg) (2 ^ n))) sz) 0 0 (va_A (wX h cI cZ n bt rk wt cl cc su sa sc od fr cg co rp rc) sz) := by
  refine wE_met (by decide) rfl (Nat.le_of_ble_eq_true rfl) rfl ?_
  intro p e s m below meth c ls hx hb hr hml hown hts hlocks hP hK hD hS hA hl
  have hts : ∀ w ∈ tbl, w.before _ s = true := fun w h => hts w (List.mem_cons_of_mem _ h)
  have hown : s.vm.findClass RX = some m.cls := hown
  have hl : lv_has ls 3 [(0, .ref (h 0))] := hl
  have hb3 : 2 ^ n ≤ 2048 := bx_p2 hn
  subst hrc0
  refine lv_iconst (v := 0) hx hb d_X_collectFullGrown_0 (by decide) ?_
  refine lv_istore_n (lv' := [(1, .int 0), (0, .ref (h 0))]) hx hb d_X_collectFullGrown_1 rfl hl (by decide) rfl (fun ls hl => ?_)
  refine wr_loop (nL := 3) (σ := Nat → Nat) (n) (fun i x1 => [(0, .ref (h 0)), (1, .int (nI i))]) (fun i x1 => wX h cI cZ n bt rk wt cl cc su sa sc od fr cg x1 rp 0) (fun i x1 => ∀ j, j < i → x1 j = comX n bt rk od j) ?_ 0 co ls _ _ (Nat.zero_le _) (fun j hj => absurd hj (Nat.not_lt_zero j)) (lv_sub hl [1, 0] rfl) hP hD hS
  intro i x1 ls H locs hi hI hl hP hD hS ih
  have hI : ∀ j, j < i → x1 j = comX n bt rk od j := hI
  have hl : lv_has ls 3 [(0, .ref (h 0)), (1, .int (nI i))] := hl
  have hP : va_P D clX (wX h cI cZ n bt rk wt cl cc su sa sc od fr cg x1 rp 0) H := hP
  have hD : va_D _ (wX h cI cZ n bt rk wt cl cc su sa sc od fr cg x1 rp 0) := hD
  refine lv_iload_n hx hb d_X_collectFullGrown_2 rfl (lv_at hl 1 rfl) ?_
  refine lv_aload_n hx hb d_X_collectFullGrown_3 rfl (lv_at hl 0 rfl) ?_
  refine va_get (D := D) (ci := 0) (v := .int (nI n)) (C := RX) (T := TX) (N := 15) hx hb hts inX hown hK hP 0 rfl rfl 0 (by decide) (hts _ f_X_9) (fun _ h9 => h9) rfl d_X_collectFullGrown_4 ?_
  refine lv_icmp_ge (tgt := 27) hx hb d_X_collectFullGrown_7 (by decide) (fun c7 => ?_) (fun c7 => ?_)
  · have hN : i = n := lp_ge hi (by omega) c7
    have hco : ∀ j, j < n → x1 j = comX n bt rk od j := fun j hj => hI j (by rw [hN]; exact hj)
    have hgr : ∀ S, anyB (fun s => !S.testBit s && !cg ((S &&& x1 s) ||| 2 ^ s)) n = anyB (fun s => !S.testBit s && !cg ((S &&& comX n bt rk od s) ||| 2 ^ s)) n := fun S => anyB_congr (fun s hs => by rw [hco s hs])
    refine lv_aload_n hx hb d_X_collectFullGrown_27 rfl (lv_at hl 0 rfl) ?_
    refine rd_V (As := []) (rest := []) ⟨hx, hb, hml, hown, hts⟩ (c_X_setCount l hn) (cwV 0 hts g_X_105 rfl rfl rfl (by decide +kernel) ⟨Nat.le_of_ble_eq_true rfl, Nat.le_of_ble_eq_true rfl⟩) hK hP 0 rfl rfl rfl hl.1 rfl (Nat.le_of_ble_eq_true rfl) d_X_collectFullGrown_28 ⟨Nat.zero_le _, Nat.zero_le _⟩ ?_
    refine lv_istore_n (lv' := [(1, .int (nI (2 ^ n))), (0, .ref (h 0))]) hx hb d_X_collectFullGrown_31 rfl hl (by decide) rfl (fun ls hl => ?_)
    refine lv_iconst (v := 0) hx hb d_X_collectFullGrown_32 (by decide) ?_
    refine lv_istore_n (lv' := [(2, .int 0), (1, .int (nI (2 ^ n))), (0, .ref (h 0))]) hx hb d_X_collectFullGrown_33 rfl hl (by decide) rfl (fun ls hl => ?_)
    refine wr_loop (nL := 3) (σ := Nat → Nat) (2 ^ n) (fun i x => [(0, .ref (h 0)), (1, .int (nI (2 ^ n))), (2, .int (nI i))]) (fun i x => wX h cI cZ n bt rk wt cl cc su sa sc od fr cg x1 x ((flt (groX n bt rk od cg) i).length)) (fun i x => isArr x (flt (groX n bt rk od cg) i)) ?_ 0 rp ls _ _ (Nat.zero_le _) (isArr_nil rp) (lv_sub hl [2, 1, 0] rfl) hP hD hS
    intro i x ls H locs hi hI hl hP hD hS ih
    have hI : isArr x (flt (groX n bt rk od cg) i) := hI
    have hl : lv_has ls 3 [(0, .ref (h 0)), (1, .int (nI (2 ^ n))), (2, .int (nI i))] := hl
    have hP : va_P D clX (wX h cI cZ n bt rk wt cl cc su sa sc od fr cg x1 x ((flt (groX n bt rk od cg) i).length)) H := hP
    have hD : va_D _ (wX h cI cZ n bt rk wt cl cc su sa sc od fr cg x1 x ((flt (groX n bt rk od cg) i).length)) := hD
    refine lv_iload_n hx hb d_X_collectFullGrown_34 rfl (lv_at hl 2 rfl) ?_
    refine lv_iload_n hx hb d_X_collectFullGrown_35 rfl (lv_at hl 1 rfl) ?_
    refine lv_icmp_ge (tgt := 66) hx hb d_X_collectFullGrown_36 (by decide) (fun c36 => ?_) (fun c36 => ?_)
    · have hN : i = 2 ^ n := lp_ge hi (by omega) c36
      exact wE_vret (x1, x) hx hb hr hlocks d_X_collectFullGrown_66 hS (by show va_P D clX (wX h cI cZ n bt rk wt cl cc su sa sc od fr cg x1 x ((flt (groX n bt rk od cg) (2 ^ n)).length)) H; rw [show (flt (groX n bt rk od cg) (2 ^ n)).length = (flt (groX n bt rk od cg) i).length by rw [hN]]; exact hP) (by show isArr x (flt (groX n bt rk od cg) (2 ^ n)); rw [← hN]; exact hI) rfl
    · have hlt : i < 2 ^ n := lp_lt hi (by omega) c36
      refine lv_aload_n hx hb d_X_collectFullGrown_39 rfl (lv_at hl 0 rfl) ?_
      refine lv_iload_n hx hb d_X_collectFullGrown_40 rfl (lv_at hl 2 rfl) ?_
      refine rd_V (As := [.int (nI i)]) (rest := []) ⟨hx, hb, hml, hown, hts⟩ (c_X_isKept l i (by omega) hbt) (cwV 1 hts g_X_143 rfl rfl rfl (by decide +kernel) ⟨Nat.le_of_ble_eq_true rfl, Nat.le_of_ble_eq_true rfl⟩) hK hP 0 rfl rfl rfl hl.1 rfl (Nat.le_of_ble_eq_true rfl) d_X_collectFullGrown_41 ⟨Nat.zero_le _, Nat.zero_le _⟩ ?_
      refine lv_if_eq (tgt := 60) hx hb d_X_collectFullGrown_44 (by decide) (fun c44 => ?_) (fun c44 => ?_)
      · refine lv_iinc (v := (nI (i + 1))) (lv' := [(2, .int (nI (i + 1))), (0, .ref (h 0)), (1, .int (nI (2 ^ n)))]) hx hb d_X_collectFullGrown_60 hl (k := 2) rfl (nI_1 i) (by decide) rfl (fun ls hl => ?_)
        refine lv_goto (tgt := 34) hx hb d_X_collectFullGrown_63 (by decide) ?_
        exact ih hlt x ls _ _ (by show isArr _ (flt (groX n bt rk od cg) (i + 1)); rw [flt_f (show groX n bt rk od cg i = false by unfold groX; rw [bI_0.mp c44]; rfl)]; exact hI) (lv_sub hl [1, 2, 0] rfl) (by rw [flt_f (show groX n bt rk od cg i = false by unfold groX; rw [bI_0.mp c44]; rfl)]; exact hP) (wr_D hD rfl) hS
      · refine lv_aload_n hx hb d_X_collectFullGrown_47 rfl (lv_at hl 0 rfl) ?_
        refine lv_iload_n hx hb d_X_collectFullGrown_48 rfl (lv_at hl 2 rfl) ?_
        refine rd_V (As := [.int (nI i)]) (rest := []) ⟨hx, hb, hml, hown, hts⟩ (c_X_canGrow l i hn (by omega)) (cwV 1 hts g_X_146 rfl rfl rfl (by decide +kernel) ⟨Nat.le_of_ble_eq_true rfl, Nat.le_of_ble_eq_true rfl⟩) hK hP 0 rfl rfl rfl hl.1 rfl (Nat.le_of_ble_eq_true rfl) d_X_collectFullGrown_49 ⟨Nat.zero_le _, Nat.zero_le _⟩ ?_
        refine lv_if_ne (tgt := 60) hx hb d_X_collectFullGrown_52 (by decide) (fun c52 => ?_) (fun c52 => ?_)
        · refine lv_iinc (v := (nI (i + 1))) (lv' := [(2, .int (nI (i + 1))), (0, .ref (h 0)), (1, .int (nI (2 ^ n)))]) hx hb d_X_collectFullGrown_60 hl (k := 2) rfl (nI_1 i) (by decide) rfl (fun ls hl => ?_)
          refine lv_goto (tgt := 34) hx hb d_X_collectFullGrown_63 (by decide) ?_
          exact ih hlt x ls _ _ (by show isArr _ (flt (groX n bt rk od cg) (i + 1)); rw [flt_f (show groX n bt rk od cg i = false by unfold groX; rw [← hgr i, show anyB (fun s => !i.testBit s && !cg ((i &&& x1 s) ||| 2 ^ s)) n = true by cases hq : anyB (fun s => !i.testBit s && !cg ((i &&& x1 s) ||| 2 ^ s)) n; exact absurd (bI_0.mpr hq) c52; rfl, Bool.not_true, Bool.and_false])]; exact hI) (lv_sub hl [1, 2, 0] rfl) (by rw [flt_f (show groX n bt rk od cg i = false by unfold groX; rw [← hgr i, show anyB (fun s => !i.testBit s && !cg ((i &&& x1 s) ||| 2 ^ s)) n = true by cases hq : anyB (fun s => !i.testBit s && !cg ((i &&& x1 s) ||| 2 ^ s)) n; exact absurd (bI_0.mpr hq) c52; rfl, Bool.not_true, Bool.and_false])]; exact hP) (wr_D hD rfl) hS
        · have hPi : groX n bt rk od cg i = true := by unfold groX; rw [show (sp_sub bt i && !cg i) = true by cases hq : (sp_sub bt i && !cg i); exact absurd (bI_0.mpr hq) c44; rfl, ← hgr i, bI_0.mp c52]; rfl
          have hrc2 : (flt (groX n bt rk od cg) i).length < 462 := by have := hB (i + 1) (by omega); rw [flt_t hPi, List.length_append, List.length_singleton] at this; omega
          refine lv_aload_n hx hb d_X_collectFullGrown_55 rfl (lv_at hl 0 rfl) ?_
          refine lv_iload_n hx hb d_X_collectFullGrown_56 rfl (lv_at hl 2 rfl) ?_
          refine wr_V (As := [.int (nI i)]) (rest := []) ⟨hx, hb, hml, hown, hts⟩ (c_X_addRepair l _ i hrc2) (cwV 1 hts g_X_149 rfl rfl rfl (by decide +kernel) ⟨Nat.le_of_ble_eq_true rfl, Nat.le_of_ble_eq_true rfl⟩) hK hP hD hS hA 0 rfl rfl rfl hl.1 rfl (Nat.le_of_ble_eq_true rfl) d_X_collectFullGrown_57 ⟨Nat.zero_le _, Nat.zero_le _⟩ rfl (fun H locs hP hD hS => ?_)
          have hP : va_P D clX (wX h cI cZ n bt rk wt cl cc su sa sc od fr cg x1 (va_up x (flt (groX n bt rk od cg) i).length i) ((flt (groX n bt rk od cg) i).length + 1)) H := hP
          have hD : va_D _ (wX h cI cZ n bt rk wt cl cc su sa sc od fr cg x1 (va_up x (flt (groX n bt rk od cg) i).length i) ((flt (groX n bt rk od cg) i).length + 1)) := hD
          refine lv_iinc (v := (nI (i + 1))) (lv' := [(2, .int (nI (i + 1))), (0, .ref (h 0)), (1, .int (nI (2 ^ n)))]) hx hb d_X_collectFullGrown_60 hl (k := 2) rfl (nI_1 i) (by decide) rfl (fun ls hl => ?_)
          refine lv_goto (tgt := 34) hx hb d_X_collectFullGrown_63 (by decide) ?_
          exact ih hlt (va_up x (flt (groX n bt rk od cg) i).length i) ls _ _ (by show isArr _ (flt (groX n bt rk od cg) (i + 1)); rw [flt_t hPi]; exact isArr_push hI i) (lv_sub hl [1, 2, 0] rfl) (by rw [flt_t hPi, List.length_append, List.length_singleton]; exact hP) (wr_D hD rfl) hS
  · have hlt : i < n := lp_lt hi (by omega) c7
    refine lv_aload_n hx hb d_X_collectFullGrown_10 rfl (lv_at hl 0 rfl) ?_
    refine va_get (D := D) (ci := 0) (v := .ref (h 7)) (C := RX) (T := TX) (N := 15) hx hb hts inX hown hK hP 0 rfl rfl 12 (by decide) (hts _ f_X_49) (fun _ h9 => h9) rfl d_X_collectFullGrown_11 ?_
    refine lv_iload_n hx hb d_X_collectFullGrown_14 rfl (lv_at hl 1 rfl) ?_
    refine lv_aload_n hx hb d_X_collectFullGrown_15 rfl (lv_at hl 0 rfl) ?_
    refine lv_iload_n hx hb d_X_collectFullGrown_16 rfl (lv_at hl 1 rfl) ?_
    refine rd_V (As := [.int (nI i)]) (rest := [.int (nI i), .ref (h 7)]) ⟨hx, hb, hml, hown, hts⟩ (c_X_companyOf l i (by omega) hn hbt hrk ho) (cwV 1 hts g_X_140 rfl rfl rfl (by decide +kernel) ⟨Nat.le_of_ble_eq_true rfl, Nat.le_of_ble_eq_true rfl⟩) hK hP 0 rfl rfl rfl hl.1 rfl (Nat.le_of_ble_eq_true rfl) d_X_collectFullGrown_17 ⟨Nat.zero_le _, Nat.zero_le _⟩ ?_
    refine va_iast hx hb hK hP hD hS 7 0 rfl rfl (vp_in_nI (show i < 11 by omega) (by decide)) d_X_collectFullGrown_20 (fun H locs hP hD hS => ?_)
    have hu : upd (fun j => nI (x1 j)) (nI i).toNatClampNeg (nI (comX n bt rk od i)) = fun j => nI ((va_up x1 i (comX n bt rk od i)) j) := by rw [nI_clamp (by omega)]; exact upd_nI x1 i _
    rw [hu] at hP hD
    have hP : va_P D clX (wX h cI cZ n bt rk wt cl cc su sa sc od fr cg (va_up x1 i (comX n bt rk od i)) rp 0) H := hP
    have hD : va_D _ (wX h cI cZ n bt rk wt cl cc su sa sc od fr cg (va_up x1 i (comX n bt rk od i)) rp 0) := hD
    refine lv_iinc (v := (nI (i + 1))) (lv' := [(1, .int (nI (i + 1))), (0, .ref (h 0))]) hx hb d_X_collectFullGrown_21 hl (k := 1) rfl (nI_1 i) (by decide) rfl (fun ls hl => ?_)
    refine lv_goto (tgt := 2) hx hb d_X_collectFullGrown_24 (by decide) ?_
    exact ih hlt (va_up x1 i (comX n bt rk od i)) ls _ _ (fun j hj => by unfold va_up; split; (rename_i q; rw [q]); exact hI j (by omega)) (lv_sub hl [1, 0] rfl) hP hD hS
set_option maxHeartbeats 4000000 in
set_option maxRecDepth 100000 in
theorem c_X_collectWorthiest (l : Launch) (sz : Nat) (hn : n ≤ 11) (hbt : bt < 2 ^ 31) (hrk : ∀ j, rk j < 8) (hwt : ∀ j, wt j ≤ 1000) (ho : od < 4) (hrc0 : rc = 0) (hB : ∀ k, k ≤ 2 ^ n → (wst (fun S => sp_sub bt S && !cg S) (fun S => wor bt rk wt S od n) k).2.length ≤ 462) : Met l y_X_collectWorthiest w_X_collectWorthiest (k2_rm 2 46) (wr_Pc D clX (wX h cI cZ n bt rk wt cl cc su sa sc od fr cg co rp rc) [(cI, .int), (cZ, .boolean)] sz [.ref (h 0)]) (wE_Q D clX (wX h cI cZ n bt rk wt cl cc su sa sc od fr cg co rp rc) (σ := Nat → Nat) (fun u => wX h cI cZ n bt rk wt cl cc su sa sc od fr cg co u ((wst (fun S => sp_sub bt S && !cg S) (fun S => wor bt rk wt S od n) (2 ^ n)).2.length)) (fun _ => none) (fun u => isArr u (wst (fun S => sp_sub bt S && !cg S) (fun S => wor bt rk wt S od n) (2 ^ n)).2) sz) 0 0 (va_A (wX h cI cZ n bt rk wt cl cc su sa sc od fr cg co rp rc) sz) := by
  refine wE_met (by decide) rfl (Nat.le_of_ble_eq_true rfl) rfl ?_
  intro p e s m below meth c ls hx hb hr hml hown hts hlocks hP hK hD hS hA hl
  have hts : ∀ w ∈ tbl, w.before _ s = true := fun w h => hts w (List.mem_cons_of_mem _ h)
  have hown : s.vm.findClass RX = some m.cls := hown
  have hl : lv_has ls 7 [(0, .ref (h 0))] := hl
  have hb3 : 2 ^ n ≤ 2048 := bx_p2 hn
  subst hrc0
  refine lv_aload_n hx hb d_X_collectWorthiest_0 rfl (lv_at hl 0 rfl) ?_
  refine rd_V (As := []) (rest := []) ⟨hx, hb, hml, hown, hts⟩ (c_X_setCount l hn) (cwV 0 hts g_X_105 rfl rfl rfl (by decide +kernel) ⟨Nat.le_of_ble_eq_true rfl, Nat.le_of_ble_eq_true rfl⟩) hK hP 0 rfl rfl rfl hl.1 rfl (Nat.le_of_ble_eq_true rfl) d_X_collectWorthiest_1 ⟨Nat.zero_le _, Nat.zero_le _⟩ ?_
  refine lv_istore_n (lv' := [(1, .int (nI (2 ^ n))), (0, .ref (h 0))]) hx hb d_X_collectWorthiest_4 rfl hl (by decide) rfl (fun ls hl => ?_)
  refine lv_ldc2 (v := (mI none)) hx hb hown (hts _ k_X_153) d_X_collectWorthiest_5 ?_
  refine lv_lstore_n (lv' := [(2, .long (mI none)), (1, .int (nI (2 ^ n))), (0, .ref (h 0))]) hx hb d_X_collectWorthiest_8 rfl hl (by decide) rfl (fun ls hl => ?_)
  refine lv_iconst (v := 0) hx hb d_X_collectWorthiest_9 (by decide) ?_
  refine lv_istore (lv' := [(4, .int 0), (2, .long (mI none)), (1, .int (nI (2 ^ n))), (0, .ref (h 0))]) hx hb d_X_collectWorthiest_10 hl (by decide) rfl (fun ls hl => ?_)
  refine wr_loop (nL := 7) (σ := Option Nat × (Nat → Nat)) (2 ^ n) (fun i x => [(0, .ref (h 0)), (1, .int (nI (2 ^ n))), (2, .long (mI x.1)), (4, .int (nI i))]) (fun i x => wX h cI cZ n bt rk wt cl cc su sa sc od fr cg co x.2 ((wst (fun S => sp_sub bt S && !cg S) (fun S => wor bt rk wt S od n) i).2.length)) (fun i x => x.1 = (wst (fun S => sp_sub bt S && !cg S) (fun S => wor bt rk wt S od n) i).1 ∧ isArr x.2 (wst (fun S => sp_sub bt S && !cg S) (fun S => wor bt rk wt S od n) i).2) ?_ 0 (none, rp) ls _ _ (Nat.zero_le _) (⟨rfl, isArr_nil rp⟩) (lv_sub hl [3, 2, 1, 0] rfl) hP hD hS
  intro i x ls H locs hi hI hl hP hD hS ih
  obtain ⟨hm, hI⟩ : x.1 = (wst (fun S => sp_sub bt S && !cg S) (fun S => wor bt rk wt S od n) i).1 ∧ isArr x.2 (wst (fun S => sp_sub bt S && !cg S) (fun S => wor bt rk wt S od n) i).2 := hI
  have hmb : ∀ v, x.1 = some v → v < 2 ^ 62 := by rw [hm]; exact fun v hv => Nat.lt_trans (wst_lt (B := 2 ^ 33) (fun S => wor_lt hwt hn) i v hv) (by decide)
  have hl : lv_has ls 7 [(0, .ref (h 0)), (1, .int (nI (2 ^ n))), (2, .long (mI x.1)), (4, .int (nI i))] := hl
  have hP : va_P D clX (wX h cI cZ n bt rk wt cl cc su sa sc od fr cg co x.2 ((wst (fun S => sp_sub bt S && !cg S) (fun S => wor bt rk wt S od n) i).2.length)) H := hP
  have hD : va_D _ (wX h cI cZ n bt rk wt cl cc su sa sc od fr cg co x.2 ((wst (fun S => sp_sub bt S && !cg S) (fun S => wor bt rk wt S od n) i).2.length)) := hD
  refine lv_iload hx hb d_X_collectWorthiest_12 (lv_at hl 3 rfl) ?_
  refine lv_iload_n hx hb d_X_collectWorthiest_14 rfl (lv_at hl 1 rfl) ?_
  refine lv_icmp_ge (tgt := 73) hx hb d_X_collectWorthiest_15 (by decide) (fun c15 => ?_) (fun c15 => ?_)
  · have hN : i = 2 ^ n := lp_ge hi (by omega) c15
    exact wE_vret x.2 hx hb hr hlocks d_X_collectWorthiest_73 hS (by show va_P D clX (wX h cI cZ n bt rk wt cl cc su sa sc od fr cg co x.2 ((wst (fun S => sp_sub bt S && !cg S) (fun S => wor bt rk wt S od n) (2 ^ n)).2.length)) H; rw [show (wst (fun S => sp_sub bt S && !cg S) (fun S => wor bt rk wt S od n) (2 ^ n)).2.length = (wst (fun S => sp_sub bt S && !cg S) (fun S => wor bt rk wt S od n) i).2.length by rw [hN]]; exact hP) (by show isArr x.2 (wst (fun S => sp_sub bt S && !cg S) (fun S => wor bt rk wt S od n) (2 ^ n)).2; rw [← hN]; exact hI) rfl
  · have hlt : i < 2 ^ n := lp_lt hi (by omega) c15
    refine lv_aload_n hx hb d_X_collectWorthiest_18 rfl (lv_at hl 0 rfl) ?_
    refine lv_iload hx hb d_X_collectWorthiest_19 (lv_at hl 3 rfl) ?_
    refine rd_V (As := [.int (nI i)]) (rest := []) ⟨hx, hb, hml, hown, hts⟩ (c_X_isKept l i (by omega) hbt) (cwV 1 hts g_X_143 rfl rfl rfl (by decide +kernel) ⟨Nat.le_of_ble_eq_true rfl, Nat.le_of_ble_eq_true rfl⟩) hK hP 0 rfl rfl rfl hl.1 rfl (Nat.le_of_ble_eq_true rfl) d_X_collectWorthiest_21 ⟨Nat.zero_le _, Nat.zero_le _⟩ ?_
    refine lv_if_eq (tgt := 67) hx hb d_X_collectWorthiest_24 (by decide) (fun c24 => ?_) (fun c24 => ?_)
    · have hw0 : wst (fun S => sp_sub bt S && !cg S) (fun S => wor bt rk wt S od n) (i + 1) = wst (fun S => sp_sub bt S && !cg S) (fun S => wor bt rk wt S od n) i := by rw [wst, if_neg (fun q => Bool.false_ne_true ((bI_0.mp c24).symm.trans q))]
      refine lv_iinc (v := (nI (i + 1))) (lv' := [(4, .int (nI (i + 1))), (0, .ref (h 0)), (1, .int (nI (2 ^ n))), (2, .long (mI x.1))]) hx hb d_X_collectWorthiest_67 hl (k := 3) rfl (nI_1 i) (by decide) rfl (fun ls hl => ?_)
      refine lv_goto (tgt := 12) hx hb d_X_collectWorthiest_70 (by decide) ?_
      exact ih hlt x ls _ _ (by show _ = (wst (fun S => sp_sub bt S && !cg S) (fun S => wor bt rk wt S od n) (i + 1)).1 ∧ isArr _ (wst (fun S => sp_sub bt S && !cg S) (fun S => wor bt rk wt S od n) (i + 1)).2; rw [hw0]; exact ⟨hm, hI⟩) (lv_sub hl [1, 2, 3, 0] rfl) (by rw [hw0]; exact hP) (wr_D hD rfl) hS
    · have hK1 : (fun S => sp_sub bt S && !cg S) i = true := show (sp_sub bt i && !cg i) = true by cases hq : (sp_sub bt i && !cg i); exact absurd (bI_0.mpr hq) c24; rfl
      refine lv_aload_n hx hb d_X_collectWorthiest_27 rfl (lv_at hl 0 rfl) ?_
      refine lv_iload hx hb d_X_collectWorthiest_28 (lv_at hl 3 rfl) ?_
      refine lv_aload_n hx hb d_X_collectWorthiest_30 rfl (lv_at hl 0 rfl) ?_
      refine va_get (D := D) (ci := 0) (v := .int (nI od)) (C := RX) (T := TX) (N := 15) hx hb hts inX hown hK hP 0 rfl rfl 9 (by decide) (hts _ f_X_38) (fun _ h9 => h9) rfl d_X_collectWorthiest_31 ?_
      refine rd_V (As := [.int (nI i), .int (nI od)]) (rest := []) ⟨hx, hb, hml, hown, hts⟩ (c_X_worth l i od hn hbt hrk hwt (by omega) ho) (cwV 2 hts g_X_114 rfl rfl rfl (by decide +kernel) ⟨Nat.le_of_ble_eq_true rfl, Nat.le_of_ble_eq_true rfl⟩) hK hP 0 rfl rfl rfl hl.1 rfl (Nat.le_of_ble_eq_true rfl) d_X_collectWorthiest_34 ⟨Nat.zero_le _, Nat.zero_le _⟩ ?_
      refine lv_lstore (lv' := [(5, .long (lN (wor bt rk wt i od n))), (0, .ref (h 0)), (1, .int (nI (2 ^ n))), (2, .long (mI x.1)), (4, .int (nI i))]) hx hb d_X_collectWorthiest_37 hl (by decide) rfl (fun ls hl => ?_)
      refine lv_lload hx hb d_X_collectWorthiest_39 (lv_at hl 0 rfl) ?_
      refine lv_lload_n hx hb d_X_collectWorthiest_41 rfl (lv_at hl 3 rfl) ?_
      refine W.lcmp hx hb d_X_collectWorthiest_42 ?_
      refine lv_if_le (tgt := 54) hx hb d_X_collectWorthiest_43 (by decide) (fun c43 => ?_) (fun c43 => ?_)
      · have hle : ¬ ∀ v, (wst (fun S => sp_sub bt S && !cg S) (fun S => wor bt rk wt S od n) i).1 = some v → v < wor bt rk wt i od n := by rw [← hm]; exact (mI_le (Nat.lt_trans (wor_lt hwt hn) (by decide)) hmb).mp c43
        refine lv_lload hx hb d_X_collectWorthiest_54 (lv_at hl 0 rfl) ?_
        refine lv_lload_n hx hb d_X_collectWorthiest_56 rfl (lv_at hl 3 rfl) ?_
        refine W.lcmp hx hb d_X_collectWorthiest_57 ?_
        refine lv_if_ne (tgt := 67) hx hb d_X_collectWorthiest_58 (by decide) (fun c58 => ?_) (fun c58 => ?_)
        · have hw3 : wst (fun S => sp_sub bt S && !cg S) (fun S => wor bt rk wt S od n) (i + 1) = wst (fun S => sp_sub bt S && !cg S) (fun S => wor bt rk wt S od n) i := by rw [wst, if_pos hK1, if_neg (fun q => c58 ((mI_eq (Nat.lt_trans (wor_lt hwt hn) (by decide)) hmb).mpr (hm.trans q))), if_neg hle]
          refine lv_iinc (v := (nI (i + 1))) (lv' := [(4, .int (nI (i + 1))), (5, .long (lN (wor bt rk wt i od n))), (0, .ref (h 0)), (1, .int (nI (2 ^ n))), (2, .long (mI x.1))]) hx hb d_X_collectWorthiest_67 hl (k := 4) rfl (nI_1 i) (by decide) rfl (fun ls hl => ?_)
          refine lv_goto (tgt := 12) hx hb d_X_collectWorthiest_70 (by decide) ?_
          exact ih hlt x ls _ _ (by show _ = (wst (fun S => sp_sub bt S && !cg S) (fun S => wor bt rk wt S od n) (i + 1)).1 ∧ isArr _ (wst (fun S => sp_sub bt S && !cg S) (fun S => wor bt rk wt S od n) (i + 1)).2; rw [hw3]; exact ⟨hm, hI⟩) (lv_sub hl [2, 3, 4, 0] rfl) (by rw [hw3]; exact hP) (wr_D hD rfl) hS
        · have hw2 : wst (fun S => sp_sub bt S && !cg S) (fun S => wor bt rk wt S od n) (i + 1) = ((wst (fun S => sp_sub bt S && !cg S) (fun S => wor bt rk wt S od n) i).1, (wst (fun S => sp_sub bt S && !cg S) (fun S => wor bt rk wt S od n) i).2 ++ [i]) := by rw [wst, if_pos hK1, if_pos (hm.symm.trans ((mI_eq (Nat.lt_trans (wor_lt hwt hn) (by decide)) hmb).mp c58))]
          have hrc2 : (wst (fun S => sp_sub bt S && !cg S) (fun S => wor bt rk wt S od n) i).2.length < 462 := by have := hB (i + 1) (by omega); rw [hw2] at this; simp only [List.length_append, List.length_singleton] at this; omega
          refine lv_aload_n hx hb d_X_collectWorthiest_61 rfl (lv_at hl 1 rfl) ?_
          refine lv_iload hx hb d_X_collectWorthiest_62 (lv_at hl 4 rfl) ?_
          refine wr_V (As := [.int (nI i)]) (rest := []) ⟨hx, hb, hml, hown, hts⟩ (c_X_addRepair l _ i hrc2) (cwV 1 hts g_X_149 rfl rfl rfl (by decide +kernel) ⟨Nat.le_of_ble_eq_true rfl, Nat.le_of_ble_eq_true rfl⟩) hK hP hD hS hA 0 rfl rfl rfl hl.1 rfl (Nat.le_of_ble_eq_true rfl) d_X_collectWorthiest_64 ⟨Nat.zero_le _, Nat.zero_le _⟩ rfl (fun H locs hP hD hS => ?_)
          have hP : va_P D clX (wX h cI cZ n bt rk wt cl cc su sa sc od fr cg co (va_up x.2 (wst (fun S => sp_sub bt S && !cg S) (fun S => wor bt rk wt S od n) i).2.length i) ((wst (fun S => sp_sub bt S && !cg S) (fun S => wor bt rk wt S od n) i).2.length + 1)) H := hP
          have hD : va_D _ (wX h cI cZ n bt rk wt cl cc su sa sc od fr cg co (va_up x.2 (wst (fun S => sp_sub bt S && !cg S) (fun S => wor bt rk wt S od n) i).2.length i) ((wst (fun S => sp_sub bt S && !cg S) (fun S => wor bt rk wt S od n) i).2.length + 1)) := hD
          refine lv_iinc (v := (nI (i + 1))) (lv' := [(4, .int (nI (i + 1))), (5, .long (lN (wor bt rk wt i od n))), (0, .ref (h 0)), (1, .int (nI (2 ^ n))), (2, .long (mI x.1))]) hx hb d_X_collectWorthiest_67 hl (k := 4) rfl (nI_1 i) (by decide) rfl (fun ls hl => ?_)
          refine lv_goto (tgt := 12) hx hb d_X_collectWorthiest_70 (by decide) ?_
          exact ih hlt (x.1, va_up x.2 (wst (fun S => sp_sub bt S && !cg S) (fun S => wor bt rk wt S od n) i).2.length i) ls _ _ (by show _ = (wst (fun S => sp_sub bt S && !cg S) (fun S => wor bt rk wt S od n) (i + 1)).1 ∧ isArr _ (wst (fun S => sp_sub bt S && !cg S) (fun S => wor bt rk wt S od n) (i + 1)).2; rw [hw2]; exact ⟨hm, isArr_push hI i⟩) (lv_sub hl [2, 3, 4, 0] rfl) (by rw [hw2]; simp only [List.length_append, List.length_singleton]; exact hP) (wr_D hD rfl) hS
      · have hgt : ∀ v, (wst (fun S => sp_sub bt S && !cg S) (fun S => wor bt rk wt S od n) i).1 = some v → v < wor bt rk wt i od n := by rw [← hm]; exact Classical.byContradiction fun q => c43 ((mI_le (Nat.lt_trans (wor_lt hwt hn) (by decide)) hmb).mpr q)
        have hw1 : wst (fun S => sp_sub bt S && !cg S) (fun S => wor bt rk wt S od n) (i + 1) = (some (wor bt rk wt i od n), [i]) := by rw [wst, if_pos hK1, if_neg (fun q => absurd (hgt _ q) (Nat.lt_irrefl _)), if_pos hgt]
        refine lv_lload hx hb d_X_collectWorthiest_46 (lv_at hl 0 rfl) ?_
        refine lv_lstore_n (lv' := [(2, .long (lN (wor bt rk wt i od n))), (5, .long (lN (wor bt rk wt i od n))), (0, .ref (h 0)), (1, .int (nI (2 ^ n))), (4, .int (nI i))]) hx hb d_X_collectWorthiest_48 rfl hl (by decide) rfl (fun ls hl => ?_)
        refine lv_aload_n hx hb d_X_collectWorthiest_49 rfl (lv_at hl 2 rfl) ?_
        refine lv_iconst (v := 0) hx hb d_X_collectWorthiest_50 (by decide) ?_
        refine va_put (D := D) (ci := 0) (v := .int 0) (ty := .int) (C := RX) (T := TX) (N := 15) hx hb hts inX tyX tyX_ok nmX hown hK hP hD hS 0 rfl rfl 14 (by decide) (hts _ f_X_55) (fun _ h9 => h9) rfl (by decide +kernel) rfl rfl (Nat.le_of_ble_eq_true rfl) d_X_collectWorthiest_51 (fun H locs hP hD hS => ?_)
        have hP : va_P D clX (wX h cI cZ n bt rk wt cl cc su sa sc od fr cg co x.2 0) H := hP
        have hD : va_D _ (wX h cI cZ n bt rk wt cl cc su sa sc od fr cg co x.2 0) := hD
        refine lv_lload hx hb d_X_collectWorthiest_54 (lv_at hl 1 rfl) ?_
        refine lv_lload_n hx hb d_X_collectWorthiest_56 rfl (lv_at hl 0 rfl) ?_
        refine W.lcmp hx hb d_X_collectWorthiest_57 ?_
        refine lv_if_ne (tgt := 67) hx hb d_X_collectWorthiest_58 (by decide) (fun c58 => ?_) (fun c58 => ?_)
        · exact absurd ((lg_cmp_eq _ _).mpr rfl) c58
        · refine lv_aload_n hx hb d_X_collectWorthiest_61 rfl (lv_at hl 2 rfl) ?_
          refine lv_iload hx hb d_X_collectWorthiest_62 (lv_at hl 4 rfl) ?_
          refine wr_V (As := [.int (nI i)]) (rest := []) ⟨hx, hb, hml, hown, hts⟩ (c_X_addRepair l _ i (by decide)) (cwV 1 hts g_X_149 rfl rfl rfl (by decide +kernel) ⟨Nat.le_of_ble_eq_true rfl, Nat.le_of_ble_eq_true rfl⟩) hK hP hD hS hA 0 rfl rfl rfl hl.1 rfl (Nat.le_of_ble_eq_true rfl) d_X_collectWorthiest_64 ⟨Nat.zero_le _, Nat.zero_le _⟩ rfl (fun H locs hP hD hS => ?_)
          have hP : va_P D clX (wX h cI cZ n bt rk wt cl cc su sa sc od fr cg co (va_up x.2 0 i) (0 + 1)) H := hP
          have hD : va_D _ (wX h cI cZ n bt rk wt cl cc su sa sc od fr cg co (va_up x.2 0 i) (0 + 1)) := hD
          refine lv_iinc (v := (nI (i + 1))) (lv' := [(4, .int (nI (i + 1))), (2, .long (lN (wor bt rk wt i od n))), (5, .long (lN (wor bt rk wt i od n))), (0, .ref (h 0)), (1, .int (nI (2 ^ n)))]) hx hb d_X_collectWorthiest_67 hl (k := 4) rfl (nI_1 i) (by decide) rfl (fun ls hl => ?_)
          refine lv_goto (tgt := 12) hx hb d_X_collectWorthiest_70 (by decide) ?_
          exact ih hlt (some (wor bt rk wt i od n), va_up x.2 0 i) ls _ _ (by show _ = (wst (fun S => sp_sub bt S && !cg S) (fun S => wor bt rk wt S od n) (i + 1)).1 ∧ isArr _ (wst (fun S => sp_sub bt S && !cg S) (fun S => wor bt rk wt S od n) (i + 1)).2; rw [hw1]; exact ⟨rfl, isArr_push (L := []) (isArr_nil x.2) i⟩) (lv_sub hl [3, 4, 1, 0] rfl) (by rw [hw1]; exact hP) (wr_D hD rfl) hS
end MX6
end
section
section MX7
variable {D : va_G} {h : Nat → Nat} {cI cZ : ClassId} {n bt : Nat} {rk wt cl : Nat → Nat} {cc : Nat} {su sa : Nat → Nat} {sc od : Nat} {fr : Bool} {cg : Nat → Bool} {co rp : Nat → Nat} {rc : Nat}
/-- what stands at every call: the numbers in their bounds, and the repairs as they are when they are fresh -/
def okX (n bt : Nat) (rk wt cl : Nat → Nat) (cc od : Nat) (fr : Bool) (rp : Nat → Nat) (rc : Nat) : Prop := n ≤ 11 ∧ bt < 2 ^ n ∧ (∀ j, rk j < 8) ∧ (∀ j, wt j ≤ 1000) ∧ (∀ j, j < n → 1 ≤ wt j) ∧ cc ≤ 40 ∧ (∀ j, cl j < 2048) ∧ od < 4 ∧ (fr = true → isArr rp (reps n bt rk wt cl cc od) ∧ rc = (reps n bt rk wt cl cc od).length)
set_option maxHeartbeats 4000000 in
set_option maxRecDepth 100000 in
theorem c_X_refresh (l : Launch) (sz : Nat) (hok : okX n bt rk wt cl cc od fr rp rc) : Met l y_X_refresh w_X_refresh (k2_rm 4 88) (wr_Pc D clX (wX h cI cZ n bt rk wt cl cc su sa sc od fr cg co rp rc) [(cI, .int), (cZ, .boolean)] sz [.ref (h 0)]) (wE_Q D clX (wX h cI cZ n bt rk wt cl cc su sa sc od fr cg co rp rc) (σ := (Nat → Bool) × (Nat → Nat) × (Nat → Nat)) (fun u => wX h cI cZ n bt rk wt cl cc su sa sc od true u.1 u.2.1 u.2.2 ((reps n bt rk wt cl cc od).length)) (fun _ => none) (fun u => isArr u.2.2 (reps n bt rk wt cl cc od)) sz) 0 0 (va_A (wX h cI cZ n bt rk wt cl cc su sa sc od fr cg co rp rc) sz) := by
  refine wE_met (by decide) rfl (Nat.le_of_ble_eq_true rfl) rfl ?_
  intro p e s m below meth c ls hx hb hr hml hown hts hlocks hP hK hD hS hA hl
  have hts : ∀ w ∈ tbl, w.before _ s = true := fun w h => hts w (List.mem_cons_of_mem _ h)
  have hown : s.vm.findClass RX = some m.cls := hown
  have hl : lv_has ls 1 [(0, .ref (h 0))] := hl
  obtain ⟨hn, hbt, hrk, hwt, hwp, hcc, hcl, ho, hfr⟩ := hok
  refine lv_aload_n hx hb d_X_refresh_0 rfl (lv_at hl 0 rfl) ?_
  refine va_get (D := D) (ci := 0) (v := .int (bI fr)) (C := RX) (T := TX) (N := 15) hx hb hts inX hown hK hP 0 rfl rfl 10 (by decide) (hts _ f_X_41) (fun _ h9 => h9) rfl d_X_refresh_1 ?_
  refine lv_if_eq (tgt := 8) hx hb d_X_refresh_4 (by decide) (fun c4 => ?_) (fun c4 => ?_)
  · refine lv_aload_n hx hb d_X_refresh_8 rfl (lv_at hl 0 rfl) ?_
    refine wE_V (As := []) (rest := []) ⟨hx, hb, hml, hown, hts⟩ (c_X_markClashing l _ hn hcc hcl) (cwV 0 hts g_X_128 rfl rfl rfl (by decide +kernel) ⟨Nat.le_of_ble_eq_true rfl, Nat.le_of_ble_eq_true rfl⟩) hK hP hD hS hA 0 rfl rfl rfl hl.1 rfl (Nat.le_of_ble_eq_true rfl) d_X_refresh_9 ⟨Nat.zero_le _, Nat.zero_le _⟩ (fun _ => rfl) (fun g1 H locs hg1 hP hD hS => ?_)
    have hg1 : ∀ S, S < 2 ^ n → g1 S = clS cl cc S := hg1
    have hP : va_P D clX (wX h cI cZ n bt rk wt cl cc su sa sc od fr g1 co rp rc) H := hP
    have hD : va_D _ (wX h cI cZ n bt rk wt cl cc su sa sc od fr g1 co rp rc) := hD
    refine lv_aload_n hx hb d_X_refresh_12 rfl (lv_at hl 0 rfl) ?_
    refine lv_iconst (v := 0) hx hb d_X_refresh_13 (by decide) ?_
    refine va_put (D := D) (ci := 0) (v := .int 0) (ty := .int) (C := RX) (T := TX) (N := 15) hx hb hts inX tyX tyX_ok nmX hown hK hP hD hS 0 rfl rfl 14 (by decide) (hts _ f_X_55) (fun _ h9 => h9) rfl (by decide +kernel) rfl rfl (Nat.le_of_ble_eq_true rfl) d_X_refresh_14 (fun H locs hP hD hS => ?_)
    have hP : va_P D clX (wX h cI cZ n bt rk wt cl cc su sa sc od fr g1 co rp 0) H := hP
    have hD : va_D _ (wX h cI cZ n bt rk wt cl cc su sa sc od fr g1 co rp 0) := hD
    refine lv_aload_n hx hb d_X_refresh_17 rfl (lv_at hl 0 rfl) ?_
    refine va_get (D := D) (ci := 0) (v := .int (nI od)) (C := RX) (T := TX) (N := 15) hx hb hts inX hown hK hP 0 rfl rfl 9 (by decide) (hts _ f_X_38) (fun _ h9 => h9) rfl d_X_refresh_18 ?_
    refine lv_if_eq (tgt := 32) hx hb d_X_refresh_21 (by decide) (fun c21 => ?_) (fun c21 => ?_)
    · have ho2 : od < 2 := by have := (nI_eq (b := 0) (by omega) (by decide)).mp c21; omega
      have hrep : flt (groX n bt rk od g1) (2 ^ n) = (reps n bt rk wt cl cc od) := flt_congr (fun S hS2 => gro_rep hrk ho2 hbt hS2 hg1)
      refine lv_aload_n hx hb d_X_refresh_32 rfl (lv_at hl 0 rfl) ?_
      refine wE_V (As := []) (rest := []) ⟨hx, hb, hml, hown, hts⟩ (c_X_collectFullGrown l _ hn (Nat.lt_of_lt_of_le hbt (Nat.pow_le_pow_right (by decide) (by omega))) hrk ho rfl (fun k hk => by rw [flt_congr (P := (groX n bt rk od g1)) (Q := isRep n bt rk wt cl cc od) (fun S hS2 => gro_rep hrk ho2 hbt (by omega) hg1)]; exact rep_len hn hk hrk hwp)) (cwV 0 hts g_X_131 rfl rfl rfl (by decide +kernel) ⟨Nat.le_of_ble_eq_true rfl, Nat.le_of_ble_eq_true rfl⟩) hK hP hD hS hA 0 rfl rfl rfl hl.1 rfl (Nat.le_of_ble_eq_true rfl) d_X_refresh_33 ⟨Nat.zero_le _, Nat.zero_le _⟩ (fun _ => rfl) (fun x H locs hx1 hP hD hS => ?_)
      have hP : va_P D clX (wX h cI cZ n bt rk wt cl cc su sa sc od fr g1 x.1 x.2 ((flt (groX n bt rk od g1) (2 ^ n)).length)) H := hP
      have hD : va_D _ (wX h cI cZ n bt rk wt cl cc su sa sc od fr g1 x.1 x.2 ((flt (groX n bt rk od g1) (2 ^ n)).length)) := hD
      refine lv_goto (tgt := 43) hx hb d_X_refresh_36 (by decide) ?_
      refine lv_aload_n hx hb d_X_refresh_43 rfl (lv_at hl 0 rfl) ?_
      refine lv_iconst (v := 1) hx hb d_X_refresh_44 (by decide) ?_
      refine va_put (D := D) (ci := 0) (v := .int 1) (ty := .boolean) (C := RX) (T := TX) (N := 15) hx hb hts inX tyX tyX_ok nmX hown hK hP hD hS 0 rfl rfl 10 (by decide) (hts _ f_X_41) (fun _ h9 => h9) rfl (by decide +kernel) rfl rfl (Nat.le_of_ble_eq_true rfl) d_X_refresh_45 (fun H locs hP hD hS => ?_)
      have hP : va_P D clX (wX h cI cZ n bt rk wt cl cc su sa sc od true g1 x.1 x.2 ((flt (groX n bt rk od g1) (2 ^ n)).length)) H := hP
      have hD : va_D _ (wX h cI cZ n bt rk wt cl cc su sa sc od true g1 x.1 x.2 ((flt (groX n bt rk od g1) (2 ^ n)).length)) := hD
      exact wE_vret (g1, x.1, x.2) hx hb hr hlocks d_X_refresh_48 hS (by rw [hrep] at hP; exact hP) (by show isArr x.2 (reps n bt rk wt cl cc od); rw [← hrep]; exact hx1) rfl
    · refine lv_aload_n hx hb d_X_refresh_24 rfl (lv_at hl 0 rfl) ?_
      refine va_get (D := D) (ci := 0) (v := .int (nI od)) (C := RX) (T := TX) (N := 15) hx hb hts inX hown hK hP 0 rfl rfl 9 (by decide) (hts _ f_X_38) (fun _ h9 => h9) rfl d_X_refresh_25 ?_
      refine lv_iconst (v := 1) hx hb d_X_refresh_28 (by decide) ?_
      refine lv_icmp_ne (tgt := 39) hx hb d_X_refresh_29 (by decide) (fun c29 => ?_) (fun c29 => ?_)
      · have ho2 : 2 ≤ od := by
          have h1 : ¬ od = 0 := fun q => c21 (by rw [q]; rfl)
          have h2 : ¬ od = 1 := fun q => c29 (by rw [q]; rfl)
          omega
        have hrep : (wst (fun S => sp_sub bt S && !g1 S) (fun S => wor bt rk wt S od n) (2 ^ n)).2 = (reps n bt rk wt cl cc od) := by rw [wst_congr (2 ^ n) (J := kepX bt cl cc) (fun S hS2 => by unfold kepX; rw [hg1 S hS2]), wst_rep ho2]
        refine lv_aload_n hx hb d_X_refresh_39 rfl (lv_at hl 0 rfl) ?_
        refine wE_V (As := []) (rest := []) ⟨hx, hb, hml, hown, hts⟩ (c_X_collectWorthiest l _ hn (Nat.lt_of_lt_of_le hbt (Nat.pow_le_pow_right (by decide) (by omega))) hrk hwt ho rfl (fun k hk => wst_len hn hk hwp (fun S hS2 => (Bool.and_eq_true _ _ ▸ hS2 : _ ∧ _).1))) (cwV 0 hts g_X_134 rfl rfl rfl (by decide +kernel) ⟨Nat.le_of_ble_eq_true rfl, Nat.le_of_ble_eq_true rfl⟩) hK hP hD hS hA 0 rfl rfl rfl hl.1 rfl (Nat.le_of_ble_eq_true rfl) d_X_refresh_40 ⟨Nat.zero_le _, Nat.zero_le _⟩ (fun _ => rfl) (fun x H locs hx1 hP hD hS => ?_)
        have hP : va_P D clX (wX h cI cZ n bt rk wt cl cc su sa sc od fr g1 co x ((wst (fun S => sp_sub bt S && !g1 S) (fun S => wor bt rk wt S od n) (2 ^ n)).2.length)) H := hP
        have hD : va_D _ (wX h cI cZ n bt rk wt cl cc su sa sc od fr g1 co x ((wst (fun S => sp_sub bt S && !g1 S) (fun S => wor bt rk wt S od n) (2 ^ n)).2.length)) := hD
        refine lv_aload_n hx hb d_X_refresh_43 rfl (lv_at hl 0 rfl) ?_
        refine lv_iconst (v := 1) hx hb d_X_refresh_44 (by decide) ?_
        refine va_put (D := D) (ci := 0) (v := .int 1) (ty := .boolean) (C := RX) (T := TX) (N := 15) hx hb hts inX tyX tyX_ok nmX hown hK hP hD hS 0 rfl rfl 10 (by decide) (hts _ f_X_41) (fun _ h9 => h9) rfl (by decide +kernel) rfl rfl (Nat.le_of_ble_eq_true rfl) d_X_refresh_45 (fun H locs hP hD hS => ?_)
        have hP : va_P D clX (wX h cI cZ n bt rk wt cl cc su sa sc od true g1 co x ((wst (fun S => sp_sub bt S && !g1 S) (fun S => wor bt rk wt S od n) (2 ^ n)).2.length)) H := hP
        have hD : va_D _ (wX h cI cZ n bt rk wt cl cc su sa sc od true g1 co x ((wst (fun S => sp_sub bt S && !g1 S) (fun S => wor bt rk wt S od n) (2 ^ n)).2.length)) := hD
        exact wE_vret (g1, co, x) hx hb hr hlocks d_X_refresh_48 hS (by rw [hrep] at hP; exact hP) (by show isArr x (reps n bt rk wt cl cc od); rw [← hrep]; exact hx1) rfl
      · have ho2 : od < 2 := by have := (nI_eq (b := 1) (by omega) (by decide)).mp c29; omega
        have hrep : flt (groX n bt rk od g1) (2 ^ n) = (reps n bt rk wt cl cc od) := flt_congr (fun S hS2 => gro_rep hrk ho2 hbt hS2 hg1)
        refine lv_aload_n hx hb d_X_refresh_32 rfl (lv_at hl 0 rfl) ?_
        refine wE_V (As := []) (rest := []) ⟨hx, hb, hml, hown, hts⟩ (c_X_collectFullGrown l _ hn (Nat.lt_of_lt_of_le hbt (Nat.pow_le_pow_right (by decide) (by omega))) hrk ho rfl (fun k hk => by rw [flt_congr (P := (groX n bt rk od g1)) (Q := isRep n bt rk wt cl cc od) (fun S hS2 => gro_rep hrk ho2 hbt (by omega) hg1)]; exact rep_len hn hk hrk hwp)) (cwV 0 hts g_X_131 rfl rfl rfl (by decide +kernel) ⟨Nat.le_of_ble_eq_true rfl, Nat.le_of_ble_eq_true rfl⟩) hK hP hD hS hA 0 rfl rfl rfl hl.1 rfl (Nat.le_of_ble_eq_true rfl) d_X_refresh_33 ⟨Nat.zero_le _, Nat.zero_le _⟩ (fun _ => rfl) (fun x H locs hx1 hP hD hS => ?_)
        have hP : va_P D clX (wX h cI cZ n bt rk wt cl cc su sa sc od fr g1 x.1 x.2 ((flt (groX n bt rk od g1) (2 ^ n)).length)) H := hP
        have hD : va_D _ (wX h cI cZ n bt rk wt cl cc su sa sc od fr g1 x.1 x.2 ((flt (groX n bt rk od g1) (2 ^ n)).length)) := hD
        refine lv_goto (tgt := 43) hx hb d_X_refresh_36 (by decide) ?_
        refine lv_aload_n hx hb d_X_refresh_43 rfl (lv_at hl 0 rfl) ?_
        refine lv_iconst (v := 1) hx hb d_X_refresh_44 (by decide) ?_
        refine va_put (D := D) (ci := 0) (v := .int 1) (ty := .boolean) (C := RX) (T := TX) (N := 15) hx hb hts inX tyX tyX_ok nmX hown hK hP hD hS 0 rfl rfl 10 (by decide) (hts _ f_X_41) (fun _ h9 => h9) rfl (by decide +kernel) rfl rfl (Nat.le_of_ble_eq_true rfl) d_X_refresh_45 (fun H locs hP hD hS => ?_)
        have hP : va_P D clX (wX h cI cZ n bt rk wt cl cc su sa sc od true g1 x.1 x.2 ((flt (groX n bt rk od g1) (2 ^ n)).length)) H := hP
        have hD : va_D _ (wX h cI cZ n bt rk wt cl cc su sa sc od true g1 x.1 x.2 ((flt (groX n bt rk od g1) (2 ^ n)).length)) := hD
        exact wE_vret (g1, x.1, x.2) hx hb hr hlocks d_X_refresh_48 hS (by rw [hrep] at hP; exact hP) (by show isArr x.2 (reps n bt rk wt cl cc od); rw [← hrep]; exact hx1) rfl
  · have hfr1 : fr = true := by cases hq : fr; exact absurd (bI_0.mpr hq) c4; rfl
    exact wE_vret (cg, co, rp) hx hb hr hlocks d_X_refresh_7 hS (by rw [hfr1] at hP; rw [show rc = (reps n bt rk wt cl cc od).length from (hfr hfr1).2] at hP; exact hP) (hfr hfr1).1 rfl
end MX7
end
section
/-! the state that class and reference share, and what each call makes of it -/
abbrev stA : Type := Nat × Nat × (Nat → Nat) × (Nat → Nat) × (Nat → Nat) × Nat × (Nat → Nat) × (Nat → Nat) × Nat × Nat
abbrev stC : Type := Bool × (Nat → Bool) × (Nat → Nat) × (Nat → Nat) × Nat
def gdA (a : stA) : Prop := match a with
  | (n, bt, rk, wt, cl, cc, su, sa, sc, od) => n ≤ 11 ∧ bt < 2 ^ n ∧ (∀ j, rk j < 8) ∧ (∀ j, wt j ≤ 1000) ∧ (∀ j, j < n → 1 ≤ wt j) ∧ cc ≤ 40 ∧ (∀ j, cl j < 2048) ∧ sc ≤ 20 ∧ (∀ j, sa j < 8) ∧ (∀ j, su j < 2048) ∧ od < 4
def rpA (a : stA) : List Nat := match a with
  | (n, bt, rk, wt, cl, cc, _, _, _, od) => reps n bt rk wt cl cc od
def okC (a : stA) (fr : Bool) (rp : Nat → Nat) (rc : Nat) : Prop := fr = true → isArr rp (rpA a) ∧ rc = (rpA a).length
theorem okC_f {a : stA} {rp : Nat → Nat} {rc : Nat} : okC a false rp rc := fun q => by cases q
def wXt (h : Nat → Nat) (cI cZ : ClassId) (u : stA × stC) : va_W := match u with
  | ((n, bt, rk, wt, cl, cc, su, sa, sc, od), (fr, cg, co, rp, rc)) => wX h cI cZ n bt rk wt cl cc su sa sc od fr cg co rp rc
def ocX (u : stA × stC) : Prop := match u with
  | (a, (fr, _, _, rp, rc)) => okC a fr rp rc
theorem nI_self {x : Int32} (h : ¬ x < 0) : nI x.toNatClampNeg = x := by
  obtain ⟨j, hj, e⟩ := nI_of h
  rw [e, nI_clamp hj]
theorem bI_inj {a b : Bool} : bI a = bI b ↔ a = b := by cases a <;> cases b <;> simp [bI]
theorem okS_of {n : Nat} {x : Int32} (hn : n < 2 ^ 31) (h : okS n x = true) : ∃ k, k < n ∧ x = nI k := by
  unfold okS at h
  rw [Bool.and_eq_true, Bool.not_eq_true', Bool.not_eq_true', decide_eq_false_iff_not, decide_eq_false_iff_not] at h
  obtain ⟨j, hj, e⟩ := nI_of h.1
  refine ⟨j, Nat.lt_of_not_le fun q => h.2 ?_, e⟩
  rw [e]
  exact (nI_leI hn hj).mpr q
theorem okS_nI {n k : Nat} (hn : n < 2 ^ 31) (hk : k < n) : okS n (nI k) = true := by
  unfold okS
  rw [Bool.and_eq_true, Bool.not_eq_true', Bool.not_eq_true', decide_eq_false_iff_not, decide_eq_false_iff_not]
  exact ⟨nI_pos (by omega), nI_ge hk hn⟩
theorem okA_of {x : Int32} (h : okA x = true) : ∃ k, k < 8 ∧ x = nI k := okS_of (n := 8) (by decide) h
theorem okO_of {x : Int32} (h : okO x = true) : ∃ k, k < 4 ∧ x = nI k := by
  unfold okO at h
  rw [Bool.and_eq_true, Bool.not_eq_true', Bool.not_eq_true', decide_eq_false_iff_not, decide_eq_false_iff_not] at h
  obtain ⟨j, hj, e⟩ := nI_of h.1
  refine ⟨j, Nat.lt_of_not_le fun q => h.2 ?_, e⟩
  rw [e]
  exact (nI_ltI (a := 3) (by decide) hj).mpr (by omega)
theorem okR_of {x : Int32} (h : okR x = true) : ∃ k, k < 8 ∧ x = nI k := by
  unfold okR at h
  rw [Bool.and_eq_true, Bool.not_eq_true', Bool.not_eq_true', decide_eq_false_iff_not, decide_eq_false_iff_not] at h
  obtain ⟨j, hj, e⟩ := nI_of h.1
  refine ⟨j, Nat.lt_of_not_le fun q => h.2 ?_, e⟩
  rw [e]
  exact (nI_ltI (a := 7) (by decide) hj).mpr (by omega)
theorem okW_of {x : Int32} (h : okW x = true) : ∃ k, 1 ≤ k ∧ k ≤ 1000 ∧ x = nI k := by
  unfold okW at h
  rw [Bool.and_eq_true, Bool.not_eq_true', Bool.not_eq_true', decide_eq_false_iff_not, decide_eq_false_iff_not] at h
  have h0 : ¬ x < 0 := fun q => h.1 (by
    rw [Int32.lt_iff_toInt_lt] at q ⊢
    rw [show (1 : Int32).toInt = 1 from rfl]
    rw [show (0 : Int32).toInt = 0 from rfl] at q
    omega)
  obtain ⟨j, hj, e⟩ := nI_of h0
  refine ⟨j, Nat.le_of_not_lt fun q => h.1 ?_, Nat.le_of_not_lt fun q => h.2 ?_, e⟩
  · rw [e]; exact (nI_ltI (b := 1) hj (by decide)).mpr q
  · rw [e]; exact (nI_ltI (a := 1000) (by decide) hj).mpr q
def sFact (n bt : Nat) (rk wt cl : Nat → Nat) (cc : Nat) (su sa : Nat → Nat) (sc od : Nat) (hard : Bool) (r w : Int32) : Int32 × stA :=
  if (okR r && okW w) = true then (if n = 11 then (-3, (n, bt, rk, wt, cl, cc, su, sa, sc, od)) else (nI n, (n + 1, (if hard = true then bt ||| 2 ^ n else bt), va_up rk n r.toNatClampNeg, va_up wt n w.toNatClampNeg, cl, cc, su, sa, sc, od))) else (-1, (n, bt, rk, wt, cl, cc, su, sa, sc, od))
def sHarden (n bt : Nat) (rk wt cl : Nat → Nat) (cc : Nat) (su sa : Nat → Nat) (sc od : Nat) (x : Int32) (hard : Bool) : Int32 × stA :=
  if okS n x = true then (if bt.testBit x.toNatClampNeg = hard then (0, (n, bt, rk, wt, cl, cc, su, sa, sc, od)) else (1, (n, bt ^^^ 2 ^ x.toNatClampNeg, rk, wt, cl, cc, su, sa, sc, od))) else (-1, (n, bt, rk, wt, cl, cc, su, sa, sc, od))
def sWeight (n bt : Nat) (rk wt cl : Nat → Nat) (cc : Nat) (su sa : Nat → Nat) (sc od : Nat) (x r w : Int32) : Int32 × stA :=
  if (okS n x && (okR r && okW w)) = true then (1, (n, bt, va_up rk x.toNatClampNeg r.toNatClampNeg, va_up wt x.toNatClampNeg w.toNatClampNeg, cl, cc, su, sa, sc, od)) else (-1, (n, bt, rk, wt, cl, cc, su, sa, sc, od))
def sClash (n bt : Nat) (rk wt cl : Nat → Nat) (cc : Nat) (su sa : Nat → Nat) (sc od : Nat) (x : Int32) : Int32 × stA :=
  if cc = 40 then (-3, (n, bt, rk, wt, cl, cc, su, sa, sc, od)) else (nI (cc + 1), (n, bt, rk, wt, va_up cl cc (x.toBitVec.toNat % 2 ^ 11), cc + 1, su, sa, sc, od))
def sSettle (n bt : Nat) (rk wt cl : Nat → Nat) (cc : Nat) (su sa : Nat → Nat) (sc od : Nat) : Int32 × stA :=
  if cc = 0 then (-2, (n, bt, rk, wt, cl, cc, su, sa, sc, od)) else (nI (cc - 1), (n, bt, rk, wt, cl, cc - 1, su, sa, sc, od))
def sSupport (n bt : Nat) (rk wt cl : Nat → Nat) (cc : Nat) (su sa : Nat → Nat) (sc od : Nat) (x y : Int32) : Int32 × stA :=
  if okA x = true then (if sc = 20 then (-3, (n, bt, rk, wt, cl, cc, su, sa, sc, od)) else (nI (cntB (fun k => decide (va_up sa sc x.toNatClampNeg k = x.toNatClampNeg)) (sc + 1)), (n, bt, rk, wt, cl, cc, va_up su sc (y.toBitVec.toNat % 2 ^ 11), va_up sa sc x.toNatClampNeg, sc + 1, od))) else (-1, (n, bt, rk, wt, cl, cc, su, sa, sc, od))
def sOrder (n bt : Nat) (rk wt cl : Nat → Nat) (cc : Nat) (su sa : Nat → Nat) (sc od : Nat) (x : Int32) : Int32 × stA :=
  if okO x = true then (1, (n, bt, rk, wt, cl, cc, su, sa, sc, x.toNatClampNeg)) else (-1, (n, bt, rk, wt, cl, cc, su, sa, sc, od))
def rKept (L : List Nat) (x : Int32) : Int32 := if okS L.length x = true then nI (L.getD x.toNatClampNeg 0) else -2
def rLeft (n : Nat) (L : List Nat) (x y : Int32) : Int32 := if okS L.length x = true ∧ ¬ y < 0 then oI (nthF (fun j => !(L.getD x.toNatClampNeg 0).testBit j) n 0 y.toNatClampNeg) else -2
def rTruth (su sa : Nat → Nat) (sc : Nat) (L : List Nat) (x : Int32) : Int32 := if okA x = true then vdt L.length (cntB (fun r => holX sa su sc x.toNatClampNeg (L.getD r 0)) L.length) else -1
def rSurely (n : Nat) (L : List Nat) (x : Int32) : Int32 := if okS n x = true then vdt L.length (cntB (fun r => (L.getD r 0).testBit x.toNatClampNeg) L.length) else -1
def rBetter (n bt : Nat) (rk wt : Nat → Nat) (x y o : Int32) : Int32 := if okO o = true then bI (betX n bt rk wt (x.toBitVec.toNat % 2 ^ n) (y.toBitVec.toNat % 2 ^ n) o.toNatClampNeg) else -1
theorem upd_nI' (f : Nat → Nat) (k : Nat) {x : Int32} (hx : nI x.toNatClampNeg = x) : upd (fun j => nI (f j)) k x = fun j => nI (va_up f k x.toNatClampNeg j) := by rw [← upd_nI, hx]
theorem va_up_lt {f : Nat → Nat} {k v B : Nat} (h : ∀ j, f j < B) (hv : v < B) : ∀ j, va_up f k v j < B := by
  intro j
  unfold va_up
  split
  · exact hv
  · exact h j
theorem msk (x : Int32) : x &&& 2047 = nI (x.toBitVec.toNat % 2 ^ 11) := pk_and x 11 (by decide)
theorem mskn {n : Nat} (hn : n ≤ 11) (x : Int32) : x &&& nI (2 ^ n - 1) = nI (x.toBitVec.toNat % 2 ^ n) := pk_and x n (pk_tn (Nat.lt_of_le_of_lt (Nat.sub_le _ _) (Nat.lt_of_le_of_lt (bx_p2 hn) (by decide))))
theorem flt_getD {P : Nat → Bool} {k i : Nat} (h : i < (flt P k).length) : (flt P k).getD i 0 < k := by
  rw [List.getD_eq_getElem?_getD, List.getElem?_eq_getElem h]
  exact (flt_mem.mp (List.getElem_mem h)).1
theorem rep_lt {n bt : Nat} {rk wt cl : Nat → Nat} {cc od i : Nat} (hn : n ≤ 11) (h : i < (reps n bt rk wt cl cc od).length) : (reps n bt rk wt cl cc od).getD i 0 < 2048 := Nat.lt_of_lt_of_le (flt_getD h) (bx_p2 hn)
end
section
section MX8
variable {D : va_G} {h : Nat → Nat} {cI cZ : ClassId} {n bt : Nat} {rk wt cl : Nat → Nat} {cc : Nat} {su sa : Nat → Nat} {sc od : Nat} {fr : Bool} {cg : Nat → Bool} {co rp : Nat → Nat} {rc : Nat}
set_option maxHeartbeats 4000000 in
set_option maxRecDepth 100000 in
theorem c_X_fact (l : Launch) (sz : Nat) (hard : Bool) (r w : Int32) (hg : gdA (n, bt, rk, wt, cl, cc, su, sa, sc, od)) (hc : okC (n, bt, rk, wt, cl, cc, su, sa, sc, od) fr rp rc) : Met l y_X_fact w_X_fact (k2_rm 1 20) (wr_Pc D clX (wX h cI cZ n bt rk wt cl cc su sa sc od fr cg co rp rc) [(cI, .int), (cZ, .boolean)] sz [.ref (h 0), .int (bI hard), .int r, .int w]) (wE_Q D clX (wX h cI cZ n bt rk wt cl cc su sa sc od fr cg co rp rc) (σ := stA × stC) (wXt h cI cZ) (fun _ => some (.int (sFact n bt rk wt cl cc su sa sc od hard r w).1)) (fun u => u.1 = (sFact n bt rk wt cl cc su sa sc od hard r w).2 ∧ ocX u) sz) 0 0 (va_A (wX h cI cZ n bt rk wt cl cc su sa sc od fr cg co rp rc) sz) := by
  refine wE_met (by decide) rfl (Nat.le_of_ble_eq_true rfl) rfl ?_
  intro p e s m below meth c ls hx hb hr hml hown hts hlocks hP hK hD hS hA hl
  have hts : ∀ w ∈ tbl, w.before _ s = true := fun w h => hts w (List.mem_cons_of_mem _ h)
  have hown : s.vm.findClass RX = some m.cls := hown
  have hl : lv_has ls 5 [(0, .ref (h 0)), (1, .int (bI hard)), (2, .int r), (3, .int w)] := hl
  obtain ⟨hn, hbt, hrk, hwt, hwp, hcc, hcl, hsc, hsa, hsu, ho⟩ := id hg
  have hbt3 : bt < 2 ^ 31 := Nat.lt_of_lt_of_le hbt (Nat.pow_le_pow_right (by decide) (by omega))
  refine lv_iload_n hx hb d_X_fact_0 rfl (lv_at hl 2 rfl) ?_
  refine rd_S (As := [.int r]) (rest := []) ⟨hx, hb, hml, hown, hts⟩ (c_X_isRank l r) (cwS 1 hts g_X_58 rfl rfl rfl (by decide +kernel) ⟨Nat.le_of_ble_eq_true rfl, Nat.le_of_ble_eq_true rfl⟩) rfl hl.1 rfl (Nat.le_of_ble_eq_true rfl) d_X_fact_1 ⟨Nat.zero_le _, Nat.zero_le _⟩ ?_
  refine lv_if_eq (tgt := 14) hx hb d_X_fact_4 (by decide) (fun c4 => ?_) (fun c4 => ?_)
  · refine lv_iconst (v := (-1)) hx hb d_X_fact_14 (by decide) ?_
    have hs : (sFact n bt rk wt cl cc su sa sc od hard r w) = ((-1), (n, bt, rk, wt, cl, cc, su, sa, sc, od)) := by unfold sFact; rw [if_neg (by rw [bI_0.mp c4, Bool.false_and]; decide)]
    exact wE_iret ((n, bt, rk, wt, cl, cc, su, sa, sc, od), (fr, cg, co, rp, rc)) hx hb hr hlocks d_X_fact_15 hS hP ⟨by rw [hs], hc⟩ (by rw [hs])
  · refine lv_iload_n hx hb d_X_fact_7 rfl (lv_at hl 3 rfl) ?_
    refine rd_S (As := [.int w]) (rest := []) ⟨hx, hb, hml, hown, hts⟩ (c_X_isWeight l w) (cwS 1 hts g_X_62 rfl rfl rfl (by decide +kernel) ⟨Nat.le_of_ble_eq_true rfl, Nat.le_of_ble_eq_true rfl⟩) rfl hl.1 rfl (Nat.le_of_ble_eq_true rfl) d_X_fact_8 ⟨Nat.zero_le _, Nat.zero_le _⟩ ?_
    refine lv_if_ne (tgt := 16) hx hb d_X_fact_11 (by decide) (fun c11 => ?_) (fun c11 => ?_)
    · have hok : (okR r && okW w) = true := by rw [show okR r = true by cases hq : okR r; exact absurd (bI_0.mpr hq) c4; rfl, show okW w = true by cases hq : okW w; exact absurd (bI_0.mpr hq) c11; rfl]; rfl
      obtain ⟨r0, hr0, er⟩ := okR_of (show okR r = true by cases hq : okR r; exact absurd (bI_0.mpr hq) c4; rfl)
      obtain ⟨v0, hv0, hv1, ew⟩ := okW_of (show okW w = true by cases hq : okW w; exact absurd (bI_0.mpr hq) c11; rfl)
      have er2 : nI r.toNatClampNeg = r := by rw [er, nI_clamp (by omega)]
      have ew2 : nI w.toNatClampNeg = w := by rw [ew, nI_clamp (by omega)]
      refine lv_aload_n hx hb d_X_fact_16 rfl (lv_at hl 0 rfl) ?_
      refine va_get (D := D) (ci := 0) (v := .int (nI n)) (C := RX) (T := TX) (N := 15) hx hb hts inX hown hK hP 0 rfl rfl 0 (by decide) (hts _ f_X_9) (fun _ h9 => h9) rfl d_X_fact_17 ?_
      refine lv_bipush (v := 11) hx hb d_X_fact_20 (by decide) ?_
      refine lv_icmp_lt (tgt := 28) hx hb d_X_fact_22 (by decide) (fun c22 => ?_) (fun c22 => ?_)
      · have hn10 : n < 11 := (nI_ltI (b := 11) (by omega) (by decide)).mp c22
        refine lv_aload_n hx hb d_X_fact_28 rfl (lv_at hl 0 rfl) ?_
        refine va_get (D := D) (ci := 0) (v := .int (nI n)) (C := RX) (T := TX) (N := 15) hx hb hts inX hown hK hP 0 rfl rfl 0 (by decide) (hts _ f_X_9) (fun _ h9 => h9) rfl d_X_fact_29 ?_
        refine lv_istore (lv' := [(4, .int (nI n)), (0, .ref (h 0)), (1, .int (bI hard)), (2, .int r), (3, .int w)]) hx hb d_X_fact_32 hl (by decide) rfl (fun ls hl => ?_)
        refine lv_aload_n hx hb d_X_fact_34 rfl (lv_at hl 1 rfl) ?_
        refine va_get (D := D) (ci := 0) (v := .ref (h 1)) (C := RX) (T := TX) (N := 15) hx hb hts inX hown hK hP 0 rfl rfl 2 (by decide) (hts _ f_X_16) (fun _ h9 => h9) rfl d_X_fact_35 ?_
        refine lv_iload hx hb d_X_fact_38 (lv_at hl 0 rfl) ?_
        refine lv_iload_n hx hb d_X_fact_40 rfl (lv_at hl 3 rfl) ?_
        refine va_iast hx hb hK hP hD hS 1 0 rfl rfl (vp_in_nI hn10 (by decide)) d_X_fact_41 (fun H locs hP hD hS => ?_)
        have hu : upd (fun j => nI (rk j)) (nI n).toNatClampNeg r = fun j => nI ((va_up rk n r.toNatClampNeg) j) := by rw [nI_clamp (by omega)]; exact upd_nI' rk n er2
        rw [hu] at hP hD
        have hP : va_P D clX (wX h cI cZ n bt (va_up rk n r.toNatClampNeg) wt cl cc su sa sc od fr cg co rp rc) H := hP
        have hD : va_D _ (wX h cI cZ n bt (va_up rk n r.toNatClampNeg) wt cl cc su sa sc od fr cg co rp rc) := hD
        refine lv_aload_n hx hb d_X_fact_42 rfl (lv_at hl 1 rfl) ?_
        refine va_get (D := D) (ci := 0) (v := .ref (h 2)) (C := RX) (T := TX) (N := 15) hx hb hts inX hown hK hP 0 rfl rfl 3 (by decide) (hts _ f_X_20) (fun _ h9 => h9) rfl d_X_fact_43 ?_
        refine lv_iload hx hb d_X_fact_46 (lv_at hl 0 rfl) ?_
        refine lv_iload_n hx hb d_X_fact_48 rfl (lv_at hl 4 rfl) ?_
        refine va_iast hx hb hK hP hD hS 2 0 rfl rfl (vp_in_nI hn10 (by decide)) d_X_fact_49 (fun H locs hP hD hS => ?_)
        have hu : upd (fun j => nI (wt j)) (nI n).toNatClampNeg w = fun j => nI ((va_up wt n w.toNatClampNeg) j) := by rw [nI_clamp (by omega)]; exact upd_nI' wt n ew2
        rw [hu] at hP hD
        have hP : va_P D clX (wX h cI cZ n bt (va_up rk n r.toNatClampNeg) (va_up wt n w.toNatClampNeg) cl cc su sa sc od fr cg co rp rc) H := hP
        have hD : va_D _ (wX h cI cZ n bt (va_up rk n r.toNatClampNeg) (va_up wt n w.toNatClampNeg) cl cc su sa sc od fr cg co rp rc) := hD
        refine lv_iload_n hx hb d_X_fact_50 rfl (lv_at hl 2 rfl) ?_
        refine lv_if_eq (tgt := 67) hx hb d_X_fact_51 (by decide) (fun c51 => ?_) (fun c51 => ?_)
        · refine lv_aload_n hx hb d_X_fact_67 rfl (lv_at hl 1 rfl) ?_
          refine lv_iload hx hb d_X_fact_68 (lv_at hl 0 rfl) ?_
          refine lv_iconst (v := 1) hx hb d_X_fact_70 (by decide) ?_
          refine lv_iadd hx hb d_X_fact_71 ?_
          refine rd_top (z := nI (n + 1)) (nI_1 n) ?_
          refine va_put (D := D) (ci := 0) (v := .int (nI (n + 1))) (ty := .int) (C := RX) (T := TX) (N := 15) hx hb hts inX tyX tyX_ok nmX hown hK hP hD hS 0 rfl rfl 0 (by decide) (hts _ f_X_9) (fun _ h9 => h9) rfl (by decide +kernel) rfl rfl (Nat.le_of_ble_eq_true rfl) d_X_fact_72 (fun H locs hP hD hS => ?_)
          have hP : va_P D clX (wX h cI cZ (n + 1) bt (va_up rk n r.toNatClampNeg) (va_up wt n w.toNatClampNeg) cl cc su sa sc od fr cg co rp rc) H := hP
          have hD : va_D _ (wX h cI cZ (n + 1) bt (va_up rk n r.toNatClampNeg) (va_up wt n w.toNatClampNeg) cl cc su sa sc od fr cg co rp rc) := hD
          refine lv_aload_n hx hb d_X_fact_75 rfl (lv_at hl 1 rfl) ?_
          refine lv_iconst (v := 0) hx hb d_X_fact_76 (by decide) ?_
          refine va_put (D := D) (ci := 0) (v := .int 0) (ty := .boolean) (C := RX) (T := TX) (N := 15) hx hb hts inX tyX tyX_ok nmX hown hK hP hD hS 0 rfl rfl 10 (by decide) (hts _ f_X_41) (fun _ h9 => h9) rfl (by decide +kernel) rfl rfl (Nat.le_of_ble_eq_true rfl) d_X_fact_77 (fun H locs hP hD hS => ?_)
          have hP : va_P D clX (wX h cI cZ (n + 1) bt (va_up rk n r.toNatClampNeg) (va_up wt n w.toNatClampNeg) cl cc su sa sc od false cg co rp rc) H := hP
          have hD : va_D _ (wX h cI cZ (n + 1) bt (va_up rk n r.toNatClampNeg) (va_up wt n w.toNatClampNeg) cl cc su sa sc od false cg co rp rc) := hD
          refine lv_iload hx hb d_X_fact_80 (lv_at hl 0 rfl) ?_
          have hs : (sFact n bt rk wt cl cc su sa sc od hard r w) = ((nI n), ((n + 1), bt, va_up rk n r.toNatClampNeg, va_up wt n w.toNatClampNeg, cl, cc, su, sa, sc, od)) := by unfold sFact; rw [if_pos hok, if_neg (show ¬ n = 11 by omega), if_neg (show ¬ hard = true by rw [bI_0.mp c51]; decide)]
          exact wE_iret (((n + 1), bt, va_up rk n r.toNatClampNeg, va_up wt n w.toNatClampNeg, cl, cc, su, sa, sc, od), (false, cg, co, rp, rc)) hx hb hr hlocks d_X_fact_82 hS hP ⟨by rw [hs], okC_f⟩ (by rw [hs])
        · refine lv_aload_n hx hb d_X_fact_54 rfl (lv_at hl 1 rfl) ?_
          refine lv_dup hx hb d_X_fact_55 rfl ?_
          refine va_get (D := D) (ci := 0) (v := .int (nI bt)) (C := RX) (T := TX) (N := 15) hx hb hts inX hown hK hP 0 rfl rfl 1 (by decide) (hts _ f_X_13) (fun _ h9 => h9) rfl d_X_fact_56 ?_
          refine lv_iconst (v := 1) hx hb d_X_fact_59 (by decide) ?_
          refine lv_iload hx hb d_X_fact_60 (lv_at hl 0 rfl) ?_
          refine lv_ishl hx hb d_X_fact_62 ?_
          refine rd_top (z := nI (2 ^ n)) (bx_shl n (by omega)) ?_
          refine lv_ior hx hb d_X_fact_63 ?_
          refine rd_top (z := nI (bt ||| 2 ^ n)) (bx_or _ _) ?_
          refine va_put (D := D) (ci := 0) (v := .int (nI (bt ||| 2 ^ n))) (ty := .int) (C := RX) (T := TX) (N := 15) hx hb hts inX tyX tyX_ok nmX hown hK hP hD hS 0 rfl rfl 1 (by decide) (hts _ f_X_13) (fun _ h9 => h9) rfl (by decide +kernel) rfl rfl (Nat.le_of_ble_eq_true rfl) d_X_fact_64 (fun H locs hP hD hS => ?_)
          have hP : va_P D clX (wX h cI cZ n (bt ||| 2 ^ n) (va_up rk n r.toNatClampNeg) (va_up wt n w.toNatClampNeg) cl cc su sa sc od fr cg co rp rc) H := hP
          have hD : va_D _ (wX h cI cZ n (bt ||| 2 ^ n) (va_up rk n r.toNatClampNeg) (va_up wt n w.toNatClampNeg) cl cc su sa sc od fr cg co rp rc) := hD
          refine lv_aload_n hx hb d_X_fact_67 rfl (lv_at hl 1 rfl) ?_
          refine lv_iload hx hb d_X_fact_68 (lv_at hl 0 rfl) ?_
          refine lv_iconst (v := 1) hx hb d_X_fact_70 (by decide) ?_
          refine lv_iadd hx hb d_X_fact_71 ?_
          refine rd_top (z := nI (n + 1)) (nI_1 n) ?_
          refine va_put (D := D) (ci := 0) (v := .int (nI (n + 1))) (ty := .int) (C := RX) (T := TX) (N := 15) hx hb hts inX tyX tyX_ok nmX hown hK hP hD hS 0 rfl rfl 0 (by decide) (hts _ f_X_9) (fun _ h9 => h9) rfl (by decide +kernel) rfl rfl (Nat.le_of_ble_eq_true rfl) d_X_fact_72 (fun H locs hP hD hS => ?_)
          have hP : va_P D clX (wX h cI cZ (n + 1) (bt ||| 2 ^ n) (va_up rk n r.toNatClampNeg) (va_up wt n w.toNatClampNeg) cl cc su sa sc od fr cg co rp rc) H := hP
          have hD : va_D _ (wX h cI cZ (n + 1) (bt ||| 2 ^ n) (va_up rk n r.toNatClampNeg) (va_up wt n w.toNatClampNeg) cl cc su sa sc od fr cg co rp rc) := hD
          refine lv_aload_n hx hb d_X_fact_75 rfl (lv_at hl 1 rfl) ?_
          refine lv_iconst (v := 0) hx hb d_X_fact_76 (by decide) ?_
          refine va_put (D := D) (ci := 0) (v := .int 0) (ty := .boolean) (C := RX) (T := TX) (N := 15) hx hb hts inX tyX tyX_ok nmX hown hK hP hD hS 0 rfl rfl 10 (by decide) (hts _ f_X_41) (fun _ h9 => h9) rfl (by decide +kernel) rfl rfl (Nat.le_of_ble_eq_true rfl) d_X_fact_77 (fun H locs hP hD hS => ?_)
          have hP : va_P D clX (wX h cI cZ (n + 1) (bt ||| 2 ^ n) (va_up rk n r.toNatClampNeg) (va_up wt n w.toNatClampNeg) cl cc su sa sc od false cg co rp rc) H := hP
          have hD : va_D _ (wX h cI cZ (n + 1) (bt ||| 2 ^ n) (va_up rk n r.toNatClampNeg) (va_up wt n w.toNatClampNeg) cl cc su sa sc od false cg co rp rc) := hD
          refine lv_iload hx hb d_X_fact_80 (lv_at hl 0 rfl) ?_
          have hs : (sFact n bt rk wt cl cc su sa sc od hard r w) = ((nI n), ((n + 1), (bt ||| 2 ^ n), va_up rk n r.toNatClampNeg, va_up wt n w.toNatClampNeg, cl, cc, su, sa, sc, od)) := by unfold sFact; rw [if_pos hok, if_neg (show ¬ n = 11 by omega), if_pos (show hard = true by cases hq : hard; exact absurd (bI_0.mpr hq) c51; rfl)]
          exact wE_iret (((n + 1), (bt ||| 2 ^ n), va_up rk n r.toNatClampNeg, va_up wt n w.toNatClampNeg, cl, cc, su, sa, sc, od), (false, cg, co, rp, rc)) hx hb hr hlocks d_X_fact_82 hS hP ⟨by rw [hs], okC_f⟩ (by rw [hs])
      · refine lv_bipush (v := (-3)) hx hb d_X_fact_25 (by decide) ?_
        have hs : (sFact n bt rk wt cl cc su sa sc od hard r w) = ((-3), (n, bt, rk, wt, cl, cc, su, sa, sc, od)) := by unfold sFact; rw [if_pos hok, if_pos (show n = 11 by rcases Nat.lt_or_ge n 11 with q | q; exact absurd ((nI_ltI (b := 11) (by omega) (by decide)).mpr q) c22; omega)]
        exact wE_iret ((n, bt, rk, wt, cl, cc, su, sa, sc, od), (fr, cg, co, rp, rc)) hx hb hr hlocks d_X_fact_27 hS hP ⟨by rw [hs], hc⟩ (by rw [hs])
    · refine lv_iconst (v := (-1)) hx hb d_X_fact_14 (by decide) ?_
      have hs : (sFact n bt rk wt cl cc su sa sc od hard r w) = ((-1), (n, bt, rk, wt, cl, cc, su, sa, sc, od)) := by unfold sFact; rw [if_neg (by rw [bI_0.mp c11, Bool.and_false]; decide)]
      exact wE_iret ((n, bt, rk, wt, cl, cc, su, sa, sc, od), (fr, cg, co, rp, rc)) hx hb hr hlocks d_X_fact_15 hS hP ⟨by rw [hs], hc⟩ (by rw [hs])
set_option maxHeartbeats 4000000 in
set_option maxRecDepth 100000 in
theorem c_X_harden (l : Launch) (sz : Nat) (x : Int32) (hard : Bool) (hg : gdA (n, bt, rk, wt, cl, cc, su, sa, sc, od)) (hc : okC (n, bt, rk, wt, cl, cc, su, sa, sc, od) fr rp rc) : Met l y_X_harden w_X_harden (k2_rm 1 21) (wr_Pc D clX (wX h cI cZ n bt rk wt cl cc su sa sc od fr cg co rp rc) [(cI, .int), (cZ, .boolean)] sz [.ref (h 0), .int x, .int (bI hard)]) (wE_Q D clX (wX h cI cZ n bt rk wt cl cc su sa sc od fr cg co rp rc) (σ := stA × stC) (wXt h cI cZ) (fun _ => some (.int (sHarden n bt rk wt cl cc su sa sc od x hard).1)) (fun u => u.1 = (sHarden n bt rk wt cl cc su sa sc od x hard).2 ∧ ocX u) sz) 0 0 (va_A (wX h cI cZ n bt rk wt cl cc su sa sc od fr cg co rp rc) sz) := by
  refine wE_met (by decide) rfl (Nat.le_of_ble_eq_true rfl) rfl ?_
  intro p e s m below meth c ls hx hb hr hml hown hts hlocks hP hK hD hS hA hl
  have hts : ∀ w ∈ tbl, w.before _ s = true := fun w h => hts w (List.mem_cons_of_mem _ h)
  have hown : s.vm.findClass RX = some m.cls := hown
  have hl : lv_has ls 3 [(0, .ref (h 0)), (1, .int x), (2, .int (bI hard))] := hl
  obtain ⟨hn, hbt, hrk, hwt, hwp, hcc, hcl, hsc, hsa, hsu, ho⟩ := id hg
  have hbt3 : bt < 2 ^ 31 := Nat.lt_of_lt_of_le hbt (Nat.pow_le_pow_right (by decide) (by omega))
  refine lv_aload_n hx hb d_X_harden_0 rfl (lv_at hl 0 rfl) ?_
  refine lv_iload_n hx hb d_X_harden_1 rfl (lv_at hl 1 rfl) ?_
  refine rd_V (As := [.int x]) (rest := []) ⟨hx, hb, hml, hown, hts⟩ (c_X_isStatement l x) (cwV 1 hts g_X_65 rfl rfl rfl (by decide +kernel) ⟨Nat.le_of_ble_eq_true rfl, Nat.le_of_ble_eq_true rfl⟩) hK hP 0 rfl rfl rfl hl.1 rfl (Nat.le_of_ble_eq_true rfl) d_X_harden_2 ⟨Nat.zero_le _, Nat.zero_le _⟩ ?_
  refine lv_if_ne (tgt := 10) hx hb d_X_harden_5 (by decide) (fun c5 => ?_) (fun c5 => ?_)
  · obtain ⟨k, hk, ek⟩ := okS_of (by omega) (show okS n x = true by cases hq : okS n x; exact absurd (bI_0.mpr hq) c5; rfl)
    subst ek
    refine lv_aload_n hx hb d_X_harden_10 rfl (lv_at hl 0 rfl) ?_
    refine lv_iload_n hx hb d_X_harden_11 rfl (lv_at hl 1 rfl) ?_
    refine rd_V (As := [.int (nI k)]) (rest := []) ⟨hx, hb, hml, hown, hts⟩ (c_X_isHard l k (by omega) hbt3) (cwV 1 hts g_X_68 rfl rfl rfl (by decide +kernel) ⟨Nat.le_of_ble_eq_true rfl, Nat.le_of_ble_eq_true rfl⟩) hK hP 0 rfl rfl rfl hl.1 rfl (Nat.le_of_ble_eq_true rfl) d_X_harden_12 ⟨Nat.zero_le _, Nat.zero_le _⟩ ?_
    refine lv_iload_n hx hb d_X_harden_15 rfl (lv_at hl 2 rfl) ?_
    refine lv_icmp_ne (tgt := 21) hx hb d_X_harden_16 (by decide) (fun c16 => ?_) (fun c16 => ?_)
    · refine lv_aload_n hx hb d_X_harden_21 rfl (lv_at hl 0 rfl) ?_
      refine lv_dup hx hb d_X_harden_22 rfl ?_
      refine va_get (D := D) (ci := 0) (v := .int (nI bt)) (C := RX) (T := TX) (N := 15) hx hb hts inX hown hK hP 0 rfl rfl 1 (by decide) (hts _ f_X_13) (fun _ h9 => h9) rfl d_X_harden_23 ?_
      refine lv_iconst (v := 1) hx hb d_X_harden_26 (by decide) ?_
      refine lv_iload_n hx hb d_X_harden_27 rfl (lv_at hl 1 rfl) ?_
      refine lv_ishl hx hb d_X_harden_28 ?_
      refine rd_top (z := nI (2 ^ k)) (bx_shl k (by omega)) ?_
      refine lv_ixor hx hb d_X_harden_29 ?_
      refine rd_top (z := nI (bt ^^^ 2 ^ k)) (bx_xor _ _) ?_
      refine va_put (D := D) (ci := 0) (v := .int (nI (bt ^^^ 2 ^ k))) (ty := .int) (C := RX) (T := TX) (N := 15) hx hb hts inX tyX tyX_ok nmX hown hK hP hD hS 0 rfl rfl 1 (by decide) (hts _ f_X_13) (fun _ h9 => h9) rfl (by decide +kernel) rfl rfl (Nat.le_of_ble_eq_true rfl) d_X_harden_30 (fun H locs hP hD hS => ?_)
      have hP : va_P D clX (wX h cI cZ n (bt ^^^ 2 ^ k) rk wt cl cc su sa sc od fr cg co rp rc) H := hP
      have hD : va_D _ (wX h cI cZ n (bt ^^^ 2 ^ k) rk wt cl cc su sa sc od fr cg co rp rc) := hD
      refine lv_aload_n hx hb d_X_harden_33 rfl (lv_at hl 0 rfl) ?_
      refine lv_iconst (v := 0) hx hb d_X_harden_34 (by decide) ?_
      refine va_put (D := D) (ci := 0) (v := .int 0) (ty := .boolean) (C := RX) (T := TX) (N := 15) hx hb hts inX tyX tyX_ok nmX hown hK hP hD hS 0 rfl rfl 10 (by decide) (hts _ f_X_41) (fun _ h9 => h9) rfl (by decide +kernel) rfl rfl (Nat.le_of_ble_eq_true rfl) d_X_harden_35 (fun H locs hP hD hS => ?_)
      have hP : va_P D clX (wX h cI cZ n (bt ^^^ 2 ^ k) rk wt cl cc su sa sc od false cg co rp rc) H := hP
      have hD : va_D _ (wX h cI cZ n (bt ^^^ 2 ^ k) rk wt cl cc su sa sc od false cg co rp rc) := hD
      refine lv_iconst (v := 1) hx hb d_X_harden_38 (by decide) ?_
      have hs : (sHarden n bt rk wt cl cc su sa sc od (nI k) hard) = (1, (n, (bt ^^^ 2 ^ k), rk, wt, cl, cc, su, sa, sc, od)) := by unfold sHarden; rw [if_pos (okS_nI (by omega) hk), nI_clamp (by omega), if_neg (fun q => c16 (by rw [q]))]
      exact wE_iret ((n, (bt ^^^ 2 ^ k), rk, wt, cl, cc, su, sa, sc, od), (false, cg, co, rp, rc)) hx hb hr hlocks d_X_harden_39 hS hP ⟨by rw [hs], okC_f⟩ (by rw [hs])
    · refine lv_iconst (v := 0) hx hb d_X_harden_19 (by decide) ?_
      have hs : (sHarden n bt rk wt cl cc su sa sc od (nI k) hard) = (0, (n, bt, rk, wt, cl, cc, su, sa, sc, od)) := by unfold sHarden; rw [if_pos (okS_nI (by omega) hk), nI_clamp (by omega), if_pos (bI_inj.mp c16)]
      exact wE_iret ((n, bt, rk, wt, cl, cc, su, sa, sc, od), (fr, cg, co, rp, rc)) hx hb hr hlocks d_X_harden_20 hS hP ⟨by rw [hs], hc⟩ (by rw [hs])
  · refine lv_iconst (v := (-1)) hx hb d_X_harden_8 (by decide) ?_
    have hs : (sHarden n bt rk wt cl cc su sa sc od x hard) = ((-1), (n, bt, rk, wt, cl, cc, su, sa, sc, od)) := by unfold sHarden; rw [if_neg (by rw [bI_0.mp c5]; decide)]
    exact wE_iret ((n, bt, rk, wt, cl, cc, su, sa, sc, od), (fr, cg, co, rp, rc)) hx hb hr hlocks d_X_harden_9 hS hP ⟨by rw [hs], hc⟩ (by rw [hs])
set_option maxHeartbeats 4000000 in
set_option maxRecDepth 100000 in
theorem c_X_weight (l : Launch) (sz : Nat) (x r w : Int32) (hg : gdA (n, bt, rk, wt, cl, cc, su, sa, sc, od)) (hc : okC (n, bt, rk, wt, cl, cc, su, sa, sc, od) fr rp rc) : Met l y_X_weight w_X_weight (k2_rm 1 21) (wr_Pc D clX (wX h cI cZ n bt rk wt cl cc su sa sc od fr cg co rp rc) [(cI, .int), (cZ, .boolean)] sz [.ref (h 0), .int x, .int r, .int w]) (wE_Q D clX (wX h cI cZ n bt rk wt cl cc su sa sc od fr cg co rp rc) (σ := stA × stC) (wXt h cI cZ) (fun _ => some (.int (sWeight n bt rk wt cl cc su sa sc od x r w).1)) (fun u => u.1 = (sWeight n bt rk wt cl cc su sa sc od x r w).2 ∧ ocX u) sz) 0 0 (va_A (wX h cI cZ n bt rk wt cl cc su sa sc od fr cg co rp rc) sz) := by
  refine wE_met (by decide) rfl (Nat.le_of_ble_eq_true rfl) rfl ?_
  intro p e s m below meth c ls hx hb hr hml hown hts hlocks hP hK hD hS hA hl
  have hts : ∀ w ∈ tbl, w.before _ s = true := fun w h => hts w (List.mem_cons_of_mem _ h)
  have hown : s.vm.findClass RX = some m.cls := hown
  have hl : lv_has ls 4 [(0, .ref (h 0)), (1, .int x), (2, .int r), (3, .int w)] := hl
  obtain ⟨hn, hbt, hrk, hwt, hwp, hcc, hcl, hsc, hsa, hsu, ho⟩ := id hg
  have hbt3 : bt < 2 ^ 31 := Nat.lt_of_lt_of_le hbt (Nat.pow_le_pow_right (by decide) (by omega))
  refine lv_aload_n hx hb d_X_weight_0 rfl (lv_at hl 0 rfl) ?_
  refine lv_iload_n hx hb d_X_weight_1 rfl (lv_at hl 1 rfl) ?_
  refine rd_V (As := [.int x]) (rest := []) ⟨hx, hb, hml, hown, hts⟩ (c_X_isStatement l x) (cwV 1 hts g_X_65 rfl rfl rfl (by decide +kernel) ⟨Nat.le_of_ble_eq_true rfl, Nat.le_of_ble_eq_true rfl⟩) hK hP 0 rfl rfl rfl hl.1 rfl (Nat.le_of_ble_eq_true rfl) d_X_weight_2 ⟨Nat.zero_le _, Nat.zero_le _⟩ ?_
  refine lv_if_eq (tgt := 22) hx hb d_X_weight_5 (by decide) (fun c5 => ?_) (fun c5 => ?_)
  · refine lv_iconst (v := (-1)) hx hb d_X_weight_22 (by decide) ?_
    have hs : (sWeight n bt rk wt cl cc su sa sc od x r w) = ((-1), (n, bt, rk, wt, cl, cc, su, sa, sc, od)) := by unfold sWeight; rw [if_neg (by rw [bI_0.mp c5, Bool.false_and]; decide)]
    exact wE_iret ((n, bt, rk, wt, cl, cc, su, sa, sc, od), (fr, cg, co, rp, rc)) hx hb hr hlocks d_X_weight_23 hS hP ⟨by rw [hs], hc⟩ (by rw [hs])
  · refine lv_iload_n hx hb d_X_weight_8 rfl (lv_at hl 2 rfl) ?_
    refine rd_S (As := [.int r]) (rest := []) ⟨hx, hb, hml, hown, hts⟩ (c_X_isRank l r) (cwS 1 hts g_X_58 rfl rfl rfl (by decide +kernel) ⟨Nat.le_of_ble_eq_true rfl, Nat.le_of_ble_eq_true rfl⟩) rfl hl.1 rfl (Nat.le_of_ble_eq_true rfl) d_X_weight_9 ⟨Nat.zero_le _, Nat.zero_le _⟩ ?_
    refine lv_if_eq (tgt := 22) hx hb d_X_weight_12 (by decide) (fun c12 => ?_) (fun c12 => ?_)
    · refine lv_iconst (v := (-1)) hx hb d_X_weight_22 (by decide) ?_
      have hs : (sWeight n bt rk wt cl cc su sa sc od x r w) = ((-1), (n, bt, rk, wt, cl, cc, su, sa, sc, od)) := by unfold sWeight; rw [if_neg (by rw [bI_0.mp c12, Bool.false_and, Bool.and_false]; decide)]
      exact wE_iret ((n, bt, rk, wt, cl, cc, su, sa, sc, od), (fr, cg, co, rp, rc)) hx hb hr hlocks d_X_weight_23 hS hP ⟨by rw [hs], hc⟩ (by rw [hs])
    · refine lv_iload_n hx hb d_X_weight_15 rfl (lv_at hl 3 rfl) ?_
      refine rd_S (As := [.int w]) (rest := []) ⟨hx, hb, hml, hown, hts⟩ (c_X_isWeight l w) (cwS 1 hts g_X_62 rfl rfl rfl (by decide +kernel) ⟨Nat.le_of_ble_eq_true rfl, Nat.le_of_ble_eq_true rfl⟩) rfl hl.1 rfl (Nat.le_of_ble_eq_true rfl) d_X_weight_16 ⟨Nat.zero_le _, Nat.zero_le _⟩ ?_
      refine lv_if_ne (tgt := 24) hx hb d_X_weight_19 (by decide) (fun c19 => ?_) (fun c19 => ?_)
      · have hok : (okR r && okW w) = true := by rw [show okR r = true by cases hq : okR r; exact absurd (bI_0.mpr hq) c12; rfl, show okW w = true by cases hq : okW w; exact absurd (bI_0.mpr hq) c19; rfl]; rfl
        obtain ⟨r0, hr0, er⟩ := okR_of (show okR r = true by cases hq : okR r; exact absurd (bI_0.mpr hq) c12; rfl)
        obtain ⟨v0, hv0, hv1, ew⟩ := okW_of (show okW w = true by cases hq : okW w; exact absurd (bI_0.mpr hq) c19; rfl)
        have er2 : nI r.toNatClampNeg = r := by rw [er, nI_clamp (by omega)]
        have ew2 : nI w.toNatClampNeg = w := by rw [ew, nI_clamp (by omega)]
        obtain ⟨k, hk, ek⟩ := okS_of (by omega) (show okS n x = true by cases hq : okS n x; exact absurd (bI_0.mpr hq) c5; rfl)
        subst ek
        refine lv_aload_n hx hb d_X_weight_24 rfl (lv_at hl 0 rfl) ?_
        refine va_get (D := D) (ci := 0) (v := .ref (h 1)) (C := RX) (T := TX) (N := 15) hx hb hts inX hown hK hP 0 rfl rfl 2 (by decide) (hts _ f_X_16) (fun _ h9 => h9) rfl d_X_weight_25 ?_
        refine lv_iload_n hx hb d_X_weight_28 rfl (lv_at hl 1 rfl) ?_
        refine lv_iload_n hx hb d_X_weight_29 rfl (lv_at hl 2 rfl) ?_
        refine va_iast hx hb hK hP hD hS 1 0 rfl rfl (vp_in_nI (show k < 11 by omega) (by decide)) d_X_weight_30 (fun H locs hP hD hS => ?_)
        have hu : upd (fun j => nI (rk j)) (nI k).toNatClampNeg r = fun j => nI ((va_up rk k r.toNatClampNeg) j) := by rw [nI_clamp (by omega)]; exact upd_nI' rk k er2
        rw [hu] at hP hD
        have hP : va_P D clX (wX h cI cZ n bt (va_up rk k r.toNatClampNeg) wt cl cc su sa sc od fr cg co rp rc) H := hP
        have hD : va_D _ (wX h cI cZ n bt (va_up rk k r.toNatClampNeg) wt cl cc su sa sc od fr cg co rp rc) := hD
        refine lv_aload_n hx hb d_X_weight_31 rfl (lv_at hl 0 rfl) ?_
        refine va_get (D := D) (ci := 0) (v := .ref (h 2)) (C := RX) (T := TX) (N := 15) hx hb hts inX hown hK hP 0 rfl rfl 3 (by decide) (hts _ f_X_20) (fun _ h9 => h9) rfl d_X_weight_32 ?_
        refine lv_iload_n hx hb d_X_weight_35 rfl (lv_at hl 1 rfl) ?_
        refine lv_iload_n hx hb d_X_weight_36 rfl (lv_at hl 3 rfl) ?_
        refine va_iast hx hb hK hP hD hS 2 0 rfl rfl (vp_in_nI (show k < 11 by omega) (by decide)) d_X_weight_37 (fun H locs hP hD hS => ?_)
        have hu : upd (fun j => nI (wt j)) (nI k).toNatClampNeg w = fun j => nI ((va_up wt k w.toNatClampNeg) j) := by rw [nI_clamp (by omega)]; exact upd_nI' wt k ew2
        rw [hu] at hP hD
        have hP : va_P D clX (wX h cI cZ n bt (va_up rk k r.toNatClampNeg) (va_up wt k w.toNatClampNeg) cl cc su sa sc od fr cg co rp rc) H := hP
        have hD : va_D _ (wX h cI cZ n bt (va_up rk k r.toNatClampNeg) (va_up wt k w.toNatClampNeg) cl cc su sa sc od fr cg co rp rc) := hD
        refine lv_aload_n hx hb d_X_weight_38 rfl (lv_at hl 0 rfl) ?_
        refine lv_iconst (v := 0) hx hb d_X_weight_39 (by decide) ?_
        refine va_put (D := D) (ci := 0) (v := .int 0) (ty := .boolean) (C := RX) (T := TX) (N := 15) hx hb hts inX tyX tyX_ok nmX hown hK hP hD hS 0 rfl rfl 10 (by decide) (hts _ f_X_41) (fun _ h9 => h9) rfl (by decide +kernel) rfl rfl (Nat.le_of_ble_eq_true rfl) d_X_weight_40 (fun H locs hP hD hS => ?_)
        have hP : va_P D clX (wX h cI cZ n bt (va_up rk k r.toNatClampNeg) (va_up wt k w.toNatClampNeg) cl cc su sa sc od false cg co rp rc) H := hP
        have hD : va_D _ (wX h cI cZ n bt (va_up rk k r.toNatClampNeg) (va_up wt k w.toNatClampNeg) cl cc su sa sc od false cg co rp rc) := hD
        refine lv_iconst (v := 1) hx hb d_X_weight_43 (by decide) ?_
        have hs : (sWeight n bt rk wt cl cc su sa sc od (nI k) r w) = (1, (n, bt, va_up rk k r.toNatClampNeg, va_up wt k w.toNatClampNeg, cl, cc, su, sa, sc, od)) := by unfold sWeight; rw [if_pos (by rw [okS_nI (by omega) hk, hok]; rfl), nI_clamp (show k < 2 ^ 31 by omega)]
        exact wE_iret ((n, bt, va_up rk k r.toNatClampNeg, va_up wt k w.toNatClampNeg, cl, cc, su, sa, sc, od), (false, cg, co, rp, rc)) hx hb hr hlocks d_X_weight_44 hS hP ⟨by rw [hs], okC_f⟩ (by rw [hs])
      · refine lv_iconst (v := (-1)) hx hb d_X_weight_22 (by decide) ?_
        have hs : (sWeight n bt rk wt cl cc su sa sc od x r w) = ((-1), (n, bt, rk, wt, cl, cc, su, sa, sc, od)) := by unfold sWeight; rw [if_neg (by rw [bI_0.mp c19, Bool.and_false, Bool.and_false]; decide)]
        exact wE_iret ((n, bt, rk, wt, cl, cc, su, sa, sc, od), (fr, cg, co, rp, rc)) hx hb hr hlocks d_X_weight_23 hS hP ⟨by rw [hs], hc⟩ (by rw [hs])
set_option maxHeartbeats 4000000 in
set_option maxRecDepth 100000 in
theorem c_X_clash (l : Launch) (sz : Nat) (x : Int32) (hg : gdA (n, bt, rk, wt, cl, cc, su, sa, sc, od)) (hc : okC (n, bt, rk, wt, cl, cc, su, sa, sc, od) fr rp rc) : Met l y_X_clash w_X_clash (k2_rm 0 0) (wr_Pc D clX (wX h cI cZ n bt rk wt cl cc su sa sc od fr cg co rp rc) [(cI, .int), (cZ, .boolean)] sz [.ref (h 0), .int x]) (wE_Q D clX (wX h cI cZ n bt rk wt cl cc su sa sc od fr cg co rp rc) (σ := stA × stC) (wXt h cI cZ) (fun _ => some (.int (sClash n bt rk wt cl cc su sa sc od x).1)) (fun u => u.1 = (sClash n bt rk wt cl cc su sa sc od x).2 ∧ ocX u) sz) 0 0 (va_A (wX h cI cZ n bt rk wt cl cc su sa sc od fr cg co rp rc) sz) := by
  refine wE_met (by decide) rfl (Nat.le_of_ble_eq_true rfl) rfl ?_
  intro p e s m below meth c ls hx hb hr hml hown hts hlocks hP hK hD hS hA hl
  have hts : ∀ w ∈ tbl, w.before _ s = true := fun w h => hts w (List.mem_cons_of_mem _ h)
  have hown : s.vm.findClass RX = some m.cls := hown
  have hl : lv_has ls 2 [(0, .ref (h 0)), (1, .int x)] := hl
  obtain ⟨hn, hbt, hrk, hwt, hwp, hcc, hcl, hsc, hsa, hsu, ho⟩ := id hg
  have hbt3 : bt < 2 ^ 31 := Nat.lt_of_lt_of_le hbt (Nat.pow_le_pow_right (by decide) (by omega))
  refine lv_aload_n hx hb d_X_clash_0 rfl (lv_at hl 0 rfl) ?_
  refine va_get (D := D) (ci := 0) (v := .int (nI cc)) (C := RX) (T := TX) (N := 15) hx hb hts inX hown hK hP 0 rfl rfl 5 (by decide) (hts _ f_X_26) (fun _ h9 => h9) rfl d_X_clash_1 ?_
  refine lv_bipush (v := 40) hx hb d_X_clash_4 (by decide) ?_
  refine lv_icmp_lt (tgt := 12) hx hb d_X_clash_6 (by decide) (fun c6 => ?_) (fun c6 => ?_)
  · have hc4 : cc < 40 := (nI_ltI (b := 40) (by omega) (by decide)).mp c6
    refine lv_aload_n hx hb d_X_clash_12 rfl (lv_at hl 0 rfl) ?_
    refine va_get (D := D) (ci := 0) (v := .ref (h 3)) (C := RX) (T := TX) (N := 15) hx hb hts inX hown hK hP 0 rfl rfl 4 (by decide) (hts _ f_X_23) (fun _ h9 => h9) rfl d_X_clash_13 ?_
    refine lv_aload_n hx hb d_X_clash_16 rfl (lv_at hl 0 rfl) ?_
    refine va_get (D := D) (ci := 0) (v := .int (nI cc)) (C := RX) (T := TX) (N := 15) hx hb hts inX hown hK hP 0 rfl rfl 5 (by decide) (hts _ f_X_26) (fun _ h9 => h9) rfl d_X_clash_17 ?_
    refine lv_iload_n hx hb d_X_clash_20 rfl (lv_at hl 1 rfl) ?_
    refine lv_sipush (v := 2047) hx hb d_X_clash_21 (by decide) ?_
    refine lv_iand hx hb d_X_clash_24 ?_
    refine rd_top (z := nI (x.toBitVec.toNat % 2 ^ 11)) (msk x) ?_
    refine va_iast hx hb hK hP hD hS 3 0 rfl rfl (vp_in_nI hc4 (by decide)) d_X_clash_25 (fun H locs hP hD hS => ?_)
    have hu : upd (fun j => nI (cl j)) (nI cc).toNatClampNeg (nI (x.toBitVec.toNat % 2 ^ 11)) = fun j => nI ((va_up cl cc (x.toBitVec.toNat % 2 ^ 11)) j) := by rw [nI_clamp (by omega)]; exact upd_nI cl cc _
    rw [hu] at hP hD
    have hP : va_P D clX (wX h cI cZ n bt rk wt (va_up cl cc (x.toBitVec.toNat % 2 ^ 11)) cc su sa sc od fr cg co rp rc) H := hP
    have hD : va_D _ (wX h cI cZ n bt rk wt (va_up cl cc (x.toBitVec.toNat % 2 ^ 11)) cc su sa sc od fr cg co rp rc) := hD
    refine lv_aload_n hx hb d_X_clash_26 rfl (lv_at hl 0 rfl) ?_
    refine lv_dup hx hb d_X_clash_27 rfl ?_
    refine va_get (D := D) (ci := 0) (v := .int (nI cc)) (C := RX) (T := TX) (N := 15) hx hb hts inX hown hK hP 0 rfl rfl 5 (by decide) (hts _ f_X_26) (fun _ h9 => h9) rfl d_X_clash_28 ?_
    refine lv_iconst (v := 1) hx hb d_X_clash_31 (by decide) ?_
    refine lv_iadd hx hb d_X_clash_32 ?_
    refine rd_top (z := nI (cc + 1)) (nI_1 cc) ?_
    refine va_put (D := D) (ci := 0) (v := .int (nI (cc + 1))) (ty := .int) (C := RX) (T := TX) (N := 15) hx hb hts inX tyX tyX_ok nmX hown hK hP hD hS 0 rfl rfl 5 (by decide) (hts _ f_X_26) (fun _ h9 => h9) rfl (by decide +kernel) rfl rfl (Nat.le_of_ble_eq_true rfl) d_X_clash_33 (fun H locs hP hD hS => ?_)
    have hP : va_P D clX (wX h cI cZ n bt rk wt (va_up cl cc (x.toBitVec.toNat % 2 ^ 11)) (cc + 1) su sa sc od fr cg co rp rc) H := hP
    have hD : va_D _ (wX h cI cZ n bt rk wt (va_up cl cc (x.toBitVec.toNat % 2 ^ 11)) (cc + 1) su sa sc od fr cg co rp rc) := hD
    refine lv_aload_n hx hb d_X_clash_36 rfl (lv_at hl 0 rfl) ?_
    refine lv_iconst (v := 0) hx hb d_X_clash_37 (by decide) ?_
    refine va_put (D := D) (ci := 0) (v := .int 0) (ty := .boolean) (C := RX) (T := TX) (N := 15) hx hb hts inX tyX tyX_ok nmX hown hK hP hD hS 0 rfl rfl 10 (by decide) (hts _ f_X_41) (fun _ h9 => h9) rfl (by decide +kernel) rfl rfl (Nat.le_of_ble_eq_true rfl) d_X_clash_38 (fun H locs hP hD hS => ?_)
    have hP : va_P D clX (wX h cI cZ n bt rk wt (va_up cl cc (x.toBitVec.toNat % 2 ^ 11)) (cc + 1) su sa sc od false cg co rp rc) H := hP
    have hD : va_D _ (wX h cI cZ n bt rk wt (va_up cl cc (x.toBitVec.toNat % 2 ^ 11)) (cc + 1) su sa sc od false cg co rp rc) := hD
    refine lv_aload_n hx hb d_X_clash_41 rfl (lv_at hl 0 rfl) ?_
    refine va_get (D := D) (ci := 0) (v := .int (nI (cc + 1))) (C := RX) (T := TX) (N := 15) hx hb hts inX hown hK hP 0 rfl rfl 5 (by decide) (hts _ f_X_26) (fun _ h9 => h9) rfl d_X_clash_42 ?_
    have hs : (sClash n bt rk wt cl cc su sa sc od x) = ((nI (cc + 1)), (n, bt, rk, wt, va_up cl cc (x.toBitVec.toNat % 2 ^ 11), (cc + 1), su, sa, sc, od)) := by unfold sClash; rw [if_neg (show ¬ cc = 40 by omega)]
    exact wE_iret ((n, bt, rk, wt, va_up cl cc (x.toBitVec.toNat % 2 ^ 11), (cc + 1), su, sa, sc, od), (false, cg, co, rp, rc)) hx hb hr hlocks d_X_clash_45 hS hP ⟨by rw [hs], okC_f⟩ (by rw [hs])
  · have hc4 : cc = 40 := by rcases Nat.lt_or_ge cc 40 with q | q; exact absurd ((nI_ltI (b := 40) (by omega) (by decide)).mpr q) c6; omega
    refine lv_bipush (v := (-3)) hx hb d_X_clash_9 (by decide) ?_
    have hs : (sClash n bt rk wt cl cc su sa sc od x) = ((-3), (n, bt, rk, wt, cl, cc, su, sa, sc, od)) := by unfold sClash; rw [if_pos hc4]
    exact wE_iret ((n, bt, rk, wt, cl, cc, su, sa, sc, od), (fr, cg, co, rp, rc)) hx hb hr hlocks d_X_clash_11 hS hP ⟨by rw [hs], hc⟩ (by rw [hs])
set_option maxHeartbeats 4000000 in
set_option maxRecDepth 100000 in
theorem c_X_settle (l : Launch) (sz : Nat)  (hg : gdA (n, bt, rk, wt, cl, cc, su, sa, sc, od)) (hc : okC (n, bt, rk, wt, cl, cc, su, sa, sc, od) fr rp rc) : Met l y_X_settle w_X_settle (k2_rm 0 0) (wr_Pc D clX (wX h cI cZ n bt rk wt cl cc su sa sc od fr cg co rp rc) [(cI, .int), (cZ, .boolean)] sz [.ref (h 0)]) (wE_Q D clX (wX h cI cZ n bt rk wt cl cc su sa sc od fr cg co rp rc) (σ := stA × stC) (wXt h cI cZ) (fun _ => some (.int (sSettle n bt rk wt cl cc su sa sc od).1)) (fun u => u.1 = (sSettle n bt rk wt cl cc su sa sc od).2 ∧ ocX u) sz) 0 0 (va_A (wX h cI cZ n bt rk wt cl cc su sa sc od fr cg co rp rc) sz) := by
  refine wE_met (by decide) rfl (Nat.le_of_ble_eq_true rfl) rfl ?_
  intro p e s m below meth c ls hx hb hr hml hown hts hlocks hP hK hD hS hA hl
  have hts : ∀ w ∈ tbl, w.before _ s = true := fun w h => hts w (List.mem_cons_of_mem _ h)
  have hown : s.vm.findClass RX = some m.cls := hown
  have hl : lv_has ls 1 [(0, .ref (h 0))] := hl
  obtain ⟨hn, hbt, hrk, hwt, hwp, hcc, hcl, hsc, hsa, hsu, ho⟩ := id hg
  have hbt3 : bt < 2 ^ 31 := Nat.lt_of_lt_of_le hbt (Nat.pow_le_pow_right (by decide) (by omega))
  refine lv_aload_n hx hb d_X_settle_0 rfl (lv_at hl 0 rfl) ?_
  refine va_get (D := D) (ci := 0) (v := .int (nI cc)) (C := RX) (T := TX) (N := 15) hx hb hts inX hown hK hP 0 rfl rfl 5 (by decide) (hts _ f_X_26) (fun _ h9 => h9) rfl d_X_settle_1 ?_
  refine lv_if_gt (tgt := 10) hx hb d_X_settle_4 (by decide) (fun c4 => ?_) (fun c4 => ?_)
  · have hc4 : 0 < cc := by rcases Nat.eq_zero_or_pos cc with q | q; (rw [q] at c4; exact absurd c4 (by decide)); exact q
    refine lv_aload_n hx hb d_X_settle_10 rfl (lv_at hl 0 rfl) ?_
    refine lv_dup hx hb d_X_settle_11 rfl ?_
    refine va_get (D := D) (ci := 0) (v := .int (nI cc)) (C := RX) (T := TX) (N := 15) hx hb hts inX hown hK hP 0 rfl rfl 5 (by decide) (hts _ f_X_26) (fun _ h9 => h9) rfl d_X_settle_12 ?_
    refine lv_iconst (v := 1) hx hb d_X_settle_15 (by decide) ?_
    refine lv_isub hx hb d_X_settle_16 ?_
    refine rd_top (z := nI (cc - 1)) (bx_dec hc4) ?_
    refine va_put (D := D) (ci := 0) (v := .int (nI (cc - 1))) (ty := .int) (C := RX) (T := TX) (N := 15) hx hb hts inX tyX tyX_ok nmX hown hK hP hD hS 0 rfl rfl 5 (by decide) (hts _ f_X_26) (fun _ h9 => h9) rfl (by decide +kernel) rfl rfl (Nat.le_of_ble_eq_true rfl) d_X_settle_17 (fun H locs hP hD hS => ?_)
    have hP : va_P D clX (wX h cI cZ n bt rk wt cl (cc - 1) su sa sc od fr cg co rp rc) H := hP
    have hD : va_D _ (wX h cI cZ n bt rk wt cl (cc - 1) su sa sc od fr cg co rp rc) := hD
    refine lv_aload_n hx hb d_X_settle_20 rfl (lv_at hl 0 rfl) ?_
    refine lv_iconst (v := 0) hx hb d_X_settle_21 (by decide) ?_
    refine va_put (D := D) (ci := 0) (v := .int 0) (ty := .boolean) (C := RX) (T := TX) (N := 15) hx hb hts inX tyX tyX_ok nmX hown hK hP hD hS 0 rfl rfl 10 (by decide) (hts _ f_X_41) (fun _ h9 => h9) rfl (by decide +kernel) rfl rfl (Nat.le_of_ble_eq_true rfl) d_X_settle_22 (fun H locs hP hD hS => ?_)
    have hP : va_P D clX (wX h cI cZ n bt rk wt cl (cc - 1) su sa sc od false cg co rp rc) H := hP
    have hD : va_D _ (wX h cI cZ n bt rk wt cl (cc - 1) su sa sc od false cg co rp rc) := hD
    refine lv_aload_n hx hb d_X_settle_25 rfl (lv_at hl 0 rfl) ?_
    refine va_get (D := D) (ci := 0) (v := .int (nI (cc - 1))) (C := RX) (T := TX) (N := 15) hx hb hts inX hown hK hP 0 rfl rfl 5 (by decide) (hts _ f_X_26) (fun _ h9 => h9) rfl d_X_settle_26 ?_
    have hs : (sSettle n bt rk wt cl cc su sa sc od) = ((nI (cc - 1)), (n, bt, rk, wt, cl, (cc - 1), su, sa, sc, od)) := by unfold sSettle; rw [if_neg (show ¬ cc = 0 by omega)]
    exact wE_iret ((n, bt, rk, wt, cl, (cc - 1), su, sa, sc, od), (false, cg, co, rp, rc)) hx hb hr hlocks d_X_settle_29 hS hP ⟨by rw [hs], okC_f⟩ (by rw [hs])
  · have hc4 : cc = 0 := by rcases Nat.eq_zero_or_pos cc with q | q; exact q; exact absurd ((nI_ltI (a := 0) (by decide) (by omega)).mpr q) c4
    refine lv_bipush (v := (-2)) hx hb d_X_settle_7 (by decide) ?_
    have hs : (sSettle n bt rk wt cl cc su sa sc od) = ((-2), (n, bt, rk, wt, cl, cc, su, sa, sc, od)) := by unfold sSettle; rw [if_pos hc4]
    exact wE_iret ((n, bt, rk, wt, cl, cc, su, sa, sc, od), (fr, cg, co, rp, rc)) hx hb hr hlocks d_X_settle_9 hS hP ⟨by rw [hs], hc⟩ (by rw [hs])
set_option maxHeartbeats 4000000 in
set_option maxRecDepth 100000 in
theorem c_X_support (l : Launch) (sz : Nat) (x y : Int32) (hg : gdA (n, bt, rk, wt, cl, cc, su, sa, sc, od)) (hc : okC (n, bt, rk, wt, cl, cc, su, sa, sc, od) fr rp rc) : Met l y_X_support w_X_support (k2_rm 1 23) (wr_Pc D clX (wX h cI cZ n bt rk wt cl cc su sa sc od fr cg co rp rc) [(cI, .int), (cZ, .boolean)] sz [.ref (h 0), .int x, .int y]) (wE_Q D clX (wX h cI cZ n bt rk wt cl cc su sa sc od fr cg co rp rc) (σ := stA × stC) (wXt h cI cZ) (fun _ => some (.int (sSupport n bt rk wt cl cc su sa sc od x y).1)) (fun u => u.1 = (sSupport n bt rk wt cl cc su sa sc od x y).2 ∧ ocX u) sz) 0 0 (va_A (wX h cI cZ n bt rk wt cl cc su sa sc od fr cg co rp rc) sz) := by
  refine wE_met (by decide) rfl (Nat.le_of_ble_eq_true rfl) rfl ?_
  intro p e s m below meth c ls hx hb hr hml hown hts hlocks hP hK hD hS hA hl
  have hts : ∀ w ∈ tbl, w.before _ s = true := fun w h => hts w (List.mem_cons_of_mem _ h)
  have hown : s.vm.findClass RX = some m.cls := hown
  have hl : lv_has ls 3 [(0, .ref (h 0)), (1, .int x), (2, .int y)] := hl
  obtain ⟨hn, hbt, hrk, hwt, hwp, hcc, hcl, hsc, hsa, hsu, ho⟩ := id hg
  have hbt3 : bt < 2 ^ 31 := Nat.lt_of_lt_of_le hbt (Nat.pow_le_pow_right (by decide) (by omega))
  refine lv_iload_n hx hb d_X_support_0 rfl (lv_at hl 1 rfl) ?_
  refine rd_S (As := [.int x]) (rest := []) ⟨hx, hb, hml, hown, hts⟩ (c_X_isAnswer l x) (cwS 1 hts g_X_71 rfl rfl rfl (by decide +kernel) ⟨Nat.le_of_ble_eq_true rfl, Nat.le_of_ble_eq_true rfl⟩) rfl hl.1 rfl (Nat.le_of_ble_eq_true rfl) d_X_support_1 ⟨Nat.zero_le _, Nat.zero_le _⟩ ?_
  refine lv_if_ne (tgt := 9) hx hb d_X_support_4 (by decide) (fun c4 => ?_) (fun c4 => ?_)
  · obtain ⟨k, hk, ek⟩ := okA_of (show okA x = true by cases hq : okA x; exact absurd (bI_0.mpr hq) c4; rfl)
    subst ek
    refine lv_aload_n hx hb d_X_support_9 rfl (lv_at hl 0 rfl) ?_
    refine va_get (D := D) (ci := 0) (v := .int (nI sc)) (C := RX) (T := TX) (N := 15) hx hb hts inX hown hK hP 0 rfl rfl 8 (by decide) (hts _ f_X_35) (fun _ h9 => h9) rfl d_X_support_10 ?_
    refine lv_bipush (v := 20) hx hb d_X_support_13 (by decide) ?_
    refine lv_icmp_lt (tgt := 21) hx hb d_X_support_15 (by decide) (fun c15 => ?_) (fun c15 => ?_)
    · have hc4 : sc < 20 := (nI_ltI (b := 20) (by omega) (by decide)).mp c15
      refine lv_aload_n hx hb d_X_support_21 rfl (lv_at hl 0 rfl) ?_
      refine va_get (D := D) (ci := 0) (v := .ref (h 4)) (C := RX) (T := TX) (N := 15) hx hb hts inX hown hK hP 0 rfl rfl 6 (by decide) (hts _ f_X_29) (fun _ h9 => h9) rfl d_X_support_22 ?_
      refine lv_aload_n hx hb d_X_support_25 rfl (lv_at hl 0 rfl) ?_
      refine va_get (D := D) (ci := 0) (v := .int (nI sc)) (C := RX) (T := TX) (N := 15) hx hb hts inX hown hK hP 0 rfl rfl 8 (by decide) (hts _ f_X_35) (fun _ h9 => h9) rfl d_X_support_26 ?_
      refine lv_iload_n hx hb d_X_support_29 rfl (lv_at hl 2 rfl) ?_
      refine lv_sipush (v := 2047) hx hb d_X_support_30 (by decide) ?_
      refine lv_iand hx hb d_X_support_33 ?_
      refine rd_top (z := nI (y.toBitVec.toNat % 2 ^ 11)) (msk y) ?_
      refine va_iast hx hb hK hP hD hS 4 0 rfl rfl (vp_in_nI hc4 (by decide)) d_X_support_34 (fun H locs hP hD hS => ?_)
      have hu : upd (fun j => nI (su j)) (nI sc).toNatClampNeg (nI (y.toBitVec.toNat % 2 ^ 11)) = fun j => nI ((va_up su sc (y.toBitVec.toNat % 2 ^ 11)) j) := by rw [nI_clamp (by omega)]; exact upd_nI su sc _
      rw [hu] at hP hD
      have hP : va_P D clX (wX h cI cZ n bt rk wt cl cc (va_up su sc (y.toBitVec.toNat % 2 ^ 11)) sa sc od fr cg co rp rc) H := hP
      have hD : va_D _ (wX h cI cZ n bt rk wt cl cc (va_up su sc (y.toBitVec.toNat % 2 ^ 11)) sa sc od fr cg co rp rc) := hD
      refine lv_aload_n hx hb d_X_support_35 rfl (lv_at hl 0 rfl) ?_
      refine va_get (D := D) (ci := 0) (v := .ref (h 5)) (C := RX) (T := TX) (N := 15) hx hb hts inX hown hK hP 0 rfl rfl 7 (by decide) (hts _ f_X_32) (fun _ h9 => h9) rfl d_X_support_36 ?_
      refine lv_aload_n hx hb d_X_support_39 rfl (lv_at hl 0 rfl) ?_
      refine va_get (D := D) (ci := 0) (v := .int (nI sc)) (C := RX) (T := TX) (N := 15) hx hb hts inX hown hK hP 0 rfl rfl 8 (by decide) (hts _ f_X_35) (fun _ h9 => h9) rfl d_X_support_40 ?_
      refine lv_iload_n hx hb d_X_support_43 rfl (lv_at hl 1 rfl) ?_
      refine va_iast hx hb hK hP hD hS 5 0 rfl rfl (vp_in_nI hc4 (by decide)) d_X_support_44 (fun H locs hP hD hS => ?_)
      have hu : upd (fun j => nI (sa j)) (nI sc).toNatClampNeg (nI k) = fun j => nI ((va_up sa sc k) j) := by rw [nI_clamp (by omega)]; exact upd_nI sa sc k
      rw [hu] at hP hD
      have hP : va_P D clX (wX h cI cZ n bt rk wt cl cc (va_up su sc (y.toBitVec.toNat % 2 ^ 11)) (va_up sa sc k) sc od fr cg co rp rc) H := hP
      have hD : va_D _ (wX h cI cZ n bt rk wt cl cc (va_up su sc (y.toBitVec.toNat % 2 ^ 11)) (va_up sa sc k) sc od fr cg co rp rc) := hD
      refine lv_aload_n hx hb d_X_support_45 rfl (lv_at hl 0 rfl) ?_
      refine lv_dup hx hb d_X_support_46 rfl ?_
      refine va_get (D := D) (ci := 0) (v := .int (nI sc)) (C := RX) (T := TX) (N := 15) hx hb hts inX hown hK hP 0 rfl rfl 8 (by decide) (hts _ f_X_35) (fun _ h9 => h9) rfl d_X_support_47 ?_
      refine lv_iconst (v := 1) hx hb d_X_support_50 (by decide) ?_
      refine lv_iadd hx hb d_X_support_51 ?_
      refine rd_top (z := nI (sc + 1)) (nI_1 sc) ?_
      refine va_put (D := D) (ci := 0) (v := .int (nI (sc + 1))) (ty := .int) (C := RX) (T := TX) (N := 15) hx hb hts inX tyX tyX_ok nmX hown hK hP hD hS 0 rfl rfl 8 (by decide) (hts _ f_X_35) (fun _ h9 => h9) rfl (by decide +kernel) rfl rfl (Nat.le_of_ble_eq_true rfl) d_X_support_52 (fun H locs hP hD hS => ?_)
      have hP : va_P D clX (wX h cI cZ n bt rk wt cl cc (va_up su sc (y.toBitVec.toNat % 2 ^ 11)) (va_up sa sc k) (sc + 1) od fr cg co rp rc) H := hP
      have hD : va_D _ (wX h cI cZ n bt rk wt cl cc (va_up su sc (y.toBitVec.toNat % 2 ^ 11)) (va_up sa sc k) (sc + 1) od fr cg co rp rc) := hD
      refine lv_aload_n hx hb d_X_support_55 rfl (lv_at hl 0 rfl) ?_
      refine lv_iload_n hx hb d_X_support_56 rfl (lv_at hl 1 rfl) ?_
      refine rd_V (As := [.int (nI k)]) (rest := []) ⟨hx, hb, hml, hown, hts⟩ (c_X_supportsOf l k (by omega) (show sc + 1 ≤ 20 by omega) (va_up_lt hsa hk)) (cwV 1 hts g_X_74 rfl rfl rfl (by decide +kernel) ⟨Nat.le_of_ble_eq_true rfl, Nat.le_of_ble_eq_true rfl⟩) hK hP 0 rfl rfl rfl hl.1 rfl (Nat.le_of_ble_eq_true rfl) d_X_support_57 ⟨Nat.zero_le _, Nat.zero_le _⟩ ?_
      have hs : (sSupport n bt rk wt cl cc su sa sc od (nI k) y) = ((nI (cntB (fun j => decide (va_up sa sc k j = k)) (sc + 1))), (n, bt, rk, wt, cl, cc, va_up su sc (y.toBitVec.toNat % 2 ^ 11), va_up sa sc k, (sc + 1), od)) := by unfold sSupport; rw [if_pos (show okA (nI k) = true from okS_nI (n := 8) (by decide) hk), if_neg (show ¬ sc = 20 by omega), nI_clamp (show k < 2 ^ 31 by omega)]
      exact wE_iret ((n, bt, rk, wt, cl, cc, va_up su sc (y.toBitVec.toNat % 2 ^ 11), va_up sa sc k, (sc + 1), od), (fr, cg, co, rp, rc)) hx hb hr hlocks d_X_support_60 hS hP ⟨by rw [hs], hc⟩ (by rw [hs])
    · have hc4 : sc = 20 := by rcases Nat.lt_or_ge sc 20 with q | q; exact absurd ((nI_ltI (b := 20) (by omega) (by decide)).mpr q) c15; omega
      refine lv_bipush (v := (-3)) hx hb d_X_support_18 (by decide) ?_
      have hs : (sSupport n bt rk wt cl cc su sa sc od (nI k) y) = ((-3), (n, bt, rk, wt, cl, cc, su, sa, sc, od)) := by unfold sSupport; rw [if_pos (show okA (nI k) = true from okS_nI (n := 8) (by decide) hk), if_pos hc4]
      exact wE_iret ((n, bt, rk, wt, cl, cc, su, sa, sc, od), (fr, cg, co, rp, rc)) hx hb hr hlocks d_X_support_20 hS hP ⟨by rw [hs], hc⟩ (by rw [hs])
  · refine lv_iconst (v := (-1)) hx hb d_X_support_7 (by decide) ?_
    have hs : (sSupport n bt rk wt cl cc su sa sc od x y) = ((-1), (n, bt, rk, wt, cl, cc, su, sa, sc, od)) := by unfold sSupport; rw [if_neg (by rw [bI_0.mp c4]; decide)]
    exact wE_iret ((n, bt, rk, wt, cl, cc, su, sa, sc, od), (fr, cg, co, rp, rc)) hx hb hr hlocks d_X_support_8 hS hP ⟨by rw [hs], hc⟩ (by rw [hs])
set_option maxHeartbeats 4000000 in
set_option maxRecDepth 100000 in
theorem c_X_order (l : Launch) (sz : Nat) (x : Int32) (hg : gdA (n, bt, rk, wt, cl, cc, su, sa, sc, od)) (hc : okC (n, bt, rk, wt, cl, cc, su, sa, sc, od) fr rp rc) : Met l y_X_order w_X_order (k2_rm 1 20) (wr_Pc D clX (wX h cI cZ n bt rk wt cl cc su sa sc od fr cg co rp rc) [(cI, .int), (cZ, .boolean)] sz [.ref (h 0), .int x]) (wE_Q D clX (wX h cI cZ n bt rk wt cl cc su sa sc od fr cg co rp rc) (σ := stA × stC) (wXt h cI cZ) (fun _ => some (.int (sOrder n bt rk wt cl cc su sa sc od x).1)) (fun u => u.1 = (sOrder n bt rk wt cl cc su sa sc od x).2 ∧ ocX u) sz) 0 0 (va_A (wX h cI cZ n bt rk wt cl cc su sa sc od fr cg co rp rc) sz) := by
  refine wE_met (by decide) rfl (Nat.le_of_ble_eq_true rfl) rfl ?_
  intro p e s m below meth c ls hx hb hr hml hown hts hlocks hP hK hD hS hA hl
  have hts : ∀ w ∈ tbl, w.before _ s = true := fun w h => hts w (List.mem_cons_of_mem _ h)
  have hown : s.vm.findClass RX = some m.cls := hown
  have hl : lv_has ls 2 [(0, .ref (h 0)), (1, .int x)] := hl
  obtain ⟨hn, hbt, hrk, hwt, hwp, hcc, hcl, hsc, hsa, hsu, ho⟩ := id hg
  have hbt3 : bt < 2 ^ 31 := Nat.lt_of_lt_of_le hbt (Nat.pow_le_pow_right (by decide) (by omega))
  refine lv_iload_n hx hb d_X_order_0 rfl (lv_at hl 1 rfl) ?_
  refine rd_S (As := [.int x]) (rest := []) ⟨hx, hb, hml, hown, hts⟩ (c_X_isOrder l x) (cwS 1 hts g_X_78 rfl rfl rfl (by decide +kernel) ⟨Nat.le_of_ble_eq_true rfl, Nat.le_of_ble_eq_true rfl⟩) rfl hl.1 rfl (Nat.le_of_ble_eq_true rfl) d_X_order_1 ⟨Nat.zero_le _, Nat.zero_le _⟩ ?_
  refine lv_if_ne (tgt := 9) hx hb d_X_order_4 (by decide) (fun c4 => ?_) (fun c4 => ?_)
  · have hok := (show okO x = true by cases hq : okO x; exact absurd (bI_0.mpr hq) c4; rfl)
    obtain ⟨k, hk, ek⟩ := okO_of (show okO x = true by cases hq : okO x; exact absurd (bI_0.mpr hq) c4; rfl)
    subst ek
    refine lv_aload_n hx hb d_X_order_9 rfl (lv_at hl 0 rfl) ?_
    refine lv_iload_n hx hb d_X_order_10 rfl (lv_at hl 1 rfl) ?_
    refine va_put (D := D) (ci := 0) (v := .int (nI k)) (ty := .int) (C := RX) (T := TX) (N := 15) hx hb hts inX tyX tyX_ok nmX hown hK hP hD hS 0 rfl rfl 9 (by decide) (hts _ f_X_38) (fun _ h9 => h9) rfl (by decide +kernel) rfl rfl (Nat.le_of_ble_eq_true rfl) d_X_order_11 (fun H locs hP hD hS => ?_)
    have hP : va_P D clX (wX h cI cZ n bt rk wt cl cc su sa sc k fr cg co rp rc) H := hP
    have hD : va_D _ (wX h cI cZ n bt rk wt cl cc su sa sc k fr cg co rp rc) := hD
    refine lv_aload_n hx hb d_X_order_14 rfl (lv_at hl 0 rfl) ?_
    refine lv_iconst (v := 0) hx hb d_X_order_15 (by decide) ?_
    refine va_put (D := D) (ci := 0) (v := .int 0) (ty := .boolean) (C := RX) (T := TX) (N := 15) hx hb hts inX tyX tyX_ok nmX hown hK hP hD hS 0 rfl rfl 10 (by decide) (hts _ f_X_41) (fun _ h9 => h9) rfl (by decide +kernel) rfl rfl (Nat.le_of_ble_eq_true rfl) d_X_order_16 (fun H locs hP hD hS => ?_)
    have hP : va_P D clX (wX h cI cZ n bt rk wt cl cc su sa sc k false cg co rp rc) H := hP
    have hD : va_D _ (wX h cI cZ n bt rk wt cl cc su sa sc k false cg co rp rc) := hD
    refine lv_iconst (v := 1) hx hb d_X_order_19 (by decide) ?_
    have hs : (sOrder n bt rk wt cl cc su sa sc od (nI k)) = (1, (n, bt, rk, wt, cl, cc, su, sa, sc, k)) := by unfold sOrder; rw [if_pos hok, nI_clamp (show k < 2 ^ 31 by omega)]
    exact wE_iret ((n, bt, rk, wt, cl, cc, su, sa, sc, k), (false, cg, co, rp, rc)) hx hb hr hlocks d_X_order_20 hS hP ⟨by rw [hs], okC_f⟩ (by rw [hs])
  · refine lv_iconst (v := (-1)) hx hb d_X_order_7 (by decide) ?_
    have hs : (sOrder n bt rk wt cl cc su sa sc od x) = ((-1), (n, bt, rk, wt, cl, cc, su, sa, sc, od)) := by unfold sOrder; rw [if_neg (by rw [bI_0.mp c4]; decide)]
    exact wE_iret ((n, bt, rk, wt, cl, cc, su, sa, sc, od), (fr, cg, co, rp, rc)) hx hb hr hlocks d_X_order_8 hS hP ⟨by rw [hs], hc⟩ (by rw [hs])
end MX8
end
section
section MX9
variable {D : va_G} {h : Nat → Nat} {cI cZ : ClassId} {n bt : Nat} {rk wt cl : Nat → Nat} {cc : Nat} {su sa : Nat → Nat} {sc od : Nat} {fr : Bool} {cg : Nat → Bool} {co rp : Nat → Nat} {rc : Nat}
set_option maxHeartbeats 4000000 in
set_option maxRecDepth 100000 in
theorem c_X_find (l : Launch) (sz : Nat)  (hg : gdA (n, bt, rk, wt, cl, cc, su, sa, sc, od)) (hc : okC (n, bt, rk, wt, cl, cc, su, sa, sc, od) fr rp rc) : Met l y_X_find w_X_find (k2_rm 5 108) (wr_Pc D clX (wX h cI cZ n bt rk wt cl cc su sa sc od fr cg co rp rc) [(cI, .int), (cZ, .boolean)] sz [.ref (h 0)]) (wE_Q D clX (wX h cI cZ n bt rk wt cl cc su sa sc od fr cg co rp rc) (σ := stA × stC) (wXt h cI cZ) (fun _ => some (.int (nI (reps n bt rk wt cl cc od).length))) (fun u => u.1 = (n, bt, rk, wt, cl, cc, su, sa, sc, od) ∧ ocX u) sz) 0 0 (va_A (wX h cI cZ n bt rk wt cl cc su sa sc od fr cg co rp rc) sz) := by
  refine wE_met (by decide) rfl (Nat.le_of_ble_eq_true rfl) rfl ?_
  intro p e s m below meth c ls hx hb hr hml hown hts hlocks hP hK hD hS hA hl
  have hts : ∀ w ∈ tbl, w.before _ s = true := fun w h => hts w (List.mem_cons_of_mem _ h)
  have hown : s.vm.findClass RX = some m.cls := hown
  have hl : lv_has ls 1 [(0, .ref (h 0))] := hl
  obtain ⟨hn, hbt, hrk, hwt, hwp, hcc, hcl, hsc, hsa, hsu, ho⟩ := id hg
  have hbt3 : bt < 2 ^ 31 := Nat.lt_of_lt_of_le hbt (Nat.pow_le_pow_right (by decide) (by omega))
  have hlen : (reps n bt rk wt cl cc od).length ≤ 462 := rep_len hn (Nat.le_refl _) hrk hwp
  refine lv_aload_n hx hb d_X_find_0 rfl (lv_at hl 0 rfl) ?_
  refine wE_V (As := []) (rest := []) ⟨hx, hb, hml, hown, hts⟩ (c_X_refresh l _ ⟨hn, hbt, hrk, hwt, hwp, hcc, hcl, ho, hc⟩) (cwV 0 hts g_X_81 rfl rfl rfl (by decide +kernel) ⟨Nat.le_of_ble_eq_true rfl, Nat.le_of_ble_eq_true rfl⟩) hK hP hD hS hA 0 rfl rfl rfl hl.1 rfl (Nat.le_of_ble_eq_true rfl) d_X_find_1 ⟨Nat.zero_le _, Nat.zero_le _⟩ (fun _ => rfl) (fun v H locs hv hP hD hS => ?_)
  obtain ⟨g1, co1, rp1⟩ := v
  have hv : isArr rp1 (reps n bt rk wt cl cc od) := hv
  have hv2 : ∀ i, i < (reps n bt rk wt cl cc od).length → rp1 i = (reps n bt rk wt cl cc od).getD i 0 := hv
  have hP : va_P D clX (wX h cI cZ n bt rk wt cl cc su sa sc od true g1 co1 rp1 ((reps n bt rk wt cl cc od).length)) H := hP
  have hD : va_D _ (wX h cI cZ n bt rk wt cl cc su sa sc od true g1 co1 rp1 ((reps n bt rk wt cl cc od).length)) := hD
  refine lv_aload_n hx hb d_X_find_4 rfl (lv_at hl 0 rfl) ?_
  refine va_get (D := D) (ci := 0) (v := .int (nI ((reps n bt rk wt cl cc od).length))) (C := RX) (T := TX) (N := 15) hx hb hts inX hown hK hP 0 rfl rfl 14 (by decide) (hts _ f_X_55) (fun _ h9 => h9) rfl d_X_find_5 ?_
  have hs : (nI (reps n bt rk wt cl cc od).length) = (nI ((reps n bt rk wt cl cc od).length)) := by rfl
  exact wE_iret ((n, bt, rk, wt, cl, cc, su, sa, sc, od), (true, g1, co1, rp1, (reps n bt rk wt cl cc od).length)) hx hb hr hlocks d_X_find_8 hS hP ⟨rfl, (fun _ => ⟨hv, rfl⟩)⟩ (by rw [hs])
set_option maxHeartbeats 4000000 in
set_option maxRecDepth 100000 in
theorem c_X_kept (l : Launch) (sz : Nat) (x : Int32) (hg : gdA (n, bt, rk, wt, cl, cc, su, sa, sc, od)) (hc : okC (n, bt, rk, wt, cl, cc, su, sa, sc, od) fr rp rc) : Met l y_X_kept w_X_kept (k2_rm 5 108) (wr_Pc D clX (wX h cI cZ n bt rk wt cl cc su sa sc od fr cg co rp rc) [(cI, .int), (cZ, .boolean)] sz [.ref (h 0), .int x]) (wE_Q D clX (wX h cI cZ n bt rk wt cl cc su sa sc od fr cg co rp rc) (σ := stA × stC) (wXt h cI cZ) (fun _ => some (.int (rKept (reps n bt rk wt cl cc od) x))) (fun u => u.1 = (n, bt, rk, wt, cl, cc, su, sa, sc, od) ∧ ocX u) sz) 0 0 (va_A (wX h cI cZ n bt rk wt cl cc su sa sc od fr cg co rp rc) sz) := by
  refine wE_met (by decide) rfl (Nat.le_of_ble_eq_true rfl) rfl ?_
  intro p e s m below meth c ls hx hb hr hml hown hts hlocks hP hK hD hS hA hl
  have hts : ∀ w ∈ tbl, w.before _ s = true := fun w h => hts w (List.mem_cons_of_mem _ h)
  have hown : s.vm.findClass RX = some m.cls := hown
  have hl : lv_has ls 2 [(0, .ref (h 0)), (1, .int x)] := hl
  obtain ⟨hn, hbt, hrk, hwt, hwp, hcc, hcl, hsc, hsa, hsu, ho⟩ := id hg
  have hbt3 : bt < 2 ^ 31 := Nat.lt_of_lt_of_le hbt (Nat.pow_le_pow_right (by decide) (by omega))
  have hlen : (reps n bt rk wt cl cc od).length ≤ 462 := rep_len hn (Nat.le_refl _) hrk hwp
  refine lv_aload_n hx hb d_X_kept_0 rfl (lv_at hl 0 rfl) ?_
  refine wE_V (As := []) (rest := []) ⟨hx, hb, hml, hown, hts⟩ (c_X_refresh l _ ⟨hn, hbt, hrk, hwt, hwp, hcc, hcl, ho, hc⟩) (cwV 0 hts g_X_81 rfl rfl rfl (by decide +kernel) ⟨Nat.le_of_ble_eq_true rfl, Nat.le_of_ble_eq_true rfl⟩) hK hP hD hS hA 0 rfl rfl rfl hl.1 rfl (Nat.le_of_ble_eq_true rfl) d_X_kept_1 ⟨Nat.zero_le _, Nat.zero_le _⟩ (fun _ => rfl) (fun v H locs hv hP hD hS => ?_)
  obtain ⟨g1, co1, rp1⟩ := v
  have hv : isArr rp1 (reps n bt rk wt cl cc od) := hv
  have hv2 : ∀ i, i < (reps n bt rk wt cl cc od).length → rp1 i = (reps n bt rk wt cl cc od).getD i 0 := hv
  have hP : va_P D clX (wX h cI cZ n bt rk wt cl cc su sa sc od true g1 co1 rp1 ((reps n bt rk wt cl cc od).length)) H := hP
  have hD : va_D _ (wX h cI cZ n bt rk wt cl cc su sa sc od true g1 co1 rp1 ((reps n bt rk wt cl cc od).length)) := hD
  refine lv_aload_n hx hb d_X_kept_4 rfl (lv_at hl 0 rfl) ?_
  refine lv_iload_n hx hb d_X_kept_5 rfl (lv_at hl 1 rfl) ?_
  refine rd_V (As := [.int x]) (rest := []) ⟨hx, hb, hml, hown, hts⟩ (c_X_isRepair l x) (cwV 1 hts g_X_84 rfl rfl rfl (by decide +kernel) ⟨Nat.le_of_ble_eq_true rfl, Nat.le_of_ble_eq_true rfl⟩) hK hP 0 rfl rfl rfl hl.1 rfl (Nat.le_of_ble_eq_true rfl) d_X_kept_6 ⟨Nat.zero_le _, Nat.zero_le _⟩ ?_
  refine lv_if_eq (tgt := 21) hx hb d_X_kept_9 (by decide) (fun c9 => ?_) (fun c9 => ?_)
  · refine lv_bipush (v := (-2)) hx hb d_X_kept_21 (by decide) ?_
    have hs : (rKept (reps n bt rk wt cl cc od) x) = (-2) := by unfold rKept; rw [if_neg (by rw [bI_0.mp c9]; decide)]
    exact wE_iret ((n, bt, rk, wt, cl, cc, su, sa, sc, od), (true, g1, co1, rp1, (reps n bt rk wt cl cc od).length)) hx hb hr hlocks d_X_kept_23 hS hP ⟨rfl, (fun _ => ⟨hv, rfl⟩)⟩ (by rw [hs])
  · obtain ⟨k, hk, ek⟩ := okS_of (by omega) (show okS (reps n bt rk wt cl cc od).length x = true by cases hq : okS (reps n bt rk wt cl cc od).length x; exact absurd (bI_0.mpr hq) c9; rfl)
    subst ek
    refine lv_aload_n hx hb d_X_kept_12 rfl (lv_at hl 0 rfl) ?_
    refine va_get (D := D) (ci := 0) (v := .ref (h 8)) (C := RX) (T := TX) (N := 15) hx hb hts inX hown hK hP 0 rfl rfl 13 (by decide) (hts _ f_X_52) (fun _ h9 => h9) rfl d_X_kept_13 ?_
    refine lv_iload_n hx hb d_X_kept_16 rfl (lv_at hl 1 rfl) ?_
    refine va_iald hx hb hK hP 8 0 rfl rfl (vp_in_nI (show k < 462 by omega) (by decide)) d_X_kept_17 ?_
    refine rd_top (z := nI (rp1 k)) (ar_nI rp1 (by omega)) ?_
    refine lv_goto (tgt := 23) hx hb d_X_kept_18 (by decide) ?_
    have hs : (rKept (reps n bt rk wt cl cc od) (nI k)) = (nI (rp1 k)) := by unfold rKept; rw [if_pos (okS_nI (by omega) hk), nI_clamp (by omega), hv2 k hk]
    exact wE_iret ((n, bt, rk, wt, cl, cc, su, sa, sc, od), (true, g1, co1, rp1, (reps n bt rk wt cl cc od).length)) hx hb hr hlocks d_X_kept_23 hS hP ⟨rfl, (fun _ => ⟨hv, rfl⟩)⟩ (by rw [hs])
set_option maxHeartbeats 4000000 in
set_option maxRecDepth 100000 in
theorem c_X_left (l : Launch) (sz : Nat) (x y : Int32) (hg : gdA (n, bt, rk, wt, cl, cc, su, sa, sc, od)) (hc : okC (n, bt, rk, wt, cl, cc, su, sa, sc, od) fr rp rc) : Met l y_X_left w_X_left (k2_rm 5 108) (wr_Pc D clX (wX h cI cZ n bt rk wt cl cc su sa sc od fr cg co rp rc) [(cI, .int), (cZ, .boolean)] sz [.ref (h 0), .int x, .int y]) (wE_Q D clX (wX h cI cZ n bt rk wt cl cc su sa sc od fr cg co rp rc) (σ := stA × stC) (wXt h cI cZ) (fun _ => some (.int (rLeft n (reps n bt rk wt cl cc od) x y))) (fun u => u.1 = (n, bt, rk, wt, cl, cc, su, sa, sc, od) ∧ ocX u) sz) 0 0 (va_A (wX h cI cZ n bt rk wt cl cc su sa sc od fr cg co rp rc) sz) := by
  refine wE_met (by decide) rfl (Nat.le_of_ble_eq_true rfl) rfl ?_
  intro p e s m below meth c ls hx hb hr hml hown hts hlocks hP hK hD hS hA hl
  have hts : ∀ w ∈ tbl, w.before _ s = true := fun w h => hts w (List.mem_cons_of_mem _ h)
  have hown : s.vm.findClass RX = some m.cls := hown
  have hl : lv_has ls 6 [(0, .ref (h 0)), (1, .int x), (2, .int y)] := hl
  obtain ⟨hn, hbt, hrk, hwt, hwp, hcc, hcl, hsc, hsa, hsu, ho⟩ := id hg
  have hbt3 : bt < 2 ^ 31 := Nat.lt_of_lt_of_le hbt (Nat.pow_le_pow_right (by decide) (by omega))
  have hlen : (reps n bt rk wt cl cc od).length ≤ 462 := rep_len hn (Nat.le_refl _) hrk hwp
  refine lv_aload_n hx hb d_X_left_0 rfl (lv_at hl 0 rfl) ?_
  refine wE_V (As := []) (rest := []) ⟨hx, hb, hml, hown, hts⟩ (c_X_refresh l _ ⟨hn, hbt, hrk, hwt, hwp, hcc, hcl, ho, hc⟩) (cwV 0 hts g_X_81 rfl rfl rfl (by decide +kernel) ⟨Nat.le_of_ble_eq_true rfl, Nat.le_of_ble_eq_true rfl⟩) hK hP hD hS hA 0 rfl rfl rfl hl.1 rfl (Nat.le_of_ble_eq_true rfl) d_X_left_1 ⟨Nat.zero_le _, Nat.zero_le _⟩ (fun _ => rfl) (fun v H locs hv hP hD hS => ?_)
  obtain ⟨g1, co1, rp1⟩ := v
  have hv : isArr rp1 (reps n bt rk wt cl cc od) := hv
  have hv2 : ∀ i, i < (reps n bt rk wt cl cc od).length → rp1 i = (reps n bt rk wt cl cc od).getD i 0 := hv
  have hP : va_P D clX (wX h cI cZ n bt rk wt cl cc su sa sc od true g1 co1 rp1 ((reps n bt rk wt cl cc od).length)) H := hP
  have hD : va_D _ (wX h cI cZ n bt rk wt cl cc su sa sc od true g1 co1 rp1 ((reps n bt rk wt cl cc od).length)) := hD
  refine lv_aload_n hx hb d_X_left_4 rfl (lv_at hl 0 rfl) ?_
  refine lv_iload_n hx hb d_X_left_5 rfl (lv_at hl 1 rfl) ?_
  refine rd_V (As := [.int x]) (rest := []) ⟨hx, hb, hml, hown, hts⟩ (c_X_isRepair l x) (cwV 1 hts g_X_84 rfl rfl rfl (by decide +kernel) ⟨Nat.le_of_ble_eq_true rfl, Nat.le_of_ble_eq_true rfl⟩) hK hP 0 rfl rfl rfl hl.1 rfl (Nat.le_of_ble_eq_true rfl) d_X_left_6 ⟨Nat.zero_le _, Nat.zero_le _⟩ ?_
  refine lv_if_eq (tgt := 16) hx hb d_X_left_9 (by decide) (fun c9 => ?_) (fun c9 => ?_)
  · refine lv_bipush (v := (-2)) hx hb d_X_left_16 (by decide) ?_
    have hs : (rLeft n (reps n bt rk wt cl cc od) x y) = (-2) := by unfold rLeft; rw [if_neg (fun q => by rw [bI_0.mp c9] at q; exact absurd q.1 (by decide))]
    exact wE_iret ((n, bt, rk, wt, cl, cc, su, sa, sc, od), (true, g1, co1, rp1, (reps n bt rk wt cl cc od).length)) hx hb hr hlocks d_X_left_18 hS hP ⟨rfl, (fun _ => ⟨hv, rfl⟩)⟩ (by rw [hs])
  · refine lv_iload_n hx hb d_X_left_12 rfl (lv_at hl 2 rfl) ?_
    refine lv_if_ge (tgt := 19) hx hb d_X_left_13 (by decide) (fun c13 => ?_) (fun c13 => ?_)
    · have hx0 := (show okS (reps n bt rk wt cl cc od).length x = true by cases hq : okS (reps n bt rk wt cl cc od).length x; exact absurd (bI_0.mpr hq) c9; rfl)
      obtain ⟨k, hk, ek⟩ := okS_of (by omega) hx0
      subst ek
      obtain ⟨b, hb9, eb⟩ := nI_of (fun q => absurd c13 (Int32.not_le.mpr q))
      subst eb
      have hrp1 : rp1 k < 2 ^ 31 := by rw [hv2 k hk]; exact Nat.lt_trans (rep_lt hn hk) (by decide)
      have hlf : rLeft n (reps n bt rk wt cl cc od) (nI k) (nI b) = oI (nthF (fun j => !((reps n bt rk wt cl cc od).getD k 0).testBit j) n 0 b) := by unfold rLeft; rw [if_pos ⟨hx0, nI_pos hb9⟩, nI_clamp (show k < 2 ^ 31 by omega), nI_clamp hb9]
      refine lv_aload_n hx hb d_X_left_19 rfl (lv_at hl 0 rfl) ?_
      refine va_get (D := D) (ci := 0) (v := .ref (h 8)) (C := RX) (T := TX) (N := 15) hx hb hts inX hown hK hP 0 rfl rfl 13 (by decide) (hts _ f_X_52) (fun _ h9 => h9) rfl d_X_left_20 ?_
      refine lv_iload_n hx hb d_X_left_23 rfl (lv_at hl 1 rfl) ?_
      refine va_iald hx hb hK hP 8 0 rfl rfl (vp_in_nI (show k < 462 by omega) (by decide)) d_X_left_24 ?_
      refine rd_top (z := nI (rp1 k)) (ar_nI rp1 (by omega)) ?_
      refine lv_istore_n (lv' := [(3, .int (nI (rp1 k))), (0, .ref (h 0)), (1, .int (nI k)), (2, .int (nI b))]) hx hb d_X_left_25 rfl hl (by decide) rfl (fun ls hl => ?_)
      refine lv_iconst (v := 0) hx hb d_X_left_26 (by decide) ?_
      refine lv_istore (lv' := [(4, .int 0), (3, .int (nI (rp1 k))), (0, .ref (h 0)), (1, .int (nI k)), (2, .int (nI b))]) hx hb d_X_left_27 hl (by decide) rfl (fun ls hl => ?_)
      refine lv_iconst (v := 0) hx hb d_X_left_29 (by decide) ?_
      refine lv_istore (lv' := [(5, .int 0), (4, .int 0), (3, .int (nI (rp1 k))), (0, .ref (h 0)), (1, .int (nI k)), (2, .int (nI b))]) hx hb d_X_left_30 hl (by decide) rfl (fun ls hl => ?_)
      refine wr_loop (nL := 6) (σ := Nat) (n) (fun i x => [(0, .ref (h 0)), (1, .int (nI k)), (2, .int (nI b)), (3, .int (nI (rp1 k))), (4, .int (nI x)), (5, .int (nI i))]) (fun i x => wX h cI cZ n bt rk wt cl cc su sa sc od true g1 co1 rp1 ((reps n bt rk wt cl cc od).length)) (fun i x => x ≤ b ∧ nthF (fun j => !((reps n bt rk wt cl cc od).getD k 0).testBit j) n 0 b = nthF (fun j => !((reps n bt rk wt cl cc od).getD k 0).testBit j) (n - i) i (b - x)) ?_ 0 0 ls _ _ (Nat.zero_le _) (⟨Nat.zero_le _, rfl⟩) (lv_sub hl [3, 4, 5, 2, 1, 0] rfl) hP hD hS
      intro i x ls H locs hi hI hl hP hD hS ih
      obtain ⟨hxb, hI⟩ : x ≤ b ∧ nthF (fun j => !((reps n bt rk wt cl cc od).getD k 0).testBit j) n 0 b = nthF (fun j => !((reps n bt rk wt cl cc od).getD k 0).testBit j) (n - i) i (b - x) := hI
      have hl : lv_has ls 6 [(0, .ref (h 0)), (1, .int (nI k)), (2, .int (nI b)), (3, .int (nI (rp1 k))), (4, .int (nI x)), (5, .int (nI i))] := hl
      have hP : va_P D clX (wX h cI cZ n bt rk wt cl cc su sa sc od true g1 co1 rp1 ((reps n bt rk wt cl cc od).length)) H := hP
      have hD : va_D _ (wX h cI cZ n bt rk wt cl cc su sa sc od true g1 co1 rp1 ((reps n bt rk wt cl cc od).length)) := hD
      refine lv_iload hx hb d_X_left_32 (lv_at hl 5 rfl) ?_
      refine lv_aload_n hx hb d_X_left_34 rfl (lv_at hl 0 rfl) ?_
      refine va_get (D := D) (ci := 0) (v := .int (nI n)) (C := RX) (T := TX) (N := 15) hx hb hts inX hown hK hP 0 rfl rfl 0 (by decide) (hts _ f_X_9) (fun _ h9 => h9) rfl d_X_left_35 ?_
      refine lv_icmp_ge (tgt := 68) hx hb d_X_left_38 (by decide) (fun c38 => ?_) (fun c38 => ?_)
      · have hN : i = n := lp_ge hi (by omega) c38
        refine lv_bipush (v := (-2)) hx hb d_X_left_68 (by decide) ?_
        have hs : (rLeft n (reps n bt rk wt cl cc od) (nI k) (nI b)) = (-2) := by rw [hlf, hI, hN, Nat.sub_self]; rfl
        exact wE_iret ((n, bt, rk, wt, cl, cc, su, sa, sc, od), (true, g1, co1, rp1, (reps n bt rk wt cl cc od).length)) hx hb hr hlocks d_X_left_70 hS hP ⟨rfl, (fun _ => ⟨hv, rfl⟩)⟩ (by rw [hs])
      · have hlt : i < n := lp_lt hi (by omega) c38
        refine lv_iload_n hx hb d_X_left_41 rfl (lv_at hl 3 rfl) ?_
        refine lv_iconst (v := 1) hx hb d_X_left_42 (by decide) ?_
        refine lv_iload hx hb d_X_left_43 (lv_at hl 5 rfl) ?_
        refine lv_ishl hx hb d_X_left_45 ?_
        refine rd_top (z := nI (2 ^ i)) (bx_shl i (by omega)) ?_
        refine lv_iand hx hb d_X_left_46 ?_
        refine lv_if_ne (tgt := 62) hx hb d_X_left_47 (by decide) (fun c47 => ?_) (fun c47 => ?_)
        · refine lv_iinc (v := (nI (i + 1))) (lv' := [(5, .int (nI (i + 1))), (0, .ref (h 0)), (1, .int (nI k)), (2, .int (nI b)), (3, .int (nI (rp1 k))), (4, .int (nI x))]) hx hb d_X_left_62 hl (k := 5) rfl (nI_1 i) (by decide) rfl (fun ls hl => ?_)
          refine lv_goto (tgt := 32) hx hb d_X_left_65 (by decide) ?_
          exact ih hlt x ls _ _ (⟨hxb, by rw [hI, show n - i = (n - (i + 1)) + 1 by omega, nthF, if_neg (by rw [← hv2 k hk, show (rp1 k).testBit i = true by cases hq : (rp1 k).testBit i; exact absurd ((bx_bit hrp1 (by omega)).mpr hq) c47; rfl]; decide)]⟩) (lv_sub hl [1, 2, 3, 4, 5, 0] rfl) hP hD hS
        · refine lv_iload hx hb d_X_left_50 (lv_at hl 4 rfl) ?_
          refine lv_iload_n hx hb d_X_left_52 rfl (lv_at hl 2 rfl) ?_
          refine lv_icmp_ne (tgt := 59) hx hb d_X_left_53 (by decide) (fun c53 => ?_) (fun c53 => ?_)
          · refine lv_iinc (v := (nI (x + 1))) (lv' := [(4, .int (nI (x + 1))), (0, .ref (h 0)), (1, .int (nI k)), (2, .int (nI b)), (3, .int (nI (rp1 k))), (5, .int (nI i))]) hx hb d_X_left_59 hl (k := 4) rfl (nI_1 x) (by decide) rfl (fun ls hl => ?_)
            refine lv_iinc (v := (nI (i + 1))) (lv' := [(5, .int (nI (i + 1))), (4, .int (nI (x + 1))), (0, .ref (h 0)), (1, .int (nI k)), (2, .int (nI b)), (3, .int (nI (rp1 k)))]) hx hb d_X_left_62 hl (k := 5) rfl (nI_1 i) (by decide) rfl (fun ls hl => ?_)
            refine lv_goto (tgt := 32) hx hb d_X_left_65 (by decide) ?_
            exact ih hlt (x + 1) ls _ _ (⟨by have : ¬ x = b := fun q => c53 (by rw [q]); omega, by rw [hI, show n - i = (n - (i + 1)) + 1 by omega, nthF, if_pos (by rw [← hv2 k hk, (bx_bit hrp1 (by omega)).mp c47]; rfl), if_neg (show ¬ b - x = 0 by have : ¬ x = b := fun q => c53 (by rw [q]); omega), show b - (x + 1) = b - x - 1 by omega]⟩) (lv_sub hl [2, 3, 4, 5, 1, 0] rfl) hP hD hS
          · refine lv_iload hx hb d_X_left_56 (lv_at hl 5 rfl) ?_
            have hs : (rLeft n (reps n bt rk wt cl cc od) (nI k) (nI b)) = (nI i) := by rw [hlf, hI, show n - i = (n - (i + 1)) + 1 by omega, nthF, if_pos (by rw [← hv2 k hk, (bx_bit hrp1 (by omega)).mp c47]; rfl), if_pos (show b - x = 0 by have := (nI_eq (by omega) hb9).mp c53; omega)]; rfl
            exact wE_iret ((n, bt, rk, wt, cl, cc, su, sa, sc, od), (true, g1, co1, rp1, (reps n bt rk wt cl cc od).length)) hx hb hr hlocks d_X_left_58 hS hP ⟨rfl, (fun _ => ⟨hv, rfl⟩)⟩ (by rw [hs])
    · refine lv_bipush (v := (-2)) hx hb d_X_left_16 (by decide) ?_
      have hs : (rLeft n (reps n bt rk wt cl cc od) x y) = (-2) := by unfold rLeft; rw [if_neg (fun q => q.2 (Int32.not_le.mp c13))]
      exact wE_iret ((n, bt, rk, wt, cl, cc, su, sa, sc, od), (true, g1, co1, rp1, (reps n bt rk wt cl cc od).length)) hx hb hr hlocks d_X_left_18 hS hP ⟨rfl, (fun _ => ⟨hv, rfl⟩)⟩ (by rw [hs])
set_option maxHeartbeats 4000000 in
set_option maxRecDepth 100000 in
theorem c_X_truth (l : Launch) (sz : Nat) (x : Int32) (hg : gdA (n, bt, rk, wt, cl, cc, su, sa, sc, od)) (hc : okC (n, bt, rk, wt, cl, cc, su, sa, sc, od) fr rp rc) : Met l y_X_truth w_X_truth (k2_rm 5 108) (wr_Pc D clX (wX h cI cZ n bt rk wt cl cc su sa sc od fr cg co rp rc) [(cI, .int), (cZ, .boolean)] sz [.ref (h 0), .int x]) (wE_Q D clX (wX h cI cZ n bt rk wt cl cc su sa sc od fr cg co rp rc) (σ := stA × stC) (wXt h cI cZ) (fun _ => some (.int (rTruth su sa sc (reps n bt rk wt cl cc od) x))) (fun u => u.1 = (n, bt, rk, wt, cl, cc, su, sa, sc, od) ∧ ocX u) sz) 0 0 (va_A (wX h cI cZ n bt rk wt cl cc su sa sc od fr cg co rp rc) sz) := by
  refine wE_met (by decide) rfl (Nat.le_of_ble_eq_true rfl) rfl ?_
  intro p e s m below meth c ls hx hb hr hml hown hts hlocks hP hK hD hS hA hl
  have hts : ∀ w ∈ tbl, w.before _ s = true := fun w h => hts w (List.mem_cons_of_mem _ h)
  have hown : s.vm.findClass RX = some m.cls := hown
  have hl : lv_has ls 4 [(0, .ref (h 0)), (1, .int x)] := hl
  obtain ⟨hn, hbt, hrk, hwt, hwp, hcc, hcl, hsc, hsa, hsu, ho⟩ := id hg
  have hbt3 : bt < 2 ^ 31 := Nat.lt_of_lt_of_le hbt (Nat.pow_le_pow_right (by decide) (by omega))
  have hlen : (reps n bt rk wt cl cc od).length ≤ 462 := rep_len hn (Nat.le_refl _) hrk hwp
  refine lv_iload_n hx hb d_X_truth_0 rfl (lv_at hl 1 rfl) ?_
  refine rd_S (As := [.int x]) (rest := []) ⟨hx, hb, hml, hown, hts⟩ (c_X_isAnswer l x) (cwS 1 hts g_X_71 rfl rfl rfl (by decide +kernel) ⟨Nat.le_of_ble_eq_true rfl, Nat.le_of_ble_eq_true rfl⟩) rfl hl.1 rfl (Nat.le_of_ble_eq_true rfl) d_X_truth_1 ⟨Nat.zero_le _, Nat.zero_le _⟩ ?_
  refine lv_if_ne (tgt := 9) hx hb d_X_truth_4 (by decide) (fun c4 => ?_) (fun c4 => ?_)
  · have hx0 := (show okA x = true by cases hq : okA x; exact absurd (bI_0.mpr hq) c4; rfl)
    obtain ⟨k, hk, ek⟩ := okA_of hx0
    subst ek
    refine lv_aload_n hx hb d_X_truth_9 rfl (lv_at hl 0 rfl) ?_
    refine wE_V (As := []) (rest := []) ⟨hx, hb, hml, hown, hts⟩ (c_X_refresh l _ ⟨hn, hbt, hrk, hwt, hwp, hcc, hcl, ho, hc⟩) (cwV 0 hts g_X_81 rfl rfl rfl (by decide +kernel) ⟨Nat.le_of_ble_eq_true rfl, Nat.le_of_ble_eq_true rfl⟩) hK hP hD hS hA 0 rfl rfl rfl hl.1 rfl (Nat.le_of_ble_eq_true rfl) d_X_truth_10 ⟨Nat.zero_le _, Nat.zero_le _⟩ (fun _ => rfl) (fun v H locs hv hP hD hS => ?_)
    obtain ⟨g1, co1, rp1⟩ := v
    have hv : isArr rp1 (reps n bt rk wt cl cc od) := hv
    have hv2 : ∀ i, i < (reps n bt rk wt cl cc od).length → rp1 i = (reps n bt rk wt cl cc od).getD i 0 := hv
    have hP : va_P D clX (wX h cI cZ n bt rk wt cl cc su sa sc od true g1 co1 rp1 ((reps n bt rk wt cl cc od).length)) H := hP
    have hD : va_D _ (wX h cI cZ n bt rk wt cl cc su sa sc od true g1 co1 rp1 ((reps n bt rk wt cl cc od).length)) := hD
    refine lv_iconst (v := 0) hx hb d_X_truth_13 (by decide) ?_
    refine lv_istore_n (lv' := [(2, .int 0), (0, .ref (h 0)), (1, .int (nI k))]) hx hb d_X_truth_14 rfl hl (by decide) rfl (fun ls hl => ?_)
    refine lv_iconst (v := 0) hx hb d_X_truth_15 (by decide) ?_
    refine lv_istore_n (lv' := [(3, .int 0), (2, .int 0), (0, .ref (h 0)), (1, .int (nI k))]) hx hb d_X_truth_16 rfl hl (by decide) rfl (fun ls hl => ?_)
    refine wr_loop (nL := 4) (σ := Nat) ((reps n bt rk wt cl cc od).length) (fun i x => [(0, .ref (h 0)), (1, .int (nI k)), (2, .int (nI x)), (3, .int (nI i))]) (fun i x => wX h cI cZ n bt rk wt cl cc su sa sc od true g1 co1 rp1 ((reps n bt rk wt cl cc od).length)) (fun i x => x = cntB (fun r => holX sa su sc k ((reps n bt rk wt cl cc od).getD r 0)) i) ?_ 0 0 ls _ _ (Nat.zero_le _) (rfl) (lv_sub hl [2, 3, 1, 0] rfl) hP hD hS
    intro i x ls H locs hi hI hl hP hD hS ih
    have hI : x = cntB (fun r => holX sa su sc k ((reps n bt rk wt cl cc od).getD r 0)) i := hI
    have hl : lv_has ls 4 [(0, .ref (h 0)), (1, .int (nI k)), (2, .int (nI x)), (3, .int (nI i))] := hl
    have hP : va_P D clX (wX h cI cZ n bt rk wt cl cc su sa sc od true g1 co1 rp1 ((reps n bt rk wt cl cc od).length)) H := hP
    have hD : va_D _ (wX h cI cZ n bt rk wt cl cc su sa sc od true g1 co1 rp1 ((reps n bt rk wt cl cc od).length)) := hD
    refine lv_iload_n hx hb d_X_truth_17 rfl (lv_at hl 3 rfl) ?_
    refine lv_aload_n hx hb d_X_truth_18 rfl (lv_at hl 0 rfl) ?_
    refine va_get (D := D) (ci := 0) (v := .int (nI ((reps n bt rk wt cl cc od).length))) (C := RX) (T := TX) (N := 15) hx hb hts inX hown hK hP 0 rfl rfl 14 (by decide) (hts _ f_X_55) (fun _ h9 => h9) rfl d_X_truth_19 ?_
    refine lv_icmp_ge (tgt := 48) hx hb d_X_truth_22 (by decide) (fun c22 => ?_) (fun c22 => ?_)
    · have hN : i = (reps n bt rk wt cl cc od).length := lp_ge hi (by omega) c22
      refine lv_aload_n hx hb d_X_truth_48 rfl (lv_at hl 0 rfl) ?_
      refine lv_iload_n hx hb d_X_truth_49 rfl (lv_at hl 2 rfl) ?_
      refine rd_V (As := [.int (nI x)]) (rest := []) ⟨hx, hb, hml, hown, hts⟩ (c_X_verdict l x (by have := cntB_le (P := (fun r => holX sa su sc k ((reps n bt rk wt cl cc od).getD r 0))) (n := i); omega) (by omega)) (cwV 1 hts g_X_91 rfl rfl rfl (by decide +kernel) ⟨Nat.le_of_ble_eq_true rfl, Nat.le_of_ble_eq_true rfl⟩) hK hP 0 rfl rfl rfl hl.1 rfl (Nat.le_of_ble_eq_true rfl) d_X_truth_50 ⟨Nat.zero_le _, Nat.zero_le _⟩ ?_
      have hs : (rTruth su sa sc (reps n bt rk wt cl cc od) (nI k)) = (vdt (reps n bt rk wt cl cc od).length x) := by unfold rTruth; rw [if_pos hx0, nI_clamp (show k < 2 ^ 31 by omega), hI, hN]
      exact wE_iret ((n, bt, rk, wt, cl, cc, su, sa, sc, od), (true, g1, co1, rp1, (reps n bt rk wt cl cc od).length)) hx hb hr hlocks d_X_truth_53 hS hP ⟨rfl, (fun _ => ⟨hv, rfl⟩)⟩ (by rw [hs])
    · have hlt : i < (reps n bt rk wt cl cc od).length := lp_lt hi (by omega) c22
      refine lv_aload_n hx hb d_X_truth_25 rfl (lv_at hl 0 rfl) ?_
      refine lv_iload_n hx hb d_X_truth_26 rfl (lv_at hl 1 rfl) ?_
      refine lv_aload_n hx hb d_X_truth_27 rfl (lv_at hl 0 rfl) ?_
      refine va_get (D := D) (ci := 0) (v := .ref (h 8)) (C := RX) (T := TX) (N := 15) hx hb hts inX hown hK hP 0 rfl rfl 13 (by decide) (hts _ f_X_52) (fun _ h9 => h9) rfl d_X_truth_28 ?_
      refine lv_iload_n hx hb d_X_truth_31 rfl (lv_at hl 3 rfl) ?_
      refine va_iald hx hb hK hP 8 0 rfl rfl (vp_in_nI (show i < 462 by omega) (by decide)) d_X_truth_32 ?_
      refine rd_top (z := nI (rp1 i)) (ar_nI rp1 (by omega)) ?_
      refine rd_V (As := [.int (nI k), .int (nI (rp1 i))]) (rest := []) ⟨hx, hb, hml, hown, hts⟩ (c_X_holds l k (rp1 i) (by omega) hsc hsa hsu) (cwV 2 hts g_X_87 rfl rfl rfl (by decide +kernel) ⟨Nat.le_of_ble_eq_true rfl, Nat.le_of_ble_eq_true rfl⟩) hK hP 0 rfl rfl rfl hl.1 rfl (Nat.le_of_ble_eq_true rfl) d_X_truth_33 ⟨Nat.zero_le _, Nat.zero_le _⟩ ?_
      refine lv_if_eq (tgt := 42) hx hb d_X_truth_36 (by decide) (fun c36 => ?_) (fun c36 => ?_)
      · refine lv_iinc (v := (nI (i + 1))) (lv' := [(3, .int (nI (i + 1))), (0, .ref (h 0)), (1, .int (nI k)), (2, .int (nI x))]) hx hb d_X_truth_42 hl (k := 3) rfl (nI_1 i) (by decide) rfl (fun ls hl => ?_)
        refine lv_goto (tgt := 17) hx hb d_X_truth_45 (by decide) ?_
        exact ih hlt x ls _ _ (by show _ = cntB (fun r => holX sa su sc k ((reps n bt rk wt cl cc od).getD r 0)) (i + 1); rw [hI, cntB, if_neg (by rw [← hv2 i hlt]; intro q; rw [bI_0.mp c36] at q; cases q)]; rfl) (lv_sub hl [1, 2, 3, 0] rfl) hP hD hS
      · refine lv_iinc (v := (nI (x + 1))) (lv' := [(2, .int (nI (x + 1))), (0, .ref (h 0)), (1, .int (nI k)), (3, .int (nI i))]) hx hb d_X_truth_39 hl (k := 2) rfl (nI_1 x) (by decide) rfl (fun ls hl => ?_)
        refine lv_iinc (v := (nI (i + 1))) (lv' := [(3, .int (nI (i + 1))), (2, .int (nI (x + 1))), (0, .ref (h 0)), (1, .int (nI k))]) hx hb d_X_truth_42 hl (k := 3) rfl (nI_1 i) (by decide) rfl (fun ls hl => ?_)
        refine lv_goto (tgt := 17) hx hb d_X_truth_45 (by decide) ?_
        exact ih hlt (x + 1) ls _ _ (by show _ = cntB (fun r => holX sa su sc k ((reps n bt rk wt cl cc od).getD r 0)) (i + 1); rw [hI, cntB, if_pos (by rw [← hv2 i hlt]; exact show holX sa su sc k (rp1 i) = true by cases hq : holX sa su sc k (rp1 i); exact absurd (bI_0.mpr hq) c36; rfl)]) (lv_sub hl [2, 3, 1, 0] rfl) hP hD hS
  · refine lv_iconst (v := (-1)) hx hb d_X_truth_7 (by decide) ?_
    have hs : (rTruth su sa sc (reps n bt rk wt cl cc od) x) = (-1) := by unfold rTruth; rw [if_neg (by rw [bI_0.mp c4]; decide)]
    exact wE_iret ((n, bt, rk, wt, cl, cc, su, sa, sc, od), (fr, cg, co, rp, rc)) hx hb hr hlocks d_X_truth_8 hS hP ⟨rfl, hc⟩ (by rw [hs])
set_option maxHeartbeats 4000000 in
set_option maxRecDepth 100000 in
theorem c_X_surely (l : Launch) (sz : Nat) (x : Int32) (hg : gdA (n, bt, rk, wt, cl, cc, su, sa, sc, od)) (hc : okC (n, bt, rk, wt, cl, cc, su, sa, sc, od) fr rp rc) : Met l y_X_surely w_X_surely (k2_rm 5 108) (wr_Pc D clX (wX h cI cZ n bt rk wt cl cc su sa sc od fr cg co rp rc) [(cI, .int), (cZ, .boolean)] sz [.ref (h 0), .int x]) (wE_Q D clX (wX h cI cZ n bt rk wt cl cc su sa sc od fr cg co rp rc) (σ := stA × stC) (wXt h cI cZ) (fun _ => some (.int (rSurely n (reps n bt rk wt cl cc od) x))) (fun u => u.1 = (n, bt, rk, wt, cl, cc, su, sa, sc, od) ∧ ocX u) sz) 0 0 (va_A (wX h cI cZ n bt rk wt cl cc su sa sc od fr cg co rp rc) sz) := by
  refine wE_met (by decide) rfl (Nat.le_of_ble_eq_true rfl) rfl ?_
  intro p e s m below meth c ls hx hb hr hml hown hts hlocks hP hK hD hS hA hl
  have hts : ∀ w ∈ tbl, w.before _ s = true := fun w h => hts w (List.mem_cons_of_mem _ h)
  have hown : s.vm.findClass RX = some m.cls := hown
  have hl : lv_has ls 4 [(0, .ref (h 0)), (1, .int x)] := hl
  obtain ⟨hn, hbt, hrk, hwt, hwp, hcc, hcl, hsc, hsa, hsu, ho⟩ := id hg
  have hbt3 : bt < 2 ^ 31 := Nat.lt_of_lt_of_le hbt (Nat.pow_le_pow_right (by decide) (by omega))
  have hlen : (reps n bt rk wt cl cc od).length ≤ 462 := rep_len hn (Nat.le_refl _) hrk hwp
  refine lv_aload_n hx hb d_X_surely_0 rfl (lv_at hl 0 rfl) ?_
  refine lv_iload_n hx hb d_X_surely_1 rfl (lv_at hl 1 rfl) ?_
  refine rd_V (As := [.int x]) (rest := []) ⟨hx, hb, hml, hown, hts⟩ (c_X_isStatement l x) (cwV 1 hts g_X_65 rfl rfl rfl (by decide +kernel) ⟨Nat.le_of_ble_eq_true rfl, Nat.le_of_ble_eq_true rfl⟩) hK hP 0 rfl rfl rfl hl.1 rfl (Nat.le_of_ble_eq_true rfl) d_X_surely_2 ⟨Nat.zero_le _, Nat.zero_le _⟩ ?_
  refine lv_if_ne (tgt := 10) hx hb d_X_surely_5 (by decide) (fun c5 => ?_) (fun c5 => ?_)
  · have hx0 := (show okS n x = true by cases hq : okS n x; exact absurd (bI_0.mpr hq) c5; rfl)
    obtain ⟨k, hk, ek⟩ := okS_of (by omega) hx0
    subst ek
    refine lv_aload_n hx hb d_X_surely_10 rfl (lv_at hl 0 rfl) ?_
    refine wE_V (As := []) (rest := []) ⟨hx, hb, hml, hown, hts⟩ (c_X_refresh l _ ⟨hn, hbt, hrk, hwt, hwp, hcc, hcl, ho, hc⟩) (cwV 0 hts g_X_81 rfl rfl rfl (by decide +kernel) ⟨Nat.le_of_ble_eq_true rfl, Nat.le_of_ble_eq_true rfl⟩) hK hP hD hS hA 0 rfl rfl rfl hl.1 rfl (Nat.le_of_ble_eq_true rfl) d_X_surely_11 ⟨Nat.zero_le _, Nat.zero_le _⟩ (fun _ => rfl) (fun v H locs hv hP hD hS => ?_)
    obtain ⟨g1, co1, rp1⟩ := v
    have hv : isArr rp1 (reps n bt rk wt cl cc od) := hv
    have hv2 : ∀ i, i < (reps n bt rk wt cl cc od).length → rp1 i = (reps n bt rk wt cl cc od).getD i 0 := hv
    have hP : va_P D clX (wX h cI cZ n bt rk wt cl cc su sa sc od true g1 co1 rp1 ((reps n bt rk wt cl cc od).length)) H := hP
    have hD : va_D _ (wX h cI cZ n bt rk wt cl cc su sa sc od true g1 co1 rp1 ((reps n bt rk wt cl cc od).length)) := hD
    refine lv_iconst (v := 0) hx hb d_X_surely_14 (by decide) ?_
    refine lv_istore_n (lv' := [(2, .int 0), (0, .ref (h 0)), (1, .int (nI k))]) hx hb d_X_surely_15 rfl hl (by decide) rfl (fun ls hl => ?_)
    refine lv_iconst (v := 0) hx hb d_X_surely_16 (by decide) ?_
    refine lv_istore_n (lv' := [(3, .int 0), (2, .int 0), (0, .ref (h 0)), (1, .int (nI k))]) hx hb d_X_surely_17 rfl hl (by decide) rfl (fun ls hl => ?_)
    refine wr_loop (nL := 4) (σ := Nat) ((reps n bt rk wt cl cc od).length) (fun i x => [(0, .ref (h 0)), (1, .int (nI k)), (2, .int (nI x)), (3, .int (nI i))]) (fun i x => wX h cI cZ n bt rk wt cl cc su sa sc od true g1 co1 rp1 ((reps n bt rk wt cl cc od).length)) (fun i x => x = cntB (fun r => ((reps n bt rk wt cl cc od).getD r 0).testBit k) i) ?_ 0 0 ls _ _ (Nat.zero_le _) (rfl) (lv_sub hl [2, 3, 1, 0] rfl) hP hD hS
    intro i x ls H locs hi hI hl hP hD hS ih
    have hI : x = cntB (fun r => ((reps n bt rk wt cl cc od).getD r 0).testBit k) i := hI
    have hl : lv_has ls 4 [(0, .ref (h 0)), (1, .int (nI k)), (2, .int (nI x)), (3, .int (nI i))] := hl
    have hP : va_P D clX (wX h cI cZ n bt rk wt cl cc su sa sc od true g1 co1 rp1 ((reps n bt rk wt cl cc od).length)) H := hP
    have hD : va_D _ (wX h cI cZ n bt rk wt cl cc su sa sc od true g1 co1 rp1 ((reps n bt rk wt cl cc od).length)) := hD
    refine lv_iload_n hx hb d_X_surely_18 rfl (lv_at hl 3 rfl) ?_
    refine lv_aload_n hx hb d_X_surely_19 rfl (lv_at hl 0 rfl) ?_
    refine va_get (D := D) (ci := 0) (v := .int (nI ((reps n bt rk wt cl cc od).length))) (C := RX) (T := TX) (N := 15) hx hb hts inX hown hK hP 0 rfl rfl 14 (by decide) (hts _ f_X_55) (fun _ h9 => h9) rfl d_X_surely_20 ?_
    refine lv_icmp_ge (tgt := 48) hx hb d_X_surely_23 (by decide) (fun c23 => ?_) (fun c23 => ?_)
    · have hN : i = (reps n bt rk wt cl cc od).length := lp_ge hi (by omega) c23
      refine lv_aload_n hx hb d_X_surely_48 rfl (lv_at hl 0 rfl) ?_
      refine lv_iload_n hx hb d_X_surely_49 rfl (lv_at hl 2 rfl) ?_
      refine rd_V (As := [.int (nI x)]) (rest := []) ⟨hx, hb, hml, hown, hts⟩ (c_X_verdict l x (by have := cntB_le (P := (fun r => ((reps n bt rk wt cl cc od).getD r 0).testBit k)) (n := i); omega) (by omega)) (cwV 1 hts g_X_91 rfl rfl rfl (by decide +kernel) ⟨Nat.le_of_ble_eq_true rfl, Nat.le_of_ble_eq_true rfl⟩) hK hP 0 rfl rfl rfl hl.1 rfl (Nat.le_of_ble_eq_true rfl) d_X_surely_50 ⟨Nat.zero_le _, Nat.zero_le _⟩ ?_
      have hs : (rSurely n (reps n bt rk wt cl cc od) (nI k)) = (vdt (reps n bt rk wt cl cc od).length x) := by unfold rSurely; rw [if_pos hx0, nI_clamp (show k < 2 ^ 31 by omega), hI, hN]
      exact wE_iret ((n, bt, rk, wt, cl, cc, su, sa, sc, od), (true, g1, co1, rp1, (reps n bt rk wt cl cc od).length)) hx hb hr hlocks d_X_surely_53 hS hP ⟨rfl, (fun _ => ⟨hv, rfl⟩)⟩ (by rw [hs])
    · have hlt : i < (reps n bt rk wt cl cc od).length := lp_lt hi (by omega) c23
      refine lv_aload_n hx hb d_X_surely_26 rfl (lv_at hl 0 rfl) ?_
      refine va_get (D := D) (ci := 0) (v := .ref (h 8)) (C := RX) (T := TX) (N := 15) hx hb hts inX hown hK hP 0 rfl rfl 13 (by decide) (hts _ f_X_52) (fun _ h9 => h9) rfl d_X_surely_27 ?_
      refine lv_iload_n hx hb d_X_surely_30 rfl (lv_at hl 3 rfl) ?_
      refine va_iald hx hb hK hP 8 0 rfl rfl (vp_in_nI (show i < 462 by omega) (by decide)) d_X_surely_31 ?_
      refine rd_top (z := nI (rp1 i)) (ar_nI rp1 (by omega)) ?_
      refine lv_iconst (v := 1) hx hb d_X_surely_32 (by decide) ?_
      refine lv_iload_n hx hb d_X_surely_33 rfl (lv_at hl 1 rfl) ?_
      refine lv_ishl hx hb d_X_surely_34 ?_
      refine rd_top (z := nI (2 ^ k)) (bx_shl k (by omega)) ?_
      refine lv_iand hx hb d_X_surely_35 ?_
      refine lv_if_eq (tgt := 42) hx hb d_X_surely_36 (by decide) (fun c36 => ?_) (fun c36 => ?_)
      · refine lv_iinc (v := (nI (i + 1))) (lv' := [(3, .int (nI (i + 1))), (0, .ref (h 0)), (1, .int (nI k)), (2, .int (nI x))]) hx hb d_X_surely_42 hl (k := 3) rfl (nI_1 i) (by decide) rfl (fun ls hl => ?_)
        refine lv_goto (tgt := 18) hx hb d_X_surely_45 (by decide) ?_
        exact ih hlt x ls _ _ (by show _ = cntB (fun r => ((reps n bt rk wt cl cc od).getD r 0).testBit k) (i + 1); rw [hI, cntB, if_neg (by rw [← hv2 i hlt]; intro q; rw [(bx_bit (show rp1 i < 2 ^ 31 by rw [hv2 i hlt]; exact Nat.lt_trans (rep_lt hn hlt) (by decide)) (by omega)).mp c36] at q; cases q)]; rfl) (lv_sub hl [1, 2, 3, 0] rfl) hP hD hS
      · refine lv_iinc (v := (nI (x + 1))) (lv' := [(2, .int (nI (x + 1))), (0, .ref (h 0)), (1, .int (nI k)), (3, .int (nI i))]) hx hb d_X_surely_39 hl (k := 2) rfl (nI_1 x) (by decide) rfl (fun ls hl => ?_)
        refine lv_iinc (v := (nI (i + 1))) (lv' := [(3, .int (nI (i + 1))), (2, .int (nI (x + 1))), (0, .ref (h 0)), (1, .int (nI k))]) hx hb d_X_surely_42 hl (k := 3) rfl (nI_1 i) (by decide) rfl (fun ls hl => ?_)
        refine lv_goto (tgt := 18) hx hb d_X_surely_45 (by decide) ?_
        exact ih hlt (x + 1) ls _ _ (by show _ = cntB (fun r => ((reps n bt rk wt cl cc od).getD r 0).testBit k) (i + 1); rw [hI, cntB, if_pos (by rw [← hv2 i hlt]; cases hq : (rp1 i).testBit k; exact absurd ((bx_bit (show rp1 i < 2 ^ 31 by rw [hv2 i hlt]; exact Nat.lt_trans (rep_lt hn hlt) (by decide)) (by omega)).mpr hq) c36; rfl)]) (lv_sub hl [2, 3, 1, 0] rfl) hP hD hS
  · refine lv_iconst (v := (-1)) hx hb d_X_surely_8 (by decide) ?_
    have hs : (rSurely n (reps n bt rk wt cl cc od) x) = (-1) := by unfold rSurely; rw [if_neg (by rw [bI_0.mp c5]; decide)]
    exact wE_iret ((n, bt, rk, wt, cl, cc, su, sa, sc, od), (fr, cg, co, rp, rc)) hx hb hr hlocks d_X_surely_9 hS hP ⟨rfl, hc⟩ (by rw [hs])
set_option maxHeartbeats 4000000 in
set_option maxRecDepth 100000 in
theorem c_X_better (l : Launch) (x y o : Int32) (hg : gdA (n, bt, rk, wt, cl, cc, su, sa, sc, od)) : Met l y_X_better w_X_better (k2_rm 4 92) (rd_Pc D clX (wX h cI cZ n bt rk wt cl cc su sa sc od fr cg co rp rc) [(cI, .int), (cZ, .boolean)] [.ref (h 0), .int x, .int y, .int o]) (k2_QcV (.int (rBetter n bt rk wt x y o))) 0 0 (fun _ => False) := by
  refine rd_met (by decide) rfl (Nat.le_of_ble_eq_true rfl) rfl ?_
  intro p e s m below meth c ls hx hb hr hml hown hts hlocks hP hK hl
  have hts : ∀ w ∈ tbl, w.before _ s = true := fun w h => hts w (List.mem_cons_of_mem _ h)
  have hown : s.vm.findClass RX = some m.cls := hown
  have hl : lv_has ls 6 [(0, .ref (h 0)), (1, .int x), (2, .int y), (3, .int o)] := hl
  obtain ⟨hn, hbt, hrk, hwt, hwp, hcc, hcl, hsc, hsa, hsu, ho⟩ := id hg
  have hbt3 : bt < 2 ^ 31 := Nat.lt_of_lt_of_le hbt (Nat.pow_le_pow_right (by decide) (by omega))
  have hlen : (reps n bt rk wt cl cc od).length ≤ 462 := rep_len hn (Nat.le_refl _) hrk hwp
  refine lv_iload_n hx hb d_X_better_0 rfl (lv_at hl 3 rfl) ?_
  refine rd_S (As := [.int o]) (rest := []) ⟨hx, hb, hml, hown, hts⟩ (c_X_isOrder l o) (cwS 1 hts g_X_78 rfl rfl rfl (by decide +kernel) ⟨Nat.le_of_ble_eq_true rfl, Nat.le_of_ble_eq_true rfl⟩) rfl hl.1 rfl (Nat.le_of_ble_eq_true rfl) d_X_better_1 ⟨Nat.zero_le _, Nat.zero_le _⟩ ?_
  refine lv_if_ne (tgt := 9) hx hb d_X_better_4 (by decide) (fun c4 => ?_) (fun c4 => ?_)
  · have hx0 := (show okO o = true by cases hq : okO o; exact absurd (bI_0.mpr hq) c4; rfl)
    obtain ⟨k, hk, ek⟩ := okO_of hx0
    subst ek
    refine lv_iload_n hx hb d_X_better_9 rfl (lv_at hl 1 rfl) ?_
    refine lv_aload_n hx hb d_X_better_10 rfl (lv_at hl 0 rfl) ?_
    refine rd_V (As := []) (rest := [.int x]) ⟨hx, hb, hml, hown, hts⟩ (c_X_statementBits l hn) (cwV 0 hts g_X_94 rfl rfl rfl (by decide +kernel) ⟨Nat.le_of_ble_eq_true rfl, Nat.le_of_ble_eq_true rfl⟩) hK hP 0 rfl rfl rfl hl.1 rfl (Nat.le_of_ble_eq_true rfl) d_X_better_11 ⟨Nat.zero_le _, Nat.zero_le _⟩ ?_
    refine lv_iand hx hb d_X_better_14 ?_
    refine rd_top (z := nI (x.toBitVec.toNat % 2 ^ n)) (mskn hn x) ?_
    refine lv_istore (lv' := [(4, .int (nI (x.toBitVec.toNat % 2 ^ n))), (0, .ref (h 0)), (1, .int x), (2, .int y), (3, .int (nI k))]) hx hb d_X_better_15 hl (by decide) rfl (fun ls hl => ?_)
    refine lv_iload_n hx hb d_X_better_17 rfl (lv_at hl 3 rfl) ?_
    refine lv_aload_n hx hb d_X_better_18 rfl (lv_at hl 1 rfl) ?_
    refine rd_V (As := []) (rest := [.int y]) ⟨hx, hb, hml, hown, hts⟩ (c_X_statementBits l hn) (cwV 0 hts g_X_94 rfl rfl rfl (by decide +kernel) ⟨Nat.le_of_ble_eq_true rfl, Nat.le_of_ble_eq_true rfl⟩) hK hP 0 rfl rfl rfl hl.1 rfl (Nat.le_of_ble_eq_true rfl) d_X_better_19 ⟨Nat.zero_le _, Nat.zero_le _⟩ ?_
    refine lv_iand hx hb d_X_better_22 ?_
    refine rd_top (z := nI (y.toBitVec.toNat % 2 ^ n)) (mskn hn y) ?_
    refine lv_istore (lv' := [(5, .int (nI (y.toBitVec.toNat % 2 ^ n))), (4, .int (nI (x.toBitVec.toNat % 2 ^ n))), (0, .ref (h 0)), (1, .int x), (2, .int y), (3, .int (nI k))]) hx hb d_X_better_23 hl (by decide) rfl (fun ls hl => ?_)
    refine lv_aload_n hx hb d_X_better_25 rfl (lv_at hl 2 rfl) ?_
    refine lv_iload hx hb d_X_better_26 (lv_at hl 1 rfl) ?_
    refine lv_iload hx hb d_X_better_28 (lv_at hl 0 rfl) ?_
    refine lv_iload_n hx hb d_X_better_30 rfl (lv_at hl 5 rfl) ?_
    refine rd_V (As := [.int (nI (x.toBitVec.toNat % 2 ^ n)), .int (nI (y.toBitVec.toNat % 2 ^ n)), .int (nI k)]) (rest := []) ⟨hx, hb, hml, hown, hts⟩ (c_X_isBetter l (x.toBitVec.toNat % 2 ^ n) (y.toBitVec.toNat % 2 ^ n) k hn hbt3 hrk hwt (show x.toBitVec.toNat % 2 ^ n < 2 ^ 31 from Nat.lt_of_lt_of_le (Nat.mod_lt _ (bx_pos n)) (Nat.pow_le_pow_right (by decide) (by omega))) (show y.toBitVec.toNat % 2 ^ n < 2 ^ 31 from Nat.lt_of_lt_of_le (Nat.mod_lt _ (bx_pos n)) (Nat.pow_le_pow_right (by decide) (by omega))) hk) (cwV 3 hts g_X_98 rfl rfl rfl (by decide +kernel) ⟨Nat.le_of_ble_eq_true rfl, Nat.le_of_ble_eq_true rfl⟩) hK hP 0 rfl rfl rfl hl.1 rfl (Nat.le_of_ble_eq_true rfl) d_X_better_31 ⟨Nat.zero_le _, Nat.zero_le _⟩ ?_
    refine lv_if_eq (tgt := 41) hx hb d_X_better_34 (by decide) (fun c34 => ?_) (fun c34 => ?_)
    · refine lv_iconst (v := 0) hx hb d_X_better_41 (by decide) ?_
      exact rd_iret hx hb hr hlocks d_X_better_42 (by unfold rBetter; rw [if_pos hx0, nI_clamp (show k < 2 ^ 31 by omega), bI_0.mp c34]; rfl)
    · refine lv_iconst (v := 1) hx hb d_X_better_37 (by decide) ?_
      refine lv_goto (tgt := 42) hx hb d_X_better_38 (by decide) ?_
      exact rd_iret hx hb hr hlocks d_X_better_42 (by unfold rBetter; rw [if_pos hx0, nI_clamp (show k < 2 ^ 31 by omega), show betX n bt rk wt (x.toBitVec.toNat % 2 ^ n) (y.toBitVec.toNat % 2 ^ n) k = true by cases hq : betX n bt rk wt (x.toBitVec.toNat % 2 ^ n) (y.toBitVec.toNat % 2 ^ n) k; exact absurd (bI_0.mpr hq) c34; rfl]; rfl)
  · refine lv_iconst (v := (-1)) hx hb d_X_better_7 (by decide) ?_
    exact rd_iret hx hb hr hlocks d_X_better_8 (by unfold rBetter; rw [if_neg (by rw [bI_0.mp c4]; decide)])
end MX9
end
section
/-! what the reference's methods work out -/
theorem sh_r : ∀ n, n < 32 → ((nI n &&& 31).toBitVec.smod 32).toNat = n := by decide +kernel
theorem has_v {S k : Nat} (hS : S < 2 ^ 31) (hk : k < 31) : (nI S >>> (nI k &&& 31)) &&& 1 = nI (S / 2 ^ k % 2) := by
  rw [pk_shrN hS (nI k &&& 31) k (sh_r k (by omega))]
  exact pk_andN (m := 1) (Nat.lt_of_le_of_lt (Nat.div_le_self _ _) (Nat.lt_trans hS (by decide))) 1 (by decide)
theorem has_b {S k : Nat} : nI (S / 2 ^ k % 2) = 1 ↔ S.testBit k = true := by
  rw [Nat.testBit_eq_decide_div_mod_eq, decide_eq_true_eq]
  show nI (S / 2 ^ k % 2) = nI 1 ↔ _
  rw [nI_eq (by omega) (by decide)]
theorem i7_8 (x : Int32) : 7 < x ↔ 8 ≤ x := by
  rw [Int32.lt_iff_toInt_lt, Int32.le_iff_toInt_le, show (7 : Int32).toInt = 7 from rfl, show (8 : Int32).toInt = 8 from rfl]
  omega
theorem i1_0 (x : Int32) : x < 1 ↔ x ≤ 0 := by
  rw [Int32.lt_iff_toInt_lt, Int32.le_iff_toInt_le, show (1 : Int32).toInt = 1 from rfl, show (0 : Int32).toInt = 0 from rfl]
  omega
def moB (bt : Nat) (rk : Nat → Nat) (a b r : Nat) (j : Nat) : Bool := !bt.testBit j && (decide (rk j = r) && (a.testBit j && !b.testBit j))
def cmV (cs : Bool) (mo le : Nat) : Int32 := if cs = true then (if mo = le then 0 else if le < mo then 1 else 2) else (if mo = 0 ∧ le = 0 then 0 else if le = 0 then 1 else if mo = 0 then 2 else 3)
def cmY (n bt : Nat) (rk : Nat → Nat) (a b r : Nat) (cs : Bool) : Int32 := cmV cs (cntB (moB bt rk a b r) n) (cntB (moB bt rk b a r) n)
def fnz (c : Nat → Int32) : Nat → Nat → Int32
  | 0, _ => 0
  | k + 1, r => if c r = 0 then fnz c k (r + 1) else c r
theorem mo_f {bt : Nat} {rk : Nat → Nat} {a b r i : Nat} (h : ¬ (bt.testBit i = false ∧ rk i = r ∧ a.testBit i = true ∧ b.testBit i = false)) : moB bt rk a b r i = false := by
  unfold moB
  cases hq : (!bt.testBit i && (decide (rk i = r) && (a.testBit i && !b.testBit i)))
  · rfl
  · rw [Bool.and_eq_true, Bool.and_eq_true, Bool.and_eq_true, Bool.not_eq_true', Bool.not_eq_true', decide_eq_true_eq] at hq
    exact absurd hq h
theorem mo_t {bt : Nat} {rk : Nat → Nat} {a b r i : Nat} (h : bt.testBit i = false ∧ rk i = r ∧ a.testBit i = true ∧ b.testBit i = false) : moB bt rk a b r i = true := by
  unfold moB
  rw [h.1, h.2.1, h.2.2.1, h.2.2.2, decide_eq_true rfl]
  rfl
theorem cnt_f {P : Nat → Bool} {i x : Nat} (hx : x = cntB P i) (h : P i = false) : x = cntB P (i + 1) := by rw [cntB, h, hx]; rfl
theorem cnt_t {P : Nat → Bool} {i x : Nat} (hx : x = cntB P i) (h : P i = true) : x + 1 = cntB P (i + 1) := by rw [cntB, h, hx]; rfl
theorem wo_t {bt : Nat} {rk wt : Nat → Nat} {S i x : Nat} (hx : x = wor bt rk wt S 3 i) (h1 : bt.testBit i = false) (h2 : S.testBit i = true) : x + wt i = wor bt rk wt S 3 (i + 1) := by
  rw [wor, if_pos ⟨h2, h1⟩, if_neg (by decide), hx]
theorem wo_f {bt : Nat} {rk wt : Nat → Nat} {S i x : Nat} (hx : x = wor bt rk wt S 3 i) (h : ¬ (S.testBit i = true ∧ bt.testBit i = false)) : x = wor bt rk wt S 3 (i + 1) := by
  rw [wor, if_neg h, hx]
  rfl
theorem su_1 (a b w : Nat) : (nI a - nI b) + nI w = nI (a + w) - nI b := by
  rw [← nI_add, Int32.sub_eq_add_neg, Int32.sub_eq_add_neg, Int32.add_assoc, Int32.add_comm (-nI b), ← Int32.add_assoc]
theorem su_2 (a b w : Nat) : (nI a - nI b) - nI w = nI a - nI (b + w) := by
  rw [← nI_add, Int32.sub_eq_add_neg, Int32.sub_eq_add_neg, Int32.sub_eq_add_neg, Int32.neg_add, Int32.add_assoc, Int32.sub_eq_add_neg]
theorem su_3 {a b : Nat} (ha : a < 2 ^ 30) (hb : b < 2 ^ 30) : 0 < nI a - nI b ↔ b < a := by
  rw [Int32.lt_iff_toInt_lt, pk_sub_toInt ha hb, show (0 : Int32).toInt = 0 from rfl]
  omega
theorem wor3_le {bt : Nat} {rk wt : Nat → Nat} {S B : Nat} (hw : ∀ j, wt j ≤ B) : ∀ k, wor bt rk wt S 3 k ≤ k * B
  | 0 => by simp [wor]
  | k + 1 => by
    have h := wor3_le (bt := bt) (rk := rk) (S := S) hw k
    have h2 := hw k
    rw [wor, if_neg (show ¬ (3 : Nat) = 2 by decide), show (k + 1) * B = k * B + B from Nat.succ_mul k B]
    generalize k * B = y at h ⊢
    split <;> omega
theorem wor3_lt {bt : Nat} {rk wt : Nat → Nat} {S : Nat} (hw : ∀ j, wt j ≤ 1000) {k : Nat} (hk : k ≤ 11) : wor bt rk wt S 3 k < 2 ^ 30 :=
  Nat.lt_of_le_of_lt (wor3_le hw k) (Nat.lt_of_le_of_lt (Nat.mul_le_mul_right _ hk) (by decide))
def betY (n bt : Nat) (rk wt : Nat → Nat) (a b o : Nat) : Bool := if o = 0 then hasM a b else if o = 3 then decide (wor bt rk wt b 3 n < wor bt rk wt a 3 n) else decide (fnz (fun r => cmY n bt rk a b r (decide (o = 2))) 8 0 = 1)
end
section
section MY1
variable {D : va_G} {h : Nat → Nat} {cI cZ : ClassId} {n bt : Nat} {rk wt cl : Nat → Nat} {cc : Nat} {ow su : Nat → Nat} {sc od : Nat} {kn : Bool} {ke : Nat → Bool} {rp : Nat → Nat} {rc : Nat}
set_option maxHeartbeats 4000000 in
set_option maxRecDepth 100000 in
theorem c_Y_isStatement (l : Launch) (x : Int32) : Met l y_Y_isStatement w_Y_isStatement (k2_rm 0 0) (rd_Pc D clX (wY h cI cZ n bt.testBit rk wt cl cc ow su sc od kn ke rp rc) [(cI, .int), (cZ, .boolean)] [.ref (h 0), .int x]) (k2_QcV (.int (bI (okS n x)))) 0 0 (fun _ => False) := by
  refine rd_met (by decide) rfl (Nat.le_of_ble_eq_true rfl) rfl ?_
  intro p e s m below meth c ls hx hb hr hml hown hts hlocks hP hK hl
  have hts : ∀ w ∈ tbl, w.before _ s = true := fun w h => hts w (List.mem_cons_of_mem _ h)
  have hown : s.vm.findClass RY = some m.cls := hown
  have hl : lv_has ls 2 [(0, .ref (h 0)), (1, .int x)] := hl
  refine lv_iload_n hx hb d_Y_isStatement_0 rfl (lv_at hl 1 rfl) ?_
  refine lv_if_lt (tgt := 16) hx hb d_Y_isStatement_1 (by decide) (fun c1 => ?_) (fun c1 => ?_)
  · refine lv_iconst (v := 0) hx hb d_Y_isStatement_16 (by decide) ?_
    exact rd_zret hx hb hr hlocks d_Y_isStatement_17 (by simp [okS, bI, c1])
  · refine lv_iload_n hx hb d_Y_isStatement_4 rfl (lv_at hl 1 rfl) ?_
    refine lv_aload_n hx hb d_Y_isStatement_5 rfl (lv_at hl 0 rfl) ?_
    refine va_get (D := D) (ci := 1) (v := .int (nI n)) (C := RY) (T := TY) (N := 14) hx hb hts inY hown hK hP 0 rfl rfl 0 (by decide) (hts _ f_Y_35) (fun _ h9 => h9) rfl d_Y_isStatement_6 ?_
    refine lv_icmp_ge (tgt := 16) hx hb d_Y_isStatement_9 (by decide) (fun c9 => ?_) (fun c9 => ?_)
    · refine lv_iconst (v := 0) hx hb d_Y_isStatement_16 (by decide) ?_
      exact rd_zret hx hb hr hlocks d_Y_isStatement_17 (by simp [okS, bI, c1, c9])
    · refine lv_iconst (v := 1) hx hb d_Y_isStatement_12 (by decide) ?_
      refine lv_goto (tgt := 17) hx hb d_Y_isStatement_13 (by decide) ?_
      exact rd_zret hx hb hr hlocks d_Y_isStatement_17 (by simp [okS, bI, c1, c9])
set_option maxHeartbeats 4000000 in
set_option maxRecDepth 100000 in
theorem c_Y_areGood (l : Launch) (r w : Int32) : Met l y_Y_areGood w_Y_areGood (k2_rm 0 0) (rd_P0 [.int r, .int w]) (k2_QcV (.int (bI (okR r && okW w)))) 0 0 (fun _ => False) := by
  refine rd_met0 (by decide) rfl (Nat.le_of_ble_eq_true rfl) rfl ?_
  intro p e s m below meth c ls hx hb hr hml hown hts hlocks hl
  have hts : ∀ w ∈ tbl, w.before _ s = true := fun w h => hts w (List.mem_cons_of_mem _ h)
  have hown : s.vm.findClass RY = some m.cls := hown
  have hl : lv_has ls 2 [(0, .int r), (1, .int w)] := hl
  refine lv_iload_n hx hb d_Y_areGood_0 rfl (lv_at hl 0 rfl) ?_
  refine lv_if_lt (tgt := 25) hx hb d_Y_areGood_1 (by decide) (fun c1 => ?_) (fun c1 => ?_)
  · refine lv_iconst (v := 0) hx hb d_Y_areGood_25 (by decide) ?_
    exact rd_zret hx hb hr hlocks d_Y_areGood_26 (by simp [okR, okW, i7_8, i1_0, bI, c1])
  · refine lv_iload_n hx hb d_Y_areGood_4 rfl (lv_at hl 0 rfl) ?_
    refine lv_bipush (v := 8) hx hb d_Y_areGood_5 (by decide) ?_
    refine lv_icmp_ge (tgt := 25) hx hb d_Y_areGood_7 (by decide) (fun c7 => ?_) (fun c7 => ?_)
    · refine lv_iconst (v := 0) hx hb d_Y_areGood_25 (by decide) ?_
      exact rd_zret hx hb hr hlocks d_Y_areGood_26 (by simp [okR, okW, i7_8, i1_0, bI, c1, c7])
    · refine lv_iload_n hx hb d_Y_areGood_10 rfl (lv_at hl 1 rfl) ?_
      refine lv_if_le (tgt := 25) hx hb d_Y_areGood_11 (by decide) (fun c11 => ?_) (fun c11 => ?_)
      · refine lv_iconst (v := 0) hx hb d_Y_areGood_25 (by decide) ?_
        exact rd_zret hx hb hr hlocks d_Y_areGood_26 (by simp [okR, okW, i7_8, i1_0, bI, c1, c7, c11])
      · refine lv_iload_n hx hb d_Y_areGood_14 rfl (lv_at hl 1 rfl) ?_
        refine lv_sipush (v := 1000) hx hb d_Y_areGood_15 (by decide) ?_
        refine lv_icmp_gt (tgt := 25) hx hb d_Y_areGood_18 (by decide) (fun c18 => ?_) (fun c18 => ?_)
        · refine lv_iconst (v := 0) hx hb d_Y_areGood_25 (by decide) ?_
          exact rd_zret hx hb hr hlocks d_Y_areGood_26 (by simp [okR, okW, i7_8, i1_0, bI, c1, c7, c11, c18])
        · refine lv_iconst (v := 1) hx hb d_Y_areGood_21 (by decide) ?_
          refine lv_goto (tgt := 26) hx hb d_Y_areGood_22 (by decide) ?_
          exact rd_zret hx hb hr hlocks d_Y_areGood_26 (by simp [okR, okW, i7_8, i1_0, bI, c1, c7, c11, c18])
set_option maxHeartbeats 4000000 in
set_option maxRecDepth 100000 in
theorem c_Y_has (l : Launch) (S k : Nat) (hS2 : S < 2 ^ 31) (hk : k < 31) : Met l y_Y_has w_Y_has (k2_rm 0 0) (rd_P0 [.int (nI S), .int (nI k)]) (k2_QcV (.int (bI (S.testBit k)))) 0 0 (fun _ => False) := by
  refine rd_met0 (by decide) rfl (Nat.le_of_ble_eq_true rfl) rfl ?_
  intro p e s m below meth c ls hx hb hr hml hown hts hlocks hl
  have hts : ∀ w ∈ tbl, w.before _ s = true := fun w h => hts w (List.mem_cons_of_mem _ h)
  have hown : s.vm.findClass RY = some m.cls := hown
  have hl : lv_has ls 2 [(0, .int (nI S)), (1, .int (nI k))] := hl
  refine lv_iload_n hx hb d_Y_has_0 rfl (lv_at hl 0 rfl) ?_
  refine lv_iload_n hx hb d_Y_has_1 rfl (lv_at hl 1 rfl) ?_
  refine lv_ishr hx hb d_Y_has_2 ?_
  refine lv_iconst (v := 1) hx hb d_Y_has_3 (by decide) ?_
  refine lv_iand hx hb d_Y_has_4 ?_
  refine rd_top (z := nI (S / 2 ^ k % 2)) (has_v hS2 hk) ?_
  refine lv_iconst (v := 1) hx hb d_Y_has_5 (by decide) ?_
  refine lv_icmp_ne (tgt := 13) hx hb d_Y_has_6 (by decide) (fun c6 => ?_) (fun c6 => ?_)
  · refine lv_iconst (v := 0) hx hb d_Y_has_13 (by decide) ?_
    exact rd_zret hx hb hr hlocks d_Y_has_14 (by cases hq : S.testBit k; rfl; exact absurd (has_b.mpr hq) c6)
  · refine lv_iconst (v := 1) hx hb d_Y_has_9 (by decide) ?_
    refine lv_goto (tgt := 14) hx hb d_Y_has_10 (by decide) ?_
    exact rd_zret hx hb hr hlocks d_Y_has_14 (by rw [has_b.mp c6]; rfl)
set_option maxHeartbeats 4000000 in
set_option maxRecDepth 100000 in
theorem c_Y_told (l : Launch) (x : Nat) (hx2 : x < 2 ^ 31) (hrc : rc < 2 ^ 31) : Met l y_Y_told w_Y_told (k2_rm 0 0) (rd_Pc D clX (wY h cI cZ n bt.testBit rk wt cl cc ow su sc od kn ke rp rc) [(cI, .int), (cZ, .boolean)] [.ref (h 0), .int (nI x)]) (k2_QcV (.int (vdt rc x))) 0 0 (fun _ => False) := by
  refine rd_met (by decide) rfl (Nat.le_of_ble_eq_true rfl) rfl ?_
  intro p e s m below meth c ls hx hb hr hml hown hts hlocks hP hK hl
  have hts : ∀ w ∈ tbl, w.before _ s = true := fun w h => hts w (List.mem_cons_of_mem _ h)
  have hown : s.vm.findClass RY = some m.cls := hown
  have hl : lv_has ls 2 [(0, .ref (h 0)), (1, .int (nI x))] := hl
  refine lv_aload_n hx hb d_Y_told_0 rfl (lv_at hl 0 rfl) ?_
  refine va_get (D := D) (ci := 1) (v := .int (nI rc)) (C := RY) (T := TY) (N := 14) hx hb hts inY hown hK hP 0 rfl rfl 13 (by decide) (hts _ f_Y_74) (fun _ h9 => h9) rfl d_Y_told_1 ?_
  refine lv_if_ne (tgt := 12) hx hb d_Y_told_4 (by decide) (fun c4 => ?_) (fun c4 => ?_)
  · have h0 : ¬ rc = 0 := fun q => c4 (by rw [q]; rfl)
    refine lv_iload_n hx hb d_Y_told_12 rfl (lv_at hl 1 rfl) ?_
    refine lv_aload_n hx hb d_Y_told_13 rfl (lv_at hl 0 rfl) ?_
    refine va_get (D := D) (ci := 1) (v := .int (nI rc)) (C := RY) (T := TY) (N := 14) hx hb hts inY hown hK hP 0 rfl rfl 13 (by decide) (hts _ f_Y_74) (fun _ h9 => h9) rfl d_Y_told_14 ?_
    refine lv_icmp_ne (tgt := 24) hx hb d_Y_told_17 (by decide) (fun c17 => ?_) (fun c17 => ?_)
    · refine lv_iload_n hx hb d_Y_told_24 rfl (lv_at hl 1 rfl) ?_
      refine lv_if_le (tgt := 32) hx hb d_Y_told_25 (by decide) (fun c25 => ?_) (fun c25 => ?_)
      · refine lv_iconst (v := 0) hx hb d_Y_told_32 (by decide) ?_
        exact rd_iret hx hb hr hlocks d_Y_told_33 (by rw [vdt, if_neg h0, if_neg (fun q => c17 (congrArg nI q)), if_neg (fun q => nI_nle q hx2 c25)])
      · refine lv_iconst (v := 1) hx hb d_Y_told_28 (by decide) ?_
        refine lv_goto (tgt := 33) hx hb d_Y_told_29 (by decide) ?_
        exact rd_iret hx hb hr hlocks d_Y_told_33 (by rw [vdt, if_neg h0, if_neg (fun q => c17 (congrArg nI q)), if_pos (Nat.pos_of_ne_zero (fun q => c25 (by rw [q]; decide)))])
    · refine lv_iconst (v := 2) hx hb d_Y_told_20 (by decide) ?_
      refine lv_goto (tgt := 33) hx hb d_Y_told_21 (by decide) ?_
      exact rd_iret hx hb hr hlocks d_Y_told_33 (by rw [vdt, if_neg h0, if_pos ((nI_eq hx2 hrc).mp c17)])
  · have h0 : rc = 0 := (nI_eq (b := 0) hrc (by decide)).mp c4
    refine lv_bipush (v := (-2)) hx hb d_Y_told_7 (by decide) ?_
    refine lv_goto (tgt := 33) hx hb d_Y_told_9 (by decide) ?_
    exact rd_iret hx hb hr hlocks d_Y_told_33 (by rw [vdt, if_pos h0])
set_option maxHeartbeats 4000000 in
set_option maxRecDepth 100000 in
theorem c_Y_compare (l : Launch) (a b r : Nat) (cs : Bool) (hn : n ≤ 11) (hrk : ∀ j, rk j < 8) (ha : a < 2 ^ 31) (hb2 : b < 2 ^ 31) (hr8 : r < 8) : Met l y_Y_compare w_Y_compare (k2_rm 1 21) (rd_Pc D clX (wY h cI cZ n bt.testBit rk wt cl cc ow su sc od kn ke rp rc) [(cI, .int), (cZ, .boolean)] [.ref (h 0), .int (nI a), .int (nI b), .int (nI r), .int (bI cs)]) (k2_QcV (.int (cmY n bt rk a b r cs))) 0 0 (fun _ => False) := by
  refine rd_met (by decide) rfl (Nat.le_of_ble_eq_true rfl) rfl ?_
  intro p e s m below meth c ls hx hb hr hml hown hts hlocks hP hK hl
  have hts : ∀ w ∈ tbl, w.before _ s = true := fun w h => hts w (List.mem_cons_of_mem _ h)
  have hown : s.vm.findClass RY = some m.cls := hown
  have hl : lv_has ls 8 [(0, .ref (h 0)), (1, .int (nI a)), (2, .int (nI b)), (3, .int (nI r)), (4, .int (bI cs))] := hl
  refine lv_iconst (v := 0) hx hb d_Y_compare_0 (by decide) ?_
  refine lv_istore (lv' := [(5, .int 0), (0, .ref (h 0)), (1, .int (nI a)), (2, .int (nI b)), (3, .int (nI r)), (4, .int (bI cs))]) hx hb d_Y_compare_1 hl (by decide) rfl (fun ls hl => ?_)
  refine lv_iconst (v := 0) hx hb d_Y_compare_3 (by decide) ?_
  refine lv_istore (lv' := [(6, .int 0), (5, .int 0), (0, .ref (h 0)), (1, .int (nI a)), (2, .int (nI b)), (3, .int (nI r)), (4, .int (bI cs))]) hx hb d_Y_compare_4 hl (by decide) rfl (fun ls hl => ?_)
  refine lv_iconst (v := 0) hx hb d_Y_compare_6 (by decide) ?_
  refine lv_istore (lv' := [(7, .int 0), (6, .int 0), (5, .int 0), (0, .ref (h 0)), (1, .int (nI a)), (2, .int (nI b)), (3, .int (nI r)), (4, .int (bI cs))]) hx hb d_Y_compare_7 hl (by decide) rfl (fun ls hl => ?_)
  refine rd_loop (nL := 8) (σ := Nat × Nat) (n) (fun i x => [(0, .ref (h 0)), (1, .int (nI a)), (2, .int (nI b)), (3, .int (nI r)), (4, .int (bI cs)), (5, .int (nI x.1)), (6, .int (nI x.2)), (7, .int (nI i))]) (fun i x => x.1 = cntB (moB bt rk a b r) i ∧ x.2 = cntB (moB bt rk b a r) i) ?_ 0 (0, 0) ls (Nat.zero_le _) (⟨rfl, rfl⟩) (lv_sub hl [3, 4, 5, 6, 7, 2, 1, 0] rfl)
  intro i x ls hi hI hl ih
  obtain ⟨h5, h6⟩ : x.1 = cntB (moB bt rk a b r) i ∧ x.2 = cntB (moB bt rk b a r) i := hI
  have hl : lv_has ls 8 [(0, .ref (h 0)), (1, .int (nI a)), (2, .int (nI b)), (3, .int (nI r)), (4, .int (bI cs)), (5, .int (nI x.1)), (6, .int (nI x.2)), (7, .int (nI i))] := hl
  refine lv_iload hx hb d_Y_compare_9 (lv_at hl 7 rfl) ?_
  refine lv_aload_n hx hb d_Y_compare_11 rfl (lv_at hl 0 rfl) ?_
  refine va_get (D := D) (ci := 1) (v := .int (nI n)) (C := RY) (T := TY) (N := 14) hx hb hts inY hown hK hP 0 rfl rfl 0 (by decide) (hts _ f_Y_35) (fun _ h9 => h9) rfl d_Y_compare_12 ?_
  refine lv_icmp_ge (tgt := 81) hx hb d_Y_compare_15 (by decide) (fun c15 => ?_) (fun c15 => ?_)
  · have hN : i = n := lp_ge hi (by omega) c15
    refine lv_iload hx hb d_Y_compare_81 (lv_at hl 4 rfl) ?_
    refine lv_if_eq (tgt := 110) hx hb d_Y_compare_83 (by decide) (fun c83 => ?_) (fun c83 => ?_)
    · refine lv_iload hx hb d_Y_compare_110 (lv_at hl 5 rfl) ?_
      refine lv_if_ne (tgt := 124) hx hb d_Y_compare_112 (by decide) (fun c112 => ?_) (fun c112 => ?_)
      · refine lv_iload hx hb d_Y_compare_124 (lv_at hl 6 rfl) ?_
        refine lv_if_ne (tgt := 133) hx hb d_Y_compare_126 (by decide) (fun c126 => ?_) (fun c126 => ?_)
        · refine lv_iload hx hb d_Y_compare_133 (lv_at hl 5 rfl) ?_
          refine lv_if_ne (tgt := 142) hx hb d_Y_compare_135 (by decide) (fun c135 => ?_) (fun c135 => ?_)
          · refine lv_iconst (v := 3) hx hb d_Y_compare_142 (by decide) ?_
            exact rd_iret hx hb hr hlocks d_Y_compare_143 (by unfold cmY; rw [← hN, ← h5, ← h6, cmV, if_neg (show ¬ cs = true by rw [bI_0.mp c83]; decide), if_neg (fun q => (fun q => c112 (by rw [q]; rfl)) q.1), if_neg (fun q => c126 (by rw [q]; rfl)), if_neg (fun q => c135 (by rw [q]; rfl))])
          · refine lv_iconst (v := 2) hx hb d_Y_compare_138 (by decide) ?_
            refine lv_goto (tgt := 143) hx hb d_Y_compare_139 (by decide) ?_
            exact rd_iret hx hb hr hlocks d_Y_compare_143 (by unfold cmY; rw [← hN, ← h5, ← h6, cmV, if_neg (show ¬ cs = true by rw [bI_0.mp c83]; decide), if_neg (fun q => (fun q => c112 (by rw [q]; rfl)) q.1), if_neg (fun q => c126 (by rw [q]; rfl)), if_pos ((nI_eq (b := 0) (show x.1 < 2 ^ 31 by rw [h5]; exact Nat.lt_of_le_of_lt cntB_le (by omega)) (by decide)).mp c135)])
        · refine lv_iconst (v := 1) hx hb d_Y_compare_129 (by decide) ?_
          refine lv_goto (tgt := 143) hx hb d_Y_compare_130 (by decide) ?_
          exact rd_iret hx hb hr hlocks d_Y_compare_143 (by unfold cmY; rw [← hN, ← h5, ← h6, cmV, if_neg (show ¬ cs = true by rw [bI_0.mp c83]; decide), if_neg (fun q => (fun q => c112 (by rw [q]; rfl)) q.1), if_pos ((nI_eq (b := 0) (show x.2 < 2 ^ 31 by rw [h6]; exact Nat.lt_of_le_of_lt cntB_le (by omega)) (by decide)).mp c126)])
      · refine lv_iload hx hb d_Y_compare_115 (lv_at hl 6 rfl) ?_
        refine lv_if_ne (tgt := 124) hx hb d_Y_compare_117 (by decide) (fun c117 => ?_) (fun c117 => ?_)
        · refine lv_iload hx hb d_Y_compare_124 (lv_at hl 6 rfl) ?_
          refine lv_if_ne (tgt := 133) hx hb d_Y_compare_126 (by decide) (fun c126 => ?_) (fun c126 => ?_)
          · refine lv_iload hx hb d_Y_compare_133 (lv_at hl 5 rfl) ?_
            refine lv_if_ne (tgt := 142) hx hb d_Y_compare_135 (by decide) (fun c135 => ?_) (fun c135 => ?_)
            · refine lv_iconst (v := 3) hx hb d_Y_compare_142 (by decide) ?_
              exact rd_iret hx hb hr hlocks d_Y_compare_143 (by unfold cmY; rw [← hN, ← h5, ← h6, cmV, if_neg (show ¬ cs = true by rw [bI_0.mp c83]; decide), if_neg (fun q => (fun q => c117 (by rw [q]; rfl)) q.2), if_neg (fun q => c126 (by rw [q]; rfl)), if_neg (fun q => c135 (by rw [q]; rfl))])
            · refine lv_iconst (v := 2) hx hb d_Y_compare_138 (by decide) ?_
              refine lv_goto (tgt := 143) hx hb d_Y_compare_139 (by decide) ?_
              exact rd_iret hx hb hr hlocks d_Y_compare_143 (by unfold cmY; rw [← hN, ← h5, ← h6, cmV, if_neg (show ¬ cs = true by rw [bI_0.mp c83]; decide), if_neg (fun q => (fun q => c117 (by rw [q]; rfl)) q.2), if_neg (fun q => c126 (by rw [q]; rfl)), if_pos ((nI_eq (b := 0) (show x.1 < 2 ^ 31 by rw [h5]; exact Nat.lt_of_le_of_lt cntB_le (by omega)) (by decide)).mp c135)])
          · refine lv_iconst (v := 1) hx hb d_Y_compare_129 (by decide) ?_
            refine lv_goto (tgt := 143) hx hb d_Y_compare_130 (by decide) ?_
            exact rd_iret hx hb hr hlocks d_Y_compare_143 (by unfold cmY; rw [← hN, ← h5, ← h6, cmV, if_neg (show ¬ cs = true by rw [bI_0.mp c83]; decide), if_neg (fun q => (fun q => c117 (by rw [q]; rfl)) q.2), if_pos ((nI_eq (b := 0) (show x.2 < 2 ^ 31 by rw [h6]; exact Nat.lt_of_le_of_lt cntB_le (by omega)) (by decide)).mp c126)])
        · refine lv_iconst (v := 0) hx hb d_Y_compare_120 (by decide) ?_
          refine lv_goto (tgt := 143) hx hb d_Y_compare_121 (by decide) ?_
          exact rd_iret hx hb hr hlocks d_Y_compare_143 (by unfold cmY; rw [← hN, ← h5, ← h6, cmV, if_neg (show ¬ cs = true by rw [bI_0.mp c83]; decide), if_pos ⟨(nI_eq (b := 0) (show x.1 < 2 ^ 31 by rw [h5]; exact Nat.lt_of_le_of_lt cntB_le (by omega)) (by decide)).mp c112, (nI_eq (b := 0) (show x.2 < 2 ^ 31 by rw [h6]; exact Nat.lt_of_le_of_lt cntB_le (by omega)) (by decide)).mp c117⟩])
    · refine lv_iload hx hb d_Y_compare_86 (lv_at hl 5 rfl) ?_
      refine lv_iload hx hb d_Y_compare_88 (lv_at hl 6 rfl) ?_
      refine lv_icmp_ne (tgt := 97) hx hb d_Y_compare_90 (by decide) (fun c90 => ?_) (fun c90 => ?_)
      · refine lv_iload hx hb d_Y_compare_97 (lv_at hl 5 rfl) ?_
        refine lv_iload hx hb d_Y_compare_99 (lv_at hl 6 rfl) ?_
        refine lv_icmp_le (tgt := 108) hx hb d_Y_compare_101 (by decide) (fun c101 => ?_) (fun c101 => ?_)
        · refine lv_iconst (v := 2) hx hb d_Y_compare_108 (by decide) ?_
          exact rd_iret hx hb hr hlocks d_Y_compare_109 (by unfold cmY; rw [← hN, ← h5, ← h6, cmV, if_pos (show cs = true by cases hq : cs; exact absurd (bI_0.mpr hq) c83; rfl), if_neg (fun q => c90 (congrArg nI q)), if_neg (Nat.not_lt.mpr ((nI_leI (show x.1 < 2 ^ 31 by rw [h5]; exact Nat.lt_of_le_of_lt cntB_le (by omega)) (show x.2 < 2 ^ 31 by rw [h6]; exact Nat.lt_of_le_of_lt cntB_le (by omega))).mp c101))])
        · refine lv_iconst (v := 1) hx hb d_Y_compare_104 (by decide) ?_
          refine lv_goto (tgt := 109) hx hb d_Y_compare_105 (by decide) ?_
          exact rd_iret hx hb hr hlocks d_Y_compare_109 (by unfold cmY; rw [← hN, ← h5, ← h6, cmV, if_pos (show cs = true by cases hq : cs; exact absurd (bI_0.mpr hq) c83; rfl), if_neg (fun q => c90 (congrArg nI q)), if_pos (Nat.lt_of_not_le (fun q => c101 ((nI_leI (show x.1 < 2 ^ 31 by rw [h5]; exact Nat.lt_of_le_of_lt cntB_le (by omega)) (show x.2 < 2 ^ 31 by rw [h6]; exact Nat.lt_of_le_of_lt cntB_le (by omega))).mpr q)))])
      · refine lv_iconst (v := 0) hx hb d_Y_compare_93 (by decide) ?_
        refine lv_goto (tgt := 109) hx hb d_Y_compare_94 (by decide) ?_
        exact rd_iret hx hb hr hlocks d_Y_compare_109 (by unfold cmY; rw [← hN, ← h5, ← h6, cmV, if_pos (show cs = true by cases hq : cs; exact absurd (bI_0.mpr hq) c83; rfl), if_pos ((nI_eq (show x.1 < 2 ^ 31 by rw [h5]; exact Nat.lt_of_le_of_lt cntB_le (by omega)) (show x.2 < 2 ^ 31 by rw [h6]; exact Nat.lt_of_le_of_lt cntB_le (by omega))).mp c90)])
  · have hlt : i < n := lp_lt hi (by omega) c15
    refine lv_aload_n hx hb d_Y_compare_18 rfl (lv_at hl 0 rfl) ?_
    refine va_get (D := D) (ci := 1) (v := .ref (h 1)) (C := RY) (T := TY) (N := 14) hx hb hts inY hown hK hP 0 rfl rfl 1 (by decide) (hts _ f_Y_7) (fun _ h9 => h9) rfl d_Y_compare_19 ?_
    refine lv_iload hx hb d_Y_compare_22 (lv_at hl 7 rfl) ?_
    refine va_zald hx hb hK hP 1 1 rfl rfl (vp_in_nI (show i < 11 by omega) (by decide)) d_Y_compare_24 ?_
    refine rd_top (z := bI (bt.testBit i)) (ar_bI bt.testBit (by omega)) ?_
    refine lv_if_ne (tgt := 75) hx hb d_Y_compare_25 (by decide) (fun c25 => ?_) (fun c25 => ?_)
    · refine lv_iinc (v := (nI (i + 1))) (lv' := [(7, .int (nI (i + 1))), (0, .ref (h 0)), (1, .int (nI a)), (2, .int (nI b)), (3, .int (nI r)), (4, .int (bI cs)), (5, .int (nI x.1)), (6, .int (nI x.2))]) hx hb d_Y_compare_75 hl (k := 7) rfl (nI_1 i) (by decide) rfl (fun ls hl => ?_)
      refine lv_goto (tgt := 9) hx hb d_Y_compare_78 (by decide) ?_
      exact ih hlt x ls (⟨cnt_f h5 (mo_f (fun q => c25 (bI_0.mpr q.1))), cnt_f h6 (mo_f (fun q => c25 (bI_0.mpr q.1)))⟩) (lv_sub hl [1, 2, 3, 4, 5, 6, 7, 0] rfl)
    · refine lv_aload_n hx hb d_Y_compare_28 rfl (lv_at hl 0 rfl) ?_
      refine va_get (D := D) (ci := 1) (v := .ref (h 2)) (C := RY) (T := TY) (N := 14) hx hb hts inY hown hK hP 0 rfl rfl 2 (by decide) (hts _ f_Y_13) (fun _ h9 => h9) rfl d_Y_compare_29 ?_
      refine lv_iload hx hb d_Y_compare_32 (lv_at hl 7 rfl) ?_
      refine va_iald hx hb hK hP 2 0 rfl rfl (vp_in_nI (show i < 11 by omega) (by decide)) d_Y_compare_34 ?_
      refine rd_top (z := nI (rk i)) (ar_nI rk (by omega)) ?_
      refine lv_iload_n hx hb d_Y_compare_35 rfl (lv_at hl 3 rfl) ?_
      refine lv_icmp_ne (tgt := 75) hx hb d_Y_compare_36 (by decide) (fun c36 => ?_) (fun c36 => ?_)
      · refine lv_iinc (v := (nI (i + 1))) (lv' := [(7, .int (nI (i + 1))), (0, .ref (h 0)), (1, .int (nI a)), (2, .int (nI b)), (3, .int (nI r)), (4, .int (bI cs)), (5, .int (nI x.1)), (6, .int (nI x.2))]) hx hb d_Y_compare_75 hl (k := 7) rfl (nI_1 i) (by decide) rfl (fun ls hl => ?_)
        refine lv_goto (tgt := 9) hx hb d_Y_compare_78 (by decide) ?_
        exact ih hlt x ls (⟨cnt_f h5 (mo_f (fun q => c36 (by rw [q.2.1]))), cnt_f h6 (mo_f (fun q => c36 (by rw [q.2.1])))⟩) (lv_sub hl [1, 2, 3, 4, 5, 6, 7, 0] rfl)
      · refine lv_iload_n hx hb d_Y_compare_39 rfl (lv_at hl 1 rfl) ?_
        refine lv_iload hx hb d_Y_compare_40 (lv_at hl 7 rfl) ?_
        refine rd_S (As := [.int (nI a), .int (nI i)]) (rest := []) ⟨hx, hb, hml, hown, hts⟩ (c_Y_has l a i ha (by omega)) (cwS 2 hts g_Y_60 rfl rfl rfl (by decide +kernel) ⟨Nat.le_of_ble_eq_true rfl, Nat.le_of_ble_eq_true rfl⟩) rfl hl.1 rfl (Nat.le_of_ble_eq_true rfl) d_Y_compare_42 ⟨Nat.zero_le _, Nat.zero_le _⟩ ?_
        refine lv_iload_n hx hb d_Y_compare_45 rfl (lv_at hl 2 rfl) ?_
        refine lv_iload hx hb d_Y_compare_46 (lv_at hl 7 rfl) ?_
        refine rd_S (As := [.int (nI b), .int (nI i)]) (rest := [.int (bI (a.testBit i))]) ⟨hx, hb, hml, hown, hts⟩ (c_Y_has l b i hb2 (by omega)) (cwS 2 hts g_Y_60 rfl rfl rfl (by decide +kernel) ⟨Nat.le_of_ble_eq_true rfl, Nat.le_of_ble_eq_true rfl⟩) rfl hl.1 rfl (Nat.le_of_ble_eq_true rfl) d_Y_compare_48 ⟨Nat.zero_le _, Nat.zero_le _⟩ ?_
        refine lv_icmp_ne (tgt := 57) hx hb d_Y_compare_51 (by decide) (fun c51 => ?_) (fun c51 => ?_)
        · refine lv_iload_n hx hb d_Y_compare_57 rfl (lv_at hl 1 rfl) ?_
          refine lv_iload hx hb d_Y_compare_58 (lv_at hl 7 rfl) ?_
          refine rd_S (As := [.int (nI a), .int (nI i)]) (rest := []) ⟨hx, hb, hml, hown, hts⟩ (c_Y_has l a i ha (by omega)) (cwS 2 hts g_Y_60 rfl rfl rfl (by decide +kernel) ⟨Nat.le_of_ble_eq_true rfl, Nat.le_of_ble_eq_true rfl⟩) rfl hl.1 rfl (Nat.le_of_ble_eq_true rfl) d_Y_compare_60 ⟨Nat.zero_le _, Nat.zero_le _⟩ ?_
          refine lv_if_eq (tgt := 72) hx hb d_Y_compare_63 (by decide) (fun c63 => ?_) (fun c63 => ?_)
          · refine lv_iinc (v := (nI (x.2 + 1))) (lv' := [(6, .int (nI (x.2 + 1))), (0, .ref (h 0)), (1, .int (nI a)), (2, .int (nI b)), (3, .int (nI r)), (4, .int (bI cs)), (5, .int (nI x.1)), (7, .int (nI i))]) hx hb d_Y_compare_72 hl (k := 6) rfl (nI_1 x.2) (by decide) rfl (fun ls hl => ?_)
            refine lv_iinc (v := (nI (i + 1))) (lv' := [(7, .int (nI (i + 1))), (6, .int (nI (x.2 + 1))), (0, .ref (h 0)), (1, .int (nI a)), (2, .int (nI b)), (3, .int (nI r)), (4, .int (bI cs)), (5, .int (nI x.1))]) hx hb d_Y_compare_75 hl (k := 7) rfl (nI_1 i) (by decide) rfl (fun ls hl => ?_)
            refine lv_goto (tgt := 9) hx hb d_Y_compare_78 (by decide) ?_
            exact ih hlt (x.1, x.2 + 1) ls (⟨cnt_f h5 (mo_f (fun q => by have h9 := bI_0.mp c63; rw [q.2.2.1] at h9; cases h9)), cnt_t h6 (mo_t ⟨bI_0.mp c25, (nI_eq (by have := hrk i; omega) (by omega)).mp c36, show b.testBit i = true by cases hq : b.testBit i; exact absurd (by rw [bI_0.mp c63, hq]) c51; rfl, bI_0.mp c63⟩)⟩) (lv_sub hl [2, 3, 4, 5, 6, 7, 1, 0] rfl)
          · refine lv_iinc (v := (nI (x.1 + 1))) (lv' := [(5, .int (nI (x.1 + 1))), (0, .ref (h 0)), (1, .int (nI a)), (2, .int (nI b)), (3, .int (nI r)), (4, .int (bI cs)), (6, .int (nI x.2)), (7, .int (nI i))]) hx hb d_Y_compare_66 hl (k := 5) rfl (nI_1 x.1) (by decide) rfl (fun ls hl => ?_)
            refine lv_goto (tgt := 75) hx hb d_Y_compare_69 (by decide) ?_
            refine lv_iinc (v := (nI (i + 1))) (lv' := [(7, .int (nI (i + 1))), (5, .int (nI (x.1 + 1))), (0, .ref (h 0)), (1, .int (nI a)), (2, .int (nI b)), (3, .int (nI r)), (4, .int (bI cs)), (6, .int (nI x.2))]) hx hb d_Y_compare_75 hl (k := 7) rfl (nI_1 i) (by decide) rfl (fun ls hl => ?_)
            refine lv_goto (tgt := 9) hx hb d_Y_compare_78 (by decide) ?_
            exact ih hlt (x.1 + 1, x.2) ls (⟨cnt_t h5 (mo_t ⟨bI_0.mp c25, (nI_eq (by have := hrk i; omega) (by omega)).mp c36, show a.testBit i = true by cases hq : a.testBit i; exact absurd (bI_0.mpr hq) c63; rfl, show b.testBit i = false by cases hq : b.testBit i; rfl; exact absurd (by rw [show a.testBit i = true by cases hq : a.testBit i; exact absurd (bI_0.mpr hq) c63; rfl, hq]) c51⟩), cnt_f h6 (mo_f (fun q => by have h9 := q.2.2.2; rw [show a.testBit i = true by cases hq : a.testBit i; exact absurd (bI_0.mpr hq) c63; rfl] at h9; cases h9))⟩) (lv_sub hl [2, 3, 4, 5, 6, 1, 7, 0] rfl)
        · refine lv_goto (tgt := 75) hx hb d_Y_compare_54 (by decide) ?_
          refine lv_iinc (v := (nI (i + 1))) (lv' := [(7, .int (nI (i + 1))), (0, .ref (h 0)), (1, .int (nI a)), (2, .int (nI b)), (3, .int (nI r)), (4, .int (bI cs)), (5, .int (nI x.1)), (6, .int (nI x.2))]) hx hb d_Y_compare_75 hl (k := 7) rfl (nI_1 i) (by decide) rfl (fun ls hl => ?_)
          refine lv_goto (tgt := 9) hx hb d_Y_compare_78 (by decide) ?_
          exact ih hlt x ls (⟨cnt_f h5 (mo_f (fun q => by have h9 := bI_inj.mp c51; rw [q.2.2.1, q.2.2.2] at h9; cases h9)), cnt_f h6 (mo_f (fun q => by have h9 := bI_inj.mp c51; rw [q.2.2.1, q.2.2.2] at h9; cases h9))⟩) (lv_sub hl [1, 2, 3, 4, 5, 6, 7, 0] rfl)
end MY1
end
section
/-! the reference's better is the class's -/
theorem cnt_0 {P : Nat → Bool} : ∀ {n : Nat}, cntB P n = 0 ↔ ∀ i, i < n → P i = false
  | 0 => ⟨fun _ i h => absurd h (Nat.not_lt_zero i), fun _ => rfl⟩
  | n + 1 => by
    rw [cntB]
    constructor
    · intro h i hi
      have h1 : cntB P n = 0 := by omega
      rcases Nat.lt_or_ge i n with q | q
      · exact cnt_0.mp h1 i q
      · rw [show i = n by omega]
        cases hq : P n
        · rfl
        · rw [hq, if_pos rfl] at h; omega
    · intro h
      rw [cnt_0.mpr (fun i hi => h i (by omega)), h n (by omega)]
      rfl
theorem mo_0 {n bt : Nat} {rk : Nat → Nat} {a b r : Nat} : cntB (moB bt rk a b r) n = 0 ↔ sp_sub (a &&& dfl bt rk r r n) (b &&& dfl bt rk r r n) = true := by
  rw [cnt_0, sub_iff]
  constructor
  · intro h j hj
    rw [and_bit, Bool.and_eq_true] at hj ⊢
    obtain ⟨h1, h2, h3, h4⟩ := dfl_t.mp hj.2
    refine ⟨?_, hj.2⟩
    cases hq : b.testBit j
    · have := h j h1
      rw [mo_t ⟨h2, by omega, hj.1, hq⟩] at this
      cases this
    · rfl
  · intro h j hj
    refine mo_f fun q => ?_
    obtain ⟨h1, h2, h3, h4⟩ := q
    have h5 : (a &&& dfl bt rk r r n).testBit j = true := by rw [and_bit, h3, dfl_t.mpr ⟨hj, h1, by omega, by omega⟩]; rfl
    have h6 := h j h5
    rw [and_bit, h4] at h6
    cases h6
theorem cm1_0 {n bt : Nat} {rk : Nat → Nat} {a b r : Nat} : cmY n bt rk a b r false = 0 ↔ a &&& dfl bt rk r r n = b &&& dfl bt rk r r n := by
  unfold cmY cmV
  rw [if_neg (by decide)]
  constructor
  · intro h
    split at h
    · rename_i q; exact sub_anti (mo_0.mp q.1) (mo_0.mp q.2)
    · split at h
      · exact absurd h (by decide)
      · split at h <;> exact absurd h (by decide)
  · intro h
    rw [if_pos ⟨mo_0.mpr (by rw [h]; exact sub_refl _), mo_0.mpr (by rw [h]; exact sub_refl _)⟩]
theorem cm1_1 {n bt : Nat} {rk : Nat → Nat} {a b r : Nat} : cmY n bt rk a b r false = 1 ↔ hasM (a &&& dfl bt rk r r n) (b &&& dfl bt rk r r n) = true := by
  rw [hasM_iff]
  unfold cmY cmV
  rw [if_neg (by decide)]
  constructor
  · intro h
    split at h
    · exact absurd h (by decide)
    · rename_i q
      split at h
      · rename_i q2
        exact ⟨fun e => q ⟨mo_0.mpr (by rw [e]; exact sub_refl _), q2⟩, mo_0.mp q2⟩
      · split at h <;> exact absurd h (by decide)
  · rintro ⟨h1, h2⟩
    rw [if_neg (fun q => h1 (sub_anti (mo_0.mp q.1) (mo_0.mp q.2))), if_pos (mo_0.mpr h2)]
theorem fnz_hmr {n bt : Nat} {rk : Nat → Nat} {a b : Nat} : ∀ k r, decide (fnz (fun r => cmY n bt rk a b r false) k r = 1) = hmr (fun r => dfl bt rk r r n) a b k r
  | 0, r => rfl
  | k + 1, r => by
    rw [fnz, hmr]
    by_cases h : a &&& dfl bt rk r r n = b &&& dfl bt rk r r n
    · rw [if_pos (cm1_0.mpr h), if_pos h, fnz_hmr k (r + 1)]
    · rw [if_neg (fun q => h (cm1_0.mp q)), if_neg h, Bool.eq_iff_iff, decide_eq_true_eq]
      exact cm1_1
def inR (bt : Nat) (rk : Nat → Nat) (S r : Nat) (j : Nat) : Bool := !bt.testBit j && (decide (rk j = r) && S.testBit j)
theorem mo_pt {bt : Nat} {rk : Nat → Nat} {a b r n : Nat} : (if moB bt rk a b r n = true then 1 else 0) + (if inR bt rk b r n = true then 1 else 0) = (if moB bt rk b a r n = true then 1 else 0) + (if inR bt rk a r n = true then 1 else 0) := by
  unfold moB inR
  cases bt.testBit n <;> cases a.testBit n <;> cases b.testBit n <;> cases decide (rk n = r) <;> rfl
theorem mo_sum {bt : Nat} {rk : Nat → Nat} {a b r : Nat} : ∀ n, cntB (moB bt rk a b r) n + cntB (inR bt rk b r) n = cntB (moB bt rk b a r) n + cntB (inR bt rk a r) n
  | 0 => rfl
  | n + 1 => by
    have h := mo_sum (bt := bt) (rk := rk) (a := a) (b := b) (r := r) n
    have h1 := mo_pt (bt := bt) (rk := rk) (a := a) (b := b) (r := r) (n := n)
    rw [cntB, cntB, cntB, cntB]
    generalize (if moB bt rk a b r n = true then 1 else 0) = p1 at h1 ⊢
    generalize (if inR bt rk b r n = true then 1 else 0) = p2 at h1 ⊢
    generalize (if moB bt rk b a r n = true then 1 else 0) = p3 at h1 ⊢
    generalize (if inR bt rk a r n = true then 1 else 0) = p4 at h1 ⊢
    omega
theorem cm2 {n bt : Nat} {rk : Nat → Nat} {a b r : Nat} : cmY n bt rk a b r true = if cntB (inR bt rk a r) n = cntB (inR bt rk b r) n then 0 else if cntB (inR bt rk b r) n < cntB (inR bt rk a r) n then 1 else 2 := by
  have h := mo_sum (bt := bt) (rk := rk) (a := a) (b := b) (r := r) n
  unfold cmY cmV
  rw [if_pos rfl]
  generalize cntB (moB bt rk a b r) n = x at h ⊢
  generalize cntB (moB bt rk b a r) n = y at h ⊢
  generalize cntB (inR bt rk a r) n = u at h ⊢
  generalize cntB (inR bt rk b r) n = v at h ⊢
  by_cases h1 : x = y
  · rw [if_pos h1, if_pos (show u = v by omega)]
  · rw [if_neg h1, if_neg (show ¬ u = v by omega)]
    by_cases h2 : y < x
    · rw [if_pos h2, if_pos (show v < u by omega)]
    · rw [if_neg h2, if_neg (show ¬ v < u by omega)]
/-- numbers below 16 as one number, the first the greatest -/
def pkN (c : Nat → Nat) : Nat → Nat
  | 0 => 0
  | r + 1 => pkN c r * 16 + c r
theorem pkN_congr {c d : Nat → Nat} : ∀ m, (∀ r, r < m → c r = d r) → pkN c m = pkN d m
  | 0, _ => rfl
  | m + 1, h => by rw [pkN, pkN, pkN_congr m (fun r hr => h r (by omega)), h m (by omega)]
theorem pkN_inc {c d : Nat → Nat} {q : Nat} (h : ∀ r, d r = c r + if r = q then 1 else 0) : ∀ m, pkN d m = pkN c m + if q < m then 16 ^ (m - 1 - q) else 0
  | 0 => by simp [pkN]
  | m + 1 => by
    have ih := pkN_inc h m
    rw [pkN, pkN, ih, h m]
    rcases Nat.lt_trichotomy m q with z | z | z
    · rw [if_neg (show ¬ q < m by omega), if_neg (show ¬ m = q by omega), if_neg (show ¬ q < m + 1 by omega)]
      omega
    · rw [if_neg (show ¬ q < m by omega), if_pos z, if_pos (show q < m + 1 by omega), show m + 1 - 1 - q = 0 by omega]
      omega
    · rw [if_pos z, if_neg (show ¬ m = q by omega), if_pos (show q < m + 1 by omega), show m + 1 - 1 - q = (m - 1 - q) + 1 by omega, Nat.pow_succ]
      omega
theorem wor_pk {bt : Nat} {rk wt : Nat → Nat} {S : Nat} (hrk : ∀ j, rk j < 8) : ∀ n, wor bt rk wt S 2 n = pkN (fun r => cntB (inR bt rk S r) n) 8
  | 0 => by
    rw [wor]
    exact (by decide : 0 = pkN (fun _ => 0) 8)
  | n + 1 => by
    rw [wor, wor_pk hrk n]
    by_cases h : S.testBit n = true ∧ bt.testBit n = false
    · rw [if_pos h, if_pos rfl]
      have h1 := pkN_inc (c := fun r => cntB (inR bt rk S r) n) (d := fun r => cntB (inR bt rk S r) (n + 1)) (q := rk n) (fun r => by
        show cntB (inR bt rk S r) (n + 1) = _
        rw [cntB]
        congr 1
        unfold inR
        rw [h.1, h.2]
        by_cases hq : rk n = r
        · rw [decide_eq_true hq, if_pos (show (!false && (true && true)) = true from rfl), if_pos hq.symm]
        · rw [decide_eq_false hq, if_neg (show ¬ (!false && (false && true)) = true by decide), if_neg (fun z => hq z.symm)]) 8
      rw [h1, if_pos (hrk n), Nat.pow_mul]
    · rw [if_neg h]
      refine pkN_congr 8 fun r _ => ?_
      show cntB (inR bt rk S r) n = cntB (inR bt rk S r) (n + 1)
      refine cnt_f rfl ?_
      unfold inR
      cases h1 : S.testBit n
      · simp
      · cases h2 : bt.testBit n
        · exact absurd ⟨h1, h2⟩ h
        · rfl
theorem pkN_lt {c d : Nat → Nat} (hc : ∀ r, c r < 16) {q : Nat} (h : pkN c q < pkN d q) : ∀ k, pkN c (q + k) < pkN d (q + k)
  | 0 => h
  | k + 1 => by
    have ih := pkN_lt hc h k
    show pkN c (q + k) * 16 + c (q + k) < pkN d (q + k) * 16 + d (q + k)
    have := hc (q + k)
    omega
theorem lex {c d : Nat → Nat} {f : Nat → Int32} (hc : ∀ r, c r < 16) (hd : ∀ r, d r < 16) (hf : ∀ r, f r = if d r = c r then 0 else if c r < d r then 1 else 2) : ∀ k r, r + k = 8 → pkN c r = pkN d r → (fnz f k r = 1 ↔ pkN c 8 < pkN d 8)
  | 0, r, hr, he => by
    rw [show r = 8 by omega] at he
    rw [fnz, he]
    exact ⟨fun h => absurd h (by decide), fun h => absurd h (Nat.lt_irrefl _)⟩
  | k + 1, r, hr, he => by
    rw [fnz]
    have hfr := hf r
    by_cases h1 : d r = c r
    · rw [if_pos h1] at hfr
      rw [if_pos hfr]
      exact lex hc hd hf k (r + 1) (by omega) (by rw [pkN, pkN, he, h1])
    · rw [if_neg h1] at hfr
      by_cases h2 : c r < d r
      · rw [if_pos h2] at hfr
        rw [hfr, if_neg (by decide)]
        have h3 := pkN_lt hc (q := r + 1) (d := d) (by rw [pkN, pkN, he]; omega) k
        rw [show r + 1 + k = 8 by omega] at h3
        exact ⟨fun _ => h3, fun _ => rfl⟩
      · rw [if_neg h2] at hfr
        rw [hfr, if_neg (by decide)]
        have h3 := pkN_lt hd (q := r + 1) (d := c) (by rw [pkN, pkN, he]; omega) k
        rw [show r + 1 + k = 8 by omega] at h3
        exact ⟨fun h => absurd h (by decide), fun h => absurd h (by omega)⟩
theorem bet_eq {n bt : Nat} {rk wt : Nat → Nat} {a b o : Nat} (hn : n ≤ 11) (hrk : ∀ j, rk j < 8) (ho : o < 4) : betY n bt rk wt a b o = betX n bt rk wt a b o := by
  unfold betY betX
  by_cases h0 : o = 0
  · rw [if_pos h0, if_pos h0]
  rw [if_neg h0, if_neg h0]
  by_cases h3 : o = 3
  · rw [if_pos h3, if_neg (show ¬ o = 1 by omega), h3]
  rw [if_neg h3]
  by_cases h1 : o = 1
  · rw [if_pos h1, decide_eq_false (show ¬ o = 2 by omega)]
    exact fnz_hmr 8 0
  rw [if_neg h1, decide_eq_true (show o = 2 by omega), show o = 2 by omega, wor_pk hrk, wor_pk hrk, Bool.eq_iff_iff, decide_eq_true_eq, decide_eq_true_eq]
  exact lex (fun r => Nat.lt_of_le_of_lt cntB_le (by omega)) (fun r => Nat.lt_of_le_of_lt cntB_le (by omega)) (fun r => cm2) 8 0 rfl rfl
theorem or_sub {a b : Nat} : a ||| b = a ↔ sp_sub b a = true := by
  rw [sub_iff]
  constructor
  · intro h i hi
    rw [← h, Nat.testBit_or, hi, Bool.or_true]
  · intro h
    apply Nat.eq_of_testBit_eq
    intro i
    rw [Nat.testBit_or]
    cases hb : b.testBit i
    · rw [Bool.or_false]
    · rw [h i hb]; rfl
end
section
section MY2
variable {D : va_G} {h : Nat → Nat} {cI cZ : ClassId} {n bt : Nat} {rk wt cl : Nat → Nat} {cc : Nat} {ow su : Nat → Nat} {sc od : Nat} {kn : Bool} {ke : Nat → Bool} {rp : Nat → Nat} {rc : Nat}
set_option maxHeartbeats 4000000 in
set_option maxRecDepth 100000 in
theorem c_Y_isBetter (l : Launch) (a b o : Nat) (hn : n ≤ 11) (hrk : ∀ j, rk j < 8) (hwt : ∀ j, wt j ≤ 1000) (ha : a < 2 ^ 31) (hb2 : b < 2 ^ 31) (ho : o < 4) : Met l y_Y_isBetter w_Y_isBetter (k2_rm 2 48) (rd_Pc D clX (wY h cI cZ n bt.testBit rk wt cl cc ow su sc od kn ke rp rc) [(cI, .int), (cZ, .boolean)] [.ref (h 0), .int (nI a), .int (nI b), .int (nI o)]) (k2_QcV (.int (bI (betY n bt rk wt a b o)))) 0 0 (fun _ => False) := by
  refine rd_met (by decide) rfl (Nat.le_of_ble_eq_true rfl) rfl ?_
  intro p e s m below meth c ls hx hb hr hml hown hts hlocks hP hK hl
  have hts : ∀ w ∈ tbl, w.before _ s = true := fun w h => hts w (List.mem_cons_of_mem _ h)
  have hown : s.vm.findClass RY = some m.cls := hown
  have hl : lv_has ls 6 [(0, .ref (h 0)), (1, .int (nI a)), (2, .int (nI b)), (3, .int (nI o))] := hl
  refine lv_iload_n hx hb d_Y_isBetter_0 rfl (lv_at hl 3 rfl) ?_
  refine lv_if_ne (tgt := 22) hx hb d_Y_isBetter_1 (by decide) (fun c1 => ?_) (fun c1 => ?_)
  · have ho0 : ¬ o = 0 := fun q => c1 (by rw [q]; rfl)
    refine lv_iload_n hx hb d_Y_isBetter_22 rfl (lv_at hl 3 rfl) ?_
    refine lv_iconst (v := 3) hx hb d_Y_isBetter_23 (by decide) ?_
    refine lv_icmp_ne (tgt := 121) hx hb d_Y_isBetter_24 (by decide) (fun c24 => ?_) (fun c24 => ?_)
    · have ho3 : ¬ o = 3 := fun q => c24 (by rw [q]; rfl)
      refine lv_iconst (v := 0) hx hb d_Y_isBetter_121 (by decide) ?_
      refine lv_istore (lv' := [(4, .int 0), (0, .ref (h 0)), (1, .int (nI a)), (2, .int (nI b)), (3, .int (nI o))]) hx hb d_Y_isBetter_122 hl (by decide) rfl (fun ls hl => ?_)
      refine lv_iconst (v := 0) hx hb d_Y_isBetter_124 (by decide) ?_
      refine lv_istore (lv' := [(5, .int 0), (4, .int 0), (0, .ref (h 0)), (1, .int (nI a)), (2, .int (nI b)), (3, .int (nI o))]) hx hb d_Y_isBetter_125 hl (by decide) rfl (fun ls hl => ?_)
      refine rd_loop (nL := 6) (σ := Int32) (8) (fun i x => [(0, .ref (h 0)), (1, .int (nI a)), (2, .int (nI b)), (3, .int (nI o)), (4, .int x), (5, .int (nI i))]) (fun i x => (x = 0 → fnz (fun r => cmY n bt rk a b r (decide (o = 2))) 8 0 = fnz (fun r => cmY n bt rk a b r (decide (o = 2))) (8 - i) i) ∧ (¬ x = 0 → fnz (fun r => cmY n bt rk a b r (decide (o = 2))) 8 0 = x)) ?_ 0 0 ls (Nat.zero_le _) (⟨fun _ => rfl, fun q => absurd rfl q⟩) (lv_sub hl [2, 3, 4, 5, 1, 0] rfl)
      intro i x ls hi hI hl ih
      have hI : (x = 0 → fnz (fun r => cmY n bt rk a b r (decide (o = 2))) 8 0 = fnz (fun r => cmY n bt rk a b r (decide (o = 2))) (8 - i) i) ∧ (¬ x = 0 → fnz (fun r => cmY n bt rk a b r (decide (o = 2))) 8 0 = x) := hI
      have hl : lv_has ls 6 [(0, .ref (h 0)), (1, .int (nI a)), (2, .int (nI b)), (3, .int (nI o)), (4, .int x), (5, .int (nI i))] := hl
      refine lv_iload hx hb d_Y_isBetter_127 (lv_at hl 5 rfl) ?_
      refine lv_bipush (v := 8) hx hb d_Y_isBetter_129 (by decide) ?_
      refine lv_icmp_ge (tgt := 165) hx hb d_Y_isBetter_131 (by decide) (fun c131 => ?_) (fun c131 => ?_)
      · have hN : i = 8 := lp_ge hi (by decide) c131
        have hfx : fnz (fun r => cmY n bt rk a b r (decide (o = 2))) 8 0 = x := by
          by_cases q : x = 0
          · rw [hI.1 q, hN, q]; rfl
          · exact hI.2 q
        refine lv_iload hx hb d_Y_isBetter_165 (lv_at hl 4 rfl) ?_
        refine lv_iconst (v := 1) hx hb d_Y_isBetter_167 (by decide) ?_
        refine lv_icmp_ne (tgt := 175) hx hb d_Y_isBetter_168 (by decide) (fun c168 => ?_) (fun c168 => ?_)
        · refine lv_iconst (v := 0) hx hb d_Y_isBetter_175 (by decide) ?_
          exact rd_zret hx hb hr hlocks d_Y_isBetter_176 (by rw [betY, if_neg ho0, if_neg ho3, decide_eq_false (fun q => c168 (hfx.symm.trans q))]; rfl)
        · refine lv_iconst (v := 1) hx hb d_Y_isBetter_171 (by decide) ?_
          refine lv_goto (tgt := 176) hx hb d_Y_isBetter_172 (by decide) ?_
          exact rd_zret hx hb hr hlocks d_Y_isBetter_176 (by rw [betY, if_neg ho0, if_neg ho3, decide_eq_true (hfx.trans c168)]; rfl)
      · have hlt : i < 8 := lp_lt hi (by decide) c131
        refine lv_iload hx hb d_Y_isBetter_134 (lv_at hl 4 rfl) ?_
        refine lv_if_ne (tgt := 165) hx hb d_Y_isBetter_136 (by decide) (fun c136 => ?_) (fun c136 => ?_)
        · have hfx : fnz (fun r => cmY n bt rk a b r (decide (o = 2))) 8 0 = x := hI.2 c136
          refine lv_iload hx hb d_Y_isBetter_165 (lv_at hl 4 rfl) ?_
          refine lv_iconst (v := 1) hx hb d_Y_isBetter_167 (by decide) ?_
          refine lv_icmp_ne (tgt := 175) hx hb d_Y_isBetter_168 (by decide) (fun c168 => ?_) (fun c168 => ?_)
          · refine lv_iconst (v := 0) hx hb d_Y_isBetter_175 (by decide) ?_
            exact rd_zret hx hb hr hlocks d_Y_isBetter_176 (by rw [betY, if_neg ho0, if_neg ho3, decide_eq_false (fun q => c168 (hfx.symm.trans q))]; rfl)
          · refine lv_iconst (v := 1) hx hb d_Y_isBetter_171 (by decide) ?_
            refine lv_goto (tgt := 176) hx hb d_Y_isBetter_172 (by decide) ?_
            exact rd_zret hx hb hr hlocks d_Y_isBetter_176 (by rw [betY, if_neg ho0, if_neg ho3, decide_eq_true (hfx.trans c168)]; rfl)
        · refine lv_aload_n hx hb d_Y_isBetter_139 rfl (lv_at hl 0 rfl) ?_
          refine lv_iload_n hx hb d_Y_isBetter_140 rfl (lv_at hl 1 rfl) ?_
          refine lv_iload_n hx hb d_Y_isBetter_141 rfl (lv_at hl 2 rfl) ?_
          refine lv_iload hx hb d_Y_isBetter_142 (lv_at hl 5 rfl) ?_
          refine lv_iload_n hx hb d_Y_isBetter_144 rfl (lv_at hl 3 rfl) ?_
          refine lv_iconst (v := 2) hx hb d_Y_isBetter_145 (by decide) ?_
          refine lv_icmp_ne (tgt := 153) hx hb d_Y_isBetter_146 (by decide) (fun c146 => ?_) (fun c146 => ?_)
          · refine lv_iconst (v := 0) hx hb d_Y_isBetter_153 (by decide) ?_
            refine rd_top (z := bI (decide (o = 2))) (by rw [decide_eq_false (fun q => c146 (by rw [q]; rfl))]; rfl) ?_
            refine rd_V (As := [.int (nI a), .int (nI b), .int (nI i), .int (bI (decide (o = 2)))]) (rest := []) ⟨hx, hb, hml, hown, hts⟩ (c_Y_compare l a b i (decide (o = 2)) hn hrk ha hb2 (by omega)) (cwV 4 hts g_Y_63 rfl rfl rfl (by decide +kernel) ⟨Nat.le_of_ble_eq_true rfl, Nat.le_of_ble_eq_true rfl⟩) hK hP 0 rfl rfl rfl hl.1 rfl (Nat.le_of_ble_eq_true rfl) d_Y_isBetter_154 ⟨Nat.zero_le _, Nat.zero_le _⟩ ?_
            refine lv_istore (lv' := [(4, .int (cmY n bt rk a b i (decide (o = 2)))), (0, .ref (h 0)), (1, .int (nI a)), (2, .int (nI b)), (3, .int (nI o)), (5, .int (nI i))]) hx hb d_Y_isBetter_157 hl (by decide) rfl (fun ls hl => ?_)
            refine lv_iinc (v := (nI (i + 1))) (lv' := [(5, .int (nI (i + 1))), (4, .int (cmY n bt rk a b i (decide (o = 2)))), (0, .ref (h 0)), (1, .int (nI a)), (2, .int (nI b)), (3, .int (nI o))]) hx hb d_Y_isBetter_159 hl (k := 5) rfl (nI_1 i) (by decide) rfl (fun ls hl => ?_)
            refine lv_goto (tgt := 127) hx hb d_Y_isBetter_162 (by decide) ?_
            exact ih hlt (cmY n bt rk a b i (decide (o = 2))) ls (⟨fun q => by rw [hI.1 c136, show 8 - i = (8 - (i + 1)) + 1 by omega, fnz, if_pos q], fun q => by rw [hI.1 c136, show 8 - i = (8 - (i + 1)) + 1 by omega, fnz, if_neg q]⟩) (lv_sub hl [2, 3, 4, 5, 1, 0] rfl)
          · refine lv_iconst (v := 1) hx hb d_Y_isBetter_149 (by decide) ?_
            refine rd_top (z := bI (decide (o = 2))) (by rw [decide_eq_true ((nI_eq (b := 2) (by omega) (by decide)).mp c146)]; rfl) ?_
            refine lv_goto (tgt := 154) hx hb d_Y_isBetter_150 (by decide) ?_
            refine rd_V (As := [.int (nI a), .int (nI b), .int (nI i), .int (bI (decide (o = 2)))]) (rest := []) ⟨hx, hb, hml, hown, hts⟩ (c_Y_compare l a b i (decide (o = 2)) hn hrk ha hb2 (by omega)) (cwV 4 hts g_Y_63 rfl rfl rfl (by decide +kernel) ⟨Nat.le_of_ble_eq_true rfl, Nat.le_of_ble_eq_true rfl⟩) hK hP 0 rfl rfl rfl hl.1 rfl (Nat.le_of_ble_eq_true rfl) d_Y_isBetter_154 ⟨Nat.zero_le _, Nat.zero_le _⟩ ?_
            refine lv_istore (lv' := [(4, .int (cmY n bt rk a b i (decide (o = 2)))), (0, .ref (h 0)), (1, .int (nI a)), (2, .int (nI b)), (3, .int (nI o)), (5, .int (nI i))]) hx hb d_Y_isBetter_157 hl (by decide) rfl (fun ls hl => ?_)
            refine lv_iinc (v := (nI (i + 1))) (lv' := [(5, .int (nI (i + 1))), (4, .int (cmY n bt rk a b i (decide (o = 2)))), (0, .ref (h 0)), (1, .int (nI a)), (2, .int (nI b)), (3, .int (nI o))]) hx hb d_Y_isBetter_159 hl (k := 5) rfl (nI_1 i) (by decide) rfl (fun ls hl => ?_)
            refine lv_goto (tgt := 127) hx hb d_Y_isBetter_162 (by decide) ?_
            exact ih hlt (cmY n bt rk a b i (decide (o = 2))) ls (⟨fun q => by rw [hI.1 c136, show 8 - i = (8 - (i + 1)) + 1 by omega, fnz, if_pos q], fun q => by rw [hI.1 c136, show 8 - i = (8 - (i + 1)) + 1 by omega, fnz, if_neg q]⟩) (lv_sub hl [2, 3, 4, 5, 1, 0] rfl)
    · have ho3 : o = 3 := (nI_eq (b := 3) (by omega) (by decide)).mp c24
      refine lv_iconst (v := 0) hx hb d_Y_isBetter_27 (by decide) ?_
      refine rd_top (z := nI 0 - nI 0) (by decide) ?_
      refine lv_istore (lv' := [(4, .int (nI 0 - nI 0)), (0, .ref (h 0)), (1, .int (nI a)), (2, .int (nI b)), (3, .int (nI o))]) hx hb d_Y_isBetter_28 hl (by decide) rfl (fun ls hl => ?_)
      refine lv_iconst (v := 0) hx hb d_Y_isBetter_30 (by decide) ?_
      refine lv_istore (lv' := [(5, .int 0), (4, .int (nI 0 - nI 0)), (0, .ref (h 0)), (1, .int (nI a)), (2, .int (nI b)), (3, .int (nI o))]) hx hb d_Y_isBetter_31 hl (by decide) rfl (fun ls hl => ?_)
      refine rd_loop (nL := 6) (σ := Nat × Nat) (n) (fun i x => [(0, .ref (h 0)), (1, .int (nI a)), (2, .int (nI b)), (3, .int (nI o)), (4, .int (nI x.1 - nI x.2)), (5, .int (nI i))]) (fun i x => x.1 = wor bt rk wt a 3 i ∧ x.2 = wor bt rk wt b 3 i) ?_ 0 (0, 0) ls (Nat.zero_le _) (⟨rfl, rfl⟩) (lv_sub hl [2, 3, 4, 5, 1, 0] rfl)
      intro i x ls hi hI hl ih
      obtain ⟨h5, h6⟩ : x.1 = wor bt rk wt a 3 i ∧ x.2 = wor bt rk wt b 3 i := hI
      have hl : lv_has ls 6 [(0, .ref (h 0)), (1, .int (nI a)), (2, .int (nI b)), (3, .int (nI o)), (4, .int (nI x.1 - nI x.2)), (5, .int (nI i))] := hl
      refine lv_iload hx hb d_Y_isBetter_33 (lv_at hl 5 rfl) ?_
      refine lv_aload_n hx hb d_Y_isBetter_35 rfl (lv_at hl 0 rfl) ?_
      refine va_get (D := D) (ci := 1) (v := .int (nI n)) (C := RY) (T := TY) (N := 14) hx hb hts inY hown hK hP 0 rfl rfl 0 (by decide) (hts _ f_Y_35) (fun _ h9 => h9) rfl d_Y_isBetter_36 ?_
      refine lv_icmp_ge (tgt := 110) hx hb d_Y_isBetter_39 (by decide) (fun c39 => ?_) (fun c39 => ?_)
      · have hN : i = n := lp_ge hi (by omega) c39
        refine lv_iload hx hb d_Y_isBetter_110 (lv_at hl 4 rfl) ?_
        refine lv_if_le (tgt := 119) hx hb d_Y_isBetter_112 (by decide) (fun c112 => ?_) (fun c112 => ?_)
        · refine lv_iconst (v := 0) hx hb d_Y_isBetter_119 (by decide) ?_
          exact rd_zret hx hb hr hlocks d_Y_isBetter_120 (by rw [betY, if_neg ho0, if_pos ho3, ← hN, ← h5, ← h6, decide_eq_false (fun q => absurd ((su_3 (by rw [h5]; exact wor3_lt hwt (by omega)) (by rw [h6]; exact wor3_lt hwt (by omega))).mpr q) (Int32.not_lt.mpr c112))]; rfl)
        · refine lv_iconst (v := 1) hx hb d_Y_isBetter_115 (by decide) ?_
          refine lv_goto (tgt := 120) hx hb d_Y_isBetter_116 (by decide) ?_
          exact rd_zret hx hb hr hlocks d_Y_isBetter_120 (by rw [betY, if_neg ho0, if_pos ho3, ← hN, ← h5, ← h6, decide_eq_true ((su_3 (by rw [h5]; exact wor3_lt hwt (by omega)) (by rw [h6]; exact wor3_lt hwt (by omega))).mp (Int32.not_le.mp c112))]; rfl)
      · have hlt : i < n := lp_lt hi (by omega) c39
        refine lv_aload_n hx hb d_Y_isBetter_42 rfl (lv_at hl 0 rfl) ?_
        refine va_get (D := D) (ci := 1) (v := .ref (h 1)) (C := RY) (T := TY) (N := 14) hx hb hts inY hown hK hP 0 rfl rfl 1 (by decide) (hts _ f_Y_7) (fun _ h9 => h9) rfl d_Y_isBetter_43 ?_
        refine lv_iload hx hb d_Y_isBetter_46 (lv_at hl 5 rfl) ?_
        refine va_zald hx hb hK hP 1 1 rfl rfl (vp_in_nI (show i < 11 by omega) (by decide)) d_Y_isBetter_48 ?_
        refine rd_top (z := bI (bt.testBit i)) (ar_bI bt.testBit (by omega)) ?_
        refine lv_if_ne (tgt := 73) hx hb d_Y_isBetter_49 (by decide) (fun c49 => ?_) (fun c49 => ?_)
        · refine lv_aload_n hx hb d_Y_isBetter_73 rfl (lv_at hl 0 rfl) ?_
          refine va_get (D := D) (ci := 1) (v := .ref (h 1)) (C := RY) (T := TY) (N := 14) hx hb hts inY hown hK hP 0 rfl rfl 1 (by decide) (hts _ f_Y_7) (fun _ h9 => h9) rfl d_Y_isBetter_74 ?_
          refine lv_iload hx hb d_Y_isBetter_77 (lv_at hl 5 rfl) ?_
          refine va_zald hx hb hK hP 1 1 rfl rfl (vp_in_nI (show i < 11 by omega) (by decide)) d_Y_isBetter_79 ?_
          refine rd_top (z := bI (bt.testBit i)) (ar_bI bt.testBit (by omega)) ?_
          refine lv_if_ne (tgt := 104) hx hb d_Y_isBetter_80 (by decide) (fun c80 => ?_) (fun c80 => ?_)
          · refine lv_iinc (v := (nI (i + 1))) (lv' := [(5, .int (nI (i + 1))), (0, .ref (h 0)), (1, .int (nI a)), (2, .int (nI b)), (3, .int (nI o)), (4, .int (nI x.1 - nI x.2))]) hx hb d_Y_isBetter_104 hl (k := 5) rfl (nI_1 i) (by decide) rfl (fun ls hl => ?_)
            refine lv_goto (tgt := 33) hx hb d_Y_isBetter_107 (by decide) ?_
            exact ih hlt (x.1, x.2) ls (⟨wo_f h5 (fun q => c49 (bI_0.mpr q.2)), wo_f h6 (fun q => c80 (bI_0.mpr q.2))⟩) (lv_sub hl [1, 2, 3, 4, 5, 0] rfl)
          · refine lv_iload_n hx hb d_Y_isBetter_83 rfl (lv_at hl 2 rfl) ?_
            refine lv_iload hx hb d_Y_isBetter_84 (lv_at hl 5 rfl) ?_
            refine rd_S (As := [.int (nI b), .int (nI i)]) (rest := []) ⟨hx, hb, hml, hown, hts⟩ (c_Y_has l b i hb2 (by omega)) (cwS 2 hts g_Y_60 rfl rfl rfl (by decide +kernel) ⟨Nat.le_of_ble_eq_true rfl, Nat.le_of_ble_eq_true rfl⟩) rfl hl.1 rfl (Nat.le_of_ble_eq_true rfl) d_Y_isBetter_86 ⟨Nat.zero_le _, Nat.zero_le _⟩ ?_
            refine lv_if_eq (tgt := 104) hx hb d_Y_isBetter_89 (by decide) (fun c89 => ?_) (fun c89 => ?_)
            · refine lv_iinc (v := (nI (i + 1))) (lv' := [(5, .int (nI (i + 1))), (0, .ref (h 0)), (1, .int (nI a)), (2, .int (nI b)), (3, .int (nI o)), (4, .int (nI x.1 - nI x.2))]) hx hb d_Y_isBetter_104 hl (k := 5) rfl (nI_1 i) (by decide) rfl (fun ls hl => ?_)
              refine lv_goto (tgt := 33) hx hb d_Y_isBetter_107 (by decide) ?_
              exact ih hlt (x.1, x.2) ls (⟨wo_f h5 (fun q => c49 (bI_0.mpr q.2)), wo_f h6 (fun q => by have h9 := bI_0.mp c89; rw [q.1] at h9; cases h9)⟩) (lv_sub hl [1, 2, 3, 4, 5, 0] rfl)
            · refine lv_iload hx hb d_Y_isBetter_92 (lv_at hl 4 rfl) ?_
              refine lv_aload_n hx hb d_Y_isBetter_94 rfl (lv_at hl 0 rfl) ?_
              refine va_get (D := D) (ci := 1) (v := .ref (h 3)) (C := RY) (T := TY) (N := 14) hx hb hts inY hown hK hP 0 rfl rfl 3 (by decide) (hts _ f_Y_17) (fun _ h9 => h9) rfl d_Y_isBetter_95 ?_
              refine lv_iload hx hb d_Y_isBetter_98 (lv_at hl 5 rfl) ?_
              refine va_iald hx hb hK hP 3 0 rfl rfl (vp_in_nI (show i < 11 by omega) (by decide)) d_Y_isBetter_100 ?_
              refine rd_top (z := nI (wt i)) (ar_nI wt (by omega)) ?_
              refine lv_isub hx hb d_Y_isBetter_101 ?_
              refine rd_top (z := nI (x.1) - nI (x.2 + wt i)) (su_2 _ _ _) ?_
              refine lv_istore (lv' := [(4, .int (nI (x.1) - nI (x.2 + wt i))), (0, .ref (h 0)), (1, .int (nI a)), (2, .int (nI b)), (3, .int (nI o)), (5, .int (nI i))]) hx hb d_Y_isBetter_102 hl (by decide) rfl (fun ls hl => ?_)
              refine lv_iinc (v := (nI (i + 1))) (lv' := [(5, .int (nI (i + 1))), (4, .int (nI (x.1) - nI (x.2 + wt i))), (0, .ref (h 0)), (1, .int (nI a)), (2, .int (nI b)), (3, .int (nI o))]) hx hb d_Y_isBetter_104 hl (k := 5) rfl (nI_1 i) (by decide) rfl (fun ls hl => ?_)
              refine lv_goto (tgt := 33) hx hb d_Y_isBetter_107 (by decide) ?_
              exact ih hlt (x.1, x.2 + wt i) ls (⟨wo_f h5 (fun q => c49 (bI_0.mpr q.2)), wo_t h6 (bI_0.mp c80) (show b.testBit i = true by cases hq : b.testBit i; exact absurd (bI_0.mpr hq) c89; rfl)⟩) (lv_sub hl [2, 3, 4, 5, 1, 0] rfl)
        · refine lv_iload_n hx hb d_Y_isBetter_52 rfl (lv_at hl 1 rfl) ?_
          refine lv_iload hx hb d_Y_isBetter_53 (lv_at hl 5 rfl) ?_
          refine rd_S (As := [.int (nI a), .int (nI i)]) (rest := []) ⟨hx, hb, hml, hown, hts⟩ (c_Y_has l a i ha (by omega)) (cwS 2 hts g_Y_60 rfl rfl rfl (by decide +kernel) ⟨Nat.le_of_ble_eq_true rfl, Nat.le_of_ble_eq_true rfl⟩) rfl hl.1 rfl (Nat.le_of_ble_eq_true rfl) d_Y_isBetter_55 ⟨Nat.zero_le _, Nat.zero_le _⟩ ?_
          refine lv_if_eq (tgt := 73) hx hb d_Y_isBetter_58 (by decide) (fun c58 => ?_) (fun c58 => ?_)
          · refine lv_aload_n hx hb d_Y_isBetter_73 rfl (lv_at hl 0 rfl) ?_
            refine va_get (D := D) (ci := 1) (v := .ref (h 1)) (C := RY) (T := TY) (N := 14) hx hb hts inY hown hK hP 0 rfl rfl 1 (by decide) (hts _ f_Y_7) (fun _ h9 => h9) rfl d_Y_isBetter_74 ?_
            refine lv_iload hx hb d_Y_isBetter_77 (lv_at hl 5 rfl) ?_
            refine va_zald hx hb hK hP 1 1 rfl rfl (vp_in_nI (show i < 11 by omega) (by decide)) d_Y_isBetter_79 ?_
            refine rd_top (z := bI (bt.testBit i)) (ar_bI bt.testBit (by omega)) ?_
            refine lv_if_ne (tgt := 104) hx hb d_Y_isBetter_80 (by decide) (fun c80 => ?_) (fun c80 => ?_)
            · refine lv_iinc (v := (nI (i + 1))) (lv' := [(5, .int (nI (i + 1))), (0, .ref (h 0)), (1, .int (nI a)), (2, .int (nI b)), (3, .int (nI o)), (4, .int (nI x.1 - nI x.2))]) hx hb d_Y_isBetter_104 hl (k := 5) rfl (nI_1 i) (by decide) rfl (fun ls hl => ?_)
              refine lv_goto (tgt := 33) hx hb d_Y_isBetter_107 (by decide) ?_
              exact ih hlt (x.1, x.2) ls (⟨wo_f h5 (fun q => by have h9 := bI_0.mp c58; rw [q.1] at h9; cases h9), wo_f h6 (fun q => c80 (bI_0.mpr q.2))⟩) (lv_sub hl [1, 2, 3, 4, 5, 0] rfl)
            · refine lv_iload_n hx hb d_Y_isBetter_83 rfl (lv_at hl 2 rfl) ?_
              refine lv_iload hx hb d_Y_isBetter_84 (lv_at hl 5 rfl) ?_
              refine rd_S (As := [.int (nI b), .int (nI i)]) (rest := []) ⟨hx, hb, hml, hown, hts⟩ (c_Y_has l b i hb2 (by omega)) (cwS 2 hts g_Y_60 rfl rfl rfl (by decide +kernel) ⟨Nat.le_of_ble_eq_true rfl, Nat.le_of_ble_eq_true rfl⟩) rfl hl.1 rfl (Nat.le_of_ble_eq_true rfl) d_Y_isBetter_86 ⟨Nat.zero_le _, Nat.zero_le _⟩ ?_
              refine lv_if_eq (tgt := 104) hx hb d_Y_isBetter_89 (by decide) (fun c89 => ?_) (fun c89 => ?_)
              · refine lv_iinc (v := (nI (i + 1))) (lv' := [(5, .int (nI (i + 1))), (0, .ref (h 0)), (1, .int (nI a)), (2, .int (nI b)), (3, .int (nI o)), (4, .int (nI x.1 - nI x.2))]) hx hb d_Y_isBetter_104 hl (k := 5) rfl (nI_1 i) (by decide) rfl (fun ls hl => ?_)
                refine lv_goto (tgt := 33) hx hb d_Y_isBetter_107 (by decide) ?_
                exact ih hlt (x.1, x.2) ls (⟨wo_f h5 (fun q => by have h9 := bI_0.mp c58; rw [q.1] at h9; cases h9), wo_f h6 (fun q => by have h9 := bI_0.mp c89; rw [q.1] at h9; cases h9)⟩) (lv_sub hl [1, 2, 3, 4, 5, 0] rfl)
              · refine lv_iload hx hb d_Y_isBetter_92 (lv_at hl 4 rfl) ?_
                refine lv_aload_n hx hb d_Y_isBetter_94 rfl (lv_at hl 0 rfl) ?_
                refine va_get (D := D) (ci := 1) (v := .ref (h 3)) (C := RY) (T := TY) (N := 14) hx hb hts inY hown hK hP 0 rfl rfl 3 (by decide) (hts _ f_Y_17) (fun _ h9 => h9) rfl d_Y_isBetter_95 ?_
                refine lv_iload hx hb d_Y_isBetter_98 (lv_at hl 5 rfl) ?_
                refine va_iald hx hb hK hP 3 0 rfl rfl (vp_in_nI (show i < 11 by omega) (by decide)) d_Y_isBetter_100 ?_
                refine rd_top (z := nI (wt i)) (ar_nI wt (by omega)) ?_
                refine lv_isub hx hb d_Y_isBetter_101 ?_
                refine rd_top (z := nI (x.1) - nI (x.2 + wt i)) (su_2 _ _ _) ?_
                refine lv_istore (lv' := [(4, .int (nI (x.1) - nI (x.2 + wt i))), (0, .ref (h 0)), (1, .int (nI a)), (2, .int (nI b)), (3, .int (nI o)), (5, .int (nI i))]) hx hb d_Y_isBetter_102 hl (by decide) rfl (fun ls hl => ?_)
                refine lv_iinc (v := (nI (i + 1))) (lv' := [(5, .int (nI (i + 1))), (4, .int (nI (x.1) - nI (x.2 + wt i))), (0, .ref (h 0)), (1, .int (nI a)), (2, .int (nI b)), (3, .int (nI o))]) hx hb d_Y_isBetter_104 hl (k := 5) rfl (nI_1 i) (by decide) rfl (fun ls hl => ?_)
                refine lv_goto (tgt := 33) hx hb d_Y_isBetter_107 (by decide) ?_
                exact ih hlt (x.1, x.2 + wt i) ls (⟨wo_f h5 (fun q => by have h9 := bI_0.mp c58; rw [q.1] at h9; cases h9), wo_t h6 (bI_0.mp c80) (show b.testBit i = true by cases hq : b.testBit i; exact absurd (bI_0.mpr hq) c89; rfl)⟩) (lv_sub hl [2, 3, 4, 5, 1, 0] rfl)
          · refine lv_iload hx hb d_Y_isBetter_61 (lv_at hl 4 rfl) ?_
            refine lv_aload_n hx hb d_Y_isBetter_63 rfl (lv_at hl 0 rfl) ?_
            refine va_get (D := D) (ci := 1) (v := .ref (h 3)) (C := RY) (T := TY) (N := 14) hx hb hts inY hown hK hP 0 rfl rfl 3 (by decide) (hts _ f_Y_17) (fun _ h9 => h9) rfl d_Y_isBetter_64 ?_
            refine lv_iload hx hb d_Y_isBetter_67 (lv_at hl 5 rfl) ?_
            refine va_iald hx hb hK hP 3 0 rfl rfl (vp_in_nI (show i < 11 by omega) (by decide)) d_Y_isBetter_69 ?_
            refine rd_top (z := nI (wt i)) (ar_nI wt (by omega)) ?_
            refine lv_iadd hx hb d_Y_isBetter_70 ?_
            refine rd_top (z := nI (x.1 + wt i) - nI x.2) (su_1 _ _ _) ?_
            refine lv_istore (lv' := [(4, .int (nI (x.1 + wt i) - nI x.2)), (0, .ref (h 0)), (1, .int (nI a)), (2, .int (nI b)), (3, .int (nI o)), (5, .int (nI i))]) hx hb d_Y_isBetter_71 hl (by decide) rfl (fun ls hl => ?_)
            refine lv_aload_n hx hb d_Y_isBetter_73 rfl (lv_at hl 1 rfl) ?_
            refine va_get (D := D) (ci := 1) (v := .ref (h 1)) (C := RY) (T := TY) (N := 14) hx hb hts inY hown hK hP 0 rfl rfl 1 (by decide) (hts _ f_Y_7) (fun _ h9 => h9) rfl d_Y_isBetter_74 ?_
            refine lv_iload hx hb d_Y_isBetter_77 (lv_at hl 5 rfl) ?_
            refine va_zald hx hb hK hP 1 1 rfl rfl (vp_in_nI (show i < 11 by omega) (by decide)) d_Y_isBetter_79 ?_
            refine rd_top (z := bI (bt.testBit i)) (ar_bI bt.testBit (by omega)) ?_
            refine lv_if_ne (tgt := 104) hx hb d_Y_isBetter_80 (by decide) (fun c80 => ?_) (fun c80 => ?_)
            · refine lv_iinc (v := (nI (i + 1))) (lv' := [(5, .int (nI (i + 1))), (4, .int (nI (x.1 + wt i) - nI x.2)), (0, .ref (h 0)), (1, .int (nI a)), (2, .int (nI b)), (3, .int (nI o))]) hx hb d_Y_isBetter_104 hl (k := 5) rfl (nI_1 i) (by decide) rfl (fun ls hl => ?_)
              refine lv_goto (tgt := 33) hx hb d_Y_isBetter_107 (by decide) ?_
              exact ih hlt (x.1 + wt i, x.2) ls (⟨wo_t h5 (bI_0.mp c49) (show a.testBit i = true by cases hq : a.testBit i; exact absurd (bI_0.mpr hq) c58; rfl), wo_f h6 (fun q => c80 (bI_0.mpr q.2))⟩) (lv_sub hl [2, 3, 4, 5, 1, 0] rfl)
            · refine lv_iload_n hx hb d_Y_isBetter_83 rfl (lv_at hl 3 rfl) ?_
              refine lv_iload hx hb d_Y_isBetter_84 (lv_at hl 5 rfl) ?_
              refine rd_S (As := [.int (nI b), .int (nI i)]) (rest := []) ⟨hx, hb, hml, hown, hts⟩ (c_Y_has l b i hb2 (by omega)) (cwS 2 hts g_Y_60 rfl rfl rfl (by decide +kernel) ⟨Nat.le_of_ble_eq_true rfl, Nat.le_of_ble_eq_true rfl⟩) rfl hl.1 rfl (Nat.le_of_ble_eq_true rfl) d_Y_isBetter_86 ⟨Nat.zero_le _, Nat.zero_le _⟩ ?_
              refine lv_if_eq (tgt := 104) hx hb d_Y_isBetter_89 (by decide) (fun c89 => ?_) (fun c89 => ?_)
              · refine lv_iinc (v := (nI (i + 1))) (lv' := [(5, .int (nI (i + 1))), (4, .int (nI (x.1 + wt i) - nI x.2)), (0, .ref (h 0)), (1, .int (nI a)), (2, .int (nI b)), (3, .int (nI o))]) hx hb d_Y_isBetter_104 hl (k := 5) rfl (nI_1 i) (by decide) rfl (fun ls hl => ?_)
                refine lv_goto (tgt := 33) hx hb d_Y_isBetter_107 (by decide) ?_
                exact ih hlt (x.1 + wt i, x.2) ls (⟨wo_t h5 (bI_0.mp c49) (show a.testBit i = true by cases hq : a.testBit i; exact absurd (bI_0.mpr hq) c58; rfl), wo_f h6 (fun q => by have h9 := bI_0.mp c89; rw [q.1] at h9; cases h9)⟩) (lv_sub hl [2, 3, 4, 5, 1, 0] rfl)
              · refine lv_iload hx hb d_Y_isBetter_92 (lv_at hl 0 rfl) ?_
                refine lv_aload_n hx hb d_Y_isBetter_94 rfl (lv_at hl 1 rfl) ?_
                refine va_get (D := D) (ci := 1) (v := .ref (h 3)) (C := RY) (T := TY) (N := 14) hx hb hts inY hown hK hP 0 rfl rfl 3 (by decide) (hts _ f_Y_17) (fun _ h9 => h9) rfl d_Y_isBetter_95 ?_
                refine lv_iload hx hb d_Y_isBetter_98 (lv_at hl 5 rfl) ?_
                refine va_iald hx hb hK hP 3 0 rfl rfl (vp_in_nI (show i < 11 by omega) (by decide)) d_Y_isBetter_100 ?_
                refine rd_top (z := nI (wt i)) (ar_nI wt (by omega)) ?_
                refine lv_isub hx hb d_Y_isBetter_101 ?_
                refine rd_top (z := nI (x.1 + wt i) - nI (x.2 + wt i)) (su_2 _ _ _) ?_
                refine lv_istore (lv' := [(4, .int (nI (x.1 + wt i) - nI (x.2 + wt i))), (0, .ref (h 0)), (1, .int (nI a)), (2, .int (nI b)), (3, .int (nI o)), (5, .int (nI i))]) hx hb d_Y_isBetter_102 hl (by decide) rfl (fun ls hl => ?_)
                refine lv_iinc (v := (nI (i + 1))) (lv' := [(5, .int (nI (i + 1))), (4, .int (nI (x.1 + wt i) - nI (x.2 + wt i))), (0, .ref (h 0)), (1, .int (nI a)), (2, .int (nI b)), (3, .int (nI o))]) hx hb d_Y_isBetter_104 hl (k := 5) rfl (nI_1 i) (by decide) rfl (fun ls hl => ?_)
                refine lv_goto (tgt := 33) hx hb d_Y_isBetter_107 (by decide) ?_
                exact ih hlt (x.1 + wt i, x.2 + wt i) ls (⟨wo_t h5 (bI_0.mp c49) (show a.testBit i = true by cases hq : a.testBit i; exact absurd (bI_0.mpr hq) c58; rfl), wo_t h6 (bI_0.mp c80) (show b.testBit i = true by cases hq : b.testBit i; exact absurd (bI_0.mpr hq) c89; rfl)⟩) (lv_sub hl [2, 3, 4, 5, 1, 0] rfl)
  · have ho0 : o = 0 := (nI_eq (b := 0) (by omega) (by decide)).mp c1
    refine lv_iload_n hx hb d_Y_isBetter_4 rfl (lv_at hl 1 rfl) ?_
    refine lv_iload_n hx hb d_Y_isBetter_5 rfl (lv_at hl 2 rfl) ?_
    refine lv_icmp_eq (tgt := 20) hx hb d_Y_isBetter_6 (by decide) (fun c6 => ?_) (fun c6 => ?_)
    · refine lv_iconst (v := 0) hx hb d_Y_isBetter_20 (by decide) ?_
      exact rd_zret hx hb hr hlocks d_Y_isBetter_21 (by rw [betY, if_pos ho0, show a = b from (nI_eq ha hb2).mp c6]; simp [hasM, bI])
    · refine lv_iload_n hx hb d_Y_isBetter_9 rfl (lv_at hl 1 rfl) ?_
      refine lv_iload_n hx hb d_Y_isBetter_10 rfl (lv_at hl 2 rfl) ?_
      refine lv_ior hx hb d_Y_isBetter_11 ?_
      refine rd_top (z := nI (a ||| b)) (bx_or _ _) ?_
      refine lv_iload_n hx hb d_Y_isBetter_12 rfl (lv_at hl 1 rfl) ?_
      refine lv_icmp_ne (tgt := 20) hx hb d_Y_isBetter_13 (by decide) (fun c13 => ?_) (fun c13 => ?_)
      · refine lv_iconst (v := 0) hx hb d_Y_isBetter_20 (by decide) ?_
        exact rd_zret hx hb hr hlocks d_Y_isBetter_21 (by rw [betY, if_pos ho0]; cases hq : hasM a b; rfl; exact absurd (congrArg nI (or_sub.mpr (hasM_iff.mp hq).2)) c13)
      · refine lv_iconst (v := 1) hx hb d_Y_isBetter_16 (by decide) ?_
        refine lv_goto (tgt := 21) hx hb d_Y_isBetter_17 (by decide) ?_
        exact rd_zret hx hb hr hlocks d_Y_isBetter_21 (by rw [betY, if_pos ho0, hasM_iff.mpr ⟨fun q => c6 (by rw [q]), or_sub.mp ((nI_eq (Nat.or_lt_two_pow ha hb2) ha).mp c13)⟩]; rfl)
set_option maxHeartbeats 4000000 in
set_option maxRecDepth 100000 in
theorem c_Y_isKept (l : Launch) (S : Nat) (hn : n ≤ 11) (hbt : bt < 2 ^ n) (hS2 : S < 2 ^ 31) (hcc : cc ≤ 40) (hcl : ∀ j, cl j < 2048) : Met l y_Y_isKept w_Y_isKept (k2_rm 1 21) (rd_Pc D clX (wY h cI cZ n bt.testBit rk wt cl cc ow su sc od kn ke rp rc) [(cI, .int), (cZ, .boolean)] [.ref (h 0), .int (nI S)]) (k2_QcV (.int (bI (kepX bt cl cc S)))) 0 0 (fun _ => False) := by
  refine rd_met (by decide) rfl (Nat.le_of_ble_eq_true rfl) rfl ?_
  intro p e s m below meth c ls hx hb hr hml hown hts hlocks hP hK hl
  have hts : ∀ w ∈ tbl, w.before _ s = true := fun w h => hts w (List.mem_cons_of_mem _ h)
  have hown : s.vm.findClass RY = some m.cls := hown
  have hl : lv_has ls 4 [(0, .ref (h 0)), (1, .int (nI S))] := hl
  refine lv_iconst (v := 1) hx hb d_Y_isKept_0 (by decide) ?_
  refine rd_top (z := bI true) (rfl) ?_
  refine lv_istore_n (lv' := [(2, .int (bI true)), (0, .ref (h 0)), (1, .int (nI S))]) hx hb d_Y_isKept_1 rfl hl (by decide) rfl (fun ls hl => ?_)
  refine lv_iconst (v := 0) hx hb d_Y_isKept_2 (by decide) ?_
  refine lv_istore_n (lv' := [(3, .int 0), (2, .int (bI true)), (0, .ref (h 0)), (1, .int (nI S))]) hx hb d_Y_isKept_3 rfl hl (by decide) rfl (fun ls hl => ?_)
  refine rd_loop (nL := 4) (σ := Bool) (n) (fun i x => [(0, .ref (h 0)), (1, .int (nI S)), (2, .int (bI x)), (3, .int (nI i))]) (fun i x => x = !anyB (fun j => bt.testBit j && !S.testBit j) i) ?_ 0 true ls (Nat.zero_le _) (rfl) (lv_sub hl [2, 3, 1, 0] rfl)
  intro i x ls hi hI hl ih
  have hI : x = !anyB (fun j => bt.testBit j && !S.testBit j) i := hI
  have hl : lv_has ls 4 [(0, .ref (h 0)), (1, .int (nI S)), (2, .int (bI x)), (3, .int (nI i))] := hl
  refine lv_iload_n hx hb d_Y_isKept_4 rfl (lv_at hl 3 rfl) ?_
  refine lv_aload_n hx hb d_Y_isKept_5 rfl (lv_at hl 0 rfl) ?_
  refine va_get (D := D) (ci := 1) (v := .int (nI n)) (C := RY) (T := TY) (N := 14) hx hb hts inY hown hK hP 0 rfl rfl 0 (by decide) (hts _ f_Y_35) (fun _ h9 => h9) rfl d_Y_isKept_6 ?_
  refine lv_icmp_ge (tgt := 45) hx hb d_Y_isKept_9 (by decide) (fun c9 => ?_) (fun c9 => ?_)
  · have hN : i = n := lp_ge hi (by omega) c9
    have hsx : x = sp_sub bt S := by
      rw [hI, hN, Bool.eq_iff_iff, Bool.not_eq_true', anyB_not, sub_iff]
      constructor
      · intro q j hj
        have h1 := q j (bit_lt hbt hj)
        rw [hj] at h1
        cases h2 : S.testBit j
        · rw [h2] at h1; cases h1
        · rfl
      · intro q j hj
        cases h1 : bt.testBit j
        · rfl
        · rw [q j h1]; rfl
    refine lv_iconst (v := 0) hx hb d_Y_isKept_45 (by decide) ?_
    refine lv_istore_n (lv' := [(3, .int 0), (0, .ref (h 0)), (1, .int (nI S)), (2, .int (bI x))]) hx hb d_Y_isKept_46 rfl hl (by decide) rfl (fun ls hl => ?_)
    refine rd_loop (nL := 4) (σ := Bool) (cc) (fun i x => [(0, .ref (h 0)), (1, .int (nI S)), (2, .int (bI x)), (3, .int (nI i))]) (fun i x => x = (sp_sub bt S && !anyB (fun j => sp_sub (cl j) S) i)) ?_ 0 x ls (Nat.zero_le _) (by show x = (sp_sub bt S && !anyB (fun j => sp_sub (cl j) S) 0); rw [hsx]; simp [anyB]) (lv_sub hl [1, 2, 3, 0] rfl)
    intro i x ls hi hI hl ih
    have hI : x = (sp_sub bt S && !anyB (fun j => sp_sub (cl j) S) i) := hI
    have hl : lv_has ls 4 [(0, .ref (h 0)), (1, .int (nI S)), (2, .int (bI x)), (3, .int (nI i))] := hl
    refine lv_iload_n hx hb d_Y_isKept_47 rfl (lv_at hl 3 rfl) ?_
    refine lv_aload_n hx hb d_Y_isKept_48 rfl (lv_at hl 0 rfl) ?_
    refine va_get (D := D) (ci := 1) (v := .int (nI cc)) (C := RY) (T := TY) (N := 14) hx hb hts inY hown hK hP 0 rfl rfl 5 (by decide) (hts _ f_Y_51) (fun _ h9 => h9) rfl d_Y_isKept_49 ?_
    refine lv_icmp_ge (tgt := 84) hx hb d_Y_isKept_52 (by decide) (fun c52 => ?_) (fun c52 => ?_)
    · have hN : i = cc := lp_ge hi (by omega) c52
      have hfin : x = kepX bt cl cc S := by rw [hI, hN]; rfl
      refine lv_iload_n hx hb d_Y_isKept_84 rfl (lv_at hl 2 rfl) ?_
      exact rd_zret hx hb hr hlocks d_Y_isKept_85 (by rw [hfin])
    · have hlt : i < cc := lp_lt hi (by omega) c52
      refine lv_iload_n hx hb d_Y_isKept_55 rfl (lv_at hl 2 rfl) ?_
      refine lv_if_eq (tgt := 84) hx hb d_Y_isKept_56 (by decide) (fun c56 => ?_) (fun c56 => ?_)
      · have hfin : x = kepX bt cl cc S := by
          have h0 := bI_0.mp c56
          rw [h0] at hI ⊢
          unfold kepX clS
          cases h1 : sp_sub bt S
          · rfl
          · have h2 : anyB (fun j => sp_sub (cl j) S) i = true := by cases h3 : anyB (fun j => sp_sub (cl j) S) i; (rw [h1, h3] at hI; cases hI); rfl
            obtain ⟨j, h3, h4⟩ := anyB_iff.mp h2
            rw [anyB_of (P := (fun j => sp_sub (cl j) S)) (show j < cc by omega) h4]; rfl
        refine lv_iload_n hx hb d_Y_isKept_84 rfl (lv_at hl 2 rfl) ?_
        exact rd_zret hx hb hr hlocks d_Y_isKept_85 (by rw [hfin])
      · have hI2 : sp_sub bt S = true ∧ anyB (fun j => sp_sub (cl j) S) i = false := by
          have h1 := hI
          rw [show x = true by cases hq : x; exact absurd (bI_0.mpr hq) c56; rfl] at h1
          have h2 := h1.symm
          rw [Bool.and_eq_true, Bool.not_eq_true'] at h2
          exact h2
        refine lv_aload_n hx hb d_Y_isKept_59 rfl (lv_at hl 0 rfl) ?_
        refine va_get (D := D) (ci := 1) (v := .ref (h 4)) (C := RY) (T := TY) (N := 14) hx hb hts inY hown hK hP 0 rfl rfl 4 (by decide) (hts _ f_Y_20) (fun _ h9 => h9) rfl d_Y_isKept_60 ?_
        refine lv_iload_n hx hb d_Y_isKept_63 rfl (lv_at hl 3 rfl) ?_
        refine va_iald hx hb hK hP 4 0 rfl rfl (vp_in_nI (show i < 40 by omega) (by decide)) d_Y_isKept_64 ?_
        refine rd_top (z := nI (cl i)) (ar_nI cl (by omega)) ?_
        refine lv_iload_n hx hb d_Y_isKept_65 rfl (lv_at hl 1 rfl) ?_
        refine lv_iconst (v := (-1)) hx hb d_Y_isKept_66 (by decide) ?_
        refine lv_ixor hx hb d_Y_isKept_67 ?_
        refine lv_iand hx hb d_Y_isKept_68 ?_
        refine lv_if_eq (tgt := 76) hx hb d_Y_isKept_69 (by decide) (fun c69 => ?_) (fun c69 => ?_)
        · refine lv_iconst (v := 0) hx hb d_Y_isKept_76 (by decide) ?_
          refine rd_top (z := bI false) (rfl) ?_
          refine lv_istore_n (lv' := [(2, .int (bI false)), (0, .ref (h 0)), (1, .int (nI S)), (3, .int (nI i))]) hx hb d_Y_isKept_77 rfl hl (by decide) rfl (fun ls hl => ?_)
          refine lv_iinc (v := (nI (i + 1))) (lv' := [(3, .int (nI (i + 1))), (2, .int (bI false)), (0, .ref (h 0)), (1, .int (nI S))]) hx hb d_Y_isKept_78 hl (k := 3) rfl (nI_1 i) (by decide) rfl (fun ls hl => ?_)
          refine lv_goto (tgt := 47) hx hb d_Y_isKept_81 (by decide) ?_
          exact ih hlt false ls (by show false = (sp_sub bt S && !anyB (fun j => sp_sub (cl j) S) (i + 1)); rw [anyB_of (P := (fun j => sp_sub (cl j) S)) (show i < i + 1 by omega) ((bx_part (by have := hcl i; omega)).mp c69), Bool.not_true, Bool.and_false]) (lv_sub hl [2, 3, 1, 0] rfl)
        · refine lv_iconst (v := 1) hx hb d_Y_isKept_72 (by decide) ?_
          refine rd_top (z := bI true) (rfl) ?_
          refine lv_goto (tgt := 77) hx hb d_Y_isKept_73 (by decide) ?_
          refine lv_istore_n (lv' := [(2, .int (bI true)), (0, .ref (h 0)), (1, .int (nI S)), (3, .int (nI i))]) hx hb d_Y_isKept_77 rfl hl (by decide) rfl (fun ls hl => ?_)
          refine lv_iinc (v := (nI (i + 1))) (lv' := [(3, .int (nI (i + 1))), (2, .int (bI true)), (0, .ref (h 0)), (1, .int (nI S))]) hx hb d_Y_isKept_78 hl (k := 3) rfl (nI_1 i) (by decide) rfl (fun ls hl => ?_)
          refine lv_goto (tgt := 47) hx hb d_Y_isKept_81 (by decide) ?_
          exact ih hlt true ls (by show true = (sp_sub bt S && !anyB (fun j => sp_sub (cl j) S) (i + 1)); rw [anyB_next hI2.2 (by cases hq : sp_sub (cl i) S; rfl; exact absurd ((bx_part (by have := hcl i; omega)).mpr hq) c69), hI2.1]; rfl) (lv_sub hl [2, 3, 1, 0] rfl)
  · have hlt : i < n := lp_lt hi (by omega) c9
    refine lv_iload_n hx hb d_Y_isKept_12 rfl (lv_at hl 2 rfl) ?_
    refine lv_if_eq (tgt := 45) hx hb d_Y_isKept_13 (by decide) (fun c13 => ?_) (fun c13 => ?_)
    · have hx0 := bI_0.mp c13
      have hsx : x = sp_sub bt S := by
        rw [hx0] at hI ⊢
        cases hq : sp_sub bt S
        · rfl
        · exfalso
          have h1 : anyB (fun j => bt.testBit j && !S.testBit j) i = true := by cases h2 : anyB (fun j => bt.testBit j && !S.testBit j) i; (rw [h2] at hI; cases hI); rfl
          obtain ⟨j, h2, h3⟩ := anyB_iff.mp h1
          rw [Bool.and_eq_true, Bool.not_eq_true'] at h3
          rw [sub_iff.mp hq j h3.1] at h3
          exact absurd h3.2 (by decide)
      refine lv_iconst (v := 0) hx hb d_Y_isKept_45 (by decide) ?_
      refine lv_istore_n (lv' := [(3, .int 0), (0, .ref (h 0)), (1, .int (nI S)), (2, .int (bI x))]) hx hb d_Y_isKept_46 rfl hl (by decide) rfl (fun ls hl => ?_)
      refine rd_loop (nL := 4) (σ := Bool) (cc) (fun i x => [(0, .ref (h 0)), (1, .int (nI S)), (2, .int (bI x)), (3, .int (nI i))]) (fun i x => x = (sp_sub bt S && !anyB (fun j => sp_sub (cl j) S) i)) ?_ 0 x ls (Nat.zero_le _) (by show x = (sp_sub bt S && !anyB (fun j => sp_sub (cl j) S) 0); rw [hsx]; simp [anyB]) (lv_sub hl [1, 2, 3, 0] rfl)
      intro i x ls hi hI hl ih
      have hI : x = (sp_sub bt S && !anyB (fun j => sp_sub (cl j) S) i) := hI
      have hl : lv_has ls 4 [(0, .ref (h 0)), (1, .int (nI S)), (2, .int (bI x)), (3, .int (nI i))] := hl
      refine lv_iload_n hx hb d_Y_isKept_47 rfl (lv_at hl 3 rfl) ?_
      refine lv_aload_n hx hb d_Y_isKept_48 rfl (lv_at hl 0 rfl) ?_
      refine va_get (D := D) (ci := 1) (v := .int (nI cc)) (C := RY) (T := TY) (N := 14) hx hb hts inY hown hK hP 0 rfl rfl 5 (by decide) (hts _ f_Y_51) (fun _ h9 => h9) rfl d_Y_isKept_49 ?_
      refine lv_icmp_ge (tgt := 84) hx hb d_Y_isKept_52 (by decide) (fun c52 => ?_) (fun c52 => ?_)
      · have hN : i = cc := lp_ge hi (by omega) c52
        have hfin : x = kepX bt cl cc S := by rw [hI, hN]; rfl
        refine lv_iload_n hx hb d_Y_isKept_84 rfl (lv_at hl 2 rfl) ?_
        exact rd_zret hx hb hr hlocks d_Y_isKept_85 (by rw [hfin])
      · have hlt : i < cc := lp_lt hi (by omega) c52
        refine lv_iload_n hx hb d_Y_isKept_55 rfl (lv_at hl 2 rfl) ?_
        refine lv_if_eq (tgt := 84) hx hb d_Y_isKept_56 (by decide) (fun c56 => ?_) (fun c56 => ?_)
        · have hfin : x = kepX bt cl cc S := by
            have h0 := bI_0.mp c56
            rw [h0] at hI ⊢
            unfold kepX clS
            cases h1 : sp_sub bt S
            · rfl
            · have h2 : anyB (fun j => sp_sub (cl j) S) i = true := by cases h3 : anyB (fun j => sp_sub (cl j) S) i; (rw [h1, h3] at hI; cases hI); rfl
              obtain ⟨j, h3, h4⟩ := anyB_iff.mp h2
              rw [anyB_of (P := (fun j => sp_sub (cl j) S)) (show j < cc by omega) h4]; rfl
          refine lv_iload_n hx hb d_Y_isKept_84 rfl (lv_at hl 2 rfl) ?_
          exact rd_zret hx hb hr hlocks d_Y_isKept_85 (by rw [hfin])
        · have hI2 : sp_sub bt S = true ∧ anyB (fun j => sp_sub (cl j) S) i = false := by
            have h1 := hI
            rw [show x = true by cases hq : x; exact absurd (bI_0.mpr hq) c56; rfl] at h1
            have h2 := h1.symm
            rw [Bool.and_eq_true, Bool.not_eq_true'] at h2
            exact h2
          refine lv_aload_n hx hb d_Y_isKept_59 rfl (lv_at hl 0 rfl) ?_
          refine va_get (D := D) (ci := 1) (v := .ref (h 4)) (C := RY) (T := TY) (N := 14) hx hb hts inY hown hK hP 0 rfl rfl 4 (by decide) (hts _ f_Y_20) (fun _ h9 => h9) rfl d_Y_isKept_60 ?_
          refine lv_iload_n hx hb d_Y_isKept_63 rfl (lv_at hl 3 rfl) ?_
          refine va_iald hx hb hK hP 4 0 rfl rfl (vp_in_nI (show i < 40 by omega) (by decide)) d_Y_isKept_64 ?_
          refine rd_top (z := nI (cl i)) (ar_nI cl (by omega)) ?_
          refine lv_iload_n hx hb d_Y_isKept_65 rfl (lv_at hl 1 rfl) ?_
          refine lv_iconst (v := (-1)) hx hb d_Y_isKept_66 (by decide) ?_
          refine lv_ixor hx hb d_Y_isKept_67 ?_
          refine lv_iand hx hb d_Y_isKept_68 ?_
          refine lv_if_eq (tgt := 76) hx hb d_Y_isKept_69 (by decide) (fun c69 => ?_) (fun c69 => ?_)
          · refine lv_iconst (v := 0) hx hb d_Y_isKept_76 (by decide) ?_
            refine rd_top (z := bI false) (rfl) ?_
            refine lv_istore_n (lv' := [(2, .int (bI false)), (0, .ref (h 0)), (1, .int (nI S)), (3, .int (nI i))]) hx hb d_Y_isKept_77 rfl hl (by decide) rfl (fun ls hl => ?_)
            refine lv_iinc (v := (nI (i + 1))) (lv' := [(3, .int (nI (i + 1))), (2, .int (bI false)), (0, .ref (h 0)), (1, .int (nI S))]) hx hb d_Y_isKept_78 hl (k := 3) rfl (nI_1 i) (by decide) rfl (fun ls hl => ?_)
            refine lv_goto (tgt := 47) hx hb d_Y_isKept_81 (by decide) ?_
            exact ih hlt false ls (by show false = (sp_sub bt S && !anyB (fun j => sp_sub (cl j) S) (i + 1)); rw [anyB_of (P := (fun j => sp_sub (cl j) S)) (show i < i + 1 by omega) ((bx_part (by have := hcl i; omega)).mp c69), Bool.not_true, Bool.and_false]) (lv_sub hl [2, 3, 1, 0] rfl)
          · refine lv_iconst (v := 1) hx hb d_Y_isKept_72 (by decide) ?_
            refine rd_top (z := bI true) (rfl) ?_
            refine lv_goto (tgt := 77) hx hb d_Y_isKept_73 (by decide) ?_
            refine lv_istore_n (lv' := [(2, .int (bI true)), (0, .ref (h 0)), (1, .int (nI S)), (3, .int (nI i))]) hx hb d_Y_isKept_77 rfl hl (by decide) rfl (fun ls hl => ?_)
            refine lv_iinc (v := (nI (i + 1))) (lv' := [(3, .int (nI (i + 1))), (2, .int (bI true)), (0, .ref (h 0)), (1, .int (nI S))]) hx hb d_Y_isKept_78 hl (k := 3) rfl (nI_1 i) (by decide) rfl (fun ls hl => ?_)
            refine lv_goto (tgt := 47) hx hb d_Y_isKept_81 (by decide) ?_
            exact ih hlt true ls (by show true = (sp_sub bt S && !anyB (fun j => sp_sub (cl j) S) (i + 1)); rw [anyB_next hI2.2 (by cases hq : sp_sub (cl i) S; rfl; exact absurd ((bx_part (by have := hcl i; omega)).mpr hq) c69), hI2.1]; rfl) (lv_sub hl [2, 3, 1, 0] rfl)
    · have hI1 : anyB (fun j => bt.testBit j && !S.testBit j) i = false := by cases h2 : anyB (fun j => bt.testBit j && !S.testBit j) i; rfl; (rw [h2, show x = true by cases hq : x; exact absurd (bI_0.mpr hq) c13; rfl] at hI; cases hI)
      refine lv_aload_n hx hb d_Y_isKept_16 rfl (lv_at hl 0 rfl) ?_
      refine va_get (D := D) (ci := 1) (v := .ref (h 1)) (C := RY) (T := TY) (N := 14) hx hb hts inY hown hK hP 0 rfl rfl 1 (by decide) (hts _ f_Y_7) (fun _ h9 => h9) rfl d_Y_isKept_17 ?_
      refine lv_iload_n hx hb d_Y_isKept_20 rfl (lv_at hl 3 rfl) ?_
      refine va_zald hx hb hK hP 1 1 rfl rfl (vp_in_nI (show i < 11 by omega) (by decide)) d_Y_isKept_21 ?_
      refine rd_top (z := bI (bt.testBit i)) (ar_bI bt.testBit (by omega)) ?_
      refine lv_if_eq (tgt := 33) hx hb d_Y_isKept_22 (by decide) (fun c22 => ?_) (fun c22 => ?_)
      · refine lv_iconst (v := 1) hx hb d_Y_isKept_33 (by decide) ?_
        refine rd_top (z := bI true) (rfl) ?_
        refine lv_goto (tgt := 38) hx hb d_Y_isKept_34 (by decide) ?_
        refine lv_istore_n (lv' := [(2, .int (bI true)), (0, .ref (h 0)), (1, .int (nI S)), (3, .int (nI i))]) hx hb d_Y_isKept_38 rfl hl (by decide) rfl (fun ls hl => ?_)
        refine lv_iinc (v := (nI (i + 1))) (lv' := [(3, .int (nI (i + 1))), (2, .int (bI true)), (0, .ref (h 0)), (1, .int (nI S))]) hx hb d_Y_isKept_39 hl (k := 3) rfl (nI_1 i) (by decide) rfl (fun ls hl => ?_)
        refine lv_goto (tgt := 4) hx hb d_Y_isKept_42 (by decide) ?_
        exact ih hlt true ls (by show true = !anyB (fun j => bt.testBit j && !S.testBit j) (i + 1); rw [anyB_next hI1 (by show (bt.testBit i && _) = false; rw [bI_0.mp c22]; rfl)]; rfl) (lv_sub hl [2, 3, 1, 0] rfl)
      · refine lv_iload_n hx hb d_Y_isKept_25 rfl (lv_at hl 1 rfl) ?_
        refine lv_iload_n hx hb d_Y_isKept_26 rfl (lv_at hl 3 rfl) ?_
        refine rd_S (As := [.int (nI S), .int (nI i)]) (rest := []) ⟨hx, hb, hml, hown, hts⟩ (c_Y_has l S i hS2 (by omega)) (cwS 2 hts g_Y_60 rfl rfl rfl (by decide +kernel) ⟨Nat.le_of_ble_eq_true rfl, Nat.le_of_ble_eq_true rfl⟩) rfl hl.1 rfl (Nat.le_of_ble_eq_true rfl) d_Y_isKept_27 ⟨Nat.zero_le _, Nat.zero_le _⟩ ?_
        refine lv_if_eq (tgt := 37) hx hb d_Y_isKept_30 (by decide) (fun c30 => ?_) (fun c30 => ?_)
        · refine lv_iconst (v := 0) hx hb d_Y_isKept_37 (by decide) ?_
          refine rd_top (z := bI false) (rfl) ?_
          refine lv_istore_n (lv' := [(2, .int (bI false)), (0, .ref (h 0)), (1, .int (nI S)), (3, .int (nI i))]) hx hb d_Y_isKept_38 rfl hl (by decide) rfl (fun ls hl => ?_)
          refine lv_iinc (v := (nI (i + 1))) (lv' := [(3, .int (nI (i + 1))), (2, .int (bI false)), (0, .ref (h 0)), (1, .int (nI S))]) hx hb d_Y_isKept_39 hl (k := 3) rfl (nI_1 i) (by decide) rfl (fun ls hl => ?_)
          refine lv_goto (tgt := 4) hx hb d_Y_isKept_42 (by decide) ?_
          exact ih hlt false ls (by show false = !anyB (fun j => bt.testBit j && !S.testBit j) (i + 1); rw [anyB_of (P := (fun j => bt.testBit j && !S.testBit j)) (show i < i + 1 by omega) (by show (bt.testBit i && !S.testBit i) = true; rw [show bt.testBit i = true by cases hq : bt.testBit i; exact absurd (bI_0.mpr hq) c22; rfl, bI_0.mp c30]; rfl)]; rfl) (lv_sub hl [2, 3, 1, 0] rfl)
        · refine lv_iconst (v := 1) hx hb d_Y_isKept_33 (by decide) ?_
          refine rd_top (z := bI true) (rfl) ?_
          refine lv_goto (tgt := 38) hx hb d_Y_isKept_34 (by decide) ?_
          refine lv_istore_n (lv' := [(2, .int (bI true)), (0, .ref (h 0)), (1, .int (nI S)), (3, .int (nI i))]) hx hb d_Y_isKept_38 rfl hl (by decide) rfl (fun ls hl => ?_)
          refine lv_iinc (v := (nI (i + 1))) (lv' := [(3, .int (nI (i + 1))), (2, .int (bI true)), (0, .ref (h 0)), (1, .int (nI S))]) hx hb d_Y_isKept_39 hl (k := 3) rfl (nI_1 i) (by decide) rfl (fun ls hl => ?_)
          refine lv_goto (tgt := 4) hx hb d_Y_isKept_42 (by decide) ?_
          exact ih hlt true ls (by show true = !anyB (fun j => bt.testBit j && !S.testBit j) (i + 1); rw [anyB_next hI1 (by show (_ && !S.testBit i) = false; rw [show S.testBit i = true by cases hq : S.testBit i; exact absurd (bI_0.mpr hq) c30; rfl, Bool.not_true, Bool.and_false])]; rfl) (lv_sub hl [2, 3, 1, 0] rfl)
end MY2
end
section
/-! the least clashes, as the reference counts them -/
def isLY (n : Nat) (cl : Nat → Nat) (cc S : Nat) : Bool := decide (S < 2 ^ n) && (anyB (fun k => decide (cl k = S)) cc && !anyB (fun k => !decide (cl k = S) && sp_sub (cl k) S) cc)
theorem flt_len {P : Nat → Bool} : ∀ k, (flt P k).length = cntB P k
  | 0 => rfl
  | k + 1 => by
    cases h : P k
    · rw [flt_f h, flt_len k, cntB, h]; rfl
    · rw [flt_t h, List.length_append, List.length_singleton, flt_len k, cntB, h]; rfl
theorem cnt_mono {P : Nat → Bool} {a : Nat} : ∀ k, cntB P a ≤ cntB P (a + k)
  | 0 => Nat.le_refl _
  | k + 1 => by
    have := cnt_mono (P := P) (a := a) k
    show cntB P a ≤ cntB P (a + k) + _
    omega
theorem nth_cnt {P : Nat → Bool} : ∀ (k j r z : Nat), nthF P k j r = some z → r + cntB P j < cntB P (j + k)
  | 0, j, r, z, h => by cases h
  | k + 1, j, r, z, h => by
    rw [nthF] at h
    split at h
    · rename_i hp
      have h1 : cntB P (j + 1) = cntB P j + 1 := by rw [cntB, hp]; rfl
      split at h
      · have h2 := cnt_mono (P := P) (a := j + 1) k
        rw [show j + 1 + k = j + (k + 1) by omega] at h2
        omega
      · have h2 := nth_cnt k (j + 1) (r - 1) z h
        rw [show j + 1 + k = j + (k + 1) by omega] at h2
        omega
    · rename_i hp
      have hp' : P j = false := by cases hq : P j; rfl; exact absurd hq hp
      have h1 : cntB P (j + 1) = cntB P j := (cnt_f rfl hp').symm
      have h2 := nth_cnt k (j + 1) r z h
      rw [show j + 1 + k = j + (k + 1) by omega] at h2
      omega
theorem nth_none {P : Nat → Bool} : ∀ (k j r : Nat), (∀ y, j ≤ y → y < j + k → P y = false) → nthF P k j r = none
  | 0, _, _, _ => rfl
  | k + 1, j, r, h => by
    rw [nthF, if_neg (by rw [h j (Nat.le_refl _) (by omega)]; decide)]
    exact nth_none k (j + 1) r (fun y h1 h2 => h y (by omega) (by omega))
theorem nth_skip {P : Nat → Bool} {z : Nat} (hz : P z = true) : ∀ (d k j r : Nat), z = j + d → d < k → (∀ y, j ≤ y → y < z → P y = false) → nthF P k j r = if r = 0 then some z else nthF P (k - d - 1) (z + 1) (r - 1)
  | 0, k, j, r, h1, h2, h3 => by
    rw [show k = (k - 1) + 1 by omega, nthF, show j = z by omega, if_pos hz, show k - 1 + 1 - 0 - 1 = k - 1 by omega]
  | d + 1, k, j, r, h1, h2, h3 => by
    rw [show k = (k - 1) + 1 by omega, nthF, if_neg (by rw [h3 j (Nat.le_refl _) (by omega)]; decide), nth_skip hz d (k - 1) (j + 1) r (by omega) (by omega) (fun y h4 h5 => h3 y (by omega) h5), show k - 1 + 1 - (d + 1) - 1 = k - 1 - d - 1 by omega]
/-- lsA finds the first that is named behind 'last' -/
theorem lsA_spec {L : Nat → Bool} {cl : Nat → Nat} {la : Option Nat} : ∀ k, (∀ z, lsA L cl la k = some z → L z = true ∧ (∃ i, i < k ∧ cl i = z) ∧ (∀ y, la = some y → y < z)) ∧ (∀ i, i < k → L (cl i) = true → (∀ y, la = some y → y < cl i) → ∃ z, lsA L cl la k = some z ∧ z ≤ cl i)
  | 0 => ⟨fun z h => (by cases h), fun i h => absurd h (Nat.not_lt_zero i)⟩
  | k + 1 => by
    obtain ⟨h1, h2⟩ := lsA_spec (L := L) (cl := cl) (la := la) k
    rw [lsA]
    split
    · rename_i hc
      refine ⟨fun z hz => ?_, fun i hi hL hl => ?_⟩
      · have := Option.some.inj hz
        rw [← this]
        exact ⟨hc.2.2, ⟨k, by omega, rfl⟩, hc.1⟩
      · refine ⟨cl k, rfl, ?_⟩
        rcases Nat.lt_or_ge i k with q | q
        · obtain ⟨z, h3, h4⟩ := h2 i q hL hl
          have := hc.2.1 z h3
          omega
        · rw [show i = k by omega]; exact Nat.le_refl _
    · rename_i hc
      refine ⟨fun z hz => ?_, fun i hi hL hl => ?_⟩
      · obtain ⟨a, ⟨i, b, c⟩, d⟩ := h1 z hz
        exact ⟨a, ⟨i, by omega, c⟩, d⟩
      · rcases Nat.lt_or_ge i k with q | q
        · exact h2 i q hL hl
        · rw [show i = k by omega] at hL hl ⊢
          refine Classical.byContradiction fun hn => hc ⟨hl, fun z hz => ?_, hL⟩
          exact Nat.lt_of_not_le fun q2 => hn ⟨z, hz, q2⟩
theorem isL_eq {n : Nat} {cl : Nat → Nat} {cc S : Nat} (h : ∃ k, k < cc ∧ cl k = S) : isLX n cl cc S = isLY n cl cc S := by
  unfold isLX isLY
  have h1 : sp_sub S (2 ^ n - 1) = decide (S < 2 ^ n) := by
    rw [Bool.eq_iff_iff, decide_eq_true_eq, sub_iff]
    constructor
    · intro q
      refine Nat.lt_pow_two_of_testBit S fun i hi => ?_
      cases h2 : S.testBit i
      · rfl
      · have := q i h2
        rw [Nat.testBit_two_pow_sub_one] at this
        have := of_decide_eq_true this
        omega
    · intro q i hi
      rw [Nat.testBit_two_pow_sub_one]
      exact decide_eq_true (bit_lt q hi)
  obtain ⟨k, hk, e⟩ := h
  rw [h1, anyB_of (P := fun k => decide (cl k = S)) hk (decide_eq_true e), Bool.true_and]
  congr 2
  refine anyB_congr fun i _ => ?_
  unfold hasM
  by_cases hq : cl i = S
  · rw [decide_eq_true hq, decide_eq_true hq.symm]
  · rw [decide_eq_false hq, decide_eq_false (fun z => hq z.symm)]
theorem isLY_in {n : Nat} {cl : Nat → Nat} {cc S : Nat} (h : isLY n cl cc S = true) : ∃ k, k < cc ∧ cl k = S := by
  unfold isLY at h
  rw [Bool.and_eq_true, Bool.and_eq_true] at h
  obtain ⟨k, h1, h2⟩ := anyB_iff.mp h.2.1
  exact ⟨k, h1, of_decide_eq_true h2⟩
theorem lsR_nth {n : Nat} {cl : Nat → Nat} {cc : Nat} (hcl : ∀ j, cl j < 2048) : ∀ (r : Nat) (s : Option Nat) (j : Nat), j ≤ 2048 → (∀ y, (∀ z, s = some z → z < y) ↔ j ≤ y) → lsR (isLX n cl cc) cl cc (r + 1) s = nthF (isLY n cl cc) (2048 - j) j r := by
  intro r
  induction r with
  | zero =>
    intro s j hj hs
    rw [lsR]
    obtain ⟨h1, h2⟩ := lsA_spec (L := isLX n cl cc) (cl := cl) (la := s) cc
    cases hq : lsA (isLX n cl cc) cl s cc with
    | none =>
      rw [nth_none]
      intro y h3 h4
      cases h5 : isLY n cl cc y
      · rfl
      · obtain ⟨k, h6, h7⟩ := isLY_in h5
        obtain ⟨z, h8, -⟩ := h2 k h6 (by rw [isL_eq ⟨k, h6, rfl⟩, h7]; exact h5) (by rw [h7]; exact (hs y).mpr h3)
        rw [hq] at h8; cases h8
    | some z =>
      obtain ⟨h3, h4, h5⟩ := h1 z hq
      rw [isL_eq h4] at h3
      have h6 : z < 2048 := by obtain ⟨k, -, e⟩ := h4; rw [← e]; exact hcl k
      have h7 : j ≤ z := (hs z).mp h5
      rw [nth_skip h3 (z - j) (2048 - j) j 0 (by omega) (by omega) (fun y h8 h9 => by
        cases h10 : isLY n cl cc y
        · rfl
        · obtain ⟨k, h11, h12⟩ := isLY_in h10
          obtain ⟨z2, h13, h14⟩ := h2 k h11 (by rw [isL_eq ⟨k, h11, rfl⟩, h12]; exact h10) (by rw [h12]; exact (hs y).mpr h8)
          rw [hq] at h13
          have := Option.some.inj h13
          omega), if_pos rfl]
      rfl
  | succ r ih =>
    intro s j hj hs
    rw [lsR]
    obtain ⟨h1, h2⟩ := lsA_spec (L := isLX n cl cc) (cl := cl) (la := s) cc
    cases hq : lsA (isLX n cl cc) cl s cc with
    | none =>
      rw [nth_none]
      intro y h3 h4
      cases h5 : isLY n cl cc y
      · rfl
      · obtain ⟨k, h6, h7⟩ := isLY_in h5
        obtain ⟨z, h8, -⟩ := h2 k h6 (by rw [isL_eq ⟨k, h6, rfl⟩, h7]; exact h5) (by rw [h7]; exact (hs y).mpr h3)
        rw [hq] at h8; cases h8
    | some z =>
      obtain ⟨h3, h4, h5⟩ := h1 z hq
      rw [isL_eq h4] at h3
      have h6 : z < 2048 := by obtain ⟨k, -, e⟩ := h4; rw [← e]; exact hcl k
      have h7 : j ≤ z := (hs z).mp h5
      rw [nth_skip h3 (z - j) (2048 - j) j (r + 1) (by omega) (by omega) (fun y h8 h9 => by
        cases h10 : isLY n cl cc y
        · rfl
        · obtain ⟨k, h11, h12⟩ := isLY_in h10
          obtain ⟨z2, h13, h14⟩ := h2 k h11 (by rw [isL_eq ⟨k, h11, rfl⟩, h12]; exact h10) (by rw [h12]; exact (hs y).mpr h8)
          rw [hq] at h13
          have := Option.some.inj h13
          omega), if_neg (by omega), show r + 1 - 1 = r by omega, show 2048 - j - (z - j) - 1 = 2048 - (z + 1) by omega]
      refine ih (some z) (z + 1) (by omega) fun y => ?_
      exact ⟨fun q => q z rfl, fun q w hw => by have := Option.some.inj hw; omega⟩
/-- the answer of least, by the reference's count -/
theorem lea_eq {n : Nat} {cl : Nat → Nat} {cc r : Nat} (hcl : ∀ j, cl j < 2048) (hcc : cc ≤ 40) (hr : r < 2 ^ 31) : leaX n cl cc (nI r) = oI (nthF (isLY n cl cc) 2048 0 r) := by
  unfold leaX
  by_cases h : r < cc
  · rw [if_neg (fun q => q.elim (nI_pos hr) (fun q => q ((nI_ltI hr (by omega)).mpr h))), nI_clamp hr]
    rw [lsR_nth hcl r none 0 (by omega) (fun y => ⟨fun _ => Nat.zero_le y, fun _ z hz => by cases hz⟩)]
  · rw [if_pos (Or.inr (fun q => h ((nI_ltI hr (by omega)).mp q)))]
    cases hq : nthF (isLY n cl cc) 2048 0 r with
    | none => rfl
    | some z =>
      exfalso
      have h1 := nth_cnt 2048 0 r z hq
      rw [Nat.zero_add] at h1
      have h5 := flt_len (P := isLY n cl cc) 2048
      have h2 : (flt (isLY n cl cc) 2048).length ≤ ((List.range cc).map cl).length := by
        refine List.Nodup.length_le_of_subset (flt_nodup _ _) fun x hx => ?_
        obtain ⟨k, h3, h4⟩ := isLY_in (flt_mem.mp hx).2
        exact List.mem_map.mpr ⟨k, List.mem_range.mpr h3, h4⟩
      rw [List.length_map, List.length_range] at h2
      omega
end
section
section MY3
variable {D : va_G} {h : Nat → Nat} {cI cZ : ClassId} {n bt : Nat} {rk wt cl : Nat → Nat} {cc : Nat} {ow su : Nat → Nat} {sc od : Nat} {kn : Bool} {ke : Nat → Bool} {rp : Nat → Nat} {rc : Nat}
theorem wk_dec {N j : Nat} (h : j < N) : (nI (N - j) - 1) + (-1) = nI (N - (j + 1)) - 1 := by
  rw [bx_dec (show 0 < N - j by omega), show N - (j + 1) = N - j - 1 by omega]
  rw [Int32.sub_eq_add_neg]
theorem wk_neg {N j : Nat} (hj : j ≤ N) (hN : N < 2 ^ 31) : nI (N - j) - 1 < 0 ↔ j = N := by
  rcases Nat.lt_or_ge j N with q | q
  · rw [bx_dec (show 0 < N - j by omega)]
    exact ⟨fun z => absurd z (nI_pos (by omega)), fun z => by omega⟩
  · rw [show N - j = 0 by omega]
    exact ⟨fun _ => by omega, fun _ => by decide⟩
set_option maxHeartbeats 4000000 in
set_option maxRecDepth 100000 in
theorem c_Y_work (l : Launch) (sz : Nat) (hg : gdA (n, bt, rk, wt, cl, cc, su, ow, sc, od)) (hc : okC (n, bt, rk, wt, cl, cc, su, ow, sc, od) kn rp rc) : Met l y_Y_work w_Y_work (k2_rm 3 73) (wr_Pc D clX (wY h cI cZ n bt.testBit rk wt cl cc ow su sc od kn ke rp rc) [(cI, .int), (cZ, .boolean)] sz [.ref (h 0)]) (wE_Q D clX (wY h cI cZ n bt.testBit rk wt cl cc ow su sc od kn ke rp rc) (σ := (Nat → Bool) × (Nat → Nat)) (fun u => wY h cI cZ n bt.testBit rk wt cl cc ow su sc od true u.1 u.2 ((reps n bt rk wt cl cc od).length)) (fun _ => none) (fun u => isArr u.2 (reps n bt rk wt cl cc od)) sz) 0 0 (va_A (wY h cI cZ n bt.testBit rk wt cl cc ow su sc od kn ke rp rc) sz) := by
  refine wE_met (by decide) rfl (Nat.le_of_ble_eq_true rfl) rfl ?_
  intro p e s m below meth c ls hx hb hr hml hown hts hlocks hP hK hD hS hA hl
  have hts : ∀ w ∈ tbl, w.before _ s = true := fun w h => hts w (List.mem_cons_of_mem _ h)
  have hown : s.vm.findClass RY = some m.cls := hown
  have hl : lv_has ls 4 [(0, .ref (h 0))] := hl
  obtain ⟨hn, hbt, hrk, hwt, hwp, hcc, hcl, hsc, hsa, hsu, ho⟩ := id hg
  have hb3 : 2 ^ n ≤ 2048 := bx_p2 hn
  refine lv_aload_n hx hb d_Y_work_0 rfl (lv_at hl 0 rfl) ?_
  refine va_get (D := D) (ci := 1) (v := .int (bI kn)) (C := RY) (T := TY) (N := 14) hx hb hts inY hown hK hP 0 rfl rfl 10 (by decide) (hts _ f_Y_43) (fun _ h9 => h9) rfl d_Y_work_1 ?_
  refine lv_if_eq (tgt := 8) hx hb d_Y_work_4 (by decide) (fun c4 => ?_) (fun c4 => ?_)
  · refine lv_iconst (v := 1) hx hb d_Y_work_8 (by decide) ?_
    refine lv_aload_n hx hb d_Y_work_9 rfl (lv_at hl 0 rfl) ?_
    refine va_get (D := D) (ci := 1) (v := .int (nI n)) (C := RY) (T := TY) (N := 14) hx hb hts inY hown hK hP 0 rfl rfl 0 (by decide) (hts _ f_Y_35) (fun _ h9 => h9) rfl d_Y_work_10 ?_
    refine lv_ishl hx hb d_Y_work_13 ?_
    refine rd_top (z := nI (2 ^ n)) (bx_shl n (by omega)) ?_
    refine lv_istore_n (lv' := [(1, .int (nI (2 ^ n))), (0, .ref (h 0))]) hx hb d_Y_work_14 rfl hl (by decide) rfl (fun ls hl => ?_)
    refine lv_iconst (v := 0) hx hb d_Y_work_15 (by decide) ?_
    refine lv_istore_n (lv' := [(2, .int 0), (1, .int (nI (2 ^ n))), (0, .ref (h 0))]) hx hb d_Y_work_16 rfl hl (by decide) rfl (fun ls hl => ?_)
    refine wr_loop (nL := 4) (σ := Nat → Bool) (2 ^ n) (fun i g1 => [(0, .ref (h 0)), (1, .int (nI (2 ^ n))), (2, .int (nI i))]) (fun i g1 => wY h cI cZ n bt.testBit rk wt cl cc ow su sc od kn g1 rp rc) (fun i g1 => ∀ S, S < i → g1 S = kepX bt cl cc S) ?_ 0 ke ls _ _ (Nat.zero_le _) (fun S hS2 => absurd hS2 (Nat.not_lt_zero S)) (lv_sub hl [2, 1, 0] rfl) hP hD hS
    intro i g1 ls H locs hi hI hl hP hD hS ih
    have hI : ∀ S, S < i → g1 S = kepX bt cl cc S := hI
    have hl : lv_has ls 4 [(0, .ref (h 0)), (1, .int (nI (2 ^ n))), (2, .int (nI i))] := hl
    have hP : va_P D clX (wY h cI cZ n bt.testBit rk wt cl cc ow su sc od kn g1 rp rc) H := hP
    have hD : va_D _ (wY h cI cZ n bt.testBit rk wt cl cc ow su sc od kn g1 rp rc) := hD
    refine lv_iload_n hx hb d_Y_work_17 rfl (lv_at hl 2 rfl) ?_
    refine lv_iload_n hx hb d_Y_work_18 rfl (lv_at hl 1 rfl) ?_
    refine lv_icmp_ge (tgt := 39) hx hb d_Y_work_19 (by decide) (fun c19 => ?_) (fun c19 => ?_)
    · have hN : i = 2 ^ n := lp_ge hi (by omega) c19
      have hke : ∀ S, S < 2 ^ n → g1 S = kepX bt cl cc S := fun S hS2 => hI S (by rw [hN]; exact hS2)
      refine lv_aload_n hx hb d_Y_work_39 rfl (lv_at hl 0 rfl) ?_
      refine lv_iconst (v := 0) hx hb d_Y_work_40 (by decide) ?_
      refine va_put (D := D) (ci := 1) (v := .int 0) (ty := .int) (C := RY) (T := TY) (N := 14) hx hb hts inY tyY tyY_ok nmY hown hK hP hD hS 0 rfl rfl 13 (by decide) (hts _ f_Y_74) (fun _ h9 => h9) rfl (by decide +kernel) rfl rfl (Nat.le_of_ble_eq_true rfl) d_Y_work_41 (fun H locs hP hD hS => ?_)
      have hP : va_P D clX (wY h cI cZ n bt.testBit rk wt cl cc ow su sc od kn g1 rp 0) H := hP
      have hD : va_D _ (wY h cI cZ n bt.testBit rk wt cl cc ow su sc od kn g1 rp 0) := hD
      refine lv_iconst (v := 0) hx hb d_Y_work_44 (by decide) ?_
      refine lv_istore_n (lv' := [(2, .int 0), (0, .ref (h 0)), (1, .int (nI (2 ^ n)))]) hx hb d_Y_work_45 rfl hl (by decide) rfl (fun ls hl => ?_)
      refine wr_loop (nL := 4) (σ := Nat → Nat) (2 ^ n) (fun i x => [(0, .ref (h 0)), (1, .int (nI (2 ^ n))), (2, .int (nI i))]) (fun i x => wY h cI cZ n bt.testBit rk wt cl cc ow su sc od kn g1 x ((flt (isRep n bt rk wt cl cc od) i).length)) (fun i x => isArr x (flt (isRep n bt rk wt cl cc od) i)) ?_ 0 rp ls _ _ (Nat.zero_le _) (isArr_nil rp) (lv_sub hl [1, 2, 0] rfl) hP hD hS
      intro i x ls H locs hi hI hl hP hD hS ih
      have hIo : isArr x (flt (isRep n bt rk wt cl cc od) i) := hI
      have ih0 := ih
      have hl : lv_has ls 4 [(0, .ref (h 0)), (1, .int (nI (2 ^ n))), (2, .int (nI i))] := hl
      have hP : va_P D clX (wY h cI cZ n bt.testBit rk wt cl cc ow su sc od kn g1 x ((flt (isRep n bt rk wt cl cc od) i).length)) H := hP
      have hD : va_D _ (wY h cI cZ n bt.testBit rk wt cl cc ow su sc od kn g1 x ((flt (isRep n bt rk wt cl cc od) i).length)) := hD
      refine lv_iload_n hx hb d_Y_work_46 rfl (lv_at hl 2 rfl) ?_
      refine lv_iload_n hx hb d_Y_work_47 rfl (lv_at hl 1 rfl) ?_
      refine lv_icmp_ge (tgt := 132) hx hb d_Y_work_48 (by decide) (fun c48 => ?_) (fun c48 => ?_)
      · have hN : i = 2 ^ n := lp_ge hi (by omega) c48
        refine lv_aload_n hx hb d_Y_work_132 rfl (lv_at hl 0 rfl) ?_
        refine lv_iconst (v := 1) hx hb d_Y_work_133 (by decide) ?_
        refine va_put (D := D) (ci := 1) (v := .int 1) (ty := .boolean) (C := RY) (T := TY) (N := 14) hx hb hts inY tyY tyY_ok nmY hown hK hP hD hS 0 rfl rfl 10 (by decide) (hts _ f_Y_43) (fun _ h9 => h9) rfl (by decide +kernel) rfl rfl (Nat.le_of_ble_eq_true rfl) d_Y_work_134 (fun H locs hP hD hS => ?_)
        have hP : va_P D clX (wY h cI cZ n bt.testBit rk wt cl cc ow su sc od true g1 x ((flt (isRep n bt rk wt cl cc od) i).length)) H := hP
        have hD : va_D _ (wY h cI cZ n bt.testBit rk wt cl cc ow su sc od true g1 x ((flt (isRep n bt rk wt cl cc od) i).length)) := hD
        exact wE_vret (g1, x) hx hb hr hlocks d_Y_work_137 hS (by show va_P D clX (wY h cI cZ n bt.testBit rk wt cl cc ow su sc od true g1 x ((reps n bt rk wt cl cc od).length)) H; rw [show (reps n bt rk wt cl cc od).length = (flt (isRep n bt rk wt cl cc od) i).length by rw [hN]; rfl]; exact hP) (by show isArr x (flt (isRep n bt rk wt cl cc od) (2 ^ n)); rw [← hN]; exact hIo) rfl
      · have hlt : i < 2 ^ n := lp_lt hi (by omega) c48
        refine lv_aload_n hx hb d_Y_work_51 rfl (lv_at hl 0 rfl) ?_
        refine va_get (D := D) (ci := 1) (v := .ref (h 7)) (C := RY) (T := TY) (N := 14) hx hb hts inY hown hK hP 0 rfl rfl 11 (by decide) (hts _ f_Y_29) (fun _ h9 => h9) rfl d_Y_work_52 ?_
        refine lv_iload_n hx hb d_Y_work_55 rfl (lv_at hl 2 rfl) ?_
        refine va_zald hx hb hK hP 7 1 rfl rfl (vp_in_nI (show i < 2048 by omega) (by decide)) d_Y_work_56 ?_
        refine rd_top (z := bI (g1 i)) (ar_bI g1 (by omega)) ?_
        refine lv_if_ne (tgt := 63) hx hb d_Y_work_57 (by decide) (fun c57 => ?_) (fun c57 => ?_)
        · have hki : kepX bt cl cc i = true := by rw [← hke i hlt]; exact (show g1 i = true by cases hq : g1 i; exact absurd (bI_0.mpr hq) c57; rfl)
          refine lv_iload_n hx hb d_Y_work_63 rfl (lv_at hl 1 rfl) ?_
          refine lv_iconst (v := 1) hx hb d_Y_work_64 (by decide) ?_
          refine lv_isub hx hb d_Y_work_65 ?_
          refine rd_top (z := nI (2 ^ n - 0) - 1) (rfl) ?_
          refine lv_istore_n (lv' := [(3, .int (nI (2 ^ n - 0) - 1)), (0, .ref (h 0)), (1, .int (nI (2 ^ n))), (2, .int (nI i))]) hx hb d_Y_work_66 rfl hl (by decide) rfl (fun ls hl => ?_)
          refine wr_loop (nL := 4) (σ := Unit) (2 ^ n) (fun j _ => [(0, .ref (h 0)), (1, .int (nI (2 ^ n))), (2, .int (nI i)), (3, .int (nI (2 ^ n - j) - 1))]) (fun j _ => wY h cI cZ n bt.testBit rk wt cl cc ow su sc od kn g1 x ((flt (isRep n bt rk wt cl cc od) i).length)) (fun j _ => ∀ T, 2 ^ n - j ≤ T → T < 2 ^ n → (kepX bt cl cc T && betX n bt rk wt T i od) = false) ?_ 0 () ls _ _ (Nat.zero_le _) (fun T h1 h2 => by omega) (lv_sub hl [1, 2, 3, 0] rfl) hP hD hS
          intro j _ ls H locs hi hI hl hP hD hS ih
          have hI : ∀ T, 2 ^ n - j ≤ T → T < 2 ^ n → (kepX bt cl cc T && betX n bt rk wt T i od) = false := hI
          have hl : lv_has ls 4 [(0, .ref (h 0)), (1, .int (nI (2 ^ n))), (2, .int (nI i)), (3, .int (nI (2 ^ n - j) - 1))] := hl
          have hP : va_P D clX (wY h cI cZ n bt.testBit rk wt cl cc ow su sc od kn g1 x ((flt (isRep n bt rk wt cl cc od) i).length)) H := hP
          have hD : va_D _ (wY h cI cZ n bt.testBit rk wt cl cc ow su sc od kn g1 x ((flt (isRep n bt rk wt cl cc od) i).length)) := hD
          refine lv_iload_n hx hb d_Y_work_67 rfl (lv_at hl 3 rfl) ?_
          refine lv_if_lt (tgt := 99) hx hb d_Y_work_68 (by decide) (fun c68 => ?_) (fun c68 => ?_)
          · have hjN : j = 2 ^ n := (wk_neg hi (by omega)).mp c68
            have hPi : (isRep n bt rk wt cl cc od) i = true := by
              unfold isRep
              rw [hki, anyB_not.mpr (fun T hT => hI T (by omega) hT)]
              rfl
            refine lv_iload_n hx hb d_Y_work_99 rfl (lv_at hl 3 rfl) ?_
            refine lv_if_lt (tgt := 106) hx hb d_Y_work_100 (by decide) (fun c100 => ?_) (fun c100 => ?_)
            · have hle3 : (flt (isRep n bt rk wt cl cc od) i).length ≤ i := by rw [flt_len]; exact cntB_le
              refine lv_aload_n hx hb d_Y_work_106 rfl (lv_at hl 0 rfl) ?_
              refine va_get (D := D) (ci := 1) (v := .ref (h 8)) (C := RY) (T := TY) (N := 14) hx hb hts inY hown hK hP 0 rfl rfl 12 (by decide) (hts _ f_Y_32) (fun _ h9 => h9) rfl d_Y_work_107 ?_
              refine lv_aload_n hx hb d_Y_work_110 rfl (lv_at hl 0 rfl) ?_
              refine va_get (D := D) (ci := 1) (v := .int (nI ((flt (isRep n bt rk wt cl cc od) i).length))) (C := RY) (T := TY) (N := 14) hx hb hts inY hown hK hP 0 rfl rfl 13 (by decide) (hts _ f_Y_74) (fun _ h9 => h9) rfl d_Y_work_111 ?_
              refine lv_iload_n hx hb d_Y_work_114 rfl (lv_at hl 2 rfl) ?_
              refine va_iast hx hb hK hP hD hS 8 0 rfl rfl (vp_in_nI (show (flt (isRep n bt rk wt cl cc od) i).length < 2048 by omega) (by decide)) d_Y_work_115 (fun H locs hP hD hS => ?_)
              have hu : upd (fun j => nI (x j)) (nI ((flt (isRep n bt rk wt cl cc od) i).length)).toNatClampNeg (nI i) = fun j => nI ((va_up x (flt (isRep n bt rk wt cl cc od) i).length i) j) := by rw [nI_clamp (by omega)]; exact upd_nI x _ i
              rw [hu] at hP hD
              have hP : va_P D clX (wY h cI cZ n bt.testBit rk wt cl cc ow su sc od kn g1 (va_up x (flt (isRep n bt rk wt cl cc od) i).length i) ((flt (isRep n bt rk wt cl cc od) i).length)) H := hP
              have hD : va_D _ (wY h cI cZ n bt.testBit rk wt cl cc ow su sc od kn g1 (va_up x (flt (isRep n bt rk wt cl cc od) i).length i) ((flt (isRep n bt rk wt cl cc od) i).length)) := hD
              refine lv_aload_n hx hb d_Y_work_116 rfl (lv_at hl 0 rfl) ?_
              refine lv_dup hx hb d_Y_work_117 rfl ?_
              refine va_get (D := D) (ci := 1) (v := .int (nI ((flt (isRep n bt rk wt cl cc od) i).length))) (C := RY) (T := TY) (N := 14) hx hb hts inY hown hK hP 0 rfl rfl 13 (by decide) (hts _ f_Y_74) (fun _ h9 => h9) rfl d_Y_work_118 ?_
              refine lv_iconst (v := 1) hx hb d_Y_work_121 (by decide) ?_
              refine lv_iadd hx hb d_Y_work_122 ?_
              refine rd_top (z := nI ((flt (isRep n bt rk wt cl cc od) i).length + 1)) (nI_1 _) ?_
              refine va_put (D := D) (ci := 1) (v := .int (nI ((flt (isRep n bt rk wt cl cc od) i).length + 1))) (ty := .int) (C := RY) (T := TY) (N := 14) hx hb hts inY tyY tyY_ok nmY hown hK hP hD hS 0 rfl rfl 13 (by decide) (hts _ f_Y_74) (fun _ h9 => h9) rfl (by decide +kernel) rfl rfl (Nat.le_of_ble_eq_true rfl) d_Y_work_123 (fun H locs hP hD hS => ?_)
              have hP : va_P D clX (wY h cI cZ n bt.testBit rk wt cl cc ow su sc od kn g1 (va_up x (flt (isRep n bt rk wt cl cc od) i).length i) ((flt (isRep n bt rk wt cl cc od) i).length + 1)) H := hP
              have hD : va_D _ (wY h cI cZ n bt.testBit rk wt cl cc ow su sc od kn g1 (va_up x (flt (isRep n bt rk wt cl cc od) i).length i) ((flt (isRep n bt rk wt cl cc od) i).length + 1)) := hD
              refine lv_iinc (v := (nI (i + 1))) (lv' := [(2, .int (nI (i + 1))), (0, .ref (h 0)), (1, .int (nI (2 ^ n))), (3, .int (nI (2 ^ n - j) - 1))]) hx hb d_Y_work_126 hl (k := 2) rfl (nI_1 i) (by decide) rfl (fun ls hl => ?_)
              refine lv_goto (tgt := 46) hx hb d_Y_work_129 (by decide) ?_
              exact ih0 hlt (va_up x (flt (isRep n bt rk wt cl cc od) i).length i) ls _ _ (by show isArr _ (flt (isRep n bt rk wt cl cc od) (i + 1)); rw [flt_t hPi]; exact isArr_push hIo i) (lv_sub hl [1, 2, 0] rfl) (by rw [flt_t hPi, List.length_append, List.length_singleton]; exact hP) (wr_D hD rfl) hS
            · exact absurd ((wk_neg hi (by omega)).mpr hjN) c100
          · have hjl : j < 2 ^ n := by rcases Nat.lt_or_ge j (2 ^ n) with q | q; exact q; exact absurd ((wk_neg hi (by omega)).mpr (by omega)) c68
            refine lv_aload_n hx hb d_Y_work_71 rfl (lv_at hl 0 rfl) ?_
            refine va_get (D := D) (ci := 1) (v := .ref (h 7)) (C := RY) (T := TY) (N := 14) hx hb hts inY hown hK hP 0 rfl rfl 11 (by decide) (hts _ f_Y_29) (fun _ h9 => h9) rfl d_Y_work_72 ?_
            refine lv_iload_n hx hb d_Y_work_75 rfl (lv_at hl 3 rfl) ?_
            refine rd_top (z := nI (2 ^ n - 1 - j)) (by rw [bx_dec (show 0 < 2 ^ n - j by omega), show 2 ^ n - j - 1 = 2 ^ n - 1 - j by omega]) ?_
            refine va_zald hx hb hK hP 7 1 rfl rfl (vp_in_nI (show (2 ^ n - 1 - j) < 2048 by omega) (by decide)) d_Y_work_76 ?_
            refine rd_top (z := bI (g1 (2 ^ n - 1 - j))) (ar_bI g1 (by omega)) ?_
            refine lv_if_eq (tgt := 93) hx hb d_Y_work_77 (by decide) (fun c77 => ?_) (fun c77 => ?_)
            · refine lv_iinc (v := (nI (2 ^ n - (j + 1)) - 1)) (lv' := [(3, .int (nI (2 ^ n - (j + 1)) - 1)), (0, .ref (h 0)), (1, .int (nI (2 ^ n))), (2, .int (nI i))]) hx hb d_Y_work_93 hl (k := 3) rfl (wk_dec hjl) (by decide) rfl (fun ls hl => ?_)
              refine lv_goto (tgt := 67) hx hb d_Y_work_96 (by decide) ?_
              exact ih hjl () ls _ _ (fun T h1 h2 => by rcases Nat.lt_or_ge (2 ^ n - 1 - j) T with q | q; exact hI T (by omega) h2; (rw [show T = (2 ^ n - 1 - j) by omega]; exact (by have h9 := hke (2 ^ n - 1 - j) (by omega); rw [bI_0.mp c77] at h9; rw [← h9]; rfl))) (lv_sub hl [1, 2, 3, 0] rfl) hP hD hS
            · refine lv_aload_n hx hb d_Y_work_80 rfl (lv_at hl 0 rfl) ?_
              refine lv_iload_n hx hb d_Y_work_81 rfl (lv_at hl 3 rfl) ?_
              refine rd_top (z := nI (2 ^ n - 1 - j)) (by rw [bx_dec (show 0 < 2 ^ n - j by omega), show 2 ^ n - j - 1 = 2 ^ n - 1 - j by omega]) ?_
              refine lv_iload_n hx hb d_Y_work_82 rfl (lv_at hl 2 rfl) ?_
              refine lv_aload_n hx hb d_Y_work_83 rfl (lv_at hl 0 rfl) ?_
              refine va_get (D := D) (ci := 1) (v := .int (nI od)) (C := RY) (T := TY) (N := 14) hx hb hts inY hown hK hP 0 rfl rfl 9 (by decide) (hts _ f_Y_57) (fun _ h9 => h9) rfl d_Y_work_84 ?_
              refine rd_V (As := [.int (nI (2 ^ n - 1 - j)), .int (nI i), .int (nI od)]) (rest := []) ⟨hx, hb, hml, hown, hts⟩ (c_Y_isBetter l (2 ^ n - 1 - j) i od hn hrk hwt (by omega) (by omega) ho) (cwV 3 hts g_Y_67 rfl rfl rfl (by decide +kernel) ⟨Nat.le_of_ble_eq_true rfl, Nat.le_of_ble_eq_true rfl⟩) hK hP 0 rfl rfl rfl hl.1 rfl (Nat.le_of_ble_eq_true rfl) d_Y_work_87 ⟨Nat.zero_le _, Nat.zero_le _⟩ ?_
              refine lv_if_ne (tgt := 99) hx hb d_Y_work_90 (by decide) (fun c90 => ?_) (fun c90 => ?_)
              · have hPi : (isRep n bt rk wt cl cc od) i = false := by
                  unfold isRep
                  rw [hki, anyB_of (P := fun T => kepX bt cl cc T && betX n bt rk wt T i od) (show (2 ^ n - 1 - j) < 2 ^ n by omega) (by show (kepX bt cl cc (2 ^ n - 1 - j) && betX n bt rk wt (2 ^ n - 1 - j) i od) = true; rw [← hke (2 ^ n - 1 - j) (by omega), ← bet_eq hn hrk ho, show g1 (2 ^ n - 1 - j) = true by cases hq : g1 (2 ^ n - 1 - j); exact absurd (bI_0.mpr hq) c77; rfl, show betY n bt rk wt (2 ^ n - 1 - j) i od = true by cases hq : betY n bt rk wt (2 ^ n - 1 - j) i od; exact absurd (bI_0.mpr hq) c90; rfl]; rfl)]
                  rfl
                refine lv_iload_n hx hb d_Y_work_99 rfl (lv_at hl 3 rfl) ?_
                refine lv_if_lt (tgt := 106) hx hb d_Y_work_100 (by decide) (fun c100 => ?_) (fun c100 => ?_)
                · exact absurd ((wk_neg hi (by omega)).mp c100) (by omega)
                · refine lv_goto (tgt := 126) hx hb d_Y_work_103 (by decide) ?_
                  refine lv_iinc (v := (nI (i + 1))) (lv' := [(2, .int (nI (i + 1))), (0, .ref (h 0)), (1, .int (nI (2 ^ n))), (3, .int (nI (2 ^ n - j) - 1))]) hx hb d_Y_work_126 hl (k := 2) rfl (nI_1 i) (by decide) rfl (fun ls hl => ?_)
                  refine lv_goto (tgt := 46) hx hb d_Y_work_129 (by decide) ?_
                  exact ih0 hlt x ls _ _ (by show isArr _ (flt (isRep n bt rk wt cl cc od) (i + 1)); rw [flt_f hPi]; exact hIo) (lv_sub hl [1, 2, 0] rfl) (by rw [flt_f hPi]; exact hP) (wr_D hD rfl) hS
              · refine lv_iinc (v := (nI (2 ^ n - (j + 1)) - 1)) (lv' := [(3, .int (nI (2 ^ n - (j + 1)) - 1)), (0, .ref (h 0)), (1, .int (nI (2 ^ n))), (2, .int (nI i))]) hx hb d_Y_work_93 hl (k := 3) rfl (wk_dec hjl) (by decide) rfl (fun ls hl => ?_)
                refine lv_goto (tgt := 67) hx hb d_Y_work_96 (by decide) ?_
                exact ih hjl () ls _ _ (fun T h1 h2 => by rcases Nat.lt_or_ge (2 ^ n - 1 - j) T with q | q; exact hI T (by omega) h2; (rw [show T = (2 ^ n - 1 - j) by omega]; exact (by have h9 := hke (2 ^ n - 1 - j) (by omega); rw [← bet_eq hn hrk ho, bI_0.mp c90, Bool.and_false]))) (lv_sub hl [1, 2, 3, 0] rfl) hP hD hS
        · have hPi : (isRep n bt rk wt cl cc od) i = false := by unfold isRep; rw [← hke i hlt, bI_0.mp c57]; rfl
          refine lv_goto (tgt := 126) hx hb d_Y_work_60 (by decide) ?_
          refine lv_iinc (v := (nI (i + 1))) (lv' := [(2, .int (nI (i + 1))), (0, .ref (h 0)), (1, .int (nI (2 ^ n)))]) hx hb d_Y_work_126 hl (k := 2) rfl (nI_1 i) (by decide) rfl (fun ls hl => ?_)
          refine lv_goto (tgt := 46) hx hb d_Y_work_129 (by decide) ?_
          exact ih0 hlt x ls _ _ (by show isArr _ (flt (isRep n bt rk wt cl cc od) (i + 1)); rw [flt_f hPi]; exact hIo) (lv_sub hl [1, 2, 0] rfl) (by rw [flt_f hPi]; exact hP) (wr_D hD rfl) hS
    · have hlt : i < 2 ^ n := lp_lt hi (by omega) c19
      refine lv_aload_n hx hb d_Y_work_22 rfl (lv_at hl 0 rfl) ?_
      refine va_get (D := D) (ci := 1) (v := .ref (h 7)) (C := RY) (T := TY) (N := 14) hx hb hts inY hown hK hP 0 rfl rfl 11 (by decide) (hts _ f_Y_29) (fun _ h9 => h9) rfl d_Y_work_23 ?_
      refine lv_iload_n hx hb d_Y_work_26 rfl (lv_at hl 2 rfl) ?_
      refine lv_aload_n hx hb d_Y_work_27 rfl (lv_at hl 0 rfl) ?_
      refine lv_iload_n hx hb d_Y_work_28 rfl (lv_at hl 2 rfl) ?_
      refine rd_V (As := [.int (nI i)]) (rest := [.int (nI i), .ref (h 7)]) ⟨hx, hb, hml, hown, hts⟩ (c_Y_isKept l i hn hbt (by omega) hcc hcl) (cwV 1 hts g_Y_71 rfl rfl rfl (by decide +kernel) ⟨Nat.le_of_ble_eq_true rfl, Nat.le_of_ble_eq_true rfl⟩) hK hP 0 rfl rfl rfl hl.1 rfl (Nat.le_of_ble_eq_true rfl) d_Y_work_29 ⟨Nat.zero_le _, Nat.zero_le _⟩ ?_
      refine va_zast hx hb hK hP hD hS 7 1 rfl rfl (vp_in_nI (show i < 2048 by omega) (by decide)) d_Y_work_32 (fun H locs hP hD hS => ?_)
      have hu : upd (fun j => bI (g1 j)) (nI i).toNatClampNeg (vp_nar .boolean (bI (kepX bt cl cc i))) = fun j => bI ((va_up g1 i (kepX bt cl cc i)) j) := by rw [nI_clamp (by omega)]; exact upd_bI g1 i _
      rw [hu] at hP hD
      have hP : va_P D clX (wY h cI cZ n bt.testBit rk wt cl cc ow su sc od kn (va_up g1 i (kepX bt cl cc i)) rp rc) H := hP
      have hD : va_D _ (wY h cI cZ n bt.testBit rk wt cl cc ow su sc od kn (va_up g1 i (kepX bt cl cc i)) rp rc) := hD
      refine lv_iinc (v := (nI (i + 1))) (lv' := [(2, .int (nI (i + 1))), (0, .ref (h 0)), (1, .int (nI (2 ^ n)))]) hx hb d_Y_work_33 hl (k := 2) rfl (nI_1 i) (by decide) rfl (fun ls hl => ?_)
      refine lv_goto (tgt := 17) hx hb d_Y_work_36 (by decide) ?_
      exact ih hlt (va_up g1 i (kepX bt cl cc i)) ls _ _ (fun S hS2 => by unfold va_up; split; (rename_i q; rw [q]); exact hI S (by omega)) (lv_sub hl [1, 2, 0] rfl) hP hD hS
  · have hkn1 : kn = true := by cases hq : kn; exact absurd (bI_0.mpr hq) c4; rfl
    exact wE_vret (ke, rp) hx hb hr hlocks d_Y_work_7 hS (by rw [hkn1] at hP; rw [show rc = (reps n bt rk wt cl cc od).length from (hc hkn1).2] at hP; exact hP) (hc hkn1).1 rfl
set_option maxHeartbeats 4000000 in
set_option maxRecDepth 100000 in
theorem c_Y_isLeast (l : Launch) (S : Nat) (hn : n ≤ 11) (hS2 : S < 2048) (hcc : cc ≤ 40) (hcl : ∀ j, cl j < 2048) : Met l y_Y_isLeast w_Y_isLeast (k2_rm 0 0) (rd_Pc D clX (wY h cI cZ n bt.testBit rk wt cl cc ow su sc od kn ke rp rc) [(cI, .int), (cZ, .boolean)] [.ref (h 0), .int (nI S)]) (k2_QcV (.int (bI (isLY n cl cc S)))) 0 0 (fun _ => False) := by
  refine rd_met (by decide) rfl (Nat.le_of_ble_eq_true rfl) rfl ?_
  intro p e s m below meth c ls hx hb hr hml hown hts hlocks hP hK hl
  have hts : ∀ w ∈ tbl, w.before _ s = true := fun w h => hts w (List.mem_cons_of_mem _ h)
  have hown : s.vm.findClass RY = some m.cls := hown
  have hl : lv_has ls 5 [(0, .ref (h 0)), (1, .int (nI S))] := hl
  refine lv_iload_n hx hb d_Y_isLeast_0 rfl (lv_at hl 1 rfl) ?_
  refine lv_aload_n hx hb d_Y_isLeast_1 rfl (lv_at hl 0 rfl) ?_
  refine va_get (D := D) (ci := 1) (v := .int (nI n)) (C := RY) (T := TY) (N := 14) hx hb hts inY hown hK hP 0 rfl rfl 0 (by decide) (hts _ f_Y_35) (fun _ h9 => h9) rfl d_Y_isLeast_2 ?_
  refine lv_ishr hx hb d_Y_isLeast_5 ?_
  refine rd_top (z := nI (S / 2 ^ n)) (pk_shrN (by omega) (nI n &&& 31) n (sh_r n (by omega))) ?_
  refine lv_if_eq (tgt := 11) hx hb d_Y_isLeast_6 (by decide) (fun c6 => ?_) (fun c6 => ?_)
  · have hSn : S < 2 ^ n := by
      have h9 := (nI_eq (b := 0) (Nat.lt_of_le_of_lt (Nat.div_le_self _ _) (by omega)) (by decide)).mp c6
      have h8 := Nat.div_add_mod S (2 ^ n)
      rw [h9, Nat.mul_zero, Nat.zero_add] at h8
      rw [← h8]; exact Nat.mod_lt _ (bx_pos n)
    refine lv_iconst (v := 0) hx hb d_Y_isLeast_11 (by decide) ?_
    refine rd_top (z := bI false) (rfl) ?_
    refine lv_istore_n (lv' := [(2, .int (bI false)), (0, .ref (h 0)), (1, .int (nI S))]) hx hb d_Y_isLeast_12 rfl hl (by decide) rfl (fun ls hl => ?_)
    refine lv_iconst (v := 1) hx hb d_Y_isLeast_13 (by decide) ?_
    refine rd_top (z := bI true) (rfl) ?_
    refine lv_istore_n (lv' := [(3, .int (bI true)), (2, .int (bI false)), (0, .ref (h 0)), (1, .int (nI S))]) hx hb d_Y_isLeast_14 rfl hl (by decide) rfl (fun ls hl => ?_)
    refine lv_iconst (v := 0) hx hb d_Y_isLeast_15 (by decide) ?_
    refine lv_istore (lv' := [(4, .int 0), (3, .int (bI true)), (2, .int (bI false)), (0, .ref (h 0)), (1, .int (nI S))]) hx hb d_Y_isLeast_16 hl (by decide) rfl (fun ls hl => ?_)
    refine rd_loop (nL := 5) (σ := Bool × Bool) (cc) (fun i x => [(0, .ref (h 0)), (1, .int (nI S)), (2, .int (bI x.1)), (3, .int (bI x.2)), (4, .int (nI i))]) (fun i x => x.1 = anyB (fun k => decide (cl k = S)) i ∧ x.2 = !anyB (fun k => !decide (cl k = S) && sp_sub (cl k) S) i) ?_ 0 (false, true) ls (Nat.zero_le _) (⟨rfl, rfl⟩) (lv_sub hl [3, 4, 2, 1, 0] rfl)
    intro i x ls hi hI hl ih
    obtain ⟨h1, h2⟩ : x.1 = anyB (fun k => decide (cl k = S)) i ∧ x.2 = !anyB (fun k => !decide (cl k = S) && sp_sub (cl k) S) i := hI
    have hl : lv_has ls 5 [(0, .ref (h 0)), (1, .int (nI S)), (2, .int (bI x.1)), (3, .int (bI x.2)), (4, .int (nI i))] := hl
    refine lv_iload hx hb d_Y_isLeast_18 (lv_at hl 4 rfl) ?_
    refine lv_aload_n hx hb d_Y_isLeast_20 rfl (lv_at hl 0 rfl) ?_
    refine va_get (D := D) (ci := 1) (v := .int (nI cc)) (C := RY) (T := TY) (N := 14) hx hb hts inY hown hK hP 0 rfl rfl 5 (by decide) (hts _ f_Y_51) (fun _ h9 => h9) rfl d_Y_isLeast_21 ?_
    refine lv_icmp_ge (tgt := 89) hx hb d_Y_isLeast_24 (by decide) (fun c24 => ?_) (fun c24 => ?_)
    · have hN : i = cc := lp_ge hi (by omega) c24
      refine lv_iload_n hx hb d_Y_isLeast_89 rfl (lv_at hl 2 rfl) ?_
      refine lv_if_eq (tgt := 101) hx hb d_Y_isLeast_90 (by decide) (fun c90 => ?_) (fun c90 => ?_)
      · refine lv_iconst (v := 0) hx hb d_Y_isLeast_101 (by decide) ?_
        exact rd_zret hx hb hr hlocks d_Y_isLeast_102 (by unfold isLY; rw [← hN, ← h1, bI_0.mp c90, Bool.false_and, Bool.and_false]; rfl)
      · refine lv_iload_n hx hb d_Y_isLeast_93 rfl (lv_at hl 3 rfl) ?_
        refine lv_if_eq (tgt := 101) hx hb d_Y_isLeast_94 (by decide) (fun c94 => ?_) (fun c94 => ?_)
        · refine lv_iconst (v := 0) hx hb d_Y_isLeast_101 (by decide) ?_
          exact rd_zret hx hb hr hlocks d_Y_isLeast_102 (by unfold isLY; rw [← hN, ← h2, bI_0.mp c94, Bool.and_false, Bool.and_false]; rfl)
        · refine lv_iconst (v := 1) hx hb d_Y_isLeast_97 (by decide) ?_
          refine lv_goto (tgt := 102) hx hb d_Y_isLeast_98 (by decide) ?_
          exact rd_zret hx hb hr hlocks d_Y_isLeast_102 (by unfold isLY; rw [decide_eq_true hSn, ← hN, ← h1, ← h2, show x.1 = true by cases hq : x.1; exact absurd (bI_0.mpr hq) c90; rfl, show x.2 = true by cases hq : x.2; exact absurd (bI_0.mpr hq) c94; rfl]; rfl)
    · have hlt : i < cc := lp_lt hi (by omega) c24
      refine lv_iload_n hx hb d_Y_isLeast_27 rfl (lv_at hl 2 rfl) ?_
      refine lv_if_ne (tgt := 42) hx hb d_Y_isLeast_28 (by decide) (fun c28 => ?_) (fun c28 => ?_)
      · refine lv_iconst (v := 1) hx hb d_Y_isLeast_42 (by decide) ?_
        refine rd_top (z := bI true) (rfl) ?_
        refine lv_goto (tgt := 47) hx hb d_Y_isLeast_43 (by decide) ?_
        refine lv_istore_n (lv' := [(2, .int (bI true)), (0, .ref (h 0)), (1, .int (nI S)), (3, .int (bI x.2)), (4, .int (nI i))]) hx hb d_Y_isLeast_47 rfl hl (by decide) rfl (fun ls hl => ?_)
        refine lv_iload_n hx hb d_Y_isLeast_48 rfl (lv_at hl 3 rfl) ?_
        refine lv_if_eq (tgt := 81) hx hb d_Y_isLeast_49 (by decide) (fun c49 => ?_) (fun c49 => ?_)
        · refine lv_iconst (v := 0) hx hb d_Y_isLeast_81 (by decide) ?_
          refine rd_top (z := bI false) (rfl) ?_
          refine lv_istore_n (lv' := [(3, .int (bI false)), (2, .int (bI true)), (0, .ref (h 0)), (1, .int (nI S)), (4, .int (nI i))]) hx hb d_Y_isLeast_82 rfl hl (by decide) rfl (fun ls hl => ?_)
          refine lv_iinc (v := (nI (i + 1))) (lv' := [(4, .int (nI (i + 1))), (3, .int (bI false)), (2, .int (bI true)), (0, .ref (h 0)), (1, .int (nI S))]) hx hb d_Y_isLeast_83 hl (k := 4) rfl (nI_1 i) (by decide) rfl (fun ls hl => ?_)
          refine lv_goto (tgt := 18) hx hb d_Y_isLeast_86 (by decide) ?_
          exact ih hlt (true, false) ls (⟨(by show true = anyB (fun k => decide (cl k = S)) (i + 1); rw [anyB, ← h1, show x.1 = true by cases hq : x.1; exact absurd (bI_0.mpr hq) c28; rfl]; rfl), (by show false = !anyB (fun k => !decide (cl k = S) && sp_sub (cl k) S) (i + 1); rw [anyB, Bool.not_or, ← h2, bI_0.mp c49]; rfl)⟩) (lv_sub hl [3, 4, 2, 1, 0] rfl)
        · refine lv_aload_n hx hb d_Y_isLeast_52 rfl (lv_at hl 1 rfl) ?_
          refine va_get (D := D) (ci := 1) (v := .ref (h 4)) (C := RY) (T := TY) (N := 14) hx hb hts inY hown hK hP 0 rfl rfl 4 (by decide) (hts _ f_Y_20) (fun _ h9 => h9) rfl d_Y_isLeast_53 ?_
          refine lv_iload hx hb d_Y_isLeast_56 (lv_at hl 4 rfl) ?_
          refine va_iald hx hb hK hP 4 0 rfl rfl (vp_in_nI (show i < 40 by omega) (by decide)) d_Y_isLeast_58 ?_
          refine rd_top (z := nI (cl i)) (ar_nI cl (by omega)) ?_
          refine lv_iload_n hx hb d_Y_isLeast_59 rfl (lv_at hl 2 rfl) ?_
          refine lv_icmp_eq (tgt := 77) hx hb d_Y_isLeast_60 (by decide) (fun c60 => ?_) (fun c60 => ?_)
          · refine lv_iconst (v := 1) hx hb d_Y_isLeast_77 (by decide) ?_
            refine rd_top (z := bI true) (rfl) ?_
            refine lv_goto (tgt := 82) hx hb d_Y_isLeast_78 (by decide) ?_
            refine lv_istore_n (lv' := [(3, .int (bI true)), (2, .int (bI true)), (0, .ref (h 0)), (1, .int (nI S)), (4, .int (nI i))]) hx hb d_Y_isLeast_82 rfl hl (by decide) rfl (fun ls hl => ?_)
            refine lv_iinc (v := (nI (i + 1))) (lv' := [(4, .int (nI (i + 1))), (3, .int (bI true)), (2, .int (bI true)), (0, .ref (h 0)), (1, .int (nI S))]) hx hb d_Y_isLeast_83 hl (k := 4) rfl (nI_1 i) (by decide) rfl (fun ls hl => ?_)
            refine lv_goto (tgt := 18) hx hb d_Y_isLeast_86 (by decide) ?_
            exact ih hlt (true, true) ls (⟨(by show true = anyB (fun k => decide (cl k = S)) (i + 1); rw [anyB, ← h1, show x.1 = true by cases hq : x.1; exact absurd (bI_0.mpr hq) c28; rfl]; rfl), (by show true = !anyB (fun k => !decide (cl k = S) && sp_sub (cl k) S) (i + 1); rw [anyB, Bool.not_or, ← h2, show x.2 = true by cases hq : x.2; exact absurd (bI_0.mpr hq) c49; rfl, decide_eq_true ((nI_eq (by have := hcl i; omega) (by omega)).mp c60)]; rfl)⟩) (lv_sub hl [3, 4, 2, 1, 0] rfl)
          · refine lv_aload_n hx hb d_Y_isLeast_63 rfl (lv_at hl 1 rfl) ?_
            refine va_get (D := D) (ci := 1) (v := .ref (h 4)) (C := RY) (T := TY) (N := 14) hx hb hts inY hown hK hP 0 rfl rfl 4 (by decide) (hts _ f_Y_20) (fun _ h9 => h9) rfl d_Y_isLeast_64 ?_
            refine lv_iload hx hb d_Y_isLeast_67 (lv_at hl 4 rfl) ?_
            refine va_iald hx hb hK hP 4 0 rfl rfl (vp_in_nI (show i < 40 by omega) (by decide)) d_Y_isLeast_69 ?_
            refine rd_top (z := nI (cl i)) (ar_nI cl (by omega)) ?_
            refine lv_iload_n hx hb d_Y_isLeast_70 rfl (lv_at hl 2 rfl) ?_
            refine lv_iconst (v := (-1)) hx hb d_Y_isLeast_71 (by decide) ?_
            refine lv_ixor hx hb d_Y_isLeast_72 ?_
            refine lv_iand hx hb d_Y_isLeast_73 ?_
            refine lv_if_eq (tgt := 81) hx hb d_Y_isLeast_74 (by decide) (fun c74 => ?_) (fun c74 => ?_)
            · refine lv_iconst (v := 0) hx hb d_Y_isLeast_81 (by decide) ?_
              refine rd_top (z := bI false) (rfl) ?_
              refine lv_istore_n (lv' := [(3, .int (bI false)), (2, .int (bI true)), (0, .ref (h 0)), (1, .int (nI S)), (4, .int (nI i))]) hx hb d_Y_isLeast_82 rfl hl (by decide) rfl (fun ls hl => ?_)
              refine lv_iinc (v := (nI (i + 1))) (lv' := [(4, .int (nI (i + 1))), (3, .int (bI false)), (2, .int (bI true)), (0, .ref (h 0)), (1, .int (nI S))]) hx hb d_Y_isLeast_83 hl (k := 4) rfl (nI_1 i) (by decide) rfl (fun ls hl => ?_)
              refine lv_goto (tgt := 18) hx hb d_Y_isLeast_86 (by decide) ?_
              exact ih hlt (true, false) ls (⟨(by show true = anyB (fun k => decide (cl k = S)) (i + 1); rw [anyB, ← h1, show x.1 = true by cases hq : x.1; exact absurd (bI_0.mpr hq) c28; rfl]; rfl), (by show false = !anyB (fun k => !decide (cl k = S) && sp_sub (cl k) S) (i + 1); rw [anyB, Bool.not_or, decide_eq_false (fun q => c60 (congrArg nI q)), (bx_part (by have := hcl i; omega)).mp c74]; simp)⟩) (lv_sub hl [3, 4, 2, 1, 0] rfl)
            · refine lv_iconst (v := 1) hx hb d_Y_isLeast_77 (by decide) ?_
              refine rd_top (z := bI true) (rfl) ?_
              refine lv_goto (tgt := 82) hx hb d_Y_isLeast_78 (by decide) ?_
              refine lv_istore_n (lv' := [(3, .int (bI true)), (2, .int (bI true)), (0, .ref (h 0)), (1, .int (nI S)), (4, .int (nI i))]) hx hb d_Y_isLeast_82 rfl hl (by decide) rfl (fun ls hl => ?_)
              refine lv_iinc (v := (nI (i + 1))) (lv' := [(4, .int (nI (i + 1))), (3, .int (bI true)), (2, .int (bI true)), (0, .ref (h 0)), (1, .int (nI S))]) hx hb d_Y_isLeast_83 hl (k := 4) rfl (nI_1 i) (by decide) rfl (fun ls hl => ?_)
              refine lv_goto (tgt := 18) hx hb d_Y_isLeast_86 (by decide) ?_
              exact ih hlt (true, true) ls (⟨(by show true = anyB (fun k => decide (cl k = S)) (i + 1); rw [anyB, ← h1, show x.1 = true by cases hq : x.1; exact absurd (bI_0.mpr hq) c28; rfl]; rfl), (by show true = !anyB (fun k => !decide (cl k = S) && sp_sub (cl k) S) (i + 1); rw [anyB, Bool.not_or, ← h2, show x.2 = true by cases hq : x.2; exact absurd (bI_0.mpr hq) c49; rfl, show sp_sub (cl i) S = false by cases hq : sp_sub (cl i) S; rfl; exact absurd ((bx_part (by have := hcl i; omega)).mpr hq) c74]; simp)⟩) (lv_sub hl [3, 4, 2, 1, 0] rfl)
      · refine lv_aload_n hx hb d_Y_isLeast_31 rfl (lv_at hl 0 rfl) ?_
        refine va_get (D := D) (ci := 1) (v := .ref (h 4)) (C := RY) (T := TY) (N := 14) hx hb hts inY hown hK hP 0 rfl rfl 4 (by decide) (hts _ f_Y_20) (fun _ h9 => h9) rfl d_Y_isLeast_32 ?_
        refine lv_iload hx hb d_Y_isLeast_35 (lv_at hl 4 rfl) ?_
        refine va_iald hx hb hK hP 4 0 rfl rfl (vp_in_nI (show i < 40 by omega) (by decide)) d_Y_isLeast_37 ?_
        refine rd_top (z := nI (cl i)) (ar_nI cl (by omega)) ?_
        refine lv_iload_n hx hb d_Y_isLeast_38 rfl (lv_at hl 1 rfl) ?_
        refine lv_icmp_ne (tgt := 46) hx hb d_Y_isLeast_39 (by decide) (fun c39 => ?_) (fun c39 => ?_)
        · refine lv_iconst (v := 0) hx hb d_Y_isLeast_46 (by decide) ?_
          refine rd_top (z := bI false) (rfl) ?_
          refine lv_istore_n (lv' := [(2, .int (bI false)), (0, .ref (h 0)), (1, .int (nI S)), (3, .int (bI x.2)), (4, .int (nI i))]) hx hb d_Y_isLeast_47 rfl hl (by decide) rfl (fun ls hl => ?_)
          refine lv_iload_n hx hb d_Y_isLeast_48 rfl (lv_at hl 3 rfl) ?_
          refine lv_if_eq (tgt := 81) hx hb d_Y_isLeast_49 (by decide) (fun c49 => ?_) (fun c49 => ?_)
          · refine lv_iconst (v := 0) hx hb d_Y_isLeast_81 (by decide) ?_
            refine rd_top (z := bI false) (rfl) ?_
            refine lv_istore_n (lv' := [(3, .int (bI false)), (2, .int (bI false)), (0, .ref (h 0)), (1, .int (nI S)), (4, .int (nI i))]) hx hb d_Y_isLeast_82 rfl hl (by decide) rfl (fun ls hl => ?_)
            refine lv_iinc (v := (nI (i + 1))) (lv' := [(4, .int (nI (i + 1))), (3, .int (bI false)), (2, .int (bI false)), (0, .ref (h 0)), (1, .int (nI S))]) hx hb d_Y_isLeast_83 hl (k := 4) rfl (nI_1 i) (by decide) rfl (fun ls hl => ?_)
            refine lv_goto (tgt := 18) hx hb d_Y_isLeast_86 (by decide) ?_
            exact ih hlt (false, false) ls (⟨(by show false = anyB (fun k => decide (cl k = S)) (i + 1); rw [anyB, ← h1, bI_0.mp c28, decide_eq_false (fun q => c39 (congrArg nI q))]; rfl), (by show false = !anyB (fun k => !decide (cl k = S) && sp_sub (cl k) S) (i + 1); rw [anyB, Bool.not_or, ← h2, bI_0.mp c49]; rfl)⟩) (lv_sub hl [3, 4, 2, 1, 0] rfl)
          · refine lv_aload_n hx hb d_Y_isLeast_52 rfl (lv_at hl 1 rfl) ?_
            refine va_get (D := D) (ci := 1) (v := .ref (h 4)) (C := RY) (T := TY) (N := 14) hx hb hts inY hown hK hP 0 rfl rfl 4 (by decide) (hts _ f_Y_20) (fun _ h9 => h9) rfl d_Y_isLeast_53 ?_
            refine lv_iload hx hb d_Y_isLeast_56 (lv_at hl 4 rfl) ?_
            refine va_iald hx hb hK hP 4 0 rfl rfl (vp_in_nI (show i < 40 by omega) (by decide)) d_Y_isLeast_58 ?_
            refine rd_top (z := nI (cl i)) (ar_nI cl (by omega)) ?_
            refine lv_iload_n hx hb d_Y_isLeast_59 rfl (lv_at hl 2 rfl) ?_
            refine lv_icmp_eq (tgt := 77) hx hb d_Y_isLeast_60 (by decide) (fun c60 => ?_) (fun c60 => ?_)
            · refine lv_iconst (v := 1) hx hb d_Y_isLeast_77 (by decide) ?_
              refine rd_top (z := bI true) (rfl) ?_
              refine lv_goto (tgt := 82) hx hb d_Y_isLeast_78 (by decide) ?_
              refine lv_istore_n (lv' := [(3, .int (bI true)), (2, .int (bI false)), (0, .ref (h 0)), (1, .int (nI S)), (4, .int (nI i))]) hx hb d_Y_isLeast_82 rfl hl (by decide) rfl (fun ls hl => ?_)
              refine lv_iinc (v := (nI (i + 1))) (lv' := [(4, .int (nI (i + 1))), (3, .int (bI true)), (2, .int (bI false)), (0, .ref (h 0)), (1, .int (nI S))]) hx hb d_Y_isLeast_83 hl (k := 4) rfl (nI_1 i) (by decide) rfl (fun ls hl => ?_)
              refine lv_goto (tgt := 18) hx hb d_Y_isLeast_86 (by decide) ?_
              exact ih hlt (false, true) ls (⟨(by show false = anyB (fun k => decide (cl k = S)) (i + 1); rw [anyB, ← h1, bI_0.mp c28, decide_eq_false (fun q => c39 (congrArg nI q))]; rfl), (by show true = !anyB (fun k => !decide (cl k = S) && sp_sub (cl k) S) (i + 1); rw [anyB, Bool.not_or, ← h2, show x.2 = true by cases hq : x.2; exact absurd (bI_0.mpr hq) c49; rfl, decide_eq_true ((nI_eq (by have := hcl i; omega) (by omega)).mp c60)]; rfl)⟩) (lv_sub hl [3, 4, 2, 1, 0] rfl)
            · refine lv_aload_n hx hb d_Y_isLeast_63 rfl (lv_at hl 1 rfl) ?_
              refine va_get (D := D) (ci := 1) (v := .ref (h 4)) (C := RY) (T := TY) (N := 14) hx hb hts inY hown hK hP 0 rfl rfl 4 (by decide) (hts _ f_Y_20) (fun _ h9 => h9) rfl d_Y_isLeast_64 ?_
              refine lv_iload hx hb d_Y_isLeast_67 (lv_at hl 4 rfl) ?_
              refine va_iald hx hb hK hP 4 0 rfl rfl (vp_in_nI (show i < 40 by omega) (by decide)) d_Y_isLeast_69 ?_
              refine rd_top (z := nI (cl i)) (ar_nI cl (by omega)) ?_
              refine lv_iload_n hx hb d_Y_isLeast_70 rfl (lv_at hl 2 rfl) ?_
              refine lv_iconst (v := (-1)) hx hb d_Y_isLeast_71 (by decide) ?_
              refine lv_ixor hx hb d_Y_isLeast_72 ?_
              refine lv_iand hx hb d_Y_isLeast_73 ?_
              refine lv_if_eq (tgt := 81) hx hb d_Y_isLeast_74 (by decide) (fun c74 => ?_) (fun c74 => ?_)
              · refine lv_iconst (v := 0) hx hb d_Y_isLeast_81 (by decide) ?_
                refine rd_top (z := bI false) (rfl) ?_
                refine lv_istore_n (lv' := [(3, .int (bI false)), (2, .int (bI false)), (0, .ref (h 0)), (1, .int (nI S)), (4, .int (nI i))]) hx hb d_Y_isLeast_82 rfl hl (by decide) rfl (fun ls hl => ?_)
                refine lv_iinc (v := (nI (i + 1))) (lv' := [(4, .int (nI (i + 1))), (3, .int (bI false)), (2, .int (bI false)), (0, .ref (h 0)), (1, .int (nI S))]) hx hb d_Y_isLeast_83 hl (k := 4) rfl (nI_1 i) (by decide) rfl (fun ls hl => ?_)
                refine lv_goto (tgt := 18) hx hb d_Y_isLeast_86 (by decide) ?_
                exact ih hlt (false, false) ls (⟨(by show false = anyB (fun k => decide (cl k = S)) (i + 1); rw [anyB, ← h1, bI_0.mp c28, decide_eq_false (fun q => c39 (congrArg nI q))]; rfl), (by show false = !anyB (fun k => !decide (cl k = S) && sp_sub (cl k) S) (i + 1); rw [anyB, Bool.not_or, decide_eq_false (fun q => c60 (congrArg nI q)), (bx_part (by have := hcl i; omega)).mp c74]; simp)⟩) (lv_sub hl [3, 4, 2, 1, 0] rfl)
              · refine lv_iconst (v := 1) hx hb d_Y_isLeast_77 (by decide) ?_
                refine rd_top (z := bI true) (rfl) ?_
                refine lv_goto (tgt := 82) hx hb d_Y_isLeast_78 (by decide) ?_
                refine lv_istore_n (lv' := [(3, .int (bI true)), (2, .int (bI false)), (0, .ref (h 0)), (1, .int (nI S)), (4, .int (nI i))]) hx hb d_Y_isLeast_82 rfl hl (by decide) rfl (fun ls hl => ?_)
                refine lv_iinc (v := (nI (i + 1))) (lv' := [(4, .int (nI (i + 1))), (3, .int (bI true)), (2, .int (bI false)), (0, .ref (h 0)), (1, .int (nI S))]) hx hb d_Y_isLeast_83 hl (k := 4) rfl (nI_1 i) (by decide) rfl (fun ls hl => ?_)
                refine lv_goto (tgt := 18) hx hb d_Y_isLeast_86 (by decide) ?_
                exact ih hlt (false, true) ls (⟨(by show false = anyB (fun k => decide (cl k = S)) (i + 1); rw [anyB, ← h1, bI_0.mp c28, decide_eq_false (fun q => c39 (congrArg nI q))]; rfl), (by show true = !anyB (fun k => !decide (cl k = S) && sp_sub (cl k) S) (i + 1); rw [anyB, Bool.not_or, ← h2, show x.2 = true by cases hq : x.2; exact absurd (bI_0.mpr hq) c49; rfl, show sp_sub (cl i) S = false by cases hq : sp_sub (cl i) S; rfl; exact absurd ((bx_part (by have := hcl i; omega)).mpr hq) c74]; simp)⟩) (lv_sub hl [3, 4, 2, 1, 0] rfl)
        · refine lv_iconst (v := 1) hx hb d_Y_isLeast_42 (by decide) ?_
          refine rd_top (z := bI true) (rfl) ?_
          refine lv_goto (tgt := 47) hx hb d_Y_isLeast_43 (by decide) ?_
          refine lv_istore_n (lv' := [(2, .int (bI true)), (0, .ref (h 0)), (1, .int (nI S)), (3, .int (bI x.2)), (4, .int (nI i))]) hx hb d_Y_isLeast_47 rfl hl (by decide) rfl (fun ls hl => ?_)
          refine lv_iload_n hx hb d_Y_isLeast_48 rfl (lv_at hl 3 rfl) ?_
          refine lv_if_eq (tgt := 81) hx hb d_Y_isLeast_49 (by decide) (fun c49 => ?_) (fun c49 => ?_)
          · refine lv_iconst (v := 0) hx hb d_Y_isLeast_81 (by decide) ?_
            refine rd_top (z := bI false) (rfl) ?_
            refine lv_istore_n (lv' := [(3, .int (bI false)), (2, .int (bI true)), (0, .ref (h 0)), (1, .int (nI S)), (4, .int (nI i))]) hx hb d_Y_isLeast_82 rfl hl (by decide) rfl (fun ls hl => ?_)
            refine lv_iinc (v := (nI (i + 1))) (lv' := [(4, .int (nI (i + 1))), (3, .int (bI false)), (2, .int (bI true)), (0, .ref (h 0)), (1, .int (nI S))]) hx hb d_Y_isLeast_83 hl (k := 4) rfl (nI_1 i) (by decide) rfl (fun ls hl => ?_)
            refine lv_goto (tgt := 18) hx hb d_Y_isLeast_86 (by decide) ?_
            exact ih hlt (true, false) ls (⟨(by show true = anyB (fun k => decide (cl k = S)) (i + 1); rw [anyB, decide_eq_true ((nI_eq (by have := hcl i; omega) (by omega)).mp c39), Bool.or_true]), (by show false = !anyB (fun k => !decide (cl k = S) && sp_sub (cl k) S) (i + 1); rw [anyB, Bool.not_or, ← h2, bI_0.mp c49]; rfl)⟩) (lv_sub hl [3, 4, 2, 1, 0] rfl)
          · refine lv_aload_n hx hb d_Y_isLeast_52 rfl (lv_at hl 1 rfl) ?_
            refine va_get (D := D) (ci := 1) (v := .ref (h 4)) (C := RY) (T := TY) (N := 14) hx hb hts inY hown hK hP 0 rfl rfl 4 (by decide) (hts _ f_Y_20) (fun _ h9 => h9) rfl d_Y_isLeast_53 ?_
            refine lv_iload hx hb d_Y_isLeast_56 (lv_at hl 4 rfl) ?_
            refine va_iald hx hb hK hP 4 0 rfl rfl (vp_in_nI (show i < 40 by omega) (by decide)) d_Y_isLeast_58 ?_
            refine rd_top (z := nI (cl i)) (ar_nI cl (by omega)) ?_
            refine lv_iload_n hx hb d_Y_isLeast_59 rfl (lv_at hl 2 rfl) ?_
            refine lv_icmp_eq (tgt := 77) hx hb d_Y_isLeast_60 (by decide) (fun c60 => ?_) (fun c60 => ?_)
            · refine lv_iconst (v := 1) hx hb d_Y_isLeast_77 (by decide) ?_
              refine rd_top (z := bI true) (rfl) ?_
              refine lv_goto (tgt := 82) hx hb d_Y_isLeast_78 (by decide) ?_
              refine lv_istore_n (lv' := [(3, .int (bI true)), (2, .int (bI true)), (0, .ref (h 0)), (1, .int (nI S)), (4, .int (nI i))]) hx hb d_Y_isLeast_82 rfl hl (by decide) rfl (fun ls hl => ?_)
              refine lv_iinc (v := (nI (i + 1))) (lv' := [(4, .int (nI (i + 1))), (3, .int (bI true)), (2, .int (bI true)), (0, .ref (h 0)), (1, .int (nI S))]) hx hb d_Y_isLeast_83 hl (k := 4) rfl (nI_1 i) (by decide) rfl (fun ls hl => ?_)
              refine lv_goto (tgt := 18) hx hb d_Y_isLeast_86 (by decide) ?_
              exact ih hlt (true, true) ls (⟨(by show true = anyB (fun k => decide (cl k = S)) (i + 1); rw [anyB, decide_eq_true ((nI_eq (by have := hcl i; omega) (by omega)).mp c39), Bool.or_true]), (by show true = !anyB (fun k => !decide (cl k = S) && sp_sub (cl k) S) (i + 1); rw [anyB, Bool.not_or, ← h2, show x.2 = true by cases hq : x.2; exact absurd (bI_0.mpr hq) c49; rfl, decide_eq_true ((nI_eq (by have := hcl i; omega) (by omega)).mp c60)]; rfl)⟩) (lv_sub hl [3, 4, 2, 1, 0] rfl)
            · refine lv_aload_n hx hb d_Y_isLeast_63 rfl (lv_at hl 1 rfl) ?_
              refine va_get (D := D) (ci := 1) (v := .ref (h 4)) (C := RY) (T := TY) (N := 14) hx hb hts inY hown hK hP 0 rfl rfl 4 (by decide) (hts _ f_Y_20) (fun _ h9 => h9) rfl d_Y_isLeast_64 ?_
              refine lv_iload hx hb d_Y_isLeast_67 (lv_at hl 4 rfl) ?_
              refine va_iald hx hb hK hP 4 0 rfl rfl (vp_in_nI (show i < 40 by omega) (by decide)) d_Y_isLeast_69 ?_
              refine rd_top (z := nI (cl i)) (ar_nI cl (by omega)) ?_
              refine lv_iload_n hx hb d_Y_isLeast_70 rfl (lv_at hl 2 rfl) ?_
              refine lv_iconst (v := (-1)) hx hb d_Y_isLeast_71 (by decide) ?_
              refine lv_ixor hx hb d_Y_isLeast_72 ?_
              refine lv_iand hx hb d_Y_isLeast_73 ?_
              refine lv_if_eq (tgt := 81) hx hb d_Y_isLeast_74 (by decide) (fun c74 => ?_) (fun c74 => ?_)
              · refine lv_iconst (v := 0) hx hb d_Y_isLeast_81 (by decide) ?_
                refine rd_top (z := bI false) (rfl) ?_
                refine lv_istore_n (lv' := [(3, .int (bI false)), (2, .int (bI true)), (0, .ref (h 0)), (1, .int (nI S)), (4, .int (nI i))]) hx hb d_Y_isLeast_82 rfl hl (by decide) rfl (fun ls hl => ?_)
                refine lv_iinc (v := (nI (i + 1))) (lv' := [(4, .int (nI (i + 1))), (3, .int (bI false)), (2, .int (bI true)), (0, .ref (h 0)), (1, .int (nI S))]) hx hb d_Y_isLeast_83 hl (k := 4) rfl (nI_1 i) (by decide) rfl (fun ls hl => ?_)
                refine lv_goto (tgt := 18) hx hb d_Y_isLeast_86 (by decide) ?_
                exact ih hlt (true, false) ls (⟨(by show true = anyB (fun k => decide (cl k = S)) (i + 1); rw [anyB, decide_eq_true ((nI_eq (by have := hcl i; omega) (by omega)).mp c39), Bool.or_true]), (by show false = !anyB (fun k => !decide (cl k = S) && sp_sub (cl k) S) (i + 1); rw [anyB, Bool.not_or, decide_eq_false (fun q => c60 (congrArg nI q)), (bx_part (by have := hcl i; omega)).mp c74]; simp)⟩) (lv_sub hl [3, 4, 2, 1, 0] rfl)
              · refine lv_iconst (v := 1) hx hb d_Y_isLeast_77 (by decide) ?_
                refine rd_top (z := bI true) (rfl) ?_
                refine lv_goto (tgt := 82) hx hb d_Y_isLeast_78 (by decide) ?_
                refine lv_istore_n (lv' := [(3, .int (bI true)), (2, .int (bI true)), (0, .ref (h 0)), (1, .int (nI S)), (4, .int (nI i))]) hx hb d_Y_isLeast_82 rfl hl (by decide) rfl (fun ls hl => ?_)
                refine lv_iinc (v := (nI (i + 1))) (lv' := [(4, .int (nI (i + 1))), (3, .int (bI true)), (2, .int (bI true)), (0, .ref (h 0)), (1, .int (nI S))]) hx hb d_Y_isLeast_83 hl (k := 4) rfl (nI_1 i) (by decide) rfl (fun ls hl => ?_)
                refine lv_goto (tgt := 18) hx hb d_Y_isLeast_86 (by decide) ?_
                exact ih hlt (true, true) ls (⟨(by show true = anyB (fun k => decide (cl k = S)) (i + 1); rw [anyB, decide_eq_true ((nI_eq (by have := hcl i; omega) (by omega)).mp c39), Bool.or_true]), (by show true = !anyB (fun k => !decide (cl k = S) && sp_sub (cl k) S) (i + 1); rw [anyB, Bool.not_or, ← h2, show x.2 = true by cases hq : x.2; exact absurd (bI_0.mpr hq) c49; rfl, show sp_sub (cl i) S = false by cases hq : sp_sub (cl i) S; rfl; exact absurd ((bx_part (by have := hcl i; omega)).mpr hq) c74]; simp)⟩) (lv_sub hl [3, 4, 2, 1, 0] rfl)
  · have hSn : ¬ S < 2 ^ n := fun q => c6 (by rw [Nat.div_eq_of_lt q]; rfl)
    refine lv_iconst (v := 0) hx hb d_Y_isLeast_9 (by decide) ?_
    exact rd_zret hx hb hr hlocks d_Y_isLeast_10 (by unfold isLY; rw [decide_eq_false hSn]; rfl)
set_option maxHeartbeats 4000000 in
set_option maxRecDepth 100000 in
theorem c_Y_least_1 (l : Launch) (r : Nat) (hr3 : r < 2 ^ 31) (hn : n ≤ 11) (hcc : cc ≤ 40) (hcl : ∀ j, cl j < 2048) : Met l y_Y_least w_Y_least (k2_rm 1 24) (rd_Pc D clX (wY h cI cZ n bt.testBit rk wt cl cc ow su sc od kn ke rp rc) [(cI, .int), (cZ, .boolean)] [.ref (h 0), .int (nI r)]) (k2_QcV (.int (oI (nthF (isLY n cl cc) 2048 0 r)))) 0 0 (fun _ => False) := by
  refine rd_met (by decide) rfl (Nat.le_of_ble_eq_true rfl) rfl ?_
  intro p e s m below meth c ls hx hb hr hml hown hts hlocks hP hK hl
  have hts : ∀ w ∈ tbl, w.before _ s = true := fun w h => hts w (List.mem_cons_of_mem _ h)
  have hown : s.vm.findClass RY = some m.cls := hown
  have hl : lv_has ls 4 [(0, .ref (h 0)), (1, .int (nI r))] := hl
  refine lv_iload_n hx hb d_Y_least_0 rfl (lv_at hl 1 rfl) ?_
  refine lv_istore_n (lv' := [(2, .int (nI r)), (0, .ref (h 0)), (1, .int (nI r))]) hx hb d_Y_least_1 rfl hl (by decide) rfl (fun ls hl => ?_)
  refine lv_iconst (v := 0) hx hb d_Y_least_2 (by decide) ?_
  refine lv_istore_n (lv' := [(3, .int 0), (2, .int (nI r)), (0, .ref (h 0)), (1, .int (nI r))]) hx hb d_Y_least_3 rfl hl (by decide) rfl (fun ls hl => ?_)
  refine rd_loop (nL := 4) (σ := Nat) (2048) (fun i x => [(0, .ref (h 0)), (1, .int (nI r)), (2, .int (nI x)), (3, .int (nI i))]) (fun i x => x < 2 ^ 31 ∧ nthF (isLY n cl cc) 2048 0 r = nthF (isLY n cl cc) (2048 - i) i x) ?_ 0 r ls (Nat.zero_le _) (⟨hr3, rfl⟩) (lv_sub hl [2, 3, 1, 0] rfl)
  intro i x ls hi hI hl ih
  obtain ⟨hxb, hI⟩ : x < 2 ^ 31 ∧ nthF (isLY n cl cc) 2048 0 r = nthF (isLY n cl cc) (2048 - i) i x := hI
  have hl : lv_has ls 4 [(0, .ref (h 0)), (1, .int (nI r)), (2, .int (nI x)), (3, .int (nI i))] := hl
  refine lv_iload_n hx hb d_Y_least_4 rfl (lv_at hl 3 rfl) ?_
  refine lv_sipush (v := 2048) hx hb d_Y_least_5 (by decide) ?_
  refine lv_icmp_ge (tgt := 41) hx hb d_Y_least_8 (by decide) (fun c8 => ?_) (fun c8 => ?_)
  · have hN : i = 2048 := lp_ge hi (by decide) c8
    refine lv_bipush (v := (-2)) hx hb d_Y_least_41 (by decide) ?_
    exact rd_iret hx hb hr hlocks d_Y_least_43 (by rw [hI, hN]; rfl)
  · have hlt : i < 2048 := lp_lt hi (by decide) c8
    refine lv_iload_n hx hb d_Y_least_11 rfl (lv_at hl 1 rfl) ?_
    refine lv_if_lt (tgt := 41) hx hb d_Y_least_12 (by decide) (fun c12 => ?_) (fun c12 => ?_)
    · exact absurd c12 (nI_pos hr3)
    · refine lv_aload_n hx hb d_Y_least_15 rfl (lv_at hl 0 rfl) ?_
      refine lv_iload_n hx hb d_Y_least_16 rfl (lv_at hl 3 rfl) ?_
      refine rd_V (As := [.int (nI i)]) (rest := []) ⟨hx, hb, hml, hown, hts⟩ (c_Y_isLeast l i hn hlt hcc hcl) (cwV 1 hts g_Y_84 rfl rfl rfl (by decide +kernel) ⟨Nat.le_of_ble_eq_true rfl, Nat.le_of_ble_eq_true rfl⟩) hK hP 0 rfl rfl rfl hl.1 rfl (Nat.le_of_ble_eq_true rfl) d_Y_least_17 ⟨Nat.zero_le _, Nat.zero_le _⟩ ?_
      refine lv_if_ne (tgt := 26) hx hb d_Y_least_20 (by decide) (fun c20 => ?_) (fun c20 => ?_)
      · refine lv_iload_n hx hb d_Y_least_26 rfl (lv_at hl 2 rfl) ?_
        refine lv_if_ne (tgt := 32) hx hb d_Y_least_27 (by decide) (fun c27 => ?_) (fun c27 => ?_)
        · refine lv_iinc (v := (nI (x - 1))) (lv' := [(2, .int (nI (x - 1))), (0, .ref (h 0)), (1, .int (nI r)), (3, .int (nI i))]) hx hb d_Y_least_32 hl (k := 2) rfl (sb_m1 (Nat.pos_of_ne_zero (fun q => c27 (by rw [q]; rfl)))) (by decide) rfl (fun ls hl => ?_)
          refine lv_iinc (v := (nI (i + 1))) (lv' := [(3, .int (nI (i + 1))), (2, .int (nI (x - 1))), (0, .ref (h 0)), (1, .int (nI r))]) hx hb d_Y_least_35 hl (k := 3) rfl (nI_1 i) (by decide) rfl (fun ls hl => ?_)
          refine lv_goto (tgt := 4) hx hb d_Y_least_38 (by decide) ?_
          exact ih hlt (x - 1) ls (⟨by omega, by rw [hI, show 2048 - i = (2048 - (i + 1)) + 1 by omega, nthF, if_pos (show isLY n cl cc i = true by cases hq : isLY n cl cc i; exact absurd (bI_0.mpr hq) c20; rfl), if_neg (fun q => c27 (by rw [q]; rfl))]⟩) (lv_sub hl [2, 3, 1, 0] rfl)
        · refine lv_iload_n hx hb d_Y_least_30 rfl (lv_at hl 3 rfl) ?_
          exact rd_iret hx hb hr hlocks d_Y_least_31 (by rw [hI, show 2048 - i = (2048 - (i + 1)) + 1 by omega, nthF, if_pos (show isLY n cl cc i = true by cases hq : isLY n cl cc i; exact absurd (bI_0.mpr hq) c20; rfl), if_pos ((nI_eq (b := 0) hxb (by decide)).mp c27)]; rfl)
      · refine lv_goto (tgt := 35) hx hb d_Y_least_23 (by decide) ?_
        refine lv_iinc (v := (nI (i + 1))) (lv' := [(3, .int (nI (i + 1))), (0, .ref (h 0)), (1, .int (nI r)), (2, .int (nI x))]) hx hb d_Y_least_35 hl (k := 3) rfl (nI_1 i) (by decide) rfl (fun ls hl => ?_)
        refine lv_goto (tgt := 4) hx hb d_Y_least_38 (by decide) ?_
        exact ih hlt x ls (⟨hxb, by rw [hI, show 2048 - i = (2048 - (i + 1)) + 1 by omega, nthF, if_neg (by rw [bI_0.mp c20]; decide)]⟩) (lv_sub hl [1, 2, 3, 0] rfl)
set_option maxHeartbeats 4000000 in
set_option maxRecDepth 100000 in
theorem c_Y_least_2 (l : Launch) (y : Int32) (hy : y < 0) : Met l y_Y_least w_Y_least (k2_rm 1 24) (rd_Pc D clX (wY h cI cZ n bt.testBit rk wt cl cc ow su sc od kn ke rp rc) [(cI, .int), (cZ, .boolean)] [.ref (h 0), .int y]) (k2_QcV (.int (-2))) 0 0 (fun _ => False) := by
  refine rd_met (by decide) rfl (Nat.le_of_ble_eq_true rfl) rfl ?_
  intro p e s m below meth c ls hx hb hr hml hown hts hlocks hP hK hl
  have hts : ∀ w ∈ tbl, w.before _ s = true := fun w h => hts w (List.mem_cons_of_mem _ h)
  have hown : s.vm.findClass RY = some m.cls := hown
  have hl : lv_has ls 4 [(0, .ref (h 0)), (1, .int y)] := hl
  refine lv_iload_n hx hb d_Y_least_0 rfl (lv_at hl 1 rfl) ?_
  refine lv_istore_n (lv' := [(2, .int y), (0, .ref (h 0)), (1, .int y)]) hx hb d_Y_least_1 rfl hl (by decide) rfl (fun ls hl => ?_)
  refine lv_iconst (v := 0) hx hb d_Y_least_2 (by decide) ?_
  refine lv_istore_n (lv' := [(3, .int 0), (2, .int y), (0, .ref (h 0)), (1, .int y)]) hx hb d_Y_least_3 rfl hl (by decide) rfl (fun ls hl => ?_)
  refine rd_loop (nL := 4) (σ := Unit) (2048) (fun i _ => [(0, .ref (h 0)), (1, .int y), (2, .int y), (3, .int (nI i))]) (fun i _ => True) ?_ 0 () ls (Nat.zero_le _) (trivial) (lv_sub hl [2, 3, 1, 0] rfl)
  intro i _ ls hi hI hl ih
  have hl : lv_has ls 4 [(0, .ref (h 0)), (1, .int y), (2, .int y), (3, .int (nI i))] := hl
  refine lv_iload_n hx hb d_Y_least_4 rfl (lv_at hl 3 rfl) ?_
  refine lv_sipush (v := 2048) hx hb d_Y_least_5 (by decide) ?_
  refine lv_icmp_ge (tgt := 41) hx hb d_Y_least_8 (by decide) (fun c8 => ?_) (fun c8 => ?_)
  · refine lv_bipush (v := (-2)) hx hb d_Y_least_41 (by decide) ?_
    exact rd_iret hx hb hr hlocks d_Y_least_43 (rfl)
  · refine lv_iload_n hx hb d_Y_least_11 rfl (lv_at hl 1 rfl) ?_
    refine lv_if_lt (tgt := 41) hx hb d_Y_least_12 (by decide) (fun c12 => ?_) (fun c12 => ?_)
    · refine lv_bipush (v := (-2)) hx hb d_Y_least_41 (by decide) ?_
      exact rd_iret hx hb hr hlocks d_Y_least_43 (rfl)
    · exact absurd hy c12
set_option maxHeartbeats 4000000 in
set_option maxRecDepth 100000 in
theorem c_Y_size (l : Launch)  : Met l y_Y_size w_Y_size (k2_rm 0 0) (rd_Pc D clX (wY h cI cZ n bt.testBit rk wt cl cc ow su sc od kn ke rp rc) [(cI, .int), (cZ, .boolean)] [.ref (h 0)]) (k2_QcV (.int (nI n))) 0 0 (fun _ => False) := by
  refine rd_met (by decide) rfl (Nat.le_of_ble_eq_true rfl) rfl ?_
  intro p e s m below meth c ls hx hb hr hml hown hts hlocks hP hK hl
  have hts : ∀ w ∈ tbl, w.before _ s = true := fun w h => hts w (List.mem_cons_of_mem _ h)
  have hown : s.vm.findClass RY = some m.cls := hown
  have hl : lv_has ls 1 [(0, .ref (h 0))] := hl
  refine lv_aload_n hx hb d_Y_size_0 rfl (lv_at hl 0 rfl) ?_
  refine va_get (D := D) (ci := 1) (v := .int (nI n)) (C := RY) (T := TY) (N := 14) hx hb hts inY hown hK hP 0 rfl rfl 0 (by decide) (hts _ f_Y_35) (fun _ h9 => h9) rfl d_Y_size_1 ?_
  exact rd_iret hx hb hr hlocks d_Y_size_4 (rfl)
theorem c_Y_least (l : Launch) (y : Int32) (hn : n ≤ 11) (hcc : cc ≤ 40) (hcl : ∀ j, cl j < 2048) : Met l y_Y_least w_Y_least (k2_rm 1 24) (rd_Pc D clX (wY h cI cZ n bt.testBit rk wt cl cc ow su sc od kn ke rp rc) [(cI, .int), (cZ, .boolean)] [.ref (h 0), .int y]) (k2_QcV (.int (leaX n cl cc y))) 0 0 (fun _ => False) := by
  by_cases hy : y < 0
  · rw [show leaX n cl cc y = -2 by unfold leaX; rw [if_pos (Or.inl hy)]]
    exact c_Y_least_2 l y hy
  · obtain ⟨r, hr, e⟩ := nI_of hy
    rw [e, lea_eq hcl hcc hr]
    exact c_Y_least_1 l r hr hn hcc hcl
end MY3
end
section
/-! the reference's world over the shared state -/
abbrev stD : Type := Bool × (Nat → Bool) × (Nat → Nat) × Nat
def wYt (h : Nat → Nat) (cI cZ : ClassId) (u : stA × stD) : va_W := match u with
  | ((n, bt, rk, wt, cl, cc, su, sa, sc, od), (kn, ke, rp, rc)) => wY h cI cZ n bt.testBit rk wt cl cc sa su sc od kn ke rp rc
def ocY (u : stA × stD) : Prop := match u with
  | (a, (kn, _, rp, rc)) => okC a kn rp rc
theorem upb_1 {bt n : Nat} (h : bt < 2 ^ n) (hard : Bool) : va_up bt.testBit n hard = (if hard = true then bt ||| 2 ^ n else bt).testBit := by
  funext j
  unfold va_up
  have h1 : bt.testBit n = false := Nat.testBit_lt_two_pow h
  cases hard
  · rw [if_neg (show ¬ false = true by decide)]
    split
    · rename_i q; rw [q, h1]
    · rfl
  · rw [if_pos rfl, or_bit]
    split
    · rename_i q; rw [q, decide_eq_true rfl, Bool.or_true]
    · rename_i q; rw [decide_eq_false (fun z => q z.symm), Bool.or_false]
theorem upb_2 {bt k : Nat} {hard : Bool} (h : bt.testBit k = hard) : va_up bt.testBit k hard = bt.testBit := by
  funext j
  unfold va_up
  split
  · rename_i q; rw [q, h]
  · rfl
theorem upb_3 {bt k : Nat} {hard : Bool} (h : ¬ bt.testBit k = hard) : va_up bt.testBit k hard = (bt ^^^ 2 ^ k).testBit := by
  funext j
  unfold va_up
  rw [xor_bit]
  split
  · rename_i q
    rw [q, decide_eq_true rfl]
    cases hb : bt.testBit k <;> cases hard <;> simp_all
  · rename_i q; rw [decide_eq_false (fun z => q z.symm), Bool.xor_false]
end
section
section MY4
variable {D : va_G} {h : Nat → Nat} {cI cZ : ClassId} {n bt : Nat} {rk wt cl : Nat → Nat} {cc : Nat} {ow su : Nat → Nat} {sc od : Nat} {kn : Bool} {ke : Nat → Bool} {rp : Nat → Nat} {rc : Nat}
set_option maxHeartbeats 4000000 in
set_option maxRecDepth 100000 in
theorem c_Y_fact (l : Launch) (sz : Nat) (hard : Bool) (r w : Int32) (hg : gdA (n, bt, rk, wt, cl, cc, su, ow, sc, od)) (hc : okC (n, bt, rk, wt, cl, cc, su, ow, sc, od) kn rp rc) : Met l y_Y_fact w_Y_fact (k2_rm 1 21) (wr_Pc D clX (wY h cI cZ n bt.testBit rk wt cl cc ow su sc od kn ke rp rc) [(cI, .int), (cZ, .boolean)] sz [.ref (h 0), .int (bI hard), .int r, .int w]) (wE_Q D clX (wY h cI cZ n bt.testBit rk wt cl cc ow su sc od kn ke rp rc) (σ := stA × stD) (wYt h cI cZ) (fun _ => some (.int (sFact n bt rk wt cl cc su ow sc od hard r w).1)) (fun u => u.1 = (sFact n bt rk wt cl cc su ow sc od hard r w).2 ∧ ocY u) sz) 0 0 (va_A (wY h cI cZ n bt.testBit rk wt cl cc ow su sc od kn ke rp rc) sz) := by
  refine wE_met (by decide) rfl (Nat.le_of_ble_eq_true rfl) rfl ?_
  intro p e s m below meth c ls hx hb hr hml hown hts hlocks hP hK hD hS hA hl
  have hts : ∀ w ∈ tbl, w.before _ s = true := fun w h => hts w (List.mem_cons_of_mem _ h)
  have hown : s.vm.findClass RY = some m.cls := hown
  have hl : lv_has ls 4 [(0, .ref (h 0)), (1, .int (bI hard)), (2, .int r), (3, .int w)] := hl
  obtain ⟨hn, hbt, hrk, hwt, hwp, hcc, hcl, hsc, hsa, hsu, ho⟩ := id hg
  have hbt3 : bt < 2 ^ 31 := Nat.lt_of_lt_of_le hbt (Nat.pow_le_pow_right (by decide) (by omega))
  have hlen : (reps n bt rk wt cl cc od).length ≤ 462 := rep_len hn (Nat.le_refl _) hrk hwp
  refine lv_iload_n hx hb d_Y_fact_0 rfl (lv_at hl 2 rfl) ?_
  refine lv_iload_n hx hb d_Y_fact_1 rfl (lv_at hl 3 rfl) ?_
  refine rd_S (As := [.int r, .int w]) (rest := []) ⟨hx, hb, hml, hown, hts⟩ (c_Y_areGood l r w) (cwS 2 hts g_Y_39 rfl rfl rfl (by decide +kernel) ⟨Nat.le_of_ble_eq_true rfl, Nat.le_of_ble_eq_true rfl⟩) rfl hl.1 rfl (Nat.le_of_ble_eq_true rfl) d_Y_fact_2 ⟨Nat.zero_le _, Nat.zero_le _⟩ ?_
  refine lv_if_ne (tgt := 10) hx hb d_Y_fact_5 (by decide) (fun c5 => ?_) (fun c5 => ?_)
  · have hok : (okR r && okW w) = true := show (okR r && okW w) = true by cases hq : (okR r && okW w); exact absurd (bI_0.mpr hq) c5; rfl
    have hok2 := (Bool.and_eq_true _ _ ▸ hok : okR r = true ∧ okW w = true)
    obtain ⟨r0, hr0, er⟩ := okR_of hok2.1
    obtain ⟨v0, hv0, hv1, ew⟩ := okW_of hok2.2
    have er2 : nI r.toNatClampNeg = r := by rw [er, nI_clamp (by omega)]
    have ew2 : nI w.toNatClampNeg = w := by rw [ew, nI_clamp (by omega)]
    refine lv_aload_n hx hb d_Y_fact_10 rfl (lv_at hl 0 rfl) ?_
    refine va_get (D := D) (ci := 1) (v := .int (nI n)) (C := RY) (T := TY) (N := 14) hx hb hts inY hown hK hP 0 rfl rfl 0 (by decide) (hts _ f_Y_35) (fun _ h9 => h9) rfl d_Y_fact_11 ?_
    refine lv_bipush (v := 11) hx hb d_Y_fact_14 (by decide) ?_
    refine lv_icmp_ne (tgt := 22) hx hb d_Y_fact_16 (by decide) (fun c16 => ?_) (fun c16 => ?_)
    · have hn10 : n < 11 := by have : ¬ n = 11 := fun q => c16 (by rw [q]; rfl); omega
      refine lv_aload_n hx hb d_Y_fact_22 rfl (lv_at hl 0 rfl) ?_
      refine va_get (D := D) (ci := 1) (v := .ref (h 1)) (C := RY) (T := TY) (N := 14) hx hb hts inY hown hK hP 0 rfl rfl 1 (by decide) (hts _ f_Y_7) (fun _ h9 => h9) rfl d_Y_fact_23 ?_
      refine lv_aload_n hx hb d_Y_fact_26 rfl (lv_at hl 0 rfl) ?_
      refine va_get (D := D) (ci := 1) (v := .int (nI n)) (C := RY) (T := TY) (N := 14) hx hb hts inY hown hK hP 0 rfl rfl 0 (by decide) (hts _ f_Y_35) (fun _ h9 => h9) rfl d_Y_fact_27 ?_
      refine lv_iload_n hx hb d_Y_fact_30 rfl (lv_at hl 1 rfl) ?_
      refine va_zast hx hb hK hP hD hS 1 1 rfl rfl (vp_in_nI hn10 (by decide)) d_Y_fact_31 (fun H locs hP hD hS => ?_)
      have hu : upd (fun j => bI (bt.testBit j)) (nI n).toNatClampNeg (vp_nar .boolean (bI hard)) = fun j => bI (((if hard = true then bt ||| 2 ^ n else bt).testBit) j) := by rw [nI_clamp (by omega), upd_bI, upb_1 hbt]
      rw [hu] at hP hD
      have hP : va_P D clX (wY h cI cZ n ((if hard = true then bt ||| 2 ^ n else bt).testBit) rk wt cl cc ow su sc od kn ke rp rc) H := hP
      have hD : va_D _ (wY h cI cZ n ((if hard = true then bt ||| 2 ^ n else bt).testBit) rk wt cl cc ow su sc od kn ke rp rc) := hD
      refine lv_aload_n hx hb d_Y_fact_32 rfl (lv_at hl 0 rfl) ?_
      refine va_get (D := D) (ci := 1) (v := .ref (h 2)) (C := RY) (T := TY) (N := 14) hx hb hts inY hown hK hP 0 rfl rfl 2 (by decide) (hts _ f_Y_13) (fun _ h9 => h9) rfl d_Y_fact_33 ?_
      refine lv_aload_n hx hb d_Y_fact_36 rfl (lv_at hl 0 rfl) ?_
      refine va_get (D := D) (ci := 1) (v := .int (nI n)) (C := RY) (T := TY) (N := 14) hx hb hts inY hown hK hP 0 rfl rfl 0 (by decide) (hts _ f_Y_35) (fun _ h9 => h9) rfl d_Y_fact_37 ?_
      refine lv_iload_n hx hb d_Y_fact_40 rfl (lv_at hl 2 rfl) ?_
      refine va_iast hx hb hK hP hD hS 2 0 rfl rfl (vp_in_nI hn10 (by decide)) d_Y_fact_41 (fun H locs hP hD hS => ?_)
      have hu : upd (fun j => nI (rk j)) (nI n).toNatClampNeg r = fun j => nI ((va_up rk n r.toNatClampNeg) j) := by rw [nI_clamp (by omega)]; exact upd_nI' rk n er2
      rw [hu] at hP hD
      have hP : va_P D clX (wY h cI cZ n ((if hard = true then bt ||| 2 ^ n else bt).testBit) (va_up rk n r.toNatClampNeg) wt cl cc ow su sc od kn ke rp rc) H := hP
      have hD : va_D _ (wY h cI cZ n ((if hard = true then bt ||| 2 ^ n else bt).testBit) (va_up rk n r.toNatClampNeg) wt cl cc ow su sc od kn ke rp rc) := hD
      refine lv_aload_n hx hb d_Y_fact_42 rfl (lv_at hl 0 rfl) ?_
      refine va_get (D := D) (ci := 1) (v := .ref (h 3)) (C := RY) (T := TY) (N := 14) hx hb hts inY hown hK hP 0 rfl rfl 3 (by decide) (hts _ f_Y_17) (fun _ h9 => h9) rfl d_Y_fact_43 ?_
      refine lv_aload_n hx hb d_Y_fact_46 rfl (lv_at hl 0 rfl) ?_
      refine va_get (D := D) (ci := 1) (v := .int (nI n)) (C := RY) (T := TY) (N := 14) hx hb hts inY hown hK hP 0 rfl rfl 0 (by decide) (hts _ f_Y_35) (fun _ h9 => h9) rfl d_Y_fact_47 ?_
      refine lv_iload_n hx hb d_Y_fact_50 rfl (lv_at hl 3 rfl) ?_
      refine va_iast hx hb hK hP hD hS 3 0 rfl rfl (vp_in_nI hn10 (by decide)) d_Y_fact_51 (fun H locs hP hD hS => ?_)
      have hu : upd (fun j => nI (wt j)) (nI n).toNatClampNeg w = fun j => nI ((va_up wt n w.toNatClampNeg) j) := by rw [nI_clamp (by omega)]; exact upd_nI' wt n ew2
      rw [hu] at hP hD
      have hP : va_P D clX (wY h cI cZ n ((if hard = true then bt ||| 2 ^ n else bt).testBit) (va_up rk n r.toNatClampNeg) (va_up wt n w.toNatClampNeg) cl cc ow su sc od kn ke rp rc) H := hP
      have hD : va_D _ (wY h cI cZ n ((if hard = true then bt ||| 2 ^ n else bt).testBit) (va_up rk n r.toNatClampNeg) (va_up wt n w.toNatClampNeg) cl cc ow su sc od kn ke rp rc) := hD
      refine lv_aload_n hx hb d_Y_fact_52 rfl (lv_at hl 0 rfl) ?_
      refine lv_dup hx hb d_Y_fact_53 rfl ?_
      refine va_get (D := D) (ci := 1) (v := .int (nI n)) (C := RY) (T := TY) (N := 14) hx hb hts inY hown hK hP 0 rfl rfl 0 (by decide) (hts _ f_Y_35) (fun _ h9 => h9) rfl d_Y_fact_54 ?_
      refine lv_iconst (v := 1) hx hb d_Y_fact_57 (by decide) ?_
      refine lv_iadd hx hb d_Y_fact_58 ?_
      refine rd_top (z := nI (n + 1)) (nI_1 n) ?_
      refine va_put (D := D) (ci := 1) (v := .int (nI (n + 1))) (ty := .int) (C := RY) (T := TY) (N := 14) hx hb hts inY tyY tyY_ok nmY hown hK hP hD hS 0 rfl rfl 0 (by decide) (hts _ f_Y_35) (fun _ h9 => h9) rfl (by decide +kernel) rfl rfl (Nat.le_of_ble_eq_true rfl) d_Y_fact_59 (fun H locs hP hD hS => ?_)
      have hP : va_P D clX (wY h cI cZ (n + 1) ((if hard = true then bt ||| 2 ^ n else bt).testBit) (va_up rk n r.toNatClampNeg) (va_up wt n w.toNatClampNeg) cl cc ow su sc od kn ke rp rc) H := hP
      have hD : va_D _ (wY h cI cZ (n + 1) ((if hard = true then bt ||| 2 ^ n else bt).testBit) (va_up rk n r.toNatClampNeg) (va_up wt n w.toNatClampNeg) cl cc ow su sc od kn ke rp rc) := hD
      refine lv_aload_n hx hb d_Y_fact_62 rfl (lv_at hl 0 rfl) ?_
      refine lv_iconst (v := 0) hx hb d_Y_fact_63 (by decide) ?_
      refine va_put (D := D) (ci := 1) (v := .int 0) (ty := .boolean) (C := RY) (T := TY) (N := 14) hx hb hts inY tyY tyY_ok nmY hown hK hP hD hS 0 rfl rfl 10 (by decide) (hts _ f_Y_43) (fun _ h9 => h9) rfl (by decide +kernel) rfl rfl (Nat.le_of_ble_eq_true rfl) d_Y_fact_64 (fun H locs hP hD hS => ?_)
      have hP : va_P D clX (wY h cI cZ (n + 1) ((if hard = true then bt ||| 2 ^ n else bt).testBit) (va_up rk n r.toNatClampNeg) (va_up wt n w.toNatClampNeg) cl cc ow su sc od false ke rp rc) H := hP
      have hD : va_D _ (wY h cI cZ (n + 1) ((if hard = true then bt ||| 2 ^ n else bt).testBit) (va_up rk n r.toNatClampNeg) (va_up wt n w.toNatClampNeg) cl cc ow su sc od false ke rp rc) := hD
      refine lv_aload_n hx hb d_Y_fact_67 rfl (lv_at hl 0 rfl) ?_
      refine va_get (D := D) (ci := 1) (v := .int (nI (n + 1))) (C := RY) (T := TY) (N := 14) hx hb hts inY hown hK hP 0 rfl rfl 0 (by decide) (hts _ f_Y_35) (fun _ h9 => h9) rfl d_Y_fact_68 ?_
      refine lv_iconst (v := 1) hx hb d_Y_fact_71 (by decide) ?_
      refine lv_isub hx hb d_Y_fact_72 ?_
      refine rd_top (z := nI n) (bx_dec (a := n + 1) (Nat.succ_pos n)) ?_
      have hs : (sFact n bt rk wt cl cc su ow sc od hard r w) = ((nI n), ((n + 1), (if hard = true then bt ||| 2 ^ n else bt), va_up rk n r.toNatClampNeg, va_up wt n w.toNatClampNeg, cl, cc, su, ow, sc, od)) := by unfold sFact; rw [if_pos hok, if_neg (show ¬ n = 11 by omega)]
      exact wE_iret (((n + 1), (if hard = true then bt ||| 2 ^ n else bt), va_up rk n r.toNatClampNeg, va_up wt n w.toNatClampNeg, cl, cc, su, ow, sc, od), (false, ke, rp, rc)) hx hb hr hlocks d_Y_fact_73 hS hP ⟨by rw [hs], okC_f⟩ (by rw [hs])
    · refine lv_bipush (v := (-3)) hx hb d_Y_fact_19 (by decide) ?_
      have hs : (sFact n bt rk wt cl cc su ow sc od hard r w) = ((-3), (n, bt, rk, wt, cl, cc, su, ow, sc, od)) := by unfold sFact; rw [if_pos hok, if_pos ((nI_eq (b := 11) (by omega) (by decide)).mp c16)]
      exact wE_iret ((n, bt, rk, wt, cl, cc, su, ow, sc, od), (kn, ke, rp, rc)) hx hb hr hlocks d_Y_fact_21 hS hP ⟨by rw [hs], hc⟩ (by rw [hs])
  · refine lv_iconst (v := (-1)) hx hb d_Y_fact_8 (by decide) ?_
    have hs : (sFact n bt rk wt cl cc su ow sc od hard r w) = ((-1), (n, bt, rk, wt, cl, cc, su, ow, sc, od)) := by unfold sFact; rw [if_neg (by rw [bI_0.mp c5]; decide)]
    exact wE_iret ((n, bt, rk, wt, cl, cc, su, ow, sc, od), (kn, ke, rp, rc)) hx hb hr hlocks d_Y_fact_9 hS hP ⟨by rw [hs], hc⟩ (by rw [hs])
set_option maxHeartbeats 4000000 in
set_option maxRecDepth 100000 in
theorem c_Y_harden (l : Launch) (sz : Nat) (x : Int32) (hard : Bool) (hg : gdA (n, bt, rk, wt, cl, cc, su, ow, sc, od)) (hc : okC (n, bt, rk, wt, cl, cc, su, ow, sc, od) kn rp rc) : Met l y_Y_harden w_Y_harden (k2_rm 1 21) (wr_Pc D clX (wY h cI cZ n bt.testBit rk wt cl cc ow su sc od kn ke rp rc) [(cI, .int), (cZ, .boolean)] sz [.ref (h 0), .int x, .int (bI hard)]) (wE_Q D clX (wY h cI cZ n bt.testBit rk wt cl cc ow su sc od kn ke rp rc) (σ := stA × stD) (wYt h cI cZ) (fun _ => some (.int (sHarden n bt rk wt cl cc su ow sc od x hard).1)) (fun u => u.1 = (sHarden n bt rk wt cl cc su ow sc od x hard).2 ∧ ocY u) sz) 0 0 (va_A (wY h cI cZ n bt.testBit rk wt cl cc ow su sc od kn ke rp rc) sz) := by
  refine wE_met (by decide) rfl (Nat.le_of_ble_eq_true rfl) rfl ?_
  intro p e s m below meth c ls hx hb hr hml hown hts hlocks hP hK hD hS hA hl
  have hts : ∀ w ∈ tbl, w.before _ s = true := fun w h => hts w (List.mem_cons_of_mem _ h)
  have hown : s.vm.findClass RY = some m.cls := hown
  have hl : lv_has ls 4 [(0, .ref (h 0)), (1, .int x), (2, .int (bI hard))] := hl
  obtain ⟨hn, hbt, hrk, hwt, hwp, hcc, hcl, hsc, hsa, hsu, ho⟩ := id hg
  have hbt3 : bt < 2 ^ 31 := Nat.lt_of_lt_of_le hbt (Nat.pow_le_pow_right (by decide) (by omega))
  have hlen : (reps n bt rk wt cl cc od).length ≤ 462 := rep_len hn (Nat.le_refl _) hrk hwp
  refine lv_aload_n hx hb d_Y_harden_0 rfl (lv_at hl 0 rfl) ?_
  refine lv_iload_n hx hb d_Y_harden_1 rfl (lv_at hl 1 rfl) ?_
  refine rd_V (As := [.int x]) (rest := []) ⟨hx, hb, hml, hown, hts⟩ (c_Y_isStatement l x) (cwV 1 hts g_Y_47 rfl rfl rfl (by decide +kernel) ⟨Nat.le_of_ble_eq_true rfl, Nat.le_of_ble_eq_true rfl⟩) hK hP 0 rfl rfl rfl hl.1 rfl (Nat.le_of_ble_eq_true rfl) d_Y_harden_2 ⟨Nat.zero_le _, Nat.zero_le _⟩ ?_
  refine lv_if_ne (tgt := 10) hx hb d_Y_harden_5 (by decide) (fun c5 => ?_) (fun c5 => ?_)
  · have hx0 := (show okS n x = true by cases hq : okS n x; exact absurd (bI_0.mpr hq) c5; rfl)
    obtain ⟨k, hk, ek⟩ := okS_of (by omega) hx0
    subst ek
    refine lv_aload_n hx hb d_Y_harden_10 rfl (lv_at hl 0 rfl) ?_
    refine va_get (D := D) (ci := 1) (v := .ref (h 1)) (C := RY) (T := TY) (N := 14) hx hb hts inY hown hK hP 0 rfl rfl 1 (by decide) (hts _ f_Y_7) (fun _ h9 => h9) rfl d_Y_harden_11 ?_
    refine lv_iload_n hx hb d_Y_harden_14 rfl (lv_at hl 1 rfl) ?_
    refine va_zald hx hb hK hP 1 1 rfl rfl (vp_in_nI (show k < 11 by omega) (by decide)) d_Y_harden_15 ?_
    refine rd_top (z := bI (bt.testBit k)) (ar_bI bt.testBit (by omega)) ?_
    refine lv_iload_n hx hb d_Y_harden_16 rfl (lv_at hl 2 rfl) ?_
    refine lv_icmp_ne (tgt := 24) hx hb d_Y_harden_17 (by decide) (fun c17 => ?_) (fun c17 => ?_)
    · refine lv_iconst (v := 1) hx hb d_Y_harden_24 (by decide) ?_
      refine lv_istore_n (lv' := [(3, .int 1), (0, .ref (h 0)), (1, .int (nI k)), (2, .int (bI hard))]) hx hb d_Y_harden_25 rfl hl (by decide) rfl (fun ls hl => ?_)
      refine lv_aload_n hx hb d_Y_harden_26 rfl (lv_at hl 1 rfl) ?_
      refine va_get (D := D) (ci := 1) (v := .ref (h 1)) (C := RY) (T := TY) (N := 14) hx hb hts inY hown hK hP 0 rfl rfl 1 (by decide) (hts _ f_Y_7) (fun _ h9 => h9) rfl d_Y_harden_27 ?_
      refine lv_iload_n hx hb d_Y_harden_30 rfl (lv_at hl 2 rfl) ?_
      refine lv_iload_n hx hb d_Y_harden_31 rfl (lv_at hl 3 rfl) ?_
      refine va_zast hx hb hK hP hD hS 1 1 rfl rfl (vp_in_nI (show k < 11 by omega) (by decide)) d_Y_harden_32 (fun H locs hP hD hS => ?_)
      have hu : upd (fun j => bI (bt.testBit j)) (nI k).toNatClampNeg (vp_nar .boolean (bI hard)) = fun j => bI (((bt ^^^ 2 ^ k).testBit) j) := by rw [nI_clamp (by omega), upd_bI, upb_3 (fun q => c17 (by rw [q]))]
      rw [hu] at hP hD
      have hP : va_P D clX (wY h cI cZ n ((bt ^^^ 2 ^ k).testBit) rk wt cl cc ow su sc od kn ke rp rc) H := hP
      have hD : va_D _ (wY h cI cZ n ((bt ^^^ 2 ^ k).testBit) rk wt cl cc ow su sc od kn ke rp rc) := hD
      refine lv_aload_n hx hb d_Y_harden_33 rfl (lv_at hl 1 rfl) ?_
      refine lv_iconst (v := 0) hx hb d_Y_harden_34 (by decide) ?_
      refine va_put (D := D) (ci := 1) (v := .int 0) (ty := .boolean) (C := RY) (T := TY) (N := 14) hx hb hts inY tyY tyY_ok nmY hown hK hP hD hS 0 rfl rfl 10 (by decide) (hts _ f_Y_43) (fun _ h9 => h9) rfl (by decide +kernel) rfl rfl (Nat.le_of_ble_eq_true rfl) d_Y_harden_35 (fun H locs hP hD hS => ?_)
      have hP : va_P D clX (wY h cI cZ n ((bt ^^^ 2 ^ k).testBit) rk wt cl cc ow su sc od false ke rp rc) H := hP
      have hD : va_D _ (wY h cI cZ n ((bt ^^^ 2 ^ k).testBit) rk wt cl cc ow su sc od false ke rp rc) := hD
      refine lv_iload_n hx hb d_Y_harden_38 rfl (lv_at hl 0 rfl) ?_
      have hs : (sHarden n bt rk wt cl cc su ow sc od (nI k) hard) = (1, (n, (bt ^^^ 2 ^ k), rk, wt, cl, cc, su, ow, sc, od)) := by unfold sHarden; rw [if_pos hx0, nI_clamp (by omega), if_neg (fun q => c17 (by rw [q]))]
      exact wE_iret ((n, (bt ^^^ 2 ^ k), rk, wt, cl, cc, su, ow, sc, od), (false, ke, rp, rc)) hx hb hr hlocks d_Y_harden_39 hS hP ⟨by rw [hs], okC_f⟩ (by rw [hs])
    · refine lv_iconst (v := 0) hx hb d_Y_harden_20 (by decide) ?_
      refine lv_goto (tgt := 25) hx hb d_Y_harden_21 (by decide) ?_
      refine lv_istore_n (lv' := [(3, .int 0), (0, .ref (h 0)), (1, .int (nI k)), (2, .int (bI hard))]) hx hb d_Y_harden_25 rfl hl (by decide) rfl (fun ls hl => ?_)
      refine lv_aload_n hx hb d_Y_harden_26 rfl (lv_at hl 1 rfl) ?_
      refine va_get (D := D) (ci := 1) (v := .ref (h 1)) (C := RY) (T := TY) (N := 14) hx hb hts inY hown hK hP 0 rfl rfl 1 (by decide) (hts _ f_Y_7) (fun _ h9 => h9) rfl d_Y_harden_27 ?_
      refine lv_iload_n hx hb d_Y_harden_30 rfl (lv_at hl 2 rfl) ?_
      refine lv_iload_n hx hb d_Y_harden_31 rfl (lv_at hl 3 rfl) ?_
      refine va_zast hx hb hK hP hD hS 1 1 rfl rfl (vp_in_nI (show k < 11 by omega) (by decide)) d_Y_harden_32 (fun H locs hP hD hS => ?_)
      have hu : upd (fun j => bI (bt.testBit j)) (nI k).toNatClampNeg (vp_nar .boolean (bI hard)) = fun j => bI (bt.testBit j) := by rw [nI_clamp (by omega), upd_bI, upb_2 (bI_inj.mp c17)]
      rw [hu] at hP hD
      have hP : va_P D clX (wY h cI cZ n bt.testBit rk wt cl cc ow su sc od kn ke rp rc) H := hP
      have hD : va_D _ (wY h cI cZ n bt.testBit rk wt cl cc ow su sc od kn ke rp rc) := hD
      refine lv_aload_n hx hb d_Y_harden_33 rfl (lv_at hl 1 rfl) ?_
      refine lv_iconst (v := 0) hx hb d_Y_harden_34 (by decide) ?_
      refine va_put (D := D) (ci := 1) (v := .int 0) (ty := .boolean) (C := RY) (T := TY) (N := 14) hx hb hts inY tyY tyY_ok nmY hown hK hP hD hS 0 rfl rfl 10 (by decide) (hts _ f_Y_43) (fun _ h9 => h9) rfl (by decide +kernel) rfl rfl (Nat.le_of_ble_eq_true rfl) d_Y_harden_35 (fun H locs hP hD hS => ?_)
      have hP : va_P D clX (wY h cI cZ n bt.testBit rk wt cl cc ow su sc od false ke rp rc) H := hP
      have hD : va_D _ (wY h cI cZ n bt.testBit rk wt cl cc ow su sc od false ke rp rc) := hD
      refine lv_iload_n hx hb d_Y_harden_38 rfl (lv_at hl 0 rfl) ?_
      have hs : (sHarden n bt rk wt cl cc su ow sc od (nI k) hard) = (0, (n, bt, rk, wt, cl, cc, su, ow, sc, od)) := by unfold sHarden; rw [if_pos hx0, nI_clamp (by omega), if_pos (bI_inj.mp c17)]
      exact wE_iret ((n, bt, rk, wt, cl, cc, su, ow, sc, od), (false, ke, rp, rc)) hx hb hr hlocks d_Y_harden_39 hS hP ⟨by rw [hs], okC_f⟩ (by rw [hs])
  · refine lv_iconst (v := (-1)) hx hb d_Y_harden_8 (by decide) ?_
    have hs : (sHarden n bt rk wt cl cc su ow sc od x hard) = ((-1), (n, bt, rk, wt, cl, cc, su, ow, sc, od)) := by unfold sHarden; rw [if_neg (by rw [bI_0.mp c5]; decide)]
    exact wE_iret ((n, bt, rk, wt, cl, cc, su, ow, sc, od), (kn, ke, rp, rc)) hx hb hr hlocks d_Y_harden_9 hS hP ⟨by rw [hs], hc⟩ (by rw [hs])
set_option maxHeartbeats 4000000 in
set_option maxRecDepth 100000 in
theorem c_Y_weight (l : Launch) (sz : Nat) (x r w : Int32) (hg : gdA (n, bt, rk, wt, cl, cc, su, ow, sc, od)) (hc : okC (n, bt, rk, wt, cl, cc, su, ow, sc, od) kn rp rc) : Met l y_Y_weight w_Y_weight (k2_rm 1 21) (wr_Pc D clX (wY h cI cZ n bt.testBit rk wt cl cc ow su sc od kn ke rp rc) [(cI, .int), (cZ, .boolean)] sz [.ref (h 0), .int x, .int r, .int w]) (wE_Q D clX (wY h cI cZ n bt.testBit rk wt cl cc ow su sc od kn ke rp rc) (σ := stA × stD) (wYt h cI cZ) (fun _ => some (.int (sWeight n bt rk wt cl cc su ow sc od x r w).1)) (fun u => u.1 = (sWeight n bt rk wt cl cc su ow sc od x r w).2 ∧ ocY u) sz) 0 0 (va_A (wY h cI cZ n bt.testBit rk wt cl cc ow su sc od kn ke rp rc) sz) := by
  refine wE_met (by decide) rfl (Nat.le_of_ble_eq_true rfl) rfl ?_
  intro p e s m below meth c ls hx hb hr hml hown hts hlocks hP hK hD hS hA hl
  have hts : ∀ w ∈ tbl, w.before _ s = true := fun w h => hts w (List.mem_cons_of_mem _ h)
  have hown : s.vm.findClass RY = some m.cls := hown
  have hl : lv_has ls 4 [(0, .ref (h 0)), (1, .int x), (2, .int r), (3, .int w)] := hl
  obtain ⟨hn, hbt, hrk, hwt, hwp, hcc, hcl, hsc, hsa, hsu, ho⟩ := id hg
  have hbt3 : bt < 2 ^ 31 := Nat.lt_of_lt_of_le hbt (Nat.pow_le_pow_right (by decide) (by omega))
  have hlen : (reps n bt rk wt cl cc od).length ≤ 462 := rep_len hn (Nat.le_refl _) hrk hwp
  refine lv_aload_n hx hb d_Y_weight_0 rfl (lv_at hl 0 rfl) ?_
  refine lv_iload_n hx hb d_Y_weight_1 rfl (lv_at hl 1 rfl) ?_
  refine rd_V (As := [.int x]) (rest := []) ⟨hx, hb, hml, hown, hts⟩ (c_Y_isStatement l x) (cwV 1 hts g_Y_47 rfl rfl rfl (by decide +kernel) ⟨Nat.le_of_ble_eq_true rfl, Nat.le_of_ble_eq_true rfl⟩) hK hP 0 rfl rfl rfl hl.1 rfl (Nat.le_of_ble_eq_true rfl) d_Y_weight_2 ⟨Nat.zero_le _, Nat.zero_le _⟩ ?_
  refine lv_if_eq (tgt := 16) hx hb d_Y_weight_5 (by decide) (fun c5 => ?_) (fun c5 => ?_)
  · refine lv_iconst (v := (-1)) hx hb d_Y_weight_16 (by decide) ?_
    have hs : (sWeight n bt rk wt cl cc su ow sc od x r w) = ((-1), (n, bt, rk, wt, cl, cc, su, ow, sc, od)) := by unfold sWeight; rw [if_neg (by rw [bI_0.mp c5, Bool.false_and]; decide)]
    exact wE_iret ((n, bt, rk, wt, cl, cc, su, ow, sc, od), (kn, ke, rp, rc)) hx hb hr hlocks d_Y_weight_17 hS hP ⟨by rw [hs], hc⟩ (by rw [hs])
  · refine lv_iload_n hx hb d_Y_weight_8 rfl (lv_at hl 2 rfl) ?_
    refine lv_iload_n hx hb d_Y_weight_9 rfl (lv_at hl 3 rfl) ?_
    refine rd_S (As := [.int r, .int w]) (rest := []) ⟨hx, hb, hml, hown, hts⟩ (c_Y_areGood l r w) (cwS 2 hts g_Y_39 rfl rfl rfl (by decide +kernel) ⟨Nat.le_of_ble_eq_true rfl, Nat.le_of_ble_eq_true rfl⟩) rfl hl.1 rfl (Nat.le_of_ble_eq_true rfl) d_Y_weight_10 ⟨Nat.zero_le _, Nat.zero_le _⟩ ?_
    refine lv_if_ne (tgt := 18) hx hb d_Y_weight_13 (by decide) (fun c13 => ?_) (fun c13 => ?_)
    · have hok : (okR r && okW w) = true := show (okR r && okW w) = true by cases hq : (okR r && okW w); exact absurd (bI_0.mpr hq) c13; rfl
      have hok2 := (Bool.and_eq_true _ _ ▸ hok : okR r = true ∧ okW w = true)
      obtain ⟨r0, hr0, er⟩ := okR_of hok2.1
      obtain ⟨v0, hv0, hv1, ew⟩ := okW_of hok2.2
      have er2 : nI r.toNatClampNeg = r := by rw [er, nI_clamp (by omega)]
      have ew2 : nI w.toNatClampNeg = w := by rw [ew, nI_clamp (by omega)]
      have hx0 := (show okS n x = true by cases hq : okS n x; exact absurd (bI_0.mpr hq) c5; rfl)
      obtain ⟨k, hk, ek⟩ := okS_of (by omega) hx0
      subst ek
      refine lv_aload_n hx hb d_Y_weight_18 rfl (lv_at hl 0 rfl) ?_
      refine va_get (D := D) (ci := 1) (v := .ref (h 2)) (C := RY) (T := TY) (N := 14) hx hb hts inY hown hK hP 0 rfl rfl 2 (by decide) (hts _ f_Y_13) (fun _ h9 => h9) rfl d_Y_weight_19 ?_
      refine lv_iload_n hx hb d_Y_weight_22 rfl (lv_at hl 1 rfl) ?_
      refine lv_iload_n hx hb d_Y_weight_23 rfl (lv_at hl 2 rfl) ?_
      refine va_iast hx hb hK hP hD hS 2 0 rfl rfl (vp_in_nI (show k < 11 by omega) (by decide)) d_Y_weight_24 (fun H locs hP hD hS => ?_)
      have hu : upd (fun j => nI (rk j)) (nI k).toNatClampNeg r = fun j => nI ((va_up rk k r.toNatClampNeg) j) := by rw [nI_clamp (by omega)]; exact upd_nI' rk k er2
      rw [hu] at hP hD
      have hP : va_P D clX (wY h cI cZ n bt.testBit (va_up rk k r.toNatClampNeg) wt cl cc ow su sc od kn ke rp rc) H := hP
      have hD : va_D _ (wY h cI cZ n bt.testBit (va_up rk k r.toNatClampNeg) wt cl cc ow su sc od kn ke rp rc) := hD
      refine lv_aload_n hx hb d_Y_weight_25 rfl (lv_at hl 0 rfl) ?_
      refine va_get (D := D) (ci := 1) (v := .ref (h 3)) (C := RY) (T := TY) (N := 14) hx hb hts inY hown hK hP 0 rfl rfl 3 (by decide) (hts _ f_Y_17) (fun _ h9 => h9) rfl d_Y_weight_26 ?_
      refine lv_iload_n hx hb d_Y_weight_29 rfl (lv_at hl 1 rfl) ?_
      refine lv_iload_n hx hb d_Y_weight_30 rfl (lv_at hl 3 rfl) ?_
      refine va_iast hx hb hK hP hD hS 3 0 rfl rfl (vp_in_nI (show k < 11 by omega) (by decide)) d_Y_weight_31 (fun H locs hP hD hS => ?_)
      have hu : upd (fun j => nI (wt j)) (nI k).toNatClampNeg w = fun j => nI ((va_up wt k w.toNatClampNeg) j) := by rw [nI_clamp (by omega)]; exact upd_nI' wt k ew2
      rw [hu] at hP hD
      have hP : va_P D clX (wY h cI cZ n bt.testBit (va_up rk k r.toNatClampNeg) (va_up wt k w.toNatClampNeg) cl cc ow su sc od kn ke rp rc) H := hP
      have hD : va_D _ (wY h cI cZ n bt.testBit (va_up rk k r.toNatClampNeg) (va_up wt k w.toNatClampNeg) cl cc ow su sc od kn ke rp rc) := hD
      refine lv_aload_n hx hb d_Y_weight_32 rfl (lv_at hl 0 rfl) ?_
      refine lv_iconst (v := 0) hx hb d_Y_weight_33 (by decide) ?_
      refine va_put (D := D) (ci := 1) (v := .int 0) (ty := .boolean) (C := RY) (T := TY) (N := 14) hx hb hts inY tyY tyY_ok nmY hown hK hP hD hS 0 rfl rfl 10 (by decide) (hts _ f_Y_43) (fun _ h9 => h9) rfl (by decide +kernel) rfl rfl (Nat.le_of_ble_eq_true rfl) d_Y_weight_34 (fun H locs hP hD hS => ?_)
      have hP : va_P D clX (wY h cI cZ n bt.testBit (va_up rk k r.toNatClampNeg) (va_up wt k w.toNatClampNeg) cl cc ow su sc od false ke rp rc) H := hP
      have hD : va_D _ (wY h cI cZ n bt.testBit (va_up rk k r.toNatClampNeg) (va_up wt k w.toNatClampNeg) cl cc ow su sc od false ke rp rc) := hD
      refine lv_iconst (v := 1) hx hb d_Y_weight_37 (by decide) ?_
      have hs : (sWeight n bt rk wt cl cc su ow sc od (nI k) r w) = (1, (n, bt, va_up rk k r.toNatClampNeg, va_up wt k w.toNatClampNeg, cl, cc, su, ow, sc, od)) := by unfold sWeight; rw [if_pos (by rw [hx0, hok]; rfl), nI_clamp (show k < 2 ^ 31 by omega)]
      exact wE_iret ((n, bt, va_up rk k r.toNatClampNeg, va_up wt k w.toNatClampNeg, cl, cc, su, ow, sc, od), (false, ke, rp, rc)) hx hb hr hlocks d_Y_weight_38 hS hP ⟨by rw [hs], okC_f⟩ (by rw [hs])
    · refine lv_iconst (v := (-1)) hx hb d_Y_weight_16 (by decide) ?_
      have hs : (sWeight n bt rk wt cl cc su ow sc od x r w) = ((-1), (n, bt, rk, wt, cl, cc, su, ow, sc, od)) := by unfold sWeight; rw [if_neg (by rw [bI_0.mp c13, Bool.and_false]; decide)]
      exact wE_iret ((n, bt, rk, wt, cl, cc, su, ow, sc, od), (kn, ke, rp, rc)) hx hb hr hlocks d_Y_weight_17 hS hP ⟨by rw [hs], hc⟩ (by rw [hs])
set_option maxHeartbeats 4000000 in
set_option maxRecDepth 100000 in
theorem c_Y_clash (l : Launch) (sz : Nat) (x : Int32) (hg : gdA (n, bt, rk, wt, cl, cc, su, ow, sc, od)) (hc : okC (n, bt, rk, wt, cl, cc, su, ow, sc, od) kn rp rc) : Met l y_Y_clash w_Y_clash (k2_rm 0 0) (wr_Pc D clX (wY h cI cZ n bt.testBit rk wt cl cc ow su sc od kn ke rp rc) [(cI, .int), (cZ, .boolean)] sz [.ref (h 0), .int x]) (wE_Q D clX (wY h cI cZ n bt.testBit rk wt cl cc ow su sc od kn ke rp rc) (σ := stA × stD) (wYt h cI cZ) (fun _ => some (.int (sClash n bt rk wt cl cc su ow sc od x).1)) (fun u => u.1 = (sClash n bt rk wt cl cc su ow sc od x).2 ∧ ocY u) sz) 0 0 (va_A (wY h cI cZ n bt.testBit rk wt cl cc ow su sc od kn ke rp rc) sz) := by
  refine wE_met (by decide) rfl (Nat.le_of_ble_eq_true rfl) rfl ?_
  intro p e s m below meth c ls hx hb hr hml hown hts hlocks hP hK hD hS hA hl
  have hts : ∀ w ∈ tbl, w.before _ s = true := fun w h => hts w (List.mem_cons_of_mem _ h)
  have hown : s.vm.findClass RY = some m.cls := hown
  have hl : lv_has ls 2 [(0, .ref (h 0)), (1, .int x)] := hl
  obtain ⟨hn, hbt, hrk, hwt, hwp, hcc, hcl, hsc, hsa, hsu, ho⟩ := id hg
  have hbt3 : bt < 2 ^ 31 := Nat.lt_of_lt_of_le hbt (Nat.pow_le_pow_right (by decide) (by omega))
  have hlen : (reps n bt rk wt cl cc od).length ≤ 462 := rep_len hn (Nat.le_refl _) hrk hwp
  refine lv_aload_n hx hb d_Y_clash_0 rfl (lv_at hl 0 rfl) ?_
  refine va_get (D := D) (ci := 1) (v := .int (nI cc)) (C := RY) (T := TY) (N := 14) hx hb hts inY hown hK hP 0 rfl rfl 5 (by decide) (hts _ f_Y_51) (fun _ h9 => h9) rfl d_Y_clash_1 ?_
  refine lv_bipush (v := 40) hx hb d_Y_clash_4 (by decide) ?_
  refine lv_icmp_ne (tgt := 12) hx hb d_Y_clash_6 (by decide) (fun c6 => ?_) (fun c6 => ?_)
  · have hc4 : cc < 40 := by have : ¬ cc = 40 := fun q => c6 (by rw [q]; rfl); omega
    refine lv_aload_n hx hb d_Y_clash_12 rfl (lv_at hl 0 rfl) ?_
    refine va_get (D := D) (ci := 1) (v := .ref (h 4)) (C := RY) (T := TY) (N := 14) hx hb hts inY hown hK hP 0 rfl rfl 4 (by decide) (hts _ f_Y_20) (fun _ h9 => h9) rfl d_Y_clash_13 ?_
    refine lv_aload_n hx hb d_Y_clash_16 rfl (lv_at hl 0 rfl) ?_
    refine va_get (D := D) (ci := 1) (v := .int (nI cc)) (C := RY) (T := TY) (N := 14) hx hb hts inY hown hK hP 0 rfl rfl 5 (by decide) (hts _ f_Y_51) (fun _ h9 => h9) rfl d_Y_clash_17 ?_
    refine lv_iload_n hx hb d_Y_clash_20 rfl (lv_at hl 1 rfl) ?_
    refine lv_sipush (v := 2047) hx hb d_Y_clash_21 (by decide) ?_
    refine lv_iand hx hb d_Y_clash_24 ?_
    refine rd_top (z := nI (x.toBitVec.toNat % 2 ^ 11)) (msk x) ?_
    refine va_iast hx hb hK hP hD hS 4 0 rfl rfl (vp_in_nI hc4 (by decide)) d_Y_clash_25 (fun H locs hP hD hS => ?_)
    have hu : upd (fun j => nI (cl j)) (nI cc).toNatClampNeg (nI (x.toBitVec.toNat % 2 ^ 11)) = fun j => nI ((va_up cl cc (x.toBitVec.toNat % 2 ^ 11)) j) := by rw [nI_clamp (by omega)]; exact upd_nI cl cc _
    rw [hu] at hP hD
    have hP : va_P D clX (wY h cI cZ n bt.testBit rk wt (va_up cl cc (x.toBitVec.toNat % 2 ^ 11)) cc ow su sc od kn ke rp rc) H := hP
    have hD : va_D _ (wY h cI cZ n bt.testBit rk wt (va_up cl cc (x.toBitVec.toNat % 2 ^ 11)) cc ow su sc od kn ke rp rc) := hD
    refine lv_aload_n hx hb d_Y_clash_26 rfl (lv_at hl 0 rfl) ?_
    refine lv_dup hx hb d_Y_clash_27 rfl ?_
    refine va_get (D := D) (ci := 1) (v := .int (nI cc)) (C := RY) (T := TY) (N := 14) hx hb hts inY hown hK hP 0 rfl rfl 5 (by decide) (hts _ f_Y_51) (fun _ h9 => h9) rfl d_Y_clash_28 ?_
    refine lv_iconst (v := 1) hx hb d_Y_clash_31 (by decide) ?_
    refine lv_iadd hx hb d_Y_clash_32 ?_
    refine rd_top (z := nI (cc + 1)) (nI_1 cc) ?_
    refine va_put (D := D) (ci := 1) (v := .int (nI (cc + 1))) (ty := .int) (C := RY) (T := TY) (N := 14) hx hb hts inY tyY tyY_ok nmY hown hK hP hD hS 0 rfl rfl 5 (by decide) (hts _ f_Y_51) (fun _ h9 => h9) rfl (by decide +kernel) rfl rfl (Nat.le_of_ble_eq_true rfl) d_Y_clash_33 (fun H locs hP hD hS => ?_)
    have hP : va_P D clX (wY h cI cZ n bt.testBit rk wt (va_up cl cc (x.toBitVec.toNat % 2 ^ 11)) (cc + 1) ow su sc od kn ke rp rc) H := hP
    have hD : va_D _ (wY h cI cZ n bt.testBit rk wt (va_up cl cc (x.toBitVec.toNat % 2 ^ 11)) (cc + 1) ow su sc od kn ke rp rc) := hD
    refine lv_aload_n hx hb d_Y_clash_36 rfl (lv_at hl 0 rfl) ?_
    refine lv_iconst (v := 0) hx hb d_Y_clash_37 (by decide) ?_
    refine va_put (D := D) (ci := 1) (v := .int 0) (ty := .boolean) (C := RY) (T := TY) (N := 14) hx hb hts inY tyY tyY_ok nmY hown hK hP hD hS 0 rfl rfl 10 (by decide) (hts _ f_Y_43) (fun _ h9 => h9) rfl (by decide +kernel) rfl rfl (Nat.le_of_ble_eq_true rfl) d_Y_clash_38 (fun H locs hP hD hS => ?_)
    have hP : va_P D clX (wY h cI cZ n bt.testBit rk wt (va_up cl cc (x.toBitVec.toNat % 2 ^ 11)) (cc + 1) ow su sc od false ke rp rc) H := hP
    have hD : va_D _ (wY h cI cZ n bt.testBit rk wt (va_up cl cc (x.toBitVec.toNat % 2 ^ 11)) (cc + 1) ow su sc od false ke rp rc) := hD
    refine lv_aload_n hx hb d_Y_clash_41 rfl (lv_at hl 0 rfl) ?_
    refine va_get (D := D) (ci := 1) (v := .int (nI (cc + 1))) (C := RY) (T := TY) (N := 14) hx hb hts inY hown hK hP 0 rfl rfl 5 (by decide) (hts _ f_Y_51) (fun _ h9 => h9) rfl d_Y_clash_42 ?_
    have hs : (sClash n bt rk wt cl cc su ow sc od x) = ((nI (cc + 1)), (n, bt, rk, wt, va_up cl cc (x.toBitVec.toNat % 2 ^ 11), (cc + 1), su, ow, sc, od)) := by unfold sClash; rw [if_neg (show ¬ cc = 40 by omega)]
    exact wE_iret ((n, bt, rk, wt, va_up cl cc (x.toBitVec.toNat % 2 ^ 11), (cc + 1), su, ow, sc, od), (false, ke, rp, rc)) hx hb hr hlocks d_Y_clash_45 hS hP ⟨by rw [hs], okC_f⟩ (by rw [hs])
  · have hc4 : cc = 40 := (nI_eq (b := 40) (by omega) (by decide)).mp c6
    refine lv_bipush (v := (-3)) hx hb d_Y_clash_9 (by decide) ?_
    have hs : (sClash n bt rk wt cl cc su ow sc od x) = ((-3), (n, bt, rk, wt, cl, cc, su, ow, sc, od)) := by unfold sClash; rw [if_pos hc4]
    exact wE_iret ((n, bt, rk, wt, cl, cc, su, ow, sc, od), (kn, ke, rp, rc)) hx hb hr hlocks d_Y_clash_11 hS hP ⟨by rw [hs], hc⟩ (by rw [hs])
set_option maxHeartbeats 4000000 in
set_option maxRecDepth 100000 in
theorem c_Y_settle (l : Launch) (sz : Nat)  (hg : gdA (n, bt, rk, wt, cl, cc, su, ow, sc, od)) (hc : okC (n, bt, rk, wt, cl, cc, su, ow, sc, od) kn rp rc) : Met l y_Y_settle w_Y_settle (k2_rm 0 0) (wr_Pc D clX (wY h cI cZ n bt.testBit rk wt cl cc ow su sc od kn ke rp rc) [(cI, .int), (cZ, .boolean)] sz [.ref (h 0)]) (wE_Q D clX (wY h cI cZ n bt.testBit rk wt cl cc ow su sc od kn ke rp rc) (σ := stA × stD) (wYt h cI cZ) (fun _ => some (.int (sSettle n bt rk wt cl cc su ow sc od).1)) (fun u => u.1 = (sSettle n bt rk wt cl cc su ow sc od).2 ∧ ocY u) sz) 0 0 (va_A (wY h cI cZ n bt.testBit rk wt cl cc ow su sc od kn ke rp rc) sz) := by
  refine wE_met (by decide) rfl (Nat.le_of_ble_eq_true rfl) rfl ?_
  intro p e s m below meth c ls hx hb hr hml hown hts hlocks hP hK hD hS hA hl
  have hts : ∀ w ∈ tbl, w.before _ s = true := fun w h => hts w (List.mem_cons_of_mem _ h)
  have hown : s.vm.findClass RY = some m.cls := hown
  have hl : lv_has ls 1 [(0, .ref (h 0))] := hl
  obtain ⟨hn, hbt, hrk, hwt, hwp, hcc, hcl, hsc, hsa, hsu, ho⟩ := id hg
  have hbt3 : bt < 2 ^ 31 := Nat.lt_of_lt_of_le hbt (Nat.pow_le_pow_right (by decide) (by omega))
  have hlen : (reps n bt rk wt cl cc od).length ≤ 462 := rep_len hn (Nat.le_refl _) hrk hwp
  refine lv_aload_n hx hb d_Y_settle_0 rfl (lv_at hl 0 rfl) ?_
  refine va_get (D := D) (ci := 1) (v := .int (nI cc)) (C := RY) (T := TY) (N := 14) hx hb hts inY hown hK hP 0 rfl rfl 5 (by decide) (hts _ f_Y_51) (fun _ h9 => h9) rfl d_Y_settle_1 ?_
  refine lv_if_ne (tgt := 10) hx hb d_Y_settle_4 (by decide) (fun c4 => ?_) (fun c4 => ?_)
  · have hc4 : 0 < cc := Nat.pos_of_ne_zero (fun q => c4 (by rw [q]; rfl))
    refine lv_aload_n hx hb d_Y_settle_10 rfl (lv_at hl 0 rfl) ?_
    refine lv_dup hx hb d_Y_settle_11 rfl ?_
    refine va_get (D := D) (ci := 1) (v := .int (nI cc)) (C := RY) (T := TY) (N := 14) hx hb hts inY hown hK hP 0 rfl rfl 5 (by decide) (hts _ f_Y_51) (fun _ h9 => h9) rfl d_Y_settle_12 ?_
    refine lv_iconst (v := 1) hx hb d_Y_settle_15 (by decide) ?_
    refine lv_isub hx hb d_Y_settle_16 ?_
    refine rd_top (z := nI (cc - 1)) (bx_dec hc4) ?_
    refine va_put (D := D) (ci := 1) (v := .int (nI (cc - 1))) (ty := .int) (C := RY) (T := TY) (N := 14) hx hb hts inY tyY tyY_ok nmY hown hK hP hD hS 0 rfl rfl 5 (by decide) (hts _ f_Y_51) (fun _ h9 => h9) rfl (by decide +kernel) rfl rfl (Nat.le_of_ble_eq_true rfl) d_Y_settle_17 (fun H locs hP hD hS => ?_)
    have hP : va_P D clX (wY h cI cZ n bt.testBit rk wt cl (cc - 1) ow su sc od kn ke rp rc) H := hP
    have hD : va_D _ (wY h cI cZ n bt.testBit rk wt cl (cc - 1) ow su sc od kn ke rp rc) := hD
    refine lv_aload_n hx hb d_Y_settle_20 rfl (lv_at hl 0 rfl) ?_
    refine lv_iconst (v := 0) hx hb d_Y_settle_21 (by decide) ?_
    refine va_put (D := D) (ci := 1) (v := .int 0) (ty := .boolean) (C := RY) (T := TY) (N := 14) hx hb hts inY tyY tyY_ok nmY hown hK hP hD hS 0 rfl rfl 10 (by decide) (hts _ f_Y_43) (fun _ h9 => h9) rfl (by decide +kernel) rfl rfl (Nat.le_of_ble_eq_true rfl) d_Y_settle_22 (fun H locs hP hD hS => ?_)
    have hP : va_P D clX (wY h cI cZ n bt.testBit rk wt cl (cc - 1) ow su sc od false ke rp rc) H := hP
    have hD : va_D _ (wY h cI cZ n bt.testBit rk wt cl (cc - 1) ow su sc od false ke rp rc) := hD
    refine lv_aload_n hx hb d_Y_settle_25 rfl (lv_at hl 0 rfl) ?_
    refine va_get (D := D) (ci := 1) (v := .int (nI (cc - 1))) (C := RY) (T := TY) (N := 14) hx hb hts inY hown hK hP 0 rfl rfl 5 (by decide) (hts _ f_Y_51) (fun _ h9 => h9) rfl d_Y_settle_26 ?_
    have hs : (sSettle n bt rk wt cl cc su ow sc od) = ((nI (cc - 1)), (n, bt, rk, wt, cl, (cc - 1), su, ow, sc, od)) := by unfold sSettle; rw [if_neg (show ¬ cc = 0 by omega)]
    exact wE_iret ((n, bt, rk, wt, cl, (cc - 1), su, ow, sc, od), (false, ke, rp, rc)) hx hb hr hlocks d_Y_settle_29 hS hP ⟨by rw [hs], okC_f⟩ (by rw [hs])
  · have hc4 : cc = 0 := (nI_eq (b := 0) (by omega) (by decide)).mp c4
    refine lv_bipush (v := (-2)) hx hb d_Y_settle_7 (by decide) ?_
    have hs : (sSettle n bt rk wt cl cc su ow sc od) = ((-2), (n, bt, rk, wt, cl, cc, su, ow, sc, od)) := by unfold sSettle; rw [if_pos hc4]
    exact wE_iret ((n, bt, rk, wt, cl, cc, su, ow, sc, od), (kn, ke, rp, rc)) hx hb hr hlocks d_Y_settle_9 hS hP ⟨by rw [hs], hc⟩ (by rw [hs])
set_option maxHeartbeats 4000000 in
set_option maxRecDepth 100000 in
theorem c_Y_support (l : Launch) (sz : Nat) (x y : Int32) (hg : gdA (n, bt, rk, wt, cl, cc, su, ow, sc, od)) (hc : okC (n, bt, rk, wt, cl, cc, su, ow, sc, od) kn rp rc) : Met l y_Y_support w_Y_support (k2_rm 0 0) (wr_Pc D clX (wY h cI cZ n bt.testBit rk wt cl cc ow su sc od kn ke rp rc) [(cI, .int), (cZ, .boolean)] sz [.ref (h 0), .int x, .int y]) (wE_Q D clX (wY h cI cZ n bt.testBit rk wt cl cc ow su sc od kn ke rp rc) (σ := stA × stD) (wYt h cI cZ) (fun _ => some (.int (sSupport n bt rk wt cl cc su ow sc od x y).1)) (fun u => u.1 = (sSupport n bt rk wt cl cc su ow sc od x y).2 ∧ ocY u) sz) 0 0 (va_A (wY h cI cZ n bt.testBit rk wt cl cc ow su sc od kn ke rp rc) sz) := by
  refine wE_met (by decide) rfl (Nat.le_of_ble_eq_true rfl) rfl ?_
  intro p e s m below meth c ls hx hb hr hml hown hts hlocks hP hK hD hS hA hl
  have hts : ∀ w ∈ tbl, w.before _ s = true := fun w h => hts w (List.mem_cons_of_mem _ h)
  have hown : s.vm.findClass RY = some m.cls := hown
  have hl : lv_has ls 5 [(0, .ref (h 0)), (1, .int x), (2, .int y)] := hl
  obtain ⟨hn, hbt, hrk, hwt, hwp, hcc, hcl, hsc, hsa, hsu, ho⟩ := id hg
  have hbt3 : bt < 2 ^ 31 := Nat.lt_of_lt_of_le hbt (Nat.pow_le_pow_right (by decide) (by omega))
  have hlen : (reps n bt rk wt cl cc od).length ≤ 462 := rep_len hn (Nat.le_refl _) hrk hwp
  refine lv_iload_n hx hb d_Y_support_0 rfl (lv_at hl 1 rfl) ?_
  refine lv_if_lt (tgt := 10) hx hb d_Y_support_1 (by decide) (fun c1 => ?_) (fun c1 => ?_)
  · refine lv_iconst (v := (-1)) hx hb d_Y_support_10 (by decide) ?_
    have hs : (sSupport n bt rk wt cl cc su ow sc od x y) = ((-1), (n, bt, rk, wt, cl, cc, su, ow, sc, od)) := by unfold sSupport; rw [if_neg (show ¬ okA x = true by unfold okA; rw [decide_eq_true c1, Bool.not_true, Bool.false_and]; decide)]
    exact wE_iret ((n, bt, rk, wt, cl, cc, su, ow, sc, od), (kn, ke, rp, rc)) hx hb hr hlocks d_Y_support_11 hS hP ⟨by rw [hs], hc⟩ (by rw [hs])
  · refine lv_iload_n hx hb d_Y_support_4 rfl (lv_at hl 1 rfl) ?_
    refine lv_bipush (v := 8) hx hb d_Y_support_5 (by decide) ?_
    refine lv_icmp_lt (tgt := 12) hx hb d_Y_support_7 (by decide) (fun c7 => ?_) (fun c7 => ?_)
    · have hx0 := (show okA x = true by unfold okA; rw [decide_eq_false c1, decide_eq_false (Int32.not_le.mpr c7)]; rfl)
      obtain ⟨k, hk, ek⟩ := okA_of hx0
      subst ek
      refine lv_aload_n hx hb d_Y_support_12 rfl (lv_at hl 0 rfl) ?_
      refine va_get (D := D) (ci := 1) (v := .int (nI sc)) (C := RY) (T := TY) (N := 14) hx hb hts inY hown hK hP 0 rfl rfl 8 (by decide) (hts _ f_Y_54) (fun _ h9 => h9) rfl d_Y_support_13 ?_
      refine lv_bipush (v := 20) hx hb d_Y_support_16 (by decide) ?_
      refine lv_icmp_ne (tgt := 24) hx hb d_Y_support_18 (by decide) (fun c18 => ?_) (fun c18 => ?_)
      · have hc4 : sc < 20 := by have : ¬ sc = 20 := fun q => c18 (by rw [q]; rfl); omega
        refine lv_aload_n hx hb d_Y_support_24 rfl (lv_at hl 0 rfl) ?_
        refine va_get (D := D) (ci := 1) (v := .ref (h 5)) (C := RY) (T := TY) (N := 14) hx hb hts inY hown hK hP 0 rfl rfl 6 (by decide) (hts _ f_Y_23) (fun _ h9 => h9) rfl d_Y_support_25 ?_
        refine lv_aload_n hx hb d_Y_support_28 rfl (lv_at hl 0 rfl) ?_
        refine va_get (D := D) (ci := 1) (v := .int (nI sc)) (C := RY) (T := TY) (N := 14) hx hb hts inY hown hK hP 0 rfl rfl 8 (by decide) (hts _ f_Y_54) (fun _ h9 => h9) rfl d_Y_support_29 ?_
        refine lv_iload_n hx hb d_Y_support_32 rfl (lv_at hl 1 rfl) ?_
        refine va_iast hx hb hK hP hD hS 5 0 rfl rfl (vp_in_nI hc4 (by decide)) d_Y_support_33 (fun H locs hP hD hS => ?_)
        have hu : upd (fun j => nI (ow j)) (nI sc).toNatClampNeg (nI k) = fun j => nI ((va_up ow sc k) j) := by rw [nI_clamp (by omega)]; exact upd_nI ow sc k
        rw [hu] at hP hD
        have hP : va_P D clX (wY h cI cZ n bt.testBit rk wt cl cc (va_up ow sc k) su sc od kn ke rp rc) H := hP
        have hD : va_D _ (wY h cI cZ n bt.testBit rk wt cl cc (va_up ow sc k) su sc od kn ke rp rc) := hD
        refine lv_aload_n hx hb d_Y_support_34 rfl (lv_at hl 0 rfl) ?_
        refine va_get (D := D) (ci := 1) (v := .ref (h 6)) (C := RY) (T := TY) (N := 14) hx hb hts inY hown hK hP 0 rfl rfl 7 (by decide) (hts _ f_Y_26) (fun _ h9 => h9) rfl d_Y_support_35 ?_
        refine lv_aload_n hx hb d_Y_support_38 rfl (lv_at hl 0 rfl) ?_
        refine va_get (D := D) (ci := 1) (v := .int (nI sc)) (C := RY) (T := TY) (N := 14) hx hb hts inY hown hK hP 0 rfl rfl 8 (by decide) (hts _ f_Y_54) (fun _ h9 => h9) rfl d_Y_support_39 ?_
        refine lv_iload_n hx hb d_Y_support_42 rfl (lv_at hl 2 rfl) ?_
        refine lv_sipush (v := 2047) hx hb d_Y_support_43 (by decide) ?_
        refine lv_iand hx hb d_Y_support_46 ?_
        refine rd_top (z := nI (y.toBitVec.toNat % 2 ^ 11)) (msk y) ?_
        refine va_iast hx hb hK hP hD hS 6 0 rfl rfl (vp_in_nI hc4 (by decide)) d_Y_support_47 (fun H locs hP hD hS => ?_)
        have hu : upd (fun j => nI (su j)) (nI sc).toNatClampNeg (nI (y.toBitVec.toNat % 2 ^ 11)) = fun j => nI ((va_up su sc (y.toBitVec.toNat % 2 ^ 11)) j) := by rw [nI_clamp (by omega)]; exact upd_nI su sc _
        rw [hu] at hP hD
        have hP : va_P D clX (wY h cI cZ n bt.testBit rk wt cl cc (va_up ow sc k) (va_up su sc (y.toBitVec.toNat % 2 ^ 11)) sc od kn ke rp rc) H := hP
        have hD : va_D _ (wY h cI cZ n bt.testBit rk wt cl cc (va_up ow sc k) (va_up su sc (y.toBitVec.toNat % 2 ^ 11)) sc od kn ke rp rc) := hD
        refine lv_aload_n hx hb d_Y_support_48 rfl (lv_at hl 0 rfl) ?_
        refine lv_dup hx hb d_Y_support_49 rfl ?_
        refine va_get (D := D) (ci := 1) (v := .int (nI sc)) (C := RY) (T := TY) (N := 14) hx hb hts inY hown hK hP 0 rfl rfl 8 (by decide) (hts _ f_Y_54) (fun _ h9 => h9) rfl d_Y_support_50 ?_
        refine lv_iconst (v := 1) hx hb d_Y_support_53 (by decide) ?_
        refine lv_iadd hx hb d_Y_support_54 ?_
        refine rd_top (z := nI (sc + 1)) (nI_1 sc) ?_
        refine va_put (D := D) (ci := 1) (v := .int (nI (sc + 1))) (ty := .int) (C := RY) (T := TY) (N := 14) hx hb hts inY tyY tyY_ok nmY hown hK hP hD hS 0 rfl rfl 8 (by decide) (hts _ f_Y_54) (fun _ h9 => h9) rfl (by decide +kernel) rfl rfl (Nat.le_of_ble_eq_true rfl) d_Y_support_55 (fun H locs hP hD hS => ?_)
        have hP : va_P D clX (wY h cI cZ n bt.testBit rk wt cl cc (va_up ow sc k) (va_up su sc (y.toBitVec.toNat % 2 ^ 11)) (sc + 1) od kn ke rp rc) H := hP
        have hD : va_D _ (wY h cI cZ n bt.testBit rk wt cl cc (va_up ow sc k) (va_up su sc (y.toBitVec.toNat % 2 ^ 11)) (sc + 1) od kn ke rp rc) := hD
        refine lv_iconst (v := 0) hx hb d_Y_support_58 (by decide) ?_
        refine lv_istore_n (lv' := [(3, .int 0), (0, .ref (h 0)), (1, .int (nI k)), (2, .int y)]) hx hb d_Y_support_59 rfl hl (by decide) rfl (fun ls hl => ?_)
        refine lv_iconst (v := 0) hx hb d_Y_support_60 (by decide) ?_
        refine lv_istore (lv' := [(4, .int 0), (3, .int 0), (0, .ref (h 0)), (1, .int (nI k)), (2, .int y)]) hx hb d_Y_support_61 hl (by decide) rfl (fun ls hl => ?_)
        refine wr_loop (nL := 5) (σ := Nat) (sc + 1) (fun i x => [(0, .ref (h 0)), (1, .int (nI k)), (2, .int y), (3, .int (nI x)), (4, .int (nI i))]) (fun i x => wY h cI cZ n bt.testBit rk wt cl cc (va_up ow sc k) (va_up su sc (y.toBitVec.toNat % 2 ^ 11)) (sc + 1) od kn ke rp rc) (fun i x => x = cntB (fun j => decide (va_up ow sc k j = k)) i) ?_ 0 0 ls _ _ (Nat.zero_le _) (rfl) (lv_sub hl [2, 3, 4, 1, 0] rfl) hP hD hS
        intro i x ls H locs hi hI hl hP hD hS ih
        have hI : x = cntB (fun j => decide (va_up ow sc k j = k)) i := hI
        have hl : lv_has ls 5 [(0, .ref (h 0)), (1, .int (nI k)), (2, .int y), (3, .int (nI x)), (4, .int (nI i))] := hl
        have hP : va_P D clX (wY h cI cZ n bt.testBit rk wt cl cc (va_up ow sc k) (va_up su sc (y.toBitVec.toNat % 2 ^ 11)) (sc + 1) od kn ke rp rc) H := hP
        have hD : va_D _ (wY h cI cZ n bt.testBit rk wt cl cc (va_up ow sc k) (va_up su sc (y.toBitVec.toNat % 2 ^ 11)) (sc + 1) od kn ke rp rc) := hD
        refine lv_iload hx hb d_Y_support_63 (lv_at hl 4 rfl) ?_
        refine lv_aload_n hx hb d_Y_support_65 rfl (lv_at hl 0 rfl) ?_
        refine va_get (D := D) (ci := 1) (v := .int (nI (sc + 1))) (C := RY) (T := TY) (N := 14) hx hb hts inY hown hK hP 0 rfl rfl 8 (by decide) (hts _ f_Y_54) (fun _ h9 => h9) rfl d_Y_support_66 ?_
        refine lv_icmp_ge (tgt := 97) hx hb d_Y_support_69 (by decide) (fun c69 => ?_) (fun c69 => ?_)
        · have hN : i = sc + 1 := lp_ge hi (by omega) c69
          refine lv_iload_n hx hb d_Y_support_97 rfl (lv_at hl 3 rfl) ?_
          have hs : (sSupport n bt rk wt cl cc su ow sc od (nI k) y) = ((nI x), (n, bt, rk, wt, cl, cc, va_up su sc (y.toBitVec.toNat % 2 ^ 11), va_up ow sc k, sc + 1, od)) := by unfold sSupport; rw [if_pos hx0, if_neg (show ¬ sc = 20 by omega), nI_clamp (show k < 2 ^ 31 by omega), hI, hN]
          exact wE_iret ((n, bt, rk, wt, cl, cc, va_up su sc (y.toBitVec.toNat % 2 ^ 11), va_up ow sc k, sc + 1, od), (kn, ke, rp, rc)) hx hb hr hlocks d_Y_support_98 hS hP ⟨by rw [hs], hc⟩ (by rw [hs])
        · have hlt : i < sc + 1 := lp_lt hi (by omega) c69
          refine lv_iload_n hx hb d_Y_support_72 rfl (lv_at hl 3 rfl) ?_
          refine lv_aload_n hx hb d_Y_support_73 rfl (lv_at hl 0 rfl) ?_
          refine va_get (D := D) (ci := 1) (v := .ref (h 5)) (C := RY) (T := TY) (N := 14) hx hb hts inY hown hK hP 0 rfl rfl 6 (by decide) (hts _ f_Y_23) (fun _ h9 => h9) rfl d_Y_support_74 ?_
          refine lv_iload hx hb d_Y_support_77 (lv_at hl 4 rfl) ?_
          refine va_iald hx hb hK hP 5 0 rfl rfl (vp_in_nI (show i < 20 by omega) (by decide)) d_Y_support_79 ?_
          refine rd_top (z := nI (va_up ow sc k i)) (ar_nI (va_up ow sc k) (by omega)) ?_
          refine lv_iload_n hx hb d_Y_support_80 rfl (lv_at hl 1 rfl) ?_
          refine lv_icmp_ne (tgt := 88) hx hb d_Y_support_81 (by decide) (fun c81 => ?_) (fun c81 => ?_)
          · refine lv_iconst (v := 0) hx hb d_Y_support_88 (by decide) ?_
            refine lv_iadd hx hb d_Y_support_89 ?_
            refine rd_top (z := nI x) (Int32.add_zero _) ?_
            refine lv_istore_n (lv' := [(3, .int (nI x)), (0, .ref (h 0)), (1, .int (nI k)), (2, .int y), (4, .int (nI i))]) hx hb d_Y_support_90 rfl hl (by decide) rfl (fun ls hl => ?_)
            refine lv_iinc (v := (nI (i + 1))) (lv' := [(4, .int (nI (i + 1))), (3, .int (nI x)), (0, .ref (h 0)), (1, .int (nI k)), (2, .int y)]) hx hb d_Y_support_91 hl (k := 4) rfl (nI_1 i) (by decide) rfl (fun ls hl => ?_)
            refine lv_goto (tgt := 63) hx hb d_Y_support_94 (by decide) ?_
            exact ih hlt x ls _ _ (cnt_f hI (decide_eq_false (fun q => c81 (congrArg nI q)))) (lv_sub hl [2, 3, 4, 1, 0] rfl) hP hD hS
          · refine lv_iconst (v := 1) hx hb d_Y_support_84 (by decide) ?_
            refine lv_goto (tgt := 89) hx hb d_Y_support_85 (by decide) ?_
            refine lv_iadd hx hb d_Y_support_89 ?_
            refine rd_top (z := nI (x + 1)) (nI_1 x) ?_
            refine lv_istore_n (lv' := [(3, .int (nI (x + 1))), (0, .ref (h 0)), (1, .int (nI k)), (2, .int y), (4, .int (nI i))]) hx hb d_Y_support_90 rfl hl (by decide) rfl (fun ls hl => ?_)
            refine lv_iinc (v := (nI (i + 1))) (lv' := [(4, .int (nI (i + 1))), (3, .int (nI (x + 1))), (0, .ref (h 0)), (1, .int (nI k)), (2, .int y)]) hx hb d_Y_support_91 hl (k := 4) rfl (nI_1 i) (by decide) rfl (fun ls hl => ?_)
            refine lv_goto (tgt := 63) hx hb d_Y_support_94 (by decide) ?_
            exact ih hlt (x + 1) ls _ _ (cnt_t hI (decide_eq_true ((nI_eq (by have := va_up_lt (k := sc) hsa hk i; omega) (by omega)).mp c81))) (lv_sub hl [2, 3, 4, 1, 0] rfl) hP hD hS
      · have hc4 : sc = 20 := (nI_eq (b := 20) (by omega) (by decide)).mp c18
        refine lv_bipush (v := (-3)) hx hb d_Y_support_21 (by decide) ?_
        have hs : (sSupport n bt rk wt cl cc su ow sc od (nI k) y) = ((-3), (n, bt, rk, wt, cl, cc, su, ow, sc, od)) := by unfold sSupport; rw [if_pos hx0, if_pos hc4]
        exact wE_iret ((n, bt, rk, wt, cl, cc, su, ow, sc, od), (kn, ke, rp, rc)) hx hb hr hlocks d_Y_support_23 hS hP ⟨by rw [hs], hc⟩ (by rw [hs])
    · refine lv_iconst (v := (-1)) hx hb d_Y_support_10 (by decide) ?_
      have hs : (sSupport n bt rk wt cl cc su ow sc od x y) = ((-1), (n, bt, rk, wt, cl, cc, su, ow, sc, od)) := by unfold sSupport; rw [if_neg (show ¬ okA x = true by unfold okA; rw [decide_eq_true (Int32.not_lt.mp c7), Bool.not_true, Bool.and_false]; decide)]
      exact wE_iret ((n, bt, rk, wt, cl, cc, su, ow, sc, od), (kn, ke, rp, rc)) hx hb hr hlocks d_Y_support_11 hS hP ⟨by rw [hs], hc⟩ (by rw [hs])
set_option maxHeartbeats 4000000 in
set_option maxRecDepth 100000 in
theorem c_Y_order (l : Launch) (sz : Nat) (x : Int32) (hg : gdA (n, bt, rk, wt, cl, cc, su, ow, sc, od)) (hc : okC (n, bt, rk, wt, cl, cc, su, ow, sc, od) kn rp rc) : Met l y_Y_order w_Y_order (k2_rm 0 0) (wr_Pc D clX (wY h cI cZ n bt.testBit rk wt cl cc ow su sc od kn ke rp rc) [(cI, .int), (cZ, .boolean)] sz [.ref (h 0), .int x]) (wE_Q D clX (wY h cI cZ n bt.testBit rk wt cl cc ow su sc od kn ke rp rc) (σ := stA × stD) (wYt h cI cZ) (fun _ => some (.int (sOrder n bt rk wt cl cc su ow sc od x).1)) (fun u => u.1 = (sOrder n bt rk wt cl cc su ow sc od x).2 ∧ ocY u) sz) 0 0 (va_A (wY h cI cZ n bt.testBit rk wt cl cc ow su sc od kn ke rp rc) sz) := by
  refine wE_met (by decide) rfl (Nat.le_of_ble_eq_true rfl) rfl ?_
  intro p e s m below meth c ls hx hb hr hml hown hts hlocks hP hK hD hS hA hl
  have hts : ∀ w ∈ tbl, w.before _ s = true := fun w h => hts w (List.mem_cons_of_mem _ h)
  have hown : s.vm.findClass RY = some m.cls := hown
  have hl : lv_has ls 2 [(0, .ref (h 0)), (1, .int x)] := hl
  obtain ⟨hn, hbt, hrk, hwt, hwp, hcc, hcl, hsc, hsa, hsu, ho⟩ := id hg
  have hbt3 : bt < 2 ^ 31 := Nat.lt_of_lt_of_le hbt (Nat.pow_le_pow_right (by decide) (by omega))
  have hlen : (reps n bt rk wt cl cc od).length ≤ 462 := rep_len hn (Nat.le_refl _) hrk hwp
  refine lv_iload_n hx hb d_Y_order_0 rfl (lv_at hl 1 rfl) ?_
  refine lv_if_lt (tgt := 9) hx hb d_Y_order_1 (by decide) (fun c1 => ?_) (fun c1 => ?_)
  · refine lv_iconst (v := (-1)) hx hb d_Y_order_9 (by decide) ?_
    have hs : (sOrder n bt rk wt cl cc su ow sc od x) = ((-1), (n, bt, rk, wt, cl, cc, su, ow, sc, od)) := by unfold sOrder; rw [if_neg (show ¬ okO x = true by unfold okO; rw [decide_eq_true c1, Bool.not_true, Bool.false_and]; decide)]
    exact wE_iret ((n, bt, rk, wt, cl, cc, su, ow, sc, od), (kn, ke, rp, rc)) hx hb hr hlocks d_Y_order_10 hS hP ⟨by rw [hs], hc⟩ (by rw [hs])
  · refine lv_iload_n hx hb d_Y_order_4 rfl (lv_at hl 1 rfl) ?_
    refine lv_iconst (v := 3) hx hb d_Y_order_5 (by decide) ?_
    refine lv_icmp_le (tgt := 11) hx hb d_Y_order_6 (by decide) (fun c6 => ?_) (fun c6 => ?_)
    · have hx0 := (show okO x = true by unfold okO; rw [decide_eq_false c1, decide_eq_false (Int32.not_lt.mpr c6)]; rfl)
      obtain ⟨k, hk, ek⟩ := okO_of hx0
      subst ek
      refine lv_aload_n hx hb d_Y_order_11 rfl (lv_at hl 0 rfl) ?_
      refine lv_iload_n hx hb d_Y_order_12 rfl (lv_at hl 1 rfl) ?_
      refine va_put (D := D) (ci := 1) (v := .int (nI k)) (ty := .int) (C := RY) (T := TY) (N := 14) hx hb hts inY tyY tyY_ok nmY hown hK hP hD hS 0 rfl rfl 9 (by decide) (hts _ f_Y_57) (fun _ h9 => h9) rfl (by decide +kernel) rfl rfl (Nat.le_of_ble_eq_true rfl) d_Y_order_13 (fun H locs hP hD hS => ?_)
      have hP : va_P D clX (wY h cI cZ n bt.testBit rk wt cl cc ow su sc k kn ke rp rc) H := hP
      have hD : va_D _ (wY h cI cZ n bt.testBit rk wt cl cc ow su sc k kn ke rp rc) := hD
      refine lv_aload_n hx hb d_Y_order_16 rfl (lv_at hl 0 rfl) ?_
      refine lv_iconst (v := 0) hx hb d_Y_order_17 (by decide) ?_
      refine va_put (D := D) (ci := 1) (v := .int 0) (ty := .boolean) (C := RY) (T := TY) (N := 14) hx hb hts inY tyY tyY_ok nmY hown hK hP hD hS 0 rfl rfl 10 (by decide) (hts _ f_Y_43) (fun _ h9 => h9) rfl (by decide +kernel) rfl rfl (Nat.le_of_ble_eq_true rfl) d_Y_order_18 (fun H locs hP hD hS => ?_)
      have hP : va_P D clX (wY h cI cZ n bt.testBit rk wt cl cc ow su sc k false ke rp rc) H := hP
      have hD : va_D _ (wY h cI cZ n bt.testBit rk wt cl cc ow su sc k false ke rp rc) := hD
      refine lv_iconst (v := 1) hx hb d_Y_order_21 (by decide) ?_
      have hs : (sOrder n bt rk wt cl cc su ow sc od (nI k)) = (1, (n, bt, rk, wt, cl, cc, su, ow, sc, k)) := by unfold sOrder; rw [if_pos hx0, nI_clamp (show k < 2 ^ 31 by omega)]
      exact wE_iret ((n, bt, rk, wt, cl, cc, su, ow, sc, k), (false, ke, rp, rc)) hx hb hr hlocks d_Y_order_22 hS hP ⟨by rw [hs], okC_f⟩ (by rw [hs])
    · refine lv_iconst (v := (-1)) hx hb d_Y_order_9 (by decide) ?_
      have hs : (sOrder n bt rk wt cl cc su ow sc od x) = ((-1), (n, bt, rk, wt, cl, cc, su, ow, sc, od)) := by unfold sOrder; rw [if_neg (show ¬ okO x = true by unfold okO; rw [decide_eq_true (Int32.not_le.mp c6), Bool.not_true, Bool.and_false]; decide)]
      exact wE_iret ((n, bt, rk, wt, cl, cc, su, ow, sc, od), (kn, ke, rp, rc)) hx hb hr hlocks d_Y_order_10 hS hP ⟨by rw [hs], hc⟩ (by rw [hs])
end MY4
end
section
section MY5
variable {D : va_G} {h : Nat → Nat} {cI cZ : ClassId} {n bt : Nat} {rk wt cl : Nat → Nat} {cc : Nat} {ow su : Nat → Nat} {sc od : Nat} {kn : Bool} {ke : Nat → Bool} {rp : Nat → Nat} {rc : Nat}
set_option maxHeartbeats 4000000 in
set_option maxRecDepth 100000 in
theorem c_Y_find (l : Launch) (sz : Nat)  (hg : gdA (n, bt, rk, wt, cl, cc, su, ow, sc, od)) (hc : okC (n, bt, rk, wt, cl, cc, su, ow, sc, od) kn rp rc) : Met l y_Y_find w_Y_find (k2_rm 4 96) (wr_Pc D clX (wY h cI cZ n bt.testBit rk wt cl cc ow su sc od kn ke rp rc) [(cI, .int), (cZ, .boolean)] sz [.ref (h 0)]) (wE_Q D clX (wY h cI cZ n bt.testBit rk wt cl cc ow su sc od kn ke rp rc) (σ := stA × stD) (wYt h cI cZ) (fun _ => some (.int (nI (reps n bt rk wt cl cc od).length))) (fun u => u.1 = (n, bt, rk, wt, cl, cc, su, ow, sc, od) ∧ ocY u) sz) 0 0 (va_A (wY h cI cZ n bt.testBit rk wt cl cc ow su sc od kn ke rp rc) sz) := by
  refine wE_met (by decide) rfl (Nat.le_of_ble_eq_true rfl) rfl ?_
  intro p e s m below meth c ls hx hb hr hml hown hts hlocks hP hK hD hS hA hl
  have hts : ∀ w ∈ tbl, w.before _ s = true := fun w h => hts w (List.mem_cons_of_mem _ h)
  have hown : s.vm.findClass RY = some m.cls := hown
  have hl : lv_has ls 1 [(0, .ref (h 0))] := hl
  obtain ⟨hn, hbt, hrk, hwt, hwp, hcc, hcl, hsc, hsa, hsu, ho⟩ := id hg
  have hlen : (reps n bt rk wt cl cc od).length ≤ 462 := rep_len hn (Nat.le_refl _) hrk hwp
  refine lv_aload_n hx hb d_Y_find_0 rfl (lv_at hl 0 rfl) ?_
  refine wE_V (As := []) (rest := []) ⟨hx, hb, hml, hown, hts⟩ (c_Y_work l _ hg hc) (cwV 0 hts g_Y_77 rfl rfl rfl (by decide +kernel) ⟨Nat.le_of_ble_eq_true rfl, Nat.le_of_ble_eq_true rfl⟩) hK hP hD hS hA 0 rfl rfl rfl hl.1 rfl (Nat.le_of_ble_eq_true rfl) d_Y_find_1 ⟨Nat.zero_le _, Nat.zero_le _⟩ (fun _ => rfl) (fun v H locs hv hP hD hS => ?_)
  obtain ⟨g1, rp1⟩ := v
  have hv : isArr rp1 (reps n bt rk wt cl cc od) := hv
  have hv2 : ∀ i, i < (reps n bt rk wt cl cc od).length → rp1 i = (reps n bt rk wt cl cc od).getD i 0 := hv
  have hP : va_P D clX (wY h cI cZ n bt.testBit rk wt cl cc ow su sc od true g1 rp1 ((reps n bt rk wt cl cc od).length)) H := hP
  have hD : va_D _ (wY h cI cZ n bt.testBit rk wt cl cc ow su sc od true g1 rp1 ((reps n bt rk wt cl cc od).length)) := hD
  refine lv_aload_n hx hb d_Y_find_4 rfl (lv_at hl 0 rfl) ?_
  refine va_get (D := D) (ci := 1) (v := .int (nI ((reps n bt rk wt cl cc od).length))) (C := RY) (T := TY) (N := 14) hx hb hts inY hown hK hP 0 rfl rfl 13 (by decide) (hts _ f_Y_74) (fun _ h9 => h9) rfl d_Y_find_5 ?_
  have hs : (nI (reps n bt rk wt cl cc od).length) = (nI ((reps n bt rk wt cl cc od).length)) := by rfl
  exact wE_iret ((n, bt, rk, wt, cl, cc, su, ow, sc, od), (true, g1, rp1, (reps n bt rk wt cl cc od).length)) hx hb hr hlocks d_Y_find_8 hS hP ⟨rfl, (fun _ => ⟨hv, rfl⟩)⟩ (by rw [hs])
set_option maxHeartbeats 4000000 in
set_option maxRecDepth 100000 in
theorem c_Y_kept (l : Launch) (sz : Nat) (x : Int32) (hg : gdA (n, bt, rk, wt, cl, cc, su, ow, sc, od)) (hc : okC (n, bt, rk, wt, cl, cc, su, ow, sc, od) kn rp rc) : Met l y_Y_kept w_Y_kept (k2_rm 4 96) (wr_Pc D clX (wY h cI cZ n bt.testBit rk wt cl cc ow su sc od kn ke rp rc) [(cI, .int), (cZ, .boolean)] sz [.ref (h 0), .int x]) (wE_Q D clX (wY h cI cZ n bt.testBit rk wt cl cc ow su sc od kn ke rp rc) (σ := stA × stD) (wYt h cI cZ) (fun _ => some (.int (rKept (reps n bt rk wt cl cc od) x))) (fun u => u.1 = (n, bt, rk, wt, cl, cc, su, ow, sc, od) ∧ ocY u) sz) 0 0 (va_A (wY h cI cZ n bt.testBit rk wt cl cc ow su sc od kn ke rp rc) sz) := by
  refine wE_met (by decide) rfl (Nat.le_of_ble_eq_true rfl) rfl ?_
  intro p e s m below meth c ls hx hb hr hml hown hts hlocks hP hK hD hS hA hl
  have hts : ∀ w ∈ tbl, w.before _ s = true := fun w h => hts w (List.mem_cons_of_mem _ h)
  have hown : s.vm.findClass RY = some m.cls := hown
  have hl : lv_has ls 2 [(0, .ref (h 0)), (1, .int x)] := hl
  obtain ⟨hn, hbt, hrk, hwt, hwp, hcc, hcl, hsc, hsa, hsu, ho⟩ := id hg
  have hlen : (reps n bt rk wt cl cc od).length ≤ 462 := rep_len hn (Nat.le_refl _) hrk hwp
  refine lv_aload_n hx hb d_Y_kept_0 rfl (lv_at hl 0 rfl) ?_
  refine wE_V (As := []) (rest := []) ⟨hx, hb, hml, hown, hts⟩ (c_Y_work l _ hg hc) (cwV 0 hts g_Y_77 rfl rfl rfl (by decide +kernel) ⟨Nat.le_of_ble_eq_true rfl, Nat.le_of_ble_eq_true rfl⟩) hK hP hD hS hA 0 rfl rfl rfl hl.1 rfl (Nat.le_of_ble_eq_true rfl) d_Y_kept_1 ⟨Nat.zero_le _, Nat.zero_le _⟩ (fun _ => rfl) (fun v H locs hv hP hD hS => ?_)
  obtain ⟨g1, rp1⟩ := v
  have hv : isArr rp1 (reps n bt rk wt cl cc od) := hv
  have hv2 : ∀ i, i < (reps n bt rk wt cl cc od).length → rp1 i = (reps n bt rk wt cl cc od).getD i 0 := hv
  have hP : va_P D clX (wY h cI cZ n bt.testBit rk wt cl cc ow su sc od true g1 rp1 ((reps n bt rk wt cl cc od).length)) H := hP
  have hD : va_D _ (wY h cI cZ n bt.testBit rk wt cl cc ow su sc od true g1 rp1 ((reps n bt rk wt cl cc od).length)) := hD
  refine lv_iload_n hx hb d_Y_kept_4 rfl (lv_at hl 1 rfl) ?_
  refine lv_if_lt (tgt := 25) hx hb d_Y_kept_5 (by decide) (fun c5 => ?_) (fun c5 => ?_)
  · refine lv_bipush (v := (-2)) hx hb d_Y_kept_25 (by decide) ?_
    have hs : (rKept (reps n bt rk wt cl cc od) x) = (-2) := by unfold rKept; rw [if_neg (show ¬ okS (reps n bt rk wt cl cc od).length x = true by unfold okS; rw [decide_eq_true c5, Bool.not_true, Bool.false_and]; decide)]
    exact wE_iret ((n, bt, rk, wt, cl, cc, su, ow, sc, od), (true, g1, rp1, (reps n bt rk wt cl cc od).length)) hx hb hr hlocks d_Y_kept_27 hS hP ⟨rfl, (fun _ => ⟨hv, rfl⟩)⟩ (by rw [hs])
  · refine lv_iload_n hx hb d_Y_kept_8 rfl (lv_at hl 1 rfl) ?_
    refine lv_aload_n hx hb d_Y_kept_9 rfl (lv_at hl 0 rfl) ?_
    refine va_get (D := D) (ci := 1) (v := .int (nI ((reps n bt rk wt cl cc od).length))) (C := RY) (T := TY) (N := 14) hx hb hts inY hown hK hP 0 rfl rfl 13 (by decide) (hts _ f_Y_74) (fun _ h9 => h9) rfl d_Y_kept_10 ?_
    refine lv_icmp_ge (tgt := 25) hx hb d_Y_kept_13 (by decide) (fun c13 => ?_) (fun c13 => ?_)
    · refine lv_bipush (v := (-2)) hx hb d_Y_kept_25 (by decide) ?_
      have hs : (rKept (reps n bt rk wt cl cc od) x) = (-2) := by unfold rKept; rw [if_neg (show ¬ okS (reps n bt rk wt cl cc od).length x = true by unfold okS; rw [decide_eq_true c13, Bool.not_true, Bool.and_false]; decide)]
      exact wE_iret ((n, bt, rk, wt, cl, cc, su, ow, sc, od), (true, g1, rp1, (reps n bt rk wt cl cc od).length)) hx hb hr hlocks d_Y_kept_27 hS hP ⟨rfl, (fun _ => ⟨hv, rfl⟩)⟩ (by rw [hs])
    · have hx0 := (show okS (reps n bt rk wt cl cc od).length x = true by unfold okS; rw [decide_eq_false c5, decide_eq_false c13]; rfl)
      obtain ⟨k, hk, ek⟩ := okS_of (by omega) hx0
      subst ek
      refine lv_aload_n hx hb d_Y_kept_16 rfl (lv_at hl 0 rfl) ?_
      refine va_get (D := D) (ci := 1) (v := .ref (h 8)) (C := RY) (T := TY) (N := 14) hx hb hts inY hown hK hP 0 rfl rfl 12 (by decide) (hts _ f_Y_32) (fun _ h9 => h9) rfl d_Y_kept_17 ?_
      refine lv_iload_n hx hb d_Y_kept_20 rfl (lv_at hl 1 rfl) ?_
      refine va_iald hx hb hK hP 8 0 rfl rfl (vp_in_nI (show k < 2048 by omega) (by decide)) d_Y_kept_21 ?_
      refine rd_top (z := nI (rp1 k)) (ar_nI rp1 (by omega)) ?_
      refine lv_goto (tgt := 27) hx hb d_Y_kept_22 (by decide) ?_
      have hs : (rKept (reps n bt rk wt cl cc od) (nI k)) = (nI (rp1 k)) := by unfold rKept; rw [if_pos hx0, nI_clamp (by omega), hv2 k hk]
      exact wE_iret ((n, bt, rk, wt, cl, cc, su, ow, sc, od), (true, g1, rp1, (reps n bt rk wt cl cc od).length)) hx hb hr hlocks d_Y_kept_27 hS hP ⟨rfl, (fun _ => ⟨hv, rfl⟩)⟩ (by rw [hs])
set_option maxHeartbeats 4000000 in
set_option maxRecDepth 100000 in
theorem c_Y_left (l : Launch) (sz : Nat) (x y : Int32) (hg : gdA (n, bt, rk, wt, cl, cc, su, ow, sc, od)) (hc : okC (n, bt, rk, wt, cl, cc, su, ow, sc, od) kn rp rc) : Met l y_Y_left w_Y_left (k2_rm 4 96) (wr_Pc D clX (wY h cI cZ n bt.testBit rk wt cl cc ow su sc od kn ke rp rc) [(cI, .int), (cZ, .boolean)] sz [.ref (h 0), .int x, .int y]) (wE_Q D clX (wY h cI cZ n bt.testBit rk wt cl cc ow su sc od kn ke rp rc) (σ := stA × stD) (wYt h cI cZ) (fun _ => some (.int (rLeft n (reps n bt rk wt cl cc od) x y))) (fun u => u.1 = (n, bt, rk, wt, cl, cc, su, ow, sc, od) ∧ ocY u) sz) 0 0 (va_A (wY h cI cZ n bt.testBit rk wt cl cc ow su sc od kn ke rp rc) sz) := by
  refine wE_met (by decide) rfl (Nat.le_of_ble_eq_true rfl) rfl ?_
  intro p e s m below meth c ls hx hb hr hml hown hts hlocks hP hK hD hS hA hl
  have hts : ∀ w ∈ tbl, w.before _ s = true := fun w h => hts w (List.mem_cons_of_mem _ h)
  have hown : s.vm.findClass RY = some m.cls := hown
  have hl : lv_has ls 5 [(0, .ref (h 0)), (1, .int x), (2, .int y)] := hl
  obtain ⟨hn, hbt, hrk, hwt, hwp, hcc, hcl, hsc, hsa, hsu, ho⟩ := id hg
  have hlen : (reps n bt rk wt cl cc od).length ≤ 462 := rep_len hn (Nat.le_refl _) hrk hwp
  refine lv_aload_n hx hb d_Y_left_0 rfl (lv_at hl 0 rfl) ?_
  refine wE_V (As := []) (rest := []) ⟨hx, hb, hml, hown, hts⟩ (c_Y_work l _ hg hc) (cwV 0 hts g_Y_77 rfl rfl rfl (by decide +kernel) ⟨Nat.le_of_ble_eq_true rfl, Nat.le_of_ble_eq_true rfl⟩) hK hP hD hS hA 0 rfl rfl rfl hl.1 rfl (Nat.le_of_ble_eq_true rfl) d_Y_left_1 ⟨Nat.zero_le _, Nat.zero_le _⟩ (fun _ => rfl) (fun v H locs hv hP hD hS => ?_)
  obtain ⟨g1, rp1⟩ := v
  have hv : isArr rp1 (reps n bt rk wt cl cc od) := hv
  have hv2 : ∀ i, i < (reps n bt rk wt cl cc od).length → rp1 i = (reps n bt rk wt cl cc od).getD i 0 := hv
  have hP : va_P D clX (wY h cI cZ n bt.testBit rk wt cl cc ow su sc od true g1 rp1 ((reps n bt rk wt cl cc od).length)) H := hP
  have hD : va_D _ (wY h cI cZ n bt.testBit rk wt cl cc ow su sc od true g1 rp1 ((reps n bt rk wt cl cc od).length)) := hD
  refine lv_iload_n hx hb d_Y_left_4 rfl (lv_at hl 1 rfl) ?_
  refine lv_if_lt (tgt := 20) hx hb d_Y_left_5 (by decide) (fun c5 => ?_) (fun c5 => ?_)
  · refine lv_bipush (v := (-2)) hx hb d_Y_left_20 (by decide) ?_
    have hs : (rLeft n (reps n bt rk wt cl cc od) x y) = (-2) := by unfold rLeft; rw [if_neg (fun q => (show ¬ okS (reps n bt rk wt cl cc od).length x = true by unfold okS; rw [decide_eq_true c5, Bool.not_true, Bool.false_and]; decide) q.1)]
    exact wE_iret ((n, bt, rk, wt, cl, cc, su, ow, sc, od), (true, g1, rp1, (reps n bt rk wt cl cc od).length)) hx hb hr hlocks d_Y_left_22 hS hP ⟨rfl, (fun _ => ⟨hv, rfl⟩)⟩ (by rw [hs])
  · refine lv_iload_n hx hb d_Y_left_8 rfl (lv_at hl 1 rfl) ?_
    refine lv_aload_n hx hb d_Y_left_9 rfl (lv_at hl 0 rfl) ?_
    refine va_get (D := D) (ci := 1) (v := .int (nI ((reps n bt rk wt cl cc od).length))) (C := RY) (T := TY) (N := 14) hx hb hts inY hown hK hP 0 rfl rfl 13 (by decide) (hts _ f_Y_74) (fun _ h9 => h9) rfl d_Y_left_10 ?_
    refine lv_icmp_ge (tgt := 20) hx hb d_Y_left_13 (by decide) (fun c13 => ?_) (fun c13 => ?_)
    · refine lv_bipush (v := (-2)) hx hb d_Y_left_20 (by decide) ?_
      have hs : (rLeft n (reps n bt rk wt cl cc od) x y) = (-2) := by unfold rLeft; rw [if_neg (fun q => (show ¬ okS (reps n bt rk wt cl cc od).length x = true by unfold okS; rw [decide_eq_true c13, Bool.not_true, Bool.and_false]; decide) q.1)]
      exact wE_iret ((n, bt, rk, wt, cl, cc, su, ow, sc, od), (true, g1, rp1, (reps n bt rk wt cl cc od).length)) hx hb hr hlocks d_Y_left_22 hS hP ⟨rfl, (fun _ => ⟨hv, rfl⟩)⟩ (by rw [hs])
    · refine lv_iload_n hx hb d_Y_left_16 rfl (lv_at hl 2 rfl) ?_
      refine lv_if_ge (tgt := 23) hx hb d_Y_left_17 (by decide) (fun c17 => ?_) (fun c17 => ?_)
      · have hx0 := (show okS (reps n bt rk wt cl cc od).length x = true by unfold okS; rw [decide_eq_false c5, decide_eq_false c13]; rfl)
        obtain ⟨k, hk, ek⟩ := okS_of (by omega) hx0
        subst ek
        obtain ⟨b, hb9, eb⟩ := nI_of (fun q => absurd c17 (Int32.not_le.mpr q))
        subst eb
        have hrp1 : rp1 k < 2 ^ 31 := by rw [hv2 k hk]; exact Nat.lt_trans (rep_lt hn hk) (by decide)
        have hlf : rLeft n (reps n bt rk wt cl cc od) (nI k) (nI b) = oI (nthF (fun j => !((reps n bt rk wt cl cc od).getD k 0).testBit j) n 0 b) := by unfold rLeft; rw [if_pos ⟨hx0, nI_pos hb9⟩, nI_clamp (show k < 2 ^ 31 by omega), nI_clamp hb9]
        refine lv_iload_n hx hb d_Y_left_23 rfl (lv_at hl 2 rfl) ?_
        refine rd_top (z := nI b) (rfl) ?_
        refine lv_istore_n (lv' := [(3, .int (nI b)), (0, .ref (h 0)), (1, .int (nI k)), (2, .int (nI b))]) hx hb d_Y_left_24 rfl hl (by decide) rfl (fun ls hl => ?_)
        refine lv_iconst (v := 0) hx hb d_Y_left_25 (by decide) ?_
        refine lv_istore (lv' := [(4, .int 0), (3, .int (nI b)), (0, .ref (h 0)), (1, .int (nI k)), (2, .int (nI b))]) hx hb d_Y_left_26 hl (by decide) rfl (fun ls hl => ?_)
        refine wr_loop (nL := 5) (σ := Nat) (n) (fun i x => [(0, .ref (h 0)), (1, .int (nI k)), (3, .int (nI x)), (4, .int (nI i))]) (fun i x => wY h cI cZ n bt.testBit rk wt cl cc ow su sc od true g1 rp1 ((reps n bt rk wt cl cc od).length)) (fun i x => x < 2 ^ 31 ∧ nthF (fun j => !((reps n bt rk wt cl cc od).getD k 0).testBit j) n 0 b = nthF (fun j => !((reps n bt rk wt cl cc od).getD k 0).testBit j) (n - i) i x) ?_ 0 b ls _ _ (Nat.zero_le _) (⟨hb9, rfl⟩) (lv_sub hl [2, 3, 1, 0] rfl) hP hD hS
        intro i x ls H locs hi hI hl hP hD hS ih
        obtain ⟨hxb, hI⟩ : x < 2 ^ 31 ∧ nthF (fun j => !((reps n bt rk wt cl cc od).getD k 0).testBit j) n 0 b = nthF (fun j => !((reps n bt rk wt cl cc od).getD k 0).testBit j) (n - i) i x := hI
        have hl : lv_has ls 5 [(0, .ref (h 0)), (1, .int (nI k)), (3, .int (nI x)), (4, .int (nI i))] := hl
        have hP : va_P D clX (wY h cI cZ n bt.testBit rk wt cl cc ow su sc od true g1 rp1 ((reps n bt rk wt cl cc od).length)) H := hP
        have hD : va_D _ (wY h cI cZ n bt.testBit rk wt cl cc ow su sc od true g1 rp1 ((reps n bt rk wt cl cc od).length)) := hD
        refine lv_iload hx hb d_Y_left_28 (lv_at hl 3 rfl) ?_
        refine lv_aload_n hx hb d_Y_left_30 rfl (lv_at hl 0 rfl) ?_
        refine va_get (D := D) (ci := 1) (v := .int (nI n)) (C := RY) (T := TY) (N := 14) hx hb hts inY hown hK hP 0 rfl rfl 0 (by decide) (hts _ f_Y_35) (fun _ h9 => h9) rfl d_Y_left_31 ?_
        refine lv_icmp_ge (tgt := 70) hx hb d_Y_left_34 (by decide) (fun c34 => ?_) (fun c34 => ?_)
        · have hN : i = n := lp_ge hi (by omega) c34
          refine lv_bipush (v := (-2)) hx hb d_Y_left_70 (by decide) ?_
          have hs : (rLeft n (reps n bt rk wt cl cc od) (nI k) (nI b)) = (-2) := by rw [hlf, hI, hN, Nat.sub_self]; rfl
          exact wE_iret ((n, bt, rk, wt, cl, cc, su, ow, sc, od), (true, g1, rp1, (reps n bt rk wt cl cc od).length)) hx hb hr hlocks d_Y_left_72 hS hP ⟨rfl, (fun _ => ⟨hv, rfl⟩)⟩ (by rw [hs])
        · have hlt : i < n := lp_lt hi (by omega) c34
          refine lv_aload_n hx hb d_Y_left_37 rfl (lv_at hl 0 rfl) ?_
          refine va_get (D := D) (ci := 1) (v := .ref (h 8)) (C := RY) (T := TY) (N := 14) hx hb hts inY hown hK hP 0 rfl rfl 12 (by decide) (hts _ f_Y_32) (fun _ h9 => h9) rfl d_Y_left_38 ?_
          refine lv_iload_n hx hb d_Y_left_41 rfl (lv_at hl 1 rfl) ?_
          refine va_iald hx hb hK hP 8 0 rfl rfl (vp_in_nI (show k < 2048 by omega) (by decide)) d_Y_left_42 ?_
          refine rd_top (z := nI (rp1 k)) (ar_nI rp1 (by omega)) ?_
          refine lv_iload hx hb d_Y_left_43 (lv_at hl 3 rfl) ?_
          refine rd_S (As := [.int (nI (rp1 k)), .int (nI i)]) (rest := []) ⟨hx, hb, hml, hown, hts⟩ (c_Y_has l (rp1 k) i hrp1 (by omega)) (cwS 2 hts g_Y_60 rfl rfl rfl (by decide +kernel) ⟨Nat.le_of_ble_eq_true rfl, Nat.le_of_ble_eq_true rfl⟩) rfl hl.1 rfl (Nat.le_of_ble_eq_true rfl) d_Y_left_45 ⟨Nat.zero_le _, Nat.zero_le _⟩ ?_
          refine lv_if_eq (tgt := 54) hx hb d_Y_left_48 (by decide) (fun c48 => ?_) (fun c48 => ?_)
          · refine lv_iload_n hx hb d_Y_left_54 rfl (lv_at hl 2 rfl) ?_
            refine lv_if_ne (tgt := 61) hx hb d_Y_left_55 (by decide) (fun c55 => ?_) (fun c55 => ?_)
            · refine lv_iinc (v := (nI (x - 1))) (lv' := [(3, .int (nI (x - 1))), (0, .ref (h 0)), (1, .int (nI k)), (4, .int (nI i))]) hx hb d_Y_left_61 hl (k := 2) rfl (sb_m1 (Nat.pos_of_ne_zero (fun q => c55 (by rw [q]; rfl)))) (by decide) rfl (fun ls hl => ?_)
              refine lv_iinc (v := (nI (i + 1))) (lv' := [(4, .int (nI (i + 1))), (3, .int (nI (x - 1))), (0, .ref (h 0)), (1, .int (nI k))]) hx hb d_Y_left_64 hl (k := 3) rfl (nI_1 i) (by decide) rfl (fun ls hl => ?_)
              refine lv_goto (tgt := 28) hx hb d_Y_left_67 (by decide) ?_
              exact ih hlt (x - 1) ls _ _ (⟨by omega, by rw [hI, show n - i = (n - (i + 1)) + 1 by omega, nthF, if_pos (by rw [← hv2 k hk, bI_0.mp c48]; rfl), if_neg (fun q => c55 (by rw [q]; rfl))]⟩) (lv_sub hl [2, 3, 1, 0] rfl) hP hD hS
            · refine lv_iload hx hb d_Y_left_58 (lv_at hl 3 rfl) ?_
              have hs : (rLeft n (reps n bt rk wt cl cc od) (nI k) (nI b)) = (nI i) := by rw [hlf, hI, show n - i = (n - (i + 1)) + 1 by omega, nthF, if_pos (by rw [← hv2 k hk, bI_0.mp c48]; rfl), if_pos ((nI_eq (b := 0) hxb (by decide)).mp c55)]; rfl
              exact wE_iret ((n, bt, rk, wt, cl, cc, su, ow, sc, od), (true, g1, rp1, (reps n bt rk wt cl cc od).length)) hx hb hr hlocks d_Y_left_60 hS hP ⟨rfl, (fun _ => ⟨hv, rfl⟩)⟩ (by rw [hs])
          · refine lv_goto (tgt := 64) hx hb d_Y_left_51 (by decide) ?_
            refine lv_iinc (v := (nI (i + 1))) (lv' := [(4, .int (nI (i + 1))), (0, .ref (h 0)), (1, .int (nI k)), (3, .int (nI x))]) hx hb d_Y_left_64 hl (k := 3) rfl (nI_1 i) (by decide) rfl (fun ls hl => ?_)
            refine lv_goto (tgt := 28) hx hb d_Y_left_67 (by decide) ?_
            exact ih hlt x ls _ _ (⟨hxb, by rw [hI, show n - i = (n - (i + 1)) + 1 by omega, nthF, if_neg (by rw [← hv2 k hk, show (rp1 k).testBit i = true by cases hq : (rp1 k).testBit i; exact absurd (bI_0.mpr hq) c48; rfl]; decide)]⟩) (lv_sub hl [1, 2, 3, 0] rfl) hP hD hS
      · refine lv_bipush (v := (-2)) hx hb d_Y_left_20 (by decide) ?_
        have hs : (rLeft n (reps n bt rk wt cl cc od) x y) = (-2) := by unfold rLeft; rw [if_neg (fun q => q.2 (Int32.not_le.mp c17))]
        exact wE_iret ((n, bt, rk, wt, cl, cc, su, ow, sc, od), (true, g1, rp1, (reps n bt rk wt cl cc od).length)) hx hb hr hlocks d_Y_left_22 hS hP ⟨rfl, (fun _ => ⟨hv, rfl⟩)⟩ (by rw [hs])
set_option maxHeartbeats 4000000 in
set_option maxRecDepth 100000 in
theorem c_Y_truth (l : Launch) (sz : Nat) (x : Int32) (hg : gdA (n, bt, rk, wt, cl, cc, su, ow, sc, od)) (hc : okC (n, bt, rk, wt, cl, cc, su, ow, sc, od) kn rp rc) : Met l y_Y_truth w_Y_truth (k2_rm 4 96) (wr_Pc D clX (wY h cI cZ n bt.testBit rk wt cl cc ow su sc od kn ke rp rc) [(cI, .int), (cZ, .boolean)] sz [.ref (h 0), .int x]) (wE_Q D clX (wY h cI cZ n bt.testBit rk wt cl cc ow su sc od kn ke rp rc) (σ := stA × stD) (wYt h cI cZ) (fun _ => some (.int (rTruth su ow sc (reps n bt rk wt cl cc od) x))) (fun u => u.1 = (n, bt, rk, wt, cl, cc, su, ow, sc, od) ∧ ocY u) sz) 0 0 (va_A (wY h cI cZ n bt.testBit rk wt cl cc ow su sc od kn ke rp rc) sz) := by
  refine wE_met (by decide) rfl (Nat.le_of_ble_eq_true rfl) rfl ?_
  intro p e s m below meth c ls hx hb hr hml hown hts hlocks hP hK hD hS hA hl
  have hts : ∀ w ∈ tbl, w.before _ s = true := fun w h => hts w (List.mem_cons_of_mem _ h)
  have hown : s.vm.findClass RY = some m.cls := hown
  have hl : lv_has ls 6 [(0, .ref (h 0)), (1, .int x)] := hl
  obtain ⟨hn, hbt, hrk, hwt, hwp, hcc, hcl, hsc, hsa, hsu, ho⟩ := id hg
  have hlen : (reps n bt rk wt cl cc od).length ≤ 462 := rep_len hn (Nat.le_refl _) hrk hwp
  refine lv_iload_n hx hb d_Y_truth_0 rfl (lv_at hl 1 rfl) ?_
  refine lv_if_lt (tgt := 10) hx hb d_Y_truth_1 (by decide) (fun c1 => ?_) (fun c1 => ?_)
  · refine lv_iconst (v := (-1)) hx hb d_Y_truth_10 (by decide) ?_
    have hs : (rTruth su ow sc (reps n bt rk wt cl cc od) x) = (-1) := by unfold rTruth; rw [if_neg (show ¬ okA x = true by unfold okA; rw [decide_eq_true c1, Bool.not_true, Bool.false_and]; decide)]
    exact wE_iret ((n, bt, rk, wt, cl, cc, su, ow, sc, od), (kn, ke, rp, rc)) hx hb hr hlocks d_Y_truth_11 hS hP ⟨rfl, hc⟩ (by rw [hs])
  · refine lv_iload_n hx hb d_Y_truth_4 rfl (lv_at hl 1 rfl) ?_
    refine lv_bipush (v := 8) hx hb d_Y_truth_5 (by decide) ?_
    refine lv_icmp_lt (tgt := 12) hx hb d_Y_truth_7 (by decide) (fun c7 => ?_) (fun c7 => ?_)
    · have hx0 := (show okA x = true by unfold okA; rw [decide_eq_false c1, decide_eq_false (Int32.not_le.mpr c7)]; rfl)
      obtain ⟨k, hk, ek⟩ := okA_of hx0
      subst ek
      refine lv_aload_n hx hb d_Y_truth_12 rfl (lv_at hl 0 rfl) ?_
      refine wE_V (As := []) (rest := []) ⟨hx, hb, hml, hown, hts⟩ (c_Y_work l _ hg hc) (cwV 0 hts g_Y_77 rfl rfl rfl (by decide +kernel) ⟨Nat.le_of_ble_eq_true rfl, Nat.le_of_ble_eq_true rfl⟩) hK hP hD hS hA 0 rfl rfl rfl hl.1 rfl (Nat.le_of_ble_eq_true rfl) d_Y_truth_13 ⟨Nat.zero_le _, Nat.zero_le _⟩ (fun _ => rfl) (fun v H locs hv hP hD hS => ?_)
      obtain ⟨g1, rp1⟩ := v
      have hv : isArr rp1 (reps n bt rk wt cl cc od) := hv
      have hv2 : ∀ i, i < (reps n bt rk wt cl cc od).length → rp1 i = (reps n bt rk wt cl cc od).getD i 0 := hv
      have hP : va_P D clX (wY h cI cZ n bt.testBit rk wt cl cc ow su sc od true g1 rp1 ((reps n bt rk wt cl cc od).length)) H := hP
      have hD : va_D _ (wY h cI cZ n bt.testBit rk wt cl cc ow su sc od true g1 rp1 ((reps n bt rk wt cl cc od).length)) := hD
      refine lv_iconst (v := 0) hx hb d_Y_truth_16 (by decide) ?_
      refine lv_istore_n (lv' := [(2, .int 0), (0, .ref (h 0)), (1, .int (nI k))]) hx hb d_Y_truth_17 rfl hl (by decide) rfl (fun ls hl => ?_)
      refine lv_iconst (v := 0) hx hb d_Y_truth_18 (by decide) ?_
      refine lv_istore_n (lv' := [(3, .int 0), (2, .int 0), (0, .ref (h 0)), (1, .int (nI k))]) hx hb d_Y_truth_19 rfl hl (by decide) rfl (fun ls hl => ?_)
      refine wr_loop (nL := 6) (σ := Nat) ((reps n bt rk wt cl cc od).length) (fun i x => [(0, .ref (h 0)), (1, .int (nI k)), (2, .int (nI x)), (3, .int (nI i))]) (fun i x => wY h cI cZ n bt.testBit rk wt cl cc ow su sc od true g1 rp1 ((reps n bt rk wt cl cc od).length)) (fun i x => x = cntB (fun r => holX ow su sc k ((reps n bt rk wt cl cc od).getD r 0)) i) ?_ 0 0 ls _ _ (Nat.zero_le _) (rfl) (lv_sub hl [2, 3, 1, 0] rfl) hP hD hS
      intro i x ls H locs hi hI hl hP hD hS ih
      have hIo : x = cntB (fun r => holX ow su sc k ((reps n bt rk wt cl cc od).getD r 0)) i := hI
      have ih0 := ih
      have hl : lv_has ls 6 [(0, .ref (h 0)), (1, .int (nI k)), (2, .int (nI x)), (3, .int (nI i))] := hl
      have hP : va_P D clX (wY h cI cZ n bt.testBit rk wt cl cc ow su sc od true g1 rp1 ((reps n bt rk wt cl cc od).length)) H := hP
      have hD : va_D _ (wY h cI cZ n bt.testBit rk wt cl cc ow su sc od true g1 rp1 ((reps n bt rk wt cl cc od).length)) := hD
      refine lv_iload_n hx hb d_Y_truth_20 rfl (lv_at hl 3 rfl) ?_
      refine lv_aload_n hx hb d_Y_truth_21 rfl (lv_at hl 0 rfl) ?_
      refine va_get (D := D) (ci := 1) (v := .int (nI ((reps n bt rk wt cl cc od).length))) (C := RY) (T := TY) (N := 14) hx hb hts inY hown hK hP 0 rfl rfl 13 (by decide) (hts _ f_Y_74) (fun _ h9 => h9) rfl d_Y_truth_22 ?_
      refine lv_icmp_ge (tgt := 110) hx hb d_Y_truth_25 (by decide) (fun c25 => ?_) (fun c25 => ?_)
      · have hN : i = (reps n bt rk wt cl cc od).length := lp_ge hi (by omega) c25
        refine lv_aload_n hx hb d_Y_truth_110 rfl (lv_at hl 0 rfl) ?_
        refine lv_iload_n hx hb d_Y_truth_111 rfl (lv_at hl 2 rfl) ?_
        refine rd_V (As := [.int (nI x)]) (rest := []) ⟨hx, hb, hml, hown, hts⟩ (c_Y_told l x (by have := cntB_le (P := (fun r => holX ow su sc k ((reps n bt rk wt cl cc od).getD r 0))) (n := i); omega) (by omega)) (cwV 1 hts g_Y_80 rfl rfl rfl (by decide +kernel) ⟨Nat.le_of_ble_eq_true rfl, Nat.le_of_ble_eq_true rfl⟩) hK hP 0 rfl rfl rfl hl.1 rfl (Nat.le_of_ble_eq_true rfl) d_Y_truth_112 ⟨Nat.zero_le _, Nat.zero_le _⟩ ?_
        have hs : (rTruth su ow sc (reps n bt rk wt cl cc od) (nI k)) = (vdt (reps n bt rk wt cl cc od).length x) := by unfold rTruth; rw [if_pos hx0, nI_clamp (show k < 2 ^ 31 by omega), hIo, hN]
        exact wE_iret ((n, bt, rk, wt, cl, cc, su, ow, sc, od), (true, g1, rp1, (reps n bt rk wt cl cc od).length)) hx hb hr hlocks d_Y_truth_115 hS hP ⟨rfl, (fun _ => ⟨hv, rfl⟩)⟩ (by rw [hs])
      · have hlt : i < (reps n bt rk wt cl cc od).length := lp_lt hi (by omega) c25
        refine lv_iconst (v := 0) hx hb d_Y_truth_28 (by decide) ?_
        refine rd_top (z := bI false) (rfl) ?_
        refine lv_istore (lv' := [(4, .int (bI false)), (0, .ref (h 0)), (1, .int (nI k)), (2, .int (nI x)), (3, .int (nI i))]) hx hb d_Y_truth_29 hl (by decide) rfl (fun ls hl => ?_)
        refine lv_iconst (v := 0) hx hb d_Y_truth_31 (by decide) ?_
        refine lv_istore (lv' := [(5, .int 0), (4, .int (bI false)), (0, .ref (h 0)), (1, .int (nI k)), (2, .int (nI x)), (3, .int (nI i))]) hx hb d_Y_truth_32 hl (by decide) rfl (fun ls hl => ?_)
        refine wr_loop (nL := 6) (σ := Bool) (sc) (fun j y => [(0, .ref (h 0)), (1, .int (nI k)), (2, .int (nI x)), (3, .int (nI i)), (4, .int (bI y)), (5, .int (nI j))]) (fun j y => wY h cI cZ n bt.testBit rk wt cl cc ow su sc od true g1 rp1 ((reps n bt rk wt cl cc od).length)) (fun j y => y = anyB (fun q => decide (ow q = k) && sp_sub (su q) (rp1 i)) j) ?_ 0 false ls _ _ (Nat.zero_le _) (rfl) (lv_sub hl [2, 3, 4, 5, 1, 0] rfl) hP hD hS
        intro j y ls H locs hi hI hl hP hD hS ih
        have hI : y = anyB (fun q => decide (ow q = k) && sp_sub (su q) (rp1 i)) j := hI
        have hl : lv_has ls 6 [(0, .ref (h 0)), (1, .int (nI k)), (2, .int (nI x)), (3, .int (nI i)), (4, .int (bI y)), (5, .int (nI j))] := hl
        have hP : va_P D clX (wY h cI cZ n bt.testBit rk wt cl cc ow su sc od true g1 rp1 ((reps n bt rk wt cl cc od).length)) H := hP
        have hD : va_D _ (wY h cI cZ n bt.testBit rk wt cl cc ow su sc od true g1 rp1 ((reps n bt rk wt cl cc od).length)) := hD
        refine lv_iload hx hb d_Y_truth_34 (lv_at hl 5 rfl) ?_
        refine lv_aload_n hx hb d_Y_truth_36 rfl (lv_at hl 0 rfl) ?_
        refine va_get (D := D) (ci := 1) (v := .int (nI sc)) (C := RY) (T := TY) (N := 14) hx hb hts inY hown hK hP 0 rfl rfl 8 (by decide) (hts _ f_Y_54) (fun _ h9 => h9) rfl d_Y_truth_37 ?_
        refine lv_icmp_ge (tgt := 91) hx hb d_Y_truth_40 (by decide) (fun c40 => ?_) (fun c40 => ?_)
        · have hjN : j = sc := lp_ge hi (by omega) c40
          refine lv_iload_n hx hb d_Y_truth_91 rfl (lv_at hl 2 rfl) ?_
          refine lv_iload hx hb d_Y_truth_92 (lv_at hl 4 rfl) ?_
          refine lv_if_eq (tgt := 101) hx hb d_Y_truth_94 (by decide) (fun c94 => ?_) (fun c94 => ?_)
          · refine lv_iconst (v := 0) hx hb d_Y_truth_101 (by decide) ?_
            refine lv_iadd hx hb d_Y_truth_102 ?_
            refine rd_top (z := nI x) (Int32.add_zero _) ?_
            refine lv_istore_n (lv' := [(2, .int (nI x)), (0, .ref (h 0)), (1, .int (nI k)), (3, .int (nI i)), (4, .int (bI y)), (5, .int (nI j))]) hx hb d_Y_truth_103 rfl hl (by decide) rfl (fun ls hl => ?_)
            refine lv_iinc (v := (nI (i + 1))) (lv' := [(3, .int (nI (i + 1))), (2, .int (nI x)), (0, .ref (h 0)), (1, .int (nI k)), (4, .int (bI y)), (5, .int (nI j))]) hx hb d_Y_truth_104 hl (k := 3) rfl (nI_1 i) (by decide) rfl (fun ls hl => ?_)
            refine lv_goto (tgt := 20) hx hb d_Y_truth_107 (by decide) ?_
            exact ih0 hlt x ls _ _ (cnt_f hIo (by show holX ow su sc k ((reps n bt rk wt cl cc od).getD i 0) = false; rw [← (show anyB (fun q => decide (ow q = k) && sp_sub (su q) (rp1 i)) sc = holX ow su sc k ((reps n bt rk wt cl cc od).getD i 0) by rw [← hv2 i hlt]; rfl), ← hjN, ← hI]; exact bI_0.mp c94)) (lv_sub hl [2, 3, 1, 0] rfl) hP hD hS
          · refine lv_iconst (v := 1) hx hb d_Y_truth_97 (by decide) ?_
            refine lv_goto (tgt := 102) hx hb d_Y_truth_98 (by decide) ?_
            refine lv_iadd hx hb d_Y_truth_102 ?_
            refine rd_top (z := nI (x + 1)) (nI_1 x) ?_
            refine lv_istore_n (lv' := [(2, .int (nI (x + 1))), (0, .ref (h 0)), (1, .int (nI k)), (3, .int (nI i)), (4, .int (bI y)), (5, .int (nI j))]) hx hb d_Y_truth_103 rfl hl (by decide) rfl (fun ls hl => ?_)
            refine lv_iinc (v := (nI (i + 1))) (lv' := [(3, .int (nI (i + 1))), (2, .int (nI (x + 1))), (0, .ref (h 0)), (1, .int (nI k)), (4, .int (bI y)), (5, .int (nI j))]) hx hb d_Y_truth_104 hl (k := 3) rfl (nI_1 i) (by decide) rfl (fun ls hl => ?_)
            refine lv_goto (tgt := 20) hx hb d_Y_truth_107 (by decide) ?_
            exact ih0 hlt (x + 1) ls _ _ (cnt_t hIo (by show holX ow su sc k ((reps n bt rk wt cl cc od).getD i 0) = true; rw [← (show anyB (fun q => decide (ow q = k) && sp_sub (su q) (rp1 i)) sc = holX ow su sc k ((reps n bt rk wt cl cc od).getD i 0) by rw [← hv2 i hlt]; rfl), ← hjN, ← hI]; exact (show y = true by cases hq : y; exact absurd (bI_0.mpr hq) c94; rfl))) (lv_sub hl [2, 3, 1, 0] rfl) hP hD hS
        · have hjl : j < sc := lp_lt hi (by omega) c40
          refine lv_iload hx hb d_Y_truth_43 (lv_at hl 4 rfl) ?_
          refine lv_if_ne (tgt := 78) hx hb d_Y_truth_45 (by decide) (fun c45 => ?_) (fun c45 => ?_)
          · refine lv_iconst (v := 1) hx hb d_Y_truth_78 (by decide) ?_
            refine rd_top (z := bI true) (rfl) ?_
            refine lv_goto (tgt := 83) hx hb d_Y_truth_79 (by decide) ?_
            refine lv_istore (lv' := [(4, .int (bI true)), (0, .ref (h 0)), (1, .int (nI k)), (2, .int (nI x)), (3, .int (nI i)), (5, .int (nI j))]) hx hb d_Y_truth_83 hl (by decide) rfl (fun ls hl => ?_)
            refine lv_iinc (v := (nI (j + 1))) (lv' := [(5, .int (nI (j + 1))), (4, .int (bI true)), (0, .ref (h 0)), (1, .int (nI k)), (2, .int (nI x)), (3, .int (nI i))]) hx hb d_Y_truth_85 hl (k := 5) rfl (nI_1 j) (by decide) rfl (fun ls hl => ?_)
            refine lv_goto (tgt := 34) hx hb d_Y_truth_88 (by decide) ?_
            exact ih hjl true ls _ _ (by show true = anyB (fun q => decide (ow q = k) && sp_sub (su q) (rp1 i)) (j + 1); rw [anyB, ← hI, show y = true by cases hq : y; exact absurd (bI_0.mpr hq) c45; rfl]; rfl) (lv_sub hl [2, 3, 4, 5, 1, 0] rfl) hP hD hS
          · refine lv_aload_n hx hb d_Y_truth_48 rfl (lv_at hl 0 rfl) ?_
            refine va_get (D := D) (ci := 1) (v := .ref (h 5)) (C := RY) (T := TY) (N := 14) hx hb hts inY hown hK hP 0 rfl rfl 6 (by decide) (hts _ f_Y_23) (fun _ h9 => h9) rfl d_Y_truth_49 ?_
            refine lv_iload hx hb d_Y_truth_52 (lv_at hl 5 rfl) ?_
            refine va_iald hx hb hK hP 5 0 rfl rfl (vp_in_nI (show j < 20 by omega) (by decide)) d_Y_truth_54 ?_
            refine rd_top (z := nI (ow j)) (ar_nI ow (by omega)) ?_
            refine lv_iload_n hx hb d_Y_truth_55 rfl (lv_at hl 1 rfl) ?_
            refine lv_icmp_ne (tgt := 82) hx hb d_Y_truth_56 (by decide) (fun c56 => ?_) (fun c56 => ?_)
            · refine lv_iconst (v := 0) hx hb d_Y_truth_82 (by decide) ?_
              refine rd_top (z := bI false) (rfl) ?_
              refine lv_istore (lv' := [(4, .int (bI false)), (0, .ref (h 0)), (1, .int (nI k)), (2, .int (nI x)), (3, .int (nI i)), (5, .int (nI j))]) hx hb d_Y_truth_83 hl (by decide) rfl (fun ls hl => ?_)
              refine lv_iinc (v := (nI (j + 1))) (lv' := [(5, .int (nI (j + 1))), (4, .int (bI false)), (0, .ref (h 0)), (1, .int (nI k)), (2, .int (nI x)), (3, .int (nI i))]) hx hb d_Y_truth_85 hl (k := 5) rfl (nI_1 j) (by decide) rfl (fun ls hl => ?_)
              refine lv_goto (tgt := 34) hx hb d_Y_truth_88 (by decide) ?_
              exact ih hjl false ls _ _ (by show false = anyB (fun q => decide (ow q = k) && sp_sub (su q) (rp1 i)) (j + 1); rw [anyB, ← hI, bI_0.mp c45, decide_eq_false (fun q => c56 (congrArg nI q))]; rfl) (lv_sub hl [2, 3, 4, 5, 1, 0] rfl) hP hD hS
            · refine lv_aload_n hx hb d_Y_truth_59 rfl (lv_at hl 0 rfl) ?_
              refine va_get (D := D) (ci := 1) (v := .ref (h 6)) (C := RY) (T := TY) (N := 14) hx hb hts inY hown hK hP 0 rfl rfl 7 (by decide) (hts _ f_Y_26) (fun _ h9 => h9) rfl d_Y_truth_60 ?_
              refine lv_iload hx hb d_Y_truth_63 (lv_at hl 5 rfl) ?_
              refine va_iald hx hb hK hP 6 0 rfl rfl (vp_in_nI (show j < 20 by omega) (by decide)) d_Y_truth_65 ?_
              refine rd_top (z := nI (su j)) (ar_nI su (by omega)) ?_
              refine lv_aload_n hx hb d_Y_truth_66 rfl (lv_at hl 0 rfl) ?_
              refine va_get (D := D) (ci := 1) (v := .ref (h 8)) (C := RY) (T := TY) (N := 14) hx hb hts inY hown hK hP 0 rfl rfl 12 (by decide) (hts _ f_Y_32) (fun _ h9 => h9) rfl d_Y_truth_67 ?_
              refine lv_iload_n hx hb d_Y_truth_70 rfl (lv_at hl 3 rfl) ?_
              refine va_iald hx hb hK hP 8 0 rfl rfl (vp_in_nI (show i < 2048 by omega) (by decide)) d_Y_truth_71 ?_
              refine rd_top (z := nI (rp1 i)) (ar_nI rp1 (by omega)) ?_
              refine lv_iconst (v := (-1)) hx hb d_Y_truth_72 (by decide) ?_
              refine lv_ixor hx hb d_Y_truth_73 ?_
              refine lv_iand hx hb d_Y_truth_74 ?_
              refine lv_if_ne (tgt := 82) hx hb d_Y_truth_75 (by decide) (fun c75 => ?_) (fun c75 => ?_)
              · refine lv_iconst (v := 0) hx hb d_Y_truth_82 (by decide) ?_
                refine rd_top (z := bI false) (rfl) ?_
                refine lv_istore (lv' := [(4, .int (bI false)), (0, .ref (h 0)), (1, .int (nI k)), (2, .int (nI x)), (3, .int (nI i)), (5, .int (nI j))]) hx hb d_Y_truth_83 hl (by decide) rfl (fun ls hl => ?_)
                refine lv_iinc (v := (nI (j + 1))) (lv' := [(5, .int (nI (j + 1))), (4, .int (bI false)), (0, .ref (h 0)), (1, .int (nI k)), (2, .int (nI x)), (3, .int (nI i))]) hx hb d_Y_truth_85 hl (k := 5) rfl (nI_1 j) (by decide) rfl (fun ls hl => ?_)
                refine lv_goto (tgt := 34) hx hb d_Y_truth_88 (by decide) ?_
                exact ih hjl false ls _ _ (by show false = anyB (fun q => decide (ow q = k) && sp_sub (su q) (rp1 i)) (j + 1); rw [anyB, ← hI, bI_0.mp c45, show sp_sub (su j) (rp1 i) = false by cases hq : sp_sub (su j) (rp1 i); rfl; exact absurd ((bx_part (by have := hsu j; omega)).mpr hq) c75]; simp) (lv_sub hl [2, 3, 4, 5, 1, 0] rfl) hP hD hS
              · refine lv_iconst (v := 1) hx hb d_Y_truth_78 (by decide) ?_
                refine rd_top (z := bI true) (rfl) ?_
                refine lv_goto (tgt := 83) hx hb d_Y_truth_79 (by decide) ?_
                refine lv_istore (lv' := [(4, .int (bI true)), (0, .ref (h 0)), (1, .int (nI k)), (2, .int (nI x)), (3, .int (nI i)), (5, .int (nI j))]) hx hb d_Y_truth_83 hl (by decide) rfl (fun ls hl => ?_)
                refine lv_iinc (v := (nI (j + 1))) (lv' := [(5, .int (nI (j + 1))), (4, .int (bI true)), (0, .ref (h 0)), (1, .int (nI k)), (2, .int (nI x)), (3, .int (nI i))]) hx hb d_Y_truth_85 hl (k := 5) rfl (nI_1 j) (by decide) rfl (fun ls hl => ?_)
                refine lv_goto (tgt := 34) hx hb d_Y_truth_88 (by decide) ?_
                exact ih hjl true ls _ _ (by show true = anyB (fun q => decide (ow q = k) && sp_sub (su q) (rp1 i)) (j + 1); rw [anyB, decide_eq_true ((nI_eq (by have := hsa j; omega) (by omega)).mp c56), (bx_part (by have := hsu j; omega)).mp c75]; simp) (lv_sub hl [2, 3, 4, 5, 1, 0] rfl) hP hD hS
    · refine lv_iconst (v := (-1)) hx hb d_Y_truth_10 (by decide) ?_
      have hs : (rTruth su ow sc (reps n bt rk wt cl cc od) x) = (-1) := by unfold rTruth; rw [if_neg (show ¬ okA x = true by unfold okA; rw [decide_eq_true (Int32.not_lt.mp c7), Bool.not_true, Bool.and_false]; decide)]
      exact wE_iret ((n, bt, rk, wt, cl, cc, su, ow, sc, od), (kn, ke, rp, rc)) hx hb hr hlocks d_Y_truth_11 hS hP ⟨rfl, hc⟩ (by rw [hs])
set_option maxHeartbeats 4000000 in
set_option maxRecDepth 100000 in
theorem c_Y_surely (l : Launch) (sz : Nat) (x : Int32) (hg : gdA (n, bt, rk, wt, cl, cc, su, ow, sc, od)) (hc : okC (n, bt, rk, wt, cl, cc, su, ow, sc, od) kn rp rc) : Met l y_Y_surely w_Y_surely (k2_rm 4 96) (wr_Pc D clX (wY h cI cZ n bt.testBit rk wt cl cc ow su sc od kn ke rp rc) [(cI, .int), (cZ, .boolean)] sz [.ref (h 0), .int x]) (wE_Q D clX (wY h cI cZ n bt.testBit rk wt cl cc ow su sc od kn ke rp rc) (σ := stA × stD) (wYt h cI cZ) (fun _ => some (.int (rSurely n (reps n bt rk wt cl cc od) x))) (fun u => u.1 = (n, bt, rk, wt, cl, cc, su, ow, sc, od) ∧ ocY u) sz) 0 0 (va_A (wY h cI cZ n bt.testBit rk wt cl cc ow su sc od kn ke rp rc) sz) := by
  refine wE_met (by decide) rfl (Nat.le_of_ble_eq_true rfl) rfl ?_
  intro p e s m below meth c ls hx hb hr hml hown hts hlocks hP hK hD hS hA hl
  have hts : ∀ w ∈ tbl, w.before _ s = true := fun w h => hts w (List.mem_cons_of_mem _ h)
  have hown : s.vm.findClass RY = some m.cls := hown
  have hl : lv_has ls 4 [(0, .ref (h 0)), (1, .int x)] := hl
  obtain ⟨hn, hbt, hrk, hwt, hwp, hcc, hcl, hsc, hsa, hsu, ho⟩ := id hg
  have hlen : (reps n bt rk wt cl cc od).length ≤ 462 := rep_len hn (Nat.le_refl _) hrk hwp
  refine lv_aload_n hx hb d_Y_surely_0 rfl (lv_at hl 0 rfl) ?_
  refine lv_iload_n hx hb d_Y_surely_1 rfl (lv_at hl 1 rfl) ?_
  refine rd_V (As := [.int x]) (rest := []) ⟨hx, hb, hml, hown, hts⟩ (c_Y_isStatement l x) (cwV 1 hts g_Y_47 rfl rfl rfl (by decide +kernel) ⟨Nat.le_of_ble_eq_true rfl, Nat.le_of_ble_eq_true rfl⟩) hK hP 0 rfl rfl rfl hl.1 rfl (Nat.le_of_ble_eq_true rfl) d_Y_surely_2 ⟨Nat.zero_le _, Nat.zero_le _⟩ ?_
  refine lv_if_ne (tgt := 10) hx hb d_Y_surely_5 (by decide) (fun c5 => ?_) (fun c5 => ?_)
  · have hx0 := (show okS n x = true by cases hq : okS n x; exact absurd (bI_0.mpr hq) c5; rfl)
    obtain ⟨k, hk, ek⟩ := okS_of (by omega) hx0
    subst ek
    refine lv_aload_n hx hb d_Y_surely_10 rfl (lv_at hl 0 rfl) ?_
    refine wE_V (As := []) (rest := []) ⟨hx, hb, hml, hown, hts⟩ (c_Y_work l _ hg hc) (cwV 0 hts g_Y_77 rfl rfl rfl (by decide +kernel) ⟨Nat.le_of_ble_eq_true rfl, Nat.le_of_ble_eq_true rfl⟩) hK hP hD hS hA 0 rfl rfl rfl hl.1 rfl (Nat.le_of_ble_eq_true rfl) d_Y_surely_11 ⟨Nat.zero_le _, Nat.zero_le _⟩ (fun _ => rfl) (fun v H locs hv hP hD hS => ?_)
    obtain ⟨g1, rp1⟩ := v
    have hv : isArr rp1 (reps n bt rk wt cl cc od) := hv
    have hv2 : ∀ i, i < (reps n bt rk wt cl cc od).length → rp1 i = (reps n bt rk wt cl cc od).getD i 0 := hv
    have hP : va_P D clX (wY h cI cZ n bt.testBit rk wt cl cc ow su sc od true g1 rp1 ((reps n bt rk wt cl cc od).length)) H := hP
    have hD : va_D _ (wY h cI cZ n bt.testBit rk wt cl cc ow su sc od true g1 rp1 ((reps n bt rk wt cl cc od).length)) := hD
    refine lv_iconst (v := 0) hx hb d_Y_surely_14 (by decide) ?_
    refine lv_istore_n (lv' := [(2, .int 0), (0, .ref (h 0)), (1, .int (nI k))]) hx hb d_Y_surely_15 rfl hl (by decide) rfl (fun ls hl => ?_)
    refine lv_iconst (v := 0) hx hb d_Y_surely_16 (by decide) ?_
    refine lv_istore_n (lv' := [(3, .int 0), (2, .int 0), (0, .ref (h 0)), (1, .int (nI k))]) hx hb d_Y_surely_17 rfl hl (by decide) rfl (fun ls hl => ?_)
    refine wr_loop (nL := 4) (σ := Nat) ((reps n bt rk wt cl cc od).length) (fun i x => [(0, .ref (h 0)), (1, .int (nI k)), (2, .int (nI x)), (3, .int (nI i))]) (fun i x => wY h cI cZ n bt.testBit rk wt cl cc ow su sc od true g1 rp1 ((reps n bt rk wt cl cc od).length)) (fun i x => x = cntB (fun r => ((reps n bt rk wt cl cc od).getD r 0).testBit k) i) ?_ 0 0 ls _ _ (Nat.zero_le _) (rfl) (lv_sub hl [2, 3, 1, 0] rfl) hP hD hS
    intro i x ls H locs hi hI hl hP hD hS ih
    have hI : x = cntB (fun r => ((reps n bt rk wt cl cc od).getD r 0).testBit k) i := hI
    have hl : lv_has ls 4 [(0, .ref (h 0)), (1, .int (nI k)), (2, .int (nI x)), (3, .int (nI i))] := hl
    have hP : va_P D clX (wY h cI cZ n bt.testBit rk wt cl cc ow su sc od true g1 rp1 ((reps n bt rk wt cl cc od).length)) H := hP
    have hD : va_D _ (wY h cI cZ n bt.testBit rk wt cl cc ow su sc od true g1 rp1 ((reps n bt rk wt cl cc od).length)) := hD
    refine lv_iload_n hx hb d_Y_surely_18 rfl (lv_at hl 3 rfl) ?_
    refine lv_aload_n hx hb d_Y_surely_19 rfl (lv_at hl 0 rfl) ?_
    refine va_get (D := D) (ci := 1) (v := .int (nI ((reps n bt rk wt cl cc od).length))) (C := RY) (T := TY) (N := 14) hx hb hts inY hown hK hP 0 rfl rfl 13 (by decide) (hts _ f_Y_74) (fun _ h9 => h9) rfl d_Y_surely_20 ?_
    refine lv_icmp_ge (tgt := 53) hx hb d_Y_surely_23 (by decide) (fun c23 => ?_) (fun c23 => ?_)
    · have hN : i = (reps n bt rk wt cl cc od).length := lp_ge hi (by omega) c23
      refine lv_aload_n hx hb d_Y_surely_53 rfl (lv_at hl 0 rfl) ?_
      refine lv_iload_n hx hb d_Y_surely_54 rfl (lv_at hl 2 rfl) ?_
      refine rd_V (As := [.int (nI x)]) (rest := []) ⟨hx, hb, hml, hown, hts⟩ (c_Y_told l x (by have := cntB_le (P := (fun r => ((reps n bt rk wt cl cc od).getD r 0).testBit k)) (n := i); omega) (by omega)) (cwV 1 hts g_Y_80 rfl rfl rfl (by decide +kernel) ⟨Nat.le_of_ble_eq_true rfl, Nat.le_of_ble_eq_true rfl⟩) hK hP 0 rfl rfl rfl hl.1 rfl (Nat.le_of_ble_eq_true rfl) d_Y_surely_55 ⟨Nat.zero_le _, Nat.zero_le _⟩ ?_
      have hs : (rSurely n (reps n bt rk wt cl cc od) (nI k)) = (vdt (reps n bt rk wt cl cc od).length x) := by unfold rSurely; rw [if_pos hx0, nI_clamp (show k < 2 ^ 31 by omega), hI, hN]
      exact wE_iret ((n, bt, rk, wt, cl, cc, su, ow, sc, od), (true, g1, rp1, (reps n bt rk wt cl cc od).length)) hx hb hr hlocks d_Y_surely_58 hS hP ⟨rfl, (fun _ => ⟨hv, rfl⟩)⟩ (by rw [hs])
    · have hlt : i < (reps n bt rk wt cl cc od).length := lp_lt hi (by omega) c23
      refine lv_iload_n hx hb d_Y_surely_26 rfl (lv_at hl 2 rfl) ?_
      refine lv_aload_n hx hb d_Y_surely_27 rfl (lv_at hl 0 rfl) ?_
      refine va_get (D := D) (ci := 1) (v := .ref (h 8)) (C := RY) (T := TY) (N := 14) hx hb hts inY hown hK hP 0 rfl rfl 12 (by decide) (hts _ f_Y_32) (fun _ h9 => h9) rfl d_Y_surely_28 ?_
      refine lv_iload_n hx hb d_Y_surely_31 rfl (lv_at hl 3 rfl) ?_
      refine va_iald hx hb hK hP 8 0 rfl rfl (vp_in_nI (show i < 2048 by omega) (by decide)) d_Y_surely_32 ?_
      refine rd_top (z := nI (rp1 i)) (ar_nI rp1 (by omega)) ?_
      refine lv_iload_n hx hb d_Y_surely_33 rfl (lv_at hl 1 rfl) ?_
      refine rd_S (As := [.int (nI (rp1 i)), .int (nI k)]) (rest := [.int (nI x)]) ⟨hx, hb, hml, hown, hts⟩ (c_Y_has l (rp1 i) k (show rp1 i < 2 ^ 31 by rw [hv2 i hlt]; exact Nat.lt_trans (rep_lt hn hlt) (by decide)) (by omega)) (cwS 2 hts g_Y_60 rfl rfl rfl (by decide +kernel) ⟨Nat.le_of_ble_eq_true rfl, Nat.le_of_ble_eq_true rfl⟩) rfl hl.1 rfl (Nat.le_of_ble_eq_true rfl) d_Y_surely_34 ⟨Nat.zero_le _, Nat.zero_le _⟩ ?_
      refine lv_if_eq (tgt := 44) hx hb d_Y_surely_37 (by decide) (fun c37 => ?_) (fun c37 => ?_)
      · refine lv_iconst (v := 0) hx hb d_Y_surely_44 (by decide) ?_
        refine lv_iadd hx hb d_Y_surely_45 ?_
        refine rd_top (z := nI x) (Int32.add_zero _) ?_
        refine lv_istore_n (lv' := [(2, .int (nI x)), (0, .ref (h 0)), (1, .int (nI k)), (3, .int (nI i))]) hx hb d_Y_surely_46 rfl hl (by decide) rfl (fun ls hl => ?_)
        refine lv_iinc (v := (nI (i + 1))) (lv' := [(3, .int (nI (i + 1))), (2, .int (nI x)), (0, .ref (h 0)), (1, .int (nI k))]) hx hb d_Y_surely_47 hl (k := 3) rfl (nI_1 i) (by decide) rfl (fun ls hl => ?_)
        refine lv_goto (tgt := 18) hx hb d_Y_surely_50 (by decide) ?_
        exact ih hlt x ls _ _ (cnt_f hI (by show ((reps n bt rk wt cl cc od).getD i 0).testBit k = false; rw [← hv2 i hlt]; exact bI_0.mp c37)) (lv_sub hl [2, 3, 1, 0] rfl) hP hD hS
      · refine lv_iconst (v := 1) hx hb d_Y_surely_40 (by decide) ?_
        refine lv_goto (tgt := 45) hx hb d_Y_surely_41 (by decide) ?_
        refine lv_iadd hx hb d_Y_surely_45 ?_
        refine rd_top (z := nI (x + 1)) (nI_1 x) ?_
        refine lv_istore_n (lv' := [(2, .int (nI (x + 1))), (0, .ref (h 0)), (1, .int (nI k)), (3, .int (nI i))]) hx hb d_Y_surely_46 rfl hl (by decide) rfl (fun ls hl => ?_)
        refine lv_iinc (v := (nI (i + 1))) (lv' := [(3, .int (nI (i + 1))), (2, .int (nI (x + 1))), (0, .ref (h 0)), (1, .int (nI k))]) hx hb d_Y_surely_47 hl (k := 3) rfl (nI_1 i) (by decide) rfl (fun ls hl => ?_)
        refine lv_goto (tgt := 18) hx hb d_Y_surely_50 (by decide) ?_
        exact ih hlt (x + 1) ls _ _ (cnt_t hI (by show ((reps n bt rk wt cl cc od).getD i 0).testBit k = true; rw [← hv2 i hlt]; exact (show (rp1 i).testBit k = true by cases hq : (rp1 i).testBit k; exact absurd (bI_0.mpr hq) c37; rfl))) (lv_sub hl [2, 3, 1, 0] rfl) hP hD hS
  · refine lv_iconst (v := (-1)) hx hb d_Y_surely_8 (by decide) ?_
    have hs : (rSurely n (reps n bt rk wt cl cc od) x) = (-1) := by unfold rSurely; rw [if_neg (by rw [bI_0.mp c5]; decide)]
    exact wE_iret ((n, bt, rk, wt, cl, cc, su, ow, sc, od), (kn, ke, rp, rc)) hx hb hr hlocks d_Y_surely_9 hS hP ⟨rfl, hc⟩ (by rw [hs])
set_option maxHeartbeats 4000000 in
set_option maxRecDepth 100000 in
theorem c_Y_better (l : Launch) (x y o : Int32) (hg : gdA (n, bt, rk, wt, cl, cc, su, ow, sc, od)) : Met l y_Y_better w_Y_better (k2_rm 3 73) (rd_Pc D clX (wY h cI cZ n bt.testBit rk wt cl cc ow su sc od kn ke rp rc) [(cI, .int), (cZ, .boolean)] [.ref (h 0), .int x, .int y, .int o]) (k2_QcV (.int (rBetter n bt rk wt x y o))) 0 0 (fun _ => False) := by
  refine rd_met (by decide) rfl (Nat.le_of_ble_eq_true rfl) rfl ?_
  intro p e s m below meth c ls hx hb hr hml hown hts hlocks hP hK hl
  have hts : ∀ w ∈ tbl, w.before _ s = true := fun w h => hts w (List.mem_cons_of_mem _ h)
  have hown : s.vm.findClass RY = some m.cls := hown
  have hl : lv_has ls 5 [(0, .ref (h 0)), (1, .int x), (2, .int y), (3, .int o)] := hl
  obtain ⟨hn, hbt, hrk, hwt, hwp, hcc, hcl, hsc, hsa, hsu, ho⟩ := id hg
  have hlen : (reps n bt rk wt cl cc od).length ≤ 462 := rep_len hn (Nat.le_refl _) hrk hwp
  refine lv_iload_n hx hb d_Y_better_0 rfl (lv_at hl 3 rfl) ?_
  refine lv_if_lt (tgt := 9) hx hb d_Y_better_1 (by decide) (fun c1 => ?_) (fun c1 => ?_)
  · refine lv_iconst (v := (-1)) hx hb d_Y_better_9 (by decide) ?_
    exact rd_iret hx hb hr hlocks d_Y_better_10 (by unfold rBetter; rw [if_neg (show ¬ okO o = true by unfold okO; rw [decide_eq_true c1, Bool.not_true, Bool.false_and]; decide)])
  · refine lv_iload_n hx hb d_Y_better_4 rfl (lv_at hl 3 rfl) ?_
    refine lv_iconst (v := 3) hx hb d_Y_better_5 (by decide) ?_
    refine lv_icmp_le (tgt := 11) hx hb d_Y_better_6 (by decide) (fun c6 => ?_) (fun c6 => ?_)
    · have hx0 := (show okO o = true by unfold okO; rw [decide_eq_false c1, decide_eq_false (Int32.not_lt.mpr c6)]; rfl)
      obtain ⟨k, hk, ek⟩ := okO_of hx0
      subst ek
      refine lv_iconst (v := 1) hx hb d_Y_better_11 (by decide) ?_
      refine lv_aload_n hx hb d_Y_better_12 rfl (lv_at hl 0 rfl) ?_
      refine va_get (D := D) (ci := 1) (v := .int (nI n)) (C := RY) (T := TY) (N := 14) hx hb hts inY hown hK hP 0 rfl rfl 0 (by decide) (hts _ f_Y_35) (fun _ h9 => h9) rfl d_Y_better_13 ?_
      refine lv_ishl hx hb d_Y_better_16 ?_
      refine rd_top (z := nI (2 ^ n)) (bx_shl n (by omega)) ?_
      refine lv_iconst (v := 1) hx hb d_Y_better_17 (by decide) ?_
      refine lv_isub hx hb d_Y_better_18 ?_
      refine rd_top (z := nI (2 ^ n - 1)) (bx_dec (bx_pos n)) ?_
      refine lv_istore (lv' := [(4, .int (nI (2 ^ n - 1))), (0, .ref (h 0)), (1, .int x), (2, .int y), (3, .int (nI k))]) hx hb d_Y_better_19 hl (by decide) rfl (fun ls hl => ?_)
      refine lv_aload_n hx hb d_Y_better_21 rfl (lv_at hl 1 rfl) ?_
      refine lv_iload_n hx hb d_Y_better_22 rfl (lv_at hl 2 rfl) ?_
      refine lv_iload hx hb d_Y_better_23 (lv_at hl 0 rfl) ?_
      refine lv_iand hx hb d_Y_better_25 ?_
      refine rd_top (z := nI (x.toBitVec.toNat % 2 ^ n)) (mskn hn x) ?_
      refine lv_iload_n hx hb d_Y_better_26 rfl (lv_at hl 3 rfl) ?_
      refine lv_iload hx hb d_Y_better_27 (lv_at hl 0 rfl) ?_
      refine lv_iand hx hb d_Y_better_29 ?_
      refine rd_top (z := nI (y.toBitVec.toNat % 2 ^ n)) (mskn hn y) ?_
      refine lv_iload_n hx hb d_Y_better_30 rfl (lv_at hl 4 rfl) ?_
      refine rd_V (As := [.int (nI (x.toBitVec.toNat % 2 ^ n)), .int (nI (y.toBitVec.toNat % 2 ^ n)), .int (nI k)]) (rest := []) ⟨hx, hb, hml, hown, hts⟩ (c_Y_isBetter l (x.toBitVec.toNat % 2 ^ n) (y.toBitVec.toNat % 2 ^ n) k hn hrk hwt (show x.toBitVec.toNat % 2 ^ n < 2 ^ 31 from Nat.lt_of_lt_of_le (Nat.mod_lt _ (bx_pos n)) (Nat.pow_le_pow_right (by decide) (by omega))) (show y.toBitVec.toNat % 2 ^ n < 2 ^ 31 from Nat.lt_of_lt_of_le (Nat.mod_lt _ (bx_pos n)) (Nat.pow_le_pow_right (by decide) (by omega))) hk) (cwV 3 hts g_Y_67 rfl rfl rfl (by decide +kernel) ⟨Nat.le_of_ble_eq_true rfl, Nat.le_of_ble_eq_true rfl⟩) hK hP 0 rfl rfl rfl hl.1 rfl (Nat.le_of_ble_eq_true rfl) d_Y_better_31 ⟨Nat.zero_le _, Nat.zero_le _⟩ ?_
      refine lv_if_eq (tgt := 41) hx hb d_Y_better_34 (by decide) (fun c34 => ?_) (fun c34 => ?_)
      · refine lv_iconst (v := 0) hx hb d_Y_better_41 (by decide) ?_
        exact rd_iret hx hb hr hlocks d_Y_better_42 (by unfold rBetter; rw [if_pos hx0, nI_clamp (show k < 2 ^ 31 by omega), ← bet_eq hn hrk hk, bI_0.mp c34]; rfl)
      · refine lv_iconst (v := 1) hx hb d_Y_better_37 (by decide) ?_
        refine lv_goto (tgt := 42) hx hb d_Y_better_38 (by decide) ?_
        exact rd_iret hx hb hr hlocks d_Y_better_42 (by unfold rBetter; rw [if_pos hx0, nI_clamp (show k < 2 ^ 31 by omega), ← bet_eq hn hrk hk, show betY n bt rk wt (x.toBitVec.toNat % 2 ^ n) (y.toBitVec.toNat % 2 ^ n) k = true by cases hq : betY n bt rk wt (x.toBitVec.toNat % 2 ^ n) (y.toBitVec.toNat % 2 ^ n) k; exact absurd (bI_0.mpr hq) c34; rfl]; rfl)
    · refine lv_iconst (v := (-1)) hx hb d_Y_better_9 (by decide) ?_
      exact rd_iret hx hb hr hlocks d_Y_better_10 (by unfold rBetter; rw [if_neg (show ¬ okO o = true by unfold okO; rw [decide_eq_true (Int32.not_le.mp c6), Bool.not_true, Bool.and_false]; decide)])
end MY5
end
section
theorem va_same {D : va_G} {cl : List vw_C} {tys : List (ClassId × FieldType)} {s : State} (hK : va_K D cl tys s) {i j : Nat} {c1 c2 : ClassId} {t : FieldType} (h1 : tys[i]? = some (c1, t)) (h2 : tys[j]? = some (c2, t)) (ht : t = .int ∨ t = .boolean) : c1 = c2 := by
  have a := (hK.2 i _ h1).2
  have b := (hK.2 j _ h2).2
  rcases ht with rfl | rfl
  · exact Option.some.inj (a.symm.trans b)
  · exact Option.some.inj (a.symm.trans b)
set_option maxHeartbeats 4000000 in
set_option maxRecDepth 100000 in
theorem c_X_init (l : Launch) (D : va_G) (h0 sz : Nat) : Met l y_X_init w_X_init ({ frames := 1, cells := 8, slots := 2623, locals := 20 }) (va_Pc [.ref h0] (fun U => U.heap.size = sz ∧ va_P D clX [(h0, .inr (0, [.int 0, .int 0, .null, .null, .null, .int 0, .null, .null, .int 0, .int 0, .int 0, .null, .null, .null, .int 0]))] U.heap ∧ va_K D clX [] U ∧ va_D (fun _ => True) [(h0, .inr (0, [.int 0, .int 0, .null, .null, .null, .int 0, .null, .null, .int 0, .int 0, .int 0, .null, .null, .null, .int 0]))])) (va_Qv (fun u : (Nat → Nat) × ClassId × ClassId => u.1 0 = h0) (fun u t => va_P D clX (wX u.1 u.2.1 u.2.2 0 0 (fun _ => 0) (fun _ => 0) (fun _ => 0) 0 (fun _ => 0) (fun _ => 0) 0 0 false (fun _ => false) (fun _ => 0) (fun _ => 0) 0) t.heap ∧ va_K D clX [(u.2.1, .int), (u.2.2, .boolean)] t ∧ va_D (va_A [(h0, .inr (0, [.int 0, .int 0, .null, .null, .null, .int 0, .null, .null, .int 0, .int 0, .int 0, .null, .null, .null, .int 0]))] sz) (wX u.1 u.2.1 u.2.2 0 0 (fun _ => 0) (fun _ => 0) (fun _ => 0) 0 (fun _ => 0) (fun _ => 0) 0 0 false (fun _ => false) (fun _ => 0) (fun _ => 0) 0)) (va_A [(h0, .inr (0, [.int 0, .int 0, .null, .null, .null, .int 0, .null, .null, .int 0, .int 0, .int 0, .null, .null, .null, .int 0]))] sz)) 8 2623 (va_A [(h0, .inr (0, [.int 0, .int 0, .null, .null, .null, .int 0, .null, .null, .int 0, .int 0, .int 0, .null, .null, .null, .int 0]))] sz) := by
  refine Met.ofW (cc := b_X_init) (maxL := 1) (ret := none) (by decide) rfl ?_
  intro p e s m args below meth c s₁ B hml hv
  obtain ⟨rfl, hsz, hP, hK, hD0⟩ := hv
  have hx := B.exec
  have hb := B.bytes
  have hr := B.returns
  have hts0 := atoms_spec (ws := w_X_init) B.pre
  have hts : ∀ w ∈ tbl, w.before _ s = true := fun w h => hts0 w (List.mem_cons_of_mem _ h)
  have hown : s.vm.findClass RX = some m.cls := findClass_of_methodNamed B.named
  have hlocks := B.notSynchronized
  have hin : meth.name = "<init>" := (name_of_methodNamed B.named B.method).1
  subst hsz
  have hD := hD0.self (sz := s.heap.size)
  generalize hAe : va_A [(h0, .inr (0, [.int 0, .int 0, .null, .null, .null, .int 0, .null, .null, .int 0, .int 0, .int 0, .null, .null, .null, .int 0]))] s.heap.size = A at hD ⊢
  have hA : ∀ q : Nat, s.heap.size ≤ q → A q := fun q h => by rw [← hAe]; exact Or.inr h
  have hS : va_S A s.heap s.heap [] := va_S.rf
  have hl := lv_entry ([.ref h0]) (n := 1) (Nat.le_of_ble_eq_true rfl)
  rw [lg_entry_eq]
  generalize (lg_sl ([.ref h0]) ++ List.replicate (1 - (lg_sl ([.ref h0])).length) Slot.unset).toArray = ls at hl ⊢
  have hl : lv_has ls 1 [(0, .ref h0)] := hl
  refine lv_aload_n hx hb d_X_init_0 rfl (lv_at hl 0 rfl) ?_
  refine W.objInit hx hb hown (hts _ l_X_3) (hts _ h_objk) (hts _ h_objc) rfl (by rw [hml]; exact hl.1) rfl d_X_init_1 (Nat.le_of_ble_eq_true rfl) (Nat.le_of_ble_eq_true rfl) ?_
  refine W.eq (g2 := F0 m 4 ls []) rfl ?_
  refine lv_aload_n hx hb d_X_init_4 rfl (lv_at hl 0 rfl) ?_
  refine lv_iconst (v := 0) hx hb d_X_init_5 (by decide) ?_
  refine va_put (D := D) (ci := 0) (v := .int 0) (ty := .int) (C := RX) (T := TX) (N := 15) hx hb hts inX tyX tyX_ok nmX hown hK hP hD hS 0 rfl rfl 0 (by decide) (hts _ f_X_9) (fun _ h9 => h9) rfl (by decide +kernel) rfl rfl (Nat.le_of_ble_eq_true rfl) d_X_init_6 (fun H locs hP hD hS => ?_)
  have hP : va_P D clX [(h0, .inr (0, [.int 0, .int 0, .null, .null, .null, .int 0, .null, .null, .int 0, .int 0, .int 0, .null, .null, .null, .int 0]))] H := hP
  have hD : va_D A [(h0, .inr (0, [.int 0, .int 0, .null, .null, .null, .int 0, .null, .null, .int 0, .int 0, .int 0, .null, .null, .null, .int 0]))] := hD
  refine lv_aload_n hx hb d_X_init_9 rfl (lv_at hl 0 rfl) ?_
  refine lv_iconst (v := 0) hx hb d_X_init_10 (by decide) ?_
  refine va_put (D := D) (ci := 0) (v := .int 0) (ty := .int) (C := RX) (T := TX) (N := 15) hx hb hts inX tyX tyX_ok nmX hown hK hP hD hS 0 rfl rfl 1 (by decide) (hts _ f_X_13) (fun _ h9 => h9) rfl (by decide +kernel) rfl rfl (Nat.le_of_ble_eq_true rfl) d_X_init_11 (fun H locs hP hD hS => ?_)
  have hP : va_P D clX [(h0, .inr (0, [.int 0, .int 0, .null, .null, .null, .int 0, .null, .null, .int 0, .int 0, .int 0, .null, .null, .null, .int 0]))] H := hP
  have hD : va_D A [(h0, .inr (0, [.int 0, .int 0, .null, .null, .null, .int 0, .null, .null, .int 0, .int 0, .int 0, .null, .null, .null, .int 0]))] := hD
  refine lv_aload_n hx hb d_X_init_14 rfl (lv_at hl 0 rfl) ?_
  refine lv_bipush (v := 11) hx hb d_X_init_15 (by decide) ?_
  refine va_newa (atype := .int) (ty := .int) (a0 := (11, .inl (fun _ => 0))) hx hb (hts _ h_arr_int) rfl hK hP hD hS hA (fun _ => rfl) (by decide) (by decide) (by decide) (Nat.le_of_ble_eq_true rfl) (Nat.le_of_ble_eq_true rfl) d_X_init_17 (fun q1 cI H hK hP hD hS => ?_)
  have hK : va_K D clX [(cI, .int)] s := hK
  have hP : va_P D clX [(h0, .inr (0, [.int 0, .int 0, .null, .null, .null, .int 0, .null, .null, .int 0, .int 0, .int 0, .null, .null, .null, .int 0])), (q1, .inl (cI, 11, .inl (fun _ => 0)))] H := hP
  have hD : va_D A [(h0, .inr (0, [.int 0, .int 0, .null, .null, .null, .int 0, .null, .null, .int 0, .int 0, .int 0, .null, .null, .null, .int 0])), (q1, .inl (cI, 11, .inl (fun _ => 0)))] := hD
  refine va_putF (D := D) (ci := 0) (v := .ref q1) (ty := (.array .int)) (C := RX) (T := TX) (N := 15) hx hb hts inX tyX tyX_ok nmX hown hK hP hD hS 0 rfl rfl 2 (by decide) (hts _ f_X_16) (fun _ h9 => h9) rfl hin rfl (by decide +kernel) rfl rfl (Nat.le_of_ble_eq_true rfl) d_X_init_19 (fun H locs hP hD hS => ?_)
  have hP : va_P D clX [(h0, .inr (0, [.int 0, .int 0, .ref q1, .null, .null, .int 0, .null, .null, .int 0, .int 0, .int 0, .null, .null, .null, .int 0])), (q1, .inl (cI, 11, .inl (fun _ => 0)))] H := hP
  have hD : va_D A [(h0, .inr (0, [.int 0, .int 0, .ref q1, .null, .null, .int 0, .null, .null, .int 0, .int 0, .int 0, .null, .null, .null, .int 0])), (q1, .inl (cI, 11, .inl (fun _ => 0)))] := hD
  refine lv_aload_n hx hb d_X_init_22 rfl (lv_at hl 0 rfl) ?_
  refine lv_bipush (v := 11) hx hb d_X_init_23 (by decide) ?_
  refine va_newa (atype := .int) (ty := .int) (a0 := (11, .inl (fun _ => 0))) hx hb (hts _ h_arr_int) rfl hK hP hD hS hA (fun _ => rfl) (by decide) (by decide) (by decide) (Nat.le_of_ble_eq_true rfl) (Nat.le_of_ble_eq_true rfl) d_X_init_25 (fun q2 cA2 H hK hP hD hS => ?_)
  obtain rfl : cI = cA2 := va_same hK (i := 0) (j := 1) rfl rfl (by first | exact Or.inl rfl | exact Or.inr rfl)
  have hK := hK.sub (tys' := [(cI, .int)]) [0] rfl
  have hK : va_K D clX [(cI, .int)] s := hK
  have hP : va_P D clX [(h0, .inr (0, [.int 0, .int 0, .ref q1, .null, .null, .int 0, .null, .null, .int 0, .int 0, .int 0, .null, .null, .null, .int 0])), (q1, .inl (cI, 11, .inl (fun _ => 0))), (q2, .inl (cI, 11, .inl (fun _ => 0)))] H := hP
  have hD : va_D A [(h0, .inr (0, [.int 0, .int 0, .ref q1, .null, .null, .int 0, .null, .null, .int 0, .int 0, .int 0, .null, .null, .null, .int 0])), (q1, .inl (cI, 11, .inl (fun _ => 0))), (q2, .inl (cI, 11, .inl (fun _ => 0)))] := hD
  refine va_putF (D := D) (ci := 0) (v := .ref q2) (ty := (.array .int)) (C := RX) (T := TX) (N := 15) hx hb hts inX tyX tyX_ok nmX hown hK hP hD hS 0 rfl rfl 3 (by decide) (hts _ f_X_20) (fun _ h9 => h9) rfl hin rfl (by decide +kernel) rfl rfl (Nat.le_of_ble_eq_true rfl) d_X_init_27 (fun H locs hP hD hS => ?_)
  have hP : va_P D clX [(h0, .inr (0, [.int 0, .int 0, .ref q1, .ref q2, .null, .int 0, .null, .null, .int 0, .int 0, .int 0, .null, .null, .null, .int 0])), (q1, .inl (cI, 11, .inl (fun _ => 0))), (q2, .inl (cI, 11, .inl (fun _ => 0)))] H := hP
  have hD : va_D A [(h0, .inr (0, [.int 0, .int 0, .ref q1, .ref q2, .null, .int 0, .null, .null, .int 0, .int 0, .int 0, .null, .null, .null, .int 0])), (q1, .inl (cI, 11, .inl (fun _ => 0))), (q2, .inl (cI, 11, .inl (fun _ => 0)))] := hD
  refine lv_aload_n hx hb d_X_init_30 rfl (lv_at hl 0 rfl) ?_
  refine lv_bipush (v := 40) hx hb d_X_init_31 (by decide) ?_
  refine va_newa (atype := .int) (ty := .int) (a0 := (40, .inl (fun _ => 0))) hx hb (hts _ h_arr_int) rfl hK hP hD hS hA (fun _ => rfl) (by decide) (by decide) (by decide) (Nat.le_of_ble_eq_true rfl) (Nat.le_of_ble_eq_true rfl) d_X_init_33 (fun q3 cA3 H hK hP hD hS => ?_)
  obtain rfl : cI = cA3 := va_same hK (i := 0) (j := 1) rfl rfl (by first | exact Or.inl rfl | exact Or.inr rfl)
  have hK := hK.sub (tys' := [(cI, .int)]) [0] rfl
  have hK : va_K D clX [(cI, .int)] s := hK
  have hP : va_P D clX [(h0, .inr (0, [.int 0, .int 0, .ref q1, .ref q2, .null, .int 0, .null, .null, .int 0, .int 0, .int 0, .null, .null, .null, .int 0])), (q1, .inl (cI, 11, .inl (fun _ => 0))), (q2, .inl (cI, 11, .inl (fun _ => 0))), (q3, .inl (cI, 40, .inl (fun _ => 0)))] H := hP
  have hD : va_D A [(h0, .inr (0, [.int 0, .int 0, .ref q1, .ref q2, .null, .int 0, .null, .null, .int 0, .int 0, .int 0, .null, .null, .null, .int 0])), (q1, .inl (cI, 11, .inl (fun _ => 0))), (q2, .inl (cI, 11, .inl (fun _ => 0))), (q3, .inl (cI, 40, .inl (fun _ => 0)))] := hD
  refine va_putF (D := D) (ci := 0) (v := .ref q3) (ty := (.array .int)) (C := RX) (T := TX) (N := 15) hx hb hts inX tyX tyX_ok nmX hown hK hP hD hS 0 rfl rfl 4 (by decide) (hts _ f_X_23) (fun _ h9 => h9) rfl hin rfl (by decide +kernel) rfl rfl (Nat.le_of_ble_eq_true rfl) d_X_init_35 (fun H locs hP hD hS => ?_)
  have hP : va_P D clX [(h0, .inr (0, [.int 0, .int 0, .ref q1, .ref q2, .ref q3, .int 0, .null, .null, .int 0, .int 0, .int 0, .null, .null, .null, .int 0])), (q1, .inl (cI, 11, .inl (fun _ => 0))), (q2, .inl (cI, 11, .inl (fun _ => 0))), (q3, .inl (cI, 40, .inl (fun _ => 0)))] H := hP
  have hD : va_D A [(h0, .inr (0, [.int 0, .int 0, .ref q1, .ref q2, .ref q3, .int 0, .null, .null, .int 0, .int 0, .int 0, .null, .null, .null, .int 0])), (q1, .inl (cI, 11, .inl (fun _ => 0))), (q2, .inl (cI, 11, .inl (fun _ => 0))), (q3, .inl (cI, 40, .inl (fun _ => 0)))] := hD
  refine lv_aload_n hx hb d_X_init_38 rfl (lv_at hl 0 rfl) ?_
  refine lv_iconst (v := 0) hx hb d_X_init_39 (by decide) ?_
  refine va_put (D := D) (ci := 0) (v := .int 0) (ty := .int) (C := RX) (T := TX) (N := 15) hx hb hts inX tyX tyX_ok nmX hown hK hP hD hS 0 rfl rfl 5 (by decide) (hts _ f_X_26) (fun _ h9 => h9) rfl (by decide +kernel) rfl rfl (Nat.le_of_ble_eq_true rfl) d_X_init_40 (fun H locs hP hD hS => ?_)
  have hP : va_P D clX [(h0, .inr (0, [.int 0, .int 0, .ref q1, .ref q2, .ref q3, .int 0, .null, .null, .int 0, .int 0, .int 0, .null, .null, .null, .int 0])), (q1, .inl (cI, 11, .inl (fun _ => 0))), (q2, .inl (cI, 11, .inl (fun _ => 0))), (q3, .inl (cI, 40, .inl (fun _ => 0)))] H := hP
  have hD : va_D A [(h0, .inr (0, [.int 0, .int 0, .ref q1, .ref q2, .ref q3, .int 0, .null, .null, .int 0, .int 0, .int 0, .null, .null, .null, .int 0])), (q1, .inl (cI, 11, .inl (fun _ => 0))), (q2, .inl (cI, 11, .inl (fun _ => 0))), (q3, .inl (cI, 40, .inl (fun _ => 0)))] := hD
  refine lv_aload_n hx hb d_X_init_43 rfl (lv_at hl 0 rfl) ?_
  refine lv_bipush (v := 20) hx hb d_X_init_44 (by decide) ?_
  refine va_newa (atype := .int) (ty := .int) (a0 := (20, .inl (fun _ => 0))) hx hb (hts _ h_arr_int) rfl hK hP hD hS hA (fun _ => rfl) (by decide) (by decide) (by decide) (Nat.le_of_ble_eq_true rfl) (Nat.le_of_ble_eq_true rfl) d_X_init_46 (fun q4 cA4 H hK hP hD hS => ?_)
  obtain rfl : cI = cA4 := va_same hK (i := 0) (j := 1) rfl rfl (by first | exact Or.inl rfl | exact Or.inr rfl)
  have hK := hK.sub (tys' := [(cI, .int)]) [0] rfl
  have hK : va_K D clX [(cI, .int)] s := hK
  have hP : va_P D clX [(h0, .inr (0, [.int 0, .int 0, .ref q1, .ref q2, .ref q3, .int 0, .null, .null, .int 0, .int 0, .int 0, .null, .null, .null, .int 0])), (q1, .inl (cI, 11, .inl (fun _ => 0))), (q2, .inl (cI, 11, .inl (fun _ => 0))), (q3, .inl (cI, 40, .inl (fun _ => 0))), (q4, .inl (cI, 20, .inl (fun _ => 0)))] H := hP
  have hD : va_D A [(h0, .inr (0, [.int 0, .int 0, .ref q1, .ref q2, .ref q3, .int 0, .null, .null, .int 0, .int 0, .int 0, .null, .null, .null, .int 0])), (q1, .inl (cI, 11, .inl (fun _ => 0))), (q2, .inl (cI, 11, .inl (fun _ => 0))), (q3, .inl (cI, 40, .inl (fun _ => 0))), (q4, .inl (cI, 20, .inl (fun _ => 0)))] := hD
  refine va_putF (D := D) (ci := 0) (v := .ref q4) (ty := (.array .int)) (C := RX) (T := TX) (N := 15) hx hb hts inX tyX tyX_ok nmX hown hK hP hD hS 0 rfl rfl 6 (by decide) (hts _ f_X_29) (fun _ h9 => h9) rfl hin rfl (by decide +kernel) rfl rfl (Nat.le_of_ble_eq_true rfl) d_X_init_48 (fun H locs hP hD hS => ?_)
  have hP : va_P D clX [(h0, .inr (0, [.int 0, .int 0, .ref q1, .ref q2, .ref q3, .int 0, .ref q4, .null, .int 0, .int 0, .int 0, .null, .null, .null, .int 0])), (q1, .inl (cI, 11, .inl (fun _ => 0))), (q2, .inl (cI, 11, .inl (fun _ => 0))), (q3, .inl (cI, 40, .inl (fun _ => 0))), (q4, .inl (cI, 20, .inl (fun _ => 0)))] H := hP
  have hD : va_D A [(h0, .inr (0, [.int 0, .int 0, .ref q1, .ref q2, .ref q3, .int 0, .ref q4, .null, .int 0, .int 0, .int 0, .null, .null, .null, .int 0])), (q1, .inl (cI, 11, .inl (fun _ => 0))), (q2, .inl (cI, 11, .inl (fun _ => 0))), (q3, .inl (cI, 40, .inl (fun _ => 0))), (q4, .inl (cI, 20, .inl (fun _ => 0)))] := hD
  refine lv_aload_n hx hb d_X_init_51 rfl (lv_at hl 0 rfl) ?_
  refine lv_bipush (v := 20) hx hb d_X_init_52 (by decide) ?_
  refine va_newa (atype := .int) (ty := .int) (a0 := (20, .inl (fun _ => 0))) hx hb (hts _ h_arr_int) rfl hK hP hD hS hA (fun _ => rfl) (by decide) (by decide) (by decide) (Nat.le_of_ble_eq_true rfl) (Nat.le_of_ble_eq_true rfl) d_X_init_54 (fun q5 cA5 H hK hP hD hS => ?_)
  obtain rfl : cI = cA5 := va_same hK (i := 0) (j := 1) rfl rfl (by first | exact Or.inl rfl | exact Or.inr rfl)
  have hK := hK.sub (tys' := [(cI, .int)]) [0] rfl
  have hK : va_K D clX [(cI, .int)] s := hK
  have hP : va_P D clX [(h0, .inr (0, [.int 0, .int 0, .ref q1, .ref q2, .ref q3, .int 0, .ref q4, .null, .int 0, .int 0, .int 0, .null, .null, .null, .int 0])), (q1, .inl (cI, 11, .inl (fun _ => 0))), (q2, .inl (cI, 11, .inl (fun _ => 0))), (q3, .inl (cI, 40, .inl (fun _ => 0))), (q4, .inl (cI, 20, .inl (fun _ => 0))), (q5, .inl (cI, 20, .inl (fun _ => 0)))] H := hP
  have hD : va_D A [(h0, .inr (0, [.int 0, .int 0, .ref q1, .ref q2, .ref q3, .int 0, .ref q4, .null, .int 0, .int 0, .int 0, .null, .null, .null, .int 0])), (q1, .inl (cI, 11, .inl (fun _ => 0))), (q2, .inl (cI, 11, .inl (fun _ => 0))), (q3, .inl (cI, 40, .inl (fun _ => 0))), (q4, .inl (cI, 20, .inl (fun _ => 0))), (q5, .inl (cI, 20, .inl (fun _ => 0)))] := hD
  refine va_putF (D := D) (ci := 0) (v := .ref q5) (ty := (.array .int)) (C := RX) (T := TX) (N := 15) hx hb hts inX tyX tyX_ok nmX hown hK hP hD hS 0 rfl rfl 7 (by decide) (hts _ f_X_32) (fun _ h9 => h9) rfl hin rfl (by decide +kernel) rfl rfl (Nat.le_of_ble_eq_true rfl) d_X_init_56 (fun H locs hP hD hS => ?_)
  have hP : va_P D clX [(h0, .inr (0, [.int 0, .int 0, .ref q1, .ref q2, .ref q3, .int 0, .ref q4, .ref q5, .int 0, .int 0, .int 0, .null, .null, .null, .int 0])), (q1, .inl (cI, 11, .inl (fun _ => 0))), (q2, .inl (cI, 11, .inl (fun _ => 0))), (q3, .inl (cI, 40, .inl (fun _ => 0))), (q4, .inl (cI, 20, .inl (fun _ => 0))), (q5, .inl (cI, 20, .inl (fun _ => 0)))] H := hP
  have hD : va_D A [(h0, .inr (0, [.int 0, .int 0, .ref q1, .ref q2, .ref q3, .int 0, .ref q4, .ref q5, .int 0, .int 0, .int 0, .null, .null, .null, .int 0])), (q1, .inl (cI, 11, .inl (fun _ => 0))), (q2, .inl (cI, 11, .inl (fun _ => 0))), (q3, .inl (cI, 40, .inl (fun _ => 0))), (q4, .inl (cI, 20, .inl (fun _ => 0))), (q5, .inl (cI, 20, .inl (fun _ => 0)))] := hD
  refine lv_aload_n hx hb d_X_init_59 rfl (lv_at hl 0 rfl) ?_
  refine lv_iconst (v := 0) hx hb d_X_init_60 (by decide) ?_
  refine va_put (D := D) (ci := 0) (v := .int 0) (ty := .int) (C := RX) (T := TX) (N := 15) hx hb hts inX tyX tyX_ok nmX hown hK hP hD hS 0 rfl rfl 8 (by decide) (hts _ f_X_35) (fun _ h9 => h9) rfl (by decide +kernel) rfl rfl (Nat.le_of_ble_eq_true rfl) d_X_init_61 (fun H locs hP hD hS => ?_)
  have hP : va_P D clX [(h0, .inr (0, [.int 0, .int 0, .ref q1, .ref q2, .ref q3, .int 0, .ref q4, .ref q5, .int 0, .int 0, .int 0, .null, .null, .null, .int 0])), (q1, .inl (cI, 11, .inl (fun _ => 0))), (q2, .inl (cI, 11, .inl (fun _ => 0))), (q3, .inl (cI, 40, .inl (fun _ => 0))), (q4, .inl (cI, 20, .inl (fun _ => 0))), (q5, .inl (cI, 20, .inl (fun _ => 0)))] H := hP
  have hD : va_D A [(h0, .inr (0, [.int 0, .int 0, .ref q1, .ref q2, .ref q3, .int 0, .ref q4, .ref q5, .int 0, .int 0, .int 0, .null, .null, .null, .int 0])), (q1, .inl (cI, 11, .inl (fun _ => 0))), (q2, .inl (cI, 11, .inl (fun _ => 0))), (q3, .inl (cI, 40, .inl (fun _ => 0))), (q4, .inl (cI, 20, .inl (fun _ => 0))), (q5, .inl (cI, 20, .inl (fun _ => 0)))] := hD
  refine lv_aload_n hx hb d_X_init_64 rfl (lv_at hl 0 rfl) ?_
  refine lv_iconst (v := 0) hx hb d_X_init_65 (by decide) ?_
  refine va_put (D := D) (ci := 0) (v := .int 0) (ty := .int) (C := RX) (T := TX) (N := 15) hx hb hts inX tyX tyX_ok nmX hown hK hP hD hS 0 rfl rfl 9 (by decide) (hts _ f_X_38) (fun _ h9 => h9) rfl (by decide +kernel) rfl rfl (Nat.le_of_ble_eq_true rfl) d_X_init_66 (fun H locs hP hD hS => ?_)
  have hP : va_P D clX [(h0, .inr (0, [.int 0, .int 0, .ref q1, .ref q2, .ref q3, .int 0, .ref q4, .ref q5, .int 0, .int 0, .int 0, .null, .null, .null, .int 0])), (q1, .inl (cI, 11, .inl (fun _ => 0))), (q2, .inl (cI, 11, .inl (fun _ => 0))), (q3, .inl (cI, 40, .inl (fun _ => 0))), (q4, .inl (cI, 20, .inl (fun _ => 0))), (q5, .inl (cI, 20, .inl (fun _ => 0)))] H := hP
  have hD : va_D A [(h0, .inr (0, [.int 0, .int 0, .ref q1, .ref q2, .ref q3, .int 0, .ref q4, .ref q5, .int 0, .int 0, .int 0, .null, .null, .null, .int 0])), (q1, .inl (cI, 11, .inl (fun _ => 0))), (q2, .inl (cI, 11, .inl (fun _ => 0))), (q3, .inl (cI, 40, .inl (fun _ => 0))), (q4, .inl (cI, 20, .inl (fun _ => 0))), (q5, .inl (cI, 20, .inl (fun _ => 0)))] := hD
  refine lv_aload_n hx hb d_X_init_69 rfl (lv_at hl 0 rfl) ?_
  refine lv_iconst (v := 0) hx hb d_X_init_70 (by decide) ?_
  refine va_put (D := D) (ci := 0) (v := .int 0) (ty := .boolean) (C := RX) (T := TX) (N := 15) hx hb hts inX tyX tyX_ok nmX hown hK hP hD hS 0 rfl rfl 10 (by decide) (hts _ f_X_41) (fun _ h9 => h9) rfl (by decide +kernel) rfl rfl (Nat.le_of_ble_eq_true rfl) d_X_init_71 (fun H locs hP hD hS => ?_)
  have hP : va_P D clX [(h0, .inr (0, [.int 0, .int 0, .ref q1, .ref q2, .ref q3, .int 0, .ref q4, .ref q5, .int 0, .int 0, .int 0, .null, .null, .null, .int 0])), (q1, .inl (cI, 11, .inl (fun _ => 0))), (q2, .inl (cI, 11, .inl (fun _ => 0))), (q3, .inl (cI, 40, .inl (fun _ => 0))), (q4, .inl (cI, 20, .inl (fun _ => 0))), (q5, .inl (cI, 20, .inl (fun _ => 0)))] H := hP
  have hD : va_D A [(h0, .inr (0, [.int 0, .int 0, .ref q1, .ref q2, .ref q3, .int 0, .ref q4, .ref q5, .int 0, .int 0, .int 0, .null, .null, .null, .int 0])), (q1, .inl (cI, 11, .inl (fun _ => 0))), (q2, .inl (cI, 11, .inl (fun _ => 0))), (q3, .inl (cI, 40, .inl (fun _ => 0))), (q4, .inl (cI, 20, .inl (fun _ => 0))), (q5, .inl (cI, 20, .inl (fun _ => 0)))] := hD
  refine lv_aload_n hx hb d_X_init_74 rfl (lv_at hl 0 rfl) ?_
  refine lv_sipush (v := 2048) hx hb d_X_init_75 (by decide) ?_
  refine va_newa (atype := .boolean) (ty := .boolean) (a0 := (2048, .inl (fun _ => 0))) hx hb (hts _ h_arr_boolean) rfl hK hP hD hS hA (fun _ => rfl) (by decide) (by decide) (by decide) (Nat.le_of_ble_eq_true rfl) (Nat.le_of_ble_eq_true rfl) d_X_init_78 (fun q6 cZ H hK hP hD hS => ?_)
  have hK : va_K D clX [(cI, .int), (cZ, .boolean)] s := hK
  have hP : va_P D clX [(h0, .inr (0, [.int 0, .int 0, .ref q1, .ref q2, .ref q3, .int 0, .ref q4, .ref q5, .int 0, .int 0, .int 0, .null, .null, .null, .int 0])), (q1, .inl (cI, 11, .inl (fun _ => 0))), (q2, .inl (cI, 11, .inl (fun _ => 0))), (q3, .inl (cI, 40, .inl (fun _ => 0))), (q4, .inl (cI, 20, .inl (fun _ => 0))), (q5, .inl (cI, 20, .inl (fun _ => 0))), (q6, .inl (cZ, 2048, .inl (fun _ => 0)))] H := hP
  have hD : va_D A [(h0, .inr (0, [.int 0, .int 0, .ref q1, .ref q2, .ref q3, .int 0, .ref q4, .ref q5, .int 0, .int 0, .int 0, .null, .null, .null, .int 0])), (q1, .inl (cI, 11, .inl (fun _ => 0))), (q2, .inl (cI, 11, .inl (fun _ => 0))), (q3, .inl (cI, 40, .inl (fun _ => 0))), (q4, .inl (cI, 20, .inl (fun _ => 0))), (q5, .inl (cI, 20, .inl (fun _ => 0))), (q6, .inl (cZ, 2048, .inl (fun _ => 0)))] := hD
  refine va_putF (D := D) (ci := 0) (v := .ref q6) (ty := (.array .boolean)) (C := RX) (T := TX) (N := 15) hx hb hts inX tyX tyX_ok nmX hown hK hP hD hS 0 rfl rfl 11 (by decide) (hts _ f_X_45) (fun _ h9 => h9) rfl hin rfl (by decide +kernel) rfl rfl (Nat.le_of_ble_eq_true rfl) d_X_init_80 (fun H locs hP hD hS => ?_)
  have hP : va_P D clX [(h0, .inr (0, [.int 0, .int 0, .ref q1, .ref q2, .ref q3, .int 0, .ref q4, .ref q5, .int 0, .int 0, .int 0, .ref q6, .null, .null, .int 0])), (q1, .inl (cI, 11, .inl (fun _ => 0))), (q2, .inl (cI, 11, .inl (fun _ => 0))), (q3, .inl (cI, 40, .inl (fun _ => 0))), (q4, .inl (cI, 20, .inl (fun _ => 0))), (q5, .inl (cI, 20, .inl (fun _ => 0))), (q6, .inl (cZ, 2048, .inl (fun _ => 0)))] H := hP
  have hD : va_D A [(h0, .inr (0, [.int 0, .int 0, .ref q1, .ref q2, .ref q3, .int 0, .ref q4, .ref q5, .int 0, .int 0, .int 0, .ref q6, .null, .null, .int 0])), (q1, .inl (cI, 11, .inl (fun _ => 0))), (q2, .inl (cI, 11, .inl (fun _ => 0))), (q3, .inl (cI, 40, .inl (fun _ => 0))), (q4, .inl (cI, 20, .inl (fun _ => 0))), (q5, .inl (cI, 20, .inl (fun _ => 0))), (q6, .inl (cZ, 2048, .inl (fun _ => 0)))] := hD
  refine lv_aload_n hx hb d_X_init_83 rfl (lv_at hl 0 rfl) ?_
  refine lv_bipush (v := 11) hx hb d_X_init_84 (by decide) ?_
  refine va_newa (atype := .int) (ty := .int) (a0 := (11, .inl (fun _ => 0))) hx hb (hts _ h_arr_int) rfl hK hP hD hS hA (fun _ => rfl) (by decide) (by decide) (by decide) (Nat.le_of_ble_eq_true rfl) (Nat.le_of_ble_eq_true rfl) d_X_init_86 (fun q7 cA7 H hK hP hD hS => ?_)
  obtain rfl : cI = cA7 := va_same hK (i := 0) (j := 2) rfl rfl (by first | exact Or.inl rfl | exact Or.inr rfl)
  have hK := hK.sub (tys' := [(cI, .int), (cZ, .boolean)]) [0, 1] rfl
  have hK : va_K D clX [(cI, .int), (cZ, .boolean)] s := hK
  have hP : va_P D clX [(h0, .inr (0, [.int 0, .int 0, .ref q1, .ref q2, .ref q3, .int 0, .ref q4, .ref q5, .int 0, .int 0, .int 0, .ref q6, .null, .null, .int 0])), (q1, .inl (cI, 11, .inl (fun _ => 0))), (q2, .inl (cI, 11, .inl (fun _ => 0))), (q3, .inl (cI, 40, .inl (fun _ => 0))), (q4, .inl (cI, 20, .inl (fun _ => 0))), (q5, .inl (cI, 20, .inl (fun _ => 0))), (q6, .inl (cZ, 2048, .inl (fun _ => 0))), (q7, .inl (cI, 11, .inl (fun _ => 0)))] H := hP
  have hD : va_D A [(h0, .inr (0, [.int 0, .int 0, .ref q1, .ref q2, .ref q3, .int 0, .ref q4, .ref q5, .int 0, .int 0, .int 0, .ref q6, .null, .null, .int 0])), (q1, .inl (cI, 11, .inl (fun _ => 0))), (q2, .inl (cI, 11, .inl (fun _ => 0))), (q3, .inl (cI, 40, .inl (fun _ => 0))), (q4, .inl (cI, 20, .inl (fun _ => 0))), (q5, .inl (cI, 20, .inl (fun _ => 0))), (q6, .inl (cZ, 2048, .inl (fun _ => 0))), (q7, .inl (cI, 11, .inl (fun _ => 0)))] := hD
  refine va_putF (D := D) (ci := 0) (v := .ref q7) (ty := (.array .int)) (C := RX) (T := TX) (N := 15) hx hb hts inX tyX tyX_ok nmX hown hK hP hD hS 0 rfl rfl 12 (by decide) (hts _ f_X_49) (fun _ h9 => h9) rfl hin rfl (by decide +kernel) rfl rfl (Nat.le_of_ble_eq_true rfl) d_X_init_88 (fun H locs hP hD hS => ?_)
  have hP : va_P D clX [(h0, .inr (0, [.int 0, .int 0, .ref q1, .ref q2, .ref q3, .int 0, .ref q4, .ref q5, .int 0, .int 0, .int 0, .ref q6, .ref q7, .null, .int 0])), (q1, .inl (cI, 11, .inl (fun _ => 0))), (q2, .inl (cI, 11, .inl (fun _ => 0))), (q3, .inl (cI, 40, .inl (fun _ => 0))), (q4, .inl (cI, 20, .inl (fun _ => 0))), (q5, .inl (cI, 20, .inl (fun _ => 0))), (q6, .inl (cZ, 2048, .inl (fun _ => 0))), (q7, .inl (cI, 11, .inl (fun _ => 0)))] H := hP
  have hD : va_D A [(h0, .inr (0, [.int 0, .int 0, .ref q1, .ref q2, .ref q3, .int 0, .ref q4, .ref q5, .int 0, .int 0, .int 0, .ref q6, .ref q7, .null, .int 0])), (q1, .inl (cI, 11, .inl (fun _ => 0))), (q2, .inl (cI, 11, .inl (fun _ => 0))), (q3, .inl (cI, 40, .inl (fun _ => 0))), (q4, .inl (cI, 20, .inl (fun _ => 0))), (q5, .inl (cI, 20, .inl (fun _ => 0))), (q6, .inl (cZ, 2048, .inl (fun _ => 0))), (q7, .inl (cI, 11, .inl (fun _ => 0)))] := hD
  refine lv_aload_n hx hb d_X_init_91 rfl (lv_at hl 0 rfl) ?_
  refine lv_sipush (v := 462) hx hb d_X_init_92 (by decide) ?_
  refine va_newa (atype := .int) (ty := .int) (a0 := (462, .inl (fun _ => 0))) hx hb (hts _ h_arr_int) rfl hK hP hD hS hA (fun _ => rfl) (by decide) (by decide) (by decide) (Nat.le_of_ble_eq_true rfl) (Nat.le_of_ble_eq_true rfl) d_X_init_95 (fun q8 cA8 H hK hP hD hS => ?_)
  obtain rfl : cI = cA8 := va_same hK (i := 0) (j := 2) rfl rfl (by first | exact Or.inl rfl | exact Or.inr rfl)
  have hK := hK.sub (tys' := [(cI, .int), (cZ, .boolean)]) [0, 1] rfl
  have hK : va_K D clX [(cI, .int), (cZ, .boolean)] s := hK
  have hP : va_P D clX [(h0, .inr (0, [.int 0, .int 0, .ref q1, .ref q2, .ref q3, .int 0, .ref q4, .ref q5, .int 0, .int 0, .int 0, .ref q6, .ref q7, .null, .int 0])), (q1, .inl (cI, 11, .inl (fun _ => 0))), (q2, .inl (cI, 11, .inl (fun _ => 0))), (q3, .inl (cI, 40, .inl (fun _ => 0))), (q4, .inl (cI, 20, .inl (fun _ => 0))), (q5, .inl (cI, 20, .inl (fun _ => 0))), (q6, .inl (cZ, 2048, .inl (fun _ => 0))), (q7, .inl (cI, 11, .inl (fun _ => 0))), (q8, .inl (cI, 462, .inl (fun _ => 0)))] H := hP
  have hD : va_D A [(h0, .inr (0, [.int 0, .int 0, .ref q1, .ref q2, .ref q3, .int 0, .ref q4, .ref q5, .int 0, .int 0, .int 0, .ref q6, .ref q7, .null, .int 0])), (q1, .inl (cI, 11, .inl (fun _ => 0))), (q2, .inl (cI, 11, .inl (fun _ => 0))), (q3, .inl (cI, 40, .inl (fun _ => 0))), (q4, .inl (cI, 20, .inl (fun _ => 0))), (q5, .inl (cI, 20, .inl (fun _ => 0))), (q6, .inl (cZ, 2048, .inl (fun _ => 0))), (q7, .inl (cI, 11, .inl (fun _ => 0))), (q8, .inl (cI, 462, .inl (fun _ => 0)))] := hD
  refine va_putF (D := D) (ci := 0) (v := .ref q8) (ty := (.array .int)) (C := RX) (T := TX) (N := 15) hx hb hts inX tyX tyX_ok nmX hown hK hP hD hS 0 rfl rfl 13 (by decide) (hts _ f_X_52) (fun _ h9 => h9) rfl hin rfl (by decide +kernel) rfl rfl (Nat.le_of_ble_eq_true rfl) d_X_init_97 (fun H locs hP hD hS => ?_)
  have hP : va_P D clX [(h0, .inr (0, [.int 0, .int 0, .ref q1, .ref q2, .ref q3, .int 0, .ref q4, .ref q5, .int 0, .int 0, .int 0, .ref q6, .ref q7, .ref q8, .int 0])), (q1, .inl (cI, 11, .inl (fun _ => 0))), (q2, .inl (cI, 11, .inl (fun _ => 0))), (q3, .inl (cI, 40, .inl (fun _ => 0))), (q4, .inl (cI, 20, .inl (fun _ => 0))), (q5, .inl (cI, 20, .inl (fun _ => 0))), (q6, .inl (cZ, 2048, .inl (fun _ => 0))), (q7, .inl (cI, 11, .inl (fun _ => 0))), (q8, .inl (cI, 462, .inl (fun _ => 0)))] H := hP
  have hD : va_D A [(h0, .inr (0, [.int 0, .int 0, .ref q1, .ref q2, .ref q3, .int 0, .ref q4, .ref q5, .int 0, .int 0, .int 0, .ref q6, .ref q7, .ref q8, .int 0])), (q1, .inl (cI, 11, .inl (fun _ => 0))), (q2, .inl (cI, 11, .inl (fun _ => 0))), (q3, .inl (cI, 40, .inl (fun _ => 0))), (q4, .inl (cI, 20, .inl (fun _ => 0))), (q5, .inl (cI, 20, .inl (fun _ => 0))), (q6, .inl (cZ, 2048, .inl (fun _ => 0))), (q7, .inl (cI, 11, .inl (fun _ => 0))), (q8, .inl (cI, 462, .inl (fun _ => 0)))] := hD
  refine lv_aload_n hx hb d_X_init_100 rfl (lv_at hl 0 rfl) ?_
  refine lv_iconst (v := 0) hx hb d_X_init_101 (by decide) ?_
  refine va_put (D := D) (ci := 0) (v := .int 0) (ty := .int) (C := RX) (T := TX) (N := 15) hx hb hts inX tyX tyX_ok nmX hown hK hP hD hS 0 rfl rfl 14 (by decide) (hts _ f_X_55) (fun _ h9 => h9) rfl (by decide +kernel) rfl rfl (Nat.le_of_ble_eq_true rfl) d_X_init_102 (fun H locs hP hD hS => ?_)
  have hP : va_P D clX [(h0, .inr (0, [.int 0, .int 0, .ref q1, .ref q2, .ref q3, .int 0, .ref q4, .ref q5, .int 0, .int 0, .int 0, .ref q6, .ref q7, .ref q8, .int 0])), (q1, .inl (cI, 11, .inl (fun _ => 0))), (q2, .inl (cI, 11, .inl (fun _ => 0))), (q3, .inl (cI, 40, .inl (fun _ => 0))), (q4, .inl (cI, 20, .inl (fun _ => 0))), (q5, .inl (cI, 20, .inl (fun _ => 0))), (q6, .inl (cZ, 2048, .inl (fun _ => 0))), (q7, .inl (cI, 11, .inl (fun _ => 0))), (q8, .inl (cI, 462, .inl (fun _ => 0)))] H := hP
  have hD : va_D A [(h0, .inr (0, [.int 0, .int 0, .ref q1, .ref q2, .ref q3, .int 0, .ref q4, .ref q5, .int 0, .int 0, .int 0, .ref q6, .ref q7, .ref q8, .int 0])), (q1, .inl (cI, 11, .inl (fun _ => 0))), (q2, .inl (cI, 11, .inl (fun _ => 0))), (q3, .inl (cI, 40, .inl (fun _ => 0))), (q4, .inl (cI, 20, .inl (fun _ => 0))), (q5, .inl (cI, 20, .inl (fun _ => 0))), (q6, .inl (cZ, 2048, .inl (fun _ => 0))), (q7, .inl (cI, 11, .inl (fun _ => 0))), (q8, .inl (cI, 462, .inl (fun _ => 0)))] := hD
  have hK9 := hK.sub (tys' := [(cI, .int), (cZ, .boolean)]) [0, 1] rfl
  refine W.widen (k := 8) (n := 2623) (by decide) (by decide) ?_
  exact W.vret hx hb hr (fun t ht hW => ⟨⟨((fun k => match k with | 0 => h0 | 1 => q1 | 2 => q2 | 3 => q3 | 4 => q4 | 5 => q5 | 6 => q6 | 7 => q7 | _ => q8), cI, cZ), rfl, rfl, by rw [ht]; exact hP, va_K.moved hW.alike hK9, hD⟩, hS.F ht⟩) hS.2.2 d_X_init_105
set_option maxHeartbeats 4000000 in
set_option maxRecDepth 100000 in
theorem c_Y_init (l : Launch) (D : va_G) (h0 sz : Nat) : Met l y_Y_init w_Y_init ({ frames := 1, cells := 8, slots := 4209, locals := 20 }) (va_Pc [.ref h0] (fun U => U.heap.size = sz ∧ va_P D clX [(h0, .inr (1, [.int 0, .null, .null, .null, .null, .int 0, .null, .null, .int 0, .int 0, .int 0, .null, .null, .int 0]))] U.heap ∧ va_K D clX [] U ∧ va_D (fun _ => True) [(h0, .inr (1, [.int 0, .null, .null, .null, .null, .int 0, .null, .null, .int 0, .int 0, .int 0, .null, .null, .int 0]))])) (va_Qv (fun u : (Nat → Nat) × ClassId × ClassId => u.1 0 = h0) (fun u t => va_P D clX (wY u.1 u.2.1 u.2.2 0 (fun _ => false) (fun _ => 0) (fun _ => 0) (fun _ => 0) 0 (fun _ => 0) (fun _ => 0) 0 0 false (fun _ => false) (fun _ => 0) 0) t.heap ∧ va_K D clX [(u.2.1, .int), (u.2.2, .boolean)] t ∧ va_D (va_A [(h0, .inr (1, [.int 0, .null, .null, .null, .null, .int 0, .null, .null, .int 0, .int 0, .int 0, .null, .null, .int 0]))] sz) (wY u.1 u.2.1 u.2.2 0 (fun _ => false) (fun _ => 0) (fun _ => 0) (fun _ => 0) 0 (fun _ => 0) (fun _ => 0) 0 0 false (fun _ => false) (fun _ => 0) 0)) (va_A [(h0, .inr (1, [.int 0, .null, .null, .null, .null, .int 0, .null, .null, .int 0, .int 0, .int 0, .null, .null, .int 0]))] sz)) 8 4209 (va_A [(h0, .inr (1, [.int 0, .null, .null, .null, .null, .int 0, .null, .null, .int 0, .int 0, .int 0, .null, .null, .int 0]))] sz) := by
  refine Met.ofW (cc := b_Y_init) (maxL := 1) (ret := none) (by decide) rfl ?_
  intro p e s m args below meth c s₁ B hml hv
  obtain ⟨rfl, hsz, hP, hK, hD0⟩ := hv
  have hx := B.exec
  have hb := B.bytes
  have hr := B.returns
  have hts0 := atoms_spec (ws := w_Y_init) B.pre
  have hts : ∀ w ∈ tbl, w.before _ s = true := fun w h => hts0 w (List.mem_cons_of_mem _ h)
  have hown : s.vm.findClass RY = some m.cls := findClass_of_methodNamed B.named
  have hlocks := B.notSynchronized
  have hin : meth.name = "<init>" := (name_of_methodNamed B.named B.method).1
  subst hsz
  have hD := hD0.self (sz := s.heap.size)
  generalize hAe : va_A [(h0, .inr (1, [.int 0, .null, .null, .null, .null, .int 0, .null, .null, .int 0, .int 0, .int 0, .null, .null, .int 0]))] s.heap.size = A at hD ⊢
  have hA : ∀ q : Nat, s.heap.size ≤ q → A q := fun q h => by rw [← hAe]; exact Or.inr h
  have hS : va_S A s.heap s.heap [] := va_S.rf
  have hl := lv_entry ([.ref h0]) (n := 1) (Nat.le_of_ble_eq_true rfl)
  rw [lg_entry_eq]
  generalize (lg_sl ([.ref h0]) ++ List.replicate (1 - (lg_sl ([.ref h0])).length) Slot.unset).toArray = ls at hl ⊢
  have hl : lv_has ls 1 [(0, .ref h0)] := hl
  refine lv_aload_n hx hb d_Y_init_0 rfl (lv_at hl 0 rfl) ?_
  refine W.objInit hx hb hown (hts _ l_Y_1) (hts _ h_objk) (hts _ h_objc) rfl (by rw [hml]; exact hl.1) rfl d_Y_init_1 (Nat.le_of_ble_eq_true rfl) (Nat.le_of_ble_eq_true rfl) ?_
  refine W.eq (g2 := F0 m 4 ls []) rfl ?_
  refine lv_aload_n hx hb d_Y_init_4 rfl (lv_at hl 0 rfl) ?_
  refine lv_bipush (v := 11) hx hb d_Y_init_5 (by decide) ?_
  refine va_newa (atype := .boolean) (ty := .boolean) (a0 := (11, .inl (fun _ => 0))) hx hb (hts _ h_arr_boolean) rfl hK hP hD hS hA (fun _ => rfl) (by decide) (by decide) (by decide) (Nat.le_of_ble_eq_true rfl) (Nat.le_of_ble_eq_true rfl) d_Y_init_7 (fun q1 cZ H hK hP hD hS => ?_)
  have hK : va_K D clX [(cZ, .boolean)] s := hK
  have hP : va_P D clX [(h0, .inr (1, [.int 0, .null, .null, .null, .null, .int 0, .null, .null, .int 0, .int 0, .int 0, .null, .null, .int 0])), (q1, .inl (cZ, 11, .inl (fun _ => 0)))] H := hP
  have hD : va_D A [(h0, .inr (1, [.int 0, .null, .null, .null, .null, .int 0, .null, .null, .int 0, .int 0, .int 0, .null, .null, .int 0])), (q1, .inl (cZ, 11, .inl (fun _ => 0)))] := hD
  refine va_putF (D := D) (ci := 1) (v := .ref q1) (ty := (.array .boolean)) (C := RY) (T := TY) (N := 14) hx hb hts inY tyY tyY_ok nmY hown hK hP hD hS 0 rfl rfl 1 (by decide) (hts _ f_Y_7) (fun _ h9 => h9) rfl hin rfl (by decide +kernel) rfl rfl (Nat.le_of_ble_eq_true rfl) d_Y_init_9 (fun H locs hP hD hS => ?_)
  have hP : va_P D clX [(h0, .inr (1, [.int 0, .ref q1, .null, .null, .null, .int 0, .null, .null, .int 0, .int 0, .int 0, .null, .null, .int 0])), (q1, .inl (cZ, 11, .inl (fun _ => 0)))] H := hP
  have hD : va_D A [(h0, .inr (1, [.int 0, .ref q1, .null, .null, .null, .int 0, .null, .null, .int 0, .int 0, .int 0, .null, .null, .int 0])), (q1, .inl (cZ, 11, .inl (fun _ => 0)))] := hD
  refine lv_aload_n hx hb d_Y_init_12 rfl (lv_at hl 0 rfl) ?_
  refine lv_bipush (v := 11) hx hb d_Y_init_13 (by decide) ?_
  refine va_newa (atype := .int) (ty := .int) (a0 := (11, .inl (fun _ => 0))) hx hb (hts _ h_arr_int) rfl hK hP hD hS hA (fun _ => rfl) (by decide) (by decide) (by decide) (Nat.le_of_ble_eq_true rfl) (Nat.le_of_ble_eq_true rfl) d_Y_init_15 (fun q2 cI H hK hP hD hS => ?_)
  have hK : va_K D clX [(cZ, .boolean), (cI, .int)] s := hK
  have hP : va_P D clX [(h0, .inr (1, [.int 0, .ref q1, .null, .null, .null, .int 0, .null, .null, .int 0, .int 0, .int 0, .null, .null, .int 0])), (q1, .inl (cZ, 11, .inl (fun _ => 0))), (q2, .inl (cI, 11, .inl (fun _ => 0)))] H := hP
  have hD : va_D A [(h0, .inr (1, [.int 0, .ref q1, .null, .null, .null, .int 0, .null, .null, .int 0, .int 0, .int 0, .null, .null, .int 0])), (q1, .inl (cZ, 11, .inl (fun _ => 0))), (q2, .inl (cI, 11, .inl (fun _ => 0)))] := hD
  refine va_putF (D := D) (ci := 1) (v := .ref q2) (ty := (.array .int)) (C := RY) (T := TY) (N := 14) hx hb hts inY tyY tyY_ok nmY hown hK hP hD hS 0 rfl rfl 2 (by decide) (hts _ f_Y_13) (fun _ h9 => h9) rfl hin rfl (by decide +kernel) rfl rfl (Nat.le_of_ble_eq_true rfl) d_Y_init_17 (fun H locs hP hD hS => ?_)
  have hP : va_P D clX [(h0, .inr (1, [.int 0, .ref q1, .ref q2, .null, .null, .int 0, .null, .null, .int 0, .int 0, .int 0, .null, .null, .int 0])), (q1, .inl (cZ, 11, .inl (fun _ => 0))), (q2, .inl (cI, 11, .inl (fun _ => 0)))] H := hP
  have hD : va_D A [(h0, .inr (1, [.int 0, .ref q1, .ref q2, .null, .null, .int 0, .null, .null, .int 0, .int 0, .int 0, .null, .null, .int 0])), (q1, .inl (cZ, 11, .inl (fun _ => 0))), (q2, .inl (cI, 11, .inl (fun _ => 0)))] := hD
  refine lv_aload_n hx hb d_Y_init_20 rfl (lv_at hl 0 rfl) ?_
  refine lv_bipush (v := 11) hx hb d_Y_init_21 (by decide) ?_
  refine va_newa (atype := .int) (ty := .int) (a0 := (11, .inl (fun _ => 0))) hx hb (hts _ h_arr_int) rfl hK hP hD hS hA (fun _ => rfl) (by decide) (by decide) (by decide) (Nat.le_of_ble_eq_true rfl) (Nat.le_of_ble_eq_true rfl) d_Y_init_23 (fun q3 cA3 H hK hP hD hS => ?_)
  obtain rfl : cI = cA3 := va_same hK (i := 1) (j := 2) rfl rfl (by first | exact Or.inl rfl | exact Or.inr rfl)
  have hK := hK.sub (tys' := [(cZ, .boolean), (cI, .int)]) [0, 1] rfl
  have hK : va_K D clX [(cZ, .boolean), (cI, .int)] s := hK
  have hP : va_P D clX [(h0, .inr (1, [.int 0, .ref q1, .ref q2, .null, .null, .int 0, .null, .null, .int 0, .int 0, .int 0, .null, .null, .int 0])), (q1, .inl (cZ, 11, .inl (fun _ => 0))), (q2, .inl (cI, 11, .inl (fun _ => 0))), (q3, .inl (cI, 11, .inl (fun _ => 0)))] H := hP
  have hD : va_D A [(h0, .inr (1, [.int 0, .ref q1, .ref q2, .null, .null, .int 0, .null, .null, .int 0, .int 0, .int 0, .null, .null, .int 0])), (q1, .inl (cZ, 11, .inl (fun _ => 0))), (q2, .inl (cI, 11, .inl (fun _ => 0))), (q3, .inl (cI, 11, .inl (fun _ => 0)))] := hD
  refine va_putF (D := D) (ci := 1) (v := .ref q3) (ty := (.array .int)) (C := RY) (T := TY) (N := 14) hx hb hts inY tyY tyY_ok nmY hown hK hP hD hS 0 rfl rfl 3 (by decide) (hts _ f_Y_17) (fun _ h9 => h9) rfl hin rfl (by decide +kernel) rfl rfl (Nat.le_of_ble_eq_true rfl) d_Y_init_25 (fun H locs hP hD hS => ?_)
  have hP : va_P D clX [(h0, .inr (1, [.int 0, .ref q1, .ref q2, .ref q3, .null, .int 0, .null, .null, .int 0, .int 0, .int 0, .null, .null, .int 0])), (q1, .inl (cZ, 11, .inl (fun _ => 0))), (q2, .inl (cI, 11, .inl (fun _ => 0))), (q3, .inl (cI, 11, .inl (fun _ => 0)))] H := hP
  have hD : va_D A [(h0, .inr (1, [.int 0, .ref q1, .ref q2, .ref q3, .null, .int 0, .null, .null, .int 0, .int 0, .int 0, .null, .null, .int 0])), (q1, .inl (cZ, 11, .inl (fun _ => 0))), (q2, .inl (cI, 11, .inl (fun _ => 0))), (q3, .inl (cI, 11, .inl (fun _ => 0)))] := hD
  refine lv_aload_n hx hb d_Y_init_28 rfl (lv_at hl 0 rfl) ?_
  refine lv_bipush (v := 40) hx hb d_Y_init_29 (by decide) ?_
  refine va_newa (atype := .int) (ty := .int) (a0 := (40, .inl (fun _ => 0))) hx hb (hts _ h_arr_int) rfl hK hP hD hS hA (fun _ => rfl) (by decide) (by decide) (by decide) (Nat.le_of_ble_eq_true rfl) (Nat.le_of_ble_eq_true rfl) d_Y_init_31 (fun q4 cA4 H hK hP hD hS => ?_)
  obtain rfl : cI = cA4 := va_same hK (i := 1) (j := 2) rfl rfl (by first | exact Or.inl rfl | exact Or.inr rfl)
  have hK := hK.sub (tys' := [(cZ, .boolean), (cI, .int)]) [0, 1] rfl
  have hK : va_K D clX [(cZ, .boolean), (cI, .int)] s := hK
  have hP : va_P D clX [(h0, .inr (1, [.int 0, .ref q1, .ref q2, .ref q3, .null, .int 0, .null, .null, .int 0, .int 0, .int 0, .null, .null, .int 0])), (q1, .inl (cZ, 11, .inl (fun _ => 0))), (q2, .inl (cI, 11, .inl (fun _ => 0))), (q3, .inl (cI, 11, .inl (fun _ => 0))), (q4, .inl (cI, 40, .inl (fun _ => 0)))] H := hP
  have hD : va_D A [(h0, .inr (1, [.int 0, .ref q1, .ref q2, .ref q3, .null, .int 0, .null, .null, .int 0, .int 0, .int 0, .null, .null, .int 0])), (q1, .inl (cZ, 11, .inl (fun _ => 0))), (q2, .inl (cI, 11, .inl (fun _ => 0))), (q3, .inl (cI, 11, .inl (fun _ => 0))), (q4, .inl (cI, 40, .inl (fun _ => 0)))] := hD
  refine va_putF (D := D) (ci := 1) (v := .ref q4) (ty := (.array .int)) (C := RY) (T := TY) (N := 14) hx hb hts inY tyY tyY_ok nmY hown hK hP hD hS 0 rfl rfl 4 (by decide) (hts _ f_Y_20) (fun _ h9 => h9) rfl hin rfl (by decide +kernel) rfl rfl (Nat.le_of_ble_eq_true rfl) d_Y_init_33 (fun H locs hP hD hS => ?_)
  have hP : va_P D clX [(h0, .inr (1, [.int 0, .ref q1, .ref q2, .ref q3, .ref q4, .int 0, .null, .null, .int 0, .int 0, .int 0, .null, .null, .int 0])), (q1, .inl (cZ, 11, .inl (fun _ => 0))), (q2, .inl (cI, 11, .inl (fun _ => 0))), (q3, .inl (cI, 11, .inl (fun _ => 0))), (q4, .inl (cI, 40, .inl (fun _ => 0)))] H := hP
  have hD : va_D A [(h0, .inr (1, [.int 0, .ref q1, .ref q2, .ref q3, .ref q4, .int 0, .null, .null, .int 0, .int 0, .int 0, .null, .null, .int 0])), (q1, .inl (cZ, 11, .inl (fun _ => 0))), (q2, .inl (cI, 11, .inl (fun _ => 0))), (q3, .inl (cI, 11, .inl (fun _ => 0))), (q4, .inl (cI, 40, .inl (fun _ => 0)))] := hD
  refine lv_aload_n hx hb d_Y_init_36 rfl (lv_at hl 0 rfl) ?_
  refine lv_bipush (v := 20) hx hb d_Y_init_37 (by decide) ?_
  refine va_newa (atype := .int) (ty := .int) (a0 := (20, .inl (fun _ => 0))) hx hb (hts _ h_arr_int) rfl hK hP hD hS hA (fun _ => rfl) (by decide) (by decide) (by decide) (Nat.le_of_ble_eq_true rfl) (Nat.le_of_ble_eq_true rfl) d_Y_init_39 (fun q5 cA5 H hK hP hD hS => ?_)
  obtain rfl : cI = cA5 := va_same hK (i := 1) (j := 2) rfl rfl (by first | exact Or.inl rfl | exact Or.inr rfl)
  have hK := hK.sub (tys' := [(cZ, .boolean), (cI, .int)]) [0, 1] rfl
  have hK : va_K D clX [(cZ, .boolean), (cI, .int)] s := hK
  have hP : va_P D clX [(h0, .inr (1, [.int 0, .ref q1, .ref q2, .ref q3, .ref q4, .int 0, .null, .null, .int 0, .int 0, .int 0, .null, .null, .int 0])), (q1, .inl (cZ, 11, .inl (fun _ => 0))), (q2, .inl (cI, 11, .inl (fun _ => 0))), (q3, .inl (cI, 11, .inl (fun _ => 0))), (q4, .inl (cI, 40, .inl (fun _ => 0))), (q5, .inl (cI, 20, .inl (fun _ => 0)))] H := hP
  have hD : va_D A [(h0, .inr (1, [.int 0, .ref q1, .ref q2, .ref q3, .ref q4, .int 0, .null, .null, .int 0, .int 0, .int 0, .null, .null, .int 0])), (q1, .inl (cZ, 11, .inl (fun _ => 0))), (q2, .inl (cI, 11, .inl (fun _ => 0))), (q3, .inl (cI, 11, .inl (fun _ => 0))), (q4, .inl (cI, 40, .inl (fun _ => 0))), (q5, .inl (cI, 20, .inl (fun _ => 0)))] := hD
  refine va_putF (D := D) (ci := 1) (v := .ref q5) (ty := (.array .int)) (C := RY) (T := TY) (N := 14) hx hb hts inY tyY tyY_ok nmY hown hK hP hD hS 0 rfl rfl 6 (by decide) (hts _ f_Y_23) (fun _ h9 => h9) rfl hin rfl (by decide +kernel) rfl rfl (Nat.le_of_ble_eq_true rfl) d_Y_init_41 (fun H locs hP hD hS => ?_)
  have hP : va_P D clX [(h0, .inr (1, [.int 0, .ref q1, .ref q2, .ref q3, .ref q4, .int 0, .ref q5, .null, .int 0, .int 0, .int 0, .null, .null, .int 0])), (q1, .inl (cZ, 11, .inl (fun _ => 0))), (q2, .inl (cI, 11, .inl (fun _ => 0))), (q3, .inl (cI, 11, .inl (fun _ => 0))), (q4, .inl (cI, 40, .inl (fun _ => 0))), (q5, .inl (cI, 20, .inl (fun _ => 0)))] H := hP
  have hD : va_D A [(h0, .inr (1, [.int 0, .ref q1, .ref q2, .ref q3, .ref q4, .int 0, .ref q5, .null, .int 0, .int 0, .int 0, .null, .null, .int 0])), (q1, .inl (cZ, 11, .inl (fun _ => 0))), (q2, .inl (cI, 11, .inl (fun _ => 0))), (q3, .inl (cI, 11, .inl (fun _ => 0))), (q4, .inl (cI, 40, .inl (fun _ => 0))), (q5, .inl (cI, 20, .inl (fun _ => 0)))] := hD
  refine lv_aload_n hx hb d_Y_init_44 rfl (lv_at hl 0 rfl) ?_
  refine lv_bipush (v := 20) hx hb d_Y_init_45 (by decide) ?_
  refine va_newa (atype := .int) (ty := .int) (a0 := (20, .inl (fun _ => 0))) hx hb (hts _ h_arr_int) rfl hK hP hD hS hA (fun _ => rfl) (by decide) (by decide) (by decide) (Nat.le_of_ble_eq_true rfl) (Nat.le_of_ble_eq_true rfl) d_Y_init_47 (fun q6 cA6 H hK hP hD hS => ?_)
  obtain rfl : cI = cA6 := va_same hK (i := 1) (j := 2) rfl rfl (by first | exact Or.inl rfl | exact Or.inr rfl)
  have hK := hK.sub (tys' := [(cZ, .boolean), (cI, .int)]) [0, 1] rfl
  have hK : va_K D clX [(cZ, .boolean), (cI, .int)] s := hK
  have hP : va_P D clX [(h0, .inr (1, [.int 0, .ref q1, .ref q2, .ref q3, .ref q4, .int 0, .ref q5, .null, .int 0, .int 0, .int 0, .null, .null, .int 0])), (q1, .inl (cZ, 11, .inl (fun _ => 0))), (q2, .inl (cI, 11, .inl (fun _ => 0))), (q3, .inl (cI, 11, .inl (fun _ => 0))), (q4, .inl (cI, 40, .inl (fun _ => 0))), (q5, .inl (cI, 20, .inl (fun _ => 0))), (q6, .inl (cI, 20, .inl (fun _ => 0)))] H := hP
  have hD : va_D A [(h0, .inr (1, [.int 0, .ref q1, .ref q2, .ref q3, .ref q4, .int 0, .ref q5, .null, .int 0, .int 0, .int 0, .null, .null, .int 0])), (q1, .inl (cZ, 11, .inl (fun _ => 0))), (q2, .inl (cI, 11, .inl (fun _ => 0))), (q3, .inl (cI, 11, .inl (fun _ => 0))), (q4, .inl (cI, 40, .inl (fun _ => 0))), (q5, .inl (cI, 20, .inl (fun _ => 0))), (q6, .inl (cI, 20, .inl (fun _ => 0)))] := hD
  refine va_putF (D := D) (ci := 1) (v := .ref q6) (ty := (.array .int)) (C := RY) (T := TY) (N := 14) hx hb hts inY tyY tyY_ok nmY hown hK hP hD hS 0 rfl rfl 7 (by decide) (hts _ f_Y_26) (fun _ h9 => h9) rfl hin rfl (by decide +kernel) rfl rfl (Nat.le_of_ble_eq_true rfl) d_Y_init_49 (fun H locs hP hD hS => ?_)
  have hP : va_P D clX [(h0, .inr (1, [.int 0, .ref q1, .ref q2, .ref q3, .ref q4, .int 0, .ref q5, .ref q6, .int 0, .int 0, .int 0, .null, .null, .int 0])), (q1, .inl (cZ, 11, .inl (fun _ => 0))), (q2, .inl (cI, 11, .inl (fun _ => 0))), (q3, .inl (cI, 11, .inl (fun _ => 0))), (q4, .inl (cI, 40, .inl (fun _ => 0))), (q5, .inl (cI, 20, .inl (fun _ => 0))), (q6, .inl (cI, 20, .inl (fun _ => 0)))] H := hP
  have hD : va_D A [(h0, .inr (1, [.int 0, .ref q1, .ref q2, .ref q3, .ref q4, .int 0, .ref q5, .ref q6, .int 0, .int 0, .int 0, .null, .null, .int 0])), (q1, .inl (cZ, 11, .inl (fun _ => 0))), (q2, .inl (cI, 11, .inl (fun _ => 0))), (q3, .inl (cI, 11, .inl (fun _ => 0))), (q4, .inl (cI, 40, .inl (fun _ => 0))), (q5, .inl (cI, 20, .inl (fun _ => 0))), (q6, .inl (cI, 20, .inl (fun _ => 0)))] := hD
  refine lv_aload_n hx hb d_Y_init_52 rfl (lv_at hl 0 rfl) ?_
  refine lv_sipush (v := 2048) hx hb d_Y_init_53 (by decide) ?_
  refine va_newa (atype := .boolean) (ty := .boolean) (a0 := (2048, .inl (fun _ => 0))) hx hb (hts _ h_arr_boolean) rfl hK hP hD hS hA (fun _ => rfl) (by decide) (by decide) (by decide) (Nat.le_of_ble_eq_true rfl) (Nat.le_of_ble_eq_true rfl) d_Y_init_56 (fun q7 cA7 H hK hP hD hS => ?_)
  obtain rfl : cZ = cA7 := va_same hK (i := 0) (j := 2) rfl rfl (by first | exact Or.inl rfl | exact Or.inr rfl)
  have hK := hK.sub (tys' := [(cZ, .boolean), (cI, .int)]) [0, 1] rfl
  have hK : va_K D clX [(cZ, .boolean), (cI, .int)] s := hK
  have hP : va_P D clX [(h0, .inr (1, [.int 0, .ref q1, .ref q2, .ref q3, .ref q4, .int 0, .ref q5, .ref q6, .int 0, .int 0, .int 0, .null, .null, .int 0])), (q1, .inl (cZ, 11, .inl (fun _ => 0))), (q2, .inl (cI, 11, .inl (fun _ => 0))), (q3, .inl (cI, 11, .inl (fun _ => 0))), (q4, .inl (cI, 40, .inl (fun _ => 0))), (q5, .inl (cI, 20, .inl (fun _ => 0))), (q6, .inl (cI, 20, .inl (fun _ => 0))), (q7, .inl (cZ, 2048, .inl (fun _ => 0)))] H := hP
  have hD : va_D A [(h0, .inr (1, [.int 0, .ref q1, .ref q2, .ref q3, .ref q4, .int 0, .ref q5, .ref q6, .int 0, .int 0, .int 0, .null, .null, .int 0])), (q1, .inl (cZ, 11, .inl (fun _ => 0))), (q2, .inl (cI, 11, .inl (fun _ => 0))), (q3, .inl (cI, 11, .inl (fun _ => 0))), (q4, .inl (cI, 40, .inl (fun _ => 0))), (q5, .inl (cI, 20, .inl (fun _ => 0))), (q6, .inl (cI, 20, .inl (fun _ => 0))), (q7, .inl (cZ, 2048, .inl (fun _ => 0)))] := hD
  refine va_putF (D := D) (ci := 1) (v := .ref q7) (ty := (.array .boolean)) (C := RY) (T := TY) (N := 14) hx hb hts inY tyY tyY_ok nmY hown hK hP hD hS 0 rfl rfl 11 (by decide) (hts _ f_Y_29) (fun _ h9 => h9) rfl hin rfl (by decide +kernel) rfl rfl (Nat.le_of_ble_eq_true rfl) d_Y_init_58 (fun H locs hP hD hS => ?_)
  have hP : va_P D clX [(h0, .inr (1, [.int 0, .ref q1, .ref q2, .ref q3, .ref q4, .int 0, .ref q5, .ref q6, .int 0, .int 0, .int 0, .ref q7, .null, .int 0])), (q1, .inl (cZ, 11, .inl (fun _ => 0))), (q2, .inl (cI, 11, .inl (fun _ => 0))), (q3, .inl (cI, 11, .inl (fun _ => 0))), (q4, .inl (cI, 40, .inl (fun _ => 0))), (q5, .inl (cI, 20, .inl (fun _ => 0))), (q6, .inl (cI, 20, .inl (fun _ => 0))), (q7, .inl (cZ, 2048, .inl (fun _ => 0)))] H := hP
  have hD : va_D A [(h0, .inr (1, [.int 0, .ref q1, .ref q2, .ref q3, .ref q4, .int 0, .ref q5, .ref q6, .int 0, .int 0, .int 0, .ref q7, .null, .int 0])), (q1, .inl (cZ, 11, .inl (fun _ => 0))), (q2, .inl (cI, 11, .inl (fun _ => 0))), (q3, .inl (cI, 11, .inl (fun _ => 0))), (q4, .inl (cI, 40, .inl (fun _ => 0))), (q5, .inl (cI, 20, .inl (fun _ => 0))), (q6, .inl (cI, 20, .inl (fun _ => 0))), (q7, .inl (cZ, 2048, .inl (fun _ => 0)))] := hD
  refine lv_aload_n hx hb d_Y_init_61 rfl (lv_at hl 0 rfl) ?_
  refine lv_sipush (v := 2048) hx hb d_Y_init_62 (by decide) ?_
  refine va_newa (atype := .int) (ty := .int) (a0 := (2048, .inl (fun _ => 0))) hx hb (hts _ h_arr_int) rfl hK hP hD hS hA (fun _ => rfl) (by decide) (by decide) (by decide) (Nat.le_of_ble_eq_true rfl) (Nat.le_of_ble_eq_true rfl) d_Y_init_65 (fun q8 cA8 H hK hP hD hS => ?_)
  obtain rfl : cI = cA8 := va_same hK (i := 1) (j := 2) rfl rfl (by first | exact Or.inl rfl | exact Or.inr rfl)
  have hK := hK.sub (tys' := [(cZ, .boolean), (cI, .int)]) [0, 1] rfl
  have hK : va_K D clX [(cZ, .boolean), (cI, .int)] s := hK
  have hP : va_P D clX [(h0, .inr (1, [.int 0, .ref q1, .ref q2, .ref q3, .ref q4, .int 0, .ref q5, .ref q6, .int 0, .int 0, .int 0, .ref q7, .null, .int 0])), (q1, .inl (cZ, 11, .inl (fun _ => 0))), (q2, .inl (cI, 11, .inl (fun _ => 0))), (q3, .inl (cI, 11, .inl (fun _ => 0))), (q4, .inl (cI, 40, .inl (fun _ => 0))), (q5, .inl (cI, 20, .inl (fun _ => 0))), (q6, .inl (cI, 20, .inl (fun _ => 0))), (q7, .inl (cZ, 2048, .inl (fun _ => 0))), (q8, .inl (cI, 2048, .inl (fun _ => 0)))] H := hP
  have hD : va_D A [(h0, .inr (1, [.int 0, .ref q1, .ref q2, .ref q3, .ref q4, .int 0, .ref q5, .ref q6, .int 0, .int 0, .int 0, .ref q7, .null, .int 0])), (q1, .inl (cZ, 11, .inl (fun _ => 0))), (q2, .inl (cI, 11, .inl (fun _ => 0))), (q3, .inl (cI, 11, .inl (fun _ => 0))), (q4, .inl (cI, 40, .inl (fun _ => 0))), (q5, .inl (cI, 20, .inl (fun _ => 0))), (q6, .inl (cI, 20, .inl (fun _ => 0))), (q7, .inl (cZ, 2048, .inl (fun _ => 0))), (q8, .inl (cI, 2048, .inl (fun _ => 0)))] := hD
  refine va_putF (D := D) (ci := 1) (v := .ref q8) (ty := (.array .int)) (C := RY) (T := TY) (N := 14) hx hb hts inY tyY tyY_ok nmY hown hK hP hD hS 0 rfl rfl 12 (by decide) (hts _ f_Y_32) (fun _ h9 => h9) rfl hin rfl (by decide +kernel) rfl rfl (Nat.le_of_ble_eq_true rfl) d_Y_init_67 (fun H locs hP hD hS => ?_)
  have hP : va_P D clX [(h0, .inr (1, [.int 0, .ref q1, .ref q2, .ref q3, .ref q4, .int 0, .ref q5, .ref q6, .int 0, .int 0, .int 0, .ref q7, .ref q8, .int 0])), (q1, .inl (cZ, 11, .inl (fun _ => 0))), (q2, .inl (cI, 11, .inl (fun _ => 0))), (q3, .inl (cI, 11, .inl (fun _ => 0))), (q4, .inl (cI, 40, .inl (fun _ => 0))), (q5, .inl (cI, 20, .inl (fun _ => 0))), (q6, .inl (cI, 20, .inl (fun _ => 0))), (q7, .inl (cZ, 2048, .inl (fun _ => 0))), (q8, .inl (cI, 2048, .inl (fun _ => 0)))] H := hP
  have hD : va_D A [(h0, .inr (1, [.int 0, .ref q1, .ref q2, .ref q3, .ref q4, .int 0, .ref q5, .ref q6, .int 0, .int 0, .int 0, .ref q7, .ref q8, .int 0])), (q1, .inl (cZ, 11, .inl (fun _ => 0))), (q2, .inl (cI, 11, .inl (fun _ => 0))), (q3, .inl (cI, 11, .inl (fun _ => 0))), (q4, .inl (cI, 40, .inl (fun _ => 0))), (q5, .inl (cI, 20, .inl (fun _ => 0))), (q6, .inl (cI, 20, .inl (fun _ => 0))), (q7, .inl (cZ, 2048, .inl (fun _ => 0))), (q8, .inl (cI, 2048, .inl (fun _ => 0)))] := hD
  have hK9 := hK.sub (tys' := [(cI, .int), (cZ, .boolean)]) [1, 0] rfl
  refine W.widen (k := 8) (n := 4209) (by decide) (by decide) ?_
  exact W.vret hx hb hr (fun t ht hW => ⟨⟨((fun k => match k with | 0 => h0 | 1 => q1 | 2 => q2 | 3 => q3 | 4 => q4 | 5 => q5 | 6 => q6 | 7 => q7 | _ => q8), cI, cZ), rfl, rfl, by rw [ht]; exact hP, va_K.moved hW.alike hK9, hD⟩, hS.F ht⟩) hS.2.2 d_Y_init_70
end
section
/-! two worlds side by side: a call changes one of them -/
section FRM
variable {D : va_G} {cl : List vw_C} {w1 w2 w3 : va_W} {H H1 : Heap} {A : Nat → Prop}
theorem fr_Pl (h : va_P D cl (w1 ++ w2) H) : va_P D cl w1 H := fun k q hk => h k q (by rw [List.getElem?_append_left (List.getElem?_eq_some_iff.mp hk).1]; exact hk)
theorem fr_Pr (h : va_P D cl (w1 ++ w2) H) : va_P D cl w2 H := fun k q hk => h (w1.length + k) q (by rw [List.getElem?_append_right (by omega), show w1.length + k - w1.length = k by omega]; exact hk)
theorem fr_Dl (h : va_D A (w1 ++ w2)) : va_D A w1 := by
  have key : ∀ (k : Nat) (q : Nat × va_E), w1[k]? = some q → (w1 ++ w2)[k]? = some q := fun k q hk => by rw [List.getElem?_append_left (List.getElem?_eq_some_iff.mp hk).1]; exact hk
  exact ⟨fun i j x y hi hj hxy => h.1 i j x y (key i x hi) (key j y hj) hxy, fun k q hk => h.2 k q (key k q hk)⟩
theorem fr_key {k : Nat} {q : Nat × va_E} (hk : w2[k]? = some q) : (w1 ++ w2)[w1.length + k]? = some q := by rw [List.getElem?_append_right (by omega), show w1.length + k - w1.length = k by omega]; exact hk
theorem fr_Dr (h : va_D A (w1 ++ w2)) : va_D A w2 := ⟨fun i j x y hi hj hxy => by have := h.1 _ _ x y (fr_key hi) (fr_key hj) hxy; omega, fun k q hk => h.2 _ q (fr_key hk)⟩
theorem fr_apart (h : va_D A (w1 ++ w2)) : ∀ (i j : Nat) (p q : Nat × va_E), w1[i]? = some p → w2[j]? = some q → p.1 ≠ q.1 := by
  intro i j p q hi hj e
  have hl := (List.getElem?_eq_some_iff.mp hi).1
  have := h.1 i (w1.length + j) p q (by rw [List.getElem?_append_left hl]; exact hi) (fr_key hj) e
  omega
theorem fr_Dswap (h : va_D A (w1 ++ w2)) : va_D A (w2 ++ w1) := va_D.app (fr_Dr h) (fr_Dl h) (fun i j p q hi hj e => fr_apart h j i q p hj hi e.symm)
theorem fr_Pswap (h : va_P D cl (w1 ++ w2) H) : va_P D cl (w2 ++ w1) H := va_P.app (fr_Pr h) (fr_Pl h)
theorem fr_keep (hP : va_P D cl (w1 ++ w2) H) (hD : va_D A (w1 ++ w2)) (hk : ∀ q : Nat, q < H.size → ¬ va_A w1 H.size q → H1[q]? = H[q]?) : va_P D cl w2 H1 := by
  intro k q hq
  have h1 := fr_Pr hP k q hq
  refine h1.kept (hk q.1 h1.lt fun h => ?_)
  rcases h with ⟨k2, e, h⟩ | h
  · exact fr_apart hD k2 k (q.1, e) q h hq rfl
  · have := h1.lt
    omega
end FRM
section FRC
variable {p : Program} {l : Launch} {e : Env} {R : Room} {s : State} {m : MethodId} {args : Array Value} {below : List Frame} {meth : Method} {c : Code} {H : Heap} {locs : List Loc} {cells slots : Nat} {Q : State → Prop}
variable {D : va_G} {cl : List vw_C} {w1 w2 : va_W} {tys : List (ClassId × FieldType)} {cc : ByteArray} {pc : Nat} {ls : Array Slot} {rest st0 : List Value} {σ : Type} {WS : σ → va_W} {ro : σ → Option Value} {post : σ → Prop}
variable {A : Nat → Prop} {H0 : Heap} {y : MethodName} {bytes : ByteArray} {maxL nL n index : Nat} {ret : Option FieldType} {w : List Cond} {rm : Room} {Ts : List Cond} {own C : String} {b : Addr} {As : List Value}
theorem wE_L (S : CallFix p m c cc nL s args Ts own) (hM : Met l y w rm (wr_Pc D cl w1 tys H.size (.ref b :: As)) (wE_Q D cl w1 WS ro post H.size) 0 0 (va_A w1 H.size)) (cw : CallW R s args own C index y bytes maxL ret w rm 0 0 n)
    (hK : va_K D cl tys s) (hP : va_P D cl (w1 ++ w2) H) (hD : va_D A (w1 ++ w2)) (hS : va_S A H0 H locs) (hA : ∀ q, H0.size ≤ q → A q) (q0 : Nat) {ci : Nat} {T : u_T} {N : Nat} {fs : List Value} (hc : cl[ci]? = some (C, T, N)) (he : w1[q0]? = some (b, .inr (ci, fs)))
    (hn : As.length = n) (hsize : ls.size = nL) (hstack : st0 = As.reverse ++ .ref b :: rest) (hW : (rest.map fun v => v.category).sum ≤ 8) (hdg : decode cc pc = .ok (.invokevirtual index, 3)) (hf : cells + 0 ≤ R.cells ∧ slots + 0 ≤ R.slots) (ha : ∀ u, (WS u).map (·.1) = w1.map (·.1))
    (kk : ∀ (u : σ) (H1 : Heap) (locs1 : List Loc), post u → va_P D cl (WS u ++ w2) H1 → va_D A (WS u ++ w2) → va_S A H0 H1 locs1 → W p l e R s m args below meth c H1 locs1 cells slots Q (F0 m (pc + 3) ls ((ro u).toList ++ rest))) : W p l e R s m args below meth c H locs cells slots Q (F0 m pc ls st0) := by
  subst hstack
  have hP1 := fr_Pl hP
  have hD1 := fr_Dl hD
  intro T hT X
  obtain ⟨v, st₀, t, T', L, h0, X', hL, e1, e2, ⟨u, hv, hu, hp, hz, hk⟩, st⟩ := va_runV (As := As) (rest := rest) (g := F0 m pc ls (As.reverse ++ .ref b :: rest)) S hM cw ⟨wr_blind, va_recv hK hP1 hc he, fun U hU hW => ⟨rfl, by rw [hU], by rw [hU]; exact hP1, va_K.moved hW.alike hK, hD1.weaken (fun _ _ _ _ => trivial)⟩⟩ rfl hn hsize rfl (lv_room hW) hdg hf T hT X
  cases hv
  rw [h0] at hz hk
  have hF : ∀ q, va_A w1 H.size q → A q := fun q h => by
    rcases h with ⟨k, e, h⟩ | h
    · exact hD1.2 k (q, e) h
    · exact hA q (Nat.le_trans hS.1 h)
  obtain ⟨t2, a1, b1⟩ := kk u T'.heap (locs ++ L) hu (va_P.app (by rw [e1]; exact hp) (fr_keep hP hD (fun q h1 h2 => by rw [e1]; exact hk q h1 h2))) (wr_D hD (by rw [List.map_append, List.map_append, ha u]))
    ⟨Nat.le_trans hS.1 (by rw [e1]; exact hz), fun q h1 h2 => by rw [e1, hk q (Nat.lt_of_lt_of_le h1 hS.1) (fun z => h2 (hF q z))]; exact hS.2.1 q h1 h2, fun q hq => by
      rcases List.mem_append.mp hq with h | h
      · exact hS.2.2 q h
      · exact hF _ (hL q h)⟩ T' rfl X'
  exact ⟨t2, st t2 a1, b1⟩
theorem wE_R (S : CallFix p m c cc nL s args Ts own) (hM : Met l y w rm (wr_Pc D cl w2 tys H.size (.ref b :: As)) (wE_Q D cl w2 WS ro post H.size) 0 0 (va_A w2 H.size)) (cw : CallW R s args own C index y bytes maxL ret w rm 0 0 n)
    (hK : va_K D cl tys s) (hP : va_P D cl (w1 ++ w2) H) (hD : va_D A (w1 ++ w2)) (hS : va_S A H0 H locs) (hA : ∀ q, H0.size ≤ q → A q) (q0 : Nat) {ci : Nat} {T : u_T} {N : Nat} {fs : List Value} (hc : cl[ci]? = some (C, T, N)) (he : w2[q0]? = some (b, .inr (ci, fs)))
    (hn : As.length = n) (hsize : ls.size = nL) (hstack : st0 = As.reverse ++ .ref b :: rest) (hW : (rest.map fun v => v.category).sum ≤ 8) (hdg : decode cc pc = .ok (.invokevirtual index, 3)) (hf : cells + 0 ≤ R.cells ∧ slots + 0 ≤ R.slots) (ha : ∀ u, (WS u).map (·.1) = w2.map (·.1))
    (kk : ∀ (u : σ) (H1 : Heap) (locs1 : List Loc), post u → va_P D cl (w1 ++ WS u) H1 → va_D A (w1 ++ WS u) → va_S A H0 H1 locs1 → W p l e R s m args below meth c H1 locs1 cells slots Q (F0 m (pc + 3) ls ((ro u).toList ++ rest))) : W p l e R s m args below meth c H locs cells slots Q (F0 m pc ls st0) :=
  wE_L (w2 := w1) S hM cw hK (fr_Pswap hP) (fr_Dswap hD) hS hA q0 hc he hn hsize hstack hW hdg hf ha (fun u H1 locs1 hu h1 h2 h3 => kk u H1 locs1 hu (fr_Pswap h1) (fr_Dswap h2) h3)
end FRC
/-! the shared state stays in its bounds -/
theorem up_bd {f : Nat → Nat} {k v : Nat} {P : Nat → Prop} (h : ∀ j, P (f j)) (hv : P v) : ∀ j, P (va_up f k v j) := by
  intro j
  unfold va_up
  split
  · exact hv
  · exact h j
section GD
variable {n bt : Nat} {rk wt cl : Nat → Nat} {cc : Nat} {su sa : Nat → Nat} {sc od : Nat}
theorem gd_fact {hard : Bool} {r w : Int32} (h : gdA (n, bt, rk, wt, cl, cc, su, sa, sc, od)) : gdA (sFact n bt rk wt cl cc su sa sc od hard r w).2 := by
  unfold sFact
  split
  · rename_i hok
    split
    · exact h
    · rename_i hn
      rw [Bool.and_eq_true] at hok
      obtain ⟨r0, hr0, er⟩ := okR_of hok.1
      obtain ⟨w0, hw0, hw1, ew⟩ := okW_of hok.2
      obtain ⟨h1, h2, h3, h4, h5, h6⟩ := h
      have e1 : r.toNatClampNeg = r0 := by rw [er, nI_clamp (by omega)]
      have e2 : w.toNatClampNeg = w0 := by rw [ew, nI_clamp (by omega)]
      have hp : 2 ^ n < 2 ^ (n + 1) := Nat.pow_lt_pow_right (by decide) (by omega)
      rw [e1, e2]
      refine ⟨by omega, ?_, up_bd (P := fun z => z < 8) h3 hr0, up_bd (P := fun z => z ≤ 1000) h4 hw1, fun j hj => ?_, h6⟩
      · split
        · exact Nat.or_lt_two_pow (Nat.lt_trans h2 hp) hp
        · exact Nat.lt_trans h2 hp
      · unfold va_up
        split
        · exact hw0
        · exact h5 j (by omega)
  · exact h
theorem gd_harden {hard : Bool} {x : Int32} (h : gdA (n, bt, rk, wt, cl, cc, su, sa, sc, od)) : gdA (sHarden n bt rk wt cl cc su sa sc od x hard).2 := by
  unfold sHarden
  split
  · rename_i hok
    split
    · exact h
    · obtain ⟨h1, h2, h3⟩ := h
      obtain ⟨k, hk, e⟩ := okS_of (by omega) hok
      rw [e, nI_clamp (by omega)]
      exact ⟨h1, Nat.xor_lt_two_pow h2 (Nat.pow_lt_pow_right (by decide) hk), h3⟩
  · exact h
theorem gd_weight {x r w : Int32} (h : gdA (n, bt, rk, wt, cl, cc, su, sa, sc, od)) : gdA (sWeight n bt rk wt cl cc su sa sc od x r w).2 := by
  unfold sWeight
  split
  · rename_i hok
    rw [Bool.and_eq_true, Bool.and_eq_true] at hok
    obtain ⟨r0, hr0, er⟩ := okR_of hok.2.1
    obtain ⟨w0, hw0, hw1, ew⟩ := okW_of hok.2.2
    obtain ⟨h1, h2, h3, h4, h5, h6⟩ := h
    have e1 : r.toNatClampNeg = r0 := by rw [er, nI_clamp (by omega)]
    have e2 : w.toNatClampNeg = w0 := by rw [ew, nI_clamp (by omega)]
    rw [e1, e2]
    refine ⟨h1, h2, up_bd (P := fun z => z < 8) h3 hr0, up_bd (P := fun z => z ≤ 1000) h4 hw1, fun j hj => ?_, h6⟩
    unfold va_up
    split
    · exact hw0
    · exact h5 j hj
  · exact h
theorem gd_clash {x : Int32} (h : gdA (n, bt, rk, wt, cl, cc, su, sa, sc, od)) : gdA (sClash n bt rk wt cl cc su sa sc od x).2 := by
  unfold sClash
  split
  · exact h
  · obtain ⟨h1, h2, h3, h4, h5, h6, h7, h8⟩ := h
    exact ⟨h1, h2, h3, h4, h5, by omega, up_bd (P := fun z => z < 2048) h7 (Nat.mod_lt _ (by decide)), h8⟩
theorem gd_settle (h : gdA (n, bt, rk, wt, cl, cc, su, sa, sc, od)) : gdA (sSettle n bt rk wt cl cc su sa sc od).2 := by
  unfold sSettle
  split
  · exact h
  · obtain ⟨h1, h2, h3, h4, h5, h6, h7⟩ := h
    exact ⟨h1, h2, h3, h4, h5, by omega, h7⟩
theorem gd_support {x y : Int32} (h : gdA (n, bt, rk, wt, cl, cc, su, sa, sc, od)) : gdA (sSupport n bt rk wt cl cc su sa sc od x y).2 := by
  unfold sSupport
  split
  · rename_i hok
    split
    · exact h
    · obtain ⟨h1, h2, h3, h4, h5, h6, h7, h8, h9, h10, h11⟩ := h
      obtain ⟨k, hk, e⟩ := okA_of hok
      rw [e, nI_clamp (by omega)]
      exact ⟨h1, h2, h3, h4, h5, h6, h7, by omega, up_bd (P := fun z => z < 8) h9 hk, up_bd (P := fun z => z < 2048) h10 (Nat.mod_lt _ (by decide)), h11⟩
  · exact h
theorem gd_order {x : Int32} (h : gdA (n, bt, rk, wt, cl, cc, su, sa, sc, od)) : gdA (sOrder n bt rk wt cl cc su sa sc od x).2 := by
  unfold sOrder
  split
  · rename_i hok
    obtain ⟨h1, h2, h3, h4, h5, h6, h7, h8, h9, h10, h11⟩ := h
    obtain ⟨k, hk, e⟩ := okO_of hok
    rw [e, nI_clamp (by omega)]
    exact ⟨h1, h2, h3, h4, h5, h6, h7, h8, h9, h10, hk⟩
  · exact h
end GD
def nzB (x : Int32) : Bool := !decide (x = 0)
theorem nz_t {x : Int32} (h : x = 0) : 0 = bI (nzB x) := by unfold nzB; rw [decide_eq_true h]; rfl
theorem nz_f {x : Int32} (h : ¬ x = 0) : 1 = bI (nzB x) := by unfold nzB; rw [decide_eq_false h]; rfl
end
section
/-! THE CLAIM OUT OF ONE WALK OF THE LAW'S BODY. Your part is whole_start (and what it stands on); all else here is the same for every law, but numbers. -/
def R_law : String := "DefaultRepairLaw"
def lw_P (b : Addr) (xs : List Int32) (args : Array Value) (s : State) : Prop := args = #[.ref b] ∧ s.IntsAt b xs ∧ xs.length ≤ 2048 ∧ (Jvm.Cond.and given_1 narrow_1).before args s = true
def lw_Q (_ : Array Value) (s : State) (o : Outcome) (t : State) : Prop := o = .returned (some (.int 1)) ∧ Framed s o t [] 18 6861
def lw_Z (below : List Frame) (a : Array Value) (s : State) : State → Prop := fun t => ∃ o, t.status = .running ∧ Ended t below o ∧ lw_Q a s o t
/-- the law's own end, with 1 on the stack, nothing written that was there before, its room as the claim has it -/
theorem lw_ret {p : Program} {l : Launch} {e : Env} {s : State} {m : MethodId} {below : List Frame} {meth : Method} {c : Code} {b : Nat} (hx : p.tables.exec = Jvm.exec) (hb : c.code = code) (hr : meth.sig.returnType = ret) (hlocks : meth.locks = false) {pc : Nat} {H : Heap} {ls : Array Slot} (hdg : decode code pc = .ok (.ireturn, 1)) : W p l e room_1 s m #[Value.ref b] below meth c H [] 18 6861 (lw_Z below #[Value.ref b] s) (F0 m pc ls [.int 1]) := by
  intro T hT X
  obtain ⟨fs, hret, hrun, hended, hW, hframe⟩ := X.leave (v := some (.int 1)) (hlocks := hlocks) (fun h => by rw [hr] at h; cases h)
  have hmeth' : T.vm.method? m = some meth := X.method'
  refine ⟨T.setFrames fs, ?_, .returned (some (.int 1)), hrun, hended, rfl, ⟨_, rfl⟩, hW, hframe⟩
  jvm_step X.here [X.here.top, hx, hb, hdg, hmeth', hr, ret, narrow_b1]
  (try refine ⟨rfl, ?_⟩); (try refine ⟨rfl, ?_⟩)
  first | (intro acts; rw [hret _ acts rfl rfl rfl]) | rw [hret _ _ rfl rfl rfl]
  exact Steps.refl _
/-- what holds at the law's entry: the machine, the code, the tables' words (any of lw_tbl by 'hts w (by decide +kernel)'), the script of L ints xs at the cell b, what the Statement gives of the start (any of its parts by flat_of_before) -/
def lw_At (p : Program) (s : State) (m : MethodId) (meth : Method) (c : Code) (b L : Nat) (xs : Nat → Int32) : Prop :=
  p.tables.exec = Jvm.exec ∧ c.code = code ∧ meth.sig.returnType = ret ∧ c.maxLocals = 4 ∧ s.vm.findClass R_law = some m.cls ∧ (∀ w ∈ lw_tbl, w.before #[Value.ref b] s = true) ∧ va_X b L xs s s.heap ∧ b < s.heap.size ∧ meth.locks = false ∧ (Jvm.Cond.and given_1 narrow_1).before #[Value.ref b] s = true
end
