section
-- ===== PART A: goes FIRST, ahead of the names: the tables' words, and 'selects' of the private methods out of them =====
/-- a private method of a class that the tables say can be made, by its rows of tables_1 -/
def lw_okq (q : MethodName × Nat) : Prop := (q.1.cls ≠ "java/lang/invoke/MethodHandle" ∧ q.1.cls ≠ "java/lang/invoke/VarHandle") ∧ Cond.instantiable q.1.cls q.2 ∈ tables_1 ∧ Cond.privateMethod q.1 ∈ tables_1 ∧ Cond.instanceMethod q.1 ∈ tables_1
theorem lw_p0 : lw_okq (⟨"DefaultRepair", "isStatement", "(I)Z"⟩, 15) := ⟨⟨by decide +kernel, by decide +kernel⟩, List.mem_of_getElem? (i := 4) (by decide +kernel), List.mem_of_getElem? (i := 74) (by decide +kernel), List.mem_of_getElem? (i := 75) (by decide +kernel)⟩
theorem lw_p1 : lw_okq (⟨"DefaultRepair", "isHard", "(I)Z"⟩, 15) := ⟨⟨by decide +kernel, by decide +kernel⟩, List.mem_of_getElem? (i := 4) (by decide +kernel), List.mem_of_getElem? (i := 78) (by decide +kernel), List.mem_of_getElem? (i := 79) (by decide +kernel)⟩
theorem lw_p2 : lw_okq (⟨"DefaultRepair", "supportsOf", "(I)I"⟩, 15) := ⟨⟨by decide +kernel, by decide +kernel⟩, List.mem_of_getElem? (i := 4) (by decide +kernel), List.mem_of_getElem? (i := 101) (by decide +kernel), List.mem_of_getElem? (i := 102) (by decide +kernel)⟩
theorem lw_p3 : lw_okq (⟨"DefaultRepair", "refresh", "()V"⟩, 15) := ⟨⟨by decide +kernel, by decide +kernel⟩, List.mem_of_getElem? (i := 4) (by decide +kernel), List.mem_of_getElem? (i := 116) (by decide +kernel), List.mem_of_getElem? (i := 117) (by decide +kernel)⟩
theorem lw_p4 : lw_okq (⟨"DefaultRepair", "markClashing", "()V"⟩, 15) := ⟨⟨by decide +kernel, by decide +kernel⟩, List.mem_of_getElem? (i := 4) (by decide +kernel), List.mem_of_getElem? (i := 120) (by decide +kernel), List.mem_of_getElem? (i := 121) (by decide +kernel)⟩
theorem lw_p5 : lw_okq (⟨"DefaultRepair", "setCount", "()I"⟩, 15) := ⟨⟨by decide +kernel, by decide +kernel⟩, List.mem_of_getElem? (i := 4) (by decide +kernel), List.mem_of_getElem? (i := 124) (by decide +kernel), List.mem_of_getElem? (i := 125) (by decide +kernel)⟩
theorem lw_p6 : lw_okq (⟨"DefaultRepair", "hasClashingPart", "(I)Z"⟩, 15) := ⟨⟨by decide +kernel, by decide +kernel⟩, List.mem_of_getElem? (i := 4) (by decide +kernel), List.mem_of_getElem? (i := 128) (by decide +kernel), List.mem_of_getElem? (i := 129) (by decide +kernel)⟩
theorem lw_p7 : lw_okq (⟨"DefaultRepair", "collectFullGrown", "()V"⟩, 15) := ⟨⟨by decide +kernel, by decide +kernel⟩, List.mem_of_getElem? (i := 4) (by decide +kernel), List.mem_of_getElem? (i := 132) (by decide +kernel), List.mem_of_getElem? (i := 133) (by decide +kernel)⟩
theorem lw_p8 : lw_okq (⟨"DefaultRepair", "companyOf", "(I)I"⟩, 15) := ⟨⟨by decide +kernel, by decide +kernel⟩, List.mem_of_getElem? (i := 4) (by decide +kernel), List.mem_of_getElem? (i := 136) (by decide +kernel), List.mem_of_getElem? (i := 137) (by decide +kernel)⟩
theorem lw_p9 : lw_okq (⟨"DefaultRepair", "statementBits", "()I"⟩, 15) := ⟨⟨by decide +kernel, by decide +kernel⟩, List.mem_of_getElem? (i := 4) (by decide +kernel), List.mem_of_getElem? (i := 140) (by decide +kernel), List.mem_of_getElem? (i := 141) (by decide +kernel)⟩
theorem lw_p10 : lw_okq (⟨"DefaultRepair", "defaultsOfRanks", "(II)I"⟩, 15) := ⟨⟨by decide +kernel, by decide +kernel⟩, List.mem_of_getElem? (i := 4) (by decide +kernel), List.mem_of_getElem? (i := 144) (by decide +kernel), List.mem_of_getElem? (i := 145) (by decide +kernel)⟩
theorem lw_p11 : lw_okq (⟨"DefaultRepair", "isKept", "(I)Z"⟩, 15) := ⟨⟨by decide +kernel, by decide +kernel⟩, List.mem_of_getElem? (i := 4) (by decide +kernel), List.mem_of_getElem? (i := 148) (by decide +kernel), List.mem_of_getElem? (i := 149) (by decide +kernel)⟩
theorem lw_p12 : lw_okq (⟨"DefaultRepair", "canGrow", "(I)Z"⟩, 15) := ⟨⟨by decide +kernel, by decide +kernel⟩, List.mem_of_getElem? (i := 4) (by decide +kernel), List.mem_of_getElem? (i := 155) (by decide +kernel), List.mem_of_getElem? (i := 156) (by decide +kernel)⟩
theorem lw_p13 : lw_okq (⟨"DefaultRepair", "addRepair", "(I)V"⟩, 15) := ⟨⟨by decide +kernel, by decide +kernel⟩, List.mem_of_getElem? (i := 4) (by decide +kernel), List.mem_of_getElem? (i := 159) (by decide +kernel), List.mem_of_getElem? (i := 160) (by decide +kernel)⟩
theorem lw_p14 : lw_okq (⟨"DefaultRepair", "collectWorthiest", "()V"⟩, 15) := ⟨⟨by decide +kernel, by decide +kernel⟩, List.mem_of_getElem? (i := 4) (by decide +kernel), List.mem_of_getElem? (i := 163) (by decide +kernel), List.mem_of_getElem? (i := 164) (by decide +kernel)⟩
theorem lw_p15 : lw_okq (⟨"DefaultRepair", "worth", "(II)J"⟩, 15) := ⟨⟨by decide +kernel, by decide +kernel⟩, List.mem_of_getElem? (i := 4) (by decide +kernel), List.mem_of_getElem? (i := 168) (by decide +kernel), List.mem_of_getElem? (i := 169) (by decide +kernel)⟩
def lw_privs_1 : List (MethodName × Nat) := [(⟨"DefaultRepair", "isStatement", "(I)Z"⟩, 15), (⟨"DefaultRepair", "isHard", "(I)Z"⟩, 15), (⟨"DefaultRepair", "supportsOf", "(I)I"⟩, 15), (⟨"DefaultRepair", "refresh", "()V"⟩, 15), (⟨"DefaultRepair", "markClashing", "()V"⟩, 15), (⟨"DefaultRepair", "setCount", "()I"⟩, 15), (⟨"DefaultRepair", "hasClashingPart", "(I)Z"⟩, 15), (⟨"DefaultRepair", "collectFullGrown", "()V"⟩, 15), (⟨"DefaultRepair", "companyOf", "(I)I"⟩, 15), (⟨"DefaultRepair", "statementBits", "()I"⟩, 15), (⟨"DefaultRepair", "defaultsOfRanks", "(II)I"⟩, 15), (⟨"DefaultRepair", "isKept", "(I)Z"⟩, 15), (⟨"DefaultRepair", "canGrow", "(I)Z"⟩, 15), (⟨"DefaultRepair", "addRepair", "(I)V"⟩, 15), (⟨"DefaultRepair", "collectWorthiest", "()V"⟩, 15), (⟨"DefaultRepair", "worth", "(II)J"⟩, 15)]
theorem lw_r1 : ∀ q ∈ lw_privs_1, lw_okq q := List.forall_mem_cons.mpr ⟨lw_p0, List.forall_mem_cons.mpr ⟨lw_p1, List.forall_mem_cons.mpr ⟨lw_p2, List.forall_mem_cons.mpr ⟨lw_p3, List.forall_mem_cons.mpr ⟨lw_p4, List.forall_mem_cons.mpr ⟨lw_p5, List.forall_mem_cons.mpr ⟨lw_p6, List.forall_mem_cons.mpr ⟨lw_p7, List.forall_mem_cons.mpr ⟨lw_p8, List.forall_mem_cons.mpr ⟨lw_p9, List.forall_mem_cons.mpr ⟨lw_p10, List.forall_mem_cons.mpr ⟨lw_p11, List.forall_mem_cons.mpr ⟨lw_p12, List.forall_mem_cons.mpr ⟨lw_p13, List.forall_mem_cons.mpr ⟨lw_p14, List.forall_mem_cons.mpr ⟨lw_p15, fun _ h => absurd h List.not_mem_nil⟩⟩⟩⟩⟩⟩⟩⟩⟩⟩⟩⟩⟩⟩⟩⟩
theorem lw_p16 : lw_okq (⟨"DefaultRepair", "isRepair", "(I)Z"⟩, 15) := ⟨⟨by decide +kernel, by decide +kernel⟩, List.mem_of_getElem? (i := 4) (by decide +kernel), List.mem_of_getElem? (i := 176) (by decide +kernel), List.mem_of_getElem? (i := 177) (by decide +kernel)⟩
theorem lw_p17 : lw_okq (⟨"DefaultRepair", "holds", "(II)Z"⟩, 15) := ⟨⟨by decide +kernel, by decide +kernel⟩, List.mem_of_getElem? (i := 4) (by decide +kernel), List.mem_of_getElem? (i := 188) (by decide +kernel), List.mem_of_getElem? (i := 189) (by decide +kernel)⟩
theorem lw_p18 : lw_okq (⟨"DefaultRepair", "verdict", "(I)I"⟩, 15) := ⟨⟨by decide +kernel, by decide +kernel⟩, List.mem_of_getElem? (i := 4) (by decide +kernel), List.mem_of_getElem? (i := 192) (by decide +kernel), List.mem_of_getElem? (i := 193) (by decide +kernel)⟩
theorem lw_p19 : lw_okq (⟨"DefaultRepair", "isBetter", "(III)Z"⟩, 15) := ⟨⟨by decide +kernel, by decide +kernel⟩, List.mem_of_getElem? (i := 4) (by decide +kernel), List.mem_of_getElem? (i := 204) (by decide +kernel), List.mem_of_getElem? (i := 205) (by decide +kernel)⟩
theorem lw_p20 : lw_okq (⟨"DefaultRepair", "hasMoreByRank", "(II)Z"⟩, 15) := ⟨⟨by decide +kernel, by decide +kernel⟩, List.mem_of_getElem? (i := 4) (by decide +kernel), List.mem_of_getElem? (i := 211) (by decide +kernel), List.mem_of_getElem? (i := 212) (by decide +kernel)⟩
theorem lw_p21 : lw_okq (⟨"DefaultRepair", "leastAfter", "(I)I"⟩, 15) := ⟨⟨by decide +kernel, by decide +kernel⟩, List.mem_of_getElem? (i := 4) (by decide +kernel), List.mem_of_getElem? (i := 219) (by decide +kernel), List.mem_of_getElem? (i := 220) (by decide +kernel)⟩
theorem lw_p22 : lw_okq (⟨"DefaultRepair", "isLeast", "(I)Z"⟩, 15) := ⟨⟨by decide +kernel, by decide +kernel⟩, List.mem_of_getElem? (i := 4) (by decide +kernel), List.mem_of_getElem? (i := 223) (by decide +kernel), List.mem_of_getElem? (i := 224) (by decide +kernel)⟩
theorem lw_p23 : lw_okq (⟨"DefaultRepairModel", "isStatement", "(I)Z"⟩, 14) := ⟨⟨by decide +kernel, by decide +kernel⟩, List.mem_of_getElem? (i := 231) (by decide +kernel), List.mem_of_getElem? (i := 291) (by decide +kernel), List.mem_of_getElem? (i := 292) (by decide +kernel)⟩
theorem lw_p24 : lw_okq (⟨"DefaultRepairModel", "isBetter", "(III)Z"⟩, 14) := ⟨⟨by decide +kernel, by decide +kernel⟩, List.mem_of_getElem? (i := 231) (by decide +kernel), List.mem_of_getElem? (i := 319) (by decide +kernel), List.mem_of_getElem? (i := 320) (by decide +kernel)⟩
theorem lw_p25 : lw_okq (⟨"DefaultRepairModel", "compare", "(IIIZ)I"⟩, 14) := ⟨⟨by decide +kernel, by decide +kernel⟩, List.mem_of_getElem? (i := 231) (by decide +kernel), List.mem_of_getElem? (i := 326) (by decide +kernel), List.mem_of_getElem? (i := 327) (by decide +kernel)⟩
theorem lw_p26 : lw_okq (⟨"DefaultRepairModel", "work", "()V"⟩, 14) := ⟨⟨by decide +kernel, by decide +kernel⟩, List.mem_of_getElem? (i := 231) (by decide +kernel), List.mem_of_getElem? (i := 334) (by decide +kernel), List.mem_of_getElem? (i := 335) (by decide +kernel)⟩
theorem lw_p27 : lw_okq (⟨"DefaultRepairModel", "isKept", "(I)Z"⟩, 14) := ⟨⟨by decide +kernel, by decide +kernel⟩, List.mem_of_getElem? (i := 231) (by decide +kernel), List.mem_of_getElem? (i := 338) (by decide +kernel), List.mem_of_getElem? (i := 339) (by decide +kernel)⟩
theorem lw_p28 : lw_okq (⟨"DefaultRepairModel", "told", "(I)I"⟩, 14) := ⟨⟨by decide +kernel, by decide +kernel⟩, List.mem_of_getElem? (i := 231) (by decide +kernel), List.mem_of_getElem? (i := 354) (by decide +kernel), List.mem_of_getElem? (i := 355) (by decide +kernel)⟩
theorem lw_p29 : lw_okq (⟨"DefaultRepairModel", "isLeast", "(I)Z"⟩, 14) := ⟨⟨by decide +kernel, by decide +kernel⟩, List.mem_of_getElem? (i := 231) (by decide +kernel), List.mem_of_getElem? (i := 366) (by decide +kernel), List.mem_of_getElem? (i := 367) (by decide +kernel)⟩
def lw_privs_2 : List (MethodName × Nat) := [(⟨"DefaultRepair", "isRepair", "(I)Z"⟩, 15), (⟨"DefaultRepair", "holds", "(II)Z"⟩, 15), (⟨"DefaultRepair", "verdict", "(I)I"⟩, 15), (⟨"DefaultRepair", "isBetter", "(III)Z"⟩, 15), (⟨"DefaultRepair", "hasMoreByRank", "(II)Z"⟩, 15), (⟨"DefaultRepair", "leastAfter", "(I)I"⟩, 15), (⟨"DefaultRepair", "isLeast", "(I)Z"⟩, 15), (⟨"DefaultRepairModel", "isStatement", "(I)Z"⟩, 14), (⟨"DefaultRepairModel", "isBetter", "(III)Z"⟩, 14), (⟨"DefaultRepairModel", "compare", "(IIIZ)I"⟩, 14), (⟨"DefaultRepairModel", "work", "()V"⟩, 14), (⟨"DefaultRepairModel", "isKept", "(I)Z"⟩, 14), (⟨"DefaultRepairModel", "told", "(I)I"⟩, 14), (⟨"DefaultRepairModel", "isLeast", "(I)Z"⟩, 14)]
theorem lw_r2 : ∀ q ∈ lw_privs_2, lw_okq q := List.forall_mem_cons.mpr ⟨lw_p16, List.forall_mem_cons.mpr ⟨lw_p17, List.forall_mem_cons.mpr ⟨lw_p18, List.forall_mem_cons.mpr ⟨lw_p19, List.forall_mem_cons.mpr ⟨lw_p20, List.forall_mem_cons.mpr ⟨lw_p21, List.forall_mem_cons.mpr ⟨lw_p22, List.forall_mem_cons.mpr ⟨lw_p23, List.forall_mem_cons.mpr ⟨lw_p24, List.forall_mem_cons.mpr ⟨lw_p25, List.forall_mem_cons.mpr ⟨lw_p26, List.forall_mem_cons.mpr ⟨lw_p27, List.forall_mem_cons.mpr ⟨lw_p28, List.forall_mem_cons.mpr ⟨lw_p29, fun _ h => absurd h List.not_mem_nil⟩⟩⟩⟩⟩⟩⟩⟩⟩⟩⟩⟩⟩⟩
def lw_privs : List (MethodName × Nat) := lw_privs_1 ++ (lw_privs_2)
def lw_tbl : List Cond := k2_sels lw_privs ++ tables_1
theorem lw_privs_ok : ∀ q ∈ lw_privs, lw_okq q := by
  show ∀ q ∈ lw_privs_1 ++ (lw_privs_2), lw_okq q
  exact List.forall_mem_append.mpr ⟨lw_r1, lw_r2⟩
end
section
/-- the words of the tables that stay true: every method here takes them all -/
def tbl : List Cond := lw_tbl.filter goodWord
theorem tb_mem {w : Cond} (h : w ∈ lw_tbl) (hg : goodWord w = true) : w ∈ tbl := List.mem_filter.mpr ⟨h, hg⟩
def RX : String := "DefaultRepair"
def TX : u_T := fun k => match k with
  | 0 => ("DefaultRepair", "statementCount", "I", false)
  | 1 => ("DefaultRepair", "hardBits", "I", false)
  | 2 => ("DefaultRepair", "ranks", "[I", true)
  | 3 => ("DefaultRepair", "weights", "[I", true)
  | 4 => ("DefaultRepair", "clashes", "[I", true)
  | 5 => ("DefaultRepair", "clashCount", "I", false)
  | 6 => ("DefaultRepair", "supports", "[I", true)
  | 7 => ("DefaultRepair", "supportAnswers", "[I", true)
  | 8 => ("DefaultRepair", "supportCount", "I", false)
  | 9 => ("DefaultRepair", "orderNow", "I", false)
  | 10 => ("DefaultRepair", "fresh", "Z", false)
  | 11 => ("DefaultRepair", "clashing", "[Z", true)
  | 12 => ("DefaultRepair", "company", "[I", true)
  | 13 => ("DefaultRepair", "repairs", "[I", true)
  | _ => ("DefaultRepair", "repairCount", "I", false)
def tyX : Nat → FieldType := fun k => match k with
  | 0 => .int
  | 1 => .int
  | 2 => .array .int
  | 3 => .array .int
  | 4 => .array .int
  | 5 => .int
  | 6 => .array .int
  | 7 => .array .int
  | 8 => .int
  | 9 => .int
  | 10 => .boolean
  | 11 => .array .boolean
  | 12 => .array .int
  | 13 => .array .int
  | _ => .int
theorem nmX : ∀ a, a < 15 → ∀ b, b < 15 → a ≠ b → (TX a).2.1 ≠ (TX b).2.1 := by decide +kernel
theorem tyX_ok : ∀ k, k < 15 → parseFieldDescriptor (TX k).2.2.1 = some (tyX k) := by decide +kernel
theorem inX : ∀ w ∈ u_ws RX TX 15, w ∈ tbl := by decide +kernel
def RY : String := "DefaultRepairModel"
def TY : u_T := fun k => match k with
  | 0 => ("DefaultRepairModel", "count", "I", false)
  | 1 => ("DefaultRepairModel", "hards", "[Z", true)
  | 2 => ("DefaultRepairModel", "ranks", "[I", true)
  | 3 => ("DefaultRepairModel", "weights", "[I", true)
  | 4 => ("DefaultRepairModel", "clashes", "[I", true)
  | 5 => ("DefaultRepairModel", "clashCount", "I", false)
  | 6 => ("DefaultRepairModel", "owners", "[I", true)
  | 7 => ("DefaultRepairModel", "supports", "[I", true)
  | 8 => ("DefaultRepairModel", "supportCount", "I", false)
  | 9 => ("DefaultRepairModel", "order", "I", false)
  | 10 => ("DefaultRepairModel", "known", "Z", false)
  | 11 => ("DefaultRepairModel", "keeps", "[Z", true)
  | 12 => ("DefaultRepairModel", "repairs", "[I", true)
  | _ => ("DefaultRepairModel", "repairCount", "I", false)
def tyY : Nat → FieldType := fun k => match k with
  | 0 => .int
  | 1 => .array .boolean
  | 2 => .array .int
  | 3 => .array .int
  | 4 => .array .int
  | 5 => .int
  | 6 => .array .int
  | 7 => .array .int
  | 8 => .int
  | 9 => .int
  | 10 => .boolean
  | 11 => .array .boolean
  | 12 => .array .int
  | _ => .int
theorem nmY : ∀ a, a < 14 → ∀ b, b < 14 → a ≠ b → (TY a).2.1 ≠ (TY b).2.1 := by decide +kernel
theorem tyY_ok : ∀ k, k < 14 → parseFieldDescriptor (TY k).2.2.1 = some (tyY k) := by decide +kernel
theorem inY : ∀ w ∈ u_ws RY TY 14, w ∈ tbl := by decide +kernel
def RL : String := "DefaultRepairLaw"
abbrev clX : List vw_C := [(RX, TX, 15), (RY, TY, 14)]
abbrev b_X_init : ByteArray := prog_1_method_1_code
def y_X_init : MethodName := ⟨RX, "<init>", "()V"⟩
def w_X_init : List Cond := Cond.code y_X_init b_X_init 1 none :: tbl
theorem h_X_init_code : Cond.code y_X_init b_X_init 1 none ∈ tbl := tb_mem (List.mem_of_getElem? (i := 37) rfl) rfl
theorem h_X_init_kind : Cond.instanceMethod y_X_init ∈ tbl := tb_mem (List.mem_of_getElem? (i := 36) (by decide +kernel)) rfl
abbrev b_X_fact : ByteArray := prog_1_method_2_code
def y_X_fact : MethodName := ⟨RX, "fact", "(ZII)I"⟩
def w_X_fact : List Cond := Cond.code y_X_fact b_X_fact 5 (some .int) :: tbl
theorem h_X_fact_code : Cond.code y_X_fact b_X_fact 5 (some .int) ∈ tbl := tb_mem (List.mem_of_getElem? (i := 92) rfl) rfl
theorem h_X_fact_kind : Cond.instanceMethod y_X_fact ∈ tbl := tb_mem (List.mem_of_getElem? (i := 90) (by decide +kernel)) rfl
theorem h_X_fact_sel : Cond.selects RX y_X_fact y_X_fact ∈ tbl := tb_mem (List.mem_of_getElem? (i := 91) (by decide +kernel)) rfl
abbrev b_X_harden : ByteArray := prog_1_method_3_code
def y_X_harden : MethodName := ⟨RX, "harden", "(IZ)I"⟩
def w_X_harden : List Cond := Cond.code y_X_harden b_X_harden 3 (some .int) :: tbl
theorem h_X_harden_code : Cond.code y_X_harden b_X_harden 3 (some .int) ∈ tbl := tb_mem (List.mem_of_getElem? (i := 102) rfl) rfl
theorem h_X_harden_kind : Cond.instanceMethod y_X_harden ∈ tbl := tb_mem (List.mem_of_getElem? (i := 100) (by decide +kernel)) rfl
theorem h_X_harden_sel : Cond.selects RX y_X_harden y_X_harden ∈ tbl := tb_mem (List.mem_of_getElem? (i := 101) (by decide +kernel)) rfl
abbrev b_X_weight : ByteArray := prog_1_method_4_code
def y_X_weight : MethodName := ⟨RX, "weight", "(III)I"⟩
def w_X_weight : List Cond := Cond.code y_X_weight b_X_weight 4 (some .int) :: tbl
theorem h_X_weight_code : Cond.code y_X_weight b_X_weight 4 (some .int) ∈ tbl := tb_mem (List.mem_of_getElem? (i := 114) rfl) rfl
theorem h_X_weight_kind : Cond.instanceMethod y_X_weight ∈ tbl := tb_mem (List.mem_of_getElem? (i := 112) (by decide +kernel)) rfl
theorem h_X_weight_sel : Cond.selects RX y_X_weight y_X_weight ∈ tbl := tb_mem (List.mem_of_getElem? (i := 113) (by decide +kernel)) rfl
abbrev b_X_clash : ByteArray := prog_1_method_5_code
def y_X_clash : MethodName := ⟨RX, "clash", "(I)I"⟩
def w_X_clash : List Cond := Cond.code y_X_clash b_X_clash 2 (some .int) :: tbl
theorem h_X_clash_code : Cond.code y_X_clash b_X_clash 2 (some .int) ∈ tbl := tb_mem (List.mem_of_getElem? (i := 118) rfl) rfl
theorem h_X_clash_kind : Cond.instanceMethod y_X_clash ∈ tbl := tb_mem (List.mem_of_getElem? (i := 116) (by decide +kernel)) rfl
theorem h_X_clash_sel : Cond.selects RX y_X_clash y_X_clash ∈ tbl := tb_mem (List.mem_of_getElem? (i := 117) (by decide +kernel)) rfl
abbrev b_X_settle : ByteArray := prog_1_method_6_code
def y_X_settle : MethodName := ⟨RX, "settle", "()I"⟩
def w_X_settle : List Cond := Cond.code y_X_settle b_X_settle 1 (some .int) :: tbl
theorem h_X_settle_code : Cond.code y_X_settle b_X_settle 1 (some .int) ∈ tbl := tb_mem (List.mem_of_getElem? (i := 122) rfl) rfl
theorem h_X_settle_kind : Cond.instanceMethod y_X_settle ∈ tbl := tb_mem (List.mem_of_getElem? (i := 120) (by decide +kernel)) rfl
theorem h_X_settle_sel : Cond.selects RX y_X_settle y_X_settle ∈ tbl := tb_mem (List.mem_of_getElem? (i := 121) (by decide +kernel)) rfl
abbrev b_X_support : ByteArray := prog_1_method_7_code
def y_X_support : MethodName := ⟨RX, "support", "(II)I"⟩
def w_X_support : List Cond := Cond.code y_X_support b_X_support 3 (some .int) :: tbl
theorem h_X_support_code : Cond.code y_X_support b_X_support 3 (some .int) ∈ tbl := tb_mem (List.mem_of_getElem? (i := 126) rfl) rfl
theorem h_X_support_kind : Cond.instanceMethod y_X_support ∈ tbl := tb_mem (List.mem_of_getElem? (i := 124) (by decide +kernel)) rfl
theorem h_X_support_sel : Cond.selects RX y_X_support y_X_support ∈ tbl := tb_mem (List.mem_of_getElem? (i := 125) (by decide +kernel)) rfl
abbrev b_X_order : ByteArray := prog_1_method_8_code
def y_X_order : MethodName := ⟨RX, "order", "(I)I"⟩
def w_X_order : List Cond := Cond.code y_X_order b_X_order 2 (some .int) :: tbl
theorem h_X_order_code : Cond.code y_X_order b_X_order 2 (some .int) ∈ tbl := tb_mem (List.mem_of_getElem? (i := 137) rfl) rfl
theorem h_X_order_kind : Cond.instanceMethod y_X_order ∈ tbl := tb_mem (List.mem_of_getElem? (i := 135) (by decide +kernel)) rfl
theorem h_X_order_sel : Cond.selects RX y_X_order y_X_order ∈ tbl := tb_mem (List.mem_of_getElem? (i := 136) (by decide +kernel)) rfl
abbrev b_X_find : ByteArray := prog_1_method_9_code
def y_X_find : MethodName := ⟨RX, "find", "()I"⟩
def w_X_find : List Cond := Cond.code y_X_find b_X_find 1 (some .int) :: tbl
theorem h_X_find_code : Cond.code y_X_find b_X_find 1 (some .int) ∈ tbl := tb_mem (List.mem_of_getElem? (i := 144) rfl) rfl
theorem h_X_find_kind : Cond.instanceMethod y_X_find ∈ tbl := tb_mem (List.mem_of_getElem? (i := 142) (by decide +kernel)) rfl
theorem h_X_find_sel : Cond.selects RX y_X_find y_X_find ∈ tbl := tb_mem (List.mem_of_getElem? (i := 143) (by decide +kernel)) rfl
abbrev b_X_kept : ByteArray := prog_1_method_10_code
def y_X_kept : MethodName := ⟨RX, "kept", "(I)I"⟩
def w_X_kept : List Cond := Cond.code y_X_kept b_X_kept 2 (some .int) :: tbl
theorem h_X_kept_code : Cond.code y_X_kept b_X_kept 2 (some .int) ∈ tbl := tb_mem (List.mem_of_getElem? (i := 204) rfl) rfl
theorem h_X_kept_kind : Cond.instanceMethod y_X_kept ∈ tbl := tb_mem (List.mem_of_getElem? (i := 202) (by decide +kernel)) rfl
theorem h_X_kept_sel : Cond.selects RX y_X_kept y_X_kept ∈ tbl := tb_mem (List.mem_of_getElem? (i := 203) (by decide +kernel)) rfl
abbrev b_X_left : ByteArray := prog_1_method_11_code
def y_X_left : MethodName := ⟨RX, "left", "(II)I"⟩
def w_X_left : List Cond := Cond.code y_X_left b_X_left 6 (some .int) :: tbl
theorem h_X_left_code : Cond.code y_X_left b_X_left 6 (some .int) ∈ tbl := tb_mem (List.mem_of_getElem? (i := 212) rfl) rfl
theorem h_X_left_kind : Cond.instanceMethod y_X_left ∈ tbl := tb_mem (List.mem_of_getElem? (i := 210) (by decide +kernel)) rfl
theorem h_X_left_sel : Cond.selects RX y_X_left y_X_left ∈ tbl := tb_mem (List.mem_of_getElem? (i := 211) (by decide +kernel)) rfl
abbrev b_X_truth : ByteArray := prog_1_method_12_code
def y_X_truth : MethodName := ⟨RX, "truth", "(I)I"⟩
def w_X_truth : List Cond := Cond.code y_X_truth b_X_truth 4 (some .int) :: tbl
theorem h_X_truth_code : Cond.code y_X_truth b_X_truth 4 (some .int) ∈ tbl := tb_mem (List.mem_of_getElem? (i := 216) rfl) rfl
theorem h_X_truth_kind : Cond.instanceMethod y_X_truth ∈ tbl := tb_mem (List.mem_of_getElem? (i := 214) (by decide +kernel)) rfl
theorem h_X_truth_sel : Cond.selects RX y_X_truth y_X_truth ∈ tbl := tb_mem (List.mem_of_getElem? (i := 215) (by decide +kernel)) rfl
abbrev b_X_surely : ByteArray := prog_1_method_13_code
def y_X_surely : MethodName := ⟨RX, "surely", "(I)I"⟩
def w_X_surely : List Cond := Cond.code y_X_surely b_X_surely 4 (some .int) :: tbl
theorem h_X_surely_code : Cond.code y_X_surely b_X_surely 4 (some .int) ∈ tbl := tb_mem (List.mem_of_getElem? (i := 228) rfl) rfl
theorem h_X_surely_kind : Cond.instanceMethod y_X_surely ∈ tbl := tb_mem (List.mem_of_getElem? (i := 226) (by decide +kernel)) rfl
theorem h_X_surely_sel : Cond.selects RX y_X_surely y_X_surely ∈ tbl := tb_mem (List.mem_of_getElem? (i := 227) (by decide +kernel)) rfl
abbrev b_X_better : ByteArray := prog_1_method_14_code
def y_X_better : MethodName := ⟨RX, "better", "(III)I"⟩
def w_X_better : List Cond := Cond.code y_X_better b_X_better 6 (some .int) :: tbl
theorem h_X_better_code : Cond.code y_X_better b_X_better 6 (some .int) ∈ tbl := tb_mem (List.mem_of_getElem? (i := 232) rfl) rfl
theorem h_X_better_kind : Cond.instanceMethod y_X_better ∈ tbl := tb_mem (List.mem_of_getElem? (i := 230) (by decide +kernel)) rfl
theorem h_X_better_sel : Cond.selects RX y_X_better y_X_better ∈ tbl := tb_mem (List.mem_of_getElem? (i := 231) (by decide +kernel)) rfl
abbrev b_X_least : ByteArray := prog_1_method_15_code
def y_X_least : MethodName := ⟨RX, "least", "(I)I"⟩
def w_X_least : List Cond := Cond.code y_X_least b_X_least 4 (some .int) :: tbl
theorem h_X_least_code : Cond.code y_X_least b_X_least 4 (some .int) ∈ tbl := tb_mem (List.mem_of_getElem? (i := 247) rfl) rfl
theorem h_X_least_kind : Cond.instanceMethod y_X_least ∈ tbl := tb_mem (List.mem_of_getElem? (i := 245) (by decide +kernel)) rfl
theorem h_X_least_sel : Cond.selects RX y_X_least y_X_least ∈ tbl := tb_mem (List.mem_of_getElem? (i := 246) (by decide +kernel)) rfl
abbrev b_X_size : ByteArray := prog_1_method_16_code
def y_X_size : MethodName := ⟨RX, "size", "()I"⟩
def w_X_size : List Cond := Cond.code y_X_size b_X_size 1 (some .int) :: tbl
theorem h_X_size_code : Cond.code y_X_size b_X_size 1 (some .int) ∈ tbl := tb_mem (List.mem_of_getElem? (i := 259) rfl) rfl
theorem h_X_size_kind : Cond.instanceMethod y_X_size ∈ tbl := tb_mem (List.mem_of_getElem? (i := 257) (by decide +kernel)) rfl
theorem h_X_size_sel : Cond.selects RX y_X_size y_X_size ∈ tbl := tb_mem (List.mem_of_getElem? (i := 258) (by decide +kernel)) rfl
abbrev b_X_isRank : ByteArray := prog_1_method_17_code
def y_X_isRank : MethodName := ⟨RX, "isRank", "(I)Z"⟩
def w_X_isRank : List Cond := Cond.code y_X_isRank b_X_isRank 1 (some .boolean) :: tbl
theorem h_X_isRank_code : Cond.code y_X_isRank b_X_isRank 1 (some .boolean) ∈ tbl := tb_mem (List.mem_of_getElem? (i := 95) rfl) rfl
theorem h_X_isRank_kind : Cond.static y_X_isRank ∈ tbl := tb_mem (List.mem_of_getElem? (i := 94) (by decide +kernel)) rfl
abbrev b_X_isWeight : ByteArray := prog_1_method_18_code
def y_X_isWeight : MethodName := ⟨RX, "isWeight", "(I)Z"⟩
def w_X_isWeight : List Cond := Cond.code y_X_isWeight b_X_isWeight 1 (some .boolean) :: tbl
theorem h_X_isWeight_code : Cond.code y_X_isWeight b_X_isWeight 1 (some .boolean) ∈ tbl := tb_mem (List.mem_of_getElem? (i := 98) rfl) rfl
theorem h_X_isWeight_kind : Cond.static y_X_isWeight ∈ tbl := tb_mem (List.mem_of_getElem? (i := 97) (by decide +kernel)) rfl
abbrev b_X_isAnswer : ByteArray := prog_1_method_19_code
def y_X_isAnswer : MethodName := ⟨RX, "isAnswer", "(I)Z"⟩
def w_X_isAnswer : List Cond := Cond.code y_X_isAnswer b_X_isAnswer 1 (some .boolean) :: tbl
theorem h_X_isAnswer_code : Cond.code y_X_isAnswer b_X_isAnswer 1 (some .boolean) ∈ tbl := tb_mem (List.mem_of_getElem? (i := 129) rfl) rfl
theorem h_X_isAnswer_kind : Cond.static y_X_isAnswer ∈ tbl := tb_mem (List.mem_of_getElem? (i := 128) (by decide +kernel)) rfl
abbrev b_X_isOrder : ByteArray := prog_1_method_20_code
def y_X_isOrder : MethodName := ⟨RX, "isOrder", "(I)Z"⟩
def w_X_isOrder : List Cond := Cond.code y_X_isOrder b_X_isOrder 1 (some .boolean) :: tbl
theorem h_X_isOrder_code : Cond.code y_X_isOrder b_X_isOrder 1 (some .boolean) ∈ tbl := tb_mem (List.mem_of_getElem? (i := 140) rfl) rfl
theorem h_X_isOrder_kind : Cond.static y_X_isOrder ∈ tbl := tb_mem (List.mem_of_getElem? (i := 139) (by decide +kernel)) rfl
abbrev b_X_isStatement : ByteArray := prog_1_method_21_code
def y_X_isStatement : MethodName := ⟨RX, "isStatement", "(I)Z"⟩
def w_X_isStatement : List Cond := Cond.code y_X_isStatement b_X_isStatement 2 (some .boolean) :: tbl
theorem h_X_isStatement_code : Cond.code y_X_isStatement b_X_isStatement 2 (some .boolean) ∈ tbl := tb_mem (List.mem_of_getElem? (i := 106) rfl) rfl
theorem h_X_isStatement_kind : Cond.instanceMethod y_X_isStatement ∈ tbl := tb_mem (List.mem_of_getElem? (i := 105) (by decide +kernel)) rfl
theorem h_X_isStatement_sel : Cond.selects RX y_X_isStatement y_X_isStatement ∈ tbl := tb_mem (List.mem_of_getElem? (i := 0) (by decide +kernel)) rfl
abbrev b_X_isRepair : ByteArray := prog_1_method_22_code
def y_X_isRepair : MethodName := ⟨RX, "isRepair", "(I)Z"⟩
def w_X_isRepair : List Cond := Cond.code y_X_isRepair b_X_isRepair 2 (some .boolean) :: tbl
theorem h_X_isRepair_code : Cond.code y_X_isRepair b_X_isRepair 2 (some .boolean) ∈ tbl := tb_mem (List.mem_of_getElem? (i := 208) rfl) rfl
theorem h_X_isRepair_kind : Cond.instanceMethod y_X_isRepair ∈ tbl := tb_mem (List.mem_of_getElem? (i := 207) (by decide +kernel)) rfl
theorem h_X_isRepair_sel : Cond.selects RX y_X_isRepair y_X_isRepair ∈ tbl := tb_mem (List.mem_of_getElem? (i := 16) (by decide +kernel)) rfl
abbrev b_X_isHard : ByteArray := prog_1_method_23_code
def y_X_isHard : MethodName := ⟨RX, "isHard", "(I)Z"⟩
def w_X_isHard : List Cond := Cond.code y_X_isHard b_X_isHard 2 (some .boolean) :: tbl
theorem h_X_isHard_code : Cond.code y_X_isHard b_X_isHard 2 (some .boolean) ∈ tbl := tb_mem (List.mem_of_getElem? (i := 110) rfl) rfl
theorem h_X_isHard_kind : Cond.instanceMethod y_X_isHard ∈ tbl := tb_mem (List.mem_of_getElem? (i := 109) (by decide +kernel)) rfl
theorem h_X_isHard_sel : Cond.selects RX y_X_isHard y_X_isHard ∈ tbl := tb_mem (List.mem_of_getElem? (i := 1) (by decide +kernel)) rfl
abbrev b_X_setCount : ByteArray := prog_1_method_24_code
def y_X_setCount : MethodName := ⟨RX, "setCount", "()I"⟩
def w_X_setCount : List Cond := Cond.code y_X_setCount b_X_setCount 1 (some .int) :: tbl
theorem h_X_setCount_code : Cond.code y_X_setCount b_X_setCount 1 (some .int) ∈ tbl := tb_mem (List.mem_of_getElem? (i := 156) rfl) rfl
theorem h_X_setCount_kind : Cond.instanceMethod y_X_setCount ∈ tbl := tb_mem (List.mem_of_getElem? (i := 155) (by decide +kernel)) rfl
theorem h_X_setCount_sel : Cond.selects RX y_X_setCount y_X_setCount ∈ tbl := tb_mem (List.mem_of_getElem? (i := 5) (by decide +kernel)) rfl
abbrev b_X_statementBits : ByteArray := prog_1_method_25_code
def y_X_statementBits : MethodName := ⟨RX, "statementBits", "()I"⟩
def w_X_statementBits : List Cond := Cond.code y_X_statementBits b_X_statementBits 1 (some .int) :: tbl
theorem h_X_statementBits_code : Cond.code y_X_statementBits b_X_statementBits 1 (some .int) ∈ tbl := tb_mem (List.mem_of_getElem? (i := 172) rfl) rfl
theorem h_X_statementBits_kind : Cond.instanceMethod y_X_statementBits ∈ tbl := tb_mem (List.mem_of_getElem? (i := 171) (by decide +kernel)) rfl
theorem h_X_statementBits_sel : Cond.selects RX y_X_statementBits y_X_statementBits ∈ tbl := tb_mem (List.mem_of_getElem? (i := 9) (by decide +kernel)) rfl
abbrev b_X_isBetter : ByteArray := prog_1_method_26_code
def y_X_isBetter : MethodName := ⟨RX, "isBetter", "(III)Z"⟩
def w_X_isBetter : List Cond := Cond.code y_X_isBetter b_X_isBetter 4 (some .boolean) :: tbl
theorem h_X_isBetter_code : Cond.code y_X_isBetter b_X_isBetter 4 (some .boolean) ∈ tbl := tb_mem (List.mem_of_getElem? (i := 236) rfl) rfl
theorem h_X_isBetter_kind : Cond.instanceMethod y_X_isBetter ∈ tbl := tb_mem (List.mem_of_getElem? (i := 235) (by decide +kernel)) rfl
theorem h_X_isBetter_sel : Cond.selects RX y_X_isBetter y_X_isBetter ∈ tbl := tb_mem (List.mem_of_getElem? (i := 19) (by decide +kernel)) rfl
abbrev b_X_isPart : ByteArray := prog_1_method_27_code
def y_X_isPart : MethodName := ⟨RX, "isPart", "(II)Z"⟩
def w_X_isPart : List Cond := Cond.code y_X_isPart b_X_isPart 2 (some .boolean) :: tbl
theorem h_X_isPart_code : Cond.code y_X_isPart b_X_isPart 2 (some .boolean) ∈ tbl := tb_mem (List.mem_of_getElem? (i := 183) rfl) rfl
theorem h_X_isPart_kind : Cond.static y_X_isPart ∈ tbl := tb_mem (List.mem_of_getElem? (i := 182) (by decide +kernel)) rfl
abbrev b_X_hasMore : ByteArray := prog_1_method_28_code
def y_X_hasMore : MethodName := ⟨RX, "hasMore", "(II)Z"⟩
def w_X_hasMore : List Cond := Cond.code y_X_hasMore b_X_hasMore 2 (some .boolean) :: tbl
theorem h_X_hasMore_code : Cond.code y_X_hasMore b_X_hasMore 2 (some .boolean) ∈ tbl := tb_mem (List.mem_of_getElem? (i := 239) rfl) rfl
theorem h_X_hasMore_kind : Cond.static y_X_hasMore ∈ tbl := tb_mem (List.mem_of_getElem? (i := 238) (by decide +kernel)) rfl
abbrev b_X_hasMoreByRank : ByteArray := prog_1_method_29_code
def y_X_hasMoreByRank : MethodName := ⟨RX, "hasMoreByRank", "(II)Z"⟩
def w_X_hasMoreByRank : List Cond := Cond.code y_X_hasMoreByRank b_X_hasMoreByRank 5 (some .boolean) :: tbl
theorem h_X_hasMoreByRank_code : Cond.code y_X_hasMoreByRank b_X_hasMoreByRank 5 (some .boolean) ∈ tbl := tb_mem (List.mem_of_getElem? (i := 243) rfl) rfl
theorem h_X_hasMoreByRank_kind : Cond.instanceMethod y_X_hasMoreByRank ∈ tbl := tb_mem (List.mem_of_getElem? (i := 242) (by decide +kernel)) rfl
theorem h_X_hasMoreByRank_sel : Cond.selects RX y_X_hasMoreByRank y_X_hasMoreByRank ∈ tbl := tb_mem (List.mem_of_getElem? (i := 20) (by decide +kernel)) rfl
abbrev b_X_defaultsOfRanks : ByteArray := prog_1_method_30_code
def y_X_defaultsOfRanks : MethodName := ⟨RX, "defaultsOfRanks", "(II)I"⟩
def w_X_defaultsOfRanks : List Cond := Cond.code y_X_defaultsOfRanks b_X_defaultsOfRanks 5 (some .int) :: tbl
theorem h_X_defaultsOfRanks_code : Cond.code y_X_defaultsOfRanks b_X_defaultsOfRanks 5 (some .int) ∈ tbl := tb_mem (List.mem_of_getElem? (i := 176) rfl) rfl
theorem h_X_defaultsOfRanks_kind : Cond.instanceMethod y_X_defaultsOfRanks ∈ tbl := tb_mem (List.mem_of_getElem? (i := 175) (by decide +kernel)) rfl
theorem h_X_defaultsOfRanks_sel : Cond.selects RX y_X_defaultsOfRanks y_X_defaultsOfRanks ∈ tbl := tb_mem (List.mem_of_getElem? (i := 10) (by decide +kernel)) rfl
abbrev b_X_worth : ByteArray := prog_1_method_31_code
def y_X_worth : MethodName := ⟨RX, "worth", "(II)J"⟩
def w_X_worth : List Cond := Cond.code y_X_worth b_X_worth 6 (some .long) :: tbl
theorem h_X_worth_code : Cond.code y_X_worth b_X_worth 6 (some .long) ∈ tbl := tb_mem (List.mem_of_getElem? (i := 200) rfl) rfl
theorem h_X_worth_kind : Cond.instanceMethod y_X_worth ∈ tbl := tb_mem (List.mem_of_getElem? (i := 199) (by decide +kernel)) rfl
theorem h_X_worth_sel : Cond.selects RX y_X_worth y_X_worth ∈ tbl := tb_mem (List.mem_of_getElem? (i := 15) (by decide +kernel)) rfl
abbrev b_X_supportsOf : ByteArray := prog_1_method_32_code
def y_X_supportsOf : MethodName := ⟨RX, "supportsOf", "(I)I"⟩
def w_X_supportsOf : List Cond := Cond.code y_X_supportsOf b_X_supportsOf 4 (some .int) :: tbl
theorem h_X_supportsOf_code : Cond.code y_X_supportsOf b_X_supportsOf 4 (some .int) ∈ tbl := tb_mem (List.mem_of_getElem? (i := 133) rfl) rfl
theorem h_X_supportsOf_kind : Cond.instanceMethod y_X_supportsOf ∈ tbl := tb_mem (List.mem_of_getElem? (i := 132) (by decide +kernel)) rfl
theorem h_X_supportsOf_sel : Cond.selects RX y_X_supportsOf y_X_supportsOf ∈ tbl := tb_mem (List.mem_of_getElem? (i := 2) (by decide +kernel)) rfl
abbrev b_X_holds : ByteArray := prog_1_method_33_code
def y_X_holds : MethodName := ⟨RX, "holds", "(II)Z"⟩
def w_X_holds : List Cond := Cond.code y_X_holds b_X_holds 4 (some .boolean) :: tbl
theorem h_X_holds_code : Cond.code y_X_holds b_X_holds 4 (some .boolean) ∈ tbl := tb_mem (List.mem_of_getElem? (i := 220) rfl) rfl
theorem h_X_holds_kind : Cond.instanceMethod y_X_holds ∈ tbl := tb_mem (List.mem_of_getElem? (i := 219) (by decide +kernel)) rfl
theorem h_X_holds_sel : Cond.selects RX y_X_holds y_X_holds ∈ tbl := tb_mem (List.mem_of_getElem? (i := 17) (by decide +kernel)) rfl
abbrev b_X_verdict : ByteArray := prog_1_method_34_code
def y_X_verdict : MethodName := ⟨RX, "verdict", "(I)I"⟩
def w_X_verdict : List Cond := Cond.code y_X_verdict b_X_verdict 2 (some .int) :: tbl
theorem h_X_verdict_code : Cond.code y_X_verdict b_X_verdict 2 (some .int) ∈ tbl := tb_mem (List.mem_of_getElem? (i := 224) rfl) rfl
theorem h_X_verdict_kind : Cond.instanceMethod y_X_verdict ∈ tbl := tb_mem (List.mem_of_getElem? (i := 223) (by decide +kernel)) rfl
theorem h_X_verdict_sel : Cond.selects RX y_X_verdict y_X_verdict ∈ tbl := tb_mem (List.mem_of_getElem? (i := 18) (by decide +kernel)) rfl
abbrev b_X_leastAfter : ByteArray := prog_1_method_35_code
def y_X_leastAfter : MethodName := ⟨RX, "leastAfter", "(I)I"⟩
def w_X_leastAfter : List Cond := Cond.code y_X_leastAfter b_X_leastAfter 5 (some .int) :: tbl
theorem h_X_leastAfter_code : Cond.code y_X_leastAfter b_X_leastAfter 5 (some .int) ∈ tbl := tb_mem (List.mem_of_getElem? (i := 251) rfl) rfl
theorem h_X_leastAfter_kind : Cond.instanceMethod y_X_leastAfter ∈ tbl := tb_mem (List.mem_of_getElem? (i := 250) (by decide +kernel)) rfl
theorem h_X_leastAfter_sel : Cond.selects RX y_X_leastAfter y_X_leastAfter ∈ tbl := tb_mem (List.mem_of_getElem? (i := 21) (by decide +kernel)) rfl
abbrev b_X_isLeast : ByteArray := prog_1_method_36_code
def y_X_isLeast : MethodName := ⟨RX, "isLeast", "(I)Z"⟩
def w_X_isLeast : List Cond := Cond.code y_X_isLeast b_X_isLeast 3 (some .boolean) :: tbl
theorem h_X_isLeast_code : Cond.code y_X_isLeast b_X_isLeast 3 (some .boolean) ∈ tbl := tb_mem (List.mem_of_getElem? (i := 255) rfl) rfl
theorem h_X_isLeast_kind : Cond.instanceMethod y_X_isLeast ∈ tbl := tb_mem (List.mem_of_getElem? (i := 254) (by decide +kernel)) rfl
theorem h_X_isLeast_sel : Cond.selects RX y_X_isLeast y_X_isLeast ∈ tbl := tb_mem (List.mem_of_getElem? (i := 22) (by decide +kernel)) rfl
abbrev b_X_refresh : ByteArray := prog_1_method_37_code
def y_X_refresh : MethodName := ⟨RX, "refresh", "()V"⟩
def w_X_refresh : List Cond := Cond.code y_X_refresh b_X_refresh 1 none :: tbl
theorem h_X_refresh_code : Cond.code y_X_refresh b_X_refresh 1 none ∈ tbl := tb_mem (List.mem_of_getElem? (i := 148) rfl) rfl
theorem h_X_refresh_kind : Cond.instanceMethod y_X_refresh ∈ tbl := tb_mem (List.mem_of_getElem? (i := 147) (by decide +kernel)) rfl
theorem h_X_refresh_sel : Cond.selects RX y_X_refresh y_X_refresh ∈ tbl := tb_mem (List.mem_of_getElem? (i := 3) (by decide +kernel)) rfl
abbrev b_X_markClashing : ByteArray := prog_1_method_38_code
def y_X_markClashing : MethodName := ⟨RX, "markClashing", "()V"⟩
def w_X_markClashing : List Cond := Cond.code y_X_markClashing b_X_markClashing 3 none :: tbl
theorem h_X_markClashing_code : Cond.code y_X_markClashing b_X_markClashing 3 none ∈ tbl := tb_mem (List.mem_of_getElem? (i := 152) rfl) rfl
theorem h_X_markClashing_kind : Cond.instanceMethod y_X_markClashing ∈ tbl := tb_mem (List.mem_of_getElem? (i := 151) (by decide +kernel)) rfl
theorem h_X_markClashing_sel : Cond.selects RX y_X_markClashing y_X_markClashing ∈ tbl := tb_mem (List.mem_of_getElem? (i := 4) (by decide +kernel)) rfl
abbrev b_X_hasClashingPart : ByteArray := prog_1_method_39_code
def y_X_hasClashingPart : MethodName := ⟨RX, "hasClashingPart", "(I)Z"⟩
def w_X_hasClashingPart : List Cond := Cond.code y_X_hasClashingPart b_X_hasClashingPart 4 (some .boolean) :: tbl
theorem h_X_hasClashingPart_code : Cond.code y_X_hasClashingPart b_X_hasClashingPart 4 (some .boolean) ∈ tbl := tb_mem (List.mem_of_getElem? (i := 160) rfl) rfl
theorem h_X_hasClashingPart_kind : Cond.instanceMethod y_X_hasClashingPart ∈ tbl := tb_mem (List.mem_of_getElem? (i := 159) (by decide +kernel)) rfl
theorem h_X_hasClashingPart_sel : Cond.selects RX y_X_hasClashingPart y_X_hasClashingPart ∈ tbl := tb_mem (List.mem_of_getElem? (i := 6) (by decide +kernel)) rfl
abbrev b_X_isKept : ByteArray := prog_1_method_40_code
def y_X_isKept : MethodName := ⟨RX, "isKept", "(I)Z"⟩
def w_X_isKept : List Cond := Cond.code y_X_isKept b_X_isKept 2 (some .boolean) :: tbl
theorem h_X_isKept_code : Cond.code y_X_isKept b_X_isKept 2 (some .boolean) ∈ tbl := tb_mem (List.mem_of_getElem? (i := 180) rfl) rfl
theorem h_X_isKept_kind : Cond.instanceMethod y_X_isKept ∈ tbl := tb_mem (List.mem_of_getElem? (i := 179) (by decide +kernel)) rfl
theorem h_X_isKept_sel : Cond.selects RX y_X_isKept y_X_isKept ∈ tbl := tb_mem (List.mem_of_getElem? (i := 11) (by decide +kernel)) rfl
abbrev b_X_addRepair : ByteArray := prog_1_method_41_code
def y_X_addRepair : MethodName := ⟨RX, "addRepair", "(I)V"⟩
def w_X_addRepair : List Cond := Cond.code y_X_addRepair b_X_addRepair 2 none :: tbl
theorem h_X_addRepair_code : Cond.code y_X_addRepair b_X_addRepair 2 none ∈ tbl := tb_mem (List.mem_of_getElem? (i := 191) rfl) rfl
theorem h_X_addRepair_kind : Cond.instanceMethod y_X_addRepair ∈ tbl := tb_mem (List.mem_of_getElem? (i := 190) (by decide +kernel)) rfl
theorem h_X_addRepair_sel : Cond.selects RX y_X_addRepair y_X_addRepair ∈ tbl := tb_mem (List.mem_of_getElem? (i := 13) (by decide +kernel)) rfl
abbrev b_X_collectFullGrown : ByteArray := prog_1_method_42_code
def y_X_collectFullGrown : MethodName := ⟨RX, "collectFullGrown", "()V"⟩
def w_X_collectFullGrown : List Cond := Cond.code y_X_collectFullGrown b_X_collectFullGrown 3 none :: tbl
theorem h_X_collectFullGrown_code : Cond.code y_X_collectFullGrown b_X_collectFullGrown 3 none ∈ tbl := tb_mem (List.mem_of_getElem? (i := 164) rfl) rfl
theorem h_X_collectFullGrown_kind : Cond.instanceMethod y_X_collectFullGrown ∈ tbl := tb_mem (List.mem_of_getElem? (i := 163) (by decide +kernel)) rfl
theorem h_X_collectFullGrown_sel : Cond.selects RX y_X_collectFullGrown y_X_collectFullGrown ∈ tbl := tb_mem (List.mem_of_getElem? (i := 7) (by decide +kernel)) rfl
abbrev b_X_companyOf : ByteArray := prog_1_method_43_code
def y_X_companyOf : MethodName := ⟨RX, "companyOf", "(I)I"⟩
def w_X_companyOf : List Cond := Cond.code y_X_companyOf b_X_companyOf 2 (some .int) :: tbl
theorem h_X_companyOf_code : Cond.code y_X_companyOf b_X_companyOf 2 (some .int) ∈ tbl := tb_mem (List.mem_of_getElem? (i := 168) rfl) rfl
theorem h_X_companyOf_kind : Cond.instanceMethod y_X_companyOf ∈ tbl := tb_mem (List.mem_of_getElem? (i := 167) (by decide +kernel)) rfl
theorem h_X_companyOf_sel : Cond.selects RX y_X_companyOf y_X_companyOf ∈ tbl := tb_mem (List.mem_of_getElem? (i := 8) (by decide +kernel)) rfl
abbrev b_X_canGrow : ByteArray := prog_1_method_44_code
def y_X_canGrow : MethodName := ⟨RX, "canGrow", "(I)Z"⟩
def w_X_canGrow : List Cond := Cond.code y_X_canGrow b_X_canGrow 4 (some .boolean) :: tbl
theorem h_X_canGrow_code : Cond.code y_X_canGrow b_X_canGrow 4 (some .boolean) ∈ tbl := tb_mem (List.mem_of_getElem? (i := 187) rfl) rfl
theorem h_X_canGrow_kind : Cond.instanceMethod y_X_canGrow ∈ tbl := tb_mem (List.mem_of_getElem? (i := 186) (by decide +kernel)) rfl
theorem h_X_canGrow_sel : Cond.selects RX y_X_canGrow y_X_canGrow ∈ tbl := tb_mem (List.mem_of_getElem? (i := 12) (by decide +kernel)) rfl
abbrev b_X_collectWorthiest : ByteArray := prog_1_method_45_code
def y_X_collectWorthiest : MethodName := ⟨RX, "collectWorthiest", "()V"⟩
def w_X_collectWorthiest : List Cond := Cond.code y_X_collectWorthiest b_X_collectWorthiest 7 none :: tbl
theorem h_X_collectWorthiest_code : Cond.code y_X_collectWorthiest b_X_collectWorthiest 7 none ∈ tbl := tb_mem (List.mem_of_getElem? (i := 195) rfl) rfl
theorem h_X_collectWorthiest_kind : Cond.instanceMethod y_X_collectWorthiest ∈ tbl := tb_mem (List.mem_of_getElem? (i := 194) (by decide +kernel)) rfl
theorem h_X_collectWorthiest_sel : Cond.selects RX y_X_collectWorthiest y_X_collectWorthiest ∈ tbl := tb_mem (List.mem_of_getElem? (i := 14) (by decide +kernel)) rfl
abbrev b_Y_init : ByteArray := prog_3_method_1_code
def y_Y_init : MethodName := ⟨RY, "<init>", "()V"⟩
def w_Y_init : List Cond := Cond.code y_Y_init b_Y_init 1 none :: tbl
theorem h_Y_init_code : Cond.code y_Y_init b_Y_init 1 none ∈ tbl := tb_mem (List.mem_of_getElem? (i := 264) rfl) rfl
theorem h_Y_init_kind : Cond.instanceMethod y_Y_init ∈ tbl := tb_mem (List.mem_of_getElem? (i := 263) (by decide +kernel)) rfl
abbrev b_Y_isStatement : ByteArray := prog_3_method_2_code
def y_Y_isStatement : MethodName := ⟨RY, "isStatement", "(I)Z"⟩
def w_Y_isStatement : List Cond := Cond.code y_Y_isStatement b_Y_isStatement 2 (some .boolean) :: tbl
theorem h_Y_isStatement_code : Cond.code y_Y_isStatement b_Y_isStatement 2 (some .boolean) ∈ tbl := tb_mem (List.mem_of_getElem? (i := 323) rfl) rfl
theorem h_Y_isStatement_kind : Cond.instanceMethod y_Y_isStatement ∈ tbl := tb_mem (List.mem_of_getElem? (i := 322) (by decide +kernel)) rfl
theorem h_Y_isStatement_sel : Cond.selects RY y_Y_isStatement y_Y_isStatement ∈ tbl := tb_mem (List.mem_of_getElem? (i := 23) (by decide +kernel)) rfl
abbrev b_Y_areGood : ByteArray := prog_3_method_3_code
def y_Y_areGood : MethodName := ⟨RY, "areGood", "(II)Z"⟩
def w_Y_areGood : List Cond := Cond.code y_Y_areGood b_Y_areGood 2 (some .boolean) :: tbl
theorem h_Y_areGood_code : Cond.code y_Y_areGood b_Y_areGood 2 (some .boolean) ∈ tbl := tb_mem (List.mem_of_getElem? (i := 315) rfl) rfl
theorem h_Y_areGood_kind : Cond.static y_Y_areGood ∈ tbl := tb_mem (List.mem_of_getElem? (i := 314) (by decide +kernel)) rfl
abbrev b_Y_fact : ByteArray := prog_3_method_4_code
def y_Y_fact : MethodName := ⟨RY, "fact", "(ZII)I"⟩
def w_Y_fact : List Cond := Cond.code y_Y_fact b_Y_fact 4 (some .int) :: tbl
theorem h_Y_fact_code : Cond.code y_Y_fact b_Y_fact 4 (some .int) ∈ tbl := tb_mem (List.mem_of_getElem? (i := 312) rfl) rfl
theorem h_Y_fact_kind : Cond.instanceMethod y_Y_fact ∈ tbl := tb_mem (List.mem_of_getElem? (i := 310) (by decide +kernel)) rfl
theorem h_Y_fact_sel : Cond.selects RY y_Y_fact y_Y_fact ∈ tbl := tb_mem (List.mem_of_getElem? (i := 311) (by decide +kernel)) rfl
abbrev b_Y_harden : ByteArray := prog_3_method_5_code
def y_Y_harden : MethodName := ⟨RY, "harden", "(IZ)I"⟩
def w_Y_harden : List Cond := Cond.code y_Y_harden b_Y_harden 4 (some .int) :: tbl
theorem h_Y_harden_code : Cond.code y_Y_harden b_Y_harden 4 (some .int) ∈ tbl := tb_mem (List.mem_of_getElem? (i := 319) rfl) rfl
theorem h_Y_harden_kind : Cond.instanceMethod y_Y_harden ∈ tbl := tb_mem (List.mem_of_getElem? (i := 317) (by decide +kernel)) rfl
theorem h_Y_harden_sel : Cond.selects RY y_Y_harden y_Y_harden ∈ tbl := tb_mem (List.mem_of_getElem? (i := 318) (by decide +kernel)) rfl
abbrev b_Y_weight : ByteArray := prog_3_method_6_code
def y_Y_weight : MethodName := ⟨RY, "weight", "(III)I"⟩
def w_Y_weight : List Cond := Cond.code y_Y_weight b_Y_weight 4 (some .int) :: tbl
theorem h_Y_weight_code : Cond.code y_Y_weight b_Y_weight 4 (some .int) ∈ tbl := tb_mem (List.mem_of_getElem? (i := 327) rfl) rfl
theorem h_Y_weight_kind : Cond.instanceMethod y_Y_weight ∈ tbl := tb_mem (List.mem_of_getElem? (i := 325) (by decide +kernel)) rfl
theorem h_Y_weight_sel : Cond.selects RY y_Y_weight y_Y_weight ∈ tbl := tb_mem (List.mem_of_getElem? (i := 326) (by decide +kernel)) rfl
abbrev b_Y_clash : ByteArray := prog_3_method_7_code
def y_Y_clash : MethodName := ⟨RY, "clash", "(I)I"⟩
def w_Y_clash : List Cond := Cond.code y_Y_clash b_Y_clash 2 (some .int) :: tbl
theorem h_Y_clash_code : Cond.code y_Y_clash b_Y_clash 2 (some .int) ∈ tbl := tb_mem (List.mem_of_getElem? (i := 331) rfl) rfl
theorem h_Y_clash_kind : Cond.instanceMethod y_Y_clash ∈ tbl := tb_mem (List.mem_of_getElem? (i := 329) (by decide +kernel)) rfl
theorem h_Y_clash_sel : Cond.selects RY y_Y_clash y_Y_clash ∈ tbl := tb_mem (List.mem_of_getElem? (i := 330) (by decide +kernel)) rfl
abbrev b_Y_settle : ByteArray := prog_3_method_8_code
def y_Y_settle : MethodName := ⟨RY, "settle", "()I"⟩
def w_Y_settle : List Cond := Cond.code y_Y_settle b_Y_settle 1 (some .int) :: tbl
theorem h_Y_settle_code : Cond.code y_Y_settle b_Y_settle 1 (some .int) ∈ tbl := tb_mem (List.mem_of_getElem? (i := 335) rfl) rfl
theorem h_Y_settle_kind : Cond.instanceMethod y_Y_settle ∈ tbl := tb_mem (List.mem_of_getElem? (i := 333) (by decide +kernel)) rfl
theorem h_Y_settle_sel : Cond.selects RY y_Y_settle y_Y_settle ∈ tbl := tb_mem (List.mem_of_getElem? (i := 334) (by decide +kernel)) rfl
abbrev b_Y_support : ByteArray := prog_3_method_9_code
def y_Y_support : MethodName := ⟨RY, "support", "(II)I"⟩
def w_Y_support : List Cond := Cond.code y_Y_support b_Y_support 5 (some .int) :: tbl
theorem h_Y_support_code : Cond.code y_Y_support b_Y_support 5 (some .int) ∈ tbl := tb_mem (List.mem_of_getElem? (i := 339) rfl) rfl
theorem h_Y_support_kind : Cond.instanceMethod y_Y_support ∈ tbl := tb_mem (List.mem_of_getElem? (i := 337) (by decide +kernel)) rfl
theorem h_Y_support_sel : Cond.selects RY y_Y_support y_Y_support ∈ tbl := tb_mem (List.mem_of_getElem? (i := 338) (by decide +kernel)) rfl
abbrev b_Y_order : ByteArray := prog_3_method_10_code
def y_Y_order : MethodName := ⟨RY, "order", "(I)I"⟩
def w_Y_order : List Cond := Cond.code y_Y_order b_Y_order 2 (some .int) :: tbl
theorem h_Y_order_code : Cond.code y_Y_order b_Y_order 2 (some .int) ∈ tbl := tb_mem (List.mem_of_getElem? (i := 343) rfl) rfl
theorem h_Y_order_kind : Cond.instanceMethod y_Y_order ∈ tbl := tb_mem (List.mem_of_getElem? (i := 341) (by decide +kernel)) rfl
theorem h_Y_order_sel : Cond.selects RY y_Y_order y_Y_order ∈ tbl := tb_mem (List.mem_of_getElem? (i := 342) (by decide +kernel)) rfl
abbrev b_Y_has : ByteArray := prog_3_method_11_code
def y_Y_has : MethodName := ⟨RY, "has", "(II)Z"⟩
def w_Y_has : List Cond := Cond.code y_Y_has b_Y_has 2 (some .boolean) :: tbl
theorem h_Y_has_code : Cond.code y_Y_has b_Y_has 2 (some .boolean) ∈ tbl := tb_mem (List.mem_of_getElem? (i := 354) rfl) rfl
theorem h_Y_has_kind : Cond.static y_Y_has ∈ tbl := tb_mem (List.mem_of_getElem? (i := 353) (by decide +kernel)) rfl
abbrev b_Y_compare : ByteArray := prog_3_method_12_code
def y_Y_compare : MethodName := ⟨RY, "compare", "(IIIZ)I"⟩
def w_Y_compare : List Cond := Cond.code y_Y_compare b_Y_compare 8 (some .int) :: tbl
theorem h_Y_compare_code : Cond.code y_Y_compare b_Y_compare 8 (some .int) ∈ tbl := tb_mem (List.mem_of_getElem? (i := 358) rfl) rfl
theorem h_Y_compare_kind : Cond.instanceMethod y_Y_compare ∈ tbl := tb_mem (List.mem_of_getElem? (i := 357) (by decide +kernel)) rfl
theorem h_Y_compare_sel : Cond.selects RY y_Y_compare y_Y_compare ∈ tbl := tb_mem (List.mem_of_getElem? (i := 25) (by decide +kernel)) rfl
abbrev b_Y_isBetter : ByteArray := prog_3_method_13_code
def y_Y_isBetter : MethodName := ⟨RY, "isBetter", "(III)Z"⟩
def w_Y_isBetter : List Cond := Cond.code y_Y_isBetter b_Y_isBetter 6 (some .boolean) :: tbl
theorem h_Y_isBetter_code : Cond.code y_Y_isBetter b_Y_isBetter 6 (some .boolean) ∈ tbl := tb_mem (List.mem_of_getElem? (i := 351) rfl) rfl
theorem h_Y_isBetter_kind : Cond.instanceMethod y_Y_isBetter ∈ tbl := tb_mem (List.mem_of_getElem? (i := 350) (by decide +kernel)) rfl
theorem h_Y_isBetter_sel : Cond.selects RY y_Y_isBetter y_Y_isBetter ∈ tbl := tb_mem (List.mem_of_getElem? (i := 24) (by decide +kernel)) rfl
abbrev b_Y_better : ByteArray := prog_3_method_14_code
def y_Y_better : MethodName := ⟨RY, "better", "(III)I"⟩
def w_Y_better : List Cond := Cond.code y_Y_better b_Y_better 5 (some .int) :: tbl
theorem h_Y_better_code : Cond.code y_Y_better b_Y_better 5 (some .int) ∈ tbl := tb_mem (List.mem_of_getElem? (i := 347) rfl) rfl
theorem h_Y_better_kind : Cond.instanceMethod y_Y_better ∈ tbl := tb_mem (List.mem_of_getElem? (i := 345) (by decide +kernel)) rfl
theorem h_Y_better_sel : Cond.selects RY y_Y_better y_Y_better ∈ tbl := tb_mem (List.mem_of_getElem? (i := 346) (by decide +kernel)) rfl
abbrev b_Y_isKept : ByteArray := prog_3_method_15_code
def y_Y_isKept : MethodName := ⟨RY, "isKept", "(I)Z"⟩
def w_Y_isKept : List Cond := Cond.code y_Y_isKept b_Y_isKept 4 (some .boolean) :: tbl
theorem h_Y_isKept_code : Cond.code y_Y_isKept b_Y_isKept 4 (some .boolean) ∈ tbl := tb_mem (List.mem_of_getElem? (i := 370) rfl) rfl
theorem h_Y_isKept_kind : Cond.instanceMethod y_Y_isKept ∈ tbl := tb_mem (List.mem_of_getElem? (i := 369) (by decide +kernel)) rfl
theorem h_Y_isKept_sel : Cond.selects RY y_Y_isKept y_Y_isKept ∈ tbl := tb_mem (List.mem_of_getElem? (i := 27) (by decide +kernel)) rfl
abbrev b_Y_work : ByteArray := prog_3_method_16_code
def y_Y_work : MethodName := ⟨RY, "work", "()V"⟩
def w_Y_work : List Cond := Cond.code y_Y_work b_Y_work 4 none :: tbl
theorem h_Y_work_code : Cond.code y_Y_work b_Y_work 4 none ∈ tbl := tb_mem (List.mem_of_getElem? (i := 366) rfl) rfl
theorem h_Y_work_kind : Cond.instanceMethod y_Y_work ∈ tbl := tb_mem (List.mem_of_getElem? (i := 365) (by decide +kernel)) rfl
theorem h_Y_work_sel : Cond.selects RY y_Y_work y_Y_work ∈ tbl := tb_mem (List.mem_of_getElem? (i := 26) (by decide +kernel)) rfl
abbrev b_Y_find : ByteArray := prog_3_method_17_code
def y_Y_find : MethodName := ⟨RY, "find", "()I"⟩
def w_Y_find : List Cond := Cond.code y_Y_find b_Y_find 1 (some .int) :: tbl
theorem h_Y_find_code : Cond.code y_Y_find b_Y_find 1 (some .int) ∈ tbl := tb_mem (List.mem_of_getElem? (i := 362) rfl) rfl
theorem h_Y_find_kind : Cond.instanceMethod y_Y_find ∈ tbl := tb_mem (List.mem_of_getElem? (i := 360) (by decide +kernel)) rfl
theorem h_Y_find_sel : Cond.selects RY y_Y_find y_Y_find ∈ tbl := tb_mem (List.mem_of_getElem? (i := 361) (by decide +kernel)) rfl
abbrev b_Y_kept : ByteArray := prog_3_method_18_code
def y_Y_kept : MethodName := ⟨RY, "kept", "(I)I"⟩
def w_Y_kept : List Cond := Cond.code y_Y_kept b_Y_kept 2 (some .int) :: tbl
theorem h_Y_kept_code : Cond.code y_Y_kept b_Y_kept 2 (some .int) ∈ tbl := tb_mem (List.mem_of_getElem? (i := 374) rfl) rfl
theorem h_Y_kept_kind : Cond.instanceMethod y_Y_kept ∈ tbl := tb_mem (List.mem_of_getElem? (i := 372) (by decide +kernel)) rfl
theorem h_Y_kept_sel : Cond.selects RY y_Y_kept y_Y_kept ∈ tbl := tb_mem (List.mem_of_getElem? (i := 373) (by decide +kernel)) rfl
abbrev b_Y_left : ByteArray := prog_3_method_19_code
def y_Y_left : MethodName := ⟨RY, "left", "(II)I"⟩
def w_Y_left : List Cond := Cond.code y_Y_left b_Y_left 5 (some .int) :: tbl
theorem h_Y_left_code : Cond.code y_Y_left b_Y_left 5 (some .int) ∈ tbl := tb_mem (List.mem_of_getElem? (i := 378) rfl) rfl
theorem h_Y_left_kind : Cond.instanceMethod y_Y_left ∈ tbl := tb_mem (List.mem_of_getElem? (i := 376) (by decide +kernel)) rfl
theorem h_Y_left_sel : Cond.selects RY y_Y_left y_Y_left ∈ tbl := tb_mem (List.mem_of_getElem? (i := 377) (by decide +kernel)) rfl
abbrev b_Y_told : ByteArray := prog_3_method_20_code
def y_Y_told : MethodName := ⟨RY, "told", "(I)I"⟩
def w_Y_told : List Cond := Cond.code y_Y_told b_Y_told 2 (some .int) :: tbl
theorem h_Y_told_code : Cond.code y_Y_told b_Y_told 2 (some .int) ∈ tbl := tb_mem (List.mem_of_getElem? (i := 386) rfl) rfl
theorem h_Y_told_kind : Cond.instanceMethod y_Y_told ∈ tbl := tb_mem (List.mem_of_getElem? (i := 385) (by decide +kernel)) rfl
theorem h_Y_told_sel : Cond.selects RY y_Y_told y_Y_told ∈ tbl := tb_mem (List.mem_of_getElem? (i := 28) (by decide +kernel)) rfl
abbrev b_Y_truth : ByteArray := prog_3_method_21_code
def y_Y_truth : MethodName := ⟨RY, "truth", "(I)I"⟩
def w_Y_truth : List Cond := Cond.code y_Y_truth b_Y_truth 6 (some .int) :: tbl
theorem h_Y_truth_code : Cond.code y_Y_truth b_Y_truth 6 (some .int) ∈ tbl := tb_mem (List.mem_of_getElem? (i := 382) rfl) rfl
theorem h_Y_truth_kind : Cond.instanceMethod y_Y_truth ∈ tbl := tb_mem (List.mem_of_getElem? (i := 380) (by decide +kernel)) rfl
theorem h_Y_truth_sel : Cond.selects RY y_Y_truth y_Y_truth ∈ tbl := tb_mem (List.mem_of_getElem? (i := 381) (by decide +kernel)) rfl
abbrev b_Y_surely : ByteArray := prog_3_method_22_code
def y_Y_surely : MethodName := ⟨RY, "surely", "(I)I"⟩
def w_Y_surely : List Cond := Cond.code y_Y_surely b_Y_surely 4 (some .int) :: tbl
theorem h_Y_surely_code : Cond.code y_Y_surely b_Y_surely 4 (some .int) ∈ tbl := tb_mem (List.mem_of_getElem? (i := 390) rfl) rfl
theorem h_Y_surely_kind : Cond.instanceMethod y_Y_surely ∈ tbl := tb_mem (List.mem_of_getElem? (i := 388) (by decide +kernel)) rfl
theorem h_Y_surely_sel : Cond.selects RY y_Y_surely y_Y_surely ∈ tbl := tb_mem (List.mem_of_getElem? (i := 389) (by decide +kernel)) rfl
abbrev b_Y_isLeast : ByteArray := prog_3_method_23_code
def y_Y_isLeast : MethodName := ⟨RY, "isLeast", "(I)Z"⟩
def w_Y_isLeast : List Cond := Cond.code y_Y_isLeast b_Y_isLeast 5 (some .boolean) :: tbl
theorem h_Y_isLeast_code : Cond.code y_Y_isLeast b_Y_isLeast 5 (some .boolean) ∈ tbl := tb_mem (List.mem_of_getElem? (i := 398) rfl) rfl
theorem h_Y_isLeast_kind : Cond.instanceMethod y_Y_isLeast ∈ tbl := tb_mem (List.mem_of_getElem? (i := 397) (by decide +kernel)) rfl
theorem h_Y_isLeast_sel : Cond.selects RY y_Y_isLeast y_Y_isLeast ∈ tbl := tb_mem (List.mem_of_getElem? (i := 29) (by decide +kernel)) rfl
abbrev b_Y_least : ByteArray := prog_3_method_24_code
def y_Y_least : MethodName := ⟨RY, "least", "(I)I"⟩
def w_Y_least : List Cond := Cond.code y_Y_least b_Y_least 4 (some .int) :: tbl
theorem h_Y_least_code : Cond.code y_Y_least b_Y_least 4 (some .int) ∈ tbl := tb_mem (List.mem_of_getElem? (i := 394) rfl) rfl
theorem h_Y_least_kind : Cond.instanceMethod y_Y_least ∈ tbl := tb_mem (List.mem_of_getElem? (i := 392) (by decide +kernel)) rfl
theorem h_Y_least_sel : Cond.selects RY y_Y_least y_Y_least ∈ tbl := tb_mem (List.mem_of_getElem? (i := 393) (by decide +kernel)) rfl
abbrev b_Y_size : ByteArray := prog_3_method_25_code
def y_Y_size : MethodName := ⟨RY, "size", "()I"⟩
def w_Y_size : List Cond := Cond.code y_Y_size b_Y_size 1 (some .int) :: tbl
theorem h_Y_size_code : Cond.code y_Y_size b_Y_size 1 (some .int) ∈ tbl := tb_mem (List.mem_of_getElem? (i := 402) rfl) rfl
theorem h_Y_size_kind : Cond.instanceMethod y_Y_size ∈ tbl := tb_mem (List.mem_of_getElem? (i := 400) (by decide +kernel)) rfl
theorem h_Y_size_sel : Cond.selects RY y_Y_size y_Y_size ∈ tbl := tb_mem (List.mem_of_getElem? (i := 401) (by decide +kernel)) rfl
theorem h_X_ini : Cond.initialized RX ∈ tbl := tb_mem (List.mem_of_getElem? (i := 31) (by decide +kernel)) rfl
theorem h_Y_ini : Cond.initialized RY ∈ tbl := tb_mem (List.mem_of_getElem? (i := 32) (by decide +kernel)) rfl
theorem tb_of {w : Cond} (h : w ∈ tbl) : w ∈ tbl ∧ ((w.onTables && w.keeps) = true ∨ ∃ ty, w = .arrayClass ty) := ⟨h, good_of_word (List.mem_filter.mp h).2⟩
theorem tb_all {y : MethodName} {bytes : ByteArray} {n : Nat} {r : Option FieldType} (hc : Cond.code y bytes n r ∈ tbl) : GoodIn tbl (Cond.code y bytes n r :: tbl) := by
  intro w hw
  rcases List.mem_cons.mp hw with h | h
  · rw [h]; exact tb_of hc
  · exact tb_of h
theorem tb_V {own C : String} {idx : Nat} {y : MethodName} {ws : List Cond} (h1 : Cond.methodLink own idx y ∈ tbl) (h2 : Cond.instanceMethod y ∈ tbl) (h3 : Cond.selects C y y ∈ tbl) (h4 : Cond.initialized C ∈ tbl) (h5 : GoodIn tbl ws) : GoodIn tbl (wsV own idx C y ws) := by
  intro w hw
  rcases List.mem_append.mp hw with h | h
  · simp only [List.mem_cons, List.not_mem_nil, or_false] at h
    rcases h with h | h | h | h <;> rw [h]
    · exact tb_of h1
    · exact tb_of h2
    · exact tb_of h3
    · exact tb_of h4
  · exact h5 w h
theorem tb_S {own : String} {idx : Nat} {y : MethodName} {ws : List Cond} (h1 : Cond.methodLink own idx y ∈ tbl) (h2 : Cond.static y ∈ tbl) (h4 : Cond.initialized own ∈ tbl) (h5 : GoodIn tbl ws) : GoodIn tbl (wsS own idx y ws) := by
  intro w hw
  rcases List.mem_append.mp hw with h | h
  · simp only [List.mem_cons, List.not_mem_nil, or_false] at h
    rcases h with h | h | h <;> rw [h]
    · exact tb_of h1
    · exact tb_of h2
    · exact tb_of h4
  · exact h5 w h
theorem l_X_3 : Cond.methodLink RX 3 objectInit ∈ tbl := tb_mem (List.mem_of_getElem? (i := 38) (by decide +kernel)) rfl
theorem f_X_9 : Cond.fieldLink RX 9 "DefaultRepair" "statementCount" "I" ∈ tbl := tb_mem (List.mem_of_getElem? (i := 41) (by decide +kernel)) rfl
theorem f_X_13 : Cond.fieldLink RX 13 "DefaultRepair" "hardBits" "I" ∈ tbl := tb_mem (List.mem_of_getElem? (i := 42) (by decide +kernel)) rfl
theorem f_X_16 : Cond.fieldLink RX 16 "DefaultRepair" "ranks" "[I" ∈ tbl := tb_mem (List.mem_of_getElem? (i := 43) (by decide +kernel)) rfl
theorem f_X_20 : Cond.fieldLink RX 20 "DefaultRepair" "weights" "[I" ∈ tbl := tb_mem (List.mem_of_getElem? (i := 44) (by decide +kernel)) rfl
theorem f_X_23 : Cond.fieldLink RX 23 "DefaultRepair" "clashes" "[I" ∈ tbl := tb_mem (List.mem_of_getElem? (i := 45) (by decide +kernel)) rfl
theorem f_X_26 : Cond.fieldLink RX 26 "DefaultRepair" "clashCount" "I" ∈ tbl := tb_mem (List.mem_of_getElem? (i := 46) (by decide +kernel)) rfl
theorem f_X_29 : Cond.fieldLink RX 29 "DefaultRepair" "supports" "[I" ∈ tbl := tb_mem (List.mem_of_getElem? (i := 47) (by decide +kernel)) rfl
theorem f_X_32 : Cond.fieldLink RX 32 "DefaultRepair" "supportAnswers" "[I" ∈ tbl := tb_mem (List.mem_of_getElem? (i := 48) (by decide +kernel)) rfl
theorem f_X_35 : Cond.fieldLink RX 35 "DefaultRepair" "supportCount" "I" ∈ tbl := tb_mem (List.mem_of_getElem? (i := 49) (by decide +kernel)) rfl
theorem f_X_38 : Cond.fieldLink RX 38 "DefaultRepair" "orderNow" "I" ∈ tbl := tb_mem (List.mem_of_getElem? (i := 50) (by decide +kernel)) rfl
theorem f_X_41 : Cond.fieldLink RX 41 "DefaultRepair" "fresh" "Z" ∈ tbl := tb_mem (List.mem_of_getElem? (i := 51) (by decide +kernel)) rfl
theorem f_X_45 : Cond.fieldLink RX 45 "DefaultRepair" "clashing" "[Z" ∈ tbl := tb_mem (List.mem_of_getElem? (i := 52) (by decide +kernel)) rfl
theorem f_X_49 : Cond.fieldLink RX 49 "DefaultRepair" "company" "[I" ∈ tbl := tb_mem (List.mem_of_getElem? (i := 53) (by decide +kernel)) rfl
theorem f_X_52 : Cond.fieldLink RX 52 "DefaultRepair" "repairs" "[I" ∈ tbl := tb_mem (List.mem_of_getElem? (i := 54) (by decide +kernel)) rfl
theorem f_X_55 : Cond.fieldLink RX 55 "DefaultRepair" "repairCount" "I" ∈ tbl := tb_mem (List.mem_of_getElem? (i := 55) (by decide +kernel)) rfl
theorem l_X_58 : Cond.methodLink RX 58 y_X_isRank ∈ tbl := tb_mem (List.mem_of_getElem? (i := 93) (by decide +kernel)) rfl
theorem g_X_58 : GoodIn tbl (wsS RX 58 y_X_isRank w_X_isRank) := tb_S l_X_58 h_X_isRank_kind h_X_ini (tb_all h_X_isRank_code)
theorem l_X_62 : Cond.methodLink RX 62 y_X_isWeight ∈ tbl := tb_mem (List.mem_of_getElem? (i := 96) (by decide +kernel)) rfl
theorem g_X_62 : GoodIn tbl (wsS RX 62 y_X_isWeight w_X_isWeight) := tb_S l_X_62 h_X_isWeight_kind h_X_ini (tb_all h_X_isWeight_code)
theorem l_X_65 : Cond.methodLink RX 65 y_X_isStatement ∈ tbl := tb_mem (List.mem_of_getElem? (i := 103) (by decide +kernel)) rfl
theorem g_X_65 : GoodIn tbl (wsV RX 65 RX y_X_isStatement w_X_isStatement) := tb_V l_X_65 h_X_isStatement_kind h_X_isStatement_sel h_X_ini (tb_all h_X_isStatement_code)
theorem l_X_68 : Cond.methodLink RX 68 y_X_isHard ∈ tbl := tb_mem (List.mem_of_getElem? (i := 107) (by decide +kernel)) rfl
theorem g_X_68 : GoodIn tbl (wsV RX 68 RX y_X_isHard w_X_isHard) := tb_V l_X_68 h_X_isHard_kind h_X_isHard_sel h_X_ini (tb_all h_X_isHard_code)
theorem l_X_71 : Cond.methodLink RX 71 y_X_isAnswer ∈ tbl := tb_mem (List.mem_of_getElem? (i := 127) (by decide +kernel)) rfl
theorem g_X_71 : GoodIn tbl (wsS RX 71 y_X_isAnswer w_X_isAnswer) := tb_S l_X_71 h_X_isAnswer_kind h_X_ini (tb_all h_X_isAnswer_code)
theorem l_X_74 : Cond.methodLink RX 74 y_X_supportsOf ∈ tbl := tb_mem (List.mem_of_getElem? (i := 130) (by decide +kernel)) rfl
theorem g_X_74 : GoodIn tbl (wsV RX 74 RX y_X_supportsOf w_X_supportsOf) := tb_V l_X_74 h_X_supportsOf_kind h_X_supportsOf_sel h_X_ini (tb_all h_X_supportsOf_code)
theorem l_X_78 : Cond.methodLink RX 78 y_X_isOrder ∈ tbl := tb_mem (List.mem_of_getElem? (i := 138) (by decide +kernel)) rfl
theorem g_X_78 : GoodIn tbl (wsS RX 78 y_X_isOrder w_X_isOrder) := tb_S l_X_78 h_X_isOrder_kind h_X_ini (tb_all h_X_isOrder_code)
theorem l_X_81 : Cond.methodLink RX 81 y_X_refresh ∈ tbl := tb_mem (List.mem_of_getElem? (i := 145) (by decide +kernel)) rfl
theorem g_X_81 : GoodIn tbl (wsV RX 81 RX y_X_refresh w_X_refresh) := tb_V l_X_81 h_X_refresh_kind h_X_refresh_sel h_X_ini (tb_all h_X_refresh_code)
theorem l_X_84 : Cond.methodLink RX 84 y_X_isRepair ∈ tbl := tb_mem (List.mem_of_getElem? (i := 205) (by decide +kernel)) rfl
theorem g_X_84 : GoodIn tbl (wsV RX 84 RX y_X_isRepair w_X_isRepair) := tb_V l_X_84 h_X_isRepair_kind h_X_isRepair_sel h_X_ini (tb_all h_X_isRepair_code)
theorem l_X_87 : Cond.methodLink RX 87 y_X_holds ∈ tbl := tb_mem (List.mem_of_getElem? (i := 217) (by decide +kernel)) rfl
theorem g_X_87 : GoodIn tbl (wsV RX 87 RX y_X_holds w_X_holds) := tb_V l_X_87 h_X_holds_kind h_X_holds_sel h_X_ini (tb_all h_X_holds_code)
theorem l_X_91 : Cond.methodLink RX 91 y_X_verdict ∈ tbl := tb_mem (List.mem_of_getElem? (i := 221) (by decide +kernel)) rfl
theorem g_X_91 : GoodIn tbl (wsV RX 91 RX y_X_verdict w_X_verdict) := tb_V l_X_91 h_X_verdict_kind h_X_verdict_sel h_X_ini (tb_all h_X_verdict_code)
theorem l_X_94 : Cond.methodLink RX 94 y_X_statementBits ∈ tbl := tb_mem (List.mem_of_getElem? (i := 169) (by decide +kernel)) rfl
theorem g_X_94 : GoodIn tbl (wsV RX 94 RX y_X_statementBits w_X_statementBits) := tb_V l_X_94 h_X_statementBits_kind h_X_statementBits_sel h_X_ini (tb_all h_X_statementBits_code)
theorem l_X_98 : Cond.methodLink RX 98 y_X_isBetter ∈ tbl := tb_mem (List.mem_of_getElem? (i := 233) (by decide +kernel)) rfl
theorem g_X_98 : GoodIn tbl (wsV RX 98 RX y_X_isBetter w_X_isBetter) := tb_V l_X_98 h_X_isBetter_kind h_X_isBetter_sel h_X_ini (tb_all h_X_isBetter_code)
theorem l_X_102 : Cond.methodLink RX 102 y_X_leastAfter ∈ tbl := tb_mem (List.mem_of_getElem? (i := 248) (by decide +kernel)) rfl
theorem g_X_102 : GoodIn tbl (wsV RX 102 RX y_X_leastAfter w_X_leastAfter) := tb_V l_X_102 h_X_leastAfter_kind h_X_leastAfter_sel h_X_ini (tb_all h_X_leastAfter_code)
theorem l_X_105 : Cond.methodLink RX 105 y_X_setCount ∈ tbl := tb_mem (List.mem_of_getElem? (i := 153) (by decide +kernel)) rfl
theorem g_X_105 : GoodIn tbl (wsV RX 105 RX y_X_setCount w_X_setCount) := tb_V l_X_105 h_X_setCount_kind h_X_setCount_sel h_X_ini (tb_all h_X_setCount_code)
theorem l_X_108 : Cond.methodLink RX 108 y_X_hasMore ∈ tbl := tb_mem (List.mem_of_getElem? (i := 237) (by decide +kernel)) rfl
theorem g_X_108 : GoodIn tbl (wsS RX 108 y_X_hasMore w_X_hasMore) := tb_S l_X_108 h_X_hasMore_kind h_X_ini (tb_all h_X_hasMore_code)
theorem l_X_111 : Cond.methodLink RX 111 y_X_hasMoreByRank ∈ tbl := tb_mem (List.mem_of_getElem? (i := 240) (by decide +kernel)) rfl
theorem g_X_111 : GoodIn tbl (wsV RX 111 RX y_X_hasMoreByRank w_X_hasMoreByRank) := tb_V l_X_111 h_X_hasMoreByRank_kind h_X_hasMoreByRank_sel h_X_ini (tb_all h_X_hasMoreByRank_code)
theorem l_X_114 : Cond.methodLink RX 114 y_X_worth ∈ tbl := tb_mem (List.mem_of_getElem? (i := 197) (by decide +kernel)) rfl
theorem g_X_114 : GoodIn tbl (wsV RX 114 RX y_X_worth w_X_worth) := tb_V l_X_114 h_X_worth_kind h_X_worth_sel h_X_ini (tb_all h_X_worth_code)
theorem l_X_118 : Cond.methodLink RX 118 y_X_isPart ∈ tbl := tb_mem (List.mem_of_getElem? (i := 181) (by decide +kernel)) rfl
theorem g_X_118 : GoodIn tbl (wsS RX 118 y_X_isPart w_X_isPart) := tb_S l_X_118 h_X_isPart_kind h_X_ini (tb_all h_X_isPart_code)
theorem l_X_121 : Cond.methodLink RX 121 y_X_defaultsOfRanks ∈ tbl := tb_mem (List.mem_of_getElem? (i := 173) (by decide +kernel)) rfl
theorem g_X_121 : GoodIn tbl (wsV RX 121 RX y_X_defaultsOfRanks w_X_defaultsOfRanks) := tb_V l_X_121 h_X_defaultsOfRanks_kind h_X_defaultsOfRanks_sel h_X_ini (tb_all h_X_defaultsOfRanks_code)
theorem l_X_125 : Cond.methodLink RX 125 y_X_isLeast ∈ tbl := tb_mem (List.mem_of_getElem? (i := 252) (by decide +kernel)) rfl
theorem g_X_125 : GoodIn tbl (wsV RX 125 RX y_X_isLeast w_X_isLeast) := tb_V l_X_125 h_X_isLeast_kind h_X_isLeast_sel h_X_ini (tb_all h_X_isLeast_code)
theorem l_X_128 : Cond.methodLink RX 128 y_X_markClashing ∈ tbl := tb_mem (List.mem_of_getElem? (i := 149) (by decide +kernel)) rfl
theorem g_X_128 : GoodIn tbl (wsV RX 128 RX y_X_markClashing w_X_markClashing) := tb_V l_X_128 h_X_markClashing_kind h_X_markClashing_sel h_X_ini (tb_all h_X_markClashing_code)
theorem l_X_131 : Cond.methodLink RX 131 y_X_collectFullGrown ∈ tbl := tb_mem (List.mem_of_getElem? (i := 161) (by decide +kernel)) rfl
theorem g_X_131 : GoodIn tbl (wsV RX 131 RX y_X_collectFullGrown w_X_collectFullGrown) := tb_V l_X_131 h_X_collectFullGrown_kind h_X_collectFullGrown_sel h_X_ini (tb_all h_X_collectFullGrown_code)
theorem l_X_134 : Cond.methodLink RX 134 y_X_collectWorthiest ∈ tbl := tb_mem (List.mem_of_getElem? (i := 192) (by decide +kernel)) rfl
theorem g_X_134 : GoodIn tbl (wsV RX 134 RX y_X_collectWorthiest w_X_collectWorthiest) := tb_V l_X_134 h_X_collectWorthiest_kind h_X_collectWorthiest_sel h_X_ini (tb_all h_X_collectWorthiest_code)
theorem l_X_137 : Cond.methodLink RX 137 y_X_hasClashingPart ∈ tbl := tb_mem (List.mem_of_getElem? (i := 157) (by decide +kernel)) rfl
theorem g_X_137 : GoodIn tbl (wsV RX 137 RX y_X_hasClashingPart w_X_hasClashingPart) := tb_V l_X_137 h_X_hasClashingPart_kind h_X_hasClashingPart_sel h_X_ini (tb_all h_X_hasClashingPart_code)
theorem l_X_140 : Cond.methodLink RX 140 y_X_companyOf ∈ tbl := tb_mem (List.mem_of_getElem? (i := 165) (by decide +kernel)) rfl
theorem g_X_140 : GoodIn tbl (wsV RX 140 RX y_X_companyOf w_X_companyOf) := tb_V l_X_140 h_X_companyOf_kind h_X_companyOf_sel h_X_ini (tb_all h_X_companyOf_code)
theorem l_X_143 : Cond.methodLink RX 143 y_X_isKept ∈ tbl := tb_mem (List.mem_of_getElem? (i := 177) (by decide +kernel)) rfl
theorem g_X_143 : GoodIn tbl (wsV RX 143 RX y_X_isKept w_X_isKept) := tb_V l_X_143 h_X_isKept_kind h_X_isKept_sel h_X_ini (tb_all h_X_isKept_code)
theorem l_X_146 : Cond.methodLink RX 146 y_X_canGrow ∈ tbl := tb_mem (List.mem_of_getElem? (i := 184) (by decide +kernel)) rfl
theorem g_X_146 : GoodIn tbl (wsV RX 146 RX y_X_canGrow w_X_canGrow) := tb_V l_X_146 h_X_canGrow_kind h_X_canGrow_sel h_X_ini (tb_all h_X_canGrow_code)
theorem l_X_149 : Cond.methodLink RX 149 y_X_addRepair ∈ tbl := tb_mem (List.mem_of_getElem? (i := 188) (by decide +kernel)) rfl
theorem g_X_149 : GoodIn tbl (wsV RX 149 RX y_X_addRepair w_X_addRepair) := tb_V l_X_149 h_X_addRepair_kind h_X_addRepair_sel h_X_ini (tb_all h_X_addRepair_code)
theorem l_Y_1 : Cond.methodLink RY 1 objectInit ∈ tbl := tb_mem (List.mem_of_getElem? (i := 265) (by decide +kernel)) rfl
theorem f_Y_7 : Cond.fieldLink RY 7 "DefaultRepairModel" "hards" "[Z" ∈ tbl := tb_mem (List.mem_of_getElem? (i := 267) (by decide +kernel)) rfl
theorem f_Y_13 : Cond.fieldLink RY 13 "DefaultRepairModel" "ranks" "[I" ∈ tbl := tb_mem (List.mem_of_getElem? (i := 268) (by decide +kernel)) rfl
theorem f_Y_17 : Cond.fieldLink RY 17 "DefaultRepairModel" "weights" "[I" ∈ tbl := tb_mem (List.mem_of_getElem? (i := 269) (by decide +kernel)) rfl
theorem f_Y_20 : Cond.fieldLink RY 20 "DefaultRepairModel" "clashes" "[I" ∈ tbl := tb_mem (List.mem_of_getElem? (i := 270) (by decide +kernel)) rfl
theorem f_Y_23 : Cond.fieldLink RY 23 "DefaultRepairModel" "owners" "[I" ∈ tbl := tb_mem (List.mem_of_getElem? (i := 272) (by decide +kernel)) rfl
theorem f_Y_26 : Cond.fieldLink RY 26 "DefaultRepairModel" "supports" "[I" ∈ tbl := tb_mem (List.mem_of_getElem? (i := 273) (by decide +kernel)) rfl
theorem f_Y_29 : Cond.fieldLink RY 29 "DefaultRepairModel" "keeps" "[Z" ∈ tbl := tb_mem (List.mem_of_getElem? (i := 277) (by decide +kernel)) rfl
theorem f_Y_32 : Cond.fieldLink RY 32 "DefaultRepairModel" "repairs" "[I" ∈ tbl := tb_mem (List.mem_of_getElem? (i := 278) (by decide +kernel)) rfl
theorem f_Y_35 : Cond.fieldLink RY 35 "DefaultRepairModel" "count" "I" ∈ tbl := tb_mem (List.mem_of_getElem? (i := 266) (by decide +kernel)) rfl
theorem l_Y_39 : Cond.methodLink RY 39 y_Y_areGood ∈ tbl := tb_mem (List.mem_of_getElem? (i := 313) (by decide +kernel)) rfl
theorem g_Y_39 : GoodIn tbl (wsS RY 39 y_Y_areGood w_Y_areGood) := tb_S l_Y_39 h_Y_areGood_kind h_Y_ini (tb_all h_Y_areGood_code)
theorem f_Y_43 : Cond.fieldLink RY 43 "DefaultRepairModel" "known" "Z" ∈ tbl := tb_mem (List.mem_of_getElem? (i := 276) (by decide +kernel)) rfl
theorem l_Y_47 : Cond.methodLink RY 47 y_Y_isStatement ∈ tbl := tb_mem (List.mem_of_getElem? (i := 320) (by decide +kernel)) rfl
theorem g_Y_47 : GoodIn tbl (wsV RY 47 RY y_Y_isStatement w_Y_isStatement) := tb_V l_Y_47 h_Y_isStatement_kind h_Y_isStatement_sel h_Y_ini (tb_all h_Y_isStatement_code)
theorem f_Y_51 : Cond.fieldLink RY 51 "DefaultRepairModel" "clashCount" "I" ∈ tbl := tb_mem (List.mem_of_getElem? (i := 271) (by decide +kernel)) rfl
theorem f_Y_54 : Cond.fieldLink RY 54 "DefaultRepairModel" "supportCount" "I" ∈ tbl := tb_mem (List.mem_of_getElem? (i := 274) (by decide +kernel)) rfl
theorem f_Y_57 : Cond.fieldLink RY 57 "DefaultRepairModel" "order" "I" ∈ tbl := tb_mem (List.mem_of_getElem? (i := 275) (by decide +kernel)) rfl
theorem l_Y_60 : Cond.methodLink RY 60 y_Y_has ∈ tbl := tb_mem (List.mem_of_getElem? (i := 352) (by decide +kernel)) rfl
theorem g_Y_60 : GoodIn tbl (wsS RY 60 y_Y_has w_Y_has) := tb_S l_Y_60 h_Y_has_kind h_Y_ini (tb_all h_Y_has_code)
theorem l_Y_63 : Cond.methodLink RY 63 y_Y_compare ∈ tbl := tb_mem (List.mem_of_getElem? (i := 355) (by decide +kernel)) rfl
theorem g_Y_63 : GoodIn tbl (wsV RY 63 RY y_Y_compare w_Y_compare) := tb_V l_Y_63 h_Y_compare_kind h_Y_compare_sel h_Y_ini (tb_all h_Y_compare_code)
theorem l_Y_67 : Cond.methodLink RY 67 y_Y_isBetter ∈ tbl := tb_mem (List.mem_of_getElem? (i := 348) (by decide +kernel)) rfl
theorem g_Y_67 : GoodIn tbl (wsV RY 67 RY y_Y_isBetter w_Y_isBetter) := tb_V l_Y_67 h_Y_isBetter_kind h_Y_isBetter_sel h_Y_ini (tb_all h_Y_isBetter_code)
theorem l_Y_71 : Cond.methodLink RY 71 y_Y_isKept ∈ tbl := tb_mem (List.mem_of_getElem? (i := 367) (by decide +kernel)) rfl
theorem g_Y_71 : GoodIn tbl (wsV RY 71 RY y_Y_isKept w_Y_isKept) := tb_V l_Y_71 h_Y_isKept_kind h_Y_isKept_sel h_Y_ini (tb_all h_Y_isKept_code)
theorem f_Y_74 : Cond.fieldLink RY 74 "DefaultRepairModel" "repairCount" "I" ∈ tbl := tb_mem (List.mem_of_getElem? (i := 279) (by decide +kernel)) rfl
theorem l_Y_77 : Cond.methodLink RY 77 y_Y_work ∈ tbl := tb_mem (List.mem_of_getElem? (i := 363) (by decide +kernel)) rfl
theorem g_Y_77 : GoodIn tbl (wsV RY 77 RY y_Y_work w_Y_work) := tb_V l_Y_77 h_Y_work_kind h_Y_work_sel h_Y_ini (tb_all h_Y_work_code)
theorem l_Y_80 : Cond.methodLink RY 80 y_Y_told ∈ tbl := tb_mem (List.mem_of_getElem? (i := 383) (by decide +kernel)) rfl
theorem g_Y_80 : GoodIn tbl (wsV RY 80 RY y_Y_told w_Y_told) := tb_V l_Y_80 h_Y_told_kind h_Y_told_sel h_Y_ini (tb_all h_Y_told_code)
theorem l_Y_84 : Cond.methodLink RY 84 y_Y_isLeast ∈ tbl := tb_mem (List.mem_of_getElem? (i := 395) (by decide +kernel)) rfl
theorem g_Y_84 : GoodIn tbl (wsV RY 84 RY y_Y_isLeast w_Y_isLeast) := tb_V l_Y_84 h_Y_isLeast_kind h_Y_isLeast_sel h_Y_ini (tb_all h_Y_isLeast_code)
theorem l_L_9 : Cond.methodLink RL 9 y_X_init ∈ tbl := tb_mem (List.mem_of_getElem? (i := 35) (by decide +kernel)) rfl
theorem g_L_9 : GoodIn tbl w_X_init := tb_all h_X_init_code
theorem l_L_12 : Cond.methodLink RL 12 y_Y_init ∈ tbl := tb_mem (List.mem_of_getElem? (i := 262) (by decide +kernel)) rfl
theorem g_L_12 : GoodIn tbl w_Y_init := tb_all h_Y_init_code
theorem l_L_13 : Cond.methodLink RL 13 y_X_fact ∈ tbl := tb_mem (List.mem_of_getElem? (i := 89) (by decide +kernel)) rfl
theorem g_L_13 : GoodIn tbl (wsV RL 13 RX y_X_fact w_X_fact) := tb_V l_L_13 h_X_fact_kind h_X_fact_sel h_X_ini (tb_all h_X_fact_code)
theorem l_L_17 : Cond.methodLink RL 17 y_Y_fact ∈ tbl := tb_mem (List.mem_of_getElem? (i := 309) (by decide +kernel)) rfl
theorem g_L_17 : GoodIn tbl (wsV RL 17 RY y_Y_fact w_Y_fact) := tb_V l_L_17 h_Y_fact_kind h_Y_fact_sel h_Y_ini (tb_all h_Y_fact_code)
theorem l_L_18 : Cond.methodLink RL 18 y_X_harden ∈ tbl := tb_mem (List.mem_of_getElem? (i := 99) (by decide +kernel)) rfl
theorem g_L_18 : GoodIn tbl (wsV RL 18 RX y_X_harden w_X_harden) := tb_V l_L_18 h_X_harden_kind h_X_harden_sel h_X_ini (tb_all h_X_harden_code)
theorem l_L_22 : Cond.methodLink RL 22 y_Y_harden ∈ tbl := tb_mem (List.mem_of_getElem? (i := 316) (by decide +kernel)) rfl
theorem g_L_22 : GoodIn tbl (wsV RL 22 RY y_Y_harden w_Y_harden) := tb_V l_L_22 h_Y_harden_kind h_Y_harden_sel h_Y_ini (tb_all h_Y_harden_code)
theorem l_L_23 : Cond.methodLink RL 23 y_X_weight ∈ tbl := tb_mem (List.mem_of_getElem? (i := 111) (by decide +kernel)) rfl
theorem g_L_23 : GoodIn tbl (wsV RL 23 RX y_X_weight w_X_weight) := tb_V l_L_23 h_X_weight_kind h_X_weight_sel h_X_ini (tb_all h_X_weight_code)
theorem l_L_27 : Cond.methodLink RL 27 y_Y_weight ∈ tbl := tb_mem (List.mem_of_getElem? (i := 324) (by decide +kernel)) rfl
theorem g_L_27 : GoodIn tbl (wsV RL 27 RY y_Y_weight w_Y_weight) := tb_V l_L_27 h_Y_weight_kind h_Y_weight_sel h_Y_ini (tb_all h_Y_weight_code)
theorem l_L_28 : Cond.methodLink RL 28 y_X_clash ∈ tbl := tb_mem (List.mem_of_getElem? (i := 115) (by decide +kernel)) rfl
theorem g_L_28 : GoodIn tbl (wsV RL 28 RX y_X_clash w_X_clash) := tb_V l_L_28 h_X_clash_kind h_X_clash_sel h_X_ini (tb_all h_X_clash_code)
theorem l_L_32 : Cond.methodLink RL 32 y_Y_clash ∈ tbl := tb_mem (List.mem_of_getElem? (i := 328) (by decide +kernel)) rfl
theorem g_L_32 : GoodIn tbl (wsV RL 32 RY y_Y_clash w_Y_clash) := tb_V l_L_32 h_Y_clash_kind h_Y_clash_sel h_Y_ini (tb_all h_Y_clash_code)
theorem l_L_33 : Cond.methodLink RL 33 y_X_settle ∈ tbl := tb_mem (List.mem_of_getElem? (i := 119) (by decide +kernel)) rfl
theorem g_L_33 : GoodIn tbl (wsV RL 33 RX y_X_settle w_X_settle) := tb_V l_L_33 h_X_settle_kind h_X_settle_sel h_X_ini (tb_all h_X_settle_code)
theorem l_L_37 : Cond.methodLink RL 37 y_Y_settle ∈ tbl := tb_mem (List.mem_of_getElem? (i := 332) (by decide +kernel)) rfl
theorem g_L_37 : GoodIn tbl (wsV RL 37 RY y_Y_settle w_Y_settle) := tb_V l_L_37 h_Y_settle_kind h_Y_settle_sel h_Y_ini (tb_all h_Y_settle_code)
theorem l_L_38 : Cond.methodLink RL 38 y_X_support ∈ tbl := tb_mem (List.mem_of_getElem? (i := 123) (by decide +kernel)) rfl
theorem g_L_38 : GoodIn tbl (wsV RL 38 RX y_X_support w_X_support) := tb_V l_L_38 h_X_support_kind h_X_support_sel h_X_ini (tb_all h_X_support_code)
theorem l_L_42 : Cond.methodLink RL 42 y_Y_support ∈ tbl := tb_mem (List.mem_of_getElem? (i := 336) (by decide +kernel)) rfl
theorem g_L_42 : GoodIn tbl (wsV RL 42 RY y_Y_support w_Y_support) := tb_V l_L_42 h_Y_support_kind h_Y_support_sel h_Y_ini (tb_all h_Y_support_code)
theorem l_L_43 : Cond.methodLink RL 43 y_X_order ∈ tbl := tb_mem (List.mem_of_getElem? (i := 134) (by decide +kernel)) rfl
theorem g_L_43 : GoodIn tbl (wsV RL 43 RX y_X_order w_X_order) := tb_V l_L_43 h_X_order_kind h_X_order_sel h_X_ini (tb_all h_X_order_code)
theorem l_L_46 : Cond.methodLink RL 46 y_Y_order ∈ tbl := tb_mem (List.mem_of_getElem? (i := 340) (by decide +kernel)) rfl
theorem g_L_46 : GoodIn tbl (wsV RL 46 RY y_Y_order w_Y_order) := tb_V l_L_46 h_Y_order_kind h_Y_order_sel h_Y_ini (tb_all h_Y_order_code)
theorem l_L_47 : Cond.methodLink RL 47 y_X_find ∈ tbl := tb_mem (List.mem_of_getElem? (i := 141) (by decide +kernel)) rfl
theorem g_L_47 : GoodIn tbl (wsV RL 47 RX y_X_find w_X_find) := tb_V l_L_47 h_X_find_kind h_X_find_sel h_X_ini (tb_all h_X_find_code)
theorem l_L_50 : Cond.methodLink RL 50 y_Y_find ∈ tbl := tb_mem (List.mem_of_getElem? (i := 359) (by decide +kernel)) rfl
theorem g_L_50 : GoodIn tbl (wsV RL 50 RY y_Y_find w_Y_find) := tb_V l_L_50 h_Y_find_kind h_Y_find_sel h_Y_ini (tb_all h_Y_find_code)
theorem l_L_51 : Cond.methodLink RL 51 y_X_kept ∈ tbl := tb_mem (List.mem_of_getElem? (i := 201) (by decide +kernel)) rfl
theorem g_L_51 : GoodIn tbl (wsV RL 51 RX y_X_kept w_X_kept) := tb_V l_L_51 h_X_kept_kind h_X_kept_sel h_X_ini (tb_all h_X_kept_code)
theorem l_L_54 : Cond.methodLink RL 54 y_Y_kept ∈ tbl := tb_mem (List.mem_of_getElem? (i := 371) (by decide +kernel)) rfl
theorem g_L_54 : GoodIn tbl (wsV RL 54 RY y_Y_kept w_Y_kept) := tb_V l_L_54 h_Y_kept_kind h_Y_kept_sel h_Y_ini (tb_all h_Y_kept_code)
theorem l_L_55 : Cond.methodLink RL 55 y_X_left ∈ tbl := tb_mem (List.mem_of_getElem? (i := 209) (by decide +kernel)) rfl
theorem g_L_55 : GoodIn tbl (wsV RL 55 RX y_X_left w_X_left) := tb_V l_L_55 h_X_left_kind h_X_left_sel h_X_ini (tb_all h_X_left_code)
theorem l_L_58 : Cond.methodLink RL 58 y_Y_left ∈ tbl := tb_mem (List.mem_of_getElem? (i := 375) (by decide +kernel)) rfl
theorem g_L_58 : GoodIn tbl (wsV RL 58 RY y_Y_left w_Y_left) := tb_V l_L_58 h_Y_left_kind h_Y_left_sel h_Y_ini (tb_all h_Y_left_code)
theorem l_L_59 : Cond.methodLink RL 59 y_X_truth ∈ tbl := tb_mem (List.mem_of_getElem? (i := 213) (by decide +kernel)) rfl
theorem g_L_59 : GoodIn tbl (wsV RL 59 RX y_X_truth w_X_truth) := tb_V l_L_59 h_X_truth_kind h_X_truth_sel h_X_ini (tb_all h_X_truth_code)
theorem l_L_62 : Cond.methodLink RL 62 y_Y_truth ∈ tbl := tb_mem (List.mem_of_getElem? (i := 379) (by decide +kernel)) rfl
theorem g_L_62 : GoodIn tbl (wsV RL 62 RY y_Y_truth w_Y_truth) := tb_V l_L_62 h_Y_truth_kind h_Y_truth_sel h_Y_ini (tb_all h_Y_truth_code)
theorem l_L_63 : Cond.methodLink RL 63 y_X_surely ∈ tbl := tb_mem (List.mem_of_getElem? (i := 225) (by decide +kernel)) rfl
theorem g_L_63 : GoodIn tbl (wsV RL 63 RX y_X_surely w_X_surely) := tb_V l_L_63 h_X_surely_kind h_X_surely_sel h_X_ini (tb_all h_X_surely_code)
theorem l_L_66 : Cond.methodLink RL 66 y_Y_surely ∈ tbl := tb_mem (List.mem_of_getElem? (i := 387) (by decide +kernel)) rfl
theorem g_L_66 : GoodIn tbl (wsV RL 66 RY y_Y_surely w_Y_surely) := tb_V l_L_66 h_Y_surely_kind h_Y_surely_sel h_Y_ini (tb_all h_Y_surely_code)
theorem l_L_67 : Cond.methodLink RL 67 y_X_better ∈ tbl := tb_mem (List.mem_of_getElem? (i := 229) (by decide +kernel)) rfl
theorem g_L_67 : GoodIn tbl (wsV RL 67 RX y_X_better w_X_better) := tb_V l_L_67 h_X_better_kind h_X_better_sel h_X_ini (tb_all h_X_better_code)
theorem l_L_70 : Cond.methodLink RL 70 y_Y_better ∈ tbl := tb_mem (List.mem_of_getElem? (i := 344) (by decide +kernel)) rfl
theorem g_L_70 : GoodIn tbl (wsV RL 70 RY y_Y_better w_Y_better) := tb_V l_L_70 h_Y_better_kind h_Y_better_sel h_Y_ini (tb_all h_Y_better_code)
theorem l_L_71 : Cond.methodLink RL 71 y_X_least ∈ tbl := tb_mem (List.mem_of_getElem? (i := 244) (by decide +kernel)) rfl
theorem g_L_71 : GoodIn tbl (wsV RL 71 RX y_X_least w_X_least) := tb_V l_L_71 h_X_least_kind h_X_least_sel h_X_ini (tb_all h_X_least_code)
theorem l_L_74 : Cond.methodLink RL 74 y_Y_least ∈ tbl := tb_mem (List.mem_of_getElem? (i := 391) (by decide +kernel)) rfl
theorem g_L_74 : GoodIn tbl (wsV RL 74 RY y_Y_least w_Y_least) := tb_V l_L_74 h_Y_least_kind h_Y_least_sel h_Y_ini (tb_all h_Y_least_code)
theorem l_L_75 : Cond.methodLink RL 75 y_X_size ∈ tbl := tb_mem (List.mem_of_getElem? (i := 256) (by decide +kernel)) rfl
theorem g_L_75 : GoodIn tbl (wsV RL 75 RX y_X_size w_X_size) := tb_V l_L_75 h_X_size_kind h_X_size_sel h_X_ini (tb_all h_X_size_code)
theorem l_L_78 : Cond.methodLink RL 78 y_Y_size ∈ tbl := tb_mem (List.mem_of_getElem? (i := 399) (by decide +kernel)) rfl
theorem g_L_78 : GoodIn tbl (wsV RL 78 RY y_Y_size w_Y_size) := tb_V l_L_78 h_Y_size_kind h_Y_size_sel h_Y_ini (tb_all h_Y_size_code)
theorem h_objk : Cond.instanceMethod objectInit ∈ tbl := tb_mem (List.mem_of_getElem? (i := 39) (by decide +kernel)) rfl
theorem h_objc : Cond.code objectInit ⟨#[0xb1]⟩ 1 none ∈ tbl := tb_mem (List.mem_of_getElem? (i := 40) rfl) rfl
theorem h_arr_int : Cond.arrayClass .int ∈ tbl := tb_mem (List.mem_of_getElem? (i := 87) (by decide +kernel)) rfl
theorem h_arr_boolean : Cond.arrayClass .boolean ∈ tbl := tb_mem (List.mem_of_getElem? (i := 88) (by decide +kernel)) rfl
theorem h_L_X : Cond.classLink RL 7 RX ∈ tbl := tb_mem (List.mem_of_getElem? (i := 33) (by decide +kernel)) rfl
theorem h_X_inst : Cond.instantiable RX 15 ∈ tbl := tb_mem (List.mem_of_getElem? (i := 34) (by decide +kernel)) rfl
theorem h_L_Y : Cond.classLink RL 10 RY ∈ tbl := tb_mem (List.mem_of_getElem? (i := 260) (by decide +kernel)) rfl
theorem h_Y_inst : Cond.instantiable RY 14 ∈ tbl := tb_mem (List.mem_of_getElem? (i := 261) (by decide +kernel)) rfl
theorem k_X_153 : Cond.constantLong RX 153 (-1 : Int64) ∈ tbl := tb_mem (List.mem_of_getElem? (i := 196) (by decide +kernel)) rfl
end
section
/-! Rows for calls and loops, over any class list: methods that only read (rd_), methods that change cells of their world and make none (wr_). -/
section RDB
variable {p : Program} {l : Launch} {e : Env} {R : Room} {s : State} {m : MethodId} {args : Array Value} {below : List Frame} {meth : Method} {c : Code} {H : Heap} {locs : List Loc} {cells slots : Nat} {Q : State → Prop}
variable {pc : Nat} {ls : Array Slot} {rest st0 : List Value}
variable {D : va_G} {cl : List vw_C} {ws ws' : va_W} {tys : List (ClassId × FieldType)}
def rd_Pc (D : va_G) (cl : List vw_C) (ws : va_W) (tys : List (ClassId × FieldType)) (av : List Value) : Array Value → State → Prop := va_Pc av (fun U => va_P D cl ws U.heap ∧ va_K D cl tys U)
theorem rd_blind {av : List Value} : FrameBlind (rd_Pc D cl ws tys av) := fun a U g mk q => by
  obtain ⟨q0, qP, qK⟩ := q
  exact ⟨q0, qP, va_K.moved (u := U) (U := U.calling g mk a) (Vm.Alike.refl U.vm) qK⟩
/-- a static method that reads nothing -/
def rd_P0 (av : List Value) : Array Value → State → Prop := va_Pc av (fun _ => True)
theorem rd_blind0 {av : List Value} : FrameBlind (rd_P0 av) := fun a U g mk q => ⟨q.1, trivial⟩
variable {y : MethodName} {bytes cc : ByteArray} {maxL nL n index : Nat} {ret : Option FieldType} {w : List Cond} {rm : Room} {Ts : List Cond} {own C : String} {b : Addr} {As : List Value} {r : Value}
theorem rd_V (S : CallFix p m c cc nL s args Ts own) (hM : Met l y w rm (rd_Pc D cl ws tys (.ref b :: As)) (k2_QcV r) 0 0 (fun _ => False)) (cw : CallW R s args own C index y bytes maxL ret w rm 0 0 n)
    (hK : va_K D cl tys s) (hP : va_P D cl ws H) (q0 : Nat) {ci : Nat} {T : u_T} {N : Nat} {fs : List Value} (hc : cl[ci]? = some (C, T, N)) (he : ws[q0]? = some (b, .inr (ci, fs)))
    (hn : As.length = n) (hsize : ls.size = nL) (hstack : st0 = As.reverse ++ .ref b :: rest) (hW : (rest.map fun v => v.category).sum ≤ 8) (hdg : decode cc pc = .ok (.invokevirtual index, 3)) (hf : cells + 0 ≤ R.cells ∧ slots + 0 ≤ R.slots)
    (kk : W p l e R s m args below meth c H locs cells slots Q (F0 m (pc + 3) ls (r :: rest))) : W p l e R s m args below meth c H locs cells slots Q (F0 m pc ls st0) := by
  subst hstack
  exact W.callV (W.runV (As := As) (rest := rest) (g := F0 m pc ls (As.reverse ++ .ref b :: rest)) S hM cw ⟨rd_blind, va_recv hK hP hc he, fun U hU hW => ⟨rfl, by rw [hU]; exact hP, va_K.moved hW.alike hK⟩⟩ rfl hn hsize rfl (lv_room hW) hdg hf) kk
theorem rd_S (S : CallFix p m c cc nL s args Ts own) (hM : Met l y w rm (rd_P0 As) (k2_QcV r) 0 0 (fun _ => False)) (cw : CallB R s args own index y bytes maxL ret w rm 0 0 n ∧ (Cond.static y).before args s = true)
    (hn : As.length = n) (hsize : ls.size = nL) (hstack : st0 = As.reverse ++ rest) (hW : (rest.map fun v => v.category).sum ≤ 8) (hdg : decode cc pc = .ok (.invokestatic index, 3)) (hf : cells + 0 ≤ R.cells ∧ slots + 0 ≤ R.slots)
    (kk : W p l e R s m args below meth c H locs cells slots Q (F0 m (pc + 3) ls (r :: rest))) : W p l e R s m args below meth c H locs cells slots Q (F0 m pc ls st0) := by
  subst hstack
  exact W.callV (W.runS (As := As) (rest := rest) (g := F0 m pc ls (As.reverse ++ rest)) S hM cw ⟨rd_blind0, fun U hU hW => ⟨rfl, trivial⟩⟩ rfl hn hsize rfl (lv_room hW) hdg hf) kk
def wr_Pc (D : va_G) (cl : List vw_C) (ws : va_W) (tys : List (ClassId × FieldType)) (sz : Nat) (av : List Value) : Array Value → State → Prop := va_Pc av (fun U => U.heap.size = sz ∧ va_P D cl ws U.heap ∧ va_K D cl tys U ∧ va_D (fun _ => True) ws)
theorem wr_blind {av : List Value} {sz : Nat} : FrameBlind (wr_Pc D cl ws tys sz av) := fun a U g mk q => by
  obtain ⟨q0, q1, qP, qK, qD⟩ := q
  exact ⟨q0, q1, qP, va_K.moved (u := U) (U := U.calling g mk a) (Vm.Alike.refl U.vm) qK, qD⟩
def wr_Q (D : va_G) (cl : List vw_C) (ws ws' : va_W) (sz : Nat) (ro : Option Value) : Array Value → State → Outcome → State → Prop := fun _ st o t => o = .returned ro ∧ va_P D cl ws' t.heap ∧ va_F (va_A ws sz) st t
theorem wr_D {A : Nat → Prop} (h : va_D A ws) (ha : ws'.map (·.1) = ws.map (·.1)) : va_D A ws' := by
  have key : ∀ (k : Nat) (q : Nat × va_E), ws'[k]? = some q → ∃ q0, ws[k]? = some q0 ∧ q0.1 = q.1 := by
    intro k q hk
    have h1 : (ws.map (·.1))[k]? = some q.1 := by rw [← ha, List.getElem?_map, hk]; rfl
    rw [List.getElem?_map] at h1
    cases hq : ws[k]? with
    | none => rw [hq] at h1; cases h1
    | some q0 => rw [hq] at h1; exact ⟨q0, rfl, Option.some.inj h1⟩
  refine ⟨fun i j x y hi hj hxy => ?_, fun k q hk => ?_⟩
  · obtain ⟨x0, h1, h2⟩ := key i x hi
    obtain ⟨y0, h3, h4⟩ := key j y hj
    exact h.1 i j x0 y0 h1 h3 (h2.trans (hxy.trans h4.symm))
  · obtain ⟨q0, h1, h2⟩ := key k q hk
    rw [← h2]
    exact h.2 k q0 h1
variable {A : Nat → Prop} {H0 : Heap} {ro : Option Value}
theorem wr_run (hr : va_Run p l e R s m args below meth c H locs cells slots 0 0 (F0 m pc ls st0) rest (wr_Q D cl ws ws' H.size ro #[]) (va_A ws H.size)) (hD : va_D A ws) (hS : va_S A H0 H locs) (hA : ∀ q, H0.size ≤ q → A q) (ha : ws'.map (·.1) = ws.map (·.1))
    (kk : ∀ (H1 : Heap) (locs1 : List Loc), va_P D cl ws' H1 → va_D A ws' → va_S A H0 H1 locs1 → W p l e R s m args below meth c H1 locs1 cells slots Q (F0 m (pc + 3) ls (ro.toList ++ rest))) : W p l e R s m args below meth c H locs cells slots Q (F0 m pc ls st0) := by
  intro T hT X
  obtain ⟨v, st₀, t, T', L, h0, X', hL, e1, e2, ⟨hv, hp, hz, hk⟩, st⟩ := hr T hT X
  cases hv
  rw [h0] at hz hk
  have hF : ∀ q, va_A ws H.size q → A q := fun q h => by
    rcases h with ⟨k, e, h⟩ | h
    · exact hD.2 k (q, e) h
    · exact hA q (Nat.le_trans hS.1 h)
  obtain ⟨t2, a1, b1⟩ := kk T'.heap (locs ++ L) (by rw [e1]; exact hp) (wr_D hD ha)
    ⟨Nat.le_trans hS.1 (by rw [e1]; exact hz), fun q h1 h2 => by rw [e1, hk q (Nat.lt_of_lt_of_le h1 hS.1) (fun z => h2 (hF q z))]; exact hS.2.1 q h1 h2, fun q hq => by
      rcases List.mem_append.mp hq with h | h
      · exact hS.2.2 q h
      · exact hF _ (hL q h)⟩ T' rfl X'
  exact ⟨t2, st t2 a1, b1⟩
theorem wr_V (S : CallFix p m c cc nL s args Ts own) (hM : Met l y w rm (wr_Pc D cl ws tys H.size (.ref b :: As)) (wr_Q D cl ws ws' H.size ro) 0 0 (va_A ws H.size)) (cw : CallW R s args own C index y bytes maxL ret w rm 0 0 n)
    (hK : va_K D cl tys s) (hP : va_P D cl ws H) (hD : va_D A ws) (hS : va_S A H0 H locs) (hA : ∀ q, H0.size ≤ q → A q) (q0 : Nat) {ci : Nat} {T : u_T} {N : Nat} {fs : List Value} (hc : cl[ci]? = some (C, T, N)) (he : ws[q0]? = some (b, .inr (ci, fs)))
    (hn : As.length = n) (hsize : ls.size = nL) (hstack : st0 = As.reverse ++ .ref b :: rest) (hW : (rest.map fun v => v.category).sum ≤ 8) (hdg : decode cc pc = .ok (.invokevirtual index, 3)) (hf : cells + 0 ≤ R.cells ∧ slots + 0 ≤ R.slots) (ha : ws'.map (·.1) = ws.map (·.1))
    (kk : ∀ (H1 : Heap) (locs1 : List Loc), va_P D cl ws' H1 → va_D A ws' → va_S A H0 H1 locs1 → W p l e R s m args below meth c H1 locs1 cells slots Q (F0 m (pc + 3) ls (ro.toList ++ rest))) : W p l e R s m args below meth c H locs cells slots Q (F0 m pc ls st0) := by
  subst hstack
  exact wr_run (va_runV (As := As) (rest := rest) (g := F0 m pc ls (As.reverse ++ .ref b :: rest)) S hM cw ⟨wr_blind, va_recv hK hP hc he, fun U hU hW => ⟨rfl, by rw [hU], by rw [hU]; exact hP, va_K.moved hW.alike hK, hD.weaken (fun _ _ _ _ => trivial)⟩⟩ rfl hn hsize rfl (lv_room hW) hdg hf) hD hS hA ha kk
/-- the int on top by another name -/
theorem rd_top {x z : Int32} (h : x = z) (k : W p l e R s m args below meth c H locs cells slots Q (F0 m pc ls (.int z :: rest))) : W p l e R s m args below meth c H locs cells slots Q (F0 m pc ls (.int x :: rest)) := h ▸ k
theorem rd_topl {x z : Int64} (h : x = z) (k : W p l e R s m args below meth c H locs cells slots Q (F0 m pc ls (.long z :: rest))) : W p l e R s m args below meth c H locs cells slots Q (F0 m pc ls (.long x :: rest)) := h ▸ k
/-- a loop that reads: it counts from i up to N -/
theorem rd_loop {nL : Nat} {σ : Type} (N : Nat) (lvs : Nat → σ → List (Nat × Value)) (I : Nat → σ → Prop)
    (step : ∀ (i : Nat) (x : σ) (ls : Array Slot), i ≤ N → I i x → lv_has ls nL (lvs i x) → (i < N → ∀ (z : σ) (ls' : Array Slot), I (i + 1) z → lv_has ls' nL (lvs (i + 1) z) → W p l e R s m args below meth c H locs cells slots Q (F0 m pc ls' [])) → W p l e R s m args below meth c H locs cells slots Q (F0 m pc ls [])) :
    ∀ (i : Nat) (x : σ) (ls : Array Slot), i ≤ N → I i x → lv_has ls nL (lvs i x) → W p l e R s m args below meth c H locs cells slots Q (F0 m pc ls []) := by
  have key : ∀ (k i : Nat) (x : σ) (ls : Array Slot), N - i = k → i ≤ N → I i x → lv_has ls nL (lvs i x) → W p l e R s m args below meth c H locs cells slots Q (F0 m pc ls []) := by
    intro k
    induction k with
    | zero =>
      intro i x ls h1 h2 h3 h4
      exact step i x ls h2 h3 h4 (fun h => by omega)
    | succ k ih =>
      intro i x ls h1 h2 h3 h4
      exact step i x ls h2 h3 h4 (fun h z ls' h5 h6 => ih (i + 1) z ls' (by omega) (by omega) h5 h6)
  intro i x ls h1 h2 h3
  exact key _ i x ls rfl h1 h2 h3
/-- a loop that writes -/
theorem wr_loop {nL : Nat} {σ : Type} (N : Nat) (lvs : Nat → σ → List (Nat × Value)) (wo : Nat → σ → va_W) (I : Nat → σ → Prop)
    (step : ∀ (i : Nat) (x : σ) (ls : Array Slot) (H : Heap) (locs : List Loc), i ≤ N → I i x → lv_has ls nL (lvs i x) → va_P D cl (wo i x) H → va_D A (wo i x) → va_S A H0 H locs → (i < N → ∀ (z : σ) (ls' : Array Slot) (H' : Heap) (locs' : List Loc), I (i + 1) z → lv_has ls' nL (lvs (i + 1) z) → va_P D cl (wo (i + 1) z) H' → va_D A (wo (i + 1) z) → va_S A H0 H' locs' → W p l e R s m args below meth c H' locs' cells slots Q (F0 m pc ls' [])) → W p l e R s m args below meth c H locs cells slots Q (F0 m pc ls [])) :
    ∀ (i : Nat) (x : σ) (ls : Array Slot) (H : Heap) (locs : List Loc), i ≤ N → I i x → lv_has ls nL (lvs i x) → va_P D cl (wo i x) H → va_D A (wo i x) → va_S A H0 H locs → W p l e R s m args below meth c H locs cells slots Q (F0 m pc ls []) := by
  have key : ∀ (k i : Nat) (x : σ) (ls : Array Slot) (H : Heap) (locs : List Loc), N - i = k → i ≤ N → I i x → lv_has ls nL (lvs i x) → va_P D cl (wo i x) H → va_D A (wo i x) → va_S A H0 H locs → W p l e R s m args below meth c H locs cells slots Q (F0 m pc ls []) := by
    intro k
    induction k with
    | zero =>
      intro i x ls H locs h1 h2 h3 h4 h5 h6 h7
      exact step i x ls H locs h2 h3 h4 h5 h6 h7 (fun h => by omega)
    | succ k ih =>
      intro i x ls H locs h1 h2 h3 h4 h5 h6 h7
      exact step i x ls H locs h2 h3 h4 h5 h6 h7 (fun h z ls' H' locs' h8 h9 h10 h11 h12 => ih (i + 1) z ls' H' locs' (by omega) (by omega) h8 h9 h10 h11 h12)
  intro i x ls H locs h1 h2 h3 h4 h5 h6
  exact key _ i x ls H locs rfl h1 h2 h3 h4 h5 h6
end RDB
def bI (b : Bool) : Int32 := if b then 1 else 0
section RDM
variable {p : Program} {l : Launch} {e : Env} {R : Room} {s : State} {m : MethodId} {args : Array Value} {below : List Frame} {meth : Method} {c : Code} {H : Heap} {locs : List Loc} {cells slots : Nat} {Q : State → Prop}
variable {D : va_G} {cl : List vw_C} {ws ws' : va_W} {tys : List (ClassId × FieldType)} {cc : ByteArray} {pc : Nat} {ls : Array Slot}
theorem rd_iret {v z : Int32} (hx : p.tables.exec = Jvm.exec) (hb : c.code = cc) (hr : meth.sig.returnType = some .int) (hlocks : meth.locks = false) (hdg : decode cc pc = .ok (.ireturn, 1)) (h : v = z) : W p l e R s m args below meth c s.heap [] 0 0 (MQ below (k2_QcV (.int z)) args s 0 0 (fun _ => False)) (F0 m pc ls [.int v]) := by
  subst h
  exact W.iret hx hb hr (fun t ht hW => ⟨rfl, ht⟩) (fun q hq => by cases hq) hdg hlocks
theorem rd_zret {v : Int32} {z : Bool} (hx : p.tables.exec = Jvm.exec) (hb : c.code = cc) (hr : meth.sig.returnType = some .boolean) (hlocks : meth.locks = false) (hdg : decode cc pc = .ok (.ireturn, 1)) (h : v = bI z) : W p l e R s m args below meth c s.heap [] 0 0 (MQ below (k2_QcV (.int (bI z))) args s 0 0 (fun _ => False)) (F0 m pc ls [.int v]) := by
  subst h
  exact W.zret hx hb hr (by cases z <;> rfl) (fun t ht hW => ⟨rfl, ht⟩) (fun q hq => by cases hq) hdg hlocks
theorem rd_lret {v z : Int64} (hx : p.tables.exec = Jvm.exec) (hb : c.code = cc) (hr : meth.sig.returnType = some .long) (hlocks : meth.locks = false) (hdg : decode cc pc = .ok (.lreturn, 1)) (h : v = z) : W p l e R s m args below meth c s.heap [] 0 0 (MQ below (k2_QcV (.long z)) args s 0 0 (fun _ => False)) (F0 m pc ls [.long v]) := by
  subst h
  exact W.lret hx hb hr (fun t ht hW => ⟨rfl, ht⟩) (fun q hq => by cases hq) hdg hlocks
theorem wr_vret (hx : p.tables.exec = Jvm.exec) (hb : c.code = cc) (hr : meth.sig.returnType = none) (hlocks : meth.locks = false) (hdg : decode cc pc = .ok (.return_, 1)) (hS : va_S (va_A ws s.heap.size) s.heap H locs) (hP : va_P D cl ws' H) : W p l e R s m args below meth c H locs 0 0 (MQ below (wr_Q D cl ws ws' s.heap.size none) args s 0 0 (va_A ws s.heap.size)) (F0 m pc ls []) :=
  W.vret hx hb hr (fun t ht hW => ⟨rfl, by rw [ht]; exact hP, hS.F ht⟩) hS.2.2 hdg hlocks
theorem wr_iret {v z : Int32} (hx : p.tables.exec = Jvm.exec) (hb : c.code = cc) (hr : meth.sig.returnType = some .int) (hlocks : meth.locks = false) (hdg : decode cc pc = .ok (.ireturn, 1)) (hS : va_S (va_A ws s.heap.size) s.heap H locs) (hP : va_P D cl ws' H) (h : v = z) : W p l e R s m args below meth c H locs 0 0 (MQ below (wr_Q D cl ws ws' s.heap.size (some (.int z))) args s 0 0 (va_A ws s.heap.size)) (F0 m pc ls [.int v]) := by
  subst h
  exact W.iret hx hb hr (fun t ht hW => ⟨rfl, by rw [ht]; exact hP, hS.F ht⟩) hS.2.2 hdg hlocks
/-- a method that reads: from its entry -/
theorem rd_met {y : MethodName} {w w' : List Cond} {rm : Room} {av : List Value} {maxL : Nat} {ret : Option FieldType} {lv0 : List (Nat × Value)} {Qc : Array Value → State → Outcome → State → Prop} (hy : plainName y.cls = true) (hw : w = Cond.code y cc maxL ret :: w') (hlen : (lg_sl av).length ≤ maxL) (hlv : lv_args 0 av = lv0)
    (body : ∀ (p : Program) (e : Env) (s : State) (m : MethodId) (below : List Frame) (meth : Method) (c : Code) (ls : Array Slot), p.tables.exec = Jvm.exec → c.code = cc → meth.sig.returnType = ret → c.maxLocals = maxL → s.vm.findClass y.cls = some m.cls → (∀ z ∈ w, z.before av.toArray s = true) → meth.locks = false → va_P D cl ws s.heap → va_K D cl tys s → lv_has ls maxL lv0 →
      W p l e rm s m av.toArray below meth c s.heap [] 0 0 (MQ below Qc av.toArray s 0 0 (fun _ => False)) (F0 m 0 ls [])) : Met l y w rm (rd_Pc D cl ws tys av) Qc 0 0 (fun _ => False) := by
  refine Met.ofW (cc := cc) (maxL := maxL) (ret := ret) hy hw ?_
  intro p e s m args below meth c s₁ B hml hv
  obtain ⟨rfl, hP, hK⟩ := hv
  have hl := lv_entry av (n := maxL) hlen
  rw [lg_entry_eq]
  rw [hlv] at hl
  exact body p e s m below meth c _ B.exec B.bytes B.returns hml (findClass_of_methodNamed B.named) (atoms_spec (ws := w) B.pre) B.notSynchronized hP hK hl
theorem rd_met0 {y : MethodName} {w w' : List Cond} {rm : Room} {av : List Value} {maxL : Nat} {ret : Option FieldType} {lv0 : List (Nat × Value)} {Qc : Array Value → State → Outcome → State → Prop} (hy : plainName y.cls = true) (hw : w = Cond.code y cc maxL ret :: w') (hlen : (lg_sl av).length ≤ maxL) (hlv : lv_args 0 av = lv0)
    (body : ∀ (p : Program) (e : Env) (s : State) (m : MethodId) (below : List Frame) (meth : Method) (c : Code) (ls : Array Slot), p.tables.exec = Jvm.exec → c.code = cc → meth.sig.returnType = ret → c.maxLocals = maxL → s.vm.findClass y.cls = some m.cls → (∀ z ∈ w, z.before av.toArray s = true) → meth.locks = false → lv_has ls maxL lv0 →
      W p l e rm s m av.toArray below meth c s.heap [] 0 0 (MQ below Qc av.toArray s 0 0 (fun _ => False)) (F0 m 0 ls [])) : Met l y w rm (rd_P0 av) Qc 0 0 (fun _ => False) := by
  refine Met.ofW (cc := cc) (maxL := maxL) (ret := ret) hy hw ?_
  intro p e s m args below meth c s₁ B hml hv
  obtain ⟨rfl, -⟩ := hv
  have hl := lv_entry av (n := maxL) hlen
  rw [lg_entry_eq]
  rw [hlv] at hl
  exact body p e s m below meth c _ B.exec B.bytes B.returns hml (findClass_of_methodNamed B.named) (atoms_spec (ws := w) B.pre) B.notSynchronized hl
/-- a method that writes: from its entry -/
theorem wr_met {y : MethodName} {w w' : List Cond} {rm : Room} {av : List Value} {maxL sz : Nat} {ret : Option FieldType} {lv0 : List (Nat × Value)} {ro : Option Value} (hy : plainName y.cls = true) (hw : w = Cond.code y cc maxL ret :: w') (hlen : (lg_sl av).length ≤ maxL) (hlv : lv_args 0 av = lv0)
    (body : ∀ (p : Program) (e : Env) (s : State) (m : MethodId) (below : List Frame) (meth : Method) (c : Code) (ls : Array Slot), p.tables.exec = Jvm.exec → c.code = cc → meth.sig.returnType = ret → c.maxLocals = maxL → s.vm.findClass y.cls = some m.cls → (∀ z ∈ w, z.before av.toArray s = true) → meth.locks = false → va_P D cl ws s.heap → va_K D cl tys s → va_D (va_A ws s.heap.size) ws → va_S (va_A ws s.heap.size) s.heap s.heap [] → (∀ q, s.heap.size ≤ q → va_A ws s.heap.size q) → lv_has ls maxL lv0 →
      W p l e rm s m av.toArray below meth c s.heap [] 0 0 (MQ below (wr_Q D cl ws ws' s.heap.size ro) av.toArray s 0 0 (va_A ws s.heap.size)) (F0 m 0 ls [])) : Met l y w rm (wr_Pc D cl ws tys sz av) (wr_Q D cl ws ws' sz ro) 0 0 (va_A ws sz) := by
  refine Met.ofW (cc := cc) (maxL := maxL) (ret := ret) hy hw ?_
  intro p e s m args below meth c s₁ B hml hv
  obtain ⟨rfl, hsz, hP, hK, hD⟩ := hv
  subst hsz
  have hl := lv_entry av (n := maxL) hlen
  rw [lg_entry_eq]
  rw [hlv] at hl
  exact body p e s m below meth c _ B.exec B.bytes B.returns hml (findClass_of_methodNamed B.named) (atoms_spec (ws := w) B.pre) B.notSynchronized hP hK (hD.self (sz := s.heap.size)) va_S.rf (fun q h => Or.inr h) hl
end RDM
end
