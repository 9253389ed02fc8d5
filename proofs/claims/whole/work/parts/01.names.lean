def lw_okq (q : MethodName × Nat) : Prop := (q.1.cls ≠ "java/lang/invoke/MethodHandle" ∧ q.1.cls ≠ "java/lang/invoke/VarHandle") ∧ Cond.instantiable q.1.cls q.2 ∈ tables_1 ∧ Cond.privateMethod q.1 ∈ tables_1 ∧ Cond.instanceMethod q.1 ∈ tables_1
theorem lw_p0 : lw_okq (⟨"VersionRows", "hasField", "(II)Z"⟩, 4) := ⟨⟨by decide +kernel, by decide +kernel⟩, List.mem_of_getElem? (i := 8) (by decide +kernel), List.mem_of_getElem? (i := 118) (by decide +kernel), List.mem_of_getElem? (i := 119) (by decide +kernel)⟩
theorem lw_p1 : lw_okq (⟨"VersionRows", "isLocked", "(I)Z"⟩, 4) := ⟨⟨by decide +kernel, by decide +kernel⟩, List.mem_of_getElem? (i := 8) (by decide +kernel), List.mem_of_getElem? (i := 127) (by decide +kernel), List.mem_of_getElem? (i := 128) (by decide +kernel)⟩
theorem lw_p2 : lw_okq (⟨"VersionRows", "isRefusedDeletion", "(IIJ)Z"⟩, 4) := ⟨⟨by decide +kernel, by decide +kernel⟩, List.mem_of_getElem? (i := 8) (by decide +kernel), List.mem_of_getElem? (i := 140) (by decide +kernel), List.mem_of_getElem? (i := 141) (by decide +kernel)⟩
theorem lw_p3 : lw_okq (⟨"VersionRows$Acts", "isOf", "(III)Z"⟩, 8) := ⟨⟨by decide +kernel, by decide +kernel⟩, List.mem_of_getElem? (i := 37) (by decide +kernel), List.mem_of_getElem? (i := 152) (by decide +kernel), List.mem_of_getElem? (i := 153) (by decide +kernel)⟩
theorem lw_p4 : lw_okq (⟨"VersionRows$Acts", "putNewestInOrder", "()V"⟩, 8) := ⟨⟨by decide +kernel, by decide +kernel⟩, List.mem_of_getElem? (i := 37) (by decide +kernel), List.mem_of_getElem? (i := 160) (by decide +kernel), List.mem_of_getElem? (i := 161) (by decide +kernel)⟩
theorem lw_p5 : lw_okq (⟨"VersionRows$Acts", "isBehind", "(II)Z"⟩, 8) := ⟨⟨by decide +kernel, by decide +kernel⟩, List.mem_of_getElem? (i := 37) (by decide +kernel), List.mem_of_getElem? (i := 164) (by decide +kernel), List.mem_of_getElem? (i := 165) (by decide +kernel)⟩
theorem lw_p6 : lw_okq (⟨"VersionRows", "isLeanedOn", "(I)Z"⟩, 4) := ⟨⟨by decide +kernel, by decide +kernel⟩, List.mem_of_getElem? (i := 8) (by decide +kernel), List.mem_of_getElem? (i := 200) (by decide +kernel), List.mem_of_getElem? (i := 201) (by decide +kernel)⟩
theorem lw_p7 : lw_okq (⟨"VersionRows$Batches", "isAnyTaken", "(II)Z"⟩, 2) := ⟨⟨by decide +kernel, by decide +kernel⟩, List.mem_of_getElem? (i := 79) (by decide +kernel), List.mem_of_getElem? (i := 250) (by decide +kernel), List.mem_of_getElem? (i := 251) (by decide +kernel)⟩
theorem lw_p8 : lw_okq (⟨"VersionRows", "isLeanedOnFromOutside", "(I)Z"⟩, 4) := ⟨⟨by decide +kernel, by decide +kernel⟩, List.mem_of_getElem? (i := 8) (by decide +kernel), List.mem_of_getElem? (i := 262) (by decide +kernel), List.mem_of_getElem? (i := 263) (by decide +kernel)⟩
theorem lw_p9 : lw_okq (⟨"VersionRows", "countsInBatch", "(II)Z"⟩, 4) := ⟨⟨by decide +kernel, by decide +kernel⟩, List.mem_of_getElem? (i := 8) (by decide +kernel), List.mem_of_getElem? (i := 266) (by decide +kernel), List.mem_of_getElem? (i := 267) (by decide +kernel)⟩
theorem lw_p10 : lw_okq (⟨"VersionRows", "isLeanedOnOutside", "(II)Z"⟩, 4) := ⟨⟨by decide +kernel, by decide +kernel⟩, List.mem_of_getElem? (i := 8) (by decide +kernel), List.mem_of_getElem? (i := 274) (by decide +kernel), List.mem_of_getElem? (i := 275) (by decide +kernel)⟩
theorem lw_p11 : lw_okq (⟨"VersionRowsModel", "isField", "(II)Z"⟩, 15) := ⟨⟨by decide +kernel, by decide +kernel⟩, List.mem_of_getElem? (i := 294) (by decide +kernel), List.mem_of_getElem? (i := 356) (by decide +kernel), List.mem_of_getElem? (i := 357) (by decide +kernel)⟩
theorem lw_p12 : lw_okq (⟨"VersionRowsModel", "isRecord", "(I)Z"⟩, 15) := ⟨⟨by decide +kernel, by decide +kernel⟩, List.mem_of_getElem? (i := 294) (by decide +kernel), List.mem_of_getElem? (i := 360) (by decide +kernel), List.mem_of_getElem? (i := 361) (by decide +kernel)⟩
theorem lw_p13 : lw_okq (⟨"VersionRowsModel", "isLocked", "(I)Z"⟩, 15) := ⟨⟨by decide +kernel, by decide +kernel⟩, List.mem_of_getElem? (i := 294) (by decide +kernel), List.mem_of_getElem? (i := 365) (by decide +kernel), List.mem_of_getElem? (i := 366) (by decide +kernel)⟩
theorem lw_p14 : lw_okq (⟨"VersionRowsModel", "now", "()J"⟩, 15) := ⟨⟨by decide +kernel, by decide +kernel⟩, List.mem_of_getElem? (i := 294) (by decide +kernel), List.mem_of_getElem? (i := 369) (by decide +kernel), List.mem_of_getElem? (i := 370) (by decide +kernel)⟩
theorem lw_p15 : lw_okq (⟨"VersionRowsModel", "last", "(IIJ)I"⟩, 15) := ⟨⟨by decide +kernel, by decide +kernel⟩, List.mem_of_getElem? (i := 294) (by decide +kernel), List.mem_of_getElem? (i := 377) (by decide +kernel), List.mem_of_getElem? (i := 378) (by decide +kernel)⟩
def lw_privs_1 : List (MethodName × Nat) := [(⟨"VersionRows", "hasField", "(II)Z"⟩, 4), (⟨"VersionRows", "isLocked", "(I)Z"⟩, 4), (⟨"VersionRows", "isRefusedDeletion", "(IIJ)Z"⟩, 4), (⟨"VersionRows$Acts", "isOf", "(III)Z"⟩, 8), (⟨"VersionRows$Acts", "putNewestInOrder", "()V"⟩, 8), (⟨"VersionRows$Acts", "isBehind", "(II)Z"⟩, 8), (⟨"VersionRows", "isLeanedOn", "(I)Z"⟩, 4), (⟨"VersionRows$Batches", "isAnyTaken", "(II)Z"⟩, 2), (⟨"VersionRows", "isLeanedOnFromOutside", "(I)Z"⟩, 4), (⟨"VersionRows", "countsInBatch", "(II)Z"⟩, 4), (⟨"VersionRows", "isLeanedOnOutside", "(II)Z"⟩, 4), (⟨"VersionRowsModel", "isField", "(II)Z"⟩, 15), (⟨"VersionRowsModel", "isRecord", "(I)Z"⟩, 15), (⟨"VersionRowsModel", "isLocked", "(I)Z"⟩, 15), (⟨"VersionRowsModel", "now", "()J"⟩, 15), (⟨"VersionRowsModel", "last", "(IIJ)I"⟩, 15)]
theorem lw_r1 : ∀ q ∈ lw_privs_1, lw_okq q := List.forall_mem_cons.mpr ⟨lw_p0, List.forall_mem_cons.mpr ⟨lw_p1, List.forall_mem_cons.mpr ⟨lw_p2, List.forall_mem_cons.mpr ⟨lw_p3, List.forall_mem_cons.mpr ⟨lw_p4, List.forall_mem_cons.mpr ⟨lw_p5, List.forall_mem_cons.mpr ⟨lw_p6, List.forall_mem_cons.mpr ⟨lw_p7, List.forall_mem_cons.mpr ⟨lw_p8, List.forall_mem_cons.mpr ⟨lw_p9, List.forall_mem_cons.mpr ⟨lw_p10, List.forall_mem_cons.mpr ⟨lw_p11, List.forall_mem_cons.mpr ⟨lw_p12, List.forall_mem_cons.mpr ⟨lw_p13, List.forall_mem_cons.mpr ⟨lw_p14, List.forall_mem_cons.mpr ⟨lw_p15, fun _ h => absurd h List.not_mem_nil⟩⟩⟩⟩⟩⟩⟩⟩⟩⟩⟩⟩⟩⟩⟩⟩
theorem lw_p16 : lw_okq (⟨"VersionRowsModel", "isOf", "(III)Z"⟩, 15) := ⟨⟨by decide +kernel, by decide +kernel⟩, List.mem_of_getElem? (i := 294) (by decide +kernel), List.mem_of_getElem? (i := 381) (by decide +kernel), List.mem_of_getElem? (i := 382) (by decide +kernel)⟩
theorem lw_p17 : lw_okq (⟨"VersionRowsModel", "isBefore", "(II)Z"⟩, 15) := ⟨⟨by decide +kernel, by decide +kernel⟩, List.mem_of_getElem? (i := 294) (by decide +kernel), List.mem_of_getElem? (i := 385) (by decide +kernel), List.mem_of_getElem? (i := 386) (by decide +kernel)⟩
theorem lw_p18 : lw_okq (⟨"VersionRowsModel", "isAct", "(I)Z"⟩, 15) := ⟨⟨by decide +kernel, by decide +kernel⟩, List.mem_of_getElem? (i := 294) (by decide +kernel), List.mem_of_getElem? (i := 398) (by decide +kernel), List.mem_of_getElem? (i := 399) (by decide +kernel)⟩
theorem lw_p19 : lw_okq (⟨"VersionRowsModel", "isLeantOn", "(II)Z"⟩, 15) := ⟨⟨by decide +kernel, by decide +kernel⟩, List.mem_of_getElem? (i := 294) (by decide +kernel), List.mem_of_getElem? (i := 402) (by decide +kernel), List.mem_of_getElem? (i := 403) (by decide +kernel)⟩
def lw_privs_2 : List (MethodName × Nat) := [(⟨"VersionRowsModel", "isOf", "(III)Z"⟩, 15), (⟨"VersionRowsModel", "isBefore", "(II)Z"⟩, 15), (⟨"VersionRowsModel", "isAct", "(I)Z"⟩, 15), (⟨"VersionRowsModel", "isLeantOn", "(II)Z"⟩, 15)]
theorem lw_r2 : ∀ q ∈ lw_privs_2, lw_okq q := List.forall_mem_cons.mpr ⟨lw_p16, List.forall_mem_cons.mpr ⟨lw_p17, List.forall_mem_cons.mpr ⟨lw_p18, List.forall_mem_cons.mpr ⟨lw_p19, fun _ h => absurd h List.not_mem_nil⟩⟩⟩⟩
def lw_privs : List (MethodName × Nat) := lw_privs_1 ++ (lw_privs_2)
def lw_tbl : List Cond := k2_sels lw_privs ++ tables_1
theorem lw_privs_ok : ∀ q ∈ lw_privs, lw_okq q := by
  show ∀ q ∈ lw_privs_1 ++ (lw_privs_2), lw_okq q
  exact List.forall_mem_append.mpr ⟨lw_r1, lw_r2⟩

/-- the words that stay true while the program runs -/
def vr_T : List Cond := lw_tbl.filter goodWord
theorem vr_f {w : Cond} (h : w ∈ lw_tbl) (g : goodWord w = true) : w ∈ vr_T := List.mem_filter.mpr ⟨h, g⟩
theorem vr_fin {ws : List Cond} (h : ∀ w ∈ ws, w ∈ lw_tbl) (g : ws.all goodWord = true) : ∀ w ∈ ws, w ∈ vr_T := fun w hw => vr_f (h w hw) (List.all_eq_true.mp g w hw)
def RX0 : String := "VersionRows$Acts"
def TX0 : u_T := fun k => match k with
  | 0 => ("VersionRows$Acts", "records", "[I", true)
  | 1 => ("VersionRows$Acts", "fields", "[I", true)
  | 2 => ("VersionRows$Acts", "values", "[I", true)
  | 3 => ("VersionRows$Acts", "valids", "[J", true)
  | 4 => ("VersionRows$Acts", "knowns", "[J", true)
  | 5 => ("VersionRows$Acts", "counting", "[Z", true)
  | 6 => ("VersionRows$Acts", "ordered", "[I", true)
  | _ => ("VersionRows$Acts", "count", "I", false)
def tyX0 : Nat → FieldType := fun k => match k with
  | 0 => (.array .int)
  | 1 => (.array .int)
  | 2 => (.array .int)
  | 3 => (.array .long)
  | 4 => (.array .long)
  | 5 => (.array .boolean)
  | 6 => (.array .int)
  | _ => .int
theorem nmX0 : ∀ a, a < 8 → ∀ b, b < 8 → a ≠ b → (TX0 a).2.1 ≠ (TX0 b).2.1 := by decide +kernel
theorem tyX0_ok : ∀ k, k < 8 → parseFieldDescriptor (TX0 k).2.2.1 = some (tyX0 k) := by decide +kernel
set_option maxRecDepth 100000 in
theorem inX0 : ∀ w ∈ u_ws RX0 TX0 8, w ∈ vr_T := vr_fin (by decide +kernel) (by decide +kernel)
def RX1 : String := "VersionRows$Batches"
def TX1 : u_T := fun k => match k with
  | 0 => ("VersionRows$Batches", "batchOfAct", "[I", true)
  | _ => ("VersionRows$Batches", "count", "I", false)
def tyX1 : Nat → FieldType := fun k => match k with
  | 0 => (.array .int)
  | _ => .int
theorem nmX1 : ∀ a, a < 2 → ∀ b, b < 2 → a ≠ b → (TX1 a).2.1 ≠ (TX1 b).2.1 := by decide +kernel
theorem tyX1_ok : ∀ k, k < 2 → parseFieldDescriptor (TX1 k).2.2.1 = some (tyX1 k) := by decide +kernel
set_option maxRecDepth 100000 in
theorem inX1 : ∀ w ∈ u_ws RX1 TX1 2, w ∈ vr_T := vr_fin (by decide +kernel) (by decide +kernel)
def RX2 : String := "VersionRows$Leans"
def TX2 : u_T := fun k => match k with
  | _ => ("VersionRows$Leans", "words", "[J", true)
def tyX2 : Nat → FieldType := fun k => match k with
  | _ => (.array .long)
theorem nmX2 : ∀ a, a < 1 → ∀ b, b < 1 → a ≠ b → (TX2 a).2.1 ≠ (TX2 b).2.1 := by decide +kernel
theorem tyX2_ok : ∀ k, k < 1 → parseFieldDescriptor (TX2 k).2.2.1 = some (tyX2 k) := by decide +kernel
set_option maxRecDepth 100000 in
theorem inX2 : ∀ w ∈ u_ws RX2 TX2 1, w ∈ vr_T := vr_fin (by decide +kernel) (by decide +kernel)
def RX3 : String := "VersionRows$Records"
def TX3 : u_T := fun k => match k with
  | 0 => ("VersionRows$Records", "kinds", "[I", true)
  | 1 => ("VersionRows$Records", "lockers", "[I", true)
  | 2 => ("VersionRows$Records", "untils", "[J", true)
  | _ => ("VersionRows$Records", "count", "I", false)
def tyX3 : Nat → FieldType := fun k => match k with
  | 0 => (.array .int)
  | 1 => (.array .int)
  | 2 => (.array .long)
  | _ => .int
theorem nmX3 : ∀ a, a < 4 → ∀ b, b < 4 → a ≠ b → (TX3 a).2.1 ≠ (TX3 b).2.1 := by decide +kernel
theorem tyX3_ok : ∀ k, k < 4 → parseFieldDescriptor (TX3 k).2.2.1 = some (tyX3 k) := by decide +kernel
set_option maxRecDepth 100000 in
theorem inX3 : ∀ w ∈ u_ws RX3 TX3 4, w ∈ vr_T := vr_fin (by decide +kernel) (by decide +kernel)
def RX4 : String := "VersionRows"
def TX4 : u_T := fun k => match k with
  | 0 => ("VersionRows", "records", "LVersionRows$Records;", true)
  | 1 => ("VersionRows", "acts", "LVersionRows$Acts;", true)
  | 2 => ("VersionRows", "leans", "LVersionRows$Leans;", true)
  | _ => ("VersionRows", "batches", "LVersionRows$Batches;", true)
def tyX4 : Nat → FieldType := fun k => match k with
  | 0 => (.object "VersionRows$Records")
  | 1 => (.object "VersionRows$Acts")
  | 2 => (.object "VersionRows$Leans")
  | _ => (.object "VersionRows$Batches")
theorem nmX4 : ∀ a, a < 4 → ∀ b, b < 4 → a ≠ b → (TX4 a).2.1 ≠ (TX4 b).2.1 := by decide +kernel
theorem tyX4_ok : ∀ k, k < 4 → parseFieldDescriptor (TX4 k).2.2.1 = some (tyX4 k) := by decide +kernel
set_option maxRecDepth 100000 in
theorem inX4 : ∀ w ∈ u_ws RX4 TX4 4, w ∈ vr_T := vr_fin (by decide +kernel) (by decide +kernel)
def RX5 : String := "VersionRowsModel"
def TX5 : u_T := fun k => match k with
  | 0 => ("VersionRowsModel", "thrown", "I", false)
  | 1 => ("VersionRowsModel", "records", "I", false)
  | 2 => ("VersionRowsModel", "kinds", "[I", true)
  | 3 => ("VersionRowsModel", "lockers", "[I", true)
  | 4 => ("VersionRowsModel", "untils", "[J", true)
  | 5 => ("VersionRowsModel", "acts", "I", false)
  | 6 => ("VersionRowsModel", "record", "[I", true)
  | 7 => ("VersionRowsModel", "field", "[I", true)
  | 8 => ("VersionRowsModel", "value", "[I", true)
  | 9 => ("VersionRowsModel", "valid", "[J", true)
  | 10 => ("VersionRowsModel", "known", "[J", true)
  | 11 => ("VersionRowsModel", "undone", "[Z", true)
  | 12 => ("VersionRowsModel", "batch", "[I", true)
  | 13 => ("VersionRowsModel", "leans", "[Z", true)
  | _ => ("VersionRowsModel", "batches", "I", false)
def tyX5 : Nat → FieldType := fun k => match k with
  | 0 => .int
  | 1 => .int
  | 2 => (.array .int)
  | 3 => (.array .int)
  | 4 => (.array .long)
  | 5 => .int
  | 6 => (.array .int)
  | 7 => (.array .int)
  | 8 => (.array .int)
  | 9 => (.array .long)
  | 10 => (.array .long)
  | 11 => (.array .boolean)
  | 12 => (.array .int)
  | 13 => (.array .boolean)
  | _ => .int
theorem nmX5 : ∀ a, a < 15 → ∀ b, b < 15 → a ≠ b → (TX5 a).2.1 ≠ (TX5 b).2.1 := by decide +kernel
theorem tyX5_ok : ∀ k, k < 15 → parseFieldDescriptor (TX5 k).2.2.1 = some (tyX5 k) := by decide +kernel
set_option maxRecDepth 100000 in
theorem inX5 : ∀ w ∈ u_ws RX5 TX5 15, w ∈ vr_T := vr_fin (by decide +kernel) (by decide +kernel)
def RL : String := "VersionRowsLaw"
abbrev vwCl : List vw_C := [(RX0, TX0, 8), (RX1, TX1, 2), (RX2, TX2, 1), (RX3, TX3, 4), (RX4, TX4, 4), (RX5, TX5, 15)]
theorem vr_m {c w : Cond} (h : w ∈ vr_T) : w ∈ c :: vr_T := List.mem_cons_of_mem _ h
theorem vr_in {c : Cond} {ws : List Cond} (h : ∀ w ∈ ws, w ∈ vr_T) : ∀ w ∈ ws, w ∈ c :: vr_T := fun w q => List.mem_cons_of_mem _ (h w q)
theorem vr_good0 : GoodIn vr_T vr_T := fun w h => ⟨h, good_of_word (List.mem_filter.mp h).2⟩
theorem vr_goodc {c : Cond} {big : List Cond} (hb : ∀ w ∈ vr_T, w ∈ big) (h : c ∈ vr_T) : GoodIn big (c :: vr_T) := fun w hw => by
  have hq : w ∈ vr_T := (List.mem_cons.mp hw).elim (fun e => e ▸ h) id
  exact ⟨hb w hq, (vr_good0 w hq).2⟩
theorem vr_gV {own C : String} {idx : Nat} {y : MethodName} {c : Cond} {big : List Cond} (hb : ∀ w ∈ vr_T, w ∈ big) (h1 : Cond.methodLink own idx y ∈ vr_T) (h2 : Cond.instanceMethod y ∈ vr_T) (h3 : Cond.selects C y y ∈ vr_T) (h4 : Cond.initialized C ∈ vr_T) (h5 : c ∈ vr_T) : GoodIn big (wsV own idx C y (c :: vr_T)) := fun w hw => by
  have hq : w ∈ vr_T := by
    unfold wsV at hw
    rcases List.mem_append.mp hw with h | h
    · simp only [List.mem_cons, List.not_mem_nil, or_false] at h
      rcases h with rfl | rfl | rfl | rfl
      · exact h1
      · exact h2
      · exact h3
      · exact h4
    · exact (List.mem_cons.mp h).elim (fun e => e ▸ h5) id
  exact ⟨hb w hq, (vr_good0 w hq).2⟩
theorem vr_gS {own : String} {idx : Nat} {y : MethodName} {c : Cond} {big : List Cond} (hb : ∀ w ∈ vr_T, w ∈ big) (h1 : Cond.methodLink own idx y ∈ vr_T) (h2 : Cond.static y ∈ vr_T) (h4 : Cond.initialized own ∈ vr_T) (h5 : c ∈ vr_T) : GoodIn big (wsS own idx y (c :: vr_T)) := fun w hw => by
  have hq : w ∈ vr_T := by
    unfold wsS at hw
    rcases List.mem_append.mp hw with h | h
    · simp only [List.mem_cons, List.not_mem_nil, or_false] at h
      rcases h with rfl | rfl | rfl
      · exact h1
      · exact h2
      · exact h4
    · exact (List.mem_cons.mp h).elim (fun e => e ▸ h5) id
  exact ⟨hb w hq, (vr_good0 w hq).2⟩
theorem vr_hbc {c : Cond} : ∀ w ∈ vr_T, w ∈ c :: vr_T := fun _ h => List.mem_cons_of_mem _ h
theorem vr_hb0 : ∀ w ∈ vr_T, w ∈ vr_T := fun _ h => h
abbrev cX4_init : ByteArray := prog_1_method_1_code
def yX4_init : MethodName := ⟨RX4, "<init>", "()V"⟩
abbrev wsX4_init : List Cond := .code yX4_init cX4_init 1 none :: vr_T
set_option maxRecDepth 100000 in
theorem cdX4_init : Cond.code yX4_init cX4_init 1 none ∈ vr_T := vr_f (List.mem_of_getElem? (i := 31) rfl) rfl
set_option maxRecDepth 100000 in
theorem imX4_init : Cond.instanceMethod yX4_init ∈ vr_T := vr_f (List.mem_of_getElem? (i := 30) (by decide +kernel)) rfl
abbrev cX3_init : ByteArray := prog_5_method_1_code
def yX3_init : MethodName := ⟨RX3, "<init>", "()V"⟩
abbrev wsX3_init : List Cond := .code yX3_init cX3_init 1 none :: vr_T
set_option maxRecDepth 100000 in
theorem cdX3_init : Cond.code yX3_init cX3_init 1 none ∈ vr_T := vr_f (List.mem_of_getElem? (i := 39) rfl) rfl
set_option maxRecDepth 100000 in
theorem imX3_init : Cond.instanceMethod yX3_init ∈ vr_T := vr_f (List.mem_of_getElem? (i := 38) (by decide +kernel)) rfl
abbrev cX0_init : ByteArray := prog_2_method_1_code
def yX0_init : MethodName := ⟨RX0, "<init>", "()V"⟩
abbrev wsX0_init : List Cond := .code yX0_init cX0_init 1 none :: vr_T
set_option maxRecDepth 100000 in
theorem cdX0_init : Cond.code yX0_init cX0_init 1 none ∈ vr_T := vr_f (List.mem_of_getElem? (i := 60) rfl) rfl
set_option maxRecDepth 100000 in
theorem imX0_init : Cond.instanceMethod yX0_init ∈ vr_T := vr_f (List.mem_of_getElem? (i := 59) (by decide +kernel)) rfl
abbrev cX2_init : ByteArray := prog_4_method_1_code
def yX2_init : MethodName := ⟨RX2, "<init>", "()V"⟩
abbrev wsX2_init : List Cond := .code yX2_init cX2_init 1 none :: vr_T
set_option maxRecDepth 100000 in
theorem cdX2_init : Cond.code yX2_init cX2_init 1 none ∈ vr_T := vr_f (List.mem_of_getElem? (i := 92) rfl) rfl
set_option maxRecDepth 100000 in
theorem imX2_init : Cond.instanceMethod yX2_init ∈ vr_T := vr_f (List.mem_of_getElem? (i := 91) (by decide +kernel)) rfl
abbrev cX1_init : ByteArray := prog_3_method_1_code
def yX1_init : MethodName := ⟨RX1, "<init>", "()V"⟩
abbrev wsX1_init : List Cond := .code yX1_init cX1_init 1 none :: vr_T
set_option maxRecDepth 100000 in
theorem cdX1_init : Cond.code yX1_init cX1_init 1 none ∈ vr_T := vr_f (List.mem_of_getElem? (i := 102) rfl) rfl
set_option maxRecDepth 100000 in
theorem imX1_init : Cond.instanceMethod yX1_init ∈ vr_T := vr_f (List.mem_of_getElem? (i := 101) (by decide +kernel)) rfl
abbrev cX4_record : ByteArray := prog_1_method_2_code
def yX4_record : MethodName := ⟨RX4, "record", "(I)I"⟩
abbrev wsX4_record : List Cond := .code yX4_record cX4_record 2 (some .int) :: vr_T
set_option maxRecDepth 100000 in
theorem cdX4_record : Cond.code yX4_record cX4_record 2 (some .int) ∈ vr_T := vr_f (List.mem_of_getElem? (i := 127) rfl) rfl
set_option maxRecDepth 100000 in
theorem imX4_record : Cond.instanceMethod yX4_record ∈ vr_T := vr_f (List.mem_of_getElem? (i := 125) (by decide +kernel)) rfl
set_option maxRecDepth 100000 in
theorem seX4_record : Cond.selects RX4 yX4_record yX4_record ∈ vr_T := vr_f (List.mem_of_getElem? (i := 126) (by decide +kernel)) rfl
abbrev cX3_add : ByteArray := prog_5_method_3_code
def yX3_add : MethodName := ⟨RX3, "add", "(I)I"⟩
abbrev wsX3_add : List Cond := .code yX3_add cX3_add 2 (some .int) :: vr_T
set_option maxRecDepth 100000 in
theorem cdX3_add : Cond.code yX3_add cX3_add 2 (some .int) ∈ vr_T := vr_f (List.mem_of_getElem? (i := 131) rfl) rfl
set_option maxRecDepth 100000 in
theorem imX3_add : Cond.instanceMethod yX3_add ∈ vr_T := vr_f (List.mem_of_getElem? (i := 129) (by decide +kernel)) rfl
set_option maxRecDepth 100000 in
theorem seX3_add : Cond.selects RX3 yX3_add yX3_add ∈ vr_T := vr_f (List.mem_of_getElem? (i := 130) (by decide +kernel)) rfl
abbrev cX4_act : ByteArray := prog_1_method_3_code
def yX4_act : MethodName := ⟨RX4, "act", "(IIJJJ)I"⟩
abbrev wsX4_act : List Cond := .code yX4_act cX4_act 11 (some .int) :: vr_T
set_option maxRecDepth 100000 in
theorem cdX4_act : Cond.code yX4_act cX4_act 11 (some .int) ∈ vr_T := vr_f (List.mem_of_getElem? (i := 136) rfl) rfl
set_option maxRecDepth 100000 in
theorem imX4_act : Cond.instanceMethod yX4_act ∈ vr_T := vr_f (List.mem_of_getElem? (i := 134) (by decide +kernel)) rfl
set_option maxRecDepth 100000 in
theorem seX4_act : Cond.selects RX4 yX4_act yX4_act ∈ vr_T := vr_f (List.mem_of_getElem? (i := 135) (by decide +kernel)) rfl
abbrev cX4_hasField : ByteArray := prog_1_method_13_code
def yX4_hasField : MethodName := ⟨RX4, "hasField", "(II)Z"⟩
abbrev wsX4_hasField : List Cond := .code yX4_hasField cX4_hasField 3 (some .boolean) :: vr_T
set_option maxRecDepth 100000 in
theorem cdX4_hasField : Cond.code yX4_hasField cX4_hasField 3 (some .boolean) ∈ vr_T := vr_f (List.mem_of_getElem? (i := 140) rfl) rfl
set_option maxRecDepth 100000 in
theorem imX4_hasField : Cond.instanceMethod yX4_hasField ∈ vr_T := vr_f (List.mem_of_getElem? (i := 139) (by decide +kernel)) rfl
set_option maxRecDepth 100000 in
theorem seX4_hasField : Cond.selects RX4 yX4_hasField yX4_hasField ∈ vr_T := vr_f (List.mem_of_getElem? (i := 0) (by decide +kernel)) rfl
abbrev cX3_has : ByteArray := prog_5_method_2_code
def yX3_has : MethodName := ⟨RX3, "has", "(I)Z"⟩
abbrev wsX3_has : List Cond := .code yX3_has cX3_has 2 (some .boolean) :: vr_T
set_option maxRecDepth 100000 in
theorem cdX3_has : Cond.code yX3_has cX3_has 2 (some .boolean) ∈ vr_T := vr_f (List.mem_of_getElem? (i := 144) rfl) rfl
set_option maxRecDepth 100000 in
theorem imX3_has : Cond.instanceMethod yX3_has ∈ vr_T := vr_f (List.mem_of_getElem? (i := 142) (by decide +kernel)) rfl
set_option maxRecDepth 100000 in
theorem seX3_has : Cond.selects RX3 yX3_has yX3_has ∈ vr_T := vr_f (List.mem_of_getElem? (i := 143) (by decide +kernel)) rfl
abbrev cX4_isLocked : ByteArray := prog_1_method_14_code
def yX4_isLocked : MethodName := ⟨RX4, "isLocked", "(I)Z"⟩
abbrev wsX4_isLocked : List Cond := .code yX4_isLocked cX4_isLocked 2 (some .boolean) :: vr_T
set_option maxRecDepth 100000 in
theorem cdX4_isLocked : Cond.code yX4_isLocked cX4_isLocked 2 (some .boolean) ∈ vr_T := vr_f (List.mem_of_getElem? (i := 149) rfl) rfl
set_option maxRecDepth 100000 in
theorem imX4_isLocked : Cond.instanceMethod yX4_isLocked ∈ vr_T := vr_f (List.mem_of_getElem? (i := 148) (by decide +kernel)) rfl
set_option maxRecDepth 100000 in
theorem seX4_isLocked : Cond.selects RX4 yX4_isLocked yX4_isLocked ∈ vr_T := vr_f (List.mem_of_getElem? (i := 1) (by decide +kernel)) rfl
abbrev cX0_now : ByteArray := prog_2_method_7_code
def yX0_now : MethodName := ⟨RX0, "now", "()J"⟩
abbrev wsX0_now : List Cond := .code yX0_now cX0_now 1 (some .long) :: vr_T
set_option maxRecDepth 100000 in
theorem cdX0_now : Cond.code yX0_now cX0_now 1 (some .long) ∈ vr_T := vr_f (List.mem_of_getElem? (i := 153) rfl) rfl
set_option maxRecDepth 100000 in
theorem imX0_now : Cond.instanceMethod yX0_now ∈ vr_T := vr_f (List.mem_of_getElem? (i := 151) (by decide +kernel)) rfl
set_option maxRecDepth 100000 in
theorem seX0_now : Cond.selects RX0 yX0_now yX0_now ∈ vr_T := vr_f (List.mem_of_getElem? (i := 152) (by decide +kernel)) rfl
abbrev cX3_until : ByteArray := prog_5_method_6_code
def yX3_until : MethodName := ⟨RX3, "until", "(I)J"⟩
abbrev wsX3_until : List Cond := .code yX3_until cX3_until 2 (some .long) :: vr_T
set_option maxRecDepth 100000 in
theorem cdX3_until : Cond.code yX3_until cX3_until 2 (some .long) ∈ vr_T := vr_f (List.mem_of_getElem? (i := 158) rfl) rfl
set_option maxRecDepth 100000 in
theorem imX3_until : Cond.instanceMethod yX3_until ∈ vr_T := vr_f (List.mem_of_getElem? (i := 156) (by decide +kernel)) rfl
set_option maxRecDepth 100000 in
theorem seX3_until : Cond.selects RX3 yX3_until yX3_until ∈ vr_T := vr_f (List.mem_of_getElem? (i := 157) (by decide +kernel)) rfl
abbrev cX4_isRefusedDeletion : ByteArray := prog_1_method_15_code
def yX4_isRefusedDeletion : MethodName := ⟨RX4, "isRefusedDeletion", "(IIJ)Z"⟩
abbrev wsX4_isRefusedDeletion : List Cond := .code yX4_isRefusedDeletion cX4_isRefusedDeletion 5 (some .boolean) :: vr_T
set_option maxRecDepth 100000 in
theorem cdX4_isRefusedDeletion : Cond.code yX4_isRefusedDeletion cX4_isRefusedDeletion 5 (some .boolean) ∈ vr_T := vr_f (List.mem_of_getElem? (i := 162) rfl) rfl
set_option maxRecDepth 100000 in
theorem imX4_isRefusedDeletion : Cond.instanceMethod yX4_isRefusedDeletion ∈ vr_T := vr_f (List.mem_of_getElem? (i := 161) (by decide +kernel)) rfl
set_option maxRecDepth 100000 in
theorem seX4_isRefusedDeletion : Cond.selects RX4 yX4_isRefusedDeletion yX4_isRefusedDeletion ∈ vr_T := vr_f (List.mem_of_getElem? (i := 2) (by decide +kernel)) rfl
abbrev cX3_kind : ByteArray := prog_5_method_4_code
def yX3_kind : MethodName := ⟨RX3, "kind", "(I)I"⟩
abbrev wsX3_kind : List Cond := .code yX3_kind cX3_kind 2 (some .int) :: vr_T
set_option maxRecDepth 100000 in
theorem cdX3_kind : Cond.code yX3_kind cX3_kind 2 (some .int) ∈ vr_T := vr_f (List.mem_of_getElem? (i := 166) rfl) rfl
set_option maxRecDepth 100000 in
theorem imX3_kind : Cond.instanceMethod yX3_kind ∈ vr_T := vr_f (List.mem_of_getElem? (i := 164) (by decide +kernel)) rfl
set_option maxRecDepth 100000 in
theorem seX3_kind : Cond.selects RX3 yX3_kind yX3_kind ∈ vr_T := vr_f (List.mem_of_getElem? (i := 165) (by decide +kernel)) rfl
abbrev cX0_findCounting : ByteArray := prog_2_method_12_code
def yX0_findCounting : MethodName := ⟨RX0, "findCounting", "(IIIJJ)I"⟩
abbrev wsX0_findCounting : List Cond := .code yX0_findCounting cX0_findCounting 9 (some .int) :: vr_T
set_option maxRecDepth 100000 in
theorem cdX0_findCounting : Cond.code yX0_findCounting cX0_findCounting 9 (some .int) ∈ vr_T := vr_f (List.mem_of_getElem? (i := 170) rfl) rfl
set_option maxRecDepth 100000 in
theorem imX0_findCounting : Cond.instanceMethod yX0_findCounting ∈ vr_T := vr_f (List.mem_of_getElem? (i := 168) (by decide +kernel)) rfl
set_option maxRecDepth 100000 in
theorem seX0_findCounting : Cond.selects RX0 yX0_findCounting yX0_findCounting ∈ vr_T := vr_f (List.mem_of_getElem? (i := 169) (by decide +kernel)) rfl
abbrev cX0_isOf : ByteArray := prog_2_method_16_code
def yX0_isOf : MethodName := ⟨RX0, "isOf", "(III)Z"⟩
abbrev wsX0_isOf : List Cond := .code yX0_isOf cX0_isOf 4 (some .boolean) :: vr_T
set_option maxRecDepth 100000 in
theorem cdX0_isOf : Cond.code yX0_isOf cX0_isOf 4 (some .boolean) ∈ vr_T := vr_f (List.mem_of_getElem? (i := 174) rfl) rfl
set_option maxRecDepth 100000 in
theorem imX0_isOf : Cond.instanceMethod yX0_isOf ∈ vr_T := vr_f (List.mem_of_getElem? (i := 173) (by decide +kernel)) rfl
set_option maxRecDepth 100000 in
theorem seX0_isOf : Cond.selects RX0 yX0_isOf yX0_isOf ∈ vr_T := vr_f (List.mem_of_getElem? (i := 3) (by decide +kernel)) rfl
abbrev cX0_add : ByteArray := prog_2_method_9_code
def yX0_add : MethodName := ⟨RX0, "add", "(IIIJJ)I"⟩
abbrev wsX0_add : List Cond := .code yX0_add cX0_add 8 (some .int) :: vr_T
set_option maxRecDepth 100000 in
theorem cdX0_add : Cond.code yX0_add cX0_add 8 (some .int) ∈ vr_T := vr_f (List.mem_of_getElem? (i := 178) rfl) rfl
set_option maxRecDepth 100000 in
theorem imX0_add : Cond.instanceMethod yX0_add ∈ vr_T := vr_f (List.mem_of_getElem? (i := 176) (by decide +kernel)) rfl
set_option maxRecDepth 100000 in
theorem seX0_add : Cond.selects RX0 yX0_add yX0_add ∈ vr_T := vr_f (List.mem_of_getElem? (i := 177) (by decide +kernel)) rfl
abbrev cX0_putNewestInOrder : ByteArray := prog_2_method_10_code
def yX0_putNewestInOrder : MethodName := ⟨RX0, "putNewestInOrder", "()V"⟩
abbrev wsX0_putNewestInOrder : List Cond := .code yX0_putNewestInOrder cX0_putNewestInOrder 2 none :: vr_T
set_option maxRecDepth 100000 in
theorem cdX0_putNewestInOrder : Cond.code yX0_putNewestInOrder cX0_putNewestInOrder 2 none ∈ vr_T := vr_f (List.mem_of_getElem? (i := 182) rfl) rfl
set_option maxRecDepth 100000 in
theorem imX0_putNewestInOrder : Cond.instanceMethod yX0_putNewestInOrder ∈ vr_T := vr_f (List.mem_of_getElem? (i := 181) (by decide +kernel)) rfl
set_option maxRecDepth 100000 in
theorem seX0_putNewestInOrder : Cond.selects RX0 yX0_putNewestInOrder yX0_putNewestInOrder ∈ vr_T := vr_f (List.mem_of_getElem? (i := 4) (by decide +kernel)) rfl
abbrev cX0_isBehind : ByteArray := prog_2_method_11_code
def yX0_isBehind : MethodName := ⟨RX0, "isBehind", "(II)Z"⟩
abbrev wsX0_isBehind : List Cond := .code yX0_isBehind cX0_isBehind 3 (some .boolean) :: vr_T
set_option maxRecDepth 100000 in
theorem cdX0_isBehind : Cond.code yX0_isBehind cX0_isBehind 3 (some .boolean) ∈ vr_T := vr_f (List.mem_of_getElem? (i := 186) rfl) rfl
set_option maxRecDepth 100000 in
theorem imX0_isBehind : Cond.instanceMethod yX0_isBehind ∈ vr_T := vr_f (List.mem_of_getElem? (i := 185) (by decide +kernel)) rfl
set_option maxRecDepth 100000 in
theorem seX0_isBehind : Cond.selects RX0 yX0_isBehind yX0_isBehind ∈ vr_T := vr_f (List.mem_of_getElem? (i := 5) (by decide +kernel)) rfl
abbrev cX4_at : ByteArray := prog_1_method_4_code
def yX4_at : MethodName := ⟨RX4, "at", "(IIJ)I"⟩
abbrev wsX4_at : List Cond := .code yX4_at cX4_at 6 (some .int) :: vr_T
set_option maxRecDepth 100000 in
theorem cdX4_at : Cond.code yX4_at cX4_at 6 (some .int) ∈ vr_T := vr_f (List.mem_of_getElem? (i := 190) rfl) rfl
set_option maxRecDepth 100000 in
theorem imX4_at : Cond.instanceMethod yX4_at ∈ vr_T := vr_f (List.mem_of_getElem? (i := 188) (by decide +kernel)) rfl
set_option maxRecDepth 100000 in
theorem seX4_at : Cond.selects RX4 yX4_at yX4_at ∈ vr_T := vr_f (List.mem_of_getElem? (i := 189) (by decide +kernel)) rfl
abbrev cX0_lastCounting : ByteArray := prog_2_method_13_code
def yX0_lastCounting : MethodName := ⟨RX0, "lastCounting", "(IIJ)I"⟩
abbrev wsX0_lastCounting : List Cond := .code yX0_lastCounting cX0_lastCounting 7 (some .int) :: vr_T
set_option maxRecDepth 100000 in
theorem cdX0_lastCounting : Cond.code yX0_lastCounting cX0_lastCounting 7 (some .int) ∈ vr_T := vr_f (List.mem_of_getElem? (i := 194) rfl) rfl
set_option maxRecDepth 100000 in
theorem imX0_lastCounting : Cond.instanceMethod yX0_lastCounting ∈ vr_T := vr_f (List.mem_of_getElem? (i := 192) (by decide +kernel)) rfl
set_option maxRecDepth 100000 in
theorem seX0_lastCounting : Cond.selects RX0 yX0_lastCounting yX0_lastCounting ∈ vr_T := vr_f (List.mem_of_getElem? (i := 193) (by decide +kernel)) rfl
abbrev cX0_value : ByteArray := prog_2_method_5_code
def yX0_value : MethodName := ⟨RX0, "value", "(I)I"⟩
abbrev wsX0_value : List Cond := .code yX0_value cX0_value 2 (some .int) :: vr_T
set_option maxRecDepth 100000 in
theorem cdX0_value : Cond.code yX0_value cX0_value 2 (some .int) ∈ vr_T := vr_f (List.mem_of_getElem? (i := 198) rfl) rfl
set_option maxRecDepth 100000 in
theorem imX0_value : Cond.instanceMethod yX0_value ∈ vr_T := vr_f (List.mem_of_getElem? (i := 196) (by decide +kernel)) rfl
set_option maxRecDepth 100000 in
theorem seX0_value : Cond.selects RX0 yX0_value yX0_value ∈ vr_T := vr_f (List.mem_of_getElem? (i := 197) (by decide +kernel)) rfl
abbrev cX4_stale : ByteArray := prog_1_method_5_code
def yX4_stale : MethodName := ⟨RX4, "stale", "(IJI)I"⟩
abbrev wsX4_stale : List Cond := .code yX4_stale cX4_stale 7 (some .int) :: vr_T
set_option maxRecDepth 100000 in
theorem cdX4_stale : Cond.code yX4_stale cX4_stale 7 (some .int) ∈ vr_T := vr_f (List.mem_of_getElem? (i := 202) rfl) rfl
set_option maxRecDepth 100000 in
theorem imX4_stale : Cond.instanceMethod yX4_stale ∈ vr_T := vr_f (List.mem_of_getElem? (i := 200) (by decide +kernel)) rfl
set_option maxRecDepth 100000 in
theorem seX4_stale : Cond.selects RX4 yX4_stale yX4_stale ∈ vr_T := vr_f (List.mem_of_getElem? (i := 201) (by decide +kernel)) rfl
abbrev cX0_known : ByteArray := prog_2_method_6_code
def yX0_known : MethodName := ⟨RX0, "known", "(I)J"⟩
abbrev wsX0_known : List Cond := .code yX0_known cX0_known 2 (some .long) :: vr_T
set_option maxRecDepth 100000 in
theorem cdX0_known : Cond.code yX0_known cX0_known 2 (some .long) ∈ vr_T := vr_f (List.mem_of_getElem? (i := 206) rfl) rfl
set_option maxRecDepth 100000 in
theorem imX0_known : Cond.instanceMethod yX0_known ∈ vr_T := vr_f (List.mem_of_getElem? (i := 204) (by decide +kernel)) rfl
set_option maxRecDepth 100000 in
theorem seX0_known : Cond.selects RX0 yX0_known yX0_known ∈ vr_T := vr_f (List.mem_of_getElem? (i := 205) (by decide +kernel)) rfl
abbrev cX4_undo : ByteArray := prog_1_method_6_code
def yX4_undo : MethodName := ⟨RX4, "undo", "(I)I"⟩
abbrev wsX4_undo : List Cond := .code yX4_undo cX4_undo 2 (some .int) :: vr_T
set_option maxRecDepth 100000 in
theorem cdX4_undo : Cond.code yX4_undo cX4_undo 2 (some .int) ∈ vr_T := vr_f (List.mem_of_getElem? (i := 210) rfl) rfl
set_option maxRecDepth 100000 in
theorem imX4_undo : Cond.instanceMethod yX4_undo ∈ vr_T := vr_f (List.mem_of_getElem? (i := 208) (by decide +kernel)) rfl
set_option maxRecDepth 100000 in
theorem seX4_undo : Cond.selects RX4 yX4_undo yX4_undo ∈ vr_T := vr_f (List.mem_of_getElem? (i := 209) (by decide +kernel)) rfl
abbrev cX0_has : ByteArray := prog_2_method_2_code
def yX0_has : MethodName := ⟨RX0, "has", "(I)Z"⟩
abbrev wsX0_has : List Cond := .code yX0_has cX0_has 2 (some .boolean) :: vr_T
set_option maxRecDepth 100000 in
theorem cdX0_has : Cond.code yX0_has cX0_has 2 (some .boolean) ∈ vr_T := vr_f (List.mem_of_getElem? (i := 214) rfl) rfl
set_option maxRecDepth 100000 in
theorem imX0_has : Cond.instanceMethod yX0_has ∈ vr_T := vr_f (List.mem_of_getElem? (i := 212) (by decide +kernel)) rfl
set_option maxRecDepth 100000 in
theorem seX0_has : Cond.selects RX0 yX0_has yX0_has ∈ vr_T := vr_f (List.mem_of_getElem? (i := 213) (by decide +kernel)) rfl
abbrev cX0_counts : ByteArray := prog_2_method_4_code
def yX0_counts : MethodName := ⟨RX0, "counts", "(I)Z"⟩
abbrev wsX0_counts : List Cond := .code yX0_counts cX0_counts 2 (some .boolean) :: vr_T
set_option maxRecDepth 100000 in
theorem cdX0_counts : Cond.code yX0_counts cX0_counts 2 (some .boolean) ∈ vr_T := vr_f (List.mem_of_getElem? (i := 218) rfl) rfl
set_option maxRecDepth 100000 in
theorem imX0_counts : Cond.instanceMethod yX0_counts ∈ vr_T := vr_f (List.mem_of_getElem? (i := 216) (by decide +kernel)) rfl
set_option maxRecDepth 100000 in
theorem seX0_counts : Cond.selects RX0 yX0_counts yX0_counts ∈ vr_T := vr_f (List.mem_of_getElem? (i := 217) (by decide +kernel)) rfl
abbrev cX4_isLeanedOn : ByteArray := prog_1_method_16_code
def yX4_isLeanedOn : MethodName := ⟨RX4, "isLeanedOn", "(I)Z"⟩
abbrev wsX4_isLeanedOn : List Cond := .code yX4_isLeanedOn cX4_isLeanedOn 3 (some .boolean) :: vr_T
set_option maxRecDepth 100000 in
theorem cdX4_isLeanedOn : Cond.code yX4_isLeanedOn cX4_isLeanedOn 3 (some .boolean) ∈ vr_T := vr_f (List.mem_of_getElem? (i := 222) rfl) rfl
set_option maxRecDepth 100000 in
theorem imX4_isLeanedOn : Cond.instanceMethod yX4_isLeanedOn ∈ vr_T := vr_f (List.mem_of_getElem? (i := 221) (by decide +kernel)) rfl
set_option maxRecDepth 100000 in
theorem seX4_isLeanedOn : Cond.selects RX4 yX4_isLeanedOn yX4_isLeanedOn ∈ vr_T := vr_f (List.mem_of_getElem? (i := 6) (by decide +kernel)) rfl
abbrev cX0_count : ByteArray := prog_2_method_3_code
def yX0_count : MethodName := ⟨RX0, "count", "()I"⟩
abbrev wsX0_count : List Cond := .code yX0_count cX0_count 1 (some .int) :: vr_T
set_option maxRecDepth 100000 in
theorem cdX0_count : Cond.code yX0_count cX0_count 1 (some .int) ∈ vr_T := vr_f (List.mem_of_getElem? (i := 226) rfl) rfl
set_option maxRecDepth 100000 in
theorem imX0_count : Cond.instanceMethod yX0_count ∈ vr_T := vr_f (List.mem_of_getElem? (i := 224) (by decide +kernel)) rfl
set_option maxRecDepth 100000 in
theorem seX0_count : Cond.selects RX0 yX0_count yX0_count ∈ vr_T := vr_f (List.mem_of_getElem? (i := 225) (by decide +kernel)) rfl
abbrev cX2_has : ByteArray := prog_4_method_2_code
def yX2_has : MethodName := ⟨RX2, "has", "(II)Z"⟩
abbrev wsX2_has : List Cond := .code yX2_has cX2_has 3 (some .boolean) :: vr_T
set_option maxRecDepth 100000 in
theorem cdX2_has : Cond.code yX2_has cX2_has 3 (some .boolean) ∈ vr_T := vr_f (List.mem_of_getElem? (i := 230) rfl) rfl
set_option maxRecDepth 100000 in
theorem imX2_has : Cond.instanceMethod yX2_has ∈ vr_T := vr_f (List.mem_of_getElem? (i := 228) (by decide +kernel)) rfl
set_option maxRecDepth 100000 in
theorem seX2_has : Cond.selects RX2 yX2_has yX2_has ∈ vr_T := vr_f (List.mem_of_getElem? (i := 229) (by decide +kernel)) rfl
abbrev cX2_wordOf : ByteArray := prog_4_method_4_code
def yX2_wordOf : MethodName := ⟨RX2, "wordOf", "(II)I"⟩
abbrev wsX2_wordOf : List Cond := .code yX2_wordOf cX2_wordOf 2 (some .int) :: vr_T
set_option maxRecDepth 100000 in
theorem cdX2_wordOf : Cond.code yX2_wordOf cX2_wordOf 2 (some .int) ∈ vr_T := vr_f (List.mem_of_getElem? (i := 233) rfl) rfl
set_option maxRecDepth 100000 in
theorem stX2_wordOf : Cond.static yX2_wordOf ∈ vr_T := vr_f (List.mem_of_getElem? (i := 232) (by decide +kernel)) rfl
abbrev cX2_bitOf : ByteArray := prog_4_method_5_code
def yX2_bitOf : MethodName := ⟨RX2, "bitOf", "(I)J"⟩
abbrev wsX2_bitOf : List Cond := .code yX2_bitOf cX2_bitOf 1 (some .long) :: vr_T
set_option maxRecDepth 100000 in
theorem cdX2_bitOf : Cond.code yX2_bitOf cX2_bitOf 1 (some .long) ∈ vr_T := vr_f (List.mem_of_getElem? (i := 236) rfl) rfl
set_option maxRecDepth 100000 in
theorem stX2_bitOf : Cond.static yX2_bitOf ∈ vr_T := vr_f (List.mem_of_getElem? (i := 235) (by decide +kernel)) rfl
abbrev cX0_setUndone : ByteArray := prog_2_method_8_code
def yX0_setUndone : MethodName := ⟨RX0, "setUndone", "(I)V"⟩
abbrev wsX0_setUndone : List Cond := .code yX0_setUndone cX0_setUndone 2 none :: vr_T
set_option maxRecDepth 100000 in
theorem cdX0_setUndone : Cond.code yX0_setUndone cX0_setUndone 2 none ∈ vr_T := vr_f (List.mem_of_getElem? (i := 240) rfl) rfl
set_option maxRecDepth 100000 in
theorem imX0_setUndone : Cond.instanceMethod yX0_setUndone ∈ vr_T := vr_f (List.mem_of_getElem? (i := 238) (by decide +kernel)) rfl
set_option maxRecDepth 100000 in
theorem seX0_setUndone : Cond.selects RX0 yX0_setUndone yX0_setUndone ∈ vr_T := vr_f (List.mem_of_getElem? (i := 239) (by decide +kernel)) rfl
abbrev cX4_lean : ByteArray := prog_1_method_7_code
def yX4_lean : MethodName := ⟨RX4, "lean", "(II)I"⟩
abbrev wsX4_lean : List Cond := .code yX4_lean cX4_lean 3 (some .int) :: vr_T
set_option maxRecDepth 100000 in
theorem cdX4_lean : Cond.code yX4_lean cX4_lean 3 (some .int) ∈ vr_T := vr_f (List.mem_of_getElem? (i := 244) rfl) rfl
set_option maxRecDepth 100000 in
theorem imX4_lean : Cond.instanceMethod yX4_lean ∈ vr_T := vr_f (List.mem_of_getElem? (i := 242) (by decide +kernel)) rfl
set_option maxRecDepth 100000 in
theorem seX4_lean : Cond.selects RX4 yX4_lean yX4_lean ∈ vr_T := vr_f (List.mem_of_getElem? (i := 243) (by decide +kernel)) rfl
abbrev cX2_add : ByteArray := prog_4_method_3_code
def yX2_add : MethodName := ⟨RX2, "add", "(II)V"⟩
abbrev wsX2_add : List Cond := .code yX2_add cX2_add 3 none :: vr_T
set_option maxRecDepth 100000 in
theorem cdX2_add : Cond.code yX2_add cX2_add 3 none ∈ vr_T := vr_f (List.mem_of_getElem? (i := 248) rfl) rfl
set_option maxRecDepth 100000 in
theorem imX2_add : Cond.instanceMethod yX2_add ∈ vr_T := vr_f (List.mem_of_getElem? (i := 246) (by decide +kernel)) rfl
set_option maxRecDepth 100000 in
theorem seX2_add : Cond.selects RX2 yX2_add yX2_add ∈ vr_T := vr_f (List.mem_of_getElem? (i := 247) (by decide +kernel)) rfl
abbrev cX4_lock : ByteArray := prog_1_method_8_code
def yX4_lock : MethodName := ⟨RX4, "lock", "(IIJ)I"⟩
abbrev wsX4_lock : List Cond := .code yX4_lock cX4_lock 5 (some .int) :: vr_T
set_option maxRecDepth 100000 in
theorem cdX4_lock : Cond.code yX4_lock cX4_lock 5 (some .int) ∈ vr_T := vr_f (List.mem_of_getElem? (i := 252) rfl) rfl
set_option maxRecDepth 100000 in
theorem imX4_lock : Cond.instanceMethod yX4_lock ∈ vr_T := vr_f (List.mem_of_getElem? (i := 250) (by decide +kernel)) rfl
set_option maxRecDepth 100000 in
theorem seX4_lock : Cond.selects RX4 yX4_lock yX4_lock ∈ vr_T := vr_f (List.mem_of_getElem? (i := 251) (by decide +kernel)) rfl
abbrev cX3_locker : ByteArray := prog_5_method_5_code
def yX3_locker : MethodName := ⟨RX3, "locker", "(I)I"⟩
abbrev wsX3_locker : List Cond := .code yX3_locker cX3_locker 2 (some .int) :: vr_T
set_option maxRecDepth 100000 in
theorem cdX3_locker : Cond.code yX3_locker cX3_locker 2 (some .int) ∈ vr_T := vr_f (List.mem_of_getElem? (i := 256) rfl) rfl
set_option maxRecDepth 100000 in
theorem imX3_locker : Cond.instanceMethod yX3_locker ∈ vr_T := vr_f (List.mem_of_getElem? (i := 254) (by decide +kernel)) rfl
set_option maxRecDepth 100000 in
theorem seX3_locker : Cond.selects RX3 yX3_locker yX3_locker ∈ vr_T := vr_f (List.mem_of_getElem? (i := 255) (by decide +kernel)) rfl
abbrev cX3_setLock : ByteArray := prog_5_method_7_code
def yX3_setLock : MethodName := ⟨RX3, "setLock", "(IIJ)V"⟩
abbrev wsX3_setLock : List Cond := .code yX3_setLock cX3_setLock 5 none :: vr_T
set_option maxRecDepth 100000 in
theorem cdX3_setLock : Cond.code yX3_setLock cX3_setLock 5 none ∈ vr_T := vr_f (List.mem_of_getElem? (i := 260) rfl) rfl
set_option maxRecDepth 100000 in
theorem imX3_setLock : Cond.instanceMethod yX3_setLock ∈ vr_T := vr_f (List.mem_of_getElem? (i := 258) (by decide +kernel)) rfl
set_option maxRecDepth 100000 in
theorem seX3_setLock : Cond.selects RX3 yX3_setLock yX3_setLock ∈ vr_T := vr_f (List.mem_of_getElem? (i := 259) (by decide +kernel)) rfl
abbrev cX4_batch : ByteArray := prog_1_method_9_code
def yX4_batch : MethodName := ⟨RX4, "batch", "(II)I"⟩
abbrev wsX4_batch : List Cond := .code yX4_batch cX4_batch 3 (some .int) :: vr_T
set_option maxRecDepth 100000 in
theorem cdX4_batch : Cond.code yX4_batch cX4_batch 3 (some .int) ∈ vr_T := vr_f (List.mem_of_getElem? (i := 264) rfl) rfl
set_option maxRecDepth 100000 in
theorem imX4_batch : Cond.instanceMethod yX4_batch ∈ vr_T := vr_f (List.mem_of_getElem? (i := 262) (by decide +kernel)) rfl
set_option maxRecDepth 100000 in
theorem seX4_batch : Cond.selects RX4 yX4_batch yX4_batch ∈ vr_T := vr_f (List.mem_of_getElem? (i := 263) (by decide +kernel)) rfl
abbrev cX1_add : ByteArray := prog_3_method_4_code
def yX1_add : MethodName := ⟨RX1, "add", "(II)I"⟩
abbrev wsX1_add : List Cond := .code yX1_add cX1_add 4 (some .int) :: vr_T
set_option maxRecDepth 100000 in
theorem cdX1_add : Cond.code yX1_add cX1_add 4 (some .int) ∈ vr_T := vr_f (List.mem_of_getElem? (i := 268) rfl) rfl
set_option maxRecDepth 100000 in
theorem imX1_add : Cond.instanceMethod yX1_add ∈ vr_T := vr_f (List.mem_of_getElem? (i := 266) (by decide +kernel)) rfl
set_option maxRecDepth 100000 in
theorem seX1_add : Cond.selects RX1 yX1_add yX1_add ∈ vr_T := vr_f (List.mem_of_getElem? (i := 267) (by decide +kernel)) rfl
abbrev cX1_isAnyTaken : ByteArray := prog_3_method_5_code
def yX1_isAnyTaken : MethodName := ⟨RX1, "isAnyTaken", "(II)Z"⟩
abbrev wsX1_isAnyTaken : List Cond := .code yX1_isAnyTaken cX1_isAnyTaken 4 (some .boolean) :: vr_T
set_option maxRecDepth 100000 in
theorem cdX1_isAnyTaken : Cond.code yX1_isAnyTaken cX1_isAnyTaken 4 (some .boolean) ∈ vr_T := vr_f (List.mem_of_getElem? (i := 272) rfl) rfl
set_option maxRecDepth 100000 in
theorem imX1_isAnyTaken : Cond.instanceMethod yX1_isAnyTaken ∈ vr_T := vr_f (List.mem_of_getElem? (i := 271) (by decide +kernel)) rfl
set_option maxRecDepth 100000 in
theorem seX1_isAnyTaken : Cond.selects RX1 yX1_isAnyTaken yX1_isAnyTaken ∈ vr_T := vr_f (List.mem_of_getElem? (i := 7) (by decide +kernel)) rfl
abbrev cX4_drop : ByteArray := prog_1_method_10_code
def yX4_drop : MethodName := ⟨RX4, "drop", "(I)I"⟩
abbrev wsX4_drop : List Cond := .code yX4_drop cX4_drop 4 (some .int) :: vr_T
set_option maxRecDepth 100000 in
theorem cdX4_drop : Cond.code yX4_drop cX4_drop 4 (some .int) ∈ vr_T := vr_f (List.mem_of_getElem? (i := 276) rfl) rfl
set_option maxRecDepth 100000 in
theorem imX4_drop : Cond.instanceMethod yX4_drop ∈ vr_T := vr_f (List.mem_of_getElem? (i := 274) (by decide +kernel)) rfl
set_option maxRecDepth 100000 in
theorem seX4_drop : Cond.selects RX4 yX4_drop yX4_drop ∈ vr_T := vr_f (List.mem_of_getElem? (i := 275) (by decide +kernel)) rfl
abbrev cX1_has : ByteArray := prog_3_method_2_code
def yX1_has : MethodName := ⟨RX1, "has", "(I)Z"⟩
abbrev wsX1_has : List Cond := .code yX1_has cX1_has 2 (some .boolean) :: vr_T
set_option maxRecDepth 100000 in
theorem cdX1_has : Cond.code yX1_has cX1_has 2 (some .boolean) ∈ vr_T := vr_f (List.mem_of_getElem? (i := 280) rfl) rfl
set_option maxRecDepth 100000 in
theorem imX1_has : Cond.instanceMethod yX1_has ∈ vr_T := vr_f (List.mem_of_getElem? (i := 278) (by decide +kernel)) rfl
set_option maxRecDepth 100000 in
theorem seX1_has : Cond.selects RX1 yX1_has yX1_has ∈ vr_T := vr_f (List.mem_of_getElem? (i := 279) (by decide +kernel)) rfl
abbrev cX4_isLeanedOnFromOutside : ByteArray := prog_1_method_17_code
def yX4_isLeanedOnFromOutside : MethodName := ⟨RX4, "isLeanedOnFromOutside", "(I)Z"⟩
abbrev wsX4_isLeanedOnFromOutside : List Cond := .code yX4_isLeanedOnFromOutside cX4_isLeanedOnFromOutside 3 (some .boolean) :: vr_T
set_option maxRecDepth 100000 in
theorem cdX4_isLeanedOnFromOutside : Cond.code yX4_isLeanedOnFromOutside cX4_isLeanedOnFromOutside 3 (some .boolean) ∈ vr_T := vr_f (List.mem_of_getElem? (i := 284) rfl) rfl
set_option maxRecDepth 100000 in
theorem imX4_isLeanedOnFromOutside : Cond.instanceMethod yX4_isLeanedOnFromOutside ∈ vr_T := vr_f (List.mem_of_getElem? (i := 283) (by decide +kernel)) rfl
set_option maxRecDepth 100000 in
theorem seX4_isLeanedOnFromOutside : Cond.selects RX4 yX4_isLeanedOnFromOutside yX4_isLeanedOnFromOutside ∈ vr_T := vr_f (List.mem_of_getElem? (i := 8) (by decide +kernel)) rfl
abbrev cX4_countsInBatch : ByteArray := prog_1_method_19_code
def yX4_countsInBatch : MethodName := ⟨RX4, "countsInBatch", "(II)Z"⟩
abbrev wsX4_countsInBatch : List Cond := .code yX4_countsInBatch cX4_countsInBatch 3 (some .boolean) :: vr_T
set_option maxRecDepth 100000 in
theorem cdX4_countsInBatch : Cond.code yX4_countsInBatch cX4_countsInBatch 3 (some .boolean) ∈ vr_T := vr_f (List.mem_of_getElem? (i := 288) rfl) rfl
set_option maxRecDepth 100000 in
theorem imX4_countsInBatch : Cond.instanceMethod yX4_countsInBatch ∈ vr_T := vr_f (List.mem_of_getElem? (i := 287) (by decide +kernel)) rfl
set_option maxRecDepth 100000 in
theorem seX4_countsInBatch : Cond.selects RX4 yX4_countsInBatch yX4_countsInBatch ∈ vr_T := vr_f (List.mem_of_getElem? (i := 9) (by decide +kernel)) rfl
abbrev cX1_of : ByteArray := prog_3_method_3_code
def yX1_of : MethodName := ⟨RX1, "of", "(I)I"⟩
abbrev wsX1_of : List Cond := .code yX1_of cX1_of 2 (some .int) :: vr_T
set_option maxRecDepth 100000 in
theorem cdX1_of : Cond.code yX1_of cX1_of 2 (some .int) ∈ vr_T := vr_f (List.mem_of_getElem? (i := 292) rfl) rfl
set_option maxRecDepth 100000 in
theorem imX1_of : Cond.instanceMethod yX1_of ∈ vr_T := vr_f (List.mem_of_getElem? (i := 290) (by decide +kernel)) rfl
set_option maxRecDepth 100000 in
theorem seX1_of : Cond.selects RX1 yX1_of yX1_of ∈ vr_T := vr_f (List.mem_of_getElem? (i := 291) (by decide +kernel)) rfl
abbrev cX4_isLeanedOnOutside : ByteArray := prog_1_method_18_code
def yX4_isLeanedOnOutside : MethodName := ⟨RX4, "isLeanedOnOutside", "(II)Z"⟩
abbrev wsX4_isLeanedOnOutside : List Cond := .code yX4_isLeanedOnOutside cX4_isLeanedOnOutside 4 (some .boolean) :: vr_T
set_option maxRecDepth 100000 in
theorem cdX4_isLeanedOnOutside : Cond.code yX4_isLeanedOnOutside cX4_isLeanedOnOutside 4 (some .boolean) ∈ vr_T := vr_f (List.mem_of_getElem? (i := 296) rfl) rfl
set_option maxRecDepth 100000 in
theorem imX4_isLeanedOnOutside : Cond.instanceMethod yX4_isLeanedOnOutside ∈ vr_T := vr_f (List.mem_of_getElem? (i := 295) (by decide +kernel)) rfl
set_option maxRecDepth 100000 in
theorem seX4_isLeanedOnOutside : Cond.selects RX4 yX4_isLeanedOnOutside yX4_isLeanedOnOutside ∈ vr_T := vr_f (List.mem_of_getElem? (i := 10) (by decide +kernel)) rfl
abbrev cX4_conflict : ByteArray := prog_1_method_11_code
def yX4_conflict : MethodName := ⟨RX4, "conflict", "(II)I"⟩
abbrev wsX4_conflict : List Cond := .code yX4_conflict cX4_conflict 7 (some .int) :: vr_T
set_option maxRecDepth 100000 in
theorem cdX4_conflict : Cond.code yX4_conflict cX4_conflict 7 (some .int) ∈ vr_T := vr_f (List.mem_of_getElem? (i := 300) rfl) rfl
set_option maxRecDepth 100000 in
theorem imX4_conflict : Cond.instanceMethod yX4_conflict ∈ vr_T := vr_f (List.mem_of_getElem? (i := 298) (by decide +kernel)) rfl
set_option maxRecDepth 100000 in
theorem seX4_conflict : Cond.selects RX4 yX4_conflict yX4_conflict ∈ vr_T := vr_f (List.mem_of_getElem? (i := 299) (by decide +kernel)) rfl
abbrev cX0_areInConflict : ByteArray := prog_2_method_15_code
def yX0_areInConflict : MethodName := ⟨RX0, "areInConflict", "(II)Z"⟩
abbrev wsX0_areInConflict : List Cond := .code yX0_areInConflict cX0_areInConflict 3 (some .boolean) :: vr_T
set_option maxRecDepth 100000 in
theorem cdX0_areInConflict : Cond.code yX0_areInConflict cX0_areInConflict 3 (some .boolean) ∈ vr_T := vr_f (List.mem_of_getElem? (i := 304) rfl) rfl
set_option maxRecDepth 100000 in
theorem imX0_areInConflict : Cond.instanceMethod yX0_areInConflict ∈ vr_T := vr_f (List.mem_of_getElem? (i := 302) (by decide +kernel)) rfl
set_option maxRecDepth 100000 in
theorem seX0_areInConflict : Cond.selects RX0 yX0_areInConflict yX0_areInConflict ∈ vr_T := vr_f (List.mem_of_getElem? (i := 303) (by decide +kernel)) rfl
abbrev cX4_history : ByteArray := prog_1_method_12_code
def yX4_history : MethodName := ⟨RX4, "history", "(III)I"⟩
abbrev wsX4_history : List Cond := .code yX4_history cX4_history 4 (some .int) :: vr_T
set_option maxRecDepth 100000 in
theorem cdX4_history : Cond.code yX4_history cX4_history 4 (some .int) ∈ vr_T := vr_f (List.mem_of_getElem? (i := 308) rfl) rfl
set_option maxRecDepth 100000 in
theorem imX4_history : Cond.instanceMethod yX4_history ∈ vr_T := vr_f (List.mem_of_getElem? (i := 306) (by decide +kernel)) rfl
set_option maxRecDepth 100000 in
theorem seX4_history : Cond.selects RX4 yX4_history yX4_history ∈ vr_T := vr_f (List.mem_of_getElem? (i := 307) (by decide +kernel)) rfl
abbrev cX0_inOrder : ByteArray := prog_2_method_14_code
def yX0_inOrder : MethodName := ⟨RX0, "inOrder", "(III)I"⟩
abbrev wsX0_inOrder : List Cond := .code yX0_inOrder cX0_inOrder 7 (some .int) :: vr_T
set_option maxRecDepth 100000 in
theorem cdX0_inOrder : Cond.code yX0_inOrder cX0_inOrder 7 (some .int) ∈ vr_T := vr_f (List.mem_of_getElem? (i := 312) rfl) rfl
set_option maxRecDepth 100000 in
theorem imX0_inOrder : Cond.instanceMethod yX0_inOrder ∈ vr_T := vr_f (List.mem_of_getElem? (i := 310) (by decide +kernel)) rfl
set_option maxRecDepth 100000 in
theorem seX0_inOrder : Cond.selects RX0 yX0_inOrder yX0_inOrder ∈ vr_T := vr_f (List.mem_of_getElem? (i := 311) (by decide +kernel)) rfl
abbrev cX5_init : ByteArray := prog_7_method_1_code
def yX5_init : MethodName := ⟨RX5, "<init>", "()V"⟩
abbrev wsX5_init : List Cond := .code yX5_init cX5_init 1 none :: vr_T
set_option maxRecDepth 100000 in
theorem cdX5_init : Cond.code yX5_init cX5_init 1 none ∈ vr_T := vr_f (List.mem_of_getElem? (i := 317) rfl) rfl
set_option maxRecDepth 100000 in
theorem imX5_init : Cond.instanceMethod yX5_init ∈ vr_T := vr_f (List.mem_of_getElem? (i := 316) (by decide +kernel)) rfl
abbrev cX5_record : ByteArray := prog_7_method_6_code
def yX5_record : MethodName := ⟨RX5, "record", "(I)I"⟩
abbrev wsX5_record : List Cond := .code yX5_record cX5_record 2 (some .int) :: vr_T
set_option maxRecDepth 100000 in
theorem cdX5_record : Cond.code yX5_record cX5_record 2 (some .int) ∈ vr_T := vr_f (List.mem_of_getElem? (i := 369) rfl) rfl
set_option maxRecDepth 100000 in
theorem imX5_record : Cond.instanceMethod yX5_record ∈ vr_T := vr_f (List.mem_of_getElem? (i := 367) (by decide +kernel)) rfl
set_option maxRecDepth 100000 in
theorem seX5_record : Cond.selects RX5 yX5_record yX5_record ∈ vr_T := vr_f (List.mem_of_getElem? (i := 368) (by decide +kernel)) rfl
abbrev cX5_act : ByteArray := prog_7_method_9_code
def yX5_act : MethodName := ⟨RX5, "act", "(IIJJJ)I"⟩
abbrev wsX5_act : List Cond := .code yX5_act cX5_act 10 (some .int) :: vr_T
set_option maxRecDepth 100000 in
theorem cdX5_act : Cond.code yX5_act cX5_act 10 (some .int) ∈ vr_T := vr_f (List.mem_of_getElem? (i := 374) rfl) rfl
set_option maxRecDepth 100000 in
theorem imX5_act : Cond.instanceMethod yX5_act ∈ vr_T := vr_f (List.mem_of_getElem? (i := 372) (by decide +kernel)) rfl
set_option maxRecDepth 100000 in
theorem seX5_act : Cond.selects RX5 yX5_act yX5_act ∈ vr_T := vr_f (List.mem_of_getElem? (i := 373) (by decide +kernel)) rfl
abbrev cX5_isField : ByteArray := prog_7_method_5_code
def yX5_isField : MethodName := ⟨RX5, "isField", "(II)Z"⟩
abbrev wsX5_isField : List Cond := .code yX5_isField cX5_isField 3 (some .boolean) :: vr_T
set_option maxRecDepth 100000 in
theorem cdX5_isField : Cond.code yX5_isField cX5_isField 3 (some .boolean) ∈ vr_T := vr_f (List.mem_of_getElem? (i := 378) rfl) rfl
set_option maxRecDepth 100000 in
theorem imX5_isField : Cond.instanceMethod yX5_isField ∈ vr_T := vr_f (List.mem_of_getElem? (i := 377) (by decide +kernel)) rfl
set_option maxRecDepth 100000 in
theorem seX5_isField : Cond.selects RX5 yX5_isField yX5_isField ∈ vr_T := vr_f (List.mem_of_getElem? (i := 11) (by decide +kernel)) rfl
abbrev cX5_isRecord : ByteArray := prog_7_method_3_code
def yX5_isRecord : MethodName := ⟨RX5, "isRecord", "(I)Z"⟩
abbrev wsX5_isRecord : List Cond := .code yX5_isRecord cX5_isRecord 2 (some .boolean) :: vr_T
set_option maxRecDepth 100000 in
theorem cdX5_isRecord : Cond.code yX5_isRecord cX5_isRecord 2 (some .boolean) ∈ vr_T := vr_f (List.mem_of_getElem? (i := 382) rfl) rfl
set_option maxRecDepth 100000 in
theorem imX5_isRecord : Cond.instanceMethod yX5_isRecord ∈ vr_T := vr_f (List.mem_of_getElem? (i := 381) (by decide +kernel)) rfl
set_option maxRecDepth 100000 in
theorem seX5_isRecord : Cond.selects RX5 yX5_isRecord yX5_isRecord ∈ vr_T := vr_f (List.mem_of_getElem? (i := 12) (by decide +kernel)) rfl
abbrev cX5_isLocked : ByteArray := prog_7_method_8_code
def yX5_isLocked : MethodName := ⟨RX5, "isLocked", "(I)Z"⟩
abbrev wsX5_isLocked : List Cond := .code yX5_isLocked cX5_isLocked 2 (some .boolean) :: vr_T
set_option maxRecDepth 100000 in
theorem cdX5_isLocked : Cond.code yX5_isLocked cX5_isLocked 2 (some .boolean) ∈ vr_T := vr_f (List.mem_of_getElem? (i := 387) rfl) rfl
set_option maxRecDepth 100000 in
theorem imX5_isLocked : Cond.instanceMethod yX5_isLocked ∈ vr_T := vr_f (List.mem_of_getElem? (i := 386) (by decide +kernel)) rfl
set_option maxRecDepth 100000 in
theorem seX5_isLocked : Cond.selects RX5 yX5_isLocked yX5_isLocked ∈ vr_T := vr_f (List.mem_of_getElem? (i := 13) (by decide +kernel)) rfl
abbrev cX5_now : ByteArray := prog_7_method_7_code
def yX5_now : MethodName := ⟨RX5, "now", "()J"⟩
abbrev wsX5_now : List Cond := .code yX5_now cX5_now 4 (some .long) :: vr_T
set_option maxRecDepth 100000 in
theorem cdX5_now : Cond.code yX5_now cX5_now 4 (some .long) ∈ vr_T := vr_f (List.mem_of_getElem? (i := 391) rfl) rfl
set_option maxRecDepth 100000 in
theorem imX5_now : Cond.instanceMethod yX5_now ∈ vr_T := vr_f (List.mem_of_getElem? (i := 390) (by decide +kernel)) rfl
set_option maxRecDepth 100000 in
theorem seX5_now : Cond.selects RX5 yX5_now yX5_now ∈ vr_T := vr_f (List.mem_of_getElem? (i := 14) (by decide +kernel)) rfl
abbrev cX5_at : ByteArray := prog_7_method_13_code
def yX5_at : MethodName := ⟨RX5, "at", "(IIJ)I"⟩
abbrev wsX5_at : List Cond := .code yX5_at cX5_at 6 (some .int) :: vr_T
set_option maxRecDepth 100000 in
theorem cdX5_at : Cond.code yX5_at cX5_at 6 (some .int) ∈ vr_T := vr_f (List.mem_of_getElem? (i := 395) rfl) rfl
set_option maxRecDepth 100000 in
theorem imX5_at : Cond.instanceMethod yX5_at ∈ vr_T := vr_f (List.mem_of_getElem? (i := 393) (by decide +kernel)) rfl
set_option maxRecDepth 100000 in
theorem seX5_at : Cond.selects RX5 yX5_at yX5_at ∈ vr_T := vr_f (List.mem_of_getElem? (i := 394) (by decide +kernel)) rfl
abbrev cX5_last : ByteArray := prog_7_method_12_code
def yX5_last : MethodName := ⟨RX5, "last", "(IIJ)I"⟩
abbrev wsX5_last : List Cond := .code yX5_last cX5_last 7 (some .int) :: vr_T
set_option maxRecDepth 100000 in
theorem cdX5_last : Cond.code yX5_last cX5_last 7 (some .int) ∈ vr_T := vr_f (List.mem_of_getElem? (i := 399) rfl) rfl
set_option maxRecDepth 100000 in
theorem imX5_last : Cond.instanceMethod yX5_last ∈ vr_T := vr_f (List.mem_of_getElem? (i := 398) (by decide +kernel)) rfl
set_option maxRecDepth 100000 in
theorem seX5_last : Cond.selects RX5 yX5_last yX5_last ∈ vr_T := vr_f (List.mem_of_getElem? (i := 15) (by decide +kernel)) rfl
abbrev cX5_isOf : ByteArray := prog_7_method_10_code
def yX5_isOf : MethodName := ⟨RX5, "isOf", "(III)Z"⟩
abbrev wsX5_isOf : List Cond := .code yX5_isOf cX5_isOf 4 (some .boolean) :: vr_T
set_option maxRecDepth 100000 in
theorem cdX5_isOf : Cond.code yX5_isOf cX5_isOf 4 (some .boolean) ∈ vr_T := vr_f (List.mem_of_getElem? (i := 403) rfl) rfl
set_option maxRecDepth 100000 in
theorem imX5_isOf : Cond.instanceMethod yX5_isOf ∈ vr_T := vr_f (List.mem_of_getElem? (i := 402) (by decide +kernel)) rfl
set_option maxRecDepth 100000 in
theorem seX5_isOf : Cond.selects RX5 yX5_isOf yX5_isOf ∈ vr_T := vr_f (List.mem_of_getElem? (i := 16) (by decide +kernel)) rfl
abbrev cX5_isBefore : ByteArray := prog_7_method_11_code
def yX5_isBefore : MethodName := ⟨RX5, "isBefore", "(II)Z"⟩
abbrev wsX5_isBefore : List Cond := .code yX5_isBefore cX5_isBefore 3 (some .boolean) :: vr_T
set_option maxRecDepth 100000 in
theorem cdX5_isBefore : Cond.code yX5_isBefore cX5_isBefore 3 (some .boolean) ∈ vr_T := vr_f (List.mem_of_getElem? (i := 407) rfl) rfl
set_option maxRecDepth 100000 in
theorem imX5_isBefore : Cond.instanceMethod yX5_isBefore ∈ vr_T := vr_f (List.mem_of_getElem? (i := 406) (by decide +kernel)) rfl
set_option maxRecDepth 100000 in
theorem seX5_isBefore : Cond.selects RX5 yX5_isBefore yX5_isBefore ∈ vr_T := vr_f (List.mem_of_getElem? (i := 17) (by decide +kernel)) rfl
abbrev cX5_stale : ByteArray := prog_7_method_14_code
def yX5_stale : MethodName := ⟨RX5, "stale", "(IJI)I"⟩
abbrev wsX5_stale : List Cond := .code yX5_stale cX5_stale 7 (some .int) :: vr_T
set_option maxRecDepth 100000 in
theorem cdX5_stale : Cond.code yX5_stale cX5_stale 7 (some .int) ∈ vr_T := vr_f (List.mem_of_getElem? (i := 411) rfl) rfl
set_option maxRecDepth 100000 in
theorem imX5_stale : Cond.instanceMethod yX5_stale ∈ vr_T := vr_f (List.mem_of_getElem? (i := 409) (by decide +kernel)) rfl
set_option maxRecDepth 100000 in
theorem seX5_stale : Cond.selects RX5 yX5_stale yX5_stale ∈ vr_T := vr_f (List.mem_of_getElem? (i := 410) (by decide +kernel)) rfl
abbrev cX5_undo : ByteArray := prog_7_method_16_code
def yX5_undo : MethodName := ⟨RX5, "undo", "(I)I"⟩
abbrev wsX5_undo : List Cond := .code yX5_undo cX5_undo 2 (some .int) :: vr_T
set_option maxRecDepth 100000 in
theorem cdX5_undo : Cond.code yX5_undo cX5_undo 2 (some .int) ∈ vr_T := vr_f (List.mem_of_getElem? (i := 416) rfl) rfl
set_option maxRecDepth 100000 in
theorem imX5_undo : Cond.instanceMethod yX5_undo ∈ vr_T := vr_f (List.mem_of_getElem? (i := 414) (by decide +kernel)) rfl
set_option maxRecDepth 100000 in
theorem seX5_undo : Cond.selects RX5 yX5_undo yX5_undo ∈ vr_T := vr_f (List.mem_of_getElem? (i := 415) (by decide +kernel)) rfl
abbrev cX5_isAct : ByteArray := prog_7_method_4_code
def yX5_isAct : MethodName := ⟨RX5, "isAct", "(I)Z"⟩
abbrev wsX5_isAct : List Cond := .code yX5_isAct cX5_isAct 2 (some .boolean) :: vr_T
set_option maxRecDepth 100000 in
theorem cdX5_isAct : Cond.code yX5_isAct cX5_isAct 2 (some .boolean) ∈ vr_T := vr_f (List.mem_of_getElem? (i := 420) rfl) rfl
set_option maxRecDepth 100000 in
theorem imX5_isAct : Cond.instanceMethod yX5_isAct ∈ vr_T := vr_f (List.mem_of_getElem? (i := 419) (by decide +kernel)) rfl
set_option maxRecDepth 100000 in
theorem seX5_isAct : Cond.selects RX5 yX5_isAct yX5_isAct ∈ vr_T := vr_f (List.mem_of_getElem? (i := 18) (by decide +kernel)) rfl
abbrev cX5_isLeantOn : ByteArray := prog_7_method_15_code
def yX5_isLeantOn : MethodName := ⟨RX5, "isLeantOn", "(II)Z"⟩
abbrev wsX5_isLeantOn : List Cond := .code yX5_isLeantOn cX5_isLeantOn 5 (some .boolean) :: vr_T
set_option maxRecDepth 100000 in
theorem cdX5_isLeantOn : Cond.code yX5_isLeantOn cX5_isLeantOn 5 (some .boolean) ∈ vr_T := vr_f (List.mem_of_getElem? (i := 424) rfl) rfl
set_option maxRecDepth 100000 in
theorem imX5_isLeantOn : Cond.instanceMethod yX5_isLeantOn ∈ vr_T := vr_f (List.mem_of_getElem? (i := 423) (by decide +kernel)) rfl
set_option maxRecDepth 100000 in
theorem seX5_isLeantOn : Cond.selects RX5 yX5_isLeantOn yX5_isLeantOn ∈ vr_T := vr_f (List.mem_of_getElem? (i := 19) (by decide +kernel)) rfl
abbrev cX5_lean : ByteArray := prog_7_method_17_code
def yX5_lean : MethodName := ⟨RX5, "lean", "(II)I"⟩
abbrev wsX5_lean : List Cond := .code yX5_lean cX5_lean 3 (some .int) :: vr_T
set_option maxRecDepth 100000 in
theorem cdX5_lean : Cond.code yX5_lean cX5_lean 3 (some .int) ∈ vr_T := vr_f (List.mem_of_getElem? (i := 428) rfl) rfl
set_option maxRecDepth 100000 in
theorem imX5_lean : Cond.instanceMethod yX5_lean ∈ vr_T := vr_f (List.mem_of_getElem? (i := 426) (by decide +kernel)) rfl
set_option maxRecDepth 100000 in
theorem seX5_lean : Cond.selects RX5 yX5_lean yX5_lean ∈ vr_T := vr_f (List.mem_of_getElem? (i := 427) (by decide +kernel)) rfl
abbrev cX5_lock : ByteArray := prog_7_method_18_code
def yX5_lock : MethodName := ⟨RX5, "lock", "(IIJ)I"⟩
abbrev wsX5_lock : List Cond := .code yX5_lock cX5_lock 5 (some .int) :: vr_T
set_option maxRecDepth 100000 in
theorem cdX5_lock : Cond.code yX5_lock cX5_lock 5 (some .int) ∈ vr_T := vr_f (List.mem_of_getElem? (i := 432) rfl) rfl
set_option maxRecDepth 100000 in
theorem imX5_lock : Cond.instanceMethod yX5_lock ∈ vr_T := vr_f (List.mem_of_getElem? (i := 430) (by decide +kernel)) rfl
set_option maxRecDepth 100000 in
theorem seX5_lock : Cond.selects RX5 yX5_lock yX5_lock ∈ vr_T := vr_f (List.mem_of_getElem? (i := 431) (by decide +kernel)) rfl
abbrev cX5_batch : ByteArray := prog_7_method_19_code
def yX5_batch : MethodName := ⟨RX5, "batch", "(II)I"⟩
abbrev wsX5_batch : List Cond := .code yX5_batch cX5_batch 4 (some .int) :: vr_T
set_option maxRecDepth 100000 in
theorem cdX5_batch : Cond.code yX5_batch cX5_batch 4 (some .int) ∈ vr_T := vr_f (List.mem_of_getElem? (i := 436) rfl) rfl
set_option maxRecDepth 100000 in
theorem imX5_batch : Cond.instanceMethod yX5_batch ∈ vr_T := vr_f (List.mem_of_getElem? (i := 434) (by decide +kernel)) rfl
set_option maxRecDepth 100000 in
theorem seX5_batch : Cond.selects RX5 yX5_batch yX5_batch ∈ vr_T := vr_f (List.mem_of_getElem? (i := 435) (by decide +kernel)) rfl
abbrev cX5_drop : ByteArray := prog_7_method_20_code
def yX5_drop : MethodName := ⟨RX5, "drop", "(I)I"⟩
abbrev wsX5_drop : List Cond := .code yX5_drop cX5_drop 5 (some .int) :: vr_T
set_option maxRecDepth 100000 in
theorem cdX5_drop : Cond.code yX5_drop cX5_drop 5 (some .int) ∈ vr_T := vr_f (List.mem_of_getElem? (i := 440) rfl) rfl
set_option maxRecDepth 100000 in
theorem imX5_drop : Cond.instanceMethod yX5_drop ∈ vr_T := vr_f (List.mem_of_getElem? (i := 438) (by decide +kernel)) rfl
set_option maxRecDepth 100000 in
theorem seX5_drop : Cond.selects RX5 yX5_drop yX5_drop ∈ vr_T := vr_f (List.mem_of_getElem? (i := 439) (by decide +kernel)) rfl
abbrev cX5_conflict : ByteArray := prog_7_method_21_code
def yX5_conflict : MethodName := ⟨RX5, "conflict", "(II)I"⟩
abbrev wsX5_conflict : List Cond := .code yX5_conflict cX5_conflict 6 (some .int) :: vr_T
set_option maxRecDepth 100000 in
theorem cdX5_conflict : Cond.code yX5_conflict cX5_conflict 6 (some .int) ∈ vr_T := vr_f (List.mem_of_getElem? (i := 444) rfl) rfl
set_option maxRecDepth 100000 in
theorem imX5_conflict : Cond.instanceMethod yX5_conflict ∈ vr_T := vr_f (List.mem_of_getElem? (i := 442) (by decide +kernel)) rfl
set_option maxRecDepth 100000 in
theorem seX5_conflict : Cond.selects RX5 yX5_conflict yX5_conflict ∈ vr_T := vr_f (List.mem_of_getElem? (i := 443) (by decide +kernel)) rfl
abbrev cX5_history : ByteArray := prog_7_method_22_code
def yX5_history : MethodName := ⟨RX5, "history", "(III)I"⟩
abbrev wsX5_history : List Cond := .code yX5_history cX5_history 7 (some .int) :: vr_T
set_option maxRecDepth 100000 in
theorem cdX5_history : Cond.code yX5_history cX5_history 7 (some .int) ∈ vr_T := vr_f (List.mem_of_getElem? (i := 448) rfl) rfl
set_option maxRecDepth 100000 in
theorem imX5_history : Cond.instanceMethod yX5_history ∈ vr_T := vr_f (List.mem_of_getElem? (i := 446) (by decide +kernel)) rfl
set_option maxRecDepth 100000 in
theorem seX5_history : Cond.selects RX5 yX5_history yX5_history ∈ vr_T := vr_f (List.mem_of_getElem? (i := 447) (by decide +kernel)) rfl
set_option maxRecDepth 100000 in
theorem iniX0 : Cond.initialized RX0 ∈ vr_T := vr_f (List.mem_of_getElem? (i := 23) (by decide +kernel)) rfl
set_option maxRecDepth 100000 in
theorem insX0 : Cond.instantiable RX0 8 ∈ vr_T := vr_f (List.mem_of_getElem? (i := 57) (by decide +kernel)) rfl
set_option maxRecDepth 100000 in
theorem iniX1 : Cond.initialized RX1 ∈ vr_T := vr_f (List.mem_of_getElem? (i := 25) (by decide +kernel)) rfl
set_option maxRecDepth 100000 in
theorem insX1 : Cond.instantiable RX1 2 ∈ vr_T := vr_f (List.mem_of_getElem? (i := 99) (by decide +kernel)) rfl
set_option maxRecDepth 100000 in
theorem iniX2 : Cond.initialized RX2 ∈ vr_T := vr_f (List.mem_of_getElem? (i := 24) (by decide +kernel)) rfl
set_option maxRecDepth 100000 in
theorem insX2 : Cond.instantiable RX2 1 ∈ vr_T := vr_f (List.mem_of_getElem? (i := 89) (by decide +kernel)) rfl
set_option maxRecDepth 100000 in
theorem iniX3 : Cond.initialized RX3 ∈ vr_T := vr_f (List.mem_of_getElem? (i := 22) (by decide +kernel)) rfl
set_option maxRecDepth 100000 in
theorem insX3 : Cond.instantiable RX3 4 ∈ vr_T := vr_f (List.mem_of_getElem? (i := 36) (by decide +kernel)) rfl
set_option maxRecDepth 100000 in
theorem iniX4 : Cond.initialized RX4 ∈ vr_T := vr_f (List.mem_of_getElem? (i := 21) (by decide +kernel)) rfl
set_option maxRecDepth 100000 in
theorem insX4 : Cond.instantiable RX4 4 ∈ vr_T := vr_f (List.mem_of_getElem? (i := 28) (by decide +kernel)) rfl
set_option maxRecDepth 100000 in
theorem iniX5 : Cond.initialized RX5 ∈ vr_T := vr_f (List.mem_of_getElem? (i := 26) (by decide +kernel)) rfl
set_option maxRecDepth 100000 in
theorem insX5 : Cond.instantiable RX5 15 ∈ vr_T := vr_f (List.mem_of_getElem? (i := 314) (by decide +kernel)) rfl
set_option maxRecDepth 100000 in
theorem iniL : Cond.initialized RL ∈ vr_T := vr_f (List.mem_of_getElem? (i := 20) (by decide +kernel)) rfl
set_option maxRecDepth 100000 in
theorem clL_7 : Cond.classLink RL 7 RX4 ∈ vr_T := vr_f (List.mem_of_getElem? (i := 27) (by decide +kernel)) rfl
set_option maxRecDepth 100000 in
theorem mlL_9 : Cond.methodLink RL 9 yX4_init ∈ vr_T := vr_f (List.mem_of_getElem? (i := 29) (by decide +kernel)) rfl
set_option maxRecDepth 100000 in
theorem mlX4_1 : Cond.methodLink RX4 1 objectInit ∈ vr_T := vr_f (List.mem_of_getElem? (i := 32) (by decide +kernel)) rfl
set_option maxRecDepth 100000 in
theorem clX4_7 : Cond.classLink RX4 7 RX3 ∈ vr_T := vr_f (List.mem_of_getElem? (i := 35) (by decide +kernel)) rfl
set_option maxRecDepth 100000 in
theorem mlX4_9 : Cond.methodLinkNest RX4 9 yX3_init RX4 ∈ lw_tbl := List.mem_of_getElem? (i := 37) (by decide +kernel)
set_option maxRecDepth 100000 in
theorem mlX3_3 : Cond.methodLink RX3 3 objectInit ∈ vr_T := vr_f (List.mem_of_getElem? (i := 40) (by decide +kernel)) rfl
set_option maxRecDepth 100000 in
theorem flX3_9 : Cond.fieldLink RX3 9 "VersionRows$Records" "kinds" "[I" ∈ vr_T := vr_f (List.mem_of_getElem? (i := 41) (by decide +kernel)) rfl
set_option maxRecDepth 100000 in
theorem flX3_15 : Cond.fieldLink RX3 15 "VersionRows$Records" "lockers" "[I" ∈ vr_T := vr_f (List.mem_of_getElem? (i := 42) (by decide +kernel)) rfl
set_option maxRecDepth 100000 in
theorem flX3_18 : Cond.fieldLink RX3 18 "VersionRows$Records" "untils" "[J" ∈ vr_T := vr_f (List.mem_of_getElem? (i := 43) (by decide +kernel)) rfl
set_option maxRecDepth 100000 in
theorem flX3_22 : Cond.fieldLink RX3 22 "VersionRows$Records" "count" "I" ∈ vr_T := vr_f (List.mem_of_getElem? (i := 44) (by decide +kernel)) rfl
set_option maxRecDepth 100000 in
theorem ar_int : Cond.arrayClass .int ∈ vr_T := vr_f (List.mem_of_getElem? (i := 54) (by decide +kernel)) rfl
set_option maxRecDepth 100000 in
theorem ar_long : Cond.arrayClass .long ∈ vr_T := vr_f (List.mem_of_getElem? (i := 55) (by decide +kernel)) rfl
set_option maxRecDepth 100000 in
theorem clX4_16 : Cond.classLink RX4 16 RX0 ∈ vr_T := vr_f (List.mem_of_getElem? (i := 56) (by decide +kernel)) rfl
set_option maxRecDepth 100000 in
theorem mlX4_18 : Cond.methodLinkNest RX4 18 yX0_init RX4 ∈ lw_tbl := List.mem_of_getElem? (i := 58) (by decide +kernel)
set_option maxRecDepth 100000 in
theorem mlX0_3 : Cond.methodLink RX0 3 objectInit ∈ vr_T := vr_f (List.mem_of_getElem? (i := 61) (by decide +kernel)) rfl
set_option maxRecDepth 100000 in
theorem flX0_9 : Cond.fieldLink RX0 9 "VersionRows$Acts" "records" "[I" ∈ vr_T := vr_f (List.mem_of_getElem? (i := 62) (by decide +kernel)) rfl
set_option maxRecDepth 100000 in
theorem flX0_15 : Cond.fieldLink RX0 15 "VersionRows$Acts" "fields" "[I" ∈ vr_T := vr_f (List.mem_of_getElem? (i := 63) (by decide +kernel)) rfl
set_option maxRecDepth 100000 in
theorem flX0_18 : Cond.fieldLink RX0 18 "VersionRows$Acts" "values" "[I" ∈ vr_T := vr_f (List.mem_of_getElem? (i := 64) (by decide +kernel)) rfl
set_option maxRecDepth 100000 in
theorem flX0_21 : Cond.fieldLink RX0 21 "VersionRows$Acts" "valids" "[J" ∈ vr_T := vr_f (List.mem_of_getElem? (i := 65) (by decide +kernel)) rfl
set_option maxRecDepth 100000 in
theorem flX0_25 : Cond.fieldLink RX0 25 "VersionRows$Acts" "knowns" "[J" ∈ vr_T := vr_f (List.mem_of_getElem? (i := 66) (by decide +kernel)) rfl
set_option maxRecDepth 100000 in
theorem flX0_28 : Cond.fieldLink RX0 28 "VersionRows$Acts" "counting" "[Z" ∈ vr_T := vr_f (List.mem_of_getElem? (i := 67) (by decide +kernel)) rfl
set_option maxRecDepth 100000 in
theorem flX0_32 : Cond.fieldLink RX0 32 "VersionRows$Acts" "ordered" "[I" ∈ vr_T := vr_f (List.mem_of_getElem? (i := 68) (by decide +kernel)) rfl
set_option maxRecDepth 100000 in
theorem flX0_35 : Cond.fieldLink RX0 35 "VersionRows$Acts" "count" "I" ∈ vr_T := vr_f (List.mem_of_getElem? (i := 69) (by decide +kernel)) rfl
set_option maxRecDepth 100000 in
theorem ar_boolean : Cond.arrayClass .boolean ∈ vr_T := vr_f (List.mem_of_getElem? (i := 87) (by decide +kernel)) rfl
set_option maxRecDepth 100000 in
theorem clX4_23 : Cond.classLink RX4 23 RX2 ∈ vr_T := vr_f (List.mem_of_getElem? (i := 88) (by decide +kernel)) rfl
set_option maxRecDepth 100000 in
theorem mlX4_25 : Cond.methodLinkNest RX4 25 yX2_init RX4 ∈ lw_tbl := List.mem_of_getElem? (i := 90) (by decide +kernel)
set_option maxRecDepth 100000 in
theorem mlX2_5 : Cond.methodLink RX2 5 objectInit ∈ vr_T := vr_f (List.mem_of_getElem? (i := 93) (by decide +kernel)) rfl
set_option maxRecDepth 100000 in
theorem flX2_11 : Cond.fieldLink RX2 11 "VersionRows$Leans" "words" "[J" ∈ vr_T := vr_f (List.mem_of_getElem? (i := 94) (by decide +kernel)) rfl
set_option maxRecDepth 100000 in
theorem clX4_30 : Cond.classLink RX4 30 RX1 ∈ vr_T := vr_f (List.mem_of_getElem? (i := 98) (by decide +kernel)) rfl
set_option maxRecDepth 100000 in
theorem mlX4_32 : Cond.methodLinkNest RX4 32 yX1_init RX4 ∈ lw_tbl := List.mem_of_getElem? (i := 100) (by decide +kernel)
set_option maxRecDepth 100000 in
theorem mlX1_3 : Cond.methodLink RX1 3 objectInit ∈ vr_T := vr_f (List.mem_of_getElem? (i := 103) (by decide +kernel)) rfl
set_option maxRecDepth 100000 in
theorem flX1_9 : Cond.fieldLink RX1 9 "VersionRows$Batches" "batchOfAct" "[I" ∈ vr_T := vr_f (List.mem_of_getElem? (i := 104) (by decide +kernel)) rfl
set_option maxRecDepth 100000 in
theorem flX1_15 : Cond.fieldLink RX1 15 "VersionRows$Batches" "count" "I" ∈ vr_T := vr_f (List.mem_of_getElem? (i := 105) (by decide +kernel)) rfl
set_option maxRecDepth 100000 in
theorem flX4_10 : Cond.fieldLink RX4 10 "VersionRows" "records" "LVersionRows$Records;" ∈ vr_T := vr_f (List.mem_of_getElem? (i := 111) (by decide +kernel)) rfl
set_option maxRecDepth 100000 in
theorem flX4_19 : Cond.fieldLink RX4 19 "VersionRows" "acts" "LVersionRows$Acts;" ∈ vr_T := vr_f (List.mem_of_getElem? (i := 112) (by decide +kernel)) rfl
set_option maxRecDepth 100000 in
theorem flX4_26 : Cond.fieldLink RX4 26 "VersionRows" "leans" "LVersionRows$Leans;" ∈ vr_T := vr_f (List.mem_of_getElem? (i := 113) (by decide +kernel)) rfl
set_option maxRecDepth 100000 in
theorem flX4_33 : Cond.fieldLink RX4 33 "VersionRows" "batches" "LVersionRows$Batches;" ∈ vr_T := vr_f (List.mem_of_getElem? (i := 114) (by decide +kernel)) rfl
set_option maxRecDepth 100000 in
theorem mlL_13 : Cond.methodLink RL 13 yX4_record ∈ vr_T := vr_f (List.mem_of_getElem? (i := 124) (by decide +kernel)) rfl
set_option maxRecDepth 100000 in
theorem mlX4_37 : Cond.methodLink RX4 37 yX3_add ∈ vr_T := vr_f (List.mem_of_getElem? (i := 128) (by decide +kernel)) rfl
set_option maxRecDepth 100000 in
theorem kX3_26 : Cond.constantLong RX3 26 (-9223372036854775808) ∈ vr_T := vr_f (List.mem_of_getElem? (i := 132) (by decide +kernel)) rfl
set_option maxRecDepth 100000 in
theorem mlL_20 : Cond.methodLink RL 20 yX4_act ∈ vr_T := vr_f (List.mem_of_getElem? (i := 133) (by decide +kernel)) rfl
set_option maxRecDepth 100000 in
theorem mlX4_41 : Cond.methodLink RX4 41 yX4_hasField ∈ vr_T := vr_f (List.mem_of_getElem? (i := 137) (by decide +kernel)) rfl
set_option maxRecDepth 100000 in
theorem mlX4_94 : Cond.methodLink RX4 94 yX3_has ∈ vr_T := vr_f (List.mem_of_getElem? (i := 141) (by decide +kernel)) rfl
set_option maxRecDepth 100000 in
theorem kX4_45 : Cond.constantLong RX4 45 (2147483647) ∈ vr_T := vr_f (List.mem_of_getElem? (i := 145) (by decide +kernel)) rfl
set_option maxRecDepth 100000 in
theorem mlX4_47 : Cond.methodLink RX4 47 yX4_isLocked ∈ vr_T := vr_f (List.mem_of_getElem? (i := 146) (by decide +kernel)) rfl
set_option maxRecDepth 100000 in
theorem mlX4_68 : Cond.methodLink RX4 68 yX0_now ∈ vr_T := vr_f (List.mem_of_getElem? (i := 150) (by decide +kernel)) rfl
set_option maxRecDepth 100000 in
theorem kX0_39 : Cond.constantLong RX0 39 (-9223372036854775808) ∈ vr_T := vr_f (List.mem_of_getElem? (i := 154) (by decide +kernel)) rfl
set_option maxRecDepth 100000 in
theorem mlX4_123 : Cond.methodLink RX4 123 yX3_until ∈ vr_T := vr_f (List.mem_of_getElem? (i := 155) (by decide +kernel)) rfl
set_option maxRecDepth 100000 in
theorem mlX4_51 : Cond.methodLink RX4 51 yX4_isRefusedDeletion ∈ vr_T := vr_f (List.mem_of_getElem? (i := 159) (by decide +kernel)) rfl
set_option maxRecDepth 100000 in
theorem mlX4_126 : Cond.methodLink RX4 126 yX3_kind ∈ vr_T := vr_f (List.mem_of_getElem? (i := 163) (by decide +kernel)) rfl
set_option maxRecDepth 100000 in
theorem mlX4_55 : Cond.methodLink RX4 55 yX0_findCounting ∈ vr_T := vr_f (List.mem_of_getElem? (i := 167) (by decide +kernel)) rfl
set_option maxRecDepth 100000 in
theorem mlX0_48 : Cond.methodLink RX0 48 yX0_isOf ∈ vr_T := vr_f (List.mem_of_getElem? (i := 171) (by decide +kernel)) rfl
set_option maxRecDepth 100000 in
theorem mlX4_59 : Cond.methodLink RX4 59 yX0_add ∈ vr_T := vr_f (List.mem_of_getElem? (i := 175) (by decide +kernel)) rfl
set_option maxRecDepth 100000 in
theorem mlX0_41 : Cond.methodLink RX0 41 yX0_putNewestInOrder ∈ vr_T := vr_f (List.mem_of_getElem? (i := 179) (by decide +kernel)) rfl
set_option maxRecDepth 100000 in
theorem mlX0_44 : Cond.methodLink RX0 44 yX0_isBehind ∈ vr_T := vr_f (List.mem_of_getElem? (i := 183) (by decide +kernel)) rfl
set_option maxRecDepth 100000 in
theorem mlL_25 : Cond.methodLink RL 25 yX4_at ∈ vr_T := vr_f (List.mem_of_getElem? (i := 187) (by decide +kernel)) rfl
set_option maxRecDepth 100000 in
theorem mlX4_61 : Cond.methodLink RX4 61 yX0_lastCounting ∈ vr_T := vr_f (List.mem_of_getElem? (i := 191) (by decide +kernel)) rfl
set_option maxRecDepth 100000 in
theorem mlX4_65 : Cond.methodLink RX4 65 yX0_value ∈ vr_T := vr_f (List.mem_of_getElem? (i := 195) (by decide +kernel)) rfl
set_option maxRecDepth 100000 in
theorem mlL_30 : Cond.methodLink RL 30 yX4_stale ∈ vr_T := vr_f (List.mem_of_getElem? (i := 199) (by decide +kernel)) rfl
set_option maxRecDepth 100000 in
theorem mlX4_72 : Cond.methodLink RX4 72 yX0_known ∈ vr_T := vr_f (List.mem_of_getElem? (i := 203) (by decide +kernel)) rfl
set_option maxRecDepth 100000 in
theorem mlL_35 : Cond.methodLink RL 35 yX4_undo ∈ vr_T := vr_f (List.mem_of_getElem? (i := 207) (by decide +kernel)) rfl
set_option maxRecDepth 100000 in
theorem mlX4_76 : Cond.methodLink RX4 76 yX0_has ∈ vr_T := vr_f (List.mem_of_getElem? (i := 211) (by decide +kernel)) rfl
set_option maxRecDepth 100000 in
theorem mlX4_79 : Cond.methodLink RX4 79 yX0_counts ∈ vr_T := vr_f (List.mem_of_getElem? (i := 215) (by decide +kernel)) rfl
set_option maxRecDepth 100000 in
theorem mlX4_82 : Cond.methodLink RX4 82 yX4_isLeanedOn ∈ vr_T := vr_f (List.mem_of_getElem? (i := 219) (by decide +kernel)) rfl
set_option maxRecDepth 100000 in
theorem mlX4_109 : Cond.methodLink RX4 109 yX0_count ∈ vr_T := vr_f (List.mem_of_getElem? (i := 223) (by decide +kernel)) rfl
set_option maxRecDepth 100000 in
theorem mlX4_89 : Cond.methodLink RX4 89 yX2_has ∈ vr_T := vr_f (List.mem_of_getElem? (i := 227) (by decide +kernel)) rfl
set_option maxRecDepth 100000 in
theorem mlX2_15 : Cond.methodLink RX2 15 yX2_wordOf ∈ vr_T := vr_f (List.mem_of_getElem? (i := 231) (by decide +kernel)) rfl
set_option maxRecDepth 100000 in
theorem mlX2_19 : Cond.methodLink RX2 19 yX2_bitOf ∈ vr_T := vr_f (List.mem_of_getElem? (i := 234) (by decide +kernel)) rfl
set_option maxRecDepth 100000 in
theorem mlX4_85 : Cond.methodLink RX4 85 yX0_setUndone ∈ vr_T := vr_f (List.mem_of_getElem? (i := 237) (by decide +kernel)) rfl
set_option maxRecDepth 100000 in
theorem mlL_39 : Cond.methodLink RL 39 yX4_lean ∈ vr_T := vr_f (List.mem_of_getElem? (i := 241) (by decide +kernel)) rfl
set_option maxRecDepth 100000 in
theorem mlX4_91 : Cond.methodLink RX4 91 yX2_add ∈ vr_T := vr_f (List.mem_of_getElem? (i := 245) (by decide +kernel)) rfl
set_option maxRecDepth 100000 in
theorem mlL_44 : Cond.methodLink RL 44 yX4_lock ∈ vr_T := vr_f (List.mem_of_getElem? (i := 249) (by decide +kernel)) rfl
set_option maxRecDepth 100000 in
theorem mlX4_95 : Cond.methodLink RX4 95 yX3_locker ∈ vr_T := vr_f (List.mem_of_getElem? (i := 253) (by decide +kernel)) rfl
set_option maxRecDepth 100000 in
theorem mlX4_98 : Cond.methodLink RX4 98 yX3_setLock ∈ vr_T := vr_f (List.mem_of_getElem? (i := 257) (by decide +kernel)) rfl
set_option maxRecDepth 100000 in
theorem mlL_48 : Cond.methodLink RL 48 yX4_batch ∈ vr_T := vr_f (List.mem_of_getElem? (i := 261) (by decide +kernel)) rfl
set_option maxRecDepth 100000 in
theorem mlX4_102 : Cond.methodLink RX4 102 yX1_add ∈ vr_T := vr_f (List.mem_of_getElem? (i := 265) (by decide +kernel)) rfl
set_option maxRecDepth 100000 in
theorem mlX1_19 : Cond.methodLink RX1 19 yX1_isAnyTaken ∈ vr_T := vr_f (List.mem_of_getElem? (i := 269) (by decide +kernel)) rfl
set_option maxRecDepth 100000 in
theorem mlL_52 : Cond.methodLink RL 52 yX4_drop ∈ vr_T := vr_f (List.mem_of_getElem? (i := 273) (by decide +kernel)) rfl
set_option maxRecDepth 100000 in
theorem mlX4_105 : Cond.methodLink RX4 105 yX1_has ∈ vr_T := vr_f (List.mem_of_getElem? (i := 277) (by decide +kernel)) rfl
set_option maxRecDepth 100000 in
theorem mlX4_106 : Cond.methodLink RX4 106 yX4_isLeanedOnFromOutside ∈ vr_T := vr_f (List.mem_of_getElem? (i := 281) (by decide +kernel)) rfl
set_option maxRecDepth 100000 in
theorem mlX4_113 : Cond.methodLink RX4 113 yX4_countsInBatch ∈ vr_T := vr_f (List.mem_of_getElem? (i := 285) (by decide +kernel)) rfl
set_option maxRecDepth 100000 in
theorem mlX4_132 : Cond.methodLink RX4 132 yX1_of ∈ vr_T := vr_f (List.mem_of_getElem? (i := 289) (by decide +kernel)) rfl
set_option maxRecDepth 100000 in
theorem mlX4_129 : Cond.methodLink RX4 129 yX4_isLeanedOnOutside ∈ vr_T := vr_f (List.mem_of_getElem? (i := 293) (by decide +kernel)) rfl
set_option maxRecDepth 100000 in
theorem mlL_56 : Cond.methodLink RL 56 yX4_conflict ∈ vr_T := vr_f (List.mem_of_getElem? (i := 297) (by decide +kernel)) rfl
set_option maxRecDepth 100000 in
theorem mlX4_116 : Cond.methodLink RX4 116 yX0_areInConflict ∈ vr_T := vr_f (List.mem_of_getElem? (i := 301) (by decide +kernel)) rfl
set_option maxRecDepth 100000 in
theorem mlL_60 : Cond.methodLink RL 60 yX4_history ∈ vr_T := vr_f (List.mem_of_getElem? (i := 305) (by decide +kernel)) rfl
set_option maxRecDepth 100000 in
theorem mlX4_119 : Cond.methodLink RX4 119 yX0_inOrder ∈ vr_T := vr_f (List.mem_of_getElem? (i := 309) (by decide +kernel)) rfl
set_option maxRecDepth 100000 in
theorem clL_10 : Cond.classLink RL 10 RX5 ∈ vr_T := vr_f (List.mem_of_getElem? (i := 313) (by decide +kernel)) rfl
set_option maxRecDepth 100000 in
theorem mlL_12 : Cond.methodLink RL 12 yX5_init ∈ vr_T := vr_f (List.mem_of_getElem? (i := 315) (by decide +kernel)) rfl
set_option maxRecDepth 100000 in
theorem mlX5_1 : Cond.methodLink RX5 1 objectInit ∈ vr_T := vr_f (List.mem_of_getElem? (i := 318) (by decide +kernel)) rfl
set_option maxRecDepth 100000 in
theorem kX5_42 : Cond.constant RX5 42 (40401) ∈ vr_T := vr_f (List.mem_of_getElem? (i := 319) (by decide +kernel)) rfl
set_option maxRecDepth 100000 in
theorem flX5_46 : Cond.fieldLink RX5 46 "VersionRowsModel" "thrown" "I" ∈ vr_T := vr_f (List.mem_of_getElem? (i := 320) (by decide +kernel)) rfl
set_option maxRecDepth 100000 in
theorem flX5_50 : Cond.fieldLink RX5 50 "VersionRowsModel" "records" "I" ∈ vr_T := vr_f (List.mem_of_getElem? (i := 321) (by decide +kernel)) rfl
set_option maxRecDepth 100000 in
theorem flX5_7 : Cond.fieldLink RX5 7 "VersionRowsModel" "kinds" "[I" ∈ vr_T := vr_f (List.mem_of_getElem? (i := 322) (by decide +kernel)) rfl
set_option maxRecDepth 100000 in
theorem flX5_13 : Cond.fieldLink RX5 13 "VersionRowsModel" "lockers" "[I" ∈ vr_T := vr_f (List.mem_of_getElem? (i := 323) (by decide +kernel)) rfl
set_option maxRecDepth 100000 in
theorem flX5_16 : Cond.fieldLink RX5 16 "VersionRowsModel" "untils" "[J" ∈ vr_T := vr_f (List.mem_of_getElem? (i := 324) (by decide +kernel)) rfl
set_option maxRecDepth 100000 in
theorem flX5_53 : Cond.fieldLink RX5 53 "VersionRowsModel" "acts" "I" ∈ vr_T := vr_f (List.mem_of_getElem? (i := 325) (by decide +kernel)) rfl
set_option maxRecDepth 100000 in
theorem flX5_20 : Cond.fieldLink RX5 20 "VersionRowsModel" "record" "[I" ∈ vr_T := vr_f (List.mem_of_getElem? (i := 326) (by decide +kernel)) rfl
set_option maxRecDepth 100000 in
theorem flX5_23 : Cond.fieldLink RX5 23 "VersionRowsModel" "field" "[I" ∈ vr_T := vr_f (List.mem_of_getElem? (i := 327) (by decide +kernel)) rfl
set_option maxRecDepth 100000 in
theorem flX5_26 : Cond.fieldLink RX5 26 "VersionRowsModel" "value" "[I" ∈ vr_T := vr_f (List.mem_of_getElem? (i := 328) (by decide +kernel)) rfl
set_option maxRecDepth 100000 in
theorem flX5_29 : Cond.fieldLink RX5 29 "VersionRowsModel" "valid" "[J" ∈ vr_T := vr_f (List.mem_of_getElem? (i := 329) (by decide +kernel)) rfl
set_option maxRecDepth 100000 in
theorem flX5_32 : Cond.fieldLink RX5 32 "VersionRowsModel" "known" "[J" ∈ vr_T := vr_f (List.mem_of_getElem? (i := 330) (by decide +kernel)) rfl
set_option maxRecDepth 100000 in
theorem flX5_35 : Cond.fieldLink RX5 35 "VersionRowsModel" "undone" "[Z" ∈ vr_T := vr_f (List.mem_of_getElem? (i := 331) (by decide +kernel)) rfl
set_option maxRecDepth 100000 in
theorem flX5_39 : Cond.fieldLink RX5 39 "VersionRowsModel" "batch" "[I" ∈ vr_T := vr_f (List.mem_of_getElem? (i := 332) (by decide +kernel)) rfl
set_option maxRecDepth 100000 in
theorem flX5_43 : Cond.fieldLink RX5 43 "VersionRowsModel" "leans" "[Z" ∈ vr_T := vr_f (List.mem_of_getElem? (i := 333) (by decide +kernel)) rfl
set_option maxRecDepth 100000 in
theorem flX5_94 : Cond.fieldLink RX5 94 "VersionRowsModel" "batches" "I" ∈ vr_T := vr_f (List.mem_of_getElem? (i := 334) (by decide +kernel)) rfl
set_option maxRecDepth 100000 in
theorem mlL_17 : Cond.methodLink RL 17 yX5_record ∈ vr_T := vr_f (List.mem_of_getElem? (i := 366) (by decide +kernel)) rfl
set_option maxRecDepth 100000 in
theorem kX5_60 : Cond.constantLong RX5 60 (-9223372036854775808) ∈ vr_T := vr_f (List.mem_of_getElem? (i := 370) (by decide +kernel)) rfl
set_option maxRecDepth 100000 in
theorem mlL_24 : Cond.methodLink RL 24 yX5_act ∈ vr_T := vr_f (List.mem_of_getElem? (i := 371) (by decide +kernel)) rfl
set_option maxRecDepth 100000 in
theorem mlX5_66 : Cond.methodLink RX5 66 yX5_isField ∈ vr_T := vr_f (List.mem_of_getElem? (i := 375) (by decide +kernel)) rfl
set_option maxRecDepth 100000 in
theorem mlX5_56 : Cond.methodLink RX5 56 yX5_isRecord ∈ vr_T := vr_f (List.mem_of_getElem? (i := 379) (by decide +kernel)) rfl
set_option maxRecDepth 100000 in
theorem kX5_70 : Cond.constantLong RX5 70 (2147483647) ∈ vr_T := vr_f (List.mem_of_getElem? (i := 383) (by decide +kernel)) rfl
set_option maxRecDepth 100000 in
theorem mlX5_72 : Cond.methodLink RX5 72 yX5_isLocked ∈ vr_T := vr_f (List.mem_of_getElem? (i := 384) (by decide +kernel)) rfl
set_option maxRecDepth 100000 in
theorem mlX5_62 : Cond.methodLink RX5 62 yX5_now ∈ vr_T := vr_f (List.mem_of_getElem? (i := 388) (by decide +kernel)) rfl
set_option maxRecDepth 100000 in
theorem mlL_29 : Cond.methodLink RL 29 yX5_at ∈ vr_T := vr_f (List.mem_of_getElem? (i := 392) (by decide +kernel)) rfl
set_option maxRecDepth 100000 in
theorem mlX5_82 : Cond.methodLink RX5 82 yX5_last ∈ vr_T := vr_f (List.mem_of_getElem? (i := 396) (by decide +kernel)) rfl
set_option maxRecDepth 100000 in
theorem mlX5_75 : Cond.methodLink RX5 75 yX5_isOf ∈ vr_T := vr_f (List.mem_of_getElem? (i := 400) (by decide +kernel)) rfl
set_option maxRecDepth 100000 in
theorem mlX5_79 : Cond.methodLink RX5 79 yX5_isBefore ∈ vr_T := vr_f (List.mem_of_getElem? (i := 404) (by decide +kernel)) rfl
set_option maxRecDepth 100000 in
theorem mlL_34 : Cond.methodLink RL 34 yX5_stale ∈ vr_T := vr_f (List.mem_of_getElem? (i := 408) (by decide +kernel)) rfl
set_option maxRecDepth 100000 in
theorem kX5_86 : Cond.constantLong RX5 86 (9223372036854775807) ∈ vr_T := vr_f (List.mem_of_getElem? (i := 412) (by decide +kernel)) rfl
set_option maxRecDepth 100000 in
theorem mlL_38 : Cond.methodLink RL 38 yX5_undo ∈ vr_T := vr_f (List.mem_of_getElem? (i := 413) (by decide +kernel)) rfl
set_option maxRecDepth 100000 in
theorem mlX5_88 : Cond.methodLink RX5 88 yX5_isAct ∈ vr_T := vr_f (List.mem_of_getElem? (i := 417) (by decide +kernel)) rfl
set_option maxRecDepth 100000 in
theorem mlX5_91 : Cond.methodLink RX5 91 yX5_isLeantOn ∈ vr_T := vr_f (List.mem_of_getElem? (i := 421) (by decide +kernel)) rfl
set_option maxRecDepth 100000 in
theorem mlL_43 : Cond.methodLink RL 43 yX5_lean ∈ vr_T := vr_f (List.mem_of_getElem? (i := 425) (by decide +kernel)) rfl
set_option maxRecDepth 100000 in
theorem mlL_47 : Cond.methodLink RL 47 yX5_lock ∈ vr_T := vr_f (List.mem_of_getElem? (i := 429) (by decide +kernel)) rfl
set_option maxRecDepth 100000 in
theorem mlL_51 : Cond.methodLink RL 51 yX5_batch ∈ vr_T := vr_f (List.mem_of_getElem? (i := 433) (by decide +kernel)) rfl
set_option maxRecDepth 100000 in
theorem mlL_55 : Cond.methodLink RL 55 yX5_drop ∈ vr_T := vr_f (List.mem_of_getElem? (i := 437) (by decide +kernel)) rfl
set_option maxRecDepth 100000 in
theorem mlL_59 : Cond.methodLink RL 59 yX5_conflict ∈ vr_T := vr_f (List.mem_of_getElem? (i := 441) (by decide +kernel)) rfl
set_option maxRecDepth 100000 in
theorem mlL_64 : Cond.methodLink RL 64 yX5_history ∈ vr_T := vr_f (List.mem_of_getElem? (i := 445) (by decide +kernel)) rfl
set_option maxRecDepth 100000 in
theorem kL_18 : Cond.constantLong RL 18 (4294967295) ∈ vr_T := vr_f (List.mem_of_getElem? (i := 449) (by decide +kernel)) rfl
set_option maxRecDepth 100000 in
theorem cd_obj : Cond.code objectInit ⟨#[0xb1]⟩ 1 none ∈ vr_T := vr_f (List.mem_of_getElem? (i := 34) rfl) rfl
set_option maxRecDepth 100000 in
theorem im_obj : Cond.instanceMethod objectInit ∈ vr_T := vr_f (List.mem_of_getElem? (i := 33) (by decide +kernel)) rfl
