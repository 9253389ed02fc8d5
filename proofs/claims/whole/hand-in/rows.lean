section
def lw_okq (q : MethodName × Nat) : Prop := (q.1.cls ≠ "java/lang/invoke/MethodHandle" ∧ q.1.cls ≠ "java/lang/invoke/VarHandle") ∧ Cond.instantiable q.1.cls q.2 ∈ tables_1 ∧ Cond.privateMethod q.1 ∈ tables_1 ∧ Cond.instanceMethod q.1 ∈ tables_1
theorem lw_p0 : lw_okq (⟨"VersionRows", "hasField", "(II)Z"⟩, 4) := ⟨⟨by decide +kernel, by decide +kernel⟩, List.mem_of_getElem? (i := 8) (by decide +kernel), List.mem_of_getElem? (i := 118) (by decide +kernel), List.mem_of_getElem? (i := 119) (by decide +kernel)⟩
theorem lw_p1 : lw_okq (⟨"VersionRows", "isLocked", "(I)Z"⟩, 4) := ⟨⟨by decide +kernel, by decide +kernel⟩, List.mem_of_getElem? (i := 8) (by decide +kernel), List.mem_of_getElem? (i := 127) (by decide +kernel), List.mem_of_getElem? (i := 128) (by decide +kernel)⟩
theorem lw_p2 : lw_okq (⟨"VersionRows", "isRefusedDeletion", "(IIJ)Z"⟩, 4) := ⟨⟨by decide +kernel, by decide +kernel⟩, List.mem_of_getElem? (i := 8) (by decide +kernel), List.mem_of_getElem? (i := 140) (by decide +kernel), List.mem_of_getElem? (i := 141) (by decide +kernel)⟩
theorem lw_p3 : lw_okq (⟨"VersionRows$Acts", "isOf", "(III)Z"⟩, 8) := ⟨⟨by decide +kernel, by decide +kernel⟩, List.mem_of_getElem? (i := 37) (by decide +kernel), List.mem_of_getElem? (i := 152) (by decide +kernel), List.mem_of_getElem? (i := 153) (by decide +kernel)⟩
theorem lw_p4 : lw_okq (⟨"VersionRows$Acts", "putNewestInOrder", "()V"⟩, 8) := ⟨⟨by decide +kernel, by decide +kernel⟩, List.mem_of_getElem? (i := 37) (by decide +kernel), List.mem_of_getElem? (i := 160) (by decide +kernel), List.mem_of_getElem? (i := 161) (by decide +kernel)⟩
theorem lw_p5 : lw_okq (⟨"VersionRows$Acts", "isBehind", "(II)Z"⟩, 8) := ⟨⟨by decide +kernel, by decide +kernel⟩, List.mem_of_getElem? (i := 37) (by decide +kernel), List.mem_of_getElem? (i := 164) (by decide +kernel), List.mem_of_getElem? (i := 165) (by decide +kernel)⟩
theorem lw_p6 : lw_okq (⟨"VersionRows", "isLeanedOn", "(I)Z"⟩, 4) := ⟨⟨by decide +kernel, by decide +kernel⟩, List.mem_of_getElem? (i := 8) (by decide +kernel), List.mem_of_getElem? (i := 200) (by decide +kernel), List.mem_of_getElem? (i := 201) (by decide +kernel)⟩
theorem lw_p7 : lw_okq (⟨"VersionRows$Batches", "isAnyTaken", "(II)Z"⟩, 2) := ⟨⟨by decide +kernel, by decide +kernel⟩, List.mem_of_getElem? (i := 79) (by decide +kernel), List.mem_of_getElem? (i := 250) (by decide +kernel), List.mem_of_getElem? (i := 251) (by decide +kernel)⟩
theorem lw_p8 : lw_okq (⟨"VersionRows", "isLeanedOnFromOutside", "(I)Z"⟩, 4) := ⟨⟨by decide +kernel, by decide +kernel⟩, List.mem_of_getElem? (i := 8) (by decide +kernel), List.mem_of_getElem? (i := 262) (by decide +kernel), List.mem_of_getElem? (i := 263) (by decide +kernel)⟩
theorem lw_p9 : lw_okq (⟨"VersionRows", "countsInBatch", "(II)Z"⟩, 4) := ⟨⟨by decide +kernel, by decide +kernel⟩, List.mem_of_getElem? (i := 8) (by decide +kernel), List.mem_of_getElem? (i := 266) (by decide +kernel), List.mem_of_getElem? (i := 267) (by decide +kernel)⟩
theorem lw_p10 : lw_okq (⟨"VersionRows", "isLeanedOnOutside", "(II)Z"⟩, 4) := ⟨⟨by decide +kernel, by decide +kernel⟩, List.mem_of_getElem? (i := 8) (by decide +kernel), List.mem_of_getElem? (i := 274) (by decide +kernel), List.mem_of_getElem? (i := 275) (by decide +kernel)⟩
theorem lw_p11 : lw_okq (⟨"VersionRowsModel", "isField", "(II)Z"⟩, 15) := ⟨⟨by decide +kernel, by decide +kernel⟩, List.mem_of_getElem? (i := 294) (by decide +kernel), List.mem_of_getElem? (i := 356) (by decide +kernel), List.mem_of_getElem? (i := 357) (by decide +kernel)⟩
theorem lw_p12 : lw_okq (⟨"VersionRowsModel", "isRecord", "(I)Z"⟩, 15) := ⟨⟨by decide +kernel, by decide +kernel⟩, List.mem_of_getElem? (i := 294) (by decide +kernel), List.mem_of_getElem? (i := 360) (by decide +kernel), List.mem_of_getElem? (i := 361) (by decide +kernel)⟩
theorem lw_p13 : lw_okq (⟨"VersionRowsModel", "isLocked", "(I)Z"⟩, 15) := ⟨⟨by decide +kernel, by decide +kernel⟩, List.mem_of_getElem? (i := 294) (by decide +kernel), List.mem_of_getElem? (i := 365) (by decide +kernel), List.mem_of_getElem? (i := 366) (by decide +kernel)⟩
theorem lw_p14 : lw_okq (⟨"VersionRowsModel", "now", "()J"⟩, 15) := ⟨⟨by decide +kernel, by decide +kernel⟩, List.mem_of_getElem? (i := 294) (by decide +kernel), List.mem_of_getElem? (i := 369) (by decide +kernel), List.mem_of_getElem? (i := 370) (by decide +kernel)⟩
theorem lw_p15 : lw_okq (⟨"VersionRowsModel", "last", "(IIJ)I"⟩, 15) := ⟨⟨by decide +kernel, by decide +kernel⟩, List.mem_of_getElem? (i := 294) (by decide +kernel), List.mem_of_getElem? (i := 377) (by decide +kernel), List.mem_of_getElem? (i := 378) (by decide +kernel)⟩
def lw_privs_1 : List (MethodName × Nat) := [(⟨"VersionRows", "hasField", "(II)Z"⟩, 4), (⟨"VersionRows", "isLocked", "(I)Z"⟩, 4), (⟨"VersionRows", "isRefusedDeletion", "(IIJ)Z"⟩, 4), (⟨"VersionRows$Acts", "isOf", "(III)Z"⟩, 8), (⟨"VersionRows$Acts", "putNewestInOrder", "()V"⟩, 8), (⟨"VersionRows$Acts", "isBehind", "(II)Z"⟩, 8), (⟨"VersionRows", "isLeanedOn", "(I)Z"⟩, 4), (⟨"VersionRows$Batches", "isAnyTaken", "(II)Z"⟩, 2), (⟨"VersionRows", "isLeanedOnFromOutside", "(I)Z"⟩, 4), (⟨"VersionRows", "countsInBatch", "(II)Z"⟩, 4), (⟨"VersionRows", "isLeanedOnOutside", "(II)Z"⟩, 4), (⟨"VersionRowsModel", "isField", "(II)Z"⟩, 15), (⟨"VersionRowsModel", "isRecord", "(I)Z"⟩, 15), (⟨"VersionRowsModel", "isLocked", "(I)Z"⟩, 15), (⟨"VersionRowsModel", "now", "()J"⟩, 15), (⟨"VersionRowsModel", "last", "(IIJ)I"⟩, 15)]
theorem lw_r1 : ∀ q ∈ lw_privs_1, lw_okq q := List.forall_mem_cons.mpr ⟨lw_p0, List.forall_mem_cons.mpr ⟨lw_p1, List.forall_mem_cons.mpr ⟨lw_p2, List.forall_mem_cons.mpr ⟨lw_p3, List.forall_mem_cons.mpr ⟨lw_p4, List.forall_mem_cons.mpr ⟨lw_p5, List.forall_mem_cons.mpr ⟨lw_p6, List.forall_mem_cons.mpr ⟨lw_p7, List.forall_mem_cons.mpr ⟨lw_p8, List.forall_mem_cons.mpr ⟨lw_p9, List.forall_mem_cons.mpr ⟨lw_p10, List.forall_mem_cons.mpr ⟨lw_p11, List.forall_mem_cons.mpr ⟨lw_p12, List.forall_mem_cons.mpr ⟨lw_p13, List.forall_mem_cons.mpr ⟨lw_p14, List.forall_mem_cons.mpr ⟨lw_p15, fun _ h => absurd h List.not_mem_nil⟩⟩⟩⟩⟩⟩⟩⟩⟩⟩⟩⟩⟩⟩⟩⟩
theorem lw_p16 : lw_okq (⟨"VersionRowsModel", "isOf", "(III)Z"⟩, 15) := ⟨⟨by decide +kernel, by decide +kernel⟩, List.mem_of_getElem? (i := 294) (by decide +kernel), List.mem_of_getElem? (i := 381) (by decide +kernel), List.mem_of_getElem? (i := 382) (by decide +kernel)⟩
theorem lw_p17 : lw_okq (⟨"VersionRowsModel", "isBefore", "(II)Z"⟩, 15) := ⟨⟨by decide +kernel, by decide +kernel⟩, List.mem_of_getElem? (i := 294) (by decide +kernel), List.mem_of_getElem? (i := 385) (by decide +kernel), List.mem_of_getElem? (i := 386) (by decide +kernel)⟩
theorem lw_p18 : lw_okq (⟨"VersionRowsModel", "isAct", "(I)Z"⟩, 15) := ⟨⟨by decide +kernel, by decide +kernel⟩, List.mem_of_getElem? (i := 294) (by decide +kernel), List.mem_of_getElem? (i := 398) (by decide +kernel), List.mem_of_getElem? (i := 399) (by decide +kernel)⟩
theorem lw_p19 : lw_okq (⟨"VersionRowsModel", "isLeantOn", "(II)Z"⟩, 15) := ⟨⟨by decide +kernel, by decide +kernel⟩, List.mem_of_getElem? (i := 294) (by decide +kernel), List.mem_of_getElem? (i := 402) (by decide +kernel), List.mem_of_getElem? (i := 403) (by decide +kernel)⟩
def lw_privs_2 : List (MethodName × Nat) := [(⟨"VersionRowsModel", "isOf", "(III)Z"⟩, 15), (⟨"VersionRowsModel", "isBefore", "(II)Z"⟩, 15), (⟨"VersionRowsModel", "isAct", "(I)Z"⟩, 15), (⟨"VersionRowsModel", "isLeantOn", "(II)Z"⟩, 15)]
theorem lw_r2 : ∀ q ∈ lw_privs_2, lw_okq q := List.forall_mem_cons.mpr ⟨lw_p16, List.forall_mem_cons.mpr ⟨lw_p17, List.forall_mem_cons.mpr ⟨lw_p18, List.forall_mem_cons.mpr ⟨lw_p19, fun _ h => absurd h List.not_mem_nil⟩⟩⟩⟩
def lw_privs : List (MethodName × Nat) := lw_privs_1 ++ (lw_privs_2)
def lw_tbl : List Cond := k2_sels lw_privs ++ tables_1
theorem lw_privs_ok : ∀ q ∈ lw_privs, lw_okq q := by
  show ∀ q ∈ lw_privs_1 ++ (lw_privs_2), lw_okq q
  exact List.forall_mem_append.mpr ⟨lw_r1, lw_r2⟩

/-- the words that stay true while the program runs -/
def vr_T : List Cond := lw_tbl.filter goodWord
theorem vr_f {w : Cond} (h : w ∈ lw_tbl) (g : goodWord w = true) : w ∈ vr_T := List.mem_filter.mpr ⟨h, g⟩
theorem vr_fin {ws : List Cond} (h : ∀ w ∈ ws, w ∈ lw_tbl) (g : ws.all goodWord = true) : ∀ w ∈ ws, w ∈ vr_T := fun w hw => vr_f (h w hw) (List.all_eq_true.mp g w hw)
def RX0 : String := "VersionRows$Acts"
def TX0 : u_T := fun k => match k with
  | 0 => ("VersionRows$Acts", "records", "[I", true)
  | 1 => ("VersionRows$Acts", "fields", "[I", true)
  | 2 => ("VersionRows$Acts", "values", "[I", true)
  | 3 => ("VersionRows$Acts", "valids", "[J", true)
  | 4 => ("VersionRows$Acts", "knowns", "[J", true)
  | 5 => ("VersionRows$Acts", "counting", "[Z", true)
  | 6 => ("VersionRows$Acts", "ordered", "[I", true)
  | _ => ("VersionRows$Acts", "count", "I", false)
def tyX0 : Nat → FieldType := fun k => match k with
  | 0 => (.array .int)
  | 1 => (.array .int)
  | 2 => (.array .int)
  | 3 => (.array .long)
  | 4 => (.array .long)
  | 5 => (.array .boolean)
  | 6 => (.array .int)
  | _ => .int
theorem nmX0 : ∀ a, a < 8 → ∀ b, b < 8 → a ≠ b → (TX0 a).2.1 ≠ (TX0 b).2.1 := by decide +kernel
theorem tyX0_ok : ∀ k, k < 8 → parseFieldDescriptor (TX0 k).2.2.1 = some (tyX0 k) := by decide +kernel
set_option maxRecDepth 100000 in
theorem inX0 : ∀ w ∈ u_ws RX0 TX0 8, w ∈ vr_T := vr_fin (by decide +kernel) (by decide +kernel)
def RX1 : String := "VersionRows$Batches"
def TX1 : u_T := fun k => match k with
  | 0 => ("VersionRows$Batches", "batchOfAct", "[I", true)
  | _ => ("VersionRows$Batches", "count", "I", false)
def tyX1 : Nat → FieldType := fun k => match k with
  | 0 => (.array .int)
  | _ => .int
theorem nmX1 : ∀ a, a < 2 → ∀ b, b < 2 → a ≠ b → (TX1 a).2.1 ≠ (TX1 b).2.1 := by decide +kernel
theorem tyX1_ok : ∀ k, k < 2 → parseFieldDescriptor (TX1 k).2.2.1 = some (tyX1 k) := by decide +kernel
set_option maxRecDepth 100000 in
theorem inX1 : ∀ w ∈ u_ws RX1 TX1 2, w ∈ vr_T := vr_fin (by decide +kernel) (by decide +kernel)
def RX2 : String := "VersionRows$Leans"
def TX2 : u_T := fun k => match k with
  | _ => ("VersionRows$Leans", "words", "[J", true)
def tyX2 : Nat → FieldType := fun k => match k with
  | _ => (.array .long)
theorem nmX2 : ∀ a, a < 1 → ∀ b, b < 1 → a ≠ b → (TX2 a).2.1 ≠ (TX2 b).2.1 := by decide +kernel
theorem tyX2_ok : ∀ k, k < 1 → parseFieldDescriptor (TX2 k).2.2.1 = some (tyX2 k) := by decide +kernel
set_option maxRecDepth 100000 in
theorem inX2 : ∀ w ∈ u_ws RX2 TX2 1, w ∈ vr_T := vr_fin (by decide +kernel) (by decide +kernel)
def RX3 : String := "VersionRows$Records"
def TX3 : u_T := fun k => match k with
  | 0 => ("VersionRows$Records", "kinds", "[I", true)
  | 1 => ("VersionRows$Records", "lockers", "[I", true)
  | 2 => ("VersionRows$Records", "untils", "[J", true)
  | _ => ("VersionRows$Records", "count", "I", false)
def tyX3 : Nat → FieldType := fun k => match k with
  | 0 => (.array .int)
  | 1 => (.array .int)
  | 2 => (.array .long)
  | _ => .int
theorem nmX3 : ∀ a, a < 4 → ∀ b, b < 4 → a ≠ b → (TX3 a).2.1 ≠ (TX3 b).2.1 := by decide +kernel
theorem tyX3_ok : ∀ k, k < 4 → parseFieldDescriptor (TX3 k).2.2.1 = some (tyX3 k) := by decide +kernel
set_option maxRecDepth 100000 in
theorem inX3 : ∀ w ∈ u_ws RX3 TX3 4, w ∈ vr_T := vr_fin (by decide +kernel) (by decide +kernel)
def RX4 : String := "VersionRows"
def TX4 : u_T := fun k => match k with
  | 0 => ("VersionRows", "records", "LVersionRows$Records;", true)
  | 1 => ("VersionRows", "acts", "LVersionRows$Acts;", true)
  | 2 => ("VersionRows", "leans", "LVersionRows$Leans;", true)
  | _ => ("VersionRows", "batches", "LVersionRows$Batches;", true)
def tyX4 : Nat → FieldType := fun k => match k with
  | 0 => (.object "VersionRows$Records")
  | 1 => (.object "VersionRows$Acts")
  | 2 => (.object "VersionRows$Leans")
  | _ => (.object "VersionRows$Batches")
theorem nmX4 : ∀ a, a < 4 → ∀ b, b < 4 → a ≠ b → (TX4 a).2.1 ≠ (TX4 b).2.1 := by decide +kernel
theorem tyX4_ok : ∀ k, k < 4 → parseFieldDescriptor (TX4 k).2.2.1 = some (tyX4 k) := by decide +kernel
set_option maxRecDepth 100000 in
theorem inX4 : ∀ w ∈ u_ws RX4 TX4 4, w ∈ vr_T := vr_fin (by decide +kernel) (by decide +kernel)
def RX5 : String := "VersionRowsModel"
def TX5 : u_T := fun k => match k with
  | 0 => ("VersionRowsModel", "thrown", "I", false)
  | 1 => ("VersionRowsModel", "records", "I", false)
  | 2 => ("VersionRowsModel", "kinds", "[I", true)
  | 3 => ("VersionRowsModel", "lockers", "[I", true)
  | 4 => ("VersionRowsModel", "untils", "[J", true)
  | 5 => ("VersionRowsModel", "acts", "I", false)
  | 6 => ("VersionRowsModel", "record", "[I", true)
  | 7 => ("VersionRowsModel", "field", "[I", true)
  | 8 => ("VersionRowsModel", "value", "[I", true)
  | 9 => ("VersionRowsModel", "valid", "[J", true)
  | 10 => ("VersionRowsModel", "known", "[J", true)
  | 11 => ("VersionRowsModel", "undone", "[Z", true)
  | 12 => ("VersionRowsModel", "batch", "[I", true)
  | 13 => ("VersionRowsModel", "leans", "[Z", true)
  | _ => ("VersionRowsModel", "batches", "I", false)
def tyX5 : Nat → FieldType := fun k => match k with
  | 0 => .int
  | 1 => .int
  | 2 => (.array .int)
  | 3 => (.array .int)
  | 4 => (.array .long)
  | 5 => .int
  | 6 => (.array .int)
  | 7 => (.array .int)
  | 8 => (.array .int)
  | 9 => (.array .long)
  | 10 => (.array .long)
  | 11 => (.array .boolean)
  | 12 => (.array .int)
  | 13 => (.array .boolean)
  | _ => .int
theorem nmX5 : ∀ a, a < 15 → ∀ b, b < 15 → a ≠ b → (TX5 a).2.1 ≠ (TX5 b).2.1 := by decide +kernel
theorem tyX5_ok : ∀ k, k < 15 → parseFieldDescriptor (TX5 k).2.2.1 = some (tyX5 k) := by decide +kernel
set_option maxRecDepth 100000 in
theorem inX5 : ∀ w ∈ u_ws RX5 TX5 15, w ∈ vr_T := vr_fin (by decide +kernel) (by decide +kernel)
def RL : String := "VersionRowsLaw"
abbrev vwCl : List vw_C := [(RX0, TX0, 8), (RX1, TX1, 2), (RX2, TX2, 1), (RX3, TX3, 4), (RX4, TX4, 4), (RX5, TX5, 15)]
theorem vr_m {c w : Cond} (h : w ∈ vr_T) : w ∈ c :: vr_T := List.mem_cons_of_mem _ h
theorem vr_in {c : Cond} {ws : List Cond} (h : ∀ w ∈ ws, w ∈ vr_T) : ∀ w ∈ ws, w ∈ c :: vr_T := fun w q => List.mem_cons_of_mem _ (h w q)
theorem vr_good0 : GoodIn vr_T vr_T := fun w h => ⟨h, good_of_word (List.mem_filter.mp h).2⟩
theorem vr_goodc {c : Cond} {big : List Cond} (hb : ∀ w ∈ vr_T, w ∈ big) (h : c ∈ vr_T) : GoodIn big (c :: vr_T) := fun w hw => by
  have hq : w ∈ vr_T := (List.mem_cons.mp hw).elim (fun e => e ▸ h) id
  exact ⟨hb w hq, (vr_good0 w hq).2⟩
theorem vr_gV {own C : String} {idx : Nat} {y : MethodName} {c : Cond} {big : List Cond} (hb : ∀ w ∈ vr_T, w ∈ big) (h1 : Cond.methodLink own idx y ∈ vr_T) (h2 : Cond.instanceMethod y ∈ vr_T) (h3 : Cond.selects C y y ∈ vr_T) (h4 : Cond.initialized C ∈ vr_T) (h5 : c ∈ vr_T) : GoodIn big (wsV own idx C y (c :: vr_T)) := fun w hw => by
  have hq : w ∈ vr_T := by
    unfold wsV at hw
    rcases List.mem_append.mp hw with h | h
    · simp only [List.mem_cons, List.not_mem_nil, or_false] at h
      rcases h with rfl | rfl | rfl | rfl
      · exact h1
      · exact h2
      · exact h3
      · exact h4
    · exact (List.mem_cons.mp h).elim (fun e => e ▸ h5) id
  exact ⟨hb w hq, (vr_good0 w hq).2⟩
theorem vr_gS {own : String} {idx : Nat} {y : MethodName} {c : Cond} {big : List Cond} (hb : ∀ w ∈ vr_T, w ∈ big) (h1 : Cond.methodLink own idx y ∈ vr_T) (h2 : Cond.static y ∈ vr_T) (h4 : Cond.initialized own ∈ vr_T) (h5 : c ∈ vr_T) : GoodIn big (wsS own idx y (c :: vr_T)) := fun w hw => by
  have hq : w ∈ vr_T := by
    unfold wsS at hw
    rcases List.mem_append.mp hw with h | h
    · simp only [List.mem_cons, List.not_mem_nil, or_false] at h
      rcases h with rfl | rfl | rfl
      · exact h1
      · exact h2
      · exact h4
    · exact (List.mem_cons.mp h).elim (fun e => e ▸ h5) id
  exact ⟨hb w hq, (vr_good0 w hq).2⟩
theorem vr_hbc {c : Cond} : ∀ w ∈ vr_T, w ∈ c :: vr_T := fun _ h => List.mem_cons_of_mem _ h
theorem vr_hb0 : ∀ w ∈ vr_T, w ∈ vr_T := fun _ h => h
abbrev cX4_init : ByteArray := prog_1_method_1_code
def yX4_init : MethodName := ⟨RX4, "<init>", "()V"⟩
abbrev wsX4_init : List Cond := .code yX4_init cX4_init 1 none :: vr_T
set_option maxRecDepth 100000 in
theorem cdX4_init : Cond.code yX4_init cX4_init 1 none ∈ vr_T := vr_f (List.mem_of_getElem? (i := 31) rfl) rfl
set_option maxRecDepth 100000 in
theorem imX4_init : Cond.instanceMethod yX4_init ∈ vr_T := vr_f (List.mem_of_getElem? (i := 30) (by decide +kernel)) rfl
abbrev cX3_init : ByteArray := prog_5_method_1_code
def yX3_init : MethodName := ⟨RX3, "<init>", "()V"⟩
abbrev wsX3_init : List Cond := .code yX3_init cX3_init 1 none :: vr_T
set_option maxRecDepth 100000 in
theorem cdX3_init : Cond.code yX3_init cX3_init 1 none ∈ vr_T := vr_f (List.mem_of_getElem? (i := 39) rfl) rfl
set_option maxRecDepth 100000 in
theorem imX3_init : Cond.instanceMethod yX3_init ∈ vr_T := vr_f (List.mem_of_getElem? (i := 38) (by decide +kernel)) rfl
abbrev cX0_init : ByteArray := prog_2_method_1_code
def yX0_init : MethodName := ⟨RX0, "<init>", "()V"⟩
abbrev wsX0_init : List Cond := .code yX0_init cX0_init 1 none :: vr_T
set_option maxRecDepth 100000 in
theorem cdX0_init : Cond.code yX0_init cX0_init 1 none ∈ vr_T := vr_f (List.mem_of_getElem? (i := 60) rfl) rfl
set_option maxRecDepth 100000 in
theorem imX0_init : Cond.instanceMethod yX0_init ∈ vr_T := vr_f (List.mem_of_getElem? (i := 59) (by decide +kernel)) rfl
abbrev cX2_init : ByteArray := prog_4_method_1_code
def yX2_init : MethodName := ⟨RX2, "<init>", "()V"⟩
abbrev wsX2_init : List Cond := .code yX2_init cX2_init 1 none :: vr_T
set_option maxRecDepth 100000 in
theorem cdX2_init : Cond.code yX2_init cX2_init 1 none ∈ vr_T := vr_f (List.mem_of_getElem? (i := 92) rfl) rfl
set_option maxRecDepth 100000 in
theorem imX2_init : Cond.instanceMethod yX2_init ∈ vr_T := vr_f (List.mem_of_getElem? (i := 91) (by decide +kernel)) rfl
abbrev cX1_init : ByteArray := prog_3_method_1_code
def yX1_init : MethodName := ⟨RX1, "<init>", "()V"⟩
abbrev wsX1_init : List Cond := .code yX1_init cX1_init 1 none :: vr_T
set_option maxRecDepth 100000 in
theorem cdX1_init : Cond.code yX1_init cX1_init 1 none ∈ vr_T := vr_f (List.mem_of_getElem? (i := 102) rfl) rfl
set_option maxRecDepth 100000 in
theorem imX1_init : Cond.instanceMethod yX1_init ∈ vr_T := vr_f (List.mem_of_getElem? (i := 101) (by decide +kernel)) rfl
abbrev cX4_record : ByteArray := prog_1_method_2_code
def yX4_record : MethodName := ⟨RX4, "record", "(I)I"⟩
abbrev wsX4_record : List Cond := .code yX4_record cX4_record 2 (some .int) :: vr_T
set_option maxRecDepth 100000 in
theorem cdX4_record : Cond.code yX4_record cX4_record 2 (some .int) ∈ vr_T := vr_f (List.mem_of_getElem? (i := 127) rfl) rfl
set_option maxRecDepth 100000 in
theorem imX4_record : Cond.instanceMethod yX4_record ∈ vr_T := vr_f (List.mem_of_getElem? (i := 125) (by decide +kernel)) rfl
set_option maxRecDepth 100000 in
theorem seX4_record : Cond.selects RX4 yX4_record yX4_record ∈ vr_T := vr_f (List.mem_of_getElem? (i := 126) (by decide +kernel)) rfl
abbrev cX3_add : ByteArray := prog_5_method_3_code
def yX3_add : MethodName := ⟨RX3, "add", "(I)I"⟩
abbrev wsX3_add : List Cond := .code yX3_add cX3_add 2 (some .int) :: vr_T
set_option maxRecDepth 100000 in
theorem cdX3_add : Cond.code yX3_add cX3_add 2 (some .int) ∈ vr_T := vr_f (List.mem_of_getElem? (i := 131) rfl) rfl
set_option maxRecDepth 100000 in
theorem imX3_add : Cond.instanceMethod yX3_add ∈ vr_T := vr_f (List.mem_of_getElem? (i := 129) (by decide +kernel)) rfl
set_option maxRecDepth 100000 in
theorem seX3_add : Cond.selects RX3 yX3_add yX3_add ∈ vr_T := vr_f (List.mem_of_getElem? (i := 130) (by decide +kernel)) rfl
abbrev cX4_act : ByteArray := prog_1_method_3_code
def yX4_act : MethodName := ⟨RX4, "act", "(IIJJJ)I"⟩
abbrev wsX4_act : List Cond := .code yX4_act cX4_act 11 (some .int) :: vr_T
set_option maxRecDepth 100000 in
theorem cdX4_act : Cond.code yX4_act cX4_act 11 (some .int) ∈ vr_T := vr_f (List.mem_of_getElem? (i := 136) rfl) rfl
set_option maxRecDepth 100000 in
theorem imX4_act : Cond.instanceMethod yX4_act ∈ vr_T := vr_f (List.mem_of_getElem? (i := 134) (by decide +kernel)) rfl
set_option maxRecDepth 100000 in
theorem seX4_act : Cond.selects RX4 yX4_act yX4_act ∈ vr_T := vr_f (List.mem_of_getElem? (i := 135) (by decide +kernel)) rfl
abbrev cX4_hasField : ByteArray := prog_1_method_13_code
def yX4_hasField : MethodName := ⟨RX4, "hasField", "(II)Z"⟩
abbrev wsX4_hasField : List Cond := .code yX4_hasField cX4_hasField 3 (some .boolean) :: vr_T
set_option maxRecDepth 100000 in
theorem cdX4_hasField : Cond.code yX4_hasField cX4_hasField 3 (some .boolean) ∈ vr_T := vr_f (List.mem_of_getElem? (i := 140) rfl) rfl
set_option maxRecDepth 100000 in
theorem imX4_hasField : Cond.instanceMethod yX4_hasField ∈ vr_T := vr_f (List.mem_of_getElem? (i := 139) (by decide +kernel)) rfl
set_option maxRecDepth 100000 in
theorem seX4_hasField : Cond.selects RX4 yX4_hasField yX4_hasField ∈ vr_T := vr_f (List.mem_of_getElem? (i := 0) (by decide +kernel)) rfl
abbrev cX3_has : ByteArray := prog_5_method_2_code
def yX3_has : MethodName := ⟨RX3, "has", "(I)Z"⟩
abbrev wsX3_has : List Cond := .code yX3_has cX3_has 2 (some .boolean) :: vr_T
set_option maxRecDepth 100000 in
theorem cdX3_has : Cond.code yX3_has cX3_has 2 (some .boolean) ∈ vr_T := vr_f (List.mem_of_getElem? (i := 144) rfl) rfl
set_option maxRecDepth 100000 in
theorem imX3_has : Cond.instanceMethod yX3_has ∈ vr_T := vr_f (List.mem_of_getElem? (i := 142) (by decide +kernel)) rfl
set_option maxRecDepth 100000 in
theorem seX3_has : Cond.selects RX3 yX3_has yX3_has ∈ vr_T := vr_f (List.mem_of_getElem? (i := 143) (by decide +kernel)) rfl
abbrev cX4_isLocked : ByteArray := prog_1_method_14_code
def yX4_isLocked : MethodName := ⟨RX4, "isLocked", "(I)Z"⟩
abbrev wsX4_isLocked : List Cond := .code yX4_isLocked cX4_isLocked 2 (some .boolean) :: vr_T
set_option maxRecDepth 100000 in
theorem cdX4_isLocked : Cond.code yX4_isLocked cX4_isLocked 2 (some .boolean) ∈ vr_T := vr_f (List.mem_of_getElem? (i := 149) rfl) rfl
set_option maxRecDepth 100000 in
theorem imX4_isLocked : Cond.instanceMethod yX4_isLocked ∈ vr_T := vr_f (List.mem_of_getElem? (i := 148) (by decide +kernel)) rfl
set_option maxRecDepth 100000 in
theorem seX4_isLocked : Cond.selects RX4 yX4_isLocked yX4_isLocked ∈ vr_T := vr_f (List.mem_of_getElem? (i := 1) (by decide +kernel)) rfl
abbrev cX0_now : ByteArray := prog_2_method_7_code
def yX0_now : MethodName := ⟨RX0, "now", "()J"⟩
abbrev wsX0_now : List Cond := .code yX0_now cX0_now 1 (some .long) :: vr_T
set_option maxRecDepth 100000 in
theorem cdX0_now : Cond.code yX0_now cX0_now 1 (some .long) ∈ vr_T := vr_f (List.mem_of_getElem? (i := 153) rfl) rfl
set_option maxRecDepth 100000 in
theorem imX0_now : Cond.instanceMethod yX0_now ∈ vr_T := vr_f (List.mem_of_getElem? (i := 151) (by decide +kernel)) rfl
set_option maxRecDepth 100000 in
theorem seX0_now : Cond.selects RX0 yX0_now yX0_now ∈ vr_T := vr_f (List.mem_of_getElem? (i := 152) (by decide +kernel)) rfl
abbrev cX3_until : ByteArray := prog_5_method_6_code
def yX3_until : MethodName := ⟨RX3, "until", "(I)J"⟩
abbrev wsX3_until : List Cond := .code yX3_until cX3_until 2 (some .long) :: vr_T
set_option maxRecDepth 100000 in
theorem cdX3_until : Cond.code yX3_until cX3_until 2 (some .long) ∈ vr_T := vr_f (List.mem_of_getElem? (i := 158) rfl) rfl
set_option maxRecDepth 100000 in
theorem imX3_until : Cond.instanceMethod yX3_until ∈ vr_T := vr_f (List.mem_of_getElem? (i := 156) (by decide +kernel)) rfl
set_option maxRecDepth 100000 in
theorem seX3_until : Cond.selects RX3 yX3_until yX3_until ∈ vr_T := vr_f (List.mem_of_getElem? (i := 157) (by decide +kernel)) rfl
abbrev cX4_isRefusedDeletion : ByteArray := prog_1_method_15_code
def yX4_isRefusedDeletion : MethodName := ⟨RX4, "isRefusedDeletion", "(IIJ)Z"⟩
abbrev wsX4_isRefusedDeletion : List Cond := .code yX4_isRefusedDeletion cX4_isRefusedDeletion 5 (some .boolean) :: vr_T
set_option maxRecDepth 100000 in
theorem cdX4_isRefusedDeletion : Cond.code yX4_isRefusedDeletion cX4_isRefusedDeletion 5 (some .boolean) ∈ vr_T := vr_f (List.mem_of_getElem? (i := 162) rfl) rfl
set_option maxRecDepth 100000 in
theorem imX4_isRefusedDeletion : Cond.instanceMethod yX4_isRefusedDeletion ∈ vr_T := vr_f (List.mem_of_getElem? (i := 161) (by decide +kernel)) rfl
set_option maxRecDepth 100000 in
theorem seX4_isRefusedDeletion : Cond.selects RX4 yX4_isRefusedDeletion yX4_isRefusedDeletion ∈ vr_T := vr_f (List.mem_of_getElem? (i := 2) (by decide +kernel)) rfl
abbrev cX3_kind : ByteArray := prog_5_method_4_code
def yX3_kind : MethodName := ⟨RX3, "kind", "(I)I"⟩
abbrev wsX3_kind : List Cond := .code yX3_kind cX3_kind 2 (some .int) :: vr_T
set_option maxRecDepth 100000 in
theorem cdX3_kind : Cond.code yX3_kind cX3_kind 2 (some .int) ∈ vr_T := vr_f (List.mem_of_getElem? (i := 166) rfl) rfl
set_option maxRecDepth 100000 in
theorem imX3_kind : Cond.instanceMethod yX3_kind ∈ vr_T := vr_f (List.mem_of_getElem? (i := 164) (by decide +kernel)) rfl
set_option maxRecDepth 100000 in
theorem seX3_kind : Cond.selects RX3 yX3_kind yX3_kind ∈ vr_T := vr_f (List.mem_of_getElem? (i := 165) (by decide +kernel)) rfl
abbrev cX0_findCounting : ByteArray := prog_2_method_12_code
def yX0_findCounting : MethodName := ⟨RX0, "findCounting", "(IIIJJ)I"⟩
abbrev wsX0_findCounting : List Cond := .code yX0_findCounting cX0_findCounting 9 (some .int) :: vr_T
set_option maxRecDepth 100000 in
theorem cdX0_findCounting : Cond.code yX0_findCounting cX0_findCounting 9 (some .int) ∈ vr_T := vr_f (List.mem_of_getElem? (i := 170) rfl) rfl
set_option maxRecDepth 100000 in
theorem imX0_findCounting : Cond.instanceMethod yX0_findCounting ∈ vr_T := vr_f (List.mem_of_getElem? (i := 168) (by decide +kernel)) rfl
set_option maxRecDepth 100000 in
theorem seX0_findCounting : Cond.selects RX0 yX0_findCounting yX0_findCounting ∈ vr_T := vr_f (List.mem_of_getElem? (i := 169) (by decide +kernel)) rfl
abbrev cX0_isOf : ByteArray := prog_2_method_16_code
def yX0_isOf : MethodName := ⟨RX0, "isOf", "(III)Z"⟩
abbrev wsX0_isOf : List Cond := .code yX0_isOf cX0_isOf 4 (some .boolean) :: vr_T
set_option maxRecDepth 100000 in
theorem cdX0_isOf : Cond.code yX0_isOf cX0_isOf 4 (some .boolean) ∈ vr_T := vr_f (List.mem_of_getElem? (i := 174) rfl) rfl
set_option maxRecDepth 100000 in
theorem imX0_isOf : Cond.instanceMethod yX0_isOf ∈ vr_T := vr_f (List.mem_of_getElem? (i := 173) (by decide +kernel)) rfl
set_option maxRecDepth 100000 in
theorem seX0_isOf : Cond.selects RX0 yX0_isOf yX0_isOf ∈ vr_T := vr_f (List.mem_of_getElem? (i := 3) (by decide +kernel)) rfl
abbrev cX0_add : ByteArray := prog_2_method_9_code
def yX0_add : MethodName := ⟨RX0, "add", "(IIIJJ)I"⟩
abbrev wsX0_add : List Cond := .code yX0_add cX0_add 8 (some .int) :: vr_T
set_option maxRecDepth 100000 in
theorem cdX0_add : Cond.code yX0_add cX0_add 8 (some .int) ∈ vr_T := vr_f (List.mem_of_getElem? (i := 178) rfl) rfl
set_option maxRecDepth 100000 in
theorem imX0_add : Cond.instanceMethod yX0_add ∈ vr_T := vr_f (List.mem_of_getElem? (i := 176) (by decide +kernel)) rfl
set_option maxRecDepth 100000 in
theorem seX0_add : Cond.selects RX0 yX0_add yX0_add ∈ vr_T := vr_f (List.mem_of_getElem? (i := 177) (by decide +kernel)) rfl
abbrev cX0_putNewestInOrder : ByteArray := prog_2_method_10_code
def yX0_putNewestInOrder : MethodName := ⟨RX0, "putNewestInOrder", "()V"⟩
abbrev wsX0_putNewestInOrder : List Cond := .code yX0_putNewestInOrder cX0_putNewestInOrder 2 none :: vr_T
set_option maxRecDepth 100000 in
theorem cdX0_putNewestInOrder : Cond.code yX0_putNewestInOrder cX0_putNewestInOrder 2 none ∈ vr_T := vr_f (List.mem_of_getElem? (i := 182) rfl) rfl
set_option maxRecDepth 100000 in
theorem imX0_putNewestInOrder : Cond.instanceMethod yX0_putNewestInOrder ∈ vr_T := vr_f (List.mem_of_getElem? (i := 181) (by decide +kernel)) rfl
set_option maxRecDepth 100000 in
theorem seX0_putNewestInOrder : Cond.selects RX0 yX0_putNewestInOrder yX0_putNewestInOrder ∈ vr_T := vr_f (List.mem_of_getElem? (i := 4) (by decide +kernel)) rfl
abbrev cX0_isBehind : ByteArray := prog_2_method_11_code
def yX0_isBehind : MethodName := ⟨RX0, "isBehind", "(II)Z"⟩
abbrev wsX0_isBehind : List Cond := .code yX0_isBehind cX0_isBehind 3 (some .boolean) :: vr_T
set_option maxRecDepth 100000 in
theorem cdX0_isBehind : Cond.code yX0_isBehind cX0_isBehind 3 (some .boolean) ∈ vr_T := vr_f (List.mem_of_getElem? (i := 186) rfl) rfl
set_option maxRecDepth 100000 in
theorem imX0_isBehind : Cond.instanceMethod yX0_isBehind ∈ vr_T := vr_f (List.mem_of_getElem? (i := 185) (by decide +kernel)) rfl
set_option maxRecDepth 100000 in
theorem seX0_isBehind : Cond.selects RX0 yX0_isBehind yX0_isBehind ∈ vr_T := vr_f (List.mem_of_getElem? (i := 5) (by decide +kernel)) rfl
abbrev cX4_at : ByteArray := prog_1_method_4_code
def yX4_at : MethodName := ⟨RX4, "at", "(IIJ)I"⟩
abbrev wsX4_at : List Cond := .code yX4_at cX4_at 6 (some .int) :: vr_T
set_option maxRecDepth 100000 in
theorem cdX4_at : Cond.code yX4_at cX4_at 6 (some .int) ∈ vr_T := vr_f (List.mem_of_getElem? (i := 190) rfl) rfl
set_option maxRecDepth 100000 in
theorem imX4_at : Cond.instanceMethod yX4_at ∈ vr_T := vr_f (List.mem_of_getElem? (i := 188) (by decide +kernel)) rfl
set_option maxRecDepth 100000 in
theorem seX4_at : Cond.selects RX4 yX4_at yX4_at ∈ vr_T := vr_f (List.mem_of_getElem? (i := 189) (by decide +kernel)) rfl
abbrev cX0_lastCounting : ByteArray := prog_2_method_13_code
def yX0_lastCounting : MethodName := ⟨RX0, "lastCounting", "(IIJ)I"⟩
abbrev wsX0_lastCounting : List Cond := .code yX0_lastCounting cX0_lastCounting 7 (some .int) :: vr_T
set_option maxRecDepth 100000 in
theorem cdX0_lastCounting : Cond.code yX0_lastCounting cX0_lastCounting 7 (some .int) ∈ vr_T := vr_f (List.mem_of_getElem? (i := 194) rfl) rfl
set_option maxRecDepth 100000 in
theorem imX0_lastCounting : Cond.instanceMethod yX0_lastCounting ∈ vr_T := vr_f (List.mem_of_getElem? (i := 192) (by decide +kernel)) rfl
set_option maxRecDepth 100000 in
theorem seX0_lastCounting : Cond.selects RX0 yX0_lastCounting yX0_lastCounting ∈ vr_T := vr_f (List.mem_of_getElem? (i := 193) (by decide +kernel)) rfl
abbrev cX0_value : ByteArray := prog_2_method_5_code
def yX0_value : MethodName := ⟨RX0, "value", "(I)I"⟩
abbrev wsX0_value : List Cond := .code yX0_value cX0_value 2 (some .int) :: vr_T
set_option maxRecDepth 100000 in
theorem cdX0_value : Cond.code yX0_value cX0_value 2 (some .int) ∈ vr_T := vr_f (List.mem_of_getElem? (i := 198) rfl) rfl
set_option maxRecDepth 100000 in
theorem imX0_value : Cond.instanceMethod yX0_value ∈ vr_T := vr_f (List.mem_of_getElem? (i := 196) (by decide +kernel)) rfl
set_option maxRecDepth 100000 in
theorem seX0_value : Cond.selects RX0 yX0_value yX0_value ∈ vr_T := vr_f (List.mem_of_getElem? (i := 197) (by decide +kernel)) rfl
abbrev cX4_stale : ByteArray := prog_1_method_5_code
def yX4_stale : MethodName := ⟨RX4, "stale", "(IJI)I"⟩
abbrev wsX4_stale : List Cond := .code yX4_stale cX4_stale 7 (some .int) :: vr_T
set_option maxRecDepth 100000 in
theorem cdX4_stale : Cond.code yX4_stale cX4_stale 7 (some .int) ∈ vr_T := vr_f (List.mem_of_getElem? (i := 202) rfl) rfl
set_option maxRecDepth 100000 in
theorem imX4_stale : Cond.instanceMethod yX4_stale ∈ vr_T := vr_f (List.mem_of_getElem? (i := 200) (by decide +kernel)) rfl
set_option maxRecDepth 100000 in
theorem seX4_stale : Cond.selects RX4 yX4_stale yX4_stale ∈ vr_T := vr_f (List.mem_of_getElem? (i := 201) (by decide +kernel)) rfl
abbrev cX0_known : ByteArray := prog_2_method_6_code
def yX0_known : MethodName := ⟨RX0, "known", "(I)J"⟩
abbrev wsX0_known : List Cond := .code yX0_known cX0_known 2 (some .long) :: vr_T
set_option maxRecDepth 100000 in
theorem cdX0_known : Cond.code yX0_known cX0_known 2 (some .long) ∈ vr_T := vr_f (List.mem_of_getElem? (i := 206) rfl) rfl
set_option maxRecDepth 100000 in
theorem imX0_known : Cond.instanceMethod yX0_known ∈ vr_T := vr_f (List.mem_of_getElem? (i := 204) (by decide +kernel)) rfl
set_option maxRecDepth 100000 in
theorem seX0_known : Cond.selects RX0 yX0_known yX0_known ∈ vr_T := vr_f (List.mem_of_getElem? (i := 205) (by decide +kernel)) rfl
abbrev cX4_undo : ByteArray := prog_1_method_6_code
def yX4_undo : MethodName := ⟨RX4, "undo", "(I)I"⟩
abbrev wsX4_undo : List Cond := .code yX4_undo cX4_undo 2 (some .int) :: vr_T
set_option maxRecDepth 100000 in
theorem cdX4_undo : Cond.code yX4_undo cX4_undo 2 (some .int) ∈ vr_T := vr_f (List.mem_of_getElem? (i := 210) rfl) rfl
set_option maxRecDepth 100000 in
theorem imX4_undo : Cond.instanceMethod yX4_undo ∈ vr_T := vr_f (List.mem_of_getElem? (i := 208) (by decide +kernel)) rfl
set_option maxRecDepth 100000 in
theorem seX4_undo : Cond.selects RX4 yX4_undo yX4_undo ∈ vr_T := vr_f (List.mem_of_getElem? (i := 209) (by decide +kernel)) rfl
abbrev cX0_has : ByteArray := prog_2_method_2_code
def yX0_has : MethodName := ⟨RX0, "has", "(I)Z"⟩
abbrev wsX0_has : List Cond := .code yX0_has cX0_has 2 (some .boolean) :: vr_T
set_option maxRecDepth 100000 in
theorem cdX0_has : Cond.code yX0_has cX0_has 2 (some .boolean) ∈ vr_T := vr_f (List.mem_of_getElem? (i := 214) rfl) rfl
set_option maxRecDepth 100000 in
theorem imX0_has : Cond.instanceMethod yX0_has ∈ vr_T := vr_f (List.mem_of_getElem? (i := 212) (by decide +kernel)) rfl
set_option maxRecDepth 100000 in
theorem seX0_has : Cond.selects RX0 yX0_has yX0_has ∈ vr_T := vr_f (List.mem_of_getElem? (i := 213) (by decide +kernel)) rfl
abbrev cX0_counts : ByteArray := prog_2_method_4_code
def yX0_counts : MethodName := ⟨RX0, "counts", "(I)Z"⟩
abbrev wsX0_counts : List Cond := .code yX0_counts cX0_counts 2 (some .boolean) :: vr_T
set_option maxRecDepth 100000 in
theorem cdX0_counts : Cond.code yX0_counts cX0_counts 2 (some .boolean) ∈ vr_T := vr_f (List.mem_of_getElem? (i := 218) rfl) rfl
set_option maxRecDepth 100000 in
theorem imX0_counts : Cond.instanceMethod yX0_counts ∈ vr_T := vr_f (List.mem_of_getElem? (i := 216) (by decide +kernel)) rfl
set_option maxRecDepth 100000 in
theorem seX0_counts : Cond.selects RX0 yX0_counts yX0_counts ∈ vr_T := vr_f (List.mem_of_getElem? (i := 217) (by decide +kernel)) rfl
abbrev cX4_isLeanedOn : ByteArray := prog_1_method_16_code
def yX4_isLeanedOn : MethodName := ⟨RX4, "isLeanedOn", "(I)Z"⟩
abbrev wsX4_isLeanedOn : List Cond := .code yX4_isLeanedOn cX4_isLeanedOn 3 (some .boolean) :: vr_T
set_option maxRecDepth 100000 in
theorem cdX4_isLeanedOn : Cond.code yX4_isLeanedOn cX4_isLeanedOn 3 (some .boolean) ∈ vr_T := vr_f (List.mem_of_getElem? (i := 222) rfl) rfl
set_option maxRecDepth 100000 in
theorem imX4_isLeanedOn : Cond.instanceMethod yX4_isLeanedOn ∈ vr_T := vr_f (List.mem_of_getElem? (i := 221) (by decide +kernel)) rfl
set_option maxRecDepth 100000 in
theorem seX4_isLeanedOn : Cond.selects RX4 yX4_isLeanedOn yX4_isLeanedOn ∈ vr_T := vr_f (List.mem_of_getElem? (i := 6) (by decide +kernel)) rfl
abbrev cX0_count : ByteArray := prog_2_method_3_code
def yX0_count : MethodName := ⟨RX0, "count", "()I"⟩
abbrev wsX0_count : List Cond := .code yX0_count cX0_count 1 (some .int) :: vr_T
set_option maxRecDepth 100000 in
theorem cdX0_count : Cond.code yX0_count cX0_count 1 (some .int) ∈ vr_T := vr_f (List.mem_of_getElem? (i := 226) rfl) rfl
set_option maxRecDepth 100000 in
theorem imX0_count : Cond.instanceMethod yX0_count ∈ vr_T := vr_f (List.mem_of_getElem? (i := 224) (by decide +kernel)) rfl
set_option maxRecDepth 100000 in
theorem seX0_count : Cond.selects RX0 yX0_count yX0_count ∈ vr_T := vr_f (List.mem_of_getElem? (i := 225) (by decide +kernel)) rfl
abbrev cX2_has : ByteArray := prog_4_method_2_code
def yX2_has : MethodName := ⟨RX2, "has", "(II)Z"⟩
abbrev wsX2_has : List Cond := .code yX2_has cX2_has 3 (some .boolean) :: vr_T
set_option maxRecDepth 100000 in
theorem cdX2_has : Cond.code yX2_has cX2_has 3 (some .boolean) ∈ vr_T := vr_f (List.mem_of_getElem? (i := 230) rfl) rfl
set_option maxRecDepth 100000 in
theorem imX2_has : Cond.instanceMethod yX2_has ∈ vr_T := vr_f (List.mem_of_getElem? (i := 228) (by decide +kernel)) rfl
set_option maxRecDepth 100000 in
theorem seX2_has : Cond.selects RX2 yX2_has yX2_has ∈ vr_T := vr_f (List.mem_of_getElem? (i := 229) (by decide +kernel)) rfl
abbrev cX2_wordOf : ByteArray := prog_4_method_4_code
def yX2_wordOf : MethodName := ⟨RX2, "wordOf", "(II)I"⟩
abbrev wsX2_wordOf : List Cond := .code yX2_wordOf cX2_wordOf 2 (some .int) :: vr_T
set_option maxRecDepth 100000 in
theorem cdX2_wordOf : Cond.code yX2_wordOf cX2_wordOf 2 (some .int) ∈ vr_T := vr_f (List.mem_of_getElem? (i := 233) rfl) rfl
set_option maxRecDepth 100000 in
theorem stX2_wordOf : Cond.static yX2_wordOf ∈ vr_T := vr_f (List.mem_of_getElem? (i := 232) (by decide +kernel)) rfl
abbrev cX2_bitOf : ByteArray := prog_4_method_5_code
def yX2_bitOf : MethodName := ⟨RX2, "bitOf", "(I)J"⟩
abbrev wsX2_bitOf : List Cond := .code yX2_bitOf cX2_bitOf 1 (some .long) :: vr_T
set_option maxRecDepth 100000 in
theorem cdX2_bitOf : Cond.code yX2_bitOf cX2_bitOf 1 (some .long) ∈ vr_T := vr_f (List.mem_of_getElem? (i := 236) rfl) rfl
set_option maxRecDepth 100000 in
theorem stX2_bitOf : Cond.static yX2_bitOf ∈ vr_T := vr_f (List.mem_of_getElem? (i := 235) (by decide +kernel)) rfl
abbrev cX0_setUndone : ByteArray := prog_2_method_8_code
def yX0_setUndone : MethodName := ⟨RX0, "setUndone", "(I)V"⟩
abbrev wsX0_setUndone : List Cond := .code yX0_setUndone cX0_setUndone 2 none :: vr_T
set_option maxRecDepth 100000 in
theorem cdX0_setUndone : Cond.code yX0_setUndone cX0_setUndone 2 none ∈ vr_T := vr_f (List.mem_of_getElem? (i := 240) rfl) rfl
set_option maxRecDepth 100000 in
theorem imX0_setUndone : Cond.instanceMethod yX0_setUndone ∈ vr_T := vr_f (List.mem_of_getElem? (i := 238) (by decide +kernel)) rfl
set_option maxRecDepth 100000 in
theorem seX0_setUndone : Cond.selects RX0 yX0_setUndone yX0_setUndone ∈ vr_T := vr_f (List.mem_of_getElem? (i := 239) (by decide +kernel)) rfl
abbrev cX4_lean : ByteArray := prog_1_method_7_code
def yX4_lean : MethodName := ⟨RX4, "lean", "(II)I"⟩
abbrev wsX4_lean : List Cond := .code yX4_lean cX4_lean 3 (some .int) :: vr_T
set_option maxRecDepth 100000 in
theorem cdX4_lean : Cond.code yX4_lean cX4_lean 3 (some .int) ∈ vr_T := vr_f (List.mem_of_getElem? (i := 244) rfl) rfl
set_option maxRecDepth 100000 in
theorem imX4_lean : Cond.instanceMethod yX4_lean ∈ vr_T := vr_f (List.mem_of_getElem? (i := 242) (by decide +kernel)) rfl
set_option maxRecDepth 100000 in
theorem seX4_lean : Cond.selects RX4 yX4_lean yX4_lean ∈ vr_T := vr_f (List.mem_of_getElem? (i := 243) (by decide +kernel)) rfl
abbrev cX2_add : ByteArray := prog_4_method_3_code
def yX2_add : MethodName := ⟨RX2, "add", "(II)V"⟩
abbrev wsX2_add : List Cond := .code yX2_add cX2_add 3 none :: vr_T
set_option maxRecDepth 100000 in
theorem cdX2_add : Cond.code yX2_add cX2_add 3 none ∈ vr_T := vr_f (List.mem_of_getElem? (i := 248) rfl) rfl
set_option maxRecDepth 100000 in
theorem imX2_add : Cond.instanceMethod yX2_add ∈ vr_T := vr_f (List.mem_of_getElem? (i := 246) (by decide +kernel)) rfl
set_option maxRecDepth 100000 in
theorem seX2_add : Cond.selects RX2 yX2_add yX2_add ∈ vr_T := vr_f (List.mem_of_getElem? (i := 247) (by decide +kernel)) rfl
abbrev cX4_lock : ByteArray := prog_1_method_8_code
def yX4_lock : MethodName := ⟨RX4, "lock", "(IIJ)I"⟩
abbrev wsX4_lock : List Cond := .code yX4_lock cX4_lock 5 (some .int) :: vr_T
set_option maxRecDepth 100000 in
theorem cdX4_lock : Cond.code yX4_lock cX4_lock 5 (some .int) ∈ vr_T := vr_f (List.mem_of_getElem? (i := 252) rfl) rfl
set_option maxRecDepth 100000 in
theorem imX4_lock : Cond.instanceMethod yX4_lock ∈ vr_T := vr_f (List.mem_of_getElem? (i := 250) (by decide +kernel)) rfl
set_option maxRecDepth 100000 in
theorem seX4_lock : Cond.selects RX4 yX4_lock yX4_lock ∈ vr_T := vr_f (List.mem_of_getElem? (i := 251) (by decide +kernel)) rfl
abbrev cX3_locker : ByteArray := prog_5_method_5_code
def yX3_locker : MethodName := ⟨RX3, "locker", "(I)I"⟩
abbrev wsX3_locker : List Cond := .code yX3_locker cX3_locker 2 (some .int) :: vr_T
set_option maxRecDepth 100000 in
theorem cdX3_locker : Cond.code yX3_locker cX3_locker 2 (some .int) ∈ vr_T := vr_f (List.mem_of_getElem? (i := 256) rfl) rfl
set_option maxRecDepth 100000 in
theorem imX3_locker : Cond.instanceMethod yX3_locker ∈ vr_T := vr_f (List.mem_of_getElem? (i := 254) (by decide +kernel)) rfl
set_option maxRecDepth 100000 in
theorem seX3_locker : Cond.selects RX3 yX3_locker yX3_locker ∈ vr_T := vr_f (List.mem_of_getElem? (i := 255) (by decide +kernel)) rfl
abbrev cX3_setLock : ByteArray := prog_5_method_7_code
def yX3_setLock : MethodName := ⟨RX3, "setLock", "(IIJ)V"⟩
abbrev wsX3_setLock : List Cond := .code yX3_setLock cX3_setLock 5 none :: vr_T
set_option maxRecDepth 100000 in
theorem cdX3_setLock : Cond.code yX3_setLock cX3_setLock 5 none ∈ vr_T := vr_f (List.mem_of_getElem? (i := 260) rfl) rfl
set_option maxRecDepth 100000 in
theorem imX3_setLock : Cond.instanceMethod yX3_setLock ∈ vr_T := vr_f (List.mem_of_getElem? (i := 258) (by decide +kernel)) rfl
set_option maxRecDepth 100000 in
theorem seX3_setLock : Cond.selects RX3 yX3_setLock yX3_setLock ∈ vr_T := vr_f (List.mem_of_getElem? (i := 259) (by decide +kernel)) rfl
abbrev cX4_batch : ByteArray := prog_1_method_9_code
def yX4_batch : MethodName := ⟨RX4, "batch", "(II)I"⟩
abbrev wsX4_batch : List Cond := .code yX4_batch cX4_batch 3 (some .int) :: vr_T
set_option maxRecDepth 100000 in
theorem cdX4_batch : Cond.code yX4_batch cX4_batch 3 (some .int) ∈ vr_T := vr_f (List.mem_of_getElem? (i := 264) rfl) rfl
set_option maxRecDepth 100000 in
theorem imX4_batch : Cond.instanceMethod yX4_batch ∈ vr_T := vr_f (List.mem_of_getElem? (i := 262) (by decide +kernel)) rfl
set_option maxRecDepth 100000 in
theorem seX4_batch : Cond.selects RX4 yX4_batch yX4_batch ∈ vr_T := vr_f (List.mem_of_getElem? (i := 263) (by decide +kernel)) rfl
abbrev cX1_add : ByteArray := prog_3_method_4_code
def yX1_add : MethodName := ⟨RX1, "add", "(II)I"⟩
abbrev wsX1_add : List Cond := .code yX1_add cX1_add 4 (some .int) :: vr_T
set_option maxRecDepth 100000 in
theorem cdX1_add : Cond.code yX1_add cX1_add 4 (some .int) ∈ vr_T := vr_f (List.mem_of_getElem? (i := 268) rfl) rfl
set_option maxRecDepth 100000 in
theorem imX1_add : Cond.instanceMethod yX1_add ∈ vr_T := vr_f (List.mem_of_getElem? (i := 266) (by decide +kernel)) rfl
set_option maxRecDepth 100000 in
theorem seX1_add : Cond.selects RX1 yX1_add yX1_add ∈ vr_T := vr_f (List.mem_of_getElem? (i := 267) (by decide +kernel)) rfl
abbrev cX1_isAnyTaken : ByteArray := prog_3_method_5_code
def yX1_isAnyTaken : MethodName := ⟨RX1, "isAnyTaken", "(II)Z"⟩
abbrev wsX1_isAnyTaken : List Cond := .code yX1_isAnyTaken cX1_isAnyTaken 4 (some .boolean) :: vr_T
set_option maxRecDepth 100000 in
theorem cdX1_isAnyTaken : Cond.code yX1_isAnyTaken cX1_isAnyTaken 4 (some .boolean) ∈ vr_T := vr_f (List.mem_of_getElem? (i := 272) rfl) rfl
set_option maxRecDepth 100000 in
theorem imX1_isAnyTaken : Cond.instanceMethod yX1_isAnyTaken ∈ vr_T := vr_f (List.mem_of_getElem? (i := 271) (by decide +kernel)) rfl
set_option maxRecDepth 100000 in
theorem seX1_isAnyTaken : Cond.selects RX1 yX1_isAnyTaken yX1_isAnyTaken ∈ vr_T := vr_f (List.mem_of_getElem? (i := 7) (by decide +kernel)) rfl
abbrev cX4_drop : ByteArray := prog_1_method_10_code
def yX4_drop : MethodName := ⟨RX4, "drop", "(I)I"⟩
abbrev wsX4_drop : List Cond := .code yX4_drop cX4_drop 4 (some .int) :: vr_T
set_option maxRecDepth 100000 in
theorem cdX4_drop : Cond.code yX4_drop cX4_drop 4 (some .int) ∈ vr_T := vr_f (List.mem_of_getElem? (i := 276) rfl) rfl
set_option maxRecDepth 100000 in
theorem imX4_drop : Cond.instanceMethod yX4_drop ∈ vr_T := vr_f (List.mem_of_getElem? (i := 274) (by decide +kernel)) rfl
set_option maxRecDepth 100000 in
theorem seX4_drop : Cond.selects RX4 yX4_drop yX4_drop ∈ vr_T := vr_f (List.mem_of_getElem? (i := 275) (by decide +kernel)) rfl
abbrev cX1_has : ByteArray := prog_3_method_2_code
def yX1_has : MethodName := ⟨RX1, "has", "(I)Z"⟩
abbrev wsX1_has : List Cond := .code yX1_has cX1_has 2 (some .boolean) :: vr_T
set_option maxRecDepth 100000 in
theorem cdX1_has : Cond.code yX1_has cX1_has 2 (some .boolean) ∈ vr_T := vr_f (List.mem_of_getElem? (i := 280) rfl) rfl
set_option maxRecDepth 100000 in
theorem imX1_has : Cond.instanceMethod yX1_has ∈ vr_T := vr_f (List.mem_of_getElem? (i := 278) (by decide +kernel)) rfl
set_option maxRecDepth 100000 in
theorem seX1_has : Cond.selects RX1 yX1_has yX1_has ∈ vr_T := vr_f (List.mem_of_getElem? (i := 279) (by decide +kernel)) rfl
abbrev cX4_isLeanedOnFromOutside : ByteArray := prog_1_method_17_code
def yX4_isLeanedOnFromOutside : MethodName := ⟨RX4, "isLeanedOnFromOutside", "(I)Z"⟩
abbrev wsX4_isLeanedOnFromOutside : List Cond := .code yX4_isLeanedOnFromOutside cX4_isLeanedOnFromOutside 3 (some .boolean) :: vr_T
set_option maxRecDepth 100000 in
theorem cdX4_isLeanedOnFromOutside : Cond.code yX4_isLeanedOnFromOutside cX4_isLeanedOnFromOutside 3 (some .boolean) ∈ vr_T := vr_f (List.mem_of_getElem? (i := 284) rfl) rfl
set_option maxRecDepth 100000 in
theorem imX4_isLeanedOnFromOutside : Cond.instanceMethod yX4_isLeanedOnFromOutside ∈ vr_T := vr_f (List.mem_of_getElem? (i := 283) (by decide +kernel)) rfl
set_option maxRecDepth 100000 in
theorem seX4_isLeanedOnFromOutside : Cond.selects RX4 yX4_isLeanedOnFromOutside yX4_isLeanedOnFromOutside ∈ vr_T := vr_f (List.mem_of_getElem? (i := 8) (by decide +kernel)) rfl
abbrev cX4_countsInBatch : ByteArray := prog_1_method_19_code
def yX4_countsInBatch : MethodName := ⟨RX4, "countsInBatch", "(II)Z"⟩
abbrev wsX4_countsInBatch : List Cond := .code yX4_countsInBatch cX4_countsInBatch 3 (some .boolean) :: vr_T
set_option maxRecDepth 100000 in
theorem cdX4_countsInBatch : Cond.code yX4_countsInBatch cX4_countsInBatch 3 (some .boolean) ∈ vr_T := vr_f (List.mem_of_getElem? (i := 288) rfl) rfl
set_option maxRecDepth 100000 in
theorem imX4_countsInBatch : Cond.instanceMethod yX4_countsInBatch ∈ vr_T := vr_f (List.mem_of_getElem? (i := 287) (by decide +kernel)) rfl
set_option maxRecDepth 100000 in
theorem seX4_countsInBatch : Cond.selects RX4 yX4_countsInBatch yX4_countsInBatch ∈ vr_T := vr_f (List.mem_of_getElem? (i := 9) (by decide +kernel)) rfl
abbrev cX1_of : ByteArray := prog_3_method_3_code
def yX1_of : MethodName := ⟨RX1, "of", "(I)I"⟩
abbrev wsX1_of : List Cond := .code yX1_of cX1_of 2 (some .int) :: vr_T
set_option maxRecDepth 100000 in
theorem cdX1_of : Cond.code yX1_of cX1_of 2 (some .int) ∈ vr_T := vr_f (List.mem_of_getElem? (i := 292) rfl) rfl
set_option maxRecDepth 100000 in
theorem imX1_of : Cond.instanceMethod yX1_of ∈ vr_T := vr_f (List.mem_of_getElem? (i := 290) (by decide +kernel)) rfl
set_option maxRecDepth 100000 in
theorem seX1_of : Cond.selects RX1 yX1_of yX1_of ∈ vr_T := vr_f (List.mem_of_getElem? (i := 291) (by decide +kernel)) rfl
abbrev cX4_isLeanedOnOutside : ByteArray := prog_1_method_18_code
def yX4_isLeanedOnOutside : MethodName := ⟨RX4, "isLeanedOnOutside", "(II)Z"⟩
abbrev wsX4_isLeanedOnOutside : List Cond := .code yX4_isLeanedOnOutside cX4_isLeanedOnOutside 4 (some .boolean) :: vr_T
set_option maxRecDepth 100000 in
theorem cdX4_isLeanedOnOutside : Cond.code yX4_isLeanedOnOutside cX4_isLeanedOnOutside 4 (some .boolean) ∈ vr_T := vr_f (List.mem_of_getElem? (i := 296) rfl) rfl
set_option maxRecDepth 100000 in
theorem imX4_isLeanedOnOutside : Cond.instanceMethod yX4_isLeanedOnOutside ∈ vr_T := vr_f (List.mem_of_getElem? (i := 295) (by decide +kernel)) rfl
set_option maxRecDepth 100000 in
theorem seX4_isLeanedOnOutside : Cond.selects RX4 yX4_isLeanedOnOutside yX4_isLeanedOnOutside ∈ vr_T := vr_f (List.mem_of_getElem? (i := 10) (by decide +kernel)) rfl
abbrev cX4_conflict : ByteArray := prog_1_method_11_code
def yX4_conflict : MethodName := ⟨RX4, "conflict", "(II)I"⟩
abbrev wsX4_conflict : List Cond := .code yX4_conflict cX4_conflict 7 (some .int) :: vr_T
set_option maxRecDepth 100000 in
theorem cdX4_conflict : Cond.code yX4_conflict cX4_conflict 7 (some .int) ∈ vr_T := vr_f (List.mem_of_getElem? (i := 300) rfl) rfl
set_option maxRecDepth 100000 in
theorem imX4_conflict : Cond.instanceMethod yX4_conflict ∈ vr_T := vr_f (List.mem_of_getElem? (i := 298) (by decide +kernel)) rfl
set_option maxRecDepth 100000 in
theorem seX4_conflict : Cond.selects RX4 yX4_conflict yX4_conflict ∈ vr_T := vr_f (List.mem_of_getElem? (i := 299) (by decide +kernel)) rfl
abbrev cX0_areInConflict : ByteArray := prog_2_method_15_code
def yX0_areInConflict : MethodName := ⟨RX0, "areInConflict", "(II)Z"⟩
abbrev wsX0_areInConflict : List Cond := .code yX0_areInConflict cX0_areInConflict 3 (some .boolean) :: vr_T
set_option maxRecDepth 100000 in
theorem cdX0_areInConflict : Cond.code yX0_areInConflict cX0_areInConflict 3 (some .boolean) ∈ vr_T := vr_f (List.mem_of_getElem? (i := 304) rfl) rfl
set_option maxRecDepth 100000 in
theorem imX0_areInConflict : Cond.instanceMethod yX0_areInConflict ∈ vr_T := vr_f (List.mem_of_getElem? (i := 302) (by decide +kernel)) rfl
set_option maxRecDepth 100000 in
theorem seX0_areInConflict : Cond.selects RX0 yX0_areInConflict yX0_areInConflict ∈ vr_T := vr_f (List.mem_of_getElem? (i := 303) (by decide +kernel)) rfl
abbrev cX4_history : ByteArray := prog_1_method_12_code
def yX4_history : MethodName := ⟨RX4, "history", "(III)I"⟩
abbrev wsX4_history : List Cond := .code yX4_history cX4_history 4 (some .int) :: vr_T
set_option maxRecDepth 100000 in
theorem cdX4_history : Cond.code yX4_history cX4_history 4 (some .int) ∈ vr_T := vr_f (List.mem_of_getElem? (i := 308) rfl) rfl
set_option maxRecDepth 100000 in
theorem imX4_history : Cond.instanceMethod yX4_history ∈ vr_T := vr_f (List.mem_of_getElem? (i := 306) (by decide +kernel)) rfl
set_option maxRecDepth 100000 in
theorem seX4_history : Cond.selects RX4 yX4_history yX4_history ∈ vr_T := vr_f (List.mem_of_getElem? (i := 307) (by decide +kernel)) rfl
abbrev cX0_inOrder : ByteArray := prog_2_method_14_code
def yX0_inOrder : MethodName := ⟨RX0, "inOrder", "(III)I"⟩
abbrev wsX0_inOrder : List Cond := .code yX0_inOrder cX0_inOrder 7 (some .int) :: vr_T
set_option maxRecDepth 100000 in
theorem cdX0_inOrder : Cond.code yX0_inOrder cX0_inOrder 7 (some .int) ∈ vr_T := vr_f (List.mem_of_getElem? (i := 312) rfl) rfl
set_option maxRecDepth 100000 in
theorem imX0_inOrder : Cond.instanceMethod yX0_inOrder ∈ vr_T := vr_f (List.mem_of_getElem? (i := 310) (by decide +kernel)) rfl
set_option maxRecDepth 100000 in
theorem seX0_inOrder : Cond.selects RX0 yX0_inOrder yX0_inOrder ∈ vr_T := vr_f (List.mem_of_getElem? (i := 311) (by decide +kernel)) rfl
abbrev cX5_init : ByteArray := prog_7_method_1_code
def yX5_init : MethodName := ⟨RX5, "<init>", "()V"⟩
abbrev wsX5_init : List Cond := .code yX5_init cX5_init 1 none :: vr_T
set_option maxRecDepth 100000 in
theorem cdX5_init : Cond.code yX5_init cX5_init 1 none ∈ vr_T := vr_f (List.mem_of_getElem? (i := 317) rfl) rfl
set_option maxRecDepth 100000 in
theorem imX5_init : Cond.instanceMethod yX5_init ∈ vr_T := vr_f (List.mem_of_getElem? (i := 316) (by decide +kernel)) rfl
abbrev cX5_record : ByteArray := prog_7_method_6_code
def yX5_record : MethodName := ⟨RX5, "record", "(I)I"⟩
abbrev wsX5_record : List Cond := .code yX5_record cX5_record 2 (some .int) :: vr_T
set_option maxRecDepth 100000 in
theorem cdX5_record : Cond.code yX5_record cX5_record 2 (some .int) ∈ vr_T := vr_f (List.mem_of_getElem? (i := 369) rfl) rfl
set_option maxRecDepth 100000 in
theorem imX5_record : Cond.instanceMethod yX5_record ∈ vr_T := vr_f (List.mem_of_getElem? (i := 367) (by decide +kernel)) rfl
set_option maxRecDepth 100000 in
theorem seX5_record : Cond.selects RX5 yX5_record yX5_record ∈ vr_T := vr_f (List.mem_of_getElem? (i := 368) (by decide +kernel)) rfl
abbrev cX5_act : ByteArray := prog_7_method_9_code
def yX5_act : MethodName := ⟨RX5, "act", "(IIJJJ)I"⟩
abbrev wsX5_act : List Cond := .code yX5_act cX5_act 10 (some .int) :: vr_T
set_option maxRecDepth 100000 in
theorem cdX5_act : Cond.code yX5_act cX5_act 10 (some .int) ∈ vr_T := vr_f (List.mem_of_getElem? (i := 374) rfl) rfl
set_option maxRecDepth 100000 in
theorem imX5_act : Cond.instanceMethod yX5_act ∈ vr_T := vr_f (List.mem_of_getElem? (i := 372) (by decide +kernel)) rfl
set_option maxRecDepth 100000 in
theorem seX5_act : Cond.selects RX5 yX5_act yX5_act ∈ vr_T := vr_f (List.mem_of_getElem? (i := 373) (by decide +kernel)) rfl
abbrev cX5_isField : ByteArray := prog_7_method_5_code
def yX5_isField : MethodName := ⟨RX5, "isField", "(II)Z"⟩
abbrev wsX5_isField : List Cond := .code yX5_isField cX5_isField 3 (some .boolean) :: vr_T
set_option maxRecDepth 100000 in
theorem cdX5_isField : Cond.code yX5_isField cX5_isField 3 (some .boolean) ∈ vr_T := vr_f (List.mem_of_getElem? (i := 378) rfl) rfl
set_option maxRecDepth 100000 in
theorem imX5_isField : Cond.instanceMethod yX5_isField ∈ vr_T := vr_f (List.mem_of_getElem? (i := 377) (by decide +kernel)) rfl
set_option maxRecDepth 100000 in
theorem seX5_isField : Cond.selects RX5 yX5_isField yX5_isField ∈ vr_T := vr_f (List.mem_of_getElem? (i := 11) (by decide +kernel)) rfl
abbrev cX5_isRecord : ByteArray := prog_7_method_3_code
def yX5_isRecord : MethodName := ⟨RX5, "isRecord", "(I)Z"⟩
abbrev wsX5_isRecord : List Cond := .code yX5_isRecord cX5_isRecord 2 (some .boolean) :: vr_T
set_option maxRecDepth 100000 in
theorem cdX5_isRecord : Cond.code yX5_isRecord cX5_isRecord 2 (some .boolean) ∈ vr_T := vr_f (List.mem_of_getElem? (i := 382) rfl) rfl
set_option maxRecDepth 100000 in
theorem imX5_isRecord : Cond.instanceMethod yX5_isRecord ∈ vr_T := vr_f (List.mem_of_getElem? (i := 381) (by decide +kernel)) rfl
set_option maxRecDepth 100000 in
theorem seX5_isRecord : Cond.selects RX5 yX5_isRecord yX5_isRecord ∈ vr_T := vr_f (List.mem_of_getElem? (i := 12) (by decide +kernel)) rfl
abbrev cX5_isLocked : ByteArray := prog_7_method_8_code
def yX5_isLocked : MethodName := ⟨RX5, "isLocked", "(I)Z"⟩
abbrev wsX5_isLocked : List Cond := .code yX5_isLocked cX5_isLocked 2 (some .boolean) :: vr_T
set_option maxRecDepth 100000 in
theorem cdX5_isLocked : Cond.code yX5_isLocked cX5_isLocked 2 (some .boolean) ∈ vr_T := vr_f (List.mem_of_getElem? (i := 387) rfl) rfl
set_option maxRecDepth 100000 in
theorem imX5_isLocked : Cond.instanceMethod yX5_isLocked ∈ vr_T := vr_f (List.mem_of_getElem? (i := 386) (by decide +kernel)) rfl
set_option maxRecDepth 100000 in
theorem seX5_isLocked : Cond.selects RX5 yX5_isLocked yX5_isLocked ∈ vr_T := vr_f (List.mem_of_getElem? (i := 13) (by decide +kernel)) rfl
abbrev cX5_now : ByteArray := prog_7_method_7_code
def yX5_now : MethodName := ⟨RX5, "now", "()J"⟩
abbrev wsX5_now : List Cond := .code yX5_now cX5_now 4 (some .long) :: vr_T
set_option maxRecDepth 100000 in
theorem cdX5_now : Cond.code yX5_now cX5_now 4 (some .long) ∈ vr_T := vr_f (List.mem_of_getElem? (i := 391) rfl) rfl
set_option maxRecDepth 100000 in
theorem imX5_now : Cond.instanceMethod yX5_now ∈ vr_T := vr_f (List.mem_of_getElem? (i := 390) (by decide +kernel)) rfl
set_option maxRecDepth 100000 in
theorem seX5_now : Cond.selects RX5 yX5_now yX5_now ∈ vr_T := vr_f (List.mem_of_getElem? (i := 14) (by decide +kernel)) rfl
abbrev cX5_at : ByteArray := prog_7_method_13_code
def yX5_at : MethodName := ⟨RX5, "at", "(IIJ)I"⟩
abbrev wsX5_at : List Cond := .code yX5_at cX5_at 6 (some .int) :: vr_T
set_option maxRecDepth 100000 in
theorem cdX5_at : Cond.code yX5_at cX5_at 6 (some .int) ∈ vr_T := vr_f (List.mem_of_getElem? (i := 395) rfl) rfl
set_option maxRecDepth 100000 in
theorem imX5_at : Cond.instanceMethod yX5_at ∈ vr_T := vr_f (List.mem_of_getElem? (i := 393) (by decide +kernel)) rfl
set_option maxRecDepth 100000 in
theorem seX5_at : Cond.selects RX5 yX5_at yX5_at ∈ vr_T := vr_f (List.mem_of_getElem? (i := 394) (by decide +kernel)) rfl
abbrev cX5_last : ByteArray := prog_7_method_12_code
def yX5_last : MethodName := ⟨RX5, "last", "(IIJ)I"⟩
abbrev wsX5_last : List Cond := .code yX5_last cX5_last 7 (some .int) :: vr_T
set_option maxRecDepth 100000 in
theorem cdX5_last : Cond.code yX5_last cX5_last 7 (some .int) ∈ vr_T := vr_f (List.mem_of_getElem? (i := 399) rfl) rfl
set_option maxRecDepth 100000 in
theorem imX5_last : Cond.instanceMethod yX5_last ∈ vr_T := vr_f (List.mem_of_getElem? (i := 398) (by decide +kernel)) rfl
set_option maxRecDepth 100000 in
theorem seX5_last : Cond.selects RX5 yX5_last yX5_last ∈ vr_T := vr_f (List.mem_of_getElem? (i := 15) (by decide +kernel)) rfl
abbrev cX5_isOf : ByteArray := prog_7_method_10_code
def yX5_isOf : MethodName := ⟨RX5, "isOf", "(III)Z"⟩
abbrev wsX5_isOf : List Cond := .code yX5_isOf cX5_isOf 4 (some .boolean) :: vr_T
set_option maxRecDepth 100000 in
theorem cdX5_isOf : Cond.code yX5_isOf cX5_isOf 4 (some .boolean) ∈ vr_T := vr_f (List.mem_of_getElem? (i := 403) rfl) rfl
set_option maxRecDepth 100000 in
theorem imX5_isOf : Cond.instanceMethod yX5_isOf ∈ vr_T := vr_f (List.mem_of_getElem? (i := 402) (by decide +kernel)) rfl
set_option maxRecDepth 100000 in
theorem seX5_isOf : Cond.selects RX5 yX5_isOf yX5_isOf ∈ vr_T := vr_f (List.mem_of_getElem? (i := 16) (by decide +kernel)) rfl
abbrev cX5_isBefore : ByteArray := prog_7_method_11_code
def yX5_isBefore : MethodName := ⟨RX5, "isBefore", "(II)Z"⟩
abbrev wsX5_isBefore : List Cond := .code yX5_isBefore cX5_isBefore 3 (some .boolean) :: vr_T
set_option maxRecDepth 100000 in
theorem cdX5_isBefore : Cond.code yX5_isBefore cX5_isBefore 3 (some .boolean) ∈ vr_T := vr_f (List.mem_of_getElem? (i := 407) rfl) rfl
set_option maxRecDepth 100000 in
theorem imX5_isBefore : Cond.instanceMethod yX5_isBefore ∈ vr_T := vr_f (List.mem_of_getElem? (i := 406) (by decide +kernel)) rfl
set_option maxRecDepth 100000 in
theorem seX5_isBefore : Cond.selects RX5 yX5_isBefore yX5_isBefore ∈ vr_T := vr_f (List.mem_of_getElem? (i := 17) (by decide +kernel)) rfl
abbrev cX5_stale : ByteArray := prog_7_method_14_code
def yX5_stale : MethodName := ⟨RX5, "stale", "(IJI)I"⟩
abbrev wsX5_stale : List Cond := .code yX5_stale cX5_stale 7 (some .int) :: vr_T
set_option maxRecDepth 100000 in
theorem cdX5_stale : Cond.code yX5_stale cX5_stale 7 (some .int) ∈ vr_T := vr_f (List.mem_of_getElem? (i := 411) rfl) rfl
set_option maxRecDepth 100000 in
theorem imX5_stale : Cond.instanceMethod yX5_stale ∈ vr_T := vr_f (List.mem_of_getElem? (i := 409) (by decide +kernel)) rfl
set_option maxRecDepth 100000 in
theorem seX5_stale : Cond.selects RX5 yX5_stale yX5_stale ∈ vr_T := vr_f (List.mem_of_getElem? (i := 410) (by decide +kernel)) rfl
abbrev cX5_undo : ByteArray := prog_7_method_16_code
def yX5_undo : MethodName := ⟨RX5, "undo", "(I)I"⟩
abbrev wsX5_undo : List Cond := .code yX5_undo cX5_undo 2 (some .int) :: vr_T
set_option maxRecDepth 100000 in
theorem cdX5_undo : Cond.code yX5_undo cX5_undo 2 (some .int) ∈ vr_T := vr_f (List.mem_of_getElem? (i := 416) rfl) rfl
set_option maxRecDepth 100000 in
theorem imX5_undo : Cond.instanceMethod yX5_undo ∈ vr_T := vr_f (List.mem_of_getElem? (i := 414) (by decide +kernel)) rfl
set_option maxRecDepth 100000 in
theorem seX5_undo : Cond.selects RX5 yX5_undo yX5_undo ∈ vr_T := vr_f (List.mem_of_getElem? (i := 415) (by decide +kernel)) rfl
abbrev cX5_isAct : ByteArray := prog_7_method_4_code
def yX5_isAct : MethodName := ⟨RX5, "isAct", "(I)Z"⟩
abbrev wsX5_isAct : List Cond := .code yX5_isAct cX5_isAct 2 (some .boolean) :: vr_T
set_option maxRecDepth 100000 in
theorem cdX5_isAct : Cond.code yX5_isAct cX5_isAct 2 (some .boolean) ∈ vr_T := vr_f (List.mem_of_getElem? (i := 420) rfl) rfl
set_option maxRecDepth 100000 in
theorem imX5_isAct : Cond.instanceMethod yX5_isAct ∈ vr_T := vr_f (List.mem_of_getElem? (i := 419) (by decide +kernel)) rfl
set_option maxRecDepth 100000 in
theorem seX5_isAct : Cond.selects RX5 yX5_isAct yX5_isAct ∈ vr_T := vr_f (List.mem_of_getElem? (i := 18) (by decide +kernel)) rfl
abbrev cX5_isLeantOn : ByteArray := prog_7_method_15_code
def yX5_isLeantOn : MethodName := ⟨RX5, "isLeantOn", "(II)Z"⟩
abbrev wsX5_isLeantOn : List Cond := .code yX5_isLeantOn cX5_isLeantOn 5 (some .boolean) :: vr_T
set_option maxRecDepth 100000 in
theorem cdX5_isLeantOn : Cond.code yX5_isLeantOn cX5_isLeantOn 5 (some .boolean) ∈ vr_T := vr_f (List.mem_of_getElem? (i := 424) rfl) rfl
set_option maxRecDepth 100000 in
theorem imX5_isLeantOn : Cond.instanceMethod yX5_isLeantOn ∈ vr_T := vr_f (List.mem_of_getElem? (i := 423) (by decide +kernel)) rfl
set_option maxRecDepth 100000 in
theorem seX5_isLeantOn : Cond.selects RX5 yX5_isLeantOn yX5_isLeantOn ∈ vr_T := vr_f (List.mem_of_getElem? (i := 19) (by decide +kernel)) rfl
abbrev cX5_lean : ByteArray := prog_7_method_17_code
def yX5_lean : MethodName := ⟨RX5, "lean", "(II)I"⟩
abbrev wsX5_lean : List Cond := .code yX5_lean cX5_lean 3 (some .int) :: vr_T
set_option maxRecDepth 100000 in
theorem cdX5_lean : Cond.code yX5_lean cX5_lean 3 (some .int) ∈ vr_T := vr_f (List.mem_of_getElem? (i := 428) rfl) rfl
set_option maxRecDepth 100000 in
theorem imX5_lean : Cond.instanceMethod yX5_lean ∈ vr_T := vr_f (List.mem_of_getElem? (i := 426) (by decide +kernel)) rfl
set_option maxRecDepth 100000 in
theorem seX5_lean : Cond.selects RX5 yX5_lean yX5_lean ∈ vr_T := vr_f (List.mem_of_getElem? (i := 427) (by decide +kernel)) rfl
abbrev cX5_lock : ByteArray := prog_7_method_18_code
def yX5_lock : MethodName := ⟨RX5, "lock", "(IIJ)I"⟩
abbrev wsX5_lock : List Cond := .code yX5_lock cX5_lock 5 (some .int) :: vr_T
set_option maxRecDepth 100000 in
theorem cdX5_lock : Cond.code yX5_lock cX5_lock 5 (some .int) ∈ vr_T := vr_f (List.mem_of_getElem? (i := 432) rfl) rfl
set_option maxRecDepth 100000 in
theorem imX5_lock : Cond.instanceMethod yX5_lock ∈ vr_T := vr_f (List.mem_of_getElem? (i := 430) (by decide +kernel)) rfl
set_option maxRecDepth 100000 in
theorem seX5_lock : Cond.selects RX5 yX5_lock yX5_lock ∈ vr_T := vr_f (List.mem_of_getElem? (i := 431) (by decide +kernel)) rfl
abbrev cX5_batch : ByteArray := prog_7_method_19_code
def yX5_batch : MethodName := ⟨RX5, "batch", "(II)I"⟩
abbrev wsX5_batch : List Cond := .code yX5_batch cX5_batch 4 (some .int) :: vr_T
set_option maxRecDepth 100000 in
theorem cdX5_batch : Cond.code yX5_batch cX5_batch 4 (some .int) ∈ vr_T := vr_f (List.mem_of_getElem? (i := 436) rfl) rfl
set_option maxRecDepth 100000 in
theorem imX5_batch : Cond.instanceMethod yX5_batch ∈ vr_T := vr_f (List.mem_of_getElem? (i := 434) (by decide +kernel)) rfl
set_option maxRecDepth 100000 in
theorem seX5_batch : Cond.selects RX5 yX5_batch yX5_batch ∈ vr_T := vr_f (List.mem_of_getElem? (i := 435) (by decide +kernel)) rfl
abbrev cX5_drop : ByteArray := prog_7_method_20_code
def yX5_drop : MethodName := ⟨RX5, "drop", "(I)I"⟩
abbrev wsX5_drop : List Cond := .code yX5_drop cX5_drop 5 (some .int) :: vr_T
set_option maxRecDepth 100000 in
theorem cdX5_drop : Cond.code yX5_drop cX5_drop 5 (some .int) ∈ vr_T := vr_f (List.mem_of_getElem? (i := 440) rfl) rfl
set_option maxRecDepth 100000 in
theorem imX5_drop : Cond.instanceMethod yX5_drop ∈ vr_T := vr_f (List.mem_of_getElem? (i := 438) (by decide +kernel)) rfl
set_option maxRecDepth 100000 in
theorem seX5_drop : Cond.selects RX5 yX5_drop yX5_drop ∈ vr_T := vr_f (List.mem_of_getElem? (i := 439) (by decide +kernel)) rfl
abbrev cX5_conflict : ByteArray := prog_7_method_21_code
def yX5_conflict : MethodName := ⟨RX5, "conflict", "(II)I"⟩
abbrev wsX5_conflict : List Cond := .code yX5_conflict cX5_conflict 6 (some .int) :: vr_T
set_option maxRecDepth 100000 in
theorem cdX5_conflict : Cond.code yX5_conflict cX5_conflict 6 (some .int) ∈ vr_T := vr_f (List.mem_of_getElem? (i := 444) rfl) rfl
set_option maxRecDepth 100000 in
theorem imX5_conflict : Cond.instanceMethod yX5_conflict ∈ vr_T := vr_f (List.mem_of_getElem? (i := 442) (by decide +kernel)) rfl
set_option maxRecDepth 100000 in
theorem seX5_conflict : Cond.selects RX5 yX5_conflict yX5_conflict ∈ vr_T := vr_f (List.mem_of_getElem? (i := 443) (by decide +kernel)) rfl
abbrev cX5_history : ByteArray := prog_7_method_22_code
def yX5_history : MethodName := ⟨RX5, "history", "(III)I"⟩
abbrev wsX5_history : List Cond := .code yX5_history cX5_history 7 (some .int) :: vr_T
set_option maxRecDepth 100000 in
theorem cdX5_history : Cond.code yX5_history cX5_history 7 (some .int) ∈ vr_T := vr_f (List.mem_of_getElem? (i := 448) rfl) rfl
set_option maxRecDepth 100000 in
theorem imX5_history : Cond.instanceMethod yX5_history ∈ vr_T := vr_f (List.mem_of_getElem? (i := 446) (by decide +kernel)) rfl
set_option maxRecDepth 100000 in
theorem seX5_history : Cond.selects RX5 yX5_history yX5_history ∈ vr_T := vr_f (List.mem_of_getElem? (i := 447) (by decide +kernel)) rfl
set_option maxRecDepth 100000 in
theorem iniX0 : Cond.initialized RX0 ∈ vr_T := vr_f (List.mem_of_getElem? (i := 23) (by decide +kernel)) rfl
set_option maxRecDepth 100000 in
theorem insX0 : Cond.instantiable RX0 8 ∈ vr_T := vr_f (List.mem_of_getElem? (i := 57) (by decide +kernel)) rfl
set_option maxRecDepth 100000 in
theorem iniX1 : Cond.initialized RX1 ∈ vr_T := vr_f (List.mem_of_getElem? (i := 25) (by decide +kernel)) rfl
set_option maxRecDepth 100000 in
theorem insX1 : Cond.instantiable RX1 2 ∈ vr_T := vr_f (List.mem_of_getElem? (i := 99) (by decide +kernel)) rfl
set_option maxRecDepth 100000 in
theorem iniX2 : Cond.initialized RX2 ∈ vr_T := vr_f (List.mem_of_getElem? (i := 24) (by decide +kernel)) rfl
set_option maxRecDepth 100000 in
theorem insX2 : Cond.instantiable RX2 1 ∈ vr_T := vr_f (List.mem_of_getElem? (i := 89) (by decide +kernel)) rfl
set_option maxRecDepth 100000 in
theorem iniX3 : Cond.initialized RX3 ∈ vr_T := vr_f (List.mem_of_getElem? (i := 22) (by decide +kernel)) rfl
set_option maxRecDepth 100000 in
theorem insX3 : Cond.instantiable RX3 4 ∈ vr_T := vr_f (List.mem_of_getElem? (i := 36) (by decide +kernel)) rfl
set_option maxRecDepth 100000 in
theorem iniX4 : Cond.initialized RX4 ∈ vr_T := vr_f (List.mem_of_getElem? (i := 21) (by decide +kernel)) rfl
set_option maxRecDepth 100000 in
theorem insX4 : Cond.instantiable RX4 4 ∈ vr_T := vr_f (List.mem_of_getElem? (i := 28) (by decide +kernel)) rfl
set_option maxRecDepth 100000 in
theorem iniX5 : Cond.initialized RX5 ∈ vr_T := vr_f (List.mem_of_getElem? (i := 26) (by decide +kernel)) rfl
set_option maxRecDepth 100000 in
theorem insX5 : Cond.instantiable RX5 15 ∈ vr_T := vr_f (List.mem_of_getElem? (i := 314) (by decide +kernel)) rfl
set_option maxRecDepth 100000 in
theorem iniL : Cond.initialized RL ∈ vr_T := vr_f (List.mem_of_getElem? (i := 20) (by decide +kernel)) rfl
set_option maxRecDepth 100000 in
theorem clL_7 : Cond.classLink RL 7 RX4 ∈ vr_T := vr_f (List.mem_of_getElem? (i := 27) (by decide +kernel)) rfl
set_option maxRecDepth 100000 in
theorem mlL_9 : Cond.methodLink RL 9 yX4_init ∈ vr_T := vr_f (List.mem_of_getElem? (i := 29) (by decide +kernel)) rfl
set_option maxRecDepth 100000 in
theorem mlX4_1 : Cond.methodLink RX4 1 objectInit ∈ vr_T := vr_f (List.mem_of_getElem? (i := 32) (by decide +kernel)) rfl
set_option maxRecDepth 100000 in
theorem clX4_7 : Cond.classLink RX4 7 RX3 ∈ vr_T := vr_f (List.mem_of_getElem? (i := 35) (by decide +kernel)) rfl
set_option maxRecDepth 100000 in
theorem mlX4_9 : Cond.methodLinkNest RX4 9 yX3_init RX4 ∈ lw_tbl := List.mem_of_getElem? (i := 37) (by decide +kernel)
set_option maxRecDepth 100000 in
theorem mlX3_3 : Cond.methodLink RX3 3 objectInit ∈ vr_T := vr_f (List.mem_of_getElem? (i := 40) (by decide +kernel)) rfl
set_option maxRecDepth 100000 in
theorem flX3_9 : Cond.fieldLink RX3 9 "VersionRows$Records" "kinds" "[I" ∈ vr_T := vr_f (List.mem_of_getElem? (i := 41) (by decide +kernel)) rfl
set_option maxRecDepth 100000 in
theorem flX3_15 : Cond.fieldLink RX3 15 "VersionRows$Records" "lockers" "[I" ∈ vr_T := vr_f (List.mem_of_getElem? (i := 42) (by decide +kernel)) rfl
set_option maxRecDepth 100000 in
theorem flX3_18 : Cond.fieldLink RX3 18 "VersionRows$Records" "untils" "[J" ∈ vr_T := vr_f (List.mem_of_getElem? (i := 43) (by decide +kernel)) rfl
set_option maxRecDepth 100000 in
theorem flX3_22 : Cond.fieldLink RX3 22 "VersionRows$Records" "count" "I" ∈ vr_T := vr_f (List.mem_of_getElem? (i := 44) (by decide +kernel)) rfl
set_option maxRecDepth 100000 in
theorem ar_int : Cond.arrayClass .int ∈ vr_T := vr_f (List.mem_of_getElem? (i := 54) (by decide +kernel)) rfl
set_option maxRecDepth 100000 in
theorem ar_long : Cond.arrayClass .long ∈ vr_T := vr_f (List.mem_of_getElem? (i := 55) (by decide +kernel)) rfl
set_option maxRecDepth 100000 in
theorem clX4_16 : Cond.classLink RX4 16 RX0 ∈ vr_T := vr_f (List.mem_of_getElem? (i := 56) (by decide +kernel)) rfl
set_option maxRecDepth 100000 in
theorem mlX4_18 : Cond.methodLinkNest RX4 18 yX0_init RX4 ∈ lw_tbl := List.mem_of_getElem? (i := 58) (by decide +kernel)
set_option maxRecDepth 100000 in
theorem mlX0_3 : Cond.methodLink RX0 3 objectInit ∈ vr_T := vr_f (List.mem_of_getElem? (i := 61) (by decide +kernel)) rfl
set_option maxRecDepth 100000 in
theorem flX0_9 : Cond.fieldLink RX0 9 "VersionRows$Acts" "records" "[I" ∈ vr_T := vr_f (List.mem_of_getElem? (i := 62) (by decide +kernel)) rfl
set_option maxRecDepth 100000 in
theorem flX0_15 : Cond.fieldLink RX0 15 "VersionRows$Acts" "fields" "[I" ∈ vr_T := vr_f (List.mem_of_getElem? (i := 63) (by decide +kernel)) rfl
set_option maxRecDepth 100000 in
theorem flX0_18 : Cond.fieldLink RX0 18 "VersionRows$Acts" "values" "[I" ∈ vr_T := vr_f (List.mem_of_getElem? (i := 64) (by decide +kernel)) rfl
set_option maxRecDepth 100000 in
theorem flX0_21 : Cond.fieldLink RX0 21 "VersionRows$Acts" "valids" "[J" ∈ vr_T := vr_f (List.mem_of_getElem? (i := 65) (by decide +kernel)) rfl
set_option maxRecDepth 100000 in
theorem flX0_25 : Cond.fieldLink RX0 25 "VersionRows$Acts" "knowns" "[J" ∈ vr_T := vr_f (List.mem_of_getElem? (i := 66) (by decide +kernel)) rfl
set_option maxRecDepth 100000 in
theorem flX0_28 : Cond.fieldLink RX0 28 "VersionRows$Acts" "counting" "[Z" ∈ vr_T := vr_f (List.mem_of_getElem? (i := 67) (by decide +kernel)) rfl
set_option maxRecDepth 100000 in
theorem flX0_32 : Cond.fieldLink RX0 32 "VersionRows$Acts" "ordered" "[I" ∈ vr_T := vr_f (List.mem_of_getElem? (i := 68) (by decide +kernel)) rfl
set_option maxRecDepth 100000 in
theorem flX0_35 : Cond.fieldLink RX0 35 "VersionRows$Acts" "count" "I" ∈ vr_T := vr_f (List.mem_of_getElem? (i := 69) (by decide +kernel)) rfl
set_option maxRecDepth 100000 in
theorem ar_boolean : Cond.arrayClass .boolean ∈ vr_T := vr_f (List.mem_of_getElem? (i := 87) (by decide +kernel)) rfl
set_option maxRecDepth 100000 in
theorem clX4_23 : Cond.classLink RX4 23 RX2 ∈ vr_T := vr_f (List.mem_of_getElem? (i := 88) (by decide +kernel)) rfl
set_option maxRecDepth 100000 in
theorem mlX4_25 : Cond.methodLinkNest RX4 25 yX2_init RX4 ∈ lw_tbl := List.mem_of_getElem? (i := 90) (by decide +kernel)
set_option maxRecDepth 100000 in
theorem mlX2_5 : Cond.methodLink RX2 5 objectInit ∈ vr_T := vr_f (List.mem_of_getElem? (i := 93) (by decide +kernel)) rfl
set_option maxRecDepth 100000 in
theorem flX2_11 : Cond.fieldLink RX2 11 "VersionRows$Leans" "words" "[J" ∈ vr_T := vr_f (List.mem_of_getElem? (i := 94) (by decide +kernel)) rfl
set_option maxRecDepth 100000 in
theorem clX4_30 : Cond.classLink RX4 30 RX1 ∈ vr_T := vr_f (List.mem_of_getElem? (i := 98) (by decide +kernel)) rfl
set_option maxRecDepth 100000 in
theorem mlX4_32 : Cond.methodLinkNest RX4 32 yX1_init RX4 ∈ lw_tbl := List.mem_of_getElem? (i := 100) (by decide +kernel)
set_option maxRecDepth 100000 in
theorem mlX1_3 : Cond.methodLink RX1 3 objectInit ∈ vr_T := vr_f (List.mem_of_getElem? (i := 103) (by decide +kernel)) rfl
set_option maxRecDepth 100000 in
theorem flX1_9 : Cond.fieldLink RX1 9 "VersionRows$Batches" "batchOfAct" "[I" ∈ vr_T := vr_f (List.mem_of_getElem? (i := 104) (by decide +kernel)) rfl
set_option maxRecDepth 100000 in
theorem flX1_15 : Cond.fieldLink RX1 15 "VersionRows$Batches" "count" "I" ∈ vr_T := vr_f (List.mem_of_getElem? (i := 105) (by decide +kernel)) rfl
set_option maxRecDepth 100000 in
theorem flX4_10 : Cond.fieldLink RX4 10 "VersionRows" "records" "LVersionRows$Records;" ∈ vr_T := vr_f (List.mem_of_getElem? (i := 111) (by decide +kernel)) rfl
set_option maxRecDepth 100000 in
theorem flX4_19 : Cond.fieldLink RX4 19 "VersionRows" "acts" "LVersionRows$Acts;" ∈ vr_T := vr_f (List.mem_of_getElem? (i := 112) (by decide +kernel)) rfl
set_option maxRecDepth 100000 in
theorem flX4_26 : Cond.fieldLink RX4 26 "VersionRows" "leans" "LVersionRows$Leans;" ∈ vr_T := vr_f (List.mem_of_getElem? (i := 113) (by decide +kernel)) rfl
set_option maxRecDepth 100000 in
theorem flX4_33 : Cond.fieldLink RX4 33 "VersionRows" "batches" "LVersionRows$Batches;" ∈ vr_T := vr_f (List.mem_of_getElem? (i := 114) (by decide +kernel)) rfl
set_option maxRecDepth 100000 in
theorem mlL_13 : Cond.methodLink RL 13 yX4_record ∈ vr_T := vr_f (List.mem_of_getElem? (i := 124) (by decide +kernel)) rfl
set_option maxRecDepth 100000 in
theorem mlX4_37 : Cond.methodLink RX4 37 yX3_add ∈ vr_T := vr_f (List.mem_of_getElem? (i := 128) (by decide +kernel)) rfl
set_option maxRecDepth 100000 in
theorem kX3_26 : Cond.constantLong RX3 26 (-9223372036854775808) ∈ vr_T := vr_f (List.mem_of_getElem? (i := 132) (by decide +kernel)) rfl
set_option maxRecDepth 100000 in
theorem mlL_20 : Cond.methodLink RL 20 yX4_act ∈ vr_T := vr_f (List.mem_of_getElem? (i := 133) (by decide +kernel)) rfl
set_option maxRecDepth 100000 in
theorem mlX4_41 : Cond.methodLink RX4 41 yX4_hasField ∈ vr_T := vr_f (List.mem_of_getElem? (i := 137) (by decide +kernel)) rfl
set_option maxRecDepth 100000 in
theorem mlX4_94 : Cond.methodLink RX4 94 yX3_has ∈ vr_T := vr_f (List.mem_of_getElem? (i := 141) (by decide +kernel)) rfl
set_option maxRecDepth 100000 in
theorem kX4_45 : Cond.constantLong RX4 45 (2147483647) ∈ vr_T := vr_f (List.mem_of_getElem? (i := 145) (by decide +kernel)) rfl
set_option maxRecDepth 100000 in
theorem mlX4_47 : Cond.methodLink RX4 47 yX4_isLocked ∈ vr_T := vr_f (List.mem_of_getElem? (i := 146) (by decide +kernel)) rfl
set_option maxRecDepth 100000 in
theorem mlX4_68 : Cond.methodLink RX4 68 yX0_now ∈ vr_T := vr_f (List.mem_of_getElem? (i := 150) (by decide +kernel)) rfl
set_option maxRecDepth 100000 in
theorem kX0_39 : Cond.constantLong RX0 39 (-9223372036854775808) ∈ vr_T := vr_f (List.mem_of_getElem? (i := 154) (by decide +kernel)) rfl
set_option maxRecDepth 100000 in
theorem mlX4_123 : Cond.methodLink RX4 123 yX3_until ∈ vr_T := vr_f (List.mem_of_getElem? (i := 155) (by decide +kernel)) rfl
set_option maxRecDepth 100000 in
theorem mlX4_51 : Cond.methodLink RX4 51 yX4_isRefusedDeletion ∈ vr_T := vr_f (List.mem_of_getElem? (i := 159) (by decide +kernel)) rfl
set_option maxRecDepth 100000 in
theorem mlX4_126 : Cond.methodLink RX4 126 yX3_kind ∈ vr_T := vr_f (List.mem_of_getElem? (i := 163) (by decide +kernel)) rfl
set_option maxRecDepth 100000 in
theorem mlX4_55 : Cond.methodLink RX4 55 yX0_findCounting ∈ vr_T := vr_f (List.mem_of_getElem? (i := 167) (by decide +kernel)) rfl
set_option maxRecDepth 100000 in
theorem mlX0_48 : Cond.methodLink RX0 48 yX0_isOf ∈ vr_T := vr_f (List.mem_of_getElem? (i := 171) (by decide +kernel)) rfl
set_option maxRecDepth 100000 in
theorem mlX4_59 : Cond.methodLink RX4 59 yX0_add ∈ vr_T := vr_f (List.mem_of_getElem? (i := 175) (by decide +kernel)) rfl
set_option maxRecDepth 100000 in
theorem mlX0_41 : Cond.methodLink RX0 41 yX0_putNewestInOrder ∈ vr_T := vr_f (List.mem_of_getElem? (i := 179) (by decide +kernel)) rfl
set_option maxRecDepth 100000 in
theorem mlX0_44 : Cond.methodLink RX0 44 yX0_isBehind ∈ vr_T := vr_f (List.mem_of_getElem? (i := 183) (by decide +kernel)) rfl
set_option maxRecDepth 100000 in
theorem mlL_25 : Cond.methodLink RL 25 yX4_at ∈ vr_T := vr_f (List.mem_of_getElem? (i := 187) (by decide +kernel)) rfl
set_option maxRecDepth 100000 in
theorem mlX4_61 : Cond.methodLink RX4 61 yX0_lastCounting ∈ vr_T := vr_f (List.mem_of_getElem? (i := 191) (by decide +kernel)) rfl
set_option maxRecDepth 100000 in
theorem mlX4_65 : Cond.methodLink RX4 65 yX0_value ∈ vr_T := vr_f (List.mem_of_getElem? (i := 195) (by decide +kernel)) rfl
set_option maxRecDepth 100000 in
theorem mlL_30 : Cond.methodLink RL 30 yX4_stale ∈ vr_T := vr_f (List.mem_of_getElem? (i := 199) (by decide +kernel)) rfl
set_option maxRecDepth 100000 in
theorem mlX4_72 : Cond.methodLink RX4 72 yX0_known ∈ vr_T := vr_f (List.mem_of_getElem? (i := 203) (by decide +kernel)) rfl
set_option maxRecDepth 100000 in
theorem mlL_35 : Cond.methodLink RL 35 yX4_undo ∈ vr_T := vr_f (List.mem_of_getElem? (i := 207) (by decide +kernel)) rfl
set_option maxRecDepth 100000 in
theorem mlX4_76 : Cond.methodLink RX4 76 yX0_has ∈ vr_T := vr_f (List.mem_of_getElem? (i := 211) (by decide +kernel)) rfl
set_option maxRecDepth 100000 in
theorem mlX4_79 : Cond.methodLink RX4 79 yX0_counts ∈ vr_T := vr_f (List.mem_of_getElem? (i := 215) (by decide +kernel)) rfl
set_option maxRecDepth 100000 in
theorem mlX4_82 : Cond.methodLink RX4 82 yX4_isLeanedOn ∈ vr_T := vr_f (List.mem_of_getElem? (i := 219) (by decide +kernel)) rfl
set_option maxRecDepth 100000 in
theorem mlX4_109 : Cond.methodLink RX4 109 yX0_count ∈ vr_T := vr_f (List.mem_of_getElem? (i := 223) (by decide +kernel)) rfl
set_option maxRecDepth 100000 in
theorem mlX4_89 : Cond.methodLink RX4 89 yX2_has ∈ vr_T := vr_f (List.mem_of_getElem? (i := 227) (by decide +kernel)) rfl
set_option maxRecDepth 100000 in
theorem mlX2_15 : Cond.methodLink RX2 15 yX2_wordOf ∈ vr_T := vr_f (List.mem_of_getElem? (i := 231) (by decide +kernel)) rfl
set_option maxRecDepth 100000 in
theorem mlX2_19 : Cond.methodLink RX2 19 yX2_bitOf ∈ vr_T := vr_f (List.mem_of_getElem? (i := 234) (by decide +kernel)) rfl
set_option maxRecDepth 100000 in
theorem mlX4_85 : Cond.methodLink RX4 85 yX0_setUndone ∈ vr_T := vr_f (List.mem_of_getElem? (i := 237) (by decide +kernel)) rfl
set_option maxRecDepth 100000 in
theorem mlL_39 : Cond.methodLink RL 39 yX4_lean ∈ vr_T := vr_f (List.mem_of_getElem? (i := 241) (by decide +kernel)) rfl
set_option maxRecDepth 100000 in
theorem mlX4_91 : Cond.methodLink RX4 91 yX2_add ∈ vr_T := vr_f (List.mem_of_getElem? (i := 245) (by decide +kernel)) rfl
set_option maxRecDepth 100000 in
theorem mlL_44 : Cond.methodLink RL 44 yX4_lock ∈ vr_T := vr_f (List.mem_of_getElem? (i := 249) (by decide +kernel)) rfl
set_option maxRecDepth 100000 in
theorem mlX4_95 : Cond.methodLink RX4 95 yX3_locker ∈ vr_T := vr_f (List.mem_of_getElem? (i := 253) (by decide +kernel)) rfl
set_option maxRecDepth 100000 in
theorem mlX4_98 : Cond.methodLink RX4 98 yX3_setLock ∈ vr_T := vr_f (List.mem_of_getElem? (i := 257) (by decide +kernel)) rfl
set_option maxRecDepth 100000 in
theorem mlL_48 : Cond.methodLink RL 48 yX4_batch ∈ vr_T := vr_f (List.mem_of_getElem? (i := 261) (by decide +kernel)) rfl
set_option maxRecDepth 100000 in
theorem mlX4_102 : Cond.methodLink RX4 102 yX1_add ∈ vr_T := vr_f (List.mem_of_getElem? (i := 265) (by decide +kernel)) rfl
set_option maxRecDepth 100000 in
theorem mlX1_19 : Cond.methodLink RX1 19 yX1_isAnyTaken ∈ vr_T := vr_f (List.mem_of_getElem? (i := 269) (by decide +kernel)) rfl
set_option maxRecDepth 100000 in
theorem mlL_52 : Cond.methodLink RL 52 yX4_drop ∈ vr_T := vr_f (List.mem_of_getElem? (i := 273) (by decide +kernel)) rfl
set_option maxRecDepth 100000 in
theorem mlX4_105 : Cond.methodLink RX4 105 yX1_has ∈ vr_T := vr_f (List.mem_of_getElem? (i := 277) (by decide +kernel)) rfl
set_option maxRecDepth 100000 in
theorem mlX4_106 : Cond.methodLink RX4 106 yX4_isLeanedOnFromOutside ∈ vr_T := vr_f (List.mem_of_getElem? (i := 281) (by decide +kernel)) rfl
set_option maxRecDepth 100000 in
theorem mlX4_113 : Cond.methodLink RX4 113 yX4_countsInBatch ∈ vr_T := vr_f (List.mem_of_getElem? (i := 285) (by decide +kernel)) rfl
set_option maxRecDepth 100000 in
theorem mlX4_132 : Cond.methodLink RX4 132 yX1_of ∈ vr_T := vr_f (List.mem_of_getElem? (i := 289) (by decide +kernel)) rfl
set_option maxRecDepth 100000 in
theorem mlX4_129 : Cond.methodLink RX4 129 yX4_isLeanedOnOutside ∈ vr_T := vr_f (List.mem_of_getElem? (i := 293) (by decide +kernel)) rfl
set_option maxRecDepth 100000 in
theorem mlL_56 : Cond.methodLink RL 56 yX4_conflict ∈ vr_T := vr_f (List.mem_of_getElem? (i := 297) (by decide +kernel)) rfl
set_option maxRecDepth 100000 in
theorem mlX4_116 : Cond.methodLink RX4 116 yX0_areInConflict ∈ vr_T := vr_f (List.mem_of_getElem? (i := 301) (by decide +kernel)) rfl
set_option maxRecDepth 100000 in
theorem mlL_60 : Cond.methodLink RL 60 yX4_history ∈ vr_T := vr_f (List.mem_of_getElem? (i := 305) (by decide +kernel)) rfl
set_option maxRecDepth 100000 in
theorem mlX4_119 : Cond.methodLink RX4 119 yX0_inOrder ∈ vr_T := vr_f (List.mem_of_getElem? (i := 309) (by decide +kernel)) rfl
set_option maxRecDepth 100000 in
theorem clL_10 : Cond.classLink RL 10 RX5 ∈ vr_T := vr_f (List.mem_of_getElem? (i := 313) (by decide +kernel)) rfl
set_option maxRecDepth 100000 in
theorem mlL_12 : Cond.methodLink RL 12 yX5_init ∈ vr_T := vr_f (List.mem_of_getElem? (i := 315) (by decide +kernel)) rfl
set_option maxRecDepth 100000 in
theorem mlX5_1 : Cond.methodLink RX5 1 objectInit ∈ vr_T := vr_f (List.mem_of_getElem? (i := 318) (by decide +kernel)) rfl
set_option maxRecDepth 100000 in
theorem kX5_42 : Cond.constant RX5 42 (40401) ∈ vr_T := vr_f (List.mem_of_getElem? (i := 319) (by decide +kernel)) rfl
set_option maxRecDepth 100000 in
theorem flX5_46 : Cond.fieldLink RX5 46 "VersionRowsModel" "thrown" "I" ∈ vr_T := vr_f (List.mem_of_getElem? (i := 320) (by decide +kernel)) rfl
set_option maxRecDepth 100000 in
theorem flX5_50 : Cond.fieldLink RX5 50 "VersionRowsModel" "records" "I" ∈ vr_T := vr_f (List.mem_of_getElem? (i := 321) (by decide +kernel)) rfl
set_option maxRecDepth 100000 in
theorem flX5_7 : Cond.fieldLink RX5 7 "VersionRowsModel" "kinds" "[I" ∈ vr_T := vr_f (List.mem_of_getElem? (i := 322) (by decide +kernel)) rfl
set_option maxRecDepth 100000 in
theorem flX5_13 : Cond.fieldLink RX5 13 "VersionRowsModel" "lockers" "[I" ∈ vr_T := vr_f (List.mem_of_getElem? (i := 323) (by decide +kernel)) rfl
set_option maxRecDepth 100000 in
theorem flX5_16 : Cond.fieldLink RX5 16 "VersionRowsModel" "untils" "[J" ∈ vr_T := vr_f (List.mem_of_getElem? (i := 324) (by decide +kernel)) rfl
set_option maxRecDepth 100000 in
theorem flX5_53 : Cond.fieldLink RX5 53 "VersionRowsModel" "acts" "I" ∈ vr_T := vr_f (List.mem_of_getElem? (i := 325) (by decide +kernel)) rfl
set_option maxRecDepth 100000 in
theorem flX5_20 : Cond.fieldLink RX5 20 "VersionRowsModel" "record" "[I" ∈ vr_T := vr_f (List.mem_of_getElem? (i := 326) (by decide +kernel)) rfl
set_option maxRecDepth 100000 in
theorem flX5_23 : Cond.fieldLink RX5 23 "VersionRowsModel" "field" "[I" ∈ vr_T := vr_f (List.mem_of_getElem? (i := 327) (by decide +kernel)) rfl
set_option maxRecDepth 100000 in
theorem flX5_26 : Cond.fieldLink RX5 26 "VersionRowsModel" "value" "[I" ∈ vr_T := vr_f (List.mem_of_getElem? (i := 328) (by decide +kernel)) rfl
set_option maxRecDepth 100000 in
theorem flX5_29 : Cond.fieldLink RX5 29 "VersionRowsModel" "valid" "[J" ∈ vr_T := vr_f (List.mem_of_getElem? (i := 329) (by decide +kernel)) rfl
set_option maxRecDepth 100000 in
theorem flX5_32 : Cond.fieldLink RX5 32 "VersionRowsModel" "known" "[J" ∈ vr_T := vr_f (List.mem_of_getElem? (i := 330) (by decide +kernel)) rfl
set_option maxRecDepth 100000 in
theorem flX5_35 : Cond.fieldLink RX5 35 "VersionRowsModel" "undone" "[Z" ∈ vr_T := vr_f (List.mem_of_getElem? (i := 331) (by decide +kernel)) rfl
set_option maxRecDepth 100000 in
theorem flX5_39 : Cond.fieldLink RX5 39 "VersionRowsModel" "batch" "[I" ∈ vr_T := vr_f (List.mem_of_getElem? (i := 332) (by decide +kernel)) rfl
set_option maxRecDepth 100000 in
theorem flX5_43 : Cond.fieldLink RX5 43 "VersionRowsModel" "leans" "[Z" ∈ vr_T := vr_f (List.mem_of_getElem? (i := 333) (by decide +kernel)) rfl
set_option maxRecDepth 100000 in
theorem flX5_94 : Cond.fieldLink RX5 94 "VersionRowsModel" "batches" "I" ∈ vr_T := vr_f (List.mem_of_getElem? (i := 334) (by decide +kernel)) rfl
set_option maxRecDepth 100000 in
theorem mlL_17 : Cond.methodLink RL 17 yX5_record ∈ vr_T := vr_f (List.mem_of_getElem? (i := 366) (by decide +kernel)) rfl
set_option maxRecDepth 100000 in
theorem kX5_60 : Cond.constantLong RX5 60 (-9223372036854775808) ∈ vr_T := vr_f (List.mem_of_getElem? (i := 370) (by decide +kernel)) rfl
set_option maxRecDepth 100000 in
theorem mlL_24 : Cond.methodLink RL 24 yX5_act ∈ vr_T := vr_f (List.mem_of_getElem? (i := 371) (by decide +kernel)) rfl
set_option maxRecDepth 100000 in
theorem mlX5_66 : Cond.methodLink RX5 66 yX5_isField ∈ vr_T := vr_f (List.mem_of_getElem? (i := 375) (by decide +kernel)) rfl
set_option maxRecDepth 100000 in
theorem mlX5_56 : Cond.methodLink RX5 56 yX5_isRecord ∈ vr_T := vr_f (List.mem_of_getElem? (i := 379) (by decide +kernel)) rfl
set_option maxRecDepth 100000 in
theorem kX5_70 : Cond.constantLong RX5 70 (2147483647) ∈ vr_T := vr_f (List.mem_of_getElem? (i := 383) (by decide +kernel)) rfl
set_option maxRecDepth 100000 in
theorem mlX5_72 : Cond.methodLink RX5 72 yX5_isLocked ∈ vr_T := vr_f (List.mem_of_getElem? (i := 384) (by decide +kernel)) rfl
set_option maxRecDepth 100000 in
theorem mlX5_62 : Cond.methodLink RX5 62 yX5_now ∈ vr_T := vr_f (List.mem_of_getElem? (i := 388) (by decide +kernel)) rfl
set_option maxRecDepth 100000 in
theorem mlL_29 : Cond.methodLink RL 29 yX5_at ∈ vr_T := vr_f (List.mem_of_getElem? (i := 392) (by decide +kernel)) rfl
set_option maxRecDepth 100000 in
theorem mlX5_82 : Cond.methodLink RX5 82 yX5_last ∈ vr_T := vr_f (List.mem_of_getElem? (i := 396) (by decide +kernel)) rfl
set_option maxRecDepth 100000 in
theorem mlX5_75 : Cond.methodLink RX5 75 yX5_isOf ∈ vr_T := vr_f (List.mem_of_getElem? (i := 400) (by decide +kernel)) rfl
set_option maxRecDepth 100000 in
theorem mlX5_79 : Cond.methodLink RX5 79 yX5_isBefore ∈ vr_T := vr_f (List.mem_of_getElem? (i := 404) (by decide +kernel)) rfl
set_option maxRecDepth 100000 in
theorem mlL_34 : Cond.methodLink RL 34 yX5_stale ∈ vr_T := vr_f (List.mem_of_getElem? (i := 408) (by decide +kernel)) rfl
set_option maxRecDepth 100000 in
theorem kX5_86 : Cond.constantLong RX5 86 (9223372036854775807) ∈ vr_T := vr_f (List.mem_of_getElem? (i := 412) (by decide +kernel)) rfl
set_option maxRecDepth 100000 in
theorem mlL_38 : Cond.methodLink RL 38 yX5_undo ∈ vr_T := vr_f (List.mem_of_getElem? (i := 413) (by decide +kernel)) rfl
set_option maxRecDepth 100000 in
theorem mlX5_88 : Cond.methodLink RX5 88 yX5_isAct ∈ vr_T := vr_f (List.mem_of_getElem? (i := 417) (by decide +kernel)) rfl
set_option maxRecDepth 100000 in
theorem mlX5_91 : Cond.methodLink RX5 91 yX5_isLeantOn ∈ vr_T := vr_f (List.mem_of_getElem? (i := 421) (by decide +kernel)) rfl
set_option maxRecDepth 100000 in
theorem mlL_43 : Cond.methodLink RL 43 yX5_lean ∈ vr_T := vr_f (List.mem_of_getElem? (i := 425) (by decide +kernel)) rfl
set_option maxRecDepth 100000 in
theorem mlL_47 : Cond.methodLink RL 47 yX5_lock ∈ vr_T := vr_f (List.mem_of_getElem? (i := 429) (by decide +kernel)) rfl
set_option maxRecDepth 100000 in
theorem mlL_51 : Cond.methodLink RL 51 yX5_batch ∈ vr_T := vr_f (List.mem_of_getElem? (i := 433) (by decide +kernel)) rfl
set_option maxRecDepth 100000 in
theorem mlL_55 : Cond.methodLink RL 55 yX5_drop ∈ vr_T := vr_f (List.mem_of_getElem? (i := 437) (by decide +kernel)) rfl
set_option maxRecDepth 100000 in
theorem mlL_59 : Cond.methodLink RL 59 yX5_conflict ∈ vr_T := vr_f (List.mem_of_getElem? (i := 441) (by decide +kernel)) rfl
set_option maxRecDepth 100000 in
theorem mlL_64 : Cond.methodLink RL 64 yX5_history ∈ vr_T := vr_f (List.mem_of_getElem? (i := 445) (by decide +kernel)) rfl
set_option maxRecDepth 100000 in
theorem kL_18 : Cond.constantLong RL 18 (4294967295) ∈ vr_T := vr_f (List.mem_of_getElem? (i := 449) (by decide +kernel)) rfl
set_option maxRecDepth 100000 in
theorem cd_obj : Cond.code objectInit ⟨#[0xb1]⟩ 1 none ∈ vr_T := vr_f (List.mem_of_getElem? (i := 34) rfl) rfl
set_option maxRecDepth 100000 in
theorem im_obj : Cond.instanceMethod objectInit ∈ vr_T := vr_f (List.mem_of_getElem? (i := 33) (by decide +kernel)) rfl
end
section
theorem dX4_init_0 : decode cX4_init 0 = .ok (.aload_n 0, 1) := by decide +kernel
theorem dX4_init_1 : decode cX4_init 1 = .ok (.invokespecial 1, 3) := by decide +kernel
theorem dX4_init_4 : decode cX4_init 4 = .ok (.aload_n 0, 1) := by decide +kernel
theorem dX4_init_5 : decode cX4_init 5 = .ok (.new 7, 3) := by decide +kernel
theorem dX4_init_8 : decode cX4_init 8 = .ok (.dup, 1) := by decide +kernel
theorem dX4_init_9 : decode cX4_init 9 = .ok (.invokespecial 9, 3) := by decide +kernel
theorem dX4_init_12 : decode cX4_init 12 = .ok (.putfield 10, 3) := by decide +kernel
theorem dX4_init_15 : decode cX4_init 15 = .ok (.aload_n 0, 1) := by decide +kernel
theorem dX4_init_16 : decode cX4_init 16 = .ok (.new 16, 3) := by decide +kernel
theorem dX4_init_19 : decode cX4_init 19 = .ok (.dup, 1) := by decide +kernel
theorem dX4_init_20 : decode cX4_init 20 = .ok (.invokespecial 18, 3) := by decide +kernel
theorem dX4_init_23 : decode cX4_init 23 = .ok (.putfield 19, 3) := by decide +kernel
theorem dX4_init_26 : decode cX4_init 26 = .ok (.aload_n 0, 1) := by decide +kernel
theorem dX4_init_27 : decode cX4_init 27 = .ok (.new 23, 3) := by decide +kernel
theorem dX4_init_30 : decode cX4_init 30 = .ok (.dup, 1) := by decide +kernel
theorem dX4_init_31 : decode cX4_init 31 = .ok (.invokespecial 25, 3) := by decide +kernel
theorem dX4_init_34 : decode cX4_init 34 = .ok (.putfield 26, 3) := by decide +kernel
theorem dX4_init_37 : decode cX4_init 37 = .ok (.aload_n 0, 1) := by decide +kernel
theorem dX4_init_38 : decode cX4_init 38 = .ok (.new 30, 3) := by decide +kernel
theorem dX4_init_41 : decode cX4_init 41 = .ok (.dup, 1) := by decide +kernel
theorem dX4_init_42 : decode cX4_init 42 = .ok (.invokespecial 32, 3) := by decide +kernel
theorem dX4_init_45 : decode cX4_init 45 = .ok (.putfield 33, 3) := by decide +kernel
theorem dX4_init_48 : decode cX4_init 48 = .ok (.return_, 1) := by decide +kernel
theorem dX4_record_0 : decode cX4_record 0 = .ok (.iload_n 1, 1) := by decide +kernel
theorem dX4_record_1 : decode cX4_record 1 = .ok (.ifCond .lt 8, 3) := by decide +kernel
theorem dX4_record_4 : decode cX4_record 4 = .ok (.iload_n 1, 1) := by decide +kernel
theorem dX4_record_5 : decode cX4_record 5 = .ok (.iconst 4, 1) := by decide +kernel
theorem dX4_record_6 : decode cX4_record 6 = .ok (.if_icmp .lt 5, 3) := by decide +kernel
theorem dX4_record_9 : decode cX4_record 9 = .ok (.iconst 0, 1) := by decide +kernel
theorem dX4_record_10 : decode cX4_record 10 = .ok (.ireturn, 1) := by decide +kernel
theorem dX4_record_11 : decode cX4_record 11 = .ok (.aload_n 0, 1) := by decide +kernel
theorem dX4_record_12 : decode cX4_record 12 = .ok (.getfield 10, 3) := by decide +kernel
theorem dX4_record_15 : decode cX4_record 15 = .ok (.iload_n 1, 1) := by decide +kernel
theorem dX4_record_16 : decode cX4_record 16 = .ok (.invokevirtual 37, 3) := by decide +kernel
theorem dX4_record_19 : decode cX4_record 19 = .ok (.ireturn, 1) := by decide +kernel
theorem dX4_act_0 : decode cX4_act 0 = .ok (.aload_n 0, 1) := by decide +kernel
theorem dX4_act_1 : decode cX4_act 1 = .ok (.iload_n 1, 1) := by decide +kernel
theorem dX4_act_2 : decode cX4_act 2 = .ok (.iload_n 2, 1) := by decide +kernel
theorem dX4_act_3 : decode cX4_act 3 = .ok (.invokevirtual 41, 3) := by decide +kernel
theorem dX4_act_6 : decode cX4_act 6 = .ok (.ifCond .eq 17, 3) := by decide +kernel
theorem dX4_act_9 : decode cX4_act 9 = .ok (.lload_n 3, 1) := by decide +kernel
theorem dX4_act_10 : decode cX4_act 10 = .ok (.lconst 0, 1) := by decide +kernel
theorem dX4_act_11 : decode cX4_act 11 = .ok (.lcmp, 1) := by decide +kernel
theorem dX4_act_12 : decode cX4_act 12 = .ok (.ifCond .lt 11, 3) := by decide +kernel
theorem dX4_act_15 : decode cX4_act 15 = .ok (.lload_n 3, 1) := by decide +kernel
theorem dX4_act_16 : decode cX4_act 16 = .ok (.ldc2_w 45, 3) := by decide +kernel
theorem dX4_act_19 : decode cX4_act 19 = .ok (.lcmp, 1) := by decide +kernel
theorem dX4_act_20 : decode cX4_act 20 = .ok (.ifCond .le 5, 3) := by decide +kernel
theorem dX4_act_23 : decode cX4_act 23 = .ok (.iconst 0, 1) := by decide +kernel
theorem dX4_act_24 : decode cX4_act 24 = .ok (.ireturn, 1) := by decide +kernel
theorem dX4_act_25 : decode cX4_act 25 = .ok (.aload_n 0, 1) := by decide +kernel
theorem dX4_act_26 : decode cX4_act 26 = .ok (.iload_n 1, 1) := by decide +kernel
theorem dX4_act_27 : decode cX4_act 27 = .ok (.invokevirtual 47, 3) := by decide +kernel
theorem dX4_act_30 : decode cX4_act 30 = .ok (.ifCond .ne 13, 3) := by decide +kernel
theorem dX4_act_33 : decode cX4_act 33 = .ok (.aload_n 0, 1) := by decide +kernel
theorem dX4_act_34 : decode cX4_act 34 = .ok (.iload_n 1, 1) := by decide +kernel
theorem dX4_act_35 : decode cX4_act 35 = .ok (.iload_n 2, 1) := by decide +kernel
theorem dX4_act_36 : decode cX4_act 36 = .ok (.lload_n 3, 1) := by decide +kernel
theorem dX4_act_37 : decode cX4_act 37 = .ok (.invokevirtual 51, 3) := by decide +kernel
theorem dX4_act_40 : decode cX4_act 40 = .ok (.ifCond .eq 5, 3) := by decide +kernel
theorem dX4_act_43 : decode cX4_act 43 = .ok (.iconst 0, 1) := by decide +kernel
theorem dX4_act_44 : decode cX4_act 44 = .ok (.ireturn, 1) := by decide +kernel
theorem dX4_act_45 : decode cX4_act 45 = .ok (.lload_n 3, 1) := by decide +kernel
theorem dX4_act_46 : decode cX4_act 46 = .ok (.l2i, 1) := by decide +kernel
theorem dX4_act_47 : decode cX4_act 47 = .ok (.istore 9, 2) := by decide +kernel
theorem dX4_act_49 : decode cX4_act 49 = .ok (.aload_n 0, 1) := by decide +kernel
theorem dX4_act_50 : decode cX4_act 50 = .ok (.getfield 19, 3) := by decide +kernel
theorem dX4_act_53 : decode cX4_act 53 = .ok (.iload_n 1, 1) := by decide +kernel
theorem dX4_act_54 : decode cX4_act 54 = .ok (.iload_n 2, 1) := by decide +kernel
theorem dX4_act_55 : decode cX4_act 55 = .ok (.iload 9, 2) := by decide +kernel
theorem dX4_act_57 : decode cX4_act 57 = .ok (.lload 5, 2) := by decide +kernel
theorem dX4_act_59 : decode cX4_act 59 = .ok (.lload 7, 2) := by decide +kernel
theorem dX4_act_61 : decode cX4_act 61 = .ok (.invokevirtual 55, 3) := by decide +kernel
theorem dX4_act_64 : decode cX4_act 64 = .ok (.istore 10, 2) := by decide +kernel
theorem dX4_act_66 : decode cX4_act 66 = .ok (.iload 10, 2) := by decide +kernel
theorem dX4_act_68 : decode cX4_act 68 = .ok (.ifCond .eq 6, 3) := by decide +kernel
theorem dX4_act_71 : decode cX4_act 71 = .ok (.iload 10, 2) := by decide +kernel
theorem dX4_act_73 : decode cX4_act 73 = .ok (.ireturn, 1) := by decide +kernel
theorem dX4_act_74 : decode cX4_act 74 = .ok (.aload_n 0, 1) := by decide +kernel
theorem dX4_act_75 : decode cX4_act 75 = .ok (.getfield 19, 3) := by decide +kernel
theorem dX4_act_78 : decode cX4_act 78 = .ok (.iload_n 1, 1) := by decide +kernel
theorem dX4_act_79 : decode cX4_act 79 = .ok (.iload_n 2, 1) := by decide +kernel
theorem dX4_act_80 : decode cX4_act 80 = .ok (.iload 9, 2) := by decide +kernel
theorem dX4_act_82 : decode cX4_act 82 = .ok (.lload 5, 2) := by decide +kernel
theorem dX4_act_84 : decode cX4_act 84 = .ok (.lload 7, 2) := by decide +kernel
theorem dX4_act_86 : decode cX4_act 86 = .ok (.invokevirtual 59, 3) := by decide +kernel
theorem dX4_act_89 : decode cX4_act 89 = .ok (.ireturn, 1) := by decide +kernel
theorem dX4_at_0 : decode cX4_at 0 = .ok (.aload_n 0, 1) := by decide +kernel
theorem dX4_at_1 : decode cX4_at 1 = .ok (.iload_n 1, 1) := by decide +kernel
theorem dX4_at_2 : decode cX4_at 2 = .ok (.iload_n 2, 1) := by decide +kernel
theorem dX4_at_3 : decode cX4_at 3 = .ok (.invokevirtual 41, 3) := by decide +kernel
theorem dX4_at_6 : decode cX4_at 6 = .ok (.ifCond .ne 5, 3) := by decide +kernel
theorem dX4_at_9 : decode cX4_at 9 = .ok (.iconst (-1), 1) := by decide +kernel
theorem dX4_at_10 : decode cX4_at 10 = .ok (.ireturn, 1) := by decide +kernel
theorem dX4_at_11 : decode cX4_at 11 = .ok (.aload_n 0, 1) := by decide +kernel
theorem dX4_at_12 : decode cX4_at 12 = .ok (.getfield 19, 3) := by decide +kernel
theorem dX4_at_15 : decode cX4_at 15 = .ok (.iload_n 1, 1) := by decide +kernel
theorem dX4_at_16 : decode cX4_at 16 = .ok (.iload_n 2, 1) := by decide +kernel
theorem dX4_at_17 : decode cX4_at 17 = .ok (.lload_n 3, 1) := by decide +kernel
theorem dX4_at_18 : decode cX4_at 18 = .ok (.invokevirtual 61, 3) := by decide +kernel
theorem dX4_at_21 : decode cX4_at 21 = .ok (.istore 5, 2) := by decide +kernel
theorem dX4_at_23 : decode cX4_at 23 = .ok (.iload 5, 2) := by decide +kernel
theorem dX4_at_25 : decode cX4_at 25 = .ok (.ifCond .ne 7, 3) := by decide +kernel
theorem dX4_at_28 : decode cX4_at 28 = .ok (.iconst (-1), 1) := by decide +kernel
theorem dX4_at_29 : decode cX4_at 29 = .ok (.goto 12, 3) := by decide +kernel
theorem dX4_at_32 : decode cX4_at 32 = .ok (.aload_n 0, 1) := by decide +kernel
theorem dX4_at_33 : decode cX4_at 33 = .ok (.getfield 19, 3) := by decide +kernel
theorem dX4_at_36 : decode cX4_at 36 = .ok (.iload 5, 2) := by decide +kernel
theorem dX4_at_38 : decode cX4_at 38 = .ok (.invokevirtual 65, 3) := by decide +kernel
theorem dX4_at_41 : decode cX4_at 41 = .ok (.ireturn, 1) := by decide +kernel
theorem dX4_stale_0 : decode cX4_stale 0 = .ok (.aload_n 0, 1) := by decide +kernel
theorem dX4_stale_1 : decode cX4_stale 1 = .ok (.iload_n 1, 1) := by decide +kernel
theorem dX4_stale_2 : decode cX4_stale 2 = .ok (.iload 4, 2) := by decide +kernel
theorem dX4_stale_4 : decode cX4_stale 4 = .ok (.invokevirtual 41, 3) := by decide +kernel
theorem dX4_stale_7 : decode cX4_stale 7 = .ok (.ifCond .ne 5, 3) := by decide +kernel
theorem dX4_stale_10 : decode cX4_stale 10 = .ok (.iconst (-1), 1) := by decide +kernel
theorem dX4_stale_11 : decode cX4_stale 11 = .ok (.ireturn, 1) := by decide +kernel
theorem dX4_stale_12 : decode cX4_stale 12 = .ok (.aload_n 0, 1) := by decide +kernel
theorem dX4_stale_13 : decode cX4_stale 13 = .ok (.getfield 19, 3) := by decide +kernel
theorem dX4_stale_16 : decode cX4_stale 16 = .ok (.iload_n 1, 1) := by decide +kernel
theorem dX4_stale_17 : decode cX4_stale 17 = .ok (.iload 4, 2) := by decide +kernel
theorem dX4_stale_19 : decode cX4_stale 19 = .ok (.aload_n 0, 1) := by decide +kernel
theorem dX4_stale_20 : decode cX4_stale 20 = .ok (.getfield 19, 3) := by decide +kernel
theorem dX4_stale_23 : decode cX4_stale 23 = .ok (.invokevirtual 68, 3) := by decide +kernel
theorem dX4_stale_26 : decode cX4_stale 26 = .ok (.invokevirtual 61, 3) := by decide +kernel
theorem dX4_stale_29 : decode cX4_stale 29 = .ok (.istore 5, 2) := by decide +kernel
theorem dX4_stale_31 : decode cX4_stale 31 = .ok (.iload 5, 2) := by decide +kernel
theorem dX4_stale_33 : decode cX4_stale 33 = .ok (.ifCond .eq 17, 3) := by decide +kernel
theorem dX4_stale_36 : decode cX4_stale 36 = .ok (.aload_n 0, 1) := by decide +kernel
theorem dX4_stale_37 : decode cX4_stale 37 = .ok (.getfield 19, 3) := by decide +kernel
theorem dX4_stale_40 : decode cX4_stale 40 = .ok (.iload 5, 2) := by decide +kernel
theorem dX4_stale_42 : decode cX4_stale 42 = .ok (.invokevirtual 72, 3) := by decide +kernel
theorem dX4_stale_45 : decode cX4_stale 45 = .ok (.lload_n 2, 1) := by decide +kernel
theorem dX4_stale_46 : decode cX4_stale 46 = .ok (.lcmp, 1) := by decide +kernel
theorem dX4_stale_47 : decode cX4_stale 47 = .ok (.ifCond .gt 5, 3) := by decide +kernel
theorem dX4_stale_50 : decode cX4_stale 50 = .ok (.iconst 1, 1) := by decide +kernel
theorem dX4_stale_51 : decode cX4_stale 51 = .ok (.ireturn, 1) := by decide +kernel
theorem dX4_stale_52 : decode cX4_stale 52 = .ok (.aload_n 0, 1) := by decide +kernel
theorem dX4_stale_53 : decode cX4_stale 53 = .ok (.getfield 19, 3) := by decide +kernel
theorem dX4_stale_56 : decode cX4_stale 56 = .ok (.iload_n 1, 1) := by decide +kernel
theorem dX4_stale_57 : decode cX4_stale 57 = .ok (.iload 4, 2) := by decide +kernel
theorem dX4_stale_59 : decode cX4_stale 59 = .ok (.lload_n 2, 1) := by decide +kernel
theorem dX4_stale_60 : decode cX4_stale 60 = .ok (.invokevirtual 61, 3) := by decide +kernel
theorem dX4_stale_63 : decode cX4_stale 63 = .ok (.istore 6, 2) := by decide +kernel
theorem dX4_stale_65 : decode cX4_stale 65 = .ok (.iload 6, 2) := by decide +kernel
theorem dX4_stale_67 : decode cX4_stale 67 = .ok (.ifCond .eq 28, 3) := by decide +kernel
theorem dX4_stale_70 : decode cX4_stale 70 = .ok (.aload_n 0, 1) := by decide +kernel
theorem dX4_stale_71 : decode cX4_stale 71 = .ok (.getfield 19, 3) := by decide +kernel
theorem dX4_stale_74 : decode cX4_stale 74 = .ok (.iload 6, 2) := by decide +kernel
theorem dX4_stale_76 : decode cX4_stale 76 = .ok (.invokevirtual 65, 3) := by decide +kernel
theorem dX4_stale_79 : decode cX4_stale 79 = .ok (.aload_n 0, 1) := by decide +kernel
theorem dX4_stale_80 : decode cX4_stale 80 = .ok (.getfield 19, 3) := by decide +kernel
theorem dX4_stale_83 : decode cX4_stale 83 = .ok (.iload 5, 2) := by decide +kernel
theorem dX4_stale_85 : decode cX4_stale 85 = .ok (.invokevirtual 65, 3) := by decide +kernel
theorem dX4_stale_88 : decode cX4_stale 88 = .ok (.if_icmp .ne 7, 3) := by decide +kernel
theorem dX4_stale_91 : decode cX4_stale 91 = .ok (.iconst 2, 1) := by decide +kernel
theorem dX4_stale_92 : decode cX4_stale 92 = .ok (.goto 4, 3) := by decide +kernel
theorem dX4_stale_95 : decode cX4_stale 95 = .ok (.iconst 0, 1) := by decide +kernel
theorem dX4_stale_96 : decode cX4_stale 96 = .ok (.ireturn, 1) := by decide +kernel
theorem dX4_undo_0 : decode cX4_undo 0 = .ok (.aload_n 0, 1) := by decide +kernel
theorem dX4_undo_1 : decode cX4_undo 1 = .ok (.getfield 19, 3) := by decide +kernel
theorem dX4_undo_4 : decode cX4_undo 4 = .ok (.iload_n 1, 1) := by decide +kernel
theorem dX4_undo_5 : decode cX4_undo 5 = .ok (.invokevirtual 76, 3) := by decide +kernel
theorem dX4_undo_8 : decode cX4_undo 8 = .ok (.ifCond .eq 22, 3) := by decide +kernel
theorem dX4_undo_11 : decode cX4_undo 11 = .ok (.aload_n 0, 1) := by decide +kernel
theorem dX4_undo_12 : decode cX4_undo 12 = .ok (.getfield 19, 3) := by decide +kernel
theorem dX4_undo_15 : decode cX4_undo 15 = .ok (.iload_n 1, 1) := by decide +kernel
theorem dX4_undo_16 : decode cX4_undo 16 = .ok (.invokevirtual 79, 3) := by decide +kernel
theorem dX4_undo_19 : decode cX4_undo 19 = .ok (.ifCond .eq 11, 3) := by decide +kernel
theorem dX4_undo_22 : decode cX4_undo 22 = .ok (.aload_n 0, 1) := by decide +kernel
theorem dX4_undo_23 : decode cX4_undo 23 = .ok (.iload_n 1, 1) := by decide +kernel
theorem dX4_undo_24 : decode cX4_undo 24 = .ok (.invokevirtual 82, 3) := by decide +kernel
theorem dX4_undo_27 : decode cX4_undo 27 = .ok (.ifCond .eq 5, 3) := by decide +kernel
theorem dX4_undo_30 : decode cX4_undo 30 = .ok (.iconst 0, 1) := by decide +kernel
theorem dX4_undo_31 : decode cX4_undo 31 = .ok (.ireturn, 1) := by decide +kernel
theorem dX4_undo_32 : decode cX4_undo 32 = .ok (.aload_n 0, 1) := by decide +kernel
theorem dX4_undo_33 : decode cX4_undo 33 = .ok (.getfield 19, 3) := by decide +kernel
theorem dX4_undo_36 : decode cX4_undo 36 = .ok (.iload_n 1, 1) := by decide +kernel
theorem dX4_undo_37 : decode cX4_undo 37 = .ok (.invokevirtual 85, 3) := by decide +kernel
theorem dX4_undo_40 : decode cX4_undo 40 = .ok (.iconst 1, 1) := by decide +kernel
theorem dX4_undo_41 : decode cX4_undo 41 = .ok (.ireturn, 1) := by decide +kernel
theorem dX4_lean_0 : decode cX4_lean 0 = .ok (.aload_n 0, 1) := by decide +kernel
theorem dX4_lean_1 : decode cX4_lean 1 = .ok (.getfield 19, 3) := by decide +kernel
theorem dX4_lean_4 : decode cX4_lean 4 = .ok (.iload_n 1, 1) := by decide +kernel
theorem dX4_lean_5 : decode cX4_lean 5 = .ok (.invokevirtual 76, 3) := by decide +kernel
theorem dX4_lean_8 : decode cX4_lean 8 = .ok (.ifCond .eq 31, 3) := by decide +kernel
theorem dX4_lean_11 : decode cX4_lean 11 = .ok (.aload_n 0, 1) := by decide +kernel
theorem dX4_lean_12 : decode cX4_lean 12 = .ok (.getfield 19, 3) := by decide +kernel
theorem dX4_lean_15 : decode cX4_lean 15 = .ok (.iload_n 2, 1) := by decide +kernel
theorem dX4_lean_16 : decode cX4_lean 16 = .ok (.invokevirtual 76, 3) := by decide +kernel
theorem dX4_lean_19 : decode cX4_lean 19 = .ok (.ifCond .eq 20, 3) := by decide +kernel
theorem dX4_lean_22 : decode cX4_lean 22 = .ok (.iload_n 2, 1) := by decide +kernel
theorem dX4_lean_23 : decode cX4_lean 23 = .ok (.iload_n 1, 1) := by decide +kernel
theorem dX4_lean_24 : decode cX4_lean 24 = .ok (.if_icmp .ge 15, 3) := by decide +kernel
theorem dX4_lean_27 : decode cX4_lean 27 = .ok (.aload_n 0, 1) := by decide +kernel
theorem dX4_lean_28 : decode cX4_lean 28 = .ok (.getfield 26, 3) := by decide +kernel
theorem dX4_lean_31 : decode cX4_lean 31 = .ok (.iload_n 1, 1) := by decide +kernel
theorem dX4_lean_32 : decode cX4_lean 32 = .ok (.iload_n 2, 1) := by decide +kernel
theorem dX4_lean_33 : decode cX4_lean 33 = .ok (.invokevirtual 89, 3) := by decide +kernel
theorem dX4_lean_36 : decode cX4_lean 36 = .ok (.ifCond .eq 5, 3) := by decide +kernel
theorem dX4_lean_39 : decode cX4_lean 39 = .ok (.iconst 0, 1) := by decide +kernel
theorem dX4_lean_40 : decode cX4_lean 40 = .ok (.ireturn, 1) := by decide +kernel
theorem dX4_lean_41 : decode cX4_lean 41 = .ok (.aload_n 0, 1) := by decide +kernel
theorem dX4_lean_42 : decode cX4_lean 42 = .ok (.getfield 26, 3) := by decide +kernel
theorem dX4_lean_45 : decode cX4_lean 45 = .ok (.iload_n 1, 1) := by decide +kernel
theorem dX4_lean_46 : decode cX4_lean 46 = .ok (.iload_n 2, 1) := by decide +kernel
theorem dX4_lean_47 : decode cX4_lean 47 = .ok (.invokevirtual 91, 3) := by decide +kernel
theorem dX4_lean_50 : decode cX4_lean 50 = .ok (.iconst 1, 1) := by decide +kernel
theorem dX4_lean_51 : decode cX4_lean 51 = .ok (.ireturn, 1) := by decide +kernel
theorem dX4_lock_0 : decode cX4_lock 0 = .ok (.aload_n 0, 1) := by decide +kernel
theorem dX4_lock_1 : decode cX4_lock 1 = .ok (.getfield 10, 3) := by decide +kernel
theorem dX4_lock_4 : decode cX4_lock 4 = .ok (.iload_n 1, 1) := by decide +kernel
theorem dX4_lock_5 : decode cX4_lock 5 = .ok (.invokevirtual 94, 3) := by decide +kernel
theorem dX4_lock_8 : decode cX4_lock 8 = .ok (.ifCond .eq 23, 3) := by decide +kernel
theorem dX4_lock_11 : decode cX4_lock 11 = .ok (.aload_n 0, 1) := by decide +kernel
theorem dX4_lock_12 : decode cX4_lock 12 = .ok (.iload_n 1, 1) := by decide +kernel
theorem dX4_lock_13 : decode cX4_lock 13 = .ok (.invokevirtual 47, 3) := by decide +kernel
theorem dX4_lock_16 : decode cX4_lock 16 = .ok (.ifCond .eq 17, 3) := by decide +kernel
theorem dX4_lock_19 : decode cX4_lock 19 = .ok (.aload_n 0, 1) := by decide +kernel
theorem dX4_lock_20 : decode cX4_lock 20 = .ok (.getfield 10, 3) := by decide +kernel
theorem dX4_lock_23 : decode cX4_lock 23 = .ok (.iload_n 1, 1) := by decide +kernel
theorem dX4_lock_24 : decode cX4_lock 24 = .ok (.invokevirtual 95, 3) := by decide +kernel
theorem dX4_lock_27 : decode cX4_lock 27 = .ok (.iload_n 2, 1) := by decide +kernel
theorem dX4_lock_28 : decode cX4_lock 28 = .ok (.if_icmp .eq 5, 3) := by decide +kernel
theorem dX4_lock_31 : decode cX4_lock 31 = .ok (.iconst 0, 1) := by decide +kernel
theorem dX4_lock_32 : decode cX4_lock 32 = .ok (.ireturn, 1) := by decide +kernel
theorem dX4_lock_33 : decode cX4_lock 33 = .ok (.aload_n 0, 1) := by decide +kernel
theorem dX4_lock_34 : decode cX4_lock 34 = .ok (.getfield 10, 3) := by decide +kernel
theorem dX4_lock_37 : decode cX4_lock 37 = .ok (.iload_n 1, 1) := by decide +kernel
theorem dX4_lock_38 : decode cX4_lock 38 = .ok (.iload_n 2, 1) := by decide +kernel
theorem dX4_lock_39 : decode cX4_lock 39 = .ok (.lload_n 3, 1) := by decide +kernel
theorem dX4_lock_40 : decode cX4_lock 40 = .ok (.invokevirtual 98, 3) := by decide +kernel
theorem dX4_lock_43 : decode cX4_lock 43 = .ok (.iconst 1, 1) := by decide +kernel
theorem dX4_lock_44 : decode cX4_lock 44 = .ok (.ireturn, 1) := by decide +kernel
theorem dX4_batch_0 : decode cX4_batch 0 = .ok (.aload_n 0, 1) := by decide +kernel
theorem dX4_batch_1 : decode cX4_batch 1 = .ok (.getfield 19, 3) := by decide +kernel
theorem dX4_batch_4 : decode cX4_batch 4 = .ok (.iload_n 1, 1) := by decide +kernel
theorem dX4_batch_5 : decode cX4_batch 5 = .ok (.invokevirtual 76, 3) := by decide +kernel
theorem dX4_batch_8 : decode cX4_batch 8 = .ok (.ifCond .eq 19, 3) := by decide +kernel
theorem dX4_batch_11 : decode cX4_batch 11 = .ok (.aload_n 0, 1) := by decide +kernel
theorem dX4_batch_12 : decode cX4_batch 12 = .ok (.getfield 19, 3) := by decide +kernel
theorem dX4_batch_15 : decode cX4_batch 15 = .ok (.iload_n 2, 1) := by decide +kernel
theorem dX4_batch_16 : decode cX4_batch 16 = .ok (.invokevirtual 76, 3) := by decide +kernel
theorem dX4_batch_19 : decode cX4_batch 19 = .ok (.ifCond .eq 8, 3) := by decide +kernel
theorem dX4_batch_22 : decode cX4_batch 22 = .ok (.iload_n 1, 1) := by decide +kernel
theorem dX4_batch_23 : decode cX4_batch 23 = .ok (.iload_n 2, 1) := by decide +kernel
theorem dX4_batch_24 : decode cX4_batch 24 = .ok (.if_icmp .le 5, 3) := by decide +kernel
theorem dX4_batch_27 : decode cX4_batch 27 = .ok (.iconst 0, 1) := by decide +kernel
theorem dX4_batch_28 : decode cX4_batch 28 = .ok (.ireturn, 1) := by decide +kernel
theorem dX4_batch_29 : decode cX4_batch 29 = .ok (.aload_n 0, 1) := by decide +kernel
theorem dX4_batch_30 : decode cX4_batch 30 = .ok (.getfield 33, 3) := by decide +kernel
theorem dX4_batch_33 : decode cX4_batch 33 = .ok (.iload_n 1, 1) := by decide +kernel
theorem dX4_batch_34 : decode cX4_batch 34 = .ok (.iload_n 2, 1) := by decide +kernel
theorem dX4_batch_35 : decode cX4_batch 35 = .ok (.invokevirtual 102, 3) := by decide +kernel
theorem dX4_batch_38 : decode cX4_batch 38 = .ok (.ireturn, 1) := by decide +kernel
theorem dX4_drop_0 : decode cX4_drop 0 = .ok (.aload_n 0, 1) := by decide +kernel
theorem dX4_drop_1 : decode cX4_drop 1 = .ok (.getfield 33, 3) := by decide +kernel
theorem dX4_drop_4 : decode cX4_drop 4 = .ok (.iload_n 1, 1) := by decide +kernel
theorem dX4_drop_5 : decode cX4_drop 5 = .ok (.invokevirtual 105, 3) := by decide +kernel
theorem dX4_drop_8 : decode cX4_drop 8 = .ok (.ifCond .eq 11, 3) := by decide +kernel
theorem dX4_drop_11 : decode cX4_drop 11 = .ok (.aload_n 0, 1) := by decide +kernel
theorem dX4_drop_12 : decode cX4_drop 12 = .ok (.iload_n 1, 1) := by decide +kernel
theorem dX4_drop_13 : decode cX4_drop 13 = .ok (.invokevirtual 106, 3) := by decide +kernel
theorem dX4_drop_16 : decode cX4_drop 16 = .ok (.ifCond .eq 5, 3) := by decide +kernel
theorem dX4_drop_19 : decode cX4_drop 19 = .ok (.iconst 0, 1) := by decide +kernel
theorem dX4_drop_20 : decode cX4_drop 20 = .ok (.ireturn, 1) := by decide +kernel
theorem dX4_drop_21 : decode cX4_drop 21 = .ok (.iconst 0, 1) := by decide +kernel
theorem dX4_drop_22 : decode cX4_drop 22 = .ok (.istore_n 2, 1) := by decide +kernel
theorem dX4_drop_23 : decode cX4_drop 23 = .ok (.aload_n 0, 1) := by decide +kernel
theorem dX4_drop_24 : decode cX4_drop 24 = .ok (.getfield 19, 3) := by decide +kernel
theorem dX4_drop_27 : decode cX4_drop 27 = .ok (.invokevirtual 109, 3) := by decide +kernel
theorem dX4_drop_30 : decode cX4_drop 30 = .ok (.istore_n 3, 1) := by decide +kernel
theorem dX4_drop_31 : decode cX4_drop 31 = .ok (.iload_n 3, 1) := by decide +kernel
theorem dX4_drop_32 : decode cX4_drop 32 = .ok (.iconst 1, 1) := by decide +kernel
theorem dX4_drop_33 : decode cX4_drop 33 = .ok (.if_icmp .lt 29, 3) := by decide +kernel
theorem dX4_drop_36 : decode cX4_drop 36 = .ok (.aload_n 0, 1) := by decide +kernel
theorem dX4_drop_37 : decode cX4_drop 37 = .ok (.iload_n 3, 1) := by decide +kernel
theorem dX4_drop_38 : decode cX4_drop 38 = .ok (.iload_n 1, 1) := by decide +kernel
theorem dX4_drop_39 : decode cX4_drop 39 = .ok (.invokevirtual 113, 3) := by decide +kernel
theorem dX4_drop_42 : decode cX4_drop 42 = .ok (.ifCond .eq 14, 3) := by decide +kernel
theorem dX4_drop_45 : decode cX4_drop 45 = .ok (.aload_n 0, 1) := by decide +kernel
theorem dX4_drop_46 : decode cX4_drop 46 = .ok (.getfield 19, 3) := by decide +kernel
theorem dX4_drop_49 : decode cX4_drop 49 = .ok (.iload_n 3, 1) := by decide +kernel
theorem dX4_drop_50 : decode cX4_drop 50 = .ok (.invokevirtual 85, 3) := by decide +kernel
theorem dX4_drop_53 : decode cX4_drop 53 = .ok (.iinc 2 1, 3) := by decide +kernel
theorem dX4_drop_56 : decode cX4_drop 56 = .ok (.iinc 3 (-1), 3) := by decide +kernel
theorem dX4_drop_59 : decode cX4_drop 59 = .ok (.goto (-28), 3) := by decide +kernel
theorem dX4_drop_62 : decode cX4_drop 62 = .ok (.iload_n 2, 1) := by decide +kernel
theorem dX4_drop_63 : decode cX4_drop 63 = .ok (.ireturn, 1) := by decide +kernel
theorem dX4_conflict_0 : decode cX4_conflict 0 = .ok (.iload_n 1, 1) := by decide +kernel
theorem dX4_conflict_1 : decode cX4_conflict 1 = .ok (.ifCond .lt 12, 3) := by decide +kernel
theorem dX4_conflict_4 : decode cX4_conflict 4 = .ok (.iload_n 2, 1) := by decide +kernel
theorem dX4_conflict_5 : decode cX4_conflict 5 = .ok (.ifCond .lt 8, 3) := by decide +kernel
theorem dX4_conflict_8 : decode cX4_conflict 8 = .ok (.iload_n 2, 1) := by decide +kernel
theorem dX4_conflict_9 : decode cX4_conflict 9 = .ok (.iconst 1, 1) := by decide +kernel
theorem dX4_conflict_10 : decode cX4_conflict 10 = .ok (.if_icmp .le 5, 3) := by decide +kernel
theorem dX4_conflict_13 : decode cX4_conflict 13 = .ok (.iconst (-1), 1) := by decide +kernel
theorem dX4_conflict_14 : decode cX4_conflict 14 = .ok (.ireturn, 1) := by decide +kernel
theorem dX4_conflict_15 : decode cX4_conflict 15 = .ok (.iload_n 1, 1) := by decide +kernel
theorem dX4_conflict_16 : decode cX4_conflict 16 = .ok (.istore_n 3, 1) := by decide +kernel
theorem dX4_conflict_17 : decode cX4_conflict 17 = .ok (.aload_n 0, 1) := by decide +kernel
theorem dX4_conflict_18 : decode cX4_conflict 18 = .ok (.getfield 19, 3) := by decide +kernel
theorem dX4_conflict_21 : decode cX4_conflict 21 = .ok (.invokevirtual 109, 3) := by decide +kernel
theorem dX4_conflict_24 : decode cX4_conflict 24 = .ok (.istore 4, 2) := by decide +kernel
theorem dX4_conflict_26 : decode cX4_conflict 26 = .ok (.iconst 1, 1) := by decide +kernel
theorem dX4_conflict_27 : decode cX4_conflict 27 = .ok (.istore 5, 2) := by decide +kernel
theorem dX4_conflict_29 : decode cX4_conflict 29 = .ok (.iload 5, 2) := by decide +kernel
theorem dX4_conflict_31 : decode cX4_conflict 31 = .ok (.iload 4, 2) := by decide +kernel
theorem dX4_conflict_33 : decode cX4_conflict 33 = .ok (.if_icmp .ge 61, 3) := by decide +kernel
theorem dX4_conflict_36 : decode cX4_conflict 36 = .ok (.iload 5, 2) := by decide +kernel
theorem dX4_conflict_38 : decode cX4_conflict 38 = .ok (.iconst 1, 1) := by decide +kernel
theorem dX4_conflict_39 : decode cX4_conflict 39 = .ok (.iadd, 1) := by decide +kernel
theorem dX4_conflict_40 : decode cX4_conflict 40 = .ok (.istore 6, 2) := by decide +kernel
theorem dX4_conflict_42 : decode cX4_conflict 42 = .ok (.iload 6, 2) := by decide +kernel
theorem dX4_conflict_44 : decode cX4_conflict 44 = .ok (.iload 4, 2) := by decide +kernel
theorem dX4_conflict_46 : decode cX4_conflict 46 = .ok (.if_icmp .gt 42, 3) := by decide +kernel
theorem dX4_conflict_49 : decode cX4_conflict 49 = .ok (.aload_n 0, 1) := by decide +kernel
theorem dX4_conflict_50 : decode cX4_conflict 50 = .ok (.getfield 19, 3) := by decide +kernel
theorem dX4_conflict_53 : decode cX4_conflict 53 = .ok (.iload 5, 2) := by decide +kernel
theorem dX4_conflict_55 : decode cX4_conflict 55 = .ok (.iload 6, 2) := by decide +kernel
theorem dX4_conflict_57 : decode cX4_conflict 57 = .ok (.invokevirtual 116, 3) := by decide +kernel
theorem dX4_conflict_60 : decode cX4_conflict 60 = .ok (.ifCond .eq 22, 3) := by decide +kernel
theorem dX4_conflict_63 : decode cX4_conflict 63 = .ok (.iload_n 3, 1) := by decide +kernel
theorem dX4_conflict_64 : decode cX4_conflict 64 = .ok (.ifCond .ne 15, 3) := by decide +kernel
theorem dX4_conflict_67 : decode cX4_conflict 67 = .ok (.iload_n 2, 1) := by decide +kernel
theorem dX4_conflict_68 : decode cX4_conflict 68 = .ok (.ifCond .ne 8, 3) := by decide +kernel
theorem dX4_conflict_71 : decode cX4_conflict 71 = .ok (.iload 5, 2) := by decide +kernel
theorem dX4_conflict_73 : decode cX4_conflict 73 = .ok (.goto 5, 3) := by decide +kernel
theorem dX4_conflict_76 : decode cX4_conflict 76 = .ok (.iload 6, 2) := by decide +kernel
theorem dX4_conflict_78 : decode cX4_conflict 78 = .ok (.ireturn, 1) := by decide +kernel
theorem dX4_conflict_79 : decode cX4_conflict 79 = .ok (.iinc 3 (-1), 3) := by decide +kernel
theorem dX4_conflict_82 : decode cX4_conflict 82 = .ok (.iinc 6 1, 3) := by decide +kernel
theorem dX4_conflict_85 : decode cX4_conflict 85 = .ok (.goto (-43), 3) := by decide +kernel
theorem dX4_conflict_88 : decode cX4_conflict 88 = .ok (.iinc 5 1, 3) := by decide +kernel
theorem dX4_conflict_91 : decode cX4_conflict 91 = .ok (.goto (-62), 3) := by decide +kernel
theorem dX4_conflict_94 : decode cX4_conflict 94 = .ok (.iconst (-1), 1) := by decide +kernel
theorem dX4_conflict_95 : decode cX4_conflict 95 = .ok (.ireturn, 1) := by decide +kernel
theorem dX4_history_0 : decode cX4_history 0 = .ok (.aload_n 0, 1) := by decide +kernel
theorem dX4_history_1 : decode cX4_history 1 = .ok (.iload_n 1, 1) := by decide +kernel
theorem dX4_history_2 : decode cX4_history 2 = .ok (.iload_n 2, 1) := by decide +kernel
theorem dX4_history_3 : decode cX4_history 3 = .ok (.invokevirtual 41, 3) := by decide +kernel
theorem dX4_history_6 : decode cX4_history 6 = .ok (.ifCond .eq 7, 3) := by decide +kernel
theorem dX4_history_9 : decode cX4_history 9 = .ok (.iload_n 3, 1) := by decide +kernel
theorem dX4_history_10 : decode cX4_history 10 = .ok (.ifCond .ge 5, 3) := by decide +kernel
theorem dX4_history_13 : decode cX4_history 13 = .ok (.iconst 0, 1) := by decide +kernel
theorem dX4_history_14 : decode cX4_history 14 = .ok (.ireturn, 1) := by decide +kernel
theorem dX4_history_15 : decode cX4_history 15 = .ok (.aload_n 0, 1) := by decide +kernel
theorem dX4_history_16 : decode cX4_history 16 = .ok (.getfield 19, 3) := by decide +kernel
theorem dX4_history_19 : decode cX4_history 19 = .ok (.iload_n 1, 1) := by decide +kernel
theorem dX4_history_20 : decode cX4_history 20 = .ok (.iload_n 2, 1) := by decide +kernel
theorem dX4_history_21 : decode cX4_history 21 = .ok (.iload_n 3, 1) := by decide +kernel
theorem dX4_history_22 : decode cX4_history 22 = .ok (.invokevirtual 119, 3) := by decide +kernel
theorem dX4_history_25 : decode cX4_history 25 = .ok (.ireturn, 1) := by decide +kernel
theorem dX4_hasField_0 : decode cX4_hasField 0 = .ok (.aload_n 0, 1) := by decide +kernel
theorem dX4_hasField_1 : decode cX4_hasField 1 = .ok (.getfield 10, 3) := by decide +kernel
theorem dX4_hasField_4 : decode cX4_hasField 4 = .ok (.iload_n 1, 1) := by decide +kernel
theorem dX4_hasField_5 : decode cX4_hasField 5 = .ok (.invokevirtual 94, 3) := by decide +kernel
theorem dX4_hasField_8 : decode cX4_hasField 8 = .ok (.ifCond .eq 17, 3) := by decide +kernel
theorem dX4_hasField_11 : decode cX4_hasField 11 = .ok (.iload_n 2, 1) := by decide +kernel
theorem dX4_hasField_12 : decode cX4_hasField 12 = .ok (.ifCond .lt 13, 3) := by decide +kernel
theorem dX4_hasField_15 : decode cX4_hasField 15 = .ok (.iload_n 2, 1) := by decide +kernel
theorem dX4_hasField_16 : decode cX4_hasField 16 = .ok (.bipush 8, 2) := by decide +kernel
theorem dX4_hasField_18 : decode cX4_hasField 18 = .ok (.if_icmp .ge 7, 3) := by decide +kernel
theorem dX4_hasField_21 : decode cX4_hasField 21 = .ok (.iconst 1, 1) := by decide +kernel
theorem dX4_hasField_22 : decode cX4_hasField 22 = .ok (.goto 4, 3) := by decide +kernel
theorem dX4_hasField_25 : decode cX4_hasField 25 = .ok (.iconst 0, 1) := by decide +kernel
theorem dX4_hasField_26 : decode cX4_hasField 26 = .ok (.ireturn, 1) := by decide +kernel
theorem dX4_isLocked_0 : decode cX4_isLocked 0 = .ok (.aload_n 0, 1) := by decide +kernel
theorem dX4_isLocked_1 : decode cX4_isLocked 1 = .ok (.getfield 19, 3) := by decide +kernel
theorem dX4_isLocked_4 : decode cX4_isLocked 4 = .ok (.invokevirtual 68, 3) := by decide +kernel
theorem dX4_isLocked_7 : decode cX4_isLocked 7 = .ok (.aload_n 0, 1) := by decide +kernel
theorem dX4_isLocked_8 : decode cX4_isLocked 8 = .ok (.getfield 10, 3) := by decide +kernel
theorem dX4_isLocked_11 : decode cX4_isLocked 11 = .ok (.iload_n 1, 1) := by decide +kernel
theorem dX4_isLocked_12 : decode cX4_isLocked 12 = .ok (.invokevirtual 123, 3) := by decide +kernel
theorem dX4_isLocked_15 : decode cX4_isLocked 15 = .ok (.lcmp, 1) := by decide +kernel
theorem dX4_isLocked_16 : decode cX4_isLocked 16 = .ok (.ifCond .ge 7, 3) := by decide +kernel
theorem dX4_isLocked_19 : decode cX4_isLocked 19 = .ok (.iconst 1, 1) := by decide +kernel
theorem dX4_isLocked_20 : decode cX4_isLocked 20 = .ok (.goto 4, 3) := by decide +kernel
theorem dX4_isLocked_23 : decode cX4_isLocked 23 = .ok (.iconst 0, 1) := by decide +kernel
theorem dX4_isLocked_24 : decode cX4_isLocked 24 = .ok (.ireturn, 1) := by decide +kernel
theorem dX4_isRefusedDeletion_0 : decode cX4_isRefusedDeletion 0 = .ok (.iload_n 2, 1) := by decide +kernel
theorem dX4_isRefusedDeletion_1 : decode cX4_isRefusedDeletion 1 = .ok (.ifCond .ne 25, 3) := by decide +kernel
theorem dX4_isRefusedDeletion_4 : decode cX4_isRefusedDeletion 4 = .ok (.lload_n 3, 1) := by decide +kernel
theorem dX4_isRefusedDeletion_5 : decode cX4_isRefusedDeletion 5 = .ok (.lconst 1, 1) := by decide +kernel
theorem dX4_isRefusedDeletion_6 : decode cX4_isRefusedDeletion 6 = .ok (.lcmp, 1) := by decide +kernel
theorem dX4_isRefusedDeletion_7 : decode cX4_isRefusedDeletion 7 = .ok (.ifCond .ne 19, 3) := by decide +kernel
theorem dX4_isRefusedDeletion_10 : decode cX4_isRefusedDeletion 10 = .ok (.aload_n 0, 1) := by decide +kernel
theorem dX4_isRefusedDeletion_11 : decode cX4_isRefusedDeletion 11 = .ok (.getfield 10, 3) := by decide +kernel
theorem dX4_isRefusedDeletion_14 : decode cX4_isRefusedDeletion 14 = .ok (.iload_n 1, 1) := by decide +kernel
theorem dX4_isRefusedDeletion_15 : decode cX4_isRefusedDeletion 15 = .ok (.invokevirtual 126, 3) := by decide +kernel
theorem dX4_isRefusedDeletion_18 : decode cX4_isRefusedDeletion 18 = .ok (.iconst 1, 1) := by decide +kernel
theorem dX4_isRefusedDeletion_19 : decode cX4_isRefusedDeletion 19 = .ok (.if_icmp .ne 7, 3) := by decide +kernel
theorem dX4_isRefusedDeletion_22 : decode cX4_isRefusedDeletion 22 = .ok (.iconst 1, 1) := by decide +kernel
theorem dX4_isRefusedDeletion_23 : decode cX4_isRefusedDeletion 23 = .ok (.goto 4, 3) := by decide +kernel
theorem dX4_isRefusedDeletion_26 : decode cX4_isRefusedDeletion 26 = .ok (.iconst 0, 1) := by decide +kernel
theorem dX4_isRefusedDeletion_27 : decode cX4_isRefusedDeletion 27 = .ok (.ireturn, 1) := by decide +kernel
theorem dX4_isLeanedOn_0 : decode cX4_isLeanedOn 0 = .ok (.iload_n 1, 1) := by decide +kernel
theorem dX4_isLeanedOn_1 : decode cX4_isLeanedOn 1 = .ok (.iconst 1, 1) := by decide +kernel
theorem dX4_isLeanedOn_2 : decode cX4_isLeanedOn 2 = .ok (.iadd, 1) := by decide +kernel
theorem dX4_isLeanedOn_3 : decode cX4_isLeanedOn 3 = .ok (.istore_n 2, 1) := by decide +kernel
theorem dX4_isLeanedOn_4 : decode cX4_isLeanedOn 4 = .ok (.iload_n 2, 1) := by decide +kernel
theorem dX4_isLeanedOn_5 : decode cX4_isLeanedOn 5 = .ok (.aload_n 0, 1) := by decide +kernel
theorem dX4_isLeanedOn_6 : decode cX4_isLeanedOn 6 = .ok (.getfield 19, 3) := by decide +kernel
theorem dX4_isLeanedOn_9 : decode cX4_isLeanedOn 9 = .ok (.invokevirtual 109, 3) := by decide +kernel
theorem dX4_isLeanedOn_12 : decode cX4_isLeanedOn 12 = .ok (.if_icmp .gt 34, 3) := by decide +kernel
theorem dX4_isLeanedOn_15 : decode cX4_isLeanedOn 15 = .ok (.aload_n 0, 1) := by decide +kernel
theorem dX4_isLeanedOn_16 : decode cX4_isLeanedOn 16 = .ok (.getfield 19, 3) := by decide +kernel
theorem dX4_isLeanedOn_19 : decode cX4_isLeanedOn 19 = .ok (.iload_n 2, 1) := by decide +kernel
theorem dX4_isLeanedOn_20 : decode cX4_isLeanedOn 20 = .ok (.invokevirtual 79, 3) := by decide +kernel
theorem dX4_isLeanedOn_23 : decode cX4_isLeanedOn 23 = .ok (.ifCond .eq 17, 3) := by decide +kernel
theorem dX4_isLeanedOn_26 : decode cX4_isLeanedOn 26 = .ok (.aload_n 0, 1) := by decide +kernel
theorem dX4_isLeanedOn_27 : decode cX4_isLeanedOn 27 = .ok (.getfield 26, 3) := by decide +kernel
theorem dX4_isLeanedOn_30 : decode cX4_isLeanedOn 30 = .ok (.iload_n 2, 1) := by decide +kernel
theorem dX4_isLeanedOn_31 : decode cX4_isLeanedOn 31 = .ok (.iload_n 1, 1) := by decide +kernel
theorem dX4_isLeanedOn_32 : decode cX4_isLeanedOn 32 = .ok (.invokevirtual 89, 3) := by decide +kernel
theorem dX4_isLeanedOn_35 : decode cX4_isLeanedOn 35 = .ok (.ifCond .eq 5, 3) := by decide +kernel
theorem dX4_isLeanedOn_38 : decode cX4_isLeanedOn 38 = .ok (.iconst 1, 1) := by decide +kernel
theorem dX4_isLeanedOn_39 : decode cX4_isLeanedOn 39 = .ok (.ireturn, 1) := by decide +kernel
theorem dX4_isLeanedOn_40 : decode cX4_isLeanedOn 40 = .ok (.iinc 2 1, 3) := by decide +kernel
theorem dX4_isLeanedOn_43 : decode cX4_isLeanedOn 43 = .ok (.goto (-39), 3) := by decide +kernel
theorem dX4_isLeanedOn_46 : decode cX4_isLeanedOn 46 = .ok (.iconst 0, 1) := by decide +kernel
theorem dX4_isLeanedOn_47 : decode cX4_isLeanedOn 47 = .ok (.ireturn, 1) := by decide +kernel
theorem dX4_isLeanedOnFromOutside_0 : decode cX4_isLeanedOnFromOutside 0 = .ok (.iconst 1, 1) := by decide +kernel
theorem dX4_isLeanedOnFromOutside_1 : decode cX4_isLeanedOnFromOutside 1 = .ok (.istore_n 2, 1) := by decide +kernel
theorem dX4_isLeanedOnFromOutside_2 : decode cX4_isLeanedOnFromOutside 2 = .ok (.iload_n 2, 1) := by decide +kernel
theorem dX4_isLeanedOnFromOutside_3 : decode cX4_isLeanedOnFromOutside 3 = .ok (.aload_n 0, 1) := by decide +kernel
theorem dX4_isLeanedOnFromOutside_4 : decode cX4_isLeanedOnFromOutside 4 = .ok (.getfield 19, 3) := by decide +kernel
theorem dX4_isLeanedOnFromOutside_7 : decode cX4_isLeanedOnFromOutside 7 = .ok (.invokevirtual 109, 3) := by decide +kernel
theorem dX4_isLeanedOnFromOutside_10 : decode cX4_isLeanedOnFromOutside 10 = .ok (.if_icmp .gt 29, 3) := by decide +kernel
theorem dX4_isLeanedOnFromOutside_13 : decode cX4_isLeanedOnFromOutside 13 = .ok (.aload_n 0, 1) := by decide +kernel
theorem dX4_isLeanedOnFromOutside_14 : decode cX4_isLeanedOnFromOutside 14 = .ok (.iload_n 2, 1) := by decide +kernel
theorem dX4_isLeanedOnFromOutside_15 : decode cX4_isLeanedOnFromOutside 15 = .ok (.iload_n 1, 1) := by decide +kernel
theorem dX4_isLeanedOnFromOutside_16 : decode cX4_isLeanedOnFromOutside 16 = .ok (.invokevirtual 113, 3) := by decide +kernel
theorem dX4_isLeanedOnFromOutside_19 : decode cX4_isLeanedOnFromOutside 19 = .ok (.ifCond .eq 14, 3) := by decide +kernel
theorem dX4_isLeanedOnFromOutside_22 : decode cX4_isLeanedOnFromOutside 22 = .ok (.aload_n 0, 1) := by decide +kernel
theorem dX4_isLeanedOnFromOutside_23 : decode cX4_isLeanedOnFromOutside 23 = .ok (.iload_n 2, 1) := by decide +kernel
theorem dX4_isLeanedOnFromOutside_24 : decode cX4_isLeanedOnFromOutside 24 = .ok (.iload_n 1, 1) := by decide +kernel
theorem dX4_isLeanedOnFromOutside_25 : decode cX4_isLeanedOnFromOutside 25 = .ok (.invokevirtual 129, 3) := by decide +kernel
theorem dX4_isLeanedOnFromOutside_28 : decode cX4_isLeanedOnFromOutside 28 = .ok (.ifCond .eq 5, 3) := by decide +kernel
theorem dX4_isLeanedOnFromOutside_31 : decode cX4_isLeanedOnFromOutside 31 = .ok (.iconst 1, 1) := by decide +kernel
theorem dX4_isLeanedOnFromOutside_32 : decode cX4_isLeanedOnFromOutside 32 = .ok (.ireturn, 1) := by decide +kernel
theorem dX4_isLeanedOnFromOutside_33 : decode cX4_isLeanedOnFromOutside 33 = .ok (.iinc 2 1, 3) := by decide +kernel
theorem dX4_isLeanedOnFromOutside_36 : decode cX4_isLeanedOnFromOutside 36 = .ok (.goto (-34), 3) := by decide +kernel
theorem dX4_isLeanedOnFromOutside_39 : decode cX4_isLeanedOnFromOutside 39 = .ok (.iconst 0, 1) := by decide +kernel
theorem dX4_isLeanedOnFromOutside_40 : decode cX4_isLeanedOnFromOutside 40 = .ok (.ireturn, 1) := by decide +kernel
theorem dX4_isLeanedOnOutside_0 : decode cX4_isLeanedOnOutside 0 = .ok (.iload_n 1, 1) := by decide +kernel
theorem dX4_isLeanedOnOutside_1 : decode cX4_isLeanedOnOutside 1 = .ok (.iconst 1, 1) := by decide +kernel
theorem dX4_isLeanedOnOutside_2 : decode cX4_isLeanedOnOutside 2 = .ok (.iadd, 1) := by decide +kernel
theorem dX4_isLeanedOnOutside_3 : decode cX4_isLeanedOnOutside 3 = .ok (.istore_n 3, 1) := by decide +kernel
theorem dX4_isLeanedOnOutside_4 : decode cX4_isLeanedOnOutside 4 = .ok (.iload_n 3, 1) := by decide +kernel
theorem dX4_isLeanedOnOutside_5 : decode cX4_isLeanedOnOutside 5 = .ok (.aload_n 0, 1) := by decide +kernel
theorem dX4_isLeanedOnOutside_6 : decode cX4_isLeanedOnOutside 6 = .ok (.getfield 19, 3) := by decide +kernel
theorem dX4_isLeanedOnOutside_9 : decode cX4_isLeanedOnOutside 9 = .ok (.invokevirtual 109, 3) := by decide +kernel
theorem dX4_isLeanedOnOutside_12 : decode cX4_isLeanedOnOutside 12 = .ok (.if_icmp .gt 46, 3) := by decide +kernel
theorem dX4_isLeanedOnOutside_15 : decode cX4_isLeanedOnOutside 15 = .ok (.aload_n 0, 1) := by decide +kernel
theorem dX4_isLeanedOnOutside_16 : decode cX4_isLeanedOnOutside 16 = .ok (.getfield 19, 3) := by decide +kernel
theorem dX4_isLeanedOnOutside_19 : decode cX4_isLeanedOnOutside 19 = .ok (.iload_n 3, 1) := by decide +kernel
theorem dX4_isLeanedOnOutside_20 : decode cX4_isLeanedOnOutside 20 = .ok (.invokevirtual 79, 3) := by decide +kernel
theorem dX4_isLeanedOnOutside_23 : decode cX4_isLeanedOnOutside 23 = .ok (.ifCond .eq 29, 3) := by decide +kernel
theorem dX4_isLeanedOnOutside_26 : decode cX4_isLeanedOnOutside 26 = .ok (.aload_n 0, 1) := by decide +kernel
theorem dX4_isLeanedOnOutside_27 : decode cX4_isLeanedOnOutside 27 = .ok (.getfield 33, 3) := by decide +kernel
theorem dX4_isLeanedOnOutside_30 : decode cX4_isLeanedOnOutside 30 = .ok (.iload_n 3, 1) := by decide +kernel
theorem dX4_isLeanedOnOutside_31 : decode cX4_isLeanedOnOutside 31 = .ok (.invokevirtual 132, 3) := by decide +kernel
theorem dX4_isLeanedOnOutside_34 : decode cX4_isLeanedOnOutside 34 = .ok (.iload_n 2, 1) := by decide +kernel
theorem dX4_isLeanedOnOutside_35 : decode cX4_isLeanedOnOutside 35 = .ok (.if_icmp .eq 17, 3) := by decide +kernel
theorem dX4_isLeanedOnOutside_38 : decode cX4_isLeanedOnOutside 38 = .ok (.aload_n 0, 1) := by decide +kernel
theorem dX4_isLeanedOnOutside_39 : decode cX4_isLeanedOnOutside 39 = .ok (.getfield 26, 3) := by decide +kernel
theorem dX4_isLeanedOnOutside_42 : decode cX4_isLeanedOnOutside 42 = .ok (.iload_n 3, 1) := by decide +kernel
theorem dX4_isLeanedOnOutside_43 : decode cX4_isLeanedOnOutside 43 = .ok (.iload_n 1, 1) := by decide +kernel
theorem dX4_isLeanedOnOutside_44 : decode cX4_isLeanedOnOutside 44 = .ok (.invokevirtual 89, 3) := by decide +kernel
theorem dX4_isLeanedOnOutside_47 : decode cX4_isLeanedOnOutside 47 = .ok (.ifCond .eq 5, 3) := by decide +kernel
theorem dX4_isLeanedOnOutside_50 : decode cX4_isLeanedOnOutside 50 = .ok (.iconst 1, 1) := by decide +kernel
theorem dX4_isLeanedOnOutside_51 : decode cX4_isLeanedOnOutside 51 = .ok (.ireturn, 1) := by decide +kernel
theorem dX4_isLeanedOnOutside_52 : decode cX4_isLeanedOnOutside 52 = .ok (.iinc 3 1, 3) := by decide +kernel
theorem dX4_isLeanedOnOutside_55 : decode cX4_isLeanedOnOutside 55 = .ok (.goto (-51), 3) := by decide +kernel
theorem dX4_isLeanedOnOutside_58 : decode cX4_isLeanedOnOutside 58 = .ok (.iconst 0, 1) := by decide +kernel
theorem dX4_isLeanedOnOutside_59 : decode cX4_isLeanedOnOutside 59 = .ok (.ireturn, 1) := by decide +kernel
theorem dX4_countsInBatch_0 : decode cX4_countsInBatch 0 = .ok (.aload_n 0, 1) := by decide +kernel
theorem dX4_countsInBatch_1 : decode cX4_countsInBatch 1 = .ok (.getfield 33, 3) := by decide +kernel
theorem dX4_countsInBatch_4 : decode cX4_countsInBatch 4 = .ok (.iload_n 1, 1) := by decide +kernel
theorem dX4_countsInBatch_5 : decode cX4_countsInBatch 5 = .ok (.invokevirtual 132, 3) := by decide +kernel
theorem dX4_countsInBatch_8 : decode cX4_countsInBatch 8 = .ok (.iload_n 2, 1) := by decide +kernel
theorem dX4_countsInBatch_9 : decode cX4_countsInBatch 9 = .ok (.if_icmp .ne 18, 3) := by decide +kernel
theorem dX4_countsInBatch_12 : decode cX4_countsInBatch 12 = .ok (.aload_n 0, 1) := by decide +kernel
theorem dX4_countsInBatch_13 : decode cX4_countsInBatch 13 = .ok (.getfield 19, 3) := by decide +kernel
theorem dX4_countsInBatch_16 : decode cX4_countsInBatch 16 = .ok (.iload_n 1, 1) := by decide +kernel
theorem dX4_countsInBatch_17 : decode cX4_countsInBatch 17 = .ok (.invokevirtual 79, 3) := by decide +kernel
theorem dX4_countsInBatch_20 : decode cX4_countsInBatch 20 = .ok (.ifCond .eq 7, 3) := by decide +kernel
theorem dX4_countsInBatch_23 : decode cX4_countsInBatch 23 = .ok (.iconst 1, 1) := by decide +kernel
theorem dX4_countsInBatch_24 : decode cX4_countsInBatch 24 = .ok (.goto 4, 3) := by decide +kernel
theorem dX4_countsInBatch_27 : decode cX4_countsInBatch 27 = .ok (.iconst 0, 1) := by decide +kernel
theorem dX4_countsInBatch_28 : decode cX4_countsInBatch 28 = .ok (.ireturn, 1) := by decide +kernel
theorem dX0_init_0 : decode cX0_init 0 = .ok (.aload_n 0, 1) := by decide +kernel
theorem dX0_init_1 : decode cX0_init 1 = .ok (.invokespecial 3, 3) := by decide +kernel
theorem dX0_init_4 : decode cX0_init 4 = .ok (.aload_n 0, 1) := by decide +kernel
theorem dX0_init_5 : decode cX0_init 5 = .ok (.sipush 201, 3) := by decide +kernel
theorem dX0_init_8 : decode cX0_init 8 = .ok (.newarray .int, 2) := by decide +kernel
theorem dX0_init_10 : decode cX0_init 10 = .ok (.putfield 9, 3) := by decide +kernel
theorem dX0_init_13 : decode cX0_init 13 = .ok (.aload_n 0, 1) := by decide +kernel
theorem dX0_init_14 : decode cX0_init 14 = .ok (.sipush 201, 3) := by decide +kernel
theorem dX0_init_17 : decode cX0_init 17 = .ok (.newarray .int, 2) := by decide +kernel
theorem dX0_init_19 : decode cX0_init 19 = .ok (.putfield 15, 3) := by decide +kernel
theorem dX0_init_22 : decode cX0_init 22 = .ok (.aload_n 0, 1) := by decide +kernel
theorem dX0_init_23 : decode cX0_init 23 = .ok (.sipush 201, 3) := by decide +kernel
theorem dX0_init_26 : decode cX0_init 26 = .ok (.newarray .int, 2) := by decide +kernel
theorem dX0_init_28 : decode cX0_init 28 = .ok (.putfield 18, 3) := by decide +kernel
theorem dX0_init_31 : decode cX0_init 31 = .ok (.aload_n 0, 1) := by decide +kernel
theorem dX0_init_32 : decode cX0_init 32 = .ok (.sipush 201, 3) := by decide +kernel
theorem dX0_init_35 : decode cX0_init 35 = .ok (.newarray .long, 2) := by decide +kernel
theorem dX0_init_37 : decode cX0_init 37 = .ok (.putfield 21, 3) := by decide +kernel
theorem dX0_init_40 : decode cX0_init 40 = .ok (.aload_n 0, 1) := by decide +kernel
theorem dX0_init_41 : decode cX0_init 41 = .ok (.sipush 201, 3) := by decide +kernel
theorem dX0_init_44 : decode cX0_init 44 = .ok (.newarray .long, 2) := by decide +kernel
theorem dX0_init_46 : decode cX0_init 46 = .ok (.putfield 25, 3) := by decide +kernel
theorem dX0_init_49 : decode cX0_init 49 = .ok (.aload_n 0, 1) := by decide +kernel
theorem dX0_init_50 : decode cX0_init 50 = .ok (.sipush 201, 3) := by decide +kernel
theorem dX0_init_53 : decode cX0_init 53 = .ok (.newarray .boolean, 2) := by decide +kernel
theorem dX0_init_55 : decode cX0_init 55 = .ok (.putfield 28, 3) := by decide +kernel
theorem dX0_init_58 : decode cX0_init 58 = .ok (.aload_n 0, 1) := by decide +kernel
theorem dX0_init_59 : decode cX0_init 59 = .ok (.sipush 201, 3) := by decide +kernel
theorem dX0_init_62 : decode cX0_init 62 = .ok (.newarray .int, 2) := by decide +kernel
theorem dX0_init_64 : decode cX0_init 64 = .ok (.putfield 32, 3) := by decide +kernel
theorem dX0_init_67 : decode cX0_init 67 = .ok (.aload_n 0, 1) := by decide +kernel
theorem dX0_init_68 : decode cX0_init 68 = .ok (.iconst 0, 1) := by decide +kernel
theorem dX0_init_69 : decode cX0_init 69 = .ok (.putfield 35, 3) := by decide +kernel
theorem dX0_init_72 : decode cX0_init 72 = .ok (.return_, 1) := by decide +kernel
theorem dX0_has_0 : decode cX0_has 0 = .ok (.iload_n 1, 1) := by decide +kernel
theorem dX0_has_1 : decode cX0_has 1 = .ok (.iconst 1, 1) := by decide +kernel
theorem dX0_has_2 : decode cX0_has 2 = .ok (.if_icmp .lt 15, 3) := by decide +kernel
theorem dX0_has_5 : decode cX0_has 5 = .ok (.iload_n 1, 1) := by decide +kernel
theorem dX0_has_6 : decode cX0_has 6 = .ok (.aload_n 0, 1) := by decide +kernel
theorem dX0_has_7 : decode cX0_has 7 = .ok (.getfield 35, 3) := by decide +kernel
theorem dX0_has_10 : decode cX0_has 10 = .ok (.if_icmp .gt 7, 3) := by decide +kernel
theorem dX0_has_13 : decode cX0_has 13 = .ok (.iconst 1, 1) := by decide +kernel
theorem dX0_has_14 : decode cX0_has 14 = .ok (.goto 4, 3) := by decide +kernel
theorem dX0_has_17 : decode cX0_has 17 = .ok (.iconst 0, 1) := by decide +kernel
theorem dX0_has_18 : decode cX0_has 18 = .ok (.ireturn, 1) := by decide +kernel
theorem dX0_count_0 : decode cX0_count 0 = .ok (.aload_n 0, 1) := by decide +kernel
theorem dX0_count_1 : decode cX0_count 1 = .ok (.getfield 35, 3) := by decide +kernel
theorem dX0_count_4 : decode cX0_count 4 = .ok (.ireturn, 1) := by decide +kernel
theorem dX0_counts_0 : decode cX0_counts 0 = .ok (.aload_n 0, 1) := by decide +kernel
theorem dX0_counts_1 : decode cX0_counts 1 = .ok (.getfield 28, 3) := by decide +kernel
theorem dX0_counts_4 : decode cX0_counts 4 = .ok (.iload_n 1, 1) := by decide +kernel
theorem dX0_counts_5 : decode cX0_counts 5 = .ok (.baload, 1) := by decide +kernel
theorem dX0_counts_6 : decode cX0_counts 6 = .ok (.ireturn, 1) := by decide +kernel
theorem dX0_value_0 : decode cX0_value 0 = .ok (.aload_n 0, 1) := by decide +kernel
theorem dX0_value_1 : decode cX0_value 1 = .ok (.getfield 18, 3) := by decide +kernel
theorem dX0_value_4 : decode cX0_value 4 = .ok (.iload_n 1, 1) := by decide +kernel
theorem dX0_value_5 : decode cX0_value 5 = .ok (.iaload, 1) := by decide +kernel
theorem dX0_value_6 : decode cX0_value 6 = .ok (.ireturn, 1) := by decide +kernel
theorem dX0_known_0 : decode cX0_known 0 = .ok (.aload_n 0, 1) := by decide +kernel
theorem dX0_known_1 : decode cX0_known 1 = .ok (.getfield 25, 3) := by decide +kernel
theorem dX0_known_4 : decode cX0_known 4 = .ok (.iload_n 1, 1) := by decide +kernel
theorem dX0_known_5 : decode cX0_known 5 = .ok (.laload, 1) := by decide +kernel
theorem dX0_known_6 : decode cX0_known 6 = .ok (.lreturn, 1) := by decide +kernel
theorem dX0_now_0 : decode cX0_now 0 = .ok (.aload_n 0, 1) := by decide +kernel
theorem dX0_now_1 : decode cX0_now 1 = .ok (.getfield 35, 3) := by decide +kernel
theorem dX0_now_4 : decode cX0_now 4 = .ok (.ifCond .ne 9, 3) := by decide +kernel
theorem dX0_now_7 : decode cX0_now 7 = .ok (.ldc2_w 39, 3) := by decide +kernel
theorem dX0_now_10 : decode cX0_now 10 = .ok (.goto 17, 3) := by decide +kernel
theorem dX0_now_13 : decode cX0_now 13 = .ok (.aload_n 0, 1) := by decide +kernel
theorem dX0_now_14 : decode cX0_now 14 = .ok (.getfield 25, 3) := by decide +kernel
theorem dX0_now_17 : decode cX0_now 17 = .ok (.aload_n 0, 1) := by decide +kernel
theorem dX0_now_18 : decode cX0_now 18 = .ok (.getfield 32, 3) := by decide +kernel
theorem dX0_now_21 : decode cX0_now 21 = .ok (.aload_n 0, 1) := by decide +kernel
theorem dX0_now_22 : decode cX0_now 22 = .ok (.getfield 35, 3) := by decide +kernel
theorem dX0_now_25 : decode cX0_now 25 = .ok (.iaload, 1) := by decide +kernel
theorem dX0_now_26 : decode cX0_now 26 = .ok (.laload, 1) := by decide +kernel
theorem dX0_now_27 : decode cX0_now 27 = .ok (.lreturn, 1) := by decide +kernel
theorem dX0_setUndone_0 : decode cX0_setUndone 0 = .ok (.aload_n 0, 1) := by decide +kernel
theorem dX0_setUndone_1 : decode cX0_setUndone 1 = .ok (.getfield 28, 3) := by decide +kernel
theorem dX0_setUndone_4 : decode cX0_setUndone 4 = .ok (.iload_n 1, 1) := by decide +kernel
theorem dX0_setUndone_5 : decode cX0_setUndone 5 = .ok (.iconst 0, 1) := by decide +kernel
theorem dX0_setUndone_6 : decode cX0_setUndone 6 = .ok (.bastore, 1) := by decide +kernel
theorem dX0_setUndone_7 : decode cX0_setUndone 7 = .ok (.return_, 1) := by decide +kernel
theorem dX0_add_0 : decode cX0_add 0 = .ok (.aload_n 0, 1) := by decide +kernel
theorem dX0_add_1 : decode cX0_add 1 = .ok (.getfield 35, 3) := by decide +kernel
theorem dX0_add_4 : decode cX0_add 4 = .ok (.sipush 200, 3) := by decide +kernel
theorem dX0_add_7 : decode cX0_add 7 = .ok (.if_icmp .lt 5, 3) := by decide +kernel
theorem dX0_add_10 : decode cX0_add 10 = .ok (.iconst 0, 1) := by decide +kernel
theorem dX0_add_11 : decode cX0_add 11 = .ok (.ireturn, 1) := by decide +kernel
theorem dX0_add_12 : decode cX0_add 12 = .ok (.aload_n 0, 1) := by decide +kernel
theorem dX0_add_13 : decode cX0_add 13 = .ok (.dup, 1) := by decide +kernel
theorem dX0_add_14 : decode cX0_add 14 = .ok (.getfield 35, 3) := by decide +kernel
theorem dX0_add_17 : decode cX0_add 17 = .ok (.iconst 1, 1) := by decide +kernel
theorem dX0_add_18 : decode cX0_add 18 = .ok (.iadd, 1) := by decide +kernel
theorem dX0_add_19 : decode cX0_add 19 = .ok (.putfield 35, 3) := by decide +kernel
theorem dX0_add_22 : decode cX0_add 22 = .ok (.aload_n 0, 1) := by decide +kernel
theorem dX0_add_23 : decode cX0_add 23 = .ok (.getfield 9, 3) := by decide +kernel
theorem dX0_add_26 : decode cX0_add 26 = .ok (.aload_n 0, 1) := by decide +kernel
theorem dX0_add_27 : decode cX0_add 27 = .ok (.getfield 35, 3) := by decide +kernel
theorem dX0_add_30 : decode cX0_add 30 = .ok (.iload_n 1, 1) := by decide +kernel
theorem dX0_add_31 : decode cX0_add 31 = .ok (.iastore, 1) := by decide +kernel
theorem dX0_add_32 : decode cX0_add 32 = .ok (.aload_n 0, 1) := by decide +kernel
theorem dX0_add_33 : decode cX0_add 33 = .ok (.getfield 15, 3) := by decide +kernel
theorem dX0_add_36 : decode cX0_add 36 = .ok (.aload_n 0, 1) := by decide +kernel
theorem dX0_add_37 : decode cX0_add 37 = .ok (.getfield 35, 3) := by decide +kernel
theorem dX0_add_40 : decode cX0_add 40 = .ok (.iload_n 2, 1) := by decide +kernel
theorem dX0_add_41 : decode cX0_add 41 = .ok (.iastore, 1) := by decide +kernel
theorem dX0_add_42 : decode cX0_add 42 = .ok (.aload_n 0, 1) := by decide +kernel
theorem dX0_add_43 : decode cX0_add 43 = .ok (.getfield 18, 3) := by decide +kernel
theorem dX0_add_46 : decode cX0_add 46 = .ok (.aload_n 0, 1) := by decide +kernel
theorem dX0_add_47 : decode cX0_add 47 = .ok (.getfield 35, 3) := by decide +kernel
theorem dX0_add_50 : decode cX0_add 50 = .ok (.iload_n 3, 1) := by decide +kernel
theorem dX0_add_51 : decode cX0_add 51 = .ok (.iastore, 1) := by decide +kernel
theorem dX0_add_52 : decode cX0_add 52 = .ok (.aload_n 0, 1) := by decide +kernel
theorem dX0_add_53 : decode cX0_add 53 = .ok (.getfield 21, 3) := by decide +kernel
theorem dX0_add_56 : decode cX0_add 56 = .ok (.aload_n 0, 1) := by decide +kernel
theorem dX0_add_57 : decode cX0_add 57 = .ok (.getfield 35, 3) := by decide +kernel
theorem dX0_add_60 : decode cX0_add 60 = .ok (.lload 4, 2) := by decide +kernel
theorem dX0_add_62 : decode cX0_add 62 = .ok (.lastore, 1) := by decide +kernel
theorem dX0_add_63 : decode cX0_add 63 = .ok (.aload_n 0, 1) := by decide +kernel
theorem dX0_add_64 : decode cX0_add 64 = .ok (.getfield 25, 3) := by decide +kernel
theorem dX0_add_67 : decode cX0_add 67 = .ok (.aload_n 0, 1) := by decide +kernel
theorem dX0_add_68 : decode cX0_add 68 = .ok (.getfield 35, 3) := by decide +kernel
theorem dX0_add_71 : decode cX0_add 71 = .ok (.lload 6, 2) := by decide +kernel
theorem dX0_add_73 : decode cX0_add 73 = .ok (.lastore, 1) := by decide +kernel
theorem dX0_add_74 : decode cX0_add 74 = .ok (.aload_n 0, 1) := by decide +kernel
theorem dX0_add_75 : decode cX0_add 75 = .ok (.getfield 28, 3) := by decide +kernel
theorem dX0_add_78 : decode cX0_add 78 = .ok (.aload_n 0, 1) := by decide +kernel
theorem dX0_add_79 : decode cX0_add 79 = .ok (.getfield 35, 3) := by decide +kernel
theorem dX0_add_82 : decode cX0_add 82 = .ok (.iconst 1, 1) := by decide +kernel
theorem dX0_add_83 : decode cX0_add 83 = .ok (.bastore, 1) := by decide +kernel
theorem dX0_add_84 : decode cX0_add 84 = .ok (.aload_n 0, 1) := by decide +kernel
theorem dX0_add_85 : decode cX0_add 85 = .ok (.invokevirtual 41, 3) := by decide +kernel
theorem dX0_add_88 : decode cX0_add 88 = .ok (.aload_n 0, 1) := by decide +kernel
theorem dX0_add_89 : decode cX0_add 89 = .ok (.getfield 35, 3) := by decide +kernel
theorem dX0_add_92 : decode cX0_add 92 = .ok (.ireturn, 1) := by decide +kernel
theorem dX0_putNewestInOrder_0 : decode cX0_putNewestInOrder 0 = .ok (.aload_n 0, 1) := by decide +kernel
theorem dX0_putNewestInOrder_1 : decode cX0_putNewestInOrder 1 = .ok (.getfield 35, 3) := by decide +kernel
theorem dX0_putNewestInOrder_4 : decode cX0_putNewestInOrder 4 = .ok (.istore_n 1, 1) := by decide +kernel
theorem dX0_putNewestInOrder_5 : decode cX0_putNewestInOrder 5 = .ok (.iload_n 1, 1) := by decide +kernel
theorem dX0_putNewestInOrder_6 : decode cX0_putNewestInOrder 6 = .ok (.iconst 1, 1) := by decide +kernel
theorem dX0_putNewestInOrder_7 : decode cX0_putNewestInOrder 7 = .ok (.if_icmp .le 42, 3) := by decide +kernel
theorem dX0_putNewestInOrder_10 : decode cX0_putNewestInOrder 10 = .ok (.aload_n 0, 1) := by decide +kernel
theorem dX0_putNewestInOrder_11 : decode cX0_putNewestInOrder 11 = .ok (.aload_n 0, 1) := by decide +kernel
theorem dX0_putNewestInOrder_12 : decode cX0_putNewestInOrder 12 = .ok (.getfield 32, 3) := by decide +kernel
theorem dX0_putNewestInOrder_15 : decode cX0_putNewestInOrder 15 = .ok (.iload_n 1, 1) := by decide +kernel
theorem dX0_putNewestInOrder_16 : decode cX0_putNewestInOrder 16 = .ok (.iconst 1, 1) := by decide +kernel
theorem dX0_putNewestInOrder_17 : decode cX0_putNewestInOrder 17 = .ok (.isub, 1) := by decide +kernel
theorem dX0_putNewestInOrder_18 : decode cX0_putNewestInOrder 18 = .ok (.iaload, 1) := by decide +kernel
theorem dX0_putNewestInOrder_19 : decode cX0_putNewestInOrder 19 = .ok (.aload_n 0, 1) := by decide +kernel
theorem dX0_putNewestInOrder_20 : decode cX0_putNewestInOrder 20 = .ok (.getfield 35, 3) := by decide +kernel
theorem dX0_putNewestInOrder_23 : decode cX0_putNewestInOrder 23 = .ok (.invokevirtual 44, 3) := by decide +kernel
theorem dX0_putNewestInOrder_26 : decode cX0_putNewestInOrder 26 = .ok (.ifCond .eq 23, 3) := by decide +kernel
theorem dX0_putNewestInOrder_29 : decode cX0_putNewestInOrder 29 = .ok (.aload_n 0, 1) := by decide +kernel
theorem dX0_putNewestInOrder_30 : decode cX0_putNewestInOrder 30 = .ok (.getfield 32, 3) := by decide +kernel
theorem dX0_putNewestInOrder_33 : decode cX0_putNewestInOrder 33 = .ok (.iload_n 1, 1) := by decide +kernel
theorem dX0_putNewestInOrder_34 : decode cX0_putNewestInOrder 34 = .ok (.aload_n 0, 1) := by decide +kernel
theorem dX0_putNewestInOrder_35 : decode cX0_putNewestInOrder 35 = .ok (.getfield 32, 3) := by decide +kernel
theorem dX0_putNewestInOrder_38 : decode cX0_putNewestInOrder 38 = .ok (.iload_n 1, 1) := by decide +kernel
theorem dX0_putNewestInOrder_39 : decode cX0_putNewestInOrder 39 = .ok (.iconst 1, 1) := by decide +kernel
theorem dX0_putNewestInOrder_40 : decode cX0_putNewestInOrder 40 = .ok (.isub, 1) := by decide +kernel
theorem dX0_putNewestInOrder_41 : decode cX0_putNewestInOrder 41 = .ok (.iaload, 1) := by decide +kernel
theorem dX0_putNewestInOrder_42 : decode cX0_putNewestInOrder 42 = .ok (.iastore, 1) := by decide +kernel
theorem dX0_putNewestInOrder_43 : decode cX0_putNewestInOrder 43 = .ok (.iinc 1 (-1), 3) := by decide +kernel
theorem dX0_putNewestInOrder_46 : decode cX0_putNewestInOrder 46 = .ok (.goto (-41), 3) := by decide +kernel
theorem dX0_putNewestInOrder_49 : decode cX0_putNewestInOrder 49 = .ok (.aload_n 0, 1) := by decide +kernel
theorem dX0_putNewestInOrder_50 : decode cX0_putNewestInOrder 50 = .ok (.getfield 32, 3) := by decide +kernel
theorem dX0_putNewestInOrder_53 : decode cX0_putNewestInOrder 53 = .ok (.iload_n 1, 1) := by decide +kernel
theorem dX0_putNewestInOrder_54 : decode cX0_putNewestInOrder 54 = .ok (.aload_n 0, 1) := by decide +kernel
theorem dX0_putNewestInOrder_55 : decode cX0_putNewestInOrder 55 = .ok (.getfield 35, 3) := by decide +kernel
theorem dX0_putNewestInOrder_58 : decode cX0_putNewestInOrder 58 = .ok (.iastore, 1) := by decide +kernel
theorem dX0_putNewestInOrder_59 : decode cX0_putNewestInOrder 59 = .ok (.return_, 1) := by decide +kernel
theorem dX0_isBehind_0 : decode cX0_isBehind 0 = .ok (.aload_n 0, 1) := by decide +kernel
theorem dX0_isBehind_1 : decode cX0_isBehind 1 = .ok (.getfield 25, 3) := by decide +kernel
theorem dX0_isBehind_4 : decode cX0_isBehind 4 = .ok (.iload_n 1, 1) := by decide +kernel
theorem dX0_isBehind_5 : decode cX0_isBehind 5 = .ok (.laload, 1) := by decide +kernel
theorem dX0_isBehind_6 : decode cX0_isBehind 6 = .ok (.aload_n 0, 1) := by decide +kernel
theorem dX0_isBehind_7 : decode cX0_isBehind 7 = .ok (.getfield 25, 3) := by decide +kernel
theorem dX0_isBehind_10 : decode cX0_isBehind 10 = .ok (.iload_n 2, 1) := by decide +kernel
theorem dX0_isBehind_11 : decode cX0_isBehind 11 = .ok (.laload, 1) := by decide +kernel
theorem dX0_isBehind_12 : decode cX0_isBehind 12 = .ok (.lcmp, 1) := by decide +kernel
theorem dX0_isBehind_13 : decode cX0_isBehind 13 = .ok (.ifCond .eq 25, 3) := by decide +kernel
theorem dX0_isBehind_16 : decode cX0_isBehind 16 = .ok (.aload_n 0, 1) := by decide +kernel
theorem dX0_isBehind_17 : decode cX0_isBehind 17 = .ok (.getfield 25, 3) := by decide +kernel
theorem dX0_isBehind_20 : decode cX0_isBehind 20 = .ok (.iload_n 1, 1) := by decide +kernel
theorem dX0_isBehind_21 : decode cX0_isBehind 21 = .ok (.laload, 1) := by decide +kernel
theorem dX0_isBehind_22 : decode cX0_isBehind 22 = .ok (.aload_n 0, 1) := by decide +kernel
theorem dX0_isBehind_23 : decode cX0_isBehind 23 = .ok (.getfield 25, 3) := by decide +kernel
theorem dX0_isBehind_26 : decode cX0_isBehind 26 = .ok (.iload_n 2, 1) := by decide +kernel
theorem dX0_isBehind_27 : decode cX0_isBehind 27 = .ok (.laload, 1) := by decide +kernel
theorem dX0_isBehind_28 : decode cX0_isBehind 28 = .ok (.lcmp, 1) := by decide +kernel
theorem dX0_isBehind_29 : decode cX0_isBehind 29 = .ok (.ifCond .le 7, 3) := by decide +kernel
theorem dX0_isBehind_32 : decode cX0_isBehind 32 = .ok (.iconst 1, 1) := by decide +kernel
theorem dX0_isBehind_33 : decode cX0_isBehind 33 = .ok (.goto 4, 3) := by decide +kernel
theorem dX0_isBehind_36 : decode cX0_isBehind 36 = .ok (.iconst 0, 1) := by decide +kernel
theorem dX0_isBehind_37 : decode cX0_isBehind 37 = .ok (.ireturn, 1) := by decide +kernel
theorem dX0_isBehind_38 : decode cX0_isBehind 38 = .ok (.aload_n 0, 1) := by decide +kernel
theorem dX0_isBehind_39 : decode cX0_isBehind 39 = .ok (.getfield 21, 3) := by decide +kernel
theorem dX0_isBehind_42 : decode cX0_isBehind 42 = .ok (.iload_n 1, 1) := by decide +kernel
theorem dX0_isBehind_43 : decode cX0_isBehind 43 = .ok (.laload, 1) := by decide +kernel
theorem dX0_isBehind_44 : decode cX0_isBehind 44 = .ok (.aload_n 0, 1) := by decide +kernel
theorem dX0_isBehind_45 : decode cX0_isBehind 45 = .ok (.getfield 21, 3) := by decide +kernel
theorem dX0_isBehind_48 : decode cX0_isBehind 48 = .ok (.iload_n 2, 1) := by decide +kernel
theorem dX0_isBehind_49 : decode cX0_isBehind 49 = .ok (.laload, 1) := by decide +kernel
theorem dX0_isBehind_50 : decode cX0_isBehind 50 = .ok (.lcmp, 1) := by decide +kernel
theorem dX0_isBehind_51 : decode cX0_isBehind 51 = .ok (.ifCond .le 7, 3) := by decide +kernel
theorem dX0_isBehind_54 : decode cX0_isBehind 54 = .ok (.iconst 1, 1) := by decide +kernel
theorem dX0_isBehind_55 : decode cX0_isBehind 55 = .ok (.goto 4, 3) := by decide +kernel
theorem dX0_isBehind_58 : decode cX0_isBehind 58 = .ok (.iconst 0, 1) := by decide +kernel
theorem dX0_isBehind_59 : decode cX0_isBehind 59 = .ok (.ireturn, 1) := by decide +kernel
theorem dX0_findCounting_0 : decode cX0_findCounting 0 = .ok (.iconst 1, 1) := by decide +kernel
theorem dX0_findCounting_1 : decode cX0_findCounting 1 = .ok (.istore 8, 2) := by decide +kernel
theorem dX0_findCounting_3 : decode cX0_findCounting 3 = .ok (.iload 8, 2) := by decide +kernel
theorem dX0_findCounting_5 : decode cX0_findCounting 5 = .ok (.aload_n 0, 1) := by decide +kernel
theorem dX0_findCounting_6 : decode cX0_findCounting 6 = .ok (.getfield 35, 3) := by decide +kernel
theorem dX0_findCounting_9 : decode cX0_findCounting 9 = .ok (.if_icmp .gt 70, 3) := by decide +kernel
theorem dX0_findCounting_12 : decode cX0_findCounting 12 = .ok (.aload_n 0, 1) := by decide +kernel
theorem dX0_findCounting_13 : decode cX0_findCounting 13 = .ok (.getfield 28, 3) := by decide +kernel
theorem dX0_findCounting_16 : decode cX0_findCounting 16 = .ok (.iload 8, 2) := by decide +kernel
theorem dX0_findCounting_18 : decode cX0_findCounting 18 = .ok (.baload, 1) := by decide +kernel
theorem dX0_findCounting_19 : decode cX0_findCounting 19 = .ok (.ifCond .eq 54, 3) := by decide +kernel
theorem dX0_findCounting_22 : decode cX0_findCounting 22 = .ok (.aload_n 0, 1) := by decide +kernel
theorem dX0_findCounting_23 : decode cX0_findCounting 23 = .ok (.iload 8, 2) := by decide +kernel
theorem dX0_findCounting_25 : decode cX0_findCounting 25 = .ok (.iload_n 1, 1) := by decide +kernel
theorem dX0_findCounting_26 : decode cX0_findCounting 26 = .ok (.iload_n 2, 1) := by decide +kernel
theorem dX0_findCounting_27 : decode cX0_findCounting 27 = .ok (.invokevirtual 48, 3) := by decide +kernel
theorem dX0_findCounting_30 : decode cX0_findCounting 30 = .ok (.ifCond .eq 43, 3) := by decide +kernel
theorem dX0_findCounting_33 : decode cX0_findCounting 33 = .ok (.aload_n 0, 1) := by decide +kernel
theorem dX0_findCounting_34 : decode cX0_findCounting 34 = .ok (.getfield 18, 3) := by decide +kernel
theorem dX0_findCounting_37 : decode cX0_findCounting 37 = .ok (.iload 8, 2) := by decide +kernel
theorem dX0_findCounting_39 : decode cX0_findCounting 39 = .ok (.iaload, 1) := by decide +kernel
theorem dX0_findCounting_40 : decode cX0_findCounting 40 = .ok (.iload_n 3, 1) := by decide +kernel
theorem dX0_findCounting_41 : decode cX0_findCounting 41 = .ok (.if_icmp .ne 32, 3) := by decide +kernel
theorem dX0_findCounting_44 : decode cX0_findCounting 44 = .ok (.aload_n 0, 1) := by decide +kernel
theorem dX0_findCounting_45 : decode cX0_findCounting 45 = .ok (.getfield 21, 3) := by decide +kernel
theorem dX0_findCounting_48 : decode cX0_findCounting 48 = .ok (.iload 8, 2) := by decide +kernel
theorem dX0_findCounting_50 : decode cX0_findCounting 50 = .ok (.laload, 1) := by decide +kernel
theorem dX0_findCounting_51 : decode cX0_findCounting 51 = .ok (.lload 4, 2) := by decide +kernel
theorem dX0_findCounting_53 : decode cX0_findCounting 53 = .ok (.lcmp, 1) := by decide +kernel
theorem dX0_findCounting_54 : decode cX0_findCounting 54 = .ok (.ifCond .ne 19, 3) := by decide +kernel
theorem dX0_findCounting_57 : decode cX0_findCounting 57 = .ok (.aload_n 0, 1) := by decide +kernel
theorem dX0_findCounting_58 : decode cX0_findCounting 58 = .ok (.getfield 25, 3) := by decide +kernel
theorem dX0_findCounting_61 : decode cX0_findCounting 61 = .ok (.iload 8, 2) := by decide +kernel
theorem dX0_findCounting_63 : decode cX0_findCounting 63 = .ok (.laload, 1) := by decide +kernel
theorem dX0_findCounting_64 : decode cX0_findCounting 64 = .ok (.lload 6, 2) := by decide +kernel
theorem dX0_findCounting_66 : decode cX0_findCounting 66 = .ok (.lcmp, 1) := by decide +kernel
theorem dX0_findCounting_67 : decode cX0_findCounting 67 = .ok (.ifCond .ne 6, 3) := by decide +kernel
theorem dX0_findCounting_70 : decode cX0_findCounting 70 = .ok (.iload 8, 2) := by decide +kernel
theorem dX0_findCounting_72 : decode cX0_findCounting 72 = .ok (.ireturn, 1) := by decide +kernel
theorem dX0_findCounting_73 : decode cX0_findCounting 73 = .ok (.iinc 8 1, 3) := by decide +kernel
theorem dX0_findCounting_76 : decode cX0_findCounting 76 = .ok (.goto (-73), 3) := by decide +kernel
theorem dX0_findCounting_79 : decode cX0_findCounting 79 = .ok (.iconst 0, 1) := by decide +kernel
theorem dX0_findCounting_80 : decode cX0_findCounting 80 = .ok (.ireturn, 1) := by decide +kernel
theorem dX0_lastCounting_0 : decode cX0_lastCounting 0 = .ok (.aload_n 0, 1) := by decide +kernel
theorem dX0_lastCounting_1 : decode cX0_lastCounting 1 = .ok (.getfield 35, 3) := by decide +kernel
theorem dX0_lastCounting_4 : decode cX0_lastCounting 4 = .ok (.istore 5, 2) := by decide +kernel
theorem dX0_lastCounting_6 : decode cX0_lastCounting 6 = .ok (.iload 5, 2) := by decide +kernel
theorem dX0_lastCounting_8 : decode cX0_lastCounting 8 = .ok (.iconst 1, 1) := by decide +kernel
theorem dX0_lastCounting_9 : decode cX0_lastCounting 9 = .ok (.if_icmp .lt 54, 3) := by decide +kernel
theorem dX0_lastCounting_12 : decode cX0_lastCounting 12 = .ok (.aload_n 0, 1) := by decide +kernel
theorem dX0_lastCounting_13 : decode cX0_lastCounting 13 = .ok (.getfield 32, 3) := by decide +kernel
theorem dX0_lastCounting_16 : decode cX0_lastCounting 16 = .ok (.iload 5, 2) := by decide +kernel
theorem dX0_lastCounting_18 : decode cX0_lastCounting 18 = .ok (.iaload, 1) := by decide +kernel
theorem dX0_lastCounting_19 : decode cX0_lastCounting 19 = .ok (.istore 6, 2) := by decide +kernel
theorem dX0_lastCounting_21 : decode cX0_lastCounting 21 = .ok (.aload_n 0, 1) := by decide +kernel
theorem dX0_lastCounting_22 : decode cX0_lastCounting 22 = .ok (.getfield 28, 3) := by decide +kernel
theorem dX0_lastCounting_25 : decode cX0_lastCounting 25 = .ok (.iload 6, 2) := by decide +kernel
theorem dX0_lastCounting_27 : decode cX0_lastCounting 27 = .ok (.baload, 1) := by decide +kernel
theorem dX0_lastCounting_28 : decode cX0_lastCounting 28 = .ok (.ifCond .eq 29, 3) := by decide +kernel
theorem dX0_lastCounting_31 : decode cX0_lastCounting 31 = .ok (.aload_n 0, 1) := by decide +kernel
theorem dX0_lastCounting_32 : decode cX0_lastCounting 32 = .ok (.getfield 25, 3) := by decide +kernel
theorem dX0_lastCounting_35 : decode cX0_lastCounting 35 = .ok (.iload 6, 2) := by decide +kernel
theorem dX0_lastCounting_37 : decode cX0_lastCounting 37 = .ok (.laload, 1) := by decide +kernel
theorem dX0_lastCounting_38 : decode cX0_lastCounting 38 = .ok (.lload_n 3, 1) := by decide +kernel
theorem dX0_lastCounting_39 : decode cX0_lastCounting 39 = .ok (.lcmp, 1) := by decide +kernel
theorem dX0_lastCounting_40 : decode cX0_lastCounting 40 = .ok (.ifCond .gt 17, 3) := by decide +kernel
theorem dX0_lastCounting_43 : decode cX0_lastCounting 43 = .ok (.aload_n 0, 1) := by decide +kernel
theorem dX0_lastCounting_44 : decode cX0_lastCounting 44 = .ok (.iload 6, 2) := by decide +kernel
theorem dX0_lastCounting_46 : decode cX0_lastCounting 46 = .ok (.iload_n 1, 1) := by decide +kernel
theorem dX0_lastCounting_47 : decode cX0_lastCounting 47 = .ok (.iload_n 2, 1) := by decide +kernel
theorem dX0_lastCounting_48 : decode cX0_lastCounting 48 = .ok (.invokevirtual 48, 3) := by decide +kernel
theorem dX0_lastCounting_51 : decode cX0_lastCounting 51 = .ok (.ifCond .eq 6, 3) := by decide +kernel
theorem dX0_lastCounting_54 : decode cX0_lastCounting 54 = .ok (.iload 6, 2) := by decide +kernel
theorem dX0_lastCounting_56 : decode cX0_lastCounting 56 = .ok (.ireturn, 1) := by decide +kernel
theorem dX0_lastCounting_57 : decode cX0_lastCounting 57 = .ok (.iinc 5 (-1), 3) := by decide +kernel
theorem dX0_lastCounting_60 : decode cX0_lastCounting 60 = .ok (.goto (-54), 3) := by decide +kernel
theorem dX0_lastCounting_63 : decode cX0_lastCounting 63 = .ok (.iconst 0, 1) := by decide +kernel
theorem dX0_lastCounting_64 : decode cX0_lastCounting 64 = .ok (.ireturn, 1) := by decide +kernel
theorem dX0_inOrder_0 : decode cX0_inOrder 0 = .ok (.iload_n 3, 1) := by decide +kernel
theorem dX0_inOrder_1 : decode cX0_inOrder 1 = .ok (.istore 4, 2) := by decide +kernel
theorem dX0_inOrder_3 : decode cX0_inOrder 3 = .ok (.iconst 1, 1) := by decide +kernel
theorem dX0_inOrder_4 : decode cX0_inOrder 4 = .ok (.istore 5, 2) := by decide +kernel
theorem dX0_inOrder_6 : decode cX0_inOrder 6 = .ok (.iload 5, 2) := by decide +kernel
theorem dX0_inOrder_8 : decode cX0_inOrder 8 = .ok (.aload_n 0, 1) := by decide +kernel
theorem dX0_inOrder_9 : decode cX0_inOrder 9 = .ok (.getfield 35, 3) := by decide +kernel
theorem dX0_inOrder_12 : decode cX0_inOrder 12 = .ok (.if_icmp .gt 40, 3) := by decide +kernel
theorem dX0_inOrder_15 : decode cX0_inOrder 15 = .ok (.aload_n 0, 1) := by decide +kernel
theorem dX0_inOrder_16 : decode cX0_inOrder 16 = .ok (.getfield 32, 3) := by decide +kernel
theorem dX0_inOrder_19 : decode cX0_inOrder 19 = .ok (.iload 5, 2) := by decide +kernel
theorem dX0_inOrder_21 : decode cX0_inOrder 21 = .ok (.iaload, 1) := by decide +kernel
theorem dX0_inOrder_22 : decode cX0_inOrder 22 = .ok (.istore 6, 2) := by decide +kernel
theorem dX0_inOrder_24 : decode cX0_inOrder 24 = .ok (.aload_n 0, 1) := by decide +kernel
theorem dX0_inOrder_25 : decode cX0_inOrder 25 = .ok (.iload 6, 2) := by decide +kernel
theorem dX0_inOrder_27 : decode cX0_inOrder 27 = .ok (.iload_n 1, 1) := by decide +kernel
theorem dX0_inOrder_28 : decode cX0_inOrder 28 = .ok (.iload_n 2, 1) := by decide +kernel
theorem dX0_inOrder_29 : decode cX0_inOrder 29 = .ok (.invokevirtual 48, 3) := by decide +kernel
theorem dX0_inOrder_32 : decode cX0_inOrder 32 = .ok (.ifCond .eq 14, 3) := by decide +kernel
theorem dX0_inOrder_35 : decode cX0_inOrder 35 = .ok (.iload 4, 2) := by decide +kernel
theorem dX0_inOrder_37 : decode cX0_inOrder 37 = .ok (.ifCond .ne 6, 3) := by decide +kernel
theorem dX0_inOrder_40 : decode cX0_inOrder 40 = .ok (.iload 6, 2) := by decide +kernel
theorem dX0_inOrder_42 : decode cX0_inOrder 42 = .ok (.ireturn, 1) := by decide +kernel
theorem dX0_inOrder_43 : decode cX0_inOrder 43 = .ok (.iinc 4 (-1), 3) := by decide +kernel
theorem dX0_inOrder_46 : decode cX0_inOrder 46 = .ok (.iinc 5 1, 3) := by decide +kernel
theorem dX0_inOrder_49 : decode cX0_inOrder 49 = .ok (.goto (-43), 3) := by decide +kernel
theorem dX0_inOrder_52 : decode cX0_inOrder 52 = .ok (.iconst 0, 1) := by decide +kernel
theorem dX0_inOrder_53 : decode cX0_inOrder 53 = .ok (.ireturn, 1) := by decide +kernel
theorem dX0_areInConflict_0 : decode cX0_areInConflict 0 = .ok (.aload_n 0, 1) := by decide +kernel
theorem dX0_areInConflict_1 : decode cX0_areInConflict 1 = .ok (.getfield 25, 3) := by decide +kernel
theorem dX0_areInConflict_4 : decode cX0_areInConflict 4 = .ok (.iload_n 1, 1) := by decide +kernel
theorem dX0_areInConflict_5 : decode cX0_areInConflict 5 = .ok (.laload, 1) := by decide +kernel
theorem dX0_areInConflict_6 : decode cX0_areInConflict 6 = .ok (.aload_n 0, 1) := by decide +kernel
theorem dX0_areInConflict_7 : decode cX0_areInConflict 7 = .ok (.getfield 25, 3) := by decide +kernel
theorem dX0_areInConflict_10 : decode cX0_areInConflict 10 = .ok (.iload_n 2, 1) := by decide +kernel
theorem dX0_areInConflict_11 : decode cX0_areInConflict 11 = .ok (.laload, 1) := by decide +kernel
theorem dX0_areInConflict_12 : decode cX0_areInConflict 12 = .ok (.lcmp, 1) := by decide +kernel
theorem dX0_areInConflict_13 : decode cX0_areInConflict 13 = .ok (.ifCond .ne 60, 3) := by decide +kernel
theorem dX0_areInConflict_16 : decode cX0_areInConflict 16 = .ok (.aload_n 0, 1) := by decide +kernel
theorem dX0_areInConflict_17 : decode cX0_areInConflict 17 = .ok (.getfield 28, 3) := by decide +kernel
theorem dX0_areInConflict_20 : decode cX0_areInConflict 20 = .ok (.iload_n 1, 1) := by decide +kernel
theorem dX0_areInConflict_21 : decode cX0_areInConflict 21 = .ok (.baload, 1) := by decide +kernel
theorem dX0_areInConflict_22 : decode cX0_areInConflict 22 = .ok (.ifCond .eq 51, 3) := by decide +kernel
theorem dX0_areInConflict_25 : decode cX0_areInConflict 25 = .ok (.aload_n 0, 1) := by decide +kernel
theorem dX0_areInConflict_26 : decode cX0_areInConflict 26 = .ok (.getfield 28, 3) := by decide +kernel
theorem dX0_areInConflict_29 : decode cX0_areInConflict 29 = .ok (.iload_n 2, 1) := by decide +kernel
theorem dX0_areInConflict_30 : decode cX0_areInConflict 30 = .ok (.baload, 1) := by decide +kernel
theorem dX0_areInConflict_31 : decode cX0_areInConflict 31 = .ok (.ifCond .eq 42, 3) := by decide +kernel
theorem dX0_areInConflict_34 : decode cX0_areInConflict 34 = .ok (.aload_n 0, 1) := by decide +kernel
theorem dX0_areInConflict_35 : decode cX0_areInConflict 35 = .ok (.iload_n 1, 1) := by decide +kernel
theorem dX0_areInConflict_36 : decode cX0_areInConflict 36 = .ok (.aload_n 0, 1) := by decide +kernel
theorem dX0_areInConflict_37 : decode cX0_areInConflict 37 = .ok (.getfield 9, 3) := by decide +kernel
theorem dX0_areInConflict_40 : decode cX0_areInConflict 40 = .ok (.iload_n 2, 1) := by decide +kernel
theorem dX0_areInConflict_41 : decode cX0_areInConflict 41 = .ok (.iaload, 1) := by decide +kernel
theorem dX0_areInConflict_42 : decode cX0_areInConflict 42 = .ok (.aload_n 0, 1) := by decide +kernel
theorem dX0_areInConflict_43 : decode cX0_areInConflict 43 = .ok (.getfield 15, 3) := by decide +kernel
theorem dX0_areInConflict_46 : decode cX0_areInConflict 46 = .ok (.iload_n 2, 1) := by decide +kernel
theorem dX0_areInConflict_47 : decode cX0_areInConflict 47 = .ok (.iaload, 1) := by decide +kernel
theorem dX0_areInConflict_48 : decode cX0_areInConflict 48 = .ok (.invokevirtual 48, 3) := by decide +kernel
theorem dX0_areInConflict_51 : decode cX0_areInConflict 51 = .ok (.ifCond .eq 22, 3) := by decide +kernel
theorem dX0_areInConflict_54 : decode cX0_areInConflict 54 = .ok (.aload_n 0, 1) := by decide +kernel
theorem dX0_areInConflict_55 : decode cX0_areInConflict 55 = .ok (.getfield 18, 3) := by decide +kernel
theorem dX0_areInConflict_58 : decode cX0_areInConflict 58 = .ok (.iload_n 1, 1) := by decide +kernel
theorem dX0_areInConflict_59 : decode cX0_areInConflict 59 = .ok (.iaload, 1) := by decide +kernel
theorem dX0_areInConflict_60 : decode cX0_areInConflict 60 = .ok (.aload_n 0, 1) := by decide +kernel
theorem dX0_areInConflict_61 : decode cX0_areInConflict 61 = .ok (.getfield 18, 3) := by decide +kernel
theorem dX0_areInConflict_64 : decode cX0_areInConflict 64 = .ok (.iload_n 2, 1) := by decide +kernel
theorem dX0_areInConflict_65 : decode cX0_areInConflict 65 = .ok (.iaload, 1) := by decide +kernel
theorem dX0_areInConflict_66 : decode cX0_areInConflict 66 = .ok (.if_icmp .eq 7, 3) := by decide +kernel
theorem dX0_areInConflict_69 : decode cX0_areInConflict 69 = .ok (.iconst 1, 1) := by decide +kernel
theorem dX0_areInConflict_70 : decode cX0_areInConflict 70 = .ok (.goto 4, 3) := by decide +kernel
theorem dX0_areInConflict_73 : decode cX0_areInConflict 73 = .ok (.iconst 0, 1) := by decide +kernel
theorem dX0_areInConflict_74 : decode cX0_areInConflict 74 = .ok (.ireturn, 1) := by decide +kernel
theorem dX0_isOf_0 : decode cX0_isOf 0 = .ok (.aload_n 0, 1) := by decide +kernel
theorem dX0_isOf_1 : decode cX0_isOf 1 = .ok (.getfield 9, 3) := by decide +kernel
theorem dX0_isOf_4 : decode cX0_isOf 4 = .ok (.iload_n 1, 1) := by decide +kernel
theorem dX0_isOf_5 : decode cX0_isOf 5 = .ok (.iaload, 1) := by decide +kernel
theorem dX0_isOf_6 : decode cX0_isOf 6 = .ok (.iload_n 2, 1) := by decide +kernel
theorem dX0_isOf_7 : decode cX0_isOf 7 = .ok (.if_icmp .ne 17, 3) := by decide +kernel
theorem dX0_isOf_10 : decode cX0_isOf 10 = .ok (.aload_n 0, 1) := by decide +kernel
theorem dX0_isOf_11 : decode cX0_isOf 11 = .ok (.getfield 15, 3) := by decide +kernel
theorem dX0_isOf_14 : decode cX0_isOf 14 = .ok (.iload_n 1, 1) := by decide +kernel
theorem dX0_isOf_15 : decode cX0_isOf 15 = .ok (.iaload, 1) := by decide +kernel
theorem dX0_isOf_16 : decode cX0_isOf 16 = .ok (.iload_n 3, 1) := by decide +kernel
theorem dX0_isOf_17 : decode cX0_isOf 17 = .ok (.if_icmp .ne 7, 3) := by decide +kernel
theorem dX0_isOf_20 : decode cX0_isOf 20 = .ok (.iconst 1, 1) := by decide +kernel
theorem dX0_isOf_21 : decode cX0_isOf 21 = .ok (.goto 4, 3) := by decide +kernel
theorem dX0_isOf_24 : decode cX0_isOf 24 = .ok (.iconst 0, 1) := by decide +kernel
theorem dX0_isOf_25 : decode cX0_isOf 25 = .ok (.ireturn, 1) := by decide +kernel
theorem dX1_init_0 : decode cX1_init 0 = .ok (.aload_n 0, 1) := by decide +kernel
theorem dX1_init_1 : decode cX1_init 1 = .ok (.invokespecial 3, 3) := by decide +kernel
theorem dX1_init_4 : decode cX1_init 4 = .ok (.aload_n 0, 1) := by decide +kernel
theorem dX1_init_5 : decode cX1_init 5 = .ok (.sipush 201, 3) := by decide +kernel
theorem dX1_init_8 : decode cX1_init 8 = .ok (.newarray .int, 2) := by decide +kernel
theorem dX1_init_10 : decode cX1_init 10 = .ok (.putfield 9, 3) := by decide +kernel
theorem dX1_init_13 : decode cX1_init 13 = .ok (.aload_n 0, 1) := by decide +kernel
theorem dX1_init_14 : decode cX1_init 14 = .ok (.iconst 0, 1) := by decide +kernel
theorem dX1_init_15 : decode cX1_init 15 = .ok (.putfield 15, 3) := by decide +kernel
theorem dX1_init_18 : decode cX1_init 18 = .ok (.return_, 1) := by decide +kernel
theorem dX1_has_0 : decode cX1_has 0 = .ok (.iload_n 1, 1) := by decide +kernel
theorem dX1_has_1 : decode cX1_has 1 = .ok (.iconst 1, 1) := by decide +kernel
theorem dX1_has_2 : decode cX1_has 2 = .ok (.if_icmp .lt 15, 3) := by decide +kernel
theorem dX1_has_5 : decode cX1_has 5 = .ok (.iload_n 1, 1) := by decide +kernel
theorem dX1_has_6 : decode cX1_has 6 = .ok (.aload_n 0, 1) := by decide +kernel
theorem dX1_has_7 : decode cX1_has 7 = .ok (.getfield 15, 3) := by decide +kernel
theorem dX1_has_10 : decode cX1_has 10 = .ok (.if_icmp .gt 7, 3) := by decide +kernel
theorem dX1_has_13 : decode cX1_has 13 = .ok (.iconst 1, 1) := by decide +kernel
theorem dX1_has_14 : decode cX1_has 14 = .ok (.goto 4, 3) := by decide +kernel
theorem dX1_has_17 : decode cX1_has 17 = .ok (.iconst 0, 1) := by decide +kernel
theorem dX1_has_18 : decode cX1_has 18 = .ok (.ireturn, 1) := by decide +kernel
theorem dX1_of_0 : decode cX1_of 0 = .ok (.aload_n 0, 1) := by decide +kernel
theorem dX1_of_1 : decode cX1_of 1 = .ok (.getfield 9, 3) := by decide +kernel
theorem dX1_of_4 : decode cX1_of 4 = .ok (.iload_n 1, 1) := by decide +kernel
theorem dX1_of_5 : decode cX1_of 5 = .ok (.iaload, 1) := by decide +kernel
theorem dX1_of_6 : decode cX1_of 6 = .ok (.ireturn, 1) := by decide +kernel
theorem dX1_add_0 : decode cX1_add 0 = .ok (.aload_n 0, 1) := by decide +kernel
theorem dX1_add_1 : decode cX1_add 1 = .ok (.getfield 15, 3) := by decide +kernel
theorem dX1_add_4 : decode cX1_add 4 = .ok (.bipush 30, 2) := by decide +kernel
theorem dX1_add_6 : decode cX1_add 6 = .ok (.if_icmp .ge 12, 3) := by decide +kernel
theorem dX1_add_9 : decode cX1_add 9 = .ok (.aload_n 0, 1) := by decide +kernel
theorem dX1_add_10 : decode cX1_add 10 = .ok (.iload_n 1, 1) := by decide +kernel
theorem dX1_add_11 : decode cX1_add 11 = .ok (.iload_n 2, 1) := by decide +kernel
theorem dX1_add_12 : decode cX1_add 12 = .ok (.invokevirtual 19, 3) := by decide +kernel
theorem dX1_add_15 : decode cX1_add 15 = .ok (.ifCond .eq 5, 3) := by decide +kernel
theorem dX1_add_18 : decode cX1_add 18 = .ok (.iconst 0, 1) := by decide +kernel
theorem dX1_add_19 : decode cX1_add 19 = .ok (.ireturn, 1) := by decide +kernel
theorem dX1_add_20 : decode cX1_add 20 = .ok (.aload_n 0, 1) := by decide +kernel
theorem dX1_add_21 : decode cX1_add 21 = .ok (.dup, 1) := by decide +kernel
theorem dX1_add_22 : decode cX1_add 22 = .ok (.getfield 15, 3) := by decide +kernel
theorem dX1_add_25 : decode cX1_add 25 = .ok (.iconst 1, 1) := by decide +kernel
theorem dX1_add_26 : decode cX1_add 26 = .ok (.iadd, 1) := by decide +kernel
theorem dX1_add_27 : decode cX1_add 27 = .ok (.putfield 15, 3) := by decide +kernel
theorem dX1_add_30 : decode cX1_add 30 = .ok (.iload_n 1, 1) := by decide +kernel
theorem dX1_add_31 : decode cX1_add 31 = .ok (.istore_n 3, 1) := by decide +kernel
theorem dX1_add_32 : decode cX1_add 32 = .ok (.iload_n 3, 1) := by decide +kernel
theorem dX1_add_33 : decode cX1_add 33 = .ok (.iload_n 2, 1) := by decide +kernel
theorem dX1_add_34 : decode cX1_add 34 = .ok (.if_icmp .gt 19, 3) := by decide +kernel
theorem dX1_add_37 : decode cX1_add 37 = .ok (.aload_n 0, 1) := by decide +kernel
theorem dX1_add_38 : decode cX1_add 38 = .ok (.getfield 9, 3) := by decide +kernel
theorem dX1_add_41 : decode cX1_add 41 = .ok (.iload_n 3, 1) := by decide +kernel
theorem dX1_add_42 : decode cX1_add 42 = .ok (.aload_n 0, 1) := by decide +kernel
theorem dX1_add_43 : decode cX1_add 43 = .ok (.getfield 15, 3) := by decide +kernel
theorem dX1_add_46 : decode cX1_add 46 = .ok (.iastore, 1) := by decide +kernel
theorem dX1_add_47 : decode cX1_add 47 = .ok (.iinc 3 1, 3) := by decide +kernel
theorem dX1_add_50 : decode cX1_add 50 = .ok (.goto (-18), 3) := by decide +kernel
theorem dX1_add_53 : decode cX1_add 53 = .ok (.aload_n 0, 1) := by decide +kernel
theorem dX1_add_54 : decode cX1_add 54 = .ok (.getfield 15, 3) := by decide +kernel
theorem dX1_add_57 : decode cX1_add 57 = .ok (.ireturn, 1) := by decide +kernel
theorem dX1_isAnyTaken_0 : decode cX1_isAnyTaken 0 = .ok (.iload_n 1, 1) := by decide +kernel
theorem dX1_isAnyTaken_1 : decode cX1_isAnyTaken 1 = .ok (.istore_n 3, 1) := by decide +kernel
theorem dX1_isAnyTaken_2 : decode cX1_isAnyTaken 2 = .ok (.iload_n 3, 1) := by decide +kernel
theorem dX1_isAnyTaken_3 : decode cX1_isAnyTaken 3 = .ok (.iload_n 2, 1) := by decide +kernel
theorem dX1_isAnyTaken_4 : decode cX1_isAnyTaken 4 = .ok (.if_icmp .gt 20, 3) := by decide +kernel
theorem dX1_isAnyTaken_7 : decode cX1_isAnyTaken 7 = .ok (.aload_n 0, 1) := by decide +kernel
theorem dX1_isAnyTaken_8 : decode cX1_isAnyTaken 8 = .ok (.getfield 9, 3) := by decide +kernel
theorem dX1_isAnyTaken_11 : decode cX1_isAnyTaken 11 = .ok (.iload_n 3, 1) := by decide +kernel
theorem dX1_isAnyTaken_12 : decode cX1_isAnyTaken 12 = .ok (.iaload, 1) := by decide +kernel
theorem dX1_isAnyTaken_13 : decode cX1_isAnyTaken 13 = .ok (.ifCond .eq 5, 3) := by decide +kernel
theorem dX1_isAnyTaken_16 : decode cX1_isAnyTaken 16 = .ok (.iconst 1, 1) := by decide +kernel
theorem dX1_isAnyTaken_17 : decode cX1_isAnyTaken 17 = .ok (.ireturn, 1) := by decide +kernel
theorem dX1_isAnyTaken_18 : decode cX1_isAnyTaken 18 = .ok (.iinc 3 1, 3) := by decide +kernel
theorem dX1_isAnyTaken_21 : decode cX1_isAnyTaken 21 = .ok (.goto (-19), 3) := by decide +kernel
theorem dX1_isAnyTaken_24 : decode cX1_isAnyTaken 24 = .ok (.iconst 0, 1) := by decide +kernel
theorem dX1_isAnyTaken_25 : decode cX1_isAnyTaken 25 = .ok (.ireturn, 1) := by decide +kernel
theorem dX2_init_0 : decode cX2_init 0 = .ok (.aload_n 0, 1) := by decide +kernel
theorem dX2_init_1 : decode cX2_init 1 = .ok (.invokespecial 5, 3) := by decide +kernel
theorem dX2_init_4 : decode cX2_init 4 = .ok (.aload_n 0, 1) := by decide +kernel
theorem dX2_init_5 : decode cX2_init 5 = .ok (.sipush 804, 3) := by decide +kernel
theorem dX2_init_8 : decode cX2_init 8 = .ok (.newarray .long, 2) := by decide +kernel
theorem dX2_init_10 : decode cX2_init 10 = .ok (.putfield 11, 3) := by decide +kernel
theorem dX2_init_13 : decode cX2_init 13 = .ok (.return_, 1) := by decide +kernel
theorem dX2_has_0 : decode cX2_has 0 = .ok (.aload_n 0, 1) := by decide +kernel
theorem dX2_has_1 : decode cX2_has 1 = .ok (.getfield 11, 3) := by decide +kernel
theorem dX2_has_4 : decode cX2_has 4 = .ok (.iload_n 1, 1) := by decide +kernel
theorem dX2_has_5 : decode cX2_has 5 = .ok (.iload_n 2, 1) := by decide +kernel
theorem dX2_has_6 : decode cX2_has 6 = .ok (.invokestatic 15, 3) := by decide +kernel
theorem dX2_has_9 : decode cX2_has 9 = .ok (.laload, 1) := by decide +kernel
theorem dX2_has_10 : decode cX2_has 10 = .ok (.iload_n 2, 1) := by decide +kernel
theorem dX2_has_11 : decode cX2_has 11 = .ok (.invokestatic 19, 3) := by decide +kernel
theorem dX2_has_14 : decode cX2_has 14 = .ok (.land, 1) := by decide +kernel
theorem dX2_has_15 : decode cX2_has 15 = .ok (.lconst 0, 1) := by decide +kernel
theorem dX2_has_16 : decode cX2_has 16 = .ok (.lcmp, 1) := by decide +kernel
theorem dX2_has_17 : decode cX2_has 17 = .ok (.ifCond .eq 7, 3) := by decide +kernel
theorem dX2_has_20 : decode cX2_has 20 = .ok (.iconst 1, 1) := by decide +kernel
theorem dX2_has_21 : decode cX2_has 21 = .ok (.goto 4, 3) := by decide +kernel
theorem dX2_has_24 : decode cX2_has 24 = .ok (.iconst 0, 1) := by decide +kernel
theorem dX2_has_25 : decode cX2_has 25 = .ok (.ireturn, 1) := by decide +kernel
theorem dX2_add_0 : decode cX2_add 0 = .ok (.aload_n 0, 1) := by decide +kernel
theorem dX2_add_1 : decode cX2_add 1 = .ok (.getfield 11, 3) := by decide +kernel
theorem dX2_add_4 : decode cX2_add 4 = .ok (.iload_n 1, 1) := by decide +kernel
theorem dX2_add_5 : decode cX2_add 5 = .ok (.iload_n 2, 1) := by decide +kernel
theorem dX2_add_6 : decode cX2_add 6 = .ok (.invokestatic 15, 3) := by decide +kernel
theorem dX2_add_9 : decode cX2_add 9 = .ok (.dup2, 1) := by decide +kernel
theorem dX2_add_10 : decode cX2_add 10 = .ok (.laload, 1) := by decide +kernel
theorem dX2_add_11 : decode cX2_add 11 = .ok (.iload_n 2, 1) := by decide +kernel
theorem dX2_add_12 : decode cX2_add 12 = .ok (.invokestatic 19, 3) := by decide +kernel
theorem dX2_add_15 : decode cX2_add 15 = .ok (.lor, 1) := by decide +kernel
theorem dX2_add_16 : decode cX2_add 16 = .ok (.lastore, 1) := by decide +kernel
theorem dX2_add_17 : decode cX2_add 17 = .ok (.return_, 1) := by decide +kernel
theorem dX2_wordOf_0 : decode cX2_wordOf 0 = .ok (.iload_n 0, 1) := by decide +kernel
theorem dX2_wordOf_1 : decode cX2_wordOf 1 = .ok (.iconst 4, 1) := by decide +kernel
theorem dX2_wordOf_2 : decode cX2_wordOf 2 = .ok (.imul, 1) := by decide +kernel
theorem dX2_wordOf_3 : decode cX2_wordOf 3 = .ok (.iload_n 1, 1) := by decide +kernel
theorem dX2_wordOf_4 : decode cX2_wordOf 4 = .ok (.bipush 64, 2) := by decide +kernel
theorem dX2_wordOf_6 : decode cX2_wordOf 6 = .ok (.idiv, 1) := by decide +kernel
theorem dX2_wordOf_7 : decode cX2_wordOf 7 = .ok (.iadd, 1) := by decide +kernel
theorem dX2_wordOf_8 : decode cX2_wordOf 8 = .ok (.ireturn, 1) := by decide +kernel
theorem dX2_bitOf_0 : decode cX2_bitOf 0 = .ok (.lconst 1, 1) := by decide +kernel
theorem dX2_bitOf_1 : decode cX2_bitOf 1 = .ok (.iload_n 0, 1) := by decide +kernel
theorem dX2_bitOf_2 : decode cX2_bitOf 2 = .ok (.bipush 64, 2) := by decide +kernel
theorem dX2_bitOf_4 : decode cX2_bitOf 4 = .ok (.irem, 1) := by decide +kernel
theorem dX2_bitOf_5 : decode cX2_bitOf 5 = .ok (.lshl, 1) := by decide +kernel
theorem dX2_bitOf_6 : decode cX2_bitOf 6 = .ok (.lreturn, 1) := by decide +kernel
theorem dX3_init_0 : decode cX3_init 0 = .ok (.aload_n 0, 1) := by decide +kernel
theorem dX3_init_1 : decode cX3_init 1 = .ok (.invokespecial 3, 3) := by decide +kernel
theorem dX3_init_4 : decode cX3_init 4 = .ok (.aload_n 0, 1) := by decide +kernel
theorem dX3_init_5 : decode cX3_init 5 = .ok (.bipush 21, 2) := by decide +kernel
theorem dX3_init_7 : decode cX3_init 7 = .ok (.newarray .int, 2) := by decide +kernel
theorem dX3_init_9 : decode cX3_init 9 = .ok (.putfield 9, 3) := by decide +kernel
theorem dX3_init_12 : decode cX3_init 12 = .ok (.aload_n 0, 1) := by decide +kernel
theorem dX3_init_13 : decode cX3_init 13 = .ok (.bipush 21, 2) := by decide +kernel
theorem dX3_init_15 : decode cX3_init 15 = .ok (.newarray .int, 2) := by decide +kernel
theorem dX3_init_17 : decode cX3_init 17 = .ok (.putfield 15, 3) := by decide +kernel
theorem dX3_init_20 : decode cX3_init 20 = .ok (.aload_n 0, 1) := by decide +kernel
theorem dX3_init_21 : decode cX3_init 21 = .ok (.bipush 21, 2) := by decide +kernel
theorem dX3_init_23 : decode cX3_init 23 = .ok (.newarray .long, 2) := by decide +kernel
theorem dX3_init_25 : decode cX3_init 25 = .ok (.putfield 18, 3) := by decide +kernel
theorem dX3_init_28 : decode cX3_init 28 = .ok (.aload_n 0, 1) := by decide +kernel
theorem dX3_init_29 : decode cX3_init 29 = .ok (.iconst 0, 1) := by decide +kernel
theorem dX3_init_30 : decode cX3_init 30 = .ok (.putfield 22, 3) := by decide +kernel
theorem dX3_init_33 : decode cX3_init 33 = .ok (.return_, 1) := by decide +kernel
theorem dX3_has_0 : decode cX3_has 0 = .ok (.iload_n 1, 1) := by decide +kernel
theorem dX3_has_1 : decode cX3_has 1 = .ok (.iconst 1, 1) := by decide +kernel
theorem dX3_has_2 : decode cX3_has 2 = .ok (.if_icmp .lt 15, 3) := by decide +kernel
theorem dX3_has_5 : decode cX3_has 5 = .ok (.iload_n 1, 1) := by decide +kernel
theorem dX3_has_6 : decode cX3_has 6 = .ok (.aload_n 0, 1) := by decide +kernel
theorem dX3_has_7 : decode cX3_has 7 = .ok (.getfield 22, 3) := by decide +kernel
theorem dX3_has_10 : decode cX3_has 10 = .ok (.if_icmp .gt 7, 3) := by decide +kernel
theorem dX3_has_13 : decode cX3_has 13 = .ok (.iconst 1, 1) := by decide +kernel
theorem dX3_has_14 : decode cX3_has 14 = .ok (.goto 4, 3) := by decide +kernel
theorem dX3_has_17 : decode cX3_has 17 = .ok (.iconst 0, 1) := by decide +kernel
theorem dX3_has_18 : decode cX3_has 18 = .ok (.ireturn, 1) := by decide +kernel
theorem dX3_add_0 : decode cX3_add 0 = .ok (.aload_n 0, 1) := by decide +kernel
theorem dX3_add_1 : decode cX3_add 1 = .ok (.getfield 22, 3) := by decide +kernel
theorem dX3_add_4 : decode cX3_add 4 = .ok (.bipush 20, 2) := by decide +kernel
theorem dX3_add_6 : decode cX3_add 6 = .ok (.if_icmp .lt 5, 3) := by decide +kernel
theorem dX3_add_9 : decode cX3_add 9 = .ok (.iconst 0, 1) := by decide +kernel
theorem dX3_add_10 : decode cX3_add 10 = .ok (.ireturn, 1) := by decide +kernel
theorem dX3_add_11 : decode cX3_add 11 = .ok (.aload_n 0, 1) := by decide +kernel
theorem dX3_add_12 : decode cX3_add 12 = .ok (.dup, 1) := by decide +kernel
theorem dX3_add_13 : decode cX3_add 13 = .ok (.getfield 22, 3) := by decide +kernel
theorem dX3_add_16 : decode cX3_add 16 = .ok (.iconst 1, 1) := by decide +kernel
theorem dX3_add_17 : decode cX3_add 17 = .ok (.iadd, 1) := by decide +kernel
theorem dX3_add_18 : decode cX3_add 18 = .ok (.putfield 22, 3) := by decide +kernel
theorem dX3_add_21 : decode cX3_add 21 = .ok (.aload_n 0, 1) := by decide +kernel
theorem dX3_add_22 : decode cX3_add 22 = .ok (.getfield 9, 3) := by decide +kernel
theorem dX3_add_25 : decode cX3_add 25 = .ok (.aload_n 0, 1) := by decide +kernel
theorem dX3_add_26 : decode cX3_add 26 = .ok (.getfield 22, 3) := by decide +kernel
theorem dX3_add_29 : decode cX3_add 29 = .ok (.iload_n 1, 1) := by decide +kernel
theorem dX3_add_30 : decode cX3_add 30 = .ok (.iastore, 1) := by decide +kernel
theorem dX3_add_31 : decode cX3_add 31 = .ok (.aload_n 0, 1) := by decide +kernel
theorem dX3_add_32 : decode cX3_add 32 = .ok (.getfield 18, 3) := by decide +kernel
theorem dX3_add_35 : decode cX3_add 35 = .ok (.aload_n 0, 1) := by decide +kernel
theorem dX3_add_36 : decode cX3_add 36 = .ok (.getfield 22, 3) := by decide +kernel
theorem dX3_add_39 : decode cX3_add 39 = .ok (.ldc2_w 26, 3) := by decide +kernel
theorem dX3_add_42 : decode cX3_add 42 = .ok (.lastore, 1) := by decide +kernel
theorem dX3_add_43 : decode cX3_add 43 = .ok (.aload_n 0, 1) := by decide +kernel
theorem dX3_add_44 : decode cX3_add 44 = .ok (.getfield 22, 3) := by decide +kernel
theorem dX3_add_47 : decode cX3_add 47 = .ok (.ireturn, 1) := by decide +kernel
theorem dX3_kind_0 : decode cX3_kind 0 = .ok (.aload_n 0, 1) := by decide +kernel
theorem dX3_kind_1 : decode cX3_kind 1 = .ok (.getfield 9, 3) := by decide +kernel
theorem dX3_kind_4 : decode cX3_kind 4 = .ok (.iload_n 1, 1) := by decide +kernel
theorem dX3_kind_5 : decode cX3_kind 5 = .ok (.iaload, 1) := by decide +kernel
theorem dX3_kind_6 : decode cX3_kind 6 = .ok (.ireturn, 1) := by decide +kernel
theorem dX3_locker_0 : decode cX3_locker 0 = .ok (.aload_n 0, 1) := by decide +kernel
theorem dX3_locker_1 : decode cX3_locker 1 = .ok (.getfield 15, 3) := by decide +kernel
theorem dX3_locker_4 : decode cX3_locker 4 = .ok (.iload_n 1, 1) := by decide +kernel
theorem dX3_locker_5 : decode cX3_locker 5 = .ok (.iaload, 1) := by decide +kernel
theorem dX3_locker_6 : decode cX3_locker 6 = .ok (.ireturn, 1) := by decide +kernel
theorem dX3_until_0 : decode cX3_until 0 = .ok (.aload_n 0, 1) := by decide +kernel
theorem dX3_until_1 : decode cX3_until 1 = .ok (.getfield 18, 3) := by decide +kernel
theorem dX3_until_4 : decode cX3_until 4 = .ok (.iload_n 1, 1) := by decide +kernel
theorem dX3_until_5 : decode cX3_until 5 = .ok (.laload, 1) := by decide +kernel
theorem dX3_until_6 : decode cX3_until 6 = .ok (.lreturn, 1) := by decide +kernel
theorem dX3_setLock_0 : decode cX3_setLock 0 = .ok (.aload_n 0, 1) := by decide +kernel
theorem dX3_setLock_1 : decode cX3_setLock 1 = .ok (.getfield 15, 3) := by decide +kernel
theorem dX3_setLock_4 : decode cX3_setLock 4 = .ok (.iload_n 1, 1) := by decide +kernel
theorem dX3_setLock_5 : decode cX3_setLock 5 = .ok (.iload_n 2, 1) := by decide +kernel
theorem dX3_setLock_6 : decode cX3_setLock 6 = .ok (.iastore, 1) := by decide +kernel
theorem dX3_setLock_7 : decode cX3_setLock 7 = .ok (.aload_n 0, 1) := by decide +kernel
theorem dX3_setLock_8 : decode cX3_setLock 8 = .ok (.getfield 18, 3) := by decide +kernel
theorem dX3_setLock_11 : decode cX3_setLock 11 = .ok (.iload_n 1, 1) := by decide +kernel
theorem dX3_setLock_12 : decode cX3_setLock 12 = .ok (.lload_n 3, 1) := by decide +kernel
theorem dX3_setLock_13 : decode cX3_setLock 13 = .ok (.lastore, 1) := by decide +kernel
theorem dX3_setLock_14 : decode cX3_setLock 14 = .ok (.return_, 1) := by decide +kernel
end
section
theorem dX5_init_0 : decode cX5_init 0 = .ok (.aload_n 0, 1) := by decide +kernel
theorem dX5_init_1 : decode cX5_init 1 = .ok (.invokespecial 1, 3) := by decide +kernel
theorem dX5_init_4 : decode cX5_init 4 = .ok (.aload_n 0, 1) := by decide +kernel
theorem dX5_init_5 : decode cX5_init 5 = .ok (.bipush 21, 2) := by decide +kernel
theorem dX5_init_7 : decode cX5_init 7 = .ok (.newarray .int, 2) := by decide +kernel
theorem dX5_init_9 : decode cX5_init 9 = .ok (.putfield 7, 3) := by decide +kernel
theorem dX5_init_12 : decode cX5_init 12 = .ok (.aload_n 0, 1) := by decide +kernel
theorem dX5_init_13 : decode cX5_init 13 = .ok (.bipush 21, 2) := by decide +kernel
theorem dX5_init_15 : decode cX5_init 15 = .ok (.newarray .int, 2) := by decide +kernel
theorem dX5_init_17 : decode cX5_init 17 = .ok (.putfield 13, 3) := by decide +kernel
theorem dX5_init_20 : decode cX5_init 20 = .ok (.aload_n 0, 1) := by decide +kernel
theorem dX5_init_21 : decode cX5_init 21 = .ok (.bipush 21, 2) := by decide +kernel
theorem dX5_init_23 : decode cX5_init 23 = .ok (.newarray .long, 2) := by decide +kernel
theorem dX5_init_25 : decode cX5_init 25 = .ok (.putfield 16, 3) := by decide +kernel
theorem dX5_init_28 : decode cX5_init 28 = .ok (.aload_n 0, 1) := by decide +kernel
theorem dX5_init_29 : decode cX5_init 29 = .ok (.sipush 201, 3) := by decide +kernel
theorem dX5_init_32 : decode cX5_init 32 = .ok (.newarray .int, 2) := by decide +kernel
theorem dX5_init_34 : decode cX5_init 34 = .ok (.putfield 20, 3) := by decide +kernel
theorem dX5_init_37 : decode cX5_init 37 = .ok (.aload_n 0, 1) := by decide +kernel
theorem dX5_init_38 : decode cX5_init 38 = .ok (.sipush 201, 3) := by decide +kernel
theorem dX5_init_41 : decode cX5_init 41 = .ok (.newarray .int, 2) := by decide +kernel
theorem dX5_init_43 : decode cX5_init 43 = .ok (.putfield 23, 3) := by decide +kernel
theorem dX5_init_46 : decode cX5_init 46 = .ok (.aload_n 0, 1) := by decide +kernel
theorem dX5_init_47 : decode cX5_init 47 = .ok (.sipush 201, 3) := by decide +kernel
theorem dX5_init_50 : decode cX5_init 50 = .ok (.newarray .int, 2) := by decide +kernel
theorem dX5_init_52 : decode cX5_init 52 = .ok (.putfield 26, 3) := by decide +kernel
theorem dX5_init_55 : decode cX5_init 55 = .ok (.aload_n 0, 1) := by decide +kernel
theorem dX5_init_56 : decode cX5_init 56 = .ok (.sipush 201, 3) := by decide +kernel
theorem dX5_init_59 : decode cX5_init 59 = .ok (.newarray .long, 2) := by decide +kernel
theorem dX5_init_61 : decode cX5_init 61 = .ok (.putfield 29, 3) := by decide +kernel
theorem dX5_init_64 : decode cX5_init 64 = .ok (.aload_n 0, 1) := by decide +kernel
theorem dX5_init_65 : decode cX5_init 65 = .ok (.sipush 201, 3) := by decide +kernel
theorem dX5_init_68 : decode cX5_init 68 = .ok (.newarray .long, 2) := by decide +kernel
theorem dX5_init_70 : decode cX5_init 70 = .ok (.putfield 32, 3) := by decide +kernel
theorem dX5_init_73 : decode cX5_init 73 = .ok (.aload_n 0, 1) := by decide +kernel
theorem dX5_init_74 : decode cX5_init 74 = .ok (.sipush 201, 3) := by decide +kernel
theorem dX5_init_77 : decode cX5_init 77 = .ok (.newarray .boolean, 2) := by decide +kernel
theorem dX5_init_79 : decode cX5_init 79 = .ok (.putfield 35, 3) := by decide +kernel
theorem dX5_init_82 : decode cX5_init 82 = .ok (.aload_n 0, 1) := by decide +kernel
theorem dX5_init_83 : decode cX5_init 83 = .ok (.sipush 201, 3) := by decide +kernel
theorem dX5_init_86 : decode cX5_init 86 = .ok (.newarray .int, 2) := by decide +kernel
theorem dX5_init_88 : decode cX5_init 88 = .ok (.putfield 39, 3) := by decide +kernel
theorem dX5_init_91 : decode cX5_init 91 = .ok (.aload_n 0, 1) := by decide +kernel
theorem dX5_init_92 : decode cX5_init 92 = .ok (.ldc 42, 2) := by decide +kernel
theorem dX5_init_94 : decode cX5_init 94 = .ok (.newarray .boolean, 2) := by decide +kernel
theorem dX5_init_96 : decode cX5_init 96 = .ok (.putfield 43, 3) := by decide +kernel
theorem dX5_init_99 : decode cX5_init 99 = .ok (.return_, 1) := by decide +kernel
theorem dX5_isRecord_0 : decode cX5_isRecord 0 = .ok (.iload_n 1, 1) := by decide +kernel
theorem dX5_isRecord_1 : decode cX5_isRecord 1 = .ok (.ifCond .le 15, 3) := by decide +kernel
theorem dX5_isRecord_4 : decode cX5_isRecord 4 = .ok (.iload_n 1, 1) := by decide +kernel
theorem dX5_isRecord_5 : decode cX5_isRecord 5 = .ok (.aload_n 0, 1) := by decide +kernel
theorem dX5_isRecord_6 : decode cX5_isRecord 6 = .ok (.getfield 50, 3) := by decide +kernel
theorem dX5_isRecord_9 : decode cX5_isRecord 9 = .ok (.if_icmp .gt 7, 3) := by decide +kernel
theorem dX5_isRecord_12 : decode cX5_isRecord 12 = .ok (.iconst 1, 1) := by decide +kernel
theorem dX5_isRecord_13 : decode cX5_isRecord 13 = .ok (.goto 4, 3) := by decide +kernel
theorem dX5_isRecord_16 : decode cX5_isRecord 16 = .ok (.iconst 0, 1) := by decide +kernel
theorem dX5_isRecord_17 : decode cX5_isRecord 17 = .ok (.ireturn, 1) := by decide +kernel
theorem dX5_isAct_0 : decode cX5_isAct 0 = .ok (.iload_n 1, 1) := by decide +kernel
theorem dX5_isAct_1 : decode cX5_isAct 1 = .ok (.ifCond .le 15, 3) := by decide +kernel
theorem dX5_isAct_4 : decode cX5_isAct 4 = .ok (.iload_n 1, 1) := by decide +kernel
theorem dX5_isAct_5 : decode cX5_isAct 5 = .ok (.aload_n 0, 1) := by decide +kernel
theorem dX5_isAct_6 : decode cX5_isAct 6 = .ok (.getfield 53, 3) := by decide +kernel
theorem dX5_isAct_9 : decode cX5_isAct 9 = .ok (.if_icmp .gt 7, 3) := by decide +kernel
theorem dX5_isAct_12 : decode cX5_isAct 12 = .ok (.iconst 1, 1) := by decide +kernel
theorem dX5_isAct_13 : decode cX5_isAct 13 = .ok (.goto 4, 3) := by decide +kernel
theorem dX5_isAct_16 : decode cX5_isAct 16 = .ok (.iconst 0, 1) := by decide +kernel
theorem dX5_isAct_17 : decode cX5_isAct 17 = .ok (.ireturn, 1) := by decide +kernel
theorem dX5_isField_0 : decode cX5_isField 0 = .ok (.aload_n 0, 1) := by decide +kernel
theorem dX5_isField_1 : decode cX5_isField 1 = .ok (.iload_n 1, 1) := by decide +kernel
theorem dX5_isField_2 : decode cX5_isField 2 = .ok (.invokevirtual 56, 3) := by decide +kernel
theorem dX5_isField_5 : decode cX5_isField 5 = .ok (.ifCond .eq 17, 3) := by decide +kernel
theorem dX5_isField_8 : decode cX5_isField 8 = .ok (.iload_n 2, 1) := by decide +kernel
theorem dX5_isField_9 : decode cX5_isField 9 = .ok (.ifCond .lt 13, 3) := by decide +kernel
theorem dX5_isField_12 : decode cX5_isField 12 = .ok (.iload_n 2, 1) := by decide +kernel
theorem dX5_isField_13 : decode cX5_isField 13 = .ok (.bipush 8, 2) := by decide +kernel
theorem dX5_isField_15 : decode cX5_isField 15 = .ok (.if_icmp .ge 7, 3) := by decide +kernel
theorem dX5_isField_18 : decode cX5_isField 18 = .ok (.iconst 1, 1) := by decide +kernel
theorem dX5_isField_19 : decode cX5_isField 19 = .ok (.goto 4, 3) := by decide +kernel
theorem dX5_isField_22 : decode cX5_isField 22 = .ok (.iconst 0, 1) := by decide +kernel
theorem dX5_isField_23 : decode cX5_isField 23 = .ok (.ireturn, 1) := by decide +kernel
theorem dX5_record_0 : decode cX5_record 0 = .ok (.aload_n 0, 1) := by decide +kernel
theorem dX5_record_1 : decode cX5_record 1 = .ok (.iconst 0, 1) := by decide +kernel
theorem dX5_record_2 : decode cX5_record 2 = .ok (.putfield 46, 3) := by decide +kernel
theorem dX5_record_5 : decode cX5_record 5 = .ok (.iload_n 1, 1) := by decide +kernel
theorem dX5_record_6 : decode cX5_record 6 = .ok (.ifCond .lt 17, 3) := by decide +kernel
theorem dX5_record_9 : decode cX5_record 9 = .ok (.iload_n 1, 1) := by decide +kernel
theorem dX5_record_10 : decode cX5_record 10 = .ok (.iconst 3, 1) := by decide +kernel
theorem dX5_record_11 : decode cX5_record 11 = .ok (.if_icmp .gt 12, 3) := by decide +kernel
theorem dX5_record_14 : decode cX5_record 14 = .ok (.aload_n 0, 1) := by decide +kernel
theorem dX5_record_15 : decode cX5_record 15 = .ok (.getfield 50, 3) := by decide +kernel
theorem dX5_record_18 : decode cX5_record 18 = .ok (.bipush 20, 2) := by decide +kernel
theorem dX5_record_20 : decode cX5_record 20 = .ok (.if_icmp .ne 5, 3) := by decide +kernel
theorem dX5_record_23 : decode cX5_record 23 = .ok (.iconst 0, 1) := by decide +kernel
theorem dX5_record_24 : decode cX5_record 24 = .ok (.ireturn, 1) := by decide +kernel
theorem dX5_record_25 : decode cX5_record 25 = .ok (.aload_n 0, 1) := by decide +kernel
theorem dX5_record_26 : decode cX5_record 26 = .ok (.dup, 1) := by decide +kernel
theorem dX5_record_27 : decode cX5_record 27 = .ok (.getfield 50, 3) := by decide +kernel
theorem dX5_record_30 : decode cX5_record 30 = .ok (.iconst 1, 1) := by decide +kernel
theorem dX5_record_31 : decode cX5_record 31 = .ok (.iadd, 1) := by decide +kernel
theorem dX5_record_32 : decode cX5_record 32 = .ok (.putfield 50, 3) := by decide +kernel
theorem dX5_record_35 : decode cX5_record 35 = .ok (.aload_n 0, 1) := by decide +kernel
theorem dX5_record_36 : decode cX5_record 36 = .ok (.getfield 7, 3) := by decide +kernel
theorem dX5_record_39 : decode cX5_record 39 = .ok (.aload_n 0, 1) := by decide +kernel
theorem dX5_record_40 : decode cX5_record 40 = .ok (.getfield 50, 3) := by decide +kernel
theorem dX5_record_43 : decode cX5_record 43 = .ok (.iload_n 1, 1) := by decide +kernel
theorem dX5_record_44 : decode cX5_record 44 = .ok (.iastore, 1) := by decide +kernel
theorem dX5_record_45 : decode cX5_record 45 = .ok (.aload_n 0, 1) := by decide +kernel
theorem dX5_record_46 : decode cX5_record 46 = .ok (.getfield 16, 3) := by decide +kernel
theorem dX5_record_49 : decode cX5_record 49 = .ok (.aload_n 0, 1) := by decide +kernel
theorem dX5_record_50 : decode cX5_record 50 = .ok (.getfield 50, 3) := by decide +kernel
theorem dX5_record_53 : decode cX5_record 53 = .ok (.ldc2_w 60, 3) := by decide +kernel
theorem dX5_record_56 : decode cX5_record 56 = .ok (.lastore, 1) := by decide +kernel
theorem dX5_record_57 : decode cX5_record 57 = .ok (.aload_n 0, 1) := by decide +kernel
theorem dX5_record_58 : decode cX5_record 58 = .ok (.getfield 50, 3) := by decide +kernel
theorem dX5_record_61 : decode cX5_record 61 = .ok (.ireturn, 1) := by decide +kernel
theorem dX5_now_0 : decode cX5_now 0 = .ok (.ldc2_w 60, 3) := by decide +kernel
theorem dX5_now_3 : decode cX5_now 3 = .ok (.lstore_n 1, 1) := by decide +kernel
theorem dX5_now_4 : decode cX5_now 4 = .ok (.iconst 1, 1) := by decide +kernel
theorem dX5_now_5 : decode cX5_now 5 = .ok (.istore_n 3, 1) := by decide +kernel
theorem dX5_now_6 : decode cX5_now 6 = .ok (.iload_n 3, 1) := by decide +kernel
theorem dX5_now_7 : decode cX5_now 7 = .ok (.aload_n 0, 1) := by decide +kernel
theorem dX5_now_8 : decode cX5_now 8 = .ok (.getfield 53, 3) := by decide +kernel
theorem dX5_now_11 : decode cX5_now 11 = .ok (.if_icmp .gt 31, 3) := by decide +kernel
theorem dX5_now_14 : decode cX5_now 14 = .ok (.aload_n 0, 1) := by decide +kernel
theorem dX5_now_15 : decode cX5_now 15 = .ok (.getfield 32, 3) := by decide +kernel
theorem dX5_now_18 : decode cX5_now 18 = .ok (.iload_n 3, 1) := by decide +kernel
theorem dX5_now_19 : decode cX5_now 19 = .ok (.laload, 1) := by decide +kernel
theorem dX5_now_20 : decode cX5_now 20 = .ok (.lload_n 1, 1) := by decide +kernel
theorem dX5_now_21 : decode cX5_now 21 = .ok (.lcmp, 1) := by decide +kernel
theorem dX5_now_22 : decode cX5_now 22 = .ok (.ifCond .le 12, 3) := by decide +kernel
theorem dX5_now_25 : decode cX5_now 25 = .ok (.aload_n 0, 1) := by decide +kernel
theorem dX5_now_26 : decode cX5_now 26 = .ok (.getfield 32, 3) := by decide +kernel
theorem dX5_now_29 : decode cX5_now 29 = .ok (.iload_n 3, 1) := by decide +kernel
theorem dX5_now_30 : decode cX5_now 30 = .ok (.laload, 1) := by decide +kernel
theorem dX5_now_31 : decode cX5_now 31 = .ok (.goto 4, 3) := by decide +kernel
theorem dX5_now_34 : decode cX5_now 34 = .ok (.lload_n 1, 1) := by decide +kernel
theorem dX5_now_35 : decode cX5_now 35 = .ok (.lstore_n 1, 1) := by decide +kernel
theorem dX5_now_36 : decode cX5_now 36 = .ok (.iinc 3 1, 3) := by decide +kernel
theorem dX5_now_39 : decode cX5_now 39 = .ok (.goto (-33), 3) := by decide +kernel
theorem dX5_now_42 : decode cX5_now 42 = .ok (.lload_n 1, 1) := by decide +kernel
theorem dX5_now_43 : decode cX5_now 43 = .ok (.lreturn, 1) := by decide +kernel
theorem dX5_isLocked_0 : decode cX5_isLocked 0 = .ok (.aload_n 0, 1) := by decide +kernel
theorem dX5_isLocked_1 : decode cX5_isLocked 1 = .ok (.invokevirtual 62, 3) := by decide +kernel
theorem dX5_isLocked_4 : decode cX5_isLocked 4 = .ok (.aload_n 0, 1) := by decide +kernel
theorem dX5_isLocked_5 : decode cX5_isLocked 5 = .ok (.getfield 16, 3) := by decide +kernel
theorem dX5_isLocked_8 : decode cX5_isLocked 8 = .ok (.iload_n 1, 1) := by decide +kernel
theorem dX5_isLocked_9 : decode cX5_isLocked 9 = .ok (.laload, 1) := by decide +kernel
theorem dX5_isLocked_10 : decode cX5_isLocked 10 = .ok (.lcmp, 1) := by decide +kernel
theorem dX5_isLocked_11 : decode cX5_isLocked 11 = .ok (.ifCond .ge 7, 3) := by decide +kernel
theorem dX5_isLocked_14 : decode cX5_isLocked 14 = .ok (.iconst 1, 1) := by decide +kernel
theorem dX5_isLocked_15 : decode cX5_isLocked 15 = .ok (.goto 4, 3) := by decide +kernel
theorem dX5_isLocked_18 : decode cX5_isLocked 18 = .ok (.iconst 0, 1) := by decide +kernel
theorem dX5_isLocked_19 : decode cX5_isLocked 19 = .ok (.ireturn, 1) := by decide +kernel
theorem dX5_act_0 : decode cX5_act 0 = .ok (.aload_n 0, 1) := by decide +kernel
theorem dX5_act_1 : decode cX5_act 1 = .ok (.iconst 0, 1) := by decide +kernel
theorem dX5_act_2 : decode cX5_act 2 = .ok (.putfield 46, 3) := by decide +kernel
theorem dX5_act_5 : decode cX5_act 5 = .ok (.aload_n 0, 1) := by decide +kernel
theorem dX5_act_6 : decode cX5_act 6 = .ok (.iload_n 1, 1) := by decide +kernel
theorem dX5_act_7 : decode cX5_act 7 = .ok (.iload_n 2, 1) := by decide +kernel
theorem dX5_act_8 : decode cX5_act 8 = .ok (.invokevirtual 66, 3) := by decide +kernel
theorem dX5_act_11 : decode cX5_act 11 = .ok (.ifCond .eq 25, 3) := by decide +kernel
theorem dX5_act_14 : decode cX5_act 14 = .ok (.lload_n 3, 1) := by decide +kernel
theorem dX5_act_15 : decode cX5_act 15 = .ok (.lconst 0, 1) := by decide +kernel
theorem dX5_act_16 : decode cX5_act 16 = .ok (.lcmp, 1) := by decide +kernel
theorem dX5_act_17 : decode cX5_act 17 = .ok (.ifCond .lt 19, 3) := by decide +kernel
theorem dX5_act_20 : decode cX5_act 20 = .ok (.lload_n 3, 1) := by decide +kernel
theorem dX5_act_21 : decode cX5_act 21 = .ok (.ldc2_w 70, 3) := by decide +kernel
theorem dX5_act_24 : decode cX5_act 24 = .ok (.lcmp, 1) := by decide +kernel
theorem dX5_act_25 : decode cX5_act 25 = .ok (.ifCond .gt 11, 3) := by decide +kernel
theorem dX5_act_28 : decode cX5_act 28 = .ok (.aload_n 0, 1) := by decide +kernel
theorem dX5_act_29 : decode cX5_act 29 = .ok (.iload_n 1, 1) := by decide +kernel
theorem dX5_act_30 : decode cX5_act 30 = .ok (.invokevirtual 72, 3) := by decide +kernel
theorem dX5_act_33 : decode cX5_act 33 = .ok (.ifCond .eq 5, 3) := by decide +kernel
theorem dX5_act_36 : decode cX5_act 36 = .ok (.iconst 0, 1) := by decide +kernel
theorem dX5_act_37 : decode cX5_act 37 = .ok (.ireturn, 1) := by decide +kernel
theorem dX5_act_38 : decode cX5_act 38 = .ok (.iconst 1, 1) := by decide +kernel
theorem dX5_act_39 : decode cX5_act 39 = .ok (.istore 9, 2) := by decide +kernel
theorem dX5_act_41 : decode cX5_act 41 = .ok (.iload 9, 2) := by decide +kernel
theorem dX5_act_43 : decode cX5_act 43 = .ok (.aload_n 0, 1) := by decide +kernel
theorem dX5_act_44 : decode cX5_act 44 = .ok (.getfield 53, 3) := by decide +kernel
theorem dX5_act_47 : decode cX5_act 47 = .ok (.if_icmp .gt 83, 3) := by decide +kernel
theorem dX5_act_50 : decode cX5_act 50 = .ok (.aload_n 0, 1) := by decide +kernel
theorem dX5_act_51 : decode cX5_act 51 = .ok (.getfield 35, 3) := by decide +kernel
theorem dX5_act_54 : decode cX5_act 54 = .ok (.iload 9, 2) := by decide +kernel
theorem dX5_act_56 : decode cX5_act 56 = .ok (.baload, 1) := by decide +kernel
theorem dX5_act_57 : decode cX5_act 57 = .ok (.ifCond .ne 67, 3) := by decide +kernel
theorem dX5_act_60 : decode cX5_act 60 = .ok (.aload_n 0, 1) := by decide +kernel
theorem dX5_act_61 : decode cX5_act 61 = .ok (.getfield 20, 3) := by decide +kernel
theorem dX5_act_64 : decode cX5_act 64 = .ok (.iload 9, 2) := by decide +kernel
theorem dX5_act_66 : decode cX5_act 66 = .ok (.iaload, 1) := by decide +kernel
theorem dX5_act_67 : decode cX5_act 67 = .ok (.iload_n 1, 1) := by decide +kernel
theorem dX5_act_68 : decode cX5_act 68 = .ok (.if_icmp .ne 56, 3) := by decide +kernel
theorem dX5_act_71 : decode cX5_act 71 = .ok (.aload_n 0, 1) := by decide +kernel
theorem dX5_act_72 : decode cX5_act 72 = .ok (.getfield 23, 3) := by decide +kernel
theorem dX5_act_75 : decode cX5_act 75 = .ok (.iload 9, 2) := by decide +kernel
theorem dX5_act_77 : decode cX5_act 77 = .ok (.iaload, 1) := by decide +kernel
theorem dX5_act_78 : decode cX5_act 78 = .ok (.iload_n 2, 1) := by decide +kernel
theorem dX5_act_79 : decode cX5_act 79 = .ok (.if_icmp .ne 45, 3) := by decide +kernel
theorem dX5_act_82 : decode cX5_act 82 = .ok (.aload_n 0, 1) := by decide +kernel
theorem dX5_act_83 : decode cX5_act 83 = .ok (.getfield 26, 3) := by decide +kernel
theorem dX5_act_86 : decode cX5_act 86 = .ok (.iload 9, 2) := by decide +kernel
theorem dX5_act_88 : decode cX5_act 88 = .ok (.iaload, 1) := by decide +kernel
theorem dX5_act_89 : decode cX5_act 89 = .ok (.i2l, 1) := by decide +kernel
theorem dX5_act_90 : decode cX5_act 90 = .ok (.lload_n 3, 1) := by decide +kernel
theorem dX5_act_91 : decode cX5_act 91 = .ok (.lcmp, 1) := by decide +kernel
theorem dX5_act_92 : decode cX5_act 92 = .ok (.ifCond .ne 32, 3) := by decide +kernel
theorem dX5_act_95 : decode cX5_act 95 = .ok (.aload_n 0, 1) := by decide +kernel
theorem dX5_act_96 : decode cX5_act 96 = .ok (.getfield 29, 3) := by decide +kernel
theorem dX5_act_99 : decode cX5_act 99 = .ok (.iload 9, 2) := by decide +kernel
theorem dX5_act_101 : decode cX5_act 101 = .ok (.laload, 1) := by decide +kernel
theorem dX5_act_102 : decode cX5_act 102 = .ok (.lload 5, 2) := by decide +kernel
theorem dX5_act_104 : decode cX5_act 104 = .ok (.lcmp, 1) := by decide +kernel
theorem dX5_act_105 : decode cX5_act 105 = .ok (.ifCond .ne 19, 3) := by decide +kernel
theorem dX5_act_108 : decode cX5_act 108 = .ok (.aload_n 0, 1) := by decide +kernel
theorem dX5_act_109 : decode cX5_act 109 = .ok (.getfield 32, 3) := by decide +kernel
theorem dX5_act_112 : decode cX5_act 112 = .ok (.iload 9, 2) := by decide +kernel
theorem dX5_act_114 : decode cX5_act 114 = .ok (.laload, 1) := by decide +kernel
theorem dX5_act_115 : decode cX5_act 115 = .ok (.lload 7, 2) := by decide +kernel
theorem dX5_act_117 : decode cX5_act 117 = .ok (.lcmp, 1) := by decide +kernel
theorem dX5_act_118 : decode cX5_act 118 = .ok (.ifCond .ne 6, 3) := by decide +kernel
theorem dX5_act_121 : decode cX5_act 121 = .ok (.iload 9, 2) := by decide +kernel
theorem dX5_act_123 : decode cX5_act 123 = .ok (.ireturn, 1) := by decide +kernel
theorem dX5_act_124 : decode cX5_act 124 = .ok (.iinc 9 1, 3) := by decide +kernel
theorem dX5_act_127 : decode cX5_act 127 = .ok (.goto (-86), 3) := by decide +kernel
theorem dX5_act_130 : decode cX5_act 130 = .ok (.iload_n 2, 1) := by decide +kernel
theorem dX5_act_131 : decode cX5_act 131 = .ok (.ifCond .ne 19, 3) := by decide +kernel
theorem dX5_act_134 : decode cX5_act 134 = .ok (.lload_n 3, 1) := by decide +kernel
theorem dX5_act_135 : decode cX5_act 135 = .ok (.lconst 1, 1) := by decide +kernel
theorem dX5_act_136 : decode cX5_act 136 = .ok (.lcmp, 1) := by decide +kernel
theorem dX5_act_137 : decode cX5_act 137 = .ok (.ifCond .ne 13, 3) := by decide +kernel
theorem dX5_act_140 : decode cX5_act 140 = .ok (.aload_n 0, 1) := by decide +kernel
theorem dX5_act_141 : decode cX5_act 141 = .ok (.getfield 7, 3) := by decide +kernel
theorem dX5_act_144 : decode cX5_act 144 = .ok (.iload_n 1, 1) := by decide +kernel
theorem dX5_act_145 : decode cX5_act 145 = .ok (.iaload, 1) := by decide +kernel
theorem dX5_act_146 : decode cX5_act 146 = .ok (.iconst 1, 1) := by decide +kernel
theorem dX5_act_147 : decode cX5_act 147 = .ok (.if_icmp .eq 13, 3) := by decide +kernel
theorem dX5_act_150 : decode cX5_act 150 = .ok (.aload_n 0, 1) := by decide +kernel
theorem dX5_act_151 : decode cX5_act 151 = .ok (.getfield 53, 3) := by decide +kernel
theorem dX5_act_154 : decode cX5_act 154 = .ok (.sipush 200, 3) := by decide +kernel
theorem dX5_act_157 : decode cX5_act 157 = .ok (.if_icmp .ne 5, 3) := by decide +kernel
theorem dX5_act_160 : decode cX5_act 160 = .ok (.iconst 0, 1) := by decide +kernel
theorem dX5_act_161 : decode cX5_act 161 = .ok (.ireturn, 1) := by decide +kernel
theorem dX5_act_162 : decode cX5_act 162 = .ok (.aload_n 0, 1) := by decide +kernel
theorem dX5_act_163 : decode cX5_act 163 = .ok (.dup, 1) := by decide +kernel
theorem dX5_act_164 : decode cX5_act 164 = .ok (.getfield 53, 3) := by decide +kernel
theorem dX5_act_167 : decode cX5_act 167 = .ok (.iconst 1, 1) := by decide +kernel
theorem dX5_act_168 : decode cX5_act 168 = .ok (.iadd, 1) := by decide +kernel
theorem dX5_act_169 : decode cX5_act 169 = .ok (.putfield 53, 3) := by decide +kernel
theorem dX5_act_172 : decode cX5_act 172 = .ok (.aload_n 0, 1) := by decide +kernel
theorem dX5_act_173 : decode cX5_act 173 = .ok (.getfield 20, 3) := by decide +kernel
theorem dX5_act_176 : decode cX5_act 176 = .ok (.aload_n 0, 1) := by decide +kernel
theorem dX5_act_177 : decode cX5_act 177 = .ok (.getfield 53, 3) := by decide +kernel
theorem dX5_act_180 : decode cX5_act 180 = .ok (.iload_n 1, 1) := by decide +kernel
theorem dX5_act_181 : decode cX5_act 181 = .ok (.iastore, 1) := by decide +kernel
theorem dX5_act_182 : decode cX5_act 182 = .ok (.aload_n 0, 1) := by decide +kernel
theorem dX5_act_183 : decode cX5_act 183 = .ok (.getfield 23, 3) := by decide +kernel
theorem dX5_act_186 : decode cX5_act 186 = .ok (.aload_n 0, 1) := by decide +kernel
theorem dX5_act_187 : decode cX5_act 187 = .ok (.getfield 53, 3) := by decide +kernel
theorem dX5_act_190 : decode cX5_act 190 = .ok (.iload_n 2, 1) := by decide +kernel
theorem dX5_act_191 : decode cX5_act 191 = .ok (.iastore, 1) := by decide +kernel
theorem dX5_act_192 : decode cX5_act 192 = .ok (.aload_n 0, 1) := by decide +kernel
theorem dX5_act_193 : decode cX5_act 193 = .ok (.getfield 26, 3) := by decide +kernel
theorem dX5_act_196 : decode cX5_act 196 = .ok (.aload_n 0, 1) := by decide +kernel
theorem dX5_act_197 : decode cX5_act 197 = .ok (.getfield 53, 3) := by decide +kernel
theorem dX5_act_200 : decode cX5_act 200 = .ok (.lload_n 3, 1) := by decide +kernel
theorem dX5_act_201 : decode cX5_act 201 = .ok (.l2i, 1) := by decide +kernel
theorem dX5_act_202 : decode cX5_act 202 = .ok (.iastore, 1) := by decide +kernel
theorem dX5_act_203 : decode cX5_act 203 = .ok (.aload_n 0, 1) := by decide +kernel
theorem dX5_act_204 : decode cX5_act 204 = .ok (.getfield 29, 3) := by decide +kernel
theorem dX5_act_207 : decode cX5_act 207 = .ok (.aload_n 0, 1) := by decide +kernel
theorem dX5_act_208 : decode cX5_act 208 = .ok (.getfield 53, 3) := by decide +kernel
theorem dX5_act_211 : decode cX5_act 211 = .ok (.lload 5, 2) := by decide +kernel
theorem dX5_act_213 : decode cX5_act 213 = .ok (.lastore, 1) := by decide +kernel
theorem dX5_act_214 : decode cX5_act 214 = .ok (.aload_n 0, 1) := by decide +kernel
theorem dX5_act_215 : decode cX5_act 215 = .ok (.getfield 32, 3) := by decide +kernel
theorem dX5_act_218 : decode cX5_act 218 = .ok (.aload_n 0, 1) := by decide +kernel
theorem dX5_act_219 : decode cX5_act 219 = .ok (.getfield 53, 3) := by decide +kernel
theorem dX5_act_222 : decode cX5_act 222 = .ok (.lload 7, 2) := by decide +kernel
theorem dX5_act_224 : decode cX5_act 224 = .ok (.lastore, 1) := by decide +kernel
theorem dX5_act_225 : decode cX5_act 225 = .ok (.aload_n 0, 1) := by decide +kernel
theorem dX5_act_226 : decode cX5_act 226 = .ok (.getfield 53, 3) := by decide +kernel
theorem dX5_act_229 : decode cX5_act 229 = .ok (.ireturn, 1) := by decide +kernel
theorem dX5_isOf_0 : decode cX5_isOf 0 = .ok (.aload_n 0, 1) := by decide +kernel
theorem dX5_isOf_1 : decode cX5_isOf 1 = .ok (.getfield 20, 3) := by decide +kernel
theorem dX5_isOf_4 : decode cX5_isOf 4 = .ok (.iload_n 1, 1) := by decide +kernel
theorem dX5_isOf_5 : decode cX5_isOf 5 = .ok (.iaload, 1) := by decide +kernel
theorem dX5_isOf_6 : decode cX5_isOf 6 = .ok (.iload_n 2, 1) := by decide +kernel
theorem dX5_isOf_7 : decode cX5_isOf 7 = .ok (.if_icmp .ne 17, 3) := by decide +kernel
theorem dX5_isOf_10 : decode cX5_isOf 10 = .ok (.aload_n 0, 1) := by decide +kernel
theorem dX5_isOf_11 : decode cX5_isOf 11 = .ok (.getfield 23, 3) := by decide +kernel
theorem dX5_isOf_14 : decode cX5_isOf 14 = .ok (.iload_n 1, 1) := by decide +kernel
theorem dX5_isOf_15 : decode cX5_isOf 15 = .ok (.iaload, 1) := by decide +kernel
theorem dX5_isOf_16 : decode cX5_isOf 16 = .ok (.iload_n 3, 1) := by decide +kernel
theorem dX5_isOf_17 : decode cX5_isOf 17 = .ok (.if_icmp .ne 7, 3) := by decide +kernel
theorem dX5_isOf_20 : decode cX5_isOf 20 = .ok (.iconst 1, 1) := by decide +kernel
theorem dX5_isOf_21 : decode cX5_isOf 21 = .ok (.goto 4, 3) := by decide +kernel
theorem dX5_isOf_24 : decode cX5_isOf 24 = .ok (.iconst 0, 1) := by decide +kernel
theorem dX5_isOf_25 : decode cX5_isOf 25 = .ok (.ireturn, 1) := by decide +kernel
theorem dX5_isBefore_0 : decode cX5_isBefore 0 = .ok (.aload_n 0, 1) := by decide +kernel
theorem dX5_isBefore_1 : decode cX5_isBefore 1 = .ok (.getfield 32, 3) := by decide +kernel
theorem dX5_isBefore_4 : decode cX5_isBefore 4 = .ok (.iload_n 1, 1) := by decide +kernel
theorem dX5_isBefore_5 : decode cX5_isBefore 5 = .ok (.laload, 1) := by decide +kernel
theorem dX5_isBefore_6 : decode cX5_isBefore 6 = .ok (.aload_n 0, 1) := by decide +kernel
theorem dX5_isBefore_7 : decode cX5_isBefore 7 = .ok (.getfield 32, 3) := by decide +kernel
theorem dX5_isBefore_10 : decode cX5_isBefore 10 = .ok (.iload_n 2, 1) := by decide +kernel
theorem dX5_isBefore_11 : decode cX5_isBefore 11 = .ok (.laload, 1) := by decide +kernel
theorem dX5_isBefore_12 : decode cX5_isBefore 12 = .ok (.lcmp, 1) := by decide +kernel
theorem dX5_isBefore_13 : decode cX5_isBefore 13 = .ok (.ifCond .eq 25, 3) := by decide +kernel
theorem dX5_isBefore_16 : decode cX5_isBefore 16 = .ok (.aload_n 0, 1) := by decide +kernel
theorem dX5_isBefore_17 : decode cX5_isBefore 17 = .ok (.getfield 32, 3) := by decide +kernel
theorem dX5_isBefore_20 : decode cX5_isBefore 20 = .ok (.iload_n 1, 1) := by decide +kernel
theorem dX5_isBefore_21 : decode cX5_isBefore 21 = .ok (.laload, 1) := by decide +kernel
theorem dX5_isBefore_22 : decode cX5_isBefore 22 = .ok (.aload_n 0, 1) := by decide +kernel
theorem dX5_isBefore_23 : decode cX5_isBefore 23 = .ok (.getfield 32, 3) := by decide +kernel
theorem dX5_isBefore_26 : decode cX5_isBefore 26 = .ok (.iload_n 2, 1) := by decide +kernel
theorem dX5_isBefore_27 : decode cX5_isBefore 27 = .ok (.laload, 1) := by decide +kernel
theorem dX5_isBefore_28 : decode cX5_isBefore 28 = .ok (.lcmp, 1) := by decide +kernel
theorem dX5_isBefore_29 : decode cX5_isBefore 29 = .ok (.ifCond .ge 7, 3) := by decide +kernel
theorem dX5_isBefore_32 : decode cX5_isBefore 32 = .ok (.iconst 1, 1) := by decide +kernel
theorem dX5_isBefore_33 : decode cX5_isBefore 33 = .ok (.goto 4, 3) := by decide +kernel
theorem dX5_isBefore_36 : decode cX5_isBefore 36 = .ok (.iconst 0, 1) := by decide +kernel
theorem dX5_isBefore_37 : decode cX5_isBefore 37 = .ok (.ireturn, 1) := by decide +kernel
theorem dX5_isBefore_38 : decode cX5_isBefore 38 = .ok (.aload_n 0, 1) := by decide +kernel
theorem dX5_isBefore_39 : decode cX5_isBefore 39 = .ok (.getfield 29, 3) := by decide +kernel
theorem dX5_isBefore_42 : decode cX5_isBefore 42 = .ok (.iload_n 1, 1) := by decide +kernel
theorem dX5_isBefore_43 : decode cX5_isBefore 43 = .ok (.laload, 1) := by decide +kernel
theorem dX5_isBefore_44 : decode cX5_isBefore 44 = .ok (.aload_n 0, 1) := by decide +kernel
theorem dX5_isBefore_45 : decode cX5_isBefore 45 = .ok (.getfield 29, 3) := by decide +kernel
theorem dX5_isBefore_48 : decode cX5_isBefore 48 = .ok (.iload_n 2, 1) := by decide +kernel
theorem dX5_isBefore_49 : decode cX5_isBefore 49 = .ok (.laload, 1) := by decide +kernel
theorem dX5_isBefore_50 : decode cX5_isBefore 50 = .ok (.lcmp, 1) := by decide +kernel
theorem dX5_isBefore_51 : decode cX5_isBefore 51 = .ok (.ifCond .eq 27, 3) := by decide +kernel
theorem dX5_isBefore_54 : decode cX5_isBefore 54 = .ok (.aload_n 0, 1) := by decide +kernel
theorem dX5_isBefore_55 : decode cX5_isBefore 55 = .ok (.getfield 29, 3) := by decide +kernel
theorem dX5_isBefore_58 : decode cX5_isBefore 58 = .ok (.iload_n 1, 1) := by decide +kernel
theorem dX5_isBefore_59 : decode cX5_isBefore 59 = .ok (.laload, 1) := by decide +kernel
theorem dX5_isBefore_60 : decode cX5_isBefore 60 = .ok (.aload_n 0, 1) := by decide +kernel
theorem dX5_isBefore_61 : decode cX5_isBefore 61 = .ok (.getfield 29, 3) := by decide +kernel
theorem dX5_isBefore_64 : decode cX5_isBefore 64 = .ok (.iload_n 2, 1) := by decide +kernel
theorem dX5_isBefore_65 : decode cX5_isBefore 65 = .ok (.laload, 1) := by decide +kernel
theorem dX5_isBefore_66 : decode cX5_isBefore 66 = .ok (.lcmp, 1) := by decide +kernel
theorem dX5_isBefore_67 : decode cX5_isBefore 67 = .ok (.ifCond .ge 7, 3) := by decide +kernel
theorem dX5_isBefore_70 : decode cX5_isBefore 70 = .ok (.iconst 1, 1) := by decide +kernel
theorem dX5_isBefore_71 : decode cX5_isBefore 71 = .ok (.goto 17, 3) := by decide +kernel
theorem dX5_isBefore_74 : decode cX5_isBefore 74 = .ok (.iconst 0, 1) := by decide +kernel
theorem dX5_isBefore_75 : decode cX5_isBefore 75 = .ok (.goto 13, 3) := by decide +kernel
theorem dX5_isBefore_78 : decode cX5_isBefore 78 = .ok (.iload_n 1, 1) := by decide +kernel
theorem dX5_isBefore_79 : decode cX5_isBefore 79 = .ok (.iload_n 2, 1) := by decide +kernel
theorem dX5_isBefore_80 : decode cX5_isBefore 80 = .ok (.if_icmp .ge 7, 3) := by decide +kernel
theorem dX5_isBefore_83 : decode cX5_isBefore 83 = .ok (.iconst 1, 1) := by decide +kernel
theorem dX5_isBefore_84 : decode cX5_isBefore 84 = .ok (.goto 4, 3) := by decide +kernel
theorem dX5_isBefore_87 : decode cX5_isBefore 87 = .ok (.iconst 0, 1) := by decide +kernel
theorem dX5_isBefore_88 : decode cX5_isBefore 88 = .ok (.ireturn, 1) := by decide +kernel
theorem dX5_last_0 : decode cX5_last 0 = .ok (.iconst 0, 1) := by decide +kernel
theorem dX5_last_1 : decode cX5_last 1 = .ok (.istore 5, 2) := by decide +kernel
theorem dX5_last_3 : decode cX5_last 3 = .ok (.iconst 1, 1) := by decide +kernel
theorem dX5_last_4 : decode cX5_last 4 = .ok (.istore 6, 2) := by decide +kernel
theorem dX5_last_6 : decode cX5_last 6 = .ok (.iload 6, 2) := by decide +kernel
theorem dX5_last_8 : decode cX5_last 8 = .ok (.aload_n 0, 1) := by decide +kernel
theorem dX5_last_9 : decode cX5_last 9 = .ok (.getfield 53, 3) := by decide +kernel
theorem dX5_last_12 : decode cX5_last 12 = .ok (.if_icmp .gt 62, 3) := by decide +kernel
theorem dX5_last_15 : decode cX5_last 15 = .ok (.aload_n 0, 1) := by decide +kernel
theorem dX5_last_16 : decode cX5_last 16 = .ok (.iload 6, 2) := by decide +kernel
theorem dX5_last_18 : decode cX5_last 18 = .ok (.iload_n 1, 1) := by decide +kernel
theorem dX5_last_19 : decode cX5_last 19 = .ok (.iload_n 2, 1) := by decide +kernel
theorem dX5_last_20 : decode cX5_last 20 = .ok (.invokevirtual 75, 3) := by decide +kernel
theorem dX5_last_23 : decode cX5_last 23 = .ok (.ifCond .eq 45, 3) := by decide +kernel
theorem dX5_last_26 : decode cX5_last 26 = .ok (.aload_n 0, 1) := by decide +kernel
theorem dX5_last_27 : decode cX5_last 27 = .ok (.getfield 35, 3) := by decide +kernel
theorem dX5_last_30 : decode cX5_last 30 = .ok (.iload 6, 2) := by decide +kernel
theorem dX5_last_32 : decode cX5_last 32 = .ok (.baload, 1) := by decide +kernel
theorem dX5_last_33 : decode cX5_last 33 = .ok (.ifCond .ne 35, 3) := by decide +kernel
theorem dX5_last_36 : decode cX5_last 36 = .ok (.aload_n 0, 1) := by decide +kernel
theorem dX5_last_37 : decode cX5_last 37 = .ok (.getfield 32, 3) := by decide +kernel
theorem dX5_last_40 : decode cX5_last 40 = .ok (.iload 6, 2) := by decide +kernel
theorem dX5_last_42 : decode cX5_last 42 = .ok (.laload, 1) := by decide +kernel
theorem dX5_last_43 : decode cX5_last 43 = .ok (.lload_n 3, 1) := by decide +kernel
theorem dX5_last_44 : decode cX5_last 44 = .ok (.lcmp, 1) := by decide +kernel
theorem dX5_last_45 : decode cX5_last 45 = .ok (.ifCond .gt 23, 3) := by decide +kernel
theorem dX5_last_48 : decode cX5_last 48 = .ok (.iload 5, 2) := by decide +kernel
theorem dX5_last_50 : decode cX5_last 50 = .ok (.ifCond .eq 14, 3) := by decide +kernel
theorem dX5_last_53 : decode cX5_last 53 = .ok (.aload_n 0, 1) := by decide +kernel
theorem dX5_last_54 : decode cX5_last 54 = .ok (.iload 5, 2) := by decide +kernel
theorem dX5_last_56 : decode cX5_last 56 = .ok (.iload 6, 2) := by decide +kernel
theorem dX5_last_58 : decode cX5_last 58 = .ok (.invokevirtual 79, 3) := by decide +kernel
theorem dX5_last_61 : decode cX5_last 61 = .ok (.ifCond .eq 7, 3) := by decide +kernel
theorem dX5_last_64 : decode cX5_last 64 = .ok (.iload 6, 2) := by decide +kernel
theorem dX5_last_66 : decode cX5_last 66 = .ok (.istore 5, 2) := by decide +kernel
theorem dX5_last_68 : decode cX5_last 68 = .ok (.iinc 6 1, 3) := by decide +kernel
theorem dX5_last_71 : decode cX5_last 71 = .ok (.goto (-65), 3) := by decide +kernel
theorem dX5_last_74 : decode cX5_last 74 = .ok (.iload 5, 2) := by decide +kernel
theorem dX5_last_76 : decode cX5_last 76 = .ok (.ireturn, 1) := by decide +kernel
theorem dX5_at_0 : decode cX5_at 0 = .ok (.aload_n 0, 1) := by decide +kernel
theorem dX5_at_1 : decode cX5_at 1 = .ok (.iconst 0, 1) := by decide +kernel
theorem dX5_at_2 : decode cX5_at 2 = .ok (.putfield 46, 3) := by decide +kernel
theorem dX5_at_5 : decode cX5_at 5 = .ok (.aload_n 0, 1) := by decide +kernel
theorem dX5_at_6 : decode cX5_at 6 = .ok (.iload_n 1, 1) := by decide +kernel
theorem dX5_at_7 : decode cX5_at 7 = .ok (.iload_n 2, 1) := by decide +kernel
theorem dX5_at_8 : decode cX5_at 8 = .ok (.invokevirtual 66, 3) := by decide +kernel
theorem dX5_at_11 : decode cX5_at 11 = .ok (.ifCond .eq 13, 3) := by decide +kernel
theorem dX5_at_14 : decode cX5_at 14 = .ok (.aload_n 0, 1) := by decide +kernel
theorem dX5_at_15 : decode cX5_at 15 = .ok (.iload_n 1, 1) := by decide +kernel
theorem dX5_at_16 : decode cX5_at 16 = .ok (.iload_n 2, 1) := by decide +kernel
theorem dX5_at_17 : decode cX5_at 17 = .ok (.lload_n 3, 1) := by decide +kernel
theorem dX5_at_18 : decode cX5_at 18 = .ok (.invokevirtual 82, 3) := by decide +kernel
theorem dX5_at_21 : decode cX5_at 21 = .ok (.goto 4, 3) := by decide +kernel
theorem dX5_at_24 : decode cX5_at 24 = .ok (.iconst 0, 1) := by decide +kernel
theorem dX5_at_25 : decode cX5_at 25 = .ok (.istore 5, 2) := by decide +kernel
theorem dX5_at_27 : decode cX5_at 27 = .ok (.iload 5, 2) := by decide +kernel
theorem dX5_at_29 : decode cX5_at 29 = .ok (.ifCond .ne 7, 3) := by decide +kernel
theorem dX5_at_32 : decode cX5_at 32 = .ok (.iconst (-1), 1) := by decide +kernel
theorem dX5_at_33 : decode cX5_at 33 = .ok (.goto 10, 3) := by decide +kernel
theorem dX5_at_36 : decode cX5_at 36 = .ok (.aload_n 0, 1) := by decide +kernel
theorem dX5_at_37 : decode cX5_at 37 = .ok (.getfield 26, 3) := by decide +kernel
theorem dX5_at_40 : decode cX5_at 40 = .ok (.iload 5, 2) := by decide +kernel
theorem dX5_at_42 : decode cX5_at 42 = .ok (.iaload, 1) := by decide +kernel
theorem dX5_at_43 : decode cX5_at 43 = .ok (.ireturn, 1) := by decide +kernel
theorem dX5_stale_0 : decode cX5_stale 0 = .ok (.aload_n 0, 1) := by decide +kernel
theorem dX5_stale_1 : decode cX5_stale 1 = .ok (.iconst 0, 1) := by decide +kernel
theorem dX5_stale_2 : decode cX5_stale 2 = .ok (.putfield 46, 3) := by decide +kernel
theorem dX5_stale_5 : decode cX5_stale 5 = .ok (.aload_n 0, 1) := by decide +kernel
theorem dX5_stale_6 : decode cX5_stale 6 = .ok (.iload_n 1, 1) := by decide +kernel
theorem dX5_stale_7 : decode cX5_stale 7 = .ok (.iload 4, 2) := by decide +kernel
theorem dX5_stale_9 : decode cX5_stale 9 = .ok (.invokevirtual 66, 3) := by decide +kernel
theorem dX5_stale_12 : decode cX5_stale 12 = .ok (.ifCond .ne 5, 3) := by decide +kernel
theorem dX5_stale_15 : decode cX5_stale 15 = .ok (.iconst (-1), 1) := by decide +kernel
theorem dX5_stale_16 : decode cX5_stale 16 = .ok (.ireturn, 1) := by decide +kernel
theorem dX5_stale_17 : decode cX5_stale 17 = .ok (.aload_n 0, 1) := by decide +kernel
theorem dX5_stale_18 : decode cX5_stale 18 = .ok (.iload_n 1, 1) := by decide +kernel
theorem dX5_stale_19 : decode cX5_stale 19 = .ok (.iload 4, 2) := by decide +kernel
theorem dX5_stale_21 : decode cX5_stale 21 = .ok (.lload_n 2, 1) := by decide +kernel
theorem dX5_stale_22 : decode cX5_stale 22 = .ok (.invokevirtual 82, 3) := by decide +kernel
theorem dX5_stale_25 : decode cX5_stale 25 = .ok (.istore 5, 2) := by decide +kernel
theorem dX5_stale_27 : decode cX5_stale 27 = .ok (.aload_n 0, 1) := by decide +kernel
theorem dX5_stale_28 : decode cX5_stale 28 = .ok (.iload_n 1, 1) := by decide +kernel
theorem dX5_stale_29 : decode cX5_stale 29 = .ok (.iload 4, 2) := by decide +kernel
theorem dX5_stale_31 : decode cX5_stale 31 = .ok (.ldc2_w 86, 3) := by decide +kernel
theorem dX5_stale_34 : decode cX5_stale 34 = .ok (.invokevirtual 82, 3) := by decide +kernel
theorem dX5_stale_37 : decode cX5_stale 37 = .ok (.istore 6, 2) := by decide +kernel
theorem dX5_stale_39 : decode cX5_stale 39 = .ok (.iload 6, 2) := by decide +kernel
theorem dX5_stale_41 : decode cX5_stale 41 = .ok (.ifCond .eq 15, 3) := by decide +kernel
theorem dX5_stale_44 : decode cX5_stale 44 = .ok (.aload_n 0, 1) := by decide +kernel
theorem dX5_stale_45 : decode cX5_stale 45 = .ok (.getfield 32, 3) := by decide +kernel
theorem dX5_stale_48 : decode cX5_stale 48 = .ok (.iload 6, 2) := by decide +kernel
theorem dX5_stale_50 : decode cX5_stale 50 = .ok (.laload, 1) := by decide +kernel
theorem dX5_stale_51 : decode cX5_stale 51 = .ok (.lload_n 2, 1) := by decide +kernel
theorem dX5_stale_52 : decode cX5_stale 52 = .ok (.lcmp, 1) := by decide +kernel
theorem dX5_stale_53 : decode cX5_stale 53 = .ok (.ifCond .gt 5, 3) := by decide +kernel
theorem dX5_stale_56 : decode cX5_stale 56 = .ok (.iconst 1, 1) := by decide +kernel
theorem dX5_stale_57 : decode cX5_stale 57 = .ok (.ireturn, 1) := by decide +kernel
theorem dX5_stale_58 : decode cX5_stale 58 = .ok (.iload 5, 2) := by decide +kernel
theorem dX5_stale_60 : decode cX5_stale 60 = .ok (.ifCond .eq 24, 3) := by decide +kernel
theorem dX5_stale_63 : decode cX5_stale 63 = .ok (.aload_n 0, 1) := by decide +kernel
theorem dX5_stale_64 : decode cX5_stale 64 = .ok (.getfield 26, 3) := by decide +kernel
theorem dX5_stale_67 : decode cX5_stale 67 = .ok (.iload 5, 2) := by decide +kernel
theorem dX5_stale_69 : decode cX5_stale 69 = .ok (.iaload, 1) := by decide +kernel
theorem dX5_stale_70 : decode cX5_stale 70 = .ok (.aload_n 0, 1) := by decide +kernel
theorem dX5_stale_71 : decode cX5_stale 71 = .ok (.getfield 26, 3) := by decide +kernel
theorem dX5_stale_74 : decode cX5_stale 74 = .ok (.iload 6, 2) := by decide +kernel
theorem dX5_stale_76 : decode cX5_stale 76 = .ok (.iaload, 1) := by decide +kernel
theorem dX5_stale_77 : decode cX5_stale 77 = .ok (.if_icmp .ne 7, 3) := by decide +kernel
theorem dX5_stale_80 : decode cX5_stale 80 = .ok (.iconst 2, 1) := by decide +kernel
theorem dX5_stale_81 : decode cX5_stale 81 = .ok (.goto 4, 3) := by decide +kernel
theorem dX5_stale_84 : decode cX5_stale 84 = .ok (.iconst 0, 1) := by decide +kernel
theorem dX5_stale_85 : decode cX5_stale 85 = .ok (.ireturn, 1) := by decide +kernel
theorem dX5_isLeantOn_0 : decode cX5_isLeantOn 0 = .ok (.iconst 0, 1) := by decide +kernel
theorem dX5_isLeantOn_1 : decode cX5_isLeantOn 1 = .ok (.istore_n 3, 1) := by decide +kernel
theorem dX5_isLeantOn_2 : decode cX5_isLeantOn 2 = .ok (.iconst 1, 1) := by decide +kernel
theorem dX5_isLeantOn_3 : decode cX5_isLeantOn 3 = .ok (.istore 4, 2) := by decide +kernel
theorem dX5_isLeantOn_5 : decode cX5_isLeantOn 5 = .ok (.iload 4, 2) := by decide +kernel
theorem dX5_isLeantOn_7 : decode cX5_isLeantOn 7 = .ok (.aload_n 0, 1) := by decide +kernel
theorem dX5_isLeantOn_8 : decode cX5_isLeantOn 8 = .ok (.getfield 53, 3) := by decide +kernel
theorem dX5_isLeantOn_11 : decode cX5_isLeantOn 11 = .ok (.if_icmp .gt 60, 3) := by decide +kernel
theorem dX5_isLeantOn_14 : decode cX5_isLeantOn 14 = .ok (.iload_n 3, 1) := by decide +kernel
theorem dX5_isLeantOn_15 : decode cX5_isLeantOn 15 = .ok (.ifCond .ne 44, 3) := by decide +kernel
theorem dX5_isLeantOn_18 : decode cX5_isLeantOn 18 = .ok (.aload_n 0, 1) := by decide +kernel
theorem dX5_isLeantOn_19 : decode cX5_isLeantOn 19 = .ok (.getfield 43, 3) := by decide +kernel
theorem dX5_isLeantOn_22 : decode cX5_isLeantOn 22 = .ok (.sipush 201, 3) := by decide +kernel
theorem dX5_isLeantOn_25 : decode cX5_isLeantOn 25 = .ok (.iload 4, 2) := by decide +kernel
theorem dX5_isLeantOn_27 : decode cX5_isLeantOn 27 = .ok (.imul, 1) := by decide +kernel
theorem dX5_isLeantOn_28 : decode cX5_isLeantOn 28 = .ok (.iload_n 1, 1) := by decide +kernel
theorem dX5_isLeantOn_29 : decode cX5_isLeantOn 29 = .ok (.iadd, 1) := by decide +kernel
theorem dX5_isLeantOn_30 : decode cX5_isLeantOn 30 = .ok (.baload, 1) := by decide +kernel
theorem dX5_isLeantOn_31 : decode cX5_isLeantOn 31 = .ok (.ifCond .eq 32, 3) := by decide +kernel
theorem dX5_isLeantOn_34 : decode cX5_isLeantOn 34 = .ok (.aload_n 0, 1) := by decide +kernel
theorem dX5_isLeantOn_35 : decode cX5_isLeantOn 35 = .ok (.getfield 35, 3) := by decide +kernel
theorem dX5_isLeantOn_38 : decode cX5_isLeantOn 38 = .ok (.iload 4, 2) := by decide +kernel
theorem dX5_isLeantOn_40 : decode cX5_isLeantOn 40 = .ok (.baload, 1) := by decide +kernel
theorem dX5_isLeantOn_41 : decode cX5_isLeantOn 41 = .ok (.ifCond .ne 22, 3) := by decide +kernel
theorem dX5_isLeantOn_44 : decode cX5_isLeantOn 44 = .ok (.iload_n 2, 1) := by decide +kernel
theorem dX5_isLeantOn_45 : decode cX5_isLeantOn 45 = .ok (.ifCond .eq 14, 3) := by decide +kernel
theorem dX5_isLeantOn_48 : decode cX5_isLeantOn 48 = .ok (.aload_n 0, 1) := by decide +kernel
theorem dX5_isLeantOn_49 : decode cX5_isLeantOn 49 = .ok (.getfield 39, 3) := by decide +kernel
theorem dX5_isLeantOn_52 : decode cX5_isLeantOn 52 = .ok (.iload 4, 2) := by decide +kernel
theorem dX5_isLeantOn_54 : decode cX5_isLeantOn 54 = .ok (.iaload, 1) := by decide +kernel
theorem dX5_isLeantOn_55 : decode cX5_isLeantOn 55 = .ok (.iload_n 2, 1) := by decide +kernel
theorem dX5_isLeantOn_56 : decode cX5_isLeantOn 56 = .ok (.if_icmp .eq 7, 3) := by decide +kernel
theorem dX5_isLeantOn_59 : decode cX5_isLeantOn 59 = .ok (.iconst 1, 1) := by decide +kernel
theorem dX5_isLeantOn_60 : decode cX5_isLeantOn 60 = .ok (.goto 4, 3) := by decide +kernel
theorem dX5_isLeantOn_63 : decode cX5_isLeantOn 63 = .ok (.iconst 0, 1) := by decide +kernel
theorem dX5_isLeantOn_64 : decode cX5_isLeantOn 64 = .ok (.istore_n 3, 1) := by decide +kernel
theorem dX5_isLeantOn_65 : decode cX5_isLeantOn 65 = .ok (.iinc 4 1, 3) := by decide +kernel
theorem dX5_isLeantOn_68 : decode cX5_isLeantOn 68 = .ok (.goto (-63), 3) := by decide +kernel
theorem dX5_isLeantOn_71 : decode cX5_isLeantOn 71 = .ok (.iload_n 3, 1) := by decide +kernel
theorem dX5_isLeantOn_72 : decode cX5_isLeantOn 72 = .ok (.ireturn, 1) := by decide +kernel
theorem dX5_undo_0 : decode cX5_undo 0 = .ok (.aload_n 0, 1) := by decide +kernel
theorem dX5_undo_1 : decode cX5_undo 1 = .ok (.iconst 0, 1) := by decide +kernel
theorem dX5_undo_2 : decode cX5_undo 2 = .ok (.putfield 46, 3) := by decide +kernel
theorem dX5_undo_5 : decode cX5_undo 5 = .ok (.aload_n 0, 1) := by decide +kernel
theorem dX5_undo_6 : decode cX5_undo 6 = .ok (.iload_n 1, 1) := by decide +kernel
theorem dX5_undo_7 : decode cX5_undo 7 = .ok (.invokevirtual 88, 3) := by decide +kernel
theorem dX5_undo_10 : decode cX5_undo 10 = .ok (.ifCond .eq 21, 3) := by decide +kernel
theorem dX5_undo_13 : decode cX5_undo 13 = .ok (.aload_n 0, 1) := by decide +kernel
theorem dX5_undo_14 : decode cX5_undo 14 = .ok (.getfield 35, 3) := by decide +kernel
theorem dX5_undo_17 : decode cX5_undo 17 = .ok (.iload_n 1, 1) := by decide +kernel
theorem dX5_undo_18 : decode cX5_undo 18 = .ok (.baload, 1) := by decide +kernel
theorem dX5_undo_19 : decode cX5_undo 19 = .ok (.ifCond .ne 12, 3) := by decide +kernel
theorem dX5_undo_22 : decode cX5_undo 22 = .ok (.aload_n 0, 1) := by decide +kernel
theorem dX5_undo_23 : decode cX5_undo 23 = .ok (.iload_n 1, 1) := by decide +kernel
theorem dX5_undo_24 : decode cX5_undo 24 = .ok (.iconst 0, 1) := by decide +kernel
theorem dX5_undo_25 : decode cX5_undo 25 = .ok (.invokevirtual 91, 3) := by decide +kernel
theorem dX5_undo_28 : decode cX5_undo 28 = .ok (.ifCond .eq 5, 3) := by decide +kernel
theorem dX5_undo_31 : decode cX5_undo 31 = .ok (.iconst 0, 1) := by decide +kernel
theorem dX5_undo_32 : decode cX5_undo 32 = .ok (.ireturn, 1) := by decide +kernel
theorem dX5_undo_33 : decode cX5_undo 33 = .ok (.aload_n 0, 1) := by decide +kernel
theorem dX5_undo_34 : decode cX5_undo 34 = .ok (.getfield 35, 3) := by decide +kernel
theorem dX5_undo_37 : decode cX5_undo 37 = .ok (.iload_n 1, 1) := by decide +kernel
theorem dX5_undo_38 : decode cX5_undo 38 = .ok (.iconst 1, 1) := by decide +kernel
theorem dX5_undo_39 : decode cX5_undo 39 = .ok (.bastore, 1) := by decide +kernel
theorem dX5_undo_40 : decode cX5_undo 40 = .ok (.iconst 1, 1) := by decide +kernel
theorem dX5_undo_41 : decode cX5_undo 41 = .ok (.ireturn, 1) := by decide +kernel
theorem dX5_lean_0 : decode cX5_lean 0 = .ok (.aload_n 0, 1) := by decide +kernel
theorem dX5_lean_1 : decode cX5_lean 1 = .ok (.iconst 0, 1) := by decide +kernel
theorem dX5_lean_2 : decode cX5_lean 2 = .ok (.putfield 46, 3) := by decide +kernel
theorem dX5_lean_5 : decode cX5_lean 5 = .ok (.aload_n 0, 1) := by decide +kernel
theorem dX5_lean_6 : decode cX5_lean 6 = .ok (.iload_n 1, 1) := by decide +kernel
theorem dX5_lean_7 : decode cX5_lean 7 = .ok (.invokevirtual 88, 3) := by decide +kernel
theorem dX5_lean_10 : decode cX5_lean 10 = .ok (.ifCond .eq 31, 3) := by decide +kernel
theorem dX5_lean_13 : decode cX5_lean 13 = .ok (.aload_n 0, 1) := by decide +kernel
theorem dX5_lean_14 : decode cX5_lean 14 = .ok (.iload_n 2, 1) := by decide +kernel
theorem dX5_lean_15 : decode cX5_lean 15 = .ok (.invokevirtual 88, 3) := by decide +kernel
theorem dX5_lean_18 : decode cX5_lean 18 = .ok (.ifCond .eq 23, 3) := by decide +kernel
theorem dX5_lean_21 : decode cX5_lean 21 = .ok (.iload_n 2, 1) := by decide +kernel
theorem dX5_lean_22 : decode cX5_lean 22 = .ok (.iload_n 1, 1) := by decide +kernel
theorem dX5_lean_23 : decode cX5_lean 23 = .ok (.if_icmp .ge 18, 3) := by decide +kernel
theorem dX5_lean_26 : decode cX5_lean 26 = .ok (.aload_n 0, 1) := by decide +kernel
theorem dX5_lean_27 : decode cX5_lean 27 = .ok (.getfield 43, 3) := by decide +kernel
theorem dX5_lean_30 : decode cX5_lean 30 = .ok (.sipush 201, 3) := by decide +kernel
theorem dX5_lean_33 : decode cX5_lean 33 = .ok (.iload_n 1, 1) := by decide +kernel
theorem dX5_lean_34 : decode cX5_lean 34 = .ok (.imul, 1) := by decide +kernel
theorem dX5_lean_35 : decode cX5_lean 35 = .ok (.iload_n 2, 1) := by decide +kernel
theorem dX5_lean_36 : decode cX5_lean 36 = .ok (.iadd, 1) := by decide +kernel
theorem dX5_lean_37 : decode cX5_lean 37 = .ok (.baload, 1) := by decide +kernel
theorem dX5_lean_38 : decode cX5_lean 38 = .ok (.ifCond .eq 5, 3) := by decide +kernel
theorem dX5_lean_41 : decode cX5_lean 41 = .ok (.iconst 0, 1) := by decide +kernel
theorem dX5_lean_42 : decode cX5_lean 42 = .ok (.ireturn, 1) := by decide +kernel
theorem dX5_lean_43 : decode cX5_lean 43 = .ok (.aload_n 0, 1) := by decide +kernel
theorem dX5_lean_44 : decode cX5_lean 44 = .ok (.getfield 43, 3) := by decide +kernel
theorem dX5_lean_47 : decode cX5_lean 47 = .ok (.sipush 201, 3) := by decide +kernel
theorem dX5_lean_50 : decode cX5_lean 50 = .ok (.iload_n 1, 1) := by decide +kernel
theorem dX5_lean_51 : decode cX5_lean 51 = .ok (.imul, 1) := by decide +kernel
theorem dX5_lean_52 : decode cX5_lean 52 = .ok (.iload_n 2, 1) := by decide +kernel
theorem dX5_lean_53 : decode cX5_lean 53 = .ok (.iadd, 1) := by decide +kernel
theorem dX5_lean_54 : decode cX5_lean 54 = .ok (.iconst 1, 1) := by decide +kernel
theorem dX5_lean_55 : decode cX5_lean 55 = .ok (.bastore, 1) := by decide +kernel
theorem dX5_lean_56 : decode cX5_lean 56 = .ok (.iconst 1, 1) := by decide +kernel
theorem dX5_lean_57 : decode cX5_lean 57 = .ok (.ireturn, 1) := by decide +kernel
theorem dX5_lock_0 : decode cX5_lock 0 = .ok (.aload_n 0, 1) := by decide +kernel
theorem dX5_lock_1 : decode cX5_lock 1 = .ok (.iconst 0, 1) := by decide +kernel
theorem dX5_lock_2 : decode cX5_lock 2 = .ok (.putfield 46, 3) := by decide +kernel
theorem dX5_lock_5 : decode cX5_lock 5 = .ok (.aload_n 0, 1) := by decide +kernel
theorem dX5_lock_6 : decode cX5_lock 6 = .ok (.iload_n 1, 1) := by decide +kernel
theorem dX5_lock_7 : decode cX5_lock 7 = .ok (.invokevirtual 56, 3) := by decide +kernel
theorem dX5_lock_10 : decode cX5_lock 10 = .ok (.ifCond .eq 21, 3) := by decide +kernel
theorem dX5_lock_13 : decode cX5_lock 13 = .ok (.aload_n 0, 1) := by decide +kernel
theorem dX5_lock_14 : decode cX5_lock 14 = .ok (.iload_n 1, 1) := by decide +kernel
theorem dX5_lock_15 : decode cX5_lock 15 = .ok (.invokevirtual 72, 3) := by decide +kernel
theorem dX5_lock_18 : decode cX5_lock 18 = .ok (.ifCond .eq 15, 3) := by decide +kernel
theorem dX5_lock_21 : decode cX5_lock 21 = .ok (.aload_n 0, 1) := by decide +kernel
theorem dX5_lock_22 : decode cX5_lock 22 = .ok (.getfield 13, 3) := by decide +kernel
theorem dX5_lock_25 : decode cX5_lock 25 = .ok (.iload_n 1, 1) := by decide +kernel
theorem dX5_lock_26 : decode cX5_lock 26 = .ok (.iaload, 1) := by decide +kernel
theorem dX5_lock_27 : decode cX5_lock 27 = .ok (.iload_n 2, 1) := by decide +kernel
theorem dX5_lock_28 : decode cX5_lock 28 = .ok (.if_icmp .eq 5, 3) := by decide +kernel
theorem dX5_lock_31 : decode cX5_lock 31 = .ok (.iconst 0, 1) := by decide +kernel
theorem dX5_lock_32 : decode cX5_lock 32 = .ok (.ireturn, 1) := by decide +kernel
theorem dX5_lock_33 : decode cX5_lock 33 = .ok (.aload_n 0, 1) := by decide +kernel
theorem dX5_lock_34 : decode cX5_lock 34 = .ok (.getfield 13, 3) := by decide +kernel
theorem dX5_lock_37 : decode cX5_lock 37 = .ok (.iload_n 1, 1) := by decide +kernel
theorem dX5_lock_38 : decode cX5_lock 38 = .ok (.iload_n 2, 1) := by decide +kernel
theorem dX5_lock_39 : decode cX5_lock 39 = .ok (.iastore, 1) := by decide +kernel
theorem dX5_lock_40 : decode cX5_lock 40 = .ok (.aload_n 0, 1) := by decide +kernel
theorem dX5_lock_41 : decode cX5_lock 41 = .ok (.getfield 16, 3) := by decide +kernel
theorem dX5_lock_44 : decode cX5_lock 44 = .ok (.iload_n 1, 1) := by decide +kernel
theorem dX5_lock_45 : decode cX5_lock 45 = .ok (.lload_n 3, 1) := by decide +kernel
theorem dX5_lock_46 : decode cX5_lock 46 = .ok (.lastore, 1) := by decide +kernel
theorem dX5_lock_47 : decode cX5_lock 47 = .ok (.iconst 1, 1) := by decide +kernel
theorem dX5_lock_48 : decode cX5_lock 48 = .ok (.ireturn, 1) := by decide +kernel
theorem dX5_batch_0 : decode cX5_batch 0 = .ok (.aload_n 0, 1) := by decide +kernel
theorem dX5_batch_1 : decode cX5_batch 1 = .ok (.iconst 0, 1) := by decide +kernel
theorem dX5_batch_2 : decode cX5_batch 2 = .ok (.putfield 46, 3) := by decide +kernel
theorem dX5_batch_5 : decode cX5_batch 5 = .ok (.aload_n 0, 1) := by decide +kernel
theorem dX5_batch_6 : decode cX5_batch 6 = .ok (.iload_n 1, 1) := by decide +kernel
theorem dX5_batch_7 : decode cX5_batch 7 = .ok (.invokevirtual 88, 3) := by decide +kernel
theorem dX5_batch_10 : decode cX5_batch 10 = .ok (.ifCond .eq 25, 3) := by decide +kernel
theorem dX5_batch_13 : decode cX5_batch 13 = .ok (.aload_n 0, 1) := by decide +kernel
theorem dX5_batch_14 : decode cX5_batch 14 = .ok (.iload_n 2, 1) := by decide +kernel
theorem dX5_batch_15 : decode cX5_batch 15 = .ok (.invokevirtual 88, 3) := by decide +kernel
theorem dX5_batch_18 : decode cX5_batch 18 = .ok (.ifCond .eq 17, 3) := by decide +kernel
theorem dX5_batch_21 : decode cX5_batch 21 = .ok (.iload_n 1, 1) := by decide +kernel
theorem dX5_batch_22 : decode cX5_batch 22 = .ok (.iload_n 2, 1) := by decide +kernel
theorem dX5_batch_23 : decode cX5_batch 23 = .ok (.if_icmp .gt 12, 3) := by decide +kernel
theorem dX5_batch_26 : decode cX5_batch 26 = .ok (.aload_n 0, 1) := by decide +kernel
theorem dX5_batch_27 : decode cX5_batch 27 = .ok (.getfield 94, 3) := by decide +kernel
theorem dX5_batch_30 : decode cX5_batch 30 = .ok (.bipush 30, 2) := by decide +kernel
theorem dX5_batch_32 : decode cX5_batch 32 = .ok (.if_icmp .ne 5, 3) := by decide +kernel
theorem dX5_batch_35 : decode cX5_batch 35 = .ok (.iconst 0, 1) := by decide +kernel
theorem dX5_batch_36 : decode cX5_batch 36 = .ok (.ireturn, 1) := by decide +kernel
theorem dX5_batch_37 : decode cX5_batch 37 = .ok (.iload_n 1, 1) := by decide +kernel
theorem dX5_batch_38 : decode cX5_batch 38 = .ok (.istore_n 3, 1) := by decide +kernel
theorem dX5_batch_39 : decode cX5_batch 39 = .ok (.iload_n 3, 1) := by decide +kernel
theorem dX5_batch_40 : decode cX5_batch 40 = .ok (.iload_n 2, 1) := by decide +kernel
theorem dX5_batch_41 : decode cX5_batch 41 = .ok (.if_icmp .gt 20, 3) := by decide +kernel
theorem dX5_batch_44 : decode cX5_batch 44 = .ok (.aload_n 0, 1) := by decide +kernel
theorem dX5_batch_45 : decode cX5_batch 45 = .ok (.getfield 39, 3) := by decide +kernel
theorem dX5_batch_48 : decode cX5_batch 48 = .ok (.iload_n 3, 1) := by decide +kernel
theorem dX5_batch_49 : decode cX5_batch 49 = .ok (.iaload, 1) := by decide +kernel
theorem dX5_batch_50 : decode cX5_batch 50 = .ok (.ifCond .eq 5, 3) := by decide +kernel
theorem dX5_batch_53 : decode cX5_batch 53 = .ok (.iconst 0, 1) := by decide +kernel
theorem dX5_batch_54 : decode cX5_batch 54 = .ok (.ireturn, 1) := by decide +kernel
theorem dX5_batch_55 : decode cX5_batch 55 = .ok (.iinc 3 1, 3) := by decide +kernel
theorem dX5_batch_58 : decode cX5_batch 58 = .ok (.goto (-19), 3) := by decide +kernel
theorem dX5_batch_61 : decode cX5_batch 61 = .ok (.aload_n 0, 1) := by decide +kernel
theorem dX5_batch_62 : decode cX5_batch 62 = .ok (.dup, 1) := by decide +kernel
theorem dX5_batch_63 : decode cX5_batch 63 = .ok (.getfield 94, 3) := by decide +kernel
theorem dX5_batch_66 : decode cX5_batch 66 = .ok (.iconst 1, 1) := by decide +kernel
theorem dX5_batch_67 : decode cX5_batch 67 = .ok (.iadd, 1) := by decide +kernel
theorem dX5_batch_68 : decode cX5_batch 68 = .ok (.putfield 94, 3) := by decide +kernel
theorem dX5_batch_71 : decode cX5_batch 71 = .ok (.iload_n 1, 1) := by decide +kernel
theorem dX5_batch_72 : decode cX5_batch 72 = .ok (.istore_n 3, 1) := by decide +kernel
theorem dX5_batch_73 : decode cX5_batch 73 = .ok (.iload_n 3, 1) := by decide +kernel
theorem dX5_batch_74 : decode cX5_batch 74 = .ok (.iload_n 2, 1) := by decide +kernel
theorem dX5_batch_75 : decode cX5_batch 75 = .ok (.if_icmp .gt 19, 3) := by decide +kernel
theorem dX5_batch_78 : decode cX5_batch 78 = .ok (.aload_n 0, 1) := by decide +kernel
theorem dX5_batch_79 : decode cX5_batch 79 = .ok (.getfield 39, 3) := by decide +kernel
theorem dX5_batch_82 : decode cX5_batch 82 = .ok (.iload_n 3, 1) := by decide +kernel
theorem dX5_batch_83 : decode cX5_batch 83 = .ok (.aload_n 0, 1) := by decide +kernel
theorem dX5_batch_84 : decode cX5_batch 84 = .ok (.getfield 94, 3) := by decide +kernel
theorem dX5_batch_87 : decode cX5_batch 87 = .ok (.iastore, 1) := by decide +kernel
theorem dX5_batch_88 : decode cX5_batch 88 = .ok (.iinc 3 1, 3) := by decide +kernel
theorem dX5_batch_91 : decode cX5_batch 91 = .ok (.goto (-18), 3) := by decide +kernel
theorem dX5_batch_94 : decode cX5_batch 94 = .ok (.aload_n 0, 1) := by decide +kernel
theorem dX5_batch_95 : decode cX5_batch 95 = .ok (.getfield 94, 3) := by decide +kernel
theorem dX5_batch_98 : decode cX5_batch 98 = .ok (.ireturn, 1) := by decide +kernel
theorem dX5_drop_0 : decode cX5_drop 0 = .ok (.aload_n 0, 1) := by decide +kernel
theorem dX5_drop_1 : decode cX5_drop 1 = .ok (.iconst 0, 1) := by decide +kernel
theorem dX5_drop_2 : decode cX5_drop 2 = .ok (.putfield 46, 3) := by decide +kernel
theorem dX5_drop_5 : decode cX5_drop 5 = .ok (.iload_n 1, 1) := by decide +kernel
theorem dX5_drop_6 : decode cX5_drop 6 = .ok (.iconst 1, 1) := by decide +kernel
theorem dX5_drop_7 : decode cX5_drop 7 = .ok (.if_icmp .lt 11, 3) := by decide +kernel
theorem dX5_drop_10 : decode cX5_drop 10 = .ok (.iload_n 1, 1) := by decide +kernel
theorem dX5_drop_11 : decode cX5_drop 11 = .ok (.aload_n 0, 1) := by decide +kernel
theorem dX5_drop_12 : decode cX5_drop 12 = .ok (.getfield 94, 3) := by decide +kernel
theorem dX5_drop_15 : decode cX5_drop 15 = .ok (.if_icmp .le 5, 3) := by decide +kernel
theorem dX5_drop_18 : decode cX5_drop 18 = .ok (.iconst 0, 1) := by decide +kernel
theorem dX5_drop_19 : decode cX5_drop 19 = .ok (.ireturn, 1) := by decide +kernel
theorem dX5_drop_20 : decode cX5_drop 20 = .ok (.iconst 0, 1) := by decide +kernel
theorem dX5_drop_21 : decode cX5_drop 21 = .ok (.istore_n 2, 1) := by decide +kernel
theorem dX5_drop_22 : decode cX5_drop 22 = .ok (.iconst 0, 1) := by decide +kernel
theorem dX5_drop_23 : decode cX5_drop 23 = .ok (.istore_n 3, 1) := by decide +kernel
theorem dX5_drop_24 : decode cX5_drop 24 = .ok (.iconst 1, 1) := by decide +kernel
theorem dX5_drop_25 : decode cX5_drop 25 = .ok (.istore 4, 2) := by decide +kernel
theorem dX5_drop_27 : decode cX5_drop 27 = .ok (.iload 4, 2) := by decide +kernel
theorem dX5_drop_29 : decode cX5_drop 29 = .ok (.aload_n 0, 1) := by decide +kernel
theorem dX5_drop_30 : decode cX5_drop 30 = .ok (.getfield 53, 3) := by decide +kernel
theorem dX5_drop_33 : decode cX5_drop 33 = .ok (.if_icmp .gt 53, 3) := by decide +kernel
theorem dX5_drop_36 : decode cX5_drop 36 = .ok (.aload_n 0, 1) := by decide +kernel
theorem dX5_drop_37 : decode cX5_drop 37 = .ok (.getfield 39, 3) := by decide +kernel
theorem dX5_drop_40 : decode cX5_drop 40 = .ok (.iload 4, 2) := by decide +kernel
theorem dX5_drop_42 : decode cX5_drop 42 = .ok (.iaload, 1) := by decide +kernel
theorem dX5_drop_43 : decode cX5_drop 43 = .ok (.iload_n 1, 1) := by decide +kernel
theorem dX5_drop_44 : decode cX5_drop 44 = .ok (.if_icmp .ne 36, 3) := by decide +kernel
theorem dX5_drop_47 : decode cX5_drop 47 = .ok (.aload_n 0, 1) := by decide +kernel
theorem dX5_drop_48 : decode cX5_drop 48 = .ok (.getfield 35, 3) := by decide +kernel
theorem dX5_drop_51 : decode cX5_drop 51 = .ok (.iload 4, 2) := by decide +kernel
theorem dX5_drop_53 : decode cX5_drop 53 = .ok (.baload, 1) := by decide +kernel
theorem dX5_drop_54 : decode cX5_drop 54 = .ok (.ifCond .ne 26, 3) := by decide +kernel
theorem dX5_drop_57 : decode cX5_drop 57 = .ok (.iinc 2 1, 3) := by decide +kernel
theorem dX5_drop_60 : decode cX5_drop 60 = .ok (.iload_n 3, 1) := by decide +kernel
theorem dX5_drop_61 : decode cX5_drop 61 = .ok (.ifCond .ne 13, 3) := by decide +kernel
theorem dX5_drop_64 : decode cX5_drop 64 = .ok (.aload_n 0, 1) := by decide +kernel
theorem dX5_drop_65 : decode cX5_drop 65 = .ok (.iload 4, 2) := by decide +kernel
theorem dX5_drop_67 : decode cX5_drop 67 = .ok (.iload_n 1, 1) := by decide +kernel
theorem dX5_drop_68 : decode cX5_drop 68 = .ok (.invokevirtual 91, 3) := by decide +kernel
theorem dX5_drop_71 : decode cX5_drop 71 = .ok (.ifCond .eq 7, 3) := by decide +kernel
theorem dX5_drop_74 : decode cX5_drop 74 = .ok (.iconst 1, 1) := by decide +kernel
theorem dX5_drop_75 : decode cX5_drop 75 = .ok (.goto 4, 3) := by decide +kernel
theorem dX5_drop_78 : decode cX5_drop 78 = .ok (.iconst 0, 1) := by decide +kernel
theorem dX5_drop_79 : decode cX5_drop 79 = .ok (.istore_n 3, 1) := by decide +kernel
theorem dX5_drop_80 : decode cX5_drop 80 = .ok (.iinc 4 1, 3) := by decide +kernel
theorem dX5_drop_83 : decode cX5_drop 83 = .ok (.goto (-56), 3) := by decide +kernel
theorem dX5_drop_86 : decode cX5_drop 86 = .ok (.iload_n 3, 1) := by decide +kernel
theorem dX5_drop_87 : decode cX5_drop 87 = .ok (.ifCond .eq 5, 3) := by decide +kernel
theorem dX5_drop_90 : decode cX5_drop 90 = .ok (.iconst 0, 1) := by decide +kernel
theorem dX5_drop_91 : decode cX5_drop 91 = .ok (.ireturn, 1) := by decide +kernel
theorem dX5_drop_92 : decode cX5_drop 92 = .ok (.iconst 1, 1) := by decide +kernel
theorem dX5_drop_93 : decode cX5_drop 93 = .ok (.istore 4, 2) := by decide +kernel
theorem dX5_drop_95 : decode cX5_drop 95 = .ok (.iload 4, 2) := by decide +kernel
theorem dX5_drop_97 : decode cX5_drop 97 = .ok (.aload_n 0, 1) := by decide +kernel
theorem dX5_drop_98 : decode cX5_drop 98 = .ok (.getfield 53, 3) := by decide +kernel
theorem dX5_drop_101 : decode cX5_drop 101 = .ok (.if_icmp .gt 42, 3) := by decide +kernel
theorem dX5_drop_104 : decode cX5_drop 104 = .ok (.aload_n 0, 1) := by decide +kernel
theorem dX5_drop_105 : decode cX5_drop 105 = .ok (.getfield 35, 3) := by decide +kernel
theorem dX5_drop_108 : decode cX5_drop 108 = .ok (.iload 4, 2) := by decide +kernel
theorem dX5_drop_110 : decode cX5_drop 110 = .ok (.aload_n 0, 1) := by decide +kernel
theorem dX5_drop_111 : decode cX5_drop 111 = .ok (.getfield 35, 3) := by decide +kernel
theorem dX5_drop_114 : decode cX5_drop 114 = .ok (.iload 4, 2) := by decide +kernel
theorem dX5_drop_116 : decode cX5_drop 116 = .ok (.baload, 1) := by decide +kernel
theorem dX5_drop_117 : decode cX5_drop 117 = .ok (.ifCond .ne 14, 3) := by decide +kernel
theorem dX5_drop_120 : decode cX5_drop 120 = .ok (.aload_n 0, 1) := by decide +kernel
theorem dX5_drop_121 : decode cX5_drop 121 = .ok (.getfield 39, 3) := by decide +kernel
theorem dX5_drop_124 : decode cX5_drop 124 = .ok (.iload 4, 2) := by decide +kernel
theorem dX5_drop_126 : decode cX5_drop 126 = .ok (.iaload, 1) := by decide +kernel
theorem dX5_drop_127 : decode cX5_drop 127 = .ok (.iload_n 1, 1) := by decide +kernel
theorem dX5_drop_128 : decode cX5_drop 128 = .ok (.if_icmp .ne 7, 3) := by decide +kernel
theorem dX5_drop_131 : decode cX5_drop 131 = .ok (.iconst 1, 1) := by decide +kernel
theorem dX5_drop_132 : decode cX5_drop 132 = .ok (.goto 4, 3) := by decide +kernel
theorem dX5_drop_135 : decode cX5_drop 135 = .ok (.iconst 0, 1) := by decide +kernel
theorem dX5_drop_136 : decode cX5_drop 136 = .ok (.bastore, 1) := by decide +kernel
theorem dX5_drop_137 : decode cX5_drop 137 = .ok (.iinc 4 1, 3) := by decide +kernel
theorem dX5_drop_140 : decode cX5_drop 140 = .ok (.goto (-45), 3) := by decide +kernel
theorem dX5_drop_143 : decode cX5_drop 143 = .ok (.iload_n 2, 1) := by decide +kernel
theorem dX5_drop_144 : decode cX5_drop 144 = .ok (.ireturn, 1) := by decide +kernel
theorem dX5_conflict_0 : decode cX5_conflict 0 = .ok (.aload_n 0, 1) := by decide +kernel
theorem dX5_conflict_1 : decode cX5_conflict 1 = .ok (.iconst 0, 1) := by decide +kernel
theorem dX5_conflict_2 : decode cX5_conflict 2 = .ok (.putfield 46, 3) := by decide +kernel
theorem dX5_conflict_5 : decode cX5_conflict 5 = .ok (.iconst 0, 1) := by decide +kernel
theorem dX5_conflict_6 : decode cX5_conflict 6 = .ok (.istore_n 3, 1) := by decide +kernel
theorem dX5_conflict_7 : decode cX5_conflict 7 = .ok (.iconst 1, 1) := by decide +kernel
theorem dX5_conflict_8 : decode cX5_conflict 8 = .ok (.istore 4, 2) := by decide +kernel
theorem dX5_conflict_10 : decode cX5_conflict 10 = .ok (.iload 4, 2) := by decide +kernel
theorem dX5_conflict_12 : decode cX5_conflict 12 = .ok (.aload_n 0, 1) := by decide +kernel
theorem dX5_conflict_13 : decode cX5_conflict 13 = .ok (.getfield 53, 3) := by decide +kernel
theorem dX5_conflict_16 : decode cX5_conflict 16 = .ok (.if_icmp .gt 141, 3) := by decide +kernel
theorem dX5_conflict_19 : decode cX5_conflict 19 = .ok (.iload_n 1, 1) := by decide +kernel
theorem dX5_conflict_20 : decode cX5_conflict 20 = .ok (.ifCond .lt 137, 3) := by decide +kernel
theorem dX5_conflict_23 : decode cX5_conflict 23 = .ok (.iload 4, 2) := by decide +kernel
theorem dX5_conflict_25 : decode cX5_conflict 25 = .ok (.iconst 1, 1) := by decide +kernel
theorem dX5_conflict_26 : decode cX5_conflict 26 = .ok (.iadd, 1) := by decide +kernel
theorem dX5_conflict_27 : decode cX5_conflict 27 = .ok (.istore 5, 2) := by decide +kernel
theorem dX5_conflict_29 : decode cX5_conflict 29 = .ok (.iload 5, 2) := by decide +kernel
theorem dX5_conflict_31 : decode cX5_conflict 31 = .ok (.aload_n 0, 1) := by decide +kernel
theorem dX5_conflict_32 : decode cX5_conflict 32 = .ok (.getfield 53, 3) := by decide +kernel
theorem dX5_conflict_35 : decode cX5_conflict 35 = .ok (.if_icmp .gt 116, 3) := by decide +kernel
theorem dX5_conflict_38 : decode cX5_conflict 38 = .ok (.aload_n 0, 1) := by decide +kernel
theorem dX5_conflict_39 : decode cX5_conflict 39 = .ok (.getfield 35, 3) := by decide +kernel
theorem dX5_conflict_42 : decode cX5_conflict 42 = .ok (.iload 4, 2) := by decide +kernel
theorem dX5_conflict_44 : decode cX5_conflict 44 = .ok (.baload, 1) := by decide +kernel
theorem dX5_conflict_45 : decode cX5_conflict 45 = .ok (.ifCond .ne 100, 3) := by decide +kernel
theorem dX5_conflict_48 : decode cX5_conflict 48 = .ok (.aload_n 0, 1) := by decide +kernel
theorem dX5_conflict_49 : decode cX5_conflict 49 = .ok (.getfield 35, 3) := by decide +kernel
theorem dX5_conflict_52 : decode cX5_conflict 52 = .ok (.iload 5, 2) := by decide +kernel
theorem dX5_conflict_54 : decode cX5_conflict 54 = .ok (.baload, 1) := by decide +kernel
theorem dX5_conflict_55 : decode cX5_conflict 55 = .ok (.ifCond .ne 90, 3) := by decide +kernel
theorem dX5_conflict_58 : decode cX5_conflict 58 = .ok (.aload_n 0, 1) := by decide +kernel
theorem dX5_conflict_59 : decode cX5_conflict 59 = .ok (.iload 4, 2) := by decide +kernel
theorem dX5_conflict_61 : decode cX5_conflict 61 = .ok (.aload_n 0, 1) := by decide +kernel
theorem dX5_conflict_62 : decode cX5_conflict 62 = .ok (.getfield 20, 3) := by decide +kernel
theorem dX5_conflict_65 : decode cX5_conflict 65 = .ok (.iload 5, 2) := by decide +kernel
theorem dX5_conflict_67 : decode cX5_conflict 67 = .ok (.iaload, 1) := by decide +kernel
theorem dX5_conflict_68 : decode cX5_conflict 68 = .ok (.aload_n 0, 1) := by decide +kernel
theorem dX5_conflict_69 : decode cX5_conflict 69 = .ok (.getfield 23, 3) := by decide +kernel
theorem dX5_conflict_72 : decode cX5_conflict 72 = .ok (.iload 5, 2) := by decide +kernel
theorem dX5_conflict_74 : decode cX5_conflict 74 = .ok (.iaload, 1) := by decide +kernel
theorem dX5_conflict_75 : decode cX5_conflict 75 = .ok (.invokevirtual 75, 3) := by decide +kernel
theorem dX5_conflict_78 : decode cX5_conflict 78 = .ok (.ifCond .eq 67, 3) := by decide +kernel
theorem dX5_conflict_81 : decode cX5_conflict 81 = .ok (.aload_n 0, 1) := by decide +kernel
theorem dX5_conflict_82 : decode cX5_conflict 82 = .ok (.getfield 32, 3) := by decide +kernel
theorem dX5_conflict_85 : decode cX5_conflict 85 = .ok (.iload 4, 2) := by decide +kernel
theorem dX5_conflict_87 : decode cX5_conflict 87 = .ok (.laload, 1) := by decide +kernel
theorem dX5_conflict_88 : decode cX5_conflict 88 = .ok (.aload_n 0, 1) := by decide +kernel
theorem dX5_conflict_89 : decode cX5_conflict 89 = .ok (.getfield 32, 3) := by decide +kernel
theorem dX5_conflict_92 : decode cX5_conflict 92 = .ok (.iload 5, 2) := by decide +kernel
theorem dX5_conflict_94 : decode cX5_conflict 94 = .ok (.laload, 1) := by decide +kernel
theorem dX5_conflict_95 : decode cX5_conflict 95 = .ok (.lcmp, 1) := by decide +kernel
theorem dX5_conflict_96 : decode cX5_conflict 96 = .ok (.ifCond .ne 49, 3) := by decide +kernel
theorem dX5_conflict_99 : decode cX5_conflict 99 = .ok (.aload_n 0, 1) := by decide +kernel
theorem dX5_conflict_100 : decode cX5_conflict 100 = .ok (.getfield 26, 3) := by decide +kernel
theorem dX5_conflict_103 : decode cX5_conflict 103 = .ok (.iload 4, 2) := by decide +kernel
theorem dX5_conflict_105 : decode cX5_conflict 105 = .ok (.iaload, 1) := by decide +kernel
theorem dX5_conflict_106 : decode cX5_conflict 106 = .ok (.aload_n 0, 1) := by decide +kernel
theorem dX5_conflict_107 : decode cX5_conflict 107 = .ok (.getfield 26, 3) := by decide +kernel
theorem dX5_conflict_110 : decode cX5_conflict 110 = .ok (.iload 5, 2) := by decide +kernel
theorem dX5_conflict_112 : decode cX5_conflict 112 = .ok (.iaload, 1) := by decide +kernel
theorem dX5_conflict_113 : decode cX5_conflict 113 = .ok (.if_icmp .eq 32, 3) := by decide +kernel
theorem dX5_conflict_116 : decode cX5_conflict 116 = .ok (.iload_n 3, 1) := by decide +kernel
theorem dX5_conflict_117 : decode cX5_conflict 117 = .ok (.iload_n 1, 1) := by decide +kernel
theorem dX5_conflict_118 : decode cX5_conflict 118 = .ok (.if_icmp .ne 24, 3) := by decide +kernel
theorem dX5_conflict_121 : decode cX5_conflict 121 = .ok (.iload_n 2, 1) := by decide +kernel
theorem dX5_conflict_122 : decode cX5_conflict 122 = .ok (.ifCond .ne 8, 3) := by decide +kernel
theorem dX5_conflict_125 : decode cX5_conflict 125 = .ok (.iload 4, 2) := by decide +kernel
theorem dX5_conflict_127 : decode cX5_conflict 127 = .ok (.goto 14, 3) := by decide +kernel
theorem dX5_conflict_130 : decode cX5_conflict 130 = .ok (.iload_n 2, 1) := by decide +kernel
theorem dX5_conflict_131 : decode cX5_conflict 131 = .ok (.iconst 1, 1) := by decide +kernel
theorem dX5_conflict_132 : decode cX5_conflict 132 = .ok (.if_icmp .ne 8, 3) := by decide +kernel
theorem dX5_conflict_135 : decode cX5_conflict 135 = .ok (.iload 5, 2) := by decide +kernel
theorem dX5_conflict_137 : decode cX5_conflict 137 = .ok (.goto 4, 3) := by decide +kernel
theorem dX5_conflict_140 : decode cX5_conflict 140 = .ok (.iconst (-1), 1) := by decide +kernel
theorem dX5_conflict_141 : decode cX5_conflict 141 = .ok (.ireturn, 1) := by decide +kernel
theorem dX5_conflict_142 : decode cX5_conflict 142 = .ok (.iinc 3 1, 3) := by decide +kernel
theorem dX5_conflict_145 : decode cX5_conflict 145 = .ok (.iinc 5 1, 3) := by decide +kernel
theorem dX5_conflict_148 : decode cX5_conflict 148 = .ok (.goto (-119), 3) := by decide +kernel
theorem dX5_conflict_151 : decode cX5_conflict 151 = .ok (.iinc 4 1, 3) := by decide +kernel
theorem dX5_conflict_154 : decode cX5_conflict 154 = .ok (.goto (-144), 3) := by decide +kernel
theorem dX5_conflict_157 : decode cX5_conflict 157 = .ok (.iconst (-1), 1) := by decide +kernel
theorem dX5_conflict_158 : decode cX5_conflict 158 = .ok (.ireturn, 1) := by decide +kernel
theorem dX5_history_0 : decode cX5_history 0 = .ok (.aload_n 0, 1) := by decide +kernel
theorem dX5_history_1 : decode cX5_history 1 = .ok (.iconst 0, 1) := by decide +kernel
theorem dX5_history_2 : decode cX5_history 2 = .ok (.putfield 46, 3) := by decide +kernel
theorem dX5_history_5 : decode cX5_history 5 = .ok (.iconst 1, 1) := by decide +kernel
theorem dX5_history_6 : decode cX5_history 6 = .ok (.istore 4, 2) := by decide +kernel
theorem dX5_history_8 : decode cX5_history 8 = .ok (.iload 4, 2) := by decide +kernel
theorem dX5_history_10 : decode cX5_history 10 = .ok (.aload_n 0, 1) := by decide +kernel
theorem dX5_history_11 : decode cX5_history 11 = .ok (.getfield 53, 3) := by decide +kernel
theorem dX5_history_14 : decode cX5_history 14 = .ok (.if_icmp .gt 95, 3) := by decide +kernel
theorem dX5_history_17 : decode cX5_history 17 = .ok (.aload_n 0, 1) := by decide +kernel
theorem dX5_history_18 : decode cX5_history 18 = .ok (.iload_n 1, 1) := by decide +kernel
theorem dX5_history_19 : decode cX5_history 19 = .ok (.iload_n 2, 1) := by decide +kernel
theorem dX5_history_20 : decode cX5_history 20 = .ok (.invokevirtual 66, 3) := by decide +kernel
theorem dX5_history_23 : decode cX5_history 23 = .ok (.ifCond .eq 86, 3) := by decide +kernel
theorem dX5_history_26 : decode cX5_history 26 = .ok (.iload_n 3, 1) := by decide +kernel
theorem dX5_history_27 : decode cX5_history 27 = .ok (.ifCond .lt 82, 3) := by decide +kernel
theorem dX5_history_30 : decode cX5_history 30 = .ok (.aload_n 0, 1) := by decide +kernel
theorem dX5_history_31 : decode cX5_history 31 = .ok (.iload 4, 2) := by decide +kernel
theorem dX5_history_33 : decode cX5_history 33 = .ok (.iload_n 1, 1) := by decide +kernel
theorem dX5_history_34 : decode cX5_history 34 = .ok (.iload_n 2, 1) := by decide +kernel
theorem dX5_history_35 : decode cX5_history 35 = .ok (.invokevirtual 75, 3) := by decide +kernel
theorem dX5_history_38 : decode cX5_history 38 = .ok (.ifCond .eq 65, 3) := by decide +kernel
theorem dX5_history_41 : decode cX5_history 41 = .ok (.iconst 0, 1) := by decide +kernel
theorem dX5_history_42 : decode cX5_history 42 = .ok (.istore 5, 2) := by decide +kernel
theorem dX5_history_44 : decode cX5_history 44 = .ok (.iconst 1, 1) := by decide +kernel
theorem dX5_history_45 : decode cX5_history 45 = .ok (.istore 6, 2) := by decide +kernel
theorem dX5_history_47 : decode cX5_history 47 = .ok (.iload 6, 2) := by decide +kernel
theorem dX5_history_49 : decode cX5_history 49 = .ok (.aload_n 0, 1) := by decide +kernel
theorem dX5_history_50 : decode cX5_history 50 = .ok (.getfield 53, 3) := by decide +kernel
theorem dX5_history_53 : decode cX5_history 53 = .ok (.if_icmp .gt 41, 3) := by decide +kernel
theorem dX5_history_56 : decode cX5_history 56 = .ok (.iload 5, 2) := by decide +kernel
theorem dX5_history_58 : decode cX5_history 58 = .ok (.aload_n 0, 1) := by decide +kernel
theorem dX5_history_59 : decode cX5_history 59 = .ok (.iload 6, 2) := by decide +kernel
theorem dX5_history_61 : decode cX5_history 61 = .ok (.iload_n 1, 1) := by decide +kernel
theorem dX5_history_62 : decode cX5_history 62 = .ok (.iload_n 2, 1) := by decide +kernel
theorem dX5_history_63 : decode cX5_history 63 = .ok (.invokevirtual 75, 3) := by decide +kernel
theorem dX5_history_66 : decode cX5_history 66 = .ok (.ifCond .eq 18, 3) := by decide +kernel
theorem dX5_history_69 : decode cX5_history 69 = .ok (.aload_n 0, 1) := by decide +kernel
theorem dX5_history_70 : decode cX5_history 70 = .ok (.iload 6, 2) := by decide +kernel
theorem dX5_history_72 : decode cX5_history 72 = .ok (.iload 4, 2) := by decide +kernel
theorem dX5_history_74 : decode cX5_history 74 = .ok (.invokevirtual 79, 3) := by decide +kernel
theorem dX5_history_77 : decode cX5_history 77 = .ok (.ifCond .eq 7, 3) := by decide +kernel
theorem dX5_history_80 : decode cX5_history 80 = .ok (.iconst 1, 1) := by decide +kernel
theorem dX5_history_81 : decode cX5_history 81 = .ok (.goto 4, 3) := by decide +kernel
theorem dX5_history_84 : decode cX5_history 84 = .ok (.iconst 0, 1) := by decide +kernel
theorem dX5_history_85 : decode cX5_history 85 = .ok (.iadd, 1) := by decide +kernel
theorem dX5_history_86 : decode cX5_history 86 = .ok (.istore 5, 2) := by decide +kernel
theorem dX5_history_88 : decode cX5_history 88 = .ok (.iinc 6 1, 3) := by decide +kernel
theorem dX5_history_91 : decode cX5_history 91 = .ok (.goto (-44), 3) := by decide +kernel
theorem dX5_history_94 : decode cX5_history 94 = .ok (.iload 5, 2) := by decide +kernel
theorem dX5_history_96 : decode cX5_history 96 = .ok (.iload_n 3, 1) := by decide +kernel
theorem dX5_history_97 : decode cX5_history 97 = .ok (.if_icmp .ne 6, 3) := by decide +kernel
theorem dX5_history_100 : decode cX5_history 100 = .ok (.iload 4, 2) := by decide +kernel
theorem dX5_history_102 : decode cX5_history 102 = .ok (.ireturn, 1) := by decide +kernel
theorem dX5_history_103 : decode cX5_history 103 = .ok (.iinc 4 1, 3) := by decide +kernel
theorem dX5_history_106 : decode cX5_history 106 = .ok (.goto (-98), 3) := by decide +kernel
theorem dX5_history_109 : decode cX5_history 109 = .ok (.iconst 0, 1) := by decide +kernel
theorem dX5_history_110 : decode cX5_history 110 = .ok (.ireturn, 1) := by decide +kernel
end
section
theorem dL_law_0 : decode code 0 = .ok (.new 7, 3) := by decide +kernel
theorem dL_law_3 : decode code 3 = .ok (.dup, 1) := by decide +kernel
theorem dL_law_4 : decode code 4 = .ok (.invokespecial 9, 3) := by decide +kernel
theorem dL_law_7 : decode code 7 = .ok (.astore_n 1, 1) := by decide +kernel
theorem dL_law_8 : decode code 8 = .ok (.new 10, 3) := by decide +kernel
theorem dL_law_11 : decode code 11 = .ok (.dup, 1) := by decide +kernel
theorem dL_law_12 : decode code 12 = .ok (.invokespecial 12, 3) := by decide +kernel
theorem dL_law_15 : decode code 15 = .ok (.astore_n 2, 1) := by decide +kernel
theorem dL_law_16 : decode code 16 = .ok (.iconst 0, 1) := by decide +kernel
theorem dL_law_17 : decode code 17 = .ok (.istore_n 3, 1) := by decide +kernel
theorem dL_law_18 : decode code 18 = .ok (.iload_n 3, 1) := by decide +kernel
theorem dL_law_19 : decode code 19 = .ok (.aload_n 0, 1) := by decide +kernel
theorem dL_law_20 : decode code 20 = .ok (.arraylength, 1) := by decide +kernel
theorem dL_law_21 : decode code 21 = .ok (.bipush 9, 2) := by decide +kernel
theorem dL_law_23 : decode code 23 = .ok (.isub, 1) := by decide +kernel
theorem dL_law_24 : decode code 24 = .ok (.if_icmp .gt 663, 3) := by decide +kernel
theorem dL_law_27 : decode code 27 = .ok (.aload_n 0, 1) := by decide +kernel
theorem dL_law_28 : decode code 28 = .ok (.iload_n 3, 1) := by decide +kernel
theorem dL_law_29 : decode code 29 = .ok (.iaload, 1) := by decide +kernel
theorem dL_law_30 : decode code 30 = .ok (.bipush 15, 2) := by decide +kernel
theorem dL_law_32 : decode code 32 = .ok (.iand, 1) := by decide +kernel
theorem dL_law_33 : decode code 33 = .ok (.tableswitch 648 0 10 #[59, 82, 241, 314, 387, 410, 443, 516, 549, 572, 605], 59) := by decide +kernel
theorem dL_law_92 : decode code 92 = .ok (.aload_n 1, 1) := by decide +kernel
theorem dL_law_93 : decode code 93 = .ok (.aload_n 0, 1) := by decide +kernel
theorem dL_law_94 : decode code 94 = .ok (.iload_n 3, 1) := by decide +kernel
theorem dL_law_95 : decode code 95 = .ok (.iconst 1, 1) := by decide +kernel
theorem dL_law_96 : decode code 96 = .ok (.iadd, 1) := by decide +kernel
theorem dL_law_97 : decode code 97 = .ok (.iaload, 1) := by decide +kernel
theorem dL_law_98 : decode code 98 = .ok (.invokevirtual 13, 3) := by decide +kernel
theorem dL_law_101 : decode code 101 = .ok (.aload_n 2, 1) := by decide +kernel
theorem dL_law_102 : decode code 102 = .ok (.aload_n 0, 1) := by decide +kernel
theorem dL_law_103 : decode code 103 = .ok (.iload_n 3, 1) := by decide +kernel
theorem dL_law_104 : decode code 104 = .ok (.iconst 1, 1) := by decide +kernel
theorem dL_law_105 : decode code 105 = .ok (.iadd, 1) := by decide +kernel
theorem dL_law_106 : decode code 106 = .ok (.iaload, 1) := by decide +kernel
theorem dL_law_107 : decode code 107 = .ok (.invokevirtual 17, 3) := by decide +kernel
theorem dL_law_110 : decode code 110 = .ok (.if_icmp .eq 571, 3) := by decide +kernel
theorem dL_law_113 : decode code 113 = .ok (.iconst 0, 1) := by decide +kernel
theorem dL_law_114 : decode code 114 = .ok (.ireturn, 1) := by decide +kernel
theorem dL_law_115 : decode code 115 = .ok (.aload_n 1, 1) := by decide +kernel
theorem dL_law_116 : decode code 116 = .ok (.aload_n 0, 1) := by decide +kernel
theorem dL_law_117 : decode code 117 = .ok (.iload_n 3, 1) := by decide +kernel
theorem dL_law_118 : decode code 118 = .ok (.iconst 1, 1) := by decide +kernel
theorem dL_law_119 : decode code 119 = .ok (.iadd, 1) := by decide +kernel
theorem dL_law_120 : decode code 120 = .ok (.iaload, 1) := by decide +kernel
theorem dL_law_121 : decode code 121 = .ok (.aload_n 0, 1) := by decide +kernel
theorem dL_law_122 : decode code 122 = .ok (.iload_n 3, 1) := by decide +kernel
theorem dL_law_123 : decode code 123 = .ok (.iconst 2, 1) := by decide +kernel
theorem dL_law_124 : decode code 124 = .ok (.iadd, 1) := by decide +kernel
theorem dL_law_125 : decode code 125 = .ok (.iaload, 1) := by decide +kernel
theorem dL_law_126 : decode code 126 = .ok (.aload_n 0, 1) := by decide +kernel
theorem dL_law_127 : decode code 127 = .ok (.iload_n 3, 1) := by decide +kernel
theorem dL_law_128 : decode code 128 = .ok (.iconst 3, 1) := by decide +kernel
theorem dL_law_129 : decode code 129 = .ok (.iadd, 1) := by decide +kernel
theorem dL_law_130 : decode code 130 = .ok (.iaload, 1) := by decide +kernel
theorem dL_law_131 : decode code 131 = .ok (.i2l, 1) := by decide +kernel
theorem dL_law_132 : decode code 132 = .ok (.bipush 32, 2) := by decide +kernel
theorem dL_law_134 : decode code 134 = .ok (.lshl, 1) := by decide +kernel
theorem dL_law_135 : decode code 135 = .ok (.aload_n 0, 1) := by decide +kernel
theorem dL_law_136 : decode code 136 = .ok (.iload_n 3, 1) := by decide +kernel
theorem dL_law_137 : decode code 137 = .ok (.iconst 4, 1) := by decide +kernel
theorem dL_law_138 : decode code 138 = .ok (.iadd, 1) := by decide +kernel
theorem dL_law_139 : decode code 139 = .ok (.iaload, 1) := by decide +kernel
theorem dL_law_140 : decode code 140 = .ok (.i2l, 1) := by decide +kernel
theorem dL_law_141 : decode code 141 = .ok (.ldc2_w 18, 3) := by decide +kernel
theorem dL_law_144 : decode code 144 = .ok (.land, 1) := by decide +kernel
theorem dL_law_145 : decode code 145 = .ok (.lor, 1) := by decide +kernel
theorem dL_law_146 : decode code 146 = .ok (.aload_n 0, 1) := by decide +kernel
theorem dL_law_147 : decode code 147 = .ok (.iload_n 3, 1) := by decide +kernel
theorem dL_law_148 : decode code 148 = .ok (.iconst 5, 1) := by decide +kernel
theorem dL_law_149 : decode code 149 = .ok (.iadd, 1) := by decide +kernel
theorem dL_law_150 : decode code 150 = .ok (.iaload, 1) := by decide +kernel
theorem dL_law_151 : decode code 151 = .ok (.i2l, 1) := by decide +kernel
theorem dL_law_152 : decode code 152 = .ok (.bipush 32, 2) := by decide +kernel
theorem dL_law_154 : decode code 154 = .ok (.lshl, 1) := by decide +kernel
theorem dL_law_155 : decode code 155 = .ok (.aload_n 0, 1) := by decide +kernel
theorem dL_law_156 : decode code 156 = .ok (.iload_n 3, 1) := by decide +kernel
theorem dL_law_157 : decode code 157 = .ok (.bipush 6, 2) := by decide +kernel
theorem dL_law_159 : decode code 159 = .ok (.iadd, 1) := by decide +kernel
theorem dL_law_160 : decode code 160 = .ok (.iaload, 1) := by decide +kernel
theorem dL_law_161 : decode code 161 = .ok (.i2l, 1) := by decide +kernel
theorem dL_law_162 : decode code 162 = .ok (.ldc2_w 18, 3) := by decide +kernel
theorem dL_law_165 : decode code 165 = .ok (.land, 1) := by decide +kernel
theorem dL_law_166 : decode code 166 = .ok (.lor, 1) := by decide +kernel
theorem dL_law_167 : decode code 167 = .ok (.aload_n 0, 1) := by decide +kernel
theorem dL_law_168 : decode code 168 = .ok (.iload_n 3, 1) := by decide +kernel
theorem dL_law_169 : decode code 169 = .ok (.bipush 7, 2) := by decide +kernel
theorem dL_law_171 : decode code 171 = .ok (.iadd, 1) := by decide +kernel
theorem dL_law_172 : decode code 172 = .ok (.iaload, 1) := by decide +kernel
theorem dL_law_173 : decode code 173 = .ok (.i2l, 1) := by decide +kernel
theorem dL_law_174 : decode code 174 = .ok (.bipush 32, 2) := by decide +kernel
theorem dL_law_176 : decode code 176 = .ok (.lshl, 1) := by decide +kernel
theorem dL_law_177 : decode code 177 = .ok (.aload_n 0, 1) := by decide +kernel
theorem dL_law_178 : decode code 178 = .ok (.iload_n 3, 1) := by decide +kernel
theorem dL_law_179 : decode code 179 = .ok (.bipush 8, 2) := by decide +kernel
theorem dL_law_181 : decode code 181 = .ok (.iadd, 1) := by decide +kernel
theorem dL_law_182 : decode code 182 = .ok (.iaload, 1) := by decide +kernel
theorem dL_law_183 : decode code 183 = .ok (.i2l, 1) := by decide +kernel
theorem dL_law_184 : decode code 184 = .ok (.ldc2_w 18, 3) := by decide +kernel
theorem dL_law_187 : decode code 187 = .ok (.land, 1) := by decide +kernel
theorem dL_law_188 : decode code 188 = .ok (.lor, 1) := by decide +kernel
theorem dL_law_189 : decode code 189 = .ok (.invokevirtual 20, 3) := by decide +kernel
theorem dL_law_192 : decode code 192 = .ok (.aload_n 2, 1) := by decide +kernel
theorem dL_law_193 : decode code 193 = .ok (.aload_n 0, 1) := by decide +kernel
theorem dL_law_194 : decode code 194 = .ok (.iload_n 3, 1) := by decide +kernel
theorem dL_law_195 : decode code 195 = .ok (.iconst 1, 1) := by decide +kernel
theorem dL_law_196 : decode code 196 = .ok (.iadd, 1) := by decide +kernel
theorem dL_law_197 : decode code 197 = .ok (.iaload, 1) := by decide +kernel
theorem dL_law_198 : decode code 198 = .ok (.aload_n 0, 1) := by decide +kernel
theorem dL_law_199 : decode code 199 = .ok (.iload_n 3, 1) := by decide +kernel
theorem dL_law_200 : decode code 200 = .ok (.iconst 2, 1) := by decide +kernel
theorem dL_law_201 : decode code 201 = .ok (.iadd, 1) := by decide +kernel
theorem dL_law_202 : decode code 202 = .ok (.iaload, 1) := by decide +kernel
theorem dL_law_203 : decode code 203 = .ok (.aload_n 0, 1) := by decide +kernel
theorem dL_law_204 : decode code 204 = .ok (.iload_n 3, 1) := by decide +kernel
theorem dL_law_205 : decode code 205 = .ok (.iconst 3, 1) := by decide +kernel
theorem dL_law_206 : decode code 206 = .ok (.iadd, 1) := by decide +kernel
theorem dL_law_207 : decode code 207 = .ok (.iaload, 1) := by decide +kernel
theorem dL_law_208 : decode code 208 = .ok (.i2l, 1) := by decide +kernel
theorem dL_law_209 : decode code 209 = .ok (.bipush 32, 2) := by decide +kernel
theorem dL_law_211 : decode code 211 = .ok (.lshl, 1) := by decide +kernel
theorem dL_law_212 : decode code 212 = .ok (.aload_n 0, 1) := by decide +kernel
theorem dL_law_213 : decode code 213 = .ok (.iload_n 3, 1) := by decide +kernel
theorem dL_law_214 : decode code 214 = .ok (.iconst 4, 1) := by decide +kernel
theorem dL_law_215 : decode code 215 = .ok (.iadd, 1) := by decide +kernel
theorem dL_law_216 : decode code 216 = .ok (.iaload, 1) := by decide +kernel
theorem dL_law_217 : decode code 217 = .ok (.i2l, 1) := by decide +kernel
theorem dL_law_218 : decode code 218 = .ok (.ldc2_w 18, 3) := by decide +kernel
theorem dL_law_221 : decode code 221 = .ok (.land, 1) := by decide +kernel
theorem dL_law_222 : decode code 222 = .ok (.lor, 1) := by decide +kernel
theorem dL_law_223 : decode code 223 = .ok (.aload_n 0, 1) := by decide +kernel
theorem dL_law_224 : decode code 224 = .ok (.iload_n 3, 1) := by decide +kernel
theorem dL_law_225 : decode code 225 = .ok (.iconst 5, 1) := by decide +kernel
theorem dL_law_226 : decode code 226 = .ok (.iadd, 1) := by decide +kernel
theorem dL_law_227 : decode code 227 = .ok (.iaload, 1) := by decide +kernel
theorem dL_law_228 : decode code 228 = .ok (.i2l, 1) := by decide +kernel
theorem dL_law_229 : decode code 229 = .ok (.bipush 32, 2) := by decide +kernel
theorem dL_law_231 : decode code 231 = .ok (.lshl, 1) := by decide +kernel
theorem dL_law_232 : decode code 232 = .ok (.aload_n 0, 1) := by decide +kernel
theorem dL_law_233 : decode code 233 = .ok (.iload_n 3, 1) := by decide +kernel
theorem dL_law_234 : decode code 234 = .ok (.bipush 6, 2) := by decide +kernel
theorem dL_law_236 : decode code 236 = .ok (.iadd, 1) := by decide +kernel
theorem dL_law_237 : decode code 237 = .ok (.iaload, 1) := by decide +kernel
theorem dL_law_238 : decode code 238 = .ok (.i2l, 1) := by decide +kernel
theorem dL_law_239 : decode code 239 = .ok (.ldc2_w 18, 3) := by decide +kernel
theorem dL_law_242 : decode code 242 = .ok (.land, 1) := by decide +kernel
theorem dL_law_243 : decode code 243 = .ok (.lor, 1) := by decide +kernel
theorem dL_law_244 : decode code 244 = .ok (.aload_n 0, 1) := by decide +kernel
theorem dL_law_245 : decode code 245 = .ok (.iload_n 3, 1) := by decide +kernel
theorem dL_law_246 : decode code 246 = .ok (.bipush 7, 2) := by decide +kernel
theorem dL_law_248 : decode code 248 = .ok (.iadd, 1) := by decide +kernel
theorem dL_law_249 : decode code 249 = .ok (.iaload, 1) := by decide +kernel
theorem dL_law_250 : decode code 250 = .ok (.i2l, 1) := by decide +kernel
theorem dL_law_251 : decode code 251 = .ok (.bipush 32, 2) := by decide +kernel
theorem dL_law_253 : decode code 253 = .ok (.lshl, 1) := by decide +kernel
theorem dL_law_254 : decode code 254 = .ok (.aload_n 0, 1) := by decide +kernel
theorem dL_law_255 : decode code 255 = .ok (.iload_n 3, 1) := by decide +kernel
theorem dL_law_256 : decode code 256 = .ok (.bipush 8, 2) := by decide +kernel
theorem dL_law_258 : decode code 258 = .ok (.iadd, 1) := by decide +kernel
theorem dL_law_259 : decode code 259 = .ok (.iaload, 1) := by decide +kernel
theorem dL_law_260 : decode code 260 = .ok (.i2l, 1) := by decide +kernel
theorem dL_law_261 : decode code 261 = .ok (.ldc2_w 18, 3) := by decide +kernel
theorem dL_law_264 : decode code 264 = .ok (.land, 1) := by decide +kernel
theorem dL_law_265 : decode code 265 = .ok (.lor, 1) := by decide +kernel
theorem dL_law_266 : decode code 266 = .ok (.invokevirtual 24, 3) := by decide +kernel
theorem dL_law_269 : decode code 269 = .ok (.if_icmp .eq 412, 3) := by decide +kernel
theorem dL_law_272 : decode code 272 = .ok (.iconst 0, 1) := by decide +kernel
theorem dL_law_273 : decode code 273 = .ok (.ireturn, 1) := by decide +kernel
theorem dL_law_274 : decode code 274 = .ok (.aload_n 1, 1) := by decide +kernel
theorem dL_law_275 : decode code 275 = .ok (.aload_n 0, 1) := by decide +kernel
theorem dL_law_276 : decode code 276 = .ok (.iload_n 3, 1) := by decide +kernel
theorem dL_law_277 : decode code 277 = .ok (.iconst 1, 1) := by decide +kernel
theorem dL_law_278 : decode code 278 = .ok (.iadd, 1) := by decide +kernel
theorem dL_law_279 : decode code 279 = .ok (.iaload, 1) := by decide +kernel
theorem dL_law_280 : decode code 280 = .ok (.aload_n 0, 1) := by decide +kernel
theorem dL_law_281 : decode code 281 = .ok (.iload_n 3, 1) := by decide +kernel
theorem dL_law_282 : decode code 282 = .ok (.iconst 2, 1) := by decide +kernel
theorem dL_law_283 : decode code 283 = .ok (.iadd, 1) := by decide +kernel
theorem dL_law_284 : decode code 284 = .ok (.iaload, 1) := by decide +kernel
theorem dL_law_285 : decode code 285 = .ok (.aload_n 0, 1) := by decide +kernel
theorem dL_law_286 : decode code 286 = .ok (.iload_n 3, 1) := by decide +kernel
theorem dL_law_287 : decode code 287 = .ok (.iconst 3, 1) := by decide +kernel
theorem dL_law_288 : decode code 288 = .ok (.iadd, 1) := by decide +kernel
theorem dL_law_289 : decode code 289 = .ok (.iaload, 1) := by decide +kernel
theorem dL_law_290 : decode code 290 = .ok (.i2l, 1) := by decide +kernel
theorem dL_law_291 : decode code 291 = .ok (.bipush 32, 2) := by decide +kernel
theorem dL_law_293 : decode code 293 = .ok (.lshl, 1) := by decide +kernel
theorem dL_law_294 : decode code 294 = .ok (.aload_n 0, 1) := by decide +kernel
theorem dL_law_295 : decode code 295 = .ok (.iload_n 3, 1) := by decide +kernel
theorem dL_law_296 : decode code 296 = .ok (.iconst 4, 1) := by decide +kernel
theorem dL_law_297 : decode code 297 = .ok (.iadd, 1) := by decide +kernel
theorem dL_law_298 : decode code 298 = .ok (.iaload, 1) := by decide +kernel
theorem dL_law_299 : decode code 299 = .ok (.i2l, 1) := by decide +kernel
theorem dL_law_300 : decode code 300 = .ok (.ldc2_w 18, 3) := by decide +kernel
theorem dL_law_303 : decode code 303 = .ok (.land, 1) := by decide +kernel
theorem dL_law_304 : decode code 304 = .ok (.lor, 1) := by decide +kernel
theorem dL_law_305 : decode code 305 = .ok (.invokevirtual 25, 3) := by decide +kernel
theorem dL_law_308 : decode code 308 = .ok (.aload_n 2, 1) := by decide +kernel
theorem dL_law_309 : decode code 309 = .ok (.aload_n 0, 1) := by decide +kernel
theorem dL_law_310 : decode code 310 = .ok (.iload_n 3, 1) := by decide +kernel
theorem dL_law_311 : decode code 311 = .ok (.iconst 1, 1) := by decide +kernel
theorem dL_law_312 : decode code 312 = .ok (.iadd, 1) := by decide +kernel
theorem dL_law_313 : decode code 313 = .ok (.iaload, 1) := by decide +kernel
theorem dL_law_314 : decode code 314 = .ok (.aload_n 0, 1) := by decide +kernel
theorem dL_law_315 : decode code 315 = .ok (.iload_n 3, 1) := by decide +kernel
theorem dL_law_316 : decode code 316 = .ok (.iconst 2, 1) := by decide +kernel
theorem dL_law_317 : decode code 317 = .ok (.iadd, 1) := by decide +kernel
theorem dL_law_318 : decode code 318 = .ok (.iaload, 1) := by decide +kernel
theorem dL_law_319 : decode code 319 = .ok (.aload_n 0, 1) := by decide +kernel
theorem dL_law_320 : decode code 320 = .ok (.iload_n 3, 1) := by decide +kernel
theorem dL_law_321 : decode code 321 = .ok (.iconst 3, 1) := by decide +kernel
theorem dL_law_322 : decode code 322 = .ok (.iadd, 1) := by decide +kernel
theorem dL_law_323 : decode code 323 = .ok (.iaload, 1) := by decide +kernel
theorem dL_law_324 : decode code 324 = .ok (.i2l, 1) := by decide +kernel
theorem dL_law_325 : decode code 325 = .ok (.bipush 32, 2) := by decide +kernel
theorem dL_law_327 : decode code 327 = .ok (.lshl, 1) := by decide +kernel
theorem dL_law_328 : decode code 328 = .ok (.aload_n 0, 1) := by decide +kernel
theorem dL_law_329 : decode code 329 = .ok (.iload_n 3, 1) := by decide +kernel
theorem dL_law_330 : decode code 330 = .ok (.iconst 4, 1) := by decide +kernel
theorem dL_law_331 : decode code 331 = .ok (.iadd, 1) := by decide +kernel
theorem dL_law_332 : decode code 332 = .ok (.iaload, 1) := by decide +kernel
theorem dL_law_333 : decode code 333 = .ok (.i2l, 1) := by decide +kernel
theorem dL_law_334 : decode code 334 = .ok (.ldc2_w 18, 3) := by decide +kernel
theorem dL_law_337 : decode code 337 = .ok (.land, 1) := by decide +kernel
theorem dL_law_338 : decode code 338 = .ok (.lor, 1) := by decide +kernel
theorem dL_law_339 : decode code 339 = .ok (.invokevirtual 29, 3) := by decide +kernel
theorem dL_law_342 : decode code 342 = .ok (.if_icmp .eq 339, 3) := by decide +kernel
theorem dL_law_345 : decode code 345 = .ok (.iconst 0, 1) := by decide +kernel
theorem dL_law_346 : decode code 346 = .ok (.ireturn, 1) := by decide +kernel
theorem dL_law_347 : decode code 347 = .ok (.aload_n 1, 1) := by decide +kernel
theorem dL_law_348 : decode code 348 = .ok (.aload_n 0, 1) := by decide +kernel
theorem dL_law_349 : decode code 349 = .ok (.iload_n 3, 1) := by decide +kernel
theorem dL_law_350 : decode code 350 = .ok (.iconst 1, 1) := by decide +kernel
theorem dL_law_351 : decode code 351 = .ok (.iadd, 1) := by decide +kernel
theorem dL_law_352 : decode code 352 = .ok (.iaload, 1) := by decide +kernel
theorem dL_law_353 : decode code 353 = .ok (.aload_n 0, 1) := by decide +kernel
theorem dL_law_354 : decode code 354 = .ok (.iload_n 3, 1) := by decide +kernel
theorem dL_law_355 : decode code 355 = .ok (.iconst 2, 1) := by decide +kernel
theorem dL_law_356 : decode code 356 = .ok (.iadd, 1) := by decide +kernel
theorem dL_law_357 : decode code 357 = .ok (.iaload, 1) := by decide +kernel
theorem dL_law_358 : decode code 358 = .ok (.i2l, 1) := by decide +kernel
theorem dL_law_359 : decode code 359 = .ok (.bipush 32, 2) := by decide +kernel
theorem dL_law_361 : decode code 361 = .ok (.lshl, 1) := by decide +kernel
theorem dL_law_362 : decode code 362 = .ok (.aload_n 0, 1) := by decide +kernel
theorem dL_law_363 : decode code 363 = .ok (.iload_n 3, 1) := by decide +kernel
theorem dL_law_364 : decode code 364 = .ok (.iconst 3, 1) := by decide +kernel
theorem dL_law_365 : decode code 365 = .ok (.iadd, 1) := by decide +kernel
theorem dL_law_366 : decode code 366 = .ok (.iaload, 1) := by decide +kernel
theorem dL_law_367 : decode code 367 = .ok (.i2l, 1) := by decide +kernel
theorem dL_law_368 : decode code 368 = .ok (.ldc2_w 18, 3) := by decide +kernel
theorem dL_law_371 : decode code 371 = .ok (.land, 1) := by decide +kernel
theorem dL_law_372 : decode code 372 = .ok (.lor, 1) := by decide +kernel
theorem dL_law_373 : decode code 373 = .ok (.aload_n 0, 1) := by decide +kernel
theorem dL_law_374 : decode code 374 = .ok (.iload_n 3, 1) := by decide +kernel
theorem dL_law_375 : decode code 375 = .ok (.iconst 4, 1) := by decide +kernel
theorem dL_law_376 : decode code 376 = .ok (.iadd, 1) := by decide +kernel
theorem dL_law_377 : decode code 377 = .ok (.iaload, 1) := by decide +kernel
theorem dL_law_378 : decode code 378 = .ok (.invokevirtual 30, 3) := by decide +kernel
theorem dL_law_381 : decode code 381 = .ok (.aload_n 2, 1) := by decide +kernel
theorem dL_law_382 : decode code 382 = .ok (.aload_n 0, 1) := by decide +kernel
theorem dL_law_383 : decode code 383 = .ok (.iload_n 3, 1) := by decide +kernel
theorem dL_law_384 : decode code 384 = .ok (.iconst 1, 1) := by decide +kernel
theorem dL_law_385 : decode code 385 = .ok (.iadd, 1) := by decide +kernel
theorem dL_law_386 : decode code 386 = .ok (.iaload, 1) := by decide +kernel
theorem dL_law_387 : decode code 387 = .ok (.aload_n 0, 1) := by decide +kernel
theorem dL_law_388 : decode code 388 = .ok (.iload_n 3, 1) := by decide +kernel
theorem dL_law_389 : decode code 389 = .ok (.iconst 2, 1) := by decide +kernel
theorem dL_law_390 : decode code 390 = .ok (.iadd, 1) := by decide +kernel
theorem dL_law_391 : decode code 391 = .ok (.iaload, 1) := by decide +kernel
theorem dL_law_392 : decode code 392 = .ok (.i2l, 1) := by decide +kernel
theorem dL_law_393 : decode code 393 = .ok (.bipush 32, 2) := by decide +kernel
theorem dL_law_395 : decode code 395 = .ok (.lshl, 1) := by decide +kernel
theorem dL_law_396 : decode code 396 = .ok (.aload_n 0, 1) := by decide +kernel
theorem dL_law_397 : decode code 397 = .ok (.iload_n 3, 1) := by decide +kernel
theorem dL_law_398 : decode code 398 = .ok (.iconst 3, 1) := by decide +kernel
theorem dL_law_399 : decode code 399 = .ok (.iadd, 1) := by decide +kernel
theorem dL_law_400 : decode code 400 = .ok (.iaload, 1) := by decide +kernel
theorem dL_law_401 : decode code 401 = .ok (.i2l, 1) := by decide +kernel
theorem dL_law_402 : decode code 402 = .ok (.ldc2_w 18, 3) := by decide +kernel
theorem dL_law_405 : decode code 405 = .ok (.land, 1) := by decide +kernel
theorem dL_law_406 : decode code 406 = .ok (.lor, 1) := by decide +kernel
theorem dL_law_407 : decode code 407 = .ok (.aload_n 0, 1) := by decide +kernel
theorem dL_law_408 : decode code 408 = .ok (.iload_n 3, 1) := by decide +kernel
theorem dL_law_409 : decode code 409 = .ok (.iconst 4, 1) := by decide +kernel
theorem dL_law_410 : decode code 410 = .ok (.iadd, 1) := by decide +kernel
theorem dL_law_411 : decode code 411 = .ok (.iaload, 1) := by decide +kernel
theorem dL_law_412 : decode code 412 = .ok (.invokevirtual 34, 3) := by decide +kernel
theorem dL_law_415 : decode code 415 = .ok (.if_icmp .eq 266, 3) := by decide +kernel
theorem dL_law_418 : decode code 418 = .ok (.iconst 0, 1) := by decide +kernel
theorem dL_law_419 : decode code 419 = .ok (.ireturn, 1) := by decide +kernel
theorem dL_law_420 : decode code 420 = .ok (.aload_n 1, 1) := by decide +kernel
theorem dL_law_421 : decode code 421 = .ok (.aload_n 0, 1) := by decide +kernel
theorem dL_law_422 : decode code 422 = .ok (.iload_n 3, 1) := by decide +kernel
theorem dL_law_423 : decode code 423 = .ok (.iconst 1, 1) := by decide +kernel
theorem dL_law_424 : decode code 424 = .ok (.iadd, 1) := by decide +kernel
theorem dL_law_425 : decode code 425 = .ok (.iaload, 1) := by decide +kernel
theorem dL_law_426 : decode code 426 = .ok (.invokevirtual 35, 3) := by decide +kernel
theorem dL_law_429 : decode code 429 = .ok (.aload_n 2, 1) := by decide +kernel
theorem dL_law_430 : decode code 430 = .ok (.aload_n 0, 1) := by decide +kernel
theorem dL_law_431 : decode code 431 = .ok (.iload_n 3, 1) := by decide +kernel
theorem dL_law_432 : decode code 432 = .ok (.iconst 1, 1) := by decide +kernel
theorem dL_law_433 : decode code 433 = .ok (.iadd, 1) := by decide +kernel
theorem dL_law_434 : decode code 434 = .ok (.iaload, 1) := by decide +kernel
theorem dL_law_435 : decode code 435 = .ok (.invokevirtual 38, 3) := by decide +kernel
theorem dL_law_438 : decode code 438 = .ok (.if_icmp .eq 243, 3) := by decide +kernel
theorem dL_law_441 : decode code 441 = .ok (.iconst 0, 1) := by decide +kernel
theorem dL_law_442 : decode code 442 = .ok (.ireturn, 1) := by decide +kernel
theorem dL_law_443 : decode code 443 = .ok (.aload_n 1, 1) := by decide +kernel
theorem dL_law_444 : decode code 444 = .ok (.aload_n 0, 1) := by decide +kernel
theorem dL_law_445 : decode code 445 = .ok (.iload_n 3, 1) := by decide +kernel
theorem dL_law_446 : decode code 446 = .ok (.iconst 1, 1) := by decide +kernel
theorem dL_law_447 : decode code 447 = .ok (.iadd, 1) := by decide +kernel
theorem dL_law_448 : decode code 448 = .ok (.iaload, 1) := by decide +kernel
theorem dL_law_449 : decode code 449 = .ok (.aload_n 0, 1) := by decide +kernel
theorem dL_law_450 : decode code 450 = .ok (.iload_n 3, 1) := by decide +kernel
theorem dL_law_451 : decode code 451 = .ok (.iconst 2, 1) := by decide +kernel
theorem dL_law_452 : decode code 452 = .ok (.iadd, 1) := by decide +kernel
theorem dL_law_453 : decode code 453 = .ok (.iaload, 1) := by decide +kernel
theorem dL_law_454 : decode code 454 = .ok (.invokevirtual 39, 3) := by decide +kernel
theorem dL_law_457 : decode code 457 = .ok (.aload_n 2, 1) := by decide +kernel
theorem dL_law_458 : decode code 458 = .ok (.aload_n 0, 1) := by decide +kernel
theorem dL_law_459 : decode code 459 = .ok (.iload_n 3, 1) := by decide +kernel
theorem dL_law_460 : decode code 460 = .ok (.iconst 1, 1) := by decide +kernel
theorem dL_law_461 : decode code 461 = .ok (.iadd, 1) := by decide +kernel
theorem dL_law_462 : decode code 462 = .ok (.iaload, 1) := by decide +kernel
theorem dL_law_463 : decode code 463 = .ok (.aload_n 0, 1) := by decide +kernel
theorem dL_law_464 : decode code 464 = .ok (.iload_n 3, 1) := by decide +kernel
theorem dL_law_465 : decode code 465 = .ok (.iconst 2, 1) := by decide +kernel
theorem dL_law_466 : decode code 466 = .ok (.iadd, 1) := by decide +kernel
theorem dL_law_467 : decode code 467 = .ok (.iaload, 1) := by decide +kernel
theorem dL_law_468 : decode code 468 = .ok (.invokevirtual 43, 3) := by decide +kernel
theorem dL_law_471 : decode code 471 = .ok (.if_icmp .eq 210, 3) := by decide +kernel
theorem dL_law_474 : decode code 474 = .ok (.iconst 0, 1) := by decide +kernel
theorem dL_law_475 : decode code 475 = .ok (.ireturn, 1) := by decide +kernel
theorem dL_law_476 : decode code 476 = .ok (.aload_n 1, 1) := by decide +kernel
theorem dL_law_477 : decode code 477 = .ok (.aload_n 0, 1) := by decide +kernel
theorem dL_law_478 : decode code 478 = .ok (.iload_n 3, 1) := by decide +kernel
theorem dL_law_479 : decode code 479 = .ok (.iconst 1, 1) := by decide +kernel
theorem dL_law_480 : decode code 480 = .ok (.iadd, 1) := by decide +kernel
theorem dL_law_481 : decode code 481 = .ok (.iaload, 1) := by decide +kernel
theorem dL_law_482 : decode code 482 = .ok (.aload_n 0, 1) := by decide +kernel
theorem dL_law_483 : decode code 483 = .ok (.iload_n 3, 1) := by decide +kernel
theorem dL_law_484 : decode code 484 = .ok (.iconst 2, 1) := by decide +kernel
theorem dL_law_485 : decode code 485 = .ok (.iadd, 1) := by decide +kernel
theorem dL_law_486 : decode code 486 = .ok (.iaload, 1) := by decide +kernel
theorem dL_law_487 : decode code 487 = .ok (.aload_n 0, 1) := by decide +kernel
theorem dL_law_488 : decode code 488 = .ok (.iload_n 3, 1) := by decide +kernel
theorem dL_law_489 : decode code 489 = .ok (.iconst 3, 1) := by decide +kernel
theorem dL_law_490 : decode code 490 = .ok (.iadd, 1) := by decide +kernel
theorem dL_law_491 : decode code 491 = .ok (.iaload, 1) := by decide +kernel
theorem dL_law_492 : decode code 492 = .ok (.i2l, 1) := by decide +kernel
theorem dL_law_493 : decode code 493 = .ok (.bipush 32, 2) := by decide +kernel
theorem dL_law_495 : decode code 495 = .ok (.lshl, 1) := by decide +kernel
theorem dL_law_496 : decode code 496 = .ok (.aload_n 0, 1) := by decide +kernel
theorem dL_law_497 : decode code 497 = .ok (.iload_n 3, 1) := by decide +kernel
theorem dL_law_498 : decode code 498 = .ok (.iconst 4, 1) := by decide +kernel
theorem dL_law_499 : decode code 499 = .ok (.iadd, 1) := by decide +kernel
theorem dL_law_500 : decode code 500 = .ok (.iaload, 1) := by decide +kernel
theorem dL_law_501 : decode code 501 = .ok (.i2l, 1) := by decide +kernel
theorem dL_law_502 : decode code 502 = .ok (.ldc2_w 18, 3) := by decide +kernel
theorem dL_law_505 : decode code 505 = .ok (.land, 1) := by decide +kernel
theorem dL_law_506 : decode code 506 = .ok (.lor, 1) := by decide +kernel
theorem dL_law_507 : decode code 507 = .ok (.invokevirtual 44, 3) := by decide +kernel
theorem dL_law_510 : decode code 510 = .ok (.aload_n 2, 1) := by decide +kernel
theorem dL_law_511 : decode code 511 = .ok (.aload_n 0, 1) := by decide +kernel
theorem dL_law_512 : decode code 512 = .ok (.iload_n 3, 1) := by decide +kernel
theorem dL_law_513 : decode code 513 = .ok (.iconst 1, 1) := by decide +kernel
theorem dL_law_514 : decode code 514 = .ok (.iadd, 1) := by decide +kernel
theorem dL_law_515 : decode code 515 = .ok (.iaload, 1) := by decide +kernel
theorem dL_law_516 : decode code 516 = .ok (.aload_n 0, 1) := by decide +kernel
theorem dL_law_517 : decode code 517 = .ok (.iload_n 3, 1) := by decide +kernel
theorem dL_law_518 : decode code 518 = .ok (.iconst 2, 1) := by decide +kernel
theorem dL_law_519 : decode code 519 = .ok (.iadd, 1) := by decide +kernel
theorem dL_law_520 : decode code 520 = .ok (.iaload, 1) := by decide +kernel
theorem dL_law_521 : decode code 521 = .ok (.aload_n 0, 1) := by decide +kernel
theorem dL_law_522 : decode code 522 = .ok (.iload_n 3, 1) := by decide +kernel
theorem dL_law_523 : decode code 523 = .ok (.iconst 3, 1) := by decide +kernel
theorem dL_law_524 : decode code 524 = .ok (.iadd, 1) := by decide +kernel
theorem dL_law_525 : decode code 525 = .ok (.iaload, 1) := by decide +kernel
theorem dL_law_526 : decode code 526 = .ok (.i2l, 1) := by decide +kernel
theorem dL_law_527 : decode code 527 = .ok (.bipush 32, 2) := by decide +kernel
theorem dL_law_529 : decode code 529 = .ok (.lshl, 1) := by decide +kernel
theorem dL_law_530 : decode code 530 = .ok (.aload_n 0, 1) := by decide +kernel
theorem dL_law_531 : decode code 531 = .ok (.iload_n 3, 1) := by decide +kernel
theorem dL_law_532 : decode code 532 = .ok (.iconst 4, 1) := by decide +kernel
theorem dL_law_533 : decode code 533 = .ok (.iadd, 1) := by decide +kernel
theorem dL_law_534 : decode code 534 = .ok (.iaload, 1) := by decide +kernel
theorem dL_law_535 : decode code 535 = .ok (.i2l, 1) := by decide +kernel
theorem dL_law_536 : decode code 536 = .ok (.ldc2_w 18, 3) := by decide +kernel
theorem dL_law_539 : decode code 539 = .ok (.land, 1) := by decide +kernel
theorem dL_law_540 : decode code 540 = .ok (.lor, 1) := by decide +kernel
theorem dL_law_541 : decode code 541 = .ok (.invokevirtual 47, 3) := by decide +kernel
theorem dL_law_544 : decode code 544 = .ok (.if_icmp .eq 137, 3) := by decide +kernel
theorem dL_law_547 : decode code 547 = .ok (.iconst 0, 1) := by decide +kernel
theorem dL_law_548 : decode code 548 = .ok (.ireturn, 1) := by decide +kernel
theorem dL_law_549 : decode code 549 = .ok (.aload_n 1, 1) := by decide +kernel
theorem dL_law_550 : decode code 550 = .ok (.aload_n 0, 1) := by decide +kernel
theorem dL_law_551 : decode code 551 = .ok (.iload_n 3, 1) := by decide +kernel
theorem dL_law_552 : decode code 552 = .ok (.iconst 1, 1) := by decide +kernel
theorem dL_law_553 : decode code 553 = .ok (.iadd, 1) := by decide +kernel
theorem dL_law_554 : decode code 554 = .ok (.iaload, 1) := by decide +kernel
theorem dL_law_555 : decode code 555 = .ok (.aload_n 0, 1) := by decide +kernel
theorem dL_law_556 : decode code 556 = .ok (.iload_n 3, 1) := by decide +kernel
theorem dL_law_557 : decode code 557 = .ok (.iconst 2, 1) := by decide +kernel
theorem dL_law_558 : decode code 558 = .ok (.iadd, 1) := by decide +kernel
theorem dL_law_559 : decode code 559 = .ok (.iaload, 1) := by decide +kernel
theorem dL_law_560 : decode code 560 = .ok (.invokevirtual 48, 3) := by decide +kernel
theorem dL_law_563 : decode code 563 = .ok (.aload_n 2, 1) := by decide +kernel
theorem dL_law_564 : decode code 564 = .ok (.aload_n 0, 1) := by decide +kernel
theorem dL_law_565 : decode code 565 = .ok (.iload_n 3, 1) := by decide +kernel
theorem dL_law_566 : decode code 566 = .ok (.iconst 1, 1) := by decide +kernel
theorem dL_law_567 : decode code 567 = .ok (.iadd, 1) := by decide +kernel
theorem dL_law_568 : decode code 568 = .ok (.iaload, 1) := by decide +kernel
theorem dL_law_569 : decode code 569 = .ok (.aload_n 0, 1) := by decide +kernel
theorem dL_law_570 : decode code 570 = .ok (.iload_n 3, 1) := by decide +kernel
theorem dL_law_571 : decode code 571 = .ok (.iconst 2, 1) := by decide +kernel
theorem dL_law_572 : decode code 572 = .ok (.iadd, 1) := by decide +kernel
theorem dL_law_573 : decode code 573 = .ok (.iaload, 1) := by decide +kernel
theorem dL_law_574 : decode code 574 = .ok (.invokevirtual 51, 3) := by decide +kernel
theorem dL_law_577 : decode code 577 = .ok (.if_icmp .eq 104, 3) := by decide +kernel
theorem dL_law_580 : decode code 580 = .ok (.iconst 0, 1) := by decide +kernel
theorem dL_law_581 : decode code 581 = .ok (.ireturn, 1) := by decide +kernel
theorem dL_law_582 : decode code 582 = .ok (.aload_n 1, 1) := by decide +kernel
theorem dL_law_583 : decode code 583 = .ok (.aload_n 0, 1) := by decide +kernel
theorem dL_law_584 : decode code 584 = .ok (.iload_n 3, 1) := by decide +kernel
theorem dL_law_585 : decode code 585 = .ok (.iconst 1, 1) := by decide +kernel
theorem dL_law_586 : decode code 586 = .ok (.iadd, 1) := by decide +kernel
theorem dL_law_587 : decode code 587 = .ok (.iaload, 1) := by decide +kernel
theorem dL_law_588 : decode code 588 = .ok (.invokevirtual 52, 3) := by decide +kernel
theorem dL_law_591 : decode code 591 = .ok (.aload_n 2, 1) := by decide +kernel
theorem dL_law_592 : decode code 592 = .ok (.aload_n 0, 1) := by decide +kernel
theorem dL_law_593 : decode code 593 = .ok (.iload_n 3, 1) := by decide +kernel
theorem dL_law_594 : decode code 594 = .ok (.iconst 1, 1) := by decide +kernel
theorem dL_law_595 : decode code 595 = .ok (.iadd, 1) := by decide +kernel
theorem dL_law_596 : decode code 596 = .ok (.iaload, 1) := by decide +kernel
theorem dL_law_597 : decode code 597 = .ok (.invokevirtual 55, 3) := by decide +kernel
theorem dL_law_600 : decode code 600 = .ok (.if_icmp .eq 81, 3) := by decide +kernel
theorem dL_law_603 : decode code 603 = .ok (.iconst 0, 1) := by decide +kernel
theorem dL_law_604 : decode code 604 = .ok (.ireturn, 1) := by decide +kernel
theorem dL_law_605 : decode code 605 = .ok (.aload_n 1, 1) := by decide +kernel
theorem dL_law_606 : decode code 606 = .ok (.aload_n 0, 1) := by decide +kernel
theorem dL_law_607 : decode code 607 = .ok (.iload_n 3, 1) := by decide +kernel
theorem dL_law_608 : decode code 608 = .ok (.iconst 1, 1) := by decide +kernel
theorem dL_law_609 : decode code 609 = .ok (.iadd, 1) := by decide +kernel
theorem dL_law_610 : decode code 610 = .ok (.iaload, 1) := by decide +kernel
theorem dL_law_611 : decode code 611 = .ok (.aload_n 0, 1) := by decide +kernel
theorem dL_law_612 : decode code 612 = .ok (.iload_n 3, 1) := by decide +kernel
theorem dL_law_613 : decode code 613 = .ok (.iconst 2, 1) := by decide +kernel
theorem dL_law_614 : decode code 614 = .ok (.iadd, 1) := by decide +kernel
theorem dL_law_615 : decode code 615 = .ok (.iaload, 1) := by decide +kernel
theorem dL_law_616 : decode code 616 = .ok (.invokevirtual 56, 3) := by decide +kernel
theorem dL_law_619 : decode code 619 = .ok (.aload_n 2, 1) := by decide +kernel
theorem dL_law_620 : decode code 620 = .ok (.aload_n 0, 1) := by decide +kernel
theorem dL_law_621 : decode code 621 = .ok (.iload_n 3, 1) := by decide +kernel
theorem dL_law_622 : decode code 622 = .ok (.iconst 1, 1) := by decide +kernel
theorem dL_law_623 : decode code 623 = .ok (.iadd, 1) := by decide +kernel
theorem dL_law_624 : decode code 624 = .ok (.iaload, 1) := by decide +kernel
theorem dL_law_625 : decode code 625 = .ok (.aload_n 0, 1) := by decide +kernel
theorem dL_law_626 : decode code 626 = .ok (.iload_n 3, 1) := by decide +kernel
theorem dL_law_627 : decode code 627 = .ok (.iconst 2, 1) := by decide +kernel
theorem dL_law_628 : decode code 628 = .ok (.iadd, 1) := by decide +kernel
theorem dL_law_629 : decode code 629 = .ok (.iaload, 1) := by decide +kernel
theorem dL_law_630 : decode code 630 = .ok (.invokevirtual 59, 3) := by decide +kernel
theorem dL_law_633 : decode code 633 = .ok (.if_icmp .eq 48, 3) := by decide +kernel
theorem dL_law_636 : decode code 636 = .ok (.iconst 0, 1) := by decide +kernel
theorem dL_law_637 : decode code 637 = .ok (.ireturn, 1) := by decide +kernel
theorem dL_law_638 : decode code 638 = .ok (.aload_n 1, 1) := by decide +kernel
theorem dL_law_639 : decode code 639 = .ok (.aload_n 0, 1) := by decide +kernel
theorem dL_law_640 : decode code 640 = .ok (.iload_n 3, 1) := by decide +kernel
theorem dL_law_641 : decode code 641 = .ok (.iconst 1, 1) := by decide +kernel
theorem dL_law_642 : decode code 642 = .ok (.iadd, 1) := by decide +kernel
theorem dL_law_643 : decode code 643 = .ok (.iaload, 1) := by decide +kernel
theorem dL_law_644 : decode code 644 = .ok (.aload_n 0, 1) := by decide +kernel
theorem dL_law_645 : decode code 645 = .ok (.iload_n 3, 1) := by decide +kernel
theorem dL_law_646 : decode code 646 = .ok (.iconst 2, 1) := by decide +kernel
theorem dL_law_647 : decode code 647 = .ok (.iadd, 1) := by decide +kernel
theorem dL_law_648 : decode code 648 = .ok (.iaload, 1) := by decide +kernel
theorem dL_law_649 : decode code 649 = .ok (.aload_n 0, 1) := by decide +kernel
theorem dL_law_650 : decode code 650 = .ok (.iload_n 3, 1) := by decide +kernel
theorem dL_law_651 : decode code 651 = .ok (.iconst 3, 1) := by decide +kernel
theorem dL_law_652 : decode code 652 = .ok (.iadd, 1) := by decide +kernel
theorem dL_law_653 : decode code 653 = .ok (.iaload, 1) := by decide +kernel
theorem dL_law_654 : decode code 654 = .ok (.invokevirtual 60, 3) := by decide +kernel
theorem dL_law_657 : decode code 657 = .ok (.aload_n 2, 1) := by decide +kernel
theorem dL_law_658 : decode code 658 = .ok (.aload_n 0, 1) := by decide +kernel
theorem dL_law_659 : decode code 659 = .ok (.iload_n 3, 1) := by decide +kernel
theorem dL_law_660 : decode code 660 = .ok (.iconst 1, 1) := by decide +kernel
theorem dL_law_661 : decode code 661 = .ok (.iadd, 1) := by decide +kernel
theorem dL_law_662 : decode code 662 = .ok (.iaload, 1) := by decide +kernel
theorem dL_law_663 : decode code 663 = .ok (.aload_n 0, 1) := by decide +kernel
theorem dL_law_664 : decode code 664 = .ok (.iload_n 3, 1) := by decide +kernel
theorem dL_law_665 : decode code 665 = .ok (.iconst 2, 1) := by decide +kernel
theorem dL_law_666 : decode code 666 = .ok (.iadd, 1) := by decide +kernel
theorem dL_law_667 : decode code 667 = .ok (.iaload, 1) := by decide +kernel
theorem dL_law_668 : decode code 668 = .ok (.aload_n 0, 1) := by decide +kernel
theorem dL_law_669 : decode code 669 = .ok (.iload_n 3, 1) := by decide +kernel
theorem dL_law_670 : decode code 670 = .ok (.iconst 3, 1) := by decide +kernel
theorem dL_law_671 : decode code 671 = .ok (.iadd, 1) := by decide +kernel
theorem dL_law_672 : decode code 672 = .ok (.iaload, 1) := by decide +kernel
theorem dL_law_673 : decode code 673 = .ok (.invokevirtual 64, 3) := by decide +kernel
theorem dL_law_676 : decode code 676 = .ok (.if_icmp .eq 5, 3) := by decide +kernel
theorem dL_law_679 : decode code 679 = .ok (.iconst 0, 1) := by decide +kernel
theorem dL_law_680 : decode code 680 = .ok (.ireturn, 1) := by decide +kernel
theorem dL_law_681 : decode code 681 = .ok (.iinc 3 9, 3) := by decide +kernel
theorem dL_law_684 : decode code 684 = .ok (.goto (-666), 3) := by decide +kernel
theorem dL_law_687 : decode code 687 = .ok (.iconst 1, 1) := by decide +kernel
theorem dL_law_688 : decode code 688 = .ok (.ireturn, 1) := by decide +kernel
end
section
section BASE
variable {p : Program} {l : Launch} {e : Env} {R : Room} {s : State} {m : MethodId} {args : Array Value} {below : List Frame} {meth : Method} {c : Code} {cells slots : Nat} {Q : State → Prop}
variable {cc : ByteArray} {nL : Nat} {Ts : List Cond} {own : String} {D : va_G} {tys : List (ClassId × FieldType)} {A : Nat → Prop}
variable {ws : va_W} {pc pc' tgt : Nat} {lv : List (Nat × Value)} {rest : List Value}
/-- what stands still in a method's walk: the machine, the code, the words, the classes; what it makes is its own -/
def vr_F (p : Program) (s : State) (m : MethodId) (c : Code) (cc : ByteArray) (nL : Nat) (args : Array Value) (Ts : List Cond) (own : String) (D : va_G) (tys : List (ClassId × FieldType)) (A : Nat → Prop) : Prop :=
  CallFix p m c cc nL s args Ts own ∧ va_K D vwCl tys s ∧ (∀ q : Nat, s.heap.size ≤ q → A q)
/-- from every heap that holds the world ws, with these locals and this stack at pc, the machine comes to Q -/
def vr_W (p : Program) (l : Launch) (e : Env) (R : Room) (s : State) (m : MethodId) (args : Array Value) (below : List Frame) (meth : Method) (c : Code) (D : va_G) (A : Nat → Prop) (nL cells slots : Nat) (Q : State → Prop) (ws : va_W) (pc : Nat) (lv : List (Nat × Value)) (st : List Value) : Prop :=
  ∀ (H : Heap) (locs : List Loc) (ls : Array Slot), va_P D vwCl ws H → va_D A ws → va_S A s.heap H locs → lv_has ls nL lv → W p l e R s m args below meth c H locs cells slots Q (F0 m pc ls st)

theorem vr_to {ws' : va_W} {lv' : List (Nat × Value)} {st st' : List Value} (h1 : ws = ws') (h2 : lv = lv') (h3 : st = st') (k : vr_W p l e R s m args below meth c D A nL cells slots Q ws' pc lv' st') : vr_W p l e R s m args below meth c D A nL cells slots Q ws pc lv st := by
  subst h1; subst h2; subst h3; exact k
theorem vr_sub {lv' : List (Nat × Value)} {st : List Value} (ks : List Nat) (h : lv_pick lv ks = lv') (k : vr_W p l e R s m args below meth c D A nL cells slots Q ws pc lv' st) : vr_W p l e R s m args below meth c D A nL cells slots Q ws pc lv st :=
  fun H locs ls hP hD hS hl => k H locs ls hP hD hS (lv_sub hl ks h)
def vr_b (b : Bool) : Int32 := if b = true then 1 else 0
theorem vr_bt : vr_b true = nI 1 := rfl
theorem vr_bf : vr_b false = nI 0 := rfl
theorem vr_b1 : (1 : Int32) = nI 1 := rfl
theorem vr_b0 : (0 : Int32) = nI 0 := rfl
theorem vr_b_eq0 (b : Bool) : vr_b b = 0 ↔ b = false := by cases b <;> simp [vr_b]
theorem vr_nz (b : Bool) : narrow .boolean (.int (vr_b b)) = .int (vr_b b) := by cases b <;> rfl
theorem vr_nzz (b : Bool) : vp_nar .boolean (vr_b b) = vr_b b := by cases b <;> rfl
def vr_un (f : Nat → Nat) (k v : Nat) : Nat → Nat := fun j => if j = k then v else f j
def vr_ub (f : Nat → Bool) (k : Nat) (v : Bool) : Nat → Bool := fun j => if j = k then v else f j
theorem vr_upd_n (f : Nat → Nat) (k v : Nat) : upd (fun j => nI (f j)) k (nI v) = fun j => nI (vr_un f k v j) := by
  funext j; simp only [upd, vr_un]; split <;> rfl
theorem vr_upd_b (f : Nat → Bool) (k : Nat) (v : Bool) : upd (fun j => vr_b (f j)) k (vr_b v) = fun j => vr_b (vr_ub f k v j) := by
  funext j; simp only [upd, vr_ub]; split <;> rfl
theorem vr_iconst (hF : vr_F p s m c cc nL args Ts own D tys A) {n : Int} {v : Int32} (hdg : decode cc pc = .ok (.iconst n, 1)) (hv : Int32.ofInt n = v) (hp : pc + 1 = pc') (k : vr_W p l e R s m args below meth c D A nL cells slots Q ws pc' lv (.int v :: rest)) : vr_W p l e R s m args below meth c D A nL cells slots Q ws pc lv (rest) := by
  subst hp
  exact fun H locs ls hP hD hS hl => lv_iconst hF.1.1 hF.1.2.1 hdg hv (k H locs ls hP hD hS hl)
theorem vr_bipush (hF : vr_F p s m c cc nL args Ts own D tys A) {n : Int} {v : Int32} (hdg : decode cc pc = .ok (.bipush n, 2)) (hv : (Int8.ofInt n).toInt32 = v) (hp : pc + 2 = pc') (k : vr_W p l e R s m args below meth c D A nL cells slots Q ws pc' lv (.int v :: rest)) : vr_W p l e R s m args below meth c D A nL cells slots Q ws pc lv (rest) := by
  subst hp
  exact fun H locs ls hP hD hS hl => lv_bipush hF.1.1 hF.1.2.1 hdg hv (k H locs ls hP hD hS hl)
theorem vr_sipush (hF : vr_F p s m c cc nL args Ts own D tys A) {n : Int} {v : Int32} (hdg : decode cc pc = .ok (.sipush n, 3)) (hv : (Int16.ofInt n).toInt32 = v) (hp : pc + 3 = pc') (k : vr_W p l e R s m args below meth c D A nL cells slots Q ws pc' lv (.int v :: rest)) : vr_W p l e R s m args below meth c D A nL cells slots Q ws pc lv (rest) := by
  subst hp
  exact fun H locs ls hP hD hS hl => lv_sipush hF.1.1 hF.1.2.1 hdg hv (k H locs ls hP hD hS hl)
theorem vr_lconst (hF : vr_F p s m c cc nL args Ts own D tys A) {n : Fin 2} {v : Int64} (hdg : decode cc pc = .ok (.lconst n, 1)) (hv : Int64.ofNat (n : Nat) = v) (hp : pc + 1 = pc') (k : vr_W p l e R s m args below meth c D A nL cells slots Q ws pc' lv (.long v :: rest)) : vr_W p l e R s m args below meth c D A nL cells slots Q ws pc lv (rest) := by
  subst hp
  exact fun H locs ls hP hD hS hl => lv_lconst hF.1.1 hF.1.2.1 hdg hv (k H locs ls hP hD hS hl)
theorem vr_ldc2 (hF : vr_F p s m c cc nL args Ts own D tys A) {index : Nat} {v : Int64} (hw : Cond.constantLong own index v ∈ Ts) (hdg : decode cc pc = .ok (.ldc2_w index, 3)) (hp : pc + 3 = pc') (k : vr_W p l e R s m args below meth c D A nL cells slots Q ws pc' lv (.long v :: rest)) : vr_W p l e R s m args below meth c D A nL cells slots Q ws pc lv (rest) := by
  subst hp
  exact fun H locs ls hP hD hS hl => lv_ldc2 hF.1.1 hF.1.2.1 hF.1.2.2.2.1 (hF.1.2.2.2.2 _ hw) hdg (k H locs ls hP hD hS hl)
theorem vr_ldc (hF : vr_F p s m c cc nL args Ts own D tys A) {index : Nat} {v : Int32} (hw : Cond.constant own index v ∈ Ts) (hdg : decode cc pc = .ok (.ldc index, 2)) (hp : pc + 2 = pc') (k : vr_W p l e R s m args below meth c D A nL cells slots Q ws pc' lv (.int v :: rest)) : vr_W p l e R s m args below meth c D A nL cells slots Q ws pc lv (rest) := by
  subst hp
  exact fun H locs ls hP hD hS hl => lv_ldc hF.1.1 hF.1.2.1 hF.1.2.2.2.1 (hF.1.2.2.2.2 _ hw) hdg (k H locs ls hP hD hS hl)
theorem vr_iload_n (hF : vr_F p s m c cc nL args Ts own D tys A) {k : Fin 4} {i : Nat} {x : Int32} (j : Nat) (hj : lv[j]? = some (i, .int x)) (hdg : decode cc pc = .ok (.iload_n k, 1)) (hi : (k : Nat) = i) (hp : pc + 1 = pc') (k : vr_W p l e R s m args below meth c D A nL cells slots Q ws pc' lv (.int x :: rest)) : vr_W p l e R s m args below meth c D A nL cells slots Q ws pc lv (rest) := by
  subst hp
  exact fun H locs ls hP hD hS hl => lv_iload_n hF.1.1 hF.1.2.1 hdg hi (lv_at hl j hj) (k H locs ls hP hD hS hl)
theorem vr_iload (hF : vr_F p s m c cc nL args Ts own D tys A) {i : Nat} {x : Int32} (j : Nat) (hj : lv[j]? = some (i, .int x)) (hdg : decode cc pc = .ok (.iload i, 2)) (hp : pc + 2 = pc') (k : vr_W p l e R s m args below meth c D A nL cells slots Q ws pc' lv (.int x :: rest)) : vr_W p l e R s m args below meth c D A nL cells slots Q ws pc lv (rest) := by
  subst hp
  exact fun H locs ls hP hD hS hl => lv_iload hF.1.1 hF.1.2.1 hdg (lv_at hl j hj) (k H locs ls hP hD hS hl)
theorem vr_lload_n (hF : vr_F p s m c cc nL args Ts own D tys A) {k : Fin 4} {i : Nat} {x : Int64} (j : Nat) (hj : lv[j]? = some (i, .long x)) (hdg : decode cc pc = .ok (.lload_n k, 1)) (hi : (k : Nat) = i) (hp : pc + 1 = pc') (k : vr_W p l e R s m args below meth c D A nL cells slots Q ws pc' lv (.long x :: rest)) : vr_W p l e R s m args below meth c D A nL cells slots Q ws pc lv (rest) := by
  subst hp
  exact fun H locs ls hP hD hS hl => lv_lload_n hF.1.1 hF.1.2.1 hdg hi (lv_at hl j hj) (k H locs ls hP hD hS hl)
theorem vr_lload (hF : vr_F p s m c cc nL args Ts own D tys A) {i : Nat} {x : Int64} (j : Nat) (hj : lv[j]? = some (i, .long x)) (hdg : decode cc pc = .ok (.lload i, 2)) (hp : pc + 2 = pc') (k : vr_W p l e R s m args below meth c D A nL cells slots Q ws pc' lv (.long x :: rest)) : vr_W p l e R s m args below meth c D A nL cells slots Q ws pc lv (rest) := by
  subst hp
  exact fun H locs ls hP hD hS hl => lv_lload hF.1.1 hF.1.2.1 hdg (lv_at hl j hj) (k H locs ls hP hD hS hl)
theorem vr_aload_n (hF : vr_F p s m c cc nL args Ts own D tys A) {k : Fin 4} {i : Nat} {x : Nat} (j : Nat) (hj : lv[j]? = some (i, .ref x)) (hdg : decode cc pc = .ok (.aload_n k, 1)) (hi : (k : Nat) = i) (hp : pc + 1 = pc') (k : vr_W p l e R s m args below meth c D A nL cells slots Q ws pc' lv (.ref x :: rest)) : vr_W p l e R s m args below meth c D A nL cells slots Q ws pc lv (rest) := by
  subst hp
  exact fun H locs ls hP hD hS hl => lv_aload_n hF.1.1 hF.1.2.1 hdg hi (lv_at hl j hj) (k H locs ls hP hD hS hl)
theorem vr_aload (hF : vr_F p s m c cc nL args Ts own D tys A) {i : Nat} {x : Nat} (j : Nat) (hj : lv[j]? = some (i, .ref x)) (hdg : decode cc pc = .ok (.aload i, 2)) (hp : pc + 2 = pc') (k : vr_W p l e R s m args below meth c D A nL cells slots Q ws pc' lv (.ref x :: rest)) : vr_W p l e R s m args below meth c D A nL cells slots Q ws pc lv (rest) := by
  subst hp
  exact fun H locs ls hP hD hS hl => lv_aload hF.1.1 hF.1.2.1 hdg (lv_at hl j hj) (k H locs ls hP hD hS hl)
theorem vr_istore_n (hF : vr_F p s m c cc nL args Ts own D tys A) {k : Fin 4} {i : Nat} {x : Int32} {lv' : List (Nat × Value)} (hdg : decode cc pc = .ok (.istore_n k, 1)) (hi : (k : Nat) = i) (hn : i < nL) (hl' : (i, Value.int x) :: lv.filter (fun q => !(q.1 == i) && !(q.1 + 1 == i && q.2.category == 2)) = lv') (hp : pc + 1 = pc') (k : vr_W p l e R s m args below meth c D A nL cells slots Q ws pc' lv' (rest)) : vr_W p l e R s m args below meth c D A nL cells slots Q ws pc lv (.int x :: rest) := by
  subst hp
  exact fun H locs ls hP hD hS hl => lv_istore_n hF.1.1 hF.1.2.1 hdg hi hl hn hl' (fun ls' h' => k H locs ls' hP hD hS h')
theorem vr_istore (hF : vr_F p s m c cc nL args Ts own D tys A) {i : Nat} {x : Int32} {lv' : List (Nat × Value)} (hdg : decode cc pc = .ok (.istore i, 2)) (hn : i < nL) (hl' : (i, Value.int x) :: lv.filter (fun q => !(q.1 == i) && !(q.1 + 1 == i && q.2.category == 2)) = lv') (hp : pc + 2 = pc') (k : vr_W p l e R s m args below meth c D A nL cells slots Q ws pc' lv' (rest)) : vr_W p l e R s m args below meth c D A nL cells slots Q ws pc lv (.int x :: rest) := by
  subst hp
  exact fun H locs ls hP hD hS hl => lv_istore hF.1.1 hF.1.2.1 hdg hl hn hl' (fun ls' h' => k H locs ls' hP hD hS h')
theorem vr_lstore_n (hF : vr_F p s m c cc nL args Ts own D tys A) {k : Fin 4} {i : Nat} {x : Int64} {lv' : List (Nat × Value)} (hdg : decode cc pc = .ok (.lstore_n k, 1)) (hi : (k : Nat) = i) (hn : i + 1 < nL) (hl' : (i, Value.long x) :: lv.filter (fun q => !(q.1 == i) && (!(q.1 == i + 1) && !(q.1 + 1 == i && q.2.category == 2))) = lv') (hp : pc + 1 = pc') (k : vr_W p l e R s m args below meth c D A nL cells slots Q ws pc' lv' (rest)) : vr_W p l e R s m args below meth c D A nL cells slots Q ws pc lv (.long x :: rest) := by
  subst hp
  exact fun H locs ls hP hD hS hl => lv_lstore_n hF.1.1 hF.1.2.1 hdg hi hl hn hl' (fun ls' h' => k H locs ls' hP hD hS h')
theorem vr_lstore (hF : vr_F p s m c cc nL args Ts own D tys A) {i : Nat} {x : Int64} {lv' : List (Nat × Value)} (hdg : decode cc pc = .ok (.lstore i, 2)) (hn : i + 1 < nL) (hl' : (i, Value.long x) :: lv.filter (fun q => !(q.1 == i) && (!(q.1 == i + 1) && !(q.1 + 1 == i && q.2.category == 2))) = lv') (hp : pc + 2 = pc') (k : vr_W p l e R s m args below meth c D A nL cells slots Q ws pc' lv' (rest)) : vr_W p l e R s m args below meth c D A nL cells slots Q ws pc lv (.long x :: rest) := by
  subst hp
  exact fun H locs ls hP hD hS hl => lv_lstore hF.1.1 hF.1.2.1 hdg hl hn hl' (fun ls' h' => k H locs ls' hP hD hS h')
theorem vr_astore_n (hF : vr_F p s m c cc nL args Ts own D tys A) {k : Fin 4} {i : Nat} {x : Nat} {lv' : List (Nat × Value)} (hdg : decode cc pc = .ok (.astore_n k, 1)) (hi : (k : Nat) = i) (hn : i < nL) (hl' : (i, Value.ref x) :: lv.filter (fun q => !(q.1 == i) && !(q.1 + 1 == i && q.2.category == 2)) = lv') (hp : pc + 1 = pc') (k : vr_W p l e R s m args below meth c D A nL cells slots Q ws pc' lv' (rest)) : vr_W p l e R s m args below meth c D A nL cells slots Q ws pc lv (.ref x :: rest) := by
  subst hp
  exact fun H locs ls hP hD hS hl => lv_astore_n hF.1.1 hF.1.2.1 hdg hi hl hn hl' (fun ls' h' => k H locs ls' hP hD hS h')
theorem vr_astore (hF : vr_F p s m c cc nL args Ts own D tys A) {i : Nat} {x : Nat} {lv' : List (Nat × Value)} (hdg : decode cc pc = .ok (.astore i, 2)) (hn : i < nL) (hl' : (i, Value.ref x) :: lv.filter (fun q => !(q.1 == i) && !(q.1 + 1 == i && q.2.category == 2)) = lv') (hp : pc + 2 = pc') (k : vr_W p l e R s m args below meth c D A nL cells slots Q ws pc' lv' (rest)) : vr_W p l e R s m args below meth c D A nL cells slots Q ws pc lv (.ref x :: rest) := by
  subst hp
  exact fun H locs ls hP hD hS hl => lv_astore hF.1.1 hF.1.2.1 hdg hl hn hl' (fun ls' h' => k H locs ls' hP hD hS h')
theorem vr_iinc (hF : vr_F p s m c cc nL args Ts own D tys A) {i : Nat} {n : Int} {x : Int32} (v : Int32) {lv' : List (Nat × Value)} (j : Nat) (hj : lv[j]? = some (i, .int x)) (hdg : decode cc pc = .ok (.iinc i n, 3)) (hv : x + Int32.ofInt n = v) (hn : i < nL) (hl' : (i, Value.int v) :: lv.filter (fun q => !(q.1 == i) && !(q.1 + 1 == i && q.2.category == 2)) = lv') (hp : pc + 3 = pc') (k : vr_W p l e R s m args below meth c D A nL cells slots Q ws pc' lv' (rest)) : vr_W p l e R s m args below meth c D A nL cells slots Q ws pc lv (rest) := by
  subst hp
  exact fun H locs ls hP hD hS hl => lv_iinc hF.1.1 hF.1.2.1 hdg hl hj hv hn hl' (fun ls' h' => k H locs ls' hP hD hS h')
theorem vr_iadd (hF : vr_F p s m c cc nL args Ts own D tys A) {x y v : Int32} (hdg : decode cc pc = .ok (.iadd, 1)) (hv : x + y = v) (hp : pc + 1 = pc') (k : vr_W p l e R s m args below meth c D A nL cells slots Q ws pc' lv (.int v :: rest)) : vr_W p l e R s m args below meth c D A nL cells slots Q ws pc lv (.int y :: .int x :: rest) := by
  subst hp; subst hv
  exact fun H locs ls hP hD hS hl => lv_iadd hF.1.1 hF.1.2.1 hdg (k H locs ls hP hD hS hl)
theorem vr_isub (hF : vr_F p s m c cc nL args Ts own D tys A) {x y v : Int32} (hdg : decode cc pc = .ok (.isub, 1)) (hv : x - y = v) (hp : pc + 1 = pc') (k : vr_W p l e R s m args below meth c D A nL cells slots Q ws pc' lv (.int v :: rest)) : vr_W p l e R s m args below meth c D A nL cells slots Q ws pc lv (.int y :: .int x :: rest) := by
  subst hp; subst hv
  exact fun H locs ls hP hD hS hl => lv_isub hF.1.1 hF.1.2.1 hdg (k H locs ls hP hD hS hl)
theorem vr_imul (hF : vr_F p s m c cc nL args Ts own D tys A) {x y v : Int32} (hdg : decode cc pc = .ok (.imul, 1)) (hv : x * y = v) (hp : pc + 1 = pc') (k : vr_W p l e R s m args below meth c D A nL cells slots Q ws pc' lv (.int v :: rest)) : vr_W p l e R s m args below meth c D A nL cells slots Q ws pc lv (.int y :: .int x :: rest) := by
  subst hp; subst hv
  exact fun H locs ls hP hD hS hl => lv_imul hF.1.1 hF.1.2.1 hdg (k H locs ls hP hD hS hl)
theorem vr_iand (hF : vr_F p s m c cc nL args Ts own D tys A) {x y v : Int32} (hdg : decode cc pc = .ok (.iand, 1)) (hv : x &&& y = v) (hp : pc + 1 = pc') (k : vr_W p l e R s m args below meth c D A nL cells slots Q ws pc' lv (.int v :: rest)) : vr_W p l e R s m args below meth c D A nL cells slots Q ws pc lv (.int y :: .int x :: rest) := by
  subst hp; subst hv
  exact fun H locs ls hP hD hS hl => lv_iand hF.1.1 hF.1.2.1 hdg (k H locs ls hP hD hS hl)
theorem vr_ior (hF : vr_F p s m c cc nL args Ts own D tys A) {x y v : Int32} (hdg : decode cc pc = .ok (.ior, 1)) (hv : x ||| y = v) (hp : pc + 1 = pc') (k : vr_W p l e R s m args below meth c D A nL cells slots Q ws pc' lv (.int v :: rest)) : vr_W p l e R s m args below meth c D A nL cells slots Q ws pc lv (.int y :: .int x :: rest) := by
  subst hp; subst hv
  exact fun H locs ls hP hD hS hl => lv_ior hF.1.1 hF.1.2.1 hdg (k H locs ls hP hD hS hl)
theorem vr_ixor (hF : vr_F p s m c cc nL args Ts own D tys A) {x y v : Int32} (hdg : decode cc pc = .ok (.ixor, 1)) (hv : x ^^^ y = v) (hp : pc + 1 = pc') (k : vr_W p l e R s m args below meth c D A nL cells slots Q ws pc' lv (.int v :: rest)) : vr_W p l e R s m args below meth c D A nL cells slots Q ws pc lv (.int y :: .int x :: rest) := by
  subst hp; subst hv
  exact fun H locs ls hP hD hS hl => lv_ixor hF.1.1 hF.1.2.1 hdg (k H locs ls hP hD hS hl)
theorem vr_ladd (hF : vr_F p s m c cc nL args Ts own D tys A) {x y v : Int64} (hdg : decode cc pc = .ok (.ladd, 1)) (hv : x + y = v) (hp : pc + 1 = pc') (k : vr_W p l e R s m args below meth c D A nL cells slots Q ws pc' lv (.long v :: rest)) : vr_W p l e R s m args below meth c D A nL cells slots Q ws pc lv (.long y :: .long x :: rest) := by
  subst hp; subst hv
  exact fun H locs ls hP hD hS hl => lv_ladd hF.1.1 hF.1.2.1 hdg (k H locs ls hP hD hS hl)
theorem vr_lsub (hF : vr_F p s m c cc nL args Ts own D tys A) {x y v : Int64} (hdg : decode cc pc = .ok (.lsub, 1)) (hv : x - y = v) (hp : pc + 1 = pc') (k : vr_W p l e R s m args below meth c D A nL cells slots Q ws pc' lv (.long v :: rest)) : vr_W p l e R s m args below meth c D A nL cells slots Q ws pc lv (.long y :: .long x :: rest) := by
  subst hp; subst hv
  exact fun H locs ls hP hD hS hl => lv_lsub hF.1.1 hF.1.2.1 hdg (k H locs ls hP hD hS hl)
theorem vr_lmul (hF : vr_F p s m c cc nL args Ts own D tys A) {x y v : Int64} (hdg : decode cc pc = .ok (.lmul, 1)) (hv : x * y = v) (hp : pc + 1 = pc') (k : vr_W p l e R s m args below meth c D A nL cells slots Q ws pc' lv (.long v :: rest)) : vr_W p l e R s m args below meth c D A nL cells slots Q ws pc lv (.long y :: .long x :: rest) := by
  subst hp; subst hv
  exact fun H locs ls hP hD hS hl => lv_lmul hF.1.1 hF.1.2.1 hdg (k H locs ls hP hD hS hl)
theorem vr_land (hF : vr_F p s m c cc nL args Ts own D tys A) {x y v : Int64} (hdg : decode cc pc = .ok (.land, 1)) (hv : x &&& y = v) (hp : pc + 1 = pc') (k : vr_W p l e R s m args below meth c D A nL cells slots Q ws pc' lv (.long v :: rest)) : vr_W p l e R s m args below meth c D A nL cells slots Q ws pc lv (.long y :: .long x :: rest) := by
  subst hp; subst hv
  exact fun H locs ls hP hD hS hl => lv_land hF.1.1 hF.1.2.1 hdg (k H locs ls hP hD hS hl)
theorem vr_lor (hF : vr_F p s m c cc nL args Ts own D tys A) {x y v : Int64} (hdg : decode cc pc = .ok (.lor, 1)) (hv : x ||| y = v) (hp : pc + 1 = pc') (k : vr_W p l e R s m args below meth c D A nL cells slots Q ws pc' lv (.long v :: rest)) : vr_W p l e R s m args below meth c D A nL cells slots Q ws pc lv (.long y :: .long x :: rest) := by
  subst hp; subst hv
  exact fun H locs ls hP hD hS hl => lv_lor hF.1.1 hF.1.2.1 hdg (k H locs ls hP hD hS hl)
theorem vr_lxor (hF : vr_F p s m c cc nL args Ts own D tys A) {x y v : Int64} (hdg : decode cc pc = .ok (.lxor, 1)) (hv : x ^^^ y = v) (hp : pc + 1 = pc') (k : vr_W p l e R s m args below meth c D A nL cells slots Q ws pc' lv (.long v :: rest)) : vr_W p l e R s m args below meth c D A nL cells slots Q ws pc lv (.long y :: .long x :: rest) := by
  subst hp; subst hv
  exact fun H locs ls hP hD hS hl => lv_lxor hF.1.1 hF.1.2.1 hdg (k H locs ls hP hD hS hl)
theorem vr_idiv (hF : vr_F p s m c cc nL args Ts own D tys A) {x y v : Int32} (hdg : decode cc pc = .ok (.idiv, 1)) (hne : ¬ y = 0) (hv : x / y = v) (hp : pc + 1 = pc') (k : vr_W p l e R s m args below meth c D A nL cells slots Q ws pc' lv (.int v :: rest)) : vr_W p l e R s m args below meth c D A nL cells slots Q ws pc lv (.int y :: .int x :: rest) := by
  subst hp; subst hv
  exact fun H locs ls hP hD hS hl => lv_idiv hF.1.1 hF.1.2.1 hdg hne (k H locs ls hP hD hS hl)
theorem vr_irem (hF : vr_F p s m c cc nL args Ts own D tys A) {x y v : Int32} (hdg : decode cc pc = .ok (.irem, 1)) (hne : ¬ y = 0) (hv : x - x / y * y = v) (hp : pc + 1 = pc') (k : vr_W p l e R s m args below meth c D A nL cells slots Q ws pc' lv (.int v :: rest)) : vr_W p l e R s m args below meth c D A nL cells slots Q ws pc lv (.int y :: .int x :: rest) := by
  subst hp; subst hv
  exact fun H locs ls hP hD hS hl => lv_irem hF.1.1 hF.1.2.1 hdg hne (k H locs ls hP hD hS hl)
theorem vr_ineg (hF : vr_F p s m c cc nL args Ts own D tys A) {x v : Int32} (hdg : decode cc pc = .ok (.ineg, 1)) (hv : -x = v) (hp : pc + 1 = pc') (k : vr_W p l e R s m args below meth c D A nL cells slots Q ws pc' lv (.int v :: rest)) : vr_W p l e R s m args below meth c D A nL cells slots Q ws pc lv (.int x :: rest) := by
  subst hp; subst hv
  exact fun H locs ls hP hD hS hl => lv_ineg hF.1.1 hF.1.2.1 hdg (k H locs ls hP hD hS hl)
theorem vr_i2l (hF : vr_F p s m c cc nL args Ts own D tys A) {x : Int32} {v : Int64} (hdg : decode cc pc = .ok (.i2l, 1)) (hv : x.toInt64 = v) (hp : pc + 1 = pc') (k : vr_W p l e R s m args below meth c D A nL cells slots Q ws pc' lv (.long v :: rest)) : vr_W p l e R s m args below meth c D A nL cells slots Q ws pc lv (.int x :: rest) := by
  subst hp
  exact fun H locs ls hP hD hS hl => lv_i2l hF.1.1 hF.1.2.1 hdg hv (k H locs ls hP hD hS hl)
theorem vr_l2i (hF : vr_F p s m c cc nL args Ts own D tys A) {x : Int64} {v : Int32} (hdg : decode cc pc = .ok (.l2i, 1)) (hv : x.toInt32 = v) (hp : pc + 1 = pc') (k : vr_W p l e R s m args below meth c D A nL cells slots Q ws pc' lv (.int v :: rest)) : vr_W p l e R s m args below meth c D A nL cells slots Q ws pc lv (.long x :: rest) := by
  subst hp
  exact fun H locs ls hP hD hS hl => lv_l2i hF.1.1 hF.1.2.1 hdg hv (k H locs ls hP hD hS hl)
theorem vr_lshl (hF : vr_F p s m c cc nL args Ts own D tys A) {x v : Int64} {y : Int32} (hdg : decode cc pc = .ok (.lshl, 1)) (hv : x <<< (y.toInt64 &&& 63) = v) (hp : pc + 1 = pc') (k : vr_W p l e R s m args below meth c D A nL cells slots Q ws pc' lv (.long v :: rest)) : vr_W p l e R s m args below meth c D A nL cells slots Q ws pc lv (.int y :: .long x :: rest) := by
  subst hp
  exact fun H locs ls hP hD hS hl => lv_lshl hF.1.1 hF.1.2.1 hdg hv (k H locs ls hP hD hS hl)
theorem vr_ishl (hF : vr_F p s m c cc nL args Ts own D tys A) {x y v : Int32} (hdg : decode cc pc = .ok (.ishl, 1)) (hv : x <<< (y &&& 31) = v) (hp : pc + 1 = pc') (k : vr_W p l e R s m args below meth c D A nL cells slots Q ws pc' lv (.int v :: rest)) : vr_W p l e R s m args below meth c D A nL cells slots Q ws pc lv (.int y :: .int x :: rest) := by
  subst hp; subst hv
  exact fun H locs ls hP hD hS hl => lv_ishl hF.1.1 hF.1.2.1 hdg (k H locs ls hP hD hS hl)
theorem vr_dup (hF : vr_F p s m c cc nL args Ts own D tys A) {va : Value} (hdg : decode cc pc = .ok (.dup, 1)) (hva : va.category = 1) (hp : pc + 1 = pc') (k : vr_W p l e R s m args below meth c D A nL cells slots Q ws pc' lv (va :: va :: rest)) : vr_W p l e R s m args below meth c D A nL cells slots Q ws pc lv (va :: rest) := by
  subst hp
  exact fun H locs ls hP hD hS hl => lv_dup hF.1.1 hF.1.2.1 hdg hva (k H locs ls hP hD hS hl)
theorem vr_pop (hF : vr_F p s m c cc nL args Ts own D tys A) {va : Value} (hdg : decode cc pc = .ok (.pop, 1)) (hva : va.category = 1) (hp : pc + 1 = pc') (k : vr_W p l e R s m args below meth c D A nL cells slots Q ws pc' lv (rest)) : vr_W p l e R s m args below meth c D A nL cells slots Q ws pc lv (va :: rest) := by
  subst hp
  exact fun H locs ls hP hD hS hl => lv_pop hF.1.1 hF.1.2.1 hdg hva (k H locs ls hP hD hS hl)
theorem vr_dup2_11 (hF : vr_F p s m c cc nL args Ts own D tys A) {va vb : Value} (hdg : decode cc pc = .ok (.dup2, 1)) (hva : va.category = 1) (hvb : vb.category = 1) (hp : pc + 1 = pc') (k : vr_W p l e R s m args below meth c D A nL cells slots Q ws pc' lv (va :: vb :: va :: vb :: rest)) : vr_W p l e R s m args below meth c D A nL cells slots Q ws pc lv (va :: vb :: rest) := by
  subst hp
  exact fun H locs ls hP hD hS hl => lv_dup2_11 hF.1.1 hF.1.2.1 hdg hva hvb (k H locs ls hP hD hS hl)
theorem vr_dup_x1 (hF : vr_F p s m c cc nL args Ts own D tys A) {va vb : Value} (hdg : decode cc pc = .ok (.dup_x1, 1)) (hva : va.category = 1) (hvb : vb.category = 1) (hp : pc + 1 = pc') (k : vr_W p l e R s m args below meth c D A nL cells slots Q ws pc' lv (va :: vb :: va :: rest)) : vr_W p l e R s m args below meth c D A nL cells slots Q ws pc lv (va :: vb :: rest) := by
  subst hp
  exact fun H locs ls hP hD hS hl => lv_dup_x1 hF.1.1 hF.1.2.1 hdg hva hvb (k H locs ls hP hD hS hl)
theorem vr_if_eq (hF : vr_F p s m c cc nL args Ts own D tys A) {x : Int32} {off : Int} (hdg : decode cc pc = .ok (.ifCond .eq off, 3)) (ht : (pc : Int) + off = (tgt : Int)) (hp : pc + 3 = pc') (kt : x = 0 → vr_W p l e R s m args below meth c D A nL cells slots Q ws tgt lv rest) (kf : ¬ x = 0 → vr_W p l e R s m args below meth c D A nL cells slots Q ws pc' lv rest) : vr_W p l e R s m args below meth c D A nL cells slots Q ws pc lv (.int x :: rest) := by
  subst hp
  exact fun H locs ls hP hD hS hl => lv_if_eq hF.1.1 hF.1.2.1 hdg ht (fun q => kt q H locs ls hP hD hS hl) (fun q => kf q H locs ls hP hD hS hl)
theorem vr_icmp_eq (hF : vr_F p s m c cc nL args Ts own D tys A) {x y : Int32} {off : Int} (hdg : decode cc pc = .ok (.if_icmp .eq off, 3)) (ht : (pc : Int) + off = (tgt : Int)) (hp : pc + 3 = pc') (kt : x = y → vr_W p l e R s m args below meth c D A nL cells slots Q ws tgt lv rest) (kf : ¬ x = y → vr_W p l e R s m args below meth c D A nL cells slots Q ws pc' lv rest) : vr_W p l e R s m args below meth c D A nL cells slots Q ws pc lv (.int y :: .int x :: rest) := by
  subst hp
  exact fun H locs ls hP hD hS hl => lv_icmp_eq hF.1.1 hF.1.2.1 hdg ht (fun q => kt q H locs ls hP hD hS hl) (fun q => kf q H locs ls hP hD hS hl)
theorem vr_icmp_eqN (hF : vr_F p s m c cc nL args Ts own D tys A) {x y : Nat} (hx : x < 2 ^ 31) (hy : y < 2 ^ 31) {off : Int} (hdg : decode cc pc = .ok (.if_icmp .eq off, 3)) (ht : (pc : Int) + off = (tgt : Int)) (hp : pc + 3 = pc') (kt : x = y → vr_W p l e R s m args below meth c D A nL cells slots Q ws tgt lv rest) (kf : ¬ x = y → vr_W p l e R s m args below meth c D A nL cells slots Q ws pc' lv rest) : vr_W p l e R s m args below meth c D A nL cells slots Q ws pc lv (.int (nI y) :: .int (nI x) :: rest) := by
  subst hp
  exact fun H locs ls hP hD hS hl => lv_icmp_eq hF.1.1 hF.1.2.1 hdg ht (fun q => kt ((nI_eq hx hy).mp q) H locs ls hP hD hS hl) (fun q => kf (fun z => q ((nI_eq hx hy).mpr z)) H locs ls hP hD hS hl)
theorem vr_if_ne (hF : vr_F p s m c cc nL args Ts own D tys A) {x : Int32} {off : Int} (hdg : decode cc pc = .ok (.ifCond .ne off, 3)) (ht : (pc : Int) + off = (tgt : Int)) (hp : pc + 3 = pc') (kt : ¬ x = 0 → vr_W p l e R s m args below meth c D A nL cells slots Q ws tgt lv rest) (kf : x = 0 → vr_W p l e R s m args below meth c D A nL cells slots Q ws pc' lv rest) : vr_W p l e R s m args below meth c D A nL cells slots Q ws pc lv (.int x :: rest) := by
  subst hp
  exact fun H locs ls hP hD hS hl => lv_if_ne hF.1.1 hF.1.2.1 hdg ht (fun q => kt q H locs ls hP hD hS hl) (fun q => kf q H locs ls hP hD hS hl)
theorem vr_icmp_ne (hF : vr_F p s m c cc nL args Ts own D tys A) {x y : Int32} {off : Int} (hdg : decode cc pc = .ok (.if_icmp .ne off, 3)) (ht : (pc : Int) + off = (tgt : Int)) (hp : pc + 3 = pc') (kt : ¬ x = y → vr_W p l e R s m args below meth c D A nL cells slots Q ws tgt lv rest) (kf : x = y → vr_W p l e R s m args below meth c D A nL cells slots Q ws pc' lv rest) : vr_W p l e R s m args below meth c D A nL cells slots Q ws pc lv (.int y :: .int x :: rest) := by
  subst hp
  exact fun H locs ls hP hD hS hl => lv_icmp_ne hF.1.1 hF.1.2.1 hdg ht (fun q => kt q H locs ls hP hD hS hl) (fun q => kf q H locs ls hP hD hS hl)
theorem vr_icmp_neN (hF : vr_F p s m c cc nL args Ts own D tys A) {x y : Nat} (hx : x < 2 ^ 31) (hy : y < 2 ^ 31) {off : Int} (hdg : decode cc pc = .ok (.if_icmp .ne off, 3)) (ht : (pc : Int) + off = (tgt : Int)) (hp : pc + 3 = pc') (kt : ¬ x = y → vr_W p l e R s m args below meth c D A nL cells slots Q ws tgt lv rest) (kf : x = y → vr_W p l e R s m args below meth c D A nL cells slots Q ws pc' lv rest) : vr_W p l e R s m args below meth c D A nL cells slots Q ws pc lv (.int (nI y) :: .int (nI x) :: rest) := by
  subst hp
  exact fun H locs ls hP hD hS hl => lv_icmp_ne hF.1.1 hF.1.2.1 hdg ht (fun q => kt (fun z => q ((nI_eq hx hy).mpr z)) H locs ls hP hD hS hl) (fun q => kf ((nI_eq hx hy).mp q) H locs ls hP hD hS hl)
theorem vr_if_lt (hF : vr_F p s m c cc nL args Ts own D tys A) {x : Int32} {off : Int} (hdg : decode cc pc = .ok (.ifCond .lt off, 3)) (ht : (pc : Int) + off = (tgt : Int)) (hp : pc + 3 = pc') (kt : x < 0 → vr_W p l e R s m args below meth c D A nL cells slots Q ws tgt lv rest) (kf : ¬ x < 0 → vr_W p l e R s m args below meth c D A nL cells slots Q ws pc' lv rest) : vr_W p l e R s m args below meth c D A nL cells slots Q ws pc lv (.int x :: rest) := by
  subst hp
  exact fun H locs ls hP hD hS hl => lv_if_lt hF.1.1 hF.1.2.1 hdg ht (fun q => kt q H locs ls hP hD hS hl) (fun q => kf q H locs ls hP hD hS hl)
theorem vr_icmp_lt (hF : vr_F p s m c cc nL args Ts own D tys A) {x y : Int32} {off : Int} (hdg : decode cc pc = .ok (.if_icmp .lt off, 3)) (ht : (pc : Int) + off = (tgt : Int)) (hp : pc + 3 = pc') (kt : x < y → vr_W p l e R s m args below meth c D A nL cells slots Q ws tgt lv rest) (kf : ¬ x < y → vr_W p l e R s m args below meth c D A nL cells slots Q ws pc' lv rest) : vr_W p l e R s m args below meth c D A nL cells slots Q ws pc lv (.int y :: .int x :: rest) := by
  subst hp
  exact fun H locs ls hP hD hS hl => lv_icmp_lt hF.1.1 hF.1.2.1 hdg ht (fun q => kt q H locs ls hP hD hS hl) (fun q => kf q H locs ls hP hD hS hl)
theorem vr_icmp_ltN (hF : vr_F p s m c cc nL args Ts own D tys A) {x y : Nat} (hx : x < 2 ^ 31) (hy : y < 2 ^ 31) {off : Int} (hdg : decode cc pc = .ok (.if_icmp .lt off, 3)) (ht : (pc : Int) + off = (tgt : Int)) (hp : pc + 3 = pc') (kt : x < y → vr_W p l e R s m args below meth c D A nL cells slots Q ws tgt lv rest) (kf : ¬ x < y → vr_W p l e R s m args below meth c D A nL cells slots Q ws pc' lv rest) : vr_W p l e R s m args below meth c D A nL cells slots Q ws pc lv (.int (nI y) :: .int (nI x) :: rest) := by
  subst hp
  exact fun H locs ls hP hD hS hl => lv_icmp_lt hF.1.1 hF.1.2.1 hdg ht (fun q => kt ((nI_ltI hx hy).mp q) H locs ls hP hD hS hl) (fun q => kf (fun z => q ((nI_ltI hx hy).mpr z)) H locs ls hP hD hS hl)
theorem vr_if_ge (hF : vr_F p s m c cc nL args Ts own D tys A) {x : Int32} {off : Int} (hdg : decode cc pc = .ok (.ifCond .ge off, 3)) (ht : (pc : Int) + off = (tgt : Int)) (hp : pc + 3 = pc') (kt : 0 ≤ x → vr_W p l e R s m args below meth c D A nL cells slots Q ws tgt lv rest) (kf : ¬ 0 ≤ x → vr_W p l e R s m args below meth c D A nL cells slots Q ws pc' lv rest) : vr_W p l e R s m args below meth c D A nL cells slots Q ws pc lv (.int x :: rest) := by
  subst hp
  exact fun H locs ls hP hD hS hl => lv_if_ge hF.1.1 hF.1.2.1 hdg ht (fun q => kt q H locs ls hP hD hS hl) (fun q => kf q H locs ls hP hD hS hl)
theorem vr_icmp_ge (hF : vr_F p s m c cc nL args Ts own D tys A) {x y : Int32} {off : Int} (hdg : decode cc pc = .ok (.if_icmp .ge off, 3)) (ht : (pc : Int) + off = (tgt : Int)) (hp : pc + 3 = pc') (kt : y ≤ x → vr_W p l e R s m args below meth c D A nL cells slots Q ws tgt lv rest) (kf : ¬ y ≤ x → vr_W p l e R s m args below meth c D A nL cells slots Q ws pc' lv rest) : vr_W p l e R s m args below meth c D A nL cells slots Q ws pc lv (.int y :: .int x :: rest) := by
  subst hp
  exact fun H locs ls hP hD hS hl => lv_icmp_ge hF.1.1 hF.1.2.1 hdg ht (fun q => kt q H locs ls hP hD hS hl) (fun q => kf q H locs ls hP hD hS hl)
theorem vr_icmp_geN (hF : vr_F p s m c cc nL args Ts own D tys A) {x y : Nat} (hx : x < 2 ^ 31) (hy : y < 2 ^ 31) {off : Int} (hdg : decode cc pc = .ok (.if_icmp .ge off, 3)) (ht : (pc : Int) + off = (tgt : Int)) (hp : pc + 3 = pc') (kt : y ≤ x → vr_W p l e R s m args below meth c D A nL cells slots Q ws tgt lv rest) (kf : ¬ y ≤ x → vr_W p l e R s m args below meth c D A nL cells slots Q ws pc' lv rest) : vr_W p l e R s m args below meth c D A nL cells slots Q ws pc lv (.int (nI y) :: .int (nI x) :: rest) := by
  subst hp
  exact fun H locs ls hP hD hS hl => lv_icmp_ge hF.1.1 hF.1.2.1 hdg ht (fun q => kt ((nI_leI hy hx).mp q) H locs ls hP hD hS hl) (fun q => kf (fun z => q ((nI_leI hy hx).mpr z)) H locs ls hP hD hS hl)
theorem vr_if_gt (hF : vr_F p s m c cc nL args Ts own D tys A) {x : Int32} {off : Int} (hdg : decode cc pc = .ok (.ifCond .gt off, 3)) (ht : (pc : Int) + off = (tgt : Int)) (hp : pc + 3 = pc') (kt : 0 < x → vr_W p l e R s m args below meth c D A nL cells slots Q ws tgt lv rest) (kf : ¬ 0 < x → vr_W p l e R s m args below meth c D A nL cells slots Q ws pc' lv rest) : vr_W p l e R s m args below meth c D A nL cells slots Q ws pc lv (.int x :: rest) := by
  subst hp
  exact fun H locs ls hP hD hS hl => lv_if_gt hF.1.1 hF.1.2.1 hdg ht (fun q => kt q H locs ls hP hD hS hl) (fun q => kf q H locs ls hP hD hS hl)
theorem vr_icmp_gt (hF : vr_F p s m c cc nL args Ts own D tys A) {x y : Int32} {off : Int} (hdg : decode cc pc = .ok (.if_icmp .gt off, 3)) (ht : (pc : Int) + off = (tgt : Int)) (hp : pc + 3 = pc') (kt : y < x → vr_W p l e R s m args below meth c D A nL cells slots Q ws tgt lv rest) (kf : ¬ y < x → vr_W p l e R s m args below meth c D A nL cells slots Q ws pc' lv rest) : vr_W p l e R s m args below meth c D A nL cells slots Q ws pc lv (.int y :: .int x :: rest) := by
  subst hp
  exact fun H locs ls hP hD hS hl => lv_icmp_gt hF.1.1 hF.1.2.1 hdg ht (fun q => kt q H locs ls hP hD hS hl) (fun q => kf q H locs ls hP hD hS hl)
theorem vr_icmp_gtN (hF : vr_F p s m c cc nL args Ts own D tys A) {x y : Nat} (hx : x < 2 ^ 31) (hy : y < 2 ^ 31) {off : Int} (hdg : decode cc pc = .ok (.if_icmp .gt off, 3)) (ht : (pc : Int) + off = (tgt : Int)) (hp : pc + 3 = pc') (kt : y < x → vr_W p l e R s m args below meth c D A nL cells slots Q ws tgt lv rest) (kf : ¬ y < x → vr_W p l e R s m args below meth c D A nL cells slots Q ws pc' lv rest) : vr_W p l e R s m args below meth c D A nL cells slots Q ws pc lv (.int (nI y) :: .int (nI x) :: rest) := by
  subst hp
  exact fun H locs ls hP hD hS hl => lv_icmp_gt hF.1.1 hF.1.2.1 hdg ht (fun q => kt ((nI_ltI hy hx).mp q) H locs ls hP hD hS hl) (fun q => kf (fun z => q ((nI_ltI hy hx).mpr z)) H locs ls hP hD hS hl)
theorem vr_if_le (hF : vr_F p s m c cc nL args Ts own D tys A) {x : Int32} {off : Int} (hdg : decode cc pc = .ok (.ifCond .le off, 3)) (ht : (pc : Int) + off = (tgt : Int)) (hp : pc + 3 = pc') (kt : x ≤ 0 → vr_W p l e R s m args below meth c D A nL cells slots Q ws tgt lv rest) (kf : ¬ x ≤ 0 → vr_W p l e R s m args below meth c D A nL cells slots Q ws pc' lv rest) : vr_W p l e R s m args below meth c D A nL cells slots Q ws pc lv (.int x :: rest) := by
  subst hp
  exact fun H locs ls hP hD hS hl => lv_if_le hF.1.1 hF.1.2.1 hdg ht (fun q => kt q H locs ls hP hD hS hl) (fun q => kf q H locs ls hP hD hS hl)
theorem vr_icmp_le (hF : vr_F p s m c cc nL args Ts own D tys A) {x y : Int32} {off : Int} (hdg : decode cc pc = .ok (.if_icmp .le off, 3)) (ht : (pc : Int) + off = (tgt : Int)) (hp : pc + 3 = pc') (kt : x ≤ y → vr_W p l e R s m args below meth c D A nL cells slots Q ws tgt lv rest) (kf : ¬ x ≤ y → vr_W p l e R s m args below meth c D A nL cells slots Q ws pc' lv rest) : vr_W p l e R s m args below meth c D A nL cells slots Q ws pc lv (.int y :: .int x :: rest) := by
  subst hp
  exact fun H locs ls hP hD hS hl => lv_icmp_le hF.1.1 hF.1.2.1 hdg ht (fun q => kt q H locs ls hP hD hS hl) (fun q => kf q H locs ls hP hD hS hl)
theorem vr_icmp_leN (hF : vr_F p s m c cc nL args Ts own D tys A) {x y : Nat} (hx : x < 2 ^ 31) (hy : y < 2 ^ 31) {off : Int} (hdg : decode cc pc = .ok (.if_icmp .le off, 3)) (ht : (pc : Int) + off = (tgt : Int)) (hp : pc + 3 = pc') (kt : x ≤ y → vr_W p l e R s m args below meth c D A nL cells slots Q ws tgt lv rest) (kf : ¬ x ≤ y → vr_W p l e R s m args below meth c D A nL cells slots Q ws pc' lv rest) : vr_W p l e R s m args below meth c D A nL cells slots Q ws pc lv (.int (nI y) :: .int (nI x) :: rest) := by
  subst hp
  exact fun H locs ls hP hD hS hl => lv_icmp_le hF.1.1 hF.1.2.1 hdg ht (fun q => kt ((nI_leI hx hy).mp q) H locs ls hP hD hS hl) (fun q => kf (fun z => q ((nI_leI hx hy).mpr z)) H locs ls hP hD hS hl)
theorem vr_if_eqN (hF : vr_F p s m c cc nL args Ts own D tys A) {x : Nat} (hx : x < 2 ^ 31) {off : Int} (hdg : decode cc pc = .ok (.ifCond .eq off, 3)) (ht : (pc : Int) + off = (tgt : Int)) (hp : pc + 3 = pc') (kt : x = 0 → vr_W p l e R s m args below meth c D A nL cells slots Q ws tgt lv rest) (kf : ¬ x = 0 → vr_W p l e R s m args below meth c D A nL cells slots Q ws pc' lv rest) : vr_W p l e R s m args below meth c D A nL cells slots Q ws pc lv (.int (nI x) :: rest) := by
  subst hp
  exact fun H locs ls hP hD hS hl => lv_if_eq hF.1.1 hF.1.2.1 hdg ht (fun q => kt ((nI_eq hx (by decide)).mp (q.trans vr_b0)) H locs ls hP hD hS hl) (fun q => kf (fun z => q (by rw [z]; rfl)) H locs ls hP hD hS hl)
theorem vr_if_neN (hF : vr_F p s m c cc nL args Ts own D tys A) {x : Nat} (hx : x < 2 ^ 31) {off : Int} (hdg : decode cc pc = .ok (.ifCond .ne off, 3)) (ht : (pc : Int) + off = (tgt : Int)) (hp : pc + 3 = pc') (kt : ¬ x = 0 → vr_W p l e R s m args below meth c D A nL cells slots Q ws tgt lv rest) (kf : x = 0 → vr_W p l e R s m args below meth c D A nL cells slots Q ws pc' lv rest) : vr_W p l e R s m args below meth c D A nL cells slots Q ws pc lv (.int (nI x) :: rest) := by
  subst hp
  exact fun H locs ls hP hD hS hl => lv_if_ne hF.1.1 hF.1.2.1 hdg ht (fun q => kt (fun z => q (by rw [z]; rfl)) H locs ls hP hD hS hl) (fun q => kf ((nI_eq hx (by decide)).mp (q.trans vr_b0)) H locs ls hP hD hS hl)
theorem vr_if_eqB (hF : vr_F p s m c cc nL args Ts own D tys A) {b : Bool} {off : Int} (hdg : decode cc pc = .ok (.ifCond .eq off, 3)) (ht : (pc : Int) + off = (tgt : Int)) (hp : pc + 3 = pc') (kt : b = false → vr_W p l e R s m args below meth c D A nL cells slots Q ws tgt lv rest) (kf : b = true → vr_W p l e R s m args below meth c D A nL cells slots Q ws pc' lv rest) : vr_W p l e R s m args below meth c D A nL cells slots Q ws pc lv (.int (vr_b b) :: rest) := by
  subst hp
  exact fun H locs ls hP hD hS hl => lv_if_eq hF.1.1 hF.1.2.1 hdg ht (fun q => kt ((vr_b_eq0 b).mp q) H locs ls hP hD hS hl) (fun q => kf (by cases b; exact absurd rfl q; rfl) H locs ls hP hD hS hl)
theorem vr_if_neB (hF : vr_F p s m c cc nL args Ts own D tys A) {b : Bool} {off : Int} (hdg : decode cc pc = .ok (.ifCond .ne off, 3)) (ht : (pc : Int) + off = (tgt : Int)) (hp : pc + 3 = pc') (kt : b = true → vr_W p l e R s m args below meth c D A nL cells slots Q ws tgt lv rest) (kf : b = false → vr_W p l e R s m args below meth c D A nL cells slots Q ws pc' lv rest) : vr_W p l e R s m args below meth c D A nL cells slots Q ws pc lv (.int (vr_b b) :: rest) := by
  subst hp
  exact fun H locs ls hP hD hS hl => lv_if_ne hF.1.1 hF.1.2.1 hdg ht (fun q => kt (by cases b; exact absurd rfl q; rfl) H locs ls hP hD hS hl) (fun q => kf ((vr_b_eq0 b).mp q) H locs ls hP hD hS hl)
theorem vr_lcmp_eq (hF : vr_F p s m c cc nL args Ts own D tys A) {x y : Int64} {off : Int} (hdg : decode cc pc = .ok (.lcmp, 1)) (hd2 : decode cc (pc + 1) = .ok (.ifCond .eq off, 3)) (ht : ((pc + 1 : Nat) : Int) + off = (tgt : Int)) (hp : pc + 1 + 3 = pc') (kt : x = y → vr_W p l e R s m args below meth c D A nL cells slots Q ws tgt lv rest) (kf : ¬ x = y → vr_W p l e R s m args below meth c D A nL cells slots Q ws pc' lv rest) : vr_W p l e R s m args below meth c D A nL cells slots Q ws pc lv (.long y :: .long x :: rest) := by
  subst hp
  exact fun H locs ls hP hD hS hl => W.lcmp hF.1.1 hF.1.2.1 hdg (lv_if_eq hF.1.1 hF.1.2.1 hd2 ht (fun q => kt ((lg_cmp_eq x y).mp q) H locs ls hP hD hS hl) (fun q => kf (fun z => q ((lg_cmp_eq x y).mpr z)) H locs ls hP hD hS hl))
theorem vr_lcmp_ne (hF : vr_F p s m c cc nL args Ts own D tys A) {x y : Int64} {off : Int} (hdg : decode cc pc = .ok (.lcmp, 1)) (hd2 : decode cc (pc + 1) = .ok (.ifCond .ne off, 3)) (ht : ((pc + 1 : Nat) : Int) + off = (tgt : Int)) (hp : pc + 1 + 3 = pc') (kt : ¬ x = y → vr_W p l e R s m args below meth c D A nL cells slots Q ws tgt lv rest) (kf : x = y → vr_W p l e R s m args below meth c D A nL cells slots Q ws pc' lv rest) : vr_W p l e R s m args below meth c D A nL cells slots Q ws pc lv (.long y :: .long x :: rest) := by
  subst hp
  exact fun H locs ls hP hD hS hl => W.lcmp hF.1.1 hF.1.2.1 hdg (lv_if_ne hF.1.1 hF.1.2.1 hd2 ht (fun q => kt (fun z => q ((lg_cmp_eq x y).mpr z)) H locs ls hP hD hS hl) (fun q => kf ((lg_cmp_eq x y).mp q) H locs ls hP hD hS hl))
theorem vr_lcmp_lt (hF : vr_F p s m c cc nL args Ts own D tys A) {x y : Int64} {off : Int} (hdg : decode cc pc = .ok (.lcmp, 1)) (hd2 : decode cc (pc + 1) = .ok (.ifCond .lt off, 3)) (ht : ((pc + 1 : Nat) : Int) + off = (tgt : Int)) (hp : pc + 1 + 3 = pc') (kt : x < y → vr_W p l e R s m args below meth c D A nL cells slots Q ws tgt lv rest) (kf : ¬ x < y → vr_W p l e R s m args below meth c D A nL cells slots Q ws pc' lv rest) : vr_W p l e R s m args below meth c D A nL cells slots Q ws pc lv (.long y :: .long x :: rest) := by
  subst hp
  exact fun H locs ls hP hD hS hl => W.lcmp hF.1.1 hF.1.2.1 hdg (lv_if_lt hF.1.1 hF.1.2.1 hd2 ht (fun q => kt ((lg_cmp_lt x y).mp q) H locs ls hP hD hS hl) (fun q => kf (fun z => q ((lg_cmp_lt x y).mpr z)) H locs ls hP hD hS hl))
theorem vr_lcmp_ge (hF : vr_F p s m c cc nL args Ts own D tys A) {x y : Int64} {off : Int} (hdg : decode cc pc = .ok (.lcmp, 1)) (hd2 : decode cc (pc + 1) = .ok (.ifCond .ge off, 3)) (ht : ((pc + 1 : Nat) : Int) + off = (tgt : Int)) (hp : pc + 1 + 3 = pc') (kt : y ≤ x → vr_W p l e R s m args below meth c D A nL cells slots Q ws tgt lv rest) (kf : ¬ y ≤ x → vr_W p l e R s m args below meth c D A nL cells slots Q ws pc' lv rest) : vr_W p l e R s m args below meth c D A nL cells slots Q ws pc lv (.long y :: .long x :: rest) := by
  subst hp
  exact fun H locs ls hP hD hS hl => W.lcmp hF.1.1 hF.1.2.1 hdg (lv_if_ge hF.1.1 hF.1.2.1 hd2 ht (fun q => kt ((lg_cmp_ge x y).mp q) H locs ls hP hD hS hl) (fun q => kf (fun z => q ((lg_cmp_ge x y).mpr z)) H locs ls hP hD hS hl))
theorem vr_lcmp_gt (hF : vr_F p s m c cc nL args Ts own D tys A) {x y : Int64} {off : Int} (hdg : decode cc pc = .ok (.lcmp, 1)) (hd2 : decode cc (pc + 1) = .ok (.ifCond .gt off, 3)) (ht : ((pc + 1 : Nat) : Int) + off = (tgt : Int)) (hp : pc + 1 + 3 = pc') (kt : y < x → vr_W p l e R s m args below meth c D A nL cells slots Q ws tgt lv rest) (kf : ¬ y < x → vr_W p l e R s m args below meth c D A nL cells slots Q ws pc' lv rest) : vr_W p l e R s m args below meth c D A nL cells slots Q ws pc lv (.long y :: .long x :: rest) := by
  subst hp
  exact fun H locs ls hP hD hS hl => W.lcmp hF.1.1 hF.1.2.1 hdg (lv_if_gt hF.1.1 hF.1.2.1 hd2 ht (fun q => kt ((lg_cmp_gt x y).mp q) H locs ls hP hD hS hl) (fun q => kf (fun z => q ((lg_cmp_gt x y).mpr z)) H locs ls hP hD hS hl))
theorem vr_lcmp_le (hF : vr_F p s m c cc nL args Ts own D tys A) {x y : Int64} {off : Int} (hdg : decode cc pc = .ok (.lcmp, 1)) (hd2 : decode cc (pc + 1) = .ok (.ifCond .le off, 3)) (ht : ((pc + 1 : Nat) : Int) + off = (tgt : Int)) (hp : pc + 1 + 3 = pc') (kt : x ≤ y → vr_W p l e R s m args below meth c D A nL cells slots Q ws tgt lv rest) (kf : ¬ x ≤ y → vr_W p l e R s m args below meth c D A nL cells slots Q ws pc' lv rest) : vr_W p l e R s m args below meth c D A nL cells slots Q ws pc lv (.long y :: .long x :: rest) := by
  subst hp
  exact fun H locs ls hP hD hS hl => W.lcmp hF.1.1 hF.1.2.1 hdg (lv_if_le hF.1.1 hF.1.2.1 hd2 ht (fun q => kt ((lg_cmp_le x y).mp q) H locs ls hP hD hS hl) (fun q => kf (fun z => q ((lg_cmp_le x y).mpr z)) H locs ls hP hD hS hl))
theorem vr_if_ltN (hF : vr_F p s m c cc nL args Ts own D tys A) {x : Nat} (hx : x < 2 ^ 31) {off : Int} (hdg : decode cc pc = .ok (.ifCond .lt off, 3)) (ht : (pc : Int) + off = (tgt : Int)) (hp : pc + 3 = pc') (k : vr_W p l e R s m args below meth c D A nL cells slots Q ws pc' lv rest) : vr_W p l e R s m args below meth c D A nL cells slots Q ws pc lv (.int (nI x) :: rest) := by
  subst hp
  exact fun H locs ls hP hD hS hl => lv_if_lt hF.1.1 hF.1.2.1 hdg ht (fun q => absurd q (nI_pos hx)) (fun _ => k H locs ls hP hD hS hl)
theorem vr_if_geN (hF : vr_F p s m c cc nL args Ts own D tys A) {x : Nat} (hx : x < 2 ^ 31) {off : Int} (hdg : decode cc pc = .ok (.ifCond .ge off, 3)) (ht : (pc : Int) + off = (tgt : Int)) (k : vr_W p l e R s m args below meth c D A nL cells slots Q ws tgt lv rest) : vr_W p l e R s m args below meth c D A nL cells slots Q ws pc lv (.int (nI x) :: rest) :=
  fun H locs ls hP hD hS hl => lv_if_ge hF.1.1 hF.1.2.1 hdg ht (fun _ => k H locs ls hP hD hS hl) (fun q => absurd (nI_pos' hx) q)
theorem vr_goto (hF : vr_F p s m c cc nL args Ts own D tys A) {off : Int} {st : List Value} (hdg : decode cc pc = .ok (.goto off, 3)) (ht : (pc : Int) + off = (tgt : Int)) (k : vr_W p l e R s m args below meth c D A nL cells slots Q ws tgt lv st) : vr_W p l e R s m args below meth c D A nL cells slots Q ws pc lv st :=
  fun H locs ls hP hD hS hl => lv_goto hF.1.1 hF.1.2.1 hdg ht (k H locs ls hP hD hS hl)
theorem vr_tabOut (hF : vr_F p s m c cc nL args Ts own D tys A) {dflt lo hi : Int} {offs : Array Int} {len : Nat} {x : Int32} (hdg : decode cc pc = .ok (.tableswitch dflt lo hi offs, len)) (h : x.toInt < lo ∨ hi < x.toInt) (ht : (pc : Int) + dflt = (tgt : Int)) (k : vr_W p l e R s m args below meth c D A nL cells slots Q ws tgt lv rest) : vr_W p l e R s m args below meth c D A nL cells slots Q ws pc lv (.int x :: rest) :=
  fun H locs ls hP hD hS hl => lv_tableOut hF.1.1 hF.1.2.1 hdg h ht (k H locs ls hP hD hS hl)
theorem vr_tabIn (hF : vr_F p s m c cc nL args Ts own D tys A) {dflt lo hi : Int} {offs : Array Int} {len : Nat} {x : Int32} {off : Int} (hdg : decode cc pc = .ok (.tableswitch dflt lo hi offs, len)) (h1 : ¬ x.toInt < lo) (h2 : ¬ hi < x.toInt) (ho : offs[(x.toInt - lo).toNat]? = some off) (ht : (pc : Int) + off = (tgt : Int)) (k : vr_W p l e R s m args below meth c D A nL cells slots Q ws tgt lv rest) : vr_W p l e R s m args below meth c D A nL cells slots Q ws pc lv (.int x :: rest) :=
  fun H locs ls hP hD hS hl => lv_tableIn hF.1.1 hF.1.2.1 hdg h1 h2 ho ht (k H locs ls hP hD hS hl)
theorem vr_get (hF : vr_F p s m c cc nL args Ts own D tys A) {a : Nat} {ref C : String} {T : u_T} {N ci index : Nat} {fs : List Value} {v : Value} (q0 k0 : Nat) (hin : ∀ w ∈ u_ws C T N, w ∈ Ts) (hw : Cond.fieldLink own index ref (T k0).2.1 (T k0).2.2.1 ∈ Ts) (hr : (T k0).1 = ref) (hk : k0 < N) (he : ws[q0]? = some (a, .inr (ci, fs))) (hc : vwCl[ci]? = some (C, T, N)) (hv : fs[k0]? = some v) (hdg : decode cc pc = .ok (.getfield index, 3)) (hp : pc + 3 = pc') (k : vr_W p l e R s m args below meth c D A nL cells slots Q ws pc' lv (v :: rest)) : vr_W p l e R s m args below meth c D A nL cells slots Q ws pc lv (.ref a :: rest) := by
  subst hp
  exact fun H locs ls hP hD hS hl => va_get hF.1.1 hF.1.2.1 hF.1.2.2.2.2 hin hF.1.2.2.2.1 hF.2.1 hP q0 he hc k0 hk (hF.1.2.2.2.2 _ hw) (fun _ h9 => hr ▸ h9) hv hdg (k H locs ls hP hD hS hl)
theorem vr_put (hF : vr_F p s m c cc nL args Ts own D tys A) {a : Nat} {ref C : String} {T : u_T} {N ci index : Nat} {fs : List Value} {v : Value} {ws' : va_W} (q0 k0 : Nat) (hin : ∀ w ∈ u_ws C T N, w ∈ Ts) (hw : Cond.fieldLink own index ref (T k0).2.1 (T k0).2.2.1 ∈ Ts) (hr : (T k0).1 = ref) (hk : k0 < N) (he : ws[q0]? = some (a, .inr (ci, fs))) (hc : vwCl[ci]? = some (C, T, N)) (ty0 : Nat → FieldType) (hty : ∀ k, k < N → parseFieldDescriptor (T k).2.2.1 = some (ty0 k)) (hnm : ∀ a, a < N → ∀ b, b < N → a ≠ b → (T a).2.1 ≠ (T b).2.1) (hfin : (T k0).2.2.2 = false) (hn : narrow (ty0 k0) v = v) (hfit : fits (ty0 k0) v = true) (hl0 : k0 < fs.length) (hw' : ws.set q0 (a, .inr (ci, fs.set k0 v)) = ws') (hdg : decode cc pc = .ok (.putfield index, 3)) (hp : pc + 3 = pc') (k : vr_W p l e R s m args below meth c D A nL cells slots Q ws' pc' lv (rest)) : vr_W p l e R s m args below meth c D A nL cells slots Q ws pc lv (v :: .ref a :: rest) := by
  subst hp
  exact fun H locs ls hP hD hS hl => va_put hF.1.1 hF.1.2.1 hF.1.2.2.2.2 hin ty0 hty hnm hF.1.2.2.2.1 hF.2.1 hP hD hS q0 he hc k0 hk (hF.1.2.2.2.2 _ hw) (fun _ h9 => hr ▸ h9) hfin (hty k0 hk) hn hfit hl0 hdg (by subst hw'; exact (fun H locs hP hD hS => k H locs ls hP hD hS hl))
theorem vr_putF (hF : vr_F p s m c cc nL args Ts own D tys A) {a : Nat} {ref C : String} {T : u_T} {N ci index : Nat} {fs : List Value} {v : Value} {ws' : va_W} (q0 k0 : Nat) (hin : ∀ w ∈ u_ws C T N, w ∈ Ts) (hw : Cond.fieldLink own index ref (T k0).2.1 (T k0).2.2.1 ∈ Ts) (hr : (T k0).1 = ref) (hk : k0 < N) (he : ws[q0]? = some (a, .inr (ci, fs))) (hc : vwCl[ci]? = some (C, T, N)) (ty0 : Nat → FieldType) (hty : ∀ k, k < N → parseFieldDescriptor (T k).2.2.1 = some (ty0 k)) (hnm : ∀ a, a < N → ∀ b, b < N → a ≠ b → (T a).2.1 ≠ (T b).2.1) (hfin : (T k0).2.2.2 = true) (hin2 : meth.name = "<init>") (hdecl : (T k0).1 = own) (hn : narrow (ty0 k0) v = v) (hfit : fits (ty0 k0) v = true) (hl0 : k0 < fs.length) (hw' : ws.set q0 (a, .inr (ci, fs.set k0 v)) = ws') (hdg : decode cc pc = .ok (.putfield index, 3)) (hp : pc + 3 = pc') (k : vr_W p l e R s m args below meth c D A nL cells slots Q ws' pc' lv (rest)) : vr_W p l e R s m args below meth c D A nL cells slots Q ws pc lv (v :: .ref a :: rest) := by
  subst hp
  exact fun H locs ls hP hD hS hl => va_putF hF.1.1 hF.1.2.1 hF.1.2.2.2.2 hin ty0 hty hnm hF.1.2.2.2.1 hF.2.1 hP hD hS q0 he hc k0 hk (hF.1.2.2.2.2 _ hw) (fun _ h9 => hr ▸ h9) hfin hin2 hdecl (hty k0 hk) hn hfit hl0 hdg (by subst hw'; exact (fun H locs hP hD hS => k H locs ls hP hD hS hl))
theorem vr_iald (hF : vr_F p s m c cc nL args Ts own D tys A) {a : Nat} {cA : ClassId} {n i : Nat} {f : Nat → Int32} (q0 t0 : Nat) (ha : ws[q0]? = some (a, .inl (cA, n, .inl f))) (ht : tys[t0]? = some (cA, .int)) (hi : i < n) (hN : n ≤ 65536) (hdg : decode cc pc = .ok (.iaload, 1)) (hp : pc + 1 = pc') (k : vr_W p l e R s m args below meth c D A nL cells slots Q ws pc' lv (.int (f i) :: rest)) : vr_W p l e R s m args below meth c D A nL cells slots Q ws pc lv (.int (nI i) :: .ref a :: rest) := by
  subst hp
  exact fun H locs ls hP hD hS hl => va_iald hF.1.1 hF.1.2.1 hF.2.1 hP q0 t0 ha ht (vp_in_nI hi (Nat.lt_of_le_of_lt hN (by decide))) hdg (by rw [nI_clamp (Nat.lt_trans hi (Nat.lt_of_le_of_lt hN (by decide)))]; exact k H locs ls hP hD hS hl)
theorem vr_lald (hF : vr_F p s m c cc nL args Ts own D tys A) {a : Nat} {cA : ClassId} {n i : Nat} {f : Nat → Int64} (q0 t0 : Nat) (ha : ws[q0]? = some (a, .inl (cA, n, .inr (.inl f)))) (ht : tys[t0]? = some (cA, .long)) (hi : i < n) (hN : n ≤ 65536) (hdg : decode cc pc = .ok (.laload, 1)) (hp : pc + 1 = pc') (k : vr_W p l e R s m args below meth c D A nL cells slots Q ws pc' lv (.long (f i) :: rest)) : vr_W p l e R s m args below meth c D A nL cells slots Q ws pc lv (.int (nI i) :: .ref a :: rest) := by
  subst hp
  exact fun H locs ls hP hD hS hl => va_lald hF.1.1 hF.1.2.1 hF.2.1 hP q0 t0 ha ht (vp_in_nI hi (Nat.lt_of_le_of_lt hN (by decide))) hdg (by rw [nI_clamp (Nat.lt_trans hi (Nat.lt_of_le_of_lt hN (by decide)))]; exact k H locs ls hP hD hS hl)
theorem vr_zald (hF : vr_F p s m c cc nL args Ts own D tys A) {a : Nat} {cA : ClassId} {n i : Nat} {f : Nat → Int32} (q0 t0 : Nat) (ha : ws[q0]? = some (a, .inl (cA, n, .inl f))) (ht : tys[t0]? = some (cA, .boolean)) (hi : i < n) (hN : n ≤ 65536) (hdg : decode cc pc = .ok (.baload, 1)) (hp : pc + 1 = pc') (k : vr_W p l e R s m args below meth c D A nL cells slots Q ws pc' lv (.int (f i) :: rest)) : vr_W p l e R s m args below meth c D A nL cells slots Q ws pc lv (.int (nI i) :: .ref a :: rest) := by
  subst hp
  exact fun H locs ls hP hD hS hl => va_zald hF.1.1 hF.1.2.1 hF.2.1 hP q0 t0 ha ht (vp_in_nI hi (Nat.lt_of_le_of_lt hN (by decide))) hdg (by rw [nI_clamp (Nat.lt_trans hi (Nat.lt_of_le_of_lt hN (by decide)))]; exact k H locs ls hP hD hS hl)
theorem vr_iast (hF : vr_F p s m c cc nL args Ts own D tys A) {a : Nat} {cA : ClassId} {n i : Nat} {f : Nat → Int32} {x : Int32} {ws' : va_W} (q0 t0 : Nat) (ha : ws[q0]? = some (a, .inl (cA, n, .inl f))) (ht : tys[t0]? = some (cA, .int)) (hi : i < n) (hN : n ≤ 65536) (hw' : ws.set q0 (a, .inl (cA, n, .inl (upd f i x))) = ws') (hdg : decode cc pc = .ok (.iastore, 1)) (hp : pc + 1 = pc') (k : vr_W p l e R s m args below meth c D A nL cells slots Q ws' pc' lv (rest)) : vr_W p l e R s m args below meth c D A nL cells slots Q ws pc lv (.int x :: .int (nI i) :: .ref a :: rest) := by
  subst hp
  exact fun H locs ls hP hD hS hl => va_iast hF.1.1 hF.1.2.1 hF.2.1 hP hD hS q0 t0 ha ht (vp_in_nI hi (Nat.lt_of_le_of_lt hN (by decide))) hdg (by rw [nI_clamp (Nat.lt_trans hi (Nat.lt_of_le_of_lt hN (by decide)))]; subst hw'; exact (fun H locs hP hD hS => k H locs ls hP hD hS hl))
theorem vr_iastN (hF : vr_F p s m c cc nL args Ts own D tys A) {a : Nat} {cA : ClassId} {n i : Nat} {f : Nat → Nat} {x : Nat} {ws' : va_W} (q0 t0 : Nat) (ha : ws[q0]? = some (a, .inl (cA, n, .inl (fun j => nI (f j))))) (ht : tys[t0]? = some (cA, .int)) (hi : i < n) (hN : n ≤ 65536) (hw' : ws.set q0 (a, .inl (cA, n, .inl (fun j => nI (vr_un f i x j)))) = ws') (hdg : decode cc pc = .ok (.iastore, 1)) (hp : pc + 1 = pc') (k : vr_W p l e R s m args below meth c D A nL cells slots Q ws' pc' lv (rest)) : vr_W p l e R s m args below meth c D A nL cells slots Q ws pc lv (.int (nI x) :: .int (nI i) :: .ref a :: rest) := by
  subst hp
  exact fun H locs ls hP hD hS hl => va_iast hF.1.1 hF.1.2.1 hF.2.1 hP hD hS q0 t0 ha ht (vp_in_nI hi (Nat.lt_of_le_of_lt hN (by decide))) hdg (by rw [nI_clamp (Nat.lt_trans hi (Nat.lt_of_le_of_lt hN (by decide))), vr_upd_n]; subst hw'; exact (fun H locs hP hD hS => k H locs ls hP hD hS hl))
theorem vr_last (hF : vr_F p s m c cc nL args Ts own D tys A) {a : Nat} {cA : ClassId} {n i : Nat} {f : Nat → Int64} {x : Int64} {ws' : va_W} (q0 t0 : Nat) (ha : ws[q0]? = some (a, .inl (cA, n, .inr (.inl f)))) (ht : tys[t0]? = some (cA, .long)) (hi : i < n) (hN : n ≤ 65536) (hw' : ws.set q0 (a, .inl (cA, n, .inr (.inl (vp_updL f i x)))) = ws') (hdg : decode cc pc = .ok (.lastore, 1)) (hp : pc + 1 = pc') (k : vr_W p l e R s m args below meth c D A nL cells slots Q ws' pc' lv (rest)) : vr_W p l e R s m args below meth c D A nL cells slots Q ws pc lv (.long x :: .int (nI i) :: .ref a :: rest) := by
  subst hp
  exact fun H locs ls hP hD hS hl => va_last hF.1.1 hF.1.2.1 hF.2.1 hP hD hS q0 t0 ha ht (vp_in_nI hi (Nat.lt_of_le_of_lt hN (by decide))) hdg (by rw [nI_clamp (Nat.lt_trans hi (Nat.lt_of_le_of_lt hN (by decide)))]; subst hw'; exact (fun H locs hP hD hS => k H locs ls hP hD hS hl))
theorem vr_zastB (hF : vr_F p s m c cc nL args Ts own D tys A) {a : Nat} {cA : ClassId} {n i : Nat} {f : Nat → Bool} {x : Bool} {ws' : va_W} (q0 t0 : Nat) (ha : ws[q0]? = some (a, .inl (cA, n, .inl (fun j => vr_b (f j))))) (ht : tys[t0]? = some (cA, .boolean)) (hi : i < n) (hN : n ≤ 65536) (hw' : ws.set q0 (a, .inl (cA, n, .inl (fun j => vr_b (vr_ub f i x j)))) = ws') (hdg : decode cc pc = .ok (.bastore, 1)) (hp : pc + 1 = pc') (k : vr_W p l e R s m args below meth c D A nL cells slots Q ws' pc' lv (rest)) : vr_W p l e R s m args below meth c D A nL cells slots Q ws pc lv (.int (vr_b x) :: .int (nI i) :: .ref a :: rest) := by
  subst hp
  exact fun H locs ls hP hD hS hl => va_zast hF.1.1 hF.1.2.1 hF.2.1 hP hD hS q0 t0 ha ht (vp_in_nI hi (Nat.lt_of_le_of_lt hN (by decide))) hdg (by rw [nI_clamp (Nat.lt_trans hi (Nat.lt_of_le_of_lt hN (by decide))), vr_nzz, vr_upd_b]; subst hw'; exact (fun H locs hP hD hS => k H locs ls hP hD hS hl))
/-- to return the int v over the world post is what Q asks -/
def vr_RtI (p : Program) (l : Launch) (e : Env) (R : Room) (s : State) (m : MethodId) (args : Array Value) (below : List Frame) (meth : Method) (c : Code) (cc : ByteArray) (D : va_G) (A : Nat → Prop) (nL cells slots : Nat) (Q : State → Prop) (post : va_W) (v : Int32) : Prop :=
  ∀ (pc : Nat) (lv : List (Nat × Value)), decode cc pc = .ok (.ireturn, 1) → vr_W p l e R s m args below meth c D A nL cells slots Q post pc lv [.int v]
def vr_RtL (p : Program) (l : Launch) (e : Env) (R : Room) (s : State) (m : MethodId) (args : Array Value) (below : List Frame) (meth : Method) (c : Code) (cc : ByteArray) (D : va_G) (A : Nat → Prop) (nL cells slots : Nat) (Q : State → Prop) (post : va_W) (v : Int64) : Prop :=
  ∀ (pc : Nat) (lv : List (Nat × Value)), decode cc pc = .ok (.lreturn, 1) → vr_W p l e R s m args below meth c D A nL cells slots Q post pc lv [.long v]
def vr_RtV (p : Program) (l : Launch) (e : Env) (R : Room) (s : State) (m : MethodId) (args : Array Value) (below : List Frame) (meth : Method) (c : Code) (cc : ByteArray) (D : va_G) (A : Nat → Prop) (nL cells slots : Nat) (Q : State → Prop) (post : va_W) : Prop :=
  ∀ (pc : Nat) (lv : List (Nat × Value)), decode cc pc = .ok (.return_, 1) → vr_W p l e R s m args below meth c D A nL cells slots Q post pc lv []
theorem vr_reti {v v' : Int32} (hret : vr_RtI p l e R s m args below meth c cc D A nL cells slots Q ws v') (hdg : decode cc pc = .ok (.ireturn, 1)) (h : v = v') : vr_W p l e R s m args below meth c D A nL cells slots Q ws pc lv [.int v] := by
  subst h; exact hret pc lv hdg
theorem vr_retl {v v' : Int64} (hret : vr_RtL p l e R s m args below meth c cc D A nL cells slots Q ws v') (hdg : decode cc pc = .ok (.lreturn, 1)) (h : v = v') : vr_W p l e R s m args below meth c D A nL cells slots Q ws pc lv [.long v] := by
  subst h; exact hret pc lv hdg
theorem vr_retv {post : va_W} (hret : vr_RtV p l e R s m args below meth c cc D A nL cells slots Q post) (hdg : decode cc pc = .ok (.return_, 1)) (h : ws = post) : vr_W p l e R s m args below meth c D A nL cells slots Q ws pc lv [] := by
  subst h; exact hret pc lv hdg
theorem vr_retiw {v v' : Int32} {post : va_W} (hret : vr_RtI p l e R s m args below meth c cc D A nL cells slots Q post v') (hdg : decode cc pc = .ok (.ireturn, 1)) (hw : ws = post) (h : v = v') : vr_W p l e R s m args below meth c D A nL cells slots Q ws pc lv [.int v] := by
  subst h; subst hw; exact hret pc lv hdg
end BASE
/-- a method's world at its start and behind it -/
def vr_P (D : va_G) (tys : List (ClassId × FieldType)) (ws : va_W) (sz : Nat) (U : State) : Prop := U.heap.size = sz ∧ va_P D vwCl ws U.heap ∧ va_K D vwCl tys U ∧ va_D (fun _ => True) ws
def vr_B (D : va_G) (tys : List (ClassId × FieldType)) (A : Nat → Prop) (ws : va_W) (t : State) : Prop := va_P D vwCl ws t.heap ∧ va_K D vwCl tys t ∧ va_D A ws
/-- a contract whose answer and whose world behind it are told: int (and boolean), long, void; it makes nothing -/
def vr_Ci (l : Launch) (y : MethodName) (wy : List Cond) (rm : Room) (D : va_G) (tys : List (ClassId × FieldType)) (av : List Value) (pre post : va_W) (ans : Int32) : Prop :=
  ∀ sz : Nat, Met l y wy rm (va_Pc av (vr_P D tys pre sz)) (va_Qi (fun r (_ : Unit) => r = ans) (fun _ t => vr_B D tys (va_A pre sz) post t) (va_A pre sz)) 0 0 (va_A pre sz)
def vr_Cl (l : Launch) (y : MethodName) (wy : List Cond) (rm : Room) (D : va_G) (tys : List (ClassId × FieldType)) (av : List Value) (pre post : va_W) (ans : Int64) : Prop :=
  ∀ sz : Nat, Met l y wy rm (va_Pc av (vr_P D tys pre sz)) (va_Ql (fun r (_ : Unit) => r = ans) (fun _ t => vr_B D tys (va_A pre sz) post t) (va_A pre sz)) 0 0 (va_A pre sz)
def vr_Cv (l : Launch) (y : MethodName) (wy : List Cond) (rm : Room) (D : va_G) (tys : List (ClassId × FieldType)) (av : List Value) (pre post : va_W) : Prop :=
  ∀ sz : Nat, Met l y wy rm (va_Pc av (vr_P D tys pre sz)) (va_Qv (fun (_ : Unit) => True) (fun _ t => vr_B D tys (va_A pre sz) post t) (va_A pre sz)) 0 0 (va_A pre sz)
theorem vr_blind {D : va_G} {tys : List (ClassId × FieldType)} {av : List Value} {pre : va_W} {sz : Nat} : FrameBlind (va_Pc av (vr_P D tys pre sz)) := fun a U g mk q => by
  obtain ⟨q0, q1, qP, qK, qD⟩ := q
  exact ⟨q0, q1, qP, va_K.moved (u := U) (U := U.calling g mk a) (Vm.Alike.refl U.vm) qK, qD⟩
theorem vr_Ci_mk {l : Launch} {y : MethodName} {wy wy' : List Cond} {rm : Room} {D : va_G} {tys : List (ClassId × FieldType)} {av : List Value} {pre post : va_W} {cc : ByteArray} {nL : Nat} {ty : FieldType} {ans : Int32} (hn : narrow ty (.int ans) = .int ans) (hy : plainName y.cls = true) (hw : wy = Cond.code y cc nL (some ty) :: wy') (hnL : (lg_sl av).length ≤ nL)
    (body : ∀ (p : Program) (e : Env) (s : State) (m : MethodId) (args : Array Value) (below : List Frame) (meth : Method) (c : Code) (A : Nat → Prop) (Q : State → Prop), vr_F p s m c cc nL args wy y.cls D tys A → vr_RtI p l e rm s m args below meth c cc D A nL 0 0 Q post ans → vr_W p l e rm s m args below meth c D A nL 0 0 Q pre 0 (lv_args 0 av) []) : vr_Ci l y wy rm D tys av pre post ans := by
  intro sz
  refine Met.ofW (cc := cc) (maxL := nL) (ret := some ty) hy hw ?_
  intro p e s m args below meth c s₁ B hml hv
  obtain ⟨rfl, hsz, hP, hK, hD0⟩ := hv
  have hts := atoms_spec (ws := wy) B.pre
  have hown : s.vm.findClass y.cls = some m.cls := findClass_of_methodNamed B.named
  have hlocks := B.notSynchronized
  have hr := B.returns
  subst hsz
  have hD := hD0.self (sz := s.heap.size)
  have hl := lv_entry av (n := nL) hnL
  rw [lg_entry_eq]
  generalize (lg_sl av ++ List.replicate (nL - (lg_sl av).length) Slot.unset).toArray = ls at hl ⊢
  refine body p e s m _ below meth c (va_A pre s.heap.size) _ ⟨⟨B.exec, B.bytes, hml, hown, hts⟩, hK, fun q h => Or.inr h⟩ ?_ s.heap [] ls hP hD va_S.rf hl
  intro pc lv hdg H locs ls hP hD hS hl
  exact W.zret B.exec B.bytes hr hn (fun t ht hW => ⟨⟨ans, (), rfl, rfl, by rw [ht]; exact hP, va_K.moved hW.alike hK, hD⟩, hS.F ht⟩) hS.2.2 hdg
theorem vr_Cl_mk {l : Launch} {y : MethodName} {wy wy' : List Cond} {rm : Room} {D : va_G} {tys : List (ClassId × FieldType)} {av : List Value} {pre post : va_W} {cc : ByteArray} {nL : Nat} {ans : Int64} (hy : plainName y.cls = true) (hw : wy = Cond.code y cc nL (some .long) :: wy') (hnL : (lg_sl av).length ≤ nL)
    (body : ∀ (p : Program) (e : Env) (s : State) (m : MethodId) (args : Array Value) (below : List Frame) (meth : Method) (c : Code) (A : Nat → Prop) (Q : State → Prop), vr_F p s m c cc nL args wy y.cls D tys A → vr_RtL p l e rm s m args below meth c cc D A nL 0 0 Q post ans → vr_W p l e rm s m args below meth c D A nL 0 0 Q pre 0 (lv_args 0 av) []) : vr_Cl l y wy rm D tys av pre post ans := by
  intro sz
  refine Met.ofW (cc := cc) (maxL := nL) (ret := some .long) hy hw ?_
  intro p e s m args below meth c s₁ B hml hv
  obtain ⟨rfl, hsz, hP, hK, hD0⟩ := hv
  have hts := atoms_spec (ws := wy) B.pre
  have hown : s.vm.findClass y.cls = some m.cls := findClass_of_methodNamed B.named
  have hlocks := B.notSynchronized
  have hr := B.returns
  subst hsz
  have hD := hD0.self (sz := s.heap.size)
  have hl := lv_entry av (n := nL) hnL
  rw [lg_entry_eq]
  generalize (lg_sl av ++ List.replicate (nL - (lg_sl av).length) Slot.unset).toArray = ls at hl ⊢
  refine body p e s m _ below meth c (va_A pre s.heap.size) _ ⟨⟨B.exec, B.bytes, hml, hown, hts⟩, hK, fun q h => Or.inr h⟩ ?_ s.heap [] ls hP hD va_S.rf hl
  intro pc lv hdg H locs ls hP hD hS hl
  exact W.lret B.exec B.bytes hr (fun t ht hW => ⟨⟨ans, (), rfl, rfl, by rw [ht]; exact hP, va_K.moved hW.alike hK, hD⟩, hS.F ht⟩) hS.2.2 hdg
theorem vr_Cv_mk {l : Launch} {y : MethodName} {wy wy' : List Cond} {rm : Room} {D : va_G} {tys : List (ClassId × FieldType)} {av : List Value} {pre post : va_W} {cc : ByteArray} {nL : Nat}  (hy : plainName y.cls = true) (hw : wy = Cond.code y cc nL (none) :: wy') (hnL : (lg_sl av).length ≤ nL)
    (body : ∀ (p : Program) (e : Env) (s : State) (m : MethodId) (args : Array Value) (below : List Frame) (meth : Method) (c : Code) (A : Nat → Prop) (Q : State → Prop), vr_F p s m c cc nL args wy y.cls D tys A → vr_RtV p l e rm s m args below meth c cc D A nL 0 0 Q post → vr_W p l e rm s m args below meth c D A nL 0 0 Q pre 0 (lv_args 0 av) []) : vr_Cv l y wy rm D tys av pre post := by
  intro sz
  refine Met.ofW (cc := cc) (maxL := nL) (ret := none) hy hw ?_
  intro p e s m args below meth c s₁ B hml hv
  obtain ⟨rfl, hsz, hP, hK, hD0⟩ := hv
  have hts := atoms_spec (ws := wy) B.pre
  have hown : s.vm.findClass y.cls = some m.cls := findClass_of_methodNamed B.named
  have hlocks := B.notSynchronized
  have hr := B.returns
  subst hsz
  have hD := hD0.self (sz := s.heap.size)
  have hl := lv_entry av (n := nL) hnL
  rw [lg_entry_eq]
  generalize (lg_sl av ++ List.replicate (nL - (lg_sl av).length) Slot.unset).toArray = ls at hl ⊢
  refine body p e s m _ below meth c (va_A pre s.heap.size) _ ⟨⟨B.exec, B.bytes, hml, hown, hts⟩, hK, fun q h => Or.inr h⟩ ?_ s.heap [] ls hP hD va_S.rf hl
  intro pc lv hdg H locs ls hP hD hS hl
  exact W.vret B.exec B.bytes hr (fun t ht hW => ⟨⟨(), rfl, trivial, by rw [ht]; exact hP, va_K.moved hW.alike hK, hD⟩, hS.F ht⟩) hS.2.2 hdg
section CALLS
variable {p : Program} {l : Launch} {e : Env} {R : Room} {s : State} {m : MethodId} {args : Array Value} {below : List Frame} {meth : Method} {c : Code} {cells slots : Nat} {Q : State → Prop}
variable {cc : ByteArray} {nL : Nat} {Ts : List Cond} {own : String} {D : va_G} {tys : List (ClassId × FieldType)} {A : Nat → Prop}
variable {ws pre post wr : va_W} {pc pc' : Nat} {lv : List (Nat × Value)} {rest st : List Value}
variable {y : MethodName} {wy wy' : List Cond} {rm : Room} {bytes : ByteArray} {maxL index : Nat} {ret : Option FieldType} {C : String} {T : u_T} {N ci b : Nat} {fs : List Value} {As : List Value} {n0 : Nat}
theorem vr_callV_Ci (hF : vr_F p s m c cc nL args Ts own D tys A) {ans : Int32} (hM : vr_Ci l y wy rm D tys (.ref b :: As) pre post ans) (hG : GoodIn Ts (wsV own index C y wy)) (hw : wy = Cond.code y bytes maxL ret :: wy') (hd : y.cls = C ∧ y.cls ≠ "java/lang/invoke/MethodHandle" ∧ y.cls ≠ "java/lang/invoke/VarHandle" ∧ (parseMethodDescriptor y.desc).map (fun d => d.parameters.length) = some n0) (hlen : As.length = n0) (hrc : rm.cells = 0) (hrs : rm.slots = 0) (hR : rm.frames + 1 ≤ R.frames ∧ 8 + (maxL + 11) + rm.locals ≤ R.locals) (hcl : cells ≤ R.cells ∧ slots ≤ R.slots) (q0 : Nat) (he : pre[q0]? = some (b, .inr (ci, fs))) (hc : vwCl[ci]? = some (C, T, N)) (hst : st = As.reverse ++ .ref b :: rest) (hroom : (rest.map fun v => v.category).sum ≤ 8) (hdg : decode cc pc = .ok (.invokevirtual index, 3)) (hp : pc + 3 = pc') (k : vr_W p l e R s m args below meth c D A nL cells slots Q post pc' lv (.int ans :: rest)) : vr_W p l e R s m args below meth c D A nL cells slots Q pre pc lv st := by
  subst hp; subst hst
  intro H locs ls hPc hDc hS hl
  have hFc : ∀ q : Nat, va_A pre H.size q → A q := fun q h => by
    rcases h with ⟨k0, e0, h⟩ | h
    · exact hDc.2 k0 (q, e0) h
    · exact hF.2.2 q (Nat.le_trans hS.1 h)
  refine va_calli (va_runV (As := As) (rest := rest) hF.1 (hM H.size) (cwV n0 hF.1.2.2.2.2 hG hw hrc hrs hd hR) ⟨vr_blind, va_recv hF.2.1 hPc hc he, fun U hU hW => ⟨rfl, by rw [hU], by rw [hU]; exact hPc, va_K.moved hW.alike hF.2.1, hDc.weaken (fun _ _ _ _ => trivial)⟩⟩ rfl hlen hl.1 rfl (lv_room hroom) hdg ⟨Nat.le_trans (Nat.le_of_eq (Nat.add_zero _)) hcl.1, Nat.le_trans (Nat.le_of_eq (Nat.add_zero _)) hcl.2⟩) hS (fun q _ h => hFc q h) hFc (fun r u t H1 locs1 ht hvm hw hB hz hk hS1 => ?_)
  obtain ⟨hP1, hK1, hD1⟩ := hB
  rw [ht] at hP1
  subst hw; exact k H1 locs1 ls hP1 (hD1.weaken (fun _ q _ h => hFc q.1 h)) hS1 hl
theorem vr_partV_Ci (hF : vr_F p s m c cc nL args Ts own D tys A) {ans : Int32} (hM : vr_Ci l y wy rm D tys (.ref b :: As) pre post ans) (hG : GoodIn Ts (wsV own index C y wy)) (hw : wy = Cond.code y bytes maxL ret :: wy') (hd : y.cls = C ∧ y.cls ≠ "java/lang/invoke/MethodHandle" ∧ y.cls ≠ "java/lang/invoke/VarHandle" ∧ (parseMethodDescriptor y.desc).map (fun d => d.parameters.length) = some n0) (hlen : As.length = n0) (hrc : rm.cells = 0) (hrs : rm.slots = 0) (hR : rm.frames + 1 ≤ R.frames ∧ 8 + (maxL + 11) + rm.locals ≤ R.locals) (hcl : cells ≤ R.cells ∧ slots ≤ R.slots) (q0 : Nat) (he : pre[q0]? = some (b, .inr (ci, fs))) (hc : vwCl[ci]? = some (C, T, N)) (hst : st = As.reverse ++ .ref b :: rest) (hroom : (rest.map fun v => v.category).sum ≤ 8) (hdg : decode cc pc = .ok (.invokevirtual index, 3)) (hp : pc + 3 = pc') (isC isR : List Nat) (hC : isC.map (fun i => ws[i]?) = pre.map some) (hR0 : isR.map (fun i => ws[i]?) = wr.map some) (hn0 : va_nd isC = true) (hn1 : va_nd isR = true) (hdis : ∀ i ∈ isR, i ∉ isC) (k : vr_W p l e R s m args below meth c D A nL cells slots Q (wr ++ post) pc' lv (.int ans :: rest)) : vr_W p l e R s m args below meth c D A nL cells slots Q ws pc lv st := by
  subst hp; subst hst
  intro H locs ls hP hD hS hl
  have hPc : va_P D vwCl pre H := fun k0 q hq => by
    have h1 : (isC.map (fun i => ws[i]?))[k0]? = some (some q) := by rw [hC, List.getElem?_map, hq]; rfl
    rw [List.getElem?_map] at h1
    cases hi : isC[k0]? with
    | none => rw [hi] at h1; cases h1
    | some i => rw [hi] at h1; exact hP i q (Option.some.inj h1)
  have hDc : va_D A pre := hD.sub isC hn0 hC
  have hFc := va_free (wc := pre) hD hS hF.2.2 isC hC
  refine va_calli (va_runV (As := As) (rest := rest) hF.1 (hM H.size) (cwV n0 hF.1.2.2.2.2 hG hw hrc hrs hd hR) ⟨vr_blind, va_recv hF.2.1 hPc hc he, fun U hU hW => ⟨rfl, by rw [hU], by rw [hU]; exact hPc, va_K.moved hW.alike hF.2.1, hDc.weaken (fun _ _ _ _ => trivial)⟩⟩ rfl hlen hl.1 rfl (lv_room hroom) hdg ⟨Nat.le_trans (Nat.le_of_eq (Nat.add_zero _)) hcl.1, Nat.le_trans (Nat.le_of_eq (Nat.add_zero _)) hcl.2⟩) hS (fun q _ h => hFc q h) hFc (fun r u t H1 locs1 ht hvm hw hB hz hk hS1 => ?_)
  obtain ⟨hP1, hK1, hD1⟩ := hB
  rw [ht] at hP1
  obtain ⟨hP2, hD2⟩ := va_join (wr := wr) (w1 := post) hP hD isC isR hC hR0 hn1 hdis hk hFc hP1 hD1
  subst hw; exact k H1 locs1 ls hP2 hD2 hS1 hl
theorem vr_callS_Ci (hF : vr_F p s m c cc nL args Ts own D tys A) {ans : Int32} (hM : vr_Ci l y wy rm D tys As pre post ans) (hG : GoodIn Ts (wsS own index y wy)) (hw : wy = Cond.code y bytes maxL ret :: wy') (hd : y.cls = own ∧ y.cls ≠ "java/lang/invoke/MethodHandle" ∧ y.cls ≠ "java/lang/invoke/VarHandle" ∧ (parseMethodDescriptor y.desc).map (fun d => d.parameters.length) = some n0) (hlen : As.length = n0) (hrc : rm.cells = 0) (hrs : rm.slots = 0) (hR : rm.frames + 1 ≤ R.frames ∧ 8 + (maxL + 11) + rm.locals ≤ R.locals) (hcl : cells ≤ R.cells ∧ slots ≤ R.slots)  (hst : st = As.reverse ++ rest) (hroom : (rest.map fun v => v.category).sum ≤ 8) (hdg : decode cc pc = .ok (.invokestatic index, 3)) (hp : pc + 3 = pc') (k : vr_W p l e R s m args below meth c D A nL cells slots Q post pc' lv (.int ans :: rest)) : vr_W p l e R s m args below meth c D A nL cells slots Q pre pc lv st := by
  subst hp; subst hst
  intro H locs ls hPc hDc hS hl
  have hFc : ∀ q : Nat, va_A pre H.size q → A q := fun q h => by
    rcases h with ⟨k0, e0, h⟩ | h
    · exact hDc.2 k0 (q, e0) h
    · exact hF.2.2 q (Nat.le_trans hS.1 h)
  refine va_calli (va_runS (As := As) (rest := rest) hF.1 (hM H.size) (cwS n0 hF.1.2.2.2.2 hG hw hrc hrs hd hR) ⟨vr_blind, fun U hU hW => ⟨rfl, by rw [hU], by rw [hU]; exact hPc, va_K.moved hW.alike hF.2.1, hDc.weaken (fun _ _ _ _ => trivial)⟩⟩ rfl hlen hl.1 rfl (lv_room hroom) hdg ⟨Nat.le_trans (Nat.le_of_eq (Nat.add_zero _)) hcl.1, Nat.le_trans (Nat.le_of_eq (Nat.add_zero _)) hcl.2⟩) hS (fun q _ h => hFc q h) hFc (fun r u t H1 locs1 ht hvm hw hB hz hk hS1 => ?_)
  obtain ⟨hP1, hK1, hD1⟩ := hB
  rw [ht] at hP1
  subst hw; exact k H1 locs1 ls hP1 (hD1.weaken (fun _ q _ h => hFc q.1 h)) hS1 hl
theorem vr_partS_Ci (hF : vr_F p s m c cc nL args Ts own D tys A) {ans : Int32} (hM : vr_Ci l y wy rm D tys As pre post ans) (hG : GoodIn Ts (wsS own index y wy)) (hw : wy = Cond.code y bytes maxL ret :: wy') (hd : y.cls = own ∧ y.cls ≠ "java/lang/invoke/MethodHandle" ∧ y.cls ≠ "java/lang/invoke/VarHandle" ∧ (parseMethodDescriptor y.desc).map (fun d => d.parameters.length) = some n0) (hlen : As.length = n0) (hrc : rm.cells = 0) (hrs : rm.slots = 0) (hR : rm.frames + 1 ≤ R.frames ∧ 8 + (maxL + 11) + rm.locals ≤ R.locals) (hcl : cells ≤ R.cells ∧ slots ≤ R.slots)  (hst : st = As.reverse ++ rest) (hroom : (rest.map fun v => v.category).sum ≤ 8) (hdg : decode cc pc = .ok (.invokestatic index, 3)) (hp : pc + 3 = pc') (isC isR : List Nat) (hC : isC.map (fun i => ws[i]?) = pre.map some) (hR0 : isR.map (fun i => ws[i]?) = wr.map some) (hn0 : va_nd isC = true) (hn1 : va_nd isR = true) (hdis : ∀ i ∈ isR, i ∉ isC) (k : vr_W p l e R s m args below meth c D A nL cells slots Q (wr ++ post) pc' lv (.int ans :: rest)) : vr_W p l e R s m args below meth c D A nL cells slots Q ws pc lv st := by
  subst hp; subst hst
  intro H locs ls hP hD hS hl
  have hPc : va_P D vwCl pre H := fun k0 q hq => by
    have h1 : (isC.map (fun i => ws[i]?))[k0]? = some (some q) := by rw [hC, List.getElem?_map, hq]; rfl
    rw [List.getElem?_map] at h1
    cases hi : isC[k0]? with
    | none => rw [hi] at h1; cases h1
    | some i => rw [hi] at h1; exact hP i q (Option.some.inj h1)
  have hDc : va_D A pre := hD.sub isC hn0 hC
  have hFc := va_free (wc := pre) hD hS hF.2.2 isC hC
  refine va_calli (va_runS (As := As) (rest := rest) hF.1 (hM H.size) (cwS n0 hF.1.2.2.2.2 hG hw hrc hrs hd hR) ⟨vr_blind, fun U hU hW => ⟨rfl, by rw [hU], by rw [hU]; exact hPc, va_K.moved hW.alike hF.2.1, hDc.weaken (fun _ _ _ _ => trivial)⟩⟩ rfl hlen hl.1 rfl (lv_room hroom) hdg ⟨Nat.le_trans (Nat.le_of_eq (Nat.add_zero _)) hcl.1, Nat.le_trans (Nat.le_of_eq (Nat.add_zero _)) hcl.2⟩) hS (fun q _ h => hFc q h) hFc (fun r u t H1 locs1 ht hvm hw hB hz hk hS1 => ?_)
  obtain ⟨hP1, hK1, hD1⟩ := hB
  rw [ht] at hP1
  obtain ⟨hP2, hD2⟩ := va_join (wr := wr) (w1 := post) hP hD isC isR hC hR0 hn1 hdis hk hFc hP1 hD1
  subst hw; exact k H1 locs1 ls hP2 hD2 hS1 hl
theorem vr_callV_Cl (hF : vr_F p s m c cc nL args Ts own D tys A) {ans : Int64} (hM : vr_Cl l y wy rm D tys (.ref b :: As) pre post ans) (hG : GoodIn Ts (wsV own index C y wy)) (hw : wy = Cond.code y bytes maxL ret :: wy') (hd : y.cls = C ∧ y.cls ≠ "java/lang/invoke/MethodHandle" ∧ y.cls ≠ "java/lang/invoke/VarHandle" ∧ (parseMethodDescriptor y.desc).map (fun d => d.parameters.length) = some n0) (hlen : As.length = n0) (hrc : rm.cells = 0) (hrs : rm.slots = 0) (hR : rm.frames + 1 ≤ R.frames ∧ 8 + (maxL + 11) + rm.locals ≤ R.locals) (hcl : cells ≤ R.cells ∧ slots ≤ R.slots) (q0 : Nat) (he : pre[q0]? = some (b, .inr (ci, fs))) (hc : vwCl[ci]? = some (C, T, N)) (hst : st = As.reverse ++ .ref b :: rest) (hroom : (rest.map fun v => v.category).sum ≤ 8) (hdg : decode cc pc = .ok (.invokevirtual index, 3)) (hp : pc + 3 = pc') (k : vr_W p l e R s m args below meth c D A nL cells slots Q post pc' lv (.long ans :: rest)) : vr_W p l e R s m args below meth c D A nL cells slots Q pre pc lv st := by
  subst hp; subst hst
  intro H locs ls hPc hDc hS hl
  have hFc : ∀ q : Nat, va_A pre H.size q → A q := fun q h => by
    rcases h with ⟨k0, e0, h⟩ | h
    · exact hDc.2 k0 (q, e0) h
    · exact hF.2.2 q (Nat.le_trans hS.1 h)
  refine va_calll (va_runV (As := As) (rest := rest) hF.1 (hM H.size) (cwV n0 hF.1.2.2.2.2 hG hw hrc hrs hd hR) ⟨vr_blind, va_recv hF.2.1 hPc hc he, fun U hU hW => ⟨rfl, by rw [hU], by rw [hU]; exact hPc, va_K.moved hW.alike hF.2.1, hDc.weaken (fun _ _ _ _ => trivial)⟩⟩ rfl hlen hl.1 rfl (lv_room hroom) hdg ⟨Nat.le_trans (Nat.le_of_eq (Nat.add_zero _)) hcl.1, Nat.le_trans (Nat.le_of_eq (Nat.add_zero _)) hcl.2⟩) hS (fun q _ h => hFc q h) hFc (fun r u t H1 locs1 ht hvm hw hB hz hk hS1 => ?_)
  obtain ⟨hP1, hK1, hD1⟩ := hB
  rw [ht] at hP1
  subst hw; exact k H1 locs1 ls hP1 (hD1.weaken (fun _ q _ h => hFc q.1 h)) hS1 hl
theorem vr_partV_Cl (hF : vr_F p s m c cc nL args Ts own D tys A) {ans : Int64} (hM : vr_Cl l y wy rm D tys (.ref b :: As) pre post ans) (hG : GoodIn Ts (wsV own index C y wy)) (hw : wy = Cond.code y bytes maxL ret :: wy') (hd : y.cls = C ∧ y.cls ≠ "java/lang/invoke/MethodHandle" ∧ y.cls ≠ "java/lang/invoke/VarHandle" ∧ (parseMethodDescriptor y.desc).map (fun d => d.parameters.length) = some n0) (hlen : As.length = n0) (hrc : rm.cells = 0) (hrs : rm.slots = 0) (hR : rm.frames + 1 ≤ R.frames ∧ 8 + (maxL + 11) + rm.locals ≤ R.locals) (hcl : cells ≤ R.cells ∧ slots ≤ R.slots) (q0 : Nat) (he : pre[q0]? = some (b, .inr (ci, fs))) (hc : vwCl[ci]? = some (C, T, N)) (hst : st = As.reverse ++ .ref b :: rest) (hroom : (rest.map fun v => v.category).sum ≤ 8) (hdg : decode cc pc = .ok (.invokevirtual index, 3)) (hp : pc + 3 = pc') (isC isR : List Nat) (hC : isC.map (fun i => ws[i]?) = pre.map some) (hR0 : isR.map (fun i => ws[i]?) = wr.map some) (hn0 : va_nd isC = true) (hn1 : va_nd isR = true) (hdis : ∀ i ∈ isR, i ∉ isC) (k : vr_W p l e R s m args below meth c D A nL cells slots Q (wr ++ post) pc' lv (.long ans :: rest)) : vr_W p l e R s m args below meth c D A nL cells slots Q ws pc lv st := by
  subst hp; subst hst
  intro H locs ls hP hD hS hl
  have hPc : va_P D vwCl pre H := fun k0 q hq => by
    have h1 : (isC.map (fun i => ws[i]?))[k0]? = some (some q) := by rw [hC, List.getElem?_map, hq]; rfl
    rw [List.getElem?_map] at h1
    cases hi : isC[k0]? with
    | none => rw [hi] at h1; cases h1
    | some i => rw [hi] at h1; exact hP i q (Option.some.inj h1)
  have hDc : va_D A pre := hD.sub isC hn0 hC
  have hFc := va_free (wc := pre) hD hS hF.2.2 isC hC
  refine va_calll (va_runV (As := As) (rest := rest) hF.1 (hM H.size) (cwV n0 hF.1.2.2.2.2 hG hw hrc hrs hd hR) ⟨vr_blind, va_recv hF.2.1 hPc hc he, fun U hU hW => ⟨rfl, by rw [hU], by rw [hU]; exact hPc, va_K.moved hW.alike hF.2.1, hDc.weaken (fun _ _ _ _ => trivial)⟩⟩ rfl hlen hl.1 rfl (lv_room hroom) hdg ⟨Nat.le_trans (Nat.le_of_eq (Nat.add_zero _)) hcl.1, Nat.le_trans (Nat.le_of_eq (Nat.add_zero _)) hcl.2⟩) hS (fun q _ h => hFc q h) hFc (fun r u t H1 locs1 ht hvm hw hB hz hk hS1 => ?_)
  obtain ⟨hP1, hK1, hD1⟩ := hB
  rw [ht] at hP1
  obtain ⟨hP2, hD2⟩ := va_join (wr := wr) (w1 := post) hP hD isC isR hC hR0 hn1 hdis hk hFc hP1 hD1
  subst hw; exact k H1 locs1 ls hP2 hD2 hS1 hl
theorem vr_callS_Cl (hF : vr_F p s m c cc nL args Ts own D tys A) {ans : Int64} (hM : vr_Cl l y wy rm D tys As pre post ans) (hG : GoodIn Ts (wsS own index y wy)) (hw : wy = Cond.code y bytes maxL ret :: wy') (hd : y.cls = own ∧ y.cls ≠ "java/lang/invoke/MethodHandle" ∧ y.cls ≠ "java/lang/invoke/VarHandle" ∧ (parseMethodDescriptor y.desc).map (fun d => d.parameters.length) = some n0) (hlen : As.length = n0) (hrc : rm.cells = 0) (hrs : rm.slots = 0) (hR : rm.frames + 1 ≤ R.frames ∧ 8 + (maxL + 11) + rm.locals ≤ R.locals) (hcl : cells ≤ R.cells ∧ slots ≤ R.slots)  (hst : st = As.reverse ++ rest) (hroom : (rest.map fun v => v.category).sum ≤ 8) (hdg : decode cc pc = .ok (.invokestatic index, 3)) (hp : pc + 3 = pc') (k : vr_W p l e R s m args below meth c D A nL cells slots Q post pc' lv (.long ans :: rest)) : vr_W p l e R s m args below meth c D A nL cells slots Q pre pc lv st := by
  subst hp; subst hst
  intro H locs ls hPc hDc hS hl
  have hFc : ∀ q : Nat, va_A pre H.size q → A q := fun q h => by
    rcases h with ⟨k0, e0, h⟩ | h
    · exact hDc.2 k0 (q, e0) h
    · exact hF.2.2 q (Nat.le_trans hS.1 h)
  refine va_calll (va_runS (As := As) (rest := rest) hF.1 (hM H.size) (cwS n0 hF.1.2.2.2.2 hG hw hrc hrs hd hR) ⟨vr_blind, fun U hU hW => ⟨rfl, by rw [hU], by rw [hU]; exact hPc, va_K.moved hW.alike hF.2.1, hDc.weaken (fun _ _ _ _ => trivial)⟩⟩ rfl hlen hl.1 rfl (lv_room hroom) hdg ⟨Nat.le_trans (Nat.le_of_eq (Nat.add_zero _)) hcl.1, Nat.le_trans (Nat.le_of_eq (Nat.add_zero _)) hcl.2⟩) hS (fun q _ h => hFc q h) hFc (fun r u t H1 locs1 ht hvm hw hB hz hk hS1 => ?_)
  obtain ⟨hP1, hK1, hD1⟩ := hB
  rw [ht] at hP1
  subst hw; exact k H1 locs1 ls hP1 (hD1.weaken (fun _ q _ h => hFc q.1 h)) hS1 hl
theorem vr_partS_Cl (hF : vr_F p s m c cc nL args Ts own D tys A) {ans : Int64} (hM : vr_Cl l y wy rm D tys As pre post ans) (hG : GoodIn Ts (wsS own index y wy)) (hw : wy = Cond.code y bytes maxL ret :: wy') (hd : y.cls = own ∧ y.cls ≠ "java/lang/invoke/MethodHandle" ∧ y.cls ≠ "java/lang/invoke/VarHandle" ∧ (parseMethodDescriptor y.desc).map (fun d => d.parameters.length) = some n0) (hlen : As.length = n0) (hrc : rm.cells = 0) (hrs : rm.slots = 0) (hR : rm.frames + 1 ≤ R.frames ∧ 8 + (maxL + 11) + rm.locals ≤ R.locals) (hcl : cells ≤ R.cells ∧ slots ≤ R.slots)  (hst : st = As.reverse ++ rest) (hroom : (rest.map fun v => v.category).sum ≤ 8) (hdg : decode cc pc = .ok (.invokestatic index, 3)) (hp : pc + 3 = pc') (isC isR : List Nat) (hC : isC.map (fun i => ws[i]?) = pre.map some) (hR0 : isR.map (fun i => ws[i]?) = wr.map some) (hn0 : va_nd isC = true) (hn1 : va_nd isR = true) (hdis : ∀ i ∈ isR, i ∉ isC) (k : vr_W p l e R s m args below meth c D A nL cells slots Q (wr ++ post) pc' lv (.long ans :: rest)) : vr_W p l e R s m args below meth c D A nL cells slots Q ws pc lv st := by
  subst hp; subst hst
  intro H locs ls hP hD hS hl
  have hPc : va_P D vwCl pre H := fun k0 q hq => by
    have h1 : (isC.map (fun i => ws[i]?))[k0]? = some (some q) := by rw [hC, List.getElem?_map, hq]; rfl
    rw [List.getElem?_map] at h1
    cases hi : isC[k0]? with
    | none => rw [hi] at h1; cases h1
    | some i => rw [hi] at h1; exact hP i q (Option.some.inj h1)
  have hDc : va_D A pre := hD.sub isC hn0 hC
  have hFc := va_free (wc := pre) hD hS hF.2.2 isC hC
  refine va_calll (va_runS (As := As) (rest := rest) hF.1 (hM H.size) (cwS n0 hF.1.2.2.2.2 hG hw hrc hrs hd hR) ⟨vr_blind, fun U hU hW => ⟨rfl, by rw [hU], by rw [hU]; exact hPc, va_K.moved hW.alike hF.2.1, hDc.weaken (fun _ _ _ _ => trivial)⟩⟩ rfl hlen hl.1 rfl (lv_room hroom) hdg ⟨Nat.le_trans (Nat.le_of_eq (Nat.add_zero _)) hcl.1, Nat.le_trans (Nat.le_of_eq (Nat.add_zero _)) hcl.2⟩) hS (fun q _ h => hFc q h) hFc (fun r u t H1 locs1 ht hvm hw hB hz hk hS1 => ?_)
  obtain ⟨hP1, hK1, hD1⟩ := hB
  rw [ht] at hP1
  obtain ⟨hP2, hD2⟩ := va_join (wr := wr) (w1 := post) hP hD isC isR hC hR0 hn1 hdis hk hFc hP1 hD1
  subst hw; exact k H1 locs1 ls hP2 hD2 hS1 hl
theorem vr_callV_Cv (hF : vr_F p s m c cc nL args Ts own D tys A)  (hM : vr_Cv l y wy rm D tys (.ref b :: As) pre post ) (hG : GoodIn Ts (wsV own index C y wy)) (hw : wy = Cond.code y bytes maxL ret :: wy') (hd : y.cls = C ∧ y.cls ≠ "java/lang/invoke/MethodHandle" ∧ y.cls ≠ "java/lang/invoke/VarHandle" ∧ (parseMethodDescriptor y.desc).map (fun d => d.parameters.length) = some n0) (hlen : As.length = n0) (hrc : rm.cells = 0) (hrs : rm.slots = 0) (hR : rm.frames + 1 ≤ R.frames ∧ 8 + (maxL + 11) + rm.locals ≤ R.locals) (hcl : cells ≤ R.cells ∧ slots ≤ R.slots) (q0 : Nat) (he : pre[q0]? = some (b, .inr (ci, fs))) (hc : vwCl[ci]? = some (C, T, N)) (hst : st = As.reverse ++ .ref b :: rest) (hroom : (rest.map fun v => v.category).sum ≤ 8) (hdg : decode cc pc = .ok (.invokevirtual index, 3)) (hp : pc + 3 = pc') (k : vr_W p l e R s m args below meth c D A nL cells slots Q post pc' lv (rest)) : vr_W p l e R s m args below meth c D A nL cells slots Q pre pc lv st := by
  subst hp; subst hst
  intro H locs ls hPc hDc hS hl
  have hFc : ∀ q : Nat, va_A pre H.size q → A q := fun q h => by
    rcases h with ⟨k0, e0, h⟩ | h
    · exact hDc.2 k0 (q, e0) h
    · exact hF.2.2 q (Nat.le_trans hS.1 h)
  refine va_callv (va_runV (As := As) (rest := rest) hF.1 (hM H.size) (cwV n0 hF.1.2.2.2.2 hG hw hrc hrs hd hR) ⟨vr_blind, va_recv hF.2.1 hPc hc he, fun U hU hW => ⟨rfl, by rw [hU], by rw [hU]; exact hPc, va_K.moved hW.alike hF.2.1, hDc.weaken (fun _ _ _ _ => trivial)⟩⟩ rfl hlen hl.1 rfl (lv_room hroom) hdg ⟨Nat.le_trans (Nat.le_of_eq (Nat.add_zero _)) hcl.1, Nat.le_trans (Nat.le_of_eq (Nat.add_zero _)) hcl.2⟩) hS (fun q _ h => hFc q h) hFc (fun u t H1 locs1 ht hvm hw hB hz hk hS1 => ?_)
  obtain ⟨hP1, hK1, hD1⟩ := hB
  rw [ht] at hP1
  exact k H1 locs1 ls hP1 (hD1.weaken (fun _ q _ h => hFc q.1 h)) hS1 hl
theorem vr_partV_Cv (hF : vr_F p s m c cc nL args Ts own D tys A)  (hM : vr_Cv l y wy rm D tys (.ref b :: As) pre post ) (hG : GoodIn Ts (wsV own index C y wy)) (hw : wy = Cond.code y bytes maxL ret :: wy') (hd : y.cls = C ∧ y.cls ≠ "java/lang/invoke/MethodHandle" ∧ y.cls ≠ "java/lang/invoke/VarHandle" ∧ (parseMethodDescriptor y.desc).map (fun d => d.parameters.length) = some n0) (hlen : As.length = n0) (hrc : rm.cells = 0) (hrs : rm.slots = 0) (hR : rm.frames + 1 ≤ R.frames ∧ 8 + (maxL + 11) + rm.locals ≤ R.locals) (hcl : cells ≤ R.cells ∧ slots ≤ R.slots) (q0 : Nat) (he : pre[q0]? = some (b, .inr (ci, fs))) (hc : vwCl[ci]? = some (C, T, N)) (hst : st = As.reverse ++ .ref b :: rest) (hroom : (rest.map fun v => v.category).sum ≤ 8) (hdg : decode cc pc = .ok (.invokevirtual index, 3)) (hp : pc + 3 = pc') (isC isR : List Nat) (hC : isC.map (fun i => ws[i]?) = pre.map some) (hR0 : isR.map (fun i => ws[i]?) = wr.map some) (hn0 : va_nd isC = true) (hn1 : va_nd isR = true) (hdis : ∀ i ∈ isR, i ∉ isC) (k : vr_W p l e R s m args below meth c D A nL cells slots Q (wr ++ post) pc' lv (rest)) : vr_W p l e R s m args below meth c D A nL cells slots Q ws pc lv st := by
  subst hp; subst hst
  intro H locs ls hP hD hS hl
  have hPc : va_P D vwCl pre H := fun k0 q hq => by
    have h1 : (isC.map (fun i => ws[i]?))[k0]? = some (some q) := by rw [hC, List.getElem?_map, hq]; rfl
    rw [List.getElem?_map] at h1
    cases hi : isC[k0]? with
    | none => rw [hi] at h1; cases h1
    | some i => rw [hi] at h1; exact hP i q (Option.some.inj h1)
  have hDc : va_D A pre := hD.sub isC hn0 hC
  have hFc := va_free (wc := pre) hD hS hF.2.2 isC hC
  refine va_callv (va_runV (As := As) (rest := rest) hF.1 (hM H.size) (cwV n0 hF.1.2.2.2.2 hG hw hrc hrs hd hR) ⟨vr_blind, va_recv hF.2.1 hPc hc he, fun U hU hW => ⟨rfl, by rw [hU], by rw [hU]; exact hPc, va_K.moved hW.alike hF.2.1, hDc.weaken (fun _ _ _ _ => trivial)⟩⟩ rfl hlen hl.1 rfl (lv_room hroom) hdg ⟨Nat.le_trans (Nat.le_of_eq (Nat.add_zero _)) hcl.1, Nat.le_trans (Nat.le_of_eq (Nat.add_zero _)) hcl.2⟩) hS (fun q _ h => hFc q h) hFc (fun u t H1 locs1 ht hvm hw hB hz hk hS1 => ?_)
  obtain ⟨hP1, hK1, hD1⟩ := hB
  rw [ht] at hP1
  obtain ⟨hP2, hD2⟩ := va_join (wr := wr) (w1 := post) hP hD isC isR hC hR0 hn1 hdis hk hFc hP1 hD1
  exact k H1 locs1 ls hP2 hD2 hS1 hl
theorem vr_callS_Cv (hF : vr_F p s m c cc nL args Ts own D tys A)  (hM : vr_Cv l y wy rm D tys As pre post ) (hG : GoodIn Ts (wsS own index y wy)) (hw : wy = Cond.code y bytes maxL ret :: wy') (hd : y.cls = own ∧ y.cls ≠ "java/lang/invoke/MethodHandle" ∧ y.cls ≠ "java/lang/invoke/VarHandle" ∧ (parseMethodDescriptor y.desc).map (fun d => d.parameters.length) = some n0) (hlen : As.length = n0) (hrc : rm.cells = 0) (hrs : rm.slots = 0) (hR : rm.frames + 1 ≤ R.frames ∧ 8 + (maxL + 11) + rm.locals ≤ R.locals) (hcl : cells ≤ R.cells ∧ slots ≤ R.slots)  (hst : st = As.reverse ++ rest) (hroom : (rest.map fun v => v.category).sum ≤ 8) (hdg : decode cc pc = .ok (.invokestatic index, 3)) (hp : pc + 3 = pc') (k : vr_W p l e R s m args below meth c D A nL cells slots Q post pc' lv (rest)) : vr_W p l e R s m args below meth c D A nL cells slots Q pre pc lv st := by
  subst hp; subst hst
  intro H locs ls hPc hDc hS hl
  have hFc : ∀ q : Nat, va_A pre H.size q → A q := fun q h => by
    rcases h with ⟨k0, e0, h⟩ | h
    · exact hDc.2 k0 (q, e0) h
    · exact hF.2.2 q (Nat.le_trans hS.1 h)
  refine va_callv (va_runS (As := As) (rest := rest) hF.1 (hM H.size) (cwS n0 hF.1.2.2.2.2 hG hw hrc hrs hd hR) ⟨vr_blind, fun U hU hW => ⟨rfl, by rw [hU], by rw [hU]; exact hPc, va_K.moved hW.alike hF.2.1, hDc.weaken (fun _ _ _ _ => trivial)⟩⟩ rfl hlen hl.1 rfl (lv_room hroom) hdg ⟨Nat.le_trans (Nat.le_of_eq (Nat.add_zero _)) hcl.1, Nat.le_trans (Nat.le_of_eq (Nat.add_zero _)) hcl.2⟩) hS (fun q _ h => hFc q h) hFc (fun u t H1 locs1 ht hvm hw hB hz hk hS1 => ?_)
  obtain ⟨hP1, hK1, hD1⟩ := hB
  rw [ht] at hP1
  exact k H1 locs1 ls hP1 (hD1.weaken (fun _ q _ h => hFc q.1 h)) hS1 hl
theorem vr_partS_Cv (hF : vr_F p s m c cc nL args Ts own D tys A)  (hM : vr_Cv l y wy rm D tys As pre post ) (hG : GoodIn Ts (wsS own index y wy)) (hw : wy = Cond.code y bytes maxL ret :: wy') (hd : y.cls = own ∧ y.cls ≠ "java/lang/invoke/MethodHandle" ∧ y.cls ≠ "java/lang/invoke/VarHandle" ∧ (parseMethodDescriptor y.desc).map (fun d => d.parameters.length) = some n0) (hlen : As.length = n0) (hrc : rm.cells = 0) (hrs : rm.slots = 0) (hR : rm.frames + 1 ≤ R.frames ∧ 8 + (maxL + 11) + rm.locals ≤ R.locals) (hcl : cells ≤ R.cells ∧ slots ≤ R.slots)  (hst : st = As.reverse ++ rest) (hroom : (rest.map fun v => v.category).sum ≤ 8) (hdg : decode cc pc = .ok (.invokestatic index, 3)) (hp : pc + 3 = pc') (isC isR : List Nat) (hC : isC.map (fun i => ws[i]?) = pre.map some) (hR0 : isR.map (fun i => ws[i]?) = wr.map some) (hn0 : va_nd isC = true) (hn1 : va_nd isR = true) (hdis : ∀ i ∈ isR, i ∉ isC) (k : vr_W p l e R s m args below meth c D A nL cells slots Q (wr ++ post) pc' lv (rest)) : vr_W p l e R s m args below meth c D A nL cells slots Q ws pc lv st := by
  subst hp; subst hst
  intro H locs ls hP hD hS hl
  have hPc : va_P D vwCl pre H := fun k0 q hq => by
    have h1 : (isC.map (fun i => ws[i]?))[k0]? = some (some q) := by rw [hC, List.getElem?_map, hq]; rfl
    rw [List.getElem?_map] at h1
    cases hi : isC[k0]? with
    | none => rw [hi] at h1; cases h1
    | some i => rw [hi] at h1; exact hP i q (Option.some.inj h1)
  have hDc : va_D A pre := hD.sub isC hn0 hC
  have hFc := va_free (wc := pre) hD hS hF.2.2 isC hC
  refine va_callv (va_runS (As := As) (rest := rest) hF.1 (hM H.size) (cwS n0 hF.1.2.2.2.2 hG hw hrc hrs hd hR) ⟨vr_blind, fun U hU hW => ⟨rfl, by rw [hU], by rw [hU]; exact hPc, va_K.moved hW.alike hF.2.1, hDc.weaken (fun _ _ _ _ => trivial)⟩⟩ rfl hlen hl.1 rfl (lv_room hroom) hdg ⟨Nat.le_trans (Nat.le_of_eq (Nat.add_zero _)) hcl.1, Nat.le_trans (Nat.le_of_eq (Nat.add_zero _)) hcl.2⟩) hS (fun q _ h => hFc q h) hFc (fun u t H1 locs1 ht hvm hw hB hz hk hS1 => ?_)
  obtain ⟨hP1, hK1, hD1⟩ := hB
  rw [ht] at hP1
  obtain ⟨hP2, hD2⟩ := va_join (wr := wr) (w1 := post) hP hD isC isR hC hR0 hn1 hdis hk hFc hP1 hD1
  exact k H1 locs1 ls hP2 hD2 hS1 hl
end CALLS
end
section
/-! rows for constructors: what a method makes -/
section NEWS
variable {p : Program} {l : Launch} {e : Env} {R : Room} {s : State} {m : MethodId} {args : Array Value} {below : List Frame} {meth : Method} {c : Code} {cells slots : Nat} {Q : State → Prop}
variable {cc : ByteArray} {nL : Nat} {Ts : List Cond} {own : String} {D : va_G} {tys : List (ClassId × FieldType)} {A : Nat → Prop}
variable {ws pre wr : va_W} {pc pc' : Nat} {lv : List (Nat × Value)} {rest : List Value}
theorem vr_objInit (hF : vr_F p s m c cc nL args Ts own D tys A) {idx a : Nat} (h1 : Cond.methodLink own idx objectInit ∈ Ts) (h2 : Cond.instanceMethod objectInit ∈ Ts) (h3 : Cond.code objectInit ⟨#[0xb1]⟩ 1 none ∈ Ts) (hfr : 1 ≤ R.frames) (hlo : (rest.map fun v => v.category).sum + 12 ≤ R.locals) (hdg : decode cc pc = .ok (.invokespecial idx, 3)) (hp : pc + 3 = pc') (k : vr_W p l e R s m args below meth c D A nL cells slots Q ws pc' lv rest) : vr_W p l e R s m args below meth c D A nL cells slots Q ws pc lv (.ref a :: rest) := by
  subst hp
  intro H locs ls hP hD hS hl
  refine W.objInit hF.1.1 hF.1.2.1 hF.1.2.2.2.1 (hF.1.2.2.2.2 _ h1) (hF.1.2.2.2.2 _ h2) (hF.1.2.2.2.2 _ h3) rfl (by rw [hF.1.2.2.1]; exact hl.1) rfl hdg hfr ?_ (k H locs ls hP hD hS hl)
  have h0 : 2 * (F0 m pc ls (.ref a :: rest)).monitorRoom = 0 := rfl
  rw [h0]; omega
theorem vr_newa (hF : vr_F p s m c cc nL args Ts own D tys A) {atype : ArrayType} {ty : FieldType} {cA : ClassId} {n : Int32} {N' : Nat} {a0 : vp_A} (t0 : Nat) (hw : Cond.arrayClass (newarray.typeOf atype) ∈ Ts) (hty : newarray.typeOf atype = ty) (hpr : ∀ cB : ClassId, va_RA s cB ty → s.vm.findClass ("[" ++ ty.toString) = some cB) (ht : tys[t0]? = some (cA, ty)) (ha : ∀ cB : ClassId, vp_cell cB a0 = arrV cB N' (fun _ => defaultValue ty)) (hn : ¬ n < 0) (hN : n.toNatClampNeg = N') (hby : N' * componentBytes ty ≤ 536870912) (hce : cells + 1 ≤ R.cells) (hsl : slots + N' ≤ R.slots) (hdg : decode cc pc = .ok (.newarray atype, 2)) (hp : pc + 2 = pc')
    (k : ∀ q : Nat, vr_W p l e R s m args below meth c D A nL (cells + 1) (slots + N') Q (ws ++ [(q, .inl (cA, a0))]) pc' lv (.ref q :: rest)) : vr_W p l e R s m args below meth c D A nL cells slots Q ws pc lv (.int n :: rest) := by
  subst hp
  intro H locs ls hP hD hS hl
  refine va_newa hF.1.1 hF.1.2.1 (hF.1.2.2.2.2 _ hw) hty hF.2.1 hP hD hS hF.2.2 ha hn hN hby hce hsl hdg (fun q cB H1 hK hP1 hD1 hS1 => ?_)
  have e1 : va_RA s cB ty := (hK.2 tys.length (cB, ty) (by rw [List.getElem?_append_right (Nat.le_refl _), Nat.sub_self]; rfl)).2
  have e2 : va_RA s cA ty := (hF.2.1.2 t0 (cA, ty) ht).2
  have e3 : cB = cA := Option.some.inj ((hpr cB e1).symm.trans (hpr cA e2))
  subst e3
  exact k q H1 locs ls hP1 hD1 hS1 hl
theorem vr_new (hF : vr_F p s m c cc nL args Ts own D tys A) {C : String} {T : u_T} {N ci index : Nat} {fs : List Value} (hin : ∀ w ∈ u_ws C T N, w ∈ Ts) (ty : Nat → FieldType) (hty : ∀ k, k < N → parseFieldDescriptor (T k).2.2.1 = some (ty k)) (h1 : Cond.classLink own index C ∈ Ts) (h2 : Cond.instantiable C N ∈ Ts) (h3 : Cond.initialized C ∈ Ts) (hc : vwCl[ci]? = some (C, T, N)) (hfs : ∀ j, j < N → defaultValue (ty j) = vp_V fs j) (hce : cells + 1 ≤ R.cells) (hsl : slots + N ≤ R.slots) (hdg : decode cc pc = .ok (.new index, 3)) (hp : pc + 3 = pc')
    (k : ∀ q : Nat, vr_W p l e R s m args below meth c D A nL (cells + 1) (slots + N) Q (ws ++ [(q, .inr (ci, fs))]) pc' lv (.ref q :: rest)) : vr_W p l e R s m args below meth c D A nL cells slots Q ws pc lv rest := by
  subst hp
  exact fun H locs ls hP hD hS hl => va_new hF.1.1 hF.1.2.1 hF.1.2.2.2.2 hin ty hty hF.1.2.2.2.1 (hF.1.2.2.2.2 _ h1) (hF.1.2.2.2.2 _ h2) (hF.1.2.2.2.2 _ h3) hF.2.1 hP hD hS hF.2.2 hc hfs hce hsl hdg (fun q H1 hP1 hD1 hS1 => k q H1 locs ls hP1 hD1 hS1 hl)
end NEWS
/-- a constructor's contract: what it makes lies at addresses u; nw: words on nest mates that it needs -/
def vr_Cn (l : Launch) (y : MethodName) (wy nw : List Cond) (rm : Room) (D : va_G) (tys : List (ClassId × FieldType)) (b : Nat) (pre : va_W) (post : (Nat → Nat) → va_W) (mc ms : Nat) : Prop :=
  ∀ sz : Nat, Met l y wy rm (va_Pc [.ref b] (fun U => vr_P D tys pre sz U ∧ ∀ w ∈ nw, va_Nw w U)) (va_Qv (fun (_ : Nat → Nat) => True) (fun u t => vr_B D tys (va_A pre sz) (post u) t) (va_A pre sz)) mc ms (va_A pre sz)
theorem vr_blindN {D : va_G} {tys : List (ClassId × FieldType)} {av : List Value} {pre : va_W} {sz : Nat} {nw : List Cond} (hnw : ∀ w ∈ nw, w.onTables = true) : FrameBlind (va_Pc av (fun U => vr_P D tys pre sz U ∧ ∀ w ∈ nw, va_Nw w U)) := fun a U g mk q => by
  obtain ⟨q0, ⟨q1, qP, qK, qD⟩, qN⟩ := q
  exact ⟨q0, ⟨q1, qP, va_K.moved (u := U) (U := U.calling g mk a) (Vm.Alike.refl U.vm) qK, qD⟩, fun w hw => va_Nw.same (u := U) (U := U.calling g mk a) (hnw w hw) rfl (qN w hw)⟩
theorem vr_Cn_mk {l : Launch} {y : MethodName} {wy wy' nw : List Cond} {rm : Room} {D : va_G} {tys : List (ClassId × FieldType)} {b : Nat} {pre : va_W} {post : (Nat → Nat) → va_W} {mc ms : Nat} {cc : ByteArray} {nL : Nat} (hy : plainName y.cls = true) (hn : y.name = "<init>") (hw : wy = Cond.code y cc nL none :: wy') (hnL : 1 ≤ nL)
    (body : ∀ (p : Program) (e : Env) (s : State) (m : MethodId) (args : Array Value) (below : List Frame) (meth : Method) (c : Code) (A : Nat → Prop) (Q : State → Prop), vr_F p s m c cc nL args wy y.cls D tys A → meth.name = "<init>" → (∀ w ∈ nw, va_Nw w s) → (∀ (u : Nat → Nat) (pc : Nat) (lv : List (Nat × Value)), decode cc pc = .ok (.return_, 1) → vr_W p l e rm s m args below meth c D A nL mc ms Q (post u) pc lv []) → vr_W p l e rm s m args below meth c D A nL 0 0 Q pre 0 [(0, .ref b)] []) : vr_Cn l y wy nw rm D tys b pre post mc ms := by
  intro sz
  refine Met.ofW (cc := cc) (maxL := nL) (ret := none) hy hw ?_
  intro p e s m args below meth c s₁ B hml hv
  obtain ⟨rfl, ⟨hsz, hP, hK, hD0⟩, hN⟩ := hv
  have hts := atoms_spec (ws := wy) B.pre
  have hown : s.vm.findClass y.cls = some m.cls := findClass_of_methodNamed B.named
  have hlocks := B.notSynchronized
  have hr := B.returns
  have hin : meth.name = "<init>" := (name_of_methodNamed B.named B.method).1.trans hn
  subst hsz
  have hD := hD0.self (sz := s.heap.size)
  have hl := lv_entry [.ref b] (n := nL) (show (lg_sl [.ref b]).length ≤ nL from hnL)
  rw [lg_entry_eq]
  generalize (lg_sl [.ref b] ++ List.replicate (nL - (lg_sl [.ref b]).length) Slot.unset).toArray = ls at hl ⊢
  refine body p e s m _ below meth c (va_A pre s.heap.size) _ ⟨⟨B.exec, B.bytes, hml, hown, hts⟩, hK, fun q h => Or.inr h⟩ hin hN ?_ s.heap [] ls hP hD va_S.rf hl
  intro u pc lv hdg H locs ls hP hD hS hl
  exact W.vret B.exec B.bytes hr (fun t ht hW => ⟨⟨u, rfl, trivial, by rw [ht]; exact hP, va_K.moved hW.alike hK, hD⟩, hS.F ht⟩) hS.2.2 hdg
section NEWC
variable {p : Program} {l : Launch} {e : Env} {R : Room} {s : State} {m : MethodId} {args : Array Value} {below : List Frame} {meth : Method} {c : Code} {cells slots : Nat} {Q : State → Prop}
variable {cc : ByteArray} {nL : Nat} {Ts : List Cond} {own : String} {D : va_G} {tys : List (ClassId × FieldType)} {A : Nat → Prop}
variable {ws pre wr : va_W} {pc pc' : Nat} {lv : List (Nat × Value)} {rest : List Value}
theorem vr_run_Cn {post : (Nat → Nat) → va_W} {b mc ms : Nat} (hF : vr_F p s m c cc nL args Ts own D tys A) (isC isR : List Nat) (hC : isC.map (fun i => ws[i]?) = pre.map some) (hR0 : isR.map (fun i => ws[i]?) = wr.map some) (hn0 : va_nd isC = true) (hn1 : va_nd isR = true) (hdis : ∀ i ∈ isR, i ∉ isC)
    (run : ∀ (H : Heap) (locs : List Loc) (ls : Array Slot), va_P D vwCl pre H → va_D A pre → lv_has ls nL lv → va_Run p l e R s m args below meth c H locs cells slots mc ms (F0 m pc ls (.ref b :: rest)) rest (va_Qv (fun (_ : Nat → Nat) => True) (fun u t => vr_B D tys (va_A pre H.size) (post u) t) (va_A pre H.size) ([Value.ref b] : List Value).toArray) (va_A pre H.size))
    (k : ∀ u : Nat → Nat, vr_W p l e R s m args below meth c D A nL (cells + mc) (slots + ms) Q (wr ++ post u) (pc + 3) lv rest) : vr_W p l e R s m args below meth c D A nL cells slots Q ws pc lv (.ref b :: rest) := by
  intro H locs ls hP hD hS hl
  have hPc : va_P D vwCl pre H := fun k0 q hq => by
    have h1 : (isC.map (fun i => ws[i]?))[k0]? = some (some q) := by rw [hC, List.getElem?_map, hq]; rfl
    rw [List.getElem?_map] at h1
    cases hi : isC[k0]? with
    | none => rw [hi] at h1; cases h1
    | some i => rw [hi] at h1; exact hP i q (Option.some.inj h1)
  have hDc : va_D A pre := hD.sub isC hn0 hC
  have hFc := va_free (wc := pre) hD hS hF.2.2 isC hC
  refine va_callv (run H locs ls hPc hDc hl) hS (fun q _ h => hFc q h) hFc (fun u t H1 locs1 ht hvm hw hB hz hk hS1 => ?_)
  obtain ⟨hP1, hK1, hD1⟩ := hB
  rw [ht] at hP1
  obtain ⟨hP2, hD2⟩ := va_join (wr := wr) (w1 := post u) hP hD isC isR hC hR0 hn1 hdis hk hFc hP1 hD1
  exact k u H1 locs1 ls hP2 hD2 hS1 hl
variable {y : MethodName} {wy wy' nw : List Cond} {rm : Room} {bytes : ByteArray} {maxL index : Nat}
/-- new: a constructor that is no nest mate's -/
theorem vr_partI {post : (Nat → Nat) → va_W} {b mc ms : Nat} (hF : vr_F p s m c cc nL args Ts own D tys A) (hM : vr_Cn l y wy nw rm D tys b pre post mc ms) (hnw : ∀ w ∈ nw, w.onTables = true) (hnv : ∀ w ∈ nw, ∀ U : State, s.WarmedH U.vm → va_Nw w U) (hG : GoodIn Ts wy) (hw : wy = Cond.code y bytes maxL none :: wy') (hrc : rm.cells = mc) (hrs : rm.slots = ms) (h1 : Cond.initialized y.cls ∈ Ts) (h2 : Cond.methodLink own index y ∈ Ts) (h3 : Cond.instanceMethod y ∈ Ts) (hy1 : y.name = "<init>")
    (hd : y.cls ≠ "java/lang/invoke/MethodHandle" ∧ y.cls ≠ "java/lang/invoke/VarHandle" ∧ (parseMethodDescriptor y.desc).map (fun d => d.parameters.length) = some 0) (hR : rm.frames + 1 ≤ R.frames ∧ 8 + (maxL + 11) + rm.locals ≤ R.locals) (hf : cells + mc ≤ R.cells ∧ slots + ms ≤ R.slots) (hroom : (rest.map fun v => v.category).sum ≤ 8) (hdg : decode cc pc = .ok (.invokespecial index, 3)) (hp : pc + 3 = pc')
    (isC isR : List Nat) (hC : isC.map (fun i => ws[i]?) = pre.map some) (hR0 : isR.map (fun i => ws[i]?) = wr.map some) (hn0 : va_nd isC = true) (hn1 : va_nd isR = true) (hdis : ∀ i ∈ isR, i ∉ isC)
    (k : ∀ u : Nat → Nat, vr_W p l e R s m args below meth c D A nL (cells + mc) (slots + ms) Q (wr ++ post u) pc' lv rest) : vr_W p l e R s m args below meth c D A nL cells slots Q ws pc lv (.ref b :: rest) := by
  subst hp
  refine vr_run_Cn (post := post) (mc := mc) (ms := ms) hF isC isR hC hR0 hn0 hn1 hdis (fun H locs ls hPc hDc hl => ?_) k
  exact va_runI (As := []) (rest := rest) hF.1 (hM H.size) (cwI 0 hF.1.2.2.2.2 hG hw hrc hrs (hF.1.2.2.2.2 _ h1) (hF.1.2.2.2.2 _ h2) (hF.1.2.2.2.2 _ h3) hy1 hd hR) ⟨vr_blindN hnw, fun U hU hW => ⟨rfl, ⟨by rw [hU], by rw [hU]; exact hPc, va_K.moved hW.alike hF.2.1, hDc.weaken (fun _ _ _ _ => trivial)⟩, fun w hw => hnv w hw U hW⟩⟩ rfl rfl hl.1 rfl (lv_room hroom) hdg hf
/-- new: the constructor of a nest mate -/
theorem vr_partIN {post : (Nat → Nat) → va_W} {b mc ms : Nat} {host : String} (hF : vr_F p s m c cc nL args Ts own D tys A) (hM : vr_Cn l y wy nw rm D tys b pre post mc ms) (hnw : ∀ w ∈ nw, w.onTables = true) (hnv : ∀ w ∈ nw, ∀ U : State, s.WarmedH U.vm → va_Nw w U) (hG : GoodIn Ts wy) (hw : wy = Cond.code y bytes maxL none :: wy') (hrc : rm.cells = mc) (hrs : rm.slots = ms) (h1 : Cond.initialized y.cls ∈ Ts) (h2 : va_Nw (Cond.methodLinkNest own index y host) s) (h3 : Cond.instanceMethod y ∈ Ts) (hy1 : y.name = "<init>")
    (hd : y.cls ≠ "java/lang/invoke/MethodHandle" ∧ y.cls ≠ "java/lang/invoke/VarHandle" ∧ (parseMethodDescriptor y.desc).map (fun d => d.parameters.length) = some 0) (hR : rm.frames + 1 ≤ R.frames ∧ 8 + (maxL + 11) + rm.locals ≤ R.locals) (hf : cells + mc ≤ R.cells ∧ slots + ms ≤ R.slots) (hroom : (rest.map fun v => v.category).sum ≤ 8) (hdg : decode cc pc = .ok (.invokespecial index, 3)) (hp : pc + 3 = pc')
    (isC isR : List Nat) (hC : isC.map (fun i => ws[i]?) = pre.map some) (hR0 : isR.map (fun i => ws[i]?) = wr.map some) (hn0 : va_nd isC = true) (hn1 : va_nd isR = true) (hdis : ∀ i ∈ isR, i ∉ isC)
    (k : ∀ u : Nat → Nat, vr_W p l e R s m args below meth c D A nL (cells + mc) (slots + ms) Q (wr ++ post u) pc' lv rest) : vr_W p l e R s m args below meth c D A nL cells slots Q ws pc lv (.ref b :: rest) := by
  subst hp
  refine vr_run_Cn (post := post) (mc := mc) (ms := ms) hF isC isR hC hR0 hn0 hn1 hdis (fun H locs ls hPc hDc hl => ?_) k
  exact va_runIN (As := []) (rest := rest) hF.1 (hM H.size) ⟨va_cnB 0 hF.1.2.2.2.2 hG hw hrc hrs h2 (hF.1.2.2.2.2 _ h1) hd hR, hy1, hF.1.2.2.2.2 _ h3⟩ ⟨vr_blindN hnw, fun U hU hW => ⟨rfl, ⟨by rw [hU], by rw [hU]; exact hPc, va_K.moved hW.alike hF.2.1, hDc.weaken (fun _ _ _ _ => trivial)⟩, fun w hw => hnv w hw U hW⟩⟩ rfl rfl hl.1 rfl (lv_room hroom) hdg hf
end NEWC
/-- what an array of numbers is, out of the tables -/
theorem vr_arr {ty : FieldType} {args : Array Value} {s : State} (h : (Cond.arrayClass ty).before args s = true) (hpr : ∀ cB : ClassId, s.vm.findClass ("[" ++ ty.toString) = some cB → va_RA s cB ty) : ∃ cA : ClassId, ArrOfT s cA ty ∧ va_RA s cA ty := by
  obtain ⟨cA, kA, comp, h1, h2, h3⟩ := Cond.arrayClass_spec h
  exact ⟨cA, fun n z => ⟨fun k h => (by cases h), kA, h2, comp, h3⟩, hpr cA h1⟩
section PERM
variable {p : Program} {l : Launch} {e : Env} {R : Room} {s : State} {m : MethodId} {args : Array Value} {below : List Frame} {meth : Method} {c : Code} {cells slots : Nat} {Q : State → Prop}
variable {nL : Nat} {D : va_G} {A : Nat → Prop} {ws ws' : va_W} {pc : Nat} {lv : List (Nat × Value)} {st : List Value}
/-- fewer cells of the world, or in another order -/
theorem vr_wsub (is : List Nat) (hs : is.map (fun i => ws[i]?) = ws'.map some) (hn : va_nd is = true) (k : vr_W p l e R s m args below meth c D A nL cells slots Q ws' pc lv st) : vr_W p l e R s m args below meth c D A nL cells slots Q ws pc lv st := by
  intro H locs ls hP hD hS hl
  refine k H locs ls (fun k0 q hq => ?_) (hD.sub is hn hs) hS hl
  have h1 : (is.map (fun i => ws[i]?))[k0]? = some (some q) := by rw [hs, List.getElem?_map, hq]; rfl
  rw [List.getElem?_map] at h1
  cases hi : is[k0]? with
  | none => rw [hi] at h1; cases h1
  | some i => rw [hi] at h1; exact hP i q (Option.some.inj h1)
theorem vr_widen {k n : Nat} (h1 : cells ≤ k) (h2 : slots ≤ n) (kk : vr_W p l e R s m args below meth c D A nL k n Q ws pc lv st) : vr_W p l e R s m args below meth c D A nL cells slots Q ws pc lv st :=
  fun H locs ls hP hD hS hl => W.widen h1 h2 (kk H locs ls hP hD hS hl)
end PERM
end
section
/-! VersionRows: its state as a mathematical value, and what its methods answer, as functions of it -/
abbrev vr_G : Type := va_G × ClassId × ClassId × ClassId
abbrev vr_tys (g : vr_G) : List (ClassId × FieldType) := [(g.2.1, .int), (g.2.2.1, .long), (g.2.2.2, .boolean)]
abbrev vr_min : Int64 := -9223372036854775808
theorem vr_n0 : nI 0 = 0 := rfl
theorem vr_n1 : nI 1 = 1 := rfl
-- records: kinds, lockers, untils, count
abbrev vx_R : Type := (Nat → Int32) × (Nat → Int32) × (Nat → Int64) × Nat
abbrev rr_k (r : vx_R) : Nat → Int32 := r.1
abbrev rr_l (r : vx_R) : Nat → Int32 := r.2.1
abbrev rr_u (r : vx_R) : Nat → Int64 := r.2.2.1
abbrev rr_n (r : vx_R) : Nat := r.2.2.2
-- acts: records, fields, values, valids, knowns, counting, ordered, count
abbrev vx_A : Type := (Nat → Int32) × (Nat → Int32) × (Nat → Int32) × (Nat → Int64) × (Nat → Int64) × (Nat → Bool) × (Nat → Nat) × Nat
abbrev ta_r (t : vx_A) : Nat → Int32 := t.1
abbrev ta_f (t : vx_A) : Nat → Int32 := t.2.1
abbrev ta_v (t : vx_A) : Nat → Int32 := t.2.2.1
abbrev ta_d (t : vx_A) : Nat → Int64 := t.2.2.2.1
abbrev ta_k (t : vx_A) : Nat → Int64 := t.2.2.2.2.1
abbrev ta_c (t : vx_A) : Nat → Bool := t.2.2.2.2.2.1
abbrev ta_o (t : vx_A) : Nat → Nat := t.2.2.2.2.2.2.1
abbrev ta_n (t : vx_A) : Nat := t.2.2.2.2.2.2.2
-- batches: of, count
abbrev vx_B : Type := (Nat → Int32) × Nat
abbrev tb_o (b : vx_B) : Nat → Int32 := b.1
abbrev tb_n (b : vx_B) : Nat := b.2
/-- the cells of a VersionRows -/
def vx_w (g : vr_G) (a : Nat → Nat) (r : vx_R) (t : vx_A) (w : Nat → Int64) (b : vx_B) : va_W :=
  [(a 0, .inr (4, [.ref (a 1), .ref (a 2), .ref (a 3), .ref (a 4)])),
   (a 1, .inr (3, [.ref (a 5), .ref (a 6), .ref (a 7), .int (nI (rr_n r))])),
   (a 2, .inr (0, [.ref (a 8), .ref (a 9), .ref (a 10), .ref (a 11), .ref (a 12), .ref (a 13), .ref (a 14), .int (nI (ta_n t))])),
   (a 3, .inr (2, [.ref (a 15)])),
   (a 4, .inr (1, [.ref (a 16), .int (nI (tb_n b))])),
   (a 5, .inl (g.2.1, 21, .inl (rr_k r))),
   (a 6, .inl (g.2.1, 21, .inl (rr_l r))),
   (a 7, .inl (g.2.2.1, 21, .inr (.inl (rr_u r)))),
   (a 8, .inl (g.2.1, 201, .inl (ta_r t))),
   (a 9, .inl (g.2.1, 201, .inl (ta_f t))),
   (a 10, .inl (g.2.1, 201, .inl (ta_v t))),
   (a 11, .inl (g.2.2.1, 201, .inr (.inl (ta_d t)))),
   (a 12, .inl (g.2.2.1, 201, .inr (.inl (ta_k t)))),
   (a 13, .inl (g.2.2.2, 201, .inl (fun j => vr_b (ta_c t j)))),
   (a 14, .inl (g.2.1, 201, .inl (fun j => nI (ta_o t j)))),
   (a 15, .inl (g.2.2.1, 804, .inr (.inl w))),
   (a 16, .inl (g.2.1, 201, .inl (tb_o b)))]
/-- within the limits -/
def vx_ok (r : vx_R) (t : vx_A) (b : vx_B) : Prop := rr_n r ≤ 20 ∧ ta_n t ≤ 200 ∧ (∀ j, ta_o t j ≤ 200) ∧ tb_n b ≤ 30
def vx_has (n : Nat) (i : Int32) : Bool := if i < nI 1 then false else if nI n < i then false else true
theorem vx_has_of {n : Nat} {i : Int32} (hn : n < 2 ^ 31) (h : vx_has n i = true) : ∃ k : Nat, 1 ≤ k ∧ k ≤ n ∧ i = nI k := by
  unfold vx_has at h
  split at h
  · cases h
  · rename_i h1
    split at h
    · cases h
    · rename_i h2
      have h3 : ¬ i < 0 := fun q => h1 (Int32.lt_trans q (by decide))
      obtain ⟨k, hk, rfl⟩ := nI_of h3
      have e1 : ¬ k < 1 := fun q => h1 ((nI_ltI hk (by decide)).mpr q)
      have e2 : ¬ n < k := fun q => h2 ((nI_ltI hn hk).mpr q)
      exact ⟨k, by omega, by omega, rfl⟩
theorem vx_has_nI {n k : Nat} (hn : n < 2 ^ 31) (h1 : 1 ≤ k) (h2 : k ≤ n) : vx_has n (nI k) = true := by
  have e1 : ¬ nI k < nI 1 := fun q => absurd ((nI_ltI (by omega) (by decide)).mp q) (by omega)
  have e2 : ¬ nI n < nI k := fun q => absurd ((nI_ltI hn (by omega)).mp q) (by omega)
  simp [vx_has, e1, e2]
def xa_now (t : vx_A) : Int64 := if ta_n t = 0 then vr_min else ta_k t (ta_o t (ta_n t))
def xa_behind (t : vx_A) (i j : Nat) : Bool := if ta_k t i = ta_k t j then (if ta_d t i ≤ ta_d t j then false else true) else (if ta_k t i ≤ ta_k t j then false else true)
def xa_isOf (t : vx_A) (k : Nat) (rc fd : Int32) : Bool := if ta_r t k = rc then (if ta_f t k = fd then true else false) else false
def xa_same (t : vx_A) (k : Nat) (rc fd v : Int32) (vd kn : Int64) : Bool :=
  if ta_c t k = true then (if xa_isOf t k rc fd = true then (if ta_v t k = v then (if ta_d t k = vd then (if ta_k t k = kn then true else false) else false) else false) else false) else false
def xa_find (t : vx_A) (rc fd v : Int32) (vd kn : Int64) : Nat → Nat → Nat
  | 0, _ => 0
  | n + 1, k => if ta_n t < k then 0 else if xa_same t k rc fd v vd kn = true then k else xa_find t rc fd v vd kn n (k + 1)
def xa_lcond (t : vx_A) (rc fd : Int32) (mo : Int64) (k : Nat) : Bool :=
  if ta_c t k = true then (if mo < ta_k t k then false else (if xa_isOf t k rc fd = true then true else false)) else false
def xa_last (t : vx_A) (rc fd : Int32) (mo : Int64) : Nat → Nat
  | 0 => 0
  | q + 1 => if xa_lcond t rc fd mo (ta_o t (q + 1)) = true then ta_o t (q + 1) else xa_last t rc fd mo q
def xa_ith (t : vx_A) (rc fd : Int32) : Nat → Nat → Nat → Nat
  | 0, _, _ => 0
  | n + 1, k, ah => if ta_n t < k then 0 else if xa_isOf t (ta_o t k) rc fd = true then (if ah = 0 then ta_o t k else xa_ith t rc fd n (k + 1) (ah - 1)) else xa_ith t rc fd n (k + 1) ah
def xa_conf (t : vx_A) (i j : Nat) : Bool :=
  if ta_k t i = ta_k t j then (if ta_c t i = true then (if ta_c t j = true then (if xa_isOf t i (ta_r t j) (ta_f t j) = true then (if ta_v t i = ta_v t j then false else true) else false) else false) else false) else false
def xa_put (t : vx_A) : Nat → (Nat → Nat) → (Nat → Nat)
  | 0, o => o
  | q + 1, o => if q + 1 ≤ 1 then vr_un o (q + 1) (ta_n t) else if xa_behind t (o q) (ta_n t) = true then xa_put t q (vr_un o (q + 1) (o q)) else vr_un o (q + 1) (ta_n t)
abbrev ta_setO (t : vx_A) (o : Nat → Nat) : vx_A := (ta_r t, ta_f t, ta_v t, ta_d t, ta_k t, ta_c t, o, ta_n t)
abbrev ta_setC (t : vx_A) (c : Nat → Bool) : vx_A := (ta_r t, ta_f t, ta_v t, ta_d t, ta_k t, c, ta_o t, ta_n t)
def xa_new (t : vx_A) (rc fd v : Int32) (vd kn : Int64) : vx_A :=
  (upd (ta_r t) (ta_n t + 1) rc, upd (ta_f t) (ta_n t + 1) fd, upd (ta_v t) (ta_n t + 1) v, vp_updL (ta_d t) (ta_n t + 1) vd, vp_updL (ta_k t) (ta_n t + 1) kn, vr_ub (ta_c t) (ta_n t + 1) true, ta_o t, ta_n t + 1)
def xa_add (t : vx_A) (rc fd v : Int32) (vd kn : Int64) : vx_A :=
  ta_setO (xa_new t rc fd v vd kn) (xa_put (xa_new t rc fd v vd kn) (ta_n t + 1) (ta_o t))
def xl_bit (o : Nat) : Int64 := (1 : Int64) <<< ((nI (o % 64)).toInt64 &&& 63)
def xl_has (w : Nat → Int64) (k o : Nat) : Bool := if w (k * 4 + o / 64) &&& xl_bit o = 0 then false else true
def xl_add (w : Nat → Int64) (k o : Nat) : Nat → Int64 := vp_updL w (k * 4 + o / 64) (w (k * 4 + o / 64) ||| xl_bit o)
def xb_taken (b : vx_B) (to : Nat) : Nat → Nat → Bool
  | 0, _ => false
  | n + 1, k => if to < k then false else if tb_o b k = 0 then xb_taken b to n (k + 1) else true
def xb_fill (v : Int32) (to : Nat) : Nat → Nat → (Nat → Int32) → (Nat → Int32)
  | 0, _, o => o
  | n + 1, k, o => if to < k then o else xb_fill v to n (k + 1) (upd o k v)
def xv_hasF (r : vx_R) (rc fd : Int32) : Bool := if vx_has (rr_n r) rc = true then (if fd < 0 then false else if nI 8 ≤ fd then false else true) else false
def xv_locked (r : vx_R) (t : vx_A) (k : Nat) : Bool := if rr_u r k ≤ xa_now t then false else true
def xv_refuse (r : vx_R) (k : Nat) (fd : Int32) (v : Int64) : Bool := if fd = 0 then (if v = 1 then (if rr_k r k = nI 1 then true else false) else false) else false
def xv_lean1 (t : vx_A) (w : Nat → Int64) (k : Nat) : Nat → Nat → Bool
  | 0, _ => false
  | n + 1, j => if ta_n t < j then false else if ta_c t j = true then (if xl_has w j k = true then true else xv_lean1 t w k n (j + 1)) else xv_lean1 t w k n (j + 1)
def xv_leanO (t : vx_A) (w : Nat → Int64) (b : vx_B) (k : Nat) (bt : Int32) : Nat → Nat → Bool
  | 0, _ => false
  | n + 1, j => if ta_n t < j then false else if ta_c t j = true then (if tb_o b j = bt then xv_leanO t w b k bt n (j + 1) else if xl_has w j k = true then true else xv_leanO t w b k bt n (j + 1)) else xv_leanO t w b k bt n (j + 1)
def xv_inC (b : vx_B) (bt : Int32) (c : Nat → Bool) (k : Nat) : Bool := if tb_o b k = bt then (if c k = true then true else false) else false
def xv_leanF (t : vx_A) (w : Nat → Int64) (b : vx_B) (bt : Int32) : Nat → Nat → Bool
  | 0, _ => false
  | n + 1, j => if ta_n t < j then false else if xv_inC b bt (ta_c t) j = true then (if xv_leanO t w b j bt (ta_n t + 1) (j + 1) = true then true else xv_leanF t w b bt n (j + 1)) else xv_leanF t w b bt n (j + 1)
def xv_dropC (b : vx_B) (bt : Int32) : Nat → (Nat → Bool) → (Nat → Bool)
  | 0, c => c
  | q + 1, c => if xv_inC b bt c (q + 1) = true then xv_dropC b bt q (vr_ub c (q + 1) false) else xv_dropC b bt q c
def xv_dropN (b : vx_B) (bt : Int32) : Nat → (Nat → Bool) → Nat → Nat
  | 0, _, d => d
  | q + 1, c, d => if xv_inC b bt c (q + 1) = true then xv_dropN b bt q (vr_ub c (q + 1) false) (d + 1) else xv_dropN b bt q c d
/-- the walk over pairs: at the pair (lo, hi), with ah pairs to pass -/
def xv_pair (t : vx_A) (what : Int32) : Nat → Nat → Nat → Nat → Int32
  | 0, _, _, _ => -1
  | n + 1, lo, hi, ah =>
    if ta_n t < hi then (if ta_n t ≤ lo + 1 then -1 else xv_pair t what n (lo + 1) (lo + 1 + 1) ah)
    else if xa_conf t lo hi = true then (if ah = 0 then (if what = 0 then nI lo else nI hi) else xv_pair t what n lo (hi + 1) (ah - 1)) else xv_pair t what n lo (hi + 1) ah
theorem vr_n2 : nI 2 = 2 := rfl
theorem vr_un_le {f : Nat → Nat} {k v : Nat} (h : ∀ j, f j ≤ 200) (hv : v ≤ 200) : ∀ j, vr_un f k v j ≤ 200 := fun j => by
  unfold vr_un; split
  · exact hv
  · exact h j
def xr_add (r : vx_R) (kd : Int32) : vx_R := (upd (rr_k r) (rr_n r + 1) kd, rr_l r, vp_updL (rr_u r) (rr_n r + 1) vr_min, rr_n r + 1)
def xr_lock (r : vx_R) (k : Nat) (who : Int32) (un : Int64) : vx_R := (rr_k r, upd (rr_l r) k who, vp_updL (rr_u r) k un, rr_n r)
def xb_can (b : vx_B) (f to : Nat) : Bool := if 30 ≤ tb_n b then false else if xb_taken b to (to + 2) f = true then false else true
def xb_add (b : vx_B) (f to : Nat) : vx_B := (xb_fill (nI (tb_n b + 1)) to (to + 2) f (tb_o b), tb_n b + 1)
theorem xv_hasF_has {r : vx_R} {rc fd : Int32} (h : xv_hasF r rc fd = true) : vx_has (rr_n r) rc = true := by
  unfold xv_hasF at h; split at h
  · assumption
  · cases h
theorem xa_find_le (t : vx_A) (rc fd v : Int32) (vd kn : Int64) : ∀ n k, xa_find t rc fd v vd kn n k ≤ ta_n t := by
  intro n
  induction n with
  | zero => intro k; simp [xa_find]
  | succ n ih =>
    intro k
    rw [xa_find]
    split
    · omega
    · split
      · omega
      · exact ih _
theorem xa_last_le {t : vx_A} (h : ∀ j, ta_o t j ≤ 200) (rc fd : Int32) (mo : Int64) : ∀ q, xa_last t rc fd mo q ≤ 200 := by
  intro q
  induction q with
  | zero => simp [xa_last]
  | succ q ih =>
    rw [xa_last]
    split
    · exact h _
    · exact ih
def xv_rec (r : vx_R) (kd : Int32) : Bool := if kd < 0 then false else if kd < nI 4 then (if rr_n r < 20 then true else false) else false
def xv_actOk (r : vx_R) (t : vx_A) (rc fd : Int32) (v : Int64) : Bool :=
  if xv_hasF r rc fd = true then (if v < 0 then false else if v ≤ 2147483647 then (if xv_locked r t rc.toNatClampNeg = true then false else if xv_refuse r rc.toNatClampNeg fd v = true then false else true) else false) else false
def xv_fnd (t : vx_A) (rc fd : Int32) (v vd kn : Int64) : Nat := xa_find t rc fd v.toInt32 vd kn (ta_n t + 2) 1
def xv_actN (r : vx_R) (t : vx_A) (rc fd : Int32) (v vd kn : Int64) : Nat := if xv_actOk r t rc fd v = true then (if xv_fnd t rc fd v vd kn = 0 then (if ta_n t < 200 then ta_n t + 1 else 0) else xv_fnd t rc fd v vd kn) else 0
def xv_actT (r : vx_R) (t : vx_A) (rc fd : Int32) (v vd kn : Int64) : vx_A := if xv_actOk r t rc fd v = true then (if xv_fnd t rc fd v vd kn = 0 then (if ta_n t < 200 then xa_add t rc fd v.toInt32 vd kn else t) else t) else t
def xv_at (r : vx_R) (t : vx_A) (rc fd : Int32) (mo : Int64) : Int32 := if xv_hasF r rc fd = true then (if xa_last t rc fd mo (ta_n t) = 0 then -1 else ta_v t (xa_last t rc fd mo (ta_n t))) else -1
def xv_stale (r : vx_R) (t : vx_A) (rc : Int32) (mo : Int64) (fd : Int32) : Int32 :=
  if xv_hasF r rc fd = true then
    (if xa_last t rc fd (xa_now t) (ta_n t) = 0 then 1 else if mo < ta_k t (xa_last t rc fd (xa_now t) (ta_n t)) then
      (if xa_last t rc fd mo (ta_n t) = 0 then 0 else if ta_v t (xa_last t rc fd mo (ta_n t)) = ta_v t (xa_last t rc fd (xa_now t) (ta_n t)) then 2 else 0) else 1)
  else -1
def xv_undo (t : vx_A) (w : Nat → Int64) (i : Int32) : Bool := if vx_has (ta_n t) i = true then (if ta_c t i.toNatClampNeg = true then (if xv_lean1 t w i.toNatClampNeg (ta_n t + 1) (i.toNatClampNeg + 1) = true then false else true) else false) else false
def xv_lean (t : vx_A) (w : Nat → Int64) (i o : Int32) : Bool := if vx_has (ta_n t) i = true then (if vx_has (ta_n t) o = true then (if i.toNatClampNeg ≤ o.toNatClampNeg then false else if xl_has w i.toNatClampNeg o.toNatClampNeg = true then false else true) else false) else false
def xv_lock (r : vx_R) (t : vx_A) (rc who : Int32) : Bool := if vx_has (rr_n r) rc = true then (if xv_locked r t rc.toNatClampNeg = true then (if rr_l r rc.toNatClampNeg = who then true else false) else true) else false
def xv_bat (t : vx_A) (b : vx_B) (f to : Int32) : Bool := if vx_has (ta_n t) f = true then (if vx_has (ta_n t) to = true then (if f.toNatClampNeg ≤ to.toNatClampNeg then xb_can b f.toNatClampNeg to.toNatClampNeg else false) else false) else false
def xv_can (t : vx_A) (w : Nat → Int64) (b : vx_B) (bt : Int32) : Bool := if vx_has (tb_n b) bt = true then (if xv_leanF t w b bt (ta_n t + 2) 1 = true then false else true) else false
def xv_cf (t : vx_A) (i what : Int32) : Int32 := if i < 0 then -1 else if what < 0 then -1 else if what ≤ nI 1 then (if ta_n t ≤ 1 then -1 else xv_pair t what 40804 1 2 i.toNatClampNeg) else -1
def xv_hist (r : vx_R) (t : vx_A) (rc fd i : Int32) : Nat := if xv_hasF r rc fd = true then (if 0 ≤ i then xa_ith t rc fd (ta_n t + 2) 1 i.toNatClampNeg else 0) else 0
/-- a new object -/
abbrev vx_r0 : vx_R := (fun _ => 0, fun _ => 0, fun _ => 0, 0)
abbrev vx_t0 : vx_A := (fun _ => 0, fun _ => 0, fun _ => 0, fun _ => 0, fun _ => 0, fun _ => false, fun _ => 0, 0)
abbrev vx_b0 : vx_B := (fun _ => 0, 0)
def vr_at0 (h : Nat) (u : Nat → Nat) : Nat → Nat
  | 0 => h
  | n + 1 => u n
end
section
def rm_xw_Acts_has : Room := { frames := 0, cells := 0, slots := 0, locals := 0 }
set_option maxHeartbeats 4000000 in
set_option maxRecDepth 100000 in
theorem xc_Acts_has (l : Launch) (g : vr_G) (a : Nat → Nat) (r : vx_R) (t : vx_A) (w : Nat → Int64) (b : vx_B) (i : Int32) : vr_Ci l yX0_has wsX0_has rm_xw_Acts_has g.1 (vr_tys g) [.ref (a 2), .int i] (vx_w g a r t w b) (vx_w g a r t w b) (vr_b (vx_has (ta_n t) i)) := by
  refine vr_Ci_mk (cc := cX0_has) (nL := 2) (ty := .boolean) (vr_nz _) (by decide) rfl (Nat.le_of_ble_eq_true rfl) ?_
  intro p e s m args below meth c A Q hF hret
  refine vr_to (ws' := (vx_w g a r t w b)) (lv' := [(0, .ref (a 2)), (1, .int i)]) (st' := []) rfl rfl rfl ?_
  refine vr_iload_n hF 1 rfl dX0_has_0 rfl rfl ?_
  refine vr_iconst (v := nI 1) hF dX0_has_1 (by decide +kernel) rfl ?_
  refine vr_icmp_lt (tgt := 17) hF dX0_has_2 (by decide) rfl (fun c_2 => ?_) (fun c_2 => ?_)
  · skip
    refine vr_iconst (v := nI 0) hF dX0_has_17 (by decide +kernel) rfl ?_
    exact vr_reti hret dX0_has_18 (by simp [vx_has, vr_bt, vr_bf, c_2])
  · skip
    refine vr_iload_n hF 1 rfl dX0_has_5 rfl rfl ?_
    refine vr_aload_n hF 0 rfl dX0_has_6 rfl rfl ?_
    refine vr_get (v := .int (nI (ta_n t))) hF 2 7 (vr_in inX0) (vr_m flX0_35) rfl (by decide) rfl rfl rfl dX0_has_7 rfl ?_
    refine vr_icmp_gt (tgt := 17) hF dX0_has_10 (by decide) rfl (fun c_10 => ?_) (fun c_10 => ?_)
    · skip
      refine vr_iconst (v := nI 0) hF dX0_has_17 (by decide +kernel) rfl ?_
      exact vr_reti hret dX0_has_18 (by simp [vx_has, vr_bt, vr_bf, c_2, c_10])
    · skip
      refine vr_iconst (v := nI 1) hF dX0_has_13 (by decide +kernel) rfl ?_
      refine vr_goto (tgt := 18) hF dX0_has_14 (by decide) ?_
      exact vr_reti hret dX0_has_18 (by simp [vx_has, vr_bt, vr_bf, c_2, c_10])
def rm_xw_Acts_count : Room := { frames := 0, cells := 0, slots := 0, locals := 0 }
set_option maxHeartbeats 4000000 in
set_option maxRecDepth 100000 in
theorem xc_Acts_count (l : Launch) (g : vr_G) (a : Nat → Nat) (r : vx_R) (t : vx_A) (w : Nat → Int64) (b : vx_B) : vr_Ci l yX0_count wsX0_count rm_xw_Acts_count g.1 (vr_tys g) [.ref (a 2)] (vx_w g a r t w b) (vx_w g a r t w b) (nI (ta_n t)) := by
  refine vr_Ci_mk (cc := cX0_count) (nL := 1) (ty := .int) rfl (by decide) rfl (Nat.le_of_ble_eq_true rfl) ?_
  intro p e s m args below meth c A Q hF hret
  refine vr_to (ws' := (vx_w g a r t w b)) (lv' := [(0, .ref (a 2))]) (st' := []) rfl rfl rfl ?_
  refine vr_aload_n hF 0 rfl dX0_count_0 rfl rfl ?_
  refine vr_get (v := .int (nI (ta_n t))) hF 2 7 (vr_in inX0) (vr_m flX0_35) rfl (by decide) rfl rfl rfl dX0_count_1 rfl ?_
  exact vr_reti hret dX0_count_4 (by simp [vr_bt, vr_bf])
def rm_xw_Acts_counts : Room := { frames := 0, cells := 0, slots := 0, locals := 0 }
set_option maxHeartbeats 4000000 in
set_option maxRecDepth 100000 in
theorem xc_Acts_counts (l : Launch) (g : vr_G) (a : Nat → Nat) (r : vx_R) (t : vx_A) (w : Nat → Int64) (b : vx_B) (k : Nat) (hk : k ≤ 200) : vr_Ci l yX0_counts wsX0_counts rm_xw_Acts_counts g.1 (vr_tys g) [.ref (a 2), .int (nI k)] (vx_w g a r t w b) (vx_w g a r t w b) (vr_b (ta_c t k)) := by
  refine vr_Ci_mk (cc := cX0_counts) (nL := 2) (ty := .boolean) (vr_nz _) (by decide) rfl (Nat.le_of_ble_eq_true rfl) ?_
  intro p e s m args below meth c A Q hF hret
  refine vr_to (ws' := (vx_w g a r t w b)) (lv' := [(0, .ref (a 2)), (1, .int (nI k))]) (st' := []) rfl rfl rfl ?_
  refine vr_aload_n hF 0 rfl dX0_counts_0 rfl rfl ?_
  refine vr_get (v := .ref (a 13)) hF 2 5 (vr_in inX0) (vr_m flX0_28) rfl (by decide) rfl rfl rfl dX0_counts_1 rfl ?_
  refine vr_iload_n hF 1 rfl dX0_counts_4 rfl rfl ?_
  refine vr_zald (i := k) (n := 201) (f := (fun j => vr_b ((ta_c t) j))) hF 13 2 rfl rfl (by omega) (by decide) dX0_counts_5 rfl ?_
  refine vr_to (ws' := (vx_w g a r t w b)) (lv' := [(0, .ref (a 2)), (1, .int (nI k))]) (st' := [.int (vr_b ((ta_c t) k))]) rfl rfl rfl ?_
  exact vr_reti hret dX0_counts_6 (by simp [vr_bt, vr_bf])
def rm_xw_Acts_value : Room := { frames := 0, cells := 0, slots := 0, locals := 0 }
set_option maxHeartbeats 4000000 in
set_option maxRecDepth 100000 in
theorem xc_Acts_value (l : Launch) (g : vr_G) (a : Nat → Nat) (r : vx_R) (t : vx_A) (w : Nat → Int64) (b : vx_B) (k : Nat) (hk : k ≤ 200) : vr_Ci l yX0_value wsX0_value rm_xw_Acts_value g.1 (vr_tys g) [.ref (a 2), .int (nI k)] (vx_w g a r t w b) (vx_w g a r t w b) (ta_v t k) := by
  refine vr_Ci_mk (cc := cX0_value) (nL := 2) (ty := .int) rfl (by decide) rfl (Nat.le_of_ble_eq_true rfl) ?_
  intro p e s m args below meth c A Q hF hret
  refine vr_to (ws' := (vx_w g a r t w b)) (lv' := [(0, .ref (a 2)), (1, .int (nI k))]) (st' := []) rfl rfl rfl ?_
  refine vr_aload_n hF 0 rfl dX0_value_0 rfl rfl ?_
  refine vr_get (v := .ref (a 10)) hF 2 2 (vr_in inX0) (vr_m flX0_18) rfl (by decide) rfl rfl rfl dX0_value_1 rfl ?_
  refine vr_iload_n hF 1 rfl dX0_value_4 rfl rfl ?_
  refine vr_iald (i := k) (n := 201) (f := (ta_v t)) hF 10 0 rfl rfl (by omega) (by decide) dX0_value_5 rfl ?_
  exact vr_reti hret dX0_value_6 (by simp [vr_bt, vr_bf])
def rm_xw_Acts_known : Room := { frames := 0, cells := 0, slots := 0, locals := 0 }
set_option maxHeartbeats 4000000 in
set_option maxRecDepth 100000 in
theorem xc_Acts_known (l : Launch) (g : vr_G) (a : Nat → Nat) (r : vx_R) (t : vx_A) (w : Nat → Int64) (b : vx_B) (k : Nat) (hk : k ≤ 200) : vr_Cl l yX0_known wsX0_known rm_xw_Acts_known g.1 (vr_tys g) [.ref (a 2), .int (nI k)] (vx_w g a r t w b) (vx_w g a r t w b) (ta_k t k) := by
  refine vr_Cl_mk (cc := cX0_known) (nL := 2) (by decide) rfl (Nat.le_of_ble_eq_true rfl) ?_
  intro p e s m args below meth c A Q hF hret
  refine vr_to (ws' := (vx_w g a r t w b)) (lv' := [(0, .ref (a 2)), (1, .int (nI k))]) (st' := []) rfl rfl rfl ?_
  refine vr_aload_n hF 0 rfl dX0_known_0 rfl rfl ?_
  refine vr_get (v := .ref (a 12)) hF 2 4 (vr_in inX0) (vr_m flX0_25) rfl (by decide) rfl rfl rfl dX0_known_1 rfl ?_
  refine vr_iload_n hF 1 rfl dX0_known_4 rfl rfl ?_
  refine vr_lald (i := k) (n := 201) (f := (ta_k t)) hF 12 1 rfl rfl (by omega) (by decide) dX0_known_5 rfl ?_
  exact vr_retl hret dX0_known_6 (by simp [vr_bt, vr_bf])
def rm_xw_Acts_now : Room := { frames := 0, cells := 0, slots := 0, locals := 0 }
set_option maxHeartbeats 4000000 in
set_option maxRecDepth 100000 in
theorem xc_Acts_now (l : Launch) (g : vr_G) (a : Nat → Nat) (r : vx_R) (t : vx_A) (w : Nat → Int64) (b : vx_B) (h : vx_ok r t b) : vr_Cl l yX0_now wsX0_now rm_xw_Acts_now g.1 (vr_tys g) [.ref (a 2)] (vx_w g a r t w b) (vx_w g a r t w b) (xa_now t) := by
  obtain ⟨hrn, htn, hto, hbn⟩ := id h
  refine vr_Cl_mk (cc := cX0_now) (nL := 1) (by decide) rfl (Nat.le_of_ble_eq_true rfl) ?_
  intro p e s m args below meth c A Q hF hret
  refine vr_to (ws' := (vx_w g a r t w b)) (lv' := [(0, .ref (a 2))]) (st' := []) rfl rfl rfl ?_
  refine vr_aload_n hF 0 rfl dX0_now_0 rfl rfl ?_
  refine vr_get (v := .int (nI (ta_n t))) hF 2 7 (vr_in inX0) (vr_m flX0_35) rfl (by decide) rfl rfl rfl dX0_now_1 rfl ?_
  refine vr_if_neN (tgt := 13) (x := (ta_n t)) hF (by omega) dX0_now_4 (by decide) rfl (fun c_4 => ?_) (fun c_4 => ?_)
  · skip
    refine vr_aload_n hF 0 rfl dX0_now_13 rfl rfl ?_
    refine vr_get (v := .ref (a 12)) hF 2 4 (vr_in inX0) (vr_m flX0_25) rfl (by decide) rfl rfl rfl dX0_now_14 rfl ?_
    refine vr_aload_n hF 0 rfl dX0_now_17 rfl rfl ?_
    refine vr_get (v := .ref (a 14)) hF 2 6 (vr_in inX0) (vr_m flX0_32) rfl (by decide) rfl rfl rfl dX0_now_18 rfl ?_
    refine vr_aload_n hF 0 rfl dX0_now_21 rfl rfl ?_
    refine vr_get (v := .int (nI (ta_n t))) hF 2 7 (vr_in inX0) (vr_m flX0_35) rfl (by decide) rfl rfl rfl dX0_now_22 rfl ?_
    refine vr_iald (i := ta_n t) (n := 201) (f := (fun j => nI ((ta_o t) j))) hF 14 0 rfl rfl (by omega) (by decide) dX0_now_25 rfl ?_
    refine vr_to (ws' := (vx_w g a r t w b)) (lv' := [(0, .ref (a 2))]) (st' := [.int (nI ((ta_o t) (ta_n t))), .ref (a 12)]) rfl rfl rfl ?_
    have ho1 := hto (ta_n t)
    refine vr_lald (i := (ta_o t) (ta_n t)) (n := 201) (f := (ta_k t)) hF 12 1 rfl rfl (by omega) (by decide) dX0_now_26 rfl ?_
    exact vr_retl hret dX0_now_27 (by simp [xa_now, vr_bt, vr_bf, c_4])
  · skip
    refine vr_ldc2 (v := vr_min) hF (vr_m kX0_39) dX0_now_7 rfl ?_
    refine vr_goto (tgt := 27) hF dX0_now_10 (by decide) ?_
    exact vr_retl hret dX0_now_27 (by simp [xa_now, vr_bt, vr_bf, c_4])
def rm_xw_Acts_setUndone : Room := { frames := 0, cells := 0, slots := 0, locals := 0 }
set_option maxHeartbeats 4000000 in
set_option maxRecDepth 100000 in
theorem xc_Acts_setUndone (l : Launch) (g : vr_G) (a : Nat → Nat) (r : vx_R) (t : vx_A) (w : Nat → Int64) (b : vx_B) (k : Nat) (hk : k ≤ 200) : vr_Cv l yX0_setUndone wsX0_setUndone rm_xw_Acts_setUndone g.1 (vr_tys g) [.ref (a 2), .int (nI k)] (vx_w g a r t w b) (vx_w g a r (ta_setC t (vr_ub (ta_c t) k false)) w b)  := by
  refine vr_Cv_mk (cc := cX0_setUndone) (nL := 2) (by decide) rfl (Nat.le_of_ble_eq_true rfl) ?_
  intro p e s m args below meth c A Q hF hret
  refine vr_to (ws' := (vx_w g a r t w b)) (lv' := [(0, .ref (a 2)), (1, .int (nI k))]) (st' := []) rfl rfl rfl ?_
  refine vr_aload_n hF 0 rfl dX0_setUndone_0 rfl rfl ?_
  refine vr_get (v := .ref (a 13)) hF 2 5 (vr_in inX0) (vr_m flX0_28) rfl (by decide) rfl rfl rfl dX0_setUndone_1 rfl ?_
  refine vr_iload_n hF 1 rfl dX0_setUndone_4 rfl rfl ?_
  refine vr_iconst (v := nI 0) hF dX0_setUndone_5 (by decide +kernel) rfl ?_
  refine vr_zastB (ws' := (vx_w g a r (ta_r t, ta_f t, ta_v t, ta_d t, ta_k t, vr_ub (ta_c t) k false, ta_o t, ta_n t) w b)) (i := k) (x := false) (n := 201) (f := (ta_c t)) hF 13 2 rfl rfl (by omega) (by decide) rfl dX0_setUndone_6 rfl ?_
  exact vr_retv hret dX0_setUndone_7 rfl
def rm_xw_Acts_isOf : Room := { frames := 0, cells := 0, slots := 0, locals := 0 }
set_option maxHeartbeats 4000000 in
set_option maxRecDepth 100000 in
theorem xc_Acts_isOf (l : Launch) (g : vr_G) (a : Nat → Nat) (r : vx_R) (t : vx_A) (w : Nat → Int64) (b : vx_B) (k : Nat) (rc : Int32) (fd : Int32) (hk : k ≤ 200) : vr_Ci l yX0_isOf wsX0_isOf rm_xw_Acts_isOf g.1 (vr_tys g) [.ref (a 2), .int (nI k), .int rc, .int fd] (vx_w g a r t w b) (vx_w g a r t w b) (vr_b (xa_isOf t k rc fd)) := by
  refine vr_Ci_mk (cc := cX0_isOf) (nL := 4) (ty := .boolean) (vr_nz _) (by decide) rfl (Nat.le_of_ble_eq_true rfl) ?_
  intro p e s m args below meth c A Q hF hret
  refine vr_to (ws' := (vx_w g a r t w b)) (lv' := [(0, .ref (a 2)), (1, .int (nI k)), (2, .int rc), (3, .int fd)]) (st' := []) rfl rfl rfl ?_
  refine vr_aload_n hF 0 rfl dX0_isOf_0 rfl rfl ?_
  refine vr_get (v := .ref (a 8)) hF 2 0 (vr_in inX0) (vr_m flX0_9) rfl (by decide) rfl rfl rfl dX0_isOf_1 rfl ?_
  refine vr_iload_n hF 1 rfl dX0_isOf_4 rfl rfl ?_
  refine vr_iald (i := k) (n := 201) (f := (ta_r t)) hF 8 0 rfl rfl (by omega) (by decide) dX0_isOf_5 rfl ?_
  refine vr_iload_n hF 2 rfl dX0_isOf_6 rfl rfl ?_
  refine vr_icmp_ne (tgt := 24) hF dX0_isOf_7 (by decide) rfl (fun c_7 => ?_) (fun c_7 => ?_)
  · skip
    refine vr_iconst (v := nI 0) hF dX0_isOf_24 (by decide +kernel) rfl ?_
    exact vr_reti hret dX0_isOf_25 (by simp [xa_isOf, vr_bt, vr_bf, c_7])
  · skip
    refine vr_aload_n hF 0 rfl dX0_isOf_10 rfl rfl ?_
    refine vr_get (v := .ref (a 9)) hF 2 1 (vr_in inX0) (vr_m flX0_15) rfl (by decide) rfl rfl rfl dX0_isOf_11 rfl ?_
    refine vr_iload_n hF 1 rfl dX0_isOf_14 rfl rfl ?_
    refine vr_iald (i := k) (n := 201) (f := (ta_f t)) hF 9 0 rfl rfl (by omega) (by decide) dX0_isOf_15 rfl ?_
    refine vr_iload_n hF 3 rfl dX0_isOf_16 rfl rfl ?_
    refine vr_icmp_ne (tgt := 24) hF dX0_isOf_17 (by decide) rfl (fun c_17 => ?_) (fun c_17 => ?_)
    · skip
      refine vr_iconst (v := nI 0) hF dX0_isOf_24 (by decide +kernel) rfl ?_
      exact vr_reti hret dX0_isOf_25 (by simp [xa_isOf, vr_bt, vr_bf, c_7, c_17])
    · skip
      refine vr_iconst (v := nI 1) hF dX0_isOf_20 (by decide +kernel) rfl ?_
      refine vr_goto (tgt := 25) hF dX0_isOf_21 (by decide) ?_
      exact vr_reti hret dX0_isOf_25 (by simp [xa_isOf, vr_bt, vr_bf, c_7, c_17])
def rm_xw_Acts_isBehind : Room := { frames := 0, cells := 0, slots := 0, locals := 0 }
set_option maxHeartbeats 4000000 in
set_option maxRecDepth 100000 in
theorem xc_Acts_isBehind (l : Launch) (g : vr_G) (a : Nat → Nat) (r : vx_R) (t : vx_A) (w : Nat → Int64) (b : vx_B) (i : Nat) (j : Nat) (hi : i ≤ 200) (hj : j ≤ 200) : vr_Ci l yX0_isBehind wsX0_isBehind rm_xw_Acts_isBehind g.1 (vr_tys g) [.ref (a 2), .int (nI i), .int (nI j)] (vx_w g a r t w b) (vx_w g a r t w b) (vr_b (xa_behind t i j)) := by
  refine vr_Ci_mk (cc := cX0_isBehind) (nL := 3) (ty := .boolean) (vr_nz _) (by decide) rfl (Nat.le_of_ble_eq_true rfl) ?_
  intro p e s m args below meth c A Q hF hret
  refine vr_to (ws' := (vx_w g a r t w b)) (lv' := [(0, .ref (a 2)), (1, .int (nI i)), (2, .int (nI j))]) (st' := []) rfl rfl rfl ?_
  refine vr_aload_n hF 0 rfl dX0_isBehind_0 rfl rfl ?_
  refine vr_get (v := .ref (a 12)) hF 2 4 (vr_in inX0) (vr_m flX0_25) rfl (by decide) rfl rfl rfl dX0_isBehind_1 rfl ?_
  refine vr_iload_n hF 1 rfl dX0_isBehind_4 rfl rfl ?_
  refine vr_lald (i := i) (n := 201) (f := (ta_k t)) hF 12 1 rfl rfl (by omega) (by decide) dX0_isBehind_5 rfl ?_
  refine vr_aload_n hF 0 rfl dX0_isBehind_6 rfl rfl ?_
  refine vr_get (v := .ref (a 12)) hF 2 4 (vr_in inX0) (vr_m flX0_25) rfl (by decide) rfl rfl rfl dX0_isBehind_7 rfl ?_
  refine vr_iload_n hF 2 rfl dX0_isBehind_10 rfl rfl ?_
  refine vr_lald (i := j) (n := 201) (f := (ta_k t)) hF 12 1 rfl rfl (by omega) (by decide) dX0_isBehind_11 rfl ?_
  refine vr_lcmp_eq (tgt := 38) hF dX0_isBehind_12 dX0_isBehind_13 (by decide) rfl (fun c_13 => ?_) (fun c_13 => ?_)
  · skip
    refine vr_aload_n hF 0 rfl dX0_isBehind_38 rfl rfl ?_
    refine vr_get (v := .ref (a 11)) hF 2 3 (vr_in inX0) (vr_m flX0_21) rfl (by decide) rfl rfl rfl dX0_isBehind_39 rfl ?_
    refine vr_iload_n hF 1 rfl dX0_isBehind_42 rfl rfl ?_
    refine vr_lald (i := i) (n := 201) (f := (ta_d t)) hF 11 1 rfl rfl (by omega) (by decide) dX0_isBehind_43 rfl ?_
    refine vr_aload_n hF 0 rfl dX0_isBehind_44 rfl rfl ?_
    refine vr_get (v := .ref (a 11)) hF 2 3 (vr_in inX0) (vr_m flX0_21) rfl (by decide) rfl rfl rfl dX0_isBehind_45 rfl ?_
    refine vr_iload_n hF 2 rfl dX0_isBehind_48 rfl rfl ?_
    refine vr_lald (i := j) (n := 201) (f := (ta_d t)) hF 11 1 rfl rfl (by omega) (by decide) dX0_isBehind_49 rfl ?_
    refine vr_lcmp_le (tgt := 58) hF dX0_isBehind_50 dX0_isBehind_51 (by decide) rfl (fun c_51 => ?_) (fun c_51 => ?_)
    · skip
      refine vr_iconst (v := nI 0) hF dX0_isBehind_58 (by decide +kernel) rfl ?_
      exact vr_reti hret dX0_isBehind_59 (by simp [xa_behind, vr_bt, vr_bf, c_13, c_51])
    · skip
      refine vr_iconst (v := nI 1) hF dX0_isBehind_54 (by decide +kernel) rfl ?_
      refine vr_goto (tgt := 59) hF dX0_isBehind_55 (by decide) ?_
      exact vr_reti hret dX0_isBehind_59 (by simp [xa_behind, vr_bt, vr_bf, c_13, c_51])
  · skip
    refine vr_aload_n hF 0 rfl dX0_isBehind_16 rfl rfl ?_
    refine vr_get (v := .ref (a 12)) hF 2 4 (vr_in inX0) (vr_m flX0_25) rfl (by decide) rfl rfl rfl dX0_isBehind_17 rfl ?_
    refine vr_iload_n hF 1 rfl dX0_isBehind_20 rfl rfl ?_
    refine vr_lald (i := i) (n := 201) (f := (ta_k t)) hF 12 1 rfl rfl (by omega) (by decide) dX0_isBehind_21 rfl ?_
    refine vr_aload_n hF 0 rfl dX0_isBehind_22 rfl rfl ?_
    refine vr_get (v := .ref (a 12)) hF 2 4 (vr_in inX0) (vr_m flX0_25) rfl (by decide) rfl rfl rfl dX0_isBehind_23 rfl ?_
    refine vr_iload_n hF 2 rfl dX0_isBehind_26 rfl rfl ?_
    refine vr_lald (i := j) (n := 201) (f := (ta_k t)) hF 12 1 rfl rfl (by omega) (by decide) dX0_isBehind_27 rfl ?_
    refine vr_lcmp_le (tgt := 36) hF dX0_isBehind_28 dX0_isBehind_29 (by decide) rfl (fun c_29 => ?_) (fun c_29 => ?_)
    · skip
      refine vr_iconst (v := nI 0) hF dX0_isBehind_36 (by decide +kernel) rfl ?_
      exact vr_reti hret dX0_isBehind_37 (by simp [xa_behind, vr_bt, vr_bf, c_13, c_29])
    · skip
      refine vr_iconst (v := nI 1) hF dX0_isBehind_32 (by decide +kernel) rfl ?_
      refine vr_goto (tgt := 37) hF dX0_isBehind_33 (by decide) ?_
      exact vr_reti hret dX0_isBehind_37 (by simp [xa_behind, vr_bt, vr_bf, c_13, c_29])
def rm_xw_Acts_areInConflict : Room := { frames := 1, cells := 0, slots := 0, locals := 23 }
set_option maxHeartbeats 4000000 in
set_option maxRecDepth 100000 in
theorem xc_Acts_areInConflict (l : Launch) (g : vr_G) (a : Nat → Nat) (r : vx_R) (t : vx_A) (w : Nat → Int64) (b : vx_B) (i : Nat) (j : Nat) (hi : i ≤ 200) (hj : j ≤ 200) : vr_Ci l yX0_areInConflict wsX0_areInConflict rm_xw_Acts_areInConflict g.1 (vr_tys g) [.ref (a 2), .int (nI i), .int (nI j)] (vx_w g a r t w b) (vx_w g a r t w b) (vr_b (xa_conf t i j)) := by
  refine vr_Ci_mk (cc := cX0_areInConflict) (nL := 3) (ty := .boolean) (vr_nz _) (by decide) rfl (Nat.le_of_ble_eq_true rfl) ?_
  intro p e s m args below meth c A Q hF hret
  refine vr_to (ws' := (vx_w g a r t w b)) (lv' := [(0, .ref (a 2)), (1, .int (nI i)), (2, .int (nI j))]) (st' := []) rfl rfl rfl ?_
  refine vr_aload_n hF 0 rfl dX0_areInConflict_0 rfl rfl ?_
  refine vr_get (v := .ref (a 12)) hF 2 4 (vr_in inX0) (vr_m flX0_25) rfl (by decide) rfl rfl rfl dX0_areInConflict_1 rfl ?_
  refine vr_iload_n hF 1 rfl dX0_areInConflict_4 rfl rfl ?_
  refine vr_lald (i := i) (n := 201) (f := (ta_k t)) hF 12 1 rfl rfl (by omega) (by decide) dX0_areInConflict_5 rfl ?_
  refine vr_aload_n hF 0 rfl dX0_areInConflict_6 rfl rfl ?_
  refine vr_get (v := .ref (a 12)) hF 2 4 (vr_in inX0) (vr_m flX0_25) rfl (by decide) rfl rfl rfl dX0_areInConflict_7 rfl ?_
  refine vr_iload_n hF 2 rfl dX0_areInConflict_10 rfl rfl ?_
  refine vr_lald (i := j) (n := 201) (f := (ta_k t)) hF 12 1 rfl rfl (by omega) (by decide) dX0_areInConflict_11 rfl ?_
  refine vr_lcmp_ne (tgt := 73) hF dX0_areInConflict_12 dX0_areInConflict_13 (by decide) rfl (fun c_13 => ?_) (fun c_13 => ?_)
  · skip
    refine vr_iconst (v := nI 0) hF dX0_areInConflict_73 (by decide +kernel) rfl ?_
    exact vr_reti hret dX0_areInConflict_74 (by simp [xa_conf, vr_bt, vr_bf, c_13])
  · skip
    refine vr_aload_n hF 0 rfl dX0_areInConflict_16 rfl rfl ?_
    refine vr_get (v := .ref (a 13)) hF 2 5 (vr_in inX0) (vr_m flX0_28) rfl (by decide) rfl rfl rfl dX0_areInConflict_17 rfl ?_
    refine vr_iload_n hF 1 rfl dX0_areInConflict_20 rfl rfl ?_
    refine vr_zald (i := i) (n := 201) (f := (fun j => vr_b ((ta_c t) j))) hF 13 2 rfl rfl (by omega) (by decide) dX0_areInConflict_21 rfl ?_
    refine vr_to (ws' := (vx_w g a r t w b)) (lv' := [(0, .ref (a 2)), (1, .int (nI i)), (2, .int (nI j))]) (st' := [.int (vr_b ((ta_c t) i))]) rfl rfl rfl ?_
    refine vr_if_eqB (tgt := 73) hF dX0_areInConflict_22 (by decide) rfl (fun c_22 => ?_) (fun c_22 => ?_)
    · skip
      refine vr_iconst (v := nI 0) hF dX0_areInConflict_73 (by decide +kernel) rfl ?_
      exact vr_reti hret dX0_areInConflict_74 (by simp [xa_conf, vr_bt, vr_bf, c_13, c_22])
    · skip
      refine vr_aload_n hF 0 rfl dX0_areInConflict_25 rfl rfl ?_
      refine vr_get (v := .ref (a 13)) hF 2 5 (vr_in inX0) (vr_m flX0_28) rfl (by decide) rfl rfl rfl dX0_areInConflict_26 rfl ?_
      refine vr_iload_n hF 2 rfl dX0_areInConflict_29 rfl rfl ?_
      refine vr_zald (i := j) (n := 201) (f := (fun j => vr_b ((ta_c t) j))) hF 13 2 rfl rfl (by omega) (by decide) dX0_areInConflict_30 rfl ?_
      refine vr_to (ws' := (vx_w g a r t w b)) (lv' := [(0, .ref (a 2)), (1, .int (nI i)), (2, .int (nI j))]) (st' := [.int (vr_b ((ta_c t) j))]) rfl rfl rfl ?_
      refine vr_if_eqB (tgt := 73) hF dX0_areInConflict_31 (by decide) rfl (fun c_31 => ?_) (fun c_31 => ?_)
      · skip
        refine vr_iconst (v := nI 0) hF dX0_areInConflict_73 (by decide +kernel) rfl ?_
        exact vr_reti hret dX0_areInConflict_74 (by simp [xa_conf, vr_bt, vr_bf, c_13, c_22, c_31])
      · skip
        refine vr_aload_n hF 0 rfl dX0_areInConflict_34 rfl rfl ?_
        refine vr_iload_n hF 1 rfl dX0_areInConflict_35 rfl rfl ?_
        refine vr_aload_n hF 0 rfl dX0_areInConflict_36 rfl rfl ?_
        refine vr_get (v := .ref (a 8)) hF 2 0 (vr_in inX0) (vr_m flX0_9) rfl (by decide) rfl rfl rfl dX0_areInConflict_37 rfl ?_
        refine vr_iload_n hF 2 rfl dX0_areInConflict_40 rfl rfl ?_
        refine vr_iald (i := j) (n := 201) (f := (ta_r t)) hF 8 0 rfl rfl (by omega) (by decide) dX0_areInConflict_41 rfl ?_
        refine vr_aload_n hF 0 rfl dX0_areInConflict_42 rfl rfl ?_
        refine vr_get (v := .ref (a 9)) hF 2 1 (vr_in inX0) (vr_m flX0_15) rfl (by decide) rfl rfl rfl dX0_areInConflict_43 rfl ?_
        refine vr_iload_n hF 2 rfl dX0_areInConflict_46 rfl rfl ?_
        refine vr_iald (i := j) (n := 201) (f := (ta_f t)) hF 9 0 rfl rfl (by omega) (by decide) dX0_areInConflict_47 rfl ?_
        refine vr_callV_Ci (rest := []) (n0 := 3) hF (xc_Acts_isOf l g a r t w b i ((ta_r t) j) ((ta_f t) j) (by omega)) (vr_gV vr_hbc mlX0_48 imX0_isOf seX0_isOf iniX0 cdX0_isOf) rfl (by decide +kernel) rfl rfl rfl ⟨Nat.le_of_ble_eq_true rfl, Nat.le_of_ble_eq_true rfl⟩ ⟨Nat.zero_le _, Nat.zero_le _⟩ 2 rfl rfl rfl (Nat.le_of_ble_eq_true rfl) dX0_areInConflict_48 rfl ?_
        refine vr_if_eqB (tgt := 73) hF dX0_areInConflict_51 (by decide) rfl (fun c_51 => ?_) (fun c_51 => ?_)
        · skip
          refine vr_iconst (v := nI 0) hF dX0_areInConflict_73 (by decide +kernel) rfl ?_
          exact vr_reti hret dX0_areInConflict_74 (by simp [xa_conf, vr_bt, vr_bf, c_13, c_22, c_31, c_51])
        · skip
          refine vr_aload_n hF 0 rfl dX0_areInConflict_54 rfl rfl ?_
          refine vr_get (v := .ref (a 10)) hF 2 2 (vr_in inX0) (vr_m flX0_18) rfl (by decide) rfl rfl rfl dX0_areInConflict_55 rfl ?_
          refine vr_iload_n hF 1 rfl dX0_areInConflict_58 rfl rfl ?_
          refine vr_iald (i := i) (n := 201) (f := (ta_v t)) hF 10 0 rfl rfl (by omega) (by decide) dX0_areInConflict_59 rfl ?_
          refine vr_aload_n hF 0 rfl dX0_areInConflict_60 rfl rfl ?_
          refine vr_get (v := .ref (a 10)) hF 2 2 (vr_in inX0) (vr_m flX0_18) rfl (by decide) rfl rfl rfl dX0_areInConflict_61 rfl ?_
          refine vr_iload_n hF 2 rfl dX0_areInConflict_64 rfl rfl ?_
          refine vr_iald (i := j) (n := 201) (f := (ta_v t)) hF 10 0 rfl rfl (by omega) (by decide) dX0_areInConflict_65 rfl ?_
          refine vr_icmp_eq (tgt := 73) hF dX0_areInConflict_66 (by decide) rfl (fun c_66 => ?_) (fun c_66 => ?_)
          · skip
            refine vr_iconst (v := nI 0) hF dX0_areInConflict_73 (by decide +kernel) rfl ?_
            exact vr_reti hret dX0_areInConflict_74 (by simp [xa_conf, vr_bt, vr_bf, c_13, c_22, c_31, c_51, c_66])
          · skip
            refine vr_iconst (v := nI 1) hF dX0_areInConflict_69 (by decide +kernel) rfl ?_
            refine vr_goto (tgt := 74) hF dX0_areInConflict_70 (by decide) ?_
            exact vr_reti hret dX0_areInConflict_74 (by simp [xa_conf, vr_bt, vr_bf, c_13, c_22, c_31, c_51, c_66])
def rm_xw_Acts_findCounting : Room := { frames := 1, cells := 0, slots := 0, locals := 23 }
set_option maxHeartbeats 4000000 in
set_option maxRecDepth 100000 in
theorem xw_Acts_findCounting_lp3 {p : Program} {l : Launch} {e : Env} {s : State} {m : MethodId} {args : Array Value} {below : List Frame} {meth : Method} {c : Code} {A : Nat → Prop} {Q : State → Prop} {g : vr_G} {a : Nat → Nat} (r : vx_R) (t : vx_A) (w : Nat → Int64) (b : vx_B) (rc : Int32) (fd : Int32) (v : Int32) (vd : Int64) (kn : Int64) (h : vx_ok r t b)  (ans : Int32) (hF : vr_F p s m c cX0_findCounting 9 args wsX0_findCounting yX0_findCounting.cls g.1 (vr_tys g) A) (hret : vr_RtI p l e rm_xw_Acts_findCounting s m args below meth c cX0_findCounting g.1 A 9 0 0 Q (vx_w g a r t w b) ans) : ∀ (n : Nat) (k : Nat), (ta_n t + 1 < k + n) → (k ≤ ta_n t + 1) → (ans = nI (xa_find t rc fd v vd kn n k)) → vr_W p l e rm_xw_Acts_findCounting s m args below meth c g.1 A 9 0 0 Q (vx_w g a r t w b) 3 [(0, .ref (a 2)), (1, .int rc), (2, .int fd), (3, .int v), (4, .long vd), (6, .long kn), (8, .int (nI k))] [] := by
  obtain ⟨hrn, htn, hto, hbn⟩ := id h
  intro n
  induction n with
  | zero => intro k hk1 hk2 hans; exact absurd hk1 (by omega)
  | succ n ih =>
    intro k hk1 hk2 hans
    refine vr_iload hF 6 rfl dX0_findCounting_3 rfl ?_
    refine vr_aload_n hF 0 rfl dX0_findCounting_5 rfl rfl ?_
    refine vr_get (v := .int (nI (ta_n t))) hF 2 7 (vr_in inX0) (vr_m flX0_35) rfl (by decide) rfl rfl rfl dX0_findCounting_6 rfl ?_
    refine vr_icmp_gtN (tgt := 79) (x := k) (y := (ta_n t)) hF (by omega) (by omega) dX0_findCounting_9 (by decide) rfl (fun c_9 => ?_) (fun c_9 => ?_)
    · skip
      refine vr_iconst (v := nI 0) hF dX0_findCounting_79 (by decide +kernel) rfl ?_
      exact vr_reti hret dX0_findCounting_80 (by rw [hans, xa_find]; simp [vr_bt, vr_bf, xa_same, c_9])
    · skip
      refine vr_aload_n hF 0 rfl dX0_findCounting_12 rfl rfl ?_
      refine vr_get (v := .ref (a 13)) hF 2 5 (vr_in inX0) (vr_m flX0_28) rfl (by decide) rfl rfl rfl dX0_findCounting_13 rfl ?_
      refine vr_iload hF 6 rfl dX0_findCounting_16 rfl ?_
      refine vr_zald (i := k) (n := 201) (f := (fun j => vr_b ((ta_c t) j))) hF 13 2 rfl rfl (by omega) (by decide) dX0_findCounting_18 rfl ?_
      refine vr_to (ws' := (vx_w g a r t w b)) (lv' := [(0, .ref (a 2)), (1, .int rc), (2, .int fd), (3, .int v), (4, .long vd), (6, .long kn), (8, .int (nI k))]) (st' := [.int (vr_b ((ta_c t) k))]) rfl rfl rfl ?_
      refine vr_if_eqB (tgt := 73) hF dX0_findCounting_19 (by decide) rfl (fun c_19 => ?_) (fun c_19 => ?_)
      · skip
        refine vr_iinc (lv' := [(8, .int (nI (k + 1))), (0, .ref (a 2)), (1, .int rc), (2, .int fd), (3, .int v), (4, .long vd), (6, .long kn)]) hF (nI (k + 1)) 6 rfl dX0_findCounting_73 (nI_1 k) (by decide) rfl rfl ?_
        refine vr_goto (tgt := 3) hF dX0_findCounting_76 (by decide) ?_
        refine vr_sub [1, 2, 3, 4, 5, 6, 0] rfl ?_
        exact ih (k + 1) (by omega) (by omega) (by rw [hans, xa_find]; simp [xa_same, c_9, c_19])
      · skip
        refine vr_aload_n hF 0 rfl dX0_findCounting_22 rfl rfl ?_
        refine vr_iload hF 6 rfl dX0_findCounting_23 rfl ?_
        refine vr_iload_n hF 1 rfl dX0_findCounting_25 rfl rfl ?_
        refine vr_iload_n hF 2 rfl dX0_findCounting_26 rfl rfl ?_
        refine vr_callV_Ci (rest := []) (n0 := 3) hF (xc_Acts_isOf l g a r t w b k rc fd (by omega)) (vr_gV vr_hbc mlX0_48 imX0_isOf seX0_isOf iniX0 cdX0_isOf) rfl (by decide +kernel) rfl rfl rfl ⟨Nat.le_of_ble_eq_true rfl, Nat.le_of_ble_eq_true rfl⟩ ⟨Nat.zero_le _, Nat.zero_le _⟩ 2 rfl rfl rfl (Nat.le_of_ble_eq_true rfl) dX0_findCounting_27 rfl ?_
        refine vr_if_eqB (tgt := 73) hF dX0_findCounting_30 (by decide) rfl (fun c_30 => ?_) (fun c_30 => ?_)
        · skip
          refine vr_iinc (lv' := [(8, .int (nI (k + 1))), (0, .ref (a 2)), (1, .int rc), (2, .int fd), (3, .int v), (4, .long vd), (6, .long kn)]) hF (nI (k + 1)) 6 rfl dX0_findCounting_73 (nI_1 k) (by decide) rfl rfl ?_
          refine vr_goto (tgt := 3) hF dX0_findCounting_76 (by decide) ?_
          refine vr_sub [1, 2, 3, 4, 5, 6, 0] rfl ?_
          exact ih (k + 1) (by omega) (by omega) (by rw [hans, xa_find]; simp [xa_same, c_9, c_19, c_30])
        · skip
          refine vr_aload_n hF 0 rfl dX0_findCounting_33 rfl rfl ?_
          refine vr_get (v := .ref (a 10)) hF 2 2 (vr_in inX0) (vr_m flX0_18) rfl (by decide) rfl rfl rfl dX0_findCounting_34 rfl ?_
          refine vr_iload hF 6 rfl dX0_findCounting_37 rfl ?_
          refine vr_iald (i := k) (n := 201) (f := (ta_v t)) hF 10 0 rfl rfl (by omega) (by decide) dX0_findCounting_39 rfl ?_
          refine vr_iload_n hF 3 rfl dX0_findCounting_40 rfl rfl ?_
          refine vr_icmp_ne (tgt := 73) hF dX0_findCounting_41 (by decide) rfl (fun c_41 => ?_) (fun c_41 => ?_)
          · skip
            refine vr_iinc (lv' := [(8, .int (nI (k + 1))), (0, .ref (a 2)), (1, .int rc), (2, .int fd), (3, .int v), (4, .long vd), (6, .long kn)]) hF (nI (k + 1)) 6 rfl dX0_findCounting_73 (nI_1 k) (by decide) rfl rfl ?_
            refine vr_goto (tgt := 3) hF dX0_findCounting_76 (by decide) ?_
            refine vr_sub [1, 2, 3, 4, 5, 6, 0] rfl ?_
            exact ih (k + 1) (by omega) (by omega) (by rw [hans, xa_find]; simp [xa_same, c_9, c_19, c_30, c_41])
          · skip
            refine vr_aload_n hF 0 rfl dX0_findCounting_44 rfl rfl ?_
            refine vr_get (v := .ref (a 11)) hF 2 3 (vr_in inX0) (vr_m flX0_21) rfl (by decide) rfl rfl rfl dX0_findCounting_45 rfl ?_
            refine vr_iload hF 6 rfl dX0_findCounting_48 rfl ?_
            refine vr_lald (i := k) (n := 201) (f := (ta_d t)) hF 11 1 rfl rfl (by omega) (by decide) dX0_findCounting_50 rfl ?_
            refine vr_lload hF 4 rfl dX0_findCounting_51 rfl ?_
            refine vr_lcmp_ne (tgt := 73) hF dX0_findCounting_53 dX0_findCounting_54 (by decide) rfl (fun c_54 => ?_) (fun c_54 => ?_)
            · skip
              refine vr_iinc (lv' := [(8, .int (nI (k + 1))), (0, .ref (a 2)), (1, .int rc), (2, .int fd), (3, .int v), (4, .long vd), (6, .long kn)]) hF (nI (k + 1)) 6 rfl dX0_findCounting_73 (nI_1 k) (by decide) rfl rfl ?_
              refine vr_goto (tgt := 3) hF dX0_findCounting_76 (by decide) ?_
              refine vr_sub [1, 2, 3, 4, 5, 6, 0] rfl ?_
              exact ih (k + 1) (by omega) (by omega) (by rw [hans, xa_find]; simp [xa_same, c_9, c_19, c_30, c_41, c_54])
            · skip
              refine vr_aload_n hF 0 rfl dX0_findCounting_57 rfl rfl ?_
              refine vr_get (v := .ref (a 12)) hF 2 4 (vr_in inX0) (vr_m flX0_25) rfl (by decide) rfl rfl rfl dX0_findCounting_58 rfl ?_
              refine vr_iload hF 6 rfl dX0_findCounting_61 rfl ?_
              refine vr_lald (i := k) (n := 201) (f := (ta_k t)) hF 12 1 rfl rfl (by omega) (by decide) dX0_findCounting_63 rfl ?_
              refine vr_lload hF 5 rfl dX0_findCounting_64 rfl ?_
              refine vr_lcmp_ne (tgt := 73) hF dX0_findCounting_66 dX0_findCounting_67 (by decide) rfl (fun c_67 => ?_) (fun c_67 => ?_)
              · skip
                refine vr_iinc (lv' := [(8, .int (nI (k + 1))), (0, .ref (a 2)), (1, .int rc), (2, .int fd), (3, .int v), (4, .long vd), (6, .long kn)]) hF (nI (k + 1)) 6 rfl dX0_findCounting_73 (nI_1 k) (by decide) rfl rfl ?_
                refine vr_goto (tgt := 3) hF dX0_findCounting_76 (by decide) ?_
                refine vr_sub [1, 2, 3, 4, 5, 6, 0] rfl ?_
                exact ih (k + 1) (by omega) (by omega) (by rw [hans, xa_find]; simp [xa_same, c_9, c_19, c_30, c_41, c_54, c_67])
              · skip
                refine vr_iload hF 6 rfl dX0_findCounting_70 rfl ?_
                exact vr_reti hret dX0_findCounting_72 (by rw [hans, xa_find]; simp [vr_bt, vr_bf, xa_same, c_9, c_19, c_30, c_41, c_54, c_67])
set_option maxHeartbeats 4000000 in
set_option maxRecDepth 100000 in
theorem xc_Acts_findCounting (l : Launch) (g : vr_G) (a : Nat → Nat) (r : vx_R) (t : vx_A) (w : Nat → Int64) (b : vx_B) (rc : Int32) (fd : Int32) (v : Int32) (vd : Int64) (kn : Int64) (h : vx_ok r t b) : vr_Ci l yX0_findCounting wsX0_findCounting rm_xw_Acts_findCounting g.1 (vr_tys g) [.ref (a 2), .int rc, .int fd, .int v, .long vd, .long kn] (vx_w g a r t w b) (vx_w g a r t w b) (nI (xa_find t rc fd v vd kn (ta_n t + 2) 1)) := by
  obtain ⟨hrn, htn, hto, hbn⟩ := id h
  refine vr_Ci_mk (cc := cX0_findCounting) (nL := 9) (ty := .int) rfl (by decide) rfl (Nat.le_of_ble_eq_true rfl) ?_
  intro p e s m args below meth c A Q hF hret
  refine vr_to (ws' := (vx_w g a r t w b)) (lv' := [(0, .ref (a 2)), (1, .int rc), (2, .int fd), (3, .int v), (4, .long vd), (6, .long kn)]) (st' := []) rfl rfl rfl ?_
  refine vr_iconst (v := nI 1) hF dX0_findCounting_0 (by decide +kernel) rfl ?_
  refine vr_istore (lv' := [(8, .int (nI 1)), (0, .ref (a 2)), (1, .int rc), (2, .int fd), (3, .int v), (4, .long vd), (6, .long kn)]) hF dX0_findCounting_1 (by decide) rfl rfl ?_
  refine vr_sub [1, 2, 3, 4, 5, 6, 0] rfl ?_
  exact xw_Acts_findCounting_lp3 r t w b rc fd v vd kn h  _ hF hret (ta_n t + 2) 1 (by omega) (by omega) rfl
def rm_xw_Acts_lastCounting : Room := { frames := 1, cells := 0, slots := 0, locals := 23 }
set_option maxHeartbeats 4000000 in
set_option maxRecDepth 100000 in
theorem xw_Acts_lastCounting_lp6 {p : Program} {l : Launch} {e : Env} {s : State} {m : MethodId} {args : Array Value} {below : List Frame} {meth : Method} {c : Code} {A : Nat → Prop} {Q : State → Prop} {g : vr_G} {a : Nat → Nat} (r : vx_R) (t : vx_A) (w : Nat → Int64) (b : vx_B) (rc : Int32) (fd : Int32) (mo : Int64) (h : vx_ok r t b)  (ans : Int32) (hF : vr_F p s m c cX0_lastCounting 7 args wsX0_lastCounting yX0_lastCounting.cls g.1 (vr_tys g) A) (hret : vr_RtI p l e rm_xw_Acts_lastCounting s m args below meth c cX0_lastCounting g.1 A 7 0 0 Q (vx_w g a r t w b) ans) : ∀ (n : Nat) (q : Nat), (q < n) → (q ≤ ta_n t) → (ans = nI (xa_last t rc fd mo q)) → vr_W p l e rm_xw_Acts_lastCounting s m args below meth c g.1 A 7 0 0 Q (vx_w g a r t w b) 6 [(0, .ref (a 2)), (1, .int rc), (2, .int fd), (3, .long mo), (5, .int (nI q))] [] := by
  obtain ⟨hrn, htn, hto, hbn⟩ := id h
  intro n
  induction n with
  | zero => intro q hq1 hq2 hans; exact absurd hq1 (by omega)
  | succ n ih =>
    intro q hq1 hq2 hans
    refine vr_iload hF 4 rfl dX0_lastCounting_6 rfl ?_
    refine vr_iconst (v := nI 1) hF dX0_lastCounting_8 (by decide +kernel) rfl ?_
    refine vr_icmp_ltN (tgt := 63) (x := q) (y := 1) hF (by omega) (by omega) dX0_lastCounting_9 (by decide) rfl (fun c_9 => ?_) (fun c_9 => ?_)
    · skip
      obtain rfl : q = 0 := by omega
      refine vr_iconst (v := nI 0) hF dX0_lastCounting_63 (by decide +kernel) rfl ?_
      exact vr_reti hret dX0_lastCounting_64 (by rw [hans]; simp [xa_last])
    · skip
      obtain ⟨z, rfl⟩ : ∃ z, q = z + 1 := ⟨q - 1, by omega⟩
      refine vr_aload_n hF 0 rfl dX0_lastCounting_12 rfl rfl ?_
      refine vr_get (v := .ref (a 14)) hF 2 6 (vr_in inX0) (vr_m flX0_32) rfl (by decide) rfl rfl rfl dX0_lastCounting_13 rfl ?_
      refine vr_iload hF 4 rfl dX0_lastCounting_16 rfl ?_
      refine vr_iald (i := (z + 1)) (n := 201) (f := (fun j => nI ((ta_o t) j))) hF 14 0 rfl rfl (by omega) (by decide) dX0_lastCounting_18 rfl ?_
      refine vr_to (ws' := (vx_w g a r t w b)) (lv' := [(0, .ref (a 2)), (1, .int rc), (2, .int fd), (3, .long mo), (5, .int (nI (z + 1)))]) (st' := [.int (nI ((ta_o t) (z + 1)))]) rfl rfl rfl ?_
      refine vr_istore (lv' := [(6, .int (nI ((ta_o t) (z + 1)))), (0, .ref (a 2)), (1, .int rc), (2, .int fd), (3, .long mo), (5, .int (nI (z + 1)))]) hF dX0_lastCounting_19 (by decide) rfl rfl ?_
      have ho1 := hto (z + 1)
      refine vr_aload_n hF 1 rfl dX0_lastCounting_21 rfl rfl ?_
      refine vr_get (v := .ref (a 13)) hF 2 5 (vr_in inX0) (vr_m flX0_28) rfl (by decide) rfl rfl rfl dX0_lastCounting_22 rfl ?_
      refine vr_iload hF 0 rfl dX0_lastCounting_25 rfl ?_
      refine vr_zald (i := (ta_o t) (z + 1)) (n := 201) (f := (fun j => vr_b ((ta_c t) j))) hF 13 2 rfl rfl (by omega) (by decide) dX0_lastCounting_27 rfl ?_
      refine vr_to (ws' := (vx_w g a r t w b)) (lv' := [(6, .int (nI ((ta_o t) (z + 1)))), (0, .ref (a 2)), (1, .int rc), (2, .int fd), (3, .long mo), (5, .int (nI (z + 1)))]) (st' := [.int (vr_b ((ta_c t) ((ta_o t) (z + 1))))]) rfl rfl rfl ?_
      refine vr_if_eqB (tgt := 57) hF dX0_lastCounting_28 (by decide) rfl (fun c_28 => ?_) (fun c_28 => ?_)
      · skip
        refine vr_iinc (lv' := [(5, .int (nI z)), (6, .int (nI ((ta_o t) (z + 1)))), (0, .ref (a 2)), (1, .int rc), (2, .int fd), (3, .long mo)]) hF (nI z) 5 rfl dX0_lastCounting_57 (pk_m1 z) (by decide) rfl rfl ?_
        refine vr_goto (tgt := 6) hF dX0_lastCounting_60 (by decide) ?_
        refine vr_sub [2, 3, 4, 5, 0] rfl ?_
        exact ih z (by omega) (by omega) (by rw [hans, xa_last]; simp [xa_lcond, c_9, c_28])
      · skip
        refine vr_aload_n hF 1 rfl dX0_lastCounting_31 rfl rfl ?_
        refine vr_get (v := .ref (a 12)) hF 2 4 (vr_in inX0) (vr_m flX0_25) rfl (by decide) rfl rfl rfl dX0_lastCounting_32 rfl ?_
        refine vr_iload hF 0 rfl dX0_lastCounting_35 rfl ?_
        refine vr_lald (i := (ta_o t) (z + 1)) (n := 201) (f := (ta_k t)) hF 12 1 rfl rfl (by omega) (by decide) dX0_lastCounting_37 rfl ?_
        refine vr_lload_n hF 4 rfl dX0_lastCounting_38 rfl rfl ?_
        refine vr_lcmp_gt (tgt := 57) hF dX0_lastCounting_39 dX0_lastCounting_40 (by decide) rfl (fun c_40 => ?_) (fun c_40 => ?_)
        · skip
          refine vr_iinc (lv' := [(5, .int (nI z)), (6, .int (nI ((ta_o t) (z + 1)))), (0, .ref (a 2)), (1, .int rc), (2, .int fd), (3, .long mo)]) hF (nI z) 5 rfl dX0_lastCounting_57 (pk_m1 z) (by decide) rfl rfl ?_
          refine vr_goto (tgt := 6) hF dX0_lastCounting_60 (by decide) ?_
          refine vr_sub [2, 3, 4, 5, 0] rfl ?_
          exact ih z (by omega) (by omega) (by rw [hans, xa_last]; simp [xa_lcond, c_9, c_28, c_40])
        · skip
          refine vr_aload_n hF 1 rfl dX0_lastCounting_43 rfl rfl ?_
          refine vr_iload hF 0 rfl dX0_lastCounting_44 rfl ?_
          refine vr_iload_n hF 2 rfl dX0_lastCounting_46 rfl rfl ?_
          refine vr_iload_n hF 3 rfl dX0_lastCounting_47 rfl rfl ?_
          refine vr_callV_Ci (rest := []) (n0 := 3) hF (xc_Acts_isOf l g a r t w b ((ta_o t) (z + 1)) rc fd (by omega)) (vr_gV vr_hbc mlX0_48 imX0_isOf seX0_isOf iniX0 cdX0_isOf) rfl (by decide +kernel) rfl rfl rfl ⟨Nat.le_of_ble_eq_true rfl, Nat.le_of_ble_eq_true rfl⟩ ⟨Nat.zero_le _, Nat.zero_le _⟩ 2 rfl rfl rfl (Nat.le_of_ble_eq_true rfl) dX0_lastCounting_48 rfl ?_
          refine vr_if_eqB (tgt := 57) hF dX0_lastCounting_51 (by decide) rfl (fun c_51 => ?_) (fun c_51 => ?_)
          · skip
            refine vr_iinc (lv' := [(5, .int (nI z)), (6, .int (nI ((ta_o t) (z + 1)))), (0, .ref (a 2)), (1, .int rc), (2, .int fd), (3, .long mo)]) hF (nI z) 5 rfl dX0_lastCounting_57 (pk_m1 z) (by decide) rfl rfl ?_
            refine vr_goto (tgt := 6) hF dX0_lastCounting_60 (by decide) ?_
            refine vr_sub [2, 3, 4, 5, 0] rfl ?_
            exact ih z (by omega) (by omega) (by rw [hans, xa_last]; simp [xa_lcond, c_9, c_28, c_40, c_51])
          · skip
            refine vr_iload hF 0 rfl dX0_lastCounting_54 rfl ?_
            exact vr_reti hret dX0_lastCounting_56 (by rw [hans, xa_last]; simp [vr_bt, vr_bf, xa_lcond, c_9, c_28, c_40, c_51])
set_option maxHeartbeats 4000000 in
set_option maxRecDepth 100000 in
theorem xc_Acts_lastCounting (l : Launch) (g : vr_G) (a : Nat → Nat) (r : vx_R) (t : vx_A) (w : Nat → Int64) (b : vx_B) (rc : Int32) (fd : Int32) (mo : Int64) (h : vx_ok r t b) : vr_Ci l yX0_lastCounting wsX0_lastCounting rm_xw_Acts_lastCounting g.1 (vr_tys g) [.ref (a 2), .int rc, .int fd, .long mo] (vx_w g a r t w b) (vx_w g a r t w b) (nI (xa_last t rc fd mo (ta_n t))) := by
  obtain ⟨hrn, htn, hto, hbn⟩ := id h
  refine vr_Ci_mk (cc := cX0_lastCounting) (nL := 7) (ty := .int) rfl (by decide) rfl (Nat.le_of_ble_eq_true rfl) ?_
  intro p e s m args below meth c A Q hF hret
  refine vr_to (ws' := (vx_w g a r t w b)) (lv' := [(0, .ref (a 2)), (1, .int rc), (2, .int fd), (3, .long mo)]) (st' := []) rfl rfl rfl ?_
  refine vr_aload_n hF 0 rfl dX0_lastCounting_0 rfl rfl ?_
  refine vr_get (v := .int (nI (ta_n t))) hF 2 7 (vr_in inX0) (vr_m flX0_35) rfl (by decide) rfl rfl rfl dX0_lastCounting_1 rfl ?_
  refine vr_istore (lv' := [(5, .int (nI (ta_n t))), (0, .ref (a 2)), (1, .int rc), (2, .int fd), (3, .long mo)]) hF dX0_lastCounting_4 (by decide) rfl rfl ?_
  refine vr_sub [1, 2, 3, 4, 0] rfl ?_
  exact xw_Acts_lastCounting_lp6 r t w b rc fd mo h  _ hF hret (ta_n t + 1) (ta_n t) (by omega) (by omega) rfl
def rm_xw_Acts_inOrder : Room := { frames := 1, cells := 0, slots := 0, locals := 23 }
set_option maxHeartbeats 4000000 in
set_option maxRecDepth 100000 in
theorem xw_Acts_inOrder_lp6 {p : Program} {l : Launch} {e : Env} {s : State} {m : MethodId} {args : Array Value} {below : List Frame} {meth : Method} {c : Code} {A : Nat → Prop} {Q : State → Prop} {g : vr_G} {a : Nat → Nat} (r : vx_R) (t : vx_A) (w : Nat → Int64) (b : vx_B) (rc : Int32) (fd : Int32) (i : Nat) (h : vx_ok r t b) (hi : i < 2 ^ 31)  (ans : Int32) (hF : vr_F p s m c cX0_inOrder 7 args wsX0_inOrder yX0_inOrder.cls g.1 (vr_tys g) A) (hret : vr_RtI p l e rm_xw_Acts_inOrder s m args below meth c cX0_inOrder g.1 A 7 0 0 Q (vx_w g a r t w b) ans) : ∀ (n : Nat) (k ah : Nat), (ta_n t + 1 < k + n) → (k ≤ ta_n t + 1) → (ah < 2 ^ 31) → (ans = nI (xa_ith t rc fd n k ah)) → vr_W p l e rm_xw_Acts_inOrder s m args below meth c g.1 A 7 0 0 Q (vx_w g a r t w b) 6 [(0, .ref (a 2)), (1, .int rc), (2, .int fd), (3, .int (nI i)), (4, .int (nI ah)), (5, .int (nI k))] [] := by
  obtain ⟨hrn, htn, hto, hbn⟩ := id h
  intro n
  induction n with
  | zero => intro k ah hk1 hk2 ha hans; exact absurd hk1 (by omega)
  | succ n ih =>
    intro k ah hk1 hk2 ha hans
    refine vr_iload hF 5 rfl dX0_inOrder_6 rfl ?_
    refine vr_aload_n hF 0 rfl dX0_inOrder_8 rfl rfl ?_
    refine vr_get (v := .int (nI (ta_n t))) hF 2 7 (vr_in inX0) (vr_m flX0_35) rfl (by decide) rfl rfl rfl dX0_inOrder_9 rfl ?_
    refine vr_icmp_gtN (tgt := 52) (x := k) (y := (ta_n t)) hF (by omega) (by omega) dX0_inOrder_12 (by decide) rfl (fun c_12 => ?_) (fun c_12 => ?_)
    · skip
      refine vr_iconst (v := nI 0) hF dX0_inOrder_52 (by decide +kernel) rfl ?_
      exact vr_reti hret dX0_inOrder_53 (by rw [hans, xa_ith]; simp [vr_bt, vr_bf, c_12])
    · skip
      refine vr_aload_n hF 0 rfl dX0_inOrder_15 rfl rfl ?_
      refine vr_get (v := .ref (a 14)) hF 2 6 (vr_in inX0) (vr_m flX0_32) rfl (by decide) rfl rfl rfl dX0_inOrder_16 rfl ?_
      refine vr_iload hF 5 rfl dX0_inOrder_19 rfl ?_
      refine vr_iald (i := k) (n := 201) (f := (fun j => nI ((ta_o t) j))) hF 14 0 rfl rfl (by omega) (by decide) dX0_inOrder_21 rfl ?_
      refine vr_to (ws' := (vx_w g a r t w b)) (lv' := [(0, .ref (a 2)), (1, .int rc), (2, .int fd), (3, .int (nI i)), (4, .int (nI ah)), (5, .int (nI k))]) (st' := [.int (nI ((ta_o t) k))]) rfl rfl rfl ?_
      refine vr_istore (lv' := [(6, .int (nI ((ta_o t) k))), (0, .ref (a 2)), (1, .int rc), (2, .int fd), (3, .int (nI i)), (4, .int (nI ah)), (5, .int (nI k))]) hF dX0_inOrder_22 (by decide) rfl rfl ?_
      have ho1 := hto k
      refine vr_aload_n hF 1 rfl dX0_inOrder_24 rfl rfl ?_
      refine vr_iload hF 0 rfl dX0_inOrder_25 rfl ?_
      refine vr_iload_n hF 2 rfl dX0_inOrder_27 rfl rfl ?_
      refine vr_iload_n hF 3 rfl dX0_inOrder_28 rfl rfl ?_
      refine vr_callV_Ci (rest := []) (n0 := 3) hF (xc_Acts_isOf l g a r t w b ((ta_o t) k) rc fd (by omega)) (vr_gV vr_hbc mlX0_48 imX0_isOf seX0_isOf iniX0 cdX0_isOf) rfl (by decide +kernel) rfl rfl rfl ⟨Nat.le_of_ble_eq_true rfl, Nat.le_of_ble_eq_true rfl⟩ ⟨Nat.zero_le _, Nat.zero_le _⟩ 2 rfl rfl rfl (Nat.le_of_ble_eq_true rfl) dX0_inOrder_29 rfl ?_
      refine vr_if_eqB (tgt := 46) hF dX0_inOrder_32 (by decide) rfl (fun c_32 => ?_) (fun c_32 => ?_)
      · skip
        refine vr_iinc (lv' := [(5, .int (nI (k + 1))), (6, .int (nI ((ta_o t) k))), (0, .ref (a 2)), (1, .int rc), (2, .int fd), (3, .int (nI i)), (4, .int (nI ah))]) hF (nI (k + 1)) 6 rfl dX0_inOrder_46 (nI_1 k) (by decide) rfl rfl ?_
        refine vr_goto (tgt := 6) hF dX0_inOrder_49 (by decide) ?_
        refine vr_sub [2, 3, 4, 5, 6, 0] rfl ?_
        exact ih (k + 1) ah (by omega) (by omega) (by omega) (by rw [hans, xa_ith]; simp [c_12, c_32])
      · skip
        refine vr_iload hF 5 rfl dX0_inOrder_35 rfl ?_
        refine vr_if_neN (tgt := 43) (x := ah) hF (by omega) dX0_inOrder_37 (by decide) rfl (fun c_37 => ?_) (fun c_37 => ?_)
        · skip
          refine vr_iinc (lv' := [(4, .int (nI (ah - 1))), (6, .int (nI ((ta_o t) k))), (0, .ref (a 2)), (1, .int rc), (2, .int fd), (3, .int (nI i)), (5, .int (nI k))]) hF (nI (ah - 1)) 5 rfl dX0_inOrder_43 (sb_m1 (by omega)) (by decide) rfl rfl ?_
          refine vr_iinc (lv' := [(5, .int (nI (k + 1))), (4, .int (nI (ah - 1))), (6, .int (nI ((ta_o t) k))), (0, .ref (a 2)), (1, .int rc), (2, .int fd), (3, .int (nI i))]) hF (nI (k + 1)) 6 rfl dX0_inOrder_46 (nI_1 k) (by decide) rfl rfl ?_
          refine vr_goto (tgt := 6) hF dX0_inOrder_49 (by decide) ?_
          refine vr_sub [3, 4, 5, 6, 1, 0] rfl ?_
          exact ih (k + 1) (ah - 1) (by omega) (by omega) (by omega) (by rw [hans, xa_ith]; simp [c_12, c_32, c_37])
        · skip
          refine vr_iload hF 0 rfl dX0_inOrder_40 rfl ?_
          exact vr_reti hret dX0_inOrder_42 (by rw [hans, xa_ith]; simp [vr_bt, vr_bf, c_12, c_32, c_37])
set_option maxHeartbeats 4000000 in
set_option maxRecDepth 100000 in
theorem xc_Acts_inOrder (l : Launch) (g : vr_G) (a : Nat → Nat) (r : vx_R) (t : vx_A) (w : Nat → Int64) (b : vx_B) (rc : Int32) (fd : Int32) (i : Nat) (h : vx_ok r t b) (hi : i < 2 ^ 31) : vr_Ci l yX0_inOrder wsX0_inOrder rm_xw_Acts_inOrder g.1 (vr_tys g) [.ref (a 2), .int rc, .int fd, .int (nI i)] (vx_w g a r t w b) (vx_w g a r t w b) (nI (xa_ith t rc fd (ta_n t + 2) 1 i)) := by
  obtain ⟨hrn, htn, hto, hbn⟩ := id h
  refine vr_Ci_mk (cc := cX0_inOrder) (nL := 7) (ty := .int) rfl (by decide) rfl (Nat.le_of_ble_eq_true rfl) ?_
  intro p e s m args below meth c A Q hF hret
  refine vr_to (ws' := (vx_w g a r t w b)) (lv' := [(0, .ref (a 2)), (1, .int rc), (2, .int fd), (3, .int (nI i))]) (st' := []) rfl rfl rfl ?_
  refine vr_iload_n hF 3 rfl dX0_inOrder_0 rfl rfl ?_
  refine vr_istore (lv' := [(4, .int (nI i)), (0, .ref (a 2)), (1, .int rc), (2, .int fd), (3, .int (nI i))]) hF dX0_inOrder_1 (by decide) rfl rfl ?_
  refine vr_iconst (v := nI 1) hF dX0_inOrder_3 (by decide +kernel) rfl ?_
  refine vr_istore (lv' := [(5, .int (nI 1)), (4, .int (nI i)), (0, .ref (a 2)), (1, .int rc), (2, .int fd), (3, .int (nI i))]) hF dX0_inOrder_4 (by decide) rfl rfl ?_
  refine vr_sub [2, 3, 4, 5, 1, 0] rfl ?_
  exact xw_Acts_inOrder_lp6 r t w b rc fd i h hi  _ hF hret (ta_n t + 2) 1 i (by omega) (by omega) hi rfl
def rm_xw_Acts_putNewestInOrder : Room := { frames := 1, cells := 0, slots := 0, locals := 22 }
set_option maxHeartbeats 4000000 in
set_option maxRecDepth 100000 in
theorem xw_Acts_putNewestInOrder_lp5 {p : Program} {l : Launch} {e : Env} {s : State} {m : MethodId} {args : Array Value} {below : List Frame} {meth : Method} {c : Code} {A : Nat → Prop} {Q : State → Prop} {g : vr_G} {a : Nat → Nat} (r : vx_R) (t : vx_A) (w : Nat → Int64) (b : vx_B) (h : vx_ok r t b) (h1 : 1 ≤ ta_n t)   (P : Nat → Nat) (hF : vr_F p s m c cX0_putNewestInOrder 2 args wsX0_putNewestInOrder yX0_putNewestInOrder.cls g.1 (vr_tys g) A) (hret : vr_RtV p l e rm_xw_Acts_putNewestInOrder s m args below meth c cX0_putNewestInOrder g.1 A 2 0 0 Q (vx_w g a r (ta_setO t P) w b) ) : ∀ (n : Nat) (q : Nat) (o : Nat → Nat), (q < n) → (q + 1 ≤ ta_n t) → (∀ j, o j ≤ 200) → (P = xa_put t (q + 1) o) → vr_W p l e rm_xw_Acts_putNewestInOrder s m args below meth c g.1 A 2 0 0 Q (vx_w g a r (ta_r t, ta_f t, ta_v t, ta_d t, ta_k t, ta_c t, o, ta_n t) w b) 5 [(0, .ref (a 2)), (1, .int (nI (q + 1)))] [] := by
  obtain ⟨hrn, htn, hto, hbn⟩ := id h
  intro n
  induction n with
  | zero => intro q o hq1 hq2 ho hans; exact absurd hq1 (by omega)
  | succ n ih =>
    intro q o hq1 hq2 ho hans
    refine vr_iload_n hF 1 rfl dX0_putNewestInOrder_5 rfl rfl ?_
    refine vr_iconst (v := nI 1) hF dX0_putNewestInOrder_6 (by decide +kernel) rfl ?_
    refine vr_icmp_leN (tgt := 49) (x := (q + 1)) (y := 1) hF (by omega) (by omega) dX0_putNewestInOrder_7 (by decide) rfl (fun c_7 => ?_) (fun c_7 => ?_)
    · skip
      refine vr_aload_n hF 0 rfl dX0_putNewestInOrder_49 rfl rfl ?_
      refine vr_get (v := .ref (a 14)) hF 2 6 (vr_in inX0) (vr_m flX0_32) rfl (by decide) rfl rfl rfl dX0_putNewestInOrder_50 rfl ?_
      refine vr_iload_n hF 1 rfl dX0_putNewestInOrder_53 rfl rfl ?_
      refine vr_aload_n hF 0 rfl dX0_putNewestInOrder_54 rfl rfl ?_
      refine vr_get (v := .int (nI (ta_n t))) hF 2 7 (vr_in inX0) (vr_m flX0_35) rfl (by decide) rfl rfl rfl dX0_putNewestInOrder_55 rfl ?_
      refine vr_iastN (ws' := (vx_w g a r (ta_r t, ta_f t, ta_v t, ta_d t, ta_k t, ta_c t, vr_un o (q + 1) (ta_n t), ta_n t) w b)) (i := q + 1) (x := (ta_n t)) (n := 201) (f := o) hF 14 0 rfl rfl (by omega) (by decide) rfl dX0_putNewestInOrder_58 rfl ?_
      exact vr_retv hret dX0_putNewestInOrder_59 (by rw [hans, xa_put]; simp [c_7])
    · skip
      obtain ⟨z, rfl⟩ : ∃ z, q = z + 1 := ⟨q - 1, by omega⟩
      have ho1 := ho (z + 1)
      refine vr_aload_n hF 0 rfl dX0_putNewestInOrder_10 rfl rfl ?_
      refine vr_aload_n hF 0 rfl dX0_putNewestInOrder_11 rfl rfl ?_
      refine vr_get (v := .ref (a 14)) hF 2 6 (vr_in inX0) (vr_m flX0_32) rfl (by decide) rfl rfl rfl dX0_putNewestInOrder_12 rfl ?_
      refine vr_iload_n hF 1 rfl dX0_putNewestInOrder_15 rfl rfl ?_
      refine vr_iconst (v := nI 1) hF dX0_putNewestInOrder_16 (by decide +kernel) rfl ?_
      refine vr_isub (v := nI (z + 1)) hF dX0_putNewestInOrder_17 (nI_pred (z + 1)) rfl ?_
      refine vr_iald (i := z + 1) (n := 201) (f := (fun j => nI (o j))) hF 14 0 rfl rfl (by omega) (by decide) dX0_putNewestInOrder_18 rfl ?_
      refine vr_to (ws' := (vx_w g a r (ta_r t, ta_f t, ta_v t, ta_d t, ta_k t, ta_c t, o, ta_n t) w b)) (lv' := [(0, .ref (a 2)), (1, .int (nI ((z + 1) + 1)))]) (st' := [.int (nI (o (z + 1))), .ref (a 2)]) rfl rfl rfl ?_
      refine vr_aload_n hF 0 rfl dX0_putNewestInOrder_19 rfl rfl ?_
      refine vr_get (v := .int (nI (ta_n t))) hF 2 7 (vr_in inX0) (vr_m flX0_35) rfl (by decide) rfl rfl rfl dX0_putNewestInOrder_20 rfl ?_
      refine vr_callV_Ci (rest := []) (n0 := 2) hF (xc_Acts_isBehind l g a r (ta_r t, ta_f t, ta_v t, ta_d t, ta_k t, ta_c t, o, ta_n t) w b (o (z + 1)) (ta_n t) ho1 (by omega)) (vr_gV vr_hbc mlX0_44 imX0_isBehind seX0_isBehind iniX0 cdX0_isBehind) rfl (by decide +kernel) rfl rfl rfl ⟨Nat.le_of_ble_eq_true rfl, Nat.le_of_ble_eq_true rfl⟩ ⟨Nat.zero_le _, Nat.zero_le _⟩ 2 rfl rfl rfl (Nat.le_of_ble_eq_true rfl) dX0_putNewestInOrder_23 rfl ?_
      refine vr_if_eqB (tgt := 49) hF dX0_putNewestInOrder_26 (by decide) rfl (fun c_26 => ?_) (fun c_26 => ?_)
      · skip
        have c_26 : xa_behind t (o (z + 1)) (ta_n t) = false := c_26
        refine vr_aload_n hF 0 rfl dX0_putNewestInOrder_49 rfl rfl ?_
        refine vr_get (v := .ref (a 14)) hF 2 6 (vr_in inX0) (vr_m flX0_32) rfl (by decide) rfl rfl rfl dX0_putNewestInOrder_50 rfl ?_
        refine vr_iload_n hF 1 rfl dX0_putNewestInOrder_53 rfl rfl ?_
        refine vr_aload_n hF 0 rfl dX0_putNewestInOrder_54 rfl rfl ?_
        refine vr_get (v := .int (nI (ta_n t))) hF 2 7 (vr_in inX0) (vr_m flX0_35) rfl (by decide) rfl rfl rfl dX0_putNewestInOrder_55 rfl ?_
        refine vr_iastN (ws' := (vx_w g a r (ta_r t, ta_f t, ta_v t, ta_d t, ta_k t, ta_c t, vr_un o ((z + 1) + 1) (ta_n t), ta_n t) w b)) (i := (z + 1) + 1) (x := (ta_n t)) (n := 201) (f := o) hF 14 0 rfl rfl (by omega) (by decide) rfl dX0_putNewestInOrder_58 rfl ?_
        exact vr_retv hret dX0_putNewestInOrder_59 (by rw [hans, xa_put]; simp [c_7, c_26])
      · skip
        have c_26 : xa_behind t (o (z + 1)) (ta_n t) = true := c_26
        refine vr_aload_n hF 0 rfl dX0_putNewestInOrder_29 rfl rfl ?_
        refine vr_get (v := .ref (a 14)) hF 2 6 (vr_in inX0) (vr_m flX0_32) rfl (by decide) rfl rfl rfl dX0_putNewestInOrder_30 rfl ?_
        refine vr_iload_n hF 1 rfl dX0_putNewestInOrder_33 rfl rfl ?_
        refine vr_aload_n hF 0 rfl dX0_putNewestInOrder_34 rfl rfl ?_
        refine vr_get (v := .ref (a 14)) hF 2 6 (vr_in inX0) (vr_m flX0_32) rfl (by decide) rfl rfl rfl dX0_putNewestInOrder_35 rfl ?_
        refine vr_iload_n hF 1 rfl dX0_putNewestInOrder_38 rfl rfl ?_
        refine vr_iconst (v := nI 1) hF dX0_putNewestInOrder_39 (by decide +kernel) rfl ?_
        refine vr_isub (v := nI (z + 1)) hF dX0_putNewestInOrder_40 (nI_pred (z + 1)) rfl ?_
        refine vr_iald (i := z + 1) (n := 201) (f := (fun j => nI (o j))) hF 14 0 rfl rfl (by omega) (by decide) dX0_putNewestInOrder_41 rfl ?_
        refine vr_to (ws' := (vx_w g a r (ta_r t, ta_f t, ta_v t, ta_d t, ta_k t, ta_c t, o, ta_n t) w b)) (lv' := [(0, .ref (a 2)), (1, .int (nI ((z + 1) + 1)))]) (st' := [.int (nI (o (z + 1))), .int (nI ((z + 1) + 1)), .ref (a 14)]) rfl rfl rfl ?_
        refine vr_iastN (ws' := (vx_w g a r (ta_r t, ta_f t, ta_v t, ta_d t, ta_k t, ta_c t, vr_un o ((z + 1) + 1) (o (z + 1)), ta_n t) w b)) (i := (z + 1) + 1) (x := (o (z + 1))) (n := 201) (f := o) hF 14 0 rfl rfl (by omega) (by decide) rfl dX0_putNewestInOrder_42 rfl ?_
        refine vr_iinc (lv' := [(1, .int (nI (z + 1))), (0, .ref (a 2))]) hF (nI (z + 1)) 1 rfl dX0_putNewestInOrder_43 (pk_m1 (z + 1)) (by decide) rfl rfl ?_
        refine vr_goto (tgt := 5) hF dX0_putNewestInOrder_46 (by decide) ?_
        refine vr_sub [1, 0] rfl ?_
        exact ih z (vr_un o (z + 1 + 1) (o (z + 1))) (by omega) (by omega) (vr_un_le ho ho1) (by rw [hans, xa_put]; simp [c_7, c_26])
set_option maxHeartbeats 4000000 in
set_option maxRecDepth 100000 in
theorem xc_Acts_putNewestInOrder (l : Launch) (g : vr_G) (a : Nat → Nat) (r : vx_R) (t : vx_A) (w : Nat → Int64) (b : vx_B) (h : vx_ok r t b) (h1 : 1 ≤ ta_n t) : vr_Cv l yX0_putNewestInOrder wsX0_putNewestInOrder rm_xw_Acts_putNewestInOrder g.1 (vr_tys g) [.ref (a 2)] (vx_w g a r t w b) (vx_w g a r (ta_setO t (xa_put t (ta_n t) (ta_o t))) w b)  := by
  obtain ⟨hrn, htn, hto, hbn⟩ := id h
  refine vr_Cv_mk (cc := cX0_putNewestInOrder) (nL := 2) (by decide) rfl (Nat.le_of_ble_eq_true rfl) ?_
  intro p e s m args below meth c A Q hF hret
  refine vr_to (ws' := (vx_w g a r t w b)) (lv' := [(0, .ref (a 2))]) (st' := []) rfl rfl rfl ?_
  refine vr_aload_n hF 0 rfl dX0_putNewestInOrder_0 rfl rfl ?_
  refine vr_get (v := .int (nI (ta_n t))) hF 2 7 (vr_in inX0) (vr_m flX0_35) rfl (by decide) rfl rfl rfl dX0_putNewestInOrder_1 rfl ?_
  refine vr_istore_n (lv' := [(1, .int (nI (ta_n t))), (0, .ref (a 2))]) hF dX0_putNewestInOrder_4 rfl (by decide) rfl rfl ?_
  have e1 : ta_n t - 1 + 1 = ta_n t := by omega
  refine vr_to (ws' := vx_w g a r (ta_r t, ta_f t, ta_v t, ta_d t, ta_k t, ta_c t, ta_o t, ta_n t) w b) (lv' := [(1, .int (nI (ta_n t - 1 + 1))), (0, .ref (a 2))]) (st' := []) rfl (by rw [e1]) rfl ?_
  refine vr_sub [1, 0] rfl ?_
  exact xw_Acts_putNewestInOrder_lp5 r t w b  h h1  _ hF hret (ta_n t + 1) (ta_n t - 1) (ta_o t) (by omega) (by omega) hto (by rw [show ta_n t - 1 + 1 = ta_n t by omega])
def rm_xw_Acts_add : Room := { frames := 2, cells := 0, slots := 0, locals := 43 }
set_option maxHeartbeats 4000000 in
set_option maxRecDepth 100000 in
theorem xc_Acts_add (l : Launch) (g : vr_G) (a : Nat → Nat) (r : vx_R) (t : vx_A) (w : Nat → Int64) (b : vx_B) (rc : Int32) (fd : Int32) (v : Int32) (vd : Int64) (kn : Int64) (h : vx_ok r t b) : vr_Ci l yX0_add wsX0_add rm_xw_Acts_add g.1 (vr_tys g) [.ref (a 2), .int rc, .int fd, .int v, .long vd, .long kn] (vx_w g a r t w b) (vx_w g a r (if ta_n t < 200 then xa_add t rc fd v vd kn else t) w b) (nI (if ta_n t < 200 then ta_n t + 1 else 0)) := by
  obtain ⟨hrn, htn, hto, hbn⟩ := id h
  refine vr_Ci_mk (cc := cX0_add) (nL := 8) (ty := .int) rfl (by decide) rfl (Nat.le_of_ble_eq_true rfl) ?_
  intro p e s m args below meth c A Q hF hret
  refine vr_to (ws' := (vx_w g a r t w b)) (lv' := [(0, .ref (a 2)), (1, .int rc), (2, .int fd), (3, .int v), (4, .long vd), (6, .long kn)]) (st' := []) rfl rfl rfl ?_
  refine vr_aload_n hF 0 rfl dX0_add_0 rfl rfl ?_
  refine vr_get (v := .int (nI (ta_n t))) hF 2 7 (vr_in inX0) (vr_m flX0_35) rfl (by decide) rfl rfl rfl dX0_add_1 rfl ?_
  refine vr_sipush (v := nI 200) hF dX0_add_4 (by decide +kernel) rfl ?_
  refine vr_icmp_ltN (tgt := 12) (x := (ta_n t)) (y := 200) hF (by omega) (by omega) dX0_add_7 (by decide) rfl (fun c_7 => ?_) (fun c_7 => ?_)
  · skip
    have h2 : vx_ok r (xa_new t rc fd v vd kn) b := ⟨hrn, by show ta_n t + 1 ≤ 200; omega, hto, hbn⟩
    have h3 : 1 ≤ ta_n (xa_new t rc fd v vd kn) := by show 1 ≤ ta_n t + 1; omega
    refine vr_aload_n hF 0 rfl dX0_add_12 rfl rfl ?_
    refine vr_dup hF dX0_add_13 rfl rfl ?_
    refine vr_get (v := .int (nI (ta_n t))) hF 2 7 (vr_in inX0) (vr_m flX0_35) rfl (by decide) rfl rfl rfl dX0_add_14 rfl ?_
    refine vr_iconst (v := nI 1) hF dX0_add_17 (by decide +kernel) rfl ?_
    refine vr_iadd (v := nI ((ta_n t) + 1)) hF dX0_add_18 (nI_add (ta_n t) 1) rfl ?_
    refine vr_put (ws' := (vx_w g a r (ta_r t, ta_f t, ta_v t, ta_d t, ta_k t, ta_c t, ta_o t, (ta_n t) + 1) w b)) hF 2 7 (vr_in inX0) (vr_m flX0_35) rfl (by decide) rfl rfl tyX0 tyX0_ok nmX0 rfl rfl rfl (Nat.le_of_ble_eq_true rfl) rfl dX0_add_19 rfl ?_
    refine vr_aload_n hF 0 rfl dX0_add_22 rfl rfl ?_
    refine vr_get (v := .ref (a 8)) hF 2 0 (vr_in inX0) (vr_m flX0_9) rfl (by decide) rfl rfl rfl dX0_add_23 rfl ?_
    refine vr_aload_n hF 0 rfl dX0_add_26 rfl rfl ?_
    refine vr_get (v := .int (nI ((ta_n t) + 1))) hF 2 7 (vr_in inX0) (vr_m flX0_35) rfl (by decide) rfl rfl rfl dX0_add_27 rfl ?_
    refine vr_iload_n hF 1 rfl dX0_add_30 rfl rfl ?_
    refine vr_iast (ws' := (vx_w g a r (upd (ta_r t) ((ta_n t) + 1) rc, ta_f t, ta_v t, ta_d t, ta_k t, ta_c t, ta_o t, (ta_n t) + 1) w b)) (i := (ta_n t) + 1) (x := rc) (n := 201) (f := (ta_r t)) hF 8 0 rfl rfl (by omega) (by decide) rfl dX0_add_31 rfl ?_
    refine vr_aload_n hF 0 rfl dX0_add_32 rfl rfl ?_
    refine vr_get (v := .ref (a 9)) hF 2 1 (vr_in inX0) (vr_m flX0_15) rfl (by decide) rfl rfl rfl dX0_add_33 rfl ?_
    refine vr_aload_n hF 0 rfl dX0_add_36 rfl rfl ?_
    refine vr_get (v := .int (nI ((ta_n t) + 1))) hF 2 7 (vr_in inX0) (vr_m flX0_35) rfl (by decide) rfl rfl rfl dX0_add_37 rfl ?_
    refine vr_iload_n hF 2 rfl dX0_add_40 rfl rfl ?_
    refine vr_iast (ws' := (vx_w g a r (upd (ta_r t) ((ta_n t) + 1) rc, upd (ta_f t) ((ta_n t) + 1) fd, ta_v t, ta_d t, ta_k t, ta_c t, ta_o t, (ta_n t) + 1) w b)) (i := (ta_n t) + 1) (x := fd) (n := 201) (f := (ta_f t)) hF 9 0 rfl rfl (by omega) (by decide) rfl dX0_add_41 rfl ?_
    refine vr_aload_n hF 0 rfl dX0_add_42 rfl rfl ?_
    refine vr_get (v := .ref (a 10)) hF 2 2 (vr_in inX0) (vr_m flX0_18) rfl (by decide) rfl rfl rfl dX0_add_43 rfl ?_
    refine vr_aload_n hF 0 rfl dX0_add_46 rfl rfl ?_
    refine vr_get (v := .int (nI ((ta_n t) + 1))) hF 2 7 (vr_in inX0) (vr_m flX0_35) rfl (by decide) rfl rfl rfl dX0_add_47 rfl ?_
    refine vr_iload_n hF 3 rfl dX0_add_50 rfl rfl ?_
    refine vr_iast (ws' := (vx_w g a r (upd (ta_r t) ((ta_n t) + 1) rc, upd (ta_f t) ((ta_n t) + 1) fd, upd (ta_v t) ((ta_n t) + 1) v, ta_d t, ta_k t, ta_c t, ta_o t, (ta_n t) + 1) w b)) (i := (ta_n t) + 1) (x := v) (n := 201) (f := (ta_v t)) hF 10 0 rfl rfl (by omega) (by decide) rfl dX0_add_51 rfl ?_
    refine vr_aload_n hF 0 rfl dX0_add_52 rfl rfl ?_
    refine vr_get (v := .ref (a 11)) hF 2 3 (vr_in inX0) (vr_m flX0_21) rfl (by decide) rfl rfl rfl dX0_add_53 rfl ?_
    refine vr_aload_n hF 0 rfl dX0_add_56 rfl rfl ?_
    refine vr_get (v := .int (nI ((ta_n t) + 1))) hF 2 7 (vr_in inX0) (vr_m flX0_35) rfl (by decide) rfl rfl rfl dX0_add_57 rfl ?_
    refine vr_lload hF 4 rfl dX0_add_60 rfl ?_
    refine vr_last (ws' := (vx_w g a r (upd (ta_r t) ((ta_n t) + 1) rc, upd (ta_f t) ((ta_n t) + 1) fd, upd (ta_v t) ((ta_n t) + 1) v, vp_updL (ta_d t) ((ta_n t) + 1) vd, ta_k t, ta_c t, ta_o t, (ta_n t) + 1) w b)) (i := (ta_n t) + 1) (x := vd) (n := 201) (f := (ta_d t)) hF 11 1 rfl rfl (by omega) (by decide) rfl dX0_add_62 rfl ?_
    refine vr_aload_n hF 0 rfl dX0_add_63 rfl rfl ?_
    refine vr_get (v := .ref (a 12)) hF 2 4 (vr_in inX0) (vr_m flX0_25) rfl (by decide) rfl rfl rfl dX0_add_64 rfl ?_
    refine vr_aload_n hF 0 rfl dX0_add_67 rfl rfl ?_
    refine vr_get (v := .int (nI ((ta_n t) + 1))) hF 2 7 (vr_in inX0) (vr_m flX0_35) rfl (by decide) rfl rfl rfl dX0_add_68 rfl ?_
    refine vr_lload hF 5 rfl dX0_add_71 rfl ?_
    refine vr_last (ws' := (vx_w g a r (upd (ta_r t) ((ta_n t) + 1) rc, upd (ta_f t) ((ta_n t) + 1) fd, upd (ta_v t) ((ta_n t) + 1) v, vp_updL (ta_d t) ((ta_n t) + 1) vd, vp_updL (ta_k t) ((ta_n t) + 1) kn, ta_c t, ta_o t, (ta_n t) + 1) w b)) (i := (ta_n t) + 1) (x := kn) (n := 201) (f := (ta_k t)) hF 12 1 rfl rfl (by omega) (by decide) rfl dX0_add_73 rfl ?_
    refine vr_aload_n hF 0 rfl dX0_add_74 rfl rfl ?_
    refine vr_get (v := .ref (a 13)) hF 2 5 (vr_in inX0) (vr_m flX0_28) rfl (by decide) rfl rfl rfl dX0_add_75 rfl ?_
    refine vr_aload_n hF 0 rfl dX0_add_78 rfl rfl ?_
    refine vr_get (v := .int (nI ((ta_n t) + 1))) hF 2 7 (vr_in inX0) (vr_m flX0_35) rfl (by decide) rfl rfl rfl dX0_add_79 rfl ?_
    refine vr_iconst (v := nI 1) hF dX0_add_82 (by decide +kernel) rfl ?_
    refine vr_zastB (ws' := (vx_w g a r (upd (ta_r t) ((ta_n t) + 1) rc, upd (ta_f t) ((ta_n t) + 1) fd, upd (ta_v t) ((ta_n t) + 1) v, vp_updL (ta_d t) ((ta_n t) + 1) vd, vp_updL (ta_k t) ((ta_n t) + 1) kn, vr_ub (ta_c t) ((ta_n t) + 1) true, ta_o t, (ta_n t) + 1) w b)) (i := (ta_n t) + 1) (x := true) (n := 201) (f := (ta_c t)) hF 13 2 rfl rfl (by omega) (by decide) rfl dX0_add_83 rfl ?_
    refine vr_aload_n hF 0 rfl dX0_add_84 rfl rfl ?_
    refine vr_callV_Cv (rest := []) (n0 := 0) hF (xc_Acts_putNewestInOrder l g a r (upd (ta_r t) ((ta_n t) + 1) rc, upd (ta_f t) ((ta_n t) + 1) fd, upd (ta_v t) ((ta_n t) + 1) v, vp_updL (ta_d t) ((ta_n t) + 1) vd, vp_updL (ta_k t) ((ta_n t) + 1) kn, vr_ub (ta_c t) ((ta_n t) + 1) true, ta_o t, (ta_n t) + 1) w b h2 h3) (vr_gV vr_hbc mlX0_41 imX0_putNewestInOrder seX0_putNewestInOrder iniX0 cdX0_putNewestInOrder) rfl (by decide +kernel) rfl rfl rfl ⟨Nat.le_of_ble_eq_true rfl, Nat.le_of_ble_eq_true rfl⟩ ⟨Nat.zero_le _, Nat.zero_le _⟩ 2 rfl rfl rfl (Nat.le_of_ble_eq_true rfl) dX0_add_85 rfl ?_
    refine vr_to (ws' := vx_w g a r (xa_add t rc fd v vd kn) w b) (lv' := [(0, .ref (a 2)), (1, .int rc), (2, .int fd), (3, .int v), (4, .long vd), (6, .long kn)]) (st' := []) rfl rfl rfl ?_
    refine vr_aload_n hF 0 rfl dX0_add_88 rfl rfl ?_
    refine vr_get (v := .int (nI (ta_n (xa_add t rc fd v vd kn)))) hF 2 7 (vr_in inX0) (vr_m flX0_35) rfl (by decide) rfl rfl rfl dX0_add_89 rfl ?_
    refine vr_to (ws' := vx_w g a r (xa_add t rc fd v vd kn) w b) (lv' := [(0, .ref (a 2)), (1, .int rc), (2, .int fd), (3, .int v), (4, .long vd), (6, .long kn)]) (st' := [.int (nI (ta_n t + 1))]) rfl rfl rfl ?_
    exact vr_retiw hret dX0_add_92 (by rw [if_pos c_7]) (by rw [if_pos c_7])
  · skip
    refine vr_iconst (v := nI 0) hF dX0_add_10 (by decide +kernel) rfl ?_
    exact vr_retiw hret dX0_add_11 (by rw [if_neg c_7]) (by rw [if_neg c_7])
end
section
def rm_xw_Records_has : Room := { frames := 0, cells := 0, slots := 0, locals := 0 }
set_option maxHeartbeats 4000000 in
set_option maxRecDepth 100000 in
theorem xc_Records_has (l : Launch) (g : vr_G) (a : Nat → Nat) (r : vx_R) (t : vx_A) (w : Nat → Int64) (b : vx_B) (i : Int32) : vr_Ci l yX3_has wsX3_has rm_xw_Records_has g.1 (vr_tys g) [.ref (a 1), .int i] (vx_w g a r t w b) (vx_w g a r t w b) (vr_b (vx_has (rr_n r) i)) := by
  refine vr_Ci_mk (cc := cX3_has) (nL := 2) (ty := .boolean) (vr_nz _) (by decide) rfl (Nat.le_of_ble_eq_true rfl) ?_
  intro p e s m args below meth c A Q hF hret
  refine vr_to (ws' := (vx_w g a r t w b)) (lv' := [(0, .ref (a 1)), (1, .int i)]) (st' := []) rfl rfl rfl ?_
  refine vr_iload_n hF 1 rfl dX3_has_0 rfl rfl ?_
  refine vr_iconst (v := nI 1) hF dX3_has_1 (by decide +kernel) rfl ?_
  refine vr_icmp_lt (tgt := 17) hF dX3_has_2 (by decide) rfl (fun c_2 => ?_) (fun c_2 => ?_)
  · skip
    refine vr_iconst (v := nI 0) hF dX3_has_17 (by decide +kernel) rfl ?_
    exact vr_reti hret dX3_has_18 (by simp [vx_has, vr_bt, vr_bf, c_2])
  · skip
    refine vr_iload_n hF 1 rfl dX3_has_5 rfl rfl ?_
    refine vr_aload_n hF 0 rfl dX3_has_6 rfl rfl ?_
    refine vr_get (v := .int (nI (rr_n r))) hF 1 3 (vr_in inX3) (vr_m flX3_22) rfl (by decide) rfl rfl rfl dX3_has_7 rfl ?_
    refine vr_icmp_gt (tgt := 17) hF dX3_has_10 (by decide) rfl (fun c_10 => ?_) (fun c_10 => ?_)
    · skip
      refine vr_iconst (v := nI 0) hF dX3_has_17 (by decide +kernel) rfl ?_
      exact vr_reti hret dX3_has_18 (by simp [vx_has, vr_bt, vr_bf, c_2, c_10])
    · skip
      refine vr_iconst (v := nI 1) hF dX3_has_13 (by decide +kernel) rfl ?_
      refine vr_goto (tgt := 18) hF dX3_has_14 (by decide) ?_
      exact vr_reti hret dX3_has_18 (by simp [vx_has, vr_bt, vr_bf, c_2, c_10])
def rm_xw_Records_kind : Room := { frames := 0, cells := 0, slots := 0, locals := 0 }
set_option maxHeartbeats 4000000 in
set_option maxRecDepth 100000 in
theorem xc_Records_kind (l : Launch) (g : vr_G) (a : Nat → Nat) (r : vx_R) (t : vx_A) (w : Nat → Int64) (b : vx_B) (k : Nat) (hk : k ≤ 20) : vr_Ci l yX3_kind wsX3_kind rm_xw_Records_kind g.1 (vr_tys g) [.ref (a 1), .int (nI k)] (vx_w g a r t w b) (vx_w g a r t w b) (rr_k r k) := by
  refine vr_Ci_mk (cc := cX3_kind) (nL := 2) (ty := .int) rfl (by decide) rfl (Nat.le_of_ble_eq_true rfl) ?_
  intro p e s m args below meth c A Q hF hret
  refine vr_to (ws' := (vx_w g a r t w b)) (lv' := [(0, .ref (a 1)), (1, .int (nI k))]) (st' := []) rfl rfl rfl ?_
  refine vr_aload_n hF 0 rfl dX3_kind_0 rfl rfl ?_
  refine vr_get (v := .ref (a 5)) hF 1 0 (vr_in inX3) (vr_m flX3_9) rfl (by decide) rfl rfl rfl dX3_kind_1 rfl ?_
  refine vr_iload_n hF 1 rfl dX3_kind_4 rfl rfl ?_
  refine vr_iald (i := k) (n := 21) (f := (rr_k r)) hF 5 0 rfl rfl (by omega) (by decide) dX3_kind_5 rfl ?_
  exact vr_reti hret dX3_kind_6 (by simp [vr_bt, vr_bf])
def rm_xw_Records_locker : Room := { frames := 0, cells := 0, slots := 0, locals := 0 }
set_option maxHeartbeats 4000000 in
set_option maxRecDepth 100000 in
theorem xc_Records_locker (l : Launch) (g : vr_G) (a : Nat → Nat) (r : vx_R) (t : vx_A) (w : Nat → Int64) (b : vx_B) (k : Nat) (hk : k ≤ 20) : vr_Ci l yX3_locker wsX3_locker rm_xw_Records_locker g.1 (vr_tys g) [.ref (a 1), .int (nI k)] (vx_w g a r t w b) (vx_w g a r t w b) (rr_l r k) := by
  refine vr_Ci_mk (cc := cX3_locker) (nL := 2) (ty := .int) rfl (by decide) rfl (Nat.le_of_ble_eq_true rfl) ?_
  intro p e s m args below meth c A Q hF hret
  refine vr_to (ws' := (vx_w g a r t w b)) (lv' := [(0, .ref (a 1)), (1, .int (nI k))]) (st' := []) rfl rfl rfl ?_
  refine vr_aload_n hF 0 rfl dX3_locker_0 rfl rfl ?_
  refine vr_get (v := .ref (a 6)) hF 1 1 (vr_in inX3) (vr_m flX3_15) rfl (by decide) rfl rfl rfl dX3_locker_1 rfl ?_
  refine vr_iload_n hF 1 rfl dX3_locker_4 rfl rfl ?_
  refine vr_iald (i := k) (n := 21) (f := (rr_l r)) hF 6 0 rfl rfl (by omega) (by decide) dX3_locker_5 rfl ?_
  exact vr_reti hret dX3_locker_6 (by simp [vr_bt, vr_bf])
def rm_xw_Records_until : Room := { frames := 0, cells := 0, slots := 0, locals := 0 }
set_option maxHeartbeats 4000000 in
set_option maxRecDepth 100000 in
theorem xc_Records_until (l : Launch) (g : vr_G) (a : Nat → Nat) (r : vx_R) (t : vx_A) (w : Nat → Int64) (b : vx_B) (k : Nat) (hk : k ≤ 20) : vr_Cl l yX3_until wsX3_until rm_xw_Records_until g.1 (vr_tys g) [.ref (a 1), .int (nI k)] (vx_w g a r t w b) (vx_w g a r t w b) (rr_u r k) := by
  refine vr_Cl_mk (cc := cX3_until) (nL := 2) (by decide) rfl (Nat.le_of_ble_eq_true rfl) ?_
  intro p e s m args below meth c A Q hF hret
  refine vr_to (ws' := (vx_w g a r t w b)) (lv' := [(0, .ref (a 1)), (1, .int (nI k))]) (st' := []) rfl rfl rfl ?_
  refine vr_aload_n hF 0 rfl dX3_until_0 rfl rfl ?_
  refine vr_get (v := .ref (a 7)) hF 1 2 (vr_in inX3) (vr_m flX3_18) rfl (by decide) rfl rfl rfl dX3_until_1 rfl ?_
  refine vr_iload_n hF 1 rfl dX3_until_4 rfl rfl ?_
  refine vr_lald (i := k) (n := 21) (f := (rr_u r)) hF 7 1 rfl rfl (by omega) (by decide) dX3_until_5 rfl ?_
  exact vr_retl hret dX3_until_6 (by simp [vr_bt, vr_bf])
def rm_xw_Records_setLock : Room := { frames := 0, cells := 0, slots := 0, locals := 0 }
set_option maxHeartbeats 4000000 in
set_option maxRecDepth 100000 in
theorem xc_Records_setLock (l : Launch) (g : vr_G) (a : Nat → Nat) (r : vx_R) (t : vx_A) (w : Nat → Int64) (b : vx_B) (k : Nat) (who : Int32) (un : Int64) (hk : k ≤ 20) : vr_Cv l yX3_setLock wsX3_setLock rm_xw_Records_setLock g.1 (vr_tys g) [.ref (a 1), .int (nI k), .int who, .long un] (vx_w g a r t w b) (vx_w g a (xr_lock r k who un) t w b)  := by
  refine vr_Cv_mk (cc := cX3_setLock) (nL := 5) (by decide) rfl (Nat.le_of_ble_eq_true rfl) ?_
  intro p e s m args below meth c A Q hF hret
  refine vr_to (ws' := (vx_w g a r t w b)) (lv' := [(0, .ref (a 1)), (1, .int (nI k)), (2, .int who), (3, .long un)]) (st' := []) rfl rfl rfl ?_
  refine vr_aload_n hF 0 rfl dX3_setLock_0 rfl rfl ?_
  refine vr_get (v := .ref (a 6)) hF 1 1 (vr_in inX3) (vr_m flX3_15) rfl (by decide) rfl rfl rfl dX3_setLock_1 rfl ?_
  refine vr_iload_n hF 1 rfl dX3_setLock_4 rfl rfl ?_
  refine vr_iload_n hF 2 rfl dX3_setLock_5 rfl rfl ?_
  refine vr_iast (ws' := (vx_w g a (rr_k r, upd (rr_l r) k who, rr_u r, rr_n r) t w b)) (i := k) (x := who) (n := 21) (f := (rr_l r)) hF 6 0 rfl rfl (by omega) (by decide) rfl dX3_setLock_6 rfl ?_
  refine vr_aload_n hF 0 rfl dX3_setLock_7 rfl rfl ?_
  refine vr_get (v := .ref (a 7)) hF 1 2 (vr_in inX3) (vr_m flX3_18) rfl (by decide) rfl rfl rfl dX3_setLock_8 rfl ?_
  refine vr_iload_n hF 1 rfl dX3_setLock_11 rfl rfl ?_
  refine vr_lload_n hF 3 rfl dX3_setLock_12 rfl rfl ?_
  refine vr_last (ws' := (vx_w g a (rr_k r, upd (rr_l r) k who, vp_updL (rr_u r) k un, rr_n r) t w b)) (i := k) (x := un) (n := 21) (f := (rr_u r)) hF 7 1 rfl rfl (by omega) (by decide) rfl dX3_setLock_13 rfl ?_
  exact vr_retv hret dX3_setLock_14 rfl
def rm_xw_Records_add : Room := { frames := 0, cells := 0, slots := 0, locals := 0 }
set_option maxHeartbeats 4000000 in
set_option maxRecDepth 100000 in
theorem xc_Records_add (l : Launch) (g : vr_G) (a : Nat → Nat) (r : vx_R) (t : vx_A) (w : Nat → Int64) (b : vx_B) (kd : Int32) (h : vx_ok r t b) : vr_Ci l yX3_add wsX3_add rm_xw_Records_add g.1 (vr_tys g) [.ref (a 1), .int kd] (vx_w g a r t w b) (vx_w g a (if rr_n r < 20 then xr_add r kd else r) t w b) (nI (if rr_n r < 20 then rr_n r + 1 else 0)) := by
  obtain ⟨hrn, htn, hto, hbn⟩ := id h
  refine vr_Ci_mk (cc := cX3_add) (nL := 2) (ty := .int) rfl (by decide) rfl (Nat.le_of_ble_eq_true rfl) ?_
  intro p e s m args below meth c A Q hF hret
  refine vr_to (ws' := (vx_w g a r t w b)) (lv' := [(0, .ref (a 1)), (1, .int kd)]) (st' := []) rfl rfl rfl ?_
  refine vr_aload_n hF 0 rfl dX3_add_0 rfl rfl ?_
  refine vr_get (v := .int (nI (rr_n r))) hF 1 3 (vr_in inX3) (vr_m flX3_22) rfl (by decide) rfl rfl rfl dX3_add_1 rfl ?_
  refine vr_bipush (v := nI 20) hF dX3_add_4 (by decide +kernel) rfl ?_
  refine vr_icmp_ltN (tgt := 11) (x := (rr_n r)) (y := 20) hF (by omega) (by omega) dX3_add_6 (by decide) rfl (fun c_6 => ?_) (fun c_6 => ?_)
  · skip
    refine vr_aload_n hF 0 rfl dX3_add_11 rfl rfl ?_
    refine vr_dup hF dX3_add_12 rfl rfl ?_
    refine vr_get (v := .int (nI (rr_n r))) hF 1 3 (vr_in inX3) (vr_m flX3_22) rfl (by decide) rfl rfl rfl dX3_add_13 rfl ?_
    refine vr_iconst (v := nI 1) hF dX3_add_16 (by decide +kernel) rfl ?_
    refine vr_iadd (v := nI ((rr_n r) + 1)) hF dX3_add_17 (nI_add (rr_n r) 1) rfl ?_
    refine vr_put (ws' := (vx_w g a (rr_k r, rr_l r, rr_u r, (rr_n r) + 1) t w b)) hF 1 3 (vr_in inX3) (vr_m flX3_22) rfl (by decide) rfl rfl tyX3 tyX3_ok nmX3 rfl rfl rfl (Nat.le_of_ble_eq_true rfl) rfl dX3_add_18 rfl ?_
    refine vr_aload_n hF 0 rfl dX3_add_21 rfl rfl ?_
    refine vr_get (v := .ref (a 5)) hF 1 0 (vr_in inX3) (vr_m flX3_9) rfl (by decide) rfl rfl rfl dX3_add_22 rfl ?_
    refine vr_aload_n hF 0 rfl dX3_add_25 rfl rfl ?_
    refine vr_get (v := .int (nI ((rr_n r) + 1))) hF 1 3 (vr_in inX3) (vr_m flX3_22) rfl (by decide) rfl rfl rfl dX3_add_26 rfl ?_
    refine vr_iload_n hF 1 rfl dX3_add_29 rfl rfl ?_
    refine vr_iast (ws' := (vx_w g a (upd (rr_k r) ((rr_n r) + 1) kd, rr_l r, rr_u r, (rr_n r) + 1) t w b)) (i := (rr_n r) + 1) (x := kd) (n := 21) (f := (rr_k r)) hF 5 0 rfl rfl (by omega) (by decide) rfl dX3_add_30 rfl ?_
    refine vr_aload_n hF 0 rfl dX3_add_31 rfl rfl ?_
    refine vr_get (v := .ref (a 7)) hF 1 2 (vr_in inX3) (vr_m flX3_18) rfl (by decide) rfl rfl rfl dX3_add_32 rfl ?_
    refine vr_aload_n hF 0 rfl dX3_add_35 rfl rfl ?_
    refine vr_get (v := .int (nI ((rr_n r) + 1))) hF 1 3 (vr_in inX3) (vr_m flX3_22) rfl (by decide) rfl rfl rfl dX3_add_36 rfl ?_
    refine vr_ldc2 (v := vr_min) hF (vr_m kX3_26) dX3_add_39 rfl ?_
    refine vr_last (ws' := (vx_w g a (upd (rr_k r) ((rr_n r) + 1) kd, rr_l r, vp_updL (rr_u r) ((rr_n r) + 1) vr_min, (rr_n r) + 1) t w b)) (i := (rr_n r) + 1) (x := vr_min) (n := 21) (f := (rr_u r)) hF 7 1 rfl rfl (by omega) (by decide) rfl dX3_add_42 rfl ?_
    refine vr_aload_n hF 0 rfl dX3_add_43 rfl rfl ?_
    refine vr_get (v := .int (nI ((rr_n r) + 1))) hF 1 3 (vr_in inX3) (vr_m flX3_22) rfl (by decide) rfl rfl rfl dX3_add_44 rfl ?_
    exact vr_retiw hret dX3_add_47 (by rw [if_pos c_6]; rfl) (by rw [if_pos c_6])
  · skip
    refine vr_iconst (v := nI 0) hF dX3_add_9 (by decide +kernel) rfl ?_
    exact vr_retiw hret dX3_add_10 (by rw [if_neg c_6]) (by rw [if_neg c_6])
def rm_xw_Leans_wordOf : Room := { frames := 0, cells := 0, slots := 0, locals := 0 }
set_option maxHeartbeats 4000000 in
set_option maxRecDepth 100000 in
theorem xc_Leans_wordOf (l : Launch) (g : vr_G) (a : Nat → Nat) (r : vx_R) (t : vx_A) (w : Nat → Int64) (b : vx_B) (k : Nat) (o : Nat) (hk : k ≤ 200) (ho : o ≤ 200) : vr_Ci l yX2_wordOf wsX2_wordOf rm_xw_Leans_wordOf g.1 (vr_tys g) [.int (nI k), .int (nI o)] (vx_w g a r t w b) (vx_w g a r t w b) (nI (k * 4 + o / 64)) := by
  refine vr_Ci_mk (cc := cX2_wordOf) (nL := 2) (ty := .int) rfl (by decide) rfl (Nat.le_of_ble_eq_true rfl) ?_
  intro p e s m args below meth c A Q hF hret
  refine vr_to (ws' := (vx_w g a r t w b)) (lv' := [(0, .int (nI k)), (1, .int (nI o))]) (st' := []) rfl rfl rfl ?_
  refine vr_iload_n hF 0 rfl dX2_wordOf_0 rfl rfl ?_
  refine vr_iconst (v := nI 4) hF dX2_wordOf_1 (by decide +kernel) rfl ?_
  refine vr_imul (v := nI (k * 4)) hF dX2_wordOf_2 (pk_mul k 4) rfl ?_
  refine vr_iload_n hF 1 rfl dX2_wordOf_3 rfl rfl ?_
  refine vr_bipush (v := nI 64) hF dX2_wordOf_4 (by decide +kernel) rfl ?_
  refine vr_idiv (v := nI (o / 64)) hF dX2_wordOf_6 (by decide) (pk_div (by omega) (by decide) (by decide)) rfl ?_
  refine vr_iadd (v := nI ((k * 4) + (o / 64))) hF dX2_wordOf_7 (nI_add (k * 4) (o / 64)) rfl ?_
  exact vr_reti hret dX2_wordOf_8 (by simp [vr_bt, vr_bf])
def rm_xw_Leans_bitOf : Room := { frames := 0, cells := 0, slots := 0, locals := 0 }
set_option maxHeartbeats 4000000 in
set_option maxRecDepth 100000 in
theorem xc_Leans_bitOf (l : Launch) (g : vr_G) (a : Nat → Nat) (r : vx_R) (t : vx_A) (w : Nat → Int64) (b : vx_B) (o : Nat) (ho : o ≤ 200) : vr_Cl l yX2_bitOf wsX2_bitOf rm_xw_Leans_bitOf g.1 (vr_tys g) [.int (nI o)] (vx_w g a r t w b) (vx_w g a r t w b) (xl_bit o) := by
  refine vr_Cl_mk (cc := cX2_bitOf) (nL := 1) (by decide) rfl (Nat.le_of_ble_eq_true rfl) ?_
  intro p e s m args below meth c A Q hF hret
  refine vr_to (ws' := (vx_w g a r t w b)) (lv' := [(0, .int (nI o))]) (st' := []) rfl rfl rfl ?_
  refine vr_lconst (v := 1) hF dX2_bitOf_0 rfl rfl ?_
  refine vr_iload_n hF 0 rfl dX2_bitOf_1 rfl rfl ?_
  refine vr_bipush (v := nI 64) hF dX2_bitOf_2 (by decide +kernel) rfl ?_
  refine vr_irem (v := nI (o % 64)) hF dX2_bitOf_4 (by decide) (pk_rem (by omega) (by decide) (by decide)) rfl ?_
  refine vr_lshl (v := 1 <<< ((nI (o % 64)).toInt64 &&& 63)) hF dX2_bitOf_5 rfl rfl ?_
  exact vr_retl hret dX2_bitOf_6 (by simp [xl_bit, vr_bt, vr_bf])
def rm_xw_Leans_has : Room := { frames := 1, cells := 0, slots := 0, locals := 21 }
set_option maxHeartbeats 4000000 in
set_option maxRecDepth 100000 in
theorem xc_Leans_has (l : Launch) (g : vr_G) (a : Nat → Nat) (r : vx_R) (t : vx_A) (w : Nat → Int64) (b : vx_B) (k : Nat) (o : Nat) (hk : k ≤ 200) (ho : o ≤ 200) : vr_Ci l yX2_has wsX2_has rm_xw_Leans_has g.1 (vr_tys g) [.ref (a 3), .int (nI k), .int (nI o)] (vx_w g a r t w b) (vx_w g a r t w b) (vr_b (xl_has w k o)) := by
  refine vr_Ci_mk (cc := cX2_has) (nL := 3) (ty := .boolean) (vr_nz _) (by decide) rfl (Nat.le_of_ble_eq_true rfl) ?_
  intro p e s m args below meth c A Q hF hret
  refine vr_to (ws' := (vx_w g a r t w b)) (lv' := [(0, .ref (a 3)), (1, .int (nI k)), (2, .int (nI o))]) (st' := []) rfl rfl rfl ?_
  refine vr_aload_n hF 0 rfl dX2_has_0 rfl rfl ?_
  refine vr_get (v := .ref (a 15)) hF 3 0 (vr_in inX2) (vr_m flX2_11) rfl (by decide) rfl rfl rfl dX2_has_1 rfl ?_
  refine vr_iload_n hF 1 rfl dX2_has_4 rfl rfl ?_
  refine vr_iload_n hF 2 rfl dX2_has_5 rfl rfl ?_
  refine vr_callS_Ci (rest := [.ref (a 15)]) (n0 := 2) hF (xc_Leans_wordOf l g a r t w b k o (by omega) (by omega)) (vr_gS vr_hbc mlX2_15 stX2_wordOf iniX2 cdX2_wordOf) rfl (by decide +kernel) rfl rfl rfl ⟨Nat.le_of_ble_eq_true rfl, Nat.le_of_ble_eq_true rfl⟩ ⟨Nat.zero_le _, Nat.zero_le _⟩ rfl (Nat.le_of_ble_eq_true rfl) dX2_has_6 rfl ?_
  refine vr_lald (i := k * 4 + o / 64) (n := 804) (f := w) hF 15 1 rfl rfl (by omega) (by decide) dX2_has_9 rfl ?_
  refine vr_iload_n hF 2 rfl dX2_has_10 rfl rfl ?_
  refine vr_callS_Cl (rest := [.long (w (k * 4 + o / 64))]) (n0 := 1) hF (xc_Leans_bitOf l g a r t w b o (by omega)) (vr_gS vr_hbc mlX2_19 stX2_bitOf iniX2 cdX2_bitOf) rfl (by decide +kernel) rfl rfl rfl ⟨Nat.le_of_ble_eq_true rfl, Nat.le_of_ble_eq_true rfl⟩ ⟨Nat.zero_le _, Nat.zero_le _⟩ rfl (Nat.le_of_ble_eq_true rfl) dX2_has_11 rfl ?_
  refine vr_land (v := (w (k * 4 + o / 64)) &&& (xl_bit o)) hF dX2_has_14 rfl rfl ?_
  refine vr_lconst (v := 0) hF dX2_has_15 rfl rfl ?_
  refine vr_lcmp_eq (tgt := 24) hF dX2_has_16 dX2_has_17 (by decide) rfl (fun c_17 => ?_) (fun c_17 => ?_)
  · skip
    refine vr_iconst (v := nI 0) hF dX2_has_24 (by decide +kernel) rfl ?_
    exact vr_reti hret dX2_has_25 (by simp [xl_has, vr_bt, vr_bf, c_17])
  · skip
    refine vr_iconst (v := nI 1) hF dX2_has_20 (by decide +kernel) rfl ?_
    refine vr_goto (tgt := 25) hF dX2_has_21 (by decide) ?_
    exact vr_reti hret dX2_has_25 (by simp [xl_has, vr_bt, vr_bf, c_17])
def rm_xw_Leans_add : Room := { frames := 1, cells := 0, slots := 0, locals := 21 }
set_option maxHeartbeats 4000000 in
set_option maxRecDepth 100000 in
theorem xc_Leans_add (l : Launch) (g : vr_G) (a : Nat → Nat) (r : vx_R) (t : vx_A) (w : Nat → Int64) (b : vx_B) (k : Nat) (o : Nat) (hk : k ≤ 200) (ho : o ≤ 200) : vr_Cv l yX2_add wsX2_add rm_xw_Leans_add g.1 (vr_tys g) [.ref (a 3), .int (nI k), .int (nI o)] (vx_w g a r t w b) (vx_w g a r t (xl_add w k o) b)  := by
  refine vr_Cv_mk (cc := cX2_add) (nL := 3) (by decide) rfl (Nat.le_of_ble_eq_true rfl) ?_
  intro p e s m args below meth c A Q hF hret
  refine vr_to (ws' := (vx_w g a r t w b)) (lv' := [(0, .ref (a 3)), (1, .int (nI k)), (2, .int (nI o))]) (st' := []) rfl rfl rfl ?_
  refine vr_aload_n hF 0 rfl dX2_add_0 rfl rfl ?_
  refine vr_get (v := .ref (a 15)) hF 3 0 (vr_in inX2) (vr_m flX2_11) rfl (by decide) rfl rfl rfl dX2_add_1 rfl ?_
  refine vr_iload_n hF 1 rfl dX2_add_4 rfl rfl ?_
  refine vr_iload_n hF 2 rfl dX2_add_5 rfl rfl ?_
  refine vr_callS_Ci (rest := [.ref (a 15)]) (n0 := 2) hF (xc_Leans_wordOf l g a r t w b k o (by omega) (by omega)) (vr_gS vr_hbc mlX2_15 stX2_wordOf iniX2 cdX2_wordOf) rfl (by decide +kernel) rfl rfl rfl ⟨Nat.le_of_ble_eq_true rfl, Nat.le_of_ble_eq_true rfl⟩ ⟨Nat.zero_le _, Nat.zero_le _⟩ rfl (Nat.le_of_ble_eq_true rfl) dX2_add_6 rfl ?_
  refine vr_dup2_11 hF dX2_add_9 rfl rfl rfl ?_
  refine vr_lald (i := k * 4 + o / 64) (n := 804) (f := w) hF 15 1 rfl rfl (by omega) (by decide) dX2_add_10 rfl ?_
  refine vr_iload_n hF 2 rfl dX2_add_11 rfl rfl ?_
  refine vr_callS_Cl (rest := [.long (w (k * 4 + o / 64)), .int (nI (k * 4 + o / 64)), .ref (a 15)]) (n0 := 1) hF (xc_Leans_bitOf l g a r t w b o (by omega)) (vr_gS vr_hbc mlX2_19 stX2_bitOf iniX2 cdX2_bitOf) rfl (by decide +kernel) rfl rfl rfl ⟨Nat.le_of_ble_eq_true rfl, Nat.le_of_ble_eq_true rfl⟩ ⟨Nat.zero_le _, Nat.zero_le _⟩ rfl (Nat.le_of_ble_eq_true rfl) dX2_add_12 rfl ?_
  refine vr_lor (v := (w (k * 4 + o / 64)) ||| (xl_bit o)) hF dX2_add_15 rfl rfl ?_
  refine vr_last (ws' := (vx_w g a r t (vp_updL w (k * 4 + o / 64) ((w (k * 4 + o / 64)) ||| (xl_bit o))) b)) (i := k * 4 + o / 64) (x := ((w (k * 4 + o / 64)) ||| (xl_bit o))) (n := 804) (f := w) hF 15 1 rfl rfl (by omega) (by decide) rfl dX2_add_16 rfl ?_
  exact vr_retv hret dX2_add_17 rfl
def rm_xw_Batches_has : Room := { frames := 0, cells := 0, slots := 0, locals := 0 }
set_option maxHeartbeats 4000000 in
set_option maxRecDepth 100000 in
theorem xc_Batches_has (l : Launch) (g : vr_G) (a : Nat → Nat) (r : vx_R) (t : vx_A) (w : Nat → Int64) (b : vx_B) (i : Int32) : vr_Ci l yX1_has wsX1_has rm_xw_Batches_has g.1 (vr_tys g) [.ref (a 4), .int i] (vx_w g a r t w b) (vx_w g a r t w b) (vr_b (vx_has (tb_n b) i)) := by
  refine vr_Ci_mk (cc := cX1_has) (nL := 2) (ty := .boolean) (vr_nz _) (by decide) rfl (Nat.le_of_ble_eq_true rfl) ?_
  intro p e s m args below meth c A Q hF hret
  refine vr_to (ws' := (vx_w g a r t w b)) (lv' := [(0, .ref (a 4)), (1, .int i)]) (st' := []) rfl rfl rfl ?_
  refine vr_iload_n hF 1 rfl dX1_has_0 rfl rfl ?_
  refine vr_iconst (v := nI 1) hF dX1_has_1 (by decide +kernel) rfl ?_
  refine vr_icmp_lt (tgt := 17) hF dX1_has_2 (by decide) rfl (fun c_2 => ?_) (fun c_2 => ?_)
  · skip
    refine vr_iconst (v := nI 0) hF dX1_has_17 (by decide +kernel) rfl ?_
    exact vr_reti hret dX1_has_18 (by simp [vx_has, vr_bt, vr_bf, c_2])
  · skip
    refine vr_iload_n hF 1 rfl dX1_has_5 rfl rfl ?_
    refine vr_aload_n hF 0 rfl dX1_has_6 rfl rfl ?_
    refine vr_get (v := .int (nI (tb_n b))) hF 4 1 (vr_in inX1) (vr_m flX1_15) rfl (by decide) rfl rfl rfl dX1_has_7 rfl ?_
    refine vr_icmp_gt (tgt := 17) hF dX1_has_10 (by decide) rfl (fun c_10 => ?_) (fun c_10 => ?_)
    · skip
      refine vr_iconst (v := nI 0) hF dX1_has_17 (by decide +kernel) rfl ?_
      exact vr_reti hret dX1_has_18 (by simp [vx_has, vr_bt, vr_bf, c_2, c_10])
    · skip
      refine vr_iconst (v := nI 1) hF dX1_has_13 (by decide +kernel) rfl ?_
      refine vr_goto (tgt := 18) hF dX1_has_14 (by decide) ?_
      exact vr_reti hret dX1_has_18 (by simp [vx_has, vr_bt, vr_bf, c_2, c_10])
def rm_xw_Batches_of : Room := { frames := 0, cells := 0, slots := 0, locals := 0 }
set_option maxHeartbeats 4000000 in
set_option maxRecDepth 100000 in
theorem xc_Batches_of (l : Launch) (g : vr_G) (a : Nat → Nat) (r : vx_R) (t : vx_A) (w : Nat → Int64) (b : vx_B) (k : Nat) (hk : k ≤ 200) : vr_Ci l yX1_of wsX1_of rm_xw_Batches_of g.1 (vr_tys g) [.ref (a 4), .int (nI k)] (vx_w g a r t w b) (vx_w g a r t w b) (tb_o b k) := by
  refine vr_Ci_mk (cc := cX1_of) (nL := 2) (ty := .int) rfl (by decide) rfl (Nat.le_of_ble_eq_true rfl) ?_
  intro p e s m args below meth c A Q hF hret
  refine vr_to (ws' := (vx_w g a r t w b)) (lv' := [(0, .ref (a 4)), (1, .int (nI k))]) (st' := []) rfl rfl rfl ?_
  refine vr_aload_n hF 0 rfl dX1_of_0 rfl rfl ?_
  refine vr_get (v := .ref (a 16)) hF 4 0 (vr_in inX1) (vr_m flX1_9) rfl (by decide) rfl rfl rfl dX1_of_1 rfl ?_
  refine vr_iload_n hF 1 rfl dX1_of_4 rfl rfl ?_
  refine vr_iald (i := k) (n := 201) (f := (tb_o b)) hF 16 0 rfl rfl (by omega) (by decide) dX1_of_5 rfl ?_
  exact vr_reti hret dX1_of_6 (by simp [vr_bt, vr_bf])
def rm_xw_Batches_isAnyTaken : Room := { frames := 0, cells := 0, slots := 0, locals := 0 }
set_option maxHeartbeats 4000000 in
set_option maxRecDepth 100000 in
theorem xw_Batches_isAnyTaken_lp2 {p : Program} {l : Launch} {e : Env} {s : State} {m : MethodId} {args : Array Value} {below : List Frame} {meth : Method} {c : Code} {A : Nat → Prop} {Q : State → Prop} {g : vr_G} {a : Nat → Nat} (r : vx_R) (t : vx_A) (w : Nat → Int64) (b : vx_B) (f : Nat) (to : Nat) (h : vx_ok r t b) (hf : f ≤ to) (ht : to ≤ 200)  (ans : Int32) (hF : vr_F p s m c cX1_isAnyTaken 4 args wsX1_isAnyTaken yX1_isAnyTaken.cls g.1 (vr_tys g) A) (hret : vr_RtI p l e rm_xw_Batches_isAnyTaken s m args below meth c cX1_isAnyTaken g.1 A 4 0 0 Q (vx_w g a r t w b) ans) : ∀ (n : Nat) (k : Nat), (to + 1 < k + n) → (k ≤ to + 1) → (ans = vr_b (xb_taken b to n k)) → vr_W p l e rm_xw_Batches_isAnyTaken s m args below meth c g.1 A 4 0 0 Q (vx_w g a r t w b) 2 [(0, .ref (a 4)), (1, .int (nI f)), (2, .int (nI to)), (3, .int (nI k))] [] := by
  obtain ⟨hrn, htn, hto, hbn⟩ := id h
  intro n
  induction n with
  | zero => intro k hk1 hk2 hans; exact absurd hk1 (by omega)
  | succ n ih =>
    intro k hk1 hk2 hans
    refine vr_iload_n hF 3 rfl dX1_isAnyTaken_2 rfl rfl ?_
    refine vr_iload_n hF 2 rfl dX1_isAnyTaken_3 rfl rfl ?_
    refine vr_icmp_gtN (tgt := 24) (x := k) (y := to) hF (by omega) (by omega) dX1_isAnyTaken_4 (by decide) rfl (fun c_4 => ?_) (fun c_4 => ?_)
    · skip
      refine vr_iconst (v := nI 0) hF dX1_isAnyTaken_24 (by decide +kernel) rfl ?_
      exact vr_reti hret dX1_isAnyTaken_25 (by rw [hans, xb_taken]; simp [vr_bt, vr_bf, c_4])
    · skip
      refine vr_aload_n hF 0 rfl dX1_isAnyTaken_7 rfl rfl ?_
      refine vr_get (v := .ref (a 16)) hF 4 0 (vr_in inX1) (vr_m flX1_9) rfl (by decide) rfl rfl rfl dX1_isAnyTaken_8 rfl ?_
      refine vr_iload_n hF 3 rfl dX1_isAnyTaken_11 rfl rfl ?_
      refine vr_iald (i := k) (n := 201) (f := (tb_o b)) hF 16 0 rfl rfl (by omega) (by decide) dX1_isAnyTaken_12 rfl ?_
      refine vr_if_eq (tgt := 18) hF dX1_isAnyTaken_13 (by decide) rfl (fun c_13 => ?_) (fun c_13 => ?_)
      · skip
        refine vr_iinc (lv' := [(3, .int (nI (k + 1))), (0, .ref (a 4)), (1, .int (nI f)), (2, .int (nI to))]) hF (nI (k + 1)) 3 rfl dX1_isAnyTaken_18 (nI_1 k) (by decide) rfl rfl ?_
        refine vr_goto (tgt := 2) hF dX1_isAnyTaken_21 (by decide) ?_
        refine vr_sub [1, 2, 3, 0] rfl ?_
        exact ih (k + 1) (by omega) (by omega) (by rw [hans, xb_taken]; simp [c_4, c_13])
      · skip
        refine vr_iconst (v := nI 1) hF dX1_isAnyTaken_16 (by decide +kernel) rfl ?_
        exact vr_reti hret dX1_isAnyTaken_17 (by rw [hans, xb_taken]; simp [vr_bt, vr_bf, c_4, c_13])
set_option maxHeartbeats 4000000 in
set_option maxRecDepth 100000 in
theorem xc_Batches_isAnyTaken (l : Launch) (g : vr_G) (a : Nat → Nat) (r : vx_R) (t : vx_A) (w : Nat → Int64) (b : vx_B) (f : Nat) (to : Nat) (h : vx_ok r t b) (hf : f ≤ to) (ht : to ≤ 200) : vr_Ci l yX1_isAnyTaken wsX1_isAnyTaken rm_xw_Batches_isAnyTaken g.1 (vr_tys g) [.ref (a 4), .int (nI f), .int (nI to)] (vx_w g a r t w b) (vx_w g a r t w b) (vr_b (xb_taken b to (to + 2) f)) := by
  obtain ⟨hrn, htn, hto, hbn⟩ := id h
  refine vr_Ci_mk (cc := cX1_isAnyTaken) (nL := 4) (ty := .boolean) (vr_nz _) (by decide) rfl (Nat.le_of_ble_eq_true rfl) ?_
  intro p e s m args below meth c A Q hF hret
  refine vr_to (ws' := (vx_w g a r t w b)) (lv' := [(0, .ref (a 4)), (1, .int (nI f)), (2, .int (nI to))]) (st' := []) rfl rfl rfl ?_
  refine vr_iload_n hF 1 rfl dX1_isAnyTaken_0 rfl rfl ?_
  refine vr_istore_n (lv' := [(3, .int (nI f)), (0, .ref (a 4)), (1, .int (nI f)), (2, .int (nI to))]) hF dX1_isAnyTaken_1 rfl (by decide) rfl rfl ?_
  refine vr_sub [1, 2, 3, 0] rfl ?_
  exact xw_Batches_isAnyTaken_lp2 r t w b f to h hf ht  _ hF hret (to + 2) f (by omega) (by omega) rfl
def rm_xw_Batches_add : Room := { frames := 1, cells := 0, slots := 0, locals := 23 }
set_option maxHeartbeats 4000000 in
set_option maxRecDepth 100000 in
theorem xw_Batches_add_lp32 {p : Program} {l : Launch} {e : Env} {s : State} {m : MethodId} {args : Array Value} {below : List Frame} {meth : Method} {c : Code} {A : Nat → Prop} {Q : State → Prop} {g : vr_G} {a : Nat → Nat} (r : vx_R) (t : vx_A) (w : Nat → Int64) (b : vx_B) (f : Nat) (to : Nat) (h : vx_ok r t b) (hf : f ≤ to) (ht : to ≤ 200)  (ans : Int32) (P : Nat → Int32) (hF : vr_F p s m c cX1_add 4 args wsX1_add yX1_add.cls g.1 (vr_tys g) A) (hret : vr_RtI p l e rm_xw_Batches_add s m args below meth c cX1_add g.1 A 4 0 0 Q (vx_w g a r t w (P, tb_n b + 1)) ans) : ∀ (n : Nat) (k : Nat) (o : Nat → Int32), (to + 1 < k + n) → (k ≤ to + 1) → (P = xb_fill (nI (tb_n b + 1)) to n k o) → (ans = nI (tb_n b + 1)) → vr_W p l e rm_xw_Batches_add s m args below meth c g.1 A 4 0 0 Q (vx_w g a r t w (o, tb_n b + 1)) 32 [(0, .ref (a 4)), (1, .int (nI f)), (2, .int (nI to)), (3, .int (nI k))] [] := by
  obtain ⟨hrn, htn, hto, hbn⟩ := id h
  intro n
  induction n with
  | zero => intro k o hk1 hk2 hans hans2; exact absurd hk1 (by omega)
  | succ n ih =>
    intro k o hk1 hk2 hans hans2
    refine vr_iload_n hF 3 rfl dX1_add_32 rfl rfl ?_
    refine vr_iload_n hF 2 rfl dX1_add_33 rfl rfl ?_
    refine vr_icmp_gtN (tgt := 53) (x := k) (y := to) hF (by omega) (by omega) dX1_add_34 (by decide) rfl (fun c_34 => ?_) (fun c_34 => ?_)
    · skip
      refine vr_aload_n hF 0 rfl dX1_add_53 rfl rfl ?_
      refine vr_get (v := .int (nI (tb_n b + 1))) hF 4 1 (vr_in inX1) (vr_m flX1_15) rfl (by decide) rfl rfl rfl dX1_add_54 rfl ?_
      exact vr_retiw hret dX1_add_57 (by rw [hans, xb_fill]; simp [c_34]) hans2.symm
    · skip
      refine vr_aload_n hF 0 rfl dX1_add_37 rfl rfl ?_
      refine vr_get (v := .ref (a 16)) hF 4 0 (vr_in inX1) (vr_m flX1_9) rfl (by decide) rfl rfl rfl dX1_add_38 rfl ?_
      refine vr_iload_n hF 3 rfl dX1_add_41 rfl rfl ?_
      refine vr_aload_n hF 0 rfl dX1_add_42 rfl rfl ?_
      refine vr_get (v := .int (nI (tb_n b + 1))) hF 4 1 (vr_in inX1) (vr_m flX1_15) rfl (by decide) rfl rfl rfl dX1_add_43 rfl ?_
      refine vr_iast (ws' := (vx_w g a r t w (upd o k (nI (tb_n b + 1)), tb_n b + 1))) (i := k) (x := (nI (tb_n b + 1))) (n := 201) (f := o) hF 16 0 rfl rfl (by omega) (by decide) rfl dX1_add_46 rfl ?_
      refine vr_iinc (lv' := [(3, .int (nI (k + 1))), (0, .ref (a 4)), (1, .int (nI f)), (2, .int (nI to))]) hF (nI (k + 1)) 3 rfl dX1_add_47 (nI_1 k) (by decide) rfl rfl ?_
      refine vr_goto (tgt := 32) hF dX1_add_50 (by decide) ?_
      refine vr_sub [1, 2, 3, 0] rfl ?_
      exact ih (k + 1) (upd o k (nI (tb_n b + 1))) (by omega) (by omega) (by rw [hans, xb_fill]; simp [c_34]) hans2
set_option maxHeartbeats 4000000 in
set_option maxRecDepth 100000 in
theorem xc_Batches_add (l : Launch) (g : vr_G) (a : Nat → Nat) (r : vx_R) (t : vx_A) (w : Nat → Int64) (b : vx_B) (f : Nat) (to : Nat) (h : vx_ok r t b) (hf : f ≤ to) (ht : to ≤ 200) : vr_Ci l yX1_add wsX1_add rm_xw_Batches_add g.1 (vr_tys g) [.ref (a 4), .int (nI f), .int (nI to)] (vx_w g a r t w b) (vx_w g a r t w (if xb_can b f to = true then xb_add b f to else b)) (nI (if xb_can b f to = true then tb_n b + 1 else 0)) := by
  obtain ⟨hrn, htn, hto, hbn⟩ := id h
  refine vr_Ci_mk (cc := cX1_add) (nL := 4) (ty := .int) rfl (by decide) rfl (Nat.le_of_ble_eq_true rfl) ?_
  intro p e s m args below meth c A Q hF hret
  refine vr_to (ws' := (vx_w g a r t w b)) (lv' := [(0, .ref (a 4)), (1, .int (nI f)), (2, .int (nI to))]) (st' := []) rfl rfl rfl ?_
  refine vr_aload_n hF 0 rfl dX1_add_0 rfl rfl ?_
  refine vr_get (v := .int (nI (tb_n b))) hF 4 1 (vr_in inX1) (vr_m flX1_15) rfl (by decide) rfl rfl rfl dX1_add_1 rfl ?_
  refine vr_bipush (v := nI 30) hF dX1_add_4 (by decide +kernel) rfl ?_
  refine vr_icmp_geN (tgt := 18) (x := (tb_n b)) (y := 30) hF (by omega) (by omega) dX1_add_6 (by decide) rfl (fun c_6 => ?_) (fun c_6 => ?_)
  · skip
    have hc : ¬ xb_can b f to = true := by simp [xb_can, c_6]
    refine vr_iconst (v := nI 0) hF dX1_add_18 (by decide +kernel) rfl ?_
    exact vr_retiw hret dX1_add_19 (by rw [if_neg hc]) (by rw [if_neg hc])
  · skip
    refine vr_aload_n hF 0 rfl dX1_add_9 rfl rfl ?_
    refine vr_iload_n hF 1 rfl dX1_add_10 rfl rfl ?_
    refine vr_iload_n hF 2 rfl dX1_add_11 rfl rfl ?_
    refine vr_callV_Ci (rest := []) (n0 := 2) hF (xc_Batches_isAnyTaken l g a r t w b f to h (by omega) (by omega)) (vr_gV vr_hbc mlX1_19 imX1_isAnyTaken seX1_isAnyTaken iniX1 cdX1_isAnyTaken) rfl (by decide +kernel) rfl rfl rfl ⟨Nat.le_of_ble_eq_true rfl, Nat.le_of_ble_eq_true rfl⟩ ⟨Nat.zero_le _, Nat.zero_le _⟩ 4 rfl rfl rfl (Nat.le_of_ble_eq_true rfl) dX1_add_12 rfl ?_
    refine vr_if_eqB (tgt := 20) hF dX1_add_15 (by decide) rfl (fun c_15 => ?_) (fun c_15 => ?_)
    · skip
      have hc : xb_can b f to = true := by simp [xb_can, c_6, c_15]
      rw [if_pos hc, if_pos hc] at hret
      refine vr_aload_n hF 0 rfl dX1_add_20 rfl rfl ?_
      refine vr_dup hF dX1_add_21 rfl rfl ?_
      refine vr_get (v := .int (nI (tb_n b))) hF 4 1 (vr_in inX1) (vr_m flX1_15) rfl (by decide) rfl rfl rfl dX1_add_22 rfl ?_
      refine vr_iconst (v := nI 1) hF dX1_add_25 (by decide +kernel) rfl ?_
      refine vr_iadd (v := nI ((tb_n b) + 1)) hF dX1_add_26 (nI_add (tb_n b) 1) rfl ?_
      refine vr_put (ws' := (vx_w g a r t w (tb_o b, (tb_n b) + 1))) hF 4 1 (vr_in inX1) (vr_m flX1_15) rfl (by decide) rfl rfl tyX1 tyX1_ok nmX1 rfl rfl rfl (Nat.le_of_ble_eq_true rfl) rfl dX1_add_27 rfl ?_
      refine vr_iload_n hF 1 rfl dX1_add_30 rfl rfl ?_
      refine vr_istore_n (lv' := [(3, .int (nI f)), (0, .ref (a 4)), (1, .int (nI f)), (2, .int (nI to))]) hF dX1_add_31 rfl (by decide) rfl rfl ?_
      refine vr_sub [1, 2, 3, 0] rfl ?_
      exact xw_Batches_add_lp32 r t w b f to h hf ht  _ _ hF hret (to + 2) f (tb_o b) (by omega) (by omega) rfl rfl
    · skip
      have hc : ¬ xb_can b f to = true := by simp [xb_can, c_6, c_15]
      refine vr_iconst (v := nI 0) hF dX1_add_18 (by decide +kernel) rfl ?_
      exact vr_retiw hret dX1_add_19 (by rw [if_neg hc]) (by rw [if_neg hc])
end
section
def rm_xw_V_hasField : Room := { frames := 1, cells := 0, slots := 0, locals := 21 }
set_option maxHeartbeats 4000000 in
set_option maxRecDepth 100000 in
theorem xc_V_hasField (l : Launch) (g : vr_G) (a : Nat → Nat) (r : vx_R) (t : vx_A) (w : Nat → Int64) (b : vx_B) (rc : Int32) (fd : Int32) : vr_Ci l yX4_hasField wsX4_hasField rm_xw_V_hasField g.1 (vr_tys g) [.ref (a 0), .int rc, .int fd] (vx_w g a r t w b) (vx_w g a r t w b) (vr_b (xv_hasF r rc fd)) := by
  refine vr_Ci_mk (cc := cX4_hasField) (nL := 3) (ty := .boolean) (vr_nz _) (by decide) rfl (Nat.le_of_ble_eq_true rfl) ?_
  intro p e s m args below meth c A Q hF hret
  refine vr_to (ws' := (vx_w g a r t w b)) (lv' := [(0, .ref (a 0)), (1, .int rc), (2, .int fd)]) (st' := []) rfl rfl rfl ?_
  refine vr_aload_n hF 0 rfl dX4_hasField_0 rfl rfl ?_
  refine vr_get (v := .ref (a 1)) hF 0 0 (vr_in inX4) (vr_m flX4_10) rfl (by decide) rfl rfl rfl dX4_hasField_1 rfl ?_
  refine vr_iload_n hF 1 rfl dX4_hasField_4 rfl rfl ?_
  refine vr_callV_Ci (rest := []) (n0 := 1) hF (xc_Records_has l g a r t w b rc) (vr_gV vr_hbc mlX4_94 imX3_has seX3_has iniX3 cdX3_has) rfl (by decide +kernel) rfl rfl rfl ⟨Nat.le_of_ble_eq_true rfl, Nat.le_of_ble_eq_true rfl⟩ ⟨Nat.zero_le _, Nat.zero_le _⟩ 1 rfl rfl rfl (Nat.le_of_ble_eq_true rfl) dX4_hasField_5 rfl ?_
  refine vr_if_eqB (tgt := 25) hF dX4_hasField_8 (by decide) rfl (fun c_8 => ?_) (fun c_8 => ?_)
  · skip
    refine vr_iconst (v := nI 0) hF dX4_hasField_25 (by decide +kernel) rfl ?_
    exact vr_reti hret dX4_hasField_26 (by simp [xv_hasF, vr_bt, vr_bf, c_8])
  · skip
    refine vr_iload_n hF 2 rfl dX4_hasField_11 rfl rfl ?_
    refine vr_if_lt (tgt := 25) hF dX4_hasField_12 (by decide) rfl (fun c_12 => ?_) (fun c_12 => ?_)
    · skip
      refine vr_iconst (v := nI 0) hF dX4_hasField_25 (by decide +kernel) rfl ?_
      exact vr_reti hret dX4_hasField_26 (by simp [xv_hasF, vr_bt, vr_bf, c_8, c_12])
    · skip
      refine vr_iload_n hF 2 rfl dX4_hasField_15 rfl rfl ?_
      refine vr_bipush (v := nI 8) hF dX4_hasField_16 (by decide +kernel) rfl ?_
      refine vr_icmp_ge (tgt := 25) hF dX4_hasField_18 (by decide) rfl (fun c_18 => ?_) (fun c_18 => ?_)
      · skip
        refine vr_iconst (v := nI 0) hF dX4_hasField_25 (by decide +kernel) rfl ?_
        exact vr_reti hret dX4_hasField_26 (by simp [xv_hasF, vr_bt, vr_bf, c_8, c_12, c_18])
      · skip
        refine vr_iconst (v := nI 1) hF dX4_hasField_21 (by decide +kernel) rfl ?_
        refine vr_goto (tgt := 26) hF dX4_hasField_22 (by decide) ?_
        exact vr_reti hret dX4_hasField_26 (by simp [xv_hasF, vr_bt, vr_bf, c_8, c_12, c_18])
def rm_xw_V_isLocked : Room := { frames := 1, cells := 0, slots := 0, locals := 21 }
set_option maxHeartbeats 4000000 in
set_option maxRecDepth 100000 in
theorem xc_V_isLocked (l : Launch) (g : vr_G) (a : Nat → Nat) (r : vx_R) (t : vx_A) (w : Nat → Int64) (b : vx_B) (k : Nat) (h : vx_ok r t b) (hk : k ≤ 20) : vr_Ci l yX4_isLocked wsX4_isLocked rm_xw_V_isLocked g.1 (vr_tys g) [.ref (a 0), .int (nI k)] (vx_w g a r t w b) (vx_w g a r t w b) (vr_b (xv_locked r t k)) := by
  refine vr_Ci_mk (cc := cX4_isLocked) (nL := 2) (ty := .boolean) (vr_nz _) (by decide) rfl (Nat.le_of_ble_eq_true rfl) ?_
  intro p e s m args below meth c A Q hF hret
  refine vr_to (ws' := (vx_w g a r t w b)) (lv' := [(0, .ref (a 0)), (1, .int (nI k))]) (st' := []) rfl rfl rfl ?_
  refine vr_aload_n hF 0 rfl dX4_isLocked_0 rfl rfl ?_
  refine vr_get (v := .ref (a 2)) hF 0 1 (vr_in inX4) (vr_m flX4_19) rfl (by decide) rfl rfl rfl dX4_isLocked_1 rfl ?_
  refine vr_callV_Cl (rest := []) (n0 := 0) hF (xc_Acts_now l g a r t w b h) (vr_gV vr_hbc mlX4_68 imX0_now seX0_now iniX0 cdX0_now) rfl (by decide +kernel) rfl rfl rfl ⟨Nat.le_of_ble_eq_true rfl, Nat.le_of_ble_eq_true rfl⟩ ⟨Nat.zero_le _, Nat.zero_le _⟩ 2 rfl rfl rfl (Nat.le_of_ble_eq_true rfl) dX4_isLocked_4 rfl ?_
  refine vr_aload_n hF 0 rfl dX4_isLocked_7 rfl rfl ?_
  refine vr_get (v := .ref (a 1)) hF 0 0 (vr_in inX4) (vr_m flX4_10) rfl (by decide) rfl rfl rfl dX4_isLocked_8 rfl ?_
  refine vr_iload_n hF 1 rfl dX4_isLocked_11 rfl rfl ?_
  refine vr_callV_Cl (rest := [.long (xa_now t)]) (n0 := 1) hF (xc_Records_until l g a r t w b k (by omega)) (vr_gV vr_hbc mlX4_123 imX3_until seX3_until iniX3 cdX3_until) rfl (by decide +kernel) rfl rfl rfl ⟨Nat.le_of_ble_eq_true rfl, Nat.le_of_ble_eq_true rfl⟩ ⟨Nat.zero_le _, Nat.zero_le _⟩ 1 rfl rfl rfl (Nat.le_of_ble_eq_true rfl) dX4_isLocked_12 rfl ?_
  refine vr_lcmp_ge (tgt := 23) hF dX4_isLocked_15 dX4_isLocked_16 (by decide) rfl (fun c_16 => ?_) (fun c_16 => ?_)
  · skip
    refine vr_iconst (v := nI 0) hF dX4_isLocked_23 (by decide +kernel) rfl ?_
    exact vr_reti hret dX4_isLocked_24 (by simp [xv_locked, vr_bt, vr_bf, c_16])
  · skip
    refine vr_iconst (v := nI 1) hF dX4_isLocked_19 (by decide +kernel) rfl ?_
    refine vr_goto (tgt := 24) hF dX4_isLocked_20 (by decide) ?_
    exact vr_reti hret dX4_isLocked_24 (by simp [xv_locked, vr_bt, vr_bf, c_16])
def rm_xw_V_isRefusedDeletion : Room := { frames := 1, cells := 0, slots := 0, locals := 21 }
set_option maxHeartbeats 4000000 in
set_option maxRecDepth 100000 in
theorem xc_V_isRefusedDeletion (l : Launch) (g : vr_G) (a : Nat → Nat) (r : vx_R) (t : vx_A) (w : Nat → Int64) (b : vx_B) (k : Nat) (fd : Int32) (v : Int64) (hk : k ≤ 20) : vr_Ci l yX4_isRefusedDeletion wsX4_isRefusedDeletion rm_xw_V_isRefusedDeletion g.1 (vr_tys g) [.ref (a 0), .int (nI k), .int fd, .long v] (vx_w g a r t w b) (vx_w g a r t w b) (vr_b (xv_refuse r k fd v)) := by
  refine vr_Ci_mk (cc := cX4_isRefusedDeletion) (nL := 5) (ty := .boolean) (vr_nz _) (by decide) rfl (Nat.le_of_ble_eq_true rfl) ?_
  intro p e s m args below meth c A Q hF hret
  refine vr_to (ws' := (vx_w g a r t w b)) (lv' := [(0, .ref (a 0)), (1, .int (nI k)), (2, .int fd), (3, .long v)]) (st' := []) rfl rfl rfl ?_
  refine vr_iload_n hF 2 rfl dX4_isRefusedDeletion_0 rfl rfl ?_
  refine vr_if_ne (tgt := 26) hF dX4_isRefusedDeletion_1 (by decide) rfl (fun c_1 => ?_) (fun c_1 => ?_)
  · skip
    refine vr_iconst (v := nI 0) hF dX4_isRefusedDeletion_26 (by decide +kernel) rfl ?_
    exact vr_reti hret dX4_isRefusedDeletion_27 (by simp [xv_refuse, vr_bt, vr_bf, c_1])
  · skip
    refine vr_lload_n hF 3 rfl dX4_isRefusedDeletion_4 rfl rfl ?_
    refine vr_lconst (v := 1) hF dX4_isRefusedDeletion_5 rfl rfl ?_
    refine vr_lcmp_ne (tgt := 26) hF dX4_isRefusedDeletion_6 dX4_isRefusedDeletion_7 (by decide) rfl (fun c_7 => ?_) (fun c_7 => ?_)
    · skip
      refine vr_iconst (v := nI 0) hF dX4_isRefusedDeletion_26 (by decide +kernel) rfl ?_
      exact vr_reti hret dX4_isRefusedDeletion_27 (by simp [xv_refuse, vr_bt, vr_bf, c_1, c_7])
    · skip
      refine vr_aload_n hF 0 rfl dX4_isRefusedDeletion_10 rfl rfl ?_
      refine vr_get (v := .ref (a 1)) hF 0 0 (vr_in inX4) (vr_m flX4_10) rfl (by decide) rfl rfl rfl dX4_isRefusedDeletion_11 rfl ?_
      refine vr_iload_n hF 1 rfl dX4_isRefusedDeletion_14 rfl rfl ?_
      refine vr_callV_Ci (rest := []) (n0 := 1) hF (xc_Records_kind l g a r t w b k (by omega)) (vr_gV vr_hbc mlX4_126 imX3_kind seX3_kind iniX3 cdX3_kind) rfl (by decide +kernel) rfl rfl rfl ⟨Nat.le_of_ble_eq_true rfl, Nat.le_of_ble_eq_true rfl⟩ ⟨Nat.zero_le _, Nat.zero_le _⟩ 1 rfl rfl rfl (Nat.le_of_ble_eq_true rfl) dX4_isRefusedDeletion_15 rfl ?_
      refine vr_iconst (v := nI 1) hF dX4_isRefusedDeletion_18 (by decide +kernel) rfl ?_
      refine vr_icmp_ne (tgt := 26) hF dX4_isRefusedDeletion_19 (by decide) rfl (fun c_19 => ?_) (fun c_19 => ?_)
      · skip
        refine vr_iconst (v := nI 0) hF dX4_isRefusedDeletion_26 (by decide +kernel) rfl ?_
        exact vr_reti hret dX4_isRefusedDeletion_27 (by simp [xv_refuse, vr_bt, vr_bf, c_1, c_7, c_19])
      · skip
        refine vr_iconst (v := nI 1) hF dX4_isRefusedDeletion_22 (by decide +kernel) rfl ?_
        refine vr_goto (tgt := 27) hF dX4_isRefusedDeletion_23 (by decide) ?_
        exact vr_reti hret dX4_isRefusedDeletion_27 (by simp [xv_refuse, vr_bt, vr_bf, c_1, c_7, c_19])
def rm_xw_V_isLeanedOn : Room := { frames := 2, cells := 0, slots := 0, locals := 43 }
set_option maxHeartbeats 4000000 in
set_option maxRecDepth 100000 in
theorem xw_V_isLeanedOn_lp4 {p : Program} {l : Launch} {e : Env} {s : State} {m : MethodId} {args : Array Value} {below : List Frame} {meth : Method} {c : Code} {A : Nat → Prop} {Q : State → Prop} {g : vr_G} {a : Nat → Nat} (r : vx_R) (t : vx_A) (w : Nat → Int64) (b : vx_B) (k : Nat) (h : vx_ok r t b) (hk : k ≤ ta_n t)  (ans : Int32) (hF : vr_F p s m c cX4_isLeanedOn 3 args wsX4_isLeanedOn yX4_isLeanedOn.cls g.1 (vr_tys g) A) (hret : vr_RtI p l e rm_xw_V_isLeanedOn s m args below meth c cX4_isLeanedOn g.1 A 3 0 0 Q (vx_w g a r t w b) ans) : ∀ (n : Nat) (j : Nat), (ta_n t + 1 < j + n) → (j ≤ ta_n t + 1) → (ans = vr_b (xv_lean1 t w k n j)) → vr_W p l e rm_xw_V_isLeanedOn s m args below meth c g.1 A 3 0 0 Q (vx_w g a r t w b) 4 [(0, .ref (a 0)), (1, .int (nI k)), (2, .int (nI j))] [] := by
  obtain ⟨hrn, htn, hto, hbn⟩ := id h
  intro n
  induction n with
  | zero => intro j hj1 hj2 hans; exact absurd hj1 (by omega)
  | succ n ih =>
    intro j hj1 hj2 hans
    refine vr_iload_n hF 2 rfl dX4_isLeanedOn_4 rfl rfl ?_
    refine vr_aload_n hF 0 rfl dX4_isLeanedOn_5 rfl rfl ?_
    refine vr_get (v := .ref (a 2)) hF 0 1 (vr_in inX4) (vr_m flX4_19) rfl (by decide) rfl rfl rfl dX4_isLeanedOn_6 rfl ?_
    refine vr_callV_Ci (rest := [.int (nI j)]) (n0 := 0) hF (xc_Acts_count l g a r t w b) (vr_gV vr_hbc mlX4_109 imX0_count seX0_count iniX0 cdX0_count) rfl (by decide +kernel) rfl rfl rfl ⟨Nat.le_of_ble_eq_true rfl, Nat.le_of_ble_eq_true rfl⟩ ⟨Nat.zero_le _, Nat.zero_le _⟩ 2 rfl rfl rfl (Nat.le_of_ble_eq_true rfl) dX4_isLeanedOn_9 rfl ?_
    refine vr_icmp_gtN (tgt := 46) (x := j) (y := (ta_n t)) hF (by omega) (by omega) dX4_isLeanedOn_12 (by decide) rfl (fun c_12 => ?_) (fun c_12 => ?_)
    · skip
      refine vr_iconst (v := nI 0) hF dX4_isLeanedOn_46 (by decide +kernel) rfl ?_
      exact vr_reti hret dX4_isLeanedOn_47 (by rw [hans, xv_lean1]; simp [vr_bt, vr_bf, c_12])
    · skip
      refine vr_aload_n hF 0 rfl dX4_isLeanedOn_15 rfl rfl ?_
      refine vr_get (v := .ref (a 2)) hF 0 1 (vr_in inX4) (vr_m flX4_19) rfl (by decide) rfl rfl rfl dX4_isLeanedOn_16 rfl ?_
      refine vr_iload_n hF 2 rfl dX4_isLeanedOn_19 rfl rfl ?_
      refine vr_callV_Ci (rest := []) (n0 := 1) hF (xc_Acts_counts l g a r t w b j (by omega)) (vr_gV vr_hbc mlX4_79 imX0_counts seX0_counts iniX0 cdX0_counts) rfl (by decide +kernel) rfl rfl rfl ⟨Nat.le_of_ble_eq_true rfl, Nat.le_of_ble_eq_true rfl⟩ ⟨Nat.zero_le _, Nat.zero_le _⟩ 2 rfl rfl rfl (Nat.le_of_ble_eq_true rfl) dX4_isLeanedOn_20 rfl ?_
      refine vr_if_eqB (tgt := 40) hF dX4_isLeanedOn_23 (by decide) rfl (fun c_23 => ?_) (fun c_23 => ?_)
      · skip
        refine vr_iinc (lv' := [(2, .int (nI (j + 1))), (0, .ref (a 0)), (1, .int (nI k))]) hF (nI (j + 1)) 2 rfl dX4_isLeanedOn_40 (nI_1 j) (by decide) rfl rfl ?_
        refine vr_goto (tgt := 4) hF dX4_isLeanedOn_43 (by decide) ?_
        refine vr_sub [1, 2, 0] rfl ?_
        exact ih (j + 1) (by omega) (by omega) (by rw [hans, xv_lean1]; simp [c_12, c_23])
      · skip
        refine vr_aload_n hF 0 rfl dX4_isLeanedOn_26 rfl rfl ?_
        refine vr_get (v := .ref (a 3)) hF 0 2 (vr_in inX4) (vr_m flX4_26) rfl (by decide) rfl rfl rfl dX4_isLeanedOn_27 rfl ?_
        refine vr_iload_n hF 2 rfl dX4_isLeanedOn_30 rfl rfl ?_
        refine vr_iload_n hF 1 rfl dX4_isLeanedOn_31 rfl rfl ?_
        refine vr_callV_Ci (rest := []) (n0 := 2) hF (xc_Leans_has l g a r t w b j k (by omega) (by omega)) (vr_gV vr_hbc mlX4_89 imX2_has seX2_has iniX2 cdX2_has) rfl (by decide +kernel) rfl rfl rfl ⟨Nat.le_of_ble_eq_true rfl, Nat.le_of_ble_eq_true rfl⟩ ⟨Nat.zero_le _, Nat.zero_le _⟩ 3 rfl rfl rfl (Nat.le_of_ble_eq_true rfl) dX4_isLeanedOn_32 rfl ?_
        refine vr_if_eqB (tgt := 40) hF dX4_isLeanedOn_35 (by decide) rfl (fun c_35 => ?_) (fun c_35 => ?_)
        · skip
          refine vr_iinc (lv' := [(2, .int (nI (j + 1))), (0, .ref (a 0)), (1, .int (nI k))]) hF (nI (j + 1)) 2 rfl dX4_isLeanedOn_40 (nI_1 j) (by decide) rfl rfl ?_
          refine vr_goto (tgt := 4) hF dX4_isLeanedOn_43 (by decide) ?_
          refine vr_sub [1, 2, 0] rfl ?_
          exact ih (j + 1) (by omega) (by omega) (by rw [hans, xv_lean1]; simp [c_12, c_23, c_35])
        · skip
          refine vr_iconst (v := nI 1) hF dX4_isLeanedOn_38 (by decide +kernel) rfl ?_
          exact vr_reti hret dX4_isLeanedOn_39 (by rw [hans, xv_lean1]; simp [vr_bt, vr_bf, c_12, c_23, c_35])
set_option maxHeartbeats 4000000 in
set_option maxRecDepth 100000 in
theorem xc_V_isLeanedOn (l : Launch) (g : vr_G) (a : Nat → Nat) (r : vx_R) (t : vx_A) (w : Nat → Int64) (b : vx_B) (k : Nat) (h : vx_ok r t b) (hk : k ≤ ta_n t) : vr_Ci l yX4_isLeanedOn wsX4_isLeanedOn rm_xw_V_isLeanedOn g.1 (vr_tys g) [.ref (a 0), .int (nI k)] (vx_w g a r t w b) (vx_w g a r t w b) (vr_b (xv_lean1 t w k (ta_n t + 1) (k + 1))) := by
  obtain ⟨hrn, htn, hto, hbn⟩ := id h
  refine vr_Ci_mk (cc := cX4_isLeanedOn) (nL := 3) (ty := .boolean) (vr_nz _) (by decide) rfl (Nat.le_of_ble_eq_true rfl) ?_
  intro p e s m args below meth c A Q hF hret
  refine vr_to (ws' := (vx_w g a r t w b)) (lv' := [(0, .ref (a 0)), (1, .int (nI k))]) (st' := []) rfl rfl rfl ?_
  refine vr_iload_n hF 1 rfl dX4_isLeanedOn_0 rfl rfl ?_
  refine vr_iconst (v := nI 1) hF dX4_isLeanedOn_1 (by decide +kernel) rfl ?_
  refine vr_iadd (v := nI (k + 1)) hF dX4_isLeanedOn_2 (nI_add k 1) rfl ?_
  refine vr_istore_n (lv' := [(2, .int (nI (k + 1))), (0, .ref (a 0)), (1, .int (nI k))]) hF dX4_isLeanedOn_3 rfl (by decide) rfl rfl ?_
  refine vr_sub [1, 2, 0] rfl ?_
  exact xw_V_isLeanedOn_lp4 r t w b k h hk  _ hF hret (ta_n t + 1) (k + 1) (by omega) (by omega) rfl
def rm_xw_V_isLeanedOnOutside : Room := { frames := 2, cells := 0, slots := 0, locals := 43 }
set_option maxHeartbeats 4000000 in
set_option maxRecDepth 100000 in
theorem xw_V_isLeanedOnOutside_lp4 {p : Program} {l : Launch} {e : Env} {s : State} {m : MethodId} {args : Array Value} {below : List Frame} {meth : Method} {c : Code} {A : Nat → Prop} {Q : State → Prop} {g : vr_G} {a : Nat → Nat} (r : vx_R) (t : vx_A) (w : Nat → Int64) (b : vx_B) (k : Nat) (bt : Int32) (h : vx_ok r t b) (hk : k ≤ ta_n t)  (ans : Int32) (hF : vr_F p s m c cX4_isLeanedOnOutside 4 args wsX4_isLeanedOnOutside yX4_isLeanedOnOutside.cls g.1 (vr_tys g) A) (hret : vr_RtI p l e rm_xw_V_isLeanedOnOutside s m args below meth c cX4_isLeanedOnOutside g.1 A 4 0 0 Q (vx_w g a r t w b) ans) : ∀ (n : Nat) (j : Nat), (ta_n t + 1 < j + n) → (j ≤ ta_n t + 1) → (ans = vr_b (xv_leanO t w b k bt n j)) → vr_W p l e rm_xw_V_isLeanedOnOutside s m args below meth c g.1 A 4 0 0 Q (vx_w g a r t w b) 4 [(0, .ref (a 0)), (1, .int (nI k)), (2, .int bt), (3, .int (nI j))] [] := by
  obtain ⟨hrn, htn, hto, hbn⟩ := id h
  intro n
  induction n with
  | zero => intro j hj1 hj2 hans; exact absurd hj1 (by omega)
  | succ n ih =>
    intro j hj1 hj2 hans
    refine vr_iload_n hF 3 rfl dX4_isLeanedOnOutside_4 rfl rfl ?_
    refine vr_aload_n hF 0 rfl dX4_isLeanedOnOutside_5 rfl rfl ?_
    refine vr_get (v := .ref (a 2)) hF 0 1 (vr_in inX4) (vr_m flX4_19) rfl (by decide) rfl rfl rfl dX4_isLeanedOnOutside_6 rfl ?_
    refine vr_callV_Ci (rest := [.int (nI j)]) (n0 := 0) hF (xc_Acts_count l g a r t w b) (vr_gV vr_hbc mlX4_109 imX0_count seX0_count iniX0 cdX0_count) rfl (by decide +kernel) rfl rfl rfl ⟨Nat.le_of_ble_eq_true rfl, Nat.le_of_ble_eq_true rfl⟩ ⟨Nat.zero_le _, Nat.zero_le _⟩ 2 rfl rfl rfl (Nat.le_of_ble_eq_true rfl) dX4_isLeanedOnOutside_9 rfl ?_
    refine vr_icmp_gtN (tgt := 58) (x := j) (y := (ta_n t)) hF (by omega) (by omega) dX4_isLeanedOnOutside_12 (by decide) rfl (fun c_12 => ?_) (fun c_12 => ?_)
    · skip
      refine vr_iconst (v := nI 0) hF dX4_isLeanedOnOutside_58 (by decide +kernel) rfl ?_
      exact vr_reti hret dX4_isLeanedOnOutside_59 (by rw [hans, xv_leanO]; simp [vr_bt, vr_bf, c_12])
    · skip
      refine vr_aload_n hF 0 rfl dX4_isLeanedOnOutside_15 rfl rfl ?_
      refine vr_get (v := .ref (a 2)) hF 0 1 (vr_in inX4) (vr_m flX4_19) rfl (by decide) rfl rfl rfl dX4_isLeanedOnOutside_16 rfl ?_
      refine vr_iload_n hF 3 rfl dX4_isLeanedOnOutside_19 rfl rfl ?_
      refine vr_callV_Ci (rest := []) (n0 := 1) hF (xc_Acts_counts l g a r t w b j (by omega)) (vr_gV vr_hbc mlX4_79 imX0_counts seX0_counts iniX0 cdX0_counts) rfl (by decide +kernel) rfl rfl rfl ⟨Nat.le_of_ble_eq_true rfl, Nat.le_of_ble_eq_true rfl⟩ ⟨Nat.zero_le _, Nat.zero_le _⟩ 2 rfl rfl rfl (Nat.le_of_ble_eq_true rfl) dX4_isLeanedOnOutside_20 rfl ?_
      refine vr_if_eqB (tgt := 52) hF dX4_isLeanedOnOutside_23 (by decide) rfl (fun c_23 => ?_) (fun c_23 => ?_)
      · skip
        refine vr_iinc (lv' := [(3, .int (nI (j + 1))), (0, .ref (a 0)), (1, .int (nI k)), (2, .int bt)]) hF (nI (j + 1)) 3 rfl dX4_isLeanedOnOutside_52 (nI_1 j) (by decide) rfl rfl ?_
        refine vr_goto (tgt := 4) hF dX4_isLeanedOnOutside_55 (by decide) ?_
        refine vr_sub [1, 2, 3, 0] rfl ?_
        exact ih (j + 1) (by omega) (by omega) (by rw [hans, xv_leanO]; simp [c_12, c_23])
      · skip
        refine vr_aload_n hF 0 rfl dX4_isLeanedOnOutside_26 rfl rfl ?_
        refine vr_get (v := .ref (a 4)) hF 0 3 (vr_in inX4) (vr_m flX4_33) rfl (by decide) rfl rfl rfl dX4_isLeanedOnOutside_27 rfl ?_
        refine vr_iload_n hF 3 rfl dX4_isLeanedOnOutside_30 rfl rfl ?_
        refine vr_callV_Ci (rest := []) (n0 := 1) hF (xc_Batches_of l g a r t w b j (by omega)) (vr_gV vr_hbc mlX4_132 imX1_of seX1_of iniX1 cdX1_of) rfl (by decide +kernel) rfl rfl rfl ⟨Nat.le_of_ble_eq_true rfl, Nat.le_of_ble_eq_true rfl⟩ ⟨Nat.zero_le _, Nat.zero_le _⟩ 4 rfl rfl rfl (Nat.le_of_ble_eq_true rfl) dX4_isLeanedOnOutside_31 rfl ?_
        refine vr_iload_n hF 2 rfl dX4_isLeanedOnOutside_34 rfl rfl ?_
        refine vr_icmp_eq (tgt := 52) hF dX4_isLeanedOnOutside_35 (by decide) rfl (fun c_35 => ?_) (fun c_35 => ?_)
        · skip
          refine vr_iinc (lv' := [(3, .int (nI (j + 1))), (0, .ref (a 0)), (1, .int (nI k)), (2, .int bt)]) hF (nI (j + 1)) 3 rfl dX4_isLeanedOnOutside_52 (nI_1 j) (by decide) rfl rfl ?_
          refine vr_goto (tgt := 4) hF dX4_isLeanedOnOutside_55 (by decide) ?_
          refine vr_sub [1, 2, 3, 0] rfl ?_
          exact ih (j + 1) (by omega) (by omega) (by rw [hans, xv_leanO]; simp [c_12, c_23, c_35])
        · skip
          refine vr_aload_n hF 0 rfl dX4_isLeanedOnOutside_38 rfl rfl ?_
          refine vr_get (v := .ref (a 3)) hF 0 2 (vr_in inX4) (vr_m flX4_26) rfl (by decide) rfl rfl rfl dX4_isLeanedOnOutside_39 rfl ?_
          refine vr_iload_n hF 3 rfl dX4_isLeanedOnOutside_42 rfl rfl ?_
          refine vr_iload_n hF 1 rfl dX4_isLeanedOnOutside_43 rfl rfl ?_
          refine vr_callV_Ci (rest := []) (n0 := 2) hF (xc_Leans_has l g a r t w b j k (by omega) (by omega)) (vr_gV vr_hbc mlX4_89 imX2_has seX2_has iniX2 cdX2_has) rfl (by decide +kernel) rfl rfl rfl ⟨Nat.le_of_ble_eq_true rfl, Nat.le_of_ble_eq_true rfl⟩ ⟨Nat.zero_le _, Nat.zero_le _⟩ 3 rfl rfl rfl (Nat.le_of_ble_eq_true rfl) dX4_isLeanedOnOutside_44 rfl ?_
          refine vr_if_eqB (tgt := 52) hF dX4_isLeanedOnOutside_47 (by decide) rfl (fun c_47 => ?_) (fun c_47 => ?_)
          · skip
            refine vr_iinc (lv' := [(3, .int (nI (j + 1))), (0, .ref (a 0)), (1, .int (nI k)), (2, .int bt)]) hF (nI (j + 1)) 3 rfl dX4_isLeanedOnOutside_52 (nI_1 j) (by decide) rfl rfl ?_
            refine vr_goto (tgt := 4) hF dX4_isLeanedOnOutside_55 (by decide) ?_
            refine vr_sub [1, 2, 3, 0] rfl ?_
            exact ih (j + 1) (by omega) (by omega) (by rw [hans, xv_leanO]; simp [c_12, c_23, c_35, c_47])
          · skip
            refine vr_iconst (v := nI 1) hF dX4_isLeanedOnOutside_50 (by decide +kernel) rfl ?_
            exact vr_reti hret dX4_isLeanedOnOutside_51 (by rw [hans, xv_leanO]; simp [vr_bt, vr_bf, c_12, c_23, c_35, c_47])
set_option maxHeartbeats 4000000 in
set_option maxRecDepth 100000 in
theorem xc_V_isLeanedOnOutside (l : Launch) (g : vr_G) (a : Nat → Nat) (r : vx_R) (t : vx_A) (w : Nat → Int64) (b : vx_B) (k : Nat) (bt : Int32) (h : vx_ok r t b) (hk : k ≤ ta_n t) : vr_Ci l yX4_isLeanedOnOutside wsX4_isLeanedOnOutside rm_xw_V_isLeanedOnOutside g.1 (vr_tys g) [.ref (a 0), .int (nI k), .int bt] (vx_w g a r t w b) (vx_w g a r t w b) (vr_b (xv_leanO t w b k bt (ta_n t + 1) (k + 1))) := by
  obtain ⟨hrn, htn, hto, hbn⟩ := id h
  refine vr_Ci_mk (cc := cX4_isLeanedOnOutside) (nL := 4) (ty := .boolean) (vr_nz _) (by decide) rfl (Nat.le_of_ble_eq_true rfl) ?_
  intro p e s m args below meth c A Q hF hret
  refine vr_to (ws' := (vx_w g a r t w b)) (lv' := [(0, .ref (a 0)), (1, .int (nI k)), (2, .int bt)]) (st' := []) rfl rfl rfl ?_
  refine vr_iload_n hF 1 rfl dX4_isLeanedOnOutside_0 rfl rfl ?_
  refine vr_iconst (v := nI 1) hF dX4_isLeanedOnOutside_1 (by decide +kernel) rfl ?_
  refine vr_iadd (v := nI (k + 1)) hF dX4_isLeanedOnOutside_2 (nI_add k 1) rfl ?_
  refine vr_istore_n (lv' := [(3, .int (nI (k + 1))), (0, .ref (a 0)), (1, .int (nI k)), (2, .int bt)]) hF dX4_isLeanedOnOutside_3 rfl (by decide) rfl rfl ?_
  refine vr_sub [1, 2, 3, 0] rfl ?_
  exact xw_V_isLeanedOnOutside_lp4 r t w b k bt h hk  _ hF hret (ta_n t + 1) (k + 1) (by omega) (by omega) rfl
def rm_xw_V_countsInBatch : Room := { frames := 1, cells := 0, slots := 0, locals := 21 }
set_option maxHeartbeats 4000000 in
set_option maxRecDepth 100000 in
theorem xc_V_countsInBatch (l : Launch) (g : vr_G) (a : Nat → Nat) (r : vx_R) (t : vx_A) (w : Nat → Int64) (b : vx_B) (k : Nat) (bt : Int32) (hk : k ≤ 200) : vr_Ci l yX4_countsInBatch wsX4_countsInBatch rm_xw_V_countsInBatch g.1 (vr_tys g) [.ref (a 0), .int (nI k), .int bt] (vx_w g a r t w b) (vx_w g a r t w b) (vr_b (xv_inC b bt (ta_c t) k)) := by
  refine vr_Ci_mk (cc := cX4_countsInBatch) (nL := 3) (ty := .boolean) (vr_nz _) (by decide) rfl (Nat.le_of_ble_eq_true rfl) ?_
  intro p e s m args below meth c A Q hF hret
  refine vr_to (ws' := (vx_w g a r t w b)) (lv' := [(0, .ref (a 0)), (1, .int (nI k)), (2, .int bt)]) (st' := []) rfl rfl rfl ?_
  refine vr_aload_n hF 0 rfl dX4_countsInBatch_0 rfl rfl ?_
  refine vr_get (v := .ref (a 4)) hF 0 3 (vr_in inX4) (vr_m flX4_33) rfl (by decide) rfl rfl rfl dX4_countsInBatch_1 rfl ?_
  refine vr_iload_n hF 1 rfl dX4_countsInBatch_4 rfl rfl ?_
  refine vr_callV_Ci (rest := []) (n0 := 1) hF (xc_Batches_of l g a r t w b k (by omega)) (vr_gV vr_hbc mlX4_132 imX1_of seX1_of iniX1 cdX1_of) rfl (by decide +kernel) rfl rfl rfl ⟨Nat.le_of_ble_eq_true rfl, Nat.le_of_ble_eq_true rfl⟩ ⟨Nat.zero_le _, Nat.zero_le _⟩ 4 rfl rfl rfl (Nat.le_of_ble_eq_true rfl) dX4_countsInBatch_5 rfl ?_
  refine vr_iload_n hF 2 rfl dX4_countsInBatch_8 rfl rfl ?_
  refine vr_icmp_ne (tgt := 27) hF dX4_countsInBatch_9 (by decide) rfl (fun c_9 => ?_) (fun c_9 => ?_)
  · skip
    refine vr_iconst (v := nI 0) hF dX4_countsInBatch_27 (by decide +kernel) rfl ?_
    exact vr_reti hret dX4_countsInBatch_28 (by simp [xv_inC, vr_bt, vr_bf, c_9])
  · skip
    refine vr_aload_n hF 0 rfl dX4_countsInBatch_12 rfl rfl ?_
    refine vr_get (v := .ref (a 2)) hF 0 1 (vr_in inX4) (vr_m flX4_19) rfl (by decide) rfl rfl rfl dX4_countsInBatch_13 rfl ?_
    refine vr_iload_n hF 1 rfl dX4_countsInBatch_16 rfl rfl ?_
    refine vr_callV_Ci (rest := []) (n0 := 1) hF (xc_Acts_counts l g a r t w b k (by omega)) (vr_gV vr_hbc mlX4_79 imX0_counts seX0_counts iniX0 cdX0_counts) rfl (by decide +kernel) rfl rfl rfl ⟨Nat.le_of_ble_eq_true rfl, Nat.le_of_ble_eq_true rfl⟩ ⟨Nat.zero_le _, Nat.zero_le _⟩ 2 rfl rfl rfl (Nat.le_of_ble_eq_true rfl) dX4_countsInBatch_17 rfl ?_
    refine vr_if_eqB (tgt := 27) hF dX4_countsInBatch_20 (by decide) rfl (fun c_20 => ?_) (fun c_20 => ?_)
    · skip
      refine vr_iconst (v := nI 0) hF dX4_countsInBatch_27 (by decide +kernel) rfl ?_
      exact vr_reti hret dX4_countsInBatch_28 (by simp [xv_inC, vr_bt, vr_bf, c_9, c_20])
    · skip
      refine vr_iconst (v := nI 1) hF dX4_countsInBatch_23 (by decide +kernel) rfl ?_
      refine vr_goto (tgt := 28) hF dX4_countsInBatch_24 (by decide) ?_
      exact vr_reti hret dX4_countsInBatch_28 (by simp [xv_inC, vr_bt, vr_bf, c_9, c_20])
def rm_xw_V_isLeanedOnFromOutside : Room := { frames := 3, cells := 0, slots := 0, locals := 66 }
set_option maxHeartbeats 4000000 in
set_option maxRecDepth 100000 in
theorem xw_V_isLeanedOnFromOutside_lp2 {p : Program} {l : Launch} {e : Env} {s : State} {m : MethodId} {args : Array Value} {below : List Frame} {meth : Method} {c : Code} {A : Nat → Prop} {Q : State → Prop} {g : vr_G} {a : Nat → Nat} (r : vx_R) (t : vx_A) (w : Nat → Int64) (b : vx_B) (bt : Int32) (h : vx_ok r t b)  (ans : Int32) (hF : vr_F p s m c cX4_isLeanedOnFromOutside 3 args wsX4_isLeanedOnFromOutside yX4_isLeanedOnFromOutside.cls g.1 (vr_tys g) A) (hret : vr_RtI p l e rm_xw_V_isLeanedOnFromOutside s m args below meth c cX4_isLeanedOnFromOutside g.1 A 3 0 0 Q (vx_w g a r t w b) ans) : ∀ (n : Nat) (j : Nat), (ta_n t + 1 < j + n) → (j ≤ ta_n t + 1) → (ans = vr_b (xv_leanF t w b bt n j)) → vr_W p l e rm_xw_V_isLeanedOnFromOutside s m args below meth c g.1 A 3 0 0 Q (vx_w g a r t w b) 2 [(0, .ref (a 0)), (1, .int bt), (2, .int (nI j))] [] := by
  obtain ⟨hrn, htn, hto, hbn⟩ := id h
  intro n
  induction n with
  | zero => intro j hj1 hj2 hans; exact absurd hj1 (by omega)
  | succ n ih =>
    intro j hj1 hj2 hans
    refine vr_iload_n hF 2 rfl dX4_isLeanedOnFromOutside_2 rfl rfl ?_
    refine vr_aload_n hF 0 rfl dX4_isLeanedOnFromOutside_3 rfl rfl ?_
    refine vr_get (v := .ref (a 2)) hF 0 1 (vr_in inX4) (vr_m flX4_19) rfl (by decide) rfl rfl rfl dX4_isLeanedOnFromOutside_4 rfl ?_
    refine vr_callV_Ci (rest := [.int (nI j)]) (n0 := 0) hF (xc_Acts_count l g a r t w b) (vr_gV vr_hbc mlX4_109 imX0_count seX0_count iniX0 cdX0_count) rfl (by decide +kernel) rfl rfl rfl ⟨Nat.le_of_ble_eq_true rfl, Nat.le_of_ble_eq_true rfl⟩ ⟨Nat.zero_le _, Nat.zero_le _⟩ 2 rfl rfl rfl (Nat.le_of_ble_eq_true rfl) dX4_isLeanedOnFromOutside_7 rfl ?_
    refine vr_icmp_gtN (tgt := 39) (x := j) (y := (ta_n t)) hF (by omega) (by omega) dX4_isLeanedOnFromOutside_10 (by decide) rfl (fun c_10 => ?_) (fun c_10 => ?_)
    · skip
      refine vr_iconst (v := nI 0) hF dX4_isLeanedOnFromOutside_39 (by decide +kernel) rfl ?_
      exact vr_reti hret dX4_isLeanedOnFromOutside_40 (by rw [hans, xv_leanF]; simp [vr_bt, vr_bf, c_10])
    · skip
      refine vr_aload_n hF 0 rfl dX4_isLeanedOnFromOutside_13 rfl rfl ?_
      refine vr_iload_n hF 2 rfl dX4_isLeanedOnFromOutside_14 rfl rfl ?_
      refine vr_iload_n hF 1 rfl dX4_isLeanedOnFromOutside_15 rfl rfl ?_
      refine vr_callV_Ci (rest := []) (n0 := 2) hF (xc_V_countsInBatch l g a r t w b j bt (by omega)) (vr_gV vr_hbc mlX4_113 imX4_countsInBatch seX4_countsInBatch iniX4 cdX4_countsInBatch) rfl (by decide +kernel) rfl rfl rfl ⟨Nat.le_of_ble_eq_true rfl, Nat.le_of_ble_eq_true rfl⟩ ⟨Nat.zero_le _, Nat.zero_le _⟩ 0 rfl rfl rfl (Nat.le_of_ble_eq_true rfl) dX4_isLeanedOnFromOutside_16 rfl ?_
      refine vr_if_eqB (tgt := 33) hF dX4_isLeanedOnFromOutside_19 (by decide) rfl (fun c_19 => ?_) (fun c_19 => ?_)
      · skip
        refine vr_iinc (lv' := [(2, .int (nI (j + 1))), (0, .ref (a 0)), (1, .int bt)]) hF (nI (j + 1)) 2 rfl dX4_isLeanedOnFromOutside_33 (nI_1 j) (by decide) rfl rfl ?_
        refine vr_goto (tgt := 2) hF dX4_isLeanedOnFromOutside_36 (by decide) ?_
        refine vr_sub [1, 2, 0] rfl ?_
        exact ih (j + 1) (by omega) (by omega) (by rw [hans, xv_leanF]; simp [c_10, c_19])
      · skip
        refine vr_aload_n hF 0 rfl dX4_isLeanedOnFromOutside_22 rfl rfl ?_
        refine vr_iload_n hF 2 rfl dX4_isLeanedOnFromOutside_23 rfl rfl ?_
        refine vr_iload_n hF 1 rfl dX4_isLeanedOnFromOutside_24 rfl rfl ?_
        refine vr_callV_Ci (rest := []) (n0 := 2) hF (xc_V_isLeanedOnOutside l g a r t w b j bt h (by omega)) (vr_gV vr_hbc mlX4_129 imX4_isLeanedOnOutside seX4_isLeanedOnOutside iniX4 cdX4_isLeanedOnOutside) rfl (by decide +kernel) rfl rfl rfl ⟨Nat.le_of_ble_eq_true rfl, Nat.le_of_ble_eq_true rfl⟩ ⟨Nat.zero_le _, Nat.zero_le _⟩ 0 rfl rfl rfl (Nat.le_of_ble_eq_true rfl) dX4_isLeanedOnFromOutside_25 rfl ?_
        refine vr_if_eqB (tgt := 33) hF dX4_isLeanedOnFromOutside_28 (by decide) rfl (fun c_28 => ?_) (fun c_28 => ?_)
        · skip
          refine vr_iinc (lv' := [(2, .int (nI (j + 1))), (0, .ref (a 0)), (1, .int bt)]) hF (nI (j + 1)) 2 rfl dX4_isLeanedOnFromOutside_33 (nI_1 j) (by decide) rfl rfl ?_
          refine vr_goto (tgt := 2) hF dX4_isLeanedOnFromOutside_36 (by decide) ?_
          refine vr_sub [1, 2, 0] rfl ?_
          exact ih (j + 1) (by omega) (by omega) (by rw [hans, xv_leanF]; simp [c_10, c_19, c_28])
        · skip
          refine vr_iconst (v := nI 1) hF dX4_isLeanedOnFromOutside_31 (by decide +kernel) rfl ?_
          exact vr_reti hret dX4_isLeanedOnFromOutside_32 (by rw [hans, xv_leanF]; simp [vr_bt, vr_bf, c_10, c_19, c_28])
set_option maxHeartbeats 4000000 in
set_option maxRecDepth 100000 in
theorem xc_V_isLeanedOnFromOutside (l : Launch) (g : vr_G) (a : Nat → Nat) (r : vx_R) (t : vx_A) (w : Nat → Int64) (b : vx_B) (bt : Int32) (h : vx_ok r t b) : vr_Ci l yX4_isLeanedOnFromOutside wsX4_isLeanedOnFromOutside rm_xw_V_isLeanedOnFromOutside g.1 (vr_tys g) [.ref (a 0), .int bt] (vx_w g a r t w b) (vx_w g a r t w b) (vr_b (xv_leanF t w b bt (ta_n t + 2) 1)) := by
  obtain ⟨hrn, htn, hto, hbn⟩ := id h
  refine vr_Ci_mk (cc := cX4_isLeanedOnFromOutside) (nL := 3) (ty := .boolean) (vr_nz _) (by decide) rfl (Nat.le_of_ble_eq_true rfl) ?_
  intro p e s m args below meth c A Q hF hret
  refine vr_to (ws' := (vx_w g a r t w b)) (lv' := [(0, .ref (a 0)), (1, .int bt)]) (st' := []) rfl rfl rfl ?_
  refine vr_iconst (v := nI 1) hF dX4_isLeanedOnFromOutside_0 (by decide +kernel) rfl ?_
  refine vr_istore_n (lv' := [(2, .int (nI 1)), (0, .ref (a 0)), (1, .int bt)]) hF dX4_isLeanedOnFromOutside_1 rfl (by decide) rfl rfl ?_
  refine vr_sub [1, 2, 0] rfl ?_
  exact xw_V_isLeanedOnFromOutside_lp2 r t w b bt h  _ hF hret (ta_n t + 2) 1 (by omega) (by omega) rfl
def rm_xw_V_record : Room := { frames := 1, cells := 0, slots := 0, locals := 21 }
set_option maxHeartbeats 4000000 in
set_option maxRecDepth 100000 in
theorem xc_V_record (l : Launch) (g : vr_G) (a : Nat → Nat) (r : vx_R) (t : vx_A) (w : Nat → Int64) (b : vx_B) (kd : Int32) (h : vx_ok r t b) : vr_Ci l yX4_record wsX4_record rm_xw_V_record g.1 (vr_tys g) [.ref (a 0), .int kd] (vx_w g a r t w b) (vx_w g a (if xv_rec r kd = true then xr_add r kd else r) t w b) (nI (if xv_rec r kd = true then rr_n r + 1 else 0)) := by
  refine vr_Ci_mk (cc := cX4_record) (nL := 2) (ty := .int) rfl (by decide) rfl (Nat.le_of_ble_eq_true rfl) ?_
  intro p e s m args below meth c A Q hF hret
  refine vr_to (ws' := (vx_w g a r t w b)) (lv' := [(0, .ref (a 0)), (1, .int kd)]) (st' := []) rfl rfl rfl ?_
  refine vr_iload_n hF 1 rfl dX4_record_0 rfl rfl ?_
  refine vr_if_lt (tgt := 9) hF dX4_record_1 (by decide) rfl (fun c_1 => ?_) (fun c_1 => ?_)
  · skip
    refine vr_iconst (v := nI 0) hF dX4_record_9 (by decide +kernel) rfl ?_
    exact vr_retiw hret dX4_record_10 (by simp [xv_rec, vr_bt, vr_bf, c_1]) (by simp [xv_rec, vr_bt, vr_bf, c_1])
  · skip
    refine vr_iload_n hF 1 rfl dX4_record_4 rfl rfl ?_
    refine vr_iconst (v := nI 4) hF dX4_record_5 (by decide +kernel) rfl ?_
    refine vr_icmp_lt (tgt := 11) hF dX4_record_6 (by decide) rfl (fun c_6 => ?_) (fun c_6 => ?_)
    · skip
      refine vr_aload_n hF 0 rfl dX4_record_11 rfl rfl ?_
      refine vr_get (v := .ref (a 1)) hF 0 0 (vr_in inX4) (vr_m flX4_10) rfl (by decide) rfl rfl rfl dX4_record_12 rfl ?_
      refine vr_iload_n hF 1 rfl dX4_record_15 rfl rfl ?_
      refine vr_callV_Ci (rest := []) (n0 := 1) hF (xc_Records_add l g a r t w b kd h) (vr_gV vr_hbc mlX4_37 imX3_add seX3_add iniX3 cdX3_add) rfl (by decide +kernel) rfl rfl rfl ⟨Nat.le_of_ble_eq_true rfl, Nat.le_of_ble_eq_true rfl⟩ ⟨Nat.zero_le _, Nat.zero_le _⟩ 1 rfl rfl rfl (Nat.le_of_ble_eq_true rfl) dX4_record_16 rfl ?_
      exact vr_retiw hret dX4_record_19 (by simp [xv_rec, vr_bt, vr_bf, c_1, c_6]) (by simp [xv_rec, vr_bt, vr_bf, c_1, c_6])
    · skip
      refine vr_iconst (v := nI 0) hF dX4_record_9 (by decide +kernel) rfl ?_
      exact vr_retiw hret dX4_record_10 (by simp [xv_rec, vr_bt, vr_bf, c_1, c_6]) (by simp [xv_rec, vr_bt, vr_bf, c_1, c_6])
def rm_xw_V_act : Room := { frames := 3, cells := 0, slots := 0, locals := 70 }
set_option maxHeartbeats 4000000 in
set_option maxRecDepth 100000 in
theorem xc_V_act (l : Launch) (g : vr_G) (a : Nat → Nat) (r : vx_R) (t : vx_A) (w : Nat → Int64) (b : vx_B) (rc : Int32) (fd : Int32) (v : Int64) (vd : Int64) (kn : Int64) (h : vx_ok r t b) : vr_Ci l yX4_act wsX4_act rm_xw_V_act g.1 (vr_tys g) [.ref (a 0), .int rc, .int fd, .long v, .long vd, .long kn] (vx_w g a r t w b) (vx_w g a r (xv_actT r t rc fd v vd kn) w b) (nI (xv_actN r t rc fd v vd kn)) := by
  obtain ⟨hrn, htn, hto, hbn⟩ := id h
  refine vr_Ci_mk (cc := cX4_act) (nL := 11) (ty := .int) rfl (by decide) rfl (Nat.le_of_ble_eq_true rfl) ?_
  intro p e s m args below meth c A Q hF hret
  refine vr_to (ws' := (vx_w g a r t w b)) (lv' := [(0, .ref (a 0)), (1, .int rc), (2, .int fd), (3, .long v), (5, .long vd), (7, .long kn)]) (st' := []) rfl rfl rfl ?_
  refine vr_aload_n hF 0 rfl dX4_act_0 rfl rfl ?_
  refine vr_iload_n hF 1 rfl dX4_act_1 rfl rfl ?_
  refine vr_iload_n hF 2 rfl dX4_act_2 rfl rfl ?_
  refine vr_callV_Ci (rest := []) (n0 := 2) hF (xc_V_hasField l g a r t w b rc fd) (vr_gV vr_hbc mlX4_41 imX4_hasField seX4_hasField iniX4 cdX4_hasField) rfl (by decide +kernel) rfl rfl rfl ⟨Nat.le_of_ble_eq_true rfl, Nat.le_of_ble_eq_true rfl⟩ ⟨Nat.zero_le _, Nat.zero_le _⟩ 0 rfl rfl rfl (Nat.le_of_ble_eq_true rfl) dX4_act_3 rfl ?_
  refine vr_if_eqB (tgt := 23) hF dX4_act_6 (by decide) rfl (fun c_6 => ?_) (fun c_6 => ?_)
  · skip
    refine vr_iconst (v := nI 0) hF dX4_act_23 (by decide +kernel) rfl ?_
    exact vr_retiw hret dX4_act_24 (by simp [xv_actN, xv_actT, xv_actOk, xv_fnd, vr_bt, vr_bf, c_6]) (by simp [xv_actN, xv_actT, xv_actOk, xv_fnd, vr_bt, vr_bf, c_6])
  · skip
    obtain ⟨k, hk1, hk2, rfl⟩ := vx_has_of (n := rr_n r) (by omega) (xv_hasF_has c_6)
    have hcl : (nI k).toNatClampNeg = k := nI_clamp (by omega)
    refine vr_lload_n hF 3 rfl dX4_act_9 rfl rfl ?_
    refine vr_lconst (v := 0) hF dX4_act_10 rfl rfl ?_
    refine vr_lcmp_lt (tgt := 23) hF dX4_act_11 dX4_act_12 (by decide) rfl (fun c_12 => ?_) (fun c_12 => ?_)
    · skip
      refine vr_iconst (v := nI 0) hF dX4_act_23 (by decide +kernel) rfl ?_
      exact vr_retiw hret dX4_act_24 (by simp [xv_actN, xv_actT, xv_actOk, xv_fnd, vr_bt, vr_bf, c_6, c_12, hcl]) (by simp [xv_actN, xv_actT, xv_actOk, xv_fnd, vr_bt, vr_bf, c_6, c_12, hcl])
    · skip
      refine vr_lload_n hF 3 rfl dX4_act_15 rfl rfl ?_
      refine vr_ldc2 (v := 2147483647) hF (vr_m kX4_45) dX4_act_16 rfl ?_
      refine vr_lcmp_le (tgt := 25) hF dX4_act_19 dX4_act_20 (by decide) rfl (fun c_20 => ?_) (fun c_20 => ?_)
      · skip
        refine vr_aload_n hF 0 rfl dX4_act_25 rfl rfl ?_
        refine vr_iload_n hF 1 rfl dX4_act_26 rfl rfl ?_
        refine vr_callV_Ci (rest := []) (n0 := 1) hF (xc_V_isLocked l g a r t w b k h (by omega)) (vr_gV vr_hbc mlX4_47 imX4_isLocked seX4_isLocked iniX4 cdX4_isLocked) rfl (by decide +kernel) rfl rfl rfl ⟨Nat.le_of_ble_eq_true rfl, Nat.le_of_ble_eq_true rfl⟩ ⟨Nat.zero_le _, Nat.zero_le _⟩ 0 rfl rfl rfl (Nat.le_of_ble_eq_true rfl) dX4_act_27 rfl ?_
        refine vr_if_neB (tgt := 43) hF dX4_act_30 (by decide) rfl (fun c_30 => ?_) (fun c_30 => ?_)
        · skip
          refine vr_iconst (v := nI 0) hF dX4_act_43 (by decide +kernel) rfl ?_
          exact vr_retiw hret dX4_act_44 (by simp [xv_actN, xv_actT, xv_actOk, xv_fnd, vr_bt, vr_bf, c_6, c_12, c_20, c_30, hcl]) (by simp [xv_actN, xv_actT, xv_actOk, xv_fnd, vr_bt, vr_bf, c_6, c_12, c_20, c_30, hcl])
        · skip
          refine vr_aload_n hF 0 rfl dX4_act_33 rfl rfl ?_
          refine vr_iload_n hF 1 rfl dX4_act_34 rfl rfl ?_
          refine vr_iload_n hF 2 rfl dX4_act_35 rfl rfl ?_
          refine vr_lload_n hF 3 rfl dX4_act_36 rfl rfl ?_
          refine vr_callV_Ci (rest := []) (n0 := 3) hF (xc_V_isRefusedDeletion l g a r t w b k fd v (by omega)) (vr_gV vr_hbc mlX4_51 imX4_isRefusedDeletion seX4_isRefusedDeletion iniX4 cdX4_isRefusedDeletion) rfl (by decide +kernel) rfl rfl rfl ⟨Nat.le_of_ble_eq_true rfl, Nat.le_of_ble_eq_true rfl⟩ ⟨Nat.zero_le _, Nat.zero_le _⟩ 0 rfl rfl rfl (Nat.le_of_ble_eq_true rfl) dX4_act_37 rfl ?_
          refine vr_if_eqB (tgt := 45) hF dX4_act_40 (by decide) rfl (fun c_40 => ?_) (fun c_40 => ?_)
          · skip
            refine vr_lload_n hF 3 rfl dX4_act_45 rfl rfl ?_
            refine vr_l2i (v := (v).toInt32) hF dX4_act_46 rfl rfl ?_
            refine vr_istore (lv' := [(9, .int ((v).toInt32)), (0, .ref (a 0)), (1, .int (nI k)), (2, .int fd), (3, .long v), (5, .long vd), (7, .long kn)]) hF dX4_act_47 (by decide) rfl rfl ?_
            refine vr_aload_n hF 1 rfl dX4_act_49 rfl rfl ?_
            refine vr_get (v := .ref (a 2)) hF 0 1 (vr_in inX4) (vr_m flX4_19) rfl (by decide) rfl rfl rfl dX4_act_50 rfl ?_
            refine vr_iload_n hF 2 rfl dX4_act_53 rfl rfl ?_
            refine vr_iload_n hF 3 rfl dX4_act_54 rfl rfl ?_
            refine vr_iload hF 0 rfl dX4_act_55 rfl ?_
            refine vr_lload hF 5 rfl dX4_act_57 rfl ?_
            refine vr_lload hF 6 rfl dX4_act_59 rfl ?_
            refine vr_callV_Ci (rest := []) (n0 := 5) hF (xc_Acts_findCounting l g a r t w b (nI k) fd ((v).toInt32) vd kn h) (vr_gV vr_hbc mlX4_55 imX0_findCounting seX0_findCounting iniX0 cdX0_findCounting) rfl (by decide +kernel) rfl rfl rfl ⟨Nat.le_of_ble_eq_true rfl, Nat.le_of_ble_eq_true rfl⟩ ⟨Nat.zero_le _, Nat.zero_le _⟩ 2 rfl rfl rfl (Nat.le_of_ble_eq_true rfl) dX4_act_61 rfl ?_
            refine vr_istore (lv' := [(10, .int (nI (xa_find t (nI k) fd ((v).toInt32) vd kn (ta_n t + 2) 1))), (9, .int ((v).toInt32)), (0, .ref (a 0)), (1, .int (nI k)), (2, .int fd), (3, .long v), (5, .long vd), (7, .long kn)]) hF dX4_act_64 (by decide) rfl rfl ?_
            refine vr_iload hF 0 rfl dX4_act_66 rfl ?_
            have hfl := xa_find_le t (nI k) fd v.toInt32 vd kn (ta_n t + 2) 1
            refine vr_if_eqN (tgt := 74) (x := (xa_find t (nI k) fd ((v).toInt32) vd kn (ta_n t + 2) 1)) hF (by omega) dX4_act_68 (by decide) rfl (fun c_68 => ?_) (fun c_68 => ?_)
            · skip
              refine vr_aload_n hF 2 rfl dX4_act_74 rfl rfl ?_
              refine vr_get (v := .ref (a 2)) hF 0 1 (vr_in inX4) (vr_m flX4_19) rfl (by decide) rfl rfl rfl dX4_act_75 rfl ?_
              refine vr_iload_n hF 3 rfl dX4_act_78 rfl rfl ?_
              refine vr_iload_n hF 4 rfl dX4_act_79 rfl rfl ?_
              refine vr_iload hF 1 rfl dX4_act_80 rfl ?_
              refine vr_lload hF 6 rfl dX4_act_82 rfl ?_
              refine vr_lload hF 7 rfl dX4_act_84 rfl ?_
              refine vr_callV_Ci (rest := []) (n0 := 5) hF (xc_Acts_add l g a r t w b (nI k) fd ((v).toInt32) vd kn h) (vr_gV vr_hbc mlX4_59 imX0_add seX0_add iniX0 cdX0_add) rfl (by decide +kernel) rfl rfl rfl ⟨Nat.le_of_ble_eq_true rfl, Nat.le_of_ble_eq_true rfl⟩ ⟨Nat.zero_le _, Nat.zero_le _⟩ 2 rfl rfl rfl (Nat.le_of_ble_eq_true rfl) dX4_act_86 rfl ?_
              exact vr_retiw hret dX4_act_89 (by simp [xv_actN, xv_actT, xv_actOk, xv_fnd, vr_bt, vr_bf, c_6, c_12, c_20, c_30, c_40, c_68, hcl]) (by simp [xv_actN, xv_actT, xv_actOk, xv_fnd, vr_bt, vr_bf, c_6, c_12, c_20, c_30, c_40, c_68, hcl])
            · skip
              refine vr_iload hF 0 rfl dX4_act_71 rfl ?_
              exact vr_retiw hret dX4_act_73 (by simp [xv_actN, xv_actT, xv_actOk, xv_fnd, vr_bt, vr_bf, c_6, c_12, c_20, c_30, c_40, c_68, hcl]) (by simp [xv_actN, xv_actT, xv_actOk, xv_fnd, vr_bt, vr_bf, c_6, c_12, c_20, c_30, c_40, c_68, hcl])
          · skip
            refine vr_iconst (v := nI 0) hF dX4_act_43 (by decide +kernel) rfl ?_
            exact vr_retiw hret dX4_act_44 (by simp [xv_actN, xv_actT, xv_actOk, xv_fnd, vr_bt, vr_bf, c_6, c_12, c_20, c_30, c_40, hcl]) (by simp [xv_actN, xv_actT, xv_actOk, xv_fnd, vr_bt, vr_bf, c_6, c_12, c_20, c_30, c_40, hcl])
      · skip
        refine vr_iconst (v := nI 0) hF dX4_act_23 (by decide +kernel) rfl ?_
        exact vr_retiw hret dX4_act_24 (by simp [xv_actN, xv_actT, xv_actOk, xv_fnd, vr_bt, vr_bf, c_6, c_12, c_20, hcl]) (by simp [xv_actN, xv_actT, xv_actOk, xv_fnd, vr_bt, vr_bf, c_6, c_12, c_20, hcl])
def rm_xw_V_at : Room := { frames := 2, cells := 0, slots := 0, locals := 49 }
set_option maxHeartbeats 4000000 in
set_option maxRecDepth 100000 in
theorem xc_V_at (l : Launch) (g : vr_G) (a : Nat → Nat) (r : vx_R) (t : vx_A) (w : Nat → Int64) (b : vx_B) (rc : Int32) (fd : Int32) (mo : Int64) (h : vx_ok r t b) : vr_Ci l yX4_at wsX4_at rm_xw_V_at g.1 (vr_tys g) [.ref (a 0), .int rc, .int fd, .long mo] (vx_w g a r t w b) (vx_w g a r t w b) (xv_at r t rc fd mo) := by
  obtain ⟨hrn, htn, hto, hbn⟩ := id h
  refine vr_Ci_mk (cc := cX4_at) (nL := 6) (ty := .int) rfl (by decide) rfl (Nat.le_of_ble_eq_true rfl) ?_
  intro p e s m args below meth c A Q hF hret
  refine vr_to (ws' := (vx_w g a r t w b)) (lv' := [(0, .ref (a 0)), (1, .int rc), (2, .int fd), (3, .long mo)]) (st' := []) rfl rfl rfl ?_
  refine vr_aload_n hF 0 rfl dX4_at_0 rfl rfl ?_
  refine vr_iload_n hF 1 rfl dX4_at_1 rfl rfl ?_
  refine vr_iload_n hF 2 rfl dX4_at_2 rfl rfl ?_
  refine vr_callV_Ci (rest := []) (n0 := 2) hF (xc_V_hasField l g a r t w b rc fd) (vr_gV vr_hbc mlX4_41 imX4_hasField seX4_hasField iniX4 cdX4_hasField) rfl (by decide +kernel) rfl rfl rfl ⟨Nat.le_of_ble_eq_true rfl, Nat.le_of_ble_eq_true rfl⟩ ⟨Nat.zero_le _, Nat.zero_le _⟩ 0 rfl rfl rfl (Nat.le_of_ble_eq_true rfl) dX4_at_3 rfl ?_
  refine vr_if_neB (tgt := 11) hF dX4_at_6 (by decide) rfl (fun c_6 => ?_) (fun c_6 => ?_)
  · skip
    refine vr_aload_n hF 0 rfl dX4_at_11 rfl rfl ?_
    refine vr_get (v := .ref (a 2)) hF 0 1 (vr_in inX4) (vr_m flX4_19) rfl (by decide) rfl rfl rfl dX4_at_12 rfl ?_
    refine vr_iload_n hF 1 rfl dX4_at_15 rfl rfl ?_
    refine vr_iload_n hF 2 rfl dX4_at_16 rfl rfl ?_
    refine vr_lload_n hF 3 rfl dX4_at_17 rfl rfl ?_
    refine vr_callV_Ci (rest := []) (n0 := 3) hF (xc_Acts_lastCounting l g a r t w b rc fd mo h) (vr_gV vr_hbc mlX4_61 imX0_lastCounting seX0_lastCounting iniX0 cdX0_lastCounting) rfl (by decide +kernel) rfl rfl rfl ⟨Nat.le_of_ble_eq_true rfl, Nat.le_of_ble_eq_true rfl⟩ ⟨Nat.zero_le _, Nat.zero_le _⟩ 2 rfl rfl rfl (Nat.le_of_ble_eq_true rfl) dX4_at_18 rfl ?_
    refine vr_istore (lv' := [(5, .int (nI (xa_last t rc fd mo (ta_n t)))), (0, .ref (a 0)), (1, .int rc), (2, .int fd), (3, .long mo)]) hF dX4_at_21 (by decide) rfl rfl ?_
    refine vr_iload hF 0 rfl dX4_at_23 rfl ?_
    have hfl := xa_last_le hto rc fd mo (ta_n t)
    refine vr_if_neN (tgt := 32) (x := (xa_last t rc fd mo (ta_n t))) hF (by omega) dX4_at_25 (by decide) rfl (fun c_25 => ?_) (fun c_25 => ?_)
    · skip
      refine vr_aload_n hF 1 rfl dX4_at_32 rfl rfl ?_
      refine vr_get (v := .ref (a 2)) hF 0 1 (vr_in inX4) (vr_m flX4_19) rfl (by decide) rfl rfl rfl dX4_at_33 rfl ?_
      refine vr_iload hF 0 rfl dX4_at_36 rfl ?_
      refine vr_callV_Ci (rest := []) (n0 := 1) hF (xc_Acts_value l g a r t w b (xa_last t rc fd mo (ta_n t)) (by omega)) (vr_gV vr_hbc mlX4_65 imX0_value seX0_value iniX0 cdX0_value) rfl (by decide +kernel) rfl rfl rfl ⟨Nat.le_of_ble_eq_true rfl, Nat.le_of_ble_eq_true rfl⟩ ⟨Nat.zero_le _, Nat.zero_le _⟩ 2 rfl rfl rfl (Nat.le_of_ble_eq_true rfl) dX4_at_38 rfl ?_
      exact vr_reti hret dX4_at_41 (by simp [xv_at, vr_bt, vr_bf, c_6, c_25])
    · skip
      refine vr_iconst (v := (-1)) hF dX4_at_28 (by decide +kernel) rfl ?_
      refine vr_goto (tgt := 41) hF dX4_at_29 (by decide) ?_
      exact vr_reti hret dX4_at_41 (by simp [xv_at, vr_bt, vr_bf, c_6, c_25])
  · skip
    refine vr_iconst (v := (-1)) hF dX4_at_9 (by decide +kernel) rfl ?_
    exact vr_reti hret dX4_at_10 (by simp [xv_at, vr_bt, vr_bf, c_6])
def rm_xw_V_stale : Room := { frames := 2, cells := 0, slots := 0, locals := 49 }
set_option maxHeartbeats 4000000 in
set_option maxRecDepth 100000 in
theorem xc_V_stale (l : Launch) (g : vr_G) (a : Nat → Nat) (r : vx_R) (t : vx_A) (w : Nat → Int64) (b : vx_B) (rc : Int32) (mo : Int64) (fd : Int32) (h : vx_ok r t b) : vr_Ci l yX4_stale wsX4_stale rm_xw_V_stale g.1 (vr_tys g) [.ref (a 0), .int rc, .long mo, .int fd] (vx_w g a r t w b) (vx_w g a r t w b) (xv_stale r t rc mo fd) := by
  obtain ⟨hrn, htn, hto, hbn⟩ := id h
  refine vr_Ci_mk (cc := cX4_stale) (nL := 7) (ty := .int) rfl (by decide) rfl (Nat.le_of_ble_eq_true rfl) ?_
  intro p e s m args below meth c A Q hF hret
  refine vr_to (ws' := (vx_w g a r t w b)) (lv' := [(0, .ref (a 0)), (1, .int rc), (2, .long mo), (4, .int fd)]) (st' := []) rfl rfl rfl ?_
  refine vr_aload_n hF 0 rfl dX4_stale_0 rfl rfl ?_
  refine vr_iload_n hF 1 rfl dX4_stale_1 rfl rfl ?_
  refine vr_iload hF 3 rfl dX4_stale_2 rfl ?_
  refine vr_callV_Ci (rest := []) (n0 := 2) hF (xc_V_hasField l g a r t w b rc fd) (vr_gV vr_hbc mlX4_41 imX4_hasField seX4_hasField iniX4 cdX4_hasField) rfl (by decide +kernel) rfl rfl rfl ⟨Nat.le_of_ble_eq_true rfl, Nat.le_of_ble_eq_true rfl⟩ ⟨Nat.zero_le _, Nat.zero_le _⟩ 0 rfl rfl rfl (Nat.le_of_ble_eq_true rfl) dX4_stale_4 rfl ?_
  refine vr_if_neB (tgt := 12) hF dX4_stale_7 (by decide) rfl (fun c_7 => ?_) (fun c_7 => ?_)
  · skip
    refine vr_aload_n hF 0 rfl dX4_stale_12 rfl rfl ?_
    refine vr_get (v := .ref (a 2)) hF 0 1 (vr_in inX4) (vr_m flX4_19) rfl (by decide) rfl rfl rfl dX4_stale_13 rfl ?_
    refine vr_iload_n hF 1 rfl dX4_stale_16 rfl rfl ?_
    refine vr_iload hF 3 rfl dX4_stale_17 rfl ?_
    refine vr_aload_n hF 0 rfl dX4_stale_19 rfl rfl ?_
    refine vr_get (v := .ref (a 2)) hF 0 1 (vr_in inX4) (vr_m flX4_19) rfl (by decide) rfl rfl rfl dX4_stale_20 rfl ?_
    refine vr_callV_Cl (rest := [.int fd, .int rc, .ref (a 2)]) (n0 := 0) hF (xc_Acts_now l g a r t w b h) (vr_gV vr_hbc mlX4_68 imX0_now seX0_now iniX0 cdX0_now) rfl (by decide +kernel) rfl rfl rfl ⟨Nat.le_of_ble_eq_true rfl, Nat.le_of_ble_eq_true rfl⟩ ⟨Nat.zero_le _, Nat.zero_le _⟩ 2 rfl rfl rfl (Nat.le_of_ble_eq_true rfl) dX4_stale_23 rfl ?_
    refine vr_callV_Ci (rest := []) (n0 := 3) hF (xc_Acts_lastCounting l g a r t w b rc fd (xa_now t) h) (vr_gV vr_hbc mlX4_61 imX0_lastCounting seX0_lastCounting iniX0 cdX0_lastCounting) rfl (by decide +kernel) rfl rfl rfl ⟨Nat.le_of_ble_eq_true rfl, Nat.le_of_ble_eq_true rfl⟩ ⟨Nat.zero_le _, Nat.zero_le _⟩ 2 rfl rfl rfl (Nat.le_of_ble_eq_true rfl) dX4_stale_26 rfl ?_
    refine vr_istore (lv' := [(5, .int (nI (xa_last t rc fd (xa_now t) (ta_n t)))), (0, .ref (a 0)), (1, .int rc), (2, .long mo), (4, .int fd)]) hF dX4_stale_29 (by decide) rfl rfl ?_
    refine vr_iload hF 0 rfl dX4_stale_31 rfl ?_
    have hfl := xa_last_le hto rc fd (xa_now t) (ta_n t)
    refine vr_if_eqN (tgt := 50) (x := (xa_last t rc fd (xa_now t) (ta_n t))) hF (by omega) dX4_stale_33 (by decide) rfl (fun c_33 => ?_) (fun c_33 => ?_)
    · skip
      refine vr_iconst (v := nI 1) hF dX4_stale_50 (by decide +kernel) rfl ?_
      exact vr_reti hret dX4_stale_51 (by simp [xv_stale, vr_n0, vr_n1, vr_n2, vr_bt, vr_bf, c_7, c_33])
    · skip
      refine vr_aload_n hF 1 rfl dX4_stale_36 rfl rfl ?_
      refine vr_get (v := .ref (a 2)) hF 0 1 (vr_in inX4) (vr_m flX4_19) rfl (by decide) rfl rfl rfl dX4_stale_37 rfl ?_
      refine vr_iload hF 0 rfl dX4_stale_40 rfl ?_
      refine vr_callV_Cl (rest := []) (n0 := 1) hF (xc_Acts_known l g a r t w b (xa_last t rc fd (xa_now t) (ta_n t)) (by omega)) (vr_gV vr_hbc mlX4_72 imX0_known seX0_known iniX0 cdX0_known) rfl (by decide +kernel) rfl rfl rfl ⟨Nat.le_of_ble_eq_true rfl, Nat.le_of_ble_eq_true rfl⟩ ⟨Nat.zero_le _, Nat.zero_le _⟩ 2 rfl rfl rfl (Nat.le_of_ble_eq_true rfl) dX4_stale_42 rfl ?_
      refine vr_lload_n hF 3 rfl dX4_stale_45 rfl rfl ?_
      refine vr_lcmp_gt (tgt := 52) hF dX4_stale_46 dX4_stale_47 (by decide) rfl (fun c_47 => ?_) (fun c_47 => ?_)
      · skip
        refine vr_aload_n hF 1 rfl dX4_stale_52 rfl rfl ?_
        refine vr_get (v := .ref (a 2)) hF 0 1 (vr_in inX4) (vr_m flX4_19) rfl (by decide) rfl rfl rfl dX4_stale_53 rfl ?_
        refine vr_iload_n hF 2 rfl dX4_stale_56 rfl rfl ?_
        refine vr_iload hF 4 rfl dX4_stale_57 rfl ?_
        refine vr_lload_n hF 3 rfl dX4_stale_59 rfl rfl ?_
        refine vr_callV_Ci (rest := []) (n0 := 3) hF (xc_Acts_lastCounting l g a r t w b rc fd mo h) (vr_gV vr_hbc mlX4_61 imX0_lastCounting seX0_lastCounting iniX0 cdX0_lastCounting) rfl (by decide +kernel) rfl rfl rfl ⟨Nat.le_of_ble_eq_true rfl, Nat.le_of_ble_eq_true rfl⟩ ⟨Nat.zero_le _, Nat.zero_le _⟩ 2 rfl rfl rfl (Nat.le_of_ble_eq_true rfl) dX4_stale_60 rfl ?_
        refine vr_istore (lv' := [(6, .int (nI (xa_last t rc fd mo (ta_n t)))), (5, .int (nI (xa_last t rc fd (xa_now t) (ta_n t)))), (0, .ref (a 0)), (1, .int rc), (2, .long mo), (4, .int fd)]) hF dX4_stale_63 (by decide) rfl rfl ?_
        refine vr_iload hF 0 rfl dX4_stale_65 rfl ?_
        have hfm := xa_last_le hto rc fd mo (ta_n t)
        refine vr_if_eqN (tgt := 95) (x := (xa_last t rc fd mo (ta_n t))) hF (by omega) dX4_stale_67 (by decide) rfl (fun c_67 => ?_) (fun c_67 => ?_)
        · skip
          refine vr_iconst (v := nI 0) hF dX4_stale_95 (by decide +kernel) rfl ?_
          exact vr_reti hret dX4_stale_96 (by simp [xv_stale, vr_n0, vr_n1, vr_n2, vr_bt, vr_bf, c_7, c_33, c_47, c_67])
        · skip
          refine vr_aload_n hF 2 rfl dX4_stale_70 rfl rfl ?_
          refine vr_get (v := .ref (a 2)) hF 0 1 (vr_in inX4) (vr_m flX4_19) rfl (by decide) rfl rfl rfl dX4_stale_71 rfl ?_
          refine vr_iload hF 0 rfl dX4_stale_74 rfl ?_
          refine vr_callV_Ci (rest := []) (n0 := 1) hF (xc_Acts_value l g a r t w b (xa_last t rc fd mo (ta_n t)) (by omega)) (vr_gV vr_hbc mlX4_65 imX0_value seX0_value iniX0 cdX0_value) rfl (by decide +kernel) rfl rfl rfl ⟨Nat.le_of_ble_eq_true rfl, Nat.le_of_ble_eq_true rfl⟩ ⟨Nat.zero_le _, Nat.zero_le _⟩ 2 rfl rfl rfl (Nat.le_of_ble_eq_true rfl) dX4_stale_76 rfl ?_
          refine vr_aload_n hF 2 rfl dX4_stale_79 rfl rfl ?_
          refine vr_get (v := .ref (a 2)) hF 0 1 (vr_in inX4) (vr_m flX4_19) rfl (by decide) rfl rfl rfl dX4_stale_80 rfl ?_
          refine vr_iload hF 1 rfl dX4_stale_83 rfl ?_
          refine vr_callV_Ci (rest := [.int (ta_v t (xa_last t rc fd mo (ta_n t)))]) (n0 := 1) hF (xc_Acts_value l g a r t w b (xa_last t rc fd (xa_now t) (ta_n t)) (by omega)) (vr_gV vr_hbc mlX4_65 imX0_value seX0_value iniX0 cdX0_value) rfl (by decide +kernel) rfl rfl rfl ⟨Nat.le_of_ble_eq_true rfl, Nat.le_of_ble_eq_true rfl⟩ ⟨Nat.zero_le _, Nat.zero_le _⟩ 2 rfl rfl rfl (Nat.le_of_ble_eq_true rfl) dX4_stale_85 rfl ?_
          refine vr_icmp_ne (tgt := 95) hF dX4_stale_88 (by decide) rfl (fun c_88 => ?_) (fun c_88 => ?_)
          · skip
            refine vr_iconst (v := nI 0) hF dX4_stale_95 (by decide +kernel) rfl ?_
            exact vr_reti hret dX4_stale_96 (by simp [xv_stale, vr_n0, vr_n1, vr_n2, vr_bt, vr_bf, c_7, c_33, c_47, c_67, c_88])
          · skip
            refine vr_iconst (v := nI 2) hF dX4_stale_91 (by decide +kernel) rfl ?_
            refine vr_goto (tgt := 96) hF dX4_stale_92 (by decide) ?_
            exact vr_reti hret dX4_stale_96 (by simp [xv_stale, vr_n0, vr_n1, vr_n2, vr_bt, vr_bf, c_7, c_33, c_47, c_67, c_88])
      · skip
        refine vr_iconst (v := nI 1) hF dX4_stale_50 (by decide +kernel) rfl ?_
        exact vr_reti hret dX4_stale_51 (by simp [xv_stale, vr_n0, vr_n1, vr_n2, vr_bt, vr_bf, c_7, c_33, c_47])
  · skip
    refine vr_iconst (v := (-1)) hF dX4_stale_10 (by decide +kernel) rfl ?_
    exact vr_reti hret dX4_stale_11 (by simp [xv_stale, vr_n0, vr_n1, vr_n2, vr_bt, vr_bf, c_7])
def rm_xw_V_undo : Room := { frames := 3, cells := 0, slots := 0, locals := 65 }
set_option maxHeartbeats 4000000 in
set_option maxRecDepth 100000 in
theorem xc_V_undo (l : Launch) (g : vr_G) (a : Nat → Nat) (r : vx_R) (t : vx_A) (w : Nat → Int64) (b : vx_B) (i : Int32) (h : vx_ok r t b) : vr_Ci l yX4_undo wsX4_undo rm_xw_V_undo g.1 (vr_tys g) [.ref (a 0), .int i] (vx_w g a r t w b) (vx_w g a r (if xv_undo t w i = true then ta_setC t (vr_ub (ta_c t) i.toNatClampNeg false) else t) w b) (vr_b (xv_undo t w i)) := by
  obtain ⟨hrn, htn, hto, hbn⟩ := id h
  refine vr_Ci_mk (cc := cX4_undo) (nL := 2) (ty := .int) rfl (by decide) rfl (Nat.le_of_ble_eq_true rfl) ?_
  intro p e s m args below meth c A Q hF hret
  refine vr_to (ws' := (vx_w g a r t w b)) (lv' := [(0, .ref (a 0)), (1, .int i)]) (st' := []) rfl rfl rfl ?_
  refine vr_aload_n hF 0 rfl dX4_undo_0 rfl rfl ?_
  refine vr_get (v := .ref (a 2)) hF 0 1 (vr_in inX4) (vr_m flX4_19) rfl (by decide) rfl rfl rfl dX4_undo_1 rfl ?_
  refine vr_iload_n hF 1 rfl dX4_undo_4 rfl rfl ?_
  refine vr_callV_Ci (rest := []) (n0 := 1) hF (xc_Acts_has l g a r t w b i) (vr_gV vr_hbc mlX4_76 imX0_has seX0_has iniX0 cdX0_has) rfl (by decide +kernel) rfl rfl rfl ⟨Nat.le_of_ble_eq_true rfl, Nat.le_of_ble_eq_true rfl⟩ ⟨Nat.zero_le _, Nat.zero_le _⟩ 2 rfl rfl rfl (Nat.le_of_ble_eq_true rfl) dX4_undo_5 rfl ?_
  refine vr_if_eqB (tgt := 30) hF dX4_undo_8 (by decide) rfl (fun c_8 => ?_) (fun c_8 => ?_)
  · skip
    refine vr_iconst (v := nI 0) hF dX4_undo_30 (by decide +kernel) rfl ?_
    exact vr_retiw hret dX4_undo_31 (by simp [xv_undo, vr_bt, vr_bf, c_8]) (by simp [xv_undo, vr_bt, vr_bf, c_8])
  · skip
    obtain ⟨k, hk1, hk2, rfl⟩ := vx_has_of (n := ta_n t) (by omega) c_8
    have hclk : (nI k).toNatClampNeg = k := nI_clamp (by omega)
    refine vr_aload_n hF 0 rfl dX4_undo_11 rfl rfl ?_
    refine vr_get (v := .ref (a 2)) hF 0 1 (vr_in inX4) (vr_m flX4_19) rfl (by decide) rfl rfl rfl dX4_undo_12 rfl ?_
    refine vr_iload_n hF 1 rfl dX4_undo_15 rfl rfl ?_
    refine vr_callV_Ci (rest := []) (n0 := 1) hF (xc_Acts_counts l g a r t w b k (by omega)) (vr_gV vr_hbc mlX4_79 imX0_counts seX0_counts iniX0 cdX0_counts) rfl (by decide +kernel) rfl rfl rfl ⟨Nat.le_of_ble_eq_true rfl, Nat.le_of_ble_eq_true rfl⟩ ⟨Nat.zero_le _, Nat.zero_le _⟩ 2 rfl rfl rfl (Nat.le_of_ble_eq_true rfl) dX4_undo_16 rfl ?_
    refine vr_if_eqB (tgt := 30) hF dX4_undo_19 (by decide) rfl (fun c_19 => ?_) (fun c_19 => ?_)
    · skip
      refine vr_iconst (v := nI 0) hF dX4_undo_30 (by decide +kernel) rfl ?_
      exact vr_retiw hret dX4_undo_31 (by simp [xv_undo, vr_bt, vr_bf, c_8, c_19, hclk]) (by simp [xv_undo, vr_bt, vr_bf, c_8, c_19, hclk])
    · skip
      refine vr_aload_n hF 0 rfl dX4_undo_22 rfl rfl ?_
      refine vr_iload_n hF 1 rfl dX4_undo_23 rfl rfl ?_
      refine vr_callV_Ci (rest := []) (n0 := 1) hF (xc_V_isLeanedOn l g a r t w b k h (by omega)) (vr_gV vr_hbc mlX4_82 imX4_isLeanedOn seX4_isLeanedOn iniX4 cdX4_isLeanedOn) rfl (by decide +kernel) rfl rfl rfl ⟨Nat.le_of_ble_eq_true rfl, Nat.le_of_ble_eq_true rfl⟩ ⟨Nat.zero_le _, Nat.zero_le _⟩ 0 rfl rfl rfl (Nat.le_of_ble_eq_true rfl) dX4_undo_24 rfl ?_
      refine vr_if_eqB (tgt := 32) hF dX4_undo_27 (by decide) rfl (fun c_27 => ?_) (fun c_27 => ?_)
      · skip
        refine vr_aload_n hF 0 rfl dX4_undo_32 rfl rfl ?_
        refine vr_get (v := .ref (a 2)) hF 0 1 (vr_in inX4) (vr_m flX4_19) rfl (by decide) rfl rfl rfl dX4_undo_33 rfl ?_
        refine vr_iload_n hF 1 rfl dX4_undo_36 rfl rfl ?_
        refine vr_callV_Cv (rest := []) (n0 := 1) hF (xc_Acts_setUndone l g a r t w b k (by omega)) (vr_gV vr_hbc mlX4_85 imX0_setUndone seX0_setUndone iniX0 cdX0_setUndone) rfl (by decide +kernel) rfl rfl rfl ⟨Nat.le_of_ble_eq_true rfl, Nat.le_of_ble_eq_true rfl⟩ ⟨Nat.zero_le _, Nat.zero_le _⟩ 2 rfl rfl rfl (Nat.le_of_ble_eq_true rfl) dX4_undo_37 rfl ?_
        refine vr_iconst (v := nI 1) hF dX4_undo_40 (by decide +kernel) rfl ?_
        exact vr_retiw hret dX4_undo_41 (by simp [xv_undo, vr_bt, vr_bf, c_8, c_19, c_27, hclk]) (by simp [xv_undo, vr_bt, vr_bf, c_8, c_19, c_27, hclk])
      · skip
        refine vr_iconst (v := nI 0) hF dX4_undo_30 (by decide +kernel) rfl ?_
        exact vr_retiw hret dX4_undo_31 (by simp [xv_undo, vr_bt, vr_bf, c_8, c_19, c_27, hclk]) (by simp [xv_undo, vr_bt, vr_bf, c_8, c_19, c_27, hclk])
def rm_xw_V_lean : Room := { frames := 2, cells := 0, slots := 0, locals := 43 }
set_option maxHeartbeats 4000000 in
set_option maxRecDepth 100000 in
theorem xc_V_lean (l : Launch) (g : vr_G) (a : Nat → Nat) (r : vx_R) (t : vx_A) (w : Nat → Int64) (b : vx_B) (i : Int32) (o : Int32) (h : vx_ok r t b) : vr_Ci l yX4_lean wsX4_lean rm_xw_V_lean g.1 (vr_tys g) [.ref (a 0), .int i, .int o] (vx_w g a r t w b) (vx_w g a r t (if xv_lean t w i o = true then xl_add w i.toNatClampNeg o.toNatClampNeg else w) b) (vr_b (xv_lean t w i o)) := by
  obtain ⟨hrn, htn, hto, hbn⟩ := id h
  refine vr_Ci_mk (cc := cX4_lean) (nL := 3) (ty := .int) rfl (by decide) rfl (Nat.le_of_ble_eq_true rfl) ?_
  intro p e s m args below meth c A Q hF hret
  refine vr_to (ws' := (vx_w g a r t w b)) (lv' := [(0, .ref (a 0)), (1, .int i), (2, .int o)]) (st' := []) rfl rfl rfl ?_
  refine vr_aload_n hF 0 rfl dX4_lean_0 rfl rfl ?_
  refine vr_get (v := .ref (a 2)) hF 0 1 (vr_in inX4) (vr_m flX4_19) rfl (by decide) rfl rfl rfl dX4_lean_1 rfl ?_
  refine vr_iload_n hF 1 rfl dX4_lean_4 rfl rfl ?_
  refine vr_callV_Ci (rest := []) (n0 := 1) hF (xc_Acts_has l g a r t w b i) (vr_gV vr_hbc mlX4_76 imX0_has seX0_has iniX0 cdX0_has) rfl (by decide +kernel) rfl rfl rfl ⟨Nat.le_of_ble_eq_true rfl, Nat.le_of_ble_eq_true rfl⟩ ⟨Nat.zero_le _, Nat.zero_le _⟩ 2 rfl rfl rfl (Nat.le_of_ble_eq_true rfl) dX4_lean_5 rfl ?_
  refine vr_if_eqB (tgt := 39) hF dX4_lean_8 (by decide) rfl (fun c_8 => ?_) (fun c_8 => ?_)
  · skip
    refine vr_iconst (v := nI 0) hF dX4_lean_39 (by decide +kernel) rfl ?_
    exact vr_retiw hret dX4_lean_40 (by simp [xv_lean, vr_bt, vr_bf, c_8]) (by simp [xv_lean, vr_bt, vr_bf, c_8])
  · skip
    obtain ⟨k, hk1, hk2, rfl⟩ := vx_has_of (n := ta_n t) (by omega) c_8
    have hclk : (nI k).toNatClampNeg = k := nI_clamp (by omega)
    refine vr_aload_n hF 0 rfl dX4_lean_11 rfl rfl ?_
    refine vr_get (v := .ref (a 2)) hF 0 1 (vr_in inX4) (vr_m flX4_19) rfl (by decide) rfl rfl rfl dX4_lean_12 rfl ?_
    refine vr_iload_n hF 2 rfl dX4_lean_15 rfl rfl ?_
    refine vr_callV_Ci (rest := []) (n0 := 1) hF (xc_Acts_has l g a r t w b o) (vr_gV vr_hbc mlX4_76 imX0_has seX0_has iniX0 cdX0_has) rfl (by decide +kernel) rfl rfl rfl ⟨Nat.le_of_ble_eq_true rfl, Nat.le_of_ble_eq_true rfl⟩ ⟨Nat.zero_le _, Nat.zero_le _⟩ 2 rfl rfl rfl (Nat.le_of_ble_eq_true rfl) dX4_lean_16 rfl ?_
    refine vr_if_eqB (tgt := 39) hF dX4_lean_19 (by decide) rfl (fun c_19 => ?_) (fun c_19 => ?_)
    · skip
      refine vr_iconst (v := nI 0) hF dX4_lean_39 (by decide +kernel) rfl ?_
      exact vr_retiw hret dX4_lean_40 (by simp [xv_lean, vr_bt, vr_bf, c_8, c_19, hclk]) (by simp [xv_lean, vr_bt, vr_bf, c_8, c_19, hclk])
    · skip
      obtain ⟨j, hj1, hj2, rfl⟩ := vx_has_of (n := ta_n t) (by omega) c_19
      have hclj : (nI j).toNatClampNeg = j := nI_clamp (by omega)
      refine vr_iload_n hF 2 rfl dX4_lean_22 rfl rfl ?_
      refine vr_iload_n hF 1 rfl dX4_lean_23 rfl rfl ?_
      refine vr_icmp_geN (tgt := 39) (x := j) (y := k) hF (by omega) (by omega) dX4_lean_24 (by decide) rfl (fun c_24 => ?_) (fun c_24 => ?_)
      · skip
        refine vr_iconst (v := nI 0) hF dX4_lean_39 (by decide +kernel) rfl ?_
        exact vr_retiw hret dX4_lean_40 (by simp [xv_lean, vr_bt, vr_bf, c_8, c_19, c_24, hclk, hclj]) (by simp [xv_lean, vr_bt, vr_bf, c_8, c_19, c_24, hclk, hclj])
      · skip
        refine vr_aload_n hF 0 rfl dX4_lean_27 rfl rfl ?_
        refine vr_get (v := .ref (a 3)) hF 0 2 (vr_in inX4) (vr_m flX4_26) rfl (by decide) rfl rfl rfl dX4_lean_28 rfl ?_
        refine vr_iload_n hF 1 rfl dX4_lean_31 rfl rfl ?_
        refine vr_iload_n hF 2 rfl dX4_lean_32 rfl rfl ?_
        refine vr_callV_Ci (rest := []) (n0 := 2) hF (xc_Leans_has l g a r t w b k j (by omega) (by omega)) (vr_gV vr_hbc mlX4_89 imX2_has seX2_has iniX2 cdX2_has) rfl (by decide +kernel) rfl rfl rfl ⟨Nat.le_of_ble_eq_true rfl, Nat.le_of_ble_eq_true rfl⟩ ⟨Nat.zero_le _, Nat.zero_le _⟩ 3 rfl rfl rfl (Nat.le_of_ble_eq_true rfl) dX4_lean_33 rfl ?_
        refine vr_if_eqB (tgt := 41) hF dX4_lean_36 (by decide) rfl (fun c_36 => ?_) (fun c_36 => ?_)
        · skip
          refine vr_aload_n hF 0 rfl dX4_lean_41 rfl rfl ?_
          refine vr_get (v := .ref (a 3)) hF 0 2 (vr_in inX4) (vr_m flX4_26) rfl (by decide) rfl rfl rfl dX4_lean_42 rfl ?_
          refine vr_iload_n hF 1 rfl dX4_lean_45 rfl rfl ?_
          refine vr_iload_n hF 2 rfl dX4_lean_46 rfl rfl ?_
          refine vr_callV_Cv (rest := []) (n0 := 2) hF (xc_Leans_add l g a r t w b k j (by omega) (by omega)) (vr_gV vr_hbc mlX4_91 imX2_add seX2_add iniX2 cdX2_add) rfl (by decide +kernel) rfl rfl rfl ⟨Nat.le_of_ble_eq_true rfl, Nat.le_of_ble_eq_true rfl⟩ ⟨Nat.zero_le _, Nat.zero_le _⟩ 3 rfl rfl rfl (Nat.le_of_ble_eq_true rfl) dX4_lean_47 rfl ?_
          refine vr_iconst (v := nI 1) hF dX4_lean_50 (by decide +kernel) rfl ?_
          exact vr_retiw hret dX4_lean_51 (by simp [xv_lean, vr_bt, vr_bf, c_8, c_19, c_24, c_36, hclk, hclj]) (by simp [xv_lean, vr_bt, vr_bf, c_8, c_19, c_24, c_36, hclk, hclj])
        · skip
          refine vr_iconst (v := nI 0) hF dX4_lean_39 (by decide +kernel) rfl ?_
          exact vr_retiw hret dX4_lean_40 (by simp [xv_lean, vr_bt, vr_bf, c_8, c_19, c_24, c_36, hclk, hclj]) (by simp [xv_lean, vr_bt, vr_bf, c_8, c_19, c_24, c_36, hclk, hclj])
def rm_xw_V_lock : Room := { frames := 2, cells := 0, slots := 0, locals := 42 }
set_option maxHeartbeats 4000000 in
set_option maxRecDepth 100000 in
theorem xc_V_lock (l : Launch) (g : vr_G) (a : Nat → Nat) (r : vx_R) (t : vx_A) (w : Nat → Int64) (b : vx_B) (rc : Int32) (who : Int32) (un : Int64) (h : vx_ok r t b) : vr_Ci l yX4_lock wsX4_lock rm_xw_V_lock g.1 (vr_tys g) [.ref (a 0), .int rc, .int who, .long un] (vx_w g a r t w b) (vx_w g a (if xv_lock r t rc who = true then xr_lock r rc.toNatClampNeg who un else r) t w b) (vr_b (xv_lock r t rc who)) := by
  obtain ⟨hrn, htn, hto, hbn⟩ := id h
  refine vr_Ci_mk (cc := cX4_lock) (nL := 5) (ty := .int) rfl (by decide) rfl (Nat.le_of_ble_eq_true rfl) ?_
  intro p e s m args below meth c A Q hF hret
  refine vr_to (ws' := (vx_w g a r t w b)) (lv' := [(0, .ref (a 0)), (1, .int rc), (2, .int who), (3, .long un)]) (st' := []) rfl rfl rfl ?_
  refine vr_aload_n hF 0 rfl dX4_lock_0 rfl rfl ?_
  refine vr_get (v := .ref (a 1)) hF 0 0 (vr_in inX4) (vr_m flX4_10) rfl (by decide) rfl rfl rfl dX4_lock_1 rfl ?_
  refine vr_iload_n hF 1 rfl dX4_lock_4 rfl rfl ?_
  refine vr_callV_Ci (rest := []) (n0 := 1) hF (xc_Records_has l g a r t w b rc) (vr_gV vr_hbc mlX4_94 imX3_has seX3_has iniX3 cdX3_has) rfl (by decide +kernel) rfl rfl rfl ⟨Nat.le_of_ble_eq_true rfl, Nat.le_of_ble_eq_true rfl⟩ ⟨Nat.zero_le _, Nat.zero_le _⟩ 1 rfl rfl rfl (Nat.le_of_ble_eq_true rfl) dX4_lock_5 rfl ?_
  refine vr_if_eqB (tgt := 31) hF dX4_lock_8 (by decide) rfl (fun c_8 => ?_) (fun c_8 => ?_)
  · skip
    refine vr_iconst (v := nI 0) hF dX4_lock_31 (by decide +kernel) rfl ?_
    exact vr_retiw hret dX4_lock_32 (by simp [xv_lock, vr_bt, vr_bf, c_8]) (by simp [xv_lock, vr_bt, vr_bf, c_8])
  · skip
    obtain ⟨k, hk1, hk2, rfl⟩ := vx_has_of (n := rr_n r) (by omega) c_8
    have hclk : (nI k).toNatClampNeg = k := nI_clamp (by omega)
    refine vr_aload_n hF 0 rfl dX4_lock_11 rfl rfl ?_
    refine vr_iload_n hF 1 rfl dX4_lock_12 rfl rfl ?_
    refine vr_callV_Ci (rest := []) (n0 := 1) hF (xc_V_isLocked l g a r t w b k h (by omega)) (vr_gV vr_hbc mlX4_47 imX4_isLocked seX4_isLocked iniX4 cdX4_isLocked) rfl (by decide +kernel) rfl rfl rfl ⟨Nat.le_of_ble_eq_true rfl, Nat.le_of_ble_eq_true rfl⟩ ⟨Nat.zero_le _, Nat.zero_le _⟩ 0 rfl rfl rfl (Nat.le_of_ble_eq_true rfl) dX4_lock_13 rfl ?_
    refine vr_if_eqB (tgt := 33) hF dX4_lock_16 (by decide) rfl (fun c_16 => ?_) (fun c_16 => ?_)
    · skip
      refine vr_aload_n hF 0 rfl dX4_lock_33 rfl rfl ?_
      refine vr_get (v := .ref (a 1)) hF 0 0 (vr_in inX4) (vr_m flX4_10) rfl (by decide) rfl rfl rfl dX4_lock_34 rfl ?_
      refine vr_iload_n hF 1 rfl dX4_lock_37 rfl rfl ?_
      refine vr_iload_n hF 2 rfl dX4_lock_38 rfl rfl ?_
      refine vr_lload_n hF 3 rfl dX4_lock_39 rfl rfl ?_
      refine vr_callV_Cv (rest := []) (n0 := 3) hF (xc_Records_setLock l g a r t w b k who un (by omega)) (vr_gV vr_hbc mlX4_98 imX3_setLock seX3_setLock iniX3 cdX3_setLock) rfl (by decide +kernel) rfl rfl rfl ⟨Nat.le_of_ble_eq_true rfl, Nat.le_of_ble_eq_true rfl⟩ ⟨Nat.zero_le _, Nat.zero_le _⟩ 1 rfl rfl rfl (Nat.le_of_ble_eq_true rfl) dX4_lock_40 rfl ?_
      refine vr_iconst (v := nI 1) hF dX4_lock_43 (by decide +kernel) rfl ?_
      exact vr_retiw hret dX4_lock_44 (by simp [xv_lock, vr_bt, vr_bf, c_8, c_16, hclk]) (by simp [xv_lock, vr_bt, vr_bf, c_8, c_16, hclk])
    · skip
      refine vr_aload_n hF 0 rfl dX4_lock_19 rfl rfl ?_
      refine vr_get (v := .ref (a 1)) hF 0 0 (vr_in inX4) (vr_m flX4_10) rfl (by decide) rfl rfl rfl dX4_lock_20 rfl ?_
      refine vr_iload_n hF 1 rfl dX4_lock_23 rfl rfl ?_
      refine vr_callV_Ci (rest := []) (n0 := 1) hF (xc_Records_locker l g a r t w b k (by omega)) (vr_gV vr_hbc mlX4_95 imX3_locker seX3_locker iniX3 cdX3_locker) rfl (by decide +kernel) rfl rfl rfl ⟨Nat.le_of_ble_eq_true rfl, Nat.le_of_ble_eq_true rfl⟩ ⟨Nat.zero_le _, Nat.zero_le _⟩ 1 rfl rfl rfl (Nat.le_of_ble_eq_true rfl) dX4_lock_24 rfl ?_
      refine vr_iload_n hF 2 rfl dX4_lock_27 rfl rfl ?_
      refine vr_icmp_eq (tgt := 33) hF dX4_lock_28 (by decide) rfl (fun c_28 => ?_) (fun c_28 => ?_)
      · skip
        refine vr_aload_n hF 0 rfl dX4_lock_33 rfl rfl ?_
        refine vr_get (v := .ref (a 1)) hF 0 0 (vr_in inX4) (vr_m flX4_10) rfl (by decide) rfl rfl rfl dX4_lock_34 rfl ?_
        refine vr_iload_n hF 1 rfl dX4_lock_37 rfl rfl ?_
        refine vr_iload_n hF 2 rfl dX4_lock_38 rfl rfl ?_
        refine vr_lload_n hF 3 rfl dX4_lock_39 rfl rfl ?_
        refine vr_callV_Cv (rest := []) (n0 := 3) hF (xc_Records_setLock l g a r t w b k who un (by omega)) (vr_gV vr_hbc mlX4_98 imX3_setLock seX3_setLock iniX3 cdX3_setLock) rfl (by decide +kernel) rfl rfl rfl ⟨Nat.le_of_ble_eq_true rfl, Nat.le_of_ble_eq_true rfl⟩ ⟨Nat.zero_le _, Nat.zero_le _⟩ 1 rfl rfl rfl (Nat.le_of_ble_eq_true rfl) dX4_lock_40 rfl ?_
        refine vr_iconst (v := nI 1) hF dX4_lock_43 (by decide +kernel) rfl ?_
        exact vr_retiw hret dX4_lock_44 (by simp [xv_lock, vr_bt, vr_bf, c_8, c_16, c_28, hclk]) (by simp [xv_lock, vr_bt, vr_bf, c_8, c_16, c_28, hclk])
      · skip
        refine vr_iconst (v := nI 0) hF dX4_lock_31 (by decide +kernel) rfl ?_
        exact vr_retiw hret dX4_lock_32 (by simp [xv_lock, vr_bt, vr_bf, c_8, c_16, c_28, hclk]) (by simp [xv_lock, vr_bt, vr_bf, c_8, c_16, c_28, hclk])
def rm_xw_V_batch : Room := { frames := 2, cells := 0, slots := 0, locals := 46 }
set_option maxHeartbeats 4000000 in
set_option maxRecDepth 100000 in
theorem xc_V_batch (l : Launch) (g : vr_G) (a : Nat → Nat) (r : vx_R) (t : vx_A) (w : Nat → Int64) (b : vx_B) (f : Int32) (to : Int32) (h : vx_ok r t b) : vr_Ci l yX4_batch wsX4_batch rm_xw_V_batch g.1 (vr_tys g) [.ref (a 0), .int f, .int to] (vx_w g a r t w b) (vx_w g a r t w (if xv_bat t b f to = true then xb_add b f.toNatClampNeg to.toNatClampNeg else b)) (nI (if xv_bat t b f to = true then tb_n b + 1 else 0)) := by
  obtain ⟨hrn, htn, hto, hbn⟩ := id h
  refine vr_Ci_mk (cc := cX4_batch) (nL := 3) (ty := .int) rfl (by decide) rfl (Nat.le_of_ble_eq_true rfl) ?_
  intro p e s m args below meth c A Q hF hret
  refine vr_to (ws' := (vx_w g a r t w b)) (lv' := [(0, .ref (a 0)), (1, .int f), (2, .int to)]) (st' := []) rfl rfl rfl ?_
  refine vr_aload_n hF 0 rfl dX4_batch_0 rfl rfl ?_
  refine vr_get (v := .ref (a 2)) hF 0 1 (vr_in inX4) (vr_m flX4_19) rfl (by decide) rfl rfl rfl dX4_batch_1 rfl ?_
  refine vr_iload_n hF 1 rfl dX4_batch_4 rfl rfl ?_
  refine vr_callV_Ci (rest := []) (n0 := 1) hF (xc_Acts_has l g a r t w b f) (vr_gV vr_hbc mlX4_76 imX0_has seX0_has iniX0 cdX0_has) rfl (by decide +kernel) rfl rfl rfl ⟨Nat.le_of_ble_eq_true rfl, Nat.le_of_ble_eq_true rfl⟩ ⟨Nat.zero_le _, Nat.zero_le _⟩ 2 rfl rfl rfl (Nat.le_of_ble_eq_true rfl) dX4_batch_5 rfl ?_
  refine vr_if_eqB (tgt := 27) hF dX4_batch_8 (by decide) rfl (fun c_8 => ?_) (fun c_8 => ?_)
  · skip
    refine vr_iconst (v := nI 0) hF dX4_batch_27 (by decide +kernel) rfl ?_
    exact vr_retiw hret dX4_batch_28 (by simp [xv_bat, vr_bt, vr_bf, c_8]) (by simp [xv_bat, vr_bt, vr_bf, c_8])
  · skip
    obtain ⟨k, hk1, hk2, rfl⟩ := vx_has_of (n := ta_n t) (by omega) c_8
    have hclk : (nI k).toNatClampNeg = k := nI_clamp (by omega)
    refine vr_aload_n hF 0 rfl dX4_batch_11 rfl rfl ?_
    refine vr_get (v := .ref (a 2)) hF 0 1 (vr_in inX4) (vr_m flX4_19) rfl (by decide) rfl rfl rfl dX4_batch_12 rfl ?_
    refine vr_iload_n hF 2 rfl dX4_batch_15 rfl rfl ?_
    refine vr_callV_Ci (rest := []) (n0 := 1) hF (xc_Acts_has l g a r t w b to) (vr_gV vr_hbc mlX4_76 imX0_has seX0_has iniX0 cdX0_has) rfl (by decide +kernel) rfl rfl rfl ⟨Nat.le_of_ble_eq_true rfl, Nat.le_of_ble_eq_true rfl⟩ ⟨Nat.zero_le _, Nat.zero_le _⟩ 2 rfl rfl rfl (Nat.le_of_ble_eq_true rfl) dX4_batch_16 rfl ?_
    refine vr_if_eqB (tgt := 27) hF dX4_batch_19 (by decide) rfl (fun c_19 => ?_) (fun c_19 => ?_)
    · skip
      refine vr_iconst (v := nI 0) hF dX4_batch_27 (by decide +kernel) rfl ?_
      exact vr_retiw hret dX4_batch_28 (by simp [xv_bat, vr_bt, vr_bf, c_8, c_19, hclk]) (by simp [xv_bat, vr_bt, vr_bf, c_8, c_19, hclk])
    · skip
      obtain ⟨j, hj1, hj2, rfl⟩ := vx_has_of (n := ta_n t) (by omega) c_19
      have hclj : (nI j).toNatClampNeg = j := nI_clamp (by omega)
      refine vr_iload_n hF 1 rfl dX4_batch_22 rfl rfl ?_
      refine vr_iload_n hF 2 rfl dX4_batch_23 rfl rfl ?_
      refine vr_icmp_leN (tgt := 29) (x := k) (y := j) hF (by omega) (by omega) dX4_batch_24 (by decide) rfl (fun c_24 => ?_) (fun c_24 => ?_)
      · skip
        refine vr_aload_n hF 0 rfl dX4_batch_29 rfl rfl ?_
        refine vr_get (v := .ref (a 4)) hF 0 3 (vr_in inX4) (vr_m flX4_33) rfl (by decide) rfl rfl rfl dX4_batch_30 rfl ?_
        refine vr_iload_n hF 1 rfl dX4_batch_33 rfl rfl ?_
        refine vr_iload_n hF 2 rfl dX4_batch_34 rfl rfl ?_
        refine vr_callV_Ci (rest := []) (n0 := 2) hF (xc_Batches_add l g a r t w b k j h (by omega) (by omega)) (vr_gV vr_hbc mlX4_102 imX1_add seX1_add iniX1 cdX1_add) rfl (by decide +kernel) rfl rfl rfl ⟨Nat.le_of_ble_eq_true rfl, Nat.le_of_ble_eq_true rfl⟩ ⟨Nat.zero_le _, Nat.zero_le _⟩ 4 rfl rfl rfl (Nat.le_of_ble_eq_true rfl) dX4_batch_35 rfl ?_
        exact vr_retiw hret dX4_batch_38 (by simp [xv_bat, vr_bt, vr_bf, c_8, c_19, c_24, hclk, hclj]) (by simp [xv_bat, vr_bt, vr_bf, c_8, c_19, c_24, hclk, hclj])
      · skip
        refine vr_iconst (v := nI 0) hF dX4_batch_27 (by decide +kernel) rfl ?_
        exact vr_retiw hret dX4_batch_28 (by simp [xv_bat, vr_bt, vr_bf, c_8, c_19, c_24, hclk, hclj]) (by simp [xv_bat, vr_bt, vr_bf, c_8, c_19, c_24, hclk, hclj])
def rm_xw_V_drop : Room := { frames := 4, cells := 0, slots := 0, locals := 88 }
set_option maxHeartbeats 4000000 in
set_option maxRecDepth 100000 in
theorem xw_V_drop_lp31 {p : Program} {l : Launch} {e : Env} {s : State} {m : MethodId} {args : Array Value} {below : List Frame} {meth : Method} {c : Code} {A : Nat → Prop} {Q : State → Prop} {g : vr_G} {a : Nat → Nat} (r : vx_R) (t : vx_A) (w : Nat → Int64) (b : vx_B) (bt : Int32) (h : vx_ok r t b)  (ans : Int32) (P : Nat → Bool) (hF : vr_F p s m c cX4_drop 4 args wsX4_drop yX4_drop.cls g.1 (vr_tys g) A) (hret : vr_RtI p l e rm_xw_V_drop s m args below meth c cX4_drop g.1 A 4 0 0 Q (vx_w g a r (ta_setC t P) w b) ans) : ∀ (n : Nat) (q d : Nat) (cf : Nat → Bool), (q < n) → (q ≤ ta_n t) → (ans = nI (xv_dropN b bt q cf d)) → (P = xv_dropC b bt q cf) → vr_W p l e rm_xw_V_drop s m args below meth c g.1 A 4 0 0 Q (vx_w g a r (ta_r t, ta_f t, ta_v t, ta_d t, ta_k t, cf, ta_o t, ta_n t) w b) 31 [(0, .ref (a 0)), (1, .int bt), (2, .int (nI d)), (3, .int (nI q))] [] := by
  obtain ⟨hrn, htn, hto, hbn⟩ := id h
  intro n
  induction n with
  | zero => intro q d cf hq1 hq2 hans hans2; exact absurd hq1 (by omega)
  | succ n ih =>
    intro q d cf hq1 hq2 hans hans2
    refine vr_iload_n hF 3 rfl dX4_drop_31 rfl rfl ?_
    refine vr_iconst (v := nI 1) hF dX4_drop_32 (by decide +kernel) rfl ?_
    refine vr_icmp_ltN (tgt := 62) (x := q) (y := 1) hF (by omega) (by omega) dX4_drop_33 (by decide) rfl (fun c_33 => ?_) (fun c_33 => ?_)
    · skip
      obtain rfl : q = 0 := by omega
      refine vr_iload_n hF 2 rfl dX4_drop_62 rfl rfl ?_
      exact vr_retiw hret dX4_drop_63 (by rw [hans2]; simp [xv_dropC]) (by rw [hans]; simp [xv_dropN])
    · skip
      obtain ⟨z, rfl⟩ : ∃ z, q = z + 1 := ⟨q - 1, by omega⟩
      refine vr_aload_n hF 0 rfl dX4_drop_36 rfl rfl ?_
      refine vr_iload_n hF 3 rfl dX4_drop_37 rfl rfl ?_
      refine vr_iload_n hF 1 rfl dX4_drop_38 rfl rfl ?_
      refine vr_callV_Ci (rest := []) (n0 := 2) hF (xc_V_countsInBatch l g a r (ta_r t, ta_f t, ta_v t, ta_d t, ta_k t, cf, ta_o t, ta_n t) w b (z + 1) bt (by omega)) (vr_gV vr_hbc mlX4_113 imX4_countsInBatch seX4_countsInBatch iniX4 cdX4_countsInBatch) rfl (by decide +kernel) rfl rfl rfl ⟨Nat.le_of_ble_eq_true rfl, Nat.le_of_ble_eq_true rfl⟩ ⟨Nat.zero_le _, Nat.zero_le _⟩ 0 rfl rfl rfl (Nat.le_of_ble_eq_true rfl) dX4_drop_39 rfl ?_
      refine vr_if_eqB (tgt := 56) hF dX4_drop_42 (by decide) rfl (fun c_42 => ?_) (fun c_42 => ?_)
      · skip
        have c_42 : xv_inC b bt cf (z + 1) = false := c_42
        refine vr_iinc (lv' := [(3, .int (nI z)), (0, .ref (a 0)), (1, .int bt), (2, .int (nI d))]) hF (nI z) 3 rfl dX4_drop_56 (pk_m1 z) (by decide) rfl rfl ?_
        refine vr_goto (tgt := 31) hF dX4_drop_59 (by decide) ?_
        refine vr_sub [1, 2, 3, 0] rfl ?_
        exact ih z d cf (by omega) (by omega) (by rw [hans, xv_dropN]; simp [c_42]) (by rw [hans2, xv_dropC]; simp [c_42])
      · skip
        have c_42 : xv_inC b bt cf (z + 1) = true := c_42
        refine vr_aload_n hF 0 rfl dX4_drop_45 rfl rfl ?_
        refine vr_get (v := .ref (a 2)) hF 0 1 (vr_in inX4) (vr_m flX4_19) rfl (by decide) rfl rfl rfl dX4_drop_46 rfl ?_
        refine vr_iload_n hF 3 rfl dX4_drop_49 rfl rfl ?_
        refine vr_callV_Cv (rest := []) (n0 := 1) hF (xc_Acts_setUndone l g a r (ta_r t, ta_f t, ta_v t, ta_d t, ta_k t, cf, ta_o t, ta_n t) w b (z + 1) (by omega)) (vr_gV vr_hbc mlX4_85 imX0_setUndone seX0_setUndone iniX0 cdX0_setUndone) rfl (by decide +kernel) rfl rfl rfl ⟨Nat.le_of_ble_eq_true rfl, Nat.le_of_ble_eq_true rfl⟩ ⟨Nat.zero_le _, Nat.zero_le _⟩ 2 rfl rfl rfl (Nat.le_of_ble_eq_true rfl) dX4_drop_50 rfl ?_
        refine vr_to (ws' := (vx_w g a r (ta_r t, ta_f t, ta_v t, ta_d t, ta_k t, vr_ub cf (z + 1) false, ta_o t, ta_n t) w b)) (lv' := [(0, .ref (a 0)), (1, .int bt), (2, .int (nI d)), (3, .int (nI (z + 1)))]) (st' := []) rfl rfl rfl ?_
        refine vr_iinc (lv' := [(2, .int (nI (d + 1))), (0, .ref (a 0)), (1, .int bt), (3, .int (nI (z + 1)))]) hF (nI (d + 1)) 2 rfl dX4_drop_53 (nI_1 d) (by decide) rfl rfl ?_
        refine vr_iinc (lv' := [(3, .int (nI z)), (2, .int (nI (d + 1))), (0, .ref (a 0)), (1, .int bt)]) hF (nI z) 3 rfl dX4_drop_56 (pk_m1 z) (by decide) rfl rfl ?_
        refine vr_goto (tgt := 31) hF dX4_drop_59 (by decide) ?_
        refine vr_sub [2, 3, 1, 0] rfl ?_
        exact ih z (d + 1) (vr_ub cf (z + 1) false) (by omega) (by omega) (by rw [hans, xv_dropN]; simp [c_42]) (by rw [hans2, xv_dropC]; simp [c_42])
set_option maxHeartbeats 4000000 in
set_option maxRecDepth 100000 in
theorem xc_V_drop (l : Launch) (g : vr_G) (a : Nat → Nat) (r : vx_R) (t : vx_A) (w : Nat → Int64) (b : vx_B) (bt : Int32) (h : vx_ok r t b) : vr_Ci l yX4_drop wsX4_drop rm_xw_V_drop g.1 (vr_tys g) [.ref (a 0), .int bt] (vx_w g a r t w b) (vx_w g a r (if xv_can t w b bt = true then ta_setC t (xv_dropC b bt (ta_n t) (ta_c t)) else t) w b) (nI (if xv_can t w b bt = true then xv_dropN b bt (ta_n t) (ta_c t) 0 else 0)) := by
  obtain ⟨hrn, htn, hto, hbn⟩ := id h
  refine vr_Ci_mk (cc := cX4_drop) (nL := 4) (ty := .int) rfl (by decide) rfl (Nat.le_of_ble_eq_true rfl) ?_
  intro p e s m args below meth c A Q hF hret
  refine vr_to (ws' := (vx_w g a r t w b)) (lv' := [(0, .ref (a 0)), (1, .int bt)]) (st' := []) rfl rfl rfl ?_
  refine vr_aload_n hF 0 rfl dX4_drop_0 rfl rfl ?_
  refine vr_get (v := .ref (a 4)) hF 0 3 (vr_in inX4) (vr_m flX4_33) rfl (by decide) rfl rfl rfl dX4_drop_1 rfl ?_
  refine vr_iload_n hF 1 rfl dX4_drop_4 rfl rfl ?_
  refine vr_callV_Ci (rest := []) (n0 := 1) hF (xc_Batches_has l g a r t w b bt) (vr_gV vr_hbc mlX4_105 imX1_has seX1_has iniX1 cdX1_has) rfl (by decide +kernel) rfl rfl rfl ⟨Nat.le_of_ble_eq_true rfl, Nat.le_of_ble_eq_true rfl⟩ ⟨Nat.zero_le _, Nat.zero_le _⟩ 4 rfl rfl rfl (Nat.le_of_ble_eq_true rfl) dX4_drop_5 rfl ?_
  refine vr_if_eqB (tgt := 19) hF dX4_drop_8 (by decide) rfl (fun c_8 => ?_) (fun c_8 => ?_)
  · skip
    have hc : ¬ xv_can t w b bt = true := by simp [xv_can, c_8]
    refine vr_iconst (v := nI 0) hF dX4_drop_19 (by decide +kernel) rfl ?_
    exact vr_retiw hret dX4_drop_20 (by rw [if_neg hc]) (by rw [if_neg hc])
  · skip
    refine vr_aload_n hF 0 rfl dX4_drop_11 rfl rfl ?_
    refine vr_iload_n hF 1 rfl dX4_drop_12 rfl rfl ?_
    refine vr_callV_Ci (rest := []) (n0 := 1) hF (xc_V_isLeanedOnFromOutside l g a r t w b bt h) (vr_gV vr_hbc mlX4_106 imX4_isLeanedOnFromOutside seX4_isLeanedOnFromOutside iniX4 cdX4_isLeanedOnFromOutside) rfl (by decide +kernel) rfl rfl rfl ⟨Nat.le_of_ble_eq_true rfl, Nat.le_of_ble_eq_true rfl⟩ ⟨Nat.zero_le _, Nat.zero_le _⟩ 0 rfl rfl rfl (Nat.le_of_ble_eq_true rfl) dX4_drop_13 rfl ?_
    refine vr_if_eqB (tgt := 21) hF dX4_drop_16 (by decide) rfl (fun c_16 => ?_) (fun c_16 => ?_)
    · skip
      have hc : xv_can t w b bt = true := by simp [xv_can, c_8, c_16]
      rw [if_pos hc, if_pos hc] at hret
      refine vr_iconst (v := nI 0) hF dX4_drop_21 (by decide +kernel) rfl ?_
      refine vr_istore_n (lv' := [(2, .int (nI 0)), (0, .ref (a 0)), (1, .int bt)]) hF dX4_drop_22 rfl (by decide) rfl rfl ?_
      refine vr_aload_n hF 1 rfl dX4_drop_23 rfl rfl ?_
      refine vr_get (v := .ref (a 2)) hF 0 1 (vr_in inX4) (vr_m flX4_19) rfl (by decide) rfl rfl rfl dX4_drop_24 rfl ?_
      refine vr_callV_Ci (rest := []) (n0 := 0) hF (xc_Acts_count l g a r t w b) (vr_gV vr_hbc mlX4_109 imX0_count seX0_count iniX0 cdX0_count) rfl (by decide +kernel) rfl rfl rfl ⟨Nat.le_of_ble_eq_true rfl, Nat.le_of_ble_eq_true rfl⟩ ⟨Nat.zero_le _, Nat.zero_le _⟩ 2 rfl rfl rfl (Nat.le_of_ble_eq_true rfl) dX4_drop_27 rfl ?_
      refine vr_istore_n (lv' := [(3, .int (nI (ta_n t))), (2, .int (nI 0)), (0, .ref (a 0)), (1, .int bt)]) hF dX4_drop_30 rfl (by decide) rfl rfl ?_
      refine vr_sub [2, 3, 1, 0] rfl ?_
      exact xw_V_drop_lp31 r t w b bt h  _ _ hF hret (ta_n t + 1) (ta_n t) 0 (ta_c t) (by omega) (by omega) rfl rfl
    · skip
      have hc : ¬ xv_can t w b bt = true := by simp [xv_can, c_8, c_16]
      refine vr_iconst (v := nI 0) hF dX4_drop_19 (by decide +kernel) rfl ?_
      exact vr_retiw hret dX4_drop_20 (by rw [if_neg hc]) (by rw [if_neg hc])
def rm_xw_V_conflict : Room := { frames := 2, cells := 0, slots := 0, locals := 45 }
set_option maxHeartbeats 4000000 in
set_option maxRecDepth 100000 in
theorem xw_V_conflict_lp42 {p : Program} {l : Launch} {e : Env} {s : State} {m : MethodId} {args : Array Value} {below : List Frame} {meth : Method} {c : Code} {A : Nat → Prop} {Q : State → Prop} {g : vr_G} {a : Nat → Nat} (r : vx_R) (t : vx_A) (w : Nat → Int64) (b : vx_B) (i : Int32) (what : Int32) (h : vx_ok r t b)  (ans : Int32) (hF : vr_F p s m c cX4_conflict 7 args wsX4_conflict yX4_conflict.cls g.1 (vr_tys g) A) (hret : vr_RtI p l e rm_xw_V_conflict s m args below meth c cX4_conflict g.1 A 7 0 0 Q (vx_w g a r t w b) ans) : ∀ (n : Nat) (lo hi ah : Nat), (202 * (201 - lo) + (202 - hi) < n) → (1 ≤ lo) → (lo < hi) → (lo ≤ ta_n t) → (hi ≤ ta_n t + 1) → (ah < 2 ^ 31) → (ans = xv_pair t what n lo hi ah) → vr_W p l e rm_xw_V_conflict s m args below meth c g.1 A 7 0 0 Q (vx_w g a r t w b) 42 [(0, .ref (a 0)), (2, .int what), (3, .int (nI ah)), (4, .int (nI (ta_n t))), (5, .int (nI lo)), (6, .int (nI hi))] [] := by
  obtain ⟨hrn, htn, hto, hbn⟩ := id h
  intro n
  induction n with
  | zero => intro lo hi ah hm h1 h2 hlo hhi ha hans; exact absurd hm (by omega)
  | succ n ih =>
    intro lo hi ah hm h1 h2 hlo hhi ha hans
    refine vr_iload hF 5 rfl dX4_conflict_42 rfl ?_
    refine vr_iload hF 3 rfl dX4_conflict_44 rfl ?_
    refine vr_icmp_gtN (tgt := 88) (x := hi) (y := (ta_n t)) hF (by omega) (by omega) dX4_conflict_46 (by decide) rfl (fun c_46 => ?_) (fun c_46 => ?_)
    · skip
      refine vr_iinc (lv' := [(5, .int (nI (lo + 1))), (0, .ref (a 0)), (2, .int what), (3, .int (nI ah)), (4, .int (nI (ta_n t))), (6, .int (nI hi))]) hF (nI (lo + 1)) 4 rfl dX4_conflict_88 (nI_1 lo) (by decide) rfl rfl ?_
      refine vr_goto (tgt := 29) hF dX4_conflict_91 (by decide) ?_
      refine vr_iload hF 0 rfl dX4_conflict_29 rfl ?_
      refine vr_iload hF 4 rfl dX4_conflict_31 rfl ?_
      refine vr_icmp_geN (tgt := 94) (x := (lo + 1)) (y := (ta_n t)) hF (by omega) (by omega) dX4_conflict_33 (by decide) rfl (fun c_33 => ?_) (fun c_33 => ?_)
      · skip
        refine vr_iconst (v := (-1)) hF dX4_conflict_94 (by decide +kernel) rfl ?_
        exact vr_reti hret dX4_conflict_95 (by rw [hans, xv_pair]; simp [xv_cf, vr_bt, vr_bf, c_46, c_33])
      · skip
        refine vr_iload hF 0 rfl dX4_conflict_36 rfl ?_
        refine vr_iconst (v := nI 1) hF dX4_conflict_38 (by decide +kernel) rfl ?_
        refine vr_iadd (v := nI ((lo + 1) + 1)) hF dX4_conflict_39 (nI_add (lo + 1) 1) rfl ?_
        refine vr_istore (lv' := [(6, .int (nI ((lo + 1) + 1))), (5, .int (nI (lo + 1))), (0, .ref (a 0)), (2, .int what), (3, .int (nI ah)), (4, .int (nI (ta_n t)))]) hF dX4_conflict_40 (by decide) rfl rfl ?_
        refine vr_sub [2, 3, 4, 5, 1, 0] rfl ?_
        exact ih (lo + 1) ((lo + 1) + 1) ah (by omega) (by omega) (by omega) (by omega) (by omega) (by omega) (by rw [hans, xv_pair]; simp [c_46, c_33])
    · skip
      refine vr_aload_n hF 0 rfl dX4_conflict_49 rfl rfl ?_
      refine vr_get (v := .ref (a 2)) hF 0 1 (vr_in inX4) (vr_m flX4_19) rfl (by decide) rfl rfl rfl dX4_conflict_50 rfl ?_
      refine vr_iload hF 4 rfl dX4_conflict_53 rfl ?_
      refine vr_iload hF 5 rfl dX4_conflict_55 rfl ?_
      refine vr_callV_Ci (rest := []) (n0 := 2) hF (xc_Acts_areInConflict l g a r t w b lo hi (by omega) (by omega)) (vr_gV vr_hbc mlX4_116 imX0_areInConflict seX0_areInConflict iniX0 cdX0_areInConflict) rfl (by decide +kernel) rfl rfl rfl ⟨Nat.le_of_ble_eq_true rfl, Nat.le_of_ble_eq_true rfl⟩ ⟨Nat.zero_le _, Nat.zero_le _⟩ 2 rfl rfl rfl (Nat.le_of_ble_eq_true rfl) dX4_conflict_57 rfl ?_
      refine vr_if_eqB (tgt := 82) hF dX4_conflict_60 (by decide) rfl (fun c_60 => ?_) (fun c_60 => ?_)
      · skip
        refine vr_iinc (lv' := [(6, .int (nI (hi + 1))), (0, .ref (a 0)), (2, .int what), (3, .int (nI ah)), (4, .int (nI (ta_n t))), (5, .int (nI lo))]) hF (nI (hi + 1)) 5 rfl dX4_conflict_82 (nI_1 hi) (by decide) rfl rfl ?_
        refine vr_goto (tgt := 42) hF dX4_conflict_85 (by decide) ?_
        refine vr_sub [1, 2, 3, 4, 5, 0] rfl ?_
        exact ih lo (hi + 1) ah (by omega) (by omega) (by omega) (by omega) (by omega) (by omega) (by rw [hans, xv_pair]; simp [c_46, c_60])
      · skip
        refine vr_iload_n hF 2 rfl dX4_conflict_63 rfl rfl ?_
        refine vr_if_neN (tgt := 79) (x := ah) hF (by omega) dX4_conflict_64 (by decide) rfl (fun c_64 => ?_) (fun c_64 => ?_)
        · skip
          refine vr_iinc (lv' := [(3, .int (nI (ah - 1))), (0, .ref (a 0)), (2, .int what), (4, .int (nI (ta_n t))), (5, .int (nI lo)), (6, .int (nI hi))]) hF (nI (ah - 1)) 2 rfl dX4_conflict_79 (sb_m1 (by omega)) (by decide) rfl rfl ?_
          refine vr_iinc (lv' := [(6, .int (nI (hi + 1))), (3, .int (nI (ah - 1))), (0, .ref (a 0)), (2, .int what), (4, .int (nI (ta_n t))), (5, .int (nI lo))]) hF (nI (hi + 1)) 5 rfl dX4_conflict_82 (nI_1 hi) (by decide) rfl rfl ?_
          refine vr_goto (tgt := 42) hF dX4_conflict_85 (by decide) ?_
          refine vr_sub [2, 3, 1, 4, 5, 0] rfl ?_
          exact ih lo (hi + 1) (ah - 1) (by omega) (by omega) (by omega) (by omega) (by omega) (by omega) (by rw [hans, xv_pair]; simp [c_46, c_60, c_64])
        · skip
          refine vr_iload_n hF 1 rfl dX4_conflict_67 rfl rfl ?_
          refine vr_if_ne (tgt := 76) hF dX4_conflict_68 (by decide) rfl (fun c_68 => ?_) (fun c_68 => ?_)
          · skip
            refine vr_iload hF 5 rfl dX4_conflict_76 rfl ?_
            exact vr_reti hret dX4_conflict_78 (by rw [hans, xv_pair]; simp [xv_cf, vr_bt, vr_bf, c_46, c_60, c_64, c_68])
          · skip
            refine vr_iload hF 4 rfl dX4_conflict_71 rfl ?_
            refine vr_goto (tgt := 78) hF dX4_conflict_73 (by decide) ?_
            exact vr_reti hret dX4_conflict_78 (by rw [hans, xv_pair]; simp [xv_cf, vr_bt, vr_bf, c_46, c_60, c_64, c_68])
set_option maxHeartbeats 4000000 in
set_option maxRecDepth 100000 in
theorem xc_V_conflict (l : Launch) (g : vr_G) (a : Nat → Nat) (r : vx_R) (t : vx_A) (w : Nat → Int64) (b : vx_B) (i : Int32) (what : Int32) (h : vx_ok r t b) : vr_Ci l yX4_conflict wsX4_conflict rm_xw_V_conflict g.1 (vr_tys g) [.ref (a 0), .int i, .int what] (vx_w g a r t w b) (vx_w g a r t w b) (xv_cf t i what) := by
  obtain ⟨hrn, htn, hto, hbn⟩ := id h
  refine vr_Ci_mk (cc := cX4_conflict) (nL := 7) (ty := .int) rfl (by decide) rfl (Nat.le_of_ble_eq_true rfl) ?_
  intro p e s m args below meth c A Q hF hret
  refine vr_to (ws' := (vx_w g a r t w b)) (lv' := [(0, .ref (a 0)), (1, .int i), (2, .int what)]) (st' := []) rfl rfl rfl ?_
  refine vr_iload_n hF 1 rfl dX4_conflict_0 rfl rfl ?_
  refine vr_if_lt (tgt := 13) hF dX4_conflict_1 (by decide) rfl (fun c_1 => ?_) (fun c_1 => ?_)
  · skip
    refine vr_iconst (v := (-1)) hF dX4_conflict_13 (by decide +kernel) rfl ?_
    exact vr_reti hret dX4_conflict_14 (by simp [xv_cf, vr_bt, vr_bf, c_1])
  · skip
    obtain ⟨j, hj, rfl⟩ := nI_of c_1
    have hcl : (nI j).toNatClampNeg = j := nI_clamp hj
    refine vr_iload_n hF 2 rfl dX4_conflict_4 rfl rfl ?_
    refine vr_if_lt (tgt := 13) hF dX4_conflict_5 (by decide) rfl (fun c_5 => ?_) (fun c_5 => ?_)
    · skip
      refine vr_iconst (v := (-1)) hF dX4_conflict_13 (by decide +kernel) rfl ?_
      exact vr_reti hret dX4_conflict_14 (by simp [xv_cf, vr_bt, vr_bf, c_1, c_5, hcl])
    · skip
      refine vr_iload_n hF 2 rfl dX4_conflict_8 rfl rfl ?_
      refine vr_iconst (v := nI 1) hF dX4_conflict_9 (by decide +kernel) rfl ?_
      refine vr_icmp_le (tgt := 15) hF dX4_conflict_10 (by decide) rfl (fun c_10 => ?_) (fun c_10 => ?_)
      · skip
        refine vr_iload_n hF 1 rfl dX4_conflict_15 rfl rfl ?_
        refine vr_istore_n (lv' := [(3, .int (nI j)), (0, .ref (a 0)), (1, .int (nI j)), (2, .int what)]) hF dX4_conflict_16 rfl (by decide) rfl rfl ?_
        refine vr_aload_n hF 1 rfl dX4_conflict_17 rfl rfl ?_
        refine vr_get (v := .ref (a 2)) hF 0 1 (vr_in inX4) (vr_m flX4_19) rfl (by decide) rfl rfl rfl dX4_conflict_18 rfl ?_
        refine vr_callV_Ci (rest := []) (n0 := 0) hF (xc_Acts_count l g a r t w b) (vr_gV vr_hbc mlX4_109 imX0_count seX0_count iniX0 cdX0_count) rfl (by decide +kernel) rfl rfl rfl ⟨Nat.le_of_ble_eq_true rfl, Nat.le_of_ble_eq_true rfl⟩ ⟨Nat.zero_le _, Nat.zero_le _⟩ 2 rfl rfl rfl (Nat.le_of_ble_eq_true rfl) dX4_conflict_21 rfl ?_
        refine vr_istore (lv' := [(4, .int (nI (ta_n t))), (3, .int (nI j)), (0, .ref (a 0)), (1, .int (nI j)), (2, .int what)]) hF dX4_conflict_24 (by decide) rfl rfl ?_
        refine vr_iconst (v := nI 1) hF dX4_conflict_26 (by decide +kernel) rfl ?_
        refine vr_istore (lv' := [(5, .int (nI 1)), (4, .int (nI (ta_n t))), (3, .int (nI j)), (0, .ref (a 0)), (1, .int (nI j)), (2, .int what)]) hF dX4_conflict_27 (by decide) rfl rfl ?_
        refine vr_iload hF 0 rfl dX4_conflict_29 rfl ?_
        refine vr_iload hF 1 rfl dX4_conflict_31 rfl ?_
        refine vr_icmp_geN (tgt := 94) (x := 1) (y := (ta_n t)) hF (by omega) (by omega) dX4_conflict_33 (by decide) rfl (fun c_33 => ?_) (fun c_33 => ?_)
        · skip
          refine vr_iconst (v := (-1)) hF dX4_conflict_94 (by decide +kernel) rfl ?_
          exact vr_reti hret dX4_conflict_95 (by simp [xv_cf, vr_bt, vr_bf, c_1, c_5, c_10, c_33, hcl])
        · skip
          refine vr_iload hF 0 rfl dX4_conflict_36 rfl ?_
          refine vr_iconst (v := nI 1) hF dX4_conflict_38 (by decide +kernel) rfl ?_
          refine vr_iadd (v := nI (1 + 1)) hF dX4_conflict_39 (nI_add 1 1) rfl ?_
          refine vr_istore (lv' := [(6, .int (nI (1 + 1))), (5, .int (nI 1)), (4, .int (nI (ta_n t))), (3, .int (nI j)), (0, .ref (a 0)), (1, .int (nI j)), (2, .int what)]) hF dX4_conflict_40 (by decide) rfl rfl ?_
          refine vr_sub [4, 6, 3, 2, 1, 0] rfl ?_
          exact xw_V_conflict_lp42 r t w b (nI j) what h  _ hF hret 40804 1 2 j (by omega) (by omega) (by omega) (by omega) (by omega) hj (by simp [xv_cf, hcl, c_1, c_5, c_10, c_33])
      · skip
        refine vr_iconst (v := (-1)) hF dX4_conflict_13 (by decide +kernel) rfl ?_
        exact vr_reti hret dX4_conflict_14 (by simp [xv_cf, vr_bt, vr_bf, c_1, c_5, c_10, hcl])
def rm_xw_V_history : Room := { frames := 2, cells := 0, slots := 0, locals := 49 }
set_option maxHeartbeats 4000000 in
set_option maxRecDepth 100000 in
theorem xc_V_history (l : Launch) (g : vr_G) (a : Nat → Nat) (r : vx_R) (t : vx_A) (w : Nat → Int64) (b : vx_B) (rc : Int32) (fd : Int32) (i : Int32) (h : vx_ok r t b) : vr_Ci l yX4_history wsX4_history rm_xw_V_history g.1 (vr_tys g) [.ref (a 0), .int rc, .int fd, .int i] (vx_w g a r t w b) (vx_w g a r t w b) (nI (xv_hist r t rc fd i)) := by
  obtain ⟨hrn, htn, hto, hbn⟩ := id h
  refine vr_Ci_mk (cc := cX4_history) (nL := 4) (ty := .int) rfl (by decide) rfl (Nat.le_of_ble_eq_true rfl) ?_
  intro p e s m args below meth c A Q hF hret
  refine vr_to (ws' := (vx_w g a r t w b)) (lv' := [(0, .ref (a 0)), (1, .int rc), (2, .int fd), (3, .int i)]) (st' := []) rfl rfl rfl ?_
  refine vr_aload_n hF 0 rfl dX4_history_0 rfl rfl ?_
  refine vr_iload_n hF 1 rfl dX4_history_1 rfl rfl ?_
  refine vr_iload_n hF 2 rfl dX4_history_2 rfl rfl ?_
  refine vr_callV_Ci (rest := []) (n0 := 2) hF (xc_V_hasField l g a r t w b rc fd) (vr_gV vr_hbc mlX4_41 imX4_hasField seX4_hasField iniX4 cdX4_hasField) rfl (by decide +kernel) rfl rfl rfl ⟨Nat.le_of_ble_eq_true rfl, Nat.le_of_ble_eq_true rfl⟩ ⟨Nat.zero_le _, Nat.zero_le _⟩ 0 rfl rfl rfl (Nat.le_of_ble_eq_true rfl) dX4_history_3 rfl ?_
  refine vr_if_eqB (tgt := 13) hF dX4_history_6 (by decide) rfl (fun c_6 => ?_) (fun c_6 => ?_)
  · skip
    refine vr_iconst (v := nI 0) hF dX4_history_13 (by decide +kernel) rfl ?_
    exact vr_reti hret dX4_history_14 (by simp [xv_hist, vr_bt, vr_bf, c_6])
  · skip
    refine vr_iload_n hF 3 rfl dX4_history_9 rfl rfl ?_
    refine vr_if_ge (tgt := 15) hF dX4_history_10 (by decide) rfl (fun c_10 => ?_) (fun c_10 => ?_)
    · skip
      obtain ⟨j, hj, rfl⟩ := nI_of (Int32.not_lt.mpr c_10)
      have hcl : (nI j).toNatClampNeg = j := nI_clamp hj
      refine vr_aload_n hF 0 rfl dX4_history_15 rfl rfl ?_
      refine vr_get (v := .ref (a 2)) hF 0 1 (vr_in inX4) (vr_m flX4_19) rfl (by decide) rfl rfl rfl dX4_history_16 rfl ?_
      refine vr_iload_n hF 1 rfl dX4_history_19 rfl rfl ?_
      refine vr_iload_n hF 2 rfl dX4_history_20 rfl rfl ?_
      refine vr_iload_n hF 3 rfl dX4_history_21 rfl rfl ?_
      refine vr_callV_Ci (rest := []) (n0 := 3) hF (xc_Acts_inOrder l g a r t w b rc fd j h hj) (vr_gV vr_hbc mlX4_119 imX0_inOrder seX0_inOrder iniX0 cdX0_inOrder) rfl (by decide +kernel) rfl rfl rfl ⟨Nat.le_of_ble_eq_true rfl, Nat.le_of_ble_eq_true rfl⟩ ⟨Nat.zero_le _, Nat.zero_le _⟩ 2 rfl rfl rfl (Nat.le_of_ble_eq_true rfl) dX4_history_22 rfl ?_
      exact vr_reti hret dX4_history_25 (by simp [xv_hist, vr_bt, vr_bf, c_6, c_10, hcl])
    · skip
      refine vr_iconst (v := nI 0) hF dX4_history_13 (by decide +kernel) rfl ?_
      exact vr_reti hret dX4_history_14 (by simp [xv_hist, vr_bt, vr_bf, c_6, c_10])
end
section
def rm_xw_xc_Records_init : Room := { frames := 1, cells := 3, slots := 63, locals := 12 }
theorem xw_xc_Records_init_obj : Cond.code objectInit ⟨#[0xb1]⟩ 1 none ∈ wsX3_init := vr_m cd_obj
set_option maxHeartbeats 4000000 in
set_option maxRecDepth 100000 in
theorem xc_Records_init (l : Launch) (g : vr_G) (h0 : Nat) : vr_Cn l yX3_init wsX3_init [] rm_xw_xc_Records_init g.1 (vr_tys g) h0 [(h0, .inr (3, [.null, .null, .null, .int 0]))] (fun u => [(h0, .inr (3, [.ref (u 0), .ref (u 1), .ref (u 2), .int (nI 0)])), (u 0, .inl (g.2.1, 21, .inl (fun _ => 0))), (u 1, .inl (g.2.1, 21, .inl (fun _ => 0))), (u 2, .inl (g.2.2.1, 21, .inr (.inl (fun _ => 0))))]) 3 63 := by
  refine vr_Cn_mk (cc := cX3_init) (nL := 1) (by decide) rfl rfl (by decide) ?_
  intro p e s m args below meth c A Q hF hin hN hret
  refine vr_aload_n hF 0 rfl dX3_init_0 rfl rfl ?_
  refine vr_objInit hF (vr_m mlX3_3) (vr_m im_obj) xw_xc_Records_init_obj (Nat.le_of_ble_eq_true rfl) (Nat.le_of_ble_eq_true rfl) dX3_init_1 rfl ?_
  refine vr_aload_n hF 0 rfl dX3_init_4 rfl rfl ?_
  refine vr_bipush (v := nI 21) hF dX3_init_5 (by decide +kernel) rfl ?_
  refine vr_newa (atype := .int) (ty := .int) (a0 := (21, .inl (fun _ => 0))) (N' := 21) hF 0 (vr_m ar_int) rfl (fun _ h => h) rfl (fun _ => rfl) (by decide +kernel) (by decide +kernel) (by decide +kernel) (Nat.le_of_ble_eq_true rfl) (Nat.le_of_ble_eq_true rfl) dX3_init_7 rfl (fun q0 => ?_)
  refine vr_to (ws' := [(h0, .inr (3, [.null, .null, .null, .int 0])), (q0, .inl (g.2.1, 21, .inl (fun _ => 0)))]) (lv' := [(0, .ref h0)]) (st' := [.ref q0, .ref h0]) rfl rfl rfl ?_
  refine vr_putF (ws' := [(h0, .inr (3, [.ref q0, .null, .null, .int 0])), (q0, .inl (g.2.1, 21, .inl (fun _ => 0)))]) hF 0 0 (vr_in inX3) (vr_m flX3_9) rfl (by decide) rfl rfl tyX3 tyX3_ok nmX3 rfl hin rfl rfl rfl (Nat.le_of_ble_eq_true rfl) rfl dX3_init_9 rfl ?_
  refine vr_aload_n hF 0 rfl dX3_init_12 rfl rfl ?_
  refine vr_bipush (v := nI 21) hF dX3_init_13 (by decide +kernel) rfl ?_
  refine vr_newa (atype := .int) (ty := .int) (a0 := (21, .inl (fun _ => 0))) (N' := 21) hF 0 (vr_m ar_int) rfl (fun _ h => h) rfl (fun _ => rfl) (by decide +kernel) (by decide +kernel) (by decide +kernel) (Nat.le_of_ble_eq_true rfl) (Nat.le_of_ble_eq_true rfl) dX3_init_15 rfl (fun q1 => ?_)
  refine vr_to (ws' := [(h0, .inr (3, [.ref q0, .null, .null, .int 0])), (q0, .inl (g.2.1, 21, .inl (fun _ => 0))), (q1, .inl (g.2.1, 21, .inl (fun _ => 0)))]) (lv' := [(0, .ref h0)]) (st' := [.ref q1, .ref h0]) rfl rfl rfl ?_
  refine vr_putF (ws' := [(h0, .inr (3, [.ref q0, .ref q1, .null, .int 0])), (q0, .inl (g.2.1, 21, .inl (fun _ => 0))), (q1, .inl (g.2.1, 21, .inl (fun _ => 0)))]) hF 0 1 (vr_in inX3) (vr_m flX3_15) rfl (by decide) rfl rfl tyX3 tyX3_ok nmX3 rfl hin rfl rfl rfl (Nat.le_of_ble_eq_true rfl) rfl dX3_init_17 rfl ?_
  refine vr_aload_n hF 0 rfl dX3_init_20 rfl rfl ?_
  refine vr_bipush (v := nI 21) hF dX3_init_21 (by decide +kernel) rfl ?_
  refine vr_newa (atype := .long) (ty := .long) (a0 := (21, .inr (.inl (fun _ => 0)))) (N' := 21) hF 1 (vr_m ar_long) rfl (fun _ h => h) rfl (fun _ => rfl) (by decide +kernel) (by decide +kernel) (by decide +kernel) (Nat.le_of_ble_eq_true rfl) (Nat.le_of_ble_eq_true rfl) dX3_init_23 rfl (fun q2 => ?_)
  refine vr_to (ws' := [(h0, .inr (3, [.ref q0, .ref q1, .null, .int 0])), (q0, .inl (g.2.1, 21, .inl (fun _ => 0))), (q1, .inl (g.2.1, 21, .inl (fun _ => 0))), (q2, .inl (g.2.2.1, 21, .inr (.inl (fun _ => 0))))]) (lv' := [(0, .ref h0)]) (st' := [.ref q2, .ref h0]) rfl rfl rfl ?_
  refine vr_putF (ws' := [(h0, .inr (3, [.ref q0, .ref q1, .ref q2, .int 0])), (q0, .inl (g.2.1, 21, .inl (fun _ => 0))), (q1, .inl (g.2.1, 21, .inl (fun _ => 0))), (q2, .inl (g.2.2.1, 21, .inr (.inl (fun _ => 0))))]) hF 0 2 (vr_in inX3) (vr_m flX3_18) rfl (by decide) rfl rfl tyX3 tyX3_ok nmX3 rfl hin rfl rfl rfl (Nat.le_of_ble_eq_true rfl) rfl dX3_init_25 rfl ?_
  refine vr_aload_n hF 0 rfl dX3_init_28 rfl rfl ?_
  refine vr_iconst (v := nI 0) hF dX3_init_29 (by decide +kernel) rfl ?_
  refine vr_put (ws' := [(h0, .inr (3, [.ref q0, .ref q1, .ref q2, .int (nI 0)])), (q0, .inl (g.2.1, 21, .inl (fun _ => 0))), (q1, .inl (g.2.1, 21, .inl (fun _ => 0))), (q2, .inl (g.2.2.1, 21, .inr (.inl (fun _ => 0))))]) hF 0 3 (vr_in inX3) (vr_m flX3_22) rfl (by decide) rfl rfl tyX3 tyX3_ok nmX3 rfl rfl rfl (Nat.le_of_ble_eq_true rfl) rfl dX3_init_30 rfl ?_
  exact hret (fun i => match i with | 0 => q0 | 1 => q1 | _ => q2) _ _ dX3_init_33
def rm_xw_xc_Acts_init : Room := { frames := 1, cells := 7, slots := 1407, locals := 12 }
theorem xw_xc_Acts_init_obj : Cond.code objectInit ⟨#[0xb1]⟩ 1 none ∈ wsX0_init := vr_m cd_obj
set_option maxHeartbeats 4000000 in
set_option maxRecDepth 100000 in
theorem xc_Acts_init (l : Launch) (g : vr_G) (h0 : Nat) : vr_Cn l yX0_init wsX0_init [] rm_xw_xc_Acts_init g.1 (vr_tys g) h0 [(h0, .inr (0, [.null, .null, .null, .null, .null, .null, .null, .int 0]))] (fun u => [(h0, .inr (0, [.ref (u 0), .ref (u 1), .ref (u 2), .ref (u 3), .ref (u 4), .ref (u 5), .ref (u 6), .int (nI 0)])), (u 0, .inl (g.2.1, 201, .inl (fun _ => 0))), (u 1, .inl (g.2.1, 201, .inl (fun _ => 0))), (u 2, .inl (g.2.1, 201, .inl (fun _ => 0))), (u 3, .inl (g.2.2.1, 201, .inr (.inl (fun _ => 0)))), (u 4, .inl (g.2.2.1, 201, .inr (.inl (fun _ => 0)))), (u 5, .inl (g.2.2.2, 201, .inl (fun j => vr_b ((fun _ => false) j)))), (u 6, .inl (g.2.1, 201, .inl (fun j => nI ((fun _ => 0) j))))]) 7 1407 := by
  refine vr_Cn_mk (cc := cX0_init) (nL := 1) (by decide) rfl rfl (by decide) ?_
  intro p e s m args below meth c A Q hF hin hN hret
  refine vr_aload_n hF 0 rfl dX0_init_0 rfl rfl ?_
  refine vr_objInit hF (vr_m mlX0_3) (vr_m im_obj) xw_xc_Acts_init_obj (Nat.le_of_ble_eq_true rfl) (Nat.le_of_ble_eq_true rfl) dX0_init_1 rfl ?_
  refine vr_aload_n hF 0 rfl dX0_init_4 rfl rfl ?_
  refine vr_sipush (v := nI 201) hF dX0_init_5 (by decide +kernel) rfl ?_
  refine vr_newa (atype := .int) (ty := .int) (a0 := (201, .inl (fun _ => 0))) (N' := 201) hF 0 (vr_m ar_int) rfl (fun _ h => h) rfl (fun _ => rfl) (by decide +kernel) (by decide +kernel) (by decide +kernel) (Nat.le_of_ble_eq_true rfl) (Nat.le_of_ble_eq_true rfl) dX0_init_8 rfl (fun q0 => ?_)
  refine vr_to (ws' := [(h0, .inr (0, [.null, .null, .null, .null, .null, .null, .null, .int 0])), (q0, .inl (g.2.1, 201, .inl (fun _ => 0)))]) (lv' := [(0, .ref h0)]) (st' := [.ref q0, .ref h0]) rfl rfl rfl ?_
  refine vr_putF (ws' := [(h0, .inr (0, [.ref q0, .null, .null, .null, .null, .null, .null, .int 0])), (q0, .inl (g.2.1, 201, .inl (fun _ => 0)))]) hF 0 0 (vr_in inX0) (vr_m flX0_9) rfl (by decide) rfl rfl tyX0 tyX0_ok nmX0 rfl hin rfl rfl rfl (Nat.le_of_ble_eq_true rfl) rfl dX0_init_10 rfl ?_
  refine vr_aload_n hF 0 rfl dX0_init_13 rfl rfl ?_
  refine vr_sipush (v := nI 201) hF dX0_init_14 (by decide +kernel) rfl ?_
  refine vr_newa (atype := .int) (ty := .int) (a0 := (201, .inl (fun _ => 0))) (N' := 201) hF 0 (vr_m ar_int) rfl (fun _ h => h) rfl (fun _ => rfl) (by decide +kernel) (by decide +kernel) (by decide +kernel) (Nat.le_of_ble_eq_true rfl) (Nat.le_of_ble_eq_true rfl) dX0_init_17 rfl (fun q1 => ?_)
  refine vr_to (ws' := [(h0, .inr (0, [.ref q0, .null, .null, .null, .null, .null, .null, .int 0])), (q0, .inl (g.2.1, 201, .inl (fun _ => 0))), (q1, .inl (g.2.1, 201, .inl (fun _ => 0)))]) (lv' := [(0, .ref h0)]) (st' := [.ref q1, .ref h0]) rfl rfl rfl ?_
  refine vr_putF (ws' := [(h0, .inr (0, [.ref q0, .ref q1, .null, .null, .null, .null, .null, .int 0])), (q0, .inl (g.2.1, 201, .inl (fun _ => 0))), (q1, .inl (g.2.1, 201, .inl (fun _ => 0)))]) hF 0 1 (vr_in inX0) (vr_m flX0_15) rfl (by decide) rfl rfl tyX0 tyX0_ok nmX0 rfl hin rfl rfl rfl (Nat.le_of_ble_eq_true rfl) rfl dX0_init_19 rfl ?_
  refine vr_aload_n hF 0 rfl dX0_init_22 rfl rfl ?_
  refine vr_sipush (v := nI 201) hF dX0_init_23 (by decide +kernel) rfl ?_
  refine vr_newa (atype := .int) (ty := .int) (a0 := (201, .inl (fun _ => 0))) (N' := 201) hF 0 (vr_m ar_int) rfl (fun _ h => h) rfl (fun _ => rfl) (by decide +kernel) (by decide +kernel) (by decide +kernel) (Nat.le_of_ble_eq_true rfl) (Nat.le_of_ble_eq_true rfl) dX0_init_26 rfl (fun q2 => ?_)
  refine vr_to (ws' := [(h0, .inr (0, [.ref q0, .ref q1, .null, .null, .null, .null, .null, .int 0])), (q0, .inl (g.2.1, 201, .inl (fun _ => 0))), (q1, .inl (g.2.1, 201, .inl (fun _ => 0))), (q2, .inl (g.2.1, 201, .inl (fun _ => 0)))]) (lv' := [(0, .ref h0)]) (st' := [.ref q2, .ref h0]) rfl rfl rfl ?_
  refine vr_putF (ws' := [(h0, .inr (0, [.ref q0, .ref q1, .ref q2, .null, .null, .null, .null, .int 0])), (q0, .inl (g.2.1, 201, .inl (fun _ => 0))), (q1, .inl (g.2.1, 201, .inl (fun _ => 0))), (q2, .inl (g.2.1, 201, .inl (fun _ => 0)))]) hF 0 2 (vr_in inX0) (vr_m flX0_18) rfl (by decide) rfl rfl tyX0 tyX0_ok nmX0 rfl hin rfl rfl rfl (Nat.le_of_ble_eq_true rfl) rfl dX0_init_28 rfl ?_
  refine vr_aload_n hF 0 rfl dX0_init_31 rfl rfl ?_
  refine vr_sipush (v := nI 201) hF dX0_init_32 (by decide +kernel) rfl ?_
  refine vr_newa (atype := .long) (ty := .long) (a0 := (201, .inr (.inl (fun _ => 0)))) (N' := 201) hF 1 (vr_m ar_long) rfl (fun _ h => h) rfl (fun _ => rfl) (by decide +kernel) (by decide +kernel) (by decide +kernel) (Nat.le_of_ble_eq_true rfl) (Nat.le_of_ble_eq_true rfl) dX0_init_35 rfl (fun q3 => ?_)
  refine vr_to (ws' := [(h0, .inr (0, [.ref q0, .ref q1, .ref q2, .null, .null, .null, .null, .int 0])), (q0, .inl (g.2.1, 201, .inl (fun _ => 0))), (q1, .inl (g.2.1, 201, .inl (fun _ => 0))), (q2, .inl (g.2.1, 201, .inl (fun _ => 0))), (q3, .inl (g.2.2.1, 201, .inr (.inl (fun _ => 0))))]) (lv' := [(0, .ref h0)]) (st' := [.ref q3, .ref h0]) rfl rfl rfl ?_
  refine vr_putF (ws' := [(h0, .inr (0, [.ref q0, .ref q1, .ref q2, .ref q3, .null, .null, .null, .int 0])), (q0, .inl (g.2.1, 201, .inl (fun _ => 0))), (q1, .inl (g.2.1, 201, .inl (fun _ => 0))), (q2, .inl (g.2.1, 201, .inl (fun _ => 0))), (q3, .inl (g.2.2.1, 201, .inr (.inl (fun _ => 0))))]) hF 0 3 (vr_in inX0) (vr_m flX0_21) rfl (by decide) rfl rfl tyX0 tyX0_ok nmX0 rfl hin rfl rfl rfl (Nat.le_of_ble_eq_true rfl) rfl dX0_init_37 rfl ?_
  refine vr_aload_n hF 0 rfl dX0_init_40 rfl rfl ?_
  refine vr_sipush (v := nI 201) hF dX0_init_41 (by decide +kernel) rfl ?_
  refine vr_newa (atype := .long) (ty := .long) (a0 := (201, .inr (.inl (fun _ => 0)))) (N' := 201) hF 1 (vr_m ar_long) rfl (fun _ h => h) rfl (fun _ => rfl) (by decide +kernel) (by decide +kernel) (by decide +kernel) (Nat.le_of_ble_eq_true rfl) (Nat.le_of_ble_eq_true rfl) dX0_init_44 rfl (fun q4 => ?_)
  refine vr_to (ws' := [(h0, .inr (0, [.ref q0, .ref q1, .ref q2, .ref q3, .null, .null, .null, .int 0])), (q0, .inl (g.2.1, 201, .inl (fun _ => 0))), (q1, .inl (g.2.1, 201, .inl (fun _ => 0))), (q2, .inl (g.2.1, 201, .inl (fun _ => 0))), (q3, .inl (g.2.2.1, 201, .inr (.inl (fun _ => 0)))), (q4, .inl (g.2.2.1, 201, .inr (.inl (fun _ => 0))))]) (lv' := [(0, .ref h0)]) (st' := [.ref q4, .ref h0]) rfl rfl rfl ?_
  refine vr_putF (ws' := [(h0, .inr (0, [.ref q0, .ref q1, .ref q2, .ref q3, .ref q4, .null, .null, .int 0])), (q0, .inl (g.2.1, 201, .inl (fun _ => 0))), (q1, .inl (g.2.1, 201, .inl (fun _ => 0))), (q2, .inl (g.2.1, 201, .inl (fun _ => 0))), (q3, .inl (g.2.2.1, 201, .inr (.inl (fun _ => 0)))), (q4, .inl (g.2.2.1, 201, .inr (.inl (fun _ => 0))))]) hF 0 4 (vr_in inX0) (vr_m flX0_25) rfl (by decide) rfl rfl tyX0 tyX0_ok nmX0 rfl hin rfl rfl rfl (Nat.le_of_ble_eq_true rfl) rfl dX0_init_46 rfl ?_
  refine vr_aload_n hF 0 rfl dX0_init_49 rfl rfl ?_
  refine vr_sipush (v := nI 201) hF dX0_init_50 (by decide +kernel) rfl ?_
  refine vr_newa (atype := .boolean) (ty := .boolean) (a0 := (201, .inl (fun j => vr_b ((fun _ => false) j)))) (N' := 201) hF 2 (vr_m ar_boolean) rfl (fun _ h => h) rfl (fun _ => rfl) (by decide +kernel) (by decide +kernel) (by decide +kernel) (Nat.le_of_ble_eq_true rfl) (Nat.le_of_ble_eq_true rfl) dX0_init_53 rfl (fun q5 => ?_)
  refine vr_to (ws' := [(h0, .inr (0, [.ref q0, .ref q1, .ref q2, .ref q3, .ref q4, .null, .null, .int 0])), (q0, .inl (g.2.1, 201, .inl (fun _ => 0))), (q1, .inl (g.2.1, 201, .inl (fun _ => 0))), (q2, .inl (g.2.1, 201, .inl (fun _ => 0))), (q3, .inl (g.2.2.1, 201, .inr (.inl (fun _ => 0)))), (q4, .inl (g.2.2.1, 201, .inr (.inl (fun _ => 0)))), (q5, .inl (g.2.2.2, 201, .inl (fun j => vr_b ((fun _ => false) j))))]) (lv' := [(0, .ref h0)]) (st' := [.ref q5, .ref h0]) rfl rfl rfl ?_
  refine vr_putF (ws' := [(h0, .inr (0, [.ref q0, .ref q1, .ref q2, .ref q3, .ref q4, .ref q5, .null, .int 0])), (q0, .inl (g.2.1, 201, .inl (fun _ => 0))), (q1, .inl (g.2.1, 201, .inl (fun _ => 0))), (q2, .inl (g.2.1, 201, .inl (fun _ => 0))), (q3, .inl (g.2.2.1, 201, .inr (.inl (fun _ => 0)))), (q4, .inl (g.2.2.1, 201, .inr (.inl (fun _ => 0)))), (q5, .inl (g.2.2.2, 201, .inl (fun j => vr_b ((fun _ => false) j))))]) hF 0 5 (vr_in inX0) (vr_m flX0_28) rfl (by decide) rfl rfl tyX0 tyX0_ok nmX0 rfl hin rfl rfl rfl (Nat.le_of_ble_eq_true rfl) rfl dX0_init_55 rfl ?_
  refine vr_aload_n hF 0 rfl dX0_init_58 rfl rfl ?_
  refine vr_sipush (v := nI 201) hF dX0_init_59 (by decide +kernel) rfl ?_
  refine vr_newa (atype := .int) (ty := .int) (a0 := (201, .inl (fun j => nI ((fun _ => 0) j)))) (N' := 201) hF 0 (vr_m ar_int) rfl (fun _ h => h) rfl (fun _ => rfl) (by decide +kernel) (by decide +kernel) (by decide +kernel) (Nat.le_of_ble_eq_true rfl) (Nat.le_of_ble_eq_true rfl) dX0_init_62 rfl (fun q6 => ?_)
  refine vr_to (ws' := [(h0, .inr (0, [.ref q0, .ref q1, .ref q2, .ref q3, .ref q4, .ref q5, .null, .int 0])), (q0, .inl (g.2.1, 201, .inl (fun _ => 0))), (q1, .inl (g.2.1, 201, .inl (fun _ => 0))), (q2, .inl (g.2.1, 201, .inl (fun _ => 0))), (q3, .inl (g.2.2.1, 201, .inr (.inl (fun _ => 0)))), (q4, .inl (g.2.2.1, 201, .inr (.inl (fun _ => 0)))), (q5, .inl (g.2.2.2, 201, .inl (fun j => vr_b ((fun _ => false) j)))), (q6, .inl (g.2.1, 201, .inl (fun j => nI ((fun _ => 0) j))))]) (lv' := [(0, .ref h0)]) (st' := [.ref q6, .ref h0]) rfl rfl rfl ?_
  refine vr_putF (ws' := [(h0, .inr (0, [.ref q0, .ref q1, .ref q2, .ref q3, .ref q4, .ref q5, .ref q6, .int 0])), (q0, .inl (g.2.1, 201, .inl (fun _ => 0))), (q1, .inl (g.2.1, 201, .inl (fun _ => 0))), (q2, .inl (g.2.1, 201, .inl (fun _ => 0))), (q3, .inl (g.2.2.1, 201, .inr (.inl (fun _ => 0)))), (q4, .inl (g.2.2.1, 201, .inr (.inl (fun _ => 0)))), (q5, .inl (g.2.2.2, 201, .inl (fun j => vr_b ((fun _ => false) j)))), (q6, .inl (g.2.1, 201, .inl (fun j => nI ((fun _ => 0) j))))]) hF 0 6 (vr_in inX0) (vr_m flX0_32) rfl (by decide) rfl rfl tyX0 tyX0_ok nmX0 rfl hin rfl rfl rfl (Nat.le_of_ble_eq_true rfl) rfl dX0_init_64 rfl ?_
  refine vr_aload_n hF 0 rfl dX0_init_67 rfl rfl ?_
  refine vr_iconst (v := nI 0) hF dX0_init_68 (by decide +kernel) rfl ?_
  refine vr_put (ws' := [(h0, .inr (0, [.ref q0, .ref q1, .ref q2, .ref q3, .ref q4, .ref q5, .ref q6, .int (nI 0)])), (q0, .inl (g.2.1, 201, .inl (fun _ => 0))), (q1, .inl (g.2.1, 201, .inl (fun _ => 0))), (q2, .inl (g.2.1, 201, .inl (fun _ => 0))), (q3, .inl (g.2.2.1, 201, .inr (.inl (fun _ => 0)))), (q4, .inl (g.2.2.1, 201, .inr (.inl (fun _ => 0)))), (q5, .inl (g.2.2.2, 201, .inl (fun j => vr_b ((fun _ => false) j)))), (q6, .inl (g.2.1, 201, .inl (fun j => nI ((fun _ => 0) j))))]) hF 0 7 (vr_in inX0) (vr_m flX0_35) rfl (by decide) rfl rfl tyX0 tyX0_ok nmX0 rfl rfl rfl (Nat.le_of_ble_eq_true rfl) rfl dX0_init_69 rfl ?_
  exact hret (fun i => match i with | 0 => q0 | 1 => q1 | 2 => q2 | 3 => q3 | 4 => q4 | 5 => q5 | _ => q6) _ _ dX0_init_72
def rm_xw_xc_Leans_init : Room := { frames := 1, cells := 1, slots := 804, locals := 12 }
theorem xw_xc_Leans_init_obj : Cond.code objectInit ⟨#[0xb1]⟩ 1 none ∈ wsX2_init := vr_m cd_obj
set_option maxHeartbeats 4000000 in
set_option maxRecDepth 100000 in
theorem xc_Leans_init (l : Launch) (g : vr_G) (h0 : Nat) : vr_Cn l yX2_init wsX2_init [] rm_xw_xc_Leans_init g.1 (vr_tys g) h0 [(h0, .inr (2, [.null]))] (fun u => [(h0, .inr (2, [.ref (u 0)])), (u 0, .inl (g.2.2.1, 804, .inr (.inl (fun _ => 0))))]) 1 804 := by
  refine vr_Cn_mk (cc := cX2_init) (nL := 1) (by decide) rfl rfl (by decide) ?_
  intro p e s m args below meth c A Q hF hin hN hret
  refine vr_aload_n hF 0 rfl dX2_init_0 rfl rfl ?_
  refine vr_objInit hF (vr_m mlX2_5) (vr_m im_obj) xw_xc_Leans_init_obj (Nat.le_of_ble_eq_true rfl) (Nat.le_of_ble_eq_true rfl) dX2_init_1 rfl ?_
  refine vr_aload_n hF 0 rfl dX2_init_4 rfl rfl ?_
  refine vr_sipush (v := nI 804) hF dX2_init_5 (by decide +kernel) rfl ?_
  refine vr_newa (atype := .long) (ty := .long) (a0 := (804, .inr (.inl (fun _ => 0)))) (N' := 804) hF 1 (vr_m ar_long) rfl (fun _ h => h) rfl (fun _ => rfl) (by decide +kernel) (by decide +kernel) (by decide +kernel) (Nat.le_of_ble_eq_true rfl) (Nat.le_of_ble_eq_true rfl) dX2_init_8 rfl (fun q0 => ?_)
  refine vr_to (ws' := [(h0, .inr (2, [.null])), (q0, .inl (g.2.2.1, 804, .inr (.inl (fun _ => 0))))]) (lv' := [(0, .ref h0)]) (st' := [.ref q0, .ref h0]) rfl rfl rfl ?_
  refine vr_putF (ws' := [(h0, .inr (2, [.ref q0])), (q0, .inl (g.2.2.1, 804, .inr (.inl (fun _ => 0))))]) hF 0 0 (vr_in inX2) (vr_m flX2_11) rfl (by decide) rfl rfl tyX2 tyX2_ok nmX2 rfl hin rfl rfl rfl (Nat.le_of_ble_eq_true rfl) rfl dX2_init_10 rfl ?_
  exact hret (fun i => match i with  | _ => q0) _ _ dX2_init_13
def rm_xw_xc_Batches_init : Room := { frames := 1, cells := 1, slots := 201, locals := 12 }
theorem xw_xc_Batches_init_obj : Cond.code objectInit ⟨#[0xb1]⟩ 1 none ∈ wsX1_init := vr_m cd_obj
set_option maxHeartbeats 4000000 in
set_option maxRecDepth 100000 in
theorem xc_Batches_init (l : Launch) (g : vr_G) (h0 : Nat) : vr_Cn l yX1_init wsX1_init [] rm_xw_xc_Batches_init g.1 (vr_tys g) h0 [(h0, .inr (1, [.null, .int 0]))] (fun u => [(h0, .inr (1, [.ref (u 0), .int (nI 0)])), (u 0, .inl (g.2.1, 201, .inl (fun _ => 0)))]) 1 201 := by
  refine vr_Cn_mk (cc := cX1_init) (nL := 1) (by decide) rfl rfl (by decide) ?_
  intro p e s m args below meth c A Q hF hin hN hret
  refine vr_aload_n hF 0 rfl dX1_init_0 rfl rfl ?_
  refine vr_objInit hF (vr_m mlX1_3) (vr_m im_obj) xw_xc_Batches_init_obj (Nat.le_of_ble_eq_true rfl) (Nat.le_of_ble_eq_true rfl) dX1_init_1 rfl ?_
  refine vr_aload_n hF 0 rfl dX1_init_4 rfl rfl ?_
  refine vr_sipush (v := nI 201) hF dX1_init_5 (by decide +kernel) rfl ?_
  refine vr_newa (atype := .int) (ty := .int) (a0 := (201, .inl (fun _ => 0))) (N' := 201) hF 0 (vr_m ar_int) rfl (fun _ h => h) rfl (fun _ => rfl) (by decide +kernel) (by decide +kernel) (by decide +kernel) (Nat.le_of_ble_eq_true rfl) (Nat.le_of_ble_eq_true rfl) dX1_init_8 rfl (fun q0 => ?_)
  refine vr_to (ws' := [(h0, .inr (1, [.null, .int 0])), (q0, .inl (g.2.1, 201, .inl (fun _ => 0)))]) (lv' := [(0, .ref h0)]) (st' := [.ref q0, .ref h0]) rfl rfl rfl ?_
  refine vr_putF (ws' := [(h0, .inr (1, [.ref q0, .int 0])), (q0, .inl (g.2.1, 201, .inl (fun _ => 0)))]) hF 0 0 (vr_in inX1) (vr_m flX1_9) rfl (by decide) rfl rfl tyX1 tyX1_ok nmX1 rfl hin rfl rfl rfl (Nat.le_of_ble_eq_true rfl) rfl dX1_init_10 rfl ?_
  refine vr_aload_n hF 0 rfl dX1_init_13 rfl rfl ?_
  refine vr_iconst (v := nI 0) hF dX1_init_14 (by decide +kernel) rfl ?_
  refine vr_put (ws' := [(h0, .inr (1, [.ref q0, .int (nI 0)])), (q0, .inl (g.2.1, 201, .inl (fun _ => 0)))]) hF 0 1 (vr_in inX1) (vr_m flX1_15) rfl (by decide) rfl rfl tyX1 tyX1_ok nmX1 rfl rfl rfl (Nat.le_of_ble_eq_true rfl) rfl dX1_init_15 rfl ?_
  exact hret (fun i => match i with  | _ => q0) _ _ dX1_init_18
abbrev xw_nest : List Cond := [Cond.methodLinkNest RX4 9 yX3_init RX4, Cond.methodLinkNest RX4 18 yX0_init RX4, Cond.methodLinkNest RX4 25 yX2_init RX4, Cond.methodLinkNest RX4 32 yX1_init RX4]
def rm_xw_xc_V_init : Room := { frames := 2, cells := 16, slots := 2490, locals := 32 }
theorem xw_xc_V_init_obj : Cond.code objectInit ⟨#[0xb1]⟩ 1 none ∈ wsX4_init := vr_m cd_obj
set_option maxHeartbeats 4000000 in
set_option maxRecDepth 100000 in
theorem xc_V_init (l : Launch) (g : vr_G) (h0 : Nat) : vr_Cn l yX4_init wsX4_init xw_nest rm_xw_xc_V_init g.1 (vr_tys g) h0 [(h0, .inr (4, [.null, .null, .null, .null]))] (fun u => vx_w g (vr_at0 h0 u) vx_r0 vx_t0 (fun _ => 0) vx_b0) 16 2490 := by
  refine vr_Cn_mk (cc := cX4_init) (nL := 1) (by decide) rfl rfl (by decide) ?_
  intro p e s m args below meth c A Q hF hin hN hret
  refine vr_aload_n hF 0 rfl dX4_init_0 rfl rfl ?_
  refine vr_objInit hF (vr_m mlX4_1) (vr_m im_obj) xw_xc_V_init_obj (Nat.le_of_ble_eq_true rfl) (Nat.le_of_ble_eq_true rfl) dX4_init_1 rfl ?_
  refine vr_aload_n hF 0 rfl dX4_init_4 rfl rfl ?_
  refine vr_new (ci := 3) (fs := [.null, .null, .null, .int 0]) hF (vr_in inX3) tyX3 tyX3_ok (vr_m clX4_7) (vr_m insX3) (vr_m iniX3) rfl (fun j hj => by rcases (show j = 0 ∨ j = 1 ∨ j = 2 ∨ j = 3 by omega) with rfl | rfl | rfl | rfl <;> rfl) (Nat.le_of_ble_eq_true rfl) (Nat.le_of_ble_eq_true rfl) dX4_init_5 rfl (fun q1 => ?_)
  refine vr_to (ws' := [(h0, .inr (4, [.null, .null, .null, .null])), (q1, .inr (3, [.null, .null, .null, .int 0]))]) (lv' := [(0, .ref h0)]) (st' := [.ref q1, .ref h0]) rfl rfl rfl ?_
  refine vr_dup hF dX4_init_8 rfl rfl ?_
  refine vr_partIN (wr := [(h0, .inr (4, [.null, .null, .null, .null]))]) (rest := [.ref q1, .ref h0]) hF (xc_Records_init l g q1) (fun _ h => by cases h) (fun _ h => by cases h) (vr_goodc vr_hbc cdX3_init) rfl rfl rfl (vr_m iniX3) (hN (Cond.methodLinkNest RX4 9 yX3_init RX4) (List.mem_of_getElem? (i := 0) rfl)) (vr_m imX3_init) rfl (by decide +kernel) ⟨Nat.le_of_ble_eq_true rfl, Nat.le_of_ble_eq_true rfl⟩ ⟨Nat.le_of_ble_eq_true rfl, Nat.le_of_ble_eq_true rfl⟩ (Nat.le_of_ble_eq_true rfl) dX4_init_9 rfl [1] [0] rfl rfl rfl rfl (by decide) (fun u1 => ?_)
  refine vr_to (ws' := [(h0, .inr (4, [.null, .null, .null, .null])), (q1, .inr (3, [.ref (u1 0), .ref (u1 1), .ref (u1 2), .int (nI 0)])), (u1 0, .inl (g.2.1, 21, .inl (fun _ => 0))), (u1 1, .inl (g.2.1, 21, .inl (fun _ => 0))), (u1 2, .inl (g.2.2.1, 21, .inr (.inl (fun _ => 0))))]) (lv' := [(0, .ref h0)]) (st' := [.ref q1, .ref h0]) rfl rfl rfl ?_
  refine vr_putF (ws' := [(h0, .inr (4, [.ref q1, .null, .null, .null])), (q1, .inr (3, [.ref (u1 0), .ref (u1 1), .ref (u1 2), .int (nI 0)])), (u1 0, .inl (g.2.1, 21, .inl (fun _ => 0))), (u1 1, .inl (g.2.1, 21, .inl (fun _ => 0))), (u1 2, .inl (g.2.2.1, 21, .inr (.inl (fun _ => 0))))]) hF 0 0 (vr_in inX4) (vr_m flX4_10) rfl (by decide) rfl rfl tyX4 tyX4_ok nmX4 rfl hin rfl rfl rfl (Nat.le_of_ble_eq_true rfl) rfl dX4_init_12 rfl ?_
  refine vr_aload_n hF 0 rfl dX4_init_15 rfl rfl ?_
  refine vr_new (ci := 0) (fs := [.null, .null, .null, .null, .null, .null, .null, .int 0]) hF (vr_in inX0) tyX0 tyX0_ok (vr_m clX4_16) (vr_m insX0) (vr_m iniX0) rfl (fun j hj => by rcases (show j = 0 ∨ j = 1 ∨ j = 2 ∨ j = 3 ∨ j = 4 ∨ j = 5 ∨ j = 6 ∨ j = 7 by omega) with rfl | rfl | rfl | rfl | rfl | rfl | rfl | rfl <;> rfl) (Nat.le_of_ble_eq_true rfl) (Nat.le_of_ble_eq_true rfl) dX4_init_16 rfl (fun q2 => ?_)
  refine vr_to (ws' := [(h0, .inr (4, [.ref q1, .null, .null, .null])), (q1, .inr (3, [.ref (u1 0), .ref (u1 1), .ref (u1 2), .int (nI 0)])), (u1 0, .inl (g.2.1, 21, .inl (fun _ => 0))), (u1 1, .inl (g.2.1, 21, .inl (fun _ => 0))), (u1 2, .inl (g.2.2.1, 21, .inr (.inl (fun _ => 0)))), (q2, .inr (0, [.null, .null, .null, .null, .null, .null, .null, .int 0]))]) (lv' := [(0, .ref h0)]) (st' := [.ref q2, .ref h0]) rfl rfl rfl ?_
  refine vr_dup hF dX4_init_19 rfl rfl ?_
  refine vr_partIN (wr := [(h0, .inr (4, [.ref q1, .null, .null, .null])), (q1, .inr (3, [.ref (u1 0), .ref (u1 1), .ref (u1 2), .int (nI 0)])), (u1 0, .inl (g.2.1, 21, .inl (fun _ => 0))), (u1 1, .inl (g.2.1, 21, .inl (fun _ => 0))), (u1 2, .inl (g.2.2.1, 21, .inr (.inl (fun _ => 0))))]) (rest := [.ref q2, .ref h0]) hF (xc_Acts_init l g q2) (fun _ h => by cases h) (fun _ h => by cases h) (vr_goodc vr_hbc cdX0_init) rfl rfl rfl (vr_m iniX0) (hN (Cond.methodLinkNest RX4 18 yX0_init RX4) (List.mem_of_getElem? (i := 1) rfl)) (vr_m imX0_init) rfl (by decide +kernel) ⟨Nat.le_of_ble_eq_true rfl, Nat.le_of_ble_eq_true rfl⟩ ⟨Nat.le_of_ble_eq_true rfl, Nat.le_of_ble_eq_true rfl⟩ (Nat.le_of_ble_eq_true rfl) dX4_init_20 rfl [5] [0, 1, 2, 3, 4] rfl rfl rfl rfl (by decide) (fun u2 => ?_)
  refine vr_to (ws' := [(h0, .inr (4, [.ref q1, .null, .null, .null])), (q1, .inr (3, [.ref (u1 0), .ref (u1 1), .ref (u1 2), .int (nI 0)])), (u1 0, .inl (g.2.1, 21, .inl (fun _ => 0))), (u1 1, .inl (g.2.1, 21, .inl (fun _ => 0))), (u1 2, .inl (g.2.2.1, 21, .inr (.inl (fun _ => 0)))), (q2, .inr (0, [.ref (u2 0), .ref (u2 1), .ref (u2 2), .ref (u2 3), .ref (u2 4), .ref (u2 5), .ref (u2 6), .int (nI 0)])), (u2 0, .inl (g.2.1, 201, .inl (fun _ => 0))), (u2 1, .inl (g.2.1, 201, .inl (fun _ => 0))), (u2 2, .inl (g.2.1, 201, .inl (fun _ => 0))), (u2 3, .inl (g.2.2.1, 201, .inr (.inl (fun _ => 0)))), (u2 4, .inl (g.2.2.1, 201, .inr (.inl (fun _ => 0)))), (u2 5, .inl (g.2.2.2, 201, .inl (fun j => vr_b ((fun _ => false) j)))), (u2 6, .inl (g.2.1, 201, .inl (fun j => nI ((fun _ => 0) j))))]) (lv' := [(0, .ref h0)]) (st' := [.ref q2, .ref h0]) rfl rfl rfl ?_
  refine vr_putF (ws' := [(h0, .inr (4, [.ref q1, .ref q2, .null, .null])), (q1, .inr (3, [.ref (u1 0), .ref (u1 1), .ref (u1 2), .int (nI 0)])), (u1 0, .inl (g.2.1, 21, .inl (fun _ => 0))), (u1 1, .inl (g.2.1, 21, .inl (fun _ => 0))), (u1 2, .inl (g.2.2.1, 21, .inr (.inl (fun _ => 0)))), (q2, .inr (0, [.ref (u2 0), .ref (u2 1), .ref (u2 2), .ref (u2 3), .ref (u2 4), .ref (u2 5), .ref (u2 6), .int (nI 0)])), (u2 0, .inl (g.2.1, 201, .inl (fun _ => 0))), (u2 1, .inl (g.2.1, 201, .inl (fun _ => 0))), (u2 2, .inl (g.2.1, 201, .inl (fun _ => 0))), (u2 3, .inl (g.2.2.1, 201, .inr (.inl (fun _ => 0)))), (u2 4, .inl (g.2.2.1, 201, .inr (.inl (fun _ => 0)))), (u2 5, .inl (g.2.2.2, 201, .inl (fun j => vr_b ((fun _ => false) j)))), (u2 6, .inl (g.2.1, 201, .inl (fun j => nI ((fun _ => 0) j))))]) hF 0 1 (vr_in inX4) (vr_m flX4_19) rfl (by decide) rfl rfl tyX4 tyX4_ok nmX4 rfl hin rfl rfl rfl (Nat.le_of_ble_eq_true rfl) rfl dX4_init_23 rfl ?_
  refine vr_aload_n hF 0 rfl dX4_init_26 rfl rfl ?_
  refine vr_new (ci := 2) (fs := [.null]) hF (vr_in inX2) tyX2 tyX2_ok (vr_m clX4_23) (vr_m insX2) (vr_m iniX2) rfl (fun j hj => by rcases (show j = 0 ∨ j = 0 by omega) with rfl | rfl <;> rfl) (Nat.le_of_ble_eq_true rfl) (Nat.le_of_ble_eq_true rfl) dX4_init_27 rfl (fun q3 => ?_)
  refine vr_to (ws' := [(h0, .inr (4, [.ref q1, .ref q2, .null, .null])), (q1, .inr (3, [.ref (u1 0), .ref (u1 1), .ref (u1 2), .int (nI 0)])), (u1 0, .inl (g.2.1, 21, .inl (fun _ => 0))), (u1 1, .inl (g.2.1, 21, .inl (fun _ => 0))), (u1 2, .inl (g.2.2.1, 21, .inr (.inl (fun _ => 0)))), (q2, .inr (0, [.ref (u2 0), .ref (u2 1), .ref (u2 2), .ref (u2 3), .ref (u2 4), .ref (u2 5), .ref (u2 6), .int (nI 0)])), (u2 0, .inl (g.2.1, 201, .inl (fun _ => 0))), (u2 1, .inl (g.2.1, 201, .inl (fun _ => 0))), (u2 2, .inl (g.2.1, 201, .inl (fun _ => 0))), (u2 3, .inl (g.2.2.1, 201, .inr (.inl (fun _ => 0)))), (u2 4, .inl (g.2.2.1, 201, .inr (.inl (fun _ => 0)))), (u2 5, .inl (g.2.2.2, 201, .inl (fun j => vr_b ((fun _ => false) j)))), (u2 6, .inl (g.2.1, 201, .inl (fun j => nI ((fun _ => 0) j)))), (q3, .inr (2, [.null]))]) (lv' := [(0, .ref h0)]) (st' := [.ref q3, .ref h0]) rfl rfl rfl ?_
  refine vr_dup hF dX4_init_30 rfl rfl ?_
  refine vr_partIN (wr := [(h0, .inr (4, [.ref q1, .ref q2, .null, .null])), (q1, .inr (3, [.ref (u1 0), .ref (u1 1), .ref (u1 2), .int (nI 0)])), (u1 0, .inl (g.2.1, 21, .inl (fun _ => 0))), (u1 1, .inl (g.2.1, 21, .inl (fun _ => 0))), (u1 2, .inl (g.2.2.1, 21, .inr (.inl (fun _ => 0)))), (q2, .inr (0, [.ref (u2 0), .ref (u2 1), .ref (u2 2), .ref (u2 3), .ref (u2 4), .ref (u2 5), .ref (u2 6), .int (nI 0)])), (u2 0, .inl (g.2.1, 201, .inl (fun _ => 0))), (u2 1, .inl (g.2.1, 201, .inl (fun _ => 0))), (u2 2, .inl (g.2.1, 201, .inl (fun _ => 0))), (u2 3, .inl (g.2.2.1, 201, .inr (.inl (fun _ => 0)))), (u2 4, .inl (g.2.2.1, 201, .inr (.inl (fun _ => 0)))), (u2 5, .inl (g.2.2.2, 201, .inl (fun j => vr_b ((fun _ => false) j)))), (u2 6, .inl (g.2.1, 201, .inl (fun j => nI ((fun _ => 0) j))))]) (rest := [.ref q3, .ref h0]) hF (xc_Leans_init l g q3) (fun _ h => by cases h) (fun _ h => by cases h) (vr_goodc vr_hbc cdX2_init) rfl rfl rfl (vr_m iniX2) (hN (Cond.methodLinkNest RX4 25 yX2_init RX4) (List.mem_of_getElem? (i := 2) rfl)) (vr_m imX2_init) rfl (by decide +kernel) ⟨Nat.le_of_ble_eq_true rfl, Nat.le_of_ble_eq_true rfl⟩ ⟨Nat.le_of_ble_eq_true rfl, Nat.le_of_ble_eq_true rfl⟩ (Nat.le_of_ble_eq_true rfl) dX4_init_31 rfl [13] [0, 1, 2, 3, 4, 5, 6, 7, 8, 9, 10, 11, 12] rfl rfl rfl rfl (by decide) (fun u3 => ?_)
  refine vr_to (ws' := [(h0, .inr (4, [.ref q1, .ref q2, .null, .null])), (q1, .inr (3, [.ref (u1 0), .ref (u1 1), .ref (u1 2), .int (nI 0)])), (u1 0, .inl (g.2.1, 21, .inl (fun _ => 0))), (u1 1, .inl (g.2.1, 21, .inl (fun _ => 0))), (u1 2, .inl (g.2.2.1, 21, .inr (.inl (fun _ => 0)))), (q2, .inr (0, [.ref (u2 0), .ref (u2 1), .ref (u2 2), .ref (u2 3), .ref (u2 4), .ref (u2 5), .ref (u2 6), .int (nI 0)])), (u2 0, .inl (g.2.1, 201, .inl (fun _ => 0))), (u2 1, .inl (g.2.1, 201, .inl (fun _ => 0))), (u2 2, .inl (g.2.1, 201, .inl (fun _ => 0))), (u2 3, .inl (g.2.2.1, 201, .inr (.inl (fun _ => 0)))), (u2 4, .inl (g.2.2.1, 201, .inr (.inl (fun _ => 0)))), (u2 5, .inl (g.2.2.2, 201, .inl (fun j => vr_b ((fun _ => false) j)))), (u2 6, .inl (g.2.1, 201, .inl (fun j => nI ((fun _ => 0) j)))), (q3, .inr (2, [.ref (u3 0)])), (u3 0, .inl (g.2.2.1, 804, .inr (.inl (fun _ => 0))))]) (lv' := [(0, .ref h0)]) (st' := [.ref q3, .ref h0]) rfl rfl rfl ?_
  refine vr_putF (ws' := [(h0, .inr (4, [.ref q1, .ref q2, .ref q3, .null])), (q1, .inr (3, [.ref (u1 0), .ref (u1 1), .ref (u1 2), .int (nI 0)])), (u1 0, .inl (g.2.1, 21, .inl (fun _ => 0))), (u1 1, .inl (g.2.1, 21, .inl (fun _ => 0))), (u1 2, .inl (g.2.2.1, 21, .inr (.inl (fun _ => 0)))), (q2, .inr (0, [.ref (u2 0), .ref (u2 1), .ref (u2 2), .ref (u2 3), .ref (u2 4), .ref (u2 5), .ref (u2 6), .int (nI 0)])), (u2 0, .inl (g.2.1, 201, .inl (fun _ => 0))), (u2 1, .inl (g.2.1, 201, .inl (fun _ => 0))), (u2 2, .inl (g.2.1, 201, .inl (fun _ => 0))), (u2 3, .inl (g.2.2.1, 201, .inr (.inl (fun _ => 0)))), (u2 4, .inl (g.2.2.1, 201, .inr (.inl (fun _ => 0)))), (u2 5, .inl (g.2.2.2, 201, .inl (fun j => vr_b ((fun _ => false) j)))), (u2 6, .inl (g.2.1, 201, .inl (fun j => nI ((fun _ => 0) j)))), (q3, .inr (2, [.ref (u3 0)])), (u3 0, .inl (g.2.2.1, 804, .inr (.inl (fun _ => 0))))]) hF 0 2 (vr_in inX4) (vr_m flX4_26) rfl (by decide) rfl rfl tyX4 tyX4_ok nmX4 rfl hin rfl rfl rfl (Nat.le_of_ble_eq_true rfl) rfl dX4_init_34 rfl ?_
  refine vr_aload_n hF 0 rfl dX4_init_37 rfl rfl ?_
  refine vr_new (ci := 1) (fs := [.null, .int 0]) hF (vr_in inX1) tyX1 tyX1_ok (vr_m clX4_30) (vr_m insX1) (vr_m iniX1) rfl (fun j hj => by rcases (show j = 0 ∨ j = 1 by omega) with rfl | rfl <;> rfl) (Nat.le_of_ble_eq_true rfl) (Nat.le_of_ble_eq_true rfl) dX4_init_38 rfl (fun q4 => ?_)
  refine vr_to (ws' := [(h0, .inr (4, [.ref q1, .ref q2, .ref q3, .null])), (q1, .inr (3, [.ref (u1 0), .ref (u1 1), .ref (u1 2), .int (nI 0)])), (u1 0, .inl (g.2.1, 21, .inl (fun _ => 0))), (u1 1, .inl (g.2.1, 21, .inl (fun _ => 0))), (u1 2, .inl (g.2.2.1, 21, .inr (.inl (fun _ => 0)))), (q2, .inr (0, [.ref (u2 0), .ref (u2 1), .ref (u2 2), .ref (u2 3), .ref (u2 4), .ref (u2 5), .ref (u2 6), .int (nI 0)])), (u2 0, .inl (g.2.1, 201, .inl (fun _ => 0))), (u2 1, .inl (g.2.1, 201, .inl (fun _ => 0))), (u2 2, .inl (g.2.1, 201, .inl (fun _ => 0))), (u2 3, .inl (g.2.2.1, 201, .inr (.inl (fun _ => 0)))), (u2 4, .inl (g.2.2.1, 201, .inr (.inl (fun _ => 0)))), (u2 5, .inl (g.2.2.2, 201, .inl (fun j => vr_b ((fun _ => false) j)))), (u2 6, .inl (g.2.1, 201, .inl (fun j => nI ((fun _ => 0) j)))), (q3, .inr (2, [.ref (u3 0)])), (u3 0, .inl (g.2.2.1, 804, .inr (.inl (fun _ => 0)))), (q4, .inr (1, [.null, .int 0]))]) (lv' := [(0, .ref h0)]) (st' := [.ref q4, .ref h0]) rfl rfl rfl ?_
  refine vr_dup hF dX4_init_41 rfl rfl ?_
  refine vr_partIN (wr := [(h0, .inr (4, [.ref q1, .ref q2, .ref q3, .null])), (q1, .inr (3, [.ref (u1 0), .ref (u1 1), .ref (u1 2), .int (nI 0)])), (u1 0, .inl (g.2.1, 21, .inl (fun _ => 0))), (u1 1, .inl (g.2.1, 21, .inl (fun _ => 0))), (u1 2, .inl (g.2.2.1, 21, .inr (.inl (fun _ => 0)))), (q2, .inr (0, [.ref (u2 0), .ref (u2 1), .ref (u2 2), .ref (u2 3), .ref (u2 4), .ref (u2 5), .ref (u2 6), .int (nI 0)])), (u2 0, .inl (g.2.1, 201, .inl (fun _ => 0))), (u2 1, .inl (g.2.1, 201, .inl (fun _ => 0))), (u2 2, .inl (g.2.1, 201, .inl (fun _ => 0))), (u2 3, .inl (g.2.2.1, 201, .inr (.inl (fun _ => 0)))), (u2 4, .inl (g.2.2.1, 201, .inr (.inl (fun _ => 0)))), (u2 5, .inl (g.2.2.2, 201, .inl (fun j => vr_b ((fun _ => false) j)))), (u2 6, .inl (g.2.1, 201, .inl (fun j => nI ((fun _ => 0) j)))), (q3, .inr (2, [.ref (u3 0)])), (u3 0, .inl (g.2.2.1, 804, .inr (.inl (fun _ => 0))))]) (rest := [.ref q4, .ref h0]) hF (xc_Batches_init l g q4) (fun _ h => by cases h) (fun _ h => by cases h) (vr_goodc vr_hbc cdX1_init) rfl rfl rfl (vr_m iniX1) (hN (Cond.methodLinkNest RX4 32 yX1_init RX4) (List.mem_of_getElem? (i := 3) rfl)) (vr_m imX1_init) rfl (by decide +kernel) ⟨Nat.le_of_ble_eq_true rfl, Nat.le_of_ble_eq_true rfl⟩ ⟨Nat.le_of_ble_eq_true rfl, Nat.le_of_ble_eq_true rfl⟩ (Nat.le_of_ble_eq_true rfl) dX4_init_42 rfl [15] [0, 1, 2, 3, 4, 5, 6, 7, 8, 9, 10, 11, 12, 13, 14] rfl rfl rfl rfl (by decide) (fun u4 => ?_)
  refine vr_to (ws' := [(h0, .inr (4, [.ref q1, .ref q2, .ref q3, .null])), (q1, .inr (3, [.ref (u1 0), .ref (u1 1), .ref (u1 2), .int (nI 0)])), (u1 0, .inl (g.2.1, 21, .inl (fun _ => 0))), (u1 1, .inl (g.2.1, 21, .inl (fun _ => 0))), (u1 2, .inl (g.2.2.1, 21, .inr (.inl (fun _ => 0)))), (q2, .inr (0, [.ref (u2 0), .ref (u2 1), .ref (u2 2), .ref (u2 3), .ref (u2 4), .ref (u2 5), .ref (u2 6), .int (nI 0)])), (u2 0, .inl (g.2.1, 201, .inl (fun _ => 0))), (u2 1, .inl (g.2.1, 201, .inl (fun _ => 0))), (u2 2, .inl (g.2.1, 201, .inl (fun _ => 0))), (u2 3, .inl (g.2.2.1, 201, .inr (.inl (fun _ => 0)))), (u2 4, .inl (g.2.2.1, 201, .inr (.inl (fun _ => 0)))), (u2 5, .inl (g.2.2.2, 201, .inl (fun j => vr_b ((fun _ => false) j)))), (u2 6, .inl (g.2.1, 201, .inl (fun j => nI ((fun _ => 0) j)))), (q3, .inr (2, [.ref (u3 0)])), (u3 0, .inl (g.2.2.1, 804, .inr (.inl (fun _ => 0)))), (q4, .inr (1, [.ref (u4 0), .int (nI 0)])), (u4 0, .inl (g.2.1, 201, .inl (fun _ => 0)))]) (lv' := [(0, .ref h0)]) (st' := [.ref q4, .ref h0]) rfl rfl rfl ?_
  refine vr_putF (ws' := [(h0, .inr (4, [.ref q1, .ref q2, .ref q3, .ref q4])), (q1, .inr (3, [.ref (u1 0), .ref (u1 1), .ref (u1 2), .int (nI 0)])), (u1 0, .inl (g.2.1, 21, .inl (fun _ => 0))), (u1 1, .inl (g.2.1, 21, .inl (fun _ => 0))), (u1 2, .inl (g.2.2.1, 21, .inr (.inl (fun _ => 0)))), (q2, .inr (0, [.ref (u2 0), .ref (u2 1), .ref (u2 2), .ref (u2 3), .ref (u2 4), .ref (u2 5), .ref (u2 6), .int (nI 0)])), (u2 0, .inl (g.2.1, 201, .inl (fun _ => 0))), (u2 1, .inl (g.2.1, 201, .inl (fun _ => 0))), (u2 2, .inl (g.2.1, 201, .inl (fun _ => 0))), (u2 3, .inl (g.2.2.1, 201, .inr (.inl (fun _ => 0)))), (u2 4, .inl (g.2.2.1, 201, .inr (.inl (fun _ => 0)))), (u2 5, .inl (g.2.2.2, 201, .inl (fun j => vr_b ((fun _ => false) j)))), (u2 6, .inl (g.2.1, 201, .inl (fun j => nI ((fun _ => 0) j)))), (q3, .inr (2, [.ref (u3 0)])), (u3 0, .inl (g.2.2.1, 804, .inr (.inl (fun _ => 0)))), (q4, .inr (1, [.ref (u4 0), .int (nI 0)])), (u4 0, .inl (g.2.1, 201, .inl (fun _ => 0)))]) hF 0 3 (vr_in inX4) (vr_m flX4_33) rfl (by decide) rfl rfl tyX4 tyX4_ok nmX4 rfl hin rfl rfl rfl (Nat.le_of_ble_eq_true rfl) rfl dX4_init_45 rfl ?_
  refine vr_wsub (ws' := [(h0, .inr (4, [.ref q1, .ref q2, .ref q3, .ref q4])), (q1, .inr (3, [.ref (u1 0), .ref (u1 1), .ref (u1 2), .int (nI 0)])), (q2, .inr (0, [.ref (u2 0), .ref (u2 1), .ref (u2 2), .ref (u2 3), .ref (u2 4), .ref (u2 5), .ref (u2 6), .int (nI 0)])), (q3, .inr (2, [.ref (u3 0)])), (q4, .inr (1, [.ref (u4 0), .int (nI 0)])), (u1 0, .inl (g.2.1, 21, .inl (fun _ => 0))), (u1 1, .inl (g.2.1, 21, .inl (fun _ => 0))), (u1 2, .inl (g.2.2.1, 21, .inr (.inl (fun _ => 0)))), (u2 0, .inl (g.2.1, 201, .inl (fun _ => 0))), (u2 1, .inl (g.2.1, 201, .inl (fun _ => 0))), (u2 2, .inl (g.2.1, 201, .inl (fun _ => 0))), (u2 3, .inl (g.2.2.1, 201, .inr (.inl (fun _ => 0)))), (u2 4, .inl (g.2.2.1, 201, .inr (.inl (fun _ => 0)))), (u2 5, .inl (g.2.2.2, 201, .inl (fun j => vr_b ((fun _ => false) j)))), (u2 6, .inl (g.2.1, 201, .inl (fun j => nI ((fun _ => 0) j)))), (u3 0, .inl (g.2.2.1, 804, .inr (.inl (fun _ => 0)))), (u4 0, .inl (g.2.1, 201, .inl (fun _ => 0)))]) [0, 1, 5, 13, 15, 2, 3, 4, 6, 7, 8, 9, 10, 11, 12, 14, 16] rfl rfl ?_
  exact hret (fun i => match i with | 0 => q1 | 1 => q2 | 2 => q3 | 3 => q4 | 4 => u1 0 | 5 => u1 1 | 6 => u1 2 | 7 => u2 0 | 8 => u2 1 | 9 => u2 2 | 10 => u2 3 | 11 => u2 4 | 12 => u2 5 | 13 => u2 6 | 14 => u3 0 | _ => u4 0) _ _ dX4_init_48
end
section
/-! the reference's state as a mathematical value, and what its methods answer -/
-- acts: record, field, value, valid, known, undone, acts
abbrev vm_A : Type := (Nat → Int32) × (Nat → Int32) × (Nat → Int32) × (Nat → Int64) × (Nat → Int64) × (Nat → Bool) × Nat
abbrev tm_r (t : vm_A) : Nat → Int32 := t.1
abbrev tm_f (t : vm_A) : Nat → Int32 := t.2.1
abbrev tm_v (t : vm_A) : Nat → Int32 := t.2.2.1
abbrev tm_d (t : vm_A) : Nat → Int64 := t.2.2.2.1
abbrev tm_k (t : vm_A) : Nat → Int64 := t.2.2.2.2.1
abbrev tm_u (t : vm_A) : Nat → Bool := t.2.2.2.2.2.1
abbrev tm_n (t : vm_A) : Nat := t.2.2.2.2.2.2
abbrev tm_setU (t : vm_A) (u : Nat → Bool) : vm_A := (tm_r t, tm_f t, tm_v t, tm_d t, tm_k t, u, tm_n t)
abbrev vm_t0 : vm_A := (fun _ => 0, fun _ => 0, fun _ => 0, fun _ => 0, fun _ => 0, fun _ => false, 0)
/-- the cells of a VersionRowsModel -/
def vm_w (g : vr_G) (a : Nat → Nat) (r : vx_R) (t : vm_A) (w : Nat → Bool) (b : vx_B) : va_W :=
  [(a 0, .inr (5, [.int (nI 0), .int (nI (rr_n r)), .ref (a 1), .ref (a 2), .ref (a 3), .int (nI (tm_n t)), .ref (a 4), .ref (a 5), .ref (a 6), .ref (a 7), .ref (a 8), .ref (a 9), .ref (a 10), .ref (a 11), .int (nI (tb_n b))])),
   (a 1, .inl (g.2.1, 21, .inl (rr_k r))),
   (a 2, .inl (g.2.1, 21, .inl (rr_l r))),
   (a 3, .inl (g.2.2.1, 21, .inr (.inl (rr_u r)))),
   (a 4, .inl (g.2.1, 201, .inl (tm_r t))),
   (a 5, .inl (g.2.1, 201, .inl (tm_f t))),
   (a 6, .inl (g.2.1, 201, .inl (tm_v t))),
   (a 7, .inl (g.2.2.1, 201, .inr (.inl (tm_d t)))),
   (a 8, .inl (g.2.2.1, 201, .inr (.inl (tm_k t)))),
   (a 9, .inl (g.2.2.2, 201, .inl (fun j => vr_b (tm_u t j)))),
   (a 10, .inl (g.2.1, 201, .inl (tb_o b))),
   (a 11, .inl (g.2.2.2, 40401, .inl (fun j => vr_b (w j))))]
def vm_ok (r : vx_R) (t : vm_A) (b : vx_B) : Prop := rr_n r ≤ 20 ∧ tm_n t ≤ 200 ∧ tb_n b ≤ 30
def mm_is (n : Nat) (i : Int32) : Bool := if i ≤ 0 then false else if nI n < i then false else true
theorem mm_is_has (n : Nat) (i : Int32) : mm_is n i = vx_has n i := by
  have e : (i ≤ 0) ↔ (i < nI 1) := by
    rw [Int32.le_iff_toInt_le, Int32.lt_iff_toInt_lt]
    have h1 : (nI 1).toInt = 1 := by decide
    have h2 : (0 : Int32).toInt = 0 := by decide
    rw [h1, h2]; omega
  unfold mm_is vx_has
  by_cases h : i ≤ 0
  · rw [if_pos h, if_pos (e.mp h)]
  · rw [if_neg h, if_neg (fun q => h (e.mpr q))]
def mm_isF (r : vx_R) (rc fd : Int32) : Bool := if mm_is (rr_n r) rc = true then (if fd < 0 then false else if nI 8 ≤ fd then false else true) else false
theorem mm_isF_eq (r : vx_R) (rc fd : Int32) : mm_isF r rc fd = xv_hasF r rc fd := by unfold mm_isF xv_hasF; rw [mm_is_has]
theorem mm_isF_has {r : vx_R} {rc fd : Int32} (h : mm_isF r rc fd = true) : vx_has (rr_n r) rc = true := xv_hasF_has (by rw [← mm_isF_eq r rc fd]; exact h)
def mm_rec (r : vx_R) (kd : Int32) : Bool := if kd < 0 then false else if nI 3 < kd then false else if rr_n r = 20 then false else true
def mm_now (t : vm_A) : Nat → Nat → Int64 → Int64
  | 0, _, x => x
  | n + 1, k, x => if tm_n t < k then x else mm_now t n (k + 1) (if tm_k t k ≤ x then x else tm_k t k)
def mm_nowT (t : vm_A) : Int64 := mm_now t (tm_n t + 2) 1 vr_min
def mm_locked (r : vx_R) (t : vm_A) (k : Nat) : Bool := if rr_u r k ≤ mm_nowT t then false else true
def mm_same (t : vm_A) (k : Nat) (rc fd : Int32) (v vd kn : Int64) : Bool :=
  if tm_u t k = true then false else if tm_r t k = rc then (if tm_f t k = fd then (if (tm_v t k).toInt64 = v then (if tm_d t k = vd then (if tm_k t k = kn then true else false) else false) else false) else false) else false
def mm_find (t : vm_A) (rc fd : Int32) (v vd kn : Int64) : Nat → Nat → Nat
  | 0, _ => 0
  | n + 1, k => if tm_n t < k then 0 else if mm_same t k rc fd v vd kn = true then k else mm_find t rc fd v vd kn n (k + 1)
def mm_stop (r : vx_R) (t : vm_A) (k : Nat) (fd : Int32) (v : Int64) : Bool :=
  if fd = 0 then (if v = 1 then (if rr_k r k = nI 1 then true else if tm_n t = 200 then true else false) else if tm_n t = 200 then true else false) else if tm_n t = 200 then true else false
def mm_new (t : vm_A) (rc fd : Int32) (v vd kn : Int64) : vm_A :=
  (upd (tm_r t) (tm_n t + 1) rc, upd (tm_f t) (tm_n t + 1) fd, upd (tm_v t) (tm_n t + 1) v.toInt32, vp_updL (tm_d t) (tm_n t + 1) vd, vp_updL (tm_k t) (tm_n t + 1) kn, tm_u t, tm_n t + 1)
def mm_finN (r : vx_R) (t : vm_A) (k : Nat) (fd : Int32) (v : Int64) (f : Nat) : Nat := if f = 0 then (if mm_stop r t k fd v = true then 0 else tm_n t + 1) else f
def mm_finT (r : vx_R) (t : vm_A) (k : Nat) (fd : Int32) (v vd kn : Int64) (f : Nat) : vm_A := if f = 0 then (if mm_stop r t k fd v = true then t else mm_new t (nI k) fd v vd kn) else t
def mm_actOk (r : vx_R) (t : vm_A) (rc fd : Int32) (v : Int64) : Bool :=
  if mm_isF r rc fd = true then (if v < 0 then false else if 2147483647 < v then false else if mm_locked r t rc.toNatClampNeg = true then false else true) else false
def mm_actN (r : vx_R) (t : vm_A) (rc fd : Int32) (v vd kn : Int64) : Nat := if mm_actOk r t rc fd v = true then mm_finN r t rc.toNatClampNeg fd v (mm_find t rc fd v vd kn (tm_n t + 2) 1) else 0
def mm_actT (r : vx_R) (t : vm_A) (rc fd : Int32) (v vd kn : Int64) : vm_A := if mm_actOk r t rc fd v = true then mm_finT r t rc.toNatClampNeg fd v vd kn (mm_find t rc fd v vd kn (tm_n t + 2) 1) else t
def mm_isOf (t : vm_A) (k : Nat) (rc fd : Int32) : Bool := if tm_r t k = rc then (if tm_f t k = fd then true else false) else false
def mm_before (t : vm_A) (i j : Nat) : Bool := if tm_k t i = tm_k t j then (if tm_d t i = tm_d t j then (if j ≤ i then false else true) else (if tm_d t j ≤ tm_d t i then false else true)) else (if tm_k t j ≤ tm_k t i then false else true)
def mm_lc (t : vm_A) (rc fd : Int32) (mo : Int64) (k bst : Nat) : Bool :=
  if mm_isOf t k rc fd = true then (if tm_u t k = true then false else if mo < tm_k t k then false else if bst = 0 then true else if mm_before t bst k = true then true else false) else false
def mm_last (t : vm_A) (rc fd : Int32) (mo : Int64) : Nat → Nat → Nat → Nat
  | 0, _, bst => bst
  | n + 1, k, bst => if tm_n t < k then bst else mm_last t rc fd mo n (k + 1) (if mm_lc t rc fd mo k bst = true then k else bst)
def mm_lastT (t : vm_A) (rc fd : Int32) (mo : Int64) : Nat := mm_last t rc fd mo (tm_n t + 2) 1 0
theorem mm_last_le (t : vm_A) (rc fd : Int32) (mo : Int64) : ∀ n k bst, bst ≤ tm_n t → mm_last t rc fd mo n k bst ≤ tm_n t := by
  intro n
  induction n with
  | zero => intro k bst h; exact h
  | succ n ih =>
    intro k bst h
    rw [mm_last]
    split
    · exact h
    · apply ih
      split
      · omega
      · exact h
def mm_at (r : vx_R) (t : vm_A) (rc fd : Int32) (mo : Int64) : Int32 := if mm_isF r rc fd = true then (if mm_lastT t rc fd mo = 0 then -1 else tm_v t (mm_lastT t rc fd mo)) else -1
abbrev vr_max : Int64 := 9223372036854775807
def mm_stale (r : vx_R) (t : vm_A) (rc : Int32) (mo : Int64) (fd : Int32) : Int32 :=
  if mm_isF r rc fd = true then
    (if mm_lastT t rc fd vr_max = 0 then 1 else if mo < tm_k t (mm_lastT t rc fd vr_max) then
      (if mm_lastT t rc fd mo = 0 then 0 else if tm_v t (mm_lastT t rc fd mo) = tm_v t (mm_lastT t rc fd vr_max) then 2 else 0) else 1)
  else -1
def mm_l1 (t : vm_A) (w : Nat → Bool) (b : vx_B) (k : Nat) (but : Int32) (j : Nat) : Bool :=
  if w (201 * j + k) = true then (if tm_u t j = true then false else if but = 0 then true else if tb_o b j = but then false else true) else false
def mm_lo (t : vm_A) (w : Nat → Bool) (b : vx_B) (k : Nat) (but : Int32) : Nat → Nat → Bool → Bool
  | 0, _, is => is
  | n + 1, j, is => if tm_n t < j then is else mm_lo t w b k but n (j + 1) (if is = true then true else mm_l1 t w b k but j)
def mm_loT (t : vm_A) (w : Nat → Bool) (b : vx_B) (k : Nat) (but : Int32) : Bool := mm_lo t w b k but (tm_n t + 2) 1 false
def mm_undo (t : vm_A) (w : Nat → Bool) (b : vx_B) (i : Int32) : Bool := if mm_is (tm_n t) i = true then (if tm_u t i.toNatClampNeg = true then false else if mm_loT t w b i.toNatClampNeg (nI 0) = true then false else true) else false
def mm_lean (t : vm_A) (w : Nat → Bool) (i o : Int32) : Bool := if mm_is (tm_n t) i = true then (if mm_is (tm_n t) o = true then (if i.toNatClampNeg ≤ o.toNatClampNeg then false else if w (201 * i.toNatClampNeg + o.toNatClampNeg) = true then false else true) else false) else false
def mm_lock (r : vx_R) (t : vm_A) (rc who : Int32) : Bool := if mm_is (rr_n r) rc = true then (if mm_locked r t rc.toNatClampNeg = true then (if rr_l r rc.toNatClampNeg = who then true else false) else true) else false
def mm_batN (b : vx_B) (f to n k : Nat) : Nat := if xb_taken b to n k = true then 0 else tb_n b + 1
def mm_batB (b : vx_B) (f to n k : Nat) : vx_B := if xb_taken b to n k = true then b else xb_add b f to
def mm_batOk (t : vm_A) (b : vx_B) (f to : Int32) : Bool := if mm_is (tm_n t) f = true then (if mm_is (tm_n t) to = true then (if to.toNatClampNeg < f.toNatClampNeg then false else if tb_n b = 30 then false else true) else false) else false
def mm_dn (t : vm_A) (b : vx_B) (bt : Int32) : Nat → Nat → Nat → Nat
  | 0, _, d => d
  | n + 1, k, d => if tm_n t < k then d else if tb_o b k = bt then (if tm_u t k = true then mm_dn t b bt n (k + 1) d else mm_dn t b bt n (k + 1) (d + 1)) else mm_dn t b bt n (k + 1) d
def mm_dh (t : vm_A) (w : Nat → Bool) (b : vx_B) (bt : Int32) : Nat → Nat → Bool → Bool
  | 0, _, h => h
  | n + 1, k, h => if tm_n t < k then h else if tb_o b k = bt then (if tm_u t k = true then mm_dh t w b bt n (k + 1) h else mm_dh t w b bt n (k + 1) (if h = true then true else if mm_loT t w b k bt = true then true else false)) else mm_dh t w b bt n (k + 1) h
def mm_du (t : vm_A) (b : vx_B) (bt : Int32) : Nat → Nat → (Nat → Bool) → (Nat → Bool)
  | 0, _, u => u
  | n + 1, k, u => if tm_n t < k then u else mm_du t b bt n (k + 1) (vr_ub u k (if u k = true then true else if tb_o b k = bt then true else false))
def mm_dropOk (b : vx_B) (bt : Int32) : Bool := if bt < nI 1 then false else if bt ≤ nI (tb_n b) then true else false
def mm_dropN (t : vm_A) (w : Nat → Bool) (b : vx_B) (bt : Int32) (n k d : Nat) (h : Bool) : Nat := if mm_dh t w b bt n k h = true then 0 else mm_dn t b bt n k d
def mm_dropU (t : vm_A) (w : Nat → Bool) (b : vx_B) (bt : Int32) (n k : Nat) (h : Bool) : Nat → Bool := if mm_dh t w b bt n k h = true then tm_u t else mm_du t b bt (tm_n t + 2) 1 (tm_u t)
def mm_conf (t : vm_A) (i j : Nat) : Bool :=
  if tm_u t i = true then false else if tm_u t j = true then false else if mm_isOf t i (tm_r t j) (tm_f t j) = true then (if tm_k t i = tm_k t j then (if tm_v t i = tm_v t j then false else true) else false) else false
def mm_pair (t : vm_A) (what : Int32) (i : Nat) : Nat → Nat → Nat → Nat → Int32
  | 0, _, _, _ => -1
  | n + 1, lo, hi, sn =>
    if tm_n t < hi then (if tm_n t < lo + 1 then -1 else mm_pair t what i n (lo + 1) (lo + 1 + 1) sn)
    else if mm_conf t lo hi = true then (if sn = i then (if what = 0 then nI lo else if what = nI 1 then nI hi else -1) else mm_pair t what i n lo (hi + 1) (sn + 1)) else mm_pair t what i n lo (hi + 1) sn
def mm_cf (t : vm_A) (i what : Int32) : Int32 := if tm_n t < 1 then -1 else if i < 0 then -1 else mm_pair t what i.toNatClampNeg 40804 1 2 0
def mm_bf (t : vm_A) (rc fd : Int32) (k : Nat) : Nat → Nat → Nat → Nat
  | 0, _, c => c
  | n + 1, j, c => if tm_n t < j then c else mm_bf t rc fd k n (j + 1) (c + (if mm_isOf t j rc fd = true then (if mm_before t j k = true then 1 else 0) else 0))
def mm_bfT (t : vm_A) (rc fd : Int32) (k : Nat) : Nat := mm_bf t rc fd k (tm_n t + 2) 1 0
theorem mm_bf_le (t : vm_A) (rc fd : Int32) (k : Nat) : ∀ n j c, mm_bf t rc fd k n j c ≤ c + n := by
  intro n
  induction n with
  | zero => intro j c; simp [mm_bf]
  | succ n ih =>
    intro j c
    rw [mm_bf]
    split
    · omega
    · refine Nat.le_trans (ih _ _) ?_
      split
      · split <;> omega
      · omega
def mm_h (r : vx_R) (t : vm_A) (rc fd : Int32) (i : Nat) : Nat → Nat → Nat
  | 0, _ => 0
  | n + 1, k => if tm_n t < k then 0 else if mm_isF r rc fd = true then (if mm_isOf t k rc fd = true then (if mm_bfT t rc fd k = i then k else mm_h r t rc fd i n (k + 1)) else mm_h r t rc fd i n (k + 1)) else 0
def mm_hist (r : vx_R) (t : vm_A) (rc fd i : Int32) : Nat := if i < 0 then 0 else mm_h r t rc fd i.toNatClampNeg (tm_n t + 2) 1
theorem vr_n10 : ¬ nI 1 = 0 := by decide
end
section
def rm_xw_VModel_isRecord : Room := { frames := 0, cells := 0, slots := 0, locals := 0 }
set_option maxHeartbeats 4000000 in
set_option maxRecDepth 100000 in
theorem xc_VModel_isRecord (l : Launch) (g : vr_G) (a : Nat → Nat) (r : vx_R) (t : vm_A) (w : Nat → Bool) (b : vx_B) (i : Int32) : vr_Ci l yX5_isRecord wsX5_isRecord rm_xw_VModel_isRecord g.1 (vr_tys g) [.ref (a 0), .int i] (vm_w g a r t w b) (vm_w g a r t w b) (vr_b (mm_is (rr_n r) i)) := by
  refine vr_Ci_mk (cc := cX5_isRecord) (nL := 2) (ty := .boolean) (vr_nz _) (by decide) rfl (Nat.le_of_ble_eq_true rfl) ?_
  intro p e s m args below meth c A Q hF hret
  refine vr_to (ws' := (vm_w g a r t w b)) (lv' := [(0, .ref (a 0)), (1, .int i)]) (st' := []) rfl rfl rfl ?_
  refine vr_iload_n hF 1 rfl dX5_isRecord_0 rfl rfl ?_
  refine vr_if_le (tgt := 16) hF dX5_isRecord_1 (by decide) rfl (fun c_1 => ?_) (fun c_1 => ?_)
  · skip
    refine vr_iconst (v := nI 0) hF dX5_isRecord_16 (by decide +kernel) rfl ?_
    exact vr_reti hret dX5_isRecord_17 (by simp [mm_is, vr_bt, vr_bf, c_1])
  · skip
    refine vr_iload_n hF 1 rfl dX5_isRecord_4 rfl rfl ?_
    refine vr_aload_n hF 0 rfl dX5_isRecord_5 rfl rfl ?_
    refine vr_get (v := .int (nI (rr_n r))) hF 0 1 (vr_in inX5) (vr_m flX5_50) rfl (by decide) rfl rfl rfl dX5_isRecord_6 rfl ?_
    refine vr_icmp_gt (tgt := 16) hF dX5_isRecord_9 (by decide) rfl (fun c_9 => ?_) (fun c_9 => ?_)
    · skip
      refine vr_iconst (v := nI 0) hF dX5_isRecord_16 (by decide +kernel) rfl ?_
      exact vr_reti hret dX5_isRecord_17 (by simp [mm_is, vr_bt, vr_bf, c_1, c_9])
    · skip
      refine vr_iconst (v := nI 1) hF dX5_isRecord_12 (by decide +kernel) rfl ?_
      refine vr_goto (tgt := 17) hF dX5_isRecord_13 (by decide) ?_
      exact vr_reti hret dX5_isRecord_17 (by simp [mm_is, vr_bt, vr_bf, c_1, c_9])
def rm_xw_VModel_isAct : Room := { frames := 0, cells := 0, slots := 0, locals := 0 }
set_option maxHeartbeats 4000000 in
set_option maxRecDepth 100000 in
theorem xc_VModel_isAct (l : Launch) (g : vr_G) (a : Nat → Nat) (r : vx_R) (t : vm_A) (w : Nat → Bool) (b : vx_B) (i : Int32) : vr_Ci l yX5_isAct wsX5_isAct rm_xw_VModel_isAct g.1 (vr_tys g) [.ref (a 0), .int i] (vm_w g a r t w b) (vm_w g a r t w b) (vr_b (mm_is (tm_n t) i)) := by
  refine vr_Ci_mk (cc := cX5_isAct) (nL := 2) (ty := .boolean) (vr_nz _) (by decide) rfl (Nat.le_of_ble_eq_true rfl) ?_
  intro p e s m args below meth c A Q hF hret
  refine vr_to (ws' := (vm_w g a r t w b)) (lv' := [(0, .ref (a 0)), (1, .int i)]) (st' := []) rfl rfl rfl ?_
  refine vr_iload_n hF 1 rfl dX5_isAct_0 rfl rfl ?_
  refine vr_if_le (tgt := 16) hF dX5_isAct_1 (by decide) rfl (fun c_1 => ?_) (fun c_1 => ?_)
  · skip
    refine vr_iconst (v := nI 0) hF dX5_isAct_16 (by decide +kernel) rfl ?_
    exact vr_reti hret dX5_isAct_17 (by simp [mm_is, vr_bt, vr_bf, c_1])
  · skip
    refine vr_iload_n hF 1 rfl dX5_isAct_4 rfl rfl ?_
    refine vr_aload_n hF 0 rfl dX5_isAct_5 rfl rfl ?_
    refine vr_get (v := .int (nI (tm_n t))) hF 0 5 (vr_in inX5) (vr_m flX5_53) rfl (by decide) rfl rfl rfl dX5_isAct_6 rfl ?_
    refine vr_icmp_gt (tgt := 16) hF dX5_isAct_9 (by decide) rfl (fun c_9 => ?_) (fun c_9 => ?_)
    · skip
      refine vr_iconst (v := nI 0) hF dX5_isAct_16 (by decide +kernel) rfl ?_
      exact vr_reti hret dX5_isAct_17 (by simp [mm_is, vr_bt, vr_bf, c_1, c_9])
    · skip
      refine vr_iconst (v := nI 1) hF dX5_isAct_12 (by decide +kernel) rfl ?_
      refine vr_goto (tgt := 17) hF dX5_isAct_13 (by decide) ?_
      exact vr_reti hret dX5_isAct_17 (by simp [mm_is, vr_bt, vr_bf, c_1, c_9])
def rm_xw_VModel_isField : Room := { frames := 1, cells := 0, slots := 0, locals := 21 }
set_option maxHeartbeats 4000000 in
set_option maxRecDepth 100000 in
theorem xc_VModel_isField (l : Launch) (g : vr_G) (a : Nat → Nat) (r : vx_R) (t : vm_A) (w : Nat → Bool) (b : vx_B) (rc : Int32) (fd : Int32) : vr_Ci l yX5_isField wsX5_isField rm_xw_VModel_isField g.1 (vr_tys g) [.ref (a 0), .int rc, .int fd] (vm_w g a r t w b) (vm_w g a r t w b) (vr_b (mm_isF r rc fd)) := by
  refine vr_Ci_mk (cc := cX5_isField) (nL := 3) (ty := .boolean) (vr_nz _) (by decide) rfl (Nat.le_of_ble_eq_true rfl) ?_
  intro p e s m args below meth c A Q hF hret
  refine vr_to (ws' := (vm_w g a r t w b)) (lv' := [(0, .ref (a 0)), (1, .int rc), (2, .int fd)]) (st' := []) rfl rfl rfl ?_
  refine vr_aload_n hF 0 rfl dX5_isField_0 rfl rfl ?_
  refine vr_iload_n hF 1 rfl dX5_isField_1 rfl rfl ?_
  refine vr_callV_Ci (rest := []) (n0 := 1) hF (xc_VModel_isRecord l g a r t w b rc) (vr_gV vr_hbc mlX5_56 imX5_isRecord seX5_isRecord iniX5 cdX5_isRecord) rfl (by decide +kernel) rfl rfl rfl ⟨Nat.le_of_ble_eq_true rfl, Nat.le_of_ble_eq_true rfl⟩ ⟨Nat.zero_le _, Nat.zero_le _⟩ 0 rfl rfl rfl (Nat.le_of_ble_eq_true rfl) dX5_isField_2 rfl ?_
  refine vr_if_eqB (tgt := 22) hF dX5_isField_5 (by decide) rfl (fun c_5 => ?_) (fun c_5 => ?_)
  · skip
    refine vr_iconst (v := nI 0) hF dX5_isField_22 (by decide +kernel) rfl ?_
    exact vr_reti hret dX5_isField_23 (by simp [mm_isF, vr_bt, vr_bf, c_5])
  · skip
    refine vr_iload_n hF 2 rfl dX5_isField_8 rfl rfl ?_
    refine vr_if_lt (tgt := 22) hF dX5_isField_9 (by decide) rfl (fun c_9 => ?_) (fun c_9 => ?_)
    · skip
      refine vr_iconst (v := nI 0) hF dX5_isField_22 (by decide +kernel) rfl ?_
      exact vr_reti hret dX5_isField_23 (by simp [mm_isF, vr_bt, vr_bf, c_5, c_9])
    · skip
      refine vr_iload_n hF 2 rfl dX5_isField_12 rfl rfl ?_
      refine vr_bipush (v := nI 8) hF dX5_isField_13 (by decide +kernel) rfl ?_
      refine vr_icmp_ge (tgt := 22) hF dX5_isField_15 (by decide) rfl (fun c_15 => ?_) (fun c_15 => ?_)
      · skip
        refine vr_iconst (v := nI 0) hF dX5_isField_22 (by decide +kernel) rfl ?_
        exact vr_reti hret dX5_isField_23 (by simp [mm_isF, vr_bt, vr_bf, c_5, c_9, c_15])
      · skip
        refine vr_iconst (v := nI 1) hF dX5_isField_18 (by decide +kernel) rfl ?_
        refine vr_goto (tgt := 23) hF dX5_isField_19 (by decide) ?_
        exact vr_reti hret dX5_isField_23 (by simp [mm_isF, vr_bt, vr_bf, c_5, c_9, c_15])
def rm_xw_VModel_record : Room := { frames := 0, cells := 0, slots := 0, locals := 0 }
set_option maxHeartbeats 4000000 in
set_option maxRecDepth 100000 in
theorem xc_VModel_record (l : Launch) (g : vr_G) (a : Nat → Nat) (r : vx_R) (t : vm_A) (w : Nat → Bool) (b : vx_B) (kd : Int32) (h : vm_ok r t b) : vr_Ci l yX5_record wsX5_record rm_xw_VModel_record g.1 (vr_tys g) [.ref (a 0), .int kd] (vm_w g a r t w b) (vm_w g a (if mm_rec r kd = true then xr_add r kd else r) t w b) (nI (if mm_rec r kd = true then rr_n r + 1 else 0)) := by
  obtain ⟨hrn, htn, hbn⟩ := id h
  refine vr_Ci_mk (cc := cX5_record) (nL := 2) (ty := .int) rfl (by decide) rfl (Nat.le_of_ble_eq_true rfl) ?_
  intro p e s m args below meth c A Q hF hret
  refine vr_to (ws' := (vm_w g a r t w b)) (lv' := [(0, .ref (a 0)), (1, .int kd)]) (st' := []) rfl rfl rfl ?_
  refine vr_aload_n hF 0 rfl dX5_record_0 rfl rfl ?_
  refine vr_iconst (v := nI 0) hF dX5_record_1 (by decide +kernel) rfl ?_
  refine vr_put (ws' := (vm_w g a r t w b)) hF 0 0 (vr_in inX5) (vr_m flX5_46) rfl (by decide) rfl rfl tyX5 tyX5_ok nmX5 rfl rfl rfl (Nat.le_of_ble_eq_true rfl) rfl dX5_record_2 rfl ?_
  refine vr_iload_n hF 1 rfl dX5_record_5 rfl rfl ?_
  refine vr_if_lt (tgt := 23) hF dX5_record_6 (by decide) rfl (fun c_6 => ?_) (fun c_6 => ?_)
  · skip
    have hc : ¬ mm_rec r kd = true := by simp [mm_rec, c_6]
    refine vr_iconst (v := nI 0) hF dX5_record_23 (by decide +kernel) rfl ?_
    exact vr_retiw hret dX5_record_24 (by rw [if_neg hc]) (by rw [if_neg hc])
  · skip
    refine vr_iload_n hF 1 rfl dX5_record_9 rfl rfl ?_
    refine vr_iconst (v := nI 3) hF dX5_record_10 (by decide +kernel) rfl ?_
    refine vr_icmp_gt (tgt := 23) hF dX5_record_11 (by decide) rfl (fun c_11 => ?_) (fun c_11 => ?_)
    · skip
      have hc : ¬ mm_rec r kd = true := by simp [mm_rec, c_6, c_11]
      refine vr_iconst (v := nI 0) hF dX5_record_23 (by decide +kernel) rfl ?_
      exact vr_retiw hret dX5_record_24 (by rw [if_neg hc]) (by rw [if_neg hc])
    · skip
      refine vr_aload_n hF 0 rfl dX5_record_14 rfl rfl ?_
      refine vr_get (v := .int (nI (rr_n r))) hF 0 1 (vr_in inX5) (vr_m flX5_50) rfl (by decide) rfl rfl rfl dX5_record_15 rfl ?_
      refine vr_bipush (v := nI 20) hF dX5_record_18 (by decide +kernel) rfl ?_
      refine vr_icmp_neN (tgt := 25) (x := (rr_n r)) (y := 20) hF (by omega) (by omega) dX5_record_20 (by decide) rfl (fun c_20 => ?_) (fun c_20 => ?_)
      · skip
        have hc : mm_rec r kd = true := by simp [mm_rec, c_6, c_11, c_20]
        refine vr_aload_n hF 0 rfl dX5_record_25 rfl rfl ?_
        refine vr_dup hF dX5_record_26 rfl rfl ?_
        refine vr_get (v := .int (nI (rr_n r))) hF 0 1 (vr_in inX5) (vr_m flX5_50) rfl (by decide) rfl rfl rfl dX5_record_27 rfl ?_
        refine vr_iconst (v := nI 1) hF dX5_record_30 (by decide +kernel) rfl ?_
        refine vr_iadd (v := nI ((rr_n r) + 1)) hF dX5_record_31 (nI_add (rr_n r) 1) rfl ?_
        refine vr_put (ws' := (vm_w g a (rr_k r, rr_l r, rr_u r, (rr_n r) + 1) t w b)) hF 0 1 (vr_in inX5) (vr_m flX5_50) rfl (by decide) rfl rfl tyX5 tyX5_ok nmX5 rfl rfl rfl (Nat.le_of_ble_eq_true rfl) rfl dX5_record_32 rfl ?_
        refine vr_aload_n hF 0 rfl dX5_record_35 rfl rfl ?_
        refine vr_get (v := .ref (a 1)) hF 0 2 (vr_in inX5) (vr_m flX5_7) rfl (by decide) rfl rfl rfl dX5_record_36 rfl ?_
        refine vr_aload_n hF 0 rfl dX5_record_39 rfl rfl ?_
        refine vr_get (v := .int (nI ((rr_n r) + 1))) hF 0 1 (vr_in inX5) (vr_m flX5_50) rfl (by decide) rfl rfl rfl dX5_record_40 rfl ?_
        refine vr_iload_n hF 1 rfl dX5_record_43 rfl rfl ?_
        refine vr_iast (ws' := (vm_w g a (upd (rr_k r) ((rr_n r) + 1) kd, rr_l r, rr_u r, (rr_n r) + 1) t w b)) (i := (rr_n r) + 1) (x := kd) (n := 21) (f := (rr_k r)) hF 1 0 rfl rfl (by omega) (by decide) rfl dX5_record_44 rfl ?_
        refine vr_aload_n hF 0 rfl dX5_record_45 rfl rfl ?_
        refine vr_get (v := .ref (a 3)) hF 0 4 (vr_in inX5) (vr_m flX5_16) rfl (by decide) rfl rfl rfl dX5_record_46 rfl ?_
        refine vr_aload_n hF 0 rfl dX5_record_49 rfl rfl ?_
        refine vr_get (v := .int (nI ((rr_n r) + 1))) hF 0 1 (vr_in inX5) (vr_m flX5_50) rfl (by decide) rfl rfl rfl dX5_record_50 rfl ?_
        refine vr_ldc2 (v := vr_min) hF (vr_m kX5_60) dX5_record_53 rfl ?_
        refine vr_last (ws' := (vm_w g a (upd (rr_k r) ((rr_n r) + 1) kd, rr_l r, vp_updL (rr_u r) ((rr_n r) + 1) vr_min, (rr_n r) + 1) t w b)) (i := (rr_n r) + 1) (x := vr_min) (n := 21) (f := (rr_u r)) hF 3 1 rfl rfl (by omega) (by decide) rfl dX5_record_56 rfl ?_
        refine vr_aload_n hF 0 rfl dX5_record_57 rfl rfl ?_
        refine vr_get (v := .int (nI ((rr_n r) + 1))) hF 0 1 (vr_in inX5) (vr_m flX5_50) rfl (by decide) rfl rfl rfl dX5_record_58 rfl ?_
        exact vr_retiw hret dX5_record_61 (by rw [if_pos hc]; rfl) (by rw [if_pos hc])
      · skip
        have hc : ¬ mm_rec r kd = true := by simp [mm_rec, c_6, c_11, c_20]
        refine vr_iconst (v := nI 0) hF dX5_record_23 (by decide +kernel) rfl ?_
        exact vr_retiw hret dX5_record_24 (by rw [if_neg hc]) (by rw [if_neg hc])
def rm_xw_VModel_now : Room := { frames := 0, cells := 0, slots := 0, locals := 0 }
set_option maxHeartbeats 4000000 in
set_option maxRecDepth 100000 in
theorem xw_VModel_now_lp6 {p : Program} {l : Launch} {e : Env} {s : State} {m : MethodId} {args : Array Value} {below : List Frame} {meth : Method} {c : Code} {A : Nat → Prop} {Q : State → Prop} {g : vr_G} {a : Nat → Nat} (r : vx_R) (t : vm_A) (w : Nat → Bool) (b : vx_B) (h : vm_ok r t b)  (ans : Int64) (hF : vr_F p s m c cX5_now 4 args wsX5_now yX5_now.cls g.1 (vr_tys g) A) (hret : vr_RtL p l e rm_xw_VModel_now s m args below meth c cX5_now g.1 A 4 0 0 Q (vm_w g a r t w b) ans) : ∀ (n : Nat) (k : Nat) (x : Int64), (tm_n t + 1 < k + n) → (k ≤ tm_n t + 1) → (ans = mm_now t n k x) → vr_W p l e rm_xw_VModel_now s m args below meth c g.1 A 4 0 0 Q (vm_w g a r t w b) 6 [(0, .ref (a 0)), (1, .long x), (3, .int (nI k))] [] := by
  obtain ⟨hrn, htn, hbn⟩ := id h
  intro n
  induction n with
  | zero => intro k x hk1 hk2 hans; exact absurd hk1 (by omega)
  | succ n ih =>
    intro k x hk1 hk2 hans
    refine vr_iload_n hF 2 rfl dX5_now_6 rfl rfl ?_
    refine vr_aload_n hF 0 rfl dX5_now_7 rfl rfl ?_
    refine vr_get (v := .int (nI (tm_n t))) hF 0 5 (vr_in inX5) (vr_m flX5_53) rfl (by decide) rfl rfl rfl dX5_now_8 rfl ?_
    refine vr_icmp_gtN (tgt := 42) (x := k) (y := (tm_n t)) hF (by omega) (by omega) dX5_now_11 (by decide) rfl (fun c_11 => ?_) (fun c_11 => ?_)
    · skip
      refine vr_lload_n hF 1 rfl dX5_now_42 rfl rfl ?_
      exact vr_retl hret dX5_now_43 (by rw [hans, mm_now]; simp [vr_bt, vr_bf, c_11])
    · skip
      refine vr_aload_n hF 0 rfl dX5_now_14 rfl rfl ?_
      refine vr_get (v := .ref (a 8)) hF 0 10 (vr_in inX5) (vr_m flX5_32) rfl (by decide) rfl rfl rfl dX5_now_15 rfl ?_
      refine vr_iload_n hF 2 rfl dX5_now_18 rfl rfl ?_
      refine vr_lald (i := k) (n := 201) (f := (tm_k t)) hF 8 1 rfl rfl (by omega) (by decide) dX5_now_19 rfl ?_
      refine vr_lload_n hF 1 rfl dX5_now_20 rfl rfl ?_
      refine vr_lcmp_le (tgt := 34) hF dX5_now_21 dX5_now_22 (by decide) rfl (fun c_22 => ?_) (fun c_22 => ?_)
      · skip
        refine vr_lload_n hF 1 rfl dX5_now_34 rfl rfl ?_
        refine vr_lstore_n (lv' := [(1, .long x), (0, .ref (a 0)), (3, .int (nI k))]) hF dX5_now_35 rfl (by decide) rfl rfl ?_
        refine vr_iinc (lv' := [(3, .int (nI (k + 1))), (1, .long x), (0, .ref (a 0))]) hF (nI (k + 1)) 2 rfl dX5_now_36 (nI_1 k) (by decide) rfl rfl ?_
        refine vr_goto (tgt := 6) hF dX5_now_39 (by decide) ?_
        refine vr_sub [2, 1, 0] rfl ?_
        exact ih (k + 1) x (by omega) (by omega) (by rw [hans, mm_now]; simp [c_11, c_22])
      · skip
        refine vr_aload_n hF 0 rfl dX5_now_25 rfl rfl ?_
        refine vr_get (v := .ref (a 8)) hF 0 10 (vr_in inX5) (vr_m flX5_32) rfl (by decide) rfl rfl rfl dX5_now_26 rfl ?_
        refine vr_iload_n hF 2 rfl dX5_now_29 rfl rfl ?_
        refine vr_lald (i := k) (n := 201) (f := (tm_k t)) hF 8 1 rfl rfl (by omega) (by decide) dX5_now_30 rfl ?_
        refine vr_goto (tgt := 35) hF dX5_now_31 (by decide) ?_
        refine vr_lstore_n (lv' := [(1, .long ((tm_k t) k)), (0, .ref (a 0)), (3, .int (nI k))]) hF dX5_now_35 rfl (by decide) rfl rfl ?_
        refine vr_iinc (lv' := [(3, .int (nI (k + 1))), (1, .long ((tm_k t) k)), (0, .ref (a 0))]) hF (nI (k + 1)) 2 rfl dX5_now_36 (nI_1 k) (by decide) rfl rfl ?_
        refine vr_goto (tgt := 6) hF dX5_now_39 (by decide) ?_
        refine vr_sub [2, 1, 0] rfl ?_
        exact ih (k + 1) ((tm_k t) k) (by omega) (by omega) (by rw [hans, mm_now]; simp [c_11, c_22])
set_option maxHeartbeats 4000000 in
set_option maxRecDepth 100000 in
theorem xc_VModel_now (l : Launch) (g : vr_G) (a : Nat → Nat) (r : vx_R) (t : vm_A) (w : Nat → Bool) (b : vx_B) (h : vm_ok r t b) : vr_Cl l yX5_now wsX5_now rm_xw_VModel_now g.1 (vr_tys g) [.ref (a 0)] (vm_w g a r t w b) (vm_w g a r t w b) (mm_nowT t) := by
  obtain ⟨hrn, htn, hbn⟩ := id h
  refine vr_Cl_mk (cc := cX5_now) (nL := 4) (by decide) rfl (Nat.le_of_ble_eq_true rfl) ?_
  intro p e s m args below meth c A Q hF hret
  refine vr_to (ws' := (vm_w g a r t w b)) (lv' := [(0, .ref (a 0))]) (st' := []) rfl rfl rfl ?_
  refine vr_ldc2 (v := vr_min) hF (vr_m kX5_60) dX5_now_0 rfl ?_
  refine vr_lstore_n (lv' := [(1, .long vr_min), (0, .ref (a 0))]) hF dX5_now_3 rfl (by decide) rfl rfl ?_
  refine vr_iconst (v := nI 1) hF dX5_now_4 (by decide +kernel) rfl ?_
  refine vr_istore_n (lv' := [(3, .int (nI 1)), (1, .long vr_min), (0, .ref (a 0))]) hF dX5_now_5 rfl (by decide) rfl rfl ?_
  refine vr_sub [2, 1, 0] rfl ?_
  exact xw_VModel_now_lp6 r t w b  h  _ hF hret (tm_n t + 2) 1 vr_min (by omega) (by omega) rfl
def rm_xw_VModel_isLocked : Room := { frames := 1, cells := 0, slots := 0, locals := 23 }
set_option maxHeartbeats 4000000 in
set_option maxRecDepth 100000 in
theorem xc_VModel_isLocked (l : Launch) (g : vr_G) (a : Nat → Nat) (r : vx_R) (t : vm_A) (w : Nat → Bool) (b : vx_B) (k : Nat) (h : vm_ok r t b) (hk : k ≤ 20) : vr_Ci l yX5_isLocked wsX5_isLocked rm_xw_VModel_isLocked g.1 (vr_tys g) [.ref (a 0), .int (nI k)] (vm_w g a r t w b) (vm_w g a r t w b) (vr_b (mm_locked r t k)) := by
  refine vr_Ci_mk (cc := cX5_isLocked) (nL := 2) (ty := .boolean) (vr_nz _) (by decide) rfl (Nat.le_of_ble_eq_true rfl) ?_
  intro p e s m args below meth c A Q hF hret
  refine vr_to (ws' := (vm_w g a r t w b)) (lv' := [(0, .ref (a 0)), (1, .int (nI k))]) (st' := []) rfl rfl rfl ?_
  refine vr_aload_n hF 0 rfl dX5_isLocked_0 rfl rfl ?_
  refine vr_callV_Cl (rest := []) (n0 := 0) hF (xc_VModel_now l g a r t w b h) (vr_gV vr_hbc mlX5_62 imX5_now seX5_now iniX5 cdX5_now) rfl (by decide +kernel) rfl rfl rfl ⟨Nat.le_of_ble_eq_true rfl, Nat.le_of_ble_eq_true rfl⟩ ⟨Nat.zero_le _, Nat.zero_le _⟩ 0 rfl rfl rfl (Nat.le_of_ble_eq_true rfl) dX5_isLocked_1 rfl ?_
  refine vr_aload_n hF 0 rfl dX5_isLocked_4 rfl rfl ?_
  refine vr_get (v := .ref (a 3)) hF 0 4 (vr_in inX5) (vr_m flX5_16) rfl (by decide) rfl rfl rfl dX5_isLocked_5 rfl ?_
  refine vr_iload_n hF 1 rfl dX5_isLocked_8 rfl rfl ?_
  refine vr_lald (i := k) (n := 21) (f := (rr_u r)) hF 3 1 rfl rfl (by omega) (by decide) dX5_isLocked_9 rfl ?_
  refine vr_lcmp_ge (tgt := 18) hF dX5_isLocked_10 dX5_isLocked_11 (by decide) rfl (fun c_11 => ?_) (fun c_11 => ?_)
  · skip
    refine vr_iconst (v := nI 0) hF dX5_isLocked_18 (by decide +kernel) rfl ?_
    exact vr_reti hret dX5_isLocked_19 (by simp [mm_locked, vr_bt, vr_bf, c_11])
  · skip
    refine vr_iconst (v := nI 1) hF dX5_isLocked_14 (by decide +kernel) rfl ?_
    refine vr_goto (tgt := 19) hF dX5_isLocked_15 (by decide) ?_
    exact vr_reti hret dX5_isLocked_19 (by simp [mm_locked, vr_bt, vr_bf, c_11])
def rm_xw_VModel_isOf : Room := { frames := 0, cells := 0, slots := 0, locals := 0 }
set_option maxHeartbeats 4000000 in
set_option maxRecDepth 100000 in
theorem xc_VModel_isOf (l : Launch) (g : vr_G) (a : Nat → Nat) (r : vx_R) (t : vm_A) (w : Nat → Bool) (b : vx_B) (k : Nat) (rc : Int32) (fd : Int32) (hk : k ≤ 200) : vr_Ci l yX5_isOf wsX5_isOf rm_xw_VModel_isOf g.1 (vr_tys g) [.ref (a 0), .int (nI k), .int rc, .int fd] (vm_w g a r t w b) (vm_w g a r t w b) (vr_b (mm_isOf t k rc fd)) := by
  refine vr_Ci_mk (cc := cX5_isOf) (nL := 4) (ty := .boolean) (vr_nz _) (by decide) rfl (Nat.le_of_ble_eq_true rfl) ?_
  intro p e s m args below meth c A Q hF hret
  refine vr_to (ws' := (vm_w g a r t w b)) (lv' := [(0, .ref (a 0)), (1, .int (nI k)), (2, .int rc), (3, .int fd)]) (st' := []) rfl rfl rfl ?_
  refine vr_aload_n hF 0 rfl dX5_isOf_0 rfl rfl ?_
  refine vr_get (v := .ref (a 4)) hF 0 6 (vr_in inX5) (vr_m flX5_20) rfl (by decide) rfl rfl rfl dX5_isOf_1 rfl ?_
  refine vr_iload_n hF 1 rfl dX5_isOf_4 rfl rfl ?_
  refine vr_iald (i := k) (n := 201) (f := (tm_r t)) hF 4 0 rfl rfl (by omega) (by decide) dX5_isOf_5 rfl ?_
  refine vr_iload_n hF 2 rfl dX5_isOf_6 rfl rfl ?_
  refine vr_icmp_ne (tgt := 24) hF dX5_isOf_7 (by decide) rfl (fun c_7 => ?_) (fun c_7 => ?_)
  · skip
    refine vr_iconst (v := nI 0) hF dX5_isOf_24 (by decide +kernel) rfl ?_
    exact vr_reti hret dX5_isOf_25 (by simp [mm_isOf, vr_bt, vr_bf, c_7])
  · skip
    refine vr_aload_n hF 0 rfl dX5_isOf_10 rfl rfl ?_
    refine vr_get (v := .ref (a 5)) hF 0 7 (vr_in inX5) (vr_m flX5_23) rfl (by decide) rfl rfl rfl dX5_isOf_11 rfl ?_
    refine vr_iload_n hF 1 rfl dX5_isOf_14 rfl rfl ?_
    refine vr_iald (i := k) (n := 201) (f := (tm_f t)) hF 5 0 rfl rfl (by omega) (by decide) dX5_isOf_15 rfl ?_
    refine vr_iload_n hF 3 rfl dX5_isOf_16 rfl rfl ?_
    refine vr_icmp_ne (tgt := 24) hF dX5_isOf_17 (by decide) rfl (fun c_17 => ?_) (fun c_17 => ?_)
    · skip
      refine vr_iconst (v := nI 0) hF dX5_isOf_24 (by decide +kernel) rfl ?_
      exact vr_reti hret dX5_isOf_25 (by simp [mm_isOf, vr_bt, vr_bf, c_7, c_17])
    · skip
      refine vr_iconst (v := nI 1) hF dX5_isOf_20 (by decide +kernel) rfl ?_
      refine vr_goto (tgt := 25) hF dX5_isOf_21 (by decide) ?_
      exact vr_reti hret dX5_isOf_25 (by simp [mm_isOf, vr_bt, vr_bf, c_7, c_17])
def rm_xw_VModel_isBefore : Room := { frames := 0, cells := 0, slots := 0, locals := 0 }
set_option maxHeartbeats 4000000 in
set_option maxRecDepth 100000 in
theorem xc_VModel_isBefore (l : Launch) (g : vr_G) (a : Nat → Nat) (r : vx_R) (t : vm_A) (w : Nat → Bool) (b : vx_B) (i : Nat) (j : Nat) (hi : i ≤ 200) (hj : j ≤ 200) : vr_Ci l yX5_isBefore wsX5_isBefore rm_xw_VModel_isBefore g.1 (vr_tys g) [.ref (a 0), .int (nI i), .int (nI j)] (vm_w g a r t w b) (vm_w g a r t w b) (vr_b (mm_before t i j)) := by
  refine vr_Ci_mk (cc := cX5_isBefore) (nL := 3) (ty := .boolean) (vr_nz _) (by decide) rfl (Nat.le_of_ble_eq_true rfl) ?_
  intro p e s m args below meth c A Q hF hret
  refine vr_to (ws' := (vm_w g a r t w b)) (lv' := [(0, .ref (a 0)), (1, .int (nI i)), (2, .int (nI j))]) (st' := []) rfl rfl rfl ?_
  refine vr_aload_n hF 0 rfl dX5_isBefore_0 rfl rfl ?_
  refine vr_get (v := .ref (a 8)) hF 0 10 (vr_in inX5) (vr_m flX5_32) rfl (by decide) rfl rfl rfl dX5_isBefore_1 rfl ?_
  refine vr_iload_n hF 1 rfl dX5_isBefore_4 rfl rfl ?_
  refine vr_lald (i := i) (n := 201) (f := (tm_k t)) hF 8 1 rfl rfl (by omega) (by decide) dX5_isBefore_5 rfl ?_
  refine vr_aload_n hF 0 rfl dX5_isBefore_6 rfl rfl ?_
  refine vr_get (v := .ref (a 8)) hF 0 10 (vr_in inX5) (vr_m flX5_32) rfl (by decide) rfl rfl rfl dX5_isBefore_7 rfl ?_
  refine vr_iload_n hF 2 rfl dX5_isBefore_10 rfl rfl ?_
  refine vr_lald (i := j) (n := 201) (f := (tm_k t)) hF 8 1 rfl rfl (by omega) (by decide) dX5_isBefore_11 rfl ?_
  refine vr_lcmp_eq (tgt := 38) hF dX5_isBefore_12 dX5_isBefore_13 (by decide) rfl (fun c_13 => ?_) (fun c_13 => ?_)
  · skip
    refine vr_aload_n hF 0 rfl dX5_isBefore_38 rfl rfl ?_
    refine vr_get (v := .ref (a 7)) hF 0 9 (vr_in inX5) (vr_m flX5_29) rfl (by decide) rfl rfl rfl dX5_isBefore_39 rfl ?_
    refine vr_iload_n hF 1 rfl dX5_isBefore_42 rfl rfl ?_
    refine vr_lald (i := i) (n := 201) (f := (tm_d t)) hF 7 1 rfl rfl (by omega) (by decide) dX5_isBefore_43 rfl ?_
    refine vr_aload_n hF 0 rfl dX5_isBefore_44 rfl rfl ?_
    refine vr_get (v := .ref (a 7)) hF 0 9 (vr_in inX5) (vr_m flX5_29) rfl (by decide) rfl rfl rfl dX5_isBefore_45 rfl ?_
    refine vr_iload_n hF 2 rfl dX5_isBefore_48 rfl rfl ?_
    refine vr_lald (i := j) (n := 201) (f := (tm_d t)) hF 7 1 rfl rfl (by omega) (by decide) dX5_isBefore_49 rfl ?_
    refine vr_lcmp_eq (tgt := 78) hF dX5_isBefore_50 dX5_isBefore_51 (by decide) rfl (fun c_51 => ?_) (fun c_51 => ?_)
    · skip
      refine vr_iload_n hF 1 rfl dX5_isBefore_78 rfl rfl ?_
      refine vr_iload_n hF 2 rfl dX5_isBefore_79 rfl rfl ?_
      refine vr_icmp_geN (tgt := 87) (x := i) (y := j) hF (by omega) (by omega) dX5_isBefore_80 (by decide) rfl (fun c_80 => ?_) (fun c_80 => ?_)
      · skip
        refine vr_iconst (v := nI 0) hF dX5_isBefore_87 (by decide +kernel) rfl ?_
        exact vr_reti hret dX5_isBefore_88 (by simp [mm_before, vr_bt, vr_bf, c_13, c_51, c_80])
      · skip
        refine vr_iconst (v := nI 1) hF dX5_isBefore_83 (by decide +kernel) rfl ?_
        refine vr_goto (tgt := 88) hF dX5_isBefore_84 (by decide) ?_
        exact vr_reti hret dX5_isBefore_88 (by simp [mm_before, vr_bt, vr_bf, c_13, c_51, c_80])
    · skip
      refine vr_aload_n hF 0 rfl dX5_isBefore_54 rfl rfl ?_
      refine vr_get (v := .ref (a 7)) hF 0 9 (vr_in inX5) (vr_m flX5_29) rfl (by decide) rfl rfl rfl dX5_isBefore_55 rfl ?_
      refine vr_iload_n hF 1 rfl dX5_isBefore_58 rfl rfl ?_
      refine vr_lald (i := i) (n := 201) (f := (tm_d t)) hF 7 1 rfl rfl (by omega) (by decide) dX5_isBefore_59 rfl ?_
      refine vr_aload_n hF 0 rfl dX5_isBefore_60 rfl rfl ?_
      refine vr_get (v := .ref (a 7)) hF 0 9 (vr_in inX5) (vr_m flX5_29) rfl (by decide) rfl rfl rfl dX5_isBefore_61 rfl ?_
      refine vr_iload_n hF 2 rfl dX5_isBefore_64 rfl rfl ?_
      refine vr_lald (i := j) (n := 201) (f := (tm_d t)) hF 7 1 rfl rfl (by omega) (by decide) dX5_isBefore_65 rfl ?_
      refine vr_lcmp_ge (tgt := 74) hF dX5_isBefore_66 dX5_isBefore_67 (by decide) rfl (fun c_67 => ?_) (fun c_67 => ?_)
      · skip
        refine vr_iconst (v := nI 0) hF dX5_isBefore_74 (by decide +kernel) rfl ?_
        refine vr_goto (tgt := 88) hF dX5_isBefore_75 (by decide) ?_
        exact vr_reti hret dX5_isBefore_88 (by simp [mm_before, vr_bt, vr_bf, c_13, c_51, c_67])
      · skip
        refine vr_iconst (v := nI 1) hF dX5_isBefore_70 (by decide +kernel) rfl ?_
        refine vr_goto (tgt := 88) hF dX5_isBefore_71 (by decide) ?_
        exact vr_reti hret dX5_isBefore_88 (by simp [mm_before, vr_bt, vr_bf, c_13, c_51, c_67])
  · skip
    refine vr_aload_n hF 0 rfl dX5_isBefore_16 rfl rfl ?_
    refine vr_get (v := .ref (a 8)) hF 0 10 (vr_in inX5) (vr_m flX5_32) rfl (by decide) rfl rfl rfl dX5_isBefore_17 rfl ?_
    refine vr_iload_n hF 1 rfl dX5_isBefore_20 rfl rfl ?_
    refine vr_lald (i := i) (n := 201) (f := (tm_k t)) hF 8 1 rfl rfl (by omega) (by decide) dX5_isBefore_21 rfl ?_
    refine vr_aload_n hF 0 rfl dX5_isBefore_22 rfl rfl ?_
    refine vr_get (v := .ref (a 8)) hF 0 10 (vr_in inX5) (vr_m flX5_32) rfl (by decide) rfl rfl rfl dX5_isBefore_23 rfl ?_
    refine vr_iload_n hF 2 rfl dX5_isBefore_26 rfl rfl ?_
    refine vr_lald (i := j) (n := 201) (f := (tm_k t)) hF 8 1 rfl rfl (by omega) (by decide) dX5_isBefore_27 rfl ?_
    refine vr_lcmp_ge (tgt := 36) hF dX5_isBefore_28 dX5_isBefore_29 (by decide) rfl (fun c_29 => ?_) (fun c_29 => ?_)
    · skip
      refine vr_iconst (v := nI 0) hF dX5_isBefore_36 (by decide +kernel) rfl ?_
      exact vr_reti hret dX5_isBefore_37 (by simp [mm_before, vr_bt, vr_bf, c_13, c_29])
    · skip
      refine vr_iconst (v := nI 1) hF dX5_isBefore_32 (by decide +kernel) rfl ?_
      refine vr_goto (tgt := 37) hF dX5_isBefore_33 (by decide) ?_
      exact vr_reti hret dX5_isBefore_37 (by simp [mm_before, vr_bt, vr_bf, c_13, c_29])
def rm_xw_VModel_last : Room := { frames := 1, cells := 0, slots := 0, locals := 23 }
set_option maxHeartbeats 4000000 in
set_option maxRecDepth 100000 in
theorem xw_VModel_last_lp6 {p : Program} {l : Launch} {e : Env} {s : State} {m : MethodId} {args : Array Value} {below : List Frame} {meth : Method} {c : Code} {A : Nat → Prop} {Q : State → Prop} {g : vr_G} {a : Nat → Nat} (r : vx_R) (t : vm_A) (w : Nat → Bool) (b : vx_B) (rc : Int32) (fd : Int32) (mo : Int64) (h : vm_ok r t b)  (ans : Int32) (hF : vr_F p s m c cX5_last 7 args wsX5_last yX5_last.cls g.1 (vr_tys g) A) (hret : vr_RtI p l e rm_xw_VModel_last s m args below meth c cX5_last g.1 A 7 0 0 Q (vm_w g a r t w b) ans) : ∀ (n : Nat) (k bst : Nat), (tm_n t + 1 < k + n) → (k ≤ tm_n t + 1) → (bst ≤ 200) → (ans = nI (mm_last t rc fd mo n k bst)) → vr_W p l e rm_xw_VModel_last s m args below meth c g.1 A 7 0 0 Q (vm_w g a r t w b) 6 [(0, .ref (a 0)), (1, .int rc), (2, .int fd), (3, .long mo), (5, .int (nI bst)), (6, .int (nI k))] [] := by
  obtain ⟨hrn, htn, hbn⟩ := id h
  intro n
  induction n with
  | zero => intro k bst hk1 hk2 hb hans; exact absurd hk1 (by omega)
  | succ n ih =>
    intro k bst hk1 hk2 hb hans
    refine vr_iload hF 5 rfl dX5_last_6 rfl ?_
    refine vr_aload_n hF 0 rfl dX5_last_8 rfl rfl ?_
    refine vr_get (v := .int (nI (tm_n t))) hF 0 5 (vr_in inX5) (vr_m flX5_53) rfl (by decide) rfl rfl rfl dX5_last_9 rfl ?_
    refine vr_icmp_gtN (tgt := 74) (x := k) (y := (tm_n t)) hF (by omega) (by omega) dX5_last_12 (by decide) rfl (fun c_12 => ?_) (fun c_12 => ?_)
    · skip
      refine vr_iload hF 4 rfl dX5_last_74 rfl ?_
      exact vr_reti hret dX5_last_76 (by rw [hans, mm_last]; simp [vr_bt, vr_bf, c_12])
    · skip
      refine vr_aload_n hF 0 rfl dX5_last_15 rfl rfl ?_
      refine vr_iload hF 5 rfl dX5_last_16 rfl ?_
      refine vr_iload_n hF 1 rfl dX5_last_18 rfl rfl ?_
      refine vr_iload_n hF 2 rfl dX5_last_19 rfl rfl ?_
      refine vr_callV_Ci (rest := []) (n0 := 3) hF (xc_VModel_isOf l g a r t w b k rc fd (by omega)) (vr_gV vr_hbc mlX5_75 imX5_isOf seX5_isOf iniX5 cdX5_isOf) rfl (by decide +kernel) rfl rfl rfl ⟨Nat.le_of_ble_eq_true rfl, Nat.le_of_ble_eq_true rfl⟩ ⟨Nat.zero_le _, Nat.zero_le _⟩ 0 rfl rfl rfl (Nat.le_of_ble_eq_true rfl) dX5_last_20 rfl ?_
      refine vr_if_eqB (tgt := 68) hF dX5_last_23 (by decide) rfl (fun c_23 => ?_) (fun c_23 => ?_)
      · skip
        refine vr_iinc (lv' := [(6, .int (nI (k + 1))), (0, .ref (a 0)), (1, .int rc), (2, .int fd), (3, .long mo), (5, .int (nI bst))]) hF (nI (k + 1)) 5 rfl dX5_last_68 (nI_1 k) (by decide) rfl rfl ?_
        refine vr_goto (tgt := 6) hF dX5_last_71 (by decide) ?_
        refine vr_sub [1, 2, 3, 4, 5, 0] rfl ?_
        exact ih (k + 1) bst (by omega) (by omega) (by omega) (by rw [hans, mm_last]; simp [mm_lc, c_12, c_23])
      · skip
        refine vr_aload_n hF 0 rfl dX5_last_26 rfl rfl ?_
        refine vr_get (v := .ref (a 9)) hF 0 11 (vr_in inX5) (vr_m flX5_35) rfl (by decide) rfl rfl rfl dX5_last_27 rfl ?_
        refine vr_iload hF 5 rfl dX5_last_30 rfl ?_
        refine vr_zald (i := k) (n := 201) (f := (fun j => vr_b ((tm_u t) j))) hF 9 2 rfl rfl (by omega) (by decide) dX5_last_32 rfl ?_
        refine vr_to (ws' := (vm_w g a r t w b)) (lv' := [(0, .ref (a 0)), (1, .int rc), (2, .int fd), (3, .long mo), (5, .int (nI bst)), (6, .int (nI k))]) (st' := [.int (vr_b ((tm_u t) k))]) rfl rfl rfl ?_
        refine vr_if_neB (tgt := 68) hF dX5_last_33 (by decide) rfl (fun c_33 => ?_) (fun c_33 => ?_)
        · skip
          refine vr_iinc (lv' := [(6, .int (nI (k + 1))), (0, .ref (a 0)), (1, .int rc), (2, .int fd), (3, .long mo), (5, .int (nI bst))]) hF (nI (k + 1)) 5 rfl dX5_last_68 (nI_1 k) (by decide) rfl rfl ?_
          refine vr_goto (tgt := 6) hF dX5_last_71 (by decide) ?_
          refine vr_sub [1, 2, 3, 4, 5, 0] rfl ?_
          exact ih (k + 1) bst (by omega) (by omega) (by omega) (by rw [hans, mm_last]; simp [mm_lc, c_12, c_23, c_33])
        · skip
          refine vr_aload_n hF 0 rfl dX5_last_36 rfl rfl ?_
          refine vr_get (v := .ref (a 8)) hF 0 10 (vr_in inX5) (vr_m flX5_32) rfl (by decide) rfl rfl rfl dX5_last_37 rfl ?_
          refine vr_iload hF 5 rfl dX5_last_40 rfl ?_
          refine vr_lald (i := k) (n := 201) (f := (tm_k t)) hF 8 1 rfl rfl (by omega) (by decide) dX5_last_42 rfl ?_
          refine vr_lload_n hF 3 rfl dX5_last_43 rfl rfl ?_
          refine vr_lcmp_gt (tgt := 68) hF dX5_last_44 dX5_last_45 (by decide) rfl (fun c_45 => ?_) (fun c_45 => ?_)
          · skip
            refine vr_iinc (lv' := [(6, .int (nI (k + 1))), (0, .ref (a 0)), (1, .int rc), (2, .int fd), (3, .long mo), (5, .int (nI bst))]) hF (nI (k + 1)) 5 rfl dX5_last_68 (nI_1 k) (by decide) rfl rfl ?_
            refine vr_goto (tgt := 6) hF dX5_last_71 (by decide) ?_
            refine vr_sub [1, 2, 3, 4, 5, 0] rfl ?_
            exact ih (k + 1) bst (by omega) (by omega) (by omega) (by rw [hans, mm_last]; simp [mm_lc, c_12, c_23, c_33, c_45])
          · skip
            refine vr_iload hF 4 rfl dX5_last_48 rfl ?_
            refine vr_if_eqN (tgt := 64) (x := bst) hF (by omega) dX5_last_50 (by decide) rfl (fun c_50 => ?_) (fun c_50 => ?_)
            · skip
              refine vr_iload hF 5 rfl dX5_last_64 rfl ?_
              refine vr_istore (lv' := [(5, .int (nI k)), (0, .ref (a 0)), (1, .int rc), (2, .int fd), (3, .long mo), (6, .int (nI k))]) hF dX5_last_66 (by decide) rfl rfl ?_
              refine vr_iinc (lv' := [(6, .int (nI (k + 1))), (5, .int (nI k)), (0, .ref (a 0)), (1, .int rc), (2, .int fd), (3, .long mo)]) hF (nI (k + 1)) 5 rfl dX5_last_68 (nI_1 k) (by decide) rfl rfl ?_
              refine vr_goto (tgt := 6) hF dX5_last_71 (by decide) ?_
              refine vr_sub [2, 3, 4, 5, 1, 0] rfl ?_
              exact ih (k + 1) k (by omega) (by omega) (by omega) (by rw [hans, mm_last]; simp [mm_lc, c_12, c_23, c_33, c_45, c_50])
            · skip
              refine vr_aload_n hF 0 rfl dX5_last_53 rfl rfl ?_
              refine vr_iload hF 4 rfl dX5_last_54 rfl ?_
              refine vr_iload hF 5 rfl dX5_last_56 rfl ?_
              refine vr_callV_Ci (rest := []) (n0 := 2) hF (xc_VModel_isBefore l g a r t w b bst k (by omega) (by omega)) (vr_gV vr_hbc mlX5_79 imX5_isBefore seX5_isBefore iniX5 cdX5_isBefore) rfl (by decide +kernel) rfl rfl rfl ⟨Nat.le_of_ble_eq_true rfl, Nat.le_of_ble_eq_true rfl⟩ ⟨Nat.zero_le _, Nat.zero_le _⟩ 0 rfl rfl rfl (Nat.le_of_ble_eq_true rfl) dX5_last_58 rfl ?_
              refine vr_if_eqB (tgt := 68) hF dX5_last_61 (by decide) rfl (fun c_61 => ?_) (fun c_61 => ?_)
              · skip
                refine vr_iinc (lv' := [(6, .int (nI (k + 1))), (0, .ref (a 0)), (1, .int rc), (2, .int fd), (3, .long mo), (5, .int (nI bst))]) hF (nI (k + 1)) 5 rfl dX5_last_68 (nI_1 k) (by decide) rfl rfl ?_
                refine vr_goto (tgt := 6) hF dX5_last_71 (by decide) ?_
                refine vr_sub [1, 2, 3, 4, 5, 0] rfl ?_
                exact ih (k + 1) bst (by omega) (by omega) (by omega) (by rw [hans, mm_last]; simp [mm_lc, c_12, c_23, c_33, c_45, c_50, c_61])
              · skip
                refine vr_iload hF 5 rfl dX5_last_64 rfl ?_
                refine vr_istore (lv' := [(5, .int (nI k)), (0, .ref (a 0)), (1, .int rc), (2, .int fd), (3, .long mo), (6, .int (nI k))]) hF dX5_last_66 (by decide) rfl rfl ?_
                refine vr_iinc (lv' := [(6, .int (nI (k + 1))), (5, .int (nI k)), (0, .ref (a 0)), (1, .int rc), (2, .int fd), (3, .long mo)]) hF (nI (k + 1)) 5 rfl dX5_last_68 (nI_1 k) (by decide) rfl rfl ?_
                refine vr_goto (tgt := 6) hF dX5_last_71 (by decide) ?_
                refine vr_sub [2, 3, 4, 5, 1, 0] rfl ?_
                exact ih (k + 1) k (by omega) (by omega) (by omega) (by rw [hans, mm_last]; simp [mm_lc, c_12, c_23, c_33, c_45, c_50, c_61])
set_option maxHeartbeats 4000000 in
set_option maxRecDepth 100000 in
theorem xc_VModel_last (l : Launch) (g : vr_G) (a : Nat → Nat) (r : vx_R) (t : vm_A) (w : Nat → Bool) (b : vx_B) (rc : Int32) (fd : Int32) (mo : Int64) (h : vm_ok r t b) : vr_Ci l yX5_last wsX5_last rm_xw_VModel_last g.1 (vr_tys g) [.ref (a 0), .int rc, .int fd, .long mo] (vm_w g a r t w b) (vm_w g a r t w b) (nI (mm_lastT t rc fd mo)) := by
  obtain ⟨hrn, htn, hbn⟩ := id h
  refine vr_Ci_mk (cc := cX5_last) (nL := 7) (ty := .int) rfl (by decide) rfl (Nat.le_of_ble_eq_true rfl) ?_
  intro p e s m args below meth c A Q hF hret
  refine vr_to (ws' := (vm_w g a r t w b)) (lv' := [(0, .ref (a 0)), (1, .int rc), (2, .int fd), (3, .long mo)]) (st' := []) rfl rfl rfl ?_
  refine vr_iconst (v := nI 0) hF dX5_last_0 (by decide +kernel) rfl ?_
  refine vr_istore (lv' := [(5, .int (nI 0)), (0, .ref (a 0)), (1, .int rc), (2, .int fd), (3, .long mo)]) hF dX5_last_1 (by decide) rfl rfl ?_
  refine vr_iconst (v := nI 1) hF dX5_last_3 (by decide +kernel) rfl ?_
  refine vr_istore (lv' := [(6, .int (nI 1)), (5, .int (nI 0)), (0, .ref (a 0)), (1, .int rc), (2, .int fd), (3, .long mo)]) hF dX5_last_4 (by decide) rfl rfl ?_
  refine vr_sub [2, 3, 4, 5, 1, 0] rfl ?_
  exact xw_VModel_last_lp6 r t w b rc fd mo h  _ hF hret (tm_n t + 2) 1 0 (by omega) (by omega) (by omega) rfl
def rm_xw_VModel_act : Room := { frames := 2, cells := 0, slots := 0, locals := 44 }
set_option maxHeartbeats 4000000 in
set_option maxRecDepth 100000 in
theorem xw_VModel_act_lp41 {p : Program} {l : Launch} {e : Env} {s : State} {m : MethodId} {args : Array Value} {below : List Frame} {meth : Method} {c : Code} {A : Nat → Prop} {Q : State → Prop} {g : vr_G} {a : Nat → Nat} (r : vx_R) (t : vm_A) (w : Nat → Bool) (b : vx_B) (rc : Int32) (fd : Int32) (v : Int64) (vd : Int64) (kn : Int64) (h : vm_ok r t b) (k0 : Nat) (hk00 : k0 ≤ 20) (ans : Int32) (P : vm_A) (hF : vr_F p s m c cX5_act 10 args wsX5_act yX5_act.cls g.1 (vr_tys g) A) (hret : vr_RtI p l e rm_xw_VModel_act s m args below meth c cX5_act g.1 A 10 0 0 Q (vm_w g a r P w b) ans) : ∀ (n : Nat) (k : Nat), (tm_n t + 1 < k + n) → (k ≤ tm_n t + 1) → (1 ≤ k) → (ans = nI (mm_finN r t k0 fd v (mm_find t (nI k0) fd v vd kn n k))) → (P = mm_finT r t k0 fd v vd kn (mm_find t (nI k0) fd v vd kn n k)) → vr_W p l e rm_xw_VModel_act s m args below meth c g.1 A 10 0 0 Q (vm_w g a r t w b) 41 [(0, .ref (a 0)), (1, .int (nI k0)), (2, .int fd), (3, .long v), (5, .long vd), (7, .long kn), (9, .int (nI k))] [] := by
  obtain ⟨hrn, htn, hbn⟩ := id h
  intro n
  induction n with
  | zero => intro k hk1 hk2 hk0 hans hans2; exact absurd hk1 (by omega)
  | succ n ih =>
    intro k hk1 hk2 hk0 hans hans2
    refine vr_iload hF 6 rfl dX5_act_41 rfl ?_
    refine vr_aload_n hF 0 rfl dX5_act_43 rfl rfl ?_
    refine vr_get (v := .int (nI (tm_n t))) hF 0 5 (vr_in inX5) (vr_m flX5_53) rfl (by decide) rfl rfl rfl dX5_act_44 rfl ?_
    refine vr_icmp_gtN (tgt := 130) (x := k) (y := (tm_n t)) hF (by omega) (by omega) dX5_act_47 (by decide) rfl (fun c_47 => ?_) (fun c_47 => ?_)
    · skip
      rw [mm_find, if_pos c_47] at hans hans2
      refine vr_iload_n hF 2 rfl dX5_act_130 rfl rfl ?_
      refine vr_if_ne (tgt := 150) hF dX5_act_131 (by decide) rfl (fun c_131 => ?_) (fun c_131 => ?_)
      · skip
        refine vr_aload_n hF 0 rfl dX5_act_150 rfl rfl ?_
        refine vr_get (v := .int (nI (tm_n t))) hF 0 5 (vr_in inX5) (vr_m flX5_53) rfl (by decide) rfl rfl rfl dX5_act_151 rfl ?_
        refine vr_sipush (v := nI 200) hF dX5_act_154 (by decide +kernel) rfl ?_
        refine vr_icmp_neN (tgt := 162) (x := (tm_n t)) (y := 200) hF (by omega) (by omega) dX5_act_157 (by decide) rfl (fun c_157 => ?_) (fun c_157 => ?_)
        · skip
          refine vr_aload_n hF 0 rfl dX5_act_162 rfl rfl ?_
          refine vr_dup hF dX5_act_163 rfl rfl ?_
          refine vr_get (v := .int (nI (tm_n t))) hF 0 5 (vr_in inX5) (vr_m flX5_53) rfl (by decide) rfl rfl rfl dX5_act_164 rfl ?_
          refine vr_iconst (v := nI 1) hF dX5_act_167 (by decide +kernel) rfl ?_
          refine vr_iadd (v := nI ((tm_n t) + 1)) hF dX5_act_168 (nI_add (tm_n t) 1) rfl ?_
          refine vr_put (ws' := (vm_w g a r (tm_r t, tm_f t, tm_v t, tm_d t, tm_k t, tm_u t, (tm_n t) + 1) w b)) hF 0 5 (vr_in inX5) (vr_m flX5_53) rfl (by decide) rfl rfl tyX5 tyX5_ok nmX5 rfl rfl rfl (Nat.le_of_ble_eq_true rfl) rfl dX5_act_169 rfl ?_
          refine vr_aload_n hF 0 rfl dX5_act_172 rfl rfl ?_
          refine vr_get (v := .ref (a 4)) hF 0 6 (vr_in inX5) (vr_m flX5_20) rfl (by decide) rfl rfl rfl dX5_act_173 rfl ?_
          refine vr_aload_n hF 0 rfl dX5_act_176 rfl rfl ?_
          refine vr_get (v := .int (nI ((tm_n t) + 1))) hF 0 5 (vr_in inX5) (vr_m flX5_53) rfl (by decide) rfl rfl rfl dX5_act_177 rfl ?_
          refine vr_iload_n hF 1 rfl dX5_act_180 rfl rfl ?_
          refine vr_iast (ws' := (vm_w g a r (upd (tm_r t) ((tm_n t) + 1) (nI k0), tm_f t, tm_v t, tm_d t, tm_k t, tm_u t, (tm_n t) + 1) w b)) (i := (tm_n t) + 1) (x := (nI k0)) (n := 201) (f := (tm_r t)) hF 4 0 rfl rfl (by omega) (by decide) rfl dX5_act_181 rfl ?_
          refine vr_aload_n hF 0 rfl dX5_act_182 rfl rfl ?_
          refine vr_get (v := .ref (a 5)) hF 0 7 (vr_in inX5) (vr_m flX5_23) rfl (by decide) rfl rfl rfl dX5_act_183 rfl ?_
          refine vr_aload_n hF 0 rfl dX5_act_186 rfl rfl ?_
          refine vr_get (v := .int (nI ((tm_n t) + 1))) hF 0 5 (vr_in inX5) (vr_m flX5_53) rfl (by decide) rfl rfl rfl dX5_act_187 rfl ?_
          refine vr_iload_n hF 2 rfl dX5_act_190 rfl rfl ?_
          refine vr_iast (ws' := (vm_w g a r (upd (tm_r t) ((tm_n t) + 1) (nI k0), upd (tm_f t) ((tm_n t) + 1) fd, tm_v t, tm_d t, tm_k t, tm_u t, (tm_n t) + 1) w b)) (i := (tm_n t) + 1) (x := fd) (n := 201) (f := (tm_f t)) hF 5 0 rfl rfl (by omega) (by decide) rfl dX5_act_191 rfl ?_
          refine vr_aload_n hF 0 rfl dX5_act_192 rfl rfl ?_
          refine vr_get (v := .ref (a 6)) hF 0 8 (vr_in inX5) (vr_m flX5_26) rfl (by decide) rfl rfl rfl dX5_act_193 rfl ?_
          refine vr_aload_n hF 0 rfl dX5_act_196 rfl rfl ?_
          refine vr_get (v := .int (nI ((tm_n t) + 1))) hF 0 5 (vr_in inX5) (vr_m flX5_53) rfl (by decide) rfl rfl rfl dX5_act_197 rfl ?_
          refine vr_lload_n hF 3 rfl dX5_act_200 rfl rfl ?_
          refine vr_l2i (v := (v).toInt32) hF dX5_act_201 rfl rfl ?_
          refine vr_iast (ws' := (vm_w g a r (upd (tm_r t) ((tm_n t) + 1) (nI k0), upd (tm_f t) ((tm_n t) + 1) fd, upd (tm_v t) ((tm_n t) + 1) ((v).toInt32), tm_d t, tm_k t, tm_u t, (tm_n t) + 1) w b)) (i := (tm_n t) + 1) (x := ((v).toInt32)) (n := 201) (f := (tm_v t)) hF 6 0 rfl rfl (by omega) (by decide) rfl dX5_act_202 rfl ?_
          refine vr_aload_n hF 0 rfl dX5_act_203 rfl rfl ?_
          refine vr_get (v := .ref (a 7)) hF 0 9 (vr_in inX5) (vr_m flX5_29) rfl (by decide) rfl rfl rfl dX5_act_204 rfl ?_
          refine vr_aload_n hF 0 rfl dX5_act_207 rfl rfl ?_
          refine vr_get (v := .int (nI ((tm_n t) + 1))) hF 0 5 (vr_in inX5) (vr_m flX5_53) rfl (by decide) rfl rfl rfl dX5_act_208 rfl ?_
          refine vr_lload hF 4 rfl dX5_act_211 rfl ?_
          refine vr_last (ws' := (vm_w g a r (upd (tm_r t) ((tm_n t) + 1) (nI k0), upd (tm_f t) ((tm_n t) + 1) fd, upd (tm_v t) ((tm_n t) + 1) ((v).toInt32), vp_updL (tm_d t) ((tm_n t) + 1) vd, tm_k t, tm_u t, (tm_n t) + 1) w b)) (i := (tm_n t) + 1) (x := vd) (n := 201) (f := (tm_d t)) hF 7 1 rfl rfl (by omega) (by decide) rfl dX5_act_213 rfl ?_
          refine vr_aload_n hF 0 rfl dX5_act_214 rfl rfl ?_
          refine vr_get (v := .ref (a 8)) hF 0 10 (vr_in inX5) (vr_m flX5_32) rfl (by decide) rfl rfl rfl dX5_act_215 rfl ?_
          refine vr_aload_n hF 0 rfl dX5_act_218 rfl rfl ?_
          refine vr_get (v := .int (nI ((tm_n t) + 1))) hF 0 5 (vr_in inX5) (vr_m flX5_53) rfl (by decide) rfl rfl rfl dX5_act_219 rfl ?_
          refine vr_lload hF 5 rfl dX5_act_222 rfl ?_
          refine vr_last (ws' := (vm_w g a r (upd (tm_r t) ((tm_n t) + 1) (nI k0), upd (tm_f t) ((tm_n t) + 1) fd, upd (tm_v t) ((tm_n t) + 1) ((v).toInt32), vp_updL (tm_d t) ((tm_n t) + 1) vd, vp_updL (tm_k t) ((tm_n t) + 1) kn, tm_u t, (tm_n t) + 1) w b)) (i := (tm_n t) + 1) (x := kn) (n := 201) (f := (tm_k t)) hF 8 1 rfl rfl (by omega) (by decide) rfl dX5_act_224 rfl ?_
          refine vr_aload_n hF 0 rfl dX5_act_225 rfl rfl ?_
          refine vr_get (v := .int (nI ((tm_n t) + 1))) hF 0 5 (vr_in inX5) (vr_m flX5_53) rfl (by decide) rfl rfl rfl dX5_act_226 rfl ?_
          exact vr_retiw hret dX5_act_229 (by rw [hans2]; simp [mm_finT, mm_stop, mm_new, c_131, c_157]) (by rw [hans]; simp [mm_finN, mm_stop, c_131, c_157])
        · skip
          refine vr_iconst (v := nI 0) hF dX5_act_160 (by decide +kernel) rfl ?_
          exact vr_retiw hret dX5_act_161 (by rw [hans2]; simp [mm_finT, mm_stop, c_131, c_157]) (by rw [hans]; simp [mm_finN, mm_stop, c_131, c_157])
      · skip
        refine vr_lload_n hF 3 rfl dX5_act_134 rfl rfl ?_
        refine vr_lconst (v := 1) hF dX5_act_135 rfl rfl ?_
        refine vr_lcmp_ne (tgt := 150) hF dX5_act_136 dX5_act_137 (by decide) rfl (fun c_137 => ?_) (fun c_137 => ?_)
        · skip
          refine vr_aload_n hF 0 rfl dX5_act_150 rfl rfl ?_
          refine vr_get (v := .int (nI (tm_n t))) hF 0 5 (vr_in inX5) (vr_m flX5_53) rfl (by decide) rfl rfl rfl dX5_act_151 rfl ?_
          refine vr_sipush (v := nI 200) hF dX5_act_154 (by decide +kernel) rfl ?_
          refine vr_icmp_neN (tgt := 162) (x := (tm_n t)) (y := 200) hF (by omega) (by omega) dX5_act_157 (by decide) rfl (fun c_157 => ?_) (fun c_157 => ?_)
          · skip
            refine vr_aload_n hF 0 rfl dX5_act_162 rfl rfl ?_
            refine vr_dup hF dX5_act_163 rfl rfl ?_
            refine vr_get (v := .int (nI (tm_n t))) hF 0 5 (vr_in inX5) (vr_m flX5_53) rfl (by decide) rfl rfl rfl dX5_act_164 rfl ?_
            refine vr_iconst (v := nI 1) hF dX5_act_167 (by decide +kernel) rfl ?_
            refine vr_iadd (v := nI ((tm_n t) + 1)) hF dX5_act_168 (nI_add (tm_n t) 1) rfl ?_
            refine vr_put (ws' := (vm_w g a r (tm_r t, tm_f t, tm_v t, tm_d t, tm_k t, tm_u t, (tm_n t) + 1) w b)) hF 0 5 (vr_in inX5) (vr_m flX5_53) rfl (by decide) rfl rfl tyX5 tyX5_ok nmX5 rfl rfl rfl (Nat.le_of_ble_eq_true rfl) rfl dX5_act_169 rfl ?_
            refine vr_aload_n hF 0 rfl dX5_act_172 rfl rfl ?_
            refine vr_get (v := .ref (a 4)) hF 0 6 (vr_in inX5) (vr_m flX5_20) rfl (by decide) rfl rfl rfl dX5_act_173 rfl ?_
            refine vr_aload_n hF 0 rfl dX5_act_176 rfl rfl ?_
            refine vr_get (v := .int (nI ((tm_n t) + 1))) hF 0 5 (vr_in inX5) (vr_m flX5_53) rfl (by decide) rfl rfl rfl dX5_act_177 rfl ?_
            refine vr_iload_n hF 1 rfl dX5_act_180 rfl rfl ?_
            refine vr_iast (ws' := (vm_w g a r (upd (tm_r t) ((tm_n t) + 1) (nI k0), tm_f t, tm_v t, tm_d t, tm_k t, tm_u t, (tm_n t) + 1) w b)) (i := (tm_n t) + 1) (x := (nI k0)) (n := 201) (f := (tm_r t)) hF 4 0 rfl rfl (by omega) (by decide) rfl dX5_act_181 rfl ?_
            refine vr_aload_n hF 0 rfl dX5_act_182 rfl rfl ?_
            refine vr_get (v := .ref (a 5)) hF 0 7 (vr_in inX5) (vr_m flX5_23) rfl (by decide) rfl rfl rfl dX5_act_183 rfl ?_
            refine vr_aload_n hF 0 rfl dX5_act_186 rfl rfl ?_
            refine vr_get (v := .int (nI ((tm_n t) + 1))) hF 0 5 (vr_in inX5) (vr_m flX5_53) rfl (by decide) rfl rfl rfl dX5_act_187 rfl ?_
            refine vr_iload_n hF 2 rfl dX5_act_190 rfl rfl ?_
            refine vr_iast (ws' := (vm_w g a r (upd (tm_r t) ((tm_n t) + 1) (nI k0), upd (tm_f t) ((tm_n t) + 1) fd, tm_v t, tm_d t, tm_k t, tm_u t, (tm_n t) + 1) w b)) (i := (tm_n t) + 1) (x := fd) (n := 201) (f := (tm_f t)) hF 5 0 rfl rfl (by omega) (by decide) rfl dX5_act_191 rfl ?_
            refine vr_aload_n hF 0 rfl dX5_act_192 rfl rfl ?_
            refine vr_get (v := .ref (a 6)) hF 0 8 (vr_in inX5) (vr_m flX5_26) rfl (by decide) rfl rfl rfl dX5_act_193 rfl ?_
            refine vr_aload_n hF 0 rfl dX5_act_196 rfl rfl ?_
            refine vr_get (v := .int (nI ((tm_n t) + 1))) hF 0 5 (vr_in inX5) (vr_m flX5_53) rfl (by decide) rfl rfl rfl dX5_act_197 rfl ?_
            refine vr_lload_n hF 3 rfl dX5_act_200 rfl rfl ?_
            refine vr_l2i (v := (v).toInt32) hF dX5_act_201 rfl rfl ?_
            refine vr_iast (ws' := (vm_w g a r (upd (tm_r t) ((tm_n t) + 1) (nI k0), upd (tm_f t) ((tm_n t) + 1) fd, upd (tm_v t) ((tm_n t) + 1) ((v).toInt32), tm_d t, tm_k t, tm_u t, (tm_n t) + 1) w b)) (i := (tm_n t) + 1) (x := ((v).toInt32)) (n := 201) (f := (tm_v t)) hF 6 0 rfl rfl (by omega) (by decide) rfl dX5_act_202 rfl ?_
            refine vr_aload_n hF 0 rfl dX5_act_203 rfl rfl ?_
            refine vr_get (v := .ref (a 7)) hF 0 9 (vr_in inX5) (vr_m flX5_29) rfl (by decide) rfl rfl rfl dX5_act_204 rfl ?_
            refine vr_aload_n hF 0 rfl dX5_act_207 rfl rfl ?_
            refine vr_get (v := .int (nI ((tm_n t) + 1))) hF 0 5 (vr_in inX5) (vr_m flX5_53) rfl (by decide) rfl rfl rfl dX5_act_208 rfl ?_
            refine vr_lload hF 4 rfl dX5_act_211 rfl ?_
            refine vr_last (ws' := (vm_w g a r (upd (tm_r t) ((tm_n t) + 1) (nI k0), upd (tm_f t) ((tm_n t) + 1) fd, upd (tm_v t) ((tm_n t) + 1) ((v).toInt32), vp_updL (tm_d t) ((tm_n t) + 1) vd, tm_k t, tm_u t, (tm_n t) + 1) w b)) (i := (tm_n t) + 1) (x := vd) (n := 201) (f := (tm_d t)) hF 7 1 rfl rfl (by omega) (by decide) rfl dX5_act_213 rfl ?_
            refine vr_aload_n hF 0 rfl dX5_act_214 rfl rfl ?_
            refine vr_get (v := .ref (a 8)) hF 0 10 (vr_in inX5) (vr_m flX5_32) rfl (by decide) rfl rfl rfl dX5_act_215 rfl ?_
            refine vr_aload_n hF 0 rfl dX5_act_218 rfl rfl ?_
            refine vr_get (v := .int (nI ((tm_n t) + 1))) hF 0 5 (vr_in inX5) (vr_m flX5_53) rfl (by decide) rfl rfl rfl dX5_act_219 rfl ?_
            refine vr_lload hF 5 rfl dX5_act_222 rfl ?_
            refine vr_last (ws' := (vm_w g a r (upd (tm_r t) ((tm_n t) + 1) (nI k0), upd (tm_f t) ((tm_n t) + 1) fd, upd (tm_v t) ((tm_n t) + 1) ((v).toInt32), vp_updL (tm_d t) ((tm_n t) + 1) vd, vp_updL (tm_k t) ((tm_n t) + 1) kn, tm_u t, (tm_n t) + 1) w b)) (i := (tm_n t) + 1) (x := kn) (n := 201) (f := (tm_k t)) hF 8 1 rfl rfl (by omega) (by decide) rfl dX5_act_224 rfl ?_
            refine vr_aload_n hF 0 rfl dX5_act_225 rfl rfl ?_
            refine vr_get (v := .int (nI ((tm_n t) + 1))) hF 0 5 (vr_in inX5) (vr_m flX5_53) rfl (by decide) rfl rfl rfl dX5_act_226 rfl ?_
            exact vr_retiw hret dX5_act_229 (by rw [hans2]; simp [mm_finT, mm_stop, mm_new, c_131, c_137, c_157]) (by rw [hans]; simp [mm_finN, mm_stop, c_131, c_137, c_157])
          · skip
            refine vr_iconst (v := nI 0) hF dX5_act_160 (by decide +kernel) rfl ?_
            exact vr_retiw hret dX5_act_161 (by rw [hans2]; simp [mm_finT, mm_stop, c_131, c_137, c_157]) (by rw [hans]; simp [mm_finN, mm_stop, c_131, c_137, c_157])
        · skip
          refine vr_aload_n hF 0 rfl dX5_act_140 rfl rfl ?_
          refine vr_get (v := .ref (a 1)) hF 0 2 (vr_in inX5) (vr_m flX5_7) rfl (by decide) rfl rfl rfl dX5_act_141 rfl ?_
          refine vr_iload_n hF 1 rfl dX5_act_144 rfl rfl ?_
          refine vr_iald (i := k0) (n := 21) (f := (rr_k r)) hF 1 0 rfl rfl (by omega) (by decide) dX5_act_145 rfl ?_
          refine vr_iconst (v := nI 1) hF dX5_act_146 (by decide +kernel) rfl ?_
          refine vr_icmp_eq (tgt := 160) hF dX5_act_147 (by decide) rfl (fun c_147 => ?_) (fun c_147 => ?_)
          · skip
            refine vr_iconst (v := nI 0) hF dX5_act_160 (by decide +kernel) rfl ?_
            exact vr_retiw hret dX5_act_161 (by rw [hans2]; simp [mm_finT, mm_stop, c_131, c_137, c_147]) (by rw [hans]; simp [mm_finN, mm_stop, c_131, c_137, c_147])
          · skip
            refine vr_aload_n hF 0 rfl dX5_act_150 rfl rfl ?_
            refine vr_get (v := .int (nI (tm_n t))) hF 0 5 (vr_in inX5) (vr_m flX5_53) rfl (by decide) rfl rfl rfl dX5_act_151 rfl ?_
            refine vr_sipush (v := nI 200) hF dX5_act_154 (by decide +kernel) rfl ?_
            refine vr_icmp_neN (tgt := 162) (x := (tm_n t)) (y := 200) hF (by omega) (by omega) dX5_act_157 (by decide) rfl (fun c_157 => ?_) (fun c_157 => ?_)
            · skip
              refine vr_aload_n hF 0 rfl dX5_act_162 rfl rfl ?_
              refine vr_dup hF dX5_act_163 rfl rfl ?_
              refine vr_get (v := .int (nI (tm_n t))) hF 0 5 (vr_in inX5) (vr_m flX5_53) rfl (by decide) rfl rfl rfl dX5_act_164 rfl ?_
              refine vr_iconst (v := nI 1) hF dX5_act_167 (by decide +kernel) rfl ?_
              refine vr_iadd (v := nI ((tm_n t) + 1)) hF dX5_act_168 (nI_add (tm_n t) 1) rfl ?_
              refine vr_put (ws' := (vm_w g a r (tm_r t, tm_f t, tm_v t, tm_d t, tm_k t, tm_u t, (tm_n t) + 1) w b)) hF 0 5 (vr_in inX5) (vr_m flX5_53) rfl (by decide) rfl rfl tyX5 tyX5_ok nmX5 rfl rfl rfl (Nat.le_of_ble_eq_true rfl) rfl dX5_act_169 rfl ?_
              refine vr_aload_n hF 0 rfl dX5_act_172 rfl rfl ?_
              refine vr_get (v := .ref (a 4)) hF 0 6 (vr_in inX5) (vr_m flX5_20) rfl (by decide) rfl rfl rfl dX5_act_173 rfl ?_
              refine vr_aload_n hF 0 rfl dX5_act_176 rfl rfl ?_
              refine vr_get (v := .int (nI ((tm_n t) + 1))) hF 0 5 (vr_in inX5) (vr_m flX5_53) rfl (by decide) rfl rfl rfl dX5_act_177 rfl ?_
              refine vr_iload_n hF 1 rfl dX5_act_180 rfl rfl ?_
              refine vr_iast (ws' := (vm_w g a r (upd (tm_r t) ((tm_n t) + 1) (nI k0), tm_f t, tm_v t, tm_d t, tm_k t, tm_u t, (tm_n t) + 1) w b)) (i := (tm_n t) + 1) (x := (nI k0)) (n := 201) (f := (tm_r t)) hF 4 0 rfl rfl (by omega) (by decide) rfl dX5_act_181 rfl ?_
              refine vr_aload_n hF 0 rfl dX5_act_182 rfl rfl ?_
              refine vr_get (v := .ref (a 5)) hF 0 7 (vr_in inX5) (vr_m flX5_23) rfl (by decide) rfl rfl rfl dX5_act_183 rfl ?_
              refine vr_aload_n hF 0 rfl dX5_act_186 rfl rfl ?_
              refine vr_get (v := .int (nI ((tm_n t) + 1))) hF 0 5 (vr_in inX5) (vr_m flX5_53) rfl (by decide) rfl rfl rfl dX5_act_187 rfl ?_
              refine vr_iload_n hF 2 rfl dX5_act_190 rfl rfl ?_
              refine vr_iast (ws' := (vm_w g a r (upd (tm_r t) ((tm_n t) + 1) (nI k0), upd (tm_f t) ((tm_n t) + 1) fd, tm_v t, tm_d t, tm_k t, tm_u t, (tm_n t) + 1) w b)) (i := (tm_n t) + 1) (x := fd) (n := 201) (f := (tm_f t)) hF 5 0 rfl rfl (by omega) (by decide) rfl dX5_act_191 rfl ?_
              refine vr_aload_n hF 0 rfl dX5_act_192 rfl rfl ?_
              refine vr_get (v := .ref (a 6)) hF 0 8 (vr_in inX5) (vr_m flX5_26) rfl (by decide) rfl rfl rfl dX5_act_193 rfl ?_
              refine vr_aload_n hF 0 rfl dX5_act_196 rfl rfl ?_
              refine vr_get (v := .int (nI ((tm_n t) + 1))) hF 0 5 (vr_in inX5) (vr_m flX5_53) rfl (by decide) rfl rfl rfl dX5_act_197 rfl ?_
              refine vr_lload_n hF 3 rfl dX5_act_200 rfl rfl ?_
              refine vr_l2i (v := (v).toInt32) hF dX5_act_201 rfl rfl ?_
              refine vr_iast (ws' := (vm_w g a r (upd (tm_r t) ((tm_n t) + 1) (nI k0), upd (tm_f t) ((tm_n t) + 1) fd, upd (tm_v t) ((tm_n t) + 1) ((v).toInt32), tm_d t, tm_k t, tm_u t, (tm_n t) + 1) w b)) (i := (tm_n t) + 1) (x := ((v).toInt32)) (n := 201) (f := (tm_v t)) hF 6 0 rfl rfl (by omega) (by decide) rfl dX5_act_202 rfl ?_
              refine vr_aload_n hF 0 rfl dX5_act_203 rfl rfl ?_
              refine vr_get (v := .ref (a 7)) hF 0 9 (vr_in inX5) (vr_m flX5_29) rfl (by decide) rfl rfl rfl dX5_act_204 rfl ?_
              refine vr_aload_n hF 0 rfl dX5_act_207 rfl rfl ?_
              refine vr_get (v := .int (nI ((tm_n t) + 1))) hF 0 5 (vr_in inX5) (vr_m flX5_53) rfl (by decide) rfl rfl rfl dX5_act_208 rfl ?_
              refine vr_lload hF 4 rfl dX5_act_211 rfl ?_
              refine vr_last (ws' := (vm_w g a r (upd (tm_r t) ((tm_n t) + 1) (nI k0), upd (tm_f t) ((tm_n t) + 1) fd, upd (tm_v t) ((tm_n t) + 1) ((v).toInt32), vp_updL (tm_d t) ((tm_n t) + 1) vd, tm_k t, tm_u t, (tm_n t) + 1) w b)) (i := (tm_n t) + 1) (x := vd) (n := 201) (f := (tm_d t)) hF 7 1 rfl rfl (by omega) (by decide) rfl dX5_act_213 rfl ?_
              refine vr_aload_n hF 0 rfl dX5_act_214 rfl rfl ?_
              refine vr_get (v := .ref (a 8)) hF 0 10 (vr_in inX5) (vr_m flX5_32) rfl (by decide) rfl rfl rfl dX5_act_215 rfl ?_
              refine vr_aload_n hF 0 rfl dX5_act_218 rfl rfl ?_
              refine vr_get (v := .int (nI ((tm_n t) + 1))) hF 0 5 (vr_in inX5) (vr_m flX5_53) rfl (by decide) rfl rfl rfl dX5_act_219 rfl ?_
              refine vr_lload hF 5 rfl dX5_act_222 rfl ?_
              refine vr_last (ws' := (vm_w g a r (upd (tm_r t) ((tm_n t) + 1) (nI k0), upd (tm_f t) ((tm_n t) + 1) fd, upd (tm_v t) ((tm_n t) + 1) ((v).toInt32), vp_updL (tm_d t) ((tm_n t) + 1) vd, vp_updL (tm_k t) ((tm_n t) + 1) kn, tm_u t, (tm_n t) + 1) w b)) (i := (tm_n t) + 1) (x := kn) (n := 201) (f := (tm_k t)) hF 8 1 rfl rfl (by omega) (by decide) rfl dX5_act_224 rfl ?_
              refine vr_aload_n hF 0 rfl dX5_act_225 rfl rfl ?_
              refine vr_get (v := .int (nI ((tm_n t) + 1))) hF 0 5 (vr_in inX5) (vr_m flX5_53) rfl (by decide) rfl rfl rfl dX5_act_226 rfl ?_
              exact vr_retiw hret dX5_act_229 (by rw [hans2]; simp [mm_finT, mm_stop, mm_new, c_131, c_137, c_147, c_157]) (by rw [hans]; simp [mm_finN, mm_stop, c_131, c_137, c_147, c_157])
            · skip
              refine vr_iconst (v := nI 0) hF dX5_act_160 (by decide +kernel) rfl ?_
              exact vr_retiw hret dX5_act_161 (by rw [hans2]; simp [mm_finT, mm_stop, c_131, c_137, c_147, c_157]) (by rw [hans]; simp [mm_finN, mm_stop, c_131, c_137, c_147, c_157])
    · skip
      refine vr_aload_n hF 0 rfl dX5_act_50 rfl rfl ?_
      refine vr_get (v := .ref (a 9)) hF 0 11 (vr_in inX5) (vr_m flX5_35) rfl (by decide) rfl rfl rfl dX5_act_51 rfl ?_
      refine vr_iload hF 6 rfl dX5_act_54 rfl ?_
      refine vr_zald (i := k) (n := 201) (f := (fun j => vr_b ((tm_u t) j))) hF 9 2 rfl rfl (by omega) (by decide) dX5_act_56 rfl ?_
      refine vr_to (ws' := (vm_w g a r t w b)) (lv' := [(0, .ref (a 0)), (1, .int (nI k0)), (2, .int fd), (3, .long v), (5, .long vd), (7, .long kn), (9, .int (nI k))]) (st' := [.int (vr_b ((tm_u t) k))]) rfl rfl rfl ?_
      refine vr_if_neB (tgt := 124) hF dX5_act_57 (by decide) rfl (fun c_57 => ?_) (fun c_57 => ?_)
      · skip
        refine vr_iinc (lv' := [(9, .int (nI (k + 1))), (0, .ref (a 0)), (1, .int (nI k0)), (2, .int fd), (3, .long v), (5, .long vd), (7, .long kn)]) hF (nI (k + 1)) 6 rfl dX5_act_124 (nI_1 k) (by decide) rfl rfl ?_
        refine vr_goto (tgt := 41) hF dX5_act_127 (by decide) ?_
        refine vr_sub [1, 2, 3, 4, 5, 6, 0] rfl ?_
        exact ih (k + 1) (by omega) (by omega) (by omega) (by rw [hans, mm_find]; simp [mm_same, c_47, c_57]) (by rw [hans2, mm_find]; simp [mm_same, c_47, c_57])
      · skip
        refine vr_aload_n hF 0 rfl dX5_act_60 rfl rfl ?_
        refine vr_get (v := .ref (a 4)) hF 0 6 (vr_in inX5) (vr_m flX5_20) rfl (by decide) rfl rfl rfl dX5_act_61 rfl ?_
        refine vr_iload hF 6 rfl dX5_act_64 rfl ?_
        refine vr_iald (i := k) (n := 201) (f := (tm_r t)) hF 4 0 rfl rfl (by omega) (by decide) dX5_act_66 rfl ?_
        refine vr_iload_n hF 1 rfl dX5_act_67 rfl rfl ?_
        refine vr_icmp_ne (tgt := 124) hF dX5_act_68 (by decide) rfl (fun c_68 => ?_) (fun c_68 => ?_)
        · skip
          refine vr_iinc (lv' := [(9, .int (nI (k + 1))), (0, .ref (a 0)), (1, .int (nI k0)), (2, .int fd), (3, .long v), (5, .long vd), (7, .long kn)]) hF (nI (k + 1)) 6 rfl dX5_act_124 (nI_1 k) (by decide) rfl rfl ?_
          refine vr_goto (tgt := 41) hF dX5_act_127 (by decide) ?_
          refine vr_sub [1, 2, 3, 4, 5, 6, 0] rfl ?_
          exact ih (k + 1) (by omega) (by omega) (by omega) (by rw [hans, mm_find]; simp [mm_same, c_47, c_57, c_68]) (by rw [hans2, mm_find]; simp [mm_same, c_47, c_57, c_68])
        · skip
          refine vr_aload_n hF 0 rfl dX5_act_71 rfl rfl ?_
          refine vr_get (v := .ref (a 5)) hF 0 7 (vr_in inX5) (vr_m flX5_23) rfl (by decide) rfl rfl rfl dX5_act_72 rfl ?_
          refine vr_iload hF 6 rfl dX5_act_75 rfl ?_
          refine vr_iald (i := k) (n := 201) (f := (tm_f t)) hF 5 0 rfl rfl (by omega) (by decide) dX5_act_77 rfl ?_
          refine vr_iload_n hF 2 rfl dX5_act_78 rfl rfl ?_
          refine vr_icmp_ne (tgt := 124) hF dX5_act_79 (by decide) rfl (fun c_79 => ?_) (fun c_79 => ?_)
          · skip
            refine vr_iinc (lv' := [(9, .int (nI (k + 1))), (0, .ref (a 0)), (1, .int (nI k0)), (2, .int fd), (3, .long v), (5, .long vd), (7, .long kn)]) hF (nI (k + 1)) 6 rfl dX5_act_124 (nI_1 k) (by decide) rfl rfl ?_
            refine vr_goto (tgt := 41) hF dX5_act_127 (by decide) ?_
            refine vr_sub [1, 2, 3, 4, 5, 6, 0] rfl ?_
            exact ih (k + 1) (by omega) (by omega) (by omega) (by rw [hans, mm_find]; simp [mm_same, c_47, c_57, c_68, c_79]) (by rw [hans2, mm_find]; simp [mm_same, c_47, c_57, c_68, c_79])
          · skip
            refine vr_aload_n hF 0 rfl dX5_act_82 rfl rfl ?_
            refine vr_get (v := .ref (a 6)) hF 0 8 (vr_in inX5) (vr_m flX5_26) rfl (by decide) rfl rfl rfl dX5_act_83 rfl ?_
            refine vr_iload hF 6 rfl dX5_act_86 rfl ?_
            refine vr_iald (i := k) (n := 201) (f := (tm_v t)) hF 6 0 rfl rfl (by omega) (by decide) dX5_act_88 rfl ?_
            refine vr_i2l (v := ((tm_v t) k).toInt64) hF dX5_act_89 rfl rfl ?_
            refine vr_lload_n hF 3 rfl dX5_act_90 rfl rfl ?_
            refine vr_lcmp_ne (tgt := 124) hF dX5_act_91 dX5_act_92 (by decide) rfl (fun c_92 => ?_) (fun c_92 => ?_)
            · skip
              refine vr_iinc (lv' := [(9, .int (nI (k + 1))), (0, .ref (a 0)), (1, .int (nI k0)), (2, .int fd), (3, .long v), (5, .long vd), (7, .long kn)]) hF (nI (k + 1)) 6 rfl dX5_act_124 (nI_1 k) (by decide) rfl rfl ?_
              refine vr_goto (tgt := 41) hF dX5_act_127 (by decide) ?_
              refine vr_sub [1, 2, 3, 4, 5, 6, 0] rfl ?_
              exact ih (k + 1) (by omega) (by omega) (by omega) (by rw [hans, mm_find]; simp [mm_same, c_47, c_57, c_68, c_79, c_92]) (by rw [hans2, mm_find]; simp [mm_same, c_47, c_57, c_68, c_79, c_92])
            · skip
              refine vr_aload_n hF 0 rfl dX5_act_95 rfl rfl ?_
              refine vr_get (v := .ref (a 7)) hF 0 9 (vr_in inX5) (vr_m flX5_29) rfl (by decide) rfl rfl rfl dX5_act_96 rfl ?_
              refine vr_iload hF 6 rfl dX5_act_99 rfl ?_
              refine vr_lald (i := k) (n := 201) (f := (tm_d t)) hF 7 1 rfl rfl (by omega) (by decide) dX5_act_101 rfl ?_
              refine vr_lload hF 4 rfl dX5_act_102 rfl ?_
              refine vr_lcmp_ne (tgt := 124) hF dX5_act_104 dX5_act_105 (by decide) rfl (fun c_105 => ?_) (fun c_105 => ?_)
              · skip
                refine vr_iinc (lv' := [(9, .int (nI (k + 1))), (0, .ref (a 0)), (1, .int (nI k0)), (2, .int fd), (3, .long v), (5, .long vd), (7, .long kn)]) hF (nI (k + 1)) 6 rfl dX5_act_124 (nI_1 k) (by decide) rfl rfl ?_
                refine vr_goto (tgt := 41) hF dX5_act_127 (by decide) ?_
                refine vr_sub [1, 2, 3, 4, 5, 6, 0] rfl ?_
                exact ih (k + 1) (by omega) (by omega) (by omega) (by rw [hans, mm_find]; simp [mm_same, c_47, c_57, c_68, c_79, c_92, c_105]) (by rw [hans2, mm_find]; simp [mm_same, c_47, c_57, c_68, c_79, c_92, c_105])
              · skip
                refine vr_aload_n hF 0 rfl dX5_act_108 rfl rfl ?_
                refine vr_get (v := .ref (a 8)) hF 0 10 (vr_in inX5) (vr_m flX5_32) rfl (by decide) rfl rfl rfl dX5_act_109 rfl ?_
                refine vr_iload hF 6 rfl dX5_act_112 rfl ?_
                refine vr_lald (i := k) (n := 201) (f := (tm_k t)) hF 8 1 rfl rfl (by omega) (by decide) dX5_act_114 rfl ?_
                refine vr_lload hF 5 rfl dX5_act_115 rfl ?_
                refine vr_lcmp_ne (tgt := 124) hF dX5_act_117 dX5_act_118 (by decide) rfl (fun c_118 => ?_) (fun c_118 => ?_)
                · skip
                  refine vr_iinc (lv' := [(9, .int (nI (k + 1))), (0, .ref (a 0)), (1, .int (nI k0)), (2, .int fd), (3, .long v), (5, .long vd), (7, .long kn)]) hF (nI (k + 1)) 6 rfl dX5_act_124 (nI_1 k) (by decide) rfl rfl ?_
                  refine vr_goto (tgt := 41) hF dX5_act_127 (by decide) ?_
                  refine vr_sub [1, 2, 3, 4, 5, 6, 0] rfl ?_
                  exact ih (k + 1) (by omega) (by omega) (by omega) (by rw [hans, mm_find]; simp [mm_same, c_47, c_57, c_68, c_79, c_92, c_105, c_118]) (by rw [hans2, mm_find]; simp [mm_same, c_47, c_57, c_68, c_79, c_92, c_105, c_118])
                · skip
                  refine vr_iload hF 6 rfl dX5_act_121 rfl ?_
                  exact vr_retiw hret dX5_act_123 (by rw [hans2, mm_find]; simp [mm_same, mm_finT, c_47, c_57, c_68, c_79, c_92, c_105, c_118, show ¬ k = 0 by omega]) (by rw [hans, mm_find]; simp [mm_same, mm_finN, c_47, c_57, c_68, c_79, c_92, c_105, c_118, show ¬ k = 0 by omega])
set_option maxHeartbeats 4000000 in
set_option maxRecDepth 100000 in
theorem xc_VModel_act (l : Launch) (g : vr_G) (a : Nat → Nat) (r : vx_R) (t : vm_A) (w : Nat → Bool) (b : vx_B) (rc : Int32) (fd : Int32) (v : Int64) (vd : Int64) (kn : Int64) (h : vm_ok r t b) : vr_Ci l yX5_act wsX5_act rm_xw_VModel_act g.1 (vr_tys g) [.ref (a 0), .int rc, .int fd, .long v, .long vd, .long kn] (vm_w g a r t w b) (vm_w g a r (mm_actT r t rc fd v vd kn) w b) (nI (mm_actN r t rc fd v vd kn)) := by
  obtain ⟨hrn, htn, hbn⟩ := id h
  refine vr_Ci_mk (cc := cX5_act) (nL := 10) (ty := .int) rfl (by decide) rfl (Nat.le_of_ble_eq_true rfl) ?_
  intro p e s m args below meth c A Q hF hret
  refine vr_to (ws' := (vm_w g a r t w b)) (lv' := [(0, .ref (a 0)), (1, .int rc), (2, .int fd), (3, .long v), (5, .long vd), (7, .long kn)]) (st' := []) rfl rfl rfl ?_
  refine vr_aload_n hF 0 rfl dX5_act_0 rfl rfl ?_
  refine vr_iconst (v := nI 0) hF dX5_act_1 (by decide +kernel) rfl ?_
  refine vr_put (ws' := (vm_w g a r t w b)) hF 0 0 (vr_in inX5) (vr_m flX5_46) rfl (by decide) rfl rfl tyX5 tyX5_ok nmX5 rfl rfl rfl (Nat.le_of_ble_eq_true rfl) rfl dX5_act_2 rfl ?_
  refine vr_aload_n hF 0 rfl dX5_act_5 rfl rfl ?_
  refine vr_iload_n hF 1 rfl dX5_act_6 rfl rfl ?_
  refine vr_iload_n hF 2 rfl dX5_act_7 rfl rfl ?_
  refine vr_callV_Ci (rest := []) (n0 := 2) hF (xc_VModel_isField l g a r t w b rc fd) (vr_gV vr_hbc mlX5_66 imX5_isField seX5_isField iniX5 cdX5_isField) rfl (by decide +kernel) rfl rfl rfl ⟨Nat.le_of_ble_eq_true rfl, Nat.le_of_ble_eq_true rfl⟩ ⟨Nat.zero_le _, Nat.zero_le _⟩ 0 rfl rfl rfl (Nat.le_of_ble_eq_true rfl) dX5_act_8 rfl ?_
  refine vr_if_eqB (tgt := 36) hF dX5_act_11 (by decide) rfl (fun c_11 => ?_) (fun c_11 => ?_)
  · skip
    refine vr_iconst (v := nI 0) hF dX5_act_36 (by decide +kernel) rfl ?_
    exact vr_retiw hret dX5_act_37 (by simp [mm_actN, mm_actT, mm_actOk, vr_bt, vr_bf, c_11]) (by simp [mm_actN, mm_actT, mm_actOk, vr_bt, vr_bf, c_11])
  · skip
    obtain ⟨k, hk1, hk2, rfl⟩ := vx_has_of (n := rr_n r) (by omega) (mm_isF_has c_11)
    have hcl : (nI k).toNatClampNeg = k := nI_clamp (by omega)
    refine vr_lload_n hF 3 rfl dX5_act_14 rfl rfl ?_
    refine vr_lconst (v := 0) hF dX5_act_15 rfl rfl ?_
    refine vr_lcmp_lt (tgt := 36) hF dX5_act_16 dX5_act_17 (by decide) rfl (fun c_17 => ?_) (fun c_17 => ?_)
    · skip
      refine vr_iconst (v := nI 0) hF dX5_act_36 (by decide +kernel) rfl ?_
      exact vr_retiw hret dX5_act_37 (by simp [mm_actN, mm_actT, mm_actOk, vr_bt, vr_bf, c_11, c_17, hcl]) (by simp [mm_actN, mm_actT, mm_actOk, vr_bt, vr_bf, c_11, c_17, hcl])
    · skip
      refine vr_lload_n hF 3 rfl dX5_act_20 rfl rfl ?_
      refine vr_ldc2 (v := 2147483647) hF (vr_m kX5_70) dX5_act_21 rfl ?_
      refine vr_lcmp_gt (tgt := 36) hF dX5_act_24 dX5_act_25 (by decide) rfl (fun c_25 => ?_) (fun c_25 => ?_)
      · skip
        refine vr_iconst (v := nI 0) hF dX5_act_36 (by decide +kernel) rfl ?_
        exact vr_retiw hret dX5_act_37 (by simp [mm_actN, mm_actT, mm_actOk, vr_bt, vr_bf, c_11, c_17, c_25, hcl]) (by simp [mm_actN, mm_actT, mm_actOk, vr_bt, vr_bf, c_11, c_17, c_25, hcl])
      · skip
        refine vr_aload_n hF 0 rfl dX5_act_28 rfl rfl ?_
        refine vr_iload_n hF 1 rfl dX5_act_29 rfl rfl ?_
        refine vr_callV_Ci (rest := []) (n0 := 1) hF (xc_VModel_isLocked l g a r t w b k h (by omega)) (vr_gV vr_hbc mlX5_72 imX5_isLocked seX5_isLocked iniX5 cdX5_isLocked) rfl (by decide +kernel) rfl rfl rfl ⟨Nat.le_of_ble_eq_true rfl, Nat.le_of_ble_eq_true rfl⟩ ⟨Nat.zero_le _, Nat.zero_le _⟩ 0 rfl rfl rfl (Nat.le_of_ble_eq_true rfl) dX5_act_30 rfl ?_
        refine vr_if_eqB (tgt := 38) hF dX5_act_33 (by decide) rfl (fun c_33 => ?_) (fun c_33 => ?_)
        · skip
          refine vr_iconst (v := nI 1) hF dX5_act_38 (by decide +kernel) rfl ?_
          refine vr_istore (lv' := [(9, .int (nI 1)), (0, .ref (a 0)), (1, .int (nI k)), (2, .int fd), (3, .long v), (5, .long vd), (7, .long kn)]) hF dX5_act_39 (by decide) rfl rfl ?_
          have hk20 : k ≤ 20 := by omega
          refine vr_sub [1, 2, 3, 4, 5, 6, 0] rfl ?_
          exact xw_VModel_act_lp41 r t w b (nI k) fd v vd kn h k hk20 _ _ hF hret (tm_n t + 2) 1 (by omega) (by omega) (by omega) (by simp [mm_actN, mm_actOk, hcl, c_11, c_17, c_25, c_33]) (by simp [mm_actT, mm_actOk, hcl, c_11, c_17, c_25, c_33])
        · skip
          refine vr_iconst (v := nI 0) hF dX5_act_36 (by decide +kernel) rfl ?_
          exact vr_retiw hret dX5_act_37 (by simp [mm_actN, mm_actT, mm_actOk, vr_bt, vr_bf, c_11, c_17, c_25, c_33, hcl]) (by simp [mm_actN, mm_actT, mm_actOk, vr_bt, vr_bf, c_11, c_17, c_25, c_33, hcl])
def rm_xw_VModel_at : Room := { frames := 2, cells := 0, slots := 0, locals := 49 }
set_option maxHeartbeats 4000000 in
set_option maxRecDepth 100000 in
theorem xc_VModel_at (l : Launch) (g : vr_G) (a : Nat → Nat) (r : vx_R) (t : vm_A) (w : Nat → Bool) (b : vx_B) (rc : Int32) (fd : Int32) (mo : Int64) (h : vm_ok r t b) : vr_Ci l yX5_at wsX5_at rm_xw_VModel_at g.1 (vr_tys g) [.ref (a 0), .int rc, .int fd, .long mo] (vm_w g a r t w b) (vm_w g a r t w b) (mm_at r t rc fd mo) := by
  obtain ⟨hrn, htn, hbn⟩ := id h
  refine vr_Ci_mk (cc := cX5_at) (nL := 6) (ty := .int) rfl (by decide) rfl (Nat.le_of_ble_eq_true rfl) ?_
  intro p e s m args below meth c A Q hF hret
  refine vr_to (ws' := (vm_w g a r t w b)) (lv' := [(0, .ref (a 0)), (1, .int rc), (2, .int fd), (3, .long mo)]) (st' := []) rfl rfl rfl ?_
  refine vr_aload_n hF 0 rfl dX5_at_0 rfl rfl ?_
  refine vr_iconst (v := nI 0) hF dX5_at_1 (by decide +kernel) rfl ?_
  refine vr_put (ws' := (vm_w g a r t w b)) hF 0 0 (vr_in inX5) (vr_m flX5_46) rfl (by decide) rfl rfl tyX5 tyX5_ok nmX5 rfl rfl rfl (Nat.le_of_ble_eq_true rfl) rfl dX5_at_2 rfl ?_
  refine vr_aload_n hF 0 rfl dX5_at_5 rfl rfl ?_
  refine vr_iload_n hF 1 rfl dX5_at_6 rfl rfl ?_
  refine vr_iload_n hF 2 rfl dX5_at_7 rfl rfl ?_
  refine vr_callV_Ci (rest := []) (n0 := 2) hF (xc_VModel_isField l g a r t w b rc fd) (vr_gV vr_hbc mlX5_66 imX5_isField seX5_isField iniX5 cdX5_isField) rfl (by decide +kernel) rfl rfl rfl ⟨Nat.le_of_ble_eq_true rfl, Nat.le_of_ble_eq_true rfl⟩ ⟨Nat.zero_le _, Nat.zero_le _⟩ 0 rfl rfl rfl (Nat.le_of_ble_eq_true rfl) dX5_at_8 rfl ?_
  refine vr_if_eqB (tgt := 24) hF dX5_at_11 (by decide) rfl (fun c_11 => ?_) (fun c_11 => ?_)
  · skip
    refine vr_iconst (v := nI 0) hF dX5_at_24 (by decide +kernel) rfl ?_
    refine vr_istore (lv' := [(5, .int (nI 0)), (0, .ref (a 0)), (1, .int rc), (2, .int fd), (3, .long mo)]) hF dX5_at_25 (by decide) rfl rfl ?_
    refine vr_iload hF 0 rfl dX5_at_27 rfl ?_
    refine vr_if_neN (tgt := 36) (x := 0) hF (by omega) dX5_at_29 (by decide) rfl (fun c_29 => ?_) (fun c_29 => ?_)
    · skip
      exact absurd rfl c_29
    · skip
      refine vr_iconst (v := (-1)) hF dX5_at_32 (by decide +kernel) rfl ?_
      refine vr_goto (tgt := 43) hF dX5_at_33 (by decide) ?_
      exact vr_reti hret dX5_at_43 (by simp [mm_at, vr_bt, vr_bf, c_11, c_29])
  · skip
    refine vr_aload_n hF 0 rfl dX5_at_14 rfl rfl ?_
    refine vr_iload_n hF 1 rfl dX5_at_15 rfl rfl ?_
    refine vr_iload_n hF 2 rfl dX5_at_16 rfl rfl ?_
    refine vr_lload_n hF 3 rfl dX5_at_17 rfl rfl ?_
    refine vr_callV_Ci (rest := []) (n0 := 3) hF (xc_VModel_last l g a r t w b rc fd mo h) (vr_gV vr_hbc mlX5_82 imX5_last seX5_last iniX5 cdX5_last) rfl (by decide +kernel) rfl rfl rfl ⟨Nat.le_of_ble_eq_true rfl, Nat.le_of_ble_eq_true rfl⟩ ⟨Nat.zero_le _, Nat.zero_le _⟩ 0 rfl rfl rfl (Nat.le_of_ble_eq_true rfl) dX5_at_18 rfl ?_
    have hfl := mm_last_le t rc fd mo (tm_n t + 2) 1 0 (Nat.zero_le _)
    have hfl : mm_lastT t rc fd mo ≤ tm_n t := hfl
    refine vr_goto (tgt := 25) hF dX5_at_21 (by decide) ?_
    refine vr_istore (lv' := [(5, .int (nI (mm_lastT t rc fd mo))), (0, .ref (a 0)), (1, .int rc), (2, .int fd), (3, .long mo)]) hF dX5_at_25 (by decide) rfl rfl ?_
    refine vr_iload hF 0 rfl dX5_at_27 rfl ?_
    refine vr_if_neN (tgt := 36) (x := (mm_lastT t rc fd mo)) hF (by omega) dX5_at_29 (by decide) rfl (fun c_29 => ?_) (fun c_29 => ?_)
    · skip
      refine vr_aload_n hF 1 rfl dX5_at_36 rfl rfl ?_
      refine vr_get (v := .ref (a 6)) hF 0 8 (vr_in inX5) (vr_m flX5_26) rfl (by decide) rfl rfl rfl dX5_at_37 rfl ?_
      refine vr_iload hF 0 rfl dX5_at_40 rfl ?_
      refine vr_iald (i := mm_lastT t rc fd mo) (n := 201) (f := (tm_v t)) hF 6 0 rfl rfl (by omega) (by decide) dX5_at_42 rfl ?_
      exact vr_reti hret dX5_at_43 (by simp [mm_at, vr_bt, vr_bf, c_11, c_29])
    · skip
      refine vr_iconst (v := (-1)) hF dX5_at_32 (by decide +kernel) rfl ?_
      refine vr_goto (tgt := 43) hF dX5_at_33 (by decide) ?_
      exact vr_reti hret dX5_at_43 (by simp [mm_at, vr_bt, vr_bf, c_11, c_29])
def rm_xw_VModel_stale : Room := { frames := 2, cells := 0, slots := 0, locals := 49 }
set_option maxHeartbeats 4000000 in
set_option maxRecDepth 100000 in
theorem xc_VModel_stale (l : Launch) (g : vr_G) (a : Nat → Nat) (r : vx_R) (t : vm_A) (w : Nat → Bool) (b : vx_B) (rc : Int32) (mo : Int64) (fd : Int32) (h : vm_ok r t b) : vr_Ci l yX5_stale wsX5_stale rm_xw_VModel_stale g.1 (vr_tys g) [.ref (a 0), .int rc, .long mo, .int fd] (vm_w g a r t w b) (vm_w g a r t w b) (mm_stale r t rc mo fd) := by
  obtain ⟨hrn, htn, hbn⟩ := id h
  refine vr_Ci_mk (cc := cX5_stale) (nL := 7) (ty := .int) rfl (by decide) rfl (Nat.le_of_ble_eq_true rfl) ?_
  intro p e s m args below meth c A Q hF hret
  refine vr_to (ws' := (vm_w g a r t w b)) (lv' := [(0, .ref (a 0)), (1, .int rc), (2, .long mo), (4, .int fd)]) (st' := []) rfl rfl rfl ?_
  refine vr_aload_n hF 0 rfl dX5_stale_0 rfl rfl ?_
  refine vr_iconst (v := nI 0) hF dX5_stale_1 (by decide +kernel) rfl ?_
  refine vr_put (ws' := (vm_w g a r t w b)) hF 0 0 (vr_in inX5) (vr_m flX5_46) rfl (by decide) rfl rfl tyX5 tyX5_ok nmX5 rfl rfl rfl (Nat.le_of_ble_eq_true rfl) rfl dX5_stale_2 rfl ?_
  refine vr_aload_n hF 0 rfl dX5_stale_5 rfl rfl ?_
  refine vr_iload_n hF 1 rfl dX5_stale_6 rfl rfl ?_
  refine vr_iload hF 3 rfl dX5_stale_7 rfl ?_
  refine vr_callV_Ci (rest := []) (n0 := 2) hF (xc_VModel_isField l g a r t w b rc fd) (vr_gV vr_hbc mlX5_66 imX5_isField seX5_isField iniX5 cdX5_isField) rfl (by decide +kernel) rfl rfl rfl ⟨Nat.le_of_ble_eq_true rfl, Nat.le_of_ble_eq_true rfl⟩ ⟨Nat.zero_le _, Nat.zero_le _⟩ 0 rfl rfl rfl (Nat.le_of_ble_eq_true rfl) dX5_stale_9 rfl ?_
  refine vr_if_neB (tgt := 17) hF dX5_stale_12 (by decide) rfl (fun c_12 => ?_) (fun c_12 => ?_)
  · skip
    refine vr_aload_n hF 0 rfl dX5_stale_17 rfl rfl ?_
    refine vr_iload_n hF 1 rfl dX5_stale_18 rfl rfl ?_
    refine vr_iload hF 3 rfl dX5_stale_19 rfl ?_
    refine vr_lload_n hF 2 rfl dX5_stale_21 rfl rfl ?_
    refine vr_callV_Ci (rest := []) (n0 := 3) hF (xc_VModel_last l g a r t w b rc fd mo h) (vr_gV vr_hbc mlX5_82 imX5_last seX5_last iniX5 cdX5_last) rfl (by decide +kernel) rfl rfl rfl ⟨Nat.le_of_ble_eq_true rfl, Nat.le_of_ble_eq_true rfl⟩ ⟨Nat.zero_le _, Nat.zero_le _⟩ 0 rfl rfl rfl (Nat.le_of_ble_eq_true rfl) dX5_stale_22 rfl ?_
    refine vr_istore (lv' := [(5, .int (nI (mm_lastT t rc fd mo))), (0, .ref (a 0)), (1, .int rc), (2, .long mo), (4, .int fd)]) hF dX5_stale_25 (by decide) rfl rfl ?_
    refine vr_aload_n hF 1 rfl dX5_stale_27 rfl rfl ?_
    refine vr_iload_n hF 2 rfl dX5_stale_28 rfl rfl ?_
    refine vr_iload hF 4 rfl dX5_stale_29 rfl ?_
    refine vr_ldc2 (v := vr_max) hF (vr_m kX5_86) dX5_stale_31 rfl ?_
    refine vr_callV_Ci (rest := []) (n0 := 3) hF (xc_VModel_last l g a r t w b rc fd vr_max h) (vr_gV vr_hbc mlX5_82 imX5_last seX5_last iniX5 cdX5_last) rfl (by decide +kernel) rfl rfl rfl ⟨Nat.le_of_ble_eq_true rfl, Nat.le_of_ble_eq_true rfl⟩ ⟨Nat.zero_le _, Nat.zero_le _⟩ 0 rfl rfl rfl (Nat.le_of_ble_eq_true rfl) dX5_stale_34 rfl ?_
    refine vr_istore (lv' := [(6, .int (nI (mm_lastT t rc fd vr_max))), (5, .int (nI (mm_lastT t rc fd mo))), (0, .ref (a 0)), (1, .int rc), (2, .long mo), (4, .int fd)]) hF dX5_stale_37 (by decide) rfl rfl ?_
    have hf1 : mm_lastT t rc fd vr_max ≤ tm_n t := mm_last_le t rc fd vr_max (tm_n t + 2) 1 0 (Nat.zero_le _)
    have hf2 : mm_lastT t rc fd mo ≤ tm_n t := mm_last_le t rc fd mo (tm_n t + 2) 1 0 (Nat.zero_le _)
    refine vr_iload hF 0 rfl dX5_stale_39 rfl ?_
    refine vr_if_eqN (tgt := 56) (x := (mm_lastT t rc fd vr_max)) hF (by omega) dX5_stale_41 (by decide) rfl (fun c_41 => ?_) (fun c_41 => ?_)
    · skip
      refine vr_iconst (v := nI 1) hF dX5_stale_56 (by decide +kernel) rfl ?_
      exact vr_reti hret dX5_stale_57 (by simp [mm_stale, vr_n0, vr_n1, vr_n2, vr_bt, vr_bf, c_12, c_41])
    · skip
      refine vr_aload_n hF 2 rfl dX5_stale_44 rfl rfl ?_
      refine vr_get (v := .ref (a 8)) hF 0 10 (vr_in inX5) (vr_m flX5_32) rfl (by decide) rfl rfl rfl dX5_stale_45 rfl ?_
      refine vr_iload hF 0 rfl dX5_stale_48 rfl ?_
      refine vr_lald (i := mm_lastT t rc fd vr_max) (n := 201) (f := (tm_k t)) hF 8 1 rfl rfl (by omega) (by decide) dX5_stale_50 rfl ?_
      refine vr_lload_n hF 4 rfl dX5_stale_51 rfl rfl ?_
      refine vr_lcmp_gt (tgt := 58) hF dX5_stale_52 dX5_stale_53 (by decide) rfl (fun c_53 => ?_) (fun c_53 => ?_)
      · skip
        refine vr_iload hF 1 rfl dX5_stale_58 rfl ?_
        refine vr_if_eqN (tgt := 84) (x := (mm_lastT t rc fd mo)) hF (by omega) dX5_stale_60 (by decide) rfl (fun c_60 => ?_) (fun c_60 => ?_)
        · skip
          refine vr_iconst (v := nI 0) hF dX5_stale_84 (by decide +kernel) rfl ?_
          exact vr_reti hret dX5_stale_85 (by simp [mm_stale, vr_n0, vr_n1, vr_n2, vr_bt, vr_bf, c_12, c_41, c_53, c_60])
        · skip
          refine vr_aload_n hF 2 rfl dX5_stale_63 rfl rfl ?_
          refine vr_get (v := .ref (a 6)) hF 0 8 (vr_in inX5) (vr_m flX5_26) rfl (by decide) rfl rfl rfl dX5_stale_64 rfl ?_
          refine vr_iload hF 1 rfl dX5_stale_67 rfl ?_
          refine vr_iald (i := mm_lastT t rc fd mo) (n := 201) (f := (tm_v t)) hF 6 0 rfl rfl (by omega) (by decide) dX5_stale_69 rfl ?_
          refine vr_aload_n hF 2 rfl dX5_stale_70 rfl rfl ?_
          refine vr_get (v := .ref (a 6)) hF 0 8 (vr_in inX5) (vr_m flX5_26) rfl (by decide) rfl rfl rfl dX5_stale_71 rfl ?_
          refine vr_iload hF 0 rfl dX5_stale_74 rfl ?_
          refine vr_iald (i := mm_lastT t rc fd vr_max) (n := 201) (f := (tm_v t)) hF 6 0 rfl rfl (by omega) (by decide) dX5_stale_76 rfl ?_
          refine vr_icmp_ne (tgt := 84) hF dX5_stale_77 (by decide) rfl (fun c_77 => ?_) (fun c_77 => ?_)
          · skip
            refine vr_iconst (v := nI 0) hF dX5_stale_84 (by decide +kernel) rfl ?_
            exact vr_reti hret dX5_stale_85 (by simp [mm_stale, vr_n0, vr_n1, vr_n2, vr_bt, vr_bf, c_12, c_41, c_53, c_60, c_77])
          · skip
            refine vr_iconst (v := nI 2) hF dX5_stale_80 (by decide +kernel) rfl ?_
            refine vr_goto (tgt := 85) hF dX5_stale_81 (by decide) ?_
            exact vr_reti hret dX5_stale_85 (by simp [mm_stale, vr_n0, vr_n1, vr_n2, vr_bt, vr_bf, c_12, c_41, c_53, c_60, c_77])
      · skip
        refine vr_iconst (v := nI 1) hF dX5_stale_56 (by decide +kernel) rfl ?_
        exact vr_reti hret dX5_stale_57 (by simp [mm_stale, vr_n0, vr_n1, vr_n2, vr_bt, vr_bf, c_12, c_41, c_53])
  · skip
    refine vr_iconst (v := (-1)) hF dX5_stale_15 (by decide +kernel) rfl ?_
    exact vr_reti hret dX5_stale_16 (by simp [mm_stale, vr_n0, vr_n1, vr_n2, vr_bt, vr_bf, c_12])
def rm_xw_VModel_isLeantOn : Room := { frames := 0, cells := 0, slots := 0, locals := 0 }
set_option maxHeartbeats 4000000 in
set_option maxRecDepth 100000 in
theorem xw_VModel_isLeantOn_lp5 {p : Program} {l : Launch} {e : Env} {s : State} {m : MethodId} {args : Array Value} {below : List Frame} {meth : Method} {c : Code} {A : Nat → Prop} {Q : State → Prop} {g : vr_G} {a : Nat → Nat} (r : vx_R) (t : vm_A) (w : Nat → Bool) (b : vx_B) (k : Nat) (but : Int32) (h : vm_ok r t b) (hk : k ≤ 200)  (ans : Int32) (hF : vr_F p s m c cX5_isLeantOn 5 args wsX5_isLeantOn yX5_isLeantOn.cls g.1 (vr_tys g) A) (hret : vr_RtI p l e rm_xw_VModel_isLeantOn s m args below meth c cX5_isLeantOn g.1 A 5 0 0 Q (vm_w g a r t w b) ans) : ∀ (n : Nat) (j : Nat) (is : Bool), (tm_n t + 1 < j + n) → (j ≤ tm_n t + 1) → (ans = vr_b (mm_lo t w b k but n j is)) → vr_W p l e rm_xw_VModel_isLeantOn s m args below meth c g.1 A 5 0 0 Q (vm_w g a r t w b) 5 [(0, .ref (a 0)), (1, .int (nI k)), (2, .int but), (3, .int (vr_b is)), (4, .int (nI j))] [] := by
  obtain ⟨hrn, htn, hbn⟩ := id h
  intro n
  induction n with
  | zero => intro j is hj1 hj2 hans; exact absurd hj1 (by omega)
  | succ n ih =>
    intro j is hj1 hj2 hans
    refine vr_iload hF 4 rfl dX5_isLeantOn_5 rfl ?_
    refine vr_aload_n hF 0 rfl dX5_isLeantOn_7 rfl rfl ?_
    refine vr_get (v := .int (nI (tm_n t))) hF 0 5 (vr_in inX5) (vr_m flX5_53) rfl (by decide) rfl rfl rfl dX5_isLeantOn_8 rfl ?_
    refine vr_icmp_gtN (tgt := 71) (x := j) (y := (tm_n t)) hF (by omega) (by omega) dX5_isLeantOn_11 (by decide) rfl (fun c_11 => ?_) (fun c_11 => ?_)
    · skip
      refine vr_iload_n hF 3 rfl dX5_isLeantOn_71 rfl rfl ?_
      exact vr_reti hret dX5_isLeantOn_72 (by rw [hans, mm_lo]; simp [vr_bt, vr_bf, c_11])
    · skip
      refine vr_iload_n hF 3 rfl dX5_isLeantOn_14 rfl rfl ?_
      refine vr_if_neB (tgt := 59) hF dX5_isLeantOn_15 (by decide) rfl (fun c_15 => ?_) (fun c_15 => ?_)
      · skip
        refine vr_iconst (v := nI 1) hF dX5_isLeantOn_59 (by decide +kernel) rfl ?_
        refine vr_goto (tgt := 64) hF dX5_isLeantOn_60 (by decide) ?_
        refine vr_istore_n (lv' := [(3, .int (nI 1)), (0, .ref (a 0)), (1, .int (nI k)), (2, .int but), (4, .int (nI j))]) hF dX5_isLeantOn_64 rfl (by decide) rfl rfl ?_
        refine vr_iinc (lv' := [(4, .int (nI (j + 1))), (3, .int (nI 1)), (0, .ref (a 0)), (1, .int (nI k)), (2, .int but)]) hF (nI (j + 1)) 4 rfl dX5_isLeantOn_65 (nI_1 j) (by decide) rfl rfl ?_
        refine vr_goto (tgt := 5) hF dX5_isLeantOn_68 (by decide) ?_
        refine vr_sub [2, 3, 4, 1, 0] rfl ?_
        exact ih (j + 1) true (by omega) (by omega) (by rw [hans, mm_lo]; simp [mm_l1, c_11, c_15])
      · skip
        refine vr_aload_n hF 0 rfl dX5_isLeantOn_18 rfl rfl ?_
        refine vr_get (v := .ref (a 11)) hF 0 13 (vr_in inX5) (vr_m flX5_43) rfl (by decide) rfl rfl rfl dX5_isLeantOn_19 rfl ?_
        refine vr_sipush (v := nI 201) hF dX5_isLeantOn_22 (by decide +kernel) rfl ?_
        refine vr_iload hF 4 rfl dX5_isLeantOn_25 rfl ?_
        refine vr_imul (v := nI (201 * j)) hF dX5_isLeantOn_27 (pk_mul 201 j) rfl ?_
        refine vr_iload_n hF 1 rfl dX5_isLeantOn_28 rfl rfl ?_
        refine vr_iadd (v := nI ((201 * j) + k)) hF dX5_isLeantOn_29 (nI_add (201 * j) k) rfl ?_
        refine vr_zald (i := (201 * j) + k) (n := 40401) (f := (fun j => vr_b (w j))) hF 11 2 rfl rfl (by omega) (by decide) dX5_isLeantOn_30 rfl ?_
        refine vr_to (ws' := (vm_w g a r t w b)) (lv' := [(0, .ref (a 0)), (1, .int (nI k)), (2, .int but), (3, .int (vr_b is)), (4, .int (nI j))]) (st' := [.int (vr_b (w ((201 * j) + k)))]) rfl rfl rfl ?_
        refine vr_if_eqB (tgt := 63) hF dX5_isLeantOn_31 (by decide) rfl (fun c_31 => ?_) (fun c_31 => ?_)
        · skip
          refine vr_iconst (v := nI 0) hF dX5_isLeantOn_63 (by decide +kernel) rfl ?_
          refine vr_istore_n (lv' := [(3, .int (nI 0)), (0, .ref (a 0)), (1, .int (nI k)), (2, .int but), (4, .int (nI j))]) hF dX5_isLeantOn_64 rfl (by decide) rfl rfl ?_
          refine vr_iinc (lv' := [(4, .int (nI (j + 1))), (3, .int (nI 0)), (0, .ref (a 0)), (1, .int (nI k)), (2, .int but)]) hF (nI (j + 1)) 4 rfl dX5_isLeantOn_65 (nI_1 j) (by decide) rfl rfl ?_
          refine vr_goto (tgt := 5) hF dX5_isLeantOn_68 (by decide) ?_
          refine vr_sub [2, 3, 4, 1, 0] rfl ?_
          exact ih (j + 1) false (by omega) (by omega) (by rw [hans, mm_lo]; simp [mm_l1, c_11, c_15, c_31])
        · skip
          refine vr_aload_n hF 0 rfl dX5_isLeantOn_34 rfl rfl ?_
          refine vr_get (v := .ref (a 9)) hF 0 11 (vr_in inX5) (vr_m flX5_35) rfl (by decide) rfl rfl rfl dX5_isLeantOn_35 rfl ?_
          refine vr_iload hF 4 rfl dX5_isLeantOn_38 rfl ?_
          refine vr_zald (i := j) (n := 201) (f := (fun j => vr_b ((tm_u t) j))) hF 9 2 rfl rfl (by omega) (by decide) dX5_isLeantOn_40 rfl ?_
          refine vr_to (ws' := (vm_w g a r t w b)) (lv' := [(0, .ref (a 0)), (1, .int (nI k)), (2, .int but), (3, .int (vr_b is)), (4, .int (nI j))]) (st' := [.int (vr_b ((tm_u t) j))]) rfl rfl rfl ?_
          refine vr_if_neB (tgt := 63) hF dX5_isLeantOn_41 (by decide) rfl (fun c_41 => ?_) (fun c_41 => ?_)
          · skip
            refine vr_iconst (v := nI 0) hF dX5_isLeantOn_63 (by decide +kernel) rfl ?_
            refine vr_istore_n (lv' := [(3, .int (nI 0)), (0, .ref (a 0)), (1, .int (nI k)), (2, .int but), (4, .int (nI j))]) hF dX5_isLeantOn_64 rfl (by decide) rfl rfl ?_
            refine vr_iinc (lv' := [(4, .int (nI (j + 1))), (3, .int (nI 0)), (0, .ref (a 0)), (1, .int (nI k)), (2, .int but)]) hF (nI (j + 1)) 4 rfl dX5_isLeantOn_65 (nI_1 j) (by decide) rfl rfl ?_
            refine vr_goto (tgt := 5) hF dX5_isLeantOn_68 (by decide) ?_
            refine vr_sub [2, 3, 4, 1, 0] rfl ?_
            exact ih (j + 1) false (by omega) (by omega) (by rw [hans, mm_lo]; simp [mm_l1, c_11, c_15, c_31, c_41])
          · skip
            refine vr_iload_n hF 2 rfl dX5_isLeantOn_44 rfl rfl ?_
            refine vr_if_eq (tgt := 59) hF dX5_isLeantOn_45 (by decide) rfl (fun c_45 => ?_) (fun c_45 => ?_)
            · skip
              refine vr_iconst (v := nI 1) hF dX5_isLeantOn_59 (by decide +kernel) rfl ?_
              refine vr_goto (tgt := 64) hF dX5_isLeantOn_60 (by decide) ?_
              refine vr_istore_n (lv' := [(3, .int (nI 1)), (0, .ref (a 0)), (1, .int (nI k)), (2, .int but), (4, .int (nI j))]) hF dX5_isLeantOn_64 rfl (by decide) rfl rfl ?_
              refine vr_iinc (lv' := [(4, .int (nI (j + 1))), (3, .int (nI 1)), (0, .ref (a 0)), (1, .int (nI k)), (2, .int but)]) hF (nI (j + 1)) 4 rfl dX5_isLeantOn_65 (nI_1 j) (by decide) rfl rfl ?_
              refine vr_goto (tgt := 5) hF dX5_isLeantOn_68 (by decide) ?_
              refine vr_sub [2, 3, 4, 1, 0] rfl ?_
              exact ih (j + 1) true (by omega) (by omega) (by rw [hans, mm_lo]; simp [mm_l1, c_11, c_15, c_31, c_41, c_45])
            · skip
              refine vr_aload_n hF 0 rfl dX5_isLeantOn_48 rfl rfl ?_
              refine vr_get (v := .ref (a 10)) hF 0 12 (vr_in inX5) (vr_m flX5_39) rfl (by decide) rfl rfl rfl dX5_isLeantOn_49 rfl ?_
              refine vr_iload hF 4 rfl dX5_isLeantOn_52 rfl ?_
              refine vr_iald (i := j) (n := 201) (f := (tb_o b)) hF 10 0 rfl rfl (by omega) (by decide) dX5_isLeantOn_54 rfl ?_
              refine vr_iload_n hF 2 rfl dX5_isLeantOn_55 rfl rfl ?_
              refine vr_icmp_eq (tgt := 63) hF dX5_isLeantOn_56 (by decide) rfl (fun c_56 => ?_) (fun c_56 => ?_)
              · skip
                refine vr_iconst (v := nI 0) hF dX5_isLeantOn_63 (by decide +kernel) rfl ?_
                refine vr_istore_n (lv' := [(3, .int (nI 0)), (0, .ref (a 0)), (1, .int (nI k)), (2, .int but), (4, .int (nI j))]) hF dX5_isLeantOn_64 rfl (by decide) rfl rfl ?_
                refine vr_iinc (lv' := [(4, .int (nI (j + 1))), (3, .int (nI 0)), (0, .ref (a 0)), (1, .int (nI k)), (2, .int but)]) hF (nI (j + 1)) 4 rfl dX5_isLeantOn_65 (nI_1 j) (by decide) rfl rfl ?_
                refine vr_goto (tgt := 5) hF dX5_isLeantOn_68 (by decide) ?_
                refine vr_sub [2, 3, 4, 1, 0] rfl ?_
                exact ih (j + 1) false (by omega) (by omega) (by rw [hans, mm_lo]; simp [mm_l1, c_11, c_15, c_31, c_41, c_45, c_56])
              · skip
                refine vr_iconst (v := nI 1) hF dX5_isLeantOn_59 (by decide +kernel) rfl ?_
                refine vr_goto (tgt := 64) hF dX5_isLeantOn_60 (by decide) ?_
                refine vr_istore_n (lv' := [(3, .int (nI 1)), (0, .ref (a 0)), (1, .int (nI k)), (2, .int but), (4, .int (nI j))]) hF dX5_isLeantOn_64 rfl (by decide) rfl rfl ?_
                refine vr_iinc (lv' := [(4, .int (nI (j + 1))), (3, .int (nI 1)), (0, .ref (a 0)), (1, .int (nI k)), (2, .int but)]) hF (nI (j + 1)) 4 rfl dX5_isLeantOn_65 (nI_1 j) (by decide) rfl rfl ?_
                refine vr_goto (tgt := 5) hF dX5_isLeantOn_68 (by decide) ?_
                refine vr_sub [2, 3, 4, 1, 0] rfl ?_
                exact ih (j + 1) true (by omega) (by omega) (by rw [hans, mm_lo]; simp [mm_l1, c_11, c_15, c_31, c_41, c_45, c_56])
set_option maxHeartbeats 4000000 in
set_option maxRecDepth 100000 in
theorem xc_VModel_isLeantOn (l : Launch) (g : vr_G) (a : Nat → Nat) (r : vx_R) (t : vm_A) (w : Nat → Bool) (b : vx_B) (k : Nat) (but : Int32) (h : vm_ok r t b) (hk : k ≤ 200) : vr_Ci l yX5_isLeantOn wsX5_isLeantOn rm_xw_VModel_isLeantOn g.1 (vr_tys g) [.ref (a 0), .int (nI k), .int but] (vm_w g a r t w b) (vm_w g a r t w b) (vr_b (mm_loT t w b k but)) := by
  obtain ⟨hrn, htn, hbn⟩ := id h
  refine vr_Ci_mk (cc := cX5_isLeantOn) (nL := 5) (ty := .boolean) (vr_nz _) (by decide) rfl (Nat.le_of_ble_eq_true rfl) ?_
  intro p e s m args below meth c A Q hF hret
  refine vr_to (ws' := (vm_w g a r t w b)) (lv' := [(0, .ref (a 0)), (1, .int (nI k)), (2, .int but)]) (st' := []) rfl rfl rfl ?_
  refine vr_iconst (v := nI 0) hF dX5_isLeantOn_0 (by decide +kernel) rfl ?_
  refine vr_istore_n (lv' := [(3, .int (nI 0)), (0, .ref (a 0)), (1, .int (nI k)), (2, .int but)]) hF dX5_isLeantOn_1 rfl (by decide) rfl rfl ?_
  refine vr_iconst (v := nI 1) hF dX5_isLeantOn_2 (by decide +kernel) rfl ?_
  refine vr_istore (lv' := [(4, .int (nI 1)), (3, .int (nI 0)), (0, .ref (a 0)), (1, .int (nI k)), (2, .int but)]) hF dX5_isLeantOn_3 (by decide) rfl rfl ?_
  refine vr_sub [2, 3, 4, 1, 0] rfl ?_
  exact xw_VModel_isLeantOn_lp5 r t w b k but h hk  _ hF hret (tm_n t + 2) 1 false (by omega) (by omega) rfl
def rm_xw_VModel_undo : Room := { frames := 1, cells := 0, slots := 0, locals := 24 }
set_option maxHeartbeats 4000000 in
set_option maxRecDepth 100000 in
theorem xc_VModel_undo (l : Launch) (g : vr_G) (a : Nat → Nat) (r : vx_R) (t : vm_A) (w : Nat → Bool) (b : vx_B) (i : Int32) (h : vm_ok r t b) : vr_Ci l yX5_undo wsX5_undo rm_xw_VModel_undo g.1 (vr_tys g) [.ref (a 0), .int i] (vm_w g a r t w b) (vm_w g a r (if mm_undo t w b i = true then tm_setU t (vr_ub (tm_u t) i.toNatClampNeg true) else t) w b) (vr_b (mm_undo t w b i)) := by
  obtain ⟨hrn, htn, hbn⟩ := id h
  refine vr_Ci_mk (cc := cX5_undo) (nL := 2) (ty := .int) rfl (by decide) rfl (Nat.le_of_ble_eq_true rfl) ?_
  intro p e s m args below meth c A Q hF hret
  refine vr_to (ws' := (vm_w g a r t w b)) (lv' := [(0, .ref (a 0)), (1, .int i)]) (st' := []) rfl rfl rfl ?_
  refine vr_aload_n hF 0 rfl dX5_undo_0 rfl rfl ?_
  refine vr_iconst (v := nI 0) hF dX5_undo_1 (by decide +kernel) rfl ?_
  refine vr_put (ws' := (vm_w g a r t w b)) hF 0 0 (vr_in inX5) (vr_m flX5_46) rfl (by decide) rfl rfl tyX5 tyX5_ok nmX5 rfl rfl rfl (Nat.le_of_ble_eq_true rfl) rfl dX5_undo_2 rfl ?_
  refine vr_aload_n hF 0 rfl dX5_undo_5 rfl rfl ?_
  refine vr_iload_n hF 1 rfl dX5_undo_6 rfl rfl ?_
  refine vr_callV_Ci (rest := []) (n0 := 1) hF (xc_VModel_isAct l g a r t w b i) (vr_gV vr_hbc mlX5_88 imX5_isAct seX5_isAct iniX5 cdX5_isAct) rfl (by decide +kernel) rfl rfl rfl ⟨Nat.le_of_ble_eq_true rfl, Nat.le_of_ble_eq_true rfl⟩ ⟨Nat.zero_le _, Nat.zero_le _⟩ 0 rfl rfl rfl (Nat.le_of_ble_eq_true rfl) dX5_undo_7 rfl ?_
  refine vr_if_eqB (tgt := 31) hF dX5_undo_10 (by decide) rfl (fun c_10 => ?_) (fun c_10 => ?_)
  · skip
    refine vr_iconst (v := nI 0) hF dX5_undo_31 (by decide +kernel) rfl ?_
    exact vr_retiw hret dX5_undo_32 (by simp [mm_undo, vr_bt, vr_bf, c_10]) (by simp [mm_undo, vr_bt, vr_bf, c_10])
  · skip
    obtain ⟨k, hk1, hk2, rfl⟩ := vx_has_of (n := tm_n t) (by omega) ((mm_is_has _ _).symm.trans c_10)
    have hclk : (nI k).toNatClampNeg = k := nI_clamp (by omega)
    refine vr_aload_n hF 0 rfl dX5_undo_13 rfl rfl ?_
    refine vr_get (v := .ref (a 9)) hF 0 11 (vr_in inX5) (vr_m flX5_35) rfl (by decide) rfl rfl rfl dX5_undo_14 rfl ?_
    refine vr_iload_n hF 1 rfl dX5_undo_17 rfl rfl ?_
    refine vr_zald (i := k) (n := 201) (f := (fun j => vr_b ((tm_u t) j))) hF 9 2 rfl rfl (by omega) (by decide) dX5_undo_18 rfl ?_
    refine vr_to (ws' := (vm_w g a r t w b)) (lv' := [(0, .ref (a 0)), (1, .int (nI k))]) (st' := [.int (vr_b ((tm_u t) k))]) rfl rfl rfl ?_
    refine vr_if_neB (tgt := 31) hF dX5_undo_19 (by decide) rfl (fun c_19 => ?_) (fun c_19 => ?_)
    · skip
      refine vr_iconst (v := nI 0) hF dX5_undo_31 (by decide +kernel) rfl ?_
      exact vr_retiw hret dX5_undo_32 (by simp [mm_undo, vr_bt, vr_bf, c_10, c_19, hclk]) (by simp [mm_undo, vr_bt, vr_bf, c_10, c_19, hclk])
    · skip
      refine vr_aload_n hF 0 rfl dX5_undo_22 rfl rfl ?_
      refine vr_iload_n hF 1 rfl dX5_undo_23 rfl rfl ?_
      refine vr_iconst (v := nI 0) hF dX5_undo_24 (by decide +kernel) rfl ?_
      refine vr_callV_Ci (rest := []) (n0 := 2) hF (xc_VModel_isLeantOn l g a r t w b k (nI 0) h (by omega)) (vr_gV vr_hbc mlX5_91 imX5_isLeantOn seX5_isLeantOn iniX5 cdX5_isLeantOn) rfl (by decide +kernel) rfl rfl rfl ⟨Nat.le_of_ble_eq_true rfl, Nat.le_of_ble_eq_true rfl⟩ ⟨Nat.zero_le _, Nat.zero_le _⟩ 0 rfl rfl rfl (Nat.le_of_ble_eq_true rfl) dX5_undo_25 rfl ?_
      refine vr_if_eqB (tgt := 33) hF dX5_undo_28 (by decide) rfl (fun c_28 => ?_) (fun c_28 => ?_)
      · skip
        refine vr_aload_n hF 0 rfl dX5_undo_33 rfl rfl ?_
        refine vr_get (v := .ref (a 9)) hF 0 11 (vr_in inX5) (vr_m flX5_35) rfl (by decide) rfl rfl rfl dX5_undo_34 rfl ?_
        refine vr_iload_n hF 1 rfl dX5_undo_37 rfl rfl ?_
        refine vr_iconst (v := nI 1) hF dX5_undo_38 (by decide +kernel) rfl ?_
        refine vr_zastB (ws' := (vm_w g a r (tm_r t, tm_f t, tm_v t, tm_d t, tm_k t, vr_ub (tm_u t) k true, tm_n t) w b)) (i := k) (x := true) (n := 201) (f := (tm_u t)) hF 9 2 rfl rfl (by omega) (by decide) rfl dX5_undo_39 rfl ?_
        refine vr_iconst (v := nI 1) hF dX5_undo_40 (by decide +kernel) rfl ?_
        exact vr_retiw hret dX5_undo_41 (by simp [mm_undo, vr_bt, vr_bf, c_10, c_19, c_28, hclk]) (by simp [mm_undo, vr_bt, vr_bf, c_10, c_19, c_28, hclk])
      · skip
        refine vr_iconst (v := nI 0) hF dX5_undo_31 (by decide +kernel) rfl ?_
        exact vr_retiw hret dX5_undo_32 (by simp [mm_undo, vr_bt, vr_bf, c_10, c_19, c_28, hclk]) (by simp [mm_undo, vr_bt, vr_bf, c_10, c_19, c_28, hclk])
def rm_xw_VModel_lean : Room := { frames := 1, cells := 0, slots := 0, locals := 21 }
set_option maxHeartbeats 4000000 in
set_option maxRecDepth 100000 in
theorem xc_VModel_lean (l : Launch) (g : vr_G) (a : Nat → Nat) (r : vx_R) (t : vm_A) (w : Nat → Bool) (b : vx_B) (i : Int32) (o : Int32) (h : vm_ok r t b) : vr_Ci l yX5_lean wsX5_lean rm_xw_VModel_lean g.1 (vr_tys g) [.ref (a 0), .int i, .int o] (vm_w g a r t w b) (vm_w g a r t (if mm_lean t w i o = true then vr_ub w (201 * i.toNatClampNeg + o.toNatClampNeg) true else w) b) (vr_b (mm_lean t w i o)) := by
  obtain ⟨hrn, htn, hbn⟩ := id h
  refine vr_Ci_mk (cc := cX5_lean) (nL := 3) (ty := .int) rfl (by decide) rfl (Nat.le_of_ble_eq_true rfl) ?_
  intro p e s m args below meth c A Q hF hret
  refine vr_to (ws' := (vm_w g a r t w b)) (lv' := [(0, .ref (a 0)), (1, .int i), (2, .int o)]) (st' := []) rfl rfl rfl ?_
  refine vr_aload_n hF 0 rfl dX5_lean_0 rfl rfl ?_
  refine vr_iconst (v := nI 0) hF dX5_lean_1 (by decide +kernel) rfl ?_
  refine vr_put (ws' := (vm_w g a r t w b)) hF 0 0 (vr_in inX5) (vr_m flX5_46) rfl (by decide) rfl rfl tyX5 tyX5_ok nmX5 rfl rfl rfl (Nat.le_of_ble_eq_true rfl) rfl dX5_lean_2 rfl ?_
  refine vr_aload_n hF 0 rfl dX5_lean_5 rfl rfl ?_
  refine vr_iload_n hF 1 rfl dX5_lean_6 rfl rfl ?_
  refine vr_callV_Ci (rest := []) (n0 := 1) hF (xc_VModel_isAct l g a r t w b i) (vr_gV vr_hbc mlX5_88 imX5_isAct seX5_isAct iniX5 cdX5_isAct) rfl (by decide +kernel) rfl rfl rfl ⟨Nat.le_of_ble_eq_true rfl, Nat.le_of_ble_eq_true rfl⟩ ⟨Nat.zero_le _, Nat.zero_le _⟩ 0 rfl rfl rfl (Nat.le_of_ble_eq_true rfl) dX5_lean_7 rfl ?_
  refine vr_if_eqB (tgt := 41) hF dX5_lean_10 (by decide) rfl (fun c_10 => ?_) (fun c_10 => ?_)
  · skip
    refine vr_iconst (v := nI 0) hF dX5_lean_41 (by decide +kernel) rfl ?_
    exact vr_retiw hret dX5_lean_42 (by simp [mm_lean, vr_bt, vr_bf, c_10]) (by simp [mm_lean, vr_bt, vr_bf, c_10])
  · skip
    obtain ⟨k, hk1, hk2, rfl⟩ := vx_has_of (n := tm_n t) (by omega) ((mm_is_has _ _).symm.trans c_10)
    have hclk : (nI k).toNatClampNeg = k := nI_clamp (by omega)
    refine vr_aload_n hF 0 rfl dX5_lean_13 rfl rfl ?_
    refine vr_iload_n hF 2 rfl dX5_lean_14 rfl rfl ?_
    refine vr_callV_Ci (rest := []) (n0 := 1) hF (xc_VModel_isAct l g a r t w b o) (vr_gV vr_hbc mlX5_88 imX5_isAct seX5_isAct iniX5 cdX5_isAct) rfl (by decide +kernel) rfl rfl rfl ⟨Nat.le_of_ble_eq_true rfl, Nat.le_of_ble_eq_true rfl⟩ ⟨Nat.zero_le _, Nat.zero_le _⟩ 0 rfl rfl rfl (Nat.le_of_ble_eq_true rfl) dX5_lean_15 rfl ?_
    refine vr_if_eqB (tgt := 41) hF dX5_lean_18 (by decide) rfl (fun c_18 => ?_) (fun c_18 => ?_)
    · skip
      refine vr_iconst (v := nI 0) hF dX5_lean_41 (by decide +kernel) rfl ?_
      exact vr_retiw hret dX5_lean_42 (by simp [mm_lean, vr_bt, vr_bf, c_10, c_18, hclk]) (by simp [mm_lean, vr_bt, vr_bf, c_10, c_18, hclk])
    · skip
      obtain ⟨j, hj1, hj2, rfl⟩ := vx_has_of (n := tm_n t) (by omega) ((mm_is_has _ _).symm.trans c_18)
      have hclj : (nI j).toNatClampNeg = j := nI_clamp (by omega)
      refine vr_iload_n hF 2 rfl dX5_lean_21 rfl rfl ?_
      refine vr_iload_n hF 1 rfl dX5_lean_22 rfl rfl ?_
      refine vr_icmp_geN (tgt := 41) (x := j) (y := k) hF (by omega) (by omega) dX5_lean_23 (by decide) rfl (fun c_23 => ?_) (fun c_23 => ?_)
      · skip
        refine vr_iconst (v := nI 0) hF dX5_lean_41 (by decide +kernel) rfl ?_
        exact vr_retiw hret dX5_lean_42 (by simp [mm_lean, vr_bt, vr_bf, c_10, c_18, c_23, hclk, hclj]) (by simp [mm_lean, vr_bt, vr_bf, c_10, c_18, c_23, hclk, hclj])
      · skip
        refine vr_aload_n hF 0 rfl dX5_lean_26 rfl rfl ?_
        refine vr_get (v := .ref (a 11)) hF 0 13 (vr_in inX5) (vr_m flX5_43) rfl (by decide) rfl rfl rfl dX5_lean_27 rfl ?_
        refine vr_sipush (v := nI 201) hF dX5_lean_30 (by decide +kernel) rfl ?_
        refine vr_iload_n hF 1 rfl dX5_lean_33 rfl rfl ?_
        refine vr_imul (v := nI (201 * k)) hF dX5_lean_34 (pk_mul 201 k) rfl ?_
        refine vr_iload_n hF 2 rfl dX5_lean_35 rfl rfl ?_
        refine vr_iadd (v := nI ((201 * k) + j)) hF dX5_lean_36 (nI_add (201 * k) j) rfl ?_
        refine vr_zald (i := (201 * k) + j) (n := 40401) (f := (fun j => vr_b (w j))) hF 11 2 rfl rfl (by omega) (by decide) dX5_lean_37 rfl ?_
        refine vr_to (ws' := (vm_w g a r t w b)) (lv' := [(0, .ref (a 0)), (1, .int (nI k)), (2, .int (nI j))]) (st' := [.int (vr_b (w ((201 * k) + j)))]) rfl rfl rfl ?_
        refine vr_if_eqB (tgt := 43) hF dX5_lean_38 (by decide) rfl (fun c_38 => ?_) (fun c_38 => ?_)
        · skip
          refine vr_aload_n hF 0 rfl dX5_lean_43 rfl rfl ?_
          refine vr_get (v := .ref (a 11)) hF 0 13 (vr_in inX5) (vr_m flX5_43) rfl (by decide) rfl rfl rfl dX5_lean_44 rfl ?_
          refine vr_sipush (v := nI 201) hF dX5_lean_47 (by decide +kernel) rfl ?_
          refine vr_iload_n hF 1 rfl dX5_lean_50 rfl rfl ?_
          refine vr_imul (v := nI (201 * k)) hF dX5_lean_51 (pk_mul 201 k) rfl ?_
          refine vr_iload_n hF 2 rfl dX5_lean_52 rfl rfl ?_
          refine vr_iadd (v := nI ((201 * k) + j)) hF dX5_lean_53 (nI_add (201 * k) j) rfl ?_
          refine vr_iconst (v := nI 1) hF dX5_lean_54 (by decide +kernel) rfl ?_
          refine vr_zastB (ws' := (vm_w g a r t (vr_ub w ((201 * k) + j) true) b)) (i := (201 * k) + j) (x := true) (n := 40401) (f := w) hF 11 2 rfl rfl (by omega) (by decide) rfl dX5_lean_55 rfl ?_
          refine vr_iconst (v := nI 1) hF dX5_lean_56 (by decide +kernel) rfl ?_
          exact vr_retiw hret dX5_lean_57 (by simp [mm_lean, vr_bt, vr_bf, c_10, c_18, c_23, c_38, hclk, hclj]) (by simp [mm_lean, vr_bt, vr_bf, c_10, c_18, c_23, c_38, hclk, hclj])
        · skip
          refine vr_iconst (v := nI 0) hF dX5_lean_41 (by decide +kernel) rfl ?_
          exact vr_retiw hret dX5_lean_42 (by simp [mm_lean, vr_bt, vr_bf, c_10, c_18, c_23, c_38, hclk, hclj]) (by simp [mm_lean, vr_bt, vr_bf, c_10, c_18, c_23, c_38, hclk, hclj])
def rm_xw_VModel_lock : Room := { frames := 2, cells := 0, slots := 0, locals := 44 }
set_option maxHeartbeats 4000000 in
set_option maxRecDepth 100000 in
theorem xc_VModel_lock (l : Launch) (g : vr_G) (a : Nat → Nat) (r : vx_R) (t : vm_A) (w : Nat → Bool) (b : vx_B) (rc : Int32) (who : Int32) (un : Int64) (h : vm_ok r t b) : vr_Ci l yX5_lock wsX5_lock rm_xw_VModel_lock g.1 (vr_tys g) [.ref (a 0), .int rc, .int who, .long un] (vm_w g a r t w b) (vm_w g a (if mm_lock r t rc who = true then xr_lock r rc.toNatClampNeg who un else r) t w b) (vr_b (mm_lock r t rc who)) := by
  obtain ⟨hrn, htn, hbn⟩ := id h
  refine vr_Ci_mk (cc := cX5_lock) (nL := 5) (ty := .int) rfl (by decide) rfl (Nat.le_of_ble_eq_true rfl) ?_
  intro p e s m args below meth c A Q hF hret
  refine vr_to (ws' := (vm_w g a r t w b)) (lv' := [(0, .ref (a 0)), (1, .int rc), (2, .int who), (3, .long un)]) (st' := []) rfl rfl rfl ?_
  refine vr_aload_n hF 0 rfl dX5_lock_0 rfl rfl ?_
  refine vr_iconst (v := nI 0) hF dX5_lock_1 (by decide +kernel) rfl ?_
  refine vr_put (ws' := (vm_w g a r t w b)) hF 0 0 (vr_in inX5) (vr_m flX5_46) rfl (by decide) rfl rfl tyX5 tyX5_ok nmX5 rfl rfl rfl (Nat.le_of_ble_eq_true rfl) rfl dX5_lock_2 rfl ?_
  refine vr_aload_n hF 0 rfl dX5_lock_5 rfl rfl ?_
  refine vr_iload_n hF 1 rfl dX5_lock_6 rfl rfl ?_
  refine vr_callV_Ci (rest := []) (n0 := 1) hF (xc_VModel_isRecord l g a r t w b rc) (vr_gV vr_hbc mlX5_56 imX5_isRecord seX5_isRecord iniX5 cdX5_isRecord) rfl (by decide +kernel) rfl rfl rfl ⟨Nat.le_of_ble_eq_true rfl, Nat.le_of_ble_eq_true rfl⟩ ⟨Nat.zero_le _, Nat.zero_le _⟩ 0 rfl rfl rfl (Nat.le_of_ble_eq_true rfl) dX5_lock_7 rfl ?_
  refine vr_if_eqB (tgt := 31) hF dX5_lock_10 (by decide) rfl (fun c_10 => ?_) (fun c_10 => ?_)
  · skip
    refine vr_iconst (v := nI 0) hF dX5_lock_31 (by decide +kernel) rfl ?_
    exact vr_retiw hret dX5_lock_32 (by simp [mm_lock, xr_lock, vr_bt, vr_bf, c_10]) (by simp [mm_lock, xr_lock, vr_bt, vr_bf, c_10])
  · skip
    obtain ⟨k, hk1, hk2, rfl⟩ := vx_has_of (n := rr_n r) (by omega) ((mm_is_has _ _).symm.trans c_10)
    have hclk : (nI k).toNatClampNeg = k := nI_clamp (by omega)
    refine vr_aload_n hF 0 rfl dX5_lock_13 rfl rfl ?_
    refine vr_iload_n hF 1 rfl dX5_lock_14 rfl rfl ?_
    refine vr_callV_Ci (rest := []) (n0 := 1) hF (xc_VModel_isLocked l g a r t w b k h (by omega)) (vr_gV vr_hbc mlX5_72 imX5_isLocked seX5_isLocked iniX5 cdX5_isLocked) rfl (by decide +kernel) rfl rfl rfl ⟨Nat.le_of_ble_eq_true rfl, Nat.le_of_ble_eq_true rfl⟩ ⟨Nat.zero_le _, Nat.zero_le _⟩ 0 rfl rfl rfl (Nat.le_of_ble_eq_true rfl) dX5_lock_15 rfl ?_
    refine vr_if_eqB (tgt := 33) hF dX5_lock_18 (by decide) rfl (fun c_18 => ?_) (fun c_18 => ?_)
    · skip
      refine vr_aload_n hF 0 rfl dX5_lock_33 rfl rfl ?_
      refine vr_get (v := .ref (a 2)) hF 0 3 (vr_in inX5) (vr_m flX5_13) rfl (by decide) rfl rfl rfl dX5_lock_34 rfl ?_
      refine vr_iload_n hF 1 rfl dX5_lock_37 rfl rfl ?_
      refine vr_iload_n hF 2 rfl dX5_lock_38 rfl rfl ?_
      refine vr_iast (ws' := (vm_w g a (rr_k r, upd (rr_l r) k who, rr_u r, rr_n r) t w b)) (i := k) (x := who) (n := 21) (f := (rr_l r)) hF 2 0 rfl rfl (by omega) (by decide) rfl dX5_lock_39 rfl ?_
      refine vr_aload_n hF 0 rfl dX5_lock_40 rfl rfl ?_
      refine vr_get (v := .ref (a 3)) hF 0 4 (vr_in inX5) (vr_m flX5_16) rfl (by decide) rfl rfl rfl dX5_lock_41 rfl ?_
      refine vr_iload_n hF 1 rfl dX5_lock_44 rfl rfl ?_
      refine vr_lload_n hF 3 rfl dX5_lock_45 rfl rfl ?_
      refine vr_last (ws' := (vm_w g a (rr_k r, upd (rr_l r) k who, vp_updL (rr_u r) k un, rr_n r) t w b)) (i := k) (x := un) (n := 21) (f := (rr_u r)) hF 3 1 rfl rfl (by omega) (by decide) rfl dX5_lock_46 rfl ?_
      refine vr_iconst (v := nI 1) hF dX5_lock_47 (by decide +kernel) rfl ?_
      exact vr_retiw hret dX5_lock_48 (by simp [mm_lock, xr_lock, vr_bt, vr_bf, c_10, c_18, hclk]) (by simp [mm_lock, xr_lock, vr_bt, vr_bf, c_10, c_18, hclk])
    · skip
      refine vr_aload_n hF 0 rfl dX5_lock_21 rfl rfl ?_
      refine vr_get (v := .ref (a 2)) hF 0 3 (vr_in inX5) (vr_m flX5_13) rfl (by decide) rfl rfl rfl dX5_lock_22 rfl ?_
      refine vr_iload_n hF 1 rfl dX5_lock_25 rfl rfl ?_
      refine vr_iald (i := k) (n := 21) (f := (rr_l r)) hF 2 0 rfl rfl (by omega) (by decide) dX5_lock_26 rfl ?_
      refine vr_iload_n hF 2 rfl dX5_lock_27 rfl rfl ?_
      refine vr_icmp_eq (tgt := 33) hF dX5_lock_28 (by decide) rfl (fun c_28 => ?_) (fun c_28 => ?_)
      · skip
        refine vr_aload_n hF 0 rfl dX5_lock_33 rfl rfl ?_
        refine vr_get (v := .ref (a 2)) hF 0 3 (vr_in inX5) (vr_m flX5_13) rfl (by decide) rfl rfl rfl dX5_lock_34 rfl ?_
        refine vr_iload_n hF 1 rfl dX5_lock_37 rfl rfl ?_
        refine vr_iload_n hF 2 rfl dX5_lock_38 rfl rfl ?_
        refine vr_iast (ws' := (vm_w g a (rr_k r, upd (rr_l r) k who, rr_u r, rr_n r) t w b)) (i := k) (x := who) (n := 21) (f := (rr_l r)) hF 2 0 rfl rfl (by omega) (by decide) rfl dX5_lock_39 rfl ?_
        refine vr_aload_n hF 0 rfl dX5_lock_40 rfl rfl ?_
        refine vr_get (v := .ref (a 3)) hF 0 4 (vr_in inX5) (vr_m flX5_16) rfl (by decide) rfl rfl rfl dX5_lock_41 rfl ?_
        refine vr_iload_n hF 1 rfl dX5_lock_44 rfl rfl ?_
        refine vr_lload_n hF 3 rfl dX5_lock_45 rfl rfl ?_
        refine vr_last (ws' := (vm_w g a (rr_k r, upd (rr_l r) k who, vp_updL (rr_u r) k un, rr_n r) t w b)) (i := k) (x := un) (n := 21) (f := (rr_u r)) hF 3 1 rfl rfl (by omega) (by decide) rfl dX5_lock_46 rfl ?_
        refine vr_iconst (v := nI 1) hF dX5_lock_47 (by decide +kernel) rfl ?_
        exact vr_retiw hret dX5_lock_48 (by simp [mm_lock, xr_lock, vr_bt, vr_bf, c_10, c_18, c_28, hclk]) (by simp [mm_lock, xr_lock, vr_bt, vr_bf, c_10, c_18, c_28, hclk])
      · skip
        refine vr_iconst (v := nI 0) hF dX5_lock_31 (by decide +kernel) rfl ?_
        exact vr_retiw hret dX5_lock_32 (by simp [mm_lock, xr_lock, vr_bt, vr_bf, c_10, c_18, c_28, hclk]) (by simp [mm_lock, xr_lock, vr_bt, vr_bf, c_10, c_18, c_28, hclk])
def rm_xw_VModel_batch : Room := { frames := 1, cells := 0, slots := 0, locals := 21 }
set_option maxHeartbeats 4000000 in
set_option maxRecDepth 100000 in
theorem xw_VModel_batch_lp73 {p : Program} {l : Launch} {e : Env} {s : State} {m : MethodId} {args : Array Value} {below : List Frame} {meth : Method} {c : Code} {A : Nat → Prop} {Q : State → Prop} {g : vr_G} {a : Nat → Nat} (r : vx_R) (t : vm_A) (w : Nat → Bool) (b : vx_B) (f : Int32) (to : Int32) (h : vm_ok r t b) (f0 t0 : Nat) (hft : f0 ≤ t0) (ht : t0 ≤ 200) (ans : Int32) (P : Nat → Int32) (hF : vr_F p s m c cX5_batch 4 args wsX5_batch yX5_batch.cls g.1 (vr_tys g) A) (hret : vr_RtI p l e rm_xw_VModel_batch s m args below meth c cX5_batch g.1 A 4 0 0 Q (vm_w g a r t w (P, tb_n b + 1)) ans) : ∀ (n : Nat) (k : Nat) (o : Nat → Int32), (t0 + 1 < k + n) → (k ≤ t0 + 1) → (P = xb_fill (nI (tb_n b + 1)) t0 n k o) → (ans = nI (tb_n b + 1)) → vr_W p l e rm_xw_VModel_batch s m args below meth c g.1 A 4 0 0 Q (vm_w g a r t w (o, tb_n b + 1)) 73 [(0, .ref (a 0)), (1, .int (nI f0)), (2, .int (nI t0)), (3, .int (nI k))] [] := by
  obtain ⟨hrn, htn, hbn⟩ := id h
  intro n
  induction n with
  | zero => intro k o hk1 hk2 hans hans2; exact absurd hk1 (by omega)
  | succ n ih =>
    intro k o hk1 hk2 hans hans2
    refine vr_iload_n hF 3 rfl dX5_batch_73 rfl rfl ?_
    refine vr_iload_n hF 2 rfl dX5_batch_74 rfl rfl ?_
    refine vr_icmp_gtN (tgt := 94) (x := k) (y := t0) hF (by omega) (by omega) dX5_batch_75 (by decide) rfl (fun c_75 => ?_) (fun c_75 => ?_)
    · skip
      refine vr_aload_n hF 0 rfl dX5_batch_94 rfl rfl ?_
      refine vr_get (v := .int (nI (tb_n b + 1))) hF 0 14 (vr_in inX5) (vr_m flX5_94) rfl (by decide) rfl rfl rfl dX5_batch_95 rfl ?_
      exact vr_retiw hret dX5_batch_98 (by rw [hans, xb_fill]; simp [c_75]) hans2.symm
    · skip
      refine vr_aload_n hF 0 rfl dX5_batch_78 rfl rfl ?_
      refine vr_get (v := .ref (a 10)) hF 0 12 (vr_in inX5) (vr_m flX5_39) rfl (by decide) rfl rfl rfl dX5_batch_79 rfl ?_
      refine vr_iload_n hF 3 rfl dX5_batch_82 rfl rfl ?_
      refine vr_aload_n hF 0 rfl dX5_batch_83 rfl rfl ?_
      refine vr_get (v := .int (nI (tb_n b + 1))) hF 0 14 (vr_in inX5) (vr_m flX5_94) rfl (by decide) rfl rfl rfl dX5_batch_84 rfl ?_
      refine vr_iast (ws' := (vm_w g a r t w (upd o k (nI (tb_n b + 1)), tb_n b + 1))) (i := k) (x := (nI (tb_n b + 1))) (n := 201) (f := o) hF 10 0 rfl rfl (by omega) (by decide) rfl dX5_batch_87 rfl ?_
      refine vr_iinc (lv' := [(3, .int (nI (k + 1))), (0, .ref (a 0)), (1, .int (nI f0)), (2, .int (nI t0))]) hF (nI (k + 1)) 3 rfl dX5_batch_88 (nI_1 k) (by decide) rfl rfl ?_
      refine vr_goto (tgt := 73) hF dX5_batch_91 (by decide) ?_
      refine vr_sub [1, 2, 3, 0] rfl ?_
      exact ih (k + 1) (upd o k (nI (tb_n b + 1))) (by omega) (by omega) (by rw [hans, xb_fill]; simp [c_75]) hans2
set_option maxHeartbeats 4000000 in
set_option maxRecDepth 100000 in
theorem xw_VModel_batch_lp39 {p : Program} {l : Launch} {e : Env} {s : State} {m : MethodId} {args : Array Value} {below : List Frame} {meth : Method} {c : Code} {A : Nat → Prop} {Q : State → Prop} {g : vr_G} {a : Nat → Nat} (r : vx_R) (t : vm_A) (w : Nat → Bool) (b : vx_B) (f : Int32) (to : Int32) (h : vm_ok r t b) (f0 t0 : Nat) (hft : f0 ≤ t0) (ht : t0 ≤ 200) (ans : Int32) (P : vx_B) (hF : vr_F p s m c cX5_batch 4 args wsX5_batch yX5_batch.cls g.1 (vr_tys g) A) (hret : vr_RtI p l e rm_xw_VModel_batch s m args below meth c cX5_batch g.1 A 4 0 0 Q (vm_w g a r t w P) ans) : ∀ (n : Nat) (k : Nat), (t0 + 1 < k + n) → (k ≤ t0 + 1) → (ans = nI (mm_batN b f0 t0 n k)) → (P = mm_batB b f0 t0 n k) → vr_W p l e rm_xw_VModel_batch s m args below meth c g.1 A 4 0 0 Q (vm_w g a r t w b) 39 [(0, .ref (a 0)), (1, .int (nI f0)), (2, .int (nI t0)), (3, .int (nI k))] [] := by
  obtain ⟨hrn, htn, hbn⟩ := id h
  intro n
  induction n with
  | zero => intro k hk1 hk2 hans hans2; exact absurd hk1 (by omega)
  | succ n ih =>
    intro k hk1 hk2 hans hans2
    refine vr_iload_n hF 3 rfl dX5_batch_39 rfl rfl ?_
    refine vr_iload_n hF 2 rfl dX5_batch_40 rfl rfl ?_
    refine vr_icmp_gtN (tgt := 61) (x := k) (y := t0) hF (by omega) (by omega) dX5_batch_41 (by decide) rfl (fun c_41 => ?_) (fun c_41 => ?_)
    · skip
      have hz : xb_taken b t0 (n + 1) k = false := by rw [xb_taken]; simp [c_41]
      rw [mm_batN, hz] at hans
      rw [mm_batB, hz] at hans2
      have hans : ans = nI (tb_n b + 1) := hans
      have hans2 : P = (xb_fill (nI (tb_n b + 1)) t0 (t0 + 2) f0 (tb_o b), tb_n b + 1) := hans2
      subst hans; subst hans2
      refine vr_aload_n hF 0 rfl dX5_batch_61 rfl rfl ?_
      refine vr_dup hF dX5_batch_62 rfl rfl ?_
      refine vr_get (v := .int (nI (tb_n b))) hF 0 14 (vr_in inX5) (vr_m flX5_94) rfl (by decide) rfl rfl rfl dX5_batch_63 rfl ?_
      refine vr_iconst (v := nI 1) hF dX5_batch_66 (by decide +kernel) rfl ?_
      refine vr_iadd (v := nI ((tb_n b) + 1)) hF dX5_batch_67 (nI_add (tb_n b) 1) rfl ?_
      refine vr_put (ws' := (vm_w g a r t w (tb_o b, (tb_n b) + 1))) hF 0 14 (vr_in inX5) (vr_m flX5_94) rfl (by decide) rfl rfl tyX5 tyX5_ok nmX5 rfl rfl rfl (Nat.le_of_ble_eq_true rfl) rfl dX5_batch_68 rfl ?_
      refine vr_iload_n hF 1 rfl dX5_batch_71 rfl rfl ?_
      refine vr_istore_n (lv' := [(3, .int (nI f0)), (0, .ref (a 0)), (1, .int (nI f0)), (2, .int (nI t0))]) hF dX5_batch_72 rfl (by decide) rfl rfl ?_
      refine vr_sub [1, 2, 3, 0] rfl ?_
      exact xw_VModel_batch_lp73 r t w b f to h f0 t0 hft ht _ _ hF hret (t0 + 2) f0 (tb_o b) (by omega) (by omega) rfl rfl
    · skip
      refine vr_aload_n hF 0 rfl dX5_batch_44 rfl rfl ?_
      refine vr_get (v := .ref (a 10)) hF 0 12 (vr_in inX5) (vr_m flX5_39) rfl (by decide) rfl rfl rfl dX5_batch_45 rfl ?_
      refine vr_iload_n hF 3 rfl dX5_batch_48 rfl rfl ?_
      refine vr_iald (i := k) (n := 201) (f := (tb_o b)) hF 10 0 rfl rfl (by omega) (by decide) dX5_batch_49 rfl ?_
      refine vr_if_eq (tgt := 55) hF dX5_batch_50 (by decide) rfl (fun c_50 => ?_) (fun c_50 => ?_)
      · skip
        refine vr_iinc (lv' := [(3, .int (nI (k + 1))), (0, .ref (a 0)), (1, .int (nI f0)), (2, .int (nI t0))]) hF (nI (k + 1)) 3 rfl dX5_batch_55 (nI_1 k) (by decide) rfl rfl ?_
        refine vr_goto (tgt := 39) hF dX5_batch_58 (by decide) ?_
        refine vr_sub [1, 2, 3, 0] rfl ?_
        exact ih (k + 1) (by omega) (by omega) (by rw [hans, mm_batN, mm_batN, xb_taken]; simp [c_41, c_50]) (by rw [hans2, mm_batB, mm_batB, xb_taken]; simp [c_41, c_50])
      · skip
        refine vr_iconst (v := nI 0) hF dX5_batch_53 (by decide +kernel) rfl ?_
        exact vr_retiw hret dX5_batch_54 (by rw [hans2, mm_batB, xb_taken]; simp [c_41, c_50]) (by rw [hans, mm_batN, xb_taken]; simp [c_41, c_50])
set_option maxHeartbeats 4000000 in
set_option maxRecDepth 100000 in
theorem xc_VModel_batch (l : Launch) (g : vr_G) (a : Nat → Nat) (r : vx_R) (t : vm_A) (w : Nat → Bool) (b : vx_B) (f : Int32) (to : Int32) (h : vm_ok r t b) : vr_Ci l yX5_batch wsX5_batch rm_xw_VModel_batch g.1 (vr_tys g) [.ref (a 0), .int f, .int to] (vm_w g a r t w b) (vm_w g a r t w (if mm_batOk t b f to = true then mm_batB b f.toNatClampNeg to.toNatClampNeg (to.toNatClampNeg + 2) f.toNatClampNeg else b)) (nI (if mm_batOk t b f to = true then mm_batN b f.toNatClampNeg to.toNatClampNeg (to.toNatClampNeg + 2) f.toNatClampNeg else 0)) := by
  obtain ⟨hrn, htn, hbn⟩ := id h
  refine vr_Ci_mk (cc := cX5_batch) (nL := 4) (ty := .int) rfl (by decide) rfl (Nat.le_of_ble_eq_true rfl) ?_
  intro p e s m args below meth c A Q hF hret
  refine vr_to (ws' := (vm_w g a r t w b)) (lv' := [(0, .ref (a 0)), (1, .int f), (2, .int to)]) (st' := []) rfl rfl rfl ?_
  refine vr_aload_n hF 0 rfl dX5_batch_0 rfl rfl ?_
  refine vr_iconst (v := nI 0) hF dX5_batch_1 (by decide +kernel) rfl ?_
  refine vr_put (ws' := (vm_w g a r t w b)) hF 0 0 (vr_in inX5) (vr_m flX5_46) rfl (by decide) rfl rfl tyX5 tyX5_ok nmX5 rfl rfl rfl (Nat.le_of_ble_eq_true rfl) rfl dX5_batch_2 rfl ?_
  refine vr_aload_n hF 0 rfl dX5_batch_5 rfl rfl ?_
  refine vr_iload_n hF 1 rfl dX5_batch_6 rfl rfl ?_
  refine vr_callV_Ci (rest := []) (n0 := 1) hF (xc_VModel_isAct l g a r t w b f) (vr_gV vr_hbc mlX5_88 imX5_isAct seX5_isAct iniX5 cdX5_isAct) rfl (by decide +kernel) rfl rfl rfl ⟨Nat.le_of_ble_eq_true rfl, Nat.le_of_ble_eq_true rfl⟩ ⟨Nat.zero_le _, Nat.zero_le _⟩ 0 rfl rfl rfl (Nat.le_of_ble_eq_true rfl) dX5_batch_7 rfl ?_
  refine vr_if_eqB (tgt := 35) hF dX5_batch_10 (by decide) rfl (fun c_10 => ?_) (fun c_10 => ?_)
  · skip
    refine vr_iconst (v := nI 0) hF dX5_batch_35 (by decide +kernel) rfl ?_
    exact vr_retiw hret dX5_batch_36 (by simp [mm_batOk, vr_bt, vr_bf, c_10]) (by simp [mm_batOk, vr_bt, vr_bf, c_10])
  · skip
    obtain ⟨k, hk1, hk2, rfl⟩ := vx_has_of (n := tm_n t) (by omega) ((mm_is_has _ _).symm.trans c_10)
    have hclk : (nI k).toNatClampNeg = k := nI_clamp (by omega)
    refine vr_aload_n hF 0 rfl dX5_batch_13 rfl rfl ?_
    refine vr_iload_n hF 2 rfl dX5_batch_14 rfl rfl ?_
    refine vr_callV_Ci (rest := []) (n0 := 1) hF (xc_VModel_isAct l g a r t w b to) (vr_gV vr_hbc mlX5_88 imX5_isAct seX5_isAct iniX5 cdX5_isAct) rfl (by decide +kernel) rfl rfl rfl ⟨Nat.le_of_ble_eq_true rfl, Nat.le_of_ble_eq_true rfl⟩ ⟨Nat.zero_le _, Nat.zero_le _⟩ 0 rfl rfl rfl (Nat.le_of_ble_eq_true rfl) dX5_batch_15 rfl ?_
    refine vr_if_eqB (tgt := 35) hF dX5_batch_18 (by decide) rfl (fun c_18 => ?_) (fun c_18 => ?_)
    · skip
      refine vr_iconst (v := nI 0) hF dX5_batch_35 (by decide +kernel) rfl ?_
      exact vr_retiw hret dX5_batch_36 (by simp [mm_batOk, vr_bt, vr_bf, c_10, c_18, hclk]) (by simp [mm_batOk, vr_bt, vr_bf, c_10, c_18, hclk])
    · skip
      obtain ⟨j, hj1, hj2, rfl⟩ := vx_has_of (n := tm_n t) (by omega) ((mm_is_has _ _).symm.trans c_18)
      have hclj : (nI j).toNatClampNeg = j := nI_clamp (by omega)
      refine vr_iload_n hF 1 rfl dX5_batch_21 rfl rfl ?_
      refine vr_iload_n hF 2 rfl dX5_batch_22 rfl rfl ?_
      refine vr_icmp_gtN (tgt := 35) (x := k) (y := j) hF (by omega) (by omega) dX5_batch_23 (by decide) rfl (fun c_23 => ?_) (fun c_23 => ?_)
      · skip
        refine vr_iconst (v := nI 0) hF dX5_batch_35 (by decide +kernel) rfl ?_
        exact vr_retiw hret dX5_batch_36 (by simp [mm_batOk, vr_bt, vr_bf, c_10, c_18, c_23, hclk, hclj]) (by simp [mm_batOk, vr_bt, vr_bf, c_10, c_18, c_23, hclk, hclj])
      · skip
        refine vr_aload_n hF 0 rfl dX5_batch_26 rfl rfl ?_
        refine vr_get (v := .int (nI (tb_n b))) hF 0 14 (vr_in inX5) (vr_m flX5_94) rfl (by decide) rfl rfl rfl dX5_batch_27 rfl ?_
        refine vr_bipush (v := nI 30) hF dX5_batch_30 (by decide +kernel) rfl ?_
        refine vr_icmp_neN (tgt := 37) (x := (tb_n b)) (y := 30) hF (by omega) (by omega) dX5_batch_32 (by decide) rfl (fun c_32 => ?_) (fun c_32 => ?_)
        · skip
          have hc : mm_batOk t b (nI k) (nI j) = true := by simp [mm_batOk, hclk, hclj, c_10, c_18, c_23, c_32]
          rw [if_pos hc, if_pos hc, hclk, hclj] at hret
          refine vr_iload_n hF 1 rfl dX5_batch_37 rfl rfl ?_
          refine vr_istore_n (lv' := [(3, .int (nI k)), (0, .ref (a 0)), (1, .int (nI k)), (2, .int (nI j))]) hF dX5_batch_38 rfl (by decide) rfl rfl ?_
          have hft : k ≤ j := by omega
          have ht : j ≤ 200 := by omega
          refine vr_sub [1, 2, 3, 0] rfl ?_
          exact xw_VModel_batch_lp39 r t w b (nI k) (nI j) h k j hft ht _ _ hF hret (j + 2) k (by omega) (by omega) rfl rfl
        · skip
          refine vr_iconst (v := nI 0) hF dX5_batch_35 (by decide +kernel) rfl ?_
          exact vr_retiw hret dX5_batch_36 (by simp [mm_batOk, vr_bt, vr_bf, c_10, c_18, c_23, c_32, hclk, hclj]) (by simp [mm_batOk, vr_bt, vr_bf, c_10, c_18, c_23, c_32, hclk, hclj])
def rm_xw_VModel_drop : Room := { frames := 1, cells := 0, slots := 0, locals := 24 }
set_option maxHeartbeats 4000000 in
set_option maxRecDepth 100000 in
theorem xw_VModel_drop_lp95 {p : Program} {l : Launch} {e : Env} {s : State} {m : MethodId} {args : Array Value} {below : List Frame} {meth : Method} {c : Code} {A : Nat → Prop} {Q : State → Prop} {g : vr_G} {a : Nat → Nat} (r : vx_R) (t : vm_A) (w : Nat → Bool) (b : vx_B) (bt : Int32) (h : vm_ok r t b) (d0 : Nat) (ans : Int32) (P : Nat → Bool) (hF : vr_F p s m c cX5_drop 5 args wsX5_drop yX5_drop.cls g.1 (vr_tys g) A) (hret : vr_RtI p l e rm_xw_VModel_drop s m args below meth c cX5_drop g.1 A 5 0 0 Q (vm_w g a r (tm_setU t P) w b) ans) : ∀ (n : Nat) (k : Nat) (u : Nat → Bool), (tm_n t + 1 < k + n) → (k ≤ tm_n t + 1) → (ans = nI d0) → (P = mm_du t b bt n k u) → vr_W p l e rm_xw_VModel_drop s m args below meth c g.1 A 5 0 0 Q (vm_w g a r (tm_r t, tm_f t, tm_v t, tm_d t, tm_k t, u, tm_n t) w b) 95 [(0, .ref (a 0)), (1, .int bt), (2, .int (nI d0)), (4, .int (nI k))] [] := by
  obtain ⟨hrn, htn, hbn⟩ := id h
  intro n
  induction n with
  | zero => intro k u hk1 hk2 hans hans2; exact absurd hk1 (by omega)
  | succ n ih =>
    intro k u hk1 hk2 hans hans2
    refine vr_iload hF 3 rfl dX5_drop_95 rfl ?_
    refine vr_aload_n hF 0 rfl dX5_drop_97 rfl rfl ?_
    refine vr_get (v := .int (nI (tm_n t))) hF 0 5 (vr_in inX5) (vr_m flX5_53) rfl (by decide) rfl rfl rfl dX5_drop_98 rfl ?_
    refine vr_icmp_gtN (tgt := 143) (x := k) (y := (tm_n t)) hF (by omega) (by omega) dX5_drop_101 (by decide) rfl (fun c_101 => ?_) (fun c_101 => ?_)
    · skip
      refine vr_iload_n hF 2 rfl dX5_drop_143 rfl rfl ?_
      exact vr_retiw hret dX5_drop_144 (by rw [hans2, mm_du]; simp [c_101]) hans.symm
    · skip
      refine vr_aload_n hF 0 rfl dX5_drop_104 rfl rfl ?_
      refine vr_get (v := .ref (a 9)) hF 0 11 (vr_in inX5) (vr_m flX5_35) rfl (by decide) rfl rfl rfl dX5_drop_105 rfl ?_
      refine vr_iload hF 3 rfl dX5_drop_108 rfl ?_
      refine vr_aload_n hF 0 rfl dX5_drop_110 rfl rfl ?_
      refine vr_get (v := .ref (a 9)) hF 0 11 (vr_in inX5) (vr_m flX5_35) rfl (by decide) rfl rfl rfl dX5_drop_111 rfl ?_
      refine vr_iload hF 3 rfl dX5_drop_114 rfl ?_
      refine vr_zald (i := k) (n := 201) (f := (fun j => vr_b (u j))) hF 9 2 rfl rfl (by omega) (by decide) dX5_drop_116 rfl ?_
      refine vr_to (ws' := (vm_w g a r (tm_r t, tm_f t, tm_v t, tm_d t, tm_k t, u, tm_n t) w b)) (lv' := [(0, .ref (a 0)), (1, .int bt), (2, .int (nI d0)), (4, .int (nI k))]) (st' := [.int (vr_b (u k)), .int (nI k), .ref (a 9)]) rfl rfl rfl ?_
      refine vr_if_neB (tgt := 131) hF dX5_drop_117 (by decide) rfl (fun c_117 => ?_) (fun c_117 => ?_)
      · skip
        refine vr_iconst (v := nI 1) hF dX5_drop_131 (by decide +kernel) rfl ?_
        refine vr_goto (tgt := 136) hF dX5_drop_132 (by decide) ?_
        refine vr_zastB (ws' := (vm_w g a r (tm_r t, tm_f t, tm_v t, tm_d t, tm_k t, vr_ub u k true, tm_n t) w b)) (i := k) (x := true) (n := 201) (f := u) hF 9 2 rfl rfl (by omega) (by decide) rfl dX5_drop_136 rfl ?_
        refine vr_iinc (lv' := [(4, .int (nI (k + 1))), (0, .ref (a 0)), (1, .int bt), (2, .int (nI d0))]) hF (nI (k + 1)) 3 rfl dX5_drop_137 (nI_1 k) (by decide) rfl rfl ?_
        refine vr_goto (tgt := 95) hF dX5_drop_140 (by decide) ?_
        refine vr_sub [1, 2, 3, 0] rfl ?_
        exact ih (k + 1) (vr_ub u k true) (by omega) (by omega) hans (by rw [hans2, mm_du]; simp [c_101, c_117])
      · skip
        refine vr_aload_n hF 0 rfl dX5_drop_120 rfl rfl ?_
        refine vr_get (v := .ref (a 10)) hF 0 12 (vr_in inX5) (vr_m flX5_39) rfl (by decide) rfl rfl rfl dX5_drop_121 rfl ?_
        refine vr_iload hF 3 rfl dX5_drop_124 rfl ?_
        refine vr_iald (i := k) (n := 201) (f := (tb_o b)) hF 10 0 rfl rfl (by omega) (by decide) dX5_drop_126 rfl ?_
        refine vr_iload_n hF 1 rfl dX5_drop_127 rfl rfl ?_
        refine vr_icmp_ne (tgt := 135) hF dX5_drop_128 (by decide) rfl (fun c_128 => ?_) (fun c_128 => ?_)
        · skip
          refine vr_iconst (v := nI 0) hF dX5_drop_135 (by decide +kernel) rfl ?_
          refine vr_zastB (ws' := (vm_w g a r (tm_r t, tm_f t, tm_v t, tm_d t, tm_k t, vr_ub u k false, tm_n t) w b)) (i := k) (x := false) (n := 201) (f := u) hF 9 2 rfl rfl (by omega) (by decide) rfl dX5_drop_136 rfl ?_
          refine vr_iinc (lv' := [(4, .int (nI (k + 1))), (0, .ref (a 0)), (1, .int bt), (2, .int (nI d0))]) hF (nI (k + 1)) 3 rfl dX5_drop_137 (nI_1 k) (by decide) rfl rfl ?_
          refine vr_goto (tgt := 95) hF dX5_drop_140 (by decide) ?_
          refine vr_sub [1, 2, 3, 0] rfl ?_
          exact ih (k + 1) (vr_ub u k false) (by omega) (by omega) hans (by rw [hans2, mm_du]; simp [c_101, c_117, c_128])
        · skip
          refine vr_iconst (v := nI 1) hF dX5_drop_131 (by decide +kernel) rfl ?_
          refine vr_goto (tgt := 136) hF dX5_drop_132 (by decide) ?_
          refine vr_zastB (ws' := (vm_w g a r (tm_r t, tm_f t, tm_v t, tm_d t, tm_k t, vr_ub u k true, tm_n t) w b)) (i := k) (x := true) (n := 201) (f := u) hF 9 2 rfl rfl (by omega) (by decide) rfl dX5_drop_136 rfl ?_
          refine vr_iinc (lv' := [(4, .int (nI (k + 1))), (0, .ref (a 0)), (1, .int bt), (2, .int (nI d0))]) hF (nI (k + 1)) 3 rfl dX5_drop_137 (nI_1 k) (by decide) rfl rfl ?_
          refine vr_goto (tgt := 95) hF dX5_drop_140 (by decide) ?_
          refine vr_sub [1, 2, 3, 0] rfl ?_
          exact ih (k + 1) (vr_ub u k true) (by omega) (by omega) hans (by rw [hans2, mm_du]; simp [c_101, c_117, c_128])
set_option maxHeartbeats 4000000 in
set_option maxRecDepth 100000 in
theorem xw_VModel_drop_lp27 {p : Program} {l : Launch} {e : Env} {s : State} {m : MethodId} {args : Array Value} {below : List Frame} {meth : Method} {c : Code} {A : Nat → Prop} {Q : State → Prop} {g : vr_G} {a : Nat → Nat} (r : vx_R) (t : vm_A) (w : Nat → Bool) (b : vx_B) (bt : Int32) (h : vm_ok r t b)  (ans : Int32) (P : Nat → Bool) (hF : vr_F p s m c cX5_drop 5 args wsX5_drop yX5_drop.cls g.1 (vr_tys g) A) (hret : vr_RtI p l e rm_xw_VModel_drop s m args below meth c cX5_drop g.1 A 5 0 0 Q (vm_w g a r (tm_setU t P) w b) ans) : ∀ (n : Nat) (k d : Nat) (hd : Bool), (tm_n t + 1 < k + n) → (k ≤ tm_n t + 1) → (ans = nI (mm_dropN t w b bt n k d hd)) → (P = mm_dropU t w b bt n k hd) → vr_W p l e rm_xw_VModel_drop s m args below meth c g.1 A 5 0 0 Q (vm_w g a r t w b) 27 [(0, .ref (a 0)), (1, .int bt), (2, .int (nI d)), (3, .int (vr_b hd)), (4, .int (nI k))] [] := by
  obtain ⟨hrn, htn, hbn⟩ := id h
  intro n
  induction n with
  | zero => intro k d hd hk1 hk2 hans hans2; exact absurd hk1 (by omega)
  | succ n ih =>
    intro k d hd hk1 hk2 hans hans2
    refine vr_iload hF 4 rfl dX5_drop_27 rfl ?_
    refine vr_aload_n hF 0 rfl dX5_drop_29 rfl rfl ?_
    refine vr_get (v := .int (nI (tm_n t))) hF 0 5 (vr_in inX5) (vr_m flX5_53) rfl (by decide) rfl rfl rfl dX5_drop_30 rfl ?_
    refine vr_icmp_gtN (tgt := 86) (x := k) (y := (tm_n t)) hF (by omega) (by omega) dX5_drop_33 (by decide) rfl (fun c_33 => ?_) (fun c_33 => ?_)
    · skip
      rw [mm_dropN, mm_dh, mm_dn, if_pos c_33, if_pos c_33] at hans
      rw [mm_dropU, mm_dh, if_pos c_33] at hans2
      refine vr_iload_n hF 3 rfl dX5_drop_86 rfl rfl ?_
      refine vr_if_eqB (tgt := 92) hF dX5_drop_87 (by decide) rfl (fun c_87 => ?_) (fun c_87 => ?_)
      · skip
        rw [c_87] at hans hans2
        have hans : ans = nI d := by rw [hans]; simp
        have hans2 : P = mm_du t b bt (tm_n t + 2) 1 (tm_u t) := by rw [hans2]; simp
        subst hans; subst hans2
        refine vr_iconst (v := nI 1) hF dX5_drop_92 (by decide +kernel) rfl ?_
        refine vr_istore (lv' := [(4, .int (nI 1)), (0, .ref (a 0)), (1, .int bt), (2, .int (nI d)), (3, .int (vr_b hd))]) hF dX5_drop_93 (by decide) rfl rfl ?_
        refine vr_sub [1, 2, 3, 0] rfl ?_
        exact xw_VModel_drop_lp95 r t w b bt h d _ _ hF hret (tm_n t + 2) 1 (tm_u t) (by omega) (by omega) rfl rfl
      · skip
        rw [c_87] at hans hans2
        refine vr_iconst (v := nI 0) hF dX5_drop_90 (by decide +kernel) rfl ?_
        exact vr_retiw hret dX5_drop_91 (by rw [hans2]; rfl) (by rw [hans]; simp)
    · skip
      refine vr_aload_n hF 0 rfl dX5_drop_36 rfl rfl ?_
      refine vr_get (v := .ref (a 10)) hF 0 12 (vr_in inX5) (vr_m flX5_39) rfl (by decide) rfl rfl rfl dX5_drop_37 rfl ?_
      refine vr_iload hF 4 rfl dX5_drop_40 rfl ?_
      refine vr_iald (i := k) (n := 201) (f := (tb_o b)) hF 10 0 rfl rfl (by omega) (by decide) dX5_drop_42 rfl ?_
      refine vr_iload_n hF 1 rfl dX5_drop_43 rfl rfl ?_
      refine vr_icmp_ne (tgt := 80) hF dX5_drop_44 (by decide) rfl (fun c_44 => ?_) (fun c_44 => ?_)
      · skip
        refine vr_iinc (lv' := [(4, .int (nI (k + 1))), (0, .ref (a 0)), (1, .int bt), (2, .int (nI d)), (3, .int (vr_b hd))]) hF (nI (k + 1)) 4 rfl dX5_drop_80 (nI_1 k) (by decide) rfl rfl ?_
        refine vr_goto (tgt := 27) hF dX5_drop_83 (by decide) ?_
        refine vr_sub [1, 2, 3, 4, 0] rfl ?_
        exact ih (k + 1) d hd (by omega) (by omega) (by rw [hans, mm_dropN, mm_dropN, mm_dh, mm_dn]; simp [c_33, c_44]) (by rw [hans2, mm_dropU, mm_dropU, mm_dh]; simp [c_33, c_44])
      · skip
        refine vr_aload_n hF 0 rfl dX5_drop_47 rfl rfl ?_
        refine vr_get (v := .ref (a 9)) hF 0 11 (vr_in inX5) (vr_m flX5_35) rfl (by decide) rfl rfl rfl dX5_drop_48 rfl ?_
        refine vr_iload hF 4 rfl dX5_drop_51 rfl ?_
        refine vr_zald (i := k) (n := 201) (f := (fun j => vr_b ((tm_u t) j))) hF 9 2 rfl rfl (by omega) (by decide) dX5_drop_53 rfl ?_
        refine vr_to (ws' := (vm_w g a r t w b)) (lv' := [(0, .ref (a 0)), (1, .int bt), (2, .int (nI d)), (3, .int (vr_b hd)), (4, .int (nI k))]) (st' := [.int (vr_b ((tm_u t) k))]) rfl rfl rfl ?_
        refine vr_if_neB (tgt := 80) hF dX5_drop_54 (by decide) rfl (fun c_54 => ?_) (fun c_54 => ?_)
        · skip
          refine vr_iinc (lv' := [(4, .int (nI (k + 1))), (0, .ref (a 0)), (1, .int bt), (2, .int (nI d)), (3, .int (vr_b hd))]) hF (nI (k + 1)) 4 rfl dX5_drop_80 (nI_1 k) (by decide) rfl rfl ?_
          refine vr_goto (tgt := 27) hF dX5_drop_83 (by decide) ?_
          refine vr_sub [1, 2, 3, 4, 0] rfl ?_
          exact ih (k + 1) d hd (by omega) (by omega) (by rw [hans, mm_dropN, mm_dropN, mm_dh, mm_dn]; simp [c_33, c_44, c_54]) (by rw [hans2, mm_dropU, mm_dropU, mm_dh]; simp [c_33, c_44, c_54])
        · skip
          refine vr_iinc (lv' := [(2, .int (nI (d + 1))), (0, .ref (a 0)), (1, .int bt), (3, .int (vr_b hd)), (4, .int (nI k))]) hF (nI (d + 1)) 2 rfl dX5_drop_57 (nI_1 d) (by decide) rfl rfl ?_
          refine vr_iload_n hF 3 rfl dX5_drop_60 rfl rfl ?_
          refine vr_if_neB (tgt := 74) hF dX5_drop_61 (by decide) rfl (fun c_61 => ?_) (fun c_61 => ?_)
          · skip
            refine vr_iconst (v := nI 1) hF dX5_drop_74 (by decide +kernel) rfl ?_
            refine vr_goto (tgt := 79) hF dX5_drop_75 (by decide) ?_
            refine vr_istore_n (lv' := [(3, .int (nI 1)), (2, .int (nI (d + 1))), (0, .ref (a 0)), (1, .int bt), (4, .int (nI k))]) hF dX5_drop_79 rfl (by decide) rfl rfl ?_
            refine vr_iinc (lv' := [(4, .int (nI (k + 1))), (3, .int (nI 1)), (2, .int (nI (d + 1))), (0, .ref (a 0)), (1, .int bt)]) hF (nI (k + 1)) 4 rfl dX5_drop_80 (nI_1 k) (by decide) rfl rfl ?_
            refine vr_goto (tgt := 27) hF dX5_drop_83 (by decide) ?_
            refine vr_sub [3, 4, 2, 1, 0] rfl ?_
            exact ih (k + 1) (d + 1) true (by omega) (by omega) (by rw [hans, mm_dropN, mm_dropN, mm_dh, mm_dn]; simp [c_33, c_44, c_54, c_61]) (by rw [hans2, mm_dropU, mm_dropU, mm_dh]; simp [c_33, c_44, c_54, c_61])
          · skip
            refine vr_aload_n hF 1 rfl dX5_drop_64 rfl rfl ?_
            refine vr_iload hF 4 rfl dX5_drop_65 rfl ?_
            refine vr_iload_n hF 2 rfl dX5_drop_67 rfl rfl ?_
            refine vr_callV_Ci (rest := []) (n0 := 2) hF (xc_VModel_isLeantOn l g a r t w b k bt h (by omega)) (vr_gV vr_hbc mlX5_91 imX5_isLeantOn seX5_isLeantOn iniX5 cdX5_isLeantOn) rfl (by decide +kernel) rfl rfl rfl ⟨Nat.le_of_ble_eq_true rfl, Nat.le_of_ble_eq_true rfl⟩ ⟨Nat.zero_le _, Nat.zero_le _⟩ 0 rfl rfl rfl (Nat.le_of_ble_eq_true rfl) dX5_drop_68 rfl ?_
            refine vr_if_eqB (tgt := 78) hF dX5_drop_71 (by decide) rfl (fun c_71 => ?_) (fun c_71 => ?_)
            · skip
              refine vr_iconst (v := nI 0) hF dX5_drop_78 (by decide +kernel) rfl ?_
              refine vr_istore_n (lv' := [(3, .int (nI 0)), (2, .int (nI (d + 1))), (0, .ref (a 0)), (1, .int bt), (4, .int (nI k))]) hF dX5_drop_79 rfl (by decide) rfl rfl ?_
              refine vr_iinc (lv' := [(4, .int (nI (k + 1))), (3, .int (nI 0)), (2, .int (nI (d + 1))), (0, .ref (a 0)), (1, .int bt)]) hF (nI (k + 1)) 4 rfl dX5_drop_80 (nI_1 k) (by decide) rfl rfl ?_
              refine vr_goto (tgt := 27) hF dX5_drop_83 (by decide) ?_
              refine vr_sub [3, 4, 2, 1, 0] rfl ?_
              exact ih (k + 1) (d + 1) false (by omega) (by omega) (by rw [hans, mm_dropN, mm_dropN, mm_dh, mm_dn]; simp [c_33, c_44, c_54, c_61, c_71]) (by rw [hans2, mm_dropU, mm_dropU, mm_dh]; simp [c_33, c_44, c_54, c_61, c_71])
            · skip
              refine vr_iconst (v := nI 1) hF dX5_drop_74 (by decide +kernel) rfl ?_
              refine vr_goto (tgt := 79) hF dX5_drop_75 (by decide) ?_
              refine vr_istore_n (lv' := [(3, .int (nI 1)), (2, .int (nI (d + 1))), (0, .ref (a 0)), (1, .int bt), (4, .int (nI k))]) hF dX5_drop_79 rfl (by decide) rfl rfl ?_
              refine vr_iinc (lv' := [(4, .int (nI (k + 1))), (3, .int (nI 1)), (2, .int (nI (d + 1))), (0, .ref (a 0)), (1, .int bt)]) hF (nI (k + 1)) 4 rfl dX5_drop_80 (nI_1 k) (by decide) rfl rfl ?_
              refine vr_goto (tgt := 27) hF dX5_drop_83 (by decide) ?_
              refine vr_sub [3, 4, 2, 1, 0] rfl ?_
              exact ih (k + 1) (d + 1) true (by omega) (by omega) (by rw [hans, mm_dropN, mm_dropN, mm_dh, mm_dn]; simp [c_33, c_44, c_54, c_61, c_71]) (by rw [hans2, mm_dropU, mm_dropU, mm_dh]; simp [c_33, c_44, c_54, c_61, c_71])
set_option maxHeartbeats 4000000 in
set_option maxRecDepth 100000 in
theorem xc_VModel_drop (l : Launch) (g : vr_G) (a : Nat → Nat) (r : vx_R) (t : vm_A) (w : Nat → Bool) (b : vx_B) (bt : Int32) (h : vm_ok r t b) : vr_Ci l yX5_drop wsX5_drop rm_xw_VModel_drop g.1 (vr_tys g) [.ref (a 0), .int bt] (vm_w g a r t w b) (vm_w g a r (if mm_dropOk b bt = true then tm_setU t (mm_dropU t w b bt (tm_n t + 2) 1 false) else t) w b) (nI (if mm_dropOk b bt = true then mm_dropN t w b bt (tm_n t + 2) 1 0 false else 0)) := by
  obtain ⟨hrn, htn, hbn⟩ := id h
  refine vr_Ci_mk (cc := cX5_drop) (nL := 5) (ty := .int) rfl (by decide) rfl (Nat.le_of_ble_eq_true rfl) ?_
  intro p e s m args below meth c A Q hF hret
  refine vr_to (ws' := (vm_w g a r t w b)) (lv' := [(0, .ref (a 0)), (1, .int bt)]) (st' := []) rfl rfl rfl ?_
  refine vr_aload_n hF 0 rfl dX5_drop_0 rfl rfl ?_
  refine vr_iconst (v := nI 0) hF dX5_drop_1 (by decide +kernel) rfl ?_
  refine vr_put (ws' := (vm_w g a r t w b)) hF 0 0 (vr_in inX5) (vr_m flX5_46) rfl (by decide) rfl rfl tyX5 tyX5_ok nmX5 rfl rfl rfl (Nat.le_of_ble_eq_true rfl) rfl dX5_drop_2 rfl ?_
  refine vr_iload_n hF 1 rfl dX5_drop_5 rfl rfl ?_
  refine vr_iconst (v := nI 1) hF dX5_drop_6 (by decide +kernel) rfl ?_
  refine vr_icmp_lt (tgt := 18) hF dX5_drop_7 (by decide) rfl (fun c_7 => ?_) (fun c_7 => ?_)
  · skip
    have hc : ¬ mm_dropOk b bt = true := by simp [mm_dropOk, c_7]
    refine vr_iconst (v := nI 0) hF dX5_drop_18 (by decide +kernel) rfl ?_
    exact vr_retiw hret dX5_drop_19 (by rw [if_neg hc]) (by rw [if_neg hc])
  · skip
    refine vr_iload_n hF 1 rfl dX5_drop_10 rfl rfl ?_
    refine vr_aload_n hF 0 rfl dX5_drop_11 rfl rfl ?_
    refine vr_get (v := .int (nI (tb_n b))) hF 0 14 (vr_in inX5) (vr_m flX5_94) rfl (by decide) rfl rfl rfl dX5_drop_12 rfl ?_
    refine vr_icmp_le (tgt := 20) hF dX5_drop_15 (by decide) rfl (fun c_15 => ?_) (fun c_15 => ?_)
    · skip
      have hc : mm_dropOk b bt = true := by simp [mm_dropOk, c_7, c_15]
      rw [if_pos hc, if_pos hc] at hret
      refine vr_iconst (v := nI 0) hF dX5_drop_20 (by decide +kernel) rfl ?_
      refine vr_istore_n (lv' := [(2, .int (nI 0)), (0, .ref (a 0)), (1, .int bt)]) hF dX5_drop_21 rfl (by decide) rfl rfl ?_
      refine vr_iconst (v := nI 0) hF dX5_drop_22 (by decide +kernel) rfl ?_
      refine vr_istore_n (lv' := [(3, .int (nI 0)), (2, .int (nI 0)), (0, .ref (a 0)), (1, .int bt)]) hF dX5_drop_23 rfl (by decide) rfl rfl ?_
      refine vr_iconst (v := nI 1) hF dX5_drop_24 (by decide +kernel) rfl ?_
      refine vr_istore (lv' := [(4, .int (nI 1)), (3, .int (nI 0)), (2, .int (nI 0)), (0, .ref (a 0)), (1, .int bt)]) hF dX5_drop_25 (by decide) rfl rfl ?_
      refine vr_sub [3, 4, 2, 1, 0] rfl ?_
      exact xw_VModel_drop_lp27 r t w b bt h  _ _ hF hret (tm_n t + 2) 1 0 false (by omega) (by omega) rfl rfl
    · skip
      have hc : ¬ mm_dropOk b bt = true := by simp [mm_dropOk, c_7, c_15]
      refine vr_iconst (v := nI 0) hF dX5_drop_18 (by decide +kernel) rfl ?_
      exact vr_retiw hret dX5_drop_19 (by rw [if_neg hc]) (by rw [if_neg hc])
def rm_xw_VModel_conflict : Room := { frames := 1, cells := 0, slots := 0, locals := 23 }
set_option maxHeartbeats 4000000 in
set_option maxRecDepth 100000 in
theorem xw_VModel_conflict_lp29 {p : Program} {l : Launch} {e : Env} {s : State} {m : MethodId} {args : Array Value} {below : List Frame} {meth : Method} {c : Code} {A : Nat → Prop} {Q : State → Prop} {g : vr_G} {a : Nat → Nat} (r : vx_R) (t : vm_A) (w : Nat → Bool) (b : vx_B) (i : Int32) (what : Int32) (h : vm_ok r t b) (i0 : Nat) (hi0 : i0 < 2 ^ 31) (ans : Int32) (hF : vr_F p s m c cX5_conflict 6 args wsX5_conflict yX5_conflict.cls g.1 (vr_tys g) A) (hret : vr_RtI p l e rm_xw_VModel_conflict s m args below meth c cX5_conflict g.1 A 6 0 0 Q (vm_w g a r t w b) ans) : ∀ (n : Nat) (lo hi sn : Nat), (202 * (201 - lo) + (202 - hi) < n) → (1 ≤ lo) → (lo < hi) → (lo ≤ tm_n t) → (hi ≤ tm_n t + 1) → (sn + n ≤ 50000) → (ans = mm_pair t what i0 n lo hi sn) → vr_W p l e rm_xw_VModel_conflict s m args below meth c g.1 A 6 0 0 Q (vm_w g a r t w b) 29 [(0, .ref (a 0)), (1, .int (nI i0)), (2, .int what), (3, .int (nI sn)), (4, .int (nI lo)), (5, .int (nI hi))] [] := by
  obtain ⟨hrn, htn, hbn⟩ := id h
  intro n
  induction n with
  | zero => intro lo hi sn hm h1 h2 hlo hhi hs hans; exact absurd hm (by omega)
  | succ n ih =>
    intro lo hi sn hm h1 h2 hlo hhi hs hans
    refine vr_iload hF 5 rfl dX5_conflict_29 rfl ?_
    refine vr_aload_n hF 0 rfl dX5_conflict_31 rfl rfl ?_
    refine vr_get (v := .int (nI (tm_n t))) hF 0 5 (vr_in inX5) (vr_m flX5_53) rfl (by decide) rfl rfl rfl dX5_conflict_32 rfl ?_
    refine vr_icmp_gtN (tgt := 151) (x := hi) (y := (tm_n t)) hF (by omega) (by omega) dX5_conflict_35 (by decide) rfl (fun c_35 => ?_) (fun c_35 => ?_)
    · skip
      refine vr_iinc (lv' := [(4, .int (nI (lo + 1))), (0, .ref (a 0)), (1, .int (nI i0)), (2, .int what), (3, .int (nI sn)), (5, .int (nI hi))]) hF (nI (lo + 1)) 4 rfl dX5_conflict_151 (nI_1 lo) (by decide) rfl rfl ?_
      refine vr_goto (tgt := 10) hF dX5_conflict_154 (by decide) ?_
      refine vr_iload hF 0 rfl dX5_conflict_10 rfl ?_
      refine vr_aload_n hF 1 rfl dX5_conflict_12 rfl rfl ?_
      refine vr_get (v := .int (nI (tm_n t))) hF 0 5 (vr_in inX5) (vr_m flX5_53) rfl (by decide) rfl rfl rfl dX5_conflict_13 rfl ?_
      refine vr_icmp_gtN (tgt := 157) (x := (lo + 1)) (y := (tm_n t)) hF (by omega) (by omega) dX5_conflict_16 (by decide) rfl (fun c_16 => ?_) (fun c_16 => ?_)
      · skip
        refine vr_iconst (v := (-1)) hF dX5_conflict_157 (by decide +kernel) rfl ?_
        exact vr_reti hret dX5_conflict_158 (by rw [hans, mm_pair]; simp [mm_cf, vr_bt, vr_bf, mm_conf, vr_n10, c_35, c_16])
      · skip
        refine vr_iload_n hF 2 rfl dX5_conflict_19 rfl rfl ?_
        refine vr_if_ltN (tgt := 157) (x := i0) hF (by omega) dX5_conflict_20 (by decide) rfl ?_
        refine vr_iload hF 0 rfl dX5_conflict_23 rfl ?_
        refine vr_iconst (v := nI 1) hF dX5_conflict_25 (by decide +kernel) rfl ?_
        refine vr_iadd (v := nI ((lo + 1) + 1)) hF dX5_conflict_26 (nI_add (lo + 1) 1) rfl ?_
        refine vr_istore (lv' := [(5, .int (nI ((lo + 1) + 1))), (4, .int (nI (lo + 1))), (0, .ref (a 0)), (1, .int (nI i0)), (2, .int what), (3, .int (nI sn))]) hF dX5_conflict_27 (by decide) rfl rfl ?_
        refine vr_sub [2, 3, 4, 5, 1, 0] rfl ?_
        exact ih (lo + 1) ((lo + 1) + 1) sn (by omega) (by omega) (by omega) (by omega) (by omega) (by omega) (by rw [hans, mm_pair]; simp [mm_conf, c_35, c_16])
    · skip
      refine vr_aload_n hF 0 rfl dX5_conflict_38 rfl rfl ?_
      refine vr_get (v := .ref (a 9)) hF 0 11 (vr_in inX5) (vr_m flX5_35) rfl (by decide) rfl rfl rfl dX5_conflict_39 rfl ?_
      refine vr_iload hF 4 rfl dX5_conflict_42 rfl ?_
      refine vr_zald (i := lo) (n := 201) (f := (fun j => vr_b ((tm_u t) j))) hF 9 2 rfl rfl (by omega) (by decide) dX5_conflict_44 rfl ?_
      refine vr_to (ws' := (vm_w g a r t w b)) (lv' := [(0, .ref (a 0)), (1, .int (nI i0)), (2, .int what), (3, .int (nI sn)), (4, .int (nI lo)), (5, .int (nI hi))]) (st' := [.int (vr_b ((tm_u t) lo))]) rfl rfl rfl ?_
      refine vr_if_neB (tgt := 145) hF dX5_conflict_45 (by decide) rfl (fun c_45 => ?_) (fun c_45 => ?_)
      · skip
        refine vr_iinc (lv' := [(5, .int (nI (hi + 1))), (0, .ref (a 0)), (1, .int (nI i0)), (2, .int what), (3, .int (nI sn)), (4, .int (nI lo))]) hF (nI (hi + 1)) 5 rfl dX5_conflict_145 (nI_1 hi) (by decide) rfl rfl ?_
        refine vr_goto (tgt := 29) hF dX5_conflict_148 (by decide) ?_
        refine vr_sub [1, 2, 3, 4, 5, 0] rfl ?_
        exact ih lo (hi + 1) sn (by omega) (by omega) (by omega) (by omega) (by omega) (by omega) (by rw [hans, mm_pair]; simp [mm_conf, c_35, c_45])
      · skip
        refine vr_aload_n hF 0 rfl dX5_conflict_48 rfl rfl ?_
        refine vr_get (v := .ref (a 9)) hF 0 11 (vr_in inX5) (vr_m flX5_35) rfl (by decide) rfl rfl rfl dX5_conflict_49 rfl ?_
        refine vr_iload hF 5 rfl dX5_conflict_52 rfl ?_
        refine vr_zald (i := hi) (n := 201) (f := (fun j => vr_b ((tm_u t) j))) hF 9 2 rfl rfl (by omega) (by decide) dX5_conflict_54 rfl ?_
        refine vr_to (ws' := (vm_w g a r t w b)) (lv' := [(0, .ref (a 0)), (1, .int (nI i0)), (2, .int what), (3, .int (nI sn)), (4, .int (nI lo)), (5, .int (nI hi))]) (st' := [.int (vr_b ((tm_u t) hi))]) rfl rfl rfl ?_
        refine vr_if_neB (tgt := 145) hF dX5_conflict_55 (by decide) rfl (fun c_55 => ?_) (fun c_55 => ?_)
        · skip
          refine vr_iinc (lv' := [(5, .int (nI (hi + 1))), (0, .ref (a 0)), (1, .int (nI i0)), (2, .int what), (3, .int (nI sn)), (4, .int (nI lo))]) hF (nI (hi + 1)) 5 rfl dX5_conflict_145 (nI_1 hi) (by decide) rfl rfl ?_
          refine vr_goto (tgt := 29) hF dX5_conflict_148 (by decide) ?_
          refine vr_sub [1, 2, 3, 4, 5, 0] rfl ?_
          exact ih lo (hi + 1) sn (by omega) (by omega) (by omega) (by omega) (by omega) (by omega) (by rw [hans, mm_pair]; simp [mm_conf, c_35, c_45, c_55])
        · skip
          refine vr_aload_n hF 0 rfl dX5_conflict_58 rfl rfl ?_
          refine vr_iload hF 4 rfl dX5_conflict_59 rfl ?_
          refine vr_aload_n hF 0 rfl dX5_conflict_61 rfl rfl ?_
          refine vr_get (v := .ref (a 4)) hF 0 6 (vr_in inX5) (vr_m flX5_20) rfl (by decide) rfl rfl rfl dX5_conflict_62 rfl ?_
          refine vr_iload hF 5 rfl dX5_conflict_65 rfl ?_
          refine vr_iald (i := hi) (n := 201) (f := (tm_r t)) hF 4 0 rfl rfl (by omega) (by decide) dX5_conflict_67 rfl ?_
          refine vr_aload_n hF 0 rfl dX5_conflict_68 rfl rfl ?_
          refine vr_get (v := .ref (a 5)) hF 0 7 (vr_in inX5) (vr_m flX5_23) rfl (by decide) rfl rfl rfl dX5_conflict_69 rfl ?_
          refine vr_iload hF 5 rfl dX5_conflict_72 rfl ?_
          refine vr_iald (i := hi) (n := 201) (f := (tm_f t)) hF 5 0 rfl rfl (by omega) (by decide) dX5_conflict_74 rfl ?_
          refine vr_callV_Ci (rest := []) (n0 := 3) hF (xc_VModel_isOf l g a r t w b lo ((tm_r t) hi) ((tm_f t) hi) (by omega)) (vr_gV vr_hbc mlX5_75 imX5_isOf seX5_isOf iniX5 cdX5_isOf) rfl (by decide +kernel) rfl rfl rfl ⟨Nat.le_of_ble_eq_true rfl, Nat.le_of_ble_eq_true rfl⟩ ⟨Nat.zero_le _, Nat.zero_le _⟩ 0 rfl rfl rfl (Nat.le_of_ble_eq_true rfl) dX5_conflict_75 rfl ?_
          refine vr_if_eqB (tgt := 145) hF dX5_conflict_78 (by decide) rfl (fun c_78 => ?_) (fun c_78 => ?_)
          · skip
            refine vr_iinc (lv' := [(5, .int (nI (hi + 1))), (0, .ref (a 0)), (1, .int (nI i0)), (2, .int what), (3, .int (nI sn)), (4, .int (nI lo))]) hF (nI (hi + 1)) 5 rfl dX5_conflict_145 (nI_1 hi) (by decide) rfl rfl ?_
            refine vr_goto (tgt := 29) hF dX5_conflict_148 (by decide) ?_
            refine vr_sub [1, 2, 3, 4, 5, 0] rfl ?_
            exact ih lo (hi + 1) sn (by omega) (by omega) (by omega) (by omega) (by omega) (by omega) (by rw [hans, mm_pair]; simp [mm_conf, c_35, c_45, c_55, c_78])
          · skip
            refine vr_aload_n hF 0 rfl dX5_conflict_81 rfl rfl ?_
            refine vr_get (v := .ref (a 8)) hF 0 10 (vr_in inX5) (vr_m flX5_32) rfl (by decide) rfl rfl rfl dX5_conflict_82 rfl ?_
            refine vr_iload hF 4 rfl dX5_conflict_85 rfl ?_
            refine vr_lald (i := lo) (n := 201) (f := (tm_k t)) hF 8 1 rfl rfl (by omega) (by decide) dX5_conflict_87 rfl ?_
            refine vr_aload_n hF 0 rfl dX5_conflict_88 rfl rfl ?_
            refine vr_get (v := .ref (a 8)) hF 0 10 (vr_in inX5) (vr_m flX5_32) rfl (by decide) rfl rfl rfl dX5_conflict_89 rfl ?_
            refine vr_iload hF 5 rfl dX5_conflict_92 rfl ?_
            refine vr_lald (i := hi) (n := 201) (f := (tm_k t)) hF 8 1 rfl rfl (by omega) (by decide) dX5_conflict_94 rfl ?_
            refine vr_lcmp_ne (tgt := 145) hF dX5_conflict_95 dX5_conflict_96 (by decide) rfl (fun c_96 => ?_) (fun c_96 => ?_)
            · skip
              refine vr_iinc (lv' := [(5, .int (nI (hi + 1))), (0, .ref (a 0)), (1, .int (nI i0)), (2, .int what), (3, .int (nI sn)), (4, .int (nI lo))]) hF (nI (hi + 1)) 5 rfl dX5_conflict_145 (nI_1 hi) (by decide) rfl rfl ?_
              refine vr_goto (tgt := 29) hF dX5_conflict_148 (by decide) ?_
              refine vr_sub [1, 2, 3, 4, 5, 0] rfl ?_
              exact ih lo (hi + 1) sn (by omega) (by omega) (by omega) (by omega) (by omega) (by omega) (by rw [hans, mm_pair]; simp [mm_conf, c_35, c_45, c_55, c_78, c_96])
            · skip
              refine vr_aload_n hF 0 rfl dX5_conflict_99 rfl rfl ?_
              refine vr_get (v := .ref (a 6)) hF 0 8 (vr_in inX5) (vr_m flX5_26) rfl (by decide) rfl rfl rfl dX5_conflict_100 rfl ?_
              refine vr_iload hF 4 rfl dX5_conflict_103 rfl ?_
              refine vr_iald (i := lo) (n := 201) (f := (tm_v t)) hF 6 0 rfl rfl (by omega) (by decide) dX5_conflict_105 rfl ?_
              refine vr_aload_n hF 0 rfl dX5_conflict_106 rfl rfl ?_
              refine vr_get (v := .ref (a 6)) hF 0 8 (vr_in inX5) (vr_m flX5_26) rfl (by decide) rfl rfl rfl dX5_conflict_107 rfl ?_
              refine vr_iload hF 5 rfl dX5_conflict_110 rfl ?_
              refine vr_iald (i := hi) (n := 201) (f := (tm_v t)) hF 6 0 rfl rfl (by omega) (by decide) dX5_conflict_112 rfl ?_
              refine vr_icmp_eq (tgt := 145) hF dX5_conflict_113 (by decide) rfl (fun c_113 => ?_) (fun c_113 => ?_)
              · skip
                refine vr_iinc (lv' := [(5, .int (nI (hi + 1))), (0, .ref (a 0)), (1, .int (nI i0)), (2, .int what), (3, .int (nI sn)), (4, .int (nI lo))]) hF (nI (hi + 1)) 5 rfl dX5_conflict_145 (nI_1 hi) (by decide) rfl rfl ?_
                refine vr_goto (tgt := 29) hF dX5_conflict_148 (by decide) ?_
                refine vr_sub [1, 2, 3, 4, 5, 0] rfl ?_
                exact ih lo (hi + 1) sn (by omega) (by omega) (by omega) (by omega) (by omega) (by omega) (by rw [hans, mm_pair]; simp [mm_conf, c_35, c_45, c_55, c_78, c_96, c_113])
              · skip
                refine vr_iload_n hF 3 rfl dX5_conflict_116 rfl rfl ?_
                refine vr_iload_n hF 1 rfl dX5_conflict_117 rfl rfl ?_
                refine vr_icmp_neN (tgt := 142) (x := sn) (y := i0) hF (by omega) (by omega) dX5_conflict_118 (by decide) rfl (fun c_118 => ?_) (fun c_118 => ?_)
                · skip
                  refine vr_iinc (lv' := [(3, .int (nI (sn + 1))), (0, .ref (a 0)), (1, .int (nI i0)), (2, .int what), (4, .int (nI lo)), (5, .int (nI hi))]) hF (nI (sn + 1)) 3 rfl dX5_conflict_142 (nI_1 sn) (by decide) rfl rfl ?_
                  refine vr_iinc (lv' := [(5, .int (nI (hi + 1))), (3, .int (nI (sn + 1))), (0, .ref (a 0)), (1, .int (nI i0)), (2, .int what), (4, .int (nI lo))]) hF (nI (hi + 1)) 5 rfl dX5_conflict_145 (nI_1 hi) (by decide) rfl rfl ?_
                  refine vr_goto (tgt := 29) hF dX5_conflict_148 (by decide) ?_
                  refine vr_sub [2, 3, 4, 1, 5, 0] rfl ?_
                  exact ih lo (hi + 1) (sn + 1) (by omega) (by omega) (by omega) (by omega) (by omega) (by omega) (by rw [hans, mm_pair]; simp [mm_conf, c_35, c_45, c_55, c_78, c_96, c_113, c_118])
                · skip
                  refine vr_iload_n hF 2 rfl dX5_conflict_121 rfl rfl ?_
                  refine vr_if_ne (tgt := 130) hF dX5_conflict_122 (by decide) rfl (fun c_122 => ?_) (fun c_122 => ?_)
                  · skip
                    refine vr_iload_n hF 2 rfl dX5_conflict_130 rfl rfl ?_
                    refine vr_iconst (v := nI 1) hF dX5_conflict_131 (by decide +kernel) rfl ?_
                    refine vr_icmp_ne (tgt := 140) hF dX5_conflict_132 (by decide) rfl (fun c_132 => ?_) (fun c_132 => ?_)
                    · skip
                      refine vr_iconst (v := (-1)) hF dX5_conflict_140 (by decide +kernel) rfl ?_
                      exact vr_reti hret dX5_conflict_141 (by rw [hans, mm_pair]; simp [mm_cf, vr_bt, vr_bf, mm_conf, vr_n10, c_35, c_45, c_55, c_78, c_96, c_113, c_118, c_122, c_132])
                    · skip
                      refine vr_iload hF 5 rfl dX5_conflict_135 rfl ?_
                      refine vr_goto (tgt := 141) hF dX5_conflict_137 (by decide) ?_
                      exact vr_reti hret dX5_conflict_141 (by rw [hans, mm_pair]; simp [mm_cf, vr_bt, vr_bf, mm_conf, vr_n10, c_35, c_45, c_55, c_78, c_96, c_113, c_118, c_122, c_132])
                  · skip
                    refine vr_iload hF 4 rfl dX5_conflict_125 rfl ?_
                    refine vr_goto (tgt := 141) hF dX5_conflict_127 (by decide) ?_
                    exact vr_reti hret dX5_conflict_141 (by rw [hans, mm_pair]; simp [mm_cf, vr_bt, vr_bf, mm_conf, vr_n10, c_35, c_45, c_55, c_78, c_96, c_113, c_118, c_122])
set_option maxHeartbeats 4000000 in
set_option maxRecDepth 100000 in
theorem xc_VModel_conflict (l : Launch) (g : vr_G) (a : Nat → Nat) (r : vx_R) (t : vm_A) (w : Nat → Bool) (b : vx_B) (i : Int32) (what : Int32) (h : vm_ok r t b) : vr_Ci l yX5_conflict wsX5_conflict rm_xw_VModel_conflict g.1 (vr_tys g) [.ref (a 0), .int i, .int what] (vm_w g a r t w b) (vm_w g a r t w b) (mm_cf t i what) := by
  obtain ⟨hrn, htn, hbn⟩ := id h
  refine vr_Ci_mk (cc := cX5_conflict) (nL := 6) (ty := .int) rfl (by decide) rfl (Nat.le_of_ble_eq_true rfl) ?_
  intro p e s m args below meth c A Q hF hret
  refine vr_to (ws' := (vm_w g a r t w b)) (lv' := [(0, .ref (a 0)), (1, .int i), (2, .int what)]) (st' := []) rfl rfl rfl ?_
  refine vr_aload_n hF 0 rfl dX5_conflict_0 rfl rfl ?_
  refine vr_iconst (v := nI 0) hF dX5_conflict_1 (by decide +kernel) rfl ?_
  refine vr_put (ws' := (vm_w g a r t w b)) hF 0 0 (vr_in inX5) (vr_m flX5_46) rfl (by decide) rfl rfl tyX5 tyX5_ok nmX5 rfl rfl rfl (Nat.le_of_ble_eq_true rfl) rfl dX5_conflict_2 rfl ?_
  refine vr_iconst (v := nI 0) hF dX5_conflict_5 (by decide +kernel) rfl ?_
  refine vr_istore_n (lv' := [(3, .int (nI 0)), (0, .ref (a 0)), (1, .int i), (2, .int what)]) hF dX5_conflict_6 rfl (by decide) rfl rfl ?_
  refine vr_iconst (v := nI 1) hF dX5_conflict_7 (by decide +kernel) rfl ?_
  refine vr_istore (lv' := [(4, .int (nI 1)), (3, .int (nI 0)), (0, .ref (a 0)), (1, .int i), (2, .int what)]) hF dX5_conflict_8 (by decide) rfl rfl ?_
  refine vr_iload hF 0 rfl dX5_conflict_10 rfl ?_
  refine vr_aload_n hF 2 rfl dX5_conflict_12 rfl rfl ?_
  refine vr_get (v := .int (nI (tm_n t))) hF 0 5 (vr_in inX5) (vr_m flX5_53) rfl (by decide) rfl rfl rfl dX5_conflict_13 rfl ?_
  refine vr_icmp_gtN (tgt := 157) (x := 1) (y := (tm_n t)) hF (by omega) (by omega) dX5_conflict_16 (by decide) rfl (fun c_16 => ?_) (fun c_16 => ?_)
  · skip
    refine vr_iconst (v := (-1)) hF dX5_conflict_157 (by decide +kernel) rfl ?_
    exact vr_reti hret dX5_conflict_158 (by simp [mm_cf, vr_bt, vr_bf, mm_conf, vr_n10, c_16])
  · skip
    refine vr_iload_n hF 3 rfl dX5_conflict_19 rfl rfl ?_
    refine vr_if_lt (tgt := 157) hF dX5_conflict_20 (by decide) rfl (fun c_20 => ?_) (fun c_20 => ?_)
    · skip
      refine vr_iconst (v := (-1)) hF dX5_conflict_157 (by decide +kernel) rfl ?_
      exact vr_reti hret dX5_conflict_158 (by simp [mm_cf, vr_bt, vr_bf, mm_conf, vr_n10, c_16, c_20])
    · skip
      obtain ⟨j, hj, rfl⟩ := nI_of c_20
      have hcl : (nI j).toNatClampNeg = j := nI_clamp hj
      refine vr_iload hF 0 rfl dX5_conflict_23 rfl ?_
      refine vr_iconst (v := nI 1) hF dX5_conflict_25 (by decide +kernel) rfl ?_
      refine vr_iadd (v := nI (1 + 1)) hF dX5_conflict_26 (nI_add 1 1) rfl ?_
      refine vr_istore (lv' := [(5, .int (nI (1 + 1))), (4, .int (nI 1)), (3, .int (nI 0)), (0, .ref (a 0)), (1, .int (nI j)), (2, .int what)]) hF dX5_conflict_27 (by decide) rfl rfl ?_
      refine vr_sub [3, 4, 5, 2, 1, 0] rfl ?_
      exact xw_VModel_conflict_lp29 r t w b (nI j) what h j hj _ hF hret 40804 1 2 0 (by omega) (by omega) (by omega) (by omega) (by omega) (by omega) (by simp [mm_cf, hcl, c_16, c_20])
def rm_xw_VModel_history : Room := { frames := 2, cells := 0, slots := 0, locals := 43 }
set_option maxHeartbeats 4000000 in
set_option maxRecDepth 100000 in
theorem xw_VModel_history_lp47 {p : Program} {l : Launch} {e : Env} {s : State} {m : MethodId} {args : Array Value} {below : List Frame} {meth : Method} {c : Code} {A : Nat → Prop} {Q : State → Prop} {g : vr_G} {a : Nat → Nat} (r : vx_R) (t : vm_A) (w : Nat → Bool) (b : vx_B) (rc : Int32) (fd : Int32) (i : Int32) (h : vm_ok r t b) (i0 k : Nat) (hk : k ≤ 200) (F : Nat)  (hF : vr_F p s m c cX5_history 7 args wsX5_history yX5_history.cls g.1 (vr_tys g) A) (hx : vr_W p l e rm_xw_VModel_history s m args below meth c g.1 A 7 0 0 Q (vm_w g a r t w b) 94 [(0, .ref (a 0)), (1, .int rc), (2, .int fd), (3, .int (nI i0)), (4, .int (nI k)), (5, .int (nI F))] []) : ∀ (n : Nat) (j cn : Nat), (tm_n t + 1 < j + n) → (j ≤ tm_n t + 1) → (F = mm_bf t rc fd k n j cn) → vr_W p l e rm_xw_VModel_history s m args below meth c g.1 A 7 0 0 Q (vm_w g a r t w b) 47 [(0, .ref (a 0)), (1, .int rc), (2, .int fd), (3, .int (nI i0)), (4, .int (nI k)), (5, .int (nI cn)), (6, .int (nI j))] [] := by
  obtain ⟨hrn, htn, hbn⟩ := id h
  intro n
  induction n with
  | zero => intro j cn hj1 hj2 hans; exact absurd hj1 (by omega)
  | succ n ih =>
    intro j cn hj1 hj2 hans
    refine vr_iload hF 6 rfl dX5_history_47 rfl ?_
    refine vr_aload_n hF 0 rfl dX5_history_49 rfl rfl ?_
    refine vr_get (v := .int (nI (tm_n t))) hF 0 5 (vr_in inX5) (vr_m flX5_53) rfl (by decide) rfl rfl rfl dX5_history_50 rfl ?_
    refine vr_icmp_gtN (tgt := 94) (x := j) (y := (tm_n t)) hF (by omega) (by omega) dX5_history_53 (by decide) rfl (fun c_53 => ?_) (fun c_53 => ?_)
    · skip
      refine vr_sub [0, 1, 2, 3, 4, 5] rfl ?_
      exact (show F = cn by rw [hans, mm_bf]; simp [c_53]) ▸ hx
    · skip
      refine vr_iload hF 5 rfl dX5_history_56 rfl ?_
      refine vr_aload_n hF 0 rfl dX5_history_58 rfl rfl ?_
      refine vr_iload hF 6 rfl dX5_history_59 rfl ?_
      refine vr_iload_n hF 1 rfl dX5_history_61 rfl rfl ?_
      refine vr_iload_n hF 2 rfl dX5_history_62 rfl rfl ?_
      refine vr_callV_Ci (rest := [.int (nI cn)]) (n0 := 3) hF (xc_VModel_isOf l g a r t w b j rc fd (by omega)) (vr_gV vr_hbc mlX5_75 imX5_isOf seX5_isOf iniX5 cdX5_isOf) rfl (by decide +kernel) rfl rfl rfl ⟨Nat.le_of_ble_eq_true rfl, Nat.le_of_ble_eq_true rfl⟩ ⟨Nat.zero_le _, Nat.zero_le _⟩ 0 rfl rfl rfl (Nat.le_of_ble_eq_true rfl) dX5_history_63 rfl ?_
      refine vr_if_eqB (tgt := 84) hF dX5_history_66 (by decide) rfl (fun c_66 => ?_) (fun c_66 => ?_)
      · skip
        refine vr_iconst (v := nI 0) hF dX5_history_84 (by decide +kernel) rfl ?_
        refine vr_iadd (v := nI (cn + 0)) hF dX5_history_85 (nI_add cn 0) rfl ?_
        refine vr_istore (lv' := [(5, .int (nI (cn + 0))), (0, .ref (a 0)), (1, .int rc), (2, .int fd), (3, .int (nI i0)), (4, .int (nI k)), (6, .int (nI j))]) hF dX5_history_86 (by decide) rfl rfl ?_
        refine vr_iinc (lv' := [(6, .int (nI (j + 1))), (5, .int (nI (cn + 0))), (0, .ref (a 0)), (1, .int rc), (2, .int fd), (3, .int (nI i0)), (4, .int (nI k))]) hF (nI (j + 1)) 6 rfl dX5_history_88 (nI_1 j) (by decide) rfl rfl ?_
        refine vr_goto (tgt := 47) hF dX5_history_91 (by decide) ?_
        refine vr_sub [2, 3, 4, 5, 6, 1, 0] rfl ?_
        exact ih (j + 1) (cn + 0) (by omega) (by omega) (by rw [hans, mm_bf]; simp [c_53, c_66])
      · skip
        refine vr_aload_n hF 0 rfl dX5_history_69 rfl rfl ?_
        refine vr_iload hF 6 rfl dX5_history_70 rfl ?_
        refine vr_iload hF 4 rfl dX5_history_72 rfl ?_
        refine vr_callV_Ci (rest := [.int (nI cn)]) (n0 := 2) hF (xc_VModel_isBefore l g a r t w b j k (by omega) (by omega)) (vr_gV vr_hbc mlX5_79 imX5_isBefore seX5_isBefore iniX5 cdX5_isBefore) rfl (by decide +kernel) rfl rfl rfl ⟨Nat.le_of_ble_eq_true rfl, Nat.le_of_ble_eq_true rfl⟩ ⟨Nat.zero_le _, Nat.zero_le _⟩ 0 rfl rfl rfl (Nat.le_of_ble_eq_true rfl) dX5_history_74 rfl ?_
        refine vr_if_eqB (tgt := 84) hF dX5_history_77 (by decide) rfl (fun c_77 => ?_) (fun c_77 => ?_)
        · skip
          refine vr_iconst (v := nI 0) hF dX5_history_84 (by decide +kernel) rfl ?_
          refine vr_iadd (v := nI (cn + 0)) hF dX5_history_85 (nI_add cn 0) rfl ?_
          refine vr_istore (lv' := [(5, .int (nI (cn + 0))), (0, .ref (a 0)), (1, .int rc), (2, .int fd), (3, .int (nI i0)), (4, .int (nI k)), (6, .int (nI j))]) hF dX5_history_86 (by decide) rfl rfl ?_
          refine vr_iinc (lv' := [(6, .int (nI (j + 1))), (5, .int (nI (cn + 0))), (0, .ref (a 0)), (1, .int rc), (2, .int fd), (3, .int (nI i0)), (4, .int (nI k))]) hF (nI (j + 1)) 6 rfl dX5_history_88 (nI_1 j) (by decide) rfl rfl ?_
          refine vr_goto (tgt := 47) hF dX5_history_91 (by decide) ?_
          refine vr_sub [2, 3, 4, 5, 6, 1, 0] rfl ?_
          exact ih (j + 1) (cn + 0) (by omega) (by omega) (by rw [hans, mm_bf]; simp [c_53, c_66, c_77])
        · skip
          refine vr_iconst (v := nI 1) hF dX5_history_80 (by decide +kernel) rfl ?_
          refine vr_goto (tgt := 85) hF dX5_history_81 (by decide) ?_
          refine vr_iadd (v := nI (cn + 1)) hF dX5_history_85 (nI_add cn 1) rfl ?_
          refine vr_istore (lv' := [(5, .int (nI (cn + 1))), (0, .ref (a 0)), (1, .int rc), (2, .int fd), (3, .int (nI i0)), (4, .int (nI k)), (6, .int (nI j))]) hF dX5_history_86 (by decide) rfl rfl ?_
          refine vr_iinc (lv' := [(6, .int (nI (j + 1))), (5, .int (nI (cn + 1))), (0, .ref (a 0)), (1, .int rc), (2, .int fd), (3, .int (nI i0)), (4, .int (nI k))]) hF (nI (j + 1)) 6 rfl dX5_history_88 (nI_1 j) (by decide) rfl rfl ?_
          refine vr_goto (tgt := 47) hF dX5_history_91 (by decide) ?_
          refine vr_sub [2, 3, 4, 5, 6, 1, 0] rfl ?_
          exact ih (j + 1) (cn + 1) (by omega) (by omega) (by rw [hans, mm_bf]; simp [c_53, c_66, c_77])
set_option maxHeartbeats 4000000 in
set_option maxRecDepth 100000 in
theorem xw_VModel_history_lp8 {p : Program} {l : Launch} {e : Env} {s : State} {m : MethodId} {args : Array Value} {below : List Frame} {meth : Method} {c : Code} {A : Nat → Prop} {Q : State → Prop} {g : vr_G} {a : Nat → Nat} (r : vx_R) (t : vm_A) (w : Nat → Bool) (b : vx_B) (rc : Int32) (fd : Int32) (i : Int32) (h : vm_ok r t b) (i0 : Nat) (hi0 : i0 < 2 ^ 31) (ans : Int32) (hF : vr_F p s m c cX5_history 7 args wsX5_history yX5_history.cls g.1 (vr_tys g) A) (hret : vr_RtI p l e rm_xw_VModel_history s m args below meth c cX5_history g.1 A 7 0 0 Q (vm_w g a r t w b) ans) : ∀ (n : Nat) (k : Nat), (tm_n t + 1 < k + n) → (k ≤ tm_n t + 1) → (ans = nI (mm_h r t rc fd i0 n k)) → vr_W p l e rm_xw_VModel_history s m args below meth c g.1 A 7 0 0 Q (vm_w g a r t w b) 8 [(0, .ref (a 0)), (1, .int rc), (2, .int fd), (3, .int (nI i0)), (4, .int (nI k))] [] := by
  obtain ⟨hrn, htn, hbn⟩ := id h
  intro n
  induction n with
  | zero => intro k hk1 hk2 hans; exact absurd hk1 (by omega)
  | succ n ih =>
    intro k hk1 hk2 hans
    refine vr_iload hF 4 rfl dX5_history_8 rfl ?_
    refine vr_aload_n hF 0 rfl dX5_history_10 rfl rfl ?_
    refine vr_get (v := .int (nI (tm_n t))) hF 0 5 (vr_in inX5) (vr_m flX5_53) rfl (by decide) rfl rfl rfl dX5_history_11 rfl ?_
    refine vr_icmp_gtN (tgt := 109) (x := k) (y := (tm_n t)) hF (by omega) (by omega) dX5_history_14 (by decide) rfl (fun c_14 => ?_) (fun c_14 => ?_)
    · skip
      refine vr_iconst (v := nI 0) hF dX5_history_109 (by decide +kernel) rfl ?_
      exact vr_reti hret dX5_history_110 (by rw [hans, mm_h]; simp [mm_hist, vr_bt, vr_bf, c_14])
    · skip
      have hk200 : k ≤ 200 := by omega
      refine vr_aload_n hF 0 rfl dX5_history_17 rfl rfl ?_
      refine vr_iload_n hF 1 rfl dX5_history_18 rfl rfl ?_
      refine vr_iload_n hF 2 rfl dX5_history_19 rfl rfl ?_
      refine vr_callV_Ci (rest := []) (n0 := 2) hF (xc_VModel_isField l g a r t w b rc fd) (vr_gV vr_hbc mlX5_66 imX5_isField seX5_isField iniX5 cdX5_isField) rfl (by decide +kernel) rfl rfl rfl ⟨Nat.le_of_ble_eq_true rfl, Nat.le_of_ble_eq_true rfl⟩ ⟨Nat.zero_le _, Nat.zero_le _⟩ 0 rfl rfl rfl (Nat.le_of_ble_eq_true rfl) dX5_history_20 rfl ?_
      refine vr_if_eqB (tgt := 109) hF dX5_history_23 (by decide) rfl (fun c_23 => ?_) (fun c_23 => ?_)
      · skip
        refine vr_iconst (v := nI 0) hF dX5_history_109 (by decide +kernel) rfl ?_
        exact vr_reti hret dX5_history_110 (by rw [hans, mm_h]; simp [mm_hist, vr_bt, vr_bf, c_14, c_23])
      · skip
        refine vr_iload_n hF 3 rfl dX5_history_26 rfl rfl ?_
        refine vr_if_ltN (tgt := 109) (x := i0) hF (by omega) dX5_history_27 (by decide) rfl ?_
        refine vr_aload_n hF 0 rfl dX5_history_30 rfl rfl ?_
        refine vr_iload hF 4 rfl dX5_history_31 rfl ?_
        refine vr_iload_n hF 1 rfl dX5_history_33 rfl rfl ?_
        refine vr_iload_n hF 2 rfl dX5_history_34 rfl rfl ?_
        refine vr_callV_Ci (rest := []) (n0 := 3) hF (xc_VModel_isOf l g a r t w b k rc fd (by omega)) (vr_gV vr_hbc mlX5_75 imX5_isOf seX5_isOf iniX5 cdX5_isOf) rfl (by decide +kernel) rfl rfl rfl ⟨Nat.le_of_ble_eq_true rfl, Nat.le_of_ble_eq_true rfl⟩ ⟨Nat.zero_le _, Nat.zero_le _⟩ 0 rfl rfl rfl (Nat.le_of_ble_eq_true rfl) dX5_history_35 rfl ?_
        refine vr_if_eqB (tgt := 103) hF dX5_history_38 (by decide) rfl (fun c_38 => ?_) (fun c_38 => ?_)
        · skip
          refine vr_iinc (lv' := [(4, .int (nI (k + 1))), (0, .ref (a 0)), (1, .int rc), (2, .int fd), (3, .int (nI i0))]) hF (nI (k + 1)) 4 rfl dX5_history_103 (nI_1 k) (by decide) rfl rfl ?_
          refine vr_goto (tgt := 8) hF dX5_history_106 (by decide) ?_
          refine vr_sub [1, 2, 3, 4, 0] rfl ?_
          exact ih (k + 1) (by omega) (by omega) (by rw [hans, mm_h]; simp [c_14, c_23, c_38])
        · skip
          refine vr_iconst (v := nI 0) hF dX5_history_41 (by decide +kernel) rfl ?_
          refine vr_istore (lv' := [(5, .int (nI 0)), (0, .ref (a 0)), (1, .int rc), (2, .int fd), (3, .int (nI i0)), (4, .int (nI k))]) hF dX5_history_42 (by decide) rfl rfl ?_
          refine vr_iconst (v := nI 1) hF dX5_history_44 (by decide +kernel) rfl ?_
          refine vr_istore (lv' := [(6, .int (nI 1)), (5, .int (nI 0)), (0, .ref (a 0)), (1, .int rc), (2, .int fd), (3, .int (nI i0)), (4, .int (nI k))]) hF dX5_history_45 (by decide) rfl rfl ?_
          have hbf : mm_bfT t rc fd k ≤ 0 + (tm_n t + 2) := mm_bf_le t rc fd k (tm_n t + 2) 1 0
          refine vr_sub [2, 3, 4, 5, 6, 1, 0] rfl ?_
          refine xw_VModel_history_lp47 r t w b rc fd i h i0 k hk200 (mm_bfT t rc fd k) hF ?_ (tm_n t + 2) 1 0 (by omega) (by omega) rfl
          refine vr_iload hF 5 rfl dX5_history_94 rfl ?_
          refine vr_iload_n hF 3 rfl dX5_history_96 rfl rfl ?_
          refine vr_icmp_neN (tgt := 103) (x := (mm_bfT t rc fd k)) (y := i0) hF (by omega) (by omega) dX5_history_97 (by decide) rfl (fun c_97 => ?_) (fun c_97 => ?_)
          · skip
            refine vr_iinc (lv' := [(4, .int (nI (k + 1))), (0, .ref (a 0)), (1, .int rc), (2, .int fd), (3, .int (nI i0)), (5, .int (nI (mm_bfT t rc fd k)))]) hF (nI (k + 1)) 4 rfl dX5_history_103 (nI_1 k) (by decide) rfl rfl ?_
            refine vr_goto (tgt := 8) hF dX5_history_106 (by decide) ?_
            refine vr_sub [1, 2, 3, 4, 0] rfl ?_
            exact ih (k + 1) (by omega) (by omega) (by rw [hans, mm_h]; simp [c_14, c_23, c_38, c_97])
          · skip
            refine vr_iload hF 4 rfl dX5_history_100 rfl ?_
            exact vr_reti hret dX5_history_102 (by rw [hans, mm_h]; simp [mm_hist, vr_bt, vr_bf, c_14, c_23, c_38, c_97])
set_option maxHeartbeats 4000000 in
set_option maxRecDepth 100000 in
theorem xc_VModel_history (l : Launch) (g : vr_G) (a : Nat → Nat) (r : vx_R) (t : vm_A) (w : Nat → Bool) (b : vx_B) (rc : Int32) (fd : Int32) (i : Int32) (h : vm_ok r t b) : vr_Ci l yX5_history wsX5_history rm_xw_VModel_history g.1 (vr_tys g) [.ref (a 0), .int rc, .int fd, .int i] (vm_w g a r t w b) (vm_w g a r t w b) (nI (mm_hist r t rc fd i)) := by
  obtain ⟨hrn, htn, hbn⟩ := id h
  refine vr_Ci_mk (cc := cX5_history) (nL := 7) (ty := .int) rfl (by decide) rfl (Nat.le_of_ble_eq_true rfl) ?_
  intro p e s m args below meth c A Q hF hret
  refine vr_to (ws' := (vm_w g a r t w b)) (lv' := [(0, .ref (a 0)), (1, .int rc), (2, .int fd), (3, .int i)]) (st' := []) rfl rfl rfl ?_
  by_cases hi0 : i < 0
  · skip
    refine vr_aload_n hF 0 rfl dX5_history_0 rfl rfl ?_
    refine vr_iconst (v := nI 0) hF dX5_history_1 (by decide +kernel) rfl ?_
    refine vr_put (ws' := (vm_w g a r t w b)) hF 0 0 (vr_in inX5) (vr_m flX5_46) rfl (by decide) rfl rfl tyX5 tyX5_ok nmX5 rfl rfl rfl (Nat.le_of_ble_eq_true rfl) rfl dX5_history_2 rfl ?_
    refine vr_iconst (v := nI 1) hF dX5_history_5 (by decide +kernel) rfl ?_
    refine vr_istore (lv' := [(4, .int (nI 1)), (0, .ref (a 0)), (1, .int rc), (2, .int fd), (3, .int i)]) hF dX5_history_6 (by decide) rfl rfl ?_
    refine vr_iload hF 0 rfl dX5_history_8 rfl ?_
    refine vr_aload_n hF 1 rfl dX5_history_10 rfl rfl ?_
    refine vr_get (v := .int (nI (tm_n t))) hF 0 5 (vr_in inX5) (vr_m flX5_53) rfl (by decide) rfl rfl rfl dX5_history_11 rfl ?_
    refine vr_icmp_gtN (tgt := 109) (x := 1) (y := (tm_n t)) hF (by omega) (by omega) dX5_history_14 (by decide) rfl (fun c_14 => ?_) (fun c_14 => ?_)
    · skip
      refine vr_iconst (v := nI 0) hF dX5_history_109 (by decide +kernel) rfl ?_
      exact vr_reti hret dX5_history_110 (by simp [mm_hist, vr_bt, vr_bf, c_14, hi0])
    · skip
      refine vr_aload_n hF 1 rfl dX5_history_17 rfl rfl ?_
      refine vr_iload_n hF 2 rfl dX5_history_18 rfl rfl ?_
      refine vr_iload_n hF 3 rfl dX5_history_19 rfl rfl ?_
      refine vr_callV_Ci (rest := []) (n0 := 2) hF (xc_VModel_isField l g a r t w b rc fd) (vr_gV vr_hbc mlX5_66 imX5_isField seX5_isField iniX5 cdX5_isField) rfl (by decide +kernel) rfl rfl rfl ⟨Nat.le_of_ble_eq_true rfl, Nat.le_of_ble_eq_true rfl⟩ ⟨Nat.zero_le _, Nat.zero_le _⟩ 0 rfl rfl rfl (Nat.le_of_ble_eq_true rfl) dX5_history_20 rfl ?_
      refine vr_if_eqB (tgt := 109) hF dX5_history_23 (by decide) rfl (fun c_23 => ?_) (fun c_23 => ?_)
      · skip
        refine vr_iconst (v := nI 0) hF dX5_history_109 (by decide +kernel) rfl ?_
        exact vr_reti hret dX5_history_110 (by simp [mm_hist, vr_bt, vr_bf, c_14, c_23, hi0])
      · skip
        refine vr_iload_n hF 4 rfl dX5_history_26 rfl rfl ?_
        refine vr_if_lt (tgt := 109) hF dX5_history_27 (by decide) rfl (fun c_27 => ?_) (fun c_27 => ?_)
        · skip
          refine vr_iconst (v := nI 0) hF dX5_history_109 (by decide +kernel) rfl ?_
          exact vr_reti hret dX5_history_110 (by simp [mm_hist, vr_bt, vr_bf, c_14, c_23, c_27, hi0])
        · skip
          exact absurd hi0 c_27
  · skip
    obtain ⟨j, hj, rfl⟩ := nI_of hi0
    have hcl : (nI j).toNatClampNeg = j := nI_clamp hj
    refine vr_aload_n hF 0 rfl dX5_history_0 rfl rfl ?_
    refine vr_iconst (v := nI 0) hF dX5_history_1 (by decide +kernel) rfl ?_
    refine vr_put (ws' := (vm_w g a r t w b)) hF 0 0 (vr_in inX5) (vr_m flX5_46) rfl (by decide) rfl rfl tyX5 tyX5_ok nmX5 rfl rfl rfl (Nat.le_of_ble_eq_true rfl) rfl dX5_history_2 rfl ?_
    refine vr_iconst (v := nI 1) hF dX5_history_5 (by decide +kernel) rfl ?_
    refine vr_istore (lv' := [(4, .int (nI 1)), (0, .ref (a 0)), (1, .int rc), (2, .int fd), (3, .int (nI j))]) hF dX5_history_6 (by decide) rfl rfl ?_
    refine vr_sub [1, 2, 3, 4, 0] rfl ?_
    exact xw_VModel_history_lp8 r t w b rc fd (nI j) h j hj _ hF hret (tm_n t + 2) 1 (by omega) (by omega) (by simp [mm_hist, hcl, hi0])
end
section
def rm_xw_xc_VModel_init : Room := { frames := 1, cells := 11, slots := 41871, locals := 12 }
theorem xw_xc_VModel_init_obj : Cond.code objectInit ⟨#[0xb1]⟩ 1 none ∈ wsX5_init := vr_m cd_obj
set_option maxHeartbeats 4000000 in
set_option maxRecDepth 100000 in
theorem xc_VModel_init (l : Launch) (g : vr_G) (h0 : Nat) : vr_Cn l yX5_init wsX5_init [] rm_xw_xc_VModel_init g.1 (vr_tys g) h0 [(h0, .inr (5, [.int 0, .int 0, .null, .null, .null, .int 0, .null, .null, .null, .null, .null, .null, .null, .null, .int 0]))] (fun u => vm_w g (vr_at0 h0 u) vx_r0 vm_t0 (fun _ => false) vx_b0) 11 41871 := by
  refine vr_Cn_mk (cc := cX5_init) (nL := 1) (by decide) rfl rfl (by decide) ?_
  intro p e s m args below meth c A Q hF hin hN hret
  refine vr_aload_n hF 0 rfl dX5_init_0 rfl rfl ?_
  refine vr_objInit hF (vr_m mlX5_1) (vr_m im_obj) xw_xc_VModel_init_obj (Nat.le_of_ble_eq_true rfl) (Nat.le_of_ble_eq_true rfl) dX5_init_1 rfl ?_
  refine vr_aload_n hF 0 rfl dX5_init_4 rfl rfl ?_
  refine vr_bipush (v := nI 21) hF dX5_init_5 (by decide +kernel) rfl ?_
  refine vr_newa (atype := .int) (ty := .int) (a0 := (21, .inl (fun _ => 0))) (N' := 21) hF 0 (vr_m ar_int) rfl (fun _ h => h) rfl (fun _ => rfl) (by decide +kernel) (by decide +kernel) (by decide +kernel) (Nat.le_of_ble_eq_true rfl) (Nat.le_of_ble_eq_true rfl) dX5_init_7 rfl (fun q0 => ?_)
  refine vr_to (ws' := [(h0, .inr (5, [.int 0, .int 0, .null, .null, .null, .int 0, .null, .null, .null, .null, .null, .null, .null, .null, .int 0])), (q0, .inl (g.2.1, 21, .inl (fun _ => 0)))]) (lv' := [(0, .ref h0)]) (st' := [.ref q0, .ref h0]) rfl rfl rfl ?_
  refine vr_putF (ws' := [(h0, .inr (5, [.int 0, .int 0, .ref q0, .null, .null, .int 0, .null, .null, .null, .null, .null, .null, .null, .null, .int 0])), (q0, .inl (g.2.1, 21, .inl (fun _ => 0)))]) hF 0 2 (vr_in inX5) (vr_m flX5_7) rfl (by decide) rfl rfl tyX5 tyX5_ok nmX5 rfl hin rfl rfl rfl (Nat.le_of_ble_eq_true rfl) rfl dX5_init_9 rfl ?_
  refine vr_aload_n hF 0 rfl dX5_init_12 rfl rfl ?_
  refine vr_bipush (v := nI 21) hF dX5_init_13 (by decide +kernel) rfl ?_
  refine vr_newa (atype := .int) (ty := .int) (a0 := (21, .inl (fun _ => 0))) (N' := 21) hF 0 (vr_m ar_int) rfl (fun _ h => h) rfl (fun _ => rfl) (by decide +kernel) (by decide +kernel) (by decide +kernel) (Nat.le_of_ble_eq_true rfl) (Nat.le_of_ble_eq_true rfl) dX5_init_15 rfl (fun q1 => ?_)
  refine vr_to (ws' := [(h0, .inr (5, [.int 0, .int 0, .ref q0, .null, .null, .int 0, .null, .null, .null, .null, .null, .null, .null, .null, .int 0])), (q0, .inl (g.2.1, 21, .inl (fun _ => 0))), (q1, .inl (g.2.1, 21, .inl (fun _ => 0)))]) (lv' := [(0, .ref h0)]) (st' := [.ref q1, .ref h0]) rfl rfl rfl ?_
  refine vr_putF (ws' := [(h0, .inr (5, [.int 0, .int 0, .ref q0, .ref q1, .null, .int 0, .null, .null, .null, .null, .null, .null, .null, .null, .int 0])), (q0, .inl (g.2.1, 21, .inl (fun _ => 0))), (q1, .inl (g.2.1, 21, .inl (fun _ => 0)))]) hF 0 3 (vr_in inX5) (vr_m flX5_13) rfl (by decide) rfl rfl tyX5 tyX5_ok nmX5 rfl hin rfl rfl rfl (Nat.le_of_ble_eq_true rfl) rfl dX5_init_17 rfl ?_
  refine vr_aload_n hF 0 rfl dX5_init_20 rfl rfl ?_
  refine vr_bipush (v := nI 21) hF dX5_init_21 (by decide +kernel) rfl ?_
  refine vr_newa (atype := .long) (ty := .long) (a0 := (21, .inr (.inl (fun _ => 0)))) (N' := 21) hF 1 (vr_m ar_long) rfl (fun _ h => h) rfl (fun _ => rfl) (by decide +kernel) (by decide +kernel) (by decide +kernel) (Nat.le_of_ble_eq_true rfl) (Nat.le_of_ble_eq_true rfl) dX5_init_23 rfl (fun q2 => ?_)
  refine vr_to (ws' := [(h0, .inr (5, [.int 0, .int 0, .ref q0, .ref q1, .null, .int 0, .null, .null, .null, .null, .null, .null, .null, .null, .int 0])), (q0, .inl (g.2.1, 21, .inl (fun _ => 0))), (q1, .inl (g.2.1, 21, .inl (fun _ => 0))), (q2, .inl (g.2.2.1, 21, .inr (.inl (fun _ => 0))))]) (lv' := [(0, .ref h0)]) (st' := [.ref q2, .ref h0]) rfl rfl rfl ?_
  refine vr_putF (ws' := [(h0, .inr (5, [.int 0, .int 0, .ref q0, .ref q1, .ref q2, .int 0, .null, .null, .null, .null, .null, .null, .null, .null, .int 0])), (q0, .inl (g.2.1, 21, .inl (fun _ => 0))), (q1, .inl (g.2.1, 21, .inl (fun _ => 0))), (q2, .inl (g.2.2.1, 21, .inr (.inl (fun _ => 0))))]) hF 0 4 (vr_in inX5) (vr_m flX5_16) rfl (by decide) rfl rfl tyX5 tyX5_ok nmX5 rfl hin rfl rfl rfl (Nat.le_of_ble_eq_true rfl) rfl dX5_init_25 rfl ?_
  refine vr_aload_n hF 0 rfl dX5_init_28 rfl rfl ?_
  refine vr_sipush (v := nI 201) hF dX5_init_29 (by decide +kernel) rfl ?_
  refine vr_newa (atype := .int) (ty := .int) (a0 := (201, .inl (fun _ => 0))) (N' := 201) hF 0 (vr_m ar_int) rfl (fun _ h => h) rfl (fun _ => rfl) (by decide +kernel) (by decide +kernel) (by decide +kernel) (Nat.le_of_ble_eq_true rfl) (Nat.le_of_ble_eq_true rfl) dX5_init_32 rfl (fun q3 => ?_)
  refine vr_to (ws' := [(h0, .inr (5, [.int 0, .int 0, .ref q0, .ref q1, .ref q2, .int 0, .null, .null, .null, .null, .null, .null, .null, .null, .int 0])), (q0, .inl (g.2.1, 21, .inl (fun _ => 0))), (q1, .inl (g.2.1, 21, .inl (fun _ => 0))), (q2, .inl (g.2.2.1, 21, .inr (.inl (fun _ => 0)))), (q3, .inl (g.2.1, 201, .inl (fun _ => 0)))]) (lv' := [(0, .ref h0)]) (st' := [.ref q3, .ref h0]) rfl rfl rfl ?_
  refine vr_putF (ws' := [(h0, .inr (5, [.int 0, .int 0, .ref q0, .ref q1, .ref q2, .int 0, .ref q3, .null, .null, .null, .null, .null, .null, .null, .int 0])), (q0, .inl (g.2.1, 21, .inl (fun _ => 0))), (q1, .inl (g.2.1, 21, .inl (fun _ => 0))), (q2, .inl (g.2.2.1, 21, .inr (.inl (fun _ => 0)))), (q3, .inl (g.2.1, 201, .inl (fun _ => 0)))]) hF 0 6 (vr_in inX5) (vr_m flX5_20) rfl (by decide) rfl rfl tyX5 tyX5_ok nmX5 rfl hin rfl rfl rfl (Nat.le_of_ble_eq_true rfl) rfl dX5_init_34 rfl ?_
  refine vr_aload_n hF 0 rfl dX5_init_37 rfl rfl ?_
  refine vr_sipush (v := nI 201) hF dX5_init_38 (by decide +kernel) rfl ?_
  refine vr_newa (atype := .int) (ty := .int) (a0 := (201, .inl (fun _ => 0))) (N' := 201) hF 0 (vr_m ar_int) rfl (fun _ h => h) rfl (fun _ => rfl) (by decide +kernel) (by decide +kernel) (by decide +kernel) (Nat.le_of_ble_eq_true rfl) (Nat.le_of_ble_eq_true rfl) dX5_init_41 rfl (fun q4 => ?_)
  refine vr_to (ws' := [(h0, .inr (5, [.int 0, .int 0, .ref q0, .ref q1, .ref q2, .int 0, .ref q3, .null, .null, .null, .null, .null, .null, .null, .int 0])), (q0, .inl (g.2.1, 21, .inl (fun _ => 0))), (q1, .inl (g.2.1, 21, .inl (fun _ => 0))), (q2, .inl (g.2.2.1, 21, .inr (.inl (fun _ => 0)))), (q3, .inl (g.2.1, 201, .inl (fun _ => 0))), (q4, .inl (g.2.1, 201, .inl (fun _ => 0)))]) (lv' := [(0, .ref h0)]) (st' := [.ref q4, .ref h0]) rfl rfl rfl ?_
  refine vr_putF (ws' := [(h0, .inr (5, [.int 0, .int 0, .ref q0, .ref q1, .ref q2, .int 0, .ref q3, .ref q4, .null, .null, .null, .null, .null, .null, .int 0])), (q0, .inl (g.2.1, 21, .inl (fun _ => 0))), (q1, .inl (g.2.1, 21, .inl (fun _ => 0))), (q2, .inl (g.2.2.1, 21, .inr (.inl (fun _ => 0)))), (q3, .inl (g.2.1, 201, .inl (fun _ => 0))), (q4, .inl (g.2.1, 201, .inl (fun _ => 0)))]) hF 0 7 (vr_in inX5) (vr_m flX5_23) rfl (by decide) rfl rfl tyX5 tyX5_ok nmX5 rfl hin rfl rfl rfl (Nat.le_of_ble_eq_true rfl) rfl dX5_init_43 rfl ?_
  refine vr_aload_n hF 0 rfl dX5_init_46 rfl rfl ?_
  refine vr_sipush (v := nI 201) hF dX5_init_47 (by decide +kernel) rfl ?_
  refine vr_newa (atype := .int) (ty := .int) (a0 := (201, .inl (fun _ => 0))) (N' := 201) hF 0 (vr_m ar_int) rfl (fun _ h => h) rfl (fun _ => rfl) (by decide +kernel) (by decide +kernel) (by decide +kernel) (Nat.le_of_ble_eq_true rfl) (Nat.le_of_ble_eq_true rfl) dX5_init_50 rfl (fun q5 => ?_)
  refine vr_to (ws' := [(h0, .inr (5, [.int 0, .int 0, .ref q0, .ref q1, .ref q2, .int 0, .ref q3, .ref q4, .null, .null, .null, .null, .null, .null, .int 0])), (q0, .inl (g.2.1, 21, .inl (fun _ => 0))), (q1, .inl (g.2.1, 21, .inl (fun _ => 0))), (q2, .inl (g.2.2.1, 21, .inr (.inl (fun _ => 0)))), (q3, .inl (g.2.1, 201, .inl (fun _ => 0))), (q4, .inl (g.2.1, 201, .inl (fun _ => 0))), (q5, .inl (g.2.1, 201, .inl (fun _ => 0)))]) (lv' := [(0, .ref h0)]) (st' := [.ref q5, .ref h0]) rfl rfl rfl ?_
  refine vr_putF (ws' := [(h0, .inr (5, [.int 0, .int 0, .ref q0, .ref q1, .ref q2, .int 0, .ref q3, .ref q4, .ref q5, .null, .null, .null, .null, .null, .int 0])), (q0, .inl (g.2.1, 21, .inl (fun _ => 0))), (q1, .inl (g.2.1, 21, .inl (fun _ => 0))), (q2, .inl (g.2.2.1, 21, .inr (.inl (fun _ => 0)))), (q3, .inl (g.2.1, 201, .inl (fun _ => 0))), (q4, .inl (g.2.1, 201, .inl (fun _ => 0))), (q5, .inl (g.2.1, 201, .inl (fun _ => 0)))]) hF 0 8 (vr_in inX5) (vr_m flX5_26) rfl (by decide) rfl rfl tyX5 tyX5_ok nmX5 rfl hin rfl rfl rfl (Nat.le_of_ble_eq_true rfl) rfl dX5_init_52 rfl ?_
  refine vr_aload_n hF 0 rfl dX5_init_55 rfl rfl ?_
  refine vr_sipush (v := nI 201) hF dX5_init_56 (by decide +kernel) rfl ?_
  refine vr_newa (atype := .long) (ty := .long) (a0 := (201, .inr (.inl (fun _ => 0)))) (N' := 201) hF 1 (vr_m ar_long) rfl (fun _ h => h) rfl (fun _ => rfl) (by decide +kernel) (by decide +kernel) (by decide +kernel) (Nat.le_of_ble_eq_true rfl) (Nat.le_of_ble_eq_true rfl) dX5_init_59 rfl (fun q6 => ?_)
  refine vr_to (ws' := [(h0, .inr (5, [.int 0, .int 0, .ref q0, .ref q1, .ref q2, .int 0, .ref q3, .ref q4, .ref q5, .null, .null, .null, .null, .null, .int 0])), (q0, .inl (g.2.1, 21, .inl (fun _ => 0))), (q1, .inl (g.2.1, 21, .inl (fun _ => 0))), (q2, .inl (g.2.2.1, 21, .inr (.inl (fun _ => 0)))), (q3, .inl (g.2.1, 201, .inl (fun _ => 0))), (q4, .inl (g.2.1, 201, .inl (fun _ => 0))), (q5, .inl (g.2.1, 201, .inl (fun _ => 0))), (q6, .inl (g.2.2.1, 201, .inr (.inl (fun _ => 0))))]) (lv' := [(0, .ref h0)]) (st' := [.ref q6, .ref h0]) rfl rfl rfl ?_
  refine vr_putF (ws' := [(h0, .inr (5, [.int 0, .int 0, .ref q0, .ref q1, .ref q2, .int 0, .ref q3, .ref q4, .ref q5, .ref q6, .null, .null, .null, .null, .int 0])), (q0, .inl (g.2.1, 21, .inl (fun _ => 0))), (q1, .inl (g.2.1, 21, .inl (fun _ => 0))), (q2, .inl (g.2.2.1, 21, .inr (.inl (fun _ => 0)))), (q3, .inl (g.2.1, 201, .inl (fun _ => 0))), (q4, .inl (g.2.1, 201, .inl (fun _ => 0))), (q5, .inl (g.2.1, 201, .inl (fun _ => 0))), (q6, .inl (g.2.2.1, 201, .inr (.inl (fun _ => 0))))]) hF 0 9 (vr_in inX5) (vr_m flX5_29) rfl (by decide) rfl rfl tyX5 tyX5_ok nmX5 rfl hin rfl rfl rfl (Nat.le_of_ble_eq_true rfl) rfl dX5_init_61 rfl ?_
  refine vr_aload_n hF 0 rfl dX5_init_64 rfl rfl ?_
  refine vr_sipush (v := nI 201) hF dX5_init_65 (by decide +kernel) rfl ?_
  refine vr_newa (atype := .long) (ty := .long) (a0 := (201, .inr (.inl (fun _ => 0)))) (N' := 201) hF 1 (vr_m ar_long) rfl (fun _ h => h) rfl (fun _ => rfl) (by decide +kernel) (by decide +kernel) (by decide +kernel) (Nat.le_of_ble_eq_true rfl) (Nat.le_of_ble_eq_true rfl) dX5_init_68 rfl (fun q7 => ?_)
  refine vr_to (ws' := [(h0, .inr (5, [.int 0, .int 0, .ref q0, .ref q1, .ref q2, .int 0, .ref q3, .ref q4, .ref q5, .ref q6, .null, .null, .null, .null, .int 0])), (q0, .inl (g.2.1, 21, .inl (fun _ => 0))), (q1, .inl (g.2.1, 21, .inl (fun _ => 0))), (q2, .inl (g.2.2.1, 21, .inr (.inl (fun _ => 0)))), (q3, .inl (g.2.1, 201, .inl (fun _ => 0))), (q4, .inl (g.2.1, 201, .inl (fun _ => 0))), (q5, .inl (g.2.1, 201, .inl (fun _ => 0))), (q6, .inl (g.2.2.1, 201, .inr (.inl (fun _ => 0)))), (q7, .inl (g.2.2.1, 201, .inr (.inl (fun _ => 0))))]) (lv' := [(0, .ref h0)]) (st' := [.ref q7, .ref h0]) rfl rfl rfl ?_
  refine vr_putF (ws' := [(h0, .inr (5, [.int 0, .int 0, .ref q0, .ref q1, .ref q2, .int 0, .ref q3, .ref q4, .ref q5, .ref q6, .ref q7, .null, .null, .null, .int 0])), (q0, .inl (g.2.1, 21, .inl (fun _ => 0))), (q1, .inl (g.2.1, 21, .inl (fun _ => 0))), (q2, .inl (g.2.2.1, 21, .inr (.inl (fun _ => 0)))), (q3, .inl (g.2.1, 201, .inl (fun _ => 0))), (q4, .inl (g.2.1, 201, .inl (fun _ => 0))), (q5, .inl (g.2.1, 201, .inl (fun _ => 0))), (q6, .inl (g.2.2.1, 201, .inr (.inl (fun _ => 0)))), (q7, .inl (g.2.2.1, 201, .inr (.inl (fun _ => 0))))]) hF 0 10 (vr_in inX5) (vr_m flX5_32) rfl (by decide) rfl rfl tyX5 tyX5_ok nmX5 rfl hin rfl rfl rfl (Nat.le_of_ble_eq_true rfl) rfl dX5_init_70 rfl ?_
  refine vr_aload_n hF 0 rfl dX5_init_73 rfl rfl ?_
  refine vr_sipush (v := nI 201) hF dX5_init_74 (by decide +kernel) rfl ?_
  refine vr_newa (atype := .boolean) (ty := .boolean) (a0 := (201, .inl (fun j => vr_b ((fun _ => false) j)))) (N' := 201) hF 2 (vr_m ar_boolean) rfl (fun _ h => h) rfl (fun _ => rfl) (by decide +kernel) (by decide +kernel) (by decide +kernel) (Nat.le_of_ble_eq_true rfl) (Nat.le_of_ble_eq_true rfl) dX5_init_77 rfl (fun q8 => ?_)
  refine vr_to (ws' := [(h0, .inr (5, [.int 0, .int 0, .ref q0, .ref q1, .ref q2, .int 0, .ref q3, .ref q4, .ref q5, .ref q6, .ref q7, .null, .null, .null, .int 0])), (q0, .inl (g.2.1, 21, .inl (fun _ => 0))), (q1, .inl (g.2.1, 21, .inl (fun _ => 0))), (q2, .inl (g.2.2.1, 21, .inr (.inl (fun _ => 0)))), (q3, .inl (g.2.1, 201, .inl (fun _ => 0))), (q4, .inl (g.2.1, 201, .inl (fun _ => 0))), (q5, .inl (g.2.1, 201, .inl (fun _ => 0))), (q6, .inl (g.2.2.1, 201, .inr (.inl (fun _ => 0)))), (q7, .inl (g.2.2.1, 201, .inr (.inl (fun _ => 0)))), (q8, .inl (g.2.2.2, 201, .inl (fun j => vr_b ((fun _ => false) j))))]) (lv' := [(0, .ref h0)]) (st' := [.ref q8, .ref h0]) rfl rfl rfl ?_
  refine vr_putF (ws' := [(h0, .inr (5, [.int 0, .int 0, .ref q0, .ref q1, .ref q2, .int 0, .ref q3, .ref q4, .ref q5, .ref q6, .ref q7, .ref q8, .null, .null, .int 0])), (q0, .inl (g.2.1, 21, .inl (fun _ => 0))), (q1, .inl (g.2.1, 21, .inl (fun _ => 0))), (q2, .inl (g.2.2.1, 21, .inr (.inl (fun _ => 0)))), (q3, .inl (g.2.1, 201, .inl (fun _ => 0))), (q4, .inl (g.2.1, 201, .inl (fun _ => 0))), (q5, .inl (g.2.1, 201, .inl (fun _ => 0))), (q6, .inl (g.2.2.1, 201, .inr (.inl (fun _ => 0)))), (q7, .inl (g.2.2.1, 201, .inr (.inl (fun _ => 0)))), (q8, .inl (g.2.2.2, 201, .inl (fun j => vr_b ((fun _ => false) j))))]) hF 0 11 (vr_in inX5) (vr_m flX5_35) rfl (by decide) rfl rfl tyX5 tyX5_ok nmX5 rfl hin rfl rfl rfl (Nat.le_of_ble_eq_true rfl) rfl dX5_init_79 rfl ?_
  refine vr_aload_n hF 0 rfl dX5_init_82 rfl rfl ?_
  refine vr_sipush (v := nI 201) hF dX5_init_83 (by decide +kernel) rfl ?_
  refine vr_newa (atype := .int) (ty := .int) (a0 := (201, .inl (fun _ => 0))) (N' := 201) hF 0 (vr_m ar_int) rfl (fun _ h => h) rfl (fun _ => rfl) (by decide +kernel) (by decide +kernel) (by decide +kernel) (Nat.le_of_ble_eq_true rfl) (Nat.le_of_ble_eq_true rfl) dX5_init_86 rfl (fun q9 => ?_)
  refine vr_to (ws' := [(h0, .inr (5, [.int 0, .int 0, .ref q0, .ref q1, .ref q2, .int 0, .ref q3, .ref q4, .ref q5, .ref q6, .ref q7, .ref q8, .null, .null, .int 0])), (q0, .inl (g.2.1, 21, .inl (fun _ => 0))), (q1, .inl (g.2.1, 21, .inl (fun _ => 0))), (q2, .inl (g.2.2.1, 21, .inr (.inl (fun _ => 0)))), (q3, .inl (g.2.1, 201, .inl (fun _ => 0))), (q4, .inl (g.2.1, 201, .inl (fun _ => 0))), (q5, .inl (g.2.1, 201, .inl (fun _ => 0))), (q6, .inl (g.2.2.1, 201, .inr (.inl (fun _ => 0)))), (q7, .inl (g.2.2.1, 201, .inr (.inl (fun _ => 0)))), (q8, .inl (g.2.2.2, 201, .inl (fun j => vr_b ((fun _ => false) j)))), (q9, .inl (g.2.1, 201, .inl (fun _ => 0)))]) (lv' := [(0, .ref h0)]) (st' := [.ref q9, .ref h0]) rfl rfl rfl ?_
  refine vr_putF (ws' := [(h0, .inr (5, [.int 0, .int 0, .ref q0, .ref q1, .ref q2, .int 0, .ref q3, .ref q4, .ref q5, .ref q6, .ref q7, .ref q8, .ref q9, .null, .int 0])), (q0, .inl (g.2.1, 21, .inl (fun _ => 0))), (q1, .inl (g.2.1, 21, .inl (fun _ => 0))), (q2, .inl (g.2.2.1, 21, .inr (.inl (fun _ => 0)))), (q3, .inl (g.2.1, 201, .inl (fun _ => 0))), (q4, .inl (g.2.1, 201, .inl (fun _ => 0))), (q5, .inl (g.2.1, 201, .inl (fun _ => 0))), (q6, .inl (g.2.2.1, 201, .inr (.inl (fun _ => 0)))), (q7, .inl (g.2.2.1, 201, .inr (.inl (fun _ => 0)))), (q8, .inl (g.2.2.2, 201, .inl (fun j => vr_b ((fun _ => false) j)))), (q9, .inl (g.2.1, 201, .inl (fun _ => 0)))]) hF 0 12 (vr_in inX5) (vr_m flX5_39) rfl (by decide) rfl rfl tyX5 tyX5_ok nmX5 rfl hin rfl rfl rfl (Nat.le_of_ble_eq_true rfl) rfl dX5_init_88 rfl ?_
  refine vr_aload_n hF 0 rfl dX5_init_91 rfl rfl ?_
  refine vr_ldc (v := nI 40401) hF (vr_m kX5_42) dX5_init_92 rfl ?_
  refine vr_newa (atype := .boolean) (ty := .boolean) (a0 := (40401, .inl (fun j => vr_b ((fun _ => false) j)))) (N' := 40401) hF 2 (vr_m ar_boolean) rfl (fun _ h => h) rfl (fun _ => rfl) (by decide +kernel) (by decide +kernel) (by decide +kernel) (Nat.le_of_ble_eq_true rfl) (Nat.le_of_ble_eq_true rfl) dX5_init_94 rfl (fun q10 => ?_)
  refine vr_to (ws' := [(h0, .inr (5, [.int 0, .int 0, .ref q0, .ref q1, .ref q2, .int 0, .ref q3, .ref q4, .ref q5, .ref q6, .ref q7, .ref q8, .ref q9, .null, .int 0])), (q0, .inl (g.2.1, 21, .inl (fun _ => 0))), (q1, .inl (g.2.1, 21, .inl (fun _ => 0))), (q2, .inl (g.2.2.1, 21, .inr (.inl (fun _ => 0)))), (q3, .inl (g.2.1, 201, .inl (fun _ => 0))), (q4, .inl (g.2.1, 201, .inl (fun _ => 0))), (q5, .inl (g.2.1, 201, .inl (fun _ => 0))), (q6, .inl (g.2.2.1, 201, .inr (.inl (fun _ => 0)))), (q7, .inl (g.2.2.1, 201, .inr (.inl (fun _ => 0)))), (q8, .inl (g.2.2.2, 201, .inl (fun j => vr_b ((fun _ => false) j)))), (q9, .inl (g.2.1, 201, .inl (fun _ => 0))), (q10, .inl (g.2.2.2, 40401, .inl (fun j => vr_b ((fun _ => false) j))))]) (lv' := [(0, .ref h0)]) (st' := [.ref q10, .ref h0]) rfl rfl rfl ?_
  refine vr_putF (ws' := [(h0, .inr (5, [.int 0, .int 0, .ref q0, .ref q1, .ref q2, .int 0, .ref q3, .ref q4, .ref q5, .ref q6, .ref q7, .ref q8, .ref q9, .ref q10, .int 0])), (q0, .inl (g.2.1, 21, .inl (fun _ => 0))), (q1, .inl (g.2.1, 21, .inl (fun _ => 0))), (q2, .inl (g.2.2.1, 21, .inr (.inl (fun _ => 0)))), (q3, .inl (g.2.1, 201, .inl (fun _ => 0))), (q4, .inl (g.2.1, 201, .inl (fun _ => 0))), (q5, .inl (g.2.1, 201, .inl (fun _ => 0))), (q6, .inl (g.2.2.1, 201, .inr (.inl (fun _ => 0)))), (q7, .inl (g.2.2.1, 201, .inr (.inl (fun _ => 0)))), (q8, .inl (g.2.2.2, 201, .inl (fun j => vr_b ((fun _ => false) j)))), (q9, .inl (g.2.1, 201, .inl (fun _ => 0))), (q10, .inl (g.2.2.2, 40401, .inl (fun j => vr_b ((fun _ => false) j))))]) hF 0 13 (vr_in inX5) (vr_m flX5_43) rfl (by decide) rfl rfl tyX5 tyX5_ok nmX5 rfl hin rfl rfl rfl (Nat.le_of_ble_eq_true rfl) rfl dX5_init_96 rfl ?_
  exact hret (fun i => match i with | 0 => q0 | 1 => q1 | 2 => q2 | 3 => q3 | 4 => q4 | 5 => q5 | 6 => q6 | 7 => q7 | 8 => q8 | 9 => q9 | _ => q10) _ _ dX5_init_99
end
section
/-! the row 'ordered' is the acts in ORDER -/
def xo_lt (t : vx_A) (i j : Nat) : Prop := (ta_k t i).toInt < (ta_k t j).toInt ∨ ((ta_k t i).toInt = (ta_k t j).toInt ∧ ((ta_d t i).toInt < (ta_d t j).toInt ∨ ((ta_d t i).toInt = (ta_d t j).toInt ∧ i < j)))
theorem xo_irr (t : vx_A) (i : Nat) : ¬ xo_lt t i i := by unfold xo_lt; omega
theorem xo_tr {t : vx_A} {i j k : Nat} (h1 : xo_lt t i j) (h2 : xo_lt t j k) : xo_lt t i k := by unfold xo_lt at *; omega
theorem xo_tot (t : vx_A) {i j : Nat} (h : i ≠ j) : xo_lt t i j ∨ xo_lt t j i := by unfold xo_lt; omega
def xo_inv (t : vx_A) : Prop := (∀ p, 1 ≤ p → p ≤ ta_n t → 1 ≤ ta_o t p ∧ ta_o t p ≤ ta_n t) ∧ (∀ p q, 1 ≤ p → p < q → q ≤ ta_n t → xo_lt t (ta_o t p) (ta_o t q)) ∧ (∀ j, 1 ≤ j → j ≤ ta_n t → ∃ p, 1 ≤ p ∧ p ≤ ta_n t ∧ ta_o t p = j)
theorem xo_behind_t {t : vx_A} {i j : Nat} (hij : i < j) (h : xa_behind t i j = true) : xo_lt t j i := by
  unfold xa_behind at h
  unfold xo_lt
  split at h
  · rename_i h1
    split at h
    · cases h
    · rename_i h2
      have e1 : (ta_k t i).toInt = (ta_k t j).toInt := by rw [h1]
      have e2 : ¬ (ta_d t i).toInt ≤ (ta_d t j).toInt := fun q => h2 (Int64.le_iff_toInt_le.mpr q)
      omega
  · split at h
    · cases h
    · rename_i h2
      have e2 : ¬ (ta_k t i).toInt ≤ (ta_k t j).toInt := fun q => h2 (Int64.le_iff_toInt_le.mpr q)
      omega
theorem xo_behind_f {t : vx_A} {i j : Nat} (hij : i < j) (h : xa_behind t i j = false) : xo_lt t i j := by
  unfold xa_behind at h
  unfold xo_lt
  split at h
  · rename_i h1
    split at h
    · rename_i h2
      have e1 : (ta_k t i).toInt = (ta_k t j).toInt := by rw [h1]
      have e2 : (ta_d t i).toInt ≤ (ta_d t j).toInt := Int64.le_iff_toInt_le.mp h2
      omega
    · cases h
  · rename_i h1
    split at h
    · rename_i h2
      have e2 : (ta_k t i).toInt ≤ (ta_k t j).toInt := Int64.le_iff_toInt_le.mp h2
      have e3 : ¬ (ta_k t i).toInt = (ta_k t j).toInt := fun q => h1 (Int64.toInt_inj.mp q)
      omega
    · cases h
theorem vr_un_s (f : Nat → Nat) (k v : Nat) : vr_un f k v k = v := by simp [vr_un]
theorem vr_un_n {f : Nat → Nat} {k v j : Nat} (h : j ≠ k) : vr_un f k v j = f j := by simp [vr_un, h]
/-- what putNewestInOrder does to the row -/
theorem xo_put (t : vx_A) : ∀ (m : Nat) (o : Nat → Nat), 1 ≤ m → ∃ q, 1 ≤ q ∧ q ≤ m ∧ (∀ j, j < q → xa_put t m o j = o j) ∧ (∀ j, m < j → xa_put t m o j = o j) ∧ xa_put t m o q = ta_n t ∧ (∀ j, q ≤ j → j < m → xa_put t m o (j + 1) = o j) ∧ (1 < q → xa_behind t (o (q - 1)) (ta_n t) = false) ∧ (∀ j, q ≤ j → j < m → xa_behind t (o j) (ta_n t) = true) := by
  intro m
  induction m with
  | zero => intro o h; omega
  | succ z ih =>
    intro o _
    by_cases hz : z + 1 ≤ 1
    · have e : xa_put t (z + 1) o = vr_un o (z + 1) (ta_n t) := by rw [xa_put, if_pos hz]
      rw [e]
      refine ⟨z + 1, by omega, by omega, fun j hj => vr_un_n (by omega), fun j hj => vr_un_n (by omega), vr_un_s _ _ _, fun j h1 h2 => by omega, fun h => by omega, fun j h1 h2 => by omega⟩
    · by_cases hb : xa_behind t (o z) (ta_n t) = true
      · have e : xa_put t (z + 1) o = xa_put t z (vr_un o (z + 1) (o z)) := by rw [xa_put, if_neg hz, if_pos hb]
        rw [e]
        obtain ⟨q, h1, h2, h3, h4, h5, h6, h7, h8⟩ := ih (vr_un o (z + 1) (o z)) (by omega)
        refine ⟨q, h1, by omega, fun j hj => ?_, fun j hj => ?_, h5, fun j g1 g2 => ?_, fun g => ?_, fun j g1 g2 => ?_⟩
        · rw [h3 j hj]; exact vr_un_n (by omega)
        · rw [h4 j (by omega)]; exact vr_un_n (by omega)
        · by_cases hj : j = z
          · subst hj
            rw [h4 (j + 1) (by omega)]; exact vr_un_s _ _ _
          · rw [h6 j g1 (by omega)]; exact vr_un_n (by omega)
        · have := h7 g
          rwa [vr_un_n (by omega)] at this
        · by_cases hj : j = z
          · subst hj; exact hb
          · have := h8 j g1 (by omega)
            rwa [vr_un_n (by omega)] at this
      · have hb' : xa_behind t (o z) (ta_n t) = false := by simpa using hb
        have e : xa_put t (z + 1) o = vr_un o (z + 1) (ta_n t) := by rw [xa_put, if_neg hz, if_neg hb]
        rw [e]
        exact ⟨z + 1, by omega, by omega, fun j hj => vr_un_n (by omega), fun j hj => vr_un_n (by omega), vr_un_s _ _ _, fun j h1 h2 => by omega, fun h => hb', fun j h1 h2 => by omega⟩
theorem xo_new_lt {t : vx_A} {rc fd v : Int32} {vd kn : Int64} {i j : Nat} (hi : i ≤ ta_n t) (hj : j ≤ ta_n t) : xo_lt (xa_new t rc fd v vd kn) i j ↔ xo_lt t i j := by
  have e1 : ta_k (xa_new t rc fd v vd kn) i = ta_k t i := pk_uLn (by omega)
  have e2 : ta_k (xa_new t rc fd v vd kn) j = ta_k t j := pk_uLn (by omega)
  have e3 : ta_d (xa_new t rc fd v vd kn) i = ta_d t i := pk_uLn (by omega)
  have e4 : ta_d (xa_new t rc fd v vd kn) j = ta_d t j := pk_uLn (by omega)
  unfold xo_lt
  rw [e1, e2, e3, e4]
/-- an act more keeps the row in ORDER -/
theorem xo_add {t : vx_A} (h : xo_inv t) (rc fd v : Int32) (vd kn : Int64) : xo_inv (xa_add t rc fd v vd kn) := by
  obtain ⟨q, h1, h2, h3, h4, h5, h6, h7, h8⟩ := xo_put (xa_new t rc fd v vd kn) (ta_n t + 1) (ta_o t) (by omega)
  obtain ⟨i1, i2, i3⟩ := h
  have eo : ta_o (xa_add t rc fd v vd kn) = xa_put (xa_new t rc fd v vd kn) (ta_n t + 1) (ta_o t) := rfl
  have en : ta_n (xa_add t rc fd v vd kn) = ta_n t + 1 := rfl
  have eN : ta_n (xa_new t rc fd v vd kn) = ta_n t + 1 := rfl
  have el : ∀ i j, xo_lt (xa_add t rc fd v vd kn) i j ↔ xo_lt (xa_new t rc fd v vd kn) i j := fun i j => Iff.rfl
  have hO : ∀ p, 1 ≤ p → p ≤ ta_n t → 1 ≤ ta_o t p ∧ ta_o t p ≤ ta_n t := i1
  rw [eN] at h5 h7 h8
  generalize hP : xa_put (xa_new t rc fd v vd kn) (ta_n t + 1) (ta_o t) = P at *
  -- what stands at a place
  have hat : ∀ p, 1 ≤ p → p ≤ ta_n t + 1 → (p < q ∧ P p = ta_o t p) ∨ (p = q ∧ P p = ta_n t + 1) ∨ (q < p ∧ P p = ta_o t (p - 1)) := by
    intro p g1 g2
    rcases Nat.lt_trichotomy p q with g | g | g
    · exact Or.inl ⟨g, h3 p g⟩
    · subst g; exact Or.inr (Or.inl ⟨rfl, h5⟩)
    · refine Or.inr (Or.inr ⟨g, ?_⟩)
      have := h6 (p - 1) (by omega) (by omega)
      rwa [show p - 1 + 1 = p by omega] at this
  -- those ahead of q are below the new one, those behind it above
  have hlo : ∀ p, 1 ≤ p → p < q → xo_lt (xa_new t rc fd v vd kn) (ta_o t p) (ta_n t + 1) := by
    intro p g1 g2
    have hb := xo_behind_f (t := xa_new t rc fd v vd kn) (by have := hO (q - 1) (by omega) (by omega); omega) (h7 (by omega))
    by_cases hp : p = q - 1
    · subst hp; exact hb
    · exact xo_tr ((xo_new_lt (hO p g1 (by omega)).2 (hO (q - 1) (by omega) (by omega)).2).mpr (i2 p (q - 1) g1 (by omega) (by omega))) hb
  have hhi : ∀ p, q ≤ p → p ≤ ta_n t → xo_lt (xa_new t rc fd v vd kn) (ta_n t + 1) (ta_o t p) := by
    intro p g1 g2
    exact xo_behind_t (by have := hO p (by omega) (by omega); omega) (h8 p g1 (by omega))
  refine ⟨fun p g1 g2 => ?_, fun p r g1 g2 g3 => ?_, fun j g1 g2 => ?_⟩
  · rw [eo, en]
    rw [en] at g2
    rcases hat p g1 g2 with ⟨a1, a2⟩ | ⟨a1, a2⟩ | ⟨a1, a2⟩
    · have := hO p g1 (by omega); omega
    · omega
    · have := hO (p - 1) (by omega) (by omega); omega
  · rw [eo, el]
    rw [en] at g3
    rcases hat p g1 (by omega) with ⟨a1, a2⟩ | ⟨a1, a2⟩ | ⟨a1, a2⟩ <;> rcases hat r (by omega) g3 with ⟨b1, b2⟩ | ⟨b1, b2⟩ | ⟨b1, b2⟩ <;> rw [a2, b2]
    · exact (xo_new_lt (hO p g1 (by omega)).2 (hO r (by omega) (by omega)).2).mpr (i2 p r g1 g2 (by omega))
    · exact hlo p g1 a1
    · exact (xo_new_lt (hO p g1 (by omega)).2 (hO (r - 1) (by omega) (by omega)).2).mpr (i2 p (r - 1) g1 (by omega) (by omega))
    · omega
    · omega
    · exact hhi (r - 1) (by omega) (by omega)
    · omega
    · omega
    · exact (xo_new_lt (hO (p - 1) (by omega) (by omega)).2 (hO (r - 1) (by omega) (by omega)).2).mpr (i2 (p - 1) (r - 1) (by omega) (by omega) (by omega))
  · rw [en] at g2 ⊢
    rw [eo]
    by_cases hj : j = ta_n t + 1
    · exact ⟨q, h1, h2, by rw [h5, hj]⟩
    · obtain ⟨p, f1, f2, f3⟩ := i3 j g1 (by omega)
      by_cases hp : p < q
      · exact ⟨p, f1, by omega, by rw [h3 p hp, f3]⟩
      · exact ⟨p + 1, by omega, by omega, by rw [h6 p (by omega) (by omega), f3]⟩
/-- the bound of the row's numbers -/
theorem xo_le {t : vx_A} {rc fd v : Int32} {vd kn : Int64} (h : ∀ j, ta_o t j ≤ 200) (hn : ta_n t < 200) : ∀ j, ta_o (xa_add t rc fd v vd kn) j ≤ 200 := by
  intro j
  obtain ⟨q, h1, h2, h3, h4, h5, h6, -, -⟩ := xo_put (xa_new t rc fd v vd kn) (ta_n t + 1) (ta_o t) (by omega)
  have eN : ta_n (xa_new t rc fd v vd kn) = ta_n t + 1 := rfl
  show xa_put (xa_new t rc fd v vd kn) (ta_n t + 1) (ta_o t) j ≤ 200
  rw [eN] at h5
  rcases Nat.lt_trichotomy j q with g | g | g
  · rw [h3 j g]; exact h j
  · rw [g, h5]; omega
  · by_cases hj : ta_n t + 1 < j
    · rw [h4 j hj]; exact h j
    · have := h6 (j - 1) (by omega) (by omega)
      rw [show j - 1 + 1 = j by omega] at this
      rw [this]; exact h _
/-- r is the last in ORDER of those acts that P holds of; 0 where there is none -/
def xo_top (t : vx_A) (P : Nat → Bool) (r : Nat) : Prop := (r = 0 ∧ ∀ j, 1 ≤ j → j ≤ ta_n t → P j = false) ∨ (1 ≤ r ∧ r ≤ ta_n t ∧ P r = true ∧ ∀ j, 1 ≤ j → j ≤ ta_n t → P j = true → j = r ∨ xo_lt t j r)
theorem xo_top_one {t : vx_A} {P : Nat → Bool} {r r' : Nat} (h : xo_top t P r) (h' : xo_top t P r') : r = r' := by
  rcases h with ⟨h1, h2⟩ | ⟨h1, h2, h3, h4⟩ <;> rcases h' with ⟨g1, g2⟩ | ⟨g1, g2, g3, g4⟩
  · omega
  · rw [h2 r' g1 g2] at g3; cases g3
  · rw [g2 r h1 h2] at h3; cases h3
  · rcases h4 r' g1 g2 g3 with e | e
    · exact e.symm
    · rcases g4 r h1 h2 h3 with f | f
      · exact f
      · exact absurd (xo_tr e f) (xo_irr t _)
theorem xo_last0 (t : vx_A) (rc fd : Int32) (mo : Int64) : ∀ q, (xa_last t rc fd mo q = 0 ∧ ∀ p, 1 ≤ p → p ≤ q → xa_lcond t rc fd mo (ta_o t p) = false) ∨ (∃ p, 1 ≤ p ∧ p ≤ q ∧ xa_last t rc fd mo q = ta_o t p ∧ xa_lcond t rc fd mo (ta_o t p) = true ∧ ∀ p', p < p' → p' ≤ q → xa_lcond t rc fd mo (ta_o t p') = false) := by
  intro q
  induction q with
  | zero => exact Or.inl ⟨rfl, fun p h1 h2 => by omega⟩
  | succ q ih =>
    by_cases hc : xa_lcond t rc fd mo (ta_o t (q + 1)) = true
    · exact Or.inr ⟨q + 1, by omega, by omega, by rw [xa_last, if_pos hc], hc, fun p' h1 h2 => by omega⟩
    · have hf : xa_lcond t rc fd mo (ta_o t (q + 1)) = false := by simpa using hc
      rw [xa_last, if_neg hc]
      rcases ih with ⟨h1, h2⟩ | ⟨p, h1, h2, h3, h4, h5⟩
      · refine Or.inl ⟨h1, fun p g1 g2 => ?_⟩
        by_cases hp : p = q + 1
        · rw [hp]; exact hf
        · exact h2 p g1 (by omega)
      · refine Or.inr ⟨p, h1, by omega, h3, h4, fun p' g1 g2 => ?_⟩
        by_cases hp : p' = q + 1
        · rw [hp]; exact hf
        · exact h5 p' g1 (by omega)
/-- what lastCounting answers -/
theorem xo_last {t : vx_A} (h : xo_inv t) (rc fd : Int32) (mo : Int64) : xo_top t (xa_lcond t rc fd mo) (xa_last t rc fd mo (ta_n t)) := by
  obtain ⟨i1, i2, i3⟩ := h
  rcases xo_last0 t rc fd mo (ta_n t) with ⟨h1, h2⟩ | ⟨p, h1, h2, h3, h4, h5⟩
  · refine Or.inl ⟨h1, fun j g1 g2 => ?_⟩
    obtain ⟨p, f1, f2, f3⟩ := i3 j g1 g2
    rw [← f3]; exact h2 p f1 f2
  · rw [h3]
    refine Or.inr ⟨(i1 p h1 h2).1, (i1 p h1 h2).2, h4, fun j g1 g2 g3 => ?_⟩
    obtain ⟨p', f1, f2, f3⟩ := i3 j g1 g2
    rcases Nat.lt_trichotomy p' p with e | e | e
    · rw [← f3]; exact Or.inr (i2 p' p f1 e h2)
    · left; rw [← f3, e]
    · have := h5 p' e f2
      rw [f3, g3] at this; cases this
/-- what now answers: the greatest KNOWN -/
theorem xo_now {t : vx_A} (h : xo_inv t) (hn : 1 ≤ ta_n t) : (∃ j, 1 ≤ j ∧ j ≤ ta_n t ∧ xa_now t = ta_k t j) ∧ ∀ j, 1 ≤ j → j ≤ ta_n t → (ta_k t j).toInt ≤ (xa_now t).toInt := by
  obtain ⟨i1, i2, i3⟩ := h
  have e : xa_now t = ta_k t (ta_o t (ta_n t)) := by unfold xa_now; rw [if_neg (by omega)]
  rw [e]
  refine ⟨⟨_, (i1 _ hn (Nat.le_refl _)).1, (i1 _ hn (Nat.le_refl _)).2, rfl⟩, fun j g1 g2 => ?_⟩
  obtain ⟨p, f1, f2, f3⟩ := i3 j g1 g2
  by_cases hp : p = ta_n t
  · rw [← f3, hp]; exact Int.le_refl _
  · have := i2 p (ta_n t) f1 (by omega) (Nat.le_refl _)
    rw [f3] at this
    unfold xo_lt at this
    omega
end
section
/-! the words of Leans: a bit for each pair -/
theorem xl_bitv : ∀ i, i < 64 → ((1 : Int64) <<< ((nI i).toInt64 &&& 63)).toBitVec = BitVec.twoPow 64 i := by decide +kernel
theorem xl_tp0 : ∀ i, i < 64 → ¬ BitVec.twoPow 64 i = 0#64 := by decide +kernel
theorem xl_bit_v (o : Nat) : (xl_bit o).toBitVec = BitVec.twoPow 64 (o % 64) := xl_bitv _ (Nat.mod_lt _ (by decide))
theorem xl_bit_iff (x : Int64) (o : Nat) : x &&& xl_bit o = 0 ↔ x.toBitVec.getLsbD (o % 64) = false := by
  constructor
  · intro h
    have h2 := congrArg Int64.toBitVec h
    rw [Int64.toBitVec_and, xl_bit_v, BitVec.and_twoPow] at h2
    cases hx : x.toBitVec.getLsbD (o % 64) with
    | false => rfl
    | true =>
      rw [hx, if_pos rfl] at h2
      exact absurd h2 (xl_tp0 _ (Nat.mod_lt _ (by decide)))
  · intro h
    apply Int64.toBitVec_inj.mp
    rw [Int64.toBitVec_and, xl_bit_v, BitVec.and_twoPow, h]
    rfl
theorem xl_has_get (w : Nat → Int64) (k o : Nat) : xl_has w k o = (w (k * 4 + o / 64)).toBitVec.getLsbD (o % 64) := by
  unfold xl_has
  cases hx : (w (k * 4 + o / 64)).toBitVec.getLsbD (o % 64) with
  | false => rw [if_pos ((xl_bit_iff _ _).mpr hx)]
  | true => rw [if_neg (fun q => by have := (xl_bit_iff _ _).mp q; rw [hx] at this; cases this)]
/-- lean adds one pair, and no other -/
theorem xl_has_add (w : Nat → Int64) {k o k' o' : Nat} (ho : o ≤ 200) (ho' : o' ≤ 200) : xl_has (xl_add w k o) k' o' = (xl_has w k' o' || (decide (k = k') && decide (o = o'))) := by
  rw [xl_has_get, xl_has_get]
  unfold xl_add
  by_cases hi : k' * 4 + o' / 64 = k * 4 + o / 64
  · have hk : k = k' := by omega
    subst hk
    rw [hi, pk_uLs, Int64.toBitVec_or, BitVec.getLsbD_or, xl_bit_v, BitVec.getLsbD_twoPow]
    have e : (decide (o % 64 < 64) && decide (o % 64 = o' % 64)) = decide (o = o') := by
      have h1 : o % 64 < 64 := Nat.mod_lt _ (by decide)
      by_cases h2 : o = o'
      · subst h2; simp [h1]
      · have h3 : ¬ o % 64 = o' % 64 := by omega
        simp [h2, h3]
    rw [e]
    simp
  · rw [pk_uLn hi]
    have hn : ¬ (k = k' ∧ o = o') := fun q => hi (by rw [q.1, q.2])
    by_cases h1 : k = k'
    · have h2 : ¬ o = o' := fun q => hn ⟨h1, q⟩
      simp [h2]
    · simp [h1]
end
section
/-! VersionRows and the reference hold the same acts -/
def sm_t (t : vx_A) (t' : vm_A) : Prop := tm_r t' = ta_r t ∧ tm_f t' = ta_f t ∧ tm_v t' = ta_v t ∧ tm_d t' = ta_d t ∧ tm_k t' = ta_k t ∧ tm_n t' = ta_n t ∧ (∀ j, 1 ≤ j → j ≤ ta_n t → tm_u t' j = !(ta_c t j)) ∧ (∀ j, ta_n t < j → tm_u t' j = false)
theorem sm_now0 (t' : vm_A) : ∀ n k (x : Int64), tm_n t' + 1 < k + n → x.toInt ≤ (mm_now t' n k x).toInt ∧ (∀ j, k ≤ j → j ≤ tm_n t' → (tm_k t' j).toInt ≤ (mm_now t' n k x).toInt) ∧ (mm_now t' n k x = x ∨ ∃ j, k ≤ j ∧ j ≤ tm_n t' ∧ mm_now t' n k x = tm_k t' j) := by
  intro n
  induction n with
  | zero => intro k x h; exact ⟨Int.le_refl _, fun j h1 h2 => by omega, Or.inl rfl⟩
  | succ n ih =>
    intro k x h
    rw [mm_now]
    by_cases hk : tm_n t' < k
    · rw [if_pos hk]
      exact ⟨Int.le_refl _, fun j h1 h2 => by omega, Or.inl rfl⟩
    · rw [if_neg hk]
      by_cases hx : tm_k t' k ≤ x
      · rw [if_pos hx]
        obtain ⟨a1, a2, a3⟩ := ih (k + 1) x (by omega)
        have hx' := Int64.le_iff_toInt_le.mp hx
        refine ⟨a1, fun j h1 h2 => ?_, ?_⟩
        · by_cases hj : j = k
          · subst hj; omega
          · exact a2 j (by omega) h2
        · rcases a3 with a3 | ⟨j, b1, b2, b3⟩
          · exact Or.inl a3
          · exact Or.inr ⟨j, by omega, b2, b3⟩
      · rw [if_neg hx]
        obtain ⟨a1, a2, a3⟩ := ih (k + 1) (tm_k t' k) (by omega)
        have hx' : ¬ (tm_k t' k).toInt ≤ x.toInt := fun q => hx (Int64.le_iff_toInt_le.mpr q)
        refine ⟨by omega, fun j h1 h2 => ?_, ?_⟩
        · by_cases hj : j = k
          · subst hj; exact a1
          · exact a2 j (by omega) h2
        · rcases a3 with a3 | ⟨j, b1, b2, b3⟩
          · exact Or.inr ⟨k, Nat.le_refl _, by omega, a3⟩
          · exact Or.inr ⟨j, by omega, b2, b3⟩
theorem vr_min_le (x : Int64) : vr_min.toInt ≤ x.toInt := by
  have h : vr_min.toInt = -2 ^ 63 := by decide +kernel
  rw [h]; exact x.le_toInt
theorem vr_le_max (x : Int64) : x.toInt ≤ vr_max.toInt := by
  have h : vr_max.toInt = 2 ^ 63 - 1 := by decide +kernel
  have := x.toInt_lt
  rw [h]; omega
theorem sm_now {t : vx_A} {t' : vm_A} (h : sm_t t t') (hi : xo_inv t) : mm_nowT t' = xa_now t := by
  obtain ⟨h1, h2, h3, h4, h5, h6, h7, h8⟩ := h
  obtain ⟨a1, a2, a3⟩ := sm_now0 t' (tm_n t' + 2) 1 vr_min (by omega)
  have e : mm_nowT t' = mm_now t' (tm_n t' + 2) 1 vr_min := rfl
  rw [e]
  by_cases hn : ta_n t = 0
  · have e2 : xa_now t = vr_min := by unfold xa_now; rw [if_pos hn]
    rw [e2]
    rcases a3 with a3 | ⟨j, b1, b2, -⟩
    · exact a3
    · omega
  · obtain ⟨⟨j0, c1, c2, c3⟩, c4⟩ := xo_now hi (by omega)
    apply Int64.toInt_inj.mp
    have l1 : (xa_now t).toInt ≤ (mm_now t' (tm_n t' + 2) 1 vr_min).toInt := by
      rw [c3, ← h5]; exact a2 j0 c1 (by rw [h6]; exact c2)
    have l2 : (mm_now t' (tm_n t' + 2) 1 vr_min).toInt ≤ (xa_now t).toInt := by
      rcases a3 with a3 | ⟨j, b1, b2, b3⟩
      · rw [a3]; exact vr_min_le _
      · rw [b3, h5]; exact c4 j b1 (by rw [← h6]; exact b2)
    omega
theorem sm_isOf {t : vx_A} {t' : vm_A} (h : sm_t t t') (k : Nat) (rc fd : Int32) : mm_isOf t' k rc fd = xa_isOf t k rc fd := by
  unfold mm_isOf xa_isOf; rw [h.1, h.2.1]
theorem sm_before {t : vx_A} {t' : vm_A} (h : sm_t t t') (i j : Nat) : mm_before t' i j = true ↔ xo_lt t i j := by
  obtain ⟨-, -, -, h4, h5, -⟩ := h
  unfold mm_before xo_lt
  rw [h4, h5]
  by_cases hk : ta_k t i = ta_k t j
  · rw [if_pos hk]
    have ek : (ta_k t i).toInt = (ta_k t j).toInt := by rw [hk]
    by_cases hd : ta_d t i = ta_d t j
    · rw [if_pos hd]
      have ed : (ta_d t i).toInt = (ta_d t j).toInt := by rw [hd]
      by_cases hij : j ≤ i
      · rw [if_pos hij]; constructor
        · intro q; cases q
        · intro q; omega
      · rw [if_neg hij]; constructor
        · intro _; omega
        · intro _; rfl
    · rw [if_neg hd]
      have ed : ¬ (ta_d t i).toInt = (ta_d t j).toInt := fun q => hd (Int64.toInt_inj.mp q)
      by_cases hij : ta_d t j ≤ ta_d t i
      · rw [if_pos hij]; have := Int64.le_iff_toInt_le.mp hij; constructor
        · intro q; cases q
        · intro q; omega
      · rw [if_neg hij]; have : ¬ (ta_d t j).toInt ≤ (ta_d t i).toInt := fun q => hij (Int64.le_iff_toInt_le.mpr q)
        constructor
        · intro _; omega
        · intro _; rfl
  · rw [if_neg hk]
    have ek : ¬ (ta_k t i).toInt = (ta_k t j).toInt := fun q => hk (Int64.toInt_inj.mp q)
    by_cases hij : ta_k t j ≤ ta_k t i
    · rw [if_pos hij]; have := Int64.le_iff_toInt_le.mp hij; constructor
      · intro q; cases q
      · intro q; omega
    · rw [if_neg hij]; have : ¬ (ta_k t j).toInt ≤ (ta_k t i).toInt := fun q => hij (Int64.le_iff_toInt_le.mpr q)
      constructor
      · intro _; omega
      · intro _; rfl
/-- what an act is to be taken: the reference's test, over that of VersionRows -/
theorem sm_lc {t : vx_A} {t' : vm_A} (h : sm_t t t') (rc fd : Int32) (mo : Int64) {k : Nat} (bst : Nat) (h1 : 1 ≤ k) (h2 : k ≤ ta_n t) : mm_lc t' rc fd mo k bst = true ↔ (xa_lcond t rc fd mo k = true ∧ (bst = 0 ∨ xo_lt t bst k)) := by
  have hu := h.2.2.2.2.2.2.1 k h1 h2
  have hb := sm_before h bst k
  unfold mm_lc xa_lcond
  rw [sm_isOf h, h.2.2.2.2.1, hu]
  cases ha : xa_isOf t k rc fd <;> cases hc : ta_c t k <;> by_cases hm : mo < ta_k t k <;> by_cases hz : bst = 0 <;> cases hq : mm_before t' bst k <;> simp [hm, hz, hq] at hb ⊢ <;> try exact hb
/-- the best so far, of the acts below k -/
def sm_bst (t : vx_A) (P : Nat → Bool) (k r : Nat) : Prop := (r = 0 ∧ ∀ j, 1 ≤ j → j < k → P j = false) ∨ (1 ≤ r ∧ r < k ∧ P r = true ∧ ∀ j, 1 ≤ j → j < k → P j = true → j = r ∨ xo_lt t j r)
theorem sm_last0 {t : vx_A} {t' : vm_A} (h : sm_t t t') (rc fd : Int32) (mo : Int64) : ∀ n k bst, ta_n t + 1 < k + n → 1 ≤ k → k ≤ ta_n t + 1 → sm_bst t (xa_lcond t rc fd mo) k bst → xo_top t (xa_lcond t rc fd mo) (mm_last t' rc fd mo n k bst) := by
  intro n
  induction n with
  | zero => intro k bst h1 h2 h3 hb; omega
  | succ n ih =>
    intro k bst h1 h2 h3 hb
    rw [mm_last, h.2.2.2.2.2.1]
    by_cases hk : ta_n t < k
    · rw [if_pos hk]
      have ek : k = ta_n t + 1 := by omega
      subst ek
      rcases hb with ⟨b1, b2⟩ | ⟨b1, b2, b3, b4⟩
      · exact Or.inl ⟨b1, fun j g1 g2 => b2 j g1 (by omega)⟩
      · exact Or.inr ⟨b1, by omega, b3, fun j g1 g2 g3 => b4 j g1 (by omega) g3⟩
    · rw [if_neg hk]
      apply ih (k + 1) _ (by omega) (by omega) (by omega)
      by_cases hc : mm_lc t' rc fd mo k bst = true
      · rw [if_pos hc]
        obtain ⟨c1, c2⟩ := (sm_lc h rc fd mo bst h2 (by omega)).mp hc
        refine Or.inr ⟨h2, by omega, c1, fun j g1 g2 g3 => ?_⟩
        by_cases hj : j = k
        · exact Or.inl hj
        · right
          rcases hb with ⟨b1, b2⟩ | ⟨b1, b2, b3, b4⟩
          · rw [b2 j g1 (by omega)] at g3; cases g3
          · have hlt : xo_lt t bst k := by
              rcases c2 with c2 | c2
              · omega
              · exact c2
            rcases b4 j g1 (by omega) g3 with e | e
            · rw [e]; exact hlt
            · exact xo_tr e hlt
      · rw [if_neg hc]
        have hn : ¬ (xa_lcond t rc fd mo k = true ∧ (bst = 0 ∨ xo_lt t bst k)) := fun q => hc ((sm_lc h rc fd mo bst h2 (by omega)).mpr q)
        rcases hb with ⟨b1, b2⟩ | ⟨b1, b2, b3, b4⟩
        · refine Or.inl ⟨b1, fun j g1 g2 => ?_⟩
          by_cases hj : j = k
          · subst hj
            cases hq : xa_lcond t rc fd mo j with
            | false => rfl
            | true => exact absurd ⟨hq, Or.inl b1⟩ hn
          · exact b2 j g1 (by omega)
        · refine Or.inr ⟨b1, by omega, b3, fun j g1 g2 g3 => ?_⟩
          by_cases hj : j = k
          · subst hj
            right
            rcases xo_tot t (show j ≠ bst by omega) with e | e
            · exact e
            · exact absurd ⟨g3, Or.inr e⟩ hn
          · exact b4 j g1 (by omega) g3
theorem sm_last {t : vx_A} {t' : vm_A} (h : sm_t t t') (hi : xo_inv t) (rc fd : Int32) (mo : Int64) : mm_lastT t' rc fd mo = xa_last t rc fd mo (ta_n t) := by
  have hn := h.2.2.2.2.2.1
  have h1 : xo_top t (xa_lcond t rc fd mo) (mm_lastT t' rc fd mo) := by
    unfold mm_lastT
    exact sm_last0 h rc fd mo (tm_n t' + 2) 1 0 (by omega) (by omega) (by omega) (Or.inl ⟨rfl, fun j g1 g2 => by omega⟩)
  exact xo_top_one h1 (xo_last hi rc fd mo)
/-- as known NOW, and at the greatest moment -/
theorem sm_max {t : vx_A} (hi : xo_inv t) (rc fd : Int32) : xa_last t rc fd vr_max (ta_n t) = xa_last t rc fd (xa_now t) (ta_n t) := by
  have key : ∀ j, 1 ≤ j → j ≤ ta_n t → xa_lcond t rc fd vr_max j = xa_lcond t rc fd (xa_now t) j := by
    intro j g1 g2
    have e1 : ¬ vr_max < ta_k t j := fun q => by have := Int64.lt_iff_toInt_lt.mp q; have := vr_le_max (ta_k t j); omega
    have e2 : ¬ xa_now t < ta_k t j := fun q => by have := Int64.lt_iff_toInt_lt.mp q; have := (xo_now hi (by omega)).2 j g1 g2; omega
    unfold xa_lcond; simp only [e1, e2, if_false]
  have h1 := xo_last hi rc fd vr_max
  have h2 := xo_last hi rc fd (xa_now t)
  refine xo_top_one (P := xa_lcond t rc fd (xa_now t)) ?_ h2
  rcases h1 with ⟨a1, a2⟩ | ⟨a1, a2, a3, a4⟩
  · exact Or.inl ⟨a1, fun j g1 g2 => by rw [← key j g1 g2]; exact a2 j g1 g2⟩
  · exact Or.inr ⟨a1, a2, by rw [← key _ a1 a2]; exact a3, fun j g1 g2 g3 => a4 j g1 g2 (by rw [key j g1 g2]; exact g3)⟩
/-- a value in range, as a long and as an int -/
theorem sm_val {x : Int32} {v : Int64} (h1 : ¬ v < 0) (h2 : v ≤ 2147483647) : x.toInt64 = v ↔ x = v.toInt32 := by
  have g1 : ¬ v.toInt < 0 := fun q => h1 (Int64.lt_iff_toInt_lt.mpr q)
  have g2 : v.toInt ≤ 2147483647 := Int64.le_iff_toInt_le.mp h2
  have e : v.toInt32.toInt = v.toInt := by
    rw [Int64.toInt_toInt32]
    exact Int.bmod_eq_of_le (by omega) (by omega)
  rw [← Int64.toInt_inj, ← Int32.toInt_inj, Int32.toInt_toInt64, e]
theorem sm_same {t : vx_A} {t' : vm_A} (h : sm_t t t') {k : Nat} (rc fd : Int32) {v : Int64} (vd kn : Int64) (h1 : 1 ≤ k) (h2 : k ≤ ta_n t) (hv1 : ¬ v < 0) (hv2 : v ≤ 2147483647) : mm_same t' k rc fd v vd kn = xa_same t k rc fd v.toInt32 vd kn := by
  have hu := h.2.2.2.2.2.2.1 k h1 h2
  have hv := sm_val (x := ta_v t k) hv1 hv2
  unfold mm_same xa_same xa_isOf
  rw [hu, h.1, h.2.1, h.2.2.1, h.2.2.2.1, h.2.2.2.2.1]
  simp only [hv]
  cases ta_c t k <;> simp [Bool.and_assoc]
theorem sm_find {t : vx_A} {t' : vm_A} (h : sm_t t t') (rc fd : Int32) {v : Int64} (vd kn : Int64) (hv1 : ¬ v < 0) (hv2 : v ≤ 2147483647) : ∀ n k, 1 ≤ k → mm_find t' rc fd v vd kn n k = xa_find t rc fd v.toInt32 vd kn n k := by
  intro n
  induction n with
  | zero => intro k _; rfl
  | succ n ih =>
    intro k hk
    rw [mm_find, xa_find, h.2.2.2.2.2.1]
    by_cases hn : ta_n t < k
    · rw [if_pos hn, if_pos hn]
    · rw [if_neg hn, if_neg hn, sm_same h rc fd vd kn hk (by omega) hv1 hv2, ih (k + 1) (by omega)]
theorem xa_find_spec (t : vx_A) (rc fd v : Int32) (vd kn : Int64) : ∀ n k, 1 ≤ k → xa_find t rc fd v vd kn n k = 0 ∨ (1 ≤ xa_find t rc fd v vd kn n k ∧ xa_find t rc fd v vd kn n k ≤ ta_n t ∧ xa_same t (xa_find t rc fd v vd kn n k) rc fd v vd kn = true) := by
  intro n
  induction n with
  | zero => intro k _; exact Or.inl rfl
  | succ n ih =>
    intro k hk
    rw [xa_find]
    by_cases hn : ta_n t < k
    · rw [if_pos hn]; exact Or.inl rfl
    · rw [if_neg hn]
      by_cases hs : xa_same t k rc fd v vd kn = true
      · rw [if_pos hs]; exact Or.inr ⟨hk, by omega, hs⟩
      · rw [if_neg hs]; exact ih (k + 1) (by omega)
end
section
/-! leans and batches: the loops of VersionRows and of the reference -/
def sm_w (w : Nat → Int64) (w' : Nat → Bool) : Prop := ∀ a o, a ≤ 200 → o ≤ 200 → w' (201 * a + o) = xl_has w a o ∧ (xl_has w a o = true → o < a)
theorem sm_lean1 (t : vx_A) (w : Nat → Int64) (k : Nat) : ∀ n j, ta_n t + 1 < j + n → (xv_lean1 t w k n j = true ↔ ∃ i, j ≤ i ∧ i ≤ ta_n t ∧ ta_c t i = true ∧ xl_has w i k = true) := by
  intro n
  induction n with
  | zero => intro j h; constructor
            · intro q; cases q
            · rintro ⟨i, h1, h2, -⟩; omega
  | succ n ih =>
    intro j h
    rw [xv_lean1]
    by_cases hj : ta_n t < j
    · rw [if_pos hj]; constructor
      · intro q; cases q
      · rintro ⟨i, h1, h2, -⟩; omega
    · rw [if_neg hj]
      have ih' := ih (j + 1) (by omega)
      by_cases hc : ta_c t j = true
      · rw [if_pos hc]
        by_cases hl : xl_has w j k = true
        · rw [if_pos hl]
          exact ⟨fun _ => ⟨j, Nat.le_refl _, by omega, hc, hl⟩, fun _ => rfl⟩
        · rw [if_neg hl, ih']; constructor
          · rintro ⟨i, h1, h2, h3⟩; exact ⟨i, by omega, h2, h3⟩
          · rintro ⟨i, h1, h2, h3, h4⟩
            by_cases hij : i = j
            · subst hij; exact absurd h4 hl
            · exact ⟨i, by omega, h2, h3, h4⟩
      · rw [if_neg hc, ih']; constructor
        · rintro ⟨i, h1, h2, h3⟩; exact ⟨i, by omega, h2, h3⟩
        · rintro ⟨i, h1, h2, h3, h4⟩
          by_cases hij : i = j
          · subst hij; exact absurd h3 hc
          · exact ⟨i, by omega, h2, h3, h4⟩
theorem sm_leanO (t : vx_A) (w : Nat → Int64) (b : vx_B) (k : Nat) (bt : Int32) : ∀ n j, ta_n t + 1 < j + n → (xv_leanO t w b k bt n j = true ↔ ∃ i, j ≤ i ∧ i ≤ ta_n t ∧ ta_c t i = true ∧ ¬ tb_o b i = bt ∧ xl_has w i k = true) := by
  intro n
  induction n with
  | zero => intro j h; constructor
            · intro q; cases q
            · rintro ⟨i, h1, h2, -⟩; omega
  | succ n ih =>
    intro j h
    rw [xv_leanO]
    have skip : (¬ (ta_c t j = true ∧ ¬ tb_o b j = bt ∧ xl_has w j k = true)) → ((∃ i, j + 1 ≤ i ∧ i ≤ ta_n t ∧ ta_c t i = true ∧ ¬ tb_o b i = bt ∧ xl_has w i k = true) ↔ ∃ i, j ≤ i ∧ i ≤ ta_n t ∧ ta_c t i = true ∧ ¬ tb_o b i = bt ∧ xl_has w i k = true) := by
      intro hn
      constructor
      · rintro ⟨i, h1, h2, h3⟩; exact ⟨i, by omega, h2, h3⟩
      · rintro ⟨i, h1, h2, h3⟩
        by_cases hij : i = j
        · subst hij; exact absurd h3 hn
        · exact ⟨i, by omega, h2, h3⟩
    by_cases hj : ta_n t < j
    · rw [if_pos hj]; constructor
      · intro q; cases q
      · rintro ⟨i, h1, h2, -⟩; omega
    · rw [if_neg hj]
      have ih' := ih (j + 1) (by omega)
      by_cases hc : ta_c t j = true
      · rw [if_pos hc]
        by_cases hb : tb_o b j = bt
        · rw [if_pos hb, ih']; exact skip (fun q => q.2.1 hb)
        · rw [if_neg hb]
          by_cases hl : xl_has w j k = true
          · rw [if_pos hl]
            exact ⟨fun _ => ⟨j, Nat.le_refl _, by omega, hc, hb, hl⟩, fun _ => rfl⟩
          · rw [if_neg hl, ih']; exact skip (fun q => hl q.2.2)
      · rw [if_neg hc, ih']; exact skip (fun q => hc q.1)
theorem sm_lo0 (t' : vm_A) (w' : Nat → Bool) (b : vx_B) (k : Nat) (but : Int32) : ∀ n j is, tm_n t' + 1 < j + n → (mm_lo t' w' b k but n j is = true ↔ is = true ∨ ∃ i, j ≤ i ∧ i ≤ tm_n t' ∧ mm_l1 t' w' b k but i = true) := by
  intro n
  induction n with
  | zero => intro j is h; constructor
            · intro q; exact Or.inl q
            · rintro (q | ⟨i, h1, h2, -⟩)
              · exact q
              · omega
  | succ n ih =>
    intro j is h
    rw [mm_lo]
    by_cases hj : tm_n t' < j
    · rw [if_pos hj]; constructor
      · intro q; exact Or.inl q
      · rintro (q | ⟨i, h1, h2, -⟩)
        · exact q
        · omega
    · rw [if_neg hj, ih (j + 1) _ (by omega)]
      by_cases hs : is = true
      · rw [if_pos hs]; exact ⟨fun _ => Or.inl hs, fun _ => Or.inl rfl⟩
      · rw [if_neg hs]; constructor
        · rintro (q | ⟨i, h1, h2, h3⟩)
          · exact Or.inr ⟨j, Nat.le_refl _, by omega, q⟩
          · exact Or.inr ⟨i, by omega, h2, h3⟩
        · rintro (q | ⟨i, h1, h2, h3⟩)
          · exact absurd q hs
          · by_cases hij : i = j
            · subst hij; exact Or.inl h3
            · exact Or.inr ⟨i, by omega, h2, h3⟩
theorem sm_l1 {t : vx_A} {t' : vm_A} {w : Nat → Int64} {w' : Nat → Bool} (h : sm_t t t') (hw : sm_w w w') (hn : ta_n t ≤ 200) (b : vx_B) {k : Nat} (but : Int32) {i : Nat} (hk : k ≤ 200) (h1 : 1 ≤ i) (h2 : i ≤ ta_n t) : mm_l1 t' w' b k but i = true ↔ (xl_has w i k = true ∧ ta_c t i = true ∧ (but = 0 ∨ ¬ tb_o b i = but)) := by
  unfold mm_l1
  rw [(hw i k (by omega) hk).1, h.2.2.2.2.2.2.1 i h1 h2]
  cases xl_has w i k <;> cases ta_c t i <;> by_cases hb : but = 0 <;> by_cases ho : tb_o b i = but <;> simp [hb, ho]
/-- undo: is it leant on -/
theorem sm_undo {t : vx_A} {t' : vm_A} {w : Nat → Int64} {w' : Nat → Bool} (h : sm_t t t') (hw : sm_w w w') (hn : ta_n t ≤ 200) (b : vx_B) {k : Nat} (h1 : 1 ≤ k) (h2 : k ≤ ta_n t) : mm_loT t' w' b k (nI 0) = xv_lean1 t w k (ta_n t + 1) (k + 1) := by
  have hN := h.2.2.2.2.2.1
  rw [Bool.eq_iff_iff, sm_lean1 t w k (ta_n t + 1) (k + 1) (by omega), mm_loT, sm_lo0 t' w' b k (nI 0) (tm_n t' + 2) 1 false (by omega), hN]
  constructor
  · rintro (q | ⟨i, g1, g2, g3⟩)
    · cases q
    · obtain ⟨e1, e2, -⟩ := (sm_l1 h hw hn b (nI 0) (by omega) g1 g2).mp g3
      exact ⟨i, (hw i k (by omega) (by omega)).2 e1, g2, e2, e1⟩
  · rintro ⟨i, g1, g2, g3, g4⟩
    exact Or.inr ⟨i, by omega, g2, (sm_l1 h hw hn b (nI 0) (by omega) (by omega) g2).mpr ⟨g4, g3, Or.inl rfl⟩⟩
/-- drop: is it leant on from outside -/
theorem sm_out {t : vx_A} {t' : vm_A} {w : Nat → Int64} {w' : Nat → Bool} (h : sm_t t t') (hw : sm_w w w') (hn : ta_n t ≤ 200) (b : vx_B) {k : Nat} {bt : Int32} (hb : ¬ bt = 0) (h1 : 1 ≤ k) (h2 : k ≤ ta_n t) : mm_loT t' w' b k bt = xv_leanO t w b k bt (ta_n t + 1) (k + 1) := by
  have hN := h.2.2.2.2.2.1
  rw [Bool.eq_iff_iff, sm_leanO t w b k bt (ta_n t + 1) (k + 1) (by omega), mm_loT, sm_lo0 t' w' b k bt (tm_n t' + 2) 1 false (by omega), hN]
  constructor
  · rintro (q | ⟨i, g1, g2, g3⟩)
    · cases q
    · obtain ⟨e1, e2, e3⟩ := (sm_l1 h hw hn b bt (by omega) g1 g2).mp g3
      exact ⟨i, (hw i k (by omega) (by omega)).2 e1, g2, e2, e3.elim (fun q => absurd q hb) id, e1⟩
  · rintro ⟨i, g1, g2, g3, g4, g5⟩
    exact Or.inr ⟨i, by omega, g2, (sm_l1 h hw hn b bt (by omega) (by omega) g2).mpr ⟨g5, g3, Or.inr g4⟩⟩
theorem sm_leanF (t : vx_A) (w : Nat → Int64) (b : vx_B) (bt : Int32) : ∀ n j, ta_n t + 1 < j + n → (xv_leanF t w b bt n j = true ↔ ∃ i, j ≤ i ∧ i ≤ ta_n t ∧ xv_inC b bt (ta_c t) i = true ∧ xv_leanO t w b i bt (ta_n t + 1) (i + 1) = true) := by
  intro n
  induction n with
  | zero => intro j h; constructor
            · intro q; cases q
            · rintro ⟨i, h1, h2, -⟩; omega
  | succ n ih =>
    intro j h
    rw [xv_leanF]
    have skip : (¬ (xv_inC b bt (ta_c t) j = true ∧ xv_leanO t w b j bt (ta_n t + 1) (j + 1) = true)) → ((∃ i, j + 1 ≤ i ∧ i ≤ ta_n t ∧ xv_inC b bt (ta_c t) i = true ∧ xv_leanO t w b i bt (ta_n t + 1) (i + 1) = true) ↔ ∃ i, j ≤ i ∧ i ≤ ta_n t ∧ xv_inC b bt (ta_c t) i = true ∧ xv_leanO t w b i bt (ta_n t + 1) (i + 1) = true) := by
      intro hn
      constructor
      · rintro ⟨i, h1, h2, h3⟩; exact ⟨i, by omega, h2, h3⟩
      · rintro ⟨i, h1, h2, h3⟩
        by_cases hij : i = j
        · subst hij; exact absurd h3 hn
        · exact ⟨i, by omega, h2, h3⟩
    by_cases hj : ta_n t < j
    · rw [if_pos hj]; constructor
      · intro q; cases q
      · rintro ⟨i, h1, h2, -⟩; omega
    · rw [if_neg hj]
      have ih' := ih (j + 1) (by omega)
      by_cases hc : xv_inC b bt (ta_c t) j = true
      · rw [if_pos hc]
        by_cases hl : xv_leanO t w b j bt (ta_n t + 1) (j + 1) = true
        · rw [if_pos hl]
          exact ⟨fun _ => ⟨j, Nat.le_refl _, by omega, hc, hl⟩, fun _ => rfl⟩
        · rw [if_neg hl, ih']; exact skip (fun q => hl q.2)
      · rw [if_neg hc, ih']; exact skip (fun q => hc q.1)
theorem sm_dh0 (t' : vm_A) (w' : Nat → Bool) (b : vx_B) (bt : Int32) : ∀ n k hd, tm_n t' + 1 < k + n → (mm_dh t' w' b bt n k hd = true ↔ hd = true ∨ ∃ i, k ≤ i ∧ i ≤ tm_n t' ∧ tb_o b i = bt ∧ tm_u t' i = false ∧ mm_loT t' w' b i bt = true) := by
  intro n
  induction n with
  | zero => intro k hd h; constructor
            · intro q; exact Or.inl q
            · rintro (q | ⟨i, h1, h2, -⟩)
              · exact q
              · omega
  | succ n ih =>
    intro k hd h
    rw [mm_dh]
    have skip : (¬ (tb_o b k = bt ∧ tm_u t' k = false ∧ mm_loT t' w' b k bt = true)) → ((hd = true ∨ ∃ i, k + 1 ≤ i ∧ i ≤ tm_n t' ∧ tb_o b i = bt ∧ tm_u t' i = false ∧ mm_loT t' w' b i bt = true) ↔ (hd = true ∨ ∃ i, k ≤ i ∧ i ≤ tm_n t' ∧ tb_o b i = bt ∧ tm_u t' i = false ∧ mm_loT t' w' b i bt = true)) := by
      intro hn
      constructor
      · rintro (q | ⟨i, h1, h2, h3⟩)
        · exact Or.inl q
        · exact Or.inr ⟨i, by omega, h2, h3⟩
      · rintro (q | ⟨i, h1, h2, h3⟩)
        · exact Or.inl q
        · by_cases hij : i = k
          · subst hij; exact absurd h3 hn
          · exact Or.inr ⟨i, by omega, h2, h3⟩
    by_cases hj : tm_n t' < k
    · rw [if_pos hj]; constructor
      · intro q; exact Or.inl q
      · rintro (q | ⟨i, h1, h2, -⟩)
        · exact q
        · omega
    · rw [if_neg hj]
      by_cases hb : tb_o b k = bt
      · rw [if_pos hb]
        by_cases hu : tm_u t' k = true
        · rw [if_pos hu, ih (k + 1) hd (by omega)]
          exact skip (fun q => by rw [hu] at q; cases q.2.1)
        · have hu' : tm_u t' k = false := by simpa using hu
          rw [if_neg hu, ih (k + 1) _ (by omega)]
          by_cases hs : hd = true
          · rw [if_pos hs]; exact ⟨fun _ => Or.inl hs, fun _ => Or.inl rfl⟩
          · rw [if_neg hs]
            by_cases hl : mm_loT t' w' b k bt = true
            · rw [if_pos hl]; exact ⟨fun _ => Or.inr ⟨k, Nat.le_refl _, by omega, hb, hu', hl⟩, fun _ => Or.inl rfl⟩
            · rw [if_neg hl]
              have := skip (fun q => hl q.2.2)
              rw [← this]
              constructor
              · rintro (q | q)
                · cases q
                · exact Or.inr q
              · rintro (q | q)
                · exact absurd q hs
                · exact Or.inr q
      · rw [if_neg hb, ih (k + 1) hd (by omega)]
        exact skip (fun q => hb q.1)
theorem xv_inC_iff (b : vx_B) (bt : Int32) (c : Nat → Bool) (k : Nat) : xv_inC b bt c k = true ↔ (tb_o b k = bt ∧ c k = true) := by
  unfold xv_inC
  by_cases h1 : tb_o b k = bt <;> cases h2 : c k <;> simp [h1]
/-- drop: is the batch held -/
theorem sm_held {t : vx_A} {t' : vm_A} {w : Nat → Int64} {w' : Nat → Bool} (h : sm_t t t') (hw : sm_w w w') (hn : ta_n t ≤ 200) (b : vx_B) {bt : Int32} (hb : ¬ bt = 0) : mm_dh t' w' b bt (tm_n t' + 2) 1 false = xv_leanF t w b bt (ta_n t + 2) 1 := by
  have hN := h.2.2.2.2.2.1
  rw [Bool.eq_iff_iff, sm_leanF t w b bt (ta_n t + 2) 1 (by omega), sm_dh0 t' w' b bt (tm_n t' + 2) 1 false (by omega), hN]
  constructor
  · rintro (q | ⟨i, g1, g2, g3, g4, g5⟩)
    · cases q
    · refine ⟨i, g1, g2, (xv_inC_iff b bt _ i).mpr ⟨g3, ?_⟩, ?_⟩
      · have := h.2.2.2.2.2.2.1 i g1 g2
        rw [g4] at this
        simpa using this.symm
      · rw [← sm_out h hw hn b hb g1 g2]; exact g5
  · rintro ⟨i, g1, g2, g3, g4⟩
    obtain ⟨e1, e2⟩ := (xv_inC_iff b bt _ i).mp g3
    refine Or.inr ⟨i, g1, g2, e1, ?_, ?_⟩
    · rw [h.2.2.2.2.2.2.1 i g1 g2, e2]; rfl
    · rw [sm_out h hw hn b hb g1 g2]; exact g4
/-- how many of 1 .. q -/
def sm_cnt (P : Nat → Bool) : Nat → Nat
  | 0 => 0
  | q + 1 => sm_cnt P q + (if P (q + 1) = true then 1 else 0)
theorem sm_cnt_eq {P R : Nat → Bool} : ∀ q, (∀ j, 1 ≤ j → j ≤ q → P j = R j) → sm_cnt P q = sm_cnt R q := by
  intro q
  induction q with
  | zero => intro _; rfl
  | succ q ih => intro h; rw [sm_cnt, sm_cnt, ih (fun j h1 h2 => h j h1 (by omega)), h (q + 1) (by omega) (by omega)]
theorem vr_ub_n {f : Nat → Bool} {k j : Nat} {v : Bool} (h : j ≠ k) : vr_ub f k v j = f j := by simp [vr_ub, h]
theorem vr_ub_s (f : Nat → Bool) (k : Nat) (v : Bool) : vr_ub f k v k = v := by simp [vr_ub]
theorem sm_dropN (b : vx_B) (bt : Int32) : ∀ q c d, xv_dropN b bt q c d = d + sm_cnt (xv_inC b bt c) q := by
  intro q
  induction q with
  | zero => intro c d; rfl
  | succ q ih =>
    intro c d
    rw [xv_dropN, sm_cnt]
    by_cases hc : xv_inC b bt c (q + 1) = true
    · rw [if_pos hc, if_pos hc, ih, sm_cnt_eq (P := xv_inC b bt (vr_ub c (q + 1) false)) (R := xv_inC b bt c) q]
      · omega
      · intro j h1 h2; unfold xv_inC; rw [vr_ub_n (by omega)]
    · rw [if_neg hc, if_neg hc, ih]; omega
theorem sm_dropC (b : vx_B) (bt : Int32) : ∀ q c j, xv_dropC b bt q c j = (if 1 ≤ j ∧ j ≤ q ∧ xv_inC b bt c j = true then false else c j) := by
  intro q
  induction q with
  | zero => intro c j; rw [if_neg (by omega)]; rfl
  | succ q ih =>
    intro c j
    rw [xv_dropC]
    by_cases hc : xv_inC b bt c (q + 1) = true
    · rw [if_pos hc, ih]
      by_cases hj : j = q + 1
      · subst hj
        rw [if_neg (by omega), vr_ub_s, if_pos ⟨by omega, by omega, hc⟩]
      · have e : xv_inC b bt (vr_ub c (q + 1) false) j = xv_inC b bt c j := by unfold xv_inC; rw [vr_ub_n hj]
        rw [e, vr_ub_n hj]
        by_cases h1 : 1 ≤ j ∧ j ≤ q ∧ xv_inC b bt c j = true
        · rw [if_pos h1, if_pos ⟨h1.1, by omega, h1.2.2⟩]
        · rw [if_neg h1, if_neg (fun z => h1 ⟨z.1, by omega, z.2.2⟩)]
    · rw [if_neg hc, ih]
      by_cases h1 : 1 ≤ j ∧ j ≤ q ∧ xv_inC b bt c j = true
      · rw [if_pos h1, if_pos ⟨h1.1, by omega, h1.2.2⟩]
      · rw [if_neg h1, if_neg (fun z => by
          by_cases hj : j = q + 1
          · subst hj; exact hc z.2.2
          · exact h1 ⟨z.1, by omega, z.2.2⟩)]
theorem sm_dn0 (t' : vm_A) (b : vx_B) (bt : Int32) : ∀ n k d, tm_n t' + 1 < k + n → 1 ≤ k → k ≤ tm_n t' + 1 → mm_dn t' b bt n k d + sm_cnt (fun j => decide (tb_o b j = bt) && !tm_u t' j) (k - 1) = d + sm_cnt (fun j => decide (tb_o b j = bt) && !tm_u t' j) (tm_n t') := by
  intro n
  induction n with
  | zero => intro k d h1 h2 h3; omega
  | succ n ih =>
    intro k d h1 h2 h3
    rw [mm_dn]
    by_cases hk : tm_n t' < k
    · rw [if_pos hk, show k - 1 = tm_n t' by omega]
    · rw [if_neg hk]
      have e : sm_cnt (fun j => decide (tb_o b j = bt) && !tm_u t' j) k = sm_cnt (fun j => decide (tb_o b j = bt) && !tm_u t' j) (k - 1) + (if (decide (tb_o b k = bt) && !tm_u t' k) = true then 1 else 0) := by
        obtain ⟨z, rfl⟩ : ∃ z, k = z + 1 := ⟨k - 1, by omega⟩
        rw [sm_cnt]; rfl
      by_cases hb : tb_o b k = bt
      · rw [if_pos hb]
        by_cases hu : tm_u t' k = true
        · rw [if_pos hu]
          have := ih (k + 1) d (by omega) (by omega) (by omega)
          rw [show k + 1 - 1 = k by omega, e] at this
          simp [hu] at this ⊢
          omega
        · have hu' : tm_u t' k = false := by simpa using hu
          rw [if_neg hu]
          have := ih (k + 1) (d + 1) (by omega) (by omega) (by omega)
          rw [show k + 1 - 1 = k by omega, e] at this
          simp [hu', hb] at this ⊢
          omega
      · rw [if_neg hb]
        have := ih (k + 1) d (by omega) (by omega) (by omega)
        rw [show k + 1 - 1 = k by omega, e] at this
        simp [hb] at this ⊢
        omega
/-- drop: how many -/
theorem sm_many {t : vx_A} {t' : vm_A} (h : sm_t t t') (b : vx_B) (bt : Int32) : mm_dn t' b bt (tm_n t' + 2) 1 0 = xv_dropN b bt (ta_n t) (ta_c t) 0 := by
  have hN := h.2.2.2.2.2.1
  have h1 := sm_dn0 t' b bt (tm_n t' + 2) 1 0 (by omega) (by omega) (by omega)
  rw [sm_dropN]
  have h2 : sm_cnt (fun j => decide (tb_o b j = bt) && !tm_u t' j) (tm_n t') = sm_cnt (xv_inC b bt (ta_c t)) (ta_n t) := by
    rw [hN]
    apply sm_cnt_eq
    intro j g1 g2
    rw [h.2.2.2.2.2.2.1 j g1 g2]
    unfold xv_inC
    by_cases hb : tb_o b j = bt <;> cases ta_c t j <;> simp [hb]
  have h3 : sm_cnt (fun j => decide (tb_o b j = bt) && !tm_u t' j) (1 - 1) = 0 := rfl
  rw [h2, h3] at h1
  omega
theorem sm_du0 (t' : vm_A) (b : vx_B) (bt : Int32) : ∀ n k u j, tm_n t' + 1 < k + n → mm_du t' b bt n k u j = (if k ≤ j ∧ j ≤ tm_n t' then (u j || decide (tb_o b j = bt)) else u j) := by
  intro n
  induction n with
  | zero => intro k u j h; rw [if_neg (by omega)]; rfl
  | succ n ih =>
    intro k u j h
    rw [mm_du]
    by_cases hk : tm_n t' < k
    · rw [if_pos hk, if_neg (by omega)]
    · rw [if_neg hk, ih (k + 1) _ j (by omega)]
      by_cases hj : j = k
      · subst hj
        rw [if_neg (by omega), vr_ub_s, if_pos (show j ≤ j ∧ j ≤ tm_n t' from ⟨Nat.le_refl _, by omega⟩)]
        cases u j <;> by_cases hb : tb_o b j = bt <;> simp [hb]
      · rw [vr_ub_n hj]
        by_cases h1 : k + 1 ≤ j ∧ j ≤ tm_n t'
        · rw [if_pos h1, if_pos ⟨by omega, h1.2⟩]
        · rw [if_neg h1, if_neg (fun z => h1 ⟨by omega, z.2⟩)]
end
section
/-! conflicts, and the history in ORDER -/
theorem sm_conf {t : vx_A} {t' : vm_A} (h : sm_t t t') {i j : Nat} (hi1 : 1 ≤ i) (hi2 : i ≤ ta_n t) (hj1 : 1 ≤ j) (hj2 : j ≤ ta_n t) : mm_conf t' i j = xa_conf t i j := by
  unfold mm_conf xa_conf
  rw [sm_isOf h, h.2.2.2.2.2.2.1 i hi1 hi2, h.2.2.2.2.2.2.1 j hj1 hj2, h.1, h.2.1, h.2.2.1, h.2.2.2.2.1]
  cases ta_c t i <;> cases ta_c t j <;> by_cases hk : ta_k t i = ta_k t j <;> cases xa_isOf t i (ta_r t j) (ta_f t j) <;> simp [hk]
theorem sm_pair {t : vx_A} {t' : vm_A} (h : sm_t t t') (hN : ta_n t ≤ 200) {what : Int32} (hw : what = 0 ∨ what = nI 1) (i : Nat) : ∀ n lo hi ah sn, 202 * (201 - lo) + (202 - hi) < n → 1 ≤ lo → lo < hi → lo ≤ ta_n t → hi ≤ ta_n t + 1 → ah + sn = i → mm_pair t' what i n lo hi sn = xv_pair t what n lo hi ah := by
  have hn' := h.2.2.2.2.2.1
  intro n
  induction n with
  | zero => intro lo hi ah sn h1; omega
  | succ n ih =>
    intro lo hi ah sn h1 h2 h3 h4 h5 h6
    rw [mm_pair, xv_pair, hn']
    by_cases hx : ta_n t < hi
    · rw [if_pos hx, if_pos hx]
      by_cases h7 : ta_n t ≤ lo + 1
      · rw [if_pos h7]
        by_cases h8 : ta_n t < lo + 1
        · rw [if_pos h8]
        · rw [if_neg h8]
          obtain ⟨z, rfl⟩ : ∃ z, n = z + 1 := ⟨n - 1, by omega⟩
          rw [mm_pair, hn', if_pos (by omega), if_pos (by omega)]
      · rw [if_neg h7, if_neg (by omega)]
        exact ih (lo + 1) (lo + 1 + 1) ah sn (by omega) (by omega) (by omega) (by omega) (by omega) h6
    · rw [if_neg hx, if_neg hx, sm_conf h h2 h4 (by omega) (by omega)]
      by_cases hc : xa_conf t lo hi = true
      · rw [if_pos hc, if_pos hc]
        by_cases ha : ah = 0
        · rw [if_pos (show sn = i by omega), if_pos ha]
          by_cases hz : what = 0
          · rw [if_pos hz, if_pos hz]
          · rw [if_neg hz, if_neg hz, if_pos (hw.resolve_left hz)]
        · rw [if_neg (show ¬ sn = i by omega), if_neg ha]
          exact ih lo (hi + 1) (ah - 1) (sn + 1) (by omega) (by omega) (by omega) (by omega) (by omega) (by omega)
      · rw [if_neg hc, if_neg hc]
        exact ih lo (hi + 1) ah sn (by omega) (by omega) (by omega) (by omega) (by omega) h6
theorem sm_pair_no (t' : vm_A) {what : Int32} (h0 : ¬ what = 0) (h1 : ¬ what = nI 1) (i : Nat) : ∀ n lo hi sn, mm_pair t' what i n lo hi sn = -1 := by
  intro n
  induction n with
  | zero => intro lo hi sn; rfl
  | succ n ih =>
    intro lo hi sn
    rw [mm_pair]
    split
    · split
      · rfl
      · exact ih _ _ _
    · split
      · split
        · first | rfl | rw [if_neg h0, if_neg h1]
        · exact ih _ _ _
      · exact ih _ _ _
theorem sm_cf {t : vx_A} {t' : vm_A} (h : sm_t t t') (hN : ta_n t ≤ 200) (i what : Int32) : mm_cf t' i what = xv_cf t i what := by
  have hn' := h.2.2.2.2.2.1
  unfold mm_cf xv_cf
  rw [hn']
  by_cases hi : i < 0
  · rw [if_pos hi, if_pos hi]; split <;> rfl
  · rw [if_neg hi, if_neg hi]
    by_cases hw : what = 0 ∨ what = nI 1
    · have e1 : ¬ what < 0 := by rcases hw with rfl | rfl <;> decide
      have e2 : what ≤ nI 1 := by rcases hw with rfl | rfl <;> decide
      rw [if_neg e1, if_pos e2]
      by_cases h0 : ta_n t < 1
      · rw [if_pos h0, if_pos (by omega)]
      · rw [if_neg h0]
        by_cases h1 : ta_n t ≤ 1
        · rw [if_pos h1, show (40804 : Nat) = 40803 + 1 from rfl, mm_pair, hn', if_pos (by omega), if_pos (by omega)]
        · rw [if_neg h1]
          exact sm_pair h hN hw _ 40804 1 2 _ 0 (by omega) (by omega) (by omega) (by omega) (by omega) (by omega)
    · have e0 : ¬ what = 0 := fun q => hw (Or.inl q)
      have e1 : ¬ what = nI 1 := fun q => hw (Or.inr q)
      have e2 : what < 0 ∨ (¬ what < 0 ∧ ¬ what ≤ nI 1) := by
        by_cases hz : what < 0
        · exact Or.inl hz
        · refine Or.inr ⟨hz, fun q => ?_⟩
          obtain ⟨k, hk, rfl⟩ := nI_of hz
          have := (nI_leI hk (by decide)).mp q
          have hk2 : k = 0 ∨ k = 1 := by omega
          rcases hk2 with rfl | rfl
          · exact e0 rfl
          · exact e1 rfl
      have e3 : (if ta_n t < 1 then (-1 : Int32) else mm_pair t' what i.toNatClampNeg 40804 1 2 0) = -1 := by
        rw [sm_pair_no t' e0 e1]; split <;> rfl
      rw [e3]
      rcases e2 with e2 | ⟨e2, e4⟩
      · rw [if_pos e2]
      · rw [if_neg e2, if_neg e4]
/-- one place of a row changed -/
theorem sm_cnt_un (P : Nat → Bool) (o : Nat → Nat) (p0 v : Nat) : ∀ N, 1 ≤ p0 → p0 ≤ N → sm_cnt (fun p => P (vr_un o p0 v p)) N + (if P (o p0) = true then 1 else 0) = sm_cnt (fun p => P (o p)) N + (if P v = true then 1 else 0) := by
  intro N
  induction N with
  | zero => intro h1 h2; omega
  | succ N ih =>
    intro h1 h2
    rw [sm_cnt, sm_cnt]
    by_cases hp : p0 = N + 1
    · subst hp
      rw [sm_cnt_eq (P := fun p => P (vr_un o (N + 1) v p)) (R := fun p => P (o p)) N (fun j g1 g2 => by show P (vr_un o (N + 1) v j) = P (o j); rw [vr_un_n (by omega)])]
      simp only [vr_un_s]
      omega
    · have := ih h1 (by omega)
      simp only [vr_un_n (show N + 1 ≠ p0 by omega)]
      omega
/-- to count over a row that holds each of 1 .. N once is to count over 1 .. N -/
theorem sm_cnt_bij (P : Nat → Bool) : ∀ (N : Nat) (o : Nat → Nat), (∀ p, 1 ≤ p → p ≤ N → 1 ≤ o p ∧ o p ≤ N) → (∀ p q, 1 ≤ p → p ≤ N → 1 ≤ q → q ≤ N → o p = o q → p = q) → (∀ j, 1 ≤ j → j ≤ N → ∃ p, 1 ≤ p ∧ p ≤ N ∧ o p = j) → sm_cnt (fun p => P (o p)) N = sm_cnt P N := by
  intro N
  induction N with
  | zero => intro o _ _ _; rfl
  | succ N ih =>
    intro o h1 h2 h3
    rw [sm_cnt, sm_cnt]
    by_cases hv : o (N + 1) = N + 1
    · have e := ih o (fun p g1 g2 => ?_) (fun p q g1 g2 g3 g4 => h2 p q g1 (by omega) g3 (by omega)) (fun j g1 g2 => ?_)
      · simp only [hv]; omega
      · have := h1 p g1 (by omega)
        have hne : o p ≠ N + 1 := fun q => by
          have := h2 p (N + 1) g1 (by omega) (by omega) (by omega) (by rw [q, hv])
          omega
        omega
      · obtain ⟨p, f1, f2, f3⟩ := h3 j g1 (by omega)
        have hne : p ≠ N + 1 := fun q => by rw [q, hv] at f3; omega
        exact ⟨p, f1, by omega, f3⟩
    · obtain ⟨p0, f1, f2, f3⟩ := h3 (N + 1) (by omega) (by omega)
      have hp0 : p0 ≤ N := by
        have : p0 ≠ N + 1 := fun q => by rw [q] at f3; exact hv f3
        omega
      have hvb := h1 (N + 1) (by omega) (by omega)
      have e := ih (vr_un o p0 (o (N + 1))) (fun p g1 g2 => ?_) (fun p q g1 g2 g3 g4 g5 => ?_) (fun j g1 g2 => ?_)
      · have e2 := sm_cnt_un P o p0 (o (N + 1)) N f1 hp0
        rw [f3] at e2
        omega
      · by_cases hp : p = p0
        · rw [hp, vr_un_s]; omega
        · rw [vr_un_n hp]
          have := h1 p g1 (by omega)
          have hne : o p ≠ N + 1 := fun q => hp (h2 p p0 g1 (by omega) f1 (by omega) (by rw [q, f3]))
          omega
      · by_cases hp : p = p0
        · by_cases hq : q = p0
          · rw [hp, hq]
          · rw [hp, vr_un_s, vr_un_n hq] at g5
            have := h2 (N + 1) q (by omega) (by omega) g3 (by omega) g5
            omega
        · by_cases hq : q = p0
          · rw [hq, vr_un_s, vr_un_n hp] at g5
            have := h2 p (N + 1) g1 (by omega) (by omega) (by omega) g5
            omega
          · rw [vr_un_n hp, vr_un_n hq] at g5
            exact h2 p q g1 (by omega) g3 (by omega) g5
      · obtain ⟨p, k1, k2, k3⟩ := h3 j g1 (by omega)
        by_cases hp : p = N + 1
        · exact ⟨p0, f1, hp0, by rw [vr_un_s, ← hp, k3]⟩
        · have hne : p ≠ p0 := fun q => by rw [q, f3] at k3; omega
          exact ⟨p, k1, by omega, by rw [vr_un_n hne, k3]⟩
theorem sm_bf0 (t' : vm_A) (rc fd : Int32) (k : Nat) : ∀ n j c, tm_n t' + 1 < j + n → 1 ≤ j → j ≤ tm_n t' + 1 → mm_bf t' rc fd k n j c + sm_cnt (fun x => mm_isOf t' x rc fd && mm_before t' x k) (j - 1) = c + sm_cnt (fun x => mm_isOf t' x rc fd && mm_before t' x k) (tm_n t') := by
  intro n
  induction n with
  | zero => intro j c h1 h2 h3; omega
  | succ n ih =>
    intro j c h1 h2 h3
    rw [mm_bf]
    by_cases hj : tm_n t' < j
    · rw [if_pos hj, show j - 1 = tm_n t' by omega]
    · rw [if_neg hj]
      have e : sm_cnt (fun x => mm_isOf t' x rc fd && mm_before t' x k) j = sm_cnt (fun x => mm_isOf t' x rc fd && mm_before t' x k) (j - 1) + (if (mm_isOf t' j rc fd && mm_before t' j k) = true then 1 else 0) := by
        obtain ⟨z, rfl⟩ : ∃ z, j = z + 1 := ⟨j - 1, by omega⟩
        rw [sm_cnt]; rfl
      have := ih (j + 1) (c + (if mm_isOf t' j rc fd = true then (if mm_before t' j k = true then 1 else 0) else 0)) (by omega) (by omega) (by omega)
      rw [show j + 1 - 1 = j by omega, e] at this
      have e2 : (if (mm_isOf t' j rc fd && mm_before t' j k) = true then 1 else 0) = (if mm_isOf t' j rc fd = true then (if mm_before t' j k = true then 1 else 0) else 0) := by
        cases mm_isOf t' j rc fd <;> cases mm_before t' j k <;> rfl
      rw [e2] at this
      omega
/-- the places below p that hold acts of the field -/
abbrev sm_cp (t : vx_A) (rc fd : Int32) (q : Nat) : Nat := sm_cnt (fun p => xa_isOf t (ta_o t p) rc fd) q
theorem sm_cp_mono (t : vx_A) (rc fd : Int32) {a b : Nat} (h : a ≤ b) : sm_cp t rc fd a ≤ sm_cp t rc fd b := by
  induction b with
  | zero => rw [show a = 0 by omega]; exact Nat.le_refl _
  | succ b ih =>
    by_cases hab : a = b + 1
    · rw [hab]; exact Nat.le_refl _
    · have := ih (by omega)
      show sm_cp t rc fd a ≤ sm_cnt _ b + _
      exact Nat.le_trans this (Nat.le_add_right _ _)
theorem sm_cp_s (t : vx_A) (rc fd : Int32) {p : Nat} (h : 1 ≤ p) : sm_cp t rc fd p = sm_cp t rc fd (p - 1) + (if xa_isOf t (ta_o t p) rc fd = true then 1 else 0) := by
  obtain ⟨z, rfl⟩ : ∃ z, p = z + 1 := ⟨p - 1, by omega⟩
  rfl
theorem sm_cut (P : Nat → Bool) (p : Nat) : ∀ N, 1 ≤ p → p ≤ N + 1 → sm_cnt (fun q => P q && decide (q < p)) N = sm_cnt P (p - 1) := by
  intro N
  induction N with
  | zero => intro h1 h2; rw [show p - 1 = 0 by omega]; rfl
  | succ N ih =>
    intro h1 h2
    rw [sm_cnt]
    by_cases hp : p = N + 2
    · subst hp
      rw [show N + 2 - 1 = N + 1 by omega, sm_cnt]
      rw [sm_cnt_eq (P := fun q => P q && decide (q < N + 2)) (R := P) N (fun j g1 g2 => by simp [show j < N + 2 by omega])]
      simp
    · rw [ih h1 (by omega)]
      simp [show ¬ N + 1 < p by omega]
/-- the reference's number of acts before one, by its place in the row of VersionRows -/
theorem sm_rank {t : vx_A} {t' : vm_A} (h : sm_t t t') (hi : xo_inv t) (rc fd : Int32) {p : Nat} (h1 : 1 ≤ p) (h2 : p ≤ ta_n t) : mm_bfT t' rc fd (ta_o t p) = sm_cp t rc fd (p - 1) := by
  have hN := h.2.2.2.2.2.1
  obtain ⟨i1, i2, i3⟩ := hi
  have inj : ∀ p q, 1 ≤ p → p ≤ ta_n t → 1 ≤ q → q ≤ ta_n t → ta_o t p = ta_o t q → p = q := by
    intro p q g1 g2 g3 g4 g5
    rcases Nat.lt_trichotomy p q with e | e | e
    · have := i2 p q g1 e g4; rw [g5] at this; exact absurd this (xo_irr t _)
    · exact e
    · have := i2 q p g3 e g2; rw [g5] at this; exact absurd this (xo_irr t _)
  have e0 := sm_bf0 t' rc fd (ta_o t p) (tm_n t' + 2) 1 0 (by omega) (by omega) (by omega)
  have e1 : sm_cnt (fun x => mm_isOf t' x rc fd && mm_before t' x (ta_o t p)) (1 - 1) = 0 := rfl
  rw [e1] at e0
  have e2 := sm_cnt_bij (fun x => mm_isOf t' x rc fd && mm_before t' x (ta_o t p)) (ta_n t) (ta_o t) i1 inj i3
  have e3 : sm_cnt (fun q => mm_isOf t' (ta_o t q) rc fd && mm_before t' (ta_o t q) (ta_o t p)) (ta_n t) = sm_cnt (fun q => xa_isOf t (ta_o t q) rc fd && decide (q < p)) (ta_n t) := by
    apply sm_cnt_eq
    intro q g1 g2
    rw [sm_isOf h]
    congr 1
    rw [Bool.eq_iff_iff, sm_before h, decide_eq_true_iff]
    constructor
    · intro hl
      rcases Nat.lt_trichotomy q p with e | e | e
      · exact e
      · rw [e] at hl; exact absurd hl (xo_irr t _)
      · exact absurd (xo_tr hl (i2 p q h1 e g2)) (xo_irr t _)
    · intro hl; exact i2 q p g1 hl h2
  have e4 := sm_cut (fun q => xa_isOf t (ta_o t q) rc fd) p (ta_n t) h1 (by omega)
  show mm_bf t' rc fd (ta_o t p) (tm_n t' + 2) 1 0 = _
  rw [hN] at e0 ⊢
  have e5 : sm_cnt (fun p_1 => (fun x => mm_isOf t' x rc fd && mm_before t' x (ta_o t p)) (ta_o t p_1)) (ta_n t) = sm_cnt (fun q => mm_isOf t' (ta_o t q) rc fd && mm_before t' (ta_o t q) (ta_o t p)) (ta_n t) := rfl
  rw [e5, e3, e4] at e2
  show _ = sm_cnt (fun p => xa_isOf t (ta_o t p) rc fd) (p - 1)
  omega
theorem sm_ith (t : vx_A) (rc fd : Int32) : ∀ n k ah, ta_n t + 1 < k + n → 1 ≤ k → k ≤ ta_n t + 1 → (∃ p, k ≤ p ∧ p ≤ ta_n t ∧ xa_isOf t (ta_o t p) rc fd = true ∧ sm_cp t rc fd (p - 1) = sm_cp t rc fd (k - 1) + ah ∧ xa_ith t rc fd n k ah = ta_o t p) ∨ (sm_cp t rc fd (ta_n t) ≤ sm_cp t rc fd (k - 1) + ah ∧ xa_ith t rc fd n k ah = 0) := by
  intro n
  induction n with
  | zero => intro k ah h1 h2 h3; omega
  | succ n ih =>
    intro k ah h1 h2 h3
    rw [xa_ith]
    by_cases hk : ta_n t < k
    · rw [if_pos hk]
      refine Or.inr ⟨?_, rfl⟩
      rw [show k - 1 = ta_n t by omega]; omega
    · rw [if_neg hk]
      have e := sm_cp_s t rc fd h2
      by_cases hc : xa_isOf t (ta_o t k) rc fd = true
      · rw [if_pos hc]
        rw [if_pos hc] at e
        by_cases ha : ah = 0
        · rw [if_pos ha]
          exact Or.inl ⟨k, Nat.le_refl _, by omega, hc, by omega, rfl⟩
        · rw [if_neg ha]
          rcases ih (k + 1) (ah - 1) (by omega) (by omega) (by omega) with ⟨p, g1, g2, g3, g4, g5⟩ | ⟨g1, g2⟩
          · rw [show k + 1 - 1 = k by omega] at g4
            exact Or.inl ⟨p, by omega, g2, g3, by omega, g5⟩
          · rw [show k + 1 - 1 = k by omega] at g1
            exact Or.inr ⟨by omega, g2⟩
      · rw [if_neg hc]
        rw [if_neg hc] at e
        rcases ih (k + 1) ah (by omega) (by omega) (by omega) with ⟨p, g1, g2, g3, g4, g5⟩ | ⟨g1, g2⟩
        · rw [show k + 1 - 1 = k by omega] at g4
          exact Or.inl ⟨p, by omega, g2, g3, by omega, g5⟩
        · rw [show k + 1 - 1 = k by omega] at g1
          exact Or.inr ⟨by omega, g2⟩
theorem sm_h0 (r : vx_R) (t' : vm_A) (rc fd : Int32) (i : Nat) (hf : mm_isF r rc fd = true) : ∀ n k, tm_n t' + 1 < k + n → 1 ≤ k → (∃ a, k ≤ a ∧ a ≤ tm_n t' ∧ mm_isOf t' a rc fd = true ∧ mm_bfT t' rc fd a = i ∧ mm_h r t' rc fd i n k = a) ∨ ((∀ a, k ≤ a → a ≤ tm_n t' → mm_isOf t' a rc fd = true → ¬ mm_bfT t' rc fd a = i) ∧ mm_h r t' rc fd i n k = 0) := by
  intro n
  induction n with
  | zero => intro k h1 h2; exact Or.inr ⟨fun a g1 g2 => by omega, rfl⟩
  | succ n ih =>
    intro k h1 h2
    rw [mm_h]
    by_cases hk : tm_n t' < k
    · rw [if_pos hk]; exact Or.inr ⟨fun a g1 g2 => by omega, rfl⟩
    · rw [if_neg hk, if_pos hf]
      by_cases hc : mm_isOf t' k rc fd = true
      · rw [if_pos hc]
        by_cases hb : mm_bfT t' rc fd k = i
        · rw [if_pos hb]; exact Or.inl ⟨k, Nat.le_refl _, by omega, hc, hb, rfl⟩
        · rw [if_neg hb]
          rcases ih (k + 1) (by omega) (by omega) with ⟨a, g1, g2, g3⟩ | ⟨g1, g2⟩
          · exact Or.inl ⟨a, by omega, g2, g3⟩
          · refine Or.inr ⟨fun a f1 f2 f3 => ?_, g2⟩
            by_cases ha : a = k
            · rw [ha]; exact hb
            · exact g1 a (by omega) f2 f3
      · rw [if_neg hc]
        rcases ih (k + 1) (by omega) (by omega) with ⟨a, g1, g2, g3⟩ | ⟨g1, g2⟩
        · exact Or.inl ⟨a, by omega, g2, g3⟩
        · refine Or.inr ⟨fun a f1 f2 f3 => ?_, g2⟩
          by_cases ha : a = k
          · rw [ha] at f3; exact absurd f3 hc
          · exact g1 a (by omega) f2 f3
theorem sm_h {t : vx_A} {t' : vm_A} (h : sm_t t t') (hi : xo_inv t) (r : vx_R) (rc fd : Int32) (i : Nat) (hf : mm_isF r rc fd = true) : mm_h r t' rc fd i (tm_n t' + 2) 1 = xa_ith t rc fd (ta_n t + 2) 1 i := by
  have hN := h.2.2.2.2.2.1
  have hc0 : sm_cp t rc fd (1 - 1) = 0 := rfl
  have hrk : ∀ p, 1 ≤ p → p ≤ ta_n t → mm_bfT t' rc fd (ta_o t p) = sm_cp t rc fd (p - 1) := fun p g1 g2 => sm_rank h hi rc fd g1 g2
  obtain ⟨i1, i2, i3⟩ := hi
  rcases sm_ith t rc fd (ta_n t + 2) 1 i (by omega) (by omega) (by omega) with ⟨p, g1, g2, g3, g4, g5⟩ | ⟨g1, g2⟩ <;> rcases sm_h0 r t' rc fd i hf (tm_n t' + 2) 1 (by omega) (by omega) with ⟨a, f1, f2, f3, f4, f5⟩ | ⟨f1, f2⟩
  · rw [f5, g5]
    obtain ⟨p2, k1, k2, k3⟩ := i3 a f1 (by omega)
    have e := hrk p2 k1 k2
    rw [k3, f4] at e
    rw [sm_isOf h, ← k3] at f3
    have e1 := sm_cp_s t rc fd (p := p) g1
    have e2 := sm_cp_s t rc fd (p := p2) k1
    rw [if_pos g3] at e1
    rw [if_pos f3] at e2
    rcases Nat.lt_trichotomy p p2 with q | q | q
    · have := sm_cp_mono t rc fd (show p ≤ p2 - 1 by omega); omega
    · rw [← k3, q]
    · have := sm_cp_mono t rc fd (show p2 ≤ p - 1 by omega); omega
  · exfalso
    have hb := i1 p g1 g2
    refine f1 (ta_o t p) hb.1 (by omega) (by rw [sm_isOf h]; exact g3) ?_
    rw [hrk p g1 g2, g4, hc0]; omega
  · exfalso
    obtain ⟨p2, k1, k2, k3⟩ := i3 a f1 (by omega)
    have e := hrk p2 k1 k2
    rw [k3, f4] at e
    rw [sm_isOf h, ← k3] at f3
    have e2 := sm_cp_s t rc fd (p := p2) k1
    rw [if_pos f3] at e2
    have := sm_cp_mono t rc fd (show p2 ≤ ta_n t from k2)
    omega
  · rw [f2, g2]
end
section
/-! VersionRows and the reference, call by call -/
def sr (r : vx_R) (t : vx_A) (w : Nat → Int64) (b : vx_B) (r' : vx_R) (t' : vm_A) (w' : Nat → Bool) (b' : vx_B) : Prop :=
  r' = r ∧ b' = b ∧ sm_t t t' ∧ sm_w w w' ∧ vx_ok r t b ∧ xo_inv t ∧ (∀ j, 1 ≤ j → j ≤ ta_n t → (ta_r t j).toNatClampNeg ≤ rr_n r ∧ ¬ (ta_f t j = 0 ∧ ta_v t j = 1 ∧ rr_k r (ta_r t j).toNatClampNeg = nI 1))
section REL
variable {r r' : vx_R} {t : vx_A} {t' : vm_A} {w : Nat → Int64} {w' : Nat → Bool} {b b' : vx_B}
theorem sr_ok (h : sr r t w b r' t' w' b') : vx_ok r t b := h.2.2.2.2.1
theorem sr_mok (h : sr r t w b r' t' w' b') : vm_ok r' t' b' := by
  obtain ⟨rfl, rfl, h3, -, ⟨k1, k2, k3, k4⟩, -⟩ := h
  exact ⟨k1, by rw [h3.2.2.2.2.2.1]; exact k2, k4⟩
theorem sr_new : sr vx_r0 vx_t0 (fun _ => 0) vx_b0 vx_r0 vm_t0 (fun _ => false) vx_b0 := by
  refine ⟨rfl, rfl, ⟨rfl, rfl, rfl, rfl, rfl, rfl, fun j h1 h2 => ?_, fun j h => rfl⟩, fun a o _ _ => ⟨?_, fun q => ?_⟩, ⟨Nat.zero_le _, Nat.zero_le _, fun j => Nat.zero_le _, Nat.zero_le _⟩, ⟨fun p h1 h2 => ?_, fun p q h1 h2 h3 => ?_, fun j h1 h2 => ?_⟩, fun j h1 h2 => ?_⟩
  · have : j ≤ 0 := h2
    omega
  · rw [xl_has_get]; simp
  · rw [xl_has_get] at q; simp at q
  · have : p ≤ 0 := h2
    omega
  · have : q ≤ 0 := h3
    omega
  · have : j ≤ 0 := h2
    omega
  · have : j ≤ 0 := h2
    omega
theorem sr_rec (h : sr r t w b r' t' w' b') (kd : Int32) : mm_rec r' kd = xv_rec r kd ∧ sr (if xv_rec r kd = true then xr_add r kd else r) t w b (if mm_rec r' kd = true then xr_add r' kd else r') t' w' b' := by
  obtain ⟨rfl, rfl, h3, h4, ⟨k1, k2, k3, k4⟩, h6, h7⟩ := h
  have e : mm_rec r' kd = xv_rec r' kd := by
    unfold mm_rec xv_rec
    by_cases h0 : kd < 0
    · rw [if_pos h0, if_pos h0]
    · rw [if_neg h0, if_neg h0]
      have e1 : (nI 3 < kd) ↔ ¬ (kd < nI 4) := by
        rw [Int32.lt_iff_toInt_lt, Int32.lt_iff_toInt_lt, show (nI 3).toInt = 3 by decide, show (nI 4).toInt = 4 by decide]; omega
      by_cases h1 : kd < nI 4
      · rw [if_pos h1, if_neg (fun q => e1.mp q h1)]
        by_cases h2 : rr_n r' = 20
        · rw [if_pos h2, if_neg (by omega)]
        · rw [if_neg h2, if_pos (by omega)]
      · rw [if_neg h1, if_pos (e1.mpr h1)]
  refine ⟨e, ?_⟩
  rw [e]
  by_cases hc : xv_rec r' kd = true
  · rw [if_pos hc]
    have hn : rr_n r' < 20 := by
      unfold xv_rec at hc
      split at hc
      · cases hc
      · split at hc
        · split at hc
          · assumption
          · cases hc
        · cases hc
    refine ⟨rfl, rfl, h3, h4, ⟨by show rr_n r' + 1 ≤ 20; omega, k2, k3, k4⟩, h6, fun j g1 g2 => ?_⟩
    obtain ⟨q1, q2⟩ := h7 j g1 g2
    refine ⟨by show _ ≤ rr_n r' + 1; omega, ?_⟩
    have e2 : rr_k (xr_add r' kd) (ta_r t j).toNatClampNeg = rr_k r' (ta_r t j).toNatClampNeg := pk_un (by omega)
    rw [e2]; exact q2
  · rw [if_neg hc]
    exact ⟨rfl, rfl, h3, h4, ⟨k1, k2, k3, k4⟩, h6, h7⟩
theorem sr_locked (h : sr r t w b r' t' w' b') (k : Nat) : mm_locked r' t' k = xv_locked r t k := by
  obtain ⟨rfl, rfl, h3, h4, -, h6, h7⟩ := h
  unfold mm_locked xv_locked
  rw [sm_now h3 h6]
theorem sr_at (h : sr r t w b r' t' w' b') (rc fd : Int32) (mo : Int64) : mm_at r' t' rc fd mo = xv_at r t rc fd mo := by
  obtain ⟨rfl, rfl, h3, h4, -, h6, h7⟩ := h
  unfold mm_at xv_at
  rw [mm_isF_eq, sm_last h3 h6, h3.2.2.1]
theorem sr_stale (h : sr r t w b r' t' w' b') (rc : Int32) (mo : Int64) (fd : Int32) : mm_stale r' t' rc mo fd = xv_stale r t rc mo fd := by
  obtain ⟨rfl, rfl, h3, h4, -, h6, h7⟩ := h
  unfold mm_stale xv_stale
  rw [mm_isF_eq, sm_last h3 h6, sm_last h3 h6, sm_max h6, h3.2.2.1, h3.2.2.2.2.1]
theorem sr_hist (h : sr r t w b r' t' w' b') (rc fd i : Int32) : mm_hist r' t' rc fd i = xv_hist r t rc fd i := by
  obtain ⟨rfl, rfl, h3, h4, -, h6, h7⟩ := h
  unfold mm_hist xv_hist
  by_cases hi : i < 0
  · rw [if_pos hi]
    have : ¬ 0 ≤ i := fun q => Int32.not_le.mpr hi q
    rw [if_neg this]; split <;> rfl
  · rw [if_neg hi, if_pos (Int32.not_lt.mp hi)]
    by_cases hf : xv_hasF r' rc fd = true
    · rw [if_pos hf, sm_h h3 h6 r' rc fd _ (by rw [mm_isF_eq]; exact hf)]
    · rw [if_neg hf]
      have hf' : ¬ mm_isF r' rc fd = true := by rw [mm_isF_eq]; exact hf
      rw [mm_h]
      split
      · rfl
      · first | rfl | rw [if_neg hf']
theorem sr_cf (h : sr r t w b r' t' w' b') (i what : Int32) : mm_cf t' i what = xv_cf t i what := sm_cf h.2.2.1 h.2.2.2.2.1.2.1 i what
theorem sr_lock (h : sr r t w b r' t' w' b') (rc who : Int32) (un : Int64) : mm_lock r' t' rc who = xv_lock r t rc who ∧ sr (if xv_lock r t rc who = true then xr_lock r rc.toNatClampNeg who un else r) t w b (if mm_lock r' t' rc who = true then xr_lock r' rc.toNatClampNeg who un else r') t' w' b' := by
  have e : mm_lock r' t' rc who = xv_lock r t rc who := by
    have hl := sr_locked h rc.toNatClampNeg
    obtain ⟨rfl, -⟩ := h
    unfold mm_lock xv_lock
    rw [mm_is_has, hl]
  refine ⟨e, ?_⟩
  rw [e]
  obtain ⟨rfl, rfl, h3, h4, h5, h6, h7⟩ := h
  by_cases hc : xv_lock r' t rc who = true
  · rw [if_pos hc]; exact ⟨rfl, rfl, h3, h4, h5, h6, h7⟩
  · rw [if_neg hc]; exact ⟨rfl, rfl, h3, h4, h5, h6, h7⟩
theorem sm_setU (h : sm_t t t') {c : Nat → Bool} {u : Nat → Bool} (h1 : ∀ j, 1 ≤ j → j ≤ ta_n t → u j = !(c j)) (h2 : ∀ j, ta_n t < j → u j = false) : sm_t (ta_setC t c) (tm_setU t' u) := ⟨h.1, h.2.1, h.2.2.1, h.2.2.2.1, h.2.2.2.2.1, h.2.2.2.2.2.1, h1, h2⟩
theorem sr_undo (h : sr r t w b r' t' w' b') (i : Int32) : mm_undo t' w' b' i = xv_undo t w i ∧ sr r (if xv_undo t w i = true then ta_setC t (vr_ub (ta_c t) i.toNatClampNeg false) else t) w b r' (if mm_undo t' w' b' i = true then tm_setU t' (vr_ub (tm_u t') i.toNatClampNeg true) else t') w' b' := by
  obtain ⟨rfl, rfl, h3, h4, ⟨k1, k2, k3, k4⟩, h6, h7⟩ := h
  have hN := h3.2.2.2.2.2.1
  have e : mm_undo t' w' b' i = xv_undo t w i := by
    unfold mm_undo xv_undo
    rw [mm_is_has, hN]
    by_cases hh : vx_has (ta_n t) i = true
    · rw [if_pos hh, if_pos hh]
      obtain ⟨k, g1, g2, rfl⟩ := vx_has_of (by omega) hh
      have hcl : (nI k).toNatClampNeg = k := nI_clamp (by omega)
      rw [hcl, h3.2.2.2.2.2.2.1 k g1 g2, sm_undo h3 h4 k2 b' g1 g2]
      cases ta_c t k <;> simp
    · rw [if_neg hh, if_neg hh]
  refine ⟨e, ?_⟩
  rw [e]
  by_cases hc : xv_undo t w i = true
  · rw [if_pos hc, if_pos hc]
    have hh : vx_has (ta_n t) i = true := by
      unfold xv_undo at hc; split at hc
      · assumption
      · cases hc
    obtain ⟨k, g1, g2, rfl⟩ := vx_has_of (by omega) hh
    have hcl : (nI k).toNatClampNeg = k := nI_clamp (by omega)
    rw [hcl]
    refine ⟨rfl, rfl, sm_setU h3 (fun j q1 q2 => ?_) (fun j q => ?_), h4, ⟨k1, k2, k3, k4⟩, h6, h7⟩
    · by_cases hj : j = k
      · subst hj; rw [vr_ub_s, vr_ub_s]; rfl
      · rw [vr_ub_n hj, vr_ub_n hj]; exact h3.2.2.2.2.2.2.1 j q1 q2
    · rw [vr_ub_n (by omega)]; exact h3.2.2.2.2.2.2.2 j q
  · rw [if_neg hc, if_neg hc]; exact ⟨rfl, rfl, h3, h4, ⟨k1, k2, k3, k4⟩, h6, h7⟩
theorem sr_lean (h : sr r t w b r' t' w' b') (i o : Int32) : mm_lean t' w' i o = xv_lean t w i o ∧ sr r t (if xv_lean t w i o = true then xl_add w i.toNatClampNeg o.toNatClampNeg else w) b r' t' (if mm_lean t' w' i o = true then vr_ub w' (201 * i.toNatClampNeg + o.toNatClampNeg) true else w') b' := by
  obtain ⟨rfl, rfl, h3, h4, ⟨k1, k2, k3, k4⟩, h6, h7⟩ := h
  have hN := h3.2.2.2.2.2.1
  have key : ∀ k j, 1 ≤ k → k ≤ ta_n t → 1 ≤ j → j ≤ ta_n t → w' (201 * k + j) = xl_has w k j := fun k j _ g2 _ g4 => (h4 k j (by omega) (by omega)).1
  have e : mm_lean t' w' i o = xv_lean t w i o := by
    unfold mm_lean xv_lean
    rw [mm_is_has, mm_is_has, hN]
    by_cases hh : vx_has (ta_n t) i = true
    · rw [if_pos hh, if_pos hh]
      by_cases ho : vx_has (ta_n t) o = true
      · rw [if_pos ho, if_pos ho]
        obtain ⟨k, g1, g2, rfl⟩ := vx_has_of (by omega) hh
        obtain ⟨j, f1, f2, rfl⟩ := vx_has_of (by omega) ho
        rw [nI_clamp (by omega), nI_clamp (by omega), key k j g1 g2 f1 f2]
      · rw [if_neg ho, if_neg ho]
    · rw [if_neg hh, if_neg hh]
  refine ⟨e, ?_⟩
  rw [e]
  by_cases hc : xv_lean t w i o = true
  · rw [if_pos hc, if_pos hc]
    unfold xv_lean at hc
    split at hc
    · rename_i hh
      split at hc
      · rename_i ho
        obtain ⟨k, g1, g2, rfl⟩ := vx_has_of (by omega) hh
        obtain ⟨j, f1, f2, rfl⟩ := vx_has_of (by omega) ho
        rw [nI_clamp (show k < 2 ^ 31 by omega), nI_clamp (show j < 2 ^ 31 by omega)] at hc ⊢
        split at hc
        · cases hc
        · rename_i hlt
          refine ⟨rfl, rfl, h3, fun a o' ha ho' => ?_, ⟨k1, k2, k3, k4⟩, h6, h7⟩
          have hadd := xl_has_add w (k := k) (o := j) (k' := a) (o' := o') (by omega) ho'
          refine ⟨?_, fun q => ?_⟩
          · rw [hadd]
            by_cases hi : 201 * a + o' = 201 * k + j
            · have ea : k = a := by omega
              have eo : j = o' := by omega
              subst ea; subst eo
              rw [vr_ub_s]; simp
            · rw [vr_ub_n hi, (h4 a o' ha ho').1]
              by_cases ea : k = a
              · have eo : ¬ j = o' := fun z => hi (by rw [ea, z])
                simp [eo]
              · simp [ea]
          · rw [hadd] at q
            cases hx : xl_has w a o' with
            | true => exact (h4 a o' ha ho').2 hx
            | false =>
              rw [hx] at q
              simp at q
              omega
      · cases hc
    · cases hc
  · rw [if_neg hc, if_neg hc]; exact ⟨rfl, rfl, h3, h4, ⟨k1, k2, k3, k4⟩, h6, h7⟩
theorem sr_bat (h : sr r t w b r' t' w' b') (f to : Int32) : (if mm_batOk t' b' f to = true then mm_batN b' f.toNatClampNeg to.toNatClampNeg (to.toNatClampNeg + 2) f.toNatClampNeg else 0) = (if xv_bat t b f to = true then tb_n b + 1 else 0) ∧ sr r t w (if xv_bat t b f to = true then xb_add b f.toNatClampNeg to.toNatClampNeg else b) r' t' w' (if mm_batOk t' b' f to = true then mm_batB b' f.toNatClampNeg to.toNatClampNeg (to.toNatClampNeg + 2) f.toNatClampNeg else b') := by
  obtain ⟨rfl, rfl, h3, h4, ⟨k1, k2, k3, k4⟩, h6, h7⟩ := h
  have hN := h3.2.2.2.2.2.1
  have base : sr r' t w b' r' t' w' b' := ⟨rfl, rfl, h3, h4, ⟨k1, k2, k3, k4⟩, h6, h7⟩
  unfold mm_batOk xv_bat
  rw [mm_is_has, mm_is_has, hN]
  by_cases hh : vx_has (ta_n t) f = true
  · rw [if_pos hh, if_pos hh]
    by_cases ho : vx_has (ta_n t) to = true
    · rw [if_pos ho, if_pos ho]
      by_cases hft : to.toNatClampNeg < f.toNatClampNeg
      · rw [if_pos hft, if_neg (show ¬ f.toNatClampNeg ≤ to.toNatClampNeg by omega)]
        simp; exact base
      · rw [if_neg hft, if_pos (show f.toNatClampNeg ≤ to.toNatClampNeg by omega)]
        unfold xb_can mm_batN mm_batB
        by_cases h30 : tb_n b' = 30
        · rw [if_pos h30, if_pos (show 30 ≤ tb_n b' by omega)]; simp; exact base
        · rw [if_neg h30, if_neg (show ¬ 30 ≤ tb_n b' by omega)]
          by_cases ht : xb_taken b' to.toNatClampNeg (to.toNatClampNeg + 2) f.toNatClampNeg = true
          · rw [if_pos ht, if_pos ht]; simp; rw [if_pos ht]; exact base
          · rw [if_neg ht, if_neg ht]; simp
            rw [if_neg ht]
            exact ⟨rfl, rfl, h3, h4, ⟨k1, k2, k3, by show tb_n b' + 1 ≤ 30; omega⟩, h6, h7⟩
    · rw [if_neg ho, if_neg ho]; simp; exact base
  · rw [if_neg hh, if_neg hh]; simp; exact base
theorem sr_drop (h : sr r t w b r' t' w' b') (bt : Int32) : (if mm_dropOk b' bt = true then mm_dropN t' w' b' bt (tm_n t' + 2) 1 0 false else 0) = (if xv_can t w b bt = true then xv_dropN b bt (ta_n t) (ta_c t) 0 else 0) ∧ sr r (if xv_can t w b bt = true then ta_setC t (xv_dropC b bt (ta_n t) (ta_c t)) else t) w b r' (if mm_dropOk b' bt = true then tm_setU t' (mm_dropU t' w' b' bt (tm_n t' + 2) 1 false) else t') w' b' := by
  obtain ⟨rfl, rfl, h3, h4, ⟨k1, k2, k3, k4⟩, h6, h7⟩ := h
  have hN := h3.2.2.2.2.2.1
  have base : sr r' t w b' r' t' w' b' := ⟨rfl, rfl, h3, h4, ⟨k1, k2, k3, k4⟩, h6, h7⟩
  have e : mm_dropOk b' bt = vx_has (tb_n b') bt := by
    unfold mm_dropOk vx_has
    by_cases h1 : bt < nI 1
    · rw [if_pos h1, if_pos h1]
    · rw [if_neg h1, if_neg h1]
      by_cases h2 : nI (tb_n b') < bt
      · rw [if_pos h2, if_neg (fun q => Int32.not_le.mpr h2 q)]
      · rw [if_neg h2, if_pos (Int32.not_lt.mp h2)]
  rw [e]
  unfold xv_can mm_dropN mm_dropU
  by_cases hh : vx_has (tb_n b') bt = true
  · rw [if_pos hh, if_pos hh, if_pos hh]
    have hb : ¬ bt = 0 := by
      obtain ⟨k, g1, g2, rfl⟩ := vx_has_of (by omega) hh
      exact nI_ne0 (by omega) (by omega)
    rw [sm_held h3 h4 k2 b' hb, sm_many h3 b' bt]
    by_cases hl : xv_leanF t w b' bt (ta_n t + 2) 1 = true
    · rw [if_pos hl, if_pos hl, if_pos hl]; simp; exact base
    · rw [if_neg hl, if_neg hl, if_neg hl]; simp
      refine ⟨rfl, rfl, sm_setU h3 (fun j q1 q2 => ?_) (fun j q => ?_), h4, ⟨k1, k2, k3, k4⟩, h6, h7⟩
      · rw [sm_du0 t' b' bt (tm_n t' + 2) 1 (tm_u t') j (by omega), if_pos ⟨q1, by rw [hN]; exact q2⟩, sm_dropC, h3.2.2.2.2.2.2.1 j q1 q2]
        by_cases hx : xv_inC b' bt (ta_c t) j = true
        · rw [if_pos ⟨q1, q2, hx⟩]
          obtain ⟨x1, x2⟩ := (xv_inC_iff b' bt _ j).mp hx
          simp [x1]
        · rw [if_neg (fun z => hx z.2.2)]
          have hx' : ¬ (tb_o b' j = bt ∧ ta_c t j = true) := fun z => hx ((xv_inC_iff b' bt _ j).mpr z)
          cases hcj : ta_c t j with
          | false => simp
          | true =>
            have : ¬ tb_o b' j = bt := fun z => hx' ⟨z, hcj⟩
            simp [this]
      · rw [sm_du0 t' b' bt (tm_n t' + 2) 1 (tm_u t') j (by omega), if_neg (by rw [hN]; omega)]
        exact h3.2.2.2.2.2.2.2 j q
  · rw [if_neg hh, if_neg hh, if_neg hh]; simp; exact base
theorem sr_act (h : sr r t w b r' t' w' b') (rc fd : Int32) (v vd kn : Int64) : mm_actN r' t' rc fd v vd kn = xv_actN r t rc fd v vd kn ∧ sr r (xv_actT r t rc fd v vd kn) w b r' (mm_actT r' t' rc fd v vd kn) w' b' := by
  have hlk := fun k => sr_locked h k
  obtain ⟨rfl, rfl, h3, h4, ⟨k1, k2, k3, k4⟩, h6, h7⟩ := h
  have hN := h3.2.2.2.2.2.1
  have base : sr r' t w b' r' t' w' b' := ⟨rfl, rfl, h3, h4, ⟨k1, k2, k3, k4⟩, h6, h7⟩
  unfold mm_actN mm_actT xv_actN xv_actT mm_actOk xv_actOk
  rw [mm_isF_eq]
  by_cases hf : xv_hasF r' rc fd = true
  · rw [if_pos hf, if_pos hf]
    by_cases hv1 : v < 0
    · rw [if_pos hv1, if_pos hv1]; simp; exact base
    · rw [if_neg hv1, if_neg hv1]
      by_cases hv2 : v ≤ 2147483647
      · rw [if_pos hv2, if_neg (Int64.not_lt.mpr hv2), hlk]
        by_cases hl : xv_locked r' t rc.toNatClampNeg = true
        · rw [if_pos hl, if_pos hl]; simp; exact base
        · rw [if_neg hl, if_neg hl]
          obtain ⟨k, g1, g2, rfl⟩ := vx_has_of (n := rr_n r') (by omega) (xv_hasF_has hf)
          have hcl : (nI k).toNatClampNeg = k := nI_clamp (by omega)
          rw [hcl, sm_find h3 (nI k) fd vd kn hv1 hv2 (tm_n t' + 2) 1 (Nat.le_refl _), hN]
          have ef : xv_fnd t (nI k) fd v vd kn = xa_find t (nI k) fd v.toInt32 vd kn (ta_n t + 2) 1 := rfl
          rw [← ef]
          have h11 : (1 : Int32).toInt64 = v ↔ (1 : Int32) = v.toInt32 := sm_val hv1 hv2
          have h1v : v = 1 ↔ v.toInt32 = 1 := by
            constructor
            · intro q; exact (h11.mp (by rw [q]; decide)).symm
            · intro q; rw [← h11.mpr q.symm]; decide
          have hfs := xa_find_spec t (nI k) fd v.toInt32 vd kn (ta_n t + 2) 1 (Nat.le_refl _)
          rw [← ef] at hfs
          by_cases hr : xv_refuse r' k fd v = true
          · rw [if_pos hr]
            have hr2 : fd = 0 ∧ v = 1 ∧ rr_k r' k = nI 1 := by
              unfold xv_refuse at hr
              split at hr
              · split at hr
                · split at hr
                  · exact ⟨by assumption, by assumption, by assumption⟩
                  · cases hr
                · cases hr
              · cases hr
            have hf0 : xv_fnd t (nI k) fd v vd kn = 0 := by
              rcases hfs with q | ⟨q1, q2, q3⟩
              · exact q
              · exfalso
                have hs : ta_r t (xv_fnd t (nI k) fd v vd kn) = nI k ∧ ta_f t (xv_fnd t (nI k) fd v vd kn) = fd ∧ ta_v t (xv_fnd t (nI k) fd v vd kn) = v.toInt32 := by
                  have q4 : ta_c t (xv_fnd t (nI k) fd v vd kn) = true ∧ (ta_r t (xv_fnd t (nI k) fd v vd kn) = nI k ∧ ta_f t (xv_fnd t (nI k) fd v vd kn) = fd) ∧ ta_v t (xv_fnd t (nI k) fd v vd kn) = v.toInt32 ∧ ta_d t (xv_fnd t (nI k) fd v vd kn) = vd ∧ ta_k t (xv_fnd t (nI k) fd v vd kn) = kn := by simpa [xa_same, xa_isOf] using q3
                  exact ⟨q4.2.1.1, q4.2.1.2, q4.2.2.1⟩
                refine (h7 _ q1 q2).2 ⟨by rw [hs.2.1]; exact hr2.1, by rw [hs.2.2]; exact h1v.mp hr2.2.1, ?_⟩
                rw [hs.1, hcl]; exact hr2.2.2
            have hst : mm_stop r' t' k fd v = true := by simp [mm_stop, hr2.1, hr2.2.1, hr2.2.2]
            unfold mm_finN mm_finT
            rw [hf0, hst]
            simp; exact base
          · rw [if_neg hr]
            have hr2 : ¬ (fd = 0 ∧ v = 1 ∧ rr_k r' k = nI 1) := fun q => hr (by simp [xv_refuse, q.1, q.2.1, q.2.2])
            have hst : mm_stop r' t' k fd v = decide (ta_n t = 200) := by
              unfold mm_stop
              rw [hN]
              by_cases a1 : fd = 0
              · by_cases a2 : v = 1
                · have a3 : ¬ rr_k r' k = nI 1 := fun q => hr2 ⟨a1, a2, q⟩
                  by_cases a4 : ta_n t = 200 <;> simp [a1, a2, a3, a4]
                · by_cases a4 : ta_n t = 200 <;> simp [a1, a2, a4]
              · by_cases a4 : ta_n t = 200 <;> simp [a1, a4]
            unfold mm_finN mm_finT
            rw [hst, hN]
            by_cases hf0 : xv_fnd t (nI k) fd v vd kn = 0
            · simp only [hf0, if_true]
              by_cases hn : ta_n t < 200
              · have hn2 : ¬ ta_n t = 200 := by omega
                simp only [hn, hn2, decide_false, if_true]
                refine ⟨rfl, rfl, rfl, ⟨?_, ?_, ?_, ?_, ?_, ?_, fun j q1 q2 => ?_, fun j q => ?_⟩, h4, ⟨k1, by show ta_n t + 1 ≤ 200; omega, xo_le k3 hn, k4⟩, xo_add h6 _ _ _ _ _, fun j q1 q2 => ?_⟩
                · show upd (tm_r t') (tm_n t' + 1) (nI k) = upd (ta_r t) (ta_n t + 1) (nI k)
                  rw [h3.1, hN]
                · show upd (tm_f t') (tm_n t' + 1) fd = upd (ta_f t) (ta_n t + 1) fd
                  rw [h3.2.1, hN]
                · show upd (tm_v t') (tm_n t' + 1) v.toInt32 = upd (ta_v t) (ta_n t + 1) v.toInt32
                  rw [h3.2.2.1, hN]
                · show vp_updL (tm_d t') (tm_n t' + 1) vd = vp_updL (ta_d t) (ta_n t + 1) vd
                  rw [h3.2.2.2.1, hN]
                · show vp_updL (tm_k t') (tm_n t' + 1) kn = vp_updL (ta_k t) (ta_n t + 1) kn
                  rw [h3.2.2.2.2.1, hN]
                · show tm_n t' + 1 = ta_n t + 1
                  rw [hN]
                · have q2' : j ≤ ta_n t + 1 := q2
                  show tm_u t' j = !(vr_ub (ta_c t) (ta_n t + 1) true j)
                  by_cases hj : j = ta_n t + 1
                  · rw [hj, vr_ub_s]; exact h3.2.2.2.2.2.2.2 _ (by omega)
                  · rw [vr_ub_n hj]; exact h3.2.2.2.2.2.2.1 j q1 (by omega)
                · have q' : ta_n t + 1 < j := q
                  exact h3.2.2.2.2.2.2.2 j (by omega)
                · have q2' : j ≤ ta_n t + 1 := q2
                  show (upd (ta_r t) (ta_n t + 1) (nI k) j).toNatClampNeg ≤ rr_n r' ∧ ¬ (upd (ta_f t) (ta_n t + 1) fd j = 0 ∧ upd (ta_v t) (ta_n t + 1) v.toInt32 j = 1 ∧ rr_k r' (upd (ta_r t) (ta_n t + 1) (nI k) j).toNatClampNeg = nI 1)
                  by_cases hj : j = ta_n t + 1
                  · rw [hj, pk_us, pk_us, pk_us, hcl]
                    exact ⟨g2, fun z => hr2 ⟨z.1, h1v.mpr z.2.1, z.2.2⟩⟩
                  · rw [pk_un hj, pk_un hj, pk_un hj]
                    exact h7 j q1 (by omega)
              · have hn2 : ta_n t = 200 := by omega
                simp [hn2]; exact base
            · simp only [hf0, if_false]
              simp; exact base
      · rw [if_neg hv2, if_pos (Int64.not_le.mp hv2)]; simp; exact base
  · rw [if_neg hf, if_neg hf]; simp; exact base
end REL
end
section
-- ===== end of PART A; then your names; then what follows =====
/-! THE CLAIM OUT OF ONE WALK OF THE LAW'S BODY. Your part is whole_start (and what it stands on); all else here is the same for every law, but numbers. -/
def R_law : String := "VersionRowsLaw"
def lw_P (b : Addr) (xs : List Int32) (args : Array Value) (s : State) : Prop := args = #[.ref b] ∧ s.IntsAt b xs ∧ xs.length ≤ 4608 ∧ (Jvm.Cond.and given_1 narrow_1).before args s = true
def lw_Q (_ : Array Value) (s : State) (o : Outcome) (t : State) : Prop := o = .returned (some (.int 1)) ∧ Framed s o t [] 600000 7302250
def lw_Z (below : List Frame) (a : Array Value) (s : State) : State → Prop := fun t => ∃ o, t.status = .running ∧ Ended t below o ∧ lw_Q a s o t
/-- the law's own end, with 1 on the stack, nothing written that was there before, its room as the claim has it -/
theorem lw_ret {p : Program} {l : Launch} {e : Env} {s : State} {m : MethodId} {below : List Frame} {meth : Method} {c : Code} {b : Nat} (hx : p.tables.exec = Jvm.exec) (hb : c.code = code) (hr : meth.sig.returnType = ret) (hlocks : meth.locks = false) {pc : Nat} {H : Heap} {ls : Array Slot} (hdg : decode code pc = .ok (.ireturn, 1)) : W p l e room_1 s m #[Value.ref b] below meth c H [] 600000 7302250 (lw_Z below #[Value.ref b] s) (F0 m pc ls [.int 1]) := by
  intro T hT X
  obtain ⟨fs, hret, hrun, hended, hW, hframe⟩ := X.leave (v := some (.int 1)) (hlocks := hlocks) (fun h => by rw [hr] at h; cases h)
  have hmeth' : T.vm.method? m = some meth := X.method'
  refine ⟨T.setFrames fs, ?_, .returned (some (.int 1)), hrun, hended, rfl, ⟨_, rfl⟩, hW, hframe⟩
  jvm_step X.here [X.here.top, hx, hb, hdg, hmeth', hr, ret, narrow_b1]
  (try refine ⟨rfl, ?_⟩); (try refine ⟨rfl, ?_⟩)
  first | (intro acts; rw [hret _ acts rfl rfl rfl]) | rw [hret _ _ rfl rfl rfl]
  exact Steps.refl _
/-- what holds at the law's entry: the machine, the code, the tables' words (any of lw_tbl by 'hts w (by decide +kernel)'), the script of L ints xs at the cell b, what the Statement gives of the start (any of its parts by flat_of_before) -/
def lw_At (p : Program) (s : State) (m : MethodId) (meth : Method) (c : Code) (b L : Nat) (xs : Nat → Int32) : Prop :=
  p.tables.exec = Jvm.exec ∧ c.code = code ∧ meth.sig.returnType = ret ∧ c.maxLocals = 4 ∧ s.vm.findClass R_law = some m.cls ∧ (∀ w ∈ lw_tbl, w.before #[Value.ref b] s = true) ∧ va_X b L xs s s.heap ∧ b < s.heap.size ∧ meth.locks = false ∧ (Jvm.Cond.and given_1 narrow_1).before #[Value.ref b] s = true

section SCR
variable {p : Program} {l : Launch} {e : Env} {R : Room} {s : State} {m : MethodId} {args : Array Value} {below : List Frame} {meth : Method} {c : Code} {cells slots : Nat} {Q : State → Prop}
variable {cc : ByteArray} {nL : Nat} {Ts : List Cond} {own : String} {D : va_G} {tys : List (ClassId × FieldType)} {A : Nat → Prop}
variable {ws : va_W} {pc pc' : Nat} {lv : List (Nat × Value)} {rest : List Value}
theorem vr_sld (hF : vr_F p s m c cc nL args Ts own D tys A) {b L : Nat} {xs : Nat → Int32} (hX : va_X b L xs s s.heap) (hbl : b < s.heap.size) (hbA : ¬ A b) {i : Nat} (hi : i < L) (hN : L ≤ 65536) (hdg : decode cc pc = .ok (.iaload, 1)) (hp : pc + 1 = pc') (k : vr_W p l e R s m args below meth c D A nL cells slots Q ws pc' lv (.int (xs i) :: rest)) : vr_W p l e R s m args below meth c D A nL cells slots Q ws pc lv (.int (nI i) :: .ref b :: rest) := by
  subst hp
  exact fun H locs ls hP hD hS hl => va_sld hF.1.1 hF.1.2.1 hX hbl hbA hS (vp_in_nI hi (Nat.lt_of_le_of_lt hN (by decide))) hdg (by rw [nI_clamp (Nat.lt_trans hi (Nat.lt_of_le_of_lt hN (by decide)))]; exact k H locs ls hP hD hS hl)
theorem vr_slen (hF : vr_F p s m c cc nL args Ts own D tys A) {b L : Nat} {xs : Nat → Int32} (hX : va_X b L xs s s.heap) (hbl : b < s.heap.size) (hbA : ¬ A b) (hdg : decode cc pc = .ok (.arraylength, 1)) (hp : pc + 1 = pc') (k : vr_W p l e R s m args below meth c D A nL cells slots Q ws pc' lv (.int (nI L) :: rest)) : vr_W p l e R s m args below meth c D A nL cells slots Q ws pc lv (.ref b :: rest) := by
  subst hp
  exact fun H locs ls hP hD hS hl => va_slen hF.1.1 hF.1.2.1 hX hbl hbA hS hdg (k H locs ls hP hD hS hl)
end SCR
set_option maxHeartbeats 4000000 in
set_option maxRecDepth 100000 in
theorem law_c0 {p : Program} {l : Launch} {e : Env} {s : State} {m : MethodId} {below : List Frame} {meth : Method} {c : Code} {b L : Nat} {xs : Nat → Int32} {g : vr_G} {a a' : Nat → Nat} (hF : vr_F p s m c code 4 #[Value.ref b] vr_T RL g.1 (vr_tys g) (fun q : Nat => s.heap.size ≤ q)) (hX : va_X b L xs s s.heap) (hbl : b < s.heap.size) (hbA : ¬ (fun q : Nat => s.heap.size ≤ q) b) (hL : L ≤ 4608) (i : Nat) (hi : i + 9 ≤ L) (r : vx_R) (t : vx_A) (w : Nat → Int64) (bb : vx_B) (r' : vx_R) (t' : vm_A) (w' : Nat → Bool) (bb' : vx_B) (hs : sr r t w bb r' t' w' bb')
    (hk : ∀ (r : vx_R) (t : vx_A) (w : Nat → Int64) (bb : vx_B) (r' : vx_R) (t' : vm_A) (w' : Nat → Bool) (bb' : vx_B), sr r t w bb r' t' w' bb' → vr_W p l e room_1 s m #[Value.ref b] below meth c g.1 (fun q : Nat => s.heap.size ≤ q) 4 29 44380 (lw_Z below #[Value.ref b] s) (vx_w g a r t w bb ++ vm_w g a' r' t' w' bb') 681 [(0, .ref b), (1, .ref (a 0)), (2, .ref (a' 0)), (3, .int (nI i))] []) : vr_W p l e room_1 s m #[Value.ref b] below meth c g.1 (fun q : Nat => s.heap.size ≤ q) 4 29 44380 (lw_Z below #[Value.ref b] s) (vx_w g a r t w bb ++ vm_w g a' r' t' w' bb') 92 [(0, .ref b), (1, .ref (a 0)), (2, .ref (a' 0)), (3, .int (nI i))] [] := by
  refine vr_aload_n hF 1 rfl dL_law_92 rfl rfl ?_
  refine vr_aload_n hF 0 rfl dL_law_93 rfl rfl ?_
  refine vr_iload_n hF 3 rfl dL_law_94 rfl rfl ?_
  refine vr_iconst (v := nI 1) hF dL_law_95 (by decide +kernel) rfl ?_
  refine vr_iadd (v := nI (i + 1)) hF dL_law_96 (nI_add i 1) rfl ?_
  refine vr_sld (i := i + 1) hF hX hbl hbA (by omega) (by omega) dL_law_97 rfl ?_
  refine vr_partV_Ci (pre := vx_w g a r t w bb) (wr := vm_w g a' r' t' w' bb') (rest := []) (n0 := 1) hF (xc_V_record l g a r t w bb (xs (i + 1)) (sr_ok hs)) (vr_gV vr_hb0 mlL_13 imX4_record seX4_record iniX4 cdX4_record) rfl (by decide +kernel) rfl rfl rfl ⟨Nat.le_of_ble_eq_true rfl, Nat.le_of_ble_eq_true rfl⟩ ⟨Nat.le_of_ble_eq_true rfl, Nat.le_of_ble_eq_true rfl⟩ 0 rfl rfl rfl (Nat.le_of_ble_eq_true rfl) dL_law_98 rfl [0, 1, 2, 3, 4, 5, 6, 7, 8, 9, 10, 11, 12, 13, 14, 15, 16] [17, 18, 19, 20, 21, 22, 23, 24, 25, 26, 27, 28] rfl rfl rfl rfl (by decide) ?_
  refine vr_aload_n hF 2 rfl dL_law_101 rfl rfl ?_
  refine vr_aload_n hF 0 rfl dL_law_102 rfl rfl ?_
  refine vr_iload_n hF 3 rfl dL_law_103 rfl rfl ?_
  refine vr_iconst (v := nI 1) hF dL_law_104 (by decide +kernel) rfl ?_
  refine vr_iadd (v := nI (i + 1)) hF dL_law_105 (nI_add i 1) rfl ?_
  refine vr_sld (i := i + 1) hF hX hbl hbA (by omega) (by omega) dL_law_106 rfl ?_
  refine vr_partV_Ci (pre := vm_w g a' r' t' w' bb') (wr := vx_w g a (if xv_rec r (xs (i + 1)) = true then xr_add r (xs (i + 1)) else r) t w bb) (rest := [.int (nI (if xv_rec r (xs (i + 1)) = true then rr_n r + 1 else 0))]) (n0 := 1) hF (xc_VModel_record l g a' r' t' w' bb' (xs (i + 1)) (sr_mok hs)) (vr_gV vr_hb0 mlL_17 imX5_record seX5_record iniX5 cdX5_record) rfl (by decide +kernel) rfl rfl rfl ⟨Nat.le_of_ble_eq_true rfl, Nat.le_of_ble_eq_true rfl⟩ ⟨Nat.le_of_ble_eq_true rfl, Nat.le_of_ble_eq_true rfl⟩ 0 rfl rfl rfl (Nat.le_of_ble_eq_true rfl) dL_law_107 rfl [0, 1, 2, 3, 4, 5, 6, 7, 8, 9, 10, 11] [12, 13, 14, 15, 16, 17, 18, 19, 20, 21, 22, 23, 24, 25, 26, 27, 28] rfl rfl rfl rfl (by decide) ?_
  refine vr_icmp_eq (tgt := 681) hF dL_law_110 (by decide) rfl (fun c_0 => ?_) (fun c_0 => ?_)
  · exact hk _ _ _ _ _ _ _ _ ((sr_rec hs (xs (i + 1))).2)
  · exact absurd (by rw [(sr_rec hs (xs (i + 1))).1, hs.1]) c_0
set_option maxHeartbeats 4000000 in
set_option maxRecDepth 100000 in
theorem law_c1 {p : Program} {l : Launch} {e : Env} {s : State} {m : MethodId} {below : List Frame} {meth : Method} {c : Code} {b L : Nat} {xs : Nat → Int32} {g : vr_G} {a a' : Nat → Nat} (hF : vr_F p s m c code 4 #[Value.ref b] vr_T RL g.1 (vr_tys g) (fun q : Nat => s.heap.size ≤ q)) (hX : va_X b L xs s s.heap) (hbl : b < s.heap.size) (hbA : ¬ (fun q : Nat => s.heap.size ≤ q) b) (hL : L ≤ 4608) (i : Nat) (hi : i + 9 ≤ L) (r : vx_R) (t : vx_A) (w : Nat → Int64) (bb : vx_B) (r' : vx_R) (t' : vm_A) (w' : Nat → Bool) (bb' : vx_B) (hs : sr r t w bb r' t' w' bb')
    (hk : ∀ (r : vx_R) (t : vx_A) (w : Nat → Int64) (bb : vx_B) (r' : vx_R) (t' : vm_A) (w' : Nat → Bool) (bb' : vx_B), sr r t w bb r' t' w' bb' → vr_W p l e room_1 s m #[Value.ref b] below meth c g.1 (fun q : Nat => s.heap.size ≤ q) 4 29 44380 (lw_Z below #[Value.ref b] s) (vx_w g a r t w bb ++ vm_w g a' r' t' w' bb') 681 [(0, .ref b), (1, .ref (a 0)), (2, .ref (a' 0)), (3, .int (nI i))] []) : vr_W p l e room_1 s m #[Value.ref b] below meth c g.1 (fun q : Nat => s.heap.size ≤ q) 4 29 44380 (lw_Z below #[Value.ref b] s) (vx_w g a r t w bb ++ vm_w g a' r' t' w' bb') 115 [(0, .ref b), (1, .ref (a 0)), (2, .ref (a' 0)), (3, .int (nI i))] [] := by
  refine vr_aload_n hF 1 rfl dL_law_115 rfl rfl ?_
  refine vr_aload_n hF 0 rfl dL_law_116 rfl rfl ?_
  refine vr_iload_n hF 3 rfl dL_law_117 rfl rfl ?_
  refine vr_iconst (v := nI 1) hF dL_law_118 (by decide +kernel) rfl ?_
  refine vr_iadd (v := nI (i + 1)) hF dL_law_119 (nI_add i 1) rfl ?_
  refine vr_sld (i := i + 1) hF hX hbl hbA (by omega) (by omega) dL_law_120 rfl ?_
  refine vr_aload_n hF 0 rfl dL_law_121 rfl rfl ?_
  refine vr_iload_n hF 3 rfl dL_law_122 rfl rfl ?_
  refine vr_iconst (v := nI 2) hF dL_law_123 (by decide +kernel) rfl ?_
  refine vr_iadd (v := nI (i + 2)) hF dL_law_124 (nI_add i 2) rfl ?_
  refine vr_sld (i := i + 2) hF hX hbl hbA (by omega) (by omega) dL_law_125 rfl ?_
  refine vr_aload_n hF 0 rfl dL_law_126 rfl rfl ?_
  refine vr_iload_n hF 3 rfl dL_law_127 rfl rfl ?_
  refine vr_iconst (v := nI 3) hF dL_law_128 (by decide +kernel) rfl ?_
  refine vr_iadd (v := nI (i + 3)) hF dL_law_129 (nI_add i 3) rfl ?_
  refine vr_sld (i := i + 3) hF hX hbl hbA (by omega) (by omega) dL_law_130 rfl ?_
  refine vr_i2l (v := (xs (i + 3)).toInt64) hF dL_law_131 rfl rfl ?_
  refine vr_bipush (v := nI 32) hF dL_law_132 (by decide +kernel) rfl ?_
  refine vr_lshl (v := ((xs (i + 3)).toInt64) <<< ((nI 32).toInt64 &&& 63)) hF dL_law_134 rfl rfl ?_
  refine vr_aload_n hF 0 rfl dL_law_135 rfl rfl ?_
  refine vr_iload_n hF 3 rfl dL_law_136 rfl rfl ?_
  refine vr_iconst (v := nI 4) hF dL_law_137 (by decide +kernel) rfl ?_
  refine vr_iadd (v := nI (i + 4)) hF dL_law_138 (nI_add i 4) rfl ?_
  refine vr_sld (i := i + 4) hF hX hbl hbA (by omega) (by omega) dL_law_139 rfl ?_
  refine vr_i2l (v := (xs (i + 4)).toInt64) hF dL_law_140 rfl rfl ?_
  refine vr_ldc2 (v := 4294967295) hF kL_18 dL_law_141 rfl ?_
  refine vr_land (v := ((xs (i + 4)).toInt64) &&& 4294967295) hF dL_law_144 rfl rfl ?_
  refine vr_lor (v := (((xs (i + 3)).toInt64) <<< ((nI 32).toInt64 &&& 63)) ||| (((xs (i + 4)).toInt64) &&& 4294967295)) hF dL_law_145 rfl rfl ?_
  refine vr_aload_n hF 0 rfl dL_law_146 rfl rfl ?_
  refine vr_iload_n hF 3 rfl dL_law_147 rfl rfl ?_
  refine vr_iconst (v := nI 5) hF dL_law_148 (by decide +kernel) rfl ?_
  refine vr_iadd (v := nI (i + 5)) hF dL_law_149 (nI_add i 5) rfl ?_
  refine vr_sld (i := i + 5) hF hX hbl hbA (by omega) (by omega) dL_law_150 rfl ?_
  refine vr_i2l (v := (xs (i + 5)).toInt64) hF dL_law_151 rfl rfl ?_
  refine vr_bipush (v := nI 32) hF dL_law_152 (by decide +kernel) rfl ?_
  refine vr_lshl (v := ((xs (i + 5)).toInt64) <<< ((nI 32).toInt64 &&& 63)) hF dL_law_154 rfl rfl ?_
  refine vr_aload_n hF 0 rfl dL_law_155 rfl rfl ?_
  refine vr_iload_n hF 3 rfl dL_law_156 rfl rfl ?_
  refine vr_bipush (v := nI 6) hF dL_law_157 (by decide +kernel) rfl ?_
  refine vr_iadd (v := nI (i + 6)) hF dL_law_159 (nI_add i 6) rfl ?_
  refine vr_sld (i := i + 6) hF hX hbl hbA (by omega) (by omega) dL_law_160 rfl ?_
  refine vr_i2l (v := (xs (i + 6)).toInt64) hF dL_law_161 rfl rfl ?_
  refine vr_ldc2 (v := 4294967295) hF kL_18 dL_law_162 rfl ?_
  refine vr_land (v := ((xs (i + 6)).toInt64) &&& 4294967295) hF dL_law_165 rfl rfl ?_
  refine vr_lor (v := (((xs (i + 5)).toInt64) <<< ((nI 32).toInt64 &&& 63)) ||| (((xs (i + 6)).toInt64) &&& 4294967295)) hF dL_law_166 rfl rfl ?_
  refine vr_aload_n hF 0 rfl dL_law_167 rfl rfl ?_
  refine vr_iload_n hF 3 rfl dL_law_168 rfl rfl ?_
  refine vr_bipush (v := nI 7) hF dL_law_169 (by decide +kernel) rfl ?_
  refine vr_iadd (v := nI (i + 7)) hF dL_law_171 (nI_add i 7) rfl ?_
  refine vr_sld (i := i + 7) hF hX hbl hbA (by omega) (by omega) dL_law_172 rfl ?_
  refine vr_i2l (v := (xs (i + 7)).toInt64) hF dL_law_173 rfl rfl ?_
  refine vr_bipush (v := nI 32) hF dL_law_174 (by decide +kernel) rfl ?_
  refine vr_lshl (v := ((xs (i + 7)).toInt64) <<< ((nI 32).toInt64 &&& 63)) hF dL_law_176 rfl rfl ?_
  refine vr_aload_n hF 0 rfl dL_law_177 rfl rfl ?_
  refine vr_iload_n hF 3 rfl dL_law_178 rfl rfl ?_
  refine vr_bipush (v := nI 8) hF dL_law_179 (by decide +kernel) rfl ?_
  refine vr_iadd (v := nI (i + 8)) hF dL_law_181 (nI_add i 8) rfl ?_
  refine vr_sld (i := i + 8) hF hX hbl hbA (by omega) (by omega) dL_law_182 rfl ?_
  refine vr_i2l (v := (xs (i + 8)).toInt64) hF dL_law_183 rfl rfl ?_
  refine vr_ldc2 (v := 4294967295) hF kL_18 dL_law_184 rfl ?_
  refine vr_land (v := ((xs (i + 8)).toInt64) &&& 4294967295) hF dL_law_187 rfl rfl ?_
  refine vr_lor (v := (((xs (i + 7)).toInt64) <<< ((nI 32).toInt64 &&& 63)) ||| (((xs (i + 8)).toInt64) &&& 4294967295)) hF dL_law_188 rfl rfl ?_
  refine vr_partV_Ci (pre := vx_w g a r t w bb) (wr := vm_w g a' r' t' w' bb') (rest := []) (n0 := 5) hF (xc_V_act l g a r t w bb (xs (i + 1)) (xs (i + 2)) ((((xs (i + 3)).toInt64) <<< ((nI 32).toInt64 &&& 63)) ||| (((xs (i + 4)).toInt64) &&& 4294967295)) ((((xs (i + 5)).toInt64) <<< ((nI 32).toInt64 &&& 63)) ||| (((xs (i + 6)).toInt64) &&& 4294967295)) ((((xs (i + 7)).toInt64) <<< ((nI 32).toInt64 &&& 63)) ||| (((xs (i + 8)).toInt64) &&& 4294967295)) (sr_ok hs)) (vr_gV vr_hb0 mlL_20 imX4_act seX4_act iniX4 cdX4_act) rfl (by decide +kernel) rfl rfl rfl ⟨Nat.le_of_ble_eq_true rfl, Nat.le_of_ble_eq_true rfl⟩ ⟨Nat.le_of_ble_eq_true rfl, Nat.le_of_ble_eq_true rfl⟩ 0 rfl rfl rfl (Nat.le_of_ble_eq_true rfl) dL_law_189 rfl [0, 1, 2, 3, 4, 5, 6, 7, 8, 9, 10, 11, 12, 13, 14, 15, 16] [17, 18, 19, 20, 21, 22, 23, 24, 25, 26, 27, 28] rfl rfl rfl rfl (by decide) ?_
  refine vr_aload_n hF 2 rfl dL_law_192 rfl rfl ?_
  refine vr_aload_n hF 0 rfl dL_law_193 rfl rfl ?_
  refine vr_iload_n hF 3 rfl dL_law_194 rfl rfl ?_
  refine vr_iconst (v := nI 1) hF dL_law_195 (by decide +kernel) rfl ?_
  refine vr_iadd (v := nI (i + 1)) hF dL_law_196 (nI_add i 1) rfl ?_
  refine vr_sld (i := i + 1) hF hX hbl hbA (by omega) (by omega) dL_law_197 rfl ?_
  refine vr_aload_n hF 0 rfl dL_law_198 rfl rfl ?_
  refine vr_iload_n hF 3 rfl dL_law_199 rfl rfl ?_
  refine vr_iconst (v := nI 2) hF dL_law_200 (by decide +kernel) rfl ?_
  refine vr_iadd (v := nI (i + 2)) hF dL_law_201 (nI_add i 2) rfl ?_
  refine vr_sld (i := i + 2) hF hX hbl hbA (by omega) (by omega) dL_law_202 rfl ?_
  refine vr_aload_n hF 0 rfl dL_law_203 rfl rfl ?_
  refine vr_iload_n hF 3 rfl dL_law_204 rfl rfl ?_
  refine vr_iconst (v := nI 3) hF dL_law_205 (by decide +kernel) rfl ?_
  refine vr_iadd (v := nI (i + 3)) hF dL_law_206 (nI_add i 3) rfl ?_
  refine vr_sld (i := i + 3) hF hX hbl hbA (by omega) (by omega) dL_law_207 rfl ?_
  refine vr_i2l (v := (xs (i + 3)).toInt64) hF dL_law_208 rfl rfl ?_
  refine vr_bipush (v := nI 32) hF dL_law_209 (by decide +kernel) rfl ?_
  refine vr_lshl (v := ((xs (i + 3)).toInt64) <<< ((nI 32).toInt64 &&& 63)) hF dL_law_211 rfl rfl ?_
  refine vr_aload_n hF 0 rfl dL_law_212 rfl rfl ?_
  refine vr_iload_n hF 3 rfl dL_law_213 rfl rfl ?_
  refine vr_iconst (v := nI 4) hF dL_law_214 (by decide +kernel) rfl ?_
  refine vr_iadd (v := nI (i + 4)) hF dL_law_215 (nI_add i 4) rfl ?_
  refine vr_sld (i := i + 4) hF hX hbl hbA (by omega) (by omega) dL_law_216 rfl ?_
  refine vr_i2l (v := (xs (i + 4)).toInt64) hF dL_law_217 rfl rfl ?_
  refine vr_ldc2 (v := 4294967295) hF kL_18 dL_law_218 rfl ?_
  refine vr_land (v := ((xs (i + 4)).toInt64) &&& 4294967295) hF dL_law_221 rfl rfl ?_
  refine vr_lor (v := (((xs (i + 3)).toInt64) <<< ((nI 32).toInt64 &&& 63)) ||| (((xs (i + 4)).toInt64) &&& 4294967295)) hF dL_law_222 rfl rfl ?_
  refine vr_aload_n hF 0 rfl dL_law_223 rfl rfl ?_
  refine vr_iload_n hF 3 rfl dL_law_224 rfl rfl ?_
  refine vr_iconst (v := nI 5) hF dL_law_225 (by decide +kernel) rfl ?_
  refine vr_iadd (v := nI (i + 5)) hF dL_law_226 (nI_add i 5) rfl ?_
  refine vr_sld (i := i + 5) hF hX hbl hbA (by omega) (by omega) dL_law_227 rfl ?_
  refine vr_i2l (v := (xs (i + 5)).toInt64) hF dL_law_228 rfl rfl ?_
  refine vr_bipush (v := nI 32) hF dL_law_229 (by decide +kernel) rfl ?_
  refine vr_lshl (v := ((xs (i + 5)).toInt64) <<< ((nI 32).toInt64 &&& 63)) hF dL_law_231 rfl rfl ?_
  refine vr_aload_n hF 0 rfl dL_law_232 rfl rfl ?_
  refine vr_iload_n hF 3 rfl dL_law_233 rfl rfl ?_
  refine vr_bipush (v := nI 6) hF dL_law_234 (by decide +kernel) rfl ?_
  refine vr_iadd (v := nI (i + 6)) hF dL_law_236 (nI_add i 6) rfl ?_
  refine vr_sld (i := i + 6) hF hX hbl hbA (by omega) (by omega) dL_law_237 rfl ?_
  refine vr_i2l (v := (xs (i + 6)).toInt64) hF dL_law_238 rfl rfl ?_
  refine vr_ldc2 (v := 4294967295) hF kL_18 dL_law_239 rfl ?_
  refine vr_land (v := ((xs (i + 6)).toInt64) &&& 4294967295) hF dL_law_242 rfl rfl ?_
  refine vr_lor (v := (((xs (i + 5)).toInt64) <<< ((nI 32).toInt64 &&& 63)) ||| (((xs (i + 6)).toInt64) &&& 4294967295)) hF dL_law_243 rfl rfl ?_
  refine vr_aload_n hF 0 rfl dL_law_244 rfl rfl ?_
  refine vr_iload_n hF 3 rfl dL_law_245 rfl rfl ?_
  refine vr_bipush (v := nI 7) hF dL_law_246 (by decide +kernel) rfl ?_
  refine vr_iadd (v := nI (i + 7)) hF dL_law_248 (nI_add i 7) rfl ?_
  refine vr_sld (i := i + 7) hF hX hbl hbA (by omega) (by omega) dL_law_249 rfl ?_
  refine vr_i2l (v := (xs (i + 7)).toInt64) hF dL_law_250 rfl rfl ?_
  refine vr_bipush (v := nI 32) hF dL_law_251 (by decide +kernel) rfl ?_
  refine vr_lshl (v := ((xs (i + 7)).toInt64) <<< ((nI 32).toInt64 &&& 63)) hF dL_law_253 rfl rfl ?_
  refine vr_aload_n hF 0 rfl dL_law_254 rfl rfl ?_
  refine vr_iload_n hF 3 rfl dL_law_255 rfl rfl ?_
  refine vr_bipush (v := nI 8) hF dL_law_256 (by decide +kernel) rfl ?_
  refine vr_iadd (v := nI (i + 8)) hF dL_law_258 (nI_add i 8) rfl ?_
  refine vr_sld (i := i + 8) hF hX hbl hbA (by omega) (by omega) dL_law_259 rfl ?_
  refine vr_i2l (v := (xs (i + 8)).toInt64) hF dL_law_260 rfl rfl ?_
  refine vr_ldc2 (v := 4294967295) hF kL_18 dL_law_261 rfl ?_
  refine vr_land (v := ((xs (i + 8)).toInt64) &&& 4294967295) hF dL_law_264 rfl rfl ?_
  refine vr_lor (v := (((xs (i + 7)).toInt64) <<< ((nI 32).toInt64 &&& 63)) ||| (((xs (i + 8)).toInt64) &&& 4294967295)) hF dL_law_265 rfl rfl ?_
  refine vr_partV_Ci (pre := vm_w g a' r' t' w' bb') (wr := vx_w g a r (xv_actT r t (xs (i + 1)) (xs (i + 2)) ((((xs (i + 3)).toInt64) <<< ((nI 32).toInt64 &&& 63)) ||| (((xs (i + 4)).toInt64) &&& 4294967295)) ((((xs (i + 5)).toInt64) <<< ((nI 32).toInt64 &&& 63)) ||| (((xs (i + 6)).toInt64) &&& 4294967295)) ((((xs (i + 7)).toInt64) <<< ((nI 32).toInt64 &&& 63)) ||| (((xs (i + 8)).toInt64) &&& 4294967295))) w bb) (rest := [.int (nI (xv_actN r t (xs (i + 1)) (xs (i + 2)) ((((xs (i + 3)).toInt64) <<< ((nI 32).toInt64 &&& 63)) ||| (((xs (i + 4)).toInt64) &&& 4294967295)) ((((xs (i + 5)).toInt64) <<< ((nI 32).toInt64 &&& 63)) ||| (((xs (i + 6)).toInt64) &&& 4294967295)) ((((xs (i + 7)).toInt64) <<< ((nI 32).toInt64 &&& 63)) ||| (((xs (i + 8)).toInt64) &&& 4294967295))))]) (n0 := 5) hF (xc_VModel_act l g a' r' t' w' bb' (xs (i + 1)) (xs (i + 2)) ((((xs (i + 3)).toInt64) <<< ((nI 32).toInt64 &&& 63)) ||| (((xs (i + 4)).toInt64) &&& 4294967295)) ((((xs (i + 5)).toInt64) <<< ((nI 32).toInt64 &&& 63)) ||| (((xs (i + 6)).toInt64) &&& 4294967295)) ((((xs (i + 7)).toInt64) <<< ((nI 32).toInt64 &&& 63)) ||| (((xs (i + 8)).toInt64) &&& 4294967295)) (sr_mok hs)) (vr_gV vr_hb0 mlL_24 imX5_act seX5_act iniX5 cdX5_act) rfl (by decide +kernel) rfl rfl rfl ⟨Nat.le_of_ble_eq_true rfl, Nat.le_of_ble_eq_true rfl⟩ ⟨Nat.le_of_ble_eq_true rfl, Nat.le_of_ble_eq_true rfl⟩ 0 rfl rfl rfl (Nat.le_of_ble_eq_true rfl) dL_law_266 rfl [0, 1, 2, 3, 4, 5, 6, 7, 8, 9, 10, 11] [12, 13, 14, 15, 16, 17, 18, 19, 20, 21, 22, 23, 24, 25, 26, 27, 28] rfl rfl rfl rfl (by decide) ?_
  refine vr_icmp_eq (tgt := 681) hF dL_law_269 (by decide) rfl (fun c_0 => ?_) (fun c_0 => ?_)
  · exact hk _ _ _ _ _ _ _ _ ((sr_act hs (xs (i + 1)) (xs (i + 2)) ((((xs (i + 3)).toInt64) <<< ((nI 32).toInt64 &&& 63)) ||| (((xs (i + 4)).toInt64) &&& 4294967295)) ((((xs (i + 5)).toInt64) <<< ((nI 32).toInt64 &&& 63)) ||| (((xs (i + 6)).toInt64) &&& 4294967295)) ((((xs (i + 7)).toInt64) <<< ((nI 32).toInt64 &&& 63)) ||| (((xs (i + 8)).toInt64) &&& 4294967295))).2)
  · exact absurd (by rw [(sr_act hs (xs (i + 1)) (xs (i + 2)) ((((xs (i + 3)).toInt64) <<< ((nI 32).toInt64 &&& 63)) ||| (((xs (i + 4)).toInt64) &&& 4294967295)) ((((xs (i + 5)).toInt64) <<< ((nI 32).toInt64 &&& 63)) ||| (((xs (i + 6)).toInt64) &&& 4294967295)) ((((xs (i + 7)).toInt64) <<< ((nI 32).toInt64 &&& 63)) ||| (((xs (i + 8)).toInt64) &&& 4294967295))).1]) c_0
set_option maxHeartbeats 4000000 in
set_option maxRecDepth 100000 in
theorem law_c2 {p : Program} {l : Launch} {e : Env} {s : State} {m : MethodId} {below : List Frame} {meth : Method} {c : Code} {b L : Nat} {xs : Nat → Int32} {g : vr_G} {a a' : Nat → Nat} (hF : vr_F p s m c code 4 #[Value.ref b] vr_T RL g.1 (vr_tys g) (fun q : Nat => s.heap.size ≤ q)) (hX : va_X b L xs s s.heap) (hbl : b < s.heap.size) (hbA : ¬ (fun q : Nat => s.heap.size ≤ q) b) (hL : L ≤ 4608) (i : Nat) (hi : i + 9 ≤ L) (r : vx_R) (t : vx_A) (w : Nat → Int64) (bb : vx_B) (r' : vx_R) (t' : vm_A) (w' : Nat → Bool) (bb' : vx_B) (hs : sr r t w bb r' t' w' bb')
    (hk : ∀ (r : vx_R) (t : vx_A) (w : Nat → Int64) (bb : vx_B) (r' : vx_R) (t' : vm_A) (w' : Nat → Bool) (bb' : vx_B), sr r t w bb r' t' w' bb' → vr_W p l e room_1 s m #[Value.ref b] below meth c g.1 (fun q : Nat => s.heap.size ≤ q) 4 29 44380 (lw_Z below #[Value.ref b] s) (vx_w g a r t w bb ++ vm_w g a' r' t' w' bb') 681 [(0, .ref b), (1, .ref (a 0)), (2, .ref (a' 0)), (3, .int (nI i))] []) : vr_W p l e room_1 s m #[Value.ref b] below meth c g.1 (fun q : Nat => s.heap.size ≤ q) 4 29 44380 (lw_Z below #[Value.ref b] s) (vx_w g a r t w bb ++ vm_w g a' r' t' w' bb') 274 [(0, .ref b), (1, .ref (a 0)), (2, .ref (a' 0)), (3, .int (nI i))] [] := by
  refine vr_aload_n hF 1 rfl dL_law_274 rfl rfl ?_
  refine vr_aload_n hF 0 rfl dL_law_275 rfl rfl ?_
  refine vr_iload_n hF 3 rfl dL_law_276 rfl rfl ?_
  refine vr_iconst (v := nI 1) hF dL_law_277 (by decide +kernel) rfl ?_
  refine vr_iadd (v := nI (i + 1)) hF dL_law_278 (nI_add i 1) rfl ?_
  refine vr_sld (i := i + 1) hF hX hbl hbA (by omega) (by omega) dL_law_279 rfl ?_
  refine vr_aload_n hF 0 rfl dL_law_280 rfl rfl ?_
  refine vr_iload_n hF 3 rfl dL_law_281 rfl rfl ?_
  refine vr_iconst (v := nI 2) hF dL_law_282 (by decide +kernel) rfl ?_
  refine vr_iadd (v := nI (i + 2)) hF dL_law_283 (nI_add i 2) rfl ?_
  refine vr_sld (i := i + 2) hF hX hbl hbA (by omega) (by omega) dL_law_284 rfl ?_
  refine vr_aload_n hF 0 rfl dL_law_285 rfl rfl ?_
  refine vr_iload_n hF 3 rfl dL_law_286 rfl rfl ?_
  refine vr_iconst (v := nI 3) hF dL_law_287 (by decide +kernel) rfl ?_
  refine vr_iadd (v := nI (i + 3)) hF dL_law_288 (nI_add i 3) rfl ?_
  refine vr_sld (i := i + 3) hF hX hbl hbA (by omega) (by omega) dL_law_289 rfl ?_
  refine vr_i2l (v := (xs (i + 3)).toInt64) hF dL_law_290 rfl rfl ?_
  refine vr_bipush (v := nI 32) hF dL_law_291 (by decide +kernel) rfl ?_
  refine vr_lshl (v := ((xs (i + 3)).toInt64) <<< ((nI 32).toInt64 &&& 63)) hF dL_law_293 rfl rfl ?_
  refine vr_aload_n hF 0 rfl dL_law_294 rfl rfl ?_
  refine vr_iload_n hF 3 rfl dL_law_295 rfl rfl ?_
  refine vr_iconst (v := nI 4) hF dL_law_296 (by decide +kernel) rfl ?_
  refine vr_iadd (v := nI (i + 4)) hF dL_law_297 (nI_add i 4) rfl ?_
  refine vr_sld (i := i + 4) hF hX hbl hbA (by omega) (by omega) dL_law_298 rfl ?_
  refine vr_i2l (v := (xs (i + 4)).toInt64) hF dL_law_299 rfl rfl ?_
  refine vr_ldc2 (v := 4294967295) hF kL_18 dL_law_300 rfl ?_
  refine vr_land (v := ((xs (i + 4)).toInt64) &&& 4294967295) hF dL_law_303 rfl rfl ?_
  refine vr_lor (v := (((xs (i + 3)).toInt64) <<< ((nI 32).toInt64 &&& 63)) ||| (((xs (i + 4)).toInt64) &&& 4294967295)) hF dL_law_304 rfl rfl ?_
  refine vr_partV_Ci (pre := vx_w g a r t w bb) (wr := vm_w g a' r' t' w' bb') (rest := []) (n0 := 3) hF (xc_V_at l g a r t w bb (xs (i + 1)) (xs (i + 2)) ((((xs (i + 3)).toInt64) <<< ((nI 32).toInt64 &&& 63)) ||| (((xs (i + 4)).toInt64) &&& 4294967295)) (sr_ok hs)) (vr_gV vr_hb0 mlL_25 imX4_at seX4_at iniX4 cdX4_at) rfl (by decide +kernel) rfl rfl rfl ⟨Nat.le_of_ble_eq_true rfl, Nat.le_of_ble_eq_true rfl⟩ ⟨Nat.le_of_ble_eq_true rfl, Nat.le_of_ble_eq_true rfl⟩ 0 rfl rfl rfl (Nat.le_of_ble_eq_true rfl) dL_law_305 rfl [0, 1, 2, 3, 4, 5, 6, 7, 8, 9, 10, 11, 12, 13, 14, 15, 16] [17, 18, 19, 20, 21, 22, 23, 24, 25, 26, 27, 28] rfl rfl rfl rfl (by decide) ?_
  refine vr_aload_n hF 2 rfl dL_law_308 rfl rfl ?_
  refine vr_aload_n hF 0 rfl dL_law_309 rfl rfl ?_
  refine vr_iload_n hF 3 rfl dL_law_310 rfl rfl ?_
  refine vr_iconst (v := nI 1) hF dL_law_311 (by decide +kernel) rfl ?_
  refine vr_iadd (v := nI (i + 1)) hF dL_law_312 (nI_add i 1) rfl ?_
  refine vr_sld (i := i + 1) hF hX hbl hbA (by omega) (by omega) dL_law_313 rfl ?_
  refine vr_aload_n hF 0 rfl dL_law_314 rfl rfl ?_
  refine vr_iload_n hF 3 rfl dL_law_315 rfl rfl ?_
  refine vr_iconst (v := nI 2) hF dL_law_316 (by decide +kernel) rfl ?_
  refine vr_iadd (v := nI (i + 2)) hF dL_law_317 (nI_add i 2) rfl ?_
  refine vr_sld (i := i + 2) hF hX hbl hbA (by omega) (by omega) dL_law_318 rfl ?_
  refine vr_aload_n hF 0 rfl dL_law_319 rfl rfl ?_
  refine vr_iload_n hF 3 rfl dL_law_320 rfl rfl ?_
  refine vr_iconst (v := nI 3) hF dL_law_321 (by decide +kernel) rfl ?_
  refine vr_iadd (v := nI (i + 3)) hF dL_law_322 (nI_add i 3) rfl ?_
  refine vr_sld (i := i + 3) hF hX hbl hbA (by omega) (by omega) dL_law_323 rfl ?_
  refine vr_i2l (v := (xs (i + 3)).toInt64) hF dL_law_324 rfl rfl ?_
  refine vr_bipush (v := nI 32) hF dL_law_325 (by decide +kernel) rfl ?_
  refine vr_lshl (v := ((xs (i + 3)).toInt64) <<< ((nI 32).toInt64 &&& 63)) hF dL_law_327 rfl rfl ?_
  refine vr_aload_n hF 0 rfl dL_law_328 rfl rfl ?_
  refine vr_iload_n hF 3 rfl dL_law_329 rfl rfl ?_
  refine vr_iconst (v := nI 4) hF dL_law_330 (by decide +kernel) rfl ?_
  refine vr_iadd (v := nI (i + 4)) hF dL_law_331 (nI_add i 4) rfl ?_
  refine vr_sld (i := i + 4) hF hX hbl hbA (by omega) (by omega) dL_law_332 rfl ?_
  refine vr_i2l (v := (xs (i + 4)).toInt64) hF dL_law_333 rfl rfl ?_
  refine vr_ldc2 (v := 4294967295) hF kL_18 dL_law_334 rfl ?_
  refine vr_land (v := ((xs (i + 4)).toInt64) &&& 4294967295) hF dL_law_337 rfl rfl ?_
  refine vr_lor (v := (((xs (i + 3)).toInt64) <<< ((nI 32).toInt64 &&& 63)) ||| (((xs (i + 4)).toInt64) &&& 4294967295)) hF dL_law_338 rfl rfl ?_
  refine vr_partV_Ci (pre := vm_w g a' r' t' w' bb') (wr := vx_w g a r t w bb) (rest := [.int (xv_at r t (xs (i + 1)) (xs (i + 2)) ((((xs (i + 3)).toInt64) <<< ((nI 32).toInt64 &&& 63)) ||| (((xs (i + 4)).toInt64) &&& 4294967295)))]) (n0 := 3) hF (xc_VModel_at l g a' r' t' w' bb' (xs (i + 1)) (xs (i + 2)) ((((xs (i + 3)).toInt64) <<< ((nI 32).toInt64 &&& 63)) ||| (((xs (i + 4)).toInt64) &&& 4294967295)) (sr_mok hs)) (vr_gV vr_hb0 mlL_29 imX5_at seX5_at iniX5 cdX5_at) rfl (by decide +kernel) rfl rfl rfl ⟨Nat.le_of_ble_eq_true rfl, Nat.le_of_ble_eq_true rfl⟩ ⟨Nat.le_of_ble_eq_true rfl, Nat.le_of_ble_eq_true rfl⟩ 0 rfl rfl rfl (Nat.le_of_ble_eq_true rfl) dL_law_339 rfl [0, 1, 2, 3, 4, 5, 6, 7, 8, 9, 10, 11] [12, 13, 14, 15, 16, 17, 18, 19, 20, 21, 22, 23, 24, 25, 26, 27, 28] rfl rfl rfl rfl (by decide) ?_
  refine vr_icmp_eq (tgt := 681) hF dL_law_342 (by decide) rfl (fun c_0 => ?_) (fun c_0 => ?_)
  · exact hk _ _ _ _ _ _ _ _ (hs)
  · exact absurd ((sr_at hs (xs (i + 1)) (xs (i + 2)) ((((xs (i + 3)).toInt64) <<< ((nI 32).toInt64 &&& 63)) ||| (((xs (i + 4)).toInt64) &&& 4294967295))).symm) c_0
set_option maxHeartbeats 4000000 in
set_option maxRecDepth 100000 in
theorem law_c3 {p : Program} {l : Launch} {e : Env} {s : State} {m : MethodId} {below : List Frame} {meth : Method} {c : Code} {b L : Nat} {xs : Nat → Int32} {g : vr_G} {a a' : Nat → Nat} (hF : vr_F p s m c code 4 #[Value.ref b] vr_T RL g.1 (vr_tys g) (fun q : Nat => s.heap.size ≤ q)) (hX : va_X b L xs s s.heap) (hbl : b < s.heap.size) (hbA : ¬ (fun q : Nat => s.heap.size ≤ q) b) (hL : L ≤ 4608) (i : Nat) (hi : i + 9 ≤ L) (r : vx_R) (t : vx_A) (w : Nat → Int64) (bb : vx_B) (r' : vx_R) (t' : vm_A) (w' : Nat → Bool) (bb' : vx_B) (hs : sr r t w bb r' t' w' bb')
    (hk : ∀ (r : vx_R) (t : vx_A) (w : Nat → Int64) (bb : vx_B) (r' : vx_R) (t' : vm_A) (w' : Nat → Bool) (bb' : vx_B), sr r t w bb r' t' w' bb' → vr_W p l e room_1 s m #[Value.ref b] below meth c g.1 (fun q : Nat => s.heap.size ≤ q) 4 29 44380 (lw_Z below #[Value.ref b] s) (vx_w g a r t w bb ++ vm_w g a' r' t' w' bb') 681 [(0, .ref b), (1, .ref (a 0)), (2, .ref (a' 0)), (3, .int (nI i))] []) : vr_W p l e room_1 s m #[Value.ref b] below meth c g.1 (fun q : Nat => s.heap.size ≤ q) 4 29 44380 (lw_Z below #[Value.ref b] s) (vx_w g a r t w bb ++ vm_w g a' r' t' w' bb') 347 [(0, .ref b), (1, .ref (a 0)), (2, .ref (a' 0)), (3, .int (nI i))] [] := by
  refine vr_aload_n hF 1 rfl dL_law_347 rfl rfl ?_
  refine vr_aload_n hF 0 rfl dL_law_348 rfl rfl ?_
  refine vr_iload_n hF 3 rfl dL_law_349 rfl rfl ?_
  refine vr_iconst (v := nI 1) hF dL_law_350 (by decide +kernel) rfl ?_
  refine vr_iadd (v := nI (i + 1)) hF dL_law_351 (nI_add i 1) rfl ?_
  refine vr_sld (i := i + 1) hF hX hbl hbA (by omega) (by omega) dL_law_352 rfl ?_
  refine vr_aload_n hF 0 rfl dL_law_353 rfl rfl ?_
  refine vr_iload_n hF 3 rfl dL_law_354 rfl rfl ?_
  refine vr_iconst (v := nI 2) hF dL_law_355 (by decide +kernel) rfl ?_
  refine vr_iadd (v := nI (i + 2)) hF dL_law_356 (nI_add i 2) rfl ?_
  refine vr_sld (i := i + 2) hF hX hbl hbA (by omega) (by omega) dL_law_357 rfl ?_
  refine vr_i2l (v := (xs (i + 2)).toInt64) hF dL_law_358 rfl rfl ?_
  refine vr_bipush (v := nI 32) hF dL_law_359 (by decide +kernel) rfl ?_
  refine vr_lshl (v := ((xs (i + 2)).toInt64) <<< ((nI 32).toInt64 &&& 63)) hF dL_law_361 rfl rfl ?_
  refine vr_aload_n hF 0 rfl dL_law_362 rfl rfl ?_
  refine vr_iload_n hF 3 rfl dL_law_363 rfl rfl ?_
  refine vr_iconst (v := nI 3) hF dL_law_364 (by decide +kernel) rfl ?_
  refine vr_iadd (v := nI (i + 3)) hF dL_law_365 (nI_add i 3) rfl ?_
  refine vr_sld (i := i + 3) hF hX hbl hbA (by omega) (by omega) dL_law_366 rfl ?_
  refine vr_i2l (v := (xs (i + 3)).toInt64) hF dL_law_367 rfl rfl ?_
  refine vr_ldc2 (v := 4294967295) hF kL_18 dL_law_368 rfl ?_
  refine vr_land (v := ((xs (i + 3)).toInt64) &&& 4294967295) hF dL_law_371 rfl rfl ?_
  refine vr_lor (v := (((xs (i + 2)).toInt64) <<< ((nI 32).toInt64 &&& 63)) ||| (((xs (i + 3)).toInt64) &&& 4294967295)) hF dL_law_372 rfl rfl ?_
  refine vr_aload_n hF 0 rfl dL_law_373 rfl rfl ?_
  refine vr_iload_n hF 3 rfl dL_law_374 rfl rfl ?_
  refine vr_iconst (v := nI 4) hF dL_law_375 (by decide +kernel) rfl ?_
  refine vr_iadd (v := nI (i + 4)) hF dL_law_376 (nI_add i 4) rfl ?_
  refine vr_sld (i := i + 4) hF hX hbl hbA (by omega) (by omega) dL_law_377 rfl ?_
  refine vr_partV_Ci (pre := vx_w g a r t w bb) (wr := vm_w g a' r' t' w' bb') (rest := []) (n0 := 3) hF (xc_V_stale l g a r t w bb (xs (i + 1)) ((((xs (i + 2)).toInt64) <<< ((nI 32).toInt64 &&& 63)) ||| (((xs (i + 3)).toInt64) &&& 4294967295)) (xs (i + 4)) (sr_ok hs)) (vr_gV vr_hb0 mlL_30 imX4_stale seX4_stale iniX4 cdX4_stale) rfl (by decide +kernel) rfl rfl rfl ⟨Nat.le_of_ble_eq_true rfl, Nat.le_of_ble_eq_true rfl⟩ ⟨Nat.le_of_ble_eq_true rfl, Nat.le_of_ble_eq_true rfl⟩ 0 rfl rfl rfl (Nat.le_of_ble_eq_true rfl) dL_law_378 rfl [0, 1, 2, 3, 4, 5, 6, 7, 8, 9, 10, 11, 12, 13, 14, 15, 16] [17, 18, 19, 20, 21, 22, 23, 24, 25, 26, 27, 28] rfl rfl rfl rfl (by decide) ?_
  refine vr_aload_n hF 2 rfl dL_law_381 rfl rfl ?_
  refine vr_aload_n hF 0 rfl dL_law_382 rfl rfl ?_
  refine vr_iload_n hF 3 rfl dL_law_383 rfl rfl ?_
  refine vr_iconst (v := nI 1) hF dL_law_384 (by decide +kernel) rfl ?_
  refine vr_iadd (v := nI (i + 1)) hF dL_law_385 (nI_add i 1) rfl ?_
  refine vr_sld (i := i + 1) hF hX hbl hbA (by omega) (by omega) dL_law_386 rfl ?_
  refine vr_aload_n hF 0 rfl dL_law_387 rfl rfl ?_
  refine vr_iload_n hF 3 rfl dL_law_388 rfl rfl ?_
  refine vr_iconst (v := nI 2) hF dL_law_389 (by decide +kernel) rfl ?_
  refine vr_iadd (v := nI (i + 2)) hF dL_law_390 (nI_add i 2) rfl ?_
  refine vr_sld (i := i + 2) hF hX hbl hbA (by omega) (by omega) dL_law_391 rfl ?_
  refine vr_i2l (v := (xs (i + 2)).toInt64) hF dL_law_392 rfl rfl ?_
  refine vr_bipush (v := nI 32) hF dL_law_393 (by decide +kernel) rfl ?_
  refine vr_lshl (v := ((xs (i + 2)).toInt64) <<< ((nI 32).toInt64 &&& 63)) hF dL_law_395 rfl rfl ?_
  refine vr_aload_n hF 0 rfl dL_law_396 rfl rfl ?_
  refine vr_iload_n hF 3 rfl dL_law_397 rfl rfl ?_
  refine vr_iconst (v := nI 3) hF dL_law_398 (by decide +kernel) rfl ?_
  refine vr_iadd (v := nI (i + 3)) hF dL_law_399 (nI_add i 3) rfl ?_
  refine vr_sld (i := i + 3) hF hX hbl hbA (by omega) (by omega) dL_law_400 rfl ?_
  refine vr_i2l (v := (xs (i + 3)).toInt64) hF dL_law_401 rfl rfl ?_
  refine vr_ldc2 (v := 4294967295) hF kL_18 dL_law_402 rfl ?_
  refine vr_land (v := ((xs (i + 3)).toInt64) &&& 4294967295) hF dL_law_405 rfl rfl ?_
  refine vr_lor (v := (((xs (i + 2)).toInt64) <<< ((nI 32).toInt64 &&& 63)) ||| (((xs (i + 3)).toInt64) &&& 4294967295)) hF dL_law_406 rfl rfl ?_
  refine vr_aload_n hF 0 rfl dL_law_407 rfl rfl ?_
  refine vr_iload_n hF 3 rfl dL_law_408 rfl rfl ?_
  refine vr_iconst (v := nI 4) hF dL_law_409 (by decide +kernel) rfl ?_
  refine vr_iadd (v := nI (i + 4)) hF dL_law_410 (nI_add i 4) rfl ?_
  refine vr_sld (i := i + 4) hF hX hbl hbA (by omega) (by omega) dL_law_411 rfl ?_
  refine vr_partV_Ci (pre := vm_w g a' r' t' w' bb') (wr := vx_w g a r t w bb) (rest := [.int (xv_stale r t (xs (i + 1)) ((((xs (i + 2)).toInt64) <<< ((nI 32).toInt64 &&& 63)) ||| (((xs (i + 3)).toInt64) &&& 4294967295)) (xs (i + 4)))]) (n0 := 3) hF (xc_VModel_stale l g a' r' t' w' bb' (xs (i + 1)) ((((xs (i + 2)).toInt64) <<< ((nI 32).toInt64 &&& 63)) ||| (((xs (i + 3)).toInt64) &&& 4294967295)) (xs (i + 4)) (sr_mok hs)) (vr_gV vr_hb0 mlL_34 imX5_stale seX5_stale iniX5 cdX5_stale) rfl (by decide +kernel) rfl rfl rfl ⟨Nat.le_of_ble_eq_true rfl, Nat.le_of_ble_eq_true rfl⟩ ⟨Nat.le_of_ble_eq_true rfl, Nat.le_of_ble_eq_true rfl⟩ 0 rfl rfl rfl (Nat.le_of_ble_eq_true rfl) dL_law_412 rfl [0, 1, 2, 3, 4, 5, 6, 7, 8, 9, 10, 11] [12, 13, 14, 15, 16, 17, 18, 19, 20, 21, 22, 23, 24, 25, 26, 27, 28] rfl rfl rfl rfl (by decide) ?_
  refine vr_icmp_eq (tgt := 681) hF dL_law_415 (by decide) rfl (fun c_0 => ?_) (fun c_0 => ?_)
  · exact hk _ _ _ _ _ _ _ _ (hs)
  · exact absurd ((sr_stale hs (xs (i + 1)) ((((xs (i + 2)).toInt64) <<< ((nI 32).toInt64 &&& 63)) ||| (((xs (i + 3)).toInt64) &&& 4294967295)) (xs (i + 4))).symm) c_0
set_option maxHeartbeats 4000000 in
set_option maxRecDepth 100000 in
theorem law_c4 {p : Program} {l : Launch} {e : Env} {s : State} {m : MethodId} {below : List Frame} {meth : Method} {c : Code} {b L : Nat} {xs : Nat → Int32} {g : vr_G} {a a' : Nat → Nat} (hF : vr_F p s m c code 4 #[Value.ref b] vr_T RL g.1 (vr_tys g) (fun q : Nat => s.heap.size ≤ q)) (hX : va_X b L xs s s.heap) (hbl : b < s.heap.size) (hbA : ¬ (fun q : Nat => s.heap.size ≤ q) b) (hL : L ≤ 4608) (i : Nat) (hi : i + 9 ≤ L) (r : vx_R) (t : vx_A) (w : Nat → Int64) (bb : vx_B) (r' : vx_R) (t' : vm_A) (w' : Nat → Bool) (bb' : vx_B) (hs : sr r t w bb r' t' w' bb')
    (hk : ∀ (r : vx_R) (t : vx_A) (w : Nat → Int64) (bb : vx_B) (r' : vx_R) (t' : vm_A) (w' : Nat → Bool) (bb' : vx_B), sr r t w bb r' t' w' bb' → vr_W p l e room_1 s m #[Value.ref b] below meth c g.1 (fun q : Nat => s.heap.size ≤ q) 4 29 44380 (lw_Z below #[Value.ref b] s) (vx_w g a r t w bb ++ vm_w g a' r' t' w' bb') 681 [(0, .ref b), (1, .ref (a 0)), (2, .ref (a' 0)), (3, .int (nI i))] []) : vr_W p l e room_1 s m #[Value.ref b] below meth c g.1 (fun q : Nat => s.heap.size ≤ q) 4 29 44380 (lw_Z below #[Value.ref b] s) (vx_w g a r t w bb ++ vm_w g a' r' t' w' bb') 420 [(0, .ref b), (1, .ref (a 0)), (2, .ref (a' 0)), (3, .int (nI i))] [] := by
  refine vr_aload_n hF 1 rfl dL_law_420 rfl rfl ?_
  refine vr_aload_n hF 0 rfl dL_law_421 rfl rfl ?_
  refine vr_iload_n hF 3 rfl dL_law_422 rfl rfl ?_
  refine vr_iconst (v := nI 1) hF dL_law_423 (by decide +kernel) rfl ?_
  refine vr_iadd (v := nI (i + 1)) hF dL_law_424 (nI_add i 1) rfl ?_
  refine vr_sld (i := i + 1) hF hX hbl hbA (by omega) (by omega) dL_law_425 rfl ?_
  refine vr_partV_Ci (pre := vx_w g a r t w bb) (wr := vm_w g a' r' t' w' bb') (rest := []) (n0 := 1) hF (xc_V_undo l g a r t w bb (xs (i + 1)) (sr_ok hs)) (vr_gV vr_hb0 mlL_35 imX4_undo seX4_undo iniX4 cdX4_undo) rfl (by decide +kernel) rfl rfl rfl ⟨Nat.le_of_ble_eq_true rfl, Nat.le_of_ble_eq_true rfl⟩ ⟨Nat.le_of_ble_eq_true rfl, Nat.le_of_ble_eq_true rfl⟩ 0 rfl rfl rfl (Nat.le_of_ble_eq_true rfl) dL_law_426 rfl [0, 1, 2, 3, 4, 5, 6, 7, 8, 9, 10, 11, 12, 13, 14, 15, 16] [17, 18, 19, 20, 21, 22, 23, 24, 25, 26, 27, 28] rfl rfl rfl rfl (by decide) ?_
  refine vr_aload_n hF 2 rfl dL_law_429 rfl rfl ?_
  refine vr_aload_n hF 0 rfl dL_law_430 rfl rfl ?_
  refine vr_iload_n hF 3 rfl dL_law_431 rfl rfl ?_
  refine vr_iconst (v := nI 1) hF dL_law_432 (by decide +kernel) rfl ?_
  refine vr_iadd (v := nI (i + 1)) hF dL_law_433 (nI_add i 1) rfl ?_
  refine vr_sld (i := i + 1) hF hX hbl hbA (by omega) (by omega) dL_law_434 rfl ?_
  refine vr_partV_Ci (pre := vm_w g a' r' t' w' bb') (wr := vx_w g a r (if xv_undo t w (xs (i + 1)) = true then ta_setC t (vr_ub (ta_c t) (xs (i + 1)).toNatClampNeg false) else t) w bb) (rest := [.int (vr_b (xv_undo t w (xs (i + 1))))]) (n0 := 1) hF (xc_VModel_undo l g a' r' t' w' bb' (xs (i + 1)) (sr_mok hs)) (vr_gV vr_hb0 mlL_38 imX5_undo seX5_undo iniX5 cdX5_undo) rfl (by decide +kernel) rfl rfl rfl ⟨Nat.le_of_ble_eq_true rfl, Nat.le_of_ble_eq_true rfl⟩ ⟨Nat.le_of_ble_eq_true rfl, Nat.le_of_ble_eq_true rfl⟩ 0 rfl rfl rfl (Nat.le_of_ble_eq_true rfl) dL_law_435 rfl [0, 1, 2, 3, 4, 5, 6, 7, 8, 9, 10, 11] [12, 13, 14, 15, 16, 17, 18, 19, 20, 21, 22, 23, 24, 25, 26, 27, 28] rfl rfl rfl rfl (by decide) ?_
  refine vr_icmp_eq (tgt := 681) hF dL_law_438 (by decide) rfl (fun c_0 => ?_) (fun c_0 => ?_)
  · exact hk _ _ _ _ _ _ _ _ ((sr_undo hs (xs (i + 1))).2)
  · exact absurd (by rw [(sr_undo hs (xs (i + 1))).1]) c_0
set_option maxHeartbeats 4000000 in
set_option maxRecDepth 100000 in
theorem law_c5 {p : Program} {l : Launch} {e : Env} {s : State} {m : MethodId} {below : List Frame} {meth : Method} {c : Code} {b L : Nat} {xs : Nat → Int32} {g : vr_G} {a a' : Nat → Nat} (hF : vr_F p s m c code 4 #[Value.ref b] vr_T RL g.1 (vr_tys g) (fun q : Nat => s.heap.size ≤ q)) (hX : va_X b L xs s s.heap) (hbl : b < s.heap.size) (hbA : ¬ (fun q : Nat => s.heap.size ≤ q) b) (hL : L ≤ 4608) (i : Nat) (hi : i + 9 ≤ L) (r : vx_R) (t : vx_A) (w : Nat → Int64) (bb : vx_B) (r' : vx_R) (t' : vm_A) (w' : Nat → Bool) (bb' : vx_B) (hs : sr r t w bb r' t' w' bb')
    (hk : ∀ (r : vx_R) (t : vx_A) (w : Nat → Int64) (bb : vx_B) (r' : vx_R) (t' : vm_A) (w' : Nat → Bool) (bb' : vx_B), sr r t w bb r' t' w' bb' → vr_W p l e room_1 s m #[Value.ref b] below meth c g.1 (fun q : Nat => s.heap.size ≤ q) 4 29 44380 (lw_Z below #[Value.ref b] s) (vx_w g a r t w bb ++ vm_w g a' r' t' w' bb') 681 [(0, .ref b), (1, .ref (a 0)), (2, .ref (a' 0)), (3, .int (nI i))] []) : vr_W p l e room_1 s m #[Value.ref b] below meth c g.1 (fun q : Nat => s.heap.size ≤ q) 4 29 44380 (lw_Z below #[Value.ref b] s) (vx_w g a r t w bb ++ vm_w g a' r' t' w' bb') 443 [(0, .ref b), (1, .ref (a 0)), (2, .ref (a' 0)), (3, .int (nI i))] [] := by
  refine vr_aload_n hF 1 rfl dL_law_443 rfl rfl ?_
  refine vr_aload_n hF 0 rfl dL_law_444 rfl rfl ?_
  refine vr_iload_n hF 3 rfl dL_law_445 rfl rfl ?_
  refine vr_iconst (v := nI 1) hF dL_law_446 (by decide +kernel) rfl ?_
  refine vr_iadd (v := nI (i + 1)) hF dL_law_447 (nI_add i 1) rfl ?_
  refine vr_sld (i := i + 1) hF hX hbl hbA (by omega) (by omega) dL_law_448 rfl ?_
  refine vr_aload_n hF 0 rfl dL_law_449 rfl rfl ?_
  refine vr_iload_n hF 3 rfl dL_law_450 rfl rfl ?_
  refine vr_iconst (v := nI 2) hF dL_law_451 (by decide +kernel) rfl ?_
  refine vr_iadd (v := nI (i + 2)) hF dL_law_452 (nI_add i 2) rfl ?_
  refine vr_sld (i := i + 2) hF hX hbl hbA (by omega) (by omega) dL_law_453 rfl ?_
  refine vr_partV_Ci (pre := vx_w g a r t w bb) (wr := vm_w g a' r' t' w' bb') (rest := []) (n0 := 2) hF (xc_V_lean l g a r t w bb (xs (i + 1)) (xs (i + 2)) (sr_ok hs)) (vr_gV vr_hb0 mlL_39 imX4_lean seX4_lean iniX4 cdX4_lean) rfl (by decide +kernel) rfl rfl rfl ⟨Nat.le_of_ble_eq_true rfl, Nat.le_of_ble_eq_true rfl⟩ ⟨Nat.le_of_ble_eq_true rfl, Nat.le_of_ble_eq_true rfl⟩ 0 rfl rfl rfl (Nat.le_of_ble_eq_true rfl) dL_law_454 rfl [0, 1, 2, 3, 4, 5, 6, 7, 8, 9, 10, 11, 12, 13, 14, 15, 16] [17, 18, 19, 20, 21, 22, 23, 24, 25, 26, 27, 28] rfl rfl rfl rfl (by decide) ?_
  refine vr_aload_n hF 2 rfl dL_law_457 rfl rfl ?_
  refine vr_aload_n hF 0 rfl dL_law_458 rfl rfl ?_
  refine vr_iload_n hF 3 rfl dL_law_459 rfl rfl ?_
  refine vr_iconst (v := nI 1) hF dL_law_460 (by decide +kernel) rfl ?_
  refine vr_iadd (v := nI (i + 1)) hF dL_law_461 (nI_add i 1) rfl ?_
  refine vr_sld (i := i + 1) hF hX hbl hbA (by omega) (by omega) dL_law_462 rfl ?_
  refine vr_aload_n hF 0 rfl dL_law_463 rfl rfl ?_
  refine vr_iload_n hF 3 rfl dL_law_464 rfl rfl ?_
  refine vr_iconst (v := nI 2) hF dL_law_465 (by decide +kernel) rfl ?_
  refine vr_iadd (v := nI (i + 2)) hF dL_law_466 (nI_add i 2) rfl ?_
  refine vr_sld (i := i + 2) hF hX hbl hbA (by omega) (by omega) dL_law_467 rfl ?_
  refine vr_partV_Ci (pre := vm_w g a' r' t' w' bb') (wr := vx_w g a r t (if xv_lean t w (xs (i + 1)) (xs (i + 2)) = true then xl_add w (xs (i + 1)).toNatClampNeg (xs (i + 2)).toNatClampNeg else w) bb) (rest := [.int (vr_b (xv_lean t w (xs (i + 1)) (xs (i + 2))))]) (n0 := 2) hF (xc_VModel_lean l g a' r' t' w' bb' (xs (i + 1)) (xs (i + 2)) (sr_mok hs)) (vr_gV vr_hb0 mlL_43 imX5_lean seX5_lean iniX5 cdX5_lean) rfl (by decide +kernel) rfl rfl rfl ⟨Nat.le_of_ble_eq_true rfl, Nat.le_of_ble_eq_true rfl⟩ ⟨Nat.le_of_ble_eq_true rfl, Nat.le_of_ble_eq_true rfl⟩ 0 rfl rfl rfl (Nat.le_of_ble_eq_true rfl) dL_law_468 rfl [0, 1, 2, 3, 4, 5, 6, 7, 8, 9, 10, 11] [12, 13, 14, 15, 16, 17, 18, 19, 20, 21, 22, 23, 24, 25, 26, 27, 28] rfl rfl rfl rfl (by decide) ?_
  refine vr_icmp_eq (tgt := 681) hF dL_law_471 (by decide) rfl (fun c_0 => ?_) (fun c_0 => ?_)
  · exact hk _ _ _ _ _ _ _ _ ((sr_lean hs (xs (i + 1)) (xs (i + 2))).2)
  · exact absurd (by rw [(sr_lean hs (xs (i + 1)) (xs (i + 2))).1]) c_0
set_option maxHeartbeats 4000000 in
set_option maxRecDepth 100000 in
theorem law_c6 {p : Program} {l : Launch} {e : Env} {s : State} {m : MethodId} {below : List Frame} {meth : Method} {c : Code} {b L : Nat} {xs : Nat → Int32} {g : vr_G} {a a' : Nat → Nat} (hF : vr_F p s m c code 4 #[Value.ref b] vr_T RL g.1 (vr_tys g) (fun q : Nat => s.heap.size ≤ q)) (hX : va_X b L xs s s.heap) (hbl : b < s.heap.size) (hbA : ¬ (fun q : Nat => s.heap.size ≤ q) b) (hL : L ≤ 4608) (i : Nat) (hi : i + 9 ≤ L) (r : vx_R) (t : vx_A) (w : Nat → Int64) (bb : vx_B) (r' : vx_R) (t' : vm_A) (w' : Nat → Bool) (bb' : vx_B) (hs : sr r t w bb r' t' w' bb')
    (hk : ∀ (r : vx_R) (t : vx_A) (w : Nat → Int64) (bb : vx_B) (r' : vx_R) (t' : vm_A) (w' : Nat → Bool) (bb' : vx_B), sr r t w bb r' t' w' bb' → vr_W p l e room_1 s m #[Value.ref b] below meth c g.1 (fun q : Nat => s.heap.size ≤ q) 4 29 44380 (lw_Z below #[Value.ref b] s) (vx_w g a r t w bb ++ vm_w g a' r' t' w' bb') 681 [(0, .ref b), (1, .ref (a 0)), (2, .ref (a' 0)), (3, .int (nI i))] []) : vr_W p l e room_1 s m #[Value.ref b] below meth c g.1 (fun q : Nat => s.heap.size ≤ q) 4 29 44380 (lw_Z below #[Value.ref b] s) (vx_w g a r t w bb ++ vm_w g a' r' t' w' bb') 476 [(0, .ref b), (1, .ref (a 0)), (2, .ref (a' 0)), (3, .int (nI i))] [] := by
  refine vr_aload_n hF 1 rfl dL_law_476 rfl rfl ?_
  refine vr_aload_n hF 0 rfl dL_law_477 rfl rfl ?_
  refine vr_iload_n hF 3 rfl dL_law_478 rfl rfl ?_
  refine vr_iconst (v := nI 1) hF dL_law_479 (by decide +kernel) rfl ?_
  refine vr_iadd (v := nI (i + 1)) hF dL_law_480 (nI_add i 1) rfl ?_
  refine vr_sld (i := i + 1) hF hX hbl hbA (by omega) (by omega) dL_law_481 rfl ?_
  refine vr_aload_n hF 0 rfl dL_law_482 rfl rfl ?_
  refine vr_iload_n hF 3 rfl dL_law_483 rfl rfl ?_
  refine vr_iconst (v := nI 2) hF dL_law_484 (by decide +kernel) rfl ?_
  refine vr_iadd (v := nI (i + 2)) hF dL_law_485 (nI_add i 2) rfl ?_
  refine vr_sld (i := i + 2) hF hX hbl hbA (by omega) (by omega) dL_law_486 rfl ?_
  refine vr_aload_n hF 0 rfl dL_law_487 rfl rfl ?_
  refine vr_iload_n hF 3 rfl dL_law_488 rfl rfl ?_
  refine vr_iconst (v := nI 3) hF dL_law_489 (by decide +kernel) rfl ?_
  refine vr_iadd (v := nI (i + 3)) hF dL_law_490 (nI_add i 3) rfl ?_
  refine vr_sld (i := i + 3) hF hX hbl hbA (by omega) (by omega) dL_law_491 rfl ?_
  refine vr_i2l (v := (xs (i + 3)).toInt64) hF dL_law_492 rfl rfl ?_
  refine vr_bipush (v := nI 32) hF dL_law_493 (by decide +kernel) rfl ?_
  refine vr_lshl (v := ((xs (i + 3)).toInt64) <<< ((nI 32).toInt64 &&& 63)) hF dL_law_495 rfl rfl ?_
  refine vr_aload_n hF 0 rfl dL_law_496 rfl rfl ?_
  refine vr_iload_n hF 3 rfl dL_law_497 rfl rfl ?_
  refine vr_iconst (v := nI 4) hF dL_law_498 (by decide +kernel) rfl ?_
  refine vr_iadd (v := nI (i + 4)) hF dL_law_499 (nI_add i 4) rfl ?_
  refine vr_sld (i := i + 4) hF hX hbl hbA (by omega) (by omega) dL_law_500 rfl ?_
  refine vr_i2l (v := (xs (i + 4)).toInt64) hF dL_law_501 rfl rfl ?_
  refine vr_ldc2 (v := 4294967295) hF kL_18 dL_law_502 rfl ?_
  refine vr_land (v := ((xs (i + 4)).toInt64) &&& 4294967295) hF dL_law_505 rfl rfl ?_
  refine vr_lor (v := (((xs (i + 3)).toInt64) <<< ((nI 32).toInt64 &&& 63)) ||| (((xs (i + 4)).toInt64) &&& 4294967295)) hF dL_law_506 rfl rfl ?_
  refine vr_partV_Ci (pre := vx_w g a r t w bb) (wr := vm_w g a' r' t' w' bb') (rest := []) (n0 := 3) hF (xc_V_lock l g a r t w bb (xs (i + 1)) (xs (i + 2)) ((((xs (i + 3)).toInt64) <<< ((nI 32).toInt64 &&& 63)) ||| (((xs (i + 4)).toInt64) &&& 4294967295)) (sr_ok hs)) (vr_gV vr_hb0 mlL_44 imX4_lock seX4_lock iniX4 cdX4_lock) rfl (by decide +kernel) rfl rfl rfl ⟨Nat.le_of_ble_eq_true rfl, Nat.le_of_ble_eq_true rfl⟩ ⟨Nat.le_of_ble_eq_true rfl, Nat.le_of_ble_eq_true rfl⟩ 0 rfl rfl rfl (Nat.le_of_ble_eq_true rfl) dL_law_507 rfl [0, 1, 2, 3, 4, 5, 6, 7, 8, 9, 10, 11, 12, 13, 14, 15, 16] [17, 18, 19, 20, 21, 22, 23, 24, 25, 26, 27, 28] rfl rfl rfl rfl (by decide) ?_
  refine vr_aload_n hF 2 rfl dL_law_510 rfl rfl ?_
  refine vr_aload_n hF 0 rfl dL_law_511 rfl rfl ?_
  refine vr_iload_n hF 3 rfl dL_law_512 rfl rfl ?_
  refine vr_iconst (v := nI 1) hF dL_law_513 (by decide +kernel) rfl ?_
  refine vr_iadd (v := nI (i + 1)) hF dL_law_514 (nI_add i 1) rfl ?_
  refine vr_sld (i := i + 1) hF hX hbl hbA (by omega) (by omega) dL_law_515 rfl ?_
  refine vr_aload_n hF 0 rfl dL_law_516 rfl rfl ?_
  refine vr_iload_n hF 3 rfl dL_law_517 rfl rfl ?_
  refine vr_iconst (v := nI 2) hF dL_law_518 (by decide +kernel) rfl ?_
  refine vr_iadd (v := nI (i + 2)) hF dL_law_519 (nI_add i 2) rfl ?_
  refine vr_sld (i := i + 2) hF hX hbl hbA (by omega) (by omega) dL_law_520 rfl ?_
  refine vr_aload_n hF 0 rfl dL_law_521 rfl rfl ?_
  refine vr_iload_n hF 3 rfl dL_law_522 rfl rfl ?_
  refine vr_iconst (v := nI 3) hF dL_law_523 (by decide +kernel) rfl ?_
  refine vr_iadd (v := nI (i + 3)) hF dL_law_524 (nI_add i 3) rfl ?_
  refine vr_sld (i := i + 3) hF hX hbl hbA (by omega) (by omega) dL_law_525 rfl ?_
  refine vr_i2l (v := (xs (i + 3)).toInt64) hF dL_law_526 rfl rfl ?_
  refine vr_bipush (v := nI 32) hF dL_law_527 (by decide +kernel) rfl ?_
  refine vr_lshl (v := ((xs (i + 3)).toInt64) <<< ((nI 32).toInt64 &&& 63)) hF dL_law_529 rfl rfl ?_
  refine vr_aload_n hF 0 rfl dL_law_530 rfl rfl ?_
  refine vr_iload_n hF 3 rfl dL_law_531 rfl rfl ?_
  refine vr_iconst (v := nI 4) hF dL_law_532 (by decide +kernel) rfl ?_
  refine vr_iadd (v := nI (i + 4)) hF dL_law_533 (nI_add i 4) rfl ?_
  refine vr_sld (i := i + 4) hF hX hbl hbA (by omega) (by omega) dL_law_534 rfl ?_
  refine vr_i2l (v := (xs (i + 4)).toInt64) hF dL_law_535 rfl rfl ?_
  refine vr_ldc2 (v := 4294967295) hF kL_18 dL_law_536 rfl ?_
  refine vr_land (v := ((xs (i + 4)).toInt64) &&& 4294967295) hF dL_law_539 rfl rfl ?_
  refine vr_lor (v := (((xs (i + 3)).toInt64) <<< ((nI 32).toInt64 &&& 63)) ||| (((xs (i + 4)).toInt64) &&& 4294967295)) hF dL_law_540 rfl rfl ?_
  refine vr_partV_Ci (pre := vm_w g a' r' t' w' bb') (wr := vx_w g a (if xv_lock r t (xs (i + 1)) (xs (i + 2)) = true then xr_lock r (xs (i + 1)).toNatClampNeg (xs (i + 2)) ((((xs (i + 3)).toInt64) <<< ((nI 32).toInt64 &&& 63)) ||| (((xs (i + 4)).toInt64) &&& 4294967295)) else r) t w bb) (rest := [.int (vr_b (xv_lock r t (xs (i + 1)) (xs (i + 2))))]) (n0 := 3) hF (xc_VModel_lock l g a' r' t' w' bb' (xs (i + 1)) (xs (i + 2)) ((((xs (i + 3)).toInt64) <<< ((nI 32).toInt64 &&& 63)) ||| (((xs (i + 4)).toInt64) &&& 4294967295)) (sr_mok hs)) (vr_gV vr_hb0 mlL_47 imX5_lock seX5_lock iniX5 cdX5_lock) rfl (by decide +kernel) rfl rfl rfl ⟨Nat.le_of_ble_eq_true rfl, Nat.le_of_ble_eq_true rfl⟩ ⟨Nat.le_of_ble_eq_true rfl, Nat.le_of_ble_eq_true rfl⟩ 0 rfl rfl rfl (Nat.le_of_ble_eq_true rfl) dL_law_541 rfl [0, 1, 2, 3, 4, 5, 6, 7, 8, 9, 10, 11] [12, 13, 14, 15, 16, 17, 18, 19, 20, 21, 22, 23, 24, 25, 26, 27, 28] rfl rfl rfl rfl (by decide) ?_
  refine vr_icmp_eq (tgt := 681) hF dL_law_544 (by decide) rfl (fun c_0 => ?_) (fun c_0 => ?_)
  · exact hk _ _ _ _ _ _ _ _ ((sr_lock hs (xs (i + 1)) (xs (i + 2)) ((((xs (i + 3)).toInt64) <<< ((nI 32).toInt64 &&& 63)) ||| (((xs (i + 4)).toInt64) &&& 4294967295))).2)
  · exact absurd (by rw [(sr_lock hs (xs (i + 1)) (xs (i + 2)) ((((xs (i + 3)).toInt64) <<< ((nI 32).toInt64 &&& 63)) ||| (((xs (i + 4)).toInt64) &&& 4294967295))).1]) c_0
set_option maxHeartbeats 4000000 in
set_option maxRecDepth 100000 in
theorem law_c7 {p : Program} {l : Launch} {e : Env} {s : State} {m : MethodId} {below : List Frame} {meth : Method} {c : Code} {b L : Nat} {xs : Nat → Int32} {g : vr_G} {a a' : Nat → Nat} (hF : vr_F p s m c code 4 #[Value.ref b] vr_T RL g.1 (vr_tys g) (fun q : Nat => s.heap.size ≤ q)) (hX : va_X b L xs s s.heap) (hbl : b < s.heap.size) (hbA : ¬ (fun q : Nat => s.heap.size ≤ q) b) (hL : L ≤ 4608) (i : Nat) (hi : i + 9 ≤ L) (r : vx_R) (t : vx_A) (w : Nat → Int64) (bb : vx_B) (r' : vx_R) (t' : vm_A) (w' : Nat → Bool) (bb' : vx_B) (hs : sr r t w bb r' t' w' bb')
    (hk : ∀ (r : vx_R) (t : vx_A) (w : Nat → Int64) (bb : vx_B) (r' : vx_R) (t' : vm_A) (w' : Nat → Bool) (bb' : vx_B), sr r t w bb r' t' w' bb' → vr_W p l e room_1 s m #[Value.ref b] below meth c g.1 (fun q : Nat => s.heap.size ≤ q) 4 29 44380 (lw_Z below #[Value.ref b] s) (vx_w g a r t w bb ++ vm_w g a' r' t' w' bb') 681 [(0, .ref b), (1, .ref (a 0)), (2, .ref (a' 0)), (3, .int (nI i))] []) : vr_W p l e room_1 s m #[Value.ref b] below meth c g.1 (fun q : Nat => s.heap.size ≤ q) 4 29 44380 (lw_Z below #[Value.ref b] s) (vx_w g a r t w bb ++ vm_w g a' r' t' w' bb') 549 [(0, .ref b), (1, .ref (a 0)), (2, .ref (a' 0)), (3, .int (nI i))] [] := by
  refine vr_aload_n hF 1 rfl dL_law_549 rfl rfl ?_
  refine vr_aload_n hF 0 rfl dL_law_550 rfl rfl ?_
  refine vr_iload_n hF 3 rfl dL_law_551 rfl rfl ?_
  refine vr_iconst (v := nI 1) hF dL_law_552 (by decide +kernel) rfl ?_
  refine vr_iadd (v := nI (i + 1)) hF dL_law_553 (nI_add i 1) rfl ?_
  refine vr_sld (i := i + 1) hF hX hbl hbA (by omega) (by omega) dL_law_554 rfl ?_
  refine vr_aload_n hF 0 rfl dL_law_555 rfl rfl ?_
  refine vr_iload_n hF 3 rfl dL_law_556 rfl rfl ?_
  refine vr_iconst (v := nI 2) hF dL_law_557 (by decide +kernel) rfl ?_
  refine vr_iadd (v := nI (i + 2)) hF dL_law_558 (nI_add i 2) rfl ?_
  refine vr_sld (i := i + 2) hF hX hbl hbA (by omega) (by omega) dL_law_559 rfl ?_
  refine vr_partV_Ci (pre := vx_w g a r t w bb) (wr := vm_w g a' r' t' w' bb') (rest := []) (n0 := 2) hF (xc_V_batch l g a r t w bb (xs (i + 1)) (xs (i + 2)) (sr_ok hs)) (vr_gV vr_hb0 mlL_48 imX4_batch seX4_batch iniX4 cdX4_batch) rfl (by decide +kernel) rfl rfl rfl ⟨Nat.le_of_ble_eq_true rfl, Nat.le_of_ble_eq_true rfl⟩ ⟨Nat.le_of_ble_eq_true rfl, Nat.le_of_ble_eq_true rfl⟩ 0 rfl rfl rfl (Nat.le_of_ble_eq_true rfl) dL_law_560 rfl [0, 1, 2, 3, 4, 5, 6, 7, 8, 9, 10, 11, 12, 13, 14, 15, 16] [17, 18, 19, 20, 21, 22, 23, 24, 25, 26, 27, 28] rfl rfl rfl rfl (by decide) ?_
  refine vr_aload_n hF 2 rfl dL_law_563 rfl rfl ?_
  refine vr_aload_n hF 0 rfl dL_law_564 rfl rfl ?_
  refine vr_iload_n hF 3 rfl dL_law_565 rfl rfl ?_
  refine vr_iconst (v := nI 1) hF dL_law_566 (by decide +kernel) rfl ?_
  refine vr_iadd (v := nI (i + 1)) hF dL_law_567 (nI_add i 1) rfl ?_
  refine vr_sld (i := i + 1) hF hX hbl hbA (by omega) (by omega) dL_law_568 rfl ?_
  refine vr_aload_n hF 0 rfl dL_law_569 rfl rfl ?_
  refine vr_iload_n hF 3 rfl dL_law_570 rfl rfl ?_
  refine vr_iconst (v := nI 2) hF dL_law_571 (by decide +kernel) rfl ?_
  refine vr_iadd (v := nI (i + 2)) hF dL_law_572 (nI_add i 2) rfl ?_
  refine vr_sld (i := i + 2) hF hX hbl hbA (by omega) (by omega) dL_law_573 rfl ?_
  refine vr_partV_Ci (pre := vm_w g a' r' t' w' bb') (wr := vx_w g a r t w (if xv_bat t bb (xs (i + 1)) (xs (i + 2)) = true then xb_add bb (xs (i + 1)).toNatClampNeg (xs (i + 2)).toNatClampNeg else bb)) (rest := [.int (nI (if xv_bat t bb (xs (i + 1)) (xs (i + 2)) = true then tb_n bb + 1 else 0))]) (n0 := 2) hF (xc_VModel_batch l g a' r' t' w' bb' (xs (i + 1)) (xs (i + 2)) (sr_mok hs)) (vr_gV vr_hb0 mlL_51 imX5_batch seX5_batch iniX5 cdX5_batch) rfl (by decide +kernel) rfl rfl rfl ⟨Nat.le_of_ble_eq_true rfl, Nat.le_of_ble_eq_true rfl⟩ ⟨Nat.le_of_ble_eq_true rfl, Nat.le_of_ble_eq_true rfl⟩ 0 rfl rfl rfl (Nat.le_of_ble_eq_true rfl) dL_law_574 rfl [0, 1, 2, 3, 4, 5, 6, 7, 8, 9, 10, 11] [12, 13, 14, 15, 16, 17, 18, 19, 20, 21, 22, 23, 24, 25, 26, 27, 28] rfl rfl rfl rfl (by decide) ?_
  refine vr_icmp_eq (tgt := 681) hF dL_law_577 (by decide) rfl (fun c_0 => ?_) (fun c_0 => ?_)
  · exact hk _ _ _ _ _ _ _ _ ((sr_bat hs (xs (i + 1)) (xs (i + 2))).2)
  · exact absurd (by rw [(sr_bat hs (xs (i + 1)) (xs (i + 2))).1]) c_0
set_option maxHeartbeats 4000000 in
set_option maxRecDepth 100000 in
theorem law_c8 {p : Program} {l : Launch} {e : Env} {s : State} {m : MethodId} {below : List Frame} {meth : Method} {c : Code} {b L : Nat} {xs : Nat → Int32} {g : vr_G} {a a' : Nat → Nat} (hF : vr_F p s m c code 4 #[Value.ref b] vr_T RL g.1 (vr_tys g) (fun q : Nat => s.heap.size ≤ q)) (hX : va_X b L xs s s.heap) (hbl : b < s.heap.size) (hbA : ¬ (fun q : Nat => s.heap.size ≤ q) b) (hL : L ≤ 4608) (i : Nat) (hi : i + 9 ≤ L) (r : vx_R) (t : vx_A) (w : Nat → Int64) (bb : vx_B) (r' : vx_R) (t' : vm_A) (w' : Nat → Bool) (bb' : vx_B) (hs : sr r t w bb r' t' w' bb')
    (hk : ∀ (r : vx_R) (t : vx_A) (w : Nat → Int64) (bb : vx_B) (r' : vx_R) (t' : vm_A) (w' : Nat → Bool) (bb' : vx_B), sr r t w bb r' t' w' bb' → vr_W p l e room_1 s m #[Value.ref b] below meth c g.1 (fun q : Nat => s.heap.size ≤ q) 4 29 44380 (lw_Z below #[Value.ref b] s) (vx_w g a r t w bb ++ vm_w g a' r' t' w' bb') 681 [(0, .ref b), (1, .ref (a 0)), (2, .ref (a' 0)), (3, .int (nI i))] []) : vr_W p l e room_1 s m #[Value.ref b] below meth c g.1 (fun q : Nat => s.heap.size ≤ q) 4 29 44380 (lw_Z below #[Value.ref b] s) (vx_w g a r t w bb ++ vm_w g a' r' t' w' bb') 582 [(0, .ref b), (1, .ref (a 0)), (2, .ref (a' 0)), (3, .int (nI i))] [] := by
  refine vr_aload_n hF 1 rfl dL_law_582 rfl rfl ?_
  refine vr_aload_n hF 0 rfl dL_law_583 rfl rfl ?_
  refine vr_iload_n hF 3 rfl dL_law_584 rfl rfl ?_
  refine vr_iconst (v := nI 1) hF dL_law_585 (by decide +kernel) rfl ?_
  refine vr_iadd (v := nI (i + 1)) hF dL_law_586 (nI_add i 1) rfl ?_
  refine vr_sld (i := i + 1) hF hX hbl hbA (by omega) (by omega) dL_law_587 rfl ?_
  refine vr_partV_Ci (pre := vx_w g a r t w bb) (wr := vm_w g a' r' t' w' bb') (rest := []) (n0 := 1) hF (xc_V_drop l g a r t w bb (xs (i + 1)) (sr_ok hs)) (vr_gV vr_hb0 mlL_52 imX4_drop seX4_drop iniX4 cdX4_drop) rfl (by decide +kernel) rfl rfl rfl ⟨Nat.le_of_ble_eq_true rfl, Nat.le_of_ble_eq_true rfl⟩ ⟨Nat.le_of_ble_eq_true rfl, Nat.le_of_ble_eq_true rfl⟩ 0 rfl rfl rfl (Nat.le_of_ble_eq_true rfl) dL_law_588 rfl [0, 1, 2, 3, 4, 5, 6, 7, 8, 9, 10, 11, 12, 13, 14, 15, 16] [17, 18, 19, 20, 21, 22, 23, 24, 25, 26, 27, 28] rfl rfl rfl rfl (by decide) ?_
  refine vr_aload_n hF 2 rfl dL_law_591 rfl rfl ?_
  refine vr_aload_n hF 0 rfl dL_law_592 rfl rfl ?_
  refine vr_iload_n hF 3 rfl dL_law_593 rfl rfl ?_
  refine vr_iconst (v := nI 1) hF dL_law_594 (by decide +kernel) rfl ?_
  refine vr_iadd (v := nI (i + 1)) hF dL_law_595 (nI_add i 1) rfl ?_
  refine vr_sld (i := i + 1) hF hX hbl hbA (by omega) (by omega) dL_law_596 rfl ?_
  refine vr_partV_Ci (pre := vm_w g a' r' t' w' bb') (wr := vx_w g a r (if xv_can t w bb (xs (i + 1)) = true then ta_setC t (xv_dropC bb (xs (i + 1)) (ta_n t) (ta_c t)) else t) w bb) (rest := [.int (nI (if xv_can t w bb (xs (i + 1)) = true then xv_dropN bb (xs (i + 1)) (ta_n t) (ta_c t) 0 else 0))]) (n0 := 1) hF (xc_VModel_drop l g a' r' t' w' bb' (xs (i + 1)) (sr_mok hs)) (vr_gV vr_hb0 mlL_55 imX5_drop seX5_drop iniX5 cdX5_drop) rfl (by decide +kernel) rfl rfl rfl ⟨Nat.le_of_ble_eq_true rfl, Nat.le_of_ble_eq_true rfl⟩ ⟨Nat.le_of_ble_eq_true rfl, Nat.le_of_ble_eq_true rfl⟩ 0 rfl rfl rfl (Nat.le_of_ble_eq_true rfl) dL_law_597 rfl [0, 1, 2, 3, 4, 5, 6, 7, 8, 9, 10, 11] [12, 13, 14, 15, 16, 17, 18, 19, 20, 21, 22, 23, 24, 25, 26, 27, 28] rfl rfl rfl rfl (by decide) ?_
  refine vr_icmp_eq (tgt := 681) hF dL_law_600 (by decide) rfl (fun c_0 => ?_) (fun c_0 => ?_)
  · exact hk _ _ _ _ _ _ _ _ ((sr_drop hs (xs (i + 1))).2)
  · exact absurd (by rw [(sr_drop hs (xs (i + 1))).1]) c_0
set_option maxHeartbeats 4000000 in
set_option maxRecDepth 100000 in
theorem law_c9 {p : Program} {l : Launch} {e : Env} {s : State} {m : MethodId} {below : List Frame} {meth : Method} {c : Code} {b L : Nat} {xs : Nat → Int32} {g : vr_G} {a a' : Nat → Nat} (hF : vr_F p s m c code 4 #[Value.ref b] vr_T RL g.1 (vr_tys g) (fun q : Nat => s.heap.size ≤ q)) (hX : va_X b L xs s s.heap) (hbl : b < s.heap.size) (hbA : ¬ (fun q : Nat => s.heap.size ≤ q) b) (hL : L ≤ 4608) (i : Nat) (hi : i + 9 ≤ L) (r : vx_R) (t : vx_A) (w : Nat → Int64) (bb : vx_B) (r' : vx_R) (t' : vm_A) (w' : Nat → Bool) (bb' : vx_B) (hs : sr r t w bb r' t' w' bb')
    (hk : ∀ (r : vx_R) (t : vx_A) (w : Nat → Int64) (bb : vx_B) (r' : vx_R) (t' : vm_A) (w' : Nat → Bool) (bb' : vx_B), sr r t w bb r' t' w' bb' → vr_W p l e room_1 s m #[Value.ref b] below meth c g.1 (fun q : Nat => s.heap.size ≤ q) 4 29 44380 (lw_Z below #[Value.ref b] s) (vx_w g a r t w bb ++ vm_w g a' r' t' w' bb') 681 [(0, .ref b), (1, .ref (a 0)), (2, .ref (a' 0)), (3, .int (nI i))] []) : vr_W p l e room_1 s m #[Value.ref b] below meth c g.1 (fun q : Nat => s.heap.size ≤ q) 4 29 44380 (lw_Z below #[Value.ref b] s) (vx_w g a r t w bb ++ vm_w g a' r' t' w' bb') 605 [(0, .ref b), (1, .ref (a 0)), (2, .ref (a' 0)), (3, .int (nI i))] [] := by
  refine vr_aload_n hF 1 rfl dL_law_605 rfl rfl ?_
  refine vr_aload_n hF 0 rfl dL_law_606 rfl rfl ?_
  refine vr_iload_n hF 3 rfl dL_law_607 rfl rfl ?_
  refine vr_iconst (v := nI 1) hF dL_law_608 (by decide +kernel) rfl ?_
  refine vr_iadd (v := nI (i + 1)) hF dL_law_609 (nI_add i 1) rfl ?_
  refine vr_sld (i := i + 1) hF hX hbl hbA (by omega) (by omega) dL_law_610 rfl ?_
  refine vr_aload_n hF 0 rfl dL_law_611 rfl rfl ?_
  refine vr_iload_n hF 3 rfl dL_law_612 rfl rfl ?_
  refine vr_iconst (v := nI 2) hF dL_law_613 (by decide +kernel) rfl ?_
  refine vr_iadd (v := nI (i + 2)) hF dL_law_614 (nI_add i 2) rfl ?_
  refine vr_sld (i := i + 2) hF hX hbl hbA (by omega) (by omega) dL_law_615 rfl ?_
  refine vr_partV_Ci (pre := vx_w g a r t w bb) (wr := vm_w g a' r' t' w' bb') (rest := []) (n0 := 2) hF (xc_V_conflict l g a r t w bb (xs (i + 1)) (xs (i + 2)) (sr_ok hs)) (vr_gV vr_hb0 mlL_56 imX4_conflict seX4_conflict iniX4 cdX4_conflict) rfl (by decide +kernel) rfl rfl rfl ⟨Nat.le_of_ble_eq_true rfl, Nat.le_of_ble_eq_true rfl⟩ ⟨Nat.le_of_ble_eq_true rfl, Nat.le_of_ble_eq_true rfl⟩ 0 rfl rfl rfl (Nat.le_of_ble_eq_true rfl) dL_law_616 rfl [0, 1, 2, 3, 4, 5, 6, 7, 8, 9, 10, 11, 12, 13, 14, 15, 16] [17, 18, 19, 20, 21, 22, 23, 24, 25, 26, 27, 28] rfl rfl rfl rfl (by decide) ?_
  refine vr_aload_n hF 2 rfl dL_law_619 rfl rfl ?_
  refine vr_aload_n hF 0 rfl dL_law_620 rfl rfl ?_
  refine vr_iload_n hF 3 rfl dL_law_621 rfl rfl ?_
  refine vr_iconst (v := nI 1) hF dL_law_622 (by decide +kernel) rfl ?_
  refine vr_iadd (v := nI (i + 1)) hF dL_law_623 (nI_add i 1) rfl ?_
  refine vr_sld (i := i + 1) hF hX hbl hbA (by omega) (by omega) dL_law_624 rfl ?_
  refine vr_aload_n hF 0 rfl dL_law_625 rfl rfl ?_
  refine vr_iload_n hF 3 rfl dL_law_626 rfl rfl ?_
  refine vr_iconst (v := nI 2) hF dL_law_627 (by decide +kernel) rfl ?_
  refine vr_iadd (v := nI (i + 2)) hF dL_law_628 (nI_add i 2) rfl ?_
  refine vr_sld (i := i + 2) hF hX hbl hbA (by omega) (by omega) dL_law_629 rfl ?_
  refine vr_partV_Ci (pre := vm_w g a' r' t' w' bb') (wr := vx_w g a r t w bb) (rest := [.int (xv_cf t (xs (i + 1)) (xs (i + 2)))]) (n0 := 2) hF (xc_VModel_conflict l g a' r' t' w' bb' (xs (i + 1)) (xs (i + 2)) (sr_mok hs)) (vr_gV vr_hb0 mlL_59 imX5_conflict seX5_conflict iniX5 cdX5_conflict) rfl (by decide +kernel) rfl rfl rfl ⟨Nat.le_of_ble_eq_true rfl, Nat.le_of_ble_eq_true rfl⟩ ⟨Nat.le_of_ble_eq_true rfl, Nat.le_of_ble_eq_true rfl⟩ 0 rfl rfl rfl (Nat.le_of_ble_eq_true rfl) dL_law_630 rfl [0, 1, 2, 3, 4, 5, 6, 7, 8, 9, 10, 11] [12, 13, 14, 15, 16, 17, 18, 19, 20, 21, 22, 23, 24, 25, 26, 27, 28] rfl rfl rfl rfl (by decide) ?_
  refine vr_icmp_eq (tgt := 681) hF dL_law_633 (by decide) rfl (fun c_0 => ?_) (fun c_0 => ?_)
  · exact hk _ _ _ _ _ _ _ _ (hs)
  · exact absurd ((sr_cf hs (xs (i + 1)) (xs (i + 2))).symm) c_0
set_option maxHeartbeats 4000000 in
set_option maxRecDepth 100000 in
theorem law_c10 {p : Program} {l : Launch} {e : Env} {s : State} {m : MethodId} {below : List Frame} {meth : Method} {c : Code} {b L : Nat} {xs : Nat → Int32} {g : vr_G} {a a' : Nat → Nat} (hF : vr_F p s m c code 4 #[Value.ref b] vr_T RL g.1 (vr_tys g) (fun q : Nat => s.heap.size ≤ q)) (hX : va_X b L xs s s.heap) (hbl : b < s.heap.size) (hbA : ¬ (fun q : Nat => s.heap.size ≤ q) b) (hL : L ≤ 4608) (i : Nat) (hi : i + 9 ≤ L) (r : vx_R) (t : vx_A) (w : Nat → Int64) (bb : vx_B) (r' : vx_R) (t' : vm_A) (w' : Nat → Bool) (bb' : vx_B) (hs : sr r t w bb r' t' w' bb')
    (hk : ∀ (r : vx_R) (t : vx_A) (w : Nat → Int64) (bb : vx_B) (r' : vx_R) (t' : vm_A) (w' : Nat → Bool) (bb' : vx_B), sr r t w bb r' t' w' bb' → vr_W p l e room_1 s m #[Value.ref b] below meth c g.1 (fun q : Nat => s.heap.size ≤ q) 4 29 44380 (lw_Z below #[Value.ref b] s) (vx_w g a r t w bb ++ vm_w g a' r' t' w' bb') 681 [(0, .ref b), (1, .ref (a 0)), (2, .ref (a' 0)), (3, .int (nI i))] []) : vr_W p l e room_1 s m #[Value.ref b] below meth c g.1 (fun q : Nat => s.heap.size ≤ q) 4 29 44380 (lw_Z below #[Value.ref b] s) (vx_w g a r t w bb ++ vm_w g a' r' t' w' bb') 638 [(0, .ref b), (1, .ref (a 0)), (2, .ref (a' 0)), (3, .int (nI i))] [] := by
  refine vr_aload_n hF 1 rfl dL_law_638 rfl rfl ?_
  refine vr_aload_n hF 0 rfl dL_law_639 rfl rfl ?_
  refine vr_iload_n hF 3 rfl dL_law_640 rfl rfl ?_
  refine vr_iconst (v := nI 1) hF dL_law_641 (by decide +kernel) rfl ?_
  refine vr_iadd (v := nI (i + 1)) hF dL_law_642 (nI_add i 1) rfl ?_
  refine vr_sld (i := i + 1) hF hX hbl hbA (by omega) (by omega) dL_law_643 rfl ?_
  refine vr_aload_n hF 0 rfl dL_law_644 rfl rfl ?_
  refine vr_iload_n hF 3 rfl dL_law_645 rfl rfl ?_
  refine vr_iconst (v := nI 2) hF dL_law_646 (by decide +kernel) rfl ?_
  refine vr_iadd (v := nI (i + 2)) hF dL_law_647 (nI_add i 2) rfl ?_
  refine vr_sld (i := i + 2) hF hX hbl hbA (by omega) (by omega) dL_law_648 rfl ?_
  refine vr_aload_n hF 0 rfl dL_law_649 rfl rfl ?_
  refine vr_iload_n hF 3 rfl dL_law_650 rfl rfl ?_
  refine vr_iconst (v := nI 3) hF dL_law_651 (by decide +kernel) rfl ?_
  refine vr_iadd (v := nI (i + 3)) hF dL_law_652 (nI_add i 3) rfl ?_
  refine vr_sld (i := i + 3) hF hX hbl hbA (by omega) (by omega) dL_law_653 rfl ?_
  refine vr_partV_Ci (pre := vx_w g a r t w bb) (wr := vm_w g a' r' t' w' bb') (rest := []) (n0 := 3) hF (xc_V_history l g a r t w bb (xs (i + 1)) (xs (i + 2)) (xs (i + 3)) (sr_ok hs)) (vr_gV vr_hb0 mlL_60 imX4_history seX4_history iniX4 cdX4_history) rfl (by decide +kernel) rfl rfl rfl ⟨Nat.le_of_ble_eq_true rfl, Nat.le_of_ble_eq_true rfl⟩ ⟨Nat.le_of_ble_eq_true rfl, Nat.le_of_ble_eq_true rfl⟩ 0 rfl rfl rfl (Nat.le_of_ble_eq_true rfl) dL_law_654 rfl [0, 1, 2, 3, 4, 5, 6, 7, 8, 9, 10, 11, 12, 13, 14, 15, 16] [17, 18, 19, 20, 21, 22, 23, 24, 25, 26, 27, 28] rfl rfl rfl rfl (by decide) ?_
  refine vr_aload_n hF 2 rfl dL_law_657 rfl rfl ?_
  refine vr_aload_n hF 0 rfl dL_law_658 rfl rfl ?_
  refine vr_iload_n hF 3 rfl dL_law_659 rfl rfl ?_
  refine vr_iconst (v := nI 1) hF dL_law_660 (by decide +kernel) rfl ?_
  refine vr_iadd (v := nI (i + 1)) hF dL_law_661 (nI_add i 1) rfl ?_
  refine vr_sld (i := i + 1) hF hX hbl hbA (by omega) (by omega) dL_law_662 rfl ?_
  refine vr_aload_n hF 0 rfl dL_law_663 rfl rfl ?_
  refine vr_iload_n hF 3 rfl dL_law_664 rfl rfl ?_
  refine vr_iconst (v := nI 2) hF dL_law_665 (by decide +kernel) rfl ?_
  refine vr_iadd (v := nI (i + 2)) hF dL_law_666 (nI_add i 2) rfl ?_
  refine vr_sld (i := i + 2) hF hX hbl hbA (by omega) (by omega) dL_law_667 rfl ?_
  refine vr_aload_n hF 0 rfl dL_law_668 rfl rfl ?_
  refine vr_iload_n hF 3 rfl dL_law_669 rfl rfl ?_
  refine vr_iconst (v := nI 3) hF dL_law_670 (by decide +kernel) rfl ?_
  refine vr_iadd (v := nI (i + 3)) hF dL_law_671 (nI_add i 3) rfl ?_
  refine vr_sld (i := i + 3) hF hX hbl hbA (by omega) (by omega) dL_law_672 rfl ?_
  refine vr_partV_Ci (pre := vm_w g a' r' t' w' bb') (wr := vx_w g a r t w bb) (rest := [.int (nI (xv_hist r t (xs (i + 1)) (xs (i + 2)) (xs (i + 3))))]) (n0 := 3) hF (xc_VModel_history l g a' r' t' w' bb' (xs (i + 1)) (xs (i + 2)) (xs (i + 3)) (sr_mok hs)) (vr_gV vr_hb0 mlL_64 imX5_history seX5_history iniX5 cdX5_history) rfl (by decide +kernel) rfl rfl rfl ⟨Nat.le_of_ble_eq_true rfl, Nat.le_of_ble_eq_true rfl⟩ ⟨Nat.le_of_ble_eq_true rfl, Nat.le_of_ble_eq_true rfl⟩ 0 rfl rfl rfl (Nat.le_of_ble_eq_true rfl) dL_law_673 rfl [0, 1, 2, 3, 4, 5, 6, 7, 8, 9, 10, 11] [12, 13, 14, 15, 16, 17, 18, 19, 20, 21, 22, 23, 24, 25, 26, 27, 28] rfl rfl rfl rfl (by decide) ?_
  refine vr_icmp_eq (tgt := 681) hF dL_law_676 (by decide) rfl (fun c_0 => ?_) (fun c_0 => ?_)
  · exact hk _ _ _ _ _ _ _ _ (hs)
  · exact absurd (by rw [sr_hist hs (xs (i + 1)) (xs (i + 2)) (xs (i + 3))]) c_0
end
section
set_option maxHeartbeats 4000000 in
set_option maxRecDepth 100000 in
/-- the law's loop: at its head, i ints read, VersionRows and the reference stand in the relation -/
theorem law_loop {p : Program} {l : Launch} {e : Env} {s : State} {m : MethodId} {below : List Frame} {meth : Method} {c : Code} {b L : Nat} {xs : Nat → Int32} {g : vr_G} {a a' : Nat → Nat} (hF : vr_F p s m c code 4 #[Value.ref b] vr_T RL g.1 (vr_tys g) (fun q : Nat => s.heap.size ≤ q)) (hr : meth.sig.returnType = ret) (hlocks : meth.locks = false) (hX : va_X b L xs s s.heap) (hbl : b < s.heap.size) (hL : L ≤ 4608) : ∀ (n i : Nat), L + 9 < i + n → i ≤ L → ∀ (r : vx_R) (t : vx_A) (w : Nat → Int64) (bb : vx_B) (r' : vx_R) (t' : vm_A) (w' : Nat → Bool) (bb' : vx_B), sr r t w bb r' t' w' bb' → vr_W p l e room_1 s m #[Value.ref b] below meth c g.1 (fun q : Nat => s.heap.size ≤ q) 4 29 44380 (lw_Z below #[Value.ref b] s) (vx_w g a r t w bb ++ vm_w g a' r' t' w' bb') 18 [(0, .ref b), (1, .ref (a 0)), (2, .ref (a' 0)), (3, .int (nI i))] [] := by
  have hbA : ¬ (fun q : Nat => s.heap.size ≤ q) b := Nat.not_le.mpr hbl
  intro n
  induction n with
  | zero => intro i h1 h2; omega
  | succ n ih =>
    intro i h1 h2 r t w bb r' t' w' bb' hs
    refine vr_iload_n hF 3 rfl dL_law_18 rfl rfl ?_
    refine vr_aload_n hF 0 rfl dL_law_19 rfl rfl ?_
    refine vr_slen hF hX hbl hbA dL_law_20 rfl ?_
    refine vr_bipush (v := nI 9) hF dL_law_21 (by decide +kernel) rfl ?_
    refine vr_isub (v := nI L - nI 9) hF dL_law_23 rfl rfl ?_
    have e9 : (nI L - nI 9).toInt = (L : Int) - 9 := pk_sub_toInt (by omega) (by decide)
    have ei : (nI i).toInt = (i : Int) := nI_toInt (by omega)
    refine vr_icmp_gt (tgt := 687) hF dL_law_24 (by decide) rfl (fun c_24 => ?_) (fun c_24 => ?_)
    · refine vr_iconst (v := nI 1) hF dL_law_687 (by decide +kernel) rfl ?_
      intro H locs ls hP hD hS hl
      refine va_forget (fun q hq => hS.2.2 q hq) ?_
      refine W.widen (k := 600000) (n := 7302250) (Nat.le_of_ble_eq_true rfl) (Nat.le_of_ble_eq_true rfl) ?_
      exact lw_ret hF.1.1 hF.1.2.1 hr hlocks dL_law_688
    · have hi : i + 9 ≤ L := by
        have : ¬ (nI L - nI 9).toInt < (nI i).toInt := fun q => c_24 (Int32.lt_iff_toInt_lt.mpr q)
        rw [e9, ei] at this; omega
      have hk : ∀ (r : vx_R) (t : vx_A) (w : Nat → Int64) (bb : vx_B) (r' : vx_R) (t' : vm_A) (w' : Nat → Bool) (bb' : vx_B), sr r t w bb r' t' w' bb' → vr_W p l e room_1 s m #[Value.ref b] below meth c g.1 (fun q : Nat => s.heap.size ≤ q) 4 29 44380 (lw_Z below #[Value.ref b] s) (vx_w g a r t w bb ++ vm_w g a' r' t' w' bb') 681 [(0, .ref b), (1, .ref (a 0)), (2, .ref (a' 0)), (3, .int (nI i))] [] := by
        intro r t w bb r' t' w' bb' hs
        refine vr_iinc (lv' := [(3, .int (nI (i + 9))), (0, .ref b), (1, .ref (a 0)), (2, .ref (a' 0))]) hF (nI (i + 9)) 3 rfl dL_law_681 (by rw [show Int32.ofInt 9 = nI 9 by decide +kernel]; exact nI_add i 9) (by decide) rfl rfl ?_
        refine vr_goto (tgt := 18) hF dL_law_684 (by decide) ?_
        refine vr_sub [1, 2, 3, 0] rfl ?_
        exact ih (i + 9) (by omega) hi r t w bb r' t' w' bb' hs
      refine vr_aload_n hF 0 rfl dL_law_27 rfl rfl ?_
      refine vr_iload_n hF 3 rfl dL_law_28 rfl rfl ?_
      refine vr_sld (i := i) hF hX hbl hbA (by omega) (by omega) dL_law_29 rfl ?_
      refine vr_bipush (v := nI 15) hF dL_law_30 (by decide +kernel) rfl ?_
      obtain ⟨j, hj, ej⟩ := pk_andE (xs i) (m := nI 15) 4 (by decide +kernel)
      refine vr_iand (v := nI j) hF dL_law_32 ej rfl ?_
      match j, hj with
      | 0, _ => exact vr_tabIn (tgt := 92) hF dL_law_33 (by decide +kernel) (by decide +kernel) (off := 59) (by decide +kernel) (by decide) (law_c0 hF hX hbl hbA hL i hi r t w bb r' t' w' bb' hs hk)
      | 1, _ => exact vr_tabIn (tgt := 115) hF dL_law_33 (by decide +kernel) (by decide +kernel) (off := 82) (by decide +kernel) (by decide) (law_c1 hF hX hbl hbA hL i hi r t w bb r' t' w' bb' hs hk)
      | 2, _ => exact vr_tabIn (tgt := 274) hF dL_law_33 (by decide +kernel) (by decide +kernel) (off := 241) (by decide +kernel) (by decide) (law_c2 hF hX hbl hbA hL i hi r t w bb r' t' w' bb' hs hk)
      | 3, _ => exact vr_tabIn (tgt := 347) hF dL_law_33 (by decide +kernel) (by decide +kernel) (off := 314) (by decide +kernel) (by decide) (law_c3 hF hX hbl hbA hL i hi r t w bb r' t' w' bb' hs hk)
      | 4, _ => exact vr_tabIn (tgt := 420) hF dL_law_33 (by decide +kernel) (by decide +kernel) (off := 387) (by decide +kernel) (by decide) (law_c4 hF hX hbl hbA hL i hi r t w bb r' t' w' bb' hs hk)
      | 5, _ => exact vr_tabIn (tgt := 443) hF dL_law_33 (by decide +kernel) (by decide +kernel) (off := 410) (by decide +kernel) (by decide) (law_c5 hF hX hbl hbA hL i hi r t w bb r' t' w' bb' hs hk)
      | 6, _ => exact vr_tabIn (tgt := 476) hF dL_law_33 (by decide +kernel) (by decide +kernel) (off := 443) (by decide +kernel) (by decide) (law_c6 hF hX hbl hbA hL i hi r t w bb r' t' w' bb' hs hk)
      | 7, _ => exact vr_tabIn (tgt := 549) hF dL_law_33 (by decide +kernel) (by decide +kernel) (off := 516) (by decide +kernel) (by decide) (law_c7 hF hX hbl hbA hL i hi r t w bb r' t' w' bb' hs hk)
      | 8, _ => exact vr_tabIn (tgt := 582) hF dL_law_33 (by decide +kernel) (by decide +kernel) (off := 549) (by decide +kernel) (by decide) (law_c8 hF hX hbl hbA hL i hi r t w bb r' t' w' bb' hs hk)
      | 9, _ => exact vr_tabIn (tgt := 605) hF dL_law_33 (by decide +kernel) (by decide +kernel) (off := 572) (by decide +kernel) (by decide) (law_c9 hF hX hbl hbA hL i hi r t w bb r' t' w' bb' hs hk)
      | 10, _ => exact vr_tabIn (tgt := 638) hF dL_law_33 (by decide +kernel) (by decide +kernel) (off := 605) (by decide +kernel) (by decide) (law_c10 hF hX hbl hbA hL i hi r t w bb r' t' w' bb' hs hk)
      | 11, _ => exact vr_tabOut (tgt := 681) hF dL_law_33 (by decide +kernel) (by decide) (hk r t w bb r' t' w' bb' hs)
      | 12, _ => exact vr_tabOut (tgt := 681) hF dL_law_33 (by decide +kernel) (by decide) (hk r t w bb r' t' w' bb' hs)
      | 13, _ => exact vr_tabOut (tgt := 681) hF dL_law_33 (by decide +kernel) (by decide) (hk r t w bb r' t' w' bb' hs)
      | 14, _ => exact vr_tabOut (tgt := 681) hF dL_law_33 (by decide +kernel) (by decide) (hk r t w bb r' t' w' bb' hs)
      | 15, _ => exact vr_tabOut (tgt := 681) hF dL_law_33 (by decide +kernel) (by decide) (hk r t w bb r' t' w' bb' hs)
      | j + 16, hj => exact absurd hj (by omega)
set_option maxHeartbeats 4000000 in
set_option maxRecDepth 100000 in
/-- THE LAW, from its entry -/
theorem whole_start {p : Program} {e : Env} {s : State} {m : MethodId} {below : List Frame} {meth : Method} {c : Code} (l : Launch) {b L : Nat} {xs : Nat → Int32} (hL : L ≤ 4608) (C0 : lw_At p s m meth c b L xs) : W p l e room_1 s m #[Value.ref b] below meth c s.heap [] 0 0 (lw_Z below #[Value.ref b] s) (entryFrame m ([Value.ref b] : List Value).toArray 4) := by
  obtain ⟨hx, hb, hr, hml, hown, hts, hX, hbl, hlocks, hgv⟩ := id C0
  have hT : ∀ w ∈ vr_T, w.before #[Value.ref b] s = true := fun w h => hts w (List.mem_filter.mp h).1
  obtain ⟨c0, iS0, hKn0⟩ := u_known (C := RX0) (T := TX0) (N := 8) (n := 8) hT inX0 (hT _ insX0)
  obtain ⟨c1, iS1, hKn1⟩ := u_known (C := RX1) (T := TX1) (N := 2) (n := 2) hT inX1 (hT _ insX1)
  obtain ⟨c2, iS2, hKn2⟩ := u_known (C := RX2) (T := TX2) (N := 1) (n := 1) hT inX2 (hT _ insX2)
  obtain ⟨c3, iS3, hKn3⟩ := u_known (C := RX3) (T := TX3) (N := 4) (n := 4) hT inX3 (hT _ insX3)
  obtain ⟨c4, iS4, hKn4⟩ := u_known (C := RX4) (T := TX4) (N := 4) (n := 4) hT inX4 (hT _ insX4)
  obtain ⟨c5, iS5, hKn5⟩ := u_known (C := RX5) (T := TX5) (N := 15) (n := 15) hT inX5 (hT _ insX5)
  obtain ⟨dC, dI, hKc⟩ : ∃ (dC : Nat → ClassId) (dI : Nat → Nat → Nat), ∀ (k : Nat) (q : vw_C), vwCl[k]? = some q → u_Kn s q.1 q.2.1 q.2.2 (dC k) (dI k) := by
    refine ⟨fun k => match k with | 0 => c0 | 1 => c1 | 2 => c2 | 3 => c3 | 4 => c4 | _ => c5, fun k => match k with | 0 => iS0 | 1 => iS1 | 2 => iS2 | 3 => iS3 | 4 => iS4 | _ => iS5, ?_⟩
    intro k q hq
    match k, hq with
    | 0, hq => cases hq; exact hKn0
    | 1, hq => cases hq; exact hKn1
    | 2, hq => cases hq; exact hKn2
    | 3, hq => cases hq; exact hKn3
    | 4, hq => cases hq; exact hKn4
    | 5, hq => cases hq; exact hKn5
    | k + 6, hq => simp [vwCl] at hq
  obtain ⟨cI, aI1, aI2⟩ := vr_arr (hT _ ar_int) (fun _ h => h)
  obtain ⟨cL, aL1, aL2⟩ := vr_arr (hT _ ar_long) (fun _ h => h)
  obtain ⟨cZ, aZ1, aZ2⟩ := vr_arr (hT _ ar_boolean) (fun _ h => h)
  obtain ⟨g, hg⟩ : ∃ g : vr_G, g = ((dC, dI), cI, cL, cZ) := ⟨_, rfl⟩
  have hK : va_K g.1 vwCl (vr_tys g) s := by
    subst hg
    refine ⟨hKc, fun k q hq => ?_⟩
    match k, hq with
    | 0, hq => cases hq; exact ⟨aI1, aI2⟩
    | 1, hq => cases hq; exact ⟨aL1, aL2⟩
    | 2, hq => cases hq; exact ⟨aZ1, aZ2⟩
    | k + 3, hq => simp [vr_tys] at hq
  have hA : ∀ q : Nat, s.heap.size ≤ q → (fun q : Nat => s.heap.size ≤ q) q := fun _ h => h
  have hF : vr_F p s m c code 4 #[Value.ref b] vr_T RL g.1 (vr_tys g) (fun q : Nat => s.heap.size ≤ q) := ⟨⟨hx, hb, hml, hown, hT⟩, hK, hA⟩
  have hl := lv_entry ([.ref b]) (n := 4) (Nat.le_of_ble_eq_true rfl)
  rw [lg_entry_eq]
  generalize (lg_sl ([.ref b]) ++ List.replicate (4 - (lg_sl ([.ref b])).length) Slot.unset).toArray = ls at hl ⊢
  have hl : lv_has ls 4 [(0, .ref b)] := hl
  have hP : va_P g.1 vwCl [] s.heap := fun k q h => by simp at h
  have hD : va_D (fun q : Nat => s.heap.size ≤ q) [] := ⟨fun i j p q h => by simp at h, fun k q h => by simp at h⟩
  have goal : vr_W p l e room_1 s m #[Value.ref b] below meth c g.1 (fun q : Nat => s.heap.size ≤ q) 4 0 0 (lw_Z below #[Value.ref b] s) [] 0 [(0, .ref b)] [] := by
    refine vr_new (ci := 4) (fs := [.null, .null, .null, .null]) hF inX4 tyX4 tyX4_ok clL_7 insX4 iniX4 rfl (fun j hj => by rcases (show j = 0 ∨ j = 1 ∨ j = 2 ∨ j = 3 by omega) with rfl | rfl | rfl | rfl <;> rfl) (Nat.le_of_ble_eq_true rfl) (Nat.le_of_ble_eq_true rfl) dL_law_0 rfl (fun q0 => ?_)
    refine vr_to (ws' := [(q0, .inr (4, [.null, .null, .null, .null]))]) (lv' := [(0, .ref b)]) (st' := [.ref q0]) rfl rfl rfl ?_
    refine vr_dup hF dL_law_3 rfl rfl ?_
    refine vr_partI (wr := []) (rest := [.ref q0]) hF (xc_V_init l g q0) (fun w h => by rcases List.mem_cons.mp h with rfl | h; rfl; rcases List.mem_cons.mp h with rfl | h; rfl; rcases List.mem_cons.mp h with rfl | h; rfl; rcases List.mem_cons.mp h with rfl | h; rfl; cases h) (fun w h U hW => by rcases List.mem_cons.mp h with rfl | h; exact va_Nw.warmM hW (va_Nw.of rfl (hts _ mlX4_9)); rcases List.mem_cons.mp h with rfl | h; exact va_Nw.warmM hW (va_Nw.of rfl (hts _ mlX4_18)); rcases List.mem_cons.mp h with rfl | h; exact va_Nw.warmM hW (va_Nw.of rfl (hts _ mlX4_25)); rcases List.mem_cons.mp h with rfl | h; exact va_Nw.warmM hW (va_Nw.of rfl (hts _ mlX4_32)); cases h) (vr_goodc vr_hb0 cdX4_init) rfl rfl rfl iniX4 mlL_9 imX4_init rfl (by decide +kernel) ⟨Nat.le_of_ble_eq_true rfl, Nat.le_of_ble_eq_true rfl⟩ ⟨Nat.le_of_ble_eq_true rfl, Nat.le_of_ble_eq_true rfl⟩ (Nat.le_of_ble_eq_true rfl) dL_law_4 rfl [0] [] rfl rfl rfl rfl (by decide) (fun u => ?_)
    refine vr_to (ws' := vx_w g (vr_at0 q0 u) vx_r0 vx_t0 (fun _ => 0) vx_b0) (lv' := [(0, .ref b)]) (st' := [.ref q0]) rfl rfl rfl ?_
    refine vr_astore_n (lv' := [(1, .ref q0), (0, .ref b)]) hF dL_law_7 rfl (by decide) rfl rfl ?_
    refine vr_new (ci := 5) (fs := [.int 0, .int 0, .null, .null, .null, .int 0, .null, .null, .null, .null, .null, .null, .null, .null, .int 0]) hF inX5 tyX5 tyX5_ok clL_10 insX5 iniX5 rfl (fun j hj => by rcases (show j = 0 ∨ j = 1 ∨ j = 2 ∨ j = 3 ∨ j = 4 ∨ j = 5 ∨ j = 6 ∨ j = 7 ∨ j = 8 ∨ j = 9 ∨ j = 10 ∨ j = 11 ∨ j = 12 ∨ j = 13 ∨ j = 14 by omega) with rfl | rfl | rfl | rfl | rfl | rfl | rfl | rfl | rfl | rfl | rfl | rfl | rfl | rfl | rfl <;> rfl) (Nat.le_of_ble_eq_true rfl) (Nat.le_of_ble_eq_true rfl) dL_law_8 rfl (fun q1 => ?_)
    refine vr_dup hF dL_law_11 rfl rfl ?_
    refine vr_partI (wr := vx_w g (vr_at0 q0 u) vx_r0 vx_t0 (fun _ => 0) vx_b0) (rest := [.ref q1]) hF (xc_VModel_init l g q1) (fun _ h => by cases h) (fun _ h => by cases h) (vr_goodc vr_hb0 cdX5_init) rfl rfl rfl iniX5 mlL_12 imX5_init rfl (by decide +kernel) ⟨Nat.le_of_ble_eq_true rfl, Nat.le_of_ble_eq_true rfl⟩ ⟨Nat.le_of_ble_eq_true rfl, Nat.le_of_ble_eq_true rfl⟩ (Nat.le_of_ble_eq_true rfl) dL_law_12 rfl [17] [0, 1, 2, 3, 4, 5, 6, 7, 8, 9, 10, 11, 12, 13, 14, 15, 16] rfl rfl rfl rfl (by decide) (fun u' => ?_)
    refine vr_to (ws' := vx_w g (vr_at0 q0 u) vx_r0 vx_t0 (fun _ => 0) vx_b0 ++ vm_w g (vr_at0 q1 u') vx_r0 vm_t0 (fun _ => false) vx_b0) (lv' := [(1, .ref q0), (0, .ref b)]) (st' := [.ref q1]) rfl rfl rfl ?_
    refine vr_widen (k := 29) (n := 44380) (Nat.le_of_ble_eq_true rfl) (Nat.le_of_ble_eq_true rfl) ?_
    refine vr_astore_n (lv' := [(2, .ref q1), (1, .ref q0), (0, .ref b)]) hF dL_law_15 rfl (by decide) rfl rfl ?_
    refine vr_iconst (v := nI 0) hF dL_law_16 (by decide +kernel) rfl ?_
    refine vr_istore_n (lv' := [(3, .int (nI 0)), (2, .ref q1), (1, .ref q0), (0, .ref b)]) hF dL_law_17 rfl (by decide) rfl rfl ?_
    refine vr_sub [3, 2, 1, 0] rfl ?_
    exact law_loop (a := vr_at0 q0 u) (a' := vr_at0 q1 u') hF hr hlocks hX hbl hL (L + 10) 0 (by omega) (Nat.zero_le _) _ _ _ _ _ _ _ _ sr_new
  exact goal s.heap [] ls hP hD va_S.rf hl
end
section
-- ===== YOUR PART ENDS =====
set_option maxHeartbeats 4000000 in
theorem lw_walk (l : Launch) (b : Addr) (xs : List Int32) : MetFree l x (headSpec (Jvm.Cond.code x code maxLocals ret :: tables_1) room_1) (lw_P b xs) (fun _ _ _ _ _ => True) lw_Q := by
  refine MetFree.of_bodyS (code := code) (maxLocals := maxLocals) (ret := ret) (by decide) ?_ ?_
  · intro args s m h hn
    obtain ⟨meth, c, h1, h2, h3, h4, h5, h6, -, -⟩ := Cond.code_spec hn (atoms_spec (ws := Jvm.Cond.code x code maxLocals ret :: tables_1) h _ List.mem_cons_self)
    exact ⟨meth, c, h1, h2, h3, h4, h5, h6⟩
  · intro p e s m args below meth c s₁ B hml0 hP _
    obtain ⟨rfl, hx, hbd, hgv⟩ := hP
    obtain ⟨scr, harrAt, hlist, hof, hsmall⟩ := hx
    obtain ⟨hcb, hkn, -, -⟩ := State.arrayAt?_spec harrAt
    have hown : s.vm.findClass R_law = some m.cls := findClass_of_methodNamed B.named
    have hts0 : ∀ c ∈ (Jvm.Cond.code x code maxLocals ret :: tables_1), c.before #[Value.ref b] s = true := atoms_spec (ws := Jvm.Cond.code x code maxLocals ret :: tables_1) B.pre
    have hts : ∀ w ∈ lw_tbl, w.before #[Value.ref b] s = true := k2_hts_sels lw_privs (fun w hw => hts0 w (List.mem_cons_of_mem _ hw)) lw_privs_ok
    have hml : c.maxLocals = 4 := B.maxLocals_eq (hts0 _ List.mem_cons_self)
    have X₀ : Stand p l e room_1 s m #[Value.ref b] below meth c s₁ [] 0 0 := Stand.of_body B
    have hh0 : s₁.heap = s.heap := by rw [B.state]; rfl
    have hsz : scr.slots.size = xs.length := by rw [← Array.length_toList, hlist, List.length_map]
    have hval : ∀ j : Nat, j < xs.length → scr.slots[j]? = some (.int (xs.getD j 0)) := fun j hj => by
      rw [← Array.getElem?_toList, hlist]
      simp [hj]
    have hbl : b < s.heap.size := (Array.getElem?_eq_some_iff.mp hcb).1
    have hX : va_X b xs.length (fun j => xs.getD j 0) s s.heap := ⟨scr, hcb, hof, hkn, hsz, hval⟩
    have K : W p l e room_1 s m #[Value.ref b] below meth c s₁.heap [] 0 0 (lw_Z below #[Value.ref b] s) (entryFrame m ([Value.ref b] : List Value).toArray 4) := by
      rw [hh0]
      exact whole_start l hbd ⟨B.exec, B.bytes, B.returns, hml, hown, hts, hX, hbl, B.notSynchronized, hgv⟩
    obtain ⟨t, a1, o, b1, b2, b3⟩ := K s₁ rfl X₀
    exact ⟨t, o, a1, b1, b2, b3⟩
theorem lw_pre_spec {args : Array Value} {s : State} (h : (Jvm.Cond.and given_1 narrow_1).before args s = true) (hr : rest_1_c.before args s = true) : ∃ (b : Addr) (xs : List Int32), lw_P b xs args s := by
  have hs := flat_of_before _ h
  have hq := flat_of_before _ hr
  have hc : (Cond.count 1).before args s = true := hs _ (by decide +kernel)
  have harr : (Cond.arrayOf (.arg 0) .int).before args s = true := hs _ (by decide +kernel)
  have hle : (Cond.le (.length (.arg 0)) (.int 4608)).before args s = true := hs _ (by decide +kernel)
  have hlen : (Cond.isInt (.length (.arg 0))).before args s = true := hq _ (by decide +kernel)
  have hall : (Cond.all (.arg 0) (.isInt (.elem (.arg 0) (.index 0)))).before args s = true := hq _ (by decide +kernel)
  obtain ⟨b, xs, hb, hx⟩ := State.ints_of_pre rfl harr hlen hall
  have hsm : xs.length < 2 ^ 31 := hx.choose_spec.2.2.2
  have hev : (Term.length (.arg 0)).eval args s none [] s = some (.int xs.length.toInt32) := hx.length_eval hb
  have hv := Cond.le_ints hev (show (Term.int 4608).eval args s none [] s = some (.int 4608) from rfl)
  have hd : xs.length.toInt32 ≤ 4608 := by
    simpa [Cond.before, Cond.holds, hv] using hle
  have hN : xs.length ≤ 4608 := (Int32.ofNat_le_ofNat hsm (by decide)).mp (show Int32.ofNat xs.length ≤ Int32.ofNat 4608 from hd)
  exact ⟨b, xs, Cond.one_arg hc (show args[0]? = some (.ref b) from hb), hx, hN, h⟩
theorem lw_comes (l : Launch) : Comes l x (Jvm.Cond.code x code maxLocals ret :: tables_1) room_1 (fun tb e args s => Calls_1 tb e args s ∧ rest_1 tb e args s ∧ Pre_1 tb e args s)
    (fun _ _ args s o t => lw_Q args s o t) := by
  intro p e ha hc hk s m args below hf hfit hheap happ hpre
  obtain ⟨b, xs, hP⟩ := lw_pre_spec hpre.2.2 hpre.2.1
  obtain ⟨k, o, h1, h2, h3, hQ⟩ := lw_walk l b xs p e ha hc hk s m args below hf ((Spec.applies_iff_loose hf).mp happ).1 hP trivial
  exact ⟨k, o, h1, h2, h3, hQ⟩
theorem lw_frame {s t : State} {o : Outcome} {args : Array Value} (h : Framed s o t [] 600000 7302250) :
    Framed s o t (fieldLocs frame_1_writes args s ++ arrayLocs frame_1_arrays args s ++ staticLocs frame_1_statics s) 600000 7302250 := h
theorem lw_limb (L : Cond) (hL : ∀ (args : Array Value) (s t : State), L.after args s (.returned (some (.int 1))) t = true) :
    ArmFor flags0 classFile x code maxLocals ret World_1 tables_1 room_1 Calls_1 rest_1 Pre_1
      (fun tb e a s o t => postC L tb e a s o t ∧ Framed s o t (fieldLocs frame_1_writes a s ++ arrayLocs frame_1_arrays a s ++ staticLocs frame_1_statics s) 600000 7302250) := by
  intro l _ _ _ p e ha hc hk s m args below hf hfit hheap happ hpre
  obtain ⟨k, o, h1, h2, h3, rfl, hF⟩ := lw_comes l p e ha hc hk s m args below hf hfit hheap happ hpre
  exact ⟨k, _, h1, h2, h3, hL args s _, lw_frame hF⟩
theorem i_vc : Claimed_1_1 ∧ Claimed_1_2 := ⟨lw_limb limb_1_1 (fun args s t => by simp [limb_1_1, Cond.after, Cond.holds, Cond.value]), lw_limb limb_1_2 (fun args s t => Cond.after_iff.mpr (by
  first | (rw [show limb_1_2 = Cond.eq .result (.int 1) from rfl, Cond.eq_ints (x := 1) (y := 1) rfl rfl]; simp; done) | (simp [limb_1_2, Cond.value, Term.eval]; done)))⟩
end
