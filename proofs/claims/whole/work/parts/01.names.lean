-- ===== PART A: goes FIRST, ahead of the names: the tables' words, and 'selects' of the private methods out of them =====
/-- a private method of a class that the tables say can be made, by its rows of tables_1 -/
def lw_okq (q : MethodName × Nat) : Prop := (q.1.cls ≠ "java/lang/invoke/MethodHandle" ∧ q.1.cls ≠ "java/lang/invoke/VarHandle") ∧ Cond.instantiable q.1.cls q.2 ∈ tables_1 ∧ Cond.privateMethod q.1 ∈ tables_1 ∧ Cond.instanceMethod q.1 ∈ tables_1
theorem lw_p0 : lw_okq (⟨"DeltaPlayfield", "doNextCommand", "(I)V"⟩, 5) := ⟨⟨by decide +kernel, by decide +kernel⟩, List.mem_of_getElem? (i := 11) (by decide +kernel), List.mem_of_getElem? (i := 254) (by decide +kernel), List.mem_of_getElem? (i := 255) (by decide +kernel)⟩
theorem lw_p1 : lw_okq (⟨"DeltaPlayfield", "sendSnapshot", "(I)V"⟩, 5) := ⟨⟨by decide +kernel, by decide +kernel⟩, List.mem_of_getElem? (i := 11) (by decide +kernel), List.mem_of_getElem? (i := 276) (by decide +kernel), List.mem_of_getElem? (i := 277) (by decide +kernel)⟩
theorem lw_p2 : lw_okq (⟨"DeltaPlayfield$Account", "baseAt", "(I)I"⟩, 4) := ⟨⟨by decide +kernel, by decide +kernel⟩, List.mem_of_getElem? (i := 148) (by decide +kernel), List.mem_of_getElem? (i := 298) (by decide +kernel), List.mem_of_getElem? (i := 299) (by decide +kernel)⟩
theorem lw_p3 : lw_okq (⟨"DeltaPlayfield$Account", "snapshotSize", "(II)I"⟩, 4) := ⟨⟨by decide +kernel, by decide +kernel⟩, List.mem_of_getElem? (i := 148) (by decide +kernel), List.mem_of_getElem? (i := 305) (by decide +kernel), List.mem_of_getElem? (i := 306) (by decide +kernel)⟩
theorem lw_p4 : lw_okq (⟨"DeltaPlayfieldModel", "seen", "(I)I"⟩, 12) := ⟨⟨by decide +kernel, by decide +kernel⟩, List.mem_of_getElem? (i := 382) (by decide +kernel), List.mem_of_getElem? (i := 446) (by decide +kernel), List.mem_of_getElem? (i := 447) (by decide +kernel)⟩
theorem lw_p5 : lw_okq (⟨"DeltaPlayfieldModel", "send", "(IIIII)V"⟩, 12) := ⟨⟨by decide +kernel, by decide +kernel⟩, List.mem_of_getElem? (i := 382) (by decide +kernel), List.mem_of_getElem? (i := 454) (by decide +kernel), List.mem_of_getElem? (i := 455) (by decide +kernel)⟩
theorem lw_p6 : lw_okq (⟨"DeltaPlayfieldModel", "stepFrom", "(II)I"⟩, 12) := ⟨⟨by decide +kernel, by decide +kernel⟩, List.mem_of_getElem? (i := 382) (by decide +kernel), List.mem_of_getElem? (i := 462) (by decide +kernel), List.mem_of_getElem? (i := 463) (by decide +kernel)⟩
theorem lw_p7 : lw_okq (⟨"DeltaPlayfieldModel", "there", "(I)Z"⟩, 12) := ⟨⟨by decide +kernel, by decide +kernel⟩, List.mem_of_getElem? (i := 382) (by decide +kernel), List.mem_of_getElem? (i := 470) (by decide +kernel), List.mem_of_getElem? (i := 471) (by decide +kernel)⟩
theorem lw_p8 : lw_okq (⟨"DeltaPlayfieldModel", "takeOut", "(I)V"⟩, 12) := ⟨⟨by decide +kernel, by decide +kernel⟩, List.mem_of_getElem? (i := 382) (by decide +kernel), List.mem_of_getElem? (i := 474) (by decide +kernel), List.mem_of_getElem? (i := 475) (by decide +kernel)⟩
theorem lw_p9 : lw_okq (⟨"DeltaPlayfieldModel", "size", "(I)I"⟩, 12) := ⟨⟨by decide +kernel, by decide +kernel⟩, List.mem_of_getElem? (i := 382) (by decide +kernel), List.mem_of_getElem? (i := 494) (by decide +kernel), List.mem_of_getElem? (i := 495) (by decide +kernel)⟩
theorem lw_p10 : lw_okq (⟨"DeltaPlayfieldModel", "bits", "(IIII)I"⟩, 12) := ⟨⟨by decide +kernel, by decide +kernel⟩, List.mem_of_getElem? (i := 382) (by decide +kernel), List.mem_of_getElem? (i := 498) (by decide +kernel), List.mem_of_getElem? (i := 499) (by decide +kernel)⟩
theorem lw_p11 : lw_okq (⟨"DeltaPlayfieldModel", "sees", "(III)Z"⟩, 12) := ⟨⟨by decide +kernel, by decide +kernel⟩, List.mem_of_getElem? (i := 382) (by decide +kernel), List.mem_of_getElem? (i := 502) (by decide +kernel), List.mem_of_getElem? (i := 503) (by decide +kernel)⟩
def lw_privs_1 : List (MethodName × Nat) := [(⟨"DeltaPlayfield", "doNextCommand", "(I)V"⟩, 5), (⟨"DeltaPlayfield", "sendSnapshot", "(I)V"⟩, 5), (⟨"DeltaPlayfield$Account", "baseAt", "(I)I"⟩, 4), (⟨"DeltaPlayfield$Account", "snapshotSize", "(II)I"⟩, 4), (⟨"DeltaPlayfieldModel", "seen", "(I)I"⟩, 12), (⟨"DeltaPlayfieldModel", "send", "(IIIII)V"⟩, 12), (⟨"DeltaPlayfieldModel", "stepFrom", "(II)I"⟩, 12), (⟨"DeltaPlayfieldModel", "there", "(I)Z"⟩, 12), (⟨"DeltaPlayfieldModel", "takeOut", "(I)V"⟩, 12), (⟨"DeltaPlayfieldModel", "size", "(I)I"⟩, 12), (⟨"DeltaPlayfieldModel", "bits", "(IIII)I"⟩, 12), (⟨"DeltaPlayfieldModel", "sees", "(III)Z"⟩, 12)]
theorem lw_r1 : ∀ q ∈ lw_privs_1, lw_okq q := List.forall_mem_cons.mpr ⟨lw_p0, List.forall_mem_cons.mpr ⟨lw_p1, List.forall_mem_cons.mpr ⟨lw_p2, List.forall_mem_cons.mpr ⟨lw_p3, List.forall_mem_cons.mpr ⟨lw_p4, List.forall_mem_cons.mpr ⟨lw_p5, List.forall_mem_cons.mpr ⟨lw_p6, List.forall_mem_cons.mpr ⟨lw_p7, List.forall_mem_cons.mpr ⟨lw_p8, List.forall_mem_cons.mpr ⟨lw_p9, List.forall_mem_cons.mpr ⟨lw_p10, List.forall_mem_cons.mpr ⟨lw_p11, fun _ h => absurd h List.not_mem_nil⟩⟩⟩⟩⟩⟩⟩⟩⟩⟩⟩⟩
def lw_privs : List (MethodName × Nat) := lw_privs_1
def lw_tbl : List Cond := k2_sels lw_privs ++ tables_1
theorem lw_privs_ok : ∀ q ∈ lw_privs, lw_okq q := lw_r1
/-! names -/
def gtbl : List Cond := lw_tbl.filter goodWord
theorem gt_mem {w : Cond} (h : w ∈ lw_tbl) (g : goodWord w = true) : w ∈ gtbl := List.mem_filter.mpr ⟨h, g⟩
theorem gt_tab {w : Cond} (i : Nat) (h : tables_1[i]? = some w) : w ∈ lw_tbl := List.mem_append_right _ (List.mem_of_getElem? h)
theorem gt_sel {w : Cond} (i : Nat) (h : (k2_sels lw_privs)[i]? = some w) : w ∈ lw_tbl := List.mem_append_left _ (List.mem_of_getElem? h)
theorem gt_good {Ts : List Cond} {a : Cond} (hT : ∀ w ∈ gtbl, w ∈ Ts) (ha : a ∈ gtbl) : GoodIn Ts (a :: gtbl) := by
  intro w hw
  have h : w ∈ gtbl := (List.mem_cons.mp hw).elim (fun e => by rw [e]; exact ha) id
  exact ⟨hT w h, good_of_word (List.mem_filter.mp h).2⟩
theorem gt_goodL {Ts : List Cond} (hT : ∀ w ∈ gtbl, w ∈ Ts) (l : List Cond) (hl : ∀ w ∈ l, w ∈ gtbl) : GoodIn Ts l := fun w hw => ⟨hT w (hl w hw), good_of_word (List.mem_filter.mp (hl w hw)).2⟩
def R_D : String := "DeltaPlayfield"
def T_D : u_T := fun k => match k with
  | 0 => ("DeltaPlayfield", "field", "LDeltaPlayfield$Field;", true)
  | 1 => ("DeltaPlayfield", "network", "LDeltaPlayfield$Network;", true)
  | 2 => ("DeltaPlayfield", "clients", "[LDeltaPlayfield$Client;", true)
  | 3 => ("DeltaPlayfield", "accounts", "[LDeltaPlayfield$Account;", true)
  | _ => ("DeltaPlayfield", "now", "I", false)
def ty_D : Nat → FieldType := fun k => match k with
  | 0 => .object "DeltaPlayfield$Field"
  | 1 => .object "DeltaPlayfield$Network"
  | 2 => .array (.object "DeltaPlayfield$Client")
  | 3 => .array (.object "DeltaPlayfield$Account")
  | _ => .int
theorem nm_D : ∀ a, a < 5 → ∀ b, b < 5 → a ≠ b → (T_D a).2.1 ≠ (T_D b).2.1 := by decide +kernel
theorem tk_D : ∀ k, k < 5 → parseFieldDescriptor (T_D k).2.2.1 = some (ty_D k) := by decide +kernel
def R_F : String := "DeltaPlayfield$Field"
def T_F : u_T := fun k => match k with
  | 0 => ("DeltaPlayfield$Field", "walls", "[Z", true)
  | 1 => ("DeltaPlayfield$Field", "places", "[I", true)
  | _ => ("DeltaPlayfield$Field", "directions", "[I", true)
def ty_F : Nat → FieldType := fun k => match k with
  | 0 => .array .boolean
  | 1 => .array .int
  | _ => .array .int
theorem nm_F : ∀ a, a < 3 → ∀ b, b < 3 → a ≠ b → (T_F a).2.1 ≠ (T_F b).2.1 := by decide +kernel
theorem tk_F : ∀ k, k < 3 → parseFieldDescriptor (T_F k).2.2.1 = some (ty_F k) := by decide +kernel
def R_N : String := "DeltaPlayfield$Network"
def T_N : u_T := fun k => match k with
  | 0 => ("DeltaPlayfield$Network", "packets", "[LDeltaPlayfield$Packet;", true)
  | _ => ("DeltaPlayfield$Network", "size", "I", false)
def ty_N : Nat → FieldType := fun k => match k with
  | 0 => .array (.object "DeltaPlayfield$Packet")
  | _ => .int
theorem nm_N : ∀ a, a < 2 → ∀ b, b < 2 → a ≠ b → (T_N a).2.1 ≠ (T_N b).2.1 := by decide +kernel
theorem tk_N : ∀ k, k < 2 → parseFieldDescriptor (T_N k).2.2.1 = some (ty_N k) := by decide +kernel
def R_P : String := "DeltaPlayfield$Packet"
def T_P : u_T := fun k => match k with
  | 0 => ("DeltaPlayfield$Packet", "client", "I", false)
  | 1 => ("DeltaPlayfield$Packet", "isSnapshot", "Z", false)
  | 2 => ("DeltaPlayfield$Packet", "size", "I", false)
  | 3 => ("DeltaPlayfield$Packet", "tick", "I", false)
  | 4 => ("DeltaPlayfield$Packet", "done", "I", false)
  | 5 => ("DeltaPlayfield$Packet", "base", "I", false)
  | 6 => ("DeltaPlayfield$Packet", "places", "[I", true)
  | 7 => ("DeltaPlayfield$Packet", "commandCount", "I", false)
  | _ => ("DeltaPlayfield$Packet", "commands", "[I", true)
def ty_P : Nat → FieldType := fun k => match k with
  | 0 => .int
  | 1 => .boolean
  | 2 => .int
  | 3 => .int
  | 4 => .int
  | 5 => .int
  | 6 => .array .int
  | 7 => .int
  | _ => .array .int
theorem nm_P : ∀ a, a < 9 → ∀ b, b < 9 → a ≠ b → (T_P a).2.1 ≠ (T_P b).2.1 := by decide +kernel
theorem tk_P : ∀ k, k < 9 → parseFieldDescriptor (T_P k).2.2.1 = some (ty_P k) := by decide +kernel
def R_C : String := "DeltaPlayfield$Client"
def T_C : u_T := fun k => match k with
  | 0 => ("DeltaPlayfield$Client", "commands", "[I", true)
  | 1 => ("DeltaPlayfield$Client", "shown", "[I", true)
  | 2 => ("DeltaPlayfield$Client", "start", "I", false)
  | 3 => ("DeltaPlayfield$Client", "issued", "I", false)
  | 4 => ("DeltaPlayfield$Client", "seen", "I", false)
  | _ => ("DeltaPlayfield$Client", "newest", "I", false)
def ty_C : Nat → FieldType := fun k => match k with
  | 0 => .array .int
  | 1 => .array .int
  | 2 => .int
  | 3 => .int
  | 4 => .int
  | _ => .int
theorem nm_C : ∀ a, a < 6 → ∀ b, b < 6 → a ≠ b → (T_C a).2.1 ≠ (T_C b).2.1 := by decide +kernel
theorem tk_C : ∀ k, k < 6 → parseFieldDescriptor (T_C k).2.2.1 = some (ty_C k) := by decide +kernel
def R_A : String := "DeltaPlayfield$Account"
def T_A : u_T := fun k => match k with
  | 0 => ("DeltaPlayfield$Account", "held", "[I", true)
  | 1 => ("DeltaPlayfield$Account", "told", "[I", true)
  | 2 => ("DeltaPlayfield$Account", "done", "I", false)
  | _ => ("DeltaPlayfield$Account", "acknowledged", "I", false)
def ty_A : Nat → FieldType := fun k => match k with
  | 0 => .array .int
  | 1 => .array .int
  | 2 => .int
  | _ => .int
theorem nm_A : ∀ a, a < 4 → ∀ b, b < 4 → a ≠ b → (T_A a).2.1 ≠ (T_A b).2.1 := by decide +kernel
theorem tk_A : ∀ k, k < 4 → parseFieldDescriptor (T_A k).2.2.1 = some (ty_A k) := by decide +kernel
def R_M : String := "DeltaPlayfieldModel"
def T_M : u_T := fun k => match k with
  | 0 => ("DeltaPlayfieldModel", "walls", "[Z", true)
  | 1 => ("DeltaPlayfieldModel", "direction", "[I", true)
  | 2 => ("DeltaPlayfieldModel", "now", "I", false)
  | 3 => ("DeltaPlayfieldModel", "stood", "[I", true)
  | 4 => ("DeltaPlayfieldModel", "doneAt", "[I", true)
  | 5 => ("DeltaPlayfieldModel", "commands", "[I", true)
  | 6 => ("DeltaPlayfieldModel", "held", "[Z", true)
  | 7 => ("DeltaPlayfieldModel", "issued", "[I", true)
  | 8 => ("DeltaPlayfieldModel", "acked", "[I", true)
  | 9 => ("DeltaPlayfieldModel", "newest", "[I", true)
  | 10 => ("DeltaPlayfieldModel", "air", "[I", true)
  | _ => ("DeltaPlayfieldModel", "inAir", "I", false)
def ty_M : Nat → FieldType := fun k => match k with
  | 0 => .array .boolean
  | 1 => .array .int
  | 2 => .int
  | 3 => .array .int
  | 4 => .array .int
  | 5 => .array .int
  | 6 => .array .boolean
  | 7 => .array .int
  | 8 => .array .int
  | 9 => .array .int
  | 10 => .array .int
  | _ => .int
theorem nm_M : ∀ a, a < 12 → ∀ b, b < 12 → a ≠ b → (T_M a).2.1 ≠ (T_M b).2.1 := by decide +kernel
theorem tk_M : ∀ k, k < 12 → parseFieldDescriptor (T_M k).2.2.1 = some (ty_M k) := by decide +kernel
def R_L : String := "DeltaPlayfieldLaw"
abbrev clsx : List vw_C := [(R_D, T_D, 5), (R_F, T_F, 3), (R_N, T_N, 2), (R_P, T_P, 9), (R_C, T_C, 6), (R_A, T_A, 4), (R_M, T_M, 12)]
abbrev b_D_init : ByteArray := prog_1_method_1_code
def y_D_init : MethodName := ⟨R_D, "<init>", "()V"⟩
abbrev w_D_init : List Cond := .code y_D_init b_D_init 2 none :: gtbl
abbrev b_D_wall : ByteArray := prog_1_method_2_code
def y_D_wall : MethodName := ⟨R_D, "wall", "(II)Z"⟩
abbrev w_D_wall : List Cond := .code y_D_wall b_D_wall 3 (some .boolean) :: gtbl
abbrev b_D_place : ByteArray := prog_1_method_3_code
def y_D_place : MethodName := ⟨R_D, "place", "(IIII)Z"⟩
abbrev w_D_place : List Cond := .code y_D_place b_D_place 5 (some .boolean) :: gtbl
abbrev b_D_input : ByteArray := prog_1_method_4_code
def y_D_input : MethodName := ⟨R_D, "input", "(II)I"⟩
abbrev w_D_input : List Cond := .code y_D_input b_D_input 4 (some .int) :: gtbl
abbrev b_D_report : ByteArray := prog_1_method_5_code
def y_D_report : MethodName := ⟨R_D, "report", "(I)Z"⟩
abbrev w_D_report : List Cond := .code y_D_report b_D_report 3 (some .boolean) :: gtbl
abbrev b_D_tick : ByteArray := prog_1_method_6_code
def y_D_tick : MethodName := ⟨R_D, "tick", "()I"⟩
abbrev w_D_tick : List Cond := .code y_D_tick b_D_tick 2 (some .int) :: gtbl
abbrev b_D_deliver : ByteArray := prog_1_method_7_code
def y_D_deliver : MethodName := ⟨R_D, "deliver", "(I)I"⟩
abbrev w_D_deliver : List Cond := .code y_D_deliver b_D_deliver 3 (some .int) :: gtbl
abbrev b_D_lose : ByteArray := prog_1_method_8_code
def y_D_lose : MethodName := ⟨R_D, "lose", "(I)Z"⟩
abbrev w_D_lose : List Cond := .code y_D_lose b_D_lose 2 (some .boolean) :: gtbl
abbrev b_D_copy : ByteArray := prog_1_method_9_code
def y_D_copy : MethodName := ⟨R_D, "copy", "(I)Z"⟩
abbrev w_D_copy : List Cond := .code y_D_copy b_D_copy 3 (some .boolean) :: gtbl
abbrev b_D_flight : ByteArray := prog_1_method_10_code
def y_D_flight : MethodName := ⟨R_D, "flight", "()I"⟩
abbrev w_D_flight : List Cond := .code y_D_flight b_D_flight 1 (some .int) :: gtbl
abbrev b_D_packet : ByteArray := prog_1_method_11_code
def y_D_packet : MethodName := ⟨R_D, "packet", "(II)I"⟩
abbrev w_D_packet : List Cond := .code y_D_packet b_D_packet 4 (some .int) :: gtbl
abbrev b_D_position : ByteArray := prog_1_method_12_code
def y_D_position : MethodName := ⟨R_D, "position", "(I)I"⟩
abbrev w_D_position : List Cond := .code y_D_position b_D_position 2 (some .int) :: gtbl
abbrev b_D_view : ByteArray := prog_1_method_13_code
def y_D_view : MethodName := ⟨R_D, "view", "(II)I"⟩
abbrev w_D_view : List Cond := .code y_D_view b_D_view 3 (some .int) :: gtbl
abbrev b_D_predicted : ByteArray := prog_1_method_14_code
def y_D_predicted : MethodName := ⟨R_D, "predicted", "(I)I"⟩
abbrev w_D_predicted : List Cond := .code y_D_predicted b_D_predicted 6 (some .int) :: gtbl
abbrev b_D_count : ByteArray := prog_1_method_15_code
def y_D_count : MethodName := ⟨R_D, "count", "(II)I"⟩
abbrev w_D_count : List Cond := .code y_D_count b_D_count 3 (some .int) :: gtbl
abbrev b_D_doNextCommand : ByteArray := prog_1_method_16_code
def y_D_doNextCommand : MethodName := ⟨R_D, "doNextCommand", "(I)V"⟩
abbrev w_D_doNextCommand : List Cond := .code y_D_doNextCommand b_D_doNextCommand 3 none :: gtbl
abbrev b_D_sendSnapshot : ByteArray := prog_1_method_17_code
def y_D_sendSnapshot : MethodName := ⟨R_D, "sendSnapshot", "(I)V"⟩
abbrev w_D_sendSnapshot : List Cond := .code y_D_sendSnapshot b_D_sendSnapshot 4 none :: gtbl
abbrev b_D_isSquare : ByteArray := prog_1_method_18_code
def y_D_isSquare : MethodName := ⟨R_D, "isSquare", "(II)Z"⟩
abbrev w_D_isSquare : List Cond := .code y_D_isSquare b_D_isSquare 2 (some .boolean) :: gtbl
abbrev b_D_placeOf : ByteArray := prog_1_method_19_code
def y_D_placeOf : MethodName := ⟨R_D, "placeOf", "(II)I"⟩
abbrev w_D_placeOf : List Cond := .code y_D_placeOf b_D_placeOf 2 (some .int) :: gtbl
abbrev b_D_isEntity : ByteArray := prog_1_method_20_code
def y_D_isEntity : MethodName := ⟨R_D, "isEntity", "(I)Z"⟩
abbrev w_D_isEntity : List Cond := .code y_D_isEntity b_D_isEntity 1 (some .boolean) :: gtbl
abbrev b_D_isClient : ByteArray := prog_1_method_21_code
def y_D_isClient : MethodName := ⟨R_D, "isClient", "(I)Z"⟩
abbrev w_D_isClient : List Cond := .code y_D_isClient b_D_isClient 1 (some .boolean) :: gtbl
abbrev b_D_isDirection : ByteArray := prog_1_method_22_code
def y_D_isDirection : MethodName := ⟨R_D, "isDirection", "(I)Z"⟩
abbrev w_D_isDirection : List Cond := .code y_D_isDirection b_D_isDirection 1 (some .boolean) :: gtbl
abbrev b_D_isCommand : ByteArray := prog_1_method_23_code
def y_D_isCommand : MethodName := ⟨R_D, "isCommand", "(I)Z"⟩
abbrev w_D_isCommand : List Cond := .code y_D_isCommand b_D_isCommand 1 (some .boolean) :: gtbl
abbrev b_D_distance : ByteArray := prog_1_method_24_code
def y_D_distance : MethodName := ⟨R_D, "distance", "(II)I"⟩
abbrev w_D_distance : List Cond := .code y_D_distance b_D_distance 2 (some .int) :: gtbl
abbrev b_M_init : ByteArray := prog_8_method_1_code
def y_M_init : MethodName := ⟨R_M, "<init>", "()V"⟩
abbrev w_M_init : List Cond := .code y_M_init b_M_init 2 none :: gtbl
abbrev b_M_square : ByteArray := prog_8_method_2_code
def y_M_square : MethodName := ⟨R_M, "square", "(II)Z"⟩
abbrev w_M_square : List Cond := .code y_M_square b_M_square 2 (some .boolean) :: gtbl
abbrev b_M_client : ByteArray := prog_8_method_3_code
def y_M_client : MethodName := ⟨R_M, "client", "(I)Z"⟩
abbrev w_M_client : List Cond := .code y_M_client b_M_client 1 (some .boolean) :: gtbl
abbrev b_M_entity : ByteArray := prog_8_method_4_code
def y_M_entity : MethodName := ⟨R_M, "entity", "(I)Z"⟩
abbrev w_M_entity : List Cond := .code y_M_entity b_M_entity 1 (some .boolean) :: gtbl
abbrev b_M_stepFrom : ByteArray := prog_8_method_5_code
def y_M_stepFrom : MethodName := ⟨R_M, "stepFrom", "(II)I"⟩
abbrev w_M_stepFrom : List Cond := .code y_M_stepFrom b_M_stepFrom 5 (some .int) :: gtbl
abbrev b_M_wall : ByteArray := prog_8_method_6_code
def y_M_wall : MethodName := ⟨R_M, "wall", "(II)Z"⟩
abbrev w_M_wall : List Cond := .code y_M_wall b_M_wall 4 (some .boolean) :: gtbl
abbrev b_M_place : ByteArray := prog_8_method_7_code
def y_M_place : MethodName := ⟨R_M, "place", "(IIII)Z"⟩
abbrev w_M_place : List Cond := .code y_M_place b_M_place 5 (some .boolean) :: gtbl
abbrev b_M_seen : ByteArray := prog_8_method_8_code
def y_M_seen : MethodName := ⟨R_M, "seen", "(I)I"⟩
abbrev w_M_seen : List Cond := .code y_M_seen b_M_seen 2 (some .int) :: gtbl
abbrev b_M_input : ByteArray := prog_8_method_9_code
def y_M_input : MethodName := ⟨R_M, "input", "(II)I"⟩
abbrev w_M_input : List Cond := .code y_M_input b_M_input 3 (some .int) :: gtbl
abbrev b_M_send : ByteArray := prog_8_method_10_code
def y_M_send : MethodName := ⟨R_M, "send", "(IIIII)V"⟩
abbrev w_M_send : List Cond := .code y_M_send b_M_send 7 none :: gtbl
abbrev b_M_report : ByteArray := prog_8_method_11_code
def y_M_report : MethodName := ⟨R_M, "report", "(I)Z"⟩
abbrev w_M_report : List Cond := .code y_M_report b_M_report 4 (some .boolean) :: gtbl
abbrev b_M_tick : ByteArray := prog_8_method_12_code
def y_M_tick : MethodName := ⟨R_M, "tick", "()I"⟩
abbrev w_M_tick : List Cond := .code y_M_tick b_M_tick 7 (some .int) :: gtbl
abbrev b_M_apart : ByteArray := prog_8_method_13_code
def y_M_apart : MethodName := ⟨R_M, "apart", "(II)I"⟩
abbrev w_M_apart : List Cond := .code y_M_apart b_M_apart 2 (some .int) :: gtbl
abbrev b_M_sees : ByteArray := prog_8_method_14_code
def y_M_sees : MethodName := ⟨R_M, "sees", "(III)Z"⟩
abbrev w_M_sees : List Cond := .code y_M_sees b_M_sees 6 (some .boolean) :: gtbl
abbrev b_M_bits : ByteArray := prog_8_method_15_code
def y_M_bits : MethodName := ⟨R_M, "bits", "(IIII)I"⟩
abbrev w_M_bits : List Cond := .code y_M_bits b_M_bits 9 (some .int) :: gtbl
abbrev b_M_size : ByteArray := prog_8_method_16_code
def y_M_size : MethodName := ⟨R_M, "size", "(I)I"⟩
abbrev w_M_size : List Cond := .code y_M_size b_M_size 4 (some .int) :: gtbl
abbrev b_M_there : ByteArray := prog_8_method_17_code
def y_M_there : MethodName := ⟨R_M, "there", "(I)Z"⟩
abbrev w_M_there : List Cond := .code y_M_there b_M_there 2 (some .boolean) :: gtbl
abbrev b_M_takeOut : ByteArray := prog_8_method_18_code
def y_M_takeOut : MethodName := ⟨R_M, "takeOut", "(I)V"⟩
abbrev w_M_takeOut : List Cond := .code y_M_takeOut b_M_takeOut 3 none :: gtbl
abbrev b_M_deliver : ByteArray := prog_8_method_19_code
def y_M_deliver : MethodName := ⟨R_M, "deliver", "(I)I"⟩
abbrev w_M_deliver : List Cond := .code y_M_deliver b_M_deliver 9 (some .int) :: gtbl
abbrev b_M_lose : ByteArray := prog_8_method_20_code
def y_M_lose : MethodName := ⟨R_M, "lose", "(I)Z"⟩
abbrev w_M_lose : List Cond := .code y_M_lose b_M_lose 2 (some .boolean) :: gtbl
abbrev b_M_copy : ByteArray := prog_8_method_21_code
def y_M_copy : MethodName := ⟨R_M, "copy", "(I)Z"⟩
abbrev w_M_copy : List Cond := .code y_M_copy b_M_copy 3 (some .boolean) :: gtbl
abbrev b_M_flight : ByteArray := prog_8_method_22_code
def y_M_flight : MethodName := ⟨R_M, "flight", "()I"⟩
abbrev w_M_flight : List Cond := .code y_M_flight b_M_flight 1 (some .int) :: gtbl
abbrev b_M_packet : ByteArray := prog_8_method_23_code
def y_M_packet : MethodName := ⟨R_M, "packet", "(II)I"⟩
abbrev w_M_packet : List Cond := .code y_M_packet b_M_packet 4 (some .int) :: gtbl
abbrev b_M_position : ByteArray := prog_8_method_24_code
def y_M_position : MethodName := ⟨R_M, "position", "(I)I"⟩
abbrev w_M_position : List Cond := .code y_M_position b_M_position 2 (some .int) :: gtbl
abbrev b_M_view : ByteArray := prog_8_method_25_code
def y_M_view : MethodName := ⟨R_M, "view", "(II)I"⟩
abbrev w_M_view : List Cond := .code y_M_view b_M_view 3 (some .int) :: gtbl
abbrev b_M_predicted : ByteArray := prog_8_method_26_code
def y_M_predicted : MethodName := ⟨R_M, "predicted", "(I)I"⟩
abbrev w_M_predicted : List Cond := .code y_M_predicted b_M_predicted 4 (some .int) :: gtbl
abbrev b_M_count : ByteArray := prog_8_method_27_code
def y_M_count : MethodName := ⟨R_M, "count", "(II)I"⟩
abbrev w_M_count : List Cond := .code y_M_count b_M_count 5 (some .int) :: gtbl
abbrev b_A_init : ByteArray := prog_2_method_1_code
def y_A_init : MethodName := ⟨R_A, "<init>", "()V"⟩
abbrev w_A_init : List Cond := .code y_A_init b_A_init 2 none :: gtbl
abbrev b_A_heldCommands : ByteArray := prog_2_method_2_code
def y_A_heldCommands : MethodName := ⟨R_A, "heldCommands", "()I"⟩
abbrev w_A_heldCommands : List Cond := .code y_A_heldCommands b_A_heldCommands 3 (some .int) :: gtbl
abbrev b_A_takeNextCommand : ByteArray := prog_2_method_3_code
def y_A_takeNextCommand : MethodName := ⟨R_A, "takeNextCommand", "()I"⟩
abbrev w_A_takeNextCommand : List Cond := .code y_A_takeNextCommand b_A_takeNextCommand 3 (some .int) :: gtbl
abbrev b_A_readReport : ByteArray := prog_2_method_4_code
def y_A_readReport : MethodName := ⟨R_A, "readReport", "(LDeltaPlayfield$Packet;)V"⟩
abbrev w_A_readReport : List Cond := .code y_A_readReport b_A_readReport 4 none :: gtbl
abbrev b_A_remember : ByteArray := prog_2_method_5_code
def y_A_remember : MethodName := ⟨R_A, "remember", "(ILDeltaPlayfield$Field;I)V"⟩
abbrev w_A_remember : List Cond := .code y_A_remember b_A_remember 6 none :: gtbl
abbrev b_A_writeSnapshot : ByteArray := prog_2_method_6_code
def y_A_writeSnapshot : MethodName := ⟨R_A, "writeSnapshot", "(LDeltaPlayfield$Packet;I)V"⟩
abbrev w_A_writeSnapshot : List Cond := .code y_A_writeSnapshot b_A_writeSnapshot 3 none :: gtbl
abbrev b_A_baseAt : ByteArray := prog_2_method_7_code
def y_A_baseAt : MethodName := ⟨R_A, "baseAt", "(I)I"⟩
abbrev w_A_baseAt : List Cond := .code y_A_baseAt b_A_baseAt 2 (some .int) :: gtbl
abbrev b_A_snapshotSize : ByteArray := prog_2_method_8_code
def y_A_snapshotSize : MethodName := ⟨R_A, "snapshotSize", "(II)I"⟩
abbrev w_A_snapshotSize : List Cond := .code y_A_snapshotSize b_A_snapshotSize 6 (some .int) :: gtbl
abbrev b_A_entitySize : ByteArray := prog_2_method_9_code
def y_A_entitySize : MethodName := ⟨R_A, "entitySize", "(II)I"⟩
abbrev w_A_entitySize : List Cond := .code y_A_entitySize b_A_entitySize 2 (some .int) :: gtbl
abbrev b_A_rowOf : ByteArray := prog_2_method_10_code
def y_A_rowOf : MethodName := ⟨R_A, "rowOf", "(I)I"⟩
abbrev w_A_rowOf : List Cond := .code y_A_rowOf b_A_rowOf 1 (some .int) :: gtbl
abbrev b_C_init : ByteArray := prog_3_method_1_code
def y_C_init : MethodName := ⟨R_C, "<init>", "(I)V"⟩
abbrev w_C_init : List Cond := .code y_C_init b_C_init 3 none :: gtbl
abbrev b_C_unseenCommands : ByteArray := prog_3_method_2_code
def y_C_unseenCommands : MethodName := ⟨R_C, "unseenCommands", "()I"⟩
abbrev w_C_unseenCommands : List Cond := .code y_C_unseenCommands b_C_unseenCommands 1 (some .int) :: gtbl
abbrev b_C_commandAt : ByteArray := prog_3_method_3_code
def y_C_commandAt : MethodName := ⟨R_C, "commandAt", "(I)I"⟩
abbrev w_C_commandAt : List Cond := .code y_C_commandAt b_C_commandAt 2 (some .int) :: gtbl
abbrev b_C_addCommand : ByteArray := prog_3_method_4_code
def y_C_addCommand : MethodName := ⟨R_C, "addCommand", "(I)V"⟩
abbrev w_C_addCommand : List Cond := .code y_C_addCommand b_C_addCommand 2 none :: gtbl
abbrev b_C_writeReport : ByteArray := prog_3_method_5_code
def y_C_writeReport : MethodName := ⟨R_C, "writeReport", "(LDeltaPlayfield$Packet;)V"⟩
abbrev w_C_writeReport : List Cond := .code y_C_writeReport b_C_writeReport 3 none :: gtbl
abbrev b_C_takeSnapshot : ByteArray := prog_3_method_6_code
def y_C_takeSnapshot : MethodName := ⟨R_C, "takeSnapshot", "(LDeltaPlayfield$Packet;)Z"⟩
abbrev w_C_takeSnapshot : List Cond := .code y_C_takeSnapshot b_C_takeSnapshot 2 (some .boolean) :: gtbl
abbrev b_F_init : ByteArray := prog_4_method_1_code
def y_F_init : MethodName := ⟨R_F, "<init>", "()V"⟩
abbrev w_F_init : List Cond := .code y_F_init b_F_init 2 none :: gtbl
abbrev b_F_isFree : ByteArray := prog_4_method_2_code
def y_F_isFree : MethodName := ⟨R_F, "isFree", "(II)Z"⟩
abbrev w_F_isFree : List Cond := .code y_F_isFree b_F_isFree 3 (some .boolean) :: gtbl
abbrev b_F_isOccupied : ByteArray := prog_4_method_3_code
def y_F_isOccupied : MethodName := ⟨R_F, "isOccupied", "(I)Z"⟩
abbrev w_F_isOccupied : List Cond := .code y_F_isOccupied b_F_isOccupied 3 (some .boolean) :: gtbl
abbrev b_F_after : ByteArray := prog_4_method_4_code
def y_F_after : MethodName := ⟨R_F, "after", "(II)I"⟩
abbrev w_F_after : List Cond := .code y_F_after b_F_after 5 (some .int) :: gtbl
abbrev b_F_moveDrifters : ByteArray := prog_4_method_5_code
def y_F_moveDrifters : MethodName := ⟨R_F, "moveDrifters", "()V"⟩
abbrev w_F_moveDrifters : List Cond := .code y_F_moveDrifters b_F_moveDrifters 3 none :: gtbl
abbrev b_F_sees : ByteArray := prog_4_method_6_code
def y_F_sees : MethodName := ⟨R_F, "sees", "(II)Z"⟩
abbrev w_F_sees : List Cond := .code y_F_sees b_F_sees 7 (some .boolean) :: gtbl
abbrev b_N_init : ByteArray := prog_5_method_1_code
def y_N_init : MethodName := ⟨R_N, "<init>", "()V"⟩
abbrev w_N_init : List Cond := .code y_N_init b_N_init 2 none :: gtbl
abbrev b_N_has : ByteArray := prog_5_method_2_code
def y_N_has : MethodName := ⟨R_N, "has", "(I)Z"⟩
abbrev w_N_has : List Cond := .code y_N_has b_N_has 2 (some .boolean) :: gtbl
abbrev b_N_addLast : ByteArray := prog_5_method_3_code
def y_N_addLast : MethodName := ⟨R_N, "addLast", "()LDeltaPlayfield$Packet;"⟩
abbrev w_N_addLast : List Cond := .code y_N_addLast b_N_addLast 2 (some (.object "DeltaPlayfield$Packet")) :: gtbl
abbrev b_N_takeOut : ByteArray := prog_5_method_4_code
def y_N_takeOut : MethodName := ⟨R_N, "takeOut", "(I)LDeltaPlayfield$Packet;"⟩
abbrev w_N_takeOut : List Cond := .code y_N_takeOut b_N_takeOut 4 (some (.object "DeltaPlayfield$Packet")) :: gtbl
abbrev b_P_init : ByteArray := prog_6_method_1_code
def y_P_init : MethodName := ⟨R_P, "<init>", "()V"⟩
abbrev w_P_init : List Cond := .code y_P_init b_P_init 1 none :: gtbl
abbrev b_P_becomeLike : ByteArray := prog_6_method_2_code
def y_P_becomeLike : MethodName := ⟨R_P, "becomeLike", "(LDeltaPlayfield$Packet;)V"⟩
abbrev w_P_becomeLike : List Cond := .code y_P_becomeLike b_P_becomeLike 2 none :: gtbl
abbrev b_L_law : ByteArray := code
