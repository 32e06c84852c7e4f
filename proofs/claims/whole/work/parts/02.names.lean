/-! own names of the program; every method's words are the tables' own, all of them -/
/-- the words that a call may take along -/
def lw_g : List Cond := lw_tbl.filter goodWord
theorem lw_good : GoodIn lw_g lw_g := fun w h => ⟨h, good_of_word (List.mem_filter.mp h).2⟩
theorem lw_g_of {w : Cond} (h : w ∈ lw_tbl) (hg : goodWord w = true) : w ∈ lw_g := List.mem_filter.mpr ⟨h, hg⟩
theorem mt0 {w : Cond} (h : w ∈ k2_sels lw_privs) : w ∈ lw_tbl := List.mem_append_left _ h
theorem mt1 {w : Cond} (h : w ∈ tables_1_1) : w ∈ lw_tbl := List.mem_append_right _ (List.mem_append_left _ h)
theorem mt2 {w : Cond} (h : w ∈ tables_1_2) : w ∈ lw_tbl := List.mem_append_right _ (List.mem_append_right _ (List.mem_append_left _ h))
theorem mt3 {w : Cond} (h : w ∈ tables_1_3) : w ∈ lw_tbl := List.mem_append_right _ (List.mem_append_right _ (List.mem_append_right _ (List.mem_append_left _ h)))
theorem mt4 {w : Cond} (h : w ∈ tables_1_4) : w ∈ lw_tbl := List.mem_append_right _ (List.mem_append_right _ (List.mem_append_right _ (List.mem_append_right _ h)))
theorem big_V {own C : String} {idx n : Nat} {y : MethodName} {cc : ByteArray} {rt : Option FieldType} (h1 : (Cond.methodLink own idx y) ∈ lw_g) (h2 : (Cond.instanceMethod y) ∈ lw_g) (h3 : (Cond.selects C y y) ∈ lw_g) (h4 : (Cond.initialized C) ∈ lw_g) (h5 : (Cond.code y cc n rt) ∈ lw_g) : GoodIn lw_g (wsV own idx C y (Cond.code y cc n rt ::  lw_g)) := by
  intro w hw
  refine lw_good w ?_
  unfold wsV at hw
  rcases List.mem_append.mp hw with h | h
  · simp only [List.mem_cons, List.not_mem_nil, or_false] at h
    rcases h with rfl | rfl | rfl | rfl <;> assumption
  · rcases List.mem_cons.mp h with rfl | h
    · exact h5
    · exact h
theorem big_S {own : String} {idx n : Nat} {y : MethodName} {cc : ByteArray} {rt : Option FieldType} (h1 : (Cond.methodLink own idx y) ∈ lw_g) (h2 : (Cond.static y) ∈ lw_g) (h4 : (Cond.initialized y.cls) ∈ lw_g) (h5 : (Cond.code y cc n rt) ∈ lw_g) : GoodIn lw_g (va_wsS own idx y (Cond.code y cc n rt ::  lw_g)) := by
  intro w hw
  refine lw_good w ?_
  unfold va_wsS at hw
  rcases List.mem_append.mp hw with h | h
  · simp only [List.mem_cons, List.not_mem_nil, or_false] at h
    rcases h with rfl | rfl | rfl <;> assumption
  · rcases List.mem_cons.mp h with rfl | h
    · exact h5
    · exact h
abbrev R_F : String := "DocumentFile"
def T_F : u_T := fun k => match k with
  | 0 => ("DocumentFile", "document", "LDocumentFile$Document;", false)
  | 1 => ("DocumentFile", "spare", "LDocumentFile$Document;", false)
  | 2 => ("DocumentFile", "file", "LDocumentFile$Octets;", true)
  | 3 => ("DocumentFile", "reader", "LDocumentFile$Reader;", true)
  | _ => ("DocumentFile", "writer", "LDocumentFile$Writer;", true)
def ty_F : Nat → FieldType := fun k => match k with
  | 0 => .object "DocumentFile$Document"
  | 1 => .object "DocumentFile$Document"
  | 2 => .object "DocumentFile$Octets"
  | 3 => .object "DocumentFile$Reader"
  | _ => .object "DocumentFile$Writer"
theorem nmok_F : ∀ a, a < 5 → ∀ b, b < 5 → a ≠ b → (T_F a).2.1 ≠ (T_F b).2.1 := by decide +kernel
theorem tyok_F : ∀ k, k < 5 → parseFieldDescriptor (T_F k).2.2.1 = some (ty_F k) := by decide +kernel
theorem in_F : ∀ w ∈ u_ws R_F T_F 5, w ∈ lw_g := by decide +kernel
abbrev R_D : String := "DocumentFile$Document"
def T_D : u_T := fun k => match k with
  | 0 => ("DocumentFile$Document", "styles", "LDocumentFile$PropertyRows;", true)
  | 1 => ("DocumentFile$Document", "sets", "LDocumentFile$PropertyRows;", true)
  | 2 => ("DocumentFile$Document", "marks", "LDocumentFile$Marks;", true)
  | 3 => ("DocumentFile$Document", "runs", "LDocumentFile$Runs;", true)
  | _ => ("DocumentFile$Document", "bases", "[I", true)
def ty_D : Nat → FieldType := fun k => match k with
  | 0 => .object "DocumentFile$PropertyRows"
  | 1 => .object "DocumentFile$PropertyRows"
  | 2 => .object "DocumentFile$Marks"
  | 3 => .object "DocumentFile$Runs"
  | _ => .array .int
theorem nmok_D : ∀ a, a < 5 → ∀ b, b < 5 → a ≠ b → (T_D a).2.1 ≠ (T_D b).2.1 := by decide +kernel
theorem tyok_D : ∀ k, k < 5 → parseFieldDescriptor (T_D k).2.2.1 = some (ty_D k) := by decide +kernel
theorem in_D : ∀ w ∈ u_ws R_D T_D 5, w ∈ lw_g := by decide +kernel
abbrev R_M : String := "DocumentFile$Marks"
def T_M : u_T := fun k => match k with
  | 0 => ("DocumentFile$Marks", "parts", "[I", true)
  | _ => ("DocumentFile$Marks", "rows", "I", false)
def ty_M : Nat → FieldType := fun k => match k with
  | 0 => .array .int
  | _ => .int
theorem nmok_M : ∀ a, a < 2 → ∀ b, b < 2 → a ≠ b → (T_M a).2.1 ≠ (T_M b).2.1 := by decide +kernel
theorem tyok_M : ∀ k, k < 2 → parseFieldDescriptor (T_M k).2.2.1 = some (ty_M k) := by decide +kernel
theorem in_M : ∀ w ∈ u_ws R_M T_M 2, w ∈ lw_g := by decide +kernel
abbrev R_O : String := "DocumentFile$Octets"
def T_O : u_T := fun k => match k with
  | 0 => ("DocumentFile$Octets", "octets", "[I", true)
  | _ => ("DocumentFile$Octets", "size", "I", false)
def ty_O : Nat → FieldType := fun k => match k with
  | 0 => .array .int
  | _ => .int
theorem nmok_O : ∀ a, a < 2 → ∀ b, b < 2 → a ≠ b → (T_O a).2.1 ≠ (T_O b).2.1 := by decide +kernel
theorem tyok_O : ∀ k, k < 2 → parseFieldDescriptor (T_O k).2.2.1 = some (ty_O k) := by decide +kernel
theorem in_O : ∀ w ∈ u_ws R_O T_O 2, w ∈ lw_g := by decide +kernel
abbrev R_P : String := "DocumentFile$PropertyRows"
def T_P : u_T := fun k => match k with
  | 0 => ("DocumentFile$PropertyRows", "most", "I", true)
  | 1 => ("DocumentFile$PropertyRows", "values", "[I", true)
  | _ => ("DocumentFile$PropertyRows", "rows", "I", false)
def ty_P : Nat → FieldType := fun k => match k with
  | 0 => .int
  | 1 => .array .int
  | _ => .int
theorem nmok_P : ∀ a, a < 3 → ∀ b, b < 3 → a ≠ b → (T_P a).2.1 ≠ (T_P b).2.1 := by decide +kernel
theorem tyok_P : ∀ k, k < 3 → parseFieldDescriptor (T_P k).2.2.1 = some (ty_P k) := by decide +kernel
theorem in_P : ∀ w ∈ u_ws R_P T_P 3, w ∈ lw_g := by decide +kernel
abbrev R_R : String := "DocumentFile$Reader"
def T_R : u_T := fun k => match k with
  | 0 => ("DocumentFile$Reader", "file", "LDocumentFile$Octets;", true)
  | 1 => ("DocumentFile$Reader", "next", "I", false)
  | 2 => ("DocumentFile$Reader", "item", "I", false)
  | _ => ("DocumentFile$Reader", "fault", "I", false)
def ty_R : Nat → FieldType := fun k => match k with
  | 0 => .object "DocumentFile$Octets"
  | 1 => .int
  | 2 => .int
  | _ => .int
theorem nmok_R : ∀ a, a < 4 → ∀ b, b < 4 → a ≠ b → (T_R a).2.1 ≠ (T_R b).2.1 := by decide +kernel
theorem tyok_R : ∀ k, k < 4 → parseFieldDescriptor (T_R k).2.2.1 = some (ty_R k) := by decide +kernel
theorem in_R : ∀ w ∈ u_ws R_R T_R 4, w ∈ lw_g := by decide +kernel
abbrev R_U : String := "DocumentFile$Runs"
def T_U : u_T := fun k => match k with
  | 0 => ("DocumentFile$Runs", "parts", "[I", true)
  | 1 => ("DocumentFile$Runs", "characters", "[I", true)
  | 2 => ("DocumentFile$Runs", "rows", "I", false)
  | _ => ("DocumentFile$Runs", "length", "I", false)
def ty_U : Nat → FieldType := fun k => match k with
  | 0 => .array .int
  | 1 => .array .int
  | 2 => .int
  | _ => .int
theorem nmok_U : ∀ a, a < 4 → ∀ b, b < 4 → a ≠ b → (T_U a).2.1 ≠ (T_U b).2.1 := by decide +kernel
theorem tyok_U : ∀ k, k < 4 → parseFieldDescriptor (T_U k).2.2.1 = some (ty_U k) := by decide +kernel
theorem in_U : ∀ w ∈ u_ws R_U T_U 4, w ∈ lw_g := by decide +kernel
abbrev R_W : String := "DocumentFile$Writer"
def T_W : u_T := fun k => match k with
  | 0 => ("DocumentFile$Writer", "file", "LDocumentFile$Octets;", true)
  | 1 => ("DocumentFile$Writer", "setsOut", "[I", true)
  | 2 => ("DocumentFile$Writer", "marksOut", "[I", true)
  | 3 => ("DocumentFile$Writer", "setCount", "I", false)
  | _ => ("DocumentFile$Writer", "markCount", "I", false)
def ty_W : Nat → FieldType := fun k => match k with
  | 0 => .object "DocumentFile$Octets"
  | 1 => .array .int
  | 2 => .array .int
  | 3 => .int
  | _ => .int
theorem nmok_W : ∀ a, a < 5 → ∀ b, b < 5 → a ≠ b → (T_W a).2.1 ≠ (T_W b).2.1 := by decide +kernel
theorem tyok_W : ∀ k, k < 5 → parseFieldDescriptor (T_W k).2.2.1 = some (ty_W k) := by decide +kernel
theorem in_W : ∀ w ∈ u_ws R_W T_W 5, w ∈ lw_g := by decide +kernel
abbrev R_Z : String := "DocumentFileModel"
def T_Z : u_T := fun k => match k with
  | 0 => ("DocumentFileModel", "length", "I", false)
  | 1 => ("DocumentFileModel", "file", "[B", true)
  | 2 => ("DocumentFileModel", "now", "I", false)
  | 3 => ("DocumentFileModel", "styles", "[I", true)
  | 4 => ("DocumentFileModel", "sets", "[I", true)
  | 5 => ("DocumentFileModel", "marks", "[I", true)
  | 6 => ("DocumentFileModel", "runs", "[I", true)
  | 7 => ("DocumentFileModel", "characters", "[I", true)
  | 8 => ("DocumentFileModel", "base", "[I", true)
  | 9 => ("DocumentFileModel", "own", "[I", true)
  | 10 => ("DocumentFileModel", "inserted", "[S", true)
  | 11 => ("DocumentFileModel", "erased", "[S", true)
  | 12 => ("DocumentFileModel", "old", "[S", true)
  | 13 => ("DocumentFileModel", "kind", "[S", true)
  | 14 => ("DocumentFileModel", "setOf", "[S", true)
  | 15 => ("DocumentFileModel", "markOf", "[S", true)
  | 16 => ("DocumentFileModel", "styleOf", "[S", true)
  | 17 => ("DocumentFileModel", "many", "[S", true)
  | 18 => ("DocumentFileModel", "text", "[S", true)
  | 19 => ("DocumentFileModel", "setNumber", "[I", true)
  | 20 => ("DocumentFileModel", "markNumber", "[I", true)
  | 21 => ("DocumentFileModel", "writtenSets", "I", false)
  | 22 => ("DocumentFileModel", "writtenMarks", "I", false)
  | 23 => ("DocumentFileModel", "at", "I", false)
  | 24 => ("DocumentFileModel", "item", "I", false)
  | _ => ("DocumentFileModel", "fault", "I", false)
def ty_Z : Nat → FieldType := fun k => match k with
  | 0 => .int
  | 1 => .array .byte
  | 2 => .int
  | 3 => .array .int
  | 4 => .array .int
  | 5 => .array .int
  | 6 => .array .int
  | 7 => .array .int
  | 8 => .array .int
  | 9 => .array .int
  | 10 => .array .short
  | 11 => .array .short
  | 12 => .array .short
  | 13 => .array .short
  | 14 => .array .short
  | 15 => .array .short
  | 16 => .array .short
  | 17 => .array .short
  | 18 => .array .short
  | 19 => .array .int
  | 20 => .array .int
  | 21 => .int
  | 22 => .int
  | 23 => .int
  | 24 => .int
  | _ => .int
theorem nmok_Z : ∀ a, a < 26 → ∀ b, b < 26 → a ≠ b → (T_Z a).2.1 ≠ (T_Z b).2.1 := by decide +kernel
theorem tyok_Z : ∀ k, k < 26 → parseFieldDescriptor (T_Z k).2.2.1 = some (ty_Z k) := by decide +kernel
theorem in_Z : ∀ w ∈ u_ws R_Z T_Z 26, w ∈ lw_g := by decide +kernel
abbrev R_L : String := "DocumentFileLaw"
abbrev vwCl : List vw_C := [(R_F, T_F, 5), (R_D, T_D, 5), (R_M, T_M, 2), (R_O, T_O, 2), (R_P, T_P, 3), (R_R, T_R, 4), (R_U, T_U, 4), (R_W, T_W, 5), (R_Z, T_Z, 26)]
abbrev b_F_init : ByteArray := prog_1_method_1_code
abbrev y_F_init : MethodName := ⟨"DocumentFile", "<init>", "()V"⟩
abbrev w_F_init : List Cond := Cond.code y_F_init b_F_init 1 none ::  lw_g
abbrev b_F_clear : ByteArray := prog_1_method_2_code
abbrev y_F_clear : MethodName := ⟨"DocumentFile", "clear", "()V"⟩
abbrev w_F_clear : List Cond := Cond.code y_F_clear b_F_clear 1 none ::  lw_g
abbrev b_F_style : ByteArray := prog_1_method_3_code
abbrev y_F_style : MethodName := ⟨"DocumentFile", "style", "(I)I"⟩
abbrev w_F_style : List Cond := Cond.code y_F_style b_F_style 2 (some .int) ::  lw_g
abbrev b_F_set : ByteArray := prog_1_method_4_code
abbrev y_F_set : MethodName := ⟨"DocumentFile", "set", "()I"⟩
abbrev w_F_set : List Cond := Cond.code y_F_set b_F_set 1 (some .int) ::  lw_g
abbrev b_F_property : ByteArray := prog_1_method_5_code
abbrev y_F_property : MethodName := ⟨"DocumentFile", "property", "(IIII)Z"⟩
abbrev w_F_property : List Cond := Cond.code y_F_property b_F_property 5 (some .boolean) ::  lw_g
abbrev b_F_mark : ByteArray := prog_1_method_6_code
abbrev y_F_mark : MethodName := ⟨"DocumentFile", "mark", "(III)I"⟩
abbrev w_F_mark : List Cond := Cond.code y_F_mark b_F_mark 4 (some .int) ::  lw_g
abbrev b_F_type : ByteArray := prog_1_method_7_code
abbrev y_F_type : MethodName := ⟨"DocumentFile", "type", "(IIJ)I"⟩
abbrev w_F_type : List Cond := Cond.code y_F_type b_F_type 7 (some .int) ::  lw_g
abbrev b_F_end : ByteArray := prog_1_method_8_code
abbrev y_F_end : MethodName := ⟨"DocumentFile", "end", "(IIII)I"⟩
abbrev w_F_end : List Cond := Cond.code y_F_end b_F_end 6 (some .int) ::  lw_g
abbrev b_F_count : ByteArray := prog_1_method_9_code
abbrev y_F_count : MethodName := ⟨"DocumentFile", "count", "(I)I"⟩
abbrev w_F_count : List Cond := Cond.code y_F_count b_F_count 2 (some .int) ::  lw_g
abbrev b_F_base : ByteArray := prog_1_method_10_code
abbrev y_F_base : MethodName := ⟨"DocumentFile", "base", "(I)I"⟩
abbrev w_F_base : List Cond := Cond.code y_F_base b_F_base 2 (some .int) ::  lw_g
abbrev b_F_value : ByteArray := prog_1_method_11_code
abbrev y_F_value : MethodName := ⟨"DocumentFile", "value", "(III)I"⟩
abbrev w_F_value : List Cond := Cond.code y_F_value b_F_value 4 (some .int) ::  lw_g
abbrev b_F_changes : ByteArray := prog_1_method_12_code
abbrev y_F_changes : MethodName := ⟨"DocumentFile", "changes", "(II)I"⟩
abbrev w_F_changes : List Cond := Cond.code y_F_changes b_F_changes 3 (some .int) ::  lw_g
abbrev b_F_run : ByteArray := prog_1_method_13_code
abbrev y_F_run : MethodName := ⟨"DocumentFile", "run", "(II)I"⟩
abbrev w_F_run : List Cond := Cond.code y_F_run b_F_run 3 (some .int) ::  lw_g
abbrev b_F_at : ByteArray := prog_1_method_14_code
abbrev y_F_at : MethodName := ⟨"DocumentFile", "at", "(I)I"⟩
abbrev w_F_at : List Cond := Cond.code y_F_at b_F_at 2 (some .int) ::  lw_g
abbrev b_F_save : ByteArray := prog_1_method_15_code
abbrev y_F_save : MethodName := ⟨"DocumentFile", "save", "()I"⟩
abbrev w_F_save : List Cond := Cond.code y_F_save b_F_save 1 (some .int) ::  lw_g
abbrev b_F_open : ByteArray := prog_1_method_16_code
abbrev y_F_open : MethodName := ⟨"DocumentFile", "open", "()I"⟩
abbrev w_F_open : List Cond := Cond.code y_F_open b_F_open 3 (some .int) ::  lw_g
abbrev b_F_octet : ByteArray := prog_1_method_17_code
abbrev y_F_octet : MethodName := ⟨"DocumentFile", "octet", "(I)I"⟩
abbrev w_F_octet : List Cond := Cond.code y_F_octet b_F_octet 2 (some .int) ::  lw_g
abbrev b_F_alter : ByteArray := prog_1_method_18_code
abbrev y_F_alter : MethodName := ⟨"DocumentFile", "alter", "(II)Z"⟩
abbrev w_F_alter : List Cond := Cond.code y_F_alter b_F_alter 3 (some .boolean) ::  lw_g
abbrev b_F_cut : ByteArray := prog_1_method_19_code
abbrev y_F_cut : MethodName := ⟨"DocumentFile", "cut", "(I)Z"⟩
abbrev w_F_cut : List Cond := Cond.code y_F_cut b_F_cut 2 (some .boolean) ::  lw_g
abbrev b_F_byteOf : ByteArray := prog_1_method_20_code
abbrev y_F_byteOf : MethodName := ⟨"DocumentFile", "byteOf", "(JI)I"⟩
abbrev w_F_byteOf : List Cond := Cond.code y_F_byteOf b_F_byteOf 3 (some .int) ::  lw_g
abbrev b_F_textLength : ByteArray := prog_1_method_21_code
abbrev y_F_textLength : MethodName := ⟨"DocumentFile", "textLength", "(J)I"⟩
abbrev w_F_textLength : List Cond := Cond.code y_F_textLength b_F_textLength 4 (some .int) ::  lw_g
abbrev b_Z_init : ByteArray := prog_10_method_1_code
abbrev y_Z_init : MethodName := ⟨"DocumentFileModel", "<init>", "()V"⟩
abbrev w_Z_init : List Cond := Cond.code y_Z_init b_Z_init 1 none ::  lw_g
abbrev b_Z_in : ByteArray := prog_10_method_2_code
abbrev y_Z_in : MethodName := ⟨"DocumentFileModel", "in", "(III)Z"⟩
abbrev w_Z_in : List Cond := Cond.code y_Z_in b_Z_in 3 (some .boolean) ::  lw_g
abbrev b_Z_most : ByteArray := prog_10_method_3_code
abbrev y_Z_most : MethodName := ⟨"DocumentFileModel", "most", "(I)I"⟩
abbrev w_Z_most : List Cond := Cond.code y_Z_most b_Z_most 1 (some .int) ::  lw_g
abbrev b_Z_isText : ByteArray := prog_10_method_4_code
abbrev y_Z_isText : MethodName := ⟨"DocumentFileModel", "isText", "(I)Z"⟩
abbrev w_Z_isText : List Cond := Cond.code y_Z_isText b_Z_isText 1 (some .boolean) ::  lw_g
abbrev b_Z_isSet : ByteArray := prog_10_method_5_code
abbrev y_Z_isSet : MethodName := ⟨"DocumentFileModel", "isSet", "(I)Z"⟩
abbrev w_Z_isSet : List Cond := Cond.code y_Z_isSet b_Z_isSet 2 (some .boolean) ::  lw_g
abbrev b_Z_isMark : ByteArray := prog_10_method_6_code
abbrev y_Z_isMark : MethodName := ⟨"DocumentFileModel", "isMark", "(I)Z"⟩
abbrev w_Z_isMark : List Cond := Cond.code y_Z_isMark b_Z_isMark 2 (some .boolean) ::  lw_g
abbrev b_Z_row : ByteArray := prog_10_method_7_code
abbrev y_Z_row : MethodName := ⟨"DocumentFileModel", "row", "(III)I"⟩
abbrev w_Z_row : List Cond := Cond.code y_Z_row b_Z_row 3 (some .int) ::  lw_g
abbrev b_Z_empty : ByteArray := prog_10_method_8_code
abbrev y_Z_empty : MethodName := ⟨"DocumentFileModel", "empty", "(I)V"⟩
abbrev w_Z_empty : List Cond := Cond.code y_Z_empty b_Z_empty 2 none ::  lw_g
abbrev b_Z_bare : ByteArray := prog_10_method_9_code
abbrev y_Z_bare : MethodName := ⟨"DocumentFileModel", "bare", "(III)V"⟩
abbrev w_Z_bare : List Cond := Cond.code y_Z_bare b_Z_bare 5 none ::  lw_g
abbrev b_Z_clear : ByteArray := prog_10_method_10_code
abbrev y_Z_clear : MethodName := ⟨"DocumentFileModel", "clear", "()V"⟩
abbrev w_Z_clear : List Cond := Cond.code y_Z_clear b_Z_clear 1 none ::  lw_g
abbrev b_Z_style : ByteArray := prog_10_method_11_code
abbrev y_Z_style : MethodName := ⟨"DocumentFileModel", "style", "(I)I"⟩
abbrev w_Z_style : List Cond := Cond.code y_Z_style b_Z_style 2 (some .int) ::  lw_g
abbrev b_Z_set : ByteArray := prog_10_method_12_code
abbrev y_Z_set : MethodName := ⟨"DocumentFileModel", "set", "()I"⟩
abbrev w_Z_set : List Cond := Cond.code y_Z_set b_Z_set 1 (some .int) ::  lw_g
abbrev b_Z_isRow : ByteArray := prog_10_method_13_code
abbrev y_Z_isRow : MethodName := ⟨"DocumentFileModel", "isRow", "(II)Z"⟩
abbrev w_Z_isRow : List Cond := Cond.code y_Z_isRow b_Z_isRow 3 (some .boolean) ::  lw_g
abbrev b_Z_property : ByteArray := prog_10_method_14_code
abbrev y_Z_property : MethodName := ⟨"DocumentFileModel", "property", "(IIII)Z"⟩
abbrev w_Z_property : List Cond := Cond.code y_Z_property b_Z_property 5 (some .boolean) ::  lw_g
abbrev b_Z_mark : ByteArray := prog_10_method_15_code
abbrev y_Z_mark : MethodName := ⟨"DocumentFileModel", "mark", "(III)I"⟩
abbrev w_Z_mark : List Cond := Cond.code y_Z_mark b_Z_mark 5 (some .int) ::  lw_g
abbrev b_Z_add : ByteArray := prog_10_method_16_code
abbrev y_Z_add : MethodName := ⟨"DocumentFileModel", "add", "(IIIII)I"⟩
abbrev w_Z_add : List Cond := Cond.code y_Z_add b_Z_add 7 (some .int) ::  lw_g
abbrev b_Z_type : ByteArray := prog_10_method_17_code
abbrev y_Z_type : MethodName := ⟨"DocumentFileModel", "type", "(IIJ)I"⟩
abbrev w_Z_type : List Cond := Cond.code y_Z_type b_Z_type 8 (some .int) ::  lw_g
abbrev b_Z_end : ByteArray := prog_10_method_18_code
abbrev y_Z_end : MethodName := ⟨"DocumentFileModel", "end", "(IIII)I"⟩
abbrev w_Z_end : List Cond := Cond.code y_Z_end b_Z_end 6 (some .int) ::  lw_g
abbrev b_Z_count : ByteArray := prog_10_method_19_code
abbrev y_Z_count : MethodName := ⟨"DocumentFileModel", "count", "(I)I"⟩
abbrev w_Z_count : List Cond := Cond.code y_Z_count b_Z_count 2 (some .int) ::  lw_g
abbrev b_Z_base : ByteArray := prog_10_method_20_code
abbrev y_Z_base : MethodName := ⟨"DocumentFileModel", "base", "(I)I"⟩
abbrev w_Z_base : List Cond := Cond.code y_Z_base b_Z_base 2 (some .int) ::  lw_g
abbrev b_Z_value : ByteArray := prog_10_method_21_code
abbrev y_Z_value : MethodName := ⟨"DocumentFileModel", "value", "(III)I"⟩
abbrev w_Z_value : List Cond := Cond.code y_Z_value b_Z_value 4 (some .int) ::  lw_g
abbrev b_Z_changes : ByteArray := prog_10_method_22_code
abbrev y_Z_changes : MethodName := ⟨"DocumentFileModel", "changes", "(II)I"⟩
abbrev w_Z_changes : List Cond := Cond.code y_Z_changes b_Z_changes 4 (some .int) ::  lw_g
abbrev b_Z_run : ByteArray := prog_10_method_23_code
abbrev y_Z_run : MethodName := ⟨"DocumentFileModel", "run", "(II)I"⟩
abbrev w_Z_run : List Cond := Cond.code y_Z_run b_Z_run 6 (some .int) ::  lw_g
abbrev b_Z_at : ByteArray := prog_10_method_24_code
abbrev y_Z_at : MethodName := ⟨"DocumentFileModel", "at", "(I)I"⟩
abbrev w_Z_at : List Cond := Cond.code y_Z_at b_Z_at 2 (some .int) ::  lw_g
abbrev b_Z_sameSets : ByteArray := prog_10_method_25_code
abbrev y_Z_sameSets : MethodName := ⟨"DocumentFileModel", "sameSets", "(III)Z"⟩
abbrev w_Z_sameSets : List Cond := Cond.code y_Z_sameSets b_Z_sameSets 6 (some .boolean) ::  lw_g
abbrev b_Z_firstSet : ByteArray := prog_10_method_26_code
abbrev y_Z_firstSet : MethodName := ⟨"DocumentFileModel", "firstSet", "(II)I"⟩
abbrev w_Z_firstSet : List Cond := Cond.code y_Z_firstSet b_Z_firstSet 4 (some .int) ::  lw_g
abbrev b_Z_firstMark : ByteArray := prog_10_method_27_code
abbrev y_Z_firstMark : MethodName := ⟨"DocumentFileModel", "firstMark", "(II)I"⟩
abbrev w_Z_firstMark : List Cond := Cond.code y_Z_firstMark b_Z_firstMark 4 (some .int) ::  lw_g
abbrev b_Z_sameMarks : ByteArray := prog_10_method_28_code
abbrev y_Z_sameMarks : MethodName := ⟨"DocumentFileModel", "sameMarks", "(III)Z"⟩
abbrev w_Z_sameMarks : List Cond := Cond.code y_Z_sameMarks b_Z_sameMarks 6 (some .boolean) ::  lw_g
abbrev b_Z_sameRuns : ByteArray := prog_10_method_29_code
abbrev y_Z_sameRuns : MethodName := ⟨"DocumentFileModel", "sameRuns", "(III)Z"⟩
abbrev w_Z_sameRuns : List Cond := Cond.code y_Z_sameRuns b_Z_sameRuns 6 (some .boolean) ::  lw_g
abbrev b_Z_octetOut : ByteArray := prog_10_method_30_code
abbrev y_Z_octetOut : MethodName := ⟨"DocumentFileModel", "octetOut", "(I)V"⟩
abbrev w_Z_octetOut : List Cond := Cond.code y_Z_octetOut b_Z_octetOut 2 none ::  lw_g
abbrev b_Z_number : ByteArray := prog_10_method_31_code
abbrev y_Z_number : MethodName := ⟨"DocumentFileModel", "number", "(I)V"⟩
abbrev w_Z_number : List Cond := Cond.code y_Z_number b_Z_number 2 none ::  lw_g
abbrev b_Z_properties : ByteArray := prog_10_method_32_code
abbrev y_Z_properties : MethodName := ⟨"DocumentFileModel", "properties", "(I)V"⟩
abbrev w_Z_properties : List Cond := Cond.code y_Z_properties b_Z_properties 4 none ::  lw_g
abbrev b_Z_setOut : ByteArray := prog_10_method_33_code
abbrev y_Z_setOut : MethodName := ⟨"DocumentFileModel", "setOut", "(II)V"⟩
abbrev w_Z_setOut : List Cond := Cond.code y_Z_setOut b_Z_setOut 4 none ::  lw_g
abbrev b_Z_markOut : ByteArray := prog_10_method_34_code
abbrev y_Z_markOut : MethodName := ⟨"DocumentFileModel", "markOut", "(I)V"⟩
abbrev w_Z_markOut : List Cond := Cond.code y_Z_markOut b_Z_markOut 3 none ::  lw_g
abbrev b_Z_joined : ByteArray := prog_10_method_35_code
abbrev y_Z_joined : MethodName := ⟨"DocumentFileModel", "joined", "(I)I"⟩
abbrev w_Z_joined : List Cond := Cond.code y_Z_joined b_Z_joined 3 (some .int) ::  lw_g
abbrev b_Z_save : ByteArray := prog_10_method_36_code
abbrev y_Z_save : MethodName := ⟨"DocumentFileModel", "save", "()I"⟩
abbrev w_Z_save : List Cond := Cond.code y_Z_save b_Z_save 7 (some .int) ::  lw_g
abbrev b_Z_wrong : ByteArray := prog_10_method_37_code
abbrev y_Z_wrong : MethodName := ⟨"DocumentFileModel", "wrong", "(I)V"⟩
abbrev w_Z_wrong : List Cond := Cond.code y_Z_wrong b_Z_wrong 2 none ::  lw_g
abbrev b_Z_readNumber : ByteArray := prog_10_method_38_code
abbrev y_Z_readNumber : MethodName := ⟨"DocumentFileModel", "readNumber", "(I)I"⟩
abbrev w_Z_readNumber : List Cond := Cond.code y_Z_readNumber b_Z_readNumber 5 (some .int) ::  lw_g
abbrev b_Z_readByte : ByteArray := prog_10_method_39_code
abbrev y_Z_readByte : MethodName := ⟨"DocumentFileModel", "readByte", "(I)V"⟩
abbrev w_Z_readByte : List Cond := Cond.code y_Z_readByte b_Z_readByte 2 none ::  lw_g
abbrev b_Z_readProperties : ByteArray := prog_10_method_40_code
abbrev y_Z_readProperties : MethodName := ⟨"DocumentFileModel", "readProperties", "(I)V"⟩
abbrev w_Z_readProperties : List Cond := Cond.code y_Z_readProperties b_Z_readProperties 6 none ::  lw_g
abbrev b_Z_readStyles : ByteArray := prog_10_method_41_code
abbrev y_Z_readStyles : MethodName := ⟨"DocumentFileModel", "readStyles", "(I)V"⟩
abbrev w_Z_readStyles : List Cond := Cond.code y_Z_readStyles b_Z_readStyles 6 none ::  lw_g
abbrev b_Z_readSet : ByteArray := prog_10_method_42_code
abbrev y_Z_readSet : MethodName := ⟨"DocumentFileModel", "readSet", "(II)I"⟩
abbrev w_Z_readSet : List Cond := Cond.code y_Z_readSet b_Z_readSet 6 (some .int) ::  lw_g
abbrev b_Z_readMark : ByteArray := prog_10_method_43_code
abbrev y_Z_readMark : MethodName := ⟨"DocumentFileModel", "readMark", "(I)I"⟩
abbrev w_Z_readMark : List Cond := Cond.code y_Z_readMark b_Z_readMark 5 (some .int) ::  lw_g
abbrev b_Z_readRun : ByteArray := prog_10_method_44_code
abbrev y_Z_readRun : MethodName := ⟨"DocumentFileModel", "readRun", "(II)V"⟩
abbrev w_Z_readRun : List Cond := Cond.code y_Z_readRun b_Z_readRun 12 none ::  lw_g
abbrev b_Z_open : ByteArray := prog_10_method_45_code
abbrev y_Z_open : MethodName := ⟨"DocumentFileModel", "open", "()I"⟩
abbrev w_Z_open : List Cond := Cond.code y_Z_open b_Z_open 4 (some .int) ::  lw_g
abbrev b_Z_octet : ByteArray := prog_10_method_46_code
abbrev y_Z_octet : MethodName := ⟨"DocumentFileModel", "octet", "(I)I"⟩
abbrev w_Z_octet : List Cond := Cond.code y_Z_octet b_Z_octet 2 (some .int) ::  lw_g
abbrev b_Z_alter : ByteArray := prog_10_method_47_code
abbrev y_Z_alter : MethodName := ⟨"DocumentFileModel", "alter", "(II)Z"⟩
abbrev w_Z_alter : List Cond := Cond.code y_Z_alter b_Z_alter 3 (some .boolean) ::  lw_g
abbrev b_Z_cut : ByteArray := prog_10_method_48_code
abbrev y_Z_cut : MethodName := ⟨"DocumentFileModel", "cut", "(I)Z"⟩
abbrev w_Z_cut : List Cond := Cond.code y_Z_cut b_Z_cut 2 (some .boolean) ::  lw_g
abbrev b_D_init : ByteArray := prog_2_method_1_code
abbrev y_D_init : MethodName := ⟨"DocumentFile$Document", "<init>", "()V"⟩
abbrev w_D_init : List Cond := Cond.code y_D_init b_D_init 1 none ::  lw_g
abbrev b_D_empty : ByteArray := prog_2_method_2_code
abbrev y_D_empty : MethodName := ⟨"DocumentFile$Document", "empty", "()V"⟩
abbrev w_D_empty : List Cond := Cond.code y_D_empty b_D_empty 1 none ::  lw_g
abbrev b_D_addStyle : ByteArray := prog_2_method_3_code
abbrev y_D_addStyle : MethodName := ⟨"DocumentFile$Document", "addStyle", "(I)I"⟩
abbrev w_D_addStyle : List Cond := Cond.code y_D_addStyle b_D_addStyle 3 (some .int) ::  lw_g
abbrev b_D_baseOf : ByteArray := prog_2_method_4_code
abbrev y_D_baseOf : MethodName := ⟨"DocumentFile$Document", "baseOf", "(I)I"⟩
abbrev w_D_baseOf : List Cond := Cond.code y_D_baseOf b_D_baseOf 2 (some .int) ::  lw_g
abbrev b_D_rebase : ByteArray := prog_2_method_5_code
abbrev y_D_rebase : MethodName := ⟨"DocumentFile$Document", "rebase", "(II)Z"⟩
abbrev w_D_rebase : List Cond := Cond.code y_D_rebase b_D_rebase 5 (some .boolean) ::  lw_g
abbrev b_D_sameMarks : ByteArray := prog_2_method_6_code
abbrev y_D_sameMarks : MethodName := ⟨"DocumentFile$Document", "sameMarks", "(II)Z"⟩
abbrev w_D_sameMarks : List Cond := Cond.code y_D_sameMarks b_D_sameMarks 5 (some .boolean) ::  lw_g
abbrev b_D_repeatsMark : ByteArray := prog_2_method_7_code
abbrev y_D_repeatsMark : MethodName := ⟨"DocumentFile$Document", "repeatsMark", "(I)Z"⟩
abbrev w_D_repeatsMark : List Cond := Cond.code y_D_repeatsMark b_D_repeatsMark 3 (some .boolean) ::  lw_g
abbrev b_D_goesOn : ByteArray := prog_2_method_8_code
abbrev y_D_goesOn : MethodName := ⟨"DocumentFile$Document", "goesOn", "(I)Z"⟩
abbrev w_D_goesOn : List Cond := Cond.code y_D_goesOn b_D_goesOn 3 (some .boolean) ::  lw_g
abbrev b_M_init : ByteArray := prog_3_method_1_code
abbrev y_M_init : MethodName := ⟨"DocumentFile$Marks", "<init>", "()V"⟩
abbrev w_M_init : List Cond := Cond.code y_M_init b_M_init 1 none ::  lw_g
abbrev b_M_empty : ByteArray := prog_3_method_2_code
abbrev y_M_empty : MethodName := ⟨"DocumentFile$Marks", "empty", "()V"⟩
abbrev w_M_empty : List Cond := Cond.code y_M_empty b_M_empty 1 none ::  lw_g
abbrev b_M_rows : ByteArray := prog_3_method_3_code
abbrev y_M_rows : MethodName := ⟨"DocumentFile$Marks", "rows", "()I"⟩
abbrev w_M_rows : List Cond := Cond.code y_M_rows b_M_rows 1 (some .int) ::  lw_g
abbrev b_M_has : ByteArray := prog_3_method_4_code
abbrev y_M_has : MethodName := ⟨"DocumentFile$Marks", "has", "(I)Z"⟩
abbrev w_M_has : List Cond := Cond.code y_M_has b_M_has 2 (some .boolean) ::  lw_g
abbrev b_M_isFull : ByteArray := prog_3_method_5_code
abbrev y_M_isFull : MethodName := ⟨"DocumentFile$Marks", "isFull", "()Z"⟩
abbrev w_M_isFull : List Cond := Cond.code y_M_isFull b_M_isFull 1 (some .boolean) ::  lw_g
abbrev b_M_add : ByteArray := prog_3_method_6_code
abbrev y_M_add : MethodName := ⟨"DocumentFile$Marks", "add", "(III)I"⟩
abbrev w_M_add : List Cond := Cond.code y_M_add b_M_add 4 (some .int) ::  lw_g
abbrev b_M_part : ByteArray := prog_3_method_7_code
abbrev y_M_part : MethodName := ⟨"DocumentFile$Marks", "part", "(II)I"⟩
abbrev w_M_part : List Cond := Cond.code y_M_part b_M_part 3 (some .int) ::  lw_g
abbrev b_O_init : ByteArray := prog_4_method_1_code
abbrev y_O_init : MethodName := ⟨"DocumentFile$Octets", "<init>", "()V"⟩
abbrev w_O_init : List Cond := Cond.code y_O_init b_O_init 1 none ::  lw_g
abbrev b_O_size : ByteArray := prog_4_method_2_code
abbrev y_O_size : MethodName := ⟨"DocumentFile$Octets", "size", "()I"⟩
abbrev w_O_size : List Cond := Cond.code y_O_size b_O_size 1 (some .int) ::  lw_g
abbrev b_O_get : ByteArray := prog_4_method_3_code
abbrev y_O_get : MethodName := ⟨"DocumentFile$Octets", "get", "(I)I"⟩
abbrev w_O_get : List Cond := Cond.code y_O_get b_O_get 2 (some .int) ::  lw_g
abbrev b_O_put : ByteArray := prog_4_method_4_code
abbrev y_O_put : MethodName := ⟨"DocumentFile$Octets", "put", "(II)Z"⟩
abbrev w_O_put : List Cond := Cond.code y_O_put b_O_put 3 (some .boolean) ::  lw_g
abbrev b_O_append : ByteArray := prog_4_method_5_code
abbrev y_O_append : MethodName := ⟨"DocumentFile$Octets", "append", "(I)Z"⟩
abbrev w_O_append : List Cond := Cond.code y_O_append b_O_append 2 (some .boolean) ::  lw_g
abbrev b_O_keep : ByteArray := prog_4_method_6_code
abbrev y_O_keep : MethodName := ⟨"DocumentFile$Octets", "keep", "(I)Z"⟩
abbrev w_O_keep : List Cond := Cond.code y_O_keep b_O_keep 2 (some .boolean) ::  lw_g
abbrev b_P_init : ByteArray := prog_5_method_1_code
abbrev y_P_init : MethodName := ⟨"DocumentFile$PropertyRows", "<init>", "(I)V"⟩
abbrev w_P_init : List Cond := Cond.code y_P_init b_P_init 2 none ::  lw_g
abbrev b_P_mostOf : ByteArray := prog_5_method_2_code
abbrev y_P_mostOf : MethodName := ⟨"DocumentFile$PropertyRows", "mostOf", "(I)I"⟩
abbrev w_P_mostOf : List Cond := Cond.code y_P_mostOf b_P_mostOf 1 (some .int) ::  lw_g
abbrev b_P_empty : ByteArray := prog_5_method_3_code
abbrev y_P_empty : MethodName := ⟨"DocumentFile$PropertyRows", "empty", "()V"⟩
abbrev w_P_empty : List Cond := Cond.code y_P_empty b_P_empty 1 none ::  lw_g
abbrev b_P_rows : ByteArray := prog_5_method_4_code
abbrev y_P_rows : MethodName := ⟨"DocumentFile$PropertyRows", "rows", "()I"⟩
abbrev w_P_rows : List Cond := Cond.code y_P_rows b_P_rows 1 (some .int) ::  lw_g
abbrev b_P_has : ByteArray := prog_5_method_5_code
abbrev y_P_has : MethodName := ⟨"DocumentFile$PropertyRows", "has", "(I)Z"⟩
abbrev w_P_has : List Cond := Cond.code y_P_has b_P_has 2 (some .boolean) ::  lw_g
abbrev b_P_add : ByteArray := prog_5_method_6_code
abbrev y_P_add : MethodName := ⟨"DocumentFile$PropertyRows", "add", "()I"⟩
abbrev w_P_add : List Cond := Cond.code y_P_add b_P_add 2 (some .int) ::  lw_g
abbrev b_P_get : ByteArray := prog_5_method_7_code
abbrev y_P_get : MethodName := ⟨"DocumentFile$PropertyRows", "get", "(II)I"⟩
abbrev w_P_get : List Cond := Cond.code y_P_get b_P_get 3 (some .int) ::  lw_g
abbrev b_P_put : ByteArray := prog_5_method_8_code
abbrev y_P_put : MethodName := ⟨"DocumentFile$PropertyRows", "put", "(III)Z"⟩
abbrev w_P_put : List Cond := Cond.code y_P_put b_P_put 4 (some .boolean) ::  lw_g
abbrev b_P_held : ByteArray := prog_5_method_9_code
abbrev y_P_held : MethodName := ⟨"DocumentFile$PropertyRows", "held", "(I)I"⟩
abbrev w_P_held : List Cond := Cond.code y_P_held b_P_held 4 (some .int) ::  lw_g
abbrev b_P_same : ByteArray := prog_5_method_10_code
abbrev y_P_same : MethodName := ⟨"DocumentFile$PropertyRows", "same", "(II)Z"⟩
abbrev w_P_same : List Cond := Cond.code y_P_same b_P_same 4 (some .boolean) ::  lw_g
abbrev b_P_repeats : ByteArray := prog_5_method_11_code
abbrev y_P_repeats : MethodName := ⟨"DocumentFile$PropertyRows", "repeats", "(I)Z"⟩
abbrev w_P_repeats : List Cond := Cond.code y_P_repeats b_P_repeats 3 (some .boolean) ::  lw_g
abbrev b_R_init : ByteArray := prog_6_method_1_code
abbrev y_R_init : MethodName := ⟨"DocumentFile$Reader", "<init>", "(LDocumentFile$Octets;)V"⟩
abbrev w_R_init : List Cond := Cond.code y_R_init b_R_init 2 none ::  lw_g
abbrev b_R_read : ByteArray := prog_6_method_2_code
abbrev y_R_read : MethodName := ⟨"DocumentFile$Reader", "read", "(LDocumentFile$Document;)I"⟩
abbrev w_R_read : List Cond := Cond.code y_R_read b_R_read 4 (some .int) ::  lw_g
abbrev b_R_failed : ByteArray := prog_6_method_3_code
abbrev y_R_failed : MethodName := ⟨"DocumentFile$Reader", "failed", "()Z"⟩
abbrev w_R_failed : List Cond := Cond.code y_R_failed b_R_failed 1 (some .boolean) ::  lw_g
abbrev b_R_refuse : ByteArray := prog_6_method_4_code
abbrev y_R_refuse : MethodName := ⟨"DocumentFile$Reader", "refuse", "(I)I"⟩
abbrev w_R_refuse : List Cond := Cond.code y_R_refuse b_R_refuse 2 (some .int) ::  lw_g
abbrev b_R_readHead : ByteArray := prog_6_method_5_code
abbrev y_R_readHead : MethodName := ⟨"DocumentFile$Reader", "readHead", "()V"⟩
abbrev w_R_readHead : List Cond := Cond.code y_R_readHead b_R_readHead 2 none ::  lw_g
abbrev b_R_readNumber : ByteArray := prog_6_method_6_code
abbrev y_R_readNumber : MethodName := ⟨"DocumentFile$Reader", "readNumber", "(II)I"⟩
abbrev w_R_readNumber : List Cond := Cond.code y_R_readNumber b_R_readNumber 6 (some .int) ::  lw_g
abbrev b_R_readStyles : ByteArray := prog_6_method_7_code
abbrev y_R_readStyles : MethodName := ⟨"DocumentFile$Reader", "readStyles", "(LDocumentFile$Document;)V"⟩
abbrev w_R_readStyles : List Cond := Cond.code y_R_readStyles b_R_readStyles 4 none ::  lw_g
abbrev b_R_readBase : ByteArray := prog_6_method_8_code
abbrev y_R_readBase : MethodName := ⟨"DocumentFile$Reader", "readBase", "(LDocumentFile$Document;I)V"⟩
abbrev w_R_readBase : List Cond := Cond.code y_R_readBase b_R_readBase 4 none ::  lw_g
abbrev b_R_readProperties : ByteArray := prog_6_method_9_code
abbrev y_R_readProperties : MethodName := ⟨"DocumentFile$Reader", "readProperties", "(LDocumentFile$PropertyRows;I)V"⟩
abbrev w_R_readProperties : List Cond := Cond.code y_R_readProperties b_R_readProperties 7 none ::  lw_g
abbrev b_R_readRun : ByteArray := prog_6_method_10_code
abbrev y_R_readRun : MethodName := ⟨"DocumentFile$Reader", "readRun", "(LDocumentFile$Document;)V"⟩
abbrev w_R_readRun : List Cond := Cond.code y_R_readRun b_R_readRun 8 none ::  lw_g
abbrev b_R_readSet : ByteArray := prog_6_method_11_code
abbrev y_R_readSet : MethodName := ⟨"DocumentFile$Reader", "readSet", "(LDocumentFile$Document;I)I"⟩
abbrev w_R_readSet : List Cond := Cond.code y_R_readSet b_R_readSet 6 (some .int) ::  lw_g
abbrev b_R_readMark : ByteArray := prog_6_method_12_code
abbrev y_R_readMark : MethodName := ⟨"DocumentFile$Reader", "readMark", "(LDocumentFile$Document;)I"⟩
abbrev w_R_readMark : List Cond := Cond.code y_R_readMark b_R_readMark 8 (some .int) ::  lw_g
abbrev b_R_readCharacters : ByteArray := prog_6_method_13_code
abbrev y_R_readCharacters : MethodName := ⟨"DocumentFile$Reader", "readCharacters", "(LDocumentFile$Runs;I)V"⟩
abbrev w_R_readCharacters : List Cond := Cond.code y_R_readCharacters b_R_readCharacters 6 none ::  lw_g
abbrev b_R_readCharacter : ByteArray := prog_6_method_14_code
abbrev y_R_readCharacter : MethodName := ⟨"DocumentFile$Reader", "readCharacter", "()I"⟩
abbrev w_R_readCharacter : List Cond := Cond.code y_R_readCharacter b_R_readCharacter 2 (some .int) ::  lw_g
abbrev b_U_init : ByteArray := prog_7_method_1_code
abbrev y_U_init : MethodName := ⟨"DocumentFile$Runs", "<init>", "()V"⟩
abbrev w_U_init : List Cond := Cond.code y_U_init b_U_init 1 none ::  lw_g
abbrev b_U_isText : ByteArray := prog_7_method_2_code
abbrev y_U_isText : MethodName := ⟨"DocumentFile$Runs", "isText", "(I)Z"⟩
abbrev w_U_isText : List Cond := Cond.code y_U_isText b_U_isText 1 (some .boolean) ::  lw_g
abbrev b_U_empty : ByteArray := prog_7_method_3_code
abbrev y_U_empty : MethodName := ⟨"DocumentFile$Runs", "empty", "()V"⟩
abbrev w_U_empty : List Cond := Cond.code y_U_empty b_U_empty 1 none ::  lw_g
abbrev b_U_rows : ByteArray := prog_7_method_4_code
abbrev y_U_rows : MethodName := ⟨"DocumentFile$Runs", "rows", "()I"⟩
abbrev w_U_rows : List Cond := Cond.code y_U_rows b_U_rows 1 (some .int) ::  lw_g
abbrev b_U_length : ByteArray := prog_7_method_5_code
abbrev y_U_length : MethodName := ⟨"DocumentFile$Runs", "length", "()I"⟩
abbrev w_U_length : List Cond := Cond.code y_U_length b_U_length 1 (some .int) ::  lw_g
abbrev b_U_takes : ByteArray := prog_7_method_6_code
abbrev y_U_takes : MethodName := ⟨"DocumentFile$Runs", "takes", "(I)Z"⟩
abbrev w_U_takes : List Cond := Cond.code y_U_takes b_U_takes 2 (some .boolean) ::  lw_g
abbrev b_U_begin : ByteArray := prog_7_method_7_code
abbrev y_U_begin : MethodName := ⟨"DocumentFile$Runs", "begin", "(IIII)I"⟩
abbrev w_U_begin : List Cond := Cond.code y_U_begin b_U_begin 6 (some .int) ::  lw_g
abbrev b_U_append : ByteArray := prog_7_method_8_code
abbrev y_U_append : MethodName := ⟨"DocumentFile$Runs", "append", "(I)V"⟩
abbrev w_U_append : List Cond := Cond.code y_U_append b_U_append 2 none ::  lw_g
abbrev b_U_part : ByteArray := prog_7_method_9_code
abbrev y_U_part : MethodName := ⟨"DocumentFile$Runs", "part", "(II)I"⟩
abbrev w_U_part : List Cond := Cond.code y_U_part b_U_part 3 (some .int) ::  lw_g
abbrev b_U_character : ByteArray := prog_7_method_10_code
abbrev y_U_character : MethodName := ⟨"DocumentFile$Runs", "character", "(I)I"⟩
abbrev w_U_character : List Cond := Cond.code y_U_character b_U_character 2 (some .int) ::  lw_g
abbrev b_W_init : ByteArray := prog_8_method_1_code
abbrev y_W_init : MethodName := ⟨"DocumentFile$Writer", "<init>", "(LDocumentFile$Octets;)V"⟩
abbrev w_W_init : List Cond := Cond.code y_W_init b_W_init 2 none ::  lw_g
abbrev b_W_write : ByteArray := prog_8_method_2_code
abbrev y_W_write : MethodName := ⟨"DocumentFile$Writer", "write", "(LDocumentFile$Document;)V"⟩
abbrev w_W_write : List Cond := Cond.code y_W_write b_W_write 3 none ::  lw_g
abbrev b_W_writeNumber : ByteArray := prog_8_method_3_code
abbrev y_W_writeNumber : MethodName := ⟨"DocumentFile$Writer", "writeNumber", "(I)V"⟩
abbrev w_W_writeNumber : List Cond := Cond.code y_W_writeNumber b_W_writeNumber 2 none ::  lw_g
abbrev b_W_writeStyles : ByteArray := prog_8_method_4_code
abbrev y_W_writeStyles : MethodName := ⟨"DocumentFile$Writer", "writeStyles", "(LDocumentFile$Document;)V"⟩
abbrev w_W_writeStyles : List Cond := Cond.code y_W_writeStyles b_W_writeStyles 3 none ::  lw_g
abbrev b_W_writeProperties : ByteArray := prog_8_method_5_code
abbrev y_W_writeProperties : MethodName := ⟨"DocumentFile$Writer", "writeProperties", "(LDocumentFile$PropertyRows;I)V"⟩
abbrev w_W_writeProperties : List Cond := Cond.code y_W_writeProperties b_W_writeProperties 5 none ::  lw_g
abbrev b_W_joinedRuns : ByteArray := prog_8_method_6_code
abbrev y_W_joinedRuns : MethodName := ⟨"DocumentFile$Writer", "joinedRuns", "(LDocumentFile$Document;)I"⟩
abbrev w_W_joinedRuns : List Cond := Cond.code y_W_joinedRuns b_W_joinedRuns 4 (some .int) ::  lw_g
abbrev b_W_writeRun : ByteArray := prog_8_method_7_code
abbrev y_W_writeRun : MethodName := ⟨"DocumentFile$Writer", "writeRun", "(LDocumentFile$Document;I)V"⟩
abbrev w_W_writeRun : List Cond := Cond.code y_W_writeRun b_W_writeRun 7 none ::  lw_g
abbrev b_W_joinedLength : ByteArray := prog_8_method_8_code
abbrev y_W_joinedLength : MethodName := ⟨"DocumentFile$Writer", "joinedLength", "(LDocumentFile$Document;I)I"⟩
abbrev w_W_joinedLength : List Cond := Cond.code y_W_joinedLength b_W_joinedLength 5 (some .int) ::  lw_g
abbrev b_W_writeSet : ByteArray := prog_8_method_9_code
abbrev y_W_writeSet : MethodName := ⟨"DocumentFile$Writer", "writeSet", "(LDocumentFile$Document;II)V"⟩
abbrev w_W_writeSet : List Cond := Cond.code y_W_writeSet b_W_writeSet 5 none ::  lw_g
abbrev b_W_numberOfSet : ByteArray := prog_8_method_10_code
abbrev y_W_numberOfSet : MethodName := ⟨"DocumentFile$Writer", "numberOfSet", "(LDocumentFile$Document;I)I"⟩
abbrev w_W_numberOfSet : List Cond := Cond.code y_W_numberOfSet b_W_numberOfSet 4 (some .int) ::  lw_g
abbrev b_W_writeMark : ByteArray := prog_8_method_11_code
abbrev y_W_writeMark : MethodName := ⟨"DocumentFile$Writer", "writeMark", "(LDocumentFile$Document;I)V"⟩
abbrev w_W_writeMark : List Cond := Cond.code y_W_writeMark b_W_writeMark 5 none ::  lw_g
abbrev b_W_numberOfMark : ByteArray := prog_8_method_12_code
abbrev y_W_numberOfMark : MethodName := ⟨"DocumentFile$Writer", "numberOfMark", "(LDocumentFile$Document;I)I"⟩
abbrev w_W_numberOfMark : List Cond := Cond.code y_W_numberOfMark b_W_numberOfMark 4 (some .int) ::  lw_g
set_option maxRecDepth 20000 in
theorem mm_79 : (.fieldLink "DocumentFile$PropertyRows" 19 "DocumentFile$PropertyRows" "rows" "I" : Cond) ∈ lw_g := lw_g_of (mt1 (List.mem_of_getElem? (i := 32) (by decide +kernel))) rfl
set_option maxRecDepth 20000 in
theorem mm_95 : (.fieldLink "DocumentFile$Marks" 15 "DocumentFile$Marks" "rows" "I" : Cond) ∈ lw_g := lw_g_of (mt1 (List.mem_of_getElem? (i := 48) (by decide +kernel))) rfl
set_option maxRecDepth 20000 in
theorem mm_109 : (.fieldLink "DocumentFile$Runs" 18 "DocumentFile$Runs" "rows" "I" : Cond) ∈ lw_g := lw_g_of (mt1 (List.mem_of_getElem? (i := 62) (by decide +kernel))) rfl
set_option maxRecDepth 20000 in
theorem mm_110 : (.fieldLink "DocumentFile$Runs" 22 "DocumentFile$Runs" "length" "I" : Cond) ∈ lw_g := lw_g_of (mt1 (List.mem_of_getElem? (i := 63) (by decide +kernel))) rfl
set_option maxRecDepth 20000 in
theorem mm_120 : (.fieldLink "DocumentFile$Document" 14 "DocumentFile$Document" "styles" "LDocumentFile$PropertyRows;" : Cond) ∈ lw_g := lw_g_of (mt1 (List.mem_of_getElem? (i := 73) (by decide +kernel))) rfl
set_option maxRecDepth 20000 in
theorem mm_124 : (.fieldLink "DocumentFile$Document" 20 "DocumentFile$Document" "sets" "LDocumentFile$PropertyRows;" : Cond) ∈ lw_g := lw_g_of (mt1 (List.mem_of_getElem? (i := 77) (by decide +kernel))) rfl
set_option maxRecDepth 20000 in
theorem mm_128 : (.fieldLink "DocumentFile$Document" 26 "DocumentFile$Document" "marks" "LDocumentFile$Marks;" : Cond) ∈ lw_g := lw_g_of (mt1 (List.mem_of_getElem? (i := 81) (by decide +kernel))) rfl
set_option maxRecDepth 20000 in
theorem mm_132 : (.fieldLink "DocumentFile$Document" 33 "DocumentFile$Document" "runs" "LDocumentFile$Runs;" : Cond) ∈ lw_g := lw_g_of (mt1 (List.mem_of_getElem? (i := 85) (by decide +kernel))) rfl
set_option maxRecDepth 20000 in
theorem mm_237 : (.code ⟨"DocumentFile$Runs", "empty", "()V"⟩ prog_7_method_3_code 1 none : Cond) ∈ lw_g := lw_g_of (mt1 (List.mem_of_getElem? (i := 190) rfl)) rfl
set_option maxRecDepth 20000 in
theorem mm_234 : (.methodLink "DocumentFile$Document" 45 ⟨"DocumentFile$Runs", "empty", "()V"⟩ : Cond) ∈ lw_g := lw_g_of (mt1 (List.mem_of_getElem? (i := 187) (by decide +kernel))) rfl
set_option maxRecDepth 20000 in
theorem mm_52 : (.initialized "DocumentFile$Runs" : Cond) ∈ lw_g := lw_g_of (mt1 (List.mem_of_getElem? (i := 5) (by decide +kernel))) rfl
set_option maxRecDepth 20000 in
theorem mm_235 : (.instanceMethod ⟨"DocumentFile$Runs", "empty", "()V"⟩ : Cond) ∈ lw_g := lw_g_of (mt1 (List.mem_of_getElem? (i := 188) (by decide +kernel))) rfl
set_option maxRecDepth 20000 in
theorem mm_236 : (.selects "DocumentFile$Runs" ⟨"DocumentFile$Runs", "empty", "()V"⟩ ⟨"DocumentFile$Runs", "empty", "()V"⟩ : Cond) ∈ lw_g := lw_g_of (mt1 (List.mem_of_getElem? (i := 189) (by decide +kernel))) rfl
set_option maxRecDepth 20000 in
theorem mm_233 : (.code ⟨"DocumentFile$Marks", "empty", "()V"⟩ prog_3_method_2_code 1 none : Cond) ∈ lw_g := lw_g_of (mt1 (List.mem_of_getElem? (i := 186) rfl)) rfl
set_option maxRecDepth 20000 in
theorem mm_230 : (.methodLink "DocumentFile$Document" 44 ⟨"DocumentFile$Marks", "empty", "()V"⟩ : Cond) ∈ lw_g := lw_g_of (mt1 (List.mem_of_getElem? (i := 183) (by decide +kernel))) rfl
set_option maxRecDepth 20000 in
theorem mm_51 : (.initialized "DocumentFile$Marks" : Cond) ∈ lw_g := lw_g_of (mt1 (List.mem_of_getElem? (i := 4) (by decide +kernel))) rfl
set_option maxRecDepth 20000 in
theorem mm_231 : (.instanceMethod ⟨"DocumentFile$Marks", "empty", "()V"⟩ : Cond) ∈ lw_g := lw_g_of (mt1 (List.mem_of_getElem? (i := 184) (by decide +kernel))) rfl
set_option maxRecDepth 20000 in
theorem mm_232 : (.selects "DocumentFile$Marks" ⟨"DocumentFile$Marks", "empty", "()V"⟩ ⟨"DocumentFile$Marks", "empty", "()V"⟩ : Cond) ∈ lw_g := lw_g_of (mt1 (List.mem_of_getElem? (i := 185) (by decide +kernel))) rfl
set_option maxRecDepth 20000 in
theorem mm_229 : (.code ⟨"DocumentFile$PropertyRows", "empty", "()V"⟩ prog_5_method_3_code 1 none : Cond) ∈ lw_g := lw_g_of (mt1 (List.mem_of_getElem? (i := 182) rfl)) rfl
set_option maxRecDepth 20000 in
theorem mm_226 : (.methodLink "DocumentFile$Document" 41 ⟨"DocumentFile$PropertyRows", "empty", "()V"⟩ : Cond) ∈ lw_g := lw_g_of (mt1 (List.mem_of_getElem? (i := 179) (by decide +kernel))) rfl
set_option maxRecDepth 20000 in
theorem mm_50 : (.initialized "DocumentFile$PropertyRows" : Cond) ∈ lw_g := lw_g_of (mt1 (List.mem_of_getElem? (i := 3) (by decide +kernel))) rfl
set_option maxRecDepth 20000 in
theorem mm_227 : (.instanceMethod ⟨"DocumentFile$PropertyRows", "empty", "()V"⟩ : Cond) ∈ lw_g := lw_g_of (mt1 (List.mem_of_getElem? (i := 180) (by decide +kernel))) rfl
set_option maxRecDepth 20000 in
theorem mm_228 : (.selects "DocumentFile$PropertyRows" ⟨"DocumentFile$PropertyRows", "empty", "()V"⟩ ⟨"DocumentFile$PropertyRows", "empty", "()V"⟩ : Cond) ∈ lw_g := lw_g_of (mt1 (List.mem_of_getElem? (i := 181) (by decide +kernel))) rfl
set_option maxRecDepth 20000 in
theorem mm_202 : (.fieldLink "DocumentFile" 10 "DocumentFile" "document" "LDocumentFile$Document;" : Cond) ∈ lw_g := lw_g_of (mt1 (List.mem_of_getElem? (i := 155) (by decide +kernel))) rfl
set_option maxRecDepth 20000 in
theorem mm_225 : (.code ⟨"DocumentFile$Document", "empty", "()V"⟩ prog_2_method_2_code 1 none : Cond) ∈ lw_g := lw_g_of (mt1 (List.mem_of_getElem? (i := 178) rfl)) rfl
set_option maxRecDepth 20000 in
theorem mm_222 : (.methodLink "DocumentFile" 42 ⟨"DocumentFile$Document", "empty", "()V"⟩ : Cond) ∈ lw_g := lw_g_of (mt1 (List.mem_of_getElem? (i := 175) (by decide +kernel))) rfl
set_option maxRecDepth 20000 in
theorem mm_49 : (.initialized "DocumentFile$Document" : Cond) ∈ lw_g := lw_g_of (mt1 (List.mem_of_getElem? (i := 2) (by decide +kernel))) rfl
set_option maxRecDepth 20000 in
theorem mm_223 : (.instanceMethod ⟨"DocumentFile$Document", "empty", "()V"⟩ : Cond) ∈ lw_g := lw_g_of (mt1 (List.mem_of_getElem? (i := 176) (by decide +kernel))) rfl
set_option maxRecDepth 20000 in
theorem mm_224 : (.selects "DocumentFile$Document" ⟨"DocumentFile$Document", "empty", "()V"⟩ ⟨"DocumentFile$Document", "empty", "()V"⟩ : Cond) ∈ lw_g := lw_g_of (mt1 (List.mem_of_getElem? (i := 177) (by decide +kernel))) rfl
set_option maxRecDepth 20000 in
theorem mm_77 : (.fieldLink "DocumentFile$PropertyRows" 9 "DocumentFile$PropertyRows" "most" "I" : Cond) ∈ lw_g := lw_g_of (mt1 (List.mem_of_getElem? (i := 30) (by decide +kernel))) rfl
set_option maxRecDepth 20000 in
theorem mm_78 : (.fieldLink "DocumentFile$PropertyRows" 15 "DocumentFile$PropertyRows" "values" "[I" : Cond) ∈ lw_g := lw_g_of (mt1 (List.mem_of_getElem? (i := 31) (by decide +kernel))) rfl
set_option maxRecDepth 20000 in
theorem mm_136 : (.fieldLink "DocumentFile$Document" 37 "DocumentFile$Document" "bases" "[I" : Cond) ∈ lw_g := lw_g_of (mt1 (List.mem_of_getElem? (i := 89) (by decide +kernel))) rfl
set_option maxRecDepth 20000 in
theorem mm_253 : (.code ⟨"DocumentFile$PropertyRows", "add", "()I"⟩ prog_5_method_6_code 2 (some .int) : Cond) ∈ lw_g := lw_g_of (mt1 (List.mem_of_getElem? (i := 206) rfl)) rfl
set_option maxRecDepth 20000 in
theorem mm_250 : (.methodLink "DocumentFile$Document" 46 ⟨"DocumentFile$PropertyRows", "add", "()I"⟩ : Cond) ∈ lw_g := lw_g_of (mt1 (List.mem_of_getElem? (i := 203) (by decide +kernel))) rfl
set_option maxRecDepth 20000 in
theorem mm_251 : (.instanceMethod ⟨"DocumentFile$PropertyRows", "add", "()I"⟩ : Cond) ∈ lw_g := lw_g_of (mt1 (List.mem_of_getElem? (i := 204) (by decide +kernel))) rfl
set_option maxRecDepth 20000 in
theorem mm_252 : (.selects "DocumentFile$PropertyRows" ⟨"DocumentFile$PropertyRows", "add", "()I"⟩ ⟨"DocumentFile$PropertyRows", "add", "()I"⟩ : Cond) ∈ lw_g := lw_g_of (mt1 (List.mem_of_getElem? (i := 205) (by decide +kernel))) rfl
set_option maxRecDepth 20000 in
theorem mm_249 : (.code ⟨"DocumentFile$Document", "addStyle", "(I)I"⟩ prog_2_method_3_code 3 (some .int) : Cond) ∈ lw_g := lw_g_of (mt1 (List.mem_of_getElem? (i := 202) rfl)) rfl
set_option maxRecDepth 20000 in
theorem mm_246 : (.methodLink "DocumentFile" 55 ⟨"DocumentFile$Document", "addStyle", "(I)I"⟩ : Cond) ∈ lw_g := lw_g_of (mt1 (List.mem_of_getElem? (i := 199) (by decide +kernel))) rfl
set_option maxRecDepth 20000 in
theorem mm_247 : (.instanceMethod ⟨"DocumentFile$Document", "addStyle", "(I)I"⟩ : Cond) ∈ lw_g := lw_g_of (mt1 (List.mem_of_getElem? (i := 200) (by decide +kernel))) rfl
set_option maxRecDepth 20000 in
theorem mm_248 : (.selects "DocumentFile$Document" ⟨"DocumentFile$Document", "addStyle", "(I)I"⟩ ⟨"DocumentFile$Document", "addStyle", "(I)I"⟩ : Cond) ∈ lw_g := lw_g_of (mt1 (List.mem_of_getElem? (i := 201) (by decide +kernel))) rfl
set_option maxRecDepth 20000 in
theorem mm_121 : (.fieldLink "DocumentFile" 45 "DocumentFile$Document" "styles" "LDocumentFile$PropertyRows;" : Cond) ∈ lw_g := lw_g_of (mt1 (List.mem_of_getElem? (i := 74) (by decide +kernel))) rfl
set_option maxRecDepth 20000 in
theorem mm_245 : (.code ⟨"DocumentFile$PropertyRows", "has", "(I)Z"⟩ prog_5_method_5_code 2 (some .boolean) : Cond) ∈ lw_g := lw_g_of (mt1 (List.mem_of_getElem? (i := 198) rfl)) rfl
set_option maxRecDepth 20000 in
theorem mm_242 : (.methodLink "DocumentFile" 49 ⟨"DocumentFile$PropertyRows", "has", "(I)Z"⟩ : Cond) ∈ lw_g := lw_g_of (mt1 (List.mem_of_getElem? (i := 195) (by decide +kernel))) rfl
set_option maxRecDepth 20000 in
theorem mm_243 : (.instanceMethod ⟨"DocumentFile$PropertyRows", "has", "(I)Z"⟩ : Cond) ∈ lw_g := lw_g_of (mt1 (List.mem_of_getElem? (i := 196) (by decide +kernel))) rfl
set_option maxRecDepth 20000 in
theorem mm_244 : (.selects "DocumentFile$PropertyRows" ⟨"DocumentFile$PropertyRows", "has", "(I)Z"⟩ ⟨"DocumentFile$PropertyRows", "has", "(I)Z"⟩ : Cond) ∈ lw_g := lw_g_of (mt1 (List.mem_of_getElem? (i := 197) (by decide +kernel))) rfl
set_option maxRecDepth 20000 in
theorem mm_125 : (.fieldLink "DocumentFile" 59 "DocumentFile$Document" "sets" "LDocumentFile$PropertyRows;" : Cond) ∈ lw_g := lw_g_of (mt1 (List.mem_of_getElem? (i := 78) (by decide +kernel))) rfl
set_option maxRecDepth 20000 in
theorem mm_258 : (.methodLink "DocumentFile" 62 ⟨"DocumentFile$PropertyRows", "add", "()I"⟩ : Cond) ∈ lw_g := lw_g_of (mt1 (List.mem_of_getElem? (i := 211) (by decide +kernel))) rfl
set_option maxRecDepth 20000 in
theorem mm_271 : (.constant "DocumentFile$PropertyRows" 22 (65535) : Cond) ∈ lw_g := lw_g_of (mt1 (List.mem_of_getElem? (i := 224) (by decide +kernel))) rfl
set_option maxRecDepth 20000 in
theorem mm_270 : (.code ⟨"DocumentFile$PropertyRows", "mostOf", "(I)I"⟩ prog_5_method_2_code 1 (some .int) : Cond) ∈ lw_g := lw_g_of (mt1 (List.mem_of_getElem? (i := 223) rfl)) rfl
set_option maxRecDepth 20000 in
theorem mm_268 : (.methodLink "DocumentFile$PropertyRows" 27 ⟨"DocumentFile$PropertyRows", "mostOf", "(I)I"⟩ : Cond) ∈ lw_g := lw_g_of (mt1 (List.mem_of_getElem? (i := 221) (by decide +kernel))) rfl
set_option maxRecDepth 20000 in
theorem mm_269 : (.static ⟨"DocumentFile$PropertyRows", "mostOf", "(I)I"⟩ : Cond) ∈ lw_g := lw_g_of (mt1 (List.mem_of_getElem? (i := 222) (by decide +kernel))) rfl
set_option maxRecDepth 20000 in
theorem mm_267 : (.methodLink "DocumentFile$PropertyRows" 23 ⟨"DocumentFile$PropertyRows", "has", "(I)Z"⟩ : Cond) ∈ lw_g := lw_g_of (mt1 (List.mem_of_getElem? (i := 220) (by decide +kernel))) rfl
set_option maxRecDepth 20000 in
theorem mm_266 : (.code ⟨"DocumentFile$PropertyRows", "put", "(III)Z"⟩ prog_5_method_8_code 4 (some .boolean) : Cond) ∈ lw_g := lw_g_of (mt1 (List.mem_of_getElem? (i := 219) rfl)) rfl
set_option maxRecDepth 20000 in
theorem mm_263 : (.methodLink "DocumentFile" 66 ⟨"DocumentFile$PropertyRows", "put", "(III)Z"⟩ : Cond) ∈ lw_g := lw_g_of (mt1 (List.mem_of_getElem? (i := 216) (by decide +kernel))) rfl
set_option maxRecDepth 20000 in
theorem mm_264 : (.instanceMethod ⟨"DocumentFile$PropertyRows", "put", "(III)Z"⟩ : Cond) ∈ lw_g := lw_g_of (mt1 (List.mem_of_getElem? (i := 217) (by decide +kernel))) rfl
set_option maxRecDepth 20000 in
theorem mm_265 : (.selects "DocumentFile$PropertyRows" ⟨"DocumentFile$PropertyRows", "put", "(III)Z"⟩ ⟨"DocumentFile$PropertyRows", "put", "(III)Z"⟩ : Cond) ∈ lw_g := lw_g_of (mt1 (List.mem_of_getElem? (i := 218) (by decide +kernel))) rfl
set_option maxRecDepth 20000 in
theorem mm_94 : (.fieldLink "DocumentFile$Marks" 9 "DocumentFile$Marks" "parts" "[I" : Cond) ∈ lw_g := lw_g_of (mt1 (List.mem_of_getElem? (i := 47) (by decide +kernel))) rfl
set_option maxRecDepth 20000 in
theorem mm_283 : (.code ⟨"DocumentFile$Marks", "isFull", "()Z"⟩ prog_3_method_5_code 1 (some .boolean) : Cond) ∈ lw_g := lw_g_of (mt1 (List.mem_of_getElem? (i := 236) rfl)) rfl
set_option maxRecDepth 20000 in
theorem mm_280 : (.methodLink "DocumentFile$Marks" 19 ⟨"DocumentFile$Marks", "isFull", "()Z"⟩ : Cond) ∈ lw_g := lw_g_of (mt1 (List.mem_of_getElem? (i := 233) (by decide +kernel))) rfl
set_option maxRecDepth 20000 in
theorem mm_281 : (.instanceMethod ⟨"DocumentFile$Marks", "isFull", "()Z"⟩ : Cond) ∈ lw_g := lw_g_of (mt1 (List.mem_of_getElem? (i := 234) (by decide +kernel))) rfl
set_option maxRecDepth 20000 in
theorem mm_282 : (.selects "DocumentFile$Marks" ⟨"DocumentFile$Marks", "isFull", "()Z"⟩ ⟨"DocumentFile$Marks", "isFull", "()Z"⟩ : Cond) ∈ lw_g := lw_g_of (mt1 (List.mem_of_getElem? (i := 235) (by decide +kernel))) rfl
set_option maxRecDepth 20000 in
theorem mm_129 : (.fieldLink "DocumentFile" 70 "DocumentFile$Document" "marks" "LDocumentFile$Marks;" : Cond) ∈ lw_g := lw_g_of (mt1 (List.mem_of_getElem? (i := 82) (by decide +kernel))) rfl
set_option maxRecDepth 20000 in
theorem mm_279 : (.code ⟨"DocumentFile$Marks", "add", "(III)I"⟩ prog_3_method_6_code 4 (some .int) : Cond) ∈ lw_g := lw_g_of (mt1 (List.mem_of_getElem? (i := 232) rfl)) rfl
set_option maxRecDepth 20000 in
theorem mm_276 : (.methodLink "DocumentFile" 74 ⟨"DocumentFile$Marks", "add", "(III)I"⟩ : Cond) ∈ lw_g := lw_g_of (mt1 (List.mem_of_getElem? (i := 229) (by decide +kernel))) rfl
set_option maxRecDepth 20000 in
theorem mm_277 : (.instanceMethod ⟨"DocumentFile$Marks", "add", "(III)I"⟩ : Cond) ∈ lw_g := lw_g_of (mt1 (List.mem_of_getElem? (i := 230) (by decide +kernel))) rfl
set_option maxRecDepth 20000 in
theorem mm_278 : (.selects "DocumentFile$Marks" ⟨"DocumentFile$Marks", "add", "(III)I"⟩ ⟨"DocumentFile$Marks", "add", "(III)I"⟩ : Cond) ∈ lw_g := lw_g_of (mt1 (List.mem_of_getElem? (i := 231) (by decide +kernel))) rfl
set_option maxRecDepth 20000 in
theorem mm_296 : (.code ⟨"DocumentFile$Runs", "isText", "(I)Z"⟩ prog_7_method_2_code 1 (some .boolean) : Cond) ∈ lw_g := lw_g_of (mt2 (List.mem_of_getElem? (i := 9) rfl)) rfl
set_option maxRecDepth 20000 in
theorem mm_294 : (.methodLink "DocumentFile" 148 ⟨"DocumentFile$Runs", "isText", "(I)Z"⟩ : Cond) ∈ lw_g := lw_g_of (mt2 (List.mem_of_getElem? (i := 7) (by decide +kernel))) rfl
set_option maxRecDepth 20000 in
theorem mm_295 : (.static ⟨"DocumentFile$Runs", "isText", "(I)Z"⟩ : Cond) ∈ lw_g := lw_g_of (mt2 (List.mem_of_getElem? (i := 8) (by decide +kernel))) rfl
set_option maxRecDepth 20000 in
theorem mm_293 : (.code ⟨"DocumentFile", "byteOf", "(JI)I"⟩ prog_1_method_20_code 3 (some .int) : Cond) ∈ lw_g := lw_g_of (mt2 (List.mem_of_getElem? (i := 6) rfl)) rfl
set_option maxRecDepth 20000 in
theorem mm_291 : (.methodLink "DocumentFile" 97 ⟨"DocumentFile", "byteOf", "(JI)I"⟩ : Cond) ∈ lw_g := lw_g_of (mt2 (List.mem_of_getElem? (i := 4) (by decide +kernel))) rfl
set_option maxRecDepth 20000 in
theorem mm_48 : (.initialized "DocumentFile" : Cond) ∈ lw_g := lw_g_of (mt1 (List.mem_of_getElem? (i := 1) (by decide +kernel))) rfl
set_option maxRecDepth 20000 in
theorem mm_292 : (.static ⟨"DocumentFile", "byteOf", "(JI)I"⟩ : Cond) ∈ lw_g := lw_g_of (mt2 (List.mem_of_getElem? (i := 5) (by decide +kernel))) rfl
set_option maxRecDepth 20000 in
theorem mm_107 : (.fieldLink "DocumentFile$Runs" 9 "DocumentFile$Runs" "parts" "[I" : Cond) ∈ lw_g := lw_g_of (mt1 (List.mem_of_getElem? (i := 60) (by decide +kernel))) rfl
set_option maxRecDepth 20000 in
theorem mm_108 : (.fieldLink "DocumentFile$Runs" 15 "DocumentFile$Runs" "characters" "[I" : Cond) ∈ lw_g := lw_g_of (mt1 (List.mem_of_getElem? (i := 61) (by decide +kernel))) rfl
set_option maxRecDepth 20000 in
theorem mm_134 : (.fieldLink "DocumentFile" 84 "DocumentFile$Document" "runs" "LDocumentFile$Runs;" : Cond) ∈ lw_g := lw_g_of (mt1 (List.mem_of_getElem? (i := 87) (by decide +kernel))) rfl
set_option maxRecDepth 20000 in
theorem mm_316 : (.code ⟨"DocumentFile$Runs", "rows", "()I"⟩ prog_7_method_4_code 1 (some .int) : Cond) ∈ lw_g := lw_g_of (mt2 (List.mem_of_getElem? (i := 29) rfl)) rfl
set_option maxRecDepth 20000 in
theorem mm_313 : (.methodLink "DocumentFile" 105 ⟨"DocumentFile$Runs", "rows", "()I"⟩ : Cond) ∈ lw_g := lw_g_of (mt2 (List.mem_of_getElem? (i := 26) (by decide +kernel))) rfl
set_option maxRecDepth 20000 in
theorem mm_314 : (.instanceMethod ⟨"DocumentFile$Runs", "rows", "()I"⟩ : Cond) ∈ lw_g := lw_g_of (mt2 (List.mem_of_getElem? (i := 27) (by decide +kernel))) rfl
set_option maxRecDepth 20000 in
theorem mm_315 : (.selects "DocumentFile$Runs" ⟨"DocumentFile$Runs", "rows", "()I"⟩ ⟨"DocumentFile$Runs", "rows", "()I"⟩ : Cond) ∈ lw_g := lw_g_of (mt2 (List.mem_of_getElem? (i := 28) (by decide +kernel))) rfl
set_option maxRecDepth 20000 in
theorem mm_312 : (.code ⟨"DocumentFile$Runs", "append", "(I)V"⟩ prog_7_method_8_code 2 none : Cond) ∈ lw_g := lw_g_of (mt2 (List.mem_of_getElem? (i := 25) rfl)) rfl
set_option maxRecDepth 20000 in
theorem mm_309 : (.methodLink "DocumentFile" 101 ⟨"DocumentFile$Runs", "append", "(I)V"⟩ : Cond) ∈ lw_g := lw_g_of (mt2 (List.mem_of_getElem? (i := 22) (by decide +kernel))) rfl
set_option maxRecDepth 20000 in
theorem mm_310 : (.instanceMethod ⟨"DocumentFile$Runs", "append", "(I)V"⟩ : Cond) ∈ lw_g := lw_g_of (mt2 (List.mem_of_getElem? (i := 23) (by decide +kernel))) rfl
set_option maxRecDepth 20000 in
theorem mm_311 : (.selects "DocumentFile$Runs" ⟨"DocumentFile$Runs", "append", "(I)V"⟩ ⟨"DocumentFile$Runs", "append", "(I)V"⟩ : Cond) ∈ lw_g := lw_g_of (mt2 (List.mem_of_getElem? (i := 24) (by decide +kernel))) rfl
set_option maxRecDepth 20000 in
theorem mm_308 : (.code ⟨"DocumentFile$Runs", "begin", "(IIII)I"⟩ prog_7_method_7_code 6 (some .int) : Cond) ∈ lw_g := lw_g_of (mt2 (List.mem_of_getElem? (i := 21) rfl)) rfl
set_option maxRecDepth 20000 in
theorem mm_305 : (.methodLink "DocumentFile" 93 ⟨"DocumentFile$Runs", "begin", "(IIII)I"⟩ : Cond) ∈ lw_g := lw_g_of (mt2 (List.mem_of_getElem? (i := 18) (by decide +kernel))) rfl
set_option maxRecDepth 20000 in
theorem mm_306 : (.instanceMethod ⟨"DocumentFile$Runs", "begin", "(IIII)I"⟩ : Cond) ∈ lw_g := lw_g_of (mt2 (List.mem_of_getElem? (i := 19) (by decide +kernel))) rfl
set_option maxRecDepth 20000 in
theorem mm_307 : (.selects "DocumentFile$Runs" ⟨"DocumentFile$Runs", "begin", "(IIII)I"⟩ ⟨"DocumentFile$Runs", "begin", "(IIII)I"⟩ : Cond) ∈ lw_g := lw_g_of (mt2 (List.mem_of_getElem? (i := 20) (by decide +kernel))) rfl
set_option maxRecDepth 20000 in
theorem mm_304 : (.code ⟨"DocumentFile$Runs", "takes", "(I)Z"⟩ prog_7_method_6_code 2 (some .boolean) : Cond) ∈ lw_g := lw_g_of (mt2 (List.mem_of_getElem? (i := 17) rfl)) rfl
set_option maxRecDepth 20000 in
theorem mm_301 : (.methodLink "DocumentFile" 88 ⟨"DocumentFile$Runs", "takes", "(I)Z"⟩ : Cond) ∈ lw_g := lw_g_of (mt2 (List.mem_of_getElem? (i := 14) (by decide +kernel))) rfl
set_option maxRecDepth 20000 in
theorem mm_302 : (.instanceMethod ⟨"DocumentFile$Runs", "takes", "(I)Z"⟩ : Cond) ∈ lw_g := lw_g_of (mt2 (List.mem_of_getElem? (i := 15) (by decide +kernel))) rfl
set_option maxRecDepth 20000 in
theorem mm_303 : (.selects "DocumentFile$Runs" ⟨"DocumentFile$Runs", "takes", "(I)Z"⟩ ⟨"DocumentFile$Runs", "takes", "(I)Z"⟩ : Cond) ∈ lw_g := lw_g_of (mt2 (List.mem_of_getElem? (i := 16) (by decide +kernel))) rfl
set_option maxRecDepth 20000 in
theorem mm_300 : (.code ⟨"DocumentFile$Marks", "has", "(I)Z"⟩ prog_3_method_4_code 2 (some .boolean) : Cond) ∈ lw_g := lw_g_of (mt2 (List.mem_of_getElem? (i := 13) rfl)) rfl
set_option maxRecDepth 20000 in
theorem mm_297 : (.methodLink "DocumentFile" 83 ⟨"DocumentFile$Marks", "has", "(I)Z"⟩ : Cond) ∈ lw_g := lw_g_of (mt2 (List.mem_of_getElem? (i := 10) (by decide +kernel))) rfl
set_option maxRecDepth 20000 in
theorem mm_298 : (.instanceMethod ⟨"DocumentFile$Marks", "has", "(I)Z"⟩ : Cond) ∈ lw_g := lw_g_of (mt2 (List.mem_of_getElem? (i := 11) (by decide +kernel))) rfl
set_option maxRecDepth 20000 in
theorem mm_299 : (.selects "DocumentFile$Marks" ⟨"DocumentFile$Marks", "has", "(I)Z"⟩ ⟨"DocumentFile$Marks", "has", "(I)Z"⟩ : Cond) ∈ lw_g := lw_g_of (mt2 (List.mem_of_getElem? (i := 12) (by decide +kernel))) rfl
set_option maxRecDepth 20000 in
theorem mm_290 : (.code ⟨"DocumentFile", "textLength", "(J)I"⟩ prog_1_method_21_code 4 (some .int) : Cond) ∈ lw_g := lw_g_of (mt2 (List.mem_of_getElem? (i := 3) rfl)) rfl
set_option maxRecDepth 20000 in
theorem mm_288 : (.methodLink "DocumentFile" 79 ⟨"DocumentFile", "textLength", "(J)I"⟩ : Cond) ∈ lw_g := lw_g_of (mt2 (List.mem_of_getElem? (i := 1) (by decide +kernel))) rfl
set_option maxRecDepth 20000 in
theorem mm_289 : (.static ⟨"DocumentFile", "textLength", "(J)I"⟩ : Cond) ∈ lw_g := lw_g_of (mt2 (List.mem_of_getElem? (i := 2) (by decide +kernel))) rfl
set_option maxRecDepth 20000 in
theorem mm_155 : (.fieldLink "DocumentFile$Octets" 15 "DocumentFile$Octets" "size" "I" : Cond) ∈ lw_g := lw_g_of (mt1 (List.mem_of_getElem? (i := 108) (by decide +kernel))) rfl
set_option maxRecDepth 20000 in
theorem mm_328 : (.code ⟨"DocumentFile$PropertyRows", "rows", "()I"⟩ prog_5_method_4_code 1 (some .int) : Cond) ∈ lw_g := lw_g_of (mt2 (List.mem_of_getElem? (i := 41) rfl)) rfl
set_option maxRecDepth 20000 in
theorem mm_325 : (.methodLink "DocumentFile" 108 ⟨"DocumentFile$PropertyRows", "rows", "()I"⟩ : Cond) ∈ lw_g := lw_g_of (mt2 (List.mem_of_getElem? (i := 38) (by decide +kernel))) rfl
set_option maxRecDepth 20000 in
theorem mm_326 : (.instanceMethod ⟨"DocumentFile$PropertyRows", "rows", "()I"⟩ : Cond) ∈ lw_g := lw_g_of (mt2 (List.mem_of_getElem? (i := 39) (by decide +kernel))) rfl
set_option maxRecDepth 20000 in
theorem mm_327 : (.selects "DocumentFile$PropertyRows" ⟨"DocumentFile$PropertyRows", "rows", "()I"⟩ ⟨"DocumentFile$PropertyRows", "rows", "()I"⟩ : Cond) ∈ lw_g := lw_g_of (mt2 (List.mem_of_getElem? (i := 40) (by decide +kernel))) rfl
set_option maxRecDepth 20000 in
theorem mm_332 : (.code ⟨"DocumentFile$Marks", "rows", "()I"⟩ prog_3_method_3_code 1 (some .int) : Cond) ∈ lw_g := lw_g_of (mt2 (List.mem_of_getElem? (i := 45) rfl)) rfl
set_option maxRecDepth 20000 in
theorem mm_329 : (.methodLink "DocumentFile" 109 ⟨"DocumentFile$Marks", "rows", "()I"⟩ : Cond) ∈ lw_g := lw_g_of (mt2 (List.mem_of_getElem? (i := 42) (by decide +kernel))) rfl
set_option maxRecDepth 20000 in
theorem mm_330 : (.instanceMethod ⟨"DocumentFile$Marks", "rows", "()I"⟩ : Cond) ∈ lw_g := lw_g_of (mt2 (List.mem_of_getElem? (i := 43) (by decide +kernel))) rfl
set_option maxRecDepth 20000 in
theorem mm_331 : (.selects "DocumentFile$Marks" ⟨"DocumentFile$Marks", "rows", "()I"⟩ ⟨"DocumentFile$Marks", "rows", "()I"⟩ : Cond) ∈ lw_g := lw_g_of (mt2 (List.mem_of_getElem? (i := 44) (by decide +kernel))) rfl
set_option maxRecDepth 20000 in
theorem mm_336 : (.code ⟨"DocumentFile$Runs", "length", "()I"⟩ prog_7_method_5_code 1 (some .int) : Cond) ∈ lw_g := lw_g_of (mt2 (List.mem_of_getElem? (i := 49) rfl)) rfl
set_option maxRecDepth 20000 in
theorem mm_333 : (.methodLink "DocumentFile" 110 ⟨"DocumentFile$Runs", "length", "()I"⟩ : Cond) ∈ lw_g := lw_g_of (mt2 (List.mem_of_getElem? (i := 46) (by decide +kernel))) rfl
set_option maxRecDepth 20000 in
theorem mm_334 : (.instanceMethod ⟨"DocumentFile$Runs", "length", "()I"⟩ : Cond) ∈ lw_g := lw_g_of (mt2 (List.mem_of_getElem? (i := 47) (by decide +kernel))) rfl
set_option maxRecDepth 20000 in
theorem mm_335 : (.selects "DocumentFile$Runs" ⟨"DocumentFile$Runs", "length", "()I"⟩ ⟨"DocumentFile$Runs", "length", "()I"⟩ : Cond) ∈ lw_g := lw_g_of (mt2 (List.mem_of_getElem? (i := 48) (by decide +kernel))) rfl
set_option maxRecDepth 20000 in
theorem mm_204 : (.fieldLink "DocumentFile" 22 "DocumentFile" "file" "LDocumentFile$Octets;" : Cond) ∈ lw_g := lw_g_of (mt1 (List.mem_of_getElem? (i := 157) (by decide +kernel))) rfl
set_option maxRecDepth 20000 in
theorem mm_340 : (.code ⟨"DocumentFile$Octets", "size", "()I"⟩ prog_4_method_2_code 1 (some .int) : Cond) ∈ lw_g := lw_g_of (mt2 (List.mem_of_getElem? (i := 53) rfl)) rfl
set_option maxRecDepth 20000 in
theorem mm_337 : (.methodLink "DocumentFile" 113 ⟨"DocumentFile$Octets", "size", "()I"⟩ : Cond) ∈ lw_g := lw_g_of (mt2 (List.mem_of_getElem? (i := 50) (by decide +kernel))) rfl
set_option maxRecDepth 20000 in
theorem mm_53 : (.initialized "DocumentFile$Octets" : Cond) ∈ lw_g := lw_g_of (mt1 (List.mem_of_getElem? (i := 6) (by decide +kernel))) rfl
set_option maxRecDepth 20000 in
theorem mm_338 : (.instanceMethod ⟨"DocumentFile$Octets", "size", "()I"⟩ : Cond) ∈ lw_g := lw_g_of (mt2 (List.mem_of_getElem? (i := 51) (by decide +kernel))) rfl
set_option maxRecDepth 20000 in
theorem mm_339 : (.selects "DocumentFile$Octets" ⟨"DocumentFile$Octets", "size", "()I"⟩ ⟨"DocumentFile$Octets", "size", "()I"⟩ : Cond) ∈ lw_g := lw_g_of (mt2 (List.mem_of_getElem? (i := 52) (by decide +kernel))) rfl
set_option maxRecDepth 20000 in
theorem mm_349 : (.methodLink "DocumentFile$Document" 50 ⟨"DocumentFile$PropertyRows", "has", "(I)Z"⟩ : Cond) ∈ lw_g := lw_g_of (mt2 (List.mem_of_getElem? (i := 62) (by decide +kernel))) rfl
set_option maxRecDepth 20000 in
theorem mm_348 : (.code ⟨"DocumentFile$Document", "baseOf", "(I)I"⟩ prog_2_method_4_code 2 (some .int) : Cond) ∈ lw_g := lw_g_of (mt2 (List.mem_of_getElem? (i := 61) rfl)) rfl
set_option maxRecDepth 20000 in
theorem mm_345 : (.methodLink "DocumentFile" 116 ⟨"DocumentFile$Document", "baseOf", "(I)I"⟩ : Cond) ∈ lw_g := lw_g_of (mt2 (List.mem_of_getElem? (i := 58) (by decide +kernel))) rfl
set_option maxRecDepth 20000 in
theorem mm_346 : (.instanceMethod ⟨"DocumentFile$Document", "baseOf", "(I)I"⟩ : Cond) ∈ lw_g := lw_g_of (mt2 (List.mem_of_getElem? (i := 59) (by decide +kernel))) rfl
set_option maxRecDepth 20000 in
theorem mm_347 : (.selects "DocumentFile$Document" ⟨"DocumentFile$Document", "baseOf", "(I)I"⟩ ⟨"DocumentFile$Document", "baseOf", "(I)I"⟩ : Cond) ∈ lw_g := lw_g_of (mt2 (List.mem_of_getElem? (i := 60) (by decide +kernel))) rfl
set_option maxRecDepth 20000 in
theorem mm_357 : (.code ⟨"DocumentFile$PropertyRows", "get", "(II)I"⟩ prog_5_method_7_code 3 (some .int) : Cond) ∈ lw_g := lw_g_of (mt2 (List.mem_of_getElem? (i := 70) rfl)) rfl
set_option maxRecDepth 20000 in
theorem mm_354 : (.methodLink "DocumentFile" 119 ⟨"DocumentFile$PropertyRows", "get", "(II)I"⟩ : Cond) ∈ lw_g := lw_g_of (mt2 (List.mem_of_getElem? (i := 67) (by decide +kernel))) rfl
set_option maxRecDepth 20000 in
theorem mm_355 : (.instanceMethod ⟨"DocumentFile$PropertyRows", "get", "(II)I"⟩ : Cond) ∈ lw_g := lw_g_of (mt2 (List.mem_of_getElem? (i := 68) (by decide +kernel))) rfl
set_option maxRecDepth 20000 in
theorem mm_356 : (.selects "DocumentFile$PropertyRows" ⟨"DocumentFile$PropertyRows", "get", "(II)I"⟩ ⟨"DocumentFile$PropertyRows", "get", "(II)I"⟩ : Cond) ∈ lw_g := lw_g_of (mt2 (List.mem_of_getElem? (i := 69) (by decide +kernel))) rfl
set_option maxRecDepth 20000 in
theorem mm_366 : (.methodLink "DocumentFile$Marks" 23 ⟨"DocumentFile$Marks", "has", "(I)Z"⟩ : Cond) ∈ lw_g := lw_g_of (mt2 (List.mem_of_getElem? (i := 79) (by decide +kernel))) rfl
set_option maxRecDepth 20000 in
theorem mm_365 : (.code ⟨"DocumentFile$Marks", "part", "(II)I"⟩ prog_3_method_7_code 3 (some .int) : Cond) ∈ lw_g := lw_g_of (mt2 (List.mem_of_getElem? (i := 78) rfl)) rfl
set_option maxRecDepth 20000 in
theorem mm_362 : (.methodLink "DocumentFile" 123 ⟨"DocumentFile$Marks", "part", "(II)I"⟩ : Cond) ∈ lw_g := lw_g_of (mt2 (List.mem_of_getElem? (i := 75) (by decide +kernel))) rfl
set_option maxRecDepth 20000 in
theorem mm_363 : (.instanceMethod ⟨"DocumentFile$Marks", "part", "(II)I"⟩ : Cond) ∈ lw_g := lw_g_of (mt2 (List.mem_of_getElem? (i := 76) (by decide +kernel))) rfl
set_option maxRecDepth 20000 in
theorem mm_364 : (.selects "DocumentFile$Marks" ⟨"DocumentFile$Marks", "part", "(II)I"⟩ ⟨"DocumentFile$Marks", "part", "(II)I"⟩ : Cond) ∈ lw_g := lw_g_of (mt2 (List.mem_of_getElem? (i := 77) (by decide +kernel))) rfl
set_option maxRecDepth 20000 in
theorem mm_374 : (.code ⟨"DocumentFile$Runs", "part", "(II)I"⟩ prog_7_method_9_code 3 (some .int) : Cond) ∈ lw_g := lw_g_of (mt2 (List.mem_of_getElem? (i := 87) rfl)) rfl
set_option maxRecDepth 20000 in
theorem mm_371 : (.methodLink "DocumentFile" 126 ⟨"DocumentFile$Runs", "part", "(II)I"⟩ : Cond) ∈ lw_g := lw_g_of (mt2 (List.mem_of_getElem? (i := 84) (by decide +kernel))) rfl
set_option maxRecDepth 20000 in
theorem mm_372 : (.instanceMethod ⟨"DocumentFile$Runs", "part", "(II)I"⟩ : Cond) ∈ lw_g := lw_g_of (mt2 (List.mem_of_getElem? (i := 85) (by decide +kernel))) rfl
set_option maxRecDepth 20000 in
theorem mm_373 : (.selects "DocumentFile$Runs" ⟨"DocumentFile$Runs", "part", "(II)I"⟩ ⟨"DocumentFile$Runs", "part", "(II)I"⟩ : Cond) ∈ lw_g := lw_g_of (mt2 (List.mem_of_getElem? (i := 86) (by decide +kernel))) rfl
set_option maxRecDepth 20000 in
theorem mm_382 : (.code ⟨"DocumentFile$Runs", "character", "(I)I"⟩ prog_7_method_10_code 2 (some .int) : Cond) ∈ lw_g := lw_g_of (mt2 (List.mem_of_getElem? (i := 95) rfl)) rfl
set_option maxRecDepth 20000 in
theorem mm_379 : (.methodLink "DocumentFile" 127 ⟨"DocumentFile$Runs", "character", "(I)I"⟩ : Cond) ∈ lw_g := lw_g_of (mt2 (List.mem_of_getElem? (i := 92) (by decide +kernel))) rfl
set_option maxRecDepth 20000 in
theorem mm_380 : (.instanceMethod ⟨"DocumentFile$Runs", "character", "(I)I"⟩ : Cond) ∈ lw_g := lw_g_of (mt2 (List.mem_of_getElem? (i := 93) (by decide +kernel))) rfl
set_option maxRecDepth 20000 in
theorem mm_381 : (.selects "DocumentFile$Runs" ⟨"DocumentFile$Runs", "character", "(I)I"⟩ ⟨"DocumentFile$Runs", "character", "(I)I"⟩ : Cond) ∈ lw_g := lw_g_of (mt2 (List.mem_of_getElem? (i := 94) (by decide +kernel))) rfl
set_option maxRecDepth 20000 in
theorem mm_154 : (.fieldLink "DocumentFile$Octets" 9 "DocumentFile$Octets" "octets" "[I" : Cond) ∈ lw_g := lw_g_of (mt1 (List.mem_of_getElem? (i := 107) (by decide +kernel))) rfl
set_option maxRecDepth 20000 in
theorem mm_186 : (.fieldLink "DocumentFile$Writer" 9 "DocumentFile$Writer" "file" "LDocumentFile$Octets;" : Cond) ∈ lw_g := lw_g_of (mt1 (List.mem_of_getElem? (i := 139) (by decide +kernel))) rfl
set_option maxRecDepth 20000 in
theorem mm_400 : (.code ⟨"DocumentFile$Octets", "append", "(I)Z"⟩ prog_4_method_5_code 2 (some .boolean) : Cond) ∈ lw_g := lw_g_of (mt2 (List.mem_of_getElem? (i := 113) rfl)) rfl
set_option maxRecDepth 20000 in
theorem mm_397 : (.methodLink "DocumentFile$Writer" 38 ⟨"DocumentFile$Octets", "append", "(I)Z"⟩ : Cond) ∈ lw_g := lw_g_of (mt2 (List.mem_of_getElem? (i := 110) (by decide +kernel))) rfl
set_option maxRecDepth 20000 in
theorem mm_398 : (.instanceMethod ⟨"DocumentFile$Octets", "append", "(I)Z"⟩ : Cond) ∈ lw_g := lw_g_of (mt2 (List.mem_of_getElem? (i := 111) (by decide +kernel))) rfl
set_option maxRecDepth 20000 in
theorem mm_399 : (.selects "DocumentFile$Octets" ⟨"DocumentFile$Octets", "append", "(I)Z"⟩ ⟨"DocumentFile$Octets", "append", "(I)Z"⟩ : Cond) ∈ lw_g := lw_g_of (mt2 (List.mem_of_getElem? (i := 112) (by decide +kernel))) rfl
set_option maxRecDepth 20000 in
theorem mm_409 : (.code ⟨"DocumentFile$Writer", "writeNumber", "(I)V"⟩ prog_8_method_3_code 2 none : Cond) ∈ lw_g := lw_g_of (mt2 (List.mem_of_getElem? (i := 122) rfl)) rfl
set_option maxRecDepth 20000 in
theorem mm_406 : (.methodLink "DocumentFile$Writer" 49 ⟨"DocumentFile$Writer", "writeNumber", "(I)V"⟩ : Cond) ∈ lw_g := lw_g_of (mt2 (List.mem_of_getElem? (i := 119) (by decide +kernel))) rfl
set_option maxRecDepth 20000 in
theorem mm_55 : (.initialized "DocumentFile$Writer" : Cond) ∈ lw_g := lw_g_of (mt1 (List.mem_of_getElem? (i := 8) (by decide +kernel))) rfl
set_option maxRecDepth 20000 in
theorem mm_408 : (.instanceMethod ⟨"DocumentFile$Writer", "writeNumber", "(I)V"⟩ : Cond) ∈ lw_g := lw_g_of (mt2 (List.mem_of_getElem? (i := 121) (by decide +kernel))) rfl
set_option maxRecDepth 20000 in
theorem mm_1 : (.selects "DocumentFile$Writer" ⟨"DocumentFile$Writer", "writeNumber", "(I)V"⟩ ⟨"DocumentFile$Writer", "writeNumber", "(I)V"⟩ : Cond) ∈ lw_g := lw_g_of (mt0 (List.mem_of_getElem? (i := 1) (by decide +kernel))) rfl
set_option maxRecDepth 20000 in
theorem mm_419 : (.methodLink "DocumentFile$Writer" 90 ⟨"DocumentFile$PropertyRows", "get", "(II)I"⟩ : Cond) ∈ lw_g := lw_g_of (mt2 (List.mem_of_getElem? (i := 132) (by decide +kernel))) rfl
set_option maxRecDepth 20000 in
theorem mm_418 : (.code ⟨"DocumentFile$PropertyRows", "held", "(I)I"⟩ prog_5_method_9_code 4 (some .int) : Cond) ∈ lw_g := lw_g_of (mt2 (List.mem_of_getElem? (i := 131) rfl)) rfl
set_option maxRecDepth 20000 in
theorem mm_415 : (.methodLink "DocumentFile$Writer" 87 ⟨"DocumentFile$PropertyRows", "held", "(I)I"⟩ : Cond) ∈ lw_g := lw_g_of (mt2 (List.mem_of_getElem? (i := 128) (by decide +kernel))) rfl
set_option maxRecDepth 20000 in
theorem mm_416 : (.instanceMethod ⟨"DocumentFile$PropertyRows", "held", "(I)I"⟩ : Cond) ∈ lw_g := lw_g_of (mt2 (List.mem_of_getElem? (i := 129) (by decide +kernel))) rfl
set_option maxRecDepth 20000 in
theorem mm_417 : (.selects "DocumentFile$PropertyRows" ⟨"DocumentFile$PropertyRows", "held", "(I)I"⟩ ⟨"DocumentFile$PropertyRows", "held", "(I)I"⟩ : Cond) ∈ lw_g := lw_g_of (mt2 (List.mem_of_getElem? (i := 130) (by decide +kernel))) rfl
set_option maxRecDepth 20000 in
theorem mm_122 : (.fieldLink "DocumentFile$Writer" 72 "DocumentFile$Document" "styles" "LDocumentFile$PropertyRows;" : Cond) ∈ lw_g := lw_g_of (mt1 (List.mem_of_getElem? (i := 75) (by decide +kernel))) rfl
set_option maxRecDepth 20000 in
theorem mm_414 : (.code ⟨"DocumentFile$Writer", "writeProperties", "(LDocumentFile$PropertyRows;I)V"⟩ prog_8_method_5_code 5 none : Cond) ∈ lw_g := lw_g_of (mt2 (List.mem_of_getElem? (i := 127) rfl)) rfl
set_option maxRecDepth 20000 in
theorem mm_411 : (.methodLink "DocumentFile$Writer" 83 ⟨"DocumentFile$Writer", "writeProperties", "(LDocumentFile$PropertyRows;I)V"⟩ : Cond) ∈ lw_g := lw_g_of (mt2 (List.mem_of_getElem? (i := 124) (by decide +kernel))) rfl
set_option maxRecDepth 20000 in
theorem mm_413 : (.instanceMethod ⟨"DocumentFile$Writer", "writeProperties", "(LDocumentFile$PropertyRows;I)V"⟩ : Cond) ∈ lw_g := lw_g_of (mt2 (List.mem_of_getElem? (i := 126) (by decide +kernel))) rfl
set_option maxRecDepth 20000 in
theorem mm_2 : (.selects "DocumentFile$Writer" ⟨"DocumentFile$Writer", "writeProperties", "(LDocumentFile$PropertyRows;I)V"⟩ ⟨"DocumentFile$Writer", "writeProperties", "(LDocumentFile$PropertyRows;I)V"⟩ : Cond) ∈ lw_g := lw_g_of (mt0 (List.mem_of_getElem? (i := 2) (by decide +kernel))) rfl
set_option maxRecDepth 20000 in
theorem mm_410 : (.methodLink "DocumentFile$Writer" 79 ⟨"DocumentFile$Document", "baseOf", "(I)I"⟩ : Cond) ∈ lw_g := lw_g_of (mt2 (List.mem_of_getElem? (i := 123) (by decide +kernel))) rfl
set_option maxRecDepth 20000 in
theorem mm_405 : (.methodLink "DocumentFile$Writer" 76 ⟨"DocumentFile$PropertyRows", "rows", "()I"⟩ : Cond) ∈ lw_g := lw_g_of (mt2 (List.mem_of_getElem? (i := 118) (by decide +kernel))) rfl
set_option maxRecDepth 20000 in
theorem mm_433 : (.code ⟨"DocumentFile$PropertyRows", "same", "(II)Z"⟩ prog_5_method_10_code 4 (some .boolean) : Cond) ∈ lw_g := lw_g_of (mt2 (List.mem_of_getElem? (i := 146) rfl)) rfl
set_option maxRecDepth 20000 in
theorem mm_430 : (.methodLink "DocumentFile$Document" 62 ⟨"DocumentFile$PropertyRows", "same", "(II)Z"⟩ : Cond) ∈ lw_g := lw_g_of (mt2 (List.mem_of_getElem? (i := 143) (by decide +kernel))) rfl
set_option maxRecDepth 20000 in
theorem mm_431 : (.instanceMethod ⟨"DocumentFile$PropertyRows", "same", "(II)Z"⟩ : Cond) ∈ lw_g := lw_g_of (mt2 (List.mem_of_getElem? (i := 144) (by decide +kernel))) rfl
set_option maxRecDepth 20000 in
theorem mm_432 : (.selects "DocumentFile$PropertyRows" ⟨"DocumentFile$PropertyRows", "same", "(II)Z"⟩ ⟨"DocumentFile$PropertyRows", "same", "(II)Z"⟩ : Cond) ∈ lw_g := lw_g_of (mt2 (List.mem_of_getElem? (i := 145) (by decide +kernel))) rfl
set_option maxRecDepth 20000 in
theorem mm_438 : (.methodLink "DocumentFile$Document" 58 ⟨"DocumentFile$Marks", "part", "(II)I"⟩ : Cond) ∈ lw_g := lw_g_of (mt2 (List.mem_of_getElem? (i := 151) (by decide +kernel))) rfl
set_option maxRecDepth 20000 in
theorem mm_437 : (.code ⟨"DocumentFile$Document", "sameMarks", "(II)Z"⟩ prog_2_method_6_code 5 (some .boolean) : Cond) ∈ lw_g := lw_g_of (mt2 (List.mem_of_getElem? (i := 150) rfl)) rfl
set_option maxRecDepth 20000 in
theorem mm_434 : (.methodLink "DocumentFile$Document" 66 ⟨"DocumentFile$Document", "sameMarks", "(II)Z"⟩ : Cond) ∈ lw_g := lw_g_of (mt2 (List.mem_of_getElem? (i := 147) (by decide +kernel))) rfl
set_option maxRecDepth 20000 in
theorem mm_435 : (.instanceMethod ⟨"DocumentFile$Document", "sameMarks", "(II)Z"⟩ : Cond) ∈ lw_g := lw_g_of (mt2 (List.mem_of_getElem? (i := 148) (by decide +kernel))) rfl
set_option maxRecDepth 20000 in
theorem mm_436 : (.selects "DocumentFile$Document" ⟨"DocumentFile$Document", "sameMarks", "(II)Z"⟩ ⟨"DocumentFile$Document", "sameMarks", "(II)Z"⟩ : Cond) ∈ lw_g := lw_g_of (mt2 (List.mem_of_getElem? (i := 149) (by decide +kernel))) rfl
set_option maxRecDepth 20000 in
theorem mm_429 : (.methodLink "DocumentFile$Document" 69 ⟨"DocumentFile$Runs", "part", "(II)I"⟩ : Cond) ∈ lw_g := lw_g_of (mt2 (List.mem_of_getElem? (i := 142) (by decide +kernel))) rfl
set_option maxRecDepth 20000 in
theorem mm_133 : (.fieldLink "DocumentFile$Writer" 53 "DocumentFile$Document" "runs" "LDocumentFile$Runs;" : Cond) ∈ lw_g := lw_g_of (mt1 (List.mem_of_getElem? (i := 86) (by decide +kernel))) rfl
set_option maxRecDepth 20000 in
theorem mm_428 : (.code ⟨"DocumentFile$Document", "goesOn", "(I)Z"⟩ prog_2_method_8_code 3 (some .boolean) : Cond) ∈ lw_g := lw_g_of (mt2 (List.mem_of_getElem? (i := 141) rfl)) rfl
set_option maxRecDepth 20000 in
theorem mm_425 : (.methodLink "DocumentFile$Writer" 65 ⟨"DocumentFile$Document", "goesOn", "(I)Z"⟩ : Cond) ∈ lw_g := lw_g_of (mt2 (List.mem_of_getElem? (i := 138) (by decide +kernel))) rfl
set_option maxRecDepth 20000 in
theorem mm_426 : (.instanceMethod ⟨"DocumentFile$Document", "goesOn", "(I)Z"⟩ : Cond) ∈ lw_g := lw_g_of (mt2 (List.mem_of_getElem? (i := 139) (by decide +kernel))) rfl
set_option maxRecDepth 20000 in
theorem mm_427 : (.selects "DocumentFile$Document" ⟨"DocumentFile$Document", "goesOn", "(I)Z"⟩ ⟨"DocumentFile$Document", "goesOn", "(I)Z"⟩ : Cond) ∈ lw_g := lw_g_of (mt2 (List.mem_of_getElem? (i := 140) (by decide +kernel))) rfl
set_option maxRecDepth 20000 in
theorem mm_424 : (.methodLink "DocumentFile$Writer" 59 ⟨"DocumentFile$Runs", "rows", "()I"⟩ : Cond) ∈ lw_g := lw_g_of (mt2 (List.mem_of_getElem? (i := 137) (by decide +kernel))) rfl
set_option maxRecDepth 20000 in
theorem mm_189 : (.fieldLink "DocumentFile$Writer" 22 "DocumentFile$Writer" "setCount" "I" : Cond) ∈ lw_g := lw_g_of (mt1 (List.mem_of_getElem? (i := 142) (by decide +kernel))) rfl
set_option maxRecDepth 20000 in
theorem mm_126 : (.fieldLink "DocumentFile$Writer" 114 "DocumentFile$Document" "sets" "LDocumentFile$PropertyRows;" : Cond) ∈ lw_g := lw_g_of (mt1 (List.mem_of_getElem? (i := 79) (by decide +kernel))) rfl
set_option maxRecDepth 20000 in
theorem mm_187 : (.fieldLink "DocumentFile$Writer" 15 "DocumentFile$Writer" "setsOut" "[I" : Cond) ∈ lw_g := lw_g_of (mt1 (List.mem_of_getElem? (i := 140) (by decide +kernel))) rfl
set_option maxRecDepth 20000 in
theorem mm_452 : (.methodLink "DocumentFile$Writer" 117 ⟨"DocumentFile$PropertyRows", "same", "(II)Z"⟩ : Cond) ∈ lw_g := lw_g_of (mt2 (List.mem_of_getElem? (i := 165) (by decide +kernel))) rfl
set_option maxRecDepth 20000 in
theorem mm_451 : (.code ⟨"DocumentFile$Writer", "numberOfSet", "(LDocumentFile$Document;I)I"⟩ prog_8_method_10_code 4 (some .int) : Cond) ∈ lw_g := lw_g_of (mt2 (List.mem_of_getElem? (i := 164) rfl)) rfl
set_option maxRecDepth 20000 in
theorem mm_448 : (.methodLink "DocumentFile$Writer" 111 ⟨"DocumentFile$Writer", "numberOfSet", "(LDocumentFile$Document;I)I"⟩ : Cond) ∈ lw_g := lw_g_of (mt2 (List.mem_of_getElem? (i := 161) (by decide +kernel))) rfl
set_option maxRecDepth 20000 in
theorem mm_450 : (.instanceMethod ⟨"DocumentFile$Writer", "numberOfSet", "(LDocumentFile$Document;I)I"⟩ : Cond) ∈ lw_g := lw_g_of (mt2 (List.mem_of_getElem? (i := 163) (by decide +kernel))) rfl
set_option maxRecDepth 20000 in
theorem mm_6 : (.selects "DocumentFile$Writer" ⟨"DocumentFile$Writer", "numberOfSet", "(LDocumentFile$Document;I)I"⟩ ⟨"DocumentFile$Writer", "numberOfSet", "(LDocumentFile$Document;I)I"⟩ : Cond) ∈ lw_g := lw_g_of (mt0 (List.mem_of_getElem? (i := 6) (by decide +kernel))) rfl
set_option maxRecDepth 20000 in
theorem mm_190 : (.fieldLink "DocumentFile$Writer" 26 "DocumentFile$Writer" "markCount" "I" : Cond) ∈ lw_g := lw_g_of (mt1 (List.mem_of_getElem? (i := 143) (by decide +kernel))) rfl
set_option maxRecDepth 20000 in
theorem mm_188 : (.fieldLink "DocumentFile$Writer" 19 "DocumentFile$Writer" "marksOut" "[I" : Cond) ∈ lw_g := lw_g_of (mt1 (List.mem_of_getElem? (i := 141) (by decide +kernel))) rfl
set_option maxRecDepth 20000 in
theorem mm_461 : (.methodLink "DocumentFile$Writer" 131 ⟨"DocumentFile$Document", "sameMarks", "(II)Z"⟩ : Cond) ∈ lw_g := lw_g_of (mt2 (List.mem_of_getElem? (i := 174) (by decide +kernel))) rfl
set_option maxRecDepth 20000 in
theorem mm_130 : (.fieldLink "DocumentFile$Writer" 124 "DocumentFile$Document" "marks" "LDocumentFile$Marks;" : Cond) ∈ lw_g := lw_g_of (mt1 (List.mem_of_getElem? (i := 83) (by decide +kernel))) rfl
set_option maxRecDepth 20000 in
theorem mm_447 : (.code ⟨"DocumentFile$Writer", "writeSet", "(LDocumentFile$Document;II)V"⟩ prog_8_method_9_code 5 none : Cond) ∈ lw_g := lw_g_of (mt2 (List.mem_of_getElem? (i := 160) rfl)) rfl
set_option maxRecDepth 20000 in
theorem mm_444 : (.methodLink "DocumentFile$Writer" 97 ⟨"DocumentFile$Writer", "writeSet", "(LDocumentFile$Document;II)V"⟩ : Cond) ∈ lw_g := lw_g_of (mt2 (List.mem_of_getElem? (i := 157) (by decide +kernel))) rfl
set_option maxRecDepth 20000 in
theorem mm_446 : (.instanceMethod ⟨"DocumentFile$Writer", "writeSet", "(LDocumentFile$Document;II)V"⟩ : Cond) ∈ lw_g := lw_g_of (mt2 (List.mem_of_getElem? (i := 159) (by decide +kernel))) rfl
set_option maxRecDepth 20000 in
theorem mm_5 : (.selects "DocumentFile$Writer" ⟨"DocumentFile$Writer", "writeSet", "(LDocumentFile$Document;II)V"⟩ ⟨"DocumentFile$Writer", "writeSet", "(LDocumentFile$Document;II)V"⟩ : Cond) ∈ lw_g := lw_g_of (mt0 (List.mem_of_getElem? (i := 5) (by decide +kernel))) rfl
set_option maxRecDepth 20000 in
theorem mm_462 : (.methodLink "DocumentFile$Writer" 128 ⟨"DocumentFile$Marks", "part", "(II)I"⟩ : Cond) ∈ lw_g := lw_g_of (mt2 (List.mem_of_getElem? (i := 175) (by decide +kernel))) rfl
set_option maxRecDepth 20000 in
theorem mm_460 : (.code ⟨"DocumentFile$Writer", "numberOfMark", "(LDocumentFile$Document;I)I"⟩ prog_8_method_12_code 4 (some .int) : Cond) ∈ lw_g := lw_g_of (mt2 (List.mem_of_getElem? (i := 173) rfl)) rfl
set_option maxRecDepth 20000 in
theorem mm_457 : (.methodLink "DocumentFile$Writer" 121 ⟨"DocumentFile$Writer", "numberOfMark", "(LDocumentFile$Document;I)I"⟩ : Cond) ∈ lw_g := lw_g_of (mt2 (List.mem_of_getElem? (i := 170) (by decide +kernel))) rfl
set_option maxRecDepth 20000 in
theorem mm_459 : (.instanceMethod ⟨"DocumentFile$Writer", "numberOfMark", "(LDocumentFile$Document;I)I"⟩ : Cond) ∈ lw_g := lw_g_of (mt2 (List.mem_of_getElem? (i := 172) (by decide +kernel))) rfl
set_option maxRecDepth 20000 in
theorem mm_8 : (.selects "DocumentFile$Writer" ⟨"DocumentFile$Writer", "numberOfMark", "(LDocumentFile$Document;I)I"⟩ ⟨"DocumentFile$Writer", "numberOfMark", "(LDocumentFile$Document;I)I"⟩ : Cond) ∈ lw_g := lw_g_of (mt0 (List.mem_of_getElem? (i := 8) (by decide +kernel))) rfl
set_option maxRecDepth 20000 in
theorem mm_443 : (.methodLink "DocumentFile$Writer" 94 ⟨"DocumentFile$Runs", "part", "(II)I"⟩ : Cond) ∈ lw_g := lw_g_of (mt2 (List.mem_of_getElem? (i := 156) (by decide +kernel))) rfl
set_option maxRecDepth 20000 in
theorem mm_467 : (.methodLink "DocumentFile$Writer" 108 ⟨"DocumentFile$Runs", "character", "(I)I"⟩ : Cond) ∈ lw_g := lw_g_of (mt2 (List.mem_of_getElem? (i := 180) (by decide +kernel))) rfl
set_option maxRecDepth 20000 in
theorem mm_466 : (.code ⟨"DocumentFile$Writer", "joinedLength", "(LDocumentFile$Document;I)I"⟩ prog_8_method_8_code 5 (some .int) : Cond) ∈ lw_g := lw_g_of (mt2 (List.mem_of_getElem? (i := 179) rfl)) rfl
set_option maxRecDepth 20000 in
theorem mm_463 : (.methodLink "DocumentFile$Writer" 104 ⟨"DocumentFile$Writer", "joinedLength", "(LDocumentFile$Document;I)I"⟩ : Cond) ∈ lw_g := lw_g_of (mt2 (List.mem_of_getElem? (i := 176) (by decide +kernel))) rfl
set_option maxRecDepth 20000 in
theorem mm_465 : (.instanceMethod ⟨"DocumentFile$Writer", "joinedLength", "(LDocumentFile$Document;I)I"⟩ : Cond) ∈ lw_g := lw_g_of (mt2 (List.mem_of_getElem? (i := 178) (by decide +kernel))) rfl
set_option maxRecDepth 20000 in
theorem mm_9 : (.selects "DocumentFile$Writer" ⟨"DocumentFile$Writer", "joinedLength", "(LDocumentFile$Document;I)I"⟩ ⟨"DocumentFile$Writer", "joinedLength", "(LDocumentFile$Document;I)I"⟩ : Cond) ∈ lw_g := lw_g_of (mt0 (List.mem_of_getElem? (i := 9) (by decide +kernel))) rfl
set_option maxRecDepth 20000 in
theorem mm_456 : (.code ⟨"DocumentFile$Writer", "writeMark", "(LDocumentFile$Document;I)V"⟩ prog_8_method_11_code 5 none : Cond) ∈ lw_g := lw_g_of (mt2 (List.mem_of_getElem? (i := 169) rfl)) rfl
set_option maxRecDepth 20000 in
theorem mm_453 : (.methodLink "DocumentFile$Writer" 101 ⟨"DocumentFile$Writer", "writeMark", "(LDocumentFile$Document;I)V"⟩ : Cond) ∈ lw_g := lw_g_of (mt2 (List.mem_of_getElem? (i := 166) (by decide +kernel))) rfl
set_option maxRecDepth 20000 in
theorem mm_455 : (.instanceMethod ⟨"DocumentFile$Writer", "writeMark", "(LDocumentFile$Document;I)V"⟩ : Cond) ∈ lw_g := lw_g_of (mt2 (List.mem_of_getElem? (i := 168) (by decide +kernel))) rfl
set_option maxRecDepth 20000 in
theorem mm_7 : (.selects "DocumentFile$Writer" ⟨"DocumentFile$Writer", "writeMark", "(LDocumentFile$Document;I)V"⟩ ⟨"DocumentFile$Writer", "writeMark", "(LDocumentFile$Document;I)V"⟩ : Cond) ∈ lw_g := lw_g_of (mt0 (List.mem_of_getElem? (i := 7) (by decide +kernel))) rfl
set_option maxRecDepth 20000 in
theorem mm_442 : (.code ⟨"DocumentFile$Writer", "writeRun", "(LDocumentFile$Document;I)V"⟩ prog_8_method_7_code 7 none : Cond) ∈ lw_g := lw_g_of (mt2 (List.mem_of_getElem? (i := 155) rfl)) rfl
set_option maxRecDepth 20000 in
theorem mm_439 : (.methodLink "DocumentFile$Writer" 68 ⟨"DocumentFile$Writer", "writeRun", "(LDocumentFile$Document;I)V"⟩ : Cond) ∈ lw_g := lw_g_of (mt2 (List.mem_of_getElem? (i := 152) (by decide +kernel))) rfl
set_option maxRecDepth 20000 in
theorem mm_441 : (.instanceMethod ⟨"DocumentFile$Writer", "writeRun", "(LDocumentFile$Document;I)V"⟩ : Cond) ∈ lw_g := lw_g_of (mt2 (List.mem_of_getElem? (i := 154) (by decide +kernel))) rfl
set_option maxRecDepth 20000 in
theorem mm_4 : (.selects "DocumentFile$Writer" ⟨"DocumentFile$Writer", "writeRun", "(LDocumentFile$Document;I)V"⟩ ⟨"DocumentFile$Writer", "writeRun", "(LDocumentFile$Document;I)V"⟩ : Cond) ∈ lw_g := lw_g_of (mt0 (List.mem_of_getElem? (i := 4) (by decide +kernel))) rfl
set_option maxRecDepth 20000 in
theorem mm_423 : (.code ⟨"DocumentFile$Writer", "joinedRuns", "(LDocumentFile$Document;)I"⟩ prog_8_method_6_code 4 (some .int) : Cond) ∈ lw_g := lw_g_of (mt2 (List.mem_of_getElem? (i := 136) rfl)) rfl
set_option maxRecDepth 20000 in
theorem mm_420 : (.methodLink "DocumentFile$Writer" 45 ⟨"DocumentFile$Writer", "joinedRuns", "(LDocumentFile$Document;)I"⟩ : Cond) ∈ lw_g := lw_g_of (mt2 (List.mem_of_getElem? (i := 133) (by decide +kernel))) rfl
set_option maxRecDepth 20000 in
theorem mm_422 : (.instanceMethod ⟨"DocumentFile$Writer", "joinedRuns", "(LDocumentFile$Document;)I"⟩ : Cond) ∈ lw_g := lw_g_of (mt2 (List.mem_of_getElem? (i := 135) (by decide +kernel))) rfl
set_option maxRecDepth 20000 in
theorem mm_3 : (.selects "DocumentFile$Writer" ⟨"DocumentFile$Writer", "joinedRuns", "(LDocumentFile$Document;)I"⟩ ⟨"DocumentFile$Writer", "joinedRuns", "(LDocumentFile$Document;)I"⟩ : Cond) ∈ lw_g := lw_g_of (mt0 (List.mem_of_getElem? (i := 3) (by decide +kernel))) rfl
set_option maxRecDepth 20000 in
theorem mm_404 : (.code ⟨"DocumentFile$Writer", "writeStyles", "(LDocumentFile$Document;)V"⟩ prog_8_method_4_code 3 none : Cond) ∈ lw_g := lw_g_of (mt2 (List.mem_of_getElem? (i := 117) rfl)) rfl
set_option maxRecDepth 20000 in
theorem mm_401 : (.methodLink "DocumentFile$Writer" 41 ⟨"DocumentFile$Writer", "writeStyles", "(LDocumentFile$Document;)V"⟩ : Cond) ∈ lw_g := lw_g_of (mt2 (List.mem_of_getElem? (i := 114) (by decide +kernel))) rfl
set_option maxRecDepth 20000 in
theorem mm_403 : (.instanceMethod ⟨"DocumentFile$Writer", "writeStyles", "(LDocumentFile$Document;)V"⟩ : Cond) ∈ lw_g := lw_g_of (mt2 (List.mem_of_getElem? (i := 116) (by decide +kernel))) rfl
set_option maxRecDepth 20000 in
theorem mm_0 : (.selects "DocumentFile$Writer" ⟨"DocumentFile$Writer", "writeStyles", "(LDocumentFile$Document;)V"⟩ ⟨"DocumentFile$Writer", "writeStyles", "(LDocumentFile$Document;)V"⟩ : Cond) ∈ lw_g := lw_g_of (mt0 (List.mem_of_getElem? (i := 0) (by decide +kernel))) rfl
set_option maxRecDepth 20000 in
theorem mm_394 : (.code ⟨"DocumentFile$Octets", "keep", "(I)Z"⟩ prog_4_method_6_code 2 (some .boolean) : Cond) ∈ lw_g := lw_g_of (mt2 (List.mem_of_getElem? (i := 107) rfl)) rfl
set_option maxRecDepth 20000 in
theorem mm_391 : (.methodLink "DocumentFile$Writer" 29 ⟨"DocumentFile$Octets", "keep", "(I)Z"⟩ : Cond) ∈ lw_g := lw_g_of (mt2 (List.mem_of_getElem? (i := 104) (by decide +kernel))) rfl
set_option maxRecDepth 20000 in
theorem mm_392 : (.instanceMethod ⟨"DocumentFile$Octets", "keep", "(I)Z"⟩ : Cond) ∈ lw_g := lw_g_of (mt2 (List.mem_of_getElem? (i := 105) (by decide +kernel))) rfl
set_option maxRecDepth 20000 in
theorem mm_393 : (.selects "DocumentFile$Octets" ⟨"DocumentFile$Octets", "keep", "(I)Z"⟩ ⟨"DocumentFile$Octets", "keep", "(I)Z"⟩ : Cond) ∈ lw_g := lw_g_of (mt2 (List.mem_of_getElem? (i := 106) (by decide +kernel))) rfl
set_option maxRecDepth 20000 in
theorem mm_206 : (.fieldLink "DocumentFile" 38 "DocumentFile" "writer" "LDocumentFile$Writer;" : Cond) ∈ lw_g := lw_g_of (mt1 (List.mem_of_getElem? (i := 159) (by decide +kernel))) rfl
set_option maxRecDepth 20000 in
theorem mm_390 : (.code ⟨"DocumentFile$Writer", "write", "(LDocumentFile$Document;)V"⟩ prog_8_method_2_code 3 none : Cond) ∈ lw_g := lw_g_of (mt2 (List.mem_of_getElem? (i := 103) rfl)) rfl
set_option maxRecDepth 20000 in
theorem mm_387 : (.methodLink "DocumentFile" 130 ⟨"DocumentFile$Writer", "write", "(LDocumentFile$Document;)V"⟩ : Cond) ∈ lw_g := lw_g_of (mt2 (List.mem_of_getElem? (i := 100) (by decide +kernel))) rfl
set_option maxRecDepth 20000 in
theorem mm_388 : (.instanceMethod ⟨"DocumentFile$Writer", "write", "(LDocumentFile$Document;)V"⟩ : Cond) ∈ lw_g := lw_g_of (mt2 (List.mem_of_getElem? (i := 101) (by decide +kernel))) rfl
set_option maxRecDepth 20000 in
theorem mm_389 : (.selects "DocumentFile$Writer" ⟨"DocumentFile$Writer", "write", "(LDocumentFile$Document;)V"⟩ ⟨"DocumentFile$Writer", "write", "(LDocumentFile$Document;)V"⟩ : Cond) ∈ lw_g := lw_g_of (mt2 (List.mem_of_getElem? (i := 102) (by decide +kernel))) rfl
set_option maxRecDepth 20000 in
theorem mm_170 : (.fieldLink "DocumentFile$Reader" 22 "DocumentFile$Reader" "fault" "I" : Cond) ∈ lw_g := lw_g_of (mt1 (List.mem_of_getElem? (i := 123) (by decide +kernel))) rfl
set_option maxRecDepth 20000 in
theorem mm_167 : (.fieldLink "DocumentFile$Reader" 9 "DocumentFile$Reader" "file" "LDocumentFile$Octets;" : Cond) ∈ lw_g := lw_g_of (mt1 (List.mem_of_getElem? (i := 120) (by decide +kernel))) rfl
set_option maxRecDepth 20000 in
theorem mm_493 : (.code ⟨"DocumentFile$Reader", "refuse", "(I)I"⟩ prog_6_method_4_code 2 (some .int) : Cond) ∈ lw_g := lw_g_of (mt2 (List.mem_of_getElem? (i := 206) rfl)) rfl
set_option maxRecDepth 20000 in
theorem mm_490 : (.methodLink "DocumentFile$Reader" 54 ⟨"DocumentFile$Reader", "refuse", "(I)I"⟩ : Cond) ∈ lw_g := lw_g_of (mt2 (List.mem_of_getElem? (i := 203) (by decide +kernel))) rfl
set_option maxRecDepth 20000 in
theorem mm_54 : (.initialized "DocumentFile$Reader" : Cond) ∈ lw_g := lw_g_of (mt1 (List.mem_of_getElem? (i := 7) (by decide +kernel))) rfl
set_option maxRecDepth 20000 in
theorem mm_492 : (.instanceMethod ⟨"DocumentFile$Reader", "refuse", "(I)I"⟩ : Cond) ∈ lw_g := lw_g_of (mt2 (List.mem_of_getElem? (i := 205) (by decide +kernel))) rfl
set_option maxRecDepth 20000 in
theorem mm_12 : (.selects "DocumentFile$Reader" ⟨"DocumentFile$Reader", "refuse", "(I)I"⟩ ⟨"DocumentFile$Reader", "refuse", "(I)I"⟩ : Cond) ∈ lw_g := lw_g_of (mt0 (List.mem_of_getElem? (i := 12) (by decide +kernel))) rfl
set_option maxRecDepth 20000 in
theorem mm_168 : (.fieldLink "DocumentFile$Reader" 15 "DocumentFile$Reader" "next" "I" : Cond) ∈ lw_g := lw_g_of (mt1 (List.mem_of_getElem? (i := 121) (by decide +kernel))) rfl
set_option maxRecDepth 20000 in
theorem mm_489 : (.code ⟨"DocumentFile$Octets", "get", "(I)I"⟩ prog_4_method_3_code 2 (some .int) : Cond) ∈ lw_g := lw_g_of (mt2 (List.mem_of_getElem? (i := 202) rfl)) rfl
set_option maxRecDepth 20000 in
theorem mm_486 : (.methodLink "DocumentFile$Reader" 62 ⟨"DocumentFile$Octets", "get", "(I)I"⟩ : Cond) ∈ lw_g := lw_g_of (mt2 (List.mem_of_getElem? (i := 199) (by decide +kernel))) rfl
set_option maxRecDepth 20000 in
theorem mm_487 : (.instanceMethod ⟨"DocumentFile$Octets", "get", "(I)I"⟩ : Cond) ∈ lw_g := lw_g_of (mt2 (List.mem_of_getElem? (i := 200) (by decide +kernel))) rfl
set_option maxRecDepth 20000 in
theorem mm_488 : (.selects "DocumentFile$Octets" ⟨"DocumentFile$Octets", "get", "(I)I"⟩ ⟨"DocumentFile$Octets", "get", "(I)I"⟩ : Cond) ∈ lw_g := lw_g_of (mt2 (List.mem_of_getElem? (i := 201) (by decide +kernel))) rfl
set_option maxRecDepth 20000 in
theorem mm_485 : (.code ⟨"DocumentFile$Reader", "failed", "()Z"⟩ prog_6_method_3_code 1 (some .boolean) : Cond) ∈ lw_g := lw_g_of (mt2 (List.mem_of_getElem? (i := 198) rfl)) rfl
set_option maxRecDepth 20000 in
theorem mm_482 : (.methodLink "DocumentFile$Reader" 41 ⟨"DocumentFile$Reader", "failed", "()Z"⟩ : Cond) ∈ lw_g := lw_g_of (mt2 (List.mem_of_getElem? (i := 195) (by decide +kernel))) rfl
set_option maxRecDepth 20000 in
theorem mm_484 : (.instanceMethod ⟨"DocumentFile$Reader", "failed", "()Z"⟩ : Cond) ∈ lw_g := lw_g_of (mt2 (List.mem_of_getElem? (i := 197) (by decide +kernel))) rfl
set_option maxRecDepth 20000 in
theorem mm_11 : (.selects "DocumentFile$Reader" ⟨"DocumentFile$Reader", "failed", "()Z"⟩ ⟨"DocumentFile$Reader", "failed", "()Z"⟩ : Cond) ∈ lw_g := lw_g_of (mt0 (List.mem_of_getElem? (i := 11) (by decide +kernel))) rfl
set_option maxRecDepth 20000 in
theorem mm_169 : (.fieldLink "DocumentFile$Reader" 19 "DocumentFile$Reader" "item" "I" : Cond) ∈ lw_g := lw_g_of (mt1 (List.mem_of_getElem? (i := 122) (by decide +kernel))) rfl
set_option maxRecDepth 20000 in
theorem mm_512 : (.methodLink "DocumentFile$Document" 54 ⟨"DocumentFile$Document", "baseOf", "(I)I"⟩ : Cond) ∈ lw_g := lw_g_of (mt2 (List.mem_of_getElem? (i := 225) (by decide +kernel))) rfl
set_option maxRecDepth 20000 in
theorem mm_123 : (.fieldLink "DocumentFile$Reader" 72 "DocumentFile$Document" "styles" "LDocumentFile$PropertyRows;" : Cond) ∈ lw_g := lw_g_of (mt1 (List.mem_of_getElem? (i := 76) (by decide +kernel))) rfl
set_option maxRecDepth 20000 in
theorem mm_511 : (.code ⟨"DocumentFile$Document", "rebase", "(II)Z"⟩ prog_2_method_5_code 5 (some .boolean) : Cond) ∈ lw_g := lw_g_of (mt2 (List.mem_of_getElem? (i := 224) rfl)) rfl
set_option maxRecDepth 20000 in
theorem mm_508 : (.methodLink "DocumentFile$Reader" 85 ⟨"DocumentFile$Document", "rebase", "(II)Z"⟩ : Cond) ∈ lw_g := lw_g_of (mt2 (List.mem_of_getElem? (i := 221) (by decide +kernel))) rfl
set_option maxRecDepth 20000 in
theorem mm_509 : (.instanceMethod ⟨"DocumentFile$Document", "rebase", "(II)Z"⟩ : Cond) ∈ lw_g := lw_g_of (mt2 (List.mem_of_getElem? (i := 222) (by decide +kernel))) rfl
set_option maxRecDepth 20000 in
theorem mm_510 : (.selects "DocumentFile$Document" ⟨"DocumentFile$Document", "rebase", "(II)Z"⟩ ⟨"DocumentFile$Document", "rebase", "(II)Z"⟩ : Cond) ∈ lw_g := lw_g_of (mt2 (List.mem_of_getElem? (i := 223) (by decide +kernel))) rfl
set_option maxRecDepth 20000 in
theorem mm_501 : (.code ⟨"DocumentFile$Reader", "readNumber", "(II)I"⟩ prog_6_method_6_code 6 (some .int) : Cond) ∈ lw_g := lw_g_of (mt2 (List.mem_of_getElem? (i := 214) rfl)) rfl
set_option maxRecDepth 20000 in
theorem mm_498 : (.methodLink "DocumentFile$Reader" 37 ⟨"DocumentFile$Reader", "readNumber", "(II)I"⟩ : Cond) ∈ lw_g := lw_g_of (mt2 (List.mem_of_getElem? (i := 211) (by decide +kernel))) rfl
set_option maxRecDepth 20000 in
theorem mm_500 : (.instanceMethod ⟨"DocumentFile$Reader", "readNumber", "(II)I"⟩ : Cond) ∈ lw_g := lw_g_of (mt2 (List.mem_of_getElem? (i := 213) (by decide +kernel))) rfl
set_option maxRecDepth 20000 in
theorem mm_14 : (.selects "DocumentFile$Reader" ⟨"DocumentFile$Reader", "readNumber", "(II)I"⟩ ⟨"DocumentFile$Reader", "readNumber", "(II)I"⟩ : Cond) ∈ lw_g := lw_g_of (mt0 (List.mem_of_getElem? (i := 14) (by decide +kernel))) rfl
set_option maxRecDepth 20000 in
theorem mm_507 : (.methodLink "DocumentFile$Reader" 80 ⟨"DocumentFile$PropertyRows", "rows", "()I"⟩ : Cond) ∈ lw_g := lw_g_of (mt2 (List.mem_of_getElem? (i := 220) (by decide +kernel))) rfl
set_option maxRecDepth 20000 in
theorem mm_518 : (.methodLink "DocumentFile$Reader" 92 ⟨"DocumentFile$PropertyRows", "put", "(III)Z"⟩ : Cond) ∈ lw_g := lw_g_of (mt2 (List.mem_of_getElem? (i := 231) (by decide +kernel))) rfl
set_option maxRecDepth 20000 in
theorem mm_517 : (.methodLink "DocumentFile$Reader" 89 ⟨"DocumentFile$PropertyRows", "mostOf", "(I)I"⟩ : Cond) ∈ lw_g := lw_g_of (mt2 (List.mem_of_getElem? (i := 230) (by decide +kernel))) rfl
set_option maxRecDepth 20000 in
theorem mm_516 : (.code ⟨"DocumentFile$Reader", "readProperties", "(LDocumentFile$PropertyRows;I)V"⟩ prog_6_method_9_code 7 none : Cond) ∈ lw_g := lw_g_of (mt2 (List.mem_of_getElem? (i := 229) rfl)) rfl
set_option maxRecDepth 20000 in
theorem mm_513 : (.methodLink "DocumentFile$Reader" 76 ⟨"DocumentFile$Reader", "readProperties", "(LDocumentFile$PropertyRows;I)V"⟩ : Cond) ∈ lw_g := lw_g_of (mt2 (List.mem_of_getElem? (i := 226) (by decide +kernel))) rfl
set_option maxRecDepth 20000 in
theorem mm_515 : (.instanceMethod ⟨"DocumentFile$Reader", "readProperties", "(LDocumentFile$PropertyRows;I)V"⟩ : Cond) ∈ lw_g := lw_g_of (mt2 (List.mem_of_getElem? (i := 228) (by decide +kernel))) rfl
set_option maxRecDepth 20000 in
theorem mm_16 : (.selects "DocumentFile$Reader" ⟨"DocumentFile$Reader", "readProperties", "(LDocumentFile$PropertyRows;I)V"⟩ ⟨"DocumentFile$Reader", "readProperties", "(LDocumentFile$PropertyRows;I)V"⟩ : Cond) ∈ lw_g := lw_g_of (mt0 (List.mem_of_getElem? (i := 16) (by decide +kernel))) rfl
set_option maxRecDepth 20000 in
theorem mm_506 : (.code ⟨"DocumentFile$Reader", "readBase", "(LDocumentFile$Document;I)V"⟩ prog_6_method_8_code 4 none : Cond) ∈ lw_g := lw_g_of (mt2 (List.mem_of_getElem? (i := 219) rfl)) rfl
set_option maxRecDepth 20000 in
theorem mm_503 : (.methodLink "DocumentFile$Reader" 68 ⟨"DocumentFile$Reader", "readBase", "(LDocumentFile$Document;I)V"⟩ : Cond) ∈ lw_g := lw_g_of (mt2 (List.mem_of_getElem? (i := 216) (by decide +kernel))) rfl
set_option maxRecDepth 20000 in
theorem mm_505 : (.instanceMethod ⟨"DocumentFile$Reader", "readBase", "(LDocumentFile$Document;I)V"⟩ : Cond) ∈ lw_g := lw_g_of (mt2 (List.mem_of_getElem? (i := 218) (by decide +kernel))) rfl
set_option maxRecDepth 20000 in
theorem mm_15 : (.selects "DocumentFile$Reader" ⟨"DocumentFile$Reader", "readBase", "(LDocumentFile$Document;I)V"⟩ ⟨"DocumentFile$Reader", "readBase", "(LDocumentFile$Document;I)V"⟩ : Cond) ∈ lw_g := lw_g_of (mt0 (List.mem_of_getElem? (i := 15) (by decide +kernel))) rfl
set_option maxRecDepth 20000 in
theorem mm_502 : (.methodLink "DocumentFile$Reader" 65 ⟨"DocumentFile$Document", "addStyle", "(I)I"⟩ : Cond) ∈ lw_g := lw_g_of (mt2 (List.mem_of_getElem? (i := 215) (by decide +kernel))) rfl
set_option maxRecDepth 20000 in
theorem mm_532 : (.methodLink "DocumentFile$PropertyRows" 31 ⟨"DocumentFile$PropertyRows", "same", "(II)Z"⟩ : Cond) ∈ lw_g := lw_g_of (mt3 (List.mem_of_getElem? (i := 5) (by decide +kernel))) rfl
set_option maxRecDepth 20000 in
theorem mm_127 : (.fieldLink "DocumentFile$Reader" 122 "DocumentFile$Document" "sets" "LDocumentFile$PropertyRows;" : Cond) ∈ lw_g := lw_g_of (mt1 (List.mem_of_getElem? (i := 80) (by decide +kernel))) rfl
set_option maxRecDepth 20000 in
theorem mm_531 : (.code ⟨"DocumentFile$PropertyRows", "repeats", "(I)Z"⟩ prog_5_method_11_code 3 (some .boolean) : Cond) ∈ lw_g := lw_g_of (mt3 (List.mem_of_getElem? (i := 4) rfl)) rfl
set_option maxRecDepth 20000 in
theorem mm_528 : (.methodLink "DocumentFile$Reader" 128 ⟨"DocumentFile$PropertyRows", "repeats", "(I)Z"⟩ : Cond) ∈ lw_g := lw_g_of (mt3 (List.mem_of_getElem? (i := 1) (by decide +kernel))) rfl
set_option maxRecDepth 20000 in
theorem mm_529 : (.instanceMethod ⟨"DocumentFile$PropertyRows", "repeats", "(I)Z"⟩ : Cond) ∈ lw_g := lw_g_of (mt3 (List.mem_of_getElem? (i := 2) (by decide +kernel))) rfl
set_option maxRecDepth 20000 in
theorem mm_530 : (.selects "DocumentFile$PropertyRows" ⟨"DocumentFile$PropertyRows", "repeats", "(I)Z"⟩ ⟨"DocumentFile$PropertyRows", "repeats", "(I)Z"⟩ : Cond) ∈ lw_g := lw_g_of (mt3 (List.mem_of_getElem? (i := 3) (by decide +kernel))) rfl
set_option maxRecDepth 20000 in
theorem mm_527 : (.methodLink "DocumentFile$Reader" 125 ⟨"DocumentFile$PropertyRows", "add", "()I"⟩ : Cond) ∈ lw_g := lw_g_of (mt3 (List.mem_of_getElem? (i := 0) (by decide +kernel))) rfl
set_option maxRecDepth 20000 in
theorem mm_131 : (.fieldLink "DocumentFile$Reader" 131 "DocumentFile$Document" "marks" "LDocumentFile$Marks;" : Cond) ∈ lw_g := lw_g_of (mt1 (List.mem_of_getElem? (i := 84) (by decide +kernel))) rfl
set_option maxRecDepth 20000 in
theorem mm_543 : (.code ⟨"DocumentFile$Document", "repeatsMark", "(I)Z"⟩ prog_2_method_7_code 3 (some .boolean) : Cond) ∈ lw_g := lw_g_of (mt3 (List.mem_of_getElem? (i := 16) rfl)) rfl
set_option maxRecDepth 20000 in
theorem mm_540 : (.methodLink "DocumentFile$Reader" 144 ⟨"DocumentFile$Document", "repeatsMark", "(I)Z"⟩ : Cond) ∈ lw_g := lw_g_of (mt3 (List.mem_of_getElem? (i := 13) (by decide +kernel))) rfl
set_option maxRecDepth 20000 in
theorem mm_541 : (.instanceMethod ⟨"DocumentFile$Document", "repeatsMark", "(I)Z"⟩ : Cond) ∈ lw_g := lw_g_of (mt3 (List.mem_of_getElem? (i := 14) (by decide +kernel))) rfl
set_option maxRecDepth 20000 in
theorem mm_542 : (.selects "DocumentFile$Document" ⟨"DocumentFile$Document", "repeatsMark", "(I)Z"⟩ ⟨"DocumentFile$Document", "repeatsMark", "(I)Z"⟩ : Cond) ∈ lw_g := lw_g_of (mt3 (List.mem_of_getElem? (i := 15) (by decide +kernel))) rfl
set_option maxRecDepth 20000 in
theorem mm_539 : (.methodLink "DocumentFile$Reader" 141 ⟨"DocumentFile$Marks", "add", "(III)I"⟩ : Cond) ∈ lw_g := lw_g_of (mt3 (List.mem_of_getElem? (i := 12) (by decide +kernel))) rfl
set_option maxRecDepth 20000 in
theorem mm_526 : (.code ⟨"DocumentFile$Reader", "readSet", "(LDocumentFile$Document;I)I"⟩ prog_6_method_11_code 6 (some .int) : Cond) ∈ lw_g := lw_g_of (mt2 (List.mem_of_getElem? (i := 239) rfl)) rfl
set_option maxRecDepth 20000 in
theorem mm_523 : (.methodLink "DocumentFile$Reader" 96 ⟨"DocumentFile$Reader", "readSet", "(LDocumentFile$Document;I)I"⟩ : Cond) ∈ lw_g := lw_g_of (mt2 (List.mem_of_getElem? (i := 236) (by decide +kernel))) rfl
set_option maxRecDepth 20000 in
theorem mm_525 : (.instanceMethod ⟨"DocumentFile$Reader", "readSet", "(LDocumentFile$Document;I)I"⟩ : Cond) ∈ lw_g := lw_g_of (mt2 (List.mem_of_getElem? (i := 238) (by decide +kernel))) rfl
set_option maxRecDepth 20000 in
theorem mm_18 : (.selects "DocumentFile$Reader" ⟨"DocumentFile$Reader", "readSet", "(LDocumentFile$Document;I)I"⟩ ⟨"DocumentFile$Reader", "readSet", "(LDocumentFile$Document;I)I"⟩ : Cond) ∈ lw_g := lw_g_of (mt0 (List.mem_of_getElem? (i := 18) (by decide +kernel))) rfl
set_option maxRecDepth 20000 in
theorem mm_538 : (.methodLink "DocumentFile$Reader" 138 ⟨"DocumentFile$Marks", "isFull", "()Z"⟩ : Cond) ∈ lw_g := lw_g_of (mt3 (List.mem_of_getElem? (i := 11) (by decide +kernel))) rfl
set_option maxRecDepth 20000 in
theorem mm_537 : (.methodLink "DocumentFile$Reader" 135 ⟨"DocumentFile$Marks", "rows", "()I"⟩ : Cond) ∈ lw_g := lw_g_of (mt3 (List.mem_of_getElem? (i := 10) (by decide +kernel))) rfl
set_option maxRecDepth 20000 in
theorem mm_555 : (.methodLink "DocumentFile$Reader" 157 ⟨"DocumentFile$Runs", "isText", "(I)Z"⟩ : Cond) ∈ lw_g := lw_g_of (mt3 (List.mem_of_getElem? (i := 28) (by decide +kernel))) rfl
set_option maxRecDepth 20000 in
theorem mm_556 : (.methodLink "DocumentFile$Reader" 153 ⟨"DocumentFile$Runs", "append", "(I)V"⟩ : Cond) ∈ lw_g := lw_g_of (mt3 (List.mem_of_getElem? (i := 29) (by decide +kernel))) rfl
set_option maxRecDepth 20000 in
theorem mm_554 : (.code ⟨"DocumentFile$Reader", "readCharacter", "()I"⟩ prog_6_method_14_code 2 (some .int) : Cond) ∈ lw_g := lw_g_of (mt3 (List.mem_of_getElem? (i := 27) rfl)) rfl
set_option maxRecDepth 20000 in
theorem mm_551 : (.methodLink "DocumentFile$Reader" 150 ⟨"DocumentFile$Reader", "readCharacter", "()I"⟩ : Cond) ∈ lw_g := lw_g_of (mt3 (List.mem_of_getElem? (i := 24) (by decide +kernel))) rfl
set_option maxRecDepth 20000 in
theorem mm_553 : (.instanceMethod ⟨"DocumentFile$Reader", "readCharacter", "()I"⟩ : Cond) ∈ lw_g := lw_g_of (mt3 (List.mem_of_getElem? (i := 26) (by decide +kernel))) rfl
set_option maxRecDepth 20000 in
theorem mm_21 : (.selects "DocumentFile$Reader" ⟨"DocumentFile$Reader", "readCharacter", "()I"⟩ ⟨"DocumentFile$Reader", "readCharacter", "()I"⟩ : Cond) ∈ lw_g := lw_g_of (mt0 (List.mem_of_getElem? (i := 21) (by decide +kernel))) rfl
set_option maxRecDepth 20000 in
theorem mm_550 : (.methodLink "DocumentFile$Reader" 147 ⟨"DocumentFile$Runs", "length", "()I"⟩ : Cond) ∈ lw_g := lw_g_of (mt3 (List.mem_of_getElem? (i := 23) (by decide +kernel))) rfl
set_option maxRecDepth 20000 in
theorem mm_135 : (.fieldLink "DocumentFile$Reader" 104 "DocumentFile$Document" "runs" "LDocumentFile$Runs;" : Cond) ∈ lw_g := lw_g_of (mt1 (List.mem_of_getElem? (i := 88) (by decide +kernel))) rfl
set_option maxRecDepth 20000 in
theorem mm_549 : (.code ⟨"DocumentFile$Reader", "readCharacters", "(LDocumentFile$Runs;I)V"⟩ prog_6_method_13_code 6 none : Cond) ∈ lw_g := lw_g_of (mt3 (List.mem_of_getElem? (i := 22) rfl)) rfl
set_option maxRecDepth 20000 in
theorem mm_546 : (.methodLink "DocumentFile$Reader" 118 ⟨"DocumentFile$Reader", "readCharacters", "(LDocumentFile$Runs;I)V"⟩ : Cond) ∈ lw_g := lw_g_of (mt3 (List.mem_of_getElem? (i := 19) (by decide +kernel))) rfl
set_option maxRecDepth 20000 in
theorem mm_548 : (.instanceMethod ⟨"DocumentFile$Reader", "readCharacters", "(LDocumentFile$Runs;I)V"⟩ : Cond) ∈ lw_g := lw_g_of (mt3 (List.mem_of_getElem? (i := 21) (by decide +kernel))) rfl
set_option maxRecDepth 20000 in
theorem mm_20 : (.selects "DocumentFile$Reader" ⟨"DocumentFile$Reader", "readCharacters", "(LDocumentFile$Runs;I)V"⟩ ⟨"DocumentFile$Reader", "readCharacters", "(LDocumentFile$Runs;I)V"⟩ : Cond) ∈ lw_g := lw_g_of (mt0 (List.mem_of_getElem? (i := 20) (by decide +kernel))) rfl
set_option maxRecDepth 20000 in
theorem mm_545 : (.methodLink "DocumentFile$Reader" 114 ⟨"DocumentFile$Document", "goesOn", "(I)Z"⟩ : Cond) ∈ lw_g := lw_g_of (mt3 (List.mem_of_getElem? (i := 18) (by decide +kernel))) rfl
set_option maxRecDepth 20000 in
theorem mm_544 : (.methodLink "DocumentFile$Reader" 108 ⟨"DocumentFile$Runs", "begin", "(IIII)I"⟩ : Cond) ∈ lw_g := lw_g_of (mt3 (List.mem_of_getElem? (i := 17) (by decide +kernel))) rfl
set_option maxRecDepth 20000 in
theorem mm_536 : (.code ⟨"DocumentFile$Reader", "readMark", "(LDocumentFile$Document;)I"⟩ prog_6_method_12_code 8 (some .int) : Cond) ∈ lw_g := lw_g_of (mt3 (List.mem_of_getElem? (i := 9) rfl)) rfl
set_option maxRecDepth 20000 in
theorem mm_533 : (.methodLink "DocumentFile$Reader" 100 ⟨"DocumentFile$Reader", "readMark", "(LDocumentFile$Document;)I"⟩ : Cond) ∈ lw_g := lw_g_of (mt3 (List.mem_of_getElem? (i := 6) (by decide +kernel))) rfl
set_option maxRecDepth 20000 in
theorem mm_535 : (.instanceMethod ⟨"DocumentFile$Reader", "readMark", "(LDocumentFile$Document;)I"⟩ : Cond) ∈ lw_g := lw_g_of (mt3 (List.mem_of_getElem? (i := 8) (by decide +kernel))) rfl
set_option maxRecDepth 20000 in
theorem mm_19 : (.selects "DocumentFile$Reader" ⟨"DocumentFile$Reader", "readMark", "(LDocumentFile$Document;)I"⟩ ⟨"DocumentFile$Reader", "readMark", "(LDocumentFile$Document;)I"⟩ : Cond) ∈ lw_g := lw_g_of (mt0 (List.mem_of_getElem? (i := 19) (by decide +kernel))) rfl
set_option maxRecDepth 20000 in
theorem mm_557 : (.methodLink "DocumentFile$Reader" 48 ⟨"DocumentFile$Octets", "size", "()I"⟩ : Cond) ∈ lw_g := lw_g_of (mt3 (List.mem_of_getElem? (i := 30) (by decide +kernel))) rfl
set_option maxRecDepth 20000 in
theorem mm_522 : (.code ⟨"DocumentFile$Reader", "readRun", "(LDocumentFile$Document;)V"⟩ prog_6_method_10_code 8 none : Cond) ∈ lw_g := lw_g_of (mt2 (List.mem_of_getElem? (i := 235) rfl)) rfl
set_option maxRecDepth 20000 in
theorem mm_519 : (.methodLink "DocumentFile$Reader" 45 ⟨"DocumentFile$Reader", "readRun", "(LDocumentFile$Document;)V"⟩ : Cond) ∈ lw_g := lw_g_of (mt2 (List.mem_of_getElem? (i := 232) (by decide +kernel))) rfl
set_option maxRecDepth 20000 in
theorem mm_521 : (.instanceMethod ⟨"DocumentFile$Reader", "readRun", "(LDocumentFile$Document;)V"⟩ : Cond) ∈ lw_g := lw_g_of (mt2 (List.mem_of_getElem? (i := 234) (by decide +kernel))) rfl
set_option maxRecDepth 20000 in
theorem mm_17 : (.selects "DocumentFile$Reader" ⟨"DocumentFile$Reader", "readRun", "(LDocumentFile$Document;)V"⟩ ⟨"DocumentFile$Reader", "readRun", "(LDocumentFile$Document;)V"⟩ : Cond) ∈ lw_g := lw_g_of (mt0 (List.mem_of_getElem? (i := 17) (by decide +kernel))) rfl
set_option maxRecDepth 20000 in
theorem mm_497 : (.code ⟨"DocumentFile$Reader", "readStyles", "(LDocumentFile$Document;)V"⟩ prog_6_method_7_code 4 none : Cond) ∈ lw_g := lw_g_of (mt2 (List.mem_of_getElem? (i := 210) rfl)) rfl
set_option maxRecDepth 20000 in
theorem mm_494 : (.methodLink "DocumentFile$Reader" 33 ⟨"DocumentFile$Reader", "readStyles", "(LDocumentFile$Document;)V"⟩ : Cond) ∈ lw_g := lw_g_of (mt2 (List.mem_of_getElem? (i := 207) (by decide +kernel))) rfl
set_option maxRecDepth 20000 in
theorem mm_496 : (.instanceMethod ⟨"DocumentFile$Reader", "readStyles", "(LDocumentFile$Document;)V"⟩ : Cond) ∈ lw_g := lw_g_of (mt2 (List.mem_of_getElem? (i := 209) (by decide +kernel))) rfl
set_option maxRecDepth 20000 in
theorem mm_13 : (.selects "DocumentFile$Reader" ⟨"DocumentFile$Reader", "readStyles", "(LDocumentFile$Document;)V"⟩ ⟨"DocumentFile$Reader", "readStyles", "(LDocumentFile$Document;)V"⟩ : Cond) ∈ lw_g := lw_g_of (mt0 (List.mem_of_getElem? (i := 13) (by decide +kernel))) rfl
set_option maxRecDepth 20000 in
theorem mm_480 : (.code ⟨"DocumentFile$Reader", "readHead", "()V"⟩ prog_6_method_5_code 2 none : Cond) ∈ lw_g := lw_g_of (mt2 (List.mem_of_getElem? (i := 193) rfl)) rfl
set_option maxRecDepth 20000 in
theorem mm_477 : (.methodLink "DocumentFile$Reader" 30 ⟨"DocumentFile$Reader", "readHead", "()V"⟩ : Cond) ∈ lw_g := lw_g_of (mt2 (List.mem_of_getElem? (i := 190) (by decide +kernel))) rfl
set_option maxRecDepth 20000 in
theorem mm_479 : (.instanceMethod ⟨"DocumentFile$Reader", "readHead", "()V"⟩ : Cond) ∈ lw_g := lw_g_of (mt2 (List.mem_of_getElem? (i := 192) (by decide +kernel))) rfl
set_option maxRecDepth 20000 in
theorem mm_10 : (.selects "DocumentFile$Reader" ⟨"DocumentFile$Reader", "readHead", "()V"⟩ ⟨"DocumentFile$Reader", "readHead", "()V"⟩ : Cond) ∈ lw_g := lw_g_of (mt0 (List.mem_of_getElem? (i := 10) (by decide +kernel))) rfl
set_option maxRecDepth 20000 in
theorem mm_476 : (.methodLink "DocumentFile$Reader" 25 ⟨"DocumentFile$Document", "empty", "()V"⟩ : Cond) ∈ lw_g := lw_g_of (mt2 (List.mem_of_getElem? (i := 189) (by decide +kernel))) rfl
set_option maxRecDepth 20000 in
theorem mm_205 : (.fieldLink "DocumentFile" 31 "DocumentFile" "reader" "LDocumentFile$Reader;" : Cond) ∈ lw_g := lw_g_of (mt1 (List.mem_of_getElem? (i := 158) (by decide +kernel))) rfl
set_option maxRecDepth 20000 in
theorem mm_203 : (.fieldLink "DocumentFile" 16 "DocumentFile" "spare" "LDocumentFile$Document;" : Cond) ∈ lw_g := lw_g_of (mt1 (List.mem_of_getElem? (i := 156) (by decide +kernel))) rfl
set_option maxRecDepth 20000 in
theorem mm_475 : (.code ⟨"DocumentFile$Reader", "read", "(LDocumentFile$Document;)I"⟩ prog_6_method_2_code 4 (some .int) : Cond) ∈ lw_g := lw_g_of (mt2 (List.mem_of_getElem? (i := 188) rfl)) rfl
set_option maxRecDepth 20000 in
theorem mm_472 : (.methodLink "DocumentFile" 134 ⟨"DocumentFile$Reader", "read", "(LDocumentFile$Document;)I"⟩ : Cond) ∈ lw_g := lw_g_of (mt2 (List.mem_of_getElem? (i := 185) (by decide +kernel))) rfl
set_option maxRecDepth 20000 in
theorem mm_473 : (.instanceMethod ⟨"DocumentFile$Reader", "read", "(LDocumentFile$Document;)I"⟩ : Cond) ∈ lw_g := lw_g_of (mt2 (List.mem_of_getElem? (i := 186) (by decide +kernel))) rfl
set_option maxRecDepth 20000 in
theorem mm_474 : (.selects "DocumentFile$Reader" ⟨"DocumentFile$Reader", "read", "(LDocumentFile$Document;)I"⟩ ⟨"DocumentFile$Reader", "read", "(LDocumentFile$Document;)I"⟩ : Cond) ∈ lw_g := lw_g_of (mt2 (List.mem_of_getElem? (i := 187) (by decide +kernel))) rfl
set_option maxRecDepth 20000 in
theorem mm_562 : (.methodLink "DocumentFile" 138 ⟨"DocumentFile$Octets", "get", "(I)I"⟩ : Cond) ∈ lw_g := lw_g_of (mt3 (List.mem_of_getElem? (i := 35) (by decide +kernel))) rfl
set_option maxRecDepth 20000 in
theorem mm_571 : (.code ⟨"DocumentFile$Octets", "put", "(II)Z"⟩ prog_4_method_4_code 3 (some .boolean) : Cond) ∈ lw_g := lw_g_of (mt3 (List.mem_of_getElem? (i := 44) rfl)) rfl
set_option maxRecDepth 20000 in
theorem mm_568 : (.methodLink "DocumentFile" 142 ⟨"DocumentFile$Octets", "put", "(II)Z"⟩ : Cond) ∈ lw_g := lw_g_of (mt3 (List.mem_of_getElem? (i := 41) (by decide +kernel))) rfl
set_option maxRecDepth 20000 in
theorem mm_569 : (.instanceMethod ⟨"DocumentFile$Octets", "put", "(II)Z"⟩ : Cond) ∈ lw_g := lw_g_of (mt3 (List.mem_of_getElem? (i := 42) (by decide +kernel))) rfl
set_option maxRecDepth 20000 in
theorem mm_570 : (.selects "DocumentFile$Octets" ⟨"DocumentFile$Octets", "put", "(II)Z"⟩ ⟨"DocumentFile$Octets", "put", "(II)Z"⟩ : Cond) ∈ lw_g := lw_g_of (mt3 (List.mem_of_getElem? (i := 43) (by decide +kernel))) rfl
set_option maxRecDepth 20000 in
theorem mm_567 : (.methodLink "DocumentFile" 140 ⟨"DocumentFile$Octets", "append", "(I)Z"⟩ : Cond) ∈ lw_g := lw_g_of (mt3 (List.mem_of_getElem? (i := 40) (by decide +kernel))) rfl
set_option maxRecDepth 20000 in
theorem mm_576 : (.methodLink "DocumentFile" 145 ⟨"DocumentFile$Octets", "keep", "(I)Z"⟩ : Cond) ∈ lw_g := lw_g_of (mt3 (List.mem_of_getElem? (i := 49) (by decide +kernel))) rfl
set_option maxRecDepth 20000 in
theorem mm_705 : (.constant "DocumentFileModel" 69 (65535) : Cond) ∈ lw_g := lw_g_of (mt3 (List.mem_of_getElem? (i := 178) (by decide +kernel))) rfl
set_option maxRecDepth 20000 in
theorem mm_678 : (.code ⟨"DocumentFileModel", "in", "(III)Z"⟩ prog_10_method_2_code 3 (some .boolean) : Cond) ∈ lw_g := lw_g_of (mt3 (List.mem_of_getElem? (i := 151) rfl)) rfl
set_option maxRecDepth 20000 in
theorem mm_676 : (.methodLink "DocumentFileModel" 70 ⟨"DocumentFileModel", "in", "(III)Z"⟩ : Cond) ∈ lw_g := lw_g_of (mt3 (List.mem_of_getElem? (i := 149) (by decide +kernel))) rfl
set_option maxRecDepth 20000 in
theorem mm_56 : (.initialized "DocumentFileModel" : Cond) ∈ lw_g := lw_g_of (mt1 (List.mem_of_getElem? (i := 9) (by decide +kernel))) rfl
set_option maxRecDepth 20000 in
theorem mm_677 : (.static ⟨"DocumentFileModel", "in", "(III)Z"⟩ : Cond) ∈ lw_g := lw_g_of (mt3 (List.mem_of_getElem? (i := 150) (by decide +kernel))) rfl
set_option maxRecDepth 20000 in
theorem mm_587 : (.fieldLink "DocumentFileModel" 17 "DocumentFileModel" "sets" "[I" : Cond) ∈ lw_g := lw_g_of (mt3 (List.mem_of_getElem? (i := 60) (by decide +kernel))) rfl
set_option maxRecDepth 20000 in
theorem mm_585 : (.fieldLink "DocumentFileModel" 74 "DocumentFileModel" "now" "I" : Cond) ∈ lw_g := lw_g_of (mt3 (List.mem_of_getElem? (i := 58) (by decide +kernel))) rfl
set_option maxRecDepth 20000 in
theorem mm_588 : (.fieldLink "DocumentFileModel" 20 "DocumentFileModel" "marks" "[I" : Cond) ∈ lw_g := lw_g_of (mt3 (List.mem_of_getElem? (i := 61) (by decide +kernel))) rfl
set_option maxRecDepth 20000 in
theorem mm_586 : (.fieldLink "DocumentFileModel" 13 "DocumentFileModel" "styles" "[I" : Cond) ∈ lw_g := lw_g_of (mt3 (List.mem_of_getElem? (i := 59) (by decide +kernel))) rfl
set_option maxRecDepth 20000 in
theorem mm_589 : (.fieldLink "DocumentFileModel" 23 "DocumentFileModel" "runs" "[I" : Cond) ∈ lw_g := lw_g_of (mt3 (List.mem_of_getElem? (i := 62) (by decide +kernel))) rfl
set_option maxRecDepth 20000 in
theorem mm_590 : (.fieldLink "DocumentFileModel" 26 "DocumentFileModel" "characters" "[I" : Cond) ∈ lw_g := lw_g_of (mt3 (List.mem_of_getElem? (i := 63) (by decide +kernel))) rfl
set_option maxRecDepth 20000 in
theorem mm_592 : (.fieldLink "DocumentFileModel" 32 "DocumentFileModel" "own" "[I" : Cond) ∈ lw_g := lw_g_of (mt3 (List.mem_of_getElem? (i := 65) (by decide +kernel))) rfl
set_option maxRecDepth 20000 in
theorem mm_685 : (.code ⟨"DocumentFileModel", "row", "(III)I"⟩ prog_10_method_7_code 3 (some .int) : Cond) ∈ lw_g := lw_g_of (mt3 (List.mem_of_getElem? (i := 158) rfl)) rfl
set_option maxRecDepth 20000 in
theorem mm_683 : (.methodLink "DocumentFileModel" 78 ⟨"DocumentFileModel", "row", "(III)I"⟩ : Cond) ∈ lw_g := lw_g_of (mt3 (List.mem_of_getElem? (i := 156) (by decide +kernel))) rfl
set_option maxRecDepth 20000 in
theorem mm_684 : (.static ⟨"DocumentFileModel", "row", "(III)I"⟩ : Cond) ∈ lw_g := lw_g_of (mt3 (List.mem_of_getElem? (i := 157) (by decide +kernel))) rfl
set_option maxRecDepth 20000 in
theorem mm_671 : (.code ⟨"DocumentFileModel", "empty", "(I)V"⟩ prog_10_method_8_code 2 none : Cond) ∈ lw_g := lw_g_of (mt3 (List.mem_of_getElem? (i := 144) rfl)) rfl
set_option maxRecDepth 20000 in
theorem mm_668 : (.methodLink "DocumentFileModel" 82 ⟨"DocumentFileModel", "empty", "(I)V"⟩ : Cond) ∈ lw_g := lw_g_of (mt3 (List.mem_of_getElem? (i := 141) (by decide +kernel))) rfl
set_option maxRecDepth 20000 in
theorem mm_670 : (.instanceMethod ⟨"DocumentFileModel", "empty", "(I)V"⟩ : Cond) ∈ lw_g := lw_g_of (mt3 (List.mem_of_getElem? (i := 143) (by decide +kernel))) rfl
set_option maxRecDepth 20000 in
theorem mm_22 : (.selects "DocumentFileModel" ⟨"DocumentFileModel", "empty", "(I)V"⟩ ⟨"DocumentFileModel", "empty", "(I)V"⟩ : Cond) ∈ lw_g := lw_g_of (mt0 (List.mem_of_getElem? (i := 22) (by decide +kernel))) rfl
set_option maxRecDepth 20000 in
theorem mm_591 : (.fieldLink "DocumentFileModel" 29 "DocumentFileModel" "base" "[I" : Cond) ∈ lw_g := lw_g_of (mt3 (List.mem_of_getElem? (i := 64) (by decide +kernel))) rfl
set_option maxRecDepth 20000 in
theorem mm_682 : (.code ⟨"DocumentFileModel", "bare", "(III)V"⟩ prog_10_method_9_code 5 none : Cond) ∈ lw_g := lw_g_of (mt3 (List.mem_of_getElem? (i := 155) rfl)) rfl
set_option maxRecDepth 20000 in
theorem mm_679 : (.methodLink "DocumentFileModel" 86 ⟨"DocumentFileModel", "bare", "(III)V"⟩ : Cond) ∈ lw_g := lw_g_of (mt3 (List.mem_of_getElem? (i := 152) (by decide +kernel))) rfl
set_option maxRecDepth 20000 in
theorem mm_681 : (.instanceMethod ⟨"DocumentFileModel", "bare", "(III)V"⟩ : Cond) ∈ lw_g := lw_g_of (mt3 (List.mem_of_getElem? (i := 154) (by decide +kernel))) rfl
set_option maxRecDepth 20000 in
theorem mm_23 : (.selects "DocumentFileModel" ⟨"DocumentFileModel", "bare", "(III)V"⟩ ⟨"DocumentFileModel", "bare", "(III)V"⟩ : Cond) ∈ lw_g := lw_g_of (mt0 (List.mem_of_getElem? (i := 23) (by decide +kernel))) rfl
set_option maxRecDepth 20000 in
theorem mm_701 : (.code ⟨"DocumentFileModel", "isSet", "(I)Z"⟩ prog_10_method_5_code 2 (some .boolean) : Cond) ∈ lw_g := lw_g_of (mt3 (List.mem_of_getElem? (i := 174) rfl)) rfl
set_option maxRecDepth 20000 in
theorem mm_698 : (.methodLink "DocumentFileModel" 90 ⟨"DocumentFileModel", "isSet", "(I)Z"⟩ : Cond) ∈ lw_g := lw_g_of (mt3 (List.mem_of_getElem? (i := 171) (by decide +kernel))) rfl
set_option maxRecDepth 20000 in
theorem mm_700 : (.instanceMethod ⟨"DocumentFileModel", "isSet", "(I)Z"⟩ : Cond) ∈ lw_g := lw_g_of (mt3 (List.mem_of_getElem? (i := 173) (by decide +kernel))) rfl
set_option maxRecDepth 20000 in
theorem mm_25 : (.selects "DocumentFileModel" ⟨"DocumentFileModel", "isSet", "(I)Z"⟩ ⟨"DocumentFileModel", "isSet", "(I)Z"⟩ : Cond) ∈ lw_g := lw_g_of (mt0 (List.mem_of_getElem? (i := 25) (by decide +kernel))) rfl
set_option maxRecDepth 20000 in
theorem mm_704 : (.code ⟨"DocumentFileModel", "most", "(I)I"⟩ prog_10_method_3_code 1 (some .int) : Cond) ∈ lw_g := lw_g_of (mt3 (List.mem_of_getElem? (i := 177) rfl)) rfl
set_option maxRecDepth 20000 in
theorem mm_702 : (.methodLink "DocumentFileModel" 98 ⟨"DocumentFileModel", "most", "(I)I"⟩ : Cond) ∈ lw_g := lw_g_of (mt3 (List.mem_of_getElem? (i := 175) (by decide +kernel))) rfl
set_option maxRecDepth 20000 in
theorem mm_703 : (.static ⟨"DocumentFileModel", "most", "(I)I"⟩ : Cond) ∈ lw_g := lw_g_of (mt3 (List.mem_of_getElem? (i := 176) (by decide +kernel))) rfl
set_option maxRecDepth 20000 in
theorem mm_697 : (.code ⟨"DocumentFileModel", "isRow", "(II)Z"⟩ prog_10_method_13_code 3 (some .boolean) : Cond) ∈ lw_g := lw_g_of (mt3 (List.mem_of_getElem? (i := 170) rfl)) rfl
set_option maxRecDepth 20000 in
theorem mm_694 : (.methodLink "DocumentFileModel" 94 ⟨"DocumentFileModel", "isRow", "(II)Z"⟩ : Cond) ∈ lw_g := lw_g_of (mt3 (List.mem_of_getElem? (i := 167) (by decide +kernel))) rfl
set_option maxRecDepth 20000 in
theorem mm_696 : (.instanceMethod ⟨"DocumentFileModel", "isRow", "(II)Z"⟩ : Cond) ∈ lw_g := lw_g_of (mt3 (List.mem_of_getElem? (i := 169) (by decide +kernel))) rfl
set_option maxRecDepth 20000 in
theorem mm_24 : (.selects "DocumentFileModel" ⟨"DocumentFileModel", "isRow", "(II)Z"⟩ ⟨"DocumentFileModel", "isRow", "(II)Z"⟩ : Cond) ∈ lw_g := lw_g_of (mt0 (List.mem_of_getElem? (i := 24) (by decide +kernel))) rfl
set_option maxRecDepth 20000 in
theorem mm_593 : (.fieldLink "DocumentFileModel" 35 "DocumentFileModel" "inserted" "[S" : Cond) ∈ lw_g := lw_g_of (mt3 (List.mem_of_getElem? (i := 66) (by decide +kernel))) rfl
set_option maxRecDepth 20000 in
theorem mm_594 : (.fieldLink "DocumentFileModel" 39 "DocumentFileModel" "erased" "[S" : Cond) ∈ lw_g := lw_g_of (mt3 (List.mem_of_getElem? (i := 67) (by decide +kernel))) rfl
set_option maxRecDepth 20000 in
theorem mm_595 : (.fieldLink "DocumentFileModel" 42 "DocumentFileModel" "old" "[S" : Cond) ∈ lw_g := lw_g_of (mt3 (List.mem_of_getElem? (i := 68) (by decide +kernel))) rfl
set_option maxRecDepth 20000 in
theorem mm_596 : (.fieldLink "DocumentFileModel" 45 "DocumentFileModel" "kind" "[S" : Cond) ∈ lw_g := lw_g_of (mt3 (List.mem_of_getElem? (i := 69) (by decide +kernel))) rfl
set_option maxRecDepth 20000 in
theorem mm_597 : (.fieldLink "DocumentFileModel" 48 "DocumentFileModel" "setOf" "[S" : Cond) ∈ lw_g := lw_g_of (mt3 (List.mem_of_getElem? (i := 70) (by decide +kernel))) rfl
set_option maxRecDepth 20000 in
theorem mm_598 : (.fieldLink "DocumentFileModel" 51 "DocumentFileModel" "markOf" "[S" : Cond) ∈ lw_g := lw_g_of (mt3 (List.mem_of_getElem? (i := 71) (by decide +kernel))) rfl
set_option maxRecDepth 20000 in
theorem mm_599 : (.fieldLink "DocumentFileModel" 54 "DocumentFileModel" "styleOf" "[S" : Cond) ∈ lw_g := lw_g_of (mt3 (List.mem_of_getElem? (i := 72) (by decide +kernel))) rfl
set_option maxRecDepth 20000 in
theorem mm_600 : (.fieldLink "DocumentFileModel" 57 "DocumentFileModel" "many" "[S" : Cond) ∈ lw_g := lw_g_of (mt3 (List.mem_of_getElem? (i := 73) (by decide +kernel))) rfl
set_option maxRecDepth 20000 in
theorem mm_714 : (.constantLong "DocumentFileModel" 102 (255) : Cond) ∈ lw_g := lw_g_of (mt3 (List.mem_of_getElem? (i := 187) (by decide +kernel))) rfl
set_option maxRecDepth 20000 in
theorem mm_725 : (.code ⟨"DocumentFileModel", "add", "(IIIII)I"⟩ prog_10_method_16_code 7 (some .int) : Cond) ∈ lw_g := lw_g_of (mt3 (List.mem_of_getElem? (i := 198) rfl)) rfl
set_option maxRecDepth 20000 in
theorem mm_722 : (.methodLink "DocumentFileModel" 110 ⟨"DocumentFileModel", "add", "(IIIII)I"⟩ : Cond) ∈ lw_g := lw_g_of (mt3 (List.mem_of_getElem? (i := 195) (by decide +kernel))) rfl
set_option maxRecDepth 20000 in
theorem mm_724 : (.instanceMethod ⟨"DocumentFileModel", "add", "(IIIII)I"⟩ : Cond) ∈ lw_g := lw_g_of (mt3 (List.mem_of_getElem? (i := 197) (by decide +kernel))) rfl
set_option maxRecDepth 20000 in
theorem mm_27 : (.selects "DocumentFileModel" ⟨"DocumentFileModel", "add", "(IIIII)I"⟩ ⟨"DocumentFileModel", "add", "(IIIII)I"⟩ : Cond) ∈ lw_g := lw_g_of (mt0 (List.mem_of_getElem? (i := 27) (by decide +kernel))) rfl
set_option maxRecDepth 20000 in
theorem mm_601 : (.fieldLink "DocumentFileModel" 60 "DocumentFileModel" "text" "[S" : Cond) ∈ lw_g := lw_g_of (mt3 (List.mem_of_getElem? (i := 74) (by decide +kernel))) rfl
set_option maxRecDepth 20000 in
theorem mm_721 : (.code ⟨"DocumentFileModel", "isText", "(I)Z"⟩ prog_10_method_4_code 1 (some .boolean) : Cond) ∈ lw_g := lw_g_of (mt3 (List.mem_of_getElem? (i := 194) rfl)) rfl
set_option maxRecDepth 20000 in
theorem mm_719 : (.methodLink "DocumentFileModel" 107 ⟨"DocumentFileModel", "isText", "(I)Z"⟩ : Cond) ∈ lw_g := lw_g_of (mt3 (List.mem_of_getElem? (i := 192) (by decide +kernel))) rfl
set_option maxRecDepth 20000 in
theorem mm_720 : (.static ⟨"DocumentFileModel", "isText", "(I)Z"⟩ : Cond) ∈ lw_g := lw_g_of (mt3 (List.mem_of_getElem? (i := 193) (by decide +kernel))) rfl
set_option maxRecDepth 20000 in
theorem mm_718 : (.code ⟨"DocumentFileModel", "isMark", "(I)Z"⟩ prog_10_method_6_code 2 (some .boolean) : Cond) ∈ lw_g := lw_g_of (mt3 (List.mem_of_getElem? (i := 191) rfl)) rfl
set_option maxRecDepth 20000 in
theorem mm_715 : (.methodLink "DocumentFileModel" 104 ⟨"DocumentFileModel", "isMark", "(I)Z"⟩ : Cond) ∈ lw_g := lw_g_of (mt3 (List.mem_of_getElem? (i := 188) (by decide +kernel))) rfl
set_option maxRecDepth 20000 in
theorem mm_717 : (.instanceMethod ⟨"DocumentFileModel", "isMark", "(I)Z"⟩ : Cond) ∈ lw_g := lw_g_of (mt3 (List.mem_of_getElem? (i := 190) (by decide +kernel))) rfl
set_option maxRecDepth 20000 in
theorem mm_26 : (.selects "DocumentFileModel" ⟨"DocumentFileModel", "isMark", "(I)Z"⟩ ⟨"DocumentFileModel", "isMark", "(I)Z"⟩ : Cond) ∈ lw_g := lw_g_of (mt0 (List.mem_of_getElem? (i := 26) (by decide +kernel))) rfl
set_option maxRecDepth 20000 in
theorem mm_583 : (.fieldLink "DocumentFileModel" 114 "DocumentFileModel" "length" "I" : Cond) ∈ lw_g := lw_g_of (mt3 (List.mem_of_getElem? (i := 56) (by decide +kernel))) rfl
set_option maxRecDepth 20000 in
theorem mm_785 : (.code ⟨"DocumentFileModel", "sameSets", "(III)Z"⟩ prog_10_method_25_code 6 (some .boolean) : Cond) ∈ lw_g := lw_g_of (mt4 (List.mem_of_getElem? (i := 18) rfl)) rfl
set_option maxRecDepth 20000 in
theorem mm_782 : (.methodLink "DocumentFileModel" 117 ⟨"DocumentFileModel", "sameSets", "(III)Z"⟩ : Cond) ∈ lw_g := lw_g_of (mt4 (List.mem_of_getElem? (i := 15) (by decide +kernel))) rfl
set_option maxRecDepth 20000 in
theorem mm_784 : (.instanceMethod ⟨"DocumentFileModel", "sameSets", "(III)Z"⟩ : Cond) ∈ lw_g := lw_g_of (mt4 (List.mem_of_getElem? (i := 17) (by decide +kernel))) rfl
set_option maxRecDepth 20000 in
theorem mm_34 : (.selects "DocumentFileModel" ⟨"DocumentFileModel", "sameSets", "(III)Z"⟩ ⟨"DocumentFileModel", "sameSets", "(III)Z"⟩ : Cond) ∈ lw_g := lw_g_of (mt0 (List.mem_of_getElem? (i := 34) (by decide +kernel))) rfl
set_option maxRecDepth 20000 in
theorem mm_781 : (.code ⟨"DocumentFileModel", "firstSet", "(II)I"⟩ prog_10_method_26_code 4 (some .int) : Cond) ∈ lw_g := lw_g_of (mt4 (List.mem_of_getElem? (i := 14) rfl)) rfl
set_option maxRecDepth 20000 in
theorem mm_778 : (.methodLink "DocumentFileModel" 123 ⟨"DocumentFileModel", "firstSet", "(II)I"⟩ : Cond) ∈ lw_g := lw_g_of (mt4 (List.mem_of_getElem? (i := 11) (by decide +kernel))) rfl
set_option maxRecDepth 20000 in
theorem mm_780 : (.instanceMethod ⟨"DocumentFileModel", "firstSet", "(II)I"⟩ : Cond) ∈ lw_g := lw_g_of (mt4 (List.mem_of_getElem? (i := 13) (by decide +kernel))) rfl
set_option maxRecDepth 20000 in
theorem mm_33 : (.selects "DocumentFileModel" ⟨"DocumentFileModel", "firstSet", "(II)I"⟩ ⟨"DocumentFileModel", "firstSet", "(II)I"⟩ : Cond) ∈ lw_g := lw_g_of (mt0 (List.mem_of_getElem? (i := 33) (by decide +kernel))) rfl
set_option maxRecDepth 20000 in
theorem mm_793 : (.code ⟨"DocumentFileModel", "sameMarks", "(III)Z"⟩ prog_10_method_28_code 6 (some .boolean) : Cond) ∈ lw_g := lw_g_of (mt4 (List.mem_of_getElem? (i := 26) rfl)) rfl
set_option maxRecDepth 20000 in
theorem mm_790 : (.methodLink "DocumentFileModel" 120 ⟨"DocumentFileModel", "sameMarks", "(III)Z"⟩ : Cond) ∈ lw_g := lw_g_of (mt4 (List.mem_of_getElem? (i := 23) (by decide +kernel))) rfl
set_option maxRecDepth 20000 in
theorem mm_792 : (.instanceMethod ⟨"DocumentFileModel", "sameMarks", "(III)Z"⟩ : Cond) ∈ lw_g := lw_g_of (mt4 (List.mem_of_getElem? (i := 25) (by decide +kernel))) rfl
set_option maxRecDepth 20000 in
theorem mm_36 : (.selects "DocumentFileModel" ⟨"DocumentFileModel", "sameMarks", "(III)Z"⟩ ⟨"DocumentFileModel", "sameMarks", "(III)Z"⟩ : Cond) ∈ lw_g := lw_g_of (mt0 (List.mem_of_getElem? (i := 36) (by decide +kernel))) rfl
set_option maxRecDepth 20000 in
theorem mm_789 : (.code ⟨"DocumentFileModel", "firstMark", "(II)I"⟩ prog_10_method_27_code 4 (some .int) : Cond) ∈ lw_g := lw_g_of (mt4 (List.mem_of_getElem? (i := 22) rfl)) rfl
set_option maxRecDepth 20000 in
theorem mm_786 : (.methodLink "DocumentFileModel" 127 ⟨"DocumentFileModel", "firstMark", "(II)I"⟩ : Cond) ∈ lw_g := lw_g_of (mt4 (List.mem_of_getElem? (i := 19) (by decide +kernel))) rfl
set_option maxRecDepth 20000 in
theorem mm_788 : (.instanceMethod ⟨"DocumentFileModel", "firstMark", "(II)I"⟩ : Cond) ∈ lw_g := lw_g_of (mt4 (List.mem_of_getElem? (i := 21) (by decide +kernel))) rfl
set_option maxRecDepth 20000 in
theorem mm_35 : (.selects "DocumentFileModel" ⟨"DocumentFileModel", "firstMark", "(II)I"⟩ ⟨"DocumentFileModel", "firstMark", "(II)I"⟩ : Cond) ∈ lw_g := lw_g_of (mt0 (List.mem_of_getElem? (i := 35) (by decide +kernel))) rfl
set_option maxRecDepth 20000 in
theorem mm_584 : (.fieldLink "DocumentFileModel" 7 "DocumentFileModel" "file" "[B" : Cond) ∈ lw_g := lw_g_of (mt3 (List.mem_of_getElem? (i := 57) (by decide +kernel))) rfl
set_option maxRecDepth 20000 in
theorem mm_761 : (.code ⟨"DocumentFileModel", "octetOut", "(I)V"⟩ prog_10_method_30_code 2 none : Cond) ∈ lw_g := lw_g_of (mt3 (List.mem_of_getElem? (i := 234) rfl)) rfl
set_option maxRecDepth 20000 in
theorem mm_758 : (.methodLink "DocumentFileModel" 130 ⟨"DocumentFileModel", "octetOut", "(I)V"⟩ : Cond) ∈ lw_g := lw_g_of (mt3 (List.mem_of_getElem? (i := 231) (by decide +kernel))) rfl
set_option maxRecDepth 20000 in
theorem mm_760 : (.instanceMethod ⟨"DocumentFileModel", "octetOut", "(I)V"⟩ : Cond) ∈ lw_g := lw_g_of (mt3 (List.mem_of_getElem? (i := 233) (by decide +kernel))) rfl
set_option maxRecDepth 20000 in
theorem mm_28 : (.selects "DocumentFileModel" ⟨"DocumentFileModel", "octetOut", "(I)V"⟩ ⟨"DocumentFileModel", "octetOut", "(I)V"⟩ : Cond) ∈ lw_g := lw_g_of (mt0 (List.mem_of_getElem? (i := 28) (by decide +kernel))) rfl
set_option maxRecDepth 20000 in
theorem mm_765 : (.code ⟨"DocumentFileModel", "number", "(I)V"⟩ prog_10_method_31_code 2 none : Cond) ∈ lw_g := lw_g_of (mt3 (List.mem_of_getElem? (i := 238) rfl)) rfl
set_option maxRecDepth 20000 in
theorem mm_762 : (.methodLink "DocumentFileModel" 133 ⟨"DocumentFileModel", "number", "(I)V"⟩ : Cond) ∈ lw_g := lw_g_of (mt3 (List.mem_of_getElem? (i := 235) (by decide +kernel))) rfl
set_option maxRecDepth 20000 in
theorem mm_764 : (.instanceMethod ⟨"DocumentFileModel", "number", "(I)V"⟩ : Cond) ∈ lw_g := lw_g_of (mt3 (List.mem_of_getElem? (i := 237) (by decide +kernel))) rfl
set_option maxRecDepth 20000 in
theorem mm_29 : (.selects "DocumentFileModel" ⟨"DocumentFileModel", "number", "(I)V"⟩ ⟨"DocumentFileModel", "number", "(I)V"⟩ : Cond) ∈ lw_g := lw_g_of (mt0 (List.mem_of_getElem? (i := 29) (by decide +kernel))) rfl
set_option maxRecDepth 20000 in
theorem mm_602 : (.fieldLink "DocumentFileModel" 63 "DocumentFileModel" "setNumber" "[I" : Cond) ∈ lw_g := lw_g_of (mt3 (List.mem_of_getElem? (i := 75) (by decide +kernel))) rfl
set_option maxRecDepth 20000 in
theorem mm_604 : (.fieldLink "DocumentFileModel" 139 "DocumentFileModel" "writtenSets" "I" : Cond) ∈ lw_g := lw_g_of (mt3 (List.mem_of_getElem? (i := 77) (by decide +kernel))) rfl
set_option maxRecDepth 20000 in
theorem mm_769 : (.code ⟨"DocumentFileModel", "properties", "(I)V"⟩ prog_10_method_32_code 4 none : Cond) ∈ lw_g := lw_g_of (mt4 (List.mem_of_getElem? (i := 2) rfl)) rfl
set_option maxRecDepth 20000 in
theorem mm_766 : (.methodLink "DocumentFileModel" 136 ⟨"DocumentFileModel", "properties", "(I)V"⟩ : Cond) ∈ lw_g := lw_g_of (mt3 (List.mem_of_getElem? (i := 239) (by decide +kernel))) rfl
set_option maxRecDepth 20000 in
theorem mm_768 : (.instanceMethod ⟨"DocumentFileModel", "properties", "(I)V"⟩ : Cond) ∈ lw_g := lw_g_of (mt4 (List.mem_of_getElem? (i := 1) (by decide +kernel))) rfl
set_option maxRecDepth 20000 in
theorem mm_30 : (.selects "DocumentFileModel" ⟨"DocumentFileModel", "properties", "(I)V"⟩ ⟨"DocumentFileModel", "properties", "(I)V"⟩ : Cond) ∈ lw_g := lw_g_of (mt0 (List.mem_of_getElem? (i := 30) (by decide +kernel))) rfl
set_option maxRecDepth 20000 in
theorem mm_603 : (.fieldLink "DocumentFileModel" 66 "DocumentFileModel" "markNumber" "[I" : Cond) ∈ lw_g := lw_g_of (mt3 (List.mem_of_getElem? (i := 76) (by decide +kernel))) rfl
set_option maxRecDepth 20000 in
theorem mm_605 : (.fieldLink "DocumentFileModel" 146 "DocumentFileModel" "writtenMarks" "I" : Cond) ∈ lw_g := lw_g_of (mt3 (List.mem_of_getElem? (i := 78) (by decide +kernel))) rfl
set_option maxRecDepth 20000 in
theorem mm_797 : (.code ⟨"DocumentFileModel", "setOut", "(II)V"⟩ prog_10_method_33_code 4 none : Cond) ∈ lw_g := lw_g_of (mt4 (List.mem_of_getElem? (i := 30) rfl)) rfl
set_option maxRecDepth 20000 in
theorem mm_794 : (.methodLink "DocumentFileModel" 142 ⟨"DocumentFileModel", "setOut", "(II)V"⟩ : Cond) ∈ lw_g := lw_g_of (mt4 (List.mem_of_getElem? (i := 27) (by decide +kernel))) rfl
set_option maxRecDepth 20000 in
theorem mm_796 : (.instanceMethod ⟨"DocumentFileModel", "setOut", "(II)V"⟩ : Cond) ∈ lw_g := lw_g_of (mt4 (List.mem_of_getElem? (i := 29) (by decide +kernel))) rfl
set_option maxRecDepth 20000 in
theorem mm_37 : (.selects "DocumentFileModel" ⟨"DocumentFileModel", "setOut", "(II)V"⟩ ⟨"DocumentFileModel", "setOut", "(II)V"⟩ : Cond) ∈ lw_g := lw_g_of (mt0 (List.mem_of_getElem? (i := 37) (by decide +kernel))) rfl
set_option maxRecDepth 20000 in
theorem mm_777 : (.code ⟨"DocumentFileModel", "sameRuns", "(III)Z"⟩ prog_10_method_29_code 6 (some .boolean) : Cond) ∈ lw_g := lw_g_of (mt4 (List.mem_of_getElem? (i := 10) rfl)) rfl
set_option maxRecDepth 20000 in
theorem mm_774 : (.methodLink "DocumentFileModel" 149 ⟨"DocumentFileModel", "sameRuns", "(III)Z"⟩ : Cond) ∈ lw_g := lw_g_of (mt4 (List.mem_of_getElem? (i := 7) (by decide +kernel))) rfl
set_option maxRecDepth 20000 in
theorem mm_776 : (.instanceMethod ⟨"DocumentFileModel", "sameRuns", "(III)Z"⟩ : Cond) ∈ lw_g := lw_g_of (mt4 (List.mem_of_getElem? (i := 9) (by decide +kernel))) rfl
set_option maxRecDepth 20000 in
theorem mm_32 : (.selects "DocumentFileModel" ⟨"DocumentFileModel", "sameRuns", "(III)Z"⟩ ⟨"DocumentFileModel", "sameRuns", "(III)Z"⟩ : Cond) ∈ lw_g := lw_g_of (mt0 (List.mem_of_getElem? (i := 32) (by decide +kernel))) rfl
set_option maxRecDepth 20000 in
theorem mm_773 : (.code ⟨"DocumentFileModel", "joined", "(I)I"⟩ prog_10_method_35_code 3 (some .int) : Cond) ∈ lw_g := lw_g_of (mt4 (List.mem_of_getElem? (i := 6) rfl)) rfl
set_option maxRecDepth 20000 in
theorem mm_770 : (.methodLink "DocumentFileModel" 152 ⟨"DocumentFileModel", "joined", "(I)I"⟩ : Cond) ∈ lw_g := lw_g_of (mt4 (List.mem_of_getElem? (i := 3) (by decide +kernel))) rfl
set_option maxRecDepth 20000 in
theorem mm_772 : (.instanceMethod ⟨"DocumentFileModel", "joined", "(I)I"⟩ : Cond) ∈ lw_g := lw_g_of (mt4 (List.mem_of_getElem? (i := 5) (by decide +kernel))) rfl
set_option maxRecDepth 20000 in
theorem mm_31 : (.selects "DocumentFileModel" ⟨"DocumentFileModel", "joined", "(I)I"⟩ ⟨"DocumentFileModel", "joined", "(I)I"⟩ : Cond) ∈ lw_g := lw_g_of (mt0 (List.mem_of_getElem? (i := 31) (by decide +kernel))) rfl
set_option maxRecDepth 20000 in
theorem mm_801 : (.code ⟨"DocumentFileModel", "markOut", "(I)V"⟩ prog_10_method_34_code 3 none : Cond) ∈ lw_g := lw_g_of (mt4 (List.mem_of_getElem? (i := 34) rfl)) rfl
set_option maxRecDepth 20000 in
theorem mm_798 : (.methodLink "DocumentFileModel" 155 ⟨"DocumentFileModel", "markOut", "(I)V"⟩ : Cond) ∈ lw_g := lw_g_of (mt4 (List.mem_of_getElem? (i := 31) (by decide +kernel))) rfl
set_option maxRecDepth 20000 in
theorem mm_800 : (.instanceMethod ⟨"DocumentFileModel", "markOut", "(I)V"⟩ : Cond) ∈ lw_g := lw_g_of (mt4 (List.mem_of_getElem? (i := 33) (by decide +kernel))) rfl
set_option maxRecDepth 20000 in
theorem mm_38 : (.selects "DocumentFileModel" ⟨"DocumentFileModel", "markOut", "(I)V"⟩ ⟨"DocumentFileModel", "markOut", "(I)V"⟩ : Cond) ∈ lw_g := lw_g_of (mt0 (List.mem_of_getElem? (i := 38) (by decide +kernel))) rfl
set_option maxRecDepth 20000 in
theorem mm_608 : (.fieldLink "DocumentFileModel" 158 "DocumentFileModel" "fault" "I" : Cond) ∈ lw_g := lw_g_of (mt3 (List.mem_of_getElem? (i := 81) (by decide +kernel))) rfl
set_option maxRecDepth 20000 in
theorem mm_606 : (.fieldLink "DocumentFileModel" 161 "DocumentFileModel" "at" "I" : Cond) ∈ lw_g := lw_g_of (mt3 (List.mem_of_getElem? (i := 79) (by decide +kernel))) rfl
set_option maxRecDepth 20000 in
theorem mm_607 : (.fieldLink "DocumentFileModel" 164 "DocumentFileModel" "item" "I" : Cond) ∈ lw_g := lw_g_of (mt3 (List.mem_of_getElem? (i := 80) (by decide +kernel))) rfl
set_option maxRecDepth 20000 in
theorem mm_813 : (.code ⟨"DocumentFileModel", "wrong", "(I)V"⟩ prog_10_method_37_code 2 none : Cond) ∈ lw_g := lw_g_of (mt4 (List.mem_of_getElem? (i := 46) rfl)) rfl
set_option maxRecDepth 20000 in
theorem mm_810 : (.methodLink "DocumentFileModel" 167 ⟨"DocumentFileModel", "wrong", "(I)V"⟩ : Cond) ∈ lw_g := lw_g_of (mt4 (List.mem_of_getElem? (i := 43) (by decide +kernel))) rfl
set_option maxRecDepth 20000 in
theorem mm_812 : (.instanceMethod ⟨"DocumentFileModel", "wrong", "(I)V"⟩ : Cond) ∈ lw_g := lw_g_of (mt4 (List.mem_of_getElem? (i := 45) (by decide +kernel))) rfl
set_option maxRecDepth 20000 in
theorem mm_40 : (.selects "DocumentFileModel" ⟨"DocumentFileModel", "wrong", "(I)V"⟩ ⟨"DocumentFileModel", "wrong", "(I)V"⟩ : Cond) ∈ lw_g := lw_g_of (mt0 (List.mem_of_getElem? (i := 40) (by decide +kernel))) rfl
set_option maxRecDepth 20000 in
theorem mm_821 : (.code ⟨"DocumentFileModel", "readNumber", "(I)I"⟩ prog_10_method_38_code 5 (some .int) : Cond) ∈ lw_g := lw_g_of (mt4 (List.mem_of_getElem? (i := 54) rfl)) rfl
set_option maxRecDepth 20000 in
theorem mm_818 : (.methodLink "DocumentFileModel" 170 ⟨"DocumentFileModel", "readNumber", "(I)I"⟩ : Cond) ∈ lw_g := lw_g_of (mt4 (List.mem_of_getElem? (i := 51) (by decide +kernel))) rfl
set_option maxRecDepth 20000 in
theorem mm_820 : (.instanceMethod ⟨"DocumentFileModel", "readNumber", "(I)I"⟩ : Cond) ∈ lw_g := lw_g_of (mt4 (List.mem_of_getElem? (i := 53) (by decide +kernel))) rfl
set_option maxRecDepth 20000 in
theorem mm_42 : (.selects "DocumentFileModel" ⟨"DocumentFileModel", "readNumber", "(I)I"⟩ ⟨"DocumentFileModel", "readNumber", "(I)I"⟩ : Cond) ∈ lw_g := lw_g_of (mt0 (List.mem_of_getElem? (i := 42) (by decide +kernel))) rfl
set_option maxRecDepth 20000 in
theorem mm_825 : (.code ⟨"DocumentFileModel", "readProperties", "(I)V"⟩ prog_10_method_40_code 6 none : Cond) ∈ lw_g := lw_g_of (mt4 (List.mem_of_getElem? (i := 58) rfl)) rfl
set_option maxRecDepth 20000 in
theorem mm_822 : (.methodLink "DocumentFileModel" 173 ⟨"DocumentFileModel", "readProperties", "(I)V"⟩ : Cond) ∈ lw_g := lw_g_of (mt4 (List.mem_of_getElem? (i := 55) (by decide +kernel))) rfl
set_option maxRecDepth 20000 in
theorem mm_824 : (.instanceMethod ⟨"DocumentFileModel", "readProperties", "(I)V"⟩ : Cond) ∈ lw_g := lw_g_of (mt4 (List.mem_of_getElem? (i := 57) (by decide +kernel))) rfl
set_option maxRecDepth 20000 in
theorem mm_43 : (.selects "DocumentFileModel" ⟨"DocumentFileModel", "readProperties", "(I)V"⟩ ⟨"DocumentFileModel", "readProperties", "(I)V"⟩ : Cond) ∈ lw_g := lw_g_of (mt0 (List.mem_of_getElem? (i := 43) (by decide +kernel))) rfl
set_option maxRecDepth 20000 in
theorem mm_833 : (.code ⟨"DocumentFileModel", "readSet", "(II)I"⟩ prog_10_method_42_code 6 (some .int) : Cond) ∈ lw_g := lw_g_of (mt4 (List.mem_of_getElem? (i := 66) rfl)) rfl
set_option maxRecDepth 20000 in
theorem mm_830 : (.methodLink "DocumentFileModel" 176 ⟨"DocumentFileModel", "readSet", "(II)I"⟩ : Cond) ∈ lw_g := lw_g_of (mt4 (List.mem_of_getElem? (i := 63) (by decide +kernel))) rfl
set_option maxRecDepth 20000 in
theorem mm_832 : (.instanceMethod ⟨"DocumentFileModel", "readSet", "(II)I"⟩ : Cond) ∈ lw_g := lw_g_of (mt4 (List.mem_of_getElem? (i := 65) (by decide +kernel))) rfl
set_option maxRecDepth 20000 in
theorem mm_45 : (.selects "DocumentFileModel" ⟨"DocumentFileModel", "readSet", "(II)I"⟩ ⟨"DocumentFileModel", "readSet", "(II)I"⟩ : Cond) ∈ lw_g := lw_g_of (mt0 (List.mem_of_getElem? (i := 45) (by decide +kernel))) rfl
set_option maxRecDepth 20000 in
theorem mm_837 : (.code ⟨"DocumentFileModel", "readMark", "(I)I"⟩ prog_10_method_43_code 5 (some .int) : Cond) ∈ lw_g := lw_g_of (mt4 (List.mem_of_getElem? (i := 70) rfl)) rfl
set_option maxRecDepth 20000 in
theorem mm_834 : (.methodLink "DocumentFileModel" 179 ⟨"DocumentFileModel", "readMark", "(I)I"⟩ : Cond) ∈ lw_g := lw_g_of (mt4 (List.mem_of_getElem? (i := 67) (by decide +kernel))) rfl
set_option maxRecDepth 20000 in
theorem mm_836 : (.instanceMethod ⟨"DocumentFileModel", "readMark", "(I)I"⟩ : Cond) ∈ lw_g := lw_g_of (mt4 (List.mem_of_getElem? (i := 69) (by decide +kernel))) rfl
set_option maxRecDepth 20000 in
theorem mm_46 : (.selects "DocumentFileModel" ⟨"DocumentFileModel", "readMark", "(I)I"⟩ ⟨"DocumentFileModel", "readMark", "(I)I"⟩ : Cond) ∈ lw_g := lw_g_of (mt0 (List.mem_of_getElem? (i := 46) (by decide +kernel))) rfl
set_option maxRecDepth 20000 in
theorem mm_829 : (.code ⟨"DocumentFileModel", "readRun", "(II)V"⟩ prog_10_method_44_code 12 none : Cond) ∈ lw_g := lw_g_of (mt4 (List.mem_of_getElem? (i := 62) rfl)) rfl
set_option maxRecDepth 20000 in
theorem mm_826 : (.methodLink "DocumentFileModel" 188 ⟨"DocumentFileModel", "readRun", "(II)V"⟩ : Cond) ∈ lw_g := lw_g_of (mt4 (List.mem_of_getElem? (i := 59) (by decide +kernel))) rfl
set_option maxRecDepth 20000 in
theorem mm_828 : (.instanceMethod ⟨"DocumentFileModel", "readRun", "(II)V"⟩ : Cond) ∈ lw_g := lw_g_of (mt4 (List.mem_of_getElem? (i := 61) (by decide +kernel))) rfl
set_option maxRecDepth 20000 in
theorem mm_44 : (.selects "DocumentFileModel" ⟨"DocumentFileModel", "readRun", "(II)V"⟩ ⟨"DocumentFileModel", "readRun", "(II)V"⟩ : Cond) ∈ lw_g := lw_g_of (mt0 (List.mem_of_getElem? (i := 44) (by decide +kernel))) rfl
set_option maxRecDepth 20000 in
theorem mm_817 : (.code ⟨"DocumentFileModel", "readStyles", "(I)V"⟩ prog_10_method_41_code 6 none : Cond) ∈ lw_g := lw_g_of (mt4 (List.mem_of_getElem? (i := 50) rfl)) rfl
set_option maxRecDepth 20000 in
theorem mm_814 : (.methodLink "DocumentFileModel" 185 ⟨"DocumentFileModel", "readStyles", "(I)V"⟩ : Cond) ∈ lw_g := lw_g_of (mt4 (List.mem_of_getElem? (i := 47) (by decide +kernel))) rfl
set_option maxRecDepth 20000 in
theorem mm_816 : (.instanceMethod ⟨"DocumentFileModel", "readStyles", "(I)V"⟩ : Cond) ∈ lw_g := lw_g_of (mt4 (List.mem_of_getElem? (i := 49) (by decide +kernel))) rfl
set_option maxRecDepth 20000 in
theorem mm_41 : (.selects "DocumentFileModel" ⟨"DocumentFileModel", "readStyles", "(I)V"⟩ ⟨"DocumentFileModel", "readStyles", "(I)V"⟩ : Cond) ∈ lw_g := lw_g_of (mt0 (List.mem_of_getElem? (i := 41) (by decide +kernel))) rfl
set_option maxRecDepth 20000 in
theorem mm_809 : (.code ⟨"DocumentFileModel", "readByte", "(I)V"⟩ prog_10_method_39_code 2 none : Cond) ∈ lw_g := lw_g_of (mt4 (List.mem_of_getElem? (i := 42) rfl)) rfl
set_option maxRecDepth 20000 in
theorem mm_806 : (.methodLink "DocumentFileModel" 182 ⟨"DocumentFileModel", "readByte", "(I)V"⟩ : Cond) ∈ lw_g := lw_g_of (mt4 (List.mem_of_getElem? (i := 39) (by decide +kernel))) rfl
set_option maxRecDepth 20000 in
theorem mm_808 : (.instanceMethod ⟨"DocumentFileModel", "readByte", "(I)V"⟩ : Cond) ∈ lw_g := lw_g_of (mt4 (List.mem_of_getElem? (i := 41) (by decide +kernel))) rfl
set_option maxRecDepth 20000 in
theorem mm_39 : (.selects "DocumentFileModel" ⟨"DocumentFileModel", "readByte", "(I)V"⟩ ⟨"DocumentFileModel", "readByte", "(I)V"⟩ : Cond) ∈ lw_g := lw_g_of (mt0 (List.mem_of_getElem? (i := 39) (by decide +kernel))) rfl
theorem g_D_45 : GoodIn lw_g (wsV R_D 45 R_U y_U_empty w_U_empty) := big_V mm_234 mm_235 mm_236 mm_52 mm_237
theorem g_D_44 : GoodIn lw_g (wsV R_D 44 R_M y_M_empty w_M_empty) := big_V mm_230 mm_231 mm_232 mm_51 mm_233
theorem g_D_41 : GoodIn lw_g (wsV R_D 41 R_P y_P_empty w_P_empty) := big_V mm_226 mm_227 mm_228 mm_50 mm_229
theorem g_F_42 : GoodIn lw_g (wsV R_F 42 R_D y_D_empty w_D_empty) := big_V mm_222 mm_223 mm_224 mm_49 mm_225
theorem g_D_46 : GoodIn lw_g (wsV R_D 46 R_P y_P_add w_P_add) := big_V mm_250 mm_251 mm_252 mm_50 mm_253
theorem g_F_55 : GoodIn lw_g (wsV R_F 55 R_D y_D_addStyle w_D_addStyle) := big_V mm_246 mm_247 mm_248 mm_49 mm_249
theorem g_F_49 : GoodIn lw_g (wsV R_F 49 R_P y_P_has w_P_has) := big_V mm_242 mm_243 mm_244 mm_50 mm_245
theorem g_F_62 : GoodIn lw_g (wsV R_F 62 R_P y_P_add w_P_add) := big_V mm_258 mm_251 mm_252 mm_50 mm_253
theorem g_P_27 : GoodIn lw_g (va_wsS R_P 27 y_P_mostOf w_P_mostOf) := big_S mm_268 mm_269 mm_50 mm_270
theorem g_P_23 : GoodIn lw_g (wsV R_P 23 R_P y_P_has w_P_has) := big_V mm_267 mm_243 mm_244 mm_50 mm_245
theorem g_F_66 : GoodIn lw_g (wsV R_F 66 R_P y_P_put w_P_put) := big_V mm_263 mm_264 mm_265 mm_50 mm_266
theorem g_M_19 : GoodIn lw_g (wsV R_M 19 R_M y_M_isFull w_M_isFull) := big_V mm_280 mm_281 mm_282 mm_51 mm_283
theorem g_F_74 : GoodIn lw_g (wsV R_F 74 R_M y_M_add w_M_add) := big_V mm_276 mm_277 mm_278 mm_51 mm_279
theorem g_F_148 : GoodIn lw_g (va_wsS R_F 148 y_U_isText w_U_isText) := big_S mm_294 mm_295 mm_52 mm_296
theorem g_F_97 : GoodIn lw_g (va_wsS R_F 97 y_F_byteOf w_F_byteOf) := big_S mm_291 mm_292 mm_48 mm_293
theorem g_F_105 : GoodIn lw_g (wsV R_F 105 R_U y_U_rows w_U_rows) := big_V mm_313 mm_314 mm_315 mm_52 mm_316
theorem g_F_101 : GoodIn lw_g (wsV R_F 101 R_U y_U_append w_U_append) := big_V mm_309 mm_310 mm_311 mm_52 mm_312
theorem g_F_93 : GoodIn lw_g (wsV R_F 93 R_U y_U_begin w_U_begin) := big_V mm_305 mm_306 mm_307 mm_52 mm_308
theorem g_F_88 : GoodIn lw_g (wsV R_F 88 R_U y_U_takes w_U_takes) := big_V mm_301 mm_302 mm_303 mm_52 mm_304
theorem g_F_83 : GoodIn lw_g (wsV R_F 83 R_M y_M_has w_M_has) := big_V mm_297 mm_298 mm_299 mm_51 mm_300
theorem g_F_79 : GoodIn lw_g (va_wsS R_F 79 y_F_textLength w_F_textLength) := big_S mm_288 mm_289 mm_48 mm_290
theorem g_F_108 : GoodIn lw_g (wsV R_F 108 R_P y_P_rows w_P_rows) := big_V mm_325 mm_326 mm_327 mm_50 mm_328
theorem g_F_109 : GoodIn lw_g (wsV R_F 109 R_M y_M_rows w_M_rows) := big_V mm_329 mm_330 mm_331 mm_51 mm_332
theorem g_F_110 : GoodIn lw_g (wsV R_F 110 R_U y_U_length w_U_length) := big_V mm_333 mm_334 mm_335 mm_52 mm_336
theorem g_F_113 : GoodIn lw_g (wsV R_F 113 R_O y_O_size w_O_size) := big_V mm_337 mm_338 mm_339 mm_53 mm_340
theorem g_D_50 : GoodIn lw_g (wsV R_D 50 R_P y_P_has w_P_has) := big_V mm_349 mm_243 mm_244 mm_50 mm_245
theorem g_F_116 : GoodIn lw_g (wsV R_F 116 R_D y_D_baseOf w_D_baseOf) := big_V mm_345 mm_346 mm_347 mm_49 mm_348
theorem g_F_119 : GoodIn lw_g (wsV R_F 119 R_P y_P_get w_P_get) := big_V mm_354 mm_355 mm_356 mm_50 mm_357
theorem g_M_23 : GoodIn lw_g (wsV R_M 23 R_M y_M_has w_M_has) := big_V mm_366 mm_298 mm_299 mm_51 mm_300
theorem g_F_123 : GoodIn lw_g (wsV R_F 123 R_M y_M_part w_M_part) := big_V mm_362 mm_363 mm_364 mm_51 mm_365
theorem g_F_126 : GoodIn lw_g (wsV R_F 126 R_U y_U_part w_U_part) := big_V mm_371 mm_372 mm_373 mm_52 mm_374
theorem g_F_127 : GoodIn lw_g (wsV R_F 127 R_U y_U_character w_U_character) := big_V mm_379 mm_380 mm_381 mm_52 mm_382
theorem g_W_38 : GoodIn lw_g (wsV R_W 38 R_O y_O_append w_O_append) := big_V mm_397 mm_398 mm_399 mm_53 mm_400
theorem g_W_49 : GoodIn lw_g (wsV R_W 49 R_W y_W_writeNumber w_W_writeNumber) := big_V mm_406 mm_408 mm_1 mm_55 mm_409
theorem g_W_90 : GoodIn lw_g (wsV R_W 90 R_P y_P_get w_P_get) := big_V mm_419 mm_355 mm_356 mm_50 mm_357
theorem g_W_87 : GoodIn lw_g (wsV R_W 87 R_P y_P_held w_P_held) := big_V mm_415 mm_416 mm_417 mm_50 mm_418
theorem g_W_83 : GoodIn lw_g (wsV R_W 83 R_W y_W_writeProperties w_W_writeProperties) := big_V mm_411 mm_413 mm_2 mm_55 mm_414
theorem g_W_79 : GoodIn lw_g (wsV R_W 79 R_D y_D_baseOf w_D_baseOf) := big_V mm_410 mm_346 mm_347 mm_49 mm_348
theorem g_W_76 : GoodIn lw_g (wsV R_W 76 R_P y_P_rows w_P_rows) := big_V mm_405 mm_326 mm_327 mm_50 mm_328
theorem g_D_62 : GoodIn lw_g (wsV R_D 62 R_P y_P_same w_P_same) := big_V mm_430 mm_431 mm_432 mm_50 mm_433
theorem g_D_58 : GoodIn lw_g (wsV R_D 58 R_M y_M_part w_M_part) := big_V mm_438 mm_363 mm_364 mm_51 mm_365
theorem g_D_66 : GoodIn lw_g (wsV R_D 66 R_D y_D_sameMarks w_D_sameMarks) := big_V mm_434 mm_435 mm_436 mm_49 mm_437
theorem g_D_69 : GoodIn lw_g (wsV R_D 69 R_U y_U_part w_U_part) := big_V mm_429 mm_372 mm_373 mm_52 mm_374
theorem g_W_65 : GoodIn lw_g (wsV R_W 65 R_D y_D_goesOn w_D_goesOn) := big_V mm_425 mm_426 mm_427 mm_49 mm_428
theorem g_W_59 : GoodIn lw_g (wsV R_W 59 R_U y_U_rows w_U_rows) := big_V mm_424 mm_314 mm_315 mm_52 mm_316
theorem g_W_117 : GoodIn lw_g (wsV R_W 117 R_P y_P_same w_P_same) := big_V mm_452 mm_431 mm_432 mm_50 mm_433
theorem g_W_111 : GoodIn lw_g (wsV R_W 111 R_W y_W_numberOfSet w_W_numberOfSet) := big_V mm_448 mm_450 mm_6 mm_55 mm_451
theorem g_W_131 : GoodIn lw_g (wsV R_W 131 R_D y_D_sameMarks w_D_sameMarks) := big_V mm_461 mm_435 mm_436 mm_49 mm_437
theorem g_W_97 : GoodIn lw_g (wsV R_W 97 R_W y_W_writeSet w_W_writeSet) := big_V mm_444 mm_446 mm_5 mm_55 mm_447
theorem g_W_128 : GoodIn lw_g (wsV R_W 128 R_M y_M_part w_M_part) := big_V mm_462 mm_363 mm_364 mm_51 mm_365
theorem g_W_121 : GoodIn lw_g (wsV R_W 121 R_W y_W_numberOfMark w_W_numberOfMark) := big_V mm_457 mm_459 mm_8 mm_55 mm_460
theorem g_W_94 : GoodIn lw_g (wsV R_W 94 R_U y_U_part w_U_part) := big_V mm_443 mm_372 mm_373 mm_52 mm_374
theorem g_W_108 : GoodIn lw_g (wsV R_W 108 R_U y_U_character w_U_character) := big_V mm_467 mm_380 mm_381 mm_52 mm_382
theorem g_W_104 : GoodIn lw_g (wsV R_W 104 R_W y_W_joinedLength w_W_joinedLength) := big_V mm_463 mm_465 mm_9 mm_55 mm_466
theorem g_W_101 : GoodIn lw_g (wsV R_W 101 R_W y_W_writeMark w_W_writeMark) := big_V mm_453 mm_455 mm_7 mm_55 mm_456
theorem g_W_68 : GoodIn lw_g (wsV R_W 68 R_W y_W_writeRun w_W_writeRun) := big_V mm_439 mm_441 mm_4 mm_55 mm_442
theorem g_W_45 : GoodIn lw_g (wsV R_W 45 R_W y_W_joinedRuns w_W_joinedRuns) := big_V mm_420 mm_422 mm_3 mm_55 mm_423
theorem g_W_41 : GoodIn lw_g (wsV R_W 41 R_W y_W_writeStyles w_W_writeStyles) := big_V mm_401 mm_403 mm_0 mm_55 mm_404
theorem g_W_29 : GoodIn lw_g (wsV R_W 29 R_O y_O_keep w_O_keep) := big_V mm_391 mm_392 mm_393 mm_53 mm_394
theorem g_F_130 : GoodIn lw_g (wsV R_F 130 R_W y_W_write w_W_write) := big_V mm_387 mm_388 mm_389 mm_55 mm_390
theorem g_R_54 : GoodIn lw_g (wsV R_R 54 R_R y_R_refuse w_R_refuse) := big_V mm_490 mm_492 mm_12 mm_54 mm_493
theorem g_R_62 : GoodIn lw_g (wsV R_R 62 R_O y_O_get w_O_get) := big_V mm_486 mm_487 mm_488 mm_53 mm_489
theorem g_R_41 : GoodIn lw_g (wsV R_R 41 R_R y_R_failed w_R_failed) := big_V mm_482 mm_484 mm_11 mm_54 mm_485
theorem g_D_54 : GoodIn lw_g (wsV R_D 54 R_D y_D_baseOf w_D_baseOf) := big_V mm_512 mm_346 mm_347 mm_49 mm_348
theorem g_R_85 : GoodIn lw_g (wsV R_R 85 R_D y_D_rebase w_D_rebase) := big_V mm_508 mm_509 mm_510 mm_49 mm_511
theorem g_R_37 : GoodIn lw_g (wsV R_R 37 R_R y_R_readNumber w_R_readNumber) := big_V mm_498 mm_500 mm_14 mm_54 mm_501
theorem g_R_80 : GoodIn lw_g (wsV R_R 80 R_P y_P_rows w_P_rows) := big_V mm_507 mm_326 mm_327 mm_50 mm_328
theorem g_R_92 : GoodIn lw_g (wsV R_R 92 R_P y_P_put w_P_put) := big_V mm_518 mm_264 mm_265 mm_50 mm_266
theorem g_R_89 : GoodIn lw_g (va_wsS R_R 89 y_P_mostOf w_P_mostOf) := big_S mm_517 mm_269 mm_50 mm_270
theorem g_R_76 : GoodIn lw_g (wsV R_R 76 R_R y_R_readProperties w_R_readProperties) := big_V mm_513 mm_515 mm_16 mm_54 mm_516
theorem g_R_68 : GoodIn lw_g (wsV R_R 68 R_R y_R_readBase w_R_readBase) := big_V mm_503 mm_505 mm_15 mm_54 mm_506
theorem g_R_65 : GoodIn lw_g (wsV R_R 65 R_D y_D_addStyle w_D_addStyle) := big_V mm_502 mm_247 mm_248 mm_49 mm_249
theorem g_P_31 : GoodIn lw_g (wsV R_P 31 R_P y_P_same w_P_same) := big_V mm_532 mm_431 mm_432 mm_50 mm_433
theorem g_R_128 : GoodIn lw_g (wsV R_R 128 R_P y_P_repeats w_P_repeats) := big_V mm_528 mm_529 mm_530 mm_50 mm_531
theorem g_R_125 : GoodIn lw_g (wsV R_R 125 R_P y_P_add w_P_add) := big_V mm_527 mm_251 mm_252 mm_50 mm_253
theorem g_R_144 : GoodIn lw_g (wsV R_R 144 R_D y_D_repeatsMark w_D_repeatsMark) := big_V mm_540 mm_541 mm_542 mm_49 mm_543
theorem g_R_141 : GoodIn lw_g (wsV R_R 141 R_M y_M_add w_M_add) := big_V mm_539 mm_277 mm_278 mm_51 mm_279
theorem g_R_96 : GoodIn lw_g (wsV R_R 96 R_R y_R_readSet w_R_readSet) := big_V mm_523 mm_525 mm_18 mm_54 mm_526
theorem g_R_138 : GoodIn lw_g (wsV R_R 138 R_M y_M_isFull w_M_isFull) := big_V mm_538 mm_281 mm_282 mm_51 mm_283
theorem g_R_135 : GoodIn lw_g (wsV R_R 135 R_M y_M_rows w_M_rows) := big_V mm_537 mm_330 mm_331 mm_51 mm_332
theorem g_R_157 : GoodIn lw_g (va_wsS R_R 157 y_U_isText w_U_isText) := big_S mm_555 mm_295 mm_52 mm_296
theorem g_R_153 : GoodIn lw_g (wsV R_R 153 R_U y_U_append w_U_append) := big_V mm_556 mm_310 mm_311 mm_52 mm_312
theorem g_R_150 : GoodIn lw_g (wsV R_R 150 R_R y_R_readCharacter w_R_readCharacter) := big_V mm_551 mm_553 mm_21 mm_54 mm_554
theorem g_R_147 : GoodIn lw_g (wsV R_R 147 R_U y_U_length w_U_length) := big_V mm_550 mm_334 mm_335 mm_52 mm_336
theorem g_R_118 : GoodIn lw_g (wsV R_R 118 R_R y_R_readCharacters w_R_readCharacters) := big_V mm_546 mm_548 mm_20 mm_54 mm_549
theorem g_R_114 : GoodIn lw_g (wsV R_R 114 R_D y_D_goesOn w_D_goesOn) := big_V mm_545 mm_426 mm_427 mm_49 mm_428
theorem g_R_108 : GoodIn lw_g (wsV R_R 108 R_U y_U_begin w_U_begin) := big_V mm_544 mm_306 mm_307 mm_52 mm_308
theorem g_R_100 : GoodIn lw_g (wsV R_R 100 R_R y_R_readMark w_R_readMark) := big_V mm_533 mm_535 mm_19 mm_54 mm_536
theorem g_R_48 : GoodIn lw_g (wsV R_R 48 R_O y_O_size w_O_size) := big_V mm_557 mm_338 mm_339 mm_53 mm_340
theorem g_R_45 : GoodIn lw_g (wsV R_R 45 R_R y_R_readRun w_R_readRun) := big_V mm_519 mm_521 mm_17 mm_54 mm_522
theorem g_R_33 : GoodIn lw_g (wsV R_R 33 R_R y_R_readStyles w_R_readStyles) := big_V mm_494 mm_496 mm_13 mm_54 mm_497
theorem g_R_30 : GoodIn lw_g (wsV R_R 30 R_R y_R_readHead w_R_readHead) := big_V mm_477 mm_479 mm_10 mm_54 mm_480
theorem g_R_25 : GoodIn lw_g (wsV R_R 25 R_D y_D_empty w_D_empty) := big_V mm_476 mm_223 mm_224 mm_49 mm_225
theorem g_F_134 : GoodIn lw_g (wsV R_F 134 R_R y_R_read w_R_read) := big_V mm_472 mm_473 mm_474 mm_54 mm_475
theorem g_F_138 : GoodIn lw_g (wsV R_F 138 R_O y_O_get w_O_get) := big_V mm_562 mm_487 mm_488 mm_53 mm_489
theorem g_F_142 : GoodIn lw_g (wsV R_F 142 R_O y_O_put w_O_put) := big_V mm_568 mm_569 mm_570 mm_53 mm_571
theorem g_F_140 : GoodIn lw_g (wsV R_F 140 R_O y_O_append w_O_append) := big_V mm_567 mm_398 mm_399 mm_53 mm_400
theorem g_F_145 : GoodIn lw_g (wsV R_F 145 R_O y_O_keep w_O_keep) := big_V mm_576 mm_392 mm_393 mm_53 mm_394
theorem g_Z_70 : GoodIn lw_g (va_wsS R_Z 70 y_Z_in w_Z_in) := big_S mm_676 mm_677 mm_56 mm_678
theorem g_Z_78 : GoodIn lw_g (va_wsS R_Z 78 y_Z_row w_Z_row) := big_S mm_683 mm_684 mm_56 mm_685
theorem g_Z_82 : GoodIn lw_g (wsV R_Z 82 R_Z y_Z_empty w_Z_empty) := big_V mm_668 mm_670 mm_22 mm_56 mm_671
theorem g_Z_86 : GoodIn lw_g (wsV R_Z 86 R_Z y_Z_bare w_Z_bare) := big_V mm_679 mm_681 mm_23 mm_56 mm_682
theorem g_Z_90 : GoodIn lw_g (wsV R_Z 90 R_Z y_Z_isSet w_Z_isSet) := big_V mm_698 mm_700 mm_25 mm_56 mm_701
theorem g_Z_98 : GoodIn lw_g (va_wsS R_Z 98 y_Z_most w_Z_most) := big_S mm_702 mm_703 mm_56 mm_704
theorem g_Z_94 : GoodIn lw_g (wsV R_Z 94 R_Z y_Z_isRow w_Z_isRow) := big_V mm_694 mm_696 mm_24 mm_56 mm_697
theorem g_Z_110 : GoodIn lw_g (wsV R_Z 110 R_Z y_Z_add w_Z_add) := big_V mm_722 mm_724 mm_27 mm_56 mm_725
theorem g_Z_107 : GoodIn lw_g (va_wsS R_Z 107 y_Z_isText w_Z_isText) := big_S mm_719 mm_720 mm_56 mm_721
theorem g_Z_104 : GoodIn lw_g (wsV R_Z 104 R_Z y_Z_isMark w_Z_isMark) := big_V mm_715 mm_717 mm_26 mm_56 mm_718
theorem g_Z_117 : GoodIn lw_g (wsV R_Z 117 R_Z y_Z_sameSets w_Z_sameSets) := big_V mm_782 mm_784 mm_34 mm_56 mm_785
theorem g_Z_123 : GoodIn lw_g (wsV R_Z 123 R_Z y_Z_firstSet w_Z_firstSet) := big_V mm_778 mm_780 mm_33 mm_56 mm_781
theorem g_Z_120 : GoodIn lw_g (wsV R_Z 120 R_Z y_Z_sameMarks w_Z_sameMarks) := big_V mm_790 mm_792 mm_36 mm_56 mm_793
theorem g_Z_127 : GoodIn lw_g (wsV R_Z 127 R_Z y_Z_firstMark w_Z_firstMark) := big_V mm_786 mm_788 mm_35 mm_56 mm_789
theorem g_Z_130 : GoodIn lw_g (wsV R_Z 130 R_Z y_Z_octetOut w_Z_octetOut) := big_V mm_758 mm_760 mm_28 mm_56 mm_761
theorem g_Z_133 : GoodIn lw_g (wsV R_Z 133 R_Z y_Z_number w_Z_number) := big_V mm_762 mm_764 mm_29 mm_56 mm_765
theorem g_Z_136 : GoodIn lw_g (wsV R_Z 136 R_Z y_Z_properties w_Z_properties) := big_V mm_766 mm_768 mm_30 mm_56 mm_769
theorem g_Z_142 : GoodIn lw_g (wsV R_Z 142 R_Z y_Z_setOut w_Z_setOut) := big_V mm_794 mm_796 mm_37 mm_56 mm_797
theorem g_Z_149 : GoodIn lw_g (wsV R_Z 149 R_Z y_Z_sameRuns w_Z_sameRuns) := big_V mm_774 mm_776 mm_32 mm_56 mm_777
theorem g_Z_152 : GoodIn lw_g (wsV R_Z 152 R_Z y_Z_joined w_Z_joined) := big_V mm_770 mm_772 mm_31 mm_56 mm_773
theorem g_Z_155 : GoodIn lw_g (wsV R_Z 155 R_Z y_Z_markOut w_Z_markOut) := big_V mm_798 mm_800 mm_38 mm_56 mm_801
theorem g_Z_167 : GoodIn lw_g (wsV R_Z 167 R_Z y_Z_wrong w_Z_wrong) := big_V mm_810 mm_812 mm_40 mm_56 mm_813
theorem g_Z_170 : GoodIn lw_g (wsV R_Z 170 R_Z y_Z_readNumber w_Z_readNumber) := big_V mm_818 mm_820 mm_42 mm_56 mm_821
theorem g_Z_173 : GoodIn lw_g (wsV R_Z 173 R_Z y_Z_readProperties w_Z_readProperties) := big_V mm_822 mm_824 mm_43 mm_56 mm_825
theorem g_Z_176 : GoodIn lw_g (wsV R_Z 176 R_Z y_Z_readSet w_Z_readSet) := big_V mm_830 mm_832 mm_45 mm_56 mm_833
theorem g_Z_179 : GoodIn lw_g (wsV R_Z 179 R_Z y_Z_readMark w_Z_readMark) := big_V mm_834 mm_836 mm_46 mm_56 mm_837
theorem g_Z_188 : GoodIn lw_g (wsV R_Z 188 R_Z y_Z_readRun w_Z_readRun) := big_V mm_826 mm_828 mm_44 mm_56 mm_829
theorem g_Z_185 : GoodIn lw_g (wsV R_Z 185 R_Z y_Z_readStyles w_Z_readStyles) := big_V mm_814 mm_816 mm_41 mm_56 mm_817
theorem g_Z_182 : GoodIn lw_g (wsV R_Z 182 R_Z y_Z_readByte w_Z_readByte) := big_V mm_806 mm_808 mm_39 mm_56 mm_809
