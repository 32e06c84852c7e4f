/-! own names of the program; every method's words are the tables' own, all of them -/
/-- the words that a call may take along -/
def lw_g : List Cond := lw_tbl.filter goodWord
theorem lw_good : GoodIn lw_g lw_g := fun w h => ⟨h, good_of_word (List.mem_filter.mp h).2⟩
theorem lw_g_of {w : Cond} (h : w ∈ lw_tbl) (hg : goodWord w = true) : w ∈ lw_g := List.mem_filter.mpr ⟨h, hg⟩
theorem mt0 {w : Cond} (h : w ∈ k2_sels lw_privs) : w ∈ lw_tbl := List.mem_append_left _ h
theorem mt1 {w : Cond} (h : w ∈ tables_1_1) : w ∈ lw_tbl := List.mem_append_right _ (List.mem_append_left _ h)
theorem mt2 {w : Cond} (h : w ∈ tables_1_2) : w ∈ lw_tbl := List.mem_append_right _ (List.mem_append_right _ (List.mem_append_left _ h))
theorem mt3 {w : Cond} (h : w ∈ tables_1_3) : w ∈ lw_tbl := List.mem_append_right _ (List.mem_append_right _ (List.mem_append_right _ (List.mem_append_left _ h)))
theorem mt4 {w : Cond} (h : w ∈ tables_1_4) : w ∈ lw_tbl := List.mem_append_right _ (List.mem_append_right _ (List.mem_append_right _ (List.mem_append_right _ h)))
theorem big_V {own C : String} {idx n : Nat} {y : MethodName} {cc : ByteArray} {rt : Option FieldType} (h1 : (Cond.methodLink own idx y) ∈ lw_g) (h2 : (Cond.instanceMethod y) ∈ lw_g) (h3 : (Cond.selects C y y) ∈ lw_g) (h4 : (Cond.initialized C) ∈ lw_g) (h5 : (Cond.code y cc n rt) ∈ lw_g) : GoodIn lw_g (wsV own idx C y (Cond.code y cc n rt ::  lw_g)) := by
  intro w hw
  refine lw_good w ?_
  unfold wsV at hw
  rcases List.mem_append.mp hw with h | h
  · simp only [List.mem_cons, List.not_mem_nil, or_false] at h
    rcases h with rfl | rfl | rfl | rfl <;> assumption
  · rcases List.mem_cons.mp h with rfl | h
    · exact h5
    · exact h
theorem big_S {own : String} {idx n : Nat} {y : MethodName} {cc : ByteArray} {rt : Option FieldType} (h1 : (Cond.methodLink own idx y) ∈ lw_g) (h2 : (Cond.static y) ∈ lw_g) (h4 : (Cond.initialized y.cls) ∈ lw_g) (h5 : (Cond.code y cc n rt) ∈ lw_g) : GoodIn lw_g (va_wsS own idx y (Cond.code y cc n rt ::  lw_g)) := by
  intro w hw
  refine lw_good w ?_
  unfold va_wsS at hw
  rcases List.mem_append.mp hw with h | h
  · simp only [List.mem_cons, List.not_mem_nil, or_false] at h
    rcases h with rfl | rfl | rfl <;> assumption
  · rcases List.mem_cons.mp h with rfl | h
    · exact h5
    · exact h
theorem big_I {n : Nat} {y : MethodName} {cc : ByteArray} {rt : Option FieldType} (h5 : (Cond.code y cc n rt) ∈ lw_g) : GoodIn lw_g (Cond.code y cc n rt :: lw_g) := by
  intro w hw
  refine lw_good w ?_
  rcases List.mem_cons.mp hw with rfl | h
  · exact h5
  · exact h
abbrev R_F : String := "DocumentFile"
def T_F : u_T := fun k => match k with
  | 0 => ("DocumentFile", "document", "LDocumentFile$Document;", false)
  | 1 => ("DocumentFile", "spare", "LDocumentFile$Document;", false)
  | 2 => ("DocumentFile", "file", "LDocumentFile$Octets;", true)
  | 3 => ("DocumentFile", "reader", "LDocumentFile$Reader;", true)
  | _ => ("DocumentFile", "writer", "LDocumentFile$Writer;", true)
def ty_F : Nat → FieldType := fun k => match k with
  | 0 => .object "DocumentFile$Document"
  | 1 => .object "DocumentFile$Document"
  | 2 => .object "DocumentFile$Octets"
  | 3 => .object "DocumentFile$Reader"
  | _ => .object "DocumentFile$Writer"
theorem nmok_F : ∀ a, a < 5 → ∀ b, b < 5 → a ≠ b → (T_F a).2.1 ≠ (T_F b).2.1 := by decide +kernel
theorem tyok_F : ∀ k, k < 5 → parseFieldDescriptor (T_F k).2.2.1 = some (ty_F k) := by decide +kernel
theorem in_F : ∀ w ∈ u_ws R_F T_F 5, w ∈ lw_g := by decide +kernel
abbrev R_D : String := "DocumentFile$Document"
def T_D : u_T := fun k => match k with
  | 0 => ("DocumentFile$Document", "styles", "LDocumentFile$PropertyRows;", true)
  | 1 => ("DocumentFile$Document", "sets", "LDocumentFile$PropertyRows;", true)
  | 2 => ("DocumentFile$Document", "marks", "LDocumentFile$Marks;", true)
  | 3 => ("DocumentFile$Document", "runs", "LDocumentFile$Runs;", true)
  | _ => ("DocumentFile$Document", "bases", "[I", true)
def ty_D : Nat → FieldType := fun k => match k with
  | 0 => .object "DocumentFile$PropertyRows"
  | 1 => .object "DocumentFile$PropertyRows"
  | 2 => .object "DocumentFile$Marks"
  | 3 => .object "DocumentFile$Runs"
  | _ => .array .int
theorem nmok_D : ∀ a, a < 5 → ∀ b, b < 5 → a ≠ b → (T_D a).2.1 ≠ (T_D b).2.1 := by decide +kernel
theorem tyok_D : ∀ k, k < 5 → parseFieldDescriptor (T_D k).2.2.1 = some (ty_D k) := by decide +kernel
theorem in_D : ∀ w ∈ u_ws R_D T_D 5, w ∈ lw_g := by decide +kernel
abbrev R_M : String := "DocumentFile$Marks"
def T_M : u_T := fun k => match k with
  | 0 => ("DocumentFile$Marks", "parts", "[I", true)
  | _ => ("DocumentFile$Marks", "rows", "I", false)
def ty_M : Nat → FieldType := fun k => match k with
  | 0 => .array .int
  | _ => .int
theorem nmok_M : ∀ a, a < 2 → ∀ b, b < 2 → a ≠ b → (T_M a).2.1 ≠ (T_M b).2.1 := by decide +kernel
theorem tyok_M : ∀ k, k < 2 → parseFieldDescriptor (T_M k).2.2.1 = some (ty_M k) := by decide +kernel
theorem in_M : ∀ w ∈ u_ws R_M T_M 2, w ∈ lw_g := by decide +kernel
abbrev R_O : String := "DocumentFile$Octets"
def T_O : u_T := fun k => match k with
  | 0 => ("DocumentFile$Octets", "octets", "[I", true)
  | _ => ("DocumentFile$Octets", "size", "I", false)
def ty_O : Nat → FieldType := fun k => match k with
  | 0 => .array .int
  | _ => .int
theorem nmok_O : ∀ a, a < 2 → ∀ b, b < 2 → a ≠ b → (T_O a).2.1 ≠ (T_O b).2.1 := by decide +kernel
theorem tyok_O : ∀ k, k < 2 → parseFieldDescriptor (T_O k).2.2.1 = some (ty_O k) := by decide +kernel
theorem in_O : ∀ w ∈ u_ws R_O T_O 2, w ∈ lw_g := by decide +kernel
abbrev R_P : String := "DocumentFile$PropertyRows"
def T_P : u_T := fun k => match k with
  | 0 => ("DocumentFile$PropertyRows", "most", "I", true)
  | 1 => ("DocumentFile$PropertyRows", "values", "[I", true)
  | _ => ("DocumentFile$PropertyRows", "rows", "I", false)
def ty_P : Nat → FieldType := fun k => match k with
  | 0 => .int
  | 1 => .array .int
  | _ => .int
theorem nmok_P : ∀ a, a < 3 → ∀ b, b < 3 → a ≠ b → (T_P a).2.1 ≠ (T_P b).2.1 := by decide +kernel
theorem tyok_P : ∀ k, k < 3 → parseFieldDescriptor (T_P k).2.2.1 = some (ty_P k) := by decide +kernel
theorem in_P : ∀ w ∈ u_ws R_P T_P 3, w ∈ lw_g := by decide +kernel
abbrev R_R : String := "DocumentFile$Reader"
def T_R : u_T := fun k => match k with
  | 0 => ("DocumentFile$Reader", "file", "LDocumentFile$Octets;", true)
  | 1 => ("DocumentFile$Reader", "next", "I", false)
  | 2 => ("DocumentFile$Reader", "item", "I", false)
  | _ => ("DocumentFile$Reader", "fault", "I", false)
def ty_R : Nat → FieldType := fun k => match k with
  | 0 => .object "DocumentFile$Octets"
  | 1 => .int
  | 2 => .int
  | _ => .int
theorem nmok_R : ∀ a, a < 4 → ∀ b, b < 4 → a ≠ b → (T_R a).2.1 ≠ (T_R b).2.1 := by decide +kernel
theorem tyok_R : ∀ k, k < 4 → parseFieldDescriptor (T_R k).2.2.1 = some (ty_R k) := by decide +kernel
theorem in_R : ∀ w ∈ u_ws R_R T_R 4, w ∈ lw_g := by decide +kernel
abbrev R_U : String := "DocumentFile$Runs"
def T_U : u_T := fun k => match k with
  | 0 => ("DocumentFile$Runs", "parts", "[I", true)
  | 1 => ("DocumentFile$Runs", "characters", "[I", true)
  | 2 => ("DocumentFile$Runs", "rows", "I", false)
  | _ => ("DocumentFile$Runs", "length", "I", false)
def ty_U : Nat → FieldType := fun k => match k with
  | 0 => .array .int
  | 1 => .array .int
  | 2 => .int
  | _ => .int
theorem nmok_U : ∀ a, a < 4 → ∀ b, b < 4 → a ≠ b → (T_U a).2.1 ≠ (T_U b).2.1 := by decide +kernel
theorem tyok_U : ∀ k, k < 4 → parseFieldDescriptor (T_U k).2.2.1 = some (ty_U k) := by decide +kernel
theorem in_U : ∀ w ∈ u_ws R_U T_U 4, w ∈ lw_g := by decide +kernel
abbrev R_W : String := "DocumentFile$Writer"
def T_W : u_T := fun k => match k with
  | 0 => ("DocumentFile$Writer", "file", "LDocumentFile$Octets;", true)
  | 1 => ("DocumentFile$Writer", "setsOut", "[I", true)
  | 2 => ("DocumentFile$Writer", "marksOut", "[I", true)
  | 3 => ("DocumentFile$Writer", "setCount", "I", false)
  | _ => ("DocumentFile$Writer", "markCount", "I", false)
def ty_W : Nat → FieldType := fun k => match k with
  | 0 => .object "DocumentFile$Octets"
  | 1 => .array .int
  | 2 => .array .int
  | 3 => .int
  | _ => .int
theorem nmok_W : ∀ a, a < 5 → ∀ b, b < 5 → a ≠ b → (T_W a).2.1 ≠ (T_W b).2.1 := by decide +kernel
theorem tyok_W : ∀ k, k < 5 → parseFieldDescriptor (T_W k).2.2.1 = some (ty_W k) := by decide +kernel
theorem in_W : ∀ w ∈ u_ws R_W T_W 5, w ∈ lw_g := by decide +kernel
abbrev R_Z : String := "DocumentFileModel"
def T_Z : u_T := fun k => match k with
  | 0 => ("DocumentFileModel", "length", "I", false)
  | 1 => ("DocumentFileModel", "file", "[B", true)
  | 2 => ("DocumentFileModel", "now", "I", false)
  | 3 => ("DocumentFileModel", "styles", "[I", true)
  | 4 => ("DocumentFileModel", "sets", "[I", true)
  | 5 => ("DocumentFileModel", "marks", "[I", true)
  | 6 => ("DocumentFileModel", "runs", "[I", true)
  | 7 => ("DocumentFileModel", "characters", "[I", true)
  | 8 => ("DocumentFileModel", "base", "[I", true)
  | 9 => ("DocumentFileModel", "own", "[I", true)
  | 10 => ("DocumentFileModel", "inserted", "[S", true)
  | 11 => ("DocumentFileModel", "erased", "[S", true)
  | 12 => ("DocumentFileModel", "old", "[S", true)
  | 13 => ("DocumentFileModel", "kind", "[S", true)
  | 14 => ("DocumentFileModel", "setOf", "[S", true)
  | 15 => ("DocumentFileModel", "markOf", "[S", true)
  | 16 => ("DocumentFileModel", "styleOf", "[S", true)
  | 17 => ("DocumentFileModel", "many", "[S", true)
  | 18 => ("DocumentFileModel", "text", "[S", true)
  | 19 => ("DocumentFileModel", "setNumber", "[I", true)
  | 20 => ("DocumentFileModel", "markNumber", "[I", true)
  | 21 => ("DocumentFileModel", "writtenSets", "I", false)
  | 22 => ("DocumentFileModel", "writtenMarks", "I", false)
  | 23 => ("DocumentFileModel", "at", "I", false)
  | 24 => ("DocumentFileModel", "item", "I", false)
  | _ => ("DocumentFileModel", "fault", "I", false)
def ty_Z : Nat → FieldType := fun k => match k with
  | 0 => .int
  | 1 => .array .byte
  | 2 => .int
  | 3 => .array .int
  | 4 => .array .int
  | 5 => .array .int
  | 6 => .array .int
  | 7 => .array .int
  | 8 => .array .int
  | 9 => .array .int
  | 10 => .array .short
  | 11 => .array .short
  | 12 => .array .short
  | 13 => .array .short
  | 14 => .array .short
  | 15 => .array .short
  | 16 => .array .short
  | 17 => .array .short
  | 18 => .array .short
  | 19 => .array .int
  | 20 => .array .int
  | 21 => .int
  | 22 => .int
  | 23 => .int
  | 24 => .int
  | _ => .int
theorem nmok_Z : ∀ a, a < 26 → ∀ b, b < 26 → a ≠ b → (T_Z a).2.1 ≠ (T_Z b).2.1 := by decide +kernel
theorem tyok_Z : ∀ k, k < 26 → parseFieldDescriptor (T_Z k).2.2.1 = some (ty_Z k) := by decide +kernel
theorem in_Z : ∀ w ∈ u_ws R_Z T_Z 26, w ∈ lw_g := by decide +kernel
abbrev R_L : String := "DocumentFileLaw"
abbrev vwCl : List vw_C := [(R_F, T_F, 5), (R_D, T_D, 5), (R_M, T_M, 2), (R_O, T_O, 2), (R_P, T_P, 3), (R_R, T_R, 4), (R_U, T_U, 4), (R_W, T_W, 5), (R_Z, T_Z, 26)]
abbrev b_F_init : ByteArray := prog_1_method_1_code
abbrev y_F_init : MethodName := ⟨"DocumentFile", "<init>", "()V"⟩
abbrev w_F_init : List Cond := Cond.code y_F_init b_F_init 1 none ::  lw_g
abbrev b_F_clear : ByteArray := prog_1_method_2_code
abbrev y_F_clear : MethodName := ⟨"DocumentFile", "clear", "()V"⟩
abbrev w_F_clear : List Cond := Cond.code y_F_clear b_F_clear 1 none ::  lw_g
abbrev b_F_style : ByteArray := prog_1_method_3_code
abbrev y_F_style : MethodName := ⟨"DocumentFile", "style", "(I)I"⟩
abbrev w_F_style : List Cond := Cond.code y_F_style b_F_style 2 (some .int) ::  lw_g
abbrev b_F_set : ByteArray := prog_1_method_4_code
abbrev y_F_set : MethodName := ⟨"DocumentFile", "set", "()I"⟩
abbrev w_F_set : List Cond := Cond.code y_F_set b_F_set 1 (some .int) ::  lw_g
abbrev b_F_property : ByteArray := prog_1_method_5_code
abbrev y_F_property : MethodName := ⟨"DocumentFile", "property", "(IIII)Z"⟩
abbrev w_F_property : List Cond := Cond.code y_F_property b_F_property 5 (some .boolean) ::  lw_g
abbrev b_F_mark : ByteArray := prog_1_method_6_code
abbrev y_F_mark : MethodName := ⟨"DocumentFile", "mark", "(III)I"⟩
abbrev w_F_mark : List Cond := Cond.code y_F_mark b_F_mark 4 (some .int) ::  lw_g
abbrev b_F_type : ByteArray := prog_1_method_7_code
abbrev y_F_type : MethodName := ⟨"DocumentFile", "type", "(IIJ)I"⟩
abbrev w_F_type : List Cond := Cond.code y_F_type b_F_type 7 (some .int) ::  lw_g
abbrev b_F_end : ByteArray := prog_1_method_8_code
abbrev y_F_end : MethodName := ⟨"DocumentFile", "end", "(IIII)I"⟩
abbrev w_F_end : List Cond := Cond.code y_F_end b_F_end 6 (some .int) ::  lw_g
abbrev b_F_count : ByteArray := prog_1_method_9_code
abbrev y_F_count : MethodName := ⟨"DocumentFile", "count", "(I)I"⟩
abbrev w_F_count : List Cond := Cond.code y_F_count b_F_count 2 (some .int) ::  lw_g
abbrev b_F_base : ByteArray := prog_1_method_10_code
abbrev y_F_base : MethodName := ⟨"DocumentFile", "base", "(I)I"⟩
abbrev w_F_base : List Cond := Cond.code y_F_base b_F_base 2 (some .int) ::  lw_g
abbrev b_F_value : ByteArray := prog_1_method_11_code
abbrev y_F_value : MethodName := ⟨"DocumentFile", "value", "(III)I"⟩
abbrev w_F_value : List Cond := Cond.code y_F_value b_F_value 4 (some .int) ::  lw_g
abbrev b_F_changes : ByteArray := prog_1_method_12_code
abbrev y_F_changes : MethodName := ⟨"DocumentFile", "changes", "(II)I"⟩
abbrev w_F_changes : List Cond := Cond.code y_F_changes b_F_changes 3 (some .int) ::  lw_g
abbrev b_F_run : ByteArray := prog_1_method_13_code
abbrev y_F_run : MethodName := ⟨"DocumentFile", "run", "(II)I"⟩
abbrev w_F_run : List Cond := Cond.code y_F_run b_F_run 3 (some .int) ::  lw_g
abbrev b_F_at : ByteArray := prog_1_method_14_code
abbrev y_F_at : MethodName := ⟨"DocumentFile", "at", "(I)I"⟩
abbrev w_F_at : List Cond := Cond.code y_F_at b_F_at 2 (some .int) ::  lw_g
abbrev b_F_save : ByteArray := prog_1_method_15_code
abbrev y_F_save : MethodName := ⟨"DocumentFile", "save", "()I"⟩
abbrev w_F_save : List Cond := Cond.code y_F_save b_F_save 1 (some .int) ::  lw_g
abbrev b_F_open : ByteArray := prog_1_method_16_code
abbrev y_F_open : MethodName := ⟨"DocumentFile", "open", "()I"⟩
abbrev w_F_open : List Cond := Cond.code y_F_open b_F_open 3 (some .int) ::  lw_g
abbrev b_F_octet : ByteArray := prog_1_method_17_code
abbrev y_F_octet : MethodName := ⟨"DocumentFile", "octet", "(I)I"⟩
abbrev w_F_octet : List Cond := Cond.code y_F_octet b_F_octet 2 (some .int) ::  lw_g
abbrev b_F_alter : ByteArray := prog_1_method_18_code
abbrev y_F_alter : MethodName := ⟨"DocumentFile", "alter", "(II)Z"⟩
abbrev w_F_alter : List Cond := Cond.code y_F_alter b_F_alter 3 (some .boolean) ::  lw_g
abbrev b_F_cut : ByteArray := prog_1_method_19_code
abbrev y_F_cut : MethodName := ⟨"DocumentFile", "cut", "(I)Z"⟩
abbrev w_F_cut : List Cond := Cond.code y_F_cut b_F_cut 2 (some .boolean) ::  lw_g
abbrev b_F_byteOf : ByteArray := prog_1_method_20_code
abbrev y_F_byteOf : MethodName := ⟨"DocumentFile", "byteOf", "(JI)I"⟩
abbrev w_F_byteOf : List Cond := Cond.code y_F_byteOf b_F_byteOf 3 (some .int) ::  lw_g
abbrev b_F_textLength : ByteArray := prog_1_method_21_code
abbrev y_F_textLength : MethodName := ⟨"DocumentFile", "textLength", "(J)I"⟩
abbrev w_F_textLength : List Cond := Cond.code y_F_textLength b_F_textLength 4 (some .int) ::  lw_g
abbrev b_Z_init : ByteArray := prog_10_method_1_code
abbrev y_Z_init : MethodName := ⟨"DocumentFileModel", "<init>", "()V"⟩
abbrev w_Z_init : List Cond := Cond.code y_Z_init b_Z_init 1 none ::  lw_g
abbrev b_Z_in : ByteArray := prog_10_method_2_code
abbrev y_Z_in : MethodName := ⟨"DocumentFileModel", "in", "(III)Z"⟩
abbrev w_Z_in : List Cond := Cond.code y_Z_in b_Z_in 3 (some .boolean) ::  lw_g
abbrev b_Z_most : ByteArray := prog_10_method_3_code
abbrev y_Z_most : MethodName := ⟨"DocumentFileModel", "most", "(I)I"⟩
abbrev w_Z_most : List Cond := Cond.code y_Z_most b_Z_most 1 (some .int) ::  lw_g
abbrev b_Z_isText : ByteArray := prog_10_method_4_code
abbrev y_Z_isText : MethodName := ⟨"DocumentFileModel", "isText", "(I)Z"⟩
abbrev w_Z_isText : List Cond := Cond.code y_Z_isText b_Z_isText 1 (some .boolean) ::  lw_g
abbrev b_Z_isSet : ByteArray := prog_10_method_5_code
abbrev y_Z_isSet : MethodName := ⟨"DocumentFileModel", "isSet", "(I)Z"⟩
abbrev w_Z_isSet : List Cond := Cond.code y_Z_isSet b_Z_isSet 2 (some .boolean) ::  lw_g
abbrev b_Z_isMark : ByteArray := prog_10_method_6_code
abbrev y_Z_isMark : MethodName := ⟨"DocumentFileModel", "isMark", "(I)Z"⟩
abbrev w_Z_isMark : List Cond := Cond.code y_Z_isMark b_Z_isMark 2 (some .boolean) ::  lw_g
abbrev b_Z_row : ByteArray := prog_10_method_7_code
abbrev y_Z_row : MethodName := ⟨"DocumentFileModel", "row", "(III)I"⟩
abbrev w_Z_row : List Cond := Cond.code y_Z_row b_Z_row 3 (some .int) ::  lw_g
abbrev b_Z_empty : ByteArray := prog_10_method_8_code
abbrev y_Z_empty : MethodName := ⟨"DocumentFileModel", "empty", "(I)V"⟩
abbrev w_Z_empty : List Cond := Cond.code y_Z_empty b_Z_empty 2 none ::  lw_g
abbrev b_Z_bare : ByteArray := prog_10_method_9_code
abbrev y_Z_bare : MethodName := ⟨"DocumentFileModel", "bare", "(III)V"⟩
abbrev w_Z_bare : List Cond := Cond.code y_Z_bare b_Z_bare 5 none ::  lw_g
abbrev b_Z_clear : ByteArray := prog_10_method_10_code
abbrev y_Z_clear : MethodName := ⟨"DocumentFileModel", "clear", "()V"⟩
abbrev w_Z_clear : List Cond := Cond.code y_Z_clear b_Z_clear 1 none ::  lw_g
abbrev b_Z_style : ByteArray := prog_10_method_11_code
abbrev y_Z_style : MethodName := ⟨"DocumentFileModel", "style", "(I)I"⟩
abbrev w_Z_style : List Cond := Cond.code y_Z_style b_Z_style 2 (some .int) ::  lw_g
abbrev b_Z_set : ByteArray := prog_10_method_12_code
abbrev y_Z_set : MethodName := ⟨"DocumentFileModel", "set", "()I"⟩
abbrev w_Z_set : List Cond := Cond.code y_Z_set b_Z_set 1 (some .int) ::  lw_g
abbrev b_Z_isRow : ByteArray := prog_10_method_13_code
abbrev y_Z_isRow : MethodName := ⟨"DocumentFileModel", "isRow", "(II)Z"⟩
abbrev w_Z_isRow : List Cond := Cond.code y_Z_isRow b_Z_isRow 3 (some .boolean) ::  lw_g
abbrev b_Z_property : ByteArray := prog_10_method_14_code
abbrev y_Z_property : MethodName := ⟨"DocumentFileModel", "property", "(IIII)Z"⟩
abbrev w_Z_property : List Cond := Cond.code y_Z_property b_Z_property 5 (some .boolean) ::  lw_g
abbrev b_Z_mark : ByteArray := prog_10_method_15_code
abbrev y_Z_mark : MethodName := ⟨"DocumentFileModel", "mark", "(III)I"⟩
abbrev w_Z_mark : List Cond := Cond.code y_Z_mark b_Z_mark 5 (some .int) ::  lw_g
abbrev b_Z_add : ByteArray := prog_10_method_16_code
abbrev y_Z_add : MethodName := ⟨"DocumentFileModel", "add", "(IIIII)I"⟩
abbrev w_Z_add : List Cond := Cond.code y_Z_add b_Z_add 7 (some .int) ::  lw_g
abbrev b_Z_type : ByteArray := prog_10_method_17_code
abbrev y_Z_type : MethodName := ⟨"DocumentFileModel", "type", "(IIJ)I"⟩
abbrev w_Z_type : List Cond := Cond.code y_Z_type b_Z_type 8 (some .int) ::  lw_g
abbrev b_Z_end : ByteArray := prog_10_method_18_code
abbrev y_Z_end : MethodName := ⟨"DocumentFileModel", "end", "(IIII)I"⟩
abbrev w_Z_end : List Cond := Cond.code y_Z_end b_Z_end 6 (some .int) ::  lw_g
abbrev b_Z_count : ByteArray := prog_10_method_19_code
abbrev y_Z_count : MethodName := ⟨"DocumentFileModel", "count", "(I)I"⟩
abbrev w_Z_count : List Cond := Cond.code y_Z_count b_Z_count 2 (some .int) ::  lw_g
abbrev b_Z_base : ByteArray := prog_10_method_20_code
abbrev y_Z_base : MethodName := ⟨"DocumentFileModel", "base", "(I)I"⟩
abbrev w_Z_base : List Cond := Cond.code y_Z_base b_Z_base 2 (some .int) ::  lw_g
abbrev b_Z_value : ByteArray := prog_10_method_21_code
abbrev y_Z_value : MethodName := ⟨"DocumentFileModel", "value", "(III)I"⟩
abbrev w_Z_value : List Cond := Cond.code y_Z_value b_Z_value 4 (some .int) ::  lw_g
abbrev b_Z_changes : ByteArray := prog_10_method_22_code
abbrev y_Z_changes : MethodName := ⟨"DocumentFileModel", "changes", "(II)I"⟩
abbrev w_Z_changes : List Cond := Cond.code y_Z_changes b_Z_changes 4 (some .int) ::  lw_g
abbrev b_Z_run : ByteArray := prog_10_method_23_code
abbrev y_Z_run : MethodName := ⟨"DocumentFileModel", "run", "(II)I"⟩
abbrev w_Z_run : List Cond := Cond.code y_Z_run b_Z_run 6 (some .int) ::  lw_g
abbrev b_Z_at : ByteArray := prog_10_method_24_code
abbrev y_Z_at : MethodName := ⟨"DocumentFileModel", "at", "(I)I"⟩
abbrev w_Z_at : List Cond := Cond.code y_Z_at b_Z_at 2 (some .int) ::  lw_g
abbrev b_Z_sameSets : ByteArray := prog_10_method_25_code
abbrev y_Z_sameSets : MethodName := ⟨"DocumentFileModel", "sameSets", "(III)Z"⟩
abbrev w_Z_sameSets : List Cond := Cond.code y_Z_sameSets b_Z_sameSets 6 (some .boolean) ::  lw_g
abbrev b_Z_firstSet : ByteArray := prog_10_method_26_code
abbrev y_Z_firstSet : MethodName := ⟨"DocumentFileModel", "firstSet", "(II)I"⟩
abbrev w_Z_firstSet : List Cond := Cond.code y_Z_firstSet b_Z_firstSet 4 (some .int) ::  lw_g
abbrev b_Z_firstMark : ByteArray := prog_10_method_27_code
abbrev y_Z_firstMark : MethodName := ⟨"DocumentFileModel", "firstMark", "(II)I"⟩
abbrev w_Z_firstMark : List Cond := Cond.code y_Z_firstMark b_Z_firstMark 4 (some .int) ::  lw_g
abbrev b_Z_sameMarks : ByteArray := prog_10_method_28_code
abbrev y_Z_sameMarks : MethodName := ⟨"DocumentFileModel", "sameMarks", "(III)Z"⟩
abbrev w_Z_sameMarks : List Cond := Cond.code y_Z_sameMarks b_Z_sameMarks 6 (some .boolean) ::  lw_g
abbrev b_Z_sameRuns : ByteArray := prog_10_method_29_code
abbrev y_Z_sameRuns : MethodName := ⟨"DocumentFileModel", "sameRuns", "(III)Z"⟩
abbrev w_Z_sameRuns : List Cond := Cond.code y_Z_sameRuns b_Z_sameRuns 6 (some .boolean) ::  lw_g
abbrev b_Z_octetOut : ByteArray := prog_10_method_30_code
abbrev y_Z_octetOut : MethodName := ⟨"DocumentFileModel", "octetOut", "(I)V"⟩
abbrev w_Z_octetOut : List Cond := Cond.code y_Z_octetOut b_Z_octetOut 2 none ::  lw_g
abbrev b_Z_number : ByteArray := prog_10_method_31_code
abbrev y_Z_number : MethodName := ⟨"DocumentFileModel", "number", "(I)V"⟩
abbrev w_Z_number : List Cond := Cond.code y_Z_number b_Z_number 2 none ::  lw_g
abbrev b_Z_properties : ByteArray := prog_10_method_32_code
abbrev y_Z_properties : MethodName := ⟨"DocumentFileModel", "properties", "(I)V"⟩
abbrev w_Z_properties : List Cond := Cond.code y_Z_properties b_Z_properties 4 none ::  lw_g
abbrev b_Z_setOut : ByteArray := prog_10_method_33_code
abbrev y_Z_setOut : MethodName := ⟨"DocumentFileModel", "setOut", "(II)V"⟩
abbrev w_Z_setOut : List Cond := Cond.code y_Z_setOut b_Z_setOut 4 none ::  lw_g
abbrev b_Z_markOut : ByteArray := prog_10_method_34_code
abbrev y_Z_markOut : MethodName := ⟨"DocumentFileModel", "markOut", "(I)V"⟩
abbrev w_Z_markOut : List Cond := Cond.code y_Z_markOut b_Z_markOut 3 none ::  lw_g
abbrev b_Z_joined : ByteArray := prog_10_method_35_code
abbrev y_Z_joined : MethodName := ⟨"DocumentFileModel", "joined", "(I)I"⟩
abbrev w_Z_joined : List Cond := Cond.code y_Z_joined b_Z_joined 3 (some .int) ::  lw_g
abbrev b_Z_save : ByteArray := prog_10_method_36_code
abbrev y_Z_save : MethodName := ⟨"DocumentFileModel", "save", "()I"⟩
abbrev w_Z_save : List Cond := Cond.code y_Z_save b_Z_save 7 (some .int) ::  lw_g
abbrev b_Z_wrong : ByteArray := prog_10_method_37_code
abbrev y_Z_wrong : MethodName := ⟨"DocumentFileModel", "wrong", "(I)V"⟩
abbrev w_Z_wrong : List Cond := Cond.code y_Z_wrong b_Z_wrong 2 none ::  lw_g
abbrev b_Z_readNumber : ByteArray := prog_10_method_38_code
abbrev y_Z_readNumber : MethodName := ⟨"DocumentFileModel", "readNumber", "(I)I"⟩
abbrev w_Z_readNumber : List Cond := Cond.code y_Z_readNumber b_Z_readNumber 5 (some .int) ::  lw_g
abbrev b_Z_readByte : ByteArray := prog_10_method_39_code
abbrev y_Z_readByte : MethodName := ⟨"DocumentFileModel", "readByte", "(I)V"⟩
abbrev w_Z_readByte : List Cond := Cond.code y_Z_readByte b_Z_readByte 2 none ::  lw_g
abbrev b_Z_readProperties : ByteArray := prog_10_method_40_code
abbrev y_Z_readProperties : MethodName := ⟨"DocumentFileModel", "readProperties", "(I)V"⟩
abbrev w_Z_readProperties : List Cond := Cond.code y_Z_readProperties b_Z_readProperties 6 none ::  lw_g
abbrev b_Z_readStyles : ByteArray := prog_10_method_41_code
abbrev y_Z_readStyles : MethodName := ⟨"DocumentFileModel", "readStyles", "(I)V"⟩
abbrev w_Z_readStyles : List Cond := Cond.code y_Z_readStyles b_Z_readStyles 6 none ::  lw_g
abbrev b_Z_readSet : ByteArray := prog_10_method_42_code
abbrev y_Z_readSet : MethodName := ⟨"DocumentFileModel", "readSet", "(II)I"⟩
abbrev w_Z_readSet : List Cond := Cond.code y_Z_readSet b_Z_readSet 6 (some .int) ::  lw_g
abbrev b_Z_readMark : ByteArray := prog_10_method_43_code
abbrev y_Z_readMark : MethodName := ⟨"DocumentFileModel", "readMark", "(I)I"⟩
abbrev w_Z_readMark : List Cond := Cond.code y_Z_readMark b_Z_readMark 5 (some .int) ::  lw_g
abbrev b_Z_readRun : ByteArray := prog_10_method_44_code
abbrev y_Z_readRun : MethodName := ⟨"DocumentFileModel", "readRun", "(II)V"⟩
abbrev w_Z_readRun : List Cond := Cond.code y_Z_readRun b_Z_readRun 12 none ::  lw_g
abbrev b_Z_open : ByteArray := prog_10_method_45_code
abbrev y_Z_open : MethodName := ⟨"DocumentFileModel", "open", "()I"⟩
abbrev w_Z_open : List Cond := Cond.code y_Z_open b_Z_open 4 (some .int) ::  lw_g
abbrev b_Z_octet : ByteArray := prog_10_method_46_code
abbrev y_Z_octet : MethodName := ⟨"DocumentFileModel", "octet", "(I)I"⟩
abbrev w_Z_octet : List Cond := Cond.code y_Z_octet b_Z_octet 2 (some .int) ::  lw_g
abbrev b_Z_alter : ByteArray := prog_10_method_47_code
abbrev y_Z_alter : MethodName := ⟨"DocumentFileModel", "alter", "(II)Z"⟩
abbrev w_Z_alter : List Cond := Cond.code y_Z_alter b_Z_alter 3 (some .boolean) ::  lw_g
abbrev b_Z_cut : ByteArray := prog_10_method_48_code
abbrev y_Z_cut : MethodName := ⟨"DocumentFileModel", "cut", "(I)Z"⟩
abbrev w_Z_cut : List Cond := Cond.code y_Z_cut b_Z_cut 2 (some .boolean) ::  lw_g
abbrev b_D_init : ByteArray := prog_2_method_1_code
abbrev y_D_init : MethodName := ⟨"DocumentFile$Document", "<init>", "()V"⟩
abbrev w_D_init : List Cond := Cond.code y_D_init b_D_init 1 none ::  lw_g
abbrev b_D_empty : ByteArray := prog_2_method_2_code
abbrev y_D_empty : MethodName := ⟨"DocumentFile$Document", "empty", "()V"⟩
abbrev w_D_empty : List Cond := Cond.code y_D_empty b_D_empty 1 none ::  lw_g
abbrev b_D_addStyle : ByteArray := prog_2_method_3_code
abbrev y_D_addStyle : MethodName := ⟨"DocumentFile$Document", "addStyle", "(I)I"⟩
abbrev w_D_addStyle : List Cond := Cond.code y_D_addStyle b_D_addStyle 3 (some .int) ::  lw_g
abbrev b_D_baseOf : ByteArray := prog_2_method_4_code
abbrev y_D_baseOf : MethodName := ⟨"DocumentFile$Document", "baseOf", "(I)I"⟩
abbrev w_D_baseOf : List Cond := Cond.code y_D_baseOf b_D_baseOf 2 (some .int) ::  lw_g
abbrev b_D_rebase : ByteArray := prog_2_method_5_code
abbrev y_D_rebase : MethodName := ⟨"DocumentFile$Document", "rebase", "(II)Z"⟩
abbrev w_D_rebase : List Cond := Cond.code y_D_rebase b_D_rebase 5 (some .boolean) ::  lw_g
abbrev b_D_sameMarks : ByteArray := prog_2_method_6_code
abbrev y_D_sameMarks : MethodName := ⟨"DocumentFile$Document", "sameMarks", "(II)Z"⟩
abbrev w_D_sameMarks : List Cond := Cond.code y_D_sameMarks b_D_sameMarks 5 (some .boolean) ::  lw_g
abbrev b_D_repeatsMark : ByteArray := prog_2_method_7_code
abbrev y_D_repeatsMark : MethodName := ⟨"DocumentFile$Document", "repeatsMark", "(I)Z"⟩
abbrev w_D_repeatsMark : List Cond := Cond.code y_D_repeatsMark b_D_repeatsMark 3 (some .boolean) ::  lw_g
abbrev b_D_goesOn : ByteArray := prog_2_method_8_code
abbrev y_D_goesOn : MethodName := ⟨"DocumentFile$Document", "goesOn", "(I)Z"⟩
abbrev w_D_goesOn : List Cond := Cond.code y_D_goesOn b_D_goesOn 3 (some .boolean) ::  lw_g
abbrev b_M_init : ByteArray := prog_3_method_1_code
abbrev y_M_init : MethodName := ⟨"DocumentFile$Marks", "<init>", "()V"⟩
abbrev w_M_init : List Cond := Cond.code y_M_init b_M_init 1 none ::  lw_g
abbrev b_M_empty : ByteArray := prog_3_method_2_code
abbrev y_M_empty : MethodName := ⟨"DocumentFile$Marks", "empty", "()V"⟩
abbrev w_M_empty : List Cond := Cond.code y_M_empty b_M_empty 1 none ::  lw_g
abbrev b_M_rows : ByteArray := prog_3_method_3_code
abbrev y_M_rows : MethodName := ⟨"DocumentFile$Marks", "rows", "()I"⟩
abbrev w_M_rows : List Cond := Cond.code y_M_rows b_M_rows 1 (some .int) ::  lw_g
abbrev b_M_has : ByteArray := prog_3_method_4_code
abbrev y_M_has : MethodName := ⟨"DocumentFile$Marks", "has", "(I)Z"⟩
abbrev w_M_has : List Cond := Cond.code y_M_has b_M_has 2 (some .boolean) ::  lw_g
abbrev b_M_isFull : ByteArray := prog_3_method_5_code
abbrev y_M_isFull : MethodName := ⟨"DocumentFile$Marks", "isFull", "()Z"⟩
abbrev w_M_isFull : List Cond := Cond.code y_M_isFull b_M_isFull 1 (some .boolean) ::  lw_g
abbrev b_M_add : ByteArray := prog_3_method_6_code
abbrev y_M_add : MethodName := ⟨"DocumentFile$Marks", "add", "(III)I"⟩
abbrev w_M_add : List Cond := Cond.code y_M_add b_M_add 4 (some .int) ::  lw_g
abbrev b_M_part : ByteArray := prog_3_method_7_code
abbrev y_M_part : MethodName := ⟨"DocumentFile$Marks", "part", "(II)I"⟩
abbrev w_M_part : List Cond := Cond.code y_M_part b_M_part 3 (some .int) ::  lw_g
abbrev b_O_init : ByteArray := prog_4_method_1_code
abbrev y_O_init : MethodName := ⟨"DocumentFile$Octets", "<init>", "()V"⟩
abbrev w_O_init : List Cond := Cond.code y_O_init b_O_init 1 none ::  lw_g
abbrev b_O_size : ByteArray := prog_4_method_2_code
abbrev y_O_size : MethodName := ⟨"DocumentFile$Octets", "size", "()I"⟩
abbrev w_O_size : List Cond := Cond.code y_O_size b_O_size 1 (some .int) ::  lw_g
abbrev b_O_get : ByteArray := prog_4_method_3_code
abbrev y_O_get : MethodName := ⟨"DocumentFile$Octets", "get", "(I)I"⟩
abbrev w_O_get : List Cond := Cond.code y_O_get b_O_get 2 (some .int) ::  lw_g
abbrev b_O_put : ByteArray := prog_4_method_4_code
abbrev y_O_put : MethodName := ⟨"DocumentFile$Octets", "put", "(II)Z"⟩
abbrev w_O_put : List Cond := Cond.code y_O_put b_O_put 3 (some .boolean) ::  lw_g
abbrev b_O_append : ByteArray := prog_4_method_5_code
abbrev y_O_append : MethodName := ⟨"DocumentFile$Octets", "append", "(I)Z"⟩
abbrev w_O_append : List Cond := Cond.code y_O_append b_O_append 2 (some .boolean) ::  lw_g
abbrev b_O_keep : ByteArray := prog_4_method_6_code
abbrev y_O_keep : MethodName := ⟨"DocumentFile$Octets", "keep", "(I)Z"⟩
abbrev w_O_keep : List Cond := Cond.code y_O_keep b_O_keep 2 (some .boolean) ::  lw_g
abbrev b_P_init : ByteArray := prog_5_method_1_code
abbrev y_P_init : MethodName := ⟨"DocumentFile$PropertyRows", "<init>", "(I)V"⟩
abbrev w_P_init : List Cond := Cond.code y_P_init b_P_init 2 none ::  lw_g
abbrev b_P_mostOf : ByteArray := prog_5_method_2_code
abbrev y_P_mostOf : MethodName := ⟨"DocumentFile$PropertyRows", "mostOf", "(I)I"⟩
abbrev w_P_mostOf : List Cond := Cond.code y_P_mostOf b_P_mostOf 1 (some .int) ::  lw_g
abbrev b_P_empty : ByteArray := prog_5_method_3_code
abbrev y_P_empty : MethodName := ⟨"DocumentFile$PropertyRows", "empty", "()V"⟩
abbrev w_P_empty : List Cond := Cond.code y_P_empty b_P_empty 1 none ::  lw_g
abbrev b_P_rows : ByteArray := prog_5_method_4_code
abbrev y_P_rows : MethodName := ⟨"DocumentFile$PropertyRows", "rows", "()I"⟩
abbrev w_P_rows : List Cond := Cond.code y_P_rows b_P_rows 1 (some .int) ::  lw_g
abbrev b_P_has : ByteArray := prog_5_method_5_code
abbrev y_P_has : MethodName := ⟨"DocumentFile$PropertyRows", "has", "(I)Z"⟩
abbrev w_P_has : List Cond := Cond.code y_P_has b_P_has 2 (some .boolean) ::  lw_g
abbrev b_P_add : ByteArray := prog_5_method_6_code
abbrev y_P_add : MethodName := ⟨"DocumentFile$PropertyRows", "add", "()I"⟩
abbrev w_P_add : List Cond := Cond.code y_P_add b_P_add 2 (some .int) ::  lw_g
abbrev b_P_get : ByteArray := prog_5_method_7_code
abbrev y_P_get : MethodName := ⟨"DocumentFile$PropertyRows", "get", "(II)I"⟩
abbrev w_P_get : List Cond := Cond.code y_P_get b_P_get 3 (some .int) ::  lw_g
abbrev b_P_put : ByteArray := prog_5_method_8_code
abbrev y_P_put : MethodName := ⟨"DocumentFile$PropertyRows", "put", "(III)Z"⟩
abbrev w_P_put : List Cond := Cond.code y_P_put b_P_put 4 (some .boolean) ::  lw_g
abbrev b_P_held : ByteArray := prog_5_method_9_code
abbrev y_P_held : MethodName := ⟨"DocumentFile$PropertyRows", "held", "(I)I"⟩
abbrev w_P_held : List Cond := Cond.code y_P_held b_P_held 4 (some .int) ::  lw_g
abbrev b_P_same : ByteArray := prog_5_method_10_code
abbrev y_P_same : MethodName := ⟨"DocumentFile$PropertyRows", "same", "(II)Z"⟩
abbrev w_P_same : List Cond := Cond.code y_P_same b_P_same 4 (some .boolean) ::  lw_g
abbrev b_P_repeats : ByteArray := prog_5_method_11_code
abbrev y_P_repeats : MethodName := ⟨"DocumentFile$PropertyRows", "repeats", "(I)Z"⟩
abbrev w_P_repeats : List Cond := Cond.code y_P_repeats b_P_repeats 3 (some .boolean) ::  lw_g
abbrev b_R_init : ByteArray := prog_6_method_1_code
abbrev y_R_init : MethodName := ⟨"DocumentFile$Reader", "<init>", "(LDocumentFile$Octets;)V"⟩
abbrev w_R_init : List Cond := Cond.code y_R_init b_R_init 2 none ::  lw_g
abbrev b_R_read : ByteArray := prog_6_method_2_code
abbrev y_R_read : MethodName := ⟨"DocumentFile$Reader", "read", "(LDocumentFile$Document;)I"⟩
abbrev w_R_read : List Cond := Cond.code y_R_read b_R_read 4 (some .int) ::  lw_g
abbrev b_R_failed : ByteArray := prog_6_method_3_code
abbrev y_R_failed : MethodName := ⟨"DocumentFile$Reader", "failed", "()Z"⟩
abbrev w_R_failed : List Cond := Cond.code y_R_failed b_R_failed 1 (some .boolean) ::  lw_g
abbrev b_R_refuse : ByteArray := prog_6_method_4_code
abbrev y_R_refuse : MethodName := ⟨"DocumentFile$Reader", "refuse", "(I)I"⟩
abbrev w_R_refuse : List Cond := Cond.code y_R_refuse b_R_refuse 2 (some .int) ::  lw_g
abbrev b_R_readHead : ByteArray := prog_6_method_5_code
abbrev y_R_readHead : MethodName := ⟨"DocumentFile$Reader", "readHead", "()V"⟩
abbrev w_R_readHead : List Cond := Cond.code y_R_readHead b_R_readHead 2 none ::  lw_g
abbrev b_R_readNumber : ByteArray := prog_6_method_6_code
abbrev y_R_readNumber : MethodName := ⟨"DocumentFile$Reader", "readNumber", "(II)I"⟩
abbrev w_R_readNumber : List Cond := Cond.code y_R_readNumber b_R_readNumber 6 (some .int) ::  lw_g
abbrev b_R_readStyles : ByteArray := prog_6_method_7_code
abbrev y_R_readStyles : MethodName := ⟨"DocumentFile$Reader", "readStyles", "(LDocumentFile$Document;)V"⟩
abbrev w_R_readStyles : List Cond := Cond.code y_R_readStyles b_R_readStyles 4 none ::  lw_g
abbrev b_R_readBase : ByteArray := prog_6_method_8_code
abbrev y_R_readBase : MethodName := ⟨"DocumentFile$Reader", "readBase", "(LDocumentFile$Document;I)V"⟩
abbrev w_R_readBase : List Cond := Cond.code y_R_readBase b_R_readBase 4 none ::  lw_g
abbrev b_R_readProperties : ByteArray := prog_6_method_9_code
abbrev y_R_readProperties : MethodName := ⟨"DocumentFile$Reader", "readProperties", "(LDocumentFile$PropertyRows;I)V"⟩
abbrev w_R_readProperties : List Cond := Cond.code y_R_readProperties b_R_readProperties 7 none ::  lw_g
abbrev b_R_readRun : ByteArray := prog_6_method_10_code
abbrev y_R_readRun : MethodName := ⟨"DocumentFile$Reader", "readRun", "(LDocumentFile$Document;)V"⟩
abbrev w_R_readRun : List Cond := Cond.code y_R_readRun b_R_readRun 8 none ::  lw_g
abbrev b_R_readSet : ByteArray := prog_6_method_11_code
abbrev y_R_readSet : MethodName := ⟨"DocumentFile$Reader", "readSet", "(LDocumentFile$Document;I)I"⟩
abbrev w_R_readSet : List Cond := Cond.code y_R_readSet b_R_readSet 6 (some .int) ::  lw_g
abbrev b_R_readMark : ByteArray := prog_6_method_12_code
abbrev y_R_readMark : MethodName := ⟨"DocumentFile$Reader", "readMark", "(LDocumentFile$Document;)I"⟩
abbrev w_R_readMark : List Cond := Cond.code y_R_readMark b_R_readMark 8 (some .int) ::  lw_g
abbrev b_R_readCharacters : ByteArray := prog_6_method_13_code
abbrev y_R_readCharacters : MethodName := ⟨"DocumentFile$Reader", "readCharacters", "(LDocumentFile$Runs;I)V"⟩
abbrev w_R_readCharacters : List Cond := Cond.code y_R_readCharacters b_R_readCharacters 6 none ::  lw_g
abbrev b_R_readCharacter : ByteArray := prog_6_method_14_code
abbrev y_R_readCharacter : MethodName := ⟨"DocumentFile$Reader", "readCharacter", "()I"⟩
abbrev w_R_readCharacter : List Cond := Cond.code y_R_readCharacter b_R_readCharacter 2 (some .int) ::  lw_g
abbrev b_U_init : ByteArray := prog_7_method_1_code
abbrev y_U_init : MethodName := ⟨"DocumentFile$Runs", "<init>", "()V"⟩
abbrev w_U_init : List Cond := Cond.code y_U_init b_U_init 1 none ::  lw_g
abbrev b_U_isText : ByteArray := prog_7_method_2_code
abbrev y_U_isText : MethodName := ⟨"DocumentFile$Runs", "isText", "(I)Z"⟩
abbrev w_U_isText : List Cond := Cond.code y_U_isText b_U_isText 1 (some .boolean) ::  lw_g
abbrev b_U_empty : ByteArray := prog_7_method_3_code
abbrev y_U_empty : MethodName := ⟨"DocumentFile$Runs", "empty", "()V"⟩
abbrev w_U_empty : List Cond := Cond.code y_U_empty b_U_empty 1 none ::  lw_g
abbrev b_U_rows : ByteArray := prog_7_method_4_code
abbrev y_U_rows : MethodName := ⟨"DocumentFile$Runs", "rows", "()I"⟩
abbrev w_U_rows : List Cond := Cond.code y_U_rows b_U_rows 1 (some .int) ::  lw_g
abbrev b_U_length : ByteArray := prog_7_method_5_code
abbrev y_U_length : MethodName := ⟨"DocumentFile$Runs", "length", "()I"⟩
abbrev w_U_length : List Cond := Cond.code y_U_length b_U_length 1 (some .int) ::  lw_g
abbrev b_U_takes : ByteArray := prog_7_method_6_code
abbrev y_U_takes : MethodName := ⟨"DocumentFile$Runs", "takes", "(I)Z"⟩
abbrev w_U_takes : List Cond := Cond.code y_U_takes b_U_takes 2 (some .boolean) ::  lw_g
abbrev b_U_begin : ByteArray := prog_7_method_7_code
abbrev y_U_begin : MethodName := ⟨"DocumentFile$Runs", "begin", "(IIII)I"⟩
abbrev w_U_begin : List Cond := Cond.code y_U_begin b_U_begin 6 (some .int) ::  lw_g
abbrev b_U_append : ByteArray := prog_7_method_8_code
abbrev y_U_append : MethodName := ⟨"DocumentFile$Runs", "append", "(I)V"⟩
abbrev w_U_append : List Cond := Cond.code y_U_append b_U_append 2 none ::  lw_g
abbrev b_U_part : ByteArray := prog_7_method_9_code
abbrev y_U_part : MethodName := ⟨"DocumentFile$Runs", "part", "(II)I"⟩
abbrev w_U_part : List Cond := Cond.code y_U_part b_U_part 3 (some .int) ::  lw_g
abbrev b_U_character : ByteArray := prog_7_method_10_code
abbrev y_U_character : MethodName := ⟨"DocumentFile$Runs", "character", "(I)I"⟩
abbrev w_U_character : List Cond := Cond.code y_U_character b_U_character 2 (some .int) ::  lw_g
abbrev b_W_init : ByteArray := prog_8_method_1_code
abbrev y_W_init : MethodName := ⟨"DocumentFile$Writer", "<init>", "(LDocumentFile$Octets;)V"⟩
abbrev w_W_init : List Cond := Cond.code y_W_init b_W_init 2 none ::  lw_g
abbrev b_W_write : ByteArray := prog_8_method_2_code
abbrev y_W_write : MethodName := ⟨"DocumentFile$Writer", "write", "(LDocumentFile$Document;)V"⟩
abbrev w_W_write : List Cond := Cond.code y_W_write b_W_write 3 none ::  lw_g
abbrev b_W_writeNumber : ByteArray := prog_8_method_3_code
abbrev y_W_writeNumber : MethodName := ⟨"DocumentFile$Writer", "writeNumber", "(I)V"⟩
abbrev w_W_writeNumber : List Cond := Cond.code y_W_writeNumber b_W_writeNumber 2 none ::  lw_g
abbrev b_W_writeStyles : ByteArray := prog_8_method_4_code
abbrev y_W_writeStyles : MethodName := ⟨"DocumentFile$Writer", "writeStyles", "(LDocumentFile$Document;)V"⟩
abbrev w_W_writeStyles : List Cond := Cond.code y_W_writeStyles b_W_writeStyles 3 none ::  lw_g
abbrev b_W_writeProperties : ByteArray := prog_8_method_5_code
abbrev y_W_writeProperties : MethodName := ⟨"DocumentFile$Writer", "writeProperties", "(LDocumentFile$PropertyRows;I)V"⟩
abbrev w_W_writeProperties : List Cond := Cond.code y_W_writeProperties b_W_writeProperties 5 none ::  lw_g
abbrev b_W_joinedRuns : ByteArray := prog_8_method_6_code
abbrev y_W_joinedRuns : MethodName := ⟨"DocumentFile$Writer", "joinedRuns", "(LDocumentFile$Document;)I"⟩
abbrev w_W_joinedRuns : List Cond := Cond.code y_W_joinedRuns b_W_joinedRuns 4 (some .int) ::  lw_g
abbrev b_W_writeRun : ByteArray := prog_8_method_7_code
abbrev y_W_writeRun : MethodName := ⟨"DocumentFile$Writer", "writeRun", "(LDocumentFile$Document;I)V"⟩
abbrev w_W_writeRun : List Cond := Cond.code y_W_writeRun b_W_writeRun 7 none ::  lw_g
abbrev b_W_joinedLength : ByteArray := prog_8_method_8_code
abbrev y_W_joinedLength : MethodName := ⟨"DocumentFile$Writer", "joinedLength", "(LDocumentFile$Document;I)I"⟩
abbrev w_W_joinedLength : List Cond := Cond.code y_W_joinedLength b_W_joinedLength 5 (some .int) ::  lw_g
abbrev b_W_writeSet : ByteArray := prog_8_method_9_code
abbrev y_W_writeSet : MethodName := ⟨"DocumentFile$Writer", "writeSet", "(LDocumentFile$Document;II)V"⟩
abbrev w_W_writeSet : List Cond := Cond.code y_W_writeSet b_W_writeSet 5 none ::  lw_g
abbrev b_W_numberOfSet : ByteArray := prog_8_method_10_code
abbrev y_W_numberOfSet : MethodName := ⟨"DocumentFile$Writer", "numberOfSet", "(LDocumentFile$Document;I)I"⟩
abbrev w_W_numberOfSet : List Cond := Cond.code y_W_numberOfSet b_W_numberOfSet 4 (some .int) ::  lw_g
abbrev b_W_writeMark : ByteArray := prog_8_method_11_code
abbrev y_W_writeMark : MethodName := ⟨"DocumentFile$Writer", "writeMark", "(LDocumentFile$Document;I)V"⟩
abbrev w_W_writeMark : List Cond := Cond.code y_W_writeMark b_W_writeMark 5 none ::  lw_g
abbrev b_W_numberOfMark : ByteArray := prog_8_method_12_code
abbrev y_W_numberOfMark : MethodName := ⟨"DocumentFile$Writer", "numberOfMark", "(LDocumentFile$Document;I)I"⟩
abbrev w_W_numberOfMark : List Cond := Cond.code y_W_numberOfMark b_W_numberOfMark 4 (some .int) ::  lw_g
set_option maxRecDepth 20000 in
theorem mm_0 : (.selects "DocumentFile$Writer" ⟨"DocumentFile$Writer", "writeStyles", "(LDocumentFile$Document;)V"⟩ ⟨"DocumentFile$Writer", "writeStyles", "(LDocumentFile$Document;)V"⟩ : Cond) ∈ lw_g := lw_g_of (mt0 (List.mem_of_getElem? (i := 0) (by decide +kernel))) rfl
set_option maxRecDepth 20000 in
theorem mm_1 : (.selects "DocumentFile$Writer" ⟨"DocumentFile$Writer", "writeNumber", "(I)V"⟩ ⟨"DocumentFile$Writer", "writeNumber", "(I)V"⟩ : Cond) ∈ lw_g := lw_g_of (mt0 (List.mem_of_getElem? (i := 1) (by decide +kernel))) rfl
set_option maxRecDepth 20000 in
theorem mm_2 : (.selects "DocumentFile$Writer" ⟨"DocumentFile$Writer", "writeProperties", "(LDocumentFile$PropertyRows;I)V"⟩ ⟨"DocumentFile$Writer", "writeProperties", "(LDocumentFile$PropertyRows;I)V"⟩ : Cond) ∈ lw_g := lw_g_of (mt0 (List.mem_of_getElem? (i := 2) (by decide +kernel))) rfl
set_option maxRecDepth 20000 in
theorem mm_3 : (.selects "DocumentFile$Writer" ⟨"DocumentFile$Writer", "joinedRuns", "(LDocumentFile$Document;)I"⟩ ⟨"DocumentFile$Writer", "joinedRuns", "(LDocumentFile$Document;)I"⟩ : Cond) ∈ lw_g := lw_g_of (mt0 (List.mem_of_getElem? (i := 3) (by decide +kernel))) rfl
set_option maxRecDepth 20000 in
theorem mm_4 : (.selects "DocumentFile$Writer" ⟨"DocumentFile$Writer", "writeRun", "(LDocumentFile$Document;I)V"⟩ ⟨"DocumentFile$Writer", "writeRun", "(LDocumentFile$Document;I)V"⟩ : Cond) ∈ lw_g := lw_g_of (mt0 (List.mem_of_getElem? (i := 4) (by decide +kernel))) rfl
set_option maxRecDepth 20000 in
theorem mm_5 : (.selects "DocumentFile$Writer" ⟨"DocumentFile$Writer", "writeSet", "(LDocumentFile$Document;II)V"⟩ ⟨"DocumentFile$Writer", "writeSet", "(LDocumentFile$Document;II)V"⟩ : Cond) ∈ lw_g := lw_g_of (mt0 (List.mem_of_getElem? (i := 5) (by decide +kernel))) rfl
set_option maxRecDepth 20000 in
theorem mm_6 : (.selects "DocumentFile$Writer" ⟨"DocumentFile$Writer", "numberOfSet", "(LDocumentFile$Document;I)I"⟩ ⟨"DocumentFile$Writer", "numberOfSet", "(LDocumentFile$Document;I)I"⟩ : Cond) ∈ lw_g := lw_g_of (mt0 (List.mem_of_getElem? (i := 6) (by decide +kernel))) rfl
set_option maxRecDepth 20000 in
theorem mm_7 : (.selects "DocumentFile$Writer" ⟨"DocumentFile$Writer", "writeMark", "(LDocumentFile$Document;I)V"⟩ ⟨"DocumentFile$Writer", "writeMark", "(LDocumentFile$Document;I)V"⟩ : Cond) ∈ lw_g := lw_g_of (mt0 (List.mem_of_getElem? (i := 7) (by decide +kernel))) rfl
set_option maxRecDepth 20000 in
theorem mm_8 : (.selects "DocumentFile$Writer" ⟨"DocumentFile$Writer", "numberOfMark", "(LDocumentFile$Document;I)I"⟩ ⟨"DocumentFile$Writer", "numberOfMark", "(LDocumentFile$Document;I)I"⟩ : Cond) ∈ lw_g := lw_g_of (mt0 (List.mem_of_getElem? (i := 8) (by decide +kernel))) rfl
set_option maxRecDepth 20000 in
theorem mm_9 : (.selects "DocumentFile$Writer" ⟨"DocumentFile$Writer", "joinedLength", "(LDocumentFile$Document;I)I"⟩ ⟨"DocumentFile$Writer", "joinedLength", "(LDocumentFile$Document;I)I"⟩ : Cond) ∈ lw_g := lw_g_of (mt0 (List.mem_of_getElem? (i := 9) (by decide +kernel))) rfl
set_option maxRecDepth 20000 in
theorem mm_10 : (.selects "DocumentFile$Reader" ⟨"DocumentFile$Reader", "readHead", "()V"⟩ ⟨"DocumentFile$Reader", "readHead", "()V"⟩ : Cond) ∈ lw_g := lw_g_of (mt0 (List.mem_of_getElem? (i := 10) (by decide +kernel))) rfl
set_option maxRecDepth 20000 in
theorem mm_11 : (.selects "DocumentFile$Reader" ⟨"DocumentFile$Reader", "failed", "()Z"⟩ ⟨"DocumentFile$Reader", "failed", "()Z"⟩ : Cond) ∈ lw_g := lw_g_of (mt0 (List.mem_of_getElem? (i := 11) (by decide +kernel))) rfl
set_option maxRecDepth 20000 in
theorem mm_12 : (.selects "DocumentFile$Reader" ⟨"DocumentFile$Reader", "refuse", "(I)I"⟩ ⟨"DocumentFile$Reader", "refuse", "(I)I"⟩ : Cond) ∈ lw_g := lw_g_of (mt0 (List.mem_of_getElem? (i := 12) (by decide +kernel))) rfl
set_option maxRecDepth 20000 in
theorem mm_13 : (.selects "DocumentFile$Reader" ⟨"DocumentFile$Reader", "readStyles", "(LDocumentFile$Document;)V"⟩ ⟨"DocumentFile$Reader", "readStyles", "(LDocumentFile$Document;)V"⟩ : Cond) ∈ lw_g := lw_g_of (mt0 (List.mem_of_getElem? (i := 13) (by decide +kernel))) rfl
set_option maxRecDepth 20000 in
theorem mm_14 : (.selects "DocumentFile$Reader" ⟨"DocumentFile$Reader", "readNumber", "(II)I"⟩ ⟨"DocumentFile$Reader", "readNumber", "(II)I"⟩ : Cond) ∈ lw_g := lw_g_of (mt0 (List.mem_of_getElem? (i := 14) (by decide +kernel))) rfl
set_option maxRecDepth 20000 in
theorem mm_15 : (.selects "DocumentFile$Reader" ⟨"DocumentFile$Reader", "readBase", "(LDocumentFile$Document;I)V"⟩ ⟨"DocumentFile$Reader", "readBase", "(LDocumentFile$Document;I)V"⟩ : Cond) ∈ lw_g := lw_g_of (mt0 (List.mem_of_getElem? (i := 15) (by decide +kernel))) rfl
set_option maxRecDepth 20000 in
theorem mm_16 : (.selects "DocumentFile$Reader" ⟨"DocumentFile$Reader", "readProperties", "(LDocumentFile$PropertyRows;I)V"⟩ ⟨"DocumentFile$Reader", "readProperties", "(LDocumentFile$PropertyRows;I)V"⟩ : Cond) ∈ lw_g := lw_g_of (mt0 (List.mem_of_getElem? (i := 16) (by decide +kernel))) rfl
set_option maxRecDepth 20000 in
theorem mm_17 : (.selects "DocumentFile$Reader" ⟨"DocumentFile$Reader", "readRun", "(LDocumentFile$Document;)V"⟩ ⟨"DocumentFile$Reader", "readRun", "(LDocumentFile$Document;)V"⟩ : Cond) ∈ lw_g := lw_g_of (mt0 (List.mem_of_getElem? (i := 17) (by decide +kernel))) rfl
set_option maxRecDepth 20000 in
theorem mm_18 : (.selects "DocumentFile$Reader" ⟨"DocumentFile$Reader", "readSet", "(LDocumentFile$Document;I)I"⟩ ⟨"DocumentFile$Reader", "readSet", "(LDocumentFile$Document;I)I"⟩ : Cond) ∈ lw_g := lw_g_of (mt0 (List.mem_of_getElem? (i := 18) (by decide +kernel))) rfl
set_option maxRecDepth 20000 in
theorem mm_19 : (.selects "DocumentFile$Reader" ⟨"DocumentFile$Reader", "readMark", "(LDocumentFile$Document;)I"⟩ ⟨"DocumentFile$Reader", "readMark", "(LDocumentFile$Document;)I"⟩ : Cond) ∈ lw_g := lw_g_of (mt0 (List.mem_of_getElem? (i := 19) (by decide +kernel))) rfl
set_option maxRecDepth 20000 in
theorem mm_20 : (.selects "DocumentFile$Reader" ⟨"DocumentFile$Reader", "readCharacters", "(LDocumentFile$Runs;I)V"⟩ ⟨"DocumentFile$Reader", "readCharacters", "(LDocumentFile$Runs;I)V"⟩ : Cond) ∈ lw_g := lw_g_of (mt0 (List.mem_of_getElem? (i := 20) (by decide +kernel))) rfl
set_option maxRecDepth 20000 in
theorem mm_21 : (.selects "DocumentFile$Reader" ⟨"DocumentFile$Reader", "readCharacter", "()I"⟩ ⟨"DocumentFile$Reader", "readCharacter", "()I"⟩ : Cond) ∈ lw_g := lw_g_of (mt0 (List.mem_of_getElem? (i := 21) (by decide +kernel))) rfl
set_option maxRecDepth 20000 in
theorem mm_22 : (.selects "DocumentFileModel" ⟨"DocumentFileModel", "empty", "(I)V"⟩ ⟨"DocumentFileModel", "empty", "(I)V"⟩ : Cond) ∈ lw_g := lw_g_of (mt0 (List.mem_of_getElem? (i := 22) (by decide +kernel))) rfl
set_option maxRecDepth 20000 in
theorem mm_23 : (.selects "DocumentFileModel" ⟨"DocumentFileModel", "bare", "(III)V"⟩ ⟨"DocumentFileModel", "bare", "(III)V"⟩ : Cond) ∈ lw_g := lw_g_of (mt0 (List.mem_of_getElem? (i := 23) (by decide +kernel))) rfl
set_option maxRecDepth 20000 in
theorem mm_24 : (.selects "DocumentFileModel" ⟨"DocumentFileModel", "isRow", "(II)Z"⟩ ⟨"DocumentFileModel", "isRow", "(II)Z"⟩ : Cond) ∈ lw_g := lw_g_of (mt0 (List.mem_of_getElem? (i := 24) (by decide +kernel))) rfl
set_option maxRecDepth 20000 in
theorem mm_25 : (.selects "DocumentFileModel" ⟨"DocumentFileModel", "isSet", "(I)Z"⟩ ⟨"DocumentFileModel", "isSet", "(I)Z"⟩ : Cond) ∈ lw_g := lw_g_of (mt0 (List.mem_of_getElem? (i := 25) (by decide +kernel))) rfl
set_option maxRecDepth 20000 in
theorem mm_26 : (.selects "DocumentFileModel" ⟨"DocumentFileModel", "isMark", "(I)Z"⟩ ⟨"DocumentFileModel", "isMark", "(I)Z"⟩ : Cond) ∈ lw_g := lw_g_of (mt0 (List.mem_of_getElem? (i := 26) (by decide +kernel))) rfl
set_option maxRecDepth 20000 in
theorem mm_27 : (.selects "DocumentFileModel" ⟨"DocumentFileModel", "add", "(IIIII)I"⟩ ⟨"DocumentFileModel", "add", "(IIIII)I"⟩ : Cond) ∈ lw_g := lw_g_of (mt0 (List.mem_of_getElem? (i := 27) (by decide +kernel))) rfl
set_option maxRecDepth 20000 in
theorem mm_28 : (.selects "DocumentFileModel" ⟨"DocumentFileModel", "octetOut", "(I)V"⟩ ⟨"DocumentFileModel", "octetOut", "(I)V"⟩ : Cond) ∈ lw_g := lw_g_of (mt0 (List.mem_of_getElem? (i := 28) (by decide +kernel))) rfl
set_option maxRecDepth 20000 in
theorem mm_29 : (.selects "DocumentFileModel" ⟨"DocumentFileModel", "number", "(I)V"⟩ ⟨"DocumentFileModel", "number", "(I)V"⟩ : Cond) ∈ lw_g := lw_g_of (mt0 (List.mem_of_getElem? (i := 29) (by decide +kernel))) rfl
set_option maxRecDepth 20000 in
theorem mm_30 : (.selects "DocumentFileModel" ⟨"DocumentFileModel", "properties", "(I)V"⟩ ⟨"DocumentFileModel", "properties", "(I)V"⟩ : Cond) ∈ lw_g := lw_g_of (mt0 (List.mem_of_getElem? (i := 30) (by decide +kernel))) rfl
set_option maxRecDepth 20000 in
theorem mm_31 : (.selects "DocumentFileModel" ⟨"DocumentFileModel", "joined", "(I)I"⟩ ⟨"DocumentFileModel", "joined", "(I)I"⟩ : Cond) ∈ lw_g := lw_g_of (mt0 (List.mem_of_getElem? (i := 31) (by decide +kernel))) rfl
set_option maxRecDepth 20000 in
theorem mm_32 : (.selects "DocumentFileModel" ⟨"DocumentFileModel", "sameRuns", "(III)Z"⟩ ⟨"DocumentFileModel", "sameRuns", "(III)Z"⟩ : Cond) ∈ lw_g := lw_g_of (mt0 (List.mem_of_getElem? (i := 32) (by decide +kernel))) rfl
set_option maxRecDepth 20000 in
theorem mm_33 : (.selects "DocumentFileModel" ⟨"DocumentFileModel", "firstSet", "(II)I"⟩ ⟨"DocumentFileModel", "firstSet", "(II)I"⟩ : Cond) ∈ lw_g := lw_g_of (mt0 (List.mem_of_getElem? (i := 33) (by decide +kernel))) rfl
set_option maxRecDepth 20000 in
theorem mm_34 : (.selects "DocumentFileModel" ⟨"DocumentFileModel", "sameSets", "(III)Z"⟩ ⟨"DocumentFileModel", "sameSets", "(III)Z"⟩ : Cond) ∈ lw_g := lw_g_of (mt0 (List.mem_of_getElem? (i := 34) (by decide +kernel))) rfl
set_option maxRecDepth 20000 in
theorem mm_35 : (.selects "DocumentFileModel" ⟨"DocumentFileModel", "firstMark", "(II)I"⟩ ⟨"DocumentFileModel", "firstMark", "(II)I"⟩ : Cond) ∈ lw_g := lw_g_of (mt0 (List.mem_of_getElem? (i := 35) (by decide +kernel))) rfl
set_option maxRecDepth 20000 in
theorem mm_36 : (.selects "DocumentFileModel" ⟨"DocumentFileModel", "sameMarks", "(III)Z"⟩ ⟨"DocumentFileModel", "sameMarks", "(III)Z"⟩ : Cond) ∈ lw_g := lw_g_of (mt0 (List.mem_of_getElem? (i := 36) (by decide +kernel))) rfl
set_option maxRecDepth 20000 in
theorem mm_37 : (.selects "DocumentFileModel" ⟨"DocumentFileModel", "setOut", "(II)V"⟩ ⟨"DocumentFileModel", "setOut", "(II)V"⟩ : Cond) ∈ lw_g := lw_g_of (mt0 (List.mem_of_getElem? (i := 37) (by decide +kernel))) rfl
set_option maxRecDepth 20000 in
theorem mm_38 : (.selects "DocumentFileModel" ⟨"DocumentFileModel", "markOut", "(I)V"⟩ ⟨"DocumentFileModel", "markOut", "(I)V"⟩ : Cond) ∈ lw_g := lw_g_of (mt0 (List.mem_of_getElem? (i := 38) (by decide +kernel))) rfl
set_option maxRecDepth 20000 in
theorem mm_39 : (.selects "DocumentFileModel" ⟨"DocumentFileModel", "readByte", "(I)V"⟩ ⟨"DocumentFileModel", "readByte", "(I)V"⟩ : Cond) ∈ lw_g := lw_g_of (mt0 (List.mem_of_getElem? (i := 39) (by decide +kernel))) rfl
set_option maxRecDepth 20000 in
theorem mm_40 : (.selects "DocumentFileModel" ⟨"DocumentFileModel", "wrong", "(I)V"⟩ ⟨"DocumentFileModel", "wrong", "(I)V"⟩ : Cond) ∈ lw_g := lw_g_of (mt0 (List.mem_of_getElem? (i := 40) (by decide +kernel))) rfl
set_option maxRecDepth 20000 in
theorem mm_41 : (.selects "DocumentFileModel" ⟨"DocumentFileModel", "readStyles", "(I)V"⟩ ⟨"DocumentFileModel", "readStyles", "(I)V"⟩ : Cond) ∈ lw_g := lw_g_of (mt0 (List.mem_of_getElem? (i := 41) (by decide +kernel))) rfl
set_option maxRecDepth 20000 in
theorem mm_42 : (.selects "DocumentFileModel" ⟨"DocumentFileModel", "readNumber", "(I)I"⟩ ⟨"DocumentFileModel", "readNumber", "(I)I"⟩ : Cond) ∈ lw_g := lw_g_of (mt0 (List.mem_of_getElem? (i := 42) (by decide +kernel))) rfl
set_option maxRecDepth 20000 in
theorem mm_43 : (.selects "DocumentFileModel" ⟨"DocumentFileModel", "readProperties", "(I)V"⟩ ⟨"DocumentFileModel", "readProperties", "(I)V"⟩ : Cond) ∈ lw_g := lw_g_of (mt0 (List.mem_of_getElem? (i := 43) (by decide +kernel))) rfl
set_option maxRecDepth 20000 in
theorem mm_44 : (.selects "DocumentFileModel" ⟨"DocumentFileModel", "readRun", "(II)V"⟩ ⟨"DocumentFileModel", "readRun", "(II)V"⟩ : Cond) ∈ lw_g := lw_g_of (mt0 (List.mem_of_getElem? (i := 44) (by decide +kernel))) rfl
set_option maxRecDepth 20000 in
theorem mm_45 : (.selects "DocumentFileModel" ⟨"DocumentFileModel", "readSet", "(II)I"⟩ ⟨"DocumentFileModel", "readSet", "(II)I"⟩ : Cond) ∈ lw_g := lw_g_of (mt0 (List.mem_of_getElem? (i := 45) (by decide +kernel))) rfl
set_option maxRecDepth 20000 in
theorem mm_46 : (.selects "DocumentFileModel" ⟨"DocumentFileModel", "readMark", "(I)I"⟩ ⟨"DocumentFileModel", "readMark", "(I)I"⟩ : Cond) ∈ lw_g := lw_g_of (mt0 (List.mem_of_getElem? (i := 46) (by decide +kernel))) rfl
set_option maxRecDepth 20000 in
theorem mm_47 : (.initialized "DocumentFileLaw" : Cond) ∈ lw_g := lw_g_of (mt1 (List.mem_of_getElem? (i := 0) (by decide +kernel))) rfl
set_option maxRecDepth 20000 in
theorem mm_48 : (.initialized "DocumentFile" : Cond) ∈ lw_g := lw_g_of (mt1 (List.mem_of_getElem? (i := 1) (by decide +kernel))) rfl
set_option maxRecDepth 20000 in
theorem mm_49 : (.initialized "DocumentFile$Document" : Cond) ∈ lw_g := lw_g_of (mt1 (List.mem_of_getElem? (i := 2) (by decide +kernel))) rfl
set_option maxRecDepth 20000 in
theorem mm_50 : (.initialized "DocumentFile$PropertyRows" : Cond) ∈ lw_g := lw_g_of (mt1 (List.mem_of_getElem? (i := 3) (by decide +kernel))) rfl
set_option maxRecDepth 20000 in
theorem mm_51 : (.initialized "DocumentFile$Marks" : Cond) ∈ lw_g := lw_g_of (mt1 (List.mem_of_getElem? (i := 4) (by decide +kernel))) rfl
set_option maxRecDepth 20000 in
theorem mm_52 : (.initialized "DocumentFile$Runs" : Cond) ∈ lw_g := lw_g_of (mt1 (List.mem_of_getElem? (i := 5) (by decide +kernel))) rfl
set_option maxRecDepth 20000 in
theorem mm_53 : (.initialized "DocumentFile$Octets" : Cond) ∈ lw_g := lw_g_of (mt1 (List.mem_of_getElem? (i := 6) (by decide +kernel))) rfl
set_option maxRecDepth 20000 in
theorem mm_54 : (.initialized "DocumentFile$Reader" : Cond) ∈ lw_g := lw_g_of (mt1 (List.mem_of_getElem? (i := 7) (by decide +kernel))) rfl
set_option maxRecDepth 20000 in
theorem mm_55 : (.initialized "DocumentFile$Writer" : Cond) ∈ lw_g := lw_g_of (mt1 (List.mem_of_getElem? (i := 8) (by decide +kernel))) rfl
set_option maxRecDepth 20000 in
theorem mm_56 : (.initialized "DocumentFileModel" : Cond) ∈ lw_g := lw_g_of (mt1 (List.mem_of_getElem? (i := 9) (by decide +kernel))) rfl
set_option maxRecDepth 20000 in
theorem mm_57 : (.classLink "DocumentFileLaw" 7 "DocumentFile" : Cond) ∈ lw_g := lw_g_of (mt1 (List.mem_of_getElem? (i := 10) (by decide +kernel))) rfl
set_option maxRecDepth 20000 in
theorem mm_58 : (.instantiable "DocumentFile" 5 : Cond) ∈ lw_g := lw_g_of (mt1 (List.mem_of_getElem? (i := 11) (by decide +kernel))) rfl
set_option maxRecDepth 20000 in
theorem mm_59 : (.methodLink "DocumentFileLaw" 9 ⟨"DocumentFile", "<init>", "()V"⟩ : Cond) ∈ lw_g := lw_g_of (mt1 (List.mem_of_getElem? (i := 12) (by decide +kernel))) rfl
set_option maxRecDepth 20000 in
theorem mm_60 : (.instanceMethod ⟨"DocumentFile", "<init>", "()V"⟩ : Cond) ∈ lw_g := lw_g_of (mt1 (List.mem_of_getElem? (i := 13) (by decide +kernel))) rfl
set_option maxRecDepth 20000 in
theorem mm_61 : (.code ⟨"DocumentFile", "<init>", "()V"⟩ prog_1_method_1_code 1 none : Cond) ∈ lw_g := lw_g_of (mt1 (List.mem_of_getElem? (i := 14) rfl)) rfl
set_option maxRecDepth 20000 in
theorem mm_62 : (.methodLink "DocumentFile" 1 ⟨"java/lang/Object", "<init>", "()V"⟩ : Cond) ∈ lw_g := lw_g_of (mt1 (List.mem_of_getElem? (i := 15) (by decide +kernel))) rfl
set_option maxRecDepth 20000 in
theorem mm_63 : (.instanceMethod ⟨"java/lang/Object", "<init>", "()V"⟩ : Cond) ∈ lw_g := lw_g_of (mt1 (List.mem_of_getElem? (i := 16) (by decide +kernel))) rfl
set_option maxRecDepth 20000 in
theorem mm_64 : (.code ⟨"java/lang/Object", "<init>", "()V"⟩ object_method_1_code 1 none : Cond) ∈ lw_g := lw_g_of (mt1 (List.mem_of_getElem? (i := 17) rfl)) rfl
set_option maxRecDepth 20000 in
theorem mm_65 : (.classLink "DocumentFile" 7 "DocumentFile$Document" : Cond) ∈ lw_g := lw_g_of (mt1 (List.mem_of_getElem? (i := 18) (by decide +kernel))) rfl
set_option maxRecDepth 20000 in
theorem mm_66 : (.instantiable "DocumentFile$Document" 5 : Cond) ∈ lw_g := lw_g_of (mt1 (List.mem_of_getElem? (i := 19) (by decide +kernel))) rfl
set_option maxRecDepth 20000 in
theorem mm_67 : (.methodLink "DocumentFile" 9 ⟨"DocumentFile$Document", "<init>", "()V"⟩ : Cond) ∈ lw_g := lw_g_of (mt1 (List.mem_of_getElem? (i := 20) (by decide +kernel))) rfl
set_option maxRecDepth 20000 in
theorem mm_68 : (.instanceMethod ⟨"DocumentFile$Document", "<init>", "()V"⟩ : Cond) ∈ lw_g := lw_g_of (mt1 (List.mem_of_getElem? (i := 21) (by decide +kernel))) rfl
set_option maxRecDepth 20000 in
theorem mm_69 : (.code ⟨"DocumentFile$Document", "<init>", "()V"⟩ prog_2_method_1_code 1 none : Cond) ∈ lw_g := lw_g_of (mt1 (List.mem_of_getElem? (i := 22) rfl)) rfl
set_option maxRecDepth 20000 in
theorem mm_70 : (.methodLink "DocumentFile$Document" 3 ⟨"java/lang/Object", "<init>", "()V"⟩ : Cond) ∈ lw_g := lw_g_of (mt1 (List.mem_of_getElem? (i := 23) (by decide +kernel))) rfl
set_option maxRecDepth 20000 in
theorem mm_71 : (.classLink "DocumentFile$Document" 9 "DocumentFile$PropertyRows" : Cond) ∈ lw_g := lw_g_of (mt1 (List.mem_of_getElem? (i := 24) (by decide +kernel))) rfl
set_option maxRecDepth 20000 in
theorem mm_72 : (.instantiable "DocumentFile$PropertyRows" 3 : Cond) ∈ lw_g := lw_g_of (mt1 (List.mem_of_getElem? (i := 25) (by decide +kernel))) rfl
set_option maxRecDepth 20000 in
theorem mm_73 : (.methodLink "DocumentFile$Document" 11 ⟨"DocumentFile$PropertyRows", "<init>", "(I)V"⟩ : Cond) ∈ lw_g := lw_g_of (mt1 (List.mem_of_getElem? (i := 26) (by decide +kernel))) rfl
set_option maxRecDepth 20000 in
theorem mm_74 : (.instanceMethod ⟨"DocumentFile$PropertyRows", "<init>", "(I)V"⟩ : Cond) ∈ lw_g := lw_g_of (mt1 (List.mem_of_getElem? (i := 27) (by decide +kernel))) rfl
set_option maxRecDepth 20000 in
theorem mm_75 : (.code ⟨"DocumentFile$PropertyRows", "<init>", "(I)V"⟩ prog_5_method_1_code 2 none : Cond) ∈ lw_g := lw_g_of (mt1 (List.mem_of_getElem? (i := 28) rfl)) rfl
set_option maxRecDepth 20000 in
theorem mm_76 : (.methodLink "DocumentFile$PropertyRows" 3 ⟨"java/lang/Object", "<init>", "()V"⟩ : Cond) ∈ lw_g := lw_g_of (mt1 (List.mem_of_getElem? (i := 29) (by decide +kernel))) rfl
set_option maxRecDepth 20000 in
theorem mm_77 : (.fieldLink "DocumentFile$PropertyRows" 9 "DocumentFile$PropertyRows" "most" "I" : Cond) ∈ lw_g := lw_g_of (mt1 (List.mem_of_getElem? (i := 30) (by decide +kernel))) rfl
set_option maxRecDepth 20000 in
theorem mm_78 : (.fieldLink "DocumentFile$PropertyRows" 15 "DocumentFile$PropertyRows" "values" "[I" : Cond) ∈ lw_g := lw_g_of (mt1 (List.mem_of_getElem? (i := 31) (by decide +kernel))) rfl
set_option maxRecDepth 20000 in
theorem mm_79 : (.fieldLink "DocumentFile$PropertyRows" 19 "DocumentFile$PropertyRows" "rows" "I" : Cond) ∈ lw_g := lw_g_of (mt1 (List.mem_of_getElem? (i := 32) (by decide +kernel))) rfl
set_option maxRecDepth 20000 in
theorem mm_80 : (.laysFinal "DocumentFile$PropertyRows" "DocumentFile$PropertyRows" "most" "I" : Cond) ∈ lw_g := lw_g_of (mt1 (List.mem_of_getElem? (i := 33) (by decide +kernel))) rfl
set_option maxRecDepth 20000 in
theorem mm_81 : (.soleField "DocumentFile$PropertyRows" "most" : Cond) ∈ lw_g := lw_g_of (mt1 (List.mem_of_getElem? (i := 34) (by decide +kernel))) rfl
set_option maxRecDepth 20000 in
theorem mm_82 : (.laysFinal "DocumentFile$PropertyRows" "DocumentFile$PropertyRows" "values" "[I" : Cond) ∈ lw_g := lw_g_of (mt1 (List.mem_of_getElem? (i := 35) (by decide +kernel))) rfl
set_option maxRecDepth 20000 in
theorem mm_83 : (.soleField "DocumentFile$PropertyRows" "values" : Cond) ∈ lw_g := lw_g_of (mt1 (List.mem_of_getElem? (i := 36) (by decide +kernel))) rfl
set_option maxRecDepth 20000 in
theorem mm_84 : (.lays "DocumentFile$PropertyRows" "DocumentFile$PropertyRows" "rows" "I" : Cond) ∈ lw_g := lw_g_of (mt1 (List.mem_of_getElem? (i := 37) (by decide +kernel))) rfl
set_option maxRecDepth 20000 in
theorem mm_85 : (.soleField "DocumentFile$PropertyRows" "rows" : Cond) ∈ lw_g := lw_g_of (mt1 (List.mem_of_getElem? (i := 38) (by decide +kernel))) rfl
set_option maxRecDepth 20000 in
theorem mm_86 : (.superclass "DocumentFile$PropertyRows" "java/lang/Object" : Cond) ∈ lw_g := lw_g_of (mt1 (List.mem_of_getElem? (i := 39) (by decide +kernel))) rfl
set_option maxRecDepth 20000 in
theorem mm_87 : (.arrayClass .int : Cond) ∈ lw_g := lw_g_of (mt1 (List.mem_of_getElem? (i := 40) (by decide +kernel))) rfl
set_option maxRecDepth 20000 in
theorem mm_88 : (.classLink "DocumentFile$Document" 23 "DocumentFile$Marks" : Cond) ∈ lw_g := lw_g_of (mt1 (List.mem_of_getElem? (i := 41) (by decide +kernel))) rfl
set_option maxRecDepth 20000 in
theorem mm_89 : (.instantiable "DocumentFile$Marks" 2 : Cond) ∈ lw_g := lw_g_of (mt1 (List.mem_of_getElem? (i := 42) (by decide +kernel))) rfl
set_option maxRecDepth 20000 in
theorem mm_90 : (.methodLink "DocumentFile$Document" 25 ⟨"DocumentFile$Marks", "<init>", "()V"⟩ : Cond) ∈ lw_g := lw_g_of (mt1 (List.mem_of_getElem? (i := 43) (by decide +kernel))) rfl
set_option maxRecDepth 20000 in
theorem mm_91 : (.instanceMethod ⟨"DocumentFile$Marks", "<init>", "()V"⟩ : Cond) ∈ lw_g := lw_g_of (mt1 (List.mem_of_getElem? (i := 44) (by decide +kernel))) rfl
set_option maxRecDepth 20000 in
theorem mm_92 : (.code ⟨"DocumentFile$Marks", "<init>", "()V"⟩ prog_3_method_1_code 1 none : Cond) ∈ lw_g := lw_g_of (mt1 (List.mem_of_getElem? (i := 45) rfl)) rfl
set_option maxRecDepth 20000 in
theorem mm_93 : (.methodLink "DocumentFile$Marks" 3 ⟨"java/lang/Object", "<init>", "()V"⟩ : Cond) ∈ lw_g := lw_g_of (mt1 (List.mem_of_getElem? (i := 46) (by decide +kernel))) rfl
set_option maxRecDepth 20000 in
theorem mm_94 : (.fieldLink "DocumentFile$Marks" 9 "DocumentFile$Marks" "parts" "[I" : Cond) ∈ lw_g := lw_g_of (mt1 (List.mem_of_getElem? (i := 47) (by decide +kernel))) rfl
set_option maxRecDepth 20000 in
theorem mm_95 : (.fieldLink "DocumentFile$Marks" 15 "DocumentFile$Marks" "rows" "I" : Cond) ∈ lw_g := lw_g_of (mt1 (List.mem_of_getElem? (i := 48) (by decide +kernel))) rfl
set_option maxRecDepth 20000 in
theorem mm_96 : (.laysFinal "DocumentFile$Marks" "DocumentFile$Marks" "parts" "[I" : Cond) ∈ lw_g := lw_g_of (mt1 (List.mem_of_getElem? (i := 49) (by decide +kernel))) rfl
set_option maxRecDepth 20000 in
theorem mm_97 : (.soleField "DocumentFile$Marks" "parts" : Cond) ∈ lw_g := lw_g_of (mt1 (List.mem_of_getElem? (i := 50) (by decide +kernel))) rfl
set_option maxRecDepth 20000 in
theorem mm_98 : (.lays "DocumentFile$Marks" "DocumentFile$Marks" "rows" "I" : Cond) ∈ lw_g := lw_g_of (mt1 (List.mem_of_getElem? (i := 51) (by decide +kernel))) rfl
set_option maxRecDepth 20000 in
theorem mm_99 : (.soleField "DocumentFile$Marks" "rows" : Cond) ∈ lw_g := lw_g_of (mt1 (List.mem_of_getElem? (i := 52) (by decide +kernel))) rfl
set_option maxRecDepth 20000 in
theorem mm_100 : (.superclass "DocumentFile$Marks" "java/lang/Object" : Cond) ∈ lw_g := lw_g_of (mt1 (List.mem_of_getElem? (i := 53) (by decide +kernel))) rfl
set_option maxRecDepth 20000 in
theorem mm_101 : (.classLink "DocumentFile$Document" 30 "DocumentFile$Runs" : Cond) ∈ lw_g := lw_g_of (mt1 (List.mem_of_getElem? (i := 54) (by decide +kernel))) rfl
set_option maxRecDepth 20000 in
theorem mm_102 : (.instantiable "DocumentFile$Runs" 4 : Cond) ∈ lw_g := lw_g_of (mt1 (List.mem_of_getElem? (i := 55) (by decide +kernel))) rfl
set_option maxRecDepth 20000 in
theorem mm_103 : (.methodLink "DocumentFile$Document" 32 ⟨"DocumentFile$Runs", "<init>", "()V"⟩ : Cond) ∈ lw_g := lw_g_of (mt1 (List.mem_of_getElem? (i := 56) (by decide +kernel))) rfl
set_option maxRecDepth 20000 in
theorem mm_104 : (.instanceMethod ⟨"DocumentFile$Runs", "<init>", "()V"⟩ : Cond) ∈ lw_g := lw_g_of (mt1 (List.mem_of_getElem? (i := 57) (by decide +kernel))) rfl
set_option maxRecDepth 20000 in
theorem mm_105 : (.code ⟨"DocumentFile$Runs", "<init>", "()V"⟩ prog_7_method_1_code 1 none : Cond) ∈ lw_g := lw_g_of (mt1 (List.mem_of_getElem? (i := 58) rfl)) rfl
set_option maxRecDepth 20000 in
theorem mm_106 : (.methodLink "DocumentFile$Runs" 3 ⟨"java/lang/Object", "<init>", "()V"⟩ : Cond) ∈ lw_g := lw_g_of (mt1 (List.mem_of_getElem? (i := 59) (by decide +kernel))) rfl
set_option maxRecDepth 20000 in
theorem mm_107 : (.fieldLink "DocumentFile$Runs" 9 "DocumentFile$Runs" "parts" "[I" : Cond) ∈ lw_g := lw_g_of (mt1 (List.mem_of_getElem? (i := 60) (by decide +kernel))) rfl
set_option maxRecDepth 20000 in
theorem mm_108 : (.fieldLink "DocumentFile$Runs" 15 "DocumentFile$Runs" "characters" "[I" : Cond) ∈ lw_g := lw_g_of (mt1 (List.mem_of_getElem? (i := 61) (by decide +kernel))) rfl
set_option maxRecDepth 20000 in
theorem mm_109 : (.fieldLink "DocumentFile$Runs" 18 "DocumentFile$Runs" "rows" "I" : Cond) ∈ lw_g := lw_g_of (mt1 (List.mem_of_getElem? (i := 62) (by decide +kernel))) rfl
set_option maxRecDepth 20000 in
theorem mm_110 : (.fieldLink "DocumentFile$Runs" 22 "DocumentFile$Runs" "length" "I" : Cond) ∈ lw_g := lw_g_of (mt1 (List.mem_of_getElem? (i := 63) (by decide +kernel))) rfl
set_option maxRecDepth 20000 in
theorem mm_111 : (.laysFinal "DocumentFile$Runs" "DocumentFile$Runs" "parts" "[I" : Cond) ∈ lw_g := lw_g_of (mt1 (List.mem_of_getElem? (i := 64) (by decide +kernel))) rfl
set_option maxRecDepth 20000 in
theorem mm_112 : (.soleField "DocumentFile$Runs" "parts" : Cond) ∈ lw_g := lw_g_of (mt1 (List.mem_of_getElem? (i := 65) (by decide +kernel))) rfl
set_option maxRecDepth 20000 in
theorem mm_113 : (.laysFinal "DocumentFile$Runs" "DocumentFile$Runs" "characters" "[I" : Cond) ∈ lw_g := lw_g_of (mt1 (List.mem_of_getElem? (i := 66) (by decide +kernel))) rfl
set_option maxRecDepth 20000 in
theorem mm_114 : (.soleField "DocumentFile$Runs" "characters" : Cond) ∈ lw_g := lw_g_of (mt1 (List.mem_of_getElem? (i := 67) (by decide +kernel))) rfl
set_option maxRecDepth 20000 in
theorem mm_115 : (.lays "DocumentFile$Runs" "DocumentFile$Runs" "rows" "I" : Cond) ∈ lw_g := lw_g_of (mt1 (List.mem_of_getElem? (i := 68) (by decide +kernel))) rfl
set_option maxRecDepth 20000 in
theorem mm_116 : (.soleField "DocumentFile$Runs" "rows" : Cond) ∈ lw_g := lw_g_of (mt1 (List.mem_of_getElem? (i := 69) (by decide +kernel))) rfl
set_option maxRecDepth 20000 in
theorem mm_117 : (.lays "DocumentFile$Runs" "DocumentFile$Runs" "length" "I" : Cond) ∈ lw_g := lw_g_of (mt1 (List.mem_of_getElem? (i := 70) (by decide +kernel))) rfl
set_option maxRecDepth 20000 in
theorem mm_118 : (.soleField "DocumentFile$Runs" "length" : Cond) ∈ lw_g := lw_g_of (mt1 (List.mem_of_getElem? (i := 71) (by decide +kernel))) rfl
set_option maxRecDepth 20000 in
theorem mm_119 : (.superclass "DocumentFile$Runs" "java/lang/Object" : Cond) ∈ lw_g := lw_g_of (mt1 (List.mem_of_getElem? (i := 72) (by decide +kernel))) rfl
set_option maxRecDepth 20000 in
theorem mm_120 : (.fieldLink "DocumentFile$Document" 14 "DocumentFile$Document" "styles" "LDocumentFile$PropertyRows;" : Cond) ∈ lw_g := lw_g_of (mt1 (List.mem_of_getElem? (i := 73) (by decide +kernel))) rfl
set_option maxRecDepth 20000 in
theorem mm_121 : (.fieldLink "DocumentFile" 45 "DocumentFile$Document" "styles" "LDocumentFile$PropertyRows;" : Cond) ∈ lw_g := lw_g_of (mt1 (List.mem_of_getElem? (i := 74) (by decide +kernel))) rfl
set_option maxRecDepth 20000 in
theorem mm_122 : (.fieldLink "DocumentFile$Writer" 72 "DocumentFile$Document" "styles" "LDocumentFile$PropertyRows;" : Cond) ∈ lw_g := lw_g_of (mt1 (List.mem_of_getElem? (i := 75) (by decide +kernel))) rfl
set_option maxRecDepth 20000 in
theorem mm_123 : (.fieldLink "DocumentFile$Reader" 72 "DocumentFile$Document" "styles" "LDocumentFile$PropertyRows;" : Cond) ∈ lw_g := lw_g_of (mt1 (List.mem_of_getElem? (i := 76) (by decide +kernel))) rfl
set_option maxRecDepth 20000 in
theorem mm_124 : (.fieldLink "DocumentFile$Document" 20 "DocumentFile$Document" "sets" "LDocumentFile$PropertyRows;" : Cond) ∈ lw_g := lw_g_of (mt1 (List.mem_of_getElem? (i := 77) (by decide +kernel))) rfl
set_option maxRecDepth 20000 in
theorem mm_125 : (.fieldLink "DocumentFile" 59 "DocumentFile$Document" "sets" "LDocumentFile$PropertyRows;" : Cond) ∈ lw_g := lw_g_of (mt1 (List.mem_of_getElem? (i := 78) (by decide +kernel))) rfl
set_option maxRecDepth 20000 in
theorem mm_126 : (.fieldLink "DocumentFile$Writer" 114 "DocumentFile$Document" "sets" "LDocumentFile$PropertyRows;" : Cond) ∈ lw_g := lw_g_of (mt1 (List.mem_of_getElem? (i := 79) (by decide +kernel))) rfl
set_option maxRecDepth 20000 in
theorem mm_127 : (.fieldLink "DocumentFile$Reader" 122 "DocumentFile$Document" "sets" "LDocumentFile$PropertyRows;" : Cond) ∈ lw_g := lw_g_of (mt1 (List.mem_of_getElem? (i := 80) (by decide +kernel))) rfl
set_option maxRecDepth 20000 in
theorem mm_128 : (.fieldLink "DocumentFile$Document" 26 "DocumentFile$Document" "marks" "LDocumentFile$Marks;" : Cond) ∈ lw_g := lw_g_of (mt1 (List.mem_of_getElem? (i := 81) (by decide +kernel))) rfl
set_option maxRecDepth 20000 in
theorem mm_129 : (.fieldLink "DocumentFile" 70 "DocumentFile$Document" "marks" "LDocumentFile$Marks;" : Cond) ∈ lw_g := lw_g_of (mt1 (List.mem_of_getElem? (i := 82) (by decide +kernel))) rfl
set_option maxRecDepth 20000 in
theorem mm_130 : (.fieldLink "DocumentFile$Writer" 124 "DocumentFile$Document" "marks" "LDocumentFile$Marks;" : Cond) ∈ lw_g := lw_g_of (mt1 (List.mem_of_getElem? (i := 83) (by decide +kernel))) rfl
set_option maxRecDepth 20000 in
theorem mm_131 : (.fieldLink "DocumentFile$Reader" 131 "DocumentFile$Document" "marks" "LDocumentFile$Marks;" : Cond) ∈ lw_g := lw_g_of (mt1 (List.mem_of_getElem? (i := 84) (by decide +kernel))) rfl
set_option maxRecDepth 20000 in
theorem mm_132 : (.fieldLink "DocumentFile$Document" 33 "DocumentFile$Document" "runs" "LDocumentFile$Runs;" : Cond) ∈ lw_g := lw_g_of (mt1 (List.mem_of_getElem? (i := 85) (by decide +kernel))) rfl
set_option maxRecDepth 20000 in
theorem mm_133 : (.fieldLink "DocumentFile$Writer" 53 "DocumentFile$Document" "runs" "LDocumentFile$Runs;" : Cond) ∈ lw_g := lw_g_of (mt1 (List.mem_of_getElem? (i := 86) (by decide +kernel))) rfl
set_option maxRecDepth 20000 in
theorem mm_134 : (.fieldLink "DocumentFile" 84 "DocumentFile$Document" "runs" "LDocumentFile$Runs;" : Cond) ∈ lw_g := lw_g_of (mt1 (List.mem_of_getElem? (i := 87) (by decide +kernel))) rfl
set_option maxRecDepth 20000 in
theorem mm_135 : (.fieldLink "DocumentFile$Reader" 104 "DocumentFile$Document" "runs" "LDocumentFile$Runs;" : Cond) ∈ lw_g := lw_g_of (mt1 (List.mem_of_getElem? (i := 88) (by decide +kernel))) rfl
set_option maxRecDepth 20000 in
theorem mm_136 : (.fieldLink "DocumentFile$Document" 37 "DocumentFile$Document" "bases" "[I" : Cond) ∈ lw_g := lw_g_of (mt1 (List.mem_of_getElem? (i := 89) (by decide +kernel))) rfl
set_option maxRecDepth 20000 in
theorem mm_137 : (.laysFinal "DocumentFile$Document" "DocumentFile$Document" "styles" "LDocumentFile$PropertyRows;" : Cond) ∈ lw_g := lw_g_of (mt1 (List.mem_of_getElem? (i := 90) (by decide +kernel))) rfl
set_option maxRecDepth 20000 in
theorem mm_138 : (.soleField "DocumentFile$Document" "styles" : Cond) ∈ lw_g := lw_g_of (mt1 (List.mem_of_getElem? (i := 91) (by decide +kernel))) rfl
set_option maxRecDepth 20000 in
theorem mm_139 : (.laysFinal "DocumentFile$Document" "DocumentFile$Document" "sets" "LDocumentFile$PropertyRows;" : Cond) ∈ lw_g := lw_g_of (mt1 (List.mem_of_getElem? (i := 92) (by decide +kernel))) rfl
set_option maxRecDepth 20000 in
theorem mm_140 : (.soleField "DocumentFile$Document" "sets" : Cond) ∈ lw_g := lw_g_of (mt1 (List.mem_of_getElem? (i := 93) (by decide +kernel))) rfl
set_option maxRecDepth 20000 in
theorem mm_141 : (.laysFinal "DocumentFile$Document" "DocumentFile$Document" "marks" "LDocumentFile$Marks;" : Cond) ∈ lw_g := lw_g_of (mt1 (List.mem_of_getElem? (i := 94) (by decide +kernel))) rfl
set_option maxRecDepth 20000 in
theorem mm_142 : (.soleField "DocumentFile$Document" "marks" : Cond) ∈ lw_g := lw_g_of (mt1 (List.mem_of_getElem? (i := 95) (by decide +kernel))) rfl
set_option maxRecDepth 20000 in
theorem mm_143 : (.laysFinal "DocumentFile$Document" "DocumentFile$Document" "runs" "LDocumentFile$Runs;" : Cond) ∈ lw_g := lw_g_of (mt1 (List.mem_of_getElem? (i := 96) (by decide +kernel))) rfl
set_option maxRecDepth 20000 in
theorem mm_144 : (.soleField "DocumentFile$Document" "runs" : Cond) ∈ lw_g := lw_g_of (mt1 (List.mem_of_getElem? (i := 97) (by decide +kernel))) rfl
set_option maxRecDepth 20000 in
theorem mm_145 : (.laysFinal "DocumentFile$Document" "DocumentFile$Document" "bases" "[I" : Cond) ∈ lw_g := lw_g_of (mt1 (List.mem_of_getElem? (i := 98) (by decide +kernel))) rfl
set_option maxRecDepth 20000 in
theorem mm_146 : (.soleField "DocumentFile$Document" "bases" : Cond) ∈ lw_g := lw_g_of (mt1 (List.mem_of_getElem? (i := 99) (by decide +kernel))) rfl
set_option maxRecDepth 20000 in
theorem mm_147 : (.superclass "DocumentFile$Document" "java/lang/Object" : Cond) ∈ lw_g := lw_g_of (mt1 (List.mem_of_getElem? (i := 100) (by decide +kernel))) rfl
set_option maxRecDepth 20000 in
theorem mm_148 : (.classLink "DocumentFile" 19 "DocumentFile$Octets" : Cond) ∈ lw_g := lw_g_of (mt1 (List.mem_of_getElem? (i := 101) (by decide +kernel))) rfl
set_option maxRecDepth 20000 in
theorem mm_149 : (.instantiable "DocumentFile$Octets" 2 : Cond) ∈ lw_g := lw_g_of (mt1 (List.mem_of_getElem? (i := 102) (by decide +kernel))) rfl
set_option maxRecDepth 20000 in
theorem mm_150 : (.methodLink "DocumentFile" 21 ⟨"DocumentFile$Octets", "<init>", "()V"⟩ : Cond) ∈ lw_g := lw_g_of (mt1 (List.mem_of_getElem? (i := 103) (by decide +kernel))) rfl
set_option maxRecDepth 20000 in
theorem mm_151 : (.instanceMethod ⟨"DocumentFile$Octets", "<init>", "()V"⟩ : Cond) ∈ lw_g := lw_g_of (mt1 (List.mem_of_getElem? (i := 104) (by decide +kernel))) rfl
set_option maxRecDepth 20000 in
theorem mm_152 : (.code ⟨"DocumentFile$Octets", "<init>", "()V"⟩ prog_4_method_1_code 1 none : Cond) ∈ lw_g := lw_g_of (mt1 (List.mem_of_getElem? (i := 105) rfl)) rfl
set_option maxRecDepth 20000 in
theorem mm_153 : (.methodLink "DocumentFile$Octets" 3 ⟨"java/lang/Object", "<init>", "()V"⟩ : Cond) ∈ lw_g := lw_g_of (mt1 (List.mem_of_getElem? (i := 106) (by decide +kernel))) rfl
set_option maxRecDepth 20000 in
theorem mm_154 : (.fieldLink "DocumentFile$Octets" 9 "DocumentFile$Octets" "octets" "[I" : Cond) ∈ lw_g := lw_g_of (mt1 (List.mem_of_getElem? (i := 107) (by decide +kernel))) rfl
set_option maxRecDepth 20000 in
theorem mm_155 : (.fieldLink "DocumentFile$Octets" 15 "DocumentFile$Octets" "size" "I" : Cond) ∈ lw_g := lw_g_of (mt1 (List.mem_of_getElem? (i := 108) (by decide +kernel))) rfl
set_option maxRecDepth 20000 in
theorem mm_156 : (.laysFinal "DocumentFile$Octets" "DocumentFile$Octets" "octets" "[I" : Cond) ∈ lw_g := lw_g_of (mt1 (List.mem_of_getElem? (i := 109) (by decide +kernel))) rfl
set_option maxRecDepth 20000 in
theorem mm_157 : (.soleField "DocumentFile$Octets" "octets" : Cond) ∈ lw_g := lw_g_of (mt1 (List.mem_of_getElem? (i := 110) (by decide +kernel))) rfl
set_option maxRecDepth 20000 in
theorem mm_158 : (.lays "DocumentFile$Octets" "DocumentFile$Octets" "size" "I" : Cond) ∈ lw_g := lw_g_of (mt1 (List.mem_of_getElem? (i := 111) (by decide +kernel))) rfl
set_option maxRecDepth 20000 in
theorem mm_159 : (.soleField "DocumentFile$Octets" "size" : Cond) ∈ lw_g := lw_g_of (mt1 (List.mem_of_getElem? (i := 112) (by decide +kernel))) rfl
set_option maxRecDepth 20000 in
theorem mm_160 : (.superclass "DocumentFile$Octets" "java/lang/Object" : Cond) ∈ lw_g := lw_g_of (mt1 (List.mem_of_getElem? (i := 113) (by decide +kernel))) rfl
set_option maxRecDepth 20000 in
theorem mm_161 : (.classLink "DocumentFile" 26 "DocumentFile$Reader" : Cond) ∈ lw_g := lw_g_of (mt1 (List.mem_of_getElem? (i := 114) (by decide +kernel))) rfl
set_option maxRecDepth 20000 in
theorem mm_162 : (.instantiable "DocumentFile$Reader" 4 : Cond) ∈ lw_g := lw_g_of (mt1 (List.mem_of_getElem? (i := 115) (by decide +kernel))) rfl
set_option maxRecDepth 20000 in
theorem mm_163 : (.methodLink "DocumentFile" 28 ⟨"DocumentFile$Reader", "<init>", "(LDocumentFile$Octets;)V"⟩ : Cond) ∈ lw_g := lw_g_of (mt1 (List.mem_of_getElem? (i := 116) (by decide +kernel))) rfl
set_option maxRecDepth 20000 in
theorem mm_164 : (.instanceMethod ⟨"DocumentFile$Reader", "<init>", "(LDocumentFile$Octets;)V"⟩ : Cond) ∈ lw_g := lw_g_of (mt1 (List.mem_of_getElem? (i := 117) (by decide +kernel))) rfl
set_option maxRecDepth 20000 in
theorem mm_165 : (.code ⟨"DocumentFile$Reader", "<init>", "(LDocumentFile$Octets;)V"⟩ prog_6_method_1_code 2 none : Cond) ∈ lw_g := lw_g_of (mt1 (List.mem_of_getElem? (i := 118) rfl)) rfl
set_option maxRecDepth 20000 in
theorem mm_166 : (.methodLink "DocumentFile$Reader" 3 ⟨"java/lang/Object", "<init>", "()V"⟩ : Cond) ∈ lw_g := lw_g_of (mt1 (List.mem_of_getElem? (i := 119) (by decide +kernel))) rfl
set_option maxRecDepth 20000 in
theorem mm_167 : (.fieldLink "DocumentFile$Reader" 9 "DocumentFile$Reader" "file" "LDocumentFile$Octets;" : Cond) ∈ lw_g := lw_g_of (mt1 (List.mem_of_getElem? (i := 120) (by decide +kernel))) rfl
set_option maxRecDepth 20000 in
theorem mm_168 : (.fieldLink "DocumentFile$Reader" 15 "DocumentFile$Reader" "next" "I" : Cond) ∈ lw_g := lw_g_of (mt1 (List.mem_of_getElem? (i := 121) (by decide +kernel))) rfl
set_option maxRecDepth 20000 in
theorem mm_169 : (.fieldLink "DocumentFile$Reader" 19 "DocumentFile$Reader" "item" "I" : Cond) ∈ lw_g := lw_g_of (mt1 (List.mem_of_getElem? (i := 122) (by decide +kernel))) rfl
set_option maxRecDepth 20000 in
theorem mm_170 : (.fieldLink "DocumentFile$Reader" 22 "DocumentFile$Reader" "fault" "I" : Cond) ∈ lw_g := lw_g_of (mt1 (List.mem_of_getElem? (i := 123) (by decide +kernel))) rfl
set_option maxRecDepth 20000 in
theorem mm_171 : (.laysFinal "DocumentFile$Reader" "DocumentFile$Reader" "file" "LDocumentFile$Octets;" : Cond) ∈ lw_g := lw_g_of (mt1 (List.mem_of_getElem? (i := 124) (by decide +kernel))) rfl
set_option maxRecDepth 20000 in
theorem mm_172 : (.soleField "DocumentFile$Reader" "file" : Cond) ∈ lw_g := lw_g_of (mt1 (List.mem_of_getElem? (i := 125) (by decide +kernel))) rfl
set_option maxRecDepth 20000 in
theorem mm_173 : (.lays "DocumentFile$Reader" "DocumentFile$Reader" "next" "I" : Cond) ∈ lw_g := lw_g_of (mt1 (List.mem_of_getElem? (i := 126) (by decide +kernel))) rfl
set_option maxRecDepth 20000 in
theorem mm_174 : (.soleField "DocumentFile$Reader" "next" : Cond) ∈ lw_g := lw_g_of (mt1 (List.mem_of_getElem? (i := 127) (by decide +kernel))) rfl
set_option maxRecDepth 20000 in
theorem mm_175 : (.lays "DocumentFile$Reader" "DocumentFile$Reader" "item" "I" : Cond) ∈ lw_g := lw_g_of (mt1 (List.mem_of_getElem? (i := 128) (by decide +kernel))) rfl
set_option maxRecDepth 20000 in
theorem mm_176 : (.soleField "DocumentFile$Reader" "item" : Cond) ∈ lw_g := lw_g_of (mt1 (List.mem_of_getElem? (i := 129) (by decide +kernel))) rfl
set_option maxRecDepth 20000 in
theorem mm_177 : (.lays "DocumentFile$Reader" "DocumentFile$Reader" "fault" "I" : Cond) ∈ lw_g := lw_g_of (mt1 (List.mem_of_getElem? (i := 130) (by decide +kernel))) rfl
set_option maxRecDepth 20000 in
theorem mm_178 : (.soleField "DocumentFile$Reader" "fault" : Cond) ∈ lw_g := lw_g_of (mt1 (List.mem_of_getElem? (i := 131) (by decide +kernel))) rfl
set_option maxRecDepth 20000 in
theorem mm_179 : (.superclass "DocumentFile$Reader" "java/lang/Object" : Cond) ∈ lw_g := lw_g_of (mt1 (List.mem_of_getElem? (i := 132) (by decide +kernel))) rfl
set_option maxRecDepth 20000 in
theorem mm_180 : (.classLink "DocumentFile" 35 "DocumentFile$Writer" : Cond) ∈ lw_g := lw_g_of (mt1 (List.mem_of_getElem? (i := 133) (by decide +kernel))) rfl
set_option maxRecDepth 20000 in
theorem mm_181 : (.instantiable "DocumentFile$Writer" 5 : Cond) ∈ lw_g := lw_g_of (mt1 (List.mem_of_getElem? (i := 134) (by decide +kernel))) rfl
set_option maxRecDepth 20000 in
theorem mm_182 : (.methodLink "DocumentFile" 37 ⟨"DocumentFile$Writer", "<init>", "(LDocumentFile$Octets;)V"⟩ : Cond) ∈ lw_g := lw_g_of (mt1 (List.mem_of_getElem? (i := 135) (by decide +kernel))) rfl
set_option maxRecDepth 20000 in
theorem mm_183 : (.instanceMethod ⟨"DocumentFile$Writer", "<init>", "(LDocumentFile$Octets;)V"⟩ : Cond) ∈ lw_g := lw_g_of (mt1 (List.mem_of_getElem? (i := 136) (by decide +kernel))) rfl
set_option maxRecDepth 20000 in
theorem mm_184 : (.code ⟨"DocumentFile$Writer", "<init>", "(LDocumentFile$Octets;)V"⟩ prog_8_method_1_code 2 none : Cond) ∈ lw_g := lw_g_of (mt1 (List.mem_of_getElem? (i := 137) rfl)) rfl
set_option maxRecDepth 20000 in
theorem mm_185 : (.methodLink "DocumentFile$Writer" 3 ⟨"java/lang/Object", "<init>", "()V"⟩ : Cond) ∈ lw_g := lw_g_of (mt1 (List.mem_of_getElem? (i := 138) (by decide +kernel))) rfl
set_option maxRecDepth 20000 in
theorem mm_186 : (.fieldLink "DocumentFile$Writer" 9 "DocumentFile$Writer" "file" "LDocumentFile$Octets;" : Cond) ∈ lw_g := lw_g_of (mt1 (List.mem_of_getElem? (i := 139) (by decide +kernel))) rfl
set_option maxRecDepth 20000 in
theorem mm_187 : (.fieldLink "DocumentFile$Writer" 15 "DocumentFile$Writer" "setsOut" "[I" : Cond) ∈ lw_g := lw_g_of (mt1 (List.mem_of_getElem? (i := 140) (by decide +kernel))) rfl
set_option maxRecDepth 20000 in
theorem mm_188 : (.fieldLink "DocumentFile$Writer" 19 "DocumentFile$Writer" "marksOut" "[I" : Cond) ∈ lw_g := lw_g_of (mt1 (List.mem_of_getElem? (i := 141) (by decide +kernel))) rfl
set_option maxRecDepth 20000 in
theorem mm_189 : (.fieldLink "DocumentFile$Writer" 22 "DocumentFile$Writer" "setCount" "I" : Cond) ∈ lw_g := lw_g_of (mt1 (List.mem_of_getElem? (i := 142) (by decide +kernel))) rfl
set_option maxRecDepth 20000 in
theorem mm_190 : (.fieldLink "DocumentFile$Writer" 26 "DocumentFile$Writer" "markCount" "I" : Cond) ∈ lw_g := lw_g_of (mt1 (List.mem_of_getElem? (i := 143) (by decide +kernel))) rfl
set_option maxRecDepth 20000 in
theorem mm_191 : (.laysFinal "DocumentFile$Writer" "DocumentFile$Writer" "file" "LDocumentFile$Octets;" : Cond) ∈ lw_g := lw_g_of (mt1 (List.mem_of_getElem? (i := 144) (by decide +kernel))) rfl
set_option maxRecDepth 20000 in
theorem mm_192 : (.soleField "DocumentFile$Writer" "file" : Cond) ∈ lw_g := lw_g_of (mt1 (List.mem_of_getElem? (i := 145) (by decide +kernel))) rfl
set_option maxRecDepth 20000 in
theorem mm_193 : (.laysFinal "DocumentFile$Writer" "DocumentFile$Writer" "setsOut" "[I" : Cond) ∈ lw_g := lw_g_of (mt1 (List.mem_of_getElem? (i := 146) (by decide +kernel))) rfl
set_option maxRecDepth 20000 in
theorem mm_194 : (.soleField "DocumentFile$Writer" "setsOut" : Cond) ∈ lw_g := lw_g_of (mt1 (List.mem_of_getElem? (i := 147) (by decide +kernel))) rfl
set_option maxRecDepth 20000 in
theorem mm_195 : (.laysFinal "DocumentFile$Writer" "DocumentFile$Writer" "marksOut" "[I" : Cond) ∈ lw_g := lw_g_of (mt1 (List.mem_of_getElem? (i := 148) (by decide +kernel))) rfl
set_option maxRecDepth 20000 in
theorem mm_196 : (.soleField "DocumentFile$Writer" "marksOut" : Cond) ∈ lw_g := lw_g_of (mt1 (List.mem_of_getElem? (i := 149) (by decide +kernel))) rfl
set_option maxRecDepth 20000 in
theorem mm_197 : (.lays "DocumentFile$Writer" "DocumentFile$Writer" "setCount" "I" : Cond) ∈ lw_g := lw_g_of (mt1 (List.mem_of_getElem? (i := 150) (by decide +kernel))) rfl
set_option maxRecDepth 20000 in
theorem mm_198 : (.soleField "DocumentFile$Writer" "setCount" : Cond) ∈ lw_g := lw_g_of (mt1 (List.mem_of_getElem? (i := 151) (by decide +kernel))) rfl
set_option maxRecDepth 20000 in
theorem mm_199 : (.lays "DocumentFile$Writer" "DocumentFile$Writer" "markCount" "I" : Cond) ∈ lw_g := lw_g_of (mt1 (List.mem_of_getElem? (i := 152) (by decide +kernel))) rfl
set_option maxRecDepth 20000 in
theorem mm_200 : (.soleField "DocumentFile$Writer" "markCount" : Cond) ∈ lw_g := lw_g_of (mt1 (List.mem_of_getElem? (i := 153) (by decide +kernel))) rfl
set_option maxRecDepth 20000 in
theorem mm_201 : (.superclass "DocumentFile$Writer" "java/lang/Object" : Cond) ∈ lw_g := lw_g_of (mt1 (List.mem_of_getElem? (i := 154) (by decide +kernel))) rfl
set_option maxRecDepth 20000 in
theorem mm_202 : (.fieldLink "DocumentFile" 10 "DocumentFile" "document" "LDocumentFile$Document;" : Cond) ∈ lw_g := lw_g_of (mt1 (List.mem_of_getElem? (i := 155) (by decide +kernel))) rfl
set_option maxRecDepth 20000 in
theorem mm_203 : (.fieldLink "DocumentFile" 16 "DocumentFile" "spare" "LDocumentFile$Document;" : Cond) ∈ lw_g := lw_g_of (mt1 (List.mem_of_getElem? (i := 156) (by decide +kernel))) rfl
set_option maxRecDepth 20000 in
theorem mm_204 : (.fieldLink "DocumentFile" 22 "DocumentFile" "file" "LDocumentFile$Octets;" : Cond) ∈ lw_g := lw_g_of (mt1 (List.mem_of_getElem? (i := 157) (by decide +kernel))) rfl
set_option maxRecDepth 20000 in
theorem mm_205 : (.fieldLink "DocumentFile" 31 "DocumentFile" "reader" "LDocumentFile$Reader;" : Cond) ∈ lw_g := lw_g_of (mt1 (List.mem_of_getElem? (i := 158) (by decide +kernel))) rfl
set_option maxRecDepth 20000 in
theorem mm_206 : (.fieldLink "DocumentFile" 38 "DocumentFile" "writer" "LDocumentFile$Writer;" : Cond) ∈ lw_g := lw_g_of (mt1 (List.mem_of_getElem? (i := 159) (by decide +kernel))) rfl
set_option maxRecDepth 20000 in
theorem mm_207 : (.lays "DocumentFile" "DocumentFile" "document" "LDocumentFile$Document;" : Cond) ∈ lw_g := lw_g_of (mt1 (List.mem_of_getElem? (i := 160) (by decide +kernel))) rfl
set_option maxRecDepth 20000 in
theorem mm_208 : (.soleField "DocumentFile" "document" : Cond) ∈ lw_g := lw_g_of (mt1 (List.mem_of_getElem? (i := 161) (by decide +kernel))) rfl
set_option maxRecDepth 20000 in
theorem mm_209 : (.lays "DocumentFile" "DocumentFile" "spare" "LDocumentFile$Document;" : Cond) ∈ lw_g := lw_g_of (mt1 (List.mem_of_getElem? (i := 162) (by decide +kernel))) rfl
set_option maxRecDepth 20000 in
theorem mm_210 : (.soleField "DocumentFile" "spare" : Cond) ∈ lw_g := lw_g_of (mt1 (List.mem_of_getElem? (i := 163) (by decide +kernel))) rfl
set_option maxRecDepth 20000 in
theorem mm_211 : (.laysFinal "DocumentFile" "DocumentFile" "file" "LDocumentFile$Octets;" : Cond) ∈ lw_g := lw_g_of (mt1 (List.mem_of_getElem? (i := 164) (by decide +kernel))) rfl
set_option maxRecDepth 20000 in
theorem mm_212 : (.soleField "DocumentFile" "file" : Cond) ∈ lw_g := lw_g_of (mt1 (List.mem_of_getElem? (i := 165) (by decide +kernel))) rfl
set_option maxRecDepth 20000 in
theorem mm_213 : (.laysFinal "DocumentFile" "DocumentFile" "reader" "LDocumentFile$Reader;" : Cond) ∈ lw_g := lw_g_of (mt1 (List.mem_of_getElem? (i := 166) (by decide +kernel))) rfl
set_option maxRecDepth 20000 in
theorem mm_214 : (.soleField "DocumentFile" "reader" : Cond) ∈ lw_g := lw_g_of (mt1 (List.mem_of_getElem? (i := 167) (by decide +kernel))) rfl
set_option maxRecDepth 20000 in
theorem mm_215 : (.laysFinal "DocumentFile" "DocumentFile" "writer" "LDocumentFile$Writer;" : Cond) ∈ lw_g := lw_g_of (mt1 (List.mem_of_getElem? (i := 168) (by decide +kernel))) rfl
set_option maxRecDepth 20000 in
theorem mm_216 : (.soleField "DocumentFile" "writer" : Cond) ∈ lw_g := lw_g_of (mt1 (List.mem_of_getElem? (i := 169) (by decide +kernel))) rfl
set_option maxRecDepth 20000 in
theorem mm_217 : (.superclass "DocumentFile" "java/lang/Object" : Cond) ∈ lw_g := lw_g_of (mt1 (List.mem_of_getElem? (i := 170) (by decide +kernel))) rfl
set_option maxRecDepth 20000 in
theorem mm_218 : (.methodLink "DocumentFileLaw" 13 ⟨"DocumentFile", "clear", "()V"⟩ : Cond) ∈ lw_g := lw_g_of (mt1 (List.mem_of_getElem? (i := 171) (by decide +kernel))) rfl
set_option maxRecDepth 20000 in
theorem mm_219 : (.instanceMethod ⟨"DocumentFile", "clear", "()V"⟩ : Cond) ∈ lw_g := lw_g_of (mt1 (List.mem_of_getElem? (i := 172) (by decide +kernel))) rfl
set_option maxRecDepth 20000 in
theorem mm_220 : (.selects "DocumentFile" ⟨"DocumentFile", "clear", "()V"⟩ ⟨"DocumentFile", "clear", "()V"⟩ : Cond) ∈ lw_g := lw_g_of (mt1 (List.mem_of_getElem? (i := 173) (by decide +kernel))) rfl
set_option maxRecDepth 20000 in
theorem mm_221 : (.code ⟨"DocumentFile", "clear", "()V"⟩ prog_1_method_2_code 1 none : Cond) ∈ lw_g := lw_g_of (mt1 (List.mem_of_getElem? (i := 174) rfl)) rfl
set_option maxRecDepth 20000 in
theorem mm_222 : (.methodLink "DocumentFile" 42 ⟨"DocumentFile$Document", "empty", "()V"⟩ : Cond) ∈ lw_g := lw_g_of (mt1 (List.mem_of_getElem? (i := 175) (by decide +kernel))) rfl
set_option maxRecDepth 20000 in
theorem mm_223 : (.instanceMethod ⟨"DocumentFile$Document", "empty", "()V"⟩ : Cond) ∈ lw_g := lw_g_of (mt1 (List.mem_of_getElem? (i := 176) (by decide +kernel))) rfl
set_option maxRecDepth 20000 in
theorem mm_224 : (.selects "DocumentFile$Document" ⟨"DocumentFile$Document", "empty", "()V"⟩ ⟨"DocumentFile$Document", "empty", "()V"⟩ : Cond) ∈ lw_g := lw_g_of (mt1 (List.mem_of_getElem? (i := 177) (by decide +kernel))) rfl
set_option maxRecDepth 20000 in
theorem mm_225 : (.code ⟨"DocumentFile$Document", "empty", "()V"⟩ prog_2_method_2_code 1 none : Cond) ∈ lw_g := lw_g_of (mt1 (List.mem_of_getElem? (i := 178) rfl)) rfl
set_option maxRecDepth 20000 in
theorem mm_226 : (.methodLink "DocumentFile$Document" 41 ⟨"DocumentFile$PropertyRows", "empty", "()V"⟩ : Cond) ∈ lw_g := lw_g_of (mt1 (List.mem_of_getElem? (i := 179) (by decide +kernel))) rfl
set_option maxRecDepth 20000 in
theorem mm_227 : (.instanceMethod ⟨"DocumentFile$PropertyRows", "empty", "()V"⟩ : Cond) ∈ lw_g := lw_g_of (mt1 (List.mem_of_getElem? (i := 180) (by decide +kernel))) rfl
set_option maxRecDepth 20000 in
theorem mm_228 : (.selects "DocumentFile$PropertyRows" ⟨"DocumentFile$PropertyRows", "empty", "()V"⟩ ⟨"DocumentFile$PropertyRows", "empty", "()V"⟩ : Cond) ∈ lw_g := lw_g_of (mt1 (List.mem_of_getElem? (i := 181) (by decide +kernel))) rfl
set_option maxRecDepth 20000 in
theorem mm_229 : (.code ⟨"DocumentFile$PropertyRows", "empty", "()V"⟩ prog_5_method_3_code 1 none : Cond) ∈ lw_g := lw_g_of (mt1 (List.mem_of_getElem? (i := 182) rfl)) rfl
set_option maxRecDepth 20000 in
theorem mm_230 : (.methodLink "DocumentFile$Document" 44 ⟨"DocumentFile$Marks", "empty", "()V"⟩ : Cond) ∈ lw_g := lw_g_of (mt1 (List.mem_of_getElem? (i := 183) (by decide +kernel))) rfl
set_option maxRecDepth 20000 in
theorem mm_231 : (.instanceMethod ⟨"DocumentFile$Marks", "empty", "()V"⟩ : Cond) ∈ lw_g := lw_g_of (mt1 (List.mem_of_getElem? (i := 184) (by decide +kernel))) rfl
set_option maxRecDepth 20000 in
theorem mm_232 : (.selects "DocumentFile$Marks" ⟨"DocumentFile$Marks", "empty", "()V"⟩ ⟨"DocumentFile$Marks", "empty", "()V"⟩ : Cond) ∈ lw_g := lw_g_of (mt1 (List.mem_of_getElem? (i := 185) (by decide +kernel))) rfl
set_option maxRecDepth 20000 in
theorem mm_233 : (.code ⟨"DocumentFile$Marks", "empty", "()V"⟩ prog_3_method_2_code 1 none : Cond) ∈ lw_g := lw_g_of (mt1 (List.mem_of_getElem? (i := 186) rfl)) rfl
set_option maxRecDepth 20000 in
theorem mm_234 : (.methodLink "DocumentFile$Document" 45 ⟨"DocumentFile$Runs", "empty", "()V"⟩ : Cond) ∈ lw_g := lw_g_of (mt1 (List.mem_of_getElem? (i := 187) (by decide +kernel))) rfl
set_option maxRecDepth 20000 in
theorem mm_235 : (.instanceMethod ⟨"DocumentFile$Runs", "empty", "()V"⟩ : Cond) ∈ lw_g := lw_g_of (mt1 (List.mem_of_getElem? (i := 188) (by decide +kernel))) rfl
set_option maxRecDepth 20000 in
theorem mm_236 : (.selects "DocumentFile$Runs" ⟨"DocumentFile$Runs", "empty", "()V"⟩ ⟨"DocumentFile$Runs", "empty", "()V"⟩ : Cond) ∈ lw_g := lw_g_of (mt1 (List.mem_of_getElem? (i := 189) (by decide +kernel))) rfl
set_option maxRecDepth 20000 in
theorem mm_237 : (.code ⟨"DocumentFile$Runs", "empty", "()V"⟩ prog_7_method_3_code 1 none : Cond) ∈ lw_g := lw_g_of (mt1 (List.mem_of_getElem? (i := 190) rfl)) rfl
set_option maxRecDepth 20000 in
theorem mm_238 : (.methodLink "DocumentFileLaw" 17 ⟨"DocumentFile", "style", "(I)I"⟩ : Cond) ∈ lw_g := lw_g_of (mt1 (List.mem_of_getElem? (i := 191) (by decide +kernel))) rfl
set_option maxRecDepth 20000 in
theorem mm_239 : (.instanceMethod ⟨"DocumentFile", "style", "(I)I"⟩ : Cond) ∈ lw_g := lw_g_of (mt1 (List.mem_of_getElem? (i := 192) (by decide +kernel))) rfl
set_option maxRecDepth 20000 in
theorem mm_240 : (.selects "DocumentFile" ⟨"DocumentFile", "style", "(I)I"⟩ ⟨"DocumentFile", "style", "(I)I"⟩ : Cond) ∈ lw_g := lw_g_of (mt1 (List.mem_of_getElem? (i := 193) (by decide +kernel))) rfl
set_option maxRecDepth 20000 in
theorem mm_241 : (.code ⟨"DocumentFile", "style", "(I)I"⟩ prog_1_method_3_code 2 (some .int) : Cond) ∈ lw_g := lw_g_of (mt1 (List.mem_of_getElem? (i := 194) rfl)) rfl
set_option maxRecDepth 20000 in
theorem mm_242 : (.methodLink "DocumentFile" 49 ⟨"DocumentFile$PropertyRows", "has", "(I)Z"⟩ : Cond) ∈ lw_g := lw_g_of (mt1 (List.mem_of_getElem? (i := 195) (by decide +kernel))) rfl
set_option maxRecDepth 20000 in
theorem mm_243 : (.instanceMethod ⟨"DocumentFile$PropertyRows", "has", "(I)Z"⟩ : Cond) ∈ lw_g := lw_g_of (mt1 (List.mem_of_getElem? (i := 196) (by decide +kernel))) rfl
set_option maxRecDepth 20000 in
theorem mm_244 : (.selects "DocumentFile$PropertyRows" ⟨"DocumentFile$PropertyRows", "has", "(I)Z"⟩ ⟨"DocumentFile$PropertyRows", "has", "(I)Z"⟩ : Cond) ∈ lw_g := lw_g_of (mt1 (List.mem_of_getElem? (i := 197) (by decide +kernel))) rfl
set_option maxRecDepth 20000 in
theorem mm_245 : (.code ⟨"DocumentFile$PropertyRows", "has", "(I)Z"⟩ prog_5_method_5_code 2 (some .boolean) : Cond) ∈ lw_g := lw_g_of (mt1 (List.mem_of_getElem? (i := 198) rfl)) rfl
set_option maxRecDepth 20000 in
theorem mm_246 : (.methodLink "DocumentFile" 55 ⟨"DocumentFile$Document", "addStyle", "(I)I"⟩ : Cond) ∈ lw_g := lw_g_of (mt1 (List.mem_of_getElem? (i := 199) (by decide +kernel))) rfl
set_option maxRecDepth 20000 in
theorem mm_247 : (.instanceMethod ⟨"DocumentFile$Document", "addStyle", "(I)I"⟩ : Cond) ∈ lw_g := lw_g_of (mt1 (List.mem_of_getElem? (i := 200) (by decide +kernel))) rfl
set_option maxRecDepth 20000 in
theorem mm_248 : (.selects "DocumentFile$Document" ⟨"DocumentFile$Document", "addStyle", "(I)I"⟩ ⟨"DocumentFile$Document", "addStyle", "(I)I"⟩ : Cond) ∈ lw_g := lw_g_of (mt1 (List.mem_of_getElem? (i := 201) (by decide +kernel))) rfl
set_option maxRecDepth 20000 in
theorem mm_249 : (.code ⟨"DocumentFile$Document", "addStyle", "(I)I"⟩ prog_2_method_3_code 3 (some .int) : Cond) ∈ lw_g := lw_g_of (mt1 (List.mem_of_getElem? (i := 202) rfl)) rfl
set_option maxRecDepth 20000 in
theorem mm_250 : (.methodLink "DocumentFile$Document" 46 ⟨"DocumentFile$PropertyRows", "add", "()I"⟩ : Cond) ∈ lw_g := lw_g_of (mt1 (List.mem_of_getElem? (i := 203) (by decide +kernel))) rfl
set_option maxRecDepth 20000 in
theorem mm_251 : (.instanceMethod ⟨"DocumentFile$PropertyRows", "add", "()I"⟩ : Cond) ∈ lw_g := lw_g_of (mt1 (List.mem_of_getElem? (i := 204) (by decide +kernel))) rfl
set_option maxRecDepth 20000 in
theorem mm_252 : (.selects "DocumentFile$PropertyRows" ⟨"DocumentFile$PropertyRows", "add", "()I"⟩ ⟨"DocumentFile$PropertyRows", "add", "()I"⟩ : Cond) ∈ lw_g := lw_g_of (mt1 (List.mem_of_getElem? (i := 205) (by decide +kernel))) rfl
set_option maxRecDepth 20000 in
theorem mm_253 : (.code ⟨"DocumentFile$PropertyRows", "add", "()I"⟩ prog_5_method_6_code 2 (some .int) : Cond) ∈ lw_g := lw_g_of (mt1 (List.mem_of_getElem? (i := 206) rfl)) rfl
set_option maxRecDepth 20000 in
theorem mm_254 : (.methodLink "DocumentFileLaw" 22 ⟨"DocumentFile", "set", "()I"⟩ : Cond) ∈ lw_g := lw_g_of (mt1 (List.mem_of_getElem? (i := 207) (by decide +kernel))) rfl
set_option maxRecDepth 20000 in
theorem mm_255 : (.instanceMethod ⟨"DocumentFile", "set", "()I"⟩ : Cond) ∈ lw_g := lw_g_of (mt1 (List.mem_of_getElem? (i := 208) (by decide +kernel))) rfl
set_option maxRecDepth 20000 in
theorem mm_256 : (.selects "DocumentFile" ⟨"DocumentFile", "set", "()I"⟩ ⟨"DocumentFile", "set", "()I"⟩ : Cond) ∈ lw_g := lw_g_of (mt1 (List.mem_of_getElem? (i := 209) (by decide +kernel))) rfl
set_option maxRecDepth 20000 in
theorem mm_257 : (.code ⟨"DocumentFile", "set", "()I"⟩ prog_1_method_4_code 1 (some .int) : Cond) ∈ lw_g := lw_g_of (mt1 (List.mem_of_getElem? (i := 210) rfl)) rfl
set_option maxRecDepth 20000 in
theorem mm_258 : (.methodLink "DocumentFile" 62 ⟨"DocumentFile$PropertyRows", "add", "()I"⟩ : Cond) ∈ lw_g := lw_g_of (mt1 (List.mem_of_getElem? (i := 211) (by decide +kernel))) rfl
set_option maxRecDepth 20000 in
theorem mm_259 : (.methodLink "DocumentFileLaw" 27 ⟨"DocumentFile", "property", "(IIII)Z"⟩ : Cond) ∈ lw_g := lw_g_of (mt1 (List.mem_of_getElem? (i := 212) (by decide +kernel))) rfl
set_option maxRecDepth 20000 in
theorem mm_260 : (.instanceMethod ⟨"DocumentFile", "property", "(IIII)Z"⟩ : Cond) ∈ lw_g := lw_g_of (mt1 (List.mem_of_getElem? (i := 213) (by decide +kernel))) rfl
set_option maxRecDepth 20000 in
theorem mm_261 : (.selects "DocumentFile" ⟨"DocumentFile", "property", "(IIII)Z"⟩ ⟨"DocumentFile", "property", "(IIII)Z"⟩ : Cond) ∈ lw_g := lw_g_of (mt1 (List.mem_of_getElem? (i := 214) (by decide +kernel))) rfl
set_option maxRecDepth 20000 in
theorem mm_262 : (.code ⟨"DocumentFile", "property", "(IIII)Z"⟩ prog_1_method_5_code 5 (some .boolean) : Cond) ∈ lw_g := lw_g_of (mt1 (List.mem_of_getElem? (i := 215) rfl)) rfl
set_option maxRecDepth 20000 in
theorem mm_263 : (.methodLink "DocumentFile" 66 ⟨"DocumentFile$PropertyRows", "put", "(III)Z"⟩ : Cond) ∈ lw_g := lw_g_of (mt1 (List.mem_of_getElem? (i := 216) (by decide +kernel))) rfl
set_option maxRecDepth 20000 in
theorem mm_264 : (.instanceMethod ⟨"DocumentFile$PropertyRows", "put", "(III)Z"⟩ : Cond) ∈ lw_g := lw_g_of (mt1 (List.mem_of_getElem? (i := 217) (by decide +kernel))) rfl
set_option maxRecDepth 20000 in
theorem mm_265 : (.selects "DocumentFile$PropertyRows" ⟨"DocumentFile$PropertyRows", "put", "(III)Z"⟩ ⟨"DocumentFile$PropertyRows", "put", "(III)Z"⟩ : Cond) ∈ lw_g := lw_g_of (mt1 (List.mem_of_getElem? (i := 218) (by decide +kernel))) rfl
set_option maxRecDepth 20000 in
theorem mm_266 : (.code ⟨"DocumentFile$PropertyRows", "put", "(III)Z"⟩ prog_5_method_8_code 4 (some .boolean) : Cond) ∈ lw_g := lw_g_of (mt1 (List.mem_of_getElem? (i := 219) rfl)) rfl
set_option maxRecDepth 20000 in
theorem mm_267 : (.methodLink "DocumentFile$PropertyRows" 23 ⟨"DocumentFile$PropertyRows", "has", "(I)Z"⟩ : Cond) ∈ lw_g := lw_g_of (mt1 (List.mem_of_getElem? (i := 220) (by decide +kernel))) rfl
set_option maxRecDepth 20000 in
theorem mm_268 : (.methodLink "DocumentFile$PropertyRows" 27 ⟨"DocumentFile$PropertyRows", "mostOf", "(I)I"⟩ : Cond) ∈ lw_g := lw_g_of (mt1 (List.mem_of_getElem? (i := 221) (by decide +kernel))) rfl
set_option maxRecDepth 20000 in
theorem mm_269 : (.static ⟨"DocumentFile$PropertyRows", "mostOf", "(I)I"⟩ : Cond) ∈ lw_g := lw_g_of (mt1 (List.mem_of_getElem? (i := 222) (by decide +kernel))) rfl
set_option maxRecDepth 20000 in
theorem mm_270 : (.code ⟨"DocumentFile$PropertyRows", "mostOf", "(I)I"⟩ prog_5_method_2_code 1 (some .int) : Cond) ∈ lw_g := lw_g_of (mt1 (List.mem_of_getElem? (i := 223) rfl)) rfl
set_option maxRecDepth 20000 in
theorem mm_271 : (.constant "DocumentFile$PropertyRows" 22 (65535) : Cond) ∈ lw_g := lw_g_of (mt1 (List.mem_of_getElem? (i := 224) (by decide +kernel))) rfl
set_option maxRecDepth 20000 in
theorem mm_272 : (.methodLink "DocumentFileLaw" 32 ⟨"DocumentFile", "mark", "(III)I"⟩ : Cond) ∈ lw_g := lw_g_of (mt1 (List.mem_of_getElem? (i := 225) (by decide +kernel))) rfl
set_option maxRecDepth 20000 in
theorem mm_273 : (.instanceMethod ⟨"DocumentFile", "mark", "(III)I"⟩ : Cond) ∈ lw_g := lw_g_of (mt1 (List.mem_of_getElem? (i := 226) (by decide +kernel))) rfl
set_option maxRecDepth 20000 in
theorem mm_274 : (.selects "DocumentFile" ⟨"DocumentFile", "mark", "(III)I"⟩ ⟨"DocumentFile", "mark", "(III)I"⟩ : Cond) ∈ lw_g := lw_g_of (mt1 (List.mem_of_getElem? (i := 227) (by decide +kernel))) rfl
set_option maxRecDepth 20000 in
theorem mm_275 : (.code ⟨"DocumentFile", "mark", "(III)I"⟩ prog_1_method_6_code 4 (some .int) : Cond) ∈ lw_g := lw_g_of (mt1 (List.mem_of_getElem? (i := 228) rfl)) rfl
set_option maxRecDepth 20000 in
theorem mm_276 : (.methodLink "DocumentFile" 74 ⟨"DocumentFile$Marks", "add", "(III)I"⟩ : Cond) ∈ lw_g := lw_g_of (mt1 (List.mem_of_getElem? (i := 229) (by decide +kernel))) rfl
set_option maxRecDepth 20000 in
theorem mm_277 : (.instanceMethod ⟨"DocumentFile$Marks", "add", "(III)I"⟩ : Cond) ∈ lw_g := lw_g_of (mt1 (List.mem_of_getElem? (i := 230) (by decide +kernel))) rfl
set_option maxRecDepth 20000 in
theorem mm_278 : (.selects "DocumentFile$Marks" ⟨"DocumentFile$Marks", "add", "(III)I"⟩ ⟨"DocumentFile$Marks", "add", "(III)I"⟩ : Cond) ∈ lw_g := lw_g_of (mt1 (List.mem_of_getElem? (i := 231) (by decide +kernel))) rfl
set_option maxRecDepth 20000 in
theorem mm_279 : (.code ⟨"DocumentFile$Marks", "add", "(III)I"⟩ prog_3_method_6_code 4 (some .int) : Cond) ∈ lw_g := lw_g_of (mt1 (List.mem_of_getElem? (i := 232) rfl)) rfl
set_option maxRecDepth 20000 in
theorem mm_280 : (.methodLink "DocumentFile$Marks" 19 ⟨"DocumentFile$Marks", "isFull", "()Z"⟩ : Cond) ∈ lw_g := lw_g_of (mt1 (List.mem_of_getElem? (i := 233) (by decide +kernel))) rfl
set_option maxRecDepth 20000 in
theorem mm_281 : (.instanceMethod ⟨"DocumentFile$Marks", "isFull", "()Z"⟩ : Cond) ∈ lw_g := lw_g_of (mt1 (List.mem_of_getElem? (i := 234) (by decide +kernel))) rfl
set_option maxRecDepth 20000 in
theorem mm_282 : (.selects "DocumentFile$Marks" ⟨"DocumentFile$Marks", "isFull", "()Z"⟩ ⟨"DocumentFile$Marks", "isFull", "()Z"⟩ : Cond) ∈ lw_g := lw_g_of (mt1 (List.mem_of_getElem? (i := 235) (by decide +kernel))) rfl
set_option maxRecDepth 20000 in
theorem mm_283 : (.code ⟨"DocumentFile$Marks", "isFull", "()Z"⟩ prog_3_method_5_code 1 (some .boolean) : Cond) ∈ lw_g := lw_g_of (mt1 (List.mem_of_getElem? (i := 236) rfl)) rfl
set_option maxRecDepth 20000 in
theorem mm_284 : (.methodLink "DocumentFileLaw" 39 ⟨"DocumentFile", "type", "(IIJ)I"⟩ : Cond) ∈ lw_g := lw_g_of (mt1 (List.mem_of_getElem? (i := 237) (by decide +kernel))) rfl
set_option maxRecDepth 20000 in
theorem mm_285 : (.instanceMethod ⟨"DocumentFile", "type", "(IIJ)I"⟩ : Cond) ∈ lw_g := lw_g_of (mt1 (List.mem_of_getElem? (i := 238) (by decide +kernel))) rfl
set_option maxRecDepth 20000 in
theorem mm_286 : (.selects "DocumentFile" ⟨"DocumentFile", "type", "(IIJ)I"⟩ ⟨"DocumentFile", "type", "(IIJ)I"⟩ : Cond) ∈ lw_g := lw_g_of (mt1 (List.mem_of_getElem? (i := 239) (by decide +kernel))) rfl
set_option maxRecDepth 20000 in
theorem mm_287 : (.code ⟨"DocumentFile", "type", "(IIJ)I"⟩ prog_1_method_7_code 7 (some .int) : Cond) ∈ lw_g := lw_g_of (mt2 (List.mem_of_getElem? (i := 0) rfl)) rfl
set_option maxRecDepth 20000 in
theorem mm_288 : (.methodLink "DocumentFile" 79 ⟨"DocumentFile", "textLength", "(J)I"⟩ : Cond) ∈ lw_g := lw_g_of (mt2 (List.mem_of_getElem? (i := 1) (by decide +kernel))) rfl
set_option maxRecDepth 20000 in
theorem mm_289 : (.static ⟨"DocumentFile", "textLength", "(J)I"⟩ : Cond) ∈ lw_g := lw_g_of (mt2 (List.mem_of_getElem? (i := 2) (by decide +kernel))) rfl
set_option maxRecDepth 20000 in
theorem mm_290 : (.code ⟨"DocumentFile", "textLength", "(J)I"⟩ prog_1_method_21_code 4 (some .int) : Cond) ∈ lw_g := lw_g_of (mt2 (List.mem_of_getElem? (i := 3) rfl)) rfl
set_option maxRecDepth 20000 in
theorem mm_291 : (.methodLink "DocumentFile" 97 ⟨"DocumentFile", "byteOf", "(JI)I"⟩ : Cond) ∈ lw_g := lw_g_of (mt2 (List.mem_of_getElem? (i := 4) (by decide +kernel))) rfl
set_option maxRecDepth 20000 in
theorem mm_292 : (.static ⟨"DocumentFile", "byteOf", "(JI)I"⟩ : Cond) ∈ lw_g := lw_g_of (mt2 (List.mem_of_getElem? (i := 5) (by decide +kernel))) rfl
set_option maxRecDepth 20000 in
theorem mm_293 : (.code ⟨"DocumentFile", "byteOf", "(JI)I"⟩ prog_1_method_20_code 3 (some .int) : Cond) ∈ lw_g := lw_g_of (mt2 (List.mem_of_getElem? (i := 6) rfl)) rfl
set_option maxRecDepth 20000 in
theorem mm_294 : (.methodLink "DocumentFile" 148 ⟨"DocumentFile$Runs", "isText", "(I)Z"⟩ : Cond) ∈ lw_g := lw_g_of (mt2 (List.mem_of_getElem? (i := 7) (by decide +kernel))) rfl
set_option maxRecDepth 20000 in
theorem mm_295 : (.static ⟨"DocumentFile$Runs", "isText", "(I)Z"⟩ : Cond) ∈ lw_g := lw_g_of (mt2 (List.mem_of_getElem? (i := 8) (by decide +kernel))) rfl
set_option maxRecDepth 20000 in
theorem mm_296 : (.code ⟨"DocumentFile$Runs", "isText", "(I)Z"⟩ prog_7_method_2_code 1 (some .boolean) : Cond) ∈ lw_g := lw_g_of (mt2 (List.mem_of_getElem? (i := 9) rfl)) rfl
set_option maxRecDepth 20000 in
theorem mm_297 : (.methodLink "DocumentFile" 83 ⟨"DocumentFile$Marks", "has", "(I)Z"⟩ : Cond) ∈ lw_g := lw_g_of (mt2 (List.mem_of_getElem? (i := 10) (by decide +kernel))) rfl
set_option maxRecDepth 20000 in
theorem mm_298 : (.instanceMethod ⟨"DocumentFile$Marks", "has", "(I)Z"⟩ : Cond) ∈ lw_g := lw_g_of (mt2 (List.mem_of_getElem? (i := 11) (by decide +kernel))) rfl
set_option maxRecDepth 20000 in
theorem mm_299 : (.selects "DocumentFile$Marks" ⟨"DocumentFile$Marks", "has", "(I)Z"⟩ ⟨"DocumentFile$Marks", "has", "(I)Z"⟩ : Cond) ∈ lw_g := lw_g_of (mt2 (List.mem_of_getElem? (i := 12) (by decide +kernel))) rfl
set_option maxRecDepth 20000 in
theorem mm_300 : (.code ⟨"DocumentFile$Marks", "has", "(I)Z"⟩ prog_3_method_4_code 2 (some .boolean) : Cond) ∈ lw_g := lw_g_of (mt2 (List.mem_of_getElem? (i := 13) rfl)) rfl
set_option maxRecDepth 20000 in
theorem mm_301 : (.methodLink "DocumentFile" 88 ⟨"DocumentFile$Runs", "takes", "(I)Z"⟩ : Cond) ∈ lw_g := lw_g_of (mt2 (List.mem_of_getElem? (i := 14) (by decide +kernel))) rfl
set_option maxRecDepth 20000 in
theorem mm_302 : (.instanceMethod ⟨"DocumentFile$Runs", "takes", "(I)Z"⟩ : Cond) ∈ lw_g := lw_g_of (mt2 (List.mem_of_getElem? (i := 15) (by decide +kernel))) rfl
set_option maxRecDepth 20000 in
theorem mm_303 : (.selects "DocumentFile$Runs" ⟨"DocumentFile$Runs", "takes", "(I)Z"⟩ ⟨"DocumentFile$Runs", "takes", "(I)Z"⟩ : Cond) ∈ lw_g := lw_g_of (mt2 (List.mem_of_getElem? (i := 16) (by decide +kernel))) rfl
set_option maxRecDepth 20000 in
theorem mm_304 : (.code ⟨"DocumentFile$Runs", "takes", "(I)Z"⟩ prog_7_method_6_code 2 (some .boolean) : Cond) ∈ lw_g := lw_g_of (mt2 (List.mem_of_getElem? (i := 17) rfl)) rfl
set_option maxRecDepth 20000 in
theorem mm_305 : (.methodLink "DocumentFile" 93 ⟨"DocumentFile$Runs", "begin", "(IIII)I"⟩ : Cond) ∈ lw_g := lw_g_of (mt2 (List.mem_of_getElem? (i := 18) (by decide +kernel))) rfl
set_option maxRecDepth 20000 in
theorem mm_306 : (.instanceMethod ⟨"DocumentFile$Runs", "begin", "(IIII)I"⟩ : Cond) ∈ lw_g := lw_g_of (mt2 (List.mem_of_getElem? (i := 19) (by decide +kernel))) rfl
set_option maxRecDepth 20000 in
theorem mm_307 : (.selects "DocumentFile$Runs" ⟨"DocumentFile$Runs", "begin", "(IIII)I"⟩ ⟨"DocumentFile$Runs", "begin", "(IIII)I"⟩ : Cond) ∈ lw_g := lw_g_of (mt2 (List.mem_of_getElem? (i := 20) (by decide +kernel))) rfl
set_option maxRecDepth 20000 in
theorem mm_308 : (.code ⟨"DocumentFile$Runs", "begin", "(IIII)I"⟩ prog_7_method_7_code 6 (some .int) : Cond) ∈ lw_g := lw_g_of (mt2 (List.mem_of_getElem? (i := 21) rfl)) rfl
set_option maxRecDepth 20000 in
theorem mm_309 : (.methodLink "DocumentFile" 101 ⟨"DocumentFile$Runs", "append", "(I)V"⟩ : Cond) ∈ lw_g := lw_g_of (mt2 (List.mem_of_getElem? (i := 22) (by decide +kernel))) rfl
set_option maxRecDepth 20000 in
theorem mm_310 : (.instanceMethod ⟨"DocumentFile$Runs", "append", "(I)V"⟩ : Cond) ∈ lw_g := lw_g_of (mt2 (List.mem_of_getElem? (i := 23) (by decide +kernel))) rfl
set_option maxRecDepth 20000 in
theorem mm_311 : (.selects "DocumentFile$Runs" ⟨"DocumentFile$Runs", "append", "(I)V"⟩ ⟨"DocumentFile$Runs", "append", "(I)V"⟩ : Cond) ∈ lw_g := lw_g_of (mt2 (List.mem_of_getElem? (i := 24) (by decide +kernel))) rfl
set_option maxRecDepth 20000 in
theorem mm_312 : (.code ⟨"DocumentFile$Runs", "append", "(I)V"⟩ prog_7_method_8_code 2 none : Cond) ∈ lw_g := lw_g_of (mt2 (List.mem_of_getElem? (i := 25) rfl)) rfl
set_option maxRecDepth 20000 in
theorem mm_313 : (.methodLink "DocumentFile" 105 ⟨"DocumentFile$Runs", "rows", "()I"⟩ : Cond) ∈ lw_g := lw_g_of (mt2 (List.mem_of_getElem? (i := 26) (by decide +kernel))) rfl
set_option maxRecDepth 20000 in
theorem mm_314 : (.instanceMethod ⟨"DocumentFile$Runs", "rows", "()I"⟩ : Cond) ∈ lw_g := lw_g_of (mt2 (List.mem_of_getElem? (i := 27) (by decide +kernel))) rfl
set_option maxRecDepth 20000 in
theorem mm_315 : (.selects "DocumentFile$Runs" ⟨"DocumentFile$Runs", "rows", "()I"⟩ ⟨"DocumentFile$Runs", "rows", "()I"⟩ : Cond) ∈ lw_g := lw_g_of (mt2 (List.mem_of_getElem? (i := 28) (by decide +kernel))) rfl
set_option maxRecDepth 20000 in
theorem mm_316 : (.code ⟨"DocumentFile$Runs", "rows", "()I"⟩ prog_7_method_4_code 1 (some .int) : Cond) ∈ lw_g := lw_g_of (mt2 (List.mem_of_getElem? (i := 29) rfl)) rfl
set_option maxRecDepth 20000 in
theorem mm_317 : (.methodLink "DocumentFileLaw" 44 ⟨"DocumentFile", "end", "(IIII)I"⟩ : Cond) ∈ lw_g := lw_g_of (mt2 (List.mem_of_getElem? (i := 30) (by decide +kernel))) rfl
set_option maxRecDepth 20000 in
theorem mm_318 : (.instanceMethod ⟨"DocumentFile", "end", "(IIII)I"⟩ : Cond) ∈ lw_g := lw_g_of (mt2 (List.mem_of_getElem? (i := 31) (by decide +kernel))) rfl
set_option maxRecDepth 20000 in
theorem mm_319 : (.selects "DocumentFile" ⟨"DocumentFile", "end", "(IIII)I"⟩ ⟨"DocumentFile", "end", "(IIII)I"⟩ : Cond) ∈ lw_g := lw_g_of (mt2 (List.mem_of_getElem? (i := 32) (by decide +kernel))) rfl
set_option maxRecDepth 20000 in
theorem mm_320 : (.code ⟨"DocumentFile", "end", "(IIII)I"⟩ prog_1_method_8_code 6 (some .int) : Cond) ∈ lw_g := lw_g_of (mt2 (List.mem_of_getElem? (i := 33) rfl)) rfl
set_option maxRecDepth 20000 in
theorem mm_321 : (.methodLink "DocumentFileLaw" 49 ⟨"DocumentFile", "count", "(I)I"⟩ : Cond) ∈ lw_g := lw_g_of (mt2 (List.mem_of_getElem? (i := 34) (by decide +kernel))) rfl
set_option maxRecDepth 20000 in
theorem mm_322 : (.instanceMethod ⟨"DocumentFile", "count", "(I)I"⟩ : Cond) ∈ lw_g := lw_g_of (mt2 (List.mem_of_getElem? (i := 35) (by decide +kernel))) rfl
set_option maxRecDepth 20000 in
theorem mm_323 : (.selects "DocumentFile" ⟨"DocumentFile", "count", "(I)I"⟩ ⟨"DocumentFile", "count", "(I)I"⟩ : Cond) ∈ lw_g := lw_g_of (mt2 (List.mem_of_getElem? (i := 36) (by decide +kernel))) rfl
set_option maxRecDepth 20000 in
theorem mm_324 : (.code ⟨"DocumentFile", "count", "(I)I"⟩ prog_1_method_9_code 2 (some .int) : Cond) ∈ lw_g := lw_g_of (mt2 (List.mem_of_getElem? (i := 37) rfl)) rfl
set_option maxRecDepth 20000 in
theorem mm_325 : (.methodLink "DocumentFile" 108 ⟨"DocumentFile$PropertyRows", "rows", "()I"⟩ : Cond) ∈ lw_g := lw_g_of (mt2 (List.mem_of_getElem? (i := 38) (by decide +kernel))) rfl
set_option maxRecDepth 20000 in
theorem mm_326 : (.instanceMethod ⟨"DocumentFile$PropertyRows", "rows", "()I"⟩ : Cond) ∈ lw_g := lw_g_of (mt2 (List.mem_of_getElem? (i := 39) (by decide +kernel))) rfl
set_option maxRecDepth 20000 in
theorem mm_327 : (.selects "DocumentFile$PropertyRows" ⟨"DocumentFile$PropertyRows", "rows", "()I"⟩ ⟨"DocumentFile$PropertyRows", "rows", "()I"⟩ : Cond) ∈ lw_g := lw_g_of (mt2 (List.mem_of_getElem? (i := 40) (by decide +kernel))) rfl
set_option maxRecDepth 20000 in
theorem mm_328 : (.code ⟨"DocumentFile$PropertyRows", "rows", "()I"⟩ prog_5_method_4_code 1 (some .int) : Cond) ∈ lw_g := lw_g_of (mt2 (List.mem_of_getElem? (i := 41) rfl)) rfl
set_option maxRecDepth 20000 in
theorem mm_329 : (.methodLink "DocumentFile" 109 ⟨"DocumentFile$Marks", "rows", "()I"⟩ : Cond) ∈ lw_g := lw_g_of (mt2 (List.mem_of_getElem? (i := 42) (by decide +kernel))) rfl
set_option maxRecDepth 20000 in
theorem mm_330 : (.instanceMethod ⟨"DocumentFile$Marks", "rows", "()I"⟩ : Cond) ∈ lw_g := lw_g_of (mt2 (List.mem_of_getElem? (i := 43) (by decide +kernel))) rfl
set_option maxRecDepth 20000 in
theorem mm_331 : (.selects "DocumentFile$Marks" ⟨"DocumentFile$Marks", "rows", "()I"⟩ ⟨"DocumentFile$Marks", "rows", "()I"⟩ : Cond) ∈ lw_g := lw_g_of (mt2 (List.mem_of_getElem? (i := 44) (by decide +kernel))) rfl
set_option maxRecDepth 20000 in
theorem mm_332 : (.code ⟨"DocumentFile$Marks", "rows", "()I"⟩ prog_3_method_3_code 1 (some .int) : Cond) ∈ lw_g := lw_g_of (mt2 (List.mem_of_getElem? (i := 45) rfl)) rfl
set_option maxRecDepth 20000 in
theorem mm_333 : (.methodLink "DocumentFile" 110 ⟨"DocumentFile$Runs", "length", "()I"⟩ : Cond) ∈ lw_g := lw_g_of (mt2 (List.mem_of_getElem? (i := 46) (by decide +kernel))) rfl
set_option maxRecDepth 20000 in
theorem mm_334 : (.instanceMethod ⟨"DocumentFile$Runs", "length", "()I"⟩ : Cond) ∈ lw_g := lw_g_of (mt2 (List.mem_of_getElem? (i := 47) (by decide +kernel))) rfl
set_option maxRecDepth 20000 in
theorem mm_335 : (.selects "DocumentFile$Runs" ⟨"DocumentFile$Runs", "length", "()I"⟩ ⟨"DocumentFile$Runs", "length", "()I"⟩ : Cond) ∈ lw_g := lw_g_of (mt2 (List.mem_of_getElem? (i := 48) (by decide +kernel))) rfl
set_option maxRecDepth 20000 in
theorem mm_336 : (.code ⟨"DocumentFile$Runs", "length", "()I"⟩ prog_7_method_5_code 1 (some .int) : Cond) ∈ lw_g := lw_g_of (mt2 (List.mem_of_getElem? (i := 49) rfl)) rfl
set_option maxRecDepth 20000 in
theorem mm_337 : (.methodLink "DocumentFile" 113 ⟨"DocumentFile$Octets", "size", "()I"⟩ : Cond) ∈ lw_g := lw_g_of (mt2 (List.mem_of_getElem? (i := 50) (by decide +kernel))) rfl
set_option maxRecDepth 20000 in
theorem mm_338 : (.instanceMethod ⟨"DocumentFile$Octets", "size", "()I"⟩ : Cond) ∈ lw_g := lw_g_of (mt2 (List.mem_of_getElem? (i := 51) (by decide +kernel))) rfl
set_option maxRecDepth 20000 in
theorem mm_339 : (.selects "DocumentFile$Octets" ⟨"DocumentFile$Octets", "size", "()I"⟩ ⟨"DocumentFile$Octets", "size", "()I"⟩ : Cond) ∈ lw_g := lw_g_of (mt2 (List.mem_of_getElem? (i := 52) (by decide +kernel))) rfl
set_option maxRecDepth 20000 in
theorem mm_340 : (.code ⟨"DocumentFile$Octets", "size", "()I"⟩ prog_4_method_2_code 1 (some .int) : Cond) ∈ lw_g := lw_g_of (mt2 (List.mem_of_getElem? (i := 53) rfl)) rfl
set_option maxRecDepth 20000 in
theorem mm_341 : (.methodLink "DocumentFileLaw" 53 ⟨"DocumentFile", "base", "(I)I"⟩ : Cond) ∈ lw_g := lw_g_of (mt2 (List.mem_of_getElem? (i := 54) (by decide +kernel))) rfl
set_option maxRecDepth 20000 in
theorem mm_342 : (.instanceMethod ⟨"DocumentFile", "base", "(I)I"⟩ : Cond) ∈ lw_g := lw_g_of (mt2 (List.mem_of_getElem? (i := 55) (by decide +kernel))) rfl
set_option maxRecDepth 20000 in
theorem mm_343 : (.selects "DocumentFile" ⟨"DocumentFile", "base", "(I)I"⟩ ⟨"DocumentFile", "base", "(I)I"⟩ : Cond) ∈ lw_g := lw_g_of (mt2 (List.mem_of_getElem? (i := 56) (by decide +kernel))) rfl
set_option maxRecDepth 20000 in
theorem mm_344 : (.code ⟨"DocumentFile", "base", "(I)I"⟩ prog_1_method_10_code 2 (some .int) : Cond) ∈ lw_g := lw_g_of (mt2 (List.mem_of_getElem? (i := 57) rfl)) rfl
set_option maxRecDepth 20000 in
theorem mm_345 : (.methodLink "DocumentFile" 116 ⟨"DocumentFile$Document", "baseOf", "(I)I"⟩ : Cond) ∈ lw_g := lw_g_of (mt2 (List.mem_of_getElem? (i := 58) (by decide +kernel))) rfl
set_option maxRecDepth 20000 in
theorem mm_346 : (.instanceMethod ⟨"DocumentFile$Document", "baseOf", "(I)I"⟩ : Cond) ∈ lw_g := lw_g_of (mt2 (List.mem_of_getElem? (i := 59) (by decide +kernel))) rfl
set_option maxRecDepth 20000 in
theorem mm_347 : (.selects "DocumentFile$Document" ⟨"DocumentFile$Document", "baseOf", "(I)I"⟩ ⟨"DocumentFile$Document", "baseOf", "(I)I"⟩ : Cond) ∈ lw_g := lw_g_of (mt2 (List.mem_of_getElem? (i := 60) (by decide +kernel))) rfl
set_option maxRecDepth 20000 in
theorem mm_348 : (.code ⟨"DocumentFile$Document", "baseOf", "(I)I"⟩ prog_2_method_4_code 2 (some .int) : Cond) ∈ lw_g := lw_g_of (mt2 (List.mem_of_getElem? (i := 61) rfl)) rfl
set_option maxRecDepth 20000 in
theorem mm_349 : (.methodLink "DocumentFile$Document" 50 ⟨"DocumentFile$PropertyRows", "has", "(I)Z"⟩ : Cond) ∈ lw_g := lw_g_of (mt2 (List.mem_of_getElem? (i := 62) (by decide +kernel))) rfl
set_option maxRecDepth 20000 in
theorem mm_350 : (.methodLink "DocumentFileLaw" 57 ⟨"DocumentFile", "value", "(III)I"⟩ : Cond) ∈ lw_g := lw_g_of (mt2 (List.mem_of_getElem? (i := 63) (by decide +kernel))) rfl
set_option maxRecDepth 20000 in
theorem mm_351 : (.instanceMethod ⟨"DocumentFile", "value", "(III)I"⟩ : Cond) ∈ lw_g := lw_g_of (mt2 (List.mem_of_getElem? (i := 64) (by decide +kernel))) rfl
set_option maxRecDepth 20000 in
theorem mm_352 : (.selects "DocumentFile" ⟨"DocumentFile", "value", "(III)I"⟩ ⟨"DocumentFile", "value", "(III)I"⟩ : Cond) ∈ lw_g := lw_g_of (mt2 (List.mem_of_getElem? (i := 65) (by decide +kernel))) rfl
set_option maxRecDepth 20000 in
theorem mm_353 : (.code ⟨"DocumentFile", "value", "(III)I"⟩ prog_1_method_11_code 4 (some .int) : Cond) ∈ lw_g := lw_g_of (mt2 (List.mem_of_getElem? (i := 66) rfl)) rfl
set_option maxRecDepth 20000 in
theorem mm_354 : (.methodLink "DocumentFile" 119 ⟨"DocumentFile$PropertyRows", "get", "(II)I"⟩ : Cond) ∈ lw_g := lw_g_of (mt2 (List.mem_of_getElem? (i := 67) (by decide +kernel))) rfl
set_option maxRecDepth 20000 in
theorem mm_355 : (.instanceMethod ⟨"DocumentFile$PropertyRows", "get", "(II)I"⟩ : Cond) ∈ lw_g := lw_g_of (mt2 (List.mem_of_getElem? (i := 68) (by decide +kernel))) rfl
set_option maxRecDepth 20000 in
theorem mm_356 : (.selects "DocumentFile$PropertyRows" ⟨"DocumentFile$PropertyRows", "get", "(II)I"⟩ ⟨"DocumentFile$PropertyRows", "get", "(II)I"⟩ : Cond) ∈ lw_g := lw_g_of (mt2 (List.mem_of_getElem? (i := 69) (by decide +kernel))) rfl
set_option maxRecDepth 20000 in
theorem mm_357 : (.code ⟨"DocumentFile$PropertyRows", "get", "(II)I"⟩ prog_5_method_7_code 3 (some .int) : Cond) ∈ lw_g := lw_g_of (mt2 (List.mem_of_getElem? (i := 70) rfl)) rfl
set_option maxRecDepth 20000 in
theorem mm_358 : (.methodLink "DocumentFileLaw" 61 ⟨"DocumentFile", "changes", "(II)I"⟩ : Cond) ∈ lw_g := lw_g_of (mt2 (List.mem_of_getElem? (i := 71) (by decide +kernel))) rfl
set_option maxRecDepth 20000 in
theorem mm_359 : (.instanceMethod ⟨"DocumentFile", "changes", "(II)I"⟩ : Cond) ∈ lw_g := lw_g_of (mt2 (List.mem_of_getElem? (i := 72) (by decide +kernel))) rfl
set_option maxRecDepth 20000 in
theorem mm_360 : (.selects "DocumentFile" ⟨"DocumentFile", "changes", "(II)I"⟩ ⟨"DocumentFile", "changes", "(II)I"⟩ : Cond) ∈ lw_g := lw_g_of (mt2 (List.mem_of_getElem? (i := 73) (by decide +kernel))) rfl
set_option maxRecDepth 20000 in
theorem mm_361 : (.code ⟨"DocumentFile", "changes", "(II)I"⟩ prog_1_method_12_code 3 (some .int) : Cond) ∈ lw_g := lw_g_of (mt2 (List.mem_of_getElem? (i := 74) rfl)) rfl
set_option maxRecDepth 20000 in
theorem mm_362 : (.methodLink "DocumentFile" 123 ⟨"DocumentFile$Marks", "part", "(II)I"⟩ : Cond) ∈ lw_g := lw_g_of (mt2 (List.mem_of_getElem? (i := 75) (by decide +kernel))) rfl
set_option maxRecDepth 20000 in
theorem mm_363 : (.instanceMethod ⟨"DocumentFile$Marks", "part", "(II)I"⟩ : Cond) ∈ lw_g := lw_g_of (mt2 (List.mem_of_getElem? (i := 76) (by decide +kernel))) rfl
set_option maxRecDepth 20000 in
theorem mm_364 : (.selects "DocumentFile$Marks" ⟨"DocumentFile$Marks", "part", "(II)I"⟩ ⟨"DocumentFile$Marks", "part", "(II)I"⟩ : Cond) ∈ lw_g := lw_g_of (mt2 (List.mem_of_getElem? (i := 77) (by decide +kernel))) rfl
set_option maxRecDepth 20000 in
theorem mm_365 : (.code ⟨"DocumentFile$Marks", "part", "(II)I"⟩ prog_3_method_7_code 3 (some .int) : Cond) ∈ lw_g := lw_g_of (mt2 (List.mem_of_getElem? (i := 78) rfl)) rfl
set_option maxRecDepth 20000 in
theorem mm_366 : (.methodLink "DocumentFile$Marks" 23 ⟨"DocumentFile$Marks", "has", "(I)Z"⟩ : Cond) ∈ lw_g := lw_g_of (mt2 (List.mem_of_getElem? (i := 79) (by decide +kernel))) rfl
set_option maxRecDepth 20000 in
theorem mm_367 : (.methodLink "DocumentFileLaw" 66 ⟨"DocumentFile", "run", "(II)I"⟩ : Cond) ∈ lw_g := lw_g_of (mt2 (List.mem_of_getElem? (i := 80) (by decide +kernel))) rfl
set_option maxRecDepth 20000 in
theorem mm_368 : (.instanceMethod ⟨"DocumentFile", "run", "(II)I"⟩ : Cond) ∈ lw_g := lw_g_of (mt2 (List.mem_of_getElem? (i := 81) (by decide +kernel))) rfl
set_option maxRecDepth 20000 in
theorem mm_369 : (.selects "DocumentFile" ⟨"DocumentFile", "run", "(II)I"⟩ ⟨"DocumentFile", "run", "(II)I"⟩ : Cond) ∈ lw_g := lw_g_of (mt2 (List.mem_of_getElem? (i := 82) (by decide +kernel))) rfl
set_option maxRecDepth 20000 in
theorem mm_370 : (.code ⟨"DocumentFile", "run", "(II)I"⟩ prog_1_method_13_code 3 (some .int) : Cond) ∈ lw_g := lw_g_of (mt2 (List.mem_of_getElem? (i := 83) rfl)) rfl
set_option maxRecDepth 20000 in
theorem mm_371 : (.methodLink "DocumentFile" 126 ⟨"DocumentFile$Runs", "part", "(II)I"⟩ : Cond) ∈ lw_g := lw_g_of (mt2 (List.mem_of_getElem? (i := 84) (by decide +kernel))) rfl
set_option maxRecDepth 20000 in
theorem mm_372 : (.instanceMethod ⟨"DocumentFile$Runs", "part", "(II)I"⟩ : Cond) ∈ lw_g := lw_g_of (mt2 (List.mem_of_getElem? (i := 85) (by decide +kernel))) rfl
set_option maxRecDepth 20000 in
theorem mm_373 : (.selects "DocumentFile$Runs" ⟨"DocumentFile$Runs", "part", "(II)I"⟩ ⟨"DocumentFile$Runs", "part", "(II)I"⟩ : Cond) ∈ lw_g := lw_g_of (mt2 (List.mem_of_getElem? (i := 86) (by decide +kernel))) rfl
set_option maxRecDepth 20000 in
theorem mm_374 : (.code ⟨"DocumentFile$Runs", "part", "(II)I"⟩ prog_7_method_9_code 3 (some .int) : Cond) ∈ lw_g := lw_g_of (mt2 (List.mem_of_getElem? (i := 87) rfl)) rfl
set_option maxRecDepth 20000 in
theorem mm_375 : (.methodLink "DocumentFileLaw" 70 ⟨"DocumentFile", "at", "(I)I"⟩ : Cond) ∈ lw_g := lw_g_of (mt2 (List.mem_of_getElem? (i := 88) (by decide +kernel))) rfl
set_option maxRecDepth 20000 in
theorem mm_376 : (.instanceMethod ⟨"DocumentFile", "at", "(I)I"⟩ : Cond) ∈ lw_g := lw_g_of (mt2 (List.mem_of_getElem? (i := 89) (by decide +kernel))) rfl
set_option maxRecDepth 20000 in
theorem mm_377 : (.selects "DocumentFile" ⟨"DocumentFile", "at", "(I)I"⟩ ⟨"DocumentFile", "at", "(I)I"⟩ : Cond) ∈ lw_g := lw_g_of (mt2 (List.mem_of_getElem? (i := 90) (by decide +kernel))) rfl
set_option maxRecDepth 20000 in
theorem mm_378 : (.code ⟨"DocumentFile", "at", "(I)I"⟩ prog_1_method_14_code 2 (some .int) : Cond) ∈ lw_g := lw_g_of (mt2 (List.mem_of_getElem? (i := 91) rfl)) rfl
set_option maxRecDepth 20000 in
theorem mm_379 : (.methodLink "DocumentFile" 127 ⟨"DocumentFile$Runs", "character", "(I)I"⟩ : Cond) ∈ lw_g := lw_g_of (mt2 (List.mem_of_getElem? (i := 92) (by decide +kernel))) rfl
set_option maxRecDepth 20000 in
theorem mm_380 : (.instanceMethod ⟨"DocumentFile$Runs", "character", "(I)I"⟩ : Cond) ∈ lw_g := lw_g_of (mt2 (List.mem_of_getElem? (i := 93) (by decide +kernel))) rfl
set_option maxRecDepth 20000 in
theorem mm_381 : (.selects "DocumentFile$Runs" ⟨"DocumentFile$Runs", "character", "(I)I"⟩ ⟨"DocumentFile$Runs", "character", "(I)I"⟩ : Cond) ∈ lw_g := lw_g_of (mt2 (List.mem_of_getElem? (i := 94) (by decide +kernel))) rfl
set_option maxRecDepth 20000 in
theorem mm_382 : (.code ⟨"DocumentFile$Runs", "character", "(I)I"⟩ prog_7_method_10_code 2 (some .int) : Cond) ∈ lw_g := lw_g_of (mt2 (List.mem_of_getElem? (i := 95) rfl)) rfl
set_option maxRecDepth 20000 in
theorem mm_383 : (.methodLink "DocumentFileLaw" 74 ⟨"DocumentFile", "save", "()I"⟩ : Cond) ∈ lw_g := lw_g_of (mt2 (List.mem_of_getElem? (i := 96) (by decide +kernel))) rfl
set_option maxRecDepth 20000 in
theorem mm_384 : (.instanceMethod ⟨"DocumentFile", "save", "()I"⟩ : Cond) ∈ lw_g := lw_g_of (mt2 (List.mem_of_getElem? (i := 97) (by decide +kernel))) rfl
set_option maxRecDepth 20000 in
theorem mm_385 : (.selects "DocumentFile" ⟨"DocumentFile", "save", "()I"⟩ ⟨"DocumentFile", "save", "()I"⟩ : Cond) ∈ lw_g := lw_g_of (mt2 (List.mem_of_getElem? (i := 98) (by decide +kernel))) rfl
set_option maxRecDepth 20000 in
theorem mm_386 : (.code ⟨"DocumentFile", "save", "()I"⟩ prog_1_method_15_code 1 (some .int) : Cond) ∈ lw_g := lw_g_of (mt2 (List.mem_of_getElem? (i := 99) rfl)) rfl
set_option maxRecDepth 20000 in
theorem mm_387 : (.methodLink "DocumentFile" 130 ⟨"DocumentFile$Writer", "write", "(LDocumentFile$Document;)V"⟩ : Cond) ∈ lw_g := lw_g_of (mt2 (List.mem_of_getElem? (i := 100) (by decide +kernel))) rfl
set_option maxRecDepth 20000 in
theorem mm_388 : (.instanceMethod ⟨"DocumentFile$Writer", "write", "(LDocumentFile$Document;)V"⟩ : Cond) ∈ lw_g := lw_g_of (mt2 (List.mem_of_getElem? (i := 101) (by decide +kernel))) rfl
set_option maxRecDepth 20000 in
theorem mm_389 : (.selects "DocumentFile$Writer" ⟨"DocumentFile$Writer", "write", "(LDocumentFile$Document;)V"⟩ ⟨"DocumentFile$Writer", "write", "(LDocumentFile$Document;)V"⟩ : Cond) ∈ lw_g := lw_g_of (mt2 (List.mem_of_getElem? (i := 102) (by decide +kernel))) rfl
set_option maxRecDepth 20000 in
theorem mm_390 : (.code ⟨"DocumentFile$Writer", "write", "(LDocumentFile$Document;)V"⟩ prog_8_method_2_code 3 none : Cond) ∈ lw_g := lw_g_of (mt2 (List.mem_of_getElem? (i := 103) rfl)) rfl
set_option maxRecDepth 20000 in
theorem mm_391 : (.methodLink "DocumentFile$Writer" 29 ⟨"DocumentFile$Octets", "keep", "(I)Z"⟩ : Cond) ∈ lw_g := lw_g_of (mt2 (List.mem_of_getElem? (i := 104) (by decide +kernel))) rfl
set_option maxRecDepth 20000 in
theorem mm_392 : (.instanceMethod ⟨"DocumentFile$Octets", "keep", "(I)Z"⟩ : Cond) ∈ lw_g := lw_g_of (mt2 (List.mem_of_getElem? (i := 105) (by decide +kernel))) rfl
set_option maxRecDepth 20000 in
theorem mm_393 : (.selects "DocumentFile$Octets" ⟨"DocumentFile$Octets", "keep", "(I)Z"⟩ ⟨"DocumentFile$Octets", "keep", "(I)Z"⟩ : Cond) ∈ lw_g := lw_g_of (mt2 (List.mem_of_getElem? (i := 106) (by decide +kernel))) rfl
set_option maxRecDepth 20000 in
theorem mm_394 : (.code ⟨"DocumentFile$Octets", "keep", "(I)Z"⟩ prog_4_method_6_code 2 (some .boolean) : Cond) ∈ lw_g := lw_g_of (mt2 (List.mem_of_getElem? (i := 107) rfl)) rfl
set_option maxRecDepth 20000 in
theorem mm_397 : (.methodLink "DocumentFile$Writer" 38 ⟨"DocumentFile$Octets", "append", "(I)Z"⟩ : Cond) ∈ lw_g := lw_g_of (mt2 (List.mem_of_getElem? (i := 110) (by decide +kernel))) rfl
set_option maxRecDepth 20000 in
theorem mm_398 : (.instanceMethod ⟨"DocumentFile$Octets", "append", "(I)Z"⟩ : Cond) ∈ lw_g := lw_g_of (mt2 (List.mem_of_getElem? (i := 111) (by decide +kernel))) rfl
set_option maxRecDepth 20000 in
theorem mm_399 : (.selects "DocumentFile$Octets" ⟨"DocumentFile$Octets", "append", "(I)Z"⟩ ⟨"DocumentFile$Octets", "append", "(I)Z"⟩ : Cond) ∈ lw_g := lw_g_of (mt2 (List.mem_of_getElem? (i := 112) (by decide +kernel))) rfl
set_option maxRecDepth 20000 in
theorem mm_400 : (.code ⟨"DocumentFile$Octets", "append", "(I)Z"⟩ prog_4_method_5_code 2 (some .boolean) : Cond) ∈ lw_g := lw_g_of (mt2 (List.mem_of_getElem? (i := 113) rfl)) rfl
set_option maxRecDepth 20000 in
theorem mm_401 : (.methodLink "DocumentFile$Writer" 41 ⟨"DocumentFile$Writer", "writeStyles", "(LDocumentFile$Document;)V"⟩ : Cond) ∈ lw_g := lw_g_of (mt2 (List.mem_of_getElem? (i := 114) (by decide +kernel))) rfl
set_option maxRecDepth 20000 in
theorem mm_403 : (.instanceMethod ⟨"DocumentFile$Writer", "writeStyles", "(LDocumentFile$Document;)V"⟩ : Cond) ∈ lw_g := lw_g_of (mt2 (List.mem_of_getElem? (i := 116) (by decide +kernel))) rfl
set_option maxRecDepth 20000 in
theorem mm_404 : (.code ⟨"DocumentFile$Writer", "writeStyles", "(LDocumentFile$Document;)V"⟩ prog_8_method_4_code 3 none : Cond) ∈ lw_g := lw_g_of (mt2 (List.mem_of_getElem? (i := 117) rfl)) rfl
set_option maxRecDepth 20000 in
theorem mm_405 : (.methodLink "DocumentFile$Writer" 76 ⟨"DocumentFile$PropertyRows", "rows", "()I"⟩ : Cond) ∈ lw_g := lw_g_of (mt2 (List.mem_of_getElem? (i := 118) (by decide +kernel))) rfl
set_option maxRecDepth 20000 in
theorem mm_406 : (.methodLink "DocumentFile$Writer" 49 ⟨"DocumentFile$Writer", "writeNumber", "(I)V"⟩ : Cond) ∈ lw_g := lw_g_of (mt2 (List.mem_of_getElem? (i := 119) (by decide +kernel))) rfl
set_option maxRecDepth 20000 in
theorem mm_408 : (.instanceMethod ⟨"DocumentFile$Writer", "writeNumber", "(I)V"⟩ : Cond) ∈ lw_g := lw_g_of (mt2 (List.mem_of_getElem? (i := 121) (by decide +kernel))) rfl
set_option maxRecDepth 20000 in
theorem mm_409 : (.code ⟨"DocumentFile$Writer", "writeNumber", "(I)V"⟩ prog_8_method_3_code 2 none : Cond) ∈ lw_g := lw_g_of (mt2 (List.mem_of_getElem? (i := 122) rfl)) rfl
set_option maxRecDepth 20000 in
theorem mm_410 : (.methodLink "DocumentFile$Writer" 79 ⟨"DocumentFile$Document", "baseOf", "(I)I"⟩ : Cond) ∈ lw_g := lw_g_of (mt2 (List.mem_of_getElem? (i := 123) (by decide +kernel))) rfl
set_option maxRecDepth 20000 in
theorem mm_411 : (.methodLink "DocumentFile$Writer" 83 ⟨"DocumentFile$Writer", "writeProperties", "(LDocumentFile$PropertyRows;I)V"⟩ : Cond) ∈ lw_g := lw_g_of (mt2 (List.mem_of_getElem? (i := 124) (by decide +kernel))) rfl
set_option maxRecDepth 20000 in
theorem mm_413 : (.instanceMethod ⟨"DocumentFile$Writer", "writeProperties", "(LDocumentFile$PropertyRows;I)V"⟩ : Cond) ∈ lw_g := lw_g_of (mt2 (List.mem_of_getElem? (i := 126) (by decide +kernel))) rfl
set_option maxRecDepth 20000 in
theorem mm_414 : (.code ⟨"DocumentFile$Writer", "writeProperties", "(LDocumentFile$PropertyRows;I)V"⟩ prog_8_method_5_code 5 none : Cond) ∈ lw_g := lw_g_of (mt2 (List.mem_of_getElem? (i := 127) rfl)) rfl
set_option maxRecDepth 20000 in
theorem mm_415 : (.methodLink "DocumentFile$Writer" 87 ⟨"DocumentFile$PropertyRows", "held", "(I)I"⟩ : Cond) ∈ lw_g := lw_g_of (mt2 (List.mem_of_getElem? (i := 128) (by decide +kernel))) rfl
set_option maxRecDepth 20000 in
theorem mm_416 : (.instanceMethod ⟨"DocumentFile$PropertyRows", "held", "(I)I"⟩ : Cond) ∈ lw_g := lw_g_of (mt2 (List.mem_of_getElem? (i := 129) (by decide +kernel))) rfl
set_option maxRecDepth 20000 in
theorem mm_417 : (.selects "DocumentFile$PropertyRows" ⟨"DocumentFile$PropertyRows", "held", "(I)I"⟩ ⟨"DocumentFile$PropertyRows", "held", "(I)I"⟩ : Cond) ∈ lw_g := lw_g_of (mt2 (List.mem_of_getElem? (i := 130) (by decide +kernel))) rfl
set_option maxRecDepth 20000 in
theorem mm_418 : (.code ⟨"DocumentFile$PropertyRows", "held", "(I)I"⟩ prog_5_method_9_code 4 (some .int) : Cond) ∈ lw_g := lw_g_of (mt2 (List.mem_of_getElem? (i := 131) rfl)) rfl
set_option maxRecDepth 20000 in
theorem mm_419 : (.methodLink "DocumentFile$Writer" 90 ⟨"DocumentFile$PropertyRows", "get", "(II)I"⟩ : Cond) ∈ lw_g := lw_g_of (mt2 (List.mem_of_getElem? (i := 132) (by decide +kernel))) rfl
set_option maxRecDepth 20000 in
theorem mm_420 : (.methodLink "DocumentFile$Writer" 45 ⟨"DocumentFile$Writer", "joinedRuns", "(LDocumentFile$Document;)I"⟩ : Cond) ∈ lw_g := lw_g_of (mt2 (List.mem_of_getElem? (i := 133) (by decide +kernel))) rfl
set_option maxRecDepth 20000 in
theorem mm_422 : (.instanceMethod ⟨"DocumentFile$Writer", "joinedRuns", "(LDocumentFile$Document;)I"⟩ : Cond) ∈ lw_g := lw_g_of (mt2 (List.mem_of_getElem? (i := 135) (by decide +kernel))) rfl
set_option maxRecDepth 20000 in
theorem mm_423 : (.code ⟨"DocumentFile$Writer", "joinedRuns", "(LDocumentFile$Document;)I"⟩ prog_8_method_6_code 4 (some .int) : Cond) ∈ lw_g := lw_g_of (mt2 (List.mem_of_getElem? (i := 136) rfl)) rfl
set_option maxRecDepth 20000 in
theorem mm_424 : (.methodLink "DocumentFile$Writer" 59 ⟨"DocumentFile$Runs", "rows", "()I"⟩ : Cond) ∈ lw_g := lw_g_of (mt2 (List.mem_of_getElem? (i := 137) (by decide +kernel))) rfl
set_option maxRecDepth 20000 in
theorem mm_425 : (.methodLink "DocumentFile$Writer" 65 ⟨"DocumentFile$Document", "goesOn", "(I)Z"⟩ : Cond) ∈ lw_g := lw_g_of (mt2 (List.mem_of_getElem? (i := 138) (by decide +kernel))) rfl
set_option maxRecDepth 20000 in
theorem mm_426 : (.instanceMethod ⟨"DocumentFile$Document", "goesOn", "(I)Z"⟩ : Cond) ∈ lw_g := lw_g_of (mt2 (List.mem_of_getElem? (i := 139) (by decide +kernel))) rfl
set_option maxRecDepth 20000 in
theorem mm_427 : (.selects "DocumentFile$Document" ⟨"DocumentFile$Document", "goesOn", "(I)Z"⟩ ⟨"DocumentFile$Document", "goesOn", "(I)Z"⟩ : Cond) ∈ lw_g := lw_g_of (mt2 (List.mem_of_getElem? (i := 140) (by decide +kernel))) rfl
set_option maxRecDepth 20000 in
theorem mm_428 : (.code ⟨"DocumentFile$Document", "goesOn", "(I)Z"⟩ prog_2_method_8_code 3 (some .boolean) : Cond) ∈ lw_g := lw_g_of (mt2 (List.mem_of_getElem? (i := 141) rfl)) rfl
set_option maxRecDepth 20000 in
theorem mm_429 : (.methodLink "DocumentFile$Document" 69 ⟨"DocumentFile$Runs", "part", "(II)I"⟩ : Cond) ∈ lw_g := lw_g_of (mt2 (List.mem_of_getElem? (i := 142) (by decide +kernel))) rfl
set_option maxRecDepth 20000 in
theorem mm_430 : (.methodLink "DocumentFile$Document" 62 ⟨"DocumentFile$PropertyRows", "same", "(II)Z"⟩ : Cond) ∈ lw_g := lw_g_of (mt2 (List.mem_of_getElem? (i := 143) (by decide +kernel))) rfl
set_option maxRecDepth 20000 in
theorem mm_431 : (.instanceMethod ⟨"DocumentFile$PropertyRows", "same", "(II)Z"⟩ : Cond) ∈ lw_g := lw_g_of (mt2 (List.mem_of_getElem? (i := 144) (by decide +kernel))) rfl
set_option maxRecDepth 20000 in
theorem mm_432 : (.selects "DocumentFile$PropertyRows" ⟨"DocumentFile$PropertyRows", "same", "(II)Z"⟩ ⟨"DocumentFile$PropertyRows", "same", "(II)Z"⟩ : Cond) ∈ lw_g := lw_g_of (mt2 (List.mem_of_getElem? (i := 145) (by decide +kernel))) rfl
set_option maxRecDepth 20000 in
theorem mm_433 : (.code ⟨"DocumentFile$PropertyRows", "same", "(II)Z"⟩ prog_5_method_10_code 4 (some .boolean) : Cond) ∈ lw_g := lw_g_of (mt2 (List.mem_of_getElem? (i := 146) rfl)) rfl
set_option maxRecDepth 20000 in
theorem mm_434 : (.methodLink "DocumentFile$Document" 66 ⟨"DocumentFile$Document", "sameMarks", "(II)Z"⟩ : Cond) ∈ lw_g := lw_g_of (mt2 (List.mem_of_getElem? (i := 147) (by decide +kernel))) rfl
set_option maxRecDepth 20000 in
theorem mm_435 : (.instanceMethod ⟨"DocumentFile$Document", "sameMarks", "(II)Z"⟩ : Cond) ∈ lw_g := lw_g_of (mt2 (List.mem_of_getElem? (i := 148) (by decide +kernel))) rfl
set_option maxRecDepth 20000 in
theorem mm_436 : (.selects "DocumentFile$Document" ⟨"DocumentFile$Document", "sameMarks", "(II)Z"⟩ ⟨"DocumentFile$Document", "sameMarks", "(II)Z"⟩ : Cond) ∈ lw_g := lw_g_of (mt2 (List.mem_of_getElem? (i := 149) (by decide +kernel))) rfl
set_option maxRecDepth 20000 in
theorem mm_437 : (.code ⟨"DocumentFile$Document", "sameMarks", "(II)Z"⟩ prog_2_method_6_code 5 (some .boolean) : Cond) ∈ lw_g := lw_g_of (mt2 (List.mem_of_getElem? (i := 150) rfl)) rfl
set_option maxRecDepth 20000 in
theorem mm_438 : (.methodLink "DocumentFile$Document" 58 ⟨"DocumentFile$Marks", "part", "(II)I"⟩ : Cond) ∈ lw_g := lw_g_of (mt2 (List.mem_of_getElem? (i := 151) (by decide +kernel))) rfl
set_option maxRecDepth 20000 in
theorem mm_439 : (.methodLink "DocumentFile$Writer" 68 ⟨"DocumentFile$Writer", "writeRun", "(LDocumentFile$Document;I)V"⟩ : Cond) ∈ lw_g := lw_g_of (mt2 (List.mem_of_getElem? (i := 152) (by decide +kernel))) rfl
set_option maxRecDepth 20000 in
theorem mm_441 : (.instanceMethod ⟨"DocumentFile$Writer", "writeRun", "(LDocumentFile$Document;I)V"⟩ : Cond) ∈ lw_g := lw_g_of (mt2 (List.mem_of_getElem? (i := 154) (by decide +kernel))) rfl
set_option maxRecDepth 20000 in
theorem mm_442 : (.code ⟨"DocumentFile$Writer", "writeRun", "(LDocumentFile$Document;I)V"⟩ prog_8_method_7_code 7 none : Cond) ∈ lw_g := lw_g_of (mt2 (List.mem_of_getElem? (i := 155) rfl)) rfl
set_option maxRecDepth 20000 in
theorem mm_443 : (.methodLink "DocumentFile$Writer" 94 ⟨"DocumentFile$Runs", "part", "(II)I"⟩ : Cond) ∈ lw_g := lw_g_of (mt2 (List.mem_of_getElem? (i := 156) (by decide +kernel))) rfl
set_option maxRecDepth 20000 in
theorem mm_444 : (.methodLink "DocumentFile$Writer" 97 ⟨"DocumentFile$Writer", "writeSet", "(LDocumentFile$Document;II)V"⟩ : Cond) ∈ lw_g := lw_g_of (mt2 (List.mem_of_getElem? (i := 157) (by decide +kernel))) rfl
set_option maxRecDepth 20000 in
theorem mm_446 : (.instanceMethod ⟨"DocumentFile$Writer", "writeSet", "(LDocumentFile$Document;II)V"⟩ : Cond) ∈ lw_g := lw_g_of (mt2 (List.mem_of_getElem? (i := 159) (by decide +kernel))) rfl
set_option maxRecDepth 20000 in
theorem mm_447 : (.code ⟨"DocumentFile$Writer", "writeSet", "(LDocumentFile$Document;II)V"⟩ prog_8_method_9_code 5 none : Cond) ∈ lw_g := lw_g_of (mt2 (List.mem_of_getElem? (i := 160) rfl)) rfl
set_option maxRecDepth 20000 in
theorem mm_448 : (.methodLink "DocumentFile$Writer" 111 ⟨"DocumentFile$Writer", "numberOfSet", "(LDocumentFile$Document;I)I"⟩ : Cond) ∈ lw_g := lw_g_of (mt2 (List.mem_of_getElem? (i := 161) (by decide +kernel))) rfl
set_option maxRecDepth 20000 in
theorem mm_450 : (.instanceMethod ⟨"DocumentFile$Writer", "numberOfSet", "(LDocumentFile$Document;I)I"⟩ : Cond) ∈ lw_g := lw_g_of (mt2 (List.mem_of_getElem? (i := 163) (by decide +kernel))) rfl
set_option maxRecDepth 20000 in
theorem mm_451 : (.code ⟨"DocumentFile$Writer", "numberOfSet", "(LDocumentFile$Document;I)I"⟩ prog_8_method_10_code 4 (some .int) : Cond) ∈ lw_g := lw_g_of (mt2 (List.mem_of_getElem? (i := 164) rfl)) rfl
set_option maxRecDepth 20000 in
theorem mm_452 : (.methodLink "DocumentFile$Writer" 117 ⟨"DocumentFile$PropertyRows", "same", "(II)Z"⟩ : Cond) ∈ lw_g := lw_g_of (mt2 (List.mem_of_getElem? (i := 165) (by decide +kernel))) rfl
set_option maxRecDepth 20000 in
theorem mm_453 : (.methodLink "DocumentFile$Writer" 101 ⟨"DocumentFile$Writer", "writeMark", "(LDocumentFile$Document;I)V"⟩ : Cond) ∈ lw_g := lw_g_of (mt2 (List.mem_of_getElem? (i := 166) (by decide +kernel))) rfl
set_option maxRecDepth 20000 in
theorem mm_455 : (.instanceMethod ⟨"DocumentFile$Writer", "writeMark", "(LDocumentFile$Document;I)V"⟩ : Cond) ∈ lw_g := lw_g_of (mt2 (List.mem_of_getElem? (i := 168) (by decide +kernel))) rfl
set_option maxRecDepth 20000 in
theorem mm_456 : (.code ⟨"DocumentFile$Writer", "writeMark", "(LDocumentFile$Document;I)V"⟩ prog_8_method_11_code 5 none : Cond) ∈ lw_g := lw_g_of (mt2 (List.mem_of_getElem? (i := 169) rfl)) rfl
set_option maxRecDepth 20000 in
theorem mm_457 : (.methodLink "DocumentFile$Writer" 121 ⟨"DocumentFile$Writer", "numberOfMark", "(LDocumentFile$Document;I)I"⟩ : Cond) ∈ lw_g := lw_g_of (mt2 (List.mem_of_getElem? (i := 170) (by decide +kernel))) rfl
set_option maxRecDepth 20000 in
theorem mm_459 : (.instanceMethod ⟨"DocumentFile$Writer", "numberOfMark", "(LDocumentFile$Document;I)I"⟩ : Cond) ∈ lw_g := lw_g_of (mt2 (List.mem_of_getElem? (i := 172) (by decide +kernel))) rfl
set_option maxRecDepth 20000 in
theorem mm_460 : (.code ⟨"DocumentFile$Writer", "numberOfMark", "(LDocumentFile$Document;I)I"⟩ prog_8_method_12_code 4 (some .int) : Cond) ∈ lw_g := lw_g_of (mt2 (List.mem_of_getElem? (i := 173) rfl)) rfl
set_option maxRecDepth 20000 in
theorem mm_461 : (.methodLink "DocumentFile$Writer" 131 ⟨"DocumentFile$Document", "sameMarks", "(II)Z"⟩ : Cond) ∈ lw_g := lw_g_of (mt2 (List.mem_of_getElem? (i := 174) (by decide +kernel))) rfl
set_option maxRecDepth 20000 in
theorem mm_462 : (.methodLink "DocumentFile$Writer" 128 ⟨"DocumentFile$Marks", "part", "(II)I"⟩ : Cond) ∈ lw_g := lw_g_of (mt2 (List.mem_of_getElem? (i := 175) (by decide +kernel))) rfl
set_option maxRecDepth 20000 in
theorem mm_463 : (.methodLink "DocumentFile$Writer" 104 ⟨"DocumentFile$Writer", "joinedLength", "(LDocumentFile$Document;I)I"⟩ : Cond) ∈ lw_g := lw_g_of (mt2 (List.mem_of_getElem? (i := 176) (by decide +kernel))) rfl
set_option maxRecDepth 20000 in
theorem mm_465 : (.instanceMethod ⟨"DocumentFile$Writer", "joinedLength", "(LDocumentFile$Document;I)I"⟩ : Cond) ∈ lw_g := lw_g_of (mt2 (List.mem_of_getElem? (i := 178) (by decide +kernel))) rfl
set_option maxRecDepth 20000 in
theorem mm_466 : (.code ⟨"DocumentFile$Writer", "joinedLength", "(LDocumentFile$Document;I)I"⟩ prog_8_method_8_code 5 (some .int) : Cond) ∈ lw_g := lw_g_of (mt2 (List.mem_of_getElem? (i := 179) rfl)) rfl
set_option maxRecDepth 20000 in
theorem mm_467 : (.methodLink "DocumentFile$Writer" 108 ⟨"DocumentFile$Runs", "character", "(I)I"⟩ : Cond) ∈ lw_g := lw_g_of (mt2 (List.mem_of_getElem? (i := 180) (by decide +kernel))) rfl
set_option maxRecDepth 20000 in
theorem mm_468 : (.methodLink "DocumentFileLaw" 78 ⟨"DocumentFile", "open", "()I"⟩ : Cond) ∈ lw_g := lw_g_of (mt2 (List.mem_of_getElem? (i := 181) (by decide +kernel))) rfl
set_option maxRecDepth 20000 in
theorem mm_469 : (.instanceMethod ⟨"DocumentFile", "open", "()I"⟩ : Cond) ∈ lw_g := lw_g_of (mt2 (List.mem_of_getElem? (i := 182) (by decide +kernel))) rfl
set_option maxRecDepth 20000 in
theorem mm_470 : (.selects "DocumentFile" ⟨"DocumentFile", "open", "()I"⟩ ⟨"DocumentFile", "open", "()I"⟩ : Cond) ∈ lw_g := lw_g_of (mt2 (List.mem_of_getElem? (i := 183) (by decide +kernel))) rfl
set_option maxRecDepth 20000 in
theorem mm_471 : (.code ⟨"DocumentFile", "open", "()I"⟩ prog_1_method_16_code 3 (some .int) : Cond) ∈ lw_g := lw_g_of (mt2 (List.mem_of_getElem? (i := 184) rfl)) rfl
set_option maxRecDepth 20000 in
theorem mm_472 : (.methodLink "DocumentFile" 134 ⟨"DocumentFile$Reader", "read", "(LDocumentFile$Document;)I"⟩ : Cond) ∈ lw_g := lw_g_of (mt2 (List.mem_of_getElem? (i := 185) (by decide +kernel))) rfl
set_option maxRecDepth 20000 in
theorem mm_473 : (.instanceMethod ⟨"DocumentFile$Reader", "read", "(LDocumentFile$Document;)I"⟩ : Cond) ∈ lw_g := lw_g_of (mt2 (List.mem_of_getElem? (i := 186) (by decide +kernel))) rfl
set_option maxRecDepth 20000 in
theorem mm_474 : (.selects "DocumentFile$Reader" ⟨"DocumentFile$Reader", "read", "(LDocumentFile$Document;)I"⟩ ⟨"DocumentFile$Reader", "read", "(LDocumentFile$Document;)I"⟩ : Cond) ∈ lw_g := lw_g_of (mt2 (List.mem_of_getElem? (i := 187) (by decide +kernel))) rfl
set_option maxRecDepth 20000 in
theorem mm_475 : (.code ⟨"DocumentFile$Reader", "read", "(LDocumentFile$Document;)I"⟩ prog_6_method_2_code 4 (some .int) : Cond) ∈ lw_g := lw_g_of (mt2 (List.mem_of_getElem? (i := 188) rfl)) rfl
set_option maxRecDepth 20000 in
theorem mm_476 : (.methodLink "DocumentFile$Reader" 25 ⟨"DocumentFile$Document", "empty", "()V"⟩ : Cond) ∈ lw_g := lw_g_of (mt2 (List.mem_of_getElem? (i := 189) (by decide +kernel))) rfl
set_option maxRecDepth 20000 in
theorem mm_477 : (.methodLink "DocumentFile$Reader" 30 ⟨"DocumentFile$Reader", "readHead", "()V"⟩ : Cond) ∈ lw_g := lw_g_of (mt2 (List.mem_of_getElem? (i := 190) (by decide +kernel))) rfl
set_option maxRecDepth 20000 in
theorem mm_479 : (.instanceMethod ⟨"DocumentFile$Reader", "readHead", "()V"⟩ : Cond) ∈ lw_g := lw_g_of (mt2 (List.mem_of_getElem? (i := 192) (by decide +kernel))) rfl
set_option maxRecDepth 20000 in
theorem mm_480 : (.code ⟨"DocumentFile$Reader", "readHead", "()V"⟩ prog_6_method_5_code 2 none : Cond) ∈ lw_g := lw_g_of (mt2 (List.mem_of_getElem? (i := 193) rfl)) rfl
set_option maxRecDepth 20000 in
theorem mm_482 : (.methodLink "DocumentFile$Reader" 41 ⟨"DocumentFile$Reader", "failed", "()Z"⟩ : Cond) ∈ lw_g := lw_g_of (mt2 (List.mem_of_getElem? (i := 195) (by decide +kernel))) rfl
set_option maxRecDepth 20000 in
theorem mm_484 : (.instanceMethod ⟨"DocumentFile$Reader", "failed", "()Z"⟩ : Cond) ∈ lw_g := lw_g_of (mt2 (List.mem_of_getElem? (i := 197) (by decide +kernel))) rfl
set_option maxRecDepth 20000 in
theorem mm_485 : (.code ⟨"DocumentFile$Reader", "failed", "()Z"⟩ prog_6_method_3_code 1 (some .boolean) : Cond) ∈ lw_g := lw_g_of (mt2 (List.mem_of_getElem? (i := 198) rfl)) rfl
set_option maxRecDepth 20000 in
theorem mm_486 : (.methodLink "DocumentFile$Reader" 62 ⟨"DocumentFile$Octets", "get", "(I)I"⟩ : Cond) ∈ lw_g := lw_g_of (mt2 (List.mem_of_getElem? (i := 199) (by decide +kernel))) rfl
set_option maxRecDepth 20000 in
theorem mm_487 : (.instanceMethod ⟨"DocumentFile$Octets", "get", "(I)I"⟩ : Cond) ∈ lw_g := lw_g_of (mt2 (List.mem_of_getElem? (i := 200) (by decide +kernel))) rfl
set_option maxRecDepth 20000 in
theorem mm_488 : (.selects "DocumentFile$Octets" ⟨"DocumentFile$Octets", "get", "(I)I"⟩ ⟨"DocumentFile$Octets", "get", "(I)I"⟩ : Cond) ∈ lw_g := lw_g_of (mt2 (List.mem_of_getElem? (i := 201) (by decide +kernel))) rfl
set_option maxRecDepth 20000 in
theorem mm_489 : (.code ⟨"DocumentFile$Octets", "get", "(I)I"⟩ prog_4_method_3_code 2 (some .int) : Cond) ∈ lw_g := lw_g_of (mt2 (List.mem_of_getElem? (i := 202) rfl)) rfl
set_option maxRecDepth 20000 in
theorem mm_490 : (.methodLink "DocumentFile$Reader" 54 ⟨"DocumentFile$Reader", "refuse", "(I)I"⟩ : Cond) ∈ lw_g := lw_g_of (mt2 (List.mem_of_getElem? (i := 203) (by decide +kernel))) rfl
set_option maxRecDepth 20000 in
theorem mm_492 : (.instanceMethod ⟨"DocumentFile$Reader", "refuse", "(I)I"⟩ : Cond) ∈ lw_g := lw_g_of (mt2 (List.mem_of_getElem? (i := 205) (by decide +kernel))) rfl
set_option maxRecDepth 20000 in
theorem mm_493 : (.code ⟨"DocumentFile$Reader", "refuse", "(I)I"⟩ prog_6_method_4_code 2 (some .int) : Cond) ∈ lw_g := lw_g_of (mt2 (List.mem_of_getElem? (i := 206) rfl)) rfl
set_option maxRecDepth 20000 in
theorem mm_494 : (.methodLink "DocumentFile$Reader" 33 ⟨"DocumentFile$Reader", "readStyles", "(LDocumentFile$Document;)V"⟩ : Cond) ∈ lw_g := lw_g_of (mt2 (List.mem_of_getElem? (i := 207) (by decide +kernel))) rfl
set_option maxRecDepth 20000 in
theorem mm_496 : (.instanceMethod ⟨"DocumentFile$Reader", "readStyles", "(LDocumentFile$Document;)V"⟩ : Cond) ∈ lw_g := lw_g_of (mt2 (List.mem_of_getElem? (i := 209) (by decide +kernel))) rfl
set_option maxRecDepth 20000 in
theorem mm_497 : (.code ⟨"DocumentFile$Reader", "readStyles", "(LDocumentFile$Document;)V"⟩ prog_6_method_7_code 4 none : Cond) ∈ lw_g := lw_g_of (mt2 (List.mem_of_getElem? (i := 210) rfl)) rfl
set_option maxRecDepth 20000 in
theorem mm_498 : (.methodLink "DocumentFile$Reader" 37 ⟨"DocumentFile$Reader", "readNumber", "(II)I"⟩ : Cond) ∈ lw_g := lw_g_of (mt2 (List.mem_of_getElem? (i := 211) (by decide +kernel))) rfl
set_option maxRecDepth 20000 in
theorem mm_500 : (.instanceMethod ⟨"DocumentFile$Reader", "readNumber", "(II)I"⟩ : Cond) ∈ lw_g := lw_g_of (mt2 (List.mem_of_getElem? (i := 213) (by decide +kernel))) rfl
set_option maxRecDepth 20000 in
theorem mm_501 : (.code ⟨"DocumentFile$Reader", "readNumber", "(II)I"⟩ prog_6_method_6_code 6 (some .int) : Cond) ∈ lw_g := lw_g_of (mt2 (List.mem_of_getElem? (i := 214) rfl)) rfl
set_option maxRecDepth 20000 in
theorem mm_502 : (.methodLink "DocumentFile$Reader" 65 ⟨"DocumentFile$Document", "addStyle", "(I)I"⟩ : Cond) ∈ lw_g := lw_g_of (mt2 (List.mem_of_getElem? (i := 215) (by decide +kernel))) rfl
set_option maxRecDepth 20000 in
theorem mm_503 : (.methodLink "DocumentFile$Reader" 68 ⟨"DocumentFile$Reader", "readBase", "(LDocumentFile$Document;I)V"⟩ : Cond) ∈ lw_g := lw_g_of (mt2 (List.mem_of_getElem? (i := 216) (by decide +kernel))) rfl
set_option maxRecDepth 20000 in
theorem mm_505 : (.instanceMethod ⟨"DocumentFile$Reader", "readBase", "(LDocumentFile$Document;I)V"⟩ : Cond) ∈ lw_g := lw_g_of (mt2 (List.mem_of_getElem? (i := 218) (by decide +kernel))) rfl
set_option maxRecDepth 20000 in
theorem mm_506 : (.code ⟨"DocumentFile$Reader", "readBase", "(LDocumentFile$Document;I)V"⟩ prog_6_method_8_code 4 none : Cond) ∈ lw_g := lw_g_of (mt2 (List.mem_of_getElem? (i := 219) rfl)) rfl
set_option maxRecDepth 20000 in
theorem mm_507 : (.methodLink "DocumentFile$Reader" 80 ⟨"DocumentFile$PropertyRows", "rows", "()I"⟩ : Cond) ∈ lw_g := lw_g_of (mt2 (List.mem_of_getElem? (i := 220) (by decide +kernel))) rfl
set_option maxRecDepth 20000 in
theorem mm_508 : (.methodLink "DocumentFile$Reader" 85 ⟨"DocumentFile$Document", "rebase", "(II)Z"⟩ : Cond) ∈ lw_g := lw_g_of (mt2 (List.mem_of_getElem? (i := 221) (by decide +kernel))) rfl
set_option maxRecDepth 20000 in
theorem mm_509 : (.instanceMethod ⟨"DocumentFile$Document", "rebase", "(II)Z"⟩ : Cond) ∈ lw_g := lw_g_of (mt2 (List.mem_of_getElem? (i := 222) (by decide +kernel))) rfl
set_option maxRecDepth 20000 in
theorem mm_510 : (.selects "DocumentFile$Document" ⟨"DocumentFile$Document", "rebase", "(II)Z"⟩ ⟨"DocumentFile$Document", "rebase", "(II)Z"⟩ : Cond) ∈ lw_g := lw_g_of (mt2 (List.mem_of_getElem? (i := 223) (by decide +kernel))) rfl
set_option maxRecDepth 20000 in
theorem mm_511 : (.code ⟨"DocumentFile$Document", "rebase", "(II)Z"⟩ prog_2_method_5_code 5 (some .boolean) : Cond) ∈ lw_g := lw_g_of (mt2 (List.mem_of_getElem? (i := 224) rfl)) rfl
set_option maxRecDepth 20000 in
theorem mm_512 : (.methodLink "DocumentFile$Document" 54 ⟨"DocumentFile$Document", "baseOf", "(I)I"⟩ : Cond) ∈ lw_g := lw_g_of (mt2 (List.mem_of_getElem? (i := 225) (by decide +kernel))) rfl
set_option maxRecDepth 20000 in
theorem mm_513 : (.methodLink "DocumentFile$Reader" 76 ⟨"DocumentFile$Reader", "readProperties", "(LDocumentFile$PropertyRows;I)V"⟩ : Cond) ∈ lw_g := lw_g_of (mt2 (List.mem_of_getElem? (i := 226) (by decide +kernel))) rfl
set_option maxRecDepth 20000 in
theorem mm_515 : (.instanceMethod ⟨"DocumentFile$Reader", "readProperties", "(LDocumentFile$PropertyRows;I)V"⟩ : Cond) ∈ lw_g := lw_g_of (mt2 (List.mem_of_getElem? (i := 228) (by decide +kernel))) rfl
set_option maxRecDepth 20000 in
theorem mm_516 : (.code ⟨"DocumentFile$Reader", "readProperties", "(LDocumentFile$PropertyRows;I)V"⟩ prog_6_method_9_code 7 none : Cond) ∈ lw_g := lw_g_of (mt2 (List.mem_of_getElem? (i := 229) rfl)) rfl
set_option maxRecDepth 20000 in
theorem mm_517 : (.methodLink "DocumentFile$Reader" 89 ⟨"DocumentFile$PropertyRows", "mostOf", "(I)I"⟩ : Cond) ∈ lw_g := lw_g_of (mt2 (List.mem_of_getElem? (i := 230) (by decide +kernel))) rfl
set_option maxRecDepth 20000 in
theorem mm_518 : (.methodLink "DocumentFile$Reader" 92 ⟨"DocumentFile$PropertyRows", "put", "(III)Z"⟩ : Cond) ∈ lw_g := lw_g_of (mt2 (List.mem_of_getElem? (i := 231) (by decide +kernel))) rfl
set_option maxRecDepth 20000 in
theorem mm_519 : (.methodLink "DocumentFile$Reader" 45 ⟨"DocumentFile$Reader", "readRun", "(LDocumentFile$Document;)V"⟩ : Cond) ∈ lw_g := lw_g_of (mt2 (List.mem_of_getElem? (i := 232) (by decide +kernel))) rfl
set_option maxRecDepth 20000 in
theorem mm_521 : (.instanceMethod ⟨"DocumentFile$Reader", "readRun", "(LDocumentFile$Document;)V"⟩ : Cond) ∈ lw_g := lw_g_of (mt2 (List.mem_of_getElem? (i := 234) (by decide +kernel))) rfl
set_option maxRecDepth 20000 in
theorem mm_522 : (.code ⟨"DocumentFile$Reader", "readRun", "(LDocumentFile$Document;)V"⟩ prog_6_method_10_code 8 none : Cond) ∈ lw_g := lw_g_of (mt2 (List.mem_of_getElem? (i := 235) rfl)) rfl
set_option maxRecDepth 20000 in
theorem mm_523 : (.methodLink "DocumentFile$Reader" 96 ⟨"DocumentFile$Reader", "readSet", "(LDocumentFile$Document;I)I"⟩ : Cond) ∈ lw_g := lw_g_of (mt2 (List.mem_of_getElem? (i := 236) (by decide +kernel))) rfl
set_option maxRecDepth 20000 in
theorem mm_525 : (.instanceMethod ⟨"DocumentFile$Reader", "readSet", "(LDocumentFile$Document;I)I"⟩ : Cond) ∈ lw_g := lw_g_of (mt2 (List.mem_of_getElem? (i := 238) (by decide +kernel))) rfl
set_option maxRecDepth 20000 in
theorem mm_526 : (.code ⟨"DocumentFile$Reader", "readSet", "(LDocumentFile$Document;I)I"⟩ prog_6_method_11_code 6 (some .int) : Cond) ∈ lw_g := lw_g_of (mt2 (List.mem_of_getElem? (i := 239) rfl)) rfl
set_option maxRecDepth 20000 in
theorem mm_527 : (.methodLink "DocumentFile$Reader" 125 ⟨"DocumentFile$PropertyRows", "add", "()I"⟩ : Cond) ∈ lw_g := lw_g_of (mt3 (List.mem_of_getElem? (i := 0) (by decide +kernel))) rfl
set_option maxRecDepth 20000 in
theorem mm_528 : (.methodLink "DocumentFile$Reader" 128 ⟨"DocumentFile$PropertyRows", "repeats", "(I)Z"⟩ : Cond) ∈ lw_g := lw_g_of (mt3 (List.mem_of_getElem? (i := 1) (by decide +kernel))) rfl
set_option maxRecDepth 20000 in
theorem mm_529 : (.instanceMethod ⟨"DocumentFile$PropertyRows", "repeats", "(I)Z"⟩ : Cond) ∈ lw_g := lw_g_of (mt3 (List.mem_of_getElem? (i := 2) (by decide +kernel))) rfl
set_option maxRecDepth 20000 in
theorem mm_530 : (.selects "DocumentFile$PropertyRows" ⟨"DocumentFile$PropertyRows", "repeats", "(I)Z"⟩ ⟨"DocumentFile$PropertyRows", "repeats", "(I)Z"⟩ : Cond) ∈ lw_g := lw_g_of (mt3 (List.mem_of_getElem? (i := 3) (by decide +kernel))) rfl
set_option maxRecDepth 20000 in
theorem mm_531 : (.code ⟨"DocumentFile$PropertyRows", "repeats", "(I)Z"⟩ prog_5_method_11_code 3 (some .boolean) : Cond) ∈ lw_g := lw_g_of (mt3 (List.mem_of_getElem? (i := 4) rfl)) rfl
set_option maxRecDepth 20000 in
theorem mm_532 : (.methodLink "DocumentFile$PropertyRows" 31 ⟨"DocumentFile$PropertyRows", "same", "(II)Z"⟩ : Cond) ∈ lw_g := lw_g_of (mt3 (List.mem_of_getElem? (i := 5) (by decide +kernel))) rfl
set_option maxRecDepth 20000 in
theorem mm_533 : (.methodLink "DocumentFile$Reader" 100 ⟨"DocumentFile$Reader", "readMark", "(LDocumentFile$Document;)I"⟩ : Cond) ∈ lw_g := lw_g_of (mt3 (List.mem_of_getElem? (i := 6) (by decide +kernel))) rfl
set_option maxRecDepth 20000 in
theorem mm_535 : (.instanceMethod ⟨"DocumentFile$Reader", "readMark", "(LDocumentFile$Document;)I"⟩ : Cond) ∈ lw_g := lw_g_of (mt3 (List.mem_of_getElem? (i := 8) (by decide +kernel))) rfl
set_option maxRecDepth 20000 in
theorem mm_536 : (.code ⟨"DocumentFile$Reader", "readMark", "(LDocumentFile$Document;)I"⟩ prog_6_method_12_code 8 (some .int) : Cond) ∈ lw_g := lw_g_of (mt3 (List.mem_of_getElem? (i := 9) rfl)) rfl
set_option maxRecDepth 20000 in
theorem mm_537 : (.methodLink "DocumentFile$Reader" 135 ⟨"DocumentFile$Marks", "rows", "()I"⟩ : Cond) ∈ lw_g := lw_g_of (mt3 (List.mem_of_getElem? (i := 10) (by decide +kernel))) rfl
set_option maxRecDepth 20000 in
theorem mm_538 : (.methodLink "DocumentFile$Reader" 138 ⟨"DocumentFile$Marks", "isFull", "()Z"⟩ : Cond) ∈ lw_g := lw_g_of (mt3 (List.mem_of_getElem? (i := 11) (by decide +kernel))) rfl
set_option maxRecDepth 20000 in
theorem mm_539 : (.methodLink "DocumentFile$Reader" 141 ⟨"DocumentFile$Marks", "add", "(III)I"⟩ : Cond) ∈ lw_g := lw_g_of (mt3 (List.mem_of_getElem? (i := 12) (by decide +kernel))) rfl
set_option maxRecDepth 20000 in
theorem mm_540 : (.methodLink "DocumentFile$Reader" 144 ⟨"DocumentFile$Document", "repeatsMark", "(I)Z"⟩ : Cond) ∈ lw_g := lw_g_of (mt3 (List.mem_of_getElem? (i := 13) (by decide +kernel))) rfl
set_option maxRecDepth 20000 in
theorem mm_541 : (.instanceMethod ⟨"DocumentFile$Document", "repeatsMark", "(I)Z"⟩ : Cond) ∈ lw_g := lw_g_of (mt3 (List.mem_of_getElem? (i := 14) (by decide +kernel))) rfl
set_option maxRecDepth 20000 in
theorem mm_542 : (.selects "DocumentFile$Document" ⟨"DocumentFile$Document", "repeatsMark", "(I)Z"⟩ ⟨"DocumentFile$Document", "repeatsMark", "(I)Z"⟩ : Cond) ∈ lw_g := lw_g_of (mt3 (List.mem_of_getElem? (i := 15) (by decide +kernel))) rfl
set_option maxRecDepth 20000 in
theorem mm_543 : (.code ⟨"DocumentFile$Document", "repeatsMark", "(I)Z"⟩ prog_2_method_7_code 3 (some .boolean) : Cond) ∈ lw_g := lw_g_of (mt3 (List.mem_of_getElem? (i := 16) rfl)) rfl
set_option maxRecDepth 20000 in
theorem mm_544 : (.methodLink "DocumentFile$Reader" 108 ⟨"DocumentFile$Runs", "begin", "(IIII)I"⟩ : Cond) ∈ lw_g := lw_g_of (mt3 (List.mem_of_getElem? (i := 17) (by decide +kernel))) rfl
set_option maxRecDepth 20000 in
theorem mm_545 : (.methodLink "DocumentFile$Reader" 114 ⟨"DocumentFile$Document", "goesOn", "(I)Z"⟩ : Cond) ∈ lw_g := lw_g_of (mt3 (List.mem_of_getElem? (i := 18) (by decide +kernel))) rfl
set_option maxRecDepth 20000 in
theorem mm_546 : (.methodLink "DocumentFile$Reader" 118 ⟨"DocumentFile$Reader", "readCharacters", "(LDocumentFile$Runs;I)V"⟩ : Cond) ∈ lw_g := lw_g_of (mt3 (List.mem_of_getElem? (i := 19) (by decide +kernel))) rfl
set_option maxRecDepth 20000 in
theorem mm_548 : (.instanceMethod ⟨"DocumentFile$Reader", "readCharacters", "(LDocumentFile$Runs;I)V"⟩ : Cond) ∈ lw_g := lw_g_of (mt3 (List.mem_of_getElem? (i := 21) (by decide +kernel))) rfl
set_option maxRecDepth 20000 in
theorem mm_549 : (.code ⟨"DocumentFile$Reader", "readCharacters", "(LDocumentFile$Runs;I)V"⟩ prog_6_method_13_code 6 none : Cond) ∈ lw_g := lw_g_of (mt3 (List.mem_of_getElem? (i := 22) rfl)) rfl
set_option maxRecDepth 20000 in
theorem mm_550 : (.methodLink "DocumentFile$Reader" 147 ⟨"DocumentFile$Runs", "length", "()I"⟩ : Cond) ∈ lw_g := lw_g_of (mt3 (List.mem_of_getElem? (i := 23) (by decide +kernel))) rfl
set_option maxRecDepth 20000 in
theorem mm_551 : (.methodLink "DocumentFile$Reader" 150 ⟨"DocumentFile$Reader", "readCharacter", "()I"⟩ : Cond) ∈ lw_g := lw_g_of (mt3 (List.mem_of_getElem? (i := 24) (by decide +kernel))) rfl
set_option maxRecDepth 20000 in
theorem mm_553 : (.instanceMethod ⟨"DocumentFile$Reader", "readCharacter", "()I"⟩ : Cond) ∈ lw_g := lw_g_of (mt3 (List.mem_of_getElem? (i := 26) (by decide +kernel))) rfl
set_option maxRecDepth 20000 in
theorem mm_554 : (.code ⟨"DocumentFile$Reader", "readCharacter", "()I"⟩ prog_6_method_14_code 2 (some .int) : Cond) ∈ lw_g := lw_g_of (mt3 (List.mem_of_getElem? (i := 27) rfl)) rfl
set_option maxRecDepth 20000 in
theorem mm_555 : (.methodLink "DocumentFile$Reader" 157 ⟨"DocumentFile$Runs", "isText", "(I)Z"⟩ : Cond) ∈ lw_g := lw_g_of (mt3 (List.mem_of_getElem? (i := 28) (by decide +kernel))) rfl
set_option maxRecDepth 20000 in
theorem mm_556 : (.methodLink "DocumentFile$Reader" 153 ⟨"DocumentFile$Runs", "append", "(I)V"⟩ : Cond) ∈ lw_g := lw_g_of (mt3 (List.mem_of_getElem? (i := 29) (by decide +kernel))) rfl
set_option maxRecDepth 20000 in
theorem mm_557 : (.methodLink "DocumentFile$Reader" 48 ⟨"DocumentFile$Octets", "size", "()I"⟩ : Cond) ∈ lw_g := lw_g_of (mt3 (List.mem_of_getElem? (i := 30) (by decide +kernel))) rfl
set_option maxRecDepth 20000 in
theorem mm_558 : (.methodLink "DocumentFileLaw" 82 ⟨"DocumentFile", "octet", "(I)I"⟩ : Cond) ∈ lw_g := lw_g_of (mt3 (List.mem_of_getElem? (i := 31) (by decide +kernel))) rfl
set_option maxRecDepth 20000 in
theorem mm_559 : (.instanceMethod ⟨"DocumentFile", "octet", "(I)I"⟩ : Cond) ∈ lw_g := lw_g_of (mt3 (List.mem_of_getElem? (i := 32) (by decide +kernel))) rfl
set_option maxRecDepth 20000 in
theorem mm_560 : (.selects "DocumentFile" ⟨"DocumentFile", "octet", "(I)I"⟩ ⟨"DocumentFile", "octet", "(I)I"⟩ : Cond) ∈ lw_g := lw_g_of (mt3 (List.mem_of_getElem? (i := 33) (by decide +kernel))) rfl
set_option maxRecDepth 20000 in
theorem mm_561 : (.code ⟨"DocumentFile", "octet", "(I)I"⟩ prog_1_method_17_code 2 (some .int) : Cond) ∈ lw_g := lw_g_of (mt3 (List.mem_of_getElem? (i := 34) rfl)) rfl
set_option maxRecDepth 20000 in
theorem mm_562 : (.methodLink "DocumentFile" 138 ⟨"DocumentFile$Octets", "get", "(I)I"⟩ : Cond) ∈ lw_g := lw_g_of (mt3 (List.mem_of_getElem? (i := 35) (by decide +kernel))) rfl
set_option maxRecDepth 20000 in
theorem mm_563 : (.methodLink "DocumentFileLaw" 86 ⟨"DocumentFile", "alter", "(II)Z"⟩ : Cond) ∈ lw_g := lw_g_of (mt3 (List.mem_of_getElem? (i := 36) (by decide +kernel))) rfl
set_option maxRecDepth 20000 in
theorem mm_564 : (.instanceMethod ⟨"DocumentFile", "alter", "(II)Z"⟩ : Cond) ∈ lw_g := lw_g_of (mt3 (List.mem_of_getElem? (i := 37) (by decide +kernel))) rfl
set_option maxRecDepth 20000 in
theorem mm_565 : (.selects "DocumentFile" ⟨"DocumentFile", "alter", "(II)Z"⟩ ⟨"DocumentFile", "alter", "(II)Z"⟩ : Cond) ∈ lw_g := lw_g_of (mt3 (List.mem_of_getElem? (i := 38) (by decide +kernel))) rfl
set_option maxRecDepth 20000 in
theorem mm_566 : (.code ⟨"DocumentFile", "alter", "(II)Z"⟩ prog_1_method_18_code 3 (some .boolean) : Cond) ∈ lw_g := lw_g_of (mt3 (List.mem_of_getElem? (i := 39) rfl)) rfl
set_option maxRecDepth 20000 in
theorem mm_567 : (.methodLink "DocumentFile" 140 ⟨"DocumentFile$Octets", "append", "(I)Z"⟩ : Cond) ∈ lw_g := lw_g_of (mt3 (List.mem_of_getElem? (i := 40) (by decide +kernel))) rfl
set_option maxRecDepth 20000 in
theorem mm_568 : (.methodLink "DocumentFile" 142 ⟨"DocumentFile$Octets", "put", "(II)Z"⟩ : Cond) ∈ lw_g := lw_g_of (mt3 (List.mem_of_getElem? (i := 41) (by decide +kernel))) rfl
set_option maxRecDepth 20000 in
theorem mm_569 : (.instanceMethod ⟨"DocumentFile$Octets", "put", "(II)Z"⟩ : Cond) ∈ lw_g := lw_g_of (mt3 (List.mem_of_getElem? (i := 42) (by decide +kernel))) rfl
set_option maxRecDepth 20000 in
theorem mm_570 : (.selects "DocumentFile$Octets" ⟨"DocumentFile$Octets", "put", "(II)Z"⟩ ⟨"DocumentFile$Octets", "put", "(II)Z"⟩ : Cond) ∈ lw_g := lw_g_of (mt3 (List.mem_of_getElem? (i := 43) (by decide +kernel))) rfl
set_option maxRecDepth 20000 in
theorem mm_571 : (.code ⟨"DocumentFile$Octets", "put", "(II)Z"⟩ prog_4_method_4_code 3 (some .boolean) : Cond) ∈ lw_g := lw_g_of (mt3 (List.mem_of_getElem? (i := 44) rfl)) rfl
set_option maxRecDepth 20000 in
theorem mm_572 : (.methodLink "DocumentFileLaw" 91 ⟨"DocumentFile", "cut", "(I)Z"⟩ : Cond) ∈ lw_g := lw_g_of (mt3 (List.mem_of_getElem? (i := 45) (by decide +kernel))) rfl
set_option maxRecDepth 20000 in
theorem mm_573 : (.instanceMethod ⟨"DocumentFile", "cut", "(I)Z"⟩ : Cond) ∈ lw_g := lw_g_of (mt3 (List.mem_of_getElem? (i := 46) (by decide +kernel))) rfl
set_option maxRecDepth 20000 in
theorem mm_574 : (.selects "DocumentFile" ⟨"DocumentFile", "cut", "(I)Z"⟩ ⟨"DocumentFile", "cut", "(I)Z"⟩ : Cond) ∈ lw_g := lw_g_of (mt3 (List.mem_of_getElem? (i := 47) (by decide +kernel))) rfl
set_option maxRecDepth 20000 in
theorem mm_575 : (.code ⟨"DocumentFile", "cut", "(I)Z"⟩ prog_1_method_19_code 2 (some .boolean) : Cond) ∈ lw_g := lw_g_of (mt3 (List.mem_of_getElem? (i := 48) rfl)) rfl
set_option maxRecDepth 20000 in
theorem mm_576 : (.methodLink "DocumentFile" 145 ⟨"DocumentFile$Octets", "keep", "(I)Z"⟩ : Cond) ∈ lw_g := lw_g_of (mt3 (List.mem_of_getElem? (i := 49) (by decide +kernel))) rfl
set_option maxRecDepth 20000 in
theorem mm_577 : (.classLink "DocumentFileLaw" 10 "DocumentFileModel" : Cond) ∈ lw_g := lw_g_of (mt3 (List.mem_of_getElem? (i := 50) (by decide +kernel))) rfl
set_option maxRecDepth 20000 in
theorem mm_578 : (.instantiable "DocumentFileModel" 26 : Cond) ∈ lw_g := lw_g_of (mt3 (List.mem_of_getElem? (i := 51) (by decide +kernel))) rfl
set_option maxRecDepth 20000 in
theorem mm_579 : (.methodLink "DocumentFileLaw" 12 ⟨"DocumentFileModel", "<init>", "()V"⟩ : Cond) ∈ lw_g := lw_g_of (mt3 (List.mem_of_getElem? (i := 52) (by decide +kernel))) rfl
set_option maxRecDepth 20000 in
theorem mm_580 : (.instanceMethod ⟨"DocumentFileModel", "<init>", "()V"⟩ : Cond) ∈ lw_g := lw_g_of (mt3 (List.mem_of_getElem? (i := 53) (by decide +kernel))) rfl
set_option maxRecDepth 20000 in
theorem mm_581 : (.code ⟨"DocumentFileModel", "<init>", "()V"⟩ prog_10_method_1_code 1 none : Cond) ∈ lw_g := lw_g_of (mt3 (List.mem_of_getElem? (i := 54) rfl)) rfl
set_option maxRecDepth 20000 in
theorem mm_582 : (.methodLink "DocumentFileModel" 1 ⟨"java/lang/Object", "<init>", "()V"⟩ : Cond) ∈ lw_g := lw_g_of (mt3 (List.mem_of_getElem? (i := 55) (by decide +kernel))) rfl
set_option maxRecDepth 20000 in
theorem mm_583 : (.fieldLink "DocumentFileModel" 114 "DocumentFileModel" "length" "I" : Cond) ∈ lw_g := lw_g_of (mt3 (List.mem_of_getElem? (i := 56) (by decide +kernel))) rfl
set_option maxRecDepth 20000 in
theorem mm_584 : (.fieldLink "DocumentFileModel" 7 "DocumentFileModel" "file" "[B" : Cond) ∈ lw_g := lw_g_of (mt3 (List.mem_of_getElem? (i := 57) (by decide +kernel))) rfl
set_option maxRecDepth 20000 in
theorem mm_585 : (.fieldLink "DocumentFileModel" 74 "DocumentFileModel" "now" "I" : Cond) ∈ lw_g := lw_g_of (mt3 (List.mem_of_getElem? (i := 58) (by decide +kernel))) rfl
set_option maxRecDepth 20000 in
theorem mm_586 : (.fieldLink "DocumentFileModel" 13 "DocumentFileModel" "styles" "[I" : Cond) ∈ lw_g := lw_g_of (mt3 (List.mem_of_getElem? (i := 59) (by decide +kernel))) rfl
set_option maxRecDepth 20000 in
theorem mm_587 : (.fieldLink "DocumentFileModel" 17 "DocumentFileModel" "sets" "[I" : Cond) ∈ lw_g := lw_g_of (mt3 (List.mem_of_getElem? (i := 60) (by decide +kernel))) rfl
set_option maxRecDepth 20000 in
theorem mm_588 : (.fieldLink "DocumentFileModel" 20 "DocumentFileModel" "marks" "[I" : Cond) ∈ lw_g := lw_g_of (mt3 (List.mem_of_getElem? (i := 61) (by decide +kernel))) rfl
set_option maxRecDepth 20000 in
theorem mm_589 : (.fieldLink "DocumentFileModel" 23 "DocumentFileModel" "runs" "[I" : Cond) ∈ lw_g := lw_g_of (mt3 (List.mem_of_getElem? (i := 62) (by decide +kernel))) rfl
set_option maxRecDepth 20000 in
theorem mm_590 : (.fieldLink "DocumentFileModel" 26 "DocumentFileModel" "characters" "[I" : Cond) ∈ lw_g := lw_g_of (mt3 (List.mem_of_getElem? (i := 63) (by decide +kernel))) rfl
set_option maxRecDepth 20000 in
theorem mm_591 : (.fieldLink "DocumentFileModel" 29 "DocumentFileModel" "base" "[I" : Cond) ∈ lw_g := lw_g_of (mt3 (List.mem_of_getElem? (i := 64) (by decide +kernel))) rfl
set_option maxRecDepth 20000 in
theorem mm_592 : (.fieldLink "DocumentFileModel" 32 "DocumentFileModel" "own" "[I" : Cond) ∈ lw_g := lw_g_of (mt3 (List.mem_of_getElem? (i := 65) (by decide +kernel))) rfl
set_option maxRecDepth 20000 in
theorem mm_593 : (.fieldLink "DocumentFileModel" 35 "DocumentFileModel" "inserted" "[S" : Cond) ∈ lw_g := lw_g_of (mt3 (List.mem_of_getElem? (i := 66) (by decide +kernel))) rfl
set_option maxRecDepth 20000 in
theorem mm_594 : (.fieldLink "DocumentFileModel" 39 "DocumentFileModel" "erased" "[S" : Cond) ∈ lw_g := lw_g_of (mt3 (List.mem_of_getElem? (i := 67) (by decide +kernel))) rfl
set_option maxRecDepth 20000 in
theorem mm_595 : (.fieldLink "DocumentFileModel" 42 "DocumentFileModel" "old" "[S" : Cond) ∈ lw_g := lw_g_of (mt3 (List.mem_of_getElem? (i := 68) (by decide +kernel))) rfl
set_option maxRecDepth 20000 in
theorem mm_596 : (.fieldLink "DocumentFileModel" 45 "DocumentFileModel" "kind" "[S" : Cond) ∈ lw_g := lw_g_of (mt3 (List.mem_of_getElem? (i := 69) (by decide +kernel))) rfl
set_option maxRecDepth 20000 in
theorem mm_597 : (.fieldLink "DocumentFileModel" 48 "DocumentFileModel" "setOf" "[S" : Cond) ∈ lw_g := lw_g_of (mt3 (List.mem_of_getElem? (i := 70) (by decide +kernel))) rfl
set_option maxRecDepth 20000 in
theorem mm_598 : (.fieldLink "DocumentFileModel" 51 "DocumentFileModel" "markOf" "[S" : Cond) ∈ lw_g := lw_g_of (mt3 (List.mem_of_getElem? (i := 71) (by decide +kernel))) rfl
set_option maxRecDepth 20000 in
theorem mm_599 : (.fieldLink "DocumentFileModel" 54 "DocumentFileModel" "styleOf" "[S" : Cond) ∈ lw_g := lw_g_of (mt3 (List.mem_of_getElem? (i := 72) (by decide +kernel))) rfl
set_option maxRecDepth 20000 in
theorem mm_600 : (.fieldLink "DocumentFileModel" 57 "DocumentFileModel" "many" "[S" : Cond) ∈ lw_g := lw_g_of (mt3 (List.mem_of_getElem? (i := 73) (by decide +kernel))) rfl
set_option maxRecDepth 20000 in
theorem mm_601 : (.fieldLink "DocumentFileModel" 60 "DocumentFileModel" "text" "[S" : Cond) ∈ lw_g := lw_g_of (mt3 (List.mem_of_getElem? (i := 74) (by decide +kernel))) rfl
set_option maxRecDepth 20000 in
theorem mm_602 : (.fieldLink "DocumentFileModel" 63 "DocumentFileModel" "setNumber" "[I" : Cond) ∈ lw_g := lw_g_of (mt3 (List.mem_of_getElem? (i := 75) (by decide +kernel))) rfl
set_option maxRecDepth 20000 in
theorem mm_603 : (.fieldLink "DocumentFileModel" 66 "DocumentFileModel" "markNumber" "[I" : Cond) ∈ lw_g := lw_g_of (mt3 (List.mem_of_getElem? (i := 76) (by decide +kernel))) rfl
set_option maxRecDepth 20000 in
theorem mm_604 : (.fieldLink "DocumentFileModel" 139 "DocumentFileModel" "writtenSets" "I" : Cond) ∈ lw_g := lw_g_of (mt3 (List.mem_of_getElem? (i := 77) (by decide +kernel))) rfl
set_option maxRecDepth 20000 in
theorem mm_605 : (.fieldLink "DocumentFileModel" 146 "DocumentFileModel" "writtenMarks" "I" : Cond) ∈ lw_g := lw_g_of (mt3 (List.mem_of_getElem? (i := 78) (by decide +kernel))) rfl
set_option maxRecDepth 20000 in
theorem mm_606 : (.fieldLink "DocumentFileModel" 161 "DocumentFileModel" "at" "I" : Cond) ∈ lw_g := lw_g_of (mt3 (List.mem_of_getElem? (i := 79) (by decide +kernel))) rfl
set_option maxRecDepth 20000 in
theorem mm_607 : (.fieldLink "DocumentFileModel" 164 "DocumentFileModel" "item" "I" : Cond) ∈ lw_g := lw_g_of (mt3 (List.mem_of_getElem? (i := 80) (by decide +kernel))) rfl
set_option maxRecDepth 20000 in
theorem mm_608 : (.fieldLink "DocumentFileModel" 158 "DocumentFileModel" "fault" "I" : Cond) ∈ lw_g := lw_g_of (mt3 (List.mem_of_getElem? (i := 81) (by decide +kernel))) rfl
set_option maxRecDepth 20000 in
theorem mm_609 : (.lays "DocumentFileModel" "DocumentFileModel" "length" "I" : Cond) ∈ lw_g := lw_g_of (mt3 (List.mem_of_getElem? (i := 82) (by decide +kernel))) rfl
set_option maxRecDepth 20000 in
theorem mm_610 : (.soleField "DocumentFileModel" "length" : Cond) ∈ lw_g := lw_g_of (mt3 (List.mem_of_getElem? (i := 83) (by decide +kernel))) rfl
set_option maxRecDepth 20000 in
theorem mm_611 : (.laysFinal "DocumentFileModel" "DocumentFileModel" "file" "[B" : Cond) ∈ lw_g := lw_g_of (mt3 (List.mem_of_getElem? (i := 84) (by decide +kernel))) rfl
set_option maxRecDepth 20000 in
theorem mm_612 : (.soleField "DocumentFileModel" "file" : Cond) ∈ lw_g := lw_g_of (mt3 (List.mem_of_getElem? (i := 85) (by decide +kernel))) rfl
set_option maxRecDepth 20000 in
theorem mm_613 : (.lays "DocumentFileModel" "DocumentFileModel" "now" "I" : Cond) ∈ lw_g := lw_g_of (mt3 (List.mem_of_getElem? (i := 86) (by decide +kernel))) rfl
set_option maxRecDepth 20000 in
theorem mm_614 : (.soleField "DocumentFileModel" "now" : Cond) ∈ lw_g := lw_g_of (mt3 (List.mem_of_getElem? (i := 87) (by decide +kernel))) rfl
set_option maxRecDepth 20000 in
theorem mm_615 : (.laysFinal "DocumentFileModel" "DocumentFileModel" "styles" "[I" : Cond) ∈ lw_g := lw_g_of (mt3 (List.mem_of_getElem? (i := 88) (by decide +kernel))) rfl
set_option maxRecDepth 20000 in
theorem mm_616 : (.soleField "DocumentFileModel" "styles" : Cond) ∈ lw_g := lw_g_of (mt3 (List.mem_of_getElem? (i := 89) (by decide +kernel))) rfl
set_option maxRecDepth 20000 in
theorem mm_617 : (.laysFinal "DocumentFileModel" "DocumentFileModel" "sets" "[I" : Cond) ∈ lw_g := lw_g_of (mt3 (List.mem_of_getElem? (i := 90) (by decide +kernel))) rfl
set_option maxRecDepth 20000 in
theorem mm_618 : (.soleField "DocumentFileModel" "sets" : Cond) ∈ lw_g := lw_g_of (mt3 (List.mem_of_getElem? (i := 91) (by decide +kernel))) rfl
set_option maxRecDepth 20000 in
theorem mm_619 : (.laysFinal "DocumentFileModel" "DocumentFileModel" "marks" "[I" : Cond) ∈ lw_g := lw_g_of (mt3 (List.mem_of_getElem? (i := 92) (by decide +kernel))) rfl
set_option maxRecDepth 20000 in
theorem mm_620 : (.soleField "DocumentFileModel" "marks" : Cond) ∈ lw_g := lw_g_of (mt3 (List.mem_of_getElem? (i := 93) (by decide +kernel))) rfl
set_option maxRecDepth 20000 in
theorem mm_621 : (.laysFinal "DocumentFileModel" "DocumentFileModel" "runs" "[I" : Cond) ∈ lw_g := lw_g_of (mt3 (List.mem_of_getElem? (i := 94) (by decide +kernel))) rfl
set_option maxRecDepth 20000 in
theorem mm_622 : (.soleField "DocumentFileModel" "runs" : Cond) ∈ lw_g := lw_g_of (mt3 (List.mem_of_getElem? (i := 95) (by decide +kernel))) rfl
set_option maxRecDepth 20000 in
theorem mm_623 : (.laysFinal "DocumentFileModel" "DocumentFileModel" "characters" "[I" : Cond) ∈ lw_g := lw_g_of (mt3 (List.mem_of_getElem? (i := 96) (by decide +kernel))) rfl
set_option maxRecDepth 20000 in
theorem mm_624 : (.soleField "DocumentFileModel" "characters" : Cond) ∈ lw_g := lw_g_of (mt3 (List.mem_of_getElem? (i := 97) (by decide +kernel))) rfl
set_option maxRecDepth 20000 in
theorem mm_625 : (.laysFinal "DocumentFileModel" "DocumentFileModel" "base" "[I" : Cond) ∈ lw_g := lw_g_of (mt3 (List.mem_of_getElem? (i := 98) (by decide +kernel))) rfl
set_option maxRecDepth 20000 in
theorem mm_626 : (.soleField "DocumentFileModel" "base" : Cond) ∈ lw_g := lw_g_of (mt3 (List.mem_of_getElem? (i := 99) (by decide +kernel))) rfl
set_option maxRecDepth 20000 in
theorem mm_627 : (.laysFinal "DocumentFileModel" "DocumentFileModel" "own" "[I" : Cond) ∈ lw_g := lw_g_of (mt3 (List.mem_of_getElem? (i := 100) (by decide +kernel))) rfl
set_option maxRecDepth 20000 in
theorem mm_628 : (.soleField "DocumentFileModel" "own" : Cond) ∈ lw_g := lw_g_of (mt3 (List.mem_of_getElem? (i := 101) (by decide +kernel))) rfl
set_option maxRecDepth 20000 in
theorem mm_629 : (.laysFinal "DocumentFileModel" "DocumentFileModel" "inserted" "[S" : Cond) ∈ lw_g := lw_g_of (mt3 (List.mem_of_getElem? (i := 102) (by decide +kernel))) rfl
set_option maxRecDepth 20000 in
theorem mm_630 : (.soleField "DocumentFileModel" "inserted" : Cond) ∈ lw_g := lw_g_of (mt3 (List.mem_of_getElem? (i := 103) (by decide +kernel))) rfl
set_option maxRecDepth 20000 in
theorem mm_631 : (.laysFinal "DocumentFileModel" "DocumentFileModel" "erased" "[S" : Cond) ∈ lw_g := lw_g_of (mt3 (List.mem_of_getElem? (i := 104) (by decide +kernel))) rfl
set_option maxRecDepth 20000 in
theorem mm_632 : (.soleField "DocumentFileModel" "erased" : Cond) ∈ lw_g := lw_g_of (mt3 (List.mem_of_getElem? (i := 105) (by decide +kernel))) rfl
set_option maxRecDepth 20000 in
theorem mm_633 : (.laysFinal "DocumentFileModel" "DocumentFileModel" "old" "[S" : Cond) ∈ lw_g := lw_g_of (mt3 (List.mem_of_getElem? (i := 106) (by decide +kernel))) rfl
set_option maxRecDepth 20000 in
theorem mm_634 : (.soleField "DocumentFileModel" "old" : Cond) ∈ lw_g := lw_g_of (mt3 (List.mem_of_getElem? (i := 107) (by decide +kernel))) rfl
set_option maxRecDepth 20000 in
theorem mm_635 : (.laysFinal "DocumentFileModel" "DocumentFileModel" "kind" "[S" : Cond) ∈ lw_g := lw_g_of (mt3 (List.mem_of_getElem? (i := 108) (by decide +kernel))) rfl
set_option maxRecDepth 20000 in
theorem mm_636 : (.soleField "DocumentFileModel" "kind" : Cond) ∈ lw_g := lw_g_of (mt3 (List.mem_of_getElem? (i := 109) (by decide +kernel))) rfl
set_option maxRecDepth 20000 in
theorem mm_637 : (.laysFinal "DocumentFileModel" "DocumentFileModel" "setOf" "[S" : Cond) ∈ lw_g := lw_g_of (mt3 (List.mem_of_getElem? (i := 110) (by decide +kernel))) rfl
set_option maxRecDepth 20000 in
theorem mm_638 : (.soleField "DocumentFileModel" "setOf" : Cond) ∈ lw_g := lw_g_of (mt3 (List.mem_of_getElem? (i := 111) (by decide +kernel))) rfl
set_option maxRecDepth 20000 in
theorem mm_639 : (.laysFinal "DocumentFileModel" "DocumentFileModel" "markOf" "[S" : Cond) ∈ lw_g := lw_g_of (mt3 (List.mem_of_getElem? (i := 112) (by decide +kernel))) rfl
set_option maxRecDepth 20000 in
theorem mm_640 : (.soleField "DocumentFileModel" "markOf" : Cond) ∈ lw_g := lw_g_of (mt3 (List.mem_of_getElem? (i := 113) (by decide +kernel))) rfl
set_option maxRecDepth 20000 in
theorem mm_641 : (.laysFinal "DocumentFileModel" "DocumentFileModel" "styleOf" "[S" : Cond) ∈ lw_g := lw_g_of (mt3 (List.mem_of_getElem? (i := 114) (by decide +kernel))) rfl
set_option maxRecDepth 20000 in
theorem mm_642 : (.soleField "DocumentFileModel" "styleOf" : Cond) ∈ lw_g := lw_g_of (mt3 (List.mem_of_getElem? (i := 115) (by decide +kernel))) rfl
set_option maxRecDepth 20000 in
theorem mm_643 : (.laysFinal "DocumentFileModel" "DocumentFileModel" "many" "[S" : Cond) ∈ lw_g := lw_g_of (mt3 (List.mem_of_getElem? (i := 116) (by decide +kernel))) rfl
set_option maxRecDepth 20000 in
theorem mm_644 : (.soleField "DocumentFileModel" "many" : Cond) ∈ lw_g := lw_g_of (mt3 (List.mem_of_getElem? (i := 117) (by decide +kernel))) rfl
set_option maxRecDepth 20000 in
theorem mm_645 : (.laysFinal "DocumentFileModel" "DocumentFileModel" "text" "[S" : Cond) ∈ lw_g := lw_g_of (mt3 (List.mem_of_getElem? (i := 118) (by decide +kernel))) rfl
set_option maxRecDepth 20000 in
theorem mm_646 : (.soleField "DocumentFileModel" "text" : Cond) ∈ lw_g := lw_g_of (mt3 (List.mem_of_getElem? (i := 119) (by decide +kernel))) rfl
set_option maxRecDepth 20000 in
theorem mm_647 : (.laysFinal "DocumentFileModel" "DocumentFileModel" "setNumber" "[I" : Cond) ∈ lw_g := lw_g_of (mt3 (List.mem_of_getElem? (i := 120) (by decide +kernel))) rfl
set_option maxRecDepth 20000 in
theorem mm_648 : (.soleField "DocumentFileModel" "setNumber" : Cond) ∈ lw_g := lw_g_of (mt3 (List.mem_of_getElem? (i := 121) (by decide +kernel))) rfl
set_option maxRecDepth 20000 in
theorem mm_649 : (.laysFinal "DocumentFileModel" "DocumentFileModel" "markNumber" "[I" : Cond) ∈ lw_g := lw_g_of (mt3 (List.mem_of_getElem? (i := 122) (by decide +kernel))) rfl
set_option maxRecDepth 20000 in
theorem mm_650 : (.soleField "DocumentFileModel" "markNumber" : Cond) ∈ lw_g := lw_g_of (mt3 (List.mem_of_getElem? (i := 123) (by decide +kernel))) rfl
set_option maxRecDepth 20000 in
theorem mm_651 : (.lays "DocumentFileModel" "DocumentFileModel" "writtenSets" "I" : Cond) ∈ lw_g := lw_g_of (mt3 (List.mem_of_getElem? (i := 124) (by decide +kernel))) rfl
set_option maxRecDepth 20000 in
theorem mm_652 : (.soleField "DocumentFileModel" "writtenSets" : Cond) ∈ lw_g := lw_g_of (mt3 (List.mem_of_getElem? (i := 125) (by decide +kernel))) rfl
set_option maxRecDepth 20000 in
theorem mm_653 : (.lays "DocumentFileModel" "DocumentFileModel" "writtenMarks" "I" : Cond) ∈ lw_g := lw_g_of (mt3 (List.mem_of_getElem? (i := 126) (by decide +kernel))) rfl
set_option maxRecDepth 20000 in
theorem mm_654 : (.soleField "DocumentFileModel" "writtenMarks" : Cond) ∈ lw_g := lw_g_of (mt3 (List.mem_of_getElem? (i := 127) (by decide +kernel))) rfl
set_option maxRecDepth 20000 in
theorem mm_655 : (.lays "DocumentFileModel" "DocumentFileModel" "at" "I" : Cond) ∈ lw_g := lw_g_of (mt3 (List.mem_of_getElem? (i := 128) (by decide +kernel))) rfl
set_option maxRecDepth 20000 in
theorem mm_656 : (.soleField "DocumentFileModel" "at" : Cond) ∈ lw_g := lw_g_of (mt3 (List.mem_of_getElem? (i := 129) (by decide +kernel))) rfl
set_option maxRecDepth 20000 in
theorem mm_657 : (.lays "DocumentFileModel" "DocumentFileModel" "item" "I" : Cond) ∈ lw_g := lw_g_of (mt3 (List.mem_of_getElem? (i := 130) (by decide +kernel))) rfl
set_option maxRecDepth 20000 in
theorem mm_658 : (.soleField "DocumentFileModel" "item" : Cond) ∈ lw_g := lw_g_of (mt3 (List.mem_of_getElem? (i := 131) (by decide +kernel))) rfl
set_option maxRecDepth 20000 in
theorem mm_659 : (.lays "DocumentFileModel" "DocumentFileModel" "fault" "I" : Cond) ∈ lw_g := lw_g_of (mt3 (List.mem_of_getElem? (i := 132) (by decide +kernel))) rfl
set_option maxRecDepth 20000 in
theorem mm_660 : (.soleField "DocumentFileModel" "fault" : Cond) ∈ lw_g := lw_g_of (mt3 (List.mem_of_getElem? (i := 133) (by decide +kernel))) rfl
set_option maxRecDepth 20000 in
theorem mm_661 : (.superclass "DocumentFileModel" "java/lang/Object" : Cond) ∈ lw_g := lw_g_of (mt3 (List.mem_of_getElem? (i := 134) (by decide +kernel))) rfl
set_option maxRecDepth 20000 in
theorem mm_662 : (.arrayClass .byte : Cond) ∈ lw_g := lw_g_of (mt3 (List.mem_of_getElem? (i := 135) (by decide +kernel))) rfl
set_option maxRecDepth 20000 in
theorem mm_663 : (.arrayClass .short : Cond) ∈ lw_g := lw_g_of (mt3 (List.mem_of_getElem? (i := 136) (by decide +kernel))) rfl
set_option maxRecDepth 20000 in
theorem mm_664 : (.methodLink "DocumentFileLaw" 16 ⟨"DocumentFileModel", "clear", "()V"⟩ : Cond) ∈ lw_g := lw_g_of (mt3 (List.mem_of_getElem? (i := 137) (by decide +kernel))) rfl
set_option maxRecDepth 20000 in
theorem mm_665 : (.instanceMethod ⟨"DocumentFileModel", "clear", "()V"⟩ : Cond) ∈ lw_g := lw_g_of (mt3 (List.mem_of_getElem? (i := 138) (by decide +kernel))) rfl
set_option maxRecDepth 20000 in
theorem mm_666 : (.selects "DocumentFileModel" ⟨"DocumentFileModel", "clear", "()V"⟩ ⟨"DocumentFileModel", "clear", "()V"⟩ : Cond) ∈ lw_g := lw_g_of (mt3 (List.mem_of_getElem? (i := 139) (by decide +kernel))) rfl
set_option maxRecDepth 20000 in
theorem mm_667 : (.code ⟨"DocumentFileModel", "clear", "()V"⟩ prog_10_method_10_code 1 none : Cond) ∈ lw_g := lw_g_of (mt3 (List.mem_of_getElem? (i := 140) rfl)) rfl
set_option maxRecDepth 20000 in
theorem mm_668 : (.methodLink "DocumentFileModel" 82 ⟨"DocumentFileModel", "empty", "(I)V"⟩ : Cond) ∈ lw_g := lw_g_of (mt3 (List.mem_of_getElem? (i := 141) (by decide +kernel))) rfl
set_option maxRecDepth 20000 in
theorem mm_670 : (.instanceMethod ⟨"DocumentFileModel", "empty", "(I)V"⟩ : Cond) ∈ lw_g := lw_g_of (mt3 (List.mem_of_getElem? (i := 143) (by decide +kernel))) rfl
set_option maxRecDepth 20000 in
theorem mm_671 : (.code ⟨"DocumentFileModel", "empty", "(I)V"⟩ prog_10_method_8_code 2 none : Cond) ∈ lw_g := lw_g_of (mt3 (List.mem_of_getElem? (i := 144) rfl)) rfl
set_option maxRecDepth 20000 in
theorem mm_672 : (.methodLink "DocumentFileLaw" 21 ⟨"DocumentFileModel", "style", "(I)I"⟩ : Cond) ∈ lw_g := lw_g_of (mt3 (List.mem_of_getElem? (i := 145) (by decide +kernel))) rfl
set_option maxRecDepth 20000 in
theorem mm_673 : (.instanceMethod ⟨"DocumentFileModel", "style", "(I)I"⟩ : Cond) ∈ lw_g := lw_g_of (mt3 (List.mem_of_getElem? (i := 146) (by decide +kernel))) rfl
set_option maxRecDepth 20000 in
theorem mm_674 : (.selects "DocumentFileModel" ⟨"DocumentFileModel", "style", "(I)I"⟩ ⟨"DocumentFileModel", "style", "(I)I"⟩ : Cond) ∈ lw_g := lw_g_of (mt3 (List.mem_of_getElem? (i := 147) (by decide +kernel))) rfl
set_option maxRecDepth 20000 in
theorem mm_675 : (.code ⟨"DocumentFileModel", "style", "(I)I"⟩ prog_10_method_11_code 2 (some .int) : Cond) ∈ lw_g := lw_g_of (mt3 (List.mem_of_getElem? (i := 148) rfl)) rfl
set_option maxRecDepth 20000 in
theorem mm_676 : (.methodLink "DocumentFileModel" 70 ⟨"DocumentFileModel", "in", "(III)Z"⟩ : Cond) ∈ lw_g := lw_g_of (mt3 (List.mem_of_getElem? (i := 149) (by decide +kernel))) rfl
set_option maxRecDepth 20000 in
theorem mm_677 : (.static ⟨"DocumentFileModel", "in", "(III)Z"⟩ : Cond) ∈ lw_g := lw_g_of (mt3 (List.mem_of_getElem? (i := 150) (by decide +kernel))) rfl
set_option maxRecDepth 20000 in
theorem mm_678 : (.code ⟨"DocumentFileModel", "in", "(III)Z"⟩ prog_10_method_2_code 3 (some .boolean) : Cond) ∈ lw_g := lw_g_of (mt3 (List.mem_of_getElem? (i := 151) rfl)) rfl
set_option maxRecDepth 20000 in
theorem mm_679 : (.methodLink "DocumentFileModel" 86 ⟨"DocumentFileModel", "bare", "(III)V"⟩ : Cond) ∈ lw_g := lw_g_of (mt3 (List.mem_of_getElem? (i := 152) (by decide +kernel))) rfl
set_option maxRecDepth 20000 in
theorem mm_681 : (.instanceMethod ⟨"DocumentFileModel", "bare", "(III)V"⟩ : Cond) ∈ lw_g := lw_g_of (mt3 (List.mem_of_getElem? (i := 154) (by decide +kernel))) rfl
set_option maxRecDepth 20000 in
theorem mm_682 : (.code ⟨"DocumentFileModel", "bare", "(III)V"⟩ prog_10_method_9_code 5 none : Cond) ∈ lw_g := lw_g_of (mt3 (List.mem_of_getElem? (i := 155) rfl)) rfl
set_option maxRecDepth 20000 in
theorem mm_683 : (.methodLink "DocumentFileModel" 78 ⟨"DocumentFileModel", "row", "(III)I"⟩ : Cond) ∈ lw_g := lw_g_of (mt3 (List.mem_of_getElem? (i := 156) (by decide +kernel))) rfl
set_option maxRecDepth 20000 in
theorem mm_684 : (.static ⟨"DocumentFileModel", "row", "(III)I"⟩ : Cond) ∈ lw_g := lw_g_of (mt3 (List.mem_of_getElem? (i := 157) (by decide +kernel))) rfl
set_option maxRecDepth 20000 in
theorem mm_685 : (.code ⟨"DocumentFileModel", "row", "(III)I"⟩ prog_10_method_7_code 3 (some .int) : Cond) ∈ lw_g := lw_g_of (mt3 (List.mem_of_getElem? (i := 158) rfl)) rfl
set_option maxRecDepth 20000 in
theorem mm_686 : (.methodLink "DocumentFileLaw" 26 ⟨"DocumentFileModel", "set", "()I"⟩ : Cond) ∈ lw_g := lw_g_of (mt3 (List.mem_of_getElem? (i := 159) (by decide +kernel))) rfl
set_option maxRecDepth 20000 in
theorem mm_687 : (.instanceMethod ⟨"DocumentFileModel", "set", "()I"⟩ : Cond) ∈ lw_g := lw_g_of (mt3 (List.mem_of_getElem? (i := 160) (by decide +kernel))) rfl
set_option maxRecDepth 20000 in
theorem mm_688 : (.selects "DocumentFileModel" ⟨"DocumentFileModel", "set", "()I"⟩ ⟨"DocumentFileModel", "set", "()I"⟩ : Cond) ∈ lw_g := lw_g_of (mt3 (List.mem_of_getElem? (i := 161) (by decide +kernel))) rfl
set_option maxRecDepth 20000 in
theorem mm_689 : (.code ⟨"DocumentFileModel", "set", "()I"⟩ prog_10_method_12_code 1 (some .int) : Cond) ∈ lw_g := lw_g_of (mt3 (List.mem_of_getElem? (i := 162) rfl)) rfl
set_option maxRecDepth 20000 in
theorem mm_690 : (.methodLink "DocumentFileLaw" 31 ⟨"DocumentFileModel", "property", "(IIII)Z"⟩ : Cond) ∈ lw_g := lw_g_of (mt3 (List.mem_of_getElem? (i := 163) (by decide +kernel))) rfl
set_option maxRecDepth 20000 in
theorem mm_691 : (.instanceMethod ⟨"DocumentFileModel", "property", "(IIII)Z"⟩ : Cond) ∈ lw_g := lw_g_of (mt3 (List.mem_of_getElem? (i := 164) (by decide +kernel))) rfl
set_option maxRecDepth 20000 in
theorem mm_692 : (.selects "DocumentFileModel" ⟨"DocumentFileModel", "property", "(IIII)Z"⟩ ⟨"DocumentFileModel", "property", "(IIII)Z"⟩ : Cond) ∈ lw_g := lw_g_of (mt3 (List.mem_of_getElem? (i := 165) (by decide +kernel))) rfl
set_option maxRecDepth 20000 in
theorem mm_693 : (.code ⟨"DocumentFileModel", "property", "(IIII)Z"⟩ prog_10_method_14_code 5 (some .boolean) : Cond) ∈ lw_g := lw_g_of (mt3 (List.mem_of_getElem? (i := 166) rfl)) rfl
set_option maxRecDepth 20000 in
theorem mm_694 : (.methodLink "DocumentFileModel" 94 ⟨"DocumentFileModel", "isRow", "(II)Z"⟩ : Cond) ∈ lw_g := lw_g_of (mt3 (List.mem_of_getElem? (i := 167) (by decide +kernel))) rfl
set_option maxRecDepth 20000 in
theorem mm_696 : (.instanceMethod ⟨"DocumentFileModel", "isRow", "(II)Z"⟩ : Cond) ∈ lw_g := lw_g_of (mt3 (List.mem_of_getElem? (i := 169) (by decide +kernel))) rfl
set_option maxRecDepth 20000 in
theorem mm_697 : (.code ⟨"DocumentFileModel", "isRow", "(II)Z"⟩ prog_10_method_13_code 3 (some .boolean) : Cond) ∈ lw_g := lw_g_of (mt3 (List.mem_of_getElem? (i := 170) rfl)) rfl
set_option maxRecDepth 20000 in
theorem mm_698 : (.methodLink "DocumentFileModel" 90 ⟨"DocumentFileModel", "isSet", "(I)Z"⟩ : Cond) ∈ lw_g := lw_g_of (mt3 (List.mem_of_getElem? (i := 171) (by decide +kernel))) rfl
set_option maxRecDepth 20000 in
theorem mm_700 : (.instanceMethod ⟨"DocumentFileModel", "isSet", "(I)Z"⟩ : Cond) ∈ lw_g := lw_g_of (mt3 (List.mem_of_getElem? (i := 173) (by decide +kernel))) rfl
set_option maxRecDepth 20000 in
theorem mm_701 : (.code ⟨"DocumentFileModel", "isSet", "(I)Z"⟩ prog_10_method_5_code 2 (some .boolean) : Cond) ∈ lw_g := lw_g_of (mt3 (List.mem_of_getElem? (i := 174) rfl)) rfl
set_option maxRecDepth 20000 in
theorem mm_702 : (.methodLink "DocumentFileModel" 98 ⟨"DocumentFileModel", "most", "(I)I"⟩ : Cond) ∈ lw_g := lw_g_of (mt3 (List.mem_of_getElem? (i := 175) (by decide +kernel))) rfl
set_option maxRecDepth 20000 in
theorem mm_703 : (.static ⟨"DocumentFileModel", "most", "(I)I"⟩ : Cond) ∈ lw_g := lw_g_of (mt3 (List.mem_of_getElem? (i := 176) (by decide +kernel))) rfl
set_option maxRecDepth 20000 in
theorem mm_704 : (.code ⟨"DocumentFileModel", "most", "(I)I"⟩ prog_10_method_3_code 1 (some .int) : Cond) ∈ lw_g := lw_g_of (mt3 (List.mem_of_getElem? (i := 177) rfl)) rfl
set_option maxRecDepth 20000 in
theorem mm_705 : (.constant "DocumentFileModel" 69 (65535) : Cond) ∈ lw_g := lw_g_of (mt3 (List.mem_of_getElem? (i := 178) (by decide +kernel))) rfl
set_option maxRecDepth 20000 in
theorem mm_706 : (.methodLink "DocumentFileLaw" 36 ⟨"DocumentFileModel", "mark", "(III)I"⟩ : Cond) ∈ lw_g := lw_g_of (mt3 (List.mem_of_getElem? (i := 179) (by decide +kernel))) rfl
set_option maxRecDepth 20000 in
theorem mm_707 : (.instanceMethod ⟨"DocumentFileModel", "mark", "(III)I"⟩ : Cond) ∈ lw_g := lw_g_of (mt3 (List.mem_of_getElem? (i := 180) (by decide +kernel))) rfl
set_option maxRecDepth 20000 in
theorem mm_708 : (.selects "DocumentFileModel" ⟨"DocumentFileModel", "mark", "(III)I"⟩ ⟨"DocumentFileModel", "mark", "(III)I"⟩ : Cond) ∈ lw_g := lw_g_of (mt3 (List.mem_of_getElem? (i := 181) (by decide +kernel))) rfl
set_option maxRecDepth 20000 in
theorem mm_709 : (.code ⟨"DocumentFileModel", "mark", "(III)I"⟩ prog_10_method_15_code 5 (some .int) : Cond) ∈ lw_g := lw_g_of (mt3 (List.mem_of_getElem? (i := 182) rfl)) rfl
set_option maxRecDepth 20000 in
theorem mm_710 : (.methodLink "DocumentFileLaw" 43 ⟨"DocumentFileModel", "type", "(IIJ)I"⟩ : Cond) ∈ lw_g := lw_g_of (mt3 (List.mem_of_getElem? (i := 183) (by decide +kernel))) rfl
set_option maxRecDepth 20000 in
theorem mm_711 : (.instanceMethod ⟨"DocumentFileModel", "type", "(IIJ)I"⟩ : Cond) ∈ lw_g := lw_g_of (mt3 (List.mem_of_getElem? (i := 184) (by decide +kernel))) rfl
set_option maxRecDepth 20000 in
theorem mm_712 : (.selects "DocumentFileModel" ⟨"DocumentFileModel", "type", "(IIJ)I"⟩ ⟨"DocumentFileModel", "type", "(IIJ)I"⟩ : Cond) ∈ lw_g := lw_g_of (mt3 (List.mem_of_getElem? (i := 185) (by decide +kernel))) rfl
set_option maxRecDepth 20000 in
theorem mm_713 : (.code ⟨"DocumentFileModel", "type", "(IIJ)I"⟩ prog_10_method_17_code 8 (some .int) : Cond) ∈ lw_g := lw_g_of (mt3 (List.mem_of_getElem? (i := 186) rfl)) rfl
set_option maxRecDepth 20000 in
theorem mm_714 : (.constantLong "DocumentFileModel" 102 (255) : Cond) ∈ lw_g := lw_g_of (mt3 (List.mem_of_getElem? (i := 187) (by decide +kernel))) rfl
set_option maxRecDepth 20000 in
theorem mm_715 : (.methodLink "DocumentFileModel" 104 ⟨"DocumentFileModel", "isMark", "(I)Z"⟩ : Cond) ∈ lw_g := lw_g_of (mt3 (List.mem_of_getElem? (i := 188) (by decide +kernel))) rfl
set_option maxRecDepth 20000 in
theorem mm_717 : (.instanceMethod ⟨"DocumentFileModel", "isMark", "(I)Z"⟩ : Cond) ∈ lw_g := lw_g_of (mt3 (List.mem_of_getElem? (i := 190) (by decide +kernel))) rfl
set_option maxRecDepth 20000 in
theorem mm_718 : (.code ⟨"DocumentFileModel", "isMark", "(I)Z"⟩ prog_10_method_6_code 2 (some .boolean) : Cond) ∈ lw_g := lw_g_of (mt3 (List.mem_of_getElem? (i := 191) rfl)) rfl
set_option maxRecDepth 20000 in
theorem mm_719 : (.methodLink "DocumentFileModel" 107 ⟨"DocumentFileModel", "isText", "(I)Z"⟩ : Cond) ∈ lw_g := lw_g_of (mt3 (List.mem_of_getElem? (i := 192) (by decide +kernel))) rfl
set_option maxRecDepth 20000 in
theorem mm_720 : (.static ⟨"DocumentFileModel", "isText", "(I)Z"⟩ : Cond) ∈ lw_g := lw_g_of (mt3 (List.mem_of_getElem? (i := 193) (by decide +kernel))) rfl
set_option maxRecDepth 20000 in
theorem mm_721 : (.code ⟨"DocumentFileModel", "isText", "(I)Z"⟩ prog_10_method_4_code 1 (some .boolean) : Cond) ∈ lw_g := lw_g_of (mt3 (List.mem_of_getElem? (i := 194) rfl)) rfl
set_option maxRecDepth 20000 in
theorem mm_722 : (.methodLink "DocumentFileModel" 110 ⟨"DocumentFileModel", "add", "(IIIII)I"⟩ : Cond) ∈ lw_g := lw_g_of (mt3 (List.mem_of_getElem? (i := 195) (by decide +kernel))) rfl
set_option maxRecDepth 20000 in
theorem mm_724 : (.instanceMethod ⟨"DocumentFileModel", "add", "(IIIII)I"⟩ : Cond) ∈ lw_g := lw_g_of (mt3 (List.mem_of_getElem? (i := 197) (by decide +kernel))) rfl
set_option maxRecDepth 20000 in
theorem mm_725 : (.code ⟨"DocumentFileModel", "add", "(IIIII)I"⟩ prog_10_method_16_code 7 (some .int) : Cond) ∈ lw_g := lw_g_of (mt3 (List.mem_of_getElem? (i := 198) rfl)) rfl
set_option maxRecDepth 20000 in
theorem mm_726 : (.methodLink "DocumentFileLaw" 48 ⟨"DocumentFileModel", "end", "(IIII)I"⟩ : Cond) ∈ lw_g := lw_g_of (mt3 (List.mem_of_getElem? (i := 199) (by decide +kernel))) rfl
set_option maxRecDepth 20000 in
theorem mm_727 : (.instanceMethod ⟨"DocumentFileModel", "end", "(IIII)I"⟩ : Cond) ∈ lw_g := lw_g_of (mt3 (List.mem_of_getElem? (i := 200) (by decide +kernel))) rfl
set_option maxRecDepth 20000 in
theorem mm_728 : (.selects "DocumentFileModel" ⟨"DocumentFileModel", "end", "(IIII)I"⟩ ⟨"DocumentFileModel", "end", "(IIII)I"⟩ : Cond) ∈ lw_g := lw_g_of (mt3 (List.mem_of_getElem? (i := 201) (by decide +kernel))) rfl
set_option maxRecDepth 20000 in
theorem mm_729 : (.code ⟨"DocumentFileModel", "end", "(IIII)I"⟩ prog_10_method_18_code 6 (some .int) : Cond) ∈ lw_g := lw_g_of (mt3 (List.mem_of_getElem? (i := 202) rfl)) rfl
set_option maxRecDepth 20000 in
theorem mm_730 : (.methodLink "DocumentFileLaw" 52 ⟨"DocumentFileModel", "count", "(I)I"⟩ : Cond) ∈ lw_g := lw_g_of (mt3 (List.mem_of_getElem? (i := 203) (by decide +kernel))) rfl
set_option maxRecDepth 20000 in
theorem mm_731 : (.instanceMethod ⟨"DocumentFileModel", "count", "(I)I"⟩ : Cond) ∈ lw_g := lw_g_of (mt3 (List.mem_of_getElem? (i := 204) (by decide +kernel))) rfl
set_option maxRecDepth 20000 in
theorem mm_732 : (.selects "DocumentFileModel" ⟨"DocumentFileModel", "count", "(I)I"⟩ ⟨"DocumentFileModel", "count", "(I)I"⟩ : Cond) ∈ lw_g := lw_g_of (mt3 (List.mem_of_getElem? (i := 205) (by decide +kernel))) rfl
set_option maxRecDepth 20000 in
theorem mm_733 : (.code ⟨"DocumentFileModel", "count", "(I)I"⟩ prog_10_method_19_code 2 (some .int) : Cond) ∈ lw_g := lw_g_of (mt3 (List.mem_of_getElem? (i := 206) rfl)) rfl
set_option maxRecDepth 20000 in
theorem mm_734 : (.methodLink "DocumentFileLaw" 56 ⟨"DocumentFileModel", "base", "(I)I"⟩ : Cond) ∈ lw_g := lw_g_of (mt3 (List.mem_of_getElem? (i := 207) (by decide +kernel))) rfl
set_option maxRecDepth 20000 in
theorem mm_735 : (.instanceMethod ⟨"DocumentFileModel", "base", "(I)I"⟩ : Cond) ∈ lw_g := lw_g_of (mt3 (List.mem_of_getElem? (i := 208) (by decide +kernel))) rfl
set_option maxRecDepth 20000 in
theorem mm_736 : (.selects "DocumentFileModel" ⟨"DocumentFileModel", "base", "(I)I"⟩ ⟨"DocumentFileModel", "base", "(I)I"⟩ : Cond) ∈ lw_g := lw_g_of (mt3 (List.mem_of_getElem? (i := 209) (by decide +kernel))) rfl
set_option maxRecDepth 20000 in
theorem mm_737 : (.code ⟨"DocumentFileModel", "base", "(I)I"⟩ prog_10_method_20_code 2 (some .int) : Cond) ∈ lw_g := lw_g_of (mt3 (List.mem_of_getElem? (i := 210) rfl)) rfl
set_option maxRecDepth 20000 in
theorem mm_738 : (.methodLink "DocumentFileLaw" 60 ⟨"DocumentFileModel", "value", "(III)I"⟩ : Cond) ∈ lw_g := lw_g_of (mt3 (List.mem_of_getElem? (i := 211) (by decide +kernel))) rfl
set_option maxRecDepth 20000 in
theorem mm_739 : (.instanceMethod ⟨"DocumentFileModel", "value", "(III)I"⟩ : Cond) ∈ lw_g := lw_g_of (mt3 (List.mem_of_getElem? (i := 212) (by decide +kernel))) rfl
set_option maxRecDepth 20000 in
theorem mm_740 : (.selects "DocumentFileModel" ⟨"DocumentFileModel", "value", "(III)I"⟩ ⟨"DocumentFileModel", "value", "(III)I"⟩ : Cond) ∈ lw_g := lw_g_of (mt3 (List.mem_of_getElem? (i := 213) (by decide +kernel))) rfl
set_option maxRecDepth 20000 in
theorem mm_741 : (.code ⟨"DocumentFileModel", "value", "(III)I"⟩ prog_10_method_21_code 4 (some .int) : Cond) ∈ lw_g := lw_g_of (mt3 (List.mem_of_getElem? (i := 214) rfl)) rfl
set_option maxRecDepth 20000 in
theorem mm_742 : (.methodLink "DocumentFileLaw" 65 ⟨"DocumentFileModel", "changes", "(II)I"⟩ : Cond) ∈ lw_g := lw_g_of (mt3 (List.mem_of_getElem? (i := 215) (by decide +kernel))) rfl
set_option maxRecDepth 20000 in
theorem mm_743 : (.instanceMethod ⟨"DocumentFileModel", "changes", "(II)I"⟩ : Cond) ∈ lw_g := lw_g_of (mt3 (List.mem_of_getElem? (i := 216) (by decide +kernel))) rfl
set_option maxRecDepth 20000 in
theorem mm_744 : (.selects "DocumentFileModel" ⟨"DocumentFileModel", "changes", "(II)I"⟩ ⟨"DocumentFileModel", "changes", "(II)I"⟩ : Cond) ∈ lw_g := lw_g_of (mt3 (List.mem_of_getElem? (i := 217) (by decide +kernel))) rfl
set_option maxRecDepth 20000 in
theorem mm_745 : (.code ⟨"DocumentFileModel", "changes", "(II)I"⟩ prog_10_method_22_code 4 (some .int) : Cond) ∈ lw_g := lw_g_of (mt3 (List.mem_of_getElem? (i := 218) rfl)) rfl
set_option maxRecDepth 20000 in
theorem mm_746 : (.methodLink "DocumentFileLaw" 69 ⟨"DocumentFileModel", "run", "(II)I"⟩ : Cond) ∈ lw_g := lw_g_of (mt3 (List.mem_of_getElem? (i := 219) (by decide +kernel))) rfl
set_option maxRecDepth 20000 in
theorem mm_747 : (.instanceMethod ⟨"DocumentFileModel", "run", "(II)I"⟩ : Cond) ∈ lw_g := lw_g_of (mt3 (List.mem_of_getElem? (i := 220) (by decide +kernel))) rfl
set_option maxRecDepth 20000 in
theorem mm_748 : (.selects "DocumentFileModel" ⟨"DocumentFileModel", "run", "(II)I"⟩ ⟨"DocumentFileModel", "run", "(II)I"⟩ : Cond) ∈ lw_g := lw_g_of (mt3 (List.mem_of_getElem? (i := 221) (by decide +kernel))) rfl
set_option maxRecDepth 20000 in
theorem mm_749 : (.code ⟨"DocumentFileModel", "run", "(II)I"⟩ prog_10_method_23_code 6 (some .int) : Cond) ∈ lw_g := lw_g_of (mt3 (List.mem_of_getElem? (i := 222) rfl)) rfl
set_option maxRecDepth 20000 in
theorem mm_750 : (.methodLink "DocumentFileLaw" 73 ⟨"DocumentFileModel", "at", "(I)I"⟩ : Cond) ∈ lw_g := lw_g_of (mt3 (List.mem_of_getElem? (i := 223) (by decide +kernel))) rfl
set_option maxRecDepth 20000 in
theorem mm_751 : (.instanceMethod ⟨"DocumentFileModel", "at", "(I)I"⟩ : Cond) ∈ lw_g := lw_g_of (mt3 (List.mem_of_getElem? (i := 224) (by decide +kernel))) rfl
set_option maxRecDepth 20000 in
theorem mm_752 : (.selects "DocumentFileModel" ⟨"DocumentFileModel", "at", "(I)I"⟩ ⟨"DocumentFileModel", "at", "(I)I"⟩ : Cond) ∈ lw_g := lw_g_of (mt3 (List.mem_of_getElem? (i := 225) (by decide +kernel))) rfl
set_option maxRecDepth 20000 in
theorem mm_753 : (.code ⟨"DocumentFileModel", "at", "(I)I"⟩ prog_10_method_24_code 2 (some .int) : Cond) ∈ lw_g := lw_g_of (mt3 (List.mem_of_getElem? (i := 226) rfl)) rfl
set_option maxRecDepth 20000 in
theorem mm_754 : (.methodLink "DocumentFileLaw" 77 ⟨"DocumentFileModel", "save", "()I"⟩ : Cond) ∈ lw_g := lw_g_of (mt3 (List.mem_of_getElem? (i := 227) (by decide +kernel))) rfl
set_option maxRecDepth 20000 in
theorem mm_755 : (.instanceMethod ⟨"DocumentFileModel", "save", "()I"⟩ : Cond) ∈ lw_g := lw_g_of (mt3 (List.mem_of_getElem? (i := 228) (by decide +kernel))) rfl
set_option maxRecDepth 20000 in
theorem mm_756 : (.selects "DocumentFileModel" ⟨"DocumentFileModel", "save", "()I"⟩ ⟨"DocumentFileModel", "save", "()I"⟩ : Cond) ∈ lw_g := lw_g_of (mt3 (List.mem_of_getElem? (i := 229) (by decide +kernel))) rfl
set_option maxRecDepth 20000 in
theorem mm_757 : (.code ⟨"DocumentFileModel", "save", "()I"⟩ prog_10_method_36_code 7 (some .int) : Cond) ∈ lw_g := lw_g_of (mt3 (List.mem_of_getElem? (i := 230) rfl)) rfl
set_option maxRecDepth 20000 in
theorem mm_758 : (.methodLink "DocumentFileModel" 130 ⟨"DocumentFileModel", "octetOut", "(I)V"⟩ : Cond) ∈ lw_g := lw_g_of (mt3 (List.mem_of_getElem? (i := 231) (by decide +kernel))) rfl
set_option maxRecDepth 20000 in
theorem mm_760 : (.instanceMethod ⟨"DocumentFileModel", "octetOut", "(I)V"⟩ : Cond) ∈ lw_g := lw_g_of (mt3 (List.mem_of_getElem? (i := 233) (by decide +kernel))) rfl
set_option maxRecDepth 20000 in
theorem mm_761 : (.code ⟨"DocumentFileModel", "octetOut", "(I)V"⟩ prog_10_method_30_code 2 none : Cond) ∈ lw_g := lw_g_of (mt3 (List.mem_of_getElem? (i := 234) rfl)) rfl
set_option maxRecDepth 20000 in
theorem mm_762 : (.methodLink "DocumentFileModel" 133 ⟨"DocumentFileModel", "number", "(I)V"⟩ : Cond) ∈ lw_g := lw_g_of (mt3 (List.mem_of_getElem? (i := 235) (by decide +kernel))) rfl
set_option maxRecDepth 20000 in
theorem mm_764 : (.instanceMethod ⟨"DocumentFileModel", "number", "(I)V"⟩ : Cond) ∈ lw_g := lw_g_of (mt3 (List.mem_of_getElem? (i := 237) (by decide +kernel))) rfl
set_option maxRecDepth 20000 in
theorem mm_765 : (.code ⟨"DocumentFileModel", "number", "(I)V"⟩ prog_10_method_31_code 2 none : Cond) ∈ lw_g := lw_g_of (mt3 (List.mem_of_getElem? (i := 238) rfl)) rfl
set_option maxRecDepth 20000 in
theorem mm_766 : (.methodLink "DocumentFileModel" 136 ⟨"DocumentFileModel", "properties", "(I)V"⟩ : Cond) ∈ lw_g := lw_g_of (mt3 (List.mem_of_getElem? (i := 239) (by decide +kernel))) rfl
set_option maxRecDepth 20000 in
theorem mm_768 : (.instanceMethod ⟨"DocumentFileModel", "properties", "(I)V"⟩ : Cond) ∈ lw_g := lw_g_of (mt4 (List.mem_of_getElem? (i := 1) (by decide +kernel))) rfl
set_option maxRecDepth 20000 in
theorem mm_769 : (.code ⟨"DocumentFileModel", "properties", "(I)V"⟩ prog_10_method_32_code 4 none : Cond) ∈ lw_g := lw_g_of (mt4 (List.mem_of_getElem? (i := 2) rfl)) rfl
set_option maxRecDepth 20000 in
theorem mm_770 : (.methodLink "DocumentFileModel" 152 ⟨"DocumentFileModel", "joined", "(I)I"⟩ : Cond) ∈ lw_g := lw_g_of (mt4 (List.mem_of_getElem? (i := 3) (by decide +kernel))) rfl
set_option maxRecDepth 20000 in
theorem mm_772 : (.instanceMethod ⟨"DocumentFileModel", "joined", "(I)I"⟩ : Cond) ∈ lw_g := lw_g_of (mt4 (List.mem_of_getElem? (i := 5) (by decide +kernel))) rfl
set_option maxRecDepth 20000 in
theorem mm_773 : (.code ⟨"DocumentFileModel", "joined", "(I)I"⟩ prog_10_method_35_code 3 (some .int) : Cond) ∈ lw_g := lw_g_of (mt4 (List.mem_of_getElem? (i := 6) rfl)) rfl
set_option maxRecDepth 20000 in
theorem mm_774 : (.methodLink "DocumentFileModel" 149 ⟨"DocumentFileModel", "sameRuns", "(III)Z"⟩ : Cond) ∈ lw_g := lw_g_of (mt4 (List.mem_of_getElem? (i := 7) (by decide +kernel))) rfl
set_option maxRecDepth 20000 in
theorem mm_776 : (.instanceMethod ⟨"DocumentFileModel", "sameRuns", "(III)Z"⟩ : Cond) ∈ lw_g := lw_g_of (mt4 (List.mem_of_getElem? (i := 9) (by decide +kernel))) rfl
set_option maxRecDepth 20000 in
theorem mm_777 : (.code ⟨"DocumentFileModel", "sameRuns", "(III)Z"⟩ prog_10_method_29_code 6 (some .boolean) : Cond) ∈ lw_g := lw_g_of (mt4 (List.mem_of_getElem? (i := 10) rfl)) rfl
set_option maxRecDepth 20000 in
theorem mm_778 : (.methodLink "DocumentFileModel" 123 ⟨"DocumentFileModel", "firstSet", "(II)I"⟩ : Cond) ∈ lw_g := lw_g_of (mt4 (List.mem_of_getElem? (i := 11) (by decide +kernel))) rfl
set_option maxRecDepth 20000 in
theorem mm_780 : (.instanceMethod ⟨"DocumentFileModel", "firstSet", "(II)I"⟩ : Cond) ∈ lw_g := lw_g_of (mt4 (List.mem_of_getElem? (i := 13) (by decide +kernel))) rfl
set_option maxRecDepth 20000 in
theorem mm_781 : (.code ⟨"DocumentFileModel", "firstSet", "(II)I"⟩ prog_10_method_26_code 4 (some .int) : Cond) ∈ lw_g := lw_g_of (mt4 (List.mem_of_getElem? (i := 14) rfl)) rfl
set_option maxRecDepth 20000 in
theorem mm_782 : (.methodLink "DocumentFileModel" 117 ⟨"DocumentFileModel", "sameSets", "(III)Z"⟩ : Cond) ∈ lw_g := lw_g_of (mt4 (List.mem_of_getElem? (i := 15) (by decide +kernel))) rfl
set_option maxRecDepth 20000 in
theorem mm_784 : (.instanceMethod ⟨"DocumentFileModel", "sameSets", "(III)Z"⟩ : Cond) ∈ lw_g := lw_g_of (mt4 (List.mem_of_getElem? (i := 17) (by decide +kernel))) rfl
set_option maxRecDepth 20000 in
theorem mm_785 : (.code ⟨"DocumentFileModel", "sameSets", "(III)Z"⟩ prog_10_method_25_code 6 (some .boolean) : Cond) ∈ lw_g := lw_g_of (mt4 (List.mem_of_getElem? (i := 18) rfl)) rfl
set_option maxRecDepth 20000 in
theorem mm_786 : (.methodLink "DocumentFileModel" 127 ⟨"DocumentFileModel", "firstMark", "(II)I"⟩ : Cond) ∈ lw_g := lw_g_of (mt4 (List.mem_of_getElem? (i := 19) (by decide +kernel))) rfl
set_option maxRecDepth 20000 in
theorem mm_788 : (.instanceMethod ⟨"DocumentFileModel", "firstMark", "(II)I"⟩ : Cond) ∈ lw_g := lw_g_of (mt4 (List.mem_of_getElem? (i := 21) (by decide +kernel))) rfl
set_option maxRecDepth 20000 in
theorem mm_789 : (.code ⟨"DocumentFileModel", "firstMark", "(II)I"⟩ prog_10_method_27_code 4 (some .int) : Cond) ∈ lw_g := lw_g_of (mt4 (List.mem_of_getElem? (i := 22) rfl)) rfl
set_option maxRecDepth 20000 in
theorem mm_790 : (.methodLink "DocumentFileModel" 120 ⟨"DocumentFileModel", "sameMarks", "(III)Z"⟩ : Cond) ∈ lw_g := lw_g_of (mt4 (List.mem_of_getElem? (i := 23) (by decide +kernel))) rfl
set_option maxRecDepth 20000 in
theorem mm_792 : (.instanceMethod ⟨"DocumentFileModel", "sameMarks", "(III)Z"⟩ : Cond) ∈ lw_g := lw_g_of (mt4 (List.mem_of_getElem? (i := 25) (by decide +kernel))) rfl
set_option maxRecDepth 20000 in
theorem mm_793 : (.code ⟨"DocumentFileModel", "sameMarks", "(III)Z"⟩ prog_10_method_28_code 6 (some .boolean) : Cond) ∈ lw_g := lw_g_of (mt4 (List.mem_of_getElem? (i := 26) rfl)) rfl
set_option maxRecDepth 20000 in
theorem mm_794 : (.methodLink "DocumentFileModel" 142 ⟨"DocumentFileModel", "setOut", "(II)V"⟩ : Cond) ∈ lw_g := lw_g_of (mt4 (List.mem_of_getElem? (i := 27) (by decide +kernel))) rfl
set_option maxRecDepth 20000 in
theorem mm_796 : (.instanceMethod ⟨"DocumentFileModel", "setOut", "(II)V"⟩ : Cond) ∈ lw_g := lw_g_of (mt4 (List.mem_of_getElem? (i := 29) (by decide +kernel))) rfl
set_option maxRecDepth 20000 in
theorem mm_797 : (.code ⟨"DocumentFileModel", "setOut", "(II)V"⟩ prog_10_method_33_code 4 none : Cond) ∈ lw_g := lw_g_of (mt4 (List.mem_of_getElem? (i := 30) rfl)) rfl
set_option maxRecDepth 20000 in
theorem mm_798 : (.methodLink "DocumentFileModel" 155 ⟨"DocumentFileModel", "markOut", "(I)V"⟩ : Cond) ∈ lw_g := lw_g_of (mt4 (List.mem_of_getElem? (i := 31) (by decide +kernel))) rfl
set_option maxRecDepth 20000 in
theorem mm_800 : (.instanceMethod ⟨"DocumentFileModel", "markOut", "(I)V"⟩ : Cond) ∈ lw_g := lw_g_of (mt4 (List.mem_of_getElem? (i := 33) (by decide +kernel))) rfl
set_option maxRecDepth 20000 in
theorem mm_801 : (.code ⟨"DocumentFileModel", "markOut", "(I)V"⟩ prog_10_method_34_code 3 none : Cond) ∈ lw_g := lw_g_of (mt4 (List.mem_of_getElem? (i := 34) rfl)) rfl
set_option maxRecDepth 20000 in
theorem mm_802 : (.methodLink "DocumentFileLaw" 81 ⟨"DocumentFileModel", "open", "()I"⟩ : Cond) ∈ lw_g := lw_g_of (mt4 (List.mem_of_getElem? (i := 35) (by decide +kernel))) rfl
set_option maxRecDepth 20000 in
theorem mm_803 : (.instanceMethod ⟨"DocumentFileModel", "open", "()I"⟩ : Cond) ∈ lw_g := lw_g_of (mt4 (List.mem_of_getElem? (i := 36) (by decide +kernel))) rfl
set_option maxRecDepth 20000 in
theorem mm_804 : (.selects "DocumentFileModel" ⟨"DocumentFileModel", "open", "()I"⟩ ⟨"DocumentFileModel", "open", "()I"⟩ : Cond) ∈ lw_g := lw_g_of (mt4 (List.mem_of_getElem? (i := 37) (by decide +kernel))) rfl
set_option maxRecDepth 20000 in
theorem mm_805 : (.code ⟨"DocumentFileModel", "open", "()I"⟩ prog_10_method_45_code 4 (some .int) : Cond) ∈ lw_g := lw_g_of (mt4 (List.mem_of_getElem? (i := 38) rfl)) rfl
set_option maxRecDepth 20000 in
theorem mm_806 : (.methodLink "DocumentFileModel" 182 ⟨"DocumentFileModel", "readByte", "(I)V"⟩ : Cond) ∈ lw_g := lw_g_of (mt4 (List.mem_of_getElem? (i := 39) (by decide +kernel))) rfl
set_option maxRecDepth 20000 in
theorem mm_808 : (.instanceMethod ⟨"DocumentFileModel", "readByte", "(I)V"⟩ : Cond) ∈ lw_g := lw_g_of (mt4 (List.mem_of_getElem? (i := 41) (by decide +kernel))) rfl
set_option maxRecDepth 20000 in
theorem mm_809 : (.code ⟨"DocumentFileModel", "readByte", "(I)V"⟩ prog_10_method_39_code 2 none : Cond) ∈ lw_g := lw_g_of (mt4 (List.mem_of_getElem? (i := 42) rfl)) rfl
set_option maxRecDepth 20000 in
theorem mm_810 : (.methodLink "DocumentFileModel" 167 ⟨"DocumentFileModel", "wrong", "(I)V"⟩ : Cond) ∈ lw_g := lw_g_of (mt4 (List.mem_of_getElem? (i := 43) (by decide +kernel))) rfl
set_option maxRecDepth 20000 in
theorem mm_812 : (.instanceMethod ⟨"DocumentFileModel", "wrong", "(I)V"⟩ : Cond) ∈ lw_g := lw_g_of (mt4 (List.mem_of_getElem? (i := 45) (by decide +kernel))) rfl
set_option maxRecDepth 20000 in
theorem mm_813 : (.code ⟨"DocumentFileModel", "wrong", "(I)V"⟩ prog_10_method_37_code 2 none : Cond) ∈ lw_g := lw_g_of (mt4 (List.mem_of_getElem? (i := 46) rfl)) rfl
set_option maxRecDepth 20000 in
theorem mm_814 : (.methodLink "DocumentFileModel" 185 ⟨"DocumentFileModel", "readStyles", "(I)V"⟩ : Cond) ∈ lw_g := lw_g_of (mt4 (List.mem_of_getElem? (i := 47) (by decide +kernel))) rfl
set_option maxRecDepth 20000 in
theorem mm_816 : (.instanceMethod ⟨"DocumentFileModel", "readStyles", "(I)V"⟩ : Cond) ∈ lw_g := lw_g_of (mt4 (List.mem_of_getElem? (i := 49) (by decide +kernel))) rfl
set_option maxRecDepth 20000 in
theorem mm_817 : (.code ⟨"DocumentFileModel", "readStyles", "(I)V"⟩ prog_10_method_41_code 6 none : Cond) ∈ lw_g := lw_g_of (mt4 (List.mem_of_getElem? (i := 50) rfl)) rfl
set_option maxRecDepth 20000 in
theorem mm_818 : (.methodLink "DocumentFileModel" 170 ⟨"DocumentFileModel", "readNumber", "(I)I"⟩ : Cond) ∈ lw_g := lw_g_of (mt4 (List.mem_of_getElem? (i := 51) (by decide +kernel))) rfl
set_option maxRecDepth 20000 in
theorem mm_820 : (.instanceMethod ⟨"DocumentFileModel", "readNumber", "(I)I"⟩ : Cond) ∈ lw_g := lw_g_of (mt4 (List.mem_of_getElem? (i := 53) (by decide +kernel))) rfl
set_option maxRecDepth 20000 in
theorem mm_821 : (.code ⟨"DocumentFileModel", "readNumber", "(I)I"⟩ prog_10_method_38_code 5 (some .int) : Cond) ∈ lw_g := lw_g_of (mt4 (List.mem_of_getElem? (i := 54) rfl)) rfl
set_option maxRecDepth 20000 in
theorem mm_822 : (.methodLink "DocumentFileModel" 173 ⟨"DocumentFileModel", "readProperties", "(I)V"⟩ : Cond) ∈ lw_g := lw_g_of (mt4 (List.mem_of_getElem? (i := 55) (by decide +kernel))) rfl
set_option maxRecDepth 20000 in
theorem mm_824 : (.instanceMethod ⟨"DocumentFileModel", "readProperties", "(I)V"⟩ : Cond) ∈ lw_g := lw_g_of (mt4 (List.mem_of_getElem? (i := 57) (by decide +kernel))) rfl
set_option maxRecDepth 20000 in
theorem mm_825 : (.code ⟨"DocumentFileModel", "readProperties", "(I)V"⟩ prog_10_method_40_code 6 none : Cond) ∈ lw_g := lw_g_of (mt4 (List.mem_of_getElem? (i := 58) rfl)) rfl
set_option maxRecDepth 20000 in
theorem mm_826 : (.methodLink "DocumentFileModel" 188 ⟨"DocumentFileModel", "readRun", "(II)V"⟩ : Cond) ∈ lw_g := lw_g_of (mt4 (List.mem_of_getElem? (i := 59) (by decide +kernel))) rfl
set_option maxRecDepth 20000 in
theorem mm_828 : (.instanceMethod ⟨"DocumentFileModel", "readRun", "(II)V"⟩ : Cond) ∈ lw_g := lw_g_of (mt4 (List.mem_of_getElem? (i := 61) (by decide +kernel))) rfl
set_option maxRecDepth 20000 in
theorem mm_829 : (.code ⟨"DocumentFileModel", "readRun", "(II)V"⟩ prog_10_method_44_code 12 none : Cond) ∈ lw_g := lw_g_of (mt4 (List.mem_of_getElem? (i := 62) rfl)) rfl
set_option maxRecDepth 20000 in
theorem mm_830 : (.methodLink "DocumentFileModel" 176 ⟨"DocumentFileModel", "readSet", "(II)I"⟩ : Cond) ∈ lw_g := lw_g_of (mt4 (List.mem_of_getElem? (i := 63) (by decide +kernel))) rfl
set_option maxRecDepth 20000 in
theorem mm_832 : (.instanceMethod ⟨"DocumentFileModel", "readSet", "(II)I"⟩ : Cond) ∈ lw_g := lw_g_of (mt4 (List.mem_of_getElem? (i := 65) (by decide +kernel))) rfl
set_option maxRecDepth 20000 in
theorem mm_833 : (.code ⟨"DocumentFileModel", "readSet", "(II)I"⟩ prog_10_method_42_code 6 (some .int) : Cond) ∈ lw_g := lw_g_of (mt4 (List.mem_of_getElem? (i := 66) rfl)) rfl
set_option maxRecDepth 20000 in
theorem mm_834 : (.methodLink "DocumentFileModel" 179 ⟨"DocumentFileModel", "readMark", "(I)I"⟩ : Cond) ∈ lw_g := lw_g_of (mt4 (List.mem_of_getElem? (i := 67) (by decide +kernel))) rfl
set_option maxRecDepth 20000 in
theorem mm_836 : (.instanceMethod ⟨"DocumentFileModel", "readMark", "(I)I"⟩ : Cond) ∈ lw_g := lw_g_of (mt4 (List.mem_of_getElem? (i := 69) (by decide +kernel))) rfl
set_option maxRecDepth 20000 in
theorem mm_837 : (.code ⟨"DocumentFileModel", "readMark", "(I)I"⟩ prog_10_method_43_code 5 (some .int) : Cond) ∈ lw_g := lw_g_of (mt4 (List.mem_of_getElem? (i := 70) rfl)) rfl
set_option maxRecDepth 20000 in
theorem mm_838 : (.methodLink "DocumentFileLaw" 85 ⟨"DocumentFileModel", "octet", "(I)I"⟩ : Cond) ∈ lw_g := lw_g_of (mt4 (List.mem_of_getElem? (i := 71) (by decide +kernel))) rfl
set_option maxRecDepth 20000 in
theorem mm_839 : (.instanceMethod ⟨"DocumentFileModel", "octet", "(I)I"⟩ : Cond) ∈ lw_g := lw_g_of (mt4 (List.mem_of_getElem? (i := 72) (by decide +kernel))) rfl
set_option maxRecDepth 20000 in
theorem mm_840 : (.selects "DocumentFileModel" ⟨"DocumentFileModel", "octet", "(I)I"⟩ ⟨"DocumentFileModel", "octet", "(I)I"⟩ : Cond) ∈ lw_g := lw_g_of (mt4 (List.mem_of_getElem? (i := 73) (by decide +kernel))) rfl
set_option maxRecDepth 20000 in
theorem mm_841 : (.code ⟨"DocumentFileModel", "octet", "(I)I"⟩ prog_10_method_46_code 2 (some .int) : Cond) ∈ lw_g := lw_g_of (mt4 (List.mem_of_getElem? (i := 74) rfl)) rfl
set_option maxRecDepth 20000 in
theorem mm_842 : (.methodLink "DocumentFileLaw" 90 ⟨"DocumentFileModel", "alter", "(II)Z"⟩ : Cond) ∈ lw_g := lw_g_of (mt4 (List.mem_of_getElem? (i := 75) (by decide +kernel))) rfl
set_option maxRecDepth 20000 in
theorem mm_843 : (.instanceMethod ⟨"DocumentFileModel", "alter", "(II)Z"⟩ : Cond) ∈ lw_g := lw_g_of (mt4 (List.mem_of_getElem? (i := 76) (by decide +kernel))) rfl
set_option maxRecDepth 20000 in
theorem mm_844 : (.selects "DocumentFileModel" ⟨"DocumentFileModel", "alter", "(II)Z"⟩ ⟨"DocumentFileModel", "alter", "(II)Z"⟩ : Cond) ∈ lw_g := lw_g_of (mt4 (List.mem_of_getElem? (i := 77) (by decide +kernel))) rfl
set_option maxRecDepth 20000 in
theorem mm_845 : (.code ⟨"DocumentFileModel", "alter", "(II)Z"⟩ prog_10_method_47_code 3 (some .boolean) : Cond) ∈ lw_g := lw_g_of (mt4 (List.mem_of_getElem? (i := 78) rfl)) rfl
set_option maxRecDepth 20000 in
theorem mm_846 : (.methodLink "DocumentFileLaw" 95 ⟨"DocumentFileModel", "cut", "(I)Z"⟩ : Cond) ∈ lw_g := lw_g_of (mt4 (List.mem_of_getElem? (i := 79) (by decide +kernel))) rfl
set_option maxRecDepth 20000 in
theorem mm_847 : (.instanceMethod ⟨"DocumentFileModel", "cut", "(I)Z"⟩ : Cond) ∈ lw_g := lw_g_of (mt4 (List.mem_of_getElem? (i := 80) (by decide +kernel))) rfl
set_option maxRecDepth 20000 in
theorem mm_848 : (.selects "DocumentFileModel" ⟨"DocumentFileModel", "cut", "(I)Z"⟩ ⟨"DocumentFileModel", "cut", "(I)Z"⟩ : Cond) ∈ lw_g := lw_g_of (mt4 (List.mem_of_getElem? (i := 81) (by decide +kernel))) rfl
set_option maxRecDepth 20000 in
theorem mm_849 : (.code ⟨"DocumentFileModel", "cut", "(I)Z"⟩ prog_10_method_48_code 2 (some .boolean) : Cond) ∈ lw_g := lw_g_of (mt4 (List.mem_of_getElem? (i := 82) rfl)) rfl
set_option maxRecDepth 20000 in
theorem mm_850 : (.constantLong "DocumentFileLaw" 37 (4294967295) : Cond) ∈ lw_g := lw_g_of (mt4 (List.mem_of_getElem? (i := 83) (by decide +kernel))) rfl
