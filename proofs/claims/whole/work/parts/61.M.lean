/-! DocumentFile$Marks.empty()V -/
abbrev rm_M_empty : Room := { frames := 0, cells := 0, slots := 0, locals := 0 }
set_option maxHeartbeats 4000000 in
set_option maxRecDepth 100000 in
theorem c_M_empty (l : Launch) (dC : Nat → ClassId) (dI : Nat → Nat → Nat) (cI cB cS : ClassId) (tT : Nat) (h0 h1 : Nat) (t_parts : Nat → Int32) (t_rows : Int32)   (sz : Nat) (res : Int32) (h : r_M_empty t_rows = some res) :
    Met l y_M_empty w_M_empty rm_M_empty (wk_Pre dC dI cI cB cS tT [.ref h0] [(h0, .inr (2, [.ref h1, .int t_rows])), (h1, .inl (cI, 72, .inl t_parts))] sz) (wk_Qv dC dI [(h0, .inr (2, [.ref h1, .int res])), (h1, .inl (cI, 72, .inl t_parts))] (va_A [(h0, .inr (2, [.ref h1, .int t_rows])), (h1, .inl (cI, 72, .inl t_parts))] sz)) 0 0 (va_A [(h0, .inr (2, [.ref h1, .int t_rows])), (h1, .inl (cI, 72, .inl t_parts))] sz) := by
  refine wk_met (Qc := fun A => wk_Qv dC dI [(h0, .inr (2, [.ref h1, .int res])), (h1, .inl (cI, 72, .inl t_parts))] A) (by decide) [.ref h0] [(h0, .inr (2, [.ref h1, .int t_rows])), (h1, .inl (cI, 72, .inl t_parts))] sz (Nat.le_of_ble_eq_true rfl) (fun p e s m below meth c A ls K hP hD hS hl hin => ?_)
  have K : wk_X p s m ([.ref h0] : List Value).toArray meth c b_M_empty R_M 1 none dC dI cI cB cS tT A := K
  obtain ⟨hx, hb, hr, hml, hown, htl, hlk, hK, hZ, hT, hN, hA⟩ := id K
  have hl : lv_has ls 1 [(0, .ref h0)] := hl
  unfold r_M_empty at h
  refine lv_aload_n hx hb d_M_empty_0 rfl (lv_at hl 0 rfl) ?_
  refine lv_iconst (v := 0) hx hb d_M_empty_1 (by decide) ?_
  refine va_put (D := (dC, dI)) (ci := 2) (v := .int 0) (ty := .int) (C := R_M) (T := T_M) (N := 2) hx hb htl in_M ty_M tyok_M nmok_M hown hK hP hD hS 0 rfl rfl 1 (by decide) (htl _ mm_95) (fun _ h9 => h9) rfl (by decide +kernel) rfl rfl (Nat.le_of_ble_eq_true rfl) d_M_empty_2 (fun H locs hP hD hS => ?_)
  have hP : va_P (dC, dI) vwCl [(h0, .inr (2, [.ref h1, .int 0])), (h1, .inl (cI, 72, .inl t_parts))] H := hP
  have hD : va_D A [(h0, .inr (2, [.ref h1, .int 0])), (h1, .inl (cI, 72, .inl t_parts))] := hD
  cases h
  exact wk_vret K hP hS d_M_empty_5
/-! DocumentFile$Marks.isFull()Z -/
abbrev rm_M_isFull : Room := { frames := 0, cells := 0, slots := 0, locals := 0 }
set_option maxHeartbeats 4000000 in
set_option maxRecDepth 100000 in
theorem c_M_isFull (l : Launch) (dC : Nat → ClassId) (dI : Nat → Nat → Nat) (cI cB cS : ClassId) (tT : Nat) (h0 h1 : Nat) (t_parts : Nat → Int32) (t_rows : Int32)   (sz : Nat) (res : Int32) (h : r_M_isFull t_rows = some res) :
    Met l y_M_isFull w_M_isFull rm_M_isFull (wk_Pre dC dI cI cB cS tT [.ref h0] [(h0, .inr (2, [.ref h1, .int t_rows])), (h1, .inl (cI, 72, .inl t_parts))] sz) (wk_Qi dC dI res [(h0, .inr (2, [.ref h1, .int t_rows])), (h1, .inl (cI, 72, .inl t_parts))] (va_A [(h0, .inr (2, [.ref h1, .int t_rows])), (h1, .inl (cI, 72, .inl t_parts))] sz)) 0 0 (va_A [(h0, .inr (2, [.ref h1, .int t_rows])), (h1, .inl (cI, 72, .inl t_parts))] sz) := by
  refine wk_met (Qc := fun A => wk_Qi dC dI res [(h0, .inr (2, [.ref h1, .int t_rows])), (h1, .inl (cI, 72, .inl t_parts))] A) (by decide) [.ref h0] [(h0, .inr (2, [.ref h1, .int t_rows])), (h1, .inl (cI, 72, .inl t_parts))] sz (Nat.le_of_ble_eq_true rfl) (fun p e s m below meth c A ls K hP hD hS hl hin => ?_)
  have K : wk_X p s m ([.ref h0] : List Value).toArray meth c b_M_isFull R_M 1 (some .boolean) dC dI cI cB cS tT A := K
  obtain ⟨hx, hb, hr, hml, hown, htl, hlk, hK, hZ, hT, hN, hA⟩ := id K
  have hl : lv_has ls 1 [(0, .ref h0)] := hl
  unfold r_M_isFull at h
  refine lv_aload_n hx hb d_M_isFull_0 rfl (lv_at hl 0 rfl) ?_
  refine va_get (D := (dC, dI)) (ci := 2) (v := .int t_rows) (C := R_M) (T := T_M) (N := 2) hx hb htl in_M hown hK hP 0 rfl rfl 1 (by decide) (htl _ mm_95) (fun _ h9 => h9) rfl d_M_isFull_1 ?_
  refine lv_bipush (v := 24) hx hb d_M_isFull_4 (by decide) ?_
  refine lv_icmp_lt (tgt := 13) hx hb d_M_isFull_6 (by decide) (fun c2 => ?_) (fun c2 => ?_)
  · have h := wk_pos h c2
    refine lv_iconst (v := 0) hx hb d_M_isFull_13 (by decide) ?_
    cases h
    exact wk_zret K (Or.inl rfl) hP hS d_M_isFull_14
  · have h := wk_neg h c2
    refine lv_iconst (v := 1) hx hb d_M_isFull_9 (by decide) ?_
    refine lv_goto (tgt := 14) hx hb d_M_isFull_10 (by decide) ?_
    cases h
    exact wk_zret K (Or.inr rfl) hP hS d_M_isFull_14
/-! DocumentFile$Marks.add(III)I -/
abbrev rm_M_add : Room := { frames := 1, cells := 0, slots := 0, locals := 20 }
set_option maxHeartbeats 4000000 in
set_option maxRecDepth 100000 in
theorem c_M_add (l : Launch) (dC : Nat → ClassId) (dI : Nat → Nat → Nat) (cI cB cS : ClassId) (tT : Nat) (h0 h1 : Nat) (t_parts : Nat → Int32) (t_rows : Int32) (x0 : Int32) (x1 : Int32) (x2 : Int32)  (sz : Nat) (res : Int32 × (Nat → Int32) × Int32) (h : r_M_add x0 x1 x2 t_parts t_rows = some res) :
    Met l y_M_add w_M_add rm_M_add (wk_Pre dC dI cI cB cS tT [.ref h0, .int x0, .int x1, .int x2] [(h0, .inr (2, [.ref h1, .int t_rows])), (h1, .inl (cI, 72, .inl t_parts))] sz) (wk_Qi dC dI res.1 [(h0, .inr (2, [.ref h1, .int res.2.2])), (h1, .inl (cI, 72, .inl res.2.1))] (va_A [(h0, .inr (2, [.ref h1, .int t_rows])), (h1, .inl (cI, 72, .inl t_parts))] sz)) 0 0 (va_A [(h0, .inr (2, [.ref h1, .int t_rows])), (h1, .inl (cI, 72, .inl t_parts))] sz) := by
  refine wk_met (Qc := fun A => wk_Qi dC dI res.1 [(h0, .inr (2, [.ref h1, .int res.2.2])), (h1, .inl (cI, 72, .inl res.2.1))] A) (by decide) [.ref h0, .int x0, .int x1, .int x2] [(h0, .inr (2, [.ref h1, .int t_rows])), (h1, .inl (cI, 72, .inl t_parts))] sz (Nat.le_of_ble_eq_true rfl) (fun p e s m below meth c A ls K hP hD hS hl hin => ?_)
  have K : wk_X p s m ([.ref h0, .int x0, .int x1, .int x2] : List Value).toArray meth c b_M_add R_M 4 (some .int) dC dI cI cB cS tT A := K
  obtain ⟨hx, hb, hr, hml, hown, htl, hlk, hK, hZ, hT, hN, hA⟩ := id K
  have hl : lv_has ls 4 [(0, .ref h0), (1, .int x0), (2, .int x1), (3, .int x2)] := hl
  unfold r_M_add at h
  refine lv_aload_n hx hb d_M_add_0 rfl (lv_at hl 0 rfl) ?_
  obtain ⟨z6, hz6, h⟩ := wk_bind h
  refine wk_calli (wc := [(h0, .inr (2, [.ref h1, .int t_rows])), (h1, .inl (cI, 72, .inl t_parts))]) (wc' := [(h0, .inr (2, [.ref h1, .int t_rows])), (h1, .inl (cI, 72, .inl t_parts))]) K hP hD hS [0, 1] rfl rfl (va_runV (As := []) (rest := []) ⟨hx, hb, hml, hown, htl⟩ (c_M_isFull l dC dI cI cB cS tT h0 h1 t_parts t_rows _ z6 hz6) (cwV 0 htl g_M_19 rfl rfl rfl (by decide +kernel) ⟨Nat.le_of_ble_eq_true rfl, Nat.le_of_ble_eq_true rfl⟩) (wk_preV K hP hD hS [0, 1] rfl rfl rfl rfl) rfl rfl hl.1 rfl (lv_room (Nat.le_of_ble_eq_true rfl)) d_M_add_1 ⟨Nat.zero_le _, Nat.zero_le _⟩) (fun H locs hP hD hS => ?_)
  have hP : va_P (dC, dI) vwCl [(h0, .inr (2, [.ref h1, .int t_rows])), (h1, .inl (cI, 72, .inl t_parts))] H := hP
  have hD : va_D A [(h0, .inr (2, [.ref h1, .int t_rows])), (h1, .inl (cI, 72, .inl t_parts))] := hD
  refine lv_if_eq (tgt := 9) hx hb d_M_add_4 (by decide) (fun c7 => ?_) (fun c7 => ?_)
  · have h := wk_pos h c7
    refine lv_aload_n hx hb d_M_add_9 rfl (lv_at hl 0 rfl) ?_
    refine va_get (D := (dC, dI)) (ci := 2) (v := .ref h1) (C := R_M) (T := T_M) (N := 2) hx hb htl in_M hown hK hP 0 rfl rfl 0 (by decide) (htl _ mm_94) (fun _ h9 => h9) rfl d_M_add_10 ?_
    refine lv_aload_n hx hb d_M_add_13 rfl (lv_at hl 0 rfl) ?_
    refine va_get (D := (dC, dI)) (ci := 2) (v := .int t_rows) (C := R_M) (T := T_M) (N := 2) hx hb htl in_M hown hK hP 0 rfl rfl 1 (by decide) (htl _ mm_95) (fun _ h9 => h9) rfl d_M_add_14 ?_
    refine lv_iconst (v := 3) hx hb d_M_add_17 (by decide) ?_
    refine lv_imul hx hb d_M_add_18 ?_
    refine lv_iconst (v := 0) hx hb d_M_add_19 (by decide) ?_
    refine lv_iadd hx hb d_M_add_20 ?_
    refine lv_iload_n hx hb d_M_add_21 rfl (lv_at hl 1 rfl) ?_
    obtain ⟨g8, h⟩ := gi_some h
    refine va_iast hx hb hK hP hD hS 1 0 rfl rfl g8 d_M_add_22 (fun H locs hP hD hS => ?_)
    have hP : va_P (dC, dI) vwCl [(h0, .inr (2, [.ref h1, .int t_rows])), (h1, .inl (cI, 72, .inl (upd t_parts ((t_rows * 3) + 0).toNatClampNeg x0)))] H := hP
    have hD : va_D A [(h0, .inr (2, [.ref h1, .int t_rows])), (h1, .inl (cI, 72, .inl (upd t_parts ((t_rows * 3) + 0).toNatClampNeg x0)))] := hD
    refine lv_aload_n hx hb d_M_add_23 rfl (lv_at hl 0 rfl) ?_
    refine va_get (D := (dC, dI)) (ci := 2) (v := .ref h1) (C := R_M) (T := T_M) (N := 2) hx hb htl in_M hown hK hP 0 rfl rfl 0 (by decide) (htl _ mm_94) (fun _ h9 => h9) rfl d_M_add_24 ?_
    refine lv_aload_n hx hb d_M_add_27 rfl (lv_at hl 0 rfl) ?_
    refine va_get (D := (dC, dI)) (ci := 2) (v := .int t_rows) (C := R_M) (T := T_M) (N := 2) hx hb htl in_M hown hK hP 0 rfl rfl 1 (by decide) (htl _ mm_95) (fun _ h9 => h9) rfl d_M_add_28 ?_
    refine lv_iconst (v := 3) hx hb d_M_add_31 (by decide) ?_
    refine lv_imul hx hb d_M_add_32 ?_
    refine lv_iconst (v := 1) hx hb d_M_add_33 (by decide) ?_
    refine lv_iadd hx hb d_M_add_34 ?_
    refine lv_iload_n hx hb d_M_add_35 rfl (lv_at hl 2 rfl) ?_
    obtain ⟨g9, h⟩ := gi_some h
    refine va_iast hx hb hK hP hD hS 1 0 rfl rfl g9 d_M_add_36 (fun H locs hP hD hS => ?_)
    have hP : va_P (dC, dI) vwCl [(h0, .inr (2, [.ref h1, .int t_rows])), (h1, .inl (cI, 72, .inl (upd (upd t_parts ((t_rows * 3) + 0).toNatClampNeg x0) ((t_rows * 3) + 1).toNatClampNeg x1)))] H := hP
    have hD : va_D A [(h0, .inr (2, [.ref h1, .int t_rows])), (h1, .inl (cI, 72, .inl (upd (upd t_parts ((t_rows * 3) + 0).toNatClampNeg x0) ((t_rows * 3) + 1).toNatClampNeg x1)))] := hD
    refine lv_aload_n hx hb d_M_add_37 rfl (lv_at hl 0 rfl) ?_
    refine va_get (D := (dC, dI)) (ci := 2) (v := .ref h1) (C := R_M) (T := T_M) (N := 2) hx hb htl in_M hown hK hP 0 rfl rfl 0 (by decide) (htl _ mm_94) (fun _ h9 => h9) rfl d_M_add_38 ?_
    refine lv_aload_n hx hb d_M_add_41 rfl (lv_at hl 0 rfl) ?_
    refine va_get (D := (dC, dI)) (ci := 2) (v := .int t_rows) (C := R_M) (T := T_M) (N := 2) hx hb htl in_M hown hK hP 0 rfl rfl 1 (by decide) (htl _ mm_95) (fun _ h9 => h9) rfl d_M_add_42 ?_
    refine lv_iconst (v := 3) hx hb d_M_add_45 (by decide) ?_
    refine lv_imul hx hb d_M_add_46 ?_
    refine lv_iconst (v := 2) hx hb d_M_add_47 (by decide) ?_
    refine lv_iadd hx hb d_M_add_48 ?_
    refine lv_iload_n hx hb d_M_add_49 rfl (lv_at hl 3 rfl) ?_
    obtain ⟨g10, h⟩ := gi_some h
    refine va_iast hx hb hK hP hD hS 1 0 rfl rfl g10 d_M_add_50 (fun H locs hP hD hS => ?_)
    have hP : va_P (dC, dI) vwCl [(h0, .inr (2, [.ref h1, .int t_rows])), (h1, .inl (cI, 72, .inl (upd (upd (upd t_parts ((t_rows * 3) + 0).toNatClampNeg x0) ((t_rows * 3) + 1).toNatClampNeg x1) ((t_rows * 3) + 2).toNatClampNeg x2)))] H := hP
    have hD : va_D A [(h0, .inr (2, [.ref h1, .int t_rows])), (h1, .inl (cI, 72, .inl (upd (upd (upd t_parts ((t_rows * 3) + 0).toNatClampNeg x0) ((t_rows * 3) + 1).toNatClampNeg x1) ((t_rows * 3) + 2).toNatClampNeg x2)))] := hD
    refine lv_aload_n hx hb d_M_add_51 rfl (lv_at hl 0 rfl) ?_
    refine lv_dup hx hb d_M_add_52 rfl ?_
    refine va_get (D := (dC, dI)) (ci := 2) (v := .int t_rows) (C := R_M) (T := T_M) (N := 2) hx hb htl in_M hown hK hP 0 rfl rfl 1 (by decide) (htl _ mm_95) (fun _ h9 => h9) rfl d_M_add_53 ?_
    refine lv_iconst (v := 1) hx hb d_M_add_56 (by decide) ?_
    refine lv_iadd hx hb d_M_add_57 ?_
    refine va_put (D := (dC, dI)) (ci := 2) (v := .int (t_rows + 1)) (ty := .int) (C := R_M) (T := T_M) (N := 2) hx hb htl in_M ty_M tyok_M nmok_M hown hK hP hD hS 0 rfl rfl 1 (by decide) (htl _ mm_95) (fun _ h9 => h9) rfl (by decide +kernel) rfl rfl (Nat.le_of_ble_eq_true rfl) d_M_add_58 (fun H locs hP hD hS => ?_)
    have hP : va_P (dC, dI) vwCl [(h0, .inr (2, [.ref h1, .int (t_rows + 1)])), (h1, .inl (cI, 72, .inl (upd (upd (upd t_parts ((t_rows * 3) + 0).toNatClampNeg x0) ((t_rows * 3) + 1).toNatClampNeg x1) ((t_rows * 3) + 2).toNatClampNeg x2)))] H := hP
    have hD : va_D A [(h0, .inr (2, [.ref h1, .int (t_rows + 1)])), (h1, .inl (cI, 72, .inl (upd (upd (upd t_parts ((t_rows * 3) + 0).toNatClampNeg x0) ((t_rows * 3) + 1).toNatClampNeg x1) ((t_rows * 3) + 2).toNatClampNeg x2)))] := hD
    refine lv_aload_n hx hb d_M_add_61 rfl (lv_at hl 0 rfl) ?_
    refine va_get (D := (dC, dI)) (ci := 2) (v := .int (t_rows + 1)) (C := R_M) (T := T_M) (N := 2) hx hb htl in_M hown hK hP 0 rfl rfl 1 (by decide) (htl _ mm_95) (fun _ h9 => h9) rfl d_M_add_62 ?_
    refine lv_iconst (v := 1) hx hb d_M_add_65 (by decide) ?_
    refine lv_isub hx hb d_M_add_66 ?_
    cases h
    exact wk_iret K hP hS d_M_add_67
  · have h := wk_neg h c7
    refine lv_iconst (v := (-1)) hx hb d_M_add_7 (by decide) ?_
    cases h
    exact wk_iret K hP hS d_M_add_8
/-! DocumentFile$Marks.has(I)Z -/
abbrev rm_M_has : Room := { frames := 0, cells := 0, slots := 0, locals := 0 }
set_option maxHeartbeats 4000000 in
set_option maxRecDepth 100000 in
theorem c_M_has (l : Launch) (dC : Nat → ClassId) (dI : Nat → Nat → Nat) (cI cB cS : ClassId) (tT : Nat) (h0 h1 : Nat) (t_parts : Nat → Int32) (t_rows : Int32) (x0 : Int32)  (sz : Nat) (res : Int32) (h : r_M_has x0 t_rows = some res) :
    Met l y_M_has w_M_has rm_M_has (wk_Pre dC dI cI cB cS tT [.ref h0, .int x0] [(h0, .inr (2, [.ref h1, .int t_rows])), (h1, .inl (cI, 72, .inl t_parts))] sz) (wk_Qi dC dI res [(h0, .inr (2, [.ref h1, .int t_rows])), (h1, .inl (cI, 72, .inl t_parts))] (va_A [(h0, .inr (2, [.ref h1, .int t_rows])), (h1, .inl (cI, 72, .inl t_parts))] sz)) 0 0 (va_A [(h0, .inr (2, [.ref h1, .int t_rows])), (h1, .inl (cI, 72, .inl t_parts))] sz) := by
  refine wk_met (Qc := fun A => wk_Qi dC dI res [(h0, .inr (2, [.ref h1, .int t_rows])), (h1, .inl (cI, 72, .inl t_parts))] A) (by decide) [.ref h0, .int x0] [(h0, .inr (2, [.ref h1, .int t_rows])), (h1, .inl (cI, 72, .inl t_parts))] sz (Nat.le_of_ble_eq_true rfl) (fun p e s m below meth c A ls K hP hD hS hl hin => ?_)
  have K : wk_X p s m ([.ref h0, .int x0] : List Value).toArray meth c b_M_has R_M 2 (some .boolean) dC dI cI cB cS tT A := K
  obtain ⟨hx, hb, hr, hml, hown, htl, hlk, hK, hZ, hT, hN, hA⟩ := id K
  have hl : lv_has ls 2 [(0, .ref h0), (1, .int x0)] := hl
  unfold r_M_has at h
  refine lv_iload_n hx hb d_M_has_0 rfl (lv_at hl 1 rfl) ?_
  refine lv_if_lt (tgt := 16) hx hb d_M_has_1 (by decide) (fun c3 => ?_) (fun c3 => ?_)
  · have h := wk_pos h c3
    refine lv_iconst (v := 0) hx hb d_M_has_16 (by decide) ?_
    cases h
    exact wk_zret K (Or.inl rfl) hP hS d_M_has_17
  · have h := wk_neg h c3
    refine lv_iload_n hx hb d_M_has_4 rfl (lv_at hl 1 rfl) ?_
    refine lv_aload_n hx hb d_M_has_5 rfl (lv_at hl 0 rfl) ?_
    refine va_get (D := (dC, dI)) (ci := 2) (v := .int t_rows) (C := R_M) (T := T_M) (N := 2) hx hb htl in_M hown hK hP 0 rfl rfl 1 (by decide) (htl _ mm_95) (fun _ h9 => h9) rfl d_M_has_6 ?_
    refine lv_icmp_ge (tgt := 16) hx hb d_M_has_9 (by decide) (fun c4 => ?_) (fun c4 => ?_)
    · have h := wk_pos h c4
      refine lv_iconst (v := 0) hx hb d_M_has_16 (by decide) ?_
      cases h
      exact wk_zret K (Or.inl rfl) hP hS d_M_has_17
    · have h := wk_neg h c4
      refine lv_iconst (v := 1) hx hb d_M_has_12 (by decide) ?_
      refine lv_goto (tgt := 17) hx hb d_M_has_13 (by decide) ?_
      cases h
      exact wk_zret K (Or.inr rfl) hP hS d_M_has_17
/-! DocumentFile$Marks.rows()I -/
abbrev rm_M_rows : Room := { frames := 0, cells := 0, slots := 0, locals := 0 }
set_option maxHeartbeats 4000000 in
set_option maxRecDepth 100000 in
theorem c_M_rows (l : Launch) (dC : Nat → ClassId) (dI : Nat → Nat → Nat) (cI cB cS : ClassId) (tT : Nat) (h0 h1 : Nat) (t_parts : Nat → Int32) (t_rows : Int32)   (sz : Nat) (res : Int32) (h : r_M_rows t_rows = some res) :
    Met l y_M_rows w_M_rows rm_M_rows (wk_Pre dC dI cI cB cS tT [.ref h0] [(h0, .inr (2, [.ref h1, .int t_rows])), (h1, .inl (cI, 72, .inl t_parts))] sz) (wk_Qi dC dI res [(h0, .inr (2, [.ref h1, .int t_rows])), (h1, .inl (cI, 72, .inl t_parts))] (va_A [(h0, .inr (2, [.ref h1, .int t_rows])), (h1, .inl (cI, 72, .inl t_parts))] sz)) 0 0 (va_A [(h0, .inr (2, [.ref h1, .int t_rows])), (h1, .inl (cI, 72, .inl t_parts))] sz) := by
  refine wk_met (Qc := fun A => wk_Qi dC dI res [(h0, .inr (2, [.ref h1, .int t_rows])), (h1, .inl (cI, 72, .inl t_parts))] A) (by decide) [.ref h0] [(h0, .inr (2, [.ref h1, .int t_rows])), (h1, .inl (cI, 72, .inl t_parts))] sz (Nat.le_of_ble_eq_true rfl) (fun p e s m below meth c A ls K hP hD hS hl hin => ?_)
  have K : wk_X p s m ([.ref h0] : List Value).toArray meth c b_M_rows R_M 1 (some .int) dC dI cI cB cS tT A := K
  obtain ⟨hx, hb, hr, hml, hown, htl, hlk, hK, hZ, hT, hN, hA⟩ := id K
  have hl : lv_has ls 1 [(0, .ref h0)] := hl
  unfold r_M_rows at h
  refine lv_aload_n hx hb d_M_rows_0 rfl (lv_at hl 0 rfl) ?_
  refine va_get (D := (dC, dI)) (ci := 2) (v := .int t_rows) (C := R_M) (T := T_M) (N := 2) hx hb htl in_M hown hK hP 0 rfl rfl 1 (by decide) (htl _ mm_95) (fun _ h9 => h9) rfl d_M_rows_1 ?_
  cases h
  exact wk_iret K hP hS d_M_rows_4
/-! DocumentFile$Marks.part(II)I -/
abbrev rm_M_part : Room := { frames := 1, cells := 0, slots := 0, locals := 21 }
set_option maxHeartbeats 4000000 in
set_option maxRecDepth 100000 in
theorem c_M_part (l : Launch) (dC : Nat → ClassId) (dI : Nat → Nat → Nat) (cI cB cS : ClassId) (tT : Nat) (h0 h1 : Nat) (t_parts : Nat → Int32) (t_rows : Int32) (x0 : Int32) (x1 : Int32)  (sz : Nat) (res : Int32) (h : r_M_part x0 x1 t_parts t_rows = some res) :
    Met l y_M_part w_M_part rm_M_part (wk_Pre dC dI cI cB cS tT [.ref h0, .int x0, .int x1] [(h0, .inr (2, [.ref h1, .int t_rows])), (h1, .inl (cI, 72, .inl t_parts))] sz) (wk_Qi dC dI res [(h0, .inr (2, [.ref h1, .int t_rows])), (h1, .inl (cI, 72, .inl t_parts))] (va_A [(h0, .inr (2, [.ref h1, .int t_rows])), (h1, .inl (cI, 72, .inl t_parts))] sz)) 0 0 (va_A [(h0, .inr (2, [.ref h1, .int t_rows])), (h1, .inl (cI, 72, .inl t_parts))] sz) := by
  refine wk_met (Qc := fun A => wk_Qi dC dI res [(h0, .inr (2, [.ref h1, .int t_rows])), (h1, .inl (cI, 72, .inl t_parts))] A) (by decide) [.ref h0, .int x0, .int x1] [(h0, .inr (2, [.ref h1, .int t_rows])), (h1, .inl (cI, 72, .inl t_parts))] sz (Nat.le_of_ble_eq_true rfl) (fun p e s m below meth c A ls K hP hD hS hl hin => ?_)
  have K : wk_X p s m ([.ref h0, .int x0, .int x1] : List Value).toArray meth c b_M_part R_M 3 (some .int) dC dI cI cB cS tT A := K
  obtain ⟨hx, hb, hr, hml, hown, htl, hlk, hK, hZ, hT, hN, hA⟩ := id K
  have hl : lv_has ls 3 [(0, .ref h0), (1, .int x0), (2, .int x1)] := hl
  unfold r_M_part at h
  refine lv_aload_n hx hb d_M_part_0 rfl (lv_at hl 0 rfl) ?_
  refine lv_iload_n hx hb d_M_part_1 rfl (lv_at hl 1 rfl) ?_
  obtain ⟨z6, hz6, h⟩ := wk_bind h
  refine wk_calli (wc := [(h0, .inr (2, [.ref h1, .int t_rows])), (h1, .inl (cI, 72, .inl t_parts))]) (wc' := [(h0, .inr (2, [.ref h1, .int t_rows])), (h1, .inl (cI, 72, .inl t_parts))]) K hP hD hS [0, 1] rfl rfl (va_runV (As := [.int x0]) (rest := []) ⟨hx, hb, hml, hown, htl⟩ (c_M_has l dC dI cI cB cS tT h0 h1 t_parts t_rows x0 _ z6 hz6) (cwV 1 htl g_M_23 rfl rfl rfl (by decide +kernel) ⟨Nat.le_of_ble_eq_true rfl, Nat.le_of_ble_eq_true rfl⟩) (wk_preV K hP hD hS [0, 1] rfl rfl rfl rfl) rfl rfl hl.1 rfl (lv_room (Nat.le_of_ble_eq_true rfl)) d_M_part_2 ⟨Nat.zero_le _, Nat.zero_le _⟩) (fun H locs hP hD hS => ?_)
  have hP : va_P (dC, dI) vwCl [(h0, .inr (2, [.ref h1, .int t_rows])), (h1, .inl (cI, 72, .inl t_parts))] H := hP
  have hD : va_D A [(h0, .inr (2, [.ref h1, .int t_rows])), (h1, .inl (cI, 72, .inl t_parts))] := hD
  refine lv_if_eq (tgt := 17) hx hb d_M_part_5 (by decide) (fun c7 => ?_) (fun c7 => ?_)
  · have h := wk_pos h c7
    refine lv_bipush (v := (-2)) hx hb d_M_part_17 (by decide) ?_
    cases h
    exact wk_iret K hP hS d_M_part_19
  · have h := wk_neg h c7
    refine lv_iload_n hx hb d_M_part_8 rfl (lv_at hl 2 rfl) ?_
    refine lv_if_lt (tgt := 17) hx hb d_M_part_9 (by decide) (fun c8 => ?_) (fun c8 => ?_)
    · have h := wk_pos h c8
      refine lv_bipush (v := (-2)) hx hb d_M_part_17 (by decide) ?_
      cases h
      exact wk_iret K hP hS d_M_part_19
    · have h := wk_neg h c8
      refine lv_iload_n hx hb d_M_part_12 rfl (lv_at hl 2 rfl) ?_
      refine lv_iconst (v := 3) hx hb d_M_part_13 (by decide) ?_
      refine lv_icmp_lt (tgt := 20) hx hb d_M_part_14 (by decide) (fun c9 => ?_) (fun c9 => ?_)
      · have h := wk_pos h c9
        refine lv_aload_n hx hb d_M_part_20 rfl (lv_at hl 0 rfl) ?_
        refine va_get (D := (dC, dI)) (ci := 2) (v := .ref h1) (C := R_M) (T := T_M) (N := 2) hx hb htl in_M hown hK hP 0 rfl rfl 0 (by decide) (htl _ mm_94) (fun _ h9 => h9) rfl d_M_part_21 ?_
        refine lv_iload_n hx hb d_M_part_24 rfl (lv_at hl 1 rfl) ?_
        refine lv_iconst (v := 3) hx hb d_M_part_25 (by decide) ?_
        refine lv_imul hx hb d_M_part_26 ?_
        refine lv_iload_n hx hb d_M_part_27 rfl (lv_at hl 2 rfl) ?_
        refine lv_iadd hx hb d_M_part_28 ?_
        obtain ⟨g10, h⟩ := gi_some h
        refine va_iald hx hb hK hP 1 0 rfl rfl g10 d_M_part_29 ?_
        cases h
        exact wk_iret K hP hS d_M_part_30
      · have h := wk_neg h c9
        refine lv_bipush (v := (-2)) hx hb d_M_part_17 (by decide) ?_
        cases h
        exact wk_iret K hP hS d_M_part_19
