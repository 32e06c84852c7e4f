/-! DocumentFile$PropertyRows.empty()V -/
abbrev rm_P_empty : Room := { frames := 0, cells := 0, slots := 0, locals := 0 }
set_option maxHeartbeats 4000000 in
set_option maxRecDepth 100000 in
theorem c_P_empty (l : Launch) (dC : Nat → ClassId) (dI : Nat → Nat → Nat) (cI cB cS : ClassId) (tT : Nat) (h0 h1 : Nat) (t_most : Int32) (t_values_n : Nat) (t_values : Nat → Int32) (t_rows : Int32)   (sz : Nat) (res : Int32) (h : r_P_empty t_rows = some res) :
    Met l y_P_empty w_P_empty rm_P_empty (wk_Pre dC dI cI cB cS tT [.ref h0] [(h0, .inr (4, [.int t_most, .ref h1, .int t_rows])), (h1, .inl (cI, t_values_n, .inl t_values))] sz) (wk_Qv dC dI [(h0, .inr (4, [.int t_most, .ref h1, .int res])), (h1, .inl (cI, t_values_n, .inl t_values))] (va_A [(h0, .inr (4, [.int t_most, .ref h1, .int t_rows])), (h1, .inl (cI, t_values_n, .inl t_values))] sz)) 0 0 (va_A [(h0, .inr (4, [.int t_most, .ref h1, .int t_rows])), (h1, .inl (cI, t_values_n, .inl t_values))] sz) := by
  refine wk_met (Qc := fun A => wk_Qv dC dI [(h0, .inr (4, [.int t_most, .ref h1, .int res])), (h1, .inl (cI, t_values_n, .inl t_values))] A) (by decide) [.ref h0] [(h0, .inr (4, [.int t_most, .ref h1, .int t_rows])), (h1, .inl (cI, t_values_n, .inl t_values))] sz (Nat.le_of_ble_eq_true rfl) (fun p e s m below meth c A ls K hP hD hS hl hin => ?_)
  have K : wk_X p s m ([.ref h0] : List Value).toArray meth c b_P_empty R_P 1 none dC dI cI cB cS tT A := K
  obtain ⟨hx, hb, hr, hml, hown, htl, hlk, hK, hZ, hT, hN, hA⟩ := id K
  have hl : lv_has ls 1 [(0, .ref h0)] := hl
  unfold r_P_empty at h
  refine lv_aload_n hx hb d_P_empty_0 rfl (lv_at hl 0 rfl) ?_
  refine lv_iconst (v := 0) hx hb d_P_empty_1 (by decide) ?_
  refine va_put (D := (dC, dI)) (ci := 4) (v := .int 0) (ty := .int) (C := R_P) (T := T_P) (N := 3) hx hb htl in_P ty_P tyok_P nmok_P hown hK hP hD hS 0 rfl rfl 2 (by decide) (htl _ mm_79) (fun _ h9 => h9) rfl (by decide +kernel) rfl rfl (Nat.le_of_ble_eq_true rfl) d_P_empty_2 (fun H locs hP hD hS => ?_)
  have hP : va_P (dC, dI) vwCl [(h0, .inr (4, [.int t_most, .ref h1, .int 0])), (h1, .inl (cI, t_values_n, .inl t_values))] H := hP
  have hD : va_D A [(h0, .inr (4, [.int t_most, .ref h1, .int 0])), (h1, .inl (cI, t_values_n, .inl t_values))] := hD
  cases h
  exact wk_vret K hP hS d_P_empty_5
/-! DocumentFile$PropertyRows.has(I)Z -/
abbrev rm_P_has : Room := { frames := 0, cells := 0, slots := 0, locals := 0 }
set_option maxHeartbeats 4000000 in
set_option maxRecDepth 100000 in
theorem c_P_has (l : Launch) (dC : Nat → ClassId) (dI : Nat → Nat → Nat) (cI cB cS : ClassId) (tT : Nat) (h0 h1 : Nat) (t_most : Int32) (t_values_n : Nat) (t_values : Nat → Int32) (t_rows : Int32) (x0 : Int32)  (sz : Nat) (res : Int32) (h : r_P_has x0 t_rows = some res) :
    Met l y_P_has w_P_has rm_P_has (wk_Pre dC dI cI cB cS tT [.ref h0, .int x0] [(h0, .inr (4, [.int t_most, .ref h1, .int t_rows])), (h1, .inl (cI, t_values_n, .inl t_values))] sz) (wk_Qi dC dI res [(h0, .inr (4, [.int t_most, .ref h1, .int t_rows])), (h1, .inl (cI, t_values_n, .inl t_values))] (va_A [(h0, .inr (4, [.int t_most, .ref h1, .int t_rows])), (h1, .inl (cI, t_values_n, .inl t_values))] sz)) 0 0 (va_A [(h0, .inr (4, [.int t_most, .ref h1, .int t_rows])), (h1, .inl (cI, t_values_n, .inl t_values))] sz) := by
  refine wk_met (Qc := fun A => wk_Qi dC dI res [(h0, .inr (4, [.int t_most, .ref h1, .int t_rows])), (h1, .inl (cI, t_values_n, .inl t_values))] A) (by decide) [.ref h0, .int x0] [(h0, .inr (4, [.int t_most, .ref h1, .int t_rows])), (h1, .inl (cI, t_values_n, .inl t_values))] sz (Nat.le_of_ble_eq_true rfl) (fun p e s m below meth c A ls K hP hD hS hl hin => ?_)
  have K : wk_X p s m ([.ref h0, .int x0] : List Value).toArray meth c b_P_has R_P 2 (some .boolean) dC dI cI cB cS tT A := K
  obtain ⟨hx, hb, hr, hml, hown, htl, hlk, hK, hZ, hT, hN, hA⟩ := id K
  have hl : lv_has ls 2 [(0, .ref h0), (1, .int x0)] := hl
  unfold r_P_has at h
  refine lv_iload_n hx hb d_P_has_0 rfl (lv_at hl 1 rfl) ?_
  refine lv_if_lt (tgt := 16) hx hb d_P_has_1 (by decide) (fun c3 => ?_) (fun c3 => ?_)
  · have h := wk_pos h c3
    refine lv_iconst (v := 0) hx hb d_P_has_16 (by decide) ?_
    cases h
    exact wk_zret K (Or.inl rfl) hP hS d_P_has_17
  · have h := wk_neg h c3
    refine lv_iload_n hx hb d_P_has_4 rfl (lv_at hl 1 rfl) ?_
    refine lv_aload_n hx hb d_P_has_5 rfl (lv_at hl 0 rfl) ?_
    refine va_get (D := (dC, dI)) (ci := 4) (v := .int t_rows) (C := R_P) (T := T_P) (N := 3) hx hb htl in_P hown hK hP 0 rfl rfl 2 (by decide) (htl _ mm_79) (fun _ h9 => h9) rfl d_P_has_6 ?_
    refine lv_icmp_ge (tgt := 16) hx hb d_P_has_9 (by decide) (fun c4 => ?_) (fun c4 => ?_)
    · have h := wk_pos h c4
      refine lv_iconst (v := 0) hx hb d_P_has_16 (by decide) ?_
      cases h
      exact wk_zret K (Or.inl rfl) hP hS d_P_has_17
    · have h := wk_neg h c4
      refine lv_iconst (v := 1) hx hb d_P_has_12 (by decide) ?_
      refine lv_goto (tgt := 17) hx hb d_P_has_13 (by decide) ?_
      cases h
      exact wk_zret K (Or.inr rfl) hP hS d_P_has_17
/-! DocumentFile$PropertyRows.add()I -/
abbrev rm_P_add : Room := { frames := 0, cells := 0, slots := 0, locals := 0 }
set_option maxHeartbeats 4000000 in
set_option maxRecDepth 100000 in
theorem tl_P_add_15 {p : Program} {l : Launch} {e : Env} {s : State} {m : MethodId} {args : Array Value} {below : List Frame} {meth : Method} {c : Code} {dC : Nat → ClassId} {dI : Nat → Nat → Nat} {cI cB cS : ClassId} {tT : Nat} {A : Nat → Prop} {h0 h1 : Nat} (K : wk_X p s m args meth c b_P_add R_P 2 (some .int) dC dI cI cB cS tT A) (N : Nat) (t_most : Int32) (t_values_n : Nat) (t_rows : Int32) (res : Int32 × (Nat → Int32) × Int32)   : ∀ (n : Nat) (y1 : Int32) (t_values : Nat → Int32), l_P_add_15 N t_most t_values_n t_rows n y1 t_values = some res → ∀ (H : Heap) (locs : List Loc) (ls : Array Slot), va_P (dC, dI) vwCl [(h0, .inr (4, [.int t_most, .ref h1, .int t_rows])), (h1, .inl (cI, t_values_n, .inl t_values))] H → va_D A [(h0, .inr (4, [.int t_most, .ref h1, .int t_rows])), (h1, .inl (cI, t_values_n, .inl t_values))] → va_S A s.heap H locs → lv_has ls 2 [(0, .ref h0), (1, .int y1)] → W p l e rm_P_add s m args below meth c H locs 0 0 (MQ below (wk_Qi dC dI res.1 [(h0, .inr (4, [.int t_most, .ref h1, .int res.2.2])), (h1, .inl (cI, t_values_n, .inl res.2.1))] A) args s 0 0 A) (F0 m 15 ls []) := by
  obtain ⟨hx, hb, hr, hml, hown, htl, hlk, hK, hZ, hT, hN, hA⟩ := id K
  intro n
  induction n with
  | zero =>
    intro y1 t_values h
    rw [l_P_add_15] at h
    cases h
  | succ n ih =>
    intro y1 t_values h H locs ls hP hD hS hl
    rw [l_P_add_15] at h
    refine lv_iload_n hx hb d_P_add_15 rfl (lv_at hl 1 rfl) ?_
    refine lv_bipush (v := 24) hx hb d_P_add_16 (by decide) ?_
    refine lv_icmp_ge (tgt := 42) hx hb d_P_add_18 (by decide) (fun c4 => ?_) (fun c4 => ?_)
    · have h := wk_pos h c4
      refine lv_aload_n hx hb d_P_add_42 rfl (lv_at hl 0 rfl) ?_
      refine lv_dup hx hb d_P_add_43 rfl ?_
      refine va_get (D := (dC, dI)) (ci := 4) (v := .int t_rows) (C := R_P) (T := T_P) (N := 3) hx hb htl in_P hown hK hP 0 rfl rfl 2 (by decide) (htl _ mm_79) (fun _ h9 => h9) rfl d_P_add_44 ?_
      refine lv_iconst (v := 1) hx hb d_P_add_47 (by decide) ?_
      refine lv_iadd hx hb d_P_add_48 ?_
      refine va_put (D := (dC, dI)) (ci := 4) (v := .int (t_rows + 1)) (ty := .int) (C := R_P) (T := T_P) (N := 3) hx hb htl in_P ty_P tyok_P nmok_P hown hK hP hD hS 0 rfl rfl 2 (by decide) (htl _ mm_79) (fun _ h9 => h9) rfl (by decide +kernel) rfl rfl (Nat.le_of_ble_eq_true rfl) d_P_add_49 (fun H locs hP hD hS => ?_)
      have hP : va_P (dC, dI) vwCl [(h0, .inr (4, [.int t_most, .ref h1, .int (t_rows + 1)])), (h1, .inl (cI, t_values_n, .inl t_values))] H := hP
      have hD : va_D A [(h0, .inr (4, [.int t_most, .ref h1, .int (t_rows + 1)])), (h1, .inl (cI, t_values_n, .inl t_values))] := hD
      refine lv_aload_n hx hb d_P_add_52 rfl (lv_at hl 0 rfl) ?_
      refine va_get (D := (dC, dI)) (ci := 4) (v := .int (t_rows + 1)) (C := R_P) (T := T_P) (N := 3) hx hb htl in_P hown hK hP 0 rfl rfl 2 (by decide) (htl _ mm_79) (fun _ h9 => h9) rfl d_P_add_53 ?_
      refine lv_iconst (v := 1) hx hb d_P_add_56 (by decide) ?_
      refine lv_isub hx hb d_P_add_57 ?_
      cases h
      exact wk_iret K hP hS d_P_add_58
    · have h := wk_neg h c4
      refine lv_aload_n hx hb d_P_add_21 rfl (lv_at hl 0 rfl) ?_
      refine va_get (D := (dC, dI)) (ci := 4) (v := .ref h1) (C := R_P) (T := T_P) (N := 3) hx hb htl in_P hown hK hP 0 rfl rfl 1 (by decide) (htl _ mm_78) (fun _ h9 => h9) rfl d_P_add_22 ?_
      refine lv_aload_n hx hb d_P_add_25 rfl (lv_at hl 0 rfl) ?_
      refine va_get (D := (dC, dI)) (ci := 4) (v := .int t_rows) (C := R_P) (T := T_P) (N := 3) hx hb htl in_P hown hK hP 0 rfl rfl 2 (by decide) (htl _ mm_79) (fun _ h9 => h9) rfl d_P_add_26 ?_
      refine lv_bipush (v := 24) hx hb d_P_add_29 (by decide) ?_
      refine lv_imul hx hb d_P_add_31 ?_
      refine lv_iload_n hx hb d_P_add_32 rfl (lv_at hl 1 rfl) ?_
      refine lv_iadd hx hb d_P_add_33 ?_
      refine lv_iconst (v := (-1)) hx hb d_P_add_34 (by decide) ?_
      obtain ⟨g5, h⟩ := gi_some h
      refine va_iast hx hb hK hP hD hS 1 0 rfl rfl g5 d_P_add_35 (fun H locs hP hD hS => ?_)
      have hP : va_P (dC, dI) vwCl [(h0, .inr (4, [.int t_most, .ref h1, .int t_rows])), (h1, .inl (cI, t_values_n, .inl (upd t_values ((t_rows * 24) + y1).toNatClampNeg (-1))))] H := hP
      have hD : va_D A [(h0, .inr (4, [.int t_most, .ref h1, .int t_rows])), (h1, .inl (cI, t_values_n, .inl (upd t_values ((t_rows * 24) + y1).toNatClampNeg (-1))))] := hD
      refine lv_iinc (v := (y1 + 1)) (lv' := [(1, .int (y1 + 1)), (0, .ref h0)]) hx hb d_P_add_36 hl (k := 1) rfl rfl (by decide) rfl (fun ls hl => ?_)
      refine lv_goto (tgt := 15) hx hb d_P_add_39 (by decide) ?_
      exact ih (y1 + 1) (upd t_values ((t_rows * 24) + y1).toNatClampNeg (-1)) h _ _ _ hP hD hS (lv_sub hl [1, 0] rfl)
set_option maxHeartbeats 4000000 in
set_option maxRecDepth 100000 in
theorem c_P_add (l : Launch) (dC : Nat → ClassId) (dI : Nat → Nat → Nat) (cI cB cS : ClassId) (tT : Nat) (h0 h1 : Nat) (t_most : Int32) (t_values_n : Nat) (t_values : Nat → Int32) (t_rows : Int32)  (N : Nat) (sz : Nat) (res : Int32 × (Nat → Int32) × Int32) (h : r_P_add N t_most t_values_n t_values t_rows = some res) :
    Met l y_P_add w_P_add rm_P_add (wk_Pre dC dI cI cB cS tT [.ref h0] [(h0, .inr (4, [.int t_most, .ref h1, .int t_rows])), (h1, .inl (cI, t_values_n, .inl t_values))] sz) (wk_Qi dC dI res.1 [(h0, .inr (4, [.int t_most, .ref h1, .int res.2.2])), (h1, .inl (cI, t_values_n, .inl res.2.1))] (va_A [(h0, .inr (4, [.int t_most, .ref h1, .int t_rows])), (h1, .inl (cI, t_values_n, .inl t_values))] sz)) 0 0 (va_A [(h0, .inr (4, [.int t_most, .ref h1, .int t_rows])), (h1, .inl (cI, t_values_n, .inl t_values))] sz) := by
  refine wk_met (Qc := fun A => wk_Qi dC dI res.1 [(h0, .inr (4, [.int t_most, .ref h1, .int res.2.2])), (h1, .inl (cI, t_values_n, .inl res.2.1))] A) (by decide) [.ref h0] [(h0, .inr (4, [.int t_most, .ref h1, .int t_rows])), (h1, .inl (cI, t_values_n, .inl t_values))] sz (Nat.le_of_ble_eq_true rfl) (fun p e s m below meth c A ls K hP hD hS hl hin => ?_)
  have K : wk_X p s m ([.ref h0] : List Value).toArray meth c b_P_add R_P 2 (some .int) dC dI cI cB cS tT A := K
  obtain ⟨hx, hb, hr, hml, hown, htl, hlk, hK, hZ, hT, hN, hA⟩ := id K
  have hl : lv_has ls 2 [(0, .ref h0)] := hl
  unfold r_P_add at h
  refine lv_aload_n hx hb d_P_add_0 rfl (lv_at hl 0 rfl) ?_
  refine va_get (D := (dC, dI)) (ci := 4) (v := .int t_rows) (C := R_P) (T := T_P) (N := 3) hx hb htl in_P hown hK hP 0 rfl rfl 2 (by decide) (htl _ mm_79) (fun _ h9 => h9) rfl d_P_add_1 ?_
  refine lv_aload_n hx hb d_P_add_4 rfl (lv_at hl 0 rfl) ?_
  refine va_get (D := (dC, dI)) (ci := 4) (v := .int t_most) (C := R_P) (T := T_P) (N := 3) hx hb htl in_P hown hK hP 0 rfl rfl 0 (by decide) (htl _ mm_77) (fun _ h9 => h9) rfl d_P_add_5 ?_
  refine lv_icmp_lt (tgt := 13) hx hb d_P_add_8 (by decide) (fun c6 => ?_) (fun c6 => ?_)
  · have h := wk_pos h c6
    refine lv_iconst (v := 0) hx hb d_P_add_13 (by decide) ?_
    refine lv_istore_n (lv' := [(1, .int 0), (0, .ref h0)]) hx hb d_P_add_14 rfl hl (by decide) rfl (fun ls hl => ?_)
    exact tl_P_add_15 K N t_most t_values_n t_rows res N 0 t_values h _ _ _ hP hD hS (lv_sub hl [1, 0] rfl)
  · have h := wk_neg h c6
    refine lv_iconst (v := (-1)) hx hb d_P_add_11 (by decide) ?_
    cases h
    exact wk_iret K hP hS d_P_add_12
/-! DocumentFile$PropertyRows.mostOf(I)I -/
abbrev rm_P_mostOf : Room := { frames := 0, cells := 0, slots := 0, locals := 0 }
set_option maxHeartbeats 4000000 in
set_option maxRecDepth 100000 in
theorem c_P_mostOf (l : Launch) (dC : Nat → ClassId) (dI : Nat → Nat → Nat) (cI cB cS : ClassId) (tT : Nat)   (x0 : Int32)  (sz : Nat) (res : Int32) (h : r_P_mostOf x0 = some res) :
    Met l y_P_mostOf w_P_mostOf rm_P_mostOf (wk_Pre dC dI cI cB cS tT [.int x0] [] sz) (wk_Qi dC dI res [] (va_A [] sz)) 0 0 (va_A [] sz) := by
  refine wk_met (Qc := fun A => wk_Qi dC dI res [] A) (by decide) [.int x0] [] sz (Nat.le_of_ble_eq_true rfl) (fun p e s m below meth c A ls K hP hD hS hl hin => ?_)
  have K : wk_X p s m ([.int x0] : List Value).toArray meth c b_P_mostOf R_P 1 (some .int) dC dI cI cB cS tT A := K
  obtain ⟨hx, hb, hr, hml, hown, htl, hlk, hK, hZ, hT, hN, hA⟩ := id K
  have hl : lv_has ls 1 [(0, .int x0)] := hl
  unfold r_P_mostOf at h
  refine lv_iload_n hx hb d_P_mostOf_0 rfl (lv_at hl 0 rfl) ?_
  refine lv_bipush (v := 8) hx hb d_P_mostOf_1 (by decide) ?_
  refine lv_icmp_ge (tgt := 10) hx hb d_P_mostOf_3 (by decide) (fun c3 => ?_) (fun c3 => ?_)
  · have h := wk_pos h c3
    refine lv_iload_n hx hb d_P_mostOf_10 rfl (lv_at hl 0 rfl) ?_
    refine lv_bipush (v := 16) hx hb d_P_mostOf_11 (by decide) ?_
    refine lv_icmp_ge (tgt := 22) hx hb d_P_mostOf_13 (by decide) (fun c4 => ?_) (fun c4 => ?_)
    · have h := wk_pos h c4
      refine lv_ldc (v := 65535) hx hb hown (htl _ mm_271) d_P_mostOf_22 ?_
      cases h
      exact wk_iret K hP hS d_P_mostOf_24
    · have h := wk_neg h c4
      refine lv_sipush (v := 255) hx hb d_P_mostOf_16 (by decide) ?_
      refine lv_goto (tgt := 24) hx hb d_P_mostOf_19 (by decide) ?_
      cases h
      exact wk_iret K hP hS d_P_mostOf_24
  · have h := wk_neg h c3
    refine lv_iconst (v := 1) hx hb d_P_mostOf_6 (by decide) ?_
    refine lv_goto (tgt := 24) hx hb d_P_mostOf_7 (by decide) ?_
    cases h
    exact wk_iret K hP hS d_P_mostOf_24
/-! DocumentFile$PropertyRows.put(III)Z -/
abbrev rm_P_put : Room := { frames := 1, cells := 0, slots := 0, locals := 21 }
set_option maxHeartbeats 4000000 in
set_option maxRecDepth 100000 in
theorem c_P_put (l : Launch) (dC : Nat → ClassId) (dI : Nat → Nat → Nat) (cI cB cS : ClassId) (tT : Nat) (h0 h1 : Nat) (t_most : Int32) (t_values_n : Nat) (t_values : Nat → Int32) (t_rows : Int32) (x0 : Int32) (x1 : Int32) (x2 : Int32)  (sz : Nat) (res : Int32 × (Nat → Int32)) (h : r_P_put x0 x1 x2 t_values_n t_values t_rows = some res) :
    Met l y_P_put w_P_put rm_P_put (wk_Pre dC dI cI cB cS tT [.ref h0, .int x0, .int x1, .int x2] [(h0, .inr (4, [.int t_most, .ref h1, .int t_rows])), (h1, .inl (cI, t_values_n, .inl t_values))] sz) (wk_Qi dC dI res.1 [(h0, .inr (4, [.int t_most, .ref h1, .int t_rows])), (h1, .inl (cI, t_values_n, .inl res.2))] (va_A [(h0, .inr (4, [.int t_most, .ref h1, .int t_rows])), (h1, .inl (cI, t_values_n, .inl t_values))] sz)) 0 0 (va_A [(h0, .inr (4, [.int t_most, .ref h1, .int t_rows])), (h1, .inl (cI, t_values_n, .inl t_values))] sz) := by
  refine wk_met (Qc := fun A => wk_Qi dC dI res.1 [(h0, .inr (4, [.int t_most, .ref h1, .int t_rows])), (h1, .inl (cI, t_values_n, .inl res.2))] A) (by decide) [.ref h0, .int x0, .int x1, .int x2] [(h0, .inr (4, [.int t_most, .ref h1, .int t_rows])), (h1, .inl (cI, t_values_n, .inl t_values))] sz (Nat.le_of_ble_eq_true rfl) (fun p e s m below meth c A ls K hP hD hS hl hin => ?_)
  have K : wk_X p s m ([.ref h0, .int x0, .int x1, .int x2] : List Value).toArray meth c b_P_put R_P 4 (some .boolean) dC dI cI cB cS tT A := K
  obtain ⟨hx, hb, hr, hml, hown, htl, hlk, hK, hZ, hT, hN, hA⟩ := id K
  have hl : lv_has ls 4 [(0, .ref h0), (1, .int x0), (2, .int x1), (3, .int x2)] := hl
  unfold r_P_put at h
  refine lv_aload_n hx hb d_P_put_0 rfl (lv_at hl 0 rfl) ?_
  refine lv_iload_n hx hb d_P_put_1 rfl (lv_at hl 1 rfl) ?_
  obtain ⟨z9, hz9, h⟩ := wk_bind h
  refine wk_calli (wc := [(h0, .inr (4, [.int t_most, .ref h1, .int t_rows])), (h1, .inl (cI, t_values_n, .inl t_values))]) (wc' := [(h0, .inr (4, [.int t_most, .ref h1, .int t_rows])), (h1, .inl (cI, t_values_n, .inl t_values))]) K hP hD hS [0, 1] rfl rfl (va_runV (As := [.int x0]) (rest := []) ⟨hx, hb, hml, hown, htl⟩ (c_P_has l dC dI cI cB cS tT h0 h1 t_most t_values_n t_values t_rows x0 _ z9 hz9) (cwV 1 htl g_P_23 rfl rfl rfl (by decide +kernel) ⟨Nat.le_of_ble_eq_true rfl, Nat.le_of_ble_eq_true rfl⟩) (wk_preV K hP hD hS [0, 1] rfl rfl rfl rfl) rfl rfl hl.1 rfl (lv_room (Nat.le_of_ble_eq_true rfl)) d_P_put_2 ⟨Nat.zero_le _, Nat.zero_le _⟩) (fun H locs hP hD hS => ?_)
  have hP : va_P (dC, dI) vwCl [(h0, .inr (4, [.int t_most, .ref h1, .int t_rows])), (h1, .inl (cI, t_values_n, .inl t_values))] H := hP
  have hD : va_D A [(h0, .inr (4, [.int t_most, .ref h1, .int t_rows])), (h1, .inl (cI, t_values_n, .inl t_values))] := hD
  refine lv_if_eq (tgt := 18) hx hb d_P_put_5 (by decide) (fun c10 => ?_) (fun c10 => ?_)
  · have h := wk_pos h c10
    refine lv_iconst (v := 0) hx hb d_P_put_18 (by decide) ?_
    cases h
    exact wk_zret K (Or.inl rfl) hP hS d_P_put_19
  · have h := wk_neg h c10
    refine lv_iload_n hx hb d_P_put_8 rfl (lv_at hl 2 rfl) ?_
    refine lv_if_lt (tgt := 18) hx hb d_P_put_9 (by decide) (fun c11 => ?_) (fun c11 => ?_)
    · have h := wk_pos h c11
      refine lv_iconst (v := 0) hx hb d_P_put_18 (by decide) ?_
      cases h
      exact wk_zret K (Or.inl rfl) hP hS d_P_put_19
    · have h := wk_neg h c11
      refine lv_iload_n hx hb d_P_put_12 rfl (lv_at hl 2 rfl) ?_
      refine lv_bipush (v := 24) hx hb d_P_put_13 (by decide) ?_
      refine lv_icmp_lt (tgt := 20) hx hb d_P_put_15 (by decide) (fun c12 => ?_) (fun c12 => ?_)
      · have h := wk_pos h c12
        refine lv_iload_n hx hb d_P_put_20 rfl (lv_at hl 3 rfl) ?_
        refine lv_iconst (v := (-1)) hx hb d_P_put_21 (by decide) ?_
        refine lv_icmp_lt (tgt := 33) hx hb d_P_put_22 (by decide) (fun c13 => ?_) (fun c13 => ?_)
        · have h := wk_pos h c13
          refine lv_iconst (v := 0) hx hb d_P_put_33 (by decide) ?_
          cases h
          exact wk_zret K (Or.inl rfl) hP hS d_P_put_34
        · have h := wk_neg h c13
          refine lv_iload_n hx hb d_P_put_25 rfl (lv_at hl 3 rfl) ?_
          refine lv_iload_n hx hb d_P_put_26 rfl (lv_at hl 2 rfl) ?_
          obtain ⟨z14, hz14, h⟩ := wk_bind h
          refine wk_calli (wc := []) (wc' := []) K hP hD hS [] rfl rfl (va_runS (As := [.int x1]) (rest := [.int x2]) ⟨hx, hb, hml, hown, htl⟩ (c_P_mostOf l dC dI cI cB cS tT x1 _ z14 hz14) (va_cwS 1 htl g_P_27 rfl rfl rfl (by decide +kernel) ⟨Nat.le_of_ble_eq_true rfl, Nat.le_of_ble_eq_true rfl⟩) (wk_preS K hP hD hS [] rfl rfl) rfl rfl hl.1 rfl (lv_room (Nat.le_of_ble_eq_true rfl)) d_P_put_27 ⟨Nat.zero_le _, Nat.zero_le _⟩) (fun H locs hP hD hS => ?_)
          refine lv_icmp_le (tgt := 35) hx hb d_P_put_30 (by decide) (fun c15 => ?_) (fun c15 => ?_)
          · have h := wk_pos h c15
            refine lv_aload_n hx hb d_P_put_35 rfl (lv_at hl 0 rfl) ?_
            refine va_get (D := (dC, dI)) (ci := 4) (v := .ref h1) (C := R_P) (T := T_P) (N := 3) hx hb htl in_P hown hK hP 0 rfl rfl 1 (by decide) (htl _ mm_78) (fun _ h9 => h9) rfl d_P_put_36 ?_
            refine lv_iload_n hx hb d_P_put_39 rfl (lv_at hl 1 rfl) ?_
            refine lv_bipush (v := 24) hx hb d_P_put_40 (by decide) ?_
            refine lv_imul hx hb d_P_put_42 ?_
            refine lv_iload_n hx hb d_P_put_43 rfl (lv_at hl 2 rfl) ?_
            refine lv_iadd hx hb d_P_put_44 ?_
            refine lv_iload_n hx hb d_P_put_45 rfl (lv_at hl 3 rfl) ?_
            obtain ⟨g16, h⟩ := gi_some h
            refine va_iast hx hb hK hP hD hS 1 0 rfl rfl g16 d_P_put_46 (fun H locs hP hD hS => ?_)
            have hP : va_P (dC, dI) vwCl [(h0, .inr (4, [.int t_most, .ref h1, .int t_rows])), (h1, .inl (cI, t_values_n, .inl (upd t_values ((x0 * 24) + x1).toNatClampNeg x2)))] H := hP
            have hD : va_D A [(h0, .inr (4, [.int t_most, .ref h1, .int t_rows])), (h1, .inl (cI, t_values_n, .inl (upd t_values ((x0 * 24) + x1).toNatClampNeg x2)))] := hD
            refine lv_iconst (v := 1) hx hb d_P_put_47 (by decide) ?_
            cases h
            exact wk_zret K (Or.inr rfl) hP hS d_P_put_48
          · have h := wk_neg h c15
            refine lv_iconst (v := 0) hx hb d_P_put_33 (by decide) ?_
            cases h
            exact wk_zret K (Or.inl rfl) hP hS d_P_put_34
      · have h := wk_neg h c12
        refine lv_iconst (v := 0) hx hb d_P_put_18 (by decide) ?_
        cases h
        exact wk_zret K (Or.inl rfl) hP hS d_P_put_19
/-! DocumentFile$PropertyRows.rows()I -/
abbrev rm_P_rows : Room := { frames := 0, cells := 0, slots := 0, locals := 0 }
set_option maxHeartbeats 4000000 in
set_option maxRecDepth 100000 in
theorem c_P_rows (l : Launch) (dC : Nat → ClassId) (dI : Nat → Nat → Nat) (cI cB cS : ClassId) (tT : Nat) (h0 h1 : Nat) (t_most : Int32) (t_values_n : Nat) (t_values : Nat → Int32) (t_rows : Int32)   (sz : Nat) (res : Int32) (h : r_P_rows t_rows = some res) :
    Met l y_P_rows w_P_rows rm_P_rows (wk_Pre dC dI cI cB cS tT [.ref h0] [(h0, .inr (4, [.int t_most, .ref h1, .int t_rows])), (h1, .inl (cI, t_values_n, .inl t_values))] sz) (wk_Qi dC dI res [(h0, .inr (4, [.int t_most, .ref h1, .int t_rows])), (h1, .inl (cI, t_values_n, .inl t_values))] (va_A [(h0, .inr (4, [.int t_most, .ref h1, .int t_rows])), (h1, .inl (cI, t_values_n, .inl t_values))] sz)) 0 0 (va_A [(h0, .inr (4, [.int t_most, .ref h1, .int t_rows])), (h1, .inl (cI, t_values_n, .inl t_values))] sz) := by
  refine wk_met (Qc := fun A => wk_Qi dC dI res [(h0, .inr (4, [.int t_most, .ref h1, .int t_rows])), (h1, .inl (cI, t_values_n, .inl t_values))] A) (by decide) [.ref h0] [(h0, .inr (4, [.int t_most, .ref h1, .int t_rows])), (h1, .inl (cI, t_values_n, .inl t_values))] sz (Nat.le_of_ble_eq_true rfl) (fun p e s m below meth c A ls K hP hD hS hl hin => ?_)
  have K : wk_X p s m ([.ref h0] : List Value).toArray meth c b_P_rows R_P 1 (some .int) dC dI cI cB cS tT A := K
  obtain ⟨hx, hb, hr, hml, hown, htl, hlk, hK, hZ, hT, hN, hA⟩ := id K
  have hl : lv_has ls 1 [(0, .ref h0)] := hl
  unfold r_P_rows at h
  refine lv_aload_n hx hb d_P_rows_0 rfl (lv_at hl 0 rfl) ?_
  refine va_get (D := (dC, dI)) (ci := 4) (v := .int t_rows) (C := R_P) (T := T_P) (N := 3) hx hb htl in_P hown hK hP 0 rfl rfl 2 (by decide) (htl _ mm_79) (fun _ h9 => h9) rfl d_P_rows_1 ?_
  cases h
  exact wk_iret K hP hS d_P_rows_4
/-! DocumentFile$PropertyRows.get(II)I -/
abbrev rm_P_get : Room := { frames := 1, cells := 0, slots := 0, locals := 21 }
set_option maxHeartbeats 4000000 in
set_option maxRecDepth 100000 in
theorem c_P_get (l : Launch) (dC : Nat → ClassId) (dI : Nat → Nat → Nat) (cI cB cS : ClassId) (tT : Nat) (h0 h1 : Nat) (t_most : Int32) (t_values_n : Nat) (t_values : Nat → Int32) (t_rows : Int32) (x0 : Int32) (x1 : Int32)  (sz : Nat) (res : Int32) (h : r_P_get x0 x1 t_values_n t_values t_rows = some res) :
    Met l y_P_get w_P_get rm_P_get (wk_Pre dC dI cI cB cS tT [.ref h0, .int x0, .int x1] [(h0, .inr (4, [.int t_most, .ref h1, .int t_rows])), (h1, .inl (cI, t_values_n, .inl t_values))] sz) (wk_Qi dC dI res [(h0, .inr (4, [.int t_most, .ref h1, .int t_rows])), (h1, .inl (cI, t_values_n, .inl t_values))] (va_A [(h0, .inr (4, [.int t_most, .ref h1, .int t_rows])), (h1, .inl (cI, t_values_n, .inl t_values))] sz)) 0 0 (va_A [(h0, .inr (4, [.int t_most, .ref h1, .int t_rows])), (h1, .inl (cI, t_values_n, .inl t_values))] sz) := by
  refine wk_met (Qc := fun A => wk_Qi dC dI res [(h0, .inr (4, [.int t_most, .ref h1, .int t_rows])), (h1, .inl (cI, t_values_n, .inl t_values))] A) (by decide) [.ref h0, .int x0, .int x1] [(h0, .inr (4, [.int t_most, .ref h1, .int t_rows])), (h1, .inl (cI, t_values_n, .inl t_values))] sz (Nat.le_of_ble_eq_true rfl) (fun p e s m below meth c A ls K hP hD hS hl hin => ?_)
  have K : wk_X p s m ([.ref h0, .int x0, .int x1] : List Value).toArray meth c b_P_get R_P 3 (some .int) dC dI cI cB cS tT A := K
  obtain ⟨hx, hb, hr, hml, hown, htl, hlk, hK, hZ, hT, hN, hA⟩ := id K
  have hl : lv_has ls 3 [(0, .ref h0), (1, .int x0), (2, .int x1)] := hl
  unfold r_P_get at h
  refine lv_aload_n hx hb d_P_get_0 rfl (lv_at hl 0 rfl) ?_
  refine lv_iload_n hx hb d_P_get_1 rfl (lv_at hl 1 rfl) ?_
  obtain ⟨z6, hz6, h⟩ := wk_bind h
  refine wk_calli (wc := [(h0, .inr (4, [.int t_most, .ref h1, .int t_rows])), (h1, .inl (cI, t_values_n, .inl t_values))]) (wc' := [(h0, .inr (4, [.int t_most, .ref h1, .int t_rows])), (h1, .inl (cI, t_values_n, .inl t_values))]) K hP hD hS [0, 1] rfl rfl (va_runV (As := [.int x0]) (rest := []) ⟨hx, hb, hml, hown, htl⟩ (c_P_has l dC dI cI cB cS tT h0 h1 t_most t_values_n t_values t_rows x0 _ z6 hz6) (cwV 1 htl g_P_23 rfl rfl rfl (by decide +kernel) ⟨Nat.le_of_ble_eq_true rfl, Nat.le_of_ble_eq_true rfl⟩) (wk_preV K hP hD hS [0, 1] rfl rfl rfl rfl) rfl rfl hl.1 rfl (lv_room (Nat.le_of_ble_eq_true rfl)) d_P_get_2 ⟨Nat.zero_le _, Nat.zero_le _⟩) (fun H locs hP hD hS => ?_)
  have hP : va_P (dC, dI) vwCl [(h0, .inr (4, [.int t_most, .ref h1, .int t_rows])), (h1, .inl (cI, t_values_n, .inl t_values))] H := hP
  have hD : va_D A [(h0, .inr (4, [.int t_most, .ref h1, .int t_rows])), (h1, .inl (cI, t_values_n, .inl t_values))] := hD
  refine lv_if_eq (tgt := 18) hx hb d_P_get_5 (by decide) (fun c7 => ?_) (fun c7 => ?_)
  · have h := wk_pos h c7
    refine lv_bipush (v := (-2)) hx hb d_P_get_18 (by decide) ?_
    cases h
    exact wk_iret K hP hS d_P_get_20
  · have h := wk_neg h c7
    refine lv_iload_n hx hb d_P_get_8 rfl (lv_at hl 2 rfl) ?_
    refine lv_if_lt (tgt := 18) hx hb d_P_get_9 (by decide) (fun c8 => ?_) (fun c8 => ?_)
    · have h := wk_pos h c8
      refine lv_bipush (v := (-2)) hx hb d_P_get_18 (by decide) ?_
      cases h
      exact wk_iret K hP hS d_P_get_20
    · have h := wk_neg h c8
      refine lv_iload_n hx hb d_P_get_12 rfl (lv_at hl 2 rfl) ?_
      refine lv_bipush (v := 24) hx hb d_P_get_13 (by decide) ?_
      refine lv_icmp_lt (tgt := 21) hx hb d_P_get_15 (by decide) (fun c9 => ?_) (fun c9 => ?_)
      · have h := wk_pos h c9
        refine lv_aload_n hx hb d_P_get_21 rfl (lv_at hl 0 rfl) ?_
        refine va_get (D := (dC, dI)) (ci := 4) (v := .ref h1) (C := R_P) (T := T_P) (N := 3) hx hb htl in_P hown hK hP 0 rfl rfl 1 (by decide) (htl _ mm_78) (fun _ h9 => h9) rfl d_P_get_22 ?_
        refine lv_iload_n hx hb d_P_get_25 rfl (lv_at hl 1 rfl) ?_
        refine lv_bipush (v := 24) hx hb d_P_get_26 (by decide) ?_
        refine lv_imul hx hb d_P_get_28 ?_
        refine lv_iload_n hx hb d_P_get_29 rfl (lv_at hl 2 rfl) ?_
        refine lv_iadd hx hb d_P_get_30 ?_
        obtain ⟨g10, h⟩ := gi_some h
        refine va_iald hx hb hK hP 1 0 rfl rfl g10 d_P_get_31 ?_
        cases h
        exact wk_iret K hP hS d_P_get_32
      · have h := wk_neg h c9
        refine lv_bipush (v := (-2)) hx hb d_P_get_18 (by decide) ?_
        cases h
        exact wk_iret K hP hS d_P_get_20
/-! DocumentFile$PropertyRows.held(I)I -/
abbrev rm_P_held : Room := { frames := 1, cells := 0, slots := 0, locals := 21 }
set_option maxHeartbeats 4000000 in
set_option maxRecDepth 100000 in
theorem tl_P_held_4 {p : Program} {l : Launch} {e : Env} {s : State} {m : MethodId} {args : Array Value} {below : List Frame} {meth : Method} {c : Code} {dC : Nat → ClassId} {dI : Nat → Nat → Nat} {cI cB cS : ClassId} {tT : Nat} {A : Nat → Prop} {h0 h1 : Nat} (K : wk_X p s m args meth c b_P_held R_P 4 (some .int) dC dI cI cB cS tT A) (N : Nat) (y1 : Int32) (t_most : Int32) (t_values_n : Nat) (t_values : Nat → Int32) (t_rows : Int32) (res : Int32)   : ∀ (n : Nat) (y2 : Int32) (y3 : Int32), l_P_held_4 N y1 t_values_n t_values t_rows n y2 y3 = some res → ∀ (H : Heap) (locs : List Loc) (ls : Array Slot), va_P (dC, dI) vwCl [(h0, .inr (4, [.int t_most, .ref h1, .int t_rows])), (h1, .inl (cI, t_values_n, .inl t_values))] H → va_D A [(h0, .inr (4, [.int t_most, .ref h1, .int t_rows])), (h1, .inl (cI, t_values_n, .inl t_values))] → va_S A s.heap H locs → lv_has ls 4 [(0, .ref h0), (1, .int y1), (2, .int y2), (3, .int y3)] → W p l e rm_P_held s m args below meth c H locs 0 0 (MQ below (wk_Qi dC dI res [(h0, .inr (4, [.int t_most, .ref h1, .int t_rows])), (h1, .inl (cI, t_values_n, .inl t_values))] A) args s 0 0 A) (F0 m 4 ls []) := by
  obtain ⟨hx, hb, hr, hml, hown, htl, hlk, hK, hZ, hT, hN, hA⟩ := id K
  intro n
  induction n with
  | zero =>
    intro y2 y3 h
    rw [l_P_held_4] at h
    cases h
  | succ n ih =>
    intro y2 y3 h H locs ls hP hD hS hl
    rw [l_P_held_4] at h
    refine lv_aload_n hx hb d_P_held_4 rfl (lv_at hl 0 rfl) ?_
    refine lv_iload_n hx hb d_P_held_5 rfl (lv_at hl 1 rfl) ?_
    obtain ⟨z6, hz6, h⟩ := wk_bind h
    refine wk_calli (wc := [(h0, .inr (4, [.int t_most, .ref h1, .int t_rows])), (h1, .inl (cI, t_values_n, .inl t_values))]) (wc' := [(h0, .inr (4, [.int t_most, .ref h1, .int t_rows])), (h1, .inl (cI, t_values_n, .inl t_values))]) K hP hD hS [0, 1] rfl rfl (va_runV (As := [.int y1]) (rest := []) ⟨hx, hb, hml, hown, htl⟩ (c_P_has l dC dI cI cB cS tT h0 h1 t_most t_values_n t_values t_rows y1 _ z6 hz6) (cwV 1 htl g_P_23 rfl rfl rfl (by decide +kernel) ⟨Nat.le_of_ble_eq_true rfl, Nat.le_of_ble_eq_true rfl⟩) (wk_preV K hP hD hS [0, 1] rfl rfl rfl rfl) rfl rfl hl.1 rfl (lv_room (Nat.le_of_ble_eq_true rfl)) d_P_held_6 ⟨Nat.zero_le _, Nat.zero_le _⟩) (fun H locs hP hD hS => ?_)
    have hP : va_P (dC, dI) vwCl [(h0, .inr (4, [.int t_most, .ref h1, .int t_rows])), (h1, .inl (cI, t_values_n, .inl t_values))] H := hP
    have hD : va_D A [(h0, .inr (4, [.int t_most, .ref h1, .int t_rows])), (h1, .inl (cI, t_values_n, .inl t_values))] := hD
    refine lv_if_eq (tgt := 42) hx hb d_P_held_9 (by decide) (fun c7 => ?_) (fun c7 => ?_)
    · have h := wk_pos h c7
      refine lv_iload_n hx hb d_P_held_42 rfl (lv_at hl 2 rfl) ?_
      cases h
      exact wk_iret K hP hS d_P_held_43
    · have h := wk_neg h c7
      refine lv_iload_n hx hb d_P_held_12 rfl (lv_at hl 3 rfl) ?_
      refine lv_bipush (v := 24) hx hb d_P_held_13 (by decide) ?_
      refine lv_icmp_ge (tgt := 42) hx hb d_P_held_15 (by decide) (fun c8 => ?_) (fun c8 => ?_)
      · have h := wk_pos h c8
        refine lv_iload_n hx hb d_P_held_42 rfl (lv_at hl 2 rfl) ?_
        cases h
        exact wk_iret K hP hS d_P_held_43
      · have h := wk_neg h c8
        refine lv_aload_n hx hb d_P_held_18 rfl (lv_at hl 0 rfl) ?_
        refine va_get (D := (dC, dI)) (ci := 4) (v := .ref h1) (C := R_P) (T := T_P) (N := 3) hx hb htl in_P hown hK hP 0 rfl rfl 1 (by decide) (htl _ mm_78) (fun _ h9 => h9) rfl d_P_held_19 ?_
        refine lv_iload_n hx hb d_P_held_22 rfl (lv_at hl 1 rfl) ?_
        refine lv_bipush (v := 24) hx hb d_P_held_23 (by decide) ?_
        refine lv_imul hx hb d_P_held_25 ?_
        refine lv_iload_n hx hb d_P_held_26 rfl (lv_at hl 3 rfl) ?_
        refine lv_iadd hx hb d_P_held_27 ?_
        obtain ⟨g9, h⟩ := gi_some h
        refine va_iald hx hb hK hP 1 0 rfl rfl g9 d_P_held_28 ?_
        refine lv_iconst (v := (-1)) hx hb d_P_held_29 (by decide) ?_
        refine lv_icmp_eq (tgt := 36) hx hb d_P_held_30 (by decide) (fun c10 => ?_) (fun c10 => ?_)
        · have h := wk_pos h c10
          refine lv_iinc (v := (y3 + 1)) (lv' := [(3, .int (y3 + 1)), (0, .ref h0), (1, .int y1), (2, .int y2)]) hx hb d_P_held_36 hl (k := 3) rfl rfl (by decide) rfl (fun ls hl => ?_)
          refine lv_goto (tgt := 4) hx hb d_P_held_39 (by decide) ?_
          exact ih y2 (y3 + 1) h _ _ _ hP hD hS (lv_sub hl [1, 2, 3, 0] rfl)
        · have h := wk_neg h c10
          refine lv_iinc (v := (y2 + 1)) (lv' := [(2, .int (y2 + 1)), (0, .ref h0), (1, .int y1), (3, .int y3)]) hx hb d_P_held_33 hl (k := 2) rfl rfl (by decide) rfl (fun ls hl => ?_)
          refine lv_iinc (v := (y3 + 1)) (lv' := [(3, .int (y3 + 1)), (2, .int (y2 + 1)), (0, .ref h0), (1, .int y1)]) hx hb d_P_held_36 hl (k := 3) rfl rfl (by decide) rfl (fun ls hl => ?_)
          refine lv_goto (tgt := 4) hx hb d_P_held_39 (by decide) ?_
          exact ih (y2 + 1) (y3 + 1) h _ _ _ hP hD hS (lv_sub hl [2, 3, 1, 0] rfl)
set_option maxHeartbeats 4000000 in
set_option maxRecDepth 100000 in
theorem c_P_held (l : Launch) (dC : Nat → ClassId) (dI : Nat → Nat → Nat) (cI cB cS : ClassId) (tT : Nat) (h0 h1 : Nat) (t_most : Int32) (t_values_n : Nat) (t_values : Nat → Int32) (t_rows : Int32) (x0 : Int32) (N : Nat) (sz : Nat) (res : Int32) (h : r_P_held N x0 t_values_n t_values t_rows = some res) :
    Met l y_P_held w_P_held rm_P_held (wk_Pre dC dI cI cB cS tT [.ref h0, .int x0] [(h0, .inr (4, [.int t_most, .ref h1, .int t_rows])), (h1, .inl (cI, t_values_n, .inl t_values))] sz) (wk_Qi dC dI res [(h0, .inr (4, [.int t_most, .ref h1, .int t_rows])), (h1, .inl (cI, t_values_n, .inl t_values))] (va_A [(h0, .inr (4, [.int t_most, .ref h1, .int t_rows])), (h1, .inl (cI, t_values_n, .inl t_values))] sz)) 0 0 (va_A [(h0, .inr (4, [.int t_most, .ref h1, .int t_rows])), (h1, .inl (cI, t_values_n, .inl t_values))] sz) := by
  refine wk_met (Qc := fun A => wk_Qi dC dI res [(h0, .inr (4, [.int t_most, .ref h1, .int t_rows])), (h1, .inl (cI, t_values_n, .inl t_values))] A) (by decide) [.ref h0, .int x0] [(h0, .inr (4, [.int t_most, .ref h1, .int t_rows])), (h1, .inl (cI, t_values_n, .inl t_values))] sz (Nat.le_of_ble_eq_true rfl) (fun p e s m below meth c A ls K hP hD hS hl hin => ?_)
  have K : wk_X p s m ([.ref h0, .int x0] : List Value).toArray meth c b_P_held R_P 4 (some .int) dC dI cI cB cS tT A := K
  obtain ⟨hx, hb, hr, hml, hown, htl, hlk, hK, hZ, hT, hN, hA⟩ := id K
  have hl : lv_has ls 4 [(0, .ref h0), (1, .int x0)] := hl
  unfold r_P_held at h
  refine lv_iconst (v := 0) hx hb d_P_held_0 (by decide) ?_
  refine lv_istore_n (lv' := [(2, .int 0), (0, .ref h0), (1, .int x0)]) hx hb d_P_held_1 rfl hl (by decide) rfl (fun ls hl => ?_)
  refine lv_iconst (v := 0) hx hb d_P_held_2 (by decide) ?_
  refine lv_istore_n (lv' := [(3, .int 0), (2, .int 0), (0, .ref h0), (1, .int x0)]) hx hb d_P_held_3 rfl hl (by decide) rfl (fun ls hl => ?_)
  exact tl_P_held_4 K N x0 t_most t_values_n t_values t_rows res N 0 0 h _ _ _ hP hD hS (lv_sub hl [2, 3, 1, 0] rfl)
/-! DocumentFile$PropertyRows.same(II)Z -/
abbrev rm_P_same : Room := { frames := 1, cells := 0, slots := 0, locals := 21 }
set_option maxHeartbeats 4000000 in
set_option maxRecDepth 100000 in
theorem tl_P_same_20 {p : Program} {l : Launch} {e : Env} {s : State} {m : MethodId} {args : Array Value} {below : List Frame} {meth : Method} {c : Code} {dC : Nat → ClassId} {dI : Nat → Nat → Nat} {cI cB cS : ClassId} {tT : Nat} {A : Nat → Prop} {h0 h1 : Nat} (K : wk_X p s m args meth c b_P_same R_P 4 (some .boolean) dC dI cI cB cS tT A) (N : Nat) (y1 : Int32) (y2 : Int32) (t_most : Int32) (t_values_n : Nat) (t_values : Nat → Int32) (t_rows : Int32) (res : Int32)   : ∀ (n : Nat) (y3 : Int32), l_P_same_20 N y1 y2 t_values_n t_values t_rows n y3 = some res → ∀ (H : Heap) (locs : List Loc) (ls : Array Slot), va_P (dC, dI) vwCl [(h0, .inr (4, [.int t_most, .ref h1, .int t_rows])), (h1, .inl (cI, t_values_n, .inl t_values))] H → va_D A [(h0, .inr (4, [.int t_most, .ref h1, .int t_rows])), (h1, .inl (cI, t_values_n, .inl t_values))] → va_S A s.heap H locs → lv_has ls 4 [(0, .ref h0), (1, .int y1), (2, .int y2), (3, .int y3)] → W p l e rm_P_same s m args below meth c H locs 0 0 (MQ below (wk_Qi dC dI res [(h0, .inr (4, [.int t_most, .ref h1, .int t_rows])), (h1, .inl (cI, t_values_n, .inl t_values))] A) args s 0 0 A) (F0 m 20 ls []) := by
  obtain ⟨hx, hb, hr, hml, hown, htl, hlk, hK, hZ, hT, hN, hA⟩ := id K
  intro n
  induction n with
  | zero =>
    intro y3 h
    rw [l_P_same_20] at h
    cases h
  | succ n ih =>
    intro y3 h H locs ls hP hD hS hl
    rw [l_P_same_20] at h
    refine lv_iload_n hx hb d_P_same_20 rfl (lv_at hl 3 rfl) ?_
    refine lv_bipush (v := 24) hx hb d_P_same_21 (by decide) ?_
    refine lv_icmp_ge (tgt := 59) hx hb d_P_same_23 (by decide) (fun c9 => ?_) (fun c9 => ?_)
    · have h := wk_pos h c9
      refine lv_iconst (v := 1) hx hb d_P_same_59 (by decide) ?_
      cases h
      exact wk_zret K (Or.inr rfl) hP hS d_P_same_60
    · have h := wk_neg h c9
      refine lv_aload_n hx hb d_P_same_26 rfl (lv_at hl 0 rfl) ?_
      refine va_get (D := (dC, dI)) (ci := 4) (v := .ref h1) (C := R_P) (T := T_P) (N := 3) hx hb htl in_P hown hK hP 0 rfl rfl 1 (by decide) (htl _ mm_78) (fun _ h9 => h9) rfl d_P_same_27 ?_
      refine lv_iload_n hx hb d_P_same_30 rfl (lv_at hl 1 rfl) ?_
      refine lv_bipush (v := 24) hx hb d_P_same_31 (by decide) ?_
      refine lv_imul hx hb d_P_same_33 ?_
      refine lv_iload_n hx hb d_P_same_34 rfl (lv_at hl 3 rfl) ?_
      refine lv_iadd hx hb d_P_same_35 ?_
      obtain ⟨g10, h⟩ := gi_some h
      refine va_iald hx hb hK hP 1 0 rfl rfl g10 d_P_same_36 ?_
      refine lv_aload_n hx hb d_P_same_37 rfl (lv_at hl 0 rfl) ?_
      refine va_get (D := (dC, dI)) (ci := 4) (v := .ref h1) (C := R_P) (T := T_P) (N := 3) hx hb htl in_P hown hK hP 0 rfl rfl 1 (by decide) (htl _ mm_78) (fun _ h9 => h9) rfl d_P_same_38 ?_
      refine lv_iload_n hx hb d_P_same_41 rfl (lv_at hl 2 rfl) ?_
      refine lv_bipush (v := 24) hx hb d_P_same_42 (by decide) ?_
      refine lv_imul hx hb d_P_same_44 ?_
      refine lv_iload_n hx hb d_P_same_45 rfl (lv_at hl 3 rfl) ?_
      refine lv_iadd hx hb d_P_same_46 ?_
      obtain ⟨g11, h⟩ := gi_some h
      refine va_iald hx hb hK hP 1 0 rfl rfl g11 d_P_same_47 ?_
      refine lv_icmp_eq (tgt := 53) hx hb d_P_same_48 (by decide) (fun c12 => ?_) (fun c12 => ?_)
      · have h := wk_pos h c12
        refine lv_iinc (v := (y3 + 1)) (lv' := [(3, .int (y3 + 1)), (0, .ref h0), (1, .int y1), (2, .int y2)]) hx hb d_P_same_53 hl (k := 3) rfl rfl (by decide) rfl (fun ls hl => ?_)
        refine lv_goto (tgt := 20) hx hb d_P_same_56 (by decide) ?_
        exact ih (y3 + 1) h _ _ _ hP hD hS (lv_sub hl [1, 2, 3, 0] rfl)
      · have h := wk_neg h c12
        refine lv_iconst (v := 0) hx hb d_P_same_51 (by decide) ?_
        cases h
        exact wk_zret K (Or.inl rfl) hP hS d_P_same_52
set_option maxHeartbeats 4000000 in
set_option maxRecDepth 100000 in
theorem c_P_same (l : Launch) (dC : Nat → ClassId) (dI : Nat → Nat → Nat) (cI cB cS : ClassId) (tT : Nat) (h0 h1 : Nat) (t_most : Int32) (t_values_n : Nat) (t_values : Nat → Int32) (t_rows : Int32) (x0 : Int32) (x1 : Int32) (N : Nat) (sz : Nat) (res : Int32) (h : r_P_same N x0 x1 t_values_n t_values t_rows = some res) :
    Met l y_P_same w_P_same rm_P_same (wk_Pre dC dI cI cB cS tT [.ref h0, .int x0, .int x1] [(h0, .inr (4, [.int t_most, .ref h1, .int t_rows])), (h1, .inl (cI, t_values_n, .inl t_values))] sz) (wk_Qi dC dI res [(h0, .inr (4, [.int t_most, .ref h1, .int t_rows])), (h1, .inl (cI, t_values_n, .inl t_values))] (va_A [(h0, .inr (4, [.int t_most, .ref h1, .int t_rows])), (h1, .inl (cI, t_values_n, .inl t_values))] sz)) 0 0 (va_A [(h0, .inr (4, [.int t_most, .ref h1, .int t_rows])), (h1, .inl (cI, t_values_n, .inl t_values))] sz) := by
  refine wk_met (Qc := fun A => wk_Qi dC dI res [(h0, .inr (4, [.int t_most, .ref h1, .int t_rows])), (h1, .inl (cI, t_values_n, .inl t_values))] A) (by decide) [.ref h0, .int x0, .int x1] [(h0, .inr (4, [.int t_most, .ref h1, .int t_rows])), (h1, .inl (cI, t_values_n, .inl t_values))] sz (Nat.le_of_ble_eq_true rfl) (fun p e s m below meth c A ls K hP hD hS hl hin => ?_)
  have K : wk_X p s m ([.ref h0, .int x0, .int x1] : List Value).toArray meth c b_P_same R_P 4 (some .boolean) dC dI cI cB cS tT A := K
  obtain ⟨hx, hb, hr, hml, hown, htl, hlk, hK, hZ, hT, hN, hA⟩ := id K
  have hl : lv_has ls 4 [(0, .ref h0), (1, .int x0), (2, .int x1)] := hl
  unfold r_P_same at h
  refine lv_aload_n hx hb d_P_same_0 rfl (lv_at hl 0 rfl) ?_
  refine lv_iload_n hx hb d_P_same_1 rfl (lv_at hl 1 rfl) ?_
  obtain ⟨z13, hz13, h⟩ := wk_bind h
  refine wk_calli (wc := [(h0, .inr (4, [.int t_most, .ref h1, .int t_rows])), (h1, .inl (cI, t_values_n, .inl t_values))]) (wc' := [(h0, .inr (4, [.int t_most, .ref h1, .int t_rows])), (h1, .inl (cI, t_values_n, .inl t_values))]) K hP hD hS [0, 1] rfl rfl (va_runV (As := [.int x0]) (rest := []) ⟨hx, hb, hml, hown, htl⟩ (c_P_has l dC dI cI cB cS tT h0 h1 t_most t_values_n t_values t_rows x0 _ z13 hz13) (cwV 1 htl g_P_23 rfl rfl rfl (by decide +kernel) ⟨Nat.le_of_ble_eq_true rfl, Nat.le_of_ble_eq_true rfl⟩) (wk_preV K hP hD hS [0, 1] rfl rfl rfl rfl) rfl rfl hl.1 rfl (lv_room (Nat.le_of_ble_eq_true rfl)) d_P_same_2 ⟨Nat.zero_le _, Nat.zero_le _⟩) (fun H locs hP hD hS => ?_)
  have hP : va_P (dC, dI) vwCl [(h0, .inr (4, [.int t_most, .ref h1, .int t_rows])), (h1, .inl (cI, t_values_n, .inl t_values))] H := hP
  have hD : va_D A [(h0, .inr (4, [.int t_most, .ref h1, .int t_rows])), (h1, .inl (cI, t_values_n, .inl t_values))] := hD
  refine lv_if_eq (tgt := 16) hx hb d_P_same_5 (by decide) (fun c14 => ?_) (fun c14 => ?_)
  · have h := wk_pos h c14
    refine lv_iconst (v := 0) hx hb d_P_same_16 (by decide) ?_
    cases h
    exact wk_zret K (Or.inl rfl) hP hS d_P_same_17
  · have h := wk_neg h c14
    refine lv_aload_n hx hb d_P_same_8 rfl (lv_at hl 0 rfl) ?_
    refine lv_iload_n hx hb d_P_same_9 rfl (lv_at hl 2 rfl) ?_
    obtain ⟨z15, hz15, h⟩ := wk_bind h
    refine wk_calli (wc := [(h0, .inr (4, [.int t_most, .ref h1, .int t_rows])), (h1, .inl (cI, t_values_n, .inl t_values))]) (wc' := [(h0, .inr (4, [.int t_most, .ref h1, .int t_rows])), (h1, .inl (cI, t_values_n, .inl t_values))]) K hP hD hS [0, 1] rfl rfl (va_runV (As := [.int x1]) (rest := []) ⟨hx, hb, hml, hown, htl⟩ (c_P_has l dC dI cI cB cS tT h0 h1 t_most t_values_n t_values t_rows x1 _ z15 hz15) (cwV 1 htl g_P_23 rfl rfl rfl (by decide +kernel) ⟨Nat.le_of_ble_eq_true rfl, Nat.le_of_ble_eq_true rfl⟩) (wk_preV K hP hD hS [0, 1] rfl rfl rfl rfl) rfl rfl hl.1 rfl (lv_room (Nat.le_of_ble_eq_true rfl)) d_P_same_10 ⟨Nat.zero_le _, Nat.zero_le _⟩) (fun H locs hP hD hS => ?_)
    have hP : va_P (dC, dI) vwCl [(h0, .inr (4, [.int t_most, .ref h1, .int t_rows])), (h1, .inl (cI, t_values_n, .inl t_values))] H := hP
    have hD : va_D A [(h0, .inr (4, [.int t_most, .ref h1, .int t_rows])), (h1, .inl (cI, t_values_n, .inl t_values))] := hD
    refine lv_if_ne (tgt := 18) hx hb d_P_same_13 (by decide) (fun c16 => ?_) (fun c16 => ?_)
    · have h := wk_neg h c16
      refine lv_iconst (v := 0) hx hb d_P_same_18 (by decide) ?_
      refine lv_istore_n (lv' := [(3, .int 0), (0, .ref h0), (1, .int x0), (2, .int x1)]) hx hb d_P_same_19 rfl hl (by decide) rfl (fun ls hl => ?_)
      exact tl_P_same_20 K N x0 x1 t_most t_values_n t_values t_rows res N 0 h _ _ _ hP hD hS (lv_sub hl [1, 2, 3, 0] rfl)
    · have h := wk_pos h c16
      refine lv_iconst (v := 0) hx hb d_P_same_16 (by decide) ?_
      cases h
      exact wk_zret K (Or.inl rfl) hP hS d_P_same_17
/-! DocumentFile$PropertyRows.repeats(I)Z -/
abbrev rm_P_repeats : Room := { frames := 2, cells := 0, slots := 0, locals := 44 }
set_option maxHeartbeats 4000000 in
set_option maxRecDepth 100000 in
theorem tl_P_repeats_2 {p : Program} {l : Launch} {e : Env} {s : State} {m : MethodId} {args : Array Value} {below : List Frame} {meth : Method} {c : Code} {dC : Nat → ClassId} {dI : Nat → Nat → Nat} {cI cB cS : ClassId} {tT : Nat} {A : Nat → Prop} {h0 h1 : Nat} (K : wk_X p s m args meth c b_P_repeats R_P 3 (some .boolean) dC dI cI cB cS tT A) (N : Nat) (y1 : Int32) (t_most : Int32) (t_values_n : Nat) (t_values : Nat → Int32) (t_rows : Int32) (res : Int32)   : ∀ (n : Nat) (y2 : Int32), l_P_repeats_2 N y1 t_values_n t_values t_rows n y2 = some res → ∀ (H : Heap) (locs : List Loc) (ls : Array Slot), va_P (dC, dI) vwCl [(h0, .inr (4, [.int t_most, .ref h1, .int t_rows])), (h1, .inl (cI, t_values_n, .inl t_values))] H → va_D A [(h0, .inr (4, [.int t_most, .ref h1, .int t_rows])), (h1, .inl (cI, t_values_n, .inl t_values))] → va_S A s.heap H locs → lv_has ls 3 [(0, .ref h0), (1, .int y1), (2, .int y2)] → W p l e rm_P_repeats s m args below meth c H locs 0 0 (MQ below (wk_Qi dC dI res [(h0, .inr (4, [.int t_most, .ref h1, .int t_rows])), (h1, .inl (cI, t_values_n, .inl t_values))] A) args s 0 0 A) (F0 m 2 ls []) := by
  obtain ⟨hx, hb, hr, hml, hown, htl, hlk, hK, hZ, hT, hN, hA⟩ := id K
  intro n
  induction n with
  | zero =>
    intro y2 h
    rw [l_P_repeats_2] at h
    cases h
  | succ n ih =>
    intro y2 h H locs ls hP hD hS hl
    rw [l_P_repeats_2] at h
    refine lv_iload_n hx hb d_P_repeats_2 rfl (lv_at hl 2 rfl) ?_
    refine lv_iload_n hx hb d_P_repeats_3 rfl (lv_at hl 1 rfl) ?_
    refine lv_icmp_ge (tgt := 24) hx hb d_P_repeats_4 (by decide) (fun c4 => ?_) (fun c4 => ?_)
    · have h := wk_pos h c4
      refine lv_iconst (v := 0) hx hb d_P_repeats_24 (by decide) ?_
      cases h
      exact wk_zret K (Or.inl rfl) hP hS d_P_repeats_25
    · have h := wk_neg h c4
      refine lv_aload_n hx hb d_P_repeats_7 rfl (lv_at hl 0 rfl) ?_
      refine lv_iload_n hx hb d_P_repeats_8 rfl (lv_at hl 2 rfl) ?_
      refine lv_iload_n hx hb d_P_repeats_9 rfl (lv_at hl 1 rfl) ?_
      obtain ⟨z5, hz5, h⟩ := wk_bind h
      refine wk_calli (wc := [(h0, .inr (4, [.int t_most, .ref h1, .int t_rows])), (h1, .inl (cI, t_values_n, .inl t_values))]) (wc' := [(h0, .inr (4, [.int t_most, .ref h1, .int t_rows])), (h1, .inl (cI, t_values_n, .inl t_values))]) K hP hD hS [0, 1] rfl rfl (va_runV (As := [.int y2, .int y1]) (rest := []) ⟨hx, hb, hml, hown, htl⟩ (c_P_same l dC dI cI cB cS tT h0 h1 t_most t_values_n t_values t_rows y2 y1 N _ z5 hz5) (cwV 2 htl g_P_31 rfl rfl rfl (by decide +kernel) ⟨Nat.le_of_ble_eq_true rfl, Nat.le_of_ble_eq_true rfl⟩) (wk_preV K hP hD hS [0, 1] rfl rfl rfl rfl) rfl rfl hl.1 rfl (lv_room (Nat.le_of_ble_eq_true rfl)) d_P_repeats_10 ⟨Nat.zero_le _, Nat.zero_le _⟩) (fun H locs hP hD hS => ?_)
      have hP : va_P (dC, dI) vwCl [(h0, .inr (4, [.int t_most, .ref h1, .int t_rows])), (h1, .inl (cI, t_values_n, .inl t_values))] H := hP
      have hD : va_D A [(h0, .inr (4, [.int t_most, .ref h1, .int t_rows])), (h1, .inl (cI, t_values_n, .inl t_values))] := hD
      refine lv_if_eq (tgt := 18) hx hb d_P_repeats_13 (by decide) (fun c6 => ?_) (fun c6 => ?_)
      · have h := wk_pos h c6
        refine lv_iinc (v := (y2 + 1)) (lv' := [(2, .int (y2 + 1)), (0, .ref h0), (1, .int y1)]) hx hb d_P_repeats_18 hl (k := 2) rfl rfl (by decide) rfl (fun ls hl => ?_)
        refine lv_goto (tgt := 2) hx hb d_P_repeats_21 (by decide) ?_
        exact ih (y2 + 1) h _ _ _ hP hD hS (lv_sub hl [1, 2, 0] rfl)
      · have h := wk_neg h c6
        refine lv_iconst (v := 1) hx hb d_P_repeats_16 (by decide) ?_
        cases h
        exact wk_zret K (Or.inr rfl) hP hS d_P_repeats_17
set_option maxHeartbeats 4000000 in
set_option maxRecDepth 100000 in
theorem c_P_repeats (l : Launch) (dC : Nat → ClassId) (dI : Nat → Nat → Nat) (cI cB cS : ClassId) (tT : Nat) (h0 h1 : Nat) (t_most : Int32) (t_values_n : Nat) (t_values : Nat → Int32) (t_rows : Int32) (x0 : Int32) (N : Nat) (sz : Nat) (res : Int32) (h : r_P_repeats N x0 t_values_n t_values t_rows = some res) :
    Met l y_P_repeats w_P_repeats rm_P_repeats (wk_Pre dC dI cI cB cS tT [.ref h0, .int x0] [(h0, .inr (4, [.int t_most, .ref h1, .int t_rows])), (h1, .inl (cI, t_values_n, .inl t_values))] sz) (wk_Qi dC dI res [(h0, .inr (4, [.int t_most, .ref h1, .int t_rows])), (h1, .inl (cI, t_values_n, .inl t_values))] (va_A [(h0, .inr (4, [.int t_most, .ref h1, .int t_rows])), (h1, .inl (cI, t_values_n, .inl t_values))] sz)) 0 0 (va_A [(h0, .inr (4, [.int t_most, .ref h1, .int t_rows])), (h1, .inl (cI, t_values_n, .inl t_values))] sz) := by
  refine wk_met (Qc := fun A => wk_Qi dC dI res [(h0, .inr (4, [.int t_most, .ref h1, .int t_rows])), (h1, .inl (cI, t_values_n, .inl t_values))] A) (by decide) [.ref h0, .int x0] [(h0, .inr (4, [.int t_most, .ref h1, .int t_rows])), (h1, .inl (cI, t_values_n, .inl t_values))] sz (Nat.le_of_ble_eq_true rfl) (fun p e s m below meth c A ls K hP hD hS hl hin => ?_)
  have K : wk_X p s m ([.ref h0, .int x0] : List Value).toArray meth c b_P_repeats R_P 3 (some .boolean) dC dI cI cB cS tT A := K
  obtain ⟨hx, hb, hr, hml, hown, htl, hlk, hK, hZ, hT, hN, hA⟩ := id K
  have hl : lv_has ls 3 [(0, .ref h0), (1, .int x0)] := hl
  unfold r_P_repeats at h
  refine lv_iconst (v := 0) hx hb d_P_repeats_0 (by decide) ?_
  refine lv_istore_n (lv' := [(2, .int 0), (0, .ref h0), (1, .int x0)]) hx hb d_P_repeats_1 rfl hl (by decide) rfl (fun ls hl => ?_)
  exact tl_P_repeats_2 K N x0 t_most t_values_n t_values t_rows res N 0 h _ _ _ hP hD hS (lv_sub hl [1, 2, 0] rfl)
