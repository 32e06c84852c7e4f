/-! DocumentFile$Runs.empty()V -/
abbrev rm_U_empty : Room := { frames := 0, cells := 0, slots := 0, locals := 0 }
set_option maxHeartbeats 4000000 in
set_option maxRecDepth 100000 in
theorem c_U_empty (l : Launch) (dC : Nat → ClassId) (dI : Nat → Nat → Nat) (cI cB cS : ClassId) (tT : Nat) (h0 h1 h2 : Nat) (t_parts : Nat → Int32) (t_characters : Nat → Int32) (t_rows : Int32) (t_length : Int32)   (sz : Nat) (res : Int32 × Int32) (h : r_U_empty t_rows t_length = some res) :
    Met l y_U_empty w_U_empty rm_U_empty (wk_Pre dC dI cI cB cS tT [.ref h0] [(h0, .inr (6, [.ref h1, .ref h2, .int t_rows, .int t_length])), (h1, .inl (cI, 240, .inl t_parts)), (h2, .inl (cI, 512, .inl t_characters))] sz) (wk_Qv dC dI [(h0, .inr (6, [.ref h1, .ref h2, .int res.1, .int res.2])), (h1, .inl (cI, 240, .inl t_parts)), (h2, .inl (cI, 512, .inl t_characters))] (va_A [(h0, .inr (6, [.ref h1, .ref h2, .int t_rows, .int t_length])), (h1, .inl (cI, 240, .inl t_parts)), (h2, .inl (cI, 512, .inl t_characters))] sz)) 0 0 (va_A [(h0, .inr (6, [.ref h1, .ref h2, .int t_rows, .int t_length])), (h1, .inl (cI, 240, .inl t_parts)), (h2, .inl (cI, 512, .inl t_characters))] sz) := by
  refine wk_met (Qc := fun A => wk_Qv dC dI [(h0, .inr (6, [.ref h1, .ref h2, .int res.1, .int res.2])), (h1, .inl (cI, 240, .inl t_parts)), (h2, .inl (cI, 512, .inl t_characters))] A) (by decide) [.ref h0] [(h0, .inr (6, [.ref h1, .ref h2, .int t_rows, .int t_length])), (h1, .inl (cI, 240, .inl t_parts)), (h2, .inl (cI, 512, .inl t_characters))] sz (Nat.le_of_ble_eq_true rfl) (fun p e s m below meth c A ls K hP hD hS hl hin => ?_)
  have K : wk_X p s m ([.ref h0] : List Value).toArray meth c b_U_empty R_U 1 none dC dI cI cB cS tT A := K
  obtain ⟨hx, hb, hr, hml, hown, htl, hlk, hK, hZ, hT, hN, hA⟩ := id K
  have hl : lv_has ls 1 [(0, .ref h0)] := hl
  unfold r_U_empty at h
  refine lv_aload_n hx hb d_U_empty_0 rfl (lv_at hl 0 rfl) ?_
  refine lv_iconst (v := 0) hx hb d_U_empty_1 (by decide) ?_
  refine va_put (D := (dC, dI)) (ci := 6) (v := .int 0) (ty := .int) (C := R_U) (T := T_U) (N := 4) hx hb htl in_U ty_U tyok_U nmok_U hown hK hP hD hS 0 rfl rfl 2 (by decide) (htl _ mm_109) (fun _ h9 => h9) rfl (by decide +kernel) rfl rfl (Nat.le_of_ble_eq_true rfl) d_U_empty_2 (fun H locs hP hD hS => ?_)
  have hP : va_P (dC, dI) vwCl [(h0, .inr (6, [.ref h1, .ref h2, .int 0, .int t_length])), (h1, .inl (cI, 240, .inl t_parts)), (h2, .inl (cI, 512, .inl t_characters))] H := hP
  have hD : va_D A [(h0, .inr (6, [.ref h1, .ref h2, .int 0, .int t_length])), (h1, .inl (cI, 240, .inl t_parts)), (h2, .inl (cI, 512, .inl t_characters))] := hD
  refine lv_aload_n hx hb d_U_empty_5 rfl (lv_at hl 0 rfl) ?_
  refine lv_iconst (v := 0) hx hb d_U_empty_6 (by decide) ?_
  refine va_put (D := (dC, dI)) (ci := 6) (v := .int 0) (ty := .int) (C := R_U) (T := T_U) (N := 4) hx hb htl in_U ty_U tyok_U nmok_U hown hK hP hD hS 0 rfl rfl 3 (by decide) (htl _ mm_110) (fun _ h9 => h9) rfl (by decide +kernel) rfl rfl (Nat.le_of_ble_eq_true rfl) d_U_empty_7 (fun H locs hP hD hS => ?_)
  have hP : va_P (dC, dI) vwCl [(h0, .inr (6, [.ref h1, .ref h2, .int 0, .int 0])), (h1, .inl (cI, 240, .inl t_parts)), (h2, .inl (cI, 512, .inl t_characters))] H := hP
  have hD : va_D A [(h0, .inr (6, [.ref h1, .ref h2, .int 0, .int 0])), (h1, .inl (cI, 240, .inl t_parts)), (h2, .inl (cI, 512, .inl t_characters))] := hD
  cases h
  exact wk_vret K hP hS d_U_empty_10
/-! DocumentFile$Runs.isText(I)Z -/
abbrev rm_U_isText : Room := { frames := 0, cells := 0, slots := 0, locals := 0 }
set_option maxHeartbeats 4000000 in
set_option maxRecDepth 100000 in
theorem c_U_isText (l : Launch) (dC : Nat → ClassId) (dI : Nat → Nat → Nat) (cI cB cS : ClassId) (tT : Nat)   (x0 : Int32)  (sz : Nat) (res : Int32) (h : r_U_isText x0 = some res) :
    Met l y_U_isText w_U_isText rm_U_isText (wk_Pre dC dI cI cB cS tT [.int x0] [] sz) (wk_Qi dC dI res [] (va_A [] sz)) 0 0 (va_A [] sz) := by
  refine wk_met (Qc := fun A => wk_Qi dC dI res [] A) (by decide) [.int x0] [] sz (Nat.le_of_ble_eq_true rfl) (fun p e s m below meth c A ls K hP hD hS hl hin => ?_)
  have K : wk_X p s m ([.int x0] : List Value).toArray meth c b_U_isText R_U 1 (some .boolean) dC dI cI cB cS tT A := K
  obtain ⟨hx, hb, hr, hml, hown, htl, hlk, hK, hZ, hT, hN, hA⟩ := id K
  have hl : lv_has ls 1 [(0, .int x0)] := hl
  unfold r_U_isText at h
  refine lv_iload_n hx hb d_U_isText_0 rfl (lv_at hl 0 rfl) ?_
  refine lv_bipush (v := 9) hx hb d_U_isText_1 (by decide) ?_
  refine lv_icmp_eq (tgt := 38) hx hb d_U_isText_3 (by decide) (fun c7 => ?_) (fun c7 => ?_)
  · have h := wk_pos h c7
    refine lv_iconst (v := 1) hx hb d_U_isText_38 (by decide) ?_
    refine lv_goto (tgt := 43) hx hb d_U_isText_39 (by decide) ?_
    cases h
    exact wk_zret K (Or.inr rfl) hP hS d_U_isText_43
  · have h := wk_neg h c7
    refine lv_iload_n hx hb d_U_isText_6 rfl (lv_at hl 0 rfl) ?_
    refine lv_bipush (v := 12) hx hb d_U_isText_7 (by decide) ?_
    refine lv_icmp_eq (tgt := 38) hx hb d_U_isText_9 (by decide) (fun c8 => ?_) (fun c8 => ?_)
    · have h := wk_pos h c8
      refine lv_iconst (v := 1) hx hb d_U_isText_38 (by decide) ?_
      refine lv_goto (tgt := 43) hx hb d_U_isText_39 (by decide) ?_
      cases h
      exact wk_zret K (Or.inr rfl) hP hS d_U_isText_43
    · have h := wk_neg h c8
      refine lv_iload_n hx hb d_U_isText_12 rfl (lv_at hl 0 rfl) ?_
      refine lv_bipush (v := 32) hx hb d_U_isText_13 (by decide) ?_
      refine lv_icmp_lt (tgt := 24) hx hb d_U_isText_15 (by decide) (fun c9 => ?_) (fun c9 => ?_)
      · have h := wk_pos h c9
        refine lv_iload_n hx hb d_U_isText_24 rfl (lv_at hl 0 rfl) ?_
        refine lv_sipush (v := 160) hx hb d_U_isText_25 (by decide) ?_
        refine lv_icmp_lt (tgt := 42) hx hb d_U_isText_28 (by decide) (fun c10 => ?_) (fun c10 => ?_)
        · have h := wk_pos h c10
          refine lv_iconst (v := 0) hx hb d_U_isText_42 (by decide) ?_
          cases h
          exact wk_zret K (Or.inl rfl) hP hS d_U_isText_43
        · have h := wk_neg h c10
          refine lv_iload_n hx hb d_U_isText_31 rfl (lv_at hl 0 rfl) ?_
          refine lv_sipush (v := 255) hx hb d_U_isText_32 (by decide) ?_
          refine lv_icmp_gt (tgt := 42) hx hb d_U_isText_35 (by decide) (fun c11 => ?_) (fun c11 => ?_)
          · have h := wk_pos h c11
            refine lv_iconst (v := 0) hx hb d_U_isText_42 (by decide) ?_
            cases h
            exact wk_zret K (Or.inl rfl) hP hS d_U_isText_43
          · have h := wk_neg h c11
            refine lv_iconst (v := 1) hx hb d_U_isText_38 (by decide) ?_
            refine lv_goto (tgt := 43) hx hb d_U_isText_39 (by decide) ?_
            cases h
            exact wk_zret K (Or.inr rfl) hP hS d_U_isText_43
      · have h := wk_neg h c9
        refine lv_iload_n hx hb d_U_isText_18 rfl (lv_at hl 0 rfl) ?_
        refine lv_bipush (v := 126) hx hb d_U_isText_19 (by decide) ?_
        refine lv_icmp_le (tgt := 38) hx hb d_U_isText_21 (by decide) (fun c12 => ?_) (fun c12 => ?_)
        · have h := wk_pos h c12
          refine lv_iconst (v := 1) hx hb d_U_isText_38 (by decide) ?_
          refine lv_goto (tgt := 43) hx hb d_U_isText_39 (by decide) ?_
          cases h
          exact wk_zret K (Or.inr rfl) hP hS d_U_isText_43
        · have h := wk_neg h c12
          refine lv_iload_n hx hb d_U_isText_24 rfl (lv_at hl 0 rfl) ?_
          refine lv_sipush (v := 160) hx hb d_U_isText_25 (by decide) ?_
          refine lv_icmp_lt (tgt := 42) hx hb d_U_isText_28 (by decide) (fun c13 => ?_) (fun c13 => ?_)
          · have h := wk_pos h c13
            refine lv_iconst (v := 0) hx hb d_U_isText_42 (by decide) ?_
            cases h
            exact wk_zret K (Or.inl rfl) hP hS d_U_isText_43
          · have h := wk_neg h c13
            refine lv_iload_n hx hb d_U_isText_31 rfl (lv_at hl 0 rfl) ?_
            refine lv_sipush (v := 255) hx hb d_U_isText_32 (by decide) ?_
            refine lv_icmp_gt (tgt := 42) hx hb d_U_isText_35 (by decide) (fun c14 => ?_) (fun c14 => ?_)
            · have h := wk_pos h c14
              refine lv_iconst (v := 0) hx hb d_U_isText_42 (by decide) ?_
              cases h
              exact wk_zret K (Or.inl rfl) hP hS d_U_isText_43
            · have h := wk_neg h c14
              refine lv_iconst (v := 1) hx hb d_U_isText_38 (by decide) ?_
              refine lv_goto (tgt := 43) hx hb d_U_isText_39 (by decide) ?_
              cases h
              exact wk_zret K (Or.inr rfl) hP hS d_U_isText_43
/-! DocumentFile$Runs.takes(I)Z -/
abbrev rm_U_takes : Room := { frames := 0, cells := 0, slots := 0, locals := 0 }
set_option maxHeartbeats 4000000 in
set_option maxRecDepth 100000 in
theorem c_U_takes (l : Launch) (dC : Nat → ClassId) (dI : Nat → Nat → Nat) (cI cB cS : ClassId) (tT : Nat) (h0 h1 h2 : Nat) (t_parts : Nat → Int32) (t_characters : Nat → Int32) (t_rows : Int32) (t_length : Int32) (x0 : Int32)  (sz : Nat) (res : Int32) (h : r_U_takes x0 t_rows t_length = some res) :
    Met l y_U_takes w_U_takes rm_U_takes (wk_Pre dC dI cI cB cS tT [.ref h0, .int x0] [(h0, .inr (6, [.ref h1, .ref h2, .int t_rows, .int t_length])), (h1, .inl (cI, 240, .inl t_parts)), (h2, .inl (cI, 512, .inl t_characters))] sz) (wk_Qi dC dI res [(h0, .inr (6, [.ref h1, .ref h2, .int t_rows, .int t_length])), (h1, .inl (cI, 240, .inl t_parts)), (h2, .inl (cI, 512, .inl t_characters))] (va_A [(h0, .inr (6, [.ref h1, .ref h2, .int t_rows, .int t_length])), (h1, .inl (cI, 240, .inl t_parts)), (h2, .inl (cI, 512, .inl t_characters))] sz)) 0 0 (va_A [(h0, .inr (6, [.ref h1, .ref h2, .int t_rows, .int t_length])), (h1, .inl (cI, 240, .inl t_parts)), (h2, .inl (cI, 512, .inl t_characters))] sz) := by
  refine wk_met (Qc := fun A => wk_Qi dC dI res [(h0, .inr (6, [.ref h1, .ref h2, .int t_rows, .int t_length])), (h1, .inl (cI, 240, .inl t_parts)), (h2, .inl (cI, 512, .inl t_characters))] A) (by decide) [.ref h0, .int x0] [(h0, .inr (6, [.ref h1, .ref h2, .int t_rows, .int t_length])), (h1, .inl (cI, 240, .inl t_parts)), (h2, .inl (cI, 512, .inl t_characters))] sz (Nat.le_of_ble_eq_true rfl) (fun p e s m below meth c A ls K hP hD hS hl hin => ?_)
  have K : wk_X p s m ([.ref h0, .int x0] : List Value).toArray meth c b_U_takes R_U 2 (some .boolean) dC dI cI cB cS tT A := K
  obtain ⟨hx, hb, hr, hml, hown, htl, hlk, hK, hZ, hT, hN, hA⟩ := id K
  have hl : lv_has ls 2 [(0, .ref h0), (1, .int x0)] := hl
  unfold r_U_takes at h
  refine lv_aload_n hx hb d_U_takes_0 rfl (lv_at hl 0 rfl) ?_
  refine va_get (D := (dC, dI)) (ci := 6) (v := .int t_rows) (C := R_U) (T := T_U) (N := 4) hx hb htl in_U hown hK hP 0 rfl rfl 2 (by decide) (htl _ mm_109) (fun _ h9 => h9) rfl d_U_takes_1 ?_
  refine lv_bipush (v := 40) hx hb d_U_takes_4 (by decide) ?_
  refine lv_icmp_ge (tgt := 30) hx hb d_U_takes_6 (by decide) (fun c4 => ?_) (fun c4 => ?_)
  · have h := wk_pos h c4
    refine lv_iconst (v := 0) hx hb d_U_takes_30 (by decide) ?_
    cases h
    exact wk_zret K (Or.inl rfl) hP hS d_U_takes_31
  · have h := wk_neg h c4
    refine lv_iload_n hx hb d_U_takes_9 rfl (lv_at hl 1 rfl) ?_
    refine lv_iconst (v := 1) hx hb d_U_takes_10 (by decide) ?_
    refine lv_icmp_lt (tgt := 30) hx hb d_U_takes_11 (by decide) (fun c5 => ?_) (fun c5 => ?_)
    · have h := wk_pos h c5
      refine lv_iconst (v := 0) hx hb d_U_takes_30 (by decide) ?_
      cases h
      exact wk_zret K (Or.inl rfl) hP hS d_U_takes_31
    · have h := wk_neg h c5
      refine lv_iload_n hx hb d_U_takes_14 rfl (lv_at hl 1 rfl) ?_
      refine lv_sipush (v := 512) hx hb d_U_takes_15 (by decide) ?_
      refine lv_aload_n hx hb d_U_takes_18 rfl (lv_at hl 0 rfl) ?_
      refine va_get (D := (dC, dI)) (ci := 6) (v := .int t_length) (C := R_U) (T := T_U) (N := 4) hx hb htl in_U hown hK hP 0 rfl rfl 3 (by decide) (htl _ mm_110) (fun _ h9 => h9) rfl d_U_takes_19 ?_
      refine lv_isub hx hb d_U_takes_22 ?_
      refine lv_icmp_gt (tgt := 30) hx hb d_U_takes_23 (by decide) (fun c6 => ?_) (fun c6 => ?_)
      · have h := wk_pos h c6
        refine lv_iconst (v := 0) hx hb d_U_takes_30 (by decide) ?_
        cases h
        exact wk_zret K (Or.inl rfl) hP hS d_U_takes_31
      · have h := wk_neg h c6
        refine lv_iconst (v := 1) hx hb d_U_takes_26 (by decide) ?_
        refine lv_goto (tgt := 31) hx hb d_U_takes_27 (by decide) ?_
        cases h
        exact wk_zret K (Or.inr rfl) hP hS d_U_takes_31
/-! DocumentFile$Runs.begin(IIII)I -/
abbrev rm_U_begin : Room := { frames := 0, cells := 0, slots := 0, locals := 0 }
set_option maxHeartbeats 4000000 in
set_option maxRecDepth 100000 in
theorem c_U_begin (l : Launch) (dC : Nat → ClassId) (dI : Nat → Nat → Nat) (cI cB cS : ClassId) (tT : Nat) (h0 h1 h2 : Nat) (t_parts : Nat → Int32) (t_characters : Nat → Int32) (t_rows : Int32) (t_length : Int32) (x0 : Int32) (x1 : Int32) (x2 : Int32) (x3 : Int32)  (sz : Nat) (res : Int32 × (Nat → Int32) × Int32) (h : r_U_begin x0 x1 x2 x3 t_parts t_rows t_length = some res) :
    Met l y_U_begin w_U_begin rm_U_begin (wk_Pre dC dI cI cB cS tT [.ref h0, .int x0, .int x1, .int x2, .int x3] [(h0, .inr (6, [.ref h1, .ref h2, .int t_rows, .int t_length])), (h1, .inl (cI, 240, .inl t_parts)), (h2, .inl (cI, 512, .inl t_characters))] sz) (wk_Qi dC dI res.1 [(h0, .inr (6, [.ref h1, .ref h2, .int res.2.2, .int t_length])), (h1, .inl (cI, 240, .inl res.2.1)), (h2, .inl (cI, 512, .inl t_characters))] (va_A [(h0, .inr (6, [.ref h1, .ref h2, .int t_rows, .int t_length])), (h1, .inl (cI, 240, .inl t_parts)), (h2, .inl (cI, 512, .inl t_characters))] sz)) 0 0 (va_A [(h0, .inr (6, [.ref h1, .ref h2, .int t_rows, .int t_length])), (h1, .inl (cI, 240, .inl t_parts)), (h2, .inl (cI, 512, .inl t_characters))] sz) := by
  refine wk_met (Qc := fun A => wk_Qi dC dI res.1 [(h0, .inr (6, [.ref h1, .ref h2, .int res.2.2, .int t_length])), (h1, .inl (cI, 240, .inl res.2.1)), (h2, .inl (cI, 512, .inl t_characters))] A) (by decide) [.ref h0, .int x0, .int x1, .int x2, .int x3] [(h0, .inr (6, [.ref h1, .ref h2, .int t_rows, .int t_length])), (h1, .inl (cI, 240, .inl t_parts)), (h2, .inl (cI, 512, .inl t_characters))] sz (Nat.le_of_ble_eq_true rfl) (fun p e s m below meth c A ls K hP hD hS hl hin => ?_)
  have K : wk_X p s m ([.ref h0, .int x0, .int x1, .int x2, .int x3] : List Value).toArray meth c b_U_begin R_U 6 (some .int) dC dI cI cB cS tT A := K
  obtain ⟨hx, hb, hr, hml, hown, htl, hlk, hK, hZ, hT, hN, hA⟩ := id K
  have hl : lv_has ls 6 [(0, .ref h0), (1, .int x0), (2, .int x1), (3, .int x2), (4, .int x3)] := hl
  unfold r_U_begin at h
  refine lv_aload_n hx hb d_U_begin_0 rfl (lv_at hl 0 rfl) ?_
  refine va_get (D := (dC, dI)) (ci := 6) (v := .int t_rows) (C := R_U) (T := T_U) (N := 4) hx hb htl in_U hown hK hP 0 rfl rfl 2 (by decide) (htl _ mm_109) (fun _ h9 => h9) rfl d_U_begin_1 ?_
  refine lv_bipush (v := 40) hx hb d_U_begin_4 (by decide) ?_
  refine lv_icmp_lt (tgt := 11) hx hb d_U_begin_6 (by decide) (fun c8 => ?_) (fun c8 => ?_)
  · have h := wk_pos h c8
    refine lv_aload_n hx hb d_U_begin_11 rfl (lv_at hl 0 rfl) ?_
    refine va_get (D := (dC, dI)) (ci := 6) (v := .int t_rows) (C := R_U) (T := T_U) (N := 4) hx hb htl in_U hown hK hP 0 rfl rfl 2 (by decide) (htl _ mm_109) (fun _ h9 => h9) rfl d_U_begin_12 ?_
    refine lv_bipush (v := 6) hx hb d_U_begin_15 (by decide) ?_
    refine lv_imul hx hb d_U_begin_17 ?_
    refine lv_istore (lv' := [(5, .int (t_rows * 6)), (0, .ref h0), (1, .int x0), (2, .int x1), (3, .int x2), (4, .int x3)]) hx hb d_U_begin_18 hl (by decide) rfl (fun ls hl => ?_)
    refine lv_aload_n hx hb d_U_begin_20 rfl (lv_at hl 1 rfl) ?_
    refine va_get (D := (dC, dI)) (ci := 6) (v := .ref h1) (C := R_U) (T := T_U) (N := 4) hx hb htl in_U hown hK hP 0 rfl rfl 0 (by decide) (htl _ mm_107) (fun _ h9 => h9) rfl d_U_begin_21 ?_
    refine lv_iload hx hb d_U_begin_24 (lv_at hl 0 rfl) ?_
    refine lv_iconst (v := 0) hx hb d_U_begin_26 (by decide) ?_
    refine lv_iadd hx hb d_U_begin_27 ?_
    refine lv_iload_n hx hb d_U_begin_28 rfl (lv_at hl 2 rfl) ?_
    obtain ⟨g9, h⟩ := gi_some h
    refine va_iast hx hb hK hP hD hS 1 0 rfl rfl g9 d_U_begin_29 (fun H locs hP hD hS => ?_)
    have hP : va_P (dC, dI) vwCl [(h0, .inr (6, [.ref h1, .ref h2, .int t_rows, .int t_length])), (h1, .inl (cI, 240, .inl (upd t_parts ((t_rows * 6) + 0).toNatClampNeg x0))), (h2, .inl (cI, 512, .inl t_characters))] H := hP
    have hD : va_D A [(h0, .inr (6, [.ref h1, .ref h2, .int t_rows, .int t_length])), (h1, .inl (cI, 240, .inl (upd t_parts ((t_rows * 6) + 0).toNatClampNeg x0))), (h2, .inl (cI, 512, .inl t_characters))] := hD
    refine lv_aload_n hx hb d_U_begin_30 rfl (lv_at hl 1 rfl) ?_
    refine va_get (D := (dC, dI)) (ci := 6) (v := .ref h1) (C := R_U) (T := T_U) (N := 4) hx hb htl in_U hown hK hP 0 rfl rfl 0 (by decide) (htl _ mm_107) (fun _ h9 => h9) rfl d_U_begin_31 ?_
    refine lv_iload hx hb d_U_begin_34 (lv_at hl 0 rfl) ?_
    refine lv_iconst (v := 1) hx hb d_U_begin_36 (by decide) ?_
    refine lv_iadd hx hb d_U_begin_37 ?_
    refine lv_iload_n hx hb d_U_begin_38 rfl (lv_at hl 3 rfl) ?_
    obtain ⟨g10, h⟩ := gi_some h
    refine va_iast hx hb hK hP hD hS 1 0 rfl rfl g10 d_U_begin_39 (fun H locs hP hD hS => ?_)
    have hP : va_P (dC, dI) vwCl [(h0, .inr (6, [.ref h1, .ref h2, .int t_rows, .int t_length])), (h1, .inl (cI, 240, .inl (upd (upd t_parts ((t_rows * 6) + 0).toNatClampNeg x0) ((t_rows * 6) + 1).toNatClampNeg x1))), (h2, .inl (cI, 512, .inl t_characters))] H := hP
    have hD : va_D A [(h0, .inr (6, [.ref h1, .ref h2, .int t_rows, .int t_length])), (h1, .inl (cI, 240, .inl (upd (upd t_parts ((t_rows * 6) + 0).toNatClampNeg x0) ((t_rows * 6) + 1).toNatClampNeg x1))), (h2, .inl (cI, 512, .inl t_characters))] := hD
    refine lv_aload_n hx hb d_U_begin_40 rfl (lv_at hl 1 rfl) ?_
    refine va_get (D := (dC, dI)) (ci := 6) (v := .ref h1) (C := R_U) (T := T_U) (N := 4) hx hb htl in_U hown hK hP 0 rfl rfl 0 (by decide) (htl _ mm_107) (fun _ h9 => h9) rfl d_U_begin_41 ?_
    refine lv_iload hx hb d_U_begin_44 (lv_at hl 0 rfl) ?_
    refine lv_iconst (v := 2) hx hb d_U_begin_46 (by decide) ?_
    refine lv_iadd hx hb d_U_begin_47 ?_
    refine lv_iload_n hx hb d_U_begin_48 rfl (lv_at hl 4 rfl) ?_
    obtain ⟨g11, h⟩ := gi_some h
    refine va_iast hx hb hK hP hD hS 1 0 rfl rfl g11 d_U_begin_49 (fun H locs hP hD hS => ?_)
    have hP : va_P (dC, dI) vwCl [(h0, .inr (6, [.ref h1, .ref h2, .int t_rows, .int t_length])), (h1, .inl (cI, 240, .inl (upd (upd (upd t_parts ((t_rows * 6) + 0).toNatClampNeg x0) ((t_rows * 6) + 1).toNatClampNeg x1) ((t_rows * 6) + 2).toNatClampNeg x2))), (h2, .inl (cI, 512, .inl t_characters))] H := hP
    have hD : va_D A [(h0, .inr (6, [.ref h1, .ref h2, .int t_rows, .int t_length])), (h1, .inl (cI, 240, .inl (upd (upd (upd t_parts ((t_rows * 6) + 0).toNatClampNeg x0) ((t_rows * 6) + 1).toNatClampNeg x1) ((t_rows * 6) + 2).toNatClampNeg x2))), (h2, .inl (cI, 512, .inl t_characters))] := hD
    refine lv_aload_n hx hb d_U_begin_50 rfl (lv_at hl 1 rfl) ?_
    refine va_get (D := (dC, dI)) (ci := 6) (v := .ref h1) (C := R_U) (T := T_U) (N := 4) hx hb htl in_U hown hK hP 0 rfl rfl 0 (by decide) (htl _ mm_107) (fun _ h9 => h9) rfl d_U_begin_51 ?_
    refine lv_iload hx hb d_U_begin_54 (lv_at hl 0 rfl) ?_
    refine lv_iconst (v := 3) hx hb d_U_begin_56 (by decide) ?_
    refine lv_iadd hx hb d_U_begin_57 ?_
    refine lv_iload hx hb d_U_begin_58 (lv_at hl 5 rfl) ?_
    obtain ⟨g12, h⟩ := gi_some h
    refine va_iast hx hb hK hP hD hS 1 0 rfl rfl g12 d_U_begin_60 (fun H locs hP hD hS => ?_)
    have hP : va_P (dC, dI) vwCl [(h0, .inr (6, [.ref h1, .ref h2, .int t_rows, .int t_length])), (h1, .inl (cI, 240, .inl (upd (upd (upd (upd t_parts ((t_rows * 6) + 0).toNatClampNeg x0) ((t_rows * 6) + 1).toNatClampNeg x1) ((t_rows * 6) + 2).toNatClampNeg x2) ((t_rows * 6) + 3).toNatClampNeg x3))), (h2, .inl (cI, 512, .inl t_characters))] H := hP
    have hD : va_D A [(h0, .inr (6, [.ref h1, .ref h2, .int t_rows, .int t_length])), (h1, .inl (cI, 240, .inl (upd (upd (upd (upd t_parts ((t_rows * 6) + 0).toNatClampNeg x0) ((t_rows * 6) + 1).toNatClampNeg x1) ((t_rows * 6) + 2).toNatClampNeg x2) ((t_rows * 6) + 3).toNatClampNeg x3))), (h2, .inl (cI, 512, .inl t_characters))] := hD
    refine lv_aload_n hx hb d_U_begin_61 rfl (lv_at hl 1 rfl) ?_
    refine va_get (D := (dC, dI)) (ci := 6) (v := .ref h1) (C := R_U) (T := T_U) (N := 4) hx hb htl in_U hown hK hP 0 rfl rfl 0 (by decide) (htl _ mm_107) (fun _ h9 => h9) rfl d_U_begin_62 ?_
    refine lv_iload hx hb d_U_begin_65 (lv_at hl 0 rfl) ?_
    refine lv_iconst (v := 4) hx hb d_U_begin_67 (by decide) ?_
    refine lv_iadd hx hb d_U_begin_68 ?_
    refine lv_aload_n hx hb d_U_begin_69 rfl (lv_at hl 1 rfl) ?_
    refine va_get (D := (dC, dI)) (ci := 6) (v := .int t_length) (C := R_U) (T := T_U) (N := 4) hx hb htl in_U hown hK hP 0 rfl rfl 3 (by decide) (htl _ mm_110) (fun _ h9 => h9) rfl d_U_begin_70 ?_
    obtain ⟨g13, h⟩ := gi_some h
    refine va_iast hx hb hK hP hD hS 1 0 rfl rfl g13 d_U_begin_73 (fun H locs hP hD hS => ?_)
    have hP : va_P (dC, dI) vwCl [(h0, .inr (6, [.ref h1, .ref h2, .int t_rows, .int t_length])), (h1, .inl (cI, 240, .inl (upd (upd (upd (upd (upd t_parts ((t_rows * 6) + 0).toNatClampNeg x0) ((t_rows * 6) + 1).toNatClampNeg x1) ((t_rows * 6) + 2).toNatClampNeg x2) ((t_rows * 6) + 3).toNatClampNeg x3) ((t_rows * 6) + 4).toNatClampNeg t_length))), (h2, .inl (cI, 512, .inl t_characters))] H := hP
    have hD : va_D A [(h0, .inr (6, [.ref h1, .ref h2, .int t_rows, .int t_length])), (h1, .inl (cI, 240, .inl (upd (upd (upd (upd (upd t_parts ((t_rows * 6) + 0).toNatClampNeg x0) ((t_rows * 6) + 1).toNatClampNeg x1) ((t_rows * 6) + 2).toNatClampNeg x2) ((t_rows * 6) + 3).toNatClampNeg x3) ((t_rows * 6) + 4).toNatClampNeg t_length))), (h2, .inl (cI, 512, .inl t_characters))] := hD
    refine lv_aload_n hx hb d_U_begin_74 rfl (lv_at hl 1 rfl) ?_
    refine va_get (D := (dC, dI)) (ci := 6) (v := .ref h1) (C := R_U) (T := T_U) (N := 4) hx hb htl in_U hown hK hP 0 rfl rfl 0 (by decide) (htl _ mm_107) (fun _ h9 => h9) rfl d_U_begin_75 ?_
    refine lv_iload hx hb d_U_begin_78 (lv_at hl 0 rfl) ?_
    refine lv_iconst (v := 5) hx hb d_U_begin_80 (by decide) ?_
    refine lv_iadd hx hb d_U_begin_81 ?_
    refine lv_iconst (v := 0) hx hb d_U_begin_82 (by decide) ?_
    obtain ⟨g14, h⟩ := gi_some h
    refine va_iast hx hb hK hP hD hS 1 0 rfl rfl g14 d_U_begin_83 (fun H locs hP hD hS => ?_)
    have hP : va_P (dC, dI) vwCl [(h0, .inr (6, [.ref h1, .ref h2, .int t_rows, .int t_length])), (h1, .inl (cI, 240, .inl (upd (upd (upd (upd (upd (upd t_parts ((t_rows * 6) + 0).toNatClampNeg x0) ((t_rows * 6) + 1).toNatClampNeg x1) ((t_rows * 6) + 2).toNatClampNeg x2) ((t_rows * 6) + 3).toNatClampNeg x3) ((t_rows * 6) + 4).toNatClampNeg t_length) ((t_rows * 6) + 5).toNatClampNeg 0))), (h2, .inl (cI, 512, .inl t_characters))] H := hP
    have hD : va_D A [(h0, .inr (6, [.ref h1, .ref h2, .int t_rows, .int t_length])), (h1, .inl (cI, 240, .inl (upd (upd (upd (upd (upd (upd t_parts ((t_rows * 6) + 0).toNatClampNeg x0) ((t_rows * 6) + 1).toNatClampNeg x1) ((t_rows * 6) + 2).toNatClampNeg x2) ((t_rows * 6) + 3).toNatClampNeg x3) ((t_rows * 6) + 4).toNatClampNeg t_length) ((t_rows * 6) + 5).toNatClampNeg 0))), (h2, .inl (cI, 512, .inl t_characters))] := hD
    refine lv_aload_n hx hb d_U_begin_84 rfl (lv_at hl 1 rfl) ?_
    refine lv_dup hx hb d_U_begin_85 rfl ?_
    refine va_get (D := (dC, dI)) (ci := 6) (v := .int t_rows) (C := R_U) (T := T_U) (N := 4) hx hb htl in_U hown hK hP 0 rfl rfl 2 (by decide) (htl _ mm_109) (fun _ h9 => h9) rfl d_U_begin_86 ?_
    refine lv_iconst (v := 1) hx hb d_U_begin_89 (by decide) ?_
    refine lv_iadd hx hb d_U_begin_90 ?_
    refine va_put (D := (dC, dI)) (ci := 6) (v := .int (t_rows + 1)) (ty := .int) (C := R_U) (T := T_U) (N := 4) hx hb htl in_U ty_U tyok_U nmok_U hown hK hP hD hS 0 rfl rfl 2 (by decide) (htl _ mm_109) (fun _ h9 => h9) rfl (by decide +kernel) rfl rfl (Nat.le_of_ble_eq_true rfl) d_U_begin_91 (fun H locs hP hD hS => ?_)
    have hP : va_P (dC, dI) vwCl [(h0, .inr (6, [.ref h1, .ref h2, .int (t_rows + 1), .int t_length])), (h1, .inl (cI, 240, .inl (upd (upd (upd (upd (upd (upd t_parts ((t_rows * 6) + 0).toNatClampNeg x0) ((t_rows * 6) + 1).toNatClampNeg x1) ((t_rows * 6) + 2).toNatClampNeg x2) ((t_rows * 6) + 3).toNatClampNeg x3) ((t_rows * 6) + 4).toNatClampNeg t_length) ((t_rows * 6) + 5).toNatClampNeg 0))), (h2, .inl (cI, 512, .inl t_characters))] H := hP
    have hD : va_D A [(h0, .inr (6, [.ref h1, .ref h2, .int (t_rows + 1), .int t_length])), (h1, .inl (cI, 240, .inl (upd (upd (upd (upd (upd (upd t_parts ((t_rows * 6) + 0).toNatClampNeg x0) ((t_rows * 6) + 1).toNatClampNeg x1) ((t_rows * 6) + 2).toNatClampNeg x2) ((t_rows * 6) + 3).toNatClampNeg x3) ((t_rows * 6) + 4).toNatClampNeg t_length) ((t_rows * 6) + 5).toNatClampNeg 0))), (h2, .inl (cI, 512, .inl t_characters))] := hD
    refine lv_aload_n hx hb d_U_begin_94 rfl (lv_at hl 1 rfl) ?_
    refine va_get (D := (dC, dI)) (ci := 6) (v := .int (t_rows + 1)) (C := R_U) (T := T_U) (N := 4) hx hb htl in_U hown hK hP 0 rfl rfl 2 (by decide) (htl _ mm_109) (fun _ h9 => h9) rfl d_U_begin_95 ?_
    refine lv_iconst (v := 1) hx hb d_U_begin_98 (by decide) ?_
    refine lv_isub hx hb d_U_begin_99 ?_
    cases h
    exact wk_iret K hP hS d_U_begin_100
  · have h := wk_neg h c8
    refine lv_iconst (v := (-1)) hx hb d_U_begin_9 (by decide) ?_
    cases h
    exact wk_iret K hP hS d_U_begin_10
/-! DocumentFile$Runs.append(I)V -/
abbrev rm_U_append : Room := { frames := 0, cells := 0, slots := 0, locals := 0 }
set_option maxHeartbeats 4000000 in
set_option maxRecDepth 100000 in
theorem c_U_append (l : Launch) (dC : Nat → ClassId) (dI : Nat → Nat → Nat) (cI cB cS : ClassId) (tT : Nat) (h0 h1 h2 : Nat) (t_parts : Nat → Int32) (t_characters : Nat → Int32) (t_rows : Int32) (t_length : Int32) (x0 : Int32)  (sz : Nat) (res : (Nat → Int32) × (Nat → Int32) × Int32) (h : r_U_append x0 t_parts t_characters t_rows t_length = some res) :
    Met l y_U_append w_U_append rm_U_append (wk_Pre dC dI cI cB cS tT [.ref h0, .int x0] [(h0, .inr (6, [.ref h1, .ref h2, .int t_rows, .int t_length])), (h1, .inl (cI, 240, .inl t_parts)), (h2, .inl (cI, 512, .inl t_characters))] sz) (wk_Qv dC dI [(h0, .inr (6, [.ref h1, .ref h2, .int t_rows, .int res.2.2])), (h1, .inl (cI, 240, .inl res.1)), (h2, .inl (cI, 512, .inl res.2.1))] (va_A [(h0, .inr (6, [.ref h1, .ref h2, .int t_rows, .int t_length])), (h1, .inl (cI, 240, .inl t_parts)), (h2, .inl (cI, 512, .inl t_characters))] sz)) 0 0 (va_A [(h0, .inr (6, [.ref h1, .ref h2, .int t_rows, .int t_length])), (h1, .inl (cI, 240, .inl t_parts)), (h2, .inl (cI, 512, .inl t_characters))] sz) := by
  refine wk_met (Qc := fun A => wk_Qv dC dI [(h0, .inr (6, [.ref h1, .ref h2, .int t_rows, .int res.2.2])), (h1, .inl (cI, 240, .inl res.1)), (h2, .inl (cI, 512, .inl res.2.1))] A) (by decide) [.ref h0, .int x0] [(h0, .inr (6, [.ref h1, .ref h2, .int t_rows, .int t_length])), (h1, .inl (cI, 240, .inl t_parts)), (h2, .inl (cI, 512, .inl t_characters))] sz (Nat.le_of_ble_eq_true rfl) (fun p e s m below meth c A ls K hP hD hS hl hin => ?_)
  have K : wk_X p s m ([.ref h0, .int x0] : List Value).toArray meth c b_U_append R_U 2 none dC dI cI cB cS tT A := K
  obtain ⟨hx, hb, hr, hml, hown, htl, hlk, hK, hZ, hT, hN, hA⟩ := id K
  have hl : lv_has ls 2 [(0, .ref h0), (1, .int x0)] := hl
  unfold r_U_append at h
  refine lv_aload_n hx hb d_U_append_0 rfl (lv_at hl 0 rfl) ?_
  refine va_get (D := (dC, dI)) (ci := 6) (v := .int t_rows) (C := R_U) (T := T_U) (N := 4) hx hb htl in_U hown hK hP 0 rfl rfl 2 (by decide) (htl _ mm_109) (fun _ h9 => h9) rfl d_U_append_1 ?_
  refine lv_iconst (v := 1) hx hb d_U_append_4 (by decide) ?_
  refine lv_icmp_lt (tgt := 58) hx hb d_U_append_5 (by decide) (fun c6 => ?_) (fun c6 => ?_)
  · have h := wk_pos h c6
    cases h
    exact wk_vret K hP hS d_U_append_58
  · have h := wk_neg h c6
    refine lv_aload_n hx hb d_U_append_8 rfl (lv_at hl 0 rfl) ?_
    refine va_get (D := (dC, dI)) (ci := 6) (v := .int t_length) (C := R_U) (T := T_U) (N := 4) hx hb htl in_U hown hK hP 0 rfl rfl 3 (by decide) (htl _ mm_110) (fun _ h9 => h9) rfl d_U_append_9 ?_
    refine lv_sipush (v := 512) hx hb d_U_append_12 (by decide) ?_
    refine lv_icmp_ge (tgt := 58) hx hb d_U_append_15 (by decide) (fun c7 => ?_) (fun c7 => ?_)
    · have h := wk_pos h c7
      cases h
      exact wk_vret K hP hS d_U_append_58
    · have h := wk_neg h c7
      refine lv_aload_n hx hb d_U_append_18 rfl (lv_at hl 0 rfl) ?_
      refine va_get (D := (dC, dI)) (ci := 6) (v := .ref h2) (C := R_U) (T := T_U) (N := 4) hx hb htl in_U hown hK hP 0 rfl rfl 1 (by decide) (htl _ mm_108) (fun _ h9 => h9) rfl d_U_append_19 ?_
      refine lv_aload_n hx hb d_U_append_22 rfl (lv_at hl 0 rfl) ?_
      refine va_get (D := (dC, dI)) (ci := 6) (v := .int t_length) (C := R_U) (T := T_U) (N := 4) hx hb htl in_U hown hK hP 0 rfl rfl 3 (by decide) (htl _ mm_110) (fun _ h9 => h9) rfl d_U_append_23 ?_
      refine lv_iload_n hx hb d_U_append_26 rfl (lv_at hl 1 rfl) ?_
      obtain ⟨g8, h⟩ := gi_some h
      refine va_iast hx hb hK hP hD hS 2 0 rfl rfl g8 d_U_append_27 (fun H locs hP hD hS => ?_)
      have hP : va_P (dC, dI) vwCl [(h0, .inr (6, [.ref h1, .ref h2, .int t_rows, .int t_length])), (h1, .inl (cI, 240, .inl t_parts)), (h2, .inl (cI, 512, .inl (upd t_characters t_length.toNatClampNeg x0)))] H := hP
      have hD : va_D A [(h0, .inr (6, [.ref h1, .ref h2, .int t_rows, .int t_length])), (h1, .inl (cI, 240, .inl t_parts)), (h2, .inl (cI, 512, .inl (upd t_characters t_length.toNatClampNeg x0)))] := hD
      refine lv_aload_n hx hb d_U_append_28 rfl (lv_at hl 0 rfl) ?_
      refine lv_dup hx hb d_U_append_29 rfl ?_
      refine va_get (D := (dC, dI)) (ci := 6) (v := .int t_length) (C := R_U) (T := T_U) (N := 4) hx hb htl in_U hown hK hP 0 rfl rfl 3 (by decide) (htl _ mm_110) (fun _ h9 => h9) rfl d_U_append_30 ?_
      refine lv_iconst (v := 1) hx hb d_U_append_33 (by decide) ?_
      refine lv_iadd hx hb d_U_append_34 ?_
      refine va_put (D := (dC, dI)) (ci := 6) (v := .int (t_length + 1)) (ty := .int) (C := R_U) (T := T_U) (N := 4) hx hb htl in_U ty_U tyok_U nmok_U hown hK hP hD hS 0 rfl rfl 3 (by decide) (htl _ mm_110) (fun _ h9 => h9) rfl (by decide +kernel) rfl rfl (Nat.le_of_ble_eq_true rfl) d_U_append_35 (fun H locs hP hD hS => ?_)
      have hP : va_P (dC, dI) vwCl [(h0, .inr (6, [.ref h1, .ref h2, .int t_rows, .int (t_length + 1)])), (h1, .inl (cI, 240, .inl t_parts)), (h2, .inl (cI, 512, .inl (upd t_characters t_length.toNatClampNeg x0)))] H := hP
      have hD : va_D A [(h0, .inr (6, [.ref h1, .ref h2, .int t_rows, .int (t_length + 1)])), (h1, .inl (cI, 240, .inl t_parts)), (h2, .inl (cI, 512, .inl (upd t_characters t_length.toNatClampNeg x0)))] := hD
      refine lv_aload_n hx hb d_U_append_38 rfl (lv_at hl 0 rfl) ?_
      refine va_get (D := (dC, dI)) (ci := 6) (v := .ref h1) (C := R_U) (T := T_U) (N := 4) hx hb htl in_U hown hK hP 0 rfl rfl 0 (by decide) (htl _ mm_107) (fun _ h9 => h9) rfl d_U_append_39 ?_
      refine lv_aload_n hx hb d_U_append_42 rfl (lv_at hl 0 rfl) ?_
      refine va_get (D := (dC, dI)) (ci := 6) (v := .int t_rows) (C := R_U) (T := T_U) (N := 4) hx hb htl in_U hown hK hP 0 rfl rfl 2 (by decide) (htl _ mm_109) (fun _ h9 => h9) rfl d_U_append_43 ?_
      refine lv_iconst (v := 1) hx hb d_U_append_46 (by decide) ?_
      refine lv_isub hx hb d_U_append_47 ?_
      refine lv_bipush (v := 6) hx hb d_U_append_48 (by decide) ?_
      refine lv_imul hx hb d_U_append_50 ?_
      refine lv_iconst (v := 5) hx hb d_U_append_51 (by decide) ?_
      refine lv_iadd hx hb d_U_append_52 ?_
      refine lv_dup2_11 hx hb d_U_append_53 rfl rfl ?_
      obtain ⟨g9, h⟩ := gi_some h
      refine va_iald hx hb hK hP 1 0 rfl rfl g9 d_U_append_54 ?_
      refine lv_iconst (v := 1) hx hb d_U_append_55 (by decide) ?_
      refine lv_iadd hx hb d_U_append_56 ?_
      obtain ⟨g10, h⟩ := gi_some h
      refine va_iast hx hb hK hP hD hS 1 0 rfl rfl g10 d_U_append_57 (fun H locs hP hD hS => ?_)
      have hP : va_P (dC, dI) vwCl [(h0, .inr (6, [.ref h1, .ref h2, .int t_rows, .int (t_length + 1)])), (h1, .inl (cI, 240, .inl (upd t_parts (((t_rows - 1) * 6) + 5).toNatClampNeg ((t_parts (((t_rows - 1) * 6) + 5).toNatClampNeg) + 1)))), (h2, .inl (cI, 512, .inl (upd t_characters t_length.toNatClampNeg x0)))] H := hP
      have hD : va_D A [(h0, .inr (6, [.ref h1, .ref h2, .int t_rows, .int (t_length + 1)])), (h1, .inl (cI, 240, .inl (upd t_parts (((t_rows - 1) * 6) + 5).toNatClampNeg ((t_parts (((t_rows - 1) * 6) + 5).toNatClampNeg) + 1)))), (h2, .inl (cI, 512, .inl (upd t_characters t_length.toNatClampNeg x0)))] := hD
      cases h
      exact wk_vret K hP hS d_U_append_58
/-! DocumentFile$Runs.rows()I -/
abbrev rm_U_rows : Room := { frames := 0, cells := 0, slots := 0, locals := 0 }
set_option maxHeartbeats 4000000 in
set_option maxRecDepth 100000 in
theorem c_U_rows (l : Launch) (dC : Nat → ClassId) (dI : Nat → Nat → Nat) (cI cB cS : ClassId) (tT : Nat) (h0 h1 h2 : Nat) (t_parts : Nat → Int32) (t_characters : Nat → Int32) (t_rows : Int32) (t_length : Int32)   (sz : Nat) (res : Int32) (h : r_U_rows t_rows = some res) :
    Met l y_U_rows w_U_rows rm_U_rows (wk_Pre dC dI cI cB cS tT [.ref h0] [(h0, .inr (6, [.ref h1, .ref h2, .int t_rows, .int t_length])), (h1, .inl (cI, 240, .inl t_parts)), (h2, .inl (cI, 512, .inl t_characters))] sz) (wk_Qi dC dI res [(h0, .inr (6, [.ref h1, .ref h2, .int t_rows, .int t_length])), (h1, .inl (cI, 240, .inl t_parts)), (h2, .inl (cI, 512, .inl t_characters))] (va_A [(h0, .inr (6, [.ref h1, .ref h2, .int t_rows, .int t_length])), (h1, .inl (cI, 240, .inl t_parts)), (h2, .inl (cI, 512, .inl t_characters))] sz)) 0 0 (va_A [(h0, .inr (6, [.ref h1, .ref h2, .int t_rows, .int t_length])), (h1, .inl (cI, 240, .inl t_parts)), (h2, .inl (cI, 512, .inl t_characters))] sz) := by
  refine wk_met (Qc := fun A => wk_Qi dC dI res [(h0, .inr (6, [.ref h1, .ref h2, .int t_rows, .int t_length])), (h1, .inl (cI, 240, .inl t_parts)), (h2, .inl (cI, 512, .inl t_characters))] A) (by decide) [.ref h0] [(h0, .inr (6, [.ref h1, .ref h2, .int t_rows, .int t_length])), (h1, .inl (cI, 240, .inl t_parts)), (h2, .inl (cI, 512, .inl t_characters))] sz (Nat.le_of_ble_eq_true rfl) (fun p e s m below meth c A ls K hP hD hS hl hin => ?_)
  have K : wk_X p s m ([.ref h0] : List Value).toArray meth c b_U_rows R_U 1 (some .int) dC dI cI cB cS tT A := K
  obtain ⟨hx, hb, hr, hml, hown, htl, hlk, hK, hZ, hT, hN, hA⟩ := id K
  have hl : lv_has ls 1 [(0, .ref h0)] := hl
  unfold r_U_rows at h
  refine lv_aload_n hx hb d_U_rows_0 rfl (lv_at hl 0 rfl) ?_
  refine va_get (D := (dC, dI)) (ci := 6) (v := .int t_rows) (C := R_U) (T := T_U) (N := 4) hx hb htl in_U hown hK hP 0 rfl rfl 2 (by decide) (htl _ mm_109) (fun _ h9 => h9) rfl d_U_rows_1 ?_
  cases h
  exact wk_iret K hP hS d_U_rows_4
/-! DocumentFile$Runs.length()I -/
abbrev rm_U_length : Room := { frames := 0, cells := 0, slots := 0, locals := 0 }
set_option maxHeartbeats 4000000 in
set_option maxRecDepth 100000 in
theorem c_U_length (l : Launch) (dC : Nat → ClassId) (dI : Nat → Nat → Nat) (cI cB cS : ClassId) (tT : Nat) (h0 h1 h2 : Nat) (t_parts : Nat → Int32) (t_characters : Nat → Int32) (t_rows : Int32) (t_length : Int32)   (sz : Nat) (res : Int32) (h : r_U_length t_length = some res) :
    Met l y_U_length w_U_length rm_U_length (wk_Pre dC dI cI cB cS tT [.ref h0] [(h0, .inr (6, [.ref h1, .ref h2, .int t_rows, .int t_length])), (h1, .inl (cI, 240, .inl t_parts)), (h2, .inl (cI, 512, .inl t_characters))] sz) (wk_Qi dC dI res [(h0, .inr (6, [.ref h1, .ref h2, .int t_rows, .int t_length])), (h1, .inl (cI, 240, .inl t_parts)), (h2, .inl (cI, 512, .inl t_characters))] (va_A [(h0, .inr (6, [.ref h1, .ref h2, .int t_rows, .int t_length])), (h1, .inl (cI, 240, .inl t_parts)), (h2, .inl (cI, 512, .inl t_characters))] sz)) 0 0 (va_A [(h0, .inr (6, [.ref h1, .ref h2, .int t_rows, .int t_length])), (h1, .inl (cI, 240, .inl t_parts)), (h2, .inl (cI, 512, .inl t_characters))] sz) := by
  refine wk_met (Qc := fun A => wk_Qi dC dI res [(h0, .inr (6, [.ref h1, .ref h2, .int t_rows, .int t_length])), (h1, .inl (cI, 240, .inl t_parts)), (h2, .inl (cI, 512, .inl t_characters))] A) (by decide) [.ref h0] [(h0, .inr (6, [.ref h1, .ref h2, .int t_rows, .int t_length])), (h1, .inl (cI, 240, .inl t_parts)), (h2, .inl (cI, 512, .inl t_characters))] sz (Nat.le_of_ble_eq_true rfl) (fun p e s m below meth c A ls K hP hD hS hl hin => ?_)
  have K : wk_X p s m ([.ref h0] : List Value).toArray meth c b_U_length R_U 1 (some .int) dC dI cI cB cS tT A := K
  obtain ⟨hx, hb, hr, hml, hown, htl, hlk, hK, hZ, hT, hN, hA⟩ := id K
  have hl : lv_has ls 1 [(0, .ref h0)] := hl
  unfold r_U_length at h
  refine lv_aload_n hx hb d_U_length_0 rfl (lv_at hl 0 rfl) ?_
  refine va_get (D := (dC, dI)) (ci := 6) (v := .int t_length) (C := R_U) (T := T_U) (N := 4) hx hb htl in_U hown hK hP 0 rfl rfl 3 (by decide) (htl _ mm_110) (fun _ h9 => h9) rfl d_U_length_1 ?_
  cases h
  exact wk_iret K hP hS d_U_length_4
/-! DocumentFile$Runs.part(II)I -/
abbrev rm_U_part : Room := { frames := 0, cells := 0, slots := 0, locals := 0 }
set_option maxHeartbeats 4000000 in
set_option maxRecDepth 100000 in
theorem c_U_part (l : Launch) (dC : Nat → ClassId) (dI : Nat → Nat → Nat) (cI cB cS : ClassId) (tT : Nat) (h0 h1 h2 : Nat) (t_parts : Nat → Int32) (t_characters : Nat → Int32) (t_rows : Int32) (t_length : Int32) (x0 : Int32) (x1 : Int32)  (sz : Nat) (res : Int32) (h : r_U_part x0 x1 t_parts t_rows = some res) :
    Met l y_U_part w_U_part rm_U_part (wk_Pre dC dI cI cB cS tT [.ref h0, .int x0, .int x1] [(h0, .inr (6, [.ref h1, .ref h2, .int t_rows, .int t_length])), (h1, .inl (cI, 240, .inl t_parts)), (h2, .inl (cI, 512, .inl t_characters))] sz) (wk_Qi dC dI res [(h0, .inr (6, [.ref h1, .ref h2, .int t_rows, .int t_length])), (h1, .inl (cI, 240, .inl t_parts)), (h2, .inl (cI, 512, .inl t_characters))] (va_A [(h0, .inr (6, [.ref h1, .ref h2, .int t_rows, .int t_length])), (h1, .inl (cI, 240, .inl t_parts)), (h2, .inl (cI, 512, .inl t_characters))] sz)) 0 0 (va_A [(h0, .inr (6, [.ref h1, .ref h2, .int t_rows, .int t_length])), (h1, .inl (cI, 240, .inl t_parts)), (h2, .inl (cI, 512, .inl t_characters))] sz) := by
  refine wk_met (Qc := fun A => wk_Qi dC dI res [(h0, .inr (6, [.ref h1, .ref h2, .int t_rows, .int t_length])), (h1, .inl (cI, 240, .inl t_parts)), (h2, .inl (cI, 512, .inl t_characters))] A) (by decide) [.ref h0, .int x0, .int x1] [(h0, .inr (6, [.ref h1, .ref h2, .int t_rows, .int t_length])), (h1, .inl (cI, 240, .inl t_parts)), (h2, .inl (cI, 512, .inl t_characters))] sz (Nat.le_of_ble_eq_true rfl) (fun p e s m below meth c A ls K hP hD hS hl hin => ?_)
  have K : wk_X p s m ([.ref h0, .int x0, .int x1] : List Value).toArray meth c b_U_part R_U 3 (some .int) dC dI cI cB cS tT A := K
  obtain ⟨hx, hb, hr, hml, hown, htl, hlk, hK, hZ, hT, hN, hA⟩ := id K
  have hl : lv_has ls 3 [(0, .ref h0), (1, .int x0), (2, .int x1)] := hl
  unfold r_U_part at h
  refine lv_iload_n hx hb d_U_part_0 rfl (lv_at hl 1 rfl) ?_
  refine lv_if_lt (tgt := 22) hx hb d_U_part_1 (by decide) (fun c6 => ?_) (fun c6 => ?_)
  · have h := wk_pos h c6
    refine lv_bipush (v := (-2)) hx hb d_U_part_22 (by decide) ?_
    cases h
    exact wk_iret K hP hS d_U_part_24
  · have h := wk_neg h c6
    refine lv_iload_n hx hb d_U_part_4 rfl (lv_at hl 1 rfl) ?_
    refine lv_aload_n hx hb d_U_part_5 rfl (lv_at hl 0 rfl) ?_
    refine va_get (D := (dC, dI)) (ci := 6) (v := .int t_rows) (C := R_U) (T := T_U) (N := 4) hx hb htl in_U hown hK hP 0 rfl rfl 2 (by decide) (htl _ mm_109) (fun _ h9 => h9) rfl d_U_part_6 ?_
    refine lv_icmp_ge (tgt := 22) hx hb d_U_part_9 (by decide) (fun c7 => ?_) (fun c7 => ?_)
    · have h := wk_pos h c7
      refine lv_bipush (v := (-2)) hx hb d_U_part_22 (by decide) ?_
      cases h
      exact wk_iret K hP hS d_U_part_24
    · have h := wk_neg h c7
      refine lv_iload_n hx hb d_U_part_12 rfl (lv_at hl 2 rfl) ?_
      refine lv_if_lt (tgt := 22) hx hb d_U_part_13 (by decide) (fun c8 => ?_) (fun c8 => ?_)
      · have h := wk_pos h c8
        refine lv_bipush (v := (-2)) hx hb d_U_part_22 (by decide) ?_
        cases h
        exact wk_iret K hP hS d_U_part_24
      · have h := wk_neg h c8
        refine lv_iload_n hx hb d_U_part_16 rfl (lv_at hl 2 rfl) ?_
        refine lv_bipush (v := 6) hx hb d_U_part_17 (by decide) ?_
        refine lv_icmp_lt (tgt := 25) hx hb d_U_part_19 (by decide) (fun c9 => ?_) (fun c9 => ?_)
        · have h := wk_pos h c9
          refine lv_aload_n hx hb d_U_part_25 rfl (lv_at hl 0 rfl) ?_
          refine va_get (D := (dC, dI)) (ci := 6) (v := .ref h1) (C := R_U) (T := T_U) (N := 4) hx hb htl in_U hown hK hP 0 rfl rfl 0 (by decide) (htl _ mm_107) (fun _ h9 => h9) rfl d_U_part_26 ?_
          refine lv_iload_n hx hb d_U_part_29 rfl (lv_at hl 1 rfl) ?_
          refine lv_bipush (v := 6) hx hb d_U_part_30 (by decide) ?_
          refine lv_imul hx hb d_U_part_32 ?_
          refine lv_iload_n hx hb d_U_part_33 rfl (lv_at hl 2 rfl) ?_
          refine lv_iadd hx hb d_U_part_34 ?_
          obtain ⟨g10, h⟩ := gi_some h
          refine va_iald hx hb hK hP 1 0 rfl rfl g10 d_U_part_35 ?_
          cases h
          exact wk_iret K hP hS d_U_part_36
        · have h := wk_neg h c9
          refine lv_bipush (v := (-2)) hx hb d_U_part_22 (by decide) ?_
          cases h
          exact wk_iret K hP hS d_U_part_24
/-! DocumentFile$Runs.character(I)I -/
abbrev rm_U_character : Room := { frames := 0, cells := 0, slots := 0, locals := 0 }
set_option maxHeartbeats 4000000 in
set_option maxRecDepth 100000 in
theorem c_U_character (l : Launch) (dC : Nat → ClassId) (dI : Nat → Nat → Nat) (cI cB cS : ClassId) (tT : Nat) (h0 h1 h2 : Nat) (t_parts : Nat → Int32) (t_characters : Nat → Int32) (t_rows : Int32) (t_length : Int32) (x0 : Int32)  (sz : Nat) (res : Int32) (h : r_U_character x0 t_characters t_length = some res) :
    Met l y_U_character w_U_character rm_U_character (wk_Pre dC dI cI cB cS tT [.ref h0, .int x0] [(h0, .inr (6, [.ref h1, .ref h2, .int t_rows, .int t_length])), (h1, .inl (cI, 240, .inl t_parts)), (h2, .inl (cI, 512, .inl t_characters))] sz) (wk_Qi dC dI res [(h0, .inr (6, [.ref h1, .ref h2, .int t_rows, .int t_length])), (h1, .inl (cI, 240, .inl t_parts)), (h2, .inl (cI, 512, .inl t_characters))] (va_A [(h0, .inr (6, [.ref h1, .ref h2, .int t_rows, .int t_length])), (h1, .inl (cI, 240, .inl t_parts)), (h2, .inl (cI, 512, .inl t_characters))] sz)) 0 0 (va_A [(h0, .inr (6, [.ref h1, .ref h2, .int t_rows, .int t_length])), (h1, .inl (cI, 240, .inl t_parts)), (h2, .inl (cI, 512, .inl t_characters))] sz) := by
  refine wk_met (Qc := fun A => wk_Qi dC dI res [(h0, .inr (6, [.ref h1, .ref h2, .int t_rows, .int t_length])), (h1, .inl (cI, 240, .inl t_parts)), (h2, .inl (cI, 512, .inl t_characters))] A) (by decide) [.ref h0, .int x0] [(h0, .inr (6, [.ref h1, .ref h2, .int t_rows, .int t_length])), (h1, .inl (cI, 240, .inl t_parts)), (h2, .inl (cI, 512, .inl t_characters))] sz (Nat.le_of_ble_eq_true rfl) (fun p e s m below meth c A ls K hP hD hS hl hin => ?_)
  have K : wk_X p s m ([.ref h0, .int x0] : List Value).toArray meth c b_U_character R_U 2 (some .int) dC dI cI cB cS tT A := K
  obtain ⟨hx, hb, hr, hml, hown, htl, hlk, hK, hZ, hT, hN, hA⟩ := id K
  have hl : lv_has ls 2 [(0, .ref h0), (1, .int x0)] := hl
  unfold r_U_character at h
  refine lv_iload_n hx hb d_U_character_0 rfl (lv_at hl 1 rfl) ?_
  refine lv_if_lt (tgt := 21) hx hb d_U_character_1 (by decide) (fun c4 => ?_) (fun c4 => ?_)
  · have h := wk_pos h c4
    refine lv_iconst (v := (-1)) hx hb d_U_character_21 (by decide) ?_
    cases h
    exact wk_iret K hP hS d_U_character_22
  · have h := wk_neg h c4
    refine lv_iload_n hx hb d_U_character_4 rfl (lv_at hl 1 rfl) ?_
    refine lv_aload_n hx hb d_U_character_5 rfl (lv_at hl 0 rfl) ?_
    refine va_get (D := (dC, dI)) (ci := 6) (v := .int t_length) (C := R_U) (T := T_U) (N := 4) hx hb htl in_U hown hK hP 0 rfl rfl 3 (by decide) (htl _ mm_110) (fun _ h9 => h9) rfl d_U_character_6 ?_
    refine lv_icmp_ge (tgt := 21) hx hb d_U_character_9 (by decide) (fun c5 => ?_) (fun c5 => ?_)
    · have h := wk_pos h c5
      refine lv_iconst (v := (-1)) hx hb d_U_character_21 (by decide) ?_
      cases h
      exact wk_iret K hP hS d_U_character_22
    · have h := wk_neg h c5
      refine lv_aload_n hx hb d_U_character_12 rfl (lv_at hl 0 rfl) ?_
      refine va_get (D := (dC, dI)) (ci := 6) (v := .ref h2) (C := R_U) (T := T_U) (N := 4) hx hb htl in_U hown hK hP 0 rfl rfl 1 (by decide) (htl _ mm_108) (fun _ h9 => h9) rfl d_U_character_13 ?_
      refine lv_iload_n hx hb d_U_character_16 rfl (lv_at hl 1 rfl) ?_
      obtain ⟨g6, h⟩ := gi_some h
      refine va_iald hx hb hK hP 2 0 rfl rfl g6 d_U_character_17 ?_
      refine lv_goto (tgt := 22) hx hb d_U_character_18 (by decide) ?_
      cases h
      exact wk_iret K hP hS d_U_character_22
