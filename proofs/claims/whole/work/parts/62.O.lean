/-! DocumentFile$Octets.size()I -/
abbrev rm_O_size : Room := { frames := 0, cells := 0, slots := 0, locals := 0 }
set_option maxHeartbeats 4000000 in
set_option maxRecDepth 100000 in
theorem c_O_size (l : Launch) (dC : Nat → ClassId) (dI : Nat → Nat → Nat) (cI cB cS : ClassId) (tT : Nat) (h0 h1 : Nat) (t_octets : Nat → Int32) (t_size : Int32)   (sz : Nat) (res : Int32) (h : r_O_size t_size = some res) :
    Met l y_O_size w_O_size rm_O_size (wk_Pre dC dI cI cB cS tT [.ref h0] [(h0, .inr (3, [.ref h1, .int t_size])), (h1, .inl (cI, 6000, .inl t_octets))] sz) (wk_Qi dC dI res [(h0, .inr (3, [.ref h1, .int t_size])), (h1, .inl (cI, 6000, .inl t_octets))] (va_A [(h0, .inr (3, [.ref h1, .int t_size])), (h1, .inl (cI, 6000, .inl t_octets))] sz)) 0 0 (va_A [(h0, .inr (3, [.ref h1, .int t_size])), (h1, .inl (cI, 6000, .inl t_octets))] sz) := by
  refine wk_met (Qc := fun A => wk_Qi dC dI res [(h0, .inr (3, [.ref h1, .int t_size])), (h1, .inl (cI, 6000, .inl t_octets))] A) (by decide) [.ref h0] [(h0, .inr (3, [.ref h1, .int t_size])), (h1, .inl (cI, 6000, .inl t_octets))] sz (Nat.le_of_ble_eq_true rfl) (fun p e s m below meth c A ls K hP hD hS hl hin => ?_)
  have K : wk_X p s m ([.ref h0] : List Value).toArray meth c b_O_size R_O 1 (some .int) dC dI cI cB cS tT A := K
  obtain ⟨hx, hb, hr, hml, hown, htl, hlk, hK, hZ, hT, hN, hA⟩ := id K
  have hl : lv_has ls 1 [(0, .ref h0)] := hl
  unfold r_O_size at h
  refine lv_aload_n hx hb d_O_size_0 rfl (lv_at hl 0 rfl) ?_
  refine va_get (D := (dC, dI)) (ci := 3) (v := .int t_size) (C := R_O) (T := T_O) (N := 2) hx hb htl in_O hown hK hP 0 rfl rfl 1 (by decide) (htl _ mm_155) (fun _ h9 => h9) rfl d_O_size_1 ?_
  cases h
  exact wk_iret K hP hS d_O_size_4
/-! DocumentFile$Octets.keep(I)Z -/
abbrev rm_O_keep : Room := { frames := 0, cells := 0, slots := 0, locals := 0 }
set_option maxHeartbeats 4000000 in
set_option maxRecDepth 100000 in
theorem c_O_keep (l : Launch) (dC : Nat → ClassId) (dI : Nat → Nat → Nat) (cI cB cS : ClassId) (tT : Nat) (h0 h1 : Nat) (t_octets : Nat → Int32) (t_size : Int32) (x0 : Int32)  (sz : Nat) (res : Int32 × Int32) (h : r_O_keep x0 t_size = some res) :
    Met l y_O_keep w_O_keep rm_O_keep (wk_Pre dC dI cI cB cS tT [.ref h0, .int x0] [(h0, .inr (3, [.ref h1, .int t_size])), (h1, .inl (cI, 6000, .inl t_octets))] sz) (wk_Qi dC dI res.1 [(h0, .inr (3, [.ref h1, .int res.2])), (h1, .inl (cI, 6000, .inl t_octets))] (va_A [(h0, .inr (3, [.ref h1, .int t_size])), (h1, .inl (cI, 6000, .inl t_octets))] sz)) 0 0 (va_A [(h0, .inr (3, [.ref h1, .int t_size])), (h1, .inl (cI, 6000, .inl t_octets))] sz) := by
  refine wk_met (Qc := fun A => wk_Qi dC dI res.1 [(h0, .inr (3, [.ref h1, .int res.2])), (h1, .inl (cI, 6000, .inl t_octets))] A) (by decide) [.ref h0, .int x0] [(h0, .inr (3, [.ref h1, .int t_size])), (h1, .inl (cI, 6000, .inl t_octets))] sz (Nat.le_of_ble_eq_true rfl) (fun p e s m below meth c A ls K hP hD hS hl hin => ?_)
  have K : wk_X p s m ([.ref h0, .int x0] : List Value).toArray meth c b_O_keep R_O 2 (some .boolean) dC dI cI cB cS tT A := K
  obtain ⟨hx, hb, hr, hml, hown, htl, hlk, hK, hZ, hT, hN, hA⟩ := id K
  have hl : lv_has ls 2 [(0, .ref h0), (1, .int x0)] := hl
  unfold r_O_keep at h
  refine lv_iload_n hx hb d_O_keep_0 rfl (lv_at hl 1 rfl) ?_
  refine lv_if_lt (tgt := 12) hx hb d_O_keep_1 (by decide) (fun c3 => ?_) (fun c3 => ?_)
  · have h := wk_pos h c3
    refine lv_iconst (v := 0) hx hb d_O_keep_12 (by decide) ?_
    cases h
    exact wk_zret K (Or.inl rfl) hP hS d_O_keep_13
  · have h := wk_neg h c3
    refine lv_iload_n hx hb d_O_keep_4 rfl (lv_at hl 1 rfl) ?_
    refine lv_aload_n hx hb d_O_keep_5 rfl (lv_at hl 0 rfl) ?_
    refine va_get (D := (dC, dI)) (ci := 3) (v := .int t_size) (C := R_O) (T := T_O) (N := 2) hx hb htl in_O hown hK hP 0 rfl rfl 1 (by decide) (htl _ mm_155) (fun _ h9 => h9) rfl d_O_keep_6 ?_
    refine lv_icmp_le (tgt := 14) hx hb d_O_keep_9 (by decide) (fun c4 => ?_) (fun c4 => ?_)
    · have h := wk_pos h c4
      refine lv_aload_n hx hb d_O_keep_14 rfl (lv_at hl 0 rfl) ?_
      refine lv_iload_n hx hb d_O_keep_15 rfl (lv_at hl 1 rfl) ?_
      refine va_put (D := (dC, dI)) (ci := 3) (v := .int x0) (ty := .int) (C := R_O) (T := T_O) (N := 2) hx hb htl in_O ty_O tyok_O nmok_O hown hK hP hD hS 0 rfl rfl 1 (by decide) (htl _ mm_155) (fun _ h9 => h9) rfl (by decide +kernel) rfl rfl (Nat.le_of_ble_eq_true rfl) d_O_keep_16 (fun H locs hP hD hS => ?_)
      have hP : va_P (dC, dI) vwCl [(h0, .inr (3, [.ref h1, .int x0])), (h1, .inl (cI, 6000, .inl t_octets))] H := hP
      have hD : va_D A [(h0, .inr (3, [.ref h1, .int x0])), (h1, .inl (cI, 6000, .inl t_octets))] := hD
      refine lv_iconst (v := 1) hx hb d_O_keep_19 (by decide) ?_
      cases h
      exact wk_zret K (Or.inr rfl) hP hS d_O_keep_20
    · have h := wk_neg h c4
      refine lv_iconst (v := 0) hx hb d_O_keep_12 (by decide) ?_
      cases h
      exact wk_zret K (Or.inl rfl) hP hS d_O_keep_13
/-! DocumentFile$Octets.append(I)Z -/
abbrev rm_O_append : Room := { frames := 0, cells := 0, slots := 0, locals := 0 }
set_option maxHeartbeats 4000000 in
set_option maxRecDepth 100000 in
theorem c_O_append (l : Launch) (dC : Nat → ClassId) (dI : Nat → Nat → Nat) (cI cB cS : ClassId) (tT : Nat) (h0 h1 : Nat) (t_octets : Nat → Int32) (t_size : Int32) (x0 : Int32)  (sz : Nat) (res : Int32 × (Nat → Int32) × Int32) (h : r_O_append x0 t_octets t_size = some res) :
    Met l y_O_append w_O_append rm_O_append (wk_Pre dC dI cI cB cS tT [.ref h0, .int x0] [(h0, .inr (3, [.ref h1, .int t_size])), (h1, .inl (cI, 6000, .inl t_octets))] sz) (wk_Qi dC dI res.1 [(h0, .inr (3, [.ref h1, .int res.2.2])), (h1, .inl (cI, 6000, .inl res.2.1))] (va_A [(h0, .inr (3, [.ref h1, .int t_size])), (h1, .inl (cI, 6000, .inl t_octets))] sz)) 0 0 (va_A [(h0, .inr (3, [.ref h1, .int t_size])), (h1, .inl (cI, 6000, .inl t_octets))] sz) := by
  refine wk_met (Qc := fun A => wk_Qi dC dI res.1 [(h0, .inr (3, [.ref h1, .int res.2.2])), (h1, .inl (cI, 6000, .inl res.2.1))] A) (by decide) [.ref h0, .int x0] [(h0, .inr (3, [.ref h1, .int t_size])), (h1, .inl (cI, 6000, .inl t_octets))] sz (Nat.le_of_ble_eq_true rfl) (fun p e s m below meth c A ls K hP hD hS hl hin => ?_)
  have K : wk_X p s m ([.ref h0, .int x0] : List Value).toArray meth c b_O_append R_O 2 (some .boolean) dC dI cI cB cS tT A := K
  obtain ⟨hx, hb, hr, hml, hown, htl, hlk, hK, hZ, hT, hN, hA⟩ := id K
  have hl : lv_has ls 2 [(0, .ref h0), (1, .int x0)] := hl
  unfold r_O_append at h
  refine lv_aload_n hx hb d_O_append_0 rfl (lv_at hl 0 rfl) ?_
  refine va_get (D := (dC, dI)) (ci := 3) (v := .int t_size) (C := R_O) (T := T_O) (N := 2) hx hb htl in_O hown hK hP 0 rfl rfl 1 (by decide) (htl _ mm_155) (fun _ h9 => h9) rfl d_O_append_1 ?_
  refine lv_sipush (v := 6000) hx hb d_O_append_4 (by decide) ?_
  refine lv_icmp_lt (tgt := 12) hx hb d_O_append_7 (by decide) (fun c3 => ?_) (fun c3 => ?_)
  · have h := wk_pos h c3
    refine lv_aload_n hx hb d_O_append_12 rfl (lv_at hl 0 rfl) ?_
    refine va_get (D := (dC, dI)) (ci := 3) (v := .ref h1) (C := R_O) (T := T_O) (N := 2) hx hb htl in_O hown hK hP 0 rfl rfl 0 (by decide) (htl _ mm_154) (fun _ h9 => h9) rfl d_O_append_13 ?_
    refine lv_aload_n hx hb d_O_append_16 rfl (lv_at hl 0 rfl) ?_
    refine va_get (D := (dC, dI)) (ci := 3) (v := .int t_size) (C := R_O) (T := T_O) (N := 2) hx hb htl in_O hown hK hP 0 rfl rfl 1 (by decide) (htl _ mm_155) (fun _ h9 => h9) rfl d_O_append_17 ?_
    refine lv_iload_n hx hb d_O_append_20 rfl (lv_at hl 1 rfl) ?_
    refine lv_sipush (v := 255) hx hb d_O_append_21 (by decide) ?_
    refine lv_iand hx hb d_O_append_24 ?_
    obtain ⟨g4, h⟩ := gi_some h
    refine va_iast hx hb hK hP hD hS 1 0 rfl rfl g4 d_O_append_25 (fun H locs hP hD hS => ?_)
    have hP : va_P (dC, dI) vwCl [(h0, .inr (3, [.ref h1, .int t_size])), (h1, .inl (cI, 6000, .inl (upd t_octets t_size.toNatClampNeg (x0 &&& 255))))] H := hP
    have hD : va_D A [(h0, .inr (3, [.ref h1, .int t_size])), (h1, .inl (cI, 6000, .inl (upd t_octets t_size.toNatClampNeg (x0 &&& 255))))] := hD
    refine lv_aload_n hx hb d_O_append_26 rfl (lv_at hl 0 rfl) ?_
    refine lv_dup hx hb d_O_append_27 rfl ?_
    refine va_get (D := (dC, dI)) (ci := 3) (v := .int t_size) (C := R_O) (T := T_O) (N := 2) hx hb htl in_O hown hK hP 0 rfl rfl 1 (by decide) (htl _ mm_155) (fun _ h9 => h9) rfl d_O_append_28 ?_
    refine lv_iconst (v := 1) hx hb d_O_append_31 (by decide) ?_
    refine lv_iadd hx hb d_O_append_32 ?_
    refine va_put (D := (dC, dI)) (ci := 3) (v := .int (t_size + 1)) (ty := .int) (C := R_O) (T := T_O) (N := 2) hx hb htl in_O ty_O tyok_O nmok_O hown hK hP hD hS 0 rfl rfl 1 (by decide) (htl _ mm_155) (fun _ h9 => h9) rfl (by decide +kernel) rfl rfl (Nat.le_of_ble_eq_true rfl) d_O_append_33 (fun H locs hP hD hS => ?_)
    have hP : va_P (dC, dI) vwCl [(h0, .inr (3, [.ref h1, .int (t_size + 1)])), (h1, .inl (cI, 6000, .inl (upd t_octets t_size.toNatClampNeg (x0 &&& 255))))] H := hP
    have hD : va_D A [(h0, .inr (3, [.ref h1, .int (t_size + 1)])), (h1, .inl (cI, 6000, .inl (upd t_octets t_size.toNatClampNeg (x0 &&& 255))))] := hD
    refine lv_iconst (v := 1) hx hb d_O_append_36 (by decide) ?_
    cases h
    exact wk_zret K (Or.inr rfl) hP hS d_O_append_37
  · have h := wk_neg h c3
    refine lv_iconst (v := 0) hx hb d_O_append_10 (by decide) ?_
    cases h
    exact wk_zret K (Or.inl rfl) hP hS d_O_append_11
/-! DocumentFile$Octets.get(I)I -/
abbrev rm_O_get : Room := { frames := 0, cells := 0, slots := 0, locals := 0 }
set_option maxHeartbeats 4000000 in
set_option maxRecDepth 100000 in
theorem c_O_get (l : Launch) (dC : Nat → ClassId) (dI : Nat → Nat → Nat) (cI cB cS : ClassId) (tT : Nat) (h0 h1 : Nat) (t_octets : Nat → Int32) (t_size : Int32) (x0 : Int32)  (sz : Nat) (res : Int32) (h : r_O_get x0 t_octets t_size = some res) :
    Met l y_O_get w_O_get rm_O_get (wk_Pre dC dI cI cB cS tT [.ref h0, .int x0] [(h0, .inr (3, [.ref h1, .int t_size])), (h1, .inl (cI, 6000, .inl t_octets))] sz) (wk_Qi dC dI res [(h0, .inr (3, [.ref h1, .int t_size])), (h1, .inl (cI, 6000, .inl t_octets))] (va_A [(h0, .inr (3, [.ref h1, .int t_size])), (h1, .inl (cI, 6000, .inl t_octets))] sz)) 0 0 (va_A [(h0, .inr (3, [.ref h1, .int t_size])), (h1, .inl (cI, 6000, .inl t_octets))] sz) := by
  refine wk_met (Qc := fun A => wk_Qi dC dI res [(h0, .inr (3, [.ref h1, .int t_size])), (h1, .inl (cI, 6000, .inl t_octets))] A) (by decide) [.ref h0, .int x0] [(h0, .inr (3, [.ref h1, .int t_size])), (h1, .inl (cI, 6000, .inl t_octets))] sz (Nat.le_of_ble_eq_true rfl) (fun p e s m below meth c A ls K hP hD hS hl hin => ?_)
  have K : wk_X p s m ([.ref h0, .int x0] : List Value).toArray meth c b_O_get R_O 2 (some .int) dC dI cI cB cS tT A := K
  obtain ⟨hx, hb, hr, hml, hown, htl, hlk, hK, hZ, hT, hN, hA⟩ := id K
  have hl : lv_has ls 2 [(0, .ref h0), (1, .int x0)] := hl
  unfold r_O_get at h
  refine lv_iload_n hx hb d_O_get_0 rfl (lv_at hl 1 rfl) ?_
  refine lv_if_lt (tgt := 21) hx hb d_O_get_1 (by decide) (fun c4 => ?_) (fun c4 => ?_)
  · have h := wk_pos h c4
    refine lv_iconst (v := (-1)) hx hb d_O_get_21 (by decide) ?_
    cases h
    exact wk_iret K hP hS d_O_get_22
  · have h := wk_neg h c4
    refine lv_iload_n hx hb d_O_get_4 rfl (lv_at hl 1 rfl) ?_
    refine lv_aload_n hx hb d_O_get_5 rfl (lv_at hl 0 rfl) ?_
    refine va_get (D := (dC, dI)) (ci := 3) (v := .int t_size) (C := R_O) (T := T_O) (N := 2) hx hb htl in_O hown hK hP 0 rfl rfl 1 (by decide) (htl _ mm_155) (fun _ h9 => h9) rfl d_O_get_6 ?_
    refine lv_icmp_ge (tgt := 21) hx hb d_O_get_9 (by decide) (fun c5 => ?_) (fun c5 => ?_)
    · have h := wk_pos h c5
      refine lv_iconst (v := (-1)) hx hb d_O_get_21 (by decide) ?_
      cases h
      exact wk_iret K hP hS d_O_get_22
    · have h := wk_neg h c5
      refine lv_aload_n hx hb d_O_get_12 rfl (lv_at hl 0 rfl) ?_
      refine va_get (D := (dC, dI)) (ci := 3) (v := .ref h1) (C := R_O) (T := T_O) (N := 2) hx hb htl in_O hown hK hP 0 rfl rfl 0 (by decide) (htl _ mm_154) (fun _ h9 => h9) rfl d_O_get_13 ?_
      refine lv_iload_n hx hb d_O_get_16 rfl (lv_at hl 1 rfl) ?_
      obtain ⟨g6, h⟩ := gi_some h
      refine va_iald hx hb hK hP 1 0 rfl rfl g6 d_O_get_17 ?_
      refine lv_goto (tgt := 22) hx hb d_O_get_18 (by decide) ?_
      cases h
      exact wk_iret K hP hS d_O_get_22
/-! DocumentFile$Octets.put(II)Z -/
abbrev rm_O_put : Room := { frames := 0, cells := 0, slots := 0, locals := 0 }
set_option maxHeartbeats 4000000 in
set_option maxRecDepth 100000 in
theorem c_O_put (l : Launch) (dC : Nat → ClassId) (dI : Nat → Nat → Nat) (cI cB cS : ClassId) (tT : Nat) (h0 h1 : Nat) (t_octets : Nat → Int32) (t_size : Int32) (x0 : Int32) (x1 : Int32)  (sz : Nat) (res : Int32 × (Nat → Int32)) (h : r_O_put x0 x1 t_octets t_size = some res) :
    Met l y_O_put w_O_put rm_O_put (wk_Pre dC dI cI cB cS tT [.ref h0, .int x0, .int x1] [(h0, .inr (3, [.ref h1, .int t_size])), (h1, .inl (cI, 6000, .inl t_octets))] sz) (wk_Qi dC dI res.1 [(h0, .inr (3, [.ref h1, .int t_size])), (h1, .inl (cI, 6000, .inl res.2))] (va_A [(h0, .inr (3, [.ref h1, .int t_size])), (h1, .inl (cI, 6000, .inl t_octets))] sz)) 0 0 (va_A [(h0, .inr (3, [.ref h1, .int t_size])), (h1, .inl (cI, 6000, .inl t_octets))] sz) := by
  refine wk_met (Qc := fun A => wk_Qi dC dI res.1 [(h0, .inr (3, [.ref h1, .int t_size])), (h1, .inl (cI, 6000, .inl res.2))] A) (by decide) [.ref h0, .int x0, .int x1] [(h0, .inr (3, [.ref h1, .int t_size])), (h1, .inl (cI, 6000, .inl t_octets))] sz (Nat.le_of_ble_eq_true rfl) (fun p e s m below meth c A ls K hP hD hS hl hin => ?_)
  have K : wk_X p s m ([.ref h0, .int x0, .int x1] : List Value).toArray meth c b_O_put R_O 3 (some .boolean) dC dI cI cB cS tT A := K
  obtain ⟨hx, hb, hr, hml, hown, htl, hlk, hK, hZ, hT, hN, hA⟩ := id K
  have hl : lv_has ls 3 [(0, .ref h0), (1, .int x0), (2, .int x1)] := hl
  unfold r_O_put at h
  refine lv_iload_n hx hb d_O_put_0 rfl (lv_at hl 1 rfl) ?_
  refine lv_if_lt (tgt := 12) hx hb d_O_put_1 (by decide) (fun c4 => ?_) (fun c4 => ?_)
  · have h := wk_pos h c4
    refine lv_iconst (v := 0) hx hb d_O_put_12 (by decide) ?_
    cases h
    exact wk_zret K (Or.inl rfl) hP hS d_O_put_13
  · have h := wk_neg h c4
    refine lv_iload_n hx hb d_O_put_4 rfl (lv_at hl 1 rfl) ?_
    refine lv_aload_n hx hb d_O_put_5 rfl (lv_at hl 0 rfl) ?_
    refine va_get (D := (dC, dI)) (ci := 3) (v := .int t_size) (C := R_O) (T := T_O) (N := 2) hx hb htl in_O hown hK hP 0 rfl rfl 1 (by decide) (htl _ mm_155) (fun _ h9 => h9) rfl d_O_put_6 ?_
    refine lv_icmp_lt (tgt := 14) hx hb d_O_put_9 (by decide) (fun c5 => ?_) (fun c5 => ?_)
    · have h := wk_pos h c5
      refine lv_aload_n hx hb d_O_put_14 rfl (lv_at hl 0 rfl) ?_
      refine va_get (D := (dC, dI)) (ci := 3) (v := .ref h1) (C := R_O) (T := T_O) (N := 2) hx hb htl in_O hown hK hP 0 rfl rfl 0 (by decide) (htl _ mm_154) (fun _ h9 => h9) rfl d_O_put_15 ?_
      refine lv_iload_n hx hb d_O_put_18 rfl (lv_at hl 1 rfl) ?_
      refine lv_iload_n hx hb d_O_put_19 rfl (lv_at hl 2 rfl) ?_
      refine lv_sipush (v := 255) hx hb d_O_put_20 (by decide) ?_
      refine lv_iand hx hb d_O_put_23 ?_
      obtain ⟨g6, h⟩ := gi_some h
      refine va_iast hx hb hK hP hD hS 1 0 rfl rfl g6 d_O_put_24 (fun H locs hP hD hS => ?_)
      have hP : va_P (dC, dI) vwCl [(h0, .inr (3, [.ref h1, .int t_size])), (h1, .inl (cI, 6000, .inl (upd t_octets x0.toNatClampNeg (x1 &&& 255))))] H := hP
      have hD : va_D A [(h0, .inr (3, [.ref h1, .int t_size])), (h1, .inl (cI, 6000, .inl (upd t_octets x0.toNatClampNeg (x1 &&& 255))))] := hD
      refine lv_iconst (v := 1) hx hb d_O_put_25 (by decide) ?_
      cases h
      exact wk_zret K (Or.inr rfl) hP hS d_O_put_26
    · have h := wk_neg h c5
      refine lv_iconst (v := 0) hx hb d_O_put_12 (by decide) ?_
      cases h
      exact wk_zret K (Or.inl rfl) hP hS d_O_put_13
