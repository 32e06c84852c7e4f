/-! DocumentFileModel.row(III)I -/
abbrev rm_Z_row : Room := { frames := 0, cells := 0, slots := 0, locals := 0 }
set_option maxHeartbeats 4000000 in
set_option maxRecDepth 100000 in
theorem c_Z_row (l : Launch) (dC : Nat → ClassId) (dI : Nat → Nat → Nat) (cI cB cS : ClassId) (tT : Nat)   (x0 : Int32) (x1 : Int32) (x2 : Int32)  (sz : Nat) (res : Int32) (h : r_Z_row x0 x1 x2 = some res) :
    Met l y_Z_row w_Z_row rm_Z_row (wk_Pre dC dI cI cB cS tT [.int x0, .int x1, .int x2] [] sz) (wk_Qi dC dI res [] (va_A [] sz)) 0 0 (va_A [] sz) := by
  refine wk_met (Qc := fun A => wk_Qi dC dI res [] A) (by decide) [.int x0, .int x1, .int x2] [] sz (Nat.le_of_ble_eq_true rfl) (fun p e s m below meth c A ls K hP hD hS hl hin => ?_)
  have K : wk_X p s m ([.int x0, .int x1, .int x2] : List Value).toArray meth c b_Z_row R_Z 3 (some .int) dC dI cI cB cS tT A := K
  obtain ⟨hx, hb, hr, hml, hown, htl, hlk, hK, hZ, hT, hN, hA⟩ := id K
  have hl : lv_has ls 3 [(0, .int x0), (1, .int x1), (2, .int x2)] := hl
  unfold r_Z_row at h
  refine lv_sipush (v := 960) hx hb d_Z_row_0 (by decide) ?_
  refine lv_iload_n hx hb d_Z_row_3 rfl (lv_at hl 0 rfl) ?_
  refine lv_imul hx hb d_Z_row_4 ?_
  refine lv_iload_n hx hb d_Z_row_5 rfl (lv_at hl 1 rfl) ?_
  refine lv_if_ne (tgt := 16) hx hb d_Z_row_6 (by decide) (fun c2 => ?_) (fun c2 => ?_)
  · have h := wk_neg h c2
    refine lv_sipush (v := 384) hx hb d_Z_row_16 (by decide) ?_
    refine lv_bipush (v := 24) hx hb d_Z_row_19 (by decide) ?_
    refine lv_iload_n hx hb d_Z_row_21 rfl (lv_at hl 2 rfl) ?_
    refine lv_imul hx hb d_Z_row_22 ?_
    refine lv_iadd hx hb d_Z_row_23 ?_
    refine lv_iadd hx hb d_Z_row_24 ?_
    cases h
    exact wk_iret K hP hS d_Z_row_25
  · have h := wk_pos h c2
    refine lv_bipush (v := 24) hx hb d_Z_row_9 (by decide) ?_
    refine lv_iload_n hx hb d_Z_row_11 rfl (lv_at hl 2 rfl) ?_
    refine lv_imul hx hb d_Z_row_12 ?_
    refine lv_goto (tgt := 24) hx hb d_Z_row_13 (by decide) ?_
    refine lv_iadd hx hb d_Z_row_24 ?_
    cases h
    exact wk_iret K hP hS d_Z_row_25
