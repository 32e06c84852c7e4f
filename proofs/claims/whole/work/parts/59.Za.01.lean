/-! DocumentFileModel.most(I)I -/
abbrev rm_Z_most : Room := { frames := 0, cells := 0, slots := 0, locals := 0 }
set_option maxHeartbeats 4000000 in
set_option maxRecDepth 100000 in
theorem c_Z_most (l : Launch) (dC : Nat → ClassId) (dI : Nat → Nat → Nat) (cI cB cS : ClassId) (tT : Nat)   (x0 : Int32)  (sz : Nat) (res : Int32) (h : r_Z_most x0 = some res) :
    Met l y_Z_most w_Z_most rm_Z_most (wk_Pre dC dI cI cB cS tT [.int x0] [] sz) (wk_Qi dC dI res [] (va_A [] sz)) 0 0 (va_A [] sz) := by
  refine wk_met (Qc := fun A => wk_Qi dC dI res [] A) (by decide) [.int x0] [] sz (Nat.le_of_ble_eq_true rfl) (fun p e s m below meth c A ls K hP hD hS hl hin => ?_)
  have K : wk_X p s m ([.int x0] : List Value).toArray meth c b_Z_most R_Z 1 (some .int) dC dI cI cB cS tT A := K
  obtain ⟨hx, hb, hr, hml, hown, htl, hlk, hK, hZ, hT, hN, hA⟩ := id K
  have hl : lv_has ls 1 [(0, .int x0)] := hl
  unfold r_Z_most at h
  refine lv_iload_n hx hb d_Z_most_0 rfl (lv_at hl 0 rfl) ?_
  refine lv_bipush (v := 8) hx hb d_Z_most_1 (by decide) ?_
  refine lv_icmp_ge (tgt := 10) hx hb d_Z_most_3 (by decide) (fun c3 => ?_) (fun c3 => ?_)
  · have h := wk_pos h c3
    refine lv_iload_n hx hb d_Z_most_10 rfl (lv_at hl 0 rfl) ?_
    refine lv_bipush (v := 16) hx hb d_Z_most_11 (by decide) ?_
    refine lv_icmp_ge (tgt := 22) hx hb d_Z_most_13 (by decide) (fun c4 => ?_) (fun c4 => ?_)
    · have h := wk_pos h c4
      refine lv_ldc (v := 65535) hx hb hown (htl _ mm_705) d_Z_most_22 ?_
      cases h
      exact wk_iret K hP hS d_Z_most_24
    · have h := wk_neg h c4
      refine lv_sipush (v := 255) hx hb d_Z_most_16 (by decide) ?_
      refine lv_goto (tgt := 24) hx hb d_Z_most_19 (by decide) ?_
      cases h
      exact wk_iret K hP hS d_Z_most_24
  · have h := wk_neg h c3
    refine lv_iconst (v := 1) hx hb d_Z_most_6 (by decide) ?_
    refine lv_goto (tgt := 24) hx hb d_Z_most_7 (by decide) ?_
    cases h
    exact wk_iret K hP hS d_Z_most_24
