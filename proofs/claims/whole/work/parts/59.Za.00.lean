/-! DocumentFileModel.in(III)Z -/
abbrev rm_Z_in : Room := { frames := 0, cells := 0, slots := 0, locals := 0 }
set_option maxHeartbeats 4000000 in
set_option maxRecDepth 100000 in
theorem c_Z_in (l : Launch) (dC : Nat → ClassId) (dI : Nat → Nat → Nat) (cI cB cS : ClassId) (tT : Nat)   (x0 : Int32) (x1 : Int32) (x2 : Int32)  (sz : Nat) (res : Int32) (h : r_Z_in x0 x1 x2 = some res) :
    Met l y_Z_in w_Z_in rm_Z_in (wk_Pre dC dI cI cB cS tT [.int x0, .int x1, .int x2] [] sz) (wk_Qi dC dI res [] (va_A [] sz)) 0 0 (va_A [] sz) := by
  refine wk_met (Qc := fun A => wk_Qi dC dI res [] A) (by decide) [.int x0, .int x1, .int x2] [] sz (Nat.le_of_ble_eq_true rfl) (fun p e s m below meth c A ls K hP hD hS hl hin => ?_)
  have K : wk_X p s m ([.int x0, .int x1, .int x2] : List Value).toArray meth c b_Z_in R_Z 3 (some .boolean) dC dI cI cB cS tT A := K
  obtain ⟨hx, hb, hr, hml, hown, htl, hlk, hK, hZ, hT, hN, hA⟩ := id K
  have hl : lv_has ls 3 [(0, .int x0), (1, .int x1), (2, .int x2)] := hl
  unfold r_Z_in at h
  refine lv_iload_n hx hb d_Z_in_0 rfl (lv_at hl 0 rfl) ?_
  refine lv_iload_n hx hb d_Z_in_1 rfl (lv_at hl 1 rfl) ?_
  refine lv_icmp_lt (tgt := 14) hx hb d_Z_in_2 (by decide) (fun c3 => ?_) (fun c3 => ?_)
  · have h := wk_pos h c3
    refine lv_iconst (v := 0) hx hb d_Z_in_14 (by decide) ?_
    cases h
    exact wk_zret K (Or.inl rfl) hP hS d_Z_in_15
  · have h := wk_neg h c3
    refine lv_iload_n hx hb d_Z_in_5 rfl (lv_at hl 0 rfl) ?_
    refine lv_iload_n hx hb d_Z_in_6 rfl (lv_at hl 2 rfl) ?_
    refine lv_icmp_gt (tgt := 14) hx hb d_Z_in_7 (by decide) (fun c4 => ?_) (fun c4 => ?_)
    · have h := wk_pos h c4
      refine lv_iconst (v := 0) hx hb d_Z_in_14 (by decide) ?_
      cases h
      exact wk_zret K (Or.inl rfl) hP hS d_Z_in_15
    · have h := wk_neg h c4
      refine lv_iconst (v := 1) hx hb d_Z_in_10 (by decide) ?_
      refine lv_goto (tgt := 15) hx hb d_Z_in_11 (by decide) ?_
      cases h
      exact wk_zret K (Or.inr rfl) hP hS d_Z_in_15
