/-! DocumentFileModel.isText(I)Z -/
abbrev rm_Z_isText : Room := { frames := 1, cells := 0, slots := 0, locals := 22 }
set_option maxHeartbeats 4000000 in
set_option maxRecDepth 100000 in
theorem c_Z_isText (l : Launch) (dC : Nat → ClassId) (dI : Nat → Nat → Nat) (cI cB cS : ClassId) (tT : Nat)   (x0 : Int32)  (sz : Nat) (res : Int32) (h : r_Z_isText x0 = some res) :
    Met l y_Z_isText w_Z_isText rm_Z_isText (wk_Pre dC dI cI cB cS tT [.int x0] [] sz) (wk_Qi dC dI res [] (va_A [] sz)) 0 0 (va_A [] sz) := by
  refine wk_met (Qc := fun A => wk_Qi dC dI res [] A) (by decide) [.int x0] [] sz (Nat.le_of_ble_eq_true rfl) (fun p e s m below meth c A ls K hP hD hS hl hin => ?_)
  have K : wk_X p s m ([.int x0] : List Value).toArray meth c b_Z_isText R_Z 1 (some .boolean) dC dI cI cB cS tT A := K
  obtain ⟨hx, hb, hr, hml, hown, htl, hlk, hK, hZ, hT, hN, hA⟩ := id K
  have hl : lv_has ls 1 [(0, .int x0)] := hl
  unfold r_Z_isText at h
  refine lv_iload_n hx hb d_Z_isText_0 rfl (lv_at hl 0 rfl) ?_
  refine lv_bipush (v := 9) hx hb d_Z_isText_1 (by decide) ?_
  refine lv_icmp_eq (tgt := 36) hx hb d_Z_isText_3 (by decide) (fun c7 => ?_) (fun c7 => ?_)
  · have h := wk_pos h c7
    refine lv_iconst (v := 1) hx hb d_Z_isText_36 (by decide) ?_
    refine lv_goto (tgt := 41) hx hb d_Z_isText_37 (by decide) ?_
    cases h
    exact wk_zret K (Or.inr rfl) hP hS d_Z_isText_41
  · have h := wk_neg h c7
    refine lv_iload_n hx hb d_Z_isText_6 rfl (lv_at hl 0 rfl) ?_
    refine lv_bipush (v := 12) hx hb d_Z_isText_7 (by decide) ?_
    refine lv_icmp_eq (tgt := 36) hx hb d_Z_isText_9 (by decide) (fun c8 => ?_) (fun c8 => ?_)
    · have h := wk_pos h c8
      refine lv_iconst (v := 1) hx hb d_Z_isText_36 (by decide) ?_
      refine lv_goto (tgt := 41) hx hb d_Z_isText_37 (by decide) ?_
      cases h
      exact wk_zret K (Or.inr rfl) hP hS d_Z_isText_41
    · have h := wk_neg h c8
      refine lv_iload_n hx hb d_Z_isText_12 rfl (lv_at hl 0 rfl) ?_
      refine lv_bipush (v := 32) hx hb d_Z_isText_13 (by decide) ?_
      refine lv_bipush (v := 126) hx hb d_Z_isText_15 (by decide) ?_
      obtain ⟨z9, hz9, h⟩ := wk_bind h
      refine wk_calli (wc := []) (wc' := []) K hP hD hS [] rfl rfl (va_runS (As := [.int x0, .int 32, .int 126]) (rest := []) ⟨hx, hb, hml, hown, htl⟩ (c_Z_in l dC dI cI cB cS tT x0 32 126 _ z9 hz9) (va_cwS 3 htl g_Z_70 rfl rfl rfl (by decide +kernel) ⟨Nat.le_of_ble_eq_true rfl, Nat.le_of_ble_eq_true rfl⟩) (wk_preS K hP hD hS [] rfl rfl) rfl rfl hl.1 rfl (lv_room (Nat.le_of_ble_eq_true rfl)) d_Z_isText_17 ⟨Nat.zero_le _, Nat.zero_le _⟩) (fun H locs hP hD hS => ?_)
      refine lv_if_ne (tgt := 36) hx hb d_Z_isText_20 (by decide) (fun c10 => ?_) (fun c10 => ?_)
      · have h := wk_neg h c10
        refine lv_iconst (v := 1) hx hb d_Z_isText_36 (by decide) ?_
        refine lv_goto (tgt := 41) hx hb d_Z_isText_37 (by decide) ?_
        cases h
        exact wk_zret K (Or.inr rfl) hP hS d_Z_isText_41
      · have h := wk_pos h c10
        refine lv_iload_n hx hb d_Z_isText_23 rfl (lv_at hl 0 rfl) ?_
        refine lv_sipush (v := 160) hx hb d_Z_isText_24 (by decide) ?_
        refine lv_sipush (v := 255) hx hb d_Z_isText_27 (by decide) ?_
        obtain ⟨z11, hz11, h⟩ := wk_bind h
        refine wk_calli (wc := []) (wc' := []) K hP hD hS [] rfl rfl (va_runS (As := [.int x0, .int 160, .int 255]) (rest := []) ⟨hx, hb, hml, hown, htl⟩ (c_Z_in l dC dI cI cB cS tT x0 160 255 _ z11 hz11) (va_cwS 3 htl g_Z_70 rfl rfl rfl (by decide +kernel) ⟨Nat.le_of_ble_eq_true rfl, Nat.le_of_ble_eq_true rfl⟩) (wk_preS K hP hD hS [] rfl rfl) rfl rfl hl.1 rfl (lv_room (Nat.le_of_ble_eq_true rfl)) d_Z_isText_30 ⟨Nat.zero_le _, Nat.zero_le _⟩) (fun H locs hP hD hS => ?_)
        refine lv_if_eq (tgt := 40) hx hb d_Z_isText_33 (by decide) (fun c12 => ?_) (fun c12 => ?_)
        · have h := wk_pos h c12
          refine lv_iconst (v := 0) hx hb d_Z_isText_40 (by decide) ?_
          cases h
          exact wk_zret K (Or.inl rfl) hP hS d_Z_isText_41
        · have h := wk_neg h c12
          refine lv_iconst (v := 1) hx hb d_Z_isText_36 (by decide) ?_
          refine lv_goto (tgt := 41) hx hb d_Z_isText_37 (by decide) ?_
          cases h
          exact wk_zret K (Or.inr rfl) hP hS d_Z_isText_41
