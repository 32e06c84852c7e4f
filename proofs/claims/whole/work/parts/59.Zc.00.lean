/-! DocumentFileModel.count(I)I -/
abbrev rm_Z_count : Room := { frames := 0, cells := 0, slots := 0, locals := 0 }
set_option maxHeartbeats 4000000 in
set_option maxRecDepth 100000 in
theorem c_Z_count (l : Launch) (dC : Nat → ClassId) (dI : Nat → Nat → Nat) (cI cB cS : ClassId) (tT : Nat) (h0 h1 h2 h3 h4 h5 h6 h7 h8 h9 h10 h11 h12 h13 h14 h15 h16 h17 h18 h19 : Nat) (t_length : Int32) (t_file : Nat → Int32) (t_now : Int32) (t_styles : Nat → Int32) (t_sets : Nat → Int32) (t_marks : Nat → Int32) (t_runs : Nat → Int32) (t_characters : Nat → Int32) (t_base : Nat → Int32) (t_own : Nat → Int32) (t_inserted : Nat → Int32) (t_erased : Nat → Int32) (t_old : Nat → Int32) (t_kind : Nat → Int32) (t_setOf : Nat → Int32) (t_markOf : Nat → Int32) (t_styleOf : Nat → Int32) (t_many : Nat → Int32) (t_text : Nat → Int32) (t_setNumber : Nat → Int32) (t_markNumber : Nat → Int32) (t_writtenSets : Int32) (t_writtenMarks : Int32) (t_at : Int32) (t_item : Int32) (t_fault : Int32) (x0 : Int32)  (sz : Nat) (res : Int32) (h : r_Z_count x0 t_length t_now t_styles t_sets t_marks t_runs t_characters = some res) :
    Met l y_Z_count w_Z_count rm_Z_count (wk_Pre dC dI cI cB cS tT [.ref h0, .int x0] [(h0, .inr (8, [.int t_length, .ref h1, .int t_now, .ref h2, .ref h3, .ref h4, .ref h5, .ref h6, .ref h7, .ref h8, .ref h9, .ref h10, .ref h11, .ref h12, .ref h13, .ref h14, .ref h15, .ref h16, .ref h17, .ref h18, .ref h19, .int t_writtenSets, .int t_writtenMarks, .int t_at, .int t_item, .int t_fault])), (h1, .inl (cB, 6000, .inl t_file)), (h2, .inl (cI, 2, .inl t_styles)), (h3, .inl (cI, 2, .inl t_sets)), (h4, .inl (cI, 2, .inl t_marks)), (h5, .inl (cI, 2, .inl t_runs)), (h6, .inl (cI, 2, .inl t_characters)), (h7, .inl (cI, 32, .inl t_base)), (h8, .inl (cI, 1920, .inl t_own)), (h9, .inl (cS, 48, .inl t_inserted)), (h10, .inl (cS, 48, .inl t_erased)), (h11, .inl (cS, 48, .inl t_old)), (h12, .inl (cS, 80, .inl t_kind)), (h13, .inl (cS, 80, .inl t_setOf)), (h14, .inl (cS, 80, .inl t_markOf)), (h15, .inl (cS, 80, .inl t_styleOf)), (h16, .inl (cS, 80, .inl t_many)), (h17, .inl (cS, 1024, .inl t_text)), (h18, .inl (cI, 24, .inl t_setNumber)), (h19, .inl (cI, 24, .inl t_markNumber))] sz) (wk_Qi dC dI res [(h0, .inr (8, [.int t_length, .ref h1, .int t_now, .ref h2, .ref h3, .ref h4, .ref h5, .ref h6, .ref h7, .ref h8, .ref h9, .ref h10, .ref h11, .ref h12, .ref h13, .ref h14, .ref h15, .ref h16, .ref h17, .ref h18, .ref h19, .int t_writtenSets, .int t_writtenMarks, .int t_at, .int t_item, .int t_fault])), (h1, .inl (cB, 6000, .inl t_file)), (h2, .inl (cI, 2, .inl t_styles)), (h3, .inl (cI, 2, .inl t_sets)), (h4, .inl (cI, 2, .inl t_marks)), (h5, .inl (cI, 2, .inl t_runs)), (h6, .inl (cI, 2, .inl t_characters)), (h7, .inl (cI, 32, .inl t_base)), (h8, .inl (cI, 1920, .inl t_own)), (h9, .inl (cS, 48, .inl t_inserted)), (h10, .inl (cS, 48, .inl t_erased)), (h11, .inl (cS, 48, .inl t_old)), (h12, .inl (cS, 80, .inl t_kind)), (h13, .inl (cS, 80, .inl t_setOf)), (h14, .inl (cS, 80, .inl t_markOf)), (h15, .inl (cS, 80, .inl t_styleOf)), (h16, .inl (cS, 80, .inl t_many)), (h17, .inl (cS, 1024, .inl t_text)), (h18, .inl (cI, 24, .inl t_setNumber)), (h19, .inl (cI, 24, .inl t_markNumber))] (va_A [(h0, .inr (8, [.int t_length, .ref h1, .int t_now, .ref h2, .ref h3, .ref h4, .ref h5, .ref h6, .ref h7, .ref h8, .ref h9, .ref h10, .ref h11, .ref h12, .ref h13, .ref h14, .ref h15, .ref h16, .ref h17, .ref h18, .ref h19, .int t_writtenSets, .int t_writtenMarks, .int t_at, .int t_item, .int t_fault])), (h1, .inl (cB, 6000, .inl t_file)), (h2, .inl (cI, 2, .inl t_styles)), (h3, .inl (cI, 2, .inl t_sets)), (h4, .inl (cI, 2, .inl t_marks)), (h5, .inl (cI, 2, .inl t_runs)), (h6, .inl (cI, 2, .inl t_characters)), (h7, .inl (cI, 32, .inl t_base)), (h8, .inl (cI, 1920, .inl t_own)), (h9, .inl (cS, 48, .inl t_inserted)), (h10, .inl (cS, 48, .inl t_erased)), (h11, .inl (cS, 48, .inl t_old)), (h12, .inl (cS, 80, .inl t_kind)), (h13, .inl (cS, 80, .inl t_setOf)), (h14, .inl (cS, 80, .inl t_markOf)), (h15, .inl (cS, 80, .inl t_styleOf)), (h16, .inl (cS, 80, .inl t_many)), (h17, .inl (cS, 1024, .inl t_text)), (h18, .inl (cI, 24, .inl t_setNumber)), (h19, .inl (cI, 24, .inl t_markNumber))] sz)) 0 0 (va_A [(h0, .inr (8, [.int t_length, .ref h1, .int t_now, .ref h2, .ref h3, .ref h4, .ref h5, .ref h6, .ref h7, .ref h8, .ref h9, .ref h10, .ref h11, .ref h12, .ref h13, .ref h14, .ref h15, .ref h16, .ref h17, .ref h18, .ref h19, .int t_writtenSets, .int t_writtenMarks, .int t_at, .int t_item, .int t_fault])), (h1, .inl (cB, 6000, .inl t_file)), (h2, .inl (cI, 2, .inl t_styles)), (h3, .inl (cI, 2, .inl t_sets)), (h4, .inl (cI, 2, .inl t_marks)), (h5, .inl (cI, 2, .inl t_runs)), (h6, .inl (cI, 2, .inl t_characters)), (h7, .inl (cI, 32, .inl t_base)), (h8, .inl (cI, 1920, .inl t_own)), (h9, .inl (cS, 48, .inl t_inserted)), (h10, .inl (cS, 48, .inl t_erased)), (h11, .inl (cS, 48, .inl t_old)), (h12, .inl (cS, 80, .inl t_kind)), (h13, .inl (cS, 80, .inl t_setOf)), (h14, .inl (cS, 80, .inl t_markOf)), (h15, .inl (cS, 80, .inl t_styleOf)), (h16, .inl (cS, 80, .inl t_many)), (h17, .inl (cS, 1024, .inl t_text)), (h18, .inl (cI, 24, .inl t_setNumber)), (h19, .inl (cI, 24, .inl t_markNumber))] sz) := by
  refine wk_met (Qc := fun A => wk_Qi dC dI res [(h0, .inr (8, [.int t_length, .ref h1, .int t_now, .ref h2, .ref h3, .ref h4, .ref h5, .ref h6, .ref h7, .ref h8, .ref h9, .ref h10, .ref h11, .ref h12, .ref h13, .ref h14, .ref h15, .ref h16, .ref h17, .ref h18, .ref h19, .int t_writtenSets, .int t_writtenMarks, .int t_at, .int t_item, .int t_fault])), (h1, .inl (cB, 6000, .inl t_file)), (h2, .inl (cI, 2, .inl t_styles)), (h3, .inl (cI, 2, .inl t_sets)), (h4, .inl (cI, 2, .inl t_marks)), (h5, .inl (cI, 2, .inl t_runs)), (h6, .inl (cI, 2, .inl t_characters)), (h7, .inl (cI, 32, .inl t_base)), (h8, .inl (cI, 1920, .inl t_own)), (h9, .inl (cS, 48, .inl t_inserted)), (h10, .inl (cS, 48, .inl t_erased)), (h11, .inl (cS, 48, .inl t_old)), (h12, .inl (cS, 80, .inl t_kind)), (h13, .inl (cS, 80, .inl t_setOf)), (h14, .inl (cS, 80, .inl t_markOf)), (h15, .inl (cS, 80, .inl t_styleOf)), (h16, .inl (cS, 80, .inl t_many)), (h17, .inl (cS, 1024, .inl t_text)), (h18, .inl (cI, 24, .inl t_setNumber)), (h19, .inl (cI, 24, .inl t_markNumber))] A) (by decide) [.ref h0, .int x0] [(h0, .inr (8, [.int t_length, .ref h1, .int t_now, .ref h2, .ref h3, .ref h4, .ref h5, .ref h6, .ref h7, .ref h8, .ref h9, .ref h10, .ref h11, .ref h12, .ref h13, .ref h14, .ref h15, .ref h16, .ref h17, .ref h18, .ref h19, .int t_writtenSets, .int t_writtenMarks, .int t_at, .int t_item, .int t_fault])), (h1, .inl (cB, 6000, .inl t_file)), (h2, .inl (cI, 2, .inl t_styles)), (h3, .inl (cI, 2, .inl t_sets)), (h4, .inl (cI, 2, .inl t_marks)), (h5, .inl (cI, 2, .inl t_runs)), (h6, .inl (cI, 2, .inl t_characters)), (h7, .inl (cI, 32, .inl t_base)), (h8, .inl (cI, 1920, .inl t_own)), (h9, .inl (cS, 48, .inl t_inserted)), (h10, .inl (cS, 48, .inl t_erased)), (h11, .inl (cS, 48, .inl t_old)), (h12, .inl (cS, 80, .inl t_kind)), (h13, .inl (cS, 80, .inl t_setOf)), (h14, .inl (cS, 80, .inl t_markOf)), (h15, .inl (cS, 80, .inl t_styleOf)), (h16, .inl (cS, 80, .inl t_many)), (h17, .inl (cS, 1024, .inl t_text)), (h18, .inl (cI, 24, .inl t_setNumber)), (h19, .inl (cI, 24, .inl t_markNumber))] sz (Nat.le_of_ble_eq_true rfl) (fun p e s m below meth c A ls K hP hD hS hl hin => ?_)
  have K : wk_X p s m ([.ref h0, .int x0] : List Value).toArray meth c b_Z_count R_Z 2 (some .int) dC dI cI cB cS tT A := K
  obtain ⟨hx, hb, hr, hml, hown, htl, hlk, hK, hZ, hT, hN, hA⟩ := id K
  have hl : lv_has ls 2 [(0, .ref h0), (1, .int x0)] := hl
  unfold r_Z_count at h
  refine lv_iload_n hx hb d_Z_count_0 rfl (lv_at hl 1 rfl) ?_
  rcases Decidable.em (x0 = 0) with c7_0 | c7_0
  · have h := wk_pos h c7_0
    refine lv_tableIn (tgt := 40) hx hb d_Z_count_1 (by rw [c7_0]; decide) (by rw [c7_0]; decide) (by rw [c7_0]; rfl) (by decide) ?_
    refine lv_aload_n hx hb d_Z_count_40 rfl (lv_at hl 0 rfl) ?_
    refine va_get (D := (dC, dI)) (ci := 8) (v := .ref h2) (C := R_Z) (T := T_Z) (N := 26) hx hb htl in_Z hown hK hP 0 rfl rfl 3 (by decide) (htl _ mm_586) (fun _ h9 => h9) rfl d_Z_count_41 ?_
    refine lv_aload_n hx hb d_Z_count_44 rfl (lv_at hl 0 rfl) ?_
    refine va_get (D := (dC, dI)) (ci := 8) (v := .int t_now) (C := R_Z) (T := T_Z) (N := 26) hx hb htl in_Z hown hK hP 0 rfl rfl 2 (by decide) (htl _ mm_585) (fun _ h9 => h9) rfl d_Z_count_45 ?_
    obtain ⟨g8, h⟩ := gi_some h
    refine va_iald hx hb hK hP 2 0 rfl rfl g8 d_Z_count_48 ?_
    cases h
    exact wk_iret K hP hS d_Z_count_49
  · have h := wk_neg h c7_0
    rcases Decidable.em (x0 = 1) with c7_1 | c7_1
    · have h := wk_pos h c7_1
      refine lv_tableIn (tgt := 50) hx hb d_Z_count_1 (by rw [c7_1]; decide) (by rw [c7_1]; decide) (by rw [c7_1]; rfl) (by decide) ?_
      refine lv_aload_n hx hb d_Z_count_50 rfl (lv_at hl 0 rfl) ?_
      refine va_get (D := (dC, dI)) (ci := 8) (v := .ref h3) (C := R_Z) (T := T_Z) (N := 26) hx hb htl in_Z hown hK hP 0 rfl rfl 4 (by decide) (htl _ mm_587) (fun _ h9 => h9) rfl d_Z_count_51 ?_
      refine lv_aload_n hx hb d_Z_count_54 rfl (lv_at hl 0 rfl) ?_
      refine va_get (D := (dC, dI)) (ci := 8) (v := .int t_now) (C := R_Z) (T := T_Z) (N := 26) hx hb htl in_Z hown hK hP 0 rfl rfl 2 (by decide) (htl _ mm_585) (fun _ h9 => h9) rfl d_Z_count_55 ?_
      obtain ⟨g9, h⟩ := gi_some h
      refine va_iald hx hb hK hP 3 0 rfl rfl g9 d_Z_count_58 ?_
      cases h
      exact wk_iret K hP hS d_Z_count_59
    · have h := wk_neg h c7_1
      rcases Decidable.em (x0 = 2) with c7_2 | c7_2
      · have h := wk_pos h c7_2
        refine lv_tableIn (tgt := 60) hx hb d_Z_count_1 (by rw [c7_2]; decide) (by rw [c7_2]; decide) (by rw [c7_2]; rfl) (by decide) ?_
        refine lv_aload_n hx hb d_Z_count_60 rfl (lv_at hl 0 rfl) ?_
        refine va_get (D := (dC, dI)) (ci := 8) (v := .ref h4) (C := R_Z) (T := T_Z) (N := 26) hx hb htl in_Z hown hK hP 0 rfl rfl 5 (by decide) (htl _ mm_588) (fun _ h9 => h9) rfl d_Z_count_61 ?_
        refine lv_aload_n hx hb d_Z_count_64 rfl (lv_at hl 0 rfl) ?_
        refine va_get (D := (dC, dI)) (ci := 8) (v := .int t_now) (C := R_Z) (T := T_Z) (N := 26) hx hb htl in_Z hown hK hP 0 rfl rfl 2 (by decide) (htl _ mm_585) (fun _ h9 => h9) rfl d_Z_count_65 ?_
        obtain ⟨g10, h⟩ := gi_some h
        refine va_iald hx hb hK hP 4 0 rfl rfl g10 d_Z_count_68 ?_
        cases h
        exact wk_iret K hP hS d_Z_count_69
      · have h := wk_neg h c7_2
        rcases Decidable.em (x0 = 3) with c7_3 | c7_3
        · have h := wk_pos h c7_3
          refine lv_tableIn (tgt := 70) hx hb d_Z_count_1 (by rw [c7_3]; decide) (by rw [c7_3]; decide) (by rw [c7_3]; rfl) (by decide) ?_
          refine lv_aload_n hx hb d_Z_count_70 rfl (lv_at hl 0 rfl) ?_
          refine va_get (D := (dC, dI)) (ci := 8) (v := .ref h5) (C := R_Z) (T := T_Z) (N := 26) hx hb htl in_Z hown hK hP 0 rfl rfl 6 (by decide) (htl _ mm_589) (fun _ h9 => h9) rfl d_Z_count_71 ?_
          refine lv_aload_n hx hb d_Z_count_74 rfl (lv_at hl 0 rfl) ?_
          refine va_get (D := (dC, dI)) (ci := 8) (v := .int t_now) (C := R_Z) (T := T_Z) (N := 26) hx hb htl in_Z hown hK hP 0 rfl rfl 2 (by decide) (htl _ mm_585) (fun _ h9 => h9) rfl d_Z_count_75 ?_
          obtain ⟨g11, h⟩ := gi_some h
          refine va_iald hx hb hK hP 5 0 rfl rfl g11 d_Z_count_78 ?_
          cases h
          exact wk_iret K hP hS d_Z_count_79
        · have h := wk_neg h c7_3
          rcases Decidable.em (x0 = 4) with c7_4 | c7_4
          · have h := wk_pos h c7_4
            refine lv_tableIn (tgt := 80) hx hb d_Z_count_1 (by rw [c7_4]; decide) (by rw [c7_4]; decide) (by rw [c7_4]; rfl) (by decide) ?_
            refine lv_aload_n hx hb d_Z_count_80 rfl (lv_at hl 0 rfl) ?_
            refine va_get (D := (dC, dI)) (ci := 8) (v := .ref h6) (C := R_Z) (T := T_Z) (N := 26) hx hb htl in_Z hown hK hP 0 rfl rfl 7 (by decide) (htl _ mm_590) (fun _ h9 => h9) rfl d_Z_count_81 ?_
            refine lv_aload_n hx hb d_Z_count_84 rfl (lv_at hl 0 rfl) ?_
            refine va_get (D := (dC, dI)) (ci := 8) (v := .int t_now) (C := R_Z) (T := T_Z) (N := 26) hx hb htl in_Z hown hK hP 0 rfl rfl 2 (by decide) (htl _ mm_585) (fun _ h9 => h9) rfl d_Z_count_85 ?_
            obtain ⟨g12, h⟩ := gi_some h
            refine va_iald hx hb hK hP 6 0 rfl rfl g12 d_Z_count_88 ?_
            cases h
            exact wk_iret K hP hS d_Z_count_89
          · have h := wk_neg h c7_4
            rcases Decidable.em (x0 = 5) with c7_5 | c7_5
            · have h := wk_pos h c7_5
              refine lv_tableIn (tgt := 90) hx hb d_Z_count_1 (by rw [c7_5]; decide) (by rw [c7_5]; decide) (by rw [c7_5]; rfl) (by decide) ?_
              refine lv_aload_n hx hb d_Z_count_90 rfl (lv_at hl 0 rfl) ?_
              refine va_get (D := (dC, dI)) (ci := 8) (v := .int t_length) (C := R_Z) (T := T_Z) (N := 26) hx hb htl in_Z hown hK hP 0 rfl rfl 0 (by decide) (htl _ mm_583) (fun _ h9 => h9) rfl d_Z_count_91 ?_
              cases h
              exact wk_iret K hP hS d_Z_count_94
            · have h := wk_neg h c7_5
              refine lv_tableOut (tgt := 95) hx hb d_Z_count_1 (wk_out (n := 6) (by decide) (fun k hk => match k, hk with | 0, _ => c7_0 | 1, _ => c7_1 | 2, _ => c7_2 | 3, _ => c7_3 | 4, _ => c7_4 | 5, _ => c7_5 | k + 6, hk => absurd hk (by omega))) (by decide) ?_
              refine lv_iconst (v := (-1)) hx hb d_Z_count_95 (by decide) ?_
              cases h
              exact wk_iret K hP hS d_Z_count_96
