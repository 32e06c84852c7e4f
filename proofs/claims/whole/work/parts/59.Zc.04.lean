/-! DocumentFileModel.run(II)I -/
abbrev rm_Z_run : Room := { frames := 1, cells := 0, slots := 0, locals := 22 }
set_option maxHeartbeats 4000000 in
set_option maxRecDepth 100000 in
theorem tl_Z_run_53 {p : Program} {l : Launch} {e : Env} {s : State} {m : MethodId} {args : Array Value} {below : List Frame} {meth : Method} {c : Code} {dC : Nat → ClassId} {dI : Nat → Nat → Nat} {cI cB cS : ClassId} {tT : Nat} {A : Nat → Prop} {h0 h1 h2 h3 h4 h5 h6 h7 h8 h9 h10 h11 h12 h13 h14 h15 h16 h17 h18 h19 : Nat} (K : wk_X p s m args meth c b_Z_run R_Z 6 (some .int) dC dI cI cB cS tT A) (N : Nat) (y2 : Int32) (y3 : Int32) (t_length : Int32) (t_file : Nat → Int32) (t_now : Int32) (t_styles : Nat → Int32) (t_sets : Nat → Int32) (t_marks : Nat → Int32) (t_runs : Nat → Int32) (t_characters : Nat → Int32) (t_base : Nat → Int32) (t_own : Nat → Int32) (t_inserted : Nat → Int32) (t_erased : Nat → Int32) (t_old : Nat → Int32) (t_kind : Nat → Int32) (t_setOf : Nat → Int32) (t_markOf : Nat → Int32) (t_styleOf : Nat → Int32) (t_many : Nat → Int32) (t_text : Nat → Int32) (t_setNumber : Nat → Int32) (t_markNumber : Nat → Int32) (t_writtenSets : Int32) (t_writtenMarks : Int32) (t_at : Int32) (t_item : Int32) (t_fault : Int32) (res : Int32)   : ∀ (n : Nat) (y4 : Int32) (y5 : Int32), l_Z_run_53 N y2 y3 t_now t_runs t_kind t_setOf t_markOf t_styleOf t_many n y4 y5 = some res → ∀ (H : Heap) (locs : List Loc) (ls : Array Slot), va_P (dC, dI) vwCl [(h0, .inr (8, [.int t_length, .ref h1, .int t_now, .ref h2, .ref h3, .ref h4, .ref h5, .ref h6, .ref h7, .ref h8, .ref h9, .ref h10, .ref h11, .ref h12, .ref h13, .ref h14, .ref h15, .ref h16, .ref h17, .ref h18, .ref h19, .int t_writtenSets, .int t_writtenMarks, .int t_at, .int t_item, .int t_fault])), (h1, .inl (cB, 6000, .inl t_file)), (h2, .inl (cI, 2, .inl t_styles)), (h3, .inl (cI, 2, .inl t_sets)), (h4, .inl (cI, 2, .inl t_marks)), (h5, .inl (cI, 2, .inl t_runs)), (h6, .inl (cI, 2, .inl t_characters)), (h7, .inl (cI, 32, .inl t_base)), (h8, .inl (cI, 1920, .inl t_own)), (h9, .inl (cS, 48, .inl t_inserted)), (h10, .inl (cS, 48, .inl t_erased)), (h11, .inl (cS, 48, .inl t_old)), (h12, .inl (cS, 80, .inl t_kind)), (h13, .inl (cS, 80, .inl t_setOf)), (h14, .inl (cS, 80, .inl t_markOf)), (h15, .inl (cS, 80, .inl t_styleOf)), (h16, .inl (cS, 80, .inl t_many)), (h17, .inl (cS, 1024, .inl t_text)), (h18, .inl (cI, 24, .inl t_setNumber)), (h19, .inl (cI, 24, .inl t_markNumber))] H → va_D A [(h0, .inr (8, [.int t_length, .ref h1, .int t_now, .ref h2, .ref h3, .ref h4, .ref h5, .ref h6, .ref h7, .ref h8, .ref h9, .ref h10, .ref h11, .ref h12, .ref h13, .ref h14, .ref h15, .ref h16, .ref h17, .ref h18, .ref h19, .int t_writtenSets, .int t_writtenMarks, .int t_at, .int t_item, .int t_fault])), (h1, .inl (cB, 6000, .inl t_file)), (h2, .inl (cI, 2, .inl t_styles)), (h3, .inl (cI, 2, .inl t_sets)), (h4, .inl (cI, 2, .inl t_marks)), (h5, .inl (cI, 2, .inl t_runs)), (h6, .inl (cI, 2, .inl t_characters)), (h7, .inl (cI, 32, .inl t_base)), (h8, .inl (cI, 1920, .inl t_own)), (h9, .inl (cS, 48, .inl t_inserted)), (h10, .inl (cS, 48, .inl t_erased)), (h11, .inl (cS, 48, .inl t_old)), (h12, .inl (cS, 80, .inl t_kind)), (h13, .inl (cS, 80, .inl t_setOf)), (h14, .inl (cS, 80, .inl t_markOf)), (h15, .inl (cS, 80, .inl t_styleOf)), (h16, .inl (cS, 80, .inl t_many)), (h17, .inl (cS, 1024, .inl t_text)), (h18, .inl (cI, 24, .inl t_setNumber)), (h19, .inl (cI, 24, .inl t_markNumber))] → va_S A s.heap H locs → lv_has ls 6 [(0, .ref h0), (2, .int y2), (3, .int y3), (4, .int y4), (5, .int y5)] → W p l e rm_Z_run s m args below meth c H locs 0 0 (MQ below (wk_Qi dC dI res [(h0, .inr (8, [.int t_length, .ref h1, .int t_now, .ref h2, .ref h3, .ref h4, .ref h5, .ref h6, .ref h7, .ref h8, .ref h9, .ref h10, .ref h11, .ref h12, .ref h13, .ref h14, .ref h15, .ref h16, .ref h17, .ref h18, .ref h19, .int t_writtenSets, .int t_writtenMarks, .int t_at, .int t_item, .int t_fault])), (h1, .inl (cB, 6000, .inl t_file)), (h2, .inl (cI, 2, .inl t_styles)), (h3, .inl (cI, 2, .inl t_sets)), (h4, .inl (cI, 2, .inl t_marks)), (h5, .inl (cI, 2, .inl t_runs)), (h6, .inl (cI, 2, .inl t_characters)), (h7, .inl (cI, 32, .inl t_base)), (h8, .inl (cI, 1920, .inl t_own)), (h9, .inl (cS, 48, .inl t_inserted)), (h10, .inl (cS, 48, .inl t_erased)), (h11, .inl (cS, 48, .inl t_old)), (h12, .inl (cS, 80, .inl t_kind)), (h13, .inl (cS, 80, .inl t_setOf)), (h14, .inl (cS, 80, .inl t_markOf)), (h15, .inl (cS, 80, .inl t_styleOf)), (h16, .inl (cS, 80, .inl t_many)), (h17, .inl (cS, 1024, .inl t_text)), (h18, .inl (cI, 24, .inl t_setNumber)), (h19, .inl (cI, 24, .inl t_markNumber))] A) args s 0 0 A) (F0 m 53 ls []) := by
  obtain ⟨hx, hb, hr, hml, hown, htl, hlk, hK, hZ, hT, hN, hA⟩ := id K
  intro n
  induction n with
  | zero =>
    intro y4 y5 h
    rw [l_Z_run_53] at h
    cases h
  | succ n ih =>
    intro y4 y5 h H locs ls hP hD hS hl
    rw [l_Z_run_53] at h
    refine lv_iload hx hb d_Z_run_53 (lv_at hl 4 rfl) ?_
    refine lv_iload_n hx hb d_Z_run_55 rfl (lv_at hl 2 rfl) ?_
    refine lv_icmp_ge (tgt := 77) hx hb d_Z_run_56 (by decide) (fun c18 => ?_) (fun c18 => ?_)
    · have h := wk_pos h c18
      refine lv_iload_n hx hb d_Z_run_77 rfl (lv_at hl 1 rfl) ?_
      refine lv_if_ne (tgt := 90) hx hb d_Z_run_78 (by decide) (fun c19 => ?_) (fun c19 => ?_)
      · have h := wk_neg h c19
        refine lv_iload_n hx hb d_Z_run_90 rfl (lv_at hl 1 rfl) ?_
        refine lv_iconst (v := 1) hx hb d_Z_run_91 (by decide) ?_
        refine lv_icmp_ne (tgt := 104) hx hb d_Z_run_92 (by decide) (fun c20 => ?_) (fun c20 => ?_)
        · have h := wk_neg h c20
          refine lv_iload_n hx hb d_Z_run_104 rfl (lv_at hl 1 rfl) ?_
          refine lv_iconst (v := 2) hx hb d_Z_run_105 (by decide) ?_
          refine lv_icmp_ne (tgt := 118) hx hb d_Z_run_106 (by decide) (fun c21 => ?_) (fun c21 => ?_)
          · have h := wk_neg h c21
            refine lv_iload_n hx hb d_Z_run_118 rfl (lv_at hl 1 rfl) ?_
            refine lv_iconst (v := 3) hx hb d_Z_run_119 (by decide) ?_
            refine lv_icmp_ne (tgt := 132) hx hb d_Z_run_120 (by decide) (fun c22 => ?_) (fun c22 => ?_)
            · have h := wk_neg h c22
              refine lv_iload_n hx hb d_Z_run_132 rfl (lv_at hl 1 rfl) ?_
              refine lv_iconst (v := 4) hx hb d_Z_run_133 (by decide) ?_
              refine lv_icmp_ne (tgt := 142) hx hb d_Z_run_134 (by decide) (fun c23 => ?_) (fun c23 => ?_)
              · have h := wk_neg h c23
                refine lv_aload_n hx hb d_Z_run_142 rfl (lv_at hl 0 rfl) ?_
                refine va_get (D := (dC, dI)) (ci := 8) (v := .ref h16) (C := R_Z) (T := T_Z) (N := 26) hx hb htl in_Z hown hK hP 0 rfl rfl 17 (by decide) (htl _ mm_600) (fun _ h9 => h9) rfl d_Z_run_143 ?_
                refine lv_iload_n hx hb d_Z_run_146 rfl (lv_at hl 2 rfl) ?_
                obtain ⟨g24, h⟩ := gi_some h
                refine va_sald hx hb hK hP 16 2 rfl rfl g24 d_Z_run_147 ?_
                cases h
                exact wk_iret K hP hS d_Z_run_148
              · have h := wk_pos h c23
                refine lv_iload hx hb d_Z_run_137 (lv_at hl 3 rfl) ?_
                refine lv_goto (tgt := 148) hx hb d_Z_run_139 (by decide) ?_
                cases h
                exact wk_iret K hP hS d_Z_run_148
            · have h := wk_pos h c22
              refine lv_aload_n hx hb d_Z_run_123 rfl (lv_at hl 0 rfl) ?_
              refine va_get (D := (dC, dI)) (ci := 8) (v := .ref h15) (C := R_Z) (T := T_Z) (N := 26) hx hb htl in_Z hown hK hP 0 rfl rfl 16 (by decide) (htl _ mm_599) (fun _ h9 => h9) rfl d_Z_run_124 ?_
              refine lv_iload_n hx hb d_Z_run_127 rfl (lv_at hl 2 rfl) ?_
              obtain ⟨g25, h⟩ := gi_some h
              refine va_sald hx hb hK hP 15 2 rfl rfl g25 d_Z_run_128 ?_
              refine lv_goto (tgt := 148) hx hb d_Z_run_129 (by decide) ?_
              cases h
              exact wk_iret K hP hS d_Z_run_148
          · have h := wk_pos h c21
            refine lv_aload_n hx hb d_Z_run_109 rfl (lv_at hl 0 rfl) ?_
            refine va_get (D := (dC, dI)) (ci := 8) (v := .ref h14) (C := R_Z) (T := T_Z) (N := 26) hx hb htl in_Z hown hK hP 0 rfl rfl 15 (by decide) (htl _ mm_598) (fun _ h9 => h9) rfl d_Z_run_110 ?_
            refine lv_iload_n hx hb d_Z_run_113 rfl (lv_at hl 2 rfl) ?_
            obtain ⟨g26, h⟩ := gi_some h
            refine va_sald hx hb hK hP 14 2 rfl rfl g26 d_Z_run_114 ?_
            refine lv_goto (tgt := 148) hx hb d_Z_run_115 (by decide) ?_
            cases h
            exact wk_iret K hP hS d_Z_run_148
        · have h := wk_pos h c20
          refine lv_aload_n hx hb d_Z_run_95 rfl (lv_at hl 0 rfl) ?_
          refine va_get (D := (dC, dI)) (ci := 8) (v := .ref h13) (C := R_Z) (T := T_Z) (N := 26) hx hb htl in_Z hown hK hP 0 rfl rfl 14 (by decide) (htl _ mm_597) (fun _ h9 => h9) rfl d_Z_run_96 ?_
          refine lv_iload_n hx hb d_Z_run_99 rfl (lv_at hl 2 rfl) ?_
          obtain ⟨g27, h⟩ := gi_some h
          refine va_sald hx hb hK hP 13 2 rfl rfl g27 d_Z_run_100 ?_
          refine lv_goto (tgt := 148) hx hb d_Z_run_101 (by decide) ?_
          cases h
          exact wk_iret K hP hS d_Z_run_148
      · have h := wk_pos h c19
        refine lv_aload_n hx hb d_Z_run_81 rfl (lv_at hl 0 rfl) ?_
        refine va_get (D := (dC, dI)) (ci := 8) (v := .ref h12) (C := R_Z) (T := T_Z) (N := 26) hx hb htl in_Z hown hK hP 0 rfl rfl 13 (by decide) (htl _ mm_596) (fun _ h9 => h9) rfl d_Z_run_82 ?_
        refine lv_iload_n hx hb d_Z_run_85 rfl (lv_at hl 2 rfl) ?_
        obtain ⟨g28, h⟩ := gi_some h
        refine va_sald hx hb hK hP 12 2 rfl rfl g28 d_Z_run_86 ?_
        refine lv_goto (tgt := 148) hx hb d_Z_run_87 (by decide) ?_
        cases h
        exact wk_iret K hP hS d_Z_run_148
    · have h := wk_neg h c18
      refine lv_iload hx hb d_Z_run_59 (lv_at hl 3 rfl) ?_
      refine lv_aload_n hx hb d_Z_run_61 rfl (lv_at hl 0 rfl) ?_
      refine va_get (D := (dC, dI)) (ci := 8) (v := .ref h16) (C := R_Z) (T := T_Z) (N := 26) hx hb htl in_Z hown hK hP 0 rfl rfl 17 (by decide) (htl _ mm_600) (fun _ h9 => h9) rfl d_Z_run_62 ?_
      refine lv_iload hx hb d_Z_run_65 (lv_at hl 4 rfl) ?_
      obtain ⟨g29, h⟩ := gi_some h
      refine va_sald hx hb hK hP 16 2 rfl rfl g29 d_Z_run_67 ?_
      refine lv_iadd hx hb d_Z_run_68 ?_
      refine lv_istore (lv' := [(4, .int (y4 + (t_many y5.toNatClampNeg))), (0, .ref h0), (2, .int y2), (3, .int y3), (5, .int y5)]) hx hb d_Z_run_69 hl (by decide) rfl (fun ls hl => ?_)
      refine lv_iinc (v := (y5 + 1)) (lv' := [(5, .int (y5 + 1)), (4, .int (y4 + (t_many y5.toNatClampNeg))), (0, .ref h0), (2, .int y2), (3, .int y3)]) hx hb d_Z_run_71 hl (k := 4) rfl rfl (by decide) rfl (fun ls hl => ?_)
      refine lv_goto (tgt := 53) hx hb d_Z_run_74 (by decide) ?_
      exact ih (y4 + (t_many y5.toNatClampNeg)) (y5 + 1) h _ _ _ hP hD hS (lv_sub hl [2, 3, 4, 1, 0] rfl)
set_option maxHeartbeats 4000000 in
set_option maxRecDepth 100000 in
theorem c_Z_run (l : Launch) (dC : Nat → ClassId) (dI : Nat → Nat → Nat) (cI cB cS : ClassId) (tT : Nat) (h0 h1 h2 h3 h4 h5 h6 h7 h8 h9 h10 h11 h12 h13 h14 h15 h16 h17 h18 h19 : Nat) (t_length : Int32) (t_file : Nat → Int32) (t_now : Int32) (t_styles : Nat → Int32) (t_sets : Nat → Int32) (t_marks : Nat → Int32) (t_runs : Nat → Int32) (t_characters : Nat → Int32) (t_base : Nat → Int32) (t_own : Nat → Int32) (t_inserted : Nat → Int32) (t_erased : Nat → Int32) (t_old : Nat → Int32) (t_kind : Nat → Int32) (t_setOf : Nat → Int32) (t_markOf : Nat → Int32) (t_styleOf : Nat → Int32) (t_many : Nat → Int32) (t_text : Nat → Int32) (t_setNumber : Nat → Int32) (t_markNumber : Nat → Int32) (t_writtenSets : Int32) (t_writtenMarks : Int32) (t_at : Int32) (t_item : Int32) (t_fault : Int32) (x0 : Int32) (x1 : Int32) (N : Nat) (sz : Nat) (res : Int32) (h : r_Z_run N x0 x1 t_now t_runs t_kind t_setOf t_markOf t_styleOf t_many = some res) :
    Met l y_Z_run w_Z_run rm_Z_run (wk_Pre dC dI cI cB cS tT [.ref h0, .int x0, .int x1] [(h0, .inr (8, [.int t_length, .ref h1, .int t_now, .ref h2, .ref h3, .ref h4, .ref h5, .ref h6, .ref h7, .ref h8, .ref h9, .ref h10, .ref h11, .ref h12, .ref h13, .ref h14, .ref h15, .ref h16, .ref h17, .ref h18, .ref h19, .int t_writtenSets, .int t_writtenMarks, .int t_at, .int t_item, .int t_fault])), (h1, .inl (cB, 6000, .inl t_file)), (h2, .inl (cI, 2, .inl t_styles)), (h3, .inl (cI, 2, .inl t_sets)), (h4, .inl (cI, 2, .inl t_marks)), (h5, .inl (cI, 2, .inl t_runs)), (h6, .inl (cI, 2, .inl t_characters)), (h7, .inl (cI, 32, .inl t_base)), (h8, .inl (cI, 1920, .inl t_own)), (h9, .inl (cS, 48, .inl t_inserted)), (h10, .inl (cS, 48, .inl t_erased)), (h11, .inl (cS, 48, .inl t_old)), (h12, .inl (cS, 80, .inl t_kind)), (h13, .inl (cS, 80, .inl t_setOf)), (h14, .inl (cS, 80, .inl t_markOf)), (h15, .inl (cS, 80, .inl t_styleOf)), (h16, .inl (cS, 80, .inl t_many)), (h17, .inl (cS, 1024, .inl t_text)), (h18, .inl (cI, 24, .inl t_setNumber)), (h19, .inl (cI, 24, .inl t_markNumber))] sz) (wk_Qi dC dI res [(h0, .inr (8, [.int t_length, .ref h1, .int t_now, .ref h2, .ref h3, .ref h4, .ref h5, .ref h6, .ref h7, .ref h8, .ref h9, .ref h10, .ref h11, .ref h12, .ref h13, .ref h14, .ref h15, .ref h16, .ref h17, .ref h18, .ref h19, .int t_writtenSets, .int t_writtenMarks, .int t_at, .int t_item, .int t_fault])), (h1, .inl (cB, 6000, .inl t_file)), (h2, .inl (cI, 2, .inl t_styles)), (h3, .inl (cI, 2, .inl t_sets)), (h4, .inl (cI, 2, .inl t_marks)), (h5, .inl (cI, 2, .inl t_runs)), (h6, .inl (cI, 2, .inl t_characters)), (h7, .inl (cI, 32, .inl t_base)), (h8, .inl (cI, 1920, .inl t_own)), (h9, .inl (cS, 48, .inl t_inserted)), (h10, .inl (cS, 48, .inl t_erased)), (h11, .inl (cS, 48, .inl t_old)), (h12, .inl (cS, 80, .inl t_kind)), (h13, .inl (cS, 80, .inl t_setOf)), (h14, .inl (cS, 80, .inl t_markOf)), (h15, .inl (cS, 80, .inl t_styleOf)), (h16, .inl (cS, 80, .inl t_many)), (h17, .inl (cS, 1024, .inl t_text)), (h18, .inl (cI, 24, .inl t_setNumber)), (h19, .inl (cI, 24, .inl t_markNumber))] (va_A [(h0, .inr (8, [.int t_length, .ref h1, .int t_now, .ref h2, .ref h3, .ref h4, .ref h5, .ref h6, .ref h7, .ref h8, .ref h9, .ref h10, .ref h11, .ref h12, .ref h13, .ref h14, .ref h15, .ref h16, .ref h17, .ref h18, .ref h19, .int t_writtenSets, .int t_writtenMarks, .int t_at, .int t_item, .int t_fault])), (h1, .inl (cB, 6000, .inl t_file)), (h2, .inl (cI, 2, .inl t_styles)), (h3, .inl (cI, 2, .inl t_sets)), (h4, .inl (cI, 2, .inl t_marks)), (h5, .inl (cI, 2, .inl t_runs)), (h6, .inl (cI, 2, .inl t_characters)), (h7, .inl (cI, 32, .inl t_base)), (h8, .inl (cI, 1920, .inl t_own)), (h9, .inl (cS, 48, .inl t_inserted)), (h10, .inl (cS, 48, .inl t_erased)), (h11, .inl (cS, 48, .inl t_old)), (h12, .inl (cS, 80, .inl t_kind)), (h13, .inl (cS, 80, .inl t_setOf)), (h14, .inl (cS, 80, .inl t_markOf)), (h15, .inl (cS, 80, .inl t_styleOf)), (h16, .inl (cS, 80, .inl t_many)), (h17, .inl (cS, 1024, .inl t_text)), (h18, .inl (cI, 24, .inl t_setNumber)), (h19, .inl (cI, 24, .inl t_markNumber))] sz)) 0 0 (va_A [(h0, .inr (8, [.int t_length, .ref h1, .int t_now, .ref h2, .ref h3, .ref h4, .ref h5, .ref h6, .ref h7, .ref h8, .ref h9, .ref h10, .ref h11, .ref h12, .ref h13, .ref h14, .ref h15, .ref h16, .ref h17, .ref h18, .ref h19, .int t_writtenSets, .int t_writtenMarks, .int t_at, .int t_item, .int t_fault])), (h1, .inl (cB, 6000, .inl t_file)), (h2, .inl (cI, 2, .inl t_styles)), (h3, .inl (cI, 2, .inl t_sets)), (h4, .inl (cI, 2, .inl t_marks)), (h5, .inl (cI, 2, .inl t_runs)), (h6, .inl (cI, 2, .inl t_characters)), (h7, .inl (cI, 32, .inl t_base)), (h8, .inl (cI, 1920, .inl t_own)), (h9, .inl (cS, 48, .inl t_inserted)), (h10, .inl (cS, 48, .inl t_erased)), (h11, .inl (cS, 48, .inl t_old)), (h12, .inl (cS, 80, .inl t_kind)), (h13, .inl (cS, 80, .inl t_setOf)), (h14, .inl (cS, 80, .inl t_markOf)), (h15, .inl (cS, 80, .inl t_styleOf)), (h16, .inl (cS, 80, .inl t_many)), (h17, .inl (cS, 1024, .inl t_text)), (h18, .inl (cI, 24, .inl t_setNumber)), (h19, .inl (cI, 24, .inl t_markNumber))] sz) := by
  refine wk_met (Qc := fun A => wk_Qi dC dI res [(h0, .inr (8, [.int t_length, .ref h1, .int t_now, .ref h2, .ref h3, .ref h4, .ref h5, .ref h6, .ref h7, .ref h8, .ref h9, .ref h10, .ref h11, .ref h12, .ref h13, .ref h14, .ref h15, .ref h16, .ref h17, .ref h18, .ref h19, .int t_writtenSets, .int t_writtenMarks, .int t_at, .int t_item, .int t_fault])), (h1, .inl (cB, 6000, .inl t_file)), (h2, .inl (cI, 2, .inl t_styles)), (h3, .inl (cI, 2, .inl t_sets)), (h4, .inl (cI, 2, .inl t_marks)), (h5, .inl (cI, 2, .inl t_runs)), (h6, .inl (cI, 2, .inl t_characters)), (h7, .inl (cI, 32, .inl t_base)), (h8, .inl (cI, 1920, .inl t_own)), (h9, .inl (cS, 48, .inl t_inserted)), (h10, .inl (cS, 48, .inl t_erased)), (h11, .inl (cS, 48, .inl t_old)), (h12, .inl (cS, 80, .inl t_kind)), (h13, .inl (cS, 80, .inl t_setOf)), (h14, .inl (cS, 80, .inl t_markOf)), (h15, .inl (cS, 80, .inl t_styleOf)), (h16, .inl (cS, 80, .inl t_many)), (h17, .inl (cS, 1024, .inl t_text)), (h18, .inl (cI, 24, .inl t_setNumber)), (h19, .inl (cI, 24, .inl t_markNumber))] A) (by decide) [.ref h0, .int x0, .int x1] [(h0, .inr (8, [.int t_length, .ref h1, .int t_now, .ref h2, .ref h3, .ref h4, .ref h5, .ref h6, .ref h7, .ref h8, .ref h9, .ref h10, .ref h11, .ref h12, .ref h13, .ref h14, .ref h15, .ref h16, .ref h17, .ref h18, .ref h19, .int t_writtenSets, .int t_writtenMarks, .int t_at, .int t_item, .int t_fault])), (h1, .inl (cB, 6000, .inl t_file)), (h2, .inl (cI, 2, .inl t_styles)), (h3, .inl (cI, 2, .inl t_sets)), (h4, .inl (cI, 2, .inl t_marks)), (h5, .inl (cI, 2, .inl t_runs)), (h6, .inl (cI, 2, .inl t_characters)), (h7, .inl (cI, 32, .inl t_base)), (h8, .inl (cI, 1920, .inl t_own)), (h9, .inl (cS, 48, .inl t_inserted)), (h10, .inl (cS, 48, .inl t_erased)), (h11, .inl (cS, 48, .inl t_old)), (h12, .inl (cS, 80, .inl t_kind)), (h13, .inl (cS, 80, .inl t_setOf)), (h14, .inl (cS, 80, .inl t_markOf)), (h15, .inl (cS, 80, .inl t_styleOf)), (h16, .inl (cS, 80, .inl t_many)), (h17, .inl (cS, 1024, .inl t_text)), (h18, .inl (cI, 24, .inl t_setNumber)), (h19, .inl (cI, 24, .inl t_markNumber))] sz (Nat.le_of_ble_eq_true rfl) (fun p e s m below meth c A ls K hP hD hS hl hin => ?_)
  have K : wk_X p s m ([.ref h0, .int x0, .int x1] : List Value).toArray meth c b_Z_run R_Z 6 (some .int) dC dI cI cB cS tT A := K
  obtain ⟨hx, hb, hr, hml, hown, htl, hlk, hK, hZ, hT, hN, hA⟩ := id K
  have hl : lv_has ls 6 [(0, .ref h0), (1, .int x0), (2, .int x1)] := hl
  unfold r_Z_run at h
  refine lv_iload_n hx hb d_Z_run_0 rfl (lv_at hl 1 rfl) ?_
  refine lv_iconst (v := 0) hx hb d_Z_run_1 (by decide) ?_
  refine lv_aload_n hx hb d_Z_run_2 rfl (lv_at hl 0 rfl) ?_
  refine va_get (D := (dC, dI)) (ci := 8) (v := .ref h5) (C := R_Z) (T := T_Z) (N := 26) hx hb htl in_Z hown hK hP 0 rfl rfl 6 (by decide) (htl _ mm_589) (fun _ h9 => h9) rfl d_Z_run_3 ?_
  refine lv_aload_n hx hb d_Z_run_6 rfl (lv_at hl 0 rfl) ?_
  refine va_get (D := (dC, dI)) (ci := 8) (v := .int t_now) (C := R_Z) (T := T_Z) (N := 26) hx hb htl in_Z hown hK hP 0 rfl rfl 2 (by decide) (htl _ mm_585) (fun _ h9 => h9) rfl d_Z_run_7 ?_
  obtain ⟨g30, h⟩ := gi_some h
  refine va_iald hx hb hK hP 5 0 rfl rfl g30 d_Z_run_10 ?_
  refine lv_iconst (v := 1) hx hb d_Z_run_11 (by decide) ?_
  refine lv_isub hx hb d_Z_run_12 ?_
  obtain ⟨z31, hz31, h⟩ := wk_bind h
  refine wk_calli (wc := []) (wc' := []) K hP hD hS [] rfl rfl (va_runS (As := [.int x0, .int 0, .int ((t_runs t_now.toNatClampNeg) - 1)]) (rest := []) ⟨hx, hb, hml, hown, htl⟩ (c_Z_in l dC dI cI cB cS tT x0 0 ((t_runs t_now.toNatClampNeg) - 1) _ z31 hz31) (va_cwS 3 htl g_Z_70 rfl rfl rfl (by decide +kernel) ⟨Nat.le_of_ble_eq_true rfl, Nat.le_of_ble_eq_true rfl⟩) (wk_preS K hP hD hS [] rfl rfl) rfl rfl hl.1 rfl (lv_room (Nat.le_of_ble_eq_true rfl)) d_Z_run_13 ⟨Nat.zero_le _, Nat.zero_le _⟩) (fun H locs hP hD hS => ?_)
  refine lv_if_eq (tgt := 28) hx hb d_Z_run_16 (by decide) (fun c32 => ?_) (fun c32 => ?_)
  · have h := wk_pos h c32
    refine lv_bipush (v := (-2)) hx hb d_Z_run_28 (by decide) ?_
    cases h
    exact wk_iret K hP hS d_Z_run_30
  · have h := wk_neg h c32
    refine lv_iload_n hx hb d_Z_run_19 rfl (lv_at hl 2 rfl) ?_
    refine lv_iconst (v := 0) hx hb d_Z_run_20 (by decide) ?_
    refine lv_iconst (v := 5) hx hb d_Z_run_21 (by decide) ?_
    obtain ⟨z33, hz33, h⟩ := wk_bind h
    refine wk_calli (wc := []) (wc' := []) K hP hD hS [] rfl rfl (va_runS (As := [.int x1, .int 0, .int 5]) (rest := []) ⟨hx, hb, hml, hown, htl⟩ (c_Z_in l dC dI cI cB cS tT x1 0 5 _ z33 hz33) (va_cwS 3 htl g_Z_70 rfl rfl rfl (by decide +kernel) ⟨Nat.le_of_ble_eq_true rfl, Nat.le_of_ble_eq_true rfl⟩) (wk_preS K hP hD hS [] rfl rfl) rfl rfl hl.1 rfl (lv_room (Nat.le_of_ble_eq_true rfl)) d_Z_run_22 ⟨Nat.zero_le _, Nat.zero_le _⟩) (fun H locs hP hD hS => ?_)
    refine lv_if_ne (tgt := 31) hx hb d_Z_run_25 (by decide) (fun c34 => ?_) (fun c34 => ?_)
    · have h := wk_neg h c34
      refine lv_bipush (v := 40) hx hb d_Z_run_31 (by decide) ?_
      refine lv_aload_n hx hb d_Z_run_33 rfl (lv_at hl 0 rfl) ?_
      refine va_get (D := (dC, dI)) (ci := 8) (v := .int t_now) (C := R_Z) (T := T_Z) (N := 26) hx hb htl in_Z hown hK hP 0 rfl rfl 2 (by decide) (htl _ mm_585) (fun _ h9 => h9) rfl d_Z_run_34 ?_
      refine lv_imul hx hb d_Z_run_37 ?_
      refine lv_iload_n hx hb d_Z_run_38 rfl (lv_at hl 1 rfl) ?_
      refine lv_iadd hx hb d_Z_run_39 ?_
      refine lv_istore_n (lv' := [(3, .int ((40 * t_now) + x0)), (0, .ref h0), (1, .int x0), (2, .int x1)]) hx hb d_Z_run_40 rfl hl (by decide) rfl (fun ls hl => ?_)
      refine lv_iconst (v := 0) hx hb d_Z_run_41 (by decide) ?_
      refine lv_istore (lv' := [(4, .int 0), (3, .int ((40 * t_now) + x0)), (0, .ref h0), (1, .int x0), (2, .int x1)]) hx hb d_Z_run_42 hl (by decide) rfl (fun ls hl => ?_)
      refine lv_bipush (v := 40) hx hb d_Z_run_44 (by decide) ?_
      refine lv_aload_n hx hb d_Z_run_46 rfl (lv_at hl 2 rfl) ?_
      refine va_get (D := (dC, dI)) (ci := 8) (v := .int t_now) (C := R_Z) (T := T_Z) (N := 26) hx hb htl in_Z hown hK hP 0 rfl rfl 2 (by decide) (htl _ mm_585) (fun _ h9 => h9) rfl d_Z_run_47 ?_
      refine lv_imul hx hb d_Z_run_50 ?_
      refine lv_istore (lv' := [(5, .int (40 * t_now)), (4, .int 0), (3, .int ((40 * t_now) + x0)), (0, .ref h0), (1, .int x0), (2, .int x1)]) hx hb d_Z_run_51 hl (by decide) rfl (fun ls hl => ?_)
      exact tl_Z_run_53 K N x1 ((40 * t_now) + x0) t_length t_file t_now t_styles t_sets t_marks t_runs t_characters t_base t_own t_inserted t_erased t_old t_kind t_setOf t_markOf t_styleOf t_many t_text t_setNumber t_markNumber t_writtenSets t_writtenMarks t_at t_item t_fault res N 0 (40 * t_now) h _ _ _ hP hD hS (lv_sub hl [3, 5, 2, 1, 0] rfl)
    · have h := wk_pos h c34
      refine lv_bipush (v := (-2)) hx hb d_Z_run_28 (by decide) ?_
      cases h
      exact wk_iret K hP hS d_Z_run_30
