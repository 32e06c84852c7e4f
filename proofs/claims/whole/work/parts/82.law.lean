set_option maxHeartbeats 4000000 in
set_option maxRecDepth 100000 in
theorem tl_L_law_18 {p : Program} {l : Launch} {e : Env} {s : State} {m : MethodId} {below : List Frame} {meth : Method} {c : Code} {dC : Nat → ClassId} {dI : Nat → Nat → Nat} {cI cB cS : ClassId} {tT : Nat} {A : Nat → Prop} {b L : Nat} {xs : Nat → Int32} (K : wk_X p s m #[Value.ref b] meth c code R_L 4 ret dC dI cI cB cS tT A) (hAi : ∀ q, A q → s.heap.size ≤ q) (hX : va_X b L xs s s.heap) (hbl : b < s.heap.size) (N : Nat) : ∀ (n : Nat), lw_Go p l e s m below meth c dC dI cI cB cS A b (l_L_law_18 N L xs n) := by
  obtain ⟨hx, hb, hr, hml, hown, htl, hlk, hK, hZ, hT, hN, hA⟩ := id K
  have hbA : ¬ A b := fun h9 => absurd (hAi b h9) (Nat.not_le.mpr hbl)
  intro n
  induction n with
  | zero =>
    intro h0 h1 h2 h3 h4 h5 h6 h7 h8 h9 h10 h11 h12 h13 h14 h15 h16 h17 h18 h19 h20 h21 h22 h23 h24 h25 h26 h27 h28 h29 h30 h31 h32 h33 h34 h35 h36 h37 h38 h39 h40 h41 h42 h43 h44 h45 h46 h47 h48 y3 sx sm h
    rw [l_L_law_18] at h
    cases h
  | succ n ih =>
    rintro h0 h1 h2 h3 h4 h5 h6 h7 h8 h9 h10 h11 h12 h13 h14 h15 h16 h17 h18 h19 h20 h21 h22 h23 h24 h25 h26 h27 h28 h29 h30 h31 h32 h33 h34 h35 h36 h37 h38 h39 h40 h41 h42 h43 h44 h45 h46 h47 h48 y3 ⟨x_document_styles_most, x_document_styles_values_n, x_document_styles_values, x_document_styles_rows, x_document_sets_most, x_document_sets_values_n, x_document_sets_values, x_document_sets_rows, x_document_marks_parts, x_document_marks_rows, x_document_runs_parts, x_document_runs_characters, x_document_runs_rows, x_document_runs_length, x_document_bases, x_spare_styles_most, x_spare_styles_values_n, x_spare_styles_values, x_spare_styles_rows, x_spare_sets_most, x_spare_sets_values_n, x_spare_sets_values, x_spare_sets_rows, x_spare_marks_parts, x_spare_marks_rows, x_spare_runs_parts, x_spare_runs_characters, x_spare_runs_rows, x_spare_runs_length, x_spare_bases, x_file_octets, x_file_size, x_reader_next, x_reader_item, x_reader_fault, x_writer_setsOut, x_writer_marksOut, x_writer_setCount, x_writer_markCount⟩ ⟨m_length, m_file, m_now, m_styles, m_sets, m_marks, m_runs, m_characters, m_base, m_own, m_inserted, m_erased, m_old, m_kind, m_setOf, m_markOf, m_styleOf, m_many, m_text, m_setNumber, m_markNumber, m_writtenSets, m_writtenMarks, m_at, m_item, m_fault⟩ h H locs ls hP hD hS hl
    rw [lw_eq] at h
    have hP : va_P (dC, dI) vwCl [(h0, .inr (0, [.ref h1, .ref h12, .ref h23, .ref h25, .ref h26])), (h1, .inr (1, [.ref h2, .ref h4, .ref h6, .ref h8, .ref h11])), (h2, .inr (4, [.int x_document_styles_most, .ref h3, .int x_document_styles_rows])), (h3, .inl (cI, x_document_styles_values_n, .inl x_document_styles_values)), (h4, .inr (4, [.int x_document_sets_most, .ref h5, .int x_document_sets_rows])), (h5, .inl (cI, x_document_sets_values_n, .inl x_document_sets_values)), (h6, .inr (2, [.ref h7, .int x_document_marks_rows])), (h7, .inl (cI, 72, .inl x_document_marks_parts)), (h8, .inr (6, [.ref h9, .ref h10, .int x_document_runs_rows, .int x_document_runs_length])), (h9, .inl (cI, 240, .inl x_document_runs_parts)), (h10, .inl (cI, 512, .inl x_document_runs_characters)), (h11, .inl (cI, 16, .inl x_document_bases)), (h12, .inr (1, [.ref h13, .ref h15, .ref h17, .ref h19, .ref h22])), (h13, .inr (4, [.int x_spare_styles_most, .ref h14, .int x_spare_styles_rows])), (h14, .inl (cI, x_spare_styles_values_n, .inl x_spare_styles_values)), (h15, .inr (4, [.int x_spare_sets_most, .ref h16, .int x_spare_sets_rows])), (h16, .inl (cI, x_spare_sets_values_n, .inl x_spare_sets_values)), (h17, .inr (2, [.ref h18, .int x_spare_marks_rows])), (h18, .inl (cI, 72, .inl x_spare_marks_parts)), (h19, .inr (6, [.ref h20, .ref h21, .int x_spare_runs_rows, .int x_spare_runs_length])), (h20, .inl (cI, 240, .inl x_spare_runs_parts)), (h21, .inl (cI, 512, .inl x_spare_runs_characters)), (h22, .inl (cI, 16, .inl x_spare_bases)), (h23, .inr (3, [.ref h24, .int x_file_size])), (h24, .inl (cI, 6000, .inl x_file_octets)), (h25, .inr (5, [.ref h23, .int x_reader_next, .int x_reader_item, .int x_reader_fault])), (h26, .inr (7, [.ref h23, .ref h27, .ref h28, .int x_writer_setCount, .int x_writer_markCount])), (h27, .inl (cI, 24, .inl x_writer_setsOut)), (h28, .inl (cI, 24, .inl x_writer_marksOut)), (h29, .inr (8, [.int m_length, .ref h30, .int m_now, .ref h31, .ref h32, .ref h33, .ref h34, .ref h35, .ref h36, .ref h37, .ref h38, .ref h39, .ref h40, .ref h41, .ref h42, .ref h43, .ref h44, .ref h45, .ref h46, .ref h47, .ref h48, .int m_writtenSets, .int m_writtenMarks, .int m_at, .int m_item, .int m_fault])), (h30, .inl (cB, 6000, .inl m_file)), (h31, .inl (cI, 2, .inl m_styles)), (h32, .inl (cI, 2, .inl m_sets)), (h33, .inl (cI, 2, .inl m_marks)), (h34, .inl (cI, 2, .inl m_runs)), (h35, .inl (cI, 2, .inl m_characters)), (h36, .inl (cI, 32, .inl m_base)), (h37, .inl (cI, 1920, .inl m_own)), (h38, .inl (cS, 48, .inl m_inserted)), (h39, .inl (cS, 48, .inl m_erased)), (h40, .inl (cS, 48, .inl m_old)), (h41, .inl (cS, 80, .inl m_kind)), (h42, .inl (cS, 80, .inl m_setOf)), (h43, .inl (cS, 80, .inl m_markOf)), (h44, .inl (cS, 80, .inl m_styleOf)), (h45, .inl (cS, 80, .inl m_many)), (h46, .inl (cS, 1024, .inl m_text)), (h47, .inl (cI, 24, .inl m_setNumber)), (h48, .inl (cI, 24, .inl m_markNumber))] H := hP
    have hD : va_D A [(h0, .inr (0, [.ref h1, .ref h12, .ref h23, .ref h25, .ref h26])), (h1, .inr (1, [.ref h2, .ref h4, .ref h6, .ref h8, .ref h11])), (h2, .inr (4, [.int x_document_styles_most, .ref h3, .int x_document_styles_rows])), (h3, .inl (cI, x_document_styles_values_n, .inl x_document_styles_values)), (h4, .inr (4, [.int x_document_sets_most, .ref h5, .int x_document_sets_rows])), (h5, .inl (cI, x_document_sets_values_n, .inl x_document_sets_values)), (h6, .inr (2, [.ref h7, .int x_document_marks_rows])), (h7, .inl (cI, 72, .inl x_document_marks_parts)), (h8, .inr (6, [.ref h9, .ref h10, .int x_document_runs_rows, .int x_document_runs_length])), (h9, .inl (cI, 240, .inl x_document_runs_parts)), (h10, .inl (cI, 512, .inl x_document_runs_characters)), (h11, .inl (cI, 16, .inl x_document_bases)), (h12, .inr (1, [.ref h13, .ref h15, .ref h17, .ref h19, .ref h22])), (h13, .inr (4, [.int x_spare_styles_most, .ref h14, .int x_spare_styles_rows])), (h14, .inl (cI, x_spare_styles_values_n, .inl x_spare_styles_values)), (h15, .inr (4, [.int x_spare_sets_most, .ref h16, .int x_spare_sets_rows])), (h16, .inl (cI, x_spare_sets_values_n, .inl x_spare_sets_values)), (h17, .inr (2, [.ref h18, .int x_spare_marks_rows])), (h18, .inl (cI, 72, .inl x_spare_marks_parts)), (h19, .inr (6, [.ref h20, .ref h21, .int x_spare_runs_rows, .int x_spare_runs_length])), (h20, .inl (cI, 240, .inl x_spare_runs_parts)), (h21, .inl (cI, 512, .inl x_spare_runs_characters)), (h22, .inl (cI, 16, .inl x_spare_bases)), (h23, .inr (3, [.ref h24, .int x_file_size])), (h24, .inl (cI, 6000, .inl x_file_octets)), (h25, .inr (5, [.ref h23, .int x_reader_next, .int x_reader_item, .int x_reader_fault])), (h26, .inr (7, [.ref h23, .ref h27, .ref h28, .int x_writer_setCount, .int x_writer_markCount])), (h27, .inl (cI, 24, .inl x_writer_setsOut)), (h28, .inl (cI, 24, .inl x_writer_marksOut)), (h29, .inr (8, [.int m_length, .ref h30, .int m_now, .ref h31, .ref h32, .ref h33, .ref h34, .ref h35, .ref h36, .ref h37, .ref h38, .ref h39, .ref h40, .ref h41, .ref h42, .ref h43, .ref h44, .ref h45, .ref h46, .ref h47, .ref h48, .int m_writtenSets, .int m_writtenMarks, .int m_at, .int m_item, .int m_fault])), (h30, .inl (cB, 6000, .inl m_file)), (h31, .inl (cI, 2, .inl m_styles)), (h32, .inl (cI, 2, .inl m_sets)), (h33, .inl (cI, 2, .inl m_marks)), (h34, .inl (cI, 2, .inl m_runs)), (h35, .inl (cI, 2, .inl m_characters)), (h36, .inl (cI, 32, .inl m_base)), (h37, .inl (cI, 1920, .inl m_own)), (h38, .inl (cS, 48, .inl m_inserted)), (h39, .inl (cS, 48, .inl m_erased)), (h40, .inl (cS, 48, .inl m_old)), (h41, .inl (cS, 80, .inl m_kind)), (h42, .inl (cS, 80, .inl m_setOf)), (h43, .inl (cS, 80, .inl m_markOf)), (h44, .inl (cS, 80, .inl m_styleOf)), (h45, .inl (cS, 80, .inl m_many)), (h46, .inl (cS, 1024, .inl m_text)), (h47, .inl (cI, 24, .inl m_setNumber)), (h48, .inl (cI, 24, .inl m_markNumber))] := hD
    refine lv_iload_n hx hb d_L_law_18 rfl (lv_at hl 3 rfl) ?_
    refine lv_aload_n hx hb d_L_law_19 rfl (lv_at hl 0 rfl) ?_
    refine va_slen hx hb hX hbl hbA hS d_L_law_20 ?_
    refine lv_iconst (v := 5) hx hb d_L_law_21 (by decide) ?_
    refine lv_isub hx hb d_L_law_22 ?_
    refine lv_icmp_gt (tgt := 678) hx hb d_L_law_23 (by decide) (fun c346 => ?_) (fun c346 => ?_)
    · have h := wk_pos h c346
      refine lv_iconst (v := 1) hx hb d_L_law_678 (by decide) ?_
      refine va_forget (fun q hq => hAi _ (hS.2.2 q hq)) ?_
      refine W.widen (k := 600000) (n := 7302250) (Nat.le_of_ble_eq_true rfl) (Nat.le_of_ble_eq_true rfl) ?_
      exact lw_ret hx hb hr hlk d_L_law_679
    · have h := wk_neg h c346
      refine lv_aload_n hx hb d_L_law_26 rfl (lv_at hl 0 rfl) ?_
      refine lv_iload_n hx hb d_L_law_27 rfl (lv_at hl 3 rfl) ?_
      obtain ⟨g347, h⟩ := gi_some h
      refine va_sld hx hb hX hbl hbA hS g347 d_L_law_28 ?_
      refine lv_bipush (v := 31) hx hb d_L_law_29 (by decide) ?_
      refine lv_iand hx hb d_L_law_31 ?_
      rcases Decidable.em (((xs y3.toNatClampNeg) &&& 31) = 0) with c348_0 | c348_0
      · have h := wk_pos h c348_0
        refine lv_tableIn (tgt := 120) hx hb d_L_law_32 (by rw [c348_0]; decide) (by rw [c348_0]; decide) (by rw [c348_0]; rfl) (by decide) ?_
        exact tc_0 K hAi hX hbl ih h hP hD hS hl
      · have h := wk_neg h c348_0
        rcases Decidable.em (((xs y3.toNatClampNeg) &&& 31) = 1) with c348_1 | c348_1
        · have h := wk_pos h c348_1
          refine lv_tableIn (tgt := 131) hx hb d_L_law_32 (by rw [c348_1]; decide) (by rw [c348_1]; decide) (by rw [c348_1]; rfl) (by decide) ?_
          exact tc_1 K hAi hX hbl ih h hP hD hS hl
        · have h := wk_neg h c348_1
          rcases Decidable.em (((xs y3.toNatClampNeg) &&& 31) = 2) with c348_2 | c348_2
          · have h := wk_pos h c348_2
            refine lv_tableIn (tgt := 154) hx hb d_L_law_32 (by rw [c348_2]; decide) (by rw [c348_2]; decide) (by rw [c348_2]; rfl) (by decide) ?_
            exact tc_2 K hAi hX hbl ih h hP hD hS hl
          · have h := wk_neg h c348_2
            rcases Decidable.em (((xs y3.toNatClampNeg) &&& 31) = 3) with c348_3 | c348_3
            · have h := wk_pos h c348_3
              refine lv_tableIn (tgt := 167) hx hb d_L_law_32 (by rw [c348_3]; decide) (by rw [c348_3]; decide) (by rw [c348_3]; rfl) (by decide) ?_
              exact tc_3 K hAi hX hbl ih h hP hD hS hl
            · have h := wk_neg h c348_3
              rcases Decidable.em (((xs y3.toNatClampNeg) &&& 31) = 4) with c348_4 | c348_4
              · have h := wk_pos h c348_4
                refine lv_tableIn (tgt := 220) hx hb d_L_law_32 (by rw [c348_4]; decide) (by rw [c348_4]; decide) (by rw [c348_4]; rfl) (by decide) ?_
                exact tc_4 K hAi hX hbl ih h hP hD hS hl
              · have h := wk_neg h c348_4
                rcases Decidable.em (((xs y3.toNatClampNeg) &&& 31) = 5) with c348_5 | c348_5
                · have h := wk_pos h c348_5
                  refine lv_tableIn (tgt := 263) hx hb d_L_law_32 (by rw [c348_5]; decide) (by rw [c348_5]; decide) (by rw [c348_5]; rfl) (by decide) ?_
                  exact tc_5 K hAi hX hbl ih h hP hD hS hl
                · have h := wk_neg h c348_5
                  rcases Decidable.em (((xs y3.toNatClampNeg) &&& 31) = 6) with c348_6 | c348_6
                  · have h := wk_pos h c348_6
                    refine lv_tableIn (tgt := 336) hx hb d_L_law_32 (by rw [c348_6]; decide) (by rw [c348_6]; decide) (by rw [c348_6]; rfl) (by decide) ?_
                    exact tc_6 K hAi hX hbl ih h hP hD hS hl
                  · have h := wk_neg h c348_6
                    rcases Decidable.em (((xs y3.toNatClampNeg) &&& 31) = 7) with c348_7 | c348_7
                    · have h := wk_pos h c348_7
                      refine lv_tableIn (tgt := 389) hx hb d_L_law_32 (by rw [c348_7]; decide) (by rw [c348_7]; decide) (by rw [c348_7]; rfl) (by decide) ?_
                      exact tc_7 K hAi hX hbl ih h hP hD hS hl
                    · have h := wk_neg h c348_7
                      rcases Decidable.em (((xs y3.toNatClampNeg) &&& 31) = 8) with c348_8 | c348_8
                      · have h := wk_pos h c348_8
                        refine lv_tableIn (tgt := 412) hx hb d_L_law_32 (by rw [c348_8]; decide) (by rw [c348_8]; decide) (by rw [c348_8]; rfl) (by decide) ?_
                        exact tc_8 K hAi hX hbl ih h hP hD hS hl
                      · have h := wk_neg h c348_8
                        rcases Decidable.em (((xs y3.toNatClampNeg) &&& 31) = 9) with c348_9 | c348_9
                        · have h := wk_pos h c348_9
                          refine lv_tableIn (tgt := 435) hx hb d_L_law_32 (by rw [c348_9]; decide) (by rw [c348_9]; decide) (by rw [c348_9]; rfl) (by decide) ?_
                          exact tc_9 K hAi hX hbl ih h hP hD hS hl
                        · have h := wk_neg h c348_9
                          rcases Decidable.em (((xs y3.toNatClampNeg) &&& 31) = 10) with c348_10 | c348_10
                          · have h := wk_pos h c348_10
                            refine lv_tableIn (tgt := 478) hx hb d_L_law_32 (by rw [c348_10]; decide) (by rw [c348_10]; decide) (by rw [c348_10]; rfl) (by decide) ?_
                            exact tc_10 K hAi hX hbl ih h hP hD hS hl
                          · have h := wk_neg h c348_10
                            rcases Decidable.em (((xs y3.toNatClampNeg) &&& 31) = 11) with c348_11 | c348_11
                            · have h := wk_pos h c348_11
                              refine lv_tableIn (tgt := 511) hx hb d_L_law_32 (by rw [c348_11]; decide) (by rw [c348_11]; decide) (by rw [c348_11]; rfl) (by decide) ?_
                              exact tc_11 K hAi hX hbl ih h hP hD hS hl
                            · have h := wk_neg h c348_11
                              rcases Decidable.em (((xs y3.toNatClampNeg) &&& 31) = 12) with c348_12 | c348_12
                              · have h := wk_pos h c348_12
                                refine lv_tableIn (tgt := 544) hx hb d_L_law_32 (by rw [c348_12]; decide) (by rw [c348_12]; decide) (by rw [c348_12]; rfl) (by decide) ?_
                                exact tc_12 K hAi hX hbl ih h hP hD hS hl
                              · have h := wk_neg h c348_12
                                rcases Decidable.em (((xs y3.toNatClampNeg) &&& 31) = 13) with c348_13 | c348_13
                                · have h := wk_pos h c348_13
                                  refine lv_tableIn (tgt := 567) hx hb d_L_law_32 (by rw [c348_13]; decide) (by rw [c348_13]; decide) (by rw [c348_13]; rfl) (by decide) ?_
                                  exact tc_13 K hAi hX hbl ih h hP hD hS hl
                                · have h := wk_neg h c348_13
                                  rcases Decidable.em (((xs y3.toNatClampNeg) &&& 31) = 14) with c348_14 | c348_14
                                  · have h := wk_pos h c348_14
                                    refine lv_tableIn (tgt := 580) hx hb d_L_law_32 (by rw [c348_14]; decide) (by rw [c348_14]; decide) (by rw [c348_14]; rfl) (by decide) ?_
                                    exact tc_14 K hAi hX hbl ih h hP hD hS hl
                                  · have h := wk_neg h c348_14
                                    rcases Decidable.em (((xs y3.toNatClampNeg) &&& 31) = 15) with c348_15 | c348_15
                                    · have h := wk_pos h c348_15
                                      refine lv_tableIn (tgt := 593) hx hb d_L_law_32 (by rw [c348_15]; decide) (by rw [c348_15]; decide) (by rw [c348_15]; rfl) (by decide) ?_
                                      exact tc_15 K hAi hX hbl ih h hP hD hS hl
                                    · have h := wk_neg h c348_15
                                      rcases Decidable.em (((xs y3.toNatClampNeg) &&& 31) = 16) with c348_16 | c348_16
                                      · have h := wk_pos h c348_16
                                        refine lv_tableIn (tgt := 616) hx hb d_L_law_32 (by rw [c348_16]; decide) (by rw [c348_16]; decide) (by rw [c348_16]; rfl) (by decide) ?_
                                        exact tc_16 K hAi hX hbl ih h hP hD hS hl
                                      · have h := wk_neg h c348_16
                                        rcases Decidable.em (((xs y3.toNatClampNeg) &&& 31) = 17) with c348_17 | c348_17
                                        · have h := wk_pos h c348_17
                                          refine lv_tableIn (tgt := 649) hx hb d_L_law_32 (by rw [c348_17]; decide) (by rw [c348_17]; decide) (by rw [c348_17]; rfl) (by decide) ?_
                                          exact tc_17 K hAi hX hbl ih h hP hD hS hl
                                        · have h := wk_neg h c348_17
                                          refine lv_tableOut (tgt := 672) hx hb d_L_law_32 (wk_out (n := 18) (by decide) (fun k hk => match k, hk with | 0, _ => c348_0 | 1, _ => c348_1 | 2, _ => c348_2 | 3, _ => c348_3 | 4, _ => c348_4 | 5, _ => c348_5 | 6, _ => c348_6 | 7, _ => c348_7 | 8, _ => c348_8 | 9, _ => c348_9 | 10, _ => c348_10 | 11, _ => c348_11 | 12, _ => c348_12 | 13, _ => c348_13 | 14, _ => c348_14 | 15, _ => c348_15 | 16, _ => c348_16 | 17, _ => c348_17 | k + 18, hk => absurd hk (by omega))) (by decide) ?_
                                          exact tc_18 K hAi hX hbl ih h hP hD hS hl
