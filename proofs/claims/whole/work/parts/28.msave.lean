/-! pure: save on both sides -/
section
variable {N d nS nm nr nc ns n : Nat} {sv tv own mp ins era old bs up uc kind setOf markOf styleOf many text runs styles base oc fl so mo sn mn : Nat → Int32} {k1 k2 w1 w2 : Int32}
theorem m_save (hN : 600 ≤ N) (hd : d ≤ 1) (hns : ns ≤ 16) (hnS : nS ≤ 24) (hnm : nm ≤ 24) (hnr : nr ≤ 40) (hnc : nc ≤ 512) (hn : n ≤ 6000) (h1 : styles d = nI ns) (h4 : runs d = nI nr) (hS : RelS d ns sv bs base own) (hT : RelT d nS tv own) (hM : RelM d nm nS mp ins era old) (hU : RelU d nr nc nm nS ns up uc kind setOf markOf styleOf many text) :
    ∃ (r : Int32) (oc' so' mo' fl' sn' mn' : Nat → Int32) (c1 c2 e1 e2 : Int32) (n' : Nat), r_F_save N 384 sv (nI ns) 576 tv (nI nS) mp (nI nm) up uc (nI nr) (nI nc) bs oc (nI n) so mo k1 k2 = some (r, oc', nI n', so', mo', c1, c2) ∧
      r_Z_save N (nI n) fl (nI d) styles runs base own ins era old kind setOf markOf styleOf many text sn mn w1 w2 = some (r, nI n', fl', sn', mn', e1, e2) ∧ RelF n' oc' fl' ∧ n' ≤ 6000 := by
  have c0 : (nI d).toNatClampNeg = d := q_cl (by omega)
  obtain ⟨ln, hl, hA0, hC⟩ := hU
  have hA : ∀ i, i < nr → RunAt d nS nm ns up kind setOf markOf styleOf many ln i := hA0
  -- the head
  have hF0 : RelF 0 oc fl := fun i hi => absurd hi (by omega)
  obtain ⟨o1, f1, a1, a2, a3⟩ := out_pair (v := 77) (b := 77) hF0 (by omega) rfl
  obtain ⟨o2, f2, b1, b2, b3⟩ := out_pair (v := 83) (b := 83) a3 (by omega) rfl
  obtain ⟨o3, f3, g1, g2, g3⟩ := out_pair (v := 1) (b := 1) b3 (by omega) rfl
  obtain ⟨o4, f4, p1, p2, p3⟩ := num_pair (k := ns) g3 (by omega) (by rw [nb1 (by omega)]; omega)
  rw [nb1 (show ns < 128 by omega)] at p1 p2 p3
  obtain ⟨sn0, mn0, z1, z2, -, -, z5⟩ := clear24 (N := N) (d := d) (len := 0) (ws := 0) (wm := 0) (fl := fl) (styles := styles) (runs := runs) (base := base) (own := own) (ins := ins) (era := era) (old := old) (kind := kind) (setOf := setOf) (markOf := markOf) (styleOf := styleOf) (many := many) (text := text) 24 0 N sn mn (by omega) (by omega)
  obtain ⟨o5, f5, n5, q1, q2, q3, q4⟩ := styles_pair (N := N) (len0 := 0) (sn := sn0) (mn := mn0) (ws := 0) (wm := 0) (runs := runs) (ins := ins) (era := era) (old := old) (kind := kind) (setOf := setOf) (markOf := markOf) (styleOf := styleOf) (many := many) (text := text) hN hd hns h1 hS ns 0 N N (0 + 1 + 1 + 1 + 1) o4 f4 (by omega) (by omega) (by omega) p3 (by omega)
  have hH : Hd nS nm nr tv mp up 0 := fun _ => Or.inl rfl
  obtain ⟨t, t1, t2, t3⟩ := count_pair (N := N) (tv := tv) (len := nI n5) (ws := 0) (wm := 0) (fl := f5) (sn := sn0) (mn := mn0) (styles := styles) (base := base) (text := text) hN hd hnS hnm hnr h4 hT hM hA nr 0 0 N N (by omega) (by omega) (by omega) (by omega) hH
  obtain ⟨o6, f6, r1, r2, r3⟩ := num_pair (k := t) q3 (by omega) (by rw [nb1 (by omega)]; omega)
  rw [nb1 (show t < 128 by omega)] at r1 r2 r3
  have hR : RSet nS 0 tv so sn0 := ⟨fun _ => 0, fun _ => 0, fun i hi => absurd hi (by omega), fun i j hi => absurd hi (by omega), fun k hk _ => z1 k (by omega) hk⟩
  have hQ : RMark nm nS 0 tv mp mo mn0 := ⟨fun _ => 0, fun _ => 0, fun i hi => absurd hi (by omega), fun i j hi => absurd hi (by omega), fun k hk _ => z2 k (by omega) hk⟩
  obtain ⟨oc', fl', so', sn', mo', mn', n', cnt', mc', y1, y2, y3, y4⟩ := write_pair (N := N) (sv := sv) (bs := bs) (styles := styles) (base := base) hN hd hns hnS hnm hnr hnc h4 hT hM hA hl hC nr 0 N N (n5 + 1) 0 0 so sn0 mo mn0 o6 f6 (by omega) (by omega) (by omega) hH hR hQ r3 (by show n5 + 1 ≤ 1189 + 6 * 0 + 0 + 73 * 0 + 5 * 0; omega)
  refine ⟨nI n', oc', so', mo', fl', sn', mn', nI cnt', nI mc', nI cnt', nI mc', n', ?_, ?_, y3, y4⟩
  · unfold r_F_save r_W_write
    have hk : r_O_keep 0 (nI n) = some (1, nI 0) := by
      unfold r_O_keep
      rw [if_neg (by decide), if_pos (nI_pos' (by omega))]
      rfl
    rw [hk]
    simp only [Option.bind_some]
    have u3 : ∀ M, l_W_write_21 N so mo 0 0 384 sv (nI ns) 576 tv (nI nS) mp (nI nm) up uc (nI nr) (nI nc) bs (M + 1) (nI 3) o3 (nI 3) = some (oc', nI n', so', mo', nI cnt', nI mc') := by
      intro M
      rw [l_W_write_21, if_pos (by decide)]
      unfold r_W_writeStyles r_W_joinedRuns
      show ((r_W_writeNumber (nI ns) o3 (nI (0 + 1 + 1 + 1))).bind _).bind _ = _
      rw [p1]
      simp only [Option.bind_some]
      rw [show l_W_writeStyles_13 N 384 sv (nI ns) bs N 0 o4 (nI (0 + 1 + 1 + 1 + 1)) = _ from q1]
      simp only [Option.bind_some]
      rw [show l_W_joinedRuns_4 N 576 tv (nI nS) mp (nI nm) up (nI nr) N 0 0 = _ from t2]
      simp only [Option.bind_some]
      rw [r1]
      simp only [Option.bind_some]
      exact y1
    have u2 : ∀ M, l_W_write_21 N so mo 0 0 384 sv (nI ns) 576 tv (nI nS) mp (nI nm) up uc (nI nr) (nI nc) bs (M + 2) (nI 2) o2 (nI 2) = some (oc', nI n', so', mo', nI cnt', nI mc') := by
      intro M
      rw [l_W_write_21, if_neg (by decide), gi_n (by decide) (by decide), show wk_hd (nI 2).toNatClampNeg = 1 from rfl, show r_O_append 1 o2 (nI 2) = _ from g1]
      simp only [Option.bind_some]
      rw [nI_1]
      exact u3 M
    have u1 : ∀ M, l_W_write_21 N so mo 0 0 384 sv (nI ns) 576 tv (nI nS) mp (nI nm) up uc (nI nr) (nI nc) bs (M + 3) (nI 1) o1 (nI 1) = some (oc', nI n', so', mo', nI cnt', nI mc') := by
      intro M
      rw [l_W_write_21, if_neg (by decide), gi_n (by decide) (by decide), show wk_hd (nI 1).toNatClampNeg = 83 from rfl, show r_O_append 83 o1 (nI 1) = _ from b1]
      simp only [Option.bind_some]
      rw [nI_1]
      exact u2 M
    have u0 : ∀ M, l_W_write_21 N so mo 0 0 384 sv (nI ns) 576 tv (nI nS) mp (nI nm) up uc (nI nr) (nI nc) bs (M + 4) (nI 0) oc (nI 0) = some (oc', nI n', so', mo', nI cnt', nI mc') := by
      intro M
      rw [l_W_write_21, if_neg (by decide), gi_n (by decide) (by decide), show wk_hd (nI 0).toNatClampNeg = 77 from rfl, show r_O_append 77 oc (nI 0) = _ from a1]
      simp only [Option.bind_some]
      rw [nI_1]
      exact u1 M
    obtain ⟨M, hM4⟩ : ∃ z, N = z + 4 := ⟨N - 4, by omega⟩
    have := u0 M
    rw [← hM4] at this
    rw [show l_W_write_21 N so mo 0 0 384 sv (nI ns) 576 tv (nI nS) mp (nI nm) up uc (nI nr) (nI nc) bs N 0 oc (nI 0) = _ from this]
    rfl
  · unfold r_Z_save
    rw [show l_Z_save_17 N 0 fl (nI d) styles runs base own ins era old kind setOf markOf styleOf many text 0 0 N 0 sn mn = _ from z5]
    have v0 : ∀ M, l_Z_save_17 N 0 fl (nI d) styles runs base own ins era old kind setOf markOf styleOf many text 0 0 (M + 1) (nI 24) sn0 mn0 = some (nI n', nI n', fl', sn', mn', nI cnt', nI mc') := by
      intro M
      rw [l_Z_save_17, if_pos (by decide), show r_Z_octetOut 77 0 fl = _ from a2]
      simp only [Option.bind_some]
      rw [b2]
      simp only [Option.bind_some]
      rw [g2]
      simp only [Option.bind_some]
      rw [gi_n (by omega) (by decide), c0, h1, p2]
      simp only [Option.bind_some]
      rw [show l_Z_save_75 N (nI d) styles runs base own ins era old kind setOf markOf styleOf many text sn0 mn0 0 0 N 0 (nI (0 + 1 + 1 + 1 + 1)) f4 = _ from q2]
      rw [show l_Z_save_131 N (nI n5) f5 (nI d) styles runs base own ins era old kind setOf markOf styleOf many text sn0 mn0 0 0 N 0 0 = _ from t3, r2]
      simp only [Option.bind_some]
      rw [show (512 : Int32) * nI d = nI (512 * d + sumL ln 0) from by rw [show (512 : Int32) = nI 512 from rfl, pk_mul]; rfl]
      exact y2
    obtain ⟨M, hM4⟩ : ∃ z, N - 24 = z + 1 := ⟨N - 25, by omega⟩
    rw [hM4]
    exact v0 M
end
