/-! pure: marks go out; runs that go on -/
section
variable {N d nS nm : Nat} {tv own mp ins era old : Nat → Int32}
theorem mark_pair {s cnt mc n : Nat} {so sn mo mn oc fl : Nat → Int32} (hN : 50 ≤ N) (hd : d ≤ 1) (hnS : nS ≤ 24) (hnm : nm ≤ 24) (hs : s < nm) (hT : RelT d nS tv own) (hM : RelM d nm nS mp ins era old) (hR : RSet nS cnt tv so sn) (hQ : RMark nm nS mc tv mp mo mn) (hF : RelF n oc fl) (hn : n + 79 ≤ 6000) :
    ∃ (oc' fl' so' sn' mo' mn' : Nat → Int32) (n' cnt' mc' : Nat), r_W_writeMark N (nI s) oc (nI n) so mo (nI cnt) (nI mc) 576 tv (nI nS) mp (nI nm) = some (oc', nI n', so', mo', nI cnt', nI mc') ∧ r_Z_markOut N (nI s) (nI n) fl (nI d) own ins era old sn mn (nI cnt) (nI mc) = some (nI n', fl', sn', mn', nI cnt', nI mc') ∧ RelF n' oc' fl' ∧ RSet nS cnt' tv so' sn' ∧ RMark nm nS mc' tv mp mo' mn' ∧ cnt ≤ cnt' ∧ mc ≤ mc' ∧ n' + 73 * cnt + 5 * mc ≤ n + 1 + 73 * cnt' + 5 * mc' := by
  have hcl := hQ.cnt_le
  obtain ⟨ss, si, h1, h2, h3⟩ := hQ
  obtain ⟨k, f1, f2⟩ := firstMark_t (N := N) hN hd hnS hnm hs hT hM
  have hk : k < nm := by have := f1.1; omega
  unfold r_W_writeMark r_Z_markOut r_W_numberOfMark
  rw [f2]
  simp only [Option.bind_some, q_cl (show k < 2147483648 by omega), gi_n (show k < 24 by omega) (show 24 < 2147483648 by decide)]
  rcases numMark_loop (N := N) hN hnS hnm hs (by omega) hM f1 (fun i hi => ⟨(h1 i hi).1, (h1 i hi).2.1, (h1 i hi).2.2.1⟩) mc 0 N (by omega) (by omega) (fun j hj => absurd hj (by omega)) with ⟨i0, g1, g2, g3⟩ | ⟨g1, g2⟩
  · have hsn := (h1 i0 g1).2.2.2
    rw [g2] at hsn
    obtain ⟨o1, fl1, b1, b2, b3⟩ := num_pair (k := i0 + 1) hF (by omega) (by rw [nb1 (by omega)]; omega)
    rw [nb1 (show i0 + 1 < 128 by omega)] at b1 b2 b3
    refine ⟨o1, fl1, so, sn, mo, mn, n + 1, cnt, mc, ?_, ?_, b3, hR, ⟨ss, si, h1, h2, h3⟩, Nat.le_refl _, Nat.le_refl _, by omega⟩
    · rw [show l_W_numberOfMark_2 N (nI s) mo (nI mc) 576 tv (nI nS) mp (nI nm) N 0 = _ from g3]
      simp only [Option.bind_some]
      rw [b1]
      simp only [Option.bind_some]
      rw [if_neg (nI_ne0 (by omega) (by omega))]
    · rw [hsn, if_neg (nI_nle (by omega) (by omega)), b2]
      rfl
  · have hsn := h3 k (by omega) g1
    have hc : mc < nm := by
      have := pigeon nm (mc + 1) (fun i => if i = mc then k else ss i) (fun i hi => by
        by_cases e : i = mc
        · simp only [if_pos e]; exact hk
        · simp only [if_neg e]
          obtain ⟨a, -, c, -⟩ := h1 i (by omega)
          have := c.1
          omega) (fun i j hi hj e => by
        by_cases ei : i = mc
        · by_cases ej : j = mc
          · omega
          · simp only [if_pos ei, if_neg ej] at e
            exact absurd e.symm (g1 j (by omega))
        · by_cases ej : j = mc
          · simp only [if_neg ei, if_pos ej] at e
            exact absurd e (g1 i (by omega))
          · simp only [if_neg ei, if_neg ej] at e
            exact h2 i j (by omega) (by omega) e)
      omega
    obtain ⟨x1, x2, x3, ⟨vi, hvi, evi⟩, ⟨ve, hve, eve⟩, x6⟩ := hM k hk
    obtain ⟨-, -, -, -, -, y6⟩ := hM s hs
    obtain ⟨e0, e1, e2⟩ := f1.2.1
    have bi : nb vi ≤ 2 := nb2 (by omega)
    have be : nb ve ≤ 2 := nb2 (by omega)
    obtain ⟨o1, fl1, b1, b2, b3⟩ := num_pair (k := 0) hF (by omega) (by rw [nb1 (by omega)]; omega)
    rw [nb1 (show 0 < 128 by omega)] at b1 b2 b3
    obtain ⟨o2, fl2, c1, c2, c3⟩ := num_pair (k := vi) b3 (by omega) (by omega)
    obtain ⟨o3, fl3, w1, w2, w3⟩ := num_pair (k := ve) c3 (by omega) (by omega)
    have hnew : RMark nm nS (mc + 1) tv mp (upd mo mc (nI s)) (upd mn k (nI (mc + 1))) := by
      refine ⟨fun i => if i = mc then k else ss i, fun i => if i = mc then s else si i, fun i hi => ?_, fun i j hi hj e => ?_, fun q hq hqs => ?_⟩
      · by_cases e : i = mc
        · subst e
          simp only [if_true]
          exact ⟨hs, upd_s _ _ _, f1, upd_s _ _ _⟩
        · simp only [if_neg e]
          obtain ⟨a1, a2, a3, a4⟩ := h1 i (by omega)
          exact ⟨a1, by rw [upd_n _ _ e]; exact a2, a3, by rw [upd_n _ _ (g1 i (by omega))]; exact a4⟩
      · by_cases ei : i = mc
        · by_cases ej : j = mc
          · omega
          · simp only [if_pos ei, if_neg ej] at e
            exact absurd e.symm (g1 j (by omega))
        · by_cases ej : j = mc
          · simp only [if_neg ei, if_pos ej] at e
            exact absurd e (g1 i (by omega))
          · simp only [if_neg ei, if_neg ej] at e
            exact h2 i j (by omega) (by omega) e
      · have e1 : q ≠ k := fun e => by
          have := hqs mc (by omega)
          simp only [if_true] at this
          exact this e.symm
        rw [upd_n _ _ e1]
        exact h3 q hq (fun i hi e => by
          have := hqs i (by omega)
          simp only [if_neg (show ¬ i = mc by omega)] at this
          exact this e)
    have pz0 : r_M_part (nI s) 0 mp (nI nm) = some (nI vi) := by
      rw [show (0 : Int32) = nI 0 from rfl, mpart_t hnm hs (by decide)]
      show some (mp (3 * s)) = _
      rw [e0, evi]
    have pz1 : r_M_part (nI s) 1 mp (nI nm) = some (nI ve) := by
      rw [show (1 : Int32) = nI 1 from rfl, mpart_t hnm hs (by decide), e1, eve]
    have pz2 : r_M_part (nI s) 2 mp (nI nm) = some (mp (3 * s + 2)) := by
      rw [show (2 : Int32) = nI 2 from rfl, mpart_t hnm hs (by decide)]
    rw [show l_W_numberOfMark_2 N (nI s) mo (nI mc) 576 tv (nI nS) mp (nI nm) N 0 = _ from g2, hsn, show (24 : Int32) = nI 24 from rfl, q_iz]
    simp only [Option.bind_some, if_true, show ((0 : Int32) ≤ 0) = True from by decide, gi_n (show 24 * d + k < 48 by omega) (show 48 < 2147483648 by decide), q_cl (show 24 * d + k < 2147483648 by omega), ← x1, ← x2, ← x3, evi, eve]
    rw [show r_W_writeNumber 0 oc (nI n) = _ from b1, show r_Z_number 0 (nI n) fl = _ from b2]
    simp only [Option.bind_some]
    rw [if_neg (show ¬ nI 24 ≤ nI mc from nI_ge (by omega) (by decide)), gi_n (by omega) (by decide), pz0, pz1, pz2, c2, q_cl (by omega), nI_1]
    simp only [Option.bind_some]
    rw [c1, w2]
    simp only [Option.bind_some]
    rw [w1]
    simp only [Option.bind_some]
    rcases y6 with o | ⟨i, hi, o⟩
    · -- none
      have o' : mp (3 * k + 2) = -1 := by
        rcases e2 with e | ⟨i, j, c1, c2, c3, c4, c5⟩
        · rw [← e, o]
        · rw [o] at c3
          exact absurd c3 (by
            have : ∀ k : Nat, k < 24 → ¬ ((-1) : Int32) = nI k := by decide
            exact this i (by omega))
      obtain ⟨o4, fl4, v1, v2, v3⟩ := num_pair (k := 0) w3 (by omega) (by have := nb1 (show 0 < 128 by decide); omega)
      rw [nb1 (show 0 < 128 by omega)] at v1 v2 v3
      rw [o, o', if_pos rfl, if_neg (show ¬ (0 : Int32) ≤ -1 by decide), show r_W_writeNumber 0 o3 _ = _ from v1, show r_Z_number 0 _ fl3 = _ from v2]
      exact ⟨o4, fl4, so, sn, upd mo mc (nI s), upd mn k (nI (mc + 1)), n + 1 + nb vi + nb ve + 1, cnt, mc + 1, rfl, rfl, v3, hR, hnew, Nat.le_refl _, by omega, by omega⟩
    · -- a set
      obtain ⟨j, hj, oj, sj⟩ : ∃ j, j < nS ∧ mp (3 * k + 2) = nI j ∧ Sm tv i j := by
        rcases e2 with e | ⟨i', j, c1, c2, c3, c4, c5⟩
        · exact ⟨i, hi, by rw [← e, o], Sm.rfl⟩
        · have : i = i' := (nI_eq (by omega) (by omega)).mp (o.symm.trans c3)
          subst this
          exact ⟨j, c2, c4, c5⟩
      obtain ⟨o4, fl4, so', sn', n', cnt', v1, v2, v3, v4, v5, v6⟩ := set_pair (N := N) (h := 1) hN hd hnS hi hj sj (Nat.le_refl _) hT hR w3 (by omega)
      rw [o, oj, if_neg (show ¬ nI i = -1 from fun e => absurd e (by
        have : ∀ k : Nat, k < 24 → ¬ nI k = ((-1) : Int32) := by decide
        exact this i (by omega))), if_pos (nI_pos' (by omega)), show r_W_writeSet N (nI i) 1 o3 _ so _ 576 tv (nI nS) = _ from v1, show r_Z_setOut N (nI j) 1 _ fl3 (nI d) own sn (nI cnt) = _ from v2]
      exact ⟨o4, fl4, so', sn', upd mo mc (nI s), upd mn k (nI (mc + 1)), n', cnt', mc + 1, rfl, rfl, v3, v4, hnew, v5, by omega, by omega⟩
end
