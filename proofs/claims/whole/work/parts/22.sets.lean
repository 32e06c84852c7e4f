/-! pure: sets and marks go out on both sides -/
/-- no room for more different numbers than there are -/
theorem pigeon : ∀ (m n : Nat) (f : Nat → Nat), (∀ i, i < n → f i < m) → (∀ i j, i < n → j < n → f i = f j → i = j) → n ≤ m := by
  intro m
  induction m with
  | zero =>
    intro n f h1 h2
    rcases Nat.eq_zero_or_pos n with e | e
    · omega
    · exact absurd (h1 0 e) (by omega)
  | succ m ih =>
    intro n f h1 h2
    by_cases h : ∃ i, i < n ∧ f i = m
    · obtain ⟨i0, hi0, e0⟩ := h
      have := ih (n - 1) (fun i => if i = i0 then f (n - 1) else f i) (fun i hi => by
        by_cases e : i = i0
        · simp only [if_pos e]
          have a := h1 (n - 1) (by omega)
          have b : f (n - 1) ≠ m := fun e2 => by
            have := h2 (n - 1) i0 (by omega) hi0 (e2.trans e0.symm)
            omega
          omega
        · simp only [if_neg e]
          have a := h1 i (by omega)
          have b : f i ≠ m := fun e2 => e (h2 i i0 (by omega) hi0 (e2.trans e0.symm))
          omega) (fun i j hi hj e => by
        by_cases ei : i = i0
        · by_cases ej : j = i0
          · omega
          · simp only [if_pos ei, if_neg ej] at e
            have := h2 (n - 1) j (by omega) (by omega) e
            omega
        · by_cases ej : j = i0
          · simp only [if_neg ei, if_pos ej] at e
            have := h2 i (n - 1) (by omega) (by omega) e
            omega
          · simp only [if_neg ei, if_neg ej] at e
            exact h2 i j (by omega) (by omega) e)
      omega
    · have := ih n f (fun i hi => by
        have a := h1 i hi
        have b : f i ≠ m := fun e => h ⟨i, hi, e⟩
        omega) h2
      omega
/-- what was written out so far, by the class's list and the reference's numbers -/
def RSet (nS cnt : Nat) (tv so sn : Nat → Int32) : Prop := ∃ ss si : Nat → Nat, (∀ i, i < cnt → si i < nS ∧ so i = nI (si i) ∧ FS tv (si i) (ss i) ∧ sn (ss i) = nI (i + 1)) ∧ (∀ i j, i < cnt → j < cnt → ss i = ss j → i = j) ∧ ∀ k, k < 24 → (∀ i, i < cnt → ss i ≠ k) → sn k = 0
theorem RSet.cnt_le {nS cnt : Nat} {tv so sn : Nat → Int32} (h : RSet nS cnt tv so sn) : cnt ≤ nS := by
  obtain ⟨ss, si, h1, h2, -⟩ := h
  exact pigeon nS cnt ss (fun i hi => by
    obtain ⟨a, b, c, -⟩ := h1 i hi
    have := c.1
    omega) h2
def RMark (nm nS cnt : Nat) (tv mp mo mn : Nat → Int32) : Prop := ∃ ss si : Nat → Nat, (∀ i, i < cnt → si i < nm ∧ mo i = nI (si i) ∧ FM nS tv mp (si i) (ss i) ∧ mn (ss i) = nI (i + 1)) ∧ (∀ i j, i < cnt → j < cnt → ss i = ss j → i = j) ∧ ∀ k, k < 24 → (∀ i, i < cnt → ss i ≠ k) → mn k = 0
theorem RMark.cnt_le {nm nS cnt : Nat} {tv mp mo mn : Nat → Int32} (h : RMark nm nS cnt tv mp mo mn) : cnt ≤ nm := by
  obtain ⟨ss, si, h1, h2, -⟩ := h
  exact pigeon nm cnt ss (fun i hi => by
    obtain ⟨a, b, c, -⟩ := h1 i hi
    have := c.1
    omega) h2
section
variable {N d nS nm : Nat} {tv own mp ins era old : Nat → Int32}
theorem numSet_loop {s k cnt : Nat} {so : Nat → Int32} {ss si : Nat → Nat} (hN : 50 ≤ N) (hnS : nS ≤ 24) (hs : s < nS) (hc : cnt ≤ 24) (hk : FS tv s k) (h1 : ∀ i, i < cnt → si i < nS ∧ so i = nI (si i) ∧ FS tv (si i) (ss i)) :
    ∀ (m i fu : Nat), i + m = cnt → m < fu → (∀ j, j < i → ss j ≠ k) → (∃ i0, i0 < cnt ∧ ss i0 = k ∧ l_W_numberOfSet_2 N (nI s) so (nI cnt) 576 tv (nI nS) fu (nI i) = some (nI (i0 + 1))) ∨ ((∀ j, j < cnt → ss j ≠ k) ∧ l_W_numberOfSet_2 N (nI s) so (nI cnt) 576 tv (nI nS) fu (nI i) = some 0) := by
  intro m
  induction m with
  | zero =>
    intro i fu hm hf hj
    obtain ⟨fu, rfl⟩ : ∃ z, fu = z + 1 := ⟨fu - 1, by omega⟩
    obtain rfl : i = cnt := by omega
    refine Or.inr ⟨hj, ?_⟩
    rw [l_W_numberOfSet_2, if_pos (nI_le (Nat.le_refl _) (by omega))]
  | succ m ih =>
    intro i fu hm hf hj
    obtain ⟨fu, rfl⟩ : ∃ z, fu = z + 1 := ⟨fu - 1, by omega⟩
    obtain ⟨a1, a2, a3⟩ := h1 i (by omega)
    rw [l_W_numberOfSet_2, if_neg (nI_ge (by omega) (by omega)), gi_n (by omega) (by decide), q_cl (by omega), a2]
    by_cases e : ss i = k
    · rw [sameP_t (by omega) hnS a1 hs ((a3.same hk).mpr e)]
      simp only [Option.bind_some, if_neg q_10]
      rw [nI_1]
      exact Or.inl ⟨i, by omega, e, rfl⟩
    · rw [sameP_f (by omega) hnS a1 hs (fun h => e ((a3.same hk).mp h))]
      simp only [Option.bind_some, if_true]
      rw [nI_1]
      exact ih (i + 1) fu (by omega) (by omega) (fun j hj2 => by
        rcases Nat.lt_succ_iff_lt_or_eq.mp hj2 with g | g
        · exact hj j g
        · rw [g]; exact e)
theorem FS.move {s s' k : Nat} (h : FS tv s' k) (hss : Sm tv s s') : FS tv s k := by
  refine ⟨?_, hss.trans h.2.1, fun b hb hc => h.2.2 b hb (hss.symm.trans hc)⟩
  rcases Nat.lt_or_ge s k with e | e
  · exact absurd hss.symm (h.2.2 s e)
  · exact e
theorem set_pair {s s' h cnt n : Nat} {so sn oc fl : Nat → Int32} (hN : 50 ≤ N) (hd : d ≤ 1) (hnS : nS ≤ 24) (hs : s < nS) (hs' : s' < nS) (hss : Sm tv s s') (hh : h ≤ 1) (hT : RelT d nS tv own) (hR : RSet nS cnt tv so sn) (hF : RelF n oc fl) (hn : n + 74 ≤ 6000) :
    ∃ (oc' fl' so' sn' : Nat → Int32) (n' cnt' : Nat), r_W_writeSet N (nI s) (nI h) oc (nI n) so (nI cnt) 576 tv (nI nS) = some (oc', nI n', so', nI cnt') ∧ r_Z_setOut N (nI s') (nI h) (nI n) fl (nI d) own sn (nI cnt) = some (nI n', fl', sn', nI cnt') ∧ RelF n' oc' fl' ∧ RSet nS cnt' tv so' sn' ∧ cnt ≤ cnt' ∧ n' + 73 * cnt ≤ n + 1 + 73 * cnt' := by
  have hcl := hR.cnt_le
  obtain ⟨ss, si, h1, h2, h3⟩ := hR
  obtain ⟨k, f0, f2⟩ := firstSet_t (N := N) hN hd hnS hs' hT
  have f1 := f0.move hss
  have hk : k < nS := by have := f1.1; omega
  unfold r_W_writeSet r_Z_setOut r_W_numberOfSet
  rw [f2]
  simp only [Option.bind_some, q_cl (show k < 2147483648 by omega), gi_n (show k < 24 by omega) (show 24 < 2147483648 by decide)]
  rcases numSet_loop (N := N) hN hnS hs (by omega) f1 (fun i hi => ⟨(h1 i hi).1, (h1 i hi).2.1, (h1 i hi).2.2.1⟩) cnt 0 N (by omega) (by omega) (fun j hj => absurd hj (by omega)) with ⟨i0, g1, g2, g3⟩ | ⟨g1, g2⟩
  · -- it stands already
    have hsn := (h1 i0 g1).2.2.2
    rw [g2] at hsn
    obtain ⟨o1, fl1, b1, b2, b3⟩ := num_pair (k := i0 + 1 + h) hF (by omega) (by rw [nb1 (by omega)]; omega)
    rw [nb1 (show i0 + 1 + h < 128 by omega)] at b1 b2 b3
    refine ⟨o1, fl1, so, sn, n + 1, cnt, ?_, ?_, b3, ⟨ss, si, h1, h2, h3⟩, Nat.le_refl _, by omega⟩
    · rw [show l_W_numberOfSet_2 N (nI s) so (nI cnt) 576 tv (nI nS) N 0 = _ from g3]
      simp only [Option.bind_some]
      rw [nI_add, b1]
      simp only [Option.bind_some]
      rw [if_neg (nI_ne0 (by omega) (by omega))]
    · rw [hsn, if_neg (nI_nle (by omega) (by omega)), nI_add, b2]
      rfl
  · -- it is written out
    have hsn := h3 k (by omega) g1
    have hc : cnt < nS := by
      have := pigeon nS (cnt + 1) (fun i => if i = cnt then k else ss i) (fun i hi => by
        by_cases e : i = cnt
        · simp only [if_pos e]; exact hk
        · simp only [if_neg e]
          obtain ⟨a, -, c, -⟩ := h1 i (by omega)
          have := c.1
          omega) (fun i j hi hj e => by
        by_cases ei : i = cnt
        · by_cases ej : j = cnt
          · omega
          · simp only [if_pos ei, if_neg ej] at e
            exact absurd e.symm (g1 j (by omega))
        · by_cases ej : j = cnt
          · simp only [if_neg ei, if_pos ej] at e
            exact absurd e (g1 i (by omega))
          · simp only [if_neg ei, if_neg ej] at e
            exact h2 i j (by omega) (by omega) e)
      omega
    obtain ⟨o1, fl1, b1, b2, b3⟩ := num_pair (k := h) hF (by omega) (by rw [nb1 (by omega)]; omega)
    rw [nb1 (show h < 128 by omega)] at b1 b2 b3
    have hp : ∀ p, p < 24 → own (960 * d + (384 + 24 * k) + p) = tv (24 * s + p) + 1 ∧ pOK p (tv (24 * s + p)) := fun p hp => by
      have e := hT k hk p hp
      rw [show 960 * d + (384 + 24 * k) + p = 960 * d + (384 + (24 * k + p)) by omega, f1.2.1 p hp]
      exact e
    obtain ⟨o2, fl2, n', c1, c2, c3, c4⟩ := props_pair (N := N) (nv := 576) (a := 960 * d + (384 + 24 * k)) (by omega) hnS hs (by omega) (by omega) (by omega) hp b3 (by omega)
    refine ⟨o2, fl2, upd so cnt (nI s), upd sn k (nI (cnt + 1)), n', cnt + 1, ?_, ?_, c3, ?_, by omega, by omega⟩
    · rw [show l_W_numberOfSet_2 N (nI s) so (nI cnt) 576 tv (nI nS) N 0 = _ from g2]
      simp only [Option.bind_some]
      rw [show (0 : Int32) + nI h = nI h from by rw [show (0 : Int32) = nI 0 from rfl, nI_add, Nat.zero_add], b1]
      simp only [Option.bind_some, if_true]
      rw [if_neg (show ¬ (24 : Int32) ≤ nI cnt from nI_ge (b := 24) (by omega) (by decide)), gi_n (by omega) (by decide), c1, q_cl (by omega), nI_1]
      rfl
    · rw [hsn, if_pos (by decide), b2, q_zrow1]
      simp only [Option.bind_some]
      rw [c2]
      simp only [Option.bind_some]
      rw [nI_1]
    · refine ⟨fun i => if i = cnt then k else ss i, fun i => if i = cnt then s else si i, fun i hi => ?_, fun i j hi hj e => ?_, fun q hq hqs => ?_⟩
      · by_cases e : i = cnt
        · subst e
          simp only [if_true]
          exact ⟨hs, upd_s _ _ _, f1, upd_s _ _ _⟩
        · simp only [if_neg e]
          obtain ⟨a1, a2, a3, a4⟩ := h1 i (by omega)
          exact ⟨a1, by rw [upd_n _ _ e]; exact a2, a3, by rw [upd_n _ _ (g1 i (by omega))]; exact a4⟩
      · by_cases ei : i = cnt
        · by_cases ej : j = cnt
          · omega
          · simp only [if_pos ei, if_neg ej] at e
            exact absurd e.symm (g1 j (by omega))
        · by_cases ej : j = cnt
          · simp only [if_neg ei, if_pos ej] at e
            exact absurd e (g1 i (by omega))
          · simp only [if_neg ei, if_neg ej] at e
            exact h2 i j (by omega) (by omega) e
      · have e1 : q ≠ k := fun e => by
          have := hqs cnt (by omega)
          simp only [if_true] at this
          exact this e.symm
        rw [upd_n _ _ e1]
        exact h3 q hq (fun i hi e => by
          have := hqs i (by omega)
          simp only [if_neg (show ¬ i = cnt by omega)] at this
          exact this e)
theorem numMark_loop {s k cnt : Nat} {mo : Nat → Int32} {ss si : Nat → Nat} (hN : 50 ≤ N) (hnS : nS ≤ 24) (hnm : nm ≤ 24) (hs : s < nm) (hc : cnt ≤ 24) (hM : RelM d nm nS mp ins era old) (hk : FM nS tv mp s k) (h1 : ∀ i, i < cnt → si i < nm ∧ mo i = nI (si i) ∧ FM nS tv mp (si i) (ss i)) :
    ∀ (m i fu : Nat), i + m = cnt → m < fu → (∀ j, j < i → ss j ≠ k) → (∃ i0, i0 < cnt ∧ ss i0 = k ∧ l_W_numberOfMark_2 N (nI s) mo (nI cnt) 576 tv (nI nS) mp (nI nm) fu (nI i) = some (nI (i0 + 1))) ∨ ((∀ j, j < cnt → ss j ≠ k) ∧ l_W_numberOfMark_2 N (nI s) mo (nI cnt) 576 tv (nI nS) mp (nI nm) fu (nI i) = some 0) := by
  intro m
  induction m with
  | zero =>
    intro i fu hm hf hj
    obtain ⟨fu, rfl⟩ : ∃ z, fu = z + 1 := ⟨fu - 1, by omega⟩
    obtain rfl : i = cnt := by omega
    refine Or.inr ⟨hj, ?_⟩
    rw [l_W_numberOfMark_2, if_pos (nI_le (Nat.le_refl _) (by omega))]
  | succ m ih =>
    intro i fu hm hf hj
    obtain ⟨fu, rfl⟩ : ∃ z, fu = z + 1 := ⟨fu - 1, by omega⟩
    obtain ⟨a1, a2, a3⟩ := h1 i (by omega)
    rw [l_W_numberOfMark_2, if_neg (nI_ge (by omega) (by omega)), gi_n (by omega) (by decide), q_cl (by omega), a2]
    by_cases e : ss i = k
    · rw [smarksD_t (by omega) hnS hnm a1 hs hM ((a3.same hnS hk).mpr e)]
      simp only [Option.bind_some, if_neg q_10]
      rw [nI_1]
      exact Or.inl ⟨i, by omega, e, rfl⟩
    · rw [smarksD_f (by omega) hnS hnm a1 hs hM (fun h => e ((a3.same hnS hk).mp h))]
      simp only [Option.bind_some, if_true]
      rw [nI_1]
      exact ih (i + 1) fu (by omega) (by omega) (fun j hj2 => by
        rcases Nat.lt_succ_iff_lt_or_eq.mp hj2 with g | g
        · exact hj j g
        · rw [g]; exact e)
end
