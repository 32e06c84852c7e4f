/-! pure: runs that go on with one another -/
def Sr (nS nm : Nat) (tv mp up : Nat → Int32) (i j : Nat) : Prop := up (6 * i) = up (6 * j) ∧ up (6 * i + 3) = up (6 * j + 3) ∧ (∃ a b, a < nS ∧ b < nS ∧ up (6 * i + 1) = nI a ∧ up (6 * j + 1) = nI b ∧ Sm tv a b) ∧ ∃ a b, a < nm ∧ b < nm ∧ up (6 * i + 2) = nI a ∧ up (6 * j + 2) = nI b ∧ Sk nS tv mp a b
section
variable {N d nS nm nr nc ns : Nat} {tv own mp ins era old up uc kind setOf markOf styleOf many text runs : Nat → Int32}
theorem Sr.symm {i j : Nat} (h : Sr nS nm tv mp up i j) : Sr nS nm tv mp up j i := by
  obtain ⟨h1, h2, ⟨a, b, c1, c2, c3, c4, c5⟩, a', b', d1, d2, d3, d4, d5⟩ := h
  exact ⟨h1.symm, h2.symm, ⟨b, a, c2, c1, c4, c3, c5.symm⟩, b', a', d2, d1, d4, d3, d5.symm⟩
theorem Sr.trans {i j k : Nat} (hnS : nS ≤ 24) (hnm : nm ≤ 24) (h : Sr nS nm tv mp up i j) (g : Sr nS nm tv mp up j k) : Sr nS nm tv mp up i k := by
  obtain ⟨h1, h2, ⟨a, b, c1, c2, c3, c4, c5⟩, a', b', d1, d2, d3, d4, d5⟩ := h
  obtain ⟨g1, g2, ⟨x, y, e1, e2, e3, e4, e5⟩, x', y', f1, f2, f3, f4, f5⟩ := g
  have : b = x := (nI_eq (by omega) (by omega)).mp (c4.symm.trans e3)
  subst this
  have : b' = x' := (nI_eq (by omega) (by omega)).mp (d4.symm.trans f3)
  subst this
  exact ⟨h1.trans g1, h2.trans g2, ⟨a, y, c1, e2, c3, e4, c5.trans e5⟩, a', y', d1, f2, d3, f4, d5.trans hnS f5⟩
/-- what a run holds, read off the relation -/
def RunAt (d nS nm ns : Nat) (up kind setOf markOf styleOf many : Nat → Int32) (ln : Nat → Nat) (i : Nat) : Prop := 1 ≤ ln i ∧ up (6 * i) = kind (40 * d + i) ∧ (up (6 * i) = 0 ∨ up (6 * i) = 1) ∧ up (6 * i + 1) = setOf (40 * d + i) ∧ (∃ k : Nat, k < nS ∧ up (6 * i + 1) = nI k) ∧ up (6 * i + 2) = markOf (40 * d + i) ∧ (∃ k : Nat, k < nm ∧ up (6 * i + 2) = nI k) ∧
    up (6 * i + 3) = styleOf (40 * d + i) ∧ bOK ns (up (6 * i + 3)) ∧ up (6 * i + 4) = nI (sumL ln i) ∧ up (6 * i + 5) = nI (ln i) ∧ many (40 * d + i) = nI (ln i)
theorem Sr.rfl {ln : Nat → Nat} {i : Nat} (h : RunAt d nS nm ns up kind setOf markOf styleOf many ln i) : Sr nS nm tv mp up i i := by
  obtain ⟨-, -, -, -, ⟨a, ha, ea⟩, -, ⟨b, hb, eb⟩, -⟩ := h
  exact ⟨Eq.refl _, Eq.refl _, ⟨a, a, ha, ha, ea, ea, Sm.rfl⟩, b, b, hb, hb, eb, eb, Sk.rfl⟩
theorem goesOn_0 : r_D_goesOn N (nI 0) 576 tv (nI nS) mp (nI nm) up (nI nr) = some 0 := by
  unfold r_D_goesOn
  rw [if_pos (by decide)]
theorem goesOn_t {ln : Nat → Nat} {i : Nat} (hN : 50 ≤ N) (hnS : nS ≤ 24) (hnm : nm ≤ 24) (hnr : nr ≤ 40) (hi : i + 1 < nr) (hM : RelM d nm nS mp ins era old) (h : Sr nS nm tv mp up i (i + 1)) : r_D_goesOn N (nI (i + 1)) 576 tv (nI nS) mp (nI nm) up (nI nr) = some 1 := by
  obtain ⟨h1, h2, ⟨a, b, c1, c2, c3, c4, c5⟩, a', b', d1, d2, d3, d4, d5⟩ := h
  unfold r_D_goesOn
  rw [q_one, if_neg (nI_pos (by omega)), show (0 : Int32) = nI 0 from rfl, show (1 : Int32) = nI 1 from rfl, show (2 : Int32) = nI 2 from rfl, show (3 : Int32) = nI 3 from rfl]
  simp only [upart_t hnr (show i < nr by omega) (show 0 < 6 by decide), upart_t hnr (show i < nr by omega) (show 1 < 6 by decide), upart_t hnr (show i < nr by omega) (show 2 < 6 by decide), upart_t hnr (show i < nr by omega) (show 3 < 6 by decide), upart_t hnr hi (show 0 < 6 by decide), upart_t hnr hi (show 1 < 6 by decide), upart_t hnr hi (show 2 < 6 by decide), upart_t hnr hi (show 3 < 6 by decide), Option.bind_some]
  rw [if_pos (show up (6 * i + 0) = up (6 * (i + 1) + 0) from h1), if_pos h2, c3, c4, sameP_t (by omega) hnS c1 c2 c5]
  simp only [Option.bind_some]
  rw [if_neg (show ¬ (1 : Int32) = nI 0 by decide), d3, d4, smarksD_t (by omega) hnS hnm d1 d2 hM d5]
  rfl
theorem goesOn_f {ln : Nat → Nat} {i : Nat} (hN : 50 ≤ N) (hnS : nS ≤ 24) (hnm : nm ≤ 24) (hnr : nr ≤ 40) (hi : i + 1 < nr) (hM : RelM d nm nS mp ins era old) (hA : ∀ i, i < nr → RunAt d nS nm ns up kind setOf markOf styleOf many ln i) (h : ¬ Sr nS nm tv mp up i (i + 1)) : r_D_goesOn N (nI (i + 1)) 576 tv (nI nS) mp (nI nm) up (nI nr) = some 0 := by
  obtain ⟨-, -, -, -, ⟨a, ha, ea⟩, -, ⟨a', ha', ea'⟩, -⟩ := hA i (by omega)
  obtain ⟨-, -, -, -, ⟨b, hb, eb⟩, -, ⟨b', hb', eb'⟩, -⟩ := hA (i + 1) hi
  unfold r_D_goesOn
  rw [q_one, if_neg (nI_pos (by omega)), show (0 : Int32) = nI 0 from rfl, show (1 : Int32) = nI 1 from rfl, show (2 : Int32) = nI 2 from rfl, show (3 : Int32) = nI 3 from rfl]
  simp only [upart_t hnr (show i < nr by omega) (show 0 < 6 by decide), upart_t hnr (show i < nr by omega) (show 1 < 6 by decide), upart_t hnr (show i < nr by omega) (show 2 < 6 by decide), upart_t hnr (show i < nr by omega) (show 3 < 6 by decide), upart_t hnr hi (show 0 < 6 by decide), upart_t hnr hi (show 1 < 6 by decide), upart_t hnr hi (show 2 < 6 by decide), upart_t hnr hi (show 3 < 6 by decide), Option.bind_some]
  by_cases e0 : up (6 * i + 0) = up (6 * (i + 1) + 0)
  · rw [if_pos e0]
    by_cases e3 : up (6 * i + 3) = up (6 * (i + 1) + 3)
    · rw [if_pos e3, ea, eb]
      by_cases es : Sm tv a b
      · rw [sameP_t (by omega) hnS ha hb es]
        simp only [Option.bind_some]
        rw [if_neg (show ¬ (1 : Int32) = nI 0 by decide), ea', eb', smarksD_f (by omega) hnS hnm ha' hb' hM (fun ek => h ⟨e0, e3, ⟨a, b, ha, hb, ea, eb, es⟩, a', b', ha', hb', ea', eb', ek⟩)]
        rfl
      · rw [sameP_f (by omega) hnS ha hb es]
        rfl
    · rw [if_neg e3]
  · rw [if_neg e0]
theorem sruns_t {ln : Nat → Nat} {i j : Nat} (hN : 50 ≤ N) (hd : d ≤ 1) (hnS : nS ≤ 24) (hnm : nm ≤ 24) (hnr : nr ≤ 40) (hi : i < nr) (hj : j < nr) (hT : RelT d nS tv own) (hM : RelM d nm nS mp ins era old) (hA : ∀ i, i < nr → RunAt d nS nm ns up kind setOf markOf styleOf many ln i) (h : Sr nS nm tv mp up i j) : r_Z_sameRuns N (nI d) (nI i) (nI j) own ins era old kind setOf markOf styleOf = some 1 := by
  obtain ⟨h1, h2, ⟨a, b, c1, c2, c3, c4, c5⟩, a', b', d1, d2, d3, d4, d5⟩ := h
  obtain ⟨-, x1, -, x2, -, x3, -, x4, -⟩ := hA i hi
  obtain ⟨-, y1, -, y2, -, y3, -, y4, -⟩ := hA j hj
  unfold r_Z_sameRuns
  rw [show (40 : Int32) = nI 40 from rfl, q_iz, q_iz]
  simp only [gi_n (show 40 * d + i < 80 by omega) (show 80 < 2147483648 by decide), gi_n (show 40 * d + j < 80 by omega) (show 80 < 2147483648 by decide), q_cl (show 40 * d + i < 2147483648 by omega), q_cl (show 40 * d + j < 2147483648 by omega), ← x1, ← x2, ← x3, ← x4, ← y1, ← y2, ← y3, ← y4, c3, c4, d3, d4]
  obtain ⟨m, f1, f2⟩ := firstSet_t (N := N) hN hd hnS c1 hT
  obtain ⟨m', f1', f2'⟩ := firstSet_t (N := N) hN hd hnS c2 hT
  obtain ⟨q, g1, g2⟩ := firstMark_t (N := N) hN hd hnS hnm d1 hT hM
  obtain ⟨q', g1', g2'⟩ := firstMark_t (N := N) hN hd hnS hnm d2 hT hM
  rw [if_pos h1, if_pos h2, f2, f2', g2, g2', (f1.same f1').mp c5, (g1.same hnS g1').mp d5]
  simp only [Option.bind_some, if_true]
theorem sruns_f {ln : Nat → Nat} {i j : Nat} (hN : 50 ≤ N) (hd : d ≤ 1) (hnS : nS ≤ 24) (hnm : nm ≤ 24) (hnr : nr ≤ 40) (hi : i < nr) (hj : j < nr) (hT : RelT d nS tv own) (hM : RelM d nm nS mp ins era old) (hA : ∀ i, i < nr → RunAt d nS nm ns up kind setOf markOf styleOf many ln i) (h : ¬ Sr nS nm tv mp up i j) : r_Z_sameRuns N (nI d) (nI i) (nI j) own ins era old kind setOf markOf styleOf = some 0 := by
  obtain ⟨-, x1, -, x2, ⟨a, ha, ea⟩, x3, ⟨a', ha', ea'⟩, x4, -⟩ := hA i hi
  obtain ⟨-, y1, -, y2, ⟨b, hb, eb⟩, y3, ⟨b', hb', eb'⟩, y4, -⟩ := hA j hj
  unfold r_Z_sameRuns
  rw [show (40 : Int32) = nI 40 from rfl, q_iz, q_iz]
  simp only [gi_n (show 40 * d + i < 80 by omega) (show 80 < 2147483648 by decide), gi_n (show 40 * d + j < 80 by omega) (show 80 < 2147483648 by decide), q_cl (show 40 * d + i < 2147483648 by omega), q_cl (show 40 * d + j < 2147483648 by omega), ← x1, ← x2, ← x3, ← x4, ← y1, ← y2, ← y3, ← y4, ea, eb, ea', eb']
  obtain ⟨m, f1, f2⟩ := firstSet_t (N := N) hN hd hnS ha hT
  obtain ⟨m', f1', f2'⟩ := firstSet_t (N := N) hN hd hnS hb hT
  obtain ⟨q, g1, g2⟩ := firstMark_t (N := N) hN hd hnS hnm ha' hT hM
  obtain ⟨q', g1', g2'⟩ := firstMark_t (N := N) hN hd hnS hnm hb' hT hM
  rw [f2, f2', g2, g2']
  simp only [Option.bind_some]
  by_cases e0 : up (6 * i) = up (6 * j)
  · rw [if_pos e0]
    by_cases e3 : up (6 * i + 3) = up (6 * j + 3)
    · rw [if_pos e3]
      by_cases es : m = m'
      · rw [if_pos (by rw [es]), if_neg]
        intro e
        have e := (nI_eq (by have := g1.1; omega) (by have := g1'.1; omega)).mp e
        exact h ⟨e0, e3, ⟨a, b, ha, hb, ea, eb, (f1.same f1').mpr es⟩, a', b', ha', hb', ea', eb', (g1.same hnS g1').mpr e⟩
      · rw [if_neg]
        intro e
        exact es ((nI_eq (by have := f1.1; omega) (by have := f1'.1; omega)).mp e)
    · rw [if_neg e3]
  · rw [if_neg e0]
/-- a group: runs r .. r + n - 1 go on with one another, and it ends there -/
def Gr (nS nm nr : Nat) (tv mp up : Nat → Int32) (r n : Nat) : Prop := 1 ≤ n ∧ r + n ≤ nr ∧ (∀ j, j + 1 < n → Sr nS nm tv mp up (r + j) (r + j + 1)) ∧ (r + n < nr → ¬ Sr nS nm tv mp up (r + n - 1) (r + n))
theorem joined_loop {ln : Nat → Nat} {r : Nat} (hN : 50 ≤ N) (hd : d ≤ 1) (hnS : nS ≤ 24) (hnm : nm ≤ 24) (hnr : nr ≤ 40) (hr : r < nr) (h4 : runs d = nI nr) (hT : RelT d nS tv own) (hM : RelM d nm nS mp ins era old) (hA : ∀ i, i < nr → RunAt d nS nm ns up kind setOf markOf styleOf many ln i) :
    ∀ (k n fu : Nat), r + n + k = nr → k < fu → 1 ≤ n → (∀ j, j + 1 < n → Sr nS nm tv mp up (r + j) (r + j + 1)) → Sr nS nm tv mp up r (r + n - 1) → ∃ m, Gr nS nm nr tv mp up r m ∧ l_Z_joined_2 N (nI r) (nI d) runs own ins era old kind setOf markOf styleOf fu (nI n) = some (nI m) := by
  have c : (nI d).toNatClampNeg = d := q_cl (by omega)
  intro k
  induction k with
  | zero =>
    intro n fu hk hf h1 h2 h3
    obtain ⟨fu, rfl⟩ : ∃ z, fu = z + 1 := ⟨fu - 1, by omega⟩
    refine ⟨n, ⟨h1, by omega, h2, fun h => absurd h (by omega)⟩, ?_⟩
    rw [l_Z_joined_2, gi_n (by omega) (by decide), c, h4, nI_add, if_pos (nI_le (by omega) (by omega))]
  | succ k ih =>
    intro n fu hk hf h1 h2 h3
    obtain ⟨fu, rfl⟩ : ∃ z, fu = z + 1 := ⟨fu - 1, by omega⟩
    rw [l_Z_joined_2, gi_n (by omega) (by decide), c, h4, nI_add, if_neg (nI_ge (by omega) (by omega))]
    by_cases h : Sr nS nm tv mp up r (r + n)
    · rw [sruns_t hN hd hnS hnm hnr hr (by omega) hT hM hA h]
      simp only [Option.bind_some, if_neg q_10]
      rw [nI_1]
      refine ih (n + 1) fu (by omega) (by omega) (by omega) (fun j hj => ?_) h
      by_cases e : j + 1 = n
      · have : Sr nS nm tv mp up (r + n - 1) (r + n) := h3.symm.trans hnS hnm h
        rw [show r + j = r + n - 1 by omega, show r + n - 1 + 1 = r + n by omega]
        exact this
      · exact h2 j (by omega)
    · rw [sruns_f hN hd hnS hnm hnr hr (by omega) hT hM hA h]
      exact ⟨n, ⟨h1, by omega, h2, fun _ h5 => h (h3.trans hnS hnm h5)⟩, rfl⟩
theorem joined_t {ln : Nat → Nat} {r : Nat} (hN : 50 ≤ N) (hd : d ≤ 1) (hnS : nS ≤ 24) (hnm : nm ≤ 24) (hnr : nr ≤ 40) (hr : r < nr) (h4 : runs d = nI nr) (hT : RelT d nS tv own) (hM : RelM d nm nS mp ins era old) (hA : ∀ i, i < nr → RunAt d nS nm ns up kind setOf markOf styleOf many ln i) :
    ∃ m, Gr nS nm nr tv mp up r m ∧ r_Z_joined N (nI r) (nI d) runs own ins era old kind setOf markOf styleOf = some (nI m) :=
  joined_loop hN hd hnS hnm hnr hr h4 hT hM hA (nr - (r + 1)) 1 N (by omega) (by omega) (Nat.le_refl _) (fun j hj => absurd hj (by omega)) (by rw [Nat.add_sub_cancel]; exact Sr.rfl (hA r hr))
end
