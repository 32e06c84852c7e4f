/-! pure: sets, marks and runs that are the same -/
def Sm (tv : Nat → Int32) (a b : Nat) : Prop := ∀ p, p < 24 → tv (24 * a + p) = tv (24 * b + p)
theorem Sm.rfl {tv : Nat → Int32} {a : Nat} : Sm tv a a := fun _ _ => Eq.refl _
theorem Sm.symm {tv : Nat → Int32} {a b : Nat} (h : Sm tv a b) : Sm tv b a := fun p hp => (h p hp).symm
theorem Sm.trans {tv : Nat → Int32} {a b c : Nat} (h : Sm tv a b) (g : Sm tv b c) : Sm tv a c := fun p hp => (h p hp).trans (g p hp)
theorem q_inj {x y : Int32} (h : x + 1 = y + 1) : x = y := by
  have := congrArg (fun z => z - 1) h
  simpa [Int32.add_sub_cancel] using this
theorem not_all24 {P : Nat → Prop} : ∀ n, ¬ (∀ p, p < n → P p) → ∃ p, p < n ∧ ¬ P p := by
  intro n h
  apply Classical.byContradiction
  intro h2
  exact h (fun p hp => Classical.byContradiction fun h3 => h2 ⟨p, hp, h3⟩)
section
variable {N d nS a b : Nat} {tv own : Nat → Int32}
theorem sameP_loop (hnS : nS ≤ 24) (ha : a < nS) (hb : b < nS) : ∀ (k p fu : Nat), p + k = 24 → k < fu →
    ((∀ q, p ≤ q → q < 24 → tv (24 * a + q) = tv (24 * b + q)) → l_P_same_20 N (nI a) (nI b) 576 tv (nI nS) fu (nI p) = some 1) ∧ ((∃ q, p ≤ q ∧ q < 24 ∧ ¬ tv (24 * a + q) = tv (24 * b + q)) → l_P_same_20 N (nI a) (nI b) 576 tv (nI nS) fu (nI p) = some 0) := by
  intro k
  induction k with
  | zero =>
    intro p fu hk hf
    obtain ⟨fu, rfl⟩ : ∃ z, fu = z + 1 := ⟨fu - 1, by omega⟩
    obtain rfl : p = 24 := by omega
    refine ⟨fun _ => ?_, fun ⟨q, h1, h2, _⟩ => absurd h1 (by omega)⟩
    rw [l_P_same_20, if_pos (show (24 : Int32) ≤ nI 24 by decide)]
  | succ k ih =>
    intro p fu hk hf
    obtain ⟨fu, rfl⟩ : ∃ z, fu = z + 1 := ⟨fu - 1, by omega⟩
    rw [l_P_same_20, if_neg (show ¬ (24 : Int32) ≤ nI p from nI_ge (b := 24) (by omega) (by decide)), q_ix24, q_ix24, gi_n (by omega) (by decide), gi_n (by omega) (by decide), q_cl (by omega), q_cl (by omega), nI_1]
    obtain ⟨i1, i2⟩ := ih (p + 1) fu (by omega) (by omega)
    refine ⟨fun h => ?_, fun ⟨q, h1, h2, h3⟩ => ?_⟩
    · rw [if_pos (h p (Nat.le_refl _) (by omega))]
      exact i1 (fun q h1 h2 => h q (by omega) h2)
    · by_cases e : tv (24 * a + p) = tv (24 * b + p)
      · rw [if_pos e]
        refine i2 ⟨q, ?_, h2, h3⟩
        rcases Nat.eq_or_lt_of_le h1 with e2 | e2
        · subst e2
          exact absurd e h3
        · exact e2
      · rw [if_neg e]
theorem sameP_t (hN : 25 ≤ N) (hnS : nS ≤ 24) (ha : a < nS) (hb : b < nS) (h : Sm tv a b) : r_P_same N (nI a) (nI b) 576 tv (nI nS) = some 1 := by
  unfold r_P_same
  rw [has_t (by omega) (vp_in_nI ha (by omega)), has_t (by omega) (vp_in_nI hb (by omega))]
  exact (sameP_loop (N := N) hnS ha hb 24 0 N (by omega) (by omega)).1 (fun q _ h2 => h q h2)
theorem sameP_f (hN : 25 ≤ N) (hnS : nS ≤ 24) (ha : a < nS) (hb : b < nS) (h : ¬ Sm tv a b) : r_P_same N (nI a) (nI b) 576 tv (nI nS) = some 0 := by
  unfold r_P_same
  rw [has_t (by omega) (vp_in_nI ha (by omega)), has_t (by omega) (vp_in_nI hb (by omega))]
  obtain ⟨q, h1, h2⟩ := not_all24 24 h
  exact (sameP_loop (N := N) hnS ha hb 24 0 N (by omega) (by omega)).2 ⟨q, by omega, h1, h2⟩
theorem sameZ_0 : ∀ (k p fu : Nat), p + k = 24 → k < fu → l_Z_sameSets_6 N (nI d) (nI a) (nI b) own fu 0 (nI p) = some 0 := by
  intro k
  induction k with
  | zero =>
    intro p fu hk hf
    obtain ⟨fu, rfl⟩ : ∃ z, fu = z + 1 := ⟨fu - 1, by omega⟩
    obtain rfl : p = 24 := by omega
    rw [l_Z_sameSets_6, if_pos (show (24 : Int32) ≤ nI 24 by decide)]
    exact gz_0
  | succ k ih =>
    intro p fu hk hf
    obtain ⟨fu, rfl⟩ : ∃ z, fu = z + 1 := ⟨fu - 1, by omega⟩
    rw [l_Z_sameSets_6, if_neg (show ¬ (24 : Int32) ≤ nI p from nI_ge (b := 24) (by omega) (by decide)), if_pos rfl, nI_1]
    exact ih (p + 1) fu (by omega) (by omega)
theorem sameZ_loop (hd : d ≤ 1) (hnS : nS ≤ 24) (ha : a < nS) (hb : b < nS) (hT : RelT d nS tv own) : ∀ (k p fu : Nat), p + k = 24 → k < fu →
    ((∀ q, p ≤ q → q < 24 → tv (24 * a + q) = tv (24 * b + q)) → l_Z_sameSets_6 N (nI d) (nI a) (nI b) own fu 1 (nI p) = some 1) ∧ ((∃ q, p ≤ q ∧ q < 24 ∧ ¬ tv (24 * a + q) = tv (24 * b + q)) → l_Z_sameSets_6 N (nI d) (nI a) (nI b) own fu 1 (nI p) = some 0) := by
  intro k
  induction k with
  | zero =>
    intro p fu hk hf
    obtain ⟨fu, rfl⟩ : ∃ z, fu = z + 1 := ⟨fu - 1, by omega⟩
    obtain rfl : p = 24 := by omega
    refine ⟨fun _ => ?_, fun ⟨q, h1, h2, _⟩ => absurd h1 (by omega)⟩
    rw [l_Z_sameSets_6, if_pos (show (24 : Int32) ≤ nI 24 by decide)]
    exact gz_1
  | succ k ih =>
    intro p fu hk hf
    obtain ⟨fu, rfl⟩ : ∃ z, fu = z + 1 := ⟨fu - 1, by omega⟩
    rw [l_Z_sameSets_6, if_neg (show ¬ (24 : Int32) ≤ nI p from nI_ge (b := 24) (by omega) (by decide)), if_neg q_10, q_zrow1, q_zrow1]
    simp only [Option.bind_some]
    rw [nI_add, nI_add, gi_n (by omega) (by decide), gi_n (by omega) (by decide), q_cl (by omega), q_cl (by omega), nI_1, show 960 * d + (384 + 24 * a) + p = 960 * d + (384 + (24 * a + p)) by omega, show 960 * d + (384 + 24 * b) + p = 960 * d + (384 + (24 * b + p)) by omega, (hT a ha p (by omega)).1, (hT b hb p (by omega)).1]
    obtain ⟨i1, i2⟩ := ih (p + 1) fu (by omega) (by omega)
    refine ⟨fun h => ?_, fun ⟨q, h1, h2, h3⟩ => ?_⟩
    · rw [if_pos (by rw [h p (Nat.le_refl _) (by omega)])]
      exact i1 (fun q h1 h2 => h q (by omega) h2)
    · by_cases e : tv (24 * a + p) = tv (24 * b + p)
      · rw [if_pos (by rw [e])]
        refine i2 ⟨q, ?_, h2, h3⟩
        rcases Nat.eq_or_lt_of_le h1 with e2 | e2
        · subst e2
          exact absurd e h3
        · exact e2
      · rw [if_neg (fun h => e (q_inj h))]
        exact sameZ_0 k (p + 1) fu (by omega) (by omega)
theorem sameZ_t (hN : 25 ≤ N) (hd : d ≤ 1) (hnS : nS ≤ 24) (ha : a < nS) (hb : b < nS) (hT : RelT d nS tv own) (h : Sm tv a b) : r_Z_sameSets N (nI d) (nI a) (nI b) own = some 1 :=
  (sameZ_loop (N := N) hd hnS ha hb hT 24 0 N (by omega) (by omega)).1 (fun q _ h2 => h q h2)
theorem sameZ_f (hN : 25 ≤ N) (hd : d ≤ 1) (hnS : nS ≤ 24) (ha : a < nS) (hb : b < nS) (hT : RelT d nS tv own) (h : ¬ Sm tv a b) : r_Z_sameSets N (nI d) (nI a) (nI b) own = some 0 := by
  obtain ⟨q, h1, h2⟩ := not_all24 24 h
  exact (sameZ_loop (N := N) hd hnS ha hb hT 24 0 N (by omega) (by omega)).2 ⟨q, by omega, h1, h2⟩
/-- the first with the same -/
def FS (tv : Nat → Int32) (a k : Nat) : Prop := k ≤ a ∧ Sm tv a k ∧ ∀ b, b < k → ¬ Sm tv a b
theorem FS.uniq {a k k' : Nat} (h : FS tv a k) (g : FS tv a k') : k = k' := by
  rcases Nat.lt_trichotomy k k' with e | e | e
  · exact absurd h.2.1 (g.2.2 k e)
  · exact e
  · exact absurd g.2.1 (h.2.2 k' e)
theorem FS.same {a b k k' : Nat} (h : FS tv a k) (g : FS tv b k') : Sm tv a b ↔ k = k' := by
  constructor
  · intro s
    rcases Nat.lt_trichotomy k k' with e | e | e
    · exact absurd (s.symm.trans h.2.1) (g.2.2 k e)
    · exact e
    · exact absurd (s.trans g.2.1) (h.2.2 k' e)
  · rintro rfl
    exact h.2.1.trans g.2.1.symm
theorem firstSet_loop (hN : 25 ≤ N) (hd : d ≤ 1) (hnS : nS ≤ 24) (ha : a < nS) (hT : RelT d nS tv own) : ∀ (k b fu : Nat), b + k = a → k < fu → (∀ c, c < b → ¬ Sm tv a c) → ∃ m, FS tv a m ∧ l_Z_firstSet_2 N (nI d) (nI a) own fu (nI b) = some (nI m) := by
  intro k
  induction k with
  | zero =>
    intro b fu hk hf hb
    obtain ⟨fu, rfl⟩ : ∃ z, fu = z + 1 := ⟨fu - 1, by omega⟩
    obtain rfl : b = a := by omega
    refine ⟨b, ⟨Nat.le_refl _, Sm.rfl, hb⟩, ?_⟩
    rw [l_Z_firstSet_2, if_pos (nI_le (Nat.le_refl _) (by omega)), if_pos (nI_pos' (by omega))]
  | succ k ih =>
    intro b fu hk hf hb
    obtain ⟨fu, rfl⟩ : ∃ z, fu = z + 1 := ⟨fu - 1, by omega⟩
    rw [l_Z_firstSet_2, if_neg (nI_ge (by omega) (by omega))]
    by_cases h : Sm tv a b
    · rw [sameZ_t hN hd hnS ha (by omega) hT h]
      simp only [Option.bind_some, if_neg q_10]
      rw [if_pos (nI_pos' (by omega))]
      exact ⟨b, ⟨by omega, h, hb⟩, rfl⟩
    · rw [sameZ_f hN hd hnS ha (by omega) hT h]
      simp only [Option.bind_some, if_true]
      rw [nI_1]
      exact ih (b + 1) fu (by omega) (by omega) (fun c hc => by
        rcases Nat.lt_succ_iff_lt_or_eq.mp hc with e | e
        · exact hb c e
        · rw [e]; exact h)
theorem firstSet_t (hN : 50 ≤ N) (hd : d ≤ 1) (hnS : nS ≤ 24) (ha : a < nS) (hT : RelT d nS tv own) : ∃ m, FS tv a m ∧ r_Z_firstSet N (nI d) (nI a) own = some (nI m) :=
  firstSet_loop (by omega) hd hnS ha hT a 0 N (by omega) (by omega) (fun c hc => absurd hc (by omega))
theorem firstSet_m (hN : 1 ≤ N) : r_Z_firstSet N (nI d) (-1) own = some (-1) := by
  obtain ⟨M, rfl⟩ : ∃ z, N = z + 1 := ⟨N - 1, by omega⟩
  unfold r_Z_firstSet
  rw [l_Z_firstSet_2, if_pos (by decide), if_neg (by decide)]
end
/-! old sets: none, or a set -/
def So (nS : Nat) (tv : Nat → Int32) (u v : Int32) : Prop := u = v ∨ ∃ i j, i < nS ∧ j < nS ∧ u = nI i ∧ v = nI j ∧ Sm tv i j
theorem So.symm {nS : Nat} {tv : Nat → Int32} {u v : Int32} (h : So nS tv u v) : So nS tv v u := by
  rcases h with h | ⟨i, j, a, b, c, e, f⟩
  · exact Or.inl h.symm
  · exact Or.inr ⟨j, i, b, a, e, c, f.symm⟩
theorem So.trans {nS : Nat} {tv : Nat → Int32} {u v w : Int32} (hnS : nS ≤ 24) (h : So nS tv u v) (g : So nS tv v w) : So nS tv u w := by
  rcases h with h | ⟨i, j, a, b, c, e, f⟩
  · rw [h]; exact g
  · rcases g with g | ⟨i', j', a', b', c', e', f'⟩
    · rw [← g]; exact Or.inr ⟨i, j, a, b, c, e, f⟩
    · have : j = i' := (nI_eq (by omega) (by omega)).mp (e.symm.trans c')
      subst this
      exact Or.inr ⟨i, j', a, b', c, e', f.trans f'⟩
def Sk (nS : Nat) (tv mp : Nat → Int32) (a b : Nat) : Prop := mp (3 * a) = mp (3 * b) ∧ mp (3 * a + 1) = mp (3 * b + 1) ∧ So nS tv (mp (3 * a + 2)) (mp (3 * b + 2))
theorem Sk.rfl {nS : Nat} {tv mp : Nat → Int32} {a : Nat} : Sk nS tv mp a a := ⟨Eq.refl _, Eq.refl _, Or.inl (Eq.refl _)⟩
theorem Sk.symm {nS : Nat} {tv mp : Nat → Int32} {a b : Nat} (h : Sk nS tv mp a b) : Sk nS tv mp b a := ⟨h.1.symm, h.2.1.symm, h.2.2.symm⟩
theorem Sk.trans {nS : Nat} {tv mp : Nat → Int32} {a b c : Nat} (hnS : nS ≤ 24) (h : Sk nS tv mp a b) (g : Sk nS tv mp b c) : Sk nS tv mp a c := ⟨h.1.trans g.1, h.2.1.trans g.2.1, h.2.2.trans hnS g.2.2⟩
theorem mpart_t {j r k : Nat} {f : Nat → Int32} (hr : r ≤ 24) (hj : j < r) (hk : k < 3) : r_M_part (nI j) (nI k) f (nI r) = some (f (3 * j + k)) := by
  unfold r_M_part
  rw [mhas_eq, has_t (by omega) (vp_in_nI hj (by omega))]
  simp only [Option.bind_some, if_neg q_10]
  rw [if_neg (nI_pos (show k < 2 ^ 31 by omega)), if_pos (show nI k < 3 from nI_lt (b := 3) hk (by decide)), q_ix3, gi_n (by omega) (by decide), q_cl (by omega)]
section
variable {N d nS nm a b : Nat} {tv own mp ins era old : Nat → Int32}
theorem smarksD_t (hN : 25 ≤ N) (hnS : nS ≤ 24) (hnm : nm ≤ 24) (ha : a < nm) (hb : b < nm) (hM : RelM d nm nS mp ins era old) (h : Sk nS tv mp a b) : r_D_sameMarks N (nI a) (nI b) 576 tv (nI nS) mp (nI nm) = some 1 := by
  unfold r_D_sameMarks
  rw [show (0 : Int32) = nI 0 from rfl, show (1 : Int32) = nI 1 from rfl, show (2 : Int32) = nI 2 from rfl, mpart_t hnm ha (by decide), mpart_t hnm hb (by decide), mpart_t hnm ha (by decide), mpart_t hnm hb (by decide), mpart_t hnm ha (by decide), mpart_t hnm hb (by decide)]
  simp only [Option.bind_some]
  rw [if_pos (show mp (3 * a + 0) = mp (3 * b + 0) from h.1), if_pos h.2.1]
  by_cases e : mp (3 * a + 2) = mp (3 * b + 2)
  · rw [if_pos e]
  · rw [if_neg e]
    obtain ⟨i, j, c1, c2, c3, c4, c5⟩ := h.2.2.resolve_left e
    rw [c3, c4, sameP_t hN hnS c1 c2 c5]
    rfl
theorem smarksD_f (hN : 25 ≤ N) (hnS : nS ≤ 24) (hnm : nm ≤ 24) (ha : a < nm) (hb : b < nm) (hM : RelM d nm nS mp ins era old) (h : ¬ Sk nS tv mp a b) : r_D_sameMarks N (nI a) (nI b) 576 tv (nI nS) mp (nI nm) = some 0 := by
  unfold r_D_sameMarks
  rw [show (0 : Int32) = nI 0 from rfl, show (1 : Int32) = nI 1 from rfl, show (2 : Int32) = nI 2 from rfl, mpart_t hnm ha (by decide), mpart_t hnm hb (by decide), mpart_t hnm ha (by decide), mpart_t hnm hb (by decide), mpart_t hnm ha (by decide), mpart_t hnm hb (by decide)]
  simp only [Option.bind_some]
  by_cases e0 : mp (3 * a + 0) = mp (3 * b + 0)
  · rw [if_pos e0]
    by_cases e1 : mp (3 * a + 1) = mp (3 * b + 1)
    · rw [if_pos e1]
      have h2 : ¬ So nS tv (mp (3 * a + 2)) (mp (3 * b + 2)) := fun h2 => h ⟨e0, e1, h2⟩
      rw [if_neg (fun e => h2 (Or.inl e))]
      have o1 := (hM a ha).2.2.2.2.2
      have o2 := (hM b hb).2.2.2.2.2
      have key : r_P_same N (mp (3 * a + 2)) (mp (3 * b + 2)) 576 tv (nI nS) = some 0 := by
        rcases o1 with e | ⟨i, hi, e⟩
        · rw [e]
          unfold r_P_same
          rw [has_f (by omega) (by rw [q_in, q_m1]; omega)]
          rfl
        · rcases o2 with e' | ⟨j, hj, e'⟩
          · rw [e, e']
            unfold r_P_same
            rw [has_t (by omega) (vp_in_nI hi (by omega)), has_f (by omega) (by rw [q_in, q_m1]; omega)]
            rfl
          · rw [e, e']
            exact sameP_f hN hnS hi hj (fun s => h2 (Or.inr ⟨i, j, hi, hj, e, e', s⟩))
      rw [key]
      rfl
    · rw [if_neg e1]
  · rw [if_neg e0]
theorem smarksZ_t (hN : 50 ≤ N) (hd : d ≤ 1) (hnS : nS ≤ 24) (hnm : nm ≤ 24) (ha : a < nm) (hb : b < nm) (hT : RelT d nS tv own) (hM : RelM d nm nS mp ins era old) (h : Sk nS tv mp a b) : r_Z_sameMarks N (nI d) (nI a) (nI b) own ins era old = some 1 := by
  unfold r_Z_sameMarks
  obtain ⟨x1, x2, x3, -, -, x6⟩ := hM a ha
  obtain ⟨y1, y2, y3, -, -, y6⟩ := hM b hb
  rw [show (24 : Int32) = nI 24 from rfl, q_iz, q_iz]
  simp only [gi_n (show 24 * d + a < 48 by omega) (show 48 < 2147483648 by decide), gi_n (show 24 * d + b < 48 by omega) (show 48 < 2147483648 by decide), q_cl (show 24 * d + a < 2147483648 by omega), q_cl (show 24 * d + b < 2147483648 by omega), ← x1, ← x2, ← x3, ← y1, ← y2, ← y3]
  rw [if_pos h.1, if_pos h.2.1]
  rcases h.2.2 with e | ⟨i, j, c1, c2, c3, c4, c5⟩
  · rw [e]
    rcases y6 with o | ⟨i, hi, o⟩
    · rw [o, firstSet_m (by omega)]; rfl
    · rw [o]
      obtain ⟨m, -, f2⟩ := firstSet_t (N := N) hN hd hnS hi hT
      rw [f2]
      simp only [Option.bind_some, if_true]
  · obtain ⟨m, f1, f2⟩ := firstSet_t (N := N) hN hd hnS c1 hT
    obtain ⟨m', f1', f2'⟩ := firstSet_t (N := N) hN hd hnS c2 hT
    rw [c3, c4, f2, f2', (f1.same f1').mp c5]
    simp only [Option.bind_some, if_true]
theorem smarksZ_f (hN : 50 ≤ N) (hd : d ≤ 1) (hnS : nS ≤ 24) (hnm : nm ≤ 24) (ha : a < nm) (hb : b < nm) (hT : RelT d nS tv own) (hM : RelM d nm nS mp ins era old) (h : ¬ Sk nS tv mp a b) : r_Z_sameMarks N (nI d) (nI a) (nI b) own ins era old = some 0 := by
  unfold r_Z_sameMarks
  obtain ⟨x1, x2, x3, -, -, x6⟩ := hM a ha
  obtain ⟨y1, y2, y3, -, -, y6⟩ := hM b hb
  rw [show (24 : Int32) = nI 24 from rfl, q_iz, q_iz]
  simp only [gi_n (show 24 * d + a < 48 by omega) (show 48 < 2147483648 by decide), gi_n (show 24 * d + b < 48 by omega) (show 48 < 2147483648 by decide), q_cl (show 24 * d + a < 2147483648 by omega), q_cl (show 24 * d + b < 2147483648 by omega), ← x1, ← x2, ← x3, ← y1, ← y2, ← y3]
  by_cases e0 : mp (3 * a) = mp (3 * b)
  · rw [if_pos e0]
    by_cases e1 : mp (3 * a + 1) = mp (3 * b + 1)
    · rw [if_pos e1]
      have h2 : ¬ So nS tv (mp (3 * a + 2)) (mp (3 * b + 2)) := fun h2 => h ⟨e0, e1, h2⟩
      have hne : ∀ k : Nat, k < 24 → ¬ ((-1) : Int32) = nI k := by decide
      rcases x6 with o | ⟨i, hi, o⟩
      · rcases y6 with o' | ⟨j, hj, o'⟩
        · exact absurd (Or.inl (o.trans o'.symm)) h2
        · obtain ⟨m', f1', f2'⟩ := firstSet_t (N := N) hN hd hnS hj hT
          rw [o, o', firstSet_m (by omega), f2']
          simp only [Option.bind_some]
          rw [if_neg (hne m' (by have := f1'.1; omega))]
      · obtain ⟨m, f1, f2⟩ := firstSet_t (N := N) hN hd hnS hi hT
        rcases y6 with o' | ⟨j, hj, o'⟩
        · rw [o, o', firstSet_m (by omega), f2]
          simp only [Option.bind_some]
          rw [if_neg (fun e => hne m (by have := f1.1; omega) e.symm)]
        · obtain ⟨m', f1', f2'⟩ := firstSet_t (N := N) hN hd hnS hj hT
          rw [o, o', f2, f2']
          simp only [Option.bind_some]
          rw [if_neg]
          intro e
          have e := (nI_eq (by have := f1.1; omega) (by have := f1'.1; omega)).mp e
          exact h2 (Or.inr ⟨i, j, hi, hj, o, o', (f1.same f1').mpr e⟩)
    · rw [if_neg e1]
  · rw [if_neg e0]
def FM (nS : Nat) (tv mp : Nat → Int32) (a k : Nat) : Prop := k ≤ a ∧ Sk nS tv mp a k ∧ ∀ b, b < k → ¬ Sk nS tv mp a b
theorem FM.same {a b k k' : Nat} (hnS : nS ≤ 24) (h : FM nS tv mp a k) (g : FM nS tv mp b k') : Sk nS tv mp a b ↔ k = k' := by
  constructor
  · intro s
    rcases Nat.lt_trichotomy k k' with e | e | e
    · exact absurd (s.symm.trans hnS h.2.1) (g.2.2 k e)
    · exact e
    · exact absurd (s.trans hnS g.2.1) (h.2.2 k' e)
  · rintro rfl
    exact h.2.1.trans hnS g.2.1.symm
theorem firstMark_loop (hN : 50 ≤ N) (hd : d ≤ 1) (hnS : nS ≤ 24) (hnm : nm ≤ 24) (ha : a < nm) (hT : RelT d nS tv own) (hM : RelM d nm nS mp ins era old) : ∀ (k b fu : Nat), b + k = a → k < fu → (∀ c, c < b → ¬ Sk nS tv mp a c) → ∃ m, FM nS tv mp a m ∧ l_Z_firstMark_2 N (nI d) (nI a) own ins era old fu (nI b) = some (nI m) := by
  intro k
  induction k with
  | zero =>
    intro b fu hk hf hb
    obtain ⟨fu, rfl⟩ : ∃ z, fu = z + 1 := ⟨fu - 1, by omega⟩
    obtain rfl : b = a := by omega
    refine ⟨b, ⟨Nat.le_refl _, Sk.rfl, hb⟩, ?_⟩
    rw [l_Z_firstMark_2, if_pos (nI_le (Nat.le_refl _) (by omega))]
  | succ k ih =>
    intro b fu hk hf hb
    obtain ⟨fu, rfl⟩ : ∃ z, fu = z + 1 := ⟨fu - 1, by omega⟩
    rw [l_Z_firstMark_2, if_neg (nI_ge (by omega) (by omega))]
    by_cases h : Sk nS tv mp a b
    · rw [smarksZ_t hN hd hnS hnm ha (by omega) hT hM h]
      exact ⟨b, ⟨by omega, h, hb⟩, rfl⟩
    · rw [smarksZ_f hN hd hnS hnm ha (by omega) hT hM h]
      simp only [Option.bind_some, if_true]
      rw [nI_1]
      exact ih (b + 1) fu (by omega) (by omega) (fun c hc => by
        rcases Nat.lt_succ_iff_lt_or_eq.mp hc with e | e
        · exact hb c e
        · rw [e]; exact h)
theorem firstMark_t (hN : 50 ≤ N) (hd : d ≤ 1) (hnS : nS ≤ 24) (hnm : nm ≤ 24) (ha : a < nm) (hT : RelT d nS tv own) (hM : RelM d nm nS mp ins era old) : ∃ m, FM nS tv mp a m ∧ r_Z_firstMark N (nI d) (nI a) own ins era old = some (nI m) :=
  firstMark_loop hN hd hnS hnm ha hT hM a 0 N (by omega) (by omega) (fun c hc => absurd hc (by omega))
end
