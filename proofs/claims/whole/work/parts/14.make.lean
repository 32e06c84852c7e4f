/-! pure: calls that make a style, a set, a mark -/
/-- the class fills a new row with -1 -/
theorem fillP {N m n r : Nat} (hr : r < 24) (hn : 24 * r + 24 ≤ n) (hn2 : n ≤ 576) : ∀ (k p : Nat) (fu : Nat) (f : Nat → Int32), p + k = 24 → k < fu →
    ∃ g : Nat → Int32, l_P_add_15 N (nI m) n (nI r) fu (nI p) f = some (nI r, g, nI (r + 1)) ∧ (∀ q, p ≤ q → q < 24 → g (24 * r + q) = -1) ∧ ∀ j, (j < 24 * r + p ∨ 24 * r + 24 ≤ j) → g j = f j := by
  intro k
  induction k with
  | zero =>
    intro p fu f hp hf
    obtain ⟨fu, rfl⟩ : ∃ z, fu = z + 1 := ⟨fu - 1, by omega⟩
    obtain rfl : p = 24 := by omega
    refine ⟨f, ?_, fun q h1 h2 => absurd h1 (by omega), fun _ _ => rfl⟩
    rw [l_P_add_15, if_pos (show (24 : Int32) ≤ nI 24 from nI_le (Nat.le_refl 24) (by decide)), nI_1, q_one]
  | succ k ih =>
    intro p fu f hp hf
    obtain ⟨fu, rfl⟩ : ∃ z, fu = z + 1 := ⟨fu - 1, by omega⟩
    obtain ⟨g, h1, h2, h3⟩ := ih (p + 1) fu (upd f (24 * r + p) (-1)) (by omega) (by omega)
    refine ⟨g, ?_, fun q a b => ?_, fun j hj => ?_⟩
    · rw [l_P_add_15, if_neg (show ¬ (24 : Int32) ≤ nI p from nI_ge (b := 24) (by omega) (by decide)), q_ix24, gi_n (by omega) (by omega), nI_1, q_cl (by omega)]
      exact h1
    · by_cases e : q = p
      · subst e
        rw [h3 _ (Or.inl (by omega)), upd_s]
      · exact h2 q (by omega) b
    · rw [h3 j (by omega), upd_n _ _ (by omega)]
/-- the reference fills its own with 0 -/
theorem fillZ {N a : Nat} {of : Int32} {d k0 : Nat} (hrow : r_Z_row (nI d) of (nI k0) = some (nI a)) (ha : a + 24 ≤ 1920) : ∀ (k p : Nat) (fu : Nat) (f : Nat → Int32), p + k = 24 → k < fu →
    ∃ g : Nat → Int32, l_Z_bare_3 N (nI d) of (nI k0) fu (nI p) f = some g ∧ (∀ q, p ≤ q → q < 24 → g (a + q) = 0) ∧ ∀ j, (j < a + p ∨ a + 24 ≤ j) → g j = f j := by
  intro k
  induction k with
  | zero =>
    intro p fu f hp hf
    obtain ⟨fu, rfl⟩ : ∃ z, fu = z + 1 := ⟨fu - 1, by omega⟩
    obtain rfl : p = 24 := by omega
    refine ⟨f, ?_, fun q h1 h2 => absurd h1 (by omega), fun _ _ => rfl⟩
    rw [l_Z_bare_3, if_pos (show (24 : Int32) ≤ nI 24 from nI_le (Nat.le_refl 24) (by decide))]
  | succ k ih =>
    intro p fu f hp hf
    obtain ⟨fu, rfl⟩ : ∃ z, fu = z + 1 := ⟨fu - 1, by omega⟩
    obtain ⟨g, h1, h2, h3⟩ := ih (p + 1) fu (upd f (a + p) 0) (by omega) (by omega)
    refine ⟨g, ?_, fun q a b => ?_, fun j hj => ?_⟩
    · rw [l_Z_bare_3, if_neg (show ¬ (24 : Int32) ≤ nI p from nI_ge (b := 24) (by omega) (by decide)), hrow]
      simp only [Option.bind_some]
      rw [nI_add, gi_n (by omega) (by decide), nI_1, q_cl (by omega)]
      exact h1
    · by_cases e : q = p
      · subst e
        rw [h3 _ (Or.inl (by omega)), upd_s]
      · exact h2 q (by omega) b
    · rw [h3 j (by omega), upd_n _ _ (by omega)]
theorem addP {N m n r : Nat} {f : Nat → Int32} (hN : 25 ≤ N) (hr : r < m) (hm : m ≤ 24) (hn : 24 * m ≤ n) (hn2 : n ≤ 576) : ∃ g : Nat → Int32, r_P_add N (nI m) n f (nI r) = some (nI r, g, nI (r + 1)) ∧ (∀ q, q < 24 → g (24 * r + q) = -1) ∧ ∀ j, (j < 24 * r ∨ 24 * r + 24 ≤ j) → g j = f j := by
  obtain ⟨g, h1, h2, h3⟩ := fillP (N := N) (m := m) (n := n) (r := r) (by omega) (by omega) hn2 24 0 N f (by omega) (by omega)
  refine ⟨g, ?_, fun q h => h2 q (by omega) h, fun j h => h3 j (by omega)⟩
  unfold r_P_add
  rw [if_pos (nI_lt hr (by omega))]
  exact h1
theorem addP_f {N m n r : Nat} {f : Nat → Int32} (hr : m ≤ r) (hm : r < 2147483648) : r_P_add N (nI m) n f (nI r) = some (-1, f, nI r) := by
  unfold r_P_add
  rw [if_neg (nI_nlt hr hm)]
theorem bareZ {N a : Nat} {of : Int32} {d k0 : Nat} {f : Nat → Int32} (hN : 25 ≤ N) (hrow : r_Z_row (nI d) of (nI k0) = some (nI a)) (ha : a + 24 ≤ 1920) : ∃ g : Nat → Int32, r_Z_bare N (nI d) of (nI k0) f = some g ∧ (∀ q, q < 24 → g (a + q) = 0) ∧ ∀ j, (j < a ∨ a + 24 ≤ j) → g j = f j := by
  obtain ⟨g, h1, h2, h3⟩ := fillZ (N := N) hrow ha 24 0 N f (by omega) (by omega)
  exact ⟨g, h1, fun q h => h2 q (by omega) h, fun j h => h3 j (by omega)⟩
theorem m_set {N d nS ns : Nat} {sv bs base tv sets own : Nat → Int32} (hN : 25 ≤ N) (hd : d ≤ 1) (hnS : nS ≤ 24) (hns : ns ≤ 16) (h2 : sets d = nI nS) (hS : RelS d ns sv bs base own) (hT : RelT d nS tv own) :
    ∃ (r : Int32) (tv' sets' own' : Nat → Int32) (nS' : Nat), r_F_set N 24 576 tv (nI nS) = some (r, tv', nI nS') ∧ r_Z_set N (nI d) sets own = some (r, sets', own') ∧ nS' ≤ 24 ∧ nS ≤ nS' ∧ sets' d = nI nS' ∧ RelS d ns sv bs base own' ∧ RelT d nS' tv' own' := by
  have c : (nI d).toNatClampNeg = d := q_cl (by omega)
  unfold r_F_set r_Z_set
  rw [gi_n (by omega) (by decide), c, h2]
  by_cases hf : nS = 24
  · subst hf
    refine ⟨-1, tv, sets, own, 24, ?_, ?_, Nat.le_refl _, Nat.le_refl _, h2, hS, hT⟩
    · rw [show (24 : Int32) = nI 24 from rfl, addP_f (Nat.le_refl _) (by decide)]; rfl
    · rw [if_pos (show nI 24 = 24 from rfl)]
  · obtain ⟨g, e1, e2, e3⟩ := addP (N := N) (m := 24) (n := 576) (r := nS) (f := tv) hN (by omega) (by decide) (by decide) (by decide)
    obtain ⟨w, f1, f2, f3⟩ := bareZ (N := N) (f := own) hN (q_zrow1 d nS) (by omega)
    refine ⟨nI nS, g, upd sets d (nI (nS + 1)), w, nS + 1, ?_, ?_, by omega, by omega, upd_s _ _ _, ?_, ?_⟩
    · rw [show (24 : Int32) = nI 24 from rfl, e1]; rfl
    · rw [if_neg (show ¬ nI nS = 24 from fun h => hf ((nI_eq (b := 24) (by omega) (by decide)).mp h)), gi_n (by omega) (by decide), f1]
      simp only [Option.bind_some, gi_n (show d < 2 by omega) (show 2 < 2147483648 by decide), nI_1, upd_s, q_one]
    · intro i hi
      obtain ⟨a1, a2, a3⟩ := hS i hi
      refine ⟨a1, a2, fun p hp => ?_⟩
      rw [f3 _ (by omega)]
      exact a3 p hp
    · intro i hi p hp
      by_cases hl : i = nS
      · subst hl
        rw [e2 p hp, show 960 * d + (384 + (24 * i + p)) = 960 * d + (384 + 24 * i) + p by omega, f2 p hp]
        exact ⟨rfl, Or.inl rfl⟩
      · rw [e3 _ (by omega), f3 _ (by omega)]
        exact hT i (by omega) p hp
theorem m_style (x : Int32) {N d nS ns : Nat} {sv bs base tv styles own : Nat → Int32} (hN : 25 ≤ N) (hd : d ≤ 1) (hnS : nS ≤ 24) (hns : ns ≤ 16) (h1 : styles d = nI ns) (hS : RelS d ns sv bs base own) (hT : RelT d nS tv own) :
    ∃ (r : Int32) (sv' bs' styles' base' own' : Nat → Int32) (ns' : Nat), r_F_style N x 16 384 sv (nI ns) bs = some (r, sv', nI ns', bs') ∧ r_Z_style N x (nI d) styles base own = some (r, styles', base', own') ∧ ns' ≤ 16 ∧ ns ≤ ns' ∧ styles' d = nI ns' ∧ RelS d ns' sv' bs' base' own' ∧ RelT d nS tv own' := by
  have c : (nI d).toNatClampNeg = d := q_cl (by omega)
  -- the class adds, or not, alike on both its roads
  have hcls1 : bOK ns x → r_F_style N x 16 384 sv (nI ns) bs = (r_D_addStyle N x 16 384 sv (nI ns) bs).bind (fun z => some (z.1, z.2.1, z.2.2.1, z.2.2.2)) := by
    intro hb
    unfold r_F_style
    by_cases a : x = (-1)
    · rw [if_pos a]
    · rw [if_neg a]
      have b : vp_in x ns := by
        rcases (q_bOK (by omega)).mpr hb with h | h
        · exact absurd (by rw [q_eq, h]; rfl) a
        · exact h
      rw [has_t (by omega) b]
      rfl
  have hcls0 : ¬ bOK ns x → r_F_style N x 16 384 sv (nI ns) bs = some (-1, sv, nI ns, bs) := by
    intro hb
    unfold r_F_style
    rw [if_neg (fun a => hb (Or.inl a)), has_f (by omega) (fun b => hb ((q_bOK (by omega)).mp (Or.inr b)))]
    rfl
  unfold r_Z_style
  rw [gi_n (by omega) (by decide), c, h1]
  by_cases hf : ns = 16
  · subst hf
    refine ⟨-1, sv, bs, styles, base, own, 16, ?_, by rw [if_pos (show nI 16 = 16 from rfl)], Nat.le_refl _, Nat.le_refl _, h1, hS, hT⟩
    by_cases hb : bOK 16 x
    · rw [hcls1 hb]
      unfold r_D_addStyle
      rw [show (16 : Int32) = nI 16 from rfl, addP_f (Nat.le_refl _) (by decide)]
      rfl
    · exact hcls0 hb
  · rw [if_neg (show ¬ nI ns = 16 from fun h => hf ((nI_eq (b := 16) (by omega) (by decide)).mp h)), gi_n (by omega) (by decide)]
    by_cases hb : bOK ns x
    · rw [hcls1 hb, zinm_t (by omega) hb]
      obtain ⟨g, e1, e2, e3⟩ := addP (N := N) (m := 16) (n := 384) (r := ns) (f := sv) hN (by omega) (by decide) (by decide) (by decide)
      obtain ⟨w, f1, f2, f3⟩ := bareZ (N := N) (f := own) hN (q_zrow0 d ns) (by omega)
      refine ⟨nI ns, g, upd bs ns x, upd styles d (nI (ns + 1)), upd base (16 * d + ns) x, w, ns + 1, ?_, ?_, by omega, by omega, upd_s _ _ _, ?_, ?_⟩
      · unfold r_D_addStyle
        rw [show (16 : Int32) = nI 16 from rfl, e1]
        simp only [Option.bind_some]
        rw [if_neg (nI_pos (by omega)), if_neg (nI_ge (by omega) (by decide)), gi_n (by omega) (by decide), q_cl (by omega)]
        rfl
      · simp only [Option.bind_some]
        rw [if_neg q_10, gi_n (by omega) (by decide), show (16 : Int32) = nI 16 from rfl, q_iz, gi_n (by omega) (by decide), gi_n (by omega) (by decide), f1, q_cl (by omega)]
        simp only [Option.bind_some, gi_n (show d < 2 by omega) (show 2 < 2147483648 by decide), nI_1, upd_s, q_one]
      · intro i hi
        by_cases hl : i = ns
        · subst hl
          refine ⟨by rw [upd_s, upd_s], by rw [upd_s]; exact hb.mono (by omega), fun p hp => ?_⟩
          rw [e2 p hp, ← Nat.add_assoc, f2 p hp]
          exact ⟨rfl, Or.inl rfl⟩
        · obtain ⟨a1, a2, a3⟩ := hS i (by omega)
          refine ⟨by rw [upd_n _ _ hl, upd_n _ _ (by omega)]; exact a1, by rw [upd_n _ _ hl]; exact a2.mono (by omega), fun p hp => ?_⟩
          rw [e3 _ (by omega), f3 _ (by omega)]
          exact a3 p hp
      · intro i hi p hp
        rw [f3 _ (by omega)]
        exact hT i hi p hp
    · rw [hcls0 hb, zinm_f (by omega) hb]
      exact ⟨-1, sv, bs, styles, base, own, ns, rfl, rfl, hns, Nat.le_refl _, h1, hS, hT⟩
