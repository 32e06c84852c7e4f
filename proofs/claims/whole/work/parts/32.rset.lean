/-! pure: a set is read on both sides -/
section
variable {N n : Nat} {oc fl : Nat → Int32} {bt : Nat → Nat}
theorem repP_loop {a R : Nat} {tv : Nat → Int32} (hN : 50 ≤ N) (hR : R ≤ 24) (ha : a < R) : ∀ (k b fu : Nat), b + k = a → k < fu →
    ((∀ c, b ≤ c → c < a → ¬ Sm tv c a) → l_P_repeats_2 N (nI a) 576 tv (nI R) fu (nI b) = some 0) ∧ ((∃ c, b ≤ c ∧ c < a ∧ Sm tv c a) → l_P_repeats_2 N (nI a) 576 tv (nI R) fu (nI b) = some 1) := by
  intro k
  induction k with
  | zero =>
    intro b fu hb hf
    obtain ⟨fu, rfl⟩ : ∃ z, fu = z + 1 := ⟨fu - 1, by omega⟩
    refine ⟨fun _ => ?_, fun ⟨c, h1, h2, h3⟩ => by omega⟩
    rw [l_P_repeats_2, if_pos (nI_le (by omega) (by omega))]
  | succ k ih =>
    intro b fu hb hf
    obtain ⟨fu, rfl⟩ : ∃ z, fu = z + 1 := ⟨fu - 1, by omega⟩
    obtain ⟨i1, i2⟩ := ih (b + 1) fu (by omega) (by omega)
    rw [l_P_repeats_2, if_neg (nI_ge (by omega) (by omega)), nI_1]
    by_cases h : Sm tv b a
    · rw [sameP_t (by omega) hR (by omega) ha h]
      refine ⟨fun g => absurd h (g b (Nat.le_refl _) (by omega)), fun _ => rfl⟩
    · rw [sameP_f (by omega) hR (by omega) ha h]
      refine ⟨fun g => i1 (fun c h1 h2 => g c (by omega) h2), fun ⟨c, h1, h2, h3⟩ => i2 ⟨c, ?_, h2, h3⟩⟩
      by_cases e : c = b
      · subst e
        exact absurd h3 h
      · omega
theorem repP_f {a R : Nat} {tv : Nat → Int32} (hN : 50 ≤ N) (hR : R ≤ 24) (ha : a < R) (h : ∀ c, c < a → ¬ Sm tv c a) : r_P_repeats N (nI a) 576 tv (nI R) = some 0 :=
  (repP_loop hN hR ha a 0 N (by omega) (by omega)).1 (fun c _ hc => h c hc)
theorem repP_t {a R c : Nat} {tv : Nat → Int32} (hN : 50 ≤ N) (hR : R ≤ 24) (ha : a < R) (hc : c < a) (h : Sm tv c a) : r_P_repeats N (nI a) 576 tv (nI R) = some 1 :=
  (repP_loop hN hR ha a 0 N (by omega) (by omega)).2 ⟨c, Nat.zero_le _, hc, h⟩
def SetRes (n p e nS h : Nat) (sets own : Nat → Int32) (A : Option (Int32 × Int32 × Int32 × Int32 × (Nat → Int32) × Int32)) (B : Option (Int32 × (Nat → Int32) × (Nat → Int32) × Int32 × Int32 × Int32)) : Prop :=
  (∃ (r i1 i2 : Int32) (nS' p' : Nat) (tv' sets' own' : Nat → Int32), A = some (r, nI p', i1, -1, tv', nI nS') ∧ B = some (r, sets', own', nI p', i2, -1) ∧ nS ≤ nS' ∧ nS' ≤ 24 ∧ sets' e = nI nS' ∧ RelT e nS' tv' own' ∧ (h = 0 → ∃ k, k < nS' ∧ r = nI k) ∧ bOK nS' r ∧ Only e (e + 1) sets sets' ∧ Only (960 * e + 384) (960 * e + 960) own own' ∧ p ≤ p' ∧ p' ≤ n) ∨
  (∃ (f : Nat) (x0 x1 x2 x3 y0 y1 y2 : Int32) (tv' sets' own' : Nat → Int32), f ≤ n ∧ A = some (x0, x1, x2, nI f, tv', x3) ∧ B = some (y0, sets', own', y1, y2, nI f) ∧ Only e (e + 1) sets sets' ∧ Only (960 * e + 384) (960 * e + 960) own own')
theorem RelT.of {e nS : Nat} {tv own : Nat → Int32} (h : ∀ i, i < nS → Row (960 * e + (384 + 24 * i)) i tv own) : RelT e nS tv own := fun i hi p hp => by
  have := h i hi p hp
  rw [show 960 * e + (384 + 24 * i) + p = 960 * e + (384 + (24 * i + p)) by omega] at this
  exact this
theorem RelT.row {e nS i : Nat} {tv own : Nat → Int32} (h : RelT e nS tv own) (hi : i < nS) : Row (960 * e + (384 + 24 * i)) i tv own := fun p hp => by
  rw [show 960 * e + (384 + 24 * i) + p = 960 * e + (384 + (24 * i + p)) by omega]
  exact h i hi p hp
theorem Row.move {a r : Nat} {vs own vs' own' : Nat → Int32} {b b' c c' : Nat} (h : Row a r vs own) (h1 : Only b b' vs vs') (h2 : Only c c' own own') (h3 : 24 * r + 24 ≤ b ∨ b' ≤ 24 * r) (h4 : a + 24 ≤ c ∨ c' ≤ a) : Row a r vs' own' := fun q hq => by
  rw [h1 _ (by omega), h2 _ (by omega)]
  exact h q hq
theorem set_rd {p e nS h : Nat} {i1 i2 : Int32} {tv sets own : Nat → Int32} (hN : 60 ≤ N) (hn : n ≤ 6000) (hF : RelF n oc fl) (hB : Byt n oc bt) (he : e ≤ 1) (hh : h ≤ 1) (hnS : nS ≤ 24) (hp : p ≤ n) (h2 : sets e = nI nS) (hT : RelT e nS tv own) :
    SetRes n p e nS h sets own (r_R_readSet N (nI h) oc (nI n) (nI p) i1 (-1) 24 576 tv (nI nS)) (r_Z_readSet N (nI e) (nI h) (nI n) fl sets own (nI p) i2 (-1)) := by
  have c : (nI e).toNatClampNeg = e := q_cl (by omega)
  have hx1 : (nI h = 1) ↔ h = 1 := by
    rw [show (1 : Int32) = nI 1 from rfl]
    exact nI_eq (by omega) (by decide)
  unfold r_R_readSet r_Z_readSet r_P_rows
  simp only [Option.bind_some]
  rw [nI_add]
  rcases rn_all (N := N) (lo := 0) (hi := nS + h) (it := i1) (by omega) hn hp hB (by omega) (by omega) with ⟨v, p', h3, -, h4, h5, h6, h7⟩ | ⟨h3, x, h4⟩
  · -- the class takes the number
    have h5' : r_R_readNumber N 0 (nI (nS + h)) oc (nI n) (nI p) i1 (-1) = some (nI v, nI p', nI p, -1) := h5
    rw [h5']
    rcases zn_all (N := N) (hi := 65535) (it := i2) (by omega) hn hp hF hB (by decide) with ⟨w, q, g1, g2, g3⟩ | ⟨g1, -⟩
    rotate_left
    · exact absurd (show v ≤ 65535 by omega) (g1 v p' h3)
    rw [h3] at g1
    cases g1
    have g3' : r_Z_readNumber N 65535 (nI n) fl (nI p) i2 (-1) = some (nI v, nI p', nI p, -1) := g3
    rw [g3']
    simp only [Option.bind_some]
    by_cases hv0 : v < h
    · -- none
      have e1 : h = 1 := by omega
      have e0 : v = 0 := by omega
      subst e1
      subst e0
      rw [if_neg (nI_ge (by omega) (by decide)), if_pos (hx1.mpr rfl), if_pos (show nI 0 = 0 from rfl)]
      exact Or.inl ⟨-1, _, _, nS, p', tv, sets, own, rfl, rfl, Nat.le_refl _, hnS, h2, hT, fun hh => by omega, Or.inl rfl, Only.rfl, Only.rfl, by omega, h7⟩
    rw [if_pos (nI_le (show h ≤ v by omega) (by omega))]
    -- the reference's own road to the same place
    have hz : ∀ K : Option (Int32 × (Nat → Int32) × (Nat → Int32) × Int32 × Int32 × Int32), (v = 0 → h = 0) → (if nI h = 1 then if nI v = 0 then some (-1, sets, own, nI p', nI p, -1) else K else K) = K := by
      intro K hK
      by_cases a : nI h = 1
      · rw [if_pos a, if_neg]
        intro b
        have := hK ((nI_eq (b := 0) (by omega) (by decide)).mp b)
        rw [hx1] at a
        omega
      · rw [if_neg a]
    have hsub : nI v - nI h = nI (v - h) := by
      rw [q_eq, q_sub (by rw [q_ti (by omega), q_ti (by omega)]; omega) (by rw [q_ti (by omega), q_ti (by omega)]; omega), q_ti (by omega), q_ti (by omega), q_ti (by omega)]
      omega
    rw [hz _ (fun _ => by omega), gi_n (by omega) (by decide), c, h2, hsub, if_pos (nI_le (show v - h ≤ nS by omega) (by omega))]
    unfold j_Z_readSet_42
    rw [hsub, c, h2]
    by_cases hv1 : h < v
    · -- a set that is there
      rw [if_neg (nI_ge hv1 (by omega)), if_pos (nI_lt hv1 (by omega))]
      have e1 : nI (v - h) - 1 = nI (v - h - 1) := by
        obtain ⟨j, hj⟩ : ∃ j, v - h = j + 1 := ⟨v - h - 1, by omega⟩
        rw [hj, q_one, Nat.add_sub_cancel]
      rw [e1]
      exact Or.inl ⟨nI (v - h - 1), _, _, nS, p', tv, sets, own, rfl, rfl, Nat.le_refl _, hnS, h2, hT, fun _ => ⟨v - h - 1, by omega, rfl⟩, Or.inr ⟨v - h - 1, by omega, rfl⟩, Only.rfl, Only.rfl, by omega, h7⟩
    -- one that is written out here
    have ev : v = h := by omega
    subst ev
    rw [if_pos (nI_le (Nat.le_refl _) (by omega)), if_neg (nI_nlt (Nat.le_refl _) (by omega)), if_pos (by decide)]
    by_cases hS : nS = 24
    · rw [show (24 : Int32) = nI 24 from rfl, addP_f (by omega) (by omega), gi_n (by omega) (by decide), if_pos (show nI nS = nI 24 by rw [hS])]
      exact Or.inr ⟨p, _, _, _, _, _, _, _, _, _, _, hp, rfl, rfl, Only.rfl, Only.rfl⟩
    · rw [show (24 : Int32) = nI 24 from rfl, gi_n (by omega) (by decide), if_neg (show ¬ nI nS = nI 24 from fun h => hS ((nI_eq (by omega) (by decide)).mp h))]
      obtain ⟨g, a1, a2, a3⟩ := addP (N := N) (m := 24) (n := 576) (r := nS) (f := tv) (by omega) (by omega) (by decide) (by decide) (by decide)
      obtain ⟨o, b1, b2, b3⟩ := bareZ (N := N) (of := 1) (d := e) (k0 := nS) (f := own) (by omega) (q_zrow1 e nS) (by omega)
      rw [a1, b1, q_zrow1]
      simp only [Option.bind_some]
      rw [if_neg (nI_nm1 (by omega))]
      have hrow : Row (960 * e + (384 + 24 * nS)) nS g o := fun q hq => ⟨by rw [b2 q hq, a2 q hq]; rfl, Or.inl (a2 q hq)⟩
      have og : Only (24 * nS) (24 * nS + 24) tv g := a3
      have oo : Only (960 * e + (384 + 24 * nS)) (960 * e + (384 + 24 * nS) + 24) own o := b3
      rcases props_rd (N := N) (a := 960 * e + (384 + 24 * nS)) (r := nS) (R := nS + 1) (vn := 576) (i1 := nI p) (i2 := nI p) (by omega) hn hF hB (by omega) (by omega) (by omega) (by decide) (by omega) h7 hrow with ⟨vs', own', p3, j1, j2, f1, f2, f3, f4, f5, f6, f7⟩ | ⟨f, x1, x2, y1, y2, vs', own', f1, f2, f3, f4, f5⟩
      · rw [f1, f2]
        simp only [Option.bind_some]
        rw [rok, if_neg (by decide)]
        simp only [Option.bind_some, if_true]
        have hT' : RelT e (nS + 1) vs' own' := RelT.of (fun i hi => by
          by_cases ei : i = nS
          · rw [ei]; exact f3
          · exact (hT.row (by omega)).move (og.trans f4) (oo.trans f5) (by omega) (by omega))
        obtain ⟨m, k1, k2⟩ := firstSet_t (N := N) (a := nS) (by omega) he (by omega) (by omega) hT'
        rw [k2]
        simp only [Option.bind_some]
        have ou : Only (960 * e + 384) (960 * e + 960) own own' := (oo.trans f5).mono (by omega) (by omega)
        simp only [gi_n (show e < 2 by omega) (show 2 < 2147483648 by decide), nI_1]
        by_cases hm : m = nS
        · rw [if_pos (nI_le (by omega) (by omega)), repP_f (by omega) (by omega) (by omega) (fun b hb hs => k1.2.2 b (by omega) hs.symm)]
          simp only [Option.bind_some, if_true]
          exact Or.inl ⟨nI nS, _, _, nS + 1, p3, vs', upd sets e (nI (nS + 1)), own', rfl, rfl, by omega, by omega, upd_s _ _ _, hT', fun _ => ⟨nS, by omega, rfl⟩, Or.inr ⟨nS, by omega, rfl⟩, Only.one (by omega) (by omega), ou, by omega, f7⟩
        · have hm2 := k1.1
          rw [if_neg (nI_ge (by omega) (by omega)), repP_t (c := m) (by omega) (by omega) (by omega) (by omega) k1.2.1.symm, zw_m]
          simp only [Option.bind_some]
          rw [if_neg q_10]
          refine Or.inr ⟨p, -1, nI p3, j1, nI (nS + 1), nI nS, nI p3, j2, vs', upd sets e (nI (nS + 1)), own', hp, ?_, rfl, Only.one (by omega) (by omega), ou⟩
          show (r_R_failed (nI p)).bind _ = _
          rw [rfail (by omega)]
          rfl
      · rw [f2, f3]
        simp only [Option.bind_some]
        rw [rfail (by omega), if_pos (nI_pos' (show f < 2 ^ 31 by omega))]
        simp only [Option.bind_some]
        rw [if_neg q_10, if_neg q_10]
        simp only [gi_n (show e < 2 by omega) (show 2 < 2147483648 by decide)]
        exact Or.inr ⟨f, _, _, _, _, _, _, _, _, _, _, f1, rfl, rfl, Only.one (by omega) (by omega), (oo.trans f5).mono (by omega) (by omega)⟩
  · -- the class refuses the number
    have h4' : r_R_readNumber N 0 (nI (nS + h)) oc (nI n) (nI p) i1 (-1) = some (-1, x, nI p, nI p) := h4
    rw [h4']
    simp only [Option.bind_some]
    rw [if_neg (show ¬ nI h ≤ -1 by rw [q_le, q_ti (by omega), q_m1]; omega)]
    refine Or.inr ⟨p, -1, x, nI p, nI nS, ?_⟩
    rcases zn_all (N := N) (hi := 65535) (it := i2) (by omega) hn hp hF hB (by decide) with ⟨w, q, g1, g2, g3⟩ | ⟨g1, y, g3⟩
    · have g3' : r_Z_readNumber N 65535 (nI n) fl (nI p) i2 (-1) = some (nI w, nI q, nI p, -1) := g3
      have hw : nS + h < w := by
        have := h3 w q g1
        omega
      have hsub : nI w - nI h = nI (w - h) := by
        rw [q_eq, q_sub (by rw [q_ti (by omega), q_ti (by omega)]; omega) (by rw [q_ti (by omega), q_ti (by omega)]; omega), q_ti (by omega), q_ti (by omega), q_ti (by omega)]
        omega
      rw [g3']
      simp only [Option.bind_some]
      rw [if_neg (show ¬ nI w = 0 from fun a => by have := (nI_eq (b := 0) (by omega) (by decide)).mp a; omega), gi_n (by omega) (by decide), c, h2, hsub, if_neg (nI_ge (show nS < w - h by omega) (by omega)), zw_m]
      simp only [Option.bind_some]
      refine ⟨nI (w - h) - 1, nI q, nI p, tv, sets, own, hp, rfl, ?_, Only.rfl, Only.rfl⟩
      unfold j_Z_readSet_42
      rw [if_pos (nI_lt (show h < w by omega) (by omega)), hsub]
      split
      · rfl
      · rfl
    · have g3' : r_Z_readNumber N 65535 (nI n) fl (nI p) i2 (-1) = some (0, y, nI p, nI p) := g3
      rw [g3']
      simp only [Option.bind_some, if_true]
      by_cases e1 : nI h = 1
      · rw [if_pos e1]
        exact ⟨_, _, _, _, _, _, hp, rfl, rfl, Only.rfl, Only.rfl⟩
      · have e0 : h = 0 := by
          rw [hx1] at e1
          omega
        subst e0
        rw [if_neg e1, gi_n (by omega) (by decide), c, h2, show (0 : Int32) - nI 0 = nI 0 from by decide, if_pos (nI_le (Nat.zero_le _) (by omega))]
        unfold j_Z_readSet_42
        rw [if_neg (by decide), if_neg (nI_pos (show p < 2 ^ 31 by omega))]
        exact ⟨_, _, _, _, _, _, hp, rfl, rfl, Only.rfl, Only.rfl⟩
end
