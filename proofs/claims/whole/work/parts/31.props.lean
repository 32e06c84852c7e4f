/-! pure: properties are read on both sides -/
def Only (a b : Nat) (f g : Nat → Int32) : Prop := ∀ i, (i < a ∨ b ≤ i) → g i = f i
theorem Only.rfl {a b : Nat} {f : Nat → Int32} : Only a b f f := fun _ _ => Eq.refl _
theorem Only.trans {a b : Nat} {f g h : Nat → Int32} (h1 : Only a b f g) (h2 : Only a b g h) : Only a b f h := fun i hi => (h2 i hi).trans (h1 i hi)
theorem Only.mono {a b c e : Nat} {f g : Nat → Int32} (h : Only a b f g) (h1 : c ≤ a) (h2 : b ≤ e) : Only c e f g := fun i hi => h i (by omega)
theorem Only.up {a b k : Nat} {f g : Nat → Int32} {x : Int32} (h : Only a b f g) (h1 : a ≤ k) (h2 : k < b) : Only a b f (upd g k x) := fun i hi => (upd_n _ _ (by omega)).trans (h i hi)
theorem Only.one {a b k : Nat} {f : Nat → Int32} {x : Int32} (h1 : a ≤ k) (h2 : k < b) : Only a b f (upd f k x) := Only.up Only.rfl h1 h2
def Row (a r : Nat) (vs own : Nat → Int32) : Prop := ∀ q, q < 24 → own (a + q) = vs (24 * r + q) + 1 ∧ pOK q (vs (24 * r + q))
section
variable {N n : Nat} {oc fl : Nat → Int32} {bt : Nat → Nat}
theorem rpl_fail {f vn fu : Nat} {y2 y3 y4 y5 nx it rows : Int32} {vs : Nat → Int32} (hf : f < 2147483648) (hfu : 1 ≤ fu) : l_R_readProperties_14 N y2 y3 oc (nI n) vn rows fu y4 y5 nx it (nI f) vs = some (nx, it, nI f, vs) := by
  obtain ⟨fu, rfl⟩ : ∃ z, fu = z + 1 := ⟨fu - 1, by omega⟩
  rw [l_R_readProperties_14, rfail hf]
  split
  · rfl
  · rfl
theorem zpl_fail {f fu : Nat} {y1 y2 y3 y4 nx it : Int32} {own : Nat → Int32} (hf : f < 2147483648) (hfu : 1 ≤ fu) : l_Z_readProperties_12 N y1 y2 (nI n) fl fu y3 y4 own nx it (nI f) = some (own, nx, it, nI f) := by
  obtain ⟨fu, rfl⟩ : ∃ z, fu = z + 1 := ⟨fu - 1, by omega⟩
  rw [l_Z_readProperties_12, if_pos (nI_pos' hf)]
  split
  · rfl
  · rfl
theorem rp_fail {f vn : Nat} {x nx it rows : Int32} {vs : Nat → Int32} (hf : f < 2147483648) (hN : 1 ≤ N) : r_R_readProperties N x oc (nI n) nx it (nI f) vn vs rows = some (nx, it, nI f, vs) := by
  unfold r_R_readProperties
  rw [rn_fail hf]
  exact rpl_fail hf hN
theorem zp_fail {f : Nat} {x nx it : Int32} {own : Nat → Int32} (hf : f < 2147483648) (hN : 1 ≤ N) : r_Z_readProperties N x (nI n) fl own nx it (nI f) = some (own, nx, it, nI f) := by
  unfold r_Z_readProperties
  rw [zn_fail hf]
  exact zpl_fail hf hN
def PropRes (n p a r : Nat) (vs own : Nat → Int32) (A : Option (Int32 × Int32 × Int32 × (Nat → Int32))) (B : Option ((Nat → Int32) × Int32 × Int32 × Int32)) : Prop :=
  (∃ (vs' own' : Nat → Int32) (p' : Nat) (i1 i2 : Int32), A = some (nI p', i1, -1, vs') ∧ B = some (own', nI p', i2, -1) ∧ Row a r vs' own' ∧ Only (24 * r) (24 * r + 24) vs vs' ∧ Only a (a + 24) own own' ∧ p ≤ p' ∧ p' ≤ n) ∨
  (∃ (f : Nat) (x1 x2 y1 y2 : Int32) (vs' own' : Nat → Int32), f ≤ n ∧ A = some (x1, x2, nI f, vs') ∧ B = some (own', y1, y2, nI f) ∧ Only (24 * r) (24 * r + 24) vs vs' ∧ Only a (a + 24) own own')
theorem Row.up {a r q : Nat} {vs own : Nat → Int32} {v : Int32} (h : Row a r vs own) (hq : q < 24) (hv : pOK q v) : Row a r (upd vs (24 * r + q) v) (upd own (a + q) (1 + v)) := by
  intro k hk
  by_cases e : k = q
  · subst e
    rw [upd_s, upd_s, Int32.add_comm]
    exact ⟨Eq.refl _, hv⟩
  · rw [upd_n _ _ (by omega), upd_n _ _ (by omega)]
    exact h k hk
theorem props_loop {a r R vn held : Nat} (hN : 30 ≤ N) (hn : n ≤ 6000) (hF : RelF n oc fl) (hB : Byt n oc bt) (hR : R ≤ 24) (hr : r < R) (hvn : 24 * R ≤ vn) (hvn2 : vn ≤ 576) (ha : a + 24 ≤ 1920) (hh : held ≤ 24) :
    ∀ (k i fu p pb : Nat) (y i1 i2 : Int32) (vs own : Nat → Int32), i + k = held → k + 1 < fu → p ≤ n → pb ≤ 24 → y + 1 = nI pb → y.toInt = (pb : Int) - 1 → Row a r vs own →
    PropRes n p a r vs own (l_R_readProperties_14 N (nI r) (nI held) oc (nI n) vn (nI R) fu y (nI i) (nI p) i1 (-1) vs) (l_Z_readProperties_12 N (nI a) (nI held) (nI n) fl fu y (nI i) own (nI p) i2 (-1)) := by
  intro k
  induction k with
  | zero =>
    intro i fu p pb y i1 i2 vs own hi hfu hp hpb hy1 hy2 hRow
    obtain ⟨fu, rfl⟩ : ∃ z, fu = z + 1 := ⟨fu - 1, by omega⟩
    rw [l_R_readProperties_14, if_pos (nI_le (by omega) (by omega)), l_Z_readProperties_12, if_pos (nI_le (by omega) (by omega))]
    exact Or.inl ⟨vs, own, p, i1, i2, rfl, rfl, hRow, Only.rfl, Only.rfl, Nat.le_refl _, hp⟩
  | succ k ih =>
    intro i fu p pb y i1 i2 vs own hi hfu hp hpb hy1 hy2 hRow
    obtain ⟨fu, rfl⟩ : ∃ z, fu = z + 1 := ⟨fu - 1, by omega⟩
    rw [l_R_readProperties_14, if_neg (nI_ge (by omega) (by omega)), rok, l_Z_readProperties_12, if_neg (nI_ge (by omega) (by omega)), if_neg (by decide), hy1]
    simp only [Option.bind_some, if_true]
    rcases rn_all (N := N) (lo := pb) (hi := 23) (it := i1) (by omega) hn hp hB (by omega) (by decide) with ⟨v, p', h1, h2, h3, h4, h5, h6⟩ | ⟨h1, x, h2⟩
    · have h4' : r_R_readNumber N (nI pb) 23 oc (nI n) (nI p) i1 (-1) = some (nI v, nI p', nI p, -1) := h4
      rw [h4']
      rcases zn_all (N := N) (hi := 23) (it := i2) (by omega) hn hp hF hB (by decide) with ⟨w, q, g1, g2, g3⟩ | ⟨g1, -⟩
      · rw [h1] at g1
        cases g1
        have g3' : r_Z_readNumber N 23 (nI n) fl (nI p) i2 (-1) = some (nI v, nI p', nI p, -1) := g3
        rw [g3']
        simp only [Option.bind_some]
        rw [most_n (by omega), zmost_eq, most_n (by omega)]
        rw [if_pos (show y < nI v by rw [q_lt, hy2, q_ti (by omega)]; omega), if_neg (by decide)]
        simp only [Option.bind_some]
        have hm := mostN_le v
        rcases num0 (N := N) (hi := mostN v) (it := nI p) (it2 := nI p) (by omega) hn h6 hF hB hm with ⟨w, p2, e1, e2, e3, e4, e5⟩ | ⟨x, z, e4, e5⟩
        · rw [e4, e5]
          simp only [Option.bind_some]
          rw [rok]
          simp only [Option.bind_some, if_true]
          rw [put_t hR hr (by omega) hvn hvn2 (Or.inr ⟨w, e1, rfl⟩), nI_add, gi_n (by omega) (by decide), q_cl (by omega), nI_1]
          simp only [Option.bind_some]
          rcases ih (i + 1) fu p2 (v + 1) (nI v) (nI p') (nI p') (upd vs (24 * r + v) (nI w)) (upd own (a + v) (1 + nI w)) (by omega) (by omega) e3 (by omega) (nI_1 v) (by rw [q_ti (by omega)]; omega) (hRow.up (by omega) (Or.inr ⟨w, e1, rfl⟩)) with ⟨vs', own', p3, j1, j2, f1, f2, f3, f4, f5, f6, f7⟩ | ⟨f, x1, x2, y1, y2, vs', own', f1, f2, f3, f4, f5⟩
          · exact Or.inl ⟨vs', own', p3, j1, j2, f1, f2, f3, (Only.one (by omega) (by omega)).trans f4, (Only.one (by omega) (by omega)).trans f5, by omega, f7⟩
          · exact Or.inr ⟨f, x1, x2, y1, y2, vs', own', f1, f2, f3, (Only.one (by omega) (by omega)).trans f4, (Only.one (by omega) (by omega)).trans f5⟩
        · rw [e4, e5]
          simp only [Option.bind_some]
          rw [rfail (by omega), nI_add, gi_n (by omega) (by decide), q_cl (by omega)]
          simp only [Option.bind_some]
          rw [if_neg q_10, rpl_fail (by omega) (by omega), zpl_fail (by omega) (by omega)]
          exact Or.inr ⟨p', _, _, _, _, _, _, h6, rfl, rfl, Only.rfl, Only.one (by omega) (by omega)⟩
      · exact absurd h3 (g1 v p' h1)
    · have h2' : r_R_readNumber N (nI pb) 23 oc (nI n) (nI p) i1 (-1) = some (-1, x, nI p, nI p) := h2
      rw [h2']
      simp only [Option.bind_some]
      rw [show r_P_mostOf (-1) = some 1 from rfl]
      simp only [Option.bind_some]
      rw [rn_fail (by omega)]
      simp only [Option.bind_some]
      rw [rfail (by omega)]
      simp only [Option.bind_some]
      rw [if_neg q_10, rpl_fail (by omega) (by omega)]
      refine Or.inr ⟨p, x, nI p, ?_⟩
      rcases zn_all (N := N) (hi := 23) (it := i2) (by omega) hn hp hF hB (by decide) with ⟨w, q, g1, g2, g3⟩ | ⟨g1, z, g3⟩
      · have g3' : r_Z_readNumber N 23 (nI n) fl (nI p) i2 (-1) = some (nI w, nI q, nI p, -1) := g3
        have hw : w < pb := by
          have := h1 w q g1
          omega
        rw [g3']
        simp only [Option.bind_some]
        rw [if_neg (show ¬ y < nI w by rw [q_lt, hy2, q_ti (by omega)]; omega), zw_m]
        simp only [Option.bind_some]
        rw [if_pos (nI_pos' (show p < 2 ^ 31 by omega)), zpl_fail (by omega) (by omega)]
        exact ⟨_, _, _, _, hp, rfl, rfl, Only.rfl, Only.rfl⟩
      · have g3' : r_Z_readNumber N 23 (nI n) fl (nI p) i2 (-1) = some (0, z, nI p, nI p) := g3
        rw [g3']
        simp only [Option.bind_some]
        rw [zw_f _ (by omega), if_pos (nI_pos' (show p < 2 ^ 31 by omega))]
        simp only [Option.bind_some]
        rw [if_pos (nI_pos' (show p < 2 ^ 31 by omega)), zpl_fail (by omega) (by omega)]
        refine ⟨z, nI p, vs, own, hp, rfl, ?_, Only.rfl, Only.rfl⟩
        split
        · rfl
        · rfl
theorem props_rd {a r R vn p : Nat} {i1 i2 : Int32} {vs own : Nat → Int32} (hN : 30 ≤ N) (hn : n ≤ 6000) (hF : RelF n oc fl) (hB : Byt n oc bt) (hR : R ≤ 24) (hr : r < R) (hvn : 24 * R ≤ vn) (hvn2 : vn ≤ 576) (ha : a + 24 ≤ 1920) (hp : p ≤ n) (hRow : Row a r vs own) :
    PropRes n p a r vs own (r_R_readProperties N (nI r) oc (nI n) (nI p) i1 (-1) vn vs (nI R)) (r_Z_readProperties N (nI a) (nI n) fl own (nI p) i2 (-1)) := by
  unfold r_R_readProperties r_Z_readProperties
  rcases num0 (N := N) (hi := 24) (it := i1) (it2 := i2) (by omega) hn hp hF hB (by decide) with ⟨v, p2, e1, e2, e3, e4, e5⟩ | ⟨x, z, e4, e5⟩
  · have e4' : r_R_readNumber N 0 24 oc (nI n) (nI p) i1 (-1) = some (nI v, nI p2, nI p, -1) := e4
    have e5' : r_Z_readNumber N 24 (nI n) fl (nI p) i2 (-1) = some (nI v, nI p2, nI p, -1) := e5
    rw [e4', e5']
    simp only [Option.bind_some]
    rcases props_loop (N := N) (a := a) hN hn hF hB hR hr hvn hvn2 ha e1 v 0 N p2 0 (-1) (nI p) (nI p) vs own (by omega) (by omega) e3 (by omega) (by decide) (by decide) hRow with ⟨vs', own', p3, j1, j2, f1, f2, f3, f4, f5, f6, f7⟩ | h
    · exact Or.inl ⟨vs', own', p3, j1, j2, f1, f2, f3, f4, f5, by omega, f7⟩
    · exact Or.inr h
  · have e4' : r_R_readNumber N 0 24 oc (nI n) (nI p) i1 (-1) = some (-1, x, nI p, nI p) := e4
    have e5' : r_Z_readNumber N 24 (nI n) fl (nI p) i2 (-1) = some (0, z, nI p, nI p) := e5
    rw [e4', e5']
    simp only [Option.bind_some]
    rw [rpl_fail (by omega) (by omega), zpl_fail (by omega) (by omega)]
    exact Or.inr ⟨p, _, _, _, _, _, _, hp, rfl, rfl, Only.rfl, Only.rfl⟩
end
