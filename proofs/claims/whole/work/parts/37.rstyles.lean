/-! pure: the styles are read on both sides -/
section
variable {N n e ns : Nat} {oc fl : Nat → Int32} {bt : Nat → Nat} {styles : Nat → Int32}
theorem baseOf_t {j : Nat} {bs : Nat → Int32} (hns : ns ≤ 16) (hj : j < ns) : r_D_baseOf (nI j) (nI ns) bs = some (bs j) := by
  unfold r_D_baseOf
  rw [has_t (by omega) (vp_in_nI hj (by omega))]
  simp only [Option.bind_some]
  rw [if_neg q_10, if_neg (show ¬ (16 : Int32) ≤ nI j from nI_ge (show j < 16 by omega) (by decide)), gi_n (by omega) (by decide), q_cl (by omega)]
theorem st10 {nx it fa : Int32} (hN : 30 ≤ N) (hns : ns ≤ 16) : ∀ (k i fu : Nat) (sv bs : Nat → Int32), i + k = ns → k < fu → (∀ j, j < i → bs j = -1 ∧ ∀ q, q < 24 → sv (24 * j + q) = -1) →
    ∃ sv' bs' : Nat → Int32, l_R_readStyles_10 N (nI ns) oc (nI n) nx it fa 16 384 fu (nI i) sv (nI i) bs = l_R_readStyles_29 N (nI ns) oc (nI n) 16 384 (nI ns) N 0 nx it fa sv' bs' ∧ ∀ j, j < ns → bs' j = -1 ∧ ∀ q, q < 24 → sv' (24 * j + q) = -1 := by
  intro k
  induction k with
  | zero =>
    intro i fu sv bs hi hf h
    obtain ⟨fu, rfl⟩ : ∃ z, fu = z + 1 := ⟨fu - 1, by omega⟩
    obtain rfl : i = ns := by omega
    rw [l_R_readStyles_10, if_pos (nI_le (Nat.le_refl _) (by omega))]
    exact ⟨sv, bs, rfl, h⟩
  | succ k ih =>
    intro i fu sv bs hi hf h
    obtain ⟨fu, rfl⟩ : ∃ z, fu = z + 1 := ⟨fu - 1, by omega⟩
    obtain ⟨g, a1, a2, a3⟩ := addP (N := N) (m := 16) (n := 384) (r := i) (f := sv) (by omega) (by omega) (by decide) (by decide) (by decide)
    have ha : r_D_addStyle N (-1) 16 384 sv (nI i) bs = some (nI i, g, nI (i + 1), upd bs i (-1)) := by
      unfold r_D_addStyle
      rw [show (16 : Int32) = nI 16 from rfl, a1]
      simp only [Option.bind_some]
      rw [if_neg (nI_pos (by omega)), if_neg (nI_ge (by omega) (by decide)), gi_n (by omega) (by decide), q_cl (by omega)]
    rw [l_R_readStyles_10, if_neg (nI_ge (by omega) (by omega)), ha, nI_1]
    simp only [Option.bind_some]
    refine ih (i + 1) fu g (upd bs i (-1)) (by omega) (by omega) (fun j hj => ?_)
    by_cases ej : j = i
    · subst ej
      exact ⟨upd_s _ _ _, a2⟩
    · refine ⟨(upd_n _ _ ej).trans (h j (by omega)).1, fun q hq => ?_⟩
      rw [a3 _ (by omega)]
      exact (h j (by omega)).2 q hq
theorem st16 {own : Nat → Int32} {nx it fa : Int32} (he : e ≤ 1) (hns : ns ≤ 16) : ∀ (k i fu : Nat) (base : Nat → Int32), i + k = ns → k < fu →
    ∃ base' : Nat → Int32, l_Z_readStyles_16 N (nI e) (nI ns) (nI n) fl styles own nx it fa fu (nI i) base = l_Z_readStyles_41 N (nI e) (nI ns) (nI n) fl styles N 0 base' own nx it fa ∧ (∀ j, i ≤ j → j < ns → base' (16 * e + j) = -1) ∧ Only (16 * e + i) (16 * e + 16) base base' := by
  intro k
  induction k with
  | zero =>
    intro i fu base hi hf
    obtain ⟨fu, rfl⟩ : ∃ z, fu = z + 1 := ⟨fu - 1, by omega⟩
    rw [l_Z_readStyles_16, if_pos (nI_le (by omega) (by omega))]
    exact ⟨base, rfl, fun j h1 h2 => by omega, Only.rfl⟩
  | succ k ih =>
    intro i fu base hi hf
    obtain ⟨fu, rfl⟩ : ∃ z, fu = z + 1 := ⟨fu - 1, by omega⟩
    rw [l_Z_readStyles_16, if_neg (nI_ge (by omega) (by omega)), show (16 : Int32) * nI e + nI i = nI (16 * e + i) from q_iz 16 e i, gi_n (by omega) (by decide), q_cl (by omega), nI_1]
    obtain ⟨b', h1, h2, h3⟩ := ih (i + 1) fu (upd base (16 * e + i) (-1)) (by omega) (by omega)
    refine ⟨b', h1, fun j hj1 hj2 => ?_, ?_⟩
    · by_cases ej : j = i
      · subst ej
        rw [h3 _ (by omega), upd_s]
      · exact h2 j (by omega) hj2
    · exact (Only.one (by omega) (by omega)).trans (h3.mono (by omega) (Nat.le_refl _))
section
variable {K : Int32 → (Nat → Int32) → (Nat → Int32) → Int32 → Int32 → Int32 → Option ((Nat → Int32) × (Nat → Int32) × (Nat → Int32) × Int32 × Int32 × Int32)} {base own : Nat → Int32} {at_ it : Int32} {s : Nat}
/-- the reference's search for a circle behind a fault -/
theorem cyc_fail {f : Nat} (he : e ≤ 1) (hns : ns ≤ 16) (hs : s < ns) (hf : f < 2147483648) (hb : ∀ j, j < ns → bOK ns (base (16 * e + j))) : ∀ (k i fu : Nat) (b : Int32), i + k = 16 → k < fu → bOK ns b →
    l_Z_readStyles_85 K N (nI e) (nI ns) (nI s) (nI n) fl styles base own at_ it fu b (nI i) (nI f) = (r_Z_readProperties N (nI (960 * e + 24 * s)) (nI n) fl own at_ it (nI f)).bind (fun z => K (nI (s + 1)) base z.1 z.2.1 z.2.2.1 z.2.2.2) := by
  intro k
  induction k with
  | zero =>
    intro i fu b hi hfu hB
    obtain ⟨fu, rfl⟩ : ∃ z, fu = z + 1 := ⟨fu - 1, by omega⟩
    rw [l_Z_readStyles_85, if_pos (show (16 : Int32) ≤ nI i from nI_le (a := 16) (by omega) (by omega)), q_zrow0, nI_1]
    rfl
  | succ k ih =>
    intro i fu b hi hfu hB
    obtain ⟨fu, rfl⟩ : ∃ z, fu = z + 1 := ⟨fu - 1, by omega⟩
    rw [l_Z_readStyles_85, if_neg (show ¬ (16 : Int32) ≤ nI i from nI_ge (b := 16) (by omega) (by omega)), nI_1, nI_1]
    rcases hB with rfl | ⟨j, hj, rfl⟩
    · rw [if_pos (by decide), q_zrow0]
      rfl
    · rw [if_neg (nI_pos (by omega)), show (16 : Int32) * nI e + nI j = nI (16 * e + j) from q_iz 16 e j, gi_n (by omega) (by decide), q_cl (by omega), zw_f _ hf]
      simp only [Option.bind_some]
      rw [gi_n (by omega) (by decide), ih (i + 1) fu _ (by omega) (by omega) (hb j hj)]
      split <;> rfl
theorem cyc {f : Nat} {bs : Nat → Int32} (he : e ≤ 1) (hns : ns ≤ 16) (hs : s < ns) (hf : f < 2147483648) (hb : ∀ j, j < ns → bs j = base (16 * e + j) ∧ bOK ns (bs j)) : ∀ (k i fu : Nat) (b : Int32), i + k = 16 → k < fu → bOK ns b →
    (l_D_rebase_31 N (nI s) (nI ns) bs fu b (nI i) = some (1, bs) ∧ l_Z_readStyles_85 K N (nI e) (nI ns) (nI s) (nI n) fl styles base own at_ (nI f) fu b (nI i) (-1) = (r_Z_readProperties N (nI (960 * e + 24 * s)) (nI n) fl own at_ (nI f) (-1)).bind (fun z => K (nI (s + 1)) base z.1 z.2.1 z.2.2.1 z.2.2.2)) ∨
    (l_D_rebase_31 N (nI s) (nI ns) bs fu b (nI i) = some (0, bs) ∧ l_Z_readStyles_85 K N (nI e) (nI ns) (nI s) (nI n) fl styles base own at_ (nI f) fu b (nI i) (-1) = (r_Z_readProperties N (nI (960 * e + 24 * s)) (nI n) fl own at_ (nI f) (nI f)).bind (fun z => K (nI (s + 1)) base z.1 z.2.1 z.2.2.1 z.2.2.2)) := by
  intro k
  induction k with
  | zero =>
    intro i fu b hi hfu hB
    obtain ⟨fu, rfl⟩ : ∃ z, fu = z + 1 := ⟨fu - 1, by omega⟩
    rw [l_Z_readStyles_85, if_pos (show (16 : Int32) ≤ nI i from nI_le (a := 16) (by omega) (by omega)), q_zrow0, nI_1, l_D_rebase_31, if_pos (show (16 : Int32) ≤ nI i from nI_le (a := 16) (by omega) (by omega))]
    exact Or.inl ⟨rfl, rfl⟩
  | succ k ih =>
    intro i fu b hi hfu hB
    obtain ⟨fu, rfl⟩ : ∃ z, fu = z + 1 := ⟨fu - 1, by omega⟩
    rw [l_Z_readStyles_85, if_neg (show ¬ (16 : Int32) ≤ nI i from nI_ge (b := 16) (by omega) (by omega)), nI_1, nI_1, l_D_rebase_31, if_neg (show ¬ (16 : Int32) ≤ nI i from nI_ge (b := 16) (by omega) (by omega)), nI_1]
    rcases hB with rfl | ⟨j, hj, rfl⟩
    · rw [if_pos (by decide), if_pos (by decide), q_zrow0]
      exact Or.inl ⟨rfl, rfl⟩
    · rw [if_neg (nI_pos (by omega)), if_neg (nI_pos (by omega)), show (16 : Int32) * nI e + nI j = nI (16 * e + j) from q_iz 16 e j, gi_n (by omega) (by decide), q_cl (by omega), zw_m, baseOf_t hns hj]
      simp only [Option.bind_some]
      rw [gi_n (by omega) (by decide)]
      by_cases hjs : j = s
      · subst hjs
        rw [if_pos rfl, if_pos rfl, cyc_fail he hns hs hf (fun j hj => by rw [← (hb j hj).1]; exact (hb j hj).2) k (i + 1) fu _ (by omega) (by omega) (by rw [← (hb j hj).1]; exact (hb j hj).2)]
        exact Or.inr ⟨rfl, rfl⟩
      · have hne : ¬ nI j = nI s := fun h => hjs ((nI_eq (by omega) (by omega)).mp h)
        rw [if_neg hne, if_neg hne, (hb j hj).1]
        exact ih (i + 1) fu (base (16 * e + j)) (by omega) (by omega) (by rw [← (hb j hj).1]; exact (hb j hj).2)
end
theorem l29_fail {f fu : Nat} {y2 y3 nx it most rows : Int32} {vn : Nat} {sv bs : Nat → Int32} (hf : f < 2147483648) (hfu : 1 ≤ fu) : l_R_readStyles_29 N y2 oc (nI n) most vn rows fu y3 nx it (nI f) sv bs = some (nx, it, nI f, sv, rows, bs) := by
  obtain ⟨fu, rfl⟩ : ∃ z, fu = z + 1 := ⟨fu - 1, by omega⟩
  rw [l_R_readStyles_29, rfail hf]
  split
  · rfl
  · rfl
theorem l41_fail {f fu : Nat} {y1 y2 y3 nx it : Int32} {base own : Nat → Int32} (hf : f < 2147483648) (hfu : 1 ≤ fu) : l_Z_readStyles_41 N y1 y2 (nI n) fl styles fu y3 base own nx it (nI f) = some (styles, base, own, nx, it, nI f) := by
  obtain ⟨fu, rfl⟩ : ∃ z, fu = z + 1 := ⟨fu - 1, by omega⟩
  rw [l_Z_readStyles_41, if_pos (nI_pos' hf)]
  split
  · rfl
  · rfl
def StyRes (n p e ns : Nat) (styles base own : Nat → Int32) (A : Option (Int32 × Int32 × Int32 × (Nat → Int32) × Int32 × (Nat → Int32))) (B : Option ((Nat → Int32) × (Nat → Int32) × (Nat → Int32) × Int32 × Int32 × Int32)) : Prop :=
  (∃ (p' : Nat) (i1 i2 : Int32) (sv' bs' base' own' : Nat → Int32), A = some (nI p', i1, -1, sv', nI ns, bs') ∧ B = some (styles, base', own', nI p', i2, -1) ∧ RelS e ns sv' bs' base' own' ∧ Only (16 * e) (16 * e + 16) base base' ∧ Only (960 * e) (960 * e + 384) own own' ∧ p ≤ p' ∧ p' ≤ n) ∨
  (∃ (f : Nat) (x1 x2 x3 y1 y2 : Int32) (sv' bs' base' own' : Nat → Int32), f ≤ n ∧ A = some (x1, x2, nI f, sv', x3, bs') ∧ B = some (styles, base', own', y1, y2, nI f) ∧ Only (16 * e) (16 * e + 16) base base' ∧ Only (960 * e) (960 * e + 384) own own')
theorem StyRes.step {p p2 : Nat} {base own base1 own1 : Nat → Int32} {A : Option (Int32 × Int32 × Int32 × (Nat → Int32) × Int32 × (Nat → Int32))} {B : Option ((Nat → Int32) × (Nat → Int32) × (Nat → Int32) × Int32 × Int32 × Int32)} (h1 : Only (16 * e) (16 * e + 16) base base1) (h2 : Only (960 * e) (960 * e + 384) own own1) (hp : p ≤ p2) (h : StyRes n p2 e ns styles base1 own1 A B) : StyRes n p e ns styles base own A B := by
  rcases h with ⟨p', i1, i2, sv', bs', base', own', a1, a2, a3, a4, a5, a6, a7⟩ | ⟨f, x1, x2, x3, y1, y2, sv', bs', base', own', a1, a2, a3, a4, a5⟩
  · exact Or.inl ⟨p', i1, i2, sv', bs', base', own', a1, a2, a3, h1.trans a4, h2.trans a5, by omega, a7⟩
  · exact Or.inr ⟨f, x1, x2, x3, y1, y2, sv', bs', base', own', a1, a2, a3, h1.trans a4, h2.trans a5⟩
theorem sty_loop (hN : 60 ≤ N) (hn : n ≤ 6000) (hF : RelF n oc fl) (hB : Byt n oc bt) (he : e ≤ 1) (hns : ns ≤ 16) :
    ∀ (k i fu p : Nat) (i1 i2 : Int32) (sv bs base own : Nat → Int32), i + k = ns → k + 1 < fu → p ≤ n → (∀ j, j < ns → bs j = base (16 * e + j) ∧ bOK ns (bs j)) → (∀ j, j < i → Row (960 * e + 24 * j) j sv own) → (∀ j, i ≤ j → j < ns → ∀ q, q < 24 → sv (24 * j + q) = -1) →
    StyRes n p e ns styles base own (l_R_readStyles_29 N (nI ns) oc (nI n) 16 384 (nI ns) fu (nI i) (nI p) i1 (-1) sv bs) (l_Z_readStyles_41 N (nI e) (nI ns) (nI n) fl styles fu (nI i) base own (nI p) i2 (-1)) := by
  intro k
  induction k with
  | zero =>
    intro i fu p i1 i2 sv bs base own hi hfu hp hb hr hm
    obtain ⟨fu, rfl⟩ : ∃ z, fu = z + 1 := ⟨fu - 1, by omega⟩
    rw [l_R_readStyles_29, if_pos (nI_le (by omega) (by omega)), l_Z_readStyles_41, if_pos (nI_le (by omega) (by omega))]
    refine Or.inl ⟨p, i1, i2, sv, bs, base, own, rfl, rfl, fun j hj => ⟨(hb j hj).1, (hb j hj).2, fun q hq => ?_⟩, Only.rfl, Only.rfl, Nat.le_refl _, hp⟩
    have := hr j (by omega) q hq
    rw [Nat.add_assoc] at this
    exact this
  | succ k ih =>
    intro i fu p i1 i2 sv bs base own hi hfu hp hb hr hm
    obtain ⟨fu, rfl⟩ : ∃ z, fu = z + 1 := ⟨fu - 1, by omega⟩
    obtain ⟨o, b1, b2, b3⟩ := bareZ (N := N) (of := 0) (d := e) (k0 := i) (f := own) (by omega) (q_zrow0 e i) (by omega)
    have oo : Only (960 * e) (960 * e + 384) own o := Only.mono (show Only (960 * e + 24 * i) (960 * e + 24 * i + 24) own o from b3) (by omega) (by omega)
    rw [l_R_readStyles_29, if_neg (nI_ge (by omega) (by omega)), rok, l_Z_readStyles_41, if_neg (nI_ge (by omega) (by omega)), if_neg (show ¬ (0 : Int32) ≤ -1 by decide), b1]
    simp only [Option.bind_some, if_true]
    unfold r_R_readBase r_P_rows
    simp only [Option.bind_some]
    rw [show (16 : Int32) * nI e + nI i = nI (16 * e + i) from q_iz 16 e i]
    simp only [gi_n (show 16 * e + i < 32 by omega) (show 32 < 2147483648 by decide), q_cl (show 16 * e + i < 2147483648 by omega)]
    rcases num0 (N := N) (hi := ns) (it := i1) (it2 := i2) (by omega) hn hp hF hB (by omega) with ⟨v, p2, e1, e2, e3, e4, e5⟩ | ⟨x, z, e4, e5⟩
    · rw [e4, e5]
      simp only [Option.bind_some]
      rw [rok]
      simp only [Option.bind_some, if_true]
      have hbv : bOK ns (nI v - 1) := by
        by_cases hv : v = 0
        · subst hv
          exact Or.inl (by decide)
        · obtain ⟨j, rfl⟩ : ∃ j, v = j + 1 := ⟨v - 1, by omega⟩
          exact Or.inr ⟨j, by omega, q_one⟩
      generalize hw : nI v - 1 = b at hbv ⊢
      have hb' : ∀ j, j < ns → upd bs i b j = upd base (16 * e + i) b (16 * e + j) ∧ bOK ns (upd bs i b j) := fun j hj => by
        by_cases ej : j = i
        · subst ej
          rw [upd_s, upd_s]
          exact ⟨rfl, hbv⟩
        · rw [upd_n _ _ ej, upd_n _ _ (by omega)]
          exact hb j hj
      have hre : r_D_rebase N (nI i) b (nI ns) bs = l_D_rebase_31 N (nI i) (nI ns) (upd bs i b) N b (nI 0) := by
        unfold r_D_rebase
        rw [has_t (by omega) (vp_in_nI (show i < ns by omega) (by omega))]
        simp only [Option.bind_some]
        rw [if_neg q_10, if_pos (show nI i < 16 from nI_lt (b := 16) (by omega) (by decide)), gi_n (by omega) (by decide), q_cl (by omega)]
        rfl
      rw [hre]
      have hbase1 : Only (16 * e) (16 * e + 16) base (upd base (16 * e + i) b) := Only.one (by omega) (by omega)
      rcases cyc (N := N) (n := n) (e := e) (fl := fl) (styles := styles) (K := fun b0 b1 b2 b3 b4 b5 => l_Z_readStyles_41 N (nI e) (nI ns) (nI n) fl styles fu b0 b1 b2 b3 b4 b5) (base := upd base (16 * e + i) b) (own := o) (at_ := nI p2) (s := i) (f := p) (bs := upd bs i b) he hns (by omega) (by omega) hb' 16 0 N b (by omega) (by omega) hbv with ⟨c1, c2⟩ | ⟨c1, c2⟩
      · rw [c1, show (0 : Int32) = nI 0 from rfl, c2]
        simp only [Option.bind_some]
        rw [if_neg (show ¬ (1 : Int32) = nI 0 by decide), nI_1]
        simp only [Option.bind_some]
        have hrow : Row (960 * e + 24 * i) i sv o := fun q hq => ⟨by rw [b2 q hq, hm i (Nat.le_refl _) (by omega) q hq]; rfl, Or.inl (hm i (Nat.le_refl _) (by omega) q hq)⟩
        rcases props_rd (N := N) (a := 960 * e + 24 * i) (r := i) (R := ns) (vn := 384) (i1 := nI p) (i2 := nI p) (by omega) hn hF hB (by omega) (by omega) (by omega) (by decide) (by omega) e3 hrow with ⟨vs', own', p3, j1, j2, f1, f2, f3, f4, f5, f6, f7⟩ | ⟨f, x1, x2, y1, y2, vs', own', f1, f2, f3, f4, f5⟩
        · rw [f1, f2]
          simp only [Option.bind_some]
          refine StyRes.step hbase1 (oo.trans (f5.mono (by omega) (by omega))) (show p ≤ p3 by omega) (ih (i + 1) fu p3 j1 j2 vs' (upd bs i b) _ own' (by omega) (by omega) f7 hb' (fun j hj => ?_) (fun j hj1 hj2 q hq => ?_))
          · by_cases ej : j = i
            · rw [ej]; exact f3
            · exact (hr j (by omega)).move f4 (Only.trans (show Only (960 * e + 24 * i) (960 * e + 24 * i + 24) own o from b3) f5) (by omega) (by omega)
          · rw [f4 _ (by omega)]
            exact hm j (by omega) hj2 q hq
        · rw [f2, f3]
          simp only [Option.bind_some]
          rw [l29_fail (by omega) (by omega), l41_fail (by omega) (by omega)]
          exact Or.inr ⟨f, _, _, _, _, _, _, _, _, _, f1, rfl, rfl, hbase1, oo.trans (f5.mono (by omega) (by omega))⟩
      · rw [c1, show (0 : Int32) = nI 0 from rfl, c2]
        simp only [Option.bind_some, if_true]
        rw [show r_R_refuse (nI p) (-1) = some (-1, nI p) from rfl]
        simp only [Option.bind_some]
        rw [rp_fail (by omega) (by omega), zp_fail (by omega) (by omega)]
        simp only [Option.bind_some]
        rw [l29_fail (by omega) (by omega), l41_fail (by omega) (by omega)]
        exact Or.inr ⟨p, _, _, _, _, _, _, _, _, _, hp, rfl, rfl, hbase1, oo⟩
    · rw [e4, e5]
      simp only [Option.bind_some]
      rw [rfail (by omega)]
      simp only [Option.bind_some]
      rw [if_neg q_10]
      simp only [Option.bind_some]
      rw [rp_fail (by omega) (by omega)]
      simp only [Option.bind_some]
      rw [l29_fail (by omega) (by omega)]
      have hb' : ∀ j, j < ns → bOK ns (upd base (16 * e + i) (0 - 1) (16 * e + j)) := fun j hj => by
        by_cases ej : j = i
        · subst ej
          rw [upd_s]
          exact Or.inl (by decide)
        · rw [upd_n _ _ (by omega), ← (hb j hj).1]
          exact (hb j hj).2
      rw [show l_Z_readStyles_85 (fun b0 b1 b2 b3 b4 b5 => l_Z_readStyles_41 N (nI e) (nI ns) (nI n) fl styles fu b0 b1 b2 b3 b4 b5) N (nI e) (nI ns) (nI i) (nI n) fl styles (upd base (16 * e + i) (0 - 1)) o z (nI p) N (0 - 1) 0 (nI p) = _ from cyc_fail (f := p) he hns (show i < ns by omega) (by omega) hb' 16 0 N (0 - 1) (by omega) (by omega) (Or.inl (by decide)), zp_fail (by omega) (by omega)]
      simp only [Option.bind_some]
      rw [l41_fail (by omega) (by omega)]
      exact Or.inr ⟨p, _, _, _, _, _, _, _, _, _, hp, rfl, rfl, Only.one (by omega) (by omega), oo⟩
theorem styles_rd {p : Nat} {i1 i2 : Int32} {sv bs base own : Nat → Int32} (hN : 60 ≤ N) (hn : n ≤ 6000) (hF : RelF n oc fl) (hB : Byt n oc bt) (he : e ≤ 1) (hp : p ≤ n) :
    ∃ ns' styles', ns' ≤ 16 ∧ styles' e = nI ns' ∧ Only e (e + 1) styles styles' ∧ StyRes n p e ns' styles' base own (r_R_readStyles N oc (nI n) (nI p) i1 (-1) 16 384 sv 0 bs) (r_Z_readStyles N (nI e) (nI n) fl styles base own (nI p) i2 (-1)) := by
  unfold r_R_readStyles r_Z_readStyles
  rcases num0 (N := N) (hi := 16) (it := i1) (it2 := i2) (by omega) hn hp hF hB (by decide) with ⟨v, p2, e1, e2, e3, e4, e5⟩ | ⟨x, z, e4, e5⟩
  · have e4' : r_R_readNumber N 0 16 oc (nI n) (nI p) i1 (-1) = some (nI v, nI p2, nI p, -1) := e4
    have e5' : r_Z_readNumber N 16 (nI n) fl (nI p) i2 (-1) = some (nI v, nI p2, nI p, -1) := e5
    refine ⟨v, upd styles e (nI v), e1, upd_s _ _ _, Only.one (by omega) (by omega), ?_⟩
    rw [e4', e5']
    simp only [Option.bind_some]
    rw [gi_n (by omega) (by decide), q_cl (by omega)]
    obtain ⟨sv', bs', a1, a2⟩ := st10 (N := N) (n := n) (oc := oc) (ns := v) (nx := nI p2) (it := nI p) (fa := -1) (by omega) e1 v 0 N sv bs (by omega) (by omega) (fun j hj => by omega)
    obtain ⟨base', b1, b2, b3⟩ := st16 (N := N) (n := n) (fl := fl) (e := e) (ns := v) (styles := upd styles e (nI v)) (own := own) (nx := nI p2) (it := nI p) (fa := -1) he e1 v 0 N base (by omega) (by omega)
    rw [show (0 : Int32) = nI 0 from rfl, a1, b1]
    refine StyRes.step (p2 := p2) (b3.mono (by omega) (by omega)) Only.rfl (by omega) ?_
    exact sty_loop hN hn hF hB he e1 v 0 N p2 (nI p) (nI p) sv' bs' base' own (by omega) (by omega) e3 (fun j hj => ⟨by rw [(a2 j hj).1, b2 j (Nat.zero_le _) hj], Or.inl (a2 j hj).1⟩) (fun j hj => by omega) (fun j _ hj => (a2 j hj).2)
  · have e4' : r_R_readNumber N 0 16 oc (nI n) (nI p) i1 (-1) = some (-1, x, nI p, nI p) := e4
    have e5' : r_Z_readNumber N 16 (nI n) fl (nI p) i2 (-1) = some (0, z, nI p, nI p) := e5
    refine ⟨0, upd styles e (nI 0), by decide, upd_s _ _ _, Only.one (by omega) (by omega), ?_⟩
    rw [e4', e5']
    simp only [Option.bind_some]
    obtain ⟨M, rfl⟩ : ∃ M, N = M + 1 := ⟨N - 1, by omega⟩
    rw [gi_n (by omega) (by decide), q_cl (by omega), l_R_readStyles_10, if_pos (by decide), l29_fail (by omega) (by omega), l_Z_readStyles_16, if_pos (by decide), l41_fail (by omega) (by omega)]
    exact Or.inr ⟨p, _, _, _, _, _, _, _, _, _, hp, rfl, rfl, Only.rfl, Only.rfl⟩
end
