/-! pure: a file is opened on both sides -/
section
variable {N n : Nat} {oc fl : Nat → Int32} {bt : Nat → Nat}
theorem zb_ok {p b : Nat} {it : Int32} (hn : n ≤ 6000) (hp : p < n) (hF : RelF n oc fl) (hB : Byt n oc bt) (h : bt p = b) : r_Z_readByte (nI b) (nI n) fl (nI p) it (-1) = some (nI (p + 1), nI p, -1) := by
  unfold r_Z_readByte
  rw [if_pos (by decide), if_neg (fun h => by have := (nI_eq (by omega) (by omega)).mp h; omega), gi_n (by omega) (by decide), q_cl (by omega), ← hF p hp, (hB p hp).2, h, if_pos rfl, nI_1]
theorem zb_no {p b : Nat} {it : Int32} (hn : n ≤ 6000) (hp : p ≤ n) (hb : b < 256) (hF : RelF n oc fl) (hB : Byt n oc bt) (h : p = n ∨ bt p ≠ b) : r_Z_readByte (nI b) (nI n) fl (nI p) it (-1) = some (nI (p + 1), nI p, nI p) := by
  unfold r_Z_readByte
  rw [if_pos (by decide), zw_m, nI_1]
  by_cases hpn : p = n
  · rw [if_pos (by rw [hpn])]
    rfl
  · have hp2 : p < n := by omega
    have := (hB p hp2).1
    rw [if_neg (fun h => hpn ((nI_eq (by omega) (by omega)).mp h)), gi_n (by omega) (by decide), q_cl (by omega), ← hF p hp2, (hB p hp2).2, if_neg (fun h2 => by have := (nI_eq (by omega) (by omega)).mp h2; omega)]
    rfl
theorem zb_fail {f : Nat} {x at_ it : Int32} (hf : f < 2147483648) : r_Z_readByte x (nI n) fl at_ it (nI f) = some (at_, it, nI f) := by
  unfold r_Z_readByte
  rw [if_neg (nI_pos hf)]
theorem rh_fail {f fu : Nat} {y1 nx : Int32} (hf : f < 2147483648) (hfu : 1 ≤ fu) : l_R_readHead_2 N oc (nI n) fu y1 nx (nI f) = some (nx, nI f) := by
  obtain ⟨fu, rfl⟩ : ∃ z, fu = z + 1 := ⟨fu - 1, by omega⟩
  rw [l_R_readHead_2, rfail hf]
  split
  · rfl
  · rfl
/-- one byte of the head -/
theorem rh_ok {i fu : Nat} {nx : Int32} (hi : i < 3) (hn : n ≤ 6000) (hp : i < n) (hB : Byt n oc bt) (h : nI (bt i) = wk_hd i) : l_R_readHead_2 N oc (nI n) (fu + 1) (nI i) nx (-1) = l_R_readHead_2 N oc (nI n) fu (nI (i + 1)) (nI (i + 1)) (-1) := by
  rw [l_R_readHead_2, if_neg (show ¬ (3 : Int32) ≤ nI i from nI_ge (b := 3) hi (by decide)), rok, oget_t hn hp hB]
  simp only [Option.bind_some, if_true]
  rw [gi_n hi (by decide), q_cl (by omega), if_pos h, nI_1]
theorem rh_no {i fu : Nat} {nx : Int32} (hi : i < 3) (hn : n ≤ 6000) (hB : Byt n oc bt) (h : n ≤ i ∨ (i < n ∧ nI (bt i) ≠ wk_hd i)) (hfu : 1 ≤ fu) (hw : wk_hd i ≠ -1) : l_R_readHead_2 N oc (nI n) (fu + 1) (nI i) nx (-1) = some (nx, nI i) := by
  rw [l_R_readHead_2, if_neg (show ¬ (3 : Int32) ≤ nI i from nI_ge (b := 3) hi (by decide)), rok]
  simp only [Option.bind_some, if_true]
  rcases h with h | ⟨h, h2⟩
  · rw [oget_f hn h (by omega)]
    simp only [Option.bind_some]
    rw [gi_n hi (by decide), q_cl (by omega), if_neg (fun a => hw a.symm)]
    exact rh_fail (by omega) hfu
  · rw [oget_t hn h hB]
    simp only [Option.bind_some]
    rw [gi_n hi (by decide), q_cl (by omega), if_neg h2]
    exact rh_fail (by omega) hfu
theorem head_rd {i2 nx : Int32} (hN : 10 ≤ N) (hn : n ≤ 6000) (hF : RelF n oc fl) (hB : Byt n oc bt) :
    (3 ≤ n ∧ r_R_readHead N oc (nI n) nx (-1) = some (nI 3, -1) ∧ ∃ i3, ((r_Z_readByte 77 (nI n) fl 0 i2 (-1)).bind (fun z25 => (r_Z_readByte 83 (nI n) fl z25.1 z25.2.1 z25.2.2).bind (fun z26 => r_Z_readByte 1 (nI n) fl z26.1 z26.2.1 z26.2.2))) = some (nI 3, i3, -1)) ∨
    (∃ (f : Nat) (x y1 y2 : Int32), f ≤ n ∧ r_R_readHead N oc (nI n) nx (-1) = some (x, nI f) ∧ ((r_Z_readByte 77 (nI n) fl 0 i2 (-1)).bind (fun z25 => (r_Z_readByte 83 (nI n) fl z25.1 z25.2.1 z25.2.2).bind (fun z26 => r_Z_readByte 1 (nI n) fl z26.1 z26.2.1 z26.2.2))) = some (y1, y2, nI f)) := by
  obtain ⟨M, rfl⟩ : ∃ M, N = M + 5 := ⟨N - 5, by omega⟩
  unfold r_R_readHead
  rw [show (0 : Int32) = nI 0 from rfl, show (77 : Int32) = nI 77 from rfl, show (83 : Int32) = nI 83 from rfl]
  by_cases h0 : 0 < n ∧ bt 0 = 77
  · rw [rh_ok (fu := M + 4) (by decide) hn h0.1 hB (by rw [h0.2]; decide), zb_ok hn h0.1 hF hB h0.2]
    simp only [Option.bind_some]
    by_cases h1 : 1 < n ∧ bt 1 = 83
    · rw [rh_ok (fu := M + 3) (by decide) hn h1.1 hB (by rw [h1.2]; decide), show nI (0 + 1) = nI 1 from rfl, zb_ok hn h1.1 hF hB h1.2]
      simp only [Option.bind_some]
      by_cases h2 : 2 < n ∧ bt 2 = 1
      · rw [rh_ok (fu := M + 2) (by decide) hn h2.1 hB (by rw [h2.2]; decide), show nI (1 + 1) = nI 2 from rfl, show r_Z_readByte 1 (nI n) fl (nI 2) (nI 1) (-1) = _ from zb_ok (b := 1) hn h2.1 hF hB h2.2, l_R_readHead_2, if_pos (by decide)]
        exact Or.inl ⟨by omega, rfl, _, rfl⟩
      · have hb2 : 2 < n → bt 2 < 256 := fun h => (hB 2 h).1
        rw [rh_no (fu := M + 2) (i := 0 + 1 + 1) (by decide) hn hB (by
          by_cases h : 2 < n
          · refine Or.inr ⟨h, fun a => ?_⟩
            have a2 : nI (bt 2) = nI 1 := a
            have := (nI_eq (by have := hb2 h; omega) (by decide)).mp a2
            omega
          · exact Or.inl (by omega)) (by omega) (by decide), show nI (1 + 1) = nI 2 from rfl, show r_Z_readByte 1 (nI n) fl (nI 2) (nI 1) (-1) = _ from zb_no (b := 1) hn (by omega) (by decide) hF hB (by omega)]
        exact Or.inr ⟨2, _, _, _, by omega, rfl, rfl⟩
    · have hb1 : 1 < n → bt 1 < 256 := fun h => (hB 1 h).1
      rw [rh_no (fu := M + 3) (i := 0 + 1) (by decide) hn hB (by
        by_cases h : 1 < n
        · refine Or.inr ⟨h, fun a => ?_⟩
          have a2 : nI (bt 1) = nI 83 := a
          have := (nI_eq (by have := hb1 h; omega) (by decide)).mp a2
          omega
        · exact Or.inl (by omega)) (by omega) (by decide), show nI (0 + 1) = nI 1 from rfl, zb_no hn (by omega) (by decide) hF hB (by omega)]
      simp only [Option.bind_some]
      rw [zb_fail (by omega)]
      exact Or.inr ⟨1, _, _, _, by omega, rfl, rfl⟩
  · have hb0 : 0 < n → bt 0 < 256 := fun h => (hB 0 h).1
    rw [rh_no (fu := M + 4) (i := 0) (by decide) hn hB (by
      by_cases h : 0 < n
      · refine Or.inr ⟨h, fun a => ?_⟩
        have a2 : nI (bt 0) = nI 77 := a
        have := (nI_eq (by have := hb0 h; omega) (by decide)).mp a2
        omega
      · exact Or.inl (by omega)) (by omega) (by decide), zb_no hn (by omega) (by decide) hF hB (by omega)]
    simp only [Option.bind_some]
    rw [zb_fail (by omega)]
    simp only [Option.bind_some]
    rw [zb_fail (by omega)]
    exact Or.inr ⟨0, _, _, _, by omega, rfl, rfl⟩
variable {e d : Nat} {styles base : Nat → Int32} {sv bs : Nat → Int32}
theorem z87_ok {y1 it : Int32} {sets marks runs chars own ins era old kind setOf markOf styleOf many text : Nat → Int32} (hn : n ≤ 6000) : j_Z_open_87 N (nI n) fl y1 (nI d) styles sets marks runs chars base own ins era old kind setOf markOf styleOf many text (nI n) it (-1) = some (0, y1, styles, sets, marks, runs, chars, base, own, ins, era, old, kind, setOf, markOf, styleOf, many, text, nI n, it, -1) := by
  unfold j_Z_open_87
  rw [if_pos (nI_le (Nat.le_refl _) (by omega)), if_neg (by decide)]
  rfl
theorem z87_fail {f : Nat} {y1 at_ it : Int32} {sets marks runs chars own ins era old kind setOf markOf styleOf many text : Nat → Int32} (hf : f < 2147483647) : j_Z_open_87 N (nI n) fl y1 (nI d) styles sets marks runs chars base own ins era old kind setOf markOf styleOf many text at_ it (nI f) = some (nI (f + 1), nI d, styles, sets, marks, runs, chars, base, own, ins, era, old, kind, setOf, markOf, styleOf, many, text, at_, it, nI f) := by
  unfold j_Z_open_87
  rw [if_pos (nI_pos' (show f < 2 ^ 31 by omega)), zw_f _ (by omega)]
  simp only [Option.bind_some]
  rw [if_pos (nI_pos' (show f < 2 ^ 31 by omega)), nI_1]
  split <;> rfl
/-- trailing bytes -/
theorem z87_more {q : Nat} {y1 it : Int32} {sets marks runs chars own ins era old kind setOf markOf styleOf many text : Nat → Int32} (hn : n ≤ 6000) (hq : q < n) : j_Z_open_87 N (nI n) fl y1 (nI d) styles sets marks runs chars base own ins era old kind setOf markOf styleOf many text (nI q) it (-1) = some (nI (q + 1), nI d, styles, sets, marks, runs, chars, base, own, ins, era, old, kind, setOf, markOf, styleOf, many, text, nI q, it, nI q) := by
  unfold j_Z_open_87
  rw [if_neg (nI_ge hq (by omega)), zw_m]
  simp only [Option.bind_some]
  rw [if_pos (nI_pos' (show q < 2 ^ 31 by omega)), nI_1]
def ReadRes (n d e ns : Nat) (styles base sets marks runs chars own ins era old kind setOf markOf styleOf many text sv bs : Nat → Int32) (A : Option (Int32 × Int32 × Int32 × Int32 × (Nat → Int32) × Int32 × (Nat → Int32) × Int32 × (Nat → Int32) × Int32 × (Nat → Int32) × (Nat → Int32) × Int32 × Int32 × (Nat → Int32))) (B : Option (Int32 × Int32 × (Nat → Int32) × (Nat → Int32) × (Nat → Int32) × (Nat → Int32) × (Nat → Int32) × (Nat → Int32) × (Nat → Int32) × (Nat → Int32) × (Nat → Int32) × (Nat → Int32) × (Nat → Int32) × (Nat → Int32) × (Nat → Int32) × (Nat → Int32) × (Nat → Int32) × (Nat → Int32) × Int32 × Int32 × Int32)) : Prop :=
  (∃ (nS nm nr nc : Nat) (nx i1 i2 : Int32) (tv mp up uc sets' marks' runs' chars' own' ins' era' old' kind' setOf' markOf' styleOf' many' text' : Nat → Int32), A = some (-1, nx, i1, -1, sv, nI ns, tv, nI nS, mp, nI nm, up, uc, nI nr, nI nc, bs) ∧ B = some (0, nI e, styles, sets', marks', runs', chars', base, own', ins', era', old', kind', setOf', markOf', styleOf', many', text', nI n, i2, -1) ∧
    GS e ns nS nm nr nc sets' marks' chars' tv mp up uc own' ins' era' old' kind' setOf' markOf' styleOf' many' text' ∧ nr ≤ 40 ∧ runs' e = nI nr ∧ RelS e ns sv bs base own') ∨
  (∃ (f : Nat) (nx i1 y1 y2 x1 x2 x3 x4 x5 : Int32) (tv mp up uc sv' bs' sets' marks' runs' chars' own' ins' era' old' kind' setOf' markOf' styleOf' many' text' : Nat → Int32), f ≤ n ∧ A = some (nI f, nx, i1, nI f, sv', x1, tv, x2, mp, x3, up, uc, x4, x5, bs') ∧ B = some (nI (f + 1), nI d, styles, sets', marks', runs', chars', base, own', ins', era', old', kind', setOf', markOf', styleOf', many', text', y1, y2, nI f) ∧
    KS e sets marks chars own ins era old kind setOf markOf styleOf many text sets' marks' chars' own' ins' era' old' kind' setOf' markOf' styleOf' many' text' ∧ Only e (e + 1) runs runs')
theorem ReadRes.step {ns : Nat} {sets marks runs chars own ins era old kind setOf markOf styleOf many text sets1 marks1 runs1 chars1 own1 ins1 era1 old1 kind1 setOf1 markOf1 styleOf1 many1 text1 : Nat → Int32} {A : Option (Int32 × Int32 × Int32 × Int32 × (Nat → Int32) × Int32 × (Nat → Int32) × Int32 × (Nat → Int32) × Int32 × (Nat → Int32) × (Nat → Int32) × Int32 × Int32 × (Nat → Int32))} {B : Option (Int32 × Int32 × (Nat → Int32) × (Nat → Int32) × (Nat → Int32) × (Nat → Int32) × (Nat → Int32) × (Nat → Int32) × (Nat → Int32) × (Nat → Int32) × (Nat → Int32) × (Nat → Int32) × (Nat → Int32) × (Nat → Int32) × (Nat → Int32) × (Nat → Int32) × (Nat → Int32) × (Nat → Int32) × Int32 × Int32 × Int32)}
    (hK : KS e sets marks chars own ins era old kind setOf markOf styleOf many text sets1 marks1 chars1 own1 ins1 era1 old1 kind1 setOf1 markOf1 styleOf1 many1 text1) (hR : Only e (e + 1) runs runs1) (h : ReadRes n d e ns styles base sets1 marks1 runs1 chars1 own1 ins1 era1 old1 kind1 setOf1 markOf1 styleOf1 many1 text1 sv bs A B) : ReadRes n d e ns styles base sets marks runs chars own ins era old kind setOf markOf styleOf many text sv bs A B := by
  rcases h with h | ⟨f, nx, i1, y1, y2, x1, x2, x3, x4, x5, tv, mp, up, uc, sv', bs', sets', marks', runs', chars', own', ins', era', old', kind', setOf', markOf', styleOf', many', text', h1, h2, h3, h4, h5⟩
  · exact Or.inl h
  · exact Or.inr ⟨f, nx, i1, y1, y2, x1, x2, x3, x4, x5, tv, mp, up, uc, sv', bs', sets', marks', runs', chars', own', ins', era', old', kind', setOf', markOf', styleOf', many', text', h1, h2, h3, hK.trans h4, hR.trans h5⟩
theorem r33_fail {f fu : Nat} {y2 y3 nx it most rows mrows srows rrows len smost : Int32} {vn svn : Nat} {tv mp up uc : Nat → Int32} (hf : f < 2147483648) (hfu : 1 ≤ fu) : l_R_read_33 N y2 oc (nI n) smost svn sv srows most vn bs fu y3 nx it (nI f) tv rows mp mrows up uc rrows len = some (nI f, nx, it, nI f, sv, srows, tv, rows, mp, mrows, up, uc, rrows, len, bs) := by
  obtain ⟨fu, rfl⟩ : ∃ z, fu = z + 1 := ⟨fu - 1, by omega⟩
  rw [l_R_read_33, rfail hf]
  simp only [Option.bind_some, if_neg q_10]
  split <;> rfl
theorem z53_fail {f fu : Nat} {y1 y2 y3 at_ it : Int32} {sets marks runs chars own ins era old kind setOf markOf styleOf many text : Nat → Int32} (hf : f < 2147483647) (hfu : 1 ≤ fu) : l_Z_open_53 N y1 y2 (nI n) fl (nI d) styles base fu y3 sets marks runs chars own ins era old kind setOf markOf styleOf many text at_ it (nI f) = some (nI (f + 1), nI d, styles, sets, marks, runs, chars, base, own, ins, era, old, kind, setOf, markOf, styleOf, many, text, at_, it, nI f) := by
  obtain ⟨fu, rfl⟩ : ∃ z, fu = z + 1 := ⟨fu - 1, by omega⟩
  rw [l_Z_open_53, z87_fail hf, if_pos (nI_pos' (show f < 2 ^ 31 by omega))]
  split <;> rfl
theorem RelS.only {ns : Nat} {own own' : Nat → Int32} (hns : ns ≤ 16) (h : RelS e ns sv bs base own) (ho : Only (960 * e + 384) (960 * e + 960) own own') : RelS e ns sv bs base own' := fun i hi => by
  obtain ⟨a, b, c⟩ := h i hi
  refine ⟨a, b, fun p hp => ?_⟩
  rw [ho _ (by omega)]
  exact c p hp
theorem read_loop {ns R : Nat} (hN : 600 ≤ N) (hn : n ≤ 6000) (hF : RelF n oc fl) (hB : Byt n oc bt) (he : e ≤ 1) (hns : ns ≤ 16) (hR : R ≤ 40) (h1 : styles e = nI ns) :
    ∀ (k i fu p nS nm nc : Nat) (i1 i2 : Int32) (tv mp up uc sets marks runs chars own ins era old kind setOf markOf styleOf many text : Nat → Int32), i + k = R → k + 1 < fu → p ≤ n → runs e = nI i → GS e ns nS nm i nc sets marks chars tv mp up uc own ins era old kind setOf markOf styleOf many text → RelS e ns sv bs base own →
    ReadRes n d e ns styles base sets marks runs chars own ins era old kind setOf markOf styleOf many text sv bs (l_R_read_33 N (nI R) oc (nI n) 16 384 sv (nI ns) 24 576 bs fu (nI i) (nI p) i1 (-1) tv (nI nS) mp (nI nm) up uc (nI i) (nI nc)) (l_Z_open_53 N (nI e) (nI R) (nI n) fl (nI d) styles base fu (nI i) sets marks runs chars own ins era old kind setOf markOf styleOf many text (nI p) i2 (-1)) := by
  intro k
  induction k with
  | zero =>
    intro i fu p nS nm nc i1 i2 tv mp up uc sets marks runs chars own ins era old kind setOf markOf styleOf many text hi hfu hp hr hG hS
    obtain ⟨fu, rfl⟩ : ∃ z, fu = z + 1 := ⟨fu - 1, by omega⟩
    rw [l_R_read_33, if_pos (nI_le (by omega) (by omega)), rok, l_Z_open_53, if_pos (nI_le (by omega) (by omega))]
    unfold r_O_size
    simp only [Option.bind_some, if_true]
    by_cases hpn : p = n
    · subst hpn
      rw [if_pos (nI_le (Nat.le_refl _) (by omega)), z87_ok hn]
      exact Or.inl ⟨nS, nm, i, nc, _, _, _, tv, mp, up, uc, sets, marks, runs, chars, own, ins, era, old, kind, setOf, markOf, styleOf, many, text, rfl, rfl, hG, by omega, hr, hS⟩
    · rw [if_neg (nI_ge (by omega) (by omega)), z87_more hn (by omega), show r_R_refuse (nI p) (-1) = some (-1, nI p) from rfl]
      exact Or.inr ⟨p, _, _, _, _, _, _, _, _, _, _, _, _, _, _, _, _, _, _, _, _, _, _, _, _, _, _, _, _, _, hp, rfl, rfl, KS.rfl, Only.rfl⟩
  | succ k ih =>
    intro i fu p nS nm nc i1 i2 tv mp up uc sets marks runs chars own ins era old kind setOf markOf styleOf many text hi hfu hp hr hG hS
    obtain ⟨fu, rfl⟩ : ∃ z, fu = z + 1 := ⟨fu - 1, by omega⟩
    rw [l_R_read_33, if_neg (nI_ge (by omega) (by omega)), rok, l_Z_open_53, if_neg (nI_ge (by omega) (by omega)), if_neg (show ¬ (0 : Int32) ≤ -1 by decide)]
    simp only [Option.bind_some, if_true]
    rcases run_rd (N := N) (e := e) (styles := styles) (i1 := i1) (i2 := i2) hN hn hF hB he hns (show i < 40 by omega) hp h1 hG with ⟨nS', nm', nc', p', j1, j2, tv', mp', up', uc', sets', marks', chars', own', ins', era', old', kind', setOf', markOf', styleOf', many', text', a1, a2, a3, a4, a5, a6⟩ | ⟨f, x1, x2, x3, x4, x5, x6, y1, y2, tv', mp', up', uc', sets', marks', chars', own', ins', era', old', kind', setOf', markOf', styleOf', many', text', a1, a2, a3, a4⟩
    · rw [a1, a2]
      simp only [Option.bind_some]
      rw [gi_n (by omega) (by decide), gi_n (by omega) (by decide), q_cl (by omega), hr, nI_1]
      exact ReadRes.step a4 (Only.one (by omega) (by omega)) (ih (i + 1) fu p' nS' nm' nc' j1 j2 tv' mp' up' uc' sets' marks' _ chars' own' ins' era' old' kind' setOf' markOf' styleOf' many' text' (by omega) (by omega) a6 (upd_s _ _ _) a3 (hS.only hns a4.2.2.2.1))
    · rw [a2, a3]
      simp only [Option.bind_some]
      rw [gi_n (by omega) (by decide), gi_n (by omega) (by decide), r33_fail (by omega) (by omega), z53_fail (by omega) (by omega), q_cl (by omega)]
      exact Or.inr ⟨f, _, _, _, _, _, _, _, _, _, _, _, _, _, _, _, _, _, _, _, _, _, _, _, _, _, _, _, _, _, a1, rfl, rfl, a4, Only.one (by omega) (by omega)⟩
end
