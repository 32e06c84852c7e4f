/-! pure: a mark is read on both sides -/
section
variable {N n : Nat} {oc fl : Nat → Int32} {bt : Nat → Nat}
theorem repM_loop {e a R nS : Nat} {tv mp ins era old : Nat → Int32} (hN : 50 ≤ N) (hnS : nS ≤ 24) (hR : R ≤ 24) (ha : a < R) (hM : RelM e R nS mp ins era old) : ∀ (k b fu : Nat), b + k = a → k < fu →
    ((∀ c, b ≤ c → c < a → ¬ Sk nS tv mp c a) → l_D_repeatsMark_2 N (nI a) 576 tv (nI nS) mp (nI R) fu (nI b) = some 0) ∧ ((∃ c, b ≤ c ∧ c < a ∧ Sk nS tv mp c a) → l_D_repeatsMark_2 N (nI a) 576 tv (nI nS) mp (nI R) fu (nI b) = some 1) := by
  intro k
  induction k with
  | zero =>
    intro b fu hb hf
    obtain ⟨fu, rfl⟩ : ∃ z, fu = z + 1 := ⟨fu - 1, by omega⟩
    refine ⟨fun _ => ?_, fun ⟨c, h1, h2, h3⟩ => by omega⟩
    rw [l_D_repeatsMark_2, if_pos (nI_le (by omega) (by omega))]
  | succ k ih =>
    intro b fu hb hf
    obtain ⟨fu, rfl⟩ : ∃ z, fu = z + 1 := ⟨fu - 1, by omega⟩
    obtain ⟨i1, i2⟩ := ih (b + 1) fu (by omega) (by omega)
    rw [l_D_repeatsMark_2, if_neg (nI_ge (by omega) (by omega)), nI_1]
    by_cases h : Sk nS tv mp b a
    · rw [smarksD_t (by omega) hnS hR (by omega) ha hM h]
      refine ⟨fun g => absurd h (g b (Nat.le_refl _) (by omega)), fun _ => rfl⟩
    · rw [smarksD_f (by omega) hnS hR (by omega) ha hM h]
      refine ⟨fun g => i1 (fun c h1 h2 => g c (by omega) h2), fun ⟨c, h1, h2, h3⟩ => i2 ⟨c, ?_, h2, h3⟩⟩
      by_cases e : c = b
      · subst e
        exact absurd h3 h
      · omega
theorem madd_t {nm : Nat} {a b o : Int32} {mp : Nat → Int32} (hnm : nm < 24) : r_M_add a b o mp (nI nm) = some (nI nm, upd (upd (upd mp (3 * nm) a) (3 * nm + 1) b) (3 * nm + 2) o, nI (nm + 1)) := by
  unfold r_M_add r_M_isFull
  rw [if_pos (show nI nm < 24 from nI_lt (b := 24) (by omega) (by decide))]
  simp only [Option.bind_some, if_true]
  rw [show (0 : Int32) = nI 0 from rfl, show (1 : Int32) = nI 1 from rfl, show (2 : Int32) = nI 2 from rfl, q_ix3, q_ix3, q_ix3, gi_n (by omega) (by decide), gi_n (by omega) (by decide), gi_n (by omega) (by decide), q_cl (by omega), q_cl (by omega), q_cl (by omega), nI_add, show nI (nm + 1) - nI 1 = nI nm from q_one]
  rfl
theorem RelM.add {e nm nS a b : Nat} {o : Int32} {mp ins era old : Nat → Int32} (hM : RelM e nm nS mp ins era old) (ha : a < 256) (hb : b < 256) (ho : bOK nS o) : RelM e (nm + 1) nS (upd (upd (upd mp (3 * nm) (nI a)) (3 * nm + 1) (nI b)) (3 * nm + 2) o) (upd ins (24 * e + nm) (nI a)) (upd era (24 * e + nm) (nI b)) (upd old (24 * e + nm) o) := by
  intro i hi
  by_cases e : i = nm
  · subst e
    refine ⟨?_, ?_, ?_, ⟨a, ha, ?_⟩, ⟨b, hb, ?_⟩, ?_⟩
    · rw [upd_n _ _ (by omega), upd_n _ _ (by omega), upd_s, upd_s]
    · rw [upd_n _ _ (by omega), upd_s, upd_s]
    · rw [upd_s, upd_s]
    · rw [upd_n _ _ (by omega), upd_n _ _ (by omega), upd_s]
    · rw [upd_n _ _ (by omega), upd_s]
    · rw [upd_s]; exact ho
  · have hu : ∀ k, k < 3 → upd (upd (upd mp (3 * nm) (nI a)) (3 * nm + 1) (nI b)) (3 * nm + 2) o (3 * i + k) = mp (3 * i + k) := fun k hk => by
      rw [upd_n _ _ (by omega), upd_n _ _ (by omega), upd_n _ _ (by omega)]
    have := hM i (by omega)
    rw [show 3 * i = 3 * i + 0 from rfl, hu 0 (by decide), hu 1 (by decide), hu 2 (by decide), upd_n _ _ (by omega), upd_n _ _ (by omega), upd_n _ _ (by omega)]
    exact this
def MarkRes (n p e nS nm : Nat) (sets marks own ins era old : Nat → Int32) (A : Option (Int32 × Int32 × Int32 × Int32 × (Nat → Int32) × Int32 × (Nat → Int32) × Int32)) (B : Option (Int32 × (Nat → Int32) × (Nat → Int32) × (Nat → Int32) × (Nat → Int32) × (Nat → Int32) × (Nat → Int32) × Int32 × Int32 × Int32)) : Prop :=
  (∃ (k nS' nm' p' : Nat) (i1 i2 : Int32) (tv' mp' sets' marks' own' ins' era' old' : Nat → Int32), A = some (nI k, nI p', i1, -1, tv', nI nS', mp', nI nm') ∧ B = some (nI k, sets', marks', own', ins', era', old', nI p', i2, -1) ∧ nS ≤ nS' ∧ nS' ≤ 24 ∧ nm ≤ nm' ∧ nm' ≤ 24 ∧ k < nm' ∧ sets' e = nI nS' ∧ marks' e = nI nm' ∧ RelT e nS' tv' own' ∧ RelM e nm' nS' mp' ins' era' old' ∧
    Only e (e + 1) sets sets' ∧ Only e (e + 1) marks marks' ∧ Only (960 * e + 384) (960 * e + 960) own own' ∧ Only (24 * e) (24 * e + 24) ins ins' ∧ Only (24 * e) (24 * e + 24) era era' ∧ Only (24 * e) (24 * e + 24) old old' ∧ p ≤ p' ∧ p' ≤ n) ∨
  (∃ (f : Nat) (x0 x1 x2 x3 x4 y0 y1 y2 : Int32) (tv' mp' sets' marks' own' ins' era' old' : Nat → Int32), f ≤ n ∧ A = some (x0, x1, x2, nI f, tv', x3, mp', x4) ∧ B = some (y0, sets', marks', own', ins', era', old', y1, y2, nI f) ∧
    Only e (e + 1) sets sets' ∧ Only e (e + 1) marks marks' ∧ Only (960 * e + 384) (960 * e + 960) own own' ∧ Only (24 * e) (24 * e + 24) ins ins' ∧ Only (24 * e) (24 * e + 24) era era' ∧ Only (24 * e) (24 * e + 24) old old')
theorem rs_fail {f vn : Nat} {h : Nat} {nx it : Int32} {most rows : Int32} {tv : Nat → Int32} (hf : f < 2147483648) (hh : h ≤ 1) : r_R_readSet N (nI h) oc (nI n) nx it (nI f) most vn tv rows = some (-1, nx, it, nI f, tv, rows) := by
  unfold r_R_readSet r_P_rows
  simp only [Option.bind_some]
  rw [rn_fail hf]
  simp only [Option.bind_some]
  rw [if_neg (show ¬ nI h ≤ -1 by rw [q_le, q_ti (by omega), q_m1]; omega)]
theorem rs_fail1 {f vn : Nat} {nx it : Int32} {most rows : Int32} {tv : Nat → Int32} (hf : f < 2147483648) : r_R_readSet N 1 oc (nI n) nx it (nI f) most vn tv rows = some (-1, nx, it, nI f, tv, rows) := rs_fail (h := 1) hf (by decide)
theorem rs_fail0 {f vn : Nat} {nx it : Int32} {most rows : Int32} {tv : Nat → Int32} (hf : f < 2147483648) : r_R_readSet N 0 oc (nI n) nx it (nI f) most vn tv rows = some (-1, nx, it, nI f, tv, rows) := rs_fail (h := 0) hf (by decide)
/-- the reference's end of a mark behind a fault -/
theorem z132_fail {f e nm : Nat} {y3 u0 at_ it : Int32} {sets marks own ins era old : Nat → Int32} (hf : f < 2147483648) (he : e ≤ 1) (hnm : nm < 24) : ∃ (marks' old' : Nat → Int32), j_Z_readMark_132 N (nI n) fl (nI e) y3 (nI nm) u0 (nI (24 * e + nm)) sets marks own ins era old at_ it (nI f) = some (nI nm, sets, marks', own, ins, era, old', at_, it, nI f) ∧ Only e (e + 1) marks marks' ∧ Only (24 * e) (24 * e + 24) old old' := by
  refine ⟨upd marks e (marks e + 1), upd old (24 * e + nm) (vp_nar .short u0.toInt16.toInt32), ?_, Only.one (by omega) (by omega), Only.one (by omega) (by omega)⟩
  · unfold j_Z_readMark_132
    rw [gi_n (by omega) (by decide), if_pos (nI_pos' hf), gi_n (by omega) (by decide), gi_n (by omega) (by decide), q_cl (by omega), q_cl (by omega)]
theorem mark_rd {p e nS nm : Nat} {i1 i2 : Int32} {tv mp sets marks own ins era old : Nat → Int32} (hN : 60 ≤ N) (hn : n ≤ 6000) (hF : RelF n oc fl) (hB : Byt n oc bt) (he : e ≤ 1) (hnS : nS ≤ 24) (hnm : nm ≤ 24) (hp : p ≤ n) (h2 : sets e = nI nS) (h3 : marks e = nI nm) (hT : RelT e nS tv own) (hM : RelM e nm nS mp ins era old) :
    MarkRes n p e nS nm sets marks own ins era old (r_R_readMark N oc (nI n) (nI p) i1 (-1) 24 576 tv (nI nS) mp (nI nm)) (r_Z_readMark N (nI e) (nI n) fl sets marks own ins era old (nI p) i2 (-1)) := by
  have c : (nI e).toNatClampNeg = e := q_cl (by omega)
  unfold r_R_readMark r_Z_readMark r_M_rows
  simp only [Option.bind_some]
  rcases rn_all (N := N) (lo := 0) (hi := nm) (it := i1) (by omega) hn hp hB (by omega) (by omega) with ⟨v, p', h4, -, h5, h6, h7, h8⟩ | ⟨h4, x, h5⟩
  · have h6' : r_R_readNumber N 0 (nI nm) oc (nI n) (nI p) i1 (-1) = some (nI v, nI p', nI p, -1) := h6
    rw [h6']
    rcases zn_all (N := N) (hi := 65535) (it := i2) (by omega) hn hp hF hB (by decide) with ⟨w, q, g1, g2, g3⟩ | ⟨g1, -⟩
    rotate_left
    · exact absurd (show v ≤ 65535 by omega) (g1 v p' h4)
    rw [h4] at g1
    cases g1
    have g3' : r_Z_readNumber N 65535 (nI n) fl (nI p) i2 (-1) = some (nI v, nI p', nI p, -1) := g3
    rw [g3']
    simp only [Option.bind_some]
    rw [gi_n (by omega) (by decide), c, h3, if_pos (nI_le h5 (by omega))]
    unfold j_Z_readMark_27
    by_cases hv : 0 < v
    · rw [if_neg (show ¬ nI v = 0 from fun a => by have := (nI_eq (b := 0) (by omega) (by decide)).mp a; omega), if_pos (show (0 : Int32) < nI v from nI_lt (a := 0) hv (by omega))]
      have e1 : nI v - 1 = nI (v - 1) := by
        obtain ⟨j, rfl⟩ : ∃ j, v = j + 1 := ⟨v - 1, by omega⟩
        rw [q_one, Nat.add_sub_cancel]
      rw [e1]
      exact Or.inl ⟨v - 1, nS, nm, p', _, _, tv, mp, sets, marks, own, ins, era, old, rfl, rfl, Nat.le_refl _, hnS, Nat.le_refl _, hnm, by omega, h2, h3, hT, hM, Only.rfl, Only.rfl, Only.rfl, Only.rfl, Only.rfl, Only.rfl, by omega, h8⟩
    obtain rfl : v = 0 := by omega
    rw [if_pos (show nI 0 = 0 from rfl), if_neg (show ¬ (0 : Int32) < nI 0 by decide), if_pos (show ((-1) : Int32) < 0 by decide), gi_n (by omega) (by decide), c, h3]
    by_cases hm : nm = 24
    · unfold r_M_isFull
      rw [if_neg (show ¬ nI nm < 24 by rw [hm]; decide), if_pos (show nI nm = 24 by rw [hm]; rfl)]
      exact Or.inr ⟨p, _, _, _, _, _, _, _, _, _, _, _, _, _, _, _, _, hp, rfl, rfl, Only.rfl, Only.rfl, Only.rfl, Only.rfl, Only.rfl, Only.rfl⟩
    rw [show r_M_isFull (nI nm) = some 0 by unfold r_M_isFull; rw [if_pos (show nI nm < 24 from nI_lt (b := 24) (by omega) (by decide))], if_neg (show ¬ nI nm = 24 from fun h => hm ((nI_eq (b := 24) (by omega) (by decide)).mp h))]
    simp only [Option.bind_some, if_true]
    rw [show (24 : Int32) * nI e + nI nm = nI (24 * e + nm) from q_iz 24 e nm]
    simp only [gi_n (show 24 * e + nm < 48 by omega) (show 48 < 2147483648 by decide), q_cl (show 24 * e + nm < 2147483648 by omega)]
    rcases num0 (N := N) (hi := 255) (it := nI p) (it2 := nI p) (by omega) hn h8 hF hB (by decide) with ⟨a, p2, a1, a2, a3, a4, a5⟩ | ⟨x, z, a4, a5⟩
    · have a4' : r_R_readNumber N 0 255 oc (nI n) (nI p') (nI p) (-1) = some (nI a, nI p2, nI p', -1) := a4
      have a5' : r_Z_readNumber N 255 (nI n) fl (nI p') (nI p) (-1) = some (nI a, nI p2, nI p', -1) := a5
      rw [a4', a5']
      simp only [Option.bind_some]
      rcases num0 (N := N) (hi := 255) (it := nI p') (it2 := nI p') (by omega) hn a3 hF hB (by decide) with ⟨b, p3, b1, b2, b3, b4, b5⟩ | ⟨x, z, b4, b5⟩
      · have b4' : r_R_readNumber N 0 255 oc (nI n) (nI p2) (nI p') (-1) = some (nI b, nI p3, nI p2, -1) := b4
        have b5' : r_Z_readNumber N 255 (nI n) fl (nI p2) (nI p') (-1) = some (nI b, nI p3, nI p2, -1) := b5
        rw [b4', b5']
        simp only [Option.bind_some]
        rw [if_neg (by decide)]
        rcases set_rd (N := N) (p := p3) (e := e) (nS := nS) (h := 1) (i1 := nI p2) (i2 := nI p2) (tv := tv) (sets := sets) (own := own) hN hn hF hB he (by decide) hnS b3 h2 hT with ⟨r, j1, j2, nS', p4, tv', sets', own', c1, c2, c3, c4, c5, c6, -, c7, c8, c9, c10, c11⟩ | ⟨f, x0, x1, x2, x3, y0, y1, y2, tv', sets', own', c1, c2, c3, c4, c5⟩
        · have c1' : r_R_readSet N 1 oc (nI n) (nI p3) (nI p2) (-1) 24 576 tv (nI nS) = some (r, nI p4, j1, -1, tv', nI nS') := c1
          have c2' : r_Z_readSet N (nI e) 1 (nI n) fl sets own (nI p3) (nI p2) (-1) = some (r, sets', own', nI p4, j2, -1) := c2
          rw [c1', c2']
          simp only [Option.bind_some]
          rw [rok]
          simp only [Option.bind_some, if_true]
          have hso : vp_nar .short r.toInt16.toInt32 = r := by
            rcases c7 with e | ⟨k, hk, e⟩
            · rw [e]; exact q_shmn
            · rw [e]; exact q_shn (by omega)
          rw [madd_t (show nm < 24 by omega), q_shn (show a < 513 by omega), q_shn (show b < 513 by omega)]
          simp only [Option.bind_some]
          unfold j_Z_readMark_132
          rw [gi_n (by omega) (by decide), if_neg (by decide), hso, q_cl (show 24 * e + nm < 2147483648 by omega)]
          have hM' := (hM.mono c3).add (a := a) (b := b) (o := r) (by omega) (by omega) c7
          obtain ⟨m, k1, k2⟩ := firstMark_t (N := N) (a := nm) (by omega) he c4 (show nm + 1 ≤ 24 by omega) (by omega) c6 hM'
          rw [k2]
          simp only [Option.bind_some, gi_n (show e < 2 by omega) (show 2 < 2147483648 by decide), c, h3, nI_1]
          obtain ⟨l1, l2⟩ := repM_loop (N := N) (tv := tv') (by omega) c4 (show nm + 1 ≤ 24 by omega) (show nm < nm + 1 by omega) hM' nm 0 N (by omega) (by omega)
          by_cases hm2 : m = nm
          · rw [if_pos (nI_le (by omega) (by omega))]
            unfold r_D_repeatsMark
            rw [show (0 : Int32) = nI 0 from rfl, l1 (fun b _ hb hs => k1.2.2 b (by omega) hs.symm)]
            simp only [Option.bind_some, if_true]
            refine Or.inl ⟨nm, nS', nm + 1, p4, j1, j2, tv', _, sets', upd marks e (nI (nm + 1)), own', _, _, _, rfl, rfl, c3, c4, by omega, by omega, by omega, c5, upd_s _ _ _, c6, hM', c8, Only.one (by omega) (by omega), c9, Only.one (by omega) (by omega), Only.one (by omega) (by omega), Only.one (by omega) (by omega), by omega, c11⟩
          · have hm3 := k1.1
            rw [if_neg (nI_ge (by omega) (by omega)), zw_m]
            unfold r_D_repeatsMark
            rw [show (0 : Int32) = nI 0 from rfl, l2 ⟨m, Nat.zero_le _, by omega, k1.2.1.symm⟩]
            simp only [Option.bind_some]
            rw [if_neg (show ¬ (1 : Int32) = nI 0 by decide)]
            exact Or.inr ⟨p, _, _, _, _, _, _, _, _, _, _, _, _, _, _, _, _, hp, rfl, rfl, c8, Only.one (by omega) (by omega), c9, Only.one (by omega) (by omega), Only.one (by omega) (by omega), Only.one (by omega) (by omega)⟩
        · have c2' : r_R_readSet N 1 oc (nI n) (nI p3) (nI p2) (-1) 24 576 tv (nI nS) = some (x0, x1, x2, nI f, tv', x3) := c2
          have c3' : r_Z_readSet N (nI e) 1 (nI n) fl sets own (nI p3) (nI p2) (-1) = some (y0, sets', own', y1, y2, nI f) := c3
          rw [c2', c3']
          simp only [Option.bind_some]
          rw [rfail (by omega)]
          simp only [Option.bind_some]
          rw [if_neg q_10]
          obtain ⟨marks', old', d1, d2, d3⟩ := z132_fail (N := N) (n := n) (fl := fl) (f := f) (e := e) (nm := nm) (y3 := nI p) (u0 := y0) (at_ := y1) (it := y2) (sets := sets') (marks := marks) (own := own') (ins := upd ins (24 * e + nm) (vp_nar .short (nI a).toInt16.toInt32)) (era := upd era (24 * e + nm) (vp_nar .short (nI b).toInt16.toInt32)) (old := old) (by omega) he (by omega)
          rw [d1]
          exact Or.inr ⟨f, _, _, _, _, _, _, _, _, _, _, _, _, _, _, _, _, c1, rfl, rfl, c4, d2, c5, Only.one (by omega) (by omega), Only.one (by omega) (by omega), d3⟩
      · have b4' : r_R_readNumber N 0 255 oc (nI n) (nI p2) (nI p') (-1) = some (-1, x, nI p2, nI p2) := b4
        have b5' : r_Z_readNumber N 255 (nI n) fl (nI p2) (nI p') (-1) = some (0, z, nI p2, nI p2) := b5
        rw [b4', b5']
        simp only [Option.bind_some]
        rw [if_pos (nI_pos' (show p2 < 2 ^ 31 by omega)), rs_fail1 (by omega)]
        simp only [Option.bind_some]
        rw [rfail (by omega)]
        simp only [Option.bind_some]
        rw [if_neg q_10]
        obtain ⟨marks', old', d1, d2, d3⟩ := z132_fail (N := N) (n := n) (fl := fl) (f := p2) (e := e) (nm := nm) (y3 := nI p) (u0 := -1) (at_ := z) (it := nI p2) (sets := sets) (marks := marks) (own := own) (ins := upd ins (24 * e + nm) (vp_nar .short (nI a).toInt16.toInt32)) (era := upd era (24 * e + nm) (vp_nar .short (0 : Int32).toInt16.toInt32)) (old := old) (by omega) he (by omega)
        rw [d1]
        exact Or.inr ⟨p2, _, _, _, _, _, _, _, _, _, _, _, _, _, _, _, _, a3, rfl, rfl, Only.rfl, d2, Only.rfl, Only.one (by omega) (by omega), Only.one (by omega) (by omega), d3⟩
    · have a4' : r_R_readNumber N 0 255 oc (nI n) (nI p') (nI p) (-1) = some (-1, x, nI p', nI p') := a4
      have a5' : r_Z_readNumber N 255 (nI n) fl (nI p') (nI p) (-1) = some (0, z, nI p', nI p') := a5
      rw [a4', a5']
      simp only [Option.bind_some]
      rw [rn_fail (by omega), zn_fail (by omega)]
      simp only [Option.bind_some]
      rw [if_pos (nI_pos' (show p' < 2 ^ 31 by omega)), rs_fail1 (by omega)]
      simp only [Option.bind_some]
      rw [rfail (by omega)]
      simp only [Option.bind_some]
      rw [if_neg q_10]
      obtain ⟨marks', old', d1, d2, d3⟩ := z132_fail (N := N) (n := n) (fl := fl) (f := p') (e := e) (nm := nm) (y3 := nI p) (u0 := -1) (at_ := z) (it := nI p') (sets := sets) (marks := marks) (own := own) (ins := upd ins (24 * e + nm) (vp_nar .short (0 : Int32).toInt16.toInt32)) (era := upd era (24 * e + nm) (vp_nar .short (0 : Int32).toInt16.toInt32)) (old := old) (by omega) he (by omega)
      rw [d1]
      exact Or.inr ⟨p', _, _, _, _, _, _, _, _, _, _, _, _, _, _, _, _, h8, rfl, rfl, Only.rfl, d2, Only.rfl, Only.one (by omega) (by omega), Only.one (by omega) (by omega), d3⟩
  · have h5' : r_R_readNumber N 0 (nI nm) oc (nI n) (nI p) i1 (-1) = some (-1, x, nI p, nI p) := h5
    rw [h5']
    simp only [Option.bind_some]
    rw [if_neg (show ¬ ((-1) : Int32) = 0 by decide)]
    refine Or.inr ⟨p, (-1) - 1, x, nI p, nI nS, nI nm, ?_⟩
    rcases zn_all (N := N) (hi := 65535) (it := i2) (by omega) hn hp hF hB (by decide) with ⟨w, q, g1, g2, g3⟩ | ⟨g1, y, g3⟩
    · have g3' : r_Z_readNumber N 65535 (nI n) fl (nI p) i2 (-1) = some (nI w, nI q, nI p, -1) := g3
      have hw : nm < w := by
        have := h4 w q g1
        omega
      rw [g3']
      simp only [Option.bind_some]
      rw [gi_n (by omega) (by decide), c, h3, if_neg (nI_ge hw (by omega)), zw_m]
      simp only [Option.bind_some]
      unfold j_Z_readMark_27
      rw [if_pos (show (0 : Int32) < nI w from nI_lt (a := 0) (by omega) (by omega))]
      exact ⟨_, _, _, _, _, _, _, _, _, _, _, hp, rfl, rfl, Only.rfl, Only.rfl, Only.rfl, Only.rfl, Only.rfl, Only.rfl⟩
    · have g3' : r_Z_readNumber N 65535 (nI n) fl (nI p) i2 (-1) = some (0, y, nI p, nI p) := g3
      rw [g3']
      simp only [Option.bind_some]
      rw [gi_n (by omega) (by decide), c, h3, if_pos (show (0 : Int32) ≤ nI nm from nI_le (a := 0) (Nat.zero_le _) (by omega))]
      unfold j_Z_readMark_27
      rw [if_neg (show ¬ (0 : Int32) < 0 by decide), if_neg (nI_pos (show p < 2 ^ 31 by omega))]
      exact ⟨_, _, _, _, _, _, _, _, _, _, _, hp, rfl, rfl, Only.rfl, Only.rfl, Only.rfl, Only.rfl, Only.rfl, Only.rfl⟩
end
