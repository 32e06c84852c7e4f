/-! pure: a run is read on both sides -/
def GS (e ns nS nm nr nc : Nat) (sets marks chars tv mp up uc own ins era old kind setOf markOf styleOf many text : Nat → Int32) : Prop :=
  nS ≤ 24 ∧ nm ≤ 24 ∧ nc ≤ 512 ∧ sets e = nI nS ∧ marks e = nI nm ∧ chars e = nI nc ∧ RelT e nS tv own ∧ RelM e nm nS mp ins era old ∧ RelU e nr nc nm nS ns up uc kind setOf markOf styleOf many text
def KS (e : Nat) (sets marks chars own ins era old kind setOf markOf styleOf many text sets' marks' chars' own' ins' era' old' kind' setOf' markOf' styleOf' many' text' : Nat → Int32) : Prop :=
  Only e (e + 1) sets sets' ∧ Only e (e + 1) marks marks' ∧ Only e (e + 1) chars chars' ∧ Only (960 * e + 384) (960 * e + 960) own own' ∧ Only (24 * e) (24 * e + 24) ins ins' ∧ Only (24 * e) (24 * e + 24) era era' ∧ Only (24 * e) (24 * e + 24) old old' ∧
  Only (40 * e) (40 * e + 40) kind kind' ∧ Only (40 * e) (40 * e + 40) setOf setOf' ∧ Only (40 * e) (40 * e + 40) markOf markOf' ∧ Only (40 * e) (40 * e + 40) styleOf styleOf' ∧ Only (40 * e) (40 * e + 40) many many' ∧ Only (512 * e) (512 * e + 512) text text'
section
variable {N n e : Nat} {oc fl : Nat → Int32} {bt : Nat → Nat} {styles sets marks chars own ins era old kind setOf markOf styleOf many text : Nat → Int32}
theorem KS.trans {s1 m1 c1 o1 i1 r1 l1 k1 t1 a1 y1 n1 x1 s2 m2 c2 o2 i2 r2 l2 k2 t2 a2 y2 n2 x2 : Nat → Int32} (h : KS e sets marks chars own ins era old kind setOf markOf styleOf many text s1 m1 c1 o1 i1 r1 l1 k1 t1 a1 y1 n1 x1) (g : KS e s1 m1 c1 o1 i1 r1 l1 k1 t1 a1 y1 n1 x1 s2 m2 c2 o2 i2 r2 l2 k2 t2 a2 y2 n2 x2) : KS e sets marks chars own ins era old kind setOf markOf styleOf many text s2 m2 c2 o2 i2 r2 l2 k2 t2 a2 y2 n2 x2 := by
  obtain ⟨h1, h2, h3, h4, h5, h6, h7, h8, h9, h10, h11, h12, h13⟩ := h
  obtain ⟨g1, g2, g3, g4, g5, g6, g7, g8, g9, g10, g11, g12, g13⟩ := g
  exact ⟨h1.trans g1, h2.trans g2, h3.trans g3, h4.trans g4, h5.trans g5, h6.trans g6, h7.trans g7, h8.trans g8, h9.trans g9, h10.trans g10, h11.trans g11, h12.trans g12, h13.trans g13⟩
theorem KS.rfl : KS e sets marks chars own ins era old kind setOf markOf styleOf many text sets marks chars own ins era old kind setOf markOf styleOf many text := ⟨Only.rfl, Only.rfl, Only.rfl, Only.rfl, Only.rfl, Only.rfl, Only.rfl, Only.rfl, Only.rfl, Only.rfl, Only.rfl, Only.rfl, Only.rfl⟩
/-- behind a fault the class's run stays as it is -/
theorem rm_fail {f vn : Nat} {nx it most rows mrows : Int32} {tv mp : Nat → Int32} (hf : f < 2147483648) : r_R_readMark N oc (nI n) nx it (nI f) most vn tv rows mp mrows = some ((-1) - 1, nx, it, nI f, tv, rows, mp, mrows) := by
  unfold r_R_readMark r_M_rows
  simp only [Option.bind_some]
  rw [rn_fail hf]
  simp only [Option.bind_some]
  rw [if_neg (show ¬ ((-1) : Int32) = 0 by decide)]
theorem r35_fail {f vn : Nat} {nx it most rows mrows srows rrows len y2 y3 u0 : Int32} {tv mp up uc : Nat → Int32} (hf : f < 2147483648) : j_R_readRun_35 N oc (nI n) srows most vn y2 y3 u0 nx it (nI f) tv rows mp mrows up uc rrows len = some (nx, it, nI f, tv, rows, mp, mrows, up, uc, rrows, len) := by
  unfold j_R_readRun_35
  rw [rs_fail0 hf]
  simp only [Option.bind_some]
  rw [rm_fail hf]
  simp only [Option.bind_some]
  rw [rfail hf]
  rfl
theorem rch_fail {f : Nat} {k nx it rows len : Int32} {up uc : Nat → Int32} (hN : 1 ≤ N) (hf : f < 2147483648) : r_R_readCharacters N k oc (nI n) nx it (nI f) up uc rows len = some (nx, it, nI f, up, uc, len) := by
  unfold r_R_readCharacters r_U_length
  simp only [Option.bind_some]
  rw [rn_fail hf]
  simp only [Option.bind_some]
  exact rc_fail hf hN
/-- behind a fault the reference's run changes its own half alone -/
theorem z70_fail {f r : Nat} {y3 y4 y5 y6 u0 at_ it : Int32} (hN : 1 ≤ N) (he : e ≤ 1) (hr : r < 40) (hf : f < 2147483648) : ∃ (chars' kind' setOf' markOf' styleOf' many' : Nat → Int32), j_Z_readRun_70 N (nI n) fl styles (nI e) (nI r) y3 y4 y5 y6 u0 sets marks chars own ins era old kind setOf markOf styleOf many text at_ it (nI f) = some (sets, marks, chars', own, ins, era, old, kind', setOf', markOf', styleOf', many', text, at_, it, nI f) ∧
    KS e sets marks chars own ins era old kind setOf markOf styleOf many text sets marks chars' own ins era old kind' setOf' markOf' styleOf' many' text := by
  unfold j_Z_readRun_70
  rw [show (40 : Int32) * nI e + nI r = nI (40 * e + r) from q_iz 40 e r]
  simp only [gi_n (show 40 * e + r < 80 by omega) (show 80 < 2147483648 by decide), q_cl (show 40 * e + r < 2147483648 by omega)]
  rw [if_pos (nI_pos' hf)]
  obtain ⟨chars', h1, h2⟩ := z148_fail (N := N) (n := n) (fl := fl) (e := e) (f := f) (x := 40 * e + r) (y3 := y3) (at_ := at_) (it := it) (styles := styles) (sets := sets) (marks := marks) (chars := chars) (own := own) (ins := ins) (era := era) (old := old) (kind := upd kind (40 * e + r) (vp_nar .short y3.toInt16.toInt32)) (setOf := upd setOf (40 * e + r) (vp_nar .short y6.toInt16.toInt32)) (markOf := upd markOf (40 * e + r) (vp_nar .short u0.toInt16.toInt32)) (styleOf := upd styleOf (40 * e + r) (vp_nar .short y5.toInt16.toInt32)) (many := many) (text := text) hN he (by omega) hf
  rw [h1]
  exact ⟨_, _, _, _, _, _, rfl, Only.rfl, Only.rfl, h2, Only.rfl, Only.rfl, Only.rfl, Only.rfl, Only.one (by omega) (by omega), Only.one (by omega) (by omega), Only.one (by omega) (by omega), Only.one (by omega) (by omega), Only.one (by omega) (by omega), Only.rfl⟩
theorem z33_fail {f r : Nat} {y3 y4 u0 at_ it : Int32} (hN : 1 ≤ N) (he : e ≤ 1) (hr : r < 40) (hf : f < 2147483648) : ∃ (chars' kind' setOf' markOf' styleOf' many' : Nat → Int32), j_Z_readRun_33 N (nI n) fl styles (nI e) (nI r) y3 y4 u0 sets marks chars own ins era old kind setOf markOf styleOf many text at_ it (nI f) = some (sets, marks, chars', own, ins, era, old, kind', setOf', markOf', styleOf', many', text, at_, it, nI f) ∧
    KS e sets marks chars own ins era old kind setOf markOf styleOf many text sets marks chars' own ins era old kind' setOf' markOf' styleOf' many' text := by
  unfold j_Z_readRun_33
  rw [if_pos (nI_pos' hf), if_pos (nI_pos' hf)]
  exact z70_fail hN he hr hf
def RunRes (n p e ns nS nm nr nc : Nat) (sets marks chars own ins era old kind setOf markOf styleOf many text : Nat → Int32) (A : Option (Int32 × Int32 × Int32 × (Nat → Int32) × Int32 × (Nat → Int32) × Int32 × (Nat → Int32) × (Nat → Int32) × Int32 × Int32)) (B : Option ((Nat → Int32) × (Nat → Int32) × (Nat → Int32) × (Nat → Int32) × (Nat → Int32) × (Nat → Int32) × (Nat → Int32) × (Nat → Int32) × (Nat → Int32) × (Nat → Int32) × (Nat → Int32) × (Nat → Int32) × (Nat → Int32) × Int32 × Int32 × Int32)) : Prop :=
  (∃ (nS' nm' nc' p' : Nat) (i1 i2 : Int32) (tv' mp' up' uc' sets' marks' chars' own' ins' era' old' kind' setOf' markOf' styleOf' many' text' : Nat → Int32), A = some (nI p', i1, -1, tv', nI nS', mp', nI nm', up', uc', nI (nr + 1), nI nc') ∧ B = some (sets', marks', chars', own', ins', era', old', kind', setOf', markOf', styleOf', many', text', nI p', i2, -1) ∧
    GS e ns nS' nm' (nr + 1) nc' sets' marks' chars' tv' mp' up' uc' own' ins' era' old' kind' setOf' markOf' styleOf' many' text' ∧ KS e sets marks chars own ins era old kind setOf markOf styleOf many text sets' marks' chars' own' ins' era' old' kind' setOf' markOf' styleOf' many' text' ∧ p ≤ p' ∧ p' ≤ n) ∨
  (∃ (f : Nat) (x1 x2 x3 x4 x5 x6 y1 y2 : Int32) (tv' mp' up' uc' sets' marks' chars' own' ins' era' old' kind' setOf' markOf' styleOf' many' text' : Nat → Int32), f ≤ n ∧ A = some (x1, x2, nI f, tv', x3, mp', x4, up', uc', x5, x6) ∧ B = some (sets', marks', chars', own', ins', era', old', kind', setOf', markOf', styleOf', many', text', y1, y2, nI f) ∧
    KS e sets marks chars own ins era old kind setOf markOf styleOf many text sets' marks' chars' own' ins' era' old' kind' setOf' markOf' styleOf' many' text')
/-- the rest of a run behind its kind and style -/
theorem run35 {ns nS nm nr nc p q kk : Nat} {st i1 i2 : Int32} {tv mp up uc : Nat → Int32} (hN : 600 ≤ N) (hn : n ≤ 6000) (hF : RelF n oc fl) (hB : Byt n oc bt) (he : e ≤ 1) (hns : ns ≤ 16) (hnr : nr < 40) (hp : p ≤ n) (hpq : p ≤ q) (hq : q ≤ n) (hk : kk ≤ 1) (hst : bOK ns st)
    (hG : GS e ns nS nm nr nc sets marks chars tv mp up uc own ins era old kind setOf markOf styleOf many text) :
    RunRes n p e ns nS nm nr nc sets marks chars own ins era old kind setOf markOf styleOf many text (j_R_readRun_35 N oc (nI n) (nI ns) 24 576 (nI p) (nI kk) st (nI q) i1 (-1) tv (nI nS) mp (nI nm) up uc (nI nr) (nI nc)) (j_Z_readRun_33 N (nI n) fl styles (nI e) (nI nr) (nI kk) (nI p) st sets marks chars own ins era old kind setOf markOf styleOf many text (nI q) i2 (-1)) := by
  obtain ⟨hnS, hnm, hnc, hs, hm, hc, hT, hM, hU⟩ := hG
  unfold j_R_readRun_35 j_Z_readRun_33
  rw [if_neg (show ¬ (0 : Int32) ≤ -1 by decide)]
  rcases set_rd (N := N) (p := q) (e := e) (nS := nS) (h := 0) (i1 := i1) (i2 := i2) (tv := tv) (sets := sets) (own := own) (by omega) hn hF hB he (by decide) hnS hq hs hT with ⟨r, j1, j2, nS1, p1, tv1, sets1, own1, a1, a2, a3, a4, a5, a6, a7, -, a8, a9, a10, a11⟩ | ⟨f, x0, x1, x2, x3, y0, y1, y2, tv1, sets1, own1, a1, a2, a3, a4, a5⟩
  rotate_left
  · have a2' : r_R_readSet N 0 oc (nI n) (nI q) i1 (-1) 24 576 tv (nI nS) = some (x0, x1, x2, nI f, tv1, x3) := a2
    have a3' : r_Z_readSet N (nI e) 0 (nI n) fl sets own (nI q) i2 (-1) = some (y0, sets1, own1, y1, y2, nI f) := a3
    rw [a2', a3']
    simp only [Option.bind_some]
    rw [rm_fail (by omega), if_pos (nI_pos' (show f < 2 ^ 31 by omega))]
    simp only [Option.bind_some]
    rw [rfail (by omega)]
    simp only [Option.bind_some]
    rw [if_neg q_10]
    obtain ⟨c', k', s', m', t', n', b1, b2⟩ := z70_fail (N := N) (n := n) (fl := fl) (e := e) (f := f) (r := nr) (y3 := nI kk) (y4 := nI p) (y5 := st) (y6 := y0) (u0 := 0) (at_ := y1) (it := y2) (styles := styles) (sets := sets1) (marks := marks) (chars := chars) (own := own1) (ins := ins) (era := era) (old := old) (kind := kind) (setOf := setOf) (markOf := markOf) (styleOf := styleOf) (many := many) (text := text) (by omega) he hnr (by omega)
    rw [b1]
    refine Or.inr ⟨f, _, _, _, _, _, _, _, _, _, _, _, _, _, _, _, _, _, _, _, _, _, _, _, _, _, a1, rfl, rfl, KS.trans ?_ b2⟩
    exact ⟨a4, Only.rfl, Only.rfl, a5, Only.rfl, Only.rfl, Only.rfl, Only.rfl, Only.rfl, Only.rfl, Only.rfl, Only.rfl, Only.rfl⟩
  have a1' : r_R_readSet N 0 oc (nI n) (nI q) i1 (-1) 24 576 tv (nI nS) = some (r, nI p1, j1, -1, tv1, nI nS1) := a1
  have a2' : r_Z_readSet N (nI e) 0 (nI n) fl sets own (nI q) i2 (-1) = some (r, sets1, own1, nI p1, j2, -1) := a2
  rw [a1', a2']
  simp only [Option.bind_some]
  rw [if_neg (show ¬ (0 : Int32) ≤ -1 by decide)]
  obtain ⟨s, hs1, rfl⟩ := a7 rfl
  rcases mark_rd (N := N) (p := p1) (e := e) (nS := nS1) (nm := nm) (i1 := j1) (i2 := j2) (tv := tv1) (mp := mp) (sets := sets1) (marks := marks) (own := own1) (ins := ins) (era := era) (old := old) (by omega) hn hF hB he a4 hnm a11 a5 hm a6 (hM.mono a3) with ⟨m, nS2, nm2, p2, j3, j4, tv2, mp2, sets2, marks2, own2, ins2, era2, old2, b1, b2, b3, b4, b5, b6, b7, b8, b9, b10, b11, b12, b13, b14, b15, b16, b17, b18, b19⟩ | ⟨f, x0, x1, x2, x3, x4, y0, y1, y2, tv2, mp2, sets2, marks2, own2, ins2, era2, old2, b1, b2, b3, b4, b5, b6, b7, b8, b9⟩
  rotate_left
  · rw [b2, b3]
    simp only [Option.bind_some]
    rw [rfail (by omega)]
    simp only [Option.bind_some]
    rw [if_neg q_10]
    obtain ⟨c', k', s', m', t', n', d1, d2⟩ := z70_fail (N := N) (n := n) (fl := fl) (e := e) (f := f) (r := nr) (y3 := nI kk) (y4 := nI p) (y5 := st) (y6 := nI s) (u0 := y0) (at_ := y1) (it := y2) (styles := styles) (sets := sets2) (marks := marks2) (chars := chars) (own := own2) (ins := ins2) (era := era2) (old := old2) (kind := kind) (setOf := setOf) (markOf := markOf) (styleOf := styleOf) (many := many) (text := text) (by omega) he hnr (by omega)
    rw [d1]
    refine Or.inr ⟨f, _, _, _, _, _, _, _, _, _, _, _, _, _, _, _, _, _, _, _, _, _, _, _, _, _, b1, rfl, rfl, KS.trans ?_ d2⟩
    exact ⟨a8.trans b4, b5, Only.rfl, a9.trans b6, b7, b8, b9, Only.rfl, Only.rfl, Only.rfl, Only.rfl, Only.rfl, Only.rfl⟩
  rw [b1, b2]
  simp only [Option.bind_some]
  rw [rok]
  simp only [Option.bind_some, if_true]
  obtain ⟨g, g1, g2, g3, g4, g5, g6, g7, g8⟩ := begin_t (k := nI kk) (q := st) (s := nI s) (m := nI m) (r := nr) (nc := nc) (f := up) hnr
  rw [g1]
  simp only [Option.bind_some]
  have hst' : vp_nar .short st.toInt16.toInt32 = st := by
    rcases hst with e | ⟨k, hk, e⟩
    · rw [e]; exact q_shmn
    · rw [e]; exact q_shn (by omega)
  unfold j_Z_readRun_70
  rw [show (40 : Int32) * nI e + nI nr = nI (40 * e + nr) from q_iz 40 e nr]
  simp only [gi_n (show 40 * e + nr < 80 by omega) (show 80 < 2147483648 by decide), q_cl (show 40 * e + nr < 2147483648 by omega), q_shn (show kk < 513 by omega), q_shn (show s < 513 by omega), q_shn (show m < 513 by omega), hst']
  rw [if_neg (show ¬ (0 : Int32) ≤ -1 by decide)]
  have hU2 := hU.mono b5 (show nS ≤ nS2 by omega) (Nat.le_refl ns)
  have hA : ∀ i, i < nr + 1 → RunW e nS2 nm2 g (upd kind (40 * e + nr) (nI kk)) (upd setOf (40 * e + nr) (nI s)) (upd markOf (40 * e + nr) (nI m)) (upd styleOf (40 * e + nr) st) i := by
    intro i hi
    by_cases ei : i = nr
    · subst ei
      refine ⟨trivial, ?_, trivial, ?_, ⟨s, by omega, g4⟩, ?_, ⟨m, b7, g5⟩, ?_, trivial⟩
      · rw [g3, upd_s]
      · rw [g4, upd_s]
      · rw [g5, upd_s]
      · rw [g6, upd_s]
    · obtain ⟨ln, -, hb, -⟩ := hU2
      obtain ⟨-, c2, -, c4, c5, c6, c7, c8, -⟩ := hb i (by omega)
      refine ⟨trivial, ?_, trivial, ?_, ?_, ?_, ?_, ?_, trivial⟩
      · rw [g2 _ (by omega), upd_n _ _ (by omega)]; exact c2
      · rw [g2 _ (by omega), upd_n _ _ (by omega)]; exact c4
      · rw [g2 _ (by omega)]; exact c5
      · rw [g2 _ (by omega), upd_n _ _ (by omega)]; exact c6
      · rw [g2 _ (by omega)]; exact c7
      · rw [g2 _ (by omega), upd_n _ _ (by omega)]; exact c8
  have hKS : KS e sets marks chars own ins era old kind setOf markOf styleOf many text sets2 marks2 chars own2 ins2 era2 old2 (upd kind (40 * e + nr) (nI kk)) (upd setOf (40 * e + nr) (nI s)) (upd markOf (40 * e + nr) (nI m)) (upd styleOf (40 * e + nr) st) many text :=
    ⟨a8.trans b12, b13, Only.rfl, a9.trans b14, b15, b16, b17, Only.one (by omega) (by omega), Only.one (by omega) (by omega), Only.one (by omega) (by omega), Only.one (by omega) (by omega), Only.rfl, Only.rfl⟩
  -- the two roads: the run goes on with the one before it, or not
  have road : (r_D_goesOn N (nI nr) 576 tv2 (nI nS2) mp2 (nI nm2) g (nI (nr + 1)) = some 0 ∧ (nr = 0 ∨ r_Z_sameRuns N (nI e) (nI nr - 1) (nI nr) own2 ins2 era2 old2 (upd kind (40 * e + nr) (nI kk)) (upd setOf (40 * e + nr) (nI s)) (upd markOf (40 * e + nr) (nI m)) (upd styleOf (40 * e + nr) st) = some 0)) ∨
      (r_D_goesOn N (nI nr) 576 tv2 (nI nS2) mp2 (nI nm2) g (nI (nr + 1)) = some 1 ∧ nr ≠ 0 ∧ r_Z_sameRuns N (nI e) (nI nr - 1) (nI nr) own2 ins2 era2 old2 (upd kind (40 * e + nr) (nI kk)) (upd setOf (40 * e + nr) (nI s)) (upd markOf (40 * e + nr) (nI m)) (upd styleOf (40 * e + nr) st) = some 1) := by
    by_cases h0 : nr = 0
    · subst h0
      exact Or.inl ⟨goesOn_0, Or.inl rfl⟩
    · obtain ⟨i, rfl⟩ : ∃ i, nr = i + 1 := ⟨nr - 1, by omega⟩
      rw [q_one]
      by_cases hsr : Sr nS2 nm2 tv2 mp2 g i (i + 1)
      · exact Or.inr ⟨goesOn_t (ln := fun _ => 0) (by omega) b4 b6 (by omega) (by omega) b11 hsr, h0, sruns_wt (by omega) he b4 b6 (show i + 1 + 1 ≤ 40 by omega) (by omega) (by omega) b10 b11 hA hsr⟩
      · exact Or.inl ⟨goesOn_w (by omega) b4 b6 (by omega) (by omega) b11 hA hsr, Or.inr (sruns_wf (by omega) he b4 b6 (show i + 1 + 1 ≤ 40 by omega) (by omega) (by omega) b10 b11 hA hsr)⟩
  rcases road with ⟨w1, w2⟩ | ⟨w1, w2, w3⟩
  · rw [w1]
    simp only [Option.bind_some, if_true]
    have hz : (if nI nr ≤ 0 then j_Z_readRun_148 N (nI n) fl styles (nI e) (nI kk) (nI (40 * e + nr)) sets2 marks2 chars own2 ins2 era2 old2 (upd kind (40 * e + nr) (nI kk)) (upd setOf (40 * e + nr) (nI s)) (upd markOf (40 * e + nr) (nI m)) (upd styleOf (40 * e + nr) st) many text (nI p2) j4 (-1) else
        (r_Z_sameRuns N (nI e) (nI nr - 1) (nI nr) own2 ins2 era2 old2 (upd kind (40 * e + nr) (nI kk)) (upd setOf (40 * e + nr) (nI s)) (upd markOf (40 * e + nr) (nI m)) (upd styleOf (40 * e + nr) st)).bind (fun z71 => (if z71 = 0 then j_Z_readRun_148 N (nI n) fl styles (nI e) (nI kk) (nI (40 * e + nr)) sets2 marks2 chars own2 ins2 era2 old2 (upd kind (40 * e + nr) (nI kk)) (upd setOf (40 * e + nr) (nI s)) (upd markOf (40 * e + nr) (nI m)) (upd styleOf (40 * e + nr) st) many text (nI p2) j4 (-1) else
          (r_Z_wrong (nI p) (-1)).bind (fun z73 => j_Z_readRun_148 N (nI n) fl styles (nI e) (nI kk) (nI (40 * e + nr)) sets2 marks2 chars own2 ins2 era2 old2 (upd kind (40 * e + nr) (nI kk)) (upd setOf (40 * e + nr) (nI s)) (upd markOf (40 * e + nr) (nI m)) (upd styleOf (40 * e + nr) st) many text (nI p2) j4 z73)))) =
        j_Z_readRun_148 N (nI n) fl styles (nI e) (nI kk) (nI (40 * e + nr)) sets2 marks2 chars own2 ins2 era2 old2 (upd kind (40 * e + nr) (nI kk)) (upd setOf (40 * e + nr) (nI s)) (upd markOf (40 * e + nr) (nI m)) (upd styleOf (40 * e + nr) st) many text (nI p2) j4 (-1) := by
      rcases w2 with w2 | w2
      · rw [if_pos (show nI nr ≤ 0 by rw [w2]; decide)]
      · rw [w2]
        simp only [Option.bind_some, if_true]
        split <;> rfl
    rw [hz]
    rcases chars_rd (N := N) (e := e) (styles := styles) (sets := sets2) (marks := marks2) (chars := chars) (own := own2) (ins := ins2) (era := era2) (old := old2) (kind := upd kind (40 * e + nr) (nI kk)) (setOf := upd setOf (40 * e + nr) (nI s)) (markOf := upd markOf (40 * e + nr) (nI m)) (styleOf := upd styleOf (40 * e + nr) st) (many := many) (nc := nc) (nr := nr) (q := p2) (kk := kk) (i1 := j3) (i2 := j4) (up := g) (uc := uc) (text := text) hN hn hF hB he hk hnr hc hnc b19 g8 with ⟨l, l1, l2, ⟨q', k1, k2, up', uc', text', c1, c2, c3, c4, c5, c6, c7, c8, c9, c10⟩ | ⟨f, x1, x2, x3, y1, y2, up', uc', chars', text', c1, c2, c3, c4, c5⟩⟩ | ⟨x1, x2, x3, y1, y2, up', uc', chars', many', c1, c2, c3, c4⟩
    · rw [c1, c2]
      simp only [Option.bind_some]
      refine Or.inl ⟨nS2, nm2, nc + l, q', k1, k2, tv2, mp2, up', uc', sets2, marks2, upd chars e (nI (nc + l)), own2, ins2, era2, old2, upd kind (40 * e + nr) (nI kk), upd setOf (40 * e + nr) (nI s), upd markOf (40 * e + nr) (nI m), upd styleOf (40 * e + nr) st, upd many (40 * e + nr) (nI l), text', rfl, rfl, ⟨b4, b6, l2, b8, b9, upd_s _ _ _, b10, b11, ?_⟩, hKS.trans ⟨Only.rfl, Only.rfl, Only.one (by omega) (by omega), Only.rfl, Only.rfl, Only.rfl, Only.rfl, Only.rfl, Only.rfl, Only.rfl, Only.rfl, Only.one (by omega) (by omega), c8⟩, by omega, c10⟩
      refine RelU.add (c := fun x => uc' (nc + x)) hU2 l1 ?_ (show s < nS2 by omega) b7 hst ?_ ?_ ?_ ?_ ?_ ?_ c3 ?_ (fun _ _ => rfl) ?_ ?_
      · rcases (show kk = 0 ∨ kk = 1 by omega) with rfl | rfl
        · exact Or.inl rfl
        · exact Or.inr rfl
      · exact fun j hj => (c4 j (by omega)).trans (g2 j hj)
      · rw [c4 _ (by omega)]; exact g3
      · rw [c4 _ (by omega)]; exact g4
      · rw [c4 _ (by omega)]; exact g5
      · rw [c4 _ (by omega)]; exact g6
      · rw [c4 _ (by omega)]; exact g7
      · exact fun j hj => c5 j (by omega)
      · exact fun j hj => c7 j (by omega)
      · exact fun i hi => (c6 i (Nat.zero_le _) hi).symm
    · rw [c2, c3]
      simp only [Option.bind_some]
      refine Or.inr ⟨f, _, _, _, _, _, _, _, _, _, _, _, _, _, _, _, _, _, _, _, _, _, _, _, _, _, c1, rfl, rfl, hKS.trans ⟨Only.rfl, Only.rfl, c4, Only.rfl, Only.rfl, Only.rfl, Only.rfl, Only.rfl, Only.rfl, Only.rfl, Only.rfl, Only.one (by omega) (by omega), c5⟩⟩
    · rw [c1, c2]
      simp only [Option.bind_some]
      refine Or.inr ⟨p2, _, _, _, _, _, _, _, _, _, _, _, _, _, _, _, _, _, _, _, _, _, _, _, _, _, b19, rfl, rfl, hKS.trans ⟨Only.rfl, Only.rfl, c3, Only.rfl, Only.rfl, Only.rfl, Only.rfl, Only.rfl, Only.rfl, Only.rfl, Only.rfl, c4, Only.rfl⟩⟩
  · rw [w1, w3, if_neg (show ¬ nI nr ≤ 0 from nI_ge (a := 0) (by omega) (by omega)), zw_m]
    simp only [Option.bind_some]
    rw [if_neg q_10, if_neg q_10]
    obtain ⟨chars', d1, d2⟩ := z148_fail (N := N) (n := n) (fl := fl) (e := e) (f := p) (x := 40 * e + nr) (y3 := nI kk) (at_ := nI p2) (it := j4) (styles := styles) (sets := sets2) (marks := marks2) (chars := chars) (own := own2) (ins := ins2) (era := era2) (old := old2) (kind := upd kind (40 * e + nr) (nI kk)) (setOf := upd setOf (40 * e + nr) (nI s)) (markOf := upd markOf (40 * e + nr) (nI m)) (styleOf := upd styleOf (40 * e + nr) st) (many := many) (text := text) (by omega) he (by omega) (by omega)
    rw [d1, show r_R_refuse (nI p) (-1) = some (-1, nI p) from rfl]
    simp only [Option.bind_some]
    rw [rch_fail (by omega) (by omega)]
    simp only [Option.bind_some]
    exact Or.inr ⟨p, _, _, _, _, _, _, _, _, _, _, _, _, _, _, _, _, _, _, _, _, _, _, _, _, _, hp, rfl, rfl, hKS.trans ⟨Only.rfl, Only.rfl, d2, Only.rfl, Only.rfl, Only.rfl, Only.rfl, Only.rfl, Only.rfl, Only.rfl, Only.rfl, Only.one (by omega) (by omega), Only.rfl⟩⟩
theorem run_rd {ns nS nm nr nc p : Nat} {i1 i2 : Int32} {tv mp up uc : Nat → Int32} (hN : 600 ≤ N) (hn : n ≤ 6000) (hF : RelF n oc fl) (hB : Byt n oc bt) (he : e ≤ 1) (hns : ns ≤ 16) (hnr : nr < 40) (hp : p ≤ n) (h1 : styles e = nI ns)
    (hG : GS e ns nS nm nr nc sets marks chars tv mp up uc own ins era old kind setOf markOf styleOf many text) :
    RunRes n p e ns nS nm nr nc sets marks chars own ins era old kind setOf markOf styleOf many text (r_R_readRun N oc (nI n) (nI p) i1 (-1) (nI ns) 24 576 tv (nI nS) mp (nI nm) up uc (nI nr) (nI nc)) (r_Z_readRun N (nI e) (nI nr) (nI n) fl styles sets marks chars own ins era old kind setOf markOf styleOf many text (nI p) i2 (-1)) := by
  unfold r_R_readRun r_Z_readRun r_P_rows
  rcases num0 (N := N) (hi := 1) (it := i1) (it2 := i2) (by omega) hn hp hF hB (by decide) with ⟨v, p2, e1, e2, e3, e4, e5⟩ | ⟨x, z, e4, e5⟩
  · have e4' : r_R_readNumber N 0 1 oc (nI n) (nI p) i1 (-1) = some (nI v, nI p2, nI p, -1) := e4
    have e5' : r_Z_readNumber N 1 (nI n) fl (nI p) i2 (-1) = some (nI v, nI p2, nI p, -1) := e5
    rw [e4', e5']
    simp only [Option.bind_some]
    rcases (show v = 0 ∨ v = 1 by omega) with rfl | rfl
    · rw [if_neg (show ¬ nI 0 = 1 by decide), if_neg (show ¬ nI 0 = 1 by decide)]
      exact run35 hN hn hF hB he hns hnr hp (by omega) e3 (by decide) (Or.inl rfl) hG
    · rw [if_pos (show nI 1 = 1 from rfl), if_pos (show nI 1 = 1 from rfl), gi_n (by omega) (by decide), q_cl (by omega), h1]
      rcases num0 (N := N) (hi := ns) (it := nI p) (it2 := nI p) (by omega) hn e3 hF hB (by omega) with ⟨w, p3, f1, f2, f3, f4, f5⟩ | ⟨x, z, f4, f5⟩
      · rw [f4, f5]
        simp only [Option.bind_some]
        refine run35 hN hn hF hB he hns hnr hp (by omega) f3 (by decide) ?_ hG
        by_cases hw : w = 0
        · subst hw
          exact Or.inl (by decide)
        · obtain ⟨j, rfl⟩ : ∃ j, w = j + 1 := ⟨w - 1, by omega⟩
          exact Or.inr ⟨j, by omega, q_one⟩
      · rw [f4, f5]
        simp only [Option.bind_some]
        rw [r35_fail (by omega)]
        obtain ⟨c', k', s', m', t', n', b1, b2⟩ := z33_fail (N := N) (n := n) (fl := fl) (e := e) (f := p2) (r := nr) (y3 := nI 1) (y4 := nI p) (u0 := 0 - 1) (at_ := z) (it := nI p2) (styles := styles) (sets := sets) (marks := marks) (chars := chars) (own := own) (ins := ins) (era := era) (old := old) (kind := kind) (setOf := setOf) (markOf := markOf) (styleOf := styleOf) (many := many) (text := text) (by omega) he hnr (by omega)
        rw [b1]
        exact Or.inr ⟨p2, _, _, _, _, _, _, _, _, _, _, _, _, _, _, _, _, _, _, _, _, _, _, _, _, _, e3, rfl, rfl, b2⟩
  · have e4' : r_R_readNumber N 0 1 oc (nI n) (nI p) i1 (-1) = some (-1, x, nI p, nI p) := e4
    have e5' : r_Z_readNumber N 1 (nI n) fl (nI p) i2 (-1) = some (0, z, nI p, nI p) := e5
    rw [e4', e5']
    simp only [Option.bind_some]
    rw [if_neg (show ¬ ((-1) : Int32) = 1 by decide), if_neg (show ¬ (0 : Int32) = 1 by decide), r35_fail (by omega)]
    obtain ⟨c', k', s', m', t', n', b1, b2⟩ := z33_fail (N := N) (n := n) (fl := fl) (e := e) (f := p) (r := nr) (y3 := 0) (y4 := nI p) (u0 := -1) (at_ := z) (it := nI p) (styles := styles) (sets := sets) (marks := marks) (chars := chars) (own := own) (ins := ins) (era := era) (old := old) (kind := kind) (setOf := setOf) (markOf := markOf) (styleOf := styleOf) (many := many) (text := text) (by omega) he hnr (by omega)
    rw [b1]
    exact Or.inr ⟨p, _, _, _, _, _, _, _, _, _, _, _, _, _, _, _, _, _, _, _, _, _, _, _, _, _, hp, rfl, rfl, b2⟩
end
