/-! pure: the call of open on both sides -/
def Doc (d ns nS nm nr nc : Nat) (styles sets marks runs chars base own ins era old kind setOf markOf styleOf many text sv bs tv mp up uc : Nat → Int32) : Prop :=
  ns ≤ 16 ∧ nS ≤ 24 ∧ nm ≤ 24 ∧ nr ≤ 40 ∧ nc ≤ 512 ∧ styles d = nI ns ∧ sets d = nI nS ∧ marks d = nI nm ∧ runs d = nI nr ∧ chars d = nI nc ∧ RelS d ns sv bs base own ∧ RelT d nS tv own ∧ RelM d nm nS mp ins era old ∧ RelU d nr nc nm nS ns up uc kind setOf markOf styleOf many text
theorem bind3 {α β γ δ : Type} (a : Option α) (f : α → Option β) (g : β → Option γ) (h : γ → Option δ) : a.bind (fun x => (f x).bind (fun y => (g y).bind h)) = (a.bind (fun x => (f x).bind (fun y => g y))).bind h := by
  cases a with
  | none => rfl
  | some x =>
    show (f x).bind _ = ((f x).bind _).bind h
    cases f x with
    | none => rfl
    | some y => rfl
section
variable {N n d e : Nat} {oc fl : Nat → Int32} {bt : Nat → Nat} {styles sets marks runs chars base own ins era old kind setOf markOf styleOf many text : Nat → Int32}
theorem Doc.keep {ns nS nm nr nc : Nat} {sv bs tv mp up uc styles' sets' marks' runs' chars' base' own' ins' era' old' kind' setOf' markOf' styleOf' many' text' : Nat → Int32} (h : Doc d ns nS nm nr nc styles sets marks runs chars base own ins era old kind setOf markOf styleOf many text sv bs tv mp up uc) (hde : d ≠ e) (hd : d ≤ 1) (he : e ≤ 1)
    (h1 : Only e (e + 1) styles styles') (h2 : Only e (e + 1) runs runs') (h3 : Only (16 * e) (16 * e + 16) base base') (h4 : Only (960 * e) (960 * e + 384) own own') {own2 : Nat → Int32} (hK : KS e sets marks chars own' ins era old kind setOf markOf styleOf many text sets' marks' chars' own2 ins' era' old' kind' setOf' markOf' styleOf' many' text') :
    Doc d ns nS nm nr nc styles' sets' marks' runs' chars' base' own2 ins' era' old' kind' setOf' markOf' styleOf' many' text' sv bs tv mp up uc := by
  obtain ⟨a1, a2, a3, a4, a5, a6, a7, a8, a9, a10, hS, hT, hM, hU⟩ := h
  obtain ⟨k1, k2, k3, k4, k5, k6, k7, k8, k9, k10, k11, k12, k13⟩ := hK
  have ho : ∀ j, j < 960 → own2 (960 * d + j) = own (960 * d + j) := fun j hj => (k4 _ (by omega)).trans (h4 _ (by omega))
  refine ⟨a1, a2, a3, a4, a5, (h1 d (by omega)).trans a6, (k1 d (by omega)).trans a7, (k2 d (by omega)).trans a8, (h2 d (by omega)).trans a9, (k3 d (by omega)).trans a10, fun i hi => ?_, fun i hi p hp => ?_, fun i hi => ?_, ?_⟩
  · obtain ⟨b1, b2, b3⟩ := hS i hi
    refine ⟨b1.trans (h3 _ (by omega)).symm, b2, fun p hp => ?_⟩
    rw [ho _ (by omega)]
    exact b3 p hp
  · rw [ho _ (by omega)]
    exact hT i hi p hp
  · rw [k5 _ (by omega), k6 _ (by omega), k7 _ (by omega)]
    exact hM i hi
  · obtain ⟨ln, b1, b2, b3⟩ := hU
    refine ⟨ln, b1, fun i hi => ?_, fun j hj => (b3 j hj).trans (k13 _ (by omega)).symm⟩
    rw [k8 _ (by omega), k9 _ (by omega), k10 _ (by omega), k11 _ (by omega), k12 _ (by omega)]
    exact b2 i hi
theorem m_open {at_ it fa rn ri rf sr1 sr2 sr3 sr4 sr5 : Int32} {ssv sbs stv smp sup suc : Nat → Int32} {ns nS nm nr nc : Nat} {sv bs tv mp up uc : Nat → Int32} (hN : 600 ≤ N) (hd : d ≤ 1) (hn : n ≤ 6000) (hF : RelF n oc fl) (hD : Doc d ns nS nm nr nc styles sets marks runs chars base own ins era old kind setOf markOf styleOf many text sv bs tv mp up uc) :
    (∃ (ns' nS' nm' nr' nc' : Nat) (nx i1 i2 : Int32) (sv' bs' tv' mp' up' uc' styles' sets' marks' runs' chars' base' own' ins' era' old' kind' setOf' markOf' styleOf' many' text' : Nat → Int32), r_F_open N 16 384 ssv sr1 24 576 stv sr2 smp sr3 sup suc sr4 sr5 sbs oc (nI n) rn ri rf = some (0, sv', nI ns', tv', nI nS', mp', nI nm', up', uc', nI nr', nI nc', bs', nx, i1, -1, true, true) ∧
      r_Z_open N (nI n) fl (nI d) styles sets marks runs chars base own ins era old kind setOf markOf styleOf many text at_ it fa = some (0, nI (1 - d), styles', sets', marks', runs', chars', base', own', ins', era', old', kind', setOf', markOf', styleOf', many', text', nI n, i2, -1) ∧
      Doc (1 - d) ns' nS' nm' nr' nc' styles' sets' marks' runs' chars' base' own' ins' era' old' kind' setOf' markOf' styleOf' many' text' sv' bs' tv' mp' up' uc') ∨
    (∃ (f : Nat) (x1 x2 x3 x4 x5 nx i1 y1 y2 : Int32) (sv' bs' tv' mp' up' uc' styles' sets' marks' runs' chars' base' own' ins' era' old' kind' setOf' markOf' styleOf' many' text' : Nat → Int32), r_F_open N 16 384 ssv sr1 24 576 stv sr2 smp sr3 sup suc sr4 sr5 sbs oc (nI n) rn ri rf = some (nI (f + 1), sv', x1, tv', x2, mp', x3, up', uc', x4, x5, bs', nx, i1, nI f, false, false) ∧
      r_Z_open N (nI n) fl (nI d) styles sets marks runs chars base own ins era old kind setOf markOf styleOf many text at_ it fa = some (nI (f + 1), nI d, styles', sets', marks', runs', chars', base', own', ins', era', old', kind', setOf', markOf', styleOf', many', text', y1, y2, nI f) ∧
      Doc d ns nS nm nr nc styles' sets' marks' runs' chars' base' own' ins' era' old' kind' setOf' markOf' styleOf' many' text' sv bs tv mp up uc) := by
  obtain ⟨bt, hB⟩ := byt_of hF
  obtain ⟨e, he, hde, ee⟩ : ∃ e, e ≤ 1 ∧ d ≠ e ∧ 1 - d = e := ⟨1 - d, by omega, by omega, rfl⟩
  have e1 : (1 : Int32) - nI d = nI e := by
    rw [q_eq, q_sub (by rw [q_1, q_ti (by omega)]; omega) (by rw [q_1, q_ti (by omega)]; omega), q_1, q_ti (by omega), q_ti (by omega)]
    omega
  rw [ee]
  -- what the class makes of a fault and of a good end
  have hcF : ∀ (f : Nat) (nx i1 x1 x2 x3 x4 x5 : Int32) (sv' tv' mp' up' uc' bs' : Nat → Int32), f ≤ 6000 → r_R_read N oc (nI n) rn ri rf 16 384 ssv sr1 24 576 stv sr2 smp sr3 sup suc sr4 sr5 sbs = some (nI f, nx, i1, nI f, sv', x1, tv', x2, mp', x3, up', uc', x4, x5, bs') → r_F_open N 16 384 ssv sr1 24 576 stv sr2 smp sr3 sup suc sr4 sr5 sbs oc (nI n) rn ri rf = some (nI (f + 1), sv', x1, tv', x2, mp', x3, up', uc', x4, x5, bs', nx, i1, nI f, false, false) := by
    intro f nx i1 x1 x2 x3 x4 x5 sv' tv' mp' up' uc' bs' hf h
    unfold r_F_open
    rw [h]
    simp only [Option.bind_some]
    rw [if_neg (nI_nm1 (by omega)), nI_1]
  have hcT : ∀ (nx i1 x1 x2 x3 x4 x5 : Int32) (sv' tv' mp' up' uc' bs' : Nat → Int32), r_R_read N oc (nI n) rn ri rf 16 384 ssv sr1 24 576 stv sr2 smp sr3 sup suc sr4 sr5 sbs = some (-1, nx, i1, -1, sv', x1, tv', x2, mp', x3, up', uc', x4, x5, bs') → r_F_open N 16 384 ssv sr1 24 576 stv sr2 smp sr3 sup suc sr4 sr5 sbs oc (nI n) rn ri rf = some (0, sv', x1, tv', x2, mp', x3, up', uc', x4, x5, bs', nx, i1, -1, true, true) := by
    intro nx i1 x1 x2 x3 x4 x5 sv' tv' mp' up' uc' bs' h
    unfold r_F_open
    rw [h]
    simp only [Option.bind_some, if_true]
  have hR0 : r_R_read N oc (nI n) rn ri rf 16 384 ssv sr1 24 576 stv sr2 smp sr3 sup suc sr4 sr5 sbs = (r_R_readHead N oc (nI n) 0 (-1)).bind (fun z29 => (r_R_readStyles N oc (nI n) z29.1 ri z29.2 16 384 ssv 0 sbs).bind (fun z30 => (r_R_readNumber N 0 40 oc (nI n) z30.1 z30.2.1 z30.2.2.1).bind (fun z31 => l_R_read_33 N z31.1 oc (nI n) 16 384 z30.2.2.2.1 z30.2.2.2.2.1 24 576 z30.2.2.2.2.2 N 0 z31.2.1 z31.2.2.1 z31.2.2.2 stv 0 smp 0 sup suc 0 0))) := rfl
  have hZ0 : r_Z_open N (nI n) fl (nI d) styles sets marks runs chars base own ins era old kind setOf markOf styleOf many text at_ it fa = ((r_Z_readByte 77 (nI n) fl 0 it (-1)).bind (fun z25 => (r_Z_readByte 83 (nI n) fl z25.1 z25.2.1 z25.2.2).bind (fun z26 => r_Z_readByte 1 (nI n) fl z26.1 z26.2.1 z26.2.2))).bind (fun z27 => (r_Z_readStyles N (nI e) (nI n) fl (upd styles e 0) base own z27.1 z27.2.1 z27.2.2).bind (fun z28 => (r_Z_readNumber N 40 (nI n) fl z28.2.2.2.1 z28.2.2.2.2.1 z28.2.2.2.2.2).bind (fun z29 => l_Z_open_53 N (nI e) z29.1 (nI n) fl (nI d) z28.1 z28.2.1 N 0 (upd sets e 0) (upd marks e 0) (upd runs e 0) (upd chars e 0) z28.2.2.1 ins era old kind setOf markOf styleOf many text z29.2.1 z29.2.2.1 z29.2.2.2))) := by
    unfold r_Z_open r_Z_empty
    rw [e1]
    simp only [gi_n (show e < 2 by omega) (show 2 < 2147483648 by decide), q_cl (show e < 2147483648 by omega), Option.bind_some]
    exact bind3 _ _ _ _
  have hKe : KS e sets marks chars own ins era old kind setOf markOf styleOf many text (upd sets e 0) (upd marks e 0) (upd chars e 0) own ins era old kind setOf markOf styleOf many text := ⟨Only.one (by omega) (by omega), Only.one (by omega) (by omega), Only.one (by omega) (by omega), Only.rfl, Only.rfl, Only.rfl, Only.rfl, Only.rfl, Only.rfl, Only.rfl, Only.rfl, Only.rfl, Only.rfl⟩
  rcases head_rd (N := N) (i2 := it) (nx := 0) (by omega) hn hF hB with ⟨h3, a1, i3, a2⟩ | ⟨f, x, y1, y2, hf, a1, a2⟩
  · rw [a2] at hZ0
    rw [a1] at hR0
    simp only [Option.bind_some] at hZ0 hR0
    obtain ⟨ns', styles', b1, b2, b3, hsty⟩ := styles_rd (N := N) (n := n) (e := e) (oc := oc) (fl := fl) (bt := bt) (styles := upd styles e 0) (p := 3) (i1 := ri) (i2 := i3) (sv := ssv) (bs := sbs) (base := base) (own := own) (by omega) hn hF hB he h3
    have hOs : Only e (e + 1) styles styles' := (Only.one (by omega) (by omega)).trans b3
    rcases hsty with ⟨p', j1, j2, sv', bs', base', own', c1, c2, c3, c4, c5, c6, c7⟩ | ⟨f, x1, x2, x3, y1, y2, sv', bs', base', own', c1, c2, c3, c4, c5⟩
    · rw [c1] at hR0
      rw [c2] at hZ0
      simp only [Option.bind_some] at hZ0 hR0
      rcases num0 (N := N) (hi := 40) (it := j1) (it2 := j2) (by omega) hn c7 hF hB (by decide) with ⟨v, p2, g1, g2, g3, g4, g5⟩ | ⟨x, z, g4, g5⟩
      · have g4' : r_R_readNumber N 0 40 oc (nI n) (nI p') j1 (-1) = some (nI v, nI p2, nI p', -1) := g4
        have g5' : r_Z_readNumber N 40 (nI n) fl (nI p') j2 (-1) = some (nI v, nI p2, nI p', -1) := g5
        rw [g4'] at hR0
        rw [g5'] at hZ0
        simp only [Option.bind_some] at hZ0 hR0
        have hG0 : GS e ns' 0 0 0 0 (upd sets e 0) (upd marks e 0) (upd chars e 0) stv smp sup suc own' ins era old kind setOf markOf styleOf many text := ⟨by decide, by decide, by decide, upd_s _ _ _, upd_s _ _ _, upd_s _ _ _, fun i hi => by omega, fun i hi => by omega, ⟨fun _ => 0, rfl, fun i hi => by omega, fun j hj => by omega⟩⟩
        have hl := read_loop (N := N) (d := d) (e := e) (styles := styles') (base := base') (sv := sv') (bs := bs') (ns := ns') (R := v) hN hn hF hB he b1 g1 b2 v 0 N p2 0 0 0 (nI p') (nI p') stv smp sup suc (upd sets e 0) (upd marks e 0) (upd runs e 0) (upd chars e 0) own' ins era old kind setOf markOf styleOf many text (by omega) (by omega) g3 (upd_s _ _ _) hG0 c3
        rcases hl with ⟨nS1, nm1, nr1, nc1, nx, k1, k2, tv1, mp1, up1, uc1, s1, m1, r1, ch1, o1, in1, er1, ol1, ki1, se1, ma1, st1, mn1, tx1, d1, d2, d3, d4, d5, d6⟩ | ⟨f, nx, k1, y1, y2, x1, x2, x3, x4, x5, tv1, mp1, up1, uc1, sv1, bs1, s1, m1, r1, ch1, o1, in1, er1, ol1, ki1, se1, ma1, st1, mn1, tx1, d0, d1, d2, d3, d4⟩
        · refine Or.inl ⟨ns', nS1, nm1, nr1, nc1, nx, k1, k2, sv', bs', tv1, mp1, up1, uc1, styles', s1, m1, r1, ch1, base', o1, in1, er1, ol1, ki1, se1, ma1, st1, mn1, tx1, hcT _ _ _ _ _ _ _ _ _ _ _ _ _ (hR0.trans d1), hZ0.trans d2, ?_⟩
          obtain ⟨t1, t2, t3, t4, t5, t6, t7, t8, t9⟩ := d3
          exact ⟨b1, t1, t2, d4, t3, b2, t4, t5, d5, t6, d6, t7, t8, t9⟩
        · exact Or.inr ⟨f, x1, x2, x3, x4, x5, nx, k1, y1, y2, sv1, bs1, tv1, mp1, up1, uc1, styles', s1, m1, r1, ch1, base', o1, in1, er1, ol1, ki1, se1, ma1, st1, mn1, tx1, hcF _ _ _ _ _ _ _ _ _ _ _ _ _ _ (by omega) (hR0.trans d1), hZ0.trans d2, hD.keep hde hd he hOs ((Only.one (by omega) (by omega)).trans d4) c4 c5 (KS.trans (by
            obtain ⟨k1, k2, k3, -, k5⟩ := hKe
            exact ⟨k1, k2, k3, Only.rfl, k5⟩) d3)⟩
      · have g4' : r_R_readNumber N 0 40 oc (nI n) (nI p') j1 (-1) = some (-1, x, nI p', nI p') := g4
        have g5' : r_Z_readNumber N 40 (nI n) fl (nI p') j2 (-1) = some (0, z, nI p', nI p') := g5
        rw [g4'] at hR0
        rw [g5'] at hZ0
        simp only [Option.bind_some] at hZ0 hR0
        rw [r33_fail (by omega) (by omega)] at hR0
        rw [z53_fail (by omega) (by omega)] at hZ0
        exact Or.inr ⟨p', _, _, _, _, _, _, _, _, _, _, _, _, _, _, _, _, _, _, _, _, _, _, _, _, _, _, _, _, _, _, _, hcF _ _ _ _ _ _ _ _ _ _ _ _ _ _ (by omega) hR0, hZ0, hD.keep hde hd he hOs (Only.one (by omega) (by omega)) c4 c5 (by
          obtain ⟨k1, k2, k3, -, k5⟩ := hKe
          exact ⟨k1, k2, k3, Only.rfl, k5⟩)⟩
    · rw [c2] at hR0
      rw [c3] at hZ0
      simp only [Option.bind_some] at hZ0 hR0
      rw [rn_fail (by omega)] at hR0
      rw [zn_fail (by omega)] at hZ0
      simp only [Option.bind_some] at hZ0 hR0
      rw [r33_fail (by omega) (by omega)] at hR0
      rw [z53_fail (by omega) (by omega)] at hZ0
      exact Or.inr ⟨f, _, _, _, _, _, _, _, _, _, _, _, _, _, _, _, _, _, _, _, _, _, _, _, _, _, _, _, _, _, _, _, hcF _ _ _ _ _ _ _ _ _ _ _ _ _ _ (by omega) hR0, hZ0, hD.keep hde hd he hOs (Only.one (by omega) (by omega)) c4 c5 (by
        obtain ⟨k1, k2, k3, -, k5⟩ := hKe
        exact ⟨k1, k2, k3, Only.rfl, k5⟩)⟩
  · rw [a2] at hZ0
    rw [a1] at hR0
    simp only [Option.bind_some] at hZ0 hR0
    have hrs : r_R_readStyles N oc (nI n) x ri (nI f) 16 384 ssv 0 sbs = some (x, ri, nI f, ssv, 0, sbs) := by
      obtain ⟨M, rfl⟩ : ∃ M, N = M + 1 := ⟨N - 1, by omega⟩
      unfold r_R_readStyles
      rw [rn_fail (by omega)]
      simp only [Option.bind_some]
      rw [l_R_readStyles_10, if_pos (by decide), l29_fail (by omega) (by omega)]
    have hzs : r_Z_readStyles N (nI e) (nI n) fl (upd styles e 0) base own y1 y2 (nI f) = some (upd (upd styles e 0) e 0, base, own, y1, y2, nI f) := by
      obtain ⟨M, rfl⟩ : ∃ M, N = M + 1 := ⟨N - 1, by omega⟩
      unfold r_Z_readStyles
      rw [zn_fail (by omega)]
      simp only [Option.bind_some]
      rw [gi_n (by omega) (by decide), l_Z_readStyles_16, if_pos (by decide), l41_fail (by omega) (by omega), q_cl (by omega)]
    rw [hrs] at hR0
    rw [hzs] at hZ0
    simp only [Option.bind_some] at hZ0 hR0
    rw [rn_fail (by omega)] at hR0
    rw [zn_fail (by omega)] at hZ0
    simp only [Option.bind_some] at hZ0 hR0
    rw [r33_fail (by omega) (by omega)] at hR0
    rw [z53_fail (by omega) (by omega)] at hZ0
    exact Or.inr ⟨f, _, _, _, _, _, _, _, _, _, _, _, _, _, _, _, _, _, _, _, _, _, _, _, _, _, _, _, _, _, _, _, hcF _ _ _ _ _ _ _ _ _ _ _ _ _ _ (by omega) hR0, hZ0, hD.keep hde hd he ((Only.one (k := e) (by omega) (by omega)).trans (Only.one (by omega) (by omega))) (Only.one (by omega) (by omega)) Only.rfl Only.rfl hKe⟩
end
