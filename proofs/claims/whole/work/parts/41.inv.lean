/-! pure: what holds between the two sides at every call -/
def Inv (sx : XT) (sm : MT) : Prop := ∃ (d ns nS nm nr nc n : Nat) (sv bs tv mp up uc ssv sbs stv smp sup suc oc so mo fl styles sets marks runs chars base own ins era old kind setOf markOf styleOf many text sn mn : Nat → Int32) (r1 r2 r3 r4 r5 rn ri rf sc mc w1 w2 at_ it fa : Int32), sx = (16, 384, sv, nI ns, 24, 576, tv, nI nS, mp, nI nm, up, uc, nI nr, nI nc, bs, 16, 384, ssv, r1, 24, 576, stv, r2, smp, r3, sup, suc, r4, r5, sbs, oc, nI n, rn, ri, rf, so, mo, sc, mc) ∧ sm = (nI n, fl, nI d, styles, sets, marks, runs, chars, base, own, ins, era, old, kind, setOf, markOf, styleOf, many, text, sn, mn, w1, w2, at_, it, fa) ∧ d ≤ 1 ∧ n ≤ 6000 ∧ RelF n oc fl ∧ Doc d ns nS nm nr nc styles sets marks runs chars base own ins era old kind setOf markOf styleOf many text sv bs tv mp up uc
theorem Inv.of {d ns nS nm nr nc n : Nat} {sv bs tv mp up uc ssv sbs stv smp sup suc oc so mo fl styles sets marks runs chars base own ins era old kind setOf markOf styleOf many text sn mn : Nat → Int32} {r1 r2 r3 r4 r5 rn ri rf sc mc w1 w2 at_ it fa : Int32} (hd : d ≤ 1) (hn : n ≤ 6000) (hF : RelF n oc fl) (hD : Doc d ns nS nm nr nc styles sets marks runs chars base own ins era old kind setOf markOf styleOf many text sv bs tv mp up uc) : Inv (16, 384, sv, nI ns, 24, 576, tv, nI nS, mp, nI nm, up, uc, nI nr, nI nc, bs, 16, 384, ssv, r1, 24, 576, stv, r2, smp, r3, sup, suc, r4, r5, sbs, oc, nI n, rn, ri, rf, so, mo, sc, mc) (nI n, fl, nI d, styles, sets, marks, runs, chars, base, own, ins, era, old, kind, setOf, markOf, styleOf, many, text, sn, mn, w1, w2, at_, it, fa) :=
  ⟨d, ns, nS, nm, nr, nc, n, sv, bs, tv, mp, up, uc, ssv, sbs, stv, smp, sup, suc, oc, so, mo, fl, styles, sets, marks, runs, chars, base, own, ins, era, old, kind, setOf, markOf, styleOf, many, text, sn, mn, r1, r2, r3, r4, r5, rn, ri, rf, sc, mc, w1, w2, at_, it, fa, rfl, rfl, hd, hn, hF, hD⟩
theorem RelU.chars {d nr nc nm nS ns : Nat} {up uc kind setOf markOf styleOf many text : Nat → Int32} (h : RelU d nr nc nm nS ns up uc kind setOf markOf styleOf many text) : ∀ j, j < nc → uc j = text (512 * d + j) := by
  obtain ⟨ln, a, b, c⟩ := h
  exact c
section
variable {N L i : Nat} {xs : Nat → Int32} {K : Int32 → XT → MT → Option Unit} {sx : XT} {sm : MT}
theorem st_0 (hN : 600 ≤ N) (hL : L < 2147483648) (hi : i + 5 ≤ L) (hK : ∀ sx sm, Inv sx sm → K (nI (i + 5)) sx sm = some ()) (h : Inv sx sm) : lw_0 N L xs K (nI i) sx sm = some () := by
  obtain ⟨d, ns, nS, nm, nr, nc, n, sv, bs, tv, mp, up, uc, ssv, sbs, stv, smp, sup, suc, oc, so, mo, fl, styles, sets, marks, runs, chars, base, own, ins, era, old, kind, setOf, markOf, styleOf, many, text, sn, mn, r1, r2, r3, r4, r5, rn, ri, rf, sc, mc, w1, w2, at_, it, fa, rfl, rfl, hd, hn, hF, hD⟩ := h
  obtain ⟨b1, b2, b3, b4, b5, c1, c2, c3, c4, c5, hS, hT, hM, hU⟩ := hD
  unfold lw_0
  simp only [show nI i + 5 = nI (i + 5) from nI_add i 5]
  have e1 : r_F_clear (nI ns) (nI nS) (nI nm) (nI nr) (nI nc) = some (nI 0, nI 0, nI 0, nI 0, nI 0) := rfl
  have e2 : r_Z_clear (nI d) styles sets marks runs chars = some (upd styles d (nI 0), upd sets d (nI 0), upd marks d (nI 0), upd runs d (nI 0), upd chars d (nI 0)) := by
    unfold r_Z_clear r_Z_empty
    simp only [gi_n (show d < 2 by omega) (show 2 < 2147483648 by decide), q_cl (show d < 2147483648 by omega), Option.bind_some]
    rfl
  rw [e1]
  simp only [Option.bind_some]
  rw [e2]
  simp only [Option.bind_some]
  exact hK _ _ (Inv.of hd hn hF ⟨by decide, by decide, by decide, by decide, by decide, upd_s _ _ _, upd_s _ _ _, upd_s _ _ _, upd_s _ _ _, upd_s _ _ _, fun i hi => by omega, fun i hi => by omega, fun i hi => by omega, ⟨fun _ => 0, rfl, fun i hi => by omega, fun j hj => by omega⟩⟩)
theorem st_1 (hN : 600 ≤ N) (hL : L < 2147483648) (hi : i + 5 ≤ L) (hK : ∀ sx sm, Inv sx sm → K (nI (i + 5)) sx sm = some ()) (h : Inv sx sm) : lw_1 N L xs K (nI i) sx sm = some () := by
  obtain ⟨d, ns, nS, nm, nr, nc, n, sv, bs, tv, mp, up, uc, ssv, sbs, stv, smp, sup, suc, oc, so, mo, fl, styles, sets, marks, runs, chars, base, own, ins, era, old, kind, setOf, markOf, styleOf, many, text, sn, mn, r1, r2, r3, r4, r5, rn, ri, rf, sc, mc, w1, w2, at_, it, fa, rfl, rfl, hd, hn, hF, hD⟩ := h
  obtain ⟨b1, b2, b3, b4, b5, c1, c2, c3, c4, c5, hS, hT, hM, hU⟩ := hD
  unfold lw_1
  simp only [show nI i + 5 = nI (i + 5) from nI_add i 5, show nI i + 1 = nI (i + 1) from nI_add i 1, gi_n (show i + 1 < L by omega) hL, q_cl (show i + 1 < 2147483648 by omega)]
  obtain ⟨r, sv', bs', styles', base', own', ns', e1, e2, f1, f2, f3, f4, f5⟩ := m_style (N := N) (xs (i + 1)) (by omega) hd b2 b1 c1 hS hT
  rw [e1]
  simp only [Option.bind_some]
  rw [e2]
  simp only [Option.bind_some, if_true]
  exact hK _ _ (Inv.of hd hn hF ⟨f1, b2, b3, b4, b5, f3, c2, c3, c4, c5, f4, f5, hM, hU.mono (Nat.le_refl _) (Nat.le_refl _) f2⟩)
theorem st_2 (hN : 600 ≤ N) (hL : L < 2147483648) (hi : i + 5 ≤ L) (hK : ∀ sx sm, Inv sx sm → K (nI (i + 5)) sx sm = some ()) (h : Inv sx sm) : lw_2 N L xs K (nI i) sx sm = some () := by
  obtain ⟨d, ns, nS, nm, nr, nc, n, sv, bs, tv, mp, up, uc, ssv, sbs, stv, smp, sup, suc, oc, so, mo, fl, styles, sets, marks, runs, chars, base, own, ins, era, old, kind, setOf, markOf, styleOf, many, text, sn, mn, r1, r2, r3, r4, r5, rn, ri, rf, sc, mc, w1, w2, at_, it, fa, rfl, rfl, hd, hn, hF, hD⟩ := h
  obtain ⟨b1, b2, b3, b4, b5, c1, c2, c3, c4, c5, hS, hT, hM, hU⟩ := hD
  unfold lw_2
  simp only [show nI i + 5 = nI (i + 5) from nI_add i 5]
  obtain ⟨r, tv', sets', own', nS', e1, e2, f1, f2, f3, f4, f5⟩ := m_set (N := N) (by omega) hd b2 b1 c2 hS hT
  rw [e1]
  simp only [Option.bind_some]
  rw [e2]
  simp only [Option.bind_some, if_true]
  exact hK _ _ (Inv.of hd hn hF ⟨b1, f1, b3, b4, b5, c1, f3, c3, c4, c5, f4, f5, hM.mono f2, hU.mono (Nat.le_refl _) f2 (Nat.le_refl _)⟩)
theorem st_3 (hN : 600 ≤ N) (hL : L < 2147483648) (hi : i + 5 ≤ L) (hK : ∀ sx sm, Inv sx sm → K (nI (i + 5)) sx sm = some ()) (h : Inv sx sm) : lw_3 N L xs K (nI i) sx sm = some () := by
  obtain ⟨d, ns, nS, nm, nr, nc, n, sv, bs, tv, mp, up, uc, ssv, sbs, stv, smp, sup, suc, oc, so, mo, fl, styles, sets, marks, runs, chars, base, own, ins, era, old, kind, setOf, markOf, styleOf, many, text, sn, mn, r1, r2, r3, r4, r5, rn, ri, rf, sc, mc, w1, w2, at_, it, fa, rfl, rfl, hd, hn, hF, hD⟩ := h
  obtain ⟨b1, b2, b3, b4, b5, c1, c2, c3, c4, c5, hS, hT, hM, hU⟩ := hD
  unfold lw_3
  simp only [show nI i + 5 = nI (i + 5) from nI_add i 5, show nI i + 1 = nI (i + 1) from nI_add i 1, gi_n (show i + 1 < L by omega) hL, q_cl (show i + 1 < 2147483648 by omega), show nI i + 2 = nI (i + 2) from nI_add i 2, gi_n (show i + 2 < L by omega) hL, q_cl (show i + 2 < 2147483648 by omega), show nI i + 3 = nI (i + 3) from nI_add i 3, gi_n (show i + 3 < L by omega) hL, q_cl (show i + 3 < 2147483648 by omega), show nI i + 4 = nI (i + 4) from nI_add i 4, gi_n (show i + 4 < L by omega) hL, q_cl (show i + 4 < 2147483648 by omega)]
  obtain ⟨r, sv', tv', own', e1, e2, f1, f2⟩ := m_property (xs (i + 1)) (xs (i + 2)) (xs (i + 3)) (xs (i + 4)) hd b1 b2 c1 c2 hS hT
  rw [e1]
  simp only [Option.bind_some]
  rw [e2]
  simp only [Option.bind_some, if_true]
  exact hK _ _ (Inv.of hd hn hF ⟨b1, b2, b3, b4, b5, c1, c2, c3, c4, c5, f1, f2, hM, hU⟩)
theorem st_4 (hN : 600 ≤ N) (hL : L < 2147483648) (hi : i + 5 ≤ L) (hK : ∀ sx sm, Inv sx sm → K (nI (i + 5)) sx sm = some ()) (h : Inv sx sm) : lw_4 N L xs K (nI i) sx sm = some () := by
  obtain ⟨d, ns, nS, nm, nr, nc, n, sv, bs, tv, mp, up, uc, ssv, sbs, stv, smp, sup, suc, oc, so, mo, fl, styles, sets, marks, runs, chars, base, own, ins, era, old, kind, setOf, markOf, styleOf, many, text, sn, mn, r1, r2, r3, r4, r5, rn, ri, rf, sc, mc, w1, w2, at_, it, fa, rfl, rfl, hd, hn, hF, hD⟩ := h
  obtain ⟨b1, b2, b3, b4, b5, c1, c2, c3, c4, c5, hS, hT, hM, hU⟩ := hD
  unfold lw_4
  simp only [show nI i + 5 = nI (i + 5) from nI_add i 5, show nI i + 1 = nI (i + 1) from nI_add i 1, gi_n (show i + 1 < L by omega) hL, q_cl (show i + 1 < 2147483648 by omega), show nI i + 2 = nI (i + 2) from nI_add i 2, gi_n (show i + 2 < L by omega) hL, q_cl (show i + 2 < 2147483648 by omega), show nI i + 3 = nI (i + 3) from nI_add i 3, gi_n (show i + 3 < L by omega) hL, q_cl (show i + 3 < 2147483648 by omega)]
  obtain ⟨r, mp', marks', ins', era', old', nm', e1, e2, f1, f2, f3, f4⟩ := m_mark (xs (i + 1)) (xs (i + 2)) (xs (i + 3)) hd b3 b2 c2 c3 hM
  rw [e1]
  simp only [Option.bind_some]
  rw [e2]
  simp only [Option.bind_some, if_true]
  exact hK _ _ (Inv.of hd hn hF ⟨b1, b2, f1, b4, b5, c1, c2, f3, c4, c5, hS, hT, f4, hU.mono f2 (Nat.le_refl _) (Nat.le_refl _)⟩)
theorem st_5 (hN : 600 ≤ N) (hL : L < 2147483648) (hi : i + 5 ≤ L) (hK : ∀ sx sm, Inv sx sm → K (nI (i + 5)) sx sm = some ()) (h : Inv sx sm) : lw_5 N L xs K (nI i) sx sm = some () := by
  obtain ⟨d, ns, nS, nm, nr, nc, n, sv, bs, tv, mp, up, uc, ssv, sbs, stv, smp, sup, suc, oc, so, mo, fl, styles, sets, marks, runs, chars, base, own, ins, era, old, kind, setOf, markOf, styleOf, many, text, sn, mn, r1, r2, r3, r4, r5, rn, ri, rf, sc, mc, w1, w2, at_, it, fa, rfl, rfl, hd, hn, hF, hD⟩ := h
  obtain ⟨b1, b2, b3, b4, b5, c1, c2, c3, c4, c5, hS, hT, hM, hU⟩ := hD
  unfold lw_5
  simp only [show nI i + 5 = nI (i + 5) from nI_add i 5, show nI i + 1 = nI (i + 1) from nI_add i 1, gi_n (show i + 1 < L by omega) hL, q_cl (show i + 1 < 2147483648 by omega), show nI i + 2 = nI (i + 2) from nI_add i 2, gi_n (show i + 2 < L by omega) hL, q_cl (show i + 2 < 2147483648 by omega), show nI i + 3 = nI (i + 3) from nI_add i 3, gi_n (show i + 3 < L by omega) hL, q_cl (show i + 3 < 2147483648 by omega), show nI i + 4 = nI (i + 4) from nI_add i 4, gi_n (show i + 4 < L by omega) hL, q_cl (show i + 4 < 2147483648 by omega)]
  obtain ⟨r, up', uc', runs', chars', kind', setOf', markOf', styleOf', many', text', nr', nc', e1, e2, f1, f2, f3, f4, f5⟩ := m_type (N := N) (xs (i + 1)) (xs (i + 2)) (((((xs (i + 3)).toInt64) <<< ((32 : Int32).toInt64 &&& 63)) : Int64) ||| ((xs (i + 4)).toInt64 &&& 4294967295)) hN hd b2 b3 b4 b5 c2 c3 c4 c5 hU
  rw [e1]
  simp only [Option.bind_some]
  rw [e2]
  simp only [Option.bind_some, if_true]
  exact hK _ _ (Inv.of hd hn hF ⟨b1, b2, b3, f1, f2, c1, c2, c3, f3, f4, hS, hT, hM, f5⟩)
theorem st_6 (hN : 600 ≤ N) (hL : L < 2147483648) (hi : i + 5 ≤ L) (hK : ∀ sx sm, Inv sx sm → K (nI (i + 5)) sx sm = some ()) (h : Inv sx sm) : lw_6 N L xs K (nI i) sx sm = some () := by
  obtain ⟨d, ns, nS, nm, nr, nc, n, sv, bs, tv, mp, up, uc, ssv, sbs, stv, smp, sup, suc, oc, so, mo, fl, styles, sets, marks, runs, chars, base, own, ins, era, old, kind, setOf, markOf, styleOf, many, text, sn, mn, r1, r2, r3, r4, r5, rn, ri, rf, sc, mc, w1, w2, at_, it, fa, rfl, rfl, hd, hn, hF, hD⟩ := h
  obtain ⟨b1, b2, b3, b4, b5, c1, c2, c3, c4, c5, hS, hT, hM, hU⟩ := hD
  unfold lw_6
  simp only [show nI i + 5 = nI (i + 5) from nI_add i 5, show nI i + 1 = nI (i + 1) from nI_add i 1, gi_n (show i + 1 < L by omega) hL, q_cl (show i + 1 < 2147483648 by omega), show nI i + 2 = nI (i + 2) from nI_add i 2, gi_n (show i + 2 < L by omega) hL, q_cl (show i + 2 < 2147483648 by omega), show nI i + 3 = nI (i + 3) from nI_add i 3, gi_n (show i + 3 < L by omega) hL, q_cl (show i + 3 < 2147483648 by omega), show nI i + 4 = nI (i + 4) from nI_add i 4, gi_n (show i + 4 < L by omega) hL, q_cl (show i + 4 < 2147483648 by omega)]
  obtain ⟨r, up', uc', runs', chars', kind', setOf', markOf', styleOf', many', text', nr', nc', e1, e2, f1, f2, f3, f4, f5⟩ := m_end (N := N) (xs (i + 1)) (xs (i + 2)) (xs (i + 3)) (xs (i + 4)) hN hd b1 b2 b3 b4 b5 c1 c2 c3 c4 c5 hU
  rw [e1]
  simp only [Option.bind_some]
  rw [e2]
  simp only [Option.bind_some, if_true]
  exact hK _ _ (Inv.of hd hn hF ⟨b1, b2, b3, f1, f2, c1, c2, c3, f3, f4, hS, hT, hM, f5⟩)
theorem st_7 (hN : 600 ≤ N) (hL : L < 2147483648) (hi : i + 5 ≤ L) (hK : ∀ sx sm, Inv sx sm → K (nI (i + 5)) sx sm = some ()) (h : Inv sx sm) : lw_7 N L xs K (nI i) sx sm = some () := by
  obtain ⟨d, ns, nS, nm, nr, nc, n, sv, bs, tv, mp, up, uc, ssv, sbs, stv, smp, sup, suc, oc, so, mo, fl, styles, sets, marks, runs, chars, base, own, ins, era, old, kind, setOf, markOf, styleOf, many, text, sn, mn, r1, r2, r3, r4, r5, rn, ri, rf, sc, mc, w1, w2, at_, it, fa, rfl, rfl, hd, hn, hF, hD⟩ := h
  obtain ⟨b1, b2, b3, b4, b5, c1, c2, c3, c4, c5, hS, hT, hM, hU⟩ := hD
  unfold lw_7
  simp only [show nI i + 5 = nI (i + 5) from nI_add i 5, show nI i + 1 = nI (i + 1) from nI_add i 1, gi_n (show i + 1 < L by omega) hL, q_cl (show i + 1 < 2147483648 by omega)]
  obtain ⟨r, e1, e2⟩ := m_count (n := n) (xs (i + 1)) hd c1 c2 c3 c4 c5
  rw [e1]
  simp only [Option.bind_some]
  rw [e2]
  simp only [Option.bind_some, if_true]
  exact hK _ _ (Inv.of hd hn hF ⟨b1, b2, b3, b4, b5, c1, c2, c3, c4, c5, hS, hT, hM, hU⟩)
theorem st_8 (hN : 600 ≤ N) (hL : L < 2147483648) (hi : i + 5 ≤ L) (hK : ∀ sx sm, Inv sx sm → K (nI (i + 5)) sx sm = some ()) (h : Inv sx sm) : lw_8 N L xs K (nI i) sx sm = some () := by
  obtain ⟨d, ns, nS, nm, nr, nc, n, sv, bs, tv, mp, up, uc, ssv, sbs, stv, smp, sup, suc, oc, so, mo, fl, styles, sets, marks, runs, chars, base, own, ins, era, old, kind, setOf, markOf, styleOf, many, text, sn, mn, r1, r2, r3, r4, r5, rn, ri, rf, sc, mc, w1, w2, at_, it, fa, rfl, rfl, hd, hn, hF, hD⟩ := h
  obtain ⟨b1, b2, b3, b4, b5, c1, c2, c3, c4, c5, hS, hT, hM, hU⟩ := hD
  unfold lw_8
  simp only [show nI i + 5 = nI (i + 5) from nI_add i 5, show nI i + 1 = nI (i + 1) from nI_add i 1, gi_n (show i + 1 < L by omega) hL, q_cl (show i + 1 < 2147483648 by omega)]
  obtain ⟨r, e1, e2⟩ := m_base (xs (i + 1)) hd b1 c1 hS
  rw [e1]
  simp only [Option.bind_some]
  rw [e2]
  simp only [Option.bind_some, if_true]
  exact hK _ _ (Inv.of hd hn hF ⟨b1, b2, b3, b4, b5, c1, c2, c3, c4, c5, hS, hT, hM, hU⟩)
theorem st_9 (hN : 600 ≤ N) (hL : L < 2147483648) (hi : i + 5 ≤ L) (hK : ∀ sx sm, Inv sx sm → K (nI (i + 5)) sx sm = some ()) (h : Inv sx sm) : lw_9 N L xs K (nI i) sx sm = some () := by
  obtain ⟨d, ns, nS, nm, nr, nc, n, sv, bs, tv, mp, up, uc, ssv, sbs, stv, smp, sup, suc, oc, so, mo, fl, styles, sets, marks, runs, chars, base, own, ins, era, old, kind, setOf, markOf, styleOf, many, text, sn, mn, r1, r2, r3, r4, r5, rn, ri, rf, sc, mc, w1, w2, at_, it, fa, rfl, rfl, hd, hn, hF, hD⟩ := h
  obtain ⟨b1, b2, b3, b4, b5, c1, c2, c3, c4, c5, hS, hT, hM, hU⟩ := hD
  unfold lw_9
  simp only [show nI i + 5 = nI (i + 5) from nI_add i 5, show nI i + 1 = nI (i + 1) from nI_add i 1, gi_n (show i + 1 < L by omega) hL, q_cl (show i + 1 < 2147483648 by omega), show nI i + 2 = nI (i + 2) from nI_add i 2, gi_n (show i + 2 < L by omega) hL, q_cl (show i + 2 < 2147483648 by omega), show nI i + 3 = nI (i + 3) from nI_add i 3, gi_n (show i + 3 < L by omega) hL, q_cl (show i + 3 < 2147483648 by omega)]
  obtain ⟨r, e1, e2⟩ := m_value (xs (i + 1)) (xs (i + 2)) (xs (i + 3)) hd b1 b2 c1 c2 hS hT
  rw [e1]
  simp only [Option.bind_some]
  rw [e2]
  simp only [Option.bind_some, if_true]
  exact hK _ _ (Inv.of hd hn hF ⟨b1, b2, b3, b4, b5, c1, c2, c3, c4, c5, hS, hT, hM, hU⟩)
theorem st_10 (hN : 600 ≤ N) (hL : L < 2147483648) (hi : i + 5 ≤ L) (hK : ∀ sx sm, Inv sx sm → K (nI (i + 5)) sx sm = some ()) (h : Inv sx sm) : lw_10 N L xs K (nI i) sx sm = some () := by
  obtain ⟨d, ns, nS, nm, nr, nc, n, sv, bs, tv, mp, up, uc, ssv, sbs, stv, smp, sup, suc, oc, so, mo, fl, styles, sets, marks, runs, chars, base, own, ins, era, old, kind, setOf, markOf, styleOf, many, text, sn, mn, r1, r2, r3, r4, r5, rn, ri, rf, sc, mc, w1, w2, at_, it, fa, rfl, rfl, hd, hn, hF, hD⟩ := h
  obtain ⟨b1, b2, b3, b4, b5, c1, c2, c3, c4, c5, hS, hT, hM, hU⟩ := hD
  unfold lw_10
  simp only [show nI i + 5 = nI (i + 5) from nI_add i 5, show nI i + 1 = nI (i + 1) from nI_add i 1, gi_n (show i + 1 < L by omega) hL, q_cl (show i + 1 < 2147483648 by omega), show nI i + 2 = nI (i + 2) from nI_add i 2, gi_n (show i + 2 < L by omega) hL, q_cl (show i + 2 < 2147483648 by omega)]
  obtain ⟨r, e1, e2⟩ := m_changes (xs (i + 1)) (xs (i + 2)) hd b3 c3 hM
  rw [e1]
  simp only [Option.bind_some]
  rw [e2]
  simp only [Option.bind_some, if_true]
  exact hK _ _ (Inv.of hd hn hF ⟨b1, b2, b3, b4, b5, c1, c2, c3, c4, c5, hS, hT, hM, hU⟩)
theorem st_11 (hN : 600 ≤ N) (hL : L < 2147483648) (hi : i + 5 ≤ L) (hK : ∀ sx sm, Inv sx sm → K (nI (i + 5)) sx sm = some ()) (h : Inv sx sm) : lw_11 N L xs K (nI i) sx sm = some () := by
  obtain ⟨d, ns, nS, nm, nr, nc, n, sv, bs, tv, mp, up, uc, ssv, sbs, stv, smp, sup, suc, oc, so, mo, fl, styles, sets, marks, runs, chars, base, own, ins, era, old, kind, setOf, markOf, styleOf, many, text, sn, mn, r1, r2, r3, r4, r5, rn, ri, rf, sc, mc, w1, w2, at_, it, fa, rfl, rfl, hd, hn, hF, hD⟩ := h
  obtain ⟨b1, b2, b3, b4, b5, c1, c2, c3, c4, c5, hS, hT, hM, hU⟩ := hD
  unfold lw_11
  simp only [show nI i + 5 = nI (i + 5) from nI_add i 5, show nI i + 1 = nI (i + 1) from nI_add i 1, gi_n (show i + 1 < L by omega) hL, q_cl (show i + 1 < 2147483648 by omega), show nI i + 2 = nI (i + 2) from nI_add i 2, gi_n (show i + 2 < L by omega) hL, q_cl (show i + 2 < 2147483648 by omega)]
  obtain ⟨r, e1, e2⟩ := m_run (N := N) (xs (i + 1)) (xs (i + 2)) (by omega) hd b4 c4 hU
  rw [e1]
  simp only [Option.bind_some]
  rw [e2]
  simp only [Option.bind_some, if_true]
  exact hK _ _ (Inv.of hd hn hF ⟨b1, b2, b3, b4, b5, c1, c2, c3, c4, c5, hS, hT, hM, hU⟩)
theorem st_12 (hN : 600 ≤ N) (hL : L < 2147483648) (hi : i + 5 ≤ L) (hK : ∀ sx sm, Inv sx sm → K (nI (i + 5)) sx sm = some ()) (h : Inv sx sm) : lw_12 N L xs K (nI i) sx sm = some () := by
  obtain ⟨d, ns, nS, nm, nr, nc, n, sv, bs, tv, mp, up, uc, ssv, sbs, stv, smp, sup, suc, oc, so, mo, fl, styles, sets, marks, runs, chars, base, own, ins, era, old, kind, setOf, markOf, styleOf, many, text, sn, mn, r1, r2, r3, r4, r5, rn, ri, rf, sc, mc, w1, w2, at_, it, fa, rfl, rfl, hd, hn, hF, hD⟩ := h
  obtain ⟨b1, b2, b3, b4, b5, c1, c2, c3, c4, c5, hS, hT, hM, hU⟩ := hD
  unfold lw_12
  simp only [show nI i + 5 = nI (i + 5) from nI_add i 5, show nI i + 1 = nI (i + 1) from nI_add i 1, gi_n (show i + 1 < L by omega) hL, q_cl (show i + 1 < 2147483648 by omega)]
  obtain ⟨r, e1, e2⟩ := m_at (xs (i + 1)) hd b5 c5 hU.chars
  rw [e1]
  simp only [Option.bind_some]
  rw [e2]
  simp only [Option.bind_some, if_true]
  exact hK _ _ (Inv.of hd hn hF ⟨b1, b2, b3, b4, b5, c1, c2, c3, c4, c5, hS, hT, hM, hU⟩)
theorem st_13 (hN : 600 ≤ N) (hL : L < 2147483648) (hi : i + 5 ≤ L) (hK : ∀ sx sm, Inv sx sm → K (nI (i + 5)) sx sm = some ()) (h : Inv sx sm) : lw_13 N L xs K (nI i) sx sm = some () := by
  obtain ⟨d, ns, nS, nm, nr, nc, n, sv, bs, tv, mp, up, uc, ssv, sbs, stv, smp, sup, suc, oc, so, mo, fl, styles, sets, marks, runs, chars, base, own, ins, era, old, kind, setOf, markOf, styleOf, many, text, sn, mn, r1, r2, r3, r4, r5, rn, ri, rf, sc, mc, w1, w2, at_, it, fa, rfl, rfl, hd, hn, hF, hD⟩ := h
  obtain ⟨b1, b2, b3, b4, b5, c1, c2, c3, c4, c5, hS, hT, hM, hU⟩ := hD
  unfold lw_13
  simp only [show nI i + 5 = nI (i + 5) from nI_add i 5]
  obtain ⟨r, oc', so', mo', fl', sn', mn', k1, k2, g1, g2, n', e1, e2, f1, f2⟩ := m_save (N := N) (oc := oc) (so := so) (mo := mo) (k1 := sc) (k2 := mc) (fl := fl) (sn := sn) (mn := mn) (w1 := w1) (w2 := w2) hN hd b1 b2 b3 b4 b5 hn c1 c4 hS hT hM hU
  rw [e1]
  simp only [Option.bind_some]
  rw [e2]
  simp only [Option.bind_some, if_true]
  exact hK _ _ (Inv.of hd f2 f1 ⟨b1, b2, b3, b4, b5, c1, c2, c3, c4, c5, hS, hT, hM, hU⟩)
theorem st_14 (hN : 600 ≤ N) (hL : L < 2147483648) (hi : i + 5 ≤ L) (hK : ∀ sx sm, Inv sx sm → K (nI (i + 5)) sx sm = some ()) (h : Inv sx sm) : lw_14 N L xs K (nI i) sx sm = some () := by
  obtain ⟨d, ns, nS, nm, nr, nc, n, sv, bs, tv, mp, up, uc, ssv, sbs, stv, smp, sup, suc, oc, so, mo, fl, styles, sets, marks, runs, chars, base, own, ins, era, old, kind, setOf, markOf, styleOf, many, text, sn, mn, r1, r2, r3, r4, r5, rn, ri, rf, sc, mc, w1, w2, at_, it, fa, rfl, rfl, hd, hn, hF, hD⟩ := h
  obtain ⟨b1, b2, b3, b4, b5, c1, c2, c3, c4, c5, hS, hT, hM, hU⟩ := hD
  unfold lw_14
  simp only [show nI i + 5 = nI (i + 5) from nI_add i 5]
  rcases m_open (N := N) (at_ := at_) (it := it) (fa := fa) (rn := rn) (ri := ri) (rf := rf) (sr1 := r1) (sr2 := r2) (sr3 := r3) (sr4 := r4) (sr5 := r5) (ssv := ssv) (sbs := sbs) (stv := stv) (smp := smp) (sup := sup) (suc := suc) hN hd hn hF (show Doc d ns nS nm nr nc styles sets marks runs chars base own ins era old kind setOf markOf styleOf many text sv bs tv mp up uc from ⟨b1, b2, b3, b4, b5, c1, c2, c3, c4, c5, hS, hT, hM, hU⟩) with ⟨ns', nS', nm', nr', nc', nx, i1, i2, sv', bs', tv', mp', up', uc', styles', sets', marks', runs', chars', base', own', ins', era', old', kind', setOf', markOf', styleOf', many', text', e1, e2, f1⟩ | ⟨f, x1, x2, x3, x4, x5, nx, i1, y1, y2, sv', bs', tv', mp', up', uc', styles', sets', marks', runs', chars', base', own', ins', era', old', kind', setOf', markOf', styleOf', many', text', e1, e2, f1⟩
  · rw [e1]
    simp only [Option.bind_some]
    rw [e2]
    simp only [Option.bind_some, if_true, cond_true]
    exact hK _ _ (Inv.of (by omega) hn hF f1)
  · rw [e1]
    simp only [Option.bind_some]
    rw [e2]
    simp only [Option.bind_some, if_true, cond_false]
    exact hK _ _ (Inv.of hd hn hF f1)
theorem st_15 (hN : 600 ≤ N) (hL : L < 2147483648) (hi : i + 5 ≤ L) (hK : ∀ sx sm, Inv sx sm → K (nI (i + 5)) sx sm = some ()) (h : Inv sx sm) : lw_15 N L xs K (nI i) sx sm = some () := by
  obtain ⟨d, ns, nS, nm, nr, nc, n, sv, bs, tv, mp, up, uc, ssv, sbs, stv, smp, sup, suc, oc, so, mo, fl, styles, sets, marks, runs, chars, base, own, ins, era, old, kind, setOf, markOf, styleOf, many, text, sn, mn, r1, r2, r3, r4, r5, rn, ri, rf, sc, mc, w1, w2, at_, it, fa, rfl, rfl, hd, hn, hF, hD⟩ := h
  obtain ⟨b1, b2, b3, b4, b5, c1, c2, c3, c4, c5, hS, hT, hM, hU⟩ := hD
  unfold lw_15
  simp only [show nI i + 5 = nI (i + 5) from nI_add i 5, show nI i + 1 = nI (i + 1) from nI_add i 1, gi_n (show i + 1 < L by omega) hL, q_cl (show i + 1 < 2147483648 by omega)]
  obtain ⟨r, e1, e2⟩ := m_octet (xs (i + 1)) hn hF
  rw [e1]
  simp only [Option.bind_some]
  rw [e2]
  simp only [Option.bind_some, if_true]
  exact hK _ _ (Inv.of hd hn hF ⟨b1, b2, b3, b4, b5, c1, c2, c3, c4, c5, hS, hT, hM, hU⟩)
theorem st_16 (hN : 600 ≤ N) (hL : L < 2147483648) (hi : i + 5 ≤ L) (hK : ∀ sx sm, Inv sx sm → K (nI (i + 5)) sx sm = some ()) (h : Inv sx sm) : lw_16 N L xs K (nI i) sx sm = some () := by
  obtain ⟨d, ns, nS, nm, nr, nc, n, sv, bs, tv, mp, up, uc, ssv, sbs, stv, smp, sup, suc, oc, so, mo, fl, styles, sets, marks, runs, chars, base, own, ins, era, old, kind, setOf, markOf, styleOf, many, text, sn, mn, r1, r2, r3, r4, r5, rn, ri, rf, sc, mc, w1, w2, at_, it, fa, rfl, rfl, hd, hn, hF, hD⟩ := h
  obtain ⟨b1, b2, b3, b4, b5, c1, c2, c3, c4, c5, hS, hT, hM, hU⟩ := hD
  unfold lw_16
  simp only [show nI i + 5 = nI (i + 5) from nI_add i 5, show nI i + 1 = nI (i + 1) from nI_add i 1, gi_n (show i + 1 < L by omega) hL, q_cl (show i + 1 < 2147483648 by omega), show nI i + 2 = nI (i + 2) from nI_add i 2, gi_n (show i + 2 < L by omega) hL, q_cl (show i + 2 < 2147483648 by omega)]
  obtain ⟨r, oc', fl', n', e1, e2, f1, f2⟩ := m_alter (xs (i + 1)) (xs (i + 2)) hn hF
  rw [e1]
  simp only [Option.bind_some]
  rw [e2]
  simp only [Option.bind_some, if_true]
  exact hK _ _ (Inv.of hd f1 f2 ⟨b1, b2, b3, b4, b5, c1, c2, c3, c4, c5, hS, hT, hM, hU⟩)
theorem st_17 (hN : 600 ≤ N) (hL : L < 2147483648) (hi : i + 5 ≤ L) (hK : ∀ sx sm, Inv sx sm → K (nI (i + 5)) sx sm = some ()) (h : Inv sx sm) : lw_17 N L xs K (nI i) sx sm = some () := by
  obtain ⟨d, ns, nS, nm, nr, nc, n, sv, bs, tv, mp, up, uc, ssv, sbs, stv, smp, sup, suc, oc, so, mo, fl, styles, sets, marks, runs, chars, base, own, ins, era, old, kind, setOf, markOf, styleOf, many, text, sn, mn, r1, r2, r3, r4, r5, rn, ri, rf, sc, mc, w1, w2, at_, it, fa, rfl, rfl, hd, hn, hF, hD⟩ := h
  obtain ⟨b1, b2, b3, b4, b5, c1, c2, c3, c4, c5, hS, hT, hM, hU⟩ := hD
  unfold lw_17
  simp only [show nI i + 5 = nI (i + 5) from nI_add i 5, show nI i + 1 = nI (i + 1) from nI_add i 1, gi_n (show i + 1 < L by omega) hL, q_cl (show i + 1 < 2147483648 by omega)]
  obtain ⟨r, n', e1, e2, f1⟩ := m_cut (xs (i + 1)) hn
  rw [e1]
  simp only [Option.bind_some]
  rw [e2]
  simp only [Option.bind_some, if_true]
  exact hK _ _ (Inv.of hd (Nat.le_trans f1 hn) (fun i hi => hF i (by omega)) ⟨b1, b2, b3, b4, b5, c1, c2, c3, c4, c5, hS, hT, hM, hU⟩)
theorem st_18 (hN : 600 ≤ N) (hL : L < 2147483648) (hi : i + 5 ≤ L) (hK : ∀ sx sm, Inv sx sm → K (nI (i + 5)) sx sm = some ()) (h : Inv sx sm) : lw_18 N L xs K (nI i) sx sm = some () := by
  obtain ⟨d, ns, nS, nm, nr, nc, n, sv, bs, tv, mp, up, uc, ssv, sbs, stv, smp, sup, suc, oc, so, mo, fl, styles, sets, marks, runs, chars, base, own, ins, era, old, kind, setOf, markOf, styleOf, many, text, sn, mn, r1, r2, r3, r4, r5, rn, ri, rf, sc, mc, w1, w2, at_, it, fa, rfl, rfl, hd, hn, hF, hD⟩ := h
  obtain ⟨b1, b2, b3, b4, b5, c1, c2, c3, c4, c5, hS, hT, hM, hU⟩ := hD
  unfold lw_18
  simp only [show nI i + 5 = nI (i + 5) from nI_add i 5]
  exact hK _ _ (Inv.of hd hn hF ⟨b1, b2, b3, b4, b5, c1, c2, c3, c4, c5, hS, hT, hM, hU⟩)
theorem law_all (hN : 600 ≤ N) (hL : L < 2147483648) : ∀ (n i : Nat) (sx : XT) (sm : MT), i ≤ L → L + 1 ≤ i + n → Inv sx sm → l_L_law_18 N L xs n (nI i) sx sm = some () := by
  intro n
  induction n with
  | zero => intro i sx sm h1 h2 h; omega
  | succ n ih =>
    intro i sx sm h1 h2 h
    rw [lw_eq]
    have e5 : (Int32.ofNat L - 5).toInt = (L : Int) - 5 := by
      rw [show Int32.ofNat L = nI L from rfl, show (5 : Int32) = nI 5 from rfl, q_sub (by rw [q_ti (by omega), q_ti (by omega)]; omega) (by rw [q_ti (by omega), q_ti (by omega)]; omega), q_ti (by omega), q_ti (by omega)]
      rfl
    by_cases hlt : Int32.ofNat L - 5 < nI i
    · rw [if_pos hlt]
    · rw [if_neg hlt]
      rw [q_lt, e5, q_ti (by omega)] at hlt
      have hi : i + 5 ≤ L := by omega
      have hK : ∀ sx sm, Inv sx sm → l_L_law_18 N L xs n (nI (i + 5)) sx sm = some () := fun sx sm h => ih (i + 5) sx sm hi (by omega) h
      rw [gi_n (by omega) hL]
      by_cases h0 : xs (nI i).toNatClampNeg &&& 31 = 0
      · rw [if_pos h0]
        exact st_0 hN hL hi hK h
      rw [if_neg h0]
      by_cases h1 : xs (nI i).toNatClampNeg &&& 31 = 1
      · rw [if_pos h1]
        exact st_1 hN hL hi hK h
      rw [if_neg h1]
      by_cases h2 : xs (nI i).toNatClampNeg &&& 31 = 2
      · rw [if_pos h2]
        exact st_2 hN hL hi hK h
      rw [if_neg h2]
      by_cases h3 : xs (nI i).toNatClampNeg &&& 31 = 3
      · rw [if_pos h3]
        exact st_3 hN hL hi hK h
      rw [if_neg h3]
      by_cases h4 : xs (nI i).toNatClampNeg &&& 31 = 4
      · rw [if_pos h4]
        exact st_4 hN hL hi hK h
      rw [if_neg h4]
      by_cases h5 : xs (nI i).toNatClampNeg &&& 31 = 5
      · rw [if_pos h5]
        exact st_5 hN hL hi hK h
      rw [if_neg h5]
      by_cases h6 : xs (nI i).toNatClampNeg &&& 31 = 6
      · rw [if_pos h6]
        exact st_6 hN hL hi hK h
      rw [if_neg h6]
      by_cases h7 : xs (nI i).toNatClampNeg &&& 31 = 7
      · rw [if_pos h7]
        exact st_7 hN hL hi hK h
      rw [if_neg h7]
      by_cases h8 : xs (nI i).toNatClampNeg &&& 31 = 8
      · rw [if_pos h8]
        exact st_8 hN hL hi hK h
      rw [if_neg h8]
      by_cases h9 : xs (nI i).toNatClampNeg &&& 31 = 9
      · rw [if_pos h9]
        exact st_9 hN hL hi hK h
      rw [if_neg h9]
      by_cases h10 : xs (nI i).toNatClampNeg &&& 31 = 10
      · rw [if_pos h10]
        exact st_10 hN hL hi hK h
      rw [if_neg h10]
      by_cases h11 : xs (nI i).toNatClampNeg &&& 31 = 11
      · rw [if_pos h11]
        exact st_11 hN hL hi hK h
      rw [if_neg h11]
      by_cases h12 : xs (nI i).toNatClampNeg &&& 31 = 12
      · rw [if_pos h12]
        exact st_12 hN hL hi hK h
      rw [if_neg h12]
      by_cases h13 : xs (nI i).toNatClampNeg &&& 31 = 13
      · rw [if_pos h13]
        exact st_13 hN hL hi hK h
      rw [if_neg h13]
      by_cases h14 : xs (nI i).toNatClampNeg &&& 31 = 14
      · rw [if_pos h14]
        exact st_14 hN hL hi hK h
      rw [if_neg h14]
      by_cases h15 : xs (nI i).toNatClampNeg &&& 31 = 15
      · rw [if_pos h15]
        exact st_15 hN hL hi hK h
      rw [if_neg h15]
      by_cases h16 : xs (nI i).toNatClampNeg &&& 31 = 16
      · rw [if_pos h16]
        exact st_16 hN hL hi hK h
      rw [if_neg h16]
      by_cases h17 : xs (nI i).toNatClampNeg &&& 31 = 17
      · rw [if_pos h17]
        exact st_17 hN hL hi hK h
      rw [if_neg h17]
      exact st_18 hN hL hi hK h
end
