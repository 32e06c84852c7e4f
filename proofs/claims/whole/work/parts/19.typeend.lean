/-! pure: type and end -/
section
variable {N d nr nc nm nS ns : Nat} {up uc styles sets marks runs chars kind setOf markOf styleOf many text : Nat → Int32}
theorem m_end (x y q z : Int32) (hN : 600 ≤ N) (hd : d ≤ 1) (hns : ns ≤ 16) (hnS : nS ≤ 24) (hnm : nm ≤ 24) (hnr : nr ≤ 40) (hnc : nc ≤ 512) (h1 : styles d = nI ns) (h2 : sets d = nI nS) (h3 : marks d = nI nm) (h4 : runs d = nI nr) (h5 : chars d = nI nc) (hU : RelU d nr nc nm nS ns up uc kind setOf markOf styleOf many text) :
    ∃ (r : Int32) (up' uc' runs' chars' kind' setOf' markOf' styleOf' many' text' : Nat → Int32) (nr' nc' : Nat), r_F_end N x y q z (nI ns) (nI nS) (nI nm) up uc (nI nr) (nI nc) = some (r, up', uc', nI nr', nI nc') ∧
      r_Z_end N x y q z (nI d) styles sets marks runs chars kind setOf markOf styleOf many text = some (r, runs', chars', kind', setOf', markOf', styleOf', many', text') ∧ nr' ≤ 40 ∧ nc' ≤ 512 ∧ runs' d = nI nr' ∧ chars' d = nI nc' ∧ RelU d nr' nc' nm nS ns up' uc' kind' setOf' markOf' styleOf' many' text' := by
  have c : (nI d).toNatClampNeg = d := q_cl (by omega)
  by_cases hok : vp_in x nS ∧ vp_in y nm ∧ bOK ns q ∧ nr < 40 ∧ 1 ≤ z.toInt ∧ z.toInt + nc ≤ 512
  · obtain ⟨hx, hy, hq, hr, hz1, hz2⟩ := hok
    obtain ⟨n, hn, rfl⟩ := q_of (x := z) (n := 513) (q_in.mpr ⟨by omega, by omega⟩) (by decide)
    rw [q_ti (by omega)] at hz1 hz2
    obtain ⟨g, b1, b2, b3, b4, b5, b6, b7, b8⟩ := begin_t (k := 1) (s := x) (m := y) (q := q) (nc := nc) (f := up) hr
    obtain ⟨f', g', e1, e2, e3, e4, e5⟩ := loopEndC (N := N) (a := nI ns) (b := nI nS) (c := nI nm) (n := n) (nc := nc) hr (by omega) n 0 N g uc (by omega) (by omega) b8
    obtain ⟨t', t1, t2, t3⟩ := loopEndZ (N := N) (s := x) (m := y) (y := q) (styles := styles) (sets := sets) (marks := marks) (runs := runs) (kind := kind) (setOf := setOf) (markOf := markOf) (styleOf := styleOf) (many := many) (n := n) hd h5 (by omega) n 0 N text (by omega) (by omega)
    obtain ⟨s, hs, rfl⟩ := q_of hx (by omega)
    obtain ⟨m, hm, rfl⟩ := q_of hy (by omega)
    refine ⟨nI (nr + 1), f', g', upd runs d (nI (nr + 1)), upd chars d (nI (nc + n)), upd kind (40 * d + nr) 1, upd setOf (40 * d + nr) (nI s), upd markOf (40 * d + nr) (nI m), upd styleOf (40 * d + nr) q, upd many (40 * d + nr) (nI n), t', nr + 1, nc + n, ?_, ?_, by omega, by omega, upd_s _ _ _, upd_s _ _ _, ?_⟩
    · unfold r_F_end
      rw [has_t (by omega) hx, mhas_eq, has_t (by omega) hy, takes_t hr (by omega) (by omega), b1]
      simp only [Option.bind_some, if_neg q_10]
      by_cases e : q = (-1)
      · rw [if_pos e]
        exact e1
      · have hb : vp_in q ns := by
          rcases (q_bOK (by omega)).mpr hq with h | h
          · exact absurd (by rw [q_eq, h]; rfl) e
          · exact h
        rw [if_neg e, has_t (by omega) hb]
        simp only [Option.bind_some, if_neg q_10]
        exact e1
    · unfold r_Z_end
      rw [gi_n (by omega) (by decide), c, h4, if_neg (show ¬ nI nr = 40 from fun h => absurd ((nI_eq (b := 40) (by omega) (by decide)).mp h) (by omega)), zisSet _ hd hnS h2, zisMark _ hd hnm h3, has_t (by omega) hx, has_t (by omega) hy, h1, zinm_t (by omega) hq, h5]
      simp only [Option.bind_some, if_neg q_10, gi_n (show d < 2 by omega) (show 2 < 2147483648 by decide)]
      rw [if_neg (show ¬ nI n < 1 from nI_nlt (b := 1) (by omega) (by omega)), show (512 : Int32) = nI 512 from rfl, pk_sub (by omega), if_pos (nI_le (by omega) (by omega))]
      rw [show (0 : Int32) = nI 0 from rfl, t1, add_t hd (Or.inr rfl) (by omega) (by omega) (hq.mono hns) (by omega) hr h4 h5]
      rfl
    · exact hU.add (c := fun _ => 10) (by omega) (Or.inr rfl) hs hm hq (fun j hj => by rw [e2 j (by omega), b2 j hj]) (by rw [e2 _ (by omega), b3]) (by rw [e2 _ (by omega), b4]) (by rw [e2 _ (by omega), b5]) (by rw [e2 _ (by omega), b6]) (by rw [e2 _ (by omega), b7]) e3 (fun j hj => e4 j (by omega)) (fun i hi => e5 i (by omega) hi) (fun j hj => t2 j (by omega)) (fun i hi => t3 i (by omega) hi)
  · refine ⟨-1, up, uc, runs, chars, kind, setOf, markOf, styleOf, many, text, nr, nc, ?_, ?_, hnr, hnc, h4, h5, hU⟩
    · unfold r_F_end
      by_cases hx : vp_in x nS
      · rw [has_t (by omega) hx]
        simp only [Option.bind_some, if_neg q_10]
        by_cases hy : vp_in y nm
        · rw [mhas_eq, has_t (by omega) hy]
          simp only [Option.bind_some, if_neg q_10]
          by_cases hz : nr < 40 ∧ 1 ≤ z.toInt ∧ z.toInt + nc ≤ 512
          · have hq : ¬ bOK ns q := fun hq => hok ⟨hx, hy, hq, hz⟩
            obtain ⟨n, hn, rfl⟩ := q_of (x := z) (n := 513) (q_in.mpr ⟨by omega, by omega⟩) (by decide)
            rw [q_ti (by omega)] at hz
            rw [takes_t hz.1 (by omega) (by omega)]
            simp only [Option.bind_some, if_neg q_10]
            rw [if_neg (fun e => hq (Or.inl e)), has_f (by omega) (fun b => hq ((q_bOK (by omega)).mp (Or.inr b)))]
            rfl
          · rw [takes_f hnc hnr hz]
            rfl
        · rw [mhas_eq, has_f (by omega) hy]
          rfl
      · rw [has_f (by omega) hx]
        rfl
    · unfold r_Z_end
      rw [gi_n (by omega) (by decide), c, h4, h5, h1]
      by_cases hr : nr = 40
      · rw [if_pos (show nI nr = 40 by rw [hr]; rfl)]
      rw [if_neg (show ¬ nI nr = 40 from fun h => hr ((nI_eq (b := 40) (by omega) (by decide)).mp h)), zisSet _ hd hnS h2, zisMark _ hd hnm h3]
      by_cases hx : vp_in x nS
      · rw [has_t (by omega) hx]
        simp only [Option.bind_some, if_neg q_10]
        by_cases hy : vp_in y nm
        · rw [has_t (by omega) hy]
          simp only [Option.bind_some, if_neg q_10, gi_n (show d < 2 by omega) (show 2 < 2147483648 by decide)]
          by_cases hq : bOK ns q
          · rw [zinm_t (by omega) hq]
            simp only [Option.bind_some, if_neg q_10]
            by_cases hz : z < 1
            · rw [if_pos hz]
            · rw [if_neg hz, show (512 : Int32) = nI 512 from rfl, pk_sub (by omega), if_neg]
              rw [q_lt, q_1] at hz
              rw [q_le, q_ti (by omega)]
              intro h
              exact hok ⟨hx, hy, hq, by omega, by omega, by omega⟩
          · rw [zinm_f (by omega) hq]
            rfl
        · rw [has_f (by omega) hy]
          rfl
      · rw [has_f (by omega) hx]
        rfl
theorem m_type (x y : Int32) (w : Int64) (hN : 600 ≤ N) (hd : d ≤ 1) (hnS : nS ≤ 24) (hnm : nm ≤ 24) (hnr : nr ≤ 40) (hnc : nc ≤ 512) (h2 : sets d = nI nS) (h3 : marks d = nI nm) (h4 : runs d = nI nr) (h5 : chars d = nI nc) (hU : RelU d nr nc nm nS ns up uc kind setOf markOf styleOf many text) :
    ∃ (r : Int32) (up' uc' runs' chars' kind' setOf' markOf' styleOf' many' text' : Nat → Int32) (nr' nc' : Nat), r_F_type N x y w (nI nS) (nI nm) up uc (nI nr) (nI nc) = some (r, up', uc', nI nr', nI nc') ∧
      r_Z_type N x y w (nI d) sets marks runs chars kind setOf markOf styleOf many text = some (r, runs', chars', kind', setOf', markOf', styleOf', many', text') ∧ nr' ≤ 40 ∧ nc' ≤ 512 ∧ runs' d = nI nr' ∧ chars' d = nI nc' ∧ RelU d nr' nc' nm nS ns up' uc' kind' setOf' markOf' styleOf' many' text' := by
  have c : (nI d).toNatClampNeg = d := q_cl (by omega)
  have h255 : (lg_cmp (w &&& 255) 0 = 0) ↔ chF w 0 = 0 := by
    have e := zcmp w 0 (by decide)
    rw [ch_eq w 0 (by decide), ← e]
    have e2 : ((w >>> ((8 * nI 0).toInt64 &&& 63)) : Int64) = w := by
      show w >>> (0 : Int64) = w
      exact Int64.shiftRight_zero
    rw [e2]
  -- both refuse
  have ref : r_F_type N x y w (nI nS) (nI nm) up uc (nI nr) (nI nc) = some (-1, up, uc, nI nr, nI nc) → r_Z_type N x y w (nI d) sets marks runs chars kind setOf markOf styleOf many text = some (-1, runs, chars, kind, setOf, markOf, styleOf, many, text) →
      ∃ (r : Int32) (up' uc' runs' chars' kind' setOf' markOf' styleOf' many' text' : Nat → Int32) (nr' nc' : Nat), r_F_type N x y w (nI nS) (nI nm) up uc (nI nr) (nI nc) = some (r, up', uc', nI nr', nI nc') ∧
      r_Z_type N x y w (nI d) sets marks runs chars kind setOf markOf styleOf many text = some (r, runs', chars', kind', setOf', markOf', styleOf', many', text') ∧ nr' ≤ 40 ∧ nc' ≤ 512 ∧ runs' d = nI nr' ∧ chars' d = nI nc' ∧ RelU d nr' nc' nm nS ns up' uc' kind' setOf' markOf' styleOf' many' text' := fun a b => ⟨-1, up, uc, runs, chars, kind, setOf, markOf, styleOf, many, text, nr, nc, a, b, hnr, hnc, h4, h5, hU⟩
  have fref : ∀ v : Int32, r_F_textLength N w = some v → ¬ (vp_in x nS ∧ vp_in y nm ∧ nr < 40 ∧ 1 ≤ v.toInt ∧ v.toInt + nc ≤ 512) → r_F_type N x y w (nI nS) (nI nm) up uc (nI nr) (nI nc) = some (-1, up, uc, nI nr, nI nc) := by
    intro v hv h
    unfold r_F_type
    rw [hv]
    simp only [Option.bind_some]
    by_cases hx : vp_in x nS
    · rw [has_t (by omega) hx]
      simp only [Option.bind_some, if_neg q_10]
      by_cases hy : vp_in y nm
      · rw [mhas_eq, has_t (by omega) hy]
        simp only [Option.bind_some, if_neg q_10]
        rw [takes_f hnc hnr (fun hz => h ⟨hx, hy, hz⟩)]
        rfl
      · rw [mhas_eq, has_f (by omega) hy]
        rfl
    · rw [has_f (by omega) hx]
      rfl
  -- the reference, by whether its first question is good
  have zflag : ∀ R, l_Z_type_50 N x y w (nI d) sets marks runs chars kind setOf markOf styleOf many text N 0 0 = R → (chF w 0 ≠ 0 → nr < 40 → vp_in x nS → vp_in y nm → l_Z_type_50 N x y w (nI d) sets marks runs chars kind setOf markOf styleOf many text N 0 1 = R) → r_Z_type N x y w (nI d) sets marks runs chars kind setOf markOf styleOf many text = R := by
    intro R h0 hb
    unfold r_Z_type
    by_cases e0 : lg_cmp (w &&& 255) 0 = 0
    · rw [if_pos e0]; exact h0
    rw [if_neg e0, gi_n (by omega) (by decide), c, h4]
    by_cases hr : (40 : Int32) ≤ nI nr
    · rw [if_pos hr]; exact h0
    have hr' : nr < 40 := by
      rcases Nat.lt_or_ge nr 40 with h | h
      · exact h
      · exact absurd (nI_le (a := 40) h (by omega)) hr
    rw [if_neg hr, zisSet _ hd hnS h2, zisMark _ hd hnm h3]
    by_cases hx : vp_in x nS
    · rw [has_t (by omega) hx]
      simp only [Option.bind_some, if_neg q_10]
      by_cases hy : vp_in y nm
      · rw [has_t (by omega) hy]
        simp only [Option.bind_some, if_neg q_10]
        exact hb (fun h => e0 (h255.mpr h)) hr' hx hy
      · rw [has_f (by omega) hy]
        exact h0
    · rw [has_f (by omega) hx]
      exact h0
  have z0 := ztyp0 (N := N) (w := w) (s := x) (m := y) (now := nI d) (sets := sets) (marks := marks) (runs := runs) (chars := chars) (kind := kind) (setOf := setOf) (markOf := markOf) (styleOf := styleOf) (many := many) (text := text) 8 0 N (by omega) (by omega)
  rcases tlen (N := N) (w := w) 8 0 N (by omega) (by omega) with ⟨n, a1, a2, a3, a4, a5⟩ | ⟨q, a1, a2, a3, a4, a5, a6⟩
  · have ht : r_F_textLength N w = some (nI n) := a5
    by_cases hok : vp_in x nS ∧ vp_in y nm ∧ nr < 40 ∧ 1 ≤ n ∧ n + nc ≤ 512
    · obtain ⟨hx, hy, hr, hn1, hn2⟩ := hok
      obtain ⟨g, b1, b2, b3, b4, b5, b6, b7, b8⟩ := begin_t (k := 0) (s := x) (m := y) (q := -1) (nc := nc) (f := up) hr
      obtain ⟨f', g', e1, e2, e3, e4, e5⟩ := loopTypeC (N := N) (w := w) (a := nI nS) (b := nI nm) (n := n) (nc := nc) hr (by omega) a2 n 0 N g uc (by omega) (by omega) b8
      obtain ⟨t', t1, t2, t3⟩ := loopTypeZ (N := N) (w := w) (s := x) (m := y) (sets := sets) (marks := marks) (runs := runs) (kind := kind) (setOf := setOf) (markOf := markOf) (styleOf := styleOf) (many := many) (n := n) hd h5 (by omega) a2 n 0 N text (by omega) (by omega)
      have z1 := ztyp1 (N := N) (w := w) (s := x) (m := y) (now := nI d) (sets := sets) (marks := marks) (runs := runs) (chars := chars) (kind := kind) (setOf := setOf) (markOf := markOf) (styleOf := styleOf) (many := many) (text := text) a2 a4 n 0 N (by omega) (by omega) a3
      obtain ⟨s, hs, rfl⟩ := q_of hx (by omega)
      obtain ⟨m, hm, rfl⟩ := q_of hy (by omega)
      refine ⟨nI (nr + 1), f', g', upd runs d (nI (nr + 1)), upd chars d (nI (nc + n)), upd kind (40 * d + nr) 0, upd setOf (40 * d + nr) (nI s), upd markOf (40 * d + nr) (nI m), upd styleOf (40 * d + nr) (-1), upd many (40 * d + nr) (nI n), t', nr + 1, nc + n, ?_, ?_, by omega, by omega, upd_s _ _ _, upd_s _ _ _, ?_⟩
      · unfold r_F_type
        rw [ht, has_t (by omega) hx, mhas_eq, has_t (by omega) hy]
        simp only [Option.bind_some, if_neg q_10]
        rw [takes_t hr hn1 (by omega), b1]
        simp only [Option.bind_some, if_neg q_10]
        exact e1
      · unfold r_Z_type
        rw [if_neg (fun e => (a3 0 (Nat.le_refl _) (by omega)).1 (h255.mp e)), gi_n (by omega) (by decide), c, h4, if_neg (show ¬ (40 : Int32) ≤ nI nr from nI_ge (b := 40) hr (by decide)), zisSet _ hd hnS h2, zisMark _ hd hnm h3, has_t (by omega) hx, has_t (by omega) hy]
        simp only [Option.bind_some, if_neg q_10]
        rw [show l_Z_type_50 N (nI s) (nI m) w (nI d) sets marks runs chars kind setOf markOf styleOf many text N 0 1 = _ from z1, gi_n (by omega) (by decide), c, h5, nI_add, if_pos (show nI (nc + n) ≤ 512 from nI_le (b := 512) (by omega) (by decide))]
        rw [show l_Z_type_137 N (nI s) (nI m) w (nI n) (nI d) sets marks runs chars kind setOf markOf styleOf many N 0 text = _ from t1, add_t hd (Or.inl rfl) (by omega) (by omega) (Or.inl rfl) (by omega) hr h4 h5]
        rfl
      · exact hU.add (c := fun i => chF w i) hn1 (Or.inl rfl) hs hm (Or.inl rfl) (fun j hj => by rw [e2 j (by omega), b2 j hj]) (by rw [e2 _ (by omega), b3]) (by rw [e2 _ (by omega), b4]) (by rw [e2 _ (by omega), b5]) (by rw [e2 _ (by omega), b6]) (by rw [e2 _ (by omega), b7]) e3 (fun j hj => e4 j (by omega)) (fun i hi => e5 i (by omega) hi) (fun j hj => t2 j (by omega)) (fun i hi => t3 i (by omega) hi)
    · refine ref (fref (nI n) ht (fun h => hok ?_)) (zflag _ z0 (fun hc hr hx hy => ?_))
      · rw [q_ti (by omega)] at h
        exact ⟨h.1, h.2.1, h.2.2.1, by omega, by omega⟩
      · have hn1 : 1 ≤ n := by
          rcases Nat.eq_zero_or_pos n with e | e
          · subst e
            exact absurd (a4 (by omega)) hc
          · exact e
        have z1 := ztyp1 (N := N) (w := w) (s := x) (m := y) (now := nI d) (sets := sets) (marks := marks) (runs := runs) (chars := chars) (kind := kind) (setOf := setOf) (markOf := markOf) (styleOf := styleOf) (many := many) (text := text) a2 a4 n 0 N (by omega) (by omega) a3
        rw [show l_Z_type_50 N x y w (nI d) sets marks runs chars kind setOf markOf styleOf many text N 0 1 = _ from z1, gi_n (by omega) (by decide), c, h5, nI_add, if_neg]
        intro h
        have h := (nI_leI (a := nc + n) (b := 512) (by omega) (by decide)).mp h
        exact hok ⟨hx, hy, hr, hn1, by omega⟩
  · refine ref (fref 0 a6 (fun h => ?_)) (zflag _ z0 (fun hc hr hx hy => ?_))
    · rw [q_0] at h
      omega
    · exact ztypB (N := N) (w := w) (s := x) (m := y) (now := nI d) (sets := sets) (marks := marks) (runs := runs) (chars := chars) (kind := kind) (setOf := setOf) (markOf := markOf) (styleOf := styleOf) (many := many) (text := text) a2 a4 a5 q 0 N (by omega) (by omega) a3
end
