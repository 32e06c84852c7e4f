/-! pure: save, whole -/
section
variable {N d nS nm nr nc ns : Nat} {sv tv own mp ins era old bs up uc kind setOf markOf styleOf many text runs styles base : Nat → Int32} {ln : Nat → Nat}
/-- a run that begins a group -/
def Hd (nS nm nr : Nat) (tv mp up : Nat → Int32) (r : Nat) : Prop := r < nr → r = 0 ∨ ¬ Sr nS nm tv mp up (r - 1) r
theorem hd_goes {r : Nat} (hN : 50 ≤ N) (hnS : nS ≤ 24) (hnm : nm ≤ 24) (hnr : nr ≤ 40) (hr : r < nr) (hM : RelM d nm nS mp ins era old) (hA : ∀ i, i < nr → RunAt d nS nm ns up kind setOf markOf styleOf many ln i) (h : Hd nS nm nr tv mp up r) : r_D_goesOn N (nI r) 576 tv (nI nS) mp (nI nm) up (nI nr) = some 0 := by
  rcases h hr with e | e
  · rw [e]; exact goesOn_0
  · by_cases e0 : r = 0
    · rw [e0]; exact goesOn_0
    · obtain ⟨i, rfl⟩ : ∃ i, r = i + 1 := ⟨r - 1, by omega⟩
      rw [Nat.add_sub_cancel] at e
      exact goesOn_f hN hnS hnm hnr hr hM hA e
theorem Gr.next {r g : Nat} (h : Gr nS nm nr tv mp up r g) : Hd nS nm nr tv mp up (r + g) := fun hr => Or.inr (h.2.2.2 hr)
theorem cskip {r g c : Nat} (hN : 50 ≤ N) (hnS : nS ≤ 24) (hnm : nm ≤ 24) (hnr : nr ≤ 40) (hM : RelM d nm nS mp ins era old) (hG : Gr nS nm nr tv mp up r g) : ∀ (k j fu : Nat), j + 1 + k = g → l_W_joinedRuns_4 N 576 tv (nI nS) mp (nI nm) up (nI nr) (fu + k) (nI c) (nI (r + j + 1)) = l_W_joinedRuns_4 N 576 tv (nI nS) mp (nI nm) up (nI nr) fu (nI c) (nI (r + g)) := by
  obtain ⟨g1, g2, g3, g4⟩ := hG
  intro k
  induction k with
  | zero =>
    intro j fu hk
    rw [show r + j + 1 = r + g by omega]
    rfl
  | succ k ih =>
    intro j fu hk
    rw [show fu + (k + 1) = (fu + k) + 1 from rfl, l_W_joinedRuns_4]
    show (if nI nr ≤ nI (r + j + 1) then _ else _) = _
    rw [if_neg (nI_ge (by omega) (by omega)), goesOn_t (ln := fun _ => 0) hN hnS hnm hnr (by omega) hM (g3 j (by omega))]
    simp only [Option.bind_some, if_neg q_10]
    rw [nI_1]
    exact ih (j + 1) fu (by omega)
theorem wskip {r g : Nat} {oc so mo : Nat → Int32} {len c1 c2 : Int32} (hN : 50 ≤ N) (hnS : nS ≤ 24) (hnm : nm ≤ 24) (hnr : nr ≤ 40) (hM : RelM d nm nS mp ins era old) (hG : Gr nS nm nr tv mp up r g) : ∀ (k j fu : Nat), j + 1 + k = g → l_W_write_64 N 384 sv (nI ns) 576 tv (nI nS) mp (nI nm) up uc (nI nr) (nI nc) bs (fu + k) (nI (r + j + 1)) oc len so mo c1 c2 = l_W_write_64 N 384 sv (nI ns) 576 tv (nI nS) mp (nI nm) up uc (nI nr) (nI nc) bs fu (nI (r + g)) oc len so mo c1 c2 := by
  obtain ⟨g1, g2, g3, g4⟩ := hG
  intro k
  induction k with
  | zero =>
    intro j fu hk
    rw [show r + j + 1 = r + g by omega]
    rfl
  | succ k ih =>
    intro j fu hk
    rw [show fu + (k + 1) = (fu + k) + 1 from rfl, l_W_write_64]
    show (if nI nr ≤ nI (r + j + 1) then _ else _) = _
    rw [if_neg (nI_ge (by omega) (by omega)), goesOn_t (ln := fun _ => 0) hN hnS hnm hnr (by omega) hM (g3 j (by omega))]
    simp only [Option.bind_some, if_neg q_10]
    rw [nI_1]
    exact ih (j + 1) fu (by omega)
theorem count_pair {len ws wm : Int32} {fl sn mn : Nat → Int32} (hN : 600 ≤ N) (hd : d ≤ 1) (hnS : nS ≤ 24) (hnm : nm ≤ 24) (hnr : nr ≤ 40) (h4 : runs d = nI nr) (hT : RelT d nS tv own) (hM : RelM d nm nS mp ins era old) (hA : ∀ i, i < nr → RunAt d nS nm ns up kind setOf markOf styleOf many ln i) :
    ∀ (k r c fu gu : Nat), r + k = nr → k < fu → k < gu → c ≤ r → Hd nS nm nr tv mp up r → ∃ t, t ≤ nr ∧ l_W_joinedRuns_4 N 576 tv (nI nS) mp (nI nm) up (nI nr) fu (nI c) (nI r) = some (nI t) ∧
      l_Z_save_131 N len fl (nI d) styles runs base own ins era old kind setOf markOf styleOf many text sn mn ws wm gu (nI c) (nI r) = (r_Z_number (nI t) len fl).bind (fun z => l_Z_save_174 N (nI d) styles runs base own ins era old kind setOf markOf styleOf many text N (512 * nI d) 0 z.1 z.2 sn mn ws wm) := by
  have c0 : (nI d).toNatClampNeg = d := q_cl (by omega)
  intro k
  induction k using Nat.strongRecOn with
  | ind k ih =>
    intro r c fu gu hk hf hg hc hH
    obtain ⟨gu, rfl⟩ : ∃ z, gu = z + 1 := ⟨gu - 1, by omega⟩
    by_cases e : k = 0
    · obtain ⟨fu, rfl⟩ : ∃ z, fu = z + 1 := ⟨fu - 1, by omega⟩
      refine ⟨c, by omega, ?_, ?_⟩
      · rw [l_W_joinedRuns_4]
        show (if nI nr ≤ nI r then _ else _) = _
        rw [if_pos (nI_le (by omega) (by omega))]
      · rw [l_Z_save_131, gi_n (by omega) (by decide), c0, h4, if_pos (nI_le (by omega) (by omega))]
    · obtain ⟨g, hG, hJ⟩ := joined_t (N := N) (tv := tv) (ln := ln) (by omega) hd hnS hnm hnr (show r < nr by omega) h4 hT hM hA
      have g1 := hG.1
      have g2 := hG.2.1
      obtain ⟨t, t1, t2, t3⟩ := ih (k - g) (by omega) (r + g) (c + 1) (fu - g) gu (by omega) (by omega) (by omega) (by omega) hG.next
      refine ⟨t, t1, ?_, ?_⟩
      · obtain ⟨f0, hf0⟩ : ∃ z, fu = z + (g - 1) + 1 := ⟨fu - g, by omega⟩
        rw [hf0, l_W_joinedRuns_4]
        show (if nI nr ≤ nI r then _ else _) = _
        rw [if_neg (nI_ge (by omega) (by omega)), hd_goes (by omega) hnS hnm hnr (by omega) hM hA hH]
        simp only [Option.bind_some, if_true]
        rw [nI_1, nI_1, show r + 1 = r + 0 + 1 from rfl, cskip (N := N) (by omega) hnS hnm hnr hM hG (g - 1) 0 f0 (by omega)]
        rw [show f0 = fu - g by omega]
        exact t2
      · rw [l_Z_save_131, gi_n (by omega) (by decide), c0, h4, if_neg (nI_ge (by omega) (by omega)), hJ]
        simp only [Option.bind_some]
        rw [nI_1, nI_add]
        exact t3
theorem write_pair (hN : 600 ≤ N) (hd : d ≤ 1) (hns : ns ≤ 16) (hnS : nS ≤ 24) (hnm : nm ≤ 24) (hnr : nr ≤ 40) (hnc : nc ≤ 512) (h4 : runs d = nI nr) (hT : RelT d nS tv own) (hM : RelM d nm nS mp ins era old) (hA : ∀ i, i < nr → RunAt d nS nm ns up kind setOf markOf styleOf many ln i) (hl : sumL ln nr = nc) (hC : ∀ j, j < nc → uc j = text (512 * d + j)) :
    ∀ (k r fu gu n cnt mc : Nat) (so sn mo mn oc fl : Nat → Int32), r + k = nr → k < fu → k < gu → Hd nS nm nr tv mp up r → RSet nS cnt tv so sn → RMark nm nS mc tv mp mo mn → RelF n oc fl → n ≤ 1189 + 6 * r + sumL ln r + 73 * cnt + 5 * mc → ∃ (oc' fl' so' sn' mo' mn' : Nat → Int32) (n' cnt' mc' : Nat),
      l_W_write_64 N 384 sv (nI ns) 576 tv (nI nS) mp (nI nm) up uc (nI nr) (nI nc) bs fu (nI r) oc (nI n) so mo (nI cnt) (nI mc) = some (oc', nI n', so', mo', nI cnt', nI mc') ∧
      l_Z_save_174 N (nI d) styles runs base own ins era old kind setOf markOf styleOf many text gu (nI (512 * d + sumL ln r)) (nI r) (nI n) fl sn mn (nI cnt) (nI mc) = some (nI n', nI n', fl', sn', mn', nI cnt', nI mc') ∧ RelF n' oc' fl' ∧ n' ≤ 6000 := by
  have c0 : (nI d).toNatClampNeg = d := q_cl (by omega)
  intro k
  induction k using Nat.strongRecOn with
  | ind k ih =>
    intro r fu gu n cnt mc so sn mo mn oc fl hk hf hg hH hR hQ hF hn
    have hcl := hR.cnt_le
    have hml := hQ.cnt_le
    have hls : sumL ln r ≤ nc := by rw [← hl]; exact sumL_le (by omega)
    obtain ⟨gu, rfl⟩ : ∃ z, gu = z + 1 := ⟨gu - 1, by omega⟩
    by_cases e : k = 0
    · obtain ⟨fu, rfl⟩ : ∃ z, fu = z + 1 := ⟨fu - 1, by omega⟩
      refine ⟨oc, fl, so, sn, mo, mn, n, cnt, mc, ?_, ?_, hF, by omega⟩
      · rw [l_W_write_64]
        show (if nI nr ≤ nI r then _ else _) = _
        rw [if_pos (nI_le (by omega) (by omega))]
      · rw [l_Z_save_174, gi_n (by omega) (by decide), c0, h4, if_pos (nI_le (by omega) (by omega))]
    · obtain ⟨g, hG, hJ⟩ := joined_t (N := N) (tv := tv) (ln := ln) (by omega) hd hnS hnm hnr (show r < nr by omega) h4 hT hM hA
      have g1 := hG.1
      have g2 := hG.2.1
      obtain ⟨o1, f1, so1, sn1, mo1, mn1, n1, cnt1, mc1, a1, a2, a3, a4, a5, a6, a7, a8⟩ := run_pair (N := N) (styles := styles) (base := base) hN hd hns hnS hnm hnr hnc (show r < nr by omega) h4 hT hM hA hl hC hG hJ hR hQ hF hn
      obtain ⟨oc', fl', so', sn', mo', mn', n', cnt', mc', b1, b2, b3, b4⟩ := ih (k - g) (by omega) (r + g) (fu - g) gu n1 cnt1 mc1 so1 sn1 mo1 mn1 o1 f1 (by omega) (by omega) (by omega) hG.next a4 a5 a3 (by omega)
      refine ⟨oc', fl', so', sn', mo', mn', n', cnt', mc', ?_, ?_, b3, b4⟩
      · obtain ⟨f0, hf0⟩ : ∃ z, fu = z + (g - 1) + 1 := ⟨fu - g, by omega⟩
        rw [hf0, l_W_write_64]
        show (if nI nr ≤ nI r then _ else _) = _
        rw [if_neg (nI_ge (by omega) (by omega)), hd_goes (by omega) hnS hnm hnr (by omega) hM hA hH]
        simp only [Option.bind_some, if_true]
        rw [a1]
        simp only [Option.bind_some]
        rw [nI_1, show r + 1 = r + 0 + 1 from rfl, wskip (N := N) (by omega) hnS hnm hnr hM hG (g - 1) 0 f0 (by omega)]
        rw [show f0 = fu - g by omega]
        exact b1
      · rw [a2 gu]
        exact b2
theorem styles_pair {len0 : Nat} {sn mn : Nat → Int32} {ws wm : Int32} (hN : 600 ≤ N) (hd : d ≤ 1) (hns : ns ≤ 16) (h1 : styles d = nI ns) (hS : RelS d ns sv bs base own) :
    ∀ (k i fu gu n : Nat) (oc fl : Nat → Int32), i + k = ns → k < fu → k < gu → RelF n oc fl → n + 74 * k ≤ 6000 → ∃ (oc' fl' : Nat → Int32) (n' : Nat), l_W_writeStyles_13 N 384 sv (nI ns) bs fu (nI i) oc (nI n) = some (oc', nI n') ∧
      l_Z_save_75 N (nI d) styles runs base own ins era old kind setOf markOf styleOf many text sn mn ws wm gu (nI i) (nI n) fl = l_Z_save_131 N (nI n') fl' (nI d) styles runs base own ins era old kind setOf markOf styleOf many text sn mn ws wm N 0 0 ∧ RelF n' oc' fl' ∧ n' ≤ n + 74 * k := by
  have c0 : (nI d).toNatClampNeg = d := q_cl (by omega)
  intro k
  induction k with
  | zero =>
    intro i fu gu n oc fl hk hf hg hF hn
    obtain ⟨fu, rfl⟩ : ∃ z, fu = z + 1 := ⟨fu - 1, by omega⟩
    obtain ⟨gu, rfl⟩ : ∃ z, gu = z + 1 := ⟨gu - 1, by omega⟩
    refine ⟨oc, fl, n, ?_, ?_, hF, by omega⟩
    · rw [l_W_writeStyles_13]
      show (if nI ns ≤ nI i then _ else _) = _
      rw [if_pos (nI_le (by omega) (by omega))]
    · rw [l_Z_save_75, gi_n (by omega) (by decide), c0, h1, if_pos (nI_le (by omega) (by omega))]
  | succ k ih =>
    intro i fu gu n oc fl hk hf hg hF hn
    obtain ⟨fu, rfl⟩ : ∃ z, fu = z + 1 := ⟨fu - 1, by omega⟩
    obtain ⟨gu, rfl⟩ : ∃ z, gu = z + 1 := ⟨gu - 1, by omega⟩
    obtain ⟨s1, s2, s3⟩ := hS i (by omega)
    obtain ⟨st, hst, est⟩ : ∃ st : Nat, st ≤ 16 ∧ bs i + 1 = nI st := by
      rcases s2 with e | ⟨j, hj, e⟩
      · exact ⟨0, by omega, by rw [e]; rfl⟩
      · exact ⟨j + 1, by omega, by rw [e, nI_1]⟩
    obtain ⟨o1, f1, a1, a2, a3⟩ := num_pair (k := st) hF (by omega) (by rw [nb1 (by omega)]; omega)
    rw [nb1 (show st < 128 by omega)] at a1 a2 a3
    obtain ⟨o2, f2, n2, b1, b2, b3, b4⟩ := props_pair (N := N) (nv := 384) (r := ns) (j := i) (f := sv) (own := own) (a := 960 * d + 24 * i) (by omega) (by omega) (by omega) (by omega) (by omega) (by omega) (fun p hp => by rw [Nat.add_assoc]; exact s3 p hp) a3 (by omega)
    obtain ⟨oc', fl', n', e1, e2, e3, e4⟩ := ih (i + 1) fu gu n2 o2 f2 (by omega) (by omega) (by omega) b3 (by omega)
    refine ⟨oc', fl', n', ?_, ?_, e3, by omega⟩
    · rw [l_W_writeStyles_13]
      show (if nI ns ≤ nI i then _ else _) = _
      rw [if_neg (nI_ge (by omega) (by omega))]
      have hb : r_D_baseOf (nI i) (nI ns) bs = some (bs i) := by
        unfold r_D_baseOf
        rw [has_t (by omega) (vp_in_nI (by omega) (by omega))]
        simp only [Option.bind_some, if_neg q_10]
        rw [if_neg (show ¬ (16 : Int32) ≤ nI i from nI_ge (b := 16) (by omega) (by decide)), gi_n (by omega) (by decide), q_cl (by omega)]
      rw [hb]
      simp only [Option.bind_some]
      rw [est, a1]
      simp only [Option.bind_some]
      rw [b1]
      simp only [Option.bind_some]
      rw [nI_1]
      exact e1
    · rw [l_Z_save_75, gi_n (by omega) (by decide), c0, h1, if_neg (nI_ge (by omega) (by omega)), show (16 : Int32) = nI 16 from rfl, q_iz, gi_n (by omega) (by decide), q_cl (by omega), ← s1, est, a2, q_zrow0]
      simp only [Option.bind_some]
      rw [b2]
      simp only [Option.bind_some]
      rw [nI_1]
      exact e2
theorem clear24 {len ws wm : Int32} {fl : Nat → Int32} : ∀ (k i fu : Nat) (sn mn : Nat → Int32), i + k = 24 → k < fu → ∃ sn' mn' : Nat → Int32, (∀ q, i ≤ q → q < 24 → sn' q = 0) ∧ (∀ q, i ≤ q → q < 24 → mn' q = 0) ∧ (∀ q, q < i → sn' q = sn q) ∧ (∀ q, q < i → mn' q = mn q) ∧
    l_Z_save_17 N len fl (nI d) styles runs base own ins era old kind setOf markOf styleOf many text ws wm fu (nI i) sn mn = l_Z_save_17 N len fl (nI d) styles runs base own ins era old kind setOf markOf styleOf many text ws wm (fu - k) (nI 24) sn' mn' := by
  intro k
  induction k with
  | zero =>
    intro i fu sn mn hk hf
    obtain rfl : i = 24 := by omega
    exact ⟨sn, mn, fun q a b => absurd a (by omega), fun q a b => absurd a (by omega), fun _ _ => rfl, fun _ _ => rfl, rfl⟩
  | succ k ih =>
    intro i fu sn mn hk hf
    obtain ⟨fu, rfl⟩ : ∃ z, fu = z + 1 := ⟨fu - 1, by omega⟩
    obtain ⟨sn', mn', a1, a2, a3, a4, a5⟩ := ih (i + 1) fu (upd sn i 0) (upd mn i 0) (by omega) (by omega)
    refine ⟨sn', mn', fun q h1 h2 => ?_, fun q h1 h2 => ?_, fun q hq => by rw [a3 q (by omega), upd_n _ _ (by omega)], fun q hq => by rw [a4 q (by omega), upd_n _ _ (by omega)], ?_⟩
    · by_cases e : q = i
      · rw [e, a3 i (by omega), upd_s]
      · exact a1 q (by omega) h2
    · by_cases e : q = i
      · rw [e, a4 i (by omega), upd_s]
      · exact a2 q (by omega) h2
    · rw [l_Z_save_17, if_neg (show ¬ (24 : Int32) ≤ nI i from nI_ge (b := 24) (by omega) (by decide)), gi_n (by omega) (by decide), gi_n (by omega) (by decide), q_cl (by omega), nI_1, a5, show fu + 1 - (k + 1) = fu - k by omega]
end
