/-! pure: save -/
section
variable {N d nS nm nr nc ns : Nat} {sv tv own mp ins era old bs up uc kind setOf markOf styleOf many text runs styles base : Nat → Int32} {ln : Nat → Nat}
theorem run_pair {r g n cnt mc : Nat} {so sn mo mn oc fl : Nat → Int32} (hN : 600 ≤ N) (hd : d ≤ 1) (hns : ns ≤ 16) (hnS : nS ≤ 24) (hnm : nm ≤ 24) (hnr : nr ≤ 40) (hnc : nc ≤ 512) (hr : r < nr) (h4 : runs d = nI nr) (hT : RelT d nS tv own) (hM : RelM d nm nS mp ins era old) (hA : ∀ i, i < nr → RunAt d nS nm ns up kind setOf markOf styleOf many ln i) (hl : sumL ln nr = nc) (hC : ∀ j, j < nc → uc j = text (512 * d + j))
    (hG : Gr nS nm nr tv mp up r g) (hJ : r_Z_joined N (nI r) (nI d) runs own ins era old kind setOf markOf styleOf = some (nI g)) (hR : RSet nS cnt tv so sn) (hQ : RMark nm nS mc tv mp mo mn) (hF : RelF n oc fl) (hn : n ≤ 1189 + 6 * r + sumL ln r + 73 * cnt + 5 * mc) :
    ∃ (oc' fl' so' sn' mo' mn' : Nat → Int32) (n' cnt' mc' : Nat), r_W_writeRun N (nI r) oc (nI n) so mo (nI cnt) (nI mc) 576 tv (nI nS) mp (nI nm) up uc (nI nr) (nI nc) = some (oc', nI n', so', mo', nI cnt', nI mc') ∧
      (∀ fu, l_Z_save_174 N (nI d) styles runs base own ins era old kind setOf markOf styleOf many text (fu + 1) (nI (512 * d + sumL ln r)) (nI r) (nI n) fl sn mn (nI cnt) (nI mc) = l_Z_save_174 N (nI d) styles runs base own ins era old kind setOf markOf styleOf many text fu (nI (512 * d + sumL ln (r + g))) (nI (r + g)) (nI n') fl' sn' mn' (nI cnt') (nI mc')) ∧
      RelF n' oc' fl' ∧ RSet nS cnt' tv so' sn' ∧ RMark nm nS mc' tv mp mo' mn' ∧ cnt ≤ cnt' ∧ mc ≤ mc' ∧ n' + 73 * cnt + 5 * mc + sumL ln r ≤ n + 6 + 73 * cnt' + 5 * mc' + sumL ln (r + g) := by
  have c : (nI d).toNatClampNeg = d := q_cl (by omega)
  have hg := hG.1
  have hg2 := hG.2.1
  obtain ⟨x0, x1, x2, x3, ⟨s, hs, es⟩, x4, ⟨q, hq, eq⟩, x5, x6, x7, x8, x9⟩ := hA r hr
  have hle : sumL ln r ≤ sumL ln (r + g) := sumL_le (by omega)
  have hle2 : sumL ln (r + g) ≤ nc := by rw [← hl]; exact sumL_le hg2
  have hpos : sumL ln r < sumL ln (r + g) := by
    have := sumL_le (ln := ln) (show r + 1 ≤ r + g by omega)
    rw [sumL_s] at this
    omega
  have hcl := hR.cnt_le
  have hml := hQ.cnt_le
  have hJl := jlen (N := N) (tv := tv) (ln := ln) (by omega) hnS hnm hnr hr hM hA hG
  have hjz := @jlenZ
  -- the kind
  have hkind : up (6 * r) = nI (if up (6 * r) = 0 then 0 else 1) := by
    rcases x2 with e | e
    · rw [e, if_pos rfl]; rfl
    · rw [e, if_neg q_10]; rfl
  obtain ⟨bk, hbk, ebk⟩ : ∃ bk : Nat, bk ≤ 1 ∧ up (6 * r) = nI bk := by
    rcases x2 with e | e
    · exact ⟨0, by omega, e⟩
    · exact ⟨1, by omega, e⟩
  obtain ⟨o1, fl1, a1, a2, a3⟩ := num_pair (k := bk) hF (by omega) (by rw [nb1 (by omega)]; omega)
  rw [nb1 (show bk < 128 by omega)] at a1 a2 a3
  -- behind the style: set, mark, number, characters
  have rest : ∀ (n1 : Nat) (oc1 f1 : Nat → Int32), RelF n1 oc1 f1 → n1 ≤ n + 2 → ∃ (oc' fl' so' sn' mo' mn' : Nat → Int32) (n' cnt' mc' : Nat), j_W_writeRun_35 N 576 tv (nI nS) mp (nI nm) up uc (nI nr) (nI nc) (nI r) (nI bk) oc1 (nI n1) so mo (nI cnt) (nI mc) = some (oc', nI n', so', mo', nI cnt', nI mc') ∧
      (∀ K : Int32 → Int32 → Int32 → (Nat → Int32) → (Nat → Int32) → (Nat → Int32) → Int32 → Int32 → Option (Int32 × Int32 × (Nat → Int32) × (Nat → Int32) × (Nat → Int32) × Int32 × Int32), (r_Z_setOut N (nI s) 0 (nI n1) f1 (nI d) own sn (nI cnt)).bind (fun z59 => (r_Z_markOut N (nI q) z59.1 z59.2.1 (nI d) own ins era old z59.2.2.1 mn z59.2.2.2 (nI mc)).bind (fun z61 => l_Z_save_262 K N (nI (512 * d + sumL ln r)) (nI r) (nI (40 * d + r)) z61.1 z61.2.1 (nI d) styles runs base own ins era old kind setOf markOf styleOf many text z61.2.2.1 z61.2.2.2.1 z61.2.2.2.2.1 z61.2.2.2.2.2 N 0 0)) = K (nI (512 * d + sumL ln (r + g))) (nI (r + g)) (nI n') fl' sn' mn' (nI cnt') (nI mc')) ∧
      RelF n' oc' fl' ∧ RSet nS cnt' tv so' sn' ∧ RMark nm nS mc' tv mp mo' mn' ∧ cnt ≤ cnt' ∧ mc ≤ mc' ∧ n' + 73 * cnt + 5 * mc + sumL ln r ≤ n + 6 + 73 * cnt' + 5 * mc' + sumL ln (r + g) := by
    intro n1 oc1 f1 hF1 hn1
    obtain ⟨o2, f2, so2, sn2, n2, cnt2, b1, b2, b3, b4, b5, b6⟩ := set_pair (N := N) (s := s) (s' := s) (h := 0) (by omega) hd hnS hs hs Sm.rfl (by omega) hT hR hF1 (by omega)
    have hcl2 := b4.cnt_le
    obtain ⟨o3, f3, so3, sn3, mo3, mn3, n3, cnt3, mc3, c1, c2, c3, c4, c5, c6, c7, c8⟩ := mark_pair (N := N) (s := q) (by omega) hd hnS hnm hq hT hM b4 hQ b3 (by omega)
    have hcl3 := c4.cnt_le
    have hml3 := c5.cnt_le
    have hnb : nb (sumL ln (r + g) - sumL ln r) ≤ 2 := nb2 (by omega)
    obtain ⟨o4, f4, d1, d2, d3⟩ := num_pair (k := sumL ln (r + g) - sumL ln r) c3 (by omega) (by omega)
    have hz := fun K => jlenZ (N := N) (K := K) (pl := nI (512 * d + sumL ln r)) (len := nI n3) (ws := nI cnt3) (wm := nI mc3) (fl := f3) (sn := sn3) (mn := mn3) (styles := styles) (base := base) (text := text) (ln := ln) hd hnr hA hg2 hJ g 0 N (by omega) (by omega)
    simp only [Nat.add_zero, Nat.sub_self] at hz
    -- characters
    rcases (show bk = 0 ∨ bk = 1 by omega) with e | e
    · subst e
      have hk0 : kind (40 * d + r) = 0 := by rw [← x1, ebk]; rfl
      obtain ⟨o5, f5, e1, e2, e3⟩ := chars_pair (N := N) (nS := nS) (nm := nm) (tv := tv) (mp := mp) (up := up) (styles := styles) (base := base) (many := many) (c1 := nI cnt3) (c2 := nI mc3) (ws := nI cnt3) (wm := nI mc3) (sn := sn3) (mn := mn3) (so := so3) (mo := mo3) (m := sumL ln (r + g) - sumL ln r) (s0 := sumL ln r) hd hnr hnc hr hk0 (by omega) hC hJ (sumL ln (r + g) - sumL ln r) 0 N N (n3 + nb (sumL ln (r + g) - sumL ln r)) o4 f4 (by omega) (by omega) (by omega) d3 (by omega)
      refine ⟨o5, f5, so3, sn3, mo3, mn3, n3 + nb (sumL ln (r + g) - sumL ln r) + (sumL ln (r + g) - sumL ln r), cnt3, mc3, ?_, fun K => ?_, e3, c4, c5, by omega, c7, by omega⟩
      · unfold j_W_writeRun_35
        rw [show (1 : Int32) = nI 1 from rfl, show (2 : Int32) = nI 2 from rfl, show (4 : Int32) = nI 4 from rfl, upart_t hnr hr (by decide), upart_t hnr hr (by decide), upart_t hnr hr (by decide), es, eq, x7]
        simp only [Option.bind_some]
        rw [show r_W_writeSet N (nI s) 0 oc1 (nI n1) so (nI cnt) 576 tv (nI nS) = _ from b1]
        simp only [Option.bind_some]
        rw [c1]
        simp only [Option.bind_some]
        rw [hJl]
        simp only [Option.bind_some]
        rw [d1]
        exact e1
      · rw [show r_Z_setOut N (nI s) 0 (nI n1) f1 (nI d) own sn (nI cnt) = _ from b2]
        simp only [Option.bind_some]
        rw [c2]
        simp only [Option.bind_some]
        rw [show l_Z_save_262 K N (nI (512 * d + sumL ln r)) (nI r) (nI (40 * d + r)) (nI n3) f3 (nI d) styles runs base own ins era old kind setOf markOf styleOf many text sn3 mn3 (nI cnt3) (nI mc3) N 0 0 = _ from hz K, d2]
        simp only [Option.bind_some]
        rw [show l_Z_save_302 K N (nI (512 * d + sumL ln r)) (nI r) (nI (40 * d + r)) (nI (sumL ln (r + g) - sumL ln r)) (nI d) styles runs base own ins era old kind setOf markOf styleOf many text sn3 mn3 (nI cnt3) (nI mc3) N 0 (nI (n3 + nb (sumL ln (r + g) - sumL ln r))) f4 = _ from e2 K, show 512 * d + sumL ln r + (sumL ln (r + g) - sumL ln r) = 512 * d + sumL ln (r + g) by omega]
    · subst e
      have hk1 : kind (40 * d + r) = 1 := by rw [← x1, ebk]; rfl
      refine ⟨o4, f4, so3, sn3, mo3, mn3, n3 + nb (sumL ln (r + g) - sumL ln r), cnt3, mc3, ?_, fun K => ?_, d3, c4, c5, by omega, c7, by omega⟩
      · unfold j_W_writeRun_35
        rw [show (1 : Int32) = nI 1 from rfl, show (2 : Int32) = nI 2 from rfl, show (4 : Int32) = nI 4 from rfl, upart_t hnr hr (by decide), upart_t hnr hr (by decide), upart_t hnr hr (by decide), es, eq, x7]
        simp only [Option.bind_some]
        rw [show r_W_writeSet N (nI s) 0 oc1 (nI n1) so (nI cnt) 576 tv (nI nS) = _ from b1]
        simp only [Option.bind_some]
        rw [c1]
        simp only [Option.bind_some]
        rw [hJl]
        simp only [Option.bind_some]
        rw [d1]
        simp only [Option.bind_some]
        obtain ⟨M, rfl⟩ : ∃ z, N = z + 1 := ⟨N - 1, by omega⟩
        rw [l_W_writeRun_92, if_neg (show ¬ nI 1 = 0 by decide)]
      · rw [show r_Z_setOut N (nI s) 0 (nI n1) f1 (nI d) own sn (nI cnt) = _ from b2]
        simp only [Option.bind_some]
        rw [c2]
        simp only [Option.bind_some]
        rw [show l_Z_save_262 K N (nI (512 * d + sumL ln r)) (nI r) (nI (40 * d + r)) (nI n3) f3 (nI d) styles runs base own ins era old kind setOf markOf styleOf many text sn3 mn3 (nI cnt3) (nI mc3) N 0 0 = _ from hz K, d2]
        simp only [Option.bind_some]
        have hun : ∀ M x y z w, l_Z_save_302 K N x (nI r) (nI (40 * d + r)) (nI (sumL ln (r + g) - sumL ln r)) (nI d) styles runs base own ins era old kind setOf markOf styleOf many text sn3 mn3 (nI cnt3) (nI mc3) (M + 1) 0 y z = w ↔ (r_Z_joined N (nI r) (nI d) runs own ins era old kind setOf markOf styleOf).bind (fun z45 => K (x + nI (sumL ln (r + g) - sumL ln r)) (nI r + z45) y z sn3 mn3 (nI cnt3) (nI mc3)) = w := by
          intro M x y z w
          rw [l_Z_save_302, if_neg (show ¬ nI (sumL ln (r + g) - sumL ln r) ≤ 0 from nI_nle (by omega) (by omega)), gi_n (by omega) (by decide), q_cl (by omega), hk1, if_neg q_10]
        obtain ⟨M, hM2⟩ : ∃ z, N = z + 1 := ⟨N - 1, by omega⟩
        have := (hun M (nI (512 * d + sumL ln r)) (nI (n3 + nb (sumL ln (r + g) - sumL ln r))) f4 (K (nI (512 * d + sumL ln (r + g))) (nI (r + g)) (nI (n3 + nb (sumL ln (r + g) - sumL ln r))) f4 sn3 mn3 (nI cnt3) (nI mc3))).mpr (by
          rw [hJ]
          simp only [Option.bind_some]
          rw [nI_add, nI_add, show 512 * d + sumL ln r + (sumL ln (r + g) - sumL ln r) = 512 * d + sumL ln (r + g) by omega])
        rw [← hM2] at this
        exact this
  -- the two roads
  have hZ0 : ∀ fu, l_Z_save_174 N (nI d) styles runs base own ins era old kind setOf markOf styleOf many text (fu + 1) (nI (512 * d + sumL ln r)) (nI r) (nI n) fl sn mn (nI cnt) (nI mc) = (if nI bk = 1 then (r_Z_number (up (6 * r + 3) + 1) (nI (n + 1)) fl1).bind (fun z63 => (r_Z_setOut N (nI s) 0 z63.1 z63.2 (nI d) own sn (nI cnt)).bind (fun z59 => (r_Z_markOut N (nI q) z59.1 z59.2.1 (nI d) own ins era old z59.2.2.1 mn z59.2.2.2 (nI mc)).bind (fun z61 => l_Z_save_262 (fun b0 b1 b2 b3 b4 b5 b6 b7 => l_Z_save_174 N (nI d) styles runs base own ins era old kind setOf markOf styleOf many text fu b0 b1 b2 b3 b4 b5 b6 b7) N (nI (512 * d + sumL ln r)) (nI r) (nI (40 * d + r)) z61.1 z61.2.1 (nI d) styles runs base own ins era old kind setOf markOf styleOf many text z61.2.2.1 z61.2.2.2.1 z61.2.2.2.2.1 z61.2.2.2.2.2 N 0 0)))
      else (r_Z_setOut N (nI s) 0 (nI (n + 1)) fl1 (nI d) own sn (nI cnt)).bind (fun z59 => (r_Z_markOut N (nI q) z59.1 z59.2.1 (nI d) own ins era old z59.2.2.1 mn z59.2.2.2 (nI mc)).bind (fun z61 => l_Z_save_262 (fun b0 b1 b2 b3 b4 b5 b6 b7 => l_Z_save_174 N (nI d) styles runs base own ins era old kind setOf markOf styleOf many text fu b0 b1 b2 b3 b4 b5 b6 b7) N (nI (512 * d + sumL ln r)) (nI r) (nI (40 * d + r)) z61.1 z61.2.1 (nI d) styles runs base own ins era old kind setOf markOf styleOf many text z61.2.2.1 z61.2.2.2.1 z61.2.2.2.2.1 z61.2.2.2.2.2 N 0 0))) := by
    intro fu
    rw [l_Z_save_174, gi_n (by omega) (by decide), c, h4, if_neg (nI_ge (by omega) (by omega)), show (40 : Int32) = nI 40 from rfl, q_iz]
    simp only [gi_n (show 40 * d + r < 80 by omega) (show 80 < 2147483648 by decide), q_cl (show 40 * d + r < 2147483648 by omega), ← x1, ← x3, ← x4, ← x5, ebk, es, eq]
    rw [a2]
    simp only [Option.bind_some]
  by_cases hb1 : bk = 1
  · -- an end run: its style
    obtain ⟨st, hst, est⟩ : ∃ st : Nat, st ≤ 16 ∧ up (6 * r + 3) + 1 = nI st := by
      rcases x6 with e | ⟨k, hk, e⟩
      · exact ⟨0, by omega, by rw [e]; rfl⟩
      · exact ⟨k + 1, by omega, by rw [e, nI_1]⟩
    obtain ⟨o2, fl2, y1, y2, y3⟩ := num_pair (k := st) a3 (by omega) (by rw [nb1 (by omega)]; omega)
    rw [nb1 (show st < 128 by omega)] at y1 y2 y3
    obtain ⟨oc', fl', so', sn', mo', mn', n', cnt', mc', z1, z2, z3⟩ := rest (n + 1 + 1) o2 fl2 y3 (by omega)
    refine ⟨oc', fl', so', sn', mo', mn', n', cnt', mc', ?_, fun fu => ?_, z3⟩
    · unfold r_W_writeRun
      rw [show (0 : Int32) = nI 0 from rfl, upart_t hnr hr (by decide), show up (6 * r + 0) = nI bk from ebk]
      simp only [Option.bind_some]
      rw [a1]
      simp only [Option.bind_some]
      rw [if_pos (show nI bk = 1 by rw [hb1]; rfl), show (3 : Int32) = nI 3 from rfl, upart_t hnr hr (by decide)]
      simp only [Option.bind_some]
      rw [est, y1]
      exact z1
    · rw [hZ0 fu, if_pos (show nI bk = 1 by rw [hb1]; rfl), est, y2]
      simp only [Option.bind_some]
      exact z2 _
  · obtain ⟨oc', fl', so', sn', mo', mn', n', cnt', mc', z1, z2, z3⟩ := rest (n + 1) o1 fl1 a3 (by omega)
    have hb0 : ¬ nI bk = 1 := fun e => hb1 ((nI_eq (b := 1) (by omega) (by decide)).mp e)
    refine ⟨oc', fl', so', sn', mo', mn', n', cnt', mc', ?_, fun fu => ?_, z3⟩
    · unfold r_W_writeRun
      rw [show (0 : Int32) = nI 0 from rfl, upart_t hnr hr (by decide), show up (6 * r + 0) = nI bk from ebk]
      simp only [Option.bind_some]
      rw [a1]
      simp only [Option.bind_some]
      rw [if_neg hb0]
      exact z1
    · rw [hZ0 fu, if_neg hb0]
      exact z2 _
end
