/-! pure: a group of runs goes out as one -/
section
variable {N d nS nm nr nc ns : Nat} {tv own mp ins era old up uc kind setOf markOf styleOf many text runs styles base : Nat → Int32} {ln : Nat → Nat}
theorem sumL_s (r : Nat) : sumL ln (r + 1) = sumL ln r + ln r := rfl
theorem jlen_loop {r g : Nat} (hN : 50 ≤ N) (hnS : nS ≤ 24) (hnm : nm ≤ 24) (hnr : nr ≤ 40) (hM : RelM d nm nS mp ins era old) (hA : ∀ i, i < nr → RunAt d nS nm ns up kind setOf markOf styleOf many ln i) (hG : Gr nS nm nr tv mp up r g) :
    ∀ (k j fu : Nat), j + k = g → 1 ≤ j → k < fu → l_W_joinedLength_15 N 576 tv (nI nS) mp (nI nm) up (nI nr) fu (nI (sumL ln (r + j) - sumL ln r)) (nI (r + j)) = some (nI (sumL ln (r + g) - sumL ln r)) := by
  obtain ⟨g1, g2, g3, g4⟩ := hG
  intro k
  induction k with
  | zero =>
    intro j fu hk hj hf
    obtain ⟨fu, rfl⟩ : ∃ z, fu = z + 1 := ⟨fu - 1, by omega⟩
    obtain rfl : j = g := by omega
    rw [l_W_joinedLength_15]
    show (if nI nr ≤ nI (r + j) then _ else _) = _
    by_cases e : r + j = nr
    · rw [if_pos (nI_le (by omega) (by omega))]
    · obtain ⟨i, hi⟩ : ∃ i, r + j = i + 1 := ⟨r + j - 1, by omega⟩
      have h5 := g4 (by omega)
      rw [hi] at h5 ⊢
      rw [Nat.add_sub_cancel] at h5
      rw [if_neg (nI_ge (by omega) (by omega)), goesOn_f hN hnS hnm hnr (by omega) hM hA h5]
      rfl
  | succ k ih =>
    intro j fu hk hj hf
    obtain ⟨fu, rfl⟩ : ∃ z, fu = z + 1 := ⟨fu - 1, by omega⟩
    obtain ⟨i, hi⟩ : ∃ i, j = i + 1 := ⟨j - 1, by omega⟩
    subst hi
    have h5 := g3 i (by omega)
    have hln := (hA (r + (i + 1)) (by omega)).2.2.2.2.2.2.2.2.2.2.1
    have hle : sumL ln r ≤ sumL ln (r + (i + 1)) := sumL_le (by omega)
    rw [l_W_joinedLength_15]
    show (if nI nr ≤ nI (r + (i + 1)) then _ else _) = _
    rw [if_neg (nI_ge (by omega) (by omega)), show r + (i + 1) = r + i + 1 from rfl, goesOn_t (ln := ln) hN hnS hnm hnr (by omega) hM h5]
    simp only [Option.bind_some, if_neg q_10]
    rw [show (5 : Int32) = nI 5 from rfl, upart_t hnr (by omega) (by decide)]
    simp only [Option.bind_some]
    rw [show r + i + 1 = r + (i + 1) from rfl, hln, nI_add, nI_1, show sumL ln (r + (i + 1)) - sumL ln r + ln (r + (i + 1)) = sumL ln (r + (i + 1 + 1)) - sumL ln r by rw [show r + (i + 1 + 1) = r + (i + 1) + 1 from rfl, sumL_s]; omega]
    exact ih (i + 1 + 1) fu (by omega) (by omega) (by omega)
theorem jlen {r g : Nat} (hN : 50 ≤ N) (hnS : nS ≤ 24) (hnm : nm ≤ 24) (hnr : nr ≤ 40) (hr : r < nr) (hM : RelM d nm nS mp ins era old) (hA : ∀ i, i < nr → RunAt d nS nm ns up kind setOf markOf styleOf many ln i) (hG : Gr nS nm nr tv mp up r g) : r_W_joinedLength N (nI r) 576 tv (nI nS) mp (nI nm) up (nI nr) = some (nI (sumL ln (r + g) - sumL ln r)) := by
  have hln := (hA r hr).2.2.2.2.2.2.2.2.2.2.1
  have hg := hG.1
  have hg2 := hG.2.1
  unfold r_W_joinedLength
  rw [show (5 : Int32) = nI 5 from rfl, upart_t hnr hr (by decide)]
  simp only [Option.bind_some]
  rw [hln, nI_1, show ln r = sumL ln (r + 1) - sumL ln r by rw [sumL_s]; omega]
  exact jlen_loop hN hnS hnm hnr hM hA hG (g - 1) 1 N (by omega) (Nat.le_refl _) (by omega)
theorem jlenZ {K : Int32 → Int32 → Int32 → (Nat → Int32) → (Nat → Int32) → (Nat → Int32) → Int32 → Int32 → Option (Int32 × Int32 × (Nat → Int32) × (Nat → Int32) × (Nat → Int32) × Int32 × Int32)} {r g : Nat} {pl len ws wm : Int32} {fl sn mn : Nat → Int32} (hd : d ≤ 1) (hnr : nr ≤ 40) (hA : ∀ i, i < nr → RunAt d nS nm ns up kind setOf markOf styleOf many ln i) (hg : r + g ≤ nr) (hJ : r_Z_joined N (nI r) (nI d) runs own ins era old kind setOf markOf styleOf = some (nI g)) :
    ∀ (k j fu : Nat), j + k = g → k < fu → l_Z_save_262 K N pl (nI r) (nI (40 * d + r)) len fl (nI d) styles runs base own ins era old kind setOf markOf styleOf many text sn mn ws wm fu (nI (sumL ln (r + j) - sumL ln r)) (nI j) = (r_Z_number (nI (sumL ln (r + g) - sumL ln r)) len fl).bind (fun z => l_Z_save_302 K N pl (nI r) (nI (40 * d + r)) (nI (sumL ln (r + g) - sumL ln r)) (nI d) styles runs base own ins era old kind setOf markOf styleOf many text sn mn ws wm N 0 z.1 z.2) := by
  intro k
  induction k with
  | zero =>
    intro j fu hk hf
    obtain ⟨fu, rfl⟩ : ∃ z, fu = z + 1 := ⟨fu - 1, by omega⟩
    obtain rfl : j = g := by omega
    rw [l_Z_save_262, hJ]
    simp only [Option.bind_some]
    rw [if_pos (nI_le (Nat.le_refl _) (by omega))]
  | succ k ih =>
    intro j fu hk hf
    obtain ⟨fu, rfl⟩ : ∃ z, fu = z + 1 := ⟨fu - 1, by omega⟩
    have hln := (hA (r + j) (by omega)).2.2.2.2.2.2.2.2.2.2.2
    have hle : sumL ln r ≤ sumL ln (r + j) := sumL_le (by omega)
    rw [l_Z_save_262, hJ]
    simp only [Option.bind_some]
    rw [if_neg (nI_ge (by omega) (by omega)), nI_add, gi_n (by omega) (by decide), q_cl (by omega), show 40 * d + r + j = 40 * d + (r + j) by omega, hln, nI_add, nI_1, show sumL ln (r + j) - sumL ln r + ln (r + j) = sumL ln (r + (j + 1)) - sumL ln r by rw [show r + (j + 1) = r + j + 1 from rfl, sumL_s]; omega]
    exact ih (j + 1) fu (by omega) (by omega)
theorem uchar_t {i : Nat} (hnc : nc ≤ 512) (hi : i < nc) : r_U_character (nI i) uc (nI nc) = some (uc i) := by
  unfold r_U_character
  rw [if_neg (nI_pos (by omega)), if_neg (nI_ge hi (by omega)), gi_n (by omega) (by decide), q_cl (by omega)]
theorem chars_pair {r g m s0 : Nat} {ws wm c1 c2 : Int32} {sn mn so mo : Nat → Int32} (hd : d ≤ 1) (hnr : nr ≤ 40) (hnc : nc ≤ 512) (hr : r < nr) (hk0 : kind (40 * d + r) = 0) (hm : s0 + m ≤ nc) (hC : ∀ j, j < nc → uc j = text (512 * d + j)) (hJ : r_Z_joined N (nI r) (nI d) runs own ins era old kind setOf markOf styleOf = some (nI g)) :
    ∀ (k i fu gu n : Nat) (oc fl : Nat → Int32), i + k = m → k < fu → k < gu → RelF n oc fl → n + k ≤ 6000 → ∃ oc' fl' : Nat → Int32, l_W_writeRun_92 N 0 (nI m) (nI s0) so mo c1 c2 576 tv (nI nS) mp (nI nm) up uc (nI nr) (nI nc) fu (nI i) oc (nI n) = some (oc', nI (n + k), so, mo, c1, c2) ∧
      (∀ K : Int32 → Int32 → Int32 → (Nat → Int32) → (Nat → Int32) → (Nat → Int32) → Int32 → Int32 → Option (Int32 × Int32 × (Nat → Int32) × (Nat → Int32) × (Nat → Int32) × Int32 × Int32), l_Z_save_302 K N (nI (512 * d + s0)) (nI r) (nI (40 * d + r)) (nI m) (nI d) styles runs base own ins era old kind setOf markOf styleOf many text sn mn ws wm gu (nI i) (nI n) fl = K (nI (512 * d + s0 + m)) (nI (r + g)) (nI (n + k)) fl' sn mn ws wm) ∧ RelF (n + k) oc' fl' := by
  intro k
  induction k with
  | zero =>
    intro i fu gu n oc fl hk hf hg hF hn
    obtain ⟨fu, rfl⟩ : ∃ z, fu = z + 1 := ⟨fu - 1, by omega⟩
    obtain ⟨gu, rfl⟩ : ∃ z, gu = z + 1 := ⟨gu - 1, by omega⟩
    obtain rfl : i = m := by omega
    refine ⟨oc, fl, ?_, fun K => ?_, hF⟩
    · rw [l_W_writeRun_92, if_pos rfl, if_pos (nI_le (Nat.le_refl _) (by omega))]
      rfl
    · rw [l_Z_save_302, if_pos (nI_le (Nat.le_refl _) (by omega)), hJ]
      simp only [Option.bind_some]
      rw [nI_add, nI_add]
      rfl
  | succ k ih =>
    intro i fu gu n oc fl hk hf hg hF hn
    obtain ⟨fu, rfl⟩ : ∃ z, fu = z + 1 := ⟨fu - 1, by omega⟩
    obtain ⟨gu, rfl⟩ : ∃ z, gu = z + 1 := ⟨gu - 1, by omega⟩
    obtain ⟨o1, f1, b1, b2, b3⟩ := out_pair (v := uc (s0 + i)) (b := text (512 * d + (s0 + i))) hF (by omega) (by rw [hC (s0 + i) (by omega)])
    obtain ⟨oc', fl', e1, e2, e3⟩ := ih (i + 1) fu gu (n + 1) o1 f1 (by omega) (by omega) (by omega) b3 (by omega)
    refine ⟨oc', fl', ?_, fun K => ?_, by rw [show n + (k + 1) = n + 1 + k by omega]; exact e3⟩
    · rw [l_W_writeRun_92, if_pos rfl, if_neg (nI_ge (by omega) (by omega)), nI_add, uchar_t hnc (by omega)]
      simp only [Option.bind_some]
      rw [b1]
      simp only [Option.bind_some]
      rw [nI_1, e1, show n + (k + 1) = n + 1 + k by omega]
    · rw [l_Z_save_302, if_neg (nI_ge (by omega) (by omega)), gi_n (by omega) (by decide), q_cl (by omega), hk0, if_pos rfl, nI_add, gi_n (by omega) (by decide), q_cl (by omega), show 512 * d + s0 + i = 512 * d + (s0 + i) by omega, b2]
      simp only [Option.bind_some]
      rw [nI_1, e2 K, show n + (k + 1) = n + 1 + k by omega]
end
