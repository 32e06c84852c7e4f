/-! pure: bytes, numbers and properties go out on both sides -/
theorem out_pair {n : Nat} {oc fl : Nat → Int32} {v b : Int32} (hF : RelF n oc fl) (hn : n < 6000) (hv : v &&& 255 = b &&& 255) : ∃ oc' fl' : Nat → Int32, r_O_append v oc (nI n) = some (1, oc', nI (n + 1)) ∧ r_Z_octetOut b (nI n) fl = some (nI (n + 1), fl') ∧ RelF (n + 1) oc' fl' := by
  refine ⟨upd oc n (v &&& 255), upd fl n (vp_nar .byte b.toInt8.toInt32), ?_, ?_, fun i hi => ?_⟩
  · unfold r_O_append
    rw [if_pos (show nI n < 6000 from nI_lt (b := 6000) hn (by decide)), gi_n (by omega) (by decide), q_cl (by omega), nI_1]
  · unfold r_Z_octetOut
    rw [gi_n (by omega) (by decide), q_cl (by omega), nI_1]
  · by_cases e : i = n
    · rw [e, upd_s, upd_s, q_byn, hv]
    · rw [upd_n _ _ e, upd_n _ _ e]
      exact hF i (by omega)
theorem q_or : ∀ a, a < 128 → nI a ||| 128 = nI (128 + a) := by decide +kernel
theorem q_shr14 {k : Nat} (h : k < 2147483648) : ((nI k >>> ((14 : Int32) &&& 31)) : Int32) = nI (k / 16384) := pk_shrN h _ 14 rfl
theorem q_shr7 {k : Nat} (h : k < 2147483648) : ((nI k >>> ((7 : Int32) &&& 31)) : Int32) = nI (k / 128) := pk_shrN h _ 7 rfl
theorem q_and127 {k : Nat} (h : k < 2147483648) : nI k &&& 127 = nI (k % 128) := pk_andN (by omega) 7 rfl
/-- how many bytes a number has -/
def nb (k : Nat) : Nat := if k < 128 then 1 else if k < 16384 then 2 else 3
theorem nb1 {k : Nat} (h : k < 128) : nb k = 1 := if_pos h
theorem nb2 {k : Nat} (h : k < 16384) : nb k ≤ 2 := by
  unfold nb
  split
  · decide
  · first | decide | (rw [if_pos h]; decide)
theorem nb3 (k : Nat) : nb k ≤ 3 := by
  unfold nb
  split
  · decide
  · split <;> decide
theorem num_pair {n k : Nat} {oc fl : Nat → Int32} (hF : RelF n oc fl) (hk : k ≤ 65535) (hn : n + nb k ≤ 6000) : ∃ oc' fl' : Nat → Int32, r_W_writeNumber (nI k) oc (nI n) = some (oc', nI (n + nb k)) ∧ r_Z_number (nI k) (nI n) fl = some (nI (n + nb k), fl') ∧ RelF (n + nb k) oc' fl' := by
  unfold r_W_writeNumber r_Z_number j_W_writeNumber_23
  simp only [q_shr14 (show k < 2147483648 by omega), q_shr7 (show k < 2147483648 by omega), q_and127 (show k < 2147483648 by omega), q_and127 (show k / 128 < 2147483648 by omega)]
  by_cases h1 : k < 128
  · rw [nb1 h1] at hn ⊢
    obtain ⟨o1, f1, a1, a2, a3⟩ := out_pair (v := nI (k % 128)) (b := nI (k % 128)) hF (by omega) rfl
    refine ⟨o1, f1, ?_, ?_, a3⟩
    · rw [if_pos (show nI k < 16384 from nI_lt (b := 16384) (by omega) (by decide)), if_pos (show nI k < 128 from nI_lt (b := 128) h1 (by decide)), a1]
      rfl
    · rw [if_pos (show nI k < 16384 from nI_lt (b := 16384) (by omega) (by decide)), if_pos (show nI k < 128 from nI_lt (b := 128) h1 (by decide)), a2]
      rfl
  · by_cases h2 : k < 16384
    · have e : nb k = 2 := by unfold nb; rw [if_neg h1, if_pos h2]
      rw [e] at hn ⊢
      have hm : k / 128 % 128 < 128 := Nat.mod_lt _ (by decide)
      obtain ⟨o1, f1, a1, a2, a3⟩ := out_pair (v := 128 + nI (k / 128 % 128)) (b := nI (k / 128 % 128) ||| 128) hF (by omega) (by rw [q_or _ hm, show (128 : Int32) = nI 128 from rfl, nI_add])
      obtain ⟨o2, f2, b1, b2, b3⟩ := out_pair (v := nI (k % 128)) (b := nI (k % 128)) a3 (by omega) rfl
      refine ⟨o2, f2, ?_, ?_, b3⟩
      · rw [if_pos (show nI k < 16384 from nI_lt (b := 16384) h2 (by decide)), if_neg (show ¬ nI k < 128 from nI_nlt (b := 128) (by omega) (by omega)), a1]
        simp only [Option.bind_some]
        rw [b1]
        rfl
      · rw [if_pos (show nI k < 16384 from nI_lt (b := 16384) h2 (by decide)), if_neg (show ¬ nI k < 128 from nI_nlt (b := 128) (by omega) (by omega)), a2]
        simp only [Option.bind_some]
        rw [b2]
        rfl
    · have e : nb k = 3 := by unfold nb; rw [if_neg h1, if_neg h2]
      rw [e] at hn ⊢
      have hm : k / 128 % 128 < 128 := Nat.mod_lt _ (by decide)
      have hm2 : k / 16384 < 128 := by omega
      obtain ⟨o0, f0, c1, c2, c3⟩ := out_pair (v := 128 + nI (k / 16384)) (b := nI (k / 16384) ||| 128) hF (by omega) (by rw [q_or _ hm2, show (128 : Int32) = nI 128 from rfl, nI_add])
      obtain ⟨o1, f1, a1, a2, a3⟩ := out_pair (v := 128 + nI (k / 128 % 128)) (b := nI (k / 128 % 128) ||| 128) c3 (by omega) (by rw [q_or _ hm, show (128 : Int32) = nI 128 from rfl, nI_add])
      obtain ⟨o2, f2, b1, b2, b3⟩ := out_pair (v := nI (k % 128)) (b := nI (k % 128)) a3 (by omega) rfl
      refine ⟨o2, f2, ?_, ?_, b3⟩
      · rw [if_neg (show ¬ nI k < 16384 from nI_nlt (b := 16384) (by omega) (by omega)), c1]
        simp only [Option.bind_some]
        rw [if_neg (show ¬ nI k < 128 from nI_nlt (b := 128) (by omega) (by omega)), a1]
        simp only [Option.bind_some]
        rw [b1]
        rfl
      · rw [if_neg (show ¬ nI k < 16384 from nI_nlt (b := 16384) (by omega) (by omega)), c2]
        simp only [Option.bind_some]
        rw [if_neg (show ¬ nI k < 128 from nI_nlt (b := 128) (by omega) (by omega)), a2]
        simp only [Option.bind_some]
        rw [b2]
        rfl
/-- what is left to write of a row's properties, at most -/
def pLeft (p : Nat) : Nat := (8 - p) * 2 + (if p < 8 then 24 else (16 - p) * 3) + (if p < 16 then 32 else (24 - p) * 4)
theorem pLeft_step {p : Nat} (h : p < 24) : pLeft (p + 1) + 1 + (if p < 8 then 1 else if p < 16 then 2 else 3) ≤ pLeft p := by
  unfold pLeft
  repeat (split <;> try omega)
theorem pOK_nn {p : Nat} {v : Int32} (h : pOK p v) (hv : ¬ v = -1) : ∃ k : Nat, k ≤ mostN p ∧ v = nI k := h.resolve_left hv
theorem nb_most {p k : Nat} (h : k ≤ mostN p) : nb k ≤ (if p < 8 then 1 else if p < 16 then 2 else 3) := by
  unfold mostN at h
  split
  · rename_i hp
    rw [if_pos hp] at h
    rw [nb1 (by omega)]
    exact Nat.le_refl _
  · rename_i hp
    rw [if_neg hp] at h
    split
    · rename_i hp2
      rw [if_pos hp2] at h
      exact nb2 (by omega)
    · exact nb3 k
section
variable {N a j r nv : Nat} {f own : Nat → Int32}
theorem held_pair (hr : r ≤ 24) (hj : j < r) (hnv : 24 * r ≤ nv) (hnv2 : nv ≤ 576) (ha : a + 24 ≤ 1920) (hp : ∀ p, p < 24 → own (a + p) = f (24 * j + p) + 1 ∧ pOK p (f (24 * j + p))) {len : Int32} {fl : Nat → Int32} :
    ∀ (k p h fu gu : Nat), p + k = 24 → k < fu → k < gu → h ≤ p → ∃ m, m ≤ 24 ∧ l_P_held_4 N (nI j) nv f (nI r) fu (nI h) (nI p) = some (nI m) ∧ l_Z_properties_4 N (nI a) len fl own gu (nI h) (nI p) = (r_Z_number (nI m) len fl).bind (fun z => l_Z_properties_42 N (nI a) own N 0 z.1 z.2) := by
  intro k
  induction k with
  | zero =>
    intro p h fu gu hk hf hg hh
    obtain ⟨fu, rfl⟩ : ∃ z, fu = z + 1 := ⟨fu - 1, by omega⟩
    obtain ⟨gu, rfl⟩ : ∃ z, gu = z + 1 := ⟨gu - 1, by omega⟩
    obtain rfl : p = 24 := by omega
    refine ⟨h, hh, ?_, ?_⟩
    · rw [l_P_held_4, has_t (by omega) (vp_in_nI hj (by omega))]
      simp only [Option.bind_some, if_neg q_10]
      rw [if_pos (show (24 : Int32) ≤ nI 24 by decide)]
    · rw [l_Z_properties_4, if_pos (show (24 : Int32) ≤ nI 24 by decide)]
  | succ k ih =>
    intro p h fu gu hk hf hg hh
    obtain ⟨fu, rfl⟩ : ∃ z, fu = z + 1 := ⟨fu - 1, by omega⟩
    obtain ⟨gu, rfl⟩ : ∃ z, gu = z + 1 := ⟨gu - 1, by omega⟩
    obtain ⟨e1, e2⟩ := hp p (by omega)
    rw [l_P_held_4, has_t (by omega) (vp_in_nI hj (by omega)), l_Z_properties_4]
    simp only [Option.bind_some, if_neg q_10]
    rw [if_neg (show ¬ (24 : Int32) ≤ nI p from nI_ge (b := 24) (by omega) (by decide)), if_neg (show ¬ (24 : Int32) ≤ nI p from nI_ge (b := 24) (by omega) (by decide)), q_ix24, gi_n (by omega) (by omega), q_cl (by omega), nI_add, gi_n (by omega) (by decide), q_cl (by omega), e1, nI_1, nI_1, show nI h + 0 = nI h from by rw [show (0 : Int32) = nI 0 from rfl, nI_add]; rfl]
    by_cases hv : f (24 * j + p) = -1
    · rw [if_pos hv, if_pos (show f (24 * j + p) + 1 ≤ 0 by rw [hv]; decide)]
      exact ih (p + 1) h fu gu (by omega) (by omega) (by omega) (by omega)
    · obtain ⟨v, hv1, hv2⟩ := pOK_nn e2 hv
      have hm := mostN_le p
      rw [if_neg hv, hv2, nI_1, if_neg (show ¬ nI (v + 1) ≤ 0 from nI_nle (by omega) (by omega))]
      exact ih (p + 1) (h + 1) fu gu (by omega) (by omega) (by omega) (by omega)
theorem ploop_pair (hN : 25 ≤ N) (hr : r ≤ 24) (hj : j < r) (hnv : 24 * r ≤ nv) (hnv2 : nv ≤ 576) (ha : a + 24 ≤ 1920) (hp : ∀ p, p < 24 → own (a + p) = f (24 * j + p) + 1 ∧ pOK p (f (24 * j + p))) :
    ∀ (k p fu gu n : Nat) (oc fl : Nat → Int32), p + k = 24 → k < fu → k < gu → RelF n oc fl → n + pLeft p ≤ 6000 → ∃ (oc' fl' : Nat → Int32) (n' : Nat), l_W_writeProperties_11 N (nI j) nv f (nI r) fu (nI p) oc (nI n) = some (oc', nI n') ∧ l_Z_properties_42 N (nI a) own gu (nI p) (nI n) fl = some (nI n', fl') ∧ RelF n' oc' fl' ∧ n' ≤ n + pLeft p := by
  intro k
  induction k with
  | zero =>
    intro p fu gu n oc fl hk hf hg hF hn
    obtain ⟨fu, rfl⟩ : ∃ z, fu = z + 1 := ⟨fu - 1, by omega⟩
    obtain ⟨gu, rfl⟩ : ∃ z, gu = z + 1 := ⟨gu - 1, by omega⟩
    obtain rfl : p = 24 := by omega
    refine ⟨oc, fl, n, ?_, ?_, hF, by omega⟩
    · rw [l_W_writeProperties_11, if_pos (show (24 : Int32) ≤ nI 24 by decide)]
    · rw [l_Z_properties_42, if_pos (show (24 : Int32) ≤ nI 24 by decide)]
  | succ k ih =>
    intro p fu gu n oc fl hk hf hg hF hn
    obtain ⟨fu, rfl⟩ : ∃ z, fu = z + 1 := ⟨fu - 1, by omega⟩
    obtain ⟨gu, rfl⟩ : ∃ z, gu = z + 1 := ⟨gu - 1, by omega⟩
    obtain ⟨e1, e2⟩ := hp p (by omega)
    have hst := pLeft_step (show p < 24 by omega)
    rw [l_W_writeProperties_11, l_Z_properties_42, get_t hr hj (by omega) hnv hnv2]
    simp only [Option.bind_some]
    rw [if_neg (show ¬ (24 : Int32) ≤ nI p from nI_ge (b := 24) (by omega) (by decide)), if_neg (show ¬ (24 : Int32) ≤ nI p from nI_ge (b := 24) (by omega) (by decide)), nI_add]
    simp only [gi_n (show a + p < 1920 by omega) (show 1920 < 2147483648 by decide), q_cl (show a + p < 2147483648 by omega), e1, nI_1]
    by_cases hv : f (24 * j + p) = -1
    · rw [hv, if_pos (show ((-1) : Int32) < 0 by decide), if_pos (show ((-1) : Int32) + 1 = 0 by decide)]
      obtain ⟨oc', fl', n', a1, a2, a3, a4⟩ := ih (p + 1) fu gu n oc fl (by omega) (by omega) (by omega) hF (by omega)
      exact ⟨oc', fl', n', a1, a2, a3, by omega⟩
    · obtain ⟨v, hv1, hv2⟩ := pOK_nn e2 hv
      have hm := mostN_le p
      have hb := nb_most hv1
      rw [hv2, nI_1, if_neg (nI_pos (by omega)), if_neg (nI_ne0 (by omega) (by omega)), q_one]
      obtain ⟨o1, f1, b1, b2, b3⟩ := num_pair (k := p) hF (by omega) (by rw [nb1 (by omega)]; omega)
      rw [nb1 (show p < 128 by omega)] at b1 b2 b3
      obtain ⟨o2, f2, c1, c2, c3⟩ := num_pair (k := v) b3 (by omega) (by omega)
      obtain ⟨oc', fl', n', a1, a2, a3, a4⟩ := ih (p + 1) fu gu (n + 1 + nb v) o2 f2 (by omega) (by omega) (by omega) c3 (by omega)
      refine ⟨oc', fl', n', ?_, ?_, a3, by omega⟩
      · rw [b1]
        simp only [Option.bind_some]
        rw [c1]
        exact a1
      · rw [b2]
        simp only [Option.bind_some]
        rw [c2]
        exact a2
theorem props_pair (hN : 25 ≤ N) (hr : r ≤ 24) (hj : j < r) (hnv : 24 * r ≤ nv) (hnv2 : nv ≤ 576) (ha : a + 24 ≤ 1920) (hp : ∀ p, p < 24 → own (a + p) = f (24 * j + p) + 1 ∧ pOK p (f (24 * j + p))) {n : Nat} {oc fl : Nat → Int32} (hF : RelF n oc fl) (hn : n + 73 ≤ 6000) :
    ∃ (oc' fl' : Nat → Int32) (n' : Nat), r_W_writeProperties N (nI j) oc (nI n) nv f (nI r) = some (oc', nI n') ∧ r_Z_properties N (nI a) (nI n) fl own = some (nI n', fl') ∧ RelF n' oc' fl' ∧ n' ≤ n + 73 := by
  obtain ⟨m, hm, h1, h2⟩ := held_pair (N := N) (len := nI n) (fl := fl) hr hj hnv hnv2 ha hp 24 0 0 N N (by omega) (by omega) (by omega) (by omega)
  obtain ⟨o1, f1, b1, b2, b3⟩ := num_pair (k := m) hF (by omega) (by rw [nb1 (by omega)]; omega)
  rw [nb1 (show m < 128 by omega)] at b1 b2 b3
  obtain ⟨oc', fl', n', a1, a2, a3, a4⟩ := ploop_pair (N := N) hN hr hj hnv hnv2 ha hp 24 0 N N (n + 1) o1 f1 (by omega) (by omega) (by omega) b3 (by show n + 1 + 72 ≤ 6000; omega)
  refine ⟨oc', fl', n', ?_, ?_, a3, by have : pLeft 0 = 72 := rfl; omega⟩
  · unfold r_W_writeProperties r_P_held
    rw [show l_P_held_4 N (nI j) nv f (nI r) N 0 0 = _ from h1]
    simp only [Option.bind_some]
    rw [b1]
    exact a1
  · unfold r_Z_properties
    rw [show l_Z_properties_4 N (nI a) (nI n) fl own N 0 0 = _ from h2, b2]
    exact a2
end
