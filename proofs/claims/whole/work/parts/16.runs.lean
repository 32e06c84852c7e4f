/-! pure: runs -/
theorem RelM.mono {d nm nS nS' : Nat} {mp ins era old : Nat → Int32} (h : RelM d nm nS mp ins era old) (hm : nS ≤ nS') : RelM d nm nS' mp ins era old := fun i hi => by
  obtain ⟨a, b, c, e, f, g⟩ := h i hi
  exact ⟨a, b, c, e, f, g.mono hm⟩
theorem RelU.mono {d nr nc nm nS ns nm' nS' ns' : Nat} {up uc kind setOf markOf styleOf many text : Nat → Int32} (h : RelU d nr nc nm nS ns up uc kind setOf markOf styleOf many text) (h1 : nm ≤ nm') (h2 : nS ≤ nS') (h3 : ns ≤ ns') : RelU d nr nc nm' nS' ns' up uc kind setOf markOf styleOf many text := by
  obtain ⟨ln, a, b, c⟩ := h
  refine ⟨ln, a, fun i hi => ?_, c⟩
  obtain ⟨b1, b2, b3, b4, ⟨k, b5, b5'⟩, b6, ⟨m, b7, b7'⟩, b8, b9, b10⟩ := b i hi
  exact ⟨b1, b2, b3, b4, ⟨k, by omega, b5'⟩, b6, ⟨m, by omega, b7'⟩, b8, b9.mono h3, b10⟩
theorem sumL_le {ln : Nat → Nat} : ∀ {i n : Nat}, i ≤ n → sumL ln i ≤ sumL ln n := by
  intro i n h
  induction n with
  | zero => obtain rfl : i = 0 := by omega
            exact Nat.le_refl _
  | succ n ih =>
    by_cases e : i = n + 1
    · rw [e]; exact Nat.le_refl _
    · have := ih (by omega)
      show _ ≤ sumL ln n + ln n
      omega
theorem sumL_congr {f g : Nat → Nat} : ∀ n, (∀ i, i < n → f i = g i) → sumL f n = sumL g n := by
  intro n
  induction n with
  | zero => intro _; rfl
  | succ n ih =>
    intro h
    show sumL f n + f n = sumL g n + g n
    rw [ih (fun i hi => h i (by omega)), h n (by omega)]
/-- one more run -/
theorem RelU.add {d nr nc nm nS ns n : Nat} {up uc kind setOf markOf styleOf many text up' uc' text' : Nat → Int32} {k q : Int32} {s m : Nat} {c : Nat → Int32} (h : RelU d nr nc nm nS ns up uc kind setOf markOf styleOf many text) (hn : 1 ≤ n) (hk : k = 0 ∨ k = 1) (hs : s < nS) (hm : m < nm) (hq : bOK ns q)
    (u0 : ∀ j, j < 6 * nr → up' j = up j) (u1 : up' (6 * nr) = k) (u2 : up' (6 * nr + 1) = nI s) (u3 : up' (6 * nr + 2) = nI m) (u4 : up' (6 * nr + 3) = q) (u5 : up' (6 * nr + 4) = nI nc) (u6 : up' (6 * nr + 5) = nI n)
    (t0 : ∀ j, j < nc → uc' j = uc j) (t1 : ∀ i, i < n → uc' (nc + i) = c i) (t2 : ∀ j, j < 512 * d + nc → text' j = text j) (t3 : ∀ i, i < n → text' (512 * d + (nc + i)) = c i) :
    RelU d (nr + 1) (nc + n) nm nS ns up' uc' (upd kind (40 * d + nr) k) (upd setOf (40 * d + nr) (nI s)) (upd markOf (40 * d + nr) (nI m)) (upd styleOf (40 * d + nr) q) (upd many (40 * d + nr) (nI n)) text' := by
  obtain ⟨ln, a, b, e⟩ := h
  obtain ⟨ln', l1, l2⟩ : ∃ ln' : Nat → Nat, ln' nr = n ∧ ∀ i, i ≠ nr → ln' i = ln i := ⟨fun i => if i = nr then n else ln i, if_pos rfl, fun i hi => if_neg hi⟩
  have hl : ∀ i, i ≤ nr → sumL ln' i = sumL ln i := fun i hi => sumL_congr i (fun j hj => l2 j (by omega))
  refine ⟨ln', ?_, fun i hi => ?_, fun j hj => ?_⟩
  · show sumL ln' nr + ln' nr = nc + n
    rw [hl nr (Nat.le_refl _), l1, a]
  · by_cases ei : i = nr
    · subst ei
      exact ⟨by rw [l1]; exact hn, by rw [u1, upd_s], by rw [u1]; exact hk, by rw [u2, upd_s], ⟨s, hs, u2⟩, by rw [u3, upd_s], ⟨m, hm, u3⟩, by rw [u4, upd_s], by rw [u4]; exact hq, by rw [u5, hl i (Nat.le_refl _), a], by rw [u6, l1], by rw [upd_s, l1]⟩
    · obtain ⟨b1, b2, b3, b4, b5, b6, b7, b8, b9, b10, b11, b12⟩ := b i (by omega)
      rw [u0 (6 * i) (by omega), u0 (6 * i + 1) (by omega), u0 (6 * i + 2) (by omega), u0 (6 * i + 3) (by omega), u0 (6 * i + 4) (by omega), u0 (6 * i + 5) (by omega), upd_n _ _ (by omega), upd_n _ _ (by omega), upd_n _ _ (by omega), upd_n _ _ (by omega), upd_n _ _ (by omega), hl i (by omega), l2 i ei]
      exact ⟨b1, b2, b3, b4, b5, b6, b7, b8, b9, b10, b11, b12⟩
  · by_cases ej : j < nc
    · rw [t0 j ej, t2 _ (by omega)]
      exact e j ej
    · obtain ⟨i, rfl⟩ : ∃ i, j = nc + i := ⟨j - nc, by omega⟩
      rw [t1 i (by omega), t3 i (by omega)]
theorem upart_t {j r k : Nat} {f : Nat → Int32} (hr : r ≤ 40) (hj : j < r) (hk : k < 6) : r_U_part (nI j) (nI k) f (nI r) = some (f (6 * j + k)) := by
  unfold r_U_part
  rw [if_neg (nI_pos (by omega)), if_neg (nI_ge hj (by omega)), if_neg (nI_pos (by omega)), if_pos (show nI k < 6 from nI_lt (b := 6) hk (by decide)), q_ix6, gi_n (by omega) (by decide), q_cl (by omega)]
theorem upart_f {x y : Int32} {r : Nat} {f : Nat → Int32} (hr : r ≤ 40) (h : ¬ (vp_in x r ∧ vp_in y 6)) : r_U_part x y f (nI r) = some (-2) := by
  unfold r_U_part
  rw [q_in, q_in] at h
  by_cases a : x < 0
  · rw [if_pos a]
  rw [if_neg a]
  by_cases b : nI r ≤ x
  · rw [if_pos b]
  rw [if_neg b]
  by_cases c : y < 0
  · rw [if_pos c]
  rw [if_neg c, if_neg (show ¬ y < 6 by
    rw [q_lt, q_0] at a c
    rw [q_le, q_ti (by omega)] at b
    rw [q_lt]
    show ¬ y.toInt < (6 : Int)
    omega)]
theorem loopRun {N d j nr : Nat} {y : Int32} {now : Int32} {runs kind setOf markOf styleOf many : Nat → Int32} {ln : Nat → Nat} (hd : d ≤ 1) (hj : j < nr) (hnr : nr ≤ 40) (hm : ∀ i, i < nr → many (40 * d + i) = nI (ln i)) : ∀ (k i fu : Nat), i + k = j → k < fu →
    l_Z_run_53 N y (nI (40 * d + j)) now runs kind setOf markOf styleOf many fu (nI (sumL ln i)) (nI (40 * d + i)) =
      (if y = 0 then some (kind (40 * d + j)) else (if y = 1 then some (setOf (40 * d + j)) else (if y = 2 then some (markOf (40 * d + j)) else (if y = 3 then some (styleOf (40 * d + j)) else (if y = 4 then some (nI (sumL ln j)) else some (many (40 * d + j))))))) := by
  intro k
  induction k with
  | zero =>
    intro i fu hi hf
    obtain ⟨fu, rfl⟩ : ∃ z, fu = z + 1 := ⟨fu - 1, by omega⟩
    obtain rfl : i = j := by omega
    rw [l_Z_run_53, if_pos (nI_le (Nat.le_refl _) (by omega))]
    simp only [gi_n (show 40 * d + i < 80 by omega) (show 80 < 2147483648 by decide), q_cl (show 40 * d + i < 2147483648 by omega)]
  | succ k ih =>
    intro i fu hi hf
    obtain ⟨fu, rfl⟩ : ∃ z, fu = z + 1 := ⟨fu - 1, by omega⟩
    rw [l_Z_run_53, if_neg (nI_ge (by omega) (by omega)), gi_n (by omega) (by decide), q_cl (by omega), hm i (by omega), nI_add, nI_1]
    exact ih (i + 1) fu (by omega) (by omega)
theorem m_run (x y : Int32) {N d nr nc nm nS ns : Nat} {up uc runs kind setOf markOf styleOf many text : Nat → Int32} (hN : 50 ≤ N) (hd : d ≤ 1) (hnr : nr ≤ 40) (h4 : runs d = nI nr) (hU : RelU d nr nc nm nS ns up uc kind setOf markOf styleOf many text) :
    ∃ r, r_F_run x y up (nI nr) = some r ∧ r_Z_run N x y (nI d) runs kind setOf markOf styleOf many = some r := by
  have c : (nI d).toNatClampNeg = d := q_cl (by omega)
  obtain ⟨ln, a, b, e⟩ := hU
  unfold r_F_run r_Z_run
  rw [gi_n (by omega) (by decide), c, h4, zin_eq (by omega)]
  by_cases hx : vp_in x nr
  · rw [has_t (by omega) hx]
    simp only [Option.bind_some, if_neg q_10]
    by_cases hy : vp_in y 6
    · obtain ⟨j, hj, rfl⟩ := q_of hx (by omega)
      obtain ⟨k, hk, rfl⟩ := q_of hy (by decide)
      rw [upart_t hnr hj hk, zin_t (by rw [q_ti (by omega), q_0]; omega) (by rw [q_ti (by omega)]; show (k : Int) ≤ 5; omega)]
      simp only [Option.bind_some, if_neg q_10]
      have hl := loopRun (N := N) (y := nI k) (now := nI d) (runs := runs) (kind := kind) (setOf := setOf) (markOf := markOf) (styleOf := styleOf) (many := many) (ln := ln) hd hj hnr (fun i hi => (b i hi).2.2.2.2.2.2.2.2.2.2.2) j 0 N (by omega) (by omega)
      rw [show (40 : Int32) = nI 40 from rfl, q_iz, pk_mul, show (0 : Int32) = nI (sumL ln 0) from rfl, show nI (40 * d) = nI (40 * d + 0) from rfl, hl]
      obtain ⟨b1, b2, b3, b4, b5, b6, b7, b8, b9, b10, b11, b12⟩ := b j hj
      rcases (show k = 0 ∨ k = 1 ∨ k = 2 ∨ k = 3 ∨ k = 4 ∨ k = 5 by omega) with rfl | rfl | rfl | rfl | rfl | rfl
      · exact ⟨_, rfl, by rw [if_pos (show nI 0 = 0 from rfl), ← b2]; rfl⟩
      · exact ⟨_, rfl, by rw [if_neg (show ¬ nI 1 = 0 by decide), if_pos (show nI 1 = 1 from rfl), ← b4]⟩
      · exact ⟨_, rfl, by rw [if_neg (show ¬ nI 2 = 0 by decide), if_neg (show ¬ nI 2 = 1 by decide), if_pos (show nI 2 = 2 from rfl), ← b6]⟩
      · exact ⟨_, rfl, by rw [if_neg (show ¬ nI 3 = 0 by decide), if_neg (show ¬ nI 3 = 1 by decide), if_neg (show ¬ nI 3 = 2 by decide), if_pos (show nI 3 = 3 from rfl), ← b8]⟩
      · exact ⟨_, rfl, by rw [if_neg (show ¬ nI 4 = 0 by decide), if_neg (show ¬ nI 4 = 1 by decide), if_neg (show ¬ nI 4 = 2 by decide), if_neg (show ¬ nI 4 = 3 by decide), if_pos (show nI 4 = 4 from rfl), ← b10]⟩
      · exact ⟨_, rfl, by rw [if_neg (show ¬ nI 5 = 0 by decide), if_neg (show ¬ nI 5 = 1 by decide), if_neg (show ¬ nI 5 = 2 by decide), if_neg (show ¬ nI 5 = 3 by decide), if_neg (show ¬ nI 5 = 4 by decide), b12, ← b11]⟩
    · rw [upart_f hnr (fun h => hy h.2), zin_f (by rw [q_in] at hy; rw [q_0]; show y.toInt < 0 ∨ (5 : Int) < y.toInt; omega)]
      exact ⟨-2, rfl, rfl⟩
  · rw [upart_f hnr (fun h => hx h.1), has_f (by omega) hx]
    exact ⟨-2, rfl, rfl⟩
/-- the class begins a run -/
theorem begin_t {k q s m : Int32} {r nc : Nat} {f : Nat → Int32} (hr : r < 40) : ∃ g : Nat → Int32, r_U_begin k s m q f (nI r) (nI nc) = some (nI r, g, nI (r + 1)) ∧ (∀ j, j < 6 * r → g j = f j) ∧ g (6 * r) = k ∧ g (6 * r + 1) = s ∧ g (6 * r + 2) = m ∧ g (6 * r + 3) = q ∧ g (6 * r + 4) = nI nc ∧ g (6 * r + 5) = nI 0 := by
  refine ⟨upd (upd (upd (upd (upd (upd f (6 * r) k) (6 * r + 1) s) (6 * r + 2) m) (6 * r + 3) q) (6 * r + 4) (nI nc)) (6 * r + 5) (nI 0), ?_, fun j hj => ?_, ?_, ?_, ?_, ?_, ?_, ?_⟩
  · unfold r_U_begin
    rw [if_pos (show nI r < 40 from nI_lt (b := 40) hr (by decide)), show (0 : Int32) = nI 0 from rfl, show (1 : Int32) = nI 1 from rfl, show (2 : Int32) = nI 2 from rfl, show (3 : Int32) = nI 3 from rfl, show (4 : Int32) = nI 4 from rfl, show (5 : Int32) = nI 5 from rfl]
    simp only [q_ix6, gi_n (show 6 * r + 0 < 240 by omega) (show 240 < 2147483648 by decide), gi_n (show 6 * r + 1 < 240 by omega) (show 240 < 2147483648 by decide), gi_n (show 6 * r + 2 < 240 by omega) (show 240 < 2147483648 by decide), gi_n (show 6 * r + 3 < 240 by omega) (show 240 < 2147483648 by decide), gi_n (show 6 * r + 4 < 240 by omega) (show 240 < 2147483648 by decide), gi_n (show 6 * r + 5 < 240 by omega) (show 240 < 2147483648 by decide),
      q_cl (show 6 * r + 0 < 2147483648 by omega), q_cl (show 6 * r + 1 < 2147483648 by omega), q_cl (show 6 * r + 2 < 2147483648 by omega), q_cl (show 6 * r + 3 < 2147483648 by omega), q_cl (show 6 * r + 4 < 2147483648 by omega), q_cl (show 6 * r + 5 < 2147483648 by omega), nI_add, show nI (r + 1) - nI 1 = nI r from q_one, Nat.add_zero]
    rw [gi_n (by omega) (by decide), q_cl (by omega)]
  · rw [upd_n _ _ (by omega), upd_n _ _ (by omega), upd_n _ _ (by omega), upd_n _ _ (by omega), upd_n _ _ (by omega), upd_n _ _ (by omega)]
  · rw [upd_n _ _ (by omega), upd_n _ _ (by omega), upd_n _ _ (by omega), upd_n _ _ (by omega), upd_n _ _ (by omega), upd_s]
  · rw [upd_n _ _ (by omega), upd_n _ _ (by omega), upd_n _ _ (by omega), upd_n _ _ (by omega), upd_s]
  · rw [upd_n _ _ (by omega), upd_n _ _ (by omega), upd_n _ _ (by omega), upd_s]
  · rw [upd_n _ _ (by omega), upd_n _ _ (by omega), upd_s]
  · rw [upd_n _ _ (by omega), upd_s]
  · rw [upd_s]
/-- one more character of the last run -/
theorem append_t {x : Int32} {r nc i : Nat} {f g : Nat → Int32} (hr : r < 40) (hn : nc < 512) (hf : f (6 * r + 5) = nI i) : r_U_append x f g (nI (r + 1)) (nI nc) = some (upd f (6 * r + 5) (nI (i + 1)), upd g nc x, nI (nc + 1)) := by
  unfold r_U_append
  rw [if_neg (show ¬ nI (r + 1) < 1 from nI_nlt (b := 1) (by omega) (by omega)), if_neg (show ¬ (512 : Int32) ≤ nI nc from nI_ge (b := 512) hn (by decide)), gi_n (by omega) (by decide), q_one, show (5 : Int32) = nI 5 from rfl, q_ix6, gi_n (by omega) (by decide), gi_n (by omega) (by decide), q_cl (by omega), q_cl (by omega), hf, nI_1, nI_1]
