/-! pure: a run is added -/
theorem add_t {k q : Int32} {s m n d nr nc : Nat} {runs chars kind setOf markOf styleOf many : Nat → Int32} (hd : d ≤ 1) (hk : k = 0 ∨ k = 1) (hs : s < 24) (hm : m < 24) (hq : bOK 16 q) (hn : n ≤ 512) (hnr : nr < 40) (h4 : runs d = nI nr) (h5 : chars d = nI nc) :
    r_Z_add k (nI s) (nI m) q (nI n) (nI d) runs chars kind setOf markOf styleOf many = some (nI (nr + 1), upd runs d (nI (nr + 1)), upd chars d (nI (nc + n)), upd kind (40 * d + nr) k, upd setOf (40 * d + nr) (nI s), upd markOf (40 * d + nr) (nI m), upd styleOf (40 * d + nr) q, upd many (40 * d + nr) (nI n)) := by
  have c : (nI d).toNatClampNeg = d := q_cl (by omega)
  have hk' : vp_nar .short k.toInt16.toInt32 = k := by
    rcases hk with e | e
    · rw [e]; exact q_shn (k := 0) (by decide)
    · rw [e]; exact q_shn (k := 1) (by decide)
  have hq' : vp_nar .short q.toInt16.toInt32 = q := by
    rcases hq with e | ⟨j, hj, e⟩
    · rw [e]; exact q_shmn
    · rw [e]; exact q_shn (by omega)
  unfold r_Z_add
  rw [c, h4, h5, show (40 : Int32) = nI 40 from rfl, q_iz]
  simp only [gi_n (show d < 2 by omega) (show 2 < 2147483648 by decide), gi_n (show 40 * d + nr < 80 by omega) (show 80 < 2147483648 by decide), q_cl (show 40 * d + nr < 2147483648 by omega), nI_1, nI_add, upd_s, hk', hq', q_shn (show s < 513 by omega), q_shn (show m < 513 by omega), q_shn (show n < 513 by omega)]
theorem loopTypeC {N nr nc n : Nat} {w : Int64} {a b : Int32} (hnr : nr < 40) (hc : nc + n ≤ 512) (hn8 : n ≤ 8) : ∀ (k i fu : Nat) (f g : Nat → Int32), i + k = n → k < fu → f (6 * nr + 5) = nI i →
    ∃ f' g' : Nat → Int32, l_F_type_69 N w (nI n) a b (nI (nr + 1)) fu (nI i) f g (nI (nc + i)) = some (nI (nr + 1), f', g', nI (nr + 1), nI (nc + n)) ∧ (∀ j, j ≠ 6 * nr + 5 → f' j = f j) ∧ f' (6 * nr + 5) = nI n ∧ (∀ j, j < nc + i → g' j = g j) ∧ ∀ q, i ≤ q → q < n → g' (nc + q) = chF w q := by
  intro k
  induction k with
  | zero =>
    intro i fu f g hi hf h5
    obtain ⟨fu, rfl⟩ : ∃ z, fu = z + 1 := ⟨fu - 1, by omega⟩
    obtain rfl : i = n := by omega
    refine ⟨f, g, ?_, fun _ _ => rfl, h5, fun _ _ => rfl, fun q a b => absurd a (by omega)⟩
    rw [l_F_type_69, if_pos (nI_le (Nat.le_refl _) (by omega))]
    rfl
  | succ k ih =>
    intro i fu f g hi hf h5
    obtain ⟨fu, rfl⟩ : ∃ z, fu = z + 1 := ⟨fu - 1, by omega⟩
    obtain ⟨f', g', e1, e2, e3, e4, e5⟩ := ih (i + 1) fu (upd f (6 * nr + 5) (nI (i + 1))) (upd g (nc + i) (chF w i)) (by omega) (by omega) (upd_s _ _ _)
    refine ⟨f', g', ?_, fun j hj => by rw [e2 j hj, upd_n _ _ hj], e3, fun j hj => by rw [e4 j (by omega), upd_n _ _ (by omega)], fun q h1 h2 => ?_⟩
    · rw [l_F_type_69, if_neg (nI_ge (by omega) (by omega)), chF_b]
      simp only [Option.bind_some]
      rw [append_t hnr (by omega) h5]
      simp only [Option.bind_some]
      rw [nI_1]
      exact e1
    · by_cases e : q = i
      · rw [e, e4 _ (by omega), upd_s]
      · exact e5 q (by omega) h2
theorem loopEndC {N nr nc n : Nat} {a b c : Int32} (hnr : nr < 40) (hc : nc + n ≤ 512) : ∀ (k i fu : Nat) (f g : Nat → Int32), i + k = n → k < fu → f (6 * nr + 5) = nI i →
    ∃ f' g' : Nat → Int32, l_F_end_84 N (nI n) a b c (nI (nr + 1)) fu (nI i) f g (nI (nc + i)) = some (nI (nr + 1), f', g', nI (nr + 1), nI (nc + n)) ∧ (∀ j, j ≠ 6 * nr + 5 → f' j = f j) ∧ f' (6 * nr + 5) = nI n ∧ (∀ j, j < nc + i → g' j = g j) ∧ ∀ q, i ≤ q → q < n → g' (nc + q) = 10 := by
  intro k
  induction k with
  | zero =>
    intro i fu f g hi hf h5
    obtain ⟨fu, rfl⟩ : ∃ z, fu = z + 1 := ⟨fu - 1, by omega⟩
    obtain rfl : i = n := by omega
    refine ⟨f, g, ?_, fun _ _ => rfl, h5, fun _ _ => rfl, fun q a b => absurd a (by omega)⟩
    rw [l_F_end_84, if_pos (nI_le (Nat.le_refl _) (by omega))]
    rfl
  | succ k ih =>
    intro i fu f g hi hf h5
    obtain ⟨fu, rfl⟩ : ∃ z, fu = z + 1 := ⟨fu - 1, by omega⟩
    obtain ⟨f', g', e1, e2, e3, e4, e5⟩ := ih (i + 1) fu (upd f (6 * nr + 5) (nI (i + 1))) (upd g (nc + i) 10) (by omega) (by omega) (upd_s _ _ _)
    refine ⟨f', g', ?_, fun j hj => by rw [e2 j hj, upd_n _ _ hj], e3, fun j hj => by rw [e4 j (by omega), upd_n _ _ (by omega)], fun q h1 h2 => ?_⟩
    · rw [l_F_end_84, if_neg (nI_ge (by omega) (by omega))]
      rw [append_t hnr (by omega) h5]
      simp only [Option.bind_some]
      rw [nI_1]
      exact e1
    · by_cases e : q = i
      · rw [e, e4 _ (by omega), upd_s]
      · exact e5 q (by omega) h2
theorem loopTypeZ {N nc n d : Nat} {w : Int64} {s m : Int32} {sets marks runs chars kind setOf markOf styleOf many : Nat → Int32} (hd : d ≤ 1) (h5 : chars d = nI nc) (hc : nc + n ≤ 512) (hn8 : n ≤ 8) : ∀ (k i fu : Nat) (t : Nat → Int32), i + k = n → k < fu →
    ∃ t' : Nat → Int32, l_Z_type_137 N s m w (nI n) (nI d) sets marks runs chars kind setOf markOf styleOf many fu (nI i) t = (r_Z_add 0 s m (-1) (nI n) (nI d) runs chars kind setOf markOf styleOf many).bind (fun z => some (z.1, z.2.1, z.2.2.1, z.2.2.2.1, z.2.2.2.2.1, z.2.2.2.2.2.1, z.2.2.2.2.2.2.1, z.2.2.2.2.2.2.2, t')) ∧ (∀ j, j < 512 * d + (nc + i) → t' j = t j) ∧ ∀ q, i ≤ q → q < n → t' (512 * d + (nc + q)) = chF w q := by
  have c : (nI d).toNatClampNeg = d := q_cl (by omega)
  intro k
  induction k with
  | zero =>
    intro i fu t hi hf
    obtain ⟨fu, rfl⟩ : ∃ z, fu = z + 1 := ⟨fu - 1, by omega⟩
    obtain rfl : i = n := by omega
    refine ⟨t, ?_, fun _ _ => rfl, fun q a b => absurd a (by omega)⟩
    rw [l_Z_type_137, if_pos (nI_le (Nat.le_refl _) (by omega))]
  | succ k ih =>
    intro i fu t hi hf
    obtain ⟨fu, rfl⟩ : ∃ z, fu = z + 1 := ⟨fu - 1, by omega⟩
    obtain ⟨t', e1, e2, e3⟩ := ih (i + 1) fu (upd t (512 * d + (nc + i)) (chF w i)) (by omega) (by omega)
    refine ⟨t', ?_, fun j hj => by rw [e2 j (by omega), upd_n _ _ (by omega)], fun q h1 h2 => ?_⟩
    · obtain ⟨v, hv, ev⟩ := chZ_lt w i (by omega)
      have hs : vp_nar .short (((((w >>> ((8 * nI i).toInt64 &&& 63)) : Int64) &&& 255).toInt32).toInt16.toInt32) = chF w i := by
        show vp_nar .short ((chZ w i).toInt16.toInt32) = _
        rw [ch_eq w i (by omega), ev]
        exact q_shn (by omega)
      rw [l_Z_type_137, if_neg (nI_ge (by omega) (by omega)), gi_n (by omega) (by decide), c, h5, show (512 : Int32) = nI 512 from rfl, q_iz, nI_add, show 512 * d + nc + i = 512 * d + (nc + i) by omega, gi_n (by omega) (by decide), q_cl (by omega), hs, nI_1]
      exact e1
    · by_cases e : q = i
      · rw [e, e2 _ (by omega), upd_s]
      · exact e3 q (by omega) h2
theorem loopEndZ {N nc n d : Nat} {s m y : Int32} {styles sets marks runs chars kind setOf markOf styleOf many : Nat → Int32} (hd : d ≤ 1) (h5 : chars d = nI nc) (hc : nc + n ≤ 512) : ∀ (k i fu : Nat) (t : Nat → Int32), i + k = n → k < fu →
    ∃ t' : Nat → Int32, l_Z_end_78 N s m y (nI n) (nI d) styles sets marks runs chars kind setOf markOf styleOf many fu (nI i) t = (r_Z_add 1 s m y (nI n) (nI d) runs chars kind setOf markOf styleOf many).bind (fun z => some (z.1, z.2.1, z.2.2.1, z.2.2.2.1, z.2.2.2.2.1, z.2.2.2.2.2.1, z.2.2.2.2.2.2.1, z.2.2.2.2.2.2.2, t')) ∧ (∀ j, j < 512 * d + (nc + i) → t' j = t j) ∧ ∀ q, i ≤ q → q < n → t' (512 * d + (nc + q)) = 10 := by
  have c : (nI d).toNatClampNeg = d := q_cl (by omega)
  intro k
  induction k with
  | zero =>
    intro i fu t hi hf
    obtain ⟨fu, rfl⟩ : ∃ z, fu = z + 1 := ⟨fu - 1, by omega⟩
    obtain rfl : i = n := by omega
    refine ⟨t, ?_, fun _ _ => rfl, fun q a b => absurd a (by omega)⟩
    rw [l_Z_end_78, if_pos (nI_le (Nat.le_refl _) (by omega))]
  | succ k ih =>
    intro i fu t hi hf
    obtain ⟨fu, rfl⟩ : ∃ z, fu = z + 1 := ⟨fu - 1, by omega⟩
    obtain ⟨t', e1, e2, e3⟩ := ih (i + 1) fu (upd t (512 * d + (nc + i)) 10) (by omega) (by omega)
    refine ⟨t', ?_, fun j hj => by rw [e2 j (by omega), upd_n _ _ (by omega)], fun q h1 h2 => ?_⟩
    · rw [l_Z_end_78, if_neg (nI_ge (by omega) (by omega)), gi_n (by omega) (by decide), c, h5, show (512 : Int32) = nI 512 from rfl, q_iz, nI_add, show 512 * d + nc + i = 512 * d + (nc + i) by omega, gi_n (by omega) (by decide), q_cl (by omega), q_sh10, nI_1]
      exact e1
    · by_cases e : q = i
      · rw [e, e2 _ (by omega), upd_s]
      · exact e3 q (by omega) h2
theorem takes_t {r nc n : Nat} (hr : r < 40) (h1 : 1 ≤ n) (h2 : nc + n ≤ 512) : r_U_takes (nI n) (nI r) (nI nc) = some 1 := by
  unfold r_U_takes
  rw [if_neg (show ¬ (40 : Int32) ≤ nI r from nI_ge (b := 40) hr (by decide)), if_neg (show ¬ nI n < 1 from nI_nlt (b := 1) h1 (by omega)), show (512 : Int32) = nI 512 from rfl, pk_sub (by omega), if_neg (nI_nlt (by omega) (by omega))]
theorem takes_f {x : Int32} {r nc : Nat} (hnc : nc ≤ 512) (hr : r ≤ 40) (h : ¬ (r < 40 ∧ 1 ≤ x.toInt ∧ x.toInt + nc ≤ 512)) : r_U_takes x (nI r) (nI nc) = some 0 := by
  unfold r_U_takes
  by_cases a : (40 : Int32) ≤ nI r
  · rw [if_pos a]
  rw [if_neg a]
  have hr' : r < 40 := by
    rcases Nat.lt_or_ge r 40 with h | h
    · exact h
    · exact absurd (nI_le (a := 40) h (by omega)) a
  by_cases b : x < 1
  · rw [if_pos b]
  rw [if_neg b, show (512 : Int32) = nI 512 from rfl, pk_sub (by omega), if_pos]
  rw [q_lt, q_1] at b
  rw [q_lt, q_ti (by omega)]
  omega
