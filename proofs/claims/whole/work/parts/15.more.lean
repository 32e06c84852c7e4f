/-! pure: property, mark, clear, cut, alter -/
theorem m_property (of x y v : Int32) {d ns nS : Nat} {sv tv bs styles sets base own : Nat → Int32} (hd : d ≤ 1) (hns : ns ≤ 16) (hnS : nS ≤ 24) (h1 : styles d = nI ns) (h2 : sets d = nI nS) (hS : RelS d ns sv bs base own) (hT : RelT d nS tv own) :
    ∃ (r : Int32) (sv' tv' own' : Nat → Int32), r_F_property of x y v 384 sv (nI ns) 576 tv (nI nS) = some (r, sv', tv') ∧ r_Z_property of x y v (nI d) styles sets own = some (r, own') ∧ RelS d ns sv' bs base own' ∧ RelT d nS tv' own' := by
  have hz : ∀ q : Nat, q < 24 → pOK q v → r_Z_in v (-1) (nI (mostN q)) = some 1 := fun q hq hp => by
    have hm := mostN_le q
    rw [pOK_iff] at hp
    exact zin_t (by rw [q_m1]; omega) (by rw [q_ti (by omega)]; omega)
  have hz0 : ∀ q : Nat, q < 24 → ¬ pOK q v → r_Z_in v (-1) (nI (mostN q)) = some 0 := fun q hq hp => by
    have hm := mostN_le q
    rw [pOK_iff] at hp
    exact zin_f (by rw [q_m1, q_ti (by omega)]; omega)
  unfold r_F_property r_Z_property
  by_cases a0 : of = 0
  · subst a0
    rw [if_pos rfl, zrow_isRow0 x hd hns h1]
    by_cases h : vp_in x ns ∧ vp_in y 24 ∧ ∀ q : Nat, y = nI q → q < 24 → pOK q v
    · obtain ⟨hx, hy, hp⟩ := h
      rw [has_t (by omega) hx]
      obtain ⟨j, hj, rfl⟩ := q_of hx (by omega)
      obtain ⟨q, hq, rfl⟩ := q_of hy (by decide)
      have hp := hp q rfl hq
      refine ⟨1, upd sv (24 * j + q) v, tv, upd own (960 * d + (24 * j + q)) (v + 1), ?_, ?_, ?_, ?_⟩
      · rw [put_t (by omega) hj hq (by omega) (by omega) hp]
        exact gz_1
      · rw [z23_t hq, zmost_eq, most_n hq, q_zrow0]
        simp only [Option.bind_some, if_neg q_10]
        rw [hz q hq hp]
        simp only [Option.bind_some, if_neg q_10]
        rw [nI_add, gi_n (by omega) (by decide), q_cl (by omega), Nat.add_assoc]
      · intro i hi
        obtain ⟨b1, b2, b3⟩ := hS i hi
        refine ⟨b1, b2, fun p hp2 => ?_⟩
        by_cases e : i = j ∧ p = q
        · obtain ⟨rfl, rfl⟩ := e
          rw [upd_s, upd_s]
          exact ⟨rfl, hp⟩
        · rw [upd_n _ _ (by omega), upd_n _ _ (by omega)]
          exact b3 p hp2
      · intro i hi p hp2
        rw [upd_n _ _ (by omega)]
        exact hT i hi p hp2
    · refine ⟨0, sv, tv, own, by rw [put_f (by omega) h]; exact gz_0, ?_, hS, hT⟩
      by_cases hx : vp_in x ns
      · rw [has_t (by omega) hx]
        simp only [Option.bind_some, if_neg q_10]
        by_cases hy : vp_in y 24
        · obtain ⟨q, hq, rfl⟩ := q_of hy (by decide)
          rw [z23_t hq, zmost_eq, most_n hq]
          simp only [Option.bind_some, if_neg q_10]
          rw [hz0 q hq (fun hp => h ⟨hx, hy, fun q2 e h2 => by
            have := (nI_eq (by omega) (by omega)).mp e
            subst this
            exact hp⟩)]
          rfl
        · rw [z23_f hy]; rfl
      · rw [has_f (by omega) hx]; rfl
  · rw [if_neg a0]
    by_cases a1 : of = 1
    · subst a1
      rw [if_pos rfl, zrow_isRow1 x hd hnS h2]
      by_cases h : vp_in x nS ∧ vp_in y 24 ∧ ∀ q : Nat, y = nI q → q < 24 → pOK q v
      · obtain ⟨hx, hy, hp⟩ := h
        rw [has_t (by omega) hx]
        obtain ⟨j, hj, rfl⟩ := q_of hx (by omega)
        obtain ⟨q, hq, rfl⟩ := q_of hy (by decide)
        have hp := hp q rfl hq
        refine ⟨1, sv, upd tv (24 * j + q) v, upd own (960 * d + (384 + (24 * j + q))) (v + 1), ?_, ?_, ?_, ?_⟩
        · rw [put_t (by omega) hj hq (by omega) (by omega) hp]
          rfl
        · rw [z23_t hq, zmost_eq, most_n hq, q_zrow1]
          simp only [Option.bind_some, if_neg q_10]
          rw [hz q hq hp]
          simp only [Option.bind_some, if_neg q_10]
          rw [nI_add, gi_n (by omega) (by decide), q_cl (by omega), show 960 * d + (384 + 24 * j) + q = 960 * d + (384 + (24 * j + q)) by omega]
        · intro i hi
          obtain ⟨b1, b2, b3⟩ := hS i hi
          refine ⟨b1, b2, fun p hp2 => ?_⟩
          rw [upd_n _ _ (by omega)]
          exact b3 p hp2
        · intro i hi p hp2
          by_cases e : i = j ∧ p = q
          · obtain ⟨rfl, rfl⟩ := e
            rw [upd_s, upd_s]
            exact ⟨rfl, hp⟩
          · rw [upd_n _ _ (by omega), upd_n _ _ (by omega)]
            exact hT i hi p hp2
      · refine ⟨0, sv, tv, own, by rw [put_f (by omega) h]; rfl, ?_, hS, hT⟩
        by_cases hx : vp_in x nS
        · rw [has_t (by omega) hx]
          simp only [Option.bind_some, if_neg q_10]
          by_cases hy : vp_in y 24
          · obtain ⟨q, hq, rfl⟩ := q_of hy (by decide)
            rw [z23_t hq, zmost_eq, most_n hq]
            simp only [Option.bind_some, if_neg q_10]
            rw [hz0 q hq (fun hp => h ⟨hx, hy, fun q2 e h2 => by
              have := (nI_eq (by omega) (by omega)).mp e
              subst this
              exact hp⟩)]
            rfl
          · rw [z23_f hy]; rfl
        · rw [has_f (by omega) hx]; rfl
    · rw [if_neg a1, zrow_isRow2 x a0 a1]
      exact ⟨0, sv, tv, own, rfl, rfl, hS, hT⟩
/-- a byte -/
theorem q_by (x : Int32) : x.toInt8.toInt32 &&& 255 = x &&& 255 := by
  rw [← Int32.toBitVec_inj]
  apply BitVec.eq_of_getLsbD_eq
  intro i hi
  have h255 : ∀ i, i < 32 → ¬ i < 8 → (255#32).getLsbD i = false := by decide
  by_cases h8 : i < 8
  · have e : (BitVec.signExtend 32 (BitVec.signExtend 8 x.toBitVec)).getLsbD i = x.toBitVec.getLsbD i := by
      rw [BitVec.getLsbD_signExtend, BitVec.getLsbD_signExtend, if_pos h8, if_pos hi]
      simp [h8, hi]
    simp [e]
  · simp [h255 i hi h8]
theorem q_byn (x : Int32) : vp_nar .byte x.toInt8.toInt32 &&& 255 = x &&& 255 := by rw [pk_vb, q_by]
theorem m_cut (x : Int32) {n : Nat} (hn : n ≤ 6000) : ∃ (r : Int32) (n' : Nat), r_F_cut x (nI n) = some (r, nI n') ∧ r_Z_cut x (nI n) = some (r, nI n') ∧ n' ≤ n := by
  unfold r_F_cut r_O_keep r_Z_cut
  by_cases h : vp_in x (n + 1)
  · obtain ⟨j, hj, rfl⟩ := q_of h (by omega)
    refine ⟨1, j, ?_, ?_, by omega⟩
    · rw [if_neg (nI_pos (by omega)), if_pos (nI_le (by omega) (by omega))]
      exact gz_1
    · rw [zin_t (by rw [q_ti (by omega), q_0]; omega) (by rw [q_ti (by omega), q_ti (by omega)]; omega)]
      rfl
  · rw [q_in] at h
    refine ⟨0, n, ?_, ?_, Nat.le_refl _⟩
    · by_cases h0 : x < 0
      · rw [if_pos h0]; exact gz_0
      · rw [if_neg h0, if_neg (show ¬ x ≤ nI n by rw [q_lt, q_0] at h0; rw [q_le, q_ti (by omega)]; omega)]; exact gz_0
    · rw [zin_f (by rw [q_0, q_ti (by omega)]; omega)]
      rfl
theorem m_alter (x v : Int32) {n : Nat} {oc fl : Nat → Int32} (hn : n ≤ 6000) (hF : RelF n oc fl) : ∃ (r : Int32) (oc' fl' : Nat → Int32) (n' : Nat), r_F_alter x v oc (nI n) = some (r, oc', nI n') ∧ r_Z_alter x v (nI n) fl = some (r, nI n', fl') ∧ n' ≤ 6000 ∧ RelF n' oc' fl' := by
  unfold r_F_alter r_O_size r_O_append r_O_put r_Z_alter
  simp only [Option.bind_some]
  by_cases h : vp_in x (n + 1)
  · obtain ⟨j, hj, rfl⟩ := q_of h (by omega)
    rw [zin_t (by rw [q_ti (by omega), q_0]; omega) (by rw [q_ti (by omega), q_ti (by omega)]; omega)]
    simp only [Option.bind_some, if_neg q_10]
    by_cases e : j = n
    · subst e
      simp only [if_true]
      by_cases hf : j = 6000
      · subst hf
        rw [if_neg (show ¬ nI 6000 < 6000 by decide), if_pos (show nI 6000 = 6000 from rfl)]
        exact ⟨0, oc, fl, 6000, gz_0, rfl, Nat.le_refl _, hF⟩
      · rw [if_pos (show nI j < 6000 from nI_lt (b := 6000) (by omega) (by decide)), gi_n (by omega) (by decide), if_neg (show ¬ nI j = 6000 from fun h => hf ((nI_eq (b := 6000) (by omega) (by decide)).mp h)), gi_n (by omega) (by decide), q_cl (by omega), nI_1]
        refine ⟨1, upd oc j (v &&& 255), upd fl j (vp_nar .byte v.toInt8.toInt32), j + 1, gz_1, rfl, by omega, fun i hi => ?_⟩
        by_cases e : i = j
        · subst e
          rw [upd_s, upd_s, q_byn]
        · rw [upd_n _ _ e, upd_n _ _ e]
          exact hF i (by omega)
    · have e' : ¬ nI j = nI n := fun h => e ((nI_eq (by omega) (by omega)).mp h)
      rw [if_neg e', if_neg (nI_pos (by omega)), if_pos (nI_lt (by omega) (by omega)), gi_n (by omega) (by decide), if_neg (show ¬ nI j = 6000 from fun h => absurd ((nI_eq (b := 6000) (by omega) (by decide)).mp h) (by omega)), gi_n (by omega) (by decide), if_neg e', q_cl (by omega)]
      refine ⟨1, upd oc j (v &&& 255), upd fl j (vp_nar .byte v.toInt8.toInt32), n, gz_1, rfl, hn, fun i hi => ?_⟩
      by_cases e : i = j
      · subst e
        rw [upd_s, upd_s, q_byn]
      · rw [upd_n _ _ e, upd_n _ _ e]
        exact hF i (by omega)
  · rw [q_in] at h
    refine ⟨0, oc, fl, n, ?_, ?_, hn, hF⟩
    · rw [if_neg (show ¬ x = nI n by rw [q_eq, q_ti (by omega)]; omega)]
      by_cases h0 : x < 0
      · rw [if_pos h0]; exact gz_0
      · rw [if_neg h0, if_neg (show ¬ x < nI n by rw [q_lt, q_0] at h0; rw [q_lt, q_ti (by omega)]; omega)]; exact gz_0
    · rw [zin_f (by rw [q_0, q_ti (by omega)]; omega)]
      rfl
theorem m_mark (x y o : Int32) {d nm nS : Nat} {mp sets marks ins era old : Nat → Int32} (hd : d ≤ 1) (hnm : nm ≤ 24) (hnS : nS ≤ 24) (h2 : sets d = nI nS) (h3 : marks d = nI nm) (hM : RelM d nm nS mp ins era old) :
    ∃ (r : Int32) (mp' marks' ins' era' old' : Nat → Int32) (nm' : Nat), r_F_mark x y o (nI nS) mp (nI nm) = some (r, mp', nI nm') ∧ r_Z_mark x y o (nI d) sets marks ins era old = some (r, marks', ins', era', old') ∧ nm' ≤ 24 ∧ nm ≤ nm' ∧ marks' d = nI nm' ∧ RelM d nm' nS mp' ins' era' old' := by
  have c : (nI d).toNatClampNeg = d := q_cl (by omega)
  have hadd : nm = 24 → r_M_add x y o mp (nI nm) = some (-1, mp, nI nm) := fun e => by
    subst e
    rfl
  -- the class: its guards
  have hcls0 : ¬ (vp_in x 256 ∧ vp_in y 256 ∧ bOK nS o) → r_F_mark x y o (nI nS) mp (nI nm) = some (-1, mp, nI nm) := by
    intro h
    unfold r_F_mark
    by_cases a : x < 0
    · rw [if_pos a]
    rw [if_neg a]
    by_cases b : 255 < x
    · rw [if_pos b]
    rw [if_neg b]
    by_cases a2 : y < 0
    · rw [if_pos a2]
    rw [if_neg a2]
    by_cases b2 : y ≤ 255
    · rw [if_pos b2]
      have hx : vp_in x 256 := q_in.mpr ⟨by rw [q_lt, q_0] at a; omega, by rw [q_lt] at b; have : ¬ (255 : Int) < x.toInt := b; omega⟩
      have hy : vp_in y 256 := q_in.mpr ⟨by rw [q_lt, q_0] at a2; omega, by rw [q_le] at b2; have : y.toInt ≤ (255 : Int) := b2; omega⟩
      have ho : ¬ bOK nS o := fun ho => h ⟨hx, hy, ho⟩
      rw [if_neg (fun e => ho (Or.inl e)), has_f (by omega) (fun b => ho ((q_bOK (by omega)).mp (Or.inr b)))]
      rfl
    · rw [if_neg b2]
  have hcls1 : vp_in x 256 → vp_in y 256 → bOK nS o → r_F_mark x y o (nI nS) mp (nI nm) = (r_M_add x y o mp (nI nm)).bind (fun z => some (z.1, z.2.1, z.2.2)) := by
    intro hx hy ho
    rw [q_in] at hx hy
    unfold r_F_mark
    rw [if_neg (show ¬ x < 0 by rw [q_lt, q_0]; omega), if_neg (show ¬ 255 < x by rw [q_lt]; show ¬ (255 : Int) < x.toInt; omega), if_neg (show ¬ y < 0 by rw [q_lt, q_0]; omega), if_pos (show y ≤ 255 by rw [q_le]; show y.toInt ≤ (255 : Int); omega)]
    by_cases e : o = (-1)
    · rw [if_pos e]
    · rw [if_neg e]
      have b : vp_in o nS := by
        rcases (q_bOK (by omega)).mpr ho with h | h
        · exact absurd (by rw [q_eq, h]; rfl) e
        · exact h
      rw [has_t (by omega) b]
      rfl
  unfold r_Z_mark
  rw [gi_n (by omega) (by decide), c, h3]
  by_cases hf : nm = 24
  · refine ⟨-1, mp, marks, ins, era, old, nm, ?_, by rw [if_pos (show nI nm = 24 by rw [hf]; rfl)], hnm, Nat.le_refl _, h3, hM⟩
    by_cases h : vp_in x 256 ∧ vp_in y 256 ∧ bOK nS o
    · rw [hcls1 h.1 h.2.1 h.2.2, hadd hf]
      rfl
    · exact hcls0 h
  · rw [if_neg (show ¬ nI nm = 24 from fun h => hf ((nI_eq (b := 24) (by omega) (by decide)).mp h))]
    by_cases hx : vp_in x 256
    · obtain ⟨a, ha, rfl⟩ := q_of hx (by decide)
      rw [zin_t (by rw [q_ti (by omega), q_0]; omega) (by rw [q_ti (by omega)]; show (a : Int) ≤ 255; omega)]
      simp only [Option.bind_some, if_neg q_10]
      by_cases hy : vp_in y 256
      · obtain ⟨b, hb, rfl⟩ := q_of hy (by decide)
        rw [zin_t (by rw [q_ti (by omega), q_0]; omega) (by rw [q_ti (by omega)]; show (b : Int) ≤ 255; omega)]
        simp only [Option.bind_some, if_neg q_10]
        rw [gi_n (by omega) (by decide), h2]
        by_cases ho : bOK nS o
        · rw [hcls1 hx hy ho, zinm_t (by omega) ho]
          have hso : vp_nar .short o.toInt16.toInt32 = o := by
            rcases ho with e | ⟨k, hk, e⟩
            · rw [e]; exact q_shmn
            · rw [e]; exact q_shn (by omega)
          refine ⟨nI nm, upd (upd (upd mp (3 * nm) (nI a)) (3 * nm + 1) (nI b)) (3 * nm + 2) o, upd marks d (nI (nm + 1)), upd ins (24 * d + nm) (nI a), upd era (24 * d + nm) (nI b), upd old (24 * d + nm) o, nm + 1, ?_, ?_, by omega, by omega, upd_s _ _ _, ?_⟩
          · unfold r_M_add r_M_isFull
            rw [if_pos (show nI nm < 24 from nI_lt (b := 24) (by omega) (by decide))]
            simp only [Option.bind_some, if_true]
            rw [show (0 : Int32) = nI 0 from rfl, show (1 : Int32) = nI 1 from rfl, show (2 : Int32) = nI 2 from rfl, q_ix3, q_ix3, q_ix3, gi_n (by omega) (by decide), gi_n (by omega) (by decide), gi_n (by omega) (by decide), q_cl (by omega), q_cl (by omega), q_cl (by omega), nI_add, show nI (nm + 1) - nI 1 = nI nm from q_one]
            rfl
          · simp only [Option.bind_some, if_neg q_10]
            rw [show (24 : Int32) = nI 24 from rfl, q_iz]
            simp only [gi_n (show d < 2 by omega) (show 2 < 2147483648 by decide), gi_n (show 24 * d + nm < 48 by omega) (show 48 < 2147483648 by decide), q_cl (show 24 * d + nm < 2147483648 by omega), nI_1, upd_s, q_one, q_shn (show a < 513 by omega), q_shn (show b < 513 by omega), hso]
          · intro i hi
            by_cases e : i = nm
            · subst e
              refine ⟨?_, ?_, ?_, ⟨a, ha, ?_⟩, ⟨b, hb, ?_⟩, ?_⟩
              · rw [upd_n _ _ (by omega), upd_n _ _ (by omega), upd_s, upd_s]
              · rw [upd_n _ _ (by omega), upd_s, upd_s]
              · rw [upd_s, upd_s]
              · rw [upd_n _ _ (by omega), upd_n _ _ (by omega), upd_s]
              · rw [upd_n _ _ (by omega), upd_s]
              · rw [upd_s]; exact ho
            · have hu : ∀ k, k < 3 → upd (upd (upd mp (3 * nm) (nI a)) (3 * nm + 1) (nI b)) (3 * nm + 2) o (3 * i + k) = mp (3 * i + k) := fun k hk => by
                rw [upd_n _ _ (by omega), upd_n _ _ (by omega), upd_n _ _ (by omega)]
              have := hM i (by omega)
              rw [show 3 * i = 3 * i + 0 from rfl, hu 0 (by decide), hu 1 (by decide), hu 2 (by decide), upd_n _ _ (by omega), upd_n _ _ (by omega), upd_n _ _ (by omega)]
              exact this
        · rw [hcls0 (fun h => ho h.2.2), zinm_f (by omega) ho]
          exact ⟨-1, mp, marks, ins, era, old, nm, rfl, rfl, hnm, Nat.le_refl _, h3, hM⟩
      · rw [hcls0 (fun h => hy h.2.1), zin_f (by rw [q_in] at hy; rw [q_0]; show y.toInt < 0 ∨ (255 : Int) < y.toInt; omega)]
        exact ⟨-1, mp, marks, ins, era, old, nm, rfl, rfl, hnm, Nat.le_refl _, h3, hM⟩
    · rw [hcls0 (fun h => hx h.1), zin_f (by rw [q_in] at hx; rw [q_0]; show x.toInt < 0 ∨ (255 : Int) < x.toInt; omega)]
      exact ⟨-1, mp, marks, ins, era, old, nm, rfl, rfl, hnm, Nat.le_refl _, h3, hM⟩
