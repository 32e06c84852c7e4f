/-! pure: the characters of a run are read on both sides -/
theorem tx_m1 : r_U_isText (-1) = some 0 := by decide +kernel
theorem sh_0 : vp_nar .short (0 : Int32).toInt16.toInt32 = 0 := by decide +kernel
theorem tx_z0 : r_Z_isText 0 = some 0 := by decide +kernel
section
variable {N n : Nat} {oc fl : Nat → Int32} {bt : Nat → Nat}
theorem rc_fail {f fu : Nat} {y2 y3 y4 nx it rows len : Int32} {up uc : Nat → Int32} (hf : f < 2147483648) (hfu : 1 ≤ fu) : l_R_readCharacters_17 N y2 y3 oc (nI n) it rows fu y4 nx (nI f) up uc len = some (nx, it, nI f, up, uc, len) := by
  obtain ⟨fu, rfl⟩ : ∃ z, fu = z + 1 := ⟨fu - 1, by omega⟩
  rw [l_R_readCharacters_17, rfail hf]
  split
  · rfl
  · rfl
theorem rdc_end {q : Nat} (hn : n ≤ 6000) (hq : n ≤ q) (hq2 : q ≤ 7000) : r_R_readCharacter oc (nI n) (nI q) (-1) = some (-1, nI q, nI q) := by
  unfold r_R_readCharacter r_R_refuse
  rw [oget_f hn hq hq2]
  simp only [Option.bind_some]
  rw [tx_m1]
  simp only [Option.bind_some, if_true]
theorem rdc_no {q : Nat} (hn : n ≤ 6000) (hq : q < n) (hB : Byt n oc bt) (ht : r_U_isText (nI (bt q)) = some 0) : r_R_readCharacter oc (nI n) (nI q) (-1) = some (-1, nI q, nI q) := by
  unfold r_R_readCharacter r_R_refuse
  rw [oget_t hn hq hB]
  simp only [Option.bind_some]
  rw [ht]
  simp only [Option.bind_some, if_true]
theorem rdc_ok {q : Nat} (hn : n ≤ 6000) (hq : q < n) (hB : Byt n oc bt) (ht : r_U_isText (nI (bt q)) = some 1) : r_R_readCharacter oc (nI n) (nI q) (-1) = some (nI (bt q), nI (q + 1), -1) := by
  unfold r_R_readCharacter
  rw [oget_t hn hq hB]
  simp only [Option.bind_some]
  rw [ht]
  simp only [Option.bind_some, if_neg q_10, nI_1]
variable {e : Nat} {styles sets marks chars own ins era old kind setOf markOf styleOf many : Nat → Int32}
theorem zc_end {fu m i : Nat} {k it at_ fa : Int32} {text : Nat → Int32} (he : e ≤ 1) (hfu : 1 ≤ fu) (h : m ≤ i) (hi : i < 7000) : l_Z_readRun_190 N (nI e) k (nI m) (nI n) fl styles sets marks chars own ins era old kind setOf markOf styleOf many it fu (nI i) text at_ fa = some (sets, marks, upd chars e (chars e + nI m), own, ins, era, old, kind, setOf, markOf, styleOf, many, text, at_, it, fa) := by
  obtain ⟨fu, rfl⟩ : ∃ z, fu = z + 1 := ⟨fu - 1, by omega⟩
  rw [l_Z_readRun_190, if_pos (nI_le h (by omega)), gi_n (by omega) (by decide), gi_n (by omega) (by decide), q_cl (by omega)]
theorem zc_fail {fu f : Nat} {k it at_ y9 y10 : Int32} {text : Nat → Int32} (he : e ≤ 1) (hfu : 1 ≤ fu) (hf : f < 2147483648) : l_Z_readRun_190 N (nI e) k y9 (nI n) fl styles sets marks chars own ins era old kind setOf markOf styleOf many it fu y10 text at_ (nI f) = some (sets, marks, upd chars e (chars e + y9), own, ins, era, old, kind, setOf, markOf, styleOf, many, text, at_, it, nI f) := by
  obtain ⟨fu, rfl⟩ : ∃ z, fu = z + 1 := ⟨fu - 1, by omega⟩
  rw [l_Z_readRun_190, if_pos (nI_pos' hf), gi_n (by omega) (by decide), gi_n (by omega) (by decide), q_cl (by omega)]
  split
  · rfl
  · rfl
theorem z254_1 {K : Int32 → (Nat → Int32) → Int32 → Int32 → Option ((Nat → Int32) × (Nat → Int32) × (Nat → Int32) × (Nat → Int32) × (Nat → Int32) × (Nat → Int32) × (Nat → Int32) × (Nat → Int32) × (Nat → Int32) × (Nat → Int32) × (Nat → Int32) × (Nat → Int32) × (Nat → Int32) × Int32 × Int32 × Int32)} {nc i : Nat} {y9 y11 it at_ fa : Int32} {text : Nat → Int32} (he : e ≤ 1) (hc : chars e = nI nc) (hi : nc + i < 512) :
    j_Z_readRun_254 K N (nI n) fl styles (nI e) (nI 1) y9 (nI i) y11 sets marks chars own ins era old kind setOf markOf styleOf many text at_ it fa = K (nI (i + 1)) (upd text (512 * e + (nc + i)) 10) at_ fa := by
  unfold j_Z_readRun_254
  rw [gi_n (by omega) (by decide), if_neg (show ¬ nI 1 = 0 by decide), q_cl (show e < 2147483648 by omega), hc, show (512 : Int32) = nI 512 from rfl, q_iz, nI_add, gi_n (by omega) (by decide), if_neg (show ¬ nI 1 = 0 by decide), q_cl (by omega), nI_1, Nat.add_assoc, show vp_nar .short ((10 : Int32).toInt16.toInt32) = 10 from q_shn (k := 10) (by decide), Int32.add_zero]
theorem z254_0 {K : Int32 → (Nat → Int32) → Int32 → Int32 → Option ((Nat → Int32) × (Nat → Int32) × (Nat → Int32) × (Nat → Int32) × (Nat → Int32) × (Nat → Int32) × (Nat → Int32) × (Nat → Int32) × (Nat → Int32) × (Nat → Int32) × (Nat → Int32) × (Nat → Int32) × (Nat → Int32) × Int32 × Int32 × Int32)} {nc i : Nat} {y9 y11 it at_ fa : Int32} {text : Nat → Int32} (he : e ≤ 1) (hc : chars e = nI nc) (hi : nc + i < 512) (hb : vp_nar .short y11.toInt16.toInt32 = y11) :
    j_Z_readRun_254 K N (nI n) fl styles (nI e) (nI 0) y9 (nI i) y11 sets marks chars own ins era old kind setOf markOf styleOf many text at_ it fa = K (nI (i + 1)) (upd text (512 * e + (nc + i)) y11) (at_ + 1) fa := by
  unfold j_Z_readRun_254
  rw [gi_n (by omega) (by decide), if_pos (show nI 0 = 0 from rfl), q_cl (show e < 2147483648 by omega), hc, show (512 : Int32) = nI 512 from rfl, q_iz, nI_add, gi_n (by omega) (by decide), if_pos (show nI 0 = 0 from rfl), q_cl (by omega), nI_1, Nat.add_assoc, hb]
def CharRes (n q e nc nr m i : Nat) (sets marks chars own ins era old kind setOf markOf styleOf many up uc text : Nat → Int32) (A : Option (Int32 × Int32 × Int32 × (Nat → Int32) × (Nat → Int32) × Int32)) (B : Option ((Nat → Int32) × (Nat → Int32) × (Nat → Int32) × (Nat → Int32) × (Nat → Int32) × (Nat → Int32) × (Nat → Int32) × (Nat → Int32) × (Nat → Int32) × (Nat → Int32) × (Nat → Int32) × (Nat → Int32) × (Nat → Int32) × Int32 × Int32 × Int32)) : Prop :=
  (∃ (q' : Nat) (i1 i2 : Int32) (up' uc' text' : Nat → Int32), A = some (nI q', i1, -1, up', uc', nI (nc + m)) ∧ B = some (sets, marks, upd chars e (nI (nc + m)), own, ins, era, old, kind, setOf, markOf, styleOf, many, text', nI q', i2, -1) ∧ up' (6 * nr + 5) = nI m ∧ (∀ j, j ≠ 6 * nr + 5 → up' j = up j) ∧ (∀ j, j < nc + i → uc' j = uc j) ∧ (∀ x, i ≤ x → x < m → uc' (nc + x) = text' (512 * e + (nc + x))) ∧ (∀ j, j < 512 * e + (nc + i) → text' j = text j) ∧ Only (512 * e) (512 * e + 512) text text' ∧ q ≤ q' ∧ q' ≤ n) ∨
  (∃ (f : Nat) (x1 x2 x3 y1 y2 : Int32) (up' uc' chars' text' : Nat → Int32), f ≤ n ∧ A = some (x1, x2, nI f, up', uc', x3) ∧ B = some (sets, marks, chars', own, ins, era, old, kind, setOf, markOf, styleOf, many, text', y1, y2, nI f) ∧ Only e (e + 1) chars chars' ∧ Only (512 * e) (512 * e + 512) text text')
theorem CharRes.step {q q2 nc nr m i : Nat} {x : Int32} {up uc text : Nat → Int32} {A : Option (Int32 × Int32 × Int32 × (Nat → Int32) × (Nat → Int32) × Int32)} {B : Option ((Nat → Int32) × (Nat → Int32) × (Nat → Int32) × (Nat → Int32) × (Nat → Int32) × (Nat → Int32) × (Nat → Int32) × (Nat → Int32) × (Nat → Int32) × (Nat → Int32) × (Nat → Int32) × (Nat → Int32) × (Nat → Int32) × Int32 × Int32 × Int32)} {z : Int32} (hi : nc + i < 512) (hq : q ≤ q2)
    (h : CharRes n q2 e nc nr m (i + 1) sets marks chars own ins era old kind setOf markOf styleOf many (upd up (6 * nr + 5) z) (upd uc (nc + i) x) (upd text (512 * e + (nc + i)) x) A B) : CharRes n q e nc nr m i sets marks chars own ins era old kind setOf markOf styleOf many up uc text A B := by
  rcases h with ⟨q', i1, i2, up', uc', text', a1, a2, a3, a4, a5, a6, a7, a8, a9, a10⟩ | ⟨f, x1, x2, x3, y1, y2, up', uc', chars', text', a1, a2, a3, a4, a5⟩
  · refine Or.inl ⟨q', i1, i2, up', uc', text', a1, a2, a3, fun j hj => (a4 j hj).trans (upd_n _ _ hj), fun j hj => (a5 j (by omega)).trans (upd_n _ _ (by omega)), fun y hy1 hy2 => ?_, fun j hj => (a7 j (by omega)).trans (upd_n _ _ (by omega)), (Only.one (by omega) (by omega)).trans a8, by omega, a10⟩
    by_cases ey : y = i
    · subst ey
      rw [a5 _ (by omega), a7 _ (by omega), upd_s, upd_s]
    · exact a6 y (by omega) hy2
  · exact Or.inr ⟨f, x1, x2, x3, y1, y2, up', uc', chars', text', a1, a2, a3, a4, (Only.one (by omega) (by omega)).trans a5⟩
theorem chars_loop {nc nr m kk : Nat} {it it2 : Int32} (hn : n ≤ 6000) (hF : RelF n oc fl) (hB : Byt n oc bt) (he : e ≤ 1) (hk : kk ≤ 1) (hnr : nr < 40) (hc : chars e = nI nc) (hm : nc + m ≤ 512) :
    ∀ (k i fu q : Nat) (up uc text : Nat → Int32), i + k = m → k + 1 < fu → q ≤ n → up (6 * nr + 5) = nI i →
    CharRes n q e nc nr m i sets marks chars own ins era old kind setOf markOf styleOf many up uc text (l_R_readCharacters_17 N (nI kk) (nI m) oc (nI n) it (nI (nr + 1)) fu (nI i) (nI q) (-1) up uc (nI (nc + i))) (l_Z_readRun_190 N (nI e) (nI kk) (nI m) (nI n) fl styles sets marks chars own ins era old kind setOf markOf styleOf many it2 fu (nI i) text (nI q) (-1)) := by
  intro k
  induction k with
  | zero =>
    intro i fu q up uc text hi hfu hq hup
    obtain ⟨fu, rfl⟩ : ∃ z, fu = z + 1 := ⟨fu - 1, by omega⟩
    obtain rfl : i = m := by omega
    rw [l_R_readCharacters_17, if_pos (nI_le (Nat.le_refl _) (by omega)), zc_end he (by omega) (Nat.le_refl _) (by omega), hc, nI_add]
    exact Or.inl ⟨q, it, it2, up, uc, text, rfl, rfl, hup, fun _ _ => rfl, fun _ _ => rfl, fun x h1 h2 => by omega, fun _ _ => rfl, Only.rfl, Nat.le_refl _, hq⟩
  | succ k ih =>
    intro i fu q up uc text hi hfu hq hup
    obtain ⟨fu, rfl⟩ : ∃ z, fu = z + 1 := ⟨fu - 1, by omega⟩
    rw [l_R_readCharacters_17, if_neg (nI_ge (by omega) (by omega)), rok, l_Z_readRun_190, if_neg (nI_ge (by omega) (by omega)), if_neg (show ¬ (0 : Int32) ≤ -1 by decide)]
    simp only [Option.bind_some, if_true]
    rcases (show kk = 0 ∨ kk = 1 by omega) with rfl | rfl
    · rw [if_neg (show ¬ nI 0 = 1 by decide)]
      by_cases hqn : n ≤ q
      · rw [rdc_end hn hqn (by omega), if_pos (nI_le hqn (by omega)), if_pos (show nI 0 = 0 from rfl), tx_z0]
        rw [Option.bind_some, Option.bind_some, if_pos (show (0 : Int32) = 0 from rfl)]
        dsimp only
        rw [zw_m, rfail (by omega)]
        simp only [Option.bind_some]
        rw [if_neg q_10, rc_fail (by omega) (by omega), z254_0 he hc (by omega) sh_0, zc_fail he (by omega) (by omega)]
        exact Or.inr ⟨q, _, _, _, _, _, _, _, _, _, hq, rfl, rfl, Only.one (by omega) (by omega), Only.one (by omega) (by omega)⟩
      · have hb := (hB q (by omega)).1
        have eb : fl q &&& 255 = nI (bt q) := by rw [← hF q (by omega), (hB q (by omega)).2]
        rw [if_neg (nI_ge (by omega) (by omega)), gi_n (by omega) (by decide), q_cl (by omega), eb, if_pos (show nI 0 = 0 from rfl), isText_eq]
        rcases (isText_01 (nI (bt q))).symm with ht | ht
        · rw [rdc_no hn (by omega) hB ht, ht]
          rw [Option.bind_some, Option.bind_some, if_pos (show (0 : Int32) = 0 from rfl)]
          dsimp only
          rw [zw_m, rfail (by omega)]
          simp only [Option.bind_some]
          rw [if_neg q_10, rc_fail (by omega) (by omega), z254_0 he hc (by omega) (q_shn (by omega)), zc_fail he (by omega) (by omega)]
          exact Or.inr ⟨q, _, _, _, _, _, _, _, _, _, hq, rfl, rfl, Only.one (by omega) (by omega), Only.one (by omega) (by omega)⟩
        · rw [rdc_ok hn (by omega) hB ht, ht]
          simp only [Option.bind_some, if_neg q_10]
          rw [rok]
          simp only [Option.bind_some, if_true]
          rw [append_t hnr (by omega) hup, z254_0 he hc (by omega) (q_shn (by omega)), nI_1, nI_1]
          simp only [Option.bind_some]
          exact CharRes.step (by omega) (Nat.le_succ q) (ih (i + 1) fu (q + 1) _ _ _ (by omega) (by omega) (by omega) (upd_s _ _ _))
    · rw [if_pos (show nI 1 = 1 from rfl)]
      simp only [Option.bind_some, if_true, if_neg (show ¬ nI 1 = 0 by decide)]
      rw [append_t hnr (by omega) hup, nI_1]
      simp only [Option.bind_some]
      have hz := ih (i + 1) fu q (upd up (6 * nr + 5) (nI (i + 1))) (upd uc (nc + i) 10) (upd text (512 * e + (nc + i)) 10) (by omega) (by omega) hq (upd_s _ _ _)
      have hs := CharRes.step (by omega) (Nat.le_refl q) hz
      by_cases hqn : n ≤ q
      · rw [if_pos (nI_le hqn (by omega)), z254_1 he hc (by omega)]
        exact hs
      · rw [if_neg (nI_ge (by omega) (by omega)), gi_n (by omega) (by decide), z254_1 he hc (by omega)]
        exact hs
/-- behind a fault the reference reads no character -/
theorem z148_fail {f x : Nat} {y3 at_ it : Int32} {text : Nat → Int32} (hN : 1 ≤ N) (he : e ≤ 1) (hx : x < 80) (hf : f < 2147483648) : ∃ chars' : Nat → Int32, j_Z_readRun_148 N (nI n) fl styles (nI e) y3 (nI x) sets marks chars own ins era old kind setOf markOf styleOf many text at_ it (nI f) = some (sets, marks, chars', own, ins, era, old, kind, setOf, markOf, styleOf, upd many x (vp_nar .short (0 : Int32).toInt16.toInt32), text, at_, it, nI f) ∧ Only e (e + 1) chars chars' := by
  refine ⟨upd chars e (chars e + 0), ?_, Only.one (by omega) (by omega)⟩
  unfold j_Z_readRun_148
  rw [gi_n (by omega) (by decide), zn_fail hf]
  simp only [Option.bind_some, if_true]
  rw [zw_f _ hf]
  simp only [Option.bind_some]
  rw [gi_n (by omega) (by decide), zc_fail he hN hf, q_cl (by omega)]
theorem chars_rd {nc nr q kk : Nat} {i1 i2 : Int32} {up uc text : Nat → Int32} (hN : 600 ≤ N) (hn : n ≤ 6000) (hF : RelF n oc fl) (hB : Byt n oc bt) (he : e ≤ 1) (hk : kk ≤ 1) (hnr : nr < 40) (hc : chars e = nI nc) (hnc : nc ≤ 512) (hq : q ≤ n) (hup : up (6 * nr + 5) = nI 0) :
    (∃ m, 1 ≤ m ∧ nc + m ≤ 512 ∧ CharRes n q e nc nr m 0 sets marks chars own ins era old kind setOf markOf styleOf (upd many (40 * e + nr) (nI m)) up uc text (r_R_readCharacters N (nI kk) oc (nI n) (nI q) i1 (-1) up uc (nI (nr + 1)) (nI nc)) (j_Z_readRun_148 N (nI n) fl styles (nI e) (nI kk) (nI (40 * e + nr)) sets marks chars own ins era old kind setOf markOf styleOf many text (nI q) i2 (-1))) ∨
    (∃ (x1 x2 x3 y1 y2 : Int32) (up' uc' chars' many' : Nat → Int32), r_R_readCharacters N (nI kk) oc (nI n) (nI q) i1 (-1) up uc (nI (nr + 1)) (nI nc) = some (x1, x2, nI q, up', uc', x3) ∧ j_Z_readRun_148 N (nI n) fl styles (nI e) (nI kk) (nI (40 * e + nr)) sets marks chars own ins era old kind setOf markOf styleOf many text (nI q) i2 (-1) = some (sets, marks, chars', own, ins, era, old, kind, setOf, markOf, styleOf, many', text, y1, y2, nI q) ∧ Only e (e + 1) chars chars' ∧ Only (40 * e) (40 * e + 40) many many') := by
  have esub : (512 : Int32) - nI nc = nI (512 - nc) := by
    rw [q_eq, q_sub (by rw [show (512 : Int32) = nI 512 from rfl, q_ti (by omega), q_ti (by omega)]; omega) (by rw [show (512 : Int32) = nI 512 from rfl, q_ti (by omega), q_ti (by omega)]; omega), show (512 : Int32) = nI 512 from rfl, q_ti (by omega), q_ti (by omega), q_ti (by omega)]
    omega
  unfold r_R_readCharacters j_Z_readRun_148 r_U_length
  simp only [Option.bind_some]
  rw [gi_n (by omega) (by decide), q_cl (show e < 2147483648 by omega), hc, esub]
  rcases rn_all (N := N) (lo := 1) (hi := 512 - nc) (it := i1) (by omega) hn hq hB (by omega) (by omega) with ⟨v, p', h1, h2, h3, h4, h5, h6⟩ | ⟨h1, x, h2⟩
  · have h4' : r_R_readNumber N 1 (nI (512 - nc)) oc (nI n) (nI q) i1 (-1) = some (nI v, nI p', nI q, -1) := h4
    rcases zn_all (N := N) (hi := 512 - nc) (it := i2) (by omega) hn hq hF hB (by omega) with ⟨w, q2, g1, g2, g3⟩ | ⟨g1, -⟩
    rotate_left
    · exact absurd h3 (g1 v p' h1)
    rw [h1] at g1
    cases g1
    rw [h4', g3]
    simp only [Option.bind_some]
    rw [if_neg (show ¬ nI v = 0 from fun a => by have := (nI_eq (b := 0) (by omega) (by decide)).mp a; omega), gi_n (by omega) (by decide), q_cl (by omega), q_shn (show v < 513 by omega)]
    refine Or.inl ⟨v, h2, by omega, ?_⟩
    have hl := chars_loop (N := N) (e := e) (styles := styles) (sets := sets) (marks := marks) (chars := chars) (own := own) (ins := ins) (era := era) (old := old) (kind := kind) (setOf := setOf) (markOf := markOf) (styleOf := styleOf) (many := upd many (40 * e + nr) (nI v)) (nc := nc) (nr := nr) (m := v) (kk := kk) (it := nI q) (it2 := nI q) hn hF hB he hk hnr hc (by omega) v 0 N p' up uc text (by omega) (by omega) h6 hup
    rcases hl with ⟨q', j1, j2, up', uc', text', a1, a2, a3, a4, a5, a6, a7, a8, a9, a10⟩ | h
    · exact Or.inl ⟨q', j1, j2, up', uc', text', a1, a2, a3, a4, a5, a6, a7, a8, by omega, a10⟩
    · exact Or.inr h
  · have h2' : r_R_readNumber N 1 (nI (512 - nc)) oc (nI n) (nI q) i1 (-1) = some (-1, x, nI q, nI q) := h2
    rw [h2']
    simp only [Option.bind_some]
    rw [rc_fail (by omega) (by omega)]
    refine Or.inr ⟨x, nI q, nI nc, ?_⟩
    rcases zn_all (N := N) (hi := 512 - nc) (it := i2) (by omega) hn hq hF hB (by omega) with ⟨w, q2, g1, g2, g3⟩ | ⟨g1, y, g3⟩
    · have hw : w = 0 := by
        have := h1 w q2 g1
        omega
      subst hw
      rw [g3]
      simp only [Option.bind_some]
      rw [if_pos (show nI 0 = 0 from rfl), zw_m]
      simp only [Option.bind_some]
      rw [gi_n (by omega) (by decide), zc_fail he (by omega) (by omega), q_cl (by omega)]
      exact ⟨_, _, _, _, _, _, rfl, rfl, Only.one (by omega) (by omega), Only.one (by omega) (by omega)⟩
    · rw [g3]
      simp only [Option.bind_some, if_true]
      rw [zw_f _ (by omega)]
      simp only [Option.bind_some]
      rw [gi_n (by omega) (by decide), zc_fail he (by omega) (by omega), q_cl (by omega)]
      exact ⟨_, _, _, _, _, _, rfl, rfl, Only.one (by omega) (by omega), Only.one (by omega) (by omega)⟩
end
