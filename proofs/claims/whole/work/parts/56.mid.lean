/-! own rows: a call over a run of neighbouring cells -/
theorem wk_mi {wl wc wr : va_W} {k : Nat} {q : Nat × va_E} (h : wc[k]? = some q) : (wl ++ (wc ++ wr))[wl.length + k]? = some q := by
  have hl : k < wc.length := (List.getElem?_eq_some_iff.mp h).1
  have e1 : (wl ++ (wc ++ wr))[wl.length + k]? = (wc ++ wr)[wl.length + k - wl.length]? := List.getElem?_append_right (Nat.le_add_right _ _)
  have e2 : (wc ++ wr)[k]? = wc[k]? := List.getElem?_append_left hl
  rw [e1, show wl.length + k - wl.length = k by omega, e2]
  exact h
theorem wk_freeM {A : Nat → Prop} {wl wc wr : va_W} {H0 H : Heap} {locs : List Loc} (hD : va_D A (wl ++ (wc ++ wr))) (hS : va_S A H0 H locs) (hA : ∀ q, H0.size ≤ q → A q) : ∀ q, va_A wc H.size q → A q := by
  intro q h
  rcases h with ⟨k, e, hk⟩ | h
  · exact hD.2 _ (q, e) (wk_mi hk)
  · exact hA q (Nat.le_trans hS.1 h)
theorem wk_DM {A : Nat → Prop} {wl wc wr : va_W} (hD : va_D A (wl ++ (wc ++ wr))) : va_D A wc :=
  ⟨fun i j p q hi hj e => by
    have := hD.1 _ _ p q (wk_mi (wl := wl) (wr := wr) hi) (wk_mi (wl := wl) (wr := wr) hj) e
    omega, fun k q hk => hD.2 _ q (wk_mi (wl := wl) (wr := wr) hk)⟩
theorem wk_PM {D : va_G} {cl : List vw_C} {wl wc wr : va_W} {H : Heap} (hP : va_P D cl (wl ++ (wc ++ wr)) H) : va_P D cl wc H := fun k q hq => hP _ q (wk_mi (wl := wl) (wr := wr) hq)
theorem wk_joinM {A : Nat → Prop} {D : va_G} {cl : List vw_C} {wl wc wr wc' : va_W} {H H1 : Heap} (hP : va_P D cl (wl ++ (wc ++ wr)) H) (hD : va_D A (wl ++ (wc ++ wr))) (ha : wc'.map Prod.fst = wc.map Prod.fst)
    (hk : ∀ q : Nat, q < H.size → ¬ va_A wc H.size q → H1[q]? = H[q]?) (hP1 : va_P D cl wc' H1) : va_P D cl (wl ++ (wc' ++ wr)) H1 ∧ va_D A (wl ++ (wc' ++ wr)) := by
  have hlen : wc'.length = wc.length := by
    have h1 := congrArg List.length ha
    simpa using h1
  refine ⟨fun k q hq => ?_, wk_D hD (by simp only [List.map_append, ha])⟩
  have key : ∀ i : Nat, (wl ++ (wc ++ wr))[i]? = some q → (i < wl.length ∨ wl.length + wc.length ≤ i) → va_at D cl q H1 := by
    intro i hi hd
    refine (hP i q hi).kept (hk q.1 (hP i q hi).lt fun hA => ?_)
    rcases hA with ⟨j, e, hj⟩ | hA
    · have hjl := (List.getElem?_eq_some_iff.mp hj).1
      have := hD.1 i (wl.length + j) q (q.1, e) hi (wk_mi hj) rfl
      omega
    · exact absurd (hP i q hi).lt (Nat.not_lt.mpr hA)
  by_cases h1 : k < wl.length
  · have e1 : (wl ++ (wc' ++ wr))[k]? = wl[k]? := List.getElem?_append_left h1
    have e2 : (wl ++ (wc ++ wr))[k]? = wl[k]? := List.getElem?_append_left h1
    exact key k (by rw [e2, ← e1]; exact hq) (Or.inl h1)
  · have e1 : (wl ++ (wc' ++ wr))[k]? = (wc' ++ wr)[k - wl.length]? := List.getElem?_append_right (Nat.not_lt.mp h1)
    have e2 : (wl ++ (wc ++ wr))[k]? = (wc ++ wr)[k - wl.length]? := List.getElem?_append_right (Nat.not_lt.mp h1)
    by_cases h2 : k < wl.length + wc.length
    · have e3 : (wc' ++ wr)[k - wl.length]? = wc'[k - wl.length]? := List.getElem?_append_left (by omega)
      exact hP1 (k - wl.length) q (by rw [← e3, ← e1]; exact hq)
    · have e3 : (wc' ++ wr)[k - wl.length]? = wr[k - wl.length - wc'.length]? := List.getElem?_append_right (by omega)
      have e4 : (wc ++ wr)[k - wl.length]? = wr[k - wl.length - wc.length]? := List.getElem?_append_right (by omega)
      exact key k (by rw [e2, e4, ← hlen, ← e3, ← e1]; exact hq) (Or.inr (by omega))
section
variable {p : Program} {l : Launch} {e : Env} {R : Room} {s : State} {m : MethodId} {args : Array Value} {below : List Frame} {meth : Method} {c : Code} {H : Heap} {locs : List Loc} {cells slots : Nat} {Q : State → Prop}
variable {dC : Nat → ClassId} {dI : Nat → Nat → Nat} {cI cB cS : ClassId} {tT : Nat} {A : Nat → Prop} {pc : Nat} {ls : Array Slot} {rest st0 : List Value} {cc : ByteArray} {own : String} {nL : Nat} {rt : Option FieldType}
theorem wk_statM {wl wc wr : va_W} (K : wk_X p s m args meth c cc own nL rt dC dI cI cB cS tT A) (hD : va_D A (wl ++ (wc ++ wr))) (hS : va_S A s.heap H locs) : wk_St tT (va_A wc H.size) s H := by
  obtain ⟨hx, hb, hr, hml, hown, htl, hlk, hK, hZ, hT, hN, hA⟩ := K
  have hF := wk_freeM hD hS hA
  exact ⟨(hZ.kept (fun a h1 h2 => hS.2.1 a h1 h2)).narrow hF, (hT.kept (fun a h1 h2 => hS.2.1 a h1 h2)).narrow hF⟩
theorem wk_preSM {wl wc wr : va_W} {As : List Value} (K : wk_X p s m args meth c cc own nL rt dC dI cI cB cS tT A) (hP : va_P (dC, dI) vwCl (wl ++ (wc ++ wr)) H) (hD : va_D A (wl ++ (wc ++ wr))) (hS : va_S A s.heap H locs) : PreS s H (wk_Pre dC dI cI cB cS tT As wc H.size) As :=
  ⟨wk_blind, fun U hU hW => ⟨rfl, by rw [hU], by rw [hU]; exact wk_PM hP, va_K.moved hW.alike K.2.2.2.2.2.2.2.1, (wk_DM hD).weaken (fun _ _ _ _ => trivial), by rw [hU]; exact (wk_statM K hD hS).moved hW.alike, va_Nw.warmF hW K.2.2.2.2.2.2.2.2.2.2.1.1, va_Nw.warmF hW K.2.2.2.2.2.2.2.2.2.2.1.2⟩⟩
theorem wk_preVM {wl wc wr : va_W} {As : List Value} {C : String} {T : u_T} {N ci b : Nat} {fs : List Value} (K : wk_X p s m args meth c cc own nL rt dC dI cI cB cS tT A) (hP : va_P (dC, dI) vwCl (wl ++ (wc ++ wr)) H) (hD : va_D A (wl ++ (wc ++ wr))) (hS : va_S A s.heap H locs) (he : wc[0]? = some (b, .inr (ci, fs))) (hc : vwCl[ci]? = some (C, T, N)) : PreV s H C b (wk_Pre dC dI cI cB cS tT (.ref b :: As) wc H.size) As :=
  ⟨wk_blind, va_recv K.2.2.2.2.2.2.2.1 (wk_PM hP) hc he, (wk_preSM (As := .ref b :: As) K hP hD hS).2⟩
theorem wk_calliM {wl wc wr wc' : va_W} {r : Int32} {a : Array Value} {mc ms : Nat} (K : wk_X p s m args meth c cc own nL rt dC dI cI cB cS tT A) (hP : va_P (dC, dI) vwCl (wl ++ (wc ++ wr)) H) (hD : va_D A (wl ++ (wc ++ wr))) (hS : va_S A s.heap H locs) (ha : wc'.map Prod.fst = wc.map Prod.fst)
    (hr : va_Run p l e R s m args below meth c H locs cells slots mc ms (F0 m pc ls st0) rest (wk_Qi dC dI r wc' (va_A wc H.size) a) (va_A wc H.size))
    (kk : ∀ (H1 : Heap) (locs1 : List Loc), va_P (dC, dI) vwCl (wl ++ (wc' ++ wr)) H1 → va_D A (wl ++ (wc' ++ wr)) → va_S A s.heap H1 locs1 → W p l e R s m args below meth c H1 locs1 (cells + mc) (slots + ms) Q (F0 m (pc + 3) ls (.int r :: rest))) : W p l e R s m args below meth c H locs cells slots Q (F0 m pc ls st0) := by
  have hA := K.2.2.2.2.2.2.2.2.2.2.2
  have hF := wk_freeM hD hS hA
  refine va_calli hr hS (fun q _ h => hF q h) hF (fun r' u t H1 locs1 ht hvm hw hB hz hk hS1 => ?_)
  subst hw
  rw [ht] at hB
  obtain ⟨hP1, hD1⟩ := wk_joinM hP hD ha hk hB
  exact kk H1 locs1 hP1 hD1 hS1
theorem wk_callvM {wl wc wr wc' : va_W} {a : Array Value} {mc ms : Nat} (K : wk_X p s m args meth c cc own nL rt dC dI cI cB cS tT A) (hP : va_P (dC, dI) vwCl (wl ++ (wc ++ wr)) H) (hD : va_D A (wl ++ (wc ++ wr))) (hS : va_S A s.heap H locs) (ha : wc'.map Prod.fst = wc.map Prod.fst)
    (hr : va_Run p l e R s m args below meth c H locs cells slots mc ms (F0 m pc ls st0) rest (wk_Qv dC dI wc' (va_A wc H.size) a) (va_A wc H.size))
    (kk : ∀ (H1 : Heap) (locs1 : List Loc), va_P (dC, dI) vwCl (wl ++ (wc' ++ wr)) H1 → va_D A (wl ++ (wc' ++ wr)) → va_S A s.heap H1 locs1 → W p l e R s m args below meth c H1 locs1 (cells + mc) (slots + ms) Q (F0 m (pc + 3) ls rest)) : W p l e R s m args below meth c H locs cells slots Q (F0 m pc ls st0) := by
  have hA := K.2.2.2.2.2.2.2.2.2.2.2
  have hF := wk_freeM hD hS hA
  refine va_callv hr hS (fun q _ h => hF q h) hF (fun u t H1 locs1 ht hvm hw hB hz hk hS1 => ?_)
  rw [ht] at hB
  obtain ⟨hP1, hD1⟩ := wk_joinM hP hD ha hk hB
  exact kk H1 locs1 hP1 hD1 hS1
end
