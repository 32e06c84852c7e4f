/-! own rows: cells by place, a call over places, guards, entry and returns -/
theorem wk_nz {v : Int32} (h : v = 0 ∨ v = 1) : narrow .boolean (.int v) = .int v := by
  rcases h with rfl | rfl <;> rfl
theorem wk_pos {α : Type} {q : Prop} {d : Decidable q} {a b : α} {r : α} (h : (@ite α q d a b) = r) (c : q) : a = r := (if_pos c).symm.trans h
theorem wk_neg {α : Type} {q : Prop} {d : Decidable q} {a b : α} {r : α} (h : (@ite α q d a b) = r) (c : ¬ q) : b = r := (if_neg c).symm.trans h
theorem wk_bind {α β : Type} {o : Option α} {f : α → Option β} {r : β} (h : o.bind f = some r) : ∃ z, o = some z ∧ f z = some r := Option.bind_eq_some_iff.mp h
def wk_put : va_W → List Nat → va_W → va_W
  | ws, i :: is, x :: xs => wk_put (ws.set i x) is xs
  | ws, [], _ => ws
  | ws, _ :: _, [] => ws
theorem wk_put_at : ∀ (is : List Nat) (w ws : va_W), is.length = w.length → ∀ (k : Nat) (q : Nat × va_E), (wk_put ws is w)[k]? = some q → q ∈ w ∨ (ws[k]? = some q ∧ k ∉ is)
  | [], w, ws, _, k, q, h => by
    cases w <;> exact Or.inr ⟨h, List.not_mem_nil⟩
  | i :: is, [], ws, h0, k, q, h => by simp at h0
  | i :: is, x :: xs, ws, h0, k, q, h => by
    have h1 : (wk_put (ws.set i x) is xs)[k]? = some q := h
    rcases wk_put_at is xs (ws.set i x) (by simpa using h0) k q h1 with h2 | ⟨h2, h3⟩
    · exact Or.inl (List.mem_cons_of_mem _ h2)
    · by_cases hk : k = i
      · subst hk
        have hl : k < (ws.set k x).length := (List.getElem?_eq_some_iff.mp h2).1
        rw [List.length_set] at hl
        rw [List.getElem?_set_self hl] at h2
        cases h2
        exact Or.inl List.mem_cons_self
      · rw [List.getElem?_set_ne (Ne.symm hk)] at h2
        refine Or.inr ⟨h2, fun h4 => ?_⟩
        rcases List.mem_cons.mp h4 with h5 | h5
        · exact hk h5
        · exact h3 h5
theorem wk_put_ad : ∀ (is : List Nat) (w ws : va_W), is.map (fun i => (ws.map Prod.fst)[i]?) = w.map (fun x => some x.1) → (wk_put ws is w).map Prod.fst = ws.map Prod.fst
  | [], w, ws, _ => by cases w <;> rfl
  | i :: is, [], ws, h => by simp at h
  | i :: is, x :: xs, ws, h => by
    rw [List.map_cons, List.map_cons] at h
    injection h with h1 h2
    have e : (ws.set i x).map Prod.fst = ws.map Prod.fst := by
      apply List.ext_getElem?
      intro k
      rw [List.map_set]
      by_cases hk : k = i
      · subst hk
        have hl : k < (ws.map Prod.fst).length := (List.getElem?_eq_some_iff.mp h1).1
        rw [List.getElem?_set_self hl, h1]
      · rw [List.getElem?_set_ne (Ne.symm hk)]
    show (wk_put (ws.set i x) is xs).map Prod.fst = _
    rw [wk_put_ad is xs (ws.set i x) (by rw [e]; exact h2), e]
theorem wk_D {A : Nat → Prop} {ws ws' : va_W} (h : va_D A ws) (e : ws'.map Prod.fst = ws.map Prod.fst) : va_D A ws' := by
  have key : ∀ (k : Nat) (q : Nat × va_E), ws'[k]? = some q → ∃ q0, ws[k]? = some q0 ∧ q0.1 = q.1 := by
    intro k q hk
    have h1 : (ws'.map Prod.fst)[k]? = some q.1 := by rw [List.getElem?_map, hk]; rfl
    rw [e, List.getElem?_map] at h1
    cases hq : ws[k]? with
    | none => rw [hq] at h1; cases h1
    | some q0 => rw [hq] at h1; exact ⟨q0, rfl, Option.some.inj h1⟩
  refine ⟨fun i j x y hi hj hxy => ?_, fun k q hk => ?_⟩
  · obtain ⟨x0, h1, h2⟩ := key i x hi
    obtain ⟨y0, h3, h4⟩ := key j y hj
    exact h.1 i j x0 y0 h1 h3 (h2.trans (hxy.trans h4.symm))
  · obtain ⟨q0, h1, h2⟩ := key k q hk
    rw [← h2]
    exact h.2 k q0 h1
theorem wk_pl {ws wc : va_W} {is : List Nat} (hs : is.map (fun i => ws[i]?) = wc.map some) (k : Nat) (q : Nat × va_E) (hq : wc[k]? = some q) : ∃ i, is[k]? = some i ∧ ws[i]? = some q := by
  have h1 : (is.map (fun i => ws[i]?))[k]? = some (some q) := by rw [hs, List.getElem?_map, hq]; rfl
  rw [List.getElem?_map] at h1
  cases hi : is[k]? with
  | none => rw [hi] at h1; cases h1
  | some i => rw [hi] at h1; exact ⟨i, rfl, Option.some.inj h1⟩
theorem wk_join {A0 : Nat → Prop} {D : va_G} {cl : List vw_C} {ws wc wc' : va_W} {H H1 : Heap} (hP : va_P D cl ws H) (hD : va_D A0 ws) (is : List Nat) (hC : is.map (fun i => ws[i]?) = wc.map some) (ha : wc'.map Prod.fst = wc.map Prod.fst)
    (hk : ∀ q : Nat, q < H.size → ¬ va_A wc H.size q → H1[q]? = H[q]?) (hP1 : va_P D cl wc' H1) : va_P D cl (wk_put ws is wc') H1 ∧ va_D A0 (wk_put ws is wc') := by
  have hlen : is.length = wc'.length := by
    have h1 := congrArg List.length hC
    have h2 := congrArg List.length ha
    simp only [List.length_map] at h1 h2
    omega
  refine ⟨fun k q hq => ?_, wk_D hD (wk_put_ad is wc' ws ?_)⟩
  · rcases wk_put_at is wc' ws hlen k q hq with h | ⟨h, h2⟩
    · obtain ⟨j, hj⟩ := List.getElem?_of_mem h
      exact hP1 j q hj
    · refine (hP k q h).kept (hk q.1 (hP k q h).lt fun hA => ?_)
      rcases hA with ⟨j, e, hj⟩ | hA
      · obtain ⟨i, h3, h4⟩ := wk_pl hC j (q.1, e) hj
        have hij := hD.1 k i q (q.1, e) h h4 rfl
        subst hij
        exact h2 (List.mem_of_getElem? h3)
      · exact absurd (hP k q h).lt (Nat.not_lt.mpr hA)
  · apply List.ext_getElem?
    intro k
    have h1 : (wc'.map Prod.fst)[k]? = (wc.map Prod.fst)[k]? := by rw [ha]
    have h2 : (is.map (fun i => ws[i]?))[k]? = (wc.map some)[k]? := by rw [hC]
    simp only [List.getElem?_map] at h1 h2 ⊢
    cases hw : wc[k]? with
    | none =>
      rw [hw] at h1 h2
      cases hi : is[k]? with
      | none =>
        cases hv : wc'[k]? with
        | none => rfl
        | some v => rw [hv] at h1; cases h1
      | some i => rw [hi] at h2; cases h2
    | some q =>
      rw [hw] at h1 h2
      cases hi : is[k]? with
      | none => rw [hi] at h2; cases h2
      | some i =>
        cases hv : wc'[k]? with
        | none => rw [hv] at h1; cases h1
        | some v =>
          rw [hv] at h1
          rw [hi] at h2
          have e1 : v.1 = q.1 := Option.some.inj h1
          have e2 : ws[i]? = some q := Option.some.inj h2
          simp [e2, e1]
def wk_head (j : Nat) : Value := .int (wk_hd j)
abbrev wk_ty (cI cB cS : ClassId) : List (ClassId × FieldType) := [(cI, .int), (cB, .byte), (cS, .short)]
def wk_N1 : Cond := .fieldLinkNest "DocumentFile$Reader" 58 "DocumentFile" "HEAD" "[I" "DocumentFile"
def wk_N2 : Cond := .fieldLinkNest "DocumentFile$Writer" 35 "DocumentFile" "HEAD" "[I" "DocumentFile"
def wk_Nn (U : State) : Prop := va_Nw wk_N1 U ∧ va_Nw wk_N2 U
def wk_St (tT : Nat) (A : Nat → Prop) (U : State) (H : Heap) : Prop := va_Z "DocumentFile" "HEAD" "[I" (.ref tT) A U H ∧ va_T .int tT 3 wk_head A U H
/-- what holds all along a method's body -/
def wk_X (p : Program) (s : State) (m : MethodId) (args : Array Value) (meth : Method) (c : Code) (cc : ByteArray) (own : String) (nL : Nat) (rt : Option FieldType) (dC : Nat → ClassId) (dI : Nat → Nat → Nat) (cI cB cS : ClassId) (tT : Nat) (A : Nat → Prop) : Prop :=
  p.tables.exec = Jvm.exec ∧ c.code = cc ∧ meth.sig.returnType = rt ∧ c.maxLocals = nL ∧ s.vm.findClass own = some m.cls ∧ (∀ w ∈ lw_g, w.before args s = true) ∧ meth.locks = false ∧ va_K (dC, dI) vwCl (wk_ty cI cB cS) s ∧ va_Z "DocumentFile" "HEAD" "[I" (.ref tT) A s s.heap ∧ va_T .int tT 3 wk_head A s s.heap ∧ wk_Nn s ∧ ∀ q : Nat, s.heap.size ≤ q → A q
def wk_Pre (dC : Nat → ClassId) (dI : Nat → Nat → Nat) (cI cB cS : ClassId) (tT : Nat) (av : List Value) (ws : va_W) (sz : Nat) : Array Value → State → Prop :=
  va_Pc av (fun U => U.heap.size = sz ∧ va_P (dC, dI) vwCl ws U.heap ∧ va_K (dC, dI) vwCl (wk_ty cI cB cS) U ∧ va_D (fun _ => True) ws ∧ wk_St tT (va_A ws sz) U U.heap ∧ wk_Nn U)
def wk_Qi (dC : Nat → ClassId) (dI : Nat → Nat → Nat) (r : Int32) (ws' : va_W) (A : Nat → Prop) : Array Value → State → Outcome → State → Prop :=
  va_Qi (S := Unit) (fun x _ => x = r) (fun _ t => va_P (dC, dI) vwCl ws' t.heap) A
def wk_Qv (dC : Nat → ClassId) (dI : Nat → Nat → Nat) (ws' : va_W) (A : Nat → Prop) : Array Value → State → Outcome → State → Prop :=
  va_Qv (S := Unit) (fun _ => True) (fun _ t => va_P (dC, dI) vwCl ws' t.heap) A
theorem wk_St.moved {tT : Nat} {A : Nat → Prop} {u U : State} {H : Heap} (hvm : u.vm.Alike U.vm) (h : wk_St tT A u H) : wk_St tT A U H := ⟨h.1.moved hvm, h.2.moved hvm⟩
theorem wk_blind {dC : Nat → ClassId} {dI : Nat → Nat → Nat} {cI cB cS : ClassId} {tT : Nat} {av : List Value} {ws : va_W} {sz : Nat} : FrameBlind (wk_Pre dC dI cI cB cS tT av ws sz) := fun a U g mk q => by
  obtain ⟨q0, q1, qP, qK, qD, qZ, qN⟩ := q
  exact ⟨q0, q1, qP, va_K.moved (u := U) (U := U.calling g mk a) (Vm.Alike.refl U.vm) qK, qD, wk_St.moved (u := U) (U := U.calling g mk a) (Vm.Alike.refl U.vm) qZ, va_Nw.same (u := U) (U := U.calling g mk a) rfl rfl qN.1, va_Nw.same (u := U) (U := U.calling g mk a) rfl rfl qN.2⟩
section
variable {p : Program} {l : Launch} {e : Env} {R : Room} {s : State} {m : MethodId} {args : Array Value} {below : List Frame} {meth : Method} {c : Code} {H : Heap} {locs : List Loc} {cells slots : Nat} {Q : State → Prop}
variable {dC : Nat → ClassId} {dI : Nat → Nat → Nat} {cI cB cS : ClassId} {tT : Nat} {A : Nat → Prop} {pc : Nat} {ls : Array Slot} {rest st0 : List Value} {cc : ByteArray} {own : String} {nL : Nat} {rt : Option FieldType}
theorem wk_sub {ws wc : va_W} {is : List Nat} (hP : va_P (dC, dI) vwCl ws H) (hC : is.map (fun i => ws[i]?) = wc.map some) : va_P (dC, dI) vwCl wc H := fun k q hq => by
  obtain ⟨i, -, hi⟩ := wk_pl hC k q hq
  exact hP i q hi
theorem wk_stat {ws wc : va_W} (K : wk_X p s m args meth c cc own nL rt dC dI cI cB cS tT A) (hD : va_D A ws) (hS : va_S A s.heap H locs) (is : List Nat) (hC : is.map (fun i => ws[i]?) = wc.map some) : wk_St tT (va_A wc H.size) s H := by
  obtain ⟨hx, hb, hr, hml, hown, htl, hlk, hK, hZ, hT, hN, hA⟩ := K
  have hF := va_free (wc := wc) hD hS hA is hC
  exact ⟨(hZ.kept (fun a h1 h2 => hS.2.1 a h1 h2)).narrow hF, (hT.kept (fun a h1 h2 => hS.2.1 a h1 h2)).narrow hF⟩
theorem wk_preS {ws wc : va_W} {As : List Value} (K : wk_X p s m args meth c cc own nL rt dC dI cI cB cS tT A) (hP : va_P (dC, dI) vwCl ws H) (hD : va_D A ws) (hS : va_S A s.heap H locs) (is : List Nat) (hC : is.map (fun i => ws[i]?) = wc.map some) (hn : va_nd is = true) : PreS s H (wk_Pre dC dI cI cB cS tT As wc H.size) As :=
  ⟨wk_blind, fun U hU hW => ⟨rfl, by rw [hU], by rw [hU]; exact wk_sub hP hC, va_K.moved hW.alike K.2.2.2.2.2.2.2.1, (hD.sub is hn hC).weaken (fun _ _ _ _ => trivial), by rw [hU]; exact (wk_stat K hD hS is hC).moved hW.alike, va_Nw.warmF hW K.2.2.2.2.2.2.2.2.2.2.1.1, va_Nw.warmF hW K.2.2.2.2.2.2.2.2.2.2.1.2⟩⟩
theorem wk_preV {ws wc : va_W} {As : List Value} {C : String} {T : u_T} {N ci b : Nat} {fs : List Value} (K : wk_X p s m args meth c cc own nL rt dC dI cI cB cS tT A) (hP : va_P (dC, dI) vwCl ws H) (hD : va_D A ws) (hS : va_S A s.heap H locs) (is : List Nat) (hC : is.map (fun i => ws[i]?) = wc.map some) (hn : va_nd is = true) (he : wc[0]? = some (b, .inr (ci, fs))) (hc : vwCl[ci]? = some (C, T, N)) : PreV s H C b (wk_Pre dC dI cI cB cS tT (.ref b :: As) wc H.size) As :=
  ⟨wk_blind, va_recv K.2.2.2.2.2.2.2.1 (wk_sub hP hC) hc he, (wk_preS (As := .ref b :: As) K hP hD hS is hC hn).2⟩
theorem wk_calli {ws wc wc' : va_W} {r : Int32} {a : Array Value} {mc ms : Nat} (K : wk_X p s m args meth c cc own nL rt dC dI cI cB cS tT A) (hP : va_P (dC, dI) vwCl ws H) (hD : va_D A ws) (hS : va_S A s.heap H locs) (is : List Nat) (hC : is.map (fun i => ws[i]?) = wc.map some) (ha : wc'.map Prod.fst = wc.map Prod.fst)
    (hr : va_Run p l e R s m args below meth c H locs cells slots mc ms (F0 m pc ls st0) rest (wk_Qi dC dI r wc' (va_A wc H.size) a) (va_A wc H.size))
    (kk : ∀ (H1 : Heap) (locs1 : List Loc), va_P (dC, dI) vwCl (wk_put ws is wc') H1 → va_D A (wk_put ws is wc') → va_S A s.heap H1 locs1 → W p l e R s m args below meth c H1 locs1 (cells + mc) (slots + ms) Q (F0 m (pc + 3) ls (.int r :: rest))) : W p l e R s m args below meth c H locs cells slots Q (F0 m pc ls st0) := by
  have hA := K.2.2.2.2.2.2.2.2.2.2.2
  have hF := va_free (wc := wc) hD hS hA is hC
  refine va_calli hr hS (fun q _ h => hF q h) hF (fun r' u t H1 locs1 ht hvm hw hB hz hk hS1 => ?_)
  subst hw
  rw [ht] at hB
  obtain ⟨hP1, hD1⟩ := wk_join hP hD is hC ha hk hB
  exact kk H1 locs1 hP1 hD1 hS1
theorem wk_callv {ws wc wc' : va_W} {a : Array Value} {mc ms : Nat} (K : wk_X p s m args meth c cc own nL rt dC dI cI cB cS tT A) (hP : va_P (dC, dI) vwCl ws H) (hD : va_D A ws) (hS : va_S A s.heap H locs) (is : List Nat) (hC : is.map (fun i => ws[i]?) = wc.map some) (ha : wc'.map Prod.fst = wc.map Prod.fst)
    (hr : va_Run p l e R s m args below meth c H locs cells slots mc ms (F0 m pc ls st0) rest (wk_Qv dC dI wc' (va_A wc H.size) a) (va_A wc H.size))
    (kk : ∀ (H1 : Heap) (locs1 : List Loc), va_P (dC, dI) vwCl (wk_put ws is wc') H1 → va_D A (wk_put ws is wc') → va_S A s.heap H1 locs1 → W p l e R s m args below meth c H1 locs1 (cells + mc) (slots + ms) Q (F0 m (pc + 3) ls rest)) : W p l e R s m args below meth c H locs cells slots Q (F0 m pc ls st0) := by
  have hA := K.2.2.2.2.2.2.2.2.2.2.2
  have hF := va_free (wc := wc) hD hS hA is hC
  refine va_callv hr hS (fun q _ h => hF q h) hF (fun u t H1 locs1 ht hvm hw hB hz hk hS1 => ?_)
  rw [ht] at hB
  obtain ⟨hP1, hD1⟩ := wk_join hP hD is hC ha hk hB
  exact kk H1 locs1 hP1 hD1 hS1
theorem wk_iret {ws' : va_W} {v : Int32} (K : wk_X p s m args meth c cc own nL (some .int) dC dI cI cB cS tT A) (hP : va_P (dC, dI) vwCl ws' H) (hS : va_S A s.heap H locs) (hd : decode cc pc = .ok (.ireturn, 1)) : W p l e R s m args below meth c H locs cells slots (MQ below (wk_Qi dC dI v ws' A) args s cells slots A) (F0 m pc ls [.int v]) :=
  W.iret K.1 K.2.1 K.2.2.1 (fun t ht _ => ⟨⟨v, (), rfl, rfl, by subst ht; exact hP⟩, hS.F ht⟩) hS.2.2 hd K.2.2.2.2.2.2.1
theorem wk_zret {ws' : va_W} {v : Int32} (K : wk_X p s m args meth c cc own nL (some .boolean) dC dI cI cB cS tT A) (hz : v = 0 ∨ v = 1) (hP : va_P (dC, dI) vwCl ws' H) (hS : va_S A s.heap H locs) (hd : decode cc pc = .ok (.ireturn, 1)) : W p l e R s m args below meth c H locs cells slots (MQ below (wk_Qi dC dI v ws' A) args s cells slots A) (F0 m pc ls [.int v]) :=
  W.zret K.1 K.2.1 K.2.2.1 (wk_nz hz) (fun t ht _ => ⟨⟨v, (), rfl, rfl, by subst ht; exact hP⟩, hS.F ht⟩) hS.2.2 hd K.2.2.2.2.2.2.1
theorem wk_vret {ws' : va_W} (K : wk_X p s m args meth c cc own nL none dC dI cI cB cS tT A) (hP : va_P (dC, dI) vwCl ws' H) (hS : va_S A s.heap H locs) (hd : decode cc pc = .ok (.return_, 1)) : W p l e R s m args below meth c H locs cells slots (MQ below (wk_Qv dC dI ws' A) args s cells slots A) (F0 m pc ls []) :=
  W.vret K.1 K.2.1 K.2.2.1 (fun t ht _ => ⟨⟨(), rfl, trivial, by subst ht; exact hP⟩, hS.F ht⟩) hS.2.2 hd K.2.2.2.2.2.2.1
end
/-- a contract out of a walk from the entry -/
theorem wk_met {l : Launch} {dC : Nat → ClassId} {dI : Nat → Nat → Nat} {cI cB cS : ClassId} {tT : Nat} {y : MethodName} {cc : ByteArray} {nL : Nat} {rt : Option FieldType} {rm : Room} {Qc : (Nat → Prop) → Array Value → State → Outcome → State → Prop} {mc ms : Nat} (hy : plainName y.cls = true) (av : List Value) (ws : va_W) (sz : Nat) (hsl : (lg_sl av).length ≤ nL)
    (body : ∀ (p : Program) (e : Env) (s : State) (m : MethodId) (below : List Frame) (meth : Method) (c : Code) (A : Nat → Prop) (ls : Array Slot), wk_X p s m av.toArray meth c cc y.cls nL rt dC dI cI cB cS tT A → va_P (dC, dI) vwCl ws s.heap → va_D A ws → va_S A s.heap s.heap [] → lv_has ls nL (lv_args 0 av) → (meth.name = y.name) →
      W p l e rm s m av.toArray below meth c s.heap [] 0 0 (MQ below (Qc A) av.toArray s mc ms A) (F0 m 0 ls [])) :
    Met l y (Cond.code y cc nL rt :: lw_g) rm (wk_Pre dC dI cI cB cS tT av ws sz) (Qc (va_A ws sz)) mc ms (va_A ws sz) := by
  refine Met.ofW (cc := cc) (maxL := nL) (ret := rt) hy rfl ?_
  intro p e s m args below meth c s₁ B hml hv
  obtain ⟨rfl, hsz, hP, hK, hD0, ⟨hZ, hT⟩, hN⟩ := hv
  subst hsz
  have hts := atoms_spec (ws := Cond.code y cc nL rt :: lw_g) B.pre
  rw [lg_entry_eq]
  exact body p e s m below meth c _ _ ⟨B.exec, B.bytes, B.returns, hml, findClass_of_methodNamed B.named, fun w h => hts w (List.mem_cons_of_mem _ h), B.notSynchronized, hK, hZ, hT, hN, fun q h => Or.inr h⟩ hP hD0.self va_S.rf (lv_entry av hsl) (name_of_methodNamed B.named B.method).1
theorem wk_out {x : Int32} {n : Nat} (hn : n < 2 ^ 31) (h : ∀ k : Nat, k < n → ¬ x = Int32.ofNat k) : x.toInt < 0 ∨ (n : Int) - 1 < x.toInt := by
  rcases Int.lt_or_le x.toInt 0 with h0 | h0
  · exact Or.inl h0
  · refine Or.inr ?_
    rcases Int.lt_or_le ((n : Int) - 1) x.toInt with h1 | h1
    · exact h1
    · exfalso
      refine h x.toInt.toNat (by omega) ?_
      have : Int32.ofNat x.toInt.toNat = Int32.ofInt x.toInt := by
        rw [← Int.toNat_of_nonneg h0]; rfl
      rw [this, Int32.ofInt_toInt]
