/-! own rows: making objects and arrays -/
def wk_Qn (dC : Nat → ClassId) (dI : Nat → Nat → Nat) {S : Type} (w1 : S → va_W) (A : Nat → Prop) : Array Value → State → Outcome → State → Prop :=
  va_Qv (S := S) (fun _ => True) (fun u t => va_P (dC, dI) vwCl (w1 u) t.heap ∧ va_D A (w1 u)) A
section
variable {p : Program} {l : Launch} {e : Env} {R : Room} {s : State} {m : MethodId} {args : Array Value} {below : List Frame} {meth : Method} {c : Code} {H : Heap} {locs : List Loc} {cells slots : Nat} {Q : State → Prop}
variable {dC : Nat → ClassId} {dI : Nat → Nat → Nat} {cI cB cS : ClassId} {tT : Nat} {A : Nat → Prop} {pc : Nat} {ls : Array Slot} {rest st0 : List Value} {cc : ByteArray} {own : String} {nL : Nat} {rt : Option FieldType}
theorem wk_newa (K : wk_X p s m args meth c cc own nL rt dC dI cI cB cS tT A) {ws : va_W} {H0 : Heap} {atype : ArrayType} (harr : (Cond.arrayClass (newarray.typeOf atype)).before args s = true) {ty : FieldType} (hty : newarray.typeOf atype = ty) (hP : va_P (dC, dI) vwCl ws H) (hD : va_D A ws) (hS : va_S A H0 H locs) (hA : ∀ q, H0.size ≤ q → A q) (t0 : Nat) {cA : ClassId} (ht : (wk_ty cI cB cS)[t0]? = some (cA, ty)) (hra : ∀ (U : State) (x : ClassId), va_RA U x ty → U.vm.findClass ("[" ++ ty.toString) = some x)
    {n : Int32} {N' : Nat} {a0 : vp_A} (ha : ∀ cA : ClassId, vp_cell cA a0 = arrV cA N' (fun _ => defaultValue ty)) (hn : ¬ n < 0) (hN : n.toNatClampNeg = N') (hbytes : N' * componentBytes ty ≤ 536870912) (hcells : cells + 1 ≤ R.cells) (hslots : slots + N' ≤ R.slots) (hdg : decode cc pc = .ok (.newarray atype, 2))
    (kk : ∀ (q : Nat) (H1 : Heap), va_P (dC, dI) vwCl (ws ++ [(q, .inl (cA, a0))]) H1 → va_D A (ws ++ [(q, .inl (cA, a0))]) → va_S A H0 H1 locs → W p l e R s m args below meth c H1 locs (cells + 1) (slots + N') Q (F0 m (pc + 2) ls (.ref q :: rest))) : W p l e R s m args below meth c H locs cells slots Q (F0 m pc ls (.int n :: rest)) := by
  obtain ⟨hx, hb, hr, hml, hown, htl, hlk, hK, hZ, hT, hN2, hA2⟩ := K
  refine va_newa hx hb harr hty hK hP hD hS hA ha hn hN hbytes hcells hslots hdg (fun q cA' H1 hK' hP1 hD1 hS1 => ?_)
  have e1 := hra s cA (hK.2 t0 _ ht).2
  have e2 := hra s cA' (hK'.2 3 (cA', ty) rfl).2
  have e3 : cA' = cA := Option.some.inj (e2.symm.trans e1)
  subst e3
  exact kk q H1 hP1 hD1 hS1
theorem wk_calln {ws wc wr : va_W} {S : Type} {w1 : S → va_W} {a : Array Value} {mc ms : Nat} (K : wk_X p s m args meth c cc own nL rt dC dI cI cB cS tT A) (hP : va_P (dC, dI) vwCl ws H) (hD : va_D A ws) (hS : va_S A s.heap H locs) (isC isR : List Nat) (hC : isC.map (fun i => ws[i]?) = wc.map some) (hR : isR.map (fun i => ws[i]?) = wr.map some) (hn : va_nd isR = true) (hdis : ∀ i ∈ isR, i ∉ isC)
    (hr : va_Run p l e R s m args below meth c H locs cells slots mc ms (F0 m pc ls st0) rest (wk_Qn dC dI w1 (va_A wc H.size) a) (va_A wc H.size))
    (kk : ∀ (u : S) (H1 : Heap) (locs1 : List Loc), va_P (dC, dI) vwCl (wr ++ w1 u) H1 → va_D A (wr ++ w1 u) → va_S A s.heap H1 locs1 → W p l e R s m args below meth c H1 locs1 (cells + mc) (slots + ms) Q (F0 m (pc + 3) ls rest)) : W p l e R s m args below meth c H locs cells slots Q (F0 m pc ls st0) := by
  have hA := K.2.2.2.2.2.2.2.2.2.2.2
  have hF := va_free (wc := wc) hD hS hA isC hC
  refine va_callv hr hS (fun q _ h => hF q h) hF (fun u t H1 locs1 ht hvm hw hB hz hk hS1 => ?_)
  obtain ⟨hP1, hD1⟩ := hB
  rw [ht] at hP1
  obtain ⟨hP2, hD2⟩ := va_join hP hD isC isR hC hR hn hdis hk hF hP1 hD1
  exact kk u H1 locs1 hP2 hD2 hS1
theorem wk_nret {S : Type} {w1 : S → va_W} (u : S) (K : wk_X p s m args meth c cc own nL none dC dI cI cB cS tT A) (hP : va_P (dC, dI) vwCl (w1 u) H) (hD : va_D A (w1 u)) (hS : va_S A s.heap H locs) (hd : decode cc pc = .ok (.return_, 1)) : W p l e R s m args below meth c H locs cells slots (MQ below (wk_Qn dC dI w1 A) args s cells slots A) (F0 m pc ls []) :=
  W.vret K.1 K.2.1 K.2.2.1 (fun t ht _ => ⟨⟨u, rfl, trivial, by subst ht; exact hP, hD⟩, hS.F ht⟩) hS.2.2 hd K.2.2.2.2.2.2.1
end
