/-! The law's helpers: methods with handlers. -/
theorem gw_ofH {l : Launch} {y : MethodName} {ws ws' : List Cond} {rm : Room} {Pc : Array Value → State → Prop} {Qc : Array Value → State → Outcome → State → Prop} {mc ms : Nat} {free : Addr → Prop} {cc : ByteArray} {maxL : Nat} {ret : Option FieldType} {hh : List (Nat × Nat × Nat × Nat)} (hy : plainName y.cls = true) (hw : ws = Cond.codeWith y cc maxL ret hh :: ws')
    (body : ∀ p e s m args below meth c s₁, BodyLoose p l y (headSpec ws rm) cc maxL ret e s m args below meth c s₁ → c.maxLocals = maxL → c.exceptionTable.toList = tableOf hh → Pc args s → W p l e (headSpec ws rm).room s m args below meth c s.heap [] 0 0 (MQ below Qc args s mc ms free) (entryFrame m args maxL)) : Met l y ws rm Pc Qc mc ms free := by
  have hm : Cond.codeWith y cc maxL ret hh ∈ ws := by rw [hw]; exact List.mem_cons_self
  have his : ∀ (args : Array Value) (s : State) (m : MethodId), (headSpec ws rm).pre.before args s = true → s.methodNamed? y = some m → ∃ meth c, s.vm.method? m = some meth ∧ meth.code = some c ∧ c.code = cc ∧ c.maxLocals = maxL ∧ meth.sig.returnType = ret ∧ meth.locks = false := fun args s m h hn => by
    obtain ⟨m9, meth, c, hn9, h1, h2, h3, h4, -, h5, h6, -⟩ := Cond.codeWith_spec (atoms_spec (ws := ws) h _ hm)
    cases hn.symm.trans hn9
    exact ⟨meth, c, h1, h2, h3, h4, h5, h6⟩
  refine MetFree.of_bodyS (code := cc) (maxLocals := maxL) (ret := ret) hy his fun p e s m args below meth c s₁ B hml hP _ => ?_
  have hhp : s₁.heap = s.heap := by rw [B.state]; rfl
  have ht := vx_table (x := y) B (atoms_spec (ws := ws) B.pre _ hm)
  obtain ⟨t, a1, o, b1, b2, b3, b4⟩ := body p e s m args below meth c s₁ B hml ht hP s₁ hhp (Stand.of_body B)
  exact ⟨t, o, a1, b1, b2, b3, b4⟩
/-- which exceptions are caught by which -/
def gC (U : State) : Prop := (∀ E ∈ [gE1, gE2, gE3], va_Nw (.castable E E) U) ∧ va_Nc gE2 gE1 U ∧ va_Nc gE3 gE1 U ∧ va_Nc gE3 gE2 U ∧ va_Nc gE1 gE2 U
abbrev gPy (av : List Value) (D : va_G) (ws : va_W) (tys : List (ClassId × FieldType)) : Array Value → State → Prop := va_Pc av (fun U => va_P D vwCl ws U.heap ∧ va_K D vwCl tys U ∧ gX U ∧ gC U)
theorem gC_warm {s U : State} (hW : s.WarmedH U.vm) (h : gC s) : gC U := ⟨fun E hE => va_Nw.warmC hW (h.1 E hE), h.2.1.moved hW.alike, h.2.2.1.moved hW.alike, h.2.2.2.1.moved hW.alike, h.2.2.2.2.moved hW.alike⟩
theorem gC_call {U : State} {g : JFrame} {mk : MethodId} {a : Array Value} (h : gC U) : gC (U.calling g mk a) := gC_warm (s := U) (U := U.calling g mk a) (State.WarmedH.refl U) h
theorem gX_warm {s U : State} (hW : s.WarmedH U.vm) (hU : U.heap = s.heap) (h : gX s) : gX U := by
  obtain ⟨h1, h2, h3, h4⟩ := h
  refine ⟨by rw [hU]; exact vx_Zq.moved hW.alike h1, by rw [hU]; exact vx_Zq.moved hW.alike h2, fun q hq => ?_, fun w hw => gw_face hW (gBad_ok w hw) (h4 w hw)⟩
  obtain ⟨sa, hs⟩ := h3 q hq
  exact ⟨sa, vk_R.warm hW hs⟩
theorem gw_bly {av : List Value} {D : va_G} {ws : va_W} {tys : List (ClassId × FieldType)} : FrameBlind (gPy av D ws tys) := fun a U g mk q => by
  obtain ⟨q0, qP, qK, qX, qC⟩ := q
  exact ⟨q0, qP, va_K.moved (u := U) (U := U.calling g mk a) (Vm.Alike.refl U.vm) qK, gX_call qX, gC_call qC⟩
theorem gw_pvx {s : State} {D : va_G} {ws wc : va_W} {tys : List (ClassId × FieldType)} {C : String} {b : Nat} {As : List Value} (hK : va_K D vwCl tys s) (hP : va_P D vwCl ws s.heap) (hX : gX s) (is : List Nat) (hs : is.filterMap (fun i => ws[i]?) = wc) (ci : Nat) {r : vw_C} {fs : List Value} (hc : vwCl[ci]? = some r) (hC : r.1 = C) (he : wc[0]? = some (b, .inr (ci, fs))) : PreV s s.heap C b (gPx (.ref b :: As) D wc tys) As :=
  ⟨gw_blx, by rw [← hC]; exact va_recv hK (hP.sub is hs) hc he, fun U hU hW => ⟨rfl, by rw [hU]; exact hP.sub is hs, va_K.moved hW.alike hK, gX_warm hW hU hX⟩⟩
section
variable {p : Program} {l : Launch} {e : Env} {R : Room} {s : State} {m : MethodId} {args : Array Value} {below : List Frame} {meth : Method} {c : Code} {H : Heap} {locs : List Loc} {cells slots : Nat} {Q : State → Prop}
variable {cc : ByteArray} {pc : Nat} {ls : Array Slot} {rest : List Value} {D : va_G} {cl : List vw_C} {A : Nat → Prop} {a : Nat} {tys : List (ClassId × FieldType)} {ws : va_W} {H0 : Heap}
theorem gw_last (hexec : p.tables.exec = Jvm.exec) (hb : c.code = cc) (hK : va_K D cl tys s) (hP : va_P D cl ws H) (hD : va_D A ws) (hS : va_S A H0 H locs) (q0 t0 : Nat) {cA : ClassId} {n : Nat} {f : Nat → Int64} (ha : ws[q0]? = some (a, .inl (cA, n, .inr (.inl f)))) (ht : tys[t0]? = some (cA, .long)) {x : Int64} (h0 : 0 < n) (hn : n < 2 ^ 31) (hdg : decode cc pc = .ok (.lastore, 1))
    (kk : ∀ (H1 : Heap) (locs1 : List Loc), va_P D cl (ws.set q0 (a, .inl (cA, n, .inr (.inl (vp_updL f 0 x))))) H1 → va_D A (ws.set q0 (a, .inl (cA, n, .inr (.inl (vp_updL f 0 x))))) → va_S A H0 H1 locs1 → W p l e R s m args below meth c H1 locs1 cells slots Q (F0 m (pc + 1) ls rest)) : W p l e R s m args below meth c H locs cells slots Q (F0 m pc ls (.long x :: .int 0 :: .ref a :: rest)) :=
  va_last hexec hb hK hP hD hS q0 t0 ha ht (i := 0) (vp_in_nI (n := 0) h0 hn) hdg kk
end
