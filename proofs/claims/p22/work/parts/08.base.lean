/-! Rows of mine over the kit's rows: shorter forms for generated text. -/
/-- the array classes of the worlds of the class -/
abbrev gT (cI cZ cL : ClassId) : List (ClassId × FieldType) := [(cI, .int), (cZ, .boolean)]
/-- the start of a method that reads -/
abbrev gPr (av : List Value) (D : va_G) (ws : va_W) (tys : List (ClassId × FieldType)) : Array Value → State → Prop := va_Pc av (fun U => va_P D vwCl ws U.heap ∧ va_K D vwCl tys U)
/-- the start of a method that writes -/
abbrev gPw (av : List Value) (D : va_G) (ws : va_W) (tys : List (ClassId × FieldType)) : Array Value → State → Prop := va_Pc av (fun U => va_P D vwCl ws U.heap ∧ va_K D vwCl tys U ∧ va_D (fun _ => True) ws)
/-- nothing old changes -/
abbrev gN : Nat → Prop := fun _ => False
/-- these change -/
abbrev gA (L : List Nat) : Nat → Prop := fun q => q ∈ L
/-- a world's addresses -/
abbrev gL (ws : va_W) : List Nat := ws.map (fun q => q.1)
theorem gw_blr {av : List Value} {D : va_G} {ws : va_W} {tys : List (ClassId × FieldType)} : FrameBlind (gPr av D ws tys) := fun a U g mk q => by
  obtain ⟨q0, qP, qK⟩ := q
  exact ⟨q0, qP, va_K.moved (u := U) (U := U.calling g mk a) (Vm.Alike.refl U.vm) qK⟩
theorem gw_blw {av : List Value} {D : va_G} {ws : va_W} {tys : List (ClassId × FieldType)} : FrameBlind (gPw av D ws tys) := fun a U g mk q => by
  obtain ⟨q0, qP, qK, qD⟩ := q
  exact ⟨q0, qP, va_K.moved (u := U) (U := U.calling g mk a) (Vm.Alike.refl U.vm) qK, qD⟩
theorem gw_pvr {s : State} {H : Heap} {D : va_G} {ws wc : va_W} {tys : List (ClassId × FieldType)} {C : String} {b : Nat} {As : List Value} (hK : va_K D vwCl tys s) (hP : va_P D vwCl ws H) (is : List Nat) (hs : is.filterMap (fun i => ws[i]?) = wc) (ci : Nat) {r : vw_C} {fs : List Value} (hc : vwCl[ci]? = some r) (hC : r.1 = C) (he : wc[0]? = some (b, .inr (ci, fs))) : PreV s H C b (gPr (.ref b :: As) D wc tys) As :=
  ⟨gw_blr, by rw [← hC]; exact va_recv hK (hP.sub is hs) hc he, fun U hU hW => ⟨rfl, by rw [hU]; exact hP.sub is hs, va_K.moved hW.alike hK⟩⟩
theorem gw_pvw {s : State} {H : Heap} {D : va_G} {ws wc : va_W} {tys : List (ClassId × FieldType)} {C : String} {b : Nat} {As : List Value} {A : Nat → Prop} (hK : va_K D vwCl tys s) (hP : va_P D vwCl ws H) (hD : va_D A ws) (is : List Nat) (hn : va_nd is = true) (hs : is.filterMap (fun i => ws[i]?) = wc) (hs2 : is.map (fun i => ws[i]?) = wc.map some) (ci : Nat) {r : vw_C} {fs : List Value} (hc : vwCl[ci]? = some r) (hC : r.1 = C) (he : wc[0]? = some (b, .inr (ci, fs))) : PreV s H C b (gPw (.ref b :: As) D wc tys) As :=
  ⟨gw_blw, by rw [← hC]; exact va_recv hK (hP.sub is hs) hc he, fun U hU hW => ⟨rfl, by rw [hU]; exact hP.sub is hs, va_K.moved hW.alike hK, (hD.sub is hn hs2).weaken (fun _ _ _ _ => trivial)⟩⟩
theorem gw_psr {s : State} {H : Heap} {D : va_G} {ws wc : va_W} {tys : List (ClassId × FieldType)} {As : List Value} (hK : va_K D vwCl tys s) (hP : va_P D vwCl ws H) (is : List Nat) (hs : is.filterMap (fun i => ws[i]?) = wc) : PreS s H (gPr As D wc tys) As :=
  ⟨gw_blr, fun U hU hW => ⟨rfl, by rw [hU]; exact hP.sub is hs, va_K.moved hW.alike hK⟩⟩
/-- a call that changes nothing -/
theorem gw_ro {D : va_G} {cl : List vw_C} {ws : va_W} {H H1 : Heap} (hP : va_P D cl ws H) (hk : ∀ q : Nat, q < H.size → ¬ gN q → H1[q]? = H[q]?) : va_P D cl ws H1 := hP.kept fun k q h => hk q.1 (hP k q h).lt (fun z => z)
/-- cells put in at places -/
def gw_mg : va_W → List Nat → va_W → va_W
  | ws, i :: is, x :: xs => gw_mg (ws.set i x) is xs
  | ws, _, _ => ws
theorem gw_mg_at : ∀ (is : List Nat) (ws w1 : va_W) (k : Nat) (q : Nat × va_E), (gw_mg ws is w1)[k]? = some q → (∃ j : Nat, is[j]? = some k ∧ w1[j]? = some q) ∨ (ws[k]? = some q ∧ ¬ ∃ j : Nat, j < w1.length ∧ is[j]? = some k) := by
  intro is
  induction is with
  | nil =>
    intro ws w1 k q h
    refine Or.inr ⟨?_, ?_⟩
    · cases w1 <;> exact h
    · rintro ⟨j, -, hj⟩
      simp at hj
  | cons i is ih =>
    intro ws w1 k q h
    cases w1 with
    | nil => exact Or.inr ⟨h, by rintro ⟨j, hj, -⟩; simp at hj⟩
    | cons x xs =>
      rcases ih (ws.set i x) xs k q h with ⟨j, h1, h2⟩ | ⟨h1, h2⟩
      · exact Or.inl ⟨j + 1, by simpa using h1, by simpa using h2⟩
      · by_cases hik : i = k
        · subst hik
          rw [List.getElem?_set] at h1
          simp at h1
          exact Or.inl ⟨0, by simp, by simp [h1.2]⟩
        · rw [List.getElem?_set_ne hik] at h1
          refine Or.inr ⟨h1, ?_⟩
          rintro ⟨j, hj1, hj2⟩
          cases j with
          | zero => simp at hj2; exact hik hj2
          | succ j => exact h2 ⟨j, by simpa using hj1, by simpa using hj2⟩
/-- behind a call that changes the cells of wc: the world with the new ones in their places -/
theorem gw_upd {A0 : Nat → Prop} {D : va_G} {cl : List vw_C} {ws wc w1 ws' : va_W} {H H1 : Heap} (hP : va_P D cl ws H) (hD : va_D A0 ws) (is : List Nat) (hC : is.map (fun i => ws[i]?) = wc.map some) (hL : gL w1 = gL wc)
    (hk : ∀ q : Nat, q < H.size → ¬ gA (gL wc) q → H1[q]? = H[q]?) (hP1 : va_P D cl w1 H1) (hw : gw_mg ws is w1 = ws') : va_P D cl ws' H1 ∧ va_D A0 ws' := by
  subst hw
  have hlen : w1.length = wc.length := by
    have := congrArg List.length hL
    simpa [gL] using this
  have hlen2 : is.length = wc.length := by
    have := congrArg List.length hC
    simpa using this
  -- a place of the callee's, its address
  have hat : ∀ (j k : Nat) (q : Nat × va_E), is[j]? = some k → w1[j]? = some q → ∃ e, ws[k]? = some (q.1, e) := by
    intro j k q h1 h2
    have h3 : (is.map (fun i => ws[i]?))[j]? = (wc.map some)[j]? := by rw [hC]
    rw [List.getElem?_map, List.getElem?_map, h1] at h3
    have h4 : (gL w1)[j]? = (gL wc)[j]? := by rw [hL]
    simp only [gL, List.getElem?_map, h2] at h4
    cases hc : wc[j]? with
    | none => rw [hc] at h4; simp at h4
    | some x =>
      rw [hc] at h3 h4
      simp at h3 h4
      exact ⟨x.2, by rw [h3, h4]⟩
  have hmem : ∀ (z : Nat), z ∈ gL wc → ∃ (j k : Nat) (e : va_E), j < w1.length ∧ is[j]? = some k ∧ ws[k]? = some (z, e) := by
    intro z hz
    obtain ⟨x, hx, rfl⟩ := List.mem_map.mp hz
    obtain ⟨j, hj⟩ := List.getElem?_of_mem hx
    have hjl : j < wc.length := (List.getElem?_eq_some_iff.mp hj).1
    have h3 : (is.map (fun i => ws[i]?))[j]? = (wc.map some)[j]? := by rw [hC]
    rw [List.getElem?_map, List.getElem?_map, hj] at h3
    cases hi : is[j]? with
    | none => rw [hi] at h3; simp at h3
    | some k =>
      rw [hi] at h3
      simp at h3
      exact ⟨j, k, x.2, by omega, hi, h3⟩
  refine ⟨fun k q hq => ?_, ⟨fun i j x y hx hy hxy => ?_, fun k q hq => ?_⟩⟩
  · rcases gw_mg_at is ws w1 k q hq with ⟨j, h1, h2⟩ | ⟨h1, h2⟩
    · exact hP1 j q h2
    · refine (hP k q h1).kept (hk q.1 (hP k q h1).lt fun hz => ?_)
      obtain ⟨j, k2, e, g1, g2, g3⟩ := hmem q.1 hz
      have : k = k2 := hD.1 k k2 q (q.1, e) h1 g3 rfl
      subst this
      exact h2 ⟨j, g1, g2⟩
  · have a1 : ∃ e, ws[i]? = some (x.1, e) := by
      rcases gw_mg_at is ws w1 i x hx with ⟨j, h1, h2⟩ | ⟨h1, -⟩
      · exact hat j i x h1 h2
      · exact ⟨x.2, h1⟩
    have a2 : ∃ e, ws[j]? = some (y.1, e) := by
      rcases gw_mg_at is ws w1 j y hy with ⟨j2, h1, h2⟩ | ⟨h1, -⟩
      · exact hat j2 j y h1 h2
      · exact ⟨y.2, h1⟩
    obtain ⟨e1, b1⟩ := a1
    obtain ⟨e2, b2⟩ := a2
    exact hD.1 i j _ _ b1 b2 hxy
  · rcases gw_mg_at is ws w1 k q hq with ⟨j, h1, h2⟩ | ⟨h1, -⟩
    · obtain ⟨e, b⟩ := hat j k q h1 h2
      exact hD.2 k (q.1, e) b
    · exact hD.2 k q h1
theorem gw_free {A0 : Nat → Prop} {ws wc : va_W} (hD : va_D A0 ws) (is : List Nat) (hC : is.map (fun i => ws[i]?) = wc.map some) : ∀ q : Nat, gA (gL wc) q → A0 q := by
  intro z hz
  obtain ⟨x, hx, rfl⟩ := List.mem_map.mp hz
  obtain ⟨j, hj⟩ := List.getElem?_of_mem hx
  have h3 : (is.map (fun i => ws[i]?))[j]? = (wc.map some)[j]? := by rw [hC]
  rw [List.getElem?_map, List.getElem?_map, hj] at h3
  cases hi : is[j]? with
  | none => rw [hi] at h3; simp at h3
  | some k =>
    rw [hi] at h3
    simp at h3
    exact hD.2 k x h3
theorem gw_self {ws : va_W} (h : va_D (fun _ => True) ws) : va_D (gA (gL ws)) ws := ⟨h.1, fun k q hk => List.mem_map.mpr ⟨q, List.mem_of_getElem? hk, rfl⟩⟩
theorem gw_hh {D : va_G} {cl : List vw_C} {ws : va_W} {H : Heap} {t : State} (ht : t.heap = H) (h : va_P D cl ws H) : va_P D cl ws t.heap := by rw [ht]; exact h
theorem nI_mul (a b : Nat) : nI a * nI b = nI (a * b) := (Int32.ofNat_mul a b).symm
theorem nI_sub {a b : Nat} (h : b ≤ a) : nI a - nI b = nI (a - b) := by
  have : nI a = nI (a - b) + nI b := by rw [nI_add]; congr 1; omega
  rw [this]
  exact Int32.add_sub_cancel _ _
section
variable {p : Program} {l : Launch} {e : Env} {R : Room} {s : State} {m : MethodId} {args : Array Value} {below : List Frame} {meth : Method} {c : Code} {H : Heap} {locs : List Loc} {cells slots : Nat} {Q : State → Prop}
variable {cc : ByteArray} {pc : Nat} {ls : Array Slot} {rest : List Value} {D : va_G} {cl : List vw_C} {A : Nat → Prop} {a : Nat} {tys : List (ClassId × FieldType)} {ws : va_W} {H0 : Heap}
theorem gw_top {x y : Int32} (h : x = y) (k : W p l e R s m args below meth c H locs cells slots Q (F0 m pc ls (.int y :: rest))) : W p l e R s m args below meth c H locs cells slots Q (F0 m pc ls (.int x :: rest)) := by rw [h]; exact k
theorem gw_top2 {v : Value} {x y : Int32} (h : x = y) (k : W p l e R s m args below meth c H locs cells slots Q (F0 m pc ls (v :: .int y :: rest))) : W p l e R s m args below meth c H locs cells slots Q (F0 m pc ls (v :: .int x :: rest)) := by rw [h]; exact k
theorem gw_iald (hexec : p.tables.exec = Jvm.exec) (hb : c.code = cc) (hK : va_K D cl tys s) (hP : va_P D cl ws H) (q0 t0 : Nat) {cA : ClassId} {n k : Nat} {f : Nat → Int32} (ha : ws[q0]? = some (a, .inl (cA, n, .inl f))) (ht : tys[t0]? = some (cA, .int)) (hk : k < n) (hn : n < 2 ^ 31) (hdg : decode cc pc = .ok (.iaload, 1))
    (kk : W p l e R s m args below meth c H locs cells slots Q (F0 m (pc + 1) ls (.int (f k) :: rest))) : W p l e R s m args below meth c H locs cells slots Q (F0 m pc ls (.int (nI k) :: .ref a :: rest)) :=
  va_iald hexec hb hK hP q0 t0 ha ht (vp_in_nI hk hn) hdg (by rw [nI_clamp (Nat.lt_trans hk hn)]; exact kk)
theorem gw_zald (hexec : p.tables.exec = Jvm.exec) (hb : c.code = cc) (hK : va_K D cl tys s) (hP : va_P D cl ws H) (q0 t0 : Nat) {cA : ClassId} {n k : Nat} {f : Nat → Int32} (ha : ws[q0]? = some (a, .inl (cA, n, .inl f))) (ht : tys[t0]? = some (cA, .boolean)) (hk : k < n) (hn : n < 2 ^ 31) (hdg : decode cc pc = .ok (.baload, 1))
    (kk : W p l e R s m args below meth c H locs cells slots Q (F0 m (pc + 1) ls (.int (f k) :: rest))) : W p l e R s m args below meth c H locs cells slots Q (F0 m pc ls (.int (nI k) :: .ref a :: rest)) :=
  va_zald hexec hb hK hP q0 t0 ha ht (vp_in_nI hk hn) hdg (by rw [nI_clamp (Nat.lt_trans hk hn)]; exact kk)
theorem gw_iast (hexec : p.tables.exec = Jvm.exec) (hb : c.code = cc) (hK : va_K D cl tys s) (hP : va_P D cl ws H) (hD : va_D A ws) (hS : va_S A H0 H locs) (q0 t0 : Nat) {cA : ClassId} {n k : Nat} {f : Nat → Int32} (ha : ws[q0]? = some (a, .inl (cA, n, .inl f))) (ht : tys[t0]? = some (cA, .int)) {x : Int32} (hk : k < n) (hn : n < 2 ^ 31) (hdg : decode cc pc = .ok (.iastore, 1))
    (kk : ∀ (H1 : Heap) (locs1 : List Loc), va_P D cl (ws.set q0 (a, .inl (cA, n, .inl (upd f k x)))) H1 → va_D A (ws.set q0 (a, .inl (cA, n, .inl (upd f k x)))) → va_S A H0 H1 locs1 → W p l e R s m args below meth c H1 locs1 cells slots Q (F0 m (pc + 1) ls rest)) : W p l e R s m args below meth c H locs cells slots Q (F0 m pc ls (.int x :: .int (nI k) :: .ref a :: rest)) :=
  va_iast hexec hb hK hP hD hS q0 t0 ha ht (vp_in_nI hk hn) hdg (by rw [nI_clamp (Nat.lt_trans hk hn)]; exact kk)
theorem gw_zast (hexec : p.tables.exec = Jvm.exec) (hb : c.code = cc) (hK : va_K D cl tys s) (hP : va_P D cl ws H) (hD : va_D A ws) (hS : va_S A H0 H locs) (q0 t0 : Nat) {cA : ClassId} {n k : Nat} {f : Nat → Int32} (ha : ws[q0]? = some (a, .inl (cA, n, .inl f))) (ht : tys[t0]? = some (cA, .boolean)) {x : Int32} (hz : x = 0 ∨ x = 1) (hk : k < n) (hn : n < 2 ^ 31) (hdg : decode cc pc = .ok (.bastore, 1))
    (kk : ∀ (H1 : Heap) (locs1 : List Loc), va_P D cl (ws.set q0 (a, .inl (cA, n, .inl (upd f k x)))) H1 → va_D A (ws.set q0 (a, .inl (cA, n, .inl (upd f k x)))) → va_S A H0 H1 locs1 → W p l e R s m args below meth c H1 locs1 cells slots Q (F0 m (pc + 1) ls rest)) : W p l e R s m args below meth c H locs cells slots Q (F0 m pc ls (.int x :: .int (nI k) :: .ref a :: rest)) :=
  va_zast hexec hb hK hP hD hS q0 t0 ha ht (vp_in_nI hk hn) hdg (by rw [nI_clamp (Nat.lt_trans hk hn), show vp_nar .boolean x = x by rcases hz with rfl | rfl <;> decide]; exact kk)
theorem gw_loop {X : Type} {head : Nat} (I : X → Heap → List Loc → Array Slot → Prop) (μ : X → Nat) (x0 : X) (h0 : I x0 H locs ls)
    (step : ∀ (x : X), (∀ (y : X) (H : Heap) (locs : List Loc) (ls : Array Slot), μ y < μ x → I y H locs ls → W p l e R s m args below meth c H locs cells slots Q (F0 m head ls [])) → ∀ (H : Heap) (locs : List Loc) (ls : Array Slot), I x H locs ls → W p l e R s m args below meth c H locs cells slots Q (F0 m head ls [])) : W p l e R s m args below meth c H locs cells slots Q (F0 m head ls []) := by
  have key : ∀ (n : Nat) (x : X), μ x < n → ∀ (H : Heap) (locs : List Loc) (ls : Array Slot), I x H locs ls → W p l e R s m args below meth c H locs cells slots Q (F0 m head ls []) := by
    intro n
    induction n with
    | zero => intro x h; exact absurd h (Nat.not_lt_zero _)
    | succ n ih => exact fun x h => step x fun y H locs ls hy hI => ih y (by omega) H locs ls hI
  exact key (μ x0 + 1) x0 (Nat.lt_succ_self _) _ _ _ h0
end
/-- as Met.ofW, for a method of a class of the JDK's that has rows of its own for other methods -/
theorem gw_ofWF {l : Launch} {y : MethodName} {ws ws' : List Cond} {rm : Room} {Pc : Array Value → State → Prop} {Qc : Array Value → State → Outcome → State → Prop} {mc ms : Nat} {free : Addr → Prop} {cc : ByteArray} {maxL : Nat} {ret : Option FieldType} (hy : plainFor y = true) (hw : ws = Cond.code y cc maxL ret :: ws')
    (body : ∀ p e s m args below meth c s₁, BodyLoose p l y (headSpec ws rm) cc maxL ret e s m args below meth c s₁ → c.maxLocals = maxL → Pc args s → W p l e (headSpec ws rm).room s m args below meth c s.heap [] 0 0 (MQ below Qc args s mc ms free) (entryFrame m args maxL)) : Met l y ws rm Pc Qc mc ms free := by
  have his : ∀ (args : Array Value) (s : State) (m : MethodId), (headSpec ws rm).pre.before args s = true → s.methodNamed? y = some m → ∃ meth c, s.vm.method? m = some meth ∧ meth.code = some c ∧ c.code = cc ∧ c.maxLocals = maxL ∧ meth.sig.returnType = ret ∧ meth.locks = false := fun args s m h hn => by
    have hm : Cond.code y cc maxL ret ∈ ws := by rw [hw]; exact List.mem_cons_self
    obtain ⟨meth, c, h1, h2, h3, h4, h5, h6, -⟩ := Cond.code_spec hn (atoms_spec (ws := ws) h _ hm)
    exact ⟨meth, c, h1, h2, h3, h4, h5, h6⟩
  refine MetFree.of_bodySF (code := cc) (maxLocals := maxL) (ret := ret) hy his fun p e s m args below meth c s₁ B hml hP _ => ?_
  have hh : s₁.heap = s.heap := by rw [B.state]; rfl
  obtain ⟨t, a1, o, b1, b2, b3, b4⟩ := body p e s m args below meth c s₁ B hml hP s₁ hh (Stand.of_body B)
  exact ⟨t, o, a1, b1, b2, b3, b4⟩
