/-! Rows of rows. -/
def gAO (U : State) : Prop := (Cond.arrayOver (.array .int)).before #[] U = true
theorem gAO.use {A : Array Value} {U : State} (h : gAO U) : (Cond.arrayOver (.array .int)).before A U = true := h
abbrev gAr (U : State) : Prop := gAO U ∧ va_Nw (.castable "[I" "java/lang/Cloneable") U
theorem gI_str : (FieldType.array .int).toString = "[I" := by decide +kernel
theorem gAO_moved {u U : State} (hvm : u.vm.Alike U.vm) (h : gAO u) : gAO U := by
  obtain ⟨comp, c, k, h1, h2, h3, h4, h5⟩ := arrayOverA_spec h
  obtain ⟨k', hk', he⟩ := hvm.2.2 _ _ h3
  have hi : (U.vm.classes.findIdx? fun (x : Class) => match x.kind with | .array component _ => component == comp | _ => false) = some c := by
    refine (va_idx_bare U.vm comp).symm.trans ?_
    first | rw [hvm.bare_eq] | rw [← hvm.bare_eq]
    exact (va_idx_bare u.vm comp).trans h2
  have hkind : k'.kind = .array comp (.array .int) := by rw [he]; exact h4
  have f1 : U.vm.findClass (FieldType.array .int).toString = some comp := by rw [hvm.findClass]; exact h1
  have f2 : U.vm.findClass ("[" ++ (FieldType.array .int).toString) = some c := by rw [hvm.findClass]; exact h5
  unfold gAO Cond.before Cond.holds
  simp only [Cond.value]
  rw [f1, Option.bind_some]
  refine (congrArg (fun o : Option Nat => (o.bind (fun c => (U.vm.classes[c]?).map fun (k : Class) => match k.kind with | .array _ ty => decide (ty = FieldType.array .int) && decide (U.vm.findClass ("[" ++ (FieldType.array .int).toString) = some c) | _ => false) == some true)) hi).trans ?_
  simp [hk', hkind, f2]
theorem gAr_moved {s U : State} (hW : s.WarmedH U.vm) (h : gAr s) : gAr U := ⟨gAO_moved hW.alike h.1, va_Nw.warmC hW h.2⟩
/-- the start of a method that makes rows of rows -/
abbrev gPk (av : List Value) (D : va_G) (ws : va_W) (tys : List (ClassId × FieldType)) (sz : Nat) : Array Value → State → Prop := va_Pc av (fun U => U.heap.size = sz ∧ va_P D vwCl ws U.heap ∧ va_K D vwCl tys U ∧ va_D (fun _ => True) ws ∧ gAr U)
theorem gw_blk {av : List Value} {D : va_G} {ws : va_W} {tys : List (ClassId × FieldType)} {sz : Nat} : FrameBlind (gPk av D ws tys sz) := fun a U g mk q => by
  obtain ⟨q0, qz, qP, qK, qD, qR⟩ := q
  exact ⟨q0, qz, qP, va_K.moved (u := U) (U := U.calling g mk a) (Vm.Alike.refl U.vm) qK, qD, (show gAO (U.calling g mk a) from qR.1), va_Nw.same rfl (u := U) (U := U.calling g mk a) rfl qR.2⟩
theorem gw_pvk {s : State} {H : Heap} {D : va_G} {ws wc : va_W} {tys : List (ClassId × FieldType)} {C : String} {b : Nat} {As : List Value} {A : Nat → Prop} (hK : va_K D vwCl tys s) (hR : gAr s) (hP : va_P D vwCl ws H) (hD : va_D A ws) (is : List Nat) (hn : va_nd is = true) (hs : is.filterMap (fun i => ws[i]?) = wc) (hs2 : is.map (fun i => ws[i]?) = wc.map some) (ci : Nat) {r : vw_C} {fs : List Value} (hc : vwCl[ci]? = some r) (hC : r.1 = C) (he : wc[0]? = some (b, .inr (ci, fs))) : PreV s H C b (gPk (.ref b :: As) D wc tys H.size) As :=
  ⟨gw_blk, by rw [← hC]; exact va_recv hK (hP.sub is hs) hc he, fun U hU hW => ⟨rfl, by rw [hU], by rw [hU]; exact hP.sub is hs, va_K.moved hW.alike hK, (hD.sub is hn hs2).weaken (fun _ _ _ _ => trivial), gAr_moved hW hR⟩⟩
/-- a row of five rows -/
def gRow (a b c d e : Nat) : Nat → Option Nat := fun j => if j = 0 then some a else if j = 1 then some b else if j = 2 then some c else if j = 3 then some d else if j = 4 then some e else none
theorem gRow_up (a b c d e : Nat) : va_up (va_up (va_up (va_up (va_up (fun _ => none) 0 (some a)) 1 (some b)) 2 (some c)) 3 (some d)) 4 (some e) = gRow a b c d e := by
  funext j
  rcases j with _ | _ | _ | _ | _ | j <;> simp [va_up, gRow]
section
variable {p : Program} {l : Launch} {e : Env} {R : Room} {s : State} {m : MethodId} {args : Array Value} {below : List Frame} {meth : Method} {c : Code} {H : Heap} {locs : List Loc} {cells slots : Nat} {Q : State → Prop}
variable {cc : ByteArray} {pc : Nat} {ls : Array Slot} {rest : List Value} {D : va_G} {cl : List vw_C} {A : Nat → Prop} {a : Nat} {tys : List (ClassId × FieldType)} {ws : va_W} {H0 : Heap}
theorem gw_anewA (hexec : p.tables.exec = Jvm.exec) (hb : c.code = cc) {own : String} {index : Nat} (hown : s.vm.findClass own = some m.cls) (hclink : (Cond.classLink own index "[I").before args s = true) (hR : gAr s) (hK : va_K D cl tys s) (t0 : Nat) {cO : ClassId} (ht : tys[t0]? = some (cO, .array .int)) (hP : va_P D cl ws H) (hD : va_D A ws) (hS : va_S A H0 H locs) (hA : ∀ q, H0.size ≤ q → A q)
    {n : Int32} {N' : Nat} (hn : ¬ n < 0) (hN : n.toNatClampNeg = N') (hbytes : N' * 4 ≤ 536870912) (hcells : cells + 1 ≤ R.cells) (hslots : slots + N' ≤ R.slots) (hdg : decode cc pc = .ok (.anewarray index, 3))
    (kk : ∀ (q : Nat) (H1 : Heap), va_P D cl (ws ++ [(q, .inl (cO, N', .inr (.inr (.inr (.inr (fun _ => none))))))]) H1 → va_D A (ws ++ [(q, .inl (cO, N', .inr (.inr (.inr (.inr (fun _ => none))))))]) → va_S A H0 H1 locs →
      W p l e R s m args below meth c H1 locs (cells + 1) (slots + N') Q (F0 m (pc + 3) ls (.ref q :: rest))) : W p l e R s m args below meth c H locs cells slots Q (F0 m pc ls (.int n :: rest)) := by
  subst hN
  refine W.anewA (t := .int) hexec hb hown (by rw [gI_str]; exact hclink) hR.1.use rfl hdg rfl hn hbytes hcells hslots fun cA kA comp f1 f2 f3 f4 => ?_
  have hcc : cA = cO := Option.some.inj (f1.symm.trans (show s.vm.findClass ("[" ++ (FieldType.array .int).toString) = some cO from (hK.2 t0 _ ht).2))
  subst hcc
  generalize hH1 : H.push ({ cls := cA, slots := Array.replicate n.toNatClampNeg .null, vm := .none } : Cell) = H1
  have z1 : H1.size = H.size + 1 := by rw [← hH1, Array.size_push]
  have e1 : H1[H.size]? = some (arrV cA n.toNatClampNeg (fun _ => .null)) := by rw [← hH1, Array.getElem?_push_size, ← arrV_new]
  have o1 : ∀ q : Nat, q < H.size → H1[q]? = H[q]? := fun q hq => by rw [← hH1, Array.getElem?_push, if_neg (Nat.ne_of_lt hq)]
  have hk : ∀ (k : Nat) (x : Nat × va_E), ws[k]? = some x → H1[x.1]? = H[x.1]? := fun k x hx => o1 x.1 ((hP k x hx).lt)
  refine kk H.size H1 ((hP.kept hk).app (fun k x hx => ?_)) (hD.push hP rfl (hA _ hS.1)) ⟨Nat.le_trans hS.1 (by omega), fun x h1 h2 => (o1 x (Nat.lt_of_lt_of_le h1 hS.1)).trans (hS.2.1 x h1 h2), hS.2.2⟩
  have hz : k < 1 := (List.getElem?_eq_some_iff.mp hx).1
  rw [show k = 0 by omega] at hx
  cases hx
  exact e1
theorem gw_astA (hexec : p.tables.exec = Jvm.exec) (hb : c.code = cc) (hR : gAr s) (hK : va_K D cl tys s) (hP : va_P D cl ws H) (hD : va_D A ws) (hS : va_S A H0 H locs) (q0 t0 t1 qk : Nat) {cO cI : ClassId} {n v k : Nat} {f : Nat → Option Nat} {x : vp_A} (ha : ws[q0]? = some (a, .inl (cO, n, .inr (.inr (.inr (.inr f)))))) (ht : tys[t0]? = some (cO, .array .int)) (ht1 : tys[t1]? = some (cI, .int)) (hv : ws[qk]? = some (v, .inl (cI, x))) (hk : k < n) (hn : n < 2 ^ 31) (hdg : decode cc pc = .ok (.aastore, 1))
    (kk : ∀ (H1 : Heap) (locs1 : List Loc), va_P D cl (ws.set q0 (a, .inl (cO, n, .inr (.inr (.inr (.inr (va_up f k (some v)))))))) H1 → va_D A (ws.set q0 (a, .inl (cO, n, .inr (.inr (.inr (.inr (va_up f k (some v)))))))) → va_S A H0 H1 locs1 → W p l e R s m args below meth c H1 locs1 cells slots Q (F0 m (pc + 1) ls rest)) : W p l e R s m args below meth c H locs cells slots Q (F0 m pc ls (.ref v :: .int (nI k) :: .ref a :: rest)) := by
  have hck : (nI k).toNatClampNeg = k := nI_clamp (Nat.lt_trans hk hn)
  have hin : vp_in (nI k) n := vp_in_nI hk hn
  obtain ⟨comp, c9, kA, h1, -, h3, h4, h5⟩ := arrayOverA_spec hR.1
  have hcc : c9 = cO := Option.some.inj (h5.symm.trans (show s.vm.findClass ("[" ++ (FieldType.array .int).toString) = some cO from (hK.2 t0 _ ht).2))
  subst hcc
  have hci : comp = cI := by
    rw [gI_str] at h1
    exact Option.some.inj (h1.symm.trans (va_nm_int (hK.2 t1 _ ht1).2))
  subst hci
  obtain ⟨kE, hkE, -⟩ := Vm.findClass_spec h1
  have hvm0 : (vp_cell comp x).vm = .none := by
    obtain ⟨n, f | f | f | f | f⟩ := x <;> rfl
  have hcl0 : (vp_cell comp x).cls = comp := by
    obtain ⟨n, f | f | f | f | f⟩ := x <;> rfl
  refine W.aast hexec hb (hP q0 _ ha) (fun q h => by cases h) (fun h => by cases h) h3 h4 rfl hkE ⟨fun q => hin (Or.inl q), by show _ < (arrV _ _ _).slots.size; rw [arrV_size, hck]; exact hk⟩ (hP qk _ hv) (fun q h => by rw [hvm0] at h; cases h) (by rw [hcl0]; exact hkE) (by rw [hcl0]; exact va_asg _ _) rfl rfl hdg fun H1 e z oq => ?_
  refine kk H1 _ (hP.set hD ha ?_ oq) (hD.set ha) (hS.put z oq (hD.2 q0 _ ha))
  show H1[a]? = some (vp_cell _ _)
  rw [e]
  rw [vp_cell_q, vp_cell_q, arrV_store, hck]
  congr 2
  funext q
  by_cases hq : q = k
  · subst hq
    simp [updV, va_up, va_rf]
  · simp [updV, va_up, hq]
theorem gw_aldA (hexec : p.tables.exec = Jvm.exec) (hb : c.code = cc) (hK : va_K D cl tys s) (hP : va_P D cl ws H) (q0 t0 : Nat) {cO : ClassId} {n k v : Nat} {f : Nat → Option Nat} (ha : ws[q0]? = some (a, .inl (cO, n, .inr (.inr (.inr (.inr f)))))) (ht : tys[t0]? = some (cO, .array .int)) (hf : f k = some v) (hk : k < n) (hn : n < 2 ^ 31) (hdg : decode cc pc = .ok (.aaload, 1))
    (kk : W p l e R s m args below meth c H locs cells slots Q (F0 m (pc + 1) ls (.ref v :: rest))) : W p l e R s m args below meth c H locs cells slots Q (F0 m pc ls (.int (nI k) :: .ref a :: rest)) := by
  have hck : (nI k).toNatClampNeg = k := nI_clamp (Nat.lt_trans hk hn)
  exact W.aald (v := .ref v) (ty := .array .int) hexec hb (hP q0 _ ha) ((hK.2 t0 _ ht).1 n (fun j => va_rf (f j))) rfl (fun q => by cases q) (by show ¬ (nI k < 0 ∨ (arrV _ _ _).slots.size ≤ _); rw [arrV_size]; exact vp_in_nI hk hn) (by show (arrV _ _ _).slots[_]? = _; rw [hck, arrV_read _ _ hk, hf]; rfl) rfl rfl hdg kk
theorem gw_cloneA (hexec : p.tables.exec = Jvm.exec) (hb : c.code = cc) (hml : c.maxLocals = ls.size) {own : String} {index : Nat} (hown : s.vm.findClass own = some m.cls)
    (hlink : (Cond.methodLink own index ⟨"[I", "clone", "()Ljava/lang/Object;"⟩).before args s = true) (hsame : (Cond.sameMethod "[I" "java/lang/Object" "clone" "()Ljava/lang/Object;").before args s = true)
    (hnat : (Cond.native ⟨"java/lang/Object", "clone", "()Ljava/lang/Object;"⟩).before args s = true) (hinst : (Cond.instanceMethod ⟨"java/lang/Object", "clone", "()Ljava/lang/Object;"⟩).before args s = true)
    (hsel : (Cond.selects "[I" ⟨"[I", "clone", "()Ljava/lang/Object;"⟩ ⟨"java/lang/Object", "clone", "()Ljava/lang/Object;"⟩).before args s = true) (hR : gAr s)
    (hK : va_K D cl tys s) (hP : va_P D cl ws H) (hD : va_D A ws) (hS : va_S A H0 H locs) (hA : ∀ q, H0.size ≤ q → A q) (q0 t0 : Nat) {cI : ClassId} {n : Nat} {f : Nat → Int32} (ha : ws[q0]? = some (a, .inl (cI, n, .inl f))) (ht : tys[t0]? = some (cI, .int))
    (hframes : 1 ≤ R.frames) (hlocals : (rest.map fun v => v.category).sum + 14 ≤ R.locals) (hcells : cells + 1 ≤ R.cells) (hslots : slots + n ≤ R.slots) (hdg : decode cc pc = .ok (.invokevirtual index, 3))
    (kk : ∀ (q : Nat) (H1 : Heap), va_P D cl (ws ++ [(q, .inl (cI, n, .inl f))]) H1 → va_D A (ws ++ [(q, .inl (cI, n, .inl f))]) → va_S A H0 H1 locs →
      W p l e R s m args below meth c H1 locs (cells + 1) (slots + n) Q (F0 m (pc + 3) ls (.ref q :: rest))) : W p l e R s m args below meth c H locs cells slots Q (F0 m pc ls (.ref a :: rest)) :=
  va_clone hexec hb hml hown hlink hsame hnat hinst hsel hR.2 hK hP hD hS hA q0 t0 ha ht (va_nm_int (hK.2 t0 _ ht).2) (va_fit (F := fun j => .int (f j)) (fun i _ => rfl)) hframes hlocals hcells hslots hdg fun q H1 _ hP1 hD1 hS1 => kk q H1 hP1 hD1 hS1
theorem gw_copyA (hexec : p.tables.exec = Jvm.exec) (hb : c.code = cc) (hml : c.maxLocals = ls.size) {own : String} {index : Nat} (hown : s.vm.findClass own = some m.cls) (hlink : (Cond.methodLink own index arraycopyName).before args s = true) (hnat : (Cond.native arraycopyName).before args s = true) (hstat : (Cond.static arraycopyName).before args s = true) (hini : (Cond.initialized "java/lang/System").before args s = true)
    (hK : va_K D cl tys s) (hP : va_P D cl ws H) (hD : va_D A ws) (hS : va_S A H0 H locs) (q0 q1 t0 : Nat) {a0 : Nat} {cI : ClassId} {n : Nat} {f g : Nat → Int32} (ha0 : ws[q0]? = some (a0, .inl (cI, n, .inl f))) (ha1 : ws[q1]? = some (a, .inl (cI, n, .inl g))) (ht : tys[t0]? = some (cI, .int)) (hn : n < 2 ^ 31)
    (hframes : 1 ≤ R.frames) (hlocals : (rest.map fun v => v.category).sum + (nativeFrameWords "java/lang/System" "arraycopy" 5 + 11) ≤ R.locals) (hdg : decode cc pc = .ok (.invokestatic index, 3))
    (kk : ∀ (H1 : Heap) (locs1 : List Loc), va_P D cl (ws.set q1 (a, .inl (cI, n, .inl f))) H1 → va_D A (ws.set q1 (a, .inl (cI, n, .inl f))) → va_S A H0 H1 locs1 → W p l e R s m args below meth c H1 locs1 cells slots Q (F0 m (pc + 3) ls rest)) : W p l e R s m args below meth c H locs cells slots Q (F0 m pc ls (.int (nI n) :: .int 0 :: .ref a :: .int 0 :: .ref a0 :: rest)) := by
  have hck : (nI n).toNatClampNeg = n := nI_clamp hn
  have h00 : (0 : Int32).toNatClampNeg = 0 := by decide
  have hn0 : ¬ nI n < 0 := fun h => by
    have h1 := Int32.lt_iff_toInt_lt.mp h
    have h2 : (nI n).toInt = (n : Int) := Int32.toInt_ofNat_of_lt hn
    rw [h2] at h1
    have h3 : (0 : Int32).toInt = 0 := by decide
    rw [h3] at h1
    omega
  refine va_copyi hexec hb hml hown hlink hnat hstat hini hK hP hD hS q0 q1 t0 t0 ha0 ha1 ht ht rfl (by decide) (by decide) hn0 (by rw [hck, h00]; omega) (by rw [hck, h00]; omega) (fun i _ => rfl) hframes hlocals hdg fun H1 locs1 hP1 hD1 hS1 => ?_
  rw [hck, h00] at hP1
  refine kk H1 locs1 (fun k q hq => ?_) (hD.set ha1) hS1
  have hl1 : q1 < ws.length := (List.getElem?_eq_some_iff.mp ha1).1
  by_cases hkq : k = q1
  · subst hkq
    rw [List.getElem?_set_self hl1] at hq
    cases hq
    have h9 : H1[a]? = some (vp_cell cI (n, .inl (va_cpy f g 0 0 n))) := hP1 k (a, .inl (cI, n, .inl (va_cpy f g 0 0 n))) (List.getElem?_set_self hl1)
    show H1[a]? = some (vp_cell cI (n, .inl f))
    rw [h9]
    refine congrArg some ?_
    rw [vp_cell_i, vp_cell_i]
    unfold arrV
    congr 1
    refine congrArg _ (funext fun j => ?_)
    show Value.int (va_cpy f g 0 0 n j.val) = Value.int (f j.val)
    have hj := j.isLt
    unfold va_cpy
    rw [if_pos (by omega)]
    simp
  · refine hP1 k q ?_
    rw [List.getElem?_set_ne (fun h => hkq h.symm)] at hq ⊢
    exact hq
end
