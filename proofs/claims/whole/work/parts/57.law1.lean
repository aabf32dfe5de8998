/-! Rows for the law's own body. -/
/-- what the start holds, so that the class may throw in it: nothing of it is among A -/
def gXA (A : Nat → Prop) (s : State) (H : Heap) : Prop := vx_Zq Bundle.tN "UNASSIGNED_STACK" Bundle.steD A s H ∧ vx_Zq Bundle.tN "SUPPRESSED_SENTINEL" Bundle.listD A s H ∧ (∀ q ∈ gStr, ∃ sa, vk_R RX5 q.1 q.2 sa s) ∧ ∀ w ∈ gBad, w.before #[] s = true
theorem gXA_at {A : Nat → Prop} {s U : State} {H0 H : Heap} {locs : List Loc} (hS : va_S A H0 H locs) (hU : U.heap = H) (hW : s.WarmedH U.vm) (h : gXA A s H0) : gX U := by
  obtain ⟨h1, h2, h3, h4⟩ := h
  refine ⟨by rw [hU]; exact ((vx_Zq.moved hW.alike h1).kept hS.2.1).narrow (fun q z => z.elim), by rw [hU]; exact ((vx_Zq.moved hW.alike h2).kept hS.2.1).narrow (fun q z => z.elim), fun q hq => ?_, fun w hw => gw_face hW (gBad_ok w hw) (h4 w hw)⟩
  obtain ⟨sa, hs⟩ := h3 q hq
  exact ⟨sa, vk_R.warm hW hs⟩
theorem gw_psy {s : State} {H H0 : Heap} {D : va_G} {ws wc : va_W} {tys : List (ClassId × FieldType)} {As : List Value} {A : Nat → Prop} {locs : List Loc} (hK : va_K D vwCl tys s) (hP : va_P D vwCl ws H) (hX : gXA A s H0) (hC : gC s) (hS : va_S A H0 H locs) (is : List Nat) (hs : is.filterMap (fun i => ws[i]?) = wc) : PreS s H (gPy As D wc tys) As :=
  ⟨gw_bly, fun U hU hW => ⟨rfl, by rw [hU]; exact hP.sub is hs, va_K.moved hW.alike hK, gXA_at hS hU hW hX, gC_warm hW hC⟩⟩
section
variable {p : Program} {l : Launch} {e : Env} {R : Room} {s : State} {m : MethodId} {args : Array Value} {below : List Frame} {meth : Method} {c : Code} {H : Heap} {locs : List Loc} {cells slots : Nat} {Q : State → Prop}
variable {cc : ByteArray} {pc : Nat} {ls : Array Slot} {rest : List Value} {D : va_G} {cl : List vw_C} {A : Nat → Prop} {a : Nat} {tys : List (ClassId × FieldType)} {ws : va_W} {H0 : Heap}
/-- an int of the script -/
theorem gw_sld (hexec : p.tables.exec = Jvm.exec) (hb : c.code = cc) {b L k : Nat} {xs : Nat → Int32} (hX : va_X b L xs s H0) (hbl : b < H0.size) (hbA : ¬ A b) (hS : va_S A H0 H locs) (hk : k < L) (hL : L < 2 ^ 31) (hdg : decode cc pc = .ok (.iaload, 1))
    (kk : W p l e R s m args below meth c H locs cells slots Q (F0 m (pc + 1) ls (.int (xs k) :: rest))) : W p l e R s m args below meth c H locs cells slots Q (F0 m pc ls (.int (nI k) :: .ref b :: rest)) :=
  va_sld hexec hb hX hbl hbA hS (vp_in_nI hk hL) hdg (by rw [nI_clamp (Nat.lt_trans hk hL)]; exact kk)
theorem gw_lcmp (hexec : p.tables.exec = Jvm.exec) (hb : c.code = cc) {x : Int64} (hdg : decode cc pc = .ok (.lcmp, 1)) (kk : W p l e R s m args below meth c H locs cells slots Q (F0 m (pc + 1) ls (.int 0 :: rest))) : W p l e R s m args below meth c H locs cells slots Q (F0 m pc ls (.long x :: .long x :: rest)) :=
  W.lcmp hexec hb hdg (by rw [show lg_cmp x x = 0 by simp [lg_cmp]]; exact kk)
/-- the answer put into out -/
theorem gw_out (hexec : p.tables.exec = Jvm.exec) (hb : c.code = cc) (hK : va_K D cl tys s) (hP : va_P D cl ws H) (q0 t0 : Nat) {cA : ClassId} {n : Nat} {f : Nat → Int64} {x : Int64} (ha : ws[q0]? = some (a, .inl (cA, n, .inr (.inl (vp_updL f 0 x))))) (ht : tys[t0]? = some (cA, .long)) (h0 : 0 < n) (hn : n < 2 ^ 31) (hdg : decode cc pc = .ok (.laload, 1))
    (kk : W p l e R s m args below meth c H locs cells slots Q (F0 m (pc + 1) ls (.long x :: rest))) : W p l e R s m args below meth c H locs cells slots Q (F0 m pc ls (.int 0 :: .ref a :: rest)) :=
  va_lald hexec hb hK hP q0 t0 ha ht (i := 0) (vp_in_nI (n := 0) h0 hn) hdg (by rw [show vp_updL f 0 x (0 : Int32).toNatClampNeg = x by simp [vp_updL]]; exact kk)
end
