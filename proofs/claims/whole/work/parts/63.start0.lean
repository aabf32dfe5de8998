/-- a row of longs, made -/
theorem gw_newL {p : Program} {l : Launch} {e : Env} {R : Room} {s : State} {m : MethodId} {args : Array Value} {below : List Frame} {meth : Method} {c : Code} {H : Heap} {locs : List Loc} {cells slots : Nat} {Q : State → Prop} {cc : ByteArray} {pc : Nat} {ls : Array Slot} {rest : List Value} {D : va_G} {cl : List vw_C} {A : Nat → Prop} {tys : List (ClassId × FieldType)} {ws : va_W} {H0 : Heap} (hexec : p.tables.exec = Jvm.exec) (hb : c.code = cc) (harr : (Cond.arrayClass .long).before args s = true) (hK : va_K D cl tys s) (t0 : Nat) {cL : ClassId} (ht : tys[t0]? = some (cL, .long)) (hP : va_P D cl ws H) (hD : va_D A ws) (hS : va_S A H0 H locs) (hA : ∀ q, H0.size ≤ q → A q)
    {n : Int32} {N' : Nat} (hn : ¬ n < 0) (hN : n.toNatClampNeg = N') (hbytes : N' * 8 ≤ 536870912) (hcells : cells + 1 ≤ R.cells) (hslots : slots + N' ≤ R.slots) (hdg : decode cc pc = .ok (.newarray .long, 2))
    (kk : ∀ (q : Nat) (H1 : Heap), va_P D cl (ws ++ [(q, .inl (cL, N', .inr (.inl (fun _ => 0))))]) H1 → va_D A (ws ++ [(q, .inl (cL, N', .inr (.inl (fun _ => 0))))]) → va_S A H0 H1 locs → W p l e R s m args below meth c H1 locs (cells + 1) (slots + N') Q (F0 m (pc + 2) ls (.ref q :: rest))) : W p l e R s m args below meth c H locs cells slots Q (F0 m pc ls (.int n :: rest)) :=
  va_newa (atype := .long) (ty := .long) hexec hb harr rfl hK hP hD hS hA (a0 := (N', .inr (.inl (fun _ => 0)))) (fun _ => rfl) hn hN hbytes hcells hslots hdg fun q cA H1 hK1 hP1 hD1 hS1 => by
    have h1 : s.vm.findClass "[J" = some cA := va_nm_long (hK1.2 tys.length (cA, .long) (by simp)).2
    have h2 : s.vm.findClass "[J" = some cL := va_nm_long (hK.2 t0 _ ht).2
    have h3 : cA = cL := Option.some.inj (h1.symm.trans h2)
    subst h3
    exact kk q H1 hP1 hD1 hS1
/-- what the tables say of a row's kind -/
theorem gw_arrK {args : Array Value} {s : State} {ty : FieldType} (h : (Cond.arrayClass ty).before args s = true) : ∃ cA, ArrOfT s cA ty ∧ s.vm.findClass ("[" ++ ty.toString) = some cA := by
  obtain ⟨c, k, comp, h1, h2, h3⟩ := Cond.arrayClass_spec (first := s) (o := none) (idx := []) h
  exact ⟨c, fun n z => ⟨fun k h => (by cases h), k, h2, comp, h3⟩, h1⟩
/-! What the start gives. -/
theorem st_ar {s : State} {b : Nat} (hts : ∀ w ∈ lw_tbl, w.before #[Value.ref b] s = true) : gAr s := ⟨(show (Cond.arrayOver (.array .int)).before #[] s = true from hts (.arrayOver (.array .int)) (by decide +kernel)), va_Nw.of rfl (hts (.castable "[I" "java/lang/Cloneable") (by decide +kernel))⟩
theorem st_cast {s : State} {b : Nat} (hts : ∀ w ∈ lw_tbl, w.before #[Value.ref b] s = true) : ∀ E ∈ [gE1, gE2, gE3], va_Nw (.castable E E) s := fun E hE => va_Nw.of rfl (hts (.castable E E) ((by decide +kernel : ∀ E ∈ [gE1, gE2, gE3], Cond.castable E E ∈ lw_tbl) E hE))
theorem st_bad {s : State} {b : Nat} (hts : ∀ w ∈ lw_tbl, w.before #[Value.ref b] s = true) : ∀ w ∈ gBad, w.before #[] s = true := fun w hw => by
  have h1 := gBad_ok w hw
  simp only [Bool.and_eq_true] at h1
  exact va_tabs h1.2 rfl (hts w ((by decide +kernel : ∀ w ∈ gBad, w ∈ lw_tbl) w hw))
theorem st_cls {s : State} {b : Nat} (hts : ∀ w ∈ lw_tbl, w.before #[Value.ref b] s = true) : ∃ D : va_G, ∀ (k : Nat) (q : vw_C), vwCl[k]? = some q → u_Kn s q.1 q.2.1 q.2.2 (D.1 k) (D.2 k) := by
  obtain ⟨c0, i0, h0⟩ := u_known (C := RX0) (T := TX0) (N := 5) (n := 5) hts (by decide +kernel : ∀ w ∈ u_ws RX0 TX0 5, w ∈ lw_tbl) (hts (.instantiable RX0 5) (by decide +kernel))
  obtain ⟨c1, i1, h1⟩ := u_known (C := RX1) (T := TX1) (N := 5) (n := 5) hts (by decide +kernel : ∀ w ∈ u_ws RX1 TX1 5, w ∈ lw_tbl) (hts (.instantiable RX1 5) (by decide +kernel))
  obtain ⟨c2, i2, h2⟩ := u_known (C := RX2) (T := TX2) (N := 5) (n := 5) hts (by decide +kernel : ∀ w ∈ u_ws RX2 TX2 5, w ∈ lw_tbl) (hts (.instantiable RX2 5) (by decide +kernel))
  obtain ⟨c3, i3, h3⟩ := u_known (C := RX3) (T := TX3) (N := 3) (n := 3) hts (by decide +kernel : ∀ w ∈ u_ws RX3 TX3 3, w ∈ lw_tbl) (hts (.instantiable RX3 3) (by decide +kernel))
  obtain ⟨c4, i4, h4⟩ := u_known (C := RX4) (T := TX4) (N := 7) (n := 7) hts (by decide +kernel : ∀ w ∈ u_ws RX4 TX4 7, w ∈ lw_tbl) (hts (.instantiable RX4 7) (by decide +kernel))
  obtain ⟨c5, i5, h5⟩ := u_known (C := RX5) (T := TX5) (N := 4) (n := 4) hts (by decide +kernel : ∀ w ∈ u_ws RX5 TX5 4, w ∈ lw_tbl) (hts (.instantiable RX5 4) (by decide +kernel))
  obtain ⟨c6, i6, h6⟩ := u_known (C := RX6) (T := TX6) (N := 10) (n := 10) hts (by decide +kernel : ∀ w ∈ u_ws RX6 TX6 10, w ∈ lw_tbl) (hts (.instantiable RX6 10) (by decide +kernel))
  refine ⟨(fun k => if k = 0 then c0 else if k = 1 then c1 else if k = 2 then c2 else if k = 3 then c3 else if k = 4 then c4 else if k = 5 then c5 else c6, fun k => if k = 0 then i0 else if k = 1 then i1 else if k = 2 then i2 else if k = 3 then i3 else if k = 4 then i4 else if k = 5 then i5 else i6), ?_⟩
  intro k q hq
  match k, hq with
  | 0, hq => cases hq; exact h0
  | 1, hq => cases hq; exact h1
  | 2, hq => cases hq; exact h2
  | 3, hq => cases hq; exact h3
  | 4, hq => cases hq; exact h4
  | 5, hq => cases hq; exact h5
  | 6, hq => cases hq; exact h6
  | k + 7, hq => simp [vwCl] at hq
theorem st_K {s : State} {b : Nat} (hts : ∀ w ∈ lw_tbl, w.before #[Value.ref b] s = true) : ∃ (D : va_G) (cI cZ cL cO : ClassId), va_K D vwCl (gT4 cI cZ cL cO) s := by
  obtain ⟨D, hD⟩ := st_cls hts
  obtain ⟨cI, i1, i2⟩ := gw_arrK (hts (.arrayClass .int) (by decide +kernel))
  obtain ⟨cZ, z1, z2⟩ := gw_arrK (hts (.arrayClass .boolean) (by decide +kernel))
  obtain ⟨cL, l1, l2⟩ := gw_arrK (hts (.arrayClass .long) (by decide +kernel))
  obtain ⟨comp, cO, kA, h1, -, h3, h4, h5⟩ := arrayOverA_spec (args := #[Value.ref b]) (first := s) (o := none) (idx := []) (hts (.arrayOver (.array .int)) (by decide +kernel))
  refine ⟨D, cI, cZ, cL, cO, hD, fun k q hq => ?_⟩
  match k, hq with
  | 0, hq => cases hq; exact ⟨i1, i2⟩
  | 1, hq => cases hq; exact ⟨z1, z2⟩
  | 2, hq => cases hq; exact ⟨l1, l2⟩
  | 3, hq => cases hq; exact ⟨fun n z => ⟨fun k h => (by cases h), kA, h3, comp, h4⟩, h5⟩
  | k + 4, hq => simp [gT4] at hq
theorem st_C {s : State} {b : Nat} (hts : ∀ w ∈ lw_tbl, w.before #[Value.ref b] s = true) (hgv : (Jvm.Cond.and given_1 narrow_1).before #[Value.ref b] s = true) : gC s := by
  have hgs := flat_of_before _ hgv
  exact ⟨st_cast hts, va_Nc.of (hgs (.not (.castable gE2 gE1)) (by decide +kernel)), va_Nc.of (hgs (.not (.castable gE3 gE1)) (by decide +kernel)), va_Nc.of (hgs (.not (.castable gE3 gE2)) (by decide +kernel)), va_Nc.of (hgs (.not (.castable gE1 gE2)) (by decide +kernel))⟩
theorem st_str {s : State} {b : Nat} (hts : ∀ w ∈ lw_tbl, w.before #[Value.ref b] s = true) (hgv : (Jvm.Cond.and given_1 narrow_1).before #[Value.ref b] s = true) : ∀ q ∈ gStr, ∃ sa, vk_R RX5 q.1 q.2 sa s := fun q hq => by
  have h1 : ∀ q ∈ gStr, Cond.stringRef RX5 q.1 q.2 ∈ lw_tbl := by decide +kernel
  have h2 : ∀ q ∈ gStr, Cond.exactly (.string RX5 q.1) "java/lang/String" ∈ flatC (Jvm.Cond.and given_1 narrow_1) := by decide +kernel
  obtain ⟨a, c, cell, k, q1, -⟩ := Cond.exactly_spec (args := #[Value.ref b]) (first := s) (o := none) (s := s) (idx := []) (flat_of_before _ hgv _ (h2 q hq))
  exact ⟨a, vk_R.of (hts _ (h1 q hq)) q1⟩
theorem st_X {s : State} {b : Nat} (hts : ∀ w ∈ lw_tbl, w.before #[Value.ref b] s = true) (hgv : (Jvm.Cond.and given_1 narrow_1).before #[Value.ref b] s = true) : gXA (fun q => s.heap.size ≤ q) s s.heap := by
  have hgs := flat_of_before _ hgv
  have hA : ∀ a : Nat, a < s.heap.size → ¬ (fun q => s.heap.size ≤ q) a := fun a h => Nat.not_le.mpr h
  exact ⟨vx_Zqof (hts (.laysStatic Bundle.tN "UNASSIGNED_STACK" Bundle.steD) (by decide +kernel)) (hts (.initialized Bundle.tN) (by decide +kernel)) (hgs (.isRef (.static Bundle.tN "UNASSIGNED_STACK" Bundle.steD)) (by decide +kernel)) hA,
    vx_Zqof (hts (.laysStatic Bundle.tN "SUPPRESSED_SENTINEL" Bundle.listD) (by decide +kernel)) (hts (.initialized Bundle.tN) (by decide +kernel)) (hgs (.isRef (.static Bundle.tN "SUPPRESSED_SENTINEL" Bundle.listD)) (by decide +kernel)) hA, st_str hts hgv, st_bad hts⟩
