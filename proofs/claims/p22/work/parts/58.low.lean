/-! The law's own small methods: below, cell. -/
/-- what below answers -/
def bw (v : Int32) (n : Nat) : Nat := (v &&& 2147483647).toNatClampNeg % n
theorem bw_lt {v : Int32} {n : Nat} (h : 0 < n) : bw v n < n := Nat.mod_lt _ h
theorem bw_ok {v : Int32} {n : Nat} (h0 : 0 < n) (hn : n < 2 ^ 31) : (v &&& 2147483647) - (v &&& 2147483647) / nI n * nI n = nI (bw v n) := by
  obtain ⟨j, hj, e⟩ := pk_andE v (m := 2147483647) 31 (by decide)
  unfold bw
  rw [e, nI_clamp hj]
  exact pk_rem hj h0 hn
/-- what cell answers -/
def clv (xs : Nat → Int32) (L k : Nat) : Int32 := if k < L then xs k else 790386105 * (nI k + 3)
/-- the start of a method that reads the script -/
abbrev gPx (av : List Value) (b L : Nat) (xs : Nat → Int32) : Array Value → State → Prop := va_Pc av (fun U => va_X b L xs U U.heap ∧ b < U.heap.size)
theorem gw_blx {av : List Value} {b L : Nat} {xs : Nat → Int32} : FrameBlind (gPx av b L xs) := fun a U g mk q => by
  obtain ⟨q0, qX, qb⟩ := q
  exact ⟨q0, va_X.moved (u := U) (U := U.calling g mk a) (Vm.Alike.refl U.vm) qX, qb⟩
theorem gv_psx {s : State} {H H0 : Heap} {b L : Nat} {xs : Nat → Int32} {As : List Value} {A : Nat → Prop} {locs : List Loc} (hX : va_X b L xs s H0) (hbl : b < H0.size) (hbA : ¬ A b) (hS : va_S A H0 H locs) : PreS s H (gPx As b L xs) As :=
  ⟨gw_blx, fun U hU hW => ⟨rfl, by rw [hU]; exact (hX.kept (hS.2.1 b hbl hbA)).moved hW.alike, by rw [hU]; exact Nat.lt_of_lt_of_le hbl hS.1⟩⟩
theorem wd_L_cell_0 : (.constant RL 8 (790386105) : Cond) ∈ wsL_cell := by decide +kernel
set_option maxHeartbeats 4000000 in
set_option maxRecDepth 100000 in
theorem met_L_cell (l : Launch) (b L : Nat) (xs : Nat → Int32) (k : Nat) (hk : k < 2 ^ 31) (hL : L ≤ 260) : Met l yL_cell wsL_cell ({ frames := 0, cells := 0, slots := 0, locals := 0 }) (gPx [.ref b, .int (nI k)] b L xs) (va_Qi (fun (zr : Int32) (_ : Unit) => zr = clv xs L k) (fun _ _ => True) gN) 0 0 gN := by
  refine Met.ofW (cc := cL_cell) (maxL := 2) (ret := (some .int)) (by decide +kernel) rfl ?_
  intro p e s m args below meth c s₁ B hml hv
  obtain ⟨rfl, hX, hbl⟩ := hv
  have hx := B.exec
  have hb := B.bytes
  have hr := B.returns
  have hts := atoms_spec (ws := wsL_cell) B.pre
  have hown : s.vm.findClass RL = some m.cls := findClass_of_methodNamed B.named
  have hlocks := B.notSynchronized
  have hS : va_S gN s.heap s.heap [] := va_S.rf
  have hl := lv_entry ([.ref b, .int (nI k)]) (n := 2) (Nat.le_of_ble_eq_true rfl)
  rw [lg_entry_eq]
  generalize (lg_sl ([.ref b, .int (nI k)]) ++ List.replicate (2 - (lg_sl ([.ref b, .int (nI k)])).length) Slot.unset).toArray = ls at hl ⊢
  have hl : lv_has ls 2 [(0, .ref b), (1, .int (nI k))] := hl
  refine lv_iload_n hx hb dL_cell_0 rfl (lv_at hl 1 rfl) ?_
  refine lv_aload_n hx hb dL_cell_1 rfl (lv_at hl 0 rfl) ?_
  refine va_slen hx hb hX hbl (fun z => z) hS dL_cell_2 ?_
  refine lv_icmp_ge (tgt := 12) hx hb dL_cell_3 (by decide) (fun c1 => ?_) (fun c1 => ?_)
  · have h1 : L ≤ k := gw_ge (n := L) hk (by omega) c1
    refine lv_ldc (v := 790386105) hx hb hown (hts _ wd_L_cell_0) dL_cell_12 ?_
    refine lv_iload_n hx hb dL_cell_14 rfl (lv_at hl 1 rfl) ?_
    refine lv_iconst (v := 3) hx hb dL_cell_15 (by decide) ?_
    refine lv_iadd hx hb dL_cell_16 ?_
    refine lv_imul hx hb dL_cell_17 ?_
    exact W.iret hx hb hr (fun t ht hW => ⟨⟨_, (), rfl, (by unfold clv; rw [if_neg (by omega)]), trivial⟩, hS.F ht⟩) hS.2.2 dL_cell_18
  · have h1 : k < L := gw_lt (n := L) hk (by omega) c1
    refine lv_aload_n hx hb dL_cell_6 rfl (lv_at hl 0 rfl) ?_
    refine lv_iload_n hx hb dL_cell_7 rfl (lv_at hl 1 rfl) ?_
    refine va_sld hx hb hX hbl (fun z => z) hS (vp_in_nI h1 (by omega)) dL_cell_8 ?_
    refine gw_top (y := xs k) (by rw [nI_clamp hk]) ?_
    refine lv_goto (tgt := 18) hx hb dL_cell_9 (by decide) ?_
    exact W.iret hx hb hr (fun t ht hW => ⟨⟨_, (), rfl, (by unfold clv; rw [if_pos h1]), trivial⟩, hS.F ht⟩) hS.2.2 dL_cell_18
theorem wd_L_below_0 : (.constant RL 7 (2147483647) : Cond) ∈ wsL_below := by decide +kernel
set_option maxHeartbeats 4000000 in
set_option maxRecDepth 100000 in
theorem met_L_below (l : Launch) (D : va_G) (cI cZ cW cO : ClassId) (v : Int32) (n : Nat) (h0 : 0 < n) (hn : n < 2 ^ 31) : Met l yL_below wsL_below ({ frames := 0, cells := 0, slots := 0, locals := 0 }) (gPr [.int v, .int (nI n)] D [] (sT cI cZ cW cO)) (va_Qi (fun (zr : Int32) (_ : Unit) => zr = nI (bw v n)) (fun _ _ => True) gN) 0 0 gN := by
  refine Met.ofW (cc := cL_below) (maxL := 2) (ret := (some .int)) (by decide +kernel) rfl ?_
  intro p e s m args below meth c s₁ B hml hv
  obtain ⟨rfl, hP, hK⟩ := hv
  have hx := B.exec
  have hb := B.bytes
  have hr := B.returns
  have hts := atoms_spec (ws := wsL_below) B.pre
  have hown : s.vm.findClass RL = some m.cls := findClass_of_methodNamed B.named
  have hlocks := B.notSynchronized
  have hS : va_S gN s.heap s.heap [] := va_S.rf
  have hP : va_P D vwCl [] s.heap := hP
  have hl := lv_entry ([.int v, .int (nI n)]) (n := 2) (Nat.le_of_ble_eq_true rfl)
  rw [lg_entry_eq]
  generalize (lg_sl ([.int v, .int (nI n)]) ++ List.replicate (2 - (lg_sl ([.int v, .int (nI n)])).length) Slot.unset).toArray = ls at hl ⊢
  have hl : lv_has ls 2 [(0, .int v), (1, .int (nI n))] := hl
  refine lv_iload_n hx hb dL_below_0 rfl (lv_at hl 0 rfl) ?_
  refine lv_ldc (v := 2147483647) hx hb hown (hts _ wd_L_below_0) dL_below_1 ?_
  refine lv_iand hx hb dL_below_3 ?_
  refine lv_iload_n hx hb dL_below_4 rfl (lv_at hl 1 rfl) ?_
  refine lv_irem hx hb dL_below_5 (nI_ne0 h0 hn) ?_
  refine gw_top (y := nI (bw v n)) (bw_ok h0 hn) ?_
  exact W.iret (v := nI (bw v n)) hx hb hr (fun t ht hW => ⟨⟨_, (), rfl, rfl, trivial⟩, hS.F ht⟩) hS.2.2 dL_below_6
theorem gA1 {W : va_W} {x q : Nat × va_E} {i : Nat} (h : W[i]? = some q) : (W ++ [x])[i]? = some q := by
  rw [List.getElem?_append_left (List.getElem?_eq_some_iff.mp h).1]; exact h
theorem gA2 {W : va_W} {x : Nat × va_E} : (W ++ [x])[W.length]? = some x := by
  rw [List.getElem?_append_right (Nat.le_refl _)]; simp
theorem gA3 {W : va_W} {x y : Nat × va_E} : (W ++ [x]).set W.length y = W ++ [y] := by
  rw [List.set_append_right _ _ (Nat.le_refl _)]; simp
/-- a row of rows, and one more -/
def moF (f : Nat → Option Nat) (n ra : Nat) : Nat → Option Nat := fun j => if j < n then f j else if j = n then some ra else none
/-- the first i of them -/
def moI (f : Nat → Option Nat) (i : Nat) : Nat → Option Nat := fun j => if j < i then f j else none
theorem moI_0 {f : Nat → Option Nat} : moI f 0 = fun _ => none := by funext j; simp [moI]
theorem moI_s {f : Nat → Option Nat} {i v : Nat} (h : f i = some v) : va_up (moI f i) i (some v) = moI f (i + 1) := by
  funext j
  by_cases e : j = i
  · subst e; simp [va_up, moI, h]
  · by_cases h2 : j < i
    · have h3 : j < i + 1 := by omega
      simp [va_up, moI, e, h2, h3]
    · have h3 : ¬ j < i + 1 := by omega
      simp [va_up, moI, e, h2, h3]
theorem moI_n {f : Nat → Option Nat} {n ra : Nat} : va_up (moI f n) n (some ra) = moF f n ra := by
  funext j
  by_cases e : j = n
  · subst e; simp [va_up, moF]
  · by_cases h2 : j < n <;> simp [va_up, moI, moF, e, h2]
theorem wd_X6_more_0 : (.classLink RX6 13 "[I" : Cond) ∈ wsX6_more := by decide +kernel
set_option maxHeartbeats 4000000 in
set_option maxRecDepth 100000 in
theorem met_X6_more (l : Launch) (D : va_G) (cI cZ cW cO : ClassId) (oa ra n m9 io ir : Nat) (f : Nat → Option Nat) (g9 : Nat → Int32) (Wo : va_W) (hn : n ≤ 6) (hoa : Wo[io]? = some (oa, .inl (cO, n, .inr (.inr (.inr (.inr f)))))) (hra : Wo[ir]? = some (ra, .inl (cI, m9, .inl g9))) (hrows : ∀ k, k < n → ∃ (v i : Nat) (x : vp_A), f k = some v ∧ Wo[i]? = some (v, .inl (cI, x))) (sz : Nat) : Met l yX6_more wsX6_more ({ frames := 0, cells := 1, slots := 7, locals := 0 }) (gPs [.ref oa, .ref ra] D Wo (sT cI cZ cW cO) sz) (va_Qr (fun (_ : Unit) => True) (fun (_ : Unit) q t => va_P D vwCl (Wo ++ [(q, .inl (cO, n + 1, .inr (.inr (.inr (.inr (moF f n ra))))))]) t.heap ∧ va_D (va_A Wo sz) (Wo ++ [(q, .inl (cO, n + 1, .inr (.inr (.inr (.inr (moF f n ra))))))])) (va_A Wo sz)) 1 7 (va_A Wo sz) := by
  refine Met.ofW (cc := cX6_more) (maxL := 4) (ret := (some (.array (.array .int)))) (by decide +kernel) rfl ?_
  intro p e s m args below meth c s₁ B hml hv
  obtain ⟨rfl, hsz, hP, hK, hD0, hR⟩ := hv
  have hx := B.exec
  have hb := B.bytes
  have hr := B.returns
  have hts := atoms_spec (ws := wsX6_more) B.pre
  have hown : s.vm.findClass RX6 = some m.cls := findClass_of_methodNamed B.named
  have hlocks := B.notSynchronized
  subst hsz
  have hD := hD0.self (sz := s.heap.size)
  generalize hAe : va_A Wo s.heap.size = A at hD ⊢
  have hA : ∀ q : Nat, s.heap.size ≤ q → A q := fun q h => by rw [← hAe]; exact Or.inr h
  have hS : va_S A s.heap s.heap [] := va_S.rf
  have hP : va_P D vwCl Wo s.heap := hP
  have hl := lv_entry ([.ref oa, .ref ra]) (n := 4) (Nat.le_of_ble_eq_true rfl)
  rw [lg_entry_eq]
  generalize (lg_sl ([.ref oa, .ref ra]) ++ List.replicate (4 - (lg_sl ([.ref oa, .ref ra])).length) Slot.unset).toArray = ls at hl ⊢
  have hl : lv_has ls 4 [(0, .ref oa), (1, .ref ra)] := hl
  refine lv_aload_n hx hb dX6_more_0 rfl (lv_at hl 0 rfl) ?_
  refine va_alen (v := nI n) hx hb hK hP io 3 hoa rfl rfl dX6_more_1 ?_
  refine lv_iconst (v := 1) hx hb dX6_more_2 (by decide) ?_
  refine lv_iadd hx hb dX6_more_3 ?_
  refine gw_top (y := nI (n + 1)) (nI_add n 1) ?_
  refine gw_anewA hx hb hown (hts _ wd_X6_more_0) hR.1 hK 3 rfl hP hD hS hA (n := nI (n + 1)) (N' := n + 1) (nI_pos (by omega)) (nI_clamp (by omega)) (by omega) (by show _ ≤ 1; omega) (by show _ ≤ 7; omega) dX6_more_4 (fun q_1 H hP hD hS => ?_)
  have hP : va_P D vwCl (Wo ++ [(q_1, .inl (cO, n + 1, .inr (.inr (.inr (.inr (fun _ => none))))))]) _ := hP
  have hD : va_D A (Wo ++ [(q_1, .inl (cO, n + 1, .inr (.inr (.inr (.inr (fun _ => none))))))]) := hD
  refine W.widen (k := 1) (n := 7) (by omega) (by omega) ?_
  refine lv_astore_n (lv' := [(2, .ref q_1), (0, .ref oa), (1, .ref ra)]) hx hb dX6_more_7 rfl hl (by decide) rfl (fun ls hl => ?_)
  refine lv_iconst (v := 0) hx hb dX6_more_8 (by decide) ?_
  refine lv_istore_n (lv' := [(3, .int 0), (2, .ref q_1), (0, .ref oa), (1, .ref ra)]) hx hb dX6_more_9 rfl hl (by decide) rfl (fun ls hl => ?_)
  have hP : va_P D vwCl (Wo ++ [(q_1, .inl (cO, n + 1, .inr (.inr (.inr (.inr (moI f 0))))))]) H := by rw [moI_0]; exact hP
  have hD : va_D A (Wo ++ [(q_1, .inl (cO, n + 1, .inr (.inr (.inr (.inr (moI f 0))))))]) := by rw [moI_0]; exact hD
  refine gw_loop (fun (zz : Nat × Nat) H locs ls => match zz with | (k, i) => va_P D vwCl (Wo ++ [(q_1, .inl (cO, n + 1, .inr (.inr (.inr (.inr (moI f i))))))]) H ∧ va_D A (Wo ++ [(q_1, .inl (cO, n + 1, .inr (.inr (.inr (.inr (moI f i))))))]) ∧ va_S A s.heap H locs ∧ lv_has ls 4 [(3, .int (nI i)), (2, .ref q_1), (0, .ref oa), (1, .ref ra)] ∧ (i + k = n)) (fun (zz : Nat × Nat) => match zz with | (k, i) => k) (n, 0) ⟨hP, hD, hS, lv_sub hl [0, 1, 2, 3] rfl, (by omega)⟩ ?_
  rintro ⟨k, i⟩ ih H locs ls ⟨hP, hD, hS, hl, hin⟩
  have hP : va_P D vwCl (Wo ++ [(q_1, .inl (cO, n + 1, .inr (.inr (.inr (.inr (moI f i))))))]) H := hP
  have hD : va_D A (Wo ++ [(q_1, .inl (cO, n + 1, .inr (.inr (.inr (.inr (moI f i))))))]) := hD
  have hl : lv_has ls 4 [(3, .int (nI i)), (2, .ref q_1), (0, .ref oa), (1, .ref ra)] := hl
  have hin : i + k = n := hin
  have ih10 := ih
  refine lv_iload_n hx hb dX6_more_10 rfl (lv_at hl 0 rfl) ?_
  refine lv_aload_n hx hb dX6_more_11 rfl (lv_at hl 2 rfl) ?_
  refine va_alen (v := nI n) hx hb hK hP io 3 (gA1 hoa) rfl rfl dX6_more_12 ?_
  refine lv_icmp_ge (tgt := 28) hx hb dX6_more_13 (by decide) (fun c => ?_) (fun c => ?_)
  · skip
    have hk0 : k = 0 := by have := gw_ge (by omega) (by omega) c; omega
    subst hk0
    have hie : n = i := by omega
    subst hie
    refine lv_aload_n hx hb dX6_more_28 rfl (lv_at hl 1 rfl) ?_
    refine lv_aload_n hx hb dX6_more_29 rfl (lv_at hl 2 rfl) ?_
    refine va_alen (v := nI n) hx hb hK hP io 3 (gA1 hoa) rfl rfl dX6_more_30 ?_
    refine lv_aload_n hx hb dX6_more_31 rfl (lv_at hl 3 rfl) ?_
    refine gw_astA hx hb hR.1 hK hP hD hS Wo.length 3 0 ir (k := n) gA2 rfl rfl (gA1 hra) (by omega) (by omega) dX6_more_32 (fun H locs hP hD hS => ?_)
    rw [gA3] at hP hD
    have hP : va_P D vwCl (Wo ++ [(q_1, .inl (cO, n + 1, .inr (.inr (.inr (.inr (va_up (moI f n) n (some ra)))))))]) _ := hP
    have hD : va_D A (Wo ++ [(q_1, .inl (cO, n + 1, .inr (.inr (.inr (.inr (va_up (moI f n) n (some ra)))))))]) := hD
    refine lv_aload_n hx hb dX6_more_33 rfl (lv_at hl 1 rfl) ?_
    rw [moI_n] at hP hD
    refine W.widen (k := 1) (n := 7) (by omega) (by omega) ?_
    exact W.aret (v := .ref q_1) (rt := (.array (.array .int))) hx hb hr (Or.inr ⟨_, rfl⟩) (Or.inr ⟨_, rfl⟩) (fun t ht hW => ⟨⟨(), _, rfl, trivial, ⟨gw_hh ht hP, hD⟩⟩, hS.F ht⟩) hS.2.2 dX6_more_34
  · skip
    have hi : i < n := gw_lt (by omega) (by omega) c
    obtain ⟨k, rfl⟩ : ∃ k2, k = k2 + 1 := ⟨k - 1, by omega⟩
    obtain ⟨v, iq, x9, hfi, hiq⟩ := hrows i hi
    refine lv_aload_n hx hb dX6_more_16 rfl (lv_at hl 1 rfl) ?_
    refine lv_iload_n hx hb dX6_more_17 rfl (lv_at hl 0 rfl) ?_
    refine lv_aload_n hx hb dX6_more_18 rfl (lv_at hl 2 rfl) ?_
    refine lv_iload_n hx hb dX6_more_19 rfl (lv_at hl 0 rfl) ?_
    refine gw_aldA hx hb hK hP io 3 (k := i) (v := v) (gA1 hoa) rfl hfi (by first | assumption | omega) (by omega) dX6_more_20 ?_
    refine gw_astA hx hb hR.1 hK hP hD hS Wo.length 3 0 iq (k := i) gA2 rfl rfl (gA1 hiq) (by omega) (by omega) dX6_more_21 (fun H locs hP hD hS => ?_)
    rw [gA3] at hP hD
    have hP : va_P D vwCl (Wo ++ [(q_1, .inl (cO, n + 1, .inr (.inr (.inr (.inr (va_up (moI f i) i (some v)))))))]) _ := hP
    have hD : va_D A (Wo ++ [(q_1, .inl (cO, n + 1, .inr (.inr (.inr (.inr (va_up (moI f i) i (some v)))))))]) := hD
    refine lv_iinc (v := nI (i + 1)) (lv' := [(3, .int (nI (i + 1))), (2, .ref q_1), (0, .ref oa), (1, .ref ra)]) hx hb dX6_more_22 hl (k := 0) rfl (nI_add i 1) (by decide) rfl (fun ls hl => ?_)
    refine lv_goto (tgt := 10) hx hb dX6_more_25 (by decide) ?_
    rw [moI_s hfi] at hP hD
    exact ih10 (k, i + 1) H locs ls (by dsimp only; omega) ⟨hP, hD, hS, lv_sub hl [0, 1, 2, 3] rfl, (by omega)⟩
