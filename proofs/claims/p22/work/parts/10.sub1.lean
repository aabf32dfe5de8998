theorem wc_X0_has_X0 : ∀ w ∈ u_ws RX0 TX0 5, w ∈ wsX0_has := by decide +kernel
theorem wd_X0_has_1 : (.fieldLink RX0 24 "GritWheels$Beds" "number" "I" : Cond) ∈ wsX0_has := by decide +kernel
set_option maxHeartbeats 4000000 in
set_option maxRecDepth 100000 in
/-- has: one of them or not -/
theorem met_X0_has (l : Launch) (D : va_G) (cI cZ cL : ClassId) (bd : Nat) (bd0 : Nat) (bd1 : Nat) (bd2 : Nat) (bd3 : Nat) (nb : Nat) (x : Int32) (hnb : nb ≤ 5) : Met l yX0_has wsX0_has ({ frames := 0, cells := 0, slots := 0, locals := 0 }) (gPr [.ref bd, .int x] D [(bd, .inr (0, [.ref bd0, .ref bd1, .ref bd2, .ref bd3, .int (nI nb)]))] (gT cI cZ cL)) (va_Qi (fun (r : Int32) (_ : Unit) => (r = 1 ∧ (∃ kk, kk < nb ∧ x = nI kk)) ∨ (r = 0 ∧ ¬ (∃ kk, kk < nb ∧ x = nI kk))) (fun _ _ => True) gN) 0 0 gN := by
  refine Met.ofW (cc := cX0_has) (maxL := 2) (ret := (some .boolean)) (by decide) rfl ?_
  intro p e s m args below meth c s₁ B hml hv
  obtain ⟨rfl, hP, hK⟩ := hv
  have hx := B.exec
  have hb := B.bytes
  have hr := B.returns
  have hts := atoms_spec (ws := wsX0_has) B.pre
  have hown : s.vm.findClass RX0 = some m.cls := findClass_of_methodNamed B.named
  have hlocks := B.notSynchronized
  have hS : va_S gN s.heap s.heap [] := va_S.rf
  have hP : va_P D vwCl [(bd, .inr (0, [.ref bd0, .ref bd1, .ref bd2, .ref bd3, .int (nI nb)]))] s.heap := hP
  have hl := lv_entry ([.ref bd, .int x]) (n := 2) (Nat.le_of_ble_eq_true rfl)
  rw [lg_entry_eq]
  generalize (lg_sl ([.ref bd, .int x]) ++ List.replicate (2 - (lg_sl ([.ref bd, .int x])).length) Slot.unset).toArray = ls at hl ⊢
  have hl : lv_has ls 2 [(0, .ref bd), (1, .int x)] := hl
  refine lv_iload_n hx hb dX0_has_0 rfl (lv_at hl 1 rfl) ?_
  refine lv_if_lt (tgt := 16) hx hb dX0_has_1 (by decide) (fun h1 => ?_) (fun h1 => ?_)
  · skip
    refine lv_iconst (v := 0) hx hb dX0_has_16 (by decide) ?_
    exact W.zret (v := 0) hx hb hr rfl (fun t ht hW => ⟨⟨_, (), rfl, Or.inr ⟨rfl, (by first | exact gw_hasF1 (by omega) h1 | exact gw_hasF2 (by omega) h2)⟩, trivial⟩, hS.F ht⟩) hS.2.2 dX0_has_17
  · skip
    refine lv_iload_n hx hb dX0_has_4 rfl (lv_at hl 1 rfl) ?_
    refine lv_aload_n hx hb dX0_has_5 rfl (lv_at hl 0 rfl) ?_
    refine va_get (D := D) (ci := 0) (v := .int (nI nb)) (C := RX0) (T := TX0) (N := 5) hx hb hts wc_X0_has_X0 hown hK hP 0 rfl rfl 4 (by decide) (hts _ wd_X0_has_1) (fun _ h9 => h9) rfl dX0_has_6 ?_
    refine lv_icmp_ge (tgt := 16) hx hb dX0_has_9 (by decide) (fun h2 => ?_) (fun h2 => ?_)
    · skip
      refine lv_iconst (v := 0) hx hb dX0_has_16 (by decide) ?_
      exact W.zret (v := 0) hx hb hr rfl (fun t ht hW => ⟨⟨_, (), rfl, Or.inr ⟨rfl, (by first | exact gw_hasF1 (by omega) h1 | exact gw_hasF2 (by omega) h2)⟩, trivial⟩, hS.F ht⟩) hS.2.2 dX0_has_17
    · skip
      refine lv_iconst (v := 1) hx hb dX0_has_12 (by decide) ?_
      refine lv_goto (tgt := 17) hx hb dX0_has_13 (by decide) ?_
      exact W.zret (v := 1) hx hb hr rfl (fun t ht hW => ⟨⟨_, (), rfl, Or.inl ⟨rfl, gw_hasT (by omega) h1 h2⟩, trivial⟩, hS.F ht⟩) hS.2.2 dX0_has_17

theorem wc_X1_has_X1 : ∀ w ∈ u_ws RX1 TX1 5, w ∈ wsX1_has := by decide +kernel
theorem wd_X1_has_1 : (.fieldLink RX1 24 "GritWheels$Crew" "number" "I" : Cond) ∈ wsX1_has := by decide +kernel
set_option maxHeartbeats 4000000 in
set_option maxRecDepth 100000 in
/-- has: one of them or not -/
theorem met_X1_has (l : Launch) (D : va_G) (cI cZ cL : ClassId) (cr : Nat) (cr0 : Nat) (cr1 : Nat) (cr2 : Nat) (cr3 : Nat) (nq : Nat) (x : Int32) (hnq : nq ≤ 6) : Met l yX1_has wsX1_has ({ frames := 0, cells := 0, slots := 0, locals := 0 }) (gPr [.ref cr, .int x] D [(cr, .inr (1, [.ref cr0, .ref cr1, .ref cr2, .ref cr3, .int (nI nq)]))] (gT cI cZ cL)) (va_Qi (fun (r : Int32) (_ : Unit) => (r = 1 ∧ (∃ kk, kk < nq ∧ x = nI kk)) ∨ (r = 0 ∧ ¬ (∃ kk, kk < nq ∧ x = nI kk))) (fun _ _ => True) gN) 0 0 gN := by
  refine Met.ofW (cc := cX1_has) (maxL := 2) (ret := (some .boolean)) (by decide) rfl ?_
  intro p e s m args below meth c s₁ B hml hv
  obtain ⟨rfl, hP, hK⟩ := hv
  have hx := B.exec
  have hb := B.bytes
  have hr := B.returns
  have hts := atoms_spec (ws := wsX1_has) B.pre
  have hown : s.vm.findClass RX1 = some m.cls := findClass_of_methodNamed B.named
  have hlocks := B.notSynchronized
  have hS : va_S gN s.heap s.heap [] := va_S.rf
  have hP : va_P D vwCl [(cr, .inr (1, [.ref cr0, .ref cr1, .ref cr2, .ref cr3, .int (nI nq)]))] s.heap := hP
  have hl := lv_entry ([.ref cr, .int x]) (n := 2) (Nat.le_of_ble_eq_true rfl)
  rw [lg_entry_eq]
  generalize (lg_sl ([.ref cr, .int x]) ++ List.replicate (2 - (lg_sl ([.ref cr, .int x])).length) Slot.unset).toArray = ls at hl ⊢
  have hl : lv_has ls 2 [(0, .ref cr), (1, .int x)] := hl
  refine lv_iload_n hx hb dX1_has_0 rfl (lv_at hl 1 rfl) ?_
  refine lv_if_lt (tgt := 16) hx hb dX1_has_1 (by decide) (fun h1 => ?_) (fun h1 => ?_)
  · skip
    refine lv_iconst (v := 0) hx hb dX1_has_16 (by decide) ?_
    exact W.zret (v := 0) hx hb hr rfl (fun t ht hW => ⟨⟨_, (), rfl, Or.inr ⟨rfl, (by first | exact gw_hasF1 (by omega) h1 | exact gw_hasF2 (by omega) h2)⟩, trivial⟩, hS.F ht⟩) hS.2.2 dX1_has_17
  · skip
    refine lv_iload_n hx hb dX1_has_4 rfl (lv_at hl 1 rfl) ?_
    refine lv_aload_n hx hb dX1_has_5 rfl (lv_at hl 0 rfl) ?_
    refine va_get (D := D) (ci := 1) (v := .int (nI nq)) (C := RX1) (T := TX1) (N := 5) hx hb hts wc_X1_has_X1 hown hK hP 0 rfl rfl 4 (by decide) (hts _ wd_X1_has_1) (fun _ h9 => h9) rfl dX1_has_6 ?_
    refine lv_icmp_ge (tgt := 16) hx hb dX1_has_9 (by decide) (fun h2 => ?_) (fun h2 => ?_)
    · skip
      refine lv_iconst (v := 0) hx hb dX1_has_16 (by decide) ?_
      exact W.zret (v := 0) hx hb hr rfl (fun t ht hW => ⟨⟨_, (), rfl, Or.inr ⟨rfl, (by first | exact gw_hasF1 (by omega) h1 | exact gw_hasF2 (by omega) h2)⟩, trivial⟩, hS.F ht⟩) hS.2.2 dX1_has_17
    · skip
      refine lv_iconst (v := 1) hx hb dX1_has_12 (by decide) ?_
      refine lv_goto (tgt := 17) hx hb dX1_has_13 (by decide) ?_
      exact W.zret (v := 1) hx hb hr rfl (fun t ht hW => ⟨⟨_, (), rfl, Or.inl ⟨rfl, gw_hasT (by omega) h1 h2⟩, trivial⟩, hS.F ht⟩) hS.2.2 dX1_has_17

theorem wc_X3_has_X3 : ∀ w ∈ u_ws RX3 TX3 3, w ∈ wsX3_has := by decide +kernel
theorem wd_X3_has_1 : (.fieldLink RX3 18 "GritWheels$Rafts" "number" "I" : Cond) ∈ wsX3_has := by decide +kernel
set_option maxHeartbeats 4000000 in
set_option maxRecDepth 100000 in
/-- has: one of them or not -/
theorem met_X3_has (l : Launch) (D : va_G) (cI cZ cL : ClassId) (rf : Nat) (rf0 : Nat) (rf1 : Nat) (nr : Nat) (x : Int32) (hnr : nr ≤ 3) : Met l yX3_has wsX3_has ({ frames := 0, cells := 0, slots := 0, locals := 0 }) (gPr [.ref rf, .int x] D [(rf, .inr (3, [.ref rf0, .ref rf1, .int (nI nr)]))] (gT cI cZ cL)) (va_Qi (fun (r : Int32) (_ : Unit) => (r = 1 ∧ (∃ kk, kk < nr ∧ x = nI kk)) ∨ (r = 0 ∧ ¬ (∃ kk, kk < nr ∧ x = nI kk))) (fun _ _ => True) gN) 0 0 gN := by
  refine Met.ofW (cc := cX3_has) (maxL := 2) (ret := (some .boolean)) (by decide) rfl ?_
  intro p e s m args below meth c s₁ B hml hv
  obtain ⟨rfl, hP, hK⟩ := hv
  have hx := B.exec
  have hb := B.bytes
  have hr := B.returns
  have hts := atoms_spec (ws := wsX3_has) B.pre
  have hown : s.vm.findClass RX3 = some m.cls := findClass_of_methodNamed B.named
  have hlocks := B.notSynchronized
  have hS : va_S gN s.heap s.heap [] := va_S.rf
  have hP : va_P D vwCl [(rf, .inr (3, [.ref rf0, .ref rf1, .int (nI nr)]))] s.heap := hP
  have hl := lv_entry ([.ref rf, .int x]) (n := 2) (Nat.le_of_ble_eq_true rfl)
  rw [lg_entry_eq]
  generalize (lg_sl ([.ref rf, .int x]) ++ List.replicate (2 - (lg_sl ([.ref rf, .int x])).length) Slot.unset).toArray = ls at hl ⊢
  have hl : lv_has ls 2 [(0, .ref rf), (1, .int x)] := hl
  refine lv_iload_n hx hb dX3_has_0 rfl (lv_at hl 1 rfl) ?_
  refine lv_if_lt (tgt := 16) hx hb dX3_has_1 (by decide) (fun h1 => ?_) (fun h1 => ?_)
  · skip
    refine lv_iconst (v := 0) hx hb dX3_has_16 (by decide) ?_
    exact W.zret (v := 0) hx hb hr rfl (fun t ht hW => ⟨⟨_, (), rfl, Or.inr ⟨rfl, (by first | exact gw_hasF1 (by omega) h1 | exact gw_hasF2 (by omega) h2)⟩, trivial⟩, hS.F ht⟩) hS.2.2 dX3_has_17
  · skip
    refine lv_iload_n hx hb dX3_has_4 rfl (lv_at hl 1 rfl) ?_
    refine lv_aload_n hx hb dX3_has_5 rfl (lv_at hl 0 rfl) ?_
    refine va_get (D := D) (ci := 3) (v := .int (nI nr)) (C := RX3) (T := TX3) (N := 3) hx hb hts wc_X3_has_X3 hown hK hP 0 rfl rfl 2 (by decide) (hts _ wd_X3_has_1) (fun _ h9 => h9) rfl dX3_has_6 ?_
    refine lv_icmp_ge (tgt := 16) hx hb dX3_has_9 (by decide) (fun h2 => ?_) (fun h2 => ?_)
    · skip
      refine lv_iconst (v := 0) hx hb dX3_has_16 (by decide) ?_
      exact W.zret (v := 0) hx hb hr rfl (fun t ht hW => ⟨⟨_, (), rfl, Or.inr ⟨rfl, (by first | exact gw_hasF1 (by omega) h1 | exact gw_hasF2 (by omega) h2)⟩, trivial⟩, hS.F ht⟩) hS.2.2 dX3_has_17
    · skip
      refine lv_iconst (v := 1) hx hb dX3_has_12 (by decide) ?_
      refine lv_goto (tgt := 17) hx hb dX3_has_13 (by decide) ?_
      exact W.zret (v := 1) hx hb hr rfl (fun t ht hW => ⟨⟨_, (), rfl, Or.inl ⟨rfl, gw_hasT (by omega) h1 h2⟩, trivial⟩, hS.F ht⟩) hS.2.2 dX3_has_17

theorem wc_X4_has_X4 : ∀ w ∈ u_ws RX4 TX4 7, w ∈ wsX4_has := by decide +kernel
theorem wd_X4_has_1 : (.fieldLink RX4 31 "GritWheels$Wheels" "number" "I" : Cond) ∈ wsX4_has := by decide +kernel
set_option maxHeartbeats 4000000 in
set_option maxRecDepth 100000 in
/-- has: one of them or not -/
theorem met_X4_has (l : Launch) (D : va_G) (cI cZ cL : ClassId) (wh : Nat) (wh0 : Nat) (wh1 : Nat) (wh2 : Nat) (wh3 : Nat) (wh4 : Nat) (wh5 : Nat) (nw : Nat) (x : Int32) (hnw : nw ≤ 60) : Met l yX4_has wsX4_has ({ frames := 0, cells := 0, slots := 0, locals := 0 }) (gPr [.ref wh, .int x] D [(wh, .inr (4, [.ref wh0, .ref wh1, .ref wh2, .ref wh3, .ref wh4, .ref wh5, .int (nI nw)]))] (gT cI cZ cL)) (va_Qi (fun (r : Int32) (_ : Unit) => (r = 1 ∧ (∃ kk, kk < nw ∧ x = nI kk)) ∨ (r = 0 ∧ ¬ (∃ kk, kk < nw ∧ x = nI kk))) (fun _ _ => True) gN) 0 0 gN := by
  refine Met.ofW (cc := cX4_has) (maxL := 2) (ret := (some .boolean)) (by decide) rfl ?_
  intro p e s m args below meth c s₁ B hml hv
  obtain ⟨rfl, hP, hK⟩ := hv
  have hx := B.exec
  have hb := B.bytes
  have hr := B.returns
  have hts := atoms_spec (ws := wsX4_has) B.pre
  have hown : s.vm.findClass RX4 = some m.cls := findClass_of_methodNamed B.named
  have hlocks := B.notSynchronized
  have hS : va_S gN s.heap s.heap [] := va_S.rf
  have hP : va_P D vwCl [(wh, .inr (4, [.ref wh0, .ref wh1, .ref wh2, .ref wh3, .ref wh4, .ref wh5, .int (nI nw)]))] s.heap := hP
  have hl := lv_entry ([.ref wh, .int x]) (n := 2) (Nat.le_of_ble_eq_true rfl)
  rw [lg_entry_eq]
  generalize (lg_sl ([.ref wh, .int x]) ++ List.replicate (2 - (lg_sl ([.ref wh, .int x])).length) Slot.unset).toArray = ls at hl ⊢
  have hl : lv_has ls 2 [(0, .ref wh), (1, .int x)] := hl
  refine lv_iload_n hx hb dX4_has_0 rfl (lv_at hl 1 rfl) ?_
  refine lv_if_lt (tgt := 16) hx hb dX4_has_1 (by decide) (fun h1 => ?_) (fun h1 => ?_)
  · skip
    refine lv_iconst (v := 0) hx hb dX4_has_16 (by decide) ?_
    exact W.zret (v := 0) hx hb hr rfl (fun t ht hW => ⟨⟨_, (), rfl, Or.inr ⟨rfl, (by first | exact gw_hasF1 (by omega) h1 | exact gw_hasF2 (by omega) h2)⟩, trivial⟩, hS.F ht⟩) hS.2.2 dX4_has_17
  · skip
    refine lv_iload_n hx hb dX4_has_4 rfl (lv_at hl 1 rfl) ?_
    refine lv_aload_n hx hb dX4_has_5 rfl (lv_at hl 0 rfl) ?_
    refine va_get (D := D) (ci := 4) (v := .int (nI nw)) (C := RX4) (T := TX4) (N := 7) hx hb hts wc_X4_has_X4 hown hK hP 0 rfl rfl 6 (by decide) (hts _ wd_X4_has_1) (fun _ h9 => h9) rfl dX4_has_6 ?_
    refine lv_icmp_ge (tgt := 16) hx hb dX4_has_9 (by decide) (fun h2 => ?_) (fun h2 => ?_)
    · skip
      refine lv_iconst (v := 0) hx hb dX4_has_16 (by decide) ?_
      exact W.zret (v := 0) hx hb hr rfl (fun t ht hW => ⟨⟨_, (), rfl, Or.inr ⟨rfl, (by first | exact gw_hasF1 (by omega) h1 | exact gw_hasF2 (by omega) h2)⟩, trivial⟩, hS.F ht⟩) hS.2.2 dX4_has_17
    · skip
      refine lv_iconst (v := 1) hx hb dX4_has_12 (by decide) ?_
      refine lv_goto (tgt := 17) hx hb dX4_has_13 (by decide) ?_
      exact W.zret (v := 1) hx hb hr rfl (fun t ht hW => ⟨⟨_, (), rfl, Or.inl ⟨rfl, gw_hasT (by omega) h1 h2⟩, trivial⟩, hS.F ht⟩) hS.2.2 dX4_has_17

theorem wc_X0_dustOfADay_X0 : ∀ w ∈ u_ws RX0 TX0 5, w ∈ wsX0_dustOfADay := by decide +kernel
theorem wd_X0_dustOfADay_1 : (.fieldLink RX0 9 "GritWheels$Beds" "grit" "[I" : Cond) ∈ wsX0_dustOfADay := by decide +kernel
set_option maxHeartbeats 4000000 in
set_option maxRecDepth 100000 in
theorem met_X0_dustOfADay (l : Launch) (D : va_G) (cI cZ cL : ClassId) (bd : Nat) (bd0 : Nat) (bd1 : Nat) (bd2 : Nat) (bd3 : Nat) (nb : Nat) (gr : Nat → Int32) (k : Nat) (hk : k < 5) : Met l yX0_dustOfADay wsX0_dustOfADay ({ frames := 0, cells := 0, slots := 0, locals := 0 }) (gPr [.ref bd, .int (nI k)] D [(bd, .inr (0, [.ref bd0, .ref bd1, .ref bd2, .ref bd3, .int (nI nb)])), (bd0, .inl (cI, 5, .inl gr))] (gT cI cZ cL)) (va_Qi (fun (r : Int32) (_ : Unit) => r = gr k + 1) (fun _ _ => True) gN) 0 0 gN := by
  refine Met.ofW (cc := cX0_dustOfADay) (maxL := 2) (ret := (some .int)) (by decide) rfl ?_
  intro p e s m args below meth c s₁ B hml hv
  obtain ⟨rfl, hP, hK⟩ := hv
  have hx := B.exec
  have hb := B.bytes
  have hr := B.returns
  have hts := atoms_spec (ws := wsX0_dustOfADay) B.pre
  have hown : s.vm.findClass RX0 = some m.cls := findClass_of_methodNamed B.named
  have hlocks := B.notSynchronized
  have hS : va_S gN s.heap s.heap [] := va_S.rf
  have hP : va_P D vwCl [(bd, .inr (0, [.ref bd0, .ref bd1, .ref bd2, .ref bd3, .int (nI nb)])), (bd0, .inl (cI, 5, .inl gr))] s.heap := hP
  have hl := lv_entry ([.ref bd, .int (nI k)]) (n := 2) (Nat.le_of_ble_eq_true rfl)
  rw [lg_entry_eq]
  generalize (lg_sl ([.ref bd, .int (nI k)]) ++ List.replicate (2 - (lg_sl ([.ref bd, .int (nI k)])).length) Slot.unset).toArray = ls at hl ⊢
  have hl : lv_has ls 2 [(0, .ref bd), (1, .int (nI k))] := hl
  refine lv_aload_n hx hb dX0_dustOfADay_0 rfl (lv_at hl 0 rfl) ?_
  refine va_get (D := D) (ci := 0) (v := .ref bd0) (C := RX0) (T := TX0) (N := 5) hx hb hts wc_X0_dustOfADay_X0 hown hK hP 0 rfl rfl 0 (by decide) (hts _ wd_X0_dustOfADay_1) (fun _ h9 => h9) rfl dX0_dustOfADay_1 ?_
  refine lv_iload_n hx hb dX0_dustOfADay_4 rfl (lv_at hl 1 rfl) ?_
  refine gw_iald hx hb hK hP 1 0 (k := k) rfl rfl (by omega) (by decide) dX0_dustOfADay_5 ?_
  refine lv_iconst (v := 1) hx hb dX0_dustOfADay_6 (by decide) ?_
  refine lv_iadd hx hb dX0_dustOfADay_7 ?_
  exact W.iret (v := (gr k) + 1) hx hb hr (fun t ht hW => ⟨⟨_, (), rfl, rfl, trivial⟩, hS.F ht⟩) hS.2.2 dX0_dustOfADay_8

theorem wc_X1_isTired_X1 : ∀ w ∈ u_ws RX1 TX1 5, w ∈ wsX1_isTired := by decide +kernel
theorem wd_X1_isTired_1 : (.fieldLink RX1 18 "GritWheels$Crew" "dust" "[I" : Cond) ∈ wsX1_isTired := by decide +kernel
set_option maxHeartbeats 4000000 in
set_option maxRecDepth 100000 in
theorem met_X1_isTired (l : Launch) (D : va_G) (cI cZ cL : ClassId) (cr : Nat) (cr0 : Nat) (cr1 : Nat) (cr2 : Nat) (cr3 : Nat) (nq : Nat) (du : Nat → Int32) (k : Nat) (hk : k < 6) : Met l yX1_isTired wsX1_isTired ({ frames := 0, cells := 0, slots := 0, locals := 0 }) (gPr [.ref cr, .int (nI k)] D [(cr, .inr (1, [.ref cr0, .ref cr1, .ref cr2, .ref cr3, .int (nI nq)])), (cr2, .inl (cI, 6, .inl du))] (gT cI cZ cL)) (va_Qi (fun (r : Int32) (_ : Unit) => (r = 1 ∧ ((60 : Int32) ≤ du k)) ∨ (r = 0 ∧ ¬ ((60 : Int32) ≤ du k))) (fun _ _ => True) gN) 0 0 gN := by
  refine Met.ofW (cc := cX1_isTired) (maxL := 2) (ret := (some .boolean)) (by decide) rfl ?_
  intro p e s m args below meth c s₁ B hml hv
  obtain ⟨rfl, hP, hK⟩ := hv
  have hx := B.exec
  have hb := B.bytes
  have hr := B.returns
  have hts := atoms_spec (ws := wsX1_isTired) B.pre
  have hown : s.vm.findClass RX1 = some m.cls := findClass_of_methodNamed B.named
  have hlocks := B.notSynchronized
  have hS : va_S gN s.heap s.heap [] := va_S.rf
  have hP : va_P D vwCl [(cr, .inr (1, [.ref cr0, .ref cr1, .ref cr2, .ref cr3, .int (nI nq)])), (cr2, .inl (cI, 6, .inl du))] s.heap := hP
  have hl := lv_entry ([.ref cr, .int (nI k)]) (n := 2) (Nat.le_of_ble_eq_true rfl)
  rw [lg_entry_eq]
  generalize (lg_sl ([.ref cr, .int (nI k)]) ++ List.replicate (2 - (lg_sl ([.ref cr, .int (nI k)])).length) Slot.unset).toArray = ls at hl ⊢
  have hl : lv_has ls 2 [(0, .ref cr), (1, .int (nI k))] := hl
  refine lv_aload_n hx hb dX1_isTired_0 rfl (lv_at hl 0 rfl) ?_
  refine va_get (D := D) (ci := 1) (v := .ref cr2) (C := RX1) (T := TX1) (N := 5) hx hb hts wc_X1_isTired_X1 hown hK hP 0 rfl rfl 2 (by decide) (hts _ wd_X1_isTired_1) (fun _ h9 => h9) rfl dX1_isTired_1 ?_
  refine lv_iload_n hx hb dX1_isTired_4 rfl (lv_at hl 1 rfl) ?_
  refine gw_iald hx hb hK hP 1 0 (k := k) rfl rfl (by omega) (by decide) dX1_isTired_5 ?_
  refine lv_bipush (v := 60) hx hb dX1_isTired_6 (by decide) ?_
  refine lv_icmp_lt (tgt := 15) hx hb dX1_isTired_8 (by decide) (fun h1 => ?_) (fun h1 => ?_)
  · skip
    refine lv_iconst (v := 0) hx hb dX1_isTired_15 (by decide) ?_
    exact W.zret (v := 0) hx hb hr rfl (fun t ht hW => ⟨⟨_, (), rfl, Or.inr ⟨rfl, (Int32.not_le.mpr h1)⟩, trivial⟩, hS.F ht⟩) hS.2.2 dX1_isTired_16
  · skip
    refine lv_iconst (v := 1) hx hb dX1_isTired_11 (by decide) ?_
    refine lv_goto (tgt := 16) hx hb dX1_isTired_12 (by decide) ?_
    exact W.zret (v := 1) hx hb hr rfl (fun t ht hW => ⟨⟨_, (), rfl, Or.inl ⟨rfl, (Int32.not_lt.mp h1)⟩, trivial⟩, hS.F ht⟩) hS.2.2 dX1_isTired_16

theorem wc_X3_isAway_X3 : ∀ w ∈ u_ws RX3 TX3 3, w ∈ wsX3_isAway := by decide +kernel
theorem wd_X3_isAway_1 : (.fieldLink RX3 15 "GritWheels$Rafts" "backOn" "[I" : Cond) ∈ wsX3_isAway := by decide +kernel
set_option maxHeartbeats 4000000 in
set_option maxRecDepth 100000 in
theorem met_X3_isAway (l : Launch) (D : va_G) (cI cZ cL : ClassId) (rf : Nat) (rf0 : Nat) (rf1 : Nat) (nr : Nat) (bo : Nat → Int32) (k : Nat) (d : Nat) (hk : k < 3) : Met l yX3_isAway wsX3_isAway ({ frames := 0, cells := 0, slots := 0, locals := 0 }) (gPr [.ref rf, .int (nI k), .int (nI d)] D [(rf, .inr (3, [.ref rf0, .ref rf1, .int (nI nr)])), (rf1, .inl (cI, 3, .inl bo))] (gT cI cZ cL)) (va_Qi (fun (r : Int32) (_ : Unit) => (r = 1 ∧ (nI d < bo k)) ∨ (r = 0 ∧ ¬ (nI d < bo k))) (fun _ _ => True) gN) 0 0 gN := by
  refine Met.ofW (cc := cX3_isAway) (maxL := 3) (ret := (some .boolean)) (by decide) rfl ?_
  intro p e s m args below meth c s₁ B hml hv
  obtain ⟨rfl, hP, hK⟩ := hv
  have hx := B.exec
  have hb := B.bytes
  have hr := B.returns
  have hts := atoms_spec (ws := wsX3_isAway) B.pre
  have hown : s.vm.findClass RX3 = some m.cls := findClass_of_methodNamed B.named
  have hlocks := B.notSynchronized
  have hS : va_S gN s.heap s.heap [] := va_S.rf
  have hP : va_P D vwCl [(rf, .inr (3, [.ref rf0, .ref rf1, .int (nI nr)])), (rf1, .inl (cI, 3, .inl bo))] s.heap := hP
  have hl := lv_entry ([.ref rf, .int (nI k), .int (nI d)]) (n := 3) (Nat.le_of_ble_eq_true rfl)
  rw [lg_entry_eq]
  generalize (lg_sl ([.ref rf, .int (nI k), .int (nI d)]) ++ List.replicate (3 - (lg_sl ([.ref rf, .int (nI k), .int (nI d)])).length) Slot.unset).toArray = ls at hl ⊢
  have hl : lv_has ls 3 [(0, .ref rf), (1, .int (nI k)), (2, .int (nI d))] := hl
  refine lv_iload_n hx hb dX3_isAway_0 rfl (lv_at hl 2 rfl) ?_
  refine lv_aload_n hx hb dX3_isAway_1 rfl (lv_at hl 0 rfl) ?_
  refine va_get (D := D) (ci := 3) (v := .ref rf1) (C := RX3) (T := TX3) (N := 3) hx hb hts wc_X3_isAway_X3 hown hK hP 0 rfl rfl 1 (by decide) (hts _ wd_X3_isAway_1) (fun _ h9 => h9) rfl dX3_isAway_2 ?_
  refine lv_iload_n hx hb dX3_isAway_5 rfl (lv_at hl 1 rfl) ?_
  refine gw_iald hx hb hK hP 1 0 (k := k) rfl rfl (by omega) (by decide) dX3_isAway_6 ?_
  refine lv_icmp_ge (tgt := 14) hx hb dX3_isAway_7 (by decide) (fun h1 => ?_) (fun h1 => ?_)
  · skip
    refine lv_iconst (v := 0) hx hb dX3_isAway_14 (by decide) ?_
    exact W.zret (v := 0) hx hb hr rfl (fun t ht hW => ⟨⟨_, (), rfl, Or.inr ⟨rfl, (Int32.not_lt.mpr h1)⟩, trivial⟩, hS.F ht⟩) hS.2.2 dX3_isAway_15
  · skip
    refine lv_iconst (v := 1) hx hb dX3_isAway_10 (by decide) ?_
    refine lv_goto (tgt := 15) hx hb dX3_isAway_11 (by decide) ?_
    exact W.zret (v := 1) hx hb hr rfl (fun t ht hW => ⟨⟨_, (), rfl, Or.inl ⟨rfl, (Int32.not_le.mp h1)⟩, trivial⟩, hS.F ht⟩) hS.2.2 dX3_isAway_15

theorem wc_X1_numberAt_X1 : ∀ w ∈ u_ws RX1 TX1 5, w ∈ wsX1_numberAt := by decide +kernel
theorem wd_X1_numberAt_1 : (.fieldLink RX1 24 "GritWheels$Crew" "number" "I" : Cond) ∈ wsX1_numberAt := by decide +kernel
theorem wd_X1_numberAt_2 : (.fieldLink RX1 15 "GritWheels$Crew" "place" "[I" : Cond) ∈ wsX1_numberAt := by decide +kernel
set_option maxHeartbeats 4000000 in
set_option maxRecDepth 100000 in
theorem met_X1_numberAt (l : Launch) (D : va_G) (cI cZ cL : ClassId) (cr : Nat) (cr0 : Nat) (cr1 : Nat) (cr2 : Nat) (cr3 : Nat) (nq : Nat) (pl : Nat → Int32) (x : Int32) (hnq : nq ≤ 6) : Met l yX1_numberAt wsX1_numberAt ({ frames := 0, cells := 0, slots := 0, locals := 0 }) (gPr [.ref cr, .int x] D [(cr, .inr (1, [.ref cr0, .ref cr1, .ref cr2, .ref cr3, .int (nI nq)])), (cr1, .inl (cI, 6, .inl pl))] (gT cI cZ cL)) (va_Qi (fun (r : Int32) (_ : Unit) => r = gS (fun j => if pl j = x then 1 else 0) nq 0 0) (fun _ _ => True) gN) 0 0 gN := by
  refine Met.ofW (cc := cX1_numberAt) (maxL := 4) (ret := (some .int)) (by decide) rfl ?_
  intro p e s m args below meth c s₁ B hml hv
  obtain ⟨rfl, hP, hK⟩ := hv
  have hx := B.exec
  have hb := B.bytes
  have hr := B.returns
  have hts := atoms_spec (ws := wsX1_numberAt) B.pre
  have hown : s.vm.findClass RX1 = some m.cls := findClass_of_methodNamed B.named
  have hlocks := B.notSynchronized
  have hS : va_S gN s.heap s.heap [] := va_S.rf
  have hP : va_P D vwCl [(cr, .inr (1, [.ref cr0, .ref cr1, .ref cr2, .ref cr3, .int (nI nq)])), (cr1, .inl (cI, 6, .inl pl))] s.heap := hP
  have hl := lv_entry ([.ref cr, .int x]) (n := 4) (Nat.le_of_ble_eq_true rfl)
  rw [lg_entry_eq]
  generalize (lg_sl ([.ref cr, .int x]) ++ List.replicate (4 - (lg_sl ([.ref cr, .int x])).length) Slot.unset).toArray = ls at hl ⊢
  have hl : lv_has ls 4 [(0, .ref cr), (1, .int x)] := hl
  refine lv_iconst (v := 0) hx hb dX1_numberAt_0 (by decide) ?_
  refine lv_istore_n (lv' := [(2, .int 0), (0, .ref cr), (1, .int x)]) hx hb dX1_numberAt_1 rfl hl (by decide) rfl (fun ls hl => ?_)
  refine lv_iconst (v := 0) hx hb dX1_numberAt_2 (by decide) ?_
  refine lv_istore_n (lv' := [(3, .int 0), (2, .int 0), (0, .ref cr), (1, .int x)]) hx hb dX1_numberAt_3 rfl hl (by decide) rfl (fun ls hl => ?_)
  refine gw_loop (fun (zz : Nat × Nat × Int32) H locs ls => match zz with | (k, i, acc) => va_P D vwCl [(cr, .inr (1, [.ref cr0, .ref cr1, .ref cr2, .ref cr3, .int (nI nq)])), (cr1, .inl (cI, 6, .inl pl))] H ∧ va_S gN s.heap H locs ∧ lv_has ls 4 [(3, .int (nI i)), (2, .int acc), (0, .ref cr), (1, .int x)] ∧ (i + k = nq) ∧ (gS (fun j => if pl j = x then 1 else 0) k i acc = gS (fun j => if pl j = x then 1 else 0) nq 0 0)) (fun (zz : Nat × Nat × Int32) => match zz with | (k, i, acc) => k) (nq, 0, 0) ⟨hP, hS, lv_sub hl [0, 1, 2, 3] rfl, (by omega), rfl⟩ ?_
  rintro ⟨k, i, acc⟩ ih H locs ls ⟨hP, hS, hl, hin, hF⟩
  have hP : va_P D vwCl [(cr, .inr (1, [.ref cr0, .ref cr1, .ref cr2, .ref cr3, .int (nI nq)])), (cr1, .inl (cI, 6, .inl pl))] H := hP
  have hl : lv_has ls 4 [(3, .int (nI i)), (2, .int acc), (0, .ref cr), (1, .int x)] := hl
  have hin : i + k = nq := hin
  have hF : gS (fun j => if pl j = x then 1 else 0) k i acc = gS (fun j => if pl j = x then 1 else 0) nq 0 0 := hF
  have ih4 := ih
  refine lv_iload_n hx hb dX1_numberAt_4 rfl (lv_at hl 0 rfl) ?_
  refine lv_aload_n hx hb dX1_numberAt_5 rfl (lv_at hl 2 rfl) ?_
  refine va_get (D := D) (ci := 1) (v := .int (nI nq)) (C := RX1) (T := TX1) (N := 5) hx hb hts wc_X1_numberAt_X1 hown hK hP 0 rfl rfl 4 (by decide) (hts _ wd_X1_numberAt_1) (fun _ h9 => h9) rfl dX1_numberAt_6 ?_
  refine lv_icmp_ge (tgt := 31) hx hb dX1_numberAt_9 (by decide) (fun c => ?_) (fun c => ?_)
  · skip
    have hk0 : k = 0 := by have := gw_ge (by omega) (by omega) c; omega
    subst hk0
    refine lv_iload_n hx hb dX1_numberAt_31 rfl (lv_at hl 1 rfl) ?_
    exact W.iret (v := acc) hx hb hr (fun t ht hW => ⟨⟨_, (), rfl, hF, trivial⟩, hS.F ht⟩) hS.2.2 dX1_numberAt_32
  · skip
    have hi : i < nq := gw_lt (by omega) (by omega) c
    obtain ⟨k, rfl⟩ : ∃ k2, k = k2 + 1 := ⟨k - 1, by omega⟩
    refine lv_aload_n hx hb dX1_numberAt_12 rfl (lv_at hl 2 rfl) ?_
    refine va_get (D := D) (ci := 1) (v := .ref cr1) (C := RX1) (T := TX1) (N := 5) hx hb hts wc_X1_numberAt_X1 hown hK hP 0 rfl rfl 1 (by decide) (hts _ wd_X1_numberAt_2) (fun _ h9 => h9) rfl dX1_numberAt_13 ?_
    refine lv_iload_n hx hb dX1_numberAt_16 rfl (lv_at hl 0 rfl) ?_
    refine gw_iald hx hb hK hP 1 0 (k := i) rfl rfl (by omega) (by decide) dX1_numberAt_17 ?_
    refine lv_iload_n hx hb dX1_numberAt_18 rfl (lv_at hl 3 rfl) ?_
    refine lv_icmp_ne (tgt := 25) hx hb dX1_numberAt_19 (by decide) (fun c2 => ?_) (fun c2 => ?_)
    · skip
      refine lv_iinc (v := nI (i + 1)) (lv' := [(3, .int (nI (i + 1))), (2, .int acc), (0, .ref cr), (1, .int x)]) hx hb dX1_numberAt_25 hl (k := 0) rfl (nI_add i 1) (by decide) rfl (fun ls hl => ?_)
      refine lv_goto (tgt := 4) hx hb dX1_numberAt_28 (by decide) ?_
      exact ih4 (k, i + 1, acc) H locs ls (by dsimp only; omega) ⟨hP, hS, lv_sub hl [0, 1, 2, 3] rfl, (by omega), (by first | exact hF | (rw [← hF]; simp [gS, *]))⟩
    · skip
      refine lv_iinc (v := acc + 1) (lv' := [(2, .int (acc + 1)), (3, .int (nI i)), (0, .ref cr), (1, .int x)]) hx hb dX1_numberAt_22 hl (k := 1) rfl rfl (by decide) rfl (fun ls hl => ?_)
      refine lv_iinc (v := nI (i + 1)) (lv' := [(3, .int (nI (i + 1))), (2, .int (acc + 1)), (0, .ref cr), (1, .int x)]) hx hb dX1_numberAt_25 hl (k := 1) rfl (nI_add i 1) (by decide) rfl (fun ls hl => ?_)
      refine lv_goto (tgt := 4) hx hb dX1_numberAt_28 (by decide) ?_
      exact ih4 (k, i + 1, acc + 1) H locs ls (by dsimp only; omega) ⟨hP, hS, lv_sub hl [0, 1, 2, 3] rfl, (by omega), (by first | exact hF | (rw [← hF]; simp [gS, *]))⟩

theorem wc_X1_dustInAll_X1 : ∀ w ∈ u_ws RX1 TX1 5, w ∈ wsX1_dustInAll := by decide +kernel
theorem wd_X1_dustInAll_1 : (.fieldLink RX1 24 "GritWheels$Crew" "number" "I" : Cond) ∈ wsX1_dustInAll := by decide +kernel
theorem wd_X1_dustInAll_2 : (.fieldLink RX1 18 "GritWheels$Crew" "dust" "[I" : Cond) ∈ wsX1_dustInAll := by decide +kernel
set_option maxHeartbeats 4000000 in
set_option maxRecDepth 100000 in
theorem met_X1_dustInAll (l : Launch) (D : va_G) (cI cZ cL : ClassId) (cr : Nat) (cr0 : Nat) (cr1 : Nat) (cr2 : Nat) (cr3 : Nat) (nq : Nat) (du : Nat → Int32) (hnq : nq ≤ 6) : Met l yX1_dustInAll wsX1_dustInAll ({ frames := 0, cells := 0, slots := 0, locals := 0 }) (gPr [.ref cr] D [(cr, .inr (1, [.ref cr0, .ref cr1, .ref cr2, .ref cr3, .int (nI nq)])), (cr2, .inl (cI, 6, .inl du))] (gT cI cZ cL)) (va_Qi (fun (r : Int32) (_ : Unit) => r = gS du nq 0 0) (fun _ _ => True) gN) 0 0 gN := by
  refine Met.ofW (cc := cX1_dustInAll) (maxL := 3) (ret := (some .int)) (by decide) rfl ?_
  intro p e s m args below meth c s₁ B hml hv
  obtain ⟨rfl, hP, hK⟩ := hv
  have hx := B.exec
  have hb := B.bytes
  have hr := B.returns
  have hts := atoms_spec (ws := wsX1_dustInAll) B.pre
  have hown : s.vm.findClass RX1 = some m.cls := findClass_of_methodNamed B.named
  have hlocks := B.notSynchronized
  have hS : va_S gN s.heap s.heap [] := va_S.rf
  have hP : va_P D vwCl [(cr, .inr (1, [.ref cr0, .ref cr1, .ref cr2, .ref cr3, .int (nI nq)])), (cr2, .inl (cI, 6, .inl du))] s.heap := hP
  have hl := lv_entry ([.ref cr]) (n := 3) (Nat.le_of_ble_eq_true rfl)
  rw [lg_entry_eq]
  generalize (lg_sl ([.ref cr]) ++ List.replicate (3 - (lg_sl ([.ref cr])).length) Slot.unset).toArray = ls at hl ⊢
  have hl : lv_has ls 3 [(0, .ref cr)] := hl
  refine lv_iconst (v := 0) hx hb dX1_dustInAll_0 (by decide) ?_
  refine lv_istore_n (lv' := [(1, .int 0), (0, .ref cr)]) hx hb dX1_dustInAll_1 rfl hl (by decide) rfl (fun ls hl => ?_)
  refine lv_iconst (v := 0) hx hb dX1_dustInAll_2 (by decide) ?_
  refine lv_istore_n (lv' := [(2, .int 0), (1, .int 0), (0, .ref cr)]) hx hb dX1_dustInAll_3 rfl hl (by decide) rfl (fun ls hl => ?_)
  refine gw_loop (fun (zz : Nat × Nat × Int32) H locs ls => match zz with | (k, i, acc) => va_P D vwCl [(cr, .inr (1, [.ref cr0, .ref cr1, .ref cr2, .ref cr3, .int (nI nq)])), (cr2, .inl (cI, 6, .inl du))] H ∧ va_S gN s.heap H locs ∧ lv_has ls 3 [(2, .int (nI i)), (1, .int acc), (0, .ref cr)] ∧ (i + k = nq) ∧ (gS du k i acc = gS du nq 0 0)) (fun (zz : Nat × Nat × Int32) => match zz with | (k, i, acc) => k) (nq, 0, 0) ⟨hP, hS, lv_sub hl [0, 1, 2] rfl, (by omega), rfl⟩ ?_
  rintro ⟨k, i, acc⟩ ih H locs ls ⟨hP, hS, hl, hin, hF⟩
  have hP : va_P D vwCl [(cr, .inr (1, [.ref cr0, .ref cr1, .ref cr2, .ref cr3, .int (nI nq)])), (cr2, .inl (cI, 6, .inl du))] H := hP
  have hl : lv_has ls 3 [(2, .int (nI i)), (1, .int acc), (0, .ref cr)] := hl
  have hin : i + k = nq := hin
  have hF : gS du k i acc = gS du nq 0 0 := hF
  have ih4 := ih
  refine lv_iload_n hx hb dX1_dustInAll_4 rfl (lv_at hl 0 rfl) ?_
  refine lv_aload_n hx hb dX1_dustInAll_5 rfl (lv_at hl 2 rfl) ?_
  refine va_get (D := D) (ci := 1) (v := .int (nI nq)) (C := RX1) (T := TX1) (N := 5) hx hb hts wc_X1_dustInAll_X1 hown hK hP 0 rfl rfl 4 (by decide) (hts _ wd_X1_dustInAll_1) (fun _ h9 => h9) rfl dX1_dustInAll_6 ?_
  refine lv_icmp_ge (tgt := 27) hx hb dX1_dustInAll_9 (by decide) (fun c => ?_) (fun c => ?_)
  · skip
    have hk0 : k = 0 := by have := gw_ge (by omega) (by omega) c; omega
    subst hk0
    refine lv_iload_n hx hb dX1_dustInAll_27 rfl (lv_at hl 1 rfl) ?_
    exact W.iret (v := acc) hx hb hr (fun t ht hW => ⟨⟨_, (), rfl, hF, trivial⟩, hS.F ht⟩) hS.2.2 dX1_dustInAll_28
  · skip
    have hi : i < nq := gw_lt (by omega) (by omega) c
    obtain ⟨k, rfl⟩ : ∃ k2, k = k2 + 1 := ⟨k - 1, by omega⟩
    refine lv_iload_n hx hb dX1_dustInAll_12 rfl (lv_at hl 1 rfl) ?_
    refine lv_aload_n hx hb dX1_dustInAll_13 rfl (lv_at hl 2 rfl) ?_
    refine va_get (D := D) (ci := 1) (v := .ref cr2) (C := RX1) (T := TX1) (N := 5) hx hb hts wc_X1_dustInAll_X1 hown hK hP 0 rfl rfl 2 (by decide) (hts _ wd_X1_dustInAll_2) (fun _ h9 => h9) rfl dX1_dustInAll_14 ?_
    refine lv_iload_n hx hb dX1_dustInAll_17 rfl (lv_at hl 0 rfl) ?_
    refine gw_iald hx hb hK hP 1 0 (k := i) rfl rfl (by omega) (by decide) dX1_dustInAll_18 ?_
    refine lv_iadd hx hb dX1_dustInAll_19 ?_
    refine lv_istore_n (lv' := [(1, .int (acc + (du i))), (2, .int (nI i)), (0, .ref cr)]) hx hb dX1_dustInAll_20 rfl hl (by decide) rfl (fun ls hl => ?_)
    refine lv_iinc (v := nI (i + 1)) (lv' := [(2, .int (nI (i + 1))), (1, .int (acc + (du i))), (0, .ref cr)]) hx hb dX1_dustInAll_21 hl (k := 1) rfl (nI_add i 1) (by decide) rfl (fun ls hl => ?_)
    refine lv_goto (tgt := 4) hx hb dX1_dustInAll_24 (by decide) ?_
    exact ih4 (k, i + 1, acc + (du i)) H locs ls (by dsimp only; omega) ⟨hP, hS, lv_sub hl [0, 1, 2] rfl, (by omega), (by first | exact hF | (rw [← hF]; simp [gS, *]))⟩

theorem wc_X4_tone_X4 : ∀ w ∈ u_ws RX4 TX4 7, w ∈ wsX4_tone := by decide +kernel
theorem wd_X4_tone_1 : (.fieldLink RX4 18 "GritWheels$Wheels" "size" "[I" : Cond) ∈ wsX4_tone := by decide +kernel
theorem wd_X4_tone_2 : (.fieldLink RX4 15 "GritWheels$Wheels" "grit" "[I" : Cond) ∈ wsX4_tone := by decide +kernel
theorem wd_X4_tone_3 : (.fieldLink RX4 21 "GritWheels$Wheels" "cracked" "[Z" : Cond) ∈ wsX4_tone := by decide +kernel
set_option maxHeartbeats 4000000 in
set_option maxRecDepth 100000 in
theorem met_X4_tone (l : Launch) (D : va_G) (cI cZ cL : ClassId) (wh : Nat) (wh0 : Nat) (wh1 : Nat) (wh2 : Nat) (wh3 : Nat) (wh4 : Nat) (wh5 : Nat) (nw : Nat) (f1 : Nat → Int32) (f2 : Nat → Int32) (f3 : Nat → Int32) (k : Nat) (hk : k < 60) : Met l yX4_tone wsX4_tone ({ frames := 0, cells := 0, slots := 0, locals := 0 }) (gPr [.ref wh, .int (nI k)] D [(wh, .inr (4, [.ref wh0, .ref wh1, .ref wh2, .ref wh3, .ref wh4, .ref wh5, .int (nI nw)])), (wh1, .inl (cI, 60, .inl f1)), (wh2, .inl (cI, 60, .inl f2)), (wh3, .inl (cZ, 60, .inl f3))] (gT cI cZ cL)) (va_Qi (fun (r : Int32) (_ : Unit) => r = 50 - 4 * f2 k - f1 k - (if f3 k = 0 then 0 else 9)) (fun _ _ => True) gN) 0 0 gN := by
  refine Met.ofW (cc := cX4_tone) (maxL := 2) (ret := (some .int)) (by decide) rfl ?_
  intro p e s m args below meth c s₁ B hml hv
  obtain ⟨rfl, hP, hK⟩ := hv
  have hx := B.exec
  have hb := B.bytes
  have hr := B.returns
  have hts := atoms_spec (ws := wsX4_tone) B.pre
  have hown : s.vm.findClass RX4 = some m.cls := findClass_of_methodNamed B.named
  have hlocks := B.notSynchronized
  have hS : va_S gN s.heap s.heap [] := va_S.rf
  have hP : va_P D vwCl [(wh, .inr (4, [.ref wh0, .ref wh1, .ref wh2, .ref wh3, .ref wh4, .ref wh5, .int (nI nw)])), (wh1, .inl (cI, 60, .inl f1)), (wh2, .inl (cI, 60, .inl f2)), (wh3, .inl (cZ, 60, .inl f3))] s.heap := hP
  have hl := lv_entry ([.ref wh, .int (nI k)]) (n := 2) (Nat.le_of_ble_eq_true rfl)
  rw [lg_entry_eq]
  generalize (lg_sl ([.ref wh, .int (nI k)]) ++ List.replicate (2 - (lg_sl ([.ref wh, .int (nI k)])).length) Slot.unset).toArray = ls at hl ⊢
  have hl : lv_has ls 2 [(0, .ref wh), (1, .int (nI k))] := hl
  refine lv_bipush (v := 50) hx hb dX4_tone_0 (by decide) ?_
  refine lv_iconst (v := 4) hx hb dX4_tone_2 (by decide) ?_
  refine lv_aload_n hx hb dX4_tone_3 rfl (lv_at hl 0 rfl) ?_
  refine va_get (D := D) (ci := 4) (v := .ref wh2) (C := RX4) (T := TX4) (N := 7) hx hb hts wc_X4_tone_X4 hown hK hP 0 rfl rfl 2 (by decide) (hts _ wd_X4_tone_1) (fun _ h9 => h9) rfl dX4_tone_4 ?_
  refine lv_iload_n hx hb dX4_tone_7 rfl (lv_at hl 1 rfl) ?_
  refine gw_iald hx hb hK hP 2 0 (k := k) rfl rfl (by omega) (by decide) dX4_tone_8 ?_
  refine lv_imul hx hb dX4_tone_9 ?_
  refine lv_isub hx hb dX4_tone_10 ?_
  refine lv_aload_n hx hb dX4_tone_11 rfl (lv_at hl 0 rfl) ?_
  refine va_get (D := D) (ci := 4) (v := .ref wh1) (C := RX4) (T := TX4) (N := 7) hx hb hts wc_X4_tone_X4 hown hK hP 0 rfl rfl 1 (by decide) (hts _ wd_X4_tone_2) (fun _ h9 => h9) rfl dX4_tone_12 ?_
  refine lv_iload_n hx hb dX4_tone_15 rfl (lv_at hl 1 rfl) ?_
  refine gw_iald hx hb hK hP 1 0 (k := k) rfl rfl (by omega) (by decide) dX4_tone_16 ?_
  refine lv_isub hx hb dX4_tone_17 ?_
  refine lv_aload_n hx hb dX4_tone_18 rfl (lv_at hl 0 rfl) ?_
  refine va_get (D := D) (ci := 4) (v := .ref wh3) (C := RX4) (T := TX4) (N := 7) hx hb hts wc_X4_tone_X4 hown hK hP 0 rfl rfl 3 (by decide) (hts _ wd_X4_tone_3) (fun _ h9 => h9) rfl dX4_tone_19 ?_
  refine lv_iload_n hx hb dX4_tone_22 rfl (lv_at hl 1 rfl) ?_
  refine gw_zald hx hb hK hP 3 1 (k := k) rfl rfl (by omega) (by decide) dX4_tone_23 ?_
  refine lv_if_eq (tgt := 32) hx hb dX4_tone_24 (by decide) (fun h1 => ?_) (fun h1 => ?_)
  · skip
    refine lv_iconst (v := 0) hx hb dX4_tone_32 (by decide) ?_
    refine lv_isub hx hb dX4_tone_33 ?_
    exact W.iret (v := ((50 - (4 * (f2 k))) - (f1 k)) - 0) hx hb hr (fun t ht hW => ⟨⟨_, (), rfl, (by simp [h1]), trivial⟩, hS.F ht⟩) hS.2.2 dX4_tone_34
  · skip
    refine lv_bipush (v := 9) hx hb dX4_tone_27 (by decide) ?_
    refine lv_goto (tgt := 33) hx hb dX4_tone_29 (by decide) ?_
    refine lv_isub hx hb dX4_tone_33 ?_
    exact W.iret (v := ((50 - (4 * (f2 k))) - (f1 k)) - 9) hx hb hr (fun t ht hW => ⟨⟨_, (), rfl, (by simp [h1]), trivial⟩, hS.F ht⟩) hS.2.2 dX4_tone_34

theorem wc_X4_weight_X4 : ∀ w ∈ u_ws RX4 TX4 7, w ∈ wsX4_weight := by decide +kernel
theorem wd_X4_weight_1 : (.fieldLink RX4 18 "GritWheels$Wheels" "size" "[I" : Cond) ∈ wsX4_weight := by decide +kernel
set_option maxHeartbeats 4000000 in
set_option maxRecDepth 100000 in
theorem met_X4_weight (l : Launch) (D : va_G) (cI cZ cL : ClassId) (wh : Nat) (wh0 : Nat) (wh1 : Nat) (wh2 : Nat) (wh3 : Nat) (wh4 : Nat) (wh5 : Nat) (nw : Nat) (f2 : Nat → Int32) (k : Nat) (hk : k < 60) : Met l yX4_weight wsX4_weight ({ frames := 0, cells := 0, slots := 0, locals := 0 }) (gPr [.ref wh, .int (nI k)] D [(wh, .inr (4, [.ref wh0, .ref wh1, .ref wh2, .ref wh3, .ref wh4, .ref wh5, .int (nI nw)])), (wh2, .inl (cI, 60, .inl f2))] (gT cI cZ cL)) (va_Qi (fun (r : Int32) (_ : Unit) => r = 2 * f2 k * f2 k) (fun _ _ => True) gN) 0 0 gN := by
  refine Met.ofW (cc := cX4_weight) (maxL := 2) (ret := (some .int)) (by decide) rfl ?_
  intro p e s m args below meth c s₁ B hml hv
  obtain ⟨rfl, hP, hK⟩ := hv
  have hx := B.exec
  have hb := B.bytes
  have hr := B.returns
  have hts := atoms_spec (ws := wsX4_weight) B.pre
  have hown : s.vm.findClass RX4 = some m.cls := findClass_of_methodNamed B.named
  have hlocks := B.notSynchronized
  have hS : va_S gN s.heap s.heap [] := va_S.rf
  have hP : va_P D vwCl [(wh, .inr (4, [.ref wh0, .ref wh1, .ref wh2, .ref wh3, .ref wh4, .ref wh5, .int (nI nw)])), (wh2, .inl (cI, 60, .inl f2))] s.heap := hP
  have hl := lv_entry ([.ref wh, .int (nI k)]) (n := 2) (Nat.le_of_ble_eq_true rfl)
  rw [lg_entry_eq]
  generalize (lg_sl ([.ref wh, .int (nI k)]) ++ List.replicate (2 - (lg_sl ([.ref wh, .int (nI k)])).length) Slot.unset).toArray = ls at hl ⊢
  have hl : lv_has ls 2 [(0, .ref wh), (1, .int (nI k))] := hl
  refine lv_iconst (v := 2) hx hb dX4_weight_0 (by decide) ?_
  refine lv_aload_n hx hb dX4_weight_1 rfl (lv_at hl 0 rfl) ?_
  refine va_get (D := D) (ci := 4) (v := .ref wh2) (C := RX4) (T := TX4) (N := 7) hx hb hts wc_X4_weight_X4 hown hK hP 0 rfl rfl 2 (by decide) (hts _ wd_X4_weight_1) (fun _ h9 => h9) rfl dX4_weight_2 ?_
  refine lv_iload_n hx hb dX4_weight_5 rfl (lv_at hl 1 rfl) ?_
  refine gw_iald hx hb hK hP 1 0 (k := k) rfl rfl (by omega) (by decide) dX4_weight_6 ?_
  refine lv_imul hx hb dX4_weight_7 ?_
  refine lv_aload_n hx hb dX4_weight_8 rfl (lv_at hl 0 rfl) ?_
  refine va_get (D := D) (ci := 4) (v := .ref wh2) (C := RX4) (T := TX4) (N := 7) hx hb hts wc_X4_weight_X4 hown hK hP 0 rfl rfl 2 (by decide) (hts _ wd_X4_weight_1) (fun _ h9 => h9) rfl dX4_weight_9 ?_
  refine lv_iload_n hx hb dX4_weight_12 rfl (lv_at hl 1 rfl) ?_
  refine gw_iald hx hb hK hP 1 0 (k := k) rfl rfl (by omega) (by decide) dX4_weight_13 ?_
  refine lv_imul hx hb dX4_weight_14 ?_
  exact W.iret (v := (2 * (f2 k)) * (f2 k)) hx hb hr (fun t ht hW => ⟨⟨_, (), rfl, rfl, trivial⟩, hS.F ht⟩) hS.2.2 dX4_weight_15

theorem wc_X4_worth_X4 : ∀ w ∈ u_ws RX4 TX4 7, w ∈ wsX4_worth := by decide +kernel
theorem wd_X4_worth_1 : (.fieldLink RX4 25 "GritWheels$Wheels" "state" "[I" : Cond) ∈ wsX4_worth := by decide +kernel
theorem wd_X4_worth_2 : (.fieldLink RX4 18 "GritWheels$Wheels" "size" "[I" : Cond) ∈ wsX4_worth := by decide +kernel
theorem wd_X4_worth_3 : (.fieldLink RX4 15 "GritWheels$Wheels" "grit" "[I" : Cond) ∈ wsX4_worth := by decide +kernel
theorem wd_X4_worth_4 : (.fieldLink RX4 21 "GritWheels$Wheels" "cracked" "[Z" : Cond) ∈ wsX4_worth := by decide +kernel
set_option maxHeartbeats 4000000 in
set_option maxRecDepth 100000 in
theorem met_X4_worth (l : Launch) (D : va_G) (cI cZ cL : ClassId) (wh : Nat) (wh0 : Nat) (wh1 : Nat) (wh2 : Nat) (wh3 : Nat) (wh4 : Nat) (wh5 : Nat) (nw : Nat) (f1 : Nat → Int32) (f2 : Nat → Int32) (f3 : Nat → Int32) (f4 : Nat → Int32) (k : Nat) (hk : k < 60) : Met l yX4_worth wsX4_worth ({ frames := 0, cells := 0, slots := 0, locals := 0 }) (gPr [.ref wh, .int (nI k)] D [(wh, .inr (4, [.ref wh0, .ref wh1, .ref wh2, .ref wh3, .ref wh4, .ref wh5, .int (nI nw)])), (wh1, .inl (cI, 60, .inl f1)), (wh2, .inl (cI, 60, .inl f2)), (wh3, .inl (cZ, 60, .inl f3)), (wh4, .inl (cI, 60, .inl f4))] (gT cI cZ cL)) (va_Qi (fun (r : Int32) (_ : Unit) => r = gWorth (f2 k) (f1 k) (f4 k) (f3 k)) (fun _ _ => True) gN) 0 0 gN := by
  refine Met.ofW (cc := cX4_worth) (maxL := 4) (ret := (some .int)) (by decide) rfl ?_
  intro p e s m args below meth c s₁ B hml hv
  obtain ⟨rfl, hP, hK⟩ := hv
  have hx := B.exec
  have hb := B.bytes
  have hr := B.returns
  have hts := atoms_spec (ws := wsX4_worth) B.pre
  have hown : s.vm.findClass RX4 = some m.cls := findClass_of_methodNamed B.named
  have hlocks := B.notSynchronized
  have hS : va_S gN s.heap s.heap [] := va_S.rf
  have hP : va_P D vwCl [(wh, .inr (4, [.ref wh0, .ref wh1, .ref wh2, .ref wh3, .ref wh4, .ref wh5, .int (nI nw)])), (wh1, .inl (cI, 60, .inl f1)), (wh2, .inl (cI, 60, .inl f2)), (wh3, .inl (cZ, 60, .inl f3)), (wh4, .inl (cI, 60, .inl f4))] s.heap := hP
  have hl := lv_entry ([.ref wh, .int (nI k)]) (n := 4) (Nat.le_of_ble_eq_true rfl)
  rw [lg_entry_eq]
  generalize (lg_sl ([.ref wh, .int (nI k)]) ++ List.replicate (4 - (lg_sl ([.ref wh, .int (nI k)])).length) Slot.unset).toArray = ls at hl ⊢
  have hl : lv_has ls 4 [(0, .ref wh), (1, .int (nI k))] := hl
  refine lv_aload_n hx hb dX4_worth_0 rfl (lv_at hl 0 rfl) ?_
  refine va_get (D := D) (ci := 4) (v := .ref wh4) (C := RX4) (T := TX4) (N := 7) hx hb hts wc_X4_worth_X4 hown hK hP 0 rfl rfl 4 (by decide) (hts _ wd_X4_worth_1) (fun _ h9 => h9) rfl dX4_worth_1 ?_
  refine lv_iload_n hx hb dX4_worth_4 rfl (lv_at hl 1 rfl) ?_
  refine gw_iald hx hb hK hP 4 0 (k := k) rfl rfl (by omega) (by decide) dX4_worth_5 ?_
  refine lv_iconst (v := 4) hx hb dX4_worth_6 (by decide) ?_
  refine lv_icmp_ne (tgt := 12) hx hb dX4_worth_7 (by decide) (fun h1 => ?_) (fun h1 => ?_)
  · skip
    refine lv_aload_n hx hb dX4_worth_12 rfl (lv_at hl 0 rfl) ?_
    refine va_get (D := D) (ci := 4) (v := .ref wh2) (C := RX4) (T := TX4) (N := 7) hx hb hts wc_X4_worth_X4 hown hK hP 0 rfl rfl 2 (by decide) (hts _ wd_X4_worth_2) (fun _ h9 => h9) rfl dX4_worth_13 ?_
    refine lv_iload_n hx hb dX4_worth_16 rfl (lv_at hl 1 rfl) ?_
    refine gw_iald hx hb hK hP 2 0 (k := k) rfl rfl (by omega) (by decide) dX4_worth_17 ?_
    refine lv_bipush (v := 10) hx hb dX4_worth_18 (by decide) ?_
    refine lv_aload_n hx hb dX4_worth_20 rfl (lv_at hl 0 rfl) ?_
    refine va_get (D := D) (ci := 4) (v := .ref wh1) (C := RX4) (T := TX4) (N := 7) hx hb hts wc_X4_worth_X4 hown hK hP 0 rfl rfl 1 (by decide) (hts _ wd_X4_worth_3) (fun _ h9 => h9) rfl dX4_worth_21 ?_
    refine lv_iload_n hx hb dX4_worth_24 rfl (lv_at hl 1 rfl) ?_
    refine gw_iald hx hb hK hP 1 0 (k := k) rfl rfl (by omega) (by decide) dX4_worth_25 ?_
    refine lv_isub hx hb dX4_worth_26 ?_
    refine lv_imul hx hb dX4_worth_27 ?_
    refine lv_istore_n (lv' := [(2, .int ((f2 k) * (10 - (f1 k)))), (0, .ref wh), (1, .int (nI k))]) hx hb dX4_worth_28 rfl hl (by decide) rfl (fun ls hl => ?_)
    refine lv_aload_n hx hb dX4_worth_29 rfl (lv_at hl 1 rfl) ?_
    refine va_get (D := D) (ci := 4) (v := .ref wh4) (C := RX4) (T := TX4) (N := 7) hx hb hts wc_X4_worth_X4 hown hK hP 0 rfl rfl 4 (by decide) (hts _ wd_X4_worth_1) (fun _ h9 => h9) rfl dX4_worth_30 ?_
    refine lv_iload_n hx hb dX4_worth_33 rfl (lv_at hl 2 rfl) ?_
    refine gw_iald hx hb hK hP 4 0 (k := k) rfl rfl (by omega) (by decide) dX4_worth_34 ?_
    refine lv_if_ne (tgt := 42) hx hb dX4_worth_35 (by decide) (fun h2 => ?_) (fun h2 => ?_)
    · skip
      refine lv_iconst (v := 3) hx hb dX4_worth_42 (by decide) ?_
      refine lv_iload_n hx hb dX4_worth_43 rfl (lv_at hl 0 rfl) ?_
      refine lv_imul hx hb dX4_worth_44 ?_
      refine lv_istore_n (lv' := [(3, .int (3 * ((f2 k) * (10 - (f1 k))))), (2, .int ((f2 k) * (10 - (f1 k)))), (0, .ref wh), (1, .int (nI k))]) hx hb dX4_worth_45 rfl hl (by decide) rfl (fun ls hl => ?_)
      refine lv_aload_n hx hb dX4_worth_46 rfl (lv_at hl 2 rfl) ?_
      refine va_get (D := D) (ci := 4) (v := .ref wh3) (C := RX4) (T := TX4) (N := 7) hx hb hts wc_X4_worth_X4 hown hK hP 0 rfl rfl 3 (by decide) (hts _ wd_X4_worth_4) (fun _ h9 => h9) rfl dX4_worth_47 ?_
      refine lv_iload_n hx hb dX4_worth_50 rfl (lv_at hl 3 rfl) ?_
      refine gw_zald hx hb hK hP 3 1 (k := k) rfl rfl (by omega) (by decide) dX4_worth_51 ?_
      refine lv_if_eq (tgt := 61) hx hb dX4_worth_52 (by decide) (fun h3 => ?_) (fun h3 => ?_)
      · skip
        refine lv_iload_n hx hb dX4_worth_61 rfl (lv_at hl 0 rfl) ?_
        exact W.iret (v := 3 * ((f2 k) * (10 - (f1 k)))) hx hb hr (fun t ht hW => ⟨⟨_, (), rfl, (by simp [gWorth, h1, h2, h3]), trivial⟩, hS.F ht⟩) hS.2.2 dX4_worth_62
      · skip
        refine lv_iload_n hx hb dX4_worth_55 rfl (lv_at hl 0 rfl) ?_
        refine lv_iconst (v := 5) hx hb dX4_worth_56 (by decide) ?_
        refine lv_idiv hx hb dX4_worth_57 (by decide) ?_
        refine lv_goto (tgt := 62) hx hb dX4_worth_58 (by decide) ?_
        exact W.iret (v := (3 * ((f2 k) * (10 - (f1 k)))) / 5) hx hb hr (fun t ht hW => ⟨⟨_, (), rfl, (by simp [gWorth, h1, h2, h3]), trivial⟩, hS.F ht⟩) hS.2.2 dX4_worth_62
    · skip
      refine lv_iload_n hx hb dX4_worth_38 rfl (lv_at hl 0 rfl) ?_
      refine lv_goto (tgt := 45) hx hb dX4_worth_39 (by decide) ?_
      refine lv_istore_n (lv' := [(3, .int ((f2 k) * (10 - (f1 k)))), (2, .int ((f2 k) * (10 - (f1 k)))), (0, .ref wh), (1, .int (nI k))]) hx hb dX4_worth_45 rfl hl (by decide) rfl (fun ls hl => ?_)
      refine lv_aload_n hx hb dX4_worth_46 rfl (lv_at hl 2 rfl) ?_
      refine va_get (D := D) (ci := 4) (v := .ref wh3) (C := RX4) (T := TX4) (N := 7) hx hb hts wc_X4_worth_X4 hown hK hP 0 rfl rfl 3 (by decide) (hts _ wd_X4_worth_4) (fun _ h9 => h9) rfl dX4_worth_47 ?_
      refine lv_iload_n hx hb dX4_worth_50 rfl (lv_at hl 3 rfl) ?_
      refine gw_zald hx hb hK hP 3 1 (k := k) rfl rfl (by omega) (by decide) dX4_worth_51 ?_
      refine lv_if_eq (tgt := 61) hx hb dX4_worth_52 (by decide) (fun h3 => ?_) (fun h3 => ?_)
      · skip
        refine lv_iload_n hx hb dX4_worth_61 rfl (lv_at hl 0 rfl) ?_
        exact W.iret (v := (f2 k) * (10 - (f1 k))) hx hb hr (fun t ht hW => ⟨⟨_, (), rfl, (by simp [gWorth, h1, h2, h3]), trivial⟩, hS.F ht⟩) hS.2.2 dX4_worth_62
      · skip
        refine lv_iload_n hx hb dX4_worth_55 rfl (lv_at hl 0 rfl) ?_
        refine lv_iconst (v := 5) hx hb dX4_worth_56 (by decide) ?_
        refine lv_idiv hx hb dX4_worth_57 (by decide) ?_
        refine lv_goto (tgt := 62) hx hb dX4_worth_58 (by decide) ?_
        exact W.iret (v := ((f2 k) * (10 - (f1 k))) / 5) hx hb hr (fun t ht hW => ⟨⟨_, (), rfl, (by simp [gWorth, h1, h2, h3]), trivial⟩, hS.F ht⟩) hS.2.2 dX4_worth_62
  · skip
    refine lv_iconst (v := 0) hx hb dX4_worth_10 (by decide) ?_
    exact W.iret (v := 0) hx hb hr (fun t ht hW => ⟨⟨_, (), rfl, (by simp [gWorth, h1]), trivial⟩, hS.F ht⟩) hS.2.2 dX4_worth_11

theorem wc_X4_numberOn_X4 : ∀ w ∈ u_ws RX4 TX4 7, w ∈ wsX4_numberOn := by decide +kernel
theorem wd_X4_numberOn_1 : (.fieldLink RX4 31 "GritWheels$Wheels" "number" "I" : Cond) ∈ wsX4_numberOn := by decide +kernel
theorem wd_X4_numberOn_2 : (.fieldLink RX4 28 "GritWheels$Wheels" "carrier" "[I" : Cond) ∈ wsX4_numberOn := by decide +kernel
set_option maxHeartbeats 4000000 in
set_option maxRecDepth 100000 in
theorem met_X4_numberOn (l : Launch) (D : va_G) (cI cZ cL : ClassId) (wh : Nat) (wh0 : Nat) (wh1 : Nat) (wh2 : Nat) (wh3 : Nat) (wh4 : Nat) (wh5 : Nat) (nw : Nat) (f5 : Nat → Int32) (x : Int32) (hnw : nw ≤ 60) : Met l yX4_numberOn wsX4_numberOn ({ frames := 0, cells := 0, slots := 0, locals := 0 }) (gPr [.ref wh, .int x] D [(wh, .inr (4, [.ref wh0, .ref wh1, .ref wh2, .ref wh3, .ref wh4, .ref wh5, .int (nI nw)])), (wh5, .inl (cI, 60, .inl f5))] (gT cI cZ cL)) (va_Qi (fun (r : Int32) (_ : Unit) => r = gS (fun j => if f5 j = x then 1 else 0) nw 0 0) (fun _ _ => True) gN) 0 0 gN := by
  refine Met.ofW (cc := cX4_numberOn) (maxL := 4) (ret := (some .int)) (by decide) rfl ?_
  intro p e s m args below meth c s₁ B hml hv
  obtain ⟨rfl, hP, hK⟩ := hv
  have hx := B.exec
  have hb := B.bytes
  have hr := B.returns
  have hts := atoms_spec (ws := wsX4_numberOn) B.pre
  have hown : s.vm.findClass RX4 = some m.cls := findClass_of_methodNamed B.named
  have hlocks := B.notSynchronized
  have hS : va_S gN s.heap s.heap [] := va_S.rf
  have hP : va_P D vwCl [(wh, .inr (4, [.ref wh0, .ref wh1, .ref wh2, .ref wh3, .ref wh4, .ref wh5, .int (nI nw)])), (wh5, .inl (cI, 60, .inl f5))] s.heap := hP
  have hl := lv_entry ([.ref wh, .int x]) (n := 4) (Nat.le_of_ble_eq_true rfl)
  rw [lg_entry_eq]
  generalize (lg_sl ([.ref wh, .int x]) ++ List.replicate (4 - (lg_sl ([.ref wh, .int x])).length) Slot.unset).toArray = ls at hl ⊢
  have hl : lv_has ls 4 [(0, .ref wh), (1, .int x)] := hl
  refine lv_iconst (v := 0) hx hb dX4_numberOn_0 (by decide) ?_
  refine lv_istore_n (lv' := [(2, .int 0), (0, .ref wh), (1, .int x)]) hx hb dX4_numberOn_1 rfl hl (by decide) rfl (fun ls hl => ?_)
  refine lv_iconst (v := 0) hx hb dX4_numberOn_2 (by decide) ?_
  refine lv_istore_n (lv' := [(3, .int 0), (2, .int 0), (0, .ref wh), (1, .int x)]) hx hb dX4_numberOn_3 rfl hl (by decide) rfl (fun ls hl => ?_)
  refine gw_loop (fun (zz : Nat × Nat × Int32) H locs ls => match zz with | (k, i, acc) => va_P D vwCl [(wh, .inr (4, [.ref wh0, .ref wh1, .ref wh2, .ref wh3, .ref wh4, .ref wh5, .int (nI nw)])), (wh5, .inl (cI, 60, .inl f5))] H ∧ va_S gN s.heap H locs ∧ lv_has ls 4 [(3, .int (nI i)), (2, .int acc), (0, .ref wh), (1, .int x)] ∧ (i + k = nw) ∧ (gS (fun j => if f5 j = x then 1 else 0) k i acc = gS (fun j => if f5 j = x then 1 else 0) nw 0 0)) (fun (zz : Nat × Nat × Int32) => match zz with | (k, i, acc) => k) (nw, 0, 0) ⟨hP, hS, lv_sub hl [0, 1, 2, 3] rfl, (by omega), rfl⟩ ?_
  rintro ⟨k, i, acc⟩ ih H locs ls ⟨hP, hS, hl, hin, hF⟩
  have hP : va_P D vwCl [(wh, .inr (4, [.ref wh0, .ref wh1, .ref wh2, .ref wh3, .ref wh4, .ref wh5, .int (nI nw)])), (wh5, .inl (cI, 60, .inl f5))] H := hP
  have hl : lv_has ls 4 [(3, .int (nI i)), (2, .int acc), (0, .ref wh), (1, .int x)] := hl
  have hin : i + k = nw := hin
  have hF : gS (fun j => if f5 j = x then 1 else 0) k i acc = gS (fun j => if f5 j = x then 1 else 0) nw 0 0 := hF
  have ih4 := ih
  refine lv_iload_n hx hb dX4_numberOn_4 rfl (lv_at hl 0 rfl) ?_
  refine lv_aload_n hx hb dX4_numberOn_5 rfl (lv_at hl 2 rfl) ?_
  refine va_get (D := D) (ci := 4) (v := .int (nI nw)) (C := RX4) (T := TX4) (N := 7) hx hb hts wc_X4_numberOn_X4 hown hK hP 0 rfl rfl 6 (by decide) (hts _ wd_X4_numberOn_1) (fun _ h9 => h9) rfl dX4_numberOn_6 ?_
  refine lv_icmp_ge (tgt := 31) hx hb dX4_numberOn_9 (by decide) (fun c => ?_) (fun c => ?_)
  · skip
    have hk0 : k = 0 := by have := gw_ge (by omega) (by omega) c; omega
    subst hk0
    refine lv_iload_n hx hb dX4_numberOn_31 rfl (lv_at hl 1 rfl) ?_
    exact W.iret (v := acc) hx hb hr (fun t ht hW => ⟨⟨_, (), rfl, hF, trivial⟩, hS.F ht⟩) hS.2.2 dX4_numberOn_32
  · skip
    have hi : i < nw := gw_lt (by omega) (by omega) c
    obtain ⟨k, rfl⟩ : ∃ k2, k = k2 + 1 := ⟨k - 1, by omega⟩
    refine lv_aload_n hx hb dX4_numberOn_12 rfl (lv_at hl 2 rfl) ?_
    refine va_get (D := D) (ci := 4) (v := .ref wh5) (C := RX4) (T := TX4) (N := 7) hx hb hts wc_X4_numberOn_X4 hown hK hP 0 rfl rfl 5 (by decide) (hts _ wd_X4_numberOn_2) (fun _ h9 => h9) rfl dX4_numberOn_13 ?_
    refine lv_iload_n hx hb dX4_numberOn_16 rfl (lv_at hl 0 rfl) ?_
    refine gw_iald hx hb hK hP 1 0 (k := i) rfl rfl (by omega) (by decide) dX4_numberOn_17 ?_
    refine lv_iload_n hx hb dX4_numberOn_18 rfl (lv_at hl 3 rfl) ?_
    refine lv_icmp_ne (tgt := 25) hx hb dX4_numberOn_19 (by decide) (fun c2 => ?_) (fun c2 => ?_)
    · skip
      refine lv_iinc (v := nI (i + 1)) (lv' := [(3, .int (nI (i + 1))), (2, .int acc), (0, .ref wh), (1, .int x)]) hx hb dX4_numberOn_25 hl (k := 0) rfl (nI_add i 1) (by decide) rfl (fun ls hl => ?_)
      refine lv_goto (tgt := 4) hx hb dX4_numberOn_28 (by decide) ?_
      exact ih4 (k, i + 1, acc) H locs ls (by dsimp only; omega) ⟨hP, hS, lv_sub hl [0, 1, 2, 3] rfl, (by omega), (by first | exact hF | (rw [← hF]; simp [gS, *]))⟩
    · skip
      refine lv_iinc (v := acc + 1) (lv' := [(2, .int (acc + 1)), (3, .int (nI i)), (0, .ref wh), (1, .int x)]) hx hb dX4_numberOn_22 hl (k := 1) rfl rfl (by decide) rfl (fun ls hl => ?_)
      refine lv_iinc (v := nI (i + 1)) (lv' := [(3, .int (nI (i + 1))), (2, .int (acc + 1)), (0, .ref wh), (1, .int x)]) hx hb dX4_numberOn_25 hl (k := 1) rfl (nI_add i 1) (by decide) rfl (fun ls hl => ?_)
      refine lv_goto (tgt := 4) hx hb dX4_numberOn_28 (by decide) ?_
      exact ih4 (k, i + 1, acc + 1) H locs ls (by dsimp only; omega) ⟨hP, hS, lv_sub hl [0, 1, 2, 3] rfl, (by omega), (by first | exact hF | (rw [← hF]; simp [gS, *]))⟩

theorem wc_X4_weightOn_X4 : ∀ w ∈ u_ws RX4 TX4 7, w ∈ wsX4_weightOn := by decide +kernel
theorem wd_X4_weightOn_1 : (.fieldLink RX4 31 "GritWheels$Wheels" "number" "I" : Cond) ∈ wsX4_weightOn := by decide +kernel
theorem wd_X4_weightOn_2 : (.fieldLink RX4 28 "GritWheels$Wheels" "carrier" "[I" : Cond) ∈ wsX4_weightOn := by decide +kernel
set_option maxHeartbeats 4000000 in
set_option maxRecDepth 100000 in
theorem met_X4_weightOn (l : Launch) (D : va_G) (cI cZ cL : ClassId) (wh : Nat) (wh0 : Nat) (wh1 : Nat) (wh2 : Nat) (wh3 : Nat) (wh4 : Nat) (wh5 : Nat) (nw : Nat) (f2 : Nat → Int32) (f5 : Nat → Int32) (x : Int32) (hnw : nw ≤ 60) : Met l yX4_weightOn wsX4_weightOn ({ frames := 1, cells := 0, slots := 0, locals := 21 }) (gPr [.ref wh, .int x] D [(wh, .inr (4, [.ref wh0, .ref wh1, .ref wh2, .ref wh3, .ref wh4, .ref wh5, .int (nI nw)])), (wh2, .inl (cI, 60, .inl f2)), (wh5, .inl (cI, 60, .inl f5))] (gT cI cZ cL)) (va_Qi (fun (r : Int32) (_ : Unit) => r = gS (fun j => if f5 j = x then 2 * f2 j * f2 j else 0) nw 0 0) (fun _ _ => True) gN) 0 0 gN := by
  refine Met.ofW (cc := cX4_weightOn) (maxL := 4) (ret := (some .int)) (by decide) rfl ?_
  intro p e s m args below meth c s₁ B hml hv
  obtain ⟨rfl, hP, hK⟩ := hv
  have hx := B.exec
  have hb := B.bytes
  have hr := B.returns
  have hts := atoms_spec (ws := wsX4_weightOn) B.pre
  have hown : s.vm.findClass RX4 = some m.cls := findClass_of_methodNamed B.named
  have hlocks := B.notSynchronized
  have hS : va_S gN s.heap s.heap [] := va_S.rf
  have hP : va_P D vwCl [(wh, .inr (4, [.ref wh0, .ref wh1, .ref wh2, .ref wh3, .ref wh4, .ref wh5, .int (nI nw)])), (wh2, .inl (cI, 60, .inl f2)), (wh5, .inl (cI, 60, .inl f5))] s.heap := hP
  have hl := lv_entry ([.ref wh, .int x]) (n := 4) (Nat.le_of_ble_eq_true rfl)
  rw [lg_entry_eq]
  generalize (lg_sl ([.ref wh, .int x]) ++ List.replicate (4 - (lg_sl ([.ref wh, .int x])).length) Slot.unset).toArray = ls at hl ⊢
  have hl : lv_has ls 4 [(0, .ref wh), (1, .int x)] := hl
  refine lv_iconst (v := 0) hx hb dX4_weightOn_0 (by decide) ?_
  refine lv_istore_n (lv' := [(2, .int 0), (0, .ref wh), (1, .int x)]) hx hb dX4_weightOn_1 rfl hl (by decide) rfl (fun ls hl => ?_)
  refine lv_iconst (v := 0) hx hb dX4_weightOn_2 (by decide) ?_
  refine lv_istore_n (lv' := [(3, .int 0), (2, .int 0), (0, .ref wh), (1, .int x)]) hx hb dX4_weightOn_3 rfl hl (by decide) rfl (fun ls hl => ?_)
  refine gw_loop (fun (zz : Nat × Nat × Int32) H locs ls => match zz with | (k, i, acc) => va_P D vwCl [(wh, .inr (4, [.ref wh0, .ref wh1, .ref wh2, .ref wh3, .ref wh4, .ref wh5, .int (nI nw)])), (wh2, .inl (cI, 60, .inl f2)), (wh5, .inl (cI, 60, .inl f5))] H ∧ va_S gN s.heap H locs ∧ lv_has ls 4 [(3, .int (nI i)), (2, .int acc), (0, .ref wh), (1, .int x)] ∧ (i + k = nw) ∧ (gS (fun j => if f5 j = x then 2 * f2 j * f2 j else 0) k i acc = gS (fun j => if f5 j = x then 2 * f2 j * f2 j else 0) nw 0 0)) (fun (zz : Nat × Nat × Int32) => match zz with | (k, i, acc) => k) (nw, 0, 0) ⟨hP, hS, lv_sub hl [0, 1, 2, 3] rfl, (by omega), rfl⟩ ?_
  rintro ⟨k, i, acc⟩ ih H locs ls ⟨hP, hS, hl, hin, hF⟩
  have hP : va_P D vwCl [(wh, .inr (4, [.ref wh0, .ref wh1, .ref wh2, .ref wh3, .ref wh4, .ref wh5, .int (nI nw)])), (wh2, .inl (cI, 60, .inl f2)), (wh5, .inl (cI, 60, .inl f5))] H := hP
  have hl : lv_has ls 4 [(3, .int (nI i)), (2, .int acc), (0, .ref wh), (1, .int x)] := hl
  have hin : i + k = nw := hin
  have hF : gS (fun j => if f5 j = x then 2 * f2 j * f2 j else 0) k i acc = gS (fun j => if f5 j = x then 2 * f2 j * f2 j else 0) nw 0 0 := hF
  have ih4 := ih
  refine lv_iload_n hx hb dX4_weightOn_4 rfl (lv_at hl 0 rfl) ?_
  refine lv_aload_n hx hb dX4_weightOn_5 rfl (lv_at hl 2 rfl) ?_
  refine va_get (D := D) (ci := 4) (v := .int (nI nw)) (C := RX4) (T := TX4) (N := 7) hx hb hts wc_X4_weightOn_X4 hown hK hP 0 rfl rfl 6 (by decide) (hts _ wd_X4_weightOn_1) (fun _ h9 => h9) rfl dX4_weightOn_6 ?_
  refine lv_icmp_ge (tgt := 36) hx hb dX4_weightOn_9 (by decide) (fun c => ?_) (fun c => ?_)
  · skip
    have hk0 : k = 0 := by have := gw_ge (by omega) (by omega) c; omega
    subst hk0
    refine lv_iload_n hx hb dX4_weightOn_36 rfl (lv_at hl 1 rfl) ?_
    exact W.iret (v := acc) hx hb hr (fun t ht hW => ⟨⟨_, (), rfl, hF, trivial⟩, hS.F ht⟩) hS.2.2 dX4_weightOn_37
  · skip
    have hi : i < nw := gw_lt (by omega) (by omega) c
    obtain ⟨k, rfl⟩ : ∃ k2, k = k2 + 1 := ⟨k - 1, by omega⟩
    refine lv_aload_n hx hb dX4_weightOn_12 rfl (lv_at hl 2 rfl) ?_
    refine va_get (D := D) (ci := 4) (v := .ref wh5) (C := RX4) (T := TX4) (N := 7) hx hb hts wc_X4_weightOn_X4 hown hK hP 0 rfl rfl 5 (by decide) (hts _ wd_X4_weightOn_2) (fun _ h9 => h9) rfl dX4_weightOn_13 ?_
    refine lv_iload_n hx hb dX4_weightOn_16 rfl (lv_at hl 0 rfl) ?_
    refine gw_iald hx hb hK hP 2 0 (k := i) rfl rfl (by omega) (by decide) dX4_weightOn_17 ?_
    refine lv_iload_n hx hb dX4_weightOn_18 rfl (lv_at hl 3 rfl) ?_
    refine lv_icmp_ne (tgt := 30) hx hb dX4_weightOn_19 (by decide) (fun c2 => ?_) (fun c2 => ?_)
    · skip
      refine lv_iinc (v := nI (i + 1)) (lv' := [(3, .int (nI (i + 1))), (2, .int acc), (0, .ref wh), (1, .int x)]) hx hb dX4_weightOn_30 hl (k := 0) rfl (nI_add i 1) (by decide) rfl (fun ls hl => ?_)
      refine lv_goto (tgt := 4) hx hb dX4_weightOn_33 (by decide) ?_
      exact ih4 (k, i + 1, acc) H locs ls (by dsimp only; omega) ⟨hP, hS, lv_sub hl [0, 1, 2, 3] rfl, (by omega), (by first | exact hF | (rw [← hF]; simp [gS, *]))⟩
    · skip
      refine lv_iload_n hx hb dX4_weightOn_22 rfl (lv_at hl 1 rfl) ?_
      refine lv_aload_n hx hb dX4_weightOn_23 rfl (lv_at hl 2 rfl) ?_
      refine lv_iload_n hx hb dX4_weightOn_24 rfl (lv_at hl 0 rfl) ?_
      refine va_calli (va_runV (As := [.int (nI i)]) (rest := [.int acc]) ⟨hx, hb, hml, hown, hts⟩ (met_X4_weight l D cI cZ cL wh wh0 wh1 wh2 wh3 wh4 wh5 nw f2 i (by first | assumption | omega)) (cwV 1 hts gX4_weightOn_X4_weight rfl rfl rfl (by decide +kernel) ⟨Nat.le_of_ble_eq_true rfl, Nat.le_of_ble_eq_true rfl⟩) (gw_pvr hK hP (wc := [(wh, .inr (4, [.ref wh0, .ref wh1, .ref wh2, .ref wh3, .ref wh4, .ref wh5, .int (nI nw)])), (wh2, .inl (cI, 60, .inl f2))]) [0, 1] rfl 4 rfl rfl rfl) rfl rfl hl.1 rfl (lv_room (Nat.le_of_ble_eq_true rfl)) dX4_weightOn_25 ⟨Nat.zero_le _, Nat.zero_le _⟩) hS (fun _ _ z => z.elim) (fun _ z => z.elim) (fun r_4 _ t H1 locs ht hvm hw hB hz1 hk1 hS => ?_)
      have hP := gw_ro hP hk1
      generalize H1 = H at hP hS ⊢
      subst hw
      refine lv_iadd hx hb dX4_weightOn_28 ?_
      refine lv_istore_n (lv' := [(2, .int (acc + (2 * f2 i * f2 i))), (3, .int (nI i)), (0, .ref wh), (1, .int x)]) hx hb dX4_weightOn_29 rfl hl (by decide) rfl (fun ls hl => ?_)
      refine lv_iinc (v := nI (i + 1)) (lv' := [(3, .int (nI (i + 1))), (2, .int (acc + (2 * f2 i * f2 i))), (0, .ref wh), (1, .int x)]) hx hb dX4_weightOn_30 hl (k := 1) rfl (nI_add i 1) (by decide) rfl (fun ls hl => ?_)
      refine lv_goto (tgt := 4) hx hb dX4_weightOn_33 (by decide) ?_
      exact ih4 (k, i + 1, acc + (2 * f2 i * f2 i)) H locs ls (by dsimp only; omega) ⟨hP, hS, lv_sub hl [0, 1, 2, 3] rfl, (by omega), (by first | exact hF | (rw [← hF]; simp [gS, *]))⟩

theorem wc_X4_numberThatAre_X4 : ∀ w ∈ u_ws RX4 TX4 7, w ∈ wsX4_numberThatAre := by decide +kernel
theorem wd_X4_numberThatAre_1 : (.fieldLink RX4 31 "GritWheels$Wheels" "number" "I" : Cond) ∈ wsX4_numberThatAre := by decide +kernel
theorem wd_X4_numberThatAre_2 : (.fieldLink RX4 25 "GritWheels$Wheels" "state" "[I" : Cond) ∈ wsX4_numberThatAre := by decide +kernel
set_option maxHeartbeats 4000000 in
set_option maxRecDepth 100000 in
theorem met_X4_numberThatAre (l : Launch) (D : va_G) (cI cZ cL : ClassId) (wh : Nat) (wh0 : Nat) (wh1 : Nat) (wh2 : Nat) (wh3 : Nat) (wh4 : Nat) (wh5 : Nat) (nw : Nat) (f4 : Nat → Int32) (x : Int32) (hnw : nw ≤ 60) : Met l yX4_numberThatAre wsX4_numberThatAre ({ frames := 0, cells := 0, slots := 0, locals := 0 }) (gPr [.ref wh, .int x] D [(wh, .inr (4, [.ref wh0, .ref wh1, .ref wh2, .ref wh3, .ref wh4, .ref wh5, .int (nI nw)])), (wh4, .inl (cI, 60, .inl f4))] (gT cI cZ cL)) (va_Qi (fun (r : Int32) (_ : Unit) => r = gS (fun j => if f4 j = x then 1 else 0) nw 0 0) (fun _ _ => True) gN) 0 0 gN := by
  refine Met.ofW (cc := cX4_numberThatAre) (maxL := 4) (ret := (some .int)) (by decide) rfl ?_
  intro p e s m args below meth c s₁ B hml hv
  obtain ⟨rfl, hP, hK⟩ := hv
  have hx := B.exec
  have hb := B.bytes
  have hr := B.returns
  have hts := atoms_spec (ws := wsX4_numberThatAre) B.pre
  have hown : s.vm.findClass RX4 = some m.cls := findClass_of_methodNamed B.named
  have hlocks := B.notSynchronized
  have hS : va_S gN s.heap s.heap [] := va_S.rf
  have hP : va_P D vwCl [(wh, .inr (4, [.ref wh0, .ref wh1, .ref wh2, .ref wh3, .ref wh4, .ref wh5, .int (nI nw)])), (wh4, .inl (cI, 60, .inl f4))] s.heap := hP
  have hl := lv_entry ([.ref wh, .int x]) (n := 4) (Nat.le_of_ble_eq_true rfl)
  rw [lg_entry_eq]
  generalize (lg_sl ([.ref wh, .int x]) ++ List.replicate (4 - (lg_sl ([.ref wh, .int x])).length) Slot.unset).toArray = ls at hl ⊢
  have hl : lv_has ls 4 [(0, .ref wh), (1, .int x)] := hl
  refine lv_iconst (v := 0) hx hb dX4_numberThatAre_0 (by decide) ?_
  refine lv_istore_n (lv' := [(2, .int 0), (0, .ref wh), (1, .int x)]) hx hb dX4_numberThatAre_1 rfl hl (by decide) rfl (fun ls hl => ?_)
  refine lv_iconst (v := 0) hx hb dX4_numberThatAre_2 (by decide) ?_
  refine lv_istore_n (lv' := [(3, .int 0), (2, .int 0), (0, .ref wh), (1, .int x)]) hx hb dX4_numberThatAre_3 rfl hl (by decide) rfl (fun ls hl => ?_)
  refine gw_loop (fun (zz : Nat × Nat × Int32) H locs ls => match zz with | (k, i, acc) => va_P D vwCl [(wh, .inr (4, [.ref wh0, .ref wh1, .ref wh2, .ref wh3, .ref wh4, .ref wh5, .int (nI nw)])), (wh4, .inl (cI, 60, .inl f4))] H ∧ va_S gN s.heap H locs ∧ lv_has ls 4 [(3, .int (nI i)), (2, .int acc), (0, .ref wh), (1, .int x)] ∧ (i + k = nw) ∧ (gS (fun j => if f4 j = x then 1 else 0) k i acc = gS (fun j => if f4 j = x then 1 else 0) nw 0 0)) (fun (zz : Nat × Nat × Int32) => match zz with | (k, i, acc) => k) (nw, 0, 0) ⟨hP, hS, lv_sub hl [0, 1, 2, 3] rfl, (by omega), rfl⟩ ?_
  rintro ⟨k, i, acc⟩ ih H locs ls ⟨hP, hS, hl, hin, hF⟩
  have hP : va_P D vwCl [(wh, .inr (4, [.ref wh0, .ref wh1, .ref wh2, .ref wh3, .ref wh4, .ref wh5, .int (nI nw)])), (wh4, .inl (cI, 60, .inl f4))] H := hP
  have hl : lv_has ls 4 [(3, .int (nI i)), (2, .int acc), (0, .ref wh), (1, .int x)] := hl
  have hin : i + k = nw := hin
  have hF : gS (fun j => if f4 j = x then 1 else 0) k i acc = gS (fun j => if f4 j = x then 1 else 0) nw 0 0 := hF
  have ih4 := ih
  refine lv_iload_n hx hb dX4_numberThatAre_4 rfl (lv_at hl 0 rfl) ?_
  refine lv_aload_n hx hb dX4_numberThatAre_5 rfl (lv_at hl 2 rfl) ?_
  refine va_get (D := D) (ci := 4) (v := .int (nI nw)) (C := RX4) (T := TX4) (N := 7) hx hb hts wc_X4_numberThatAre_X4 hown hK hP 0 rfl rfl 6 (by decide) (hts _ wd_X4_numberThatAre_1) (fun _ h9 => h9) rfl dX4_numberThatAre_6 ?_
  refine lv_icmp_ge (tgt := 31) hx hb dX4_numberThatAre_9 (by decide) (fun c => ?_) (fun c => ?_)
  · skip
    have hk0 : k = 0 := by have := gw_ge (by omega) (by omega) c; omega
    subst hk0
    refine lv_iload_n hx hb dX4_numberThatAre_31 rfl (lv_at hl 1 rfl) ?_
    exact W.iret (v := acc) hx hb hr (fun t ht hW => ⟨⟨_, (), rfl, hF, trivial⟩, hS.F ht⟩) hS.2.2 dX4_numberThatAre_32
  · skip
    have hi : i < nw := gw_lt (by omega) (by omega) c
    obtain ⟨k, rfl⟩ : ∃ k2, k = k2 + 1 := ⟨k - 1, by omega⟩
    refine lv_aload_n hx hb dX4_numberThatAre_12 rfl (lv_at hl 2 rfl) ?_
    refine va_get (D := D) (ci := 4) (v := .ref wh4) (C := RX4) (T := TX4) (N := 7) hx hb hts wc_X4_numberThatAre_X4 hown hK hP 0 rfl rfl 4 (by decide) (hts _ wd_X4_numberThatAre_2) (fun _ h9 => h9) rfl dX4_numberThatAre_13 ?_
    refine lv_iload_n hx hb dX4_numberThatAre_16 rfl (lv_at hl 0 rfl) ?_
    refine gw_iald hx hb hK hP 1 0 (k := i) rfl rfl (by omega) (by decide) dX4_numberThatAre_17 ?_
    refine lv_iload_n hx hb dX4_numberThatAre_18 rfl (lv_at hl 3 rfl) ?_
    refine lv_icmp_ne (tgt := 25) hx hb dX4_numberThatAre_19 (by decide) (fun c2 => ?_) (fun c2 => ?_)
    · skip
      refine lv_iinc (v := nI (i + 1)) (lv' := [(3, .int (nI (i + 1))), (2, .int acc), (0, .ref wh), (1, .int x)]) hx hb dX4_numberThatAre_25 hl (k := 0) rfl (nI_add i 1) (by decide) rfl (fun ls hl => ?_)
      refine lv_goto (tgt := 4) hx hb dX4_numberThatAre_28 (by decide) ?_
      exact ih4 (k, i + 1, acc) H locs ls (by dsimp only; omega) ⟨hP, hS, lv_sub hl [0, 1, 2, 3] rfl, (by omega), (by first | exact hF | (rw [← hF]; simp [gS, *]))⟩
    · skip
      refine lv_iinc (v := acc + 1) (lv' := [(2, .int (acc + 1)), (3, .int (nI i)), (0, .ref wh), (1, .int x)]) hx hb dX4_numberThatAre_22 hl (k := 1) rfl rfl (by decide) rfl (fun ls hl => ?_)
      refine lv_iinc (v := nI (i + 1)) (lv' := [(3, .int (nI (i + 1))), (2, .int (acc + 1)), (0, .ref wh), (1, .int x)]) hx hb dX4_numberThatAre_25 hl (k := 1) rfl (nI_add i 1) (by decide) rfl (fun ls hl => ?_)
      refine lv_goto (tgt := 4) hx hb dX4_numberThatAre_28 (by decide) ?_
      exact ih4 (k, i + 1, acc + 1) H locs ls (by dsimp only; omega) ⟨hP, hS, lv_sub hl [0, 1, 2, 3] rfl, (by omega), (by first | exact hF | (rw [← hF]; simp [gS, *]))⟩

theorem wc_X4_numberSound_X4 : ∀ w ∈ u_ws RX4 TX4 7, w ∈ wsX4_numberSound := by decide +kernel
theorem wd_X4_numberSound_1 : (.fieldLink RX4 31 "GritWheels$Wheels" "number" "I" : Cond) ∈ wsX4_numberSound := by decide +kernel
theorem wd_X4_numberSound_2 : (.fieldLink RX4 21 "GritWheels$Wheels" "cracked" "[Z" : Cond) ∈ wsX4_numberSound := by decide +kernel
set_option maxHeartbeats 4000000 in
set_option maxRecDepth 100000 in
theorem met_X4_numberSound (l : Launch) (D : va_G) (cI cZ cL : ClassId) (wh : Nat) (wh0 : Nat) (wh1 : Nat) (wh2 : Nat) (wh3 : Nat) (wh4 : Nat) (wh5 : Nat) (nw : Nat) (f3 : Nat → Int32) (hnw : nw ≤ 60) : Met l yX4_numberSound wsX4_numberSound ({ frames := 0, cells := 0, slots := 0, locals := 0 }) (gPr [.ref wh] D [(wh, .inr (4, [.ref wh0, .ref wh1, .ref wh2, .ref wh3, .ref wh4, .ref wh5, .int (nI nw)])), (wh3, .inl (cZ, 60, .inl f3))] (gT cI cZ cL)) (va_Qi (fun (r : Int32) (_ : Unit) => r = gS (fun j => if f3 j = 0 then 1 else 0) nw 0 0) (fun _ _ => True) gN) 0 0 gN := by
  refine Met.ofW (cc := cX4_numberSound) (maxL := 3) (ret := (some .int)) (by decide) rfl ?_
  intro p e s m args below meth c s₁ B hml hv
  obtain ⟨rfl, hP, hK⟩ := hv
  have hx := B.exec
  have hb := B.bytes
  have hr := B.returns
  have hts := atoms_spec (ws := wsX4_numberSound) B.pre
  have hown : s.vm.findClass RX4 = some m.cls := findClass_of_methodNamed B.named
  have hlocks := B.notSynchronized
  have hS : va_S gN s.heap s.heap [] := va_S.rf
  have hP : va_P D vwCl [(wh, .inr (4, [.ref wh0, .ref wh1, .ref wh2, .ref wh3, .ref wh4, .ref wh5, .int (nI nw)])), (wh3, .inl (cZ, 60, .inl f3))] s.heap := hP
  have hl := lv_entry ([.ref wh]) (n := 3) (Nat.le_of_ble_eq_true rfl)
  rw [lg_entry_eq]
  generalize (lg_sl ([.ref wh]) ++ List.replicate (3 - (lg_sl ([.ref wh])).length) Slot.unset).toArray = ls at hl ⊢
  have hl : lv_has ls 3 [(0, .ref wh)] := hl
  refine lv_iconst (v := 0) hx hb dX4_numberSound_0 (by decide) ?_
  refine lv_istore_n (lv' := [(1, .int 0), (0, .ref wh)]) hx hb dX4_numberSound_1 rfl hl (by decide) rfl (fun ls hl => ?_)
  refine lv_iconst (v := 0) hx hb dX4_numberSound_2 (by decide) ?_
  refine lv_istore_n (lv' := [(2, .int 0), (1, .int 0), (0, .ref wh)]) hx hb dX4_numberSound_3 rfl hl (by decide) rfl (fun ls hl => ?_)
  refine gw_loop (fun (zz : Nat × Nat × Int32) H locs ls => match zz with | (k, i, acc) => va_P D vwCl [(wh, .inr (4, [.ref wh0, .ref wh1, .ref wh2, .ref wh3, .ref wh4, .ref wh5, .int (nI nw)])), (wh3, .inl (cZ, 60, .inl f3))] H ∧ va_S gN s.heap H locs ∧ lv_has ls 3 [(2, .int (nI i)), (1, .int acc), (0, .ref wh)] ∧ (i + k = nw) ∧ (gS (fun j => if f3 j = 0 then 1 else 0) k i acc = gS (fun j => if f3 j = 0 then 1 else 0) nw 0 0)) (fun (zz : Nat × Nat × Int32) => match zz with | (k, i, acc) => k) (nw, 0, 0) ⟨hP, hS, lv_sub hl [0, 1, 2] rfl, (by omega), rfl⟩ ?_
  rintro ⟨k, i, acc⟩ ih H locs ls ⟨hP, hS, hl, hin, hF⟩
  have hP : va_P D vwCl [(wh, .inr (4, [.ref wh0, .ref wh1, .ref wh2, .ref wh3, .ref wh4, .ref wh5, .int (nI nw)])), (wh3, .inl (cZ, 60, .inl f3))] H := hP
  have hl : lv_has ls 3 [(2, .int (nI i)), (1, .int acc), (0, .ref wh)] := hl
  have hin : i + k = nw := hin
  have hF : gS (fun j => if f3 j = 0 then 1 else 0) k i acc = gS (fun j => if f3 j = 0 then 1 else 0) nw 0 0 := hF
  have ih4 := ih
  refine lv_iload_n hx hb dX4_numberSound_4 rfl (lv_at hl 0 rfl) ?_
  refine lv_aload_n hx hb dX4_numberSound_5 rfl (lv_at hl 2 rfl) ?_
  refine va_get (D := D) (ci := 4) (v := .int (nI nw)) (C := RX4) (T := TX4) (N := 7) hx hb hts wc_X4_numberSound_X4 hown hK hP 0 rfl rfl 6 (by decide) (hts _ wd_X4_numberSound_1) (fun _ h9 => h9) rfl dX4_numberSound_6 ?_
  refine lv_icmp_ge (tgt := 30) hx hb dX4_numberSound_9 (by decide) (fun c => ?_) (fun c => ?_)
  · skip
    have hk0 : k = 0 := by have := gw_ge (by omega) (by omega) c; omega
    subst hk0
    refine lv_iload_n hx hb dX4_numberSound_30 rfl (lv_at hl 1 rfl) ?_
    exact W.iret (v := acc) hx hb hr (fun t ht hW => ⟨⟨_, (), rfl, hF, trivial⟩, hS.F ht⟩) hS.2.2 dX4_numberSound_31
  · skip
    have hi : i < nw := gw_lt (by omega) (by omega) c
    obtain ⟨k, rfl⟩ : ∃ k2, k = k2 + 1 := ⟨k - 1, by omega⟩
    refine lv_aload_n hx hb dX4_numberSound_12 rfl (lv_at hl 2 rfl) ?_
    refine va_get (D := D) (ci := 4) (v := .ref wh3) (C := RX4) (T := TX4) (N := 7) hx hb hts wc_X4_numberSound_X4 hown hK hP 0 rfl rfl 3 (by decide) (hts _ wd_X4_numberSound_2) (fun _ h9 => h9) rfl dX4_numberSound_13 ?_
    refine lv_iload_n hx hb dX4_numberSound_16 rfl (lv_at hl 0 rfl) ?_
    refine gw_zald hx hb hK hP 1 1 (k := i) rfl rfl (by omega) (by decide) dX4_numberSound_17 ?_
    refine lv_if_ne (tgt := 24) hx hb dX4_numberSound_18 (by decide) (fun c2 => ?_) (fun c2 => ?_)
    · skip
      refine lv_iinc (v := nI (i + 1)) (lv' := [(2, .int (nI (i + 1))), (1, .int acc), (0, .ref wh)]) hx hb dX4_numberSound_24 hl (k := 0) rfl (nI_add i 1) (by decide) rfl (fun ls hl => ?_)
      refine lv_goto (tgt := 4) hx hb dX4_numberSound_27 (by decide) ?_
      exact ih4 (k, i + 1, acc) H locs ls (by dsimp only; omega) ⟨hP, hS, lv_sub hl [0, 1, 2] rfl, (by omega), (by first | exact hF | (rw [← hF]; simp [gS, *]))⟩
    · skip
      refine lv_iinc (v := acc + 1) (lv' := [(1, .int (acc + 1)), (2, .int (nI i)), (0, .ref wh)]) hx hb dX4_numberSound_21 hl (k := 1) rfl rfl (by decide) rfl (fun ls hl => ?_)
      refine lv_iinc (v := nI (i + 1)) (lv' := [(2, .int (nI (i + 1))), (1, .int (acc + 1)), (0, .ref wh)]) hx hb dX4_numberSound_24 hl (k := 1) rfl (nI_add i 1) (by decide) rfl (fun ls hl => ?_)
      refine lv_goto (tgt := 4) hx hb dX4_numberSound_27 (by decide) ?_
      exact ih4 (k, i + 1, acc + 1) H locs ls (by dsimp only; omega) ⟨hP, hS, lv_sub hl [0, 1, 2] rfl, (by omega), (by first | exact hF | (rw [← hF]; simp [gS, *]))⟩

theorem wc_X4_numberSoundOf_X4 : ∀ w ∈ u_ws RX4 TX4 7, w ∈ wsX4_numberSoundOf := by decide +kernel
theorem wd_X4_numberSoundOf_1 : (.fieldLink RX4 31 "GritWheels$Wheels" "number" "I" : Cond) ∈ wsX4_numberSoundOf := by decide +kernel
theorem wd_X4_numberSoundOf_2 : (.fieldLink RX4 9 "GritWheels$Wheels" "source" "[I" : Cond) ∈ wsX4_numberSoundOf := by decide +kernel
theorem wd_X4_numberSoundOf_3 : (.fieldLink RX4 21 "GritWheels$Wheels" "cracked" "[Z" : Cond) ∈ wsX4_numberSoundOf := by decide +kernel
set_option maxHeartbeats 4000000 in
set_option maxRecDepth 100000 in
theorem met_X4_numberSoundOf (l : Launch) (D : va_G) (cI cZ cL : ClassId) (wh : Nat) (wh0 : Nat) (wh1 : Nat) (wh2 : Nat) (wh3 : Nat) (wh4 : Nat) (wh5 : Nat) (nw : Nat) (f0 : Nat → Int32) (f3 : Nat → Int32) (x : Int32) (hnw : nw ≤ 60) : Met l yX4_numberSoundOf wsX4_numberSoundOf ({ frames := 0, cells := 0, slots := 0, locals := 0 }) (gPr [.ref wh, .int x] D [(wh, .inr (4, [.ref wh0, .ref wh1, .ref wh2, .ref wh3, .ref wh4, .ref wh5, .int (nI nw)])), (wh0, .inl (cI, 60, .inl f0)), (wh3, .inl (cZ, 60, .inl f3))] (gT cI cZ cL)) (va_Qi (fun (r : Int32) (_ : Unit) => r = gS (fun j => if f0 j = x then (if f3 j = 0 then 1 else 0) else 0) nw 0 0) (fun _ _ => True) gN) 0 0 gN := by
  refine Met.ofW (cc := cX4_numberSoundOf) (maxL := 4) (ret := (some .int)) (by decide) rfl ?_
  intro p e s m args below meth c s₁ B hml hv
  obtain ⟨rfl, hP, hK⟩ := hv
  have hx := B.exec
  have hb := B.bytes
  have hr := B.returns
  have hts := atoms_spec (ws := wsX4_numberSoundOf) B.pre
  have hown : s.vm.findClass RX4 = some m.cls := findClass_of_methodNamed B.named
  have hlocks := B.notSynchronized
  have hS : va_S gN s.heap s.heap [] := va_S.rf
  have hP : va_P D vwCl [(wh, .inr (4, [.ref wh0, .ref wh1, .ref wh2, .ref wh3, .ref wh4, .ref wh5, .int (nI nw)])), (wh0, .inl (cI, 60, .inl f0)), (wh3, .inl (cZ, 60, .inl f3))] s.heap := hP
  have hl := lv_entry ([.ref wh, .int x]) (n := 4) (Nat.le_of_ble_eq_true rfl)
  rw [lg_entry_eq]
  generalize (lg_sl ([.ref wh, .int x]) ++ List.replicate (4 - (lg_sl ([.ref wh, .int x])).length) Slot.unset).toArray = ls at hl ⊢
  have hl : lv_has ls 4 [(0, .ref wh), (1, .int x)] := hl
  refine lv_iconst (v := 0) hx hb dX4_numberSoundOf_0 (by decide) ?_
  refine lv_istore_n (lv' := [(2, .int 0), (0, .ref wh), (1, .int x)]) hx hb dX4_numberSoundOf_1 rfl hl (by decide) rfl (fun ls hl => ?_)
  refine lv_iconst (v := 0) hx hb dX4_numberSoundOf_2 (by decide) ?_
  refine lv_istore_n (lv' := [(3, .int 0), (2, .int 0), (0, .ref wh), (1, .int x)]) hx hb dX4_numberSoundOf_3 rfl hl (by decide) rfl (fun ls hl => ?_)
  refine gw_loop (fun (zz : Nat × Nat × Int32) H locs ls => match zz with | (k, i, acc) => va_P D vwCl [(wh, .inr (4, [.ref wh0, .ref wh1, .ref wh2, .ref wh3, .ref wh4, .ref wh5, .int (nI nw)])), (wh0, .inl (cI, 60, .inl f0)), (wh3, .inl (cZ, 60, .inl f3))] H ∧ va_S gN s.heap H locs ∧ lv_has ls 4 [(3, .int (nI i)), (2, .int acc), (0, .ref wh), (1, .int x)] ∧ (i + k = nw) ∧ (gS (fun j => if f0 j = x then (if f3 j = 0 then 1 else 0) else 0) k i acc = gS (fun j => if f0 j = x then (if f3 j = 0 then 1 else 0) else 0) nw 0 0)) (fun (zz : Nat × Nat × Int32) => match zz with | (k, i, acc) => k) (nw, 0, 0) ⟨hP, hS, lv_sub hl [0, 1, 2, 3] rfl, (by omega), rfl⟩ ?_
  rintro ⟨k, i, acc⟩ ih H locs ls ⟨hP, hS, hl, hin, hF⟩
  have hP : va_P D vwCl [(wh, .inr (4, [.ref wh0, .ref wh1, .ref wh2, .ref wh3, .ref wh4, .ref wh5, .int (nI nw)])), (wh0, .inl (cI, 60, .inl f0)), (wh3, .inl (cZ, 60, .inl f3))] H := hP
  have hl : lv_has ls 4 [(3, .int (nI i)), (2, .int acc), (0, .ref wh), (1, .int x)] := hl
  have hin : i + k = nw := hin
  have hF : gS (fun j => if f0 j = x then (if f3 j = 0 then 1 else 0) else 0) k i acc = gS (fun j => if f0 j = x then (if f3 j = 0 then 1 else 0) else 0) nw 0 0 := hF
  have ih4 := ih
  refine lv_iload_n hx hb dX4_numberSoundOf_4 rfl (lv_at hl 0 rfl) ?_
  refine lv_aload_n hx hb dX4_numberSoundOf_5 rfl (lv_at hl 2 rfl) ?_
  refine va_get (D := D) (ci := 4) (v := .int (nI nw)) (C := RX4) (T := TX4) (N := 7) hx hb hts wc_X4_numberSoundOf_X4 hown hK hP 0 rfl rfl 6 (by decide) (hts _ wd_X4_numberSoundOf_1) (fun _ h9 => h9) rfl dX4_numberSoundOf_6 ?_
  refine lv_icmp_ge (tgt := 40) hx hb dX4_numberSoundOf_9 (by decide) (fun c => ?_) (fun c => ?_)
  · skip
    have hk0 : k = 0 := by have := gw_ge (by omega) (by omega) c; omega
    subst hk0
    refine lv_iload_n hx hb dX4_numberSoundOf_40 rfl (lv_at hl 1 rfl) ?_
    exact W.iret (v := acc) hx hb hr (fun t ht hW => ⟨⟨_, (), rfl, hF, trivial⟩, hS.F ht⟩) hS.2.2 dX4_numberSoundOf_41
  · skip
    have hi : i < nw := gw_lt (by omega) (by omega) c
    obtain ⟨k, rfl⟩ : ∃ k2, k = k2 + 1 := ⟨k - 1, by omega⟩
    refine lv_aload_n hx hb dX4_numberSoundOf_12 rfl (lv_at hl 2 rfl) ?_
    refine va_get (D := D) (ci := 4) (v := .ref wh0) (C := RX4) (T := TX4) (N := 7) hx hb hts wc_X4_numberSoundOf_X4 hown hK hP 0 rfl rfl 0 (by decide) (hts _ wd_X4_numberSoundOf_2) (fun _ h9 => h9) rfl dX4_numberSoundOf_13 ?_
    refine lv_iload_n hx hb dX4_numberSoundOf_16 rfl (lv_at hl 0 rfl) ?_
    refine gw_iald hx hb hK hP 1 0 (k := i) rfl rfl (by omega) (by decide) dX4_numberSoundOf_17 ?_
    refine lv_iload_n hx hb dX4_numberSoundOf_18 rfl (lv_at hl 3 rfl) ?_
    refine lv_icmp_ne (tgt := 34) hx hb dX4_numberSoundOf_19 (by decide) (fun c2 => ?_) (fun c2 => ?_)
    · skip
      refine lv_iinc (v := nI (i + 1)) (lv' := [(3, .int (nI (i + 1))), (2, .int acc), (0, .ref wh), (1, .int x)]) hx hb dX4_numberSoundOf_34 hl (k := 0) rfl (nI_add i 1) (by decide) rfl (fun ls hl => ?_)
      refine lv_goto (tgt := 4) hx hb dX4_numberSoundOf_37 (by decide) ?_
      exact ih4 (k, i + 1, acc) H locs ls (by dsimp only; omega) ⟨hP, hS, lv_sub hl [0, 1, 2, 3] rfl, (by omega), (by first | exact hF | (rw [← hF]; simp [gS, *]))⟩
    · skip
      refine lv_aload_n hx hb dX4_numberSoundOf_22 rfl (lv_at hl 2 rfl) ?_
      refine va_get (D := D) (ci := 4) (v := .ref wh3) (C := RX4) (T := TX4) (N := 7) hx hb hts wc_X4_numberSoundOf_X4 hown hK hP 0 rfl rfl 3 (by decide) (hts _ wd_X4_numberSoundOf_3) (fun _ h9 => h9) rfl dX4_numberSoundOf_23 ?_
      refine lv_iload_n hx hb dX4_numberSoundOf_26 rfl (lv_at hl 0 rfl) ?_
      refine gw_zald hx hb hK hP 2 1 (k := i) rfl rfl (by omega) (by decide) dX4_numberSoundOf_27 ?_
      refine lv_if_ne (tgt := 34) hx hb dX4_numberSoundOf_28 (by decide) (fun c3 => ?_) (fun c3 => ?_)
      · skip
        refine lv_iinc (v := nI (i + 1)) (lv' := [(3, .int (nI (i + 1))), (2, .int acc), (0, .ref wh), (1, .int x)]) hx hb dX4_numberSoundOf_34 hl (k := 0) rfl (nI_add i 1) (by decide) rfl (fun ls hl => ?_)
        refine lv_goto (tgt := 4) hx hb dX4_numberSoundOf_37 (by decide) ?_
        exact ih4 (k, i + 1, acc) H locs ls (by dsimp only; omega) ⟨hP, hS, lv_sub hl [0, 1, 2, 3] rfl, (by omega), (by first | exact hF | (rw [← hF]; simp [gS, *]))⟩
      · skip
        refine lv_iinc (v := acc + 1) (lv' := [(2, .int (acc + 1)), (3, .int (nI i)), (0, .ref wh), (1, .int x)]) hx hb dX4_numberSoundOf_31 hl (k := 1) rfl rfl (by decide) rfl (fun ls hl => ?_)
        refine lv_iinc (v := nI (i + 1)) (lv' := [(3, .int (nI (i + 1))), (2, .int (acc + 1)), (0, .ref wh), (1, .int x)]) hx hb dX4_numberSoundOf_34 hl (k := 1) rfl (nI_add i 1) (by decide) rfl (fun ls hl => ?_)
        refine lv_goto (tgt := 4) hx hb dX4_numberSoundOf_37 (by decide) ?_
        exact ih4 (k, i + 1, acc + 1) H locs ls (by dsimp only; omega) ⟨hP, hS, lv_sub hl [0, 1, 2, 3] rfl, (by omega), (by first | exact hF | (rw [← hF]; simp [gS, *]))⟩
