theorem wd_X5_setFall_f1_0 : (.classLink RX5 30 gE1 : Cond) ∈ wsX5_setFall := by decide +kernel
theorem wd_X5_setFall_f1_1 : (.initialized gE1 : Cond) ∈ wsX5_setFall := by decide +kernel
set_option maxHeartbeats 4000000 in
set_option maxRecDepth 100000 in
theorem met_X5_setFall_f1 (l : Launch) (hfl : l.stackTraces = false) (D : va_G) (cI cZ cL : ClassId) (gx : Nat) (qu : Nat) (qt : Nat) (rf : Nat) (co : Int32) (x : Int32) (y : Int32) (hx1 : ¬ ((0 : Int32) ≤ x ∧ x ≤ 8)) : vx_Met l yX5_setFall wsX5_setFall ({ frames := 6, cells := 1, slots := 6, locals := 90 }) (gPx [.ref gx, .int x, .int y] D [(gx, .inr (5, [.ref qu, .ref qt, .ref rf, .int co]))] (gT cI cZ cL)) (va_Qi (fun (_ : Int32) (_ : Unit) => False) (fun _ _ => True) gN) (vx_X (fun _ : Unit => True) (fun E _ _ => E = gE1) gN) 1 6 gN := by
  refine vx_ofW (cc := cX5_setFall) (maxL := 4) (ret := (some .int)) (by decide +kernel) rfl ?_
  intro p e s m args below meth c s₁ B hml hte hv
  obtain ⟨rfl, hP, hK, hU, hN, hSt, hBd⟩ := hv
  have hx := B.exec
  have hb := B.bytes
  have hr := B.returns
  have hts := atoms_spec (ws := wsX5_setFall) B.pre
  have hown : s.vm.findClass RX5 = some m.cls := findClass_of_methodNamed B.named
  have hlocks := B.notSynchronized
  have hS : va_S gN s.heap s.heap [] := va_S.rf
  have hP : va_P D vwCl [(gx, .inr (5, [.ref qu, .ref qt, .ref rf, .int co]))] s.heap := hP
  have hl := lv_entry ([.ref gx, .int x, .int y]) (n := 4) (Nat.le_of_ble_eq_true rfl)
  rw [lg_entry_eq]
  generalize (lg_sl ([.ref gx, .int x, .int y]) ++ List.replicate (4 - (lg_sl ([.ref gx, .int x, .int y])).length) Slot.unset).toArray = ls at hl ⊢
  have hl : lv_has ls 4 [(0, .ref gx), (1, .int x), (2, .int y)] := hl
  refine lv_iload_n hx hb dX5_setFall_0 rfl (lv_at hl 1 rfl) ?_
  refine lv_iconst (v := 0) hx hb dX5_setFall_1 (by decide) ?_
  refine lv_bipush (v := 8) hx hb dX5_setFall_2 (by decide) ?_
  refine va_calli (va_runS (As := [.int x, .int 0, .int 8]) (rest := []) ⟨hx, hb, hml, hown, hts⟩ (met_X5_isWithin l D cI cZ cL x 0 8) (va_cwS 3 hts gX5_setFall_X5_isWithin rfl rfl rfl (by decide +kernel) ⟨Nat.le_of_ble_eq_true rfl, Nat.le_of_ble_eq_true rfl⟩) (gw_psr hK hP (wc := []) [] rfl) rfl rfl hl.1 rfl (lv_room (Nat.le_of_ble_eq_true rfl)) dX5_setFall_4 ⟨Nat.zero_le _, Nat.zero_le _⟩) hS (fun _ _ z => z.elim) (fun _ z => z.elim) (fun r_2 _ t H1 locs ht hvm hw hB hz1 hk1 hS => ?_)
  have hP := gw_ro hP hk1
  generalize H1 = H at hP hS ⊢
  rcases hw with ⟨rfl, hc⟩ | ⟨rfl, hc⟩
  · skip
    exact absurd hc hx1
  · skip
    refine lv_if_ne (tgt := 20) hx hb dX5_setFall_7 (by decide) (fun c_4 => False.elim (by revert c_4; decide)) (fun _ => ?_)
    obtain ⟨sa, hsa⟩ := hSt (32, "the day is not 0 to 8") (by decide +kernel)
    exact vx_throwS hx hb hfl hown (cls := gE1) (text := "the day is not 0 to 8") (names := gNs) (A := gN) (by decide +kernel) (by decide +kernel) (hts _ wd_X5_setFall_f1_0) (hts _ wd_X5_setFall_f1_1) hsa (gw_hat (fun w h => hts w (List.mem_cons_of_mem _ (List.mem_append_left _ (List.mem_append_right _ h)))) gBad_1 hBd) gOt_1 hU hN hS (by rw [hml]; exact hl.1) dX5_setFall_10 dX5_setFall_13 dX5_setFall_14 dX5_setFall_16 dX5_setFall_19 (fun x h => (hte x h).elim) (by decide) (by decide) (by decide) (by decide) hlocks (fun t hvm hz hq => ⟨(), trivial, rfl, gw_xF hS hz hq⟩) hS.2.2 (by decide) (by decide)

theorem wd_X5_setFall_f2_0 : (.classLink RX5 37 gE2 : Cond) ∈ wsX5_setFall := by decide +kernel
theorem wd_X5_setFall_f2_1 : (.initialized gE2 : Cond) ∈ wsX5_setFall := by decide +kernel
set_option maxHeartbeats 4000000 in
set_option maxRecDepth 100000 in
theorem met_X5_setFall_f2 (l : Launch) (hfl : l.stackTraces = false) (D : va_G) (cI cZ cL : ClassId) (gx : Nat) (qu : Nat) (qt : Nat) (rf : Nat) (co : Int32) (d : Nat) (y : Int32) (hd9 : d < 9) (hy : ¬ ((0 : Int32) ≤ y ∧ y ≤ 9)) : vx_Met l yX5_setFall wsX5_setFall ({ frames := 6, cells := 1, slots := 6, locals := 90 }) (gPx [.ref gx, .int (nI d), .int y] D [(gx, .inr (5, [.ref qu, .ref qt, .ref rf, .int co]))] (gT cI cZ cL)) (va_Qi (fun (_ : Int32) (_ : Unit) => False) (fun _ _ => True) gN) (vx_X (fun _ : Unit => True) (fun E _ _ => E = gE2) gN) 1 6 gN := by
  refine vx_ofW (cc := cX5_setFall) (maxL := 4) (ret := (some .int)) (by decide +kernel) rfl ?_
  intro p e s m args below meth c s₁ B hml hte hv
  obtain ⟨rfl, hP, hK, hU, hN, hSt, hBd⟩ := hv
  have hx := B.exec
  have hb := B.bytes
  have hr := B.returns
  have hts := atoms_spec (ws := wsX5_setFall) B.pre
  have hown : s.vm.findClass RX5 = some m.cls := findClass_of_methodNamed B.named
  have hlocks := B.notSynchronized
  have hS : va_S gN s.heap s.heap [] := va_S.rf
  have hP : va_P D vwCl [(gx, .inr (5, [.ref qu, .ref qt, .ref rf, .int co]))] s.heap := hP
  have hl := lv_entry ([.ref gx, .int (nI d), .int y]) (n := 4) (Nat.le_of_ble_eq_true rfl)
  rw [lg_entry_eq]
  generalize (lg_sl ([.ref gx, .int (nI d), .int y]) ++ List.replicate (4 - (lg_sl ([.ref gx, .int (nI d), .int y])).length) Slot.unset).toArray = ls at hl ⊢
  have hl : lv_has ls 4 [(0, .ref gx), (1, .int (nI d)), (2, .int y)] := hl
  refine lv_iload_n hx hb dX5_setFall_0 rfl (lv_at hl 1 rfl) ?_
  refine lv_iconst (v := 0) hx hb dX5_setFall_1 (by decide) ?_
  refine lv_bipush (v := 8) hx hb dX5_setFall_2 (by decide) ?_
  refine va_calli (va_runS (As := [.int (nI d), .int 0, .int 8]) (rest := []) ⟨hx, hb, hml, hown, hts⟩ (met_X5_isWithin l D cI cZ cL (nI d) 0 8) (va_cwS 3 hts gX5_setFall_X5_isWithin rfl rfl rfl (by decide +kernel) ⟨Nat.le_of_ble_eq_true rfl, Nat.le_of_ble_eq_true rfl⟩) (gw_psr hK hP (wc := []) [] rfl) rfl rfl hl.1 rfl (lv_room (Nat.le_of_ble_eq_true rfl)) dX5_setFall_4 ⟨Nat.zero_le _, Nat.zero_le _⟩) hS (fun _ _ z => z.elim) (fun _ z => z.elim) (fun r_2 _ t H1 locs ht hvm hw hB hz1 hk1 hS => ?_)
  have hP := gw_ro hP hk1
  generalize H1 = H at hP hS ⊢
  rcases hw with ⟨rfl, hc⟩ | ⟨rfl, hc⟩
  · skip
    refine lv_if_ne (tgt := 20) hx hb dX5_setFall_7 (by decide) (fun _ => ?_) (fun c_4 => False.elim (by revert c_4; decide))
    refine lv_iload_n hx hb dX5_setFall_20 rfl (lv_at hl 2 rfl) ?_
    refine lv_iconst (v := 0) hx hb dX5_setFall_21 (by decide) ?_
    refine lv_bipush (v := 9) hx hb dX5_setFall_22 (by decide) ?_
    refine va_calli (va_runS (As := [.int y, .int 0, .int 9]) (rest := []) ⟨hx, hb, hml, hown, hts⟩ (met_X5_isWithin l D cI cZ cL y 0 9) (va_cwS 3 hts gX5_setFall_X5_isWithin rfl rfl rfl (by decide +kernel) ⟨Nat.le_of_ble_eq_true rfl, Nat.le_of_ble_eq_true rfl⟩) (gw_psr hK hP (wc := []) [] rfl) rfl rfl hl.1 rfl (lv_room (Nat.le_of_ble_eq_true rfl)) dX5_setFall_24 ⟨Nat.zero_le _, Nat.zero_le _⟩) hS (fun _ _ z => z.elim) (fun _ z => z.elim) (fun r_6 _ t H1 locs ht hvm hw hB hz1 hk1 hS => ?_)
    have hP := gw_ro hP hk1
    generalize H1 = H at hP hS ⊢
    rcases hw with ⟨rfl, hc⟩ | ⟨rfl, hc⟩
    · skip
      exact absurd hc hy
    · skip
      refine lv_if_ne (tgt := 40) hx hb dX5_setFall_27 (by decide) (fun c_8 => False.elim (by revert c_8; decide)) (fun _ => ?_)
      obtain ⟨sa, hsa⟩ := hSt (39, "the water is not 0 to 9") (by decide +kernel)
      exact vx_throwS hx hb hfl hown (cls := gE2) (text := "the water is not 0 to 9") (names := gNs) (A := gN) (by decide +kernel) (by decide +kernel) (hts _ wd_X5_setFall_f2_0) (hts _ wd_X5_setFall_f2_1) hsa (gw_hat (fun w h => hts w (List.mem_cons_of_mem _ (List.mem_append_right _ h))) gBad_2 hBd) gOt_2 hU hN hS (by rw [hml]; exact hl.1) dX5_setFall_30 dX5_setFall_33 dX5_setFall_34 dX5_setFall_36 dX5_setFall_39 (fun x h => (hte x h).elim) (by decide) (by decide) (by decide) (by decide) hlocks (fun t hvm hz hq => ⟨(), trivial, rfl, gw_xF hS hz hq⟩) hS.2.2 (by decide) (by decide)
  · skip
    exact absurd (gw_in (n := 8) (by omega) (by decide)) hc

theorem wd_X5_open_f1_0 : (.classLink RX5 37 gE2 : Cond) ∈ wsX5_open := by decide +kernel
theorem wd_X5_open_f1_1 : (.initialized gE2 : Cond) ∈ wsX5_open := by decide +kernel
set_option maxHeartbeats 4000000 in
set_option maxRecDepth 100000 in
theorem met_X5_open_f1 (l : Launch) (hfl : l.stackTraces = false) (D : va_G) (cI cZ cL : ClassId) (gx : Nat) (qu : Nat) (qt : Nat) (rf : Nat) (co : Int32) (y1 : Int32) (y2 : Int32) (y3 : Int32) (hy : ¬ ((1 ≤ y1 ∧ y1 ≤ 9) ∧ (0 ≤ y2 ∧ y2 ≤ 9) ∧ (0 ≤ y3 ∧ y3 ≤ 200))) : vx_Met l yX5_open wsX5_open ({ frames := 6, cells := 1, slots := 6, locals := 90 }) (gPx [.ref gx, .int y1, .int y2, .int y3] D [(gx, .inr (5, [.ref qu, .ref qt, .ref rf, .int co]))] (gT cI cZ cL)) (va_Qi (fun (_ : Int32) (_ : Unit) => False) (fun _ _ => True) gN) (vx_X (fun _ : Unit => True) (fun E _ _ => E = gE2) gN) 1 6 gN := by
  refine vx_ofW (cc := cX5_open) (maxL := 4) (ret := (some .int)) (by decide +kernel) rfl ?_
  intro p e s m args below meth c s₁ B hml hte hv
  obtain ⟨rfl, hP, hK, hU, hN, hSt, hBd⟩ := hv
  have hx := B.exec
  have hb := B.bytes
  have hr := B.returns
  have hts := atoms_spec (ws := wsX5_open) B.pre
  have hown : s.vm.findClass RX5 = some m.cls := findClass_of_methodNamed B.named
  have hlocks := B.notSynchronized
  have hS : va_S gN s.heap s.heap [] := va_S.rf
  have hP : va_P D vwCl [(gx, .inr (5, [.ref qu, .ref qt, .ref rf, .int co]))] s.heap := hP
  have hl := lv_entry ([.ref gx, .int y1, .int y2, .int y3]) (n := 4) (Nat.le_of_ble_eq_true rfl)
  rw [lg_entry_eq]
  generalize (lg_sl ([.ref gx, .int y1, .int y2, .int y3]) ++ List.replicate (4 - (lg_sl ([.ref gx, .int y1, .int y2, .int y3])).length) Slot.unset).toArray = ls at hl ⊢
  have hl : lv_has ls 4 [(0, .ref gx), (1, .int y1), (2, .int y2), (3, .int y3)] := hl
  refine lv_iload_n hx hb dX5_open_0 rfl (lv_at hl 1 rfl) ?_
  refine lv_iconst (v := 1) hx hb dX5_open_1 (by decide) ?_
  refine lv_bipush (v := 9) hx hb dX5_open_2 (by decide) ?_
  refine va_calli (va_runS (As := [.int y1, .int 1, .int 9]) (rest := []) ⟨hx, hb, hml, hown, hts⟩ (met_X5_isWithin l D cI cZ cL y1 1 9) (va_cwS 3 hts gX5_open_X5_isWithin rfl rfl rfl (by decide +kernel) ⟨Nat.le_of_ble_eq_true rfl, Nat.le_of_ble_eq_true rfl⟩) (gw_psr hK hP (wc := []) [] rfl) rfl rfl hl.1 rfl (lv_room (Nat.le_of_ble_eq_true rfl)) dX5_open_4 ⟨Nat.zero_le _, Nat.zero_le _⟩) hS (fun _ _ z => z.elim) (fun _ z => z.elim) (fun r_2 _ t H1 locs ht hvm hw hB hz1 hk1 hS => ?_)
  have hP := gw_ro hP hk1
  generalize H1 = H at hP hS ⊢
  rcases hw with ⟨rfl, hc1⟩ | ⟨rfl, hc1⟩
  · skip
    refine lv_if_eq (tgt := 31) hx hb dX5_open_7 (by decide) (fun c_4 => False.elim (by revert c_4; decide)) (fun _ => ?_)
    refine lv_iload_n hx hb dX5_open_10 rfl (lv_at hl 2 rfl) ?_
    refine lv_iconst (v := 0) hx hb dX5_open_11 (by decide) ?_
    refine lv_bipush (v := 9) hx hb dX5_open_12 (by decide) ?_
    refine va_calli (va_runS (As := [.int y2, .int 0, .int 9]) (rest := []) ⟨hx, hb, hml, hown, hts⟩ (met_X5_isWithin l D cI cZ cL y2 0 9) (va_cwS 3 hts gX5_open_X5_isWithin rfl rfl rfl (by decide +kernel) ⟨Nat.le_of_ble_eq_true rfl, Nat.le_of_ble_eq_true rfl⟩) (gw_psr hK hP (wc := []) [] rfl) rfl rfl hl.1 rfl (lv_room (Nat.le_of_ble_eq_true rfl)) dX5_open_14 ⟨Nat.zero_le _, Nat.zero_le _⟩) hS (fun _ _ z => z.elim) (fun _ z => z.elim) (fun r_6 _ t H1 locs ht hvm hw hB hz1 hk1 hS => ?_)
    have hP := gw_ro hP hk1
    generalize H1 = H at hP hS ⊢
    rcases hw with ⟨rfl, hc2⟩ | ⟨rfl, hc2⟩
    · skip
      refine lv_if_eq (tgt := 31) hx hb dX5_open_17 (by decide) (fun c_8 => False.elim (by revert c_8; decide)) (fun _ => ?_)
      refine lv_iload_n hx hb dX5_open_20 rfl (lv_at hl 3 rfl) ?_
      refine lv_iconst (v := 0) hx hb dX5_open_21 (by decide) ?_
      refine lv_sipush (v := 200) hx hb dX5_open_22 (by decide) ?_
      refine va_calli (va_runS (As := [.int y3, .int 0, .int 200]) (rest := []) ⟨hx, hb, hml, hown, hts⟩ (met_X5_isWithin l D cI cZ cL y3 0 200) (va_cwS 3 hts gX5_open_X5_isWithin rfl rfl rfl (by decide +kernel) ⟨Nat.le_of_ble_eq_true rfl, Nat.le_of_ble_eq_true rfl⟩) (gw_psr hK hP (wc := []) [] rfl) rfl rfl hl.1 rfl (lv_room (Nat.le_of_ble_eq_true rfl)) dX5_open_25 ⟨Nat.zero_le _, Nat.zero_le _⟩) hS (fun _ _ z => z.elim) (fun _ z => z.elim) (fun r_10 _ t H1 locs ht hvm hw hB hz1 hk1 hS => ?_)
      have hP := gw_ro hP hk1
      generalize H1 = H at hP hS ⊢
      rcases hw with ⟨rfl, hc3⟩ | ⟨rfl, hc3⟩
      · skip
        exact absurd ⟨hc1, hc2, hc3⟩ hy
      · skip
        refine lv_if_ne (tgt := 41) hx hb dX5_open_28 (by decide) (fun c_12 => False.elim (by revert c_12; decide)) (fun _ => ?_)
        obtain ⟨sa, hsa⟩ := hSt (46, "grit is not 1 to 9, flaw not 0 to 9, or stone not 0 to 200") (by decide +kernel)
        exact vx_throwS hx hb hfl hown (cls := gE2) (text := "grit is not 1 to 9, flaw not 0 to 9, or stone not 0 to 200") (names := gNs) (A := gN) (by decide +kernel) (by decide +kernel) (hts _ wd_X5_open_f1_0) (hts _ wd_X5_open_f1_1) hsa (gw_hat (fun w h => hts w (List.mem_cons_of_mem _ (List.mem_append_left _ (List.mem_append_right _ h)))) gBad_2 hBd) gOt_2 hU hN hS (by rw [hml]; exact hl.1) dX5_open_31 dX5_open_34 dX5_open_35 dX5_open_37 dX5_open_40 (fun x h => (hte x h).elim) (by decide) (by decide) (by decide) (by decide) hlocks (fun t hvm hz hq => ⟨(), trivial, rfl, gw_xF hS hz hq⟩) hS.2.2 (by decide) (by decide)
    · skip
      refine lv_if_eq (tgt := 31) hx hb dX5_open_17 (by decide) (fun _ => ?_) (fun c_13 => False.elim (by revert c_13; decide))
      obtain ⟨sa, hsa⟩ := hSt (46, "grit is not 1 to 9, flaw not 0 to 9, or stone not 0 to 200") (by decide +kernel)
      exact vx_throwS hx hb hfl hown (cls := gE2) (text := "grit is not 1 to 9, flaw not 0 to 9, or stone not 0 to 200") (names := gNs) (A := gN) (by decide +kernel) (by decide +kernel) (hts _ wd_X5_open_f1_0) (hts _ wd_X5_open_f1_1) hsa (gw_hat (fun w h => hts w (List.mem_cons_of_mem _ (List.mem_append_left _ (List.mem_append_right _ h)))) gBad_2 hBd) gOt_2 hU hN hS (by rw [hml]; exact hl.1) dX5_open_31 dX5_open_34 dX5_open_35 dX5_open_37 dX5_open_40 (fun x h => (hte x h).elim) (by decide) (by decide) (by decide) (by decide) hlocks (fun t hvm hz hq => ⟨(), trivial, rfl, gw_xF hS hz hq⟩) hS.2.2 (by decide) (by decide)
  · skip
    refine lv_if_eq (tgt := 31) hx hb dX5_open_7 (by decide) (fun _ => ?_) (fun c_14 => False.elim (by revert c_14; decide))
    obtain ⟨sa, hsa⟩ := hSt (46, "grit is not 1 to 9, flaw not 0 to 9, or stone not 0 to 200") (by decide +kernel)
    exact vx_throwS hx hb hfl hown (cls := gE2) (text := "grit is not 1 to 9, flaw not 0 to 9, or stone not 0 to 200") (names := gNs) (A := gN) (by decide +kernel) (by decide +kernel) (hts _ wd_X5_open_f1_0) (hts _ wd_X5_open_f1_1) hsa (gw_hat (fun w h => hts w (List.mem_cons_of_mem _ (List.mem_append_left _ (List.mem_append_right _ h)))) gBad_2 hBd) gOt_2 hU hN hS (by rw [hml]; exact hl.1) dX5_open_31 dX5_open_34 dX5_open_35 dX5_open_37 dX5_open_40 (fun x h => (hte x h).elim) (by decide) (by decide) (by decide) (by decide) hlocks (fun t hvm hz hq => ⟨(), trivial, rfl, gw_xF hS hz hq⟩) hS.2.2 (by decide) (by decide)

theorem wc_X5_open_f2_X5 : ∀ w ∈ u_ws RX5 TX5 4, w ∈ wsX5_open := by decide +kernel
theorem wd_X5_open_f2_1 : (.fieldLink RX5 10 "GritWheels" "now" "LGritWheels$Quarry;" : Cond) ∈ wsX5_open := by decide +kernel
theorem wc_X5_open_f2_X2 : ∀ w ∈ u_ws RX2 TX2 5, w ∈ wsX5_open := by decide +kernel
theorem wd_X5_open_f2_3 : (.fieldLink RX5 48 "GritWheels$Quarry" "beds" "LGritWheels$Beds;" : Cond) ∈ wsX5_open := by decide +kernel
theorem wc_X5_open_f2_X0 : ∀ w ∈ u_ws RX0 TX0 5, w ∈ wsX5_open := by decide +kernel
theorem wd_X5_open_f2_5 : (.fieldLink RX5 52 "GritWheels$Beds" "number" "I" : Cond) ∈ wsX5_open := by decide +kernel
theorem wd_X5_open_f2_6 : (.classLink RX5 58 gE3 : Cond) ∈ wsX5_open := by decide +kernel
theorem wd_X5_open_f2_7 : (.initialized gE3 : Cond) ∈ wsX5_open := by decide +kernel
set_option maxHeartbeats 4000000 in
set_option maxRecDepth 100000 in
theorem met_X5_open_f2 (l : Launch) (hfl : l.stackTraces = false) (D : va_G) (cI cZ cL : ClassId) (gx : Nat) (qu : Nat) (qt : Nat) (rf : Nat) (qf : Nat) (bd : Nat) (cr : Nat) (wh : Nat) (bd0 : Nat) (bd1 : Nat) (bd2 : Nat) (bd3 : Nat) (co : Int32) (nb : Nat) (day : Nat) (y1 : Int32) (y2 : Int32) (y3 : Int32) (hy1 : 1 ≤ y1 ∧ y1 ≤ 9) (hy2 : 0 ≤ y2 ∧ y2 ≤ 9) (hy3 : 0 ≤ y3 ∧ y3 ≤ 200) (hnb : nb = 5) : vx_Met l yX5_open wsX5_open ({ frames := 6, cells := 1, slots := 6, locals := 90 }) (gPx [.ref gx, .int y1, .int y2, .int y3] D [(gx, .inr (5, [.ref qu, .ref qt, .ref rf, .int co])), (qu, .inr (2, [.ref qf, .ref bd, .ref cr, .ref wh, .int (nI day)])), (bd, .inr (0, [.ref bd0, .ref bd1, .ref bd2, .ref bd3, .int (nI nb)]))] (gT cI cZ cL)) (va_Qi (fun (_ : Int32) (_ : Unit) => False) (fun _ _ => True) gN) (vx_X (fun _ : Unit => True) (fun E _ _ => E = gE3) gN) 1 6 gN := by
  refine vx_ofW (cc := cX5_open) (maxL := 4) (ret := (some .int)) (by decide +kernel) rfl ?_
  intro p e s m args below meth c s₁ B hml hte hv
  obtain ⟨rfl, hP, hK, hU, hN, hSt, hBd⟩ := hv
  have hx := B.exec
  have hb := B.bytes
  have hr := B.returns
  have hts := atoms_spec (ws := wsX5_open) B.pre
  have hown : s.vm.findClass RX5 = some m.cls := findClass_of_methodNamed B.named
  have hlocks := B.notSynchronized
  have hS : va_S gN s.heap s.heap [] := va_S.rf
  have hP : va_P D vwCl [(gx, .inr (5, [.ref qu, .ref qt, .ref rf, .int co])), (qu, .inr (2, [.ref qf, .ref bd, .ref cr, .ref wh, .int (nI day)])), (bd, .inr (0, [.ref bd0, .ref bd1, .ref bd2, .ref bd3, .int (nI nb)]))] s.heap := hP
  have hl := lv_entry ([.ref gx, .int y1, .int y2, .int y3]) (n := 4) (Nat.le_of_ble_eq_true rfl)
  rw [lg_entry_eq]
  generalize (lg_sl ([.ref gx, .int y1, .int y2, .int y3]) ++ List.replicate (4 - (lg_sl ([.ref gx, .int y1, .int y2, .int y3])).length) Slot.unset).toArray = ls at hl ⊢
  have hl : lv_has ls 4 [(0, .ref gx), (1, .int y1), (2, .int y2), (3, .int y3)] := hl
  refine lv_iload_n hx hb dX5_open_0 rfl (lv_at hl 1 rfl) ?_
  refine lv_iconst (v := 1) hx hb dX5_open_1 (by decide) ?_
  refine lv_bipush (v := 9) hx hb dX5_open_2 (by decide) ?_
  refine va_calli (va_runS (As := [.int y1, .int 1, .int 9]) (rest := []) ⟨hx, hb, hml, hown, hts⟩ (met_X5_isWithin l D cI cZ cL y1 1 9) (va_cwS 3 hts gX5_open_X5_isWithin rfl rfl rfl (by decide +kernel) ⟨Nat.le_of_ble_eq_true rfl, Nat.le_of_ble_eq_true rfl⟩) (gw_psr hK hP (wc := []) [] rfl) rfl rfl hl.1 rfl (lv_room (Nat.le_of_ble_eq_true rfl)) dX5_open_4 ⟨Nat.zero_le _, Nat.zero_le _⟩) hS (fun _ _ z => z.elim) (fun _ z => z.elim) (fun r_2 _ t H1 locs ht hvm hw hB hz1 hk1 hS => ?_)
  have hP := gw_ro hP hk1
  generalize H1 = H at hP hS ⊢
  rcases hw with ⟨rfl, hc⟩ | ⟨rfl, hc⟩
  · skip
    refine lv_if_eq (tgt := 31) hx hb dX5_open_7 (by decide) (fun c_4 => False.elim (by revert c_4; decide)) (fun _ => ?_)
    refine lv_iload_n hx hb dX5_open_10 rfl (lv_at hl 2 rfl) ?_
    refine lv_iconst (v := 0) hx hb dX5_open_11 (by decide) ?_
    refine lv_bipush (v := 9) hx hb dX5_open_12 (by decide) ?_
    refine va_calli (va_runS (As := [.int y2, .int 0, .int 9]) (rest := []) ⟨hx, hb, hml, hown, hts⟩ (met_X5_isWithin l D cI cZ cL y2 0 9) (va_cwS 3 hts gX5_open_X5_isWithin rfl rfl rfl (by decide +kernel) ⟨Nat.le_of_ble_eq_true rfl, Nat.le_of_ble_eq_true rfl⟩) (gw_psr hK hP (wc := []) [] rfl) rfl rfl hl.1 rfl (lv_room (Nat.le_of_ble_eq_true rfl)) dX5_open_14 ⟨Nat.zero_le _, Nat.zero_le _⟩) hS (fun _ _ z => z.elim) (fun _ z => z.elim) (fun r_6 _ t H1 locs ht hvm hw hB hz1 hk1 hS => ?_)
    have hP := gw_ro hP hk1
    generalize H1 = H at hP hS ⊢
    rcases hw with ⟨rfl, hc⟩ | ⟨rfl, hc⟩
    · skip
      refine lv_if_eq (tgt := 31) hx hb dX5_open_17 (by decide) (fun c_8 => False.elim (by revert c_8; decide)) (fun _ => ?_)
      refine lv_iload_n hx hb dX5_open_20 rfl (lv_at hl 3 rfl) ?_
      refine lv_iconst (v := 0) hx hb dX5_open_21 (by decide) ?_
      refine lv_sipush (v := 200) hx hb dX5_open_22 (by decide) ?_
      refine va_calli (va_runS (As := [.int y3, .int 0, .int 200]) (rest := []) ⟨hx, hb, hml, hown, hts⟩ (met_X5_isWithin l D cI cZ cL y3 0 200) (va_cwS 3 hts gX5_open_X5_isWithin rfl rfl rfl (by decide +kernel) ⟨Nat.le_of_ble_eq_true rfl, Nat.le_of_ble_eq_true rfl⟩) (gw_psr hK hP (wc := []) [] rfl) rfl rfl hl.1 rfl (lv_room (Nat.le_of_ble_eq_true rfl)) dX5_open_25 ⟨Nat.zero_le _, Nat.zero_le _⟩) hS (fun _ _ z => z.elim) (fun _ z => z.elim) (fun r_10 _ t H1 locs ht hvm hw hB hz1 hk1 hS => ?_)
      have hP := gw_ro hP hk1
      generalize H1 = H at hP hS ⊢
      rcases hw with ⟨rfl, hc⟩ | ⟨rfl, hc⟩
      · skip
        refine lv_if_ne (tgt := 41) hx hb dX5_open_28 (by decide) (fun _ => ?_) (fun c_12 => False.elim (by revert c_12; decide))
        refine lv_aload_n hx hb dX5_open_41 rfl (lv_at hl 0 rfl) ?_
        refine va_get (D := D) (ci := 5) (v := .ref qu) (C := RX5) (T := TX5) (N := 4) hx hb hts wc_X5_open_f2_X5 hown hK hP 0 rfl rfl 0 (by decide) (hts _ wd_X5_open_f2_1) (fun _ h9 => h9) rfl dX5_open_42 ?_
        refine va_get (D := D) (ci := 2) (v := .ref bd) (C := RX2) (T := TX2) (N := 5) hx hb hts wc_X5_open_f2_X2 hown hK hP 1 rfl rfl 1 (by decide) (hts _ wd_X5_open_f2_3) (fun _ h9 => h9) rfl dX5_open_45 ?_
        refine va_get (D := D) (ci := 0) (v := .int (nI nb)) (C := RX0) (T := TX0) (N := 5) hx hb hts wc_X5_open_f2_X0 hown hK hP 2 rfl rfl 4 (by decide) (hts _ wd_X5_open_f2_5) (fun _ h9 => h9) rfl dX5_open_48 ?_
        refine lv_iconst (v := 5) hx hb dX5_open_51 (by decide) ?_
        refine lv_icmp_lt (tgt := 65) hx hb dX5_open_52 (by decide) (fun c_13 => (by first | exact absurd c_13 (show ¬ nI nb < 5 by rw [hnb]; decide) | exact absurd (show ¬ nI nb < 5 by rw [hnb]; decide) c_13)) (fun c_13 => ?_)
        obtain ⟨sa, hsa⟩ := hSt (60, "there are 5 beds") (by decide +kernel)
        exact vx_throwS hx hb hfl hown (cls := gE3) (text := "there are 5 beds") (names := gNs) (A := gN) (by decide +kernel) (by decide +kernel) (hts _ wd_X5_open_f2_6) (hts _ wd_X5_open_f2_7) hsa (gw_hat (fun w h => hts w (List.mem_cons_of_mem _ (List.mem_append_right _ h))) gBad_3 hBd) gOt_3 hU hN hS (by rw [hml]; exact hl.1) dX5_open_55 dX5_open_58 dX5_open_59 dX5_open_61 dX5_open_64 (fun x h => (hte x h).elim) (by decide) (by decide) (by decide) (by decide) hlocks (fun t hvm hz hq => ⟨(), trivial, rfl, gw_xF hS hz hq⟩) hS.2.2 (by decide) (by decide)
      · skip
        exact absurd hy3 hc
    · skip
      exact absurd hy2 hc
  · skip
    exact absurd hy1 hc

theorem wd_X5_hire_f1_0 : (.classLink RX5 37 gE2 : Cond) ∈ wsX5_hire := by decide +kernel
theorem wd_X5_hire_f1_1 : (.initialized gE2 : Cond) ∈ wsX5_hire := by decide +kernel
set_option maxHeartbeats 4000000 in
set_option maxRecDepth 100000 in
theorem met_X5_hire_f1 (l : Launch) (hfl : l.stackTraces = false) (D : va_G) (cI cZ cL : ClassId) (gx : Nat) (qu : Nat) (qt : Nat) (rf : Nat) (co : Int32) (y : Int32) (hy : ¬ ((1 : Int32) ≤ y ∧ y ≤ 9)) : vx_Met l yX5_hire wsX5_hire ({ frames := 6, cells := 1, slots := 6, locals := 90 }) (gPx [.ref gx, .int y] D [(gx, .inr (5, [.ref qu, .ref qt, .ref rf, .int co]))] (gT cI cZ cL)) (va_Qi (fun (_ : Int32) (_ : Unit) => False) (fun _ _ => True) gN) (vx_X (fun _ : Unit => True) (fun E _ _ => E = gE2) gN) 1 6 gN := by
  refine vx_ofW (cc := cX5_hire) (maxL := 2) (ret := (some .int)) (by decide +kernel) rfl ?_
  intro p e s m args below meth c s₁ B hml hte hv
  obtain ⟨rfl, hP, hK, hU, hN, hSt, hBd⟩ := hv
  have hx := B.exec
  have hb := B.bytes
  have hr := B.returns
  have hts := atoms_spec (ws := wsX5_hire) B.pre
  have hown : s.vm.findClass RX5 = some m.cls := findClass_of_methodNamed B.named
  have hlocks := B.notSynchronized
  have hS : va_S gN s.heap s.heap [] := va_S.rf
  have hP : va_P D vwCl [(gx, .inr (5, [.ref qu, .ref qt, .ref rf, .int co]))] s.heap := hP
  have hl := lv_entry ([.ref gx, .int y]) (n := 2) (Nat.le_of_ble_eq_true rfl)
  rw [lg_entry_eq]
  generalize (lg_sl ([.ref gx, .int y]) ++ List.replicate (2 - (lg_sl ([.ref gx, .int y])).length) Slot.unset).toArray = ls at hl ⊢
  have hl : lv_has ls 2 [(0, .ref gx), (1, .int y)] := hl
  refine lv_iload_n hx hb dX5_hire_0 rfl (lv_at hl 1 rfl) ?_
  refine lv_iconst (v := 1) hx hb dX5_hire_1 (by decide) ?_
  refine lv_bipush (v := 9) hx hb dX5_hire_2 (by decide) ?_
  refine va_calli (va_runS (As := [.int y, .int 1, .int 9]) (rest := []) ⟨hx, hb, hml, hown, hts⟩ (met_X5_isWithin l D cI cZ cL y 1 9) (va_cwS 3 hts gX5_hire_X5_isWithin rfl rfl rfl (by decide +kernel) ⟨Nat.le_of_ble_eq_true rfl, Nat.le_of_ble_eq_true rfl⟩) (gw_psr hK hP (wc := []) [] rfl) rfl rfl hl.1 rfl (lv_room (Nat.le_of_ble_eq_true rfl)) dX5_hire_4 ⟨Nat.zero_le _, Nat.zero_le _⟩) hS (fun _ _ z => z.elim) (fun _ z => z.elim) (fun r_2 _ t H1 locs ht hvm hw hB hz1 hk1 hS => ?_)
  have hP := gw_ro hP hk1
  generalize H1 = H at hP hS ⊢
  rcases hw with ⟨rfl, hc⟩ | ⟨rfl, hc⟩
  · skip
    exact absurd hc hy
  · skip
    refine lv_if_ne (tgt := 20) hx hb dX5_hire_7 (by decide) (fun c_4 => False.elim (by revert c_4; decide)) (fun _ => ?_)
    obtain ⟨sa, hsa⟩ := hSt (67, "skill is not 1 to 9") (by decide +kernel)
    exact vx_throwS hx hb hfl hown (cls := gE2) (text := "skill is not 1 to 9") (names := gNs) (A := gN) (by decide +kernel) (by decide +kernel) (hts _ wd_X5_hire_f1_0) (hts _ wd_X5_hire_f1_1) hsa (gw_hat (fun w h => hts w (List.mem_cons_of_mem _ (List.mem_append_left _ (List.mem_append_right _ h)))) gBad_2 hBd) gOt_2 hU hN hS (by rw [hml]; exact hl.1) dX5_hire_10 dX5_hire_13 dX5_hire_14 dX5_hire_16 dX5_hire_19 (fun x h => (hte x h).elim) (by decide) (by decide) (by decide) (by decide) hlocks (fun t hvm hz hq => ⟨(), trivial, rfl, gw_xF hS hz hq⟩) hS.2.2 (by decide) (by decide)

theorem wc_X5_hire_f2_X5 : ∀ w ∈ u_ws RX5 TX5 4, w ∈ wsX5_hire := by decide +kernel
theorem wd_X5_hire_f2_1 : (.fieldLink RX5 10 "GritWheels" "now" "LGritWheels$Quarry;" : Cond) ∈ wsX5_hire := by decide +kernel
theorem wc_X5_hire_f2_X2 : ∀ w ∈ u_ws RX2 TX2 5, w ∈ wsX5_hire := by decide +kernel
theorem wd_X5_hire_f2_3 : (.fieldLink RX5 69 "GritWheels$Quarry" "crew" "LGritWheels$Crew;" : Cond) ∈ wsX5_hire := by decide +kernel
theorem wc_X5_hire_f2_X1 : ∀ w ∈ u_ws RX1 TX1 5, w ∈ wsX5_hire := by decide +kernel
theorem wd_X5_hire_f2_5 : (.fieldLink RX5 73 "GritWheels$Crew" "number" "I" : Cond) ∈ wsX5_hire := by decide +kernel
theorem wd_X5_hire_f2_6 : (.classLink RX5 58 gE3 : Cond) ∈ wsX5_hire := by decide +kernel
theorem wd_X5_hire_f2_7 : (.initialized gE3 : Cond) ∈ wsX5_hire := by decide +kernel
set_option maxHeartbeats 4000000 in
set_option maxRecDepth 100000 in
theorem met_X5_hire_f2 (l : Launch) (hfl : l.stackTraces = false) (D : va_G) (cI cZ cL : ClassId) (gx : Nat) (qu : Nat) (qt : Nat) (rf : Nat) (qf : Nat) (bd : Nat) (cr : Nat) (wh : Nat) (cr0 : Nat) (cr1 : Nat) (cr2 : Nat) (cr3 : Nat) (co : Int32) (nq : Nat) (day : Nat) (y : Int32) (hy : 1 ≤ y ∧ y ≤ 9) (hnq : nq = 6) : vx_Met l yX5_hire wsX5_hire ({ frames := 6, cells := 1, slots := 6, locals := 90 }) (gPx [.ref gx, .int y] D [(gx, .inr (5, [.ref qu, .ref qt, .ref rf, .int co])), (qu, .inr (2, [.ref qf, .ref bd, .ref cr, .ref wh, .int (nI day)])), (cr, .inr (1, [.ref cr0, .ref cr1, .ref cr2, .ref cr3, .int (nI nq)]))] (gT cI cZ cL)) (va_Qi (fun (_ : Int32) (_ : Unit) => False) (fun _ _ => True) gN) (vx_X (fun _ : Unit => True) (fun E _ _ => E = gE3) gN) 1 6 gN := by
  refine vx_ofW (cc := cX5_hire) (maxL := 2) (ret := (some .int)) (by decide +kernel) rfl ?_
  intro p e s m args below meth c s₁ B hml hte hv
  obtain ⟨rfl, hP, hK, hU, hN, hSt, hBd⟩ := hv
  have hx := B.exec
  have hb := B.bytes
  have hr := B.returns
  have hts := atoms_spec (ws := wsX5_hire) B.pre
  have hown : s.vm.findClass RX5 = some m.cls := findClass_of_methodNamed B.named
  have hlocks := B.notSynchronized
  have hS : va_S gN s.heap s.heap [] := va_S.rf
  have hP : va_P D vwCl [(gx, .inr (5, [.ref qu, .ref qt, .ref rf, .int co])), (qu, .inr (2, [.ref qf, .ref bd, .ref cr, .ref wh, .int (nI day)])), (cr, .inr (1, [.ref cr0, .ref cr1, .ref cr2, .ref cr3, .int (nI nq)]))] s.heap := hP
  have hl := lv_entry ([.ref gx, .int y]) (n := 2) (Nat.le_of_ble_eq_true rfl)
  rw [lg_entry_eq]
  generalize (lg_sl ([.ref gx, .int y]) ++ List.replicate (2 - (lg_sl ([.ref gx, .int y])).length) Slot.unset).toArray = ls at hl ⊢
  have hl : lv_has ls 2 [(0, .ref gx), (1, .int y)] := hl
  refine lv_iload_n hx hb dX5_hire_0 rfl (lv_at hl 1 rfl) ?_
  refine lv_iconst (v := 1) hx hb dX5_hire_1 (by decide) ?_
  refine lv_bipush (v := 9) hx hb dX5_hire_2 (by decide) ?_
  refine va_calli (va_runS (As := [.int y, .int 1, .int 9]) (rest := []) ⟨hx, hb, hml, hown, hts⟩ (met_X5_isWithin l D cI cZ cL y 1 9) (va_cwS 3 hts gX5_hire_X5_isWithin rfl rfl rfl (by decide +kernel) ⟨Nat.le_of_ble_eq_true rfl, Nat.le_of_ble_eq_true rfl⟩) (gw_psr hK hP (wc := []) [] rfl) rfl rfl hl.1 rfl (lv_room (Nat.le_of_ble_eq_true rfl)) dX5_hire_4 ⟨Nat.zero_le _, Nat.zero_le _⟩) hS (fun _ _ z => z.elim) (fun _ z => z.elim) (fun r_2 _ t H1 locs ht hvm hw hB hz1 hk1 hS => ?_)
  have hP := gw_ro hP hk1
  generalize H1 = H at hP hS ⊢
  rcases hw with ⟨rfl, hc⟩ | ⟨rfl, hc⟩
  · skip
    refine lv_if_ne (tgt := 20) hx hb dX5_hire_7 (by decide) (fun _ => ?_) (fun c_4 => False.elim (by revert c_4; decide))
    refine lv_aload_n hx hb dX5_hire_20 rfl (lv_at hl 0 rfl) ?_
    refine va_get (D := D) (ci := 5) (v := .ref qu) (C := RX5) (T := TX5) (N := 4) hx hb hts wc_X5_hire_f2_X5 hown hK hP 0 rfl rfl 0 (by decide) (hts _ wd_X5_hire_f2_1) (fun _ h9 => h9) rfl dX5_hire_21 ?_
    refine va_get (D := D) (ci := 2) (v := .ref cr) (C := RX2) (T := TX2) (N := 5) hx hb hts wc_X5_hire_f2_X2 hown hK hP 1 rfl rfl 2 (by decide) (hts _ wd_X5_hire_f2_3) (fun _ h9 => h9) rfl dX5_hire_24 ?_
    refine va_get (D := D) (ci := 1) (v := .int (nI nq)) (C := RX1) (T := TX1) (N := 5) hx hb hts wc_X5_hire_f2_X1 hown hK hP 2 rfl rfl 4 (by decide) (hts _ wd_X5_hire_f2_5) (fun _ h9 => h9) rfl dX5_hire_27 ?_
    refine lv_bipush (v := 6) hx hb dX5_hire_30 (by decide) ?_
    refine lv_icmp_lt (tgt := 45) hx hb dX5_hire_32 (by decide) (fun c_5 => (by first | exact absurd c_5 (show ¬ nI nq < 6 by rw [hnq]; decide) | exact absurd (show ¬ nI nq < 6 by rw [hnq]; decide) c_5)) (fun c_5 => ?_)
    obtain ⟨sa, hsa⟩ := hSt (76, "there are 6 quarriers") (by decide +kernel)
    exact vx_throwS hx hb hfl hown (cls := gE3) (text := "there are 6 quarriers") (names := gNs) (A := gN) (by decide +kernel) (by decide +kernel) (hts _ wd_X5_hire_f2_6) (hts _ wd_X5_hire_f2_7) hsa (gw_hat (fun w h => hts w (List.mem_cons_of_mem _ (List.mem_append_right _ h))) gBad_3 hBd) gOt_3 hU hN hS (by rw [hml]; exact hl.1) dX5_hire_35 dX5_hire_38 dX5_hire_39 dX5_hire_41 dX5_hire_44 (fun x h => (hte x h).elim) (by decide) (by decide) (by decide) (by decide) hlocks (fun t hvm hz hq => ⟨(), trivial, rfl, gw_xF hS hz hq⟩) hS.2.2 (by decide) (by decide)
  · skip
    exact absurd hy hc

theorem wc_X5_send_f1_X5 : ∀ w ∈ u_ws RX5 TX5 4, w ∈ wsX5_send := by decide +kernel
theorem wd_X5_send_f1_1 : (.fieldLink RX5 10 "GritWheels" "now" "LGritWheels$Quarry;" : Cond) ∈ wsX5_send := by decide +kernel
theorem wc_X5_send_f1_X2 : ∀ w ∈ u_ws RX2 TX2 5, w ∈ wsX5_send := by decide +kernel
theorem wd_X5_send_f1_3 : (.fieldLink RX5 69 "GritWheels$Quarry" "crew" "LGritWheels$Crew;" : Cond) ∈ wsX5_send := by decide +kernel
theorem wd_X5_send_f1_4 : (.fieldLink RX5 48 "GritWheels$Quarry" "beds" "LGritWheels$Beds;" : Cond) ∈ wsX5_send := by decide +kernel
theorem wd_X5_send_f1_5 : (.classLink RX5 30 gE1 : Cond) ∈ wsX5_send := by decide +kernel
theorem wd_X5_send_f1_6 : (.initialized gE1 : Cond) ∈ wsX5_send := by decide +kernel
set_option maxHeartbeats 4000000 in
set_option maxRecDepth 100000 in
theorem met_X5_send_f1 (l : Launch) (hfl : l.stackTraces = false) (D : va_G) (cI cZ cL : ClassId) (gx : Nat) (qu : Nat) (qt : Nat) (rf : Nat) (qf : Nat) (bd : Nat) (cr : Nat) (wh : Nat) (bd0 : Nat) (bd1 : Nat) (bd2 : Nat) (bd3 : Nat) (cr0 : Nat) (cr1 : Nat) (cr2 : Nat) (cr3 : Nat) (co : Int32) (nb : Nat) (nq : Nat) (day : Nat) (z : Int32) (x : Int32) (hnq : nq ≤ 6) (hnb : nb ≤ 5) (hzx : ¬ ((∃ kk, kk < nq ∧ z = nI kk) ∧ (x = -1 ∨ ∃ kk, kk < nb ∧ x = nI kk))) : vx_Met l yX5_send wsX5_send ({ frames := 6, cells := 1, slots := 6, locals := 90 }) (gPx [.ref gx, .int z, .int x] D [(gx, .inr (5, [.ref qu, .ref qt, .ref rf, .int co])), (qu, .inr (2, [.ref qf, .ref bd, .ref cr, .ref wh, .int (nI day)])), (bd, .inr (0, [.ref bd0, .ref bd1, .ref bd2, .ref bd3, .int (nI nb)])), (cr, .inr (1, [.ref cr0, .ref cr1, .ref cr2, .ref cr3, .int (nI nq)]))] (gT cI cZ cL)) (va_Qi (fun (_ : Int32) (_ : Unit) => False) (fun _ _ => True) gN) (vx_X (fun _ : Unit => True) (fun E _ _ => E = gE1) gN) 1 6 gN := by
  refine vx_ofW (cc := cX5_send) (maxL := 4) (ret := (some .int)) (by decide +kernel) rfl ?_
  intro p e s m args below meth c s₁ B hml hte hv
  obtain ⟨rfl, hP, hK, hU, hN, hSt, hBd⟩ := hv
  have hx := B.exec
  have hb := B.bytes
  have hr := B.returns
  have hts := atoms_spec (ws := wsX5_send) B.pre
  have hown : s.vm.findClass RX5 = some m.cls := findClass_of_methodNamed B.named
  have hlocks := B.notSynchronized
  have hS : va_S gN s.heap s.heap [] := va_S.rf
  have hP : va_P D vwCl [(gx, .inr (5, [.ref qu, .ref qt, .ref rf, .int co])), (qu, .inr (2, [.ref qf, .ref bd, .ref cr, .ref wh, .int (nI day)])), (bd, .inr (0, [.ref bd0, .ref bd1, .ref bd2, .ref bd3, .int (nI nb)])), (cr, .inr (1, [.ref cr0, .ref cr1, .ref cr2, .ref cr3, .int (nI nq)]))] s.heap := hP
  have hl := lv_entry ([.ref gx, .int z, .int x]) (n := 4) (Nat.le_of_ble_eq_true rfl)
  rw [lg_entry_eq]
  generalize (lg_sl ([.ref gx, .int z, .int x]) ++ List.replicate (4 - (lg_sl ([.ref gx, .int z, .int x])).length) Slot.unset).toArray = ls at hl ⊢
  have hl : lv_has ls 4 [(0, .ref gx), (1, .int z), (2, .int x)] := hl
  refine lv_aload_n hx hb dX5_send_0 rfl (lv_at hl 0 rfl) ?_
  refine va_get (D := D) (ci := 5) (v := .ref qu) (C := RX5) (T := TX5) (N := 4) hx hb hts wc_X5_send_f1_X5 hown hK hP 0 rfl rfl 0 (by decide) (hts _ wd_X5_send_f1_1) (fun _ h9 => h9) rfl dX5_send_1 ?_
  refine va_get (D := D) (ci := 2) (v := .ref cr) (C := RX2) (T := TX2) (N := 5) hx hb hts wc_X5_send_f1_X2 hown hK hP 1 rfl rfl 2 (by decide) (hts _ wd_X5_send_f1_3) (fun _ h9 => h9) rfl dX5_send_4 ?_
  refine lv_iload_n hx hb dX5_send_7 rfl (lv_at hl 1 rfl) ?_
  refine va_calli (va_runV (As := [.int z]) (rest := []) ⟨hx, hb, hml, hown, hts⟩ (met_X1_has l D cI cZ cL cr cr0 cr1 cr2 cr3 nq z (by first | assumption | omega)) (cwV 1 hts gX5_send_X1_has rfl rfl rfl (by decide +kernel) ⟨Nat.le_of_ble_eq_true rfl, Nat.le_of_ble_eq_true rfl⟩) (gw_pvr hK hP (wc := [(cr, .inr (1, [.ref cr0, .ref cr1, .ref cr2, .ref cr3, .int (nI nq)]))]) [3] rfl 1 rfl rfl rfl) rfl rfl hl.1 rfl (lv_room (Nat.le_of_ble_eq_true rfl)) dX5_send_8 ⟨Nat.zero_le _, Nat.zero_le _⟩) hS (fun _ _ z => z.elim) (fun _ z => z.elim) (fun r_2 _ t H1 locs ht hvm hw hB hz1 hk1 hS => ?_)
  have hP := gw_ro hP hk1
  generalize H1 = H at hP hS ⊢
  rcases hw with ⟨rfl, hc1⟩ | ⟨rfl, hc1⟩
  · skip
    refine lv_if_ne (tgt := 24) hx hb dX5_send_11 (by decide) (fun _ => ?_) (fun c_4 => False.elim (by revert c_4; decide))
    refine lv_iload_n hx hb dX5_send_24 rfl (lv_at hl 2 rfl) ?_
    refine lv_iconst (v := (-1)) hx hb dX5_send_25 (by decide) ?_
    refine lv_icmp_eq (tgt := 53) hx hb dX5_send_26 (by decide) (fun h1 => ?_) (fun h1 => ?_)
    · skip
      exact absurd ⟨hc1, Or.inl h1⟩ hzx
    · skip
      refine lv_aload_n hx hb dX5_send_29 rfl (lv_at hl 0 rfl) ?_
      refine va_get (D := D) (ci := 5) (v := .ref qu) (C := RX5) (T := TX5) (N := 4) hx hb hts wc_X5_send_f1_X5 hown hK hP 0 rfl rfl 0 (by decide) (hts _ wd_X5_send_f1_1) (fun _ h9 => h9) rfl dX5_send_30 ?_
      refine va_get (D := D) (ci := 2) (v := .ref bd) (C := RX2) (T := TX2) (N := 5) hx hb hts wc_X5_send_f1_X2 hown hK hP 1 rfl rfl 1 (by decide) (hts _ wd_X5_send_f1_4) (fun _ h9 => h9) rfl dX5_send_33 ?_
      refine lv_iload_n hx hb dX5_send_36 rfl (lv_at hl 2 rfl) ?_
      refine va_calli (va_runV (As := [.int x]) (rest := []) ⟨hx, hb, hml, hown, hts⟩ (met_X0_has l D cI cZ cL bd bd0 bd1 bd2 bd3 nb x (by first | assumption | omega)) (cwV 1 hts gX5_send_X0_has rfl rfl rfl (by decide +kernel) ⟨Nat.le_of_ble_eq_true rfl, Nat.le_of_ble_eq_true rfl⟩) (gw_pvr hK hP (wc := [(bd, .inr (0, [.ref bd0, .ref bd1, .ref bd2, .ref bd3, .int (nI nb)]))]) [2] rfl 0 rfl rfl rfl) rfl rfl hl.1 rfl (lv_room (Nat.le_of_ble_eq_true rfl)) dX5_send_37 ⟨Nat.zero_le _, Nat.zero_le _⟩) hS (fun _ _ z => z.elim) (fun _ z => z.elim) (fun r_7 _ t H1 locs ht hvm hw hB hz1 hk1 hS => ?_)
      have hP := gw_ro hP hk1
      generalize H1 = H at hP hS ⊢
      rcases hw with ⟨rfl, hc2⟩ | ⟨rfl, hc2⟩
      · skip
        exact absurd ⟨hc1, Or.inr hc2⟩ hzx
      · skip
        refine lv_if_ne (tgt := 53) hx hb dX5_send_40 (by decide) (fun c_9 => False.elim (by revert c_9; decide)) (fun _ => ?_)
        obtain ⟨sa, hsa⟩ := hSt (88, "neither -1 nor a bed") (by decide +kernel)
        exact vx_throwS hx hb hfl hown (cls := gE1) (text := "neither -1 nor a bed") (names := gNs) (A := gN) (by decide +kernel) (by decide +kernel) (hts _ wd_X5_send_f1_5) (hts _ wd_X5_send_f1_6) hsa (gw_hat (fun w h => hts w (List.mem_cons_of_mem _ (List.mem_append_right _ h))) gBad_1 hBd) gOt_1 hU hN hS (by rw [hml]; exact hl.1) dX5_send_43 dX5_send_46 dX5_send_47 dX5_send_49 dX5_send_52 (fun x h => (hte x h).elim) (by decide) (by decide) (by decide) (by decide) hlocks (fun t hvm hz hq => ⟨(), trivial, rfl, gw_xF hS hz hq⟩) hS.2.2 (by decide) (by decide)
  · skip
    refine lv_if_ne (tgt := 24) hx hb dX5_send_11 (by decide) (fun c_10 => False.elim (by revert c_10; decide)) (fun _ => ?_)
    obtain ⟨sa, hsa⟩ := hSt (85, "no such quarrier") (by decide +kernel)
    exact vx_throwS hx hb hfl hown (cls := gE1) (text := "no such quarrier") (names := gNs) (A := gN) (by decide +kernel) (by decide +kernel) (hts _ wd_X5_send_f1_5) (hts _ wd_X5_send_f1_6) hsa (gw_hat (fun w h => hts w (List.mem_cons_of_mem _ (List.mem_append_right _ h))) gBad_1 hBd) gOt_1 hU hN hS (by rw [hml]; exact hl.1) dX5_send_14 dX5_send_17 dX5_send_18 dX5_send_20 dX5_send_23 (fun x h => (hte x h).elim) (by decide) (by decide) (by decide) (by decide) hlocks (fun t hvm hz hq => ⟨(), trivial, rfl, gw_xF hS hz hq⟩) hS.2.2 (by decide) (by decide)

theorem wc_X5_ring_f1_X5 : ∀ w ∈ u_ws RX5 TX5 4, w ∈ wsX5_ring := by decide +kernel
theorem wd_X5_ring_f1_1 : (.fieldLink RX5 10 "GritWheels" "now" "LGritWheels$Quarry;" : Cond) ∈ wsX5_ring := by decide +kernel
theorem wc_X5_ring_f1_X2 : ∀ w ∈ u_ws RX2 TX2 5, w ∈ wsX5_ring := by decide +kernel
theorem wd_X5_ring_f1_3 : (.fieldLink RX5 93 "GritWheels$Quarry" "wheels" "LGritWheels$Wheels;" : Cond) ∈ wsX5_ring := by decide +kernel
theorem wd_X5_ring_f1_4 : (.classLink RX5 30 gE1 : Cond) ∈ wsX5_ring := by decide +kernel
theorem wd_X5_ring_f1_5 : (.initialized gE1 : Cond) ∈ wsX5_ring := by decide +kernel
set_option maxHeartbeats 4000000 in
set_option maxRecDepth 100000 in
theorem met_X5_ring_f1 (l : Launch) (hfl : l.stackTraces = false) (D : va_G) (cI cZ cL : ClassId) (gx : Nat) (qu : Nat) (qt : Nat) (rf : Nat) (qf : Nat) (bd : Nat) (cr : Nat) (wh : Nat) (wh0 : Nat) (wh1 : Nat) (wh2 : Nat) (wh3 : Nat) (wh4 : Nat) (wh5 : Nat) (co : Int32) (nw : Nat) (day : Nat) (x : Int32) (hnw : nw ≤ 60) (hx1 : ¬ ∃ kk, kk < nw ∧ x = nI kk) : vx_Met l yX5_ring wsX5_ring ({ frames := 6, cells := 1, slots := 6, locals := 90 }) (gPx [.ref gx, .int x] D [(gx, .inr (5, [.ref qu, .ref qt, .ref rf, .int co])), (qu, .inr (2, [.ref qf, .ref bd, .ref cr, .ref wh, .int (nI day)])), (wh, .inr (4, [.ref wh0, .ref wh1, .ref wh2, .ref wh3, .ref wh4, .ref wh5, .int (nI nw)]))] (gT cI cZ cL)) (va_Qi (fun (_ : Int32) (_ : Unit) => False) (fun _ _ => True) gN) (vx_X (fun _ : Unit => True) (fun E _ _ => E = gE1) gN) 1 6 gN := by
  refine vx_ofW (cc := cX5_ring) (maxL := 2) (ret := (some .int)) (by decide +kernel) rfl ?_
  intro p e s m args below meth c s₁ B hml hte hv
  obtain ⟨rfl, hP, hK, hU, hN, hSt, hBd⟩ := hv
  have hx := B.exec
  have hb := B.bytes
  have hr := B.returns
  have hts := atoms_spec (ws := wsX5_ring) B.pre
  have hown : s.vm.findClass RX5 = some m.cls := findClass_of_methodNamed B.named
  have hlocks := B.notSynchronized
  have hS : va_S gN s.heap s.heap [] := va_S.rf
  have hP : va_P D vwCl [(gx, .inr (5, [.ref qu, .ref qt, .ref rf, .int co])), (qu, .inr (2, [.ref qf, .ref bd, .ref cr, .ref wh, .int (nI day)])), (wh, .inr (4, [.ref wh0, .ref wh1, .ref wh2, .ref wh3, .ref wh4, .ref wh5, .int (nI nw)]))] s.heap := hP
  have hl := lv_entry ([.ref gx, .int x]) (n := 2) (Nat.le_of_ble_eq_true rfl)
  rw [lg_entry_eq]
  generalize (lg_sl ([.ref gx, .int x]) ++ List.replicate (2 - (lg_sl ([.ref gx, .int x])).length) Slot.unset).toArray = ls at hl ⊢
  have hl : lv_has ls 2 [(0, .ref gx), (1, .int x)] := hl
  refine lv_aload_n hx hb dX5_ring_0 rfl (lv_at hl 0 rfl) ?_
  refine va_get (D := D) (ci := 5) (v := .ref qu) (C := RX5) (T := TX5) (N := 4) hx hb hts wc_X5_ring_f1_X5 hown hK hP 0 rfl rfl 0 (by decide) (hts _ wd_X5_ring_f1_1) (fun _ h9 => h9) rfl dX5_ring_1 ?_
  refine va_get (D := D) (ci := 2) (v := .ref wh) (C := RX2) (T := TX2) (N := 5) hx hb hts wc_X5_ring_f1_X2 hown hK hP 1 rfl rfl 3 (by decide) (hts _ wd_X5_ring_f1_3) (fun _ h9 => h9) rfl dX5_ring_4 ?_
  refine lv_iload_n hx hb dX5_ring_7 rfl (lv_at hl 1 rfl) ?_
  refine va_calli (va_runV (As := [.int x]) (rest := []) ⟨hx, hb, hml, hown, hts⟩ (met_X4_has l D cI cZ cL wh wh0 wh1 wh2 wh3 wh4 wh5 nw x (by first | assumption | omega)) (cwV 1 hts gX5_ring_X4_has rfl rfl rfl (by decide +kernel) ⟨Nat.le_of_ble_eq_true rfl, Nat.le_of_ble_eq_true rfl⟩) (gw_pvr hK hP (wc := [(wh, .inr (4, [.ref wh0, .ref wh1, .ref wh2, .ref wh3, .ref wh4, .ref wh5, .int (nI nw)]))]) [2] rfl 4 rfl rfl rfl) rfl rfl hl.1 rfl (lv_room (Nat.le_of_ble_eq_true rfl)) dX5_ring_8 ⟨Nat.zero_le _, Nat.zero_le _⟩) hS (fun _ _ z => z.elim) (fun _ z => z.elim) (fun r_2 _ t H1 locs ht hvm hw hB hz1 hk1 hS => ?_)
  have hP := gw_ro hP hk1
  generalize H1 = H at hP hS ⊢
  rcases hw with ⟨rfl, hc⟩ | ⟨rfl, hc⟩
  · skip
    exact absurd hc hx1
  · skip
    refine lv_if_ne (tgt := 24) hx hb dX5_ring_11 (by decide) (fun c_4 => False.elim (by revert c_4; decide)) (fun _ => ?_)
    obtain ⟨sa, hsa⟩ := hSt (100, "no such wheel") (by decide +kernel)
    exact vx_throwS hx hb hfl hown (cls := gE1) (text := "no such wheel") (names := gNs) (A := gN) (by decide +kernel) (by decide +kernel) (hts _ wd_X5_ring_f1_4) (hts _ wd_X5_ring_f1_5) hsa (gw_hat (fun w h => hts w (List.mem_cons_of_mem _ (List.mem_append_left _ (List.mem_append_right _ h)))) gBad_1 hBd) gOt_1 hU hN hS (by rw [hml]; exact hl.1) dX5_ring_14 dX5_ring_17 dX5_ring_18 dX5_ring_20 dX5_ring_23 (fun x h => (hte x h).elim) (by decide) (by decide) (by decide) (by decide) hlocks (fun t hvm hz hq => ⟨(), trivial, rfl, gw_xF hS hz hq⟩) hS.2.2 (by decide) (by decide)

theorem wc_X5_ring_f2_X5 : ∀ w ∈ u_ws RX5 TX5 4, w ∈ wsX5_ring := by decide +kernel
theorem wd_X5_ring_f2_1 : (.fieldLink RX5 10 "GritWheels" "now" "LGritWheels$Quarry;" : Cond) ∈ wsX5_ring := by decide +kernel
theorem wc_X5_ring_f2_X2 : ∀ w ∈ u_ws RX2 TX2 5, w ∈ wsX5_ring := by decide +kernel
theorem wd_X5_ring_f2_3 : (.fieldLink RX5 93 "GritWheels$Quarry" "wheels" "LGritWheels$Wheels;" : Cond) ∈ wsX5_ring := by decide +kernel
theorem wc_X5_ring_f2_X4 : ∀ w ∈ u_ws RX4 TX4 7, w ∈ wsX5_ring := by decide +kernel
theorem wd_X5_ring_f2_5 : (.fieldLink RX5 102 "GritWheels$Wheels" "state" "[I" : Cond) ∈ wsX5_ring := by decide +kernel
theorem wd_X5_ring_f2_6 : (.classLink RX5 58 gE3 : Cond) ∈ wsX5_ring := by decide +kernel
theorem wd_X5_ring_f2_7 : (.initialized gE3 : Cond) ∈ wsX5_ring := by decide +kernel
set_option maxHeartbeats 4000000 in
set_option maxRecDepth 100000 in
theorem met_X5_ring_f2 (l : Launch) (hfl : l.stackTraces = false) (D : va_G) (cI cZ cL : ClassId) (gx : Nat) (qu : Nat) (qt : Nat) (rf : Nat) (qf : Nat) (bd : Nat) (cr : Nat) (wh : Nat) (wh0 : Nat) (wh1 : Nat) (wh2 : Nat) (wh3 : Nat) (wh4 : Nat) (wh5 : Nat) (co : Int32) (Q : Nat → Nat → Int32) (nw : Nat) (day : Nat) (k : Nat) (hk : k < nw) (hnw : nw ≤ 60) (hst : ¬ Q 13 k < 3) : vx_Met l yX5_ring wsX5_ring ({ frames := 6, cells := 1, slots := 6, locals := 90 }) (gPx [.ref gx, .int (nI k)] D [(gx, .inr (5, [.ref qu, .ref qt, .ref rf, .int co])), (qu, .inr (2, [.ref qf, .ref bd, .ref cr, .ref wh, .int (nI day)])), (wh, .inr (4, [.ref wh0, .ref wh1, .ref wh2, .ref wh3, .ref wh4, .ref wh5, .int (nI nw)])), (wh4, .inl (cI, 60, .inl (Q 13)))] (gT cI cZ cL)) (va_Qi (fun (_ : Int32) (_ : Unit) => False) (fun _ _ => True) gN) (vx_X (fun _ : Unit => True) (fun E _ _ => E = gE3) gN) 1 6 gN := by
  refine vx_ofW (cc := cX5_ring) (maxL := 2) (ret := (some .int)) (by decide +kernel) rfl ?_
  intro p e s m args below meth c s₁ B hml hte hv
  obtain ⟨rfl, hP, hK, hU, hN, hSt, hBd⟩ := hv
  have hx := B.exec
  have hb := B.bytes
  have hr := B.returns
  have hts := atoms_spec (ws := wsX5_ring) B.pre
  have hown : s.vm.findClass RX5 = some m.cls := findClass_of_methodNamed B.named
  have hlocks := B.notSynchronized
  have hS : va_S gN s.heap s.heap [] := va_S.rf
  have hP : va_P D vwCl [(gx, .inr (5, [.ref qu, .ref qt, .ref rf, .int co])), (qu, .inr (2, [.ref qf, .ref bd, .ref cr, .ref wh, .int (nI day)])), (wh, .inr (4, [.ref wh0, .ref wh1, .ref wh2, .ref wh3, .ref wh4, .ref wh5, .int (nI nw)])), (wh4, .inl (cI, 60, .inl (Q 13)))] s.heap := hP
  have hl := lv_entry ([.ref gx, .int (nI k)]) (n := 2) (Nat.le_of_ble_eq_true rfl)
  rw [lg_entry_eq]
  generalize (lg_sl ([.ref gx, .int (nI k)]) ++ List.replicate (2 - (lg_sl ([.ref gx, .int (nI k)])).length) Slot.unset).toArray = ls at hl ⊢
  have hl : lv_has ls 2 [(0, .ref gx), (1, .int (nI k))] := hl
  refine lv_aload_n hx hb dX5_ring_0 rfl (lv_at hl 0 rfl) ?_
  refine va_get (D := D) (ci := 5) (v := .ref qu) (C := RX5) (T := TX5) (N := 4) hx hb hts wc_X5_ring_f2_X5 hown hK hP 0 rfl rfl 0 (by decide) (hts _ wd_X5_ring_f2_1) (fun _ h9 => h9) rfl dX5_ring_1 ?_
  refine va_get (D := D) (ci := 2) (v := .ref wh) (C := RX2) (T := TX2) (N := 5) hx hb hts wc_X5_ring_f2_X2 hown hK hP 1 rfl rfl 3 (by decide) (hts _ wd_X5_ring_f2_3) (fun _ h9 => h9) rfl dX5_ring_4 ?_
  refine lv_iload_n hx hb dX5_ring_7 rfl (lv_at hl 1 rfl) ?_
  refine va_calli (va_runV (As := [.int (nI k)]) (rest := []) ⟨hx, hb, hml, hown, hts⟩ (met_X4_has l D cI cZ cL wh wh0 wh1 wh2 wh3 wh4 wh5 nw (nI k) (by first | assumption | omega)) (cwV 1 hts gX5_ring_X4_has rfl rfl rfl (by decide +kernel) ⟨Nat.le_of_ble_eq_true rfl, Nat.le_of_ble_eq_true rfl⟩) (gw_pvr hK hP (wc := [(wh, .inr (4, [.ref wh0, .ref wh1, .ref wh2, .ref wh3, .ref wh4, .ref wh5, .int (nI nw)]))]) [2] rfl 4 rfl rfl rfl) rfl rfl hl.1 rfl (lv_room (Nat.le_of_ble_eq_true rfl)) dX5_ring_8 ⟨Nat.zero_le _, Nat.zero_le _⟩) hS (fun _ _ z => z.elim) (fun _ z => z.elim) (fun r_2 _ t H1 locs ht hvm hw hB hz1 hk1 hS => ?_)
  have hP := gw_ro hP hk1
  generalize H1 = H at hP hS ⊢
  rcases hw with ⟨rfl, hc⟩ | ⟨rfl, hc⟩
  · skip
    refine lv_if_ne (tgt := 24) hx hb dX5_ring_11 (by decide) (fun _ => ?_) (fun c_4 => False.elim (by revert c_4; decide))
    refine lv_aload_n hx hb dX5_ring_24 rfl (lv_at hl 0 rfl) ?_
    refine va_get (D := D) (ci := 5) (v := .ref qu) (C := RX5) (T := TX5) (N := 4) hx hb hts wc_X5_ring_f2_X5 hown hK hP 0 rfl rfl 0 (by decide) (hts _ wd_X5_ring_f2_1) (fun _ h9 => h9) rfl dX5_ring_25 ?_
    refine va_get (D := D) (ci := 2) (v := .ref wh) (C := RX2) (T := TX2) (N := 5) hx hb hts wc_X5_ring_f2_X2 hown hK hP 1 rfl rfl 3 (by decide) (hts _ wd_X5_ring_f2_3) (fun _ h9 => h9) rfl dX5_ring_28 ?_
    refine va_get (D := D) (ci := 4) (v := .ref wh4) (C := RX4) (T := TX4) (N := 7) hx hb hts wc_X5_ring_f2_X4 hown hK hP 2 rfl rfl 4 (by decide) (hts _ wd_X5_ring_f2_5) (fun _ h9 => h9) rfl dX5_ring_31 ?_
    refine lv_iload_n hx hb dX5_ring_34 rfl (lv_at hl 1 rfl) ?_
    refine gw_iald hx hb hK hP 3 0 (k := k) rfl rfl (by omega) (by decide) dX5_ring_35 ?_
    refine lv_iconst (v := 3) hx hb dX5_ring_36 (by decide) ?_
    refine lv_icmp_lt (tgt := 50) hx hb dX5_ring_37 (by decide) (fun c_5 => (by first | exact absurd c_5 hst | exact absurd hst c_5)) (fun c_5 => ?_)
    obtain ⟨sa, hsa⟩ := hSt (105, "the wheel is shipped or broken") (by decide +kernel)
    exact vx_throwS hx hb hfl hown (cls := gE3) (text := "the wheel is shipped or broken") (names := gNs) (A := gN) (by decide +kernel) (by decide +kernel) (hts _ wd_X5_ring_f2_6) (hts _ wd_X5_ring_f2_7) hsa (gw_hat (fun w h => hts w (List.mem_cons_of_mem _ (List.mem_append_right _ h))) gBad_3 hBd) gOt_3 hU hN hS (by rw [hml]; exact hl.1) dX5_ring_40 dX5_ring_43 dX5_ring_44 dX5_ring_46 dX5_ring_49 (fun x h => (hte x h).elim) (by decide) (by decide) (by decide) (by decide) hlocks (fun t hvm hz hq => ⟨(), trivial, rfl, gw_xF hS hz hq⟩) hS.2.2 (by decide) (by decide)
  · skip
    exact absurd ⟨k, hk, rfl⟩ hc

theorem wc_X5_smash_f1_X5 : ∀ w ∈ u_ws RX5 TX5 4, w ∈ wsX5_smash := by decide +kernel
theorem wd_X5_smash_f1_1 : (.fieldLink RX5 10 "GritWheels" "now" "LGritWheels$Quarry;" : Cond) ∈ wsX5_smash := by decide +kernel
theorem wc_X5_smash_f1_X2 : ∀ w ∈ u_ws RX2 TX2 5, w ∈ wsX5_smash := by decide +kernel
theorem wd_X5_smash_f1_3 : (.fieldLink RX5 93 "GritWheels$Quarry" "wheels" "LGritWheels$Wheels;" : Cond) ∈ wsX5_smash := by decide +kernel
theorem wd_X5_smash_f1_4 : (.classLink RX5 30 gE1 : Cond) ∈ wsX5_smash := by decide +kernel
theorem wd_X5_smash_f1_5 : (.initialized gE1 : Cond) ∈ wsX5_smash := by decide +kernel
set_option maxHeartbeats 4000000 in
set_option maxRecDepth 100000 in
theorem met_X5_smash_f1 (l : Launch) (hfl : l.stackTraces = false) (D : va_G) (cI cZ cL : ClassId) (gx : Nat) (qu : Nat) (qt : Nat) (rf : Nat) (qf : Nat) (bd : Nat) (cr : Nat) (wh : Nat) (wh0 : Nat) (wh1 : Nat) (wh2 : Nat) (wh3 : Nat) (wh4 : Nat) (wh5 : Nat) (co : Int32) (nw : Nat) (day : Nat) (x : Int32) (hnw : nw ≤ 60) (hx1 : ¬ ∃ kk, kk < nw ∧ x = nI kk) : vx_Met l yX5_smash wsX5_smash ({ frames := 6, cells := 1, slots := 6, locals := 90 }) (gPx [.ref gx, .int x] D [(gx, .inr (5, [.ref qu, .ref qt, .ref rf, .int co])), (qu, .inr (2, [.ref qf, .ref bd, .ref cr, .ref wh, .int (nI day)])), (wh, .inr (4, [.ref wh0, .ref wh1, .ref wh2, .ref wh3, .ref wh4, .ref wh5, .int (nI nw)]))] (gT cI cZ cL)) (va_Qi (fun (_ : Int32) (_ : Unit) => False) (fun _ _ => True) gN) (vx_X (fun _ : Unit => True) (fun E _ _ => E = gE1) gN) 1 6 gN := by
  refine vx_ofW (cc := cX5_smash) (maxL := 2) (ret := (some .int)) (by decide +kernel) rfl ?_
  intro p e s m args below meth c s₁ B hml hte hv
  obtain ⟨rfl, hP, hK, hU, hN, hSt, hBd⟩ := hv
  have hx := B.exec
  have hb := B.bytes
  have hr := B.returns
  have hts := atoms_spec (ws := wsX5_smash) B.pre
  have hown : s.vm.findClass RX5 = some m.cls := findClass_of_methodNamed B.named
  have hlocks := B.notSynchronized
  have hS : va_S gN s.heap s.heap [] := va_S.rf
  have hP : va_P D vwCl [(gx, .inr (5, [.ref qu, .ref qt, .ref rf, .int co])), (qu, .inr (2, [.ref qf, .ref bd, .ref cr, .ref wh, .int (nI day)])), (wh, .inr (4, [.ref wh0, .ref wh1, .ref wh2, .ref wh3, .ref wh4, .ref wh5, .int (nI nw)]))] s.heap := hP
  have hl := lv_entry ([.ref gx, .int x]) (n := 2) (Nat.le_of_ble_eq_true rfl)
  rw [lg_entry_eq]
  generalize (lg_sl ([.ref gx, .int x]) ++ List.replicate (2 - (lg_sl ([.ref gx, .int x])).length) Slot.unset).toArray = ls at hl ⊢
  have hl : lv_has ls 2 [(0, .ref gx), (1, .int x)] := hl
  refine lv_aload_n hx hb dX5_smash_0 rfl (lv_at hl 0 rfl) ?_
  refine va_get (D := D) (ci := 5) (v := .ref qu) (C := RX5) (T := TX5) (N := 4) hx hb hts wc_X5_smash_f1_X5 hown hK hP 0 rfl rfl 0 (by decide) (hts _ wd_X5_smash_f1_1) (fun _ h9 => h9) rfl dX5_smash_1 ?_
  refine va_get (D := D) (ci := 2) (v := .ref wh) (C := RX2) (T := TX2) (N := 5) hx hb hts wc_X5_smash_f1_X2 hown hK hP 1 rfl rfl 3 (by decide) (hts _ wd_X5_smash_f1_3) (fun _ h9 => h9) rfl dX5_smash_4 ?_
  refine lv_iload_n hx hb dX5_smash_7 rfl (lv_at hl 1 rfl) ?_
  refine va_calli (va_runV (As := [.int x]) (rest := []) ⟨hx, hb, hml, hown, hts⟩ (met_X4_has l D cI cZ cL wh wh0 wh1 wh2 wh3 wh4 wh5 nw x (by first | assumption | omega)) (cwV 1 hts gX5_smash_X4_has rfl rfl rfl (by decide +kernel) ⟨Nat.le_of_ble_eq_true rfl, Nat.le_of_ble_eq_true rfl⟩) (gw_pvr hK hP (wc := [(wh, .inr (4, [.ref wh0, .ref wh1, .ref wh2, .ref wh3, .ref wh4, .ref wh5, .int (nI nw)]))]) [2] rfl 4 rfl rfl rfl) rfl rfl hl.1 rfl (lv_room (Nat.le_of_ble_eq_true rfl)) dX5_smash_8 ⟨Nat.zero_le _, Nat.zero_le _⟩) hS (fun _ _ z => z.elim) (fun _ z => z.elim) (fun r_2 _ t H1 locs ht hvm hw hB hz1 hk1 hS => ?_)
  have hP := gw_ro hP hk1
  generalize H1 = H at hP hS ⊢
  rcases hw with ⟨rfl, hc⟩ | ⟨rfl, hc⟩
  · skip
    exact absurd hc hx1
  · skip
    refine lv_if_ne (tgt := 24) hx hb dX5_smash_11 (by decide) (fun c_4 => False.elim (by revert c_4; decide)) (fun _ => ?_)
    obtain ⟨sa, hsa⟩ := hSt (100, "no such wheel") (by decide +kernel)
    exact vx_throwS hx hb hfl hown (cls := gE1) (text := "no such wheel") (names := gNs) (A := gN) (by decide +kernel) (by decide +kernel) (hts _ wd_X5_smash_f1_4) (hts _ wd_X5_smash_f1_5) hsa (gw_hat (fun w h => hts w (List.mem_cons_of_mem _ (List.mem_append_left _ (List.mem_append_right _ h)))) gBad_1 hBd) gOt_1 hU hN hS (by rw [hml]; exact hl.1) dX5_smash_14 dX5_smash_17 dX5_smash_18 dX5_smash_20 dX5_smash_23 (fun x h => (hte x h).elim) (by decide) (by decide) (by decide) (by decide) hlocks (fun t hvm hz hq => ⟨(), trivial, rfl, gw_xF hS hz hq⟩) hS.2.2 (by decide) (by decide)

theorem wc_X5_smash_f2_X5 : ∀ w ∈ u_ws RX5 TX5 4, w ∈ wsX5_smash := by decide +kernel
theorem wd_X5_smash_f2_1 : (.fieldLink RX5 10 "GritWheels" "now" "LGritWheels$Quarry;" : Cond) ∈ wsX5_smash := by decide +kernel
theorem wc_X5_smash_f2_X2 : ∀ w ∈ u_ws RX2 TX2 5, w ∈ wsX5_smash := by decide +kernel
theorem wd_X5_smash_f2_3 : (.fieldLink RX5 93 "GritWheels$Quarry" "wheels" "LGritWheels$Wheels;" : Cond) ∈ wsX5_smash := by decide +kernel
theorem wc_X5_smash_f2_X4 : ∀ w ∈ u_ws RX4 TX4 7, w ∈ wsX5_smash := by decide +kernel
theorem wd_X5_smash_f2_5 : (.fieldLink RX5 102 "GritWheels$Wheels" "state" "[I" : Cond) ∈ wsX5_smash := by decide +kernel
theorem wd_X5_smash_f2_6 : (.classLink RX5 58 gE3 : Cond) ∈ wsX5_smash := by decide +kernel
theorem wd_X5_smash_f2_7 : (.initialized gE3 : Cond) ∈ wsX5_smash := by decide +kernel
set_option maxHeartbeats 4000000 in
set_option maxRecDepth 100000 in
theorem met_X5_smash_f2 (l : Launch) (hfl : l.stackTraces = false) (D : va_G) (cI cZ cL : ClassId) (gx : Nat) (qu : Nat) (qt : Nat) (rf : Nat) (qf : Nat) (bd : Nat) (cr : Nat) (wh : Nat) (wh0 : Nat) (wh1 : Nat) (wh2 : Nat) (wh3 : Nat) (wh4 : Nat) (wh5 : Nat) (co : Int32) (Q : Nat → Nat → Int32) (nw : Nat) (day : Nat) (k : Nat) (hk : k < nw) (hnw : nw ≤ 60) (hst : ¬ Q 13 k < 2) : vx_Met l yX5_smash wsX5_smash ({ frames := 6, cells := 1, slots := 6, locals := 90 }) (gPx [.ref gx, .int (nI k)] D [(gx, .inr (5, [.ref qu, .ref qt, .ref rf, .int co])), (qu, .inr (2, [.ref qf, .ref bd, .ref cr, .ref wh, .int (nI day)])), (wh, .inr (4, [.ref wh0, .ref wh1, .ref wh2, .ref wh3, .ref wh4, .ref wh5, .int (nI nw)])), (wh4, .inl (cI, 60, .inl (Q 13)))] (gT cI cZ cL)) (va_Qi (fun (_ : Int32) (_ : Unit) => False) (fun _ _ => True) gN) (vx_X (fun _ : Unit => True) (fun E _ _ => E = gE3) gN) 1 6 gN := by
  refine vx_ofW (cc := cX5_smash) (maxL := 2) (ret := (some .int)) (by decide +kernel) rfl ?_
  intro p e s m args below meth c s₁ B hml hte hv
  obtain ⟨rfl, hP, hK, hU, hN, hSt, hBd⟩ := hv
  have hx := B.exec
  have hb := B.bytes
  have hr := B.returns
  have hts := atoms_spec (ws := wsX5_smash) B.pre
  have hown : s.vm.findClass RX5 = some m.cls := findClass_of_methodNamed B.named
  have hlocks := B.notSynchronized
  have hS : va_S gN s.heap s.heap [] := va_S.rf
  have hP : va_P D vwCl [(gx, .inr (5, [.ref qu, .ref qt, .ref rf, .int co])), (qu, .inr (2, [.ref qf, .ref bd, .ref cr, .ref wh, .int (nI day)])), (wh, .inr (4, [.ref wh0, .ref wh1, .ref wh2, .ref wh3, .ref wh4, .ref wh5, .int (nI nw)])), (wh4, .inl (cI, 60, .inl (Q 13)))] s.heap := hP
  have hl := lv_entry ([.ref gx, .int (nI k)]) (n := 2) (Nat.le_of_ble_eq_true rfl)
  rw [lg_entry_eq]
  generalize (lg_sl ([.ref gx, .int (nI k)]) ++ List.replicate (2 - (lg_sl ([.ref gx, .int (nI k)])).length) Slot.unset).toArray = ls at hl ⊢
  have hl : lv_has ls 2 [(0, .ref gx), (1, .int (nI k))] := hl
  refine lv_aload_n hx hb dX5_smash_0 rfl (lv_at hl 0 rfl) ?_
  refine va_get (D := D) (ci := 5) (v := .ref qu) (C := RX5) (T := TX5) (N := 4) hx hb hts wc_X5_smash_f2_X5 hown hK hP 0 rfl rfl 0 (by decide) (hts _ wd_X5_smash_f2_1) (fun _ h9 => h9) rfl dX5_smash_1 ?_
  refine va_get (D := D) (ci := 2) (v := .ref wh) (C := RX2) (T := TX2) (N := 5) hx hb hts wc_X5_smash_f2_X2 hown hK hP 1 rfl rfl 3 (by decide) (hts _ wd_X5_smash_f2_3) (fun _ h9 => h9) rfl dX5_smash_4 ?_
  refine lv_iload_n hx hb dX5_smash_7 rfl (lv_at hl 1 rfl) ?_
  refine va_calli (va_runV (As := [.int (nI k)]) (rest := []) ⟨hx, hb, hml, hown, hts⟩ (met_X4_has l D cI cZ cL wh wh0 wh1 wh2 wh3 wh4 wh5 nw (nI k) (by first | assumption | omega)) (cwV 1 hts gX5_smash_X4_has rfl rfl rfl (by decide +kernel) ⟨Nat.le_of_ble_eq_true rfl, Nat.le_of_ble_eq_true rfl⟩) (gw_pvr hK hP (wc := [(wh, .inr (4, [.ref wh0, .ref wh1, .ref wh2, .ref wh3, .ref wh4, .ref wh5, .int (nI nw)]))]) [2] rfl 4 rfl rfl rfl) rfl rfl hl.1 rfl (lv_room (Nat.le_of_ble_eq_true rfl)) dX5_smash_8 ⟨Nat.zero_le _, Nat.zero_le _⟩) hS (fun _ _ z => z.elim) (fun _ z => z.elim) (fun r_2 _ t H1 locs ht hvm hw hB hz1 hk1 hS => ?_)
  have hP := gw_ro hP hk1
  generalize H1 = H at hP hS ⊢
  rcases hw with ⟨rfl, hc⟩ | ⟨rfl, hc⟩
  · skip
    refine lv_if_ne (tgt := 24) hx hb dX5_smash_11 (by decide) (fun _ => ?_) (fun c_4 => False.elim (by revert c_4; decide))
    refine lv_aload_n hx hb dX5_smash_24 rfl (lv_at hl 0 rfl) ?_
    refine va_get (D := D) (ci := 5) (v := .ref qu) (C := RX5) (T := TX5) (N := 4) hx hb hts wc_X5_smash_f2_X5 hown hK hP 0 rfl rfl 0 (by decide) (hts _ wd_X5_smash_f2_1) (fun _ h9 => h9) rfl dX5_smash_25 ?_
    refine va_get (D := D) (ci := 2) (v := .ref wh) (C := RX2) (T := TX2) (N := 5) hx hb hts wc_X5_smash_f2_X2 hown hK hP 1 rfl rfl 3 (by decide) (hts _ wd_X5_smash_f2_3) (fun _ h9 => h9) rfl dX5_smash_28 ?_
    refine va_get (D := D) (ci := 4) (v := .ref wh4) (C := RX4) (T := TX4) (N := 7) hx hb hts wc_X5_smash_f2_X4 hown hK hP 2 rfl rfl 4 (by decide) (hts _ wd_X5_smash_f2_5) (fun _ h9 => h9) rfl dX5_smash_31 ?_
    refine lv_iload_n hx hb dX5_smash_34 rfl (lv_at hl 1 rfl) ?_
    refine gw_iald hx hb hK hP 3 0 (k := k) rfl rfl (by omega) (by decide) dX5_smash_35 ?_
    refine lv_iconst (v := 2) hx hb dX5_smash_36 (by decide) ?_
    refine lv_icmp_lt (tgt := 50) hx hb dX5_smash_37 (by decide) (fun c_5 => (by first | exact absurd c_5 hst | exact absurd hst c_5)) (fun c_5 => ?_)
    obtain ⟨sa, hsa⟩ := hSt (110, "the wheel is loaded, shipped or broken") (by decide +kernel)
    exact vx_throwS hx hb hfl hown (cls := gE3) (text := "the wheel is loaded, shipped or broken") (names := gNs) (A := gN) (by decide +kernel) (by decide +kernel) (hts _ wd_X5_smash_f2_6) (hts _ wd_X5_smash_f2_7) hsa (gw_hat (fun w h => hts w (List.mem_cons_of_mem _ (List.mem_append_right _ h))) gBad_3 hBd) gOt_3 hU hN hS (by rw [hml]; exact hl.1) dX5_smash_40 dX5_smash_43 dX5_smash_44 dX5_smash_46 dX5_smash_49 (fun x h => (hte x h).elim) (by decide) (by decide) (by decide) (by decide) hlocks (fun t hvm hz hq => ⟨(), trivial, rfl, gw_xF hS hz hq⟩) hS.2.2 (by decide) (by decide)
  · skip
    exact absurd ⟨k, hk, rfl⟩ hc

theorem wd_X5_build_f1_0 : (.classLink RX5 37 gE2 : Cond) ∈ wsX5_build := by decide +kernel
theorem wd_X5_build_f1_1 : (.initialized gE2 : Cond) ∈ wsX5_build := by decide +kernel
set_option maxHeartbeats 4000000 in
set_option maxRecDepth 100000 in
theorem met_X5_build_f1 (l : Launch) (hfl : l.stackTraces = false) (D : va_G) (cI cZ cL : ClassId) (gx : Nat) (qu : Nat) (qt : Nat) (rf : Nat) (co : Int32) (y : Int32) (hy : ¬ ((20 : Int32) ≤ y ∧ y ≤ 400)) : vx_Met l yX5_build wsX5_build ({ frames := 6, cells := 1, slots := 6, locals := 90 }) (gPx [.ref gx, .int y] D [(gx, .inr (5, [.ref qu, .ref qt, .ref rf, .int co]))] (gT cI cZ cL)) (va_Qi (fun (_ : Int32) (_ : Unit) => False) (fun _ _ => True) gN) (vx_X (fun _ : Unit => True) (fun E _ _ => E = gE2) gN) 1 6 gN := by
  refine vx_ofW (cc := cX5_build) (maxL := 2) (ret := (some .int)) (by decide +kernel) rfl ?_
  intro p e s m args below meth c s₁ B hml hte hv
  obtain ⟨rfl, hP, hK, hU, hN, hSt, hBd⟩ := hv
  have hx := B.exec
  have hb := B.bytes
  have hr := B.returns
  have hts := atoms_spec (ws := wsX5_build) B.pre
  have hown : s.vm.findClass RX5 = some m.cls := findClass_of_methodNamed B.named
  have hlocks := B.notSynchronized
  have hS : va_S gN s.heap s.heap [] := va_S.rf
  have hP : va_P D vwCl [(gx, .inr (5, [.ref qu, .ref qt, .ref rf, .int co]))] s.heap := hP
  have hl := lv_entry ([.ref gx, .int y]) (n := 2) (Nat.le_of_ble_eq_true rfl)
  rw [lg_entry_eq]
  generalize (lg_sl ([.ref gx, .int y]) ++ List.replicate (2 - (lg_sl ([.ref gx, .int y])).length) Slot.unset).toArray = ls at hl ⊢
  have hl : lv_has ls 2 [(0, .ref gx), (1, .int y)] := hl
  refine lv_iload_n hx hb dX5_build_0 rfl (lv_at hl 1 rfl) ?_
  refine lv_bipush (v := 20) hx hb dX5_build_1 (by decide) ?_
  refine lv_sipush (v := 400) hx hb dX5_build_3 (by decide) ?_
  refine va_calli (va_runS (As := [.int y, .int 20, .int 400]) (rest := []) ⟨hx, hb, hml, hown, hts⟩ (met_X5_isWithin l D cI cZ cL y 20 400) (va_cwS 3 hts gX5_build_X5_isWithin rfl rfl rfl (by decide +kernel) ⟨Nat.le_of_ble_eq_true rfl, Nat.le_of_ble_eq_true rfl⟩) (gw_psr hK hP (wc := []) [] rfl) rfl rfl hl.1 rfl (lv_room (Nat.le_of_ble_eq_true rfl)) dX5_build_6 ⟨Nat.zero_le _, Nat.zero_le _⟩) hS (fun _ _ z => z.elim) (fun _ z => z.elim) (fun r_2 _ t H1 locs ht hvm hw hB hz1 hk1 hS => ?_)
  have hP := gw_ro hP hk1
  generalize H1 = H at hP hS ⊢
  rcases hw with ⟨rfl, hc⟩ | ⟨rfl, hc⟩
  · skip
    exact absurd hc hy
  · skip
    refine lv_if_ne (tgt := 22) hx hb dX5_build_9 (by decide) (fun c_4 => False.elim (by revert c_4; decide)) (fun _ => ?_)
    obtain ⟨sa, hsa⟩ := hSt (122, "a raft carries 20 to 400") (by decide +kernel)
    exact vx_throwS hx hb hfl hown (cls := gE2) (text := "a raft carries 20 to 400") (names := gNs) (A := gN) (by decide +kernel) (by decide +kernel) (hts _ wd_X5_build_f1_0) (hts _ wd_X5_build_f1_1) hsa (gw_hat (fun w h => hts w (List.mem_cons_of_mem _ (List.mem_append_left _ (List.mem_append_right _ h)))) gBad_2 hBd) gOt_2 hU hN hS (by rw [hml]; exact hl.1) dX5_build_12 dX5_build_15 dX5_build_16 dX5_build_18 dX5_build_21 (fun x h => (hte x h).elim) (by decide) (by decide) (by decide) (by decide) hlocks (fun t hvm hz hq => ⟨(), trivial, rfl, gw_xF hS hz hq⟩) hS.2.2 (by decide) (by decide)

theorem wc_X5_build_f2_X5 : ∀ w ∈ u_ws RX5 TX5 4, w ∈ wsX5_build := by decide +kernel
theorem wd_X5_build_f2_1 : (.fieldLink RX5 22 "GritWheels" "rafts" "LGritWheels$Rafts;" : Cond) ∈ wsX5_build := by decide +kernel
theorem wc_X5_build_f2_X3 : ∀ w ∈ u_ws RX3 TX3 3, w ∈ wsX5_build := by decide +kernel
theorem wd_X5_build_f2_3 : (.fieldLink RX5 124 "GritWheels$Rafts" "number" "I" : Cond) ∈ wsX5_build := by decide +kernel
theorem wd_X5_build_f2_4 : (.classLink RX5 58 gE3 : Cond) ∈ wsX5_build := by decide +kernel
theorem wd_X5_build_f2_5 : (.initialized gE3 : Cond) ∈ wsX5_build := by decide +kernel
set_option maxHeartbeats 4000000 in
set_option maxRecDepth 100000 in
theorem met_X5_build_f2 (l : Launch) (hfl : l.stackTraces = false) (D : va_G) (cI cZ cL : ClassId) (gx : Nat) (qu : Nat) (qt : Nat) (rf : Nat) (rf0 : Nat) (rf1 : Nat) (co : Int32) (nr : Nat) (y : Int32) (hy : 20 ≤ y ∧ y ≤ 400) (hnr : nr = 3) : vx_Met l yX5_build wsX5_build ({ frames := 6, cells := 1, slots := 6, locals := 90 }) (gPx [.ref gx, .int y] D [(gx, .inr (5, [.ref qu, .ref qt, .ref rf, .int co])), (rf, .inr (3, [.ref rf0, .ref rf1, .int (nI nr)]))] (gT cI cZ cL)) (va_Qi (fun (_ : Int32) (_ : Unit) => False) (fun _ _ => True) gN) (vx_X (fun _ : Unit => True) (fun E _ _ => E = gE3) gN) 1 6 gN := by
  refine vx_ofW (cc := cX5_build) (maxL := 2) (ret := (some .int)) (by decide +kernel) rfl ?_
  intro p e s m args below meth c s₁ B hml hte hv
  obtain ⟨rfl, hP, hK, hU, hN, hSt, hBd⟩ := hv
  have hx := B.exec
  have hb := B.bytes
  have hr := B.returns
  have hts := atoms_spec (ws := wsX5_build) B.pre
  have hown : s.vm.findClass RX5 = some m.cls := findClass_of_methodNamed B.named
  have hlocks := B.notSynchronized
  have hS : va_S gN s.heap s.heap [] := va_S.rf
  have hP : va_P D vwCl [(gx, .inr (5, [.ref qu, .ref qt, .ref rf, .int co])), (rf, .inr (3, [.ref rf0, .ref rf1, .int (nI nr)]))] s.heap := hP
  have hl := lv_entry ([.ref gx, .int y]) (n := 2) (Nat.le_of_ble_eq_true rfl)
  rw [lg_entry_eq]
  generalize (lg_sl ([.ref gx, .int y]) ++ List.replicate (2 - (lg_sl ([.ref gx, .int y])).length) Slot.unset).toArray = ls at hl ⊢
  have hl : lv_has ls 2 [(0, .ref gx), (1, .int y)] := hl
  refine lv_iload_n hx hb dX5_build_0 rfl (lv_at hl 1 rfl) ?_
  refine lv_bipush (v := 20) hx hb dX5_build_1 (by decide) ?_
  refine lv_sipush (v := 400) hx hb dX5_build_3 (by decide) ?_
  refine va_calli (va_runS (As := [.int y, .int 20, .int 400]) (rest := []) ⟨hx, hb, hml, hown, hts⟩ (met_X5_isWithin l D cI cZ cL y 20 400) (va_cwS 3 hts gX5_build_X5_isWithin rfl rfl rfl (by decide +kernel) ⟨Nat.le_of_ble_eq_true rfl, Nat.le_of_ble_eq_true rfl⟩) (gw_psr hK hP (wc := []) [] rfl) rfl rfl hl.1 rfl (lv_room (Nat.le_of_ble_eq_true rfl)) dX5_build_6 ⟨Nat.zero_le _, Nat.zero_le _⟩) hS (fun _ _ z => z.elim) (fun _ z => z.elim) (fun r_2 _ t H1 locs ht hvm hw hB hz1 hk1 hS => ?_)
  have hP := gw_ro hP hk1
  generalize H1 = H at hP hS ⊢
  rcases hw with ⟨rfl, hc⟩ | ⟨rfl, hc⟩
  · skip
    refine lv_if_ne (tgt := 22) hx hb dX5_build_9 (by decide) (fun _ => ?_) (fun c_4 => False.elim (by revert c_4; decide))
    refine lv_aload_n hx hb dX5_build_22 rfl (lv_at hl 0 rfl) ?_
    refine va_get (D := D) (ci := 5) (v := .ref rf) (C := RX5) (T := TX5) (N := 4) hx hb hts wc_X5_build_f2_X5 hown hK hP 0 rfl rfl 2 (by decide) (hts _ wd_X5_build_f2_1) (fun _ h9 => h9) rfl dX5_build_23 ?_
    refine va_get (D := D) (ci := 3) (v := .int (nI nr)) (C := RX3) (T := TX3) (N := 3) hx hb hts wc_X5_build_f2_X3 hown hK hP 1 rfl rfl 2 (by decide) (hts _ wd_X5_build_f2_3) (fun _ h9 => h9) rfl dX5_build_26 ?_
    refine lv_iconst (v := 3) hx hb dX5_build_29 (by decide) ?_
    refine lv_icmp_lt (tgt := 43) hx hb dX5_build_30 (by decide) (fun c_5 => (by first | exact absurd c_5 (show ¬ nI nr < 3 by rw [hnr]; decide) | exact absurd (show ¬ nI nr < 3 by rw [hnr]; decide) c_5)) (fun c_5 => ?_)
    obtain ⟨sa, hsa⟩ := hSt (125, "there are 3 rafts") (by decide +kernel)
    exact vx_throwS hx hb hfl hown (cls := gE3) (text := "there are 3 rafts") (names := gNs) (A := gN) (by decide +kernel) (by decide +kernel) (hts _ wd_X5_build_f2_4) (hts _ wd_X5_build_f2_5) hsa (gw_hat (fun w h => hts w (List.mem_cons_of_mem _ (List.mem_append_right _ h))) gBad_3 hBd) gOt_3 hU hN hS (by rw [hml]; exact hl.1) dX5_build_33 dX5_build_36 dX5_build_37 dX5_build_39 dX5_build_42 (fun x h => (hte x h).elim) (by decide) (by decide) (by decide) (by decide) hlocks (fun t hvm hz hq => ⟨(), trivial, rfl, gw_xF hS hz hq⟩) hS.2.2 (by decide) (by decide)
  · skip
    exact absurd hy hc

theorem wc_X5_load_f1_X5 : ∀ w ∈ u_ws RX5 TX5 4, w ∈ wsX5_load := by decide +kernel
theorem wd_X5_load_f1_1 : (.fieldLink RX5 10 "GritWheels" "now" "LGritWheels$Quarry;" : Cond) ∈ wsX5_load := by decide +kernel
theorem wc_X5_load_f1_X2 : ∀ w ∈ u_ws RX2 TX2 5, w ∈ wsX5_load := by decide +kernel
theorem wd_X5_load_f1_3 : (.fieldLink RX5 93 "GritWheels$Quarry" "wheels" "LGritWheels$Wheels;" : Cond) ∈ wsX5_load := by decide +kernel
theorem wd_X5_load_f1_4 : (.fieldLink RX5 22 "GritWheels" "rafts" "LGritWheels$Rafts;" : Cond) ∈ wsX5_load := by decide +kernel
theorem wd_X5_load_f1_5 : (.classLink RX5 30 gE1 : Cond) ∈ wsX5_load := by decide +kernel
theorem wd_X5_load_f1_6 : (.initialized gE1 : Cond) ∈ wsX5_load := by decide +kernel
set_option maxHeartbeats 4000000 in
set_option maxRecDepth 100000 in
theorem met_X5_load_f1 (l : Launch) (hfl : l.stackTraces = false) (D : va_G) (cI cZ cL : ClassId) (gx : Nat) (qu : Nat) (qt : Nat) (rf : Nat) (qf : Nat) (bd : Nat) (cr : Nat) (wh : Nat) (wh0 : Nat) (wh1 : Nat) (wh2 : Nat) (wh3 : Nat) (wh4 : Nat) (wh5 : Nat) (rf0 : Nat) (rf1 : Nat) (co : Int32) (nw : Nat) (day : Nat) (nr : Nat) (x : Int32) (y : Int32) (hnw : nw ≤ 60) (hnr : nr ≤ 3) (hxy : ¬ ((∃ kk, kk < nw ∧ x = nI kk) ∧ ∃ kk, kk < nr ∧ y = nI kk)) : vx_Met l yX5_load wsX5_load ({ frames := 6, cells := 1, slots := 6, locals := 90 }) (gPx [.ref gx, .int x, .int y] D [(gx, .inr (5, [.ref qu, .ref qt, .ref rf, .int co])), (qu, .inr (2, [.ref qf, .ref bd, .ref cr, .ref wh, .int (nI day)])), (wh, .inr (4, [.ref wh0, .ref wh1, .ref wh2, .ref wh3, .ref wh4, .ref wh5, .int (nI nw)])), (rf, .inr (3, [.ref rf0, .ref rf1, .int (nI nr)]))] (gT cI cZ cL)) (va_Qi (fun (_ : Int32) (_ : Unit) => False) (fun _ _ => True) gN) (vx_X (fun _ : Unit => True) (fun E _ _ => E = gE1) gN) 1 6 gN := by
  refine vx_ofW (cc := cX5_load) (maxL := 3) (ret := (some .int)) (by decide +kernel) rfl ?_
  intro p e s m args below meth c s₁ B hml hte hv
  obtain ⟨rfl, hP, hK, hU, hN, hSt, hBd⟩ := hv
  have hx := B.exec
  have hb := B.bytes
  have hr := B.returns
  have hts := atoms_spec (ws := wsX5_load) B.pre
  have hown : s.vm.findClass RX5 = some m.cls := findClass_of_methodNamed B.named
  have hlocks := B.notSynchronized
  have hS : va_S gN s.heap s.heap [] := va_S.rf
  have hP : va_P D vwCl [(gx, .inr (5, [.ref qu, .ref qt, .ref rf, .int co])), (qu, .inr (2, [.ref qf, .ref bd, .ref cr, .ref wh, .int (nI day)])), (wh, .inr (4, [.ref wh0, .ref wh1, .ref wh2, .ref wh3, .ref wh4, .ref wh5, .int (nI nw)])), (rf, .inr (3, [.ref rf0, .ref rf1, .int (nI nr)]))] s.heap := hP
  have hl := lv_entry ([.ref gx, .int x, .int y]) (n := 3) (Nat.le_of_ble_eq_true rfl)
  rw [lg_entry_eq]
  generalize (lg_sl ([.ref gx, .int x, .int y]) ++ List.replicate (3 - (lg_sl ([.ref gx, .int x, .int y])).length) Slot.unset).toArray = ls at hl ⊢
  have hl : lv_has ls 3 [(0, .ref gx), (1, .int x), (2, .int y)] := hl
  refine lv_aload_n hx hb dX5_load_0 rfl (lv_at hl 0 rfl) ?_
  refine va_get (D := D) (ci := 5) (v := .ref qu) (C := RX5) (T := TX5) (N := 4) hx hb hts wc_X5_load_f1_X5 hown hK hP 0 rfl rfl 0 (by decide) (hts _ wd_X5_load_f1_1) (fun _ h9 => h9) rfl dX5_load_1 ?_
  refine va_get (D := D) (ci := 2) (v := .ref wh) (C := RX2) (T := TX2) (N := 5) hx hb hts wc_X5_load_f1_X2 hown hK hP 1 rfl rfl 3 (by decide) (hts _ wd_X5_load_f1_3) (fun _ h9 => h9) rfl dX5_load_4 ?_
  refine lv_iload_n hx hb dX5_load_7 rfl (lv_at hl 1 rfl) ?_
  refine va_calli (va_runV (As := [.int x]) (rest := []) ⟨hx, hb, hml, hown, hts⟩ (met_X4_has l D cI cZ cL wh wh0 wh1 wh2 wh3 wh4 wh5 nw x (by first | assumption | omega)) (cwV 1 hts gX5_load_X4_has rfl rfl rfl (by decide +kernel) ⟨Nat.le_of_ble_eq_true rfl, Nat.le_of_ble_eq_true rfl⟩) (gw_pvr hK hP (wc := [(wh, .inr (4, [.ref wh0, .ref wh1, .ref wh2, .ref wh3, .ref wh4, .ref wh5, .int (nI nw)]))]) [2] rfl 4 rfl rfl rfl) rfl rfl hl.1 rfl (lv_room (Nat.le_of_ble_eq_true rfl)) dX5_load_8 ⟨Nat.zero_le _, Nat.zero_le _⟩) hS (fun _ _ z => z.elim) (fun _ z => z.elim) (fun r_2 _ t H1 locs ht hvm hw hB hz1 hk1 hS => ?_)
  have hP := gw_ro hP hk1
  generalize H1 = H at hP hS ⊢
  rcases hw with ⟨rfl, hc1⟩ | ⟨rfl, hc1⟩
  · skip
    refine lv_if_eq (tgt := 25) hx hb dX5_load_11 (by decide) (fun c_4 => False.elim (by revert c_4; decide)) (fun _ => ?_)
    refine lv_aload_n hx hb dX5_load_14 rfl (lv_at hl 0 rfl) ?_
    refine va_get (D := D) (ci := 5) (v := .ref rf) (C := RX5) (T := TX5) (N := 4) hx hb hts wc_X5_load_f1_X5 hown hK hP 0 rfl rfl 2 (by decide) (hts _ wd_X5_load_f1_4) (fun _ h9 => h9) rfl dX5_load_15 ?_
    refine lv_iload_n hx hb dX5_load_18 rfl (lv_at hl 2 rfl) ?_
    refine va_calli (va_runV (As := [.int y]) (rest := []) ⟨hx, hb, hml, hown, hts⟩ (met_X3_has l D cI cZ cL rf rf0 rf1 nr y (by first | assumption | omega)) (cwV 1 hts gX5_load_X3_has rfl rfl rfl (by decide +kernel) ⟨Nat.le_of_ble_eq_true rfl, Nat.le_of_ble_eq_true rfl⟩) (gw_pvr hK hP (wc := [(rf, .inr (3, [.ref rf0, .ref rf1, .int (nI nr)]))]) [3] rfl 3 rfl rfl rfl) rfl rfl hl.1 rfl (lv_room (Nat.le_of_ble_eq_true rfl)) dX5_load_19 ⟨Nat.zero_le _, Nat.zero_le _⟩) hS (fun _ _ z => z.elim) (fun _ z => z.elim) (fun r_6 _ t H1 locs ht hvm hw hB hz1 hk1 hS => ?_)
    have hP := gw_ro hP hk1
    generalize H1 = H at hP hS ⊢
    rcases hw with ⟨rfl, hc2⟩ | ⟨rfl, hc2⟩
    · skip
      exact absurd ⟨hc1, hc2⟩ hxy
    · skip
      refine lv_if_ne (tgt := 35) hx hb dX5_load_22 (by decide) (fun c_8 => False.elim (by revert c_8; decide)) (fun _ => ?_)
      obtain ⟨sa, hsa⟩ := hSt (129, "no such wheel or raft") (by decide +kernel)
      exact vx_throwS hx hb hfl hown (cls := gE1) (text := "no such wheel or raft") (names := gNs) (A := gN) (by decide +kernel) (by decide +kernel) (hts _ wd_X5_load_f1_5) (hts _ wd_X5_load_f1_6) hsa (gw_hat (fun w h => hts w (List.mem_cons_of_mem _ (List.mem_append_left _ (List.mem_append_right _ h)))) gBad_1 hBd) gOt_1 hU hN hS (by rw [hml]; exact hl.1) dX5_load_25 dX5_load_28 dX5_load_29 dX5_load_31 dX5_load_34 (fun x h => (hte x h).elim) (by decide) (by decide) (by decide) (by decide) hlocks (fun t hvm hz hq => ⟨(), trivial, rfl, gw_xF hS hz hq⟩) hS.2.2 (by decide) (by decide)
  · skip
    refine lv_if_eq (tgt := 25) hx hb dX5_load_11 (by decide) (fun _ => ?_) (fun c_9 => False.elim (by revert c_9; decide))
    obtain ⟨sa, hsa⟩ := hSt (129, "no such wheel or raft") (by decide +kernel)
    exact vx_throwS hx hb hfl hown (cls := gE1) (text := "no such wheel or raft") (names := gNs) (A := gN) (by decide +kernel) (by decide +kernel) (hts _ wd_X5_load_f1_5) (hts _ wd_X5_load_f1_6) hsa (gw_hat (fun w h => hts w (List.mem_cons_of_mem _ (List.mem_append_left _ (List.mem_append_right _ h)))) gBad_1 hBd) gOt_1 hU hN hS (by rw [hml]; exact hl.1) dX5_load_25 dX5_load_28 dX5_load_29 dX5_load_31 dX5_load_34 (fun x h => (hte x h).elim) (by decide) (by decide) (by decide) (by decide) hlocks (fun t hvm hz hq => ⟨(), trivial, rfl, gw_xF hS hz hq⟩) hS.2.2 (by decide) (by decide)

theorem wc_X5_load_f2_X5 : ∀ w ∈ u_ws RX5 TX5 4, w ∈ wsX5_load := by decide +kernel
theorem wd_X5_load_f2_1 : (.fieldLink RX5 10 "GritWheels" "now" "LGritWheels$Quarry;" : Cond) ∈ wsX5_load := by decide +kernel
theorem wc_X5_load_f2_X2 : ∀ w ∈ u_ws RX2 TX2 5, w ∈ wsX5_load := by decide +kernel
theorem wd_X5_load_f2_3 : (.fieldLink RX5 93 "GritWheels$Quarry" "wheels" "LGritWheels$Wheels;" : Cond) ∈ wsX5_load := by decide +kernel
theorem wd_X5_load_f2_4 : (.fieldLink RX5 22 "GritWheels" "rafts" "LGritWheels$Rafts;" : Cond) ∈ wsX5_load := by decide +kernel
theorem wc_X5_load_f2_X4 : ∀ w ∈ u_ws RX4 TX4 7, w ∈ wsX5_load := by decide +kernel
theorem wd_X5_load_f2_6 : (.fieldLink RX5 102 "GritWheels$Wheels" "state" "[I" : Cond) ∈ wsX5_load := by decide +kernel
theorem wd_X5_load_f2_7 : (.fieldLink RX5 133 "GritWheels$Quarry" "day" "I" : Cond) ∈ wsX5_load := by decide +kernel
theorem wd_X5_load_f2_8 : (.classLink RX5 58 gE3 : Cond) ∈ wsX5_load := by decide +kernel
theorem wd_X5_load_f2_9 : (.initialized gE3 : Cond) ∈ wsX5_load := by decide +kernel
set_option maxHeartbeats 4000000 in
set_option maxRecDepth 100000 in
theorem met_X5_load_f2 (l : Launch) (hfl : l.stackTraces = false) (D : va_G) (cI cZ cL : ClassId) (gx : Nat) (qu : Nat) (qt : Nat) (rf : Nat) (qf : Nat) (bd : Nat) (cr : Nat) (wh : Nat) (wh0 : Nat) (wh1 : Nat) (wh2 : Nat) (wh3 : Nat) (wh4 : Nat) (wh5 : Nat) (rf0 : Nat) (rf1 : Nat) (co : Int32) (Q : Nat → Nat → Int32) (nw : Nat) (day : Nat) (nr : Nat) (ca : Nat → Int32) (bo : Nat → Int32) (k : Nat) (r : Nat) (hk : k < nw) (hr2 : r < nr) (hnw : nw ≤ 60) (hnr : nr ≤ 3) (hno : ¬ (Q 13 k = 1 ∧ (¬ nI day < bo r) ∧ 2 * Q 11 k * Q 11 k ≤ gStill Q nw ca r)) : vx_Met l yX5_load wsX5_load ({ frames := 6, cells := 1, slots := 6, locals := 90 }) (gPx [.ref gx, .int (nI k), .int (nI r)] D [(gx, .inr (5, [.ref qu, .ref qt, .ref rf, .int co])), (qu, .inr (2, [.ref qf, .ref bd, .ref cr, .ref wh, .int (nI day)])), (wh, .inr (4, [.ref wh0, .ref wh1, .ref wh2, .ref wh3, .ref wh4, .ref wh5, .int (nI nw)])), (wh2, .inl (cI, 60, .inl (Q 11))), (wh4, .inl (cI, 60, .inl (Q 13))), (wh5, .inl (cI, 60, .inl (Q 14))), (rf, .inr (3, [.ref rf0, .ref rf1, .int (nI nr)])), (rf0, .inl (cI, 3, .inl ca)), (rf1, .inl (cI, 3, .inl bo))] (gT cI cZ cL)) (va_Qi (fun (_ : Int32) (_ : Unit) => False) (fun _ _ => True) gN) (vx_X (fun _ : Unit => True) (fun E _ _ => E = gE3) gN) 1 6 gN := by
  refine vx_ofW (cc := cX5_load) (maxL := 3) (ret := (some .int)) (by decide +kernel) rfl ?_
  intro p e s m args below meth c s₁ B hml hte hv
  obtain ⟨rfl, hP, hK, hU, hN, hSt, hBd⟩ := hv
  have hx := B.exec
  have hb := B.bytes
  have hr := B.returns
  have hts := atoms_spec (ws := wsX5_load) B.pre
  have hown : s.vm.findClass RX5 = some m.cls := findClass_of_methodNamed B.named
  have hlocks := B.notSynchronized
  have hS : va_S gN s.heap s.heap [] := va_S.rf
  have hP : va_P D vwCl [(gx, .inr (5, [.ref qu, .ref qt, .ref rf, .int co])), (qu, .inr (2, [.ref qf, .ref bd, .ref cr, .ref wh, .int (nI day)])), (wh, .inr (4, [.ref wh0, .ref wh1, .ref wh2, .ref wh3, .ref wh4, .ref wh5, .int (nI nw)])), (wh2, .inl (cI, 60, .inl (Q 11))), (wh4, .inl (cI, 60, .inl (Q 13))), (wh5, .inl (cI, 60, .inl (Q 14))), (rf, .inr (3, [.ref rf0, .ref rf1, .int (nI nr)])), (rf0, .inl (cI, 3, .inl ca)), (rf1, .inl (cI, 3, .inl bo))] s.heap := hP
  have hl := lv_entry ([.ref gx, .int (nI k), .int (nI r)]) (n := 3) (Nat.le_of_ble_eq_true rfl)
  rw [lg_entry_eq]
  generalize (lg_sl ([.ref gx, .int (nI k), .int (nI r)]) ++ List.replicate (3 - (lg_sl ([.ref gx, .int (nI k), .int (nI r)])).length) Slot.unset).toArray = ls at hl ⊢
  have hl : lv_has ls 3 [(0, .ref gx), (1, .int (nI k)), (2, .int (nI r))] := hl
  refine lv_aload_n hx hb dX5_load_0 rfl (lv_at hl 0 rfl) ?_
  refine va_get (D := D) (ci := 5) (v := .ref qu) (C := RX5) (T := TX5) (N := 4) hx hb hts wc_X5_load_f2_X5 hown hK hP 0 rfl rfl 0 (by decide) (hts _ wd_X5_load_f2_1) (fun _ h9 => h9) rfl dX5_load_1 ?_
  refine va_get (D := D) (ci := 2) (v := .ref wh) (C := RX2) (T := TX2) (N := 5) hx hb hts wc_X5_load_f2_X2 hown hK hP 1 rfl rfl 3 (by decide) (hts _ wd_X5_load_f2_3) (fun _ h9 => h9) rfl dX5_load_4 ?_
  refine lv_iload_n hx hb dX5_load_7 rfl (lv_at hl 1 rfl) ?_
  refine va_calli (va_runV (As := [.int (nI k)]) (rest := []) ⟨hx, hb, hml, hown, hts⟩ (met_X4_has l D cI cZ cL wh wh0 wh1 wh2 wh3 wh4 wh5 nw (nI k) (by first | assumption | omega)) (cwV 1 hts gX5_load_X4_has rfl rfl rfl (by decide +kernel) ⟨Nat.le_of_ble_eq_true rfl, Nat.le_of_ble_eq_true rfl⟩) (gw_pvr hK hP (wc := [(wh, .inr (4, [.ref wh0, .ref wh1, .ref wh2, .ref wh3, .ref wh4, .ref wh5, .int (nI nw)]))]) [2] rfl 4 rfl rfl rfl) rfl rfl hl.1 rfl (lv_room (Nat.le_of_ble_eq_true rfl)) dX5_load_8 ⟨Nat.zero_le _, Nat.zero_le _⟩) hS (fun _ _ z => z.elim) (fun _ z => z.elim) (fun r_2 _ t H1 locs ht hvm hw hB hz1 hk1 hS => ?_)
  have hP := gw_ro hP hk1
  generalize H1 = H at hP hS ⊢
  rcases hw with ⟨rfl, hc⟩ | ⟨rfl, hc⟩
  · skip
    refine lv_if_eq (tgt := 25) hx hb dX5_load_11 (by decide) (fun c_4 => False.elim (by revert c_4; decide)) (fun _ => ?_)
    refine lv_aload_n hx hb dX5_load_14 rfl (lv_at hl 0 rfl) ?_
    refine va_get (D := D) (ci := 5) (v := .ref rf) (C := RX5) (T := TX5) (N := 4) hx hb hts wc_X5_load_f2_X5 hown hK hP 0 rfl rfl 2 (by decide) (hts _ wd_X5_load_f2_4) (fun _ h9 => h9) rfl dX5_load_15 ?_
    refine lv_iload_n hx hb dX5_load_18 rfl (lv_at hl 2 rfl) ?_
    refine va_calli (va_runV (As := [.int (nI r)]) (rest := []) ⟨hx, hb, hml, hown, hts⟩ (met_X3_has l D cI cZ cL rf rf0 rf1 nr (nI r) (by first | assumption | omega)) (cwV 1 hts gX5_load_X3_has rfl rfl rfl (by decide +kernel) ⟨Nat.le_of_ble_eq_true rfl, Nat.le_of_ble_eq_true rfl⟩) (gw_pvr hK hP (wc := [(rf, .inr (3, [.ref rf0, .ref rf1, .int (nI nr)]))]) [6] rfl 3 rfl rfl rfl) rfl rfl hl.1 rfl (lv_room (Nat.le_of_ble_eq_true rfl)) dX5_load_19 ⟨Nat.zero_le _, Nat.zero_le _⟩) hS (fun _ _ z => z.elim) (fun _ z => z.elim) (fun r_6 _ t H1 locs ht hvm hw hB hz1 hk1 hS => ?_)
    have hP := gw_ro hP hk1
    generalize H1 = H at hP hS ⊢
    rcases hw with ⟨rfl, hc⟩ | ⟨rfl, hc⟩
    · skip
      refine lv_if_ne (tgt := 35) hx hb dX5_load_22 (by decide) (fun _ => ?_) (fun c_8 => False.elim (by revert c_8; decide))
      refine lv_aload_n hx hb dX5_load_35 rfl (lv_at hl 0 rfl) ?_
      refine va_get (D := D) (ci := 5) (v := .ref qu) (C := RX5) (T := TX5) (N := 4) hx hb hts wc_X5_load_f2_X5 hown hK hP 0 rfl rfl 0 (by decide) (hts _ wd_X5_load_f2_1) (fun _ h9 => h9) rfl dX5_load_36 ?_
      refine va_get (D := D) (ci := 2) (v := .ref wh) (C := RX2) (T := TX2) (N := 5) hx hb hts wc_X5_load_f2_X2 hown hK hP 1 rfl rfl 3 (by decide) (hts _ wd_X5_load_f2_3) (fun _ h9 => h9) rfl dX5_load_39 ?_
      refine va_get (D := D) (ci := 4) (v := .ref wh4) (C := RX4) (T := TX4) (N := 7) hx hb hts wc_X5_load_f2_X4 hown hK hP 2 rfl rfl 4 (by decide) (hts _ wd_X5_load_f2_6) (fun _ h9 => h9) rfl dX5_load_42 ?_
      refine lv_iload_n hx hb dX5_load_45 rfl (lv_at hl 1 rfl) ?_
      refine gw_iald hx hb hK hP 4 0 (k := k) rfl rfl (by omega) (by decide) dX5_load_46 ?_
      refine lv_iconst (v := 1) hx hb dX5_load_47 (by decide) ?_
      refine lv_icmp_eq (tgt := 61) hx hb dX5_load_48 (by decide) (fun h1 => ?_) (fun h1 => ?_)
      · skip
        refine lv_aload_n hx hb dX5_load_61 rfl (lv_at hl 0 rfl) ?_
        refine va_get (D := D) (ci := 5) (v := .ref rf) (C := RX5) (T := TX5) (N := 4) hx hb hts wc_X5_load_f2_X5 hown hK hP 0 rfl rfl 2 (by decide) (hts _ wd_X5_load_f2_4) (fun _ h9 => h9) rfl dX5_load_62 ?_
        refine lv_iload_n hx hb dX5_load_65 rfl (lv_at hl 2 rfl) ?_
        refine lv_aload_n hx hb dX5_load_66 rfl (lv_at hl 0 rfl) ?_
        refine va_get (D := D) (ci := 5) (v := .ref qu) (C := RX5) (T := TX5) (N := 4) hx hb hts wc_X5_load_f2_X5 hown hK hP 0 rfl rfl 0 (by decide) (hts _ wd_X5_load_f2_1) (fun _ h9 => h9) rfl dX5_load_67 ?_
        refine va_get (D := D) (ci := 2) (v := .int (nI day)) (C := RX2) (T := TX2) (N := 5) hx hb hts wc_X5_load_f2_X2 hown hK hP 1 rfl rfl 4 (by decide) (hts _ wd_X5_load_f2_7) (fun _ h9 => h9) rfl dX5_load_70 ?_
        refine va_calli (va_runV (As := [.int (nI r), .int (nI day)]) (rest := []) ⟨hx, hb, hml, hown, hts⟩ (met_X3_isAway l D cI cZ cL rf rf0 rf1 nr bo r day (by first | assumption | omega)) (cwV 2 hts gX5_load_X3_isAway rfl rfl rfl (by decide +kernel) ⟨Nat.le_of_ble_eq_true rfl, Nat.le_of_ble_eq_true rfl⟩) (gw_pvr hK hP (wc := [(rf, .inr (3, [.ref rf0, .ref rf1, .int (nI nr)])), (rf1, .inl (cI, 3, .inl bo))]) [6, 8] rfl 3 rfl rfl rfl) rfl rfl hl.1 rfl (lv_room (Nat.le_of_ble_eq_true rfl)) dX5_load_73 ⟨Nat.zero_le _, Nat.zero_le _⟩) hS (fun _ _ z => z.elim) (fun _ z => z.elim) (fun r_11 _ t H1 locs ht hvm hw hB hz1 hk1 hS => ?_)
        have hP := gw_ro hP hk1
        generalize H1 = H at hP hS ⊢
        rcases hw with ⟨rfl, hc2⟩ | ⟨rfl, hc2⟩
        · skip
          refine lv_if_eq (tgt := 89) hx hb dX5_load_76 (by decide) (fun c_13 => False.elim (by revert c_13; decide)) (fun _ => ?_)
          obtain ⟨sa, hsa⟩ := hSt (140, "the raft is away") (by decide +kernel)
          exact vx_throwS hx hb hfl hown (cls := gE3) (text := "the raft is away") (names := gNs) (A := gN) (by decide +kernel) (by decide +kernel) (hts _ wd_X5_load_f2_8) (hts _ wd_X5_load_f2_9) hsa (gw_hat (fun w h => hts w (List.mem_cons_of_mem _ (List.mem_append_right _ h))) gBad_3 hBd) gOt_3 hU hN hS (by rw [hml]; exact hl.1) dX5_load_79 dX5_load_82 dX5_load_83 dX5_load_85 dX5_load_88 (fun x h => (hte x h).elim) (by decide) (by decide) (by decide) (by decide) hlocks (fun t hvm hz hq => ⟨(), trivial, rfl, gw_xF hS hz hq⟩) hS.2.2 (by decide) (by decide)
        · skip
          refine lv_if_eq (tgt := 89) hx hb dX5_load_76 (by decide) (fun _ => ?_) (fun c_14 => False.elim (by revert c_14; decide))
          refine lv_aload_n hx hb dX5_load_89 rfl (lv_at hl 0 rfl) ?_
          refine va_get (D := D) (ci := 5) (v := .ref qu) (C := RX5) (T := TX5) (N := 4) hx hb hts wc_X5_load_f2_X5 hown hK hP 0 rfl rfl 0 (by decide) (hts _ wd_X5_load_f2_1) (fun _ h9 => h9) rfl dX5_load_90 ?_
          refine va_get (D := D) (ci := 2) (v := .ref wh) (C := RX2) (T := TX2) (N := 5) hx hb hts wc_X5_load_f2_X2 hown hK hP 1 rfl rfl 3 (by decide) (hts _ wd_X5_load_f2_3) (fun _ h9 => h9) rfl dX5_load_93 ?_
          refine lv_iload_n hx hb dX5_load_96 rfl (lv_at hl 1 rfl) ?_
          refine va_calli (va_runV (As := [.int (nI k)]) (rest := []) ⟨hx, hb, hml, hown, hts⟩ (met_X4_weight l D cI cZ cL wh wh0 wh1 wh2 wh3 wh4 wh5 nw (Q 11) k (by first | assumption | omega)) (cwV 1 hts gX5_load_X4_weight rfl rfl rfl (by decide +kernel) ⟨Nat.le_of_ble_eq_true rfl, Nat.le_of_ble_eq_true rfl⟩) (gw_pvr hK hP (wc := [(wh, .inr (4, [.ref wh0, .ref wh1, .ref wh2, .ref wh3, .ref wh4, .ref wh5, .int (nI nw)])), (wh2, .inl (cI, 60, .inl (Q 11)))]) [2, 3] rfl 4 rfl rfl rfl) rfl rfl hl.1 rfl (lv_room (Nat.le_of_ble_eq_true rfl)) dX5_load_97 ⟨Nat.zero_le _, Nat.zero_le _⟩) hS (fun _ _ z => z.elim) (fun _ z => z.elim) (fun r_16 _ t H1 locs ht hvm hw hB hz1 hk1 hS => ?_)
          have hP := gw_ro hP hk1
          generalize H1 = H at hP hS ⊢
          subst hw
          refine lv_aload_n hx hb dX5_load_100 rfl (lv_at hl 0 rfl) ?_
          refine lv_iload_n hx hb dX5_load_101 rfl (lv_at hl 2 rfl) ?_
          refine va_calli (va_runV (As := [.int (nI r)]) (rest := [.int (2 * (Q 11) k * (Q 11) k)]) ⟨hx, hb, hml, hown, hts⟩ (met_X5_stillCarried l D cI cZ cL gx qu qt rf qf bd cr wh wh0 wh1 wh2 wh3 wh4 wh5 rf0 rf1 co Q nw day nr ca r (by first | assumption | omega) (by first | assumption | omega)) (cwV 1 hts gX5_load_X5_stillCarried rfl rfl rfl (by decide +kernel) ⟨Nat.le_of_ble_eq_true rfl, Nat.le_of_ble_eq_true rfl⟩) (gw_pvr hK hP (wc := [(gx, .inr (5, [.ref qu, .ref qt, .ref rf, .int co])), (qu, .inr (2, [.ref qf, .ref bd, .ref cr, .ref wh, .int (nI day)])), (wh, .inr (4, [.ref wh0, .ref wh1, .ref wh2, .ref wh3, .ref wh4, .ref wh5, .int (nI nw)])), (wh2, .inl (cI, 60, .inl (Q 11))), (wh5, .inl (cI, 60, .inl (Q 14))), (rf, .inr (3, [.ref rf0, .ref rf1, .int (nI nr)])), (rf0, .inl (cI, 3, .inl ca))]) [0, 1, 2, 3, 5, 6, 7] rfl 5 rfl rfl rfl) rfl rfl hl.1 rfl (lv_room (Nat.le_of_ble_eq_true rfl)) dX5_load_102 ⟨Nat.zero_le _, Nat.zero_le _⟩) hS (fun _ _ z => z.elim) (fun _ z => z.elim) (fun r_18 _ t H1 locs ht hvm hw hB hz1 hk1 hS => ?_)
          have hP := gw_ro hP hk1
          generalize H1 = H at hP hS ⊢
          subst hw
          refine lv_icmp_le (tgt := 118) hx hb dX5_load_105 (by decide) (fun h3 => ?_) (fun h3 => ?_)
          · skip
            exact absurd ⟨h1, hc2, h3⟩ hno
          · skip
            obtain ⟨sa, hsa⟩ := hSt (148, "the wheel is too heavy") (by decide +kernel)
            exact vx_throwS hx hb hfl hown (cls := gE3) (text := "the wheel is too heavy") (names := gNs) (A := gN) (by decide +kernel) (by decide +kernel) (hts _ wd_X5_load_f2_8) (hts _ wd_X5_load_f2_9) hsa (gw_hat (fun w h => hts w (List.mem_cons_of_mem _ (List.mem_append_right _ h))) gBad_3 hBd) gOt_3 hU hN hS (by rw [hml]; exact hl.1) dX5_load_108 dX5_load_111 dX5_load_112 dX5_load_114 dX5_load_117 (fun x h => (hte x h).elim) (by decide) (by decide) (by decide) (by decide) hlocks (fun t hvm hz hq => ⟨(), trivial, rfl, gw_xF hS hz hq⟩) hS.2.2 (by decide) (by decide)
      · skip
        obtain ⟨sa, hsa⟩ := hSt (131, "the wheel is not dressed") (by decide +kernel)
        exact vx_throwS hx hb hfl hown (cls := gE3) (text := "the wheel is not dressed") (names := gNs) (A := gN) (by decide +kernel) (by decide +kernel) (hts _ wd_X5_load_f2_8) (hts _ wd_X5_load_f2_9) hsa (gw_hat (fun w h => hts w (List.mem_cons_of_mem _ (List.mem_append_right _ h))) gBad_3 hBd) gOt_3 hU hN hS (by rw [hml]; exact hl.1) dX5_load_51 dX5_load_54 dX5_load_55 dX5_load_57 dX5_load_60 (fun x h => (hte x h).elim) (by decide) (by decide) (by decide) (by decide) hlocks (fun t hvm hz hq => ⟨(), trivial, rfl, gw_xF hS hz hq⟩) hS.2.2 (by decide) (by decide)
    · skip
      exact absurd ⟨r, hr2, rfl⟩ hc
  · skip
    exact absurd ⟨k, hk, rfl⟩ hc

theorem wc_X5_ship_f1_X5 : ∀ w ∈ u_ws RX5 TX5 4, w ∈ wsX5_ship := by decide +kernel
theorem wd_X5_ship_f1_1 : (.fieldLink RX5 22 "GritWheels" "rafts" "LGritWheels$Rafts;" : Cond) ∈ wsX5_ship := by decide +kernel
theorem wd_X5_ship_f1_2 : (.classLink RX5 30 gE1 : Cond) ∈ wsX5_ship := by decide +kernel
theorem wd_X5_ship_f1_3 : (.initialized gE1 : Cond) ∈ wsX5_ship := by decide +kernel
set_option maxHeartbeats 4000000 in
set_option maxRecDepth 100000 in
theorem met_X5_ship_f1 (l : Launch) (hfl : l.stackTraces = false) (D : va_G) (cI cZ cL : ClassId) (gx : Nat) (qu : Nat) (qt : Nat) (rf : Nat) (rf0 : Nat) (rf1 : Nat) (co : Int32) (nr : Nat) (x : Int32) (hnr : nr ≤ 3) (hx1 : ¬ ∃ kk, kk < nr ∧ x = nI kk) : vx_Met l yX5_ship wsX5_ship ({ frames := 6, cells := 1, slots := 6, locals := 90 }) (gPx [.ref gx, .int x] D [(gx, .inr (5, [.ref qu, .ref qt, .ref rf, .int co])), (rf, .inr (3, [.ref rf0, .ref rf1, .int (nI nr)]))] (gT cI cZ cL)) (va_Qi (fun (_ : Int32) (_ : Unit) => False) (fun _ _ => True) gN) (vx_X (fun _ : Unit => True) (fun E _ _ => E = gE1) gN) 1 6 gN := by
  refine vx_ofW (cc := cX5_ship) (maxL := 3) (ret := (some .int)) (by decide +kernel) rfl ?_
  intro p e s m args below meth c s₁ B hml hte hv
  obtain ⟨rfl, hP, hK, hU, hN, hSt, hBd⟩ := hv
  have hx := B.exec
  have hb := B.bytes
  have hr := B.returns
  have hts := atoms_spec (ws := wsX5_ship) B.pre
  have hown : s.vm.findClass RX5 = some m.cls := findClass_of_methodNamed B.named
  have hlocks := B.notSynchronized
  have hS : va_S gN s.heap s.heap [] := va_S.rf
  have hP : va_P D vwCl [(gx, .inr (5, [.ref qu, .ref qt, .ref rf, .int co])), (rf, .inr (3, [.ref rf0, .ref rf1, .int (nI nr)]))] s.heap := hP
  have hl := lv_entry ([.ref gx, .int x]) (n := 3) (Nat.le_of_ble_eq_true rfl)
  rw [lg_entry_eq]
  generalize (lg_sl ([.ref gx, .int x]) ++ List.replicate (3 - (lg_sl ([.ref gx, .int x])).length) Slot.unset).toArray = ls at hl ⊢
  have hl : lv_has ls 3 [(0, .ref gx), (1, .int x)] := hl
  refine lv_aload_n hx hb dX5_ship_0 rfl (lv_at hl 0 rfl) ?_
  refine va_get (D := D) (ci := 5) (v := .ref rf) (C := RX5) (T := TX5) (N := 4) hx hb hts wc_X5_ship_f1_X5 hown hK hP 0 rfl rfl 2 (by decide) (hts _ wd_X5_ship_f1_1) (fun _ h9 => h9) rfl dX5_ship_1 ?_
  refine lv_iload_n hx hb dX5_ship_4 rfl (lv_at hl 1 rfl) ?_
  refine va_calli (va_runV (As := [.int x]) (rest := []) ⟨hx, hb, hml, hown, hts⟩ (met_X3_has l D cI cZ cL rf rf0 rf1 nr x (by first | assumption | omega)) (cwV 1 hts gX5_ship_X3_has rfl rfl rfl (by decide +kernel) ⟨Nat.le_of_ble_eq_true rfl, Nat.le_of_ble_eq_true rfl⟩) (gw_pvr hK hP (wc := [(rf, .inr (3, [.ref rf0, .ref rf1, .int (nI nr)]))]) [1] rfl 3 rfl rfl rfl) rfl rfl hl.1 rfl (lv_room (Nat.le_of_ble_eq_true rfl)) dX5_ship_5 ⟨Nat.zero_le _, Nat.zero_le _⟩) hS (fun _ _ z => z.elim) (fun _ z => z.elim) (fun r_2 _ t H1 locs ht hvm hw hB hz1 hk1 hS => ?_)
  have hP := gw_ro hP hk1
  generalize H1 = H at hP hS ⊢
  rcases hw with ⟨rfl, hc⟩ | ⟨rfl, hc⟩
  · skip
    exact absurd hc hx1
  · skip
    refine lv_if_ne (tgt := 21) hx hb dX5_ship_8 (by decide) (fun c_4 => False.elim (by revert c_4; decide)) (fun _ => ?_)
    obtain ⟨sa, hsa⟩ := hSt (154, "no such raft") (by decide +kernel)
    exact vx_throwS hx hb hfl hown (cls := gE1) (text := "no such raft") (names := gNs) (A := gN) (by decide +kernel) (by decide +kernel) (hts _ wd_X5_ship_f1_2) (hts _ wd_X5_ship_f1_3) hsa (gw_hat (fun w h => hts w (List.mem_cons_of_mem _ (List.mem_append_left _ (List.mem_append_right _ h)))) gBad_1 hBd) gOt_1 hU hN hS (by rw [hml]; exact hl.1) dX5_ship_11 dX5_ship_14 dX5_ship_15 dX5_ship_17 dX5_ship_20 (fun x h => (hte x h).elim) (by decide) (by decide) (by decide) (by decide) hlocks (fun t hvm hz hq => ⟨(), trivial, rfl, gw_xF hS hz hq⟩) hS.2.2 (by decide) (by decide)

theorem wc_X5_ship_f2_X5 : ∀ w ∈ u_ws RX5 TX5 4, w ∈ wsX5_ship := by decide +kernel
theorem wd_X5_ship_f2_1 : (.fieldLink RX5 22 "GritWheels" "rafts" "LGritWheels$Rafts;" : Cond) ∈ wsX5_ship := by decide +kernel
theorem wd_X5_ship_f2_2 : (.fieldLink RX5 10 "GritWheels" "now" "LGritWheels$Quarry;" : Cond) ∈ wsX5_ship := by decide +kernel
theorem wc_X5_ship_f2_X2 : ∀ w ∈ u_ws RX2 TX2 5, w ∈ wsX5_ship := by decide +kernel
theorem wd_X5_ship_f2_4 : (.fieldLink RX5 133 "GritWheels$Quarry" "day" "I" : Cond) ∈ wsX5_ship := by decide +kernel
theorem wd_X5_ship_f2_5 : (.classLink RX5 58 gE3 : Cond) ∈ wsX5_ship := by decide +kernel
theorem wd_X5_ship_f2_6 : (.initialized gE3 : Cond) ∈ wsX5_ship := by decide +kernel
theorem wd_X5_ship_f2_7 : (.fieldLink RX5 93 "GritWheels$Quarry" "wheels" "LGritWheels$Wheels;" : Cond) ∈ wsX5_ship := by decide +kernel
set_option maxHeartbeats 4000000 in
set_option maxRecDepth 100000 in
theorem met_X5_ship_f2 (l : Launch) (hfl : l.stackTraces = false) (D : va_G) (cI cZ cL : ClassId) (gx : Nat) (qu : Nat) (qt : Nat) (rf : Nat) (qf : Nat) (bd : Nat) (cr : Nat) (wh : Nat) (wh0 : Nat) (wh1 : Nat) (wh2 : Nat) (wh3 : Nat) (wh4 : Nat) (wh5 : Nat) (rf0 : Nat) (rf1 : Nat) (co : Int32) (Q : Nat → Nat → Int32) (nw : Nat) (day : Nat) (nr : Nat) (bo : Nat → Int32) (r : Nat) (hr2 : r < nr) (hnr : nr ≤ 3) (hnw : nw ≤ 60) (hd : day < 2 ^ 31) (hno : ¬ ((¬ nI day < bo r) ∧ ¬ gOn Q nw r = 0 ∧ 2 ≤ Q 0 (day % 9))) : vx_Met l yX5_ship wsX5_ship ({ frames := 6, cells := 1, slots := 6, locals := 90 }) (gPx [.ref gx, .int (nI r)] D [(gx, .inr (5, [.ref qu, .ref qt, .ref rf, .int co])), (qu, .inr (2, [.ref qf, .ref bd, .ref cr, .ref wh, .int (nI day)])), (qf, .inl (cI, 9, .inl (Q 0))), (wh, .inr (4, [.ref wh0, .ref wh1, .ref wh2, .ref wh3, .ref wh4, .ref wh5, .int (nI nw)])), (wh5, .inl (cI, 60, .inl (Q 14))), (rf, .inr (3, [.ref rf0, .ref rf1, .int (nI nr)])), (rf1, .inl (cI, 3, .inl bo))] (gT cI cZ cL)) (va_Qi (fun (_ : Int32) (_ : Unit) => False) (fun _ _ => True) gN) (vx_X (fun _ : Unit => True) (fun E _ _ => E = gE3) gN) 1 6 gN := by
  refine vx_ofW (cc := cX5_ship) (maxL := 3) (ret := (some .int)) (by decide +kernel) rfl ?_
  intro p e s m args below meth c s₁ B hml hte hv
  obtain ⟨rfl, hP, hK, hU, hN, hSt, hBd⟩ := hv
  have hx := B.exec
  have hb := B.bytes
  have hr := B.returns
  have hts := atoms_spec (ws := wsX5_ship) B.pre
  have hown : s.vm.findClass RX5 = some m.cls := findClass_of_methodNamed B.named
  have hlocks := B.notSynchronized
  have hS : va_S gN s.heap s.heap [] := va_S.rf
  have hP : va_P D vwCl [(gx, .inr (5, [.ref qu, .ref qt, .ref rf, .int co])), (qu, .inr (2, [.ref qf, .ref bd, .ref cr, .ref wh, .int (nI day)])), (qf, .inl (cI, 9, .inl (Q 0))), (wh, .inr (4, [.ref wh0, .ref wh1, .ref wh2, .ref wh3, .ref wh4, .ref wh5, .int (nI nw)])), (wh5, .inl (cI, 60, .inl (Q 14))), (rf, .inr (3, [.ref rf0, .ref rf1, .int (nI nr)])), (rf1, .inl (cI, 3, .inl bo))] s.heap := hP
  have hl := lv_entry ([.ref gx, .int (nI r)]) (n := 3) (Nat.le_of_ble_eq_true rfl)
  rw [lg_entry_eq]
  generalize (lg_sl ([.ref gx, .int (nI r)]) ++ List.replicate (3 - (lg_sl ([.ref gx, .int (nI r)])).length) Slot.unset).toArray = ls at hl ⊢
  have hl : lv_has ls 3 [(0, .ref gx), (1, .int (nI r))] := hl
  refine lv_aload_n hx hb dX5_ship_0 rfl (lv_at hl 0 rfl) ?_
  refine va_get (D := D) (ci := 5) (v := .ref rf) (C := RX5) (T := TX5) (N := 4) hx hb hts wc_X5_ship_f2_X5 hown hK hP 0 rfl rfl 2 (by decide) (hts _ wd_X5_ship_f2_1) (fun _ h9 => h9) rfl dX5_ship_1 ?_
  refine lv_iload_n hx hb dX5_ship_4 rfl (lv_at hl 1 rfl) ?_
  refine va_calli (va_runV (As := [.int (nI r)]) (rest := []) ⟨hx, hb, hml, hown, hts⟩ (met_X3_has l D cI cZ cL rf rf0 rf1 nr (nI r) (by first | assumption | omega)) (cwV 1 hts gX5_ship_X3_has rfl rfl rfl (by decide +kernel) ⟨Nat.le_of_ble_eq_true rfl, Nat.le_of_ble_eq_true rfl⟩) (gw_pvr hK hP (wc := [(rf, .inr (3, [.ref rf0, .ref rf1, .int (nI nr)]))]) [5] rfl 3 rfl rfl rfl) rfl rfl hl.1 rfl (lv_room (Nat.le_of_ble_eq_true rfl)) dX5_ship_5 ⟨Nat.zero_le _, Nat.zero_le _⟩) hS (fun _ _ z => z.elim) (fun _ z => z.elim) (fun r_2 _ t H1 locs ht hvm hw hB hz1 hk1 hS => ?_)
  have hP := gw_ro hP hk1
  generalize H1 = H at hP hS ⊢
  rcases hw with ⟨rfl, hc⟩ | ⟨rfl, hc⟩
  · skip
    refine lv_if_ne (tgt := 21) hx hb dX5_ship_8 (by decide) (fun _ => ?_) (fun c_4 => False.elim (by revert c_4; decide))
    refine lv_aload_n hx hb dX5_ship_21 rfl (lv_at hl 0 rfl) ?_
    refine va_get (D := D) (ci := 5) (v := .ref rf) (C := RX5) (T := TX5) (N := 4) hx hb hts wc_X5_ship_f2_X5 hown hK hP 0 rfl rfl 2 (by decide) (hts _ wd_X5_ship_f2_1) (fun _ h9 => h9) rfl dX5_ship_22 ?_
    refine lv_iload_n hx hb dX5_ship_25 rfl (lv_at hl 1 rfl) ?_
    refine lv_aload_n hx hb dX5_ship_26 rfl (lv_at hl 0 rfl) ?_
    refine va_get (D := D) (ci := 5) (v := .ref qu) (C := RX5) (T := TX5) (N := 4) hx hb hts wc_X5_ship_f2_X5 hown hK hP 0 rfl rfl 0 (by decide) (hts _ wd_X5_ship_f2_2) (fun _ h9 => h9) rfl dX5_ship_27 ?_
    refine va_get (D := D) (ci := 2) (v := .int (nI day)) (C := RX2) (T := TX2) (N := 5) hx hb hts wc_X5_ship_f2_X2 hown hK hP 1 rfl rfl 4 (by decide) (hts _ wd_X5_ship_f2_4) (fun _ h9 => h9) rfl dX5_ship_30 ?_
    refine va_calli (va_runV (As := [.int (nI r), .int (nI day)]) (rest := []) ⟨hx, hb, hml, hown, hts⟩ (met_X3_isAway l D cI cZ cL rf rf0 rf1 nr bo r day (by first | assumption | omega)) (cwV 2 hts gX5_ship_X3_isAway rfl rfl rfl (by decide +kernel) ⟨Nat.le_of_ble_eq_true rfl, Nat.le_of_ble_eq_true rfl⟩) (gw_pvr hK hP (wc := [(rf, .inr (3, [.ref rf0, .ref rf1, .int (nI nr)])), (rf1, .inl (cI, 3, .inl bo))]) [5, 6] rfl 3 rfl rfl rfl) rfl rfl hl.1 rfl (lv_room (Nat.le_of_ble_eq_true rfl)) dX5_ship_33 ⟨Nat.zero_le _, Nat.zero_le _⟩) hS (fun _ _ z => z.elim) (fun _ z => z.elim) (fun r_6 _ t H1 locs ht hvm hw hB hz1 hk1 hS => ?_)
    have hP := gw_ro hP hk1
    generalize H1 = H at hP hS ⊢
    rcases hw with ⟨rfl, hc2⟩ | ⟨rfl, hc2⟩
    · skip
      refine lv_if_ne (tgt := 64) hx hb dX5_ship_36 (by decide) (fun _ => ?_) (fun c_8 => False.elim (by revert c_8; decide))
      obtain ⟨sa, hsa⟩ := hSt (163, "the raft is away or empty, or there is too little water") (by decide +kernel)
      exact vx_throwS hx hb hfl hown (cls := gE3) (text := "the raft is away or empty, or there is too little water") (names := gNs) (A := gN) (by decide +kernel) (by decide +kernel) (hts _ wd_X5_ship_f2_5) (hts _ wd_X5_ship_f2_6) hsa (gw_hat (fun w h => hts w (List.mem_cons_of_mem _ (List.mem_append_right _ h))) gBad_3 hBd) gOt_3 hU hN hS (by rw [hml]; exact hl.1) dX5_ship_64 dX5_ship_67 dX5_ship_68 dX5_ship_70 dX5_ship_73 (fun x h => (hte x h).elim) (by decide) (by decide) (by decide) (by decide) hlocks (fun t hvm hz hq => ⟨(), trivial, rfl, gw_xF hS hz hq⟩) hS.2.2 (by decide) (by decide)
    · skip
      refine lv_if_ne (tgt := 64) hx hb dX5_ship_36 (by decide) (fun c_9 => False.elim (by revert c_9; decide)) (fun _ => ?_)
      refine lv_aload_n hx hb dX5_ship_39 rfl (lv_at hl 0 rfl) ?_
      refine va_get (D := D) (ci := 5) (v := .ref qu) (C := RX5) (T := TX5) (N := 4) hx hb hts wc_X5_ship_f2_X5 hown hK hP 0 rfl rfl 0 (by decide) (hts _ wd_X5_ship_f2_2) (fun _ h9 => h9) rfl dX5_ship_40 ?_
      refine va_get (D := D) (ci := 2) (v := .ref wh) (C := RX2) (T := TX2) (N := 5) hx hb hts wc_X5_ship_f2_X2 hown hK hP 1 rfl rfl 3 (by decide) (hts _ wd_X5_ship_f2_7) (fun _ h9 => h9) rfl dX5_ship_43 ?_
      refine lv_iload_n hx hb dX5_ship_46 rfl (lv_at hl 1 rfl) ?_
      refine va_calli (va_runV (As := [.int (nI r)]) (rest := []) ⟨hx, hb, hml, hown, hts⟩ (met_X4_numberOn l D cI cZ cL wh wh0 wh1 wh2 wh3 wh4 wh5 nw (Q 14) (nI r) (by first | assumption | omega)) (cwV 1 hts gX5_ship_X4_numberOn rfl rfl rfl (by decide +kernel) ⟨Nat.le_of_ble_eq_true rfl, Nat.le_of_ble_eq_true rfl⟩) (gw_pvr hK hP (wc := [(wh, .inr (4, [.ref wh0, .ref wh1, .ref wh2, .ref wh3, .ref wh4, .ref wh5, .int (nI nw)])), (wh5, .inl (cI, 60, .inl (Q 14)))]) [3, 4] rfl 4 rfl rfl rfl) rfl rfl hl.1 rfl (lv_room (Nat.le_of_ble_eq_true rfl)) dX5_ship_47 ⟨Nat.zero_le _, Nat.zero_le _⟩) hS (fun _ _ z => z.elim) (fun _ z => z.elim) (fun r_11 _ t H1 locs ht hvm hw hB hz1 hk1 hS => ?_)
      have hP := gw_ro hP hk1
      generalize H1 = H at hP hS ⊢
      subst hw
      refine lv_if_eq (tgt := 64) hx hb dX5_ship_50 (by decide) (fun h3 => ?_) (fun h3 => ?_)
      · skip
        obtain ⟨sa, hsa⟩ := hSt (163, "the raft is away or empty, or there is too little water") (by decide +kernel)
        exact vx_throwS hx hb hfl hown (cls := gE3) (text := "the raft is away or empty, or there is too little water") (names := gNs) (A := gN) (by decide +kernel) (by decide +kernel) (hts _ wd_X5_ship_f2_5) (hts _ wd_X5_ship_f2_6) hsa (gw_hat (fun w h => hts w (List.mem_cons_of_mem _ (List.mem_append_right _ h))) gBad_3 hBd) gOt_3 hU hN hS (by rw [hml]; exact hl.1) dX5_ship_64 dX5_ship_67 dX5_ship_68 dX5_ship_70 dX5_ship_73 (fun x h => (hte x h).elim) (by decide) (by decide) (by decide) (by decide) hlocks (fun t hvm hz hq => ⟨(), trivial, rfl, gw_xF hS hz hq⟩) hS.2.2 (by decide) (by decide)
      · skip
        refine lv_aload_n hx hb dX5_ship_53 rfl (lv_at hl 0 rfl) ?_
        refine va_get (D := D) (ci := 5) (v := .ref qu) (C := RX5) (T := TX5) (N := 4) hx hb hts wc_X5_ship_f2_X5 hown hK hP 0 rfl rfl 0 (by decide) (hts _ wd_X5_ship_f2_2) (fun _ h9 => h9) rfl dX5_ship_54 ?_
        refine va_calli (va_runV (As := []) (rest := []) ⟨hx, hb, hml, hown, hts⟩ (met_X2_water l D cI cZ cL qu qf bd cr wh Q day (by first | assumption | omega)) (cwV 0 hts gX5_ship_X2_water rfl rfl rfl (by decide +kernel) ⟨Nat.le_of_ble_eq_true rfl, Nat.le_of_ble_eq_true rfl⟩) (gw_pvr hK hP (wc := [(qu, .inr (2, [.ref qf, .ref bd, .ref cr, .ref wh, .int (nI day)])), (qf, .inl (cI, 9, .inl (Q 0)))]) [1, 2] rfl 2 rfl rfl rfl) rfl rfl hl.1 rfl (lv_room (Nat.le_of_ble_eq_true rfl)) dX5_ship_57 ⟨Nat.zero_le _, Nat.zero_le _⟩) hS (fun _ _ z => z.elim) (fun _ z => z.elim) (fun r_14 _ t H1 locs ht hvm hw hB hz1 hk1 hS => ?_)
        have hP := gw_ro hP hk1
        generalize H1 = H at hP hS ⊢
        subst hw
        refine lv_iconst (v := 2) hx hb dX5_ship_60 (by decide) ?_
        refine lv_icmp_ge (tgt := 74) hx hb dX5_ship_61 (by decide) (fun h4 => ?_) (fun h4 => ?_)
        · skip
          exact absurd ⟨hc2, h3, h4⟩ hno
        · skip
          obtain ⟨sa, hsa⟩ := hSt (163, "the raft is away or empty, or there is too little water") (by decide +kernel)
          exact vx_throwS hx hb hfl hown (cls := gE3) (text := "the raft is away or empty, or there is too little water") (names := gNs) (A := gN) (by decide +kernel) (by decide +kernel) (hts _ wd_X5_ship_f2_5) (hts _ wd_X5_ship_f2_6) hsa (gw_hat (fun w h => hts w (List.mem_cons_of_mem _ (List.mem_append_right _ h))) gBad_3 hBd) gOt_3 hU hN hS (by rw [hml]; exact hl.1) dX5_ship_64 dX5_ship_67 dX5_ship_68 dX5_ship_70 dX5_ship_73 (fun x h => (hte x h).elim) (by decide) (by decide) (by decide) (by decide) hlocks (fun t hvm hz hq => ⟨(), trivial, rfl, gw_xF hS hz hq⟩) hS.2.2 (by decide) (by decide)
  · skip
    exact absurd ⟨r, hr2, rfl⟩ hc

theorem wc_X5_bed_f1_X5 : ∀ w ∈ u_ws RX5 TX5 4, w ∈ wsX5_bed := by decide +kernel
theorem wd_X5_bed_f1_1 : (.fieldLink RX5 10 "GritWheels" "now" "LGritWheels$Quarry;" : Cond) ∈ wsX5_bed := by decide +kernel
theorem wc_X5_bed_f1_X2 : ∀ w ∈ u_ws RX2 TX2 5, w ∈ wsX5_bed := by decide +kernel
theorem wd_X5_bed_f1_3 : (.fieldLink RX5 48 "GritWheels$Quarry" "beds" "LGritWheels$Beds;" : Cond) ∈ wsX5_bed := by decide +kernel
theorem wd_X5_bed_f1_4 : (.classLink RX5 30 gE1 : Cond) ∈ wsX5_bed := by decide +kernel
theorem wd_X5_bed_f1_5 : (.initialized gE1 : Cond) ∈ wsX5_bed := by decide +kernel
set_option maxHeartbeats 4000000 in
set_option maxRecDepth 100000 in
theorem met_X5_bed_f1 (l : Launch) (hfl : l.stackTraces = false) (D : va_G) (cI cZ cL : ClassId) (gx : Nat) (qu : Nat) (qt : Nat) (rf : Nat) (qf : Nat) (bd : Nat) (cr : Nat) (wh : Nat) (bd0 : Nat) (bd1 : Nat) (bd2 : Nat) (bd3 : Nat) (co : Int32) (nb : Nat) (day : Nat) (x : Int32) (y : Int32) (hnb : nb ≤ 5) (hxy : ¬ ((∃ kk, kk < nb ∧ x = nI kk) ∧ ((0 : Int32) ≤ y ∧ y ≤ 5))) : vx_Met l yX5_bed wsX5_bed ({ frames := 6, cells := 1, slots := 6, locals := 90 }) (gPx [.ref gx, .int x, .int y] D [(gx, .inr (5, [.ref qu, .ref qt, .ref rf, .int co])), (qu, .inr (2, [.ref qf, .ref bd, .ref cr, .ref wh, .int (nI day)])), (bd, .inr (0, [.ref bd0, .ref bd1, .ref bd2, .ref bd3, .int (nI nb)]))] (gT cI cZ cL)) (va_Qi (fun (_ : Int32) (_ : Unit) => False) (fun _ _ => True) gN) (vx_X (fun _ : Unit => True) (fun E _ _ => E = gE1) gN) 1 6 gN := by
  refine vx_ofW (cc := cX5_bed) (maxL := 3) (ret := (some .int)) (by decide +kernel) rfl ?_
  intro p e s m args below meth c s₁ B hml hte hv
  obtain ⟨rfl, hP, hK, hU, hN, hSt, hBd⟩ := hv
  have hx := B.exec
  have hb := B.bytes
  have hr := B.returns
  have hts := atoms_spec (ws := wsX5_bed) B.pre
  have hown : s.vm.findClass RX5 = some m.cls := findClass_of_methodNamed B.named
  have hlocks := B.notSynchronized
  have hS : va_S gN s.heap s.heap [] := va_S.rf
  have hP : va_P D vwCl [(gx, .inr (5, [.ref qu, .ref qt, .ref rf, .int co])), (qu, .inr (2, [.ref qf, .ref bd, .ref cr, .ref wh, .int (nI day)])), (bd, .inr (0, [.ref bd0, .ref bd1, .ref bd2, .ref bd3, .int (nI nb)]))] s.heap := hP
  have hl := lv_entry ([.ref gx, .int x, .int y]) (n := 3) (Nat.le_of_ble_eq_true rfl)
  rw [lg_entry_eq]
  generalize (lg_sl ([.ref gx, .int x, .int y]) ++ List.replicate (3 - (lg_sl ([.ref gx, .int x, .int y])).length) Slot.unset).toArray = ls at hl ⊢
  have hl : lv_has ls 3 [(0, .ref gx), (1, .int x), (2, .int y)] := hl
  refine lv_aload_n hx hb dX5_bed_0 rfl (lv_at hl 0 rfl) ?_
  refine va_get (D := D) (ci := 5) (v := .ref qu) (C := RX5) (T := TX5) (N := 4) hx hb hts wc_X5_bed_f1_X5 hown hK hP 0 rfl rfl 0 (by decide) (hts _ wd_X5_bed_f1_1) (fun _ h9 => h9) rfl dX5_bed_1 ?_
  refine va_get (D := D) (ci := 2) (v := .ref bd) (C := RX2) (T := TX2) (N := 5) hx hb hts wc_X5_bed_f1_X2 hown hK hP 1 rfl rfl 1 (by decide) (hts _ wd_X5_bed_f1_3) (fun _ h9 => h9) rfl dX5_bed_4 ?_
  refine lv_iload_n hx hb dX5_bed_7 rfl (lv_at hl 1 rfl) ?_
  refine va_calli (va_runV (As := [.int x]) (rest := []) ⟨hx, hb, hml, hown, hts⟩ (met_X0_has l D cI cZ cL bd bd0 bd1 bd2 bd3 nb x (by first | assumption | omega)) (cwV 1 hts gX5_bed_X0_has rfl rfl rfl (by decide +kernel) ⟨Nat.le_of_ble_eq_true rfl, Nat.le_of_ble_eq_true rfl⟩) (gw_pvr hK hP (wc := [(bd, .inr (0, [.ref bd0, .ref bd1, .ref bd2, .ref bd3, .int (nI nb)]))]) [2] rfl 0 rfl rfl rfl) rfl rfl hl.1 rfl (lv_room (Nat.le_of_ble_eq_true rfl)) dX5_bed_8 ⟨Nat.zero_le _, Nat.zero_le _⟩) hS (fun _ _ z => z.elim) (fun _ z => z.elim) (fun r_2 _ t H1 locs ht hvm hw hB hz1 hk1 hS => ?_)
  have hP := gw_ro hP hk1
  generalize H1 = H at hP hS ⊢
  rcases hw with ⟨rfl, hc1⟩ | ⟨rfl, hc1⟩
  · skip
    refine lv_if_eq (tgt := 23) hx hb dX5_bed_11 (by decide) (fun c_4 => False.elim (by revert c_4; decide)) (fun _ => ?_)
    refine lv_iload_n hx hb dX5_bed_14 rfl (lv_at hl 2 rfl) ?_
    refine lv_iconst (v := 0) hx hb dX5_bed_15 (by decide) ?_
    refine lv_iconst (v := 5) hx hb dX5_bed_16 (by decide) ?_
    refine va_calli (va_runS (As := [.int y, .int 0, .int 5]) (rest := []) ⟨hx, hb, hml, hown, hts⟩ (met_X5_isWithin l D cI cZ cL y 0 5) (va_cwS 3 hts gX5_bed_X5_isWithin rfl rfl rfl (by decide +kernel) ⟨Nat.le_of_ble_eq_true rfl, Nat.le_of_ble_eq_true rfl⟩) (gw_psr hK hP (wc := []) [] rfl) rfl rfl hl.1 rfl (lv_room (Nat.le_of_ble_eq_true rfl)) dX5_bed_17 ⟨Nat.zero_le _, Nat.zero_le _⟩) hS (fun _ _ z => z.elim) (fun _ z => z.elim) (fun r_6 _ t H1 locs ht hvm hw hB hz1 hk1 hS => ?_)
    have hP := gw_ro hP hk1
    generalize H1 = H at hP hS ⊢
    rcases hw with ⟨rfl, hc2⟩ | ⟨rfl, hc2⟩
    · skip
      exact absurd ⟨hc1, hc2⟩ hxy
    · skip
      refine lv_if_ne (tgt := 33) hx hb dX5_bed_20 (by decide) (fun c_8 => False.elim (by revert c_8; decide)) (fun _ => ?_)
      obtain ⟨sa, hsa⟩ := hSt (174, "no such bed, or what is not 0 to 5") (by decide +kernel)
      exact vx_throwS hx hb hfl hown (cls := gE1) (text := "no such bed, or what is not 0 to 5") (names := gNs) (A := gN) (by decide +kernel) (by decide +kernel) (hts _ wd_X5_bed_f1_4) (hts _ wd_X5_bed_f1_5) hsa (gw_hat (fun w h => hts w (List.mem_cons_of_mem _ (List.mem_append_right _ h))) gBad_1 hBd) gOt_1 hU hN hS (by rw [hml]; exact hl.1) dX5_bed_23 dX5_bed_26 dX5_bed_27 dX5_bed_29 dX5_bed_32 (fun x h => (hte x h).elim) (by decide) (by decide) (by decide) (by decide) hlocks (fun t hvm hz hq => ⟨(), trivial, rfl, gw_xF hS hz hq⟩) hS.2.2 (by decide) (by decide)
  · skip
    refine lv_if_eq (tgt := 23) hx hb dX5_bed_11 (by decide) (fun _ => ?_) (fun c_9 => False.elim (by revert c_9; decide))
    obtain ⟨sa, hsa⟩ := hSt (174, "no such bed, or what is not 0 to 5") (by decide +kernel)
    exact vx_throwS hx hb hfl hown (cls := gE1) (text := "no such bed, or what is not 0 to 5") (names := gNs) (A := gN) (by decide +kernel) (by decide +kernel) (hts _ wd_X5_bed_f1_4) (hts _ wd_X5_bed_f1_5) hsa (gw_hat (fun w h => hts w (List.mem_cons_of_mem _ (List.mem_append_right _ h))) gBad_1 hBd) gOt_1 hU hN hS (by rw [hml]; exact hl.1) dX5_bed_23 dX5_bed_26 dX5_bed_27 dX5_bed_29 dX5_bed_32 (fun x h => (hte x h).elim) (by decide) (by decide) (by decide) (by decide) hlocks (fun t hvm hz hq => ⟨(), trivial, rfl, gw_xF hS hz hq⟩) hS.2.2 (by decide) (by decide)

theorem wc_X5_quarrier_f1_X5 : ∀ w ∈ u_ws RX5 TX5 4, w ∈ wsX5_quarrier := by decide +kernel
theorem wd_X5_quarrier_f1_1 : (.fieldLink RX5 10 "GritWheels" "now" "LGritWheels$Quarry;" : Cond) ∈ wsX5_quarrier := by decide +kernel
theorem wc_X5_quarrier_f1_X2 : ∀ w ∈ u_ws RX2 TX2 5, w ∈ wsX5_quarrier := by decide +kernel
theorem wd_X5_quarrier_f1_3 : (.fieldLink RX5 69 "GritWheels$Quarry" "crew" "LGritWheels$Crew;" : Cond) ∈ wsX5_quarrier := by decide +kernel
theorem wd_X5_quarrier_f1_4 : (.classLink RX5 30 gE1 : Cond) ∈ wsX5_quarrier := by decide +kernel
theorem wd_X5_quarrier_f1_5 : (.initialized gE1 : Cond) ∈ wsX5_quarrier := by decide +kernel
set_option maxHeartbeats 4000000 in
set_option maxRecDepth 100000 in
theorem met_X5_quarrier_f1 (l : Launch) (hfl : l.stackTraces = false) (D : va_G) (cI cZ cL : ClassId) (gx : Nat) (qu : Nat) (qt : Nat) (rf : Nat) (qf : Nat) (bd : Nat) (cr : Nat) (wh : Nat) (cr0 : Nat) (cr1 : Nat) (cr2 : Nat) (cr3 : Nat) (co : Int32) (nq : Nat) (day : Nat) (x : Int32) (y : Int32) (hnq : nq ≤ 6) (hxy : ¬ ((∃ kk, kk < nq ∧ x = nI kk) ∧ ((0 : Int32) ≤ y ∧ y ≤ 4))) : vx_Met l yX5_quarrier wsX5_quarrier ({ frames := 6, cells := 1, slots := 6, locals := 90 }) (gPx [.ref gx, .int x, .int y] D [(gx, .inr (5, [.ref qu, .ref qt, .ref rf, .int co])), (qu, .inr (2, [.ref qf, .ref bd, .ref cr, .ref wh, .int (nI day)])), (cr, .inr (1, [.ref cr0, .ref cr1, .ref cr2, .ref cr3, .int (nI nq)]))] (gT cI cZ cL)) (va_Qi (fun (_ : Int32) (_ : Unit) => False) (fun _ _ => True) gN) (vx_X (fun _ : Unit => True) (fun E _ _ => E = gE1) gN) 1 6 gN := by
  refine vx_ofW (cc := cX5_quarrier) (maxL := 3) (ret := (some .int)) (by decide +kernel) rfl ?_
  intro p e s m args below meth c s₁ B hml hte hv
  obtain ⟨rfl, hP, hK, hU, hN, hSt, hBd⟩ := hv
  have hx := B.exec
  have hb := B.bytes
  have hr := B.returns
  have hts := atoms_spec (ws := wsX5_quarrier) B.pre
  have hown : s.vm.findClass RX5 = some m.cls := findClass_of_methodNamed B.named
  have hlocks := B.notSynchronized
  have hS : va_S gN s.heap s.heap [] := va_S.rf
  have hP : va_P D vwCl [(gx, .inr (5, [.ref qu, .ref qt, .ref rf, .int co])), (qu, .inr (2, [.ref qf, .ref bd, .ref cr, .ref wh, .int (nI day)])), (cr, .inr (1, [.ref cr0, .ref cr1, .ref cr2, .ref cr3, .int (nI nq)]))] s.heap := hP
  have hl := lv_entry ([.ref gx, .int x, .int y]) (n := 3) (Nat.le_of_ble_eq_true rfl)
  rw [lg_entry_eq]
  generalize (lg_sl ([.ref gx, .int x, .int y]) ++ List.replicate (3 - (lg_sl ([.ref gx, .int x, .int y])).length) Slot.unset).toArray = ls at hl ⊢
  have hl : lv_has ls 3 [(0, .ref gx), (1, .int x), (2, .int y)] := hl
  refine lv_aload_n hx hb dX5_quarrier_0 rfl (lv_at hl 0 rfl) ?_
  refine va_get (D := D) (ci := 5) (v := .ref qu) (C := RX5) (T := TX5) (N := 4) hx hb hts wc_X5_quarrier_f1_X5 hown hK hP 0 rfl rfl 0 (by decide) (hts _ wd_X5_quarrier_f1_1) (fun _ h9 => h9) rfl dX5_quarrier_1 ?_
  refine va_get (D := D) (ci := 2) (v := .ref cr) (C := RX2) (T := TX2) (N := 5) hx hb hts wc_X5_quarrier_f1_X2 hown hK hP 1 rfl rfl 2 (by decide) (hts _ wd_X5_quarrier_f1_3) (fun _ h9 => h9) rfl dX5_quarrier_4 ?_
  refine lv_iload_n hx hb dX5_quarrier_7 rfl (lv_at hl 1 rfl) ?_
  refine va_calli (va_runV (As := [.int x]) (rest := []) ⟨hx, hb, hml, hown, hts⟩ (met_X1_has l D cI cZ cL cr cr0 cr1 cr2 cr3 nq x (by first | assumption | omega)) (cwV 1 hts gX5_quarrier_X1_has rfl rfl rfl (by decide +kernel) ⟨Nat.le_of_ble_eq_true rfl, Nat.le_of_ble_eq_true rfl⟩) (gw_pvr hK hP (wc := [(cr, .inr (1, [.ref cr0, .ref cr1, .ref cr2, .ref cr3, .int (nI nq)]))]) [2] rfl 1 rfl rfl rfl) rfl rfl hl.1 rfl (lv_room (Nat.le_of_ble_eq_true rfl)) dX5_quarrier_8 ⟨Nat.zero_le _, Nat.zero_le _⟩) hS (fun _ _ z => z.elim) (fun _ z => z.elim) (fun r_2 _ t H1 locs ht hvm hw hB hz1 hk1 hS => ?_)
  have hP := gw_ro hP hk1
  generalize H1 = H at hP hS ⊢
  rcases hw with ⟨rfl, hc1⟩ | ⟨rfl, hc1⟩
  · skip
    refine lv_if_eq (tgt := 23) hx hb dX5_quarrier_11 (by decide) (fun c_4 => False.elim (by revert c_4; decide)) (fun _ => ?_)
    refine lv_iload_n hx hb dX5_quarrier_14 rfl (lv_at hl 2 rfl) ?_
    refine lv_iconst (v := 0) hx hb dX5_quarrier_15 (by decide) ?_
    refine lv_iconst (v := 4) hx hb dX5_quarrier_16 (by decide) ?_
    refine va_calli (va_runS (As := [.int y, .int 0, .int 4]) (rest := []) ⟨hx, hb, hml, hown, hts⟩ (met_X5_isWithin l D cI cZ cL y 0 4) (va_cwS 3 hts gX5_quarrier_X5_isWithin rfl rfl rfl (by decide +kernel) ⟨Nat.le_of_ble_eq_true rfl, Nat.le_of_ble_eq_true rfl⟩) (gw_psr hK hP (wc := []) [] rfl) rfl rfl hl.1 rfl (lv_room (Nat.le_of_ble_eq_true rfl)) dX5_quarrier_17 ⟨Nat.zero_le _, Nat.zero_le _⟩) hS (fun _ _ z => z.elim) (fun _ z => z.elim) (fun r_6 _ t H1 locs ht hvm hw hB hz1 hk1 hS => ?_)
    have hP := gw_ro hP hk1
    generalize H1 = H at hP hS ⊢
    rcases hw with ⟨rfl, hc2⟩ | ⟨rfl, hc2⟩
    · skip
      exact absurd ⟨hc1, hc2⟩ hxy
    · skip
      refine lv_if_ne (tgt := 33) hx hb dX5_quarrier_20 (by decide) (fun c_8 => False.elim (by revert c_8; decide)) (fun _ => ?_)
      obtain ⟨sa, hsa⟩ := hSt (179, "no such quarrier, or what is not 0 to 4") (by decide +kernel)
      exact vx_throwS hx hb hfl hown (cls := gE1) (text := "no such quarrier, or what is not 0 to 4") (names := gNs) (A := gN) (by decide +kernel) (by decide +kernel) (hts _ wd_X5_quarrier_f1_4) (hts _ wd_X5_quarrier_f1_5) hsa (gw_hat (fun w h => hts w (List.mem_cons_of_mem _ (List.mem_append_right _ h))) gBad_1 hBd) gOt_1 hU hN hS (by rw [hml]; exact hl.1) dX5_quarrier_23 dX5_quarrier_26 dX5_quarrier_27 dX5_quarrier_29 dX5_quarrier_32 (fun x h => (hte x h).elim) (by decide) (by decide) (by decide) (by decide) hlocks (fun t hvm hz hq => ⟨(), trivial, rfl, gw_xF hS hz hq⟩) hS.2.2 (by decide) (by decide)
  · skip
    refine lv_if_eq (tgt := 23) hx hb dX5_quarrier_11 (by decide) (fun _ => ?_) (fun c_9 => False.elim (by revert c_9; decide))
    obtain ⟨sa, hsa⟩ := hSt (179, "no such quarrier, or what is not 0 to 4") (by decide +kernel)
    exact vx_throwS hx hb hfl hown (cls := gE1) (text := "no such quarrier, or what is not 0 to 4") (names := gNs) (A := gN) (by decide +kernel) (by decide +kernel) (hts _ wd_X5_quarrier_f1_4) (hts _ wd_X5_quarrier_f1_5) hsa (gw_hat (fun w h => hts w (List.mem_cons_of_mem _ (List.mem_append_right _ h))) gBad_1 hBd) gOt_1 hU hN hS (by rw [hml]; exact hl.1) dX5_quarrier_23 dX5_quarrier_26 dX5_quarrier_27 dX5_quarrier_29 dX5_quarrier_32 (fun x h => (hte x h).elim) (by decide) (by decide) (by decide) (by decide) hlocks (fun t hvm hz hq => ⟨(), trivial, rfl, gw_xF hS hz hq⟩) hS.2.2 (by decide) (by decide)

theorem wc_X5_wheel_f1_X5 : ∀ w ∈ u_ws RX5 TX5 4, w ∈ wsX5_wheel := by decide +kernel
theorem wd_X5_wheel_f1_1 : (.fieldLink RX5 10 "GritWheels" "now" "LGritWheels$Quarry;" : Cond) ∈ wsX5_wheel := by decide +kernel
theorem wc_X5_wheel_f1_X2 : ∀ w ∈ u_ws RX2 TX2 5, w ∈ wsX5_wheel := by decide +kernel
theorem wd_X5_wheel_f1_3 : (.fieldLink RX5 93 "GritWheels$Quarry" "wheels" "LGritWheels$Wheels;" : Cond) ∈ wsX5_wheel := by decide +kernel
theorem wd_X5_wheel_f1_4 : (.classLink RX5 30 gE1 : Cond) ∈ wsX5_wheel := by decide +kernel
theorem wd_X5_wheel_f1_5 : (.initialized gE1 : Cond) ∈ wsX5_wheel := by decide +kernel
set_option maxHeartbeats 4000000 in
set_option maxRecDepth 100000 in
theorem met_X5_wheel_f1 (l : Launch) (hfl : l.stackTraces = false) (D : va_G) (cI cZ cL : ClassId) (gx : Nat) (qu : Nat) (qt : Nat) (rf : Nat) (qf : Nat) (bd : Nat) (cr : Nat) (wh : Nat) (wh0 : Nat) (wh1 : Nat) (wh2 : Nat) (wh3 : Nat) (wh4 : Nat) (wh5 : Nat) (co : Int32) (nw : Nat) (day : Nat) (x : Int32) (y : Int32) (hnw : nw ≤ 60) (hxy : ¬ ((∃ kk, kk < nw ∧ x = nI kk) ∧ ((0 : Int32) ≤ y ∧ y ≤ 5))) : vx_Met l yX5_wheel wsX5_wheel ({ frames := 6, cells := 1, slots := 6, locals := 90 }) (gPx [.ref gx, .int x, .int y] D [(gx, .inr (5, [.ref qu, .ref qt, .ref rf, .int co])), (qu, .inr (2, [.ref qf, .ref bd, .ref cr, .ref wh, .int (nI day)])), (wh, .inr (4, [.ref wh0, .ref wh1, .ref wh2, .ref wh3, .ref wh4, .ref wh5, .int (nI nw)]))] (gT cI cZ cL)) (va_Qi (fun (_ : Int32) (_ : Unit) => False) (fun _ _ => True) gN) (vx_X (fun _ : Unit => True) (fun E _ _ => E = gE1) gN) 1 6 gN := by
  refine vx_ofW (cc := cX5_wheel) (maxL := 3) (ret := (some .int)) (by decide +kernel) rfl ?_
  intro p e s m args below meth c s₁ B hml hte hv
  obtain ⟨rfl, hP, hK, hU, hN, hSt, hBd⟩ := hv
  have hx := B.exec
  have hb := B.bytes
  have hr := B.returns
  have hts := atoms_spec (ws := wsX5_wheel) B.pre
  have hown : s.vm.findClass RX5 = some m.cls := findClass_of_methodNamed B.named
  have hlocks := B.notSynchronized
  have hS : va_S gN s.heap s.heap [] := va_S.rf
  have hP : va_P D vwCl [(gx, .inr (5, [.ref qu, .ref qt, .ref rf, .int co])), (qu, .inr (2, [.ref qf, .ref bd, .ref cr, .ref wh, .int (nI day)])), (wh, .inr (4, [.ref wh0, .ref wh1, .ref wh2, .ref wh3, .ref wh4, .ref wh5, .int (nI nw)]))] s.heap := hP
  have hl := lv_entry ([.ref gx, .int x, .int y]) (n := 3) (Nat.le_of_ble_eq_true rfl)
  rw [lg_entry_eq]
  generalize (lg_sl ([.ref gx, .int x, .int y]) ++ List.replicate (3 - (lg_sl ([.ref gx, .int x, .int y])).length) Slot.unset).toArray = ls at hl ⊢
  have hl : lv_has ls 3 [(0, .ref gx), (1, .int x), (2, .int y)] := hl
  refine lv_aload_n hx hb dX5_wheel_0 rfl (lv_at hl 0 rfl) ?_
  refine va_get (D := D) (ci := 5) (v := .ref qu) (C := RX5) (T := TX5) (N := 4) hx hb hts wc_X5_wheel_f1_X5 hown hK hP 0 rfl rfl 0 (by decide) (hts _ wd_X5_wheel_f1_1) (fun _ h9 => h9) rfl dX5_wheel_1 ?_
  refine va_get (D := D) (ci := 2) (v := .ref wh) (C := RX2) (T := TX2) (N := 5) hx hb hts wc_X5_wheel_f1_X2 hown hK hP 1 rfl rfl 3 (by decide) (hts _ wd_X5_wheel_f1_3) (fun _ h9 => h9) rfl dX5_wheel_4 ?_
  refine lv_iload_n hx hb dX5_wheel_7 rfl (lv_at hl 1 rfl) ?_
  refine va_calli (va_runV (As := [.int x]) (rest := []) ⟨hx, hb, hml, hown, hts⟩ (met_X4_has l D cI cZ cL wh wh0 wh1 wh2 wh3 wh4 wh5 nw x (by first | assumption | omega)) (cwV 1 hts gX5_wheel_X4_has rfl rfl rfl (by decide +kernel) ⟨Nat.le_of_ble_eq_true rfl, Nat.le_of_ble_eq_true rfl⟩) (gw_pvr hK hP (wc := [(wh, .inr (4, [.ref wh0, .ref wh1, .ref wh2, .ref wh3, .ref wh4, .ref wh5, .int (nI nw)]))]) [2] rfl 4 rfl rfl rfl) rfl rfl hl.1 rfl (lv_room (Nat.le_of_ble_eq_true rfl)) dX5_wheel_8 ⟨Nat.zero_le _, Nat.zero_le _⟩) hS (fun _ _ z => z.elim) (fun _ z => z.elim) (fun r_2 _ t H1 locs ht hvm hw hB hz1 hk1 hS => ?_)
  have hP := gw_ro hP hk1
  generalize H1 = H at hP hS ⊢
  rcases hw with ⟨rfl, hc1⟩ | ⟨rfl, hc1⟩
  · skip
    refine lv_if_eq (tgt := 23) hx hb dX5_wheel_11 (by decide) (fun c_4 => False.elim (by revert c_4; decide)) (fun _ => ?_)
    refine lv_iload_n hx hb dX5_wheel_14 rfl (lv_at hl 2 rfl) ?_
    refine lv_iconst (v := 0) hx hb dX5_wheel_15 (by decide) ?_
    refine lv_iconst (v := 5) hx hb dX5_wheel_16 (by decide) ?_
    refine va_calli (va_runS (As := [.int y, .int 0, .int 5]) (rest := []) ⟨hx, hb, hml, hown, hts⟩ (met_X5_isWithin l D cI cZ cL y 0 5) (va_cwS 3 hts gX5_wheel_X5_isWithin rfl rfl rfl (by decide +kernel) ⟨Nat.le_of_ble_eq_true rfl, Nat.le_of_ble_eq_true rfl⟩) (gw_psr hK hP (wc := []) [] rfl) rfl rfl hl.1 rfl (lv_room (Nat.le_of_ble_eq_true rfl)) dX5_wheel_17 ⟨Nat.zero_le _, Nat.zero_le _⟩) hS (fun _ _ z => z.elim) (fun _ z => z.elim) (fun r_6 _ t H1 locs ht hvm hw hB hz1 hk1 hS => ?_)
    have hP := gw_ro hP hk1
    generalize H1 = H at hP hS ⊢
    rcases hw with ⟨rfl, hc2⟩ | ⟨rfl, hc2⟩
    · skip
      exact absurd ⟨hc1, hc2⟩ hxy
    · skip
      refine lv_if_ne (tgt := 33) hx hb dX5_wheel_20 (by decide) (fun c_8 => False.elim (by revert c_8; decide)) (fun _ => ?_)
      obtain ⟨sa, hsa⟩ := hSt (184, "no such wheel, or what is not 0 to 5") (by decide +kernel)
      exact vx_throwS hx hb hfl hown (cls := gE1) (text := "no such wheel, or what is not 0 to 5") (names := gNs) (A := gN) (by decide +kernel) (by decide +kernel) (hts _ wd_X5_wheel_f1_4) (hts _ wd_X5_wheel_f1_5) hsa (gw_hat (fun w h => hts w (List.mem_cons_of_mem _ (List.mem_append_right _ h))) gBad_1 hBd) gOt_1 hU hN hS (by rw [hml]; exact hl.1) dX5_wheel_23 dX5_wheel_26 dX5_wheel_27 dX5_wheel_29 dX5_wheel_32 (fun x h => (hte x h).elim) (by decide) (by decide) (by decide) (by decide) hlocks (fun t hvm hz hq => ⟨(), trivial, rfl, gw_xF hS hz hq⟩) hS.2.2 (by decide) (by decide)
  · skip
    refine lv_if_eq (tgt := 23) hx hb dX5_wheel_11 (by decide) (fun _ => ?_) (fun c_9 => False.elim (by revert c_9; decide))
    obtain ⟨sa, hsa⟩ := hSt (184, "no such wheel, or what is not 0 to 5") (by decide +kernel)
    exact vx_throwS hx hb hfl hown (cls := gE1) (text := "no such wheel, or what is not 0 to 5") (names := gNs) (A := gN) (by decide +kernel) (by decide +kernel) (hts _ wd_X5_wheel_f1_4) (hts _ wd_X5_wheel_f1_5) hsa (gw_hat (fun w h => hts w (List.mem_cons_of_mem _ (List.mem_append_right _ h))) gBad_1 hBd) gOt_1 hU hN hS (by rw [hml]; exact hl.1) dX5_wheel_23 dX5_wheel_26 dX5_wheel_27 dX5_wheel_29 dX5_wheel_32 (fun x h => (hte x h).elim) (by decide) (by decide) (by decide) (by decide) hlocks (fun t hvm hz hq => ⟨(), trivial, rfl, gw_xF hS hz hq⟩) hS.2.2 (by decide) (by decide)

theorem wc_X5_raft_f1_X5 : ∀ w ∈ u_ws RX5 TX5 4, w ∈ wsX5_raft := by decide +kernel
theorem wd_X5_raft_f1_1 : (.fieldLink RX5 22 "GritWheels" "rafts" "LGritWheels$Rafts;" : Cond) ∈ wsX5_raft := by decide +kernel
theorem wd_X5_raft_f1_2 : (.classLink RX5 30 gE1 : Cond) ∈ wsX5_raft := by decide +kernel
theorem wd_X5_raft_f1_3 : (.initialized gE1 : Cond) ∈ wsX5_raft := by decide +kernel
set_option maxHeartbeats 4000000 in
set_option maxRecDepth 100000 in
theorem met_X5_raft_f1 (l : Launch) (hfl : l.stackTraces = false) (D : va_G) (cI cZ cL : ClassId) (gx : Nat) (qu : Nat) (qt : Nat) (rf : Nat) (rf0 : Nat) (rf1 : Nat) (co : Int32) (nr : Nat) (x : Int32) (y : Int32) (hnr : nr ≤ 3) (hxy : ¬ ((∃ kk, kk < nr ∧ x = nI kk) ∧ ((0 : Int32) ≤ y ∧ y ≤ 3))) : vx_Met l yX5_raft wsX5_raft ({ frames := 6, cells := 1, slots := 6, locals := 90 }) (gPx [.ref gx, .int x, .int y] D [(gx, .inr (5, [.ref qu, .ref qt, .ref rf, .int co])), (rf, .inr (3, [.ref rf0, .ref rf1, .int (nI nr)]))] (gT cI cZ cL)) (va_Qi (fun (_ : Int32) (_ : Unit) => False) (fun _ _ => True) gN) (vx_X (fun _ : Unit => True) (fun E _ _ => E = gE1) gN) 1 6 gN := by
  refine vx_ofW (cc := cX5_raft) (maxL := 3) (ret := (some .int)) (by decide +kernel) rfl ?_
  intro p e s m args below meth c s₁ B hml hte hv
  obtain ⟨rfl, hP, hK, hU, hN, hSt, hBd⟩ := hv
  have hx := B.exec
  have hb := B.bytes
  have hr := B.returns
  have hts := atoms_spec (ws := wsX5_raft) B.pre
  have hown : s.vm.findClass RX5 = some m.cls := findClass_of_methodNamed B.named
  have hlocks := B.notSynchronized
  have hS : va_S gN s.heap s.heap [] := va_S.rf
  have hP : va_P D vwCl [(gx, .inr (5, [.ref qu, .ref qt, .ref rf, .int co])), (rf, .inr (3, [.ref rf0, .ref rf1, .int (nI nr)]))] s.heap := hP
  have hl := lv_entry ([.ref gx, .int x, .int y]) (n := 3) (Nat.le_of_ble_eq_true rfl)
  rw [lg_entry_eq]
  generalize (lg_sl ([.ref gx, .int x, .int y]) ++ List.replicate (3 - (lg_sl ([.ref gx, .int x, .int y])).length) Slot.unset).toArray = ls at hl ⊢
  have hl : lv_has ls 3 [(0, .ref gx), (1, .int x), (2, .int y)] := hl
  refine lv_aload_n hx hb dX5_raft_0 rfl (lv_at hl 0 rfl) ?_
  refine va_get (D := D) (ci := 5) (v := .ref rf) (C := RX5) (T := TX5) (N := 4) hx hb hts wc_X5_raft_f1_X5 hown hK hP 0 rfl rfl 2 (by decide) (hts _ wd_X5_raft_f1_1) (fun _ h9 => h9) rfl dX5_raft_1 ?_
  refine lv_iload_n hx hb dX5_raft_4 rfl (lv_at hl 1 rfl) ?_
  refine va_calli (va_runV (As := [.int x]) (rest := []) ⟨hx, hb, hml, hown, hts⟩ (met_X3_has l D cI cZ cL rf rf0 rf1 nr x (by first | assumption | omega)) (cwV 1 hts gX5_raft_X3_has rfl rfl rfl (by decide +kernel) ⟨Nat.le_of_ble_eq_true rfl, Nat.le_of_ble_eq_true rfl⟩) (gw_pvr hK hP (wc := [(rf, .inr (3, [.ref rf0, .ref rf1, .int (nI nr)]))]) [1] rfl 3 rfl rfl rfl) rfl rfl hl.1 rfl (lv_room (Nat.le_of_ble_eq_true rfl)) dX5_raft_5 ⟨Nat.zero_le _, Nat.zero_le _⟩) hS (fun _ _ z => z.elim) (fun _ z => z.elim) (fun r_2 _ t H1 locs ht hvm hw hB hz1 hk1 hS => ?_)
  have hP := gw_ro hP hk1
  generalize H1 = H at hP hS ⊢
  rcases hw with ⟨rfl, hc1⟩ | ⟨rfl, hc1⟩
  · skip
    refine lv_if_eq (tgt := 20) hx hb dX5_raft_8 (by decide) (fun c_4 => False.elim (by revert c_4; decide)) (fun _ => ?_)
    refine lv_iload_n hx hb dX5_raft_11 rfl (lv_at hl 2 rfl) ?_
    refine lv_iconst (v := 0) hx hb dX5_raft_12 (by decide) ?_
    refine lv_iconst (v := 3) hx hb dX5_raft_13 (by decide) ?_
    refine va_calli (va_runS (As := [.int y, .int 0, .int 3]) (rest := []) ⟨hx, hb, hml, hown, hts⟩ (met_X5_isWithin l D cI cZ cL y 0 3) (va_cwS 3 hts gX5_raft_X5_isWithin rfl rfl rfl (by decide +kernel) ⟨Nat.le_of_ble_eq_true rfl, Nat.le_of_ble_eq_true rfl⟩) (gw_psr hK hP (wc := []) [] rfl) rfl rfl hl.1 rfl (lv_room (Nat.le_of_ble_eq_true rfl)) dX5_raft_14 ⟨Nat.zero_le _, Nat.zero_le _⟩) hS (fun _ _ z => z.elim) (fun _ z => z.elim) (fun r_6 _ t H1 locs ht hvm hw hB hz1 hk1 hS => ?_)
    have hP := gw_ro hP hk1
    generalize H1 = H at hP hS ⊢
    rcases hw with ⟨rfl, hc2⟩ | ⟨rfl, hc2⟩
    · skip
      exact absurd ⟨hc1, hc2⟩ hxy
    · skip
      refine lv_if_ne (tgt := 30) hx hb dX5_raft_17 (by decide) (fun c_8 => False.elim (by revert c_8; decide)) (fun _ => ?_)
      obtain ⟨sa, hsa⟩ := hSt (189, "no such raft, or what is not 0 to 3") (by decide +kernel)
      exact vx_throwS hx hb hfl hown (cls := gE1) (text := "no such raft, or what is not 0 to 3") (names := gNs) (A := gN) (by decide +kernel) (by decide +kernel) (hts _ wd_X5_raft_f1_2) (hts _ wd_X5_raft_f1_3) hsa (gw_hat (fun w h => hts w (List.mem_cons_of_mem _ (List.mem_append_right _ h))) gBad_1 hBd) gOt_1 hU hN hS (by rw [hml]; exact hl.1) dX5_raft_20 dX5_raft_23 dX5_raft_24 dX5_raft_26 dX5_raft_29 (fun x h => (hte x h).elim) (by decide) (by decide) (by decide) (by decide) hlocks (fun t hvm hz hq => ⟨(), trivial, rfl, gw_xF hS hz hq⟩) hS.2.2 (by decide) (by decide)
  · skip
    refine lv_if_eq (tgt := 20) hx hb dX5_raft_8 (by decide) (fun _ => ?_) (fun c_9 => False.elim (by revert c_9; decide))
    obtain ⟨sa, hsa⟩ := hSt (189, "no such raft, or what is not 0 to 3") (by decide +kernel)
    exact vx_throwS hx hb hfl hown (cls := gE1) (text := "no such raft, or what is not 0 to 3") (names := gNs) (A := gN) (by decide +kernel) (by decide +kernel) (hts _ wd_X5_raft_f1_2) (hts _ wd_X5_raft_f1_3) hsa (gw_hat (fun w h => hts w (List.mem_cons_of_mem _ (List.mem_append_right _ h))) gBad_1 hBd) gOt_1 hU hN hS (by rw [hml]; exact hl.1) dX5_raft_20 dX5_raft_23 dX5_raft_24 dX5_raft_26 dX5_raft_29 (fun x h => (hte x h).elim) (by decide) (by decide) (by decide) (by decide) hlocks (fun t hvm hz hq => ⟨(), trivial, rfl, gw_xF hS hz hq⟩) hS.2.2 (by decide) (by decide)

theorem wd_X5_count_f1_0 : (.classLink RX5 30 gE1 : Cond) ∈ wsX5_count := by decide +kernel
theorem wd_X5_count_f1_1 : (.initialized gE1 : Cond) ∈ wsX5_count := by decide +kernel
set_option maxHeartbeats 4000000 in
set_option maxRecDepth 100000 in
theorem met_X5_count_f1 (l : Launch) (hfl : l.stackTraces = false) (D : va_G) (cI cZ cL : ClassId) (gx : Nat) (qu : Nat) (qt : Nat) (rf : Nat) (co : Int32) (y : Int32) (hy : ¬ ((0 : Int32) ≤ y ∧ y ≤ 9)) : vx_Met l yX5_count wsX5_count ({ frames := 6, cells := 1, slots := 6, locals := 104 }) (gPx [.ref gx, .int y] D [(gx, .inr (5, [.ref qu, .ref qt, .ref rf, .int co]))] (gT cI cZ cL)) (va_Qi (fun (_ : Int32) (_ : Unit) => False) (fun _ _ => True) gN) (vx_X (fun _ : Unit => True) (fun E _ _ => E = gE1) gN) 1 6 gN := by
  refine vx_ofW (cc := cX5_count) (maxL := 2) (ret := (some .int)) (by decide +kernel) rfl ?_
  intro p e s m args below meth c s₁ B hml hte hv
  obtain ⟨rfl, hP, hK, hU, hN, hSt, hBd⟩ := hv
  have hx := B.exec
  have hb := B.bytes
  have hr := B.returns
  have hts := atoms_spec (ws := wsX5_count) B.pre
  have hown : s.vm.findClass RX5 = some m.cls := findClass_of_methodNamed B.named
  have hlocks := B.notSynchronized
  have hS : va_S gN s.heap s.heap [] := va_S.rf
  have hP : va_P D vwCl [(gx, .inr (5, [.ref qu, .ref qt, .ref rf, .int co]))] s.heap := hP
  have hl := lv_entry ([.ref gx, .int y]) (n := 2) (Nat.le_of_ble_eq_true rfl)
  rw [lg_entry_eq]
  generalize (lg_sl ([.ref gx, .int y]) ++ List.replicate (2 - (lg_sl ([.ref gx, .int y])).length) Slot.unset).toArray = ls at hl ⊢
  have hl : lv_has ls 2 [(0, .ref gx), (1, .int y)] := hl
  refine lv_iload_n hx hb dX5_count_0 rfl (lv_at hl 1 rfl) ?_
  refine lv_iconst (v := 0) hx hb dX5_count_1 (by decide) ?_
  refine lv_bipush (v := 9) hx hb dX5_count_2 (by decide) ?_
  refine va_calli (va_runS (As := [.int y, .int 0, .int 9]) (rest := []) ⟨hx, hb, hml, hown, hts⟩ (met_X5_isWithin l D cI cZ cL y 0 9) (va_cwS 3 hts gX5_count_X5_isWithin rfl rfl rfl (by decide +kernel) ⟨Nat.le_of_ble_eq_true rfl, Nat.le_of_ble_eq_true rfl⟩) (gw_psr hK hP (wc := []) [] rfl) rfl rfl hl.1 rfl (lv_room (Nat.le_of_ble_eq_true rfl)) dX5_count_4 ⟨Nat.zero_le _, Nat.zero_le _⟩) hS (fun _ _ z => z.elim) (fun _ z => z.elim) (fun r_2 _ t H1 locs ht hvm hw hB hz1 hk1 hS => ?_)
  have hP := gw_ro hP hk1
  generalize H1 = H at hP hS ⊢
  rcases hw with ⟨rfl, hc⟩ | ⟨rfl, hc⟩
  · skip
    exact absurd hc hy
  · skip
    refine lv_if_ne (tgt := 20) hx hb dX5_count_7 (by decide) (fun c_4 => False.elim (by revert c_4; decide)) (fun _ => ?_)
    obtain ⟨sa, hsa⟩ := hSt (194, "what is not 0 to 9") (by decide +kernel)
    exact vx_throwS hx hb hfl hown (cls := gE1) (text := "what is not 0 to 9") (names := gNs) (A := gN) (by decide +kernel) (by decide +kernel) (hts _ wd_X5_count_f1_0) (hts _ wd_X5_count_f1_1) hsa (gw_hat (fun w h => hts w (List.mem_cons_of_mem _ (List.mem_append_right _ h))) gBad_1 hBd) gOt_1 hU hN hS (by rw [hml]; exact hl.1) dX5_count_10 dX5_count_13 dX5_count_14 dX5_count_16 dX5_count_19 (fun x h => (hte x h).elim) (by decide) (by decide) (by decide) (by decide) hlocks (fun t hvm hz hq => ⟨(), trivial, rfl, gw_xF hS hz hq⟩) hS.2.2 (by decide) (by decide)

theorem wd_X5_pass_f1_0 : (.classLink RX5 37 gE2 : Cond) ∈ wsX5_pass := by decide +kernel
theorem wd_X5_pass_f1_1 : (.initialized gE2 : Cond) ∈ wsX5_pass := by decide +kernel
set_option maxHeartbeats 4000000 in
set_option maxRecDepth 100000 in
theorem met_X5_pass_f1 (l : Launch) (hfl : l.stackTraces = false) (D : va_G) (cI cZ cL : ClassId) (gx : Nat) (qu : Nat) (qt : Nat) (rf : Nat) (co : Int32) (y : Int32) (hy : ¬ ((1 : Int32) ≤ y ∧ y ≤ 40)) : vx_Met l yX5_pass wsX5_pass ({ frames := 6, cells := 1, slots := 6, locals := 114 }) (gPx [.ref gx, .int y] D [(gx, .inr (5, [.ref qu, .ref qt, .ref rf, .int co]))] (gT cI cZ cL)) (va_Qi (fun (_ : Int32) (_ : Unit) => False) (fun _ _ => True) gN) (vx_X (fun _ : Unit => True) (fun E _ _ => E = gE2) gN) 1 6 gN := by
  refine vx_ofW (cc := cX5_pass) (maxL := 3) (ret := (some .int)) (by decide +kernel) rfl ?_
  intro p e s m args below meth c s₁ B hml hte hv
  obtain ⟨rfl, hP, hK, hU, hN, hSt, hBd⟩ := hv
  have hx := B.exec
  have hb := B.bytes
  have hr := B.returns
  have hts := atoms_spec (ws := wsX5_pass) B.pre
  have hown : s.vm.findClass RX5 = some m.cls := findClass_of_methodNamed B.named
  have hlocks := B.notSynchronized
  have hS : va_S gN s.heap s.heap [] := va_S.rf
  have hP : va_P D vwCl [(gx, .inr (5, [.ref qu, .ref qt, .ref rf, .int co]))] s.heap := hP
  have hl := lv_entry ([.ref gx, .int y]) (n := 3) (Nat.le_of_ble_eq_true rfl)
  rw [lg_entry_eq]
  generalize (lg_sl ([.ref gx, .int y]) ++ List.replicate (3 - (lg_sl ([.ref gx, .int y])).length) Slot.unset).toArray = ls at hl ⊢
  have hl : lv_has ls 3 [(0, .ref gx), (1, .int y)] := hl
  refine lv_iload_n hx hb dX5_pass_0 rfl (lv_at hl 1 rfl) ?_
  refine lv_iconst (v := 1) hx hb dX5_pass_1 (by decide) ?_
  refine lv_bipush (v := 40) hx hb dX5_pass_2 (by decide) ?_
  refine va_calli (va_runS (As := [.int y, .int 1, .int 40]) (rest := []) ⟨hx, hb, hml, hown, hts⟩ (met_X5_isWithin l D cI cZ cL y 1 40) (va_cwS 3 hts gX5_pass_X5_isWithin rfl rfl rfl (by decide +kernel) ⟨Nat.le_of_ble_eq_true rfl, Nat.le_of_ble_eq_true rfl⟩) (gw_psr hK hP (wc := []) [] rfl) rfl rfl hl.1 rfl (lv_room (Nat.le_of_ble_eq_true rfl)) dX5_pass_4 ⟨Nat.zero_le _, Nat.zero_le _⟩) hS (fun _ _ z => z.elim) (fun _ z => z.elim) (fun r_2 _ t H1 locs ht hvm hw hB hz1 hk1 hS => ?_)
  have hP := gw_ro hP hk1
  generalize H1 = H at hP hS ⊢
  rcases hw with ⟨rfl, hc⟩ | ⟨rfl, hc⟩
  · skip
    exact absurd hc hy
  · skip
    refine lv_if_ne (tgt := 20) hx hb dX5_pass_7 (by decide) (fun c_4 => False.elim (by revert c_4; decide)) (fun _ => ?_)
    obtain ⟨sa, hsa⟩ := hSt (199, "days are not 1 to 40") (by decide +kernel)
    exact vx_throwS hx hb hfl hown (cls := gE2) (text := "days are not 1 to 40") (names := gNs) (A := gN) (by decide +kernel) (by decide +kernel) (hts _ wd_X5_pass_f1_0) (hts _ wd_X5_pass_f1_1) hsa (gw_hat (fun w h => hts w (List.mem_cons_of_mem _ (List.mem_append_right _ h))) gBad_2 hBd) gOt_2 hU hN hS (by rw [hml]; exact hl.1) dX5_pass_10 dX5_pass_13 dX5_pass_14 dX5_pass_16 dX5_pass_19 (fun x h => (hte x h).elim) (by decide) (by decide) (by decide) (by decide) hlocks (fun t hvm hz hq => ⟨(), trivial, rfl, gw_xF hS hz hq⟩) hS.2.2 (by decide) (by decide)

theorem wd_X5_foresee_f1_0 : (.classLink RX5 37 gE2 : Cond) ∈ wsX5_foresee := by decide +kernel
theorem wd_X5_foresee_f1_1 : (.initialized gE2 : Cond) ∈ wsX5_foresee := by decide +kernel
set_option maxHeartbeats 4000000 in
set_option maxRecDepth 100000 in
theorem met_X5_foresee_f1 (l : Launch) (hfl : l.stackTraces = false) (D : va_G) (cI cZ cL : ClassId) (gx : Nat) (qu : Nat) (qt : Nat) (rf : Nat) (co : Int32) (y : Int32) (z : Int32) (hy : ¬ ((1 : Int32) ≤ y ∧ y ≤ 40)) : vx_Met l yX5_foresee wsX5_foresee ({ frames := 6, cells := 1, slots := 6, locals := 114 }) (gPx [.ref gx, .int y, .int z] D [(gx, .inr (5, [.ref qu, .ref qt, .ref rf, .int co]))] (gT cI cZ cL)) (va_Qi (fun (_ : Int32) (_ : Unit) => False) (fun _ _ => True) gN) (vx_X (fun _ : Unit => True) (fun E _ _ => E = gE2) gN) 1 6 gN := by
  refine vx_ofW (cc := cX5_foresee) (maxL := 3) (ret := (some .int)) (by decide +kernel) rfl ?_
  intro p e s m args below meth c s₁ B hml hte hv
  obtain ⟨rfl, hP, hK, hU, hN, hSt, hBd⟩ := hv
  have hx := B.exec
  have hb := B.bytes
  have hr := B.returns
  have hts := atoms_spec (ws := wsX5_foresee) B.pre
  have hown : s.vm.findClass RX5 = some m.cls := findClass_of_methodNamed B.named
  have hlocks := B.notSynchronized
  have hS : va_S gN s.heap s.heap [] := va_S.rf
  have hP : va_P D vwCl [(gx, .inr (5, [.ref qu, .ref qt, .ref rf, .int co]))] s.heap := hP
  have hl := lv_entry ([.ref gx, .int y, .int z]) (n := 3) (Nat.le_of_ble_eq_true rfl)
  rw [lg_entry_eq]
  generalize (lg_sl ([.ref gx, .int y, .int z]) ++ List.replicate (3 - (lg_sl ([.ref gx, .int y, .int z])).length) Slot.unset).toArray = ls at hl ⊢
  have hl : lv_has ls 3 [(0, .ref gx), (1, .int y), (2, .int z)] := hl
  refine lv_iload_n hx hb dX5_foresee_0 rfl (lv_at hl 1 rfl) ?_
  refine lv_iconst (v := 1) hx hb dX5_foresee_1 (by decide) ?_
  refine lv_bipush (v := 40) hx hb dX5_foresee_2 (by decide) ?_
  refine va_calli (va_runS (As := [.int y, .int 1, .int 40]) (rest := []) ⟨hx, hb, hml, hown, hts⟩ (met_X5_isWithin l D cI cZ cL y 1 40) (va_cwS 3 hts gX5_foresee_X5_isWithin rfl rfl rfl (by decide +kernel) ⟨Nat.le_of_ble_eq_true rfl, Nat.le_of_ble_eq_true rfl⟩) (gw_psr hK hP (wc := []) [] rfl) rfl rfl hl.1 rfl (lv_room (Nat.le_of_ble_eq_true rfl)) dX5_foresee_4 ⟨Nat.zero_le _, Nat.zero_le _⟩) hS (fun _ _ z => z.elim) (fun _ z => z.elim) (fun r_2 _ t H1 locs ht hvm hw hB hz1 hk1 hS => ?_)
  have hP := gw_ro hP hk1
  generalize H1 = H at hP hS ⊢
  rcases hw with ⟨rfl, hc⟩ | ⟨rfl, hc⟩
  · skip
    exact absurd hc hy
  · skip
    refine lv_if_ne (tgt := 20) hx hb dX5_foresee_7 (by decide) (fun c_4 => False.elim (by revert c_4; decide)) (fun _ => ?_)
    obtain ⟨sa, hsa⟩ := hSt (199, "days are not 1 to 40") (by decide +kernel)
    exact vx_throwS hx hb hfl hown (cls := gE2) (text := "days are not 1 to 40") (names := gNs) (A := gN) (by decide +kernel) (by decide +kernel) (hts _ wd_X5_foresee_f1_0) (hts _ wd_X5_foresee_f1_1) hsa (gw_hat (fun w h => hts w (List.mem_cons_of_mem _ (List.mem_append_left _ (List.mem_append_right _ h)))) gBad_2 hBd) gOt_2 hU hN hS (by rw [hml]; exact hl.1) dX5_foresee_10 dX5_foresee_13 dX5_foresee_14 dX5_foresee_16 dX5_foresee_19 (fun x h => (hte x h).elim) (by decide) (by decide) (by decide) (by decide) hlocks (fun t hvm hz hq => ⟨(), trivial, rfl, gw_xF hS hz hq⟩) hS.2.2 (by decide) (by decide)

theorem wd_X5_foresee_f2_0 : (.classLink RX5 30 gE1 : Cond) ∈ wsX5_foresee := by decide +kernel
theorem wd_X5_foresee_f2_1 : (.initialized gE1 : Cond) ∈ wsX5_foresee := by decide +kernel
set_option maxHeartbeats 4000000 in
set_option maxRecDepth 100000 in
theorem met_X5_foresee_f2 (l : Launch) (hfl : l.stackTraces = false) (D : va_G) (cI cZ cL : ClassId) (gx : Nat) (qu : Nat) (qt : Nat) (rf : Nat) (co : Int32) (y : Int32) (z : Int32) (hy : (1 : Int32) ≤ y ∧ y ≤ 40) (hzz : ¬ (((3 : Int32) ≤ z ∧ z ≤ 5) ∨ z = 9)) : vx_Met l yX5_foresee wsX5_foresee ({ frames := 6, cells := 1, slots := 6, locals := 114 }) (gPx [.ref gx, .int y, .int z] D [(gx, .inr (5, [.ref qu, .ref qt, .ref rf, .int co]))] (gT cI cZ cL)) (va_Qi (fun (_ : Int32) (_ : Unit) => False) (fun _ _ => True) gN) (vx_X (fun _ : Unit => True) (fun E _ _ => E = gE1) gN) 1 6 gN := by
  refine vx_ofW (cc := cX5_foresee) (maxL := 3) (ret := (some .int)) (by decide +kernel) rfl ?_
  intro p e s m args below meth c s₁ B hml hte hv
  obtain ⟨rfl, hP, hK, hU, hN, hSt, hBd⟩ := hv
  have hx := B.exec
  have hb := B.bytes
  have hr := B.returns
  have hts := atoms_spec (ws := wsX5_foresee) B.pre
  have hown : s.vm.findClass RX5 = some m.cls := findClass_of_methodNamed B.named
  have hlocks := B.notSynchronized
  have hS : va_S gN s.heap s.heap [] := va_S.rf
  have hP : va_P D vwCl [(gx, .inr (5, [.ref qu, .ref qt, .ref rf, .int co]))] s.heap := hP
  have hl := lv_entry ([.ref gx, .int y, .int z]) (n := 3) (Nat.le_of_ble_eq_true rfl)
  rw [lg_entry_eq]
  generalize (lg_sl ([.ref gx, .int y, .int z]) ++ List.replicate (3 - (lg_sl ([.ref gx, .int y, .int z])).length) Slot.unset).toArray = ls at hl ⊢
  have hl : lv_has ls 3 [(0, .ref gx), (1, .int y), (2, .int z)] := hl
  refine lv_iload_n hx hb dX5_foresee_0 rfl (lv_at hl 1 rfl) ?_
  refine lv_iconst (v := 1) hx hb dX5_foresee_1 (by decide) ?_
  refine lv_bipush (v := 40) hx hb dX5_foresee_2 (by decide) ?_
  refine va_calli (va_runS (As := [.int y, .int 1, .int 40]) (rest := []) ⟨hx, hb, hml, hown, hts⟩ (met_X5_isWithin l D cI cZ cL y 1 40) (va_cwS 3 hts gX5_foresee_X5_isWithin rfl rfl rfl (by decide +kernel) ⟨Nat.le_of_ble_eq_true rfl, Nat.le_of_ble_eq_true rfl⟩) (gw_psr hK hP (wc := []) [] rfl) rfl rfl hl.1 rfl (lv_room (Nat.le_of_ble_eq_true rfl)) dX5_foresee_4 ⟨Nat.zero_le _, Nat.zero_le _⟩) hS (fun _ _ z => z.elim) (fun _ z => z.elim) (fun r_2 _ t H1 locs ht hvm hw hB hz1 hk1 hS => ?_)
  have hP := gw_ro hP hk1
  generalize H1 = H at hP hS ⊢
  rcases hw with ⟨rfl, hc⟩ | ⟨rfl, hc⟩
  · skip
    refine lv_if_ne (tgt := 20) hx hb dX5_foresee_7 (by decide) (fun _ => ?_) (fun c_4 => False.elim (by revert c_4; decide))
    refine lv_iload_n hx hb dX5_foresee_20 rfl (lv_at hl 2 rfl) ?_
    refine lv_iconst (v := 3) hx hb dX5_foresee_21 (by decide) ?_
    refine lv_iconst (v := 5) hx hb dX5_foresee_22 (by decide) ?_
    refine va_calli (va_runS (As := [.int z, .int 3, .int 5]) (rest := []) ⟨hx, hb, hml, hown, hts⟩ (met_X5_isWithin l D cI cZ cL z 3 5) (va_cwS 3 hts gX5_foresee_X5_isWithin rfl rfl rfl (by decide +kernel) ⟨Nat.le_of_ble_eq_true rfl, Nat.le_of_ble_eq_true rfl⟩) (gw_psr hK hP (wc := []) [] rfl) rfl rfl hl.1 rfl (lv_room (Nat.le_of_ble_eq_true rfl)) dX5_foresee_23 ⟨Nat.zero_le _, Nat.zero_le _⟩) hS (fun _ _ z => z.elim) (fun _ z => z.elim) (fun r_6 _ t H1 locs ht hvm hw hB hz1 hk1 hS => ?_)
    have hP := gw_ro hP hk1
    generalize H1 = H at hP hS ⊢
    rcases hw with ⟨rfl, hc⟩ | ⟨rfl, hc⟩
    · skip
      exact absurd (Or.inl hc) hzz
    · skip
      refine lv_if_ne (tgt := 45) hx hb dX5_foresee_26 (by decide) (fun c_8 => False.elim (by revert c_8; decide)) (fun _ => ?_)
      refine lv_iload_n hx hb dX5_foresee_29 rfl (lv_at hl 2 rfl) ?_
      refine lv_bipush (v := 9) hx hb dX5_foresee_30 (by decide) ?_
      refine lv_icmp_eq (tgt := 45) hx hb dX5_foresee_32 (by decide) (fun h9 => ?_) (fun h9 => ?_)
      · skip
        exact absurd (Or.inr h9) hzz
      · skip
        obtain ⟨sa, hsa⟩ := hSt (206, "what is not 3, 4, 5 or 9") (by decide +kernel)
        exact vx_throwS hx hb hfl hown (cls := gE1) (text := "what is not 3, 4, 5 or 9") (names := gNs) (A := gN) (by decide +kernel) (by decide +kernel) (hts _ wd_X5_foresee_f2_0) (hts _ wd_X5_foresee_f2_1) hsa (gw_hat (fun w h => hts w (List.mem_cons_of_mem _ (List.mem_append_right _ h))) gBad_1 hBd) gOt_1 hU hN hS (by rw [hml]; exact hl.1) dX5_foresee_35 dX5_foresee_38 dX5_foresee_39 dX5_foresee_41 dX5_foresee_44 (fun x h => (hte x h).elim) (by decide) (by decide) (by decide) (by decide) hlocks (fun t hvm hz hq => ⟨(), trivial, rfl, gw_xF hS hz hq⟩) hS.2.2 (by decide) (by decide)
  · skip
    exact absurd hy hc

theorem wc_X5_advise_f1_X5 : ∀ w ∈ u_ws RX5 TX5 4, w ∈ wsX5_advise := by decide +kernel
theorem wd_X5_advise_f1_1 : (.fieldLink RX5 10 "GritWheels" "now" "LGritWheels$Quarry;" : Cond) ∈ wsX5_advise := by decide +kernel
theorem wc_X5_advise_f1_X2 : ∀ w ∈ u_ws RX2 TX2 5, w ∈ wsX5_advise := by decide +kernel
theorem wd_X5_advise_f1_3 : (.fieldLink RX5 69 "GritWheels$Quarry" "crew" "LGritWheels$Crew;" : Cond) ∈ wsX5_advise := by decide +kernel
theorem wd_X5_advise_f1_4 : (.classLink RX5 30 gE1 : Cond) ∈ wsX5_advise := by decide +kernel
theorem wd_X5_advise_f1_5 : (.initialized gE1 : Cond) ∈ wsX5_advise := by decide +kernel
set_option maxHeartbeats 4000000 in
set_option maxRecDepth 100000 in
theorem met_X5_advise_f1 (l : Launch) (hfl : l.stackTraces = false) (D : va_G) (cI cZ cL : ClassId) (gx : Nat) (qu : Nat) (qt : Nat) (rf : Nat) (qf : Nat) (bd : Nat) (cr : Nat) (wh : Nat) (cr0 : Nat) (cr1 : Nat) (cr2 : Nat) (cr3 : Nat) (co : Int32) (nq : Nat) (day : Nat) (x : Int32) (y : Int32) (hnq : nq ≤ 6) (hx1 : ¬ ∃ kk, kk < nq ∧ x = nI kk) : vx_Met l yX5_advise wsX5_advise ({ frames := 6, cells := 1, slots := 6, locals := 137 }) (gPx [.ref gx, .int x, .int y] D [(gx, .inr (5, [.ref qu, .ref qt, .ref rf, .int co])), (qu, .inr (2, [.ref qf, .ref bd, .ref cr, .ref wh, .int (nI day)])), (cr, .inr (1, [.ref cr0, .ref cr1, .ref cr2, .ref cr3, .int (nI nq)]))] (gT cI cZ cL)) (va_Qi (fun (_ : Int32) (_ : Unit) => False) (fun _ _ => True) gN) (vx_X (fun _ : Unit => True) (fun E _ _ => E = gE1) gN) 1 6 gN := by
  refine vx_ofW (cc := cX5_advise) (maxL := 7) (ret := (some .int)) (by decide +kernel) rfl ?_
  intro p e s m args below meth c s₁ B hml hte hv
  obtain ⟨rfl, hP, hK, hU, hN, hSt, hBd⟩ := hv
  have hx := B.exec
  have hb := B.bytes
  have hr := B.returns
  have hts := atoms_spec (ws := wsX5_advise) B.pre
  have hown : s.vm.findClass RX5 = some m.cls := findClass_of_methodNamed B.named
  have hlocks := B.notSynchronized
  have hS : va_S gN s.heap s.heap [] := va_S.rf
  have hP : va_P D vwCl [(gx, .inr (5, [.ref qu, .ref qt, .ref rf, .int co])), (qu, .inr (2, [.ref qf, .ref bd, .ref cr, .ref wh, .int (nI day)])), (cr, .inr (1, [.ref cr0, .ref cr1, .ref cr2, .ref cr3, .int (nI nq)]))] s.heap := hP
  have hl := lv_entry ([.ref gx, .int x, .int y]) (n := 7) (Nat.le_of_ble_eq_true rfl)
  rw [lg_entry_eq]
  generalize (lg_sl ([.ref gx, .int x, .int y]) ++ List.replicate (7 - (lg_sl ([.ref gx, .int x, .int y])).length) Slot.unset).toArray = ls at hl ⊢
  have hl : lv_has ls 7 [(0, .ref gx), (1, .int x), (2, .int y)] := hl
  refine lv_aload_n hx hb dX5_advise_0 rfl (lv_at hl 0 rfl) ?_
  refine va_get (D := D) (ci := 5) (v := .ref qu) (C := RX5) (T := TX5) (N := 4) hx hb hts wc_X5_advise_f1_X5 hown hK hP 0 rfl rfl 0 (by decide) (hts _ wd_X5_advise_f1_1) (fun _ h9 => h9) rfl dX5_advise_1 ?_
  refine va_get (D := D) (ci := 2) (v := .ref cr) (C := RX2) (T := TX2) (N := 5) hx hb hts wc_X5_advise_f1_X2 hown hK hP 1 rfl rfl 2 (by decide) (hts _ wd_X5_advise_f1_3) (fun _ h9 => h9) rfl dX5_advise_4 ?_
  refine lv_iload_n hx hb dX5_advise_7 rfl (lv_at hl 1 rfl) ?_
  refine va_calli (va_runV (As := [.int x]) (rest := []) ⟨hx, hb, hml, hown, hts⟩ (met_X1_has l D cI cZ cL cr cr0 cr1 cr2 cr3 nq x (by first | assumption | omega)) (cwV 1 hts gX5_advise_X1_has rfl rfl rfl (by decide +kernel) ⟨Nat.le_of_ble_eq_true rfl, Nat.le_of_ble_eq_true rfl⟩) (gw_pvr hK hP (wc := [(cr, .inr (1, [.ref cr0, .ref cr1, .ref cr2, .ref cr3, .int (nI nq)]))]) [2] rfl 1 rfl rfl rfl) rfl rfl hl.1 rfl (lv_room (Nat.le_of_ble_eq_true rfl)) dX5_advise_8 ⟨Nat.zero_le _, Nat.zero_le _⟩) hS (fun _ _ z => z.elim) (fun _ z => z.elim) (fun r_2 _ t H1 locs ht hvm hw hB hz1 hk1 hS => ?_)
  have hP := gw_ro hP hk1
  generalize H1 = H at hP hS ⊢
  rcases hw with ⟨rfl, hc⟩ | ⟨rfl, hc⟩
  · skip
    exact absurd hc hx1
  · skip
    refine lv_if_ne (tgt := 24) hx hb dX5_advise_11 (by decide) (fun c_4 => False.elim (by revert c_4; decide)) (fun _ => ?_)
    obtain ⟨sa, hsa⟩ := hSt (85, "no such quarrier") (by decide +kernel)
    exact vx_throwS hx hb hfl hown (cls := gE1) (text := "no such quarrier") (names := gNs) (A := gN) (by decide +kernel) (by decide +kernel) (hts _ wd_X5_advise_f1_4) (hts _ wd_X5_advise_f1_5) hsa (gw_hat (fun w h => hts w (List.mem_cons_of_mem _ (List.mem_append_left _ (List.mem_append_right _ h)))) gBad_1 hBd) gOt_1 hU hN hS (by rw [hml]; exact hl.1) dX5_advise_14 dX5_advise_17 dX5_advise_18 dX5_advise_20 dX5_advise_23 (fun x h => (hte x h).elim) (by decide) (by decide) (by decide) (by decide) hlocks (fun t hvm hz hq => ⟨(), trivial, rfl, gw_xF hS hz hq⟩) hS.2.2 (by decide) (by decide)

theorem wc_X5_advise_f2_X5 : ∀ w ∈ u_ws RX5 TX5 4, w ∈ wsX5_advise := by decide +kernel
theorem wd_X5_advise_f2_1 : (.fieldLink RX5 10 "GritWheels" "now" "LGritWheels$Quarry;" : Cond) ∈ wsX5_advise := by decide +kernel
theorem wc_X5_advise_f2_X2 : ∀ w ∈ u_ws RX2 TX2 5, w ∈ wsX5_advise := by decide +kernel
theorem wd_X5_advise_f2_3 : (.fieldLink RX5 69 "GritWheels$Quarry" "crew" "LGritWheels$Crew;" : Cond) ∈ wsX5_advise := by decide +kernel
theorem wd_X5_advise_f2_4 : (.classLink RX5 37 gE2 : Cond) ∈ wsX5_advise := by decide +kernel
theorem wd_X5_advise_f2_5 : (.initialized gE2 : Cond) ∈ wsX5_advise := by decide +kernel
set_option maxHeartbeats 4000000 in
set_option maxRecDepth 100000 in
theorem met_X5_advise_f2 (l : Launch) (hfl : l.stackTraces = false) (D : va_G) (cI cZ cL : ClassId) (gx : Nat) (qu : Nat) (qt : Nat) (rf : Nat) (qf : Nat) (bd : Nat) (cr : Nat) (wh : Nat) (cr0 : Nat) (cr1 : Nat) (cr2 : Nat) (cr3 : Nat) (co : Int32) (nq : Nat) (day : Nat) (k : Nat) (y : Int32) (hnq : nq ≤ 6) (hk : k < nq) (hy : ¬ ((1 : Int32) ≤ y ∧ y ≤ 20)) : vx_Met l yX5_advise wsX5_advise ({ frames := 6, cells := 1, slots := 6, locals := 137 }) (gPx [.ref gx, .int (nI k), .int y] D [(gx, .inr (5, [.ref qu, .ref qt, .ref rf, .int co])), (qu, .inr (2, [.ref qf, .ref bd, .ref cr, .ref wh, .int (nI day)])), (cr, .inr (1, [.ref cr0, .ref cr1, .ref cr2, .ref cr3, .int (nI nq)]))] (gT cI cZ cL)) (va_Qi (fun (_ : Int32) (_ : Unit) => False) (fun _ _ => True) gN) (vx_X (fun _ : Unit => True) (fun E _ _ => E = gE2) gN) 1 6 gN := by
  refine vx_ofW (cc := cX5_advise) (maxL := 7) (ret := (some .int)) (by decide +kernel) rfl ?_
  intro p e s m args below meth c s₁ B hml hte hv
  obtain ⟨rfl, hP, hK, hU, hN, hSt, hBd⟩ := hv
  have hx := B.exec
  have hb := B.bytes
  have hr := B.returns
  have hts := atoms_spec (ws := wsX5_advise) B.pre
  have hown : s.vm.findClass RX5 = some m.cls := findClass_of_methodNamed B.named
  have hlocks := B.notSynchronized
  have hS : va_S gN s.heap s.heap [] := va_S.rf
  have hP : va_P D vwCl [(gx, .inr (5, [.ref qu, .ref qt, .ref rf, .int co])), (qu, .inr (2, [.ref qf, .ref bd, .ref cr, .ref wh, .int (nI day)])), (cr, .inr (1, [.ref cr0, .ref cr1, .ref cr2, .ref cr3, .int (nI nq)]))] s.heap := hP
  have hl := lv_entry ([.ref gx, .int (nI k), .int y]) (n := 7) (Nat.le_of_ble_eq_true rfl)
  rw [lg_entry_eq]
  generalize (lg_sl ([.ref gx, .int (nI k), .int y]) ++ List.replicate (7 - (lg_sl ([.ref gx, .int (nI k), .int y])).length) Slot.unset).toArray = ls at hl ⊢
  have hl : lv_has ls 7 [(0, .ref gx), (1, .int (nI k)), (2, .int y)] := hl
  refine lv_aload_n hx hb dX5_advise_0 rfl (lv_at hl 0 rfl) ?_
  refine va_get (D := D) (ci := 5) (v := .ref qu) (C := RX5) (T := TX5) (N := 4) hx hb hts wc_X5_advise_f2_X5 hown hK hP 0 rfl rfl 0 (by decide) (hts _ wd_X5_advise_f2_1) (fun _ h9 => h9) rfl dX5_advise_1 ?_
  refine va_get (D := D) (ci := 2) (v := .ref cr) (C := RX2) (T := TX2) (N := 5) hx hb hts wc_X5_advise_f2_X2 hown hK hP 1 rfl rfl 2 (by decide) (hts _ wd_X5_advise_f2_3) (fun _ h9 => h9) rfl dX5_advise_4 ?_
  refine lv_iload_n hx hb dX5_advise_7 rfl (lv_at hl 1 rfl) ?_
  refine va_calli (va_runV (As := [.int (nI k)]) (rest := []) ⟨hx, hb, hml, hown, hts⟩ (met_X1_has l D cI cZ cL cr cr0 cr1 cr2 cr3 nq (nI k) (by first | assumption | omega)) (cwV 1 hts gX5_advise_X1_has rfl rfl rfl (by decide +kernel) ⟨Nat.le_of_ble_eq_true rfl, Nat.le_of_ble_eq_true rfl⟩) (gw_pvr hK hP (wc := [(cr, .inr (1, [.ref cr0, .ref cr1, .ref cr2, .ref cr3, .int (nI nq)]))]) [2] rfl 1 rfl rfl rfl) rfl rfl hl.1 rfl (lv_room (Nat.le_of_ble_eq_true rfl)) dX5_advise_8 ⟨Nat.zero_le _, Nat.zero_le _⟩) hS (fun _ _ z => z.elim) (fun _ z => z.elim) (fun r_2 _ t H1 locs ht hvm hw hB hz1 hk1 hS => ?_)
  have hP := gw_ro hP hk1
  generalize H1 = H at hP hS ⊢
  rcases hw with ⟨rfl, hc⟩ | ⟨rfl, hc⟩
  · skip
    refine lv_if_ne (tgt := 24) hx hb dX5_advise_11 (by decide) (fun _ => ?_) (fun c_4 => False.elim (by revert c_4; decide))
    refine lv_iload_n hx hb dX5_advise_24 rfl (lv_at hl 2 rfl) ?_
    refine lv_iconst (v := 1) hx hb dX5_advise_25 (by decide) ?_
    refine lv_bipush (v := 20) hx hb dX5_advise_26 (by decide) ?_
    refine va_calli (va_runS (As := [.int y, .int 1, .int 20]) (rest := []) ⟨hx, hb, hml, hown, hts⟩ (met_X5_isWithin l D cI cZ cL y 1 20) (va_cwS 3 hts gX5_advise_X5_isWithin rfl rfl rfl (by decide +kernel) ⟨Nat.le_of_ble_eq_true rfl, Nat.le_of_ble_eq_true rfl⟩) (gw_psr hK hP (wc := []) [] rfl) rfl rfl hl.1 rfl (lv_room (Nat.le_of_ble_eq_true rfl)) dX5_advise_28 ⟨Nat.zero_le _, Nat.zero_le _⟩) hS (fun _ _ z => z.elim) (fun _ z => z.elim) (fun r_6 _ t H1 locs ht hvm hw hB hz1 hk1 hS => ?_)
    have hP := gw_ro hP hk1
    generalize H1 = H at hP hS ⊢
    rcases hw with ⟨rfl, hc⟩ | ⟨rfl, hc⟩
    · skip
      exact absurd hc hy
    · skip
      refine lv_if_ne (tgt := 44) hx hb dX5_advise_31 (by decide) (fun c_8 => False.elim (by revert c_8; decide)) (fun _ => ?_)
      obtain ⟨sa, hsa⟩ := hSt (213, "days are not 1 to 20") (by decide +kernel)
      exact vx_throwS hx hb hfl hown (cls := gE2) (text := "days are not 1 to 20") (names := gNs) (A := gN) (by decide +kernel) (by decide +kernel) (hts _ wd_X5_advise_f2_4) (hts _ wd_X5_advise_f2_5) hsa (gw_hat (fun w h => hts w (List.mem_cons_of_mem _ (List.mem_append_right _ h))) gBad_2 hBd) gOt_2 hU hN hS (by rw [hml]; exact hl.1) dX5_advise_34 dX5_advise_37 dX5_advise_38 dX5_advise_40 dX5_advise_43 (fun x h => (hte x h).elim) (by decide) (by decide) (by decide) (by decide) hlocks (fun t hvm hz hq => ⟨(), trivial, rfl, gw_xF hS hz hq⟩) hS.2.2 (by decide) (by decide)
  · skip
    exact absurd ⟨k, hk, rfl⟩ hc
