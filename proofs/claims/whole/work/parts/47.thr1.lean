theorem wd_X5_setFall_f1_0 : (.classLink RX5 30 gE1 : Cond) ∈ wsX5_setFall := by decide +kernel
theorem wd_X5_setFall_f1_1 : (.initialized gE1 : Cond) ∈ wsX5_setFall := by decide +kernel
set_option maxHeartbeats 4000000 in
set_option maxRecDepth 100000 in
theorem met_X5_setFall_f1 (l : Launch) (hfl : l.stackTraces = false) (D : va_G) (cI cZ cL : ClassId) (gx : Nat) (qu : Nat) (qt : Nat) (rf : Nat) (co : Int32) (x : Int32) (y : Int32) (hx1 : ¬ ((0 : Int32) ≤ x ∧ x ≤ 8)) : vx_Met l yX5_setFall wsX5_setFall ({ frames := 6, cells := 1, slots := 6, locals := 90 }) (gPx [.ref gx, .int x, .int y] D [(gx, .inr (5, [.ref qu, .ref qt, .ref rf, .int co]))] (gT cI cZ cL)) (va_Qi (fun (_ : Int32) (_ : Unit) => False) (fun _ _ => True) gN) (vx_X (fun _ : Unit => True) (fun E _ _ => E = gE1) gN) 1 6 gN := by
  refine vx_ofW (cc := cX5_setFall) (maxL := 4) (ret := (some .int)) (by decide +kernel) rfl ?_
  intro p e s m args below meth c s₁ B hml hte hv
  obtain ⟨rfl, hP, hK, hU, hN, hSt, hBd⟩ := hv
  have hx := B.exec
  have hb := B.bytes
  have hr := B.returns
  have hts := atoms_spec (ws := wsX5_setFall) B.pre
  have hown : s.vm.findClass RX5 = some m.cls := findClass_of_methodNamed B.named
  have hlocks := B.notSynchronized
  have hS : va_S gN s.heap s.heap [] := va_S.rf
  have hP : va_P D vwCl [(gx, .inr (5, [.ref qu, .ref qt, .ref rf, .int co]))] s.heap := hP
  have hl := lv_entry ([.ref gx, .int x, .int y]) (n := 4) (Nat.le_of_ble_eq_true rfl)
  rw [lg_entry_eq]
  generalize (lg_sl ([.ref gx, .int x, .int y]) ++ List.replicate (4 - (lg_sl ([.ref gx, .int x, .int y])).length) Slot.unset).toArray = ls at hl ⊢
  have hl : lv_has ls 4 [(0, .ref gx), (1, .int x), (2, .int y)] := hl
  refine lv_iload_n hx hb dX5_setFall_0 rfl (lv_at hl 1 rfl) ?_
  refine lv_iconst (v := 0) hx hb dX5_setFall_1 (by decide) ?_
  refine lv_bipush (v := 8) hx hb dX5_setFall_2 (by decide) ?_
  refine va_calli (va_runS (As := [.int x, .int 0, .int 8]) (rest := []) ⟨hx, hb, hml, hown, hts⟩ (met_X5_isWithin l D cI cZ cL x 0 8) (va_cwS 3 hts gX5_setFall_X5_isWithin rfl rfl rfl (by decide +kernel) ⟨Nat.le_of_ble_eq_true rfl, Nat.le_of_ble_eq_true rfl⟩) (gw_psr hK hP (wc := []) [] rfl) rfl rfl hl.1 rfl (lv_room (Nat.le_of_ble_eq_true rfl)) dX5_setFall_4 ⟨Nat.zero_le _, Nat.zero_le _⟩) hS (fun _ _ z => z.elim) (fun _ z => z.elim) (fun r_2 _ t H1 locs ht hvm hw hB hz1 hk1 hS => ?_)
  have hP := gw_ro hP hk1
  generalize H1 = H at hP hS ⊢
  rcases hw with ⟨rfl, hc⟩ | ⟨rfl, hc⟩
  · skip
    exact absurd hc hx1
  · skip
    refine lv_if_ne (tgt := 20) hx hb dX5_setFall_7 (by decide) (fun c_4 => False.elim (by revert c_4; decide)) (fun _ => ?_)
    obtain ⟨sa, hsa⟩ := hSt (32, "the day is not 0 to 8") (by decide +kernel)
    exact vx_throwS hx hb hfl hown (cls := gE1) (text := "the day is not 0 to 8") (names := gNs) (A := gN) (by decide +kernel) (by decide +kernel) (hts _ wd_X5_setFall_f1_0) (hts _ wd_X5_setFall_f1_1) hsa (gw_hat (fun w h => hts w (List.mem_cons_of_mem _ (List.mem_append_left _ (List.mem_append_right _ h)))) gBad_1 hBd) gOt_1 hU hN hS (by rw [hml]; exact hl.1) dX5_setFall_10 dX5_setFall_13 dX5_setFall_14 dX5_setFall_16 dX5_setFall_19 (fun x h => (hte x h).elim) (by decide) (by decide) (by decide) (by decide) hlocks (fun t hvm hz hq => ⟨(), trivial, rfl, gw_xF hS hz hq⟩) hS.2.2 (by decide) (by decide)

theorem wd_X5_setFall_f2_0 : (.classLink RX5 37 gE2 : Cond) ∈ wsX5_setFall := by decide +kernel
theorem wd_X5_setFall_f2_1 : (.initialized gE2 : Cond) ∈ wsX5_setFall := by decide +kernel
set_option maxHeartbeats 4000000 in
set_option maxRecDepth 100000 in
theorem met_X5_setFall_f2 (l : Launch) (hfl : l.stackTraces = false) (D : va_G) (cI cZ cL : ClassId) (gx : Nat) (qu : Nat) (qt : Nat) (rf : Nat) (co : Int32) (d : Nat) (y : Int32) (hd9 : d < 9) (hy : ¬ ((0 : Int32) ≤ y ∧ y ≤ 9)) : vx_Met l yX5_setFall wsX5_setFall ({ frames := 6, cells := 1, slots := 6, locals := 90 }) (gPx [.ref gx, .int (nI d), .int y] D [(gx, .inr (5, [.ref qu, .ref qt, .ref rf, .int co]))] (gT cI cZ cL)) (va_Qi (fun (_ : Int32) (_ : Unit) => False) (fun _ _ => True) gN) (vx_X (fun _ : Unit => True) (fun E _ _ => E = gE2) gN) 1 6 gN := by
  refine vx_ofW (cc := cX5_setFall) (maxL := 4) (ret := (some .int)) (by decide +kernel) rfl ?_
  intro p e s m args below meth c s₁ B hml hte hv
  obtain ⟨rfl, hP, hK, hU, hN, hSt, hBd⟩ := hv
  have hx := B.exec
  have hb := B.bytes
  have hr := B.returns
  have hts := atoms_spec (ws := wsX5_setFall) B.pre
  have hown : s.vm.findClass RX5 = some m.cls := findClass_of_methodNamed B.named
  have hlocks := B.notSynchronized
  have hS : va_S gN s.heap s.heap [] := va_S.rf
  have hP : va_P D vwCl [(gx, .inr (5, [.ref qu, .ref qt, .ref rf, .int co]))] s.heap := hP
  have hl := lv_entry ([.ref gx, .int (nI d), .int y]) (n := 4) (Nat.le_of_ble_eq_true rfl)
  rw [lg_entry_eq]
  generalize (lg_sl ([.ref gx, .int (nI d), .int y]) ++ List.replicate (4 - (lg_sl ([.ref gx, .int (nI d), .int y])).length) Slot.unset).toArray = ls at hl ⊢
  have hl : lv_has ls 4 [(0, .ref gx), (1, .int (nI d)), (2, .int y)] := hl
  refine lv_iload_n hx hb dX5_setFall_0 rfl (lv_at hl 1 rfl) ?_
  refine lv_iconst (v := 0) hx hb dX5_setFall_1 (by decide) ?_
  refine lv_bipush (v := 8) hx hb dX5_setFall_2 (by decide) ?_
  refine va_calli (va_runS (As := [.int (nI d), .int 0, .int 8]) (rest := []) ⟨hx, hb, hml, hown, hts⟩ (met_X5_isWithin l D cI cZ cL (nI d) 0 8) (va_cwS 3 hts gX5_setFall_X5_isWithin rfl rfl rfl (by decide +kernel) ⟨Nat.le_of_ble_eq_true rfl, Nat.le_of_ble_eq_true rfl⟩) (gw_psr hK hP (wc := []) [] rfl) rfl rfl hl.1 rfl (lv_room (Nat.le_of_ble_eq_true rfl)) dX5_setFall_4 ⟨Nat.zero_le _, Nat.zero_le _⟩) hS (fun _ _ z => z.elim) (fun _ z => z.elim) (fun r_2 _ t H1 locs ht hvm hw hB hz1 hk1 hS => ?_)
  have hP := gw_ro hP hk1
  generalize H1 = H at hP hS ⊢
  rcases hw with ⟨rfl, hc⟩ | ⟨rfl, hc⟩
  · skip
    refine lv_if_ne (tgt := 20) hx hb dX5_setFall_7 (by decide) (fun _ => ?_) (fun c_4 => False.elim (by revert c_4; decide))
    refine lv_iload_n hx hb dX5_setFall_20 rfl (lv_at hl 2 rfl) ?_
    refine lv_iconst (v := 0) hx hb dX5_setFall_21 (by decide) ?_
    refine lv_bipush (v := 9) hx hb dX5_setFall_22 (by decide) ?_
    refine va_calli (va_runS (As := [.int y, .int 0, .int 9]) (rest := []) ⟨hx, hb, hml, hown, hts⟩ (met_X5_isWithin l D cI cZ cL y 0 9) (va_cwS 3 hts gX5_setFall_X5_isWithin rfl rfl rfl (by decide +kernel) ⟨Nat.le_of_ble_eq_true rfl, Nat.le_of_ble_eq_true rfl⟩) (gw_psr hK hP (wc := []) [] rfl) rfl rfl hl.1 rfl (lv_room (Nat.le_of_ble_eq_true rfl)) dX5_setFall_24 ⟨Nat.zero_le _, Nat.zero_le _⟩) hS (fun _ _ z => z.elim) (fun _ z => z.elim) (fun r_6 _ t H1 locs ht hvm hw hB hz1 hk1 hS => ?_)
    have hP := gw_ro hP hk1
    generalize H1 = H at hP hS ⊢
    rcases hw with ⟨rfl, hc⟩ | ⟨rfl, hc⟩
    · skip
      exact absurd hc hy
    · skip
      refine lv_if_ne (tgt := 40) hx hb dX5_setFall_27 (by decide) (fun c_8 => False.elim (by revert c_8; decide)) (fun _ => ?_)
      obtain ⟨sa, hsa⟩ := hSt (39, "the water is not 0 to 9") (by decide +kernel)
      exact vx_throwS hx hb hfl hown (cls := gE2) (text := "the water is not 0 to 9") (names := gNs) (A := gN) (by decide +kernel) (by decide +kernel) (hts _ wd_X5_setFall_f2_0) (hts _ wd_X5_setFall_f2_1) hsa (gw_hat (fun w h => hts w (List.mem_cons_of_mem _ (List.mem_append_right _ h))) gBad_2 hBd) gOt_2 hU hN hS (by rw [hml]; exact hl.1) dX5_setFall_30 dX5_setFall_33 dX5_setFall_34 dX5_setFall_36 dX5_setFall_39 (fun x h => (hte x h).elim) (by decide) (by decide) (by decide) (by decide) hlocks (fun t hvm hz hq => ⟨(), trivial, rfl, gw_xF hS hz hq⟩) hS.2.2 (by decide) (by decide)
  · skip
    exact absurd (gw_in (n := 8) (by omega) (by decide)) hc
