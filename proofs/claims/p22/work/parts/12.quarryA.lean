set_option maxHeartbeats 4000000 in
set_option maxRecDepth 100000 in
theorem met_J9_floorMod_7cf53 (l : Launch) (D : va_G) (cI cZ cL : ClassId) (d : Nat) (hd : d < 2 ^ 31) : Met l yJ9_floorMod_7cf53 wsJ9_floorMod_7cf53 ({ frames := 0, cells := 0, slots := 0, locals := 0 }) (gPr [.int (nI d), .int 9] D [] (gT cI cZ cL)) (va_Qi (fun (r : Int32) (_ : Unit) => r = nI (d % 9)) (fun _ _ => True) gN) 0 0 gN := by
  refine gw_ofWF (cc := cJ9_floorMod_7cf53) (maxL := 3) (ret := (some .int)) (by decide +kernel) rfl ?_
  intro p e s m args below meth c s₁ B hml hv
  obtain ⟨rfl, hP, hK⟩ := hv
  have hx := B.exec
  have hb := B.bytes
  have hr := B.returns
  have hts := atoms_spec (ws := wsJ9_floorMod_7cf53) B.pre
  have hown : s.vm.findClass RJ9 = some m.cls := findClass_of_methodNamed B.named
  have hlocks := B.notSynchronized
  have hS : va_S gN s.heap s.heap [] := va_S.rf
  have hP : va_P D vwCl [] s.heap := hP
  have hl := lv_entry ([.int (nI d), .int 9]) (n := 3) (Nat.le_of_ble_eq_true rfl)
  rw [lg_entry_eq]
  generalize (lg_sl ([.int (nI d), .int 9]) ++ List.replicate (3 - (lg_sl ([.int (nI d), .int 9])).length) Slot.unset).toArray = ls at hl ⊢
  have hl : lv_has ls 3 [(0, .int (nI d)), (1, .int 9)] := hl
  refine lv_iload_n hx hb dJ9_floorMod_7cf53_0 rfl (lv_at hl 0 rfl) ?_
  refine lv_iload_n hx hb dJ9_floorMod_7cf53_1 rfl (lv_at hl 1 rfl) ?_
  refine lv_irem hx hb dJ9_floorMod_7cf53_2 (by decide) ?_
  refine gw_top (y := nI (d % 9)) (pk_rem hd (by decide) (by decide)) ?_
  refine lv_istore_n (lv' := [(2, .int (nI (d % 9))), (0, .int (nI d)), (1, .int 9)]) hx hb dJ9_floorMod_7cf53_3 rfl hl (by decide) rfl (fun ls hl => ?_)
  refine lv_iload_n hx hb dJ9_floorMod_7cf53_4 rfl (lv_at hl 1 rfl) ?_
  refine lv_iload_n hx hb dJ9_floorMod_7cf53_5 rfl (lv_at hl 2 rfl) ?_
  refine lv_ixor hx hb dJ9_floorMod_7cf53_6 ?_
  refine lv_if_ge (tgt := 18) hx hb dJ9_floorMod_7cf53_7 (by decide) (fun c_1 => ?_) (fun c_1 => absurd (gw_fm hd) c_1)
  refine lv_iload_n hx hb dJ9_floorMod_7cf53_18 rfl (lv_at hl 0 rfl) ?_
  exact W.iret (v := nI (d % 9)) hx hb hr (fun t ht hW => ⟨⟨_, (), rfl, rfl, trivial⟩, hS.F ht⟩) hS.2.2 dJ9_floorMod_7cf53_19

theorem wc_X2_water_X2 : ∀ w ∈ u_ws RX2 TX2 5, w ∈ wsX2_water := by decide +kernel
theorem wd_X2_water_1 : (.fieldLink RX2 9 "GritWheels$Quarry" "fall" "[I" : Cond) ∈ wsX2_water := by decide +kernel
theorem wd_X2_water_2 : (.fieldLink RX2 42 "GritWheels$Quarry" "day" "I" : Cond) ∈ wsX2_water := by decide +kernel
set_option maxHeartbeats 4000000 in
set_option maxRecDepth 100000 in
theorem met_X2_water (l : Launch) (D : va_G) (cI cZ cL : ClassId) (qu : Nat) (qf : Nat) (bd : Nat) (cr : Nat) (wh : Nat) (Q : Nat → Nat → Int32) (day : Nat) (hd : day < 2 ^ 31) : Met l yX2_water wsX2_water ({ frames := 1, cells := 0, slots := 0, locals := 22 }) (gPr [.ref qu] D [(qu, .inr (2, [.ref qf, .ref bd, .ref cr, .ref wh, .int (nI day)])), (qf, .inl (cI, 9, .inl (Q 0)))] (gT cI cZ cL)) (va_Qi (fun (r : Int32) (_ : Unit) => r = Q 0 (day % 9)) (fun _ _ => True) gN) 0 0 gN := by
  refine Met.ofW (cc := cX2_water) (maxL := 1) (ret := (some .int)) (by decide +kernel) rfl ?_
  intro p e s m args below meth c s₁ B hml hv
  obtain ⟨rfl, hP, hK⟩ := hv
  have hx := B.exec
  have hb := B.bytes
  have hr := B.returns
  have hts := atoms_spec (ws := wsX2_water) B.pre
  have hown : s.vm.findClass RX2 = some m.cls := findClass_of_methodNamed B.named
  have hlocks := B.notSynchronized
  have hS : va_S gN s.heap s.heap [] := va_S.rf
  have hP : va_P D vwCl [(qu, .inr (2, [.ref qf, .ref bd, .ref cr, .ref wh, .int (nI day)])), (qf, .inl (cI, 9, .inl (Q 0)))] s.heap := hP
  have hl := lv_entry ([.ref qu]) (n := 1) (Nat.le_of_ble_eq_true rfl)
  rw [lg_entry_eq]
  generalize (lg_sl ([.ref qu]) ++ List.replicate (1 - (lg_sl ([.ref qu])).length) Slot.unset).toArray = ls at hl ⊢
  have hl : lv_has ls 1 [(0, .ref qu)] := hl
  refine lv_aload_n hx hb dX2_water_0 rfl (lv_at hl 0 rfl) ?_
  refine va_get (D := D) (ci := 2) (v := .ref qf) (C := RX2) (T := TX2) (N := 5) hx hb hts wc_X2_water_X2 hown hK hP 0 rfl rfl 0 (by decide) (hts _ wd_X2_water_1) (fun _ h9 => h9) rfl dX2_water_1 ?_
  refine lv_aload_n hx hb dX2_water_4 rfl (lv_at hl 0 rfl) ?_
  refine va_get (D := D) (ci := 2) (v := .int (nI day)) (C := RX2) (T := TX2) (N := 5) hx hb hts wc_X2_water_X2 hown hK hP 0 rfl rfl 4 (by decide) (hts _ wd_X2_water_2) (fun _ h9 => h9) rfl dX2_water_5 ?_
  refine lv_bipush (v := 9) hx hb dX2_water_8 (by decide) ?_
  refine va_calli (va_runS (As := [.int (nI day), .int 9]) (rest := [.ref qf]) ⟨hx, hb, hml, hown, hts⟩ (met_J9_floorMod_7cf53 l D cI cZ cL day (by first | assumption | omega)) (va_cwS 2 hts gX2_water_J9_floorMod_7cf53 rfl rfl rfl (by decide +kernel) ⟨Nat.le_of_ble_eq_true rfl, Nat.le_of_ble_eq_true rfl⟩) (gw_psr hK hP (wc := []) [] rfl) rfl rfl hl.1 rfl (lv_room (Nat.le_of_ble_eq_true rfl)) dX2_water_10 ⟨Nat.zero_le _, Nat.zero_le _⟩) hS (fun _ _ z => z.elim) (fun _ z => z.elim) (fun r_2 _ t H1 locs ht hvm hw hB hz1 hk1 hS => ?_)
  have hP := gw_ro hP hk1
  generalize H1 = H at hP hS ⊢
  subst hw
  refine gw_iald hx hb hK hP 1 0 (k := day % 9) rfl rfl (Nat.mod_lt _ (by decide)) (by decide) dX2_water_13 ?_
  exact W.iret (v := Q 0 (day % 9)) hx hb hr (fun t ht hW => ⟨⟨_, (), rfl, rfl, trivial⟩, hS.F ht⟩) hS.2.2 dX2_water_14

set_option maxHeartbeats 4000000 in
set_option maxRecDepth 100000 in
theorem met_X2_millRuns (l : Launch) (D : va_G) (cI cZ cL : ClassId) (qu : Nat) (qf : Nat) (bd : Nat) (cr : Nat) (wh : Nat) (Q : Nat → Nat → Int32) (day : Nat) (hd : day < 2 ^ 31) : Met l yX2_millRuns wsX2_millRuns ({ frames := 2, cells := 0, slots := 0, locals := 42 }) (gPr [.ref qu] D [(qu, .inr (2, [.ref qf, .ref bd, .ref cr, .ref wh, .int (nI day)])), (qf, .inl (cI, 9, .inl (Q 0)))] (gT cI cZ cL)) (va_Qi (fun (r : Int32) (_ : Unit) => (r = 1 ∧ ((3 : Int32) ≤ Q 0 (day % 9))) ∨ (r = 0 ∧ ¬ ((3 : Int32) ≤ Q 0 (day % 9)))) (fun _ _ => True) gN) 0 0 gN := by
  refine Met.ofW (cc := cX2_millRuns) (maxL := 1) (ret := (some .boolean)) (by decide +kernel) rfl ?_
  intro p e s m args below meth c s₁ B hml hv
  obtain ⟨rfl, hP, hK⟩ := hv
  have hx := B.exec
  have hb := B.bytes
  have hr := B.returns
  have hts := atoms_spec (ws := wsX2_millRuns) B.pre
  have hown : s.vm.findClass RX2 = some m.cls := findClass_of_methodNamed B.named
  have hlocks := B.notSynchronized
  have hS : va_S gN s.heap s.heap [] := va_S.rf
  have hP : va_P D vwCl [(qu, .inr (2, [.ref qf, .ref bd, .ref cr, .ref wh, .int (nI day)])), (qf, .inl (cI, 9, .inl (Q 0)))] s.heap := hP
  have hl := lv_entry ([.ref qu]) (n := 1) (Nat.le_of_ble_eq_true rfl)
  rw [lg_entry_eq]
  generalize (lg_sl ([.ref qu]) ++ List.replicate (1 - (lg_sl ([.ref qu])).length) Slot.unset).toArray = ls at hl ⊢
  have hl : lv_has ls 1 [(0, .ref qu)] := hl
  refine lv_aload_n hx hb dX2_millRuns_0 rfl (lv_at hl 0 rfl) ?_
  refine va_calli (va_runV (As := []) (rest := []) ⟨hx, hb, hml, hown, hts⟩ (met_X2_water l D cI cZ cL qu qf bd cr wh Q day (by first | assumption | omega)) (cwV 0 hts gX2_millRuns_X2_water rfl rfl rfl (by decide +kernel) ⟨Nat.le_of_ble_eq_true rfl, Nat.le_of_ble_eq_true rfl⟩) (gw_pvr hK hP (wc := [(qu, .inr (2, [.ref qf, .ref bd, .ref cr, .ref wh, .int (nI day)])), (qf, .inl (cI, 9, .inl (Q 0)))]) [0, 1] rfl 2 rfl rfl rfl) rfl rfl hl.1 rfl (lv_room (Nat.le_of_ble_eq_true rfl)) dX2_millRuns_1 ⟨Nat.zero_le _, Nat.zero_le _⟩) hS (fun _ _ z => z.elim) (fun _ z => z.elim) (fun r_2 _ t H1 locs ht hvm hw hB hz1 hk1 hS => ?_)
  have hP := gw_ro hP hk1
  generalize H1 = H at hP hS ⊢
  subst hw
  refine lv_iconst (v := 3) hx hb dX2_millRuns_4 (by decide) ?_
  refine lv_icmp_lt (tgt := 12) hx hb dX2_millRuns_5 (by decide) (fun h1 => ?_) (fun h1 => ?_)
  · skip
    refine lv_iconst (v := 0) hx hb dX2_millRuns_12 (by decide) ?_
    exact W.zret (v := 0) hx hb hr rfl (fun t ht hW => ⟨⟨_, (), rfl, Or.inr ⟨rfl, (Int32.not_le.mpr h1)⟩, trivial⟩, hS.F ht⟩) hS.2.2 dX2_millRuns_13
  · skip
    refine lv_iconst (v := 1) hx hb dX2_millRuns_8 (by decide) ?_
    refine lv_goto (tgt := 13) hx hb dX2_millRuns_9 (by decide) ?_
    exact W.zret (v := 1) hx hb hr rfl (fun t ht hW => ⟨⟨_, (), rfl, Or.inl ⟨rfl, (Int32.not_lt.mp h1)⟩, trivial⟩, hS.F ht⟩) hS.2.2 dX2_millRuns_13

theorem wc_X2_sizeToday_X2 : ∀ w ∈ u_ws RX2 TX2 5, w ∈ wsX2_sizeToday := by decide +kernel
theorem wd_X2_sizeToday_1 : (.fieldLink RX2 42 "GritWheels$Quarry" "day" "I" : Cond) ∈ wsX2_sizeToday := by decide +kernel
set_option maxHeartbeats 4000000 in
set_option maxRecDepth 100000 in
theorem met_X2_sizeToday (l : Launch) (D : va_G) (cI cZ cL : ClassId) (qu : Nat) (qf : Nat) (bd : Nat) (cr : Nat) (wh : Nat) (day : Nat) (y : Int32) : Met l yX2_sizeToday wsX2_sizeToday ({ frames := 0, cells := 0, slots := 0, locals := 0 }) (gPr [.ref qu, .int y] D [(qu, .inr (2, [.ref qf, .ref bd, .ref cr, .ref wh, .int (nI day)]))] (gT cI cZ cL)) (va_Qi (fun (r : Int32) (_ : Unit) => r = gSize y day) (fun _ _ => True) gN) 0 0 gN := by
  refine Met.ofW (cc := cX2_sizeToday) (maxL := 2) (ret := (some .int)) (by decide +kernel) rfl ?_
  intro p e s m args below meth c s₁ B hml hv
  obtain ⟨rfl, hP, hK⟩ := hv
  have hx := B.exec
  have hb := B.bytes
  have hr := B.returns
  have hts := atoms_spec (ws := wsX2_sizeToday) B.pre
  have hown : s.vm.findClass RX2 = some m.cls := findClass_of_methodNamed B.named
  have hlocks := B.notSynchronized
  have hS : va_S gN s.heap s.heap [] := va_S.rf
  have hP : va_P D vwCl [(qu, .inr (2, [.ref qf, .ref bd, .ref cr, .ref wh, .int (nI day)]))] s.heap := hP
  have hl := lv_entry ([.ref qu, .int y]) (n := 2) (Nat.le_of_ble_eq_true rfl)
  rw [lg_entry_eq]
  generalize (lg_sl ([.ref qu, .int y]) ++ List.replicate (2 - (lg_sl ([.ref qu, .int y])).length) Slot.unset).toArray = ls at hl ⊢
  have hl : lv_has ls 2 [(0, .ref qu), (1, .int y)] := hl
  refine lv_iconst (v := 1) hx hb dX2_sizeToday_0 (by decide) ?_
  refine lv_iload_n hx hb dX2_sizeToday_1 rfl (lv_at hl 1 rfl) ?_
  refine lv_iconst (v := 2) hx hb dX2_sizeToday_2 (by decide) ?_
  refine lv_idiv hx hb dX2_sizeToday_3 (by decide) ?_
  refine lv_iadd hx hb dX2_sizeToday_4 ?_
  refine lv_aload_n hx hb dX2_sizeToday_5 rfl (lv_at hl 0 rfl) ?_
  refine va_get (D := D) (ci := 2) (v := .int (nI day)) (C := RX2) (T := TX2) (N := 5) hx hb hts wc_X2_sizeToday_X2 hown hK hP 0 rfl rfl 4 (by decide) (hts _ wd_X2_sizeToday_1) (fun _ h9 => h9) rfl dX2_sizeToday_6 ?_
  refine lv_iconst (v := 3) hx hb dX2_sizeToday_9 (by decide) ?_
  refine lv_irem hx hb dX2_sizeToday_10 (by decide) ?_
  refine lv_if_ne (tgt := 18) hx hb dX2_sizeToday_11 (by decide) (fun h1 => ?_) (fun h1 => ?_)
  · skip
    refine lv_iconst (v := 0) hx hb dX2_sizeToday_18 (by decide) ?_
    refine lv_iadd hx hb dX2_sizeToday_19 ?_
    exact W.iret (v := (1 + (y / 2)) + 0) hx hb hr (fun t ht hW => ⟨⟨_, (), rfl, (by simp [gSize, h1]), trivial⟩, hS.F ht⟩) hS.2.2 dX2_sizeToday_20
  · skip
    refine lv_iconst (v := 1) hx hb dX2_sizeToday_14 (by decide) ?_
    refine lv_goto (tgt := 19) hx hb dX2_sizeToday_15 (by decide) ?_
    refine lv_iadd hx hb dX2_sizeToday_19 ?_
    exact W.iret (v := (1 + (y / 2)) + 1) hx hb hr (fun t ht hW => ⟨⟨_, (), rfl, (by simp [gSize, h1]), trivial⟩, hS.F ht⟩) hS.2.2 dX2_sizeToday_20
