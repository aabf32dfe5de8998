theorem wd_L_setFall_f1_0 : (.classLink RL 13 gE1 : Cond) ∈ wsL_setFall := by decide +kernel
set_option maxHeartbeats 4000000 in
set_option maxRecDepth 100000 in
theorem met_L_setFall_f1 (l : Launch) (hfl : l.stackTraces = false) (D : va_G) (cI cZ cL : ClassId) (gx : Nat) (qu : Nat) (qt : Nat) (rf : Nat) (co : Int32) (x : Int32) (y : Int32) (ou : Nat) (hx1 : ¬ ((0 : Int32) ≤ x ∧ x ≤ 8)) : Met l yL_setFall wsL_setFall ({ frames := 7, cells := 1, slots := 6, locals := 113 }) (gPy [.ref gx, .int x, .int y, .ref ou] D [(gx, .inr (5, [.ref qu, .ref qt, .ref rf, .int co]))] (gT cI cZ cL)) (va_Qi (fun (zr : Int32) (_ : Unit) => zr = 1) (fun _ _ => True) gN) 1 6 gN := by
  refine gw_ofH (hh := [(0, 10, 13, 13), (0, 10, 17, 15)]) (cc := cL_setFall) (maxL := 5) (ret := (some .int)) (by decide +kernel) rfl ?_
  intro p e s m args below meth c s₁ B hml hte hv
  obtain ⟨rfl, hP, hK, hX, hC⟩ := hv
  have hx := B.exec
  have hb := B.bytes
  have hr := B.returns
  have hts := atoms_spec (ws := wsL_setFall) B.pre
  have hown : s.vm.findClass RL = some m.cls := findClass_of_methodNamed B.named
  have hlocks := B.notSynchronized
  have hS : va_S gN s.heap s.heap [] := va_S.rf
  have hP : va_P D vwCl [(gx, .inr (5, [.ref qu, .ref qt, .ref rf, .int co]))] s.heap := hP
  have hl := lv_entry ([.ref gx, .int x, .int y, .ref ou]) (n := 5) (Nat.le_of_ble_eq_true rfl)
  rw [lg_entry_eq]
  generalize (lg_sl ([.ref gx, .int x, .int y, .ref ou]) ++ List.replicate (5 - (lg_sl ([.ref gx, .int x, .int y, .ref ou])).length) Slot.unset).toArray = ls at hl ⊢
  have hl : lv_has ls 5 [(0, .ref gx), (1, .int x), (2, .int y), (3, .ref ou)] := hl
  refine lv_aload_n hx hb dL_setFall_0 rfl (lv_at hl 3 rfl) ?_
  refine lv_iconst (v := 0) hx hb dL_setFall_1 (by decide) ?_
  refine lv_aload_n hx hb dL_setFall_2 rfl (lv_at hl 0 rfl) ?_
  refine lv_iload_n hx hb dL_setFall_3 rfl (lv_at hl 1 rfl) ?_
  refine lv_iload_n hx hb dL_setFall_4 rfl (lv_at hl 2 rfl) ?_
  refine vx_calli (vx_runV (As := [.int x, .int y]) (rest := [.int 0, .ref ou]) ⟨hx, hb, hml, hown, hts⟩ (met_X5_setFall_f1 l hfl D cI cZ cL gx qu qt rf co x y (by first | assumption | omega)) (cwV 2 hts gL_setFall_X5_setFall rfl rfl rfl (by decide +kernel) ⟨Nat.le_of_ble_eq_true rfl, Nat.le_of_ble_eq_true rfl⟩) (gw_pvx hK hP hX (wc := [(gx, .inr (5, [.ref qu, .ref qt, .ref rf, .int co]))]) [0] rfl 5 rfl rfl rfl) rfl rfl hl.1 rfl (lv_room (Nat.le_of_ble_eq_true rfl)) dL_setFall_5 ⟨Nat.le_of_ble_eq_true rfl, Nat.le_of_ble_eq_true rfl⟩) hS (fun _ _ z => z.elim) (fun _ z => z.elim) (fun _ _ z => z.elim) (fun E ce q9 u t H1 locs1 ht hvm hpx hBX hz hk hS hce hcv hcl => ?_) (fun r u t H1 locs1 ht hvm hpost hB hz hk hS => hpost.elim)
  subst hBX
  refine vx_catch (name := gE1) hown [] ⟨0, 10, 13, 13⟩ [⟨0, 10, 17, 15⟩] (by rw [hte]; rfl) (fun z hz => absurd hz List.not_mem_nil) (by decide) (by decide) (hts _ wd_L_setFall_f1_0) (va_Nw.use rfl (hC.1 gE1 (by simp))) hce hcv hcl ?_
  refine W.eq (g2 := F0 m 13 ls [.ref q9]) rfl ?_
  refine lv_astore (lv' := [(4, .ref q9), (0, .ref gx), (1, .int x), (2, .int y), (3, .ref ou)]) hx hb dL_setFall_13 hl (by decide) rfl (fun ls hl => ?_)
  refine lv_iconst (v := 1) hx hb dL_setFall_15 (by decide) ?_
  exact W.iret (v := 1) hx hb hr (fun t ht hW => ⟨⟨_, (), rfl, rfl, trivial⟩, hS.F ht⟩) hS.2.2 dL_setFall_16

theorem wd_L_setFall_f2_0 : (.classLink RL 13 gE1 : Cond) ∈ wsL_setFall := by decide +kernel
theorem wd_L_setFall_f2_1 : (.classLink RL 15 gE2 : Cond) ∈ wsL_setFall := by decide +kernel
set_option maxHeartbeats 4000000 in
set_option maxRecDepth 100000 in
theorem met_L_setFall_f2 (l : Launch) (hfl : l.stackTraces = false) (D : va_G) (cI cZ cL : ClassId) (gx : Nat) (qu : Nat) (qt : Nat) (rf : Nat) (co : Int32) (d : Nat) (y : Int32) (ou : Nat) (hd9 : d < 9) (hy : ¬ ((0 : Int32) ≤ y ∧ y ≤ 9)) : Met l yL_setFall wsL_setFall ({ frames := 7, cells := 1, slots := 6, locals := 113 }) (gPy [.ref gx, .int (nI d), .int y, .ref ou] D [(gx, .inr (5, [.ref qu, .ref qt, .ref rf, .int co]))] (gT cI cZ cL)) (va_Qi (fun (zr : Int32) (_ : Unit) => zr = 2) (fun _ _ => True) gN) 1 6 gN := by
  refine gw_ofH (hh := [(0, 10, 13, 13), (0, 10, 17, 15)]) (cc := cL_setFall) (maxL := 5) (ret := (some .int)) (by decide +kernel) rfl ?_
  intro p e s m args below meth c s₁ B hml hte hv
  obtain ⟨rfl, hP, hK, hX, hC⟩ := hv
  have hx := B.exec
  have hb := B.bytes
  have hr := B.returns
  have hts := atoms_spec (ws := wsL_setFall) B.pre
  have hown : s.vm.findClass RL = some m.cls := findClass_of_methodNamed B.named
  have hlocks := B.notSynchronized
  have hS : va_S gN s.heap s.heap [] := va_S.rf
  have hP : va_P D vwCl [(gx, .inr (5, [.ref qu, .ref qt, .ref rf, .int co]))] s.heap := hP
  have hl := lv_entry ([.ref gx, .int (nI d), .int y, .ref ou]) (n := 5) (Nat.le_of_ble_eq_true rfl)
  rw [lg_entry_eq]
  generalize (lg_sl ([.ref gx, .int (nI d), .int y, .ref ou]) ++ List.replicate (5 - (lg_sl ([.ref gx, .int (nI d), .int y, .ref ou])).length) Slot.unset).toArray = ls at hl ⊢
  have hl : lv_has ls 5 [(0, .ref gx), (1, .int (nI d)), (2, .int y), (3, .ref ou)] := hl
  refine lv_aload_n hx hb dL_setFall_0 rfl (lv_at hl 3 rfl) ?_
  refine lv_iconst (v := 0) hx hb dL_setFall_1 (by decide) ?_
  refine lv_aload_n hx hb dL_setFall_2 rfl (lv_at hl 0 rfl) ?_
  refine lv_iload_n hx hb dL_setFall_3 rfl (lv_at hl 1 rfl) ?_
  refine lv_iload_n hx hb dL_setFall_4 rfl (lv_at hl 2 rfl) ?_
  refine vx_calli (vx_runV (As := [.int (nI d), .int y]) (rest := [.int 0, .ref ou]) ⟨hx, hb, hml, hown, hts⟩ (met_X5_setFall_f2 l hfl D cI cZ cL gx qu qt rf co d y (by first | assumption | omega) (by first | assumption | omega)) (cwV 2 hts gL_setFall_X5_setFall rfl rfl rfl (by decide +kernel) ⟨Nat.le_of_ble_eq_true rfl, Nat.le_of_ble_eq_true rfl⟩) (gw_pvx hK hP hX (wc := [(gx, .inr (5, [.ref qu, .ref qt, .ref rf, .int co]))]) [0] rfl 5 rfl rfl rfl) rfl rfl hl.1 rfl (lv_room (Nat.le_of_ble_eq_true rfl)) dL_setFall_5 ⟨Nat.le_of_ble_eq_true rfl, Nat.le_of_ble_eq_true rfl⟩) hS (fun _ _ z => z.elim) (fun _ z => z.elim) (fun _ _ z => z.elim) (fun E ce q9 u t H1 locs1 ht hvm hpx hBX hz hk hS hce hcv hcl => ?_) (fun r u t H1 locs1 ht hvm hpost hB hz hk hS => hpost.elim)
  subst hBX
  refine vx_catch (name := gE2) hown [⟨0, 10, 13, 13⟩] ⟨0, 10, 17, 15⟩ [] (by rw [hte]; rfl) (fun z hz => by cases List.mem_singleton.mp hz; exact Or.inr ⟨by decide, gE1, (hts _ wd_L_setFall_f2_0), hC.2.1⟩) (by decide) (by decide) (hts _ wd_L_setFall_f2_1) (va_Nw.use rfl (hC.1 gE2 (by simp))) hce hcv hcl ?_
  refine W.eq (g2 := F0 m 17 ls [.ref q9]) rfl ?_
  refine lv_astore (lv' := [(4, .ref q9), (0, .ref gx), (1, .int (nI d)), (2, .int y), (3, .ref ou)]) hx hb dL_setFall_17 hl (by decide) rfl (fun ls hl => ?_)
  refine lv_iconst (v := 2) hx hb dL_setFall_19 (by decide) ?_
  exact W.iret (v := 2) hx hb hr (fun t ht hW => ⟨⟨_, (), rfl, rfl, trivial⟩, hS.F ht⟩) hS.2.2 dL_setFall_20

theorem wd_L_open_f1_0 : (.classLink RL 15 gE2 : Cond) ∈ wsL_open := by decide +kernel
set_option maxHeartbeats 4000000 in
set_option maxRecDepth 100000 in
theorem met_L_open_f1 (l : Launch) (hfl : l.stackTraces = false) (D : va_G) (cI cZ cL : ClassId) (gx : Nat) (qu : Nat) (qt : Nat) (rf : Nat) (co : Int32) (y1 : Int32) (y2 : Int32) (y3 : Int32) (ou : Nat) (hy : ¬ ((1 ≤ y1 ∧ y1 ≤ 9) ∧ (0 ≤ y2 ∧ y2 ≤ 9) ∧ (0 ≤ y3 ∧ y3 ≤ 200))) : Met l yL_open wsL_open ({ frames := 7, cells := 1, slots := 6, locals := 113 }) (gPy [.ref gx, .int y1, .int y2, .int y3, .ref ou] D [(gx, .inr (5, [.ref qu, .ref qt, .ref rf, .int co]))] (gT cI cZ cL)) (va_Qi (fun (zr : Int32) (_ : Unit) => zr = 1) (fun _ _ => True) gN) 1 6 gN := by
  refine gw_ofH (hh := [(0, 12, 15, 15), (0, 12, 19, 21)]) (cc := cL_open) (maxL := 6) (ret := (some .int)) (by decide +kernel) rfl ?_
  intro p e s m args below meth c s₁ B hml hte hv
  obtain ⟨rfl, hP, hK, hX, hC⟩ := hv
  have hx := B.exec
  have hb := B.bytes
  have hr := B.returns
  have hts := atoms_spec (ws := wsL_open) B.pre
  have hown : s.vm.findClass RL = some m.cls := findClass_of_methodNamed B.named
  have hlocks := B.notSynchronized
  have hS : va_S gN s.heap s.heap [] := va_S.rf
  have hP : va_P D vwCl [(gx, .inr (5, [.ref qu, .ref qt, .ref rf, .int co]))] s.heap := hP
  have hl := lv_entry ([.ref gx, .int y1, .int y2, .int y3, .ref ou]) (n := 6) (Nat.le_of_ble_eq_true rfl)
  rw [lg_entry_eq]
  generalize (lg_sl ([.ref gx, .int y1, .int y2, .int y3, .ref ou]) ++ List.replicate (6 - (lg_sl ([.ref gx, .int y1, .int y2, .int y3, .ref ou])).length) Slot.unset).toArray = ls at hl ⊢
  have hl : lv_has ls 6 [(0, .ref gx), (1, .int y1), (2, .int y2), (3, .int y3), (4, .ref ou)] := hl
  refine lv_aload hx hb dL_open_0 (lv_at hl 4 rfl) ?_
  refine lv_iconst (v := 0) hx hb dL_open_2 (by decide) ?_
  refine lv_aload_n hx hb dL_open_3 rfl (lv_at hl 0 rfl) ?_
  refine lv_iload_n hx hb dL_open_4 rfl (lv_at hl 1 rfl) ?_
  refine lv_iload_n hx hb dL_open_5 rfl (lv_at hl 2 rfl) ?_
  refine lv_iload_n hx hb dL_open_6 rfl (lv_at hl 3 rfl) ?_
  refine vx_calli (vx_runV (As := [.int y1, .int y2, .int y3]) (rest := [.int 0, .ref ou]) ⟨hx, hb, hml, hown, hts⟩ (met_X5_open_f1 l hfl D cI cZ cL gx qu qt rf co y1 y2 y3 (by first | assumption | omega)) (cwV 3 hts gL_open_X5_open rfl rfl rfl (by decide +kernel) ⟨Nat.le_of_ble_eq_true rfl, Nat.le_of_ble_eq_true rfl⟩) (gw_pvx hK hP hX (wc := [(gx, .inr (5, [.ref qu, .ref qt, .ref rf, .int co]))]) [0] rfl 5 rfl rfl rfl) rfl rfl hl.1 rfl (lv_room (Nat.le_of_ble_eq_true rfl)) dL_open_7 ⟨Nat.le_of_ble_eq_true rfl, Nat.le_of_ble_eq_true rfl⟩) hS (fun _ _ z => z.elim) (fun _ z => z.elim) (fun _ _ z => z.elim) (fun E ce q9 u t H1 locs1 ht hvm hpx hBX hz hk hS hce hcv hcl => ?_) (fun r u t H1 locs1 ht hvm hpost hB hz hk hS => hpost.elim)
  subst hBX
  refine vx_catch (name := gE2) hown [] ⟨0, 12, 15, 15⟩ [⟨0, 12, 19, 21⟩] (by rw [hte]; rfl) (fun z hz => absurd hz List.not_mem_nil) (by decide) (by decide) (hts _ wd_L_open_f1_0) (va_Nw.use rfl (hC.1 gE2 (by simp))) hce hcv hcl ?_
  refine W.eq (g2 := F0 m 15 ls [.ref q9]) rfl ?_
  refine lv_astore (lv' := [(5, .ref q9), (0, .ref gx), (1, .int y1), (2, .int y2), (3, .int y3), (4, .ref ou)]) hx hb dL_open_15 hl (by decide) rfl (fun ls hl => ?_)
  refine lv_iconst (v := 1) hx hb dL_open_17 (by decide) ?_
  exact W.iret (v := 1) hx hb hr (fun t ht hW => ⟨⟨_, (), rfl, rfl, trivial⟩, hS.F ht⟩) hS.2.2 dL_open_18

theorem wd_L_open_f2_0 : (.classLink RL 15 gE2 : Cond) ∈ wsL_open := by decide +kernel
theorem wd_L_open_f2_1 : (.classLink RL 21 gE3 : Cond) ∈ wsL_open := by decide +kernel
set_option maxHeartbeats 4000000 in
set_option maxRecDepth 100000 in
theorem met_L_open_f2 (l : Launch) (hfl : l.stackTraces = false) (D : va_G) (cI cZ cL : ClassId) (gx : Nat) (qu : Nat) (qt : Nat) (rf : Nat) (qf : Nat) (bd : Nat) (cr : Nat) (wh : Nat) (bd0 : Nat) (bd1 : Nat) (bd2 : Nat) (bd3 : Nat) (co : Int32) (nb : Nat) (day : Nat) (y1 : Int32) (y2 : Int32) (y3 : Int32) (ou : Nat) (hy1 : 1 ≤ y1 ∧ y1 ≤ 9) (hy2 : 0 ≤ y2 ∧ y2 ≤ 9) (hy3 : 0 ≤ y3 ∧ y3 ≤ 200) (hnb : nb = 5) : Met l yL_open wsL_open ({ frames := 7, cells := 1, slots := 6, locals := 113 }) (gPy [.ref gx, .int y1, .int y2, .int y3, .ref ou] D [(gx, .inr (5, [.ref qu, .ref qt, .ref rf, .int co])), (qu, .inr (2, [.ref qf, .ref bd, .ref cr, .ref wh, .int (nI day)])), (bd, .inr (0, [.ref bd0, .ref bd1, .ref bd2, .ref bd3, .int (nI nb)]))] (gT cI cZ cL)) (va_Qi (fun (zr : Int32) (_ : Unit) => zr = 2) (fun _ _ => True) gN) 1 6 gN := by
  refine gw_ofH (hh := [(0, 12, 15, 15), (0, 12, 19, 21)]) (cc := cL_open) (maxL := 6) (ret := (some .int)) (by decide +kernel) rfl ?_
  intro p e s m args below meth c s₁ B hml hte hv
  obtain ⟨rfl, hP, hK, hX, hC⟩ := hv
  have hx := B.exec
  have hb := B.bytes
  have hr := B.returns
  have hts := atoms_spec (ws := wsL_open) B.pre
  have hown : s.vm.findClass RL = some m.cls := findClass_of_methodNamed B.named
  have hlocks := B.notSynchronized
  have hS : va_S gN s.heap s.heap [] := va_S.rf
  have hP : va_P D vwCl [(gx, .inr (5, [.ref qu, .ref qt, .ref rf, .int co])), (qu, .inr (2, [.ref qf, .ref bd, .ref cr, .ref wh, .int (nI day)])), (bd, .inr (0, [.ref bd0, .ref bd1, .ref bd2, .ref bd3, .int (nI nb)]))] s.heap := hP
  have hl := lv_entry ([.ref gx, .int y1, .int y2, .int y3, .ref ou]) (n := 6) (Nat.le_of_ble_eq_true rfl)
  rw [lg_entry_eq]
  generalize (lg_sl ([.ref gx, .int y1, .int y2, .int y3, .ref ou]) ++ List.replicate (6 - (lg_sl ([.ref gx, .int y1, .int y2, .int y3, .ref ou])).length) Slot.unset).toArray = ls at hl ⊢
  have hl : lv_has ls 6 [(0, .ref gx), (1, .int y1), (2, .int y2), (3, .int y3), (4, .ref ou)] := hl
  refine lv_aload hx hb dL_open_0 (lv_at hl 4 rfl) ?_
  refine lv_iconst (v := 0) hx hb dL_open_2 (by decide) ?_
  refine lv_aload_n hx hb dL_open_3 rfl (lv_at hl 0 rfl) ?_
  refine lv_iload_n hx hb dL_open_4 rfl (lv_at hl 1 rfl) ?_
  refine lv_iload_n hx hb dL_open_5 rfl (lv_at hl 2 rfl) ?_
  refine lv_iload_n hx hb dL_open_6 rfl (lv_at hl 3 rfl) ?_
  refine vx_calli (vx_runV (As := [.int y1, .int y2, .int y3]) (rest := [.int 0, .ref ou]) ⟨hx, hb, hml, hown, hts⟩ (met_X5_open_f2 l hfl D cI cZ cL gx qu qt rf qf bd cr wh bd0 bd1 bd2 bd3 co nb day y1 y2 y3 (by first | assumption | omega) (by first | assumption | omega) (by first | assumption | omega) (by first | assumption | omega)) (cwV 3 hts gL_open_X5_open rfl rfl rfl (by decide +kernel) ⟨Nat.le_of_ble_eq_true rfl, Nat.le_of_ble_eq_true rfl⟩) (gw_pvx hK hP hX (wc := [(gx, .inr (5, [.ref qu, .ref qt, .ref rf, .int co])), (qu, .inr (2, [.ref qf, .ref bd, .ref cr, .ref wh, .int (nI day)])), (bd, .inr (0, [.ref bd0, .ref bd1, .ref bd2, .ref bd3, .int (nI nb)]))]) [0, 1, 2] rfl 5 rfl rfl rfl) rfl rfl hl.1 rfl (lv_room (Nat.le_of_ble_eq_true rfl)) dL_open_7 ⟨Nat.le_of_ble_eq_true rfl, Nat.le_of_ble_eq_true rfl⟩) hS (fun _ _ z => z.elim) (fun _ z => z.elim) (fun _ _ z => z.elim) (fun E ce q9 u t H1 locs1 ht hvm hpx hBX hz hk hS hce hcv hcl => ?_) (fun r u t H1 locs1 ht hvm hpost hB hz hk hS => hpost.elim)
  subst hBX
  refine vx_catch (name := gE3) hown [⟨0, 12, 15, 15⟩] ⟨0, 12, 19, 21⟩ [] (by rw [hte]; rfl) (fun z hz => by cases List.mem_singleton.mp hz; exact Or.inr ⟨by decide, gE2, (hts _ wd_L_open_f2_0), hC.2.2.2.1⟩) (by decide) (by decide) (hts _ wd_L_open_f2_1) (va_Nw.use rfl (hC.1 gE3 (by simp))) hce hcv hcl ?_
  refine W.eq (g2 := F0 m 19 ls [.ref q9]) rfl ?_
  refine lv_astore (lv' := [(5, .ref q9), (0, .ref gx), (1, .int y1), (2, .int y2), (3, .int y3), (4, .ref ou)]) hx hb dL_open_19 hl (by decide) rfl (fun ls hl => ?_)
  refine lv_iconst (v := 2) hx hb dL_open_21 (by decide) ?_
  exact W.iret (v := 2) hx hb hr (fun t ht hW => ⟨⟨_, (), rfl, rfl, trivial⟩, hS.F ht⟩) hS.2.2 dL_open_22

theorem wd_L_hire_f1_0 : (.classLink RL 15 gE2 : Cond) ∈ wsL_hire := by decide +kernel
set_option maxHeartbeats 4000000 in
set_option maxRecDepth 100000 in
theorem met_L_hire_f1 (l : Launch) (hfl : l.stackTraces = false) (D : va_G) (cI cZ cL : ClassId) (gx : Nat) (qu : Nat) (qt : Nat) (rf : Nat) (co : Int32) (y : Int32) (ou : Nat) (hy : ¬ ((1 : Int32) ≤ y ∧ y ≤ 9)) : Met l yL_hire wsL_hire ({ frames := 7, cells := 1, slots := 6, locals := 111 }) (gPy [.ref gx, .int y, .ref ou] D [(gx, .inr (5, [.ref qu, .ref qt, .ref rf, .int co]))] (gT cI cZ cL)) (va_Qi (fun (zr : Int32) (_ : Unit) => zr = 1) (fun _ _ => True) gN) 1 6 gN := by
  refine gw_ofH (hh := [(0, 9, 12, 15), (0, 9, 15, 21)]) (cc := cL_hire) (maxL := 4) (ret := (some .int)) (by decide +kernel) rfl ?_
  intro p e s m args below meth c s₁ B hml hte hv
  obtain ⟨rfl, hP, hK, hX, hC⟩ := hv
  have hx := B.exec
  have hb := B.bytes
  have hr := B.returns
  have hts := atoms_spec (ws := wsL_hire) B.pre
  have hown : s.vm.findClass RL = some m.cls := findClass_of_methodNamed B.named
  have hlocks := B.notSynchronized
  have hS : va_S gN s.heap s.heap [] := va_S.rf
  have hP : va_P D vwCl [(gx, .inr (5, [.ref qu, .ref qt, .ref rf, .int co]))] s.heap := hP
  have hl := lv_entry ([.ref gx, .int y, .ref ou]) (n := 4) (Nat.le_of_ble_eq_true rfl)
  rw [lg_entry_eq]
  generalize (lg_sl ([.ref gx, .int y, .ref ou]) ++ List.replicate (4 - (lg_sl ([.ref gx, .int y, .ref ou])).length) Slot.unset).toArray = ls at hl ⊢
  have hl : lv_has ls 4 [(0, .ref gx), (1, .int y), (2, .ref ou)] := hl
  refine lv_aload_n hx hb dL_hire_0 rfl (lv_at hl 2 rfl) ?_
  refine lv_iconst (v := 0) hx hb dL_hire_1 (by decide) ?_
  refine lv_aload_n hx hb dL_hire_2 rfl (lv_at hl 0 rfl) ?_
  refine lv_iload_n hx hb dL_hire_3 rfl (lv_at hl 1 rfl) ?_
  refine vx_calli (vx_runV (As := [.int y]) (rest := [.int 0, .ref ou]) ⟨hx, hb, hml, hown, hts⟩ (met_X5_hire_f1 l hfl D cI cZ cL gx qu qt rf co y (by first | assumption | omega)) (cwV 1 hts gL_hire_X5_hire rfl rfl rfl (by decide +kernel) ⟨Nat.le_of_ble_eq_true rfl, Nat.le_of_ble_eq_true rfl⟩) (gw_pvx hK hP hX (wc := [(gx, .inr (5, [.ref qu, .ref qt, .ref rf, .int co]))]) [0] rfl 5 rfl rfl rfl) rfl rfl hl.1 rfl (lv_room (Nat.le_of_ble_eq_true rfl)) dL_hire_4 ⟨Nat.le_of_ble_eq_true rfl, Nat.le_of_ble_eq_true rfl⟩) hS (fun _ _ z => z.elim) (fun _ z => z.elim) (fun _ _ z => z.elim) (fun E ce q9 u t H1 locs1 ht hvm hpx hBX hz hk hS hce hcv hcl => ?_) (fun r u t H1 locs1 ht hvm hpost hB hz hk hS => hpost.elim)
  subst hBX
  refine vx_catch (name := gE2) hown [] ⟨0, 9, 12, 15⟩ [⟨0, 9, 15, 21⟩] (by rw [hte]; rfl) (fun z hz => absurd hz List.not_mem_nil) (by decide) (by decide) (hts _ wd_L_hire_f1_0) (va_Nw.use rfl (hC.1 gE2 (by simp))) hce hcv hcl ?_
  refine W.eq (g2 := F0 m 12 ls [.ref q9]) rfl ?_
  refine lv_astore_n (lv' := [(3, .ref q9), (0, .ref gx), (1, .int y), (2, .ref ou)]) hx hb dL_hire_12 rfl hl (by decide) rfl (fun ls hl => ?_)
  refine lv_iconst (v := 1) hx hb dL_hire_13 (by decide) ?_
  exact W.iret (v := 1) hx hb hr (fun t ht hW => ⟨⟨_, (), rfl, rfl, trivial⟩, hS.F ht⟩) hS.2.2 dL_hire_14

theorem wd_L_hire_f2_0 : (.classLink RL 15 gE2 : Cond) ∈ wsL_hire := by decide +kernel
theorem wd_L_hire_f2_1 : (.classLink RL 21 gE3 : Cond) ∈ wsL_hire := by decide +kernel
set_option maxHeartbeats 4000000 in
set_option maxRecDepth 100000 in
theorem met_L_hire_f2 (l : Launch) (hfl : l.stackTraces = false) (D : va_G) (cI cZ cL : ClassId) (gx : Nat) (qu : Nat) (qt : Nat) (rf : Nat) (qf : Nat) (bd : Nat) (cr : Nat) (wh : Nat) (cr0 : Nat) (cr1 : Nat) (cr2 : Nat) (cr3 : Nat) (co : Int32) (nq : Nat) (day : Nat) (y : Int32) (ou : Nat) (hy : 1 ≤ y ∧ y ≤ 9) (hnq : nq = 6) : Met l yL_hire wsL_hire ({ frames := 7, cells := 1, slots := 6, locals := 111 }) (gPy [.ref gx, .int y, .ref ou] D [(gx, .inr (5, [.ref qu, .ref qt, .ref rf, .int co])), (qu, .inr (2, [.ref qf, .ref bd, .ref cr, .ref wh, .int (nI day)])), (cr, .inr (1, [.ref cr0, .ref cr1, .ref cr2, .ref cr3, .int (nI nq)]))] (gT cI cZ cL)) (va_Qi (fun (zr : Int32) (_ : Unit) => zr = 2) (fun _ _ => True) gN) 1 6 gN := by
  refine gw_ofH (hh := [(0, 9, 12, 15), (0, 9, 15, 21)]) (cc := cL_hire) (maxL := 4) (ret := (some .int)) (by decide +kernel) rfl ?_
  intro p e s m args below meth c s₁ B hml hte hv
  obtain ⟨rfl, hP, hK, hX, hC⟩ := hv
  have hx := B.exec
  have hb := B.bytes
  have hr := B.returns
  have hts := atoms_spec (ws := wsL_hire) B.pre
  have hown : s.vm.findClass RL = some m.cls := findClass_of_methodNamed B.named
  have hlocks := B.notSynchronized
  have hS : va_S gN s.heap s.heap [] := va_S.rf
  have hP : va_P D vwCl [(gx, .inr (5, [.ref qu, .ref qt, .ref rf, .int co])), (qu, .inr (2, [.ref qf, .ref bd, .ref cr, .ref wh, .int (nI day)])), (cr, .inr (1, [.ref cr0, .ref cr1, .ref cr2, .ref cr3, .int (nI nq)]))] s.heap := hP
  have hl := lv_entry ([.ref gx, .int y, .ref ou]) (n := 4) (Nat.le_of_ble_eq_true rfl)
  rw [lg_entry_eq]
  generalize (lg_sl ([.ref gx, .int y, .ref ou]) ++ List.replicate (4 - (lg_sl ([.ref gx, .int y, .ref ou])).length) Slot.unset).toArray = ls at hl ⊢
  have hl : lv_has ls 4 [(0, .ref gx), (1, .int y), (2, .ref ou)] := hl
  refine lv_aload_n hx hb dL_hire_0 rfl (lv_at hl 2 rfl) ?_
  refine lv_iconst (v := 0) hx hb dL_hire_1 (by decide) ?_
  refine lv_aload_n hx hb dL_hire_2 rfl (lv_at hl 0 rfl) ?_
  refine lv_iload_n hx hb dL_hire_3 rfl (lv_at hl 1 rfl) ?_
  refine vx_calli (vx_runV (As := [.int y]) (rest := [.int 0, .ref ou]) ⟨hx, hb, hml, hown, hts⟩ (met_X5_hire_f2 l hfl D cI cZ cL gx qu qt rf qf bd cr wh cr0 cr1 cr2 cr3 co nq day y (by first | assumption | omega) (by first | assumption | omega)) (cwV 1 hts gL_hire_X5_hire rfl rfl rfl (by decide +kernel) ⟨Nat.le_of_ble_eq_true rfl, Nat.le_of_ble_eq_true rfl⟩) (gw_pvx hK hP hX (wc := [(gx, .inr (5, [.ref qu, .ref qt, .ref rf, .int co])), (qu, .inr (2, [.ref qf, .ref bd, .ref cr, .ref wh, .int (nI day)])), (cr, .inr (1, [.ref cr0, .ref cr1, .ref cr2, .ref cr3, .int (nI nq)]))]) [0, 1, 2] rfl 5 rfl rfl rfl) rfl rfl hl.1 rfl (lv_room (Nat.le_of_ble_eq_true rfl)) dL_hire_4 ⟨Nat.le_of_ble_eq_true rfl, Nat.le_of_ble_eq_true rfl⟩) hS (fun _ _ z => z.elim) (fun _ z => z.elim) (fun _ _ z => z.elim) (fun E ce q9 u t H1 locs1 ht hvm hpx hBX hz hk hS hce hcv hcl => ?_) (fun r u t H1 locs1 ht hvm hpost hB hz hk hS => hpost.elim)
  subst hBX
  refine vx_catch (name := gE3) hown [⟨0, 9, 12, 15⟩] ⟨0, 9, 15, 21⟩ [] (by rw [hte]; rfl) (fun z hz => by cases List.mem_singleton.mp hz; exact Or.inr ⟨by decide, gE2, (hts _ wd_L_hire_f2_0), hC.2.2.2.1⟩) (by decide) (by decide) (hts _ wd_L_hire_f2_1) (va_Nw.use rfl (hC.1 gE3 (by simp))) hce hcv hcl ?_
  refine W.eq (g2 := F0 m 15 ls [.ref q9]) rfl ?_
  refine lv_astore_n (lv' := [(3, .ref q9), (0, .ref gx), (1, .int y), (2, .ref ou)]) hx hb dL_hire_15 rfl hl (by decide) rfl (fun ls hl => ?_)
  refine lv_iconst (v := 2) hx hb dL_hire_16 (by decide) ?_
  exact W.iret (v := 2) hx hb hr (fun t ht hW => ⟨⟨_, (), rfl, rfl, trivial⟩, hS.F ht⟩) hS.2.2 dL_hire_17

theorem wd_L_send_f1_0 : (.classLink RL 13 gE1 : Cond) ∈ wsL_send := by decide +kernel
set_option maxHeartbeats 4000000 in
set_option maxRecDepth 100000 in
theorem met_L_send_f1 (l : Launch) (hfl : l.stackTraces = false) (D : va_G) (cI cZ cL : ClassId) (gx : Nat) (qu : Nat) (qt : Nat) (rf : Nat) (qf : Nat) (bd : Nat) (cr : Nat) (wh : Nat) (bd0 : Nat) (bd1 : Nat) (bd2 : Nat) (bd3 : Nat) (cr0 : Nat) (cr1 : Nat) (cr2 : Nat) (cr3 : Nat) (co : Int32) (nb : Nat) (nq : Nat) (day : Nat) (z : Int32) (x : Int32) (ou : Nat) (hnq : nq ≤ 6) (hnb : nb ≤ 5) (hzx : ¬ ((∃ kk, kk < nq ∧ z = nI kk) ∧ (x = -1 ∨ ∃ kk, kk < nb ∧ x = nI kk))) : Met l yL_send wsL_send ({ frames := 7, cells := 1, slots := 6, locals := 113 }) (gPy [.ref gx, .int z, .int x, .ref ou] D [(gx, .inr (5, [.ref qu, .ref qt, .ref rf, .int co])), (qu, .inr (2, [.ref qf, .ref bd, .ref cr, .ref wh, .int (nI day)])), (bd, .inr (0, [.ref bd0, .ref bd1, .ref bd2, .ref bd3, .int (nI nb)])), (cr, .inr (1, [.ref cr0, .ref cr1, .ref cr2, .ref cr3, .int (nI nq)]))] (gT cI cZ cL)) (va_Qi (fun (zr : Int32) (_ : Unit) => zr = 1) (fun _ _ => True) gN) 1 6 gN := by
  refine gw_ofH (hh := [(0, 10, 13, 13)]) (cc := cL_send) (maxL := 5) (ret := (some .int)) (by decide +kernel) rfl ?_
  intro p e s m args below meth c s₁ B hml hte hv
  obtain ⟨rfl, hP, hK, hX, hC⟩ := hv
  have hx := B.exec
  have hb := B.bytes
  have hr := B.returns
  have hts := atoms_spec (ws := wsL_send) B.pre
  have hown : s.vm.findClass RL = some m.cls := findClass_of_methodNamed B.named
  have hlocks := B.notSynchronized
  have hS : va_S gN s.heap s.heap [] := va_S.rf
  have hP : va_P D vwCl [(gx, .inr (5, [.ref qu, .ref qt, .ref rf, .int co])), (qu, .inr (2, [.ref qf, .ref bd, .ref cr, .ref wh, .int (nI day)])), (bd, .inr (0, [.ref bd0, .ref bd1, .ref bd2, .ref bd3, .int (nI nb)])), (cr, .inr (1, [.ref cr0, .ref cr1, .ref cr2, .ref cr3, .int (nI nq)]))] s.heap := hP
  have hl := lv_entry ([.ref gx, .int z, .int x, .ref ou]) (n := 5) (Nat.le_of_ble_eq_true rfl)
  rw [lg_entry_eq]
  generalize (lg_sl ([.ref gx, .int z, .int x, .ref ou]) ++ List.replicate (5 - (lg_sl ([.ref gx, .int z, .int x, .ref ou])).length) Slot.unset).toArray = ls at hl ⊢
  have hl : lv_has ls 5 [(0, .ref gx), (1, .int z), (2, .int x), (3, .ref ou)] := hl
  refine lv_aload_n hx hb dL_send_0 rfl (lv_at hl 3 rfl) ?_
  refine lv_iconst (v := 0) hx hb dL_send_1 (by decide) ?_
  refine lv_aload_n hx hb dL_send_2 rfl (lv_at hl 0 rfl) ?_
  refine lv_iload_n hx hb dL_send_3 rfl (lv_at hl 1 rfl) ?_
  refine lv_iload_n hx hb dL_send_4 rfl (lv_at hl 2 rfl) ?_
  refine vx_calli (vx_runV (As := [.int z, .int x]) (rest := [.int 0, .ref ou]) ⟨hx, hb, hml, hown, hts⟩ (met_X5_send_f1 l hfl D cI cZ cL gx qu qt rf qf bd cr wh bd0 bd1 bd2 bd3 cr0 cr1 cr2 cr3 co nb nq day z x (by first | assumption | omega) (by first | assumption | omega) (by first | assumption | omega)) (cwV 2 hts gL_send_X5_send rfl rfl rfl (by decide +kernel) ⟨Nat.le_of_ble_eq_true rfl, Nat.le_of_ble_eq_true rfl⟩) (gw_pvx hK hP hX (wc := [(gx, .inr (5, [.ref qu, .ref qt, .ref rf, .int co])), (qu, .inr (2, [.ref qf, .ref bd, .ref cr, .ref wh, .int (nI day)])), (bd, .inr (0, [.ref bd0, .ref bd1, .ref bd2, .ref bd3, .int (nI nb)])), (cr, .inr (1, [.ref cr0, .ref cr1, .ref cr2, .ref cr3, .int (nI nq)]))]) [0, 1, 2, 3] rfl 5 rfl rfl rfl) rfl rfl hl.1 rfl (lv_room (Nat.le_of_ble_eq_true rfl)) dL_send_5 ⟨Nat.le_of_ble_eq_true rfl, Nat.le_of_ble_eq_true rfl⟩) hS (fun _ _ z => z.elim) (fun _ z => z.elim) (fun _ _ z => z.elim) (fun E ce q9 u t H1 locs1 ht hvm hpx hBX hz hk hS hce hcv hcl => ?_) (fun r u t H1 locs1 ht hvm hpost hB hz hk hS => hpost.elim)
  subst hBX
  refine vx_catch (name := gE1) hown [] ⟨0, 10, 13, 13⟩ [] (by rw [hte]; rfl) (fun z hz => absurd hz List.not_mem_nil) (by decide) (by decide) (hts _ wd_L_send_f1_0) (va_Nw.use rfl (hC.1 gE1 (by simp))) hce hcv hcl ?_
  refine W.eq (g2 := F0 m 13 ls [.ref q9]) rfl ?_
  refine lv_astore (lv' := [(4, .ref q9), (0, .ref gx), (1, .int z), (2, .int x), (3, .ref ou)]) hx hb dL_send_13 hl (by decide) rfl (fun ls hl => ?_)
  refine lv_iconst (v := 1) hx hb dL_send_15 (by decide) ?_
  exact W.iret (v := 1) hx hb hr (fun t ht hW => ⟨⟨_, (), rfl, rfl, trivial⟩, hS.F ht⟩) hS.2.2 dL_send_16

theorem wd_L_ring_f1_0 : (.classLink RL 13 gE1 : Cond) ∈ wsL_ring := by decide +kernel
set_option maxHeartbeats 4000000 in
set_option maxRecDepth 100000 in
theorem met_L_ring_f1 (l : Launch) (hfl : l.stackTraces = false) (D : va_G) (cI cZ cL : ClassId) (gx : Nat) (qu : Nat) (qt : Nat) (rf : Nat) (qf : Nat) (bd : Nat) (cr : Nat) (wh : Nat) (wh0 : Nat) (wh1 : Nat) (wh2 : Nat) (wh3 : Nat) (wh4 : Nat) (wh5 : Nat) (co : Int32) (nw : Nat) (day : Nat) (x : Int32) (ou : Nat) (hnw : nw ≤ 60) (hx1 : ¬ ∃ kk, kk < nw ∧ x = nI kk) : Met l yL_ring wsL_ring ({ frames := 7, cells := 1, slots := 6, locals := 111 }) (gPy [.ref gx, .int x, .ref ou] D [(gx, .inr (5, [.ref qu, .ref qt, .ref rf, .int co])), (qu, .inr (2, [.ref qf, .ref bd, .ref cr, .ref wh, .int (nI day)])), (wh, .inr (4, [.ref wh0, .ref wh1, .ref wh2, .ref wh3, .ref wh4, .ref wh5, .int (nI nw)]))] (gT cI cZ cL)) (va_Qi (fun (zr : Int32) (_ : Unit) => zr = 1) (fun _ _ => True) gN) 1 6 gN := by
  refine gw_ofH (hh := [(0, 9, 12, 13), (0, 9, 15, 21)]) (cc := cL_ring) (maxL := 4) (ret := (some .int)) (by decide +kernel) rfl ?_
  intro p e s m args below meth c s₁ B hml hte hv
  obtain ⟨rfl, hP, hK, hX, hC⟩ := hv
  have hx := B.exec
  have hb := B.bytes
  have hr := B.returns
  have hts := atoms_spec (ws := wsL_ring) B.pre
  have hown : s.vm.findClass RL = some m.cls := findClass_of_methodNamed B.named
  have hlocks := B.notSynchronized
  have hS : va_S gN s.heap s.heap [] := va_S.rf
  have hP : va_P D vwCl [(gx, .inr (5, [.ref qu, .ref qt, .ref rf, .int co])), (qu, .inr (2, [.ref qf, .ref bd, .ref cr, .ref wh, .int (nI day)])), (wh, .inr (4, [.ref wh0, .ref wh1, .ref wh2, .ref wh3, .ref wh4, .ref wh5, .int (nI nw)]))] s.heap := hP
  have hl := lv_entry ([.ref gx, .int x, .ref ou]) (n := 4) (Nat.le_of_ble_eq_true rfl)
  rw [lg_entry_eq]
  generalize (lg_sl ([.ref gx, .int x, .ref ou]) ++ List.replicate (4 - (lg_sl ([.ref gx, .int x, .ref ou])).length) Slot.unset).toArray = ls at hl ⊢
  have hl : lv_has ls 4 [(0, .ref gx), (1, .int x), (2, .ref ou)] := hl
  refine lv_aload_n hx hb dL_ring_0 rfl (lv_at hl 2 rfl) ?_
  refine lv_iconst (v := 0) hx hb dL_ring_1 (by decide) ?_
  refine lv_aload_n hx hb dL_ring_2 rfl (lv_at hl 0 rfl) ?_
  refine lv_iload_n hx hb dL_ring_3 rfl (lv_at hl 1 rfl) ?_
  refine vx_calli (vx_runV (As := [.int x]) (rest := [.int 0, .ref ou]) ⟨hx, hb, hml, hown, hts⟩ (met_X5_ring_f1 l hfl D cI cZ cL gx qu qt rf qf bd cr wh wh0 wh1 wh2 wh3 wh4 wh5 co nw day x (by first | assumption | omega) (by first | assumption | omega)) (cwV 1 hts gL_ring_X5_ring rfl rfl rfl (by decide +kernel) ⟨Nat.le_of_ble_eq_true rfl, Nat.le_of_ble_eq_true rfl⟩) (gw_pvx hK hP hX (wc := [(gx, .inr (5, [.ref qu, .ref qt, .ref rf, .int co])), (qu, .inr (2, [.ref qf, .ref bd, .ref cr, .ref wh, .int (nI day)])), (wh, .inr (4, [.ref wh0, .ref wh1, .ref wh2, .ref wh3, .ref wh4, .ref wh5, .int (nI nw)]))]) [0, 1, 2] rfl 5 rfl rfl rfl) rfl rfl hl.1 rfl (lv_room (Nat.le_of_ble_eq_true rfl)) dL_ring_4 ⟨Nat.le_of_ble_eq_true rfl, Nat.le_of_ble_eq_true rfl⟩) hS (fun _ _ z => z.elim) (fun _ z => z.elim) (fun _ _ z => z.elim) (fun E ce q9 u t H1 locs1 ht hvm hpx hBX hz hk hS hce hcv hcl => ?_) (fun r u t H1 locs1 ht hvm hpost hB hz hk hS => hpost.elim)
  subst hBX
  refine vx_catch (name := gE1) hown [] ⟨0, 9, 12, 13⟩ [⟨0, 9, 15, 21⟩] (by rw [hte]; rfl) (fun z hz => absurd hz List.not_mem_nil) (by decide) (by decide) (hts _ wd_L_ring_f1_0) (va_Nw.use rfl (hC.1 gE1 (by simp))) hce hcv hcl ?_
  refine W.eq (g2 := F0 m 12 ls [.ref q9]) rfl ?_
  refine lv_astore_n (lv' := [(3, .ref q9), (0, .ref gx), (1, .int x), (2, .ref ou)]) hx hb dL_ring_12 rfl hl (by decide) rfl (fun ls hl => ?_)
  refine lv_iconst (v := 1) hx hb dL_ring_13 (by decide) ?_
  exact W.iret (v := 1) hx hb hr (fun t ht hW => ⟨⟨_, (), rfl, rfl, trivial⟩, hS.F ht⟩) hS.2.2 dL_ring_14

theorem wd_L_ring_f2_0 : (.classLink RL 13 gE1 : Cond) ∈ wsL_ring := by decide +kernel
theorem wd_L_ring_f2_1 : (.classLink RL 21 gE3 : Cond) ∈ wsL_ring := by decide +kernel
set_option maxHeartbeats 4000000 in
set_option maxRecDepth 100000 in
theorem met_L_ring_f2 (l : Launch) (hfl : l.stackTraces = false) (D : va_G) (cI cZ cL : ClassId) (gx : Nat) (qu : Nat) (qt : Nat) (rf : Nat) (qf : Nat) (bd : Nat) (cr : Nat) (wh : Nat) (wh0 : Nat) (wh1 : Nat) (wh2 : Nat) (wh3 : Nat) (wh4 : Nat) (wh5 : Nat) (co : Int32) (Q : Nat → Nat → Int32) (nw : Nat) (day : Nat) (k : Nat) (ou : Nat) (hk : k < nw) (hnw : nw ≤ 60) (hst : ¬ Q 13 k < 3) : Met l yL_ring wsL_ring ({ frames := 7, cells := 1, slots := 6, locals := 111 }) (gPy [.ref gx, .int (nI k), .ref ou] D [(gx, .inr (5, [.ref qu, .ref qt, .ref rf, .int co])), (qu, .inr (2, [.ref qf, .ref bd, .ref cr, .ref wh, .int (nI day)])), (wh, .inr (4, [.ref wh0, .ref wh1, .ref wh2, .ref wh3, .ref wh4, .ref wh5, .int (nI nw)])), (wh4, .inl (cI, 60, .inl (Q 13)))] (gT cI cZ cL)) (va_Qi (fun (zr : Int32) (_ : Unit) => zr = 2) (fun _ _ => True) gN) 1 6 gN := by
  refine gw_ofH (hh := [(0, 9, 12, 13), (0, 9, 15, 21)]) (cc := cL_ring) (maxL := 4) (ret := (some .int)) (by decide +kernel) rfl ?_
  intro p e s m args below meth c s₁ B hml hte hv
  obtain ⟨rfl, hP, hK, hX, hC⟩ := hv
  have hx := B.exec
  have hb := B.bytes
  have hr := B.returns
  have hts := atoms_spec (ws := wsL_ring) B.pre
  have hown : s.vm.findClass RL = some m.cls := findClass_of_methodNamed B.named
  have hlocks := B.notSynchronized
  have hS : va_S gN s.heap s.heap [] := va_S.rf
  have hP : va_P D vwCl [(gx, .inr (5, [.ref qu, .ref qt, .ref rf, .int co])), (qu, .inr (2, [.ref qf, .ref bd, .ref cr, .ref wh, .int (nI day)])), (wh, .inr (4, [.ref wh0, .ref wh1, .ref wh2, .ref wh3, .ref wh4, .ref wh5, .int (nI nw)])), (wh4, .inl (cI, 60, .inl (Q 13)))] s.heap := hP
  have hl := lv_entry ([.ref gx, .int (nI k), .ref ou]) (n := 4) (Nat.le_of_ble_eq_true rfl)
  rw [lg_entry_eq]
  generalize (lg_sl ([.ref gx, .int (nI k), .ref ou]) ++ List.replicate (4 - (lg_sl ([.ref gx, .int (nI k), .ref ou])).length) Slot.unset).toArray = ls at hl ⊢
  have hl : lv_has ls 4 [(0, .ref gx), (1, .int (nI k)), (2, .ref ou)] := hl
  refine lv_aload_n hx hb dL_ring_0 rfl (lv_at hl 2 rfl) ?_
  refine lv_iconst (v := 0) hx hb dL_ring_1 (by decide) ?_
  refine lv_aload_n hx hb dL_ring_2 rfl (lv_at hl 0 rfl) ?_
  refine lv_iload_n hx hb dL_ring_3 rfl (lv_at hl 1 rfl) ?_
  refine vx_calli (vx_runV (As := [.int (nI k)]) (rest := [.int 0, .ref ou]) ⟨hx, hb, hml, hown, hts⟩ (met_X5_ring_f2 l hfl D cI cZ cL gx qu qt rf qf bd cr wh wh0 wh1 wh2 wh3 wh4 wh5 co Q nw day k (by first | assumption | omega) (by first | assumption | omega) (by first | assumption | omega)) (cwV 1 hts gL_ring_X5_ring rfl rfl rfl (by decide +kernel) ⟨Nat.le_of_ble_eq_true rfl, Nat.le_of_ble_eq_true rfl⟩) (gw_pvx hK hP hX (wc := [(gx, .inr (5, [.ref qu, .ref qt, .ref rf, .int co])), (qu, .inr (2, [.ref qf, .ref bd, .ref cr, .ref wh, .int (nI day)])), (wh, .inr (4, [.ref wh0, .ref wh1, .ref wh2, .ref wh3, .ref wh4, .ref wh5, .int (nI nw)])), (wh4, .inl (cI, 60, .inl (Q 13)))]) [0, 1, 2, 3] rfl 5 rfl rfl rfl) rfl rfl hl.1 rfl (lv_room (Nat.le_of_ble_eq_true rfl)) dL_ring_4 ⟨Nat.le_of_ble_eq_true rfl, Nat.le_of_ble_eq_true rfl⟩) hS (fun _ _ z => z.elim) (fun _ z => z.elim) (fun _ _ z => z.elim) (fun E ce q9 u t H1 locs1 ht hvm hpx hBX hz hk hS hce hcv hcl => ?_) (fun r u t H1 locs1 ht hvm hpost hB hz hk hS => hpost.elim)
  subst hBX
  refine vx_catch (name := gE3) hown [⟨0, 9, 12, 13⟩] ⟨0, 9, 15, 21⟩ [] (by rw [hte]; rfl) (fun z hz => by cases List.mem_singleton.mp hz; exact Or.inr ⟨by decide, gE1, (hts _ wd_L_ring_f2_0), hC.2.2.1⟩) (by decide) (by decide) (hts _ wd_L_ring_f2_1) (va_Nw.use rfl (hC.1 gE3 (by simp))) hce hcv hcl ?_
  refine W.eq (g2 := F0 m 15 ls [.ref q9]) rfl ?_
  refine lv_astore_n (lv' := [(3, .ref q9), (0, .ref gx), (1, .int (nI k)), (2, .ref ou)]) hx hb dL_ring_15 rfl hl (by decide) rfl (fun ls hl => ?_)
  refine lv_iconst (v := 2) hx hb dL_ring_16 (by decide) ?_
  exact W.iret (v := 2) hx hb hr (fun t ht hW => ⟨⟨_, (), rfl, rfl, trivial⟩, hS.F ht⟩) hS.2.2 dL_ring_17

theorem wd_L_smash_f1_0 : (.classLink RL 13 gE1 : Cond) ∈ wsL_smash := by decide +kernel
set_option maxHeartbeats 4000000 in
set_option maxRecDepth 100000 in
theorem met_L_smash_f1 (l : Launch) (hfl : l.stackTraces = false) (D : va_G) (cI cZ cL : ClassId) (gx : Nat) (qu : Nat) (qt : Nat) (rf : Nat) (qf : Nat) (bd : Nat) (cr : Nat) (wh : Nat) (wh0 : Nat) (wh1 : Nat) (wh2 : Nat) (wh3 : Nat) (wh4 : Nat) (wh5 : Nat) (co : Int32) (nw : Nat) (day : Nat) (x : Int32) (ou : Nat) (hnw : nw ≤ 60) (hx1 : ¬ ∃ kk, kk < nw ∧ x = nI kk) : Met l yL_smash wsL_smash ({ frames := 7, cells := 1, slots := 6, locals := 111 }) (gPy [.ref gx, .int x, .ref ou] D [(gx, .inr (5, [.ref qu, .ref qt, .ref rf, .int co])), (qu, .inr (2, [.ref qf, .ref bd, .ref cr, .ref wh, .int (nI day)])), (wh, .inr (4, [.ref wh0, .ref wh1, .ref wh2, .ref wh3, .ref wh4, .ref wh5, .int (nI nw)]))] (gT cI cZ cL)) (va_Qi (fun (zr : Int32) (_ : Unit) => zr = 1) (fun _ _ => True) gN) 1 6 gN := by
  refine gw_ofH (hh := [(0, 9, 12, 13), (0, 9, 15, 21)]) (cc := cL_smash) (maxL := 4) (ret := (some .int)) (by decide +kernel) rfl ?_
  intro p e s m args below meth c s₁ B hml hte hv
  obtain ⟨rfl, hP, hK, hX, hC⟩ := hv
  have hx := B.exec
  have hb := B.bytes
  have hr := B.returns
  have hts := atoms_spec (ws := wsL_smash) B.pre
  have hown : s.vm.findClass RL = some m.cls := findClass_of_methodNamed B.named
  have hlocks := B.notSynchronized
  have hS : va_S gN s.heap s.heap [] := va_S.rf
  have hP : va_P D vwCl [(gx, .inr (5, [.ref qu, .ref qt, .ref rf, .int co])), (qu, .inr (2, [.ref qf, .ref bd, .ref cr, .ref wh, .int (nI day)])), (wh, .inr (4, [.ref wh0, .ref wh1, .ref wh2, .ref wh3, .ref wh4, .ref wh5, .int (nI nw)]))] s.heap := hP
  have hl := lv_entry ([.ref gx, .int x, .ref ou]) (n := 4) (Nat.le_of_ble_eq_true rfl)
  rw [lg_entry_eq]
  generalize (lg_sl ([.ref gx, .int x, .ref ou]) ++ List.replicate (4 - (lg_sl ([.ref gx, .int x, .ref ou])).length) Slot.unset).toArray = ls at hl ⊢
  have hl : lv_has ls 4 [(0, .ref gx), (1, .int x), (2, .ref ou)] := hl
  refine lv_aload_n hx hb dL_smash_0 rfl (lv_at hl 2 rfl) ?_
  refine lv_iconst (v := 0) hx hb dL_smash_1 (by decide) ?_
  refine lv_aload_n hx hb dL_smash_2 rfl (lv_at hl 0 rfl) ?_
  refine lv_iload_n hx hb dL_smash_3 rfl (lv_at hl 1 rfl) ?_
  refine vx_calli (vx_runV (As := [.int x]) (rest := [.int 0, .ref ou]) ⟨hx, hb, hml, hown, hts⟩ (met_X5_smash_f1 l hfl D cI cZ cL gx qu qt rf qf bd cr wh wh0 wh1 wh2 wh3 wh4 wh5 co nw day x (by first | assumption | omega) (by first | assumption | omega)) (cwV 1 hts gL_smash_X5_smash rfl rfl rfl (by decide +kernel) ⟨Nat.le_of_ble_eq_true rfl, Nat.le_of_ble_eq_true rfl⟩) (gw_pvx hK hP hX (wc := [(gx, .inr (5, [.ref qu, .ref qt, .ref rf, .int co])), (qu, .inr (2, [.ref qf, .ref bd, .ref cr, .ref wh, .int (nI day)])), (wh, .inr (4, [.ref wh0, .ref wh1, .ref wh2, .ref wh3, .ref wh4, .ref wh5, .int (nI nw)]))]) [0, 1, 2] rfl 5 rfl rfl rfl) rfl rfl hl.1 rfl (lv_room (Nat.le_of_ble_eq_true rfl)) dL_smash_4 ⟨Nat.le_of_ble_eq_true rfl, Nat.le_of_ble_eq_true rfl⟩) hS (fun _ _ z => z.elim) (fun _ z => z.elim) (fun _ _ z => z.elim) (fun E ce q9 u t H1 locs1 ht hvm hpx hBX hz hk hS hce hcv hcl => ?_) (fun r u t H1 locs1 ht hvm hpost hB hz hk hS => hpost.elim)
  subst hBX
  refine vx_catch (name := gE1) hown [] ⟨0, 9, 12, 13⟩ [⟨0, 9, 15, 21⟩] (by rw [hte]; rfl) (fun z hz => absurd hz List.not_mem_nil) (by decide) (by decide) (hts _ wd_L_smash_f1_0) (va_Nw.use rfl (hC.1 gE1 (by simp))) hce hcv hcl ?_
  refine W.eq (g2 := F0 m 12 ls [.ref q9]) rfl ?_
  refine lv_astore_n (lv' := [(3, .ref q9), (0, .ref gx), (1, .int x), (2, .ref ou)]) hx hb dL_smash_12 rfl hl (by decide) rfl (fun ls hl => ?_)
  refine lv_iconst (v := 1) hx hb dL_smash_13 (by decide) ?_
  exact W.iret (v := 1) hx hb hr (fun t ht hW => ⟨⟨_, (), rfl, rfl, trivial⟩, hS.F ht⟩) hS.2.2 dL_smash_14

theorem wd_L_smash_f2_0 : (.classLink RL 13 gE1 : Cond) ∈ wsL_smash := by decide +kernel
theorem wd_L_smash_f2_1 : (.classLink RL 21 gE3 : Cond) ∈ wsL_smash := by decide +kernel
set_option maxHeartbeats 4000000 in
set_option maxRecDepth 100000 in
theorem met_L_smash_f2 (l : Launch) (hfl : l.stackTraces = false) (D : va_G) (cI cZ cL : ClassId) (gx : Nat) (qu : Nat) (qt : Nat) (rf : Nat) (qf : Nat) (bd : Nat) (cr : Nat) (wh : Nat) (wh0 : Nat) (wh1 : Nat) (wh2 : Nat) (wh3 : Nat) (wh4 : Nat) (wh5 : Nat) (co : Int32) (Q : Nat → Nat → Int32) (nw : Nat) (day : Nat) (k : Nat) (ou : Nat) (hk : k < nw) (hnw : nw ≤ 60) (hst : ¬ Q 13 k < 2) : Met l yL_smash wsL_smash ({ frames := 7, cells := 1, slots := 6, locals := 111 }) (gPy [.ref gx, .int (nI k), .ref ou] D [(gx, .inr (5, [.ref qu, .ref qt, .ref rf, .int co])), (qu, .inr (2, [.ref qf, .ref bd, .ref cr, .ref wh, .int (nI day)])), (wh, .inr (4, [.ref wh0, .ref wh1, .ref wh2, .ref wh3, .ref wh4, .ref wh5, .int (nI nw)])), (wh4, .inl (cI, 60, .inl (Q 13)))] (gT cI cZ cL)) (va_Qi (fun (zr : Int32) (_ : Unit) => zr = 2) (fun _ _ => True) gN) 1 6 gN := by
  refine gw_ofH (hh := [(0, 9, 12, 13), (0, 9, 15, 21)]) (cc := cL_smash) (maxL := 4) (ret := (some .int)) (by decide +kernel) rfl ?_
  intro p e s m args below meth c s₁ B hml hte hv
  obtain ⟨rfl, hP, hK, hX, hC⟩ := hv
  have hx := B.exec
  have hb := B.bytes
  have hr := B.returns
  have hts := atoms_spec (ws := wsL_smash) B.pre
  have hown : s.vm.findClass RL = some m.cls := findClass_of_methodNamed B.named
  have hlocks := B.notSynchronized
  have hS : va_S gN s.heap s.heap [] := va_S.rf
  have hP : va_P D vwCl [(gx, .inr (5, [.ref qu, .ref qt, .ref rf, .int co])), (qu, .inr (2, [.ref qf, .ref bd, .ref cr, .ref wh, .int (nI day)])), (wh, .inr (4, [.ref wh0, .ref wh1, .ref wh2, .ref wh3, .ref wh4, .ref wh5, .int (nI nw)])), (wh4, .inl (cI, 60, .inl (Q 13)))] s.heap := hP
  have hl := lv_entry ([.ref gx, .int (nI k), .ref ou]) (n := 4) (Nat.le_of_ble_eq_true rfl)
  rw [lg_entry_eq]
  generalize (lg_sl ([.ref gx, .int (nI k), .ref ou]) ++ List.replicate (4 - (lg_sl ([.ref gx, .int (nI k), .ref ou])).length) Slot.unset).toArray = ls at hl ⊢
  have hl : lv_has ls 4 [(0, .ref gx), (1, .int (nI k)), (2, .ref ou)] := hl
  refine lv_aload_n hx hb dL_smash_0 rfl (lv_at hl 2 rfl) ?_
  refine lv_iconst (v := 0) hx hb dL_smash_1 (by decide) ?_
  refine lv_aload_n hx hb dL_smash_2 rfl (lv_at hl 0 rfl) ?_
  refine lv_iload_n hx hb dL_smash_3 rfl (lv_at hl 1 rfl) ?_
  refine vx_calli (vx_runV (As := [.int (nI k)]) (rest := [.int 0, .ref ou]) ⟨hx, hb, hml, hown, hts⟩ (met_X5_smash_f2 l hfl D cI cZ cL gx qu qt rf qf bd cr wh wh0 wh1 wh2 wh3 wh4 wh5 co Q nw day k (by first | assumption | omega) (by first | assumption | omega) (by first | assumption | omega)) (cwV 1 hts gL_smash_X5_smash rfl rfl rfl (by decide +kernel) ⟨Nat.le_of_ble_eq_true rfl, Nat.le_of_ble_eq_true rfl⟩) (gw_pvx hK hP hX (wc := [(gx, .inr (5, [.ref qu, .ref qt, .ref rf, .int co])), (qu, .inr (2, [.ref qf, .ref bd, .ref cr, .ref wh, .int (nI day)])), (wh, .inr (4, [.ref wh0, .ref wh1, .ref wh2, .ref wh3, .ref wh4, .ref wh5, .int (nI nw)])), (wh4, .inl (cI, 60, .inl (Q 13)))]) [0, 1, 2, 3] rfl 5 rfl rfl rfl) rfl rfl hl.1 rfl (lv_room (Nat.le_of_ble_eq_true rfl)) dL_smash_4 ⟨Nat.le_of_ble_eq_true rfl, Nat.le_of_ble_eq_true rfl⟩) hS (fun _ _ z => z.elim) (fun _ z => z.elim) (fun _ _ z => z.elim) (fun E ce q9 u t H1 locs1 ht hvm hpx hBX hz hk hS hce hcv hcl => ?_) (fun r u t H1 locs1 ht hvm hpost hB hz hk hS => hpost.elim)
  subst hBX
  refine vx_catch (name := gE3) hown [⟨0, 9, 12, 13⟩] ⟨0, 9, 15, 21⟩ [] (by rw [hte]; rfl) (fun z hz => by cases List.mem_singleton.mp hz; exact Or.inr ⟨by decide, gE1, (hts _ wd_L_smash_f2_0), hC.2.2.1⟩) (by decide) (by decide) (hts _ wd_L_smash_f2_1) (va_Nw.use rfl (hC.1 gE3 (by simp))) hce hcv hcl ?_
  refine W.eq (g2 := F0 m 15 ls [.ref q9]) rfl ?_
  refine lv_astore_n (lv' := [(3, .ref q9), (0, .ref gx), (1, .int (nI k)), (2, .ref ou)]) hx hb dL_smash_15 rfl hl (by decide) rfl (fun ls hl => ?_)
  refine lv_iconst (v := 2) hx hb dL_smash_16 (by decide) ?_
  exact W.iret (v := 2) hx hb hr (fun t ht hW => ⟨⟨_, (), rfl, rfl, trivial⟩, hS.F ht⟩) hS.2.2 dL_smash_17

theorem wd_L_build_f1_0 : (.classLink RL 15 gE2 : Cond) ∈ wsL_build := by decide +kernel
set_option maxHeartbeats 4000000 in
set_option maxRecDepth 100000 in
theorem met_L_build_f1 (l : Launch) (hfl : l.stackTraces = false) (D : va_G) (cI cZ cL : ClassId) (gx : Nat) (qu : Nat) (qt : Nat) (rf : Nat) (co : Int32) (y : Int32) (ou : Nat) (hy : ¬ ((20 : Int32) ≤ y ∧ y ≤ 400)) : Met l yL_build wsL_build ({ frames := 7, cells := 1, slots := 6, locals := 111 }) (gPy [.ref gx, .int y, .ref ou] D [(gx, .inr (5, [.ref qu, .ref qt, .ref rf, .int co]))] (gT cI cZ cL)) (va_Qi (fun (zr : Int32) (_ : Unit) => zr = 1) (fun _ _ => True) gN) 1 6 gN := by
  refine gw_ofH (hh := [(0, 9, 12, 15), (0, 9, 15, 21)]) (cc := cL_build) (maxL := 4) (ret := (some .int)) (by decide +kernel) rfl ?_
  intro p e s m args below meth c s₁ B hml hte hv
  obtain ⟨rfl, hP, hK, hX, hC⟩ := hv
  have hx := B.exec
  have hb := B.bytes
  have hr := B.returns
  have hts := atoms_spec (ws := wsL_build) B.pre
  have hown : s.vm.findClass RL = some m.cls := findClass_of_methodNamed B.named
  have hlocks := B.notSynchronized
  have hS : va_S gN s.heap s.heap [] := va_S.rf
  have hP : va_P D vwCl [(gx, .inr (5, [.ref qu, .ref qt, .ref rf, .int co]))] s.heap := hP
  have hl := lv_entry ([.ref gx, .int y, .ref ou]) (n := 4) (Nat.le_of_ble_eq_true rfl)
  rw [lg_entry_eq]
  generalize (lg_sl ([.ref gx, .int y, .ref ou]) ++ List.replicate (4 - (lg_sl ([.ref gx, .int y, .ref ou])).length) Slot.unset).toArray = ls at hl ⊢
  have hl : lv_has ls 4 [(0, .ref gx), (1, .int y), (2, .ref ou)] := hl
  refine lv_aload_n hx hb dL_build_0 rfl (lv_at hl 2 rfl) ?_
  refine lv_iconst (v := 0) hx hb dL_build_1 (by decide) ?_
  refine lv_aload_n hx hb dL_build_2 rfl (lv_at hl 0 rfl) ?_
  refine lv_iload_n hx hb dL_build_3 rfl (lv_at hl 1 rfl) ?_
  refine vx_calli (vx_runV (As := [.int y]) (rest := [.int 0, .ref ou]) ⟨hx, hb, hml, hown, hts⟩ (met_X5_build_f1 l hfl D cI cZ cL gx qu qt rf co y (by first | assumption | omega)) (cwV 1 hts gL_build_X5_build rfl rfl rfl (by decide +kernel) ⟨Nat.le_of_ble_eq_true rfl, Nat.le_of_ble_eq_true rfl⟩) (gw_pvx hK hP hX (wc := [(gx, .inr (5, [.ref qu, .ref qt, .ref rf, .int co]))]) [0] rfl 5 rfl rfl rfl) rfl rfl hl.1 rfl (lv_room (Nat.le_of_ble_eq_true rfl)) dL_build_4 ⟨Nat.le_of_ble_eq_true rfl, Nat.le_of_ble_eq_true rfl⟩) hS (fun _ _ z => z.elim) (fun _ z => z.elim) (fun _ _ z => z.elim) (fun E ce q9 u t H1 locs1 ht hvm hpx hBX hz hk hS hce hcv hcl => ?_) (fun r u t H1 locs1 ht hvm hpost hB hz hk hS => hpost.elim)
  subst hBX
  refine vx_catch (name := gE2) hown [] ⟨0, 9, 12, 15⟩ [⟨0, 9, 15, 21⟩] (by rw [hte]; rfl) (fun z hz => absurd hz List.not_mem_nil) (by decide) (by decide) (hts _ wd_L_build_f1_0) (va_Nw.use rfl (hC.1 gE2 (by simp))) hce hcv hcl ?_
  refine W.eq (g2 := F0 m 12 ls [.ref q9]) rfl ?_
  refine lv_astore_n (lv' := [(3, .ref q9), (0, .ref gx), (1, .int y), (2, .ref ou)]) hx hb dL_build_12 rfl hl (by decide) rfl (fun ls hl => ?_)
  refine lv_iconst (v := 1) hx hb dL_build_13 (by decide) ?_
  exact W.iret (v := 1) hx hb hr (fun t ht hW => ⟨⟨_, (), rfl, rfl, trivial⟩, hS.F ht⟩) hS.2.2 dL_build_14

theorem wd_L_build_f2_0 : (.classLink RL 15 gE2 : Cond) ∈ wsL_build := by decide +kernel
theorem wd_L_build_f2_1 : (.classLink RL 21 gE3 : Cond) ∈ wsL_build := by decide +kernel
set_option maxHeartbeats 4000000 in
set_option maxRecDepth 100000 in
theorem met_L_build_f2 (l : Launch) (hfl : l.stackTraces = false) (D : va_G) (cI cZ cL : ClassId) (gx : Nat) (qu : Nat) (qt : Nat) (rf : Nat) (rf0 : Nat) (rf1 : Nat) (co : Int32) (nr : Nat) (y : Int32) (ou : Nat) (hy : 20 ≤ y ∧ y ≤ 400) (hnr : nr = 3) : Met l yL_build wsL_build ({ frames := 7, cells := 1, slots := 6, locals := 111 }) (gPy [.ref gx, .int y, .ref ou] D [(gx, .inr (5, [.ref qu, .ref qt, .ref rf, .int co])), (rf, .inr (3, [.ref rf0, .ref rf1, .int (nI nr)]))] (gT cI cZ cL)) (va_Qi (fun (zr : Int32) (_ : Unit) => zr = 2) (fun _ _ => True) gN) 1 6 gN := by
  refine gw_ofH (hh := [(0, 9, 12, 15), (0, 9, 15, 21)]) (cc := cL_build) (maxL := 4) (ret := (some .int)) (by decide +kernel) rfl ?_
  intro p e s m args below meth c s₁ B hml hte hv
  obtain ⟨rfl, hP, hK, hX, hC⟩ := hv
  have hx := B.exec
  have hb := B.bytes
  have hr := B.returns
  have hts := atoms_spec (ws := wsL_build) B.pre
  have hown : s.vm.findClass RL = some m.cls := findClass_of_methodNamed B.named
  have hlocks := B.notSynchronized
  have hS : va_S gN s.heap s.heap [] := va_S.rf
  have hP : va_P D vwCl [(gx, .inr (5, [.ref qu, .ref qt, .ref rf, .int co])), (rf, .inr (3, [.ref rf0, .ref rf1, .int (nI nr)]))] s.heap := hP
  have hl := lv_entry ([.ref gx, .int y, .ref ou]) (n := 4) (Nat.le_of_ble_eq_true rfl)
  rw [lg_entry_eq]
  generalize (lg_sl ([.ref gx, .int y, .ref ou]) ++ List.replicate (4 - (lg_sl ([.ref gx, .int y, .ref ou])).length) Slot.unset).toArray = ls at hl ⊢
  have hl : lv_has ls 4 [(0, .ref gx), (1, .int y), (2, .ref ou)] := hl
  refine lv_aload_n hx hb dL_build_0 rfl (lv_at hl 2 rfl) ?_
  refine lv_iconst (v := 0) hx hb dL_build_1 (by decide) ?_
  refine lv_aload_n hx hb dL_build_2 rfl (lv_at hl 0 rfl) ?_
  refine lv_iload_n hx hb dL_build_3 rfl (lv_at hl 1 rfl) ?_
  refine vx_calli (vx_runV (As := [.int y]) (rest := [.int 0, .ref ou]) ⟨hx, hb, hml, hown, hts⟩ (met_X5_build_f2 l hfl D cI cZ cL gx qu qt rf rf0 rf1 co nr y (by first | assumption | omega) (by first | assumption | omega)) (cwV 1 hts gL_build_X5_build rfl rfl rfl (by decide +kernel) ⟨Nat.le_of_ble_eq_true rfl, Nat.le_of_ble_eq_true rfl⟩) (gw_pvx hK hP hX (wc := [(gx, .inr (5, [.ref qu, .ref qt, .ref rf, .int co])), (rf, .inr (3, [.ref rf0, .ref rf1, .int (nI nr)]))]) [0, 1] rfl 5 rfl rfl rfl) rfl rfl hl.1 rfl (lv_room (Nat.le_of_ble_eq_true rfl)) dL_build_4 ⟨Nat.le_of_ble_eq_true rfl, Nat.le_of_ble_eq_true rfl⟩) hS (fun _ _ z => z.elim) (fun _ z => z.elim) (fun _ _ z => z.elim) (fun E ce q9 u t H1 locs1 ht hvm hpx hBX hz hk hS hce hcv hcl => ?_) (fun r u t H1 locs1 ht hvm hpost hB hz hk hS => hpost.elim)
  subst hBX
  refine vx_catch (name := gE3) hown [⟨0, 9, 12, 15⟩] ⟨0, 9, 15, 21⟩ [] (by rw [hte]; rfl) (fun z hz => by cases List.mem_singleton.mp hz; exact Or.inr ⟨by decide, gE2, (hts _ wd_L_build_f2_0), hC.2.2.2.1⟩) (by decide) (by decide) (hts _ wd_L_build_f2_1) (va_Nw.use rfl (hC.1 gE3 (by simp))) hce hcv hcl ?_
  refine W.eq (g2 := F0 m 15 ls [.ref q9]) rfl ?_
  refine lv_astore_n (lv' := [(3, .ref q9), (0, .ref gx), (1, .int y), (2, .ref ou)]) hx hb dL_build_15 rfl hl (by decide) rfl (fun ls hl => ?_)
  refine lv_iconst (v := 2) hx hb dL_build_16 (by decide) ?_
  exact W.iret (v := 2) hx hb hr (fun t ht hW => ⟨⟨_, (), rfl, rfl, trivial⟩, hS.F ht⟩) hS.2.2 dL_build_17

theorem wd_L_load_f1_0 : (.classLink RL 13 gE1 : Cond) ∈ wsL_load := by decide +kernel
set_option maxHeartbeats 4000000 in
set_option maxRecDepth 100000 in
theorem met_L_load_f1 (l : Launch) (hfl : l.stackTraces = false) (D : va_G) (cI cZ cL : ClassId) (gx : Nat) (qu : Nat) (qt : Nat) (rf : Nat) (qf : Nat) (bd : Nat) (cr : Nat) (wh : Nat) (wh0 : Nat) (wh1 : Nat) (wh2 : Nat) (wh3 : Nat) (wh4 : Nat) (wh5 : Nat) (rf0 : Nat) (rf1 : Nat) (co : Int32) (nw : Nat) (day : Nat) (nr : Nat) (x : Int32) (y : Int32) (ou : Nat) (hnw : nw ≤ 60) (hnr : nr ≤ 3) (hxy : ¬ ((∃ kk, kk < nw ∧ x = nI kk) ∧ ∃ kk, kk < nr ∧ y = nI kk)) : Met l yL_load wsL_load ({ frames := 7, cells := 1, slots := 6, locals := 112 }) (gPy [.ref gx, .int x, .int y, .ref ou] D [(gx, .inr (5, [.ref qu, .ref qt, .ref rf, .int co])), (qu, .inr (2, [.ref qf, .ref bd, .ref cr, .ref wh, .int (nI day)])), (wh, .inr (4, [.ref wh0, .ref wh1, .ref wh2, .ref wh3, .ref wh4, .ref wh5, .int (nI nw)])), (rf, .inr (3, [.ref rf0, .ref rf1, .int (nI nr)]))] (gT cI cZ cL)) (va_Qi (fun (zr : Int32) (_ : Unit) => zr = 1) (fun _ _ => True) gN) 1 6 gN := by
  refine gw_ofH (hh := [(0, 10, 13, 13), (0, 10, 17, 21)]) (cc := cL_load) (maxL := 5) (ret := (some .int)) (by decide +kernel) rfl ?_
  intro p e s m args below meth c s₁ B hml hte hv
  obtain ⟨rfl, hP, hK, hX, hC⟩ := hv
  have hx := B.exec
  have hb := B.bytes
  have hr := B.returns
  have hts := atoms_spec (ws := wsL_load) B.pre
  have hown : s.vm.findClass RL = some m.cls := findClass_of_methodNamed B.named
  have hlocks := B.notSynchronized
  have hS : va_S gN s.heap s.heap [] := va_S.rf
  have hP : va_P D vwCl [(gx, .inr (5, [.ref qu, .ref qt, .ref rf, .int co])), (qu, .inr (2, [.ref qf, .ref bd, .ref cr, .ref wh, .int (nI day)])), (wh, .inr (4, [.ref wh0, .ref wh1, .ref wh2, .ref wh3, .ref wh4, .ref wh5, .int (nI nw)])), (rf, .inr (3, [.ref rf0, .ref rf1, .int (nI nr)]))] s.heap := hP
  have hl := lv_entry ([.ref gx, .int x, .int y, .ref ou]) (n := 5) (Nat.le_of_ble_eq_true rfl)
  rw [lg_entry_eq]
  generalize (lg_sl ([.ref gx, .int x, .int y, .ref ou]) ++ List.replicate (5 - (lg_sl ([.ref gx, .int x, .int y, .ref ou])).length) Slot.unset).toArray = ls at hl ⊢
  have hl : lv_has ls 5 [(0, .ref gx), (1, .int x), (2, .int y), (3, .ref ou)] := hl
  refine lv_aload_n hx hb dL_load_0 rfl (lv_at hl 3 rfl) ?_
  refine lv_iconst (v := 0) hx hb dL_load_1 (by decide) ?_
  refine lv_aload_n hx hb dL_load_2 rfl (lv_at hl 0 rfl) ?_
  refine lv_iload_n hx hb dL_load_3 rfl (lv_at hl 1 rfl) ?_
  refine lv_iload_n hx hb dL_load_4 rfl (lv_at hl 2 rfl) ?_
  refine vx_calli (vx_runV (As := [.int x, .int y]) (rest := [.int 0, .ref ou]) ⟨hx, hb, hml, hown, hts⟩ (met_X5_load_f1 l hfl D cI cZ cL gx qu qt rf qf bd cr wh wh0 wh1 wh2 wh3 wh4 wh5 rf0 rf1 co nw day nr x y (by first | assumption | omega) (by first | assumption | omega) (by first | assumption | omega)) (cwV 2 hts gL_load_X5_load rfl rfl rfl (by decide +kernel) ⟨Nat.le_of_ble_eq_true rfl, Nat.le_of_ble_eq_true rfl⟩) (gw_pvx hK hP hX (wc := [(gx, .inr (5, [.ref qu, .ref qt, .ref rf, .int co])), (qu, .inr (2, [.ref qf, .ref bd, .ref cr, .ref wh, .int (nI day)])), (wh, .inr (4, [.ref wh0, .ref wh1, .ref wh2, .ref wh3, .ref wh4, .ref wh5, .int (nI nw)])), (rf, .inr (3, [.ref rf0, .ref rf1, .int (nI nr)]))]) [0, 1, 2, 3] rfl 5 rfl rfl rfl) rfl rfl hl.1 rfl (lv_room (Nat.le_of_ble_eq_true rfl)) dL_load_5 ⟨Nat.le_of_ble_eq_true rfl, Nat.le_of_ble_eq_true rfl⟩) hS (fun _ _ z => z.elim) (fun _ z => z.elim) (fun _ _ z => z.elim) (fun E ce q9 u t H1 locs1 ht hvm hpx hBX hz hk hS hce hcv hcl => ?_) (fun r u t H1 locs1 ht hvm hpost hB hz hk hS => hpost.elim)
  subst hBX
  refine vx_catch (name := gE1) hown [] ⟨0, 10, 13, 13⟩ [⟨0, 10, 17, 21⟩] (by rw [hte]; rfl) (fun z hz => absurd hz List.not_mem_nil) (by decide) (by decide) (hts _ wd_L_load_f1_0) (va_Nw.use rfl (hC.1 gE1 (by simp))) hce hcv hcl ?_
  refine W.eq (g2 := F0 m 13 ls [.ref q9]) rfl ?_
  refine lv_astore (lv' := [(4, .ref q9), (0, .ref gx), (1, .int x), (2, .int y), (3, .ref ou)]) hx hb dL_load_13 hl (by decide) rfl (fun ls hl => ?_)
  refine lv_iconst (v := 1) hx hb dL_load_15 (by decide) ?_
  exact W.iret (v := 1) hx hb hr (fun t ht hW => ⟨⟨_, (), rfl, rfl, trivial⟩, hS.F ht⟩) hS.2.2 dL_load_16

theorem wd_L_load_f2_0 : (.classLink RL 13 gE1 : Cond) ∈ wsL_load := by decide +kernel
theorem wd_L_load_f2_1 : (.classLink RL 21 gE3 : Cond) ∈ wsL_load := by decide +kernel
set_option maxHeartbeats 4000000 in
set_option maxRecDepth 100000 in
theorem met_L_load_f2 (l : Launch) (hfl : l.stackTraces = false) (D : va_G) (cI cZ cL : ClassId) (gx : Nat) (qu : Nat) (qt : Nat) (rf : Nat) (qf : Nat) (bd : Nat) (cr : Nat) (wh : Nat) (wh0 : Nat) (wh1 : Nat) (wh2 : Nat) (wh3 : Nat) (wh4 : Nat) (wh5 : Nat) (rf0 : Nat) (rf1 : Nat) (co : Int32) (Q : Nat → Nat → Int32) (nw : Nat) (day : Nat) (nr : Nat) (ca : Nat → Int32) (bo : Nat → Int32) (k : Nat) (r : Nat) (ou : Nat) (hk : k < nw) (hr2 : r < nr) (hnw : nw ≤ 60) (hnr : nr ≤ 3) (hno : ¬ (Q 13 k = 1 ∧ (¬ nI day < bo r) ∧ 2 * Q 11 k * Q 11 k ≤ gStill Q nw ca r)) : Met l yL_load wsL_load ({ frames := 7, cells := 1, slots := 6, locals := 112 }) (gPy [.ref gx, .int (nI k), .int (nI r), .ref ou] D [(gx, .inr (5, [.ref qu, .ref qt, .ref rf, .int co])), (qu, .inr (2, [.ref qf, .ref bd, .ref cr, .ref wh, .int (nI day)])), (wh, .inr (4, [.ref wh0, .ref wh1, .ref wh2, .ref wh3, .ref wh4, .ref wh5, .int (nI nw)])), (wh2, .inl (cI, 60, .inl (Q 11))), (wh4, .inl (cI, 60, .inl (Q 13))), (wh5, .inl (cI, 60, .inl (Q 14))), (rf, .inr (3, [.ref rf0, .ref rf1, .int (nI nr)])), (rf0, .inl (cI, 3, .inl ca)), (rf1, .inl (cI, 3, .inl bo))] (gT cI cZ cL)) (va_Qi (fun (zr : Int32) (_ : Unit) => zr = 2) (fun _ _ => True) gN) 1 6 gN := by
  refine gw_ofH (hh := [(0, 10, 13, 13), (0, 10, 17, 21)]) (cc := cL_load) (maxL := 5) (ret := (some .int)) (by decide +kernel) rfl ?_
  intro p e s m args below meth c s₁ B hml hte hv
  obtain ⟨rfl, hP, hK, hX, hC⟩ := hv
  have hx := B.exec
  have hb := B.bytes
  have hr := B.returns
  have hts := atoms_spec (ws := wsL_load) B.pre
  have hown : s.vm.findClass RL = some m.cls := findClass_of_methodNamed B.named
  have hlocks := B.notSynchronized
  have hS : va_S gN s.heap s.heap [] := va_S.rf
  have hP : va_P D vwCl [(gx, .inr (5, [.ref qu, .ref qt, .ref rf, .int co])), (qu, .inr (2, [.ref qf, .ref bd, .ref cr, .ref wh, .int (nI day)])), (wh, .inr (4, [.ref wh0, .ref wh1, .ref wh2, .ref wh3, .ref wh4, .ref wh5, .int (nI nw)])), (wh2, .inl (cI, 60, .inl (Q 11))), (wh4, .inl (cI, 60, .inl (Q 13))), (wh5, .inl (cI, 60, .inl (Q 14))), (rf, .inr (3, [.ref rf0, .ref rf1, .int (nI nr)])), (rf0, .inl (cI, 3, .inl ca)), (rf1, .inl (cI, 3, .inl bo))] s.heap := hP
  have hl := lv_entry ([.ref gx, .int (nI k), .int (nI r), .ref ou]) (n := 5) (Nat.le_of_ble_eq_true rfl)
  rw [lg_entry_eq]
  generalize (lg_sl ([.ref gx, .int (nI k), .int (nI r), .ref ou]) ++ List.replicate (5 - (lg_sl ([.ref gx, .int (nI k), .int (nI r), .ref ou])).length) Slot.unset).toArray = ls at hl ⊢
  have hl : lv_has ls 5 [(0, .ref gx), (1, .int (nI k)), (2, .int (nI r)), (3, .ref ou)] := hl
  refine lv_aload_n hx hb dL_load_0 rfl (lv_at hl 3 rfl) ?_
  refine lv_iconst (v := 0) hx hb dL_load_1 (by decide) ?_
  refine lv_aload_n hx hb dL_load_2 rfl (lv_at hl 0 rfl) ?_
  refine lv_iload_n hx hb dL_load_3 rfl (lv_at hl 1 rfl) ?_
  refine lv_iload_n hx hb dL_load_4 rfl (lv_at hl 2 rfl) ?_
  refine vx_calli (vx_runV (As := [.int (nI k), .int (nI r)]) (rest := [.int 0, .ref ou]) ⟨hx, hb, hml, hown, hts⟩ (met_X5_load_f2 l hfl D cI cZ cL gx qu qt rf qf bd cr wh wh0 wh1 wh2 wh3 wh4 wh5 rf0 rf1 co Q nw day nr ca bo k r (by first | assumption | omega) (by first | assumption | omega) (by first | assumption | omega) (by first | assumption | omega) (by first | assumption | omega)) (cwV 2 hts gL_load_X5_load rfl rfl rfl (by decide +kernel) ⟨Nat.le_of_ble_eq_true rfl, Nat.le_of_ble_eq_true rfl⟩) (gw_pvx hK hP hX (wc := [(gx, .inr (5, [.ref qu, .ref qt, .ref rf, .int co])), (qu, .inr (2, [.ref qf, .ref bd, .ref cr, .ref wh, .int (nI day)])), (wh, .inr (4, [.ref wh0, .ref wh1, .ref wh2, .ref wh3, .ref wh4, .ref wh5, .int (nI nw)])), (wh2, .inl (cI, 60, .inl (Q 11))), (wh4, .inl (cI, 60, .inl (Q 13))), (wh5, .inl (cI, 60, .inl (Q 14))), (rf, .inr (3, [.ref rf0, .ref rf1, .int (nI nr)])), (rf0, .inl (cI, 3, .inl ca)), (rf1, .inl (cI, 3, .inl bo))]) [0, 1, 2, 3, 4, 5, 6, 7, 8] rfl 5 rfl rfl rfl) rfl rfl hl.1 rfl (lv_room (Nat.le_of_ble_eq_true rfl)) dL_load_5 ⟨Nat.le_of_ble_eq_true rfl, Nat.le_of_ble_eq_true rfl⟩) hS (fun _ _ z => z.elim) (fun _ z => z.elim) (fun _ _ z => z.elim) (fun E ce q9 u t H1 locs1 ht hvm hpx hBX hz hk hS hce hcv hcl => ?_) (fun r u t H1 locs1 ht hvm hpost hB hz hk hS => hpost.elim)
  subst hBX
  refine vx_catch (name := gE3) hown [⟨0, 10, 13, 13⟩] ⟨0, 10, 17, 21⟩ [] (by rw [hte]; rfl) (fun z hz => by cases List.mem_singleton.mp hz; exact Or.inr ⟨by decide, gE1, (hts _ wd_L_load_f2_0), hC.2.2.1⟩) (by decide) (by decide) (hts _ wd_L_load_f2_1) (va_Nw.use rfl (hC.1 gE3 (by simp))) hce hcv hcl ?_
  refine W.eq (g2 := F0 m 17 ls [.ref q9]) rfl ?_
  refine lv_astore (lv' := [(4, .ref q9), (0, .ref gx), (1, .int (nI k)), (2, .int (nI r)), (3, .ref ou)]) hx hb dL_load_17 hl (by decide) rfl (fun ls hl => ?_)
  refine lv_iconst (v := 2) hx hb dL_load_19 (by decide) ?_
  exact W.iret (v := 2) hx hb hr (fun t ht hW => ⟨⟨_, (), rfl, rfl, trivial⟩, hS.F ht⟩) hS.2.2 dL_load_20

theorem wd_L_ship_f1_0 : (.classLink RL 13 gE1 : Cond) ∈ wsL_ship := by decide +kernel
set_option maxHeartbeats 4000000 in
set_option maxRecDepth 100000 in
theorem met_L_ship_f1 (l : Launch) (hfl : l.stackTraces = false) (D : va_G) (cI cZ cL : ClassId) (gx : Nat) (qu : Nat) (qt : Nat) (rf : Nat) (rf0 : Nat) (rf1 : Nat) (co : Int32) (nr : Nat) (x : Int32) (ou : Nat) (hnr : nr ≤ 3) (hx1 : ¬ ∃ kk, kk < nr ∧ x = nI kk) : Met l yL_ship wsL_ship ({ frames := 7, cells := 1, slots := 6, locals := 112 }) (gPy [.ref gx, .int x, .ref ou] D [(gx, .inr (5, [.ref qu, .ref qt, .ref rf, .int co])), (rf, .inr (3, [.ref rf0, .ref rf1, .int (nI nr)]))] (gT cI cZ cL)) (va_Qi (fun (zr : Int32) (_ : Unit) => zr = 1) (fun _ _ => True) gN) 1 6 gN := by
  refine gw_ofH (hh := [(0, 9, 12, 13), (0, 9, 15, 21)]) (cc := cL_ship) (maxL := 4) (ret := (some .int)) (by decide +kernel) rfl ?_
  intro p e s m args below meth c s₁ B hml hte hv
  obtain ⟨rfl, hP, hK, hX, hC⟩ := hv
  have hx := B.exec
  have hb := B.bytes
  have hr := B.returns
  have hts := atoms_spec (ws := wsL_ship) B.pre
  have hown : s.vm.findClass RL = some m.cls := findClass_of_methodNamed B.named
  have hlocks := B.notSynchronized
  have hS : va_S gN s.heap s.heap [] := va_S.rf
  have hP : va_P D vwCl [(gx, .inr (5, [.ref qu, .ref qt, .ref rf, .int co])), (rf, .inr (3, [.ref rf0, .ref rf1, .int (nI nr)]))] s.heap := hP
  have hl := lv_entry ([.ref gx, .int x, .ref ou]) (n := 4) (Nat.le_of_ble_eq_true rfl)
  rw [lg_entry_eq]
  generalize (lg_sl ([.ref gx, .int x, .ref ou]) ++ List.replicate (4 - (lg_sl ([.ref gx, .int x, .ref ou])).length) Slot.unset).toArray = ls at hl ⊢
  have hl : lv_has ls 4 [(0, .ref gx), (1, .int x), (2, .ref ou)] := hl
  refine lv_aload_n hx hb dL_ship_0 rfl (lv_at hl 2 rfl) ?_
  refine lv_iconst (v := 0) hx hb dL_ship_1 (by decide) ?_
  refine lv_aload_n hx hb dL_ship_2 rfl (lv_at hl 0 rfl) ?_
  refine lv_iload_n hx hb dL_ship_3 rfl (lv_at hl 1 rfl) ?_
  refine vx_calli (vx_runV (As := [.int x]) (rest := [.int 0, .ref ou]) ⟨hx, hb, hml, hown, hts⟩ (met_X5_ship_f1 l hfl D cI cZ cL gx qu qt rf rf0 rf1 co nr x (by first | assumption | omega) (by first | assumption | omega)) (cwV 1 hts gL_ship_X5_ship rfl rfl rfl (by decide +kernel) ⟨Nat.le_of_ble_eq_true rfl, Nat.le_of_ble_eq_true rfl⟩) (gw_pvx hK hP hX (wc := [(gx, .inr (5, [.ref qu, .ref qt, .ref rf, .int co])), (rf, .inr (3, [.ref rf0, .ref rf1, .int (nI nr)]))]) [0, 1] rfl 5 rfl rfl rfl) rfl rfl hl.1 rfl (lv_room (Nat.le_of_ble_eq_true rfl)) dL_ship_4 ⟨Nat.le_of_ble_eq_true rfl, Nat.le_of_ble_eq_true rfl⟩) hS (fun _ _ z => z.elim) (fun _ z => z.elim) (fun _ _ z => z.elim) (fun E ce q9 u t H1 locs1 ht hvm hpx hBX hz hk hS hce hcv hcl => ?_) (fun r u t H1 locs1 ht hvm hpost hB hz hk hS => hpost.elim)
  subst hBX
  refine vx_catch (name := gE1) hown [] ⟨0, 9, 12, 13⟩ [⟨0, 9, 15, 21⟩] (by rw [hte]; rfl) (fun z hz => absurd hz List.not_mem_nil) (by decide) (by decide) (hts _ wd_L_ship_f1_0) (va_Nw.use rfl (hC.1 gE1 (by simp))) hce hcv hcl ?_
  refine W.eq (g2 := F0 m 12 ls [.ref q9]) rfl ?_
  refine lv_astore_n (lv' := [(3, .ref q9), (0, .ref gx), (1, .int x), (2, .ref ou)]) hx hb dL_ship_12 rfl hl (by decide) rfl (fun ls hl => ?_)
  refine lv_iconst (v := 1) hx hb dL_ship_13 (by decide) ?_
  exact W.iret (v := 1) hx hb hr (fun t ht hW => ⟨⟨_, (), rfl, rfl, trivial⟩, hS.F ht⟩) hS.2.2 dL_ship_14

theorem wd_L_ship_f2_0 : (.classLink RL 13 gE1 : Cond) ∈ wsL_ship := by decide +kernel
theorem wd_L_ship_f2_1 : (.classLink RL 21 gE3 : Cond) ∈ wsL_ship := by decide +kernel
set_option maxHeartbeats 4000000 in
set_option maxRecDepth 100000 in
theorem met_L_ship_f2 (l : Launch) (hfl : l.stackTraces = false) (D : va_G) (cI cZ cL : ClassId) (gx : Nat) (qu : Nat) (qt : Nat) (rf : Nat) (qf : Nat) (bd : Nat) (cr : Nat) (wh : Nat) (wh0 : Nat) (wh1 : Nat) (wh2 : Nat) (wh3 : Nat) (wh4 : Nat) (wh5 : Nat) (rf0 : Nat) (rf1 : Nat) (co : Int32) (Q : Nat → Nat → Int32) (nw : Nat) (day : Nat) (nr : Nat) (bo : Nat → Int32) (r : Nat) (ou : Nat) (hr2 : r < nr) (hnr : nr ≤ 3) (hnw : nw ≤ 60) (hd : day < 2 ^ 31) (hno : ¬ ((¬ nI day < bo r) ∧ ¬ gOn Q nw r = 0 ∧ 2 ≤ Q 0 (day % 9))) : Met l yL_ship wsL_ship ({ frames := 7, cells := 1, slots := 6, locals := 112 }) (gPy [.ref gx, .int (nI r), .ref ou] D [(gx, .inr (5, [.ref qu, .ref qt, .ref rf, .int co])), (qu, .inr (2, [.ref qf, .ref bd, .ref cr, .ref wh, .int (nI day)])), (qf, .inl (cI, 9, .inl (Q 0))), (wh, .inr (4, [.ref wh0, .ref wh1, .ref wh2, .ref wh3, .ref wh4, .ref wh5, .int (nI nw)])), (wh5, .inl (cI, 60, .inl (Q 14))), (rf, .inr (3, [.ref rf0, .ref rf1, .int (nI nr)])), (rf1, .inl (cI, 3, .inl bo))] (gT cI cZ cL)) (va_Qi (fun (zr : Int32) (_ : Unit) => zr = 2) (fun _ _ => True) gN) 1 6 gN := by
  refine gw_ofH (hh := [(0, 9, 12, 13), (0, 9, 15, 21)]) (cc := cL_ship) (maxL := 4) (ret := (some .int)) (by decide +kernel) rfl ?_
  intro p e s m args below meth c s₁ B hml hte hv
  obtain ⟨rfl, hP, hK, hX, hC⟩ := hv
  have hx := B.exec
  have hb := B.bytes
  have hr := B.returns
  have hts := atoms_spec (ws := wsL_ship) B.pre
  have hown : s.vm.findClass RL = some m.cls := findClass_of_methodNamed B.named
  have hlocks := B.notSynchronized
  have hS : va_S gN s.heap s.heap [] := va_S.rf
  have hP : va_P D vwCl [(gx, .inr (5, [.ref qu, .ref qt, .ref rf, .int co])), (qu, .inr (2, [.ref qf, .ref bd, .ref cr, .ref wh, .int (nI day)])), (qf, .inl (cI, 9, .inl (Q 0))), (wh, .inr (4, [.ref wh0, .ref wh1, .ref wh2, .ref wh3, .ref wh4, .ref wh5, .int (nI nw)])), (wh5, .inl (cI, 60, .inl (Q 14))), (rf, .inr (3, [.ref rf0, .ref rf1, .int (nI nr)])), (rf1, .inl (cI, 3, .inl bo))] s.heap := hP
  have hl := lv_entry ([.ref gx, .int (nI r), .ref ou]) (n := 4) (Nat.le_of_ble_eq_true rfl)
  rw [lg_entry_eq]
  generalize (lg_sl ([.ref gx, .int (nI r), .ref ou]) ++ List.replicate (4 - (lg_sl ([.ref gx, .int (nI r), .ref ou])).length) Slot.unset).toArray = ls at hl ⊢
  have hl : lv_has ls 4 [(0, .ref gx), (1, .int (nI r)), (2, .ref ou)] := hl
  refine lv_aload_n hx hb dL_ship_0 rfl (lv_at hl 2 rfl) ?_
  refine lv_iconst (v := 0) hx hb dL_ship_1 (by decide) ?_
  refine lv_aload_n hx hb dL_ship_2 rfl (lv_at hl 0 rfl) ?_
  refine lv_iload_n hx hb dL_ship_3 rfl (lv_at hl 1 rfl) ?_
  refine vx_calli (vx_runV (As := [.int (nI r)]) (rest := [.int 0, .ref ou]) ⟨hx, hb, hml, hown, hts⟩ (met_X5_ship_f2 l hfl D cI cZ cL gx qu qt rf qf bd cr wh wh0 wh1 wh2 wh3 wh4 wh5 rf0 rf1 co Q nw day nr bo r (by first | assumption | omega) (by first | assumption | omega) (by first | assumption | omega) (by first | assumption | omega) (by first | assumption | omega)) (cwV 1 hts gL_ship_X5_ship rfl rfl rfl (by decide +kernel) ⟨Nat.le_of_ble_eq_true rfl, Nat.le_of_ble_eq_true rfl⟩) (gw_pvx hK hP hX (wc := [(gx, .inr (5, [.ref qu, .ref qt, .ref rf, .int co])), (qu, .inr (2, [.ref qf, .ref bd, .ref cr, .ref wh, .int (nI day)])), (qf, .inl (cI, 9, .inl (Q 0))), (wh, .inr (4, [.ref wh0, .ref wh1, .ref wh2, .ref wh3, .ref wh4, .ref wh5, .int (nI nw)])), (wh5, .inl (cI, 60, .inl (Q 14))), (rf, .inr (3, [.ref rf0, .ref rf1, .int (nI nr)])), (rf1, .inl (cI, 3, .inl bo))]) [0, 1, 2, 3, 4, 5, 6] rfl 5 rfl rfl rfl) rfl rfl hl.1 rfl (lv_room (Nat.le_of_ble_eq_true rfl)) dL_ship_4 ⟨Nat.le_of_ble_eq_true rfl, Nat.le_of_ble_eq_true rfl⟩) hS (fun _ _ z => z.elim) (fun _ z => z.elim) (fun _ _ z => z.elim) (fun E ce q9 u t H1 locs1 ht hvm hpx hBX hz hk hS hce hcv hcl => ?_) (fun r u t H1 locs1 ht hvm hpost hB hz hk hS => hpost.elim)
  subst hBX
  refine vx_catch (name := gE3) hown [⟨0, 9, 12, 13⟩] ⟨0, 9, 15, 21⟩ [] (by rw [hte]; rfl) (fun z hz => by cases List.mem_singleton.mp hz; exact Or.inr ⟨by decide, gE1, (hts _ wd_L_ship_f2_0), hC.2.2.1⟩) (by decide) (by decide) (hts _ wd_L_ship_f2_1) (va_Nw.use rfl (hC.1 gE3 (by simp))) hce hcv hcl ?_
  refine W.eq (g2 := F0 m 15 ls [.ref q9]) rfl ?_
  refine lv_astore_n (lv' := [(3, .ref q9), (0, .ref gx), (1, .int (nI r)), (2, .ref ou)]) hx hb dL_ship_15 rfl hl (by decide) rfl (fun ls hl => ?_)
  refine lv_iconst (v := 2) hx hb dL_ship_16 (by decide) ?_
  exact W.iret (v := 2) hx hb hr (fun t ht hW => ⟨⟨_, (), rfl, rfl, trivial⟩, hS.F ht⟩) hS.2.2 dL_ship_17

theorem wd_L_bed_f1_0 : (.classLink RL 13 gE1 : Cond) ∈ wsL_bed := by decide +kernel
set_option maxHeartbeats 4000000 in
set_option maxRecDepth 100000 in
theorem met_L_bed_f1 (l : Launch) (hfl : l.stackTraces = false) (D : va_G) (cI cZ cL : ClassId) (gx : Nat) (qu : Nat) (qt : Nat) (rf : Nat) (qf : Nat) (bd : Nat) (cr : Nat) (wh : Nat) (bd0 : Nat) (bd1 : Nat) (bd2 : Nat) (bd3 : Nat) (co : Int32) (nb : Nat) (day : Nat) (x : Int32) (y : Int32) (ou : Nat) (hnb : nb ≤ 5) (hxy : ¬ ((∃ kk, kk < nb ∧ x = nI kk) ∧ ((0 : Int32) ≤ y ∧ y ≤ 5))) : Met l yL_bed wsL_bed ({ frames := 7, cells := 1, slots := 6, locals := 112 }) (gPy [.ref gx, .int x, .int y, .ref ou] D [(gx, .inr (5, [.ref qu, .ref qt, .ref rf, .int co])), (qu, .inr (2, [.ref qf, .ref bd, .ref cr, .ref wh, .int (nI day)])), (bd, .inr (0, [.ref bd0, .ref bd1, .ref bd2, .ref bd3, .int (nI nb)]))] (gT cI cZ cL)) (va_Qi (fun (zr : Int32) (_ : Unit) => zr = 1) (fun _ _ => True) gN) 1 6 gN := by
  refine gw_ofH (hh := [(0, 10, 13, 13)]) (cc := cL_bed) (maxL := 5) (ret := (some .int)) (by decide +kernel) rfl ?_
  intro p e s m args below meth c s₁ B hml hte hv
  obtain ⟨rfl, hP, hK, hX, hC⟩ := hv
  have hx := B.exec
  have hb := B.bytes
  have hr := B.returns
  have hts := atoms_spec (ws := wsL_bed) B.pre
  have hown : s.vm.findClass RL = some m.cls := findClass_of_methodNamed B.named
  have hlocks := B.notSynchronized
  have hS : va_S gN s.heap s.heap [] := va_S.rf
  have hP : va_P D vwCl [(gx, .inr (5, [.ref qu, .ref qt, .ref rf, .int co])), (qu, .inr (2, [.ref qf, .ref bd, .ref cr, .ref wh, .int (nI day)])), (bd, .inr (0, [.ref bd0, .ref bd1, .ref bd2, .ref bd3, .int (nI nb)]))] s.heap := hP
  have hl := lv_entry ([.ref gx, .int x, .int y, .ref ou]) (n := 5) (Nat.le_of_ble_eq_true rfl)
  rw [lg_entry_eq]
  generalize (lg_sl ([.ref gx, .int x, .int y, .ref ou]) ++ List.replicate (5 - (lg_sl ([.ref gx, .int x, .int y, .ref ou])).length) Slot.unset).toArray = ls at hl ⊢
  have hl : lv_has ls 5 [(0, .ref gx), (1, .int x), (2, .int y), (3, .ref ou)] := hl
  refine lv_aload_n hx hb dL_bed_0 rfl (lv_at hl 3 rfl) ?_
  refine lv_iconst (v := 0) hx hb dL_bed_1 (by decide) ?_
  refine lv_aload_n hx hb dL_bed_2 rfl (lv_at hl 0 rfl) ?_
  refine lv_iload_n hx hb dL_bed_3 rfl (lv_at hl 1 rfl) ?_
  refine lv_iload_n hx hb dL_bed_4 rfl (lv_at hl 2 rfl) ?_
  refine vx_calli (vx_runV (As := [.int x, .int y]) (rest := [.int 0, .ref ou]) ⟨hx, hb, hml, hown, hts⟩ (met_X5_bed_f1 l hfl D cI cZ cL gx qu qt rf qf bd cr wh bd0 bd1 bd2 bd3 co nb day x y (by first | assumption | omega) (by first | assumption | omega)) (cwV 2 hts gL_bed_X5_bed rfl rfl rfl (by decide +kernel) ⟨Nat.le_of_ble_eq_true rfl, Nat.le_of_ble_eq_true rfl⟩) (gw_pvx hK hP hX (wc := [(gx, .inr (5, [.ref qu, .ref qt, .ref rf, .int co])), (qu, .inr (2, [.ref qf, .ref bd, .ref cr, .ref wh, .int (nI day)])), (bd, .inr (0, [.ref bd0, .ref bd1, .ref bd2, .ref bd3, .int (nI nb)]))]) [0, 1, 2] rfl 5 rfl rfl rfl) rfl rfl hl.1 rfl (lv_room (Nat.le_of_ble_eq_true rfl)) dL_bed_5 ⟨Nat.le_of_ble_eq_true rfl, Nat.le_of_ble_eq_true rfl⟩) hS (fun _ _ z => z.elim) (fun _ z => z.elim) (fun _ _ z => z.elim) (fun E ce q9 u t H1 locs1 ht hvm hpx hBX hz hk hS hce hcv hcl => ?_) (fun r u t H1 locs1 ht hvm hpost hB hz hk hS => hpost.elim)
  subst hBX
  refine vx_catch (name := gE1) hown [] ⟨0, 10, 13, 13⟩ [] (by rw [hte]; rfl) (fun z hz => absurd hz List.not_mem_nil) (by decide) (by decide) (hts _ wd_L_bed_f1_0) (va_Nw.use rfl (hC.1 gE1 (by simp))) hce hcv hcl ?_
  refine W.eq (g2 := F0 m 13 ls [.ref q9]) rfl ?_
  refine lv_astore (lv' := [(4, .ref q9), (0, .ref gx), (1, .int x), (2, .int y), (3, .ref ou)]) hx hb dL_bed_13 hl (by decide) rfl (fun ls hl => ?_)
  refine lv_iconst (v := 1) hx hb dL_bed_15 (by decide) ?_
  exact W.iret (v := 1) hx hb hr (fun t ht hW => ⟨⟨_, (), rfl, rfl, trivial⟩, hS.F ht⟩) hS.2.2 dL_bed_16

theorem wd_L_quarrier_f1_0 : (.classLink RL 13 gE1 : Cond) ∈ wsL_quarrier := by decide +kernel
set_option maxHeartbeats 4000000 in
set_option maxRecDepth 100000 in
theorem met_L_quarrier_f1 (l : Launch) (hfl : l.stackTraces = false) (D : va_G) (cI cZ cL : ClassId) (gx : Nat) (qu : Nat) (qt : Nat) (rf : Nat) (qf : Nat) (bd : Nat) (cr : Nat) (wh : Nat) (cr0 : Nat) (cr1 : Nat) (cr2 : Nat) (cr3 : Nat) (co : Int32) (nq : Nat) (day : Nat) (x : Int32) (y : Int32) (ou : Nat) (hnq : nq ≤ 6) (hxy : ¬ ((∃ kk, kk < nq ∧ x = nI kk) ∧ ((0 : Int32) ≤ y ∧ y ≤ 4))) : Met l yL_quarrier wsL_quarrier ({ frames := 7, cells := 1, slots := 6, locals := 112 }) (gPy [.ref gx, .int x, .int y, .ref ou] D [(gx, .inr (5, [.ref qu, .ref qt, .ref rf, .int co])), (qu, .inr (2, [.ref qf, .ref bd, .ref cr, .ref wh, .int (nI day)])), (cr, .inr (1, [.ref cr0, .ref cr1, .ref cr2, .ref cr3, .int (nI nq)]))] (gT cI cZ cL)) (va_Qi (fun (zr : Int32) (_ : Unit) => zr = 1) (fun _ _ => True) gN) 1 6 gN := by
  refine gw_ofH (hh := [(0, 10, 13, 13)]) (cc := cL_quarrier) (maxL := 5) (ret := (some .int)) (by decide +kernel) rfl ?_
  intro p e s m args below meth c s₁ B hml hte hv
  obtain ⟨rfl, hP, hK, hX, hC⟩ := hv
  have hx := B.exec
  have hb := B.bytes
  have hr := B.returns
  have hts := atoms_spec (ws := wsL_quarrier) B.pre
  have hown : s.vm.findClass RL = some m.cls := findClass_of_methodNamed B.named
  have hlocks := B.notSynchronized
  have hS : va_S gN s.heap s.heap [] := va_S.rf
  have hP : va_P D vwCl [(gx, .inr (5, [.ref qu, .ref qt, .ref rf, .int co])), (qu, .inr (2, [.ref qf, .ref bd, .ref cr, .ref wh, .int (nI day)])), (cr, .inr (1, [.ref cr0, .ref cr1, .ref cr2, .ref cr3, .int (nI nq)]))] s.heap := hP
  have hl := lv_entry ([.ref gx, .int x, .int y, .ref ou]) (n := 5) (Nat.le_of_ble_eq_true rfl)
  rw [lg_entry_eq]
  generalize (lg_sl ([.ref gx, .int x, .int y, .ref ou]) ++ List.replicate (5 - (lg_sl ([.ref gx, .int x, .int y, .ref ou])).length) Slot.unset).toArray = ls at hl ⊢
  have hl : lv_has ls 5 [(0, .ref gx), (1, .int x), (2, .int y), (3, .ref ou)] := hl
  refine lv_aload_n hx hb dL_quarrier_0 rfl (lv_at hl 3 rfl) ?_
  refine lv_iconst (v := 0) hx hb dL_quarrier_1 (by decide) ?_
  refine lv_aload_n hx hb dL_quarrier_2 rfl (lv_at hl 0 rfl) ?_
  refine lv_iload_n hx hb dL_quarrier_3 rfl (lv_at hl 1 rfl) ?_
  refine lv_iload_n hx hb dL_quarrier_4 rfl (lv_at hl 2 rfl) ?_
  refine vx_calli (vx_runV (As := [.int x, .int y]) (rest := [.int 0, .ref ou]) ⟨hx, hb, hml, hown, hts⟩ (met_X5_quarrier_f1 l hfl D cI cZ cL gx qu qt rf qf bd cr wh cr0 cr1 cr2 cr3 co nq day x y (by first | assumption | omega) (by first | assumption | omega)) (cwV 2 hts gL_quarrier_X5_quarrier rfl rfl rfl (by decide +kernel) ⟨Nat.le_of_ble_eq_true rfl, Nat.le_of_ble_eq_true rfl⟩) (gw_pvx hK hP hX (wc := [(gx, .inr (5, [.ref qu, .ref qt, .ref rf, .int co])), (qu, .inr (2, [.ref qf, .ref bd, .ref cr, .ref wh, .int (nI day)])), (cr, .inr (1, [.ref cr0, .ref cr1, .ref cr2, .ref cr3, .int (nI nq)]))]) [0, 1, 2] rfl 5 rfl rfl rfl) rfl rfl hl.1 rfl (lv_room (Nat.le_of_ble_eq_true rfl)) dL_quarrier_5 ⟨Nat.le_of_ble_eq_true rfl, Nat.le_of_ble_eq_true rfl⟩) hS (fun _ _ z => z.elim) (fun _ z => z.elim) (fun _ _ z => z.elim) (fun E ce q9 u t H1 locs1 ht hvm hpx hBX hz hk hS hce hcv hcl => ?_) (fun r u t H1 locs1 ht hvm hpost hB hz hk hS => hpost.elim)
  subst hBX
  refine vx_catch (name := gE1) hown [] ⟨0, 10, 13, 13⟩ [] (by rw [hte]; rfl) (fun z hz => absurd hz List.not_mem_nil) (by decide) (by decide) (hts _ wd_L_quarrier_f1_0) (va_Nw.use rfl (hC.1 gE1 (by simp))) hce hcv hcl ?_
  refine W.eq (g2 := F0 m 13 ls [.ref q9]) rfl ?_
  refine lv_astore (lv' := [(4, .ref q9), (0, .ref gx), (1, .int x), (2, .int y), (3, .ref ou)]) hx hb dL_quarrier_13 hl (by decide) rfl (fun ls hl => ?_)
  refine lv_iconst (v := 1) hx hb dL_quarrier_15 (by decide) ?_
  exact W.iret (v := 1) hx hb hr (fun t ht hW => ⟨⟨_, (), rfl, rfl, trivial⟩, hS.F ht⟩) hS.2.2 dL_quarrier_16

theorem wd_L_wheel_f1_0 : (.classLink RL 13 gE1 : Cond) ∈ wsL_wheel := by decide +kernel
set_option maxHeartbeats 4000000 in
set_option maxRecDepth 100000 in
theorem met_L_wheel_f1 (l : Launch) (hfl : l.stackTraces = false) (D : va_G) (cI cZ cL : ClassId) (gx : Nat) (qu : Nat) (qt : Nat) (rf : Nat) (qf : Nat) (bd : Nat) (cr : Nat) (wh : Nat) (wh0 : Nat) (wh1 : Nat) (wh2 : Nat) (wh3 : Nat) (wh4 : Nat) (wh5 : Nat) (co : Int32) (nw : Nat) (day : Nat) (x : Int32) (y : Int32) (ou : Nat) (hnw : nw ≤ 60) (hxy : ¬ ((∃ kk, kk < nw ∧ x = nI kk) ∧ ((0 : Int32) ≤ y ∧ y ≤ 5))) : Met l yL_wheel wsL_wheel ({ frames := 7, cells := 1, slots := 6, locals := 112 }) (gPy [.ref gx, .int x, .int y, .ref ou] D [(gx, .inr (5, [.ref qu, .ref qt, .ref rf, .int co])), (qu, .inr (2, [.ref qf, .ref bd, .ref cr, .ref wh, .int (nI day)])), (wh, .inr (4, [.ref wh0, .ref wh1, .ref wh2, .ref wh3, .ref wh4, .ref wh5, .int (nI nw)]))] (gT cI cZ cL)) (va_Qi (fun (zr : Int32) (_ : Unit) => zr = 1) (fun _ _ => True) gN) 1 6 gN := by
  refine gw_ofH (hh := [(0, 10, 13, 13)]) (cc := cL_wheel) (maxL := 5) (ret := (some .int)) (by decide +kernel) rfl ?_
  intro p e s m args below meth c s₁ B hml hte hv
  obtain ⟨rfl, hP, hK, hX, hC⟩ := hv
  have hx := B.exec
  have hb := B.bytes
  have hr := B.returns
  have hts := atoms_spec (ws := wsL_wheel) B.pre
  have hown : s.vm.findClass RL = some m.cls := findClass_of_methodNamed B.named
  have hlocks := B.notSynchronized
  have hS : va_S gN s.heap s.heap [] := va_S.rf
  have hP : va_P D vwCl [(gx, .inr (5, [.ref qu, .ref qt, .ref rf, .int co])), (qu, .inr (2, [.ref qf, .ref bd, .ref cr, .ref wh, .int (nI day)])), (wh, .inr (4, [.ref wh0, .ref wh1, .ref wh2, .ref wh3, .ref wh4, .ref wh5, .int (nI nw)]))] s.heap := hP
  have hl := lv_entry ([.ref gx, .int x, .int y, .ref ou]) (n := 5) (Nat.le_of_ble_eq_true rfl)
  rw [lg_entry_eq]
  generalize (lg_sl ([.ref gx, .int x, .int y, .ref ou]) ++ List.replicate (5 - (lg_sl ([.ref gx, .int x, .int y, .ref ou])).length) Slot.unset).toArray = ls at hl ⊢
  have hl : lv_has ls 5 [(0, .ref gx), (1, .int x), (2, .int y), (3, .ref ou)] := hl
  refine lv_aload_n hx hb dL_wheel_0 rfl (lv_at hl 3 rfl) ?_
  refine lv_iconst (v := 0) hx hb dL_wheel_1 (by decide) ?_
  refine lv_aload_n hx hb dL_wheel_2 rfl (lv_at hl 0 rfl) ?_
  refine lv_iload_n hx hb dL_wheel_3 rfl (lv_at hl 1 rfl) ?_
  refine lv_iload_n hx hb dL_wheel_4 rfl (lv_at hl 2 rfl) ?_
  refine vx_calli (vx_runV (As := [.int x, .int y]) (rest := [.int 0, .ref ou]) ⟨hx, hb, hml, hown, hts⟩ (met_X5_wheel_f1 l hfl D cI cZ cL gx qu qt rf qf bd cr wh wh0 wh1 wh2 wh3 wh4 wh5 co nw day x y (by first | assumption | omega) (by first | assumption | omega)) (cwV 2 hts gL_wheel_X5_wheel rfl rfl rfl (by decide +kernel) ⟨Nat.le_of_ble_eq_true rfl, Nat.le_of_ble_eq_true rfl⟩) (gw_pvx hK hP hX (wc := [(gx, .inr (5, [.ref qu, .ref qt, .ref rf, .int co])), (qu, .inr (2, [.ref qf, .ref bd, .ref cr, .ref wh, .int (nI day)])), (wh, .inr (4, [.ref wh0, .ref wh1, .ref wh2, .ref wh3, .ref wh4, .ref wh5, .int (nI nw)]))]) [0, 1, 2] rfl 5 rfl rfl rfl) rfl rfl hl.1 rfl (lv_room (Nat.le_of_ble_eq_true rfl)) dL_wheel_5 ⟨Nat.le_of_ble_eq_true rfl, Nat.le_of_ble_eq_true rfl⟩) hS (fun _ _ z => z.elim) (fun _ z => z.elim) (fun _ _ z => z.elim) (fun E ce q9 u t H1 locs1 ht hvm hpx hBX hz hk hS hce hcv hcl => ?_) (fun r u t H1 locs1 ht hvm hpost hB hz hk hS => hpost.elim)
  subst hBX
  refine vx_catch (name := gE1) hown [] ⟨0, 10, 13, 13⟩ [] (by rw [hte]; rfl) (fun z hz => absurd hz List.not_mem_nil) (by decide) (by decide) (hts _ wd_L_wheel_f1_0) (va_Nw.use rfl (hC.1 gE1 (by simp))) hce hcv hcl ?_
  refine W.eq (g2 := F0 m 13 ls [.ref q9]) rfl ?_
  refine lv_astore (lv' := [(4, .ref q9), (0, .ref gx), (1, .int x), (2, .int y), (3, .ref ou)]) hx hb dL_wheel_13 hl (by decide) rfl (fun ls hl => ?_)
  refine lv_iconst (v := 1) hx hb dL_wheel_15 (by decide) ?_
  exact W.iret (v := 1) hx hb hr (fun t ht hW => ⟨⟨_, (), rfl, rfl, trivial⟩, hS.F ht⟩) hS.2.2 dL_wheel_16

theorem wd_L_raft_f1_0 : (.classLink RL 13 gE1 : Cond) ∈ wsL_raft := by decide +kernel
set_option maxHeartbeats 4000000 in
set_option maxRecDepth 100000 in
theorem met_L_raft_f1 (l : Launch) (hfl : l.stackTraces = false) (D : va_G) (cI cZ cL : ClassId) (gx : Nat) (qu : Nat) (qt : Nat) (rf : Nat) (rf0 : Nat) (rf1 : Nat) (co : Int32) (nr : Nat) (x : Int32) (y : Int32) (ou : Nat) (hnr : nr ≤ 3) (hxy : ¬ ((∃ kk, kk < nr ∧ x = nI kk) ∧ ((0 : Int32) ≤ y ∧ y ≤ 3))) : Met l yL_raft wsL_raft ({ frames := 7, cells := 1, slots := 6, locals := 112 }) (gPy [.ref gx, .int x, .int y, .ref ou] D [(gx, .inr (5, [.ref qu, .ref qt, .ref rf, .int co])), (rf, .inr (3, [.ref rf0, .ref rf1, .int (nI nr)]))] (gT cI cZ cL)) (va_Qi (fun (zr : Int32) (_ : Unit) => zr = 1) (fun _ _ => True) gN) 1 6 gN := by
  refine gw_ofH (hh := [(0, 10, 13, 13)]) (cc := cL_raft) (maxL := 5) (ret := (some .int)) (by decide +kernel) rfl ?_
  intro p e s m args below meth c s₁ B hml hte hv
  obtain ⟨rfl, hP, hK, hX, hC⟩ := hv
  have hx := B.exec
  have hb := B.bytes
  have hr := B.returns
  have hts := atoms_spec (ws := wsL_raft) B.pre
  have hown : s.vm.findClass RL = some m.cls := findClass_of_methodNamed B.named
  have hlocks := B.notSynchronized
  have hS : va_S gN s.heap s.heap [] := va_S.rf
  have hP : va_P D vwCl [(gx, .inr (5, [.ref qu, .ref qt, .ref rf, .int co])), (rf, .inr (3, [.ref rf0, .ref rf1, .int (nI nr)]))] s.heap := hP
  have hl := lv_entry ([.ref gx, .int x, .int y, .ref ou]) (n := 5) (Nat.le_of_ble_eq_true rfl)
  rw [lg_entry_eq]
  generalize (lg_sl ([.ref gx, .int x, .int y, .ref ou]) ++ List.replicate (5 - (lg_sl ([.ref gx, .int x, .int y, .ref ou])).length) Slot.unset).toArray = ls at hl ⊢
  have hl : lv_has ls 5 [(0, .ref gx), (1, .int x), (2, .int y), (3, .ref ou)] := hl
  refine lv_aload_n hx hb dL_raft_0 rfl (lv_at hl 3 rfl) ?_
  refine lv_iconst (v := 0) hx hb dL_raft_1 (by decide) ?_
  refine lv_aload_n hx hb dL_raft_2 rfl (lv_at hl 0 rfl) ?_
  refine lv_iload_n hx hb dL_raft_3 rfl (lv_at hl 1 rfl) ?_
  refine lv_iload_n hx hb dL_raft_4 rfl (lv_at hl 2 rfl) ?_
  refine vx_calli (vx_runV (As := [.int x, .int y]) (rest := [.int 0, .ref ou]) ⟨hx, hb, hml, hown, hts⟩ (met_X5_raft_f1 l hfl D cI cZ cL gx qu qt rf rf0 rf1 co nr x y (by first | assumption | omega) (by first | assumption | omega)) (cwV 2 hts gL_raft_X5_raft rfl rfl rfl (by decide +kernel) ⟨Nat.le_of_ble_eq_true rfl, Nat.le_of_ble_eq_true rfl⟩) (gw_pvx hK hP hX (wc := [(gx, .inr (5, [.ref qu, .ref qt, .ref rf, .int co])), (rf, .inr (3, [.ref rf0, .ref rf1, .int (nI nr)]))]) [0, 1] rfl 5 rfl rfl rfl) rfl rfl hl.1 rfl (lv_room (Nat.le_of_ble_eq_true rfl)) dL_raft_5 ⟨Nat.le_of_ble_eq_true rfl, Nat.le_of_ble_eq_true rfl⟩) hS (fun _ _ z => z.elim) (fun _ z => z.elim) (fun _ _ z => z.elim) (fun E ce q9 u t H1 locs1 ht hvm hpx hBX hz hk hS hce hcv hcl => ?_) (fun r u t H1 locs1 ht hvm hpost hB hz hk hS => hpost.elim)
  subst hBX
  refine vx_catch (name := gE1) hown [] ⟨0, 10, 13, 13⟩ [] (by rw [hte]; rfl) (fun z hz => absurd hz List.not_mem_nil) (by decide) (by decide) (hts _ wd_L_raft_f1_0) (va_Nw.use rfl (hC.1 gE1 (by simp))) hce hcv hcl ?_
  refine W.eq (g2 := F0 m 13 ls [.ref q9]) rfl ?_
  refine lv_astore (lv' := [(4, .ref q9), (0, .ref gx), (1, .int x), (2, .int y), (3, .ref ou)]) hx hb dL_raft_13 hl (by decide) rfl (fun ls hl => ?_)
  refine lv_iconst (v := 1) hx hb dL_raft_15 (by decide) ?_
  exact W.iret (v := 1) hx hb hr (fun t ht hW => ⟨⟨_, (), rfl, rfl, trivial⟩, hS.F ht⟩) hS.2.2 dL_raft_16

theorem wd_L_count_f1_0 : (.classLink RL 13 gE1 : Cond) ∈ wsL_count := by decide +kernel
set_option maxHeartbeats 4000000 in
set_option maxRecDepth 100000 in
theorem met_L_count_f1 (l : Launch) (hfl : l.stackTraces = false) (D : va_G) (cI cZ cL : ClassId) (gx : Nat) (qu : Nat) (qt : Nat) (rf : Nat) (co : Int32) (y : Int32) (ou : Nat) (hy : ¬ ((0 : Int32) ≤ y ∧ y ≤ 9)) : Met l yL_count wsL_count ({ frames := 7, cells := 1, slots := 6, locals := 125 }) (gPy [.ref gx, .int y, .ref ou] D [(gx, .inr (5, [.ref qu, .ref qt, .ref rf, .int co]))] (gT cI cZ cL)) (va_Qi (fun (zr : Int32) (_ : Unit) => zr = 1) (fun _ _ => True) gN) 1 6 gN := by
  refine gw_ofH (hh := [(0, 9, 12, 13)]) (cc := cL_count) (maxL := 4) (ret := (some .int)) (by decide +kernel) rfl ?_
  intro p e s m args below meth c s₁ B hml hte hv
  obtain ⟨rfl, hP, hK, hX, hC⟩ := hv
  have hx := B.exec
  have hb := B.bytes
  have hr := B.returns
  have hts := atoms_spec (ws := wsL_count) B.pre
  have hown : s.vm.findClass RL = some m.cls := findClass_of_methodNamed B.named
  have hlocks := B.notSynchronized
  have hS : va_S gN s.heap s.heap [] := va_S.rf
  have hP : va_P D vwCl [(gx, .inr (5, [.ref qu, .ref qt, .ref rf, .int co]))] s.heap := hP
  have hl := lv_entry ([.ref gx, .int y, .ref ou]) (n := 4) (Nat.le_of_ble_eq_true rfl)
  rw [lg_entry_eq]
  generalize (lg_sl ([.ref gx, .int y, .ref ou]) ++ List.replicate (4 - (lg_sl ([.ref gx, .int y, .ref ou])).length) Slot.unset).toArray = ls at hl ⊢
  have hl : lv_has ls 4 [(0, .ref gx), (1, .int y), (2, .ref ou)] := hl
  refine lv_aload_n hx hb dL_count_0 rfl (lv_at hl 2 rfl) ?_
  refine lv_iconst (v := 0) hx hb dL_count_1 (by decide) ?_
  refine lv_aload_n hx hb dL_count_2 rfl (lv_at hl 0 rfl) ?_
  refine lv_iload_n hx hb dL_count_3 rfl (lv_at hl 1 rfl) ?_
  refine vx_calli (vx_runV (As := [.int y]) (rest := [.int 0, .ref ou]) ⟨hx, hb, hml, hown, hts⟩ (met_X5_count_f1 l hfl D cI cZ cL gx qu qt rf co y (by first | assumption | omega)) (cwV 1 hts gL_count_X5_count rfl rfl rfl (by decide +kernel) ⟨Nat.le_of_ble_eq_true rfl, Nat.le_of_ble_eq_true rfl⟩) (gw_pvx hK hP hX (wc := [(gx, .inr (5, [.ref qu, .ref qt, .ref rf, .int co]))]) [0] rfl 5 rfl rfl rfl) rfl rfl hl.1 rfl (lv_room (Nat.le_of_ble_eq_true rfl)) dL_count_4 ⟨Nat.le_of_ble_eq_true rfl, Nat.le_of_ble_eq_true rfl⟩) hS (fun _ _ z => z.elim) (fun _ z => z.elim) (fun _ _ z => z.elim) (fun E ce q9 u t H1 locs1 ht hvm hpx hBX hz hk hS hce hcv hcl => ?_) (fun r u t H1 locs1 ht hvm hpost hB hz hk hS => hpost.elim)
  subst hBX
  refine vx_catch (name := gE1) hown [] ⟨0, 9, 12, 13⟩ [] (by rw [hte]; rfl) (fun z hz => absurd hz List.not_mem_nil) (by decide) (by decide) (hts _ wd_L_count_f1_0) (va_Nw.use rfl (hC.1 gE1 (by simp))) hce hcv hcl ?_
  refine W.eq (g2 := F0 m 12 ls [.ref q9]) rfl ?_
  refine lv_astore_n (lv' := [(3, .ref q9), (0, .ref gx), (1, .int y), (2, .ref ou)]) hx hb dL_count_12 rfl hl (by decide) rfl (fun ls hl => ?_)
  refine lv_iconst (v := 1) hx hb dL_count_13 (by decide) ?_
  exact W.iret (v := 1) hx hb hr (fun t ht hW => ⟨⟨_, (), rfl, rfl, trivial⟩, hS.F ht⟩) hS.2.2 dL_count_14

theorem wd_L_pass_f1_0 : (.classLink RL 15 gE2 : Cond) ∈ wsL_pass := by decide +kernel
set_option maxHeartbeats 4000000 in
set_option maxRecDepth 100000 in
theorem met_L_pass_f1 (l : Launch) (hfl : l.stackTraces = false) (D : va_G) (cI cZ cL : ClassId) (gx : Nat) (qu : Nat) (qt : Nat) (rf : Nat) (co : Int32) (y : Int32) (ou : Nat) (hy : ¬ ((1 : Int32) ≤ y ∧ y ≤ 40)) : Met l yL_pass wsL_pass ({ frames := 7, cells := 1, slots := 6, locals := 136 }) (gPy [.ref gx, .int y, .ref ou] D [(gx, .inr (5, [.ref qu, .ref qt, .ref rf, .int co]))] (gT cI cZ cL)) (va_Qi (fun (zr : Int32) (_ : Unit) => zr = 1) (fun _ _ => True) gN) 1 6 gN := by
  refine gw_ofH (hh := [(0, 9, 12, 15)]) (cc := cL_pass) (maxL := 4) (ret := (some .int)) (by decide +kernel) rfl ?_
  intro p e s m args below meth c s₁ B hml hte hv
  obtain ⟨rfl, hP, hK, hX, hC⟩ := hv
  have hx := B.exec
  have hb := B.bytes
  have hr := B.returns
  have hts := atoms_spec (ws := wsL_pass) B.pre
  have hown : s.vm.findClass RL = some m.cls := findClass_of_methodNamed B.named
  have hlocks := B.notSynchronized
  have hS : va_S gN s.heap s.heap [] := va_S.rf
  have hP : va_P D vwCl [(gx, .inr (5, [.ref qu, .ref qt, .ref rf, .int co]))] s.heap := hP
  have hl := lv_entry ([.ref gx, .int y, .ref ou]) (n := 4) (Nat.le_of_ble_eq_true rfl)
  rw [lg_entry_eq]
  generalize (lg_sl ([.ref gx, .int y, .ref ou]) ++ List.replicate (4 - (lg_sl ([.ref gx, .int y, .ref ou])).length) Slot.unset).toArray = ls at hl ⊢
  have hl : lv_has ls 4 [(0, .ref gx), (1, .int y), (2, .ref ou)] := hl
  refine lv_aload_n hx hb dL_pass_0 rfl (lv_at hl 2 rfl) ?_
  refine lv_iconst (v := 0) hx hb dL_pass_1 (by decide) ?_
  refine lv_aload_n hx hb dL_pass_2 rfl (lv_at hl 0 rfl) ?_
  refine lv_iload_n hx hb dL_pass_3 rfl (lv_at hl 1 rfl) ?_
  refine vx_calli (vx_runV (As := [.int y]) (rest := [.int 0, .ref ou]) ⟨hx, hb, hml, hown, hts⟩ (met_X5_pass_f1 l hfl D cI cZ cL gx qu qt rf co y (by first | assumption | omega)) (cwV 1 hts gL_pass_X5_pass rfl rfl rfl (by decide +kernel) ⟨Nat.le_of_ble_eq_true rfl, Nat.le_of_ble_eq_true rfl⟩) (gw_pvx hK hP hX (wc := [(gx, .inr (5, [.ref qu, .ref qt, .ref rf, .int co]))]) [0] rfl 5 rfl rfl rfl) rfl rfl hl.1 rfl (lv_room (Nat.le_of_ble_eq_true rfl)) dL_pass_4 ⟨Nat.le_of_ble_eq_true rfl, Nat.le_of_ble_eq_true rfl⟩) hS (fun _ _ z => z.elim) (fun _ z => z.elim) (fun _ _ z => z.elim) (fun E ce q9 u t H1 locs1 ht hvm hpx hBX hz hk hS hce hcv hcl => ?_) (fun r u t H1 locs1 ht hvm hpost hB hz hk hS => hpost.elim)
  subst hBX
  refine vx_catch (name := gE2) hown [] ⟨0, 9, 12, 15⟩ [] (by rw [hte]; rfl) (fun z hz => absurd hz List.not_mem_nil) (by decide) (by decide) (hts _ wd_L_pass_f1_0) (va_Nw.use rfl (hC.1 gE2 (by simp))) hce hcv hcl ?_
  refine W.eq (g2 := F0 m 12 ls [.ref q9]) rfl ?_
  refine lv_astore_n (lv' := [(3, .ref q9), (0, .ref gx), (1, .int y), (2, .ref ou)]) hx hb dL_pass_12 rfl hl (by decide) rfl (fun ls hl => ?_)
  refine lv_iconst (v := 1) hx hb dL_pass_13 (by decide) ?_
  exact W.iret (v := 1) hx hb hr (fun t ht hW => ⟨⟨_, (), rfl, rfl, trivial⟩, hS.F ht⟩) hS.2.2 dL_pass_14

theorem wd_L_foresee_f1_0 : (.classLink RL 15 gE2 : Cond) ∈ wsL_foresee := by decide +kernel
set_option maxHeartbeats 4000000 in
set_option maxRecDepth 100000 in
theorem met_L_foresee_f1 (l : Launch) (hfl : l.stackTraces = false) (D : va_G) (cI cZ cL : ClassId) (gx : Nat) (qu : Nat) (qt : Nat) (rf : Nat) (co : Int32) (y : Int32) (z : Int32) (ou : Nat) (hy : ¬ ((1 : Int32) ≤ y ∧ y ≤ 40)) : Met l yL_foresee wsL_foresee ({ frames := 7, cells := 1, slots := 6, locals := 136 }) (gPy [.ref gx, .int y, .int z, .ref ou] D [(gx, .inr (5, [.ref qu, .ref qt, .ref rf, .int co]))] (gT cI cZ cL)) (va_Qi (fun (zr : Int32) (_ : Unit) => zr = 1) (fun _ _ => True) gN) 1 6 gN := by
  refine gw_ofH (hh := [(0, 10, 13, 15), (0, 10, 17, 13)]) (cc := cL_foresee) (maxL := 5) (ret := (some .int)) (by decide +kernel) rfl ?_
  intro p e s m args below meth c s₁ B hml hte hv
  obtain ⟨rfl, hP, hK, hX, hC⟩ := hv
  have hx := B.exec
  have hb := B.bytes
  have hr := B.returns
  have hts := atoms_spec (ws := wsL_foresee) B.pre
  have hown : s.vm.findClass RL = some m.cls := findClass_of_methodNamed B.named
  have hlocks := B.notSynchronized
  have hS : va_S gN s.heap s.heap [] := va_S.rf
  have hP : va_P D vwCl [(gx, .inr (5, [.ref qu, .ref qt, .ref rf, .int co]))] s.heap := hP
  have hl := lv_entry ([.ref gx, .int y, .int z, .ref ou]) (n := 5) (Nat.le_of_ble_eq_true rfl)
  rw [lg_entry_eq]
  generalize (lg_sl ([.ref gx, .int y, .int z, .ref ou]) ++ List.replicate (5 - (lg_sl ([.ref gx, .int y, .int z, .ref ou])).length) Slot.unset).toArray = ls at hl ⊢
  have hl : lv_has ls 5 [(0, .ref gx), (1, .int y), (2, .int z), (3, .ref ou)] := hl
  refine lv_aload_n hx hb dL_foresee_0 rfl (lv_at hl 3 rfl) ?_
  refine lv_iconst (v := 0) hx hb dL_foresee_1 (by decide) ?_
  refine lv_aload_n hx hb dL_foresee_2 rfl (lv_at hl 0 rfl) ?_
  refine lv_iload_n hx hb dL_foresee_3 rfl (lv_at hl 1 rfl) ?_
  refine lv_iload_n hx hb dL_foresee_4 rfl (lv_at hl 2 rfl) ?_
  refine vx_calli (vx_runV (As := [.int y, .int z]) (rest := [.int 0, .ref ou]) ⟨hx, hb, hml, hown, hts⟩ (met_X5_foresee_f1 l hfl D cI cZ cL gx qu qt rf co y z (by first | assumption | omega)) (cwV 2 hts gL_foresee_X5_foresee rfl rfl rfl (by decide +kernel) ⟨Nat.le_of_ble_eq_true rfl, Nat.le_of_ble_eq_true rfl⟩) (gw_pvx hK hP hX (wc := [(gx, .inr (5, [.ref qu, .ref qt, .ref rf, .int co]))]) [0] rfl 5 rfl rfl rfl) rfl rfl hl.1 rfl (lv_room (Nat.le_of_ble_eq_true rfl)) dL_foresee_5 ⟨Nat.le_of_ble_eq_true rfl, Nat.le_of_ble_eq_true rfl⟩) hS (fun _ _ z => z.elim) (fun _ z => z.elim) (fun _ _ z => z.elim) (fun E ce q9 u t H1 locs1 ht hvm hpx hBX hz hk hS hce hcv hcl => ?_) (fun r u t H1 locs1 ht hvm hpost hB hz hk hS => hpost.elim)
  subst hBX
  refine vx_catch (name := gE2) hown [] ⟨0, 10, 13, 15⟩ [⟨0, 10, 17, 13⟩] (by rw [hte]; rfl) (fun z hz => absurd hz List.not_mem_nil) (by decide) (by decide) (hts _ wd_L_foresee_f1_0) (va_Nw.use rfl (hC.1 gE2 (by simp))) hce hcv hcl ?_
  refine W.eq (g2 := F0 m 13 ls [.ref q9]) rfl ?_
  refine lv_astore (lv' := [(4, .ref q9), (0, .ref gx), (1, .int y), (2, .int z), (3, .ref ou)]) hx hb dL_foresee_13 hl (by decide) rfl (fun ls hl => ?_)
  refine lv_iconst (v := 1) hx hb dL_foresee_15 (by decide) ?_
  exact W.iret (v := 1) hx hb hr (fun t ht hW => ⟨⟨_, (), rfl, rfl, trivial⟩, hS.F ht⟩) hS.2.2 dL_foresee_16

theorem wd_L_foresee_f2_0 : (.classLink RL 15 gE2 : Cond) ∈ wsL_foresee := by decide +kernel
theorem wd_L_foresee_f2_1 : (.classLink RL 13 gE1 : Cond) ∈ wsL_foresee := by decide +kernel
set_option maxHeartbeats 4000000 in
set_option maxRecDepth 100000 in
theorem met_L_foresee_f2 (l : Launch) (hfl : l.stackTraces = false) (D : va_G) (cI cZ cL : ClassId) (gx : Nat) (qu : Nat) (qt : Nat) (rf : Nat) (co : Int32) (y : Int32) (z : Int32) (ou : Nat) (hy : (1 : Int32) ≤ y ∧ y ≤ 40) (hzz : ¬ (((3 : Int32) ≤ z ∧ z ≤ 5) ∨ z = 9)) : Met l yL_foresee wsL_foresee ({ frames := 7, cells := 1, slots := 6, locals := 136 }) (gPy [.ref gx, .int y, .int z, .ref ou] D [(gx, .inr (5, [.ref qu, .ref qt, .ref rf, .int co]))] (gT cI cZ cL)) (va_Qi (fun (zr : Int32) (_ : Unit) => zr = 2) (fun _ _ => True) gN) 1 6 gN := by
  refine gw_ofH (hh := [(0, 10, 13, 15), (0, 10, 17, 13)]) (cc := cL_foresee) (maxL := 5) (ret := (some .int)) (by decide +kernel) rfl ?_
  intro p e s m args below meth c s₁ B hml hte hv
  obtain ⟨rfl, hP, hK, hX, hC⟩ := hv
  have hx := B.exec
  have hb := B.bytes
  have hr := B.returns
  have hts := atoms_spec (ws := wsL_foresee) B.pre
  have hown : s.vm.findClass RL = some m.cls := findClass_of_methodNamed B.named
  have hlocks := B.notSynchronized
  have hS : va_S gN s.heap s.heap [] := va_S.rf
  have hP : va_P D vwCl [(gx, .inr (5, [.ref qu, .ref qt, .ref rf, .int co]))] s.heap := hP
  have hl := lv_entry ([.ref gx, .int y, .int z, .ref ou]) (n := 5) (Nat.le_of_ble_eq_true rfl)
  rw [lg_entry_eq]
  generalize (lg_sl ([.ref gx, .int y, .int z, .ref ou]) ++ List.replicate (5 - (lg_sl ([.ref gx, .int y, .int z, .ref ou])).length) Slot.unset).toArray = ls at hl ⊢
  have hl : lv_has ls 5 [(0, .ref gx), (1, .int y), (2, .int z), (3, .ref ou)] := hl
  refine lv_aload_n hx hb dL_foresee_0 rfl (lv_at hl 3 rfl) ?_
  refine lv_iconst (v := 0) hx hb dL_foresee_1 (by decide) ?_
  refine lv_aload_n hx hb dL_foresee_2 rfl (lv_at hl 0 rfl) ?_
  refine lv_iload_n hx hb dL_foresee_3 rfl (lv_at hl 1 rfl) ?_
  refine lv_iload_n hx hb dL_foresee_4 rfl (lv_at hl 2 rfl) ?_
  refine vx_calli (vx_runV (As := [.int y, .int z]) (rest := [.int 0, .ref ou]) ⟨hx, hb, hml, hown, hts⟩ (met_X5_foresee_f2 l hfl D cI cZ cL gx qu qt rf co y z (by first | assumption | omega) (by first | assumption | omega)) (cwV 2 hts gL_foresee_X5_foresee rfl rfl rfl (by decide +kernel) ⟨Nat.le_of_ble_eq_true rfl, Nat.le_of_ble_eq_true rfl⟩) (gw_pvx hK hP hX (wc := [(gx, .inr (5, [.ref qu, .ref qt, .ref rf, .int co]))]) [0] rfl 5 rfl rfl rfl) rfl rfl hl.1 rfl (lv_room (Nat.le_of_ble_eq_true rfl)) dL_foresee_5 ⟨Nat.le_of_ble_eq_true rfl, Nat.le_of_ble_eq_true rfl⟩) hS (fun _ _ z => z.elim) (fun _ z => z.elim) (fun _ _ z => z.elim) (fun E ce q9 u t H1 locs1 ht hvm hpx hBX hz hk hS hce hcv hcl => ?_) (fun r u t H1 locs1 ht hvm hpost hB hz hk hS => hpost.elim)
  subst hBX
  refine vx_catch (name := gE1) hown [⟨0, 10, 13, 15⟩] ⟨0, 10, 17, 13⟩ [] (by rw [hte]; rfl) (fun z hz => by cases List.mem_singleton.mp hz; exact Or.inr ⟨by decide, gE2, (hts _ wd_L_foresee_f2_0), hC.2.2.2.2⟩) (by decide) (by decide) (hts _ wd_L_foresee_f2_1) (va_Nw.use rfl (hC.1 gE1 (by simp))) hce hcv hcl ?_
  refine W.eq (g2 := F0 m 17 ls [.ref q9]) rfl ?_
  refine lv_astore (lv' := [(4, .ref q9), (0, .ref gx), (1, .int y), (2, .int z), (3, .ref ou)]) hx hb dL_foresee_17 hl (by decide) rfl (fun ls hl => ?_)
  refine lv_iconst (v := 2) hx hb dL_foresee_19 (by decide) ?_
  exact W.iret (v := 2) hx hb hr (fun t ht hW => ⟨⟨_, (), rfl, rfl, trivial⟩, hS.F ht⟩) hS.2.2 dL_foresee_20

theorem wd_L_advise_f1_0 : (.classLink RL 13 gE1 : Cond) ∈ wsL_advise := by decide +kernel
set_option maxHeartbeats 4000000 in
set_option maxRecDepth 100000 in
theorem met_L_advise_f1 (l : Launch) (hfl : l.stackTraces = false) (D : va_G) (cI cZ cL : ClassId) (gx : Nat) (qu : Nat) (qt : Nat) (rf : Nat) (qf : Nat) (bd : Nat) (cr : Nat) (wh : Nat) (cr0 : Nat) (cr1 : Nat) (cr2 : Nat) (cr3 : Nat) (co : Int32) (nq : Nat) (day : Nat) (x : Int32) (y : Int32) (ou : Nat) (hnq : nq ≤ 6) (hx1 : ¬ ∃ kk, kk < nq ∧ x = nI kk) : Met l yL_advise wsL_advise ({ frames := 7, cells := 1, slots := 6, locals := 163 }) (gPy [.ref gx, .int x, .int y, .ref ou] D [(gx, .inr (5, [.ref qu, .ref qt, .ref rf, .int co])), (qu, .inr (2, [.ref qf, .ref bd, .ref cr, .ref wh, .int (nI day)])), (cr, .inr (1, [.ref cr0, .ref cr1, .ref cr2, .ref cr3, .int (nI nq)]))] (gT cI cZ cL)) (va_Qi (fun (zr : Int32) (_ : Unit) => zr = 1) (fun _ _ => True) gN) 1 6 gN := by
  refine gw_ofH (hh := [(0, 10, 13, 13), (0, 10, 17, 15)]) (cc := cL_advise) (maxL := 5) (ret := (some .int)) (by decide +kernel) rfl ?_
  intro p e s m args below meth c s₁ B hml hte hv
  obtain ⟨rfl, hP, hK, hX, hC⟩ := hv
  have hx := B.exec
  have hb := B.bytes
  have hr := B.returns
  have hts := atoms_spec (ws := wsL_advise) B.pre
  have hown : s.vm.findClass RL = some m.cls := findClass_of_methodNamed B.named
  have hlocks := B.notSynchronized
  have hS : va_S gN s.heap s.heap [] := va_S.rf
  have hP : va_P D vwCl [(gx, .inr (5, [.ref qu, .ref qt, .ref rf, .int co])), (qu, .inr (2, [.ref qf, .ref bd, .ref cr, .ref wh, .int (nI day)])), (cr, .inr (1, [.ref cr0, .ref cr1, .ref cr2, .ref cr3, .int (nI nq)]))] s.heap := hP
  have hl := lv_entry ([.ref gx, .int x, .int y, .ref ou]) (n := 5) (Nat.le_of_ble_eq_true rfl)
  rw [lg_entry_eq]
  generalize (lg_sl ([.ref gx, .int x, .int y, .ref ou]) ++ List.replicate (5 - (lg_sl ([.ref gx, .int x, .int y, .ref ou])).length) Slot.unset).toArray = ls at hl ⊢
  have hl : lv_has ls 5 [(0, .ref gx), (1, .int x), (2, .int y), (3, .ref ou)] := hl
  refine lv_aload_n hx hb dL_advise_0 rfl (lv_at hl 3 rfl) ?_
  refine lv_iconst (v := 0) hx hb dL_advise_1 (by decide) ?_
  refine lv_aload_n hx hb dL_advise_2 rfl (lv_at hl 0 rfl) ?_
  refine lv_iload_n hx hb dL_advise_3 rfl (lv_at hl 1 rfl) ?_
  refine lv_iload_n hx hb dL_advise_4 rfl (lv_at hl 2 rfl) ?_
  refine vx_calli (vx_runV (As := [.int x, .int y]) (rest := [.int 0, .ref ou]) ⟨hx, hb, hml, hown, hts⟩ (met_X5_advise_f1 l hfl D cI cZ cL gx qu qt rf qf bd cr wh cr0 cr1 cr2 cr3 co nq day x y (by first | assumption | omega) (by first | assumption | omega)) (cwV 2 hts gL_advise_X5_advise rfl rfl rfl (by decide +kernel) ⟨Nat.le_of_ble_eq_true rfl, Nat.le_of_ble_eq_true rfl⟩) (gw_pvx hK hP hX (wc := [(gx, .inr (5, [.ref qu, .ref qt, .ref rf, .int co])), (qu, .inr (2, [.ref qf, .ref bd, .ref cr, .ref wh, .int (nI day)])), (cr, .inr (1, [.ref cr0, .ref cr1, .ref cr2, .ref cr3, .int (nI nq)]))]) [0, 1, 2] rfl 5 rfl rfl rfl) rfl rfl hl.1 rfl (lv_room (Nat.le_of_ble_eq_true rfl)) dL_advise_5 ⟨Nat.le_of_ble_eq_true rfl, Nat.le_of_ble_eq_true rfl⟩) hS (fun _ _ z => z.elim) (fun _ z => z.elim) (fun _ _ z => z.elim) (fun E ce q9 u t H1 locs1 ht hvm hpx hBX hz hk hS hce hcv hcl => ?_) (fun r u t H1 locs1 ht hvm hpost hB hz hk hS => hpost.elim)
  subst hBX
  refine vx_catch (name := gE1) hown [] ⟨0, 10, 13, 13⟩ [⟨0, 10, 17, 15⟩] (by rw [hte]; rfl) (fun z hz => absurd hz List.not_mem_nil) (by decide) (by decide) (hts _ wd_L_advise_f1_0) (va_Nw.use rfl (hC.1 gE1 (by simp))) hce hcv hcl ?_
  refine W.eq (g2 := F0 m 13 ls [.ref q9]) rfl ?_
  refine lv_astore (lv' := [(4, .ref q9), (0, .ref gx), (1, .int x), (2, .int y), (3, .ref ou)]) hx hb dL_advise_13 hl (by decide) rfl (fun ls hl => ?_)
  refine lv_iconst (v := 1) hx hb dL_advise_15 (by decide) ?_
  exact W.iret (v := 1) hx hb hr (fun t ht hW => ⟨⟨_, (), rfl, rfl, trivial⟩, hS.F ht⟩) hS.2.2 dL_advise_16

theorem wd_L_advise_f2_0 : (.classLink RL 13 gE1 : Cond) ∈ wsL_advise := by decide +kernel
theorem wd_L_advise_f2_1 : (.classLink RL 15 gE2 : Cond) ∈ wsL_advise := by decide +kernel
set_option maxHeartbeats 4000000 in
set_option maxRecDepth 100000 in
theorem met_L_advise_f2 (l : Launch) (hfl : l.stackTraces = false) (D : va_G) (cI cZ cL : ClassId) (gx : Nat) (qu : Nat) (qt : Nat) (rf : Nat) (qf : Nat) (bd : Nat) (cr : Nat) (wh : Nat) (cr0 : Nat) (cr1 : Nat) (cr2 : Nat) (cr3 : Nat) (co : Int32) (nq : Nat) (day : Nat) (k : Nat) (y : Int32) (ou : Nat) (hnq : nq ≤ 6) (hk : k < nq) (hy : ¬ ((1 : Int32) ≤ y ∧ y ≤ 20)) : Met l yL_advise wsL_advise ({ frames := 7, cells := 1, slots := 6, locals := 163 }) (gPy [.ref gx, .int (nI k), .int y, .ref ou] D [(gx, .inr (5, [.ref qu, .ref qt, .ref rf, .int co])), (qu, .inr (2, [.ref qf, .ref bd, .ref cr, .ref wh, .int (nI day)])), (cr, .inr (1, [.ref cr0, .ref cr1, .ref cr2, .ref cr3, .int (nI nq)]))] (gT cI cZ cL)) (va_Qi (fun (zr : Int32) (_ : Unit) => zr = 2) (fun _ _ => True) gN) 1 6 gN := by
  refine gw_ofH (hh := [(0, 10, 13, 13), (0, 10, 17, 15)]) (cc := cL_advise) (maxL := 5) (ret := (some .int)) (by decide +kernel) rfl ?_
  intro p e s m args below meth c s₁ B hml hte hv
  obtain ⟨rfl, hP, hK, hX, hC⟩ := hv
  have hx := B.exec
  have hb := B.bytes
  have hr := B.returns
  have hts := atoms_spec (ws := wsL_advise) B.pre
  have hown : s.vm.findClass RL = some m.cls := findClass_of_methodNamed B.named
  have hlocks := B.notSynchronized
  have hS : va_S gN s.heap s.heap [] := va_S.rf
  have hP : va_P D vwCl [(gx, .inr (5, [.ref qu, .ref qt, .ref rf, .int co])), (qu, .inr (2, [.ref qf, .ref bd, .ref cr, .ref wh, .int (nI day)])), (cr, .inr (1, [.ref cr0, .ref cr1, .ref cr2, .ref cr3, .int (nI nq)]))] s.heap := hP
  have hl := lv_entry ([.ref gx, .int (nI k), .int y, .ref ou]) (n := 5) (Nat.le_of_ble_eq_true rfl)
  rw [lg_entry_eq]
  generalize (lg_sl ([.ref gx, .int (nI k), .int y, .ref ou]) ++ List.replicate (5 - (lg_sl ([.ref gx, .int (nI k), .int y, .ref ou])).length) Slot.unset).toArray = ls at hl ⊢
  have hl : lv_has ls 5 [(0, .ref gx), (1, .int (nI k)), (2, .int y), (3, .ref ou)] := hl
  refine lv_aload_n hx hb dL_advise_0 rfl (lv_at hl 3 rfl) ?_
  refine lv_iconst (v := 0) hx hb dL_advise_1 (by decide) ?_
  refine lv_aload_n hx hb dL_advise_2 rfl (lv_at hl 0 rfl) ?_
  refine lv_iload_n hx hb dL_advise_3 rfl (lv_at hl 1 rfl) ?_
  refine lv_iload_n hx hb dL_advise_4 rfl (lv_at hl 2 rfl) ?_
  refine vx_calli (vx_runV (As := [.int (nI k), .int y]) (rest := [.int 0, .ref ou]) ⟨hx, hb, hml, hown, hts⟩ (met_X5_advise_f2 l hfl D cI cZ cL gx qu qt rf qf bd cr wh cr0 cr1 cr2 cr3 co nq day k y (by first | assumption | omega) (by first | assumption | omega) (by first | assumption | omega)) (cwV 2 hts gL_advise_X5_advise rfl rfl rfl (by decide +kernel) ⟨Nat.le_of_ble_eq_true rfl, Nat.le_of_ble_eq_true rfl⟩) (gw_pvx hK hP hX (wc := [(gx, .inr (5, [.ref qu, .ref qt, .ref rf, .int co])), (qu, .inr (2, [.ref qf, .ref bd, .ref cr, .ref wh, .int (nI day)])), (cr, .inr (1, [.ref cr0, .ref cr1, .ref cr2, .ref cr3, .int (nI nq)]))]) [0, 1, 2] rfl 5 rfl rfl rfl) rfl rfl hl.1 rfl (lv_room (Nat.le_of_ble_eq_true rfl)) dL_advise_5 ⟨Nat.le_of_ble_eq_true rfl, Nat.le_of_ble_eq_true rfl⟩) hS (fun _ _ z => z.elim) (fun _ z => z.elim) (fun _ _ z => z.elim) (fun E ce q9 u t H1 locs1 ht hvm hpx hBX hz hk hS hce hcv hcl => ?_) (fun r u t H1 locs1 ht hvm hpost hB hz hk hS => hpost.elim)
  subst hBX
  refine vx_catch (name := gE2) hown [⟨0, 10, 13, 13⟩] ⟨0, 10, 17, 15⟩ [] (by rw [hte]; rfl) (fun z hz => by cases List.mem_singleton.mp hz; exact Or.inr ⟨by decide, gE1, (hts _ wd_L_advise_f2_0), hC.2.1⟩) (by decide) (by decide) (hts _ wd_L_advise_f2_1) (va_Nw.use rfl (hC.1 gE2 (by simp))) hce hcv hcl ?_
  refine W.eq (g2 := F0 m 17 ls [.ref q9]) rfl ?_
  refine lv_astore (lv' := [(4, .ref q9), (0, .ref gx), (1, .int (nI k)), (2, .int y), (3, .ref ou)]) hx hb dL_advise_17 hl (by decide) rfl (fun ls hl => ?_)
  refine lv_iconst (v := 2) hx hb dL_advise_19 (by decide) ?_
  exact W.iret (v := 2) hx hb hr (fun t ht hW => ⟨⟨_, (), rfl, rfl, trivial⟩, hS.F ht⟩) hS.2.2 dL_advise_20
