theorem wc_X5_setFall_ok_X5 : ∀ w ∈ u_ws RX5 TX5 4, w ∈ wsX5_setFall := by decide +kernel
theorem wd_X5_setFall_ok_1 : (.fieldLink RX5 10 "GritWheels" "now" "LGritWheels$Quarry;" : Cond) ∈ wsX5_setFall := by decide +kernel
theorem wc_X5_setFall_ok_X2 : ∀ w ∈ u_ws RX2 TX2 5, w ∈ wsX5_setFall := by decide +kernel
theorem wd_X5_setFall_ok_3 : (.fieldLink RX5 42 "GritWheels$Quarry" "fall" "[I" : Cond) ∈ wsX5_setFall := by decide +kernel
set_option maxHeartbeats 4000000 in
set_option maxRecDepth 100000 in
theorem met_X5_setFall_ok (l : Launch) (D : va_G) (cI cZ cL : ClassId) (gx : Nat) (qu : Nat) (qt : Nat) (rf : Nat) (qf : Nat) (bd : Nat) (cr : Nat) (wh : Nat) (co : Int32) (Q : Nat → Nat → Int32) (day : Nat) (d : Nat) (y : Int32) (hd9 : d < 9) (hy : 0 ≤ y ∧ y ≤ 9) : Met l yX5_setFall wsX5_setFall ({ frames := 1, cells := 0, slots := 0, locals := 22 }) (gPw [.ref gx, .int (nI d), .int y] D [(gx, .inr (5, [.ref qu, .ref qt, .ref rf, .int co])), (qu, .inr (2, [.ref qf, .ref bd, .ref cr, .ref wh, .int (nI day)])), (qf, .inl (cI, 9, .inl (Q 0)))] (gT cI cZ cL)) (va_Qi (fun (zr : Int32) (_ : Unit) => zr = Q 0 d) (fun _ t => va_P D vwCl [(gx, .inr (5, [.ref qu, .ref qt, .ref rf, .int co])), (qu, .inr (2, [.ref qf, .ref bd, .ref cr, .ref wh, .int (nI day)])), (qf, .inl (cI, 9, .inl (upd (Q 0) d y)))] t.heap) (gA (gL [(gx, .inr (5, [.ref qu, .ref qt, .ref rf, .int co])), (qu, .inr (2, [.ref qf, .ref bd, .ref cr, .ref wh, .int (nI day)])), (qf, .inl (cI, 9, .inl (Q 0)))]))) 0 0 (gA (gL [(gx, .inr (5, [.ref qu, .ref qt, .ref rf, .int co])), (qu, .inr (2, [.ref qf, .ref bd, .ref cr, .ref wh, .int (nI day)])), (qf, .inl (cI, 9, .inl (Q 0)))])) := by
  refine Met.ofW (cc := cX5_setFall) (maxL := 4) (ret := (some .int)) (by decide +kernel) rfl ?_
  intro p e s m args below meth c s₁ B hml hv
  obtain ⟨rfl, hP, hK, hD0⟩ := hv
  have hx := B.exec
  have hb := B.bytes
  have hr := B.returns
  have hts := atoms_spec (ws := wsX5_setFall) B.pre
  have hown : s.vm.findClass RX5 = some m.cls := findClass_of_methodNamed B.named
  have hlocks := B.notSynchronized
  have hD := gw_self hD0
  generalize hAe : gA (gL [(gx, .inr (5, [.ref qu, .ref qt, .ref rf, .int co])), (qu, .inr (2, [.ref qf, .ref bd, .ref cr, .ref wh, .int (nI day)])), (qf, .inl (cI, 9, .inl (Q 0)))]) = A at hD ⊢
  have hS : va_S A s.heap s.heap [] := va_S.rf
  have hP : va_P D vwCl [(gx, .inr (5, [.ref qu, .ref qt, .ref rf, .int co])), (qu, .inr (2, [.ref qf, .ref bd, .ref cr, .ref wh, .int (nI day)])), (qf, .inl (cI, 9, .inl (Q 0)))] s.heap := hP
  have hl := lv_entry ([.ref gx, .int (nI d), .int y]) (n := 4) (Nat.le_of_ble_eq_true rfl)
  rw [lg_entry_eq]
  generalize (lg_sl ([.ref gx, .int (nI d), .int y]) ++ List.replicate (4 - (lg_sl ([.ref gx, .int (nI d), .int y])).length) Slot.unset).toArray = ls at hl ⊢
  have hl : lv_has ls 4 [(0, .ref gx), (1, .int (nI d)), (2, .int y)] := hl
  refine lv_iload_n hx hb dX5_setFall_0 rfl (lv_at hl 1 rfl) ?_
  refine lv_iconst (v := 0) hx hb dX5_setFall_1 (by decide) ?_
  refine lv_bipush (v := 8) hx hb dX5_setFall_2 (by decide) ?_
  refine va_calli (va_runS (As := [.int (nI d), .int 0, .int 8]) (rest := []) ⟨hx, hb, hml, hown, hts⟩ (met_X5_isWithin l D cI cZ cL (nI d) 0 8) (va_cwS 3 hts gX5_setFall_X5_isWithin rfl rfl rfl (by decide +kernel) ⟨Nat.le_of_ble_eq_true rfl, Nat.le_of_ble_eq_true rfl⟩) (gw_psr hK hP (wc := []) [] rfl) rfl rfl hl.1 rfl (lv_room (Nat.le_of_ble_eq_true rfl)) dX5_setFall_4 ⟨Nat.zero_le _, Nat.zero_le _⟩) hS (fun _ _ z => z.elim) (fun _ z => z.elim) (fun r_2 _ t H1 locs ht hvm hw hB hz1 hk1 hS => ?_)
  have hP := gw_ro hP hk1
  generalize H1 = H at hP hS ⊢
  rcases hw with ⟨rfl, hc⟩ | ⟨rfl, hc⟩
  · skip
    refine lv_if_ne (tgt := 20) hx hb dX5_setFall_7 (by decide) (fun _ => ?_) (fun c_4 => False.elim (by revert c_4; decide))
    refine lv_iload_n hx hb dX5_setFall_20 rfl (lv_at hl 2 rfl) ?_
    refine lv_iconst (v := 0) hx hb dX5_setFall_21 (by decide) ?_
    refine lv_bipush (v := 9) hx hb dX5_setFall_22 (by decide) ?_
    refine va_calli (va_runS (As := [.int y, .int 0, .int 9]) (rest := []) ⟨hx, hb, hml, hown, hts⟩ (met_X5_isWithin l D cI cZ cL y 0 9) (va_cwS 3 hts gX5_setFall_X5_isWithin rfl rfl rfl (by decide +kernel) ⟨Nat.le_of_ble_eq_true rfl, Nat.le_of_ble_eq_true rfl⟩) (gw_psr hK hP (wc := []) [] rfl) rfl rfl hl.1 rfl (lv_room (Nat.le_of_ble_eq_true rfl)) dX5_setFall_24 ⟨Nat.zero_le _, Nat.zero_le _⟩) hS (fun _ _ z => z.elim) (fun _ z => z.elim) (fun r_6 _ t H1 locs ht hvm hw hB hz1 hk1 hS => ?_)
    have hP := gw_ro hP hk1
    generalize H1 = H at hP hS ⊢
    rcases hw with ⟨rfl, hc⟩ | ⟨rfl, hc⟩
    · skip
      refine lv_if_ne (tgt := 40) hx hb dX5_setFall_27 (by decide) (fun _ => ?_) (fun c_8 => False.elim (by revert c_8; decide))
      refine lv_aload_n hx hb dX5_setFall_40 rfl (lv_at hl 0 rfl) ?_
      refine va_get (D := D) (ci := 5) (v := .ref qu) (C := RX5) (T := TX5) (N := 4) hx hb hts wc_X5_setFall_ok_X5 hown hK hP 0 rfl rfl 0 (by decide) (hts _ wd_X5_setFall_ok_1) (fun _ h9 => h9) rfl dX5_setFall_41 ?_
      refine va_get (D := D) (ci := 2) (v := .ref qf) (C := RX2) (T := TX2) (N := 5) hx hb hts wc_X5_setFall_ok_X2 hown hK hP 1 rfl rfl 0 (by decide) (hts _ wd_X5_setFall_ok_3) (fun _ h9 => h9) rfl dX5_setFall_44 ?_
      refine lv_iload_n hx hb dX5_setFall_47 rfl (lv_at hl 1 rfl) ?_
      refine gw_iald hx hb hK hP 2 0 (k := d) rfl rfl (by omega) (by decide) dX5_setFall_48 ?_
      refine lv_istore_n (lv' := [(3, .int (Q 0 d)), (0, .ref gx), (1, .int (nI d)), (2, .int y)]) hx hb dX5_setFall_49 rfl hl (by decide) rfl (fun ls hl => ?_)
      refine lv_aload_n hx hb dX5_setFall_50 rfl (lv_at hl 1 rfl) ?_
      refine va_get (D := D) (ci := 5) (v := .ref qu) (C := RX5) (T := TX5) (N := 4) hx hb hts wc_X5_setFall_ok_X5 hown hK hP 0 rfl rfl 0 (by decide) (hts _ wd_X5_setFall_ok_1) (fun _ h9 => h9) rfl dX5_setFall_51 ?_
      refine va_get (D := D) (ci := 2) (v := .ref qf) (C := RX2) (T := TX2) (N := 5) hx hb hts wc_X5_setFall_ok_X2 hown hK hP 1 rfl rfl 0 (by decide) (hts _ wd_X5_setFall_ok_3) (fun _ h9 => h9) rfl dX5_setFall_54 ?_
      refine lv_iload_n hx hb dX5_setFall_57 rfl (lv_at hl 2 rfl) ?_
      refine lv_iload_n hx hb dX5_setFall_58 rfl (lv_at hl 3 rfl) ?_
      refine gw_iast hx hb hK hP hD hS 2 0 (k := d) rfl rfl (by omega) (by decide) dX5_setFall_59 (fun H locs hP hD hS => ?_)
      have hP : va_P D vwCl [(gx, .inr (5, [.ref qu, .ref qt, .ref rf, .int co])), (qu, .inr (2, [.ref qf, .ref bd, .ref cr, .ref wh, .int (nI day)])), (qf, .inl (cI, 9, .inl (upd (Q 0) d y)))] H := hP
      have hD : va_D A [(gx, .inr (5, [.ref qu, .ref qt, .ref rf, .int co])), (qu, .inr (2, [.ref qf, .ref bd, .ref cr, .ref wh, .int (nI day)])), (qf, .inl (cI, 9, .inl (upd (Q 0) d y)))] := hD
      refine lv_iload_n hx hb dX5_setFall_60 rfl (lv_at hl 0 rfl) ?_
      subst hAe
      exact W.iret (v := Q 0 d) hx hb hr (fun t ht hW => ⟨⟨_, (), rfl, rfl, gw_hh ht hP⟩, hS.F ht⟩) hS.2.2 dX5_setFall_61
    · skip
      exact absurd hy hc
  · skip
    exact absurd (gw_in (n := 8) (by omega) (by decide)) hc

theorem wc_X5_open_ok_X5 : ∀ w ∈ u_ws RX5 TX5 4, w ∈ wsX5_open := by decide +kernel
theorem wd_X5_open_ok_1 : (.fieldLink RX5 10 "GritWheels" "now" "LGritWheels$Quarry;" : Cond) ∈ wsX5_open := by decide +kernel
theorem wc_X5_open_ok_X2 : ∀ w ∈ u_ws RX2 TX2 5, w ∈ wsX5_open := by decide +kernel
theorem wd_X5_open_ok_3 : (.fieldLink RX5 48 "GritWheels$Quarry" "beds" "LGritWheels$Beds;" : Cond) ∈ wsX5_open := by decide +kernel
theorem wc_X5_open_ok_X0 : ∀ w ∈ u_ws RX0 TX0 5, w ∈ wsX5_open := by decide +kernel
theorem wd_X5_open_ok_5 : (.fieldLink RX5 52 "GritWheels$Beds" "number" "I" : Cond) ∈ wsX5_open := by decide +kernel
set_option maxHeartbeats 4000000 in
set_option maxRecDepth 100000 in
theorem met_X5_open_ok (l : Launch) (D : va_G) (cI cZ cL : ClassId) (gx : Nat) (qu : Nat) (qt : Nat) (rf : Nat) (qf : Nat) (bd : Nat) (cr : Nat) (wh : Nat) (bd0 : Nat) (bd1 : Nat) (bd2 : Nat) (bd3 : Nat) (co : Int32) (Q : Nat → Nat → Int32) (nb : Nat) (day : Nat) (y1 : Int32) (y2 : Int32) (y3 : Int32) (hy1 : 1 ≤ y1 ∧ y1 ≤ 9) (hy2 : 0 ≤ y2 ∧ y2 ≤ 9) (hy3 : 0 ≤ y3 ∧ y3 ≤ 200) (hnb : nb < 5) : Met l yX5_open wsX5_open ({ frames := 1, cells := 0, slots := 0, locals := 23 }) (gPw [.ref gx, .int y1, .int y2, .int y3] D [(gx, .inr (5, [.ref qu, .ref qt, .ref rf, .int co])), (qu, .inr (2, [.ref qf, .ref bd, .ref cr, .ref wh, .int (nI day)])), (bd, .inr (0, [.ref bd0, .ref bd1, .ref bd2, .ref bd3, .int (nI nb)])), (bd0, .inl (cI, 5, .inl (Q 1))), (bd1, .inl (cI, 5, .inl (Q 2))), (bd2, .inl (cI, 5, .inl (Q 3)))] (gT cI cZ cL)) (va_Qi (fun (zr : Int32) (_ : Unit) => zr = nI nb) (fun _ t => va_P D vwCl [(gx, .inr (5, [.ref qu, .ref qt, .ref rf, .int co])), (qu, .inr (2, [.ref qf, .ref bd, .ref cr, .ref wh, .int (nI day)])), (bd, .inr (0, [.ref bd0, .ref bd1, .ref bd2, .ref bd3, .int (nI (nb + 1))])), (bd0, .inl (cI, 5, .inl (upd (Q 1) nb y1))), (bd1, .inl (cI, 5, .inl (upd (Q 2) nb y2))), (bd2, .inl (cI, 5, .inl (upd (Q 3) nb y3)))] t.heap) (gA (gL [(gx, .inr (5, [.ref qu, .ref qt, .ref rf, .int co])), (qu, .inr (2, [.ref qf, .ref bd, .ref cr, .ref wh, .int (nI day)])), (bd, .inr (0, [.ref bd0, .ref bd1, .ref bd2, .ref bd3, .int (nI nb)])), (bd0, .inl (cI, 5, .inl (Q 1))), (bd1, .inl (cI, 5, .inl (Q 2))), (bd2, .inl (cI, 5, .inl (Q 3)))]))) 0 0 (gA (gL [(gx, .inr (5, [.ref qu, .ref qt, .ref rf, .int co])), (qu, .inr (2, [.ref qf, .ref bd, .ref cr, .ref wh, .int (nI day)])), (bd, .inr (0, [.ref bd0, .ref bd1, .ref bd2, .ref bd3, .int (nI nb)])), (bd0, .inl (cI, 5, .inl (Q 1))), (bd1, .inl (cI, 5, .inl (Q 2))), (bd2, .inl (cI, 5, .inl (Q 3)))])) := by
  refine Met.ofW (cc := cX5_open) (maxL := 4) (ret := (some .int)) (by decide +kernel) rfl ?_
  intro p e s m args below meth c s₁ B hml hv
  obtain ⟨rfl, hP, hK, hD0⟩ := hv
  have hx := B.exec
  have hb := B.bytes
  have hr := B.returns
  have hts := atoms_spec (ws := wsX5_open) B.pre
  have hown : s.vm.findClass RX5 = some m.cls := findClass_of_methodNamed B.named
  have hlocks := B.notSynchronized
  have hD := gw_self hD0
  generalize hAe : gA (gL [(gx, .inr (5, [.ref qu, .ref qt, .ref rf, .int co])), (qu, .inr (2, [.ref qf, .ref bd, .ref cr, .ref wh, .int (nI day)])), (bd, .inr (0, [.ref bd0, .ref bd1, .ref bd2, .ref bd3, .int (nI nb)])), (bd0, .inl (cI, 5, .inl (Q 1))), (bd1, .inl (cI, 5, .inl (Q 2))), (bd2, .inl (cI, 5, .inl (Q 3)))]) = A at hD ⊢
  have hS : va_S A s.heap s.heap [] := va_S.rf
  have hP : va_P D vwCl [(gx, .inr (5, [.ref qu, .ref qt, .ref rf, .int co])), (qu, .inr (2, [.ref qf, .ref bd, .ref cr, .ref wh, .int (nI day)])), (bd, .inr (0, [.ref bd0, .ref bd1, .ref bd2, .ref bd3, .int (nI nb)])), (bd0, .inl (cI, 5, .inl (Q 1))), (bd1, .inl (cI, 5, .inl (Q 2))), (bd2, .inl (cI, 5, .inl (Q 3)))] s.heap := hP
  have hl := lv_entry ([.ref gx, .int y1, .int y2, .int y3]) (n := 4) (Nat.le_of_ble_eq_true rfl)
  rw [lg_entry_eq]
  generalize (lg_sl ([.ref gx, .int y1, .int y2, .int y3]) ++ List.replicate (4 - (lg_sl ([.ref gx, .int y1, .int y2, .int y3])).length) Slot.unset).toArray = ls at hl ⊢
  have hl : lv_has ls 4 [(0, .ref gx), (1, .int y1), (2, .int y2), (3, .int y3)] := hl
  refine lv_iload_n hx hb dX5_open_0 rfl (lv_at hl 1 rfl) ?_
  refine lv_iconst (v := 1) hx hb dX5_open_1 (by decide) ?_
  refine lv_bipush (v := 9) hx hb dX5_open_2 (by decide) ?_
  refine va_calli (va_runS (As := [.int y1, .int 1, .int 9]) (rest := []) ⟨hx, hb, hml, hown, hts⟩ (met_X5_isWithin l D cI cZ cL y1 1 9) (va_cwS 3 hts gX5_open_X5_isWithin rfl rfl rfl (by decide +kernel) ⟨Nat.le_of_ble_eq_true rfl, Nat.le_of_ble_eq_true rfl⟩) (gw_psr hK hP (wc := []) [] rfl) rfl rfl hl.1 rfl (lv_room (Nat.le_of_ble_eq_true rfl)) dX5_open_4 ⟨Nat.zero_le _, Nat.zero_le _⟩) hS (fun _ _ z => z.elim) (fun _ z => z.elim) (fun r_2 _ t H1 locs ht hvm hw hB hz1 hk1 hS => ?_)
  have hP := gw_ro hP hk1
  generalize H1 = H at hP hS ⊢
  rcases hw with ⟨rfl, hc⟩ | ⟨rfl, hc⟩
  · skip
    refine lv_if_eq (tgt := 31) hx hb dX5_open_7 (by decide) (fun c_4 => False.elim (by revert c_4; decide)) (fun _ => ?_)
    refine lv_iload_n hx hb dX5_open_10 rfl (lv_at hl 2 rfl) ?_
    refine lv_iconst (v := 0) hx hb dX5_open_11 (by decide) ?_
    refine lv_bipush (v := 9) hx hb dX5_open_12 (by decide) ?_
    refine va_calli (va_runS (As := [.int y2, .int 0, .int 9]) (rest := []) ⟨hx, hb, hml, hown, hts⟩ (met_X5_isWithin l D cI cZ cL y2 0 9) (va_cwS 3 hts gX5_open_X5_isWithin rfl rfl rfl (by decide +kernel) ⟨Nat.le_of_ble_eq_true rfl, Nat.le_of_ble_eq_true rfl⟩) (gw_psr hK hP (wc := []) [] rfl) rfl rfl hl.1 rfl (lv_room (Nat.le_of_ble_eq_true rfl)) dX5_open_14 ⟨Nat.zero_le _, Nat.zero_le _⟩) hS (fun _ _ z => z.elim) (fun _ z => z.elim) (fun r_6 _ t H1 locs ht hvm hw hB hz1 hk1 hS => ?_)
    have hP := gw_ro hP hk1
    generalize H1 = H at hP hS ⊢
    rcases hw with ⟨rfl, hc⟩ | ⟨rfl, hc⟩
    · skip
      refine lv_if_eq (tgt := 31) hx hb dX5_open_17 (by decide) (fun c_8 => False.elim (by revert c_8; decide)) (fun _ => ?_)
      refine lv_iload_n hx hb dX5_open_20 rfl (lv_at hl 3 rfl) ?_
      refine lv_iconst (v := 0) hx hb dX5_open_21 (by decide) ?_
      refine lv_sipush (v := 200) hx hb dX5_open_22 (by decide) ?_
      refine va_calli (va_runS (As := [.int y3, .int 0, .int 200]) (rest := []) ⟨hx, hb, hml, hown, hts⟩ (met_X5_isWithin l D cI cZ cL y3 0 200) (va_cwS 3 hts gX5_open_X5_isWithin rfl rfl rfl (by decide +kernel) ⟨Nat.le_of_ble_eq_true rfl, Nat.le_of_ble_eq_true rfl⟩) (gw_psr hK hP (wc := []) [] rfl) rfl rfl hl.1 rfl (lv_room (Nat.le_of_ble_eq_true rfl)) dX5_open_25 ⟨Nat.zero_le _, Nat.zero_le _⟩) hS (fun _ _ z => z.elim) (fun _ z => z.elim) (fun r_10 _ t H1 locs ht hvm hw hB hz1 hk1 hS => ?_)
      have hP := gw_ro hP hk1
      generalize H1 = H at hP hS ⊢
      rcases hw with ⟨rfl, hc⟩ | ⟨rfl, hc⟩
      · skip
        refine lv_if_ne (tgt := 41) hx hb dX5_open_28 (by decide) (fun _ => ?_) (fun c_12 => False.elim (by revert c_12; decide))
        refine lv_aload_n hx hb dX5_open_41 rfl (lv_at hl 0 rfl) ?_
        refine va_get (D := D) (ci := 5) (v := .ref qu) (C := RX5) (T := TX5) (N := 4) hx hb hts wc_X5_open_ok_X5 hown hK hP 0 rfl rfl 0 (by decide) (hts _ wd_X5_open_ok_1) (fun _ h9 => h9) rfl dX5_open_42 ?_
        refine va_get (D := D) (ci := 2) (v := .ref bd) (C := RX2) (T := TX2) (N := 5) hx hb hts wc_X5_open_ok_X2 hown hK hP 1 rfl rfl 1 (by decide) (hts _ wd_X5_open_ok_3) (fun _ h9 => h9) rfl dX5_open_45 ?_
        refine va_get (D := D) (ci := 0) (v := .int (nI nb)) (C := RX0) (T := TX0) (N := 5) hx hb hts wc_X5_open_ok_X0 hown hK hP 2 rfl rfl 4 (by decide) (hts _ wd_X5_open_ok_5) (fun _ h9 => h9) rfl dX5_open_48 ?_
        refine lv_iconst (v := 5) hx hb dX5_open_51 (by decide) ?_
        refine lv_icmp_lt (tgt := 65) hx hb dX5_open_52 (by decide) (fun c_13 => ?_) (fun c_13 => (by first | exact absurd c_13 (show nI nb < 5 from nI_lt hnb (by decide)) | exact absurd (show nI nb < 5 from nI_lt hnb (by decide)) c_13))
        refine lv_aload_n hx hb dX5_open_65 rfl (lv_at hl 0 rfl) ?_
        refine va_get (D := D) (ci := 5) (v := .ref qu) (C := RX5) (T := TX5) (N := 4) hx hb hts wc_X5_open_ok_X5 hown hK hP 0 rfl rfl 0 (by decide) (hts _ wd_X5_open_ok_1) (fun _ h9 => h9) rfl dX5_open_66 ?_
        refine va_get (D := D) (ci := 2) (v := .ref bd) (C := RX2) (T := TX2) (N := 5) hx hb hts wc_X5_open_ok_X2 hown hK hP 1 rfl rfl 1 (by decide) (hts _ wd_X5_open_ok_3) (fun _ h9 => h9) rfl dX5_open_69 ?_
        refine lv_iload_n hx hb dX5_open_72 rfl (lv_at hl 1 rfl) ?_
        refine lv_iload_n hx hb dX5_open_73 rfl (lv_at hl 2 rfl) ?_
        refine lv_iload_n hx hb dX5_open_74 rfl (lv_at hl 3 rfl) ?_
        have hFc := gw_free (wc := [(bd, .inr (0, [.ref bd0, .ref bd1, .ref bd2, .ref bd3, .int (nI nb)])), (bd0, .inl (cI, 5, .inl (Q 1))), (bd1, .inl (cI, 5, .inl (Q 2))), (bd2, .inl (cI, 5, .inl (Q 3)))]) hD [2, 3, 4, 5] rfl
        refine va_calli (va_runV (As := [.int y1, .int y2, .int y3]) (rest := []) ⟨hx, hb, hml, hown, hts⟩ (met_X0_add l D cI cZ cL bd bd0 bd1 bd2 bd3 nb (Q 1) (Q 2) (Q 3) y1 y2 y3 (by first | assumption | omega)) (cwV 3 hts gX5_open_X0_add rfl rfl rfl (by decide +kernel) ⟨Nat.le_of_ble_eq_true rfl, Nat.le_of_ble_eq_true rfl⟩) (gw_pvw hK hP hD (wc := [(bd, .inr (0, [.ref bd0, .ref bd1, .ref bd2, .ref bd3, .int (nI nb)])), (bd0, .inl (cI, 5, .inl (Q 1))), (bd1, .inl (cI, 5, .inl (Q 2))), (bd2, .inl (cI, 5, .inl (Q 3)))]) [2, 3, 4, 5] (by decide) rfl rfl 0 rfl rfl rfl) rfl rfl hl.1 rfl (lv_room (Nat.le_of_ble_eq_true rfl)) dX5_open_75 ⟨Nat.zero_le _, Nat.zero_le _⟩) hS (fun q _ h => hFc q h) hFc (fun r_15 _ t H1 locs ht hvm hw hB hz1 hk1 hS => ?_)
        rw [ht] at hB
        obtain ⟨hP, hD⟩ := gw_upd (wc := [(bd, .inr (0, [.ref bd0, .ref bd1, .ref bd2, .ref bd3, .int (nI nb)])), (bd0, .inl (cI, 5, .inl (Q 1))), (bd1, .inl (cI, 5, .inl (Q 2))), (bd2, .inl (cI, 5, .inl (Q 3)))]) (w1 := [(bd, .inr (0, [.ref bd0, .ref bd1, .ref bd2, .ref bd3, .int (nI (nb + 1))])), (bd0, .inl (cI, 5, .inl (upd (Q 1) nb y1))), (bd1, .inl (cI, 5, .inl (upd (Q 2) nb y2))), (bd2, .inl (cI, 5, .inl (upd (Q 3) nb y3)))]) (ws' := [(gx, .inr (5, [.ref qu, .ref qt, .ref rf, .int co])), (qu, .inr (2, [.ref qf, .ref bd, .ref cr, .ref wh, .int (nI day)])), (bd, .inr (0, [.ref bd0, .ref bd1, .ref bd2, .ref bd3, .int (nI (nb + 1))])), (bd0, .inl (cI, 5, .inl (upd (Q 1) nb y1))), (bd1, .inl (cI, 5, .inl (upd (Q 2) nb y2))), (bd2, .inl (cI, 5, .inl (upd (Q 3) nb y3)))]) hP hD [2, 3, 4, 5] rfl rfl hk1 hB rfl
        generalize H1 = H at hP hS ⊢
        subst hw
        subst hAe
        exact W.iret (v := nI nb) hx hb hr (fun t ht hW => ⟨⟨_, (), rfl, rfl, gw_hh ht hP⟩, hS.F ht⟩) hS.2.2 dX5_open_78
      · skip
        exact absurd hy3 hc
    · skip
      exact absurd hy2 hc
  · skip
    exact absurd hy1 hc

theorem wc_X5_hire_ok_X5 : ∀ w ∈ u_ws RX5 TX5 4, w ∈ wsX5_hire := by decide +kernel
theorem wd_X5_hire_ok_1 : (.fieldLink RX5 10 "GritWheels" "now" "LGritWheels$Quarry;" : Cond) ∈ wsX5_hire := by decide +kernel
theorem wc_X5_hire_ok_X2 : ∀ w ∈ u_ws RX2 TX2 5, w ∈ wsX5_hire := by decide +kernel
theorem wd_X5_hire_ok_3 : (.fieldLink RX5 69 "GritWheels$Quarry" "crew" "LGritWheels$Crew;" : Cond) ∈ wsX5_hire := by decide +kernel
theorem wc_X5_hire_ok_X1 : ∀ w ∈ u_ws RX1 TX1 5, w ∈ wsX5_hire := by decide +kernel
theorem wd_X5_hire_ok_5 : (.fieldLink RX5 73 "GritWheels$Crew" "number" "I" : Cond) ∈ wsX5_hire := by decide +kernel
set_option maxHeartbeats 4000000 in
set_option maxRecDepth 100000 in
theorem met_X5_hire_ok (l : Launch) (D : va_G) (cI cZ cL : ClassId) (gx : Nat) (qu : Nat) (qt : Nat) (rf : Nat) (qf : Nat) (bd : Nat) (cr : Nat) (wh : Nat) (cr0 : Nat) (cr1 : Nat) (cr2 : Nat) (cr3 : Nat) (co : Int32) (Q : Nat → Nat → Int32) (nq : Nat) (day : Nat) (y : Int32) (hy : 1 ≤ y ∧ y ≤ 9) (hnq : nq < 6) : Met l yX5_hire wsX5_hire ({ frames := 1, cells := 0, slots := 0, locals := 22 }) (gPw [.ref gx, .int y] D [(gx, .inr (5, [.ref qu, .ref qt, .ref rf, .int co])), (qu, .inr (2, [.ref qf, .ref bd, .ref cr, .ref wh, .int (nI day)])), (cr, .inr (1, [.ref cr0, .ref cr1, .ref cr2, .ref cr3, .int (nI nq)])), (cr0, .inl (cI, 6, .inl (Q 5))), (cr1, .inl (cI, 6, .inl (Q 6)))] (gT cI cZ cL)) (va_Qi (fun (zr : Int32) (_ : Unit) => zr = nI nq) (fun _ t => va_P D vwCl [(gx, .inr (5, [.ref qu, .ref qt, .ref rf, .int co])), (qu, .inr (2, [.ref qf, .ref bd, .ref cr, .ref wh, .int (nI day)])), (cr, .inr (1, [.ref cr0, .ref cr1, .ref cr2, .ref cr3, .int (nI (nq + 1))])), (cr0, .inl (cI, 6, .inl (upd (Q 5) nq y))), (cr1, .inl (cI, 6, .inl (upd (Q 6) nq (-1))))] t.heap) (gA (gL [(gx, .inr (5, [.ref qu, .ref qt, .ref rf, .int co])), (qu, .inr (2, [.ref qf, .ref bd, .ref cr, .ref wh, .int (nI day)])), (cr, .inr (1, [.ref cr0, .ref cr1, .ref cr2, .ref cr3, .int (nI nq)])), (cr0, .inl (cI, 6, .inl (Q 5))), (cr1, .inl (cI, 6, .inl (Q 6)))]))) 0 0 (gA (gL [(gx, .inr (5, [.ref qu, .ref qt, .ref rf, .int co])), (qu, .inr (2, [.ref qf, .ref bd, .ref cr, .ref wh, .int (nI day)])), (cr, .inr (1, [.ref cr0, .ref cr1, .ref cr2, .ref cr3, .int (nI nq)])), (cr0, .inl (cI, 6, .inl (Q 5))), (cr1, .inl (cI, 6, .inl (Q 6)))])) := by
  refine Met.ofW (cc := cX5_hire) (maxL := 2) (ret := (some .int)) (by decide +kernel) rfl ?_
  intro p e s m args below meth c s₁ B hml hv
  obtain ⟨rfl, hP, hK, hD0⟩ := hv
  have hx := B.exec
  have hb := B.bytes
  have hr := B.returns
  have hts := atoms_spec (ws := wsX5_hire) B.pre
  have hown : s.vm.findClass RX5 = some m.cls := findClass_of_methodNamed B.named
  have hlocks := B.notSynchronized
  have hD := gw_self hD0
  generalize hAe : gA (gL [(gx, .inr (5, [.ref qu, .ref qt, .ref rf, .int co])), (qu, .inr (2, [.ref qf, .ref bd, .ref cr, .ref wh, .int (nI day)])), (cr, .inr (1, [.ref cr0, .ref cr1, .ref cr2, .ref cr3, .int (nI nq)])), (cr0, .inl (cI, 6, .inl (Q 5))), (cr1, .inl (cI, 6, .inl (Q 6)))]) = A at hD ⊢
  have hS : va_S A s.heap s.heap [] := va_S.rf
  have hP : va_P D vwCl [(gx, .inr (5, [.ref qu, .ref qt, .ref rf, .int co])), (qu, .inr (2, [.ref qf, .ref bd, .ref cr, .ref wh, .int (nI day)])), (cr, .inr (1, [.ref cr0, .ref cr1, .ref cr2, .ref cr3, .int (nI nq)])), (cr0, .inl (cI, 6, .inl (Q 5))), (cr1, .inl (cI, 6, .inl (Q 6)))] s.heap := hP
  have hl := lv_entry ([.ref gx, .int y]) (n := 2) (Nat.le_of_ble_eq_true rfl)
  rw [lg_entry_eq]
  generalize (lg_sl ([.ref gx, .int y]) ++ List.replicate (2 - (lg_sl ([.ref gx, .int y])).length) Slot.unset).toArray = ls at hl ⊢
  have hl : lv_has ls 2 [(0, .ref gx), (1, .int y)] := hl
  refine lv_iload_n hx hb dX5_hire_0 rfl (lv_at hl 1 rfl) ?_
  refine lv_iconst (v := 1) hx hb dX5_hire_1 (by decide) ?_
  refine lv_bipush (v := 9) hx hb dX5_hire_2 (by decide) ?_
  refine va_calli (va_runS (As := [.int y, .int 1, .int 9]) (rest := []) ⟨hx, hb, hml, hown, hts⟩ (met_X5_isWithin l D cI cZ cL y 1 9) (va_cwS 3 hts gX5_hire_X5_isWithin rfl rfl rfl (by decide +kernel) ⟨Nat.le_of_ble_eq_true rfl, Nat.le_of_ble_eq_true rfl⟩) (gw_psr hK hP (wc := []) [] rfl) rfl rfl hl.1 rfl (lv_room (Nat.le_of_ble_eq_true rfl)) dX5_hire_4 ⟨Nat.zero_le _, Nat.zero_le _⟩) hS (fun _ _ z => z.elim) (fun _ z => z.elim) (fun r_2 _ t H1 locs ht hvm hw hB hz1 hk1 hS => ?_)
  have hP := gw_ro hP hk1
  generalize H1 = H at hP hS ⊢
  rcases hw with ⟨rfl, hc⟩ | ⟨rfl, hc⟩
  · skip
    refine lv_if_ne (tgt := 20) hx hb dX5_hire_7 (by decide) (fun _ => ?_) (fun c_4 => False.elim (by revert c_4; decide))
    refine lv_aload_n hx hb dX5_hire_20 rfl (lv_at hl 0 rfl) ?_
    refine va_get (D := D) (ci := 5) (v := .ref qu) (C := RX5) (T := TX5) (N := 4) hx hb hts wc_X5_hire_ok_X5 hown hK hP 0 rfl rfl 0 (by decide) (hts _ wd_X5_hire_ok_1) (fun _ h9 => h9) rfl dX5_hire_21 ?_
    refine va_get (D := D) (ci := 2) (v := .ref cr) (C := RX2) (T := TX2) (N := 5) hx hb hts wc_X5_hire_ok_X2 hown hK hP 1 rfl rfl 2 (by decide) (hts _ wd_X5_hire_ok_3) (fun _ h9 => h9) rfl dX5_hire_24 ?_
    refine va_get (D := D) (ci := 1) (v := .int (nI nq)) (C := RX1) (T := TX1) (N := 5) hx hb hts wc_X5_hire_ok_X1 hown hK hP 2 rfl rfl 4 (by decide) (hts _ wd_X5_hire_ok_5) (fun _ h9 => h9) rfl dX5_hire_27 ?_
    refine lv_bipush (v := 6) hx hb dX5_hire_30 (by decide) ?_
    refine lv_icmp_lt (tgt := 45) hx hb dX5_hire_32 (by decide) (fun c_5 => ?_) (fun c_5 => (by first | exact absurd c_5 (show nI nq < 6 from nI_lt hnq (by decide)) | exact absurd (show nI nq < 6 from nI_lt hnq (by decide)) c_5))
    refine lv_aload_n hx hb dX5_hire_45 rfl (lv_at hl 0 rfl) ?_
    refine va_get (D := D) (ci := 5) (v := .ref qu) (C := RX5) (T := TX5) (N := 4) hx hb hts wc_X5_hire_ok_X5 hown hK hP 0 rfl rfl 0 (by decide) (hts _ wd_X5_hire_ok_1) (fun _ h9 => h9) rfl dX5_hire_46 ?_
    refine va_get (D := D) (ci := 2) (v := .ref cr) (C := RX2) (T := TX2) (N := 5) hx hb hts wc_X5_hire_ok_X2 hown hK hP 1 rfl rfl 2 (by decide) (hts _ wd_X5_hire_ok_3) (fun _ h9 => h9) rfl dX5_hire_49 ?_
    refine lv_iload_n hx hb dX5_hire_52 rfl (lv_at hl 1 rfl) ?_
    have hFc := gw_free (wc := [(cr, .inr (1, [.ref cr0, .ref cr1, .ref cr2, .ref cr3, .int (nI nq)])), (cr0, .inl (cI, 6, .inl (Q 5))), (cr1, .inl (cI, 6, .inl (Q 6)))]) hD [2, 3, 4] rfl
    refine va_calli (va_runV (As := [.int y]) (rest := []) ⟨hx, hb, hml, hown, hts⟩ (met_X1_add l D cI cZ cL cr cr0 cr1 cr2 cr3 nq (Q 5) (Q 6) y (by first | assumption | omega)) (cwV 1 hts gX5_hire_X1_add rfl rfl rfl (by decide +kernel) ⟨Nat.le_of_ble_eq_true rfl, Nat.le_of_ble_eq_true rfl⟩) (gw_pvw hK hP hD (wc := [(cr, .inr (1, [.ref cr0, .ref cr1, .ref cr2, .ref cr3, .int (nI nq)])), (cr0, .inl (cI, 6, .inl (Q 5))), (cr1, .inl (cI, 6, .inl (Q 6)))]) [2, 3, 4] (by decide) rfl rfl 1 rfl rfl rfl) rfl rfl hl.1 rfl (lv_room (Nat.le_of_ble_eq_true rfl)) dX5_hire_53 ⟨Nat.zero_le _, Nat.zero_le _⟩) hS (fun q _ h => hFc q h) hFc (fun r_7 _ t H1 locs ht hvm hw hB hz1 hk1 hS => ?_)
    rw [ht] at hB
    obtain ⟨hP, hD⟩ := gw_upd (wc := [(cr, .inr (1, [.ref cr0, .ref cr1, .ref cr2, .ref cr3, .int (nI nq)])), (cr0, .inl (cI, 6, .inl (Q 5))), (cr1, .inl (cI, 6, .inl (Q 6)))]) (w1 := [(cr, .inr (1, [.ref cr0, .ref cr1, .ref cr2, .ref cr3, .int (nI (nq + 1))])), (cr0, .inl (cI, 6, .inl (upd (Q 5) nq y))), (cr1, .inl (cI, 6, .inl (upd (Q 6) nq (-1))))]) (ws' := [(gx, .inr (5, [.ref qu, .ref qt, .ref rf, .int co])), (qu, .inr (2, [.ref qf, .ref bd, .ref cr, .ref wh, .int (nI day)])), (cr, .inr (1, [.ref cr0, .ref cr1, .ref cr2, .ref cr3, .int (nI (nq + 1))])), (cr0, .inl (cI, 6, .inl (upd (Q 5) nq y))), (cr1, .inl (cI, 6, .inl (upd (Q 6) nq (-1))))]) hP hD [2, 3, 4] rfl rfl hk1 hB rfl
    generalize H1 = H at hP hS ⊢
    subst hw
    subst hAe
    exact W.iret (v := nI nq) hx hb hr (fun t ht hW => ⟨⟨_, (), rfl, rfl, gw_hh ht hP⟩, hS.F ht⟩) hS.2.2 dX5_hire_56
  · skip
    exact absurd hy hc

theorem wc_X5_send_ok_X5 : ∀ w ∈ u_ws RX5 TX5 4, w ∈ wsX5_send := by decide +kernel
theorem wd_X5_send_ok_1 : (.fieldLink RX5 10 "GritWheels" "now" "LGritWheels$Quarry;" : Cond) ∈ wsX5_send := by decide +kernel
theorem wc_X5_send_ok_X2 : ∀ w ∈ u_ws RX2 TX2 5, w ∈ wsX5_send := by decide +kernel
theorem wd_X5_send_ok_3 : (.fieldLink RX5 69 "GritWheels$Quarry" "crew" "LGritWheels$Crew;" : Cond) ∈ wsX5_send := by decide +kernel
theorem wc_X5_send_ok_X1 : ∀ w ∈ u_ws RX1 TX1 5, w ∈ wsX5_send := by decide +kernel
theorem wd_X5_send_ok_5 : (.fieldLink RX5 90 "GritWheels$Crew" "place" "[I" : Cond) ∈ wsX5_send := by decide +kernel
theorem wd_X5_send_ok_6 : (.fieldLink RX5 48 "GritWheels$Quarry" "beds" "LGritWheels$Beds;" : Cond) ∈ wsX5_send := by decide +kernel
set_option maxHeartbeats 4000000 in
set_option maxRecDepth 100000 in
theorem met_X5_send_ok (l : Launch) (D : va_G) (cI cZ cL : ClassId) (gx : Nat) (qu : Nat) (qt : Nat) (rf : Nat) (qf : Nat) (bd : Nat) (cr : Nat) (wh : Nat) (bd0 : Nat) (bd1 : Nat) (bd2 : Nat) (bd3 : Nat) (cr0 : Nat) (cr1 : Nat) (cr2 : Nat) (cr3 : Nat) (co : Int32) (Q : Nat → Nat → Int32) (nb : Nat) (nq : Nat) (day : Nat) (k : Nat) (x : Int32) (hk : k < nq) (hnq : nq ≤ 6) (hnb : nb ≤ 5) (hxx : x = -1 ∨ ∃ kk, kk < nb ∧ x = nI kk) : Met l yX5_send wsX5_send ({ frames := 1, cells := 0, slots := 0, locals := 21 }) (gPw [.ref gx, .int (nI k), .int x] D [(gx, .inr (5, [.ref qu, .ref qt, .ref rf, .int co])), (qu, .inr (2, [.ref qf, .ref bd, .ref cr, .ref wh, .int (nI day)])), (bd, .inr (0, [.ref bd0, .ref bd1, .ref bd2, .ref bd3, .int (nI nb)])), (cr, .inr (1, [.ref cr0, .ref cr1, .ref cr2, .ref cr3, .int (nI nq)])), (cr1, .inl (cI, 6, .inl (Q 6)))] (gT cI cZ cL)) (va_Qi (fun (zr : Int32) (_ : Unit) => zr = Q 6 k) (fun _ t => va_P D vwCl [(gx, .inr (5, [.ref qu, .ref qt, .ref rf, .int co])), (qu, .inr (2, [.ref qf, .ref bd, .ref cr, .ref wh, .int (nI day)])), (bd, .inr (0, [.ref bd0, .ref bd1, .ref bd2, .ref bd3, .int (nI nb)])), (cr, .inr (1, [.ref cr0, .ref cr1, .ref cr2, .ref cr3, .int (nI nq)])), (cr1, .inl (cI, 6, .inl (upd (Q 6) k x)))] t.heap) (gA (gL [(gx, .inr (5, [.ref qu, .ref qt, .ref rf, .int co])), (qu, .inr (2, [.ref qf, .ref bd, .ref cr, .ref wh, .int (nI day)])), (bd, .inr (0, [.ref bd0, .ref bd1, .ref bd2, .ref bd3, .int (nI nb)])), (cr, .inr (1, [.ref cr0, .ref cr1, .ref cr2, .ref cr3, .int (nI nq)])), (cr1, .inl (cI, 6, .inl (Q 6)))]))) 0 0 (gA (gL [(gx, .inr (5, [.ref qu, .ref qt, .ref rf, .int co])), (qu, .inr (2, [.ref qf, .ref bd, .ref cr, .ref wh, .int (nI day)])), (bd, .inr (0, [.ref bd0, .ref bd1, .ref bd2, .ref bd3, .int (nI nb)])), (cr, .inr (1, [.ref cr0, .ref cr1, .ref cr2, .ref cr3, .int (nI nq)])), (cr1, .inl (cI, 6, .inl (Q 6)))])) := by
  refine Met.ofW (cc := cX5_send) (maxL := 4) (ret := (some .int)) (by decide +kernel) rfl ?_
  intro p e s m args below meth c s₁ B hml hv
  obtain ⟨rfl, hP, hK, hD0⟩ := hv
  have hx := B.exec
  have hb := B.bytes
  have hr := B.returns
  have hts := atoms_spec (ws := wsX5_send) B.pre
  have hown : s.vm.findClass RX5 = some m.cls := findClass_of_methodNamed B.named
  have hlocks := B.notSynchronized
  have hD := gw_self hD0
  generalize hAe : gA (gL [(gx, .inr (5, [.ref qu, .ref qt, .ref rf, .int co])), (qu, .inr (2, [.ref qf, .ref bd, .ref cr, .ref wh, .int (nI day)])), (bd, .inr (0, [.ref bd0, .ref bd1, .ref bd2, .ref bd3, .int (nI nb)])), (cr, .inr (1, [.ref cr0, .ref cr1, .ref cr2, .ref cr3, .int (nI nq)])), (cr1, .inl (cI, 6, .inl (Q 6)))]) = A at hD ⊢
  have hS : va_S A s.heap s.heap [] := va_S.rf
  have hP : va_P D vwCl [(gx, .inr (5, [.ref qu, .ref qt, .ref rf, .int co])), (qu, .inr (2, [.ref qf, .ref bd, .ref cr, .ref wh, .int (nI day)])), (bd, .inr (0, [.ref bd0, .ref bd1, .ref bd2, .ref bd3, .int (nI nb)])), (cr, .inr (1, [.ref cr0, .ref cr1, .ref cr2, .ref cr3, .int (nI nq)])), (cr1, .inl (cI, 6, .inl (Q 6)))] s.heap := hP
  have hl := lv_entry ([.ref gx, .int (nI k), .int x]) (n := 4) (Nat.le_of_ble_eq_true rfl)
  rw [lg_entry_eq]
  generalize (lg_sl ([.ref gx, .int (nI k), .int x]) ++ List.replicate (4 - (lg_sl ([.ref gx, .int (nI k), .int x])).length) Slot.unset).toArray = ls at hl ⊢
  have hl : lv_has ls 4 [(0, .ref gx), (1, .int (nI k)), (2, .int x)] := hl
  refine lv_aload_n hx hb dX5_send_0 rfl (lv_at hl 0 rfl) ?_
  refine va_get (D := D) (ci := 5) (v := .ref qu) (C := RX5) (T := TX5) (N := 4) hx hb hts wc_X5_send_ok_X5 hown hK hP 0 rfl rfl 0 (by decide) (hts _ wd_X5_send_ok_1) (fun _ h9 => h9) rfl dX5_send_1 ?_
  refine va_get (D := D) (ci := 2) (v := .ref cr) (C := RX2) (T := TX2) (N := 5) hx hb hts wc_X5_send_ok_X2 hown hK hP 1 rfl rfl 2 (by decide) (hts _ wd_X5_send_ok_3) (fun _ h9 => h9) rfl dX5_send_4 ?_
  refine lv_iload_n hx hb dX5_send_7 rfl (lv_at hl 1 rfl) ?_
  refine va_calli (va_runV (As := [.int (nI k)]) (rest := []) ⟨hx, hb, hml, hown, hts⟩ (met_X1_has l D cI cZ cL cr cr0 cr1 cr2 cr3 nq (nI k) (by first | assumption | omega)) (cwV 1 hts gX5_send_X1_has rfl rfl rfl (by decide +kernel) ⟨Nat.le_of_ble_eq_true rfl, Nat.le_of_ble_eq_true rfl⟩) (gw_pvr hK hP (wc := [(cr, .inr (1, [.ref cr0, .ref cr1, .ref cr2, .ref cr3, .int (nI nq)]))]) [3] rfl 1 rfl rfl rfl) rfl rfl hl.1 rfl (lv_room (Nat.le_of_ble_eq_true rfl)) dX5_send_8 ⟨Nat.zero_le _, Nat.zero_le _⟩) hS (fun _ _ z => z.elim) (fun _ z => z.elim) (fun r_2 _ t H1 locs ht hvm hw hB hz1 hk1 hS => ?_)
  have hP := gw_ro hP hk1
  generalize H1 = H at hP hS ⊢
  rcases hw with ⟨rfl, hc⟩ | ⟨rfl, hc⟩
  · skip
    refine lv_if_ne (tgt := 24) hx hb dX5_send_11 (by decide) (fun _ => ?_) (fun c_4 => False.elim (by revert c_4; decide))
    refine lv_iload_n hx hb dX5_send_24 rfl (lv_at hl 2 rfl) ?_
    refine lv_iconst (v := (-1)) hx hb dX5_send_25 (by decide) ?_
    refine lv_icmp_eq (tgt := 53) hx hb dX5_send_26 (by decide) (fun h1 => ?_) (fun h1 => ?_)
    · skip
      refine lv_aload_n hx hb dX5_send_53 rfl (lv_at hl 0 rfl) ?_
      refine va_get (D := D) (ci := 5) (v := .ref qu) (C := RX5) (T := TX5) (N := 4) hx hb hts wc_X5_send_ok_X5 hown hK hP 0 rfl rfl 0 (by decide) (hts _ wd_X5_send_ok_1) (fun _ h9 => h9) rfl dX5_send_54 ?_
      refine va_get (D := D) (ci := 2) (v := .ref cr) (C := RX2) (T := TX2) (N := 5) hx hb hts wc_X5_send_ok_X2 hown hK hP 1 rfl rfl 2 (by decide) (hts _ wd_X5_send_ok_3) (fun _ h9 => h9) rfl dX5_send_57 ?_
      refine va_get (D := D) (ci := 1) (v := .ref cr1) (C := RX1) (T := TX1) (N := 5) hx hb hts wc_X5_send_ok_X1 hown hK hP 3 rfl rfl 1 (by decide) (hts _ wd_X5_send_ok_5) (fun _ h9 => h9) rfl dX5_send_60 ?_
      refine lv_iload_n hx hb dX5_send_63 rfl (lv_at hl 1 rfl) ?_
      refine gw_iald hx hb hK hP 4 0 (k := k) rfl rfl (by omega) (by decide) dX5_send_64 ?_
      refine lv_istore_n (lv' := [(3, .int (Q 6 k)), (0, .ref gx), (1, .int (nI k)), (2, .int x)]) hx hb dX5_send_65 rfl hl (by decide) rfl (fun ls hl => ?_)
      refine lv_aload_n hx hb dX5_send_66 rfl (lv_at hl 1 rfl) ?_
      refine va_get (D := D) (ci := 5) (v := .ref qu) (C := RX5) (T := TX5) (N := 4) hx hb hts wc_X5_send_ok_X5 hown hK hP 0 rfl rfl 0 (by decide) (hts _ wd_X5_send_ok_1) (fun _ h9 => h9) rfl dX5_send_67 ?_
      refine va_get (D := D) (ci := 2) (v := .ref cr) (C := RX2) (T := TX2) (N := 5) hx hb hts wc_X5_send_ok_X2 hown hK hP 1 rfl rfl 2 (by decide) (hts _ wd_X5_send_ok_3) (fun _ h9 => h9) rfl dX5_send_70 ?_
      refine va_get (D := D) (ci := 1) (v := .ref cr1) (C := RX1) (T := TX1) (N := 5) hx hb hts wc_X5_send_ok_X1 hown hK hP 3 rfl rfl 1 (by decide) (hts _ wd_X5_send_ok_5) (fun _ h9 => h9) rfl dX5_send_73 ?_
      refine lv_iload_n hx hb dX5_send_76 rfl (lv_at hl 2 rfl) ?_
      refine lv_iload_n hx hb dX5_send_77 rfl (lv_at hl 3 rfl) ?_
      refine gw_iast hx hb hK hP hD hS 4 0 (k := k) rfl rfl (by omega) (by decide) dX5_send_78 (fun H locs hP hD hS => ?_)
      have hP : va_P D vwCl [(gx, .inr (5, [.ref qu, .ref qt, .ref rf, .int co])), (qu, .inr (2, [.ref qf, .ref bd, .ref cr, .ref wh, .int (nI day)])), (bd, .inr (0, [.ref bd0, .ref bd1, .ref bd2, .ref bd3, .int (nI nb)])), (cr, .inr (1, [.ref cr0, .ref cr1, .ref cr2, .ref cr3, .int (nI nq)])), (cr1, .inl (cI, 6, .inl (upd (Q 6) k x)))] H := hP
      have hD : va_D A [(gx, .inr (5, [.ref qu, .ref qt, .ref rf, .int co])), (qu, .inr (2, [.ref qf, .ref bd, .ref cr, .ref wh, .int (nI day)])), (bd, .inr (0, [.ref bd0, .ref bd1, .ref bd2, .ref bd3, .int (nI nb)])), (cr, .inr (1, [.ref cr0, .ref cr1, .ref cr2, .ref cr3, .int (nI nq)])), (cr1, .inl (cI, 6, .inl (upd (Q 6) k x)))] := hD
      refine lv_iload_n hx hb dX5_send_79 rfl (lv_at hl 0 rfl) ?_
      subst hAe
      exact W.iret (v := Q 6 k) hx hb hr (fun t ht hW => ⟨⟨_, (), rfl, rfl, gw_hh ht hP⟩, hS.F ht⟩) hS.2.2 dX5_send_80
    · skip
      refine lv_aload_n hx hb dX5_send_29 rfl (lv_at hl 0 rfl) ?_
      refine va_get (D := D) (ci := 5) (v := .ref qu) (C := RX5) (T := TX5) (N := 4) hx hb hts wc_X5_send_ok_X5 hown hK hP 0 rfl rfl 0 (by decide) (hts _ wd_X5_send_ok_1) (fun _ h9 => h9) rfl dX5_send_30 ?_
      refine va_get (D := D) (ci := 2) (v := .ref bd) (C := RX2) (T := TX2) (N := 5) hx hb hts wc_X5_send_ok_X2 hown hK hP 1 rfl rfl 1 (by decide) (hts _ wd_X5_send_ok_6) (fun _ h9 => h9) rfl dX5_send_33 ?_
      refine lv_iload_n hx hb dX5_send_36 rfl (lv_at hl 2 rfl) ?_
      refine va_calli (va_runV (As := [.int x]) (rest := []) ⟨hx, hb, hml, hown, hts⟩ (met_X0_has l D cI cZ cL bd bd0 bd1 bd2 bd3 nb x (by first | assumption | omega)) (cwV 1 hts gX5_send_X0_has rfl rfl rfl (by decide +kernel) ⟨Nat.le_of_ble_eq_true rfl, Nat.le_of_ble_eq_true rfl⟩) (gw_pvr hK hP (wc := [(bd, .inr (0, [.ref bd0, .ref bd1, .ref bd2, .ref bd3, .int (nI nb)]))]) [2] rfl 0 rfl rfl rfl) rfl rfl hl.1 rfl (lv_room (Nat.le_of_ble_eq_true rfl)) dX5_send_37 ⟨Nat.zero_le _, Nat.zero_le _⟩) hS (fun _ _ z => z.elim) (fun _ z => z.elim) (fun r_7 _ t H1 locs ht hvm hw hB hz1 hk1 hS => ?_)
      have hP := gw_ro hP hk1
      generalize H1 = H at hP hS ⊢
      rcases hw with ⟨rfl, hc⟩ | ⟨rfl, hc⟩
      · skip
        refine lv_if_ne (tgt := 53) hx hb dX5_send_40 (by decide) (fun _ => ?_) (fun c_9 => False.elim (by revert c_9; decide))
        refine lv_aload_n hx hb dX5_send_53 rfl (lv_at hl 0 rfl) ?_
        refine va_get (D := D) (ci := 5) (v := .ref qu) (C := RX5) (T := TX5) (N := 4) hx hb hts wc_X5_send_ok_X5 hown hK hP 0 rfl rfl 0 (by decide) (hts _ wd_X5_send_ok_1) (fun _ h9 => h9) rfl dX5_send_54 ?_
        refine va_get (D := D) (ci := 2) (v := .ref cr) (C := RX2) (T := TX2) (N := 5) hx hb hts wc_X5_send_ok_X2 hown hK hP 1 rfl rfl 2 (by decide) (hts _ wd_X5_send_ok_3) (fun _ h9 => h9) rfl dX5_send_57 ?_
        refine va_get (D := D) (ci := 1) (v := .ref cr1) (C := RX1) (T := TX1) (N := 5) hx hb hts wc_X5_send_ok_X1 hown hK hP 3 rfl rfl 1 (by decide) (hts _ wd_X5_send_ok_5) (fun _ h9 => h9) rfl dX5_send_60 ?_
        refine lv_iload_n hx hb dX5_send_63 rfl (lv_at hl 1 rfl) ?_
        refine gw_iald hx hb hK hP 4 0 (k := k) rfl rfl (by omega) (by decide) dX5_send_64 ?_
        refine lv_istore_n (lv' := [(3, .int (Q 6 k)), (0, .ref gx), (1, .int (nI k)), (2, .int x)]) hx hb dX5_send_65 rfl hl (by decide) rfl (fun ls hl => ?_)
        refine lv_aload_n hx hb dX5_send_66 rfl (lv_at hl 1 rfl) ?_
        refine va_get (D := D) (ci := 5) (v := .ref qu) (C := RX5) (T := TX5) (N := 4) hx hb hts wc_X5_send_ok_X5 hown hK hP 0 rfl rfl 0 (by decide) (hts _ wd_X5_send_ok_1) (fun _ h9 => h9) rfl dX5_send_67 ?_
        refine va_get (D := D) (ci := 2) (v := .ref cr) (C := RX2) (T := TX2) (N := 5) hx hb hts wc_X5_send_ok_X2 hown hK hP 1 rfl rfl 2 (by decide) (hts _ wd_X5_send_ok_3) (fun _ h9 => h9) rfl dX5_send_70 ?_
        refine va_get (D := D) (ci := 1) (v := .ref cr1) (C := RX1) (T := TX1) (N := 5) hx hb hts wc_X5_send_ok_X1 hown hK hP 3 rfl rfl 1 (by decide) (hts _ wd_X5_send_ok_5) (fun _ h9 => h9) rfl dX5_send_73 ?_
        refine lv_iload_n hx hb dX5_send_76 rfl (lv_at hl 2 rfl) ?_
        refine lv_iload_n hx hb dX5_send_77 rfl (lv_at hl 3 rfl) ?_
        refine gw_iast hx hb hK hP hD hS 4 0 (k := k) rfl rfl (by omega) (by decide) dX5_send_78 (fun H locs hP hD hS => ?_)
        have hP : va_P D vwCl [(gx, .inr (5, [.ref qu, .ref qt, .ref rf, .int co])), (qu, .inr (2, [.ref qf, .ref bd, .ref cr, .ref wh, .int (nI day)])), (bd, .inr (0, [.ref bd0, .ref bd1, .ref bd2, .ref bd3, .int (nI nb)])), (cr, .inr (1, [.ref cr0, .ref cr1, .ref cr2, .ref cr3, .int (nI nq)])), (cr1, .inl (cI, 6, .inl (upd (Q 6) k x)))] H := hP
        have hD : va_D A [(gx, .inr (5, [.ref qu, .ref qt, .ref rf, .int co])), (qu, .inr (2, [.ref qf, .ref bd, .ref cr, .ref wh, .int (nI day)])), (bd, .inr (0, [.ref bd0, .ref bd1, .ref bd2, .ref bd3, .int (nI nb)])), (cr, .inr (1, [.ref cr0, .ref cr1, .ref cr2, .ref cr3, .int (nI nq)])), (cr1, .inl (cI, 6, .inl (upd (Q 6) k x)))] := hD
        refine lv_iload_n hx hb dX5_send_79 rfl (lv_at hl 0 rfl) ?_
        subst hAe
        exact W.iret (v := Q 6 k) hx hb hr (fun t ht hW => ⟨⟨_, (), rfl, rfl, gw_hh ht hP⟩, hS.F ht⟩) hS.2.2 dX5_send_80
      · skip
        exact absurd (hxx.resolve_left h1) hc
  · skip
    exact absurd ⟨k, hk, rfl⟩ hc

theorem wc_X5_ring_ok_X5 : ∀ w ∈ u_ws RX5 TX5 4, w ∈ wsX5_ring := by decide +kernel
theorem wd_X5_ring_ok_1 : (.fieldLink RX5 10 "GritWheels" "now" "LGritWheels$Quarry;" : Cond) ∈ wsX5_ring := by decide +kernel
theorem wc_X5_ring_ok_X2 : ∀ w ∈ u_ws RX2 TX2 5, w ∈ wsX5_ring := by decide +kernel
theorem wd_X5_ring_ok_3 : (.fieldLink RX5 93 "GritWheels$Quarry" "wheels" "LGritWheels$Wheels;" : Cond) ∈ wsX5_ring := by decide +kernel
theorem wc_X5_ring_ok_X4 : ∀ w ∈ u_ws RX4 TX4 7, w ∈ wsX5_ring := by decide +kernel
theorem wd_X5_ring_ok_5 : (.fieldLink RX5 102 "GritWheels$Wheels" "state" "[I" : Cond) ∈ wsX5_ring := by decide +kernel
set_option maxHeartbeats 4000000 in
set_option maxRecDepth 100000 in
theorem met_X5_ring_ok (l : Launch) (D : va_G) (cI cZ cL : ClassId) (gx : Nat) (qu : Nat) (qt : Nat) (rf : Nat) (qf : Nat) (bd : Nat) (cr : Nat) (wh : Nat) (wh0 : Nat) (wh1 : Nat) (wh2 : Nat) (wh3 : Nat) (wh4 : Nat) (wh5 : Nat) (co : Int32) (Q : Nat → Nat → Int32) (nw : Nat) (day : Nat) (k : Nat) (hk : k < nw) (hnw : nw ≤ 60) (hst : Q 13 k < 3) : Met l yX5_ring wsX5_ring ({ frames := 1, cells := 0, slots := 0, locals := 21 }) (gPr [.ref gx, .int (nI k)] D [(gx, .inr (5, [.ref qu, .ref qt, .ref rf, .int co])), (qu, .inr (2, [.ref qf, .ref bd, .ref cr, .ref wh, .int (nI day)])), (wh, .inr (4, [.ref wh0, .ref wh1, .ref wh2, .ref wh3, .ref wh4, .ref wh5, .int (nI nw)])), (wh1, .inl (cI, 60, .inl (Q 10))), (wh2, .inl (cI, 60, .inl (Q 11))), (wh3, .inl (cZ, 60, .inl (Q 12))), (wh4, .inl (cI, 60, .inl (Q 13)))] (gT cI cZ cL)) (va_Qi (fun (zr : Int32) (_ : Unit) => zr = 50 - 4 * Q 11 k - Q 10 k - (if Q 12 k = 0 then 0 else 9)) (fun _ _ => True) gN) 0 0 gN := by
  refine Met.ofW (cc := cX5_ring) (maxL := 2) (ret := (some .int)) (by decide +kernel) rfl ?_
  intro p e s m args below meth c s₁ B hml hv
  obtain ⟨rfl, hP, hK⟩ := hv
  have hx := B.exec
  have hb := B.bytes
  have hr := B.returns
  have hts := atoms_spec (ws := wsX5_ring) B.pre
  have hown : s.vm.findClass RX5 = some m.cls := findClass_of_methodNamed B.named
  have hlocks := B.notSynchronized
  have hS : va_S gN s.heap s.heap [] := va_S.rf
  have hP : va_P D vwCl [(gx, .inr (5, [.ref qu, .ref qt, .ref rf, .int co])), (qu, .inr (2, [.ref qf, .ref bd, .ref cr, .ref wh, .int (nI day)])), (wh, .inr (4, [.ref wh0, .ref wh1, .ref wh2, .ref wh3, .ref wh4, .ref wh5, .int (nI nw)])), (wh1, .inl (cI, 60, .inl (Q 10))), (wh2, .inl (cI, 60, .inl (Q 11))), (wh3, .inl (cZ, 60, .inl (Q 12))), (wh4, .inl (cI, 60, .inl (Q 13)))] s.heap := hP
  have hl := lv_entry ([.ref gx, .int (nI k)]) (n := 2) (Nat.le_of_ble_eq_true rfl)
  rw [lg_entry_eq]
  generalize (lg_sl ([.ref gx, .int (nI k)]) ++ List.replicate (2 - (lg_sl ([.ref gx, .int (nI k)])).length) Slot.unset).toArray = ls at hl ⊢
  have hl : lv_has ls 2 [(0, .ref gx), (1, .int (nI k))] := hl
  refine lv_aload_n hx hb dX5_ring_0 rfl (lv_at hl 0 rfl) ?_
  refine va_get (D := D) (ci := 5) (v := .ref qu) (C := RX5) (T := TX5) (N := 4) hx hb hts wc_X5_ring_ok_X5 hown hK hP 0 rfl rfl 0 (by decide) (hts _ wd_X5_ring_ok_1) (fun _ h9 => h9) rfl dX5_ring_1 ?_
  refine va_get (D := D) (ci := 2) (v := .ref wh) (C := RX2) (T := TX2) (N := 5) hx hb hts wc_X5_ring_ok_X2 hown hK hP 1 rfl rfl 3 (by decide) (hts _ wd_X5_ring_ok_3) (fun _ h9 => h9) rfl dX5_ring_4 ?_
  refine lv_iload_n hx hb dX5_ring_7 rfl (lv_at hl 1 rfl) ?_
  refine va_calli (va_runV (As := [.int (nI k)]) (rest := []) ⟨hx, hb, hml, hown, hts⟩ (met_X4_has l D cI cZ cL wh wh0 wh1 wh2 wh3 wh4 wh5 nw (nI k) (by first | assumption | omega)) (cwV 1 hts gX5_ring_X4_has rfl rfl rfl (by decide +kernel) ⟨Nat.le_of_ble_eq_true rfl, Nat.le_of_ble_eq_true rfl⟩) (gw_pvr hK hP (wc := [(wh, .inr (4, [.ref wh0, .ref wh1, .ref wh2, .ref wh3, .ref wh4, .ref wh5, .int (nI nw)]))]) [2] rfl 4 rfl rfl rfl) rfl rfl hl.1 rfl (lv_room (Nat.le_of_ble_eq_true rfl)) dX5_ring_8 ⟨Nat.zero_le _, Nat.zero_le _⟩) hS (fun _ _ z => z.elim) (fun _ z => z.elim) (fun r_2 _ t H1 locs ht hvm hw hB hz1 hk1 hS => ?_)
  have hP := gw_ro hP hk1
  generalize H1 = H at hP hS ⊢
  rcases hw with ⟨rfl, hc⟩ | ⟨rfl, hc⟩
  · skip
    refine lv_if_ne (tgt := 24) hx hb dX5_ring_11 (by decide) (fun _ => ?_) (fun c_4 => False.elim (by revert c_4; decide))
    refine lv_aload_n hx hb dX5_ring_24 rfl (lv_at hl 0 rfl) ?_
    refine va_get (D := D) (ci := 5) (v := .ref qu) (C := RX5) (T := TX5) (N := 4) hx hb hts wc_X5_ring_ok_X5 hown hK hP 0 rfl rfl 0 (by decide) (hts _ wd_X5_ring_ok_1) (fun _ h9 => h9) rfl dX5_ring_25 ?_
    refine va_get (D := D) (ci := 2) (v := .ref wh) (C := RX2) (T := TX2) (N := 5) hx hb hts wc_X5_ring_ok_X2 hown hK hP 1 rfl rfl 3 (by decide) (hts _ wd_X5_ring_ok_3) (fun _ h9 => h9) rfl dX5_ring_28 ?_
    refine va_get (D := D) (ci := 4) (v := .ref wh4) (C := RX4) (T := TX4) (N := 7) hx hb hts wc_X5_ring_ok_X4 hown hK hP 2 rfl rfl 4 (by decide) (hts _ wd_X5_ring_ok_5) (fun _ h9 => h9) rfl dX5_ring_31 ?_
    refine lv_iload_n hx hb dX5_ring_34 rfl (lv_at hl 1 rfl) ?_
    refine gw_iald hx hb hK hP 6 0 (k := k) rfl rfl (by omega) (by decide) dX5_ring_35 ?_
    refine lv_iconst (v := 3) hx hb dX5_ring_36 (by decide) ?_
    refine lv_icmp_lt (tgt := 50) hx hb dX5_ring_37 (by decide) (fun c_5 => ?_) (fun c_5 => (by first | exact absurd c_5 hst | exact absurd hst c_5))
    refine lv_aload_n hx hb dX5_ring_50 rfl (lv_at hl 0 rfl) ?_
    refine va_get (D := D) (ci := 5) (v := .ref qu) (C := RX5) (T := TX5) (N := 4) hx hb hts wc_X5_ring_ok_X5 hown hK hP 0 rfl rfl 0 (by decide) (hts _ wd_X5_ring_ok_1) (fun _ h9 => h9) rfl dX5_ring_51 ?_
    refine va_get (D := D) (ci := 2) (v := .ref wh) (C := RX2) (T := TX2) (N := 5) hx hb hts wc_X5_ring_ok_X2 hown hK hP 1 rfl rfl 3 (by decide) (hts _ wd_X5_ring_ok_3) (fun _ h9 => h9) rfl dX5_ring_54 ?_
    refine lv_iload_n hx hb dX5_ring_57 rfl (lv_at hl 1 rfl) ?_
    refine va_calli (va_runV (As := [.int (nI k)]) (rest := []) ⟨hx, hb, hml, hown, hts⟩ (met_X4_tone l D cI cZ cL wh wh0 wh1 wh2 wh3 wh4 wh5 nw (Q 10) (Q 11) (Q 12) k (by first | assumption | omega)) (cwV 1 hts gX5_ring_X4_tone rfl rfl rfl (by decide +kernel) ⟨Nat.le_of_ble_eq_true rfl, Nat.le_of_ble_eq_true rfl⟩) (gw_pvr hK hP (wc := [(wh, .inr (4, [.ref wh0, .ref wh1, .ref wh2, .ref wh3, .ref wh4, .ref wh5, .int (nI nw)])), (wh1, .inl (cI, 60, .inl (Q 10))), (wh2, .inl (cI, 60, .inl (Q 11))), (wh3, .inl (cZ, 60, .inl (Q 12)))]) [2, 3, 4, 5] rfl 4 rfl rfl rfl) rfl rfl hl.1 rfl (lv_room (Nat.le_of_ble_eq_true rfl)) dX5_ring_58 ⟨Nat.zero_le _, Nat.zero_le _⟩) hS (fun _ _ z => z.elim) (fun _ z => z.elim) (fun r_7 _ t H1 locs ht hvm hw hB hz1 hk1 hS => ?_)
    have hP := gw_ro hP hk1
    generalize H1 = H at hP hS ⊢
    subst hw
    exact W.iret (v := 50 - 4 * (Q 11) k - (Q 10) k - (if (Q 12) k = 0 then 0 else 9)) hx hb hr (fun t ht hW => ⟨⟨_, (), rfl, rfl, trivial⟩, hS.F ht⟩) hS.2.2 dX5_ring_61
  · skip
    exact absurd ⟨k, hk, rfl⟩ hc

theorem wc_X5_smash_ok_X5 : ∀ w ∈ u_ws RX5 TX5 4, w ∈ wsX5_smash := by decide +kernel
theorem wd_X5_smash_ok_1 : (.fieldLink RX5 10 "GritWheels" "now" "LGritWheels$Quarry;" : Cond) ∈ wsX5_smash := by decide +kernel
theorem wc_X5_smash_ok_X2 : ∀ w ∈ u_ws RX2 TX2 5, w ∈ wsX5_smash := by decide +kernel
theorem wd_X5_smash_ok_3 : (.fieldLink RX5 93 "GritWheels$Quarry" "wheels" "LGritWheels$Wheels;" : Cond) ∈ wsX5_smash := by decide +kernel
theorem wc_X5_smash_ok_X4 : ∀ w ∈ u_ws RX4 TX4 7, w ∈ wsX5_smash := by decide +kernel
theorem wd_X5_smash_ok_5 : (.fieldLink RX5 102 "GritWheels$Wheels" "state" "[I" : Cond) ∈ wsX5_smash := by decide +kernel
theorem wd_X5_smash_ok_6 : (.fieldLink RX5 48 "GritWheels$Quarry" "beds" "LGritWheels$Beds;" : Cond) ∈ wsX5_smash := by decide +kernel
theorem wd_X5_smash_ok_7 : (.fieldLink RX5 112 "GritWheels$Wheels" "source" "[I" : Cond) ∈ wsX5_smash := by decide +kernel
theorem wd_X5_smash_ok_8 : (.fieldLink RX5 115 "GritWheels$Wheels" "size" "[I" : Cond) ∈ wsX5_smash := by decide +kernel
set_option maxHeartbeats 4000000 in
set_option maxRecDepth 100000 in
theorem met_X5_smash_ok (l : Launch) (D : va_G) (cI cZ cL : ClassId) (gx : Nat) (qu : Nat) (qt : Nat) (rf : Nat) (qf : Nat) (bd : Nat) (cr : Nat) (wh : Nat) (bd0 : Nat) (bd1 : Nat) (bd2 : Nat) (bd3 : Nat) (wh0 : Nat) (wh1 : Nat) (wh2 : Nat) (wh3 : Nat) (wh4 : Nat) (wh5 : Nat) (co : Int32) (Q : Nat → Nat → Int32) (nb : Nat) (nw : Nat) (day : Nat) (k : Nat) (b : Nat) (hk : k < nw) (hnw : nw ≤ 60) (hnb : nb ≤ 5) (hb2 : b < nb) (hso : Q 9 k = nI b) (hst : Q 13 k < 2) : Met l yX5_smash wsX5_smash ({ frames := 2, cells := 0, slots := 0, locals := 43 }) (gPw [.ref gx, .int (nI k)] D [(gx, .inr (5, [.ref qu, .ref qt, .ref rf, .int co])), (qu, .inr (2, [.ref qf, .ref bd, .ref cr, .ref wh, .int (nI day)])), (bd, .inr (0, [.ref bd0, .ref bd1, .ref bd2, .ref bd3, .int (nI nb)])), (bd2, .inl (cI, 5, .inl (Q 3))), (wh, .inr (4, [.ref wh0, .ref wh1, .ref wh2, .ref wh3, .ref wh4, .ref wh5, .int (nI nw)])), (wh0, .inl (cI, 60, .inl (Q 9))), (wh2, .inl (cI, 60, .inl (Q 11))), (wh4, .inl (cI, 60, .inl (Q 13)))] (gT cI cZ cL)) (va_Qi (fun (zr : Int32) (_ : Unit) => zr = if Q 3 b + Q 11 k / 2 < 200 then Q 3 b + Q 11 k / 2 else 200) (fun _ t => va_P D vwCl [(gx, .inr (5, [.ref qu, .ref qt, .ref rf, .int co])), (qu, .inr (2, [.ref qf, .ref bd, .ref cr, .ref wh, .int (nI day)])), (bd, .inr (0, [.ref bd0, .ref bd1, .ref bd2, .ref bd3, .int (nI nb)])), (bd2, .inl (cI, 5, .inl (upd (Q 3) b (if Q 3 b + Q 11 k / 2 < 200 then Q 3 b + Q 11 k / 2 else 200)))), (wh, .inr (4, [.ref wh0, .ref wh1, .ref wh2, .ref wh3, .ref wh4, .ref wh5, .int (nI nw)])), (wh0, .inl (cI, 60, .inl (Q 9))), (wh2, .inl (cI, 60, .inl (Q 11))), (wh4, .inl (cI, 60, .inl (upd (Q 13) k 4)))] t.heap) (gA (gL [(gx, .inr (5, [.ref qu, .ref qt, .ref rf, .int co])), (qu, .inr (2, [.ref qf, .ref bd, .ref cr, .ref wh, .int (nI day)])), (bd, .inr (0, [.ref bd0, .ref bd1, .ref bd2, .ref bd3, .int (nI nb)])), (bd2, .inl (cI, 5, .inl (Q 3))), (wh, .inr (4, [.ref wh0, .ref wh1, .ref wh2, .ref wh3, .ref wh4, .ref wh5, .int (nI nw)])), (wh0, .inl (cI, 60, .inl (Q 9))), (wh2, .inl (cI, 60, .inl (Q 11))), (wh4, .inl (cI, 60, .inl (Q 13)))]))) 0 0 (gA (gL [(gx, .inr (5, [.ref qu, .ref qt, .ref rf, .int co])), (qu, .inr (2, [.ref qf, .ref bd, .ref cr, .ref wh, .int (nI day)])), (bd, .inr (0, [.ref bd0, .ref bd1, .ref bd2, .ref bd3, .int (nI nb)])), (bd2, .inl (cI, 5, .inl (Q 3))), (wh, .inr (4, [.ref wh0, .ref wh1, .ref wh2, .ref wh3, .ref wh4, .ref wh5, .int (nI nw)])), (wh0, .inl (cI, 60, .inl (Q 9))), (wh2, .inl (cI, 60, .inl (Q 11))), (wh4, .inl (cI, 60, .inl (Q 13)))])) := by
  refine Met.ofW (cc := cX5_smash) (maxL := 2) (ret := (some .int)) (by decide +kernel) rfl ?_
  intro p e s m args below meth c s₁ B hml hv
  obtain ⟨rfl, hP, hK, hD0⟩ := hv
  have hx := B.exec
  have hb := B.bytes
  have hr := B.returns
  have hts := atoms_spec (ws := wsX5_smash) B.pre
  have hown : s.vm.findClass RX5 = some m.cls := findClass_of_methodNamed B.named
  have hlocks := B.notSynchronized
  have hD := gw_self hD0
  generalize hAe : gA (gL [(gx, .inr (5, [.ref qu, .ref qt, .ref rf, .int co])), (qu, .inr (2, [.ref qf, .ref bd, .ref cr, .ref wh, .int (nI day)])), (bd, .inr (0, [.ref bd0, .ref bd1, .ref bd2, .ref bd3, .int (nI nb)])), (bd2, .inl (cI, 5, .inl (Q 3))), (wh, .inr (4, [.ref wh0, .ref wh1, .ref wh2, .ref wh3, .ref wh4, .ref wh5, .int (nI nw)])), (wh0, .inl (cI, 60, .inl (Q 9))), (wh2, .inl (cI, 60, .inl (Q 11))), (wh4, .inl (cI, 60, .inl (Q 13)))]) = A at hD ⊢
  have hS : va_S A s.heap s.heap [] := va_S.rf
  have hP : va_P D vwCl [(gx, .inr (5, [.ref qu, .ref qt, .ref rf, .int co])), (qu, .inr (2, [.ref qf, .ref bd, .ref cr, .ref wh, .int (nI day)])), (bd, .inr (0, [.ref bd0, .ref bd1, .ref bd2, .ref bd3, .int (nI nb)])), (bd2, .inl (cI, 5, .inl (Q 3))), (wh, .inr (4, [.ref wh0, .ref wh1, .ref wh2, .ref wh3, .ref wh4, .ref wh5, .int (nI nw)])), (wh0, .inl (cI, 60, .inl (Q 9))), (wh2, .inl (cI, 60, .inl (Q 11))), (wh4, .inl (cI, 60, .inl (Q 13)))] s.heap := hP
  have hl := lv_entry ([.ref gx, .int (nI k)]) (n := 2) (Nat.le_of_ble_eq_true rfl)
  rw [lg_entry_eq]
  generalize (lg_sl ([.ref gx, .int (nI k)]) ++ List.replicate (2 - (lg_sl ([.ref gx, .int (nI k)])).length) Slot.unset).toArray = ls at hl ⊢
  have hl : lv_has ls 2 [(0, .ref gx), (1, .int (nI k))] := hl
  refine lv_aload_n hx hb dX5_smash_0 rfl (lv_at hl 0 rfl) ?_
  refine va_get (D := D) (ci := 5) (v := .ref qu) (C := RX5) (T := TX5) (N := 4) hx hb hts wc_X5_smash_ok_X5 hown hK hP 0 rfl rfl 0 (by decide) (hts _ wd_X5_smash_ok_1) (fun _ h9 => h9) rfl dX5_smash_1 ?_
  refine va_get (D := D) (ci := 2) (v := .ref wh) (C := RX2) (T := TX2) (N := 5) hx hb hts wc_X5_smash_ok_X2 hown hK hP 1 rfl rfl 3 (by decide) (hts _ wd_X5_smash_ok_3) (fun _ h9 => h9) rfl dX5_smash_4 ?_
  refine lv_iload_n hx hb dX5_smash_7 rfl (lv_at hl 1 rfl) ?_
  refine va_calli (va_runV (As := [.int (nI k)]) (rest := []) ⟨hx, hb, hml, hown, hts⟩ (met_X4_has l D cI cZ cL wh wh0 wh1 wh2 wh3 wh4 wh5 nw (nI k) (by first | assumption | omega)) (cwV 1 hts gX5_smash_X4_has rfl rfl rfl (by decide +kernel) ⟨Nat.le_of_ble_eq_true rfl, Nat.le_of_ble_eq_true rfl⟩) (gw_pvr hK hP (wc := [(wh, .inr (4, [.ref wh0, .ref wh1, .ref wh2, .ref wh3, .ref wh4, .ref wh5, .int (nI nw)]))]) [4] rfl 4 rfl rfl rfl) rfl rfl hl.1 rfl (lv_room (Nat.le_of_ble_eq_true rfl)) dX5_smash_8 ⟨Nat.zero_le _, Nat.zero_le _⟩) hS (fun _ _ z => z.elim) (fun _ z => z.elim) (fun r_2 _ t H1 locs ht hvm hw hB hz1 hk1 hS => ?_)
  have hP := gw_ro hP hk1
  generalize H1 = H at hP hS ⊢
  rcases hw with ⟨rfl, hc⟩ | ⟨rfl, hc⟩
  · skip
    refine lv_if_ne (tgt := 24) hx hb dX5_smash_11 (by decide) (fun _ => ?_) (fun c_4 => False.elim (by revert c_4; decide))
    refine lv_aload_n hx hb dX5_smash_24 rfl (lv_at hl 0 rfl) ?_
    refine va_get (D := D) (ci := 5) (v := .ref qu) (C := RX5) (T := TX5) (N := 4) hx hb hts wc_X5_smash_ok_X5 hown hK hP 0 rfl rfl 0 (by decide) (hts _ wd_X5_smash_ok_1) (fun _ h9 => h9) rfl dX5_smash_25 ?_
    refine va_get (D := D) (ci := 2) (v := .ref wh) (C := RX2) (T := TX2) (N := 5) hx hb hts wc_X5_smash_ok_X2 hown hK hP 1 rfl rfl 3 (by decide) (hts _ wd_X5_smash_ok_3) (fun _ h9 => h9) rfl dX5_smash_28 ?_
    refine va_get (D := D) (ci := 4) (v := .ref wh4) (C := RX4) (T := TX4) (N := 7) hx hb hts wc_X5_smash_ok_X4 hown hK hP 4 rfl rfl 4 (by decide) (hts _ wd_X5_smash_ok_5) (fun _ h9 => h9) rfl dX5_smash_31 ?_
    refine lv_iload_n hx hb dX5_smash_34 rfl (lv_at hl 1 rfl) ?_
    refine gw_iald hx hb hK hP 7 0 (k := k) rfl rfl (by omega) (by decide) dX5_smash_35 ?_
    refine lv_iconst (v := 2) hx hb dX5_smash_36 (by decide) ?_
    refine lv_icmp_lt (tgt := 50) hx hb dX5_smash_37 (by decide) (fun c_5 => ?_) (fun c_5 => (by first | exact absurd c_5 hst | exact absurd hst c_5))
    refine lv_aload_n hx hb dX5_smash_50 rfl (lv_at hl 0 rfl) ?_
    refine va_get (D := D) (ci := 5) (v := .ref qu) (C := RX5) (T := TX5) (N := 4) hx hb hts wc_X5_smash_ok_X5 hown hK hP 0 rfl rfl 0 (by decide) (hts _ wd_X5_smash_ok_1) (fun _ h9 => h9) rfl dX5_smash_51 ?_
    refine va_get (D := D) (ci := 2) (v := .ref wh) (C := RX2) (T := TX2) (N := 5) hx hb hts wc_X5_smash_ok_X2 hown hK hP 1 rfl rfl 3 (by decide) (hts _ wd_X5_smash_ok_3) (fun _ h9 => h9) rfl dX5_smash_54 ?_
    refine va_get (D := D) (ci := 4) (v := .ref wh4) (C := RX4) (T := TX4) (N := 7) hx hb hts wc_X5_smash_ok_X4 hown hK hP 4 rfl rfl 4 (by decide) (hts _ wd_X5_smash_ok_5) (fun _ h9 => h9) rfl dX5_smash_57 ?_
    refine lv_iload_n hx hb dX5_smash_60 rfl (lv_at hl 1 rfl) ?_
    refine lv_iconst (v := 4) hx hb dX5_smash_61 (by decide) ?_
    refine gw_iast hx hb hK hP hD hS 7 0 (k := k) rfl rfl (by omega) (by decide) dX5_smash_62 (fun H locs hP hD hS => ?_)
    have hP : va_P D vwCl [(gx, .inr (5, [.ref qu, .ref qt, .ref rf, .int co])), (qu, .inr (2, [.ref qf, .ref bd, .ref cr, .ref wh, .int (nI day)])), (bd, .inr (0, [.ref bd0, .ref bd1, .ref bd2, .ref bd3, .int (nI nb)])), (bd2, .inl (cI, 5, .inl (Q 3))), (wh, .inr (4, [.ref wh0, .ref wh1, .ref wh2, .ref wh3, .ref wh4, .ref wh5, .int (nI nw)])), (wh0, .inl (cI, 60, .inl (Q 9))), (wh2, .inl (cI, 60, .inl (Q 11))), (wh4, .inl (cI, 60, .inl (upd (Q 13) k 4)))] H := hP
    have hD : va_D A [(gx, .inr (5, [.ref qu, .ref qt, .ref rf, .int co])), (qu, .inr (2, [.ref qf, .ref bd, .ref cr, .ref wh, .int (nI day)])), (bd, .inr (0, [.ref bd0, .ref bd1, .ref bd2, .ref bd3, .int (nI nb)])), (bd2, .inl (cI, 5, .inl (Q 3))), (wh, .inr (4, [.ref wh0, .ref wh1, .ref wh2, .ref wh3, .ref wh4, .ref wh5, .int (nI nw)])), (wh0, .inl (cI, 60, .inl (Q 9))), (wh2, .inl (cI, 60, .inl (Q 11))), (wh4, .inl (cI, 60, .inl (upd (Q 13) k 4)))] := hD
    refine lv_aload_n hx hb dX5_smash_63 rfl (lv_at hl 0 rfl) ?_
    refine va_get (D := D) (ci := 5) (v := .ref qu) (C := RX5) (T := TX5) (N := 4) hx hb hts wc_X5_smash_ok_X5 hown hK hP 0 rfl rfl 0 (by decide) (hts _ wd_X5_smash_ok_1) (fun _ h9 => h9) rfl dX5_smash_64 ?_
    refine va_get (D := D) (ci := 2) (v := .ref bd) (C := RX2) (T := TX2) (N := 5) hx hb hts wc_X5_smash_ok_X2 hown hK hP 1 rfl rfl 1 (by decide) (hts _ wd_X5_smash_ok_6) (fun _ h9 => h9) rfl dX5_smash_67 ?_
    refine lv_aload_n hx hb dX5_smash_70 rfl (lv_at hl 0 rfl) ?_
    refine va_get (D := D) (ci := 5) (v := .ref qu) (C := RX5) (T := TX5) (N := 4) hx hb hts wc_X5_smash_ok_X5 hown hK hP 0 rfl rfl 0 (by decide) (hts _ wd_X5_smash_ok_1) (fun _ h9 => h9) rfl dX5_smash_71 ?_
    refine va_get (D := D) (ci := 2) (v := .ref wh) (C := RX2) (T := TX2) (N := 5) hx hb hts wc_X5_smash_ok_X2 hown hK hP 1 rfl rfl 3 (by decide) (hts _ wd_X5_smash_ok_3) (fun _ h9 => h9) rfl dX5_smash_74 ?_
    refine va_get (D := D) (ci := 4) (v := .ref wh0) (C := RX4) (T := TX4) (N := 7) hx hb hts wc_X5_smash_ok_X4 hown hK hP 4 rfl rfl 0 (by decide) (hts _ wd_X5_smash_ok_7) (fun _ h9 => h9) rfl dX5_smash_77 ?_
    refine lv_iload_n hx hb dX5_smash_80 rfl (lv_at hl 1 rfl) ?_
    refine gw_iald hx hb hK hP 5 0 (k := k) rfl rfl (by omega) (by decide) dX5_smash_81 ?_
    refine gw_top (y := nI b) hso ?_
    refine lv_aload_n hx hb dX5_smash_82 rfl (lv_at hl 0 rfl) ?_
    refine va_get (D := D) (ci := 5) (v := .ref qu) (C := RX5) (T := TX5) (N := 4) hx hb hts wc_X5_smash_ok_X5 hown hK hP 0 rfl rfl 0 (by decide) (hts _ wd_X5_smash_ok_1) (fun _ h9 => h9) rfl dX5_smash_83 ?_
    refine va_get (D := D) (ci := 2) (v := .ref wh) (C := RX2) (T := TX2) (N := 5) hx hb hts wc_X5_smash_ok_X2 hown hK hP 1 rfl rfl 3 (by decide) (hts _ wd_X5_smash_ok_3) (fun _ h9 => h9) rfl dX5_smash_86 ?_
    refine va_get (D := D) (ci := 4) (v := .ref wh2) (C := RX4) (T := TX4) (N := 7) hx hb hts wc_X5_smash_ok_X4 hown hK hP 4 rfl rfl 2 (by decide) (hts _ wd_X5_smash_ok_8) (fun _ h9 => h9) rfl dX5_smash_89 ?_
    refine lv_iload_n hx hb dX5_smash_92 rfl (lv_at hl 1 rfl) ?_
    refine gw_iald hx hb hK hP 6 0 (k := k) rfl rfl (by omega) (by decide) dX5_smash_93 ?_
    refine lv_iconst (v := 2) hx hb dX5_smash_94 (by decide) ?_
    refine lv_idiv hx hb dX5_smash_95 (by decide) ?_
    have hFc := gw_free (wc := [(bd, .inr (0, [.ref bd0, .ref bd1, .ref bd2, .ref bd3, .int (nI nb)])), (bd2, .inl (cI, 5, .inl (Q 3)))]) hD [2, 3] rfl
    refine va_calli (va_runV (As := [.int (nI b), .int ((Q 11 k) / 2)]) (rest := []) ⟨hx, hb, hml, hown, hts⟩ (met_X0_giveBack l D cI cZ cL bd bd0 bd1 bd2 bd3 nb (Q 3) b ((Q 11 k) / 2) (by first | assumption | omega) (by first | assumption | omega)) (cwV 2 hts gX5_smash_X0_giveBack rfl rfl rfl (by decide +kernel) ⟨Nat.le_of_ble_eq_true rfl, Nat.le_of_ble_eq_true rfl⟩) (gw_pvw hK hP hD (wc := [(bd, .inr (0, [.ref bd0, .ref bd1, .ref bd2, .ref bd3, .int (nI nb)])), (bd2, .inl (cI, 5, .inl (Q 3)))]) [2, 3] (by decide) rfl rfl 0 rfl rfl rfl) rfl rfl hl.1 rfl (lv_room (Nat.le_of_ble_eq_true rfl)) dX5_smash_96 ⟨Nat.zero_le _, Nat.zero_le _⟩) hS (fun q _ h => hFc q h) hFc (fun r_7 _ t H1 locs ht hvm hw hB hz1 hk1 hS => ?_)
    rw [ht] at hB
    obtain ⟨hP, hD⟩ := gw_upd (wc := [(bd, .inr (0, [.ref bd0, .ref bd1, .ref bd2, .ref bd3, .int (nI nb)])), (bd2, .inl (cI, 5, .inl (Q 3)))]) (w1 := [(bd, .inr (0, [.ref bd0, .ref bd1, .ref bd2, .ref bd3, .int (nI nb)])), (bd2, .inl (cI, 5, .inl (upd (Q 3) b (if (Q 3) b + ((Q 11 k) / 2) < 200 then (Q 3) b + ((Q 11 k) / 2) else 200))))]) (ws' := [(gx, .inr (5, [.ref qu, .ref qt, .ref rf, .int co])), (qu, .inr (2, [.ref qf, .ref bd, .ref cr, .ref wh, .int (nI day)])), (bd, .inr (0, [.ref bd0, .ref bd1, .ref bd2, .ref bd3, .int (nI nb)])), (bd2, .inl (cI, 5, .inl (upd (Q 3) b (if (Q 3) b + ((Q 11 k) / 2) < 200 then (Q 3) b + ((Q 11 k) / 2) else 200)))), (wh, .inr (4, [.ref wh0, .ref wh1, .ref wh2, .ref wh3, .ref wh4, .ref wh5, .int (nI nw)])), (wh0, .inl (cI, 60, .inl (Q 9))), (wh2, .inl (cI, 60, .inl (Q 11))), (wh4, .inl (cI, 60, .inl (upd (Q 13) k 4)))]) hP hD [2, 3] rfl rfl hk1 hB rfl
    generalize H1 = H at hP hS ⊢
    subst hw
    subst hAe
    exact W.iret (v := if (Q 3) b + ((Q 11 k) / 2) < 200 then (Q 3) b + ((Q 11 k) / 2) else 200) hx hb hr (fun t ht hW => ⟨⟨_, (), rfl, rfl, gw_hh ht hP⟩, hS.F ht⟩) hS.2.2 dX5_smash_99
  · skip
    exact absurd ⟨k, hk, rfl⟩ hc

theorem wc_X5_build_ok_X5 : ∀ w ∈ u_ws RX5 TX5 4, w ∈ wsX5_build := by decide +kernel
theorem wd_X5_build_ok_1 : (.fieldLink RX5 22 "GritWheels" "rafts" "LGritWheels$Rafts;" : Cond) ∈ wsX5_build := by decide +kernel
theorem wc_X5_build_ok_X3 : ∀ w ∈ u_ws RX3 TX3 3, w ∈ wsX5_build := by decide +kernel
theorem wd_X5_build_ok_3 : (.fieldLink RX5 124 "GritWheels$Rafts" "number" "I" : Cond) ∈ wsX5_build := by decide +kernel
set_option maxHeartbeats 4000000 in
set_option maxRecDepth 100000 in
theorem met_X5_build_ok (l : Launch) (D : va_G) (cI cZ cL : ClassId) (gx : Nat) (qu : Nat) (qt : Nat) (rf : Nat) (rf0 : Nat) (rf1 : Nat) (co : Int32) (nr : Nat) (ca : Nat → Int32) (y : Int32) (hy : 20 ≤ y ∧ y ≤ 400) (hnr : nr < 3) : Met l yX5_build wsX5_build ({ frames := 1, cells := 0, slots := 0, locals := 22 }) (gPw [.ref gx, .int y] D [(gx, .inr (5, [.ref qu, .ref qt, .ref rf, .int co])), (rf, .inr (3, [.ref rf0, .ref rf1, .int (nI nr)])), (rf0, .inl (cI, 3, .inl ca))] (gT cI cZ cL)) (va_Qi (fun (zr : Int32) (_ : Unit) => zr = nI nr) (fun _ t => va_P D vwCl [(gx, .inr (5, [.ref qu, .ref qt, .ref rf, .int co])), (rf, .inr (3, [.ref rf0, .ref rf1, .int (nI (nr + 1))])), (rf0, .inl (cI, 3, .inl (upd ca nr y)))] t.heap) (gA (gL [(gx, .inr (5, [.ref qu, .ref qt, .ref rf, .int co])), (rf, .inr (3, [.ref rf0, .ref rf1, .int (nI nr)])), (rf0, .inl (cI, 3, .inl ca))]))) 0 0 (gA (gL [(gx, .inr (5, [.ref qu, .ref qt, .ref rf, .int co])), (rf, .inr (3, [.ref rf0, .ref rf1, .int (nI nr)])), (rf0, .inl (cI, 3, .inl ca))])) := by
  refine Met.ofW (cc := cX5_build) (maxL := 2) (ret := (some .int)) (by decide +kernel) rfl ?_
  intro p e s m args below meth c s₁ B hml hv
  obtain ⟨rfl, hP, hK, hD0⟩ := hv
  have hx := B.exec
  have hb := B.bytes
  have hr := B.returns
  have hts := atoms_spec (ws := wsX5_build) B.pre
  have hown : s.vm.findClass RX5 = some m.cls := findClass_of_methodNamed B.named
  have hlocks := B.notSynchronized
  have hD := gw_self hD0
  generalize hAe : gA (gL [(gx, .inr (5, [.ref qu, .ref qt, .ref rf, .int co])), (rf, .inr (3, [.ref rf0, .ref rf1, .int (nI nr)])), (rf0, .inl (cI, 3, .inl ca))]) = A at hD ⊢
  have hS : va_S A s.heap s.heap [] := va_S.rf
  have hP : va_P D vwCl [(gx, .inr (5, [.ref qu, .ref qt, .ref rf, .int co])), (rf, .inr (3, [.ref rf0, .ref rf1, .int (nI nr)])), (rf0, .inl (cI, 3, .inl ca))] s.heap := hP
  have hl := lv_entry ([.ref gx, .int y]) (n := 2) (Nat.le_of_ble_eq_true rfl)
  rw [lg_entry_eq]
  generalize (lg_sl ([.ref gx, .int y]) ++ List.replicate (2 - (lg_sl ([.ref gx, .int y])).length) Slot.unset).toArray = ls at hl ⊢
  have hl : lv_has ls 2 [(0, .ref gx), (1, .int y)] := hl
  refine lv_iload_n hx hb dX5_build_0 rfl (lv_at hl 1 rfl) ?_
  refine lv_bipush (v := 20) hx hb dX5_build_1 (by decide) ?_
  refine lv_sipush (v := 400) hx hb dX5_build_3 (by decide) ?_
  refine va_calli (va_runS (As := [.int y, .int 20, .int 400]) (rest := []) ⟨hx, hb, hml, hown, hts⟩ (met_X5_isWithin l D cI cZ cL y 20 400) (va_cwS 3 hts gX5_build_X5_isWithin rfl rfl rfl (by decide +kernel) ⟨Nat.le_of_ble_eq_true rfl, Nat.le_of_ble_eq_true rfl⟩) (gw_psr hK hP (wc := []) [] rfl) rfl rfl hl.1 rfl (lv_room (Nat.le_of_ble_eq_true rfl)) dX5_build_6 ⟨Nat.zero_le _, Nat.zero_le _⟩) hS (fun _ _ z => z.elim) (fun _ z => z.elim) (fun r_2 _ t H1 locs ht hvm hw hB hz1 hk1 hS => ?_)
  have hP := gw_ro hP hk1
  generalize H1 = H at hP hS ⊢
  rcases hw with ⟨rfl, hc⟩ | ⟨rfl, hc⟩
  · skip
    refine lv_if_ne (tgt := 22) hx hb dX5_build_9 (by decide) (fun _ => ?_) (fun c_4 => False.elim (by revert c_4; decide))
    refine lv_aload_n hx hb dX5_build_22 rfl (lv_at hl 0 rfl) ?_
    refine va_get (D := D) (ci := 5) (v := .ref rf) (C := RX5) (T := TX5) (N := 4) hx hb hts wc_X5_build_ok_X5 hown hK hP 0 rfl rfl 2 (by decide) (hts _ wd_X5_build_ok_1) (fun _ h9 => h9) rfl dX5_build_23 ?_
    refine va_get (D := D) (ci := 3) (v := .int (nI nr)) (C := RX3) (T := TX3) (N := 3) hx hb hts wc_X5_build_ok_X3 hown hK hP 1 rfl rfl 2 (by decide) (hts _ wd_X5_build_ok_3) (fun _ h9 => h9) rfl dX5_build_26 ?_
    refine lv_iconst (v := 3) hx hb dX5_build_29 (by decide) ?_
    refine lv_icmp_lt (tgt := 43) hx hb dX5_build_30 (by decide) (fun c_5 => ?_) (fun c_5 => (by first | exact absurd c_5 (show nI nr < 3 from nI_lt hnr (by decide)) | exact absurd (show nI nr < 3 from nI_lt hnr (by decide)) c_5))
    refine lv_aload_n hx hb dX5_build_43 rfl (lv_at hl 0 rfl) ?_
    refine va_get (D := D) (ci := 5) (v := .ref rf) (C := RX5) (T := TX5) (N := 4) hx hb hts wc_X5_build_ok_X5 hown hK hP 0 rfl rfl 2 (by decide) (hts _ wd_X5_build_ok_1) (fun _ h9 => h9) rfl dX5_build_44 ?_
    refine lv_iload_n hx hb dX5_build_47 rfl (lv_at hl 1 rfl) ?_
    have hFc := gw_free (wc := [(rf, .inr (3, [.ref rf0, .ref rf1, .int (nI nr)])), (rf0, .inl (cI, 3, .inl ca))]) hD [1, 2] rfl
    refine va_calli (va_runV (As := [.int y]) (rest := []) ⟨hx, hb, hml, hown, hts⟩ (met_X3_add l D cI cZ cL rf rf0 rf1 nr ca y (by first | assumption | omega)) (cwV 1 hts gX5_build_X3_add rfl rfl rfl (by decide +kernel) ⟨Nat.le_of_ble_eq_true rfl, Nat.le_of_ble_eq_true rfl⟩) (gw_pvw hK hP hD (wc := [(rf, .inr (3, [.ref rf0, .ref rf1, .int (nI nr)])), (rf0, .inl (cI, 3, .inl ca))]) [1, 2] (by decide) rfl rfl 3 rfl rfl rfl) rfl rfl hl.1 rfl (lv_room (Nat.le_of_ble_eq_true rfl)) dX5_build_48 ⟨Nat.zero_le _, Nat.zero_le _⟩) hS (fun q _ h => hFc q h) hFc (fun r_7 _ t H1 locs ht hvm hw hB hz1 hk1 hS => ?_)
    rw [ht] at hB
    obtain ⟨hP, hD⟩ := gw_upd (wc := [(rf, .inr (3, [.ref rf0, .ref rf1, .int (nI nr)])), (rf0, .inl (cI, 3, .inl ca))]) (w1 := [(rf, .inr (3, [.ref rf0, .ref rf1, .int (nI (nr + 1))])), (rf0, .inl (cI, 3, .inl (upd ca nr y)))]) (ws' := [(gx, .inr (5, [.ref qu, .ref qt, .ref rf, .int co])), (rf, .inr (3, [.ref rf0, .ref rf1, .int (nI (nr + 1))])), (rf0, .inl (cI, 3, .inl (upd ca nr y)))]) hP hD [1, 2] rfl rfl hk1 hB rfl
    generalize H1 = H at hP hS ⊢
    subst hw
    subst hAe
    exact W.iret (v := nI nr) hx hb hr (fun t ht hW => ⟨⟨_, (), rfl, rfl, gw_hh ht hP⟩, hS.F ht⟩) hS.2.2 dX5_build_51
  · skip
    exact absurd hy hc

theorem wc_X5_load_ok_X5 : ∀ w ∈ u_ws RX5 TX5 4, w ∈ wsX5_load := by decide +kernel
theorem wd_X5_load_ok_1 : (.fieldLink RX5 10 "GritWheels" "now" "LGritWheels$Quarry;" : Cond) ∈ wsX5_load := by decide +kernel
theorem wc_X5_load_ok_X2 : ∀ w ∈ u_ws RX2 TX2 5, w ∈ wsX5_load := by decide +kernel
theorem wd_X5_load_ok_3 : (.fieldLink RX5 93 "GritWheels$Quarry" "wheels" "LGritWheels$Wheels;" : Cond) ∈ wsX5_load := by decide +kernel
theorem wd_X5_load_ok_4 : (.fieldLink RX5 22 "GritWheels" "rafts" "LGritWheels$Rafts;" : Cond) ∈ wsX5_load := by decide +kernel
theorem wc_X5_load_ok_X4 : ∀ w ∈ u_ws RX4 TX4 7, w ∈ wsX5_load := by decide +kernel
theorem wd_X5_load_ok_6 : (.fieldLink RX5 102 "GritWheels$Wheels" "state" "[I" : Cond) ∈ wsX5_load := by decide +kernel
theorem wd_X5_load_ok_7 : (.fieldLink RX5 133 "GritWheels$Quarry" "day" "I" : Cond) ∈ wsX5_load := by decide +kernel
set_option maxHeartbeats 4000000 in
set_option maxRecDepth 100000 in
theorem met_X5_load_ok (l : Launch) (D : va_G) (cI cZ cL : ClassId) (gx : Nat) (qu : Nat) (qt : Nat) (rf : Nat) (qf : Nat) (bd : Nat) (cr : Nat) (wh : Nat) (wh0 : Nat) (wh1 : Nat) (wh2 : Nat) (wh3 : Nat) (wh4 : Nat) (wh5 : Nat) (rf0 : Nat) (rf1 : Nat) (co : Int32) (Q : Nat → Nat → Int32) (nw : Nat) (day : Nat) (nr : Nat) (ca : Nat → Int32) (bo : Nat → Int32) (k : Nat) (r : Nat) (hk : k < nw) (hr2 : r < nr) (hnw : nw ≤ 60) (hnr : nr ≤ 3) (hst : Q 13 k = 1) (haw : ¬ nI day < bo r) (hle : 2 * Q 11 k * Q 11 k ≤ gStill Q nw ca r) : Met l yX5_load wsX5_load ({ frames := 3, cells := 0, slots := 0, locals := 65 }) (gPw [.ref gx, .int (nI k), .int (nI r)] D [(gx, .inr (5, [.ref qu, .ref qt, .ref rf, .int co])), (qu, .inr (2, [.ref qf, .ref bd, .ref cr, .ref wh, .int (nI day)])), (wh, .inr (4, [.ref wh0, .ref wh1, .ref wh2, .ref wh3, .ref wh4, .ref wh5, .int (nI nw)])), (wh2, .inl (cI, 60, .inl (Q 11))), (wh4, .inl (cI, 60, .inl (Q 13))), (wh5, .inl (cI, 60, .inl (Q 14))), (rf, .inr (3, [.ref rf0, .ref rf1, .int (nI nr)])), (rf0, .inl (cI, 3, .inl ca)), (rf1, .inl (cI, 3, .inl bo))] (gT cI cZ cL)) (va_Qi (fun (zr : Int32) (_ : Unit) => zr = gStill (gPut Q k r) nw ca r) (fun _ t => va_P D vwCl [(gx, .inr (5, [.ref qu, .ref qt, .ref rf, .int co])), (qu, .inr (2, [.ref qf, .ref bd, .ref cr, .ref wh, .int (nI day)])), (wh, .inr (4, [.ref wh0, .ref wh1, .ref wh2, .ref wh3, .ref wh4, .ref wh5, .int (nI nw)])), (wh2, .inl (cI, 60, .inl (gPut Q k r 11))), (wh4, .inl (cI, 60, .inl (gPut Q k r 13))), (wh5, .inl (cI, 60, .inl (gPut Q k r 14))), (rf, .inr (3, [.ref rf0, .ref rf1, .int (nI nr)])), (rf0, .inl (cI, 3, .inl ca)), (rf1, .inl (cI, 3, .inl bo))] t.heap) (gA (gL [(gx, .inr (5, [.ref qu, .ref qt, .ref rf, .int co])), (qu, .inr (2, [.ref qf, .ref bd, .ref cr, .ref wh, .int (nI day)])), (wh, .inr (4, [.ref wh0, .ref wh1, .ref wh2, .ref wh3, .ref wh4, .ref wh5, .int (nI nw)])), (wh2, .inl (cI, 60, .inl (Q 11))), (wh4, .inl (cI, 60, .inl (Q 13))), (wh5, .inl (cI, 60, .inl (Q 14))), (rf, .inr (3, [.ref rf0, .ref rf1, .int (nI nr)])), (rf0, .inl (cI, 3, .inl ca)), (rf1, .inl (cI, 3, .inl bo))]))) 0 0 (gA (gL [(gx, .inr (5, [.ref qu, .ref qt, .ref rf, .int co])), (qu, .inr (2, [.ref qf, .ref bd, .ref cr, .ref wh, .int (nI day)])), (wh, .inr (4, [.ref wh0, .ref wh1, .ref wh2, .ref wh3, .ref wh4, .ref wh5, .int (nI nw)])), (wh2, .inl (cI, 60, .inl (Q 11))), (wh4, .inl (cI, 60, .inl (Q 13))), (wh5, .inl (cI, 60, .inl (Q 14))), (rf, .inr (3, [.ref rf0, .ref rf1, .int (nI nr)])), (rf0, .inl (cI, 3, .inl ca)), (rf1, .inl (cI, 3, .inl bo))])) := by
  refine Met.ofW (cc := cX5_load) (maxL := 3) (ret := (some .int)) (by decide +kernel) rfl ?_
  intro p e s m args below meth c s₁ B hml hv
  obtain ⟨rfl, hP, hK, hD0⟩ := hv
  have hx := B.exec
  have hb := B.bytes
  have hr := B.returns
  have hts := atoms_spec (ws := wsX5_load) B.pre
  have hown : s.vm.findClass RX5 = some m.cls := findClass_of_methodNamed B.named
  have hlocks := B.notSynchronized
  have hD := gw_self hD0
  generalize hAe : gA (gL [(gx, .inr (5, [.ref qu, .ref qt, .ref rf, .int co])), (qu, .inr (2, [.ref qf, .ref bd, .ref cr, .ref wh, .int (nI day)])), (wh, .inr (4, [.ref wh0, .ref wh1, .ref wh2, .ref wh3, .ref wh4, .ref wh5, .int (nI nw)])), (wh2, .inl (cI, 60, .inl (Q 11))), (wh4, .inl (cI, 60, .inl (Q 13))), (wh5, .inl (cI, 60, .inl (Q 14))), (rf, .inr (3, [.ref rf0, .ref rf1, .int (nI nr)])), (rf0, .inl (cI, 3, .inl ca)), (rf1, .inl (cI, 3, .inl bo))]) = A at hD ⊢
  have hS : va_S A s.heap s.heap [] := va_S.rf
  have hP : va_P D vwCl [(gx, .inr (5, [.ref qu, .ref qt, .ref rf, .int co])), (qu, .inr (2, [.ref qf, .ref bd, .ref cr, .ref wh, .int (nI day)])), (wh, .inr (4, [.ref wh0, .ref wh1, .ref wh2, .ref wh3, .ref wh4, .ref wh5, .int (nI nw)])), (wh2, .inl (cI, 60, .inl (Q 11))), (wh4, .inl (cI, 60, .inl (Q 13))), (wh5, .inl (cI, 60, .inl (Q 14))), (rf, .inr (3, [.ref rf0, .ref rf1, .int (nI nr)])), (rf0, .inl (cI, 3, .inl ca)), (rf1, .inl (cI, 3, .inl bo))] s.heap := hP
  have hl := lv_entry ([.ref gx, .int (nI k), .int (nI r)]) (n := 3) (Nat.le_of_ble_eq_true rfl)
  rw [lg_entry_eq]
  generalize (lg_sl ([.ref gx, .int (nI k), .int (nI r)]) ++ List.replicate (3 - (lg_sl ([.ref gx, .int (nI k), .int (nI r)])).length) Slot.unset).toArray = ls at hl ⊢
  have hl : lv_has ls 3 [(0, .ref gx), (1, .int (nI k)), (2, .int (nI r))] := hl
  refine lv_aload_n hx hb dX5_load_0 rfl (lv_at hl 0 rfl) ?_
  refine va_get (D := D) (ci := 5) (v := .ref qu) (C := RX5) (T := TX5) (N := 4) hx hb hts wc_X5_load_ok_X5 hown hK hP 0 rfl rfl 0 (by decide) (hts _ wd_X5_load_ok_1) (fun _ h9 => h9) rfl dX5_load_1 ?_
  refine va_get (D := D) (ci := 2) (v := .ref wh) (C := RX2) (T := TX2) (N := 5) hx hb hts wc_X5_load_ok_X2 hown hK hP 1 rfl rfl 3 (by decide) (hts _ wd_X5_load_ok_3) (fun _ h9 => h9) rfl dX5_load_4 ?_
  refine lv_iload_n hx hb dX5_load_7 rfl (lv_at hl 1 rfl) ?_
  refine va_calli (va_runV (As := [.int (nI k)]) (rest := []) ⟨hx, hb, hml, hown, hts⟩ (met_X4_has l D cI cZ cL wh wh0 wh1 wh2 wh3 wh4 wh5 nw (nI k) (by first | assumption | omega)) (cwV 1 hts gX5_load_X4_has rfl rfl rfl (by decide +kernel) ⟨Nat.le_of_ble_eq_true rfl, Nat.le_of_ble_eq_true rfl⟩) (gw_pvr hK hP (wc := [(wh, .inr (4, [.ref wh0, .ref wh1, .ref wh2, .ref wh3, .ref wh4, .ref wh5, .int (nI nw)]))]) [2] rfl 4 rfl rfl rfl) rfl rfl hl.1 rfl (lv_room (Nat.le_of_ble_eq_true rfl)) dX5_load_8 ⟨Nat.zero_le _, Nat.zero_le _⟩) hS (fun _ _ z => z.elim) (fun _ z => z.elim) (fun r_2 _ t H1 locs ht hvm hw hB hz1 hk1 hS => ?_)
  have hP := gw_ro hP hk1
  generalize H1 = H at hP hS ⊢
  rcases hw with ⟨rfl, hc⟩ | ⟨rfl, hc⟩
  · skip
    refine lv_if_eq (tgt := 25) hx hb dX5_load_11 (by decide) (fun c_4 => False.elim (by revert c_4; decide)) (fun _ => ?_)
    refine lv_aload_n hx hb dX5_load_14 rfl (lv_at hl 0 rfl) ?_
    refine va_get (D := D) (ci := 5) (v := .ref rf) (C := RX5) (T := TX5) (N := 4) hx hb hts wc_X5_load_ok_X5 hown hK hP 0 rfl rfl 2 (by decide) (hts _ wd_X5_load_ok_4) (fun _ h9 => h9) rfl dX5_load_15 ?_
    refine lv_iload_n hx hb dX5_load_18 rfl (lv_at hl 2 rfl) ?_
    refine va_calli (va_runV (As := [.int (nI r)]) (rest := []) ⟨hx, hb, hml, hown, hts⟩ (met_X3_has l D cI cZ cL rf rf0 rf1 nr (nI r) (by first | assumption | omega)) (cwV 1 hts gX5_load_X3_has rfl rfl rfl (by decide +kernel) ⟨Nat.le_of_ble_eq_true rfl, Nat.le_of_ble_eq_true rfl⟩) (gw_pvr hK hP (wc := [(rf, .inr (3, [.ref rf0, .ref rf1, .int (nI nr)]))]) [6] rfl 3 rfl rfl rfl) rfl rfl hl.1 rfl (lv_room (Nat.le_of_ble_eq_true rfl)) dX5_load_19 ⟨Nat.zero_le _, Nat.zero_le _⟩) hS (fun _ _ z => z.elim) (fun _ z => z.elim) (fun r_6 _ t H1 locs ht hvm hw hB hz1 hk1 hS => ?_)
    have hP := gw_ro hP hk1
    generalize H1 = H at hP hS ⊢
    rcases hw with ⟨rfl, hc⟩ | ⟨rfl, hc⟩
    · skip
      refine lv_if_ne (tgt := 35) hx hb dX5_load_22 (by decide) (fun _ => ?_) (fun c_8 => False.elim (by revert c_8; decide))
      refine lv_aload_n hx hb dX5_load_35 rfl (lv_at hl 0 rfl) ?_
      refine va_get (D := D) (ci := 5) (v := .ref qu) (C := RX5) (T := TX5) (N := 4) hx hb hts wc_X5_load_ok_X5 hown hK hP 0 rfl rfl 0 (by decide) (hts _ wd_X5_load_ok_1) (fun _ h9 => h9) rfl dX5_load_36 ?_
      refine va_get (D := D) (ci := 2) (v := .ref wh) (C := RX2) (T := TX2) (N := 5) hx hb hts wc_X5_load_ok_X2 hown hK hP 1 rfl rfl 3 (by decide) (hts _ wd_X5_load_ok_3) (fun _ h9 => h9) rfl dX5_load_39 ?_
      refine va_get (D := D) (ci := 4) (v := .ref wh4) (C := RX4) (T := TX4) (N := 7) hx hb hts wc_X5_load_ok_X4 hown hK hP 2 rfl rfl 4 (by decide) (hts _ wd_X5_load_ok_6) (fun _ h9 => h9) rfl dX5_load_42 ?_
      refine lv_iload_n hx hb dX5_load_45 rfl (lv_at hl 1 rfl) ?_
      refine gw_iald hx hb hK hP 4 0 (k := k) rfl rfl (by omega) (by decide) dX5_load_46 ?_
      refine lv_iconst (v := 1) hx hb dX5_load_47 (by decide) ?_
      refine lv_icmp_eq (tgt := 61) hx hb dX5_load_48 (by decide) (fun c_9 => ?_) (fun c_9 => (by first | exact absurd c_9 hst | exact absurd hst c_9))
      refine lv_aload_n hx hb dX5_load_61 rfl (lv_at hl 0 rfl) ?_
      refine va_get (D := D) (ci := 5) (v := .ref rf) (C := RX5) (T := TX5) (N := 4) hx hb hts wc_X5_load_ok_X5 hown hK hP 0 rfl rfl 2 (by decide) (hts _ wd_X5_load_ok_4) (fun _ h9 => h9) rfl dX5_load_62 ?_
      refine lv_iload_n hx hb dX5_load_65 rfl (lv_at hl 2 rfl) ?_
      refine lv_aload_n hx hb dX5_load_66 rfl (lv_at hl 0 rfl) ?_
      refine va_get (D := D) (ci := 5) (v := .ref qu) (C := RX5) (T := TX5) (N := 4) hx hb hts wc_X5_load_ok_X5 hown hK hP 0 rfl rfl 0 (by decide) (hts _ wd_X5_load_ok_1) (fun _ h9 => h9) rfl dX5_load_67 ?_
      refine va_get (D := D) (ci := 2) (v := .int (nI day)) (C := RX2) (T := TX2) (N := 5) hx hb hts wc_X5_load_ok_X2 hown hK hP 1 rfl rfl 4 (by decide) (hts _ wd_X5_load_ok_7) (fun _ h9 => h9) rfl dX5_load_70 ?_
      refine va_calli (va_runV (As := [.int (nI r), .int (nI day)]) (rest := []) ⟨hx, hb, hml, hown, hts⟩ (met_X3_isAway l D cI cZ cL rf rf0 rf1 nr bo r day (by first | assumption | omega)) (cwV 2 hts gX5_load_X3_isAway rfl rfl rfl (by decide +kernel) ⟨Nat.le_of_ble_eq_true rfl, Nat.le_of_ble_eq_true rfl⟩) (gw_pvr hK hP (wc := [(rf, .inr (3, [.ref rf0, .ref rf1, .int (nI nr)])), (rf1, .inl (cI, 3, .inl bo))]) [6, 8] rfl 3 rfl rfl rfl) rfl rfl hl.1 rfl (lv_room (Nat.le_of_ble_eq_true rfl)) dX5_load_73 ⟨Nat.zero_le _, Nat.zero_le _⟩) hS (fun _ _ z => z.elim) (fun _ z => z.elim) (fun r_11 _ t H1 locs ht hvm hw hB hz1 hk1 hS => ?_)
      have hP := gw_ro hP hk1
      generalize H1 = H at hP hS ⊢
      rcases hw with ⟨rfl, hc⟩ | ⟨rfl, hc⟩
      · skip
        exact absurd hc haw
      · skip
        refine lv_if_eq (tgt := 89) hx hb dX5_load_76 (by decide) (fun _ => ?_) (fun c_13 => False.elim (by revert c_13; decide))
        refine lv_aload_n hx hb dX5_load_89 rfl (lv_at hl 0 rfl) ?_
        refine va_get (D := D) (ci := 5) (v := .ref qu) (C := RX5) (T := TX5) (N := 4) hx hb hts wc_X5_load_ok_X5 hown hK hP 0 rfl rfl 0 (by decide) (hts _ wd_X5_load_ok_1) (fun _ h9 => h9) rfl dX5_load_90 ?_
        refine va_get (D := D) (ci := 2) (v := .ref wh) (C := RX2) (T := TX2) (N := 5) hx hb hts wc_X5_load_ok_X2 hown hK hP 1 rfl rfl 3 (by decide) (hts _ wd_X5_load_ok_3) (fun _ h9 => h9) rfl dX5_load_93 ?_
        refine lv_iload_n hx hb dX5_load_96 rfl (lv_at hl 1 rfl) ?_
        refine va_calli (va_runV (As := [.int (nI k)]) (rest := []) ⟨hx, hb, hml, hown, hts⟩ (met_X4_weight l D cI cZ cL wh wh0 wh1 wh2 wh3 wh4 wh5 nw (Q 11) k (by first | assumption | omega)) (cwV 1 hts gX5_load_X4_weight rfl rfl rfl (by decide +kernel) ⟨Nat.le_of_ble_eq_true rfl, Nat.le_of_ble_eq_true rfl⟩) (gw_pvr hK hP (wc := [(wh, .inr (4, [.ref wh0, .ref wh1, .ref wh2, .ref wh3, .ref wh4, .ref wh5, .int (nI nw)])), (wh2, .inl (cI, 60, .inl (Q 11)))]) [2, 3] rfl 4 rfl rfl rfl) rfl rfl hl.1 rfl (lv_room (Nat.le_of_ble_eq_true rfl)) dX5_load_97 ⟨Nat.zero_le _, Nat.zero_le _⟩) hS (fun _ _ z => z.elim) (fun _ z => z.elim) (fun r_15 _ t H1 locs ht hvm hw hB hz1 hk1 hS => ?_)
        have hP := gw_ro hP hk1
        generalize H1 = H at hP hS ⊢
        subst hw
        refine lv_aload_n hx hb dX5_load_100 rfl (lv_at hl 0 rfl) ?_
        refine lv_iload_n hx hb dX5_load_101 rfl (lv_at hl 2 rfl) ?_
        refine va_calli (va_runV (As := [.int (nI r)]) (rest := [.int (2 * (Q 11) k * (Q 11) k)]) ⟨hx, hb, hml, hown, hts⟩ (met_X5_stillCarried l D cI cZ cL gx qu qt rf qf bd cr wh wh0 wh1 wh2 wh3 wh4 wh5 rf0 rf1 co Q nw day nr ca r (by first | assumption | omega) (by first | assumption | omega)) (cwV 1 hts gX5_load_X5_stillCarried rfl rfl rfl (by decide +kernel) ⟨Nat.le_of_ble_eq_true rfl, Nat.le_of_ble_eq_true rfl⟩) (gw_pvr hK hP (wc := [(gx, .inr (5, [.ref qu, .ref qt, .ref rf, .int co])), (qu, .inr (2, [.ref qf, .ref bd, .ref cr, .ref wh, .int (nI day)])), (wh, .inr (4, [.ref wh0, .ref wh1, .ref wh2, .ref wh3, .ref wh4, .ref wh5, .int (nI nw)])), (wh2, .inl (cI, 60, .inl (Q 11))), (wh5, .inl (cI, 60, .inl (Q 14))), (rf, .inr (3, [.ref rf0, .ref rf1, .int (nI nr)])), (rf0, .inl (cI, 3, .inl ca))]) [0, 1, 2, 3, 5, 6, 7] rfl 5 rfl rfl rfl) rfl rfl hl.1 rfl (lv_room (Nat.le_of_ble_eq_true rfl)) dX5_load_102 ⟨Nat.zero_le _, Nat.zero_le _⟩) hS (fun _ _ z => z.elim) (fun _ z => z.elim) (fun r_17 _ t H1 locs ht hvm hw hB hz1 hk1 hS => ?_)
        have hP := gw_ro hP hk1
        generalize H1 = H at hP hS ⊢
        subst hw
        refine lv_icmp_le (tgt := 118) hx hb dX5_load_105 (by decide) (fun c_18 => ?_) (fun c_18 => (by first | exact absurd c_18 hle | exact absurd hle c_18))
        refine lv_aload_n hx hb dX5_load_118 rfl (lv_at hl 0 rfl) ?_
        refine va_get (D := D) (ci := 5) (v := .ref qu) (C := RX5) (T := TX5) (N := 4) hx hb hts wc_X5_load_ok_X5 hown hK hP 0 rfl rfl 0 (by decide) (hts _ wd_X5_load_ok_1) (fun _ h9 => h9) rfl dX5_load_119 ?_
        refine va_get (D := D) (ci := 2) (v := .ref wh) (C := RX2) (T := TX2) (N := 5) hx hb hts wc_X5_load_ok_X2 hown hK hP 1 rfl rfl 3 (by decide) (hts _ wd_X5_load_ok_3) (fun _ h9 => h9) rfl dX5_load_122 ?_
        refine lv_iload_n hx hb dX5_load_125 rfl (lv_at hl 1 rfl) ?_
        refine lv_iload_n hx hb dX5_load_126 rfl (lv_at hl 2 rfl) ?_
        have hFc := gw_free (wc := [(wh, .inr (4, [.ref wh0, .ref wh1, .ref wh2, .ref wh3, .ref wh4, .ref wh5, .int (nI nw)])), (wh4, .inl (cI, 60, .inl (Q 13))), (wh5, .inl (cI, 60, .inl (Q 14)))]) hD [2, 4, 5] rfl
        refine va_callv (va_runV (As := [.int (nI k), .int (nI r)]) (rest := []) ⟨hx, hb, hml, hown, hts⟩ (met_X4_putOn l D cI cZ cL wh wh0 wh1 wh2 wh3 wh4 wh5 nw (Q 13) (Q 14) k (nI r) (by first | assumption | omega)) (cwV 2 hts gX5_load_X4_putOn rfl rfl rfl (by decide +kernel) ⟨Nat.le_of_ble_eq_true rfl, Nat.le_of_ble_eq_true rfl⟩) (gw_pvw hK hP hD (wc := [(wh, .inr (4, [.ref wh0, .ref wh1, .ref wh2, .ref wh3, .ref wh4, .ref wh5, .int (nI nw)])), (wh4, .inl (cI, 60, .inl (Q 13))), (wh5, .inl (cI, 60, .inl (Q 14)))]) [2, 4, 5] (by decide) rfl rfl 4 rfl rfl rfl) rfl rfl hl.1 rfl (lv_room (Nat.le_of_ble_eq_true rfl)) dX5_load_127 ⟨Nat.zero_le _, Nat.zero_le _⟩) hS (fun q _ h => hFc q h) hFc (fun _ t H1 locs ht hvm hw hB hz1 hk1 hS => ?_)
        rw [ht] at hB
        obtain ⟨hP, hD⟩ := gw_upd (wc := [(wh, .inr (4, [.ref wh0, .ref wh1, .ref wh2, .ref wh3, .ref wh4, .ref wh5, .int (nI nw)])), (wh4, .inl (cI, 60, .inl (Q 13))), (wh5, .inl (cI, 60, .inl (Q 14)))]) (w1 := [(wh, .inr (4, [.ref wh0, .ref wh1, .ref wh2, .ref wh3, .ref wh4, .ref wh5, .int (nI nw)])), (wh4, .inl (cI, 60, .inl (upd (Q 13) k 2))), (wh5, .inl (cI, 60, .inl (upd (Q 14) k (nI r))))]) (ws' := [(gx, .inr (5, [.ref qu, .ref qt, .ref rf, .int co])), (qu, .inr (2, [.ref qf, .ref bd, .ref cr, .ref wh, .int (nI day)])), (wh, .inr (4, [.ref wh0, .ref wh1, .ref wh2, .ref wh3, .ref wh4, .ref wh5, .int (nI nw)])), (wh2, .inl (cI, 60, .inl (Q 11))), (wh4, .inl (cI, 60, .inl (upd (Q 13) k 2))), (wh5, .inl (cI, 60, .inl (upd (Q 14) k (nI r)))), (rf, .inr (3, [.ref rf0, .ref rf1, .int (nI nr)])), (rf0, .inl (cI, 3, .inl ca)), (rf1, .inl (cI, 3, .inl bo))]) hP hD [2, 4, 5] rfl rfl hk1 hB rfl
        generalize H1 = H at hP hS ⊢
        have hP : va_P D vwCl [(gx, .inr (5, [.ref qu, .ref qt, .ref rf, .int co])), (qu, .inr (2, [.ref qf, .ref bd, .ref cr, .ref wh, .int (nI day)])), (wh, .inr (4, [.ref wh0, .ref wh1, .ref wh2, .ref wh3, .ref wh4, .ref wh5, .int (nI nw)])), (wh2, .inl (cI, 60, .inl (gPut Q k r 11))), (wh4, .inl (cI, 60, .inl (gPut Q k r 13))), (wh5, .inl (cI, 60, .inl (gPut Q k r 14))), (rf, .inr (3, [.ref rf0, .ref rf1, .int (nI nr)])), (rf0, .inl (cI, 3, .inl ca)), (rf1, .inl (cI, 3, .inl bo))] _ := hP
        have hD : va_D A [(gx, .inr (5, [.ref qu, .ref qt, .ref rf, .int co])), (qu, .inr (2, [.ref qf, .ref bd, .ref cr, .ref wh, .int (nI day)])), (wh, .inr (4, [.ref wh0, .ref wh1, .ref wh2, .ref wh3, .ref wh4, .ref wh5, .int (nI nw)])), (wh2, .inl (cI, 60, .inl (gPut Q k r 11))), (wh4, .inl (cI, 60, .inl (gPut Q k r 13))), (wh5, .inl (cI, 60, .inl (gPut Q k r 14))), (rf, .inr (3, [.ref rf0, .ref rf1, .int (nI nr)])), (rf0, .inl (cI, 3, .inl ca)), (rf1, .inl (cI, 3, .inl bo))] := hD
        refine lv_aload_n hx hb dX5_load_130 rfl (lv_at hl 0 rfl) ?_
        refine lv_iload_n hx hb dX5_load_131 rfl (lv_at hl 2 rfl) ?_
        refine va_calli (va_runV (As := [.int (nI r)]) (rest := []) ⟨hx, hb, hml, hown, hts⟩ (met_X5_stillCarried l D cI cZ cL gx qu qt rf qf bd cr wh wh0 wh1 wh2 wh3 wh4 wh5 rf0 rf1 co (gPut Q k r) nw day nr ca r (by first | assumption | omega) (by first | assumption | omega)) (cwV 1 hts gX5_load_X5_stillCarried rfl rfl rfl (by decide +kernel) ⟨Nat.le_of_ble_eq_true rfl, Nat.le_of_ble_eq_true rfl⟩) (gw_pvr hK hP (wc := [(gx, .inr (5, [.ref qu, .ref qt, .ref rf, .int co])), (qu, .inr (2, [.ref qf, .ref bd, .ref cr, .ref wh, .int (nI day)])), (wh, .inr (4, [.ref wh0, .ref wh1, .ref wh2, .ref wh3, .ref wh4, .ref wh5, .int (nI nw)])), (wh2, .inl (cI, 60, .inl ((gPut Q k r) 11))), (wh5, .inl (cI, 60, .inl ((gPut Q k r) 14))), (rf, .inr (3, [.ref rf0, .ref rf1, .int (nI nr)])), (rf0, .inl (cI, 3, .inl ca))]) [0, 1, 2, 3, 5, 6, 7] rfl 5 rfl rfl rfl) rfl rfl hl.1 rfl (lv_room (Nat.le_of_ble_eq_true rfl)) dX5_load_132 ⟨Nat.zero_le _, Nat.zero_le _⟩) hS (fun _ _ z => z.elim) (fun _ z => z.elim) (fun r_22 _ t H1 locs ht hvm hw hB hz1 hk1 hS => ?_)
        have hP := gw_ro hP hk1
        generalize H1 = H at hP hS ⊢
        subst hw
        subst hAe
        exact W.iret (v := gStill (gPut Q k r) nw ca r) hx hb hr (fun t ht hW => ⟨⟨_, (), rfl, rfl, gw_hh ht hP⟩, hS.F ht⟩) hS.2.2 dX5_load_135
    · skip
      exact absurd ⟨r, hr2, rfl⟩ hc
  · skip
    exact absurd ⟨k, hk, rfl⟩ hc

theorem wc_X5_ship_ok_X5 : ∀ w ∈ u_ws RX5 TX5 4, w ∈ wsX5_ship := by decide +kernel
theorem wd_X5_ship_ok_1 : (.fieldLink RX5 22 "GritWheels" "rafts" "LGritWheels$Rafts;" : Cond) ∈ wsX5_ship := by decide +kernel
theorem wd_X5_ship_ok_2 : (.fieldLink RX5 10 "GritWheels" "now" "LGritWheels$Quarry;" : Cond) ∈ wsX5_ship := by decide +kernel
theorem wc_X5_ship_ok_X2 : ∀ w ∈ u_ws RX2 TX2 5, w ∈ wsX5_ship := by decide +kernel
theorem wd_X5_ship_ok_4 : (.fieldLink RX5 133 "GritWheels$Quarry" "day" "I" : Cond) ∈ wsX5_ship := by decide +kernel
theorem wd_X5_ship_ok_5 : (.fieldLink RX5 93 "GritWheels$Quarry" "wheels" "LGritWheels$Wheels;" : Cond) ∈ wsX5_ship := by decide +kernel
theorem wd_X5_ship_ok_6 : (.fieldLink RX5 168 "GritWheels" "coins" "I" : Cond) ∈ wsX5_ship := by decide +kernel
set_option maxHeartbeats 4000000 in
set_option maxRecDepth 100000 in
theorem met_X5_ship_ok (l : Launch) (D : va_G) (cI cZ cL : ClassId) (gx : Nat) (qu : Nat) (qt : Nat) (rf : Nat) (qf : Nat) (bd : Nat) (cr : Nat) (wh : Nat) (wh0 : Nat) (wh1 : Nat) (wh2 : Nat) (wh3 : Nat) (wh4 : Nat) (wh5 : Nat) (rf0 : Nat) (rf1 : Nat) (co : Int32) (Q : Nat → Nat → Int32) (nw : Nat) (day : Nat) (nr : Nat) (bo : Nat → Int32) (r : Nat) (hr2 : r < nr) (hnw : nw ≤ 60) (hnr : nr ≤ 3) (hd : day < 2 ^ 30) (haw : ¬ nI day < bo r) (hon : ¬ gOn Q nw r = 0) (hwa : 2 ≤ Q 0 (day % 9)) : Met l yX5_ship wsX5_ship ({ frames := 2, cells := 0, slots := 0, locals := 46 }) (gPw [.ref gx, .int (nI r)] D [(gx, .inr (5, [.ref qu, .ref qt, .ref rf, .int co])), (qu, .inr (2, [.ref qf, .ref bd, .ref cr, .ref wh, .int (nI day)])), (qf, .inl (cI, 9, .inl (Q 0))), (wh, .inr (4, [.ref wh0, .ref wh1, .ref wh2, .ref wh3, .ref wh4, .ref wh5, .int (nI nw)])), (wh1, .inl (cI, 60, .inl (Q 10))), (wh2, .inl (cI, 60, .inl (Q 11))), (wh3, .inl (cZ, 60, .inl (Q 12))), (wh4, .inl (cI, 60, .inl (Q 13))), (wh5, .inl (cI, 60, .inl (Q 14))), (rf, .inr (3, [.ref rf0, .ref rf1, .int (nI nr)])), (rf1, .inl (cI, 3, .inl bo))] (gT cI cZ cL)) (va_Qi (fun (zr : Int32) (_ : Unit) => zr = gS (fun j => if Q 14 j = nI r then gWorth (Q 11 j) (Q 10 j) (Q 13 j) (Q 12 j) else 0) nw 0 0) (fun _ t => va_P D vwCl [(gx, .inr (5, [.ref qu, .ref qt, .ref rf, .int (co + gS (fun j => if Q 14 j = nI r then gWorth (Q 11 j) (Q 10 j) (Q 13 j) (Q 12 j) else 0) nw 0 0)])), (qu, .inr (2, [.ref qf, .ref bd, .ref cr, .ref wh, .int (nI day)])), (qf, .inl (cI, 9, .inl (Q 0))), (wh, .inr (4, [.ref wh0, .ref wh1, .ref wh2, .ref wh3, .ref wh4, .ref wh5, .int (nI nw)])), (wh1, .inl (cI, 60, .inl (Q 10))), (wh2, .inl (cI, 60, .inl (Q 11))), (wh3, .inl (cZ, 60, .inl (Q 12))), (wh4, .inl (cI, 60, .inl (gM nw (fun j => if Q 14 j = nI r then 3 else Q 13 j) (Q 13)))), (wh5, .inl (cI, 60, .inl (gM nw (fun j => if Q 14 j = nI r then (-1) else Q 14 j) (Q 14)))), (rf, .inr (3, [.ref rf0, .ref rf1, .int (nI nr)])), (rf1, .inl (cI, 3, .inl (upd bo r (nI (day + 4)))))] t.heap) (gA (gL [(gx, .inr (5, [.ref qu, .ref qt, .ref rf, .int co])), (qu, .inr (2, [.ref qf, .ref bd, .ref cr, .ref wh, .int (nI day)])), (qf, .inl (cI, 9, .inl (Q 0))), (wh, .inr (4, [.ref wh0, .ref wh1, .ref wh2, .ref wh3, .ref wh4, .ref wh5, .int (nI nw)])), (wh1, .inl (cI, 60, .inl (Q 10))), (wh2, .inl (cI, 60, .inl (Q 11))), (wh3, .inl (cZ, 60, .inl (Q 12))), (wh4, .inl (cI, 60, .inl (Q 13))), (wh5, .inl (cI, 60, .inl (Q 14))), (rf, .inr (3, [.ref rf0, .ref rf1, .int (nI nr)])), (rf1, .inl (cI, 3, .inl bo))]))) 0 0 (gA (gL [(gx, .inr (5, [.ref qu, .ref qt, .ref rf, .int co])), (qu, .inr (2, [.ref qf, .ref bd, .ref cr, .ref wh, .int (nI day)])), (qf, .inl (cI, 9, .inl (Q 0))), (wh, .inr (4, [.ref wh0, .ref wh1, .ref wh2, .ref wh3, .ref wh4, .ref wh5, .int (nI nw)])), (wh1, .inl (cI, 60, .inl (Q 10))), (wh2, .inl (cI, 60, .inl (Q 11))), (wh3, .inl (cZ, 60, .inl (Q 12))), (wh4, .inl (cI, 60, .inl (Q 13))), (wh5, .inl (cI, 60, .inl (Q 14))), (rf, .inr (3, [.ref rf0, .ref rf1, .int (nI nr)])), (rf1, .inl (cI, 3, .inl bo))])) := by
  refine Met.ofW (cc := cX5_ship) (maxL := 3) (ret := (some .int)) (by decide +kernel) rfl ?_
  intro p e s m args below meth c s₁ B hml hv
  obtain ⟨rfl, hP, hK, hD0⟩ := hv
  have hx := B.exec
  have hb := B.bytes
  have hr := B.returns
  have hts := atoms_spec (ws := wsX5_ship) B.pre
  have hown : s.vm.findClass RX5 = some m.cls := findClass_of_methodNamed B.named
  have hlocks := B.notSynchronized
  have hD := gw_self hD0
  generalize hAe : gA (gL [(gx, .inr (5, [.ref qu, .ref qt, .ref rf, .int co])), (qu, .inr (2, [.ref qf, .ref bd, .ref cr, .ref wh, .int (nI day)])), (qf, .inl (cI, 9, .inl (Q 0))), (wh, .inr (4, [.ref wh0, .ref wh1, .ref wh2, .ref wh3, .ref wh4, .ref wh5, .int (nI nw)])), (wh1, .inl (cI, 60, .inl (Q 10))), (wh2, .inl (cI, 60, .inl (Q 11))), (wh3, .inl (cZ, 60, .inl (Q 12))), (wh4, .inl (cI, 60, .inl (Q 13))), (wh5, .inl (cI, 60, .inl (Q 14))), (rf, .inr (3, [.ref rf0, .ref rf1, .int (nI nr)])), (rf1, .inl (cI, 3, .inl bo))]) = A at hD ⊢
  have hS : va_S A s.heap s.heap [] := va_S.rf
  have hP : va_P D vwCl [(gx, .inr (5, [.ref qu, .ref qt, .ref rf, .int co])), (qu, .inr (2, [.ref qf, .ref bd, .ref cr, .ref wh, .int (nI day)])), (qf, .inl (cI, 9, .inl (Q 0))), (wh, .inr (4, [.ref wh0, .ref wh1, .ref wh2, .ref wh3, .ref wh4, .ref wh5, .int (nI nw)])), (wh1, .inl (cI, 60, .inl (Q 10))), (wh2, .inl (cI, 60, .inl (Q 11))), (wh3, .inl (cZ, 60, .inl (Q 12))), (wh4, .inl (cI, 60, .inl (Q 13))), (wh5, .inl (cI, 60, .inl (Q 14))), (rf, .inr (3, [.ref rf0, .ref rf1, .int (nI nr)])), (rf1, .inl (cI, 3, .inl bo))] s.heap := hP
  have hl := lv_entry ([.ref gx, .int (nI r)]) (n := 3) (Nat.le_of_ble_eq_true rfl)
  rw [lg_entry_eq]
  generalize (lg_sl ([.ref gx, .int (nI r)]) ++ List.replicate (3 - (lg_sl ([.ref gx, .int (nI r)])).length) Slot.unset).toArray = ls at hl ⊢
  have hl : lv_has ls 3 [(0, .ref gx), (1, .int (nI r))] := hl
  refine lv_aload_n hx hb dX5_ship_0 rfl (lv_at hl 0 rfl) ?_
  refine va_get (D := D) (ci := 5) (v := .ref rf) (C := RX5) (T := TX5) (N := 4) hx hb hts wc_X5_ship_ok_X5 hown hK hP 0 rfl rfl 2 (by decide) (hts _ wd_X5_ship_ok_1) (fun _ h9 => h9) rfl dX5_ship_1 ?_
  refine lv_iload_n hx hb dX5_ship_4 rfl (lv_at hl 1 rfl) ?_
  refine va_calli (va_runV (As := [.int (nI r)]) (rest := []) ⟨hx, hb, hml, hown, hts⟩ (met_X3_has l D cI cZ cL rf rf0 rf1 nr (nI r) (by first | assumption | omega)) (cwV 1 hts gX5_ship_X3_has rfl rfl rfl (by decide +kernel) ⟨Nat.le_of_ble_eq_true rfl, Nat.le_of_ble_eq_true rfl⟩) (gw_pvr hK hP (wc := [(rf, .inr (3, [.ref rf0, .ref rf1, .int (nI nr)]))]) [9] rfl 3 rfl rfl rfl) rfl rfl hl.1 rfl (lv_room (Nat.le_of_ble_eq_true rfl)) dX5_ship_5 ⟨Nat.zero_le _, Nat.zero_le _⟩) hS (fun _ _ z => z.elim) (fun _ z => z.elim) (fun r_2 _ t H1 locs ht hvm hw hB hz1 hk1 hS => ?_)
  have hP := gw_ro hP hk1
  generalize H1 = H at hP hS ⊢
  rcases hw with ⟨rfl, hc⟩ | ⟨rfl, hc⟩
  · skip
    refine lv_if_ne (tgt := 21) hx hb dX5_ship_8 (by decide) (fun _ => ?_) (fun c_4 => False.elim (by revert c_4; decide))
    refine lv_aload_n hx hb dX5_ship_21 rfl (lv_at hl 0 rfl) ?_
    refine va_get (D := D) (ci := 5) (v := .ref rf) (C := RX5) (T := TX5) (N := 4) hx hb hts wc_X5_ship_ok_X5 hown hK hP 0 rfl rfl 2 (by decide) (hts _ wd_X5_ship_ok_1) (fun _ h9 => h9) rfl dX5_ship_22 ?_
    refine lv_iload_n hx hb dX5_ship_25 rfl (lv_at hl 1 rfl) ?_
    refine lv_aload_n hx hb dX5_ship_26 rfl (lv_at hl 0 rfl) ?_
    refine va_get (D := D) (ci := 5) (v := .ref qu) (C := RX5) (T := TX5) (N := 4) hx hb hts wc_X5_ship_ok_X5 hown hK hP 0 rfl rfl 0 (by decide) (hts _ wd_X5_ship_ok_2) (fun _ h9 => h9) rfl dX5_ship_27 ?_
    refine va_get (D := D) (ci := 2) (v := .int (nI day)) (C := RX2) (T := TX2) (N := 5) hx hb hts wc_X5_ship_ok_X2 hown hK hP 1 rfl rfl 4 (by decide) (hts _ wd_X5_ship_ok_4) (fun _ h9 => h9) rfl dX5_ship_30 ?_
    refine va_calli (va_runV (As := [.int (nI r), .int (nI day)]) (rest := []) ⟨hx, hb, hml, hown, hts⟩ (met_X3_isAway l D cI cZ cL rf rf0 rf1 nr bo r day (by first | assumption | omega)) (cwV 2 hts gX5_ship_X3_isAway rfl rfl rfl (by decide +kernel) ⟨Nat.le_of_ble_eq_true rfl, Nat.le_of_ble_eq_true rfl⟩) (gw_pvr hK hP (wc := [(rf, .inr (3, [.ref rf0, .ref rf1, .int (nI nr)])), (rf1, .inl (cI, 3, .inl bo))]) [9, 10] rfl 3 rfl rfl rfl) rfl rfl hl.1 rfl (lv_room (Nat.le_of_ble_eq_true rfl)) dX5_ship_33 ⟨Nat.zero_le _, Nat.zero_le _⟩) hS (fun _ _ z => z.elim) (fun _ z => z.elim) (fun r_6 _ t H1 locs ht hvm hw hB hz1 hk1 hS => ?_)
    have hP := gw_ro hP hk1
    generalize H1 = H at hP hS ⊢
    rcases hw with ⟨rfl, hc⟩ | ⟨rfl, hc⟩
    · skip
      exact absurd hc haw
    · skip
      refine lv_if_ne (tgt := 64) hx hb dX5_ship_36 (by decide) (fun c_8 => False.elim (by revert c_8; decide)) (fun _ => ?_)
      refine lv_aload_n hx hb dX5_ship_39 rfl (lv_at hl 0 rfl) ?_
      refine va_get (D := D) (ci := 5) (v := .ref qu) (C := RX5) (T := TX5) (N := 4) hx hb hts wc_X5_ship_ok_X5 hown hK hP 0 rfl rfl 0 (by decide) (hts _ wd_X5_ship_ok_2) (fun _ h9 => h9) rfl dX5_ship_40 ?_
      refine va_get (D := D) (ci := 2) (v := .ref wh) (C := RX2) (T := TX2) (N := 5) hx hb hts wc_X5_ship_ok_X2 hown hK hP 1 rfl rfl 3 (by decide) (hts _ wd_X5_ship_ok_5) (fun _ h9 => h9) rfl dX5_ship_43 ?_
      refine lv_iload_n hx hb dX5_ship_46 rfl (lv_at hl 1 rfl) ?_
      refine va_calli (va_runV (As := [.int (nI r)]) (rest := []) ⟨hx, hb, hml, hown, hts⟩ (met_X4_numberOn l D cI cZ cL wh wh0 wh1 wh2 wh3 wh4 wh5 nw (Q 14) (nI r) (by first | assumption | omega)) (cwV 1 hts gX5_ship_X4_numberOn rfl rfl rfl (by decide +kernel) ⟨Nat.le_of_ble_eq_true rfl, Nat.le_of_ble_eq_true rfl⟩) (gw_pvr hK hP (wc := [(wh, .inr (4, [.ref wh0, .ref wh1, .ref wh2, .ref wh3, .ref wh4, .ref wh5, .int (nI nw)])), (wh5, .inl (cI, 60, .inl (Q 14)))]) [3, 8] rfl 4 rfl rfl rfl) rfl rfl hl.1 rfl (lv_room (Nat.le_of_ble_eq_true rfl)) dX5_ship_47 ⟨Nat.zero_le _, Nat.zero_le _⟩) hS (fun _ _ z => z.elim) (fun _ z => z.elim) (fun r_10 _ t H1 locs ht hvm hw hB hz1 hk1 hS => ?_)
      have hP := gw_ro hP hk1
      generalize H1 = H at hP hS ⊢
      subst hw
      refine lv_if_eq (tgt := 64) hx hb dX5_ship_50 (by decide) (fun c_11 => (by first | exact absurd c_11 hon | exact absurd hon c_11)) (fun c_11 => ?_)
      refine lv_aload_n hx hb dX5_ship_53 rfl (lv_at hl 0 rfl) ?_
      refine va_get (D := D) (ci := 5) (v := .ref qu) (C := RX5) (T := TX5) (N := 4) hx hb hts wc_X5_ship_ok_X5 hown hK hP 0 rfl rfl 0 (by decide) (hts _ wd_X5_ship_ok_2) (fun _ h9 => h9) rfl dX5_ship_54 ?_
      refine va_calli (va_runV (As := []) (rest := []) ⟨hx, hb, hml, hown, hts⟩ (met_X2_water l D cI cZ cL qu qf bd cr wh Q day (by first | assumption | omega)) (cwV 0 hts gX5_ship_X2_water rfl rfl rfl (by decide +kernel) ⟨Nat.le_of_ble_eq_true rfl, Nat.le_of_ble_eq_true rfl⟩) (gw_pvr hK hP (wc := [(qu, .inr (2, [.ref qf, .ref bd, .ref cr, .ref wh, .int (nI day)])), (qf, .inl (cI, 9, .inl (Q 0)))]) [1, 2] rfl 2 rfl rfl rfl) rfl rfl hl.1 rfl (lv_room (Nat.le_of_ble_eq_true rfl)) dX5_ship_57 ⟨Nat.zero_le _, Nat.zero_le _⟩) hS (fun _ _ z => z.elim) (fun _ z => z.elim) (fun r_13 _ t H1 locs ht hvm hw hB hz1 hk1 hS => ?_)
      have hP := gw_ro hP hk1
      generalize H1 = H at hP hS ⊢
      subst hw
      refine lv_iconst (v := 2) hx hb dX5_ship_60 (by decide) ?_
      refine lv_icmp_ge (tgt := 74) hx hb dX5_ship_61 (by decide) (fun c_14 => ?_) (fun c_14 => (by first | exact absurd c_14 hwa | exact absurd hwa c_14))
      refine lv_aload_n hx hb dX5_ship_74 rfl (lv_at hl 0 rfl) ?_
      refine va_get (D := D) (ci := 5) (v := .ref qu) (C := RX5) (T := TX5) (N := 4) hx hb hts wc_X5_ship_ok_X5 hown hK hP 0 rfl rfl 0 (by decide) (hts _ wd_X5_ship_ok_2) (fun _ h9 => h9) rfl dX5_ship_75 ?_
      refine va_get (D := D) (ci := 2) (v := .ref wh) (C := RX2) (T := TX2) (N := 5) hx hb hts wc_X5_ship_ok_X2 hown hK hP 1 rfl rfl 3 (by decide) (hts _ wd_X5_ship_ok_5) (fun _ h9 => h9) rfl dX5_ship_78 ?_
      refine lv_iload_n hx hb dX5_ship_81 rfl (lv_at hl 1 rfl) ?_
      have hFc := gw_free (wc := [(wh, .inr (4, [.ref wh0, .ref wh1, .ref wh2, .ref wh3, .ref wh4, .ref wh5, .int (nI nw)])), (wh1, .inl (cI, 60, .inl (Q 10))), (wh2, .inl (cI, 60, .inl (Q 11))), (wh3, .inl (cZ, 60, .inl (Q 12))), (wh4, .inl (cI, 60, .inl (Q 13))), (wh5, .inl (cI, 60, .inl (Q 14)))]) hD [3, 4, 5, 6, 7, 8] rfl
      refine va_calli (va_runV (As := [.int (nI r)]) (rest := []) ⟨hx, hb, hml, hown, hts⟩ (met_X4_goWith l D cI cZ cL wh wh0 wh1 wh2 wh3 wh4 wh5 nw (Q 10) (Q 11) (Q 12) (Q 13) (Q 14) (nI r) (by first | assumption | omega)) (cwV 1 hts gX5_ship_X4_goWith rfl rfl rfl (by decide +kernel) ⟨Nat.le_of_ble_eq_true rfl, Nat.le_of_ble_eq_true rfl⟩) (gw_pvw hK hP hD (wc := [(wh, .inr (4, [.ref wh0, .ref wh1, .ref wh2, .ref wh3, .ref wh4, .ref wh5, .int (nI nw)])), (wh1, .inl (cI, 60, .inl (Q 10))), (wh2, .inl (cI, 60, .inl (Q 11))), (wh3, .inl (cZ, 60, .inl (Q 12))), (wh4, .inl (cI, 60, .inl (Q 13))), (wh5, .inl (cI, 60, .inl (Q 14)))]) [3, 4, 5, 6, 7, 8] (by decide) rfl rfl 4 rfl rfl rfl) rfl rfl hl.1 rfl (lv_room (Nat.le_of_ble_eq_true rfl)) dX5_ship_82 ⟨Nat.zero_le _, Nat.zero_le _⟩) hS (fun q _ h => hFc q h) hFc (fun r_16 _ t H1 locs ht hvm hw hB hz1 hk1 hS => ?_)
      rw [ht] at hB
      obtain ⟨hP, hD⟩ := gw_upd (wc := [(wh, .inr (4, [.ref wh0, .ref wh1, .ref wh2, .ref wh3, .ref wh4, .ref wh5, .int (nI nw)])), (wh1, .inl (cI, 60, .inl (Q 10))), (wh2, .inl (cI, 60, .inl (Q 11))), (wh3, .inl (cZ, 60, .inl (Q 12))), (wh4, .inl (cI, 60, .inl (Q 13))), (wh5, .inl (cI, 60, .inl (Q 14)))]) (w1 := [(wh, .inr (4, [.ref wh0, .ref wh1, .ref wh2, .ref wh3, .ref wh4, .ref wh5, .int (nI nw)])), (wh1, .inl (cI, 60, .inl (Q 10))), (wh2, .inl (cI, 60, .inl (Q 11))), (wh3, .inl (cZ, 60, .inl (Q 12))), (wh4, .inl (cI, 60, .inl (gM nw (fun j => if (Q 14) j = (nI r) then 3 else (Q 13) j) (Q 13)))), (wh5, .inl (cI, 60, .inl (gM nw (fun j => if (Q 14) j = (nI r) then (-1) else (Q 14) j) (Q 14))))]) (ws' := [(gx, .inr (5, [.ref qu, .ref qt, .ref rf, .int co])), (qu, .inr (2, [.ref qf, .ref bd, .ref cr, .ref wh, .int (nI day)])), (qf, .inl (cI, 9, .inl (Q 0))), (wh, .inr (4, [.ref wh0, .ref wh1, .ref wh2, .ref wh3, .ref wh4, .ref wh5, .int (nI nw)])), (wh1, .inl (cI, 60, .inl (Q 10))), (wh2, .inl (cI, 60, .inl (Q 11))), (wh3, .inl (cZ, 60, .inl (Q 12))), (wh4, .inl (cI, 60, .inl (gM nw (fun j => if (Q 14) j = (nI r) then 3 else (Q 13) j) (Q 13)))), (wh5, .inl (cI, 60, .inl (gM nw (fun j => if (Q 14) j = (nI r) then (-1) else (Q 14) j) (Q 14)))), (rf, .inr (3, [.ref rf0, .ref rf1, .int (nI nr)])), (rf1, .inl (cI, 3, .inl bo))]) hP hD [3, 4, 5, 6, 7, 8] rfl rfl hk1 hB rfl
      generalize H1 = H at hP hS ⊢
      subst hw
      refine lv_istore_n (lv' := [(2, .int (gS (fun j => if (Q 14) j = (nI r) then gWorth ((Q 11) j) ((Q 10) j) ((Q 13) j) ((Q 12) j) else 0) nw 0 0)), (0, .ref gx), (1, .int (nI r))]) hx hb dX5_ship_85 rfl hl (by decide) rfl (fun ls hl => ?_)
      refine lv_aload_n hx hb dX5_ship_86 rfl (lv_at hl 1 rfl) ?_
      refine lv_dup hx hb dX5_ship_87 rfl ?_
      refine va_get (D := D) (ci := 5) (v := .int co) (C := RX5) (T := TX5) (N := 4) hx hb hts wc_X5_ship_ok_X5 hown hK hP 0 rfl rfl 3 (by decide) (hts _ wd_X5_ship_ok_6) (fun _ h9 => h9) rfl dX5_ship_88 ?_
      refine lv_iload_n hx hb dX5_ship_91 rfl (lv_at hl 0 rfl) ?_
      refine lv_iadd hx hb dX5_ship_92 ?_
      refine va_put (D := D) (ci := 5) (v := .int (co + (gS (fun j => if (Q 14) j = (nI r) then gWorth ((Q 11) j) ((Q 10) j) ((Q 13) j) ((Q 12) j) else 0) nw 0 0))) (ty := .int) (C := RX5) (T := TX5) (N := 4) hx hb hts wc_X5_ship_ok_X5 tyX5 tyX5_ok nmX5 hown hK hP hD hS 0 rfl rfl 3 (by decide) (hts _ wd_X5_ship_ok_6) (fun _ h9 => h9) rfl (by decide +kernel) rfl rfl (Nat.le_of_ble_eq_true rfl) dX5_ship_93 (fun H locs hP hD hS => ?_)
      have hP : va_P D vwCl [(gx, .inr (5, [.ref qu, .ref qt, .ref rf, .int (co + (gS (fun j => if (Q 14) j = (nI r) then gWorth ((Q 11) j) ((Q 10) j) ((Q 13) j) ((Q 12) j) else 0) nw 0 0))])), (qu, .inr (2, [.ref qf, .ref bd, .ref cr, .ref wh, .int (nI day)])), (qf, .inl (cI, 9, .inl (Q 0))), (wh, .inr (4, [.ref wh0, .ref wh1, .ref wh2, .ref wh3, .ref wh4, .ref wh5, .int (nI nw)])), (wh1, .inl (cI, 60, .inl (Q 10))), (wh2, .inl (cI, 60, .inl (Q 11))), (wh3, .inl (cZ, 60, .inl (Q 12))), (wh4, .inl (cI, 60, .inl (gM nw (fun j => if (Q 14) j = (nI r) then 3 else (Q 13) j) (Q 13)))), (wh5, .inl (cI, 60, .inl (gM nw (fun j => if (Q 14) j = (nI r) then (-1) else (Q 14) j) (Q 14)))), (rf, .inr (3, [.ref rf0, .ref rf1, .int (nI nr)])), (rf1, .inl (cI, 3, .inl bo))] H := hP
      have hD : va_D A [(gx, .inr (5, [.ref qu, .ref qt, .ref rf, .int (co + (gS (fun j => if (Q 14) j = (nI r) then gWorth ((Q 11) j) ((Q 10) j) ((Q 13) j) ((Q 12) j) else 0) nw 0 0))])), (qu, .inr (2, [.ref qf, .ref bd, .ref cr, .ref wh, .int (nI day)])), (qf, .inl (cI, 9, .inl (Q 0))), (wh, .inr (4, [.ref wh0, .ref wh1, .ref wh2, .ref wh3, .ref wh4, .ref wh5, .int (nI nw)])), (wh1, .inl (cI, 60, .inl (Q 10))), (wh2, .inl (cI, 60, .inl (Q 11))), (wh3, .inl (cZ, 60, .inl (Q 12))), (wh4, .inl (cI, 60, .inl (gM nw (fun j => if (Q 14) j = (nI r) then 3 else (Q 13) j) (Q 13)))), (wh5, .inl (cI, 60, .inl (gM nw (fun j => if (Q 14) j = (nI r) then (-1) else (Q 14) j) (Q 14)))), (rf, .inr (3, [.ref rf0, .ref rf1, .int (nI nr)])), (rf1, .inl (cI, 3, .inl bo))] := hD
      refine lv_aload_n hx hb dX5_ship_96 rfl (lv_at hl 1 rfl) ?_
      refine va_get (D := D) (ci := 5) (v := .ref rf) (C := RX5) (T := TX5) (N := 4) hx hb hts wc_X5_ship_ok_X5 hown hK hP 0 rfl rfl 2 (by decide) (hts _ wd_X5_ship_ok_1) (fun _ h9 => h9) rfl dX5_ship_97 ?_
      refine lv_iload_n hx hb dX5_ship_100 rfl (lv_at hl 2 rfl) ?_
      refine lv_aload_n hx hb dX5_ship_101 rfl (lv_at hl 1 rfl) ?_
      refine va_get (D := D) (ci := 5) (v := .ref qu) (C := RX5) (T := TX5) (N := 4) hx hb hts wc_X5_ship_ok_X5 hown hK hP 0 rfl rfl 0 (by decide) (hts _ wd_X5_ship_ok_2) (fun _ h9 => h9) rfl dX5_ship_102 ?_
      refine va_get (D := D) (ci := 2) (v := .int (nI day)) (C := RX2) (T := TX2) (N := 5) hx hb hts wc_X5_ship_ok_X2 hown hK hP 1 rfl rfl 4 (by decide) (hts _ wd_X5_ship_ok_4) (fun _ h9 => h9) rfl dX5_ship_105 ?_
      have hFc := gw_free (wc := [(rf, .inr (3, [.ref rf0, .ref rf1, .int (nI nr)])), (rf1, .inl (cI, 3, .inl bo))]) hD [9, 10] rfl
      refine va_callv (va_runV (As := [.int (nI r), .int (nI day)]) (rest := []) ⟨hx, hb, hml, hown, hts⟩ (met_X3_leave l D cI cZ cL rf rf0 rf1 nr bo r day (by first | assumption | omega)) (cwV 2 hts gX5_ship_X3_leave rfl rfl rfl (by decide +kernel) ⟨Nat.le_of_ble_eq_true rfl, Nat.le_of_ble_eq_true rfl⟩) (gw_pvw hK hP hD (wc := [(rf, .inr (3, [.ref rf0, .ref rf1, .int (nI nr)])), (rf1, .inl (cI, 3, .inl bo))]) [9, 10] (by decide) rfl rfl 3 rfl rfl rfl) rfl rfl hl.1 rfl (lv_room (Nat.le_of_ble_eq_true rfl)) dX5_ship_108 ⟨Nat.zero_le _, Nat.zero_le _⟩) hS (fun q _ h => hFc q h) hFc (fun _ t H1 locs ht hvm hw hB hz1 hk1 hS => ?_)
      rw [ht] at hB
      obtain ⟨hP, hD⟩ := gw_upd (wc := [(rf, .inr (3, [.ref rf0, .ref rf1, .int (nI nr)])), (rf1, .inl (cI, 3, .inl bo))]) (w1 := [(rf, .inr (3, [.ref rf0, .ref rf1, .int (nI nr)])), (rf1, .inl (cI, 3, .inl (upd bo r (nI (day + 4)))))]) (ws' := [(gx, .inr (5, [.ref qu, .ref qt, .ref rf, .int (co + (gS (fun j => if (Q 14) j = (nI r) then gWorth ((Q 11) j) ((Q 10) j) ((Q 13) j) ((Q 12) j) else 0) nw 0 0))])), (qu, .inr (2, [.ref qf, .ref bd, .ref cr, .ref wh, .int (nI day)])), (qf, .inl (cI, 9, .inl (Q 0))), (wh, .inr (4, [.ref wh0, .ref wh1, .ref wh2, .ref wh3, .ref wh4, .ref wh5, .int (nI nw)])), (wh1, .inl (cI, 60, .inl (Q 10))), (wh2, .inl (cI, 60, .inl (Q 11))), (wh3, .inl (cZ, 60, .inl (Q 12))), (wh4, .inl (cI, 60, .inl (gM nw (fun j => if (Q 14) j = (nI r) then 3 else (Q 13) j) (Q 13)))), (wh5, .inl (cI, 60, .inl (gM nw (fun j => if (Q 14) j = (nI r) then (-1) else (Q 14) j) (Q 14)))), (rf, .inr (3, [.ref rf0, .ref rf1, .int (nI nr)])), (rf1, .inl (cI, 3, .inl (upd bo r (nI (day + 4)))))]) hP hD [9, 10] rfl rfl hk1 hB rfl
      generalize H1 = H at hP hS ⊢
      refine lv_iload_n hx hb dX5_ship_111 rfl (lv_at hl 0 rfl) ?_
      subst hAe
      exact W.iret (v := gS (fun j => if (Q 14) j = (nI r) then gWorth ((Q 11) j) ((Q 10) j) ((Q 13) j) ((Q 12) j) else 0) nw 0 0) hx hb hr (fun t ht hW => ⟨⟨_, (), rfl, rfl, gw_hh ht hP⟩, hS.F ht⟩) hS.2.2 dX5_ship_112
  · skip
    exact absurd ⟨r, hr2, rfl⟩ hc

theorem wc_X5_bed_ok_X5 : ∀ w ∈ u_ws RX5 TX5 4, w ∈ wsX5_bed := by decide +kernel
theorem wd_X5_bed_ok_1 : (.fieldLink RX5 10 "GritWheels" "now" "LGritWheels$Quarry;" : Cond) ∈ wsX5_bed := by decide +kernel
theorem wc_X5_bed_ok_X2 : ∀ w ∈ u_ws RX2 TX2 5, w ∈ wsX5_bed := by decide +kernel
theorem wd_X5_bed_ok_3 : (.fieldLink RX5 48 "GritWheels$Quarry" "beds" "LGritWheels$Beds;" : Cond) ∈ wsX5_bed := by decide +kernel
set_option maxHeartbeats 4000000 in
set_option maxRecDepth 100000 in
theorem met_X5_bed_ok (l : Launch) (D : va_G) (cI cZ cL : ClassId) (gx : Nat) (qu : Nat) (qt : Nat) (rf : Nat) (qf : Nat) (bd : Nat) (cr : Nat) (wh : Nat) (bd0 : Nat) (bd1 : Nat) (bd2 : Nat) (bd3 : Nat) (cr0 : Nat) (cr1 : Nat) (cr2 : Nat) (cr3 : Nat) (wh0 : Nat) (wh1 : Nat) (wh2 : Nat) (wh3 : Nat) (wh4 : Nat) (wh5 : Nat) (co : Int32) (Q : Nat → Nat → Int32) (nb : Nat) (nq : Nat) (nw : Nat) (day : Nat) (k : Nat) (v : Nat) (hk : k < nb) (hnb : nb ≤ 5) (hv6 : v < 6) (hnq : nq ≤ 6) (hnw : nw ≤ 60) : Met l yX5_bed wsX5_bed ({ frames := 2, cells := 0, slots := 0, locals := 45 }) (gPr [.ref gx, .int (nI k), .int (nI v)] D [(gx, .inr (5, [.ref qu, .ref qt, .ref rf, .int co])), (qu, .inr (2, [.ref qf, .ref bd, .ref cr, .ref wh, .int (nI day)])), (bd, .inr (0, [.ref bd0, .ref bd1, .ref bd2, .ref bd3, .int (nI nb)])), (bd0, .inl (cI, 5, .inl (Q 1))), (bd1, .inl (cI, 5, .inl (Q 2))), (bd2, .inl (cI, 5, .inl (Q 3))), (bd3, .inl (cI, 5, .inl (Q 4))), (cr, .inr (1, [.ref cr0, .ref cr1, .ref cr2, .ref cr3, .int (nI nq)])), (cr1, .inl (cI, 6, .inl (Q 6))), (wh, .inr (4, [.ref wh0, .ref wh1, .ref wh2, .ref wh3, .ref wh4, .ref wh5, .int (nI nw)])), (wh0, .inl (cI, 60, .inl (Q 9))), (wh3, .inl (cZ, 60, .inl (Q 12)))] (gT cI cZ cL)) (va_Qi (fun (zr : Int32) (_ : Unit) => zr = gBed Q nq nw v k) (fun _ _ => True) gN) 0 0 gN := by
  refine Met.ofW (cc := cX5_bed) (maxL := 3) (ret := (some .int)) (by decide +kernel) rfl ?_
  intro p e s m args below meth c s₁ B hml hv
  obtain ⟨rfl, hP, hK⟩ := hv
  have hx := B.exec
  have hb := B.bytes
  have hr := B.returns
  have hts := atoms_spec (ws := wsX5_bed) B.pre
  have hown : s.vm.findClass RX5 = some m.cls := findClass_of_methodNamed B.named
  have hlocks := B.notSynchronized
  have hS : va_S gN s.heap s.heap [] := va_S.rf
  have hP : va_P D vwCl [(gx, .inr (5, [.ref qu, .ref qt, .ref rf, .int co])), (qu, .inr (2, [.ref qf, .ref bd, .ref cr, .ref wh, .int (nI day)])), (bd, .inr (0, [.ref bd0, .ref bd1, .ref bd2, .ref bd3, .int (nI nb)])), (bd0, .inl (cI, 5, .inl (Q 1))), (bd1, .inl (cI, 5, .inl (Q 2))), (bd2, .inl (cI, 5, .inl (Q 3))), (bd3, .inl (cI, 5, .inl (Q 4))), (cr, .inr (1, [.ref cr0, .ref cr1, .ref cr2, .ref cr3, .int (nI nq)])), (cr1, .inl (cI, 6, .inl (Q 6))), (wh, .inr (4, [.ref wh0, .ref wh1, .ref wh2, .ref wh3, .ref wh4, .ref wh5, .int (nI nw)])), (wh0, .inl (cI, 60, .inl (Q 9))), (wh3, .inl (cZ, 60, .inl (Q 12)))] s.heap := hP
  have hl := lv_entry ([.ref gx, .int (nI k), .int (nI v)]) (n := 3) (Nat.le_of_ble_eq_true rfl)
  rw [lg_entry_eq]
  generalize (lg_sl ([.ref gx, .int (nI k), .int (nI v)]) ++ List.replicate (3 - (lg_sl ([.ref gx, .int (nI k), .int (nI v)])).length) Slot.unset).toArray = ls at hl ⊢
  have hl : lv_has ls 3 [(0, .ref gx), (1, .int (nI k)), (2, .int (nI v))] := hl
  refine lv_aload_n hx hb dX5_bed_0 rfl (lv_at hl 0 rfl) ?_
  refine va_get (D := D) (ci := 5) (v := .ref qu) (C := RX5) (T := TX5) (N := 4) hx hb hts wc_X5_bed_ok_X5 hown hK hP 0 rfl rfl 0 (by decide) (hts _ wd_X5_bed_ok_1) (fun _ h9 => h9) rfl dX5_bed_1 ?_
  refine va_get (D := D) (ci := 2) (v := .ref bd) (C := RX2) (T := TX2) (N := 5) hx hb hts wc_X5_bed_ok_X2 hown hK hP 1 rfl rfl 1 (by decide) (hts _ wd_X5_bed_ok_3) (fun _ h9 => h9) rfl dX5_bed_4 ?_
  refine lv_iload_n hx hb dX5_bed_7 rfl (lv_at hl 1 rfl) ?_
  refine va_calli (va_runV (As := [.int (nI k)]) (rest := []) ⟨hx, hb, hml, hown, hts⟩ (met_X0_has l D cI cZ cL bd bd0 bd1 bd2 bd3 nb (nI k) (by first | assumption | omega)) (cwV 1 hts gX5_bed_X0_has rfl rfl rfl (by decide +kernel) ⟨Nat.le_of_ble_eq_true rfl, Nat.le_of_ble_eq_true rfl⟩) (gw_pvr hK hP (wc := [(bd, .inr (0, [.ref bd0, .ref bd1, .ref bd2, .ref bd3, .int (nI nb)]))]) [2] rfl 0 rfl rfl rfl) rfl rfl hl.1 rfl (lv_room (Nat.le_of_ble_eq_true rfl)) dX5_bed_8 ⟨Nat.zero_le _, Nat.zero_le _⟩) hS (fun _ _ z => z.elim) (fun _ z => z.elim) (fun r_2 _ t H1 locs ht hvm hw hB hz1 hk1 hS => ?_)
  have hP := gw_ro hP hk1
  generalize H1 = H at hP hS ⊢
  rcases hw with ⟨rfl, hc⟩ | ⟨rfl, hc⟩
  · skip
    refine lv_if_eq (tgt := 23) hx hb dX5_bed_11 (by decide) (fun c_4 => False.elim (by revert c_4; decide)) (fun _ => ?_)
    refine lv_iload_n hx hb dX5_bed_14 rfl (lv_at hl 2 rfl) ?_
    refine lv_iconst (v := 0) hx hb dX5_bed_15 (by decide) ?_
    refine lv_iconst (v := 5) hx hb dX5_bed_16 (by decide) ?_
    refine va_calli (va_runS (As := [.int (nI v), .int 0, .int 5]) (rest := []) ⟨hx, hb, hml, hown, hts⟩ (met_X5_isWithin l D cI cZ cL (nI v) 0 5) (va_cwS 3 hts gX5_bed_X5_isWithin rfl rfl rfl (by decide +kernel) ⟨Nat.le_of_ble_eq_true rfl, Nat.le_of_ble_eq_true rfl⟩) (gw_psr hK hP (wc := []) [] rfl) rfl rfl hl.1 rfl (lv_room (Nat.le_of_ble_eq_true rfl)) dX5_bed_17 ⟨Nat.zero_le _, Nat.zero_le _⟩) hS (fun _ _ z => z.elim) (fun _ z => z.elim) (fun r_6 _ t H1 locs ht hvm hw hB hz1 hk1 hS => ?_)
    have hP := gw_ro hP hk1
    generalize H1 = H at hP hS ⊢
    rcases hw with ⟨rfl, hc⟩ | ⟨rfl, hc⟩
    · skip
      refine lv_if_ne (tgt := 33) hx hb dX5_bed_20 (by decide) (fun _ => ?_) (fun c_8 => False.elim (by revert c_8; decide))
      refine lv_aload_n hx hb dX5_bed_33 rfl (lv_at hl 0 rfl) ?_
      refine va_get (D := D) (ci := 5) (v := .ref qu) (C := RX5) (T := TX5) (N := 4) hx hb hts wc_X5_bed_ok_X5 hown hK hP 0 rfl rfl 0 (by decide) (hts _ wd_X5_bed_ok_1) (fun _ h9 => h9) rfl dX5_bed_34 ?_
      refine lv_iload_n hx hb dX5_bed_37 rfl (lv_at hl 1 rfl) ?_
      refine lv_iload_n hx hb dX5_bed_38 rfl (lv_at hl 2 rfl) ?_
      refine va_calli (va_runV (As := [.int (nI k), .int (nI v)]) (rest := []) ⟨hx, hb, hml, hown, hts⟩ (met_X2_bedFact l D cI cZ cL qu qf bd cr wh bd0 bd1 bd2 bd3 cr0 cr1 cr2 cr3 wh0 wh1 wh2 wh3 wh4 wh5 Q nb nq nw day k v (by first | assumption | omega) (by first | assumption | omega) (by first | assumption | omega) (by first | assumption | omega)) (cwV 2 hts gX5_bed_X2_bedFact rfl rfl rfl (by decide +kernel) ⟨Nat.le_of_ble_eq_true rfl, Nat.le_of_ble_eq_true rfl⟩) (gw_pvr hK hP (wc := [(qu, .inr (2, [.ref qf, .ref bd, .ref cr, .ref wh, .int (nI day)])), (bd, .inr (0, [.ref bd0, .ref bd1, .ref bd2, .ref bd3, .int (nI nb)])), (bd0, .inl (cI, 5, .inl (Q 1))), (bd1, .inl (cI, 5, .inl (Q 2))), (bd2, .inl (cI, 5, .inl (Q 3))), (bd3, .inl (cI, 5, .inl (Q 4))), (cr, .inr (1, [.ref cr0, .ref cr1, .ref cr2, .ref cr3, .int (nI nq)])), (cr1, .inl (cI, 6, .inl (Q 6))), (wh, .inr (4, [.ref wh0, .ref wh1, .ref wh2, .ref wh3, .ref wh4, .ref wh5, .int (nI nw)])), (wh0, .inl (cI, 60, .inl (Q 9))), (wh3, .inl (cZ, 60, .inl (Q 12)))]) [1, 2, 3, 4, 5, 6, 7, 8, 9, 10, 11] rfl 2 rfl rfl rfl) rfl rfl hl.1 rfl (lv_room (Nat.le_of_ble_eq_true rfl)) dX5_bed_39 ⟨Nat.zero_le _, Nat.zero_le _⟩) hS (fun _ _ z => z.elim) (fun _ z => z.elim) (fun r_10 _ t H1 locs ht hvm hw hB hz1 hk1 hS => ?_)
      have hP := gw_ro hP hk1
      generalize H1 = H at hP hS ⊢
      subst hw
      exact W.iret (v := gBed Q nq nw v k) hx hb hr (fun t ht hW => ⟨⟨_, (), rfl, rfl, trivial⟩, hS.F ht⟩) hS.2.2 dX5_bed_42
    · skip
      exact absurd (gw_in (n := 5) (by omega) (by decide)) hc
  · skip
    exact absurd ⟨k, hk, rfl⟩ hc

theorem wc_X5_quarrier_ok_X5 : ∀ w ∈ u_ws RX5 TX5 4, w ∈ wsX5_quarrier := by decide +kernel
theorem wd_X5_quarrier_ok_1 : (.fieldLink RX5 10 "GritWheels" "now" "LGritWheels$Quarry;" : Cond) ∈ wsX5_quarrier := by decide +kernel
theorem wc_X5_quarrier_ok_X2 : ∀ w ∈ u_ws RX2 TX2 5, w ∈ wsX5_quarrier := by decide +kernel
theorem wd_X5_quarrier_ok_3 : (.fieldLink RX5 69 "GritWheels$Quarry" "crew" "LGritWheels$Crew;" : Cond) ∈ wsX5_quarrier := by decide +kernel
set_option maxHeartbeats 4000000 in
set_option maxRecDepth 100000 in
theorem met_X5_quarrier_ok (l : Launch) (D : va_G) (cI cZ cL : ClassId) (gx : Nat) (qu : Nat) (qt : Nat) (rf : Nat) (qf : Nat) (bd : Nat) (cr : Nat) (wh : Nat) (bd0 : Nat) (bd1 : Nat) (bd2 : Nat) (bd3 : Nat) (cr0 : Nat) (cr1 : Nat) (cr2 : Nat) (cr3 : Nat) (co : Int32) (Q : Nat → Nat → Int32) (nb : Nat) (nq : Nat) (day : Nat) (k : Nat) (v : Nat) (hk : k < nq) (hnb : nb ≤ 5) (hv5 : v < 5) (hnq : nq ≤ 6) (hpl : gPl Q nb nq) : Met l yX5_quarrier wsX5_quarrier ({ frames := 3, cells := 0, slots := 0, locals := 67 }) (gPr [.ref gx, .int (nI k), .int (nI v)] D [(gx, .inr (5, [.ref qu, .ref qt, .ref rf, .int co])), (qu, .inr (2, [.ref qf, .ref bd, .ref cr, .ref wh, .int (nI day)])), (bd, .inr (0, [.ref bd0, .ref bd1, .ref bd2, .ref bd3, .int (nI nb)])), (bd0, .inl (cI, 5, .inl (Q 1))), (cr, .inr (1, [.ref cr0, .ref cr1, .ref cr2, .ref cr3, .int (nI nq)])), (cr0, .inl (cI, 6, .inl (Q 5))), (cr1, .inl (cI, 6, .inl (Q 6))), (cr2, .inl (cI, 6, .inl (Q 7))), (cr3, .inl (cI, 6, .inl (Q 8)))] (gT cI cZ cL)) (va_Qi (fun (zr : Int32) (_ : Unit) => zr = gQua Q v k) (fun _ _ => True) gN) 0 0 gN := by
  refine Met.ofW (cc := cX5_quarrier) (maxL := 3) (ret := (some .int)) (by decide +kernel) rfl ?_
  intro p e s m args below meth c s₁ B hml hv
  obtain ⟨rfl, hP, hK⟩ := hv
  have hx := B.exec
  have hb := B.bytes
  have hr := B.returns
  have hts := atoms_spec (ws := wsX5_quarrier) B.pre
  have hown : s.vm.findClass RX5 = some m.cls := findClass_of_methodNamed B.named
  have hlocks := B.notSynchronized
  have hS : va_S gN s.heap s.heap [] := va_S.rf
  have hP : va_P D vwCl [(gx, .inr (5, [.ref qu, .ref qt, .ref rf, .int co])), (qu, .inr (2, [.ref qf, .ref bd, .ref cr, .ref wh, .int (nI day)])), (bd, .inr (0, [.ref bd0, .ref bd1, .ref bd2, .ref bd3, .int (nI nb)])), (bd0, .inl (cI, 5, .inl (Q 1))), (cr, .inr (1, [.ref cr0, .ref cr1, .ref cr2, .ref cr3, .int (nI nq)])), (cr0, .inl (cI, 6, .inl (Q 5))), (cr1, .inl (cI, 6, .inl (Q 6))), (cr2, .inl (cI, 6, .inl (Q 7))), (cr3, .inl (cI, 6, .inl (Q 8)))] s.heap := hP
  have hl := lv_entry ([.ref gx, .int (nI k), .int (nI v)]) (n := 3) (Nat.le_of_ble_eq_true rfl)
  rw [lg_entry_eq]
  generalize (lg_sl ([.ref gx, .int (nI k), .int (nI v)]) ++ List.replicate (3 - (lg_sl ([.ref gx, .int (nI k), .int (nI v)])).length) Slot.unset).toArray = ls at hl ⊢
  have hl : lv_has ls 3 [(0, .ref gx), (1, .int (nI k)), (2, .int (nI v))] := hl
  refine lv_aload_n hx hb dX5_quarrier_0 rfl (lv_at hl 0 rfl) ?_
  refine va_get (D := D) (ci := 5) (v := .ref qu) (C := RX5) (T := TX5) (N := 4) hx hb hts wc_X5_quarrier_ok_X5 hown hK hP 0 rfl rfl 0 (by decide) (hts _ wd_X5_quarrier_ok_1) (fun _ h9 => h9) rfl dX5_quarrier_1 ?_
  refine va_get (D := D) (ci := 2) (v := .ref cr) (C := RX2) (T := TX2) (N := 5) hx hb hts wc_X5_quarrier_ok_X2 hown hK hP 1 rfl rfl 2 (by decide) (hts _ wd_X5_quarrier_ok_3) (fun _ h9 => h9) rfl dX5_quarrier_4 ?_
  refine lv_iload_n hx hb dX5_quarrier_7 rfl (lv_at hl 1 rfl) ?_
  refine va_calli (va_runV (As := [.int (nI k)]) (rest := []) ⟨hx, hb, hml, hown, hts⟩ (met_X1_has l D cI cZ cL cr cr0 cr1 cr2 cr3 nq (nI k) (by first | assumption | omega)) (cwV 1 hts gX5_quarrier_X1_has rfl rfl rfl (by decide +kernel) ⟨Nat.le_of_ble_eq_true rfl, Nat.le_of_ble_eq_true rfl⟩) (gw_pvr hK hP (wc := [(cr, .inr (1, [.ref cr0, .ref cr1, .ref cr2, .ref cr3, .int (nI nq)]))]) [4] rfl 1 rfl rfl rfl) rfl rfl hl.1 rfl (lv_room (Nat.le_of_ble_eq_true rfl)) dX5_quarrier_8 ⟨Nat.zero_le _, Nat.zero_le _⟩) hS (fun _ _ z => z.elim) (fun _ z => z.elim) (fun r_2 _ t H1 locs ht hvm hw hB hz1 hk1 hS => ?_)
  have hP := gw_ro hP hk1
  generalize H1 = H at hP hS ⊢
  rcases hw with ⟨rfl, hc⟩ | ⟨rfl, hc⟩
  · skip
    refine lv_if_eq (tgt := 23) hx hb dX5_quarrier_11 (by decide) (fun c_4 => False.elim (by revert c_4; decide)) (fun _ => ?_)
    refine lv_iload_n hx hb dX5_quarrier_14 rfl (lv_at hl 2 rfl) ?_
    refine lv_iconst (v := 0) hx hb dX5_quarrier_15 (by decide) ?_
    refine lv_iconst (v := 4) hx hb dX5_quarrier_16 (by decide) ?_
    refine va_calli (va_runS (As := [.int (nI v), .int 0, .int 4]) (rest := []) ⟨hx, hb, hml, hown, hts⟩ (met_X5_isWithin l D cI cZ cL (nI v) 0 4) (va_cwS 3 hts gX5_quarrier_X5_isWithin rfl rfl rfl (by decide +kernel) ⟨Nat.le_of_ble_eq_true rfl, Nat.le_of_ble_eq_true rfl⟩) (gw_psr hK hP (wc := []) [] rfl) rfl rfl hl.1 rfl (lv_room (Nat.le_of_ble_eq_true rfl)) dX5_quarrier_17 ⟨Nat.zero_le _, Nat.zero_le _⟩) hS (fun _ _ z => z.elim) (fun _ z => z.elim) (fun r_6 _ t H1 locs ht hvm hw hB hz1 hk1 hS => ?_)
    have hP := gw_ro hP hk1
    generalize H1 = H at hP hS ⊢
    rcases hw with ⟨rfl, hc⟩ | ⟨rfl, hc⟩
    · skip
      refine lv_if_ne (tgt := 33) hx hb dX5_quarrier_20 (by decide) (fun _ => ?_) (fun c_8 => False.elim (by revert c_8; decide))
      refine lv_aload_n hx hb dX5_quarrier_33 rfl (lv_at hl 0 rfl) ?_
      refine va_get (D := D) (ci := 5) (v := .ref qu) (C := RX5) (T := TX5) (N := 4) hx hb hts wc_X5_quarrier_ok_X5 hown hK hP 0 rfl rfl 0 (by decide) (hts _ wd_X5_quarrier_ok_1) (fun _ h9 => h9) rfl dX5_quarrier_34 ?_
      refine lv_iload_n hx hb dX5_quarrier_37 rfl (lv_at hl 1 rfl) ?_
      refine lv_iload_n hx hb dX5_quarrier_38 rfl (lv_at hl 2 rfl) ?_
      refine va_calli (va_runV (As := [.int (nI k), .int (nI v)]) (rest := []) ⟨hx, hb, hml, hown, hts⟩ (met_X2_quarrierFact l D cI cZ cL qu qf bd cr wh bd0 bd1 bd2 bd3 cr0 cr1 cr2 cr3 Q nb nq day k v (by first | assumption | omega) (by first | assumption | omega) (by first | assumption | omega) (by first | assumption | omega) (by first | assumption | omega)) (cwV 2 hts gX5_quarrier_X2_quarrierFact rfl rfl rfl (by decide +kernel) ⟨Nat.le_of_ble_eq_true rfl, Nat.le_of_ble_eq_true rfl⟩) (gw_pvr hK hP (wc := [(qu, .inr (2, [.ref qf, .ref bd, .ref cr, .ref wh, .int (nI day)])), (bd, .inr (0, [.ref bd0, .ref bd1, .ref bd2, .ref bd3, .int (nI nb)])), (bd0, .inl (cI, 5, .inl (Q 1))), (cr, .inr (1, [.ref cr0, .ref cr1, .ref cr2, .ref cr3, .int (nI nq)])), (cr0, .inl (cI, 6, .inl (Q 5))), (cr1, .inl (cI, 6, .inl (Q 6))), (cr2, .inl (cI, 6, .inl (Q 7))), (cr3, .inl (cI, 6, .inl (Q 8)))]) [1, 2, 3, 4, 5, 6, 7, 8] rfl 2 rfl rfl rfl) rfl rfl hl.1 rfl (lv_room (Nat.le_of_ble_eq_true rfl)) dX5_quarrier_39 ⟨Nat.zero_le _, Nat.zero_le _⟩) hS (fun _ _ z => z.elim) (fun _ z => z.elim) (fun r_10 _ t H1 locs ht hvm hw hB hz1 hk1 hS => ?_)
      have hP := gw_ro hP hk1
      generalize H1 = H at hP hS ⊢
      subst hw
      exact W.iret (v := gQua Q v k) hx hb hr (fun t ht hW => ⟨⟨_, (), rfl, rfl, trivial⟩, hS.F ht⟩) hS.2.2 dX5_quarrier_42
    · skip
      exact absurd (gw_in (n := 4) (by omega) (by decide)) hc
  · skip
    exact absurd ⟨k, hk, rfl⟩ hc

theorem wc_X5_wheel_ok_X5 : ∀ w ∈ u_ws RX5 TX5 4, w ∈ wsX5_wheel := by decide +kernel
theorem wd_X5_wheel_ok_1 : (.fieldLink RX5 10 "GritWheels" "now" "LGritWheels$Quarry;" : Cond) ∈ wsX5_wheel := by decide +kernel
theorem wc_X5_wheel_ok_X2 : ∀ w ∈ u_ws RX2 TX2 5, w ∈ wsX5_wheel := by decide +kernel
theorem wd_X5_wheel_ok_3 : (.fieldLink RX5 93 "GritWheels$Quarry" "wheels" "LGritWheels$Wheels;" : Cond) ∈ wsX5_wheel := by decide +kernel
set_option maxHeartbeats 4000000 in
set_option maxRecDepth 100000 in
theorem met_X5_wheel_ok (l : Launch) (D : va_G) (cI cZ cL : ClassId) (gx : Nat) (qu : Nat) (qt : Nat) (rf : Nat) (qf : Nat) (bd : Nat) (cr : Nat) (wh : Nat) (wh0 : Nat) (wh1 : Nat) (wh2 : Nat) (wh3 : Nat) (wh4 : Nat) (wh5 : Nat) (co : Int32) (Q : Nat → Nat → Int32) (nw : Nat) (day : Nat) (k : Nat) (v : Nat) (hk : k < nw) (hnw : nw ≤ 60) (hv6 : v < 6) : Met l yX5_wheel wsX5_wheel ({ frames := 2, cells := 0, slots := 0, locals := 45 }) (gPr [.ref gx, .int (nI k), .int (nI v)] D [(gx, .inr (5, [.ref qu, .ref qt, .ref rf, .int co])), (qu, .inr (2, [.ref qf, .ref bd, .ref cr, .ref wh, .int (nI day)])), (wh, .inr (4, [.ref wh0, .ref wh1, .ref wh2, .ref wh3, .ref wh4, .ref wh5, .int (nI nw)])), (wh0, .inl (cI, 60, .inl (Q 9))), (wh1, .inl (cI, 60, .inl (Q 10))), (wh2, .inl (cI, 60, .inl (Q 11))), (wh3, .inl (cZ, 60, .inl (Q 12))), (wh4, .inl (cI, 60, .inl (Q 13))), (wh5, .inl (cI, 60, .inl (Q 14)))] (gT cI cZ cL)) (va_Qi (fun (zr : Int32) (_ : Unit) => zr = gFact v (Q 9 k) (Q 11 k) (Q 10 k) (Q 13 k) (Q 12 k) (Q 14 k)) (fun _ _ => True) gN) 0 0 gN := by
  refine Met.ofW (cc := cX5_wheel) (maxL := 3) (ret := (some .int)) (by decide +kernel) rfl ?_
  intro p e s m args below meth c s₁ B hml hv
  obtain ⟨rfl, hP, hK⟩ := hv
  have hx := B.exec
  have hb := B.bytes
  have hr := B.returns
  have hts := atoms_spec (ws := wsX5_wheel) B.pre
  have hown : s.vm.findClass RX5 = some m.cls := findClass_of_methodNamed B.named
  have hlocks := B.notSynchronized
  have hS : va_S gN s.heap s.heap [] := va_S.rf
  have hP : va_P D vwCl [(gx, .inr (5, [.ref qu, .ref qt, .ref rf, .int co])), (qu, .inr (2, [.ref qf, .ref bd, .ref cr, .ref wh, .int (nI day)])), (wh, .inr (4, [.ref wh0, .ref wh1, .ref wh2, .ref wh3, .ref wh4, .ref wh5, .int (nI nw)])), (wh0, .inl (cI, 60, .inl (Q 9))), (wh1, .inl (cI, 60, .inl (Q 10))), (wh2, .inl (cI, 60, .inl (Q 11))), (wh3, .inl (cZ, 60, .inl (Q 12))), (wh4, .inl (cI, 60, .inl (Q 13))), (wh5, .inl (cI, 60, .inl (Q 14)))] s.heap := hP
  have hl := lv_entry ([.ref gx, .int (nI k), .int (nI v)]) (n := 3) (Nat.le_of_ble_eq_true rfl)
  rw [lg_entry_eq]
  generalize (lg_sl ([.ref gx, .int (nI k), .int (nI v)]) ++ List.replicate (3 - (lg_sl ([.ref gx, .int (nI k), .int (nI v)])).length) Slot.unset).toArray = ls at hl ⊢
  have hl : lv_has ls 3 [(0, .ref gx), (1, .int (nI k)), (2, .int (nI v))] := hl
  refine lv_aload_n hx hb dX5_wheel_0 rfl (lv_at hl 0 rfl) ?_
  refine va_get (D := D) (ci := 5) (v := .ref qu) (C := RX5) (T := TX5) (N := 4) hx hb hts wc_X5_wheel_ok_X5 hown hK hP 0 rfl rfl 0 (by decide) (hts _ wd_X5_wheel_ok_1) (fun _ h9 => h9) rfl dX5_wheel_1 ?_
  refine va_get (D := D) (ci := 2) (v := .ref wh) (C := RX2) (T := TX2) (N := 5) hx hb hts wc_X5_wheel_ok_X2 hown hK hP 1 rfl rfl 3 (by decide) (hts _ wd_X5_wheel_ok_3) (fun _ h9 => h9) rfl dX5_wheel_4 ?_
  refine lv_iload_n hx hb dX5_wheel_7 rfl (lv_at hl 1 rfl) ?_
  refine va_calli (va_runV (As := [.int (nI k)]) (rest := []) ⟨hx, hb, hml, hown, hts⟩ (met_X4_has l D cI cZ cL wh wh0 wh1 wh2 wh3 wh4 wh5 nw (nI k) (by first | assumption | omega)) (cwV 1 hts gX5_wheel_X4_has rfl rfl rfl (by decide +kernel) ⟨Nat.le_of_ble_eq_true rfl, Nat.le_of_ble_eq_true rfl⟩) (gw_pvr hK hP (wc := [(wh, .inr (4, [.ref wh0, .ref wh1, .ref wh2, .ref wh3, .ref wh4, .ref wh5, .int (nI nw)]))]) [2] rfl 4 rfl rfl rfl) rfl rfl hl.1 rfl (lv_room (Nat.le_of_ble_eq_true rfl)) dX5_wheel_8 ⟨Nat.zero_le _, Nat.zero_le _⟩) hS (fun _ _ z => z.elim) (fun _ z => z.elim) (fun r_2 _ t H1 locs ht hvm hw hB hz1 hk1 hS => ?_)
  have hP := gw_ro hP hk1
  generalize H1 = H at hP hS ⊢
  rcases hw with ⟨rfl, hc⟩ | ⟨rfl, hc⟩
  · skip
    refine lv_if_eq (tgt := 23) hx hb dX5_wheel_11 (by decide) (fun c_4 => False.elim (by revert c_4; decide)) (fun _ => ?_)
    refine lv_iload_n hx hb dX5_wheel_14 rfl (lv_at hl 2 rfl) ?_
    refine lv_iconst (v := 0) hx hb dX5_wheel_15 (by decide) ?_
    refine lv_iconst (v := 5) hx hb dX5_wheel_16 (by decide) ?_
    refine va_calli (va_runS (As := [.int (nI v), .int 0, .int 5]) (rest := []) ⟨hx, hb, hml, hown, hts⟩ (met_X5_isWithin l D cI cZ cL (nI v) 0 5) (va_cwS 3 hts gX5_wheel_X5_isWithin rfl rfl rfl (by decide +kernel) ⟨Nat.le_of_ble_eq_true rfl, Nat.le_of_ble_eq_true rfl⟩) (gw_psr hK hP (wc := []) [] rfl) rfl rfl hl.1 rfl (lv_room (Nat.le_of_ble_eq_true rfl)) dX5_wheel_17 ⟨Nat.zero_le _, Nat.zero_le _⟩) hS (fun _ _ z => z.elim) (fun _ z => z.elim) (fun r_6 _ t H1 locs ht hvm hw hB hz1 hk1 hS => ?_)
    have hP := gw_ro hP hk1
    generalize H1 = H at hP hS ⊢
    rcases hw with ⟨rfl, hc⟩ | ⟨rfl, hc⟩
    · skip
      refine lv_if_ne (tgt := 33) hx hb dX5_wheel_20 (by decide) (fun _ => ?_) (fun c_8 => False.elim (by revert c_8; decide))
      refine lv_aload_n hx hb dX5_wheel_33 rfl (lv_at hl 0 rfl) ?_
      refine va_get (D := D) (ci := 5) (v := .ref qu) (C := RX5) (T := TX5) (N := 4) hx hb hts wc_X5_wheel_ok_X5 hown hK hP 0 rfl rfl 0 (by decide) (hts _ wd_X5_wheel_ok_1) (fun _ h9 => h9) rfl dX5_wheel_34 ?_
      refine va_get (D := D) (ci := 2) (v := .ref wh) (C := RX2) (T := TX2) (N := 5) hx hb hts wc_X5_wheel_ok_X2 hown hK hP 1 rfl rfl 3 (by decide) (hts _ wd_X5_wheel_ok_3) (fun _ h9 => h9) rfl dX5_wheel_37 ?_
      refine lv_iload_n hx hb dX5_wheel_40 rfl (lv_at hl 1 rfl) ?_
      refine lv_iload_n hx hb dX5_wheel_41 rfl (lv_at hl 2 rfl) ?_
      refine va_calli (va_runV (As := [.int (nI k), .int (nI v)]) (rest := []) ⟨hx, hb, hml, hown, hts⟩ (met_X4_fact l D cI cZ cL wh wh0 wh1 wh2 wh3 wh4 wh5 nw (Q 9) (Q 10) (Q 11) (Q 12) (Q 13) (Q 14) k v (by first | assumption | omega) (by first | assumption | omega)) (cwV 2 hts gX5_wheel_X4_fact rfl rfl rfl (by decide +kernel) ⟨Nat.le_of_ble_eq_true rfl, Nat.le_of_ble_eq_true rfl⟩) (gw_pvr hK hP (wc := [(wh, .inr (4, [.ref wh0, .ref wh1, .ref wh2, .ref wh3, .ref wh4, .ref wh5, .int (nI nw)])), (wh0, .inl (cI, 60, .inl (Q 9))), (wh1, .inl (cI, 60, .inl (Q 10))), (wh2, .inl (cI, 60, .inl (Q 11))), (wh3, .inl (cZ, 60, .inl (Q 12))), (wh4, .inl (cI, 60, .inl (Q 13))), (wh5, .inl (cI, 60, .inl (Q 14)))]) [2, 3, 4, 5, 6, 7, 8] rfl 4 rfl rfl rfl) rfl rfl hl.1 rfl (lv_room (Nat.le_of_ble_eq_true rfl)) dX5_wheel_42 ⟨Nat.zero_le _, Nat.zero_le _⟩) hS (fun _ _ z => z.elim) (fun _ z => z.elim) (fun r_10 _ t H1 locs ht hvm hw hB hz1 hk1 hS => ?_)
      have hP := gw_ro hP hk1
      generalize H1 = H at hP hS ⊢
      subst hw
      exact W.iret (v := gFact v ((Q 9) k) ((Q 11) k) ((Q 10) k) ((Q 13) k) ((Q 12) k) ((Q 14) k)) hx hb hr (fun t ht hW => ⟨⟨_, (), rfl, rfl, trivial⟩, hS.F ht⟩) hS.2.2 dX5_wheel_45
    · skip
      exact absurd (gw_in (n := 5) (by omega) (by decide)) hc
  · skip
    exact absurd ⟨k, hk, rfl⟩ hc

theorem wc_X5_raft_ok_X5 : ∀ w ∈ u_ws RX5 TX5 4, w ∈ wsX5_raft := by decide +kernel
theorem wd_X5_raft_ok_1 : (.fieldLink RX5 22 "GritWheels" "rafts" "LGritWheels$Rafts;" : Cond) ∈ wsX5_raft := by decide +kernel
set_option maxHeartbeats 4000000 in
set_option maxRecDepth 100000 in
theorem met_X5_raft_ok (l : Launch) (D : va_G) (cI cZ cL : ClassId) (gx : Nat) (qu : Nat) (qt : Nat) (rf : Nat) (qf : Nat) (bd : Nat) (cr : Nat) (wh : Nat) (wh0 : Nat) (wh1 : Nat) (wh2 : Nat) (wh3 : Nat) (wh4 : Nat) (wh5 : Nat) (rf0 : Nat) (rf1 : Nat) (co : Int32) (Q : Nat → Nat → Int32) (nw : Nat) (day : Nat) (nr : Nat) (ca : Nat → Int32) (bo : Nat → Int32) (k : Nat) (v : Nat) (hk : k < nr) (hnr : nr ≤ 3) (hv4 : v < 4) (hnw : nw ≤ 60) : Met l yX5_raft wsX5_raft ({ frames := 4, cells := 0, slots := 0, locals := 87 }) (gPr [.ref gx, .int (nI k), .int (nI v)] D [(gx, .inr (5, [.ref qu, .ref qt, .ref rf, .int co])), (qu, .inr (2, [.ref qf, .ref bd, .ref cr, .ref wh, .int (nI day)])), (wh, .inr (4, [.ref wh0, .ref wh1, .ref wh2, .ref wh3, .ref wh4, .ref wh5, .int (nI nw)])), (wh2, .inl (cI, 60, .inl (Q 11))), (wh5, .inl (cI, 60, .inl (Q 14))), (rf, .inr (3, [.ref rf0, .ref rf1, .int (nI nr)])), (rf0, .inl (cI, 3, .inl ca)), (rf1, .inl (cI, 3, .inl bo))] (gT cI cZ cL)) (va_Qi (fun (zr : Int32) (_ : Unit) => zr = gRaft Q nw day ca bo v k) (fun _ _ => True) gN) 0 0 gN := by
  refine Met.ofW (cc := cX5_raft) (maxL := 3) (ret := (some .int)) (by decide +kernel) rfl ?_
  intro p e s m args below meth c s₁ B hml hv
  obtain ⟨rfl, hP, hK⟩ := hv
  have hx := B.exec
  have hb := B.bytes
  have hr := B.returns
  have hts := atoms_spec (ws := wsX5_raft) B.pre
  have hown : s.vm.findClass RX5 = some m.cls := findClass_of_methodNamed B.named
  have hlocks := B.notSynchronized
  have hS : va_S gN s.heap s.heap [] := va_S.rf
  have hP : va_P D vwCl [(gx, .inr (5, [.ref qu, .ref qt, .ref rf, .int co])), (qu, .inr (2, [.ref qf, .ref bd, .ref cr, .ref wh, .int (nI day)])), (wh, .inr (4, [.ref wh0, .ref wh1, .ref wh2, .ref wh3, .ref wh4, .ref wh5, .int (nI nw)])), (wh2, .inl (cI, 60, .inl (Q 11))), (wh5, .inl (cI, 60, .inl (Q 14))), (rf, .inr (3, [.ref rf0, .ref rf1, .int (nI nr)])), (rf0, .inl (cI, 3, .inl ca)), (rf1, .inl (cI, 3, .inl bo))] s.heap := hP
  have hl := lv_entry ([.ref gx, .int (nI k), .int (nI v)]) (n := 3) (Nat.le_of_ble_eq_true rfl)
  rw [lg_entry_eq]
  generalize (lg_sl ([.ref gx, .int (nI k), .int (nI v)]) ++ List.replicate (3 - (lg_sl ([.ref gx, .int (nI k), .int (nI v)])).length) Slot.unset).toArray = ls at hl ⊢
  have hl : lv_has ls 3 [(0, .ref gx), (1, .int (nI k)), (2, .int (nI v))] := hl
  refine lv_aload_n hx hb dX5_raft_0 rfl (lv_at hl 0 rfl) ?_
  refine va_get (D := D) (ci := 5) (v := .ref rf) (C := RX5) (T := TX5) (N := 4) hx hb hts wc_X5_raft_ok_X5 hown hK hP 0 rfl rfl 2 (by decide) (hts _ wd_X5_raft_ok_1) (fun _ h9 => h9) rfl dX5_raft_1 ?_
  refine lv_iload_n hx hb dX5_raft_4 rfl (lv_at hl 1 rfl) ?_
  refine va_calli (va_runV (As := [.int (nI k)]) (rest := []) ⟨hx, hb, hml, hown, hts⟩ (met_X3_has l D cI cZ cL rf rf0 rf1 nr (nI k) (by first | assumption | omega)) (cwV 1 hts gX5_raft_X3_has rfl rfl rfl (by decide +kernel) ⟨Nat.le_of_ble_eq_true rfl, Nat.le_of_ble_eq_true rfl⟩) (gw_pvr hK hP (wc := [(rf, .inr (3, [.ref rf0, .ref rf1, .int (nI nr)]))]) [5] rfl 3 rfl rfl rfl) rfl rfl hl.1 rfl (lv_room (Nat.le_of_ble_eq_true rfl)) dX5_raft_5 ⟨Nat.zero_le _, Nat.zero_le _⟩) hS (fun _ _ z => z.elim) (fun _ z => z.elim) (fun r_2 _ t H1 locs ht hvm hw hB hz1 hk1 hS => ?_)
  have hP := gw_ro hP hk1
  generalize H1 = H at hP hS ⊢
  rcases hw with ⟨rfl, hc⟩ | ⟨rfl, hc⟩
  · skip
    refine lv_if_eq (tgt := 20) hx hb dX5_raft_8 (by decide) (fun c_4 => False.elim (by revert c_4; decide)) (fun _ => ?_)
    refine lv_iload_n hx hb dX5_raft_11 rfl (lv_at hl 2 rfl) ?_
    refine lv_iconst (v := 0) hx hb dX5_raft_12 (by decide) ?_
    refine lv_iconst (v := 3) hx hb dX5_raft_13 (by decide) ?_
    refine va_calli (va_runS (As := [.int (nI v), .int 0, .int 3]) (rest := []) ⟨hx, hb, hml, hown, hts⟩ (met_X5_isWithin l D cI cZ cL (nI v) 0 3) (va_cwS 3 hts gX5_raft_X5_isWithin rfl rfl rfl (by decide +kernel) ⟨Nat.le_of_ble_eq_true rfl, Nat.le_of_ble_eq_true rfl⟩) (gw_psr hK hP (wc := []) [] rfl) rfl rfl hl.1 rfl (lv_room (Nat.le_of_ble_eq_true rfl)) dX5_raft_14 ⟨Nat.zero_le _, Nat.zero_le _⟩) hS (fun _ _ z => z.elim) (fun _ z => z.elim) (fun r_6 _ t H1 locs ht hvm hw hB hz1 hk1 hS => ?_)
    have hP := gw_ro hP hk1
    generalize H1 = H at hP hS ⊢
    rcases hw with ⟨rfl, hc⟩ | ⟨rfl, hc⟩
    · skip
      refine lv_if_ne (tgt := 30) hx hb dX5_raft_17 (by decide) (fun _ => ?_) (fun c_8 => False.elim (by revert c_8; decide))
      refine lv_aload_n hx hb dX5_raft_30 rfl (lv_at hl 0 rfl) ?_
      refine lv_iload_n hx hb dX5_raft_31 rfl (lv_at hl 1 rfl) ?_
      refine lv_iload_n hx hb dX5_raft_32 rfl (lv_at hl 2 rfl) ?_
      refine va_calli (va_runV (As := [.int (nI k), .int (nI v)]) (rest := []) ⟨hx, hb, hml, hown, hts⟩ (met_X5_raftFact l D cI cZ cL gx qu qt rf qf bd cr wh wh0 wh1 wh2 wh3 wh4 wh5 rf0 rf1 co Q nw day nr ca bo k v (by first | assumption | omega) (by first | assumption | omega) (by first | assumption | omega)) (cwV 2 hts gX5_raft_X5_raftFact rfl rfl rfl (by decide +kernel) ⟨Nat.le_of_ble_eq_true rfl, Nat.le_of_ble_eq_true rfl⟩) (gw_pvr hK hP (wc := [(gx, .inr (5, [.ref qu, .ref qt, .ref rf, .int co])), (qu, .inr (2, [.ref qf, .ref bd, .ref cr, .ref wh, .int (nI day)])), (wh, .inr (4, [.ref wh0, .ref wh1, .ref wh2, .ref wh3, .ref wh4, .ref wh5, .int (nI nw)])), (wh2, .inl (cI, 60, .inl (Q 11))), (wh5, .inl (cI, 60, .inl (Q 14))), (rf, .inr (3, [.ref rf0, .ref rf1, .int (nI nr)])), (rf0, .inl (cI, 3, .inl ca)), (rf1, .inl (cI, 3, .inl bo))]) [0, 1, 2, 3, 4, 5, 6, 7] rfl 5 rfl rfl rfl) rfl rfl hl.1 rfl (lv_room (Nat.le_of_ble_eq_true rfl)) dX5_raft_33 ⟨Nat.zero_le _, Nat.zero_le _⟩) hS (fun _ _ z => z.elim) (fun _ z => z.elim) (fun r_10 _ t H1 locs ht hvm hw hB hz1 hk1 hS => ?_)
      have hP := gw_ro hP hk1
      generalize H1 = H at hP hS ⊢
      subst hw
      exact W.iret (v := gRaft Q nw day ca bo v k) hx hb hr (fun t ht hW => ⟨⟨_, (), rfl, rfl, trivial⟩, hS.F ht⟩) hS.2.2 dX5_raft_36
    · skip
      exact absurd (gw_in (n := 3) (by omega) (by decide)) hc
  · skip
    exact absurd ⟨k, hk, rfl⟩ hc

set_option maxHeartbeats 4000000 in
set_option maxRecDepth 100000 in
theorem met_X5_count_ok (l : Launch) (D : va_G) (cI cZ cL : ClassId) (gx : Nat) (qu : Nat) (qt : Nat) (rf : Nat) (qf : Nat) (bd : Nat) (cr : Nat) (wh : Nat) (cr0 : Nat) (cr1 : Nat) (cr2 : Nat) (cr3 : Nat) (wh0 : Nat) (wh1 : Nat) (wh2 : Nat) (wh3 : Nat) (wh4 : Nat) (wh5 : Nat) (co : Int32) (Q : Nat → Nat → Int32) (nq : Nat) (nw : Nat) (day : Nat) (v : Nat) (hv9 : v < 10) (hnq : nq ≤ 6) (hnw : nw ≤ 60) (hd : day < 2 ^ 31) : Met l yX5_count wsX5_count ({ frames := 5, cells := 0, slots := 0, locals := 104 }) (gPr [.ref gx, .int (nI v)] D [(gx, .inr (5, [.ref qu, .ref qt, .ref rf, .int co])), (qu, .inr (2, [.ref qf, .ref bd, .ref cr, .ref wh, .int (nI day)])), (qf, .inl (cI, 9, .inl (Q 0))), (cr, .inr (1, [.ref cr0, .ref cr1, .ref cr2, .ref cr3, .int (nI nq)])), (cr2, .inl (cI, 6, .inl (Q 7))), (wh, .inr (4, [.ref wh0, .ref wh1, .ref wh2, .ref wh3, .ref wh4, .ref wh5, .int (nI nw)])), (wh4, .inl (cI, 60, .inl (Q 13)))] (gT cI cZ cL)) (va_Qi (fun (zr : Int32) (_ : Unit) => zr = gCntC Q nq nw day co v) (fun _ _ => True) gN) 0 0 gN := by
  refine Met.ofW (cc := cX5_count) (maxL := 2) (ret := (some .int)) (by decide +kernel) rfl ?_
  intro p e s m args below meth c s₁ B hml hv
  obtain ⟨rfl, hP, hK⟩ := hv
  have hx := B.exec
  have hb := B.bytes
  have hr := B.returns
  have hts := atoms_spec (ws := wsX5_count) B.pre
  have hown : s.vm.findClass RX5 = some m.cls := findClass_of_methodNamed B.named
  have hlocks := B.notSynchronized
  have hS : va_S gN s.heap s.heap [] := va_S.rf
  have hP : va_P D vwCl [(gx, .inr (5, [.ref qu, .ref qt, .ref rf, .int co])), (qu, .inr (2, [.ref qf, .ref bd, .ref cr, .ref wh, .int (nI day)])), (qf, .inl (cI, 9, .inl (Q 0))), (cr, .inr (1, [.ref cr0, .ref cr1, .ref cr2, .ref cr3, .int (nI nq)])), (cr2, .inl (cI, 6, .inl (Q 7))), (wh, .inr (4, [.ref wh0, .ref wh1, .ref wh2, .ref wh3, .ref wh4, .ref wh5, .int (nI nw)])), (wh4, .inl (cI, 60, .inl (Q 13)))] s.heap := hP
  have hl := lv_entry ([.ref gx, .int (nI v)]) (n := 2) (Nat.le_of_ble_eq_true rfl)
  rw [lg_entry_eq]
  generalize (lg_sl ([.ref gx, .int (nI v)]) ++ List.replicate (2 - (lg_sl ([.ref gx, .int (nI v)])).length) Slot.unset).toArray = ls at hl ⊢
  have hl : lv_has ls 2 [(0, .ref gx), (1, .int (nI v))] := hl
  refine lv_iload_n hx hb dX5_count_0 rfl (lv_at hl 1 rfl) ?_
  refine lv_iconst (v := 0) hx hb dX5_count_1 (by decide) ?_
  refine lv_bipush (v := 9) hx hb dX5_count_2 (by decide) ?_
  refine va_calli (va_runS (As := [.int (nI v), .int 0, .int 9]) (rest := []) ⟨hx, hb, hml, hown, hts⟩ (met_X5_isWithin l D cI cZ cL (nI v) 0 9) (va_cwS 3 hts gX5_count_X5_isWithin rfl rfl rfl (by decide +kernel) ⟨Nat.le_of_ble_eq_true rfl, Nat.le_of_ble_eq_true rfl⟩) (gw_psr hK hP (wc := []) [] rfl) rfl rfl hl.1 rfl (lv_room (Nat.le_of_ble_eq_true rfl)) dX5_count_4 ⟨Nat.zero_le _, Nat.zero_le _⟩) hS (fun _ _ z => z.elim) (fun _ z => z.elim) (fun r_2 _ t H1 locs ht hvm hw hB hz1 hk1 hS => ?_)
  have hP := gw_ro hP hk1
  generalize H1 = H at hP hS ⊢
  rcases hw with ⟨rfl, hc⟩ | ⟨rfl, hc⟩
  · skip
    refine lv_if_ne (tgt := 20) hx hb dX5_count_7 (by decide) (fun _ => ?_) (fun c_4 => False.elim (by revert c_4; decide))
    refine lv_aload_n hx hb dX5_count_20 rfl (lv_at hl 0 rfl) ?_
    refine lv_iload_n hx hb dX5_count_21 rfl (lv_at hl 1 rfl) ?_
    refine va_calli (va_runV (As := [.int (nI v)]) (rest := []) ⟨hx, hb, hml, hown, hts⟩ (met_X5_countOf l D cI cZ cL gx qu qt rf qf bd cr wh cr0 cr1 cr2 cr3 wh0 wh1 wh2 wh3 wh4 wh5 co Q nq nw day v (by first | assumption | omega) (by first | assumption | omega) (by first | assumption | omega) (by first | assumption | omega)) (cwV 1 hts gX5_count_X5_countOf rfl rfl rfl (by decide +kernel) ⟨Nat.le_of_ble_eq_true rfl, Nat.le_of_ble_eq_true rfl⟩) (gw_pvr hK hP (wc := [(gx, .inr (5, [.ref qu, .ref qt, .ref rf, .int co])), (qu, .inr (2, [.ref qf, .ref bd, .ref cr, .ref wh, .int (nI day)])), (qf, .inl (cI, 9, .inl (Q 0))), (cr, .inr (1, [.ref cr0, .ref cr1, .ref cr2, .ref cr3, .int (nI nq)])), (cr2, .inl (cI, 6, .inl (Q 7))), (wh, .inr (4, [.ref wh0, .ref wh1, .ref wh2, .ref wh3, .ref wh4, .ref wh5, .int (nI nw)])), (wh4, .inl (cI, 60, .inl (Q 13)))]) [0, 1, 2, 3, 4, 5, 6] rfl 5 rfl rfl rfl) rfl rfl hl.1 rfl (lv_room (Nat.le_of_ble_eq_true rfl)) dX5_count_22 ⟨Nat.zero_le _, Nat.zero_le _⟩) hS (fun _ _ z => z.elim) (fun _ z => z.elim) (fun r_6 _ t H1 locs ht hvm hw hB hz1 hk1 hS => ?_)
    have hP := gw_ro hP hk1
    generalize H1 = H at hP hS ⊢
    subst hw
    exact W.iret (v := gCntC Q nq nw day co v) hx hb hr (fun t ht hW => ⟨⟨_, (), rfl, rfl, trivial⟩, hS.F ht⟩) hS.2.2 dX5_count_25
  · skip
    exact absurd (gw_in (n := 9) (by omega) (by decide)) hc
