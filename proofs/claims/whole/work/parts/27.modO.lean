theorem wc_X6_setFall_ok_X6 : ∀ w ∈ u_ws RX6 TX6 10, w ∈ wsX6_setFall := by decide +kernel
theorem wd_X6_setFall_ok_1 : (.fieldLink RX6 28 "GritWheelsModel" "thrown" "I" : Cond) ∈ wsX6_setFall := by decide +kernel
theorem wd_X6_setFall_ok_2 : (.fieldLink RX6 7 "GritWheelsModel" "fall" "[I" : Cond) ∈ wsX6_setFall := by decide +kernel
set_option maxHeartbeats 4000000 in
set_option maxRecDepth 100000 in
theorem met_X6_setFall_ok (l : Launch) (D : va_G) (cI cZ cL : ClassId) (mo : Nat) (m4 : Nat) (m5 : Nat) (m6 : Nat) (m7 : Nat) (m8 : Nat) (m9 : Nat) (th : Int32) (nb : Nat) (nq : Nat) (nr : Nat) (Q : Nat → Nat → Int32) (d : Nat) (y : Int32) (hd9 : d < 9) (hy : 0 ≤ y ∧ y ≤ 9) : Met l yX6_setFall wsX6_setFall ({ frames := 1, cells := 0, slots := 0, locals := 22 }) (gPw [.ref mo, .int (nI d), .int y] D [(mo, .inr (6, [.int th, .int (nI nb), .int (nI nq), .int (nI nr), .ref m4, .ref m5, .ref m6, .ref m7, .ref m8, .ref m9])), (m4, .inl (cI, 9, .inl (Q 0)))] (gT cI cZ cL)) (va_Qi (fun (zr : Int32) (_ : Unit) => zr = Q 0 d) (fun _ t => va_P D vwCl [(mo, .inr (6, [.int 0, .int (nI nb), .int (nI nq), .int (nI nr), .ref m4, .ref m5, .ref m6, .ref m7, .ref m8, .ref m9])), (m4, .inl (cI, 9, .inl (upd (Q 0) d y)))] t.heap) (gA (gL [(mo, .inr (6, [.int th, .int (nI nb), .int (nI nq), .int (nI nr), .ref m4, .ref m5, .ref m6, .ref m7, .ref m8, .ref m9])), (m4, .inl (cI, 9, .inl (Q 0)))]))) 0 0 (gA (gL [(mo, .inr (6, [.int th, .int (nI nb), .int (nI nq), .int (nI nr), .ref m4, .ref m5, .ref m6, .ref m7, .ref m8, .ref m9])), (m4, .inl (cI, 9, .inl (Q 0)))])) := by
  refine Met.ofW (cc := cX6_setFall) (maxL := 4) (ret := (some .int)) (by decide +kernel) rfl ?_
  intro p e s m args below meth c s₁ B hml hv
  obtain ⟨rfl, hP, hK, hD0⟩ := hv
  have hx := B.exec
  have hb := B.bytes
  have hr := B.returns
  have hts := atoms_spec (ws := wsX6_setFall) B.pre
  have hown : s.vm.findClass RX6 = some m.cls := findClass_of_methodNamed B.named
  have hlocks := B.notSynchronized
  have hD := gw_self hD0
  generalize hAe : gA (gL [(mo, .inr (6, [.int th, .int (nI nb), .int (nI nq), .int (nI nr), .ref m4, .ref m5, .ref m6, .ref m7, .ref m8, .ref m9])), (m4, .inl (cI, 9, .inl (Q 0)))]) = A at hD ⊢
  have hS : va_S A s.heap s.heap [] := va_S.rf
  have hP : va_P D vwCl [(mo, .inr (6, [.int th, .int (nI nb), .int (nI nq), .int (nI nr), .ref m4, .ref m5, .ref m6, .ref m7, .ref m8, .ref m9])), (m4, .inl (cI, 9, .inl (Q 0)))] s.heap := hP
  have hl := lv_entry ([.ref mo, .int (nI d), .int y]) (n := 4) (Nat.le_of_ble_eq_true rfl)
  rw [lg_entry_eq]
  generalize (lg_sl ([.ref mo, .int (nI d), .int y]) ++ List.replicate (4 - (lg_sl ([.ref mo, .int (nI d), .int y])).length) Slot.unset).toArray = ls at hl ⊢
  have hl : lv_has ls 4 [(0, .ref mo), (1, .int (nI d)), (2, .int y)] := hl
  refine lv_aload_n hx hb dX6_setFall_0 rfl (lv_at hl 0 rfl) ?_
  refine lv_iconst (v := 0) hx hb dX6_setFall_1 (by decide) ?_
  refine va_put (D := D) (ci := 6) (v := .int 0) (ty := .int) (C := RX6) (T := TX6) (N := 10) hx hb hts wc_X6_setFall_ok_X6 tyX6 tyX6_ok nmX6 hown hK hP hD hS 0 rfl rfl 0 (by decide) (hts _ wd_X6_setFall_ok_1) (fun _ h9 => h9) rfl (by decide +kernel) rfl rfl (Nat.le_of_ble_eq_true rfl) dX6_setFall_2 (fun H locs hP hD hS => ?_)
  have hP : va_P D vwCl [(mo, .inr (6, [.int 0, .int (nI nb), .int (nI nq), .int (nI nr), .ref m4, .ref m5, .ref m6, .ref m7, .ref m8, .ref m9])), (m4, .inl (cI, 9, .inl (Q 0)))] H := hP
  have hD : va_D A [(mo, .inr (6, [.int 0, .int (nI nb), .int (nI nq), .int (nI nr), .ref m4, .ref m5, .ref m6, .ref m7, .ref m8, .ref m9])), (m4, .inl (cI, 9, .inl (Q 0)))] := hD
  refine lv_iload_n hx hb dX6_setFall_5 rfl (lv_at hl 1 rfl) ?_
  refine lv_iconst (v := 0) hx hb dX6_setFall_6 (by decide) ?_
  refine lv_bipush (v := 8) hx hb dX6_setFall_7 (by decide) ?_
  refine va_calli (va_runS (As := [.int (nI d), .int 0, .int 8]) (rest := []) ⟨hx, hb, hml, hown, hts⟩ (met_X6_isIn l D cI cZ cL (nI d) 0 8) (va_cwS 3 hts gX6_setFall_X6_isIn rfl rfl rfl (by decide +kernel) ⟨Nat.le_of_ble_eq_true rfl, Nat.le_of_ble_eq_true rfl⟩) (gw_psr hK hP (wc := []) [] rfl) rfl rfl hl.1 rfl (lv_room (Nat.le_of_ble_eq_true rfl)) dX6_setFall_9 ⟨Nat.zero_le _, Nat.zero_le _⟩) hS (fun _ _ z => z.elim) (fun _ z => z.elim) (fun r_2 _ t H1 locs ht hvm hw hB hz1 hk1 hS => ?_)
  have hP := gw_ro hP hk1
  generalize H1 = H at hP hS ⊢
  rcases hw with ⟨rfl, hc⟩ | ⟨rfl, hc⟩
  · skip
    refine lv_if_ne (tgt := 21) hx hb dX6_setFall_12 (by decide) (fun _ => ?_) (fun c_4 => False.elim (by revert c_4; decide))
    refine lv_iload_n hx hb dX6_setFall_21 rfl (lv_at hl 2 rfl) ?_
    refine lv_iconst (v := 0) hx hb dX6_setFall_22 (by decide) ?_
    refine lv_bipush (v := 9) hx hb dX6_setFall_23 (by decide) ?_
    refine va_calli (va_runS (As := [.int y, .int 0, .int 9]) (rest := []) ⟨hx, hb, hml, hown, hts⟩ (met_X6_isIn l D cI cZ cL y 0 9) (va_cwS 3 hts gX6_setFall_X6_isIn rfl rfl rfl (by decide +kernel) ⟨Nat.le_of_ble_eq_true rfl, Nat.le_of_ble_eq_true rfl⟩) (gw_psr hK hP (wc := []) [] rfl) rfl rfl hl.1 rfl (lv_room (Nat.le_of_ble_eq_true rfl)) dX6_setFall_25 ⟨Nat.zero_le _, Nat.zero_le _⟩) hS (fun _ _ z => z.elim) (fun _ z => z.elim) (fun r_6 _ t H1 locs ht hvm hw hB hz1 hk1 hS => ?_)
    have hP := gw_ro hP hk1
    generalize H1 = H at hP hS ⊢
    rcases hw with ⟨rfl, hc⟩ | ⟨rfl, hc⟩
    · skip
      refine lv_if_ne (tgt := 37) hx hb dX6_setFall_28 (by decide) (fun _ => ?_) (fun c_8 => False.elim (by revert c_8; decide))
      refine lv_aload_n hx hb dX6_setFall_37 rfl (lv_at hl 0 rfl) ?_
      refine va_get (D := D) (ci := 6) (v := .ref m4) (C := RX6) (T := TX6) (N := 10) hx hb hts wc_X6_setFall_ok_X6 hown hK hP 0 rfl rfl 4 (by decide) (hts _ wd_X6_setFall_ok_2) (fun _ h9 => h9) rfl dX6_setFall_38 ?_
      refine lv_iload_n hx hb dX6_setFall_41 rfl (lv_at hl 1 rfl) ?_
      refine gw_iald hx hb hK hP 1 0 (k := d) rfl rfl (by omega) (by decide) dX6_setFall_42 ?_
      refine lv_istore_n (lv' := [(3, .int (Q 0 d)), (0, .ref mo), (1, .int (nI d)), (2, .int y)]) hx hb dX6_setFall_43 rfl hl (by decide) rfl (fun ls hl => ?_)
      refine lv_aload_n hx hb dX6_setFall_44 rfl (lv_at hl 1 rfl) ?_
      refine va_get (D := D) (ci := 6) (v := .ref m4) (C := RX6) (T := TX6) (N := 10) hx hb hts wc_X6_setFall_ok_X6 hown hK hP 0 rfl rfl 4 (by decide) (hts _ wd_X6_setFall_ok_2) (fun _ h9 => h9) rfl dX6_setFall_45 ?_
      refine lv_iload_n hx hb dX6_setFall_48 rfl (lv_at hl 2 rfl) ?_
      refine lv_iload_n hx hb dX6_setFall_49 rfl (lv_at hl 3 rfl) ?_
      refine gw_iast hx hb hK hP hD hS 1 0 (k := d) rfl rfl (by omega) (by decide) dX6_setFall_50 (fun H locs hP hD hS => ?_)
      have hP : va_P D vwCl [(mo, .inr (6, [.int 0, .int (nI nb), .int (nI nq), .int (nI nr), .ref m4, .ref m5, .ref m6, .ref m7, .ref m8, .ref m9])), (m4, .inl (cI, 9, .inl (upd (Q 0) d y)))] H := hP
      have hD : va_D A [(mo, .inr (6, [.int 0, .int (nI nb), .int (nI nq), .int (nI nr), .ref m4, .ref m5, .ref m6, .ref m7, .ref m8, .ref m9])), (m4, .inl (cI, 9, .inl (upd (Q 0) d y)))] := hD
      refine lv_iload_n hx hb dX6_setFall_51 rfl (lv_at hl 0 rfl) ?_
      subst hAe
      exact W.iret (v := Q 0 d) hx hb hr (fun t ht hW => ⟨⟨_, (), rfl, rfl, gw_hh ht hP⟩, hS.F ht⟩) hS.2.2 dX6_setFall_52
    · skip
      exact absurd hy hc
  · skip
    exact absurd (gw_in (n := 8) (by omega) (by decide)) hc

theorem wc_X6_open_ok_X6 : ∀ w ∈ u_ws RX6 TX6 10, w ∈ wsX6_open := by decide +kernel
theorem wd_X6_open_ok_1 : (.fieldLink RX6 28 "GritWheelsModel" "thrown" "I" : Cond) ∈ wsX6_open := by decide +kernel
theorem wd_X6_open_ok_2 : (.fieldLink RX6 32 "GritWheelsModel" "beds" "I" : Cond) ∈ wsX6_open := by decide +kernel
theorem wd_X6_open_ok_3 : (.fieldLink RX6 13 "GritWheelsModel" "rock" "[I" : Cond) ∈ wsX6_open := by decide +kernel
set_option maxHeartbeats 4000000 in
set_option maxRecDepth 100000 in
theorem met_X6_open_ok (l : Launch) (D : va_G) (cI cZ cL : ClassId) (mo : Nat) (m4 : Nat) (m5 : Nat) (m6 : Nat) (m7 : Nat) (m8 : Nat) (m9 : Nat) (th : Int32) (nb : Nat) (nq : Nat) (nr : Nat) (Q : Nat → Nat → Int32) (y1 : Int32) (y2 : Int32) (y3 : Int32) (hy1 : 1 ≤ y1 ∧ y1 ≤ 9) (hy2 : 0 ≤ y2 ∧ y2 ≤ 9) (hy3 : 0 ≤ y3 ∧ y3 ≤ 200) (hnb : nb < 5) : Met l yX6_open wsX6_open ({ frames := 1, cells := 0, slots := 0, locals := 22 }) (gPw [.ref mo, .int y1, .int y2, .int y3] D [(mo, .inr (6, [.int th, .int (nI nb), .int (nI nq), .int (nI nr), .ref m4, .ref m5, .ref m6, .ref m7, .ref m8, .ref m9])), (m5, .inl (cI, 20, .inl (enR Q)))] (gT cI cZ cL)) (va_Qi (fun (zr : Int32) (_ : Unit) => zr = nI nb) (fun _ t => va_P D vwCl [(mo, .inr (6, [.int 0, .int (nI (nb + 1)), .int (nI nq), .int (nI nr), .ref m4, .ref m5, .ref m6, .ref m7, .ref m8, .ref m9])), (m5, .inl (cI, 20, .inl (enR (gOpen Q nb y1 y2 y3))))] t.heap) (gA (gL [(mo, .inr (6, [.int th, .int (nI nb), .int (nI nq), .int (nI nr), .ref m4, .ref m5, .ref m6, .ref m7, .ref m8, .ref m9])), (m5, .inl (cI, 20, .inl (enR Q)))]))) 0 0 (gA (gL [(mo, .inr (6, [.int th, .int (nI nb), .int (nI nq), .int (nI nr), .ref m4, .ref m5, .ref m6, .ref m7, .ref m8, .ref m9])), (m5, .inl (cI, 20, .inl (enR Q)))])) := by
  refine Met.ofW (cc := cX6_open) (maxL := 4) (ret := (some .int)) (by decide +kernel) rfl ?_
  intro p e s m args below meth c s₁ B hml hv
  obtain ⟨rfl, hP, hK, hD0⟩ := hv
  have hx := B.exec
  have hb := B.bytes
  have hr := B.returns
  have hts := atoms_spec (ws := wsX6_open) B.pre
  have hown : s.vm.findClass RX6 = some m.cls := findClass_of_methodNamed B.named
  have hlocks := B.notSynchronized
  have hD := gw_self hD0
  generalize hAe : gA (gL [(mo, .inr (6, [.int th, .int (nI nb), .int (nI nq), .int (nI nr), .ref m4, .ref m5, .ref m6, .ref m7, .ref m8, .ref m9])), (m5, .inl (cI, 20, .inl (enR Q)))]) = A at hD ⊢
  have hS : va_S A s.heap s.heap [] := va_S.rf
  have hP : va_P D vwCl [(mo, .inr (6, [.int th, .int (nI nb), .int (nI nq), .int (nI nr), .ref m4, .ref m5, .ref m6, .ref m7, .ref m8, .ref m9])), (m5, .inl (cI, 20, .inl (enR Q)))] s.heap := hP
  have hl := lv_entry ([.ref mo, .int y1, .int y2, .int y3]) (n := 4) (Nat.le_of_ble_eq_true rfl)
  rw [lg_entry_eq]
  generalize (lg_sl ([.ref mo, .int y1, .int y2, .int y3]) ++ List.replicate (4 - (lg_sl ([.ref mo, .int y1, .int y2, .int y3])).length) Slot.unset).toArray = ls at hl ⊢
  have hl : lv_has ls 4 [(0, .ref mo), (1, .int y1), (2, .int y2), (3, .int y3)] := hl
  refine lv_aload_n hx hb dX6_open_0 rfl (lv_at hl 0 rfl) ?_
  refine lv_iconst (v := 0) hx hb dX6_open_1 (by decide) ?_
  refine va_put (D := D) (ci := 6) (v := .int 0) (ty := .int) (C := RX6) (T := TX6) (N := 10) hx hb hts wc_X6_open_ok_X6 tyX6 tyX6_ok nmX6 hown hK hP hD hS 0 rfl rfl 0 (by decide) (hts _ wd_X6_open_ok_1) (fun _ h9 => h9) rfl (by decide +kernel) rfl rfl (Nat.le_of_ble_eq_true rfl) dX6_open_2 (fun H locs hP hD hS => ?_)
  have hP : va_P D vwCl [(mo, .inr (6, [.int 0, .int (nI nb), .int (nI nq), .int (nI nr), .ref m4, .ref m5, .ref m6, .ref m7, .ref m8, .ref m9])), (m5, .inl (cI, 20, .inl (enR Q)))] H := hP
  have hD : va_D A [(mo, .inr (6, [.int 0, .int (nI nb), .int (nI nq), .int (nI nr), .ref m4, .ref m5, .ref m6, .ref m7, .ref m8, .ref m9])), (m5, .inl (cI, 20, .inl (enR Q)))] := hD
  refine lv_iload_n hx hb dX6_open_5 rfl (lv_at hl 1 rfl) ?_
  refine lv_iconst (v := 1) hx hb dX6_open_6 (by decide) ?_
  refine lv_bipush (v := 9) hx hb dX6_open_7 (by decide) ?_
  refine va_calli (va_runS (As := [.int y1, .int 1, .int 9]) (rest := []) ⟨hx, hb, hml, hown, hts⟩ (met_X6_isIn l D cI cZ cL y1 1 9) (va_cwS 3 hts gX6_open_X6_isIn rfl rfl rfl (by decide +kernel) ⟨Nat.le_of_ble_eq_true rfl, Nat.le_of_ble_eq_true rfl⟩) (gw_psr hK hP (wc := []) [] rfl) rfl rfl hl.1 rfl (lv_room (Nat.le_of_ble_eq_true rfl)) dX6_open_9 ⟨Nat.zero_le _, Nat.zero_le _⟩) hS (fun _ _ z => z.elim) (fun _ z => z.elim) (fun r_2 _ t H1 locs ht hvm hw hB hz1 hk1 hS => ?_)
  have hP := gw_ro hP hk1
  generalize H1 = H at hP hS ⊢
  rcases hw with ⟨rfl, hc⟩ | ⟨rfl, hc⟩
  · skip
    refine lv_if_eq (tgt := 36) hx hb dX6_open_12 (by decide) (fun c_4 => False.elim (by revert c_4; decide)) (fun _ => ?_)
    refine lv_iload_n hx hb dX6_open_15 rfl (lv_at hl 2 rfl) ?_
    refine lv_iconst (v := 0) hx hb dX6_open_16 (by decide) ?_
    refine lv_bipush (v := 9) hx hb dX6_open_17 (by decide) ?_
    refine va_calli (va_runS (As := [.int y2, .int 0, .int 9]) (rest := []) ⟨hx, hb, hml, hown, hts⟩ (met_X6_isIn l D cI cZ cL y2 0 9) (va_cwS 3 hts gX6_open_X6_isIn rfl rfl rfl (by decide +kernel) ⟨Nat.le_of_ble_eq_true rfl, Nat.le_of_ble_eq_true rfl⟩) (gw_psr hK hP (wc := []) [] rfl) rfl rfl hl.1 rfl (lv_room (Nat.le_of_ble_eq_true rfl)) dX6_open_19 ⟨Nat.zero_le _, Nat.zero_le _⟩) hS (fun _ _ z => z.elim) (fun _ z => z.elim) (fun r_6 _ t H1 locs ht hvm hw hB hz1 hk1 hS => ?_)
    have hP := gw_ro hP hk1
    generalize H1 = H at hP hS ⊢
    rcases hw with ⟨rfl, hc⟩ | ⟨rfl, hc⟩
    · skip
      refine lv_if_eq (tgt := 36) hx hb dX6_open_22 (by decide) (fun c_8 => False.elim (by revert c_8; decide)) (fun _ => ?_)
      refine lv_iload_n hx hb dX6_open_25 rfl (lv_at hl 3 rfl) ?_
      refine lv_iconst (v := 0) hx hb dX6_open_26 (by decide) ?_
      refine lv_sipush (v := 200) hx hb dX6_open_27 (by decide) ?_
      refine va_calli (va_runS (As := [.int y3, .int 0, .int 200]) (rest := []) ⟨hx, hb, hml, hown, hts⟩ (met_X6_isIn l D cI cZ cL y3 0 200) (va_cwS 3 hts gX6_open_X6_isIn rfl rfl rfl (by decide +kernel) ⟨Nat.le_of_ble_eq_true rfl, Nat.le_of_ble_eq_true rfl⟩) (gw_psr hK hP (wc := []) [] rfl) rfl rfl hl.1 rfl (lv_room (Nat.le_of_ble_eq_true rfl)) dX6_open_30 ⟨Nat.zero_le _, Nat.zero_le _⟩) hS (fun _ _ z => z.elim) (fun _ z => z.elim) (fun r_10 _ t H1 locs ht hvm hw hB hz1 hk1 hS => ?_)
      have hP := gw_ro hP hk1
      generalize H1 = H at hP hS ⊢
      rcases hw with ⟨rfl, hc⟩ | ⟨rfl, hc⟩
      · skip
        refine lv_if_ne (tgt := 42) hx hb dX6_open_33 (by decide) (fun _ => ?_) (fun c_12 => False.elim (by revert c_12; decide))
        refine lv_aload_n hx hb dX6_open_42 rfl (lv_at hl 0 rfl) ?_
        refine va_get (D := D) (ci := 6) (v := .int (nI nb)) (C := RX6) (T := TX6) (N := 10) hx hb hts wc_X6_open_ok_X6 hown hK hP 0 rfl rfl 1 (by decide) (hts _ wd_X6_open_ok_2) (fun _ h9 => h9) rfl dX6_open_43 ?_
        refine lv_iconst (v := 5) hx hb dX6_open_46 (by decide) ?_
        refine lv_icmp_ne (tgt := 56) hx hb dX6_open_47 (by decide) (fun c_13 => ?_) (fun c_13 => (by first | exact absurd c_13 (show ¬ nI nb = 5 from fun h => absurd ((nI_eq (b := 5) (by omega) (by decide)).mp h) (by omega)) | exact absurd (show ¬ nI nb = 5 from fun h => absurd ((nI_eq (b := 5) (by omega) (by decide)).mp h) (by omega)) c_13))
        refine lv_aload_n hx hb dX6_open_56 rfl (lv_at hl 0 rfl) ?_
        refine va_get (D := D) (ci := 6) (v := .ref m5) (C := RX6) (T := TX6) (N := 10) hx hb hts wc_X6_open_ok_X6 hown hK hP 0 rfl rfl 5 (by decide) (hts _ wd_X6_open_ok_3) (fun _ h9 => h9) rfl dX6_open_57 ?_
        refine lv_iconst (v := 4) hx hb dX6_open_60 (by decide) ?_
        refine lv_aload_n hx hb dX6_open_61 rfl (lv_at hl 0 rfl) ?_
        refine va_get (D := D) (ci := 6) (v := .int (nI nb)) (C := RX6) (T := TX6) (N := 10) hx hb hts wc_X6_open_ok_X6 hown hK hP 0 rfl rfl 1 (by decide) (hts _ wd_X6_open_ok_2) (fun _ h9 => h9) rfl dX6_open_62 ?_
        refine lv_imul hx hb dX6_open_65 ?_
        refine gw_top (y := nI (4 * nb)) (nI_mul 4 nb) ?_
        refine lv_iconst (v := 0) hx hb dX6_open_66 (by decide) ?_
        refine lv_iadd hx hb dX6_open_67 ?_
        refine gw_top (y := nI ((4 * nb) + 0)) (nI_add (4 * nb) 0) ?_
        refine lv_iload_n hx hb dX6_open_68 rfl (lv_at hl 1 rfl) ?_
        refine gw_iast hx hb hK hP hD hS 1 0 (k := (4 * nb) + 0) rfl rfl (by omega) (by decide) dX6_open_69 (fun H locs hP hD hS => ?_)
        have hP : va_P D vwCl [(mo, .inr (6, [.int 0, .int (nI nb), .int (nI nq), .int (nI nr), .ref m4, .ref m5, .ref m6, .ref m7, .ref m8, .ref m9])), (m5, .inl (cI, 20, .inl (upd (enR Q) ((4 * nb) + 0) y1)))] H := hP
        have hD : va_D A [(mo, .inr (6, [.int 0, .int (nI nb), .int (nI nq), .int (nI nr), .ref m4, .ref m5, .ref m6, .ref m7, .ref m8, .ref m9])), (m5, .inl (cI, 20, .inl (upd (enR Q) ((4 * nb) + 0) y1)))] := hD
        refine lv_aload_n hx hb dX6_open_70 rfl (lv_at hl 0 rfl) ?_
        refine va_get (D := D) (ci := 6) (v := .ref m5) (C := RX6) (T := TX6) (N := 10) hx hb hts wc_X6_open_ok_X6 hown hK hP 0 rfl rfl 5 (by decide) (hts _ wd_X6_open_ok_3) (fun _ h9 => h9) rfl dX6_open_71 ?_
        refine lv_iconst (v := 4) hx hb dX6_open_74 (by decide) ?_
        refine lv_aload_n hx hb dX6_open_75 rfl (lv_at hl 0 rfl) ?_
        refine va_get (D := D) (ci := 6) (v := .int (nI nb)) (C := RX6) (T := TX6) (N := 10) hx hb hts wc_X6_open_ok_X6 hown hK hP 0 rfl rfl 1 (by decide) (hts _ wd_X6_open_ok_2) (fun _ h9 => h9) rfl dX6_open_76 ?_
        refine lv_imul hx hb dX6_open_79 ?_
        refine gw_top (y := nI (4 * nb)) (nI_mul 4 nb) ?_
        refine lv_iconst (v := 1) hx hb dX6_open_80 (by decide) ?_
        refine lv_iadd hx hb dX6_open_81 ?_
        refine gw_top (y := nI ((4 * nb) + 1)) (nI_add (4 * nb) 1) ?_
        refine lv_iload_n hx hb dX6_open_82 rfl (lv_at hl 2 rfl) ?_
        refine gw_iast hx hb hK hP hD hS 1 0 (k := (4 * nb) + 1) rfl rfl (by omega) (by decide) dX6_open_83 (fun H locs hP hD hS => ?_)
        have hP : va_P D vwCl [(mo, .inr (6, [.int 0, .int (nI nb), .int (nI nq), .int (nI nr), .ref m4, .ref m5, .ref m6, .ref m7, .ref m8, .ref m9])), (m5, .inl (cI, 20, .inl (upd (upd (enR Q) ((4 * nb) + 0) y1) ((4 * nb) + 1) y2)))] H := hP
        have hD : va_D A [(mo, .inr (6, [.int 0, .int (nI nb), .int (nI nq), .int (nI nr), .ref m4, .ref m5, .ref m6, .ref m7, .ref m8, .ref m9])), (m5, .inl (cI, 20, .inl (upd (upd (enR Q) ((4 * nb) + 0) y1) ((4 * nb) + 1) y2)))] := hD
        refine lv_aload_n hx hb dX6_open_84 rfl (lv_at hl 0 rfl) ?_
        refine va_get (D := D) (ci := 6) (v := .ref m5) (C := RX6) (T := TX6) (N := 10) hx hb hts wc_X6_open_ok_X6 hown hK hP 0 rfl rfl 5 (by decide) (hts _ wd_X6_open_ok_3) (fun _ h9 => h9) rfl dX6_open_85 ?_
        refine lv_iconst (v := 4) hx hb dX6_open_88 (by decide) ?_
        refine lv_aload_n hx hb dX6_open_89 rfl (lv_at hl 0 rfl) ?_
        refine va_get (D := D) (ci := 6) (v := .int (nI nb)) (C := RX6) (T := TX6) (N := 10) hx hb hts wc_X6_open_ok_X6 hown hK hP 0 rfl rfl 1 (by decide) (hts _ wd_X6_open_ok_2) (fun _ h9 => h9) rfl dX6_open_90 ?_
        refine lv_imul hx hb dX6_open_93 ?_
        refine gw_top (y := nI (4 * nb)) (nI_mul 4 nb) ?_
        refine lv_iconst (v := 2) hx hb dX6_open_94 (by decide) ?_
        refine lv_iadd hx hb dX6_open_95 ?_
        refine gw_top (y := nI ((4 * nb) + 2)) (nI_add (4 * nb) 2) ?_
        refine lv_iload_n hx hb dX6_open_96 rfl (lv_at hl 3 rfl) ?_
        refine gw_iast hx hb hK hP hD hS 1 0 (k := (4 * nb) + 2) rfl rfl (by omega) (by decide) dX6_open_97 (fun H locs hP hD hS => ?_)
        have hP : va_P D vwCl [(mo, .inr (6, [.int 0, .int (nI nb), .int (nI nq), .int (nI nr), .ref m4, .ref m5, .ref m6, .ref m7, .ref m8, .ref m9])), (m5, .inl (cI, 20, .inl (upd (upd (upd (enR Q) ((4 * nb) + 0) y1) ((4 * nb) + 1) y2) ((4 * nb) + 2) y3)))] H := hP
        have hD : va_D A [(mo, .inr (6, [.int 0, .int (nI nb), .int (nI nq), .int (nI nr), .ref m4, .ref m5, .ref m6, .ref m7, .ref m8, .ref m9])), (m5, .inl (cI, 20, .inl (upd (upd (upd (enR Q) ((4 * nb) + 0) y1) ((4 * nb) + 1) y2) ((4 * nb) + 2) y3)))] := hD
        refine lv_aload_n hx hb dX6_open_98 rfl (lv_at hl 0 rfl) ?_
        refine lv_dup hx hb dX6_open_99 rfl ?_
        refine va_get (D := D) (ci := 6) (v := .int (nI nb)) (C := RX6) (T := TX6) (N := 10) hx hb hts wc_X6_open_ok_X6 hown hK hP 0 rfl rfl 1 (by decide) (hts _ wd_X6_open_ok_2) (fun _ h9 => h9) rfl dX6_open_100 ?_
        refine lv_iconst (v := 1) hx hb dX6_open_103 (by decide) ?_
        refine lv_iadd hx hb dX6_open_104 ?_
        refine gw_top (y := nI (nb + 1)) (nI_add nb 1) ?_
        refine va_put (D := D) (ci := 6) (v := .int (nI (nb + 1))) (ty := .int) (C := RX6) (T := TX6) (N := 10) hx hb hts wc_X6_open_ok_X6 tyX6 tyX6_ok nmX6 hown hK hP hD hS 0 rfl rfl 1 (by decide) (hts _ wd_X6_open_ok_2) (fun _ h9 => h9) rfl (by decide +kernel) rfl rfl (Nat.le_of_ble_eq_true rfl) dX6_open_105 (fun H locs hP hD hS => ?_)
        have hP : va_P D vwCl [(mo, .inr (6, [.int 0, .int (nI (nb + 1)), .int (nI nq), .int (nI nr), .ref m4, .ref m5, .ref m6, .ref m7, .ref m8, .ref m9])), (m5, .inl (cI, 20, .inl (upd (upd (upd (enR Q) ((4 * nb) + 0) y1) ((4 * nb) + 1) y2) ((4 * nb) + 2) y3)))] H := hP
        have hD : va_D A [(mo, .inr (6, [.int 0, .int (nI (nb + 1)), .int (nI nq), .int (nI nr), .ref m4, .ref m5, .ref m6, .ref m7, .ref m8, .ref m9])), (m5, .inl (cI, 20, .inl (upd (upd (upd (enR Q) ((4 * nb) + 0) y1) ((4 * nb) + 1) y2) ((4 * nb) + 2) y3)))] := hD
        refine lv_aload_n hx hb dX6_open_108 rfl (lv_at hl 0 rfl) ?_
        refine va_get (D := D) (ci := 6) (v := .int (nI (nb + 1))) (C := RX6) (T := TX6) (N := 10) hx hb hts wc_X6_open_ok_X6 hown hK hP 0 rfl rfl 1 (by decide) (hts _ wd_X6_open_ok_2) (fun _ h9 => h9) rfl dX6_open_109 ?_
        refine lv_iconst (v := 1) hx hb dX6_open_112 (by decide) ?_
        refine lv_isub hx hb dX6_open_113 ?_
        have hw_14 : upd (upd (upd (enR Q) ((4 * nb) + 0) y1) ((4 * nb) + 1) y2) ((4 * nb) + 2) y3 = enR (gOpen Q nb y1 y2 y3) := (enR_open Q nb y1 y2 y3)
        rw [hw_14] at hP hD
        refine gw_top (y := nI nb) (nI_pred nb) ?_
        subst hAe
        exact W.iret (v := nI nb) hx hb hr (fun t ht hW => ⟨⟨_, (), rfl, rfl, gw_hh ht hP⟩, hS.F ht⟩) hS.2.2 dX6_open_114
      · skip
        exact absurd hy3 hc
    · skip
      exact absurd hy2 hc
  · skip
    exact absurd hy1 hc

theorem wc_X6_hire_ok_X6 : ∀ w ∈ u_ws RX6 TX6 10, w ∈ wsX6_hire := by decide +kernel
theorem wd_X6_hire_ok_1 : (.fieldLink RX6 28 "GritWheelsModel" "thrown" "I" : Cond) ∈ wsX6_hire := by decide +kernel
theorem wd_X6_hire_ok_2 : (.fieldLink RX6 39 "GritWheelsModel" "quarriers" "I" : Cond) ∈ wsX6_hire := by decide +kernel
set_option maxHeartbeats 4000000 in
set_option maxRecDepth 100000 in
theorem met_X6_hire_ok (l : Launch) (D : va_G) (cI cZ cL : ClassId) (mo : Nat) (m4 : Nat) (m5 : Nat) (m6 : Nat) (m7 : Nat) (m8 : Nat) (m9 : Nat) (th : Int32) (nb : Nat) (nq : Nat) (nr : Nat) (Q : Nat → Nat → Int32) (y : Int32) (hy : 1 ≤ y ∧ y ≤ 9) (hnq : nq < 6) : Met l yX6_hire wsX6_hire ({ frames := 1, cells := 0, slots := 0, locals := 23 }) (gPw [.ref mo, .int y] D [(mo, .inr (6, [.int th, .int (nI nb), .int (nI nq), .int (nI nr), .ref m4, .ref m5, .ref m6, .ref m7, .ref m8, .ref m9])), (m6, .inl (cI, 24, .inl (enP Q)))] (gT cI cZ cL)) (va_Qi (fun (zr : Int32) (_ : Unit) => zr = nI nq) (fun _ t => va_P D vwCl [(mo, .inr (6, [.int 0, .int (nI nb), .int (nI (nq + 1)), .int (nI nr), .ref m4, .ref m5, .ref m6, .ref m7, .ref m8, .ref m9])), (m6, .inl (cI, 24, .inl (enP (gHire Q nq y))))] t.heap) (gA (gL [(mo, .inr (6, [.int th, .int (nI nb), .int (nI nq), .int (nI nr), .ref m4, .ref m5, .ref m6, .ref m7, .ref m8, .ref m9])), (m6, .inl (cI, 24, .inl (enP Q)))]))) 0 0 (gA (gL [(mo, .inr (6, [.int th, .int (nI nb), .int (nI nq), .int (nI nr), .ref m4, .ref m5, .ref m6, .ref m7, .ref m8, .ref m9])), (m6, .inl (cI, 24, .inl (enP Q)))])) := by
  refine Met.ofW (cc := cX6_hire) (maxL := 2) (ret := (some .int)) (by decide +kernel) rfl ?_
  intro p e s m args below meth c s₁ B hml hv
  obtain ⟨rfl, hP, hK, hD0⟩ := hv
  have hx := B.exec
  have hb := B.bytes
  have hr := B.returns
  have hts := atoms_spec (ws := wsX6_hire) B.pre
  have hown : s.vm.findClass RX6 = some m.cls := findClass_of_methodNamed B.named
  have hlocks := B.notSynchronized
  have hD := gw_self hD0
  generalize hAe : gA (gL [(mo, .inr (6, [.int th, .int (nI nb), .int (nI nq), .int (nI nr), .ref m4, .ref m5, .ref m6, .ref m7, .ref m8, .ref m9])), (m6, .inl (cI, 24, .inl (enP Q)))]) = A at hD ⊢
  have hS : va_S A s.heap s.heap [] := va_S.rf
  have hP : va_P D vwCl [(mo, .inr (6, [.int th, .int (nI nb), .int (nI nq), .int (nI nr), .ref m4, .ref m5, .ref m6, .ref m7, .ref m8, .ref m9])), (m6, .inl (cI, 24, .inl (enP Q)))] s.heap := hP
  have hl := lv_entry ([.ref mo, .int y]) (n := 2) (Nat.le_of_ble_eq_true rfl)
  rw [lg_entry_eq]
  generalize (lg_sl ([.ref mo, .int y]) ++ List.replicate (2 - (lg_sl ([.ref mo, .int y])).length) Slot.unset).toArray = ls at hl ⊢
  have hl : lv_has ls 2 [(0, .ref mo), (1, .int y)] := hl
  refine lv_aload_n hx hb dX6_hire_0 rfl (lv_at hl 0 rfl) ?_
  refine lv_iconst (v := 0) hx hb dX6_hire_1 (by decide) ?_
  refine va_put (D := D) (ci := 6) (v := .int 0) (ty := .int) (C := RX6) (T := TX6) (N := 10) hx hb hts wc_X6_hire_ok_X6 tyX6 tyX6_ok nmX6 hown hK hP hD hS 0 rfl rfl 0 (by decide) (hts _ wd_X6_hire_ok_1) (fun _ h9 => h9) rfl (by decide +kernel) rfl rfl (Nat.le_of_ble_eq_true rfl) dX6_hire_2 (fun H locs hP hD hS => ?_)
  have hP : va_P D vwCl [(mo, .inr (6, [.int 0, .int (nI nb), .int (nI nq), .int (nI nr), .ref m4, .ref m5, .ref m6, .ref m7, .ref m8, .ref m9])), (m6, .inl (cI, 24, .inl (enP Q)))] H := hP
  have hD : va_D A [(mo, .inr (6, [.int 0, .int (nI nb), .int (nI nq), .int (nI nr), .ref m4, .ref m5, .ref m6, .ref m7, .ref m8, .ref m9])), (m6, .inl (cI, 24, .inl (enP Q)))] := hD
  refine lv_iload_n hx hb dX6_hire_5 rfl (lv_at hl 1 rfl) ?_
  refine lv_iconst (v := 1) hx hb dX6_hire_6 (by decide) ?_
  refine lv_bipush (v := 9) hx hb dX6_hire_7 (by decide) ?_
  refine va_calli (va_runS (As := [.int y, .int 1, .int 9]) (rest := []) ⟨hx, hb, hml, hown, hts⟩ (met_X6_isIn l D cI cZ cL y 1 9) (va_cwS 3 hts gX6_hire_X6_isIn rfl rfl rfl (by decide +kernel) ⟨Nat.le_of_ble_eq_true rfl, Nat.le_of_ble_eq_true rfl⟩) (gw_psr hK hP (wc := []) [] rfl) rfl rfl hl.1 rfl (lv_room (Nat.le_of_ble_eq_true rfl)) dX6_hire_9 ⟨Nat.zero_le _, Nat.zero_le _⟩) hS (fun _ _ z => z.elim) (fun _ z => z.elim) (fun r_2 _ t H1 locs ht hvm hw hB hz1 hk1 hS => ?_)
  have hP := gw_ro hP hk1
  generalize H1 = H at hP hS ⊢
  rcases hw with ⟨rfl, hc⟩ | ⟨rfl, hc⟩
  · skip
    refine lv_if_ne (tgt := 21) hx hb dX6_hire_12 (by decide) (fun _ => ?_) (fun c_4 => False.elim (by revert c_4; decide))
    refine lv_aload_n hx hb dX6_hire_21 rfl (lv_at hl 0 rfl) ?_
    refine va_get (D := D) (ci := 6) (v := .int (nI nq)) (C := RX6) (T := TX6) (N := 10) hx hb hts wc_X6_hire_ok_X6 hown hK hP 0 rfl rfl 2 (by decide) (hts _ wd_X6_hire_ok_2) (fun _ h9 => h9) rfl dX6_hire_22 ?_
    refine lv_bipush (v := 6) hx hb dX6_hire_25 (by decide) ?_
    refine lv_icmp_ne (tgt := 36) hx hb dX6_hire_27 (by decide) (fun c_5 => ?_) (fun c_5 => (by first | exact absurd c_5 (show ¬ nI nq = 6 from fun h => absurd ((nI_eq (b := 6) (by omega) (by decide)).mp h) (by omega)) | exact absurd (show ¬ nI nq = 6 from fun h => absurd ((nI_eq (b := 6) (by omega) (by decide)).mp h) (by omega)) c_5))
    refine lv_aload_n hx hb dX6_hire_36 rfl (lv_at hl 0 rfl) ?_
    refine lv_aload_n hx hb dX6_hire_37 rfl (lv_at hl 0 rfl) ?_
    refine va_get (D := D) (ci := 6) (v := .int (nI nq)) (C := RX6) (T := TX6) (N := 10) hx hb hts wc_X6_hire_ok_X6 hown hK hP 0 rfl rfl 2 (by decide) (hts _ wd_X6_hire_ok_2) (fun _ h9 => h9) rfl dX6_hire_38 ?_
    refine lv_iconst (v := 0) hx hb dX6_hire_41 (by decide) ?_
    refine lv_iload_n hx hb dX6_hire_42 rfl (lv_at hl 1 rfl) ?_
    have hFc := gw_free (wc := [(mo, .inr (6, [.int 0, .int (nI nb), .int (nI nq), .int (nI nr), .ref m4, .ref m5, .ref m6, .ref m7, .ref m8, .ref m9])), (m6, .inl (cI, 24, .inl (enP Q)))]) hD [0, 1] rfl
    refine va_callv (va_runV (As := [.int (nI nq), .int 0, .int y]) (rest := []) ⟨hx, hb, hml, hown, hts⟩ (met_X6_put l D cI cZ cL mo m4 m5 m6 m7 m8 m9 0 nb nq nr (enP Q) nq 0 y (by first | assumption | omega) (by first | assumption | omega)) (cwV 3 hts gX6_hire_X6_put rfl rfl rfl (by decide +kernel) ⟨Nat.le_of_ble_eq_true rfl, Nat.le_of_ble_eq_true rfl⟩) (gw_pvw hK hP hD (wc := [(mo, .inr (6, [.int 0, .int (nI nb), .int (nI nq), .int (nI nr), .ref m4, .ref m5, .ref m6, .ref m7, .ref m8, .ref m9])), (m6, .inl (cI, 24, .inl (enP Q)))]) [0, 1] (by decide) rfl rfl 6 rfl rfl rfl) rfl rfl hl.1 rfl (lv_room (Nat.le_of_ble_eq_true rfl)) dX6_hire_43 ⟨Nat.zero_le _, Nat.zero_le _⟩) hS (fun q _ h => hFc q h) hFc (fun _ t H1 locs ht hvm hw hB hz1 hk1 hS => ?_)
    rw [ht] at hB
    obtain ⟨hP, hD⟩ := gw_upd (wc := [(mo, .inr (6, [.int 0, .int (nI nb), .int (nI nq), .int (nI nr), .ref m4, .ref m5, .ref m6, .ref m7, .ref m8, .ref m9])), (m6, .inl (cI, 24, .inl (enP Q)))]) (w1 := [(mo, .inr (6, [.int 0, .int (nI nb), .int (nI nq), .int (nI nr), .ref m4, .ref m5, .ref m6, .ref m7, .ref m8, .ref m9])), (m6, .inl (cI, 24, .inl (upd (enP Q) (4 * nq + 0) y)))]) (ws' := [(mo, .inr (6, [.int 0, .int (nI nb), .int (nI nq), .int (nI nr), .ref m4, .ref m5, .ref m6, .ref m7, .ref m8, .ref m9])), (m6, .inl (cI, 24, .inl (upd (enP Q) (4 * nq + 0) y)))]) hP hD [0, 1] rfl rfl hk1 hB rfl
    generalize H1 = H at hP hS ⊢
    refine lv_aload_n hx hb dX6_hire_46 rfl (lv_at hl 0 rfl) ?_
    refine lv_aload_n hx hb dX6_hire_47 rfl (lv_at hl 0 rfl) ?_
    refine va_get (D := D) (ci := 6) (v := .int (nI nq)) (C := RX6) (T := TX6) (N := 10) hx hb hts wc_X6_hire_ok_X6 hown hK hP 0 rfl rfl 2 (by decide) (hts _ wd_X6_hire_ok_2) (fun _ h9 => h9) rfl dX6_hire_48 ?_
    refine lv_iconst (v := 1) hx hb dX6_hire_51 (by decide) ?_
    refine lv_iconst (v := (-1)) hx hb dX6_hire_52 (by decide) ?_
    have hFc := gw_free (wc := [(mo, .inr (6, [.int 0, .int (nI nb), .int (nI nq), .int (nI nr), .ref m4, .ref m5, .ref m6, .ref m7, .ref m8, .ref m9])), (m6, .inl (cI, 24, .inl (upd (enP Q) (4 * nq + 0) y)))]) hD [0, 1] rfl
    refine va_callv (va_runV (As := [.int (nI nq), .int 1, .int (-1)]) (rest := []) ⟨hx, hb, hml, hown, hts⟩ (met_X6_put l D cI cZ cL mo m4 m5 m6 m7 m8 m9 0 nb nq nr (upd (enP Q) (4 * nq + 0) y) nq 1 (-1) (by first | assumption | omega) (by first | assumption | omega)) (cwV 3 hts gX6_hire_X6_put rfl rfl rfl (by decide +kernel) ⟨Nat.le_of_ble_eq_true rfl, Nat.le_of_ble_eq_true rfl⟩) (gw_pvw hK hP hD (wc := [(mo, .inr (6, [.int 0, .int (nI nb), .int (nI nq), .int (nI nr), .ref m4, .ref m5, .ref m6, .ref m7, .ref m8, .ref m9])), (m6, .inl (cI, 24, .inl (upd (enP Q) (4 * nq + 0) y)))]) [0, 1] (by decide) rfl rfl 6 rfl rfl rfl) rfl rfl hl.1 rfl (lv_room (Nat.le_of_ble_eq_true rfl)) dX6_hire_53 ⟨Nat.zero_le _, Nat.zero_le _⟩) hS (fun q _ h => hFc q h) hFc (fun _ t H1 locs ht hvm hw hB hz1 hk1 hS => ?_)
    rw [ht] at hB
    obtain ⟨hP, hD⟩ := gw_upd (wc := [(mo, .inr (6, [.int 0, .int (nI nb), .int (nI nq), .int (nI nr), .ref m4, .ref m5, .ref m6, .ref m7, .ref m8, .ref m9])), (m6, .inl (cI, 24, .inl (upd (enP Q) (4 * nq + 0) y)))]) (w1 := [(mo, .inr (6, [.int 0, .int (nI nb), .int (nI nq), .int (nI nr), .ref m4, .ref m5, .ref m6, .ref m7, .ref m8, .ref m9])), (m6, .inl (cI, 24, .inl (upd (upd (enP Q) (4 * nq + 0) y) (4 * nq + 1) (-1))))]) (ws' := [(mo, .inr (6, [.int 0, .int (nI nb), .int (nI nq), .int (nI nr), .ref m4, .ref m5, .ref m6, .ref m7, .ref m8, .ref m9])), (m6, .inl (cI, 24, .inl (upd (upd (enP Q) (4 * nq + 0) y) (4 * nq + 1) (-1))))]) hP hD [0, 1] rfl rfl hk1 hB rfl
    generalize H1 = H at hP hS ⊢
    refine lv_aload_n hx hb dX6_hire_56 rfl (lv_at hl 0 rfl) ?_
    refine lv_dup hx hb dX6_hire_57 rfl ?_
    refine va_get (D := D) (ci := 6) (v := .int (nI nq)) (C := RX6) (T := TX6) (N := 10) hx hb hts wc_X6_hire_ok_X6 hown hK hP 0 rfl rfl 2 (by decide) (hts _ wd_X6_hire_ok_2) (fun _ h9 => h9) rfl dX6_hire_58 ?_
    refine lv_iconst (v := 1) hx hb dX6_hire_61 (by decide) ?_
    refine lv_iadd hx hb dX6_hire_62 ?_
    refine gw_top (y := nI (nq + 1)) (nI_add nq 1) ?_
    refine va_put (D := D) (ci := 6) (v := .int (nI (nq + 1))) (ty := .int) (C := RX6) (T := TX6) (N := 10) hx hb hts wc_X6_hire_ok_X6 tyX6 tyX6_ok nmX6 hown hK hP hD hS 0 rfl rfl 2 (by decide) (hts _ wd_X6_hire_ok_2) (fun _ h9 => h9) rfl (by decide +kernel) rfl rfl (Nat.le_of_ble_eq_true rfl) dX6_hire_63 (fun H locs hP hD hS => ?_)
    have hP : va_P D vwCl [(mo, .inr (6, [.int 0, .int (nI nb), .int (nI (nq + 1)), .int (nI nr), .ref m4, .ref m5, .ref m6, .ref m7, .ref m8, .ref m9])), (m6, .inl (cI, 24, .inl (upd (upd (enP Q) (4 * nq + 0) y) (4 * nq + 1) (-1))))] H := hP
    have hD : va_D A [(mo, .inr (6, [.int 0, .int (nI nb), .int (nI (nq + 1)), .int (nI nr), .ref m4, .ref m5, .ref m6, .ref m7, .ref m8, .ref m9])), (m6, .inl (cI, 24, .inl (upd (upd (enP Q) (4 * nq + 0) y) (4 * nq + 1) (-1))))] := hD
    refine lv_aload_n hx hb dX6_hire_66 rfl (lv_at hl 0 rfl) ?_
    refine va_get (D := D) (ci := 6) (v := .int (nI (nq + 1))) (C := RX6) (T := TX6) (N := 10) hx hb hts wc_X6_hire_ok_X6 hown hK hP 0 rfl rfl 2 (by decide) (hts _ wd_X6_hire_ok_2) (fun _ h9 => h9) rfl dX6_hire_67 ?_
    refine lv_iconst (v := 1) hx hb dX6_hire_70 (by decide) ?_
    refine lv_isub hx hb dX6_hire_71 ?_
    have hw_10 : upd (upd (enP Q) (4 * nq + 0) y) (4 * nq + 1) (-1) = enP (gHire Q nq y) := (enP_hire Q nq y)
    rw [hw_10] at hP hD
    refine gw_top (y := nI nq) (nI_pred nq) ?_
    subst hAe
    exact W.iret (v := nI nq) hx hb hr (fun t ht hW => ⟨⟨_, (), rfl, rfl, gw_hh ht hP⟩, hS.F ht⟩) hS.2.2 dX6_hire_72
  · skip
    exact absurd hy hc

theorem wc_X6_send_ok_X6 : ∀ w ∈ u_ws RX6 TX6 10, w ∈ wsX6_send := by decide +kernel
theorem wd_X6_send_ok_1 : (.fieldLink RX6 28 "GritWheelsModel" "thrown" "I" : Cond) ∈ wsX6_send := by decide +kernel
set_option maxHeartbeats 4000000 in
set_option maxRecDepth 100000 in
theorem met_X6_send_ok (l : Launch) (D : va_G) (cI cZ cL : ClassId) (mo : Nat) (m4 : Nat) (m5 : Nat) (m6 : Nat) (m7 : Nat) (m8 : Nat) (m9 : Nat) (th : Int32) (nb : Nat) (nq : Nat) (nr : Nat) (Q : Nat → Nat → Int32) (k : Nat) (x : Int32) (hk : k < nq) (hnq : nq ≤ 6) (hnb : nb ≤ 5) (hxx : x = -1 ∨ ∃ kk, kk < nb ∧ x = nI kk) : Met l yX6_send wsX6_send ({ frames := 2, cells := 0, slots := 0, locals := 43 }) (gPw [.ref mo, .int (nI k), .int x] D [(mo, .inr (6, [.int th, .int (nI nb), .int (nI nq), .int (nI nr), .ref m4, .ref m5, .ref m6, .ref m7, .ref m8, .ref m9])), (m6, .inl (cI, 24, .inl (enP Q)))] (gT cI cZ cL)) (va_Qi (fun (zr : Int32) (_ : Unit) => zr = Q 6 k) (fun _ t => va_P D vwCl [(mo, .inr (6, [.int 0, .int (nI nb), .int (nI nq), .int (nI nr), .ref m4, .ref m5, .ref m6, .ref m7, .ref m8, .ref m9])), (m6, .inl (cI, 24, .inl (enP (pk Q 6 (upd (Q 6) k x)))))] t.heap) (gA (gL [(mo, .inr (6, [.int th, .int (nI nb), .int (nI nq), .int (nI nr), .ref m4, .ref m5, .ref m6, .ref m7, .ref m8, .ref m9])), (m6, .inl (cI, 24, .inl (enP Q)))]))) 0 0 (gA (gL [(mo, .inr (6, [.int th, .int (nI nb), .int (nI nq), .int (nI nr), .ref m4, .ref m5, .ref m6, .ref m7, .ref m8, .ref m9])), (m6, .inl (cI, 24, .inl (enP Q)))])) := by
  refine Met.ofW (cc := cX6_send) (maxL := 4) (ret := (some .int)) (by decide +kernel) rfl ?_
  intro p e s m args below meth c s₁ B hml hv
  obtain ⟨rfl, hP, hK, hD0⟩ := hv
  have hx := B.exec
  have hb := B.bytes
  have hr := B.returns
  have hts := atoms_spec (ws := wsX6_send) B.pre
  have hown : s.vm.findClass RX6 = some m.cls := findClass_of_methodNamed B.named
  have hlocks := B.notSynchronized
  have hD := gw_self hD0
  generalize hAe : gA (gL [(mo, .inr (6, [.int th, .int (nI nb), .int (nI nq), .int (nI nr), .ref m4, .ref m5, .ref m6, .ref m7, .ref m8, .ref m9])), (m6, .inl (cI, 24, .inl (enP Q)))]) = A at hD ⊢
  have hS : va_S A s.heap s.heap [] := va_S.rf
  have hP : va_P D vwCl [(mo, .inr (6, [.int th, .int (nI nb), .int (nI nq), .int (nI nr), .ref m4, .ref m5, .ref m6, .ref m7, .ref m8, .ref m9])), (m6, .inl (cI, 24, .inl (enP Q)))] s.heap := hP
  have hl := lv_entry ([.ref mo, .int (nI k), .int x]) (n := 4) (Nat.le_of_ble_eq_true rfl)
  rw [lg_entry_eq]
  generalize (lg_sl ([.ref mo, .int (nI k), .int x]) ++ List.replicate (4 - (lg_sl ([.ref mo, .int (nI k), .int x])).length) Slot.unset).toArray = ls at hl ⊢
  have hl : lv_has ls 4 [(0, .ref mo), (1, .int (nI k)), (2, .int x)] := hl
  refine lv_aload_n hx hb dX6_send_0 rfl (lv_at hl 0 rfl) ?_
  refine lv_iconst (v := 0) hx hb dX6_send_1 (by decide) ?_
  refine va_put (D := D) (ci := 6) (v := .int 0) (ty := .int) (C := RX6) (T := TX6) (N := 10) hx hb hts wc_X6_send_ok_X6 tyX6 tyX6_ok nmX6 hown hK hP hD hS 0 rfl rfl 0 (by decide) (hts _ wd_X6_send_ok_1) (fun _ h9 => h9) rfl (by decide +kernel) rfl rfl (Nat.le_of_ble_eq_true rfl) dX6_send_2 (fun H locs hP hD hS => ?_)
  have hP : va_P D vwCl [(mo, .inr (6, [.int 0, .int (nI nb), .int (nI nq), .int (nI nr), .ref m4, .ref m5, .ref m6, .ref m7, .ref m8, .ref m9])), (m6, .inl (cI, 24, .inl (enP Q)))] H := hP
  have hD : va_D A [(mo, .inr (6, [.int 0, .int (nI nb), .int (nI nq), .int (nI nr), .ref m4, .ref m5, .ref m6, .ref m7, .ref m8, .ref m9])), (m6, .inl (cI, 24, .inl (enP Q)))] := hD
  refine lv_aload_n hx hb dX6_send_5 rfl (lv_at hl 0 rfl) ?_
  refine lv_iload_n hx hb dX6_send_6 rfl (lv_at hl 1 rfl) ?_
  refine va_calli (va_runV (As := [.int (nI k)]) (rest := []) ⟨hx, hb, hml, hown, hts⟩ (met_X6_isQuarrier l D cI cZ cL mo m4 m5 m6 m7 m8 m9 0 nb nq nr (nI k) (by first | assumption | omega)) (cwV 1 hts gX6_send_X6_isQuarrier rfl rfl rfl (by decide +kernel) ⟨Nat.le_of_ble_eq_true rfl, Nat.le_of_ble_eq_true rfl⟩) (gw_pvr hK hP (wc := [(mo, .inr (6, [.int 0, .int (nI nb), .int (nI nq), .int (nI nr), .ref m4, .ref m5, .ref m6, .ref m7, .ref m8, .ref m9]))]) [0] rfl 6 rfl rfl rfl) rfl rfl hl.1 rfl (lv_room (Nat.le_of_ble_eq_true rfl)) dX6_send_7 ⟨Nat.zero_le _, Nat.zero_le _⟩) hS (fun _ _ z => z.elim) (fun _ z => z.elim) (fun r_2 _ t H1 locs ht hvm hw hB hz1 hk1 hS => ?_)
  have hP := gw_ro hP hk1
  generalize H1 = H at hP hS ⊢
  rcases hw with ⟨rfl, hc⟩ | ⟨rfl, hc⟩
  · skip
    refine lv_if_eq (tgt := 26) hx hb dX6_send_10 (by decide) (fun c_4 => False.elim (by revert c_4; decide)) (fun _ => ?_)
    refine lv_iload_n hx hb dX6_send_13 rfl (lv_at hl 2 rfl) ?_
    refine lv_iconst (v := (-1)) hx hb dX6_send_14 (by decide) ?_
    refine lv_icmp_eq (tgt := 32) hx hb dX6_send_15 (by decide) (fun h1 => ?_) (fun h1 => ?_)
    · skip
      refine lv_aload_n hx hb dX6_send_32 rfl (lv_at hl 0 rfl) ?_
      refine lv_iload_n hx hb dX6_send_33 rfl (lv_at hl 1 rfl) ?_
      refine lv_iconst (v := 1) hx hb dX6_send_34 (by decide) ?_
      refine va_calli (va_runV (As := [.int (nI k), .int 1]) (rest := []) ⟨hx, hb, hml, hown, hts⟩ (met_X6_pe l D cI cZ cL mo m4 m5 m6 m7 m8 m9 0 nb nq nr (enP Q) k 1 (by first | assumption | omega) (by first | assumption | omega)) (cwV 2 hts gX6_send_X6_pe rfl rfl rfl (by decide +kernel) ⟨Nat.le_of_ble_eq_true rfl, Nat.le_of_ble_eq_true rfl⟩) (gw_pvr hK hP (wc := [(mo, .inr (6, [.int 0, .int (nI nb), .int (nI nq), .int (nI nr), .ref m4, .ref m5, .ref m6, .ref m7, .ref m8, .ref m9])), (m6, .inl (cI, 24, .inl (enP Q)))]) [0, 1] rfl 6 rfl rfl rfl) rfl rfl hl.1 rfl (lv_room (Nat.le_of_ble_eq_true rfl)) dX6_send_35 ⟨Nat.zero_le _, Nat.zero_le _⟩) hS (fun _ _ z => z.elim) (fun _ z => z.elim) (fun r_7 _ t H1 locs ht hvm hw hB hz1 hk1 hS => ?_)
      have hP := gw_ro hP hk1
      generalize H1 = H at hP hS ⊢
      subst hw
      refine gw_top (y := Q 6 k) (enP_1 Q k) ?_
      refine lv_istore_n (lv' := [(3, .int (Q 6 k)), (0, .ref mo), (1, .int (nI k)), (2, .int x)]) hx hb dX6_send_38 rfl hl (by decide) rfl (fun ls hl => ?_)
      refine lv_aload_n hx hb dX6_send_39 rfl (lv_at hl 1 rfl) ?_
      refine lv_iload_n hx hb dX6_send_40 rfl (lv_at hl 2 rfl) ?_
      refine lv_iconst (v := 1) hx hb dX6_send_41 (by decide) ?_
      refine lv_iload_n hx hb dX6_send_42 rfl (lv_at hl 3 rfl) ?_
      have hFc := gw_free (wc := [(mo, .inr (6, [.int 0, .int (nI nb), .int (nI nq), .int (nI nr), .ref m4, .ref m5, .ref m6, .ref m7, .ref m8, .ref m9])), (m6, .inl (cI, 24, .inl (enP Q)))]) hD [0, 1] rfl
      refine va_callv (va_runV (As := [.int (nI k), .int 1, .int x]) (rest := []) ⟨hx, hb, hml, hown, hts⟩ (met_X6_put l D cI cZ cL mo m4 m5 m6 m7 m8 m9 0 nb nq nr (enP Q) k 1 x (by first | assumption | omega) (by first | assumption | omega)) (cwV 3 hts gX6_send_X6_put rfl rfl rfl (by decide +kernel) ⟨Nat.le_of_ble_eq_true rfl, Nat.le_of_ble_eq_true rfl⟩) (gw_pvw hK hP hD (wc := [(mo, .inr (6, [.int 0, .int (nI nb), .int (nI nq), .int (nI nr), .ref m4, .ref m5, .ref m6, .ref m7, .ref m8, .ref m9])), (m6, .inl (cI, 24, .inl (enP Q)))]) [0, 1] (by decide) rfl rfl 6 rfl rfl rfl) rfl rfl hl.1 rfl (lv_room (Nat.le_of_ble_eq_true rfl)) dX6_send_43 ⟨Nat.zero_le _, Nat.zero_le _⟩) hS (fun q _ h => hFc q h) hFc (fun _ t H1 locs ht hvm hw hB hz1 hk1 hS => ?_)
      rw [ht] at hB
      obtain ⟨hP, hD⟩ := gw_upd (wc := [(mo, .inr (6, [.int 0, .int (nI nb), .int (nI nq), .int (nI nr), .ref m4, .ref m5, .ref m6, .ref m7, .ref m8, .ref m9])), (m6, .inl (cI, 24, .inl (enP Q)))]) (w1 := [(mo, .inr (6, [.int 0, .int (nI nb), .int (nI nq), .int (nI nr), .ref m4, .ref m5, .ref m6, .ref m7, .ref m8, .ref m9])), (m6, .inl (cI, 24, .inl (upd (enP Q) (4 * k + 1) x)))]) (ws' := [(mo, .inr (6, [.int 0, .int (nI nb), .int (nI nq), .int (nI nr), .ref m4, .ref m5, .ref m6, .ref m7, .ref m8, .ref m9])), (m6, .inl (cI, 24, .inl (upd (enP Q) (4 * k + 1) x)))]) hP hD [0, 1] rfl rfl hk1 hB rfl
      generalize H1 = H at hP hS ⊢
      refine lv_iload_n hx hb dX6_send_46 rfl (lv_at hl 0 rfl) ?_
      have hw_10 : upd (enP Q) (4 * k + 1) x = enP (pk Q 6 (upd (Q 6) k x)) := (enP_p Q k 1 _ (by decide))
      rw [hw_10] at hP hD
      subst hAe
      exact W.iret (v := Q 6 k) hx hb hr (fun t ht hW => ⟨⟨_, (), rfl, rfl, gw_hh ht hP⟩, hS.F ht⟩) hS.2.2 dX6_send_47
    · skip
      refine lv_aload_n hx hb dX6_send_18 rfl (lv_at hl 0 rfl) ?_
      refine lv_iload_n hx hb dX6_send_19 rfl (lv_at hl 2 rfl) ?_
      refine va_calli (va_runV (As := [.int x]) (rest := []) ⟨hx, hb, hml, hown, hts⟩ (met_X6_isBed l D cI cZ cL mo m4 m5 m6 m7 m8 m9 0 nb nq nr x (by first | assumption | omega)) (cwV 1 hts gX6_send_X6_isBed rfl rfl rfl (by decide +kernel) ⟨Nat.le_of_ble_eq_true rfl, Nat.le_of_ble_eq_true rfl⟩) (gw_pvr hK hP (wc := [(mo, .inr (6, [.int 0, .int (nI nb), .int (nI nq), .int (nI nr), .ref m4, .ref m5, .ref m6, .ref m7, .ref m8, .ref m9]))]) [0] rfl 6 rfl rfl rfl) rfl rfl hl.1 rfl (lv_room (Nat.le_of_ble_eq_true rfl)) dX6_send_20 ⟨Nat.zero_le _, Nat.zero_le _⟩) hS (fun _ _ z => z.elim) (fun _ z => z.elim) (fun r_12 _ t H1 locs ht hvm hw hB hz1 hk1 hS => ?_)
      have hP := gw_ro hP hk1
      generalize H1 = H at hP hS ⊢
      rcases hw with ⟨rfl, hc⟩ | ⟨rfl, hc⟩
      · skip
        refine lv_if_ne (tgt := 32) hx hb dX6_send_23 (by decide) (fun _ => ?_) (fun c_14 => False.elim (by revert c_14; decide))
        refine lv_aload_n hx hb dX6_send_32 rfl (lv_at hl 0 rfl) ?_
        refine lv_iload_n hx hb dX6_send_33 rfl (lv_at hl 1 rfl) ?_
        refine lv_iconst (v := 1) hx hb dX6_send_34 (by decide) ?_
        refine va_calli (va_runV (As := [.int (nI k), .int 1]) (rest := []) ⟨hx, hb, hml, hown, hts⟩ (met_X6_pe l D cI cZ cL mo m4 m5 m6 m7 m8 m9 0 nb nq nr (enP Q) k 1 (by first | assumption | omega) (by first | assumption | omega)) (cwV 2 hts gX6_send_X6_pe rfl rfl rfl (by decide +kernel) ⟨Nat.le_of_ble_eq_true rfl, Nat.le_of_ble_eq_true rfl⟩) (gw_pvr hK hP (wc := [(mo, .inr (6, [.int 0, .int (nI nb), .int (nI nq), .int (nI nr), .ref m4, .ref m5, .ref m6, .ref m7, .ref m8, .ref m9])), (m6, .inl (cI, 24, .inl (enP Q)))]) [0, 1] rfl 6 rfl rfl rfl) rfl rfl hl.1 rfl (lv_room (Nat.le_of_ble_eq_true rfl)) dX6_send_35 ⟨Nat.zero_le _, Nat.zero_le _⟩) hS (fun _ _ z => z.elim) (fun _ z => z.elim) (fun r_16 _ t H1 locs ht hvm hw hB hz1 hk1 hS => ?_)
        have hP := gw_ro hP hk1
        generalize H1 = H at hP hS ⊢
        subst hw
        refine gw_top (y := Q 6 k) (enP_1 Q k) ?_
        refine lv_istore_n (lv' := [(3, .int (Q 6 k)), (0, .ref mo), (1, .int (nI k)), (2, .int x)]) hx hb dX6_send_38 rfl hl (by decide) rfl (fun ls hl => ?_)
        refine lv_aload_n hx hb dX6_send_39 rfl (lv_at hl 1 rfl) ?_
        refine lv_iload_n hx hb dX6_send_40 rfl (lv_at hl 2 rfl) ?_
        refine lv_iconst (v := 1) hx hb dX6_send_41 (by decide) ?_
        refine lv_iload_n hx hb dX6_send_42 rfl (lv_at hl 3 rfl) ?_
        have hFc := gw_free (wc := [(mo, .inr (6, [.int 0, .int (nI nb), .int (nI nq), .int (nI nr), .ref m4, .ref m5, .ref m6, .ref m7, .ref m8, .ref m9])), (m6, .inl (cI, 24, .inl (enP Q)))]) hD [0, 1] rfl
        refine va_callv (va_runV (As := [.int (nI k), .int 1, .int x]) (rest := []) ⟨hx, hb, hml, hown, hts⟩ (met_X6_put l D cI cZ cL mo m4 m5 m6 m7 m8 m9 0 nb nq nr (enP Q) k 1 x (by first | assumption | omega) (by first | assumption | omega)) (cwV 3 hts gX6_send_X6_put rfl rfl rfl (by decide +kernel) ⟨Nat.le_of_ble_eq_true rfl, Nat.le_of_ble_eq_true rfl⟩) (gw_pvw hK hP hD (wc := [(mo, .inr (6, [.int 0, .int (nI nb), .int (nI nq), .int (nI nr), .ref m4, .ref m5, .ref m6, .ref m7, .ref m8, .ref m9])), (m6, .inl (cI, 24, .inl (enP Q)))]) [0, 1] (by decide) rfl rfl 6 rfl rfl rfl) rfl rfl hl.1 rfl (lv_room (Nat.le_of_ble_eq_true rfl)) dX6_send_43 ⟨Nat.zero_le _, Nat.zero_le _⟩) hS (fun q _ h => hFc q h) hFc (fun _ t H1 locs ht hvm hw hB hz1 hk1 hS => ?_)
        rw [ht] at hB
        obtain ⟨hP, hD⟩ := gw_upd (wc := [(mo, .inr (6, [.int 0, .int (nI nb), .int (nI nq), .int (nI nr), .ref m4, .ref m5, .ref m6, .ref m7, .ref m8, .ref m9])), (m6, .inl (cI, 24, .inl (enP Q)))]) (w1 := [(mo, .inr (6, [.int 0, .int (nI nb), .int (nI nq), .int (nI nr), .ref m4, .ref m5, .ref m6, .ref m7, .ref m8, .ref m9])), (m6, .inl (cI, 24, .inl (upd (enP Q) (4 * k + 1) x)))]) (ws' := [(mo, .inr (6, [.int 0, .int (nI nb), .int (nI nq), .int (nI nr), .ref m4, .ref m5, .ref m6, .ref m7, .ref m8, .ref m9])), (m6, .inl (cI, 24, .inl (upd (enP Q) (4 * k + 1) x)))]) hP hD [0, 1] rfl rfl hk1 hB rfl
        generalize H1 = H at hP hS ⊢
        refine lv_iload_n hx hb dX6_send_46 rfl (lv_at hl 0 rfl) ?_
        have hw_19 : upd (enP Q) (4 * k + 1) x = enP (pk Q 6 (upd (Q 6) k x)) := (enP_p Q k 1 _ (by decide))
        rw [hw_19] at hP hD
        subst hAe
        exact W.iret (v := Q 6 k) hx hb hr (fun t ht hW => ⟨⟨_, (), rfl, rfl, gw_hh ht hP⟩, hS.F ht⟩) hS.2.2 dX6_send_47
      · skip
        exact absurd (hxx.resolve_left h1) hc
  · skip
    exact absurd ⟨k, hk, rfl⟩ hc

theorem wc_X6_ring_ok_X6 : ∀ w ∈ u_ws RX6 TX6 10, w ∈ wsX6_ring := by decide +kernel
theorem wd_X6_ring_ok_1 : (.fieldLink RX6 28 "GritWheelsModel" "thrown" "I" : Cond) ∈ wsX6_ring := by decide +kernel
set_option maxHeartbeats 4000000 in
set_option maxRecDepth 100000 in
theorem met_X6_ring_ok (l : Launch) (D : va_G) (cI cZ cL : ClassId) (mo : Nat) (m4 : Nat) (m5 : Nat) (m6 : Nat) (m7 : Nat) (m8 : Nat) (m9 : Nat) (th : Int32) (nb : Nat) (nq : Nat) (nr : Nat) (Q : Nat → Nat → Int32) (day : Nat) (co : Int32) (nw : Nat) (k : Nat) (hk : k < nw) (hnw : nw ≤ 60) (hnb : nb ≤ 5) (hof : gOf Q nb nw) (hz : ∀ j, Q 12 j = 0 ∨ Q 12 j = 1) (hst : Q 13 k < 3) : Met l yX6_ring wsX6_ring ({ frames := 2, cells := 0, slots := 0, locals := 43 }) (gPw [.ref mo, .int (nI k)] D [(mo, .inr (6, [.int th, .int (nI nb), .int (nI nq), .int (nI nr), .ref m4, .ref m5, .ref m6, .ref m7, .ref m8, .ref m9])), (m5, .inl (cI, 20, .inl (enR Q))), (m7, .inl (cI, 300, .inl (enS Q))), (m9, .inl (cI, 3, .inl (enN day co nw)))] (gT cI cZ cL)) (va_Qi (fun (zr : Int32) (_ : Unit) => zr = 50 - 4 * Q 11 k - Q 10 k - (if Q 12 k = 0 then 0 else 9)) (fun _ t => va_P D vwCl [(mo, .inr (6, [.int 0, .int (nI nb), .int (nI nq), .int (nI nr), .ref m4, .ref m5, .ref m6, .ref m7, .ref m8, .ref m9])), (m5, .inl (cI, 20, .inl (enR Q))), (m7, .inl (cI, 300, .inl (enS Q))), (m9, .inl (cI, 3, .inl (enN day co nw)))] t.heap) (gA (gL [(mo, .inr (6, [.int th, .int (nI nb), .int (nI nq), .int (nI nr), .ref m4, .ref m5, .ref m6, .ref m7, .ref m8, .ref m9])), (m5, .inl (cI, 20, .inl (enR Q))), (m7, .inl (cI, 300, .inl (enS Q))), (m9, .inl (cI, 3, .inl (enN day co nw)))]))) 0 0 (gA (gL [(mo, .inr (6, [.int th, .int (nI nb), .int (nI nq), .int (nI nr), .ref m4, .ref m5, .ref m6, .ref m7, .ref m8, .ref m9])), (m5, .inl (cI, 20, .inl (enR Q))), (m7, .inl (cI, 300, .inl (enS Q))), (m9, .inl (cI, 3, .inl (enN day co nw)))])) := by
  refine Met.ofW (cc := cX6_ring) (maxL := 2) (ret := (some .int)) (by decide +kernel) rfl ?_
  intro p e s m args below meth c s₁ B hml hv
  obtain ⟨rfl, hP, hK, hD0⟩ := hv
  have hx := B.exec
  have hb := B.bytes
  have hr := B.returns
  have hts := atoms_spec (ws := wsX6_ring) B.pre
  have hown : s.vm.findClass RX6 = some m.cls := findClass_of_methodNamed B.named
  have hlocks := B.notSynchronized
  have hD := gw_self hD0
  generalize hAe : gA (gL [(mo, .inr (6, [.int th, .int (nI nb), .int (nI nq), .int (nI nr), .ref m4, .ref m5, .ref m6, .ref m7, .ref m8, .ref m9])), (m5, .inl (cI, 20, .inl (enR Q))), (m7, .inl (cI, 300, .inl (enS Q))), (m9, .inl (cI, 3, .inl (enN day co nw)))]) = A at hD ⊢
  have hS : va_S A s.heap s.heap [] := va_S.rf
  have hP : va_P D vwCl [(mo, .inr (6, [.int th, .int (nI nb), .int (nI nq), .int (nI nr), .ref m4, .ref m5, .ref m6, .ref m7, .ref m8, .ref m9])), (m5, .inl (cI, 20, .inl (enR Q))), (m7, .inl (cI, 300, .inl (enS Q))), (m9, .inl (cI, 3, .inl (enN day co nw)))] s.heap := hP
  have hl := lv_entry ([.ref mo, .int (nI k)]) (n := 2) (Nat.le_of_ble_eq_true rfl)
  rw [lg_entry_eq]
  generalize (lg_sl ([.ref mo, .int (nI k)]) ++ List.replicate (2 - (lg_sl ([.ref mo, .int (nI k)])).length) Slot.unset).toArray = ls at hl ⊢
  have hl : lv_has ls 2 [(0, .ref mo), (1, .int (nI k))] := hl
  obtain ⟨b, hb2, hso, hgr⟩ := hof k hk
  refine lv_aload_n hx hb dX6_ring_0 rfl (lv_at hl 0 rfl) ?_
  refine lv_iconst (v := 0) hx hb dX6_ring_1 (by decide) ?_
  refine va_put (D := D) (ci := 6) (v := .int 0) (ty := .int) (C := RX6) (T := TX6) (N := 10) hx hb hts wc_X6_ring_ok_X6 tyX6 tyX6_ok nmX6 hown hK hP hD hS 0 rfl rfl 0 (by decide) (hts _ wd_X6_ring_ok_1) (fun _ h9 => h9) rfl (by decide +kernel) rfl rfl (Nat.le_of_ble_eq_true rfl) dX6_ring_2 (fun H locs hP hD hS => ?_)
  have hP : va_P D vwCl [(mo, .inr (6, [.int 0, .int (nI nb), .int (nI nq), .int (nI nr), .ref m4, .ref m5, .ref m6, .ref m7, .ref m8, .ref m9])), (m5, .inl (cI, 20, .inl (enR Q))), (m7, .inl (cI, 300, .inl (enS Q))), (m9, .inl (cI, 3, .inl (enN day co nw)))] H := hP
  have hD : va_D A [(mo, .inr (6, [.int 0, .int (nI nb), .int (nI nq), .int (nI nr), .ref m4, .ref m5, .ref m6, .ref m7, .ref m8, .ref m9])), (m5, .inl (cI, 20, .inl (enR Q))), (m7, .inl (cI, 300, .inl (enS Q))), (m9, .inl (cI, 3, .inl (enN day co nw)))] := hD
  refine lv_aload_n hx hb dX6_ring_5 rfl (lv_at hl 0 rfl) ?_
  refine lv_iload_n hx hb dX6_ring_6 rfl (lv_at hl 1 rfl) ?_
  refine va_calli (va_runV (As := [.int (nI k)]) (rest := []) ⟨hx, hb, hml, hown, hts⟩ (met_X6_isWheel l D cI cZ cL mo m4 m5 m6 m7 m8 m9 0 nb nq nr day co nw (nI k) (by first | assumption | omega)) (cwV 1 hts gX6_ring_X6_isWheel rfl rfl rfl (by decide +kernel) ⟨Nat.le_of_ble_eq_true rfl, Nat.le_of_ble_eq_true rfl⟩) (gw_pvr hK hP (wc := [(mo, .inr (6, [.int 0, .int (nI nb), .int (nI nq), .int (nI nr), .ref m4, .ref m5, .ref m6, .ref m7, .ref m8, .ref m9])), (m9, .inl (cI, 3, .inl (enN day co nw)))]) [0, 3] rfl 6 rfl rfl rfl) rfl rfl hl.1 rfl (lv_room (Nat.le_of_ble_eq_true rfl)) dX6_ring_7 ⟨Nat.zero_le _, Nat.zero_le _⟩) hS (fun _ _ z => z.elim) (fun _ z => z.elim) (fun r_2 _ t H1 locs ht hvm hw hB hz1 hk1 hS => ?_)
  have hP := gw_ro hP hk1
  generalize H1 = H at hP hS ⊢
  rcases hw with ⟨rfl, hc⟩ | ⟨rfl, hc⟩
  · skip
    refine lv_if_ne (tgt := 19) hx hb dX6_ring_10 (by decide) (fun _ => ?_) (fun c_4 => False.elim (by revert c_4; decide))
    refine lv_aload_n hx hb dX6_ring_19 rfl (lv_at hl 0 rfl) ?_
    refine lv_iload_n hx hb dX6_ring_20 rfl (lv_at hl 1 rfl) ?_
    refine lv_iconst (v := 2) hx hb dX6_ring_21 (by decide) ?_
    refine va_calli (va_runV (As := [.int (nI k), .int 2]) (rest := []) ⟨hx, hb, hml, hown, hts⟩ (met_X6_st l D cI cZ cL mo m4 m5 m6 m7 m8 m9 0 nb nq nr (enS Q) k 2 (by first | assumption | omega) (by first | assumption | omega)) (cwV 2 hts gX6_ring_X6_st rfl rfl rfl (by decide +kernel) ⟨Nat.le_of_ble_eq_true rfl, Nat.le_of_ble_eq_true rfl⟩) (gw_pvr hK hP (wc := [(mo, .inr (6, [.int 0, .int (nI nb), .int (nI nq), .int (nI nr), .ref m4, .ref m5, .ref m6, .ref m7, .ref m8, .ref m9])), (m7, .inl (cI, 300, .inl (enS Q)))]) [0, 2] rfl 6 rfl rfl rfl) rfl rfl hl.1 rfl (lv_room (Nat.le_of_ble_eq_true rfl)) dX6_ring_22 ⟨Nat.zero_le _, Nat.zero_le _⟩) hS (fun _ _ z => z.elim) (fun _ z => z.elim) (fun r_6 _ t H1 locs ht hvm hw hB hz1 hk1 hS => ?_)
    have hP := gw_ro hP hk1
    generalize H1 = H at hP hS ⊢
    subst hw
    refine gw_top (y := Q 13 k) (enS_2 Q k) ?_
    refine lv_iconst (v := 2) hx hb dX6_ring_25 (by decide) ?_
    refine lv_icmp_le (tgt := 35) hx hb dX6_ring_26 (by decide) (fun c_7 => ?_) (fun c_7 => (by first | exact absurd c_7 (gw_lt3 hst) | exact absurd (gw_lt3 hst) c_7))
    refine lv_bipush (v := 50) hx hb dX6_ring_35 (by decide) ?_
    refine lv_iconst (v := 4) hx hb dX6_ring_37 (by decide) ?_
    refine lv_aload_n hx hb dX6_ring_38 rfl (lv_at hl 0 rfl) ?_
    refine lv_iload_n hx hb dX6_ring_39 rfl (lv_at hl 1 rfl) ?_
    refine lv_iconst (v := 1) hx hb dX6_ring_40 (by decide) ?_
    refine va_calli (va_runV (As := [.int (nI k), .int 1]) (rest := [.int 4, .int 50]) ⟨hx, hb, hml, hown, hts⟩ (met_X6_st l D cI cZ cL mo m4 m5 m6 m7 m8 m9 0 nb nq nr (enS Q) k 1 (by first | assumption | omega) (by first | assumption | omega)) (cwV 2 hts gX6_ring_X6_st rfl rfl rfl (by decide +kernel) ⟨Nat.le_of_ble_eq_true rfl, Nat.le_of_ble_eq_true rfl⟩) (gw_pvr hK hP (wc := [(mo, .inr (6, [.int 0, .int (nI nb), .int (nI nq), .int (nI nr), .ref m4, .ref m5, .ref m6, .ref m7, .ref m8, .ref m9])), (m7, .inl (cI, 300, .inl (enS Q)))]) [0, 2] rfl 6 rfl rfl rfl) rfl rfl hl.1 rfl (lv_room (Nat.le_of_ble_eq_true rfl)) dX6_ring_41 ⟨Nat.zero_le _, Nat.zero_le _⟩) hS (fun _ _ z => z.elim) (fun _ z => z.elim) (fun r_9 _ t H1 locs ht hvm hw hB hz1 hk1 hS => ?_)
    have hP := gw_ro hP hk1
    generalize H1 = H at hP hS ⊢
    subst hw
    refine gw_top (y := Q 11 k) (enS_1 Q k) ?_
    refine lv_imul hx hb dX6_ring_44 ?_
    refine lv_isub hx hb dX6_ring_45 ?_
    refine lv_aload_n hx hb dX6_ring_46 rfl (lv_at hl 0 rfl) ?_
    refine lv_aload_n hx hb dX6_ring_47 rfl (lv_at hl 0 rfl) ?_
    refine lv_iload_n hx hb dX6_ring_48 rfl (lv_at hl 1 rfl) ?_
    refine lv_iconst (v := 0) hx hb dX6_ring_49 (by decide) ?_
    refine va_calli (va_runV (As := [.int (nI k), .int 0]) (rest := [.ref mo, .int (50 - (4 * (Q 11 k)))]) ⟨hx, hb, hml, hown, hts⟩ (met_X6_st l D cI cZ cL mo m4 m5 m6 m7 m8 m9 0 nb nq nr (enS Q) k 0 (by first | assumption | omega) (by first | assumption | omega)) (cwV 2 hts gX6_ring_X6_st rfl rfl rfl (by decide +kernel) ⟨Nat.le_of_ble_eq_true rfl, Nat.le_of_ble_eq_true rfl⟩) (gw_pvr hK hP (wc := [(mo, .inr (6, [.int 0, .int (nI nb), .int (nI nq), .int (nI nr), .ref m4, .ref m5, .ref m6, .ref m7, .ref m8, .ref m9])), (m7, .inl (cI, 300, .inl (enS Q)))]) [0, 2] rfl 6 rfl rfl rfl) rfl rfl hl.1 rfl (lv_room (Nat.le_of_ble_eq_true rfl)) dX6_ring_50 ⟨Nat.zero_le _, Nat.zero_le _⟩) hS (fun _ _ z => z.elim) (fun _ z => z.elim) (fun r_11 _ t H1 locs ht hvm hw hB hz1 hk1 hS => ?_)
    have hP := gw_ro hP hk1
    generalize H1 = H at hP hS ⊢
    subst hw
    refine gw_top (y := Q 9 k) (enS_0 Q k) ?_
    refine gw_top (y := nI b) hso ?_
    refine lv_iconst (v := 0) hx hb dX6_ring_53 (by decide) ?_
    refine va_calli (va_runV (As := [.int (nI b), .int 0]) (rest := [.int (50 - (4 * (Q 11 k)))]) ⟨hx, hb, hml, hown, hts⟩ (met_X6_ro l D cI cZ cL mo m4 m5 m6 m7 m8 m9 0 nb nq nr (enR Q) b 0 (by first | assumption | omega) (by first | assumption | omega)) (cwV 2 hts gX6_ring_X6_ro rfl rfl rfl (by decide +kernel) ⟨Nat.le_of_ble_eq_true rfl, Nat.le_of_ble_eq_true rfl⟩) (gw_pvr hK hP (wc := [(mo, .inr (6, [.int 0, .int (nI nb), .int (nI nq), .int (nI nr), .ref m4, .ref m5, .ref m6, .ref m7, .ref m8, .ref m9])), (m5, .inl (cI, 20, .inl (enR Q)))]) [0, 1] rfl 6 rfl rfl rfl) rfl rfl hl.1 rfl (lv_room (Nat.le_of_ble_eq_true rfl)) dX6_ring_54 ⟨Nat.zero_le _, Nat.zero_le _⟩) hS (fun _ _ z => z.elim) (fun _ z => z.elim) (fun r_13 _ t H1 locs ht hvm hw hB hz1 hk1 hS => ?_)
    have hP := gw_ro hP hk1
    generalize H1 = H at hP hS ⊢
    subst hw
    refine gw_top (y := Q 1 b) (enR_0 Q b) ?_
    refine lv_isub hx hb dX6_ring_57 ?_
    refine lv_bipush (v := 9) hx hb dX6_ring_58 (by decide) ?_
    refine lv_aload_n hx hb dX6_ring_60 rfl (lv_at hl 0 rfl) ?_
    refine lv_iload_n hx hb dX6_ring_61 rfl (lv_at hl 1 rfl) ?_
    refine lv_iconst (v := 4) hx hb dX6_ring_62 (by decide) ?_
    refine va_calli (va_runV (As := [.int (nI k), .int 4]) (rest := [.int 9, .int ((50 - (4 * (Q 11 k))) - (Q 1 b))]) ⟨hx, hb, hml, hown, hts⟩ (met_X6_st l D cI cZ cL mo m4 m5 m6 m7 m8 m9 0 nb nq nr (enS Q) k 4 (by first | assumption | omega) (by first | assumption | omega)) (cwV 2 hts gX6_ring_X6_st rfl rfl rfl (by decide +kernel) ⟨Nat.le_of_ble_eq_true rfl, Nat.le_of_ble_eq_true rfl⟩) (gw_pvr hK hP (wc := [(mo, .inr (6, [.int 0, .int (nI nb), .int (nI nq), .int (nI nr), .ref m4, .ref m5, .ref m6, .ref m7, .ref m8, .ref m9])), (m7, .inl (cI, 300, .inl (enS Q)))]) [0, 2] rfl 6 rfl rfl rfl) rfl rfl hl.1 rfl (lv_room (Nat.le_of_ble_eq_true rfl)) dX6_ring_63 ⟨Nat.zero_le _, Nat.zero_le _⟩) hS (fun _ _ z => z.elim) (fun _ z => z.elim) (fun r_15 _ t H1 locs ht hvm hw hB hz1 hk1 hS => ?_)
    have hP := gw_ro hP hk1
    generalize H1 = H at hP hS ⊢
    subst hw
    refine gw_top (y := Q 12 k) (enS_4 Q k) ?_
    refine lv_imul hx hb dX6_ring_66 ?_
    refine lv_isub hx hb dX6_ring_67 ?_
    subst hAe
    exact W.iret (v := ((50 - (4 * (Q 11 k))) - (Q 1 b)) - (9 * (Q 12 k))) hx hb hr (fun t ht hW => ⟨⟨_, (), rfl, (by rw [hgr, g9C (hz k)]), gw_hh ht hP⟩, hS.F ht⟩) hS.2.2 dX6_ring_68
  · skip
    exact absurd ⟨k, hk, rfl⟩ hc

theorem wc_X6_smash_ok_X6 : ∀ w ∈ u_ws RX6 TX6 10, w ∈ wsX6_smash := by decide +kernel
theorem wd_X6_smash_ok_1 : (.fieldLink RX6 28 "GritWheelsModel" "thrown" "I" : Cond) ∈ wsX6_smash := by decide +kernel
theorem wd_X6_smash_ok_2 : (.fieldLink RX6 19 "GritWheelsModel" "stones" "[I" : Cond) ∈ wsX6_smash := by decide +kernel
theorem wd_X6_smash_ok_3 : (.fieldLink RX6 13 "GritWheelsModel" "rock" "[I" : Cond) ∈ wsX6_smash := by decide +kernel
theorem wd_X6_smash_ok_4 : (.methodLink RX6 73 Lib.Math.min.name : Cond) ∈ wsX6_smash := by decide +kernel
theorem wd_X6_smash_ok_5 : (.static Lib.Math.min.name : Cond) ∈ wsX6_smash := by decide +kernel
theorem wd_X6_smash_ok_6 : (.initialized "java/lang/Math" : Cond) ∈ wsX6_smash := by decide +kernel
theorem wd_X6_smash_ok_7 : (.code Lib.Math.min.name Lib.Math.min.code 2 (some .int) : Cond) ∈ wsX6_smash := by decide +kernel
set_option maxHeartbeats 4000000 in
set_option maxRecDepth 100000 in
theorem met_X6_smash_ok (l : Launch) (D : va_G) (cI cZ cL : ClassId) (mo : Nat) (m4 : Nat) (m5 : Nat) (m6 : Nat) (m7 : Nat) (m8 : Nat) (m9 : Nat) (th : Int32) (nb : Nat) (nq : Nat) (nr : Nat) (Q : Nat → Nat → Int32) (day : Nat) (co : Int32) (nw : Nat) (k : Nat) (b : Nat) (hk : k < nw) (hnw : nw ≤ 60) (hb2 : b < nb) (hnb : nb ≤ 5) (hso : Q 9 k = nI b) (hst : Q 13 k < 2) : Met l yX6_smash wsX6_smash ({ frames := 2, cells := 0, slots := 0, locals := 43 }) (gPw [.ref mo, .int (nI k)] D [(mo, .inr (6, [.int th, .int (nI nb), .int (nI nq), .int (nI nr), .ref m4, .ref m5, .ref m6, .ref m7, .ref m8, .ref m9])), (m5, .inl (cI, 20, .inl (enR Q))), (m7, .inl (cI, 300, .inl (enS Q))), (m9, .inl (cI, 3, .inl (enN day co nw)))] (gT cI cZ cL)) (va_Qi (fun (zr : Int32) (_ : Unit) => zr = if Q 3 b + Q 11 k / 2 < 200 then Q 3 b + Q 11 k / 2 else 200) (fun _ t => va_P D vwCl [(mo, .inr (6, [.int 0, .int (nI nb), .int (nI nq), .int (nI nr), .ref m4, .ref m5, .ref m6, .ref m7, .ref m8, .ref m9])), (m5, .inl (cI, 20, .inl (enR (gSmash Q k b)))), (m7, .inl (cI, 300, .inl (enS (gSmash Q k b)))), (m9, .inl (cI, 3, .inl (enN day co nw)))] t.heap) (gA (gL [(mo, .inr (6, [.int th, .int (nI nb), .int (nI nq), .int (nI nr), .ref m4, .ref m5, .ref m6, .ref m7, .ref m8, .ref m9])), (m5, .inl (cI, 20, .inl (enR Q))), (m7, .inl (cI, 300, .inl (enS Q))), (m9, .inl (cI, 3, .inl (enN day co nw)))]))) 0 0 (gA (gL [(mo, .inr (6, [.int th, .int (nI nb), .int (nI nq), .int (nI nr), .ref m4, .ref m5, .ref m6, .ref m7, .ref m8, .ref m9])), (m5, .inl (cI, 20, .inl (enR Q))), (m7, .inl (cI, 300, .inl (enS Q))), (m9, .inl (cI, 3, .inl (enN day co nw)))])) := by
  refine Met.ofW (cc := cX6_smash) (maxL := 3) (ret := (some .int)) (by decide +kernel) rfl ?_
  intro p e s m args below meth c s₁ B hml hv
  obtain ⟨rfl, hP, hK, hD0⟩ := hv
  have hx := B.exec
  have hb := B.bytes
  have hr := B.returns
  have hts := atoms_spec (ws := wsX6_smash) B.pre
  have hown : s.vm.findClass RX6 = some m.cls := findClass_of_methodNamed B.named
  have hlocks := B.notSynchronized
  have hD := gw_self hD0
  generalize hAe : gA (gL [(mo, .inr (6, [.int th, .int (nI nb), .int (nI nq), .int (nI nr), .ref m4, .ref m5, .ref m6, .ref m7, .ref m8, .ref m9])), (m5, .inl (cI, 20, .inl (enR Q))), (m7, .inl (cI, 300, .inl (enS Q))), (m9, .inl (cI, 3, .inl (enN day co nw)))]) = A at hD ⊢
  have hS : va_S A s.heap s.heap [] := va_S.rf
  have hP : va_P D vwCl [(mo, .inr (6, [.int th, .int (nI nb), .int (nI nq), .int (nI nr), .ref m4, .ref m5, .ref m6, .ref m7, .ref m8, .ref m9])), (m5, .inl (cI, 20, .inl (enR Q))), (m7, .inl (cI, 300, .inl (enS Q))), (m9, .inl (cI, 3, .inl (enN day co nw)))] s.heap := hP
  have hl := lv_entry ([.ref mo, .int (nI k)]) (n := 3) (Nat.le_of_ble_eq_true rfl)
  rw [lg_entry_eq]
  generalize (lg_sl ([.ref mo, .int (nI k)]) ++ List.replicate (3 - (lg_sl ([.ref mo, .int (nI k)])).length) Slot.unset).toArray = ls at hl ⊢
  have hl : lv_has ls 3 [(0, .ref mo), (1, .int (nI k))] := hl
  refine lv_aload_n hx hb dX6_smash_0 rfl (lv_at hl 0 rfl) ?_
  refine lv_iconst (v := 0) hx hb dX6_smash_1 (by decide) ?_
  refine va_put (D := D) (ci := 6) (v := .int 0) (ty := .int) (C := RX6) (T := TX6) (N := 10) hx hb hts wc_X6_smash_ok_X6 tyX6 tyX6_ok nmX6 hown hK hP hD hS 0 rfl rfl 0 (by decide) (hts _ wd_X6_smash_ok_1) (fun _ h9 => h9) rfl (by decide +kernel) rfl rfl (Nat.le_of_ble_eq_true rfl) dX6_smash_2 (fun H locs hP hD hS => ?_)
  have hP : va_P D vwCl [(mo, .inr (6, [.int 0, .int (nI nb), .int (nI nq), .int (nI nr), .ref m4, .ref m5, .ref m6, .ref m7, .ref m8, .ref m9])), (m5, .inl (cI, 20, .inl (enR Q))), (m7, .inl (cI, 300, .inl (enS Q))), (m9, .inl (cI, 3, .inl (enN day co nw)))] H := hP
  have hD : va_D A [(mo, .inr (6, [.int 0, .int (nI nb), .int (nI nq), .int (nI nr), .ref m4, .ref m5, .ref m6, .ref m7, .ref m8, .ref m9])), (m5, .inl (cI, 20, .inl (enR Q))), (m7, .inl (cI, 300, .inl (enS Q))), (m9, .inl (cI, 3, .inl (enN day co nw)))] := hD
  refine lv_aload_n hx hb dX6_smash_5 rfl (lv_at hl 0 rfl) ?_
  refine lv_iload_n hx hb dX6_smash_6 rfl (lv_at hl 1 rfl) ?_
  refine va_calli (va_runV (As := [.int (nI k)]) (rest := []) ⟨hx, hb, hml, hown, hts⟩ (met_X6_isWheel l D cI cZ cL mo m4 m5 m6 m7 m8 m9 0 nb nq nr day co nw (nI k) (by first | assumption | omega)) (cwV 1 hts gX6_smash_X6_isWheel rfl rfl rfl (by decide +kernel) ⟨Nat.le_of_ble_eq_true rfl, Nat.le_of_ble_eq_true rfl⟩) (gw_pvr hK hP (wc := [(mo, .inr (6, [.int 0, .int (nI nb), .int (nI nq), .int (nI nr), .ref m4, .ref m5, .ref m6, .ref m7, .ref m8, .ref m9])), (m9, .inl (cI, 3, .inl (enN day co nw)))]) [0, 3] rfl 6 rfl rfl rfl) rfl rfl hl.1 rfl (lv_room (Nat.le_of_ble_eq_true rfl)) dX6_smash_7 ⟨Nat.zero_le _, Nat.zero_le _⟩) hS (fun _ _ z => z.elim) (fun _ z => z.elim) (fun r_2 _ t H1 locs ht hvm hw hB hz1 hk1 hS => ?_)
  have hP := gw_ro hP hk1
  generalize H1 = H at hP hS ⊢
  rcases hw with ⟨rfl, hc⟩ | ⟨rfl, hc⟩
  · skip
    refine lv_if_ne (tgt := 19) hx hb dX6_smash_10 (by decide) (fun _ => ?_) (fun c_4 => False.elim (by revert c_4; decide))
    refine lv_aload_n hx hb dX6_smash_19 rfl (lv_at hl 0 rfl) ?_
    refine lv_iload_n hx hb dX6_smash_20 rfl (lv_at hl 1 rfl) ?_
    refine lv_iconst (v := 2) hx hb dX6_smash_21 (by decide) ?_
    refine va_calli (va_runV (As := [.int (nI k), .int 2]) (rest := []) ⟨hx, hb, hml, hown, hts⟩ (met_X6_st l D cI cZ cL mo m4 m5 m6 m7 m8 m9 0 nb nq nr (enS Q) k 2 (by first | assumption | omega) (by first | assumption | omega)) (cwV 2 hts gX6_smash_X6_st rfl rfl rfl (by decide +kernel) ⟨Nat.le_of_ble_eq_true rfl, Nat.le_of_ble_eq_true rfl⟩) (gw_pvr hK hP (wc := [(mo, .inr (6, [.int 0, .int (nI nb), .int (nI nq), .int (nI nr), .ref m4, .ref m5, .ref m6, .ref m7, .ref m8, .ref m9])), (m7, .inl (cI, 300, .inl (enS Q)))]) [0, 2] rfl 6 rfl rfl rfl) rfl rfl hl.1 rfl (lv_room (Nat.le_of_ble_eq_true rfl)) dX6_smash_22 ⟨Nat.zero_le _, Nat.zero_le _⟩) hS (fun _ _ z => z.elim) (fun _ z => z.elim) (fun r_6 _ t H1 locs ht hvm hw hB hz1 hk1 hS => ?_)
    have hP := gw_ro hP hk1
    generalize H1 = H at hP hS ⊢
    subst hw
    refine gw_top (y := Q 13 k) (enS_2 Q k) ?_
    refine lv_iconst (v := 1) hx hb dX6_smash_25 (by decide) ?_
    refine lv_icmp_le (tgt := 35) hx hb dX6_smash_26 (by decide) (fun c_7 => ?_) (fun c_7 => (by first | exact absurd c_7 (gw_lt2 hst) | exact absurd (gw_lt2 hst) c_7))
    refine lv_iconst (v := 4) hx hb dX6_smash_35 (by decide) ?_
    refine lv_aload_n hx hb dX6_smash_36 rfl (lv_at hl 0 rfl) ?_
    refine lv_iload_n hx hb dX6_smash_37 rfl (lv_at hl 1 rfl) ?_
    refine lv_iconst (v := 0) hx hb dX6_smash_38 (by decide) ?_
    refine va_calli (va_runV (As := [.int (nI k), .int 0]) (rest := [.int 4]) ⟨hx, hb, hml, hown, hts⟩ (met_X6_st l D cI cZ cL mo m4 m5 m6 m7 m8 m9 0 nb nq nr (enS Q) k 0 (by first | assumption | omega) (by first | assumption | omega)) (cwV 2 hts gX6_smash_X6_st rfl rfl rfl (by decide +kernel) ⟨Nat.le_of_ble_eq_true rfl, Nat.le_of_ble_eq_true rfl⟩) (gw_pvr hK hP (wc := [(mo, .inr (6, [.int 0, .int (nI nb), .int (nI nq), .int (nI nr), .ref m4, .ref m5, .ref m6, .ref m7, .ref m8, .ref m9])), (m7, .inl (cI, 300, .inl (enS Q)))]) [0, 2] rfl 6 rfl rfl rfl) rfl rfl hl.1 rfl (lv_room (Nat.le_of_ble_eq_true rfl)) dX6_smash_39 ⟨Nat.zero_le _, Nat.zero_le _⟩) hS (fun _ _ z => z.elim) (fun _ z => z.elim) (fun r_9 _ t H1 locs ht hvm hw hB hz1 hk1 hS => ?_)
    have hP := gw_ro hP hk1
    generalize H1 = H at hP hS ⊢
    subst hw
    refine gw_top (y := Q 9 k) (enS_0 Q k) ?_
    refine gw_top (y := nI b) hso ?_
    refine lv_imul hx hb dX6_smash_42 ?_
    refine gw_top (y := nI (4 * b)) (nI_mul 4 b) ?_
    refine lv_iconst (v := 2) hx hb dX6_smash_43 (by decide) ?_
    refine lv_iadd hx hb dX6_smash_44 ?_
    refine gw_top (y := nI ((4 * b) + 2)) (nI_add (4 * b) 2) ?_
    refine lv_istore_n (lv' := [(2, .int (nI ((4 * b) + 2))), (0, .ref mo), (1, .int (nI k))]) hx hb dX6_smash_45 rfl hl (by decide) rfl (fun ls hl => ?_)
    refine lv_aload_n hx hb dX6_smash_46 rfl (lv_at hl 1 rfl) ?_
    refine va_get (D := D) (ci := 6) (v := .ref m7) (C := RX6) (T := TX6) (N := 10) hx hb hts wc_X6_smash_ok_X6 hown hK hP 0 rfl rfl 7 (by decide) (hts _ wd_X6_smash_ok_2) (fun _ h9 => h9) rfl dX6_smash_47 ?_
    refine lv_iconst (v := 5) hx hb dX6_smash_50 (by decide) ?_
    refine lv_iload_n hx hb dX6_smash_51 rfl (lv_at hl 2 rfl) ?_
    refine lv_imul hx hb dX6_smash_52 ?_
    refine gw_top (y := nI (5 * k)) (nI_mul 5 k) ?_
    refine lv_iconst (v := 2) hx hb dX6_smash_53 (by decide) ?_
    refine lv_iadd hx hb dX6_smash_54 ?_
    refine gw_top (y := nI ((5 * k) + 2)) (nI_add (5 * k) 2) ?_
    refine lv_iconst (v := 4) hx hb dX6_smash_55 (by decide) ?_
    refine gw_iast hx hb hK hP hD hS 2 0 (k := (5 * k) + 2) rfl rfl (by omega) (by decide) dX6_smash_56 (fun H locs hP hD hS => ?_)
    have hP : va_P D vwCl [(mo, .inr (6, [.int 0, .int (nI nb), .int (nI nq), .int (nI nr), .ref m4, .ref m5, .ref m6, .ref m7, .ref m8, .ref m9])), (m5, .inl (cI, 20, .inl (enR Q))), (m7, .inl (cI, 300, .inl (upd (enS Q) ((5 * k) + 2) 4))), (m9, .inl (cI, 3, .inl (enN day co nw)))] H := hP
    have hD : va_D A [(mo, .inr (6, [.int 0, .int (nI nb), .int (nI nq), .int (nI nr), .ref m4, .ref m5, .ref m6, .ref m7, .ref m8, .ref m9])), (m5, .inl (cI, 20, .inl (enR Q))), (m7, .inl (cI, 300, .inl (upd (enS Q) ((5 * k) + 2) 4))), (m9, .inl (cI, 3, .inl (enN day co nw)))] := hD
    have hw_10 : upd (enS Q) ((5 * k) + 2) 4 = enS (gSmash Q k b) := ((enS_p Q k 2 _ (by decide)).trans (enS_ext rfl rfl rfl rfl rfl))
    rw [hw_10] at hP hD
    refine lv_aload_n hx hb dX6_smash_57 rfl (lv_at hl 1 rfl) ?_
    refine va_get (D := D) (ci := 6) (v := .ref m5) (C := RX6) (T := TX6) (N := 10) hx hb hts wc_X6_smash_ok_X6 hown hK hP 0 rfl rfl 5 (by decide) (hts _ wd_X6_smash_ok_3) (fun _ h9 => h9) rfl dX6_smash_58 ?_
    refine lv_iload_n hx hb dX6_smash_61 rfl (lv_at hl 0 rfl) ?_
    refine lv_sipush (v := 200) hx hb dX6_smash_62 (by decide) ?_
    refine lv_aload_n hx hb dX6_smash_65 rfl (lv_at hl 1 rfl) ?_
    refine va_get (D := D) (ci := 6) (v := .ref m5) (C := RX6) (T := TX6) (N := 10) hx hb hts wc_X6_smash_ok_X6 hown hK hP 0 rfl rfl 5 (by decide) (hts _ wd_X6_smash_ok_3) (fun _ h9 => h9) rfl dX6_smash_66 ?_
    refine lv_iload_n hx hb dX6_smash_69 rfl (lv_at hl 0 rfl) ?_
    refine gw_iald hx hb hK hP 1 0 (k := (4 * b) + 2) rfl rfl (by omega) (by decide) dX6_smash_70 ?_
    refine gw_top (y := Q 3 b) (enR_2 Q b) ?_
    refine lv_aload_n hx hb dX6_smash_71 rfl (lv_at hl 1 rfl) ?_
    refine lv_iload_n hx hb dX6_smash_72 rfl (lv_at hl 2 rfl) ?_
    refine lv_iconst (v := 1) hx hb dX6_smash_73 (by decide) ?_
    refine va_calli (va_runV (As := [.int (nI k), .int 1]) (rest := [.int (Q 3 b), .int 200, .int (nI ((4 * b) + 2)), .ref m5]) ⟨hx, hb, hml, hown, hts⟩ (met_X6_st l D cI cZ cL mo m4 m5 m6 m7 m8 m9 0 nb nq nr (enS (gSmash Q k b)) k 1 (by first | assumption | omega) (by first | assumption | omega)) (cwV 2 hts gX6_smash_X6_st rfl rfl rfl (by decide +kernel) ⟨Nat.le_of_ble_eq_true rfl, Nat.le_of_ble_eq_true rfl⟩) (gw_pvr hK hP (wc := [(mo, .inr (6, [.int 0, .int (nI nb), .int (nI nq), .int (nI nr), .ref m4, .ref m5, .ref m6, .ref m7, .ref m8, .ref m9])), (m7, .inl (cI, 300, .inl (enS (gSmash Q k b))))]) [0, 2] rfl 6 rfl rfl rfl) rfl rfl hl.1 rfl (lv_room (Nat.le_of_ble_eq_true rfl)) dX6_smash_74 ⟨Nat.zero_le _, Nat.zero_le _⟩) hS (fun _ _ z => z.elim) (fun _ z => z.elim) (fun r_12 _ t H1 locs ht hvm hw hB hz1 hk1 hS => ?_)
    have hP := gw_ro hP hk1
    generalize H1 = H at hP hS ⊢
    subst hw
    refine gw_top (y := (gSmash Q k b) 11 k) (enS_1 (gSmash Q k b) k) ?_
    refine gw_top (y := Q 11 k) rfl ?_
    refine lv_iconst (v := 2) hx hb dX6_smash_77 (by decide) ?_
    refine lv_idiv hx hb dX6_smash_78 (by decide) ?_
    refine lv_iadd hx hb dX6_smash_79 ?_
    refine va_mmin (own := RX6) hx hb (by rw [hml]; exact hl.1.symm) hown (hts _ wd_X6_smash_ok_4) (hts _ wd_X6_smash_ok_5) (hts _ wd_X6_smash_ok_6) (hts _ wd_X6_smash_ok_7) (Nat.le_of_ble_eq_true rfl) (Nat.le_of_ble_eq_true rfl) (Nat.zero_le _) (Nat.zero_le _) dX6_smash_80 ?_
    refine gw_iast hx hb hK hP hD hS 1 0 (k := (4 * b) + 2) rfl rfl (by omega) (by decide) dX6_smash_83 (fun H locs hP hD hS => ?_)
    have hP : va_P D vwCl [(mo, .inr (6, [.int 0, .int (nI nb), .int (nI nq), .int (nI nr), .ref m4, .ref m5, .ref m6, .ref m7, .ref m8, .ref m9])), (m5, .inl (cI, 20, .inl (upd (enR Q) ((4 * b) + 2) (if ((Q 3 b) + ((Q 11 k) / 2)) < 200 then ((Q 3 b) + ((Q 11 k) / 2)) else 200)))), (m7, .inl (cI, 300, .inl (enS (gSmash Q k b)))), (m9, .inl (cI, 3, .inl (enN day co nw)))] H := hP
    have hD : va_D A [(mo, .inr (6, [.int 0, .int (nI nb), .int (nI nq), .int (nI nr), .ref m4, .ref m5, .ref m6, .ref m7, .ref m8, .ref m9])), (m5, .inl (cI, 20, .inl (upd (enR Q) ((4 * b) + 2) (if ((Q 3 b) + ((Q 11 k) / 2)) < 200 then ((Q 3 b) + ((Q 11 k) / 2)) else 200)))), (m7, .inl (cI, 300, .inl (enS (gSmash Q k b)))), (m9, .inl (cI, 3, .inl (enN day co nw)))] := hD
    have hw_13 : upd (enR Q) ((4 * b) + 2) (if ((Q 3 b) + ((Q 11 k) / 2)) < 200 then ((Q 3 b) + ((Q 11 k) / 2)) else 200) = enR (gSmash Q k b) := ((enR_p Q b 2 _ (by decide)).trans (enR_ext rfl rfl rfl rfl))
    rw [hw_13] at hP hD
    refine lv_aload_n hx hb dX6_smash_84 rfl (lv_at hl 1 rfl) ?_
    refine va_get (D := D) (ci := 6) (v := .ref m5) (C := RX6) (T := TX6) (N := 10) hx hb hts wc_X6_smash_ok_X6 hown hK hP 0 rfl rfl 5 (by decide) (hts _ wd_X6_smash_ok_3) (fun _ h9 => h9) rfl dX6_smash_85 ?_
    refine lv_iload_n hx hb dX6_smash_88 rfl (lv_at hl 0 rfl) ?_
    refine gw_iald hx hb hK hP 1 0 (k := (4 * b) + 2) rfl rfl (by omega) (by decide) dX6_smash_89 ?_
    refine gw_top (y := if Q 3 b + Q 11 k / 2 < 200 then Q 3 b + Q 11 k / 2 else 200) ((enR_2 _ b).trans upd_at) ?_
    subst hAe
    exact W.iret (v := if Q 3 b + Q 11 k / 2 < 200 then Q 3 b + Q 11 k / 2 else 200) hx hb hr (fun t ht hW => ⟨⟨_, (), rfl, rfl, gw_hh ht hP⟩, hS.F ht⟩) hS.2.2 dX6_smash_90
  · skip
    exact absurd ⟨k, hk, rfl⟩ hc

theorem wc_X6_build_ok_X6 : ∀ w ∈ u_ws RX6 TX6 10, w ∈ wsX6_build := by decide +kernel
theorem wd_X6_build_ok_1 : (.fieldLink RX6 28 "GritWheelsModel" "thrown" "I" : Cond) ∈ wsX6_build := by decide +kernel
theorem wd_X6_build_ok_2 : (.fieldLink RX6 42 "GritWheelsModel" "rafts" "I" : Cond) ∈ wsX6_build := by decide +kernel
theorem wd_X6_build_ok_3 : (.fieldLink RX6 22 "GritWheelsModel" "boats" "[I" : Cond) ∈ wsX6_build := by decide +kernel
set_option maxHeartbeats 4000000 in
set_option maxRecDepth 100000 in
theorem met_X6_build_ok (l : Launch) (D : va_G) (cI cZ cL : ClassId) (mo : Nat) (m4 : Nat) (m5 : Nat) (m6 : Nat) (m7 : Nat) (m8 : Nat) (m9 : Nat) (th : Int32) (nb : Nat) (nq : Nat) (nr : Nat) (ca : Nat → Int32) (we : Nat → Int32) (y : Int32) (hy : 20 ≤ y ∧ y ≤ 400) (hnr : nr < 3) : Met l yX6_build wsX6_build ({ frames := 1, cells := 0, slots := 0, locals := 22 }) (gPw [.ref mo, .int y] D [(mo, .inr (6, [.int th, .int (nI nb), .int (nI nq), .int (nI nr), .ref m4, .ref m5, .ref m6, .ref m7, .ref m8, .ref m9])), (m8, .inl (cI, 6, .inl (enB ca we)))] (gT cI cZ cL)) (va_Qi (fun (zr : Int32) (_ : Unit) => zr = nI nr) (fun _ t => va_P D vwCl [(mo, .inr (6, [.int 0, .int (nI nb), .int (nI nq), .int (nI (nr + 1)), .ref m4, .ref m5, .ref m6, .ref m7, .ref m8, .ref m9])), (m8, .inl (cI, 6, .inl (enB (upd ca nr y) (upd we nr (-1)))))] t.heap) (gA (gL [(mo, .inr (6, [.int th, .int (nI nb), .int (nI nq), .int (nI nr), .ref m4, .ref m5, .ref m6, .ref m7, .ref m8, .ref m9])), (m8, .inl (cI, 6, .inl (enB ca we)))]))) 0 0 (gA (gL [(mo, .inr (6, [.int th, .int (nI nb), .int (nI nq), .int (nI nr), .ref m4, .ref m5, .ref m6, .ref m7, .ref m8, .ref m9])), (m8, .inl (cI, 6, .inl (enB ca we)))])) := by
  refine Met.ofW (cc := cX6_build) (maxL := 2) (ret := (some .int)) (by decide +kernel) rfl ?_
  intro p e s m args below meth c s₁ B hml hv
  obtain ⟨rfl, hP, hK, hD0⟩ := hv
  have hx := B.exec
  have hb := B.bytes
  have hr := B.returns
  have hts := atoms_spec (ws := wsX6_build) B.pre
  have hown : s.vm.findClass RX6 = some m.cls := findClass_of_methodNamed B.named
  have hlocks := B.notSynchronized
  have hD := gw_self hD0
  generalize hAe : gA (gL [(mo, .inr (6, [.int th, .int (nI nb), .int (nI nq), .int (nI nr), .ref m4, .ref m5, .ref m6, .ref m7, .ref m8, .ref m9])), (m8, .inl (cI, 6, .inl (enB ca we)))]) = A at hD ⊢
  have hS : va_S A s.heap s.heap [] := va_S.rf
  have hP : va_P D vwCl [(mo, .inr (6, [.int th, .int (nI nb), .int (nI nq), .int (nI nr), .ref m4, .ref m5, .ref m6, .ref m7, .ref m8, .ref m9])), (m8, .inl (cI, 6, .inl (enB ca we)))] s.heap := hP
  have hl := lv_entry ([.ref mo, .int y]) (n := 2) (Nat.le_of_ble_eq_true rfl)
  rw [lg_entry_eq]
  generalize (lg_sl ([.ref mo, .int y]) ++ List.replicate (2 - (lg_sl ([.ref mo, .int y])).length) Slot.unset).toArray = ls at hl ⊢
  have hl : lv_has ls 2 [(0, .ref mo), (1, .int y)] := hl
  refine lv_aload_n hx hb dX6_build_0 rfl (lv_at hl 0 rfl) ?_
  refine lv_iconst (v := 0) hx hb dX6_build_1 (by decide) ?_
  refine va_put (D := D) (ci := 6) (v := .int 0) (ty := .int) (C := RX6) (T := TX6) (N := 10) hx hb hts wc_X6_build_ok_X6 tyX6 tyX6_ok nmX6 hown hK hP hD hS 0 rfl rfl 0 (by decide) (hts _ wd_X6_build_ok_1) (fun _ h9 => h9) rfl (by decide +kernel) rfl rfl (Nat.le_of_ble_eq_true rfl) dX6_build_2 (fun H locs hP hD hS => ?_)
  have hP : va_P D vwCl [(mo, .inr (6, [.int 0, .int (nI nb), .int (nI nq), .int (nI nr), .ref m4, .ref m5, .ref m6, .ref m7, .ref m8, .ref m9])), (m8, .inl (cI, 6, .inl (enB ca we)))] H := hP
  have hD : va_D A [(mo, .inr (6, [.int 0, .int (nI nb), .int (nI nq), .int (nI nr), .ref m4, .ref m5, .ref m6, .ref m7, .ref m8, .ref m9])), (m8, .inl (cI, 6, .inl (enB ca we)))] := hD
  refine lv_iload_n hx hb dX6_build_5 rfl (lv_at hl 1 rfl) ?_
  refine lv_bipush (v := 20) hx hb dX6_build_6 (by decide) ?_
  refine lv_sipush (v := 400) hx hb dX6_build_8 (by decide) ?_
  refine va_calli (va_runS (As := [.int y, .int 20, .int 400]) (rest := []) ⟨hx, hb, hml, hown, hts⟩ (met_X6_isIn l D cI cZ cL y 20 400) (va_cwS 3 hts gX6_build_X6_isIn rfl rfl rfl (by decide +kernel) ⟨Nat.le_of_ble_eq_true rfl, Nat.le_of_ble_eq_true rfl⟩) (gw_psr hK hP (wc := []) [] rfl) rfl rfl hl.1 rfl (lv_room (Nat.le_of_ble_eq_true rfl)) dX6_build_11 ⟨Nat.zero_le _, Nat.zero_le _⟩) hS (fun _ _ z => z.elim) (fun _ z => z.elim) (fun r_2 _ t H1 locs ht hvm hw hB hz1 hk1 hS => ?_)
  have hP := gw_ro hP hk1
  generalize H1 = H at hP hS ⊢
  rcases hw with ⟨rfl, hc⟩ | ⟨rfl, hc⟩
  · skip
    refine lv_if_ne (tgt := 23) hx hb dX6_build_14 (by decide) (fun _ => ?_) (fun c_4 => False.elim (by revert c_4; decide))
    refine lv_aload_n hx hb dX6_build_23 rfl (lv_at hl 0 rfl) ?_
    refine va_get (D := D) (ci := 6) (v := .int (nI nr)) (C := RX6) (T := TX6) (N := 10) hx hb hts wc_X6_build_ok_X6 hown hK hP 0 rfl rfl 3 (by decide) (hts _ wd_X6_build_ok_2) (fun _ h9 => h9) rfl dX6_build_24 ?_
    refine lv_iconst (v := 3) hx hb dX6_build_27 (by decide) ?_
    refine lv_icmp_ne (tgt := 37) hx hb dX6_build_28 (by decide) (fun c_5 => ?_) (fun c_5 => (by first | exact absurd c_5 (show ¬ nI nr = 3 from fun h => absurd ((nI_eq (b := 3) (by omega) (by decide)).mp h) (by omega)) | exact absurd (show ¬ nI nr = 3 from fun h => absurd ((nI_eq (b := 3) (by omega) (by decide)).mp h) (by omega)) c_5))
    refine lv_aload_n hx hb dX6_build_37 rfl (lv_at hl 0 rfl) ?_
    refine va_get (D := D) (ci := 6) (v := .ref m8) (C := RX6) (T := TX6) (N := 10) hx hb hts wc_X6_build_ok_X6 hown hK hP 0 rfl rfl 8 (by decide) (hts _ wd_X6_build_ok_3) (fun _ h9 => h9) rfl dX6_build_38 ?_
    refine lv_iconst (v := 2) hx hb dX6_build_41 (by decide) ?_
    refine lv_aload_n hx hb dX6_build_42 rfl (lv_at hl 0 rfl) ?_
    refine va_get (D := D) (ci := 6) (v := .int (nI nr)) (C := RX6) (T := TX6) (N := 10) hx hb hts wc_X6_build_ok_X6 hown hK hP 0 rfl rfl 3 (by decide) (hts _ wd_X6_build_ok_2) (fun _ h9 => h9) rfl dX6_build_43 ?_
    refine lv_imul hx hb dX6_build_46 ?_
    refine gw_top (y := nI (2 * nr)) (nI_mul 2 nr) ?_
    refine lv_iconst (v := 0) hx hb dX6_build_47 (by decide) ?_
    refine lv_iadd hx hb dX6_build_48 ?_
    refine gw_top (y := nI ((2 * nr) + 0)) (nI_add (2 * nr) 0) ?_
    refine lv_iload_n hx hb dX6_build_49 rfl (lv_at hl 1 rfl) ?_
    refine gw_iast hx hb hK hP hD hS 1 0 (k := (2 * nr) + 0) rfl rfl (by omega) (by decide) dX6_build_50 (fun H locs hP hD hS => ?_)
    have hP : va_P D vwCl [(mo, .inr (6, [.int 0, .int (nI nb), .int (nI nq), .int (nI nr), .ref m4, .ref m5, .ref m6, .ref m7, .ref m8, .ref m9])), (m8, .inl (cI, 6, .inl (upd (enB ca we) ((2 * nr) + 0) y)))] H := hP
    have hD : va_D A [(mo, .inr (6, [.int 0, .int (nI nb), .int (nI nq), .int (nI nr), .ref m4, .ref m5, .ref m6, .ref m7, .ref m8, .ref m9])), (m8, .inl (cI, 6, .inl (upd (enB ca we) ((2 * nr) + 0) y)))] := hD
    have hw_6 : upd (enB ca we) ((2 * nr) + 0) y = enB (upd ca nr y) we := (enB_p0 ca we nr y)
    rw [hw_6] at hP hD
    refine lv_aload_n hx hb dX6_build_51 rfl (lv_at hl 0 rfl) ?_
    refine va_get (D := D) (ci := 6) (v := .ref m8) (C := RX6) (T := TX6) (N := 10) hx hb hts wc_X6_build_ok_X6 hown hK hP 0 rfl rfl 8 (by decide) (hts _ wd_X6_build_ok_3) (fun _ h9 => h9) rfl dX6_build_52 ?_
    refine lv_iconst (v := 2) hx hb dX6_build_55 (by decide) ?_
    refine lv_aload_n hx hb dX6_build_56 rfl (lv_at hl 0 rfl) ?_
    refine va_get (D := D) (ci := 6) (v := .int (nI nr)) (C := RX6) (T := TX6) (N := 10) hx hb hts wc_X6_build_ok_X6 hown hK hP 0 rfl rfl 3 (by decide) (hts _ wd_X6_build_ok_2) (fun _ h9 => h9) rfl dX6_build_57 ?_
    refine lv_imul hx hb dX6_build_60 ?_
    refine gw_top (y := nI (2 * nr)) (nI_mul 2 nr) ?_
    refine lv_iconst (v := 1) hx hb dX6_build_61 (by decide) ?_
    refine lv_iadd hx hb dX6_build_62 ?_
    refine gw_top (y := nI ((2 * nr) + 1)) (nI_add (2 * nr) 1) ?_
    refine lv_iconst (v := (-1)) hx hb dX6_build_63 (by decide) ?_
    refine gw_iast hx hb hK hP hD hS 1 0 (k := (2 * nr) + 1) rfl rfl (by omega) (by decide) dX6_build_64 (fun H locs hP hD hS => ?_)
    have hP : va_P D vwCl [(mo, .inr (6, [.int 0, .int (nI nb), .int (nI nq), .int (nI nr), .ref m4, .ref m5, .ref m6, .ref m7, .ref m8, .ref m9])), (m8, .inl (cI, 6, .inl (upd (enB (upd ca nr y) we) ((2 * nr) + 1) (-1))))] H := hP
    have hD : va_D A [(mo, .inr (6, [.int 0, .int (nI nb), .int (nI nq), .int (nI nr), .ref m4, .ref m5, .ref m6, .ref m7, .ref m8, .ref m9])), (m8, .inl (cI, 6, .inl (upd (enB (upd ca nr y) we) ((2 * nr) + 1) (-1))))] := hD
    have hw_7 : upd (enB (upd ca nr y) we) ((2 * nr) + 1) (-1) = enB (upd ca nr y) (upd we nr (-1)) := (enB_p1 _ we nr _)
    rw [hw_7] at hP hD
    refine lv_aload_n hx hb dX6_build_65 rfl (lv_at hl 0 rfl) ?_
    refine lv_dup hx hb dX6_build_66 rfl ?_
    refine va_get (D := D) (ci := 6) (v := .int (nI nr)) (C := RX6) (T := TX6) (N := 10) hx hb hts wc_X6_build_ok_X6 hown hK hP 0 rfl rfl 3 (by decide) (hts _ wd_X6_build_ok_2) (fun _ h9 => h9) rfl dX6_build_67 ?_
    refine lv_iconst (v := 1) hx hb dX6_build_70 (by decide) ?_
    refine lv_iadd hx hb dX6_build_71 ?_
    refine gw_top (y := nI (nr + 1)) (nI_add nr 1) ?_
    refine va_put (D := D) (ci := 6) (v := .int (nI (nr + 1))) (ty := .int) (C := RX6) (T := TX6) (N := 10) hx hb hts wc_X6_build_ok_X6 tyX6 tyX6_ok nmX6 hown hK hP hD hS 0 rfl rfl 3 (by decide) (hts _ wd_X6_build_ok_2) (fun _ h9 => h9) rfl (by decide +kernel) rfl rfl (Nat.le_of_ble_eq_true rfl) dX6_build_72 (fun H locs hP hD hS => ?_)
    have hP : va_P D vwCl [(mo, .inr (6, [.int 0, .int (nI nb), .int (nI nq), .int (nI (nr + 1)), .ref m4, .ref m5, .ref m6, .ref m7, .ref m8, .ref m9])), (m8, .inl (cI, 6, .inl (enB (upd ca nr y) (upd we nr (-1)))))] H := hP
    have hD : va_D A [(mo, .inr (6, [.int 0, .int (nI nb), .int (nI nq), .int (nI (nr + 1)), .ref m4, .ref m5, .ref m6, .ref m7, .ref m8, .ref m9])), (m8, .inl (cI, 6, .inl (enB (upd ca nr y) (upd we nr (-1)))))] := hD
    refine lv_aload_n hx hb dX6_build_75 rfl (lv_at hl 0 rfl) ?_
    refine va_get (D := D) (ci := 6) (v := .int (nI (nr + 1))) (C := RX6) (T := TX6) (N := 10) hx hb hts wc_X6_build_ok_X6 hown hK hP 0 rfl rfl 3 (by decide) (hts _ wd_X6_build_ok_2) (fun _ h9 => h9) rfl dX6_build_76 ?_
    refine lv_iconst (v := 1) hx hb dX6_build_79 (by decide) ?_
    refine lv_isub hx hb dX6_build_80 ?_
    refine gw_top (y := nI nr) (nI_pred nr) ?_
    subst hAe
    exact W.iret (v := nI nr) hx hb hr (fun t ht hW => ⟨⟨_, (), rfl, rfl, gw_hh ht hP⟩, hS.F ht⟩) hS.2.2 dX6_build_81
  · skip
    exact absurd hy hc

theorem wc_X6_load_ok_X6 : ∀ w ∈ u_ws RX6 TX6 10, w ∈ wsX6_load := by decide +kernel
theorem wd_X6_load_ok_1 : (.fieldLink RX6 28 "GritWheelsModel" "thrown" "I" : Cond) ∈ wsX6_load := by decide +kernel
theorem wd_X6_load_ok_2 : (.fieldLink RX6 19 "GritWheelsModel" "stones" "[I" : Cond) ∈ wsX6_load := by decide +kernel
set_option maxHeartbeats 4000000 in
set_option maxRecDepth 100000 in
theorem met_X6_load_ok (l : Launch) (D : va_G) (cI cZ cL : ClassId) (mo : Nat) (m4 : Nat) (m5 : Nat) (m6 : Nat) (m7 : Nat) (m8 : Nat) (m9 : Nat) (th : Int32) (nb : Nat) (nq : Nat) (nr : Nat) (Q : Nat → Nat → Int32) (day : Nat) (co : Int32) (nw : Nat) (ca : Nat → Int32) (we : Nat → Int32) (k : Nat) (r : Nat) (hk : k < nw) (hr2 : r < nr) (hnw : nw ≤ 60) (hnr : nr ≤ 3) (hcar : ∀ w, w < nw → Q 14 w = -1 ∨ Q 13 w = 2) (hst : Q 13 k = 1) (haw : we r = -1) (hle : 2 * Q 11 k * Q 11 k ≤ gStill Q nw ca r) : Met l yX6_load wsX6_load ({ frames := 3, cells := 0, slots := 0, locals := 67 }) (gPw [.ref mo, .int (nI k), .int (nI r)] D [(mo, .inr (6, [.int th, .int (nI nb), .int (nI nq), .int (nI nr), .ref m4, .ref m5, .ref m6, .ref m7, .ref m8, .ref m9])), (m7, .inl (cI, 300, .inl (enS Q))), (m8, .inl (cI, 6, .inl (enB ca we))), (m9, .inl (cI, 3, .inl (enN day co nw)))] (gT cI cZ cL)) (va_Qi (fun (zr : Int32) (_ : Unit) => zr = gStill (gPut Q k r) nw ca r) (fun _ t => va_P D vwCl [(mo, .inr (6, [.int 0, .int (nI nb), .int (nI nq), .int (nI nr), .ref m4, .ref m5, .ref m6, .ref m7, .ref m8, .ref m9])), (m7, .inl (cI, 300, .inl (enS (gPut Q k r)))), (m8, .inl (cI, 6, .inl (enB ca we))), (m9, .inl (cI, 3, .inl (enN day co nw)))] t.heap) (gA (gL [(mo, .inr (6, [.int th, .int (nI nb), .int (nI nq), .int (nI nr), .ref m4, .ref m5, .ref m6, .ref m7, .ref m8, .ref m9])), (m7, .inl (cI, 300, .inl (enS Q))), (m8, .inl (cI, 6, .inl (enB ca we))), (m9, .inl (cI, 3, .inl (enN day co nw)))]))) 0 0 (gA (gL [(mo, .inr (6, [.int th, .int (nI nb), .int (nI nq), .int (nI nr), .ref m4, .ref m5, .ref m6, .ref m7, .ref m8, .ref m9])), (m7, .inl (cI, 300, .inl (enS Q))), (m8, .inl (cI, 6, .inl (enB ca we))), (m9, .inl (cI, 3, .inl (enN day co nw)))])) := by
  refine Met.ofW (cc := cX6_load) (maxL := 3) (ret := (some .int)) (by decide +kernel) rfl ?_
  intro p e s m args below meth c s₁ B hml hv
  obtain ⟨rfl, hP, hK, hD0⟩ := hv
  have hx := B.exec
  have hb := B.bytes
  have hr := B.returns
  have hts := atoms_spec (ws := wsX6_load) B.pre
  have hown : s.vm.findClass RX6 = some m.cls := findClass_of_methodNamed B.named
  have hlocks := B.notSynchronized
  have hD := gw_self hD0
  generalize hAe : gA (gL [(mo, .inr (6, [.int th, .int (nI nb), .int (nI nq), .int (nI nr), .ref m4, .ref m5, .ref m6, .ref m7, .ref m8, .ref m9])), (m7, .inl (cI, 300, .inl (enS Q))), (m8, .inl (cI, 6, .inl (enB ca we))), (m9, .inl (cI, 3, .inl (enN day co nw)))]) = A at hD ⊢
  have hS : va_S A s.heap s.heap [] := va_S.rf
  have hP : va_P D vwCl [(mo, .inr (6, [.int th, .int (nI nb), .int (nI nq), .int (nI nr), .ref m4, .ref m5, .ref m6, .ref m7, .ref m8, .ref m9])), (m7, .inl (cI, 300, .inl (enS Q))), (m8, .inl (cI, 6, .inl (enB ca we))), (m9, .inl (cI, 3, .inl (enN day co nw)))] s.heap := hP
  have hl := lv_entry ([.ref mo, .int (nI k), .int (nI r)]) (n := 3) (Nat.le_of_ble_eq_true rfl)
  rw [lg_entry_eq]
  generalize (lg_sl ([.ref mo, .int (nI k), .int (nI r)]) ++ List.replicate (3 - (lg_sl ([.ref mo, .int (nI k), .int (nI r)])).length) Slot.unset).toArray = ls at hl ⊢
  have hl : lv_has ls 3 [(0, .ref mo), (1, .int (nI k)), (2, .int (nI r))] := hl
  refine lv_aload_n hx hb dX6_load_0 rfl (lv_at hl 0 rfl) ?_
  refine lv_iconst (v := 0) hx hb dX6_load_1 (by decide) ?_
  refine va_put (D := D) (ci := 6) (v := .int 0) (ty := .int) (C := RX6) (T := TX6) (N := 10) hx hb hts wc_X6_load_ok_X6 tyX6 tyX6_ok nmX6 hown hK hP hD hS 0 rfl rfl 0 (by decide) (hts _ wd_X6_load_ok_1) (fun _ h9 => h9) rfl (by decide +kernel) rfl rfl (Nat.le_of_ble_eq_true rfl) dX6_load_2 (fun H locs hP hD hS => ?_)
  have hP : va_P D vwCl [(mo, .inr (6, [.int 0, .int (nI nb), .int (nI nq), .int (nI nr), .ref m4, .ref m5, .ref m6, .ref m7, .ref m8, .ref m9])), (m7, .inl (cI, 300, .inl (enS Q))), (m8, .inl (cI, 6, .inl (enB ca we))), (m9, .inl (cI, 3, .inl (enN day co nw)))] H := hP
  have hD : va_D A [(mo, .inr (6, [.int 0, .int (nI nb), .int (nI nq), .int (nI nr), .ref m4, .ref m5, .ref m6, .ref m7, .ref m8, .ref m9])), (m7, .inl (cI, 300, .inl (enS Q))), (m8, .inl (cI, 6, .inl (enB ca we))), (m9, .inl (cI, 3, .inl (enN day co nw)))] := hD
  refine lv_aload_n hx hb dX6_load_5 rfl (lv_at hl 0 rfl) ?_
  refine lv_iload_n hx hb dX6_load_6 rfl (lv_at hl 1 rfl) ?_
  refine va_calli (va_runV (As := [.int (nI k)]) (rest := []) ⟨hx, hb, hml, hown, hts⟩ (met_X6_isWheel l D cI cZ cL mo m4 m5 m6 m7 m8 m9 0 nb nq nr day co nw (nI k) (by first | assumption | omega)) (cwV 1 hts gX6_load_X6_isWheel rfl rfl rfl (by decide +kernel) ⟨Nat.le_of_ble_eq_true rfl, Nat.le_of_ble_eq_true rfl⟩) (gw_pvr hK hP (wc := [(mo, .inr (6, [.int 0, .int (nI nb), .int (nI nq), .int (nI nr), .ref m4, .ref m5, .ref m6, .ref m7, .ref m8, .ref m9])), (m9, .inl (cI, 3, .inl (enN day co nw)))]) [0, 3] rfl 6 rfl rfl rfl) rfl rfl hl.1 rfl (lv_room (Nat.le_of_ble_eq_true rfl)) dX6_load_7 ⟨Nat.zero_le _, Nat.zero_le _⟩) hS (fun _ _ z => z.elim) (fun _ z => z.elim) (fun r_2 _ t H1 locs ht hvm hw hB hz1 hk1 hS => ?_)
  have hP := gw_ro hP hk1
  generalize H1 = H at hP hS ⊢
  rcases hw with ⟨rfl, hc⟩ | ⟨rfl, hc⟩
  · skip
    refine lv_if_eq (tgt := 21) hx hb dX6_load_10 (by decide) (fun c_4 => False.elim (by revert c_4; decide)) (fun _ => ?_)
    refine lv_aload_n hx hb dX6_load_13 rfl (lv_at hl 0 rfl) ?_
    refine lv_iload_n hx hb dX6_load_14 rfl (lv_at hl 2 rfl) ?_
    refine va_calli (va_runV (As := [.int (nI r)]) (rest := []) ⟨hx, hb, hml, hown, hts⟩ (met_X6_isRaft l D cI cZ cL mo m4 m5 m6 m7 m8 m9 0 nb nq nr (nI r) (by first | assumption | omega)) (cwV 1 hts gX6_load_X6_isRaft rfl rfl rfl (by decide +kernel) ⟨Nat.le_of_ble_eq_true rfl, Nat.le_of_ble_eq_true rfl⟩) (gw_pvr hK hP (wc := [(mo, .inr (6, [.int 0, .int (nI nb), .int (nI nq), .int (nI nr), .ref m4, .ref m5, .ref m6, .ref m7, .ref m8, .ref m9]))]) [0] rfl 6 rfl rfl rfl) rfl rfl hl.1 rfl (lv_room (Nat.le_of_ble_eq_true rfl)) dX6_load_15 ⟨Nat.zero_le _, Nat.zero_le _⟩) hS (fun _ _ z => z.elim) (fun _ z => z.elim) (fun r_6 _ t H1 locs ht hvm hw hB hz1 hk1 hS => ?_)
    have hP := gw_ro hP hk1
    generalize H1 = H at hP hS ⊢
    rcases hw with ⟨rfl, hc⟩ | ⟨rfl, hc⟩
    · skip
      refine lv_if_ne (tgt := 27) hx hb dX6_load_18 (by decide) (fun _ => ?_) (fun c_8 => False.elim (by revert c_8; decide))
      refine lv_aload_n hx hb dX6_load_27 rfl (lv_at hl 0 rfl) ?_
      refine lv_iload_n hx hb dX6_load_28 rfl (lv_at hl 1 rfl) ?_
      refine lv_iconst (v := 2) hx hb dX6_load_29 (by decide) ?_
      refine va_calli (va_runV (As := [.int (nI k), .int 2]) (rest := []) ⟨hx, hb, hml, hown, hts⟩ (met_X6_st l D cI cZ cL mo m4 m5 m6 m7 m8 m9 0 nb nq nr (enS Q) k 2 (by first | assumption | omega) (by first | assumption | omega)) (cwV 2 hts gX6_load_X6_st rfl rfl rfl (by decide +kernel) ⟨Nat.le_of_ble_eq_true rfl, Nat.le_of_ble_eq_true rfl⟩) (gw_pvr hK hP (wc := [(mo, .inr (6, [.int 0, .int (nI nb), .int (nI nq), .int (nI nr), .ref m4, .ref m5, .ref m6, .ref m7, .ref m8, .ref m9])), (m7, .inl (cI, 300, .inl (enS Q)))]) [0, 1] rfl 6 rfl rfl rfl) rfl rfl hl.1 rfl (lv_room (Nat.le_of_ble_eq_true rfl)) dX6_load_30 ⟨Nat.zero_le _, Nat.zero_le _⟩) hS (fun _ _ z => z.elim) (fun _ z => z.elim) (fun r_10 _ t H1 locs ht hvm hw hB hz1 hk1 hS => ?_)
      have hP := gw_ro hP hk1
      generalize H1 = H at hP hS ⊢
      subst hw
      refine gw_top (y := Q 13 k) (enS_2 Q k) ?_
      refine lv_iconst (v := 1) hx hb dX6_load_33 (by decide) ?_
      refine lv_icmp_ne (tgt := 58) hx hb dX6_load_34 (by decide) (fun c_11 => (by first | exact absurd c_11 (fun hh => hh hst) | exact absurd (fun hh => hh hst) c_11)) (fun c_11 => ?_)
      refine lv_aload_n hx hb dX6_load_37 rfl (lv_at hl 0 rfl) ?_
      refine lv_iload_n hx hb dX6_load_38 rfl (lv_at hl 2 rfl) ?_
      refine va_calli (va_runV (As := [.int (nI r)]) (rest := []) ⟨hx, hb, hml, hown, hts⟩ (met_X6_isAway l D cI cZ cL mo m4 m5 m6 m7 m8 m9 0 nb nq nr ca we r (by first | assumption | omega)) (cwV 1 hts gX6_load_X6_isAway rfl rfl rfl (by decide +kernel) ⟨Nat.le_of_ble_eq_true rfl, Nat.le_of_ble_eq_true rfl⟩) (gw_pvr hK hP (wc := [(mo, .inr (6, [.int 0, .int (nI nb), .int (nI nq), .int (nI nr), .ref m4, .ref m5, .ref m6, .ref m7, .ref m8, .ref m9])), (m8, .inl (cI, 6, .inl (enB ca we)))]) [0, 2] rfl 6 rfl rfl rfl) rfl rfl hl.1 rfl (lv_room (Nat.le_of_ble_eq_true rfl)) dX6_load_39 ⟨Nat.zero_le _, Nat.zero_le _⟩) hS (fun _ _ z => z.elim) (fun _ z => z.elim) (fun r_13 _ t H1 locs ht hvm hw hB hz1 hk1 hS => ?_)
      have hP := gw_ro hP hk1
      generalize H1 = H at hP hS ⊢
      rcases hw with ⟨rfl, hc⟩ | ⟨rfl, hc⟩
      · skip
        exact absurd haw hc
      · skip
        refine lv_if_ne (tgt := 58) hx hb dX6_load_42 (by decide) (fun c_15 => False.elim (by revert c_15; decide)) (fun _ => ?_)
        refine lv_aload_n hx hb dX6_load_45 rfl (lv_at hl 0 rfl) ?_
        refine lv_iload_n hx hb dX6_load_46 rfl (lv_at hl 1 rfl) ?_
        refine va_calli (va_runV (As := [.int (nI k)]) (rest := []) ⟨hx, hb, hml, hown, hts⟩ (met_X6_weight l D cI cZ cL mo m4 m5 m6 m7 m8 m9 0 nb nq nr Q k (by first | assumption | omega)) (cwV 1 hts gX6_load_X6_weight rfl rfl rfl (by decide +kernel) ⟨Nat.le_of_ble_eq_true rfl, Nat.le_of_ble_eq_true rfl⟩) (gw_pvr hK hP (wc := [(mo, .inr (6, [.int 0, .int (nI nb), .int (nI nq), .int (nI nr), .ref m4, .ref m5, .ref m6, .ref m7, .ref m8, .ref m9])), (m7, .inl (cI, 300, .inl (enS Q)))]) [0, 1] rfl 6 rfl rfl rfl) rfl rfl hl.1 rfl (lv_room (Nat.le_of_ble_eq_true rfl)) dX6_load_47 ⟨Nat.zero_le _, Nat.zero_le _⟩) hS (fun _ _ z => z.elim) (fun _ z => z.elim) (fun r_17 _ t H1 locs ht hvm hw hB hz1 hk1 hS => ?_)
        have hP := gw_ro hP hk1
        generalize H1 = H at hP hS ⊢
        subst hw
        refine lv_aload_n hx hb dX6_load_50 rfl (lv_at hl 0 rfl) ?_
        refine lv_iload_n hx hb dX6_load_51 rfl (lv_at hl 2 rfl) ?_
        refine va_calli (va_runV (As := [.int (nI r)]) (rest := [.int (2 * Q 11 k * Q 11 k)]) ⟨hx, hb, hml, hown, hts⟩ (met_X6_left l D cI cZ cL mo m4 m5 m6 m7 m8 m9 0 nb nq nr Q day co nw ca we r (by first | assumption | omega) (by first | assumption | omega) (by first | assumption | omega)) (cwV 1 hts gX6_load_X6_left rfl rfl rfl (by decide +kernel) ⟨Nat.le_of_ble_eq_true rfl, Nat.le_of_ble_eq_true rfl⟩) (gw_pvr hK hP (wc := [(mo, .inr (6, [.int 0, .int (nI nb), .int (nI nq), .int (nI nr), .ref m4, .ref m5, .ref m6, .ref m7, .ref m8, .ref m9])), (m7, .inl (cI, 300, .inl (enS Q))), (m8, .inl (cI, 6, .inl (enB ca we))), (m9, .inl (cI, 3, .inl (enN day co nw)))]) [0, 1, 2, 3] rfl 6 rfl rfl rfl) rfl rfl hl.1 rfl (lv_room (Nat.le_of_ble_eq_true rfl)) dX6_load_52 ⟨Nat.zero_le _, Nat.zero_le _⟩) hS (fun _ _ z => z.elim) (fun _ z => z.elim) (fun r_19 _ t H1 locs ht hvm hw hB hz1 hk1 hS => ?_)
        have hP := gw_ro hP hk1
        generalize H1 = H at hP hS ⊢
        subst hw
        refine lv_icmp_le (tgt := 64) hx hb dX6_load_55 (by decide) (fun c_20 => ?_) (fun c_20 => (by first | exact absurd c_20 hle | exact absurd hle c_20))
        refine lv_aload_n hx hb dX6_load_64 rfl (lv_at hl 0 rfl) ?_
        refine va_get (D := D) (ci := 6) (v := .ref m7) (C := RX6) (T := TX6) (N := 10) hx hb hts wc_X6_load_ok_X6 hown hK hP 0 rfl rfl 7 (by decide) (hts _ wd_X6_load_ok_2) (fun _ h9 => h9) rfl dX6_load_65 ?_
        refine lv_iconst (v := 5) hx hb dX6_load_68 (by decide) ?_
        refine lv_iload_n hx hb dX6_load_69 rfl (lv_at hl 1 rfl) ?_
        refine lv_imul hx hb dX6_load_70 ?_
        refine gw_top (y := nI (5 * k)) (nI_mul 5 k) ?_
        refine lv_iconst (v := 2) hx hb dX6_load_71 (by decide) ?_
        refine lv_iadd hx hb dX6_load_72 ?_
        refine gw_top (y := nI ((5 * k) + 2)) (nI_add (5 * k) 2) ?_
        refine lv_iconst (v := 2) hx hb dX6_load_73 (by decide) ?_
        refine gw_iast hx hb hK hP hD hS 1 0 (k := (5 * k) + 2) rfl rfl (by omega) (by decide) dX6_load_74 (fun H locs hP hD hS => ?_)
        have hP : va_P D vwCl [(mo, .inr (6, [.int 0, .int (nI nb), .int (nI nq), .int (nI nr), .ref m4, .ref m5, .ref m6, .ref m7, .ref m8, .ref m9])), (m7, .inl (cI, 300, .inl (upd (enS Q) ((5 * k) + 2) 2))), (m8, .inl (cI, 6, .inl (enB ca we))), (m9, .inl (cI, 3, .inl (enN day co nw)))] H := hP
        have hD : va_D A [(mo, .inr (6, [.int 0, .int (nI nb), .int (nI nq), .int (nI nr), .ref m4, .ref m5, .ref m6, .ref m7, .ref m8, .ref m9])), (m7, .inl (cI, 300, .inl (upd (enS Q) ((5 * k) + 2) 2))), (m8, .inl (cI, 6, .inl (enB ca we))), (m9, .inl (cI, 3, .inl (enN day co nw)))] := hD
        refine lv_aload_n hx hb dX6_load_75 rfl (lv_at hl 0 rfl) ?_
        refine va_get (D := D) (ci := 6) (v := .ref m7) (C := RX6) (T := TX6) (N := 10) hx hb hts wc_X6_load_ok_X6 hown hK hP 0 rfl rfl 7 (by decide) (hts _ wd_X6_load_ok_2) (fun _ h9 => h9) rfl dX6_load_76 ?_
        refine lv_iconst (v := 5) hx hb dX6_load_79 (by decide) ?_
        refine lv_iload_n hx hb dX6_load_80 rfl (lv_at hl 1 rfl) ?_
        refine lv_imul hx hb dX6_load_81 ?_
        refine gw_top (y := nI (5 * k)) (nI_mul 5 k) ?_
        refine lv_iconst (v := 3) hx hb dX6_load_82 (by decide) ?_
        refine lv_iadd hx hb dX6_load_83 ?_
        refine gw_top (y := nI ((5 * k) + 3)) (nI_add (5 * k) 3) ?_
        refine lv_iload_n hx hb dX6_load_84 rfl (lv_at hl 2 rfl) ?_
        refine gw_iast hx hb hK hP hD hS 1 0 (k := (5 * k) + 3) rfl rfl (by omega) (by decide) dX6_load_85 (fun H locs hP hD hS => ?_)
        have hP : va_P D vwCl [(mo, .inr (6, [.int 0, .int (nI nb), .int (nI nq), .int (nI nr), .ref m4, .ref m5, .ref m6, .ref m7, .ref m8, .ref m9])), (m7, .inl (cI, 300, .inl (upd (upd (enS Q) ((5 * k) + 2) 2) ((5 * k) + 3) (nI r)))), (m8, .inl (cI, 6, .inl (enB ca we))), (m9, .inl (cI, 3, .inl (enN day co nw)))] H := hP
        have hD : va_D A [(mo, .inr (6, [.int 0, .int (nI nb), .int (nI nq), .int (nI nr), .ref m4, .ref m5, .ref m6, .ref m7, .ref m8, .ref m9])), (m7, .inl (cI, 300, .inl (upd (upd (enS Q) ((5 * k) + 2) 2) ((5 * k) + 3) (nI r)))), (m8, .inl (cI, 6, .inl (enB ca we))), (m9, .inl (cI, 3, .inl (enN day co nw)))] := hD
        have hw_21 : upd (upd (enS Q) ((5 * k) + 2) 2) ((5 * k) + 3) (nI r) = enS (gPut Q k r) := (enS_put Q k r)
        rw [hw_21] at hP hD
        refine lv_aload_n hx hb dX6_load_86 rfl (lv_at hl 0 rfl) ?_
        refine lv_iload_n hx hb dX6_load_87 rfl (lv_at hl 2 rfl) ?_
        refine va_calli (va_runV (As := [.int (nI r)]) (rest := []) ⟨hx, hb, hml, hown, hts⟩ (met_X6_left l D cI cZ cL mo m4 m5 m6 m7 m8 m9 0 nb nq nr (gPut Q k r) day co nw ca we r (by first | assumption | omega) (by first | assumption | omega) (gPut_car hcar)) (cwV 1 hts gX6_load_X6_left rfl rfl rfl (by decide +kernel) ⟨Nat.le_of_ble_eq_true rfl, Nat.le_of_ble_eq_true rfl⟩) (gw_pvr hK hP (wc := [(mo, .inr (6, [.int 0, .int (nI nb), .int (nI nq), .int (nI nr), .ref m4, .ref m5, .ref m6, .ref m7, .ref m8, .ref m9])), (m7, .inl (cI, 300, .inl (enS (gPut Q k r)))), (m8, .inl (cI, 6, .inl (enB ca we))), (m9, .inl (cI, 3, .inl (enN day co nw)))]) [0, 1, 2, 3] rfl 6 rfl rfl rfl) rfl rfl hl.1 rfl (lv_room (Nat.le_of_ble_eq_true rfl)) dX6_load_88 ⟨Nat.zero_le _, Nat.zero_le _⟩) hS (fun _ _ z => z.elim) (fun _ z => z.elim) (fun r_23 _ t H1 locs ht hvm hw hB hz1 hk1 hS => ?_)
        have hP := gw_ro hP hk1
        generalize H1 = H at hP hS ⊢
        subst hw
        subst hAe
        exact W.iret (v := gStill (gPut Q k r) nw ca r) hx hb hr (fun t ht hW => ⟨⟨_, (), rfl, rfl, gw_hh ht hP⟩, hS.F ht⟩) hS.2.2 dX6_load_91
    · skip
      exact absurd ⟨r, hr2, rfl⟩ hc
  · skip
    exact absurd ⟨k, hk, rfl⟩ hc

theorem wc_X6_ship_ok_X6 : ∀ w ∈ u_ws RX6 TX6 10, w ∈ wsX6_ship := by decide +kernel
theorem wd_X6_ship_ok_1 : (.fieldLink RX6 28 "GritWheelsModel" "thrown" "I" : Cond) ∈ wsX6_ship := by decide +kernel
theorem wd_X6_ship_ok_2 : (.fieldLink RX6 25 "GritWheelsModel" "numbers" "[I" : Cond) ∈ wsX6_ship := by decide +kernel
theorem wd_X6_ship_ok_3 : (.fieldLink RX6 22 "GritWheelsModel" "boats" "[I" : Cond) ∈ wsX6_ship := by decide +kernel
theorem wd_X6_ship_ok_4 : (.fieldLink RX6 19 "GritWheelsModel" "stones" "[I" : Cond) ∈ wsX6_ship := by decide +kernel
set_option maxHeartbeats 4000000 in
set_option maxRecDepth 100000 in
theorem met_X6_ship_ok (l : Launch) (D : va_G) (cI cZ cL : ClassId) (mo : Nat) (m4 : Nat) (m5 : Nat) (m6 : Nat) (m7 : Nat) (m8 : Nat) (m9 : Nat) (th : Int32) (nb : Nat) (nq : Nat) (nr : Nat) (Q : Nat → Nat → Int32) (day : Nat) (co : Int32) (nw : Nat) (ca : Nat → Int32) (we : Nat → Int32) (r : Nat) (hr2 : r < nr) (hnr : nr ≤ 3) (hd : day < 2 ^ 31) (hnw : nw ≤ 60) (hnb : nb ≤ 5) (hof : gOf Q nb nw) (hz : ∀ j, Q 12 j = 0 ∨ Q 12 j = 1) (hcar : ∀ w, w < nw → Q 14 w = -1 ∨ Q 13 w = 2) (haw : we r = -1) (hon : ¬ gOn Q nw r = 0) (hwa : 2 ≤ Q 0 (day % 9)) : Met l yX6_ship wsX6_ship ({ frames := 3, cells := 0, slots := 0, locals := 67 }) (gPw [.ref mo, .int (nI r)] D [(mo, .inr (6, [.int th, .int (nI nb), .int (nI nq), .int (nI nr), .ref m4, .ref m5, .ref m6, .ref m7, .ref m8, .ref m9])), (m4, .inl (cI, 9, .inl (Q 0))), (m5, .inl (cI, 20, .inl (enR Q))), (m7, .inl (cI, 300, .inl (enS Q))), (m8, .inl (cI, 6, .inl (enB ca we))), (m9, .inl (cI, 3, .inl (enN day co nw)))] (gT cI cZ cL)) (va_Qi (fun (zr : Int32) (_ : Unit) => zr = gS (fun j => if Q 14 j = nI r then gWorth (Q 11 j) (Q 10 j) (Q 13 j) (Q 12 j) else 0) nw 0 0) (fun _ t => va_P D vwCl [(mo, .inr (6, [.int 0, .int (nI nb), .int (nI nq), .int (nI nr), .ref m4, .ref m5, .ref m6, .ref m7, .ref m8, .ref m9])), (m4, .inl (cI, 9, .inl (Q 0))), (m5, .inl (cI, 20, .inl (enR (gShip Q r nw)))), (m7, .inl (cI, 300, .inl (enS (gShip Q r nw)))), (m8, .inl (cI, 6, .inl (enB ca (upd we r (nI day))))), (m9, .inl (cI, 3, .inl (enN day (co + gS (fun j => if Q 14 j = nI r then gWorth (Q 11 j) (Q 10 j) (Q 13 j) (Q 12 j) else 0) nw 0 0) nw)))] t.heap) (gA (gL [(mo, .inr (6, [.int th, .int (nI nb), .int (nI nq), .int (nI nr), .ref m4, .ref m5, .ref m6, .ref m7, .ref m8, .ref m9])), (m4, .inl (cI, 9, .inl (Q 0))), (m5, .inl (cI, 20, .inl (enR Q))), (m7, .inl (cI, 300, .inl (enS Q))), (m8, .inl (cI, 6, .inl (enB ca we))), (m9, .inl (cI, 3, .inl (enN day co nw)))]))) 0 0 (gA (gL [(mo, .inr (6, [.int th, .int (nI nb), .int (nI nq), .int (nI nr), .ref m4, .ref m5, .ref m6, .ref m7, .ref m8, .ref m9])), (m4, .inl (cI, 9, .inl (Q 0))), (m5, .inl (cI, 20, .inl (enR Q))), (m7, .inl (cI, 300, .inl (enS Q))), (m8, .inl (cI, 6, .inl (enB ca we))), (m9, .inl (cI, 3, .inl (enN day co nw)))])) := by
  refine Met.ofW (cc := cX6_ship) (maxL := 4) (ret := (some .int)) (by decide +kernel) rfl ?_
  intro p e s m args below meth c s₁ B hml hv
  obtain ⟨rfl, hP, hK, hD0⟩ := hv
  have hx := B.exec
  have hb := B.bytes
  have hr := B.returns
  have hts := atoms_spec (ws := wsX6_ship) B.pre
  have hown : s.vm.findClass RX6 = some m.cls := findClass_of_methodNamed B.named
  have hlocks := B.notSynchronized
  have hD := gw_self hD0
  generalize hAe : gA (gL [(mo, .inr (6, [.int th, .int (nI nb), .int (nI nq), .int (nI nr), .ref m4, .ref m5, .ref m6, .ref m7, .ref m8, .ref m9])), (m4, .inl (cI, 9, .inl (Q 0))), (m5, .inl (cI, 20, .inl (enR Q))), (m7, .inl (cI, 300, .inl (enS Q))), (m8, .inl (cI, 6, .inl (enB ca we))), (m9, .inl (cI, 3, .inl (enN day co nw)))]) = A at hD ⊢
  have hS : va_S A s.heap s.heap [] := va_S.rf
  have hP : va_P D vwCl [(mo, .inr (6, [.int th, .int (nI nb), .int (nI nq), .int (nI nr), .ref m4, .ref m5, .ref m6, .ref m7, .ref m8, .ref m9])), (m4, .inl (cI, 9, .inl (Q 0))), (m5, .inl (cI, 20, .inl (enR Q))), (m7, .inl (cI, 300, .inl (enS Q))), (m8, .inl (cI, 6, .inl (enB ca we))), (m9, .inl (cI, 3, .inl (enN day co nw)))] s.heap := hP
  have hl := lv_entry ([.ref mo, .int (nI r)]) (n := 4) (Nat.le_of_ble_eq_true rfl)
  rw [lg_entry_eq]
  generalize (lg_sl ([.ref mo, .int (nI r)]) ++ List.replicate (4 - (lg_sl ([.ref mo, .int (nI r)])).length) Slot.unset).toArray = ls at hl ⊢
  have hl : lv_has ls 4 [(0, .ref mo), (1, .int (nI r))] := hl
  refine lv_aload_n hx hb dX6_ship_0 rfl (lv_at hl 0 rfl) ?_
  refine lv_iconst (v := 0) hx hb dX6_ship_1 (by decide) ?_
  refine va_put (D := D) (ci := 6) (v := .int 0) (ty := .int) (C := RX6) (T := TX6) (N := 10) hx hb hts wc_X6_ship_ok_X6 tyX6 tyX6_ok nmX6 hown hK hP hD hS 0 rfl rfl 0 (by decide) (hts _ wd_X6_ship_ok_1) (fun _ h9 => h9) rfl (by decide +kernel) rfl rfl (Nat.le_of_ble_eq_true rfl) dX6_ship_2 (fun H locs hP hD hS => ?_)
  have hP : va_P D vwCl [(mo, .inr (6, [.int 0, .int (nI nb), .int (nI nq), .int (nI nr), .ref m4, .ref m5, .ref m6, .ref m7, .ref m8, .ref m9])), (m4, .inl (cI, 9, .inl (Q 0))), (m5, .inl (cI, 20, .inl (enR Q))), (m7, .inl (cI, 300, .inl (enS Q))), (m8, .inl (cI, 6, .inl (enB ca we))), (m9, .inl (cI, 3, .inl (enN day co nw)))] H := hP
  have hD : va_D A [(mo, .inr (6, [.int 0, .int (nI nb), .int (nI nq), .int (nI nr), .ref m4, .ref m5, .ref m6, .ref m7, .ref m8, .ref m9])), (m4, .inl (cI, 9, .inl (Q 0))), (m5, .inl (cI, 20, .inl (enR Q))), (m7, .inl (cI, 300, .inl (enS Q))), (m8, .inl (cI, 6, .inl (enB ca we))), (m9, .inl (cI, 3, .inl (enN day co nw)))] := hD
  refine lv_aload_n hx hb dX6_ship_5 rfl (lv_at hl 0 rfl) ?_
  refine lv_iload_n hx hb dX6_ship_6 rfl (lv_at hl 1 rfl) ?_
  refine va_calli (va_runV (As := [.int (nI r)]) (rest := []) ⟨hx, hb, hml, hown, hts⟩ (met_X6_isRaft l D cI cZ cL mo m4 m5 m6 m7 m8 m9 0 nb nq nr (nI r) (by first | assumption | omega)) (cwV 1 hts gX6_ship_X6_isRaft rfl rfl rfl (by decide +kernel) ⟨Nat.le_of_ble_eq_true rfl, Nat.le_of_ble_eq_true rfl⟩) (gw_pvr hK hP (wc := [(mo, .inr (6, [.int 0, .int (nI nb), .int (nI nq), .int (nI nr), .ref m4, .ref m5, .ref m6, .ref m7, .ref m8, .ref m9]))]) [0] rfl 6 rfl rfl rfl) rfl rfl hl.1 rfl (lv_room (Nat.le_of_ble_eq_true rfl)) dX6_ship_7 ⟨Nat.zero_le _, Nat.zero_le _⟩) hS (fun _ _ z => z.elim) (fun _ z => z.elim) (fun r_2 _ t H1 locs ht hvm hw hB hz1 hk1 hS => ?_)
  have hP := gw_ro hP hk1
  generalize H1 = H at hP hS ⊢
  rcases hw with ⟨rfl, hc⟩ | ⟨rfl, hc⟩
  · skip
    refine lv_if_ne (tgt := 19) hx hb dX6_ship_10 (by decide) (fun _ => ?_) (fun c_4 => False.elim (by revert c_4; decide))
    refine lv_aload_n hx hb dX6_ship_19 rfl (lv_at hl 0 rfl) ?_
    refine lv_iload_n hx hb dX6_ship_20 rfl (lv_at hl 1 rfl) ?_
    refine va_calli (va_runV (As := [.int (nI r)]) (rest := []) ⟨hx, hb, hml, hown, hts⟩ (met_X6_isAway l D cI cZ cL mo m4 m5 m6 m7 m8 m9 0 nb nq nr ca we r (by first | assumption | omega)) (cwV 1 hts gX6_ship_X6_isAway rfl rfl rfl (by decide +kernel) ⟨Nat.le_of_ble_eq_true rfl, Nat.le_of_ble_eq_true rfl⟩) (gw_pvr hK hP (wc := [(mo, .inr (6, [.int 0, .int (nI nb), .int (nI nq), .int (nI nr), .ref m4, .ref m5, .ref m6, .ref m7, .ref m8, .ref m9])), (m8, .inl (cI, 6, .inl (enB ca we)))]) [0, 4] rfl 6 rfl rfl rfl) rfl rfl hl.1 rfl (lv_room (Nat.le_of_ble_eq_true rfl)) dX6_ship_21 ⟨Nat.zero_le _, Nat.zero_le _⟩) hS (fun _ _ z => z.elim) (fun _ z => z.elim) (fun r_6 _ t H1 locs ht hvm hw hB hz1 hk1 hS => ?_)
    have hP := gw_ro hP hk1
    generalize H1 = H at hP hS ⊢
    rcases hw with ⟨rfl, hc⟩ | ⟨rfl, hc⟩
    · skip
      exact absurd haw hc
    · skip
      refine lv_if_ne (tgt := 43) hx hb dX6_ship_24 (by decide) (fun c_8 => False.elim (by revert c_8; decide)) (fun _ => ?_)
      refine lv_aload_n hx hb dX6_ship_27 rfl (lv_at hl 0 rfl) ?_
      refine lv_iload_n hx hb dX6_ship_28 rfl (lv_at hl 1 rfl) ?_
      refine va_calli (va_runV (As := [.int (nI r)]) (rest := []) ⟨hx, hb, hml, hown, hts⟩ (met_X6_upon l D cI cZ cL mo m4 m5 m6 m7 m8 m9 0 nb nq nr Q day co nw r (by first | assumption | omega) (by first | assumption | omega) (by first | assumption | omega)) (cwV 1 hts gX6_ship_X6_upon rfl rfl rfl (by decide +kernel) ⟨Nat.le_of_ble_eq_true rfl, Nat.le_of_ble_eq_true rfl⟩) (gw_pvr hK hP (wc := [(mo, .inr (6, [.int 0, .int (nI nb), .int (nI nq), .int (nI nr), .ref m4, .ref m5, .ref m6, .ref m7, .ref m8, .ref m9])), (m7, .inl (cI, 300, .inl (enS Q))), (m9, .inl (cI, 3, .inl (enN day co nw)))]) [0, 3, 5] rfl 6 rfl rfl rfl) rfl rfl hl.1 rfl (lv_room (Nat.le_of_ble_eq_true rfl)) dX6_ship_29 ⟨Nat.zero_le _, Nat.zero_le _⟩) hS (fun _ _ z => z.elim) (fun _ z => z.elim) (fun r_10 _ t H1 locs ht hvm hw hB hz1 hk1 hS => ?_)
      have hP := gw_ro hP hk1
      generalize H1 = H at hP hS ⊢
      subst hw
      refine lv_if_eq (tgt := 43) hx hb dX6_ship_32 (by decide) (fun c_11 => (by first | exact absurd c_11 hon | exact absurd hon c_11)) (fun c_11 => ?_)
      refine lv_aload_n hx hb dX6_ship_35 rfl (lv_at hl 0 rfl) ?_
      refine va_calli (va_runV (As := []) (rest := []) ⟨hx, hb, hml, hown, hts⟩ (met_X6_water l D cI cZ cL mo m4 m5 m6 m7 m8 m9 0 nb nq nr Q day co nw (by first | assumption | omega)) (cwV 0 hts gX6_ship_X6_water rfl rfl rfl (by decide +kernel) ⟨Nat.le_of_ble_eq_true rfl, Nat.le_of_ble_eq_true rfl⟩) (gw_pvr hK hP (wc := [(mo, .inr (6, [.int 0, .int (nI nb), .int (nI nq), .int (nI nr), .ref m4, .ref m5, .ref m6, .ref m7, .ref m8, .ref m9])), (m4, .inl (cI, 9, .inl (Q 0))), (m9, .inl (cI, 3, .inl (enN day co nw)))]) [0, 1, 5] rfl 6 rfl rfl rfl) rfl rfl hl.1 rfl (lv_room (Nat.le_of_ble_eq_true rfl)) dX6_ship_36 ⟨Nat.zero_le _, Nat.zero_le _⟩) hS (fun _ _ z => z.elim) (fun _ z => z.elim) (fun r_13 _ t H1 locs ht hvm hw hB hz1 hk1 hS => ?_)
      have hP := gw_ro hP hk1
      generalize H1 = H at hP hS ⊢
      subst hw
      refine lv_iconst (v := 2) hx hb dX6_ship_39 (by decide) ?_
      refine lv_icmp_ge (tgt := 49) hx hb dX6_ship_40 (by decide) (fun c_14 => ?_) (fun c_14 => (by first | exact absurd c_14 hwa | exact absurd hwa c_14))
      refine lv_iconst (v := 0) hx hb dX6_ship_49 (by decide) ?_
      refine lv_istore_n (lv' := [(2, .int 0), (0, .ref mo), (1, .int (nI r))]) hx hb dX6_ship_50 rfl hl (by decide) rfl (fun ls hl => ?_)
      refine lv_iconst (v := 0) hx hb dX6_ship_51 (by decide) ?_
      refine lv_istore_n (lv' := [(3, .int 0), (2, .int 0), (0, .ref mo), (1, .int (nI r))]) hx hb dX6_ship_52 rfl hl (by decide) rfl (fun ls hl => ?_)
      have hw_15 : enR Q = enR (gShip Q r 0) := (enR_ext rfl rfl rfl rfl)
      rw [hw_15] at hP hD
      have hw_16 : enS Q = enS (gShip Q r 0) := (enS_ext rfl rfl (gM_0 (F := fun j => if Q 14 j = nI r then 3 else Q 13 j)).symm (gM_0 (F := fun j => if Q 14 j = nI r then (-1) else Q 14 j)).symm rfl)
      rw [hw_16] at hP hD
      refine gw_loop (fun (zz : Nat × Nat × Int32) H locs ls => match zz with | (kf, i, acc) => va_P D vwCl [(mo, .inr (6, [.int 0, .int (nI nb), .int (nI nq), .int (nI nr), .ref m4, .ref m5, .ref m6, .ref m7, .ref m8, .ref m9])), (m4, .inl (cI, 9, .inl (Q 0))), (m5, .inl (cI, 20, .inl (enR (gShip Q r i)))), (m7, .inl (cI, 300, .inl (enS (gShip Q r i)))), (m8, .inl (cI, 6, .inl (enB ca we))), (m9, .inl (cI, 3, .inl (enN day co nw)))] H ∧ va_D A [(mo, .inr (6, [.int 0, .int (nI nb), .int (nI nq), .int (nI nr), .ref m4, .ref m5, .ref m6, .ref m7, .ref m8, .ref m9])), (m4, .inl (cI, 9, .inl (Q 0))), (m5, .inl (cI, 20, .inl (enR (gShip Q r i)))), (m7, .inl (cI, 300, .inl (enS (gShip Q r i)))), (m8, .inl (cI, 6, .inl (enB ca we))), (m9, .inl (cI, 3, .inl (enN day co nw)))] ∧ va_S A s.heap H locs ∧ lv_has ls 4 [(3, .int (nI i)), (2, .int acc), (0, .ref mo), (1, .int (nI r))] ∧ (i + kf = nw) ∧ (gS (fun j => if Q 14 j = nI r then gWorth (Q 11 j) (Q 10 j) (Q 13 j) (Q 12 j) else 0) kf i acc = gS (fun j => if Q 14 j = nI r then gWorth (Q 11 j) (Q 10 j) (Q 13 j) (Q 12 j) else 0) nw 0 0)) (fun (zz : Nat × Nat × Int32) => match zz with | (kf, i, acc) => kf) (nw, 0, 0) ⟨hP, hD, hS, lv_sub hl [0, 1, 2, 3] rfl, (by omega), rfl⟩ ?_
      rintro ⟨kf, i, acc⟩ ih H locs ls ⟨hP, hD, hS, hl, hin, hF⟩
      have hP : va_P D vwCl [(mo, .inr (6, [.int 0, .int (nI nb), .int (nI nq), .int (nI nr), .ref m4, .ref m5, .ref m6, .ref m7, .ref m8, .ref m9])), (m4, .inl (cI, 9, .inl (Q 0))), (m5, .inl (cI, 20, .inl (enR (gShip Q r i)))), (m7, .inl (cI, 300, .inl (enS (gShip Q r i)))), (m8, .inl (cI, 6, .inl (enB ca we))), (m9, .inl (cI, 3, .inl (enN day co nw)))] H := hP
      have hD : va_D A [(mo, .inr (6, [.int 0, .int (nI nb), .int (nI nq), .int (nI nr), .ref m4, .ref m5, .ref m6, .ref m7, .ref m8, .ref m9])), (m4, .inl (cI, 9, .inl (Q 0))), (m5, .inl (cI, 20, .inl (enR (gShip Q r i)))), (m7, .inl (cI, 300, .inl (enS (gShip Q r i)))), (m8, .inl (cI, 6, .inl (enB ca we))), (m9, .inl (cI, 3, .inl (enN day co nw)))] := hD
      have hl : lv_has ls 4 [(3, .int (nI i)), (2, .int acc), (0, .ref mo), (1, .int (nI r))] := hl
      have hin : i + kf = nw := hin
      have hF : gS (fun j => if Q 14 j = nI r then gWorth (Q 11 j) (Q 10 j) (Q 13 j) (Q 12 j) else 0) kf i acc = gS (fun j => if Q 14 j = nI r then gWorth (Q 11 j) (Q 10 j) (Q 13 j) (Q 12 j) else 0) nw 0 0 := hF
      have ih53 := ih
      refine lv_iload_n hx hb dX6_ship_53 rfl (lv_at hl 0 rfl) ?_
      refine lv_aload_n hx hb dX6_ship_54 rfl (lv_at hl 2 rfl) ?_
      refine va_get (D := D) (ci := 6) (v := .ref m9) (C := RX6) (T := TX6) (N := 10) hx hb hts wc_X6_ship_ok_X6 hown hK hP 0 rfl rfl 9 (by decide) (hts _ wd_X6_ship_ok_2) (fun _ h9 => h9) rfl dX6_ship_55 ?_
      refine lv_iconst (v := 2) hx hb dX6_ship_58 (by decide) ?_
      refine gw_top (y := nI 2) rfl ?_
      refine gw_iald hx hb hK hP 5 0 (k := 2) rfl rfl (by omega) (by decide) dX6_ship_59 ?_
      refine gw_top (y := nI nw) rfl ?_
      refine lv_icmp_ge (tgt := 111) hx hb dX6_ship_60 (by decide) (fun c => ?_) (fun c => ?_)
      · skip
        have hk0 : kf = 0 := by have := gw_ge (by omega) (by omega) c; omega
        subst hk0
        have hin2 : i = nw := by omega
        rw [hin2] at hP hD
        have hacc : acc = gS (fun j => if Q 14 j = nI r then gWorth (Q 11 j) (Q 10 j) (Q 13 j) (Q 12 j) else 0) nw 0 0 := hF
        refine lv_aload_n hx hb dX6_ship_111 rfl (lv_at hl 2 rfl) ?_
        refine va_get (D := D) (ci := 6) (v := .ref m9) (C := RX6) (T := TX6) (N := 10) hx hb hts wc_X6_ship_ok_X6 hown hK hP 0 rfl rfl 9 (by decide) (hts _ wd_X6_ship_ok_2) (fun _ h9 => h9) rfl dX6_ship_112 ?_
        refine lv_iconst (v := 1) hx hb dX6_ship_115 (by decide) ?_
        refine lv_dup2_11 hx hb dX6_ship_116 rfl rfl ?_
        refine gw_top (y := nI 1) rfl ?_
        refine gw_iald hx hb hK hP 5 0 (k := 1) rfl rfl (by omega) (by decide) dX6_ship_117 ?_
        refine gw_top (y := co) rfl ?_
        refine lv_iload_n hx hb dX6_ship_118 rfl (lv_at hl 1 rfl) ?_
        refine lv_iadd hx hb dX6_ship_119 ?_
        refine gw_top2 (y := nI 1) rfl ?_
        refine gw_iast hx hb hK hP hD hS 5 0 (k := 1) rfl rfl (by omega) (by decide) dX6_ship_120 (fun H locs hP hD hS => ?_)
        have hP : va_P D vwCl [(mo, .inr (6, [.int 0, .int (nI nb), .int (nI nq), .int (nI nr), .ref m4, .ref m5, .ref m6, .ref m7, .ref m8, .ref m9])), (m4, .inl (cI, 9, .inl (Q 0))), (m5, .inl (cI, 20, .inl (enR (gShip Q r nw)))), (m7, .inl (cI, 300, .inl (enS (gShip Q r nw)))), (m8, .inl (cI, 6, .inl (enB ca we))), (m9, .inl (cI, 3, .inl (upd (enN day co nw) 1 (co + acc))))] H := hP
        have hD : va_D A [(mo, .inr (6, [.int 0, .int (nI nb), .int (nI nq), .int (nI nr), .ref m4, .ref m5, .ref m6, .ref m7, .ref m8, .ref m9])), (m4, .inl (cI, 9, .inl (Q 0))), (m5, .inl (cI, 20, .inl (enR (gShip Q r nw)))), (m7, .inl (cI, 300, .inl (enS (gShip Q r nw)))), (m8, .inl (cI, 6, .inl (enB ca we))), (m9, .inl (cI, 3, .inl (upd (enN day co nw) 1 (co + acc))))] := hD
        have hw_18 : upd (enN day co nw) 1 (co + acc) = enN day (co + gS (fun j => if Q 14 j = nI r then gWorth (Q 11 j) (Q 10 j) (Q 13 j) (Q 12 j) else 0) nw 0 0) nw := ((enN_1 _ _ _ _).trans (by rw [hacc]))
        rw [hw_18] at hP hD
        refine lv_aload_n hx hb dX6_ship_121 rfl (lv_at hl 2 rfl) ?_
        refine va_get (D := D) (ci := 6) (v := .ref m8) (C := RX6) (T := TX6) (N := 10) hx hb hts wc_X6_ship_ok_X6 hown hK hP 0 rfl rfl 8 (by decide) (hts _ wd_X6_ship_ok_3) (fun _ h9 => h9) rfl dX6_ship_122 ?_
        refine lv_iconst (v := 2) hx hb dX6_ship_125 (by decide) ?_
        refine lv_iload_n hx hb dX6_ship_126 rfl (lv_at hl 3 rfl) ?_
        refine lv_imul hx hb dX6_ship_127 ?_
        refine gw_top (y := nI (2 * r)) (nI_mul 2 r) ?_
        refine lv_iconst (v := 1) hx hb dX6_ship_128 (by decide) ?_
        refine lv_iadd hx hb dX6_ship_129 ?_
        refine gw_top (y := nI ((2 * r) + 1)) (nI_add (2 * r) 1) ?_
        refine lv_aload_n hx hb dX6_ship_130 rfl (lv_at hl 2 rfl) ?_
        refine va_get (D := D) (ci := 6) (v := .ref m9) (C := RX6) (T := TX6) (N := 10) hx hb hts wc_X6_ship_ok_X6 hown hK hP 0 rfl rfl 9 (by decide) (hts _ wd_X6_ship_ok_2) (fun _ h9 => h9) rfl dX6_ship_131 ?_
        refine lv_iconst (v := 0) hx hb dX6_ship_134 (by decide) ?_
        refine gw_top (y := nI 0) rfl ?_
        refine gw_iald hx hb hK hP 5 0 (k := 0) rfl rfl (by omega) (by decide) dX6_ship_135 ?_
        refine gw_top (y := nI day) rfl ?_
        refine gw_iast hx hb hK hP hD hS 4 0 (k := (2 * r) + 1) rfl rfl (by omega) (by decide) dX6_ship_136 (fun H locs hP hD hS => ?_)
        have hP : va_P D vwCl [(mo, .inr (6, [.int 0, .int (nI nb), .int (nI nq), .int (nI nr), .ref m4, .ref m5, .ref m6, .ref m7, .ref m8, .ref m9])), (m4, .inl (cI, 9, .inl (Q 0))), (m5, .inl (cI, 20, .inl (enR (gShip Q r nw)))), (m7, .inl (cI, 300, .inl (enS (gShip Q r nw)))), (m8, .inl (cI, 6, .inl (upd (enB ca we) ((2 * r) + 1) (nI day)))), (m9, .inl (cI, 3, .inl (enN day (co + gS (fun j => if Q 14 j = nI r then gWorth (Q 11 j) (Q 10 j) (Q 13 j) (Q 12 j) else 0) nw 0 0) nw)))] H := hP
        have hD : va_D A [(mo, .inr (6, [.int 0, .int (nI nb), .int (nI nq), .int (nI nr), .ref m4, .ref m5, .ref m6, .ref m7, .ref m8, .ref m9])), (m4, .inl (cI, 9, .inl (Q 0))), (m5, .inl (cI, 20, .inl (enR (gShip Q r nw)))), (m7, .inl (cI, 300, .inl (enS (gShip Q r nw)))), (m8, .inl (cI, 6, .inl (upd (enB ca we) ((2 * r) + 1) (nI day)))), (m9, .inl (cI, 3, .inl (enN day (co + gS (fun j => if Q 14 j = nI r then gWorth (Q 11 j) (Q 10 j) (Q 13 j) (Q 12 j) else 0) nw 0 0) nw)))] := hD
        have hw_19 : upd (enB ca we) ((2 * r) + 1) (nI day) = enB ca (upd we r (nI day)) := (enB_p1 _ _ r _)
        rw [hw_19] at hP hD
        refine lv_iload_n hx hb dX6_ship_137 rfl (lv_at hl 1 rfl) ?_
        subst hAe
        exact W.iret (v := acc) hx hb hr (fun t ht hW => ⟨⟨_, (), rfl, hacc, gw_hh ht hP⟩, hS.F ht⟩) hS.2.2 dX6_ship_138
      · skip
        have hi : i < nw := gw_lt (by omega) (by omega) c
        obtain ⟨kf, rfl⟩ : ∃ k2, kf = k2 + 1 := ⟨kf - 1, by omega⟩
        refine lv_aload_n hx hb dX6_ship_63 rfl (lv_at hl 2 rfl) ?_
        refine lv_iload_n hx hb dX6_ship_64 rfl (lv_at hl 0 rfl) ?_
        refine lv_iload_n hx hb dX6_ship_65 rfl (lv_at hl 3 rfl) ?_
        refine va_calli (va_runV (As := [.int (nI i), .int (nI r)]) (rest := []) ⟨hx, hb, hml, hown, hts⟩ (met_X6_isUpon l D cI cZ cL mo m4 m5 m6 m7 m8 m9 0 nb nq nr (gShip Q r i) i r (by first | assumption | omega)) (cwV 2 hts gX6_ship_X6_isUpon rfl rfl rfl (by decide +kernel) ⟨Nat.le_of_ble_eq_true rfl, Nat.le_of_ble_eq_true rfl⟩) (gw_pvr hK hP (wc := [(mo, .inr (6, [.int 0, .int (nI nb), .int (nI nq), .int (nI nr), .ref m4, .ref m5, .ref m6, .ref m7, .ref m8, .ref m9])), (m7, .inl (cI, 300, .inl (enS (gShip Q r i))))]) [0, 3] rfl 6 rfl rfl rfl) rfl rfl hl.1 rfl (lv_room (Nat.le_of_ble_eq_true rfl)) dX6_ship_66 ⟨Nat.zero_le _, Nat.zero_le _⟩) hS (fun _ _ z => z.elim) (fun _ z => z.elim) (fun r_21 _ t H1 locs ht hvm hw hB hz1 hk1 hS => ?_)
        have hP := gw_ro hP hk1
        generalize H1 = H at hP hS ⊢
        rcases hw with ⟨rfl, hcc⟩ | ⟨rfl, hcc⟩
        · skip
          have hcc : Q 14 i = nI r := by have := hcc.2; rw [show gShip Q r i 14 = gM i (fun j => if Q 14 j = nI r then (-1) else Q 14 j) (Q 14) from rfl, gM_at (Nat.le_refl i)] at this; exact this
          refine lv_if_ne (tgt := 75) hx hb dX6_ship_69 (by decide) (fun _ => ?_) (fun c_23 => False.elim (by revert c_23; decide))
          refine lv_iload_n hx hb dX6_ship_75 rfl (lv_at hl 1 rfl) ?_
          refine lv_aload_n hx hb dX6_ship_76 rfl (lv_at hl 2 rfl) ?_
          refine lv_iload_n hx hb dX6_ship_77 rfl (lv_at hl 0 rfl) ?_
          refine va_calli (va_runV (As := [.int (nI i)]) (rest := [.int acc]) ⟨hx, hb, hml, hown, hts⟩ (met_X6_worth l D cI cZ cL mo m4 m5 m6 m7 m8 m9 0 nb nq nr (gShip Q r i) nw i (by first | assumption | omega) (by first | assumption | omega) (by first | assumption | omega) hof hz) (cwV 1 hts gX6_ship_X6_worth rfl rfl rfl (by decide +kernel) ⟨Nat.le_of_ble_eq_true rfl, Nat.le_of_ble_eq_true rfl⟩) (gw_pvr hK hP (wc := [(mo, .inr (6, [.int 0, .int (nI nb), .int (nI nq), .int (nI nr), .ref m4, .ref m5, .ref m6, .ref m7, .ref m8, .ref m9])), (m5, .inl (cI, 20, .inl (enR (gShip Q r i)))), (m7, .inl (cI, 300, .inl (enS (gShip Q r i))))]) [0, 2, 3] rfl 6 rfl rfl rfl) rfl rfl hl.1 rfl (lv_room (Nat.le_of_ble_eq_true rfl)) dX6_ship_78 ⟨Nat.zero_le _, Nat.zero_le _⟩) hS (fun _ _ z => z.elim) (fun _ z => z.elim) (fun r_25 _ t H1 locs ht hvm hw hB hz1 hk1 hS => ?_)
          have hP := gw_ro hP hk1
          generalize H1 = H at hP hS ⊢
          subst hw
          rw [show gShip Q r i 13 i = Q 13 i from (show gM i (fun j => if Q 14 j = nI r then 3 else Q 13 j) (Q 13) i = Q 13 i from gM_at (Nat.le_refl i))]
          refine lv_iadd hx hb dX6_ship_81 ?_
          refine lv_istore_n (lv' := [(2, .int (acc + (gWorth (Q 11 i) (Q 10 i) (Q 13 i) (Q 12 i)))), (3, .int (nI i)), (0, .ref mo), (1, .int (nI r))]) hx hb dX6_ship_82 rfl hl (by decide) rfl (fun ls hl => ?_)
          refine lv_aload_n hx hb dX6_ship_83 rfl (lv_at hl 2 rfl) ?_
          refine va_get (D := D) (ci := 6) (v := .ref m7) (C := RX6) (T := TX6) (N := 10) hx hb hts wc_X6_ship_ok_X6 hown hK hP 0 rfl rfl 7 (by decide) (hts _ wd_X6_ship_ok_4) (fun _ h9 => h9) rfl dX6_ship_84 ?_
          refine lv_iconst (v := 5) hx hb dX6_ship_87 (by decide) ?_
          refine lv_iload_n hx hb dX6_ship_88 rfl (lv_at hl 1 rfl) ?_
          refine lv_imul hx hb dX6_ship_89 ?_
          refine gw_top (y := nI (5 * i)) (nI_mul 5 i) ?_
          refine lv_iconst (v := 2) hx hb dX6_ship_90 (by decide) ?_
          refine lv_iadd hx hb dX6_ship_91 ?_
          refine gw_top (y := nI ((5 * i) + 2)) (nI_add (5 * i) 2) ?_
          refine lv_iconst (v := 3) hx hb dX6_ship_92 (by decide) ?_
          refine gw_iast hx hb hK hP hD hS 3 0 (k := (5 * i) + 2) rfl rfl (by omega) (by decide) dX6_ship_93 (fun H locs hP hD hS => ?_)
          have hP : va_P D vwCl [(mo, .inr (6, [.int 0, .int (nI nb), .int (nI nq), .int (nI nr), .ref m4, .ref m5, .ref m6, .ref m7, .ref m8, .ref m9])), (m4, .inl (cI, 9, .inl (Q 0))), (m5, .inl (cI, 20, .inl (enR (gShip Q r i)))), (m7, .inl (cI, 300, .inl (upd (enS (gShip Q r i)) ((5 * i) + 2) 3))), (m8, .inl (cI, 6, .inl (enB ca we))), (m9, .inl (cI, 3, .inl (enN day co nw)))] H := hP
          have hD : va_D A [(mo, .inr (6, [.int 0, .int (nI nb), .int (nI nq), .int (nI nr), .ref m4, .ref m5, .ref m6, .ref m7, .ref m8, .ref m9])), (m4, .inl (cI, 9, .inl (Q 0))), (m5, .inl (cI, 20, .inl (enR (gShip Q r i)))), (m7, .inl (cI, 300, .inl (upd (enS (gShip Q r i)) ((5 * i) + 2) 3))), (m8, .inl (cI, 6, .inl (enB ca we))), (m9, .inl (cI, 3, .inl (enN day co nw)))] := hD
          refine lv_aload_n hx hb dX6_ship_94 rfl (lv_at hl 2 rfl) ?_
          refine va_get (D := D) (ci := 6) (v := .ref m7) (C := RX6) (T := TX6) (N := 10) hx hb hts wc_X6_ship_ok_X6 hown hK hP 0 rfl rfl 7 (by decide) (hts _ wd_X6_ship_ok_4) (fun _ h9 => h9) rfl dX6_ship_95 ?_
          refine lv_iconst (v := 5) hx hb dX6_ship_98 (by decide) ?_
          refine lv_iload_n hx hb dX6_ship_99 rfl (lv_at hl 1 rfl) ?_
          refine lv_imul hx hb dX6_ship_100 ?_
          refine gw_top (y := nI (5 * i)) (nI_mul 5 i) ?_
          refine lv_iconst (v := 3) hx hb dX6_ship_101 (by decide) ?_
          refine lv_iadd hx hb dX6_ship_102 ?_
          refine gw_top (y := nI ((5 * i) + 3)) (nI_add (5 * i) 3) ?_
          refine lv_iconst (v := (-1)) hx hb dX6_ship_103 (by decide) ?_
          refine gw_iast hx hb hK hP hD hS 3 0 (k := (5 * i) + 3) rfl rfl (by omega) (by decide) dX6_ship_104 (fun H locs hP hD hS => ?_)
          have hP : va_P D vwCl [(mo, .inr (6, [.int 0, .int (nI nb), .int (nI nq), .int (nI nr), .ref m4, .ref m5, .ref m6, .ref m7, .ref m8, .ref m9])), (m4, .inl (cI, 9, .inl (Q 0))), (m5, .inl (cI, 20, .inl (enR (gShip Q r i)))), (m7, .inl (cI, 300, .inl (upd (upd (enS (gShip Q r i)) ((5 * i) + 2) 3) ((5 * i) + 3) (-1)))), (m8, .inl (cI, 6, .inl (enB ca we))), (m9, .inl (cI, 3, .inl (enN day co nw)))] H := hP
          have hD : va_D A [(mo, .inr (6, [.int 0, .int (nI nb), .int (nI nq), .int (nI nr), .ref m4, .ref m5, .ref m6, .ref m7, .ref m8, .ref m9])), (m4, .inl (cI, 9, .inl (Q 0))), (m5, .inl (cI, 20, .inl (enR (gShip Q r i)))), (m7, .inl (cI, 300, .inl (upd (upd (enS (gShip Q r i)) ((5 * i) + 2) 3) ((5 * i) + 3) (-1)))), (m8, .inl (cI, 6, .inl (enB ca we))), (m9, .inl (cI, 3, .inl (enN day co nw)))] := hD
          refine lv_iinc (v := nI (i + 1)) (lv' := [(3, .int (nI (i + 1))), (2, .int (acc + (gWorth (Q 11 i) (Q 10 i) (Q 13 i) (Q 12 i)))), (0, .ref mo), (1, .int (nI r))]) hx hb dX6_ship_105 hl (k := 1) rfl (nI_add i 1) (by decide) rfl (fun ls hl => ?_)
          refine lv_goto (tgt := 53) hx hb dX6_ship_108 (by decide) ?_
          have hw : upd (upd (enS (gShip Q r i)) ((5 * i) + 2) 3) ((5 * i) + 3) (-1) = enS (gShip Q r (i + 1)) := enS_ship hcc
          rw [hw] at hP hD
          have hwr : enR (gShip Q r i) = enR (gShip Q r (i + 1)) := enR_ext rfl rfl rfl rfl
          rw [hwr] at hP hD
          exact ih53 (kf, i + 1, acc + (gWorth (Q 11 i) (Q 10 i) (Q 13 i) (Q 12 i))) H locs ls (by dsimp only; omega) ⟨hP, hD, hS, lv_sub hl [0, 1, 2, 3] rfl, (by omega), (by rw [← hF]; simp [gS, hcc])⟩
        · skip
          have hcc : ¬ Q 14 i = nI r := fun hh => hcc (by refine ⟨?_, ?_⟩; (show gM i (fun j => if Q 14 j = nI r then 3 else Q 13 j) (Q 13) i = 2; rw [gM_at (Nat.le_refl i)]; exact (hcar i hi).resolve_left (by rw [hh]; exact gw_nIm1 (by omega))); (show gM i (fun j => if Q 14 j = nI r then (-1) else Q 14 j) (Q 14) i = nI r; rw [gM_at (Nat.le_refl i)]; exact hh))
          refine lv_if_ne (tgt := 75) hx hb dX6_ship_69 (by decide) (fun c_26 => False.elim (by revert c_26; decide)) (fun _ => ?_)
          refine lv_goto (tgt := 105) hx hb dX6_ship_72 (by decide) ?_
          refine lv_iinc (v := nI (i + 1)) (lv' := [(3, .int (nI (i + 1))), (2, .int acc), (0, .ref mo), (1, .int (nI r))]) hx hb dX6_ship_105 hl (k := 0) rfl (nI_add i 1) (by decide) rfl (fun ls hl => ?_)
          refine lv_goto (tgt := 53) hx hb dX6_ship_108 (by decide) ?_
          have hw : enS (gShip Q r i) = enS (gShip Q r (i + 1)) := enS_shipk hcc
          rw [hw] at hP hD
          have hwr : enR (gShip Q r i) = enR (gShip Q r (i + 1)) := enR_ext rfl rfl rfl rfl
          rw [hwr] at hP hD
          exact ih53 (kf, i + 1, acc) H locs ls (by dsimp only; omega) ⟨hP, hD, hS, lv_sub hl [0, 1, 2, 3] rfl, (by omega), (by rw [← hF]; simp [gS, hcc])⟩
  · skip
    exact absurd ⟨r, hr2, rfl⟩ hc

theorem wc_X6_bed_ok_X6 : ∀ w ∈ u_ws RX6 TX6 10, w ∈ wsX6_bed := by decide +kernel
theorem wd_X6_bed_ok_1 : (.fieldLink RX6 28 "GritWheelsModel" "thrown" "I" : Cond) ∈ wsX6_bed := by decide +kernel
set_option maxHeartbeats 4000000 in
set_option maxRecDepth 100000 in
theorem met_X6_bed_ok (l : Launch) (D : va_G) (cI cZ cL : ClassId) (mo : Nat) (m4 : Nat) (m5 : Nat) (m6 : Nat) (m7 : Nat) (m8 : Nat) (m9 : Nat) (th : Int32) (nb : Nat) (nq : Nat) (nr : Nat) (Q : Nat → Nat → Int32) (day : Nat) (co : Int32) (nw : Nat) (k : Nat) (v : Nat) (hk : k < nb) (hnb : nb ≤ 5) (hv6 : v < 6) (hnq : nq ≤ 6) (hnw : nw ≤ 60) (hz : ∀ j, Q 12 j = 0 ∨ Q 12 j = 1) : Met l yX6_bed wsX6_bed ({ frames := 2, cells := 0, slots := 0, locals := 46 }) (gPw [.ref mo, .int (nI k), .int (nI v)] D [(mo, .inr (6, [.int th, .int (nI nb), .int (nI nq), .int (nI nr), .ref m4, .ref m5, .ref m6, .ref m7, .ref m8, .ref m9])), (m5, .inl (cI, 20, .inl (enR Q))), (m6, .inl (cI, 24, .inl (enP Q))), (m7, .inl (cI, 300, .inl (enS Q))), (m9, .inl (cI, 3, .inl (enN day co nw)))] (gT cI cZ cL)) (va_Qi (fun (zr : Int32) (_ : Unit) => zr = gBed Q nq nw v k) (fun _ t => va_P D vwCl [(mo, .inr (6, [.int 0, .int (nI nb), .int (nI nq), .int (nI nr), .ref m4, .ref m5, .ref m6, .ref m7, .ref m8, .ref m9])), (m5, .inl (cI, 20, .inl (enR Q))), (m6, .inl (cI, 24, .inl (enP Q))), (m7, .inl (cI, 300, .inl (enS Q))), (m9, .inl (cI, 3, .inl (enN day co nw)))] t.heap) (gA (gL [(mo, .inr (6, [.int th, .int (nI nb), .int (nI nq), .int (nI nr), .ref m4, .ref m5, .ref m6, .ref m7, .ref m8, .ref m9])), (m5, .inl (cI, 20, .inl (enR Q))), (m6, .inl (cI, 24, .inl (enP Q))), (m7, .inl (cI, 300, .inl (enS Q))), (m9, .inl (cI, 3, .inl (enN day co nw)))]))) 0 0 (gA (gL [(mo, .inr (6, [.int th, .int (nI nb), .int (nI nq), .int (nI nr), .ref m4, .ref m5, .ref m6, .ref m7, .ref m8, .ref m9])), (m5, .inl (cI, 20, .inl (enR Q))), (m6, .inl (cI, 24, .inl (enP Q))), (m7, .inl (cI, 300, .inl (enS Q))), (m9, .inl (cI, 3, .inl (enN day co nw)))])) := by
  refine Met.ofW (cc := cX6_bed) (maxL := 3) (ret := (some .int)) (by decide +kernel) rfl ?_
  intro p e s m args below meth c s₁ B hml hv
  obtain ⟨rfl, hP, hK, hD0⟩ := hv
  have hx := B.exec
  have hb := B.bytes
  have hr := B.returns
  have hts := atoms_spec (ws := wsX6_bed) B.pre
  have hown : s.vm.findClass RX6 = some m.cls := findClass_of_methodNamed B.named
  have hlocks := B.notSynchronized
  have hD := gw_self hD0
  generalize hAe : gA (gL [(mo, .inr (6, [.int th, .int (nI nb), .int (nI nq), .int (nI nr), .ref m4, .ref m5, .ref m6, .ref m7, .ref m8, .ref m9])), (m5, .inl (cI, 20, .inl (enR Q))), (m6, .inl (cI, 24, .inl (enP Q))), (m7, .inl (cI, 300, .inl (enS Q))), (m9, .inl (cI, 3, .inl (enN day co nw)))]) = A at hD ⊢
  have hS : va_S A s.heap s.heap [] := va_S.rf
  have hP : va_P D vwCl [(mo, .inr (6, [.int th, .int (nI nb), .int (nI nq), .int (nI nr), .ref m4, .ref m5, .ref m6, .ref m7, .ref m8, .ref m9])), (m5, .inl (cI, 20, .inl (enR Q))), (m6, .inl (cI, 24, .inl (enP Q))), (m7, .inl (cI, 300, .inl (enS Q))), (m9, .inl (cI, 3, .inl (enN day co nw)))] s.heap := hP
  have hl := lv_entry ([.ref mo, .int (nI k), .int (nI v)]) (n := 3) (Nat.le_of_ble_eq_true rfl)
  rw [lg_entry_eq]
  generalize (lg_sl ([.ref mo, .int (nI k), .int (nI v)]) ++ List.replicate (3 - (lg_sl ([.ref mo, .int (nI k), .int (nI v)])).length) Slot.unset).toArray = ls at hl ⊢
  have hl : lv_has ls 3 [(0, .ref mo), (1, .int (nI k)), (2, .int (nI v))] := hl
  refine lv_aload_n hx hb dX6_bed_0 rfl (lv_at hl 0 rfl) ?_
  refine lv_iconst (v := 0) hx hb dX6_bed_1 (by decide) ?_
  refine va_put (D := D) (ci := 6) (v := .int 0) (ty := .int) (C := RX6) (T := TX6) (N := 10) hx hb hts wc_X6_bed_ok_X6 tyX6 tyX6_ok nmX6 hown hK hP hD hS 0 rfl rfl 0 (by decide) (hts _ wd_X6_bed_ok_1) (fun _ h9 => h9) rfl (by decide +kernel) rfl rfl (Nat.le_of_ble_eq_true rfl) dX6_bed_2 (fun H locs hP hD hS => ?_)
  have hP : va_P D vwCl [(mo, .inr (6, [.int 0, .int (nI nb), .int (nI nq), .int (nI nr), .ref m4, .ref m5, .ref m6, .ref m7, .ref m8, .ref m9])), (m5, .inl (cI, 20, .inl (enR Q))), (m6, .inl (cI, 24, .inl (enP Q))), (m7, .inl (cI, 300, .inl (enS Q))), (m9, .inl (cI, 3, .inl (enN day co nw)))] H := hP
  have hD : va_D A [(mo, .inr (6, [.int 0, .int (nI nb), .int (nI nq), .int (nI nr), .ref m4, .ref m5, .ref m6, .ref m7, .ref m8, .ref m9])), (m5, .inl (cI, 20, .inl (enR Q))), (m6, .inl (cI, 24, .inl (enP Q))), (m7, .inl (cI, 300, .inl (enS Q))), (m9, .inl (cI, 3, .inl (enN day co nw)))] := hD
  refine lv_aload_n hx hb dX6_bed_5 rfl (lv_at hl 0 rfl) ?_
  refine lv_iload_n hx hb dX6_bed_6 rfl (lv_at hl 1 rfl) ?_
  refine va_calli (va_runV (As := [.int (nI k)]) (rest := []) ⟨hx, hb, hml, hown, hts⟩ (met_X6_isBed l D cI cZ cL mo m4 m5 m6 m7 m8 m9 0 nb nq nr (nI k) (by first | assumption | omega)) (cwV 1 hts gX6_bed_X6_isBed rfl rfl rfl (by decide +kernel) ⟨Nat.le_of_ble_eq_true rfl, Nat.le_of_ble_eq_true rfl⟩) (gw_pvr hK hP (wc := [(mo, .inr (6, [.int 0, .int (nI nb), .int (nI nq), .int (nI nr), .ref m4, .ref m5, .ref m6, .ref m7, .ref m8, .ref m9]))]) [0] rfl 6 rfl rfl rfl) rfl rfl hl.1 rfl (lv_room (Nat.le_of_ble_eq_true rfl)) dX6_bed_7 ⟨Nat.zero_le _, Nat.zero_le _⟩) hS (fun _ _ z => z.elim) (fun _ z => z.elim) (fun r_2 _ t H1 locs ht hvm hw hB hz1 hk1 hS => ?_)
  have hP := gw_ro hP hk1
  generalize H1 = H at hP hS ⊢
  rcases hw with ⟨rfl, hc⟩ | ⟨rfl, hc⟩
  · skip
    refine lv_if_eq (tgt := 31) hx hb dX6_bed_10 (by decide) (fun c_4 => False.elim (by revert c_4; decide)) (fun _ => ?_)
    refine lv_iload_n hx hb dX6_bed_13 rfl (lv_at hl 2 rfl) ?_
    refine lv_iconst (v := 0) hx hb dX6_bed_14 (by decide) ?_
    refine lv_iconst (v := 5) hx hb dX6_bed_15 (by decide) ?_
    refine va_calli (va_runS (As := [.int (nI v), .int 0, .int 5]) (rest := []) ⟨hx, hb, hml, hown, hts⟩ (met_X6_isIn l D cI cZ cL (nI v) 0 5) (va_cwS 3 hts gX6_bed_X6_isIn rfl rfl rfl (by decide +kernel) ⟨Nat.le_of_ble_eq_true rfl, Nat.le_of_ble_eq_true rfl⟩) (gw_psr hK hP (wc := []) [] rfl) rfl rfl hl.1 rfl (lv_room (Nat.le_of_ble_eq_true rfl)) dX6_bed_16 ⟨Nat.zero_le _, Nat.zero_le _⟩) hS (fun _ _ z => z.elim) (fun _ z => z.elim) (fun r_6 _ t H1 locs ht hvm hw hB hz1 hk1 hS => ?_)
    have hP := gw_ro hP hk1
    generalize H1 = H at hP hS ⊢
    rcases hw with ⟨rfl, hc⟩ | ⟨rfl, hc⟩
    · skip
      refine lv_if_eq (tgt := 31) hx hb dX6_bed_19 (by decide) (fun c_8 => False.elim (by revert c_8; decide)) (fun _ => ?_)
      refine lv_aload_n hx hb dX6_bed_22 rfl (lv_at hl 0 rfl) ?_
      refine lv_iload_n hx hb dX6_bed_23 rfl (lv_at hl 1 rfl) ?_
      refine lv_iload_n hx hb dX6_bed_24 rfl (lv_at hl 2 rfl) ?_
      refine va_calli (va_runV (As := [.int (nI k), .int (nI v)]) (rest := []) ⟨hx, hb, hml, hown, hts⟩ (met_X6_bedTold l D cI cZ cL mo m4 m5 m6 m7 m8 m9 0 nb nq nr Q day co nw k v (by first | assumption | omega) (by first | assumption | omega) (by first | assumption | omega) (by first | assumption | omega) (by first | assumption | omega)) (cwV 2 hts gX6_bed_X6_bedTold rfl rfl rfl (by decide +kernel) ⟨Nat.le_of_ble_eq_true rfl, Nat.le_of_ble_eq_true rfl⟩) (gw_pvr hK hP (wc := [(mo, .inr (6, [.int 0, .int (nI nb), .int (nI nq), .int (nI nr), .ref m4, .ref m5, .ref m6, .ref m7, .ref m8, .ref m9])), (m5, .inl (cI, 20, .inl (enR Q))), (m6, .inl (cI, 24, .inl (enP Q))), (m7, .inl (cI, 300, .inl (enS Q))), (m9, .inl (cI, 3, .inl (enN day co nw)))]) [0, 1, 2, 3, 4] rfl 6 rfl rfl rfl) rfl rfl hl.1 rfl (lv_room (Nat.le_of_ble_eq_true rfl)) dX6_bed_25 ⟨Nat.zero_le _, Nat.zero_le _⟩) hS (fun _ _ z => z.elim) (fun _ z => z.elim) (fun r_10 _ t H1 locs ht hvm hw hB hz1 hk1 hS => ?_)
      have hP := gw_ro hP hk1
      generalize H1 = H at hP hS ⊢
      subst hw
      refine lv_goto (tgt := 36) hx hb dX6_bed_28 (by decide) ?_
      subst hAe
      exact W.iret (v := gBed Q nq nw v k) hx hb hr (fun t ht hW => ⟨⟨_, (), rfl, rfl, gw_hh ht hP⟩, hS.F ht⟩) hS.2.2 dX6_bed_36
    · skip
      exact absurd (gw_in (n := 5) (by omega) (by decide)) hc
  · skip
    exact absurd ⟨k, hk, rfl⟩ hc

theorem wc_X6_quarrier_ok_X6 : ∀ w ∈ u_ws RX6 TX6 10, w ∈ wsX6_quarrier := by decide +kernel
theorem wd_X6_quarrier_ok_1 : (.fieldLink RX6 28 "GritWheelsModel" "thrown" "I" : Cond) ∈ wsX6_quarrier := by decide +kernel
set_option maxHeartbeats 4000000 in
set_option maxRecDepth 100000 in
theorem met_X6_quarrier_ok (l : Launch) (D : va_G) (cI cZ cL : ClassId) (mo : Nat) (m4 : Nat) (m5 : Nat) (m6 : Nat) (m7 : Nat) (m8 : Nat) (m9 : Nat) (th : Int32) (nb : Nat) (nq : Nat) (nr : Nat) (Q : Nat → Nat → Int32) (day : Nat) (co : Int32) (nw : Nat) (k : Nat) (v : Nat) (hk : k < nq) (hnb : nb ≤ 5) (hv5 : v < 5) (hnq : nq ≤ 6) (hpl : gPl Q nb nq) (hgr : gGr Q nb) : Met l yX6_quarrier wsX6_quarrier ({ frames := 2, cells := 0, slots := 0, locals := 46 }) (gPw [.ref mo, .int (nI k), .int (nI v)] D [(mo, .inr (6, [.int th, .int (nI nb), .int (nI nq), .int (nI nr), .ref m4, .ref m5, .ref m6, .ref m7, .ref m8, .ref m9])), (m5, .inl (cI, 20, .inl (enR Q))), (m6, .inl (cI, 24, .inl (enP Q)))] (gT cI cZ cL)) (va_Qi (fun (zr : Int32) (_ : Unit) => zr = gQua Q v k) (fun _ t => va_P D vwCl [(mo, .inr (6, [.int 0, .int (nI nb), .int (nI nq), .int (nI nr), .ref m4, .ref m5, .ref m6, .ref m7, .ref m8, .ref m9])), (m5, .inl (cI, 20, .inl (enR Q))), (m6, .inl (cI, 24, .inl (enP Q)))] t.heap) (gA (gL [(mo, .inr (6, [.int th, .int (nI nb), .int (nI nq), .int (nI nr), .ref m4, .ref m5, .ref m6, .ref m7, .ref m8, .ref m9])), (m5, .inl (cI, 20, .inl (enR Q))), (m6, .inl (cI, 24, .inl (enP Q)))]))) 0 0 (gA (gL [(mo, .inr (6, [.int th, .int (nI nb), .int (nI nq), .int (nI nr), .ref m4, .ref m5, .ref m6, .ref m7, .ref m8, .ref m9])), (m5, .inl (cI, 20, .inl (enR Q))), (m6, .inl (cI, 24, .inl (enP Q)))])) := by
  refine Met.ofW (cc := cX6_quarrier) (maxL := 3) (ret := (some .int)) (by decide +kernel) rfl ?_
  intro p e s m args below meth c s₁ B hml hv
  obtain ⟨rfl, hP, hK, hD0⟩ := hv
  have hx := B.exec
  have hb := B.bytes
  have hr := B.returns
  have hts := atoms_spec (ws := wsX6_quarrier) B.pre
  have hown : s.vm.findClass RX6 = some m.cls := findClass_of_methodNamed B.named
  have hlocks := B.notSynchronized
  have hD := gw_self hD0
  generalize hAe : gA (gL [(mo, .inr (6, [.int th, .int (nI nb), .int (nI nq), .int (nI nr), .ref m4, .ref m5, .ref m6, .ref m7, .ref m8, .ref m9])), (m5, .inl (cI, 20, .inl (enR Q))), (m6, .inl (cI, 24, .inl (enP Q)))]) = A at hD ⊢
  have hS : va_S A s.heap s.heap [] := va_S.rf
  have hP : va_P D vwCl [(mo, .inr (6, [.int th, .int (nI nb), .int (nI nq), .int (nI nr), .ref m4, .ref m5, .ref m6, .ref m7, .ref m8, .ref m9])), (m5, .inl (cI, 20, .inl (enR Q))), (m6, .inl (cI, 24, .inl (enP Q)))] s.heap := hP
  have hl := lv_entry ([.ref mo, .int (nI k), .int (nI v)]) (n := 3) (Nat.le_of_ble_eq_true rfl)
  rw [lg_entry_eq]
  generalize (lg_sl ([.ref mo, .int (nI k), .int (nI v)]) ++ List.replicate (3 - (lg_sl ([.ref mo, .int (nI k), .int (nI v)])).length) Slot.unset).toArray = ls at hl ⊢
  have hl : lv_has ls 3 [(0, .ref mo), (1, .int (nI k)), (2, .int (nI v))] := hl
  refine lv_aload_n hx hb dX6_quarrier_0 rfl (lv_at hl 0 rfl) ?_
  refine lv_iconst (v := 0) hx hb dX6_quarrier_1 (by decide) ?_
  refine va_put (D := D) (ci := 6) (v := .int 0) (ty := .int) (C := RX6) (T := TX6) (N := 10) hx hb hts wc_X6_quarrier_ok_X6 tyX6 tyX6_ok nmX6 hown hK hP hD hS 0 rfl rfl 0 (by decide) (hts _ wd_X6_quarrier_ok_1) (fun _ h9 => h9) rfl (by decide +kernel) rfl rfl (Nat.le_of_ble_eq_true rfl) dX6_quarrier_2 (fun H locs hP hD hS => ?_)
  have hP : va_P D vwCl [(mo, .inr (6, [.int 0, .int (nI nb), .int (nI nq), .int (nI nr), .ref m4, .ref m5, .ref m6, .ref m7, .ref m8, .ref m9])), (m5, .inl (cI, 20, .inl (enR Q))), (m6, .inl (cI, 24, .inl (enP Q)))] H := hP
  have hD : va_D A [(mo, .inr (6, [.int 0, .int (nI nb), .int (nI nq), .int (nI nr), .ref m4, .ref m5, .ref m6, .ref m7, .ref m8, .ref m9])), (m5, .inl (cI, 20, .inl (enR Q))), (m6, .inl (cI, 24, .inl (enP Q)))] := hD
  refine lv_aload_n hx hb dX6_quarrier_5 rfl (lv_at hl 0 rfl) ?_
  refine lv_iload_n hx hb dX6_quarrier_6 rfl (lv_at hl 1 rfl) ?_
  refine va_calli (va_runV (As := [.int (nI k)]) (rest := []) ⟨hx, hb, hml, hown, hts⟩ (met_X6_isQuarrier l D cI cZ cL mo m4 m5 m6 m7 m8 m9 0 nb nq nr (nI k) (by first | assumption | omega)) (cwV 1 hts gX6_quarrier_X6_isQuarrier rfl rfl rfl (by decide +kernel) ⟨Nat.le_of_ble_eq_true rfl, Nat.le_of_ble_eq_true rfl⟩) (gw_pvr hK hP (wc := [(mo, .inr (6, [.int 0, .int (nI nb), .int (nI nq), .int (nI nr), .ref m4, .ref m5, .ref m6, .ref m7, .ref m8, .ref m9]))]) [0] rfl 6 rfl rfl rfl) rfl rfl hl.1 rfl (lv_room (Nat.le_of_ble_eq_true rfl)) dX6_quarrier_7 ⟨Nat.zero_le _, Nat.zero_le _⟩) hS (fun _ _ z => z.elim) (fun _ z => z.elim) (fun r_2 _ t H1 locs ht hvm hw hB hz1 hk1 hS => ?_)
  have hP := gw_ro hP hk1
  generalize H1 = H at hP hS ⊢
  rcases hw with ⟨rfl, hc⟩ | ⟨rfl, hc⟩
  · skip
    refine lv_if_eq (tgt := 31) hx hb dX6_quarrier_10 (by decide) (fun c_4 => False.elim (by revert c_4; decide)) (fun _ => ?_)
    refine lv_iload_n hx hb dX6_quarrier_13 rfl (lv_at hl 2 rfl) ?_
    refine lv_iconst (v := 0) hx hb dX6_quarrier_14 (by decide) ?_
    refine lv_iconst (v := 4) hx hb dX6_quarrier_15 (by decide) ?_
    refine va_calli (va_runS (As := [.int (nI v), .int 0, .int 4]) (rest := []) ⟨hx, hb, hml, hown, hts⟩ (met_X6_isIn l D cI cZ cL (nI v) 0 4) (va_cwS 3 hts gX6_quarrier_X6_isIn rfl rfl rfl (by decide +kernel) ⟨Nat.le_of_ble_eq_true rfl, Nat.le_of_ble_eq_true rfl⟩) (gw_psr hK hP (wc := []) [] rfl) rfl rfl hl.1 rfl (lv_room (Nat.le_of_ble_eq_true rfl)) dX6_quarrier_16 ⟨Nat.zero_le _, Nat.zero_le _⟩) hS (fun _ _ z => z.elim) (fun _ z => z.elim) (fun r_6 _ t H1 locs ht hvm hw hB hz1 hk1 hS => ?_)
    have hP := gw_ro hP hk1
    generalize H1 = H at hP hS ⊢
    rcases hw with ⟨rfl, hc⟩ | ⟨rfl, hc⟩
    · skip
      refine lv_if_eq (tgt := 31) hx hb dX6_quarrier_19 (by decide) (fun c_8 => False.elim (by revert c_8; decide)) (fun _ => ?_)
      refine lv_aload_n hx hb dX6_quarrier_22 rfl (lv_at hl 0 rfl) ?_
      refine lv_iload_n hx hb dX6_quarrier_23 rfl (lv_at hl 1 rfl) ?_
      refine lv_iload_n hx hb dX6_quarrier_24 rfl (lv_at hl 2 rfl) ?_
      refine va_calli (va_runV (As := [.int (nI k), .int (nI v)]) (rest := []) ⟨hx, hb, hml, hown, hts⟩ (met_X6_quarrierTold l D cI cZ cL mo m4 m5 m6 m7 m8 m9 0 nb nq nr Q day co nw k v (by first | assumption | omega) (by first | assumption | omega) (by first | assumption | omega) (by first | assumption | omega) (by first | assumption | omega) (by first | assumption | omega)) (cwV 2 hts gX6_quarrier_X6_quarrierTold rfl rfl rfl (by decide +kernel) ⟨Nat.le_of_ble_eq_true rfl, Nat.le_of_ble_eq_true rfl⟩) (gw_pvr hK hP (wc := [(mo, .inr (6, [.int 0, .int (nI nb), .int (nI nq), .int (nI nr), .ref m4, .ref m5, .ref m6, .ref m7, .ref m8, .ref m9])), (m5, .inl (cI, 20, .inl (enR Q))), (m6, .inl (cI, 24, .inl (enP Q)))]) [0, 1, 2] rfl 6 rfl rfl rfl) rfl rfl hl.1 rfl (lv_room (Nat.le_of_ble_eq_true rfl)) dX6_quarrier_25 ⟨Nat.zero_le _, Nat.zero_le _⟩) hS (fun _ _ z => z.elim) (fun _ z => z.elim) (fun r_10 _ t H1 locs ht hvm hw hB hz1 hk1 hS => ?_)
      have hP := gw_ro hP hk1
      generalize H1 = H at hP hS ⊢
      subst hw
      refine lv_goto (tgt := 36) hx hb dX6_quarrier_28 (by decide) ?_
      subst hAe
      exact W.iret (v := gQua Q v k) hx hb hr (fun t ht hW => ⟨⟨_, (), rfl, rfl, gw_hh ht hP⟩, hS.F ht⟩) hS.2.2 dX6_quarrier_36
    · skip
      exact absurd (gw_in (n := 4) (by omega) (by decide)) hc
  · skip
    exact absurd ⟨k, hk, rfl⟩ hc

theorem wc_X6_wheel_ok_X6 : ∀ w ∈ u_ws RX6 TX6 10, w ∈ wsX6_wheel := by decide +kernel
theorem wd_X6_wheel_ok_1 : (.fieldLink RX6 28 "GritWheelsModel" "thrown" "I" : Cond) ∈ wsX6_wheel := by decide +kernel
set_option maxHeartbeats 4000000 in
set_option maxRecDepth 100000 in
theorem met_X6_wheel_ok (l : Launch) (D : va_G) (cI cZ cL : ClassId) (mo : Nat) (m4 : Nat) (m5 : Nat) (m6 : Nat) (m7 : Nat) (m8 : Nat) (m9 : Nat) (th : Int32) (nb : Nat) (nq : Nat) (nr : Nat) (Q : Nat → Nat → Int32) (day : Nat) (co : Int32) (nw : Nat) (k : Nat) (v : Nat) (hk : k < nw) (hv6 : v < 6) (hnw : nw ≤ 60) (hnb : nb ≤ 5) (hof : gOf Q nb nw) (hz : ∀ j, Q 12 j = 0 ∨ Q 12 j = 1) : Met l yX6_wheel wsX6_wheel ({ frames := 3, cells := 0, slots := 0, locals := 66 }) (gPw [.ref mo, .int (nI k), .int (nI v)] D [(mo, .inr (6, [.int th, .int (nI nb), .int (nI nq), .int (nI nr), .ref m4, .ref m5, .ref m6, .ref m7, .ref m8, .ref m9])), (m5, .inl (cI, 20, .inl (enR Q))), (m7, .inl (cI, 300, .inl (enS Q))), (m9, .inl (cI, 3, .inl (enN day co nw)))] (gT cI cZ cL)) (va_Qi (fun (zr : Int32) (_ : Unit) => zr = gFact v (Q 9 k) (Q 11 k) (Q 10 k) (Q 13 k) (Q 12 k) (Q 14 k)) (fun _ t => va_P D vwCl [(mo, .inr (6, [.int 0, .int (nI nb), .int (nI nq), .int (nI nr), .ref m4, .ref m5, .ref m6, .ref m7, .ref m8, .ref m9])), (m5, .inl (cI, 20, .inl (enR Q))), (m7, .inl (cI, 300, .inl (enS Q))), (m9, .inl (cI, 3, .inl (enN day co nw)))] t.heap) (gA (gL [(mo, .inr (6, [.int th, .int (nI nb), .int (nI nq), .int (nI nr), .ref m4, .ref m5, .ref m6, .ref m7, .ref m8, .ref m9])), (m5, .inl (cI, 20, .inl (enR Q))), (m7, .inl (cI, 300, .inl (enS Q))), (m9, .inl (cI, 3, .inl (enN day co nw)))]))) 0 0 (gA (gL [(mo, .inr (6, [.int th, .int (nI nb), .int (nI nq), .int (nI nr), .ref m4, .ref m5, .ref m6, .ref m7, .ref m8, .ref m9])), (m5, .inl (cI, 20, .inl (enR Q))), (m7, .inl (cI, 300, .inl (enS Q))), (m9, .inl (cI, 3, .inl (enN day co nw)))])) := by
  refine Met.ofW (cc := cX6_wheel) (maxL := 3) (ret := (some .int)) (by decide +kernel) rfl ?_
  intro p e s m args below meth c s₁ B hml hv
  obtain ⟨rfl, hP, hK, hD0⟩ := hv
  have hx := B.exec
  have hb := B.bytes
  have hr := B.returns
  have hts := atoms_spec (ws := wsX6_wheel) B.pre
  have hown : s.vm.findClass RX6 = some m.cls := findClass_of_methodNamed B.named
  have hlocks := B.notSynchronized
  have hD := gw_self hD0
  generalize hAe : gA (gL [(mo, .inr (6, [.int th, .int (nI nb), .int (nI nq), .int (nI nr), .ref m4, .ref m5, .ref m6, .ref m7, .ref m8, .ref m9])), (m5, .inl (cI, 20, .inl (enR Q))), (m7, .inl (cI, 300, .inl (enS Q))), (m9, .inl (cI, 3, .inl (enN day co nw)))]) = A at hD ⊢
  have hS : va_S A s.heap s.heap [] := va_S.rf
  have hP : va_P D vwCl [(mo, .inr (6, [.int th, .int (nI nb), .int (nI nq), .int (nI nr), .ref m4, .ref m5, .ref m6, .ref m7, .ref m8, .ref m9])), (m5, .inl (cI, 20, .inl (enR Q))), (m7, .inl (cI, 300, .inl (enS Q))), (m9, .inl (cI, 3, .inl (enN day co nw)))] s.heap := hP
  have hl := lv_entry ([.ref mo, .int (nI k), .int (nI v)]) (n := 3) (Nat.le_of_ble_eq_true rfl)
  rw [lg_entry_eq]
  generalize (lg_sl ([.ref mo, .int (nI k), .int (nI v)]) ++ List.replicate (3 - (lg_sl ([.ref mo, .int (nI k), .int (nI v)])).length) Slot.unset).toArray = ls at hl ⊢
  have hl : lv_has ls 3 [(0, .ref mo), (1, .int (nI k)), (2, .int (nI v))] := hl
  refine lv_aload_n hx hb dX6_wheel_0 rfl (lv_at hl 0 rfl) ?_
  refine lv_iconst (v := 0) hx hb dX6_wheel_1 (by decide) ?_
  refine va_put (D := D) (ci := 6) (v := .int 0) (ty := .int) (C := RX6) (T := TX6) (N := 10) hx hb hts wc_X6_wheel_ok_X6 tyX6 tyX6_ok nmX6 hown hK hP hD hS 0 rfl rfl 0 (by decide) (hts _ wd_X6_wheel_ok_1) (fun _ h9 => h9) rfl (by decide +kernel) rfl rfl (Nat.le_of_ble_eq_true rfl) dX6_wheel_2 (fun H locs hP hD hS => ?_)
  have hP : va_P D vwCl [(mo, .inr (6, [.int 0, .int (nI nb), .int (nI nq), .int (nI nr), .ref m4, .ref m5, .ref m6, .ref m7, .ref m8, .ref m9])), (m5, .inl (cI, 20, .inl (enR Q))), (m7, .inl (cI, 300, .inl (enS Q))), (m9, .inl (cI, 3, .inl (enN day co nw)))] H := hP
  have hD : va_D A [(mo, .inr (6, [.int 0, .int (nI nb), .int (nI nq), .int (nI nr), .ref m4, .ref m5, .ref m6, .ref m7, .ref m8, .ref m9])), (m5, .inl (cI, 20, .inl (enR Q))), (m7, .inl (cI, 300, .inl (enS Q))), (m9, .inl (cI, 3, .inl (enN day co nw)))] := hD
  refine lv_aload_n hx hb dX6_wheel_5 rfl (lv_at hl 0 rfl) ?_
  refine lv_iload_n hx hb dX6_wheel_6 rfl (lv_at hl 1 rfl) ?_
  refine va_calli (va_runV (As := [.int (nI k)]) (rest := []) ⟨hx, hb, hml, hown, hts⟩ (met_X6_isWheel l D cI cZ cL mo m4 m5 m6 m7 m8 m9 0 nb nq nr day co nw (nI k) (by first | assumption | omega)) (cwV 1 hts gX6_wheel_X6_isWheel rfl rfl rfl (by decide +kernel) ⟨Nat.le_of_ble_eq_true rfl, Nat.le_of_ble_eq_true rfl⟩) (gw_pvr hK hP (wc := [(mo, .inr (6, [.int 0, .int (nI nb), .int (nI nq), .int (nI nr), .ref m4, .ref m5, .ref m6, .ref m7, .ref m8, .ref m9])), (m9, .inl (cI, 3, .inl (enN day co nw)))]) [0, 3] rfl 6 rfl rfl rfl) rfl rfl hl.1 rfl (lv_room (Nat.le_of_ble_eq_true rfl)) dX6_wheel_7 ⟨Nat.zero_le _, Nat.zero_le _⟩) hS (fun _ _ z => z.elim) (fun _ z => z.elim) (fun r_2 _ t H1 locs ht hvm hw hB hz1 hk1 hS => ?_)
  have hP := gw_ro hP hk1
  generalize H1 = H at hP hS ⊢
  rcases hw with ⟨rfl, hc⟩ | ⟨rfl, hc⟩
  · skip
    refine lv_if_eq (tgt := 31) hx hb dX6_wheel_10 (by decide) (fun c_4 => False.elim (by revert c_4; decide)) (fun _ => ?_)
    refine lv_iload_n hx hb dX6_wheel_13 rfl (lv_at hl 2 rfl) ?_
    refine lv_iconst (v := 0) hx hb dX6_wheel_14 (by decide) ?_
    refine lv_iconst (v := 5) hx hb dX6_wheel_15 (by decide) ?_
    refine va_calli (va_runS (As := [.int (nI v), .int 0, .int 5]) (rest := []) ⟨hx, hb, hml, hown, hts⟩ (met_X6_isIn l D cI cZ cL (nI v) 0 5) (va_cwS 3 hts gX6_wheel_X6_isIn rfl rfl rfl (by decide +kernel) ⟨Nat.le_of_ble_eq_true rfl, Nat.le_of_ble_eq_true rfl⟩) (gw_psr hK hP (wc := []) [] rfl) rfl rfl hl.1 rfl (lv_room (Nat.le_of_ble_eq_true rfl)) dX6_wheel_16 ⟨Nat.zero_le _, Nat.zero_le _⟩) hS (fun _ _ z => z.elim) (fun _ z => z.elim) (fun r_6 _ t H1 locs ht hvm hw hB hz1 hk1 hS => ?_)
    have hP := gw_ro hP hk1
    generalize H1 = H at hP hS ⊢
    rcases hw with ⟨rfl, hc⟩ | ⟨rfl, hc⟩
    · skip
      refine lv_if_eq (tgt := 31) hx hb dX6_wheel_19 (by decide) (fun c_8 => False.elim (by revert c_8; decide)) (fun _ => ?_)
      refine lv_aload_n hx hb dX6_wheel_22 rfl (lv_at hl 0 rfl) ?_
      refine lv_iload_n hx hb dX6_wheel_23 rfl (lv_at hl 1 rfl) ?_
      refine lv_iload_n hx hb dX6_wheel_24 rfl (lv_at hl 2 rfl) ?_
      refine va_calli (va_runV (As := [.int (nI k), .int (nI v)]) (rest := []) ⟨hx, hb, hml, hown, hts⟩ (met_X6_wheelTold l D cI cZ cL mo m4 m5 m6 m7 m8 m9 0 nb nq nr Q day co nw k v (by first | assumption | omega) (by first | assumption | omega) (by first | assumption | omega) (by first | assumption | omega) (by first | assumption | omega) (by first | assumption | omega)) (cwV 2 hts gX6_wheel_X6_wheelTold rfl rfl rfl (by decide +kernel) ⟨Nat.le_of_ble_eq_true rfl, Nat.le_of_ble_eq_true rfl⟩) (gw_pvr hK hP (wc := [(mo, .inr (6, [.int 0, .int (nI nb), .int (nI nq), .int (nI nr), .ref m4, .ref m5, .ref m6, .ref m7, .ref m8, .ref m9])), (m5, .inl (cI, 20, .inl (enR Q))), (m7, .inl (cI, 300, .inl (enS Q)))]) [0, 1, 2] rfl 6 rfl rfl rfl) rfl rfl hl.1 rfl (lv_room (Nat.le_of_ble_eq_true rfl)) dX6_wheel_25 ⟨Nat.zero_le _, Nat.zero_le _⟩) hS (fun _ _ z => z.elim) (fun _ z => z.elim) (fun r_10 _ t H1 locs ht hvm hw hB hz1 hk1 hS => ?_)
      have hP := gw_ro hP hk1
      generalize H1 = H at hP hS ⊢
      subst hw
      refine lv_goto (tgt := 36) hx hb dX6_wheel_28 (by decide) ?_
      subst hAe
      exact W.iret (v := gFact v (Q 9 k) (Q 11 k) (Q 10 k) (Q 13 k) (Q 12 k) (Q 14 k)) hx hb hr (fun t ht hW => ⟨⟨_, (), rfl, rfl, gw_hh ht hP⟩, hS.F ht⟩) hS.2.2 dX6_wheel_36
    · skip
      exact absurd (gw_in (n := 5) (by omega) (by decide)) hc
  · skip
    exact absurd ⟨k, hk, rfl⟩ hc

theorem wc_X6_raft_ok_X6 : ∀ w ∈ u_ws RX6 TX6 10, w ∈ wsX6_raft := by decide +kernel
theorem wd_X6_raft_ok_1 : (.fieldLink RX6 28 "GritWheelsModel" "thrown" "I" : Cond) ∈ wsX6_raft := by decide +kernel
set_option maxHeartbeats 4000000 in
set_option maxRecDepth 100000 in
theorem met_X6_raft_ok (l : Launch) (D : va_G) (cI cZ cL : ClassId) (mo : Nat) (m4 : Nat) (m5 : Nat) (m6 : Nat) (m7 : Nat) (m8 : Nat) (m9 : Nat) (th : Int32) (nb : Nat) (nq : Nat) (nr : Nat) (Q : Nat → Nat → Int32) (day : Nat) (co : Int32) (nw : Nat) (ca : Nat → Int32) (we : Nat → Int32) (bo : Nat → Int32) (k : Nat) (v : Nat) (hk : k < nr) (hnr : nr ≤ 3) (hv4 : v < 4) (hnw : nw ≤ 60) (hcar : ∀ w, w < nw → Q 14 w = -1 ∨ Q 13 w = 2) (hrw : we k = -1 ↔ ¬ nI day < bo k) : Met l yX6_raft wsX6_raft ({ frames := 4, cells := 0, slots := 0, locals := 89 }) (gPw [.ref mo, .int (nI k), .int (nI v)] D [(mo, .inr (6, [.int th, .int (nI nb), .int (nI nq), .int (nI nr), .ref m4, .ref m5, .ref m6, .ref m7, .ref m8, .ref m9])), (m7, .inl (cI, 300, .inl (enS Q))), (m8, .inl (cI, 6, .inl (enB ca we))), (m9, .inl (cI, 3, .inl (enN day co nw)))] (gT cI cZ cL)) (va_Qi (fun (zr : Int32) (_ : Unit) => zr = gRaft Q nw day ca bo v k) (fun _ t => va_P D vwCl [(mo, .inr (6, [.int 0, .int (nI nb), .int (nI nq), .int (nI nr), .ref m4, .ref m5, .ref m6, .ref m7, .ref m8, .ref m9])), (m7, .inl (cI, 300, .inl (enS Q))), (m8, .inl (cI, 6, .inl (enB ca we))), (m9, .inl (cI, 3, .inl (enN day co nw)))] t.heap) (gA (gL [(mo, .inr (6, [.int th, .int (nI nb), .int (nI nq), .int (nI nr), .ref m4, .ref m5, .ref m6, .ref m7, .ref m8, .ref m9])), (m7, .inl (cI, 300, .inl (enS Q))), (m8, .inl (cI, 6, .inl (enB ca we))), (m9, .inl (cI, 3, .inl (enN day co nw)))]))) 0 0 (gA (gL [(mo, .inr (6, [.int th, .int (nI nb), .int (nI nq), .int (nI nr), .ref m4, .ref m5, .ref m6, .ref m7, .ref m8, .ref m9])), (m7, .inl (cI, 300, .inl (enS Q))), (m8, .inl (cI, 6, .inl (enB ca we))), (m9, .inl (cI, 3, .inl (enN day co nw)))])) := by
  refine Met.ofW (cc := cX6_raft) (maxL := 3) (ret := (some .int)) (by decide +kernel) rfl ?_
  intro p e s m args below meth c s₁ B hml hv
  obtain ⟨rfl, hP, hK, hD0⟩ := hv
  have hx := B.exec
  have hb := B.bytes
  have hr := B.returns
  have hts := atoms_spec (ws := wsX6_raft) B.pre
  have hown : s.vm.findClass RX6 = some m.cls := findClass_of_methodNamed B.named
  have hlocks := B.notSynchronized
  have hD := gw_self hD0
  generalize hAe : gA (gL [(mo, .inr (6, [.int th, .int (nI nb), .int (nI nq), .int (nI nr), .ref m4, .ref m5, .ref m6, .ref m7, .ref m8, .ref m9])), (m7, .inl (cI, 300, .inl (enS Q))), (m8, .inl (cI, 6, .inl (enB ca we))), (m9, .inl (cI, 3, .inl (enN day co nw)))]) = A at hD ⊢
  have hS : va_S A s.heap s.heap [] := va_S.rf
  have hP : va_P D vwCl [(mo, .inr (6, [.int th, .int (nI nb), .int (nI nq), .int (nI nr), .ref m4, .ref m5, .ref m6, .ref m7, .ref m8, .ref m9])), (m7, .inl (cI, 300, .inl (enS Q))), (m8, .inl (cI, 6, .inl (enB ca we))), (m9, .inl (cI, 3, .inl (enN day co nw)))] s.heap := hP
  have hl := lv_entry ([.ref mo, .int (nI k), .int (nI v)]) (n := 3) (Nat.le_of_ble_eq_true rfl)
  rw [lg_entry_eq]
  generalize (lg_sl ([.ref mo, .int (nI k), .int (nI v)]) ++ List.replicate (3 - (lg_sl ([.ref mo, .int (nI k), .int (nI v)])).length) Slot.unset).toArray = ls at hl ⊢
  have hl : lv_has ls 3 [(0, .ref mo), (1, .int (nI k)), (2, .int (nI v))] := hl
  refine lv_aload_n hx hb dX6_raft_0 rfl (lv_at hl 0 rfl) ?_
  refine lv_iconst (v := 0) hx hb dX6_raft_1 (by decide) ?_
  refine va_put (D := D) (ci := 6) (v := .int 0) (ty := .int) (C := RX6) (T := TX6) (N := 10) hx hb hts wc_X6_raft_ok_X6 tyX6 tyX6_ok nmX6 hown hK hP hD hS 0 rfl rfl 0 (by decide) (hts _ wd_X6_raft_ok_1) (fun _ h9 => h9) rfl (by decide +kernel) rfl rfl (Nat.le_of_ble_eq_true rfl) dX6_raft_2 (fun H locs hP hD hS => ?_)
  have hP : va_P D vwCl [(mo, .inr (6, [.int 0, .int (nI nb), .int (nI nq), .int (nI nr), .ref m4, .ref m5, .ref m6, .ref m7, .ref m8, .ref m9])), (m7, .inl (cI, 300, .inl (enS Q))), (m8, .inl (cI, 6, .inl (enB ca we))), (m9, .inl (cI, 3, .inl (enN day co nw)))] H := hP
  have hD : va_D A [(mo, .inr (6, [.int 0, .int (nI nb), .int (nI nq), .int (nI nr), .ref m4, .ref m5, .ref m6, .ref m7, .ref m8, .ref m9])), (m7, .inl (cI, 300, .inl (enS Q))), (m8, .inl (cI, 6, .inl (enB ca we))), (m9, .inl (cI, 3, .inl (enN day co nw)))] := hD
  refine lv_aload_n hx hb dX6_raft_5 rfl (lv_at hl 0 rfl) ?_
  refine lv_iload_n hx hb dX6_raft_6 rfl (lv_at hl 1 rfl) ?_
  refine va_calli (va_runV (As := [.int (nI k)]) (rest := []) ⟨hx, hb, hml, hown, hts⟩ (met_X6_isRaft l D cI cZ cL mo m4 m5 m6 m7 m8 m9 0 nb nq nr (nI k) (by first | assumption | omega)) (cwV 1 hts gX6_raft_X6_isRaft rfl rfl rfl (by decide +kernel) ⟨Nat.le_of_ble_eq_true rfl, Nat.le_of_ble_eq_true rfl⟩) (gw_pvr hK hP (wc := [(mo, .inr (6, [.int 0, .int (nI nb), .int (nI nq), .int (nI nr), .ref m4, .ref m5, .ref m6, .ref m7, .ref m8, .ref m9]))]) [0] rfl 6 rfl rfl rfl) rfl rfl hl.1 rfl (lv_room (Nat.le_of_ble_eq_true rfl)) dX6_raft_7 ⟨Nat.zero_le _, Nat.zero_le _⟩) hS (fun _ _ z => z.elim) (fun _ z => z.elim) (fun r_2 _ t H1 locs ht hvm hw hB hz1 hk1 hS => ?_)
  have hP := gw_ro hP hk1
  generalize H1 = H at hP hS ⊢
  rcases hw with ⟨rfl, hc⟩ | ⟨rfl, hc⟩
  · skip
    refine lv_if_eq (tgt := 31) hx hb dX6_raft_10 (by decide) (fun c_4 => False.elim (by revert c_4; decide)) (fun _ => ?_)
    refine lv_iload_n hx hb dX6_raft_13 rfl (lv_at hl 2 rfl) ?_
    refine lv_iconst (v := 0) hx hb dX6_raft_14 (by decide) ?_
    refine lv_iconst (v := 3) hx hb dX6_raft_15 (by decide) ?_
    refine va_calli (va_runS (As := [.int (nI v), .int 0, .int 3]) (rest := []) ⟨hx, hb, hml, hown, hts⟩ (met_X6_isIn l D cI cZ cL (nI v) 0 3) (va_cwS 3 hts gX6_raft_X6_isIn rfl rfl rfl (by decide +kernel) ⟨Nat.le_of_ble_eq_true rfl, Nat.le_of_ble_eq_true rfl⟩) (gw_psr hK hP (wc := []) [] rfl) rfl rfl hl.1 rfl (lv_room (Nat.le_of_ble_eq_true rfl)) dX6_raft_16 ⟨Nat.zero_le _, Nat.zero_le _⟩) hS (fun _ _ z => z.elim) (fun _ z => z.elim) (fun r_6 _ t H1 locs ht hvm hw hB hz1 hk1 hS => ?_)
    have hP := gw_ro hP hk1
    generalize H1 = H at hP hS ⊢
    rcases hw with ⟨rfl, hc⟩ | ⟨rfl, hc⟩
    · skip
      refine lv_if_eq (tgt := 31) hx hb dX6_raft_19 (by decide) (fun c_8 => False.elim (by revert c_8; decide)) (fun _ => ?_)
      refine lv_aload_n hx hb dX6_raft_22 rfl (lv_at hl 0 rfl) ?_
      refine lv_iload_n hx hb dX6_raft_23 rfl (lv_at hl 1 rfl) ?_
      refine lv_iload_n hx hb dX6_raft_24 rfl (lv_at hl 2 rfl) ?_
      refine va_calli (va_runV (As := [.int (nI k), .int (nI v)]) (rest := []) ⟨hx, hb, hml, hown, hts⟩ (met_X6_raftTold l D cI cZ cL mo m4 m5 m6 m7 m8 m9 0 nb nq nr Q day co nw ca we bo k v (by first | assumption | omega) (by first | assumption | omega) (by first | assumption | omega) (by first | assumption | omega) (by first | assumption | omega)) (cwV 2 hts gX6_raft_X6_raftTold rfl rfl rfl (by decide +kernel) ⟨Nat.le_of_ble_eq_true rfl, Nat.le_of_ble_eq_true rfl⟩) (gw_pvr hK hP (wc := [(mo, .inr (6, [.int 0, .int (nI nb), .int (nI nq), .int (nI nr), .ref m4, .ref m5, .ref m6, .ref m7, .ref m8, .ref m9])), (m7, .inl (cI, 300, .inl (enS Q))), (m8, .inl (cI, 6, .inl (enB ca we))), (m9, .inl (cI, 3, .inl (enN day co nw)))]) [0, 1, 2, 3] rfl 6 rfl rfl rfl) rfl rfl hl.1 rfl (lv_room (Nat.le_of_ble_eq_true rfl)) dX6_raft_25 ⟨Nat.zero_le _, Nat.zero_le _⟩) hS (fun _ _ z => z.elim) (fun _ z => z.elim) (fun r_10 _ t H1 locs ht hvm hw hB hz1 hk1 hS => ?_)
      have hP := gw_ro hP hk1
      generalize H1 = H at hP hS ⊢
      subst hw
      refine lv_goto (tgt := 36) hx hb dX6_raft_28 (by decide) ?_
      subst hAe
      exact W.iret (v := gRaft Q nw day ca bo v k) hx hb hr (fun t ht hW => ⟨⟨_, (), rfl, rfl, gw_hh ht hP⟩, hS.F ht⟩) hS.2.2 dX6_raft_36
    · skip
      exact absurd (gw_in (n := 3) (by omega) (by decide)) hc
  · skip
    exact absurd ⟨k, hk, rfl⟩ hc

theorem wc_X6_count_ok_X6 : ∀ w ∈ u_ws RX6 TX6 10, w ∈ wsX6_count := by decide +kernel
theorem wd_X6_count_ok_1 : (.fieldLink RX6 28 "GritWheelsModel" "thrown" "I" : Cond) ∈ wsX6_count := by decide +kernel
set_option maxHeartbeats 4000000 in
set_option maxRecDepth 100000 in
theorem met_X6_count_ok (l : Launch) (D : va_G) (cI cZ cL : ClassId) (mo : Nat) (m4 : Nat) (m5 : Nat) (m6 : Nat) (m7 : Nat) (m8 : Nat) (m9 : Nat) (th : Int32) (nb : Nat) (nq : Nat) (nr : Nat) (Q : Nat → Nat → Int32) (day : Nat) (co : Int32) (nw : Nat) (v : Nat) (hv9 : v < 10) (hnq : nq ≤ 6) (hnw : nw ≤ 60) (hd : day < 2 ^ 31) : Met l yX6_count wsX6_count ({ frames := 2, cells := 0, slots := 0, locals := 45 }) (gPw [.ref mo, .int (nI v)] D [(mo, .inr (6, [.int th, .int (nI nb), .int (nI nq), .int (nI nr), .ref m4, .ref m5, .ref m6, .ref m7, .ref m8, .ref m9])), (m4, .inl (cI, 9, .inl (Q 0))), (m6, .inl (cI, 24, .inl (enP Q))), (m7, .inl (cI, 300, .inl (enS Q))), (m9, .inl (cI, 3, .inl (enN day co nw)))] (gT cI cZ cL)) (va_Qi (fun (zr : Int32) (_ : Unit) => zr = gCntC Q nq nw day co v) (fun _ t => va_P D vwCl [(mo, .inr (6, [.int 0, .int (nI nb), .int (nI nq), .int (nI nr), .ref m4, .ref m5, .ref m6, .ref m7, .ref m8, .ref m9])), (m4, .inl (cI, 9, .inl (Q 0))), (m6, .inl (cI, 24, .inl (enP Q))), (m7, .inl (cI, 300, .inl (enS Q))), (m9, .inl (cI, 3, .inl (enN day co nw)))] t.heap) (gA (gL [(mo, .inr (6, [.int th, .int (nI nb), .int (nI nq), .int (nI nr), .ref m4, .ref m5, .ref m6, .ref m7, .ref m8, .ref m9])), (m4, .inl (cI, 9, .inl (Q 0))), (m6, .inl (cI, 24, .inl (enP Q))), (m7, .inl (cI, 300, .inl (enS Q))), (m9, .inl (cI, 3, .inl (enN day co nw)))]))) 0 0 (gA (gL [(mo, .inr (6, [.int th, .int (nI nb), .int (nI nq), .int (nI nr), .ref m4, .ref m5, .ref m6, .ref m7, .ref m8, .ref m9])), (m4, .inl (cI, 9, .inl (Q 0))), (m6, .inl (cI, 24, .inl (enP Q))), (m7, .inl (cI, 300, .inl (enS Q))), (m9, .inl (cI, 3, .inl (enN day co nw)))])) := by
  refine Met.ofW (cc := cX6_count) (maxL := 2) (ret := (some .int)) (by decide +kernel) rfl ?_
  intro p e s m args below meth c s₁ B hml hv
  obtain ⟨rfl, hP, hK, hD0⟩ := hv
  have hx := B.exec
  have hb := B.bytes
  have hr := B.returns
  have hts := atoms_spec (ws := wsX6_count) B.pre
  have hown : s.vm.findClass RX6 = some m.cls := findClass_of_methodNamed B.named
  have hlocks := B.notSynchronized
  have hD := gw_self hD0
  generalize hAe : gA (gL [(mo, .inr (6, [.int th, .int (nI nb), .int (nI nq), .int (nI nr), .ref m4, .ref m5, .ref m6, .ref m7, .ref m8, .ref m9])), (m4, .inl (cI, 9, .inl (Q 0))), (m6, .inl (cI, 24, .inl (enP Q))), (m7, .inl (cI, 300, .inl (enS Q))), (m9, .inl (cI, 3, .inl (enN day co nw)))]) = A at hD ⊢
  have hS : va_S A s.heap s.heap [] := va_S.rf
  have hP : va_P D vwCl [(mo, .inr (6, [.int th, .int (nI nb), .int (nI nq), .int (nI nr), .ref m4, .ref m5, .ref m6, .ref m7, .ref m8, .ref m9])), (m4, .inl (cI, 9, .inl (Q 0))), (m6, .inl (cI, 24, .inl (enP Q))), (m7, .inl (cI, 300, .inl (enS Q))), (m9, .inl (cI, 3, .inl (enN day co nw)))] s.heap := hP
  have hl := lv_entry ([.ref mo, .int (nI v)]) (n := 2) (Nat.le_of_ble_eq_true rfl)
  rw [lg_entry_eq]
  generalize (lg_sl ([.ref mo, .int (nI v)]) ++ List.replicate (2 - (lg_sl ([.ref mo, .int (nI v)])).length) Slot.unset).toArray = ls at hl ⊢
  have hl : lv_has ls 2 [(0, .ref mo), (1, .int (nI v))] := hl
  refine lv_aload_n hx hb dX6_count_0 rfl (lv_at hl 0 rfl) ?_
  refine lv_iconst (v := 0) hx hb dX6_count_1 (by decide) ?_
  refine va_put (D := D) (ci := 6) (v := .int 0) (ty := .int) (C := RX6) (T := TX6) (N := 10) hx hb hts wc_X6_count_ok_X6 tyX6 tyX6_ok nmX6 hown hK hP hD hS 0 rfl rfl 0 (by decide) (hts _ wd_X6_count_ok_1) (fun _ h9 => h9) rfl (by decide +kernel) rfl rfl (Nat.le_of_ble_eq_true rfl) dX6_count_2 (fun H locs hP hD hS => ?_)
  have hP : va_P D vwCl [(mo, .inr (6, [.int 0, .int (nI nb), .int (nI nq), .int (nI nr), .ref m4, .ref m5, .ref m6, .ref m7, .ref m8, .ref m9])), (m4, .inl (cI, 9, .inl (Q 0))), (m6, .inl (cI, 24, .inl (enP Q))), (m7, .inl (cI, 300, .inl (enS Q))), (m9, .inl (cI, 3, .inl (enN day co nw)))] H := hP
  have hD : va_D A [(mo, .inr (6, [.int 0, .int (nI nb), .int (nI nq), .int (nI nr), .ref m4, .ref m5, .ref m6, .ref m7, .ref m8, .ref m9])), (m4, .inl (cI, 9, .inl (Q 0))), (m6, .inl (cI, 24, .inl (enP Q))), (m7, .inl (cI, 300, .inl (enS Q))), (m9, .inl (cI, 3, .inl (enN day co nw)))] := hD
  refine lv_iload_n hx hb dX6_count_5 rfl (lv_at hl 1 rfl) ?_
  refine lv_iconst (v := 0) hx hb dX6_count_6 (by decide) ?_
  refine lv_bipush (v := 9) hx hb dX6_count_7 (by decide) ?_
  refine va_calli (va_runS (As := [.int (nI v), .int 0, .int 9]) (rest := []) ⟨hx, hb, hml, hown, hts⟩ (met_X6_isIn l D cI cZ cL (nI v) 0 9) (va_cwS 3 hts gX6_count_X6_isIn rfl rfl rfl (by decide +kernel) ⟨Nat.le_of_ble_eq_true rfl, Nat.le_of_ble_eq_true rfl⟩) (gw_psr hK hP (wc := []) [] rfl) rfl rfl hl.1 rfl (lv_room (Nat.le_of_ble_eq_true rfl)) dX6_count_9 ⟨Nat.zero_le _, Nat.zero_le _⟩) hS (fun _ _ z => z.elim) (fun _ z => z.elim) (fun r_2 _ t H1 locs ht hvm hw hB hz1 hk1 hS => ?_)
  have hP := gw_ro hP hk1
  generalize H1 = H at hP hS ⊢
  rcases hw with ⟨rfl, hc⟩ | ⟨rfl, hc⟩
  · skip
    refine lv_if_eq (tgt := 23) hx hb dX6_count_12 (by decide) (fun c_4 => False.elim (by revert c_4; decide)) (fun _ => ?_)
    refine lv_aload_n hx hb dX6_count_15 rfl (lv_at hl 0 rfl) ?_
    refine lv_iload_n hx hb dX6_count_16 rfl (lv_at hl 1 rfl) ?_
    refine va_calli (va_runV (As := [.int (nI v)]) (rest := []) ⟨hx, hb, hml, hown, hts⟩ (met_X6_counted l D cI cZ cL mo m4 m5 m6 m7 m8 m9 0 nb nq nr Q day co nw v (by first | assumption | omega) (by first | assumption | omega) (by first | assumption | omega) (by first | assumption | omega)) (cwV 1 hts gX6_count_X6_counted rfl rfl rfl (by decide +kernel) ⟨Nat.le_of_ble_eq_true rfl, Nat.le_of_ble_eq_true rfl⟩) (gw_pvr hK hP (wc := [(mo, .inr (6, [.int 0, .int (nI nb), .int (nI nq), .int (nI nr), .ref m4, .ref m5, .ref m6, .ref m7, .ref m8, .ref m9])), (m4, .inl (cI, 9, .inl (Q 0))), (m6, .inl (cI, 24, .inl (enP Q))), (m7, .inl (cI, 300, .inl (enS Q))), (m9, .inl (cI, 3, .inl (enN day co nw)))]) [0, 1, 2, 3, 4] rfl 6 rfl rfl rfl) rfl rfl hl.1 rfl (lv_room (Nat.le_of_ble_eq_true rfl)) dX6_count_17 ⟨Nat.zero_le _, Nat.zero_le _⟩) hS (fun _ _ z => z.elim) (fun _ z => z.elim) (fun r_6 _ t H1 locs ht hvm hw hB hz1 hk1 hS => ?_)
    have hP := gw_ro hP hk1
    generalize H1 = H at hP hS ⊢
    subst hw
    refine lv_goto (tgt := 28) hx hb dX6_count_20 (by decide) ?_
    subst hAe
    exact W.iret (v := gCntC Q nq nw day co v) hx hb hr (fun t ht hW => ⟨⟨_, (), rfl, rfl, gw_hh ht hP⟩, hS.F ht⟩) hS.2.2 dX6_count_28
  · skip
    exact absurd (gw_in (n := 9) (by omega) (by decide)) hc
