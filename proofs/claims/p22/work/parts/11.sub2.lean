theorem wc_X0_giveBack_X0 : ∀ w ∈ u_ws RX0 TX0 5, w ∈ wsX0_giveBack := by decide +kernel
theorem wd_X0_giveBack_1 : (.fieldLink RX0 18 "GritWheels$Beds" "stone" "[I" : Cond) ∈ wsX0_giveBack := by decide +kernel
theorem wd_X0_giveBack_2 : (.methodLink RX0 32 Lib.Math.min.name : Cond) ∈ wsX0_giveBack := by decide +kernel
theorem wd_X0_giveBack_3 : (.static Lib.Math.min.name : Cond) ∈ wsX0_giveBack := by decide +kernel
theorem wd_X0_giveBack_4 : (.initialized "java/lang/Math" : Cond) ∈ wsX0_giveBack := by decide +kernel
theorem wd_X0_giveBack_5 : (.code Lib.Math.min.name Lib.Math.min.code 2 (some .int) : Cond) ∈ wsX0_giveBack := by decide +kernel
set_option maxHeartbeats 4000000 in
set_option maxRecDepth 100000 in
theorem met_X0_giveBack (l : Launch) (D : va_G) (cI cZ cL : ClassId) (bd : Nat) (bd0 : Nat) (bd1 : Nat) (bd2 : Nat) (bd3 : Nat) (nb : Nat) (st : Nat → Int32) (k : Nat) (y : Int32) (hk : k < nb) (hnb : nb ≤ 5) : Met l yX0_giveBack wsX0_giveBack ({ frames := 1, cells := 0, slots := 0, locals := 21 }) (gPw [.ref bd, .int (nI k), .int y] D [(bd, .inr (0, [.ref bd0, .ref bd1, .ref bd2, .ref bd3, .int (nI nb)])), (bd2, .inl (cI, 5, .inl st))] (gT cI cZ cL)) (va_Qi (fun (r : Int32) (_ : Unit) => r = if st k + y < 200 then st k + y else 200) (fun _ t => va_P D vwCl [(bd, .inr (0, [.ref bd0, .ref bd1, .ref bd2, .ref bd3, .int (nI nb)])), (bd2, .inl (cI, 5, .inl (upd st k (if st k + y < 200 then st k + y else 200))))] t.heap) (gA (gL [(bd, .inr (0, [.ref bd0, .ref bd1, .ref bd2, .ref bd3, .int (nI nb)])), (bd2, .inl (cI, 5, .inl st))]))) 0 0 (gA (gL [(bd, .inr (0, [.ref bd0, .ref bd1, .ref bd2, .ref bd3, .int (nI nb)])), (bd2, .inl (cI, 5, .inl st))])) := by
  refine Met.ofW (cc := cX0_giveBack) (maxL := 3) (ret := (some .int)) (by decide) rfl ?_
  intro p e s m args below meth c s₁ B hml hv
  obtain ⟨rfl, hP, hK, hD0⟩ := hv
  have hx := B.exec
  have hb := B.bytes
  have hr := B.returns
  have hts := atoms_spec (ws := wsX0_giveBack) B.pre
  have hown : s.vm.findClass RX0 = some m.cls := findClass_of_methodNamed B.named
  have hlocks := B.notSynchronized
  have hD := gw_self hD0
  generalize hAe : gA (gL [(bd, .inr (0, [.ref bd0, .ref bd1, .ref bd2, .ref bd3, .int (nI nb)])), (bd2, .inl (cI, 5, .inl st))]) = A at hD ⊢
  have hS : va_S A s.heap s.heap [] := va_S.rf
  have hP : va_P D vwCl [(bd, .inr (0, [.ref bd0, .ref bd1, .ref bd2, .ref bd3, .int (nI nb)])), (bd2, .inl (cI, 5, .inl st))] s.heap := hP
  have hl := lv_entry ([.ref bd, .int (nI k), .int y]) (n := 3) (Nat.le_of_ble_eq_true rfl)
  rw [lg_entry_eq]
  generalize (lg_sl ([.ref bd, .int (nI k), .int y]) ++ List.replicate (3 - (lg_sl ([.ref bd, .int (nI k), .int y])).length) Slot.unset).toArray = ls at hl ⊢
  have hl : lv_has ls 3 [(0, .ref bd), (1, .int (nI k)), (2, .int y)] := hl
  refine lv_aload_n hx hb dX0_giveBack_0 rfl (lv_at hl 0 rfl) ?_
  refine lv_iload_n hx hb dX0_giveBack_1 rfl (lv_at hl 1 rfl) ?_
  refine va_calli (va_runV (As := [.int (nI k)]) (rest := []) ⟨hx, hb, hml, hown, hts⟩ (met_X0_has l D cI cZ cL bd bd0 bd1 bd2 bd3 nb (nI k) (by first | assumption | omega)) (cwV 1 hts gX0_giveBack_X0_has rfl rfl rfl (by decide +kernel) ⟨Nat.le_of_ble_eq_true rfl, Nat.le_of_ble_eq_true rfl⟩) (gw_pvr hK hP (wc := [(bd, .inr (0, [.ref bd0, .ref bd1, .ref bd2, .ref bd3, .int (nI nb)]))]) [0] rfl 0 rfl rfl rfl) rfl rfl hl.1 rfl (lv_room (Nat.le_of_ble_eq_true rfl)) dX0_giveBack_2 ⟨Nat.zero_le _, Nat.zero_le _⟩) hS (fun _ _ z => z.elim) (fun _ z => z.elim) (fun r_2 _ t H1 locs ht hvm hw hB hz1 hk1 hS => ?_)
  have hP := gw_ro hP hk1
  generalize H1 = H at hP hS ⊢
  rcases hw with ⟨rfl, hc⟩ | ⟨rfl, hc⟩
  · skip
    refine lv_if_ne (tgt := 10) hx hb dX0_giveBack_5 (by decide) (fun _ => ?_) (fun c_4 => False.elim (by revert c_4; decide))
    refine lv_aload_n hx hb dX0_giveBack_10 rfl (lv_at hl 0 rfl) ?_
    refine va_get (D := D) (ci := 0) (v := .ref bd2) (C := RX0) (T := TX0) (N := 5) hx hb hts wc_X0_giveBack_X0 hown hK hP 0 rfl rfl 2 (by decide) (hts _ wd_X0_giveBack_1) (fun _ h9 => h9) rfl dX0_giveBack_11 ?_
    refine lv_iload_n hx hb dX0_giveBack_14 rfl (lv_at hl 1 rfl) ?_
    refine lv_sipush (v := 200) hx hb dX0_giveBack_15 (by decide) ?_
    refine lv_aload_n hx hb dX0_giveBack_18 rfl (lv_at hl 0 rfl) ?_
    refine va_get (D := D) (ci := 0) (v := .ref bd2) (C := RX0) (T := TX0) (N := 5) hx hb hts wc_X0_giveBack_X0 hown hK hP 0 rfl rfl 2 (by decide) (hts _ wd_X0_giveBack_1) (fun _ h9 => h9) rfl dX0_giveBack_19 ?_
    refine lv_iload_n hx hb dX0_giveBack_22 rfl (lv_at hl 1 rfl) ?_
    refine gw_iald hx hb hK hP 1 0 (k := k) rfl rfl (by omega) (by decide) dX0_giveBack_23 ?_
    refine lv_iload_n hx hb dX0_giveBack_24 rfl (lv_at hl 2 rfl) ?_
    refine lv_iadd hx hb dX0_giveBack_25 ?_
    refine va_mmin (own := RX0) hx hb (by rw [hml]; exact hl.1.symm) hown (hts _ wd_X0_giveBack_2) (hts _ wd_X0_giveBack_3) (hts _ wd_X0_giveBack_4) (hts _ wd_X0_giveBack_5) (Nat.le_of_ble_eq_true rfl) (Nat.le_of_ble_eq_true rfl) (Nat.zero_le _) (Nat.zero_le _) dX0_giveBack_26 ?_
    refine gw_iast hx hb hK hP hD hS 1 0 (k := k) rfl rfl (by omega) (by decide) dX0_giveBack_29 (fun H locs hP hD hS => ?_)
    have hP : va_P D vwCl [(bd, .inr (0, [.ref bd0, .ref bd1, .ref bd2, .ref bd3, .int (nI nb)])), (bd2, .inl (cI, 5, .inl (upd st k (if ((st k) + y) < 200 then ((st k) + y) else 200))))] H := hP
    have hD : va_D A [(bd, .inr (0, [.ref bd0, .ref bd1, .ref bd2, .ref bd3, .int (nI nb)])), (bd2, .inl (cI, 5, .inl (upd st k (if ((st k) + y) < 200 then ((st k) + y) else 200))))] := hD
    refine lv_aload_n hx hb dX0_giveBack_30 rfl (lv_at hl 0 rfl) ?_
    refine va_get (D := D) (ci := 0) (v := .ref bd2) (C := RX0) (T := TX0) (N := 5) hx hb hts wc_X0_giveBack_X0 hown hK hP 0 rfl rfl 2 (by decide) (hts _ wd_X0_giveBack_1) (fun _ h9 => h9) rfl dX0_giveBack_31 ?_
    refine lv_iload_n hx hb dX0_giveBack_34 rfl (lv_at hl 1 rfl) ?_
    refine gw_iald hx hb hK hP 1 0 (k := k) rfl rfl (by omega) (by decide) dX0_giveBack_35 ?_
    subst hAe
    exact W.iret (v := upd st k (if ((st k) + y) < 200 then ((st k) + y) else 200) k) hx hb hr (fun t ht hW => ⟨⟨_, (), rfl, upd_at, gw_hh ht hP⟩, hS.F ht⟩) hS.2.2 dX0_giveBack_36
  · skip
    exact absurd ⟨k, hk, rfl⟩ hc

theorem wc_X0_add_X0 : ∀ w ∈ u_ws RX0 TX0 5, w ∈ wsX0_add := by decide +kernel
theorem wd_X0_add_1 : (.fieldLink RX0 24 "GritWheels$Beds" "number" "I" : Cond) ∈ wsX0_add := by decide +kernel
theorem wd_X0_add_2 : (.fieldLink RX0 9 "GritWheels$Beds" "grit" "[I" : Cond) ∈ wsX0_add := by decide +kernel
theorem wd_X0_add_3 : (.fieldLink RX0 15 "GritWheels$Beds" "flaw" "[I" : Cond) ∈ wsX0_add := by decide +kernel
theorem wd_X0_add_4 : (.fieldLink RX0 18 "GritWheels$Beds" "stone" "[I" : Cond) ∈ wsX0_add := by decide +kernel
set_option maxHeartbeats 4000000 in
set_option maxRecDepth 100000 in
theorem met_X0_add (l : Launch) (D : va_G) (cI cZ cL : ClassId) (bd : Nat) (bd0 : Nat) (bd1 : Nat) (bd2 : Nat) (bd3 : Nat) (nb : Nat) (gr : Nat → Int32) (fl : Nat → Int32) (st : Nat → Int32) (y1 : Int32) (y2 : Int32) (y3 : Int32) (hnb : nb < 5) : Met l yX0_add wsX0_add ({ frames := 0, cells := 0, slots := 0, locals := 0 }) (gPw [.ref bd, .int y1, .int y2, .int y3] D [(bd, .inr (0, [.ref bd0, .ref bd1, .ref bd2, .ref bd3, .int (nI nb)])), (bd0, .inl (cI, 5, .inl gr)), (bd1, .inl (cI, 5, .inl fl)), (bd2, .inl (cI, 5, .inl st))] (gT cI cZ cL)) (va_Qi (fun (r : Int32) (_ : Unit) => r = nI nb) (fun _ t => va_P D vwCl [(bd, .inr (0, [.ref bd0, .ref bd1, .ref bd2, .ref bd3, .int (nI (nb + 1))])), (bd0, .inl (cI, 5, .inl (upd gr nb y1))), (bd1, .inl (cI, 5, .inl (upd fl nb y2))), (bd2, .inl (cI, 5, .inl (upd st nb y3)))] t.heap) (gA (gL [(bd, .inr (0, [.ref bd0, .ref bd1, .ref bd2, .ref bd3, .int (nI nb)])), (bd0, .inl (cI, 5, .inl gr)), (bd1, .inl (cI, 5, .inl fl)), (bd2, .inl (cI, 5, .inl st))]))) 0 0 (gA (gL [(bd, .inr (0, [.ref bd0, .ref bd1, .ref bd2, .ref bd3, .int (nI nb)])), (bd0, .inl (cI, 5, .inl gr)), (bd1, .inl (cI, 5, .inl fl)), (bd2, .inl (cI, 5, .inl st))])) := by
  refine Met.ofW (cc := cX0_add) (maxL := 4) (ret := (some .int)) (by decide) rfl ?_
  intro p e s m args below meth c s₁ B hml hv
  obtain ⟨rfl, hP, hK, hD0⟩ := hv
  have hx := B.exec
  have hb := B.bytes
  have hr := B.returns
  have hts := atoms_spec (ws := wsX0_add) B.pre
  have hown : s.vm.findClass RX0 = some m.cls := findClass_of_methodNamed B.named
  have hlocks := B.notSynchronized
  have hD := gw_self hD0
  generalize hAe : gA (gL [(bd, .inr (0, [.ref bd0, .ref bd1, .ref bd2, .ref bd3, .int (nI nb)])), (bd0, .inl (cI, 5, .inl gr)), (bd1, .inl (cI, 5, .inl fl)), (bd2, .inl (cI, 5, .inl st))]) = A at hD ⊢
  have hS : va_S A s.heap s.heap [] := va_S.rf
  have hP : va_P D vwCl [(bd, .inr (0, [.ref bd0, .ref bd1, .ref bd2, .ref bd3, .int (nI nb)])), (bd0, .inl (cI, 5, .inl gr)), (bd1, .inl (cI, 5, .inl fl)), (bd2, .inl (cI, 5, .inl st))] s.heap := hP
  have hl := lv_entry ([.ref bd, .int y1, .int y2, .int y3]) (n := 4) (Nat.le_of_ble_eq_true rfl)
  rw [lg_entry_eq]
  generalize (lg_sl ([.ref bd, .int y1, .int y2, .int y3]) ++ List.replicate (4 - (lg_sl ([.ref bd, .int y1, .int y2, .int y3])).length) Slot.unset).toArray = ls at hl ⊢
  have hl : lv_has ls 4 [(0, .ref bd), (1, .int y1), (2, .int y2), (3, .int y3)] := hl
  refine lv_aload_n hx hb dX0_add_0 rfl (lv_at hl 0 rfl) ?_
  refine va_get (D := D) (ci := 0) (v := .int (nI nb)) (C := RX0) (T := TX0) (N := 5) hx hb hts wc_X0_add_X0 hown hK hP 0 rfl rfl 4 (by decide) (hts _ wd_X0_add_1) (fun _ h9 => h9) rfl dX0_add_1 ?_
  refine lv_iconst (v := 5) hx hb dX0_add_4 (by decide) ?_
  refine lv_icmp_lt (tgt := 10) hx hb dX0_add_5 (by decide) (fun c_1 => ?_) (fun c_1 => absurd (show nI nb < 5 from nI_lt hnb (by decide)) c_1)
  refine lv_aload_n hx hb dX0_add_10 rfl (lv_at hl 0 rfl) ?_
  refine va_get (D := D) (ci := 0) (v := .ref bd0) (C := RX0) (T := TX0) (N := 5) hx hb hts wc_X0_add_X0 hown hK hP 0 rfl rfl 0 (by decide) (hts _ wd_X0_add_2) (fun _ h9 => h9) rfl dX0_add_11 ?_
  refine lv_aload_n hx hb dX0_add_14 rfl (lv_at hl 0 rfl) ?_
  refine va_get (D := D) (ci := 0) (v := .int (nI nb)) (C := RX0) (T := TX0) (N := 5) hx hb hts wc_X0_add_X0 hown hK hP 0 rfl rfl 4 (by decide) (hts _ wd_X0_add_1) (fun _ h9 => h9) rfl dX0_add_15 ?_
  refine lv_iload_n hx hb dX0_add_18 rfl (lv_at hl 1 rfl) ?_
  refine gw_iast hx hb hK hP hD hS 1 0 (k := nb) rfl rfl (by omega) (by decide) dX0_add_19 (fun H locs hP hD hS => ?_)
  have hP : va_P D vwCl [(bd, .inr (0, [.ref bd0, .ref bd1, .ref bd2, .ref bd3, .int (nI nb)])), (bd0, .inl (cI, 5, .inl (upd gr nb y1))), (bd1, .inl (cI, 5, .inl fl)), (bd2, .inl (cI, 5, .inl st))] H := hP
  have hD : va_D A [(bd, .inr (0, [.ref bd0, .ref bd1, .ref bd2, .ref bd3, .int (nI nb)])), (bd0, .inl (cI, 5, .inl (upd gr nb y1))), (bd1, .inl (cI, 5, .inl fl)), (bd2, .inl (cI, 5, .inl st))] := hD
  refine lv_aload_n hx hb dX0_add_20 rfl (lv_at hl 0 rfl) ?_
  refine va_get (D := D) (ci := 0) (v := .ref bd1) (C := RX0) (T := TX0) (N := 5) hx hb hts wc_X0_add_X0 hown hK hP 0 rfl rfl 1 (by decide) (hts _ wd_X0_add_3) (fun _ h9 => h9) rfl dX0_add_21 ?_
  refine lv_aload_n hx hb dX0_add_24 rfl (lv_at hl 0 rfl) ?_
  refine va_get (D := D) (ci := 0) (v := .int (nI nb)) (C := RX0) (T := TX0) (N := 5) hx hb hts wc_X0_add_X0 hown hK hP 0 rfl rfl 4 (by decide) (hts _ wd_X0_add_1) (fun _ h9 => h9) rfl dX0_add_25 ?_
  refine lv_iload_n hx hb dX0_add_28 rfl (lv_at hl 2 rfl) ?_
  refine gw_iast hx hb hK hP hD hS 2 0 (k := nb) rfl rfl (by omega) (by decide) dX0_add_29 (fun H locs hP hD hS => ?_)
  have hP : va_P D vwCl [(bd, .inr (0, [.ref bd0, .ref bd1, .ref bd2, .ref bd3, .int (nI nb)])), (bd0, .inl (cI, 5, .inl (upd gr nb y1))), (bd1, .inl (cI, 5, .inl (upd fl nb y2))), (bd2, .inl (cI, 5, .inl st))] H := hP
  have hD : va_D A [(bd, .inr (0, [.ref bd0, .ref bd1, .ref bd2, .ref bd3, .int (nI nb)])), (bd0, .inl (cI, 5, .inl (upd gr nb y1))), (bd1, .inl (cI, 5, .inl (upd fl nb y2))), (bd2, .inl (cI, 5, .inl st))] := hD
  refine lv_aload_n hx hb dX0_add_30 rfl (lv_at hl 0 rfl) ?_
  refine va_get (D := D) (ci := 0) (v := .ref bd2) (C := RX0) (T := TX0) (N := 5) hx hb hts wc_X0_add_X0 hown hK hP 0 rfl rfl 2 (by decide) (hts _ wd_X0_add_4) (fun _ h9 => h9) rfl dX0_add_31 ?_
  refine lv_aload_n hx hb dX0_add_34 rfl (lv_at hl 0 rfl) ?_
  refine va_get (D := D) (ci := 0) (v := .int (nI nb)) (C := RX0) (T := TX0) (N := 5) hx hb hts wc_X0_add_X0 hown hK hP 0 rfl rfl 4 (by decide) (hts _ wd_X0_add_1) (fun _ h9 => h9) rfl dX0_add_35 ?_
  refine lv_iload_n hx hb dX0_add_38 rfl (lv_at hl 3 rfl) ?_
  refine gw_iast hx hb hK hP hD hS 3 0 (k := nb) rfl rfl (by omega) (by decide) dX0_add_39 (fun H locs hP hD hS => ?_)
  have hP : va_P D vwCl [(bd, .inr (0, [.ref bd0, .ref bd1, .ref bd2, .ref bd3, .int (nI nb)])), (bd0, .inl (cI, 5, .inl (upd gr nb y1))), (bd1, .inl (cI, 5, .inl (upd fl nb y2))), (bd2, .inl (cI, 5, .inl (upd st nb y3)))] H := hP
  have hD : va_D A [(bd, .inr (0, [.ref bd0, .ref bd1, .ref bd2, .ref bd3, .int (nI nb)])), (bd0, .inl (cI, 5, .inl (upd gr nb y1))), (bd1, .inl (cI, 5, .inl (upd fl nb y2))), (bd2, .inl (cI, 5, .inl (upd st nb y3)))] := hD
  refine lv_aload_n hx hb dX0_add_40 rfl (lv_at hl 0 rfl) ?_
  refine lv_dup hx hb dX0_add_41 rfl ?_
  refine va_get (D := D) (ci := 0) (v := .int (nI nb)) (C := RX0) (T := TX0) (N := 5) hx hb hts wc_X0_add_X0 hown hK hP 0 rfl rfl 4 (by decide) (hts _ wd_X0_add_1) (fun _ h9 => h9) rfl dX0_add_42 ?_
  refine lv_dup_x1 hx hb dX0_add_45 rfl rfl ?_
  refine lv_iconst (v := 1) hx hb dX0_add_46 (by decide) ?_
  refine lv_iadd hx hb dX0_add_47 ?_
  refine gw_top (y := nI (nb + 1)) (nI_add nb 1) ?_
  refine va_put (D := D) (ci := 0) (v := .int (nI (nb + 1))) (ty := .int) (C := RX0) (T := TX0) (N := 5) hx hb hts wc_X0_add_X0 tyX0 tyX0_ok nmX0 hown hK hP hD hS 0 rfl rfl 4 (by decide) (hts _ wd_X0_add_1) (fun _ h9 => h9) rfl (by decide +kernel) rfl rfl (Nat.le_of_ble_eq_true rfl) dX0_add_48 (fun H locs hP hD hS => ?_)
  have hP : va_P D vwCl [(bd, .inr (0, [.ref bd0, .ref bd1, .ref bd2, .ref bd3, .int (nI (nb + 1))])), (bd0, .inl (cI, 5, .inl (upd gr nb y1))), (bd1, .inl (cI, 5, .inl (upd fl nb y2))), (bd2, .inl (cI, 5, .inl (upd st nb y3)))] H := hP
  have hD : va_D A [(bd, .inr (0, [.ref bd0, .ref bd1, .ref bd2, .ref bd3, .int (nI (nb + 1))])), (bd0, .inl (cI, 5, .inl (upd gr nb y1))), (bd1, .inl (cI, 5, .inl (upd fl nb y2))), (bd2, .inl (cI, 5, .inl (upd st nb y3)))] := hD
  subst hAe
  exact W.iret (v := nI nb) hx hb hr (fun t ht hW => ⟨⟨_, (), rfl, rfl, gw_hh ht hP⟩, hS.F ht⟩) hS.2.2 dX0_add_51

theorem wc_X1_add_X1 : ∀ w ∈ u_ws RX1 TX1 5, w ∈ wsX1_add := by decide +kernel
theorem wd_X1_add_1 : (.fieldLink RX1 24 "GritWheels$Crew" "number" "I" : Cond) ∈ wsX1_add := by decide +kernel
theorem wd_X1_add_2 : (.fieldLink RX1 9 "GritWheels$Crew" "skill" "[I" : Cond) ∈ wsX1_add := by decide +kernel
theorem wd_X1_add_3 : (.fieldLink RX1 15 "GritWheels$Crew" "place" "[I" : Cond) ∈ wsX1_add := by decide +kernel
set_option maxHeartbeats 4000000 in
set_option maxRecDepth 100000 in
theorem met_X1_add (l : Launch) (D : va_G) (cI cZ cL : ClassId) (cr : Nat) (cr0 : Nat) (cr1 : Nat) (cr2 : Nat) (cr3 : Nat) (nq : Nat) (sk : Nat → Int32) (pl : Nat → Int32) (y : Int32) (hnq : nq < 6) : Met l yX1_add wsX1_add ({ frames := 0, cells := 0, slots := 0, locals := 0 }) (gPw [.ref cr, .int y] D [(cr, .inr (1, [.ref cr0, .ref cr1, .ref cr2, .ref cr3, .int (nI nq)])), (cr0, .inl (cI, 6, .inl sk)), (cr1, .inl (cI, 6, .inl pl))] (gT cI cZ cL)) (va_Qi (fun (r : Int32) (_ : Unit) => r = nI nq) (fun _ t => va_P D vwCl [(cr, .inr (1, [.ref cr0, .ref cr1, .ref cr2, .ref cr3, .int (nI (nq + 1))])), (cr0, .inl (cI, 6, .inl (upd sk nq y))), (cr1, .inl (cI, 6, .inl (upd pl nq (-1))))] t.heap) (gA (gL [(cr, .inr (1, [.ref cr0, .ref cr1, .ref cr2, .ref cr3, .int (nI nq)])), (cr0, .inl (cI, 6, .inl sk)), (cr1, .inl (cI, 6, .inl pl))]))) 0 0 (gA (gL [(cr, .inr (1, [.ref cr0, .ref cr1, .ref cr2, .ref cr3, .int (nI nq)])), (cr0, .inl (cI, 6, .inl sk)), (cr1, .inl (cI, 6, .inl pl))])) := by
  refine Met.ofW (cc := cX1_add) (maxL := 2) (ret := (some .int)) (by decide) rfl ?_
  intro p e s m args below meth c s₁ B hml hv
  obtain ⟨rfl, hP, hK, hD0⟩ := hv
  have hx := B.exec
  have hb := B.bytes
  have hr := B.returns
  have hts := atoms_spec (ws := wsX1_add) B.pre
  have hown : s.vm.findClass RX1 = some m.cls := findClass_of_methodNamed B.named
  have hlocks := B.notSynchronized
  have hD := gw_self hD0
  generalize hAe : gA (gL [(cr, .inr (1, [.ref cr0, .ref cr1, .ref cr2, .ref cr3, .int (nI nq)])), (cr0, .inl (cI, 6, .inl sk)), (cr1, .inl (cI, 6, .inl pl))]) = A at hD ⊢
  have hS : va_S A s.heap s.heap [] := va_S.rf
  have hP : va_P D vwCl [(cr, .inr (1, [.ref cr0, .ref cr1, .ref cr2, .ref cr3, .int (nI nq)])), (cr0, .inl (cI, 6, .inl sk)), (cr1, .inl (cI, 6, .inl pl))] s.heap := hP
  have hl := lv_entry ([.ref cr, .int y]) (n := 2) (Nat.le_of_ble_eq_true rfl)
  rw [lg_entry_eq]
  generalize (lg_sl ([.ref cr, .int y]) ++ List.replicate (2 - (lg_sl ([.ref cr, .int y])).length) Slot.unset).toArray = ls at hl ⊢
  have hl : lv_has ls 2 [(0, .ref cr), (1, .int y)] := hl
  refine lv_aload_n hx hb dX1_add_0 rfl (lv_at hl 0 rfl) ?_
  refine va_get (D := D) (ci := 1) (v := .int (nI nq)) (C := RX1) (T := TX1) (N := 5) hx hb hts wc_X1_add_X1 hown hK hP 0 rfl rfl 4 (by decide) (hts _ wd_X1_add_1) (fun _ h9 => h9) rfl dX1_add_1 ?_
  refine lv_bipush (v := 6) hx hb dX1_add_4 (by decide) ?_
  refine lv_icmp_lt (tgt := 11) hx hb dX1_add_6 (by decide) (fun c_1 => ?_) (fun c_1 => absurd (show nI nq < 6 from nI_lt hnq (by decide)) c_1)
  refine lv_aload_n hx hb dX1_add_11 rfl (lv_at hl 0 rfl) ?_
  refine va_get (D := D) (ci := 1) (v := .ref cr0) (C := RX1) (T := TX1) (N := 5) hx hb hts wc_X1_add_X1 hown hK hP 0 rfl rfl 0 (by decide) (hts _ wd_X1_add_2) (fun _ h9 => h9) rfl dX1_add_12 ?_
  refine lv_aload_n hx hb dX1_add_15 rfl (lv_at hl 0 rfl) ?_
  refine va_get (D := D) (ci := 1) (v := .int (nI nq)) (C := RX1) (T := TX1) (N := 5) hx hb hts wc_X1_add_X1 hown hK hP 0 rfl rfl 4 (by decide) (hts _ wd_X1_add_1) (fun _ h9 => h9) rfl dX1_add_16 ?_
  refine lv_iload_n hx hb dX1_add_19 rfl (lv_at hl 1 rfl) ?_
  refine gw_iast hx hb hK hP hD hS 1 0 (k := nq) rfl rfl (by omega) (by decide) dX1_add_20 (fun H locs hP hD hS => ?_)
  have hP : va_P D vwCl [(cr, .inr (1, [.ref cr0, .ref cr1, .ref cr2, .ref cr3, .int (nI nq)])), (cr0, .inl (cI, 6, .inl (upd sk nq y))), (cr1, .inl (cI, 6, .inl pl))] H := hP
  have hD : va_D A [(cr, .inr (1, [.ref cr0, .ref cr1, .ref cr2, .ref cr3, .int (nI nq)])), (cr0, .inl (cI, 6, .inl (upd sk nq y))), (cr1, .inl (cI, 6, .inl pl))] := hD
  refine lv_aload_n hx hb dX1_add_21 rfl (lv_at hl 0 rfl) ?_
  refine va_get (D := D) (ci := 1) (v := .ref cr1) (C := RX1) (T := TX1) (N := 5) hx hb hts wc_X1_add_X1 hown hK hP 0 rfl rfl 1 (by decide) (hts _ wd_X1_add_3) (fun _ h9 => h9) rfl dX1_add_22 ?_
  refine lv_aload_n hx hb dX1_add_25 rfl (lv_at hl 0 rfl) ?_
  refine va_get (D := D) (ci := 1) (v := .int (nI nq)) (C := RX1) (T := TX1) (N := 5) hx hb hts wc_X1_add_X1 hown hK hP 0 rfl rfl 4 (by decide) (hts _ wd_X1_add_1) (fun _ h9 => h9) rfl dX1_add_26 ?_
  refine lv_iconst (v := (-1)) hx hb dX1_add_29 (by decide) ?_
  refine gw_iast hx hb hK hP hD hS 2 0 (k := nq) rfl rfl (by omega) (by decide) dX1_add_30 (fun H locs hP hD hS => ?_)
  have hP : va_P D vwCl [(cr, .inr (1, [.ref cr0, .ref cr1, .ref cr2, .ref cr3, .int (nI nq)])), (cr0, .inl (cI, 6, .inl (upd sk nq y))), (cr1, .inl (cI, 6, .inl (upd pl nq (-1))))] H := hP
  have hD : va_D A [(cr, .inr (1, [.ref cr0, .ref cr1, .ref cr2, .ref cr3, .int (nI nq)])), (cr0, .inl (cI, 6, .inl (upd sk nq y))), (cr1, .inl (cI, 6, .inl (upd pl nq (-1))))] := hD
  refine lv_aload_n hx hb dX1_add_31 rfl (lv_at hl 0 rfl) ?_
  refine lv_dup hx hb dX1_add_32 rfl ?_
  refine va_get (D := D) (ci := 1) (v := .int (nI nq)) (C := RX1) (T := TX1) (N := 5) hx hb hts wc_X1_add_X1 hown hK hP 0 rfl rfl 4 (by decide) (hts _ wd_X1_add_1) (fun _ h9 => h9) rfl dX1_add_33 ?_
  refine lv_dup_x1 hx hb dX1_add_36 rfl rfl ?_
  refine lv_iconst (v := 1) hx hb dX1_add_37 (by decide) ?_
  refine lv_iadd hx hb dX1_add_38 ?_
  refine gw_top (y := nI (nq + 1)) (nI_add nq 1) ?_
  refine va_put (D := D) (ci := 1) (v := .int (nI (nq + 1))) (ty := .int) (C := RX1) (T := TX1) (N := 5) hx hb hts wc_X1_add_X1 tyX1 tyX1_ok nmX1 hown hK hP hD hS 0 rfl rfl 4 (by decide) (hts _ wd_X1_add_1) (fun _ h9 => h9) rfl (by decide +kernel) rfl rfl (Nat.le_of_ble_eq_true rfl) dX1_add_39 (fun H locs hP hD hS => ?_)
  have hP : va_P D vwCl [(cr, .inr (1, [.ref cr0, .ref cr1, .ref cr2, .ref cr3, .int (nI (nq + 1))])), (cr0, .inl (cI, 6, .inl (upd sk nq y))), (cr1, .inl (cI, 6, .inl (upd pl nq (-1))))] H := hP
  have hD : va_D A [(cr, .inr (1, [.ref cr0, .ref cr1, .ref cr2, .ref cr3, .int (nI (nq + 1))])), (cr0, .inl (cI, 6, .inl (upd sk nq y))), (cr1, .inl (cI, 6, .inl (upd pl nq (-1))))] := hD
  subst hAe
  exact W.iret (v := nI nq) hx hb hr (fun t ht hW => ⟨⟨_, (), rfl, rfl, gw_hh ht hP⟩, hS.F ht⟩) hS.2.2 dX1_add_42

theorem wc_X1_toil_X1 : ∀ w ∈ u_ws RX1 TX1 5, w ∈ wsX1_toil := by decide +kernel
theorem wd_X1_toil_1 : (.fieldLink RX1 21 "GritWheels$Crew" "work" "[I" : Cond) ∈ wsX1_toil := by decide +kernel
theorem wd_X1_toil_2 : (.fieldLink RX1 9 "GritWheels$Crew" "skill" "[I" : Cond) ∈ wsX1_toil := by decide +kernel
theorem wd_X1_toil_3 : (.fieldLink RX1 18 "GritWheels$Crew" "dust" "[I" : Cond) ∈ wsX1_toil := by decide +kernel
theorem wd_X1_toil_4 : (.methodLink RX1 28 Lib.Math.min.name : Cond) ∈ wsX1_toil := by decide +kernel
theorem wd_X1_toil_5 : (.static Lib.Math.min.name : Cond) ∈ wsX1_toil := by decide +kernel
theorem wd_X1_toil_6 : (.initialized "java/lang/Math" : Cond) ∈ wsX1_toil := by decide +kernel
theorem wd_X1_toil_7 : (.code Lib.Math.min.name Lib.Math.min.code 2 (some .int) : Cond) ∈ wsX1_toil := by decide +kernel
set_option maxHeartbeats 4000000 in
set_option maxRecDepth 100000 in
theorem met_X1_toil (l : Launch) (D : va_G) (cI cZ cL : ClassId) (cr : Nat) (cr0 : Nat) (cr1 : Nat) (cr2 : Nat) (cr3 : Nat) (nq : Nat) (sk : Nat → Int32) (du : Nat → Int32) (wo : Nat → Int32) (k : Nat) (y : Int32) (hk : k < 6) : Met l yX1_toil wsX1_toil ({ frames := 1, cells := 0, slots := 0, locals := 21 }) (gPw [.ref cr, .int (nI k), .int y] D [(cr, .inr (1, [.ref cr0, .ref cr1, .ref cr2, .ref cr3, .int (nI nq)])), (cr0, .inl (cI, 6, .inl sk)), (cr2, .inl (cI, 6, .inl du)), (cr3, .inl (cI, 6, .inl wo))] (gT cI cZ cL)) (va_Qv (fun (_ : Unit) => True) (fun _ t => va_P D vwCl [(cr, .inr (1, [.ref cr0, .ref cr1, .ref cr2, .ref cr3, .int (nI nq)])), (cr0, .inl (cI, 6, .inl sk)), (cr2, .inl (cI, 6, .inl (upd du k (if du k + y < 100 then du k + y else 100)))), (cr3, .inl (cI, 6, .inl (upd wo k (wo k + sk k))))] t.heap) (gA (gL [(cr, .inr (1, [.ref cr0, .ref cr1, .ref cr2, .ref cr3, .int (nI nq)])), (cr0, .inl (cI, 6, .inl sk)), (cr2, .inl (cI, 6, .inl du)), (cr3, .inl (cI, 6, .inl wo))]))) 0 0 (gA (gL [(cr, .inr (1, [.ref cr0, .ref cr1, .ref cr2, .ref cr3, .int (nI nq)])), (cr0, .inl (cI, 6, .inl sk)), (cr2, .inl (cI, 6, .inl du)), (cr3, .inl (cI, 6, .inl wo))])) := by
  refine Met.ofW (cc := cX1_toil) (maxL := 3) (ret := none) (by decide) rfl ?_
  intro p e s m args below meth c s₁ B hml hv
  obtain ⟨rfl, hP, hK, hD0⟩ := hv
  have hx := B.exec
  have hb := B.bytes
  have hr := B.returns
  have hts := atoms_spec (ws := wsX1_toil) B.pre
  have hown : s.vm.findClass RX1 = some m.cls := findClass_of_methodNamed B.named
  have hlocks := B.notSynchronized
  have hD := gw_self hD0
  generalize hAe : gA (gL [(cr, .inr (1, [.ref cr0, .ref cr1, .ref cr2, .ref cr3, .int (nI nq)])), (cr0, .inl (cI, 6, .inl sk)), (cr2, .inl (cI, 6, .inl du)), (cr3, .inl (cI, 6, .inl wo))]) = A at hD ⊢
  have hS : va_S A s.heap s.heap [] := va_S.rf
  have hP : va_P D vwCl [(cr, .inr (1, [.ref cr0, .ref cr1, .ref cr2, .ref cr3, .int (nI nq)])), (cr0, .inl (cI, 6, .inl sk)), (cr2, .inl (cI, 6, .inl du)), (cr3, .inl (cI, 6, .inl wo))] s.heap := hP
  have hl := lv_entry ([.ref cr, .int (nI k), .int y]) (n := 3) (Nat.le_of_ble_eq_true rfl)
  rw [lg_entry_eq]
  generalize (lg_sl ([.ref cr, .int (nI k), .int y]) ++ List.replicate (3 - (lg_sl ([.ref cr, .int (nI k), .int y])).length) Slot.unset).toArray = ls at hl ⊢
  have hl : lv_has ls 3 [(0, .ref cr), (1, .int (nI k)), (2, .int y)] := hl
  refine lv_aload_n hx hb dX1_toil_0 rfl (lv_at hl 0 rfl) ?_
  refine va_get (D := D) (ci := 1) (v := .ref cr3) (C := RX1) (T := TX1) (N := 5) hx hb hts wc_X1_toil_X1 hown hK hP 0 rfl rfl 3 (by decide) (hts _ wd_X1_toil_1) (fun _ h9 => h9) rfl dX1_toil_1 ?_
  refine lv_iload_n hx hb dX1_toil_4 rfl (lv_at hl 1 rfl) ?_
  refine lv_dup2_11 hx hb dX1_toil_5 rfl rfl ?_
  refine gw_iald hx hb hK hP 3 0 (k := k) rfl rfl (by omega) (by decide) dX1_toil_6 ?_
  refine lv_aload_n hx hb dX1_toil_7 rfl (lv_at hl 0 rfl) ?_
  refine va_get (D := D) (ci := 1) (v := .ref cr0) (C := RX1) (T := TX1) (N := 5) hx hb hts wc_X1_toil_X1 hown hK hP 0 rfl rfl 0 (by decide) (hts _ wd_X1_toil_2) (fun _ h9 => h9) rfl dX1_toil_8 ?_
  refine lv_iload_n hx hb dX1_toil_11 rfl (lv_at hl 1 rfl) ?_
  refine gw_iald hx hb hK hP 1 0 (k := k) rfl rfl (by omega) (by decide) dX1_toil_12 ?_
  refine lv_iadd hx hb dX1_toil_13 ?_
  refine gw_iast hx hb hK hP hD hS 3 0 (k := k) rfl rfl (by omega) (by decide) dX1_toil_14 (fun H locs hP hD hS => ?_)
  have hP : va_P D vwCl [(cr, .inr (1, [.ref cr0, .ref cr1, .ref cr2, .ref cr3, .int (nI nq)])), (cr0, .inl (cI, 6, .inl sk)), (cr2, .inl (cI, 6, .inl du)), (cr3, .inl (cI, 6, .inl (upd wo k ((wo k) + (sk k)))))] H := hP
  have hD : va_D A [(cr, .inr (1, [.ref cr0, .ref cr1, .ref cr2, .ref cr3, .int (nI nq)])), (cr0, .inl (cI, 6, .inl sk)), (cr2, .inl (cI, 6, .inl du)), (cr3, .inl (cI, 6, .inl (upd wo k ((wo k) + (sk k)))))] := hD
  refine lv_aload_n hx hb dX1_toil_15 rfl (lv_at hl 0 rfl) ?_
  refine va_get (D := D) (ci := 1) (v := .ref cr2) (C := RX1) (T := TX1) (N := 5) hx hb hts wc_X1_toil_X1 hown hK hP 0 rfl rfl 2 (by decide) (hts _ wd_X1_toil_3) (fun _ h9 => h9) rfl dX1_toil_16 ?_
  refine lv_iload_n hx hb dX1_toil_19 rfl (lv_at hl 1 rfl) ?_
  refine lv_bipush (v := 100) hx hb dX1_toil_20 (by decide) ?_
  refine lv_aload_n hx hb dX1_toil_22 rfl (lv_at hl 0 rfl) ?_
  refine va_get (D := D) (ci := 1) (v := .ref cr2) (C := RX1) (T := TX1) (N := 5) hx hb hts wc_X1_toil_X1 hown hK hP 0 rfl rfl 2 (by decide) (hts _ wd_X1_toil_3) (fun _ h9 => h9) rfl dX1_toil_23 ?_
  refine lv_iload_n hx hb dX1_toil_26 rfl (lv_at hl 1 rfl) ?_
  refine gw_iald hx hb hK hP 2 0 (k := k) rfl rfl (by omega) (by decide) dX1_toil_27 ?_
  refine lv_iload_n hx hb dX1_toil_28 rfl (lv_at hl 2 rfl) ?_
  refine lv_iadd hx hb dX1_toil_29 ?_
  refine va_mmin (own := RX1) hx hb (by rw [hml]; exact hl.1.symm) hown (hts _ wd_X1_toil_4) (hts _ wd_X1_toil_5) (hts _ wd_X1_toil_6) (hts _ wd_X1_toil_7) (Nat.le_of_ble_eq_true rfl) (Nat.le_of_ble_eq_true rfl) (Nat.zero_le _) (Nat.zero_le _) dX1_toil_30 ?_
  refine gw_iast hx hb hK hP hD hS 2 0 (k := k) rfl rfl (by omega) (by decide) dX1_toil_33 (fun H locs hP hD hS => ?_)
  have hP : va_P D vwCl [(cr, .inr (1, [.ref cr0, .ref cr1, .ref cr2, .ref cr3, .int (nI nq)])), (cr0, .inl (cI, 6, .inl sk)), (cr2, .inl (cI, 6, .inl (upd du k (if ((du k) + y) < 100 then ((du k) + y) else 100)))), (cr3, .inl (cI, 6, .inl (upd wo k ((wo k) + (sk k)))))] H := hP
  have hD : va_D A [(cr, .inr (1, [.ref cr0, .ref cr1, .ref cr2, .ref cr3, .int (nI nq)])), (cr0, .inl (cI, 6, .inl sk)), (cr2, .inl (cI, 6, .inl (upd du k (if ((du k) + y) < 100 then ((du k) + y) else 100)))), (cr3, .inl (cI, 6, .inl (upd wo k ((wo k) + (sk k)))))] := hD
  subst hAe
  exact W.vret hx hb hr (fun t ht hW => ⟨⟨(), rfl, trivial, gw_hh ht hP⟩, hS.F ht⟩) hS.2.2 dX1_toil_34

theorem wc_X1_loseDust_X1 : ∀ w ∈ u_ws RX1 TX1 5, w ∈ wsX1_loseDust := by decide +kernel
theorem wd_X1_loseDust_1 : (.fieldLink RX1 24 "GritWheels$Crew" "number" "I" : Cond) ∈ wsX1_loseDust := by decide +kernel
theorem wd_X1_loseDust_2 : (.fieldLink RX1 15 "GritWheels$Crew" "place" "[I" : Cond) ∈ wsX1_loseDust := by decide +kernel
theorem wd_X1_loseDust_3 : (.fieldLink RX1 18 "GritWheels$Crew" "dust" "[I" : Cond) ∈ wsX1_loseDust := by decide +kernel
theorem wd_X1_loseDust_4 : (.methodLink RX1 34 Lib.Math.max.name : Cond) ∈ wsX1_loseDust := by decide +kernel
theorem wd_X1_loseDust_5 : (.static Lib.Math.max.name : Cond) ∈ wsX1_loseDust := by decide +kernel
theorem wd_X1_loseDust_6 : (.initialized "java/lang/Math" : Cond) ∈ wsX1_loseDust := by decide +kernel
theorem wd_X1_loseDust_7 : (.code Lib.Math.max.name Lib.Math.max.code 2 (some .int) : Cond) ∈ wsX1_loseDust := by decide +kernel
set_option maxHeartbeats 4000000 in
set_option maxRecDepth 100000 in
theorem met_X1_loseDust (l : Launch) (D : va_G) (cI cZ cL : ClassId) (cr : Nat) (cr0 : Nat) (cr1 : Nat) (cr2 : Nat) (cr3 : Nat) (nq : Nat) (pl : Nat → Int32) (du : Nat → Int32) (hnq : nq ≤ 6) : Met l yX1_loseDust wsX1_loseDust ({ frames := 1, cells := 0, slots := 0, locals := 21 }) (gPw [.ref cr] D [(cr, .inr (1, [.ref cr0, .ref cr1, .ref cr2, .ref cr3, .int (nI nq)])), (cr1, .inl (cI, 6, .inl pl)), (cr2, .inl (cI, 6, .inl du))] (gT cI cZ cL)) (va_Qv (fun (_ : Unit) => True) (fun _ t => va_P D vwCl [(cr, .inr (1, [.ref cr0, .ref cr1, .ref cr2, .ref cr3, .int (nI nq)])), (cr1, .inl (cI, 6, .inl pl)), (cr2, .inl (cI, 6, .inl (gM nq (fun j => gLose (pl j) (du j)) du)))] t.heap) (gA (gL [(cr, .inr (1, [.ref cr0, .ref cr1, .ref cr2, .ref cr3, .int (nI nq)])), (cr1, .inl (cI, 6, .inl pl)), (cr2, .inl (cI, 6, .inl du))]))) 0 0 (gA (gL [(cr, .inr (1, [.ref cr0, .ref cr1, .ref cr2, .ref cr3, .int (nI nq)])), (cr1, .inl (cI, 6, .inl pl)), (cr2, .inl (cI, 6, .inl du))])) := by
  refine Met.ofW (cc := cX1_loseDust) (maxL := 2) (ret := none) (by decide) rfl ?_
  intro p e s m args below meth c s₁ B hml hv
  obtain ⟨rfl, hP, hK, hD0⟩ := hv
  have hx := B.exec
  have hb := B.bytes
  have hr := B.returns
  have hts := atoms_spec (ws := wsX1_loseDust) B.pre
  have hown : s.vm.findClass RX1 = some m.cls := findClass_of_methodNamed B.named
  have hlocks := B.notSynchronized
  have hD := gw_self hD0
  generalize hAe : gA (gL [(cr, .inr (1, [.ref cr0, .ref cr1, .ref cr2, .ref cr3, .int (nI nq)])), (cr1, .inl (cI, 6, .inl pl)), (cr2, .inl (cI, 6, .inl du))]) = A at hD ⊢
  have hS : va_S A s.heap s.heap [] := va_S.rf
  have hP : va_P D vwCl [(cr, .inr (1, [.ref cr0, .ref cr1, .ref cr2, .ref cr3, .int (nI nq)])), (cr1, .inl (cI, 6, .inl pl)), (cr2, .inl (cI, 6, .inl du))] s.heap := hP
  have hl := lv_entry ([.ref cr]) (n := 2) (Nat.le_of_ble_eq_true rfl)
  rw [lg_entry_eq]
  generalize (lg_sl ([.ref cr]) ++ List.replicate (2 - (lg_sl ([.ref cr])).length) Slot.unset).toArray = ls at hl ⊢
  have hl : lv_has ls 2 [(0, .ref cr)] := hl
  refine lv_iconst (v := 0) hx hb dX1_loseDust_0 (by decide) ?_
  refine lv_istore_n (lv' := [(1, .int 0), (0, .ref cr)]) hx hb dX1_loseDust_1 rfl hl (by decide) rfl (fun ls hl => ?_)
  have hw0 : du = gM 0 (fun j => gLose (pl j) (du j)) du := gM_0.symm
  rw [hw0] at hP hD
  refine gw_loop (fun (zz : Nat × Nat) H locs ls => match zz with | (k, i) => va_P D vwCl [(cr, .inr (1, [.ref cr0, .ref cr1, .ref cr2, .ref cr3, .int (nI nq)])), (cr1, .inl (cI, 6, .inl pl)), (cr2, .inl (cI, 6, .inl (gM i (fun j => gLose (pl j) (du j)) du)))] H ∧ va_D A [(cr, .inr (1, [.ref cr0, .ref cr1, .ref cr2, .ref cr3, .int (nI nq)])), (cr1, .inl (cI, 6, .inl pl)), (cr2, .inl (cI, 6, .inl (gM i (fun j => gLose (pl j) (du j)) du)))] ∧ va_S A s.heap H locs ∧ lv_has ls 2 [(1, .int (nI i)), (0, .ref cr)] ∧ (i + k = nq)) (fun (zz : Nat × Nat) => match zz with | (k, i) => k) (nq, 0) ⟨hP, hD, hS, lv_sub hl [0, 1] rfl, (by omega)⟩ ?_
  rintro ⟨k, i⟩ ih H locs ls ⟨hP, hD, hS, hl, hin⟩
  have hP : va_P D vwCl [(cr, .inr (1, [.ref cr0, .ref cr1, .ref cr2, .ref cr3, .int (nI nq)])), (cr1, .inl (cI, 6, .inl pl)), (cr2, .inl (cI, 6, .inl (gM i (fun j => gLose (pl j) (du j)) du)))] H := hP
  have hD : va_D A [(cr, .inr (1, [.ref cr0, .ref cr1, .ref cr2, .ref cr3, .int (nI nq)])), (cr1, .inl (cI, 6, .inl pl)), (cr2, .inl (cI, 6, .inl (gM i (fun j => gLose (pl j) (du j)) du)))] := hD
  have hl : lv_has ls 2 [(1, .int (nI i)), (0, .ref cr)] := hl
  have hin : i + k = nq := hin
  have ih2 := ih
  refine lv_iload_n hx hb dX1_loseDust_2 rfl (lv_at hl 0 rfl) ?_
  refine lv_aload_n hx hb dX1_loseDust_3 rfl (lv_at hl 1 rfl) ?_
  refine va_get (D := D) (ci := 1) (v := .int (nI nq)) (C := RX1) (T := TX1) (N := 5) hx hb hts wc_X1_loseDust_X1 hown hK hP 0 rfl rfl 4 (by decide) (hts _ wd_X1_loseDust_1) (fun _ h9 => h9) rfl dX1_loseDust_4 ?_
  refine lv_icmp_ge (tgt := 66) hx hb dX1_loseDust_7 (by decide) (fun c => ?_) (fun c => ?_)
  · skip
    have hk0 : k = 0 := by have := gw_ge (by omega) (by omega) c; omega
    subst hk0
    obtain rfl : i = nq := by omega
    subst hAe
    exact W.vret hx hb hr (fun t ht hW => ⟨⟨(), rfl, trivial, gw_hh ht hP⟩, hS.F ht⟩) hS.2.2 dX1_loseDust_66
  · skip
    have hi : i < nq := gw_lt (by omega) (by omega) c
    obtain ⟨k, rfl⟩ : ∃ k2, k = k2 + 1 := ⟨k - 1, by omega⟩
    refine lv_aload_n hx hb dX1_loseDust_10 rfl (lv_at hl 1 rfl) ?_
    refine va_get (D := D) (ci := 1) (v := .ref cr1) (C := RX1) (T := TX1) (N := 5) hx hb hts wc_X1_loseDust_X1 hown hK hP 0 rfl rfl 1 (by decide) (hts _ wd_X1_loseDust_2) (fun _ h9 => h9) rfl dX1_loseDust_11 ?_
    refine lv_iload_n hx hb dX1_loseDust_14 rfl (lv_at hl 0 rfl) ?_
    refine gw_iald hx hb hK hP 1 0 (k := i) rfl rfl (by omega) (by decide) dX1_loseDust_15 ?_
    refine lv_iconst (v := (-1)) hx hb dX1_loseDust_16 (by decide) ?_
    refine lv_icmp_ne (tgt := 42) hx hb dX1_loseDust_17 (by decide) (fun c2 => ?_) (fun c2 => ?_)
    · skip
      refine lv_aload_n hx hb dX1_loseDust_42 rfl (lv_at hl 1 rfl) ?_
      refine lv_iload_n hx hb dX1_loseDust_43 rfl (lv_at hl 0 rfl) ?_
      refine va_calli (va_runV (As := [.int (nI i)]) (rest := []) ⟨hx, hb, hml, hown, hts⟩ (met_X1_isTired l D cI cZ cL cr cr0 cr1 cr2 cr3 nq (gM i (fun j => gLose (pl j) (du j)) du) i (by first | assumption | omega)) (cwV 1 hts gX1_loseDust_X1_isTired rfl rfl rfl (by decide +kernel) ⟨Nat.le_of_ble_eq_true rfl, Nat.le_of_ble_eq_true rfl⟩) (gw_pvr hK hP (wc := [(cr, .inr (1, [.ref cr0, .ref cr1, .ref cr2, .ref cr3, .int (nI nq)])), (cr2, .inl (cI, 6, .inl (gM i (fun j => gLose (pl j) (du j)) du)))]) [0, 2] rfl 1 rfl rfl rfl) rfl rfl hl.1 rfl (lv_room (Nat.le_of_ble_eq_true rfl)) dX1_loseDust_44 ⟨Nat.zero_le _, Nat.zero_le _⟩) hS (fun _ _ z => z.elim) (fun _ z => z.elim) (fun r_4 _ t H1 locs ht hvm hw hB hz1 hk1 hS => ?_)
      have hP := gw_ro hP hk1
      generalize H1 = H at hP hS ⊢
      rcases hw with ⟨rfl, hc⟩ | ⟨rfl, hc⟩
      · skip
        rw [gM_at (Nat.le_refl i)] at hc
        refine lv_if_eq (tgt := 60) hx hb dX1_loseDust_47 (by decide) (fun c_6 => False.elim (by revert c_6; decide)) (fun _ => ?_)
        refine lv_aload_n hx hb dX1_loseDust_50 rfl (lv_at hl 1 rfl) ?_
        refine va_get (D := D) (ci := 1) (v := .ref cr2) (C := RX1) (T := TX1) (N := 5) hx hb hts wc_X1_loseDust_X1 hown hK hP 0 rfl rfl 2 (by decide) (hts _ wd_X1_loseDust_3) (fun _ h9 => h9) rfl dX1_loseDust_51 ?_
        refine lv_iload_n hx hb dX1_loseDust_54 rfl (lv_at hl 0 rfl) ?_
        refine lv_dup2_11 hx hb dX1_loseDust_55 rfl rfl ?_
        refine gw_iald hx hb hK hP 2 0 (k := i) rfl rfl (by omega) (by decide) dX1_loseDust_56 ?_
        refine gw_top (y := du i) (gM_at (Nat.le_refl i)) ?_
        refine lv_iconst (v := 4) hx hb dX1_loseDust_57 (by decide) ?_
        refine lv_isub hx hb dX1_loseDust_58 ?_
        refine gw_iast hx hb hK hP hD hS 2 0 (k := i) rfl rfl (by omega) (by decide) dX1_loseDust_59 (fun H locs hP hD hS => ?_)
        have hP : va_P D vwCl [(cr, .inr (1, [.ref cr0, .ref cr1, .ref cr2, .ref cr3, .int (nI nq)])), (cr1, .inl (cI, 6, .inl pl)), (cr2, .inl (cI, 6, .inl (upd (gM i (fun j => gLose (pl j) (du j)) du) i ((du i) - 4))))] H := hP
        have hD : va_D A [(cr, .inr (1, [.ref cr0, .ref cr1, .ref cr2, .ref cr3, .int (nI nq)])), (cr1, .inl (cI, 6, .inl pl)), (cr2, .inl (cI, 6, .inl (upd (gM i (fun j => gLose (pl j) (du j)) du) i ((du i) - 4))))] := hD
        refine lv_iinc (v := nI (i + 1)) (lv' := [(1, .int (nI (i + 1))), (0, .ref cr)]) hx hb dX1_loseDust_60 hl (k := 0) rfl (nI_add i 1) (by decide) rfl (fun ls hl => ?_)
        refine lv_goto (tgt := 2) hx hb dX1_loseDust_63 (by decide) ?_
        have hw : upd (gM i (fun j => gLose (pl j) (du j)) du) i ((du i) - 4) = gM (i + 1) (fun j => gLose (pl j) (du j)) du := gM_s (by first | simp [gLose, c2, hc] | simp [gLose, c2])
        rw [hw] at hP hD
        exact ih2 (k, i + 1) H locs ls (by dsimp only; omega) ⟨hP, hD, hS, lv_sub hl [0, 1] rfl, (by omega)⟩
      · skip
        rw [gM_at (Nat.le_refl i)] at hc
        refine lv_if_eq (tgt := 60) hx hb dX1_loseDust_47 (by decide) (fun _ => ?_) (fun c_7 => False.elim (by revert c_7; decide))
        refine lv_iinc (v := nI (i + 1)) (lv' := [(1, .int (nI (i + 1))), (0, .ref cr)]) hx hb dX1_loseDust_60 hl (k := 0) rfl (nI_add i 1) (by decide) rfl (fun ls hl => ?_)
        refine lv_goto (tgt := 2) hx hb dX1_loseDust_63 (by decide) ?_
        have hw : gM i (fun j => gLose (pl j) (du j)) du = gM (i + 1) (fun j => gLose (pl j) (du j)) du := gM_k (by first | simp [gLose, c2, hc] | simp [gLose, c2])
        rw [hw] at hP hD
        exact ih2 (k, i + 1) H locs ls (by dsimp only; omega) ⟨hP, hD, hS, lv_sub hl [0, 1] rfl, (by omega)⟩
    · skip
      refine lv_aload_n hx hb dX1_loseDust_20 rfl (lv_at hl 1 rfl) ?_
      refine va_get (D := D) (ci := 1) (v := .ref cr2) (C := RX1) (T := TX1) (N := 5) hx hb hts wc_X1_loseDust_X1 hown hK hP 0 rfl rfl 2 (by decide) (hts _ wd_X1_loseDust_3) (fun _ h9 => h9) rfl dX1_loseDust_21 ?_
      refine lv_iload_n hx hb dX1_loseDust_24 rfl (lv_at hl 0 rfl) ?_
      refine lv_iconst (v := 0) hx hb dX1_loseDust_25 (by decide) ?_
      refine lv_aload_n hx hb dX1_loseDust_26 rfl (lv_at hl 1 rfl) ?_
      refine va_get (D := D) (ci := 1) (v := .ref cr2) (C := RX1) (T := TX1) (N := 5) hx hb hts wc_X1_loseDust_X1 hown hK hP 0 rfl rfl 2 (by decide) (hts _ wd_X1_loseDust_3) (fun _ h9 => h9) rfl dX1_loseDust_27 ?_
      refine lv_iload_n hx hb dX1_loseDust_30 rfl (lv_at hl 0 rfl) ?_
      refine gw_iald hx hb hK hP 2 0 (k := i) rfl rfl (by omega) (by decide) dX1_loseDust_31 ?_
      refine gw_top (y := du i) (gM_at (Nat.le_refl i)) ?_
      refine lv_bipush (v := 7) hx hb dX1_loseDust_32 (by decide) ?_
      refine lv_isub hx hb dX1_loseDust_34 ?_
      refine va_mmax (own := RX1) hx hb (by rw [hml]; exact hl.1.symm) hown (hts _ wd_X1_loseDust_4) (hts _ wd_X1_loseDust_5) (hts _ wd_X1_loseDust_6) (hts _ wd_X1_loseDust_7) (Nat.le_of_ble_eq_true rfl) (Nat.le_of_ble_eq_true rfl) (Nat.zero_le _) (Nat.zero_le _) dX1_loseDust_35 ?_
      refine gw_iast hx hb hK hP hD hS 2 0 (k := i) rfl rfl (by omega) (by decide) dX1_loseDust_38 (fun H locs hP hD hS => ?_)
      have hP : va_P D vwCl [(cr, .inr (1, [.ref cr0, .ref cr1, .ref cr2, .ref cr3, .int (nI nq)])), (cr1, .inl (cI, 6, .inl pl)), (cr2, .inl (cI, 6, .inl (upd (gM i (fun j => gLose (pl j) (du j)) du) i (if 0 < ((du i) - 7) then ((du i) - 7) else 0))))] H := hP
      have hD : va_D A [(cr, .inr (1, [.ref cr0, .ref cr1, .ref cr2, .ref cr3, .int (nI nq)])), (cr1, .inl (cI, 6, .inl pl)), (cr2, .inl (cI, 6, .inl (upd (gM i (fun j => gLose (pl j) (du j)) du) i (if 0 < ((du i) - 7) then ((du i) - 7) else 0))))] := hD
      refine lv_goto (tgt := 60) hx hb dX1_loseDust_39 (by decide) ?_
      refine lv_iinc (v := nI (i + 1)) (lv' := [(1, .int (nI (i + 1))), (0, .ref cr)]) hx hb dX1_loseDust_60 hl (k := 0) rfl (nI_add i 1) (by decide) rfl (fun ls hl => ?_)
      refine lv_goto (tgt := 2) hx hb dX1_loseDust_63 (by decide) ?_
      have hw : upd (gM i (fun j => gLose (pl j) (du j)) du) i (if 0 < ((du i) - 7) then ((du i) - 7) else 0) = gM (i + 1) (fun j => gLose (pl j) (du j)) du := gM_s (by first | simp [gLose, c2, hc] | simp [gLose, c2])
      rw [hw] at hP hD
      exact ih2 (k, i + 1) H locs ls (by dsimp only; omega) ⟨hP, hD, hS, lv_sub hl [0, 1] rfl, (by omega)⟩

theorem wc_X3_add_X3 : ∀ w ∈ u_ws RX3 TX3 3, w ∈ wsX3_add := by decide +kernel
theorem wd_X3_add_1 : (.fieldLink RX3 18 "GritWheels$Rafts" "number" "I" : Cond) ∈ wsX3_add := by decide +kernel
theorem wd_X3_add_2 : (.fieldLink RX3 9 "GritWheels$Rafts" "carries" "[I" : Cond) ∈ wsX3_add := by decide +kernel
set_option maxHeartbeats 4000000 in
set_option maxRecDepth 100000 in
theorem met_X3_add (l : Launch) (D : va_G) (cI cZ cL : ClassId) (rf : Nat) (rf0 : Nat) (rf1 : Nat) (nr : Nat) (ca : Nat → Int32) (y : Int32) (hnr : nr < 3) : Met l yX3_add wsX3_add ({ frames := 0, cells := 0, slots := 0, locals := 0 }) (gPw [.ref rf, .int y] D [(rf, .inr (3, [.ref rf0, .ref rf1, .int (nI nr)])), (rf0, .inl (cI, 3, .inl ca))] (gT cI cZ cL)) (va_Qi (fun (r : Int32) (_ : Unit) => r = nI nr) (fun _ t => va_P D vwCl [(rf, .inr (3, [.ref rf0, .ref rf1, .int (nI (nr + 1))])), (rf0, .inl (cI, 3, .inl (upd ca nr y)))] t.heap) (gA (gL [(rf, .inr (3, [.ref rf0, .ref rf1, .int (nI nr)])), (rf0, .inl (cI, 3, .inl ca))]))) 0 0 (gA (gL [(rf, .inr (3, [.ref rf0, .ref rf1, .int (nI nr)])), (rf0, .inl (cI, 3, .inl ca))])) := by
  refine Met.ofW (cc := cX3_add) (maxL := 2) (ret := (some .int)) (by decide) rfl ?_
  intro p e s m args below meth c s₁ B hml hv
  obtain ⟨rfl, hP, hK, hD0⟩ := hv
  have hx := B.exec
  have hb := B.bytes
  have hr := B.returns
  have hts := atoms_spec (ws := wsX3_add) B.pre
  have hown : s.vm.findClass RX3 = some m.cls := findClass_of_methodNamed B.named
  have hlocks := B.notSynchronized
  have hD := gw_self hD0
  generalize hAe : gA (gL [(rf, .inr (3, [.ref rf0, .ref rf1, .int (nI nr)])), (rf0, .inl (cI, 3, .inl ca))]) = A at hD ⊢
  have hS : va_S A s.heap s.heap [] := va_S.rf
  have hP : va_P D vwCl [(rf, .inr (3, [.ref rf0, .ref rf1, .int (nI nr)])), (rf0, .inl (cI, 3, .inl ca))] s.heap := hP
  have hl := lv_entry ([.ref rf, .int y]) (n := 2) (Nat.le_of_ble_eq_true rfl)
  rw [lg_entry_eq]
  generalize (lg_sl ([.ref rf, .int y]) ++ List.replicate (2 - (lg_sl ([.ref rf, .int y])).length) Slot.unset).toArray = ls at hl ⊢
  have hl : lv_has ls 2 [(0, .ref rf), (1, .int y)] := hl
  refine lv_aload_n hx hb dX3_add_0 rfl (lv_at hl 0 rfl) ?_
  refine va_get (D := D) (ci := 3) (v := .int (nI nr)) (C := RX3) (T := TX3) (N := 3) hx hb hts wc_X3_add_X3 hown hK hP 0 rfl rfl 2 (by decide) (hts _ wd_X3_add_1) (fun _ h9 => h9) rfl dX3_add_1 ?_
  refine lv_iconst (v := 3) hx hb dX3_add_4 (by decide) ?_
  refine lv_icmp_lt (tgt := 10) hx hb dX3_add_5 (by decide) (fun c_1 => ?_) (fun c_1 => absurd (show nI nr < 3 from nI_lt hnr (by decide)) c_1)
  refine lv_aload_n hx hb dX3_add_10 rfl (lv_at hl 0 rfl) ?_
  refine va_get (D := D) (ci := 3) (v := .ref rf0) (C := RX3) (T := TX3) (N := 3) hx hb hts wc_X3_add_X3 hown hK hP 0 rfl rfl 0 (by decide) (hts _ wd_X3_add_2) (fun _ h9 => h9) rfl dX3_add_11 ?_
  refine lv_aload_n hx hb dX3_add_14 rfl (lv_at hl 0 rfl) ?_
  refine va_get (D := D) (ci := 3) (v := .int (nI nr)) (C := RX3) (T := TX3) (N := 3) hx hb hts wc_X3_add_X3 hown hK hP 0 rfl rfl 2 (by decide) (hts _ wd_X3_add_1) (fun _ h9 => h9) rfl dX3_add_15 ?_
  refine lv_iload_n hx hb dX3_add_18 rfl (lv_at hl 1 rfl) ?_
  refine gw_iast hx hb hK hP hD hS 1 0 (k := nr) rfl rfl (by omega) (by decide) dX3_add_19 (fun H locs hP hD hS => ?_)
  have hP : va_P D vwCl [(rf, .inr (3, [.ref rf0, .ref rf1, .int (nI nr)])), (rf0, .inl (cI, 3, .inl (upd ca nr y)))] H := hP
  have hD : va_D A [(rf, .inr (3, [.ref rf0, .ref rf1, .int (nI nr)])), (rf0, .inl (cI, 3, .inl (upd ca nr y)))] := hD
  refine lv_aload_n hx hb dX3_add_20 rfl (lv_at hl 0 rfl) ?_
  refine lv_dup hx hb dX3_add_21 rfl ?_
  refine va_get (D := D) (ci := 3) (v := .int (nI nr)) (C := RX3) (T := TX3) (N := 3) hx hb hts wc_X3_add_X3 hown hK hP 0 rfl rfl 2 (by decide) (hts _ wd_X3_add_1) (fun _ h9 => h9) rfl dX3_add_22 ?_
  refine lv_dup_x1 hx hb dX3_add_25 rfl rfl ?_
  refine lv_iconst (v := 1) hx hb dX3_add_26 (by decide) ?_
  refine lv_iadd hx hb dX3_add_27 ?_
  refine gw_top (y := nI (nr + 1)) (nI_add nr 1) ?_
  refine va_put (D := D) (ci := 3) (v := .int (nI (nr + 1))) (ty := .int) (C := RX3) (T := TX3) (N := 3) hx hb hts wc_X3_add_X3 tyX3 tyX3_ok nmX3 hown hK hP hD hS 0 rfl rfl 2 (by decide) (hts _ wd_X3_add_1) (fun _ h9 => h9) rfl (by decide +kernel) rfl rfl (Nat.le_of_ble_eq_true rfl) dX3_add_28 (fun H locs hP hD hS => ?_)
  have hP : va_P D vwCl [(rf, .inr (3, [.ref rf0, .ref rf1, .int (nI (nr + 1))])), (rf0, .inl (cI, 3, .inl (upd ca nr y)))] H := hP
  have hD : va_D A [(rf, .inr (3, [.ref rf0, .ref rf1, .int (nI (nr + 1))])), (rf0, .inl (cI, 3, .inl (upd ca nr y)))] := hD
  subst hAe
  exact W.iret (v := nI nr) hx hb hr (fun t ht hW => ⟨⟨_, (), rfl, rfl, gw_hh ht hP⟩, hS.F ht⟩) hS.2.2 dX3_add_31

theorem wc_X3_leave_X3 : ∀ w ∈ u_ws RX3 TX3 3, w ∈ wsX3_leave := by decide +kernel
theorem wd_X3_leave_1 : (.fieldLink RX3 15 "GritWheels$Rafts" "backOn" "[I" : Cond) ∈ wsX3_leave := by decide +kernel
set_option maxHeartbeats 4000000 in
set_option maxRecDepth 100000 in
theorem met_X3_leave (l : Launch) (D : va_G) (cI cZ cL : ClassId) (rf : Nat) (rf0 : Nat) (rf1 : Nat) (nr : Nat) (bo : Nat → Int32) (k : Nat) (d : Nat) (hk : k < 3) : Met l yX3_leave wsX3_leave ({ frames := 0, cells := 0, slots := 0, locals := 0 }) (gPw [.ref rf, .int (nI k), .int (nI d)] D [(rf, .inr (3, [.ref rf0, .ref rf1, .int (nI nr)])), (rf1, .inl (cI, 3, .inl bo))] (gT cI cZ cL)) (va_Qv (fun (_ : Unit) => True) (fun _ t => va_P D vwCl [(rf, .inr (3, [.ref rf0, .ref rf1, .int (nI nr)])), (rf1, .inl (cI, 3, .inl (upd bo k (nI (d + 4)))))] t.heap) (gA (gL [(rf, .inr (3, [.ref rf0, .ref rf1, .int (nI nr)])), (rf1, .inl (cI, 3, .inl bo))]))) 0 0 (gA (gL [(rf, .inr (3, [.ref rf0, .ref rf1, .int (nI nr)])), (rf1, .inl (cI, 3, .inl bo))])) := by
  refine Met.ofW (cc := cX3_leave) (maxL := 3) (ret := none) (by decide) rfl ?_
  intro p e s m args below meth c s₁ B hml hv
  obtain ⟨rfl, hP, hK, hD0⟩ := hv
  have hx := B.exec
  have hb := B.bytes
  have hr := B.returns
  have hts := atoms_spec (ws := wsX3_leave) B.pre
  have hown : s.vm.findClass RX3 = some m.cls := findClass_of_methodNamed B.named
  have hlocks := B.notSynchronized
  have hD := gw_self hD0
  generalize hAe : gA (gL [(rf, .inr (3, [.ref rf0, .ref rf1, .int (nI nr)])), (rf1, .inl (cI, 3, .inl bo))]) = A at hD ⊢
  have hS : va_S A s.heap s.heap [] := va_S.rf
  have hP : va_P D vwCl [(rf, .inr (3, [.ref rf0, .ref rf1, .int (nI nr)])), (rf1, .inl (cI, 3, .inl bo))] s.heap := hP
  have hl := lv_entry ([.ref rf, .int (nI k), .int (nI d)]) (n := 3) (Nat.le_of_ble_eq_true rfl)
  rw [lg_entry_eq]
  generalize (lg_sl ([.ref rf, .int (nI k), .int (nI d)]) ++ List.replicate (3 - (lg_sl ([.ref rf, .int (nI k), .int (nI d)])).length) Slot.unset).toArray = ls at hl ⊢
  have hl : lv_has ls 3 [(0, .ref rf), (1, .int (nI k)), (2, .int (nI d))] := hl
  refine lv_aload_n hx hb dX3_leave_0 rfl (lv_at hl 0 rfl) ?_
  refine va_get (D := D) (ci := 3) (v := .ref rf1) (C := RX3) (T := TX3) (N := 3) hx hb hts wc_X3_leave_X3 hown hK hP 0 rfl rfl 1 (by decide) (hts _ wd_X3_leave_1) (fun _ h9 => h9) rfl dX3_leave_1 ?_
  refine lv_iload_n hx hb dX3_leave_4 rfl (lv_at hl 1 rfl) ?_
  refine lv_iload_n hx hb dX3_leave_5 rfl (lv_at hl 2 rfl) ?_
  refine lv_iconst (v := 4) hx hb dX3_leave_6 (by decide) ?_
  refine lv_iadd hx hb dX3_leave_7 ?_
  refine gw_top (y := nI (d + 4)) (nI_add d 4) ?_
  refine gw_iast hx hb hK hP hD hS 1 0 (k := k) rfl rfl (by omega) (by decide) dX3_leave_8 (fun H locs hP hD hS => ?_)
  have hP : va_P D vwCl [(rf, .inr (3, [.ref rf0, .ref rf1, .int (nI nr)])), (rf1, .inl (cI, 3, .inl (upd bo k (nI (d + 4)))))] H := hP
  have hD : va_D A [(rf, .inr (3, [.ref rf0, .ref rf1, .int (nI nr)])), (rf1, .inl (cI, 3, .inl (upd bo k (nI (d + 4)))))] := hD
  subst hAe
  exact W.vret hx hb hr (fun t ht hW => ⟨⟨(), rfl, trivial, gw_hh ht hP⟩, hS.F ht⟩) hS.2.2 dX3_leave_9

theorem wc_X4_add_X4 : ∀ w ∈ u_ws RX4 TX4 7, w ∈ wsX4_add := by decide +kernel
theorem wd_X4_add_1 : (.fieldLink RX4 31 "GritWheels$Wheels" "number" "I" : Cond) ∈ wsX4_add := by decide +kernel
theorem wd_X4_add_2 : (.fieldLink RX4 9 "GritWheels$Wheels" "source" "[I" : Cond) ∈ wsX4_add := by decide +kernel
theorem wd_X4_add_3 : (.fieldLink RX4 15 "GritWheels$Wheels" "grit" "[I" : Cond) ∈ wsX4_add := by decide +kernel
theorem wd_X4_add_4 : (.fieldLink RX4 18 "GritWheels$Wheels" "size" "[I" : Cond) ∈ wsX4_add := by decide +kernel
theorem wd_X4_add_5 : (.fieldLink RX4 21 "GritWheels$Wheels" "cracked" "[Z" : Cond) ∈ wsX4_add := by decide +kernel
theorem wd_X4_add_6 : (.fieldLink RX4 25 "GritWheels$Wheels" "state" "[I" : Cond) ∈ wsX4_add := by decide +kernel
theorem wd_X4_add_7 : (.fieldLink RX4 28 "GritWheels$Wheels" "carrier" "[I" : Cond) ∈ wsX4_add := by decide +kernel
set_option maxHeartbeats 4000000 in
set_option maxRecDepth 100000 in
theorem met_X4_add (l : Launch) (D : va_G) (cI cZ cL : ClassId) (wh : Nat) (wh0 : Nat) (wh1 : Nat) (wh2 : Nat) (wh3 : Nat) (wh4 : Nat) (wh5 : Nat) (nw : Nat) (f0 : Nat → Int32) (f1 : Nat → Int32) (f2 : Nat → Int32) (f3 : Nat → Int32) (f4 : Nat → Int32) (f5 : Nat → Int32) (y1 : Int32) (y2 : Int32) (y3 : Int32) (z : Int32) (hnw : nw < 60) (hz : z = 0 ∨ z = 1) : Met l yX4_add wsX4_add ({ frames := 0, cells := 0, slots := 0, locals := 0 }) (gPw [.ref wh, .int y1, .int y2, .int y3, .int z] D [(wh, .inr (4, [.ref wh0, .ref wh1, .ref wh2, .ref wh3, .ref wh4, .ref wh5, .int (nI nw)])), (wh0, .inl (cI, 60, .inl f0)), (wh1, .inl (cI, 60, .inl f1)), (wh2, .inl (cI, 60, .inl f2)), (wh3, .inl (cZ, 60, .inl f3)), (wh4, .inl (cI, 60, .inl f4)), (wh5, .inl (cI, 60, .inl f5))] (gT cI cZ cL)) (va_Qv (fun (_ : Unit) => True) (fun _ t => va_P D vwCl [(wh, .inr (4, [.ref wh0, .ref wh1, .ref wh2, .ref wh3, .ref wh4, .ref wh5, .int (nI (nw + 1))])), (wh0, .inl (cI, 60, .inl (upd f0 nw y1))), (wh1, .inl (cI, 60, .inl (upd f1 nw y2))), (wh2, .inl (cI, 60, .inl (upd f2 nw y3))), (wh3, .inl (cZ, 60, .inl (upd f3 nw z))), (wh4, .inl (cI, 60, .inl (upd f4 nw 0))), (wh5, .inl (cI, 60, .inl (upd f5 nw (-1))))] t.heap) (gA (gL [(wh, .inr (4, [.ref wh0, .ref wh1, .ref wh2, .ref wh3, .ref wh4, .ref wh5, .int (nI nw)])), (wh0, .inl (cI, 60, .inl f0)), (wh1, .inl (cI, 60, .inl f1)), (wh2, .inl (cI, 60, .inl f2)), (wh3, .inl (cZ, 60, .inl f3)), (wh4, .inl (cI, 60, .inl f4)), (wh5, .inl (cI, 60, .inl f5))]))) 0 0 (gA (gL [(wh, .inr (4, [.ref wh0, .ref wh1, .ref wh2, .ref wh3, .ref wh4, .ref wh5, .int (nI nw)])), (wh0, .inl (cI, 60, .inl f0)), (wh1, .inl (cI, 60, .inl f1)), (wh2, .inl (cI, 60, .inl f2)), (wh3, .inl (cZ, 60, .inl f3)), (wh4, .inl (cI, 60, .inl f4)), (wh5, .inl (cI, 60, .inl f5))])) := by
  refine Met.ofW (cc := cX4_add) (maxL := 5) (ret := none) (by decide) rfl ?_
  intro p e s m args below meth c s₁ B hml hv
  obtain ⟨rfl, hP, hK, hD0⟩ := hv
  have hx := B.exec
  have hb := B.bytes
  have hr := B.returns
  have hts := atoms_spec (ws := wsX4_add) B.pre
  have hown : s.vm.findClass RX4 = some m.cls := findClass_of_methodNamed B.named
  have hlocks := B.notSynchronized
  have hD := gw_self hD0
  generalize hAe : gA (gL [(wh, .inr (4, [.ref wh0, .ref wh1, .ref wh2, .ref wh3, .ref wh4, .ref wh5, .int (nI nw)])), (wh0, .inl (cI, 60, .inl f0)), (wh1, .inl (cI, 60, .inl f1)), (wh2, .inl (cI, 60, .inl f2)), (wh3, .inl (cZ, 60, .inl f3)), (wh4, .inl (cI, 60, .inl f4)), (wh5, .inl (cI, 60, .inl f5))]) = A at hD ⊢
  have hS : va_S A s.heap s.heap [] := va_S.rf
  have hP : va_P D vwCl [(wh, .inr (4, [.ref wh0, .ref wh1, .ref wh2, .ref wh3, .ref wh4, .ref wh5, .int (nI nw)])), (wh0, .inl (cI, 60, .inl f0)), (wh1, .inl (cI, 60, .inl f1)), (wh2, .inl (cI, 60, .inl f2)), (wh3, .inl (cZ, 60, .inl f3)), (wh4, .inl (cI, 60, .inl f4)), (wh5, .inl (cI, 60, .inl f5))] s.heap := hP
  have hl := lv_entry ([.ref wh, .int y1, .int y2, .int y3, .int z]) (n := 5) (Nat.le_of_ble_eq_true rfl)
  rw [lg_entry_eq]
  generalize (lg_sl ([.ref wh, .int y1, .int y2, .int y3, .int z]) ++ List.replicate (5 - (lg_sl ([.ref wh, .int y1, .int y2, .int y3, .int z])).length) Slot.unset).toArray = ls at hl ⊢
  have hl : lv_has ls 5 [(0, .ref wh), (1, .int y1), (2, .int y2), (3, .int y3), (4, .int z)] := hl
  refine lv_aload_n hx hb dX4_add_0 rfl (lv_at hl 0 rfl) ?_
  refine va_get (D := D) (ci := 4) (v := .int (nI nw)) (C := RX4) (T := TX4) (N := 7) hx hb hts wc_X4_add_X4 hown hK hP 0 rfl rfl 6 (by decide) (hts _ wd_X4_add_1) (fun _ h9 => h9) rfl dX4_add_1 ?_
  refine lv_bipush (v := 60) hx hb dX4_add_4 (by decide) ?_
  refine lv_icmp_lt (tgt := 10) hx hb dX4_add_6 (by decide) (fun c_1 => ?_) (fun c_1 => absurd (show nI nw < 60 from nI_lt hnw (by decide)) c_1)
  refine lv_aload_n hx hb dX4_add_10 rfl (lv_at hl 0 rfl) ?_
  refine va_get (D := D) (ci := 4) (v := .ref wh0) (C := RX4) (T := TX4) (N := 7) hx hb hts wc_X4_add_X4 hown hK hP 0 rfl rfl 0 (by decide) (hts _ wd_X4_add_2) (fun _ h9 => h9) rfl dX4_add_11 ?_
  refine lv_aload_n hx hb dX4_add_14 rfl (lv_at hl 0 rfl) ?_
  refine va_get (D := D) (ci := 4) (v := .int (nI nw)) (C := RX4) (T := TX4) (N := 7) hx hb hts wc_X4_add_X4 hown hK hP 0 rfl rfl 6 (by decide) (hts _ wd_X4_add_1) (fun _ h9 => h9) rfl dX4_add_15 ?_
  refine lv_iload_n hx hb dX4_add_18 rfl (lv_at hl 1 rfl) ?_
  refine gw_iast hx hb hK hP hD hS 1 0 (k := nw) rfl rfl (by omega) (by decide) dX4_add_19 (fun H locs hP hD hS => ?_)
  have hP : va_P D vwCl [(wh, .inr (4, [.ref wh0, .ref wh1, .ref wh2, .ref wh3, .ref wh4, .ref wh5, .int (nI nw)])), (wh0, .inl (cI, 60, .inl (upd f0 nw y1))), (wh1, .inl (cI, 60, .inl f1)), (wh2, .inl (cI, 60, .inl f2)), (wh3, .inl (cZ, 60, .inl f3)), (wh4, .inl (cI, 60, .inl f4)), (wh5, .inl (cI, 60, .inl f5))] H := hP
  have hD : va_D A [(wh, .inr (4, [.ref wh0, .ref wh1, .ref wh2, .ref wh3, .ref wh4, .ref wh5, .int (nI nw)])), (wh0, .inl (cI, 60, .inl (upd f0 nw y1))), (wh1, .inl (cI, 60, .inl f1)), (wh2, .inl (cI, 60, .inl f2)), (wh3, .inl (cZ, 60, .inl f3)), (wh4, .inl (cI, 60, .inl f4)), (wh5, .inl (cI, 60, .inl f5))] := hD
  refine lv_aload_n hx hb dX4_add_20 rfl (lv_at hl 0 rfl) ?_
  refine va_get (D := D) (ci := 4) (v := .ref wh1) (C := RX4) (T := TX4) (N := 7) hx hb hts wc_X4_add_X4 hown hK hP 0 rfl rfl 1 (by decide) (hts _ wd_X4_add_3) (fun _ h9 => h9) rfl dX4_add_21 ?_
  refine lv_aload_n hx hb dX4_add_24 rfl (lv_at hl 0 rfl) ?_
  refine va_get (D := D) (ci := 4) (v := .int (nI nw)) (C := RX4) (T := TX4) (N := 7) hx hb hts wc_X4_add_X4 hown hK hP 0 rfl rfl 6 (by decide) (hts _ wd_X4_add_1) (fun _ h9 => h9) rfl dX4_add_25 ?_
  refine lv_iload_n hx hb dX4_add_28 rfl (lv_at hl 2 rfl) ?_
  refine gw_iast hx hb hK hP hD hS 2 0 (k := nw) rfl rfl (by omega) (by decide) dX4_add_29 (fun H locs hP hD hS => ?_)
  have hP : va_P D vwCl [(wh, .inr (4, [.ref wh0, .ref wh1, .ref wh2, .ref wh3, .ref wh4, .ref wh5, .int (nI nw)])), (wh0, .inl (cI, 60, .inl (upd f0 nw y1))), (wh1, .inl (cI, 60, .inl (upd f1 nw y2))), (wh2, .inl (cI, 60, .inl f2)), (wh3, .inl (cZ, 60, .inl f3)), (wh4, .inl (cI, 60, .inl f4)), (wh5, .inl (cI, 60, .inl f5))] H := hP
  have hD : va_D A [(wh, .inr (4, [.ref wh0, .ref wh1, .ref wh2, .ref wh3, .ref wh4, .ref wh5, .int (nI nw)])), (wh0, .inl (cI, 60, .inl (upd f0 nw y1))), (wh1, .inl (cI, 60, .inl (upd f1 nw y2))), (wh2, .inl (cI, 60, .inl f2)), (wh3, .inl (cZ, 60, .inl f3)), (wh4, .inl (cI, 60, .inl f4)), (wh5, .inl (cI, 60, .inl f5))] := hD
  refine lv_aload_n hx hb dX4_add_30 rfl (lv_at hl 0 rfl) ?_
  refine va_get (D := D) (ci := 4) (v := .ref wh2) (C := RX4) (T := TX4) (N := 7) hx hb hts wc_X4_add_X4 hown hK hP 0 rfl rfl 2 (by decide) (hts _ wd_X4_add_4) (fun _ h9 => h9) rfl dX4_add_31 ?_
  refine lv_aload_n hx hb dX4_add_34 rfl (lv_at hl 0 rfl) ?_
  refine va_get (D := D) (ci := 4) (v := .int (nI nw)) (C := RX4) (T := TX4) (N := 7) hx hb hts wc_X4_add_X4 hown hK hP 0 rfl rfl 6 (by decide) (hts _ wd_X4_add_1) (fun _ h9 => h9) rfl dX4_add_35 ?_
  refine lv_iload_n hx hb dX4_add_38 rfl (lv_at hl 3 rfl) ?_
  refine gw_iast hx hb hK hP hD hS 3 0 (k := nw) rfl rfl (by omega) (by decide) dX4_add_39 (fun H locs hP hD hS => ?_)
  have hP : va_P D vwCl [(wh, .inr (4, [.ref wh0, .ref wh1, .ref wh2, .ref wh3, .ref wh4, .ref wh5, .int (nI nw)])), (wh0, .inl (cI, 60, .inl (upd f0 nw y1))), (wh1, .inl (cI, 60, .inl (upd f1 nw y2))), (wh2, .inl (cI, 60, .inl (upd f2 nw y3))), (wh3, .inl (cZ, 60, .inl f3)), (wh4, .inl (cI, 60, .inl f4)), (wh5, .inl (cI, 60, .inl f5))] H := hP
  have hD : va_D A [(wh, .inr (4, [.ref wh0, .ref wh1, .ref wh2, .ref wh3, .ref wh4, .ref wh5, .int (nI nw)])), (wh0, .inl (cI, 60, .inl (upd f0 nw y1))), (wh1, .inl (cI, 60, .inl (upd f1 nw y2))), (wh2, .inl (cI, 60, .inl (upd f2 nw y3))), (wh3, .inl (cZ, 60, .inl f3)), (wh4, .inl (cI, 60, .inl f4)), (wh5, .inl (cI, 60, .inl f5))] := hD
  refine lv_aload_n hx hb dX4_add_40 rfl (lv_at hl 0 rfl) ?_
  refine va_get (D := D) (ci := 4) (v := .ref wh3) (C := RX4) (T := TX4) (N := 7) hx hb hts wc_X4_add_X4 hown hK hP 0 rfl rfl 3 (by decide) (hts _ wd_X4_add_5) (fun _ h9 => h9) rfl dX4_add_41 ?_
  refine lv_aload_n hx hb dX4_add_44 rfl (lv_at hl 0 rfl) ?_
  refine va_get (D := D) (ci := 4) (v := .int (nI nw)) (C := RX4) (T := TX4) (N := 7) hx hb hts wc_X4_add_X4 hown hK hP 0 rfl rfl 6 (by decide) (hts _ wd_X4_add_1) (fun _ h9 => h9) rfl dX4_add_45 ?_
  refine lv_iload hx hb dX4_add_48 (lv_at hl 4 rfl) ?_
  refine gw_zast hx hb hK hP hD hS 4 1 (k := nw) rfl rfl hz (by omega) (by decide) dX4_add_50 (fun H locs hP hD hS => ?_)
  have hP : va_P D vwCl [(wh, .inr (4, [.ref wh0, .ref wh1, .ref wh2, .ref wh3, .ref wh4, .ref wh5, .int (nI nw)])), (wh0, .inl (cI, 60, .inl (upd f0 nw y1))), (wh1, .inl (cI, 60, .inl (upd f1 nw y2))), (wh2, .inl (cI, 60, .inl (upd f2 nw y3))), (wh3, .inl (cZ, 60, .inl (upd f3 nw z))), (wh4, .inl (cI, 60, .inl f4)), (wh5, .inl (cI, 60, .inl f5))] H := hP
  have hD : va_D A [(wh, .inr (4, [.ref wh0, .ref wh1, .ref wh2, .ref wh3, .ref wh4, .ref wh5, .int (nI nw)])), (wh0, .inl (cI, 60, .inl (upd f0 nw y1))), (wh1, .inl (cI, 60, .inl (upd f1 nw y2))), (wh2, .inl (cI, 60, .inl (upd f2 nw y3))), (wh3, .inl (cZ, 60, .inl (upd f3 nw z))), (wh4, .inl (cI, 60, .inl f4)), (wh5, .inl (cI, 60, .inl f5))] := hD
  refine lv_aload_n hx hb dX4_add_51 rfl (lv_at hl 0 rfl) ?_
  refine va_get (D := D) (ci := 4) (v := .ref wh4) (C := RX4) (T := TX4) (N := 7) hx hb hts wc_X4_add_X4 hown hK hP 0 rfl rfl 4 (by decide) (hts _ wd_X4_add_6) (fun _ h9 => h9) rfl dX4_add_52 ?_
  refine lv_aload_n hx hb dX4_add_55 rfl (lv_at hl 0 rfl) ?_
  refine va_get (D := D) (ci := 4) (v := .int (nI nw)) (C := RX4) (T := TX4) (N := 7) hx hb hts wc_X4_add_X4 hown hK hP 0 rfl rfl 6 (by decide) (hts _ wd_X4_add_1) (fun _ h9 => h9) rfl dX4_add_56 ?_
  refine lv_iconst (v := 0) hx hb dX4_add_59 (by decide) ?_
  refine gw_iast hx hb hK hP hD hS 5 0 (k := nw) rfl rfl (by omega) (by decide) dX4_add_60 (fun H locs hP hD hS => ?_)
  have hP : va_P D vwCl [(wh, .inr (4, [.ref wh0, .ref wh1, .ref wh2, .ref wh3, .ref wh4, .ref wh5, .int (nI nw)])), (wh0, .inl (cI, 60, .inl (upd f0 nw y1))), (wh1, .inl (cI, 60, .inl (upd f1 nw y2))), (wh2, .inl (cI, 60, .inl (upd f2 nw y3))), (wh3, .inl (cZ, 60, .inl (upd f3 nw z))), (wh4, .inl (cI, 60, .inl (upd f4 nw 0))), (wh5, .inl (cI, 60, .inl f5))] H := hP
  have hD : va_D A [(wh, .inr (4, [.ref wh0, .ref wh1, .ref wh2, .ref wh3, .ref wh4, .ref wh5, .int (nI nw)])), (wh0, .inl (cI, 60, .inl (upd f0 nw y1))), (wh1, .inl (cI, 60, .inl (upd f1 nw y2))), (wh2, .inl (cI, 60, .inl (upd f2 nw y3))), (wh3, .inl (cZ, 60, .inl (upd f3 nw z))), (wh4, .inl (cI, 60, .inl (upd f4 nw 0))), (wh5, .inl (cI, 60, .inl f5))] := hD
  refine lv_aload_n hx hb dX4_add_61 rfl (lv_at hl 0 rfl) ?_
  refine va_get (D := D) (ci := 4) (v := .ref wh5) (C := RX4) (T := TX4) (N := 7) hx hb hts wc_X4_add_X4 hown hK hP 0 rfl rfl 5 (by decide) (hts _ wd_X4_add_7) (fun _ h9 => h9) rfl dX4_add_62 ?_
  refine lv_aload_n hx hb dX4_add_65 rfl (lv_at hl 0 rfl) ?_
  refine va_get (D := D) (ci := 4) (v := .int (nI nw)) (C := RX4) (T := TX4) (N := 7) hx hb hts wc_X4_add_X4 hown hK hP 0 rfl rfl 6 (by decide) (hts _ wd_X4_add_1) (fun _ h9 => h9) rfl dX4_add_66 ?_
  refine lv_iconst (v := (-1)) hx hb dX4_add_69 (by decide) ?_
  refine gw_iast hx hb hK hP hD hS 6 0 (k := nw) rfl rfl (by omega) (by decide) dX4_add_70 (fun H locs hP hD hS => ?_)
  have hP : va_P D vwCl [(wh, .inr (4, [.ref wh0, .ref wh1, .ref wh2, .ref wh3, .ref wh4, .ref wh5, .int (nI nw)])), (wh0, .inl (cI, 60, .inl (upd f0 nw y1))), (wh1, .inl (cI, 60, .inl (upd f1 nw y2))), (wh2, .inl (cI, 60, .inl (upd f2 nw y3))), (wh3, .inl (cZ, 60, .inl (upd f3 nw z))), (wh4, .inl (cI, 60, .inl (upd f4 nw 0))), (wh5, .inl (cI, 60, .inl (upd f5 nw (-1))))] H := hP
  have hD : va_D A [(wh, .inr (4, [.ref wh0, .ref wh1, .ref wh2, .ref wh3, .ref wh4, .ref wh5, .int (nI nw)])), (wh0, .inl (cI, 60, .inl (upd f0 nw y1))), (wh1, .inl (cI, 60, .inl (upd f1 nw y2))), (wh2, .inl (cI, 60, .inl (upd f2 nw y3))), (wh3, .inl (cZ, 60, .inl (upd f3 nw z))), (wh4, .inl (cI, 60, .inl (upd f4 nw 0))), (wh5, .inl (cI, 60, .inl (upd f5 nw (-1))))] := hD
  refine lv_aload_n hx hb dX4_add_71 rfl (lv_at hl 0 rfl) ?_
  refine lv_dup hx hb dX4_add_72 rfl ?_
  refine va_get (D := D) (ci := 4) (v := .int (nI nw)) (C := RX4) (T := TX4) (N := 7) hx hb hts wc_X4_add_X4 hown hK hP 0 rfl rfl 6 (by decide) (hts _ wd_X4_add_1) (fun _ h9 => h9) rfl dX4_add_73 ?_
  refine lv_iconst (v := 1) hx hb dX4_add_76 (by decide) ?_
  refine lv_iadd hx hb dX4_add_77 ?_
  refine gw_top (y := nI (nw + 1)) (nI_add nw 1) ?_
  refine va_put (D := D) (ci := 4) (v := .int (nI (nw + 1))) (ty := .int) (C := RX4) (T := TX4) (N := 7) hx hb hts wc_X4_add_X4 tyX4 tyX4_ok nmX4 hown hK hP hD hS 0 rfl rfl 6 (by decide) (hts _ wd_X4_add_1) (fun _ h9 => h9) rfl (by decide +kernel) rfl rfl (Nat.le_of_ble_eq_true rfl) dX4_add_78 (fun H locs hP hD hS => ?_)
  have hP : va_P D vwCl [(wh, .inr (4, [.ref wh0, .ref wh1, .ref wh2, .ref wh3, .ref wh4, .ref wh5, .int (nI (nw + 1))])), (wh0, .inl (cI, 60, .inl (upd f0 nw y1))), (wh1, .inl (cI, 60, .inl (upd f1 nw y2))), (wh2, .inl (cI, 60, .inl (upd f2 nw y3))), (wh3, .inl (cZ, 60, .inl (upd f3 nw z))), (wh4, .inl (cI, 60, .inl (upd f4 nw 0))), (wh5, .inl (cI, 60, .inl (upd f5 nw (-1))))] H := hP
  have hD : va_D A [(wh, .inr (4, [.ref wh0, .ref wh1, .ref wh2, .ref wh3, .ref wh4, .ref wh5, .int (nI (nw + 1))])), (wh0, .inl (cI, 60, .inl (upd f0 nw y1))), (wh1, .inl (cI, 60, .inl (upd f1 nw y2))), (wh2, .inl (cI, 60, .inl (upd f2 nw y3))), (wh3, .inl (cZ, 60, .inl (upd f3 nw z))), (wh4, .inl (cI, 60, .inl (upd f4 nw 0))), (wh5, .inl (cI, 60, .inl (upd f5 nw (-1))))] := hD
  subst hAe
  exact W.vret hx hb hr (fun t ht hW => ⟨⟨(), rfl, trivial, gw_hh ht hP⟩, hS.F ht⟩) hS.2.2 dX4_add_81

theorem wc_X4_putOn_X4 : ∀ w ∈ u_ws RX4 TX4 7, w ∈ wsX4_putOn := by decide +kernel
theorem wd_X4_putOn_1 : (.fieldLink RX4 25 "GritWheels$Wheels" "state" "[I" : Cond) ∈ wsX4_putOn := by decide +kernel
theorem wd_X4_putOn_2 : (.fieldLink RX4 28 "GritWheels$Wheels" "carrier" "[I" : Cond) ∈ wsX4_putOn := by decide +kernel
set_option maxHeartbeats 4000000 in
set_option maxRecDepth 100000 in
theorem met_X4_putOn (l : Launch) (D : va_G) (cI cZ cL : ClassId) (wh : Nat) (wh0 : Nat) (wh1 : Nat) (wh2 : Nat) (wh3 : Nat) (wh4 : Nat) (wh5 : Nat) (nw : Nat) (f4 : Nat → Int32) (f5 : Nat → Int32) (k : Nat) (y : Int32) (hk : k < 60) : Met l yX4_putOn wsX4_putOn ({ frames := 0, cells := 0, slots := 0, locals := 0 }) (gPw [.ref wh, .int (nI k), .int y] D [(wh, .inr (4, [.ref wh0, .ref wh1, .ref wh2, .ref wh3, .ref wh4, .ref wh5, .int (nI nw)])), (wh4, .inl (cI, 60, .inl f4)), (wh5, .inl (cI, 60, .inl f5))] (gT cI cZ cL)) (va_Qv (fun (_ : Unit) => True) (fun _ t => va_P D vwCl [(wh, .inr (4, [.ref wh0, .ref wh1, .ref wh2, .ref wh3, .ref wh4, .ref wh5, .int (nI nw)])), (wh4, .inl (cI, 60, .inl (upd f4 k 2))), (wh5, .inl (cI, 60, .inl (upd f5 k y)))] t.heap) (gA (gL [(wh, .inr (4, [.ref wh0, .ref wh1, .ref wh2, .ref wh3, .ref wh4, .ref wh5, .int (nI nw)])), (wh4, .inl (cI, 60, .inl f4)), (wh5, .inl (cI, 60, .inl f5))]))) 0 0 (gA (gL [(wh, .inr (4, [.ref wh0, .ref wh1, .ref wh2, .ref wh3, .ref wh4, .ref wh5, .int (nI nw)])), (wh4, .inl (cI, 60, .inl f4)), (wh5, .inl (cI, 60, .inl f5))])) := by
  refine Met.ofW (cc := cX4_putOn) (maxL := 3) (ret := none) (by decide) rfl ?_
  intro p e s m args below meth c s₁ B hml hv
  obtain ⟨rfl, hP, hK, hD0⟩ := hv
  have hx := B.exec
  have hb := B.bytes
  have hr := B.returns
  have hts := atoms_spec (ws := wsX4_putOn) B.pre
  have hown : s.vm.findClass RX4 = some m.cls := findClass_of_methodNamed B.named
  have hlocks := B.notSynchronized
  have hD := gw_self hD0
  generalize hAe : gA (gL [(wh, .inr (4, [.ref wh0, .ref wh1, .ref wh2, .ref wh3, .ref wh4, .ref wh5, .int (nI nw)])), (wh4, .inl (cI, 60, .inl f4)), (wh5, .inl (cI, 60, .inl f5))]) = A at hD ⊢
  have hS : va_S A s.heap s.heap [] := va_S.rf
  have hP : va_P D vwCl [(wh, .inr (4, [.ref wh0, .ref wh1, .ref wh2, .ref wh3, .ref wh4, .ref wh5, .int (nI nw)])), (wh4, .inl (cI, 60, .inl f4)), (wh5, .inl (cI, 60, .inl f5))] s.heap := hP
  have hl := lv_entry ([.ref wh, .int (nI k), .int y]) (n := 3) (Nat.le_of_ble_eq_true rfl)
  rw [lg_entry_eq]
  generalize (lg_sl ([.ref wh, .int (nI k), .int y]) ++ List.replicate (3 - (lg_sl ([.ref wh, .int (nI k), .int y])).length) Slot.unset).toArray = ls at hl ⊢
  have hl : lv_has ls 3 [(0, .ref wh), (1, .int (nI k)), (2, .int y)] := hl
  refine lv_aload_n hx hb dX4_putOn_0 rfl (lv_at hl 0 rfl) ?_
  refine va_get (D := D) (ci := 4) (v := .ref wh4) (C := RX4) (T := TX4) (N := 7) hx hb hts wc_X4_putOn_X4 hown hK hP 0 rfl rfl 4 (by decide) (hts _ wd_X4_putOn_1) (fun _ h9 => h9) rfl dX4_putOn_1 ?_
  refine lv_iload_n hx hb dX4_putOn_4 rfl (lv_at hl 1 rfl) ?_
  refine lv_iconst (v := 2) hx hb dX4_putOn_5 (by decide) ?_
  refine gw_iast hx hb hK hP hD hS 1 0 (k := k) rfl rfl (by omega) (by decide) dX4_putOn_6 (fun H locs hP hD hS => ?_)
  have hP : va_P D vwCl [(wh, .inr (4, [.ref wh0, .ref wh1, .ref wh2, .ref wh3, .ref wh4, .ref wh5, .int (nI nw)])), (wh4, .inl (cI, 60, .inl (upd f4 k 2))), (wh5, .inl (cI, 60, .inl f5))] H := hP
  have hD : va_D A [(wh, .inr (4, [.ref wh0, .ref wh1, .ref wh2, .ref wh3, .ref wh4, .ref wh5, .int (nI nw)])), (wh4, .inl (cI, 60, .inl (upd f4 k 2))), (wh5, .inl (cI, 60, .inl f5))] := hD
  refine lv_aload_n hx hb dX4_putOn_7 rfl (lv_at hl 0 rfl) ?_
  refine va_get (D := D) (ci := 4) (v := .ref wh5) (C := RX4) (T := TX4) (N := 7) hx hb hts wc_X4_putOn_X4 hown hK hP 0 rfl rfl 5 (by decide) (hts _ wd_X4_putOn_2) (fun _ h9 => h9) rfl dX4_putOn_8 ?_
  refine lv_iload_n hx hb dX4_putOn_11 rfl (lv_at hl 1 rfl) ?_
  refine lv_iload_n hx hb dX4_putOn_12 rfl (lv_at hl 2 rfl) ?_
  refine gw_iast hx hb hK hP hD hS 2 0 (k := k) rfl rfl (by omega) (by decide) dX4_putOn_13 (fun H locs hP hD hS => ?_)
  have hP : va_P D vwCl [(wh, .inr (4, [.ref wh0, .ref wh1, .ref wh2, .ref wh3, .ref wh4, .ref wh5, .int (nI nw)])), (wh4, .inl (cI, 60, .inl (upd f4 k 2))), (wh5, .inl (cI, 60, .inl (upd f5 k y)))] H := hP
  have hD : va_D A [(wh, .inr (4, [.ref wh0, .ref wh1, .ref wh2, .ref wh3, .ref wh4, .ref wh5, .int (nI nw)])), (wh4, .inl (cI, 60, .inl (upd f4 k 2))), (wh5, .inl (cI, 60, .inl (upd f5 k y)))] := hD
  subst hAe
  exact W.vret hx hb hr (fun t ht hW => ⟨⟨(), rfl, trivial, gw_hh ht hP⟩, hS.F ht⟩) hS.2.2 dX4_putOn_14

theorem wc_X4_dress_X4 : ∀ w ∈ u_ws RX4 TX4 7, w ∈ wsX4_dress := by decide +kernel
theorem wd_X4_dress_1 : (.fieldLink RX4 31 "GritWheels$Wheels" "number" "I" : Cond) ∈ wsX4_dress := by decide +kernel
theorem wd_X4_dress_2 : (.fieldLink RX4 25 "GritWheels$Wheels" "state" "[I" : Cond) ∈ wsX4_dress := by decide +kernel
set_option maxHeartbeats 4000000 in
set_option maxRecDepth 100000 in
theorem met_X4_dress (l : Launch) (D : va_G) (cI cZ cL : ClassId) (wh : Nat) (wh0 : Nat) (wh1 : Nat) (wh2 : Nat) (wh3 : Nat) (wh4 : Nat) (wh5 : Nat) (nw : Nat) (f4 : Nat → Int32) (y : Int32) (hnw : nw ≤ 60) : Met l yX4_dress wsX4_dress ({ frames := 0, cells := 0, slots := 0, locals := 0 }) (gPw [.ref wh, .int y] D [(wh, .inr (4, [.ref wh0, .ref wh1, .ref wh2, .ref wh3, .ref wh4, .ref wh5, .int (nI nw)])), (wh4, .inl (cI, 60, .inl f4))] (gT cI cZ cL)) (va_Qv (fun (_ : Unit) => True) (fun _ t => va_P D vwCl [(wh, .inr (4, [.ref wh0, .ref wh1, .ref wh2, .ref wh3, .ref wh4, .ref wh5, .int (nI nw)])), (wh4, .inl (cI, 60, .inl (gDress nw 0 y f4)))] t.heap) (gA (gL [(wh, .inr (4, [.ref wh0, .ref wh1, .ref wh2, .ref wh3, .ref wh4, .ref wh5, .int (nI nw)])), (wh4, .inl (cI, 60, .inl f4))]))) 0 0 (gA (gL [(wh, .inr (4, [.ref wh0, .ref wh1, .ref wh2, .ref wh3, .ref wh4, .ref wh5, .int (nI nw)])), (wh4, .inl (cI, 60, .inl f4))])) := by
  refine Met.ofW (cc := cX4_dress) (maxL := 4) (ret := none) (by decide) rfl ?_
  intro p e s m args below meth c s₁ B hml hv
  obtain ⟨rfl, hP, hK, hD0⟩ := hv
  have hx := B.exec
  have hb := B.bytes
  have hr := B.returns
  have hts := atoms_spec (ws := wsX4_dress) B.pre
  have hown : s.vm.findClass RX4 = some m.cls := findClass_of_methodNamed B.named
  have hlocks := B.notSynchronized
  have hD := gw_self hD0
  generalize hAe : gA (gL [(wh, .inr (4, [.ref wh0, .ref wh1, .ref wh2, .ref wh3, .ref wh4, .ref wh5, .int (nI nw)])), (wh4, .inl (cI, 60, .inl f4))]) = A at hD ⊢
  have hS : va_S A s.heap s.heap [] := va_S.rf
  have hP : va_P D vwCl [(wh, .inr (4, [.ref wh0, .ref wh1, .ref wh2, .ref wh3, .ref wh4, .ref wh5, .int (nI nw)])), (wh4, .inl (cI, 60, .inl f4))] s.heap := hP
  have hl := lv_entry ([.ref wh, .int y]) (n := 4) (Nat.le_of_ble_eq_true rfl)
  rw [lg_entry_eq]
  generalize (lg_sl ([.ref wh, .int y]) ++ List.replicate (4 - (lg_sl ([.ref wh, .int y])).length) Slot.unset).toArray = ls at hl ⊢
  have hl : lv_has ls 4 [(0, .ref wh), (1, .int y)] := hl
  refine lv_iload_n hx hb dX4_dress_0 rfl (lv_at hl 1 rfl) ?_
  refine lv_istore_n (lv' := [(2, .int y), (0, .ref wh), (1, .int y)]) hx hb dX4_dress_1 rfl hl (by decide) rfl (fun ls hl => ?_)
  refine lv_iconst (v := 0) hx hb dX4_dress_2 (by decide) ?_
  refine lv_istore_n (lv' := [(3, .int 0), (2, .int y), (0, .ref wh), (1, .int y)]) hx hb dX4_dress_3 rfl hl (by decide) rfl (fun ls hl => ?_)
  refine gw_loop (fun (zz : Nat × Nat × Int32 × (Nat → Int32)) H locs ls => match zz with | (k, i, lf, st) => va_P D vwCl [(wh, .inr (4, [.ref wh0, .ref wh1, .ref wh2, .ref wh3, .ref wh4, .ref wh5, .int (nI nw)])), (wh4, .inl (cI, 60, .inl st))] H ∧ va_D A [(wh, .inr (4, [.ref wh0, .ref wh1, .ref wh2, .ref wh3, .ref wh4, .ref wh5, .int (nI nw)])), (wh4, .inl (cI, 60, .inl st))] ∧ va_S A s.heap H locs ∧ lv_has ls 4 [(3, .int (nI i)), (2, .int lf), (0, .ref wh), (1, .int y)] ∧ (i + k = nw) ∧ (gDress k i lf st = gDress nw 0 y f4)) (fun (zz : Nat × Nat × Int32 × (Nat → Int32)) => match zz with | (k, i, lf, st) => k) (nw, 0, y, f4) ⟨hP, hD, hS, lv_sub hl [0, 1, 2, 3] rfl, (by omega), rfl⟩ ?_
  rintro ⟨k, i, lf, st⟩ ih H locs ls ⟨hP, hD, hS, hl, hin, hF⟩
  have hP : va_P D vwCl [(wh, .inr (4, [.ref wh0, .ref wh1, .ref wh2, .ref wh3, .ref wh4, .ref wh5, .int (nI nw)])), (wh4, .inl (cI, 60, .inl st))] H := hP
  have hD : va_D A [(wh, .inr (4, [.ref wh0, .ref wh1, .ref wh2, .ref wh3, .ref wh4, .ref wh5, .int (nI nw)])), (wh4, .inl (cI, 60, .inl st))] := hD
  have hl : lv_has ls 4 [(3, .int (nI i)), (2, .int lf), (0, .ref wh), (1, .int y)] := hl
  have hin : i + k = nw := hin
  have hF : gDress k i lf st = gDress nw 0 y f4 := hF
  have ih4 := ih
  refine lv_iload_n hx hb dX4_dress_4 rfl (lv_at hl 0 rfl) ?_
  refine lv_aload_n hx hb dX4_dress_5 rfl (lv_at hl 2 rfl) ?_
  refine va_get (D := D) (ci := 4) (v := .int (nI nw)) (C := RX4) (T := TX4) (N := 7) hx hb hts wc_X4_dress_X4 hown hK hP 0 rfl rfl 6 (by decide) (hts _ wd_X4_dress_1) (fun _ h9 => h9) rfl dX4_dress_6 ?_
  refine lv_icmp_ge (tgt := 41) hx hb dX4_dress_9 (by decide) (fun c => ?_) (fun c => ?_)
  · skip
    have hk0 : k = 0 := by have := gw_ge (by omega) (by omega) c; omega
    subst hk0
    have hF2 : st = gDress nw 0 y f4 := hF
    subst hF2
    subst hAe
    exact W.vret hx hb hr (fun t ht hW => ⟨⟨(), rfl, trivial, gw_hh ht hP⟩, hS.F ht⟩) hS.2.2 dX4_dress_41
  · skip
    have hi : i < nw := gw_lt (by omega) (by omega) c
    obtain ⟨k, rfl⟩ : ∃ k2, k = k2 + 1 := ⟨k - 1, by omega⟩
    refine lv_iload_n hx hb dX4_dress_12 rfl (lv_at hl 1 rfl) ?_
    refine lv_if_le (tgt := 41) hx hb dX4_dress_13 (by decide) (fun c2 => ?_) (fun c2 => ?_)
    · skip
      have hF2 : st = gDress nw 0 y f4 := by rw [← hF]; simp [gDress, c2]
      subst hF2
      subst hAe
      exact W.vret hx hb hr (fun t ht hW => ⟨⟨(), rfl, trivial, gw_hh ht hP⟩, hS.F ht⟩) hS.2.2 dX4_dress_41
    · skip
      refine lv_aload_n hx hb dX4_dress_16 rfl (lv_at hl 2 rfl) ?_
      refine va_get (D := D) (ci := 4) (v := .ref wh4) (C := RX4) (T := TX4) (N := 7) hx hb hts wc_X4_dress_X4 hown hK hP 0 rfl rfl 4 (by decide) (hts _ wd_X4_dress_2) (fun _ h9 => h9) rfl dX4_dress_17 ?_
      refine lv_iload_n hx hb dX4_dress_20 rfl (lv_at hl 0 rfl) ?_
      refine gw_iald hx hb hK hP 1 0 (k := i) rfl rfl (by omega) (by decide) dX4_dress_21 ?_
      refine lv_if_ne (tgt := 35) hx hb dX4_dress_22 (by decide) (fun c3 => ?_) (fun c3 => ?_)
      · skip
        refine lv_iinc (v := nI (i + 1)) (lv' := [(3, .int (nI (i + 1))), (2, .int lf), (0, .ref wh), (1, .int y)]) hx hb dX4_dress_35 hl (k := 0) rfl (nI_add i 1) (by decide) rfl (fun ls hl => ?_)
        refine lv_goto (tgt := 4) hx hb dX4_dress_38 (by decide) ?_
        exact ih4 (k, i + 1, lf, st) H locs ls (by dsimp only; omega) ⟨hP, hD, hS, lv_sub hl [0, 1, 2, 3] rfl, (by omega), (by rw [← hF]; simp [gDress, *])⟩
      · skip
        refine lv_aload_n hx hb dX4_dress_25 rfl (lv_at hl 2 rfl) ?_
        refine va_get (D := D) (ci := 4) (v := .ref wh4) (C := RX4) (T := TX4) (N := 7) hx hb hts wc_X4_dress_X4 hown hK hP 0 rfl rfl 4 (by decide) (hts _ wd_X4_dress_2) (fun _ h9 => h9) rfl dX4_dress_26 ?_
        refine lv_iload_n hx hb dX4_dress_29 rfl (lv_at hl 0 rfl) ?_
        refine lv_iconst (v := 1) hx hb dX4_dress_30 (by decide) ?_
        refine gw_iast hx hb hK hP hD hS 1 0 (k := i) rfl rfl (by omega) (by decide) dX4_dress_31 (fun H locs hP hD hS => ?_)
        have hP : va_P D vwCl [(wh, .inr (4, [.ref wh0, .ref wh1, .ref wh2, .ref wh3, .ref wh4, .ref wh5, .int (nI nw)])), (wh4, .inl (cI, 60, .inl (upd st i 1)))] H := hP
        have hD : va_D A [(wh, .inr (4, [.ref wh0, .ref wh1, .ref wh2, .ref wh3, .ref wh4, .ref wh5, .int (nI nw)])), (wh4, .inl (cI, 60, .inl (upd st i 1)))] := hD
        refine lv_iinc (v := lf - 1) (lv' := [(2, .int (lf - 1)), (3, .int (nI i)), (0, .ref wh), (1, .int y)]) hx hb dX4_dress_32 hl (k := 1) rfl (by rw [Int32.sub_eq_add_neg]; rfl) (by decide) rfl (fun ls hl => ?_)
        refine lv_iinc (v := nI (i + 1)) (lv' := [(3, .int (nI (i + 1))), (2, .int (lf - 1)), (0, .ref wh), (1, .int y)]) hx hb dX4_dress_35 hl (k := 1) rfl (nI_add i 1) (by decide) rfl (fun ls hl => ?_)
        refine lv_goto (tgt := 4) hx hb dX4_dress_38 (by decide) ?_
        exact ih4 (k, i + 1, lf - 1, upd st i 1) H locs ls (by dsimp only; omega) ⟨hP, hD, hS, lv_sub hl [0, 1, 2, 3] rfl, (by omega), (by rw [← hF]; simp [gDress, *])⟩

theorem wc_X4_goWith_X4 : ∀ w ∈ u_ws RX4 TX4 7, w ∈ wsX4_goWith := by decide +kernel
theorem wd_X4_goWith_1 : (.fieldLink RX4 31 "GritWheels$Wheels" "number" "I" : Cond) ∈ wsX4_goWith := by decide +kernel
theorem wd_X4_goWith_2 : (.fieldLink RX4 28 "GritWheels$Wheels" "carrier" "[I" : Cond) ∈ wsX4_goWith := by decide +kernel
theorem wd_X4_goWith_3 : (.fieldLink RX4 25 "GritWheels$Wheels" "state" "[I" : Cond) ∈ wsX4_goWith := by decide +kernel
set_option maxHeartbeats 4000000 in
set_option maxRecDepth 100000 in
theorem met_X4_goWith (l : Launch) (D : va_G) (cI cZ cL : ClassId) (wh : Nat) (wh0 : Nat) (wh1 : Nat) (wh2 : Nat) (wh3 : Nat) (wh4 : Nat) (wh5 : Nat) (nw : Nat) (f1 : Nat → Int32) (f2 : Nat → Int32) (f3 : Nat → Int32) (f4 : Nat → Int32) (f5 : Nat → Int32) (x : Int32) (hnw : nw ≤ 60) : Met l yX4_goWith wsX4_goWith ({ frames := 1, cells := 0, slots := 0, locals := 23 }) (gPw [.ref wh, .int x] D [(wh, .inr (4, [.ref wh0, .ref wh1, .ref wh2, .ref wh3, .ref wh4, .ref wh5, .int (nI nw)])), (wh1, .inl (cI, 60, .inl f1)), (wh2, .inl (cI, 60, .inl f2)), (wh3, .inl (cZ, 60, .inl f3)), (wh4, .inl (cI, 60, .inl f4)), (wh5, .inl (cI, 60, .inl f5))] (gT cI cZ cL)) (va_Qi (fun (r : Int32) (_ : Unit) => r = gS (fun j => if f5 j = x then gWorth (f2 j) (f1 j) (f4 j) (f3 j) else 0) nw 0 0) (fun _ t => va_P D vwCl [(wh, .inr (4, [.ref wh0, .ref wh1, .ref wh2, .ref wh3, .ref wh4, .ref wh5, .int (nI nw)])), (wh1, .inl (cI, 60, .inl f1)), (wh2, .inl (cI, 60, .inl f2)), (wh3, .inl (cZ, 60, .inl f3)), (wh4, .inl (cI, 60, .inl (gM nw (fun j => if f5 j = x then 3 else f4 j) f4))), (wh5, .inl (cI, 60, .inl (gM nw (fun j => if f5 j = x then (-1) else f5 j) f5)))] t.heap) (gA (gL [(wh, .inr (4, [.ref wh0, .ref wh1, .ref wh2, .ref wh3, .ref wh4, .ref wh5, .int (nI nw)])), (wh1, .inl (cI, 60, .inl f1)), (wh2, .inl (cI, 60, .inl f2)), (wh3, .inl (cZ, 60, .inl f3)), (wh4, .inl (cI, 60, .inl f4)), (wh5, .inl (cI, 60, .inl f5))]))) 0 0 (gA (gL [(wh, .inr (4, [.ref wh0, .ref wh1, .ref wh2, .ref wh3, .ref wh4, .ref wh5, .int (nI nw)])), (wh1, .inl (cI, 60, .inl f1)), (wh2, .inl (cI, 60, .inl f2)), (wh3, .inl (cZ, 60, .inl f3)), (wh4, .inl (cI, 60, .inl f4)), (wh5, .inl (cI, 60, .inl f5))])) := by
  refine Met.ofW (cc := cX4_goWith) (maxL := 4) (ret := (some .int)) (by decide) rfl ?_
  intro p e s m args below meth c s₁ B hml hv
  obtain ⟨rfl, hP, hK, hD0⟩ := hv
  have hx := B.exec
  have hb := B.bytes
  have hr := B.returns
  have hts := atoms_spec (ws := wsX4_goWith) B.pre
  have hown : s.vm.findClass RX4 = some m.cls := findClass_of_methodNamed B.named
  have hlocks := B.notSynchronized
  have hD := gw_self hD0
  generalize hAe : gA (gL [(wh, .inr (4, [.ref wh0, .ref wh1, .ref wh2, .ref wh3, .ref wh4, .ref wh5, .int (nI nw)])), (wh1, .inl (cI, 60, .inl f1)), (wh2, .inl (cI, 60, .inl f2)), (wh3, .inl (cZ, 60, .inl f3)), (wh4, .inl (cI, 60, .inl f4)), (wh5, .inl (cI, 60, .inl f5))]) = A at hD ⊢
  have hS : va_S A s.heap s.heap [] := va_S.rf
  have hP : va_P D vwCl [(wh, .inr (4, [.ref wh0, .ref wh1, .ref wh2, .ref wh3, .ref wh4, .ref wh5, .int (nI nw)])), (wh1, .inl (cI, 60, .inl f1)), (wh2, .inl (cI, 60, .inl f2)), (wh3, .inl (cZ, 60, .inl f3)), (wh4, .inl (cI, 60, .inl f4)), (wh5, .inl (cI, 60, .inl f5))] s.heap := hP
  have hl := lv_entry ([.ref wh, .int x]) (n := 4) (Nat.le_of_ble_eq_true rfl)
  rw [lg_entry_eq]
  generalize (lg_sl ([.ref wh, .int x]) ++ List.replicate (4 - (lg_sl ([.ref wh, .int x])).length) Slot.unset).toArray = ls at hl ⊢
  have hl : lv_has ls 4 [(0, .ref wh), (1, .int x)] := hl
  refine lv_iconst (v := 0) hx hb dX4_goWith_0 (by decide) ?_
  refine lv_istore_n (lv' := [(2, .int 0), (0, .ref wh), (1, .int x)]) hx hb dX4_goWith_1 rfl hl (by decide) rfl (fun ls hl => ?_)
  refine lv_iconst (v := 0) hx hb dX4_goWith_2 (by decide) ?_
  refine lv_istore_n (lv' := [(3, .int 0), (2, .int 0), (0, .ref wh), (1, .int x)]) hx hb dX4_goWith_3 rfl hl (by decide) rfl (fun ls hl => ?_)
  have hw4 : f4 = gM 0 (fun j => if f5 j = x then 3 else f4 j) f4 := gM_0.symm
  have hw5 : f5 = gM 0 (fun j => if f5 j = x then (-1) else f5 j) f5 := gM_0.symm
  have hP : va_P D vwCl [(wh, .inr (4, [.ref wh0, .ref wh1, .ref wh2, .ref wh3, .ref wh4, .ref wh5, .int (nI nw)])), (wh1, .inl (cI, 60, .inl f1)), (wh2, .inl (cI, 60, .inl f2)), (wh3, .inl (cZ, 60, .inl f3)), (wh4, .inl (cI, 60, .inl (gM 0 (fun j => if f5 j = x then 3 else f4 j) f4))), (wh5, .inl (cI, 60, .inl (gM 0 (fun j => if f5 j = x then (-1) else f5 j) f5)))] s.heap := by rw [← hw4, ← hw5]; exact hP
  have hD : va_D A [(wh, .inr (4, [.ref wh0, .ref wh1, .ref wh2, .ref wh3, .ref wh4, .ref wh5, .int (nI nw)])), (wh1, .inl (cI, 60, .inl f1)), (wh2, .inl (cI, 60, .inl f2)), (wh3, .inl (cZ, 60, .inl f3)), (wh4, .inl (cI, 60, .inl (gM 0 (fun j => if f5 j = x then 3 else f4 j) f4))), (wh5, .inl (cI, 60, .inl (gM 0 (fun j => if f5 j = x then (-1) else f5 j) f5)))] := by rw [← hw4, ← hw5]; exact hD
  refine gw_loop (fun (zz : Nat × Nat × Int32) H locs ls => match zz with | (k, i, acc) => va_P D vwCl [(wh, .inr (4, [.ref wh0, .ref wh1, .ref wh2, .ref wh3, .ref wh4, .ref wh5, .int (nI nw)])), (wh1, .inl (cI, 60, .inl f1)), (wh2, .inl (cI, 60, .inl f2)), (wh3, .inl (cZ, 60, .inl f3)), (wh4, .inl (cI, 60, .inl (gM i (fun j => if f5 j = x then 3 else f4 j) f4))), (wh5, .inl (cI, 60, .inl (gM i (fun j => if f5 j = x then (-1) else f5 j) f5)))] H ∧ va_D A [(wh, .inr (4, [.ref wh0, .ref wh1, .ref wh2, .ref wh3, .ref wh4, .ref wh5, .int (nI nw)])), (wh1, .inl (cI, 60, .inl f1)), (wh2, .inl (cI, 60, .inl f2)), (wh3, .inl (cZ, 60, .inl f3)), (wh4, .inl (cI, 60, .inl (gM i (fun j => if f5 j = x then 3 else f4 j) f4))), (wh5, .inl (cI, 60, .inl (gM i (fun j => if f5 j = x then (-1) else f5 j) f5)))] ∧ va_S A s.heap H locs ∧ lv_has ls 4 [(3, .int (nI i)), (2, .int acc), (0, .ref wh), (1, .int x)] ∧ (i + k = nw) ∧ (gS (fun j => if f5 j = x then gWorth (f2 j) (f1 j) (f4 j) (f3 j) else 0) k i acc = gS (fun j => if f5 j = x then gWorth (f2 j) (f1 j) (f4 j) (f3 j) else 0) nw 0 0)) (fun (zz : Nat × Nat × Int32) => match zz with | (k, i, acc) => k) (nw, 0, 0) ⟨hP, hD, hS, lv_sub hl [0, 1, 2, 3] rfl, (by omega), rfl⟩ ?_
  rintro ⟨k, i, acc⟩ ih H locs ls ⟨hP, hD, hS, hl, hin, hF⟩
  have hP : va_P D vwCl [(wh, .inr (4, [.ref wh0, .ref wh1, .ref wh2, .ref wh3, .ref wh4, .ref wh5, .int (nI nw)])), (wh1, .inl (cI, 60, .inl f1)), (wh2, .inl (cI, 60, .inl f2)), (wh3, .inl (cZ, 60, .inl f3)), (wh4, .inl (cI, 60, .inl (gM i (fun j => if f5 j = x then 3 else f4 j) f4))), (wh5, .inl (cI, 60, .inl (gM i (fun j => if f5 j = x then (-1) else f5 j) f5)))] H := hP
  have hD : va_D A [(wh, .inr (4, [.ref wh0, .ref wh1, .ref wh2, .ref wh3, .ref wh4, .ref wh5, .int (nI nw)])), (wh1, .inl (cI, 60, .inl f1)), (wh2, .inl (cI, 60, .inl f2)), (wh3, .inl (cZ, 60, .inl f3)), (wh4, .inl (cI, 60, .inl (gM i (fun j => if f5 j = x then 3 else f4 j) f4))), (wh5, .inl (cI, 60, .inl (gM i (fun j => if f5 j = x then (-1) else f5 j) f5)))] := hD
  have hl : lv_has ls 4 [(3, .int (nI i)), (2, .int acc), (0, .ref wh), (1, .int x)] := hl
  have hin : i + k = nw := hin
  have hF : gS (fun j => if f5 j = x then gWorth (f2 j) (f1 j) (f4 j) (f3 j) else 0) k i acc = gS (fun j => if f5 j = x then gWorth (f2 j) (f1 j) (f4 j) (f3 j) else 0) nw 0 0 := hF
  have ih4 := ih
  refine lv_iload_n hx hb dX4_goWith_4 rfl (lv_at hl 0 rfl) ?_
  refine lv_aload_n hx hb dX4_goWith_5 rfl (lv_at hl 2 rfl) ?_
  refine va_get (D := D) (ci := 4) (v := .int (nI nw)) (C := RX4) (T := TX4) (N := 7) hx hb hts wc_X4_goWith_X4 hown hK hP 0 rfl rfl 6 (by decide) (hts _ wd_X4_goWith_1) (fun _ h9 => h9) rfl dX4_goWith_6 ?_
  refine lv_icmp_ge (tgt := 50) hx hb dX4_goWith_9 (by decide) (fun c => ?_) (fun c => ?_)
  · skip
    have hk0 : k = 0 := by have := gw_ge (by omega) (by omega) c; omega
    subst hk0
    obtain rfl : i = nw := by omega
    refine lv_iload_n hx hb dX4_goWith_50 rfl (lv_at hl 1 rfl) ?_
    subst hAe
    exact W.iret (v := acc) hx hb hr (fun t ht hW => ⟨⟨_, (), rfl, hF, gw_hh ht hP⟩, hS.F ht⟩) hS.2.2 dX4_goWith_51
  · skip
    have hi : i < nw := gw_lt (by omega) (by omega) c
    obtain ⟨k, rfl⟩ : ∃ k2, k = k2 + 1 := ⟨k - 1, by omega⟩
    refine lv_aload_n hx hb dX4_goWith_12 rfl (lv_at hl 2 rfl) ?_
    refine va_get (D := D) (ci := 4) (v := .ref wh5) (C := RX4) (T := TX4) (N := 7) hx hb hts wc_X4_goWith_X4 hown hK hP 0 rfl rfl 5 (by decide) (hts _ wd_X4_goWith_2) (fun _ h9 => h9) rfl dX4_goWith_13 ?_
    refine lv_iload_n hx hb dX4_goWith_16 rfl (lv_at hl 0 rfl) ?_
    refine gw_iald hx hb hK hP 5 0 (k := i) rfl rfl (by omega) (by decide) dX4_goWith_17 ?_
    refine gw_top (y := f5 i) (gM_at (Nat.le_refl i)) ?_
    refine lv_iload_n hx hb dX4_goWith_18 rfl (lv_at hl 3 rfl) ?_
    refine lv_icmp_ne (tgt := 44) hx hb dX4_goWith_19 (by decide) (fun c2 => ?_) (fun c2 => ?_)
    · skip
      refine lv_iinc (v := nI (i + 1)) (lv' := [(3, .int (nI (i + 1))), (2, .int acc), (0, .ref wh), (1, .int x)]) hx hb dX4_goWith_44 hl (k := 0) rfl (nI_add i 1) (by decide) rfl (fun ls hl => ?_)
      refine lv_goto (tgt := 4) hx hb dX4_goWith_47 (by decide) ?_
      have hw4 : gM i (fun j => if f5 j = x then 3 else f4 j) f4 = gM (i + 1) (fun j => if f5 j = x then 3 else f4 j) f4 := gM_k (by simp [c2])
      have hw5 : gM i (fun j => if f5 j = x then (-1) else f5 j) f5 = gM (i + 1) (fun j => if f5 j = x then (-1) else f5 j) f5 := gM_k (by simp [c2])
      rw [hw4, hw5] at hP hD
      exact ih4 (k, i + 1, acc) H locs ls (by dsimp only; omega) ⟨hP, hD, hS, lv_sub hl [0, 1, 2, 3] rfl, (by omega), (by rw [← hF]; simp [gS, c2])⟩
    · skip
      refine lv_iload_n hx hb dX4_goWith_22 rfl (lv_at hl 1 rfl) ?_
      refine lv_aload_n hx hb dX4_goWith_23 rfl (lv_at hl 2 rfl) ?_
      refine lv_iload_n hx hb dX4_goWith_24 rfl (lv_at hl 0 rfl) ?_
      refine va_calli (va_runV (As := [.int (nI i)]) (rest := [.int acc]) ⟨hx, hb, hml, hown, hts⟩ (met_X4_worth l D cI cZ cL wh wh0 wh1 wh2 wh3 wh4 wh5 nw f1 f2 f3 (gM i (fun j => if f5 j = x then 3 else f4 j) f4) i (by first | assumption | omega)) (cwV 1 hts gX4_goWith_X4_worth rfl rfl rfl (by decide +kernel) ⟨Nat.le_of_ble_eq_true rfl, Nat.le_of_ble_eq_true rfl⟩) (gw_pvr hK hP (wc := [(wh, .inr (4, [.ref wh0, .ref wh1, .ref wh2, .ref wh3, .ref wh4, .ref wh5, .int (nI nw)])), (wh1, .inl (cI, 60, .inl f1)), (wh2, .inl (cI, 60, .inl f2)), (wh3, .inl (cZ, 60, .inl f3)), (wh4, .inl (cI, 60, .inl (gM i (fun j => if f5 j = x then 3 else f4 j) f4)))]) [0, 1, 2, 3, 4] rfl 4 rfl rfl rfl) rfl rfl hl.1 rfl (lv_room (Nat.le_of_ble_eq_true rfl)) dX4_goWith_25 ⟨Nat.zero_le _, Nat.zero_le _⟩) hS (fun _ _ z => z.elim) (fun _ z => z.elim) (fun r_4 _ t H1 locs ht hvm hw hB hz1 hk1 hS => ?_)
      have hP := gw_ro hP hk1
      generalize H1 = H at hP hS ⊢
      subst hw
      rw [gM_at (Nat.le_refl i)]
      refine lv_iadd hx hb dX4_goWith_28 ?_
      refine lv_istore_n (lv' := [(2, .int (acc + (gWorth (f2 i) (f1 i) (f4 i) (f3 i)))), (3, .int (nI i)), (0, .ref wh), (1, .int x)]) hx hb dX4_goWith_29 rfl hl (by decide) rfl (fun ls hl => ?_)
      refine lv_aload_n hx hb dX4_goWith_30 rfl (lv_at hl 2 rfl) ?_
      refine va_get (D := D) (ci := 4) (v := .ref wh4) (C := RX4) (T := TX4) (N := 7) hx hb hts wc_X4_goWith_X4 hown hK hP 0 rfl rfl 4 (by decide) (hts _ wd_X4_goWith_3) (fun _ h9 => h9) rfl dX4_goWith_31 ?_
      refine lv_iload_n hx hb dX4_goWith_34 rfl (lv_at hl 1 rfl) ?_
      refine lv_iconst (v := 3) hx hb dX4_goWith_35 (by decide) ?_
      refine gw_iast hx hb hK hP hD hS 4 0 (k := i) rfl rfl (by omega) (by decide) dX4_goWith_36 (fun H locs hP hD hS => ?_)
      have hP : va_P D vwCl [(wh, .inr (4, [.ref wh0, .ref wh1, .ref wh2, .ref wh3, .ref wh4, .ref wh5, .int (nI nw)])), (wh1, .inl (cI, 60, .inl f1)), (wh2, .inl (cI, 60, .inl f2)), (wh3, .inl (cZ, 60, .inl f3)), (wh4, .inl (cI, 60, .inl (upd (gM i (fun j => if f5 j = x then 3 else f4 j) f4) i 3))), (wh5, .inl (cI, 60, .inl (gM i (fun j => if f5 j = x then (-1) else f5 j) f5)))] H := hP
      have hD : va_D A [(wh, .inr (4, [.ref wh0, .ref wh1, .ref wh2, .ref wh3, .ref wh4, .ref wh5, .int (nI nw)])), (wh1, .inl (cI, 60, .inl f1)), (wh2, .inl (cI, 60, .inl f2)), (wh3, .inl (cZ, 60, .inl f3)), (wh4, .inl (cI, 60, .inl (upd (gM i (fun j => if f5 j = x then 3 else f4 j) f4) i 3))), (wh5, .inl (cI, 60, .inl (gM i (fun j => if f5 j = x then (-1) else f5 j) f5)))] := hD
      refine lv_aload_n hx hb dX4_goWith_37 rfl (lv_at hl 2 rfl) ?_
      refine va_get (D := D) (ci := 4) (v := .ref wh5) (C := RX4) (T := TX4) (N := 7) hx hb hts wc_X4_goWith_X4 hown hK hP 0 rfl rfl 5 (by decide) (hts _ wd_X4_goWith_2) (fun _ h9 => h9) rfl dX4_goWith_38 ?_
      refine lv_iload_n hx hb dX4_goWith_41 rfl (lv_at hl 1 rfl) ?_
      refine lv_iconst (v := (-1)) hx hb dX4_goWith_42 (by decide) ?_
      refine gw_iast hx hb hK hP hD hS 5 0 (k := i) rfl rfl (by omega) (by decide) dX4_goWith_43 (fun H locs hP hD hS => ?_)
      have hP : va_P D vwCl [(wh, .inr (4, [.ref wh0, .ref wh1, .ref wh2, .ref wh3, .ref wh4, .ref wh5, .int (nI nw)])), (wh1, .inl (cI, 60, .inl f1)), (wh2, .inl (cI, 60, .inl f2)), (wh3, .inl (cZ, 60, .inl f3)), (wh4, .inl (cI, 60, .inl (upd (gM i (fun j => if f5 j = x then 3 else f4 j) f4) i 3))), (wh5, .inl (cI, 60, .inl (upd (gM i (fun j => if f5 j = x then (-1) else f5 j) f5) i (-1))))] H := hP
      have hD : va_D A [(wh, .inr (4, [.ref wh0, .ref wh1, .ref wh2, .ref wh3, .ref wh4, .ref wh5, .int (nI nw)])), (wh1, .inl (cI, 60, .inl f1)), (wh2, .inl (cI, 60, .inl f2)), (wh3, .inl (cZ, 60, .inl f3)), (wh4, .inl (cI, 60, .inl (upd (gM i (fun j => if f5 j = x then 3 else f4 j) f4) i 3))), (wh5, .inl (cI, 60, .inl (upd (gM i (fun j => if f5 j = x then (-1) else f5 j) f5) i (-1))))] := hD
      refine lv_iinc (v := nI (i + 1)) (lv' := [(3, .int (nI (i + 1))), (2, .int (acc + (gWorth (f2 i) (f1 i) (f4 i) (f3 i)))), (0, .ref wh), (1, .int x)]) hx hb dX4_goWith_44 hl (k := 1) rfl (nI_add i 1) (by decide) rfl (fun ls hl => ?_)
      refine lv_goto (tgt := 4) hx hb dX4_goWith_47 (by decide) ?_
      have hw4 : upd (gM i (fun j => if f5 j = x then 3 else f4 j) f4) i 3 = gM (i + 1) (fun j => if f5 j = x then 3 else f4 j) f4 := gM_s (by simp [c2])
      have hw5 : upd (gM i (fun j => if f5 j = x then (-1) else f5 j) f5) i (-1) = gM (i + 1) (fun j => if f5 j = x then (-1) else f5 j) f5 := gM_s (by simp [c2])
      rw [hw4, hw5] at hP hD
      exact ih4 (k, i + 1, acc + (gWorth (f2 i) (f1 i) (f4 i) (f3 i))) H locs ls (by dsimp only; omega) ⟨hP, hD, hS, lv_sub hl [0, 1, 2, 3] rfl, (by omega), (by rw [← hF]; simp [gS, c2])⟩

theorem wc_X4_fact_X4 : ∀ w ∈ u_ws RX4 TX4 7, w ∈ wsX4_fact := by decide +kernel
theorem wd_X4_fact_1 : (.fieldLink RX4 9 "GritWheels$Wheels" "source" "[I" : Cond) ∈ wsX4_fact := by decide +kernel
theorem wd_X4_fact_2 : (.fieldLink RX4 18 "GritWheels$Wheels" "size" "[I" : Cond) ∈ wsX4_fact := by decide +kernel
theorem wd_X4_fact_3 : (.fieldLink RX4 25 "GritWheels$Wheels" "state" "[I" : Cond) ∈ wsX4_fact := by decide +kernel
theorem wd_X4_fact_4 : (.fieldLink RX4 28 "GritWheels$Wheels" "carrier" "[I" : Cond) ∈ wsX4_fact := by decide +kernel
set_option maxHeartbeats 4000000 in
set_option maxRecDepth 100000 in
theorem met_X4_fact (l : Launch) (D : va_G) (cI cZ cL : ClassId) (wh : Nat) (wh0 : Nat) (wh1 : Nat) (wh2 : Nat) (wh3 : Nat) (wh4 : Nat) (wh5 : Nat) (nw : Nat) (f0 : Nat → Int32) (f1 : Nat → Int32) (f2 : Nat → Int32) (f3 : Nat → Int32) (f4 : Nat → Int32) (f5 : Nat → Int32) (k : Nat) (v : Nat) (hk : k < 60) (hv6 : v < 6) : Met l yX4_fact wsX4_fact ({ frames := 1, cells := 0, slots := 0, locals := 23 }) (gPr [.ref wh, .int (nI k), .int (nI v)] D [(wh, .inr (4, [.ref wh0, .ref wh1, .ref wh2, .ref wh3, .ref wh4, .ref wh5, .int (nI nw)])), (wh0, .inl (cI, 60, .inl f0)), (wh1, .inl (cI, 60, .inl f1)), (wh2, .inl (cI, 60, .inl f2)), (wh3, .inl (cZ, 60, .inl f3)), (wh4, .inl (cI, 60, .inl f4)), (wh5, .inl (cI, 60, .inl f5))] (gT cI cZ cL)) (va_Qi (fun (r : Int32) (_ : Unit) => r = gFact v (f0 k) (f2 k) (f1 k) (f4 k) (f3 k) (f5 k)) (fun _ _ => True) gN) 0 0 gN := by
  refine Met.ofW (cc := cX4_fact) (maxL := 3) (ret := (some .int)) (by decide) rfl ?_
  intro p e s m args below meth c s₁ B hml hv
  obtain ⟨rfl, hP, hK⟩ := hv
  have hx := B.exec
  have hb := B.bytes
  have hr := B.returns
  have hts := atoms_spec (ws := wsX4_fact) B.pre
  have hown : s.vm.findClass RX4 = some m.cls := findClass_of_methodNamed B.named
  have hlocks := B.notSynchronized
  have hS : va_S gN s.heap s.heap [] := va_S.rf
  have hP : va_P D vwCl [(wh, .inr (4, [.ref wh0, .ref wh1, .ref wh2, .ref wh3, .ref wh4, .ref wh5, .int (nI nw)])), (wh0, .inl (cI, 60, .inl f0)), (wh1, .inl (cI, 60, .inl f1)), (wh2, .inl (cI, 60, .inl f2)), (wh3, .inl (cZ, 60, .inl f3)), (wh4, .inl (cI, 60, .inl f4)), (wh5, .inl (cI, 60, .inl f5))] s.heap := hP
  have hl := lv_entry ([.ref wh, .int (nI k), .int (nI v)]) (n := 3) (Nat.le_of_ble_eq_true rfl)
  rw [lg_entry_eq]
  generalize (lg_sl ([.ref wh, .int (nI k), .int (nI v)]) ++ List.replicate (3 - (lg_sl ([.ref wh, .int (nI k), .int (nI v)])).length) Slot.unset).toArray = ls at hl ⊢
  have hl : lv_has ls 3 [(0, .ref wh), (1, .int (nI k)), (2, .int (nI v))] := hl
  refine lv_iload_n hx hb dX4_fact_0 rfl (lv_at hl 2 rfl) ?_
  rcases (show v = 0 ∨ v = 1 ∨ v = 2 ∨ v = 3 ∨ v = 4 ∨ v = 5 by omega) with rfl | rfl | rfl | rfl | rfl | rfl
  · skip
    refine lv_tableIn (off := 35) (tgt := 36) hx hb dX4_fact_1 (by decide) (by decide) rfl (by decide) ?_
    refine lv_aload_n hx hb dX4_fact_36 rfl (lv_at hl 0 rfl) ?_
    refine va_get (D := D) (ci := 4) (v := .ref wh0) (C := RX4) (T := TX4) (N := 7) hx hb hts wc_X4_fact_X4 hown hK hP 0 rfl rfl 0 (by decide) (hts _ wd_X4_fact_1) (fun _ h9 => h9) rfl dX4_fact_37 ?_
    refine lv_iload_n hx hb dX4_fact_40 rfl (lv_at hl 1 rfl) ?_
    refine gw_iald hx hb hK hP 1 0 (k := k) rfl rfl (by omega) (by decide) dX4_fact_41 ?_
    exact W.iret (v := f0 k) hx hb hr (fun t ht hW => ⟨⟨_, (), rfl, rfl, trivial⟩, hS.F ht⟩) hS.2.2 dX4_fact_42
  · skip
    refine lv_tableIn (off := 42) (tgt := 43) hx hb dX4_fact_1 (by decide) (by decide) rfl (by decide) ?_
    refine lv_aload_n hx hb dX4_fact_43 rfl (lv_at hl 0 rfl) ?_
    refine va_get (D := D) (ci := 4) (v := .ref wh2) (C := RX4) (T := TX4) (N := 7) hx hb hts wc_X4_fact_X4 hown hK hP 0 rfl rfl 2 (by decide) (hts _ wd_X4_fact_2) (fun _ h9 => h9) rfl dX4_fact_44 ?_
    refine lv_iload_n hx hb dX4_fact_47 rfl (lv_at hl 1 rfl) ?_
    refine gw_iald hx hb hK hP 3 0 (k := k) rfl rfl (by omega) (by decide) dX4_fact_48 ?_
    exact W.iret (v := f2 k) hx hb hr (fun t ht hW => ⟨⟨_, (), rfl, rfl, trivial⟩, hS.F ht⟩) hS.2.2 dX4_fact_49
  · skip
    refine lv_tableIn (off := 49) (tgt := 50) hx hb dX4_fact_1 (by decide) (by decide) rfl (by decide) ?_
    refine lv_aload_n hx hb dX4_fact_50 rfl (lv_at hl 0 rfl) ?_
    refine lv_iload_n hx hb dX4_fact_51 rfl (lv_at hl 1 rfl) ?_
    refine va_calli (va_runV (As := [.int (nI k)]) (rest := []) ⟨hx, hb, hml, hown, hts⟩ (met_X4_weight l D cI cZ cL wh wh0 wh1 wh2 wh3 wh4 wh5 nw f2 k (by first | assumption | omega)) (cwV 1 hts gX4_fact_X4_weight rfl rfl rfl (by decide +kernel) ⟨Nat.le_of_ble_eq_true rfl, Nat.le_of_ble_eq_true rfl⟩) (gw_pvr hK hP (wc := [(wh, .inr (4, [.ref wh0, .ref wh1, .ref wh2, .ref wh3, .ref wh4, .ref wh5, .int (nI nw)])), (wh2, .inl (cI, 60, .inl f2))]) [0, 3] rfl 4 rfl rfl rfl) rfl rfl hl.1 rfl (lv_room (Nat.le_of_ble_eq_true rfl)) dX4_fact_52 ⟨Nat.zero_le _, Nat.zero_le _⟩) hS (fun _ _ z => z.elim) (fun _ z => z.elim) (fun r_2 _ t H1 locs ht hvm hw hB hz1 hk1 hS => ?_)
    have hP := gw_ro hP hk1
    generalize H1 = H at hP hS ⊢
    subst hw
    exact W.iret (v := 2 * f2 k * f2 k) hx hb hr (fun t ht hW => ⟨⟨_, (), rfl, rfl, trivial⟩, hS.F ht⟩) hS.2.2 dX4_fact_55
  · skip
    refine lv_tableIn (off := 55) (tgt := 56) hx hb dX4_fact_1 (by decide) (by decide) rfl (by decide) ?_
    refine lv_aload_n hx hb dX4_fact_56 rfl (lv_at hl 0 rfl) ?_
    refine va_get (D := D) (ci := 4) (v := .ref wh4) (C := RX4) (T := TX4) (N := 7) hx hb hts wc_X4_fact_X4 hown hK hP 0 rfl rfl 4 (by decide) (hts _ wd_X4_fact_3) (fun _ h9 => h9) rfl dX4_fact_57 ?_
    refine lv_iload_n hx hb dX4_fact_60 rfl (lv_at hl 1 rfl) ?_
    refine gw_iald hx hb hK hP 5 0 (k := k) rfl rfl (by omega) (by decide) dX4_fact_61 ?_
    exact W.iret (v := f4 k) hx hb hr (fun t ht hW => ⟨⟨_, (), rfl, rfl, trivial⟩, hS.F ht⟩) hS.2.2 dX4_fact_62
  · skip
    refine lv_tableIn (off := 62) (tgt := 63) hx hb dX4_fact_1 (by decide) (by decide) rfl (by decide) ?_
    refine lv_aload_n hx hb dX4_fact_63 rfl (lv_at hl 0 rfl) ?_
    refine lv_iload_n hx hb dX4_fact_64 rfl (lv_at hl 1 rfl) ?_
    refine va_calli (va_runV (As := [.int (nI k)]) (rest := []) ⟨hx, hb, hml, hown, hts⟩ (met_X4_worth l D cI cZ cL wh wh0 wh1 wh2 wh3 wh4 wh5 nw f1 f2 f3 f4 k (by first | assumption | omega)) (cwV 1 hts gX4_fact_X4_worth rfl rfl rfl (by decide +kernel) ⟨Nat.le_of_ble_eq_true rfl, Nat.le_of_ble_eq_true rfl⟩) (gw_pvr hK hP (wc := [(wh, .inr (4, [.ref wh0, .ref wh1, .ref wh2, .ref wh3, .ref wh4, .ref wh5, .int (nI nw)])), (wh1, .inl (cI, 60, .inl f1)), (wh2, .inl (cI, 60, .inl f2)), (wh3, .inl (cZ, 60, .inl f3)), (wh4, .inl (cI, 60, .inl f4))]) [0, 2, 3, 4, 5] rfl 4 rfl rfl rfl) rfl rfl hl.1 rfl (lv_room (Nat.le_of_ble_eq_true rfl)) dX4_fact_65 ⟨Nat.zero_le _, Nat.zero_le _⟩) hS (fun _ _ z => z.elim) (fun _ z => z.elim) (fun r_4 _ t H1 locs ht hvm hw hB hz1 hk1 hS => ?_)
    have hP := gw_ro hP hk1
    generalize H1 = H at hP hS ⊢
    subst hw
    exact W.iret (v := gWorth (f2 k) (f1 k) (f4 k) (f3 k)) hx hb hr (fun t ht hW => ⟨⟨_, (), rfl, rfl, trivial⟩, hS.F ht⟩) hS.2.2 dX4_fact_68
  · skip
    refine lv_tableOut (tgt := 69) hx hb dX4_fact_1 (by decide) (by decide) ?_
    refine lv_aload_n hx hb dX4_fact_69 rfl (lv_at hl 0 rfl) ?_
    refine va_get (D := D) (ci := 4) (v := .ref wh5) (C := RX4) (T := TX4) (N := 7) hx hb hts wc_X4_fact_X4 hown hK hP 0 rfl rfl 5 (by decide) (hts _ wd_X4_fact_4) (fun _ h9 => h9) rfl dX4_fact_70 ?_
    refine lv_iload_n hx hb dX4_fact_73 rfl (lv_at hl 1 rfl) ?_
    refine gw_iald hx hb hK hP 6 0 (k := k) rfl rfl (by omega) (by decide) dX4_fact_74 ?_
    exact W.iret (v := f5 k) hx hb hr (fun t ht hW => ⟨⟨_, (), rfl, rfl, trivial⟩, hS.F ht⟩) hS.2.2 dX4_fact_75

theorem wc_X0_copyFrom_X0 : ∀ w ∈ u_ws RX0 TX0 5, w ∈ wsX0_copyFrom := by decide +kernel
theorem wd_X0_copyFrom_1 : (.fieldLink RX0 24 "GritWheels$Beds" "number" "I" : Cond) ∈ wsX0_copyFrom := by decide +kernel
theorem wd_X0_copyFrom_2 : (.fieldLink RX0 9 "GritWheels$Beds" "grit" "[I" : Cond) ∈ wsX0_copyFrom := by decide +kernel
theorem wd_X0_copyFrom_3 : (.fieldLink RX0 15 "GritWheels$Beds" "flaw" "[I" : Cond) ∈ wsX0_copyFrom := by decide +kernel
theorem wd_X0_copyFrom_4 : (.fieldLink RX0 18 "GritWheels$Beds" "stone" "[I" : Cond) ∈ wsX0_copyFrom := by decide +kernel
theorem wd_X0_copyFrom_5 : (.fieldLink RX0 21 "GritWheels$Beds" "cut" "[I" : Cond) ∈ wsX0_copyFrom := by decide +kernel
set_option maxHeartbeats 4000000 in
set_option maxRecDepth 100000 in
theorem met_X0_copyFrom (l : Launch) (D : va_G) (cI cZ cL : ClassId) (bd : Nat) (bd0 : Nat) (bd1 : Nat) (bd2 : Nat) (bd3 : Nat) (be : Nat) (be0 : Nat) (be1 : Nat) (be2 : Nat) (be3 : Nat) (mn : Int32) (nb : Nat) (gr : Nat → Int32) (fl : Nat → Int32) (st : Nat → Int32) (cu : Nat → Int32) (og : Nat → Int32) (of : Nat → Int32) (ot : Nat → Int32) (oc : Nat → Int32) (hnb : nb ≤ 5) : Met l yX0_copyFrom wsX0_copyFrom ({ frames := 0, cells := 0, slots := 0, locals := 0 }) (gPw [.ref bd, .ref be] D [(bd, .inr (0, [.ref bd0, .ref bd1, .ref bd2, .ref bd3, .int mn])), (bd0, .inl (cI, 5, .inl gr)), (bd1, .inl (cI, 5, .inl fl)), (bd2, .inl (cI, 5, .inl st)), (bd3, .inl (cI, 5, .inl cu)), (be, .inr (0, [.ref be0, .ref be1, .ref be2, .ref be3, .int (nI nb)])), (be0, .inl (cI, 5, .inl og)), (be1, .inl (cI, 5, .inl of)), (be2, .inl (cI, 5, .inl ot)), (be3, .inl (cI, 5, .inl oc))] (gT cI cZ cL)) (va_Qv (fun (_ : Unit) => True) (fun _ t => va_P D vwCl [(bd, .inr (0, [.ref bd0, .ref bd1, .ref bd2, .ref bd3, .int (nI nb)])), (bd0, .inl (cI, 5, .inl (gM nb og gr))), (bd1, .inl (cI, 5, .inl (gM nb of fl))), (bd2, .inl (cI, 5, .inl (gM nb ot st))), (bd3, .inl (cI, 5, .inl (gM nb oc cu))), (be, .inr (0, [.ref be0, .ref be1, .ref be2, .ref be3, .int (nI nb)])), (be0, .inl (cI, 5, .inl og)), (be1, .inl (cI, 5, .inl of)), (be2, .inl (cI, 5, .inl ot)), (be3, .inl (cI, 5, .inl oc))] t.heap) (gA (gL [(bd, .inr (0, [.ref bd0, .ref bd1, .ref bd2, .ref bd3, .int mn])), (bd0, .inl (cI, 5, .inl gr)), (bd1, .inl (cI, 5, .inl fl)), (bd2, .inl (cI, 5, .inl st)), (bd3, .inl (cI, 5, .inl cu)), (be, .inr (0, [.ref be0, .ref be1, .ref be2, .ref be3, .int (nI nb)])), (be0, .inl (cI, 5, .inl og)), (be1, .inl (cI, 5, .inl of)), (be2, .inl (cI, 5, .inl ot)), (be3, .inl (cI, 5, .inl oc))]))) 0 0 (gA (gL [(bd, .inr (0, [.ref bd0, .ref bd1, .ref bd2, .ref bd3, .int mn])), (bd0, .inl (cI, 5, .inl gr)), (bd1, .inl (cI, 5, .inl fl)), (bd2, .inl (cI, 5, .inl st)), (bd3, .inl (cI, 5, .inl cu)), (be, .inr (0, [.ref be0, .ref be1, .ref be2, .ref be3, .int (nI nb)])), (be0, .inl (cI, 5, .inl og)), (be1, .inl (cI, 5, .inl of)), (be2, .inl (cI, 5, .inl ot)), (be3, .inl (cI, 5, .inl oc))])) := by
  refine Met.ofW (cc := cX0_copyFrom) (maxL := 3) (ret := none) (by decide) rfl ?_
  intro p e s m args below meth c s₁ B hml hv
  obtain ⟨rfl, hP, hK, hD0⟩ := hv
  have hx := B.exec
  have hb := B.bytes
  have hr := B.returns
  have hts := atoms_spec (ws := wsX0_copyFrom) B.pre
  have hown : s.vm.findClass RX0 = some m.cls := findClass_of_methodNamed B.named
  have hlocks := B.notSynchronized
  have hD := gw_self hD0
  generalize hAe : gA (gL [(bd, .inr (0, [.ref bd0, .ref bd1, .ref bd2, .ref bd3, .int mn])), (bd0, .inl (cI, 5, .inl gr)), (bd1, .inl (cI, 5, .inl fl)), (bd2, .inl (cI, 5, .inl st)), (bd3, .inl (cI, 5, .inl cu)), (be, .inr (0, [.ref be0, .ref be1, .ref be2, .ref be3, .int (nI nb)])), (be0, .inl (cI, 5, .inl og)), (be1, .inl (cI, 5, .inl of)), (be2, .inl (cI, 5, .inl ot)), (be3, .inl (cI, 5, .inl oc))]) = A at hD ⊢
  have hS : va_S A s.heap s.heap [] := va_S.rf
  have hP : va_P D vwCl [(bd, .inr (0, [.ref bd0, .ref bd1, .ref bd2, .ref bd3, .int mn])), (bd0, .inl (cI, 5, .inl gr)), (bd1, .inl (cI, 5, .inl fl)), (bd2, .inl (cI, 5, .inl st)), (bd3, .inl (cI, 5, .inl cu)), (be, .inr (0, [.ref be0, .ref be1, .ref be2, .ref be3, .int (nI nb)])), (be0, .inl (cI, 5, .inl og)), (be1, .inl (cI, 5, .inl of)), (be2, .inl (cI, 5, .inl ot)), (be3, .inl (cI, 5, .inl oc))] s.heap := hP
  have hl := lv_entry ([.ref bd, .ref be]) (n := 3) (Nat.le_of_ble_eq_true rfl)
  rw [lg_entry_eq]
  generalize (lg_sl ([.ref bd, .ref be]) ++ List.replicate (3 - (lg_sl ([.ref bd, .ref be])).length) Slot.unset).toArray = ls at hl ⊢
  have hl : lv_has ls 3 [(0, .ref bd), (1, .ref be)] := hl
  refine lv_aload_n hx hb dX0_copyFrom_0 rfl (lv_at hl 0 rfl) ?_
  refine lv_aload_n hx hb dX0_copyFrom_1 rfl (lv_at hl 1 rfl) ?_
  refine va_get (D := D) (ci := 0) (v := .int (nI nb)) (C := RX0) (T := TX0) (N := 5) hx hb hts wc_X0_copyFrom_X0 hown hK hP 5 rfl rfl 4 (by decide) (hts _ wd_X0_copyFrom_1) (fun _ h9 => h9) rfl dX0_copyFrom_2 ?_
  refine va_put (D := D) (ci := 0) (v := .int (nI nb)) (ty := .int) (C := RX0) (T := TX0) (N := 5) hx hb hts wc_X0_copyFrom_X0 tyX0 tyX0_ok nmX0 hown hK hP hD hS 0 rfl rfl 4 (by decide) (hts _ wd_X0_copyFrom_1) (fun _ h9 => h9) rfl (by decide +kernel) rfl rfl (Nat.le_of_ble_eq_true rfl) dX0_copyFrom_5 (fun H locs hP hD hS => ?_)
  have hP : va_P D vwCl [(bd, .inr (0, [.ref bd0, .ref bd1, .ref bd2, .ref bd3, .int (nI nb)])), (bd0, .inl (cI, 5, .inl gr)), (bd1, .inl (cI, 5, .inl fl)), (bd2, .inl (cI, 5, .inl st)), (bd3, .inl (cI, 5, .inl cu)), (be, .inr (0, [.ref be0, .ref be1, .ref be2, .ref be3, .int (nI nb)])), (be0, .inl (cI, 5, .inl og)), (be1, .inl (cI, 5, .inl of)), (be2, .inl (cI, 5, .inl ot)), (be3, .inl (cI, 5, .inl oc))] H := hP
  have hD : va_D A [(bd, .inr (0, [.ref bd0, .ref bd1, .ref bd2, .ref bd3, .int (nI nb)])), (bd0, .inl (cI, 5, .inl gr)), (bd1, .inl (cI, 5, .inl fl)), (bd2, .inl (cI, 5, .inl st)), (bd3, .inl (cI, 5, .inl cu)), (be, .inr (0, [.ref be0, .ref be1, .ref be2, .ref be3, .int (nI nb)])), (be0, .inl (cI, 5, .inl og)), (be1, .inl (cI, 5, .inl of)), (be2, .inl (cI, 5, .inl ot)), (be3, .inl (cI, 5, .inl oc))] := hD
  refine lv_iconst (v := 0) hx hb dX0_copyFrom_8 (by decide) ?_
  refine lv_istore_n (lv' := [(2, .int 0), (0, .ref bd), (1, .ref be)]) hx hb dX0_copyFrom_9 rfl hl (by decide) rfl (fun ls hl => ?_)
  have hP : va_P D vwCl [(bd, .inr (0, [.ref bd0, .ref bd1, .ref bd2, .ref bd3, .int (nI nb)])), (bd0, .inl (cI, 5, .inl (gM 0 og gr))), (bd1, .inl (cI, 5, .inl (gM 0 of fl))), (bd2, .inl (cI, 5, .inl (gM 0 ot st))), (bd3, .inl (cI, 5, .inl (gM 0 oc cu))), (be, .inr (0, [.ref be0, .ref be1, .ref be2, .ref be3, .int (nI nb)])), (be0, .inl (cI, 5, .inl og)), (be1, .inl (cI, 5, .inl of)), (be2, .inl (cI, 5, .inl ot)), (be3, .inl (cI, 5, .inl oc))] H := by simp only [gM_0]; exact hP
  have hD : va_D A [(bd, .inr (0, [.ref bd0, .ref bd1, .ref bd2, .ref bd3, .int (nI nb)])), (bd0, .inl (cI, 5, .inl (gM 0 og gr))), (bd1, .inl (cI, 5, .inl (gM 0 of fl))), (bd2, .inl (cI, 5, .inl (gM 0 ot st))), (bd3, .inl (cI, 5, .inl (gM 0 oc cu))), (be, .inr (0, [.ref be0, .ref be1, .ref be2, .ref be3, .int (nI nb)])), (be0, .inl (cI, 5, .inl og)), (be1, .inl (cI, 5, .inl of)), (be2, .inl (cI, 5, .inl ot)), (be3, .inl (cI, 5, .inl oc))] := by simp only [gM_0]; exact hD
  refine gw_loop (fun (zz : Nat × Nat) H locs ls => match zz with | (k, i) => va_P D vwCl [(bd, .inr (0, [.ref bd0, .ref bd1, .ref bd2, .ref bd3, .int (nI nb)])), (bd0, .inl (cI, 5, .inl (gM i og gr))), (bd1, .inl (cI, 5, .inl (gM i of fl))), (bd2, .inl (cI, 5, .inl (gM i ot st))), (bd3, .inl (cI, 5, .inl (gM i oc cu))), (be, .inr (0, [.ref be0, .ref be1, .ref be2, .ref be3, .int (nI nb)])), (be0, .inl (cI, 5, .inl og)), (be1, .inl (cI, 5, .inl of)), (be2, .inl (cI, 5, .inl ot)), (be3, .inl (cI, 5, .inl oc))] H ∧ va_D A [(bd, .inr (0, [.ref bd0, .ref bd1, .ref bd2, .ref bd3, .int (nI nb)])), (bd0, .inl (cI, 5, .inl (gM i og gr))), (bd1, .inl (cI, 5, .inl (gM i of fl))), (bd2, .inl (cI, 5, .inl (gM i ot st))), (bd3, .inl (cI, 5, .inl (gM i oc cu))), (be, .inr (0, [.ref be0, .ref be1, .ref be2, .ref be3, .int (nI nb)])), (be0, .inl (cI, 5, .inl og)), (be1, .inl (cI, 5, .inl of)), (be2, .inl (cI, 5, .inl ot)), (be3, .inl (cI, 5, .inl oc))] ∧ va_S A s.heap H locs ∧ lv_has ls 3 [(2, .int (nI i)), (0, .ref bd), (1, .ref be)] ∧ (i + k = nb)) (fun (zz : Nat × Nat) => match zz with | (k, i) => k) (nb, 0) ⟨hP, hD, hS, lv_sub hl [0, 1, 2] rfl, (by omega)⟩ ?_
  rintro ⟨k, i⟩ ih H locs ls ⟨hP, hD, hS, hl, hin⟩
  have hP : va_P D vwCl [(bd, .inr (0, [.ref bd0, .ref bd1, .ref bd2, .ref bd3, .int (nI nb)])), (bd0, .inl (cI, 5, .inl (gM i og gr))), (bd1, .inl (cI, 5, .inl (gM i of fl))), (bd2, .inl (cI, 5, .inl (gM i ot st))), (bd3, .inl (cI, 5, .inl (gM i oc cu))), (be, .inr (0, [.ref be0, .ref be1, .ref be2, .ref be3, .int (nI nb)])), (be0, .inl (cI, 5, .inl og)), (be1, .inl (cI, 5, .inl of)), (be2, .inl (cI, 5, .inl ot)), (be3, .inl (cI, 5, .inl oc))] H := hP
  have hD : va_D A [(bd, .inr (0, [.ref bd0, .ref bd1, .ref bd2, .ref bd3, .int (nI nb)])), (bd0, .inl (cI, 5, .inl (gM i og gr))), (bd1, .inl (cI, 5, .inl (gM i of fl))), (bd2, .inl (cI, 5, .inl (gM i ot st))), (bd3, .inl (cI, 5, .inl (gM i oc cu))), (be, .inr (0, [.ref be0, .ref be1, .ref be2, .ref be3, .int (nI nb)])), (be0, .inl (cI, 5, .inl og)), (be1, .inl (cI, 5, .inl of)), (be2, .inl (cI, 5, .inl ot)), (be3, .inl (cI, 5, .inl oc))] := hD
  have hl : lv_has ls 3 [(2, .int (nI i)), (0, .ref bd), (1, .ref be)] := hl
  have hin : i + k = nb := hin
  have ih10 := ih
  refine lv_iload_n hx hb dX0_copyFrom_10 rfl (lv_at hl 0 rfl) ?_
  refine lv_aload_n hx hb dX0_copyFrom_11 rfl (lv_at hl 1 rfl) ?_
  refine va_get (D := D) (ci := 0) (v := .int (nI nb)) (C := RX0) (T := TX0) (N := 5) hx hb hts wc_X0_copyFrom_X0 hown hK hP 0 rfl rfl 4 (by decide) (hts _ wd_X0_copyFrom_1) (fun _ h9 => h9) rfl dX0_copyFrom_12 ?_
  refine lv_icmp_ge (tgt := 72) hx hb dX0_copyFrom_15 (by decide) (fun c => ?_) (fun c => ?_)
  · skip
    have hk0 : k = 0 := by have := gw_ge (by omega) (by omega) c; omega
    subst hk0
    obtain rfl : i = nb := by omega
    subst hAe
    exact W.vret hx hb hr (fun t ht hW => ⟨⟨(), rfl, trivial, gw_hh ht hP⟩, hS.F ht⟩) hS.2.2 dX0_copyFrom_72
  · skip
    have hi : i < nb := gw_lt (by omega) (by omega) c
    obtain ⟨k, rfl⟩ : ∃ k2, k = k2 + 1 := ⟨k - 1, by omega⟩
    refine lv_aload_n hx hb dX0_copyFrom_18 rfl (lv_at hl 1 rfl) ?_
    refine va_get (D := D) (ci := 0) (v := .ref bd0) (C := RX0) (T := TX0) (N := 5) hx hb hts wc_X0_copyFrom_X0 hown hK hP 0 rfl rfl 0 (by decide) (hts _ wd_X0_copyFrom_2) (fun _ h9 => h9) rfl dX0_copyFrom_19 ?_
    refine lv_iload_n hx hb dX0_copyFrom_22 rfl (lv_at hl 0 rfl) ?_
    refine lv_aload_n hx hb dX0_copyFrom_23 rfl (lv_at hl 2 rfl) ?_
    refine va_get (D := D) (ci := 0) (v := .ref be0) (C := RX0) (T := TX0) (N := 5) hx hb hts wc_X0_copyFrom_X0 hown hK hP 5 rfl rfl 0 (by decide) (hts _ wd_X0_copyFrom_2) (fun _ h9 => h9) rfl dX0_copyFrom_24 ?_
    refine lv_iload_n hx hb dX0_copyFrom_27 rfl (lv_at hl 0 rfl) ?_
    refine gw_iald hx hb hK hP 6 0 (k := i) rfl rfl (by omega) (by decide) dX0_copyFrom_28 ?_
    refine gw_iast hx hb hK hP hD hS 1 0 (k := i) rfl rfl (by omega) (by decide) dX0_copyFrom_29 (fun H locs hP hD hS => ?_)
    have hP : va_P D vwCl [(bd, .inr (0, [.ref bd0, .ref bd1, .ref bd2, .ref bd3, .int (nI nb)])), (bd0, .inl (cI, 5, .inl (upd (gM i og gr) i (og i)))), (bd1, .inl (cI, 5, .inl (gM i of fl))), (bd2, .inl (cI, 5, .inl (gM i ot st))), (bd3, .inl (cI, 5, .inl (gM i oc cu))), (be, .inr (0, [.ref be0, .ref be1, .ref be2, .ref be3, .int (nI nb)])), (be0, .inl (cI, 5, .inl og)), (be1, .inl (cI, 5, .inl of)), (be2, .inl (cI, 5, .inl ot)), (be3, .inl (cI, 5, .inl oc))] H := hP
    have hD : va_D A [(bd, .inr (0, [.ref bd0, .ref bd1, .ref bd2, .ref bd3, .int (nI nb)])), (bd0, .inl (cI, 5, .inl (upd (gM i og gr) i (og i)))), (bd1, .inl (cI, 5, .inl (gM i of fl))), (bd2, .inl (cI, 5, .inl (gM i ot st))), (bd3, .inl (cI, 5, .inl (gM i oc cu))), (be, .inr (0, [.ref be0, .ref be1, .ref be2, .ref be3, .int (nI nb)])), (be0, .inl (cI, 5, .inl og)), (be1, .inl (cI, 5, .inl of)), (be2, .inl (cI, 5, .inl ot)), (be3, .inl (cI, 5, .inl oc))] := hD
    refine lv_aload_n hx hb dX0_copyFrom_30 rfl (lv_at hl 1 rfl) ?_
    refine va_get (D := D) (ci := 0) (v := .ref bd1) (C := RX0) (T := TX0) (N := 5) hx hb hts wc_X0_copyFrom_X0 hown hK hP 0 rfl rfl 1 (by decide) (hts _ wd_X0_copyFrom_3) (fun _ h9 => h9) rfl dX0_copyFrom_31 ?_
    refine lv_iload_n hx hb dX0_copyFrom_34 rfl (lv_at hl 0 rfl) ?_
    refine lv_aload_n hx hb dX0_copyFrom_35 rfl (lv_at hl 2 rfl) ?_
    refine va_get (D := D) (ci := 0) (v := .ref be1) (C := RX0) (T := TX0) (N := 5) hx hb hts wc_X0_copyFrom_X0 hown hK hP 5 rfl rfl 1 (by decide) (hts _ wd_X0_copyFrom_3) (fun _ h9 => h9) rfl dX0_copyFrom_36 ?_
    refine lv_iload_n hx hb dX0_copyFrom_39 rfl (lv_at hl 0 rfl) ?_
    refine gw_iald hx hb hK hP 7 0 (k := i) rfl rfl (by omega) (by decide) dX0_copyFrom_40 ?_
    refine gw_iast hx hb hK hP hD hS 2 0 (k := i) rfl rfl (by omega) (by decide) dX0_copyFrom_41 (fun H locs hP hD hS => ?_)
    have hP : va_P D vwCl [(bd, .inr (0, [.ref bd0, .ref bd1, .ref bd2, .ref bd3, .int (nI nb)])), (bd0, .inl (cI, 5, .inl (upd (gM i og gr) i (og i)))), (bd1, .inl (cI, 5, .inl (upd (gM i of fl) i (of i)))), (bd2, .inl (cI, 5, .inl (gM i ot st))), (bd3, .inl (cI, 5, .inl (gM i oc cu))), (be, .inr (0, [.ref be0, .ref be1, .ref be2, .ref be3, .int (nI nb)])), (be0, .inl (cI, 5, .inl og)), (be1, .inl (cI, 5, .inl of)), (be2, .inl (cI, 5, .inl ot)), (be3, .inl (cI, 5, .inl oc))] H := hP
    have hD : va_D A [(bd, .inr (0, [.ref bd0, .ref bd1, .ref bd2, .ref bd3, .int (nI nb)])), (bd0, .inl (cI, 5, .inl (upd (gM i og gr) i (og i)))), (bd1, .inl (cI, 5, .inl (upd (gM i of fl) i (of i)))), (bd2, .inl (cI, 5, .inl (gM i ot st))), (bd3, .inl (cI, 5, .inl (gM i oc cu))), (be, .inr (0, [.ref be0, .ref be1, .ref be2, .ref be3, .int (nI nb)])), (be0, .inl (cI, 5, .inl og)), (be1, .inl (cI, 5, .inl of)), (be2, .inl (cI, 5, .inl ot)), (be3, .inl (cI, 5, .inl oc))] := hD
    refine lv_aload_n hx hb dX0_copyFrom_42 rfl (lv_at hl 1 rfl) ?_
    refine va_get (D := D) (ci := 0) (v := .ref bd2) (C := RX0) (T := TX0) (N := 5) hx hb hts wc_X0_copyFrom_X0 hown hK hP 0 rfl rfl 2 (by decide) (hts _ wd_X0_copyFrom_4) (fun _ h9 => h9) rfl dX0_copyFrom_43 ?_
    refine lv_iload_n hx hb dX0_copyFrom_46 rfl (lv_at hl 0 rfl) ?_
    refine lv_aload_n hx hb dX0_copyFrom_47 rfl (lv_at hl 2 rfl) ?_
    refine va_get (D := D) (ci := 0) (v := .ref be2) (C := RX0) (T := TX0) (N := 5) hx hb hts wc_X0_copyFrom_X0 hown hK hP 5 rfl rfl 2 (by decide) (hts _ wd_X0_copyFrom_4) (fun _ h9 => h9) rfl dX0_copyFrom_48 ?_
    refine lv_iload_n hx hb dX0_copyFrom_51 rfl (lv_at hl 0 rfl) ?_
    refine gw_iald hx hb hK hP 8 0 (k := i) rfl rfl (by omega) (by decide) dX0_copyFrom_52 ?_
    refine gw_iast hx hb hK hP hD hS 3 0 (k := i) rfl rfl (by omega) (by decide) dX0_copyFrom_53 (fun H locs hP hD hS => ?_)
    have hP : va_P D vwCl [(bd, .inr (0, [.ref bd0, .ref bd1, .ref bd2, .ref bd3, .int (nI nb)])), (bd0, .inl (cI, 5, .inl (upd (gM i og gr) i (og i)))), (bd1, .inl (cI, 5, .inl (upd (gM i of fl) i (of i)))), (bd2, .inl (cI, 5, .inl (upd (gM i ot st) i (ot i)))), (bd3, .inl (cI, 5, .inl (gM i oc cu))), (be, .inr (0, [.ref be0, .ref be1, .ref be2, .ref be3, .int (nI nb)])), (be0, .inl (cI, 5, .inl og)), (be1, .inl (cI, 5, .inl of)), (be2, .inl (cI, 5, .inl ot)), (be3, .inl (cI, 5, .inl oc))] H := hP
    have hD : va_D A [(bd, .inr (0, [.ref bd0, .ref bd1, .ref bd2, .ref bd3, .int (nI nb)])), (bd0, .inl (cI, 5, .inl (upd (gM i og gr) i (og i)))), (bd1, .inl (cI, 5, .inl (upd (gM i of fl) i (of i)))), (bd2, .inl (cI, 5, .inl (upd (gM i ot st) i (ot i)))), (bd3, .inl (cI, 5, .inl (gM i oc cu))), (be, .inr (0, [.ref be0, .ref be1, .ref be2, .ref be3, .int (nI nb)])), (be0, .inl (cI, 5, .inl og)), (be1, .inl (cI, 5, .inl of)), (be2, .inl (cI, 5, .inl ot)), (be3, .inl (cI, 5, .inl oc))] := hD
    refine lv_aload_n hx hb dX0_copyFrom_54 rfl (lv_at hl 1 rfl) ?_
    refine va_get (D := D) (ci := 0) (v := .ref bd3) (C := RX0) (T := TX0) (N := 5) hx hb hts wc_X0_copyFrom_X0 hown hK hP 0 rfl rfl 3 (by decide) (hts _ wd_X0_copyFrom_5) (fun _ h9 => h9) rfl dX0_copyFrom_55 ?_
    refine lv_iload_n hx hb dX0_copyFrom_58 rfl (lv_at hl 0 rfl) ?_
    refine lv_aload_n hx hb dX0_copyFrom_59 rfl (lv_at hl 2 rfl) ?_
    refine va_get (D := D) (ci := 0) (v := .ref be3) (C := RX0) (T := TX0) (N := 5) hx hb hts wc_X0_copyFrom_X0 hown hK hP 5 rfl rfl 3 (by decide) (hts _ wd_X0_copyFrom_5) (fun _ h9 => h9) rfl dX0_copyFrom_60 ?_
    refine lv_iload_n hx hb dX0_copyFrom_63 rfl (lv_at hl 0 rfl) ?_
    refine gw_iald hx hb hK hP 9 0 (k := i) rfl rfl (by omega) (by decide) dX0_copyFrom_64 ?_
    refine gw_iast hx hb hK hP hD hS 4 0 (k := i) rfl rfl (by omega) (by decide) dX0_copyFrom_65 (fun H locs hP hD hS => ?_)
    have hP : va_P D vwCl [(bd, .inr (0, [.ref bd0, .ref bd1, .ref bd2, .ref bd3, .int (nI nb)])), (bd0, .inl (cI, 5, .inl (upd (gM i og gr) i (og i)))), (bd1, .inl (cI, 5, .inl (upd (gM i of fl) i (of i)))), (bd2, .inl (cI, 5, .inl (upd (gM i ot st) i (ot i)))), (bd3, .inl (cI, 5, .inl (upd (gM i oc cu) i (oc i)))), (be, .inr (0, [.ref be0, .ref be1, .ref be2, .ref be3, .int (nI nb)])), (be0, .inl (cI, 5, .inl og)), (be1, .inl (cI, 5, .inl of)), (be2, .inl (cI, 5, .inl ot)), (be3, .inl (cI, 5, .inl oc))] H := hP
    have hD : va_D A [(bd, .inr (0, [.ref bd0, .ref bd1, .ref bd2, .ref bd3, .int (nI nb)])), (bd0, .inl (cI, 5, .inl (upd (gM i og gr) i (og i)))), (bd1, .inl (cI, 5, .inl (upd (gM i of fl) i (of i)))), (bd2, .inl (cI, 5, .inl (upd (gM i ot st) i (ot i)))), (bd3, .inl (cI, 5, .inl (upd (gM i oc cu) i (oc i)))), (be, .inr (0, [.ref be0, .ref be1, .ref be2, .ref be3, .int (nI nb)])), (be0, .inl (cI, 5, .inl og)), (be1, .inl (cI, 5, .inl of)), (be2, .inl (cI, 5, .inl ot)), (be3, .inl (cI, 5, .inl oc))] := hD
    refine lv_iinc (v := nI (i + 1)) (lv' := [(2, .int (nI (i + 1))), (0, .ref bd), (1, .ref be)]) hx hb dX0_copyFrom_66 hl (k := 0) rfl (nI_add i 1) (by decide) rfl (fun ls hl => ?_)
    refine lv_goto (tgt := 10) hx hb dX0_copyFrom_69 (by decide) ?_
    have hw0 : upd (gM i og gr) i (og i) = gM (i + 1) og gr := gM_s rfl
    have hw1 : upd (gM i of fl) i (of i) = gM (i + 1) of fl := gM_s rfl
    have hw2 : upd (gM i ot st) i (ot i) = gM (i + 1) ot st := gM_s rfl
    have hw3 : upd (gM i oc cu) i (oc i) = gM (i + 1) oc cu := gM_s rfl
    rw [hw0, hw1, hw2, hw3] at hP hD
    exact ih10 (k, i + 1) H locs ls (by dsimp only; omega) ⟨hP, hD, hS, lv_sub hl [0, 1, 2] rfl, (by omega)⟩

theorem wc_X1_copyFrom_X1 : ∀ w ∈ u_ws RX1 TX1 5, w ∈ wsX1_copyFrom := by decide +kernel
theorem wd_X1_copyFrom_1 : (.fieldLink RX1 24 "GritWheels$Crew" "number" "I" : Cond) ∈ wsX1_copyFrom := by decide +kernel
theorem wd_X1_copyFrom_2 : (.fieldLink RX1 9 "GritWheels$Crew" "skill" "[I" : Cond) ∈ wsX1_copyFrom := by decide +kernel
theorem wd_X1_copyFrom_3 : (.fieldLink RX1 15 "GritWheels$Crew" "place" "[I" : Cond) ∈ wsX1_copyFrom := by decide +kernel
theorem wd_X1_copyFrom_4 : (.fieldLink RX1 18 "GritWheels$Crew" "dust" "[I" : Cond) ∈ wsX1_copyFrom := by decide +kernel
theorem wd_X1_copyFrom_5 : (.fieldLink RX1 21 "GritWheels$Crew" "work" "[I" : Cond) ∈ wsX1_copyFrom := by decide +kernel
set_option maxHeartbeats 4000000 in
set_option maxRecDepth 100000 in
theorem met_X1_copyFrom (l : Launch) (D : va_G) (cI cZ cL : ClassId) (cr : Nat) (cr0 : Nat) (cr1 : Nat) (cr2 : Nat) (cr3 : Nat) (cs : Nat) (cs0 : Nat) (cs1 : Nat) (cs2 : Nat) (cs3 : Nat) (mn : Int32) (nq : Nat) (sk : Nat → Int32) (pl : Nat → Int32) (du : Nat → Int32) (wo : Nat → Int32) (ok : Nat → Int32) (op : Nat → Int32) (od : Nat → Int32) (ow : Nat → Int32) (hnq : nq ≤ 6) : Met l yX1_copyFrom wsX1_copyFrom ({ frames := 0, cells := 0, slots := 0, locals := 0 }) (gPw [.ref cr, .ref cs] D [(cr, .inr (1, [.ref cr0, .ref cr1, .ref cr2, .ref cr3, .int mn])), (cr0, .inl (cI, 6, .inl sk)), (cr1, .inl (cI, 6, .inl pl)), (cr2, .inl (cI, 6, .inl du)), (cr3, .inl (cI, 6, .inl wo)), (cs, .inr (1, [.ref cs0, .ref cs1, .ref cs2, .ref cs3, .int (nI nq)])), (cs0, .inl (cI, 6, .inl ok)), (cs1, .inl (cI, 6, .inl op)), (cs2, .inl (cI, 6, .inl od)), (cs3, .inl (cI, 6, .inl ow))] (gT cI cZ cL)) (va_Qv (fun (_ : Unit) => True) (fun _ t => va_P D vwCl [(cr, .inr (1, [.ref cr0, .ref cr1, .ref cr2, .ref cr3, .int (nI nq)])), (cr0, .inl (cI, 6, .inl (gM nq ok sk))), (cr1, .inl (cI, 6, .inl (gM nq op pl))), (cr2, .inl (cI, 6, .inl (gM nq od du))), (cr3, .inl (cI, 6, .inl (gM nq ow wo))), (cs, .inr (1, [.ref cs0, .ref cs1, .ref cs2, .ref cs3, .int (nI nq)])), (cs0, .inl (cI, 6, .inl ok)), (cs1, .inl (cI, 6, .inl op)), (cs2, .inl (cI, 6, .inl od)), (cs3, .inl (cI, 6, .inl ow))] t.heap) (gA (gL [(cr, .inr (1, [.ref cr0, .ref cr1, .ref cr2, .ref cr3, .int mn])), (cr0, .inl (cI, 6, .inl sk)), (cr1, .inl (cI, 6, .inl pl)), (cr2, .inl (cI, 6, .inl du)), (cr3, .inl (cI, 6, .inl wo)), (cs, .inr (1, [.ref cs0, .ref cs1, .ref cs2, .ref cs3, .int (nI nq)])), (cs0, .inl (cI, 6, .inl ok)), (cs1, .inl (cI, 6, .inl op)), (cs2, .inl (cI, 6, .inl od)), (cs3, .inl (cI, 6, .inl ow))]))) 0 0 (gA (gL [(cr, .inr (1, [.ref cr0, .ref cr1, .ref cr2, .ref cr3, .int mn])), (cr0, .inl (cI, 6, .inl sk)), (cr1, .inl (cI, 6, .inl pl)), (cr2, .inl (cI, 6, .inl du)), (cr3, .inl (cI, 6, .inl wo)), (cs, .inr (1, [.ref cs0, .ref cs1, .ref cs2, .ref cs3, .int (nI nq)])), (cs0, .inl (cI, 6, .inl ok)), (cs1, .inl (cI, 6, .inl op)), (cs2, .inl (cI, 6, .inl od)), (cs3, .inl (cI, 6, .inl ow))])) := by
  refine Met.ofW (cc := cX1_copyFrom) (maxL := 3) (ret := none) (by decide) rfl ?_
  intro p e s m args below meth c s₁ B hml hv
  obtain ⟨rfl, hP, hK, hD0⟩ := hv
  have hx := B.exec
  have hb := B.bytes
  have hr := B.returns
  have hts := atoms_spec (ws := wsX1_copyFrom) B.pre
  have hown : s.vm.findClass RX1 = some m.cls := findClass_of_methodNamed B.named
  have hlocks := B.notSynchronized
  have hD := gw_self hD0
  generalize hAe : gA (gL [(cr, .inr (1, [.ref cr0, .ref cr1, .ref cr2, .ref cr3, .int mn])), (cr0, .inl (cI, 6, .inl sk)), (cr1, .inl (cI, 6, .inl pl)), (cr2, .inl (cI, 6, .inl du)), (cr3, .inl (cI, 6, .inl wo)), (cs, .inr (1, [.ref cs0, .ref cs1, .ref cs2, .ref cs3, .int (nI nq)])), (cs0, .inl (cI, 6, .inl ok)), (cs1, .inl (cI, 6, .inl op)), (cs2, .inl (cI, 6, .inl od)), (cs3, .inl (cI, 6, .inl ow))]) = A at hD ⊢
  have hS : va_S A s.heap s.heap [] := va_S.rf
  have hP : va_P D vwCl [(cr, .inr (1, [.ref cr0, .ref cr1, .ref cr2, .ref cr3, .int mn])), (cr0, .inl (cI, 6, .inl sk)), (cr1, .inl (cI, 6, .inl pl)), (cr2, .inl (cI, 6, .inl du)), (cr3, .inl (cI, 6, .inl wo)), (cs, .inr (1, [.ref cs0, .ref cs1, .ref cs2, .ref cs3, .int (nI nq)])), (cs0, .inl (cI, 6, .inl ok)), (cs1, .inl (cI, 6, .inl op)), (cs2, .inl (cI, 6, .inl od)), (cs3, .inl (cI, 6, .inl ow))] s.heap := hP
  have hl := lv_entry ([.ref cr, .ref cs]) (n := 3) (Nat.le_of_ble_eq_true rfl)
  rw [lg_entry_eq]
  generalize (lg_sl ([.ref cr, .ref cs]) ++ List.replicate (3 - (lg_sl ([.ref cr, .ref cs])).length) Slot.unset).toArray = ls at hl ⊢
  have hl : lv_has ls 3 [(0, .ref cr), (1, .ref cs)] := hl
  refine lv_aload_n hx hb dX1_copyFrom_0 rfl (lv_at hl 0 rfl) ?_
  refine lv_aload_n hx hb dX1_copyFrom_1 rfl (lv_at hl 1 rfl) ?_
  refine va_get (D := D) (ci := 1) (v := .int (nI nq)) (C := RX1) (T := TX1) (N := 5) hx hb hts wc_X1_copyFrom_X1 hown hK hP 5 rfl rfl 4 (by decide) (hts _ wd_X1_copyFrom_1) (fun _ h9 => h9) rfl dX1_copyFrom_2 ?_
  refine va_put (D := D) (ci := 1) (v := .int (nI nq)) (ty := .int) (C := RX1) (T := TX1) (N := 5) hx hb hts wc_X1_copyFrom_X1 tyX1 tyX1_ok nmX1 hown hK hP hD hS 0 rfl rfl 4 (by decide) (hts _ wd_X1_copyFrom_1) (fun _ h9 => h9) rfl (by decide +kernel) rfl rfl (Nat.le_of_ble_eq_true rfl) dX1_copyFrom_5 (fun H locs hP hD hS => ?_)
  have hP : va_P D vwCl [(cr, .inr (1, [.ref cr0, .ref cr1, .ref cr2, .ref cr3, .int (nI nq)])), (cr0, .inl (cI, 6, .inl sk)), (cr1, .inl (cI, 6, .inl pl)), (cr2, .inl (cI, 6, .inl du)), (cr3, .inl (cI, 6, .inl wo)), (cs, .inr (1, [.ref cs0, .ref cs1, .ref cs2, .ref cs3, .int (nI nq)])), (cs0, .inl (cI, 6, .inl ok)), (cs1, .inl (cI, 6, .inl op)), (cs2, .inl (cI, 6, .inl od)), (cs3, .inl (cI, 6, .inl ow))] H := hP
  have hD : va_D A [(cr, .inr (1, [.ref cr0, .ref cr1, .ref cr2, .ref cr3, .int (nI nq)])), (cr0, .inl (cI, 6, .inl sk)), (cr1, .inl (cI, 6, .inl pl)), (cr2, .inl (cI, 6, .inl du)), (cr3, .inl (cI, 6, .inl wo)), (cs, .inr (1, [.ref cs0, .ref cs1, .ref cs2, .ref cs3, .int (nI nq)])), (cs0, .inl (cI, 6, .inl ok)), (cs1, .inl (cI, 6, .inl op)), (cs2, .inl (cI, 6, .inl od)), (cs3, .inl (cI, 6, .inl ow))] := hD
  refine lv_iconst (v := 0) hx hb dX1_copyFrom_8 (by decide) ?_
  refine lv_istore_n (lv' := [(2, .int 0), (0, .ref cr), (1, .ref cs)]) hx hb dX1_copyFrom_9 rfl hl (by decide) rfl (fun ls hl => ?_)
  have hP : va_P D vwCl [(cr, .inr (1, [.ref cr0, .ref cr1, .ref cr2, .ref cr3, .int (nI nq)])), (cr0, .inl (cI, 6, .inl (gM 0 ok sk))), (cr1, .inl (cI, 6, .inl (gM 0 op pl))), (cr2, .inl (cI, 6, .inl (gM 0 od du))), (cr3, .inl (cI, 6, .inl (gM 0 ow wo))), (cs, .inr (1, [.ref cs0, .ref cs1, .ref cs2, .ref cs3, .int (nI nq)])), (cs0, .inl (cI, 6, .inl ok)), (cs1, .inl (cI, 6, .inl op)), (cs2, .inl (cI, 6, .inl od)), (cs3, .inl (cI, 6, .inl ow))] H := by simp only [gM_0]; exact hP
  have hD : va_D A [(cr, .inr (1, [.ref cr0, .ref cr1, .ref cr2, .ref cr3, .int (nI nq)])), (cr0, .inl (cI, 6, .inl (gM 0 ok sk))), (cr1, .inl (cI, 6, .inl (gM 0 op pl))), (cr2, .inl (cI, 6, .inl (gM 0 od du))), (cr3, .inl (cI, 6, .inl (gM 0 ow wo))), (cs, .inr (1, [.ref cs0, .ref cs1, .ref cs2, .ref cs3, .int (nI nq)])), (cs0, .inl (cI, 6, .inl ok)), (cs1, .inl (cI, 6, .inl op)), (cs2, .inl (cI, 6, .inl od)), (cs3, .inl (cI, 6, .inl ow))] := by simp only [gM_0]; exact hD
  refine gw_loop (fun (zz : Nat × Nat) H locs ls => match zz with | (k, i) => va_P D vwCl [(cr, .inr (1, [.ref cr0, .ref cr1, .ref cr2, .ref cr3, .int (nI nq)])), (cr0, .inl (cI, 6, .inl (gM i ok sk))), (cr1, .inl (cI, 6, .inl (gM i op pl))), (cr2, .inl (cI, 6, .inl (gM i od du))), (cr3, .inl (cI, 6, .inl (gM i ow wo))), (cs, .inr (1, [.ref cs0, .ref cs1, .ref cs2, .ref cs3, .int (nI nq)])), (cs0, .inl (cI, 6, .inl ok)), (cs1, .inl (cI, 6, .inl op)), (cs2, .inl (cI, 6, .inl od)), (cs3, .inl (cI, 6, .inl ow))] H ∧ va_D A [(cr, .inr (1, [.ref cr0, .ref cr1, .ref cr2, .ref cr3, .int (nI nq)])), (cr0, .inl (cI, 6, .inl (gM i ok sk))), (cr1, .inl (cI, 6, .inl (gM i op pl))), (cr2, .inl (cI, 6, .inl (gM i od du))), (cr3, .inl (cI, 6, .inl (gM i ow wo))), (cs, .inr (1, [.ref cs0, .ref cs1, .ref cs2, .ref cs3, .int (nI nq)])), (cs0, .inl (cI, 6, .inl ok)), (cs1, .inl (cI, 6, .inl op)), (cs2, .inl (cI, 6, .inl od)), (cs3, .inl (cI, 6, .inl ow))] ∧ va_S A s.heap H locs ∧ lv_has ls 3 [(2, .int (nI i)), (0, .ref cr), (1, .ref cs)] ∧ (i + k = nq)) (fun (zz : Nat × Nat) => match zz with | (k, i) => k) (nq, 0) ⟨hP, hD, hS, lv_sub hl [0, 1, 2] rfl, (by omega)⟩ ?_
  rintro ⟨k, i⟩ ih H locs ls ⟨hP, hD, hS, hl, hin⟩
  have hP : va_P D vwCl [(cr, .inr (1, [.ref cr0, .ref cr1, .ref cr2, .ref cr3, .int (nI nq)])), (cr0, .inl (cI, 6, .inl (gM i ok sk))), (cr1, .inl (cI, 6, .inl (gM i op pl))), (cr2, .inl (cI, 6, .inl (gM i od du))), (cr3, .inl (cI, 6, .inl (gM i ow wo))), (cs, .inr (1, [.ref cs0, .ref cs1, .ref cs2, .ref cs3, .int (nI nq)])), (cs0, .inl (cI, 6, .inl ok)), (cs1, .inl (cI, 6, .inl op)), (cs2, .inl (cI, 6, .inl od)), (cs3, .inl (cI, 6, .inl ow))] H := hP
  have hD : va_D A [(cr, .inr (1, [.ref cr0, .ref cr1, .ref cr2, .ref cr3, .int (nI nq)])), (cr0, .inl (cI, 6, .inl (gM i ok sk))), (cr1, .inl (cI, 6, .inl (gM i op pl))), (cr2, .inl (cI, 6, .inl (gM i od du))), (cr3, .inl (cI, 6, .inl (gM i ow wo))), (cs, .inr (1, [.ref cs0, .ref cs1, .ref cs2, .ref cs3, .int (nI nq)])), (cs0, .inl (cI, 6, .inl ok)), (cs1, .inl (cI, 6, .inl op)), (cs2, .inl (cI, 6, .inl od)), (cs3, .inl (cI, 6, .inl ow))] := hD
  have hl : lv_has ls 3 [(2, .int (nI i)), (0, .ref cr), (1, .ref cs)] := hl
  have hin : i + k = nq := hin
  have ih10 := ih
  refine lv_iload_n hx hb dX1_copyFrom_10 rfl (lv_at hl 0 rfl) ?_
  refine lv_aload_n hx hb dX1_copyFrom_11 rfl (lv_at hl 1 rfl) ?_
  refine va_get (D := D) (ci := 1) (v := .int (nI nq)) (C := RX1) (T := TX1) (N := 5) hx hb hts wc_X1_copyFrom_X1 hown hK hP 0 rfl rfl 4 (by decide) (hts _ wd_X1_copyFrom_1) (fun _ h9 => h9) rfl dX1_copyFrom_12 ?_
  refine lv_icmp_ge (tgt := 72) hx hb dX1_copyFrom_15 (by decide) (fun c => ?_) (fun c => ?_)
  · skip
    have hk0 : k = 0 := by have := gw_ge (by omega) (by omega) c; omega
    subst hk0
    obtain rfl : i = nq := by omega
    subst hAe
    exact W.vret hx hb hr (fun t ht hW => ⟨⟨(), rfl, trivial, gw_hh ht hP⟩, hS.F ht⟩) hS.2.2 dX1_copyFrom_72
  · skip
    have hi : i < nq := gw_lt (by omega) (by omega) c
    obtain ⟨k, rfl⟩ : ∃ k2, k = k2 + 1 := ⟨k - 1, by omega⟩
    refine lv_aload_n hx hb dX1_copyFrom_18 rfl (lv_at hl 1 rfl) ?_
    refine va_get (D := D) (ci := 1) (v := .ref cr0) (C := RX1) (T := TX1) (N := 5) hx hb hts wc_X1_copyFrom_X1 hown hK hP 0 rfl rfl 0 (by decide) (hts _ wd_X1_copyFrom_2) (fun _ h9 => h9) rfl dX1_copyFrom_19 ?_
    refine lv_iload_n hx hb dX1_copyFrom_22 rfl (lv_at hl 0 rfl) ?_
    refine lv_aload_n hx hb dX1_copyFrom_23 rfl (lv_at hl 2 rfl) ?_
    refine va_get (D := D) (ci := 1) (v := .ref cs0) (C := RX1) (T := TX1) (N := 5) hx hb hts wc_X1_copyFrom_X1 hown hK hP 5 rfl rfl 0 (by decide) (hts _ wd_X1_copyFrom_2) (fun _ h9 => h9) rfl dX1_copyFrom_24 ?_
    refine lv_iload_n hx hb dX1_copyFrom_27 rfl (lv_at hl 0 rfl) ?_
    refine gw_iald hx hb hK hP 6 0 (k := i) rfl rfl (by omega) (by decide) dX1_copyFrom_28 ?_
    refine gw_iast hx hb hK hP hD hS 1 0 (k := i) rfl rfl (by omega) (by decide) dX1_copyFrom_29 (fun H locs hP hD hS => ?_)
    have hP : va_P D vwCl [(cr, .inr (1, [.ref cr0, .ref cr1, .ref cr2, .ref cr3, .int (nI nq)])), (cr0, .inl (cI, 6, .inl (upd (gM i ok sk) i (ok i)))), (cr1, .inl (cI, 6, .inl (gM i op pl))), (cr2, .inl (cI, 6, .inl (gM i od du))), (cr3, .inl (cI, 6, .inl (gM i ow wo))), (cs, .inr (1, [.ref cs0, .ref cs1, .ref cs2, .ref cs3, .int (nI nq)])), (cs0, .inl (cI, 6, .inl ok)), (cs1, .inl (cI, 6, .inl op)), (cs2, .inl (cI, 6, .inl od)), (cs3, .inl (cI, 6, .inl ow))] H := hP
    have hD : va_D A [(cr, .inr (1, [.ref cr0, .ref cr1, .ref cr2, .ref cr3, .int (nI nq)])), (cr0, .inl (cI, 6, .inl (upd (gM i ok sk) i (ok i)))), (cr1, .inl (cI, 6, .inl (gM i op pl))), (cr2, .inl (cI, 6, .inl (gM i od du))), (cr3, .inl (cI, 6, .inl (gM i ow wo))), (cs, .inr (1, [.ref cs0, .ref cs1, .ref cs2, .ref cs3, .int (nI nq)])), (cs0, .inl (cI, 6, .inl ok)), (cs1, .inl (cI, 6, .inl op)), (cs2, .inl (cI, 6, .inl od)), (cs3, .inl (cI, 6, .inl ow))] := hD
    refine lv_aload_n hx hb dX1_copyFrom_30 rfl (lv_at hl 1 rfl) ?_
    refine va_get (D := D) (ci := 1) (v := .ref cr1) (C := RX1) (T := TX1) (N := 5) hx hb hts wc_X1_copyFrom_X1 hown hK hP 0 rfl rfl 1 (by decide) (hts _ wd_X1_copyFrom_3) (fun _ h9 => h9) rfl dX1_copyFrom_31 ?_
    refine lv_iload_n hx hb dX1_copyFrom_34 rfl (lv_at hl 0 rfl) ?_
    refine lv_aload_n hx hb dX1_copyFrom_35 rfl (lv_at hl 2 rfl) ?_
    refine va_get (D := D) (ci := 1) (v := .ref cs1) (C := RX1) (T := TX1) (N := 5) hx hb hts wc_X1_copyFrom_X1 hown hK hP 5 rfl rfl 1 (by decide) (hts _ wd_X1_copyFrom_3) (fun _ h9 => h9) rfl dX1_copyFrom_36 ?_
    refine lv_iload_n hx hb dX1_copyFrom_39 rfl (lv_at hl 0 rfl) ?_
    refine gw_iald hx hb hK hP 7 0 (k := i) rfl rfl (by omega) (by decide) dX1_copyFrom_40 ?_
    refine gw_iast hx hb hK hP hD hS 2 0 (k := i) rfl rfl (by omega) (by decide) dX1_copyFrom_41 (fun H locs hP hD hS => ?_)
    have hP : va_P D vwCl [(cr, .inr (1, [.ref cr0, .ref cr1, .ref cr2, .ref cr3, .int (nI nq)])), (cr0, .inl (cI, 6, .inl (upd (gM i ok sk) i (ok i)))), (cr1, .inl (cI, 6, .inl (upd (gM i op pl) i (op i)))), (cr2, .inl (cI, 6, .inl (gM i od du))), (cr3, .inl (cI, 6, .inl (gM i ow wo))), (cs, .inr (1, [.ref cs0, .ref cs1, .ref cs2, .ref cs3, .int (nI nq)])), (cs0, .inl (cI, 6, .inl ok)), (cs1, .inl (cI, 6, .inl op)), (cs2, .inl (cI, 6, .inl od)), (cs3, .inl (cI, 6, .inl ow))] H := hP
    have hD : va_D A [(cr, .inr (1, [.ref cr0, .ref cr1, .ref cr2, .ref cr3, .int (nI nq)])), (cr0, .inl (cI, 6, .inl (upd (gM i ok sk) i (ok i)))), (cr1, .inl (cI, 6, .inl (upd (gM i op pl) i (op i)))), (cr2, .inl (cI, 6, .inl (gM i od du))), (cr3, .inl (cI, 6, .inl (gM i ow wo))), (cs, .inr (1, [.ref cs0, .ref cs1, .ref cs2, .ref cs3, .int (nI nq)])), (cs0, .inl (cI, 6, .inl ok)), (cs1, .inl (cI, 6, .inl op)), (cs2, .inl (cI, 6, .inl od)), (cs3, .inl (cI, 6, .inl ow))] := hD
    refine lv_aload_n hx hb dX1_copyFrom_42 rfl (lv_at hl 1 rfl) ?_
    refine va_get (D := D) (ci := 1) (v := .ref cr2) (C := RX1) (T := TX1) (N := 5) hx hb hts wc_X1_copyFrom_X1 hown hK hP 0 rfl rfl 2 (by decide) (hts _ wd_X1_copyFrom_4) (fun _ h9 => h9) rfl dX1_copyFrom_43 ?_
    refine lv_iload_n hx hb dX1_copyFrom_46 rfl (lv_at hl 0 rfl) ?_
    refine lv_aload_n hx hb dX1_copyFrom_47 rfl (lv_at hl 2 rfl) ?_
    refine va_get (D := D) (ci := 1) (v := .ref cs2) (C := RX1) (T := TX1) (N := 5) hx hb hts wc_X1_copyFrom_X1 hown hK hP 5 rfl rfl 2 (by decide) (hts _ wd_X1_copyFrom_4) (fun _ h9 => h9) rfl dX1_copyFrom_48 ?_
    refine lv_iload_n hx hb dX1_copyFrom_51 rfl (lv_at hl 0 rfl) ?_
    refine gw_iald hx hb hK hP 8 0 (k := i) rfl rfl (by omega) (by decide) dX1_copyFrom_52 ?_
    refine gw_iast hx hb hK hP hD hS 3 0 (k := i) rfl rfl (by omega) (by decide) dX1_copyFrom_53 (fun H locs hP hD hS => ?_)
    have hP : va_P D vwCl [(cr, .inr (1, [.ref cr0, .ref cr1, .ref cr2, .ref cr3, .int (nI nq)])), (cr0, .inl (cI, 6, .inl (upd (gM i ok sk) i (ok i)))), (cr1, .inl (cI, 6, .inl (upd (gM i op pl) i (op i)))), (cr2, .inl (cI, 6, .inl (upd (gM i od du) i (od i)))), (cr3, .inl (cI, 6, .inl (gM i ow wo))), (cs, .inr (1, [.ref cs0, .ref cs1, .ref cs2, .ref cs3, .int (nI nq)])), (cs0, .inl (cI, 6, .inl ok)), (cs1, .inl (cI, 6, .inl op)), (cs2, .inl (cI, 6, .inl od)), (cs3, .inl (cI, 6, .inl ow))] H := hP
    have hD : va_D A [(cr, .inr (1, [.ref cr0, .ref cr1, .ref cr2, .ref cr3, .int (nI nq)])), (cr0, .inl (cI, 6, .inl (upd (gM i ok sk) i (ok i)))), (cr1, .inl (cI, 6, .inl (upd (gM i op pl) i (op i)))), (cr2, .inl (cI, 6, .inl (upd (gM i od du) i (od i)))), (cr3, .inl (cI, 6, .inl (gM i ow wo))), (cs, .inr (1, [.ref cs0, .ref cs1, .ref cs2, .ref cs3, .int (nI nq)])), (cs0, .inl (cI, 6, .inl ok)), (cs1, .inl (cI, 6, .inl op)), (cs2, .inl (cI, 6, .inl od)), (cs3, .inl (cI, 6, .inl ow))] := hD
    refine lv_aload_n hx hb dX1_copyFrom_54 rfl (lv_at hl 1 rfl) ?_
    refine va_get (D := D) (ci := 1) (v := .ref cr3) (C := RX1) (T := TX1) (N := 5) hx hb hts wc_X1_copyFrom_X1 hown hK hP 0 rfl rfl 3 (by decide) (hts _ wd_X1_copyFrom_5) (fun _ h9 => h9) rfl dX1_copyFrom_55 ?_
    refine lv_iload_n hx hb dX1_copyFrom_58 rfl (lv_at hl 0 rfl) ?_
    refine lv_aload_n hx hb dX1_copyFrom_59 rfl (lv_at hl 2 rfl) ?_
    refine va_get (D := D) (ci := 1) (v := .ref cs3) (C := RX1) (T := TX1) (N := 5) hx hb hts wc_X1_copyFrom_X1 hown hK hP 5 rfl rfl 3 (by decide) (hts _ wd_X1_copyFrom_5) (fun _ h9 => h9) rfl dX1_copyFrom_60 ?_
    refine lv_iload_n hx hb dX1_copyFrom_63 rfl (lv_at hl 0 rfl) ?_
    refine gw_iald hx hb hK hP 9 0 (k := i) rfl rfl (by omega) (by decide) dX1_copyFrom_64 ?_
    refine gw_iast hx hb hK hP hD hS 4 0 (k := i) rfl rfl (by omega) (by decide) dX1_copyFrom_65 (fun H locs hP hD hS => ?_)
    have hP : va_P D vwCl [(cr, .inr (1, [.ref cr0, .ref cr1, .ref cr2, .ref cr3, .int (nI nq)])), (cr0, .inl (cI, 6, .inl (upd (gM i ok sk) i (ok i)))), (cr1, .inl (cI, 6, .inl (upd (gM i op pl) i (op i)))), (cr2, .inl (cI, 6, .inl (upd (gM i od du) i (od i)))), (cr3, .inl (cI, 6, .inl (upd (gM i ow wo) i (ow i)))), (cs, .inr (1, [.ref cs0, .ref cs1, .ref cs2, .ref cs3, .int (nI nq)])), (cs0, .inl (cI, 6, .inl ok)), (cs1, .inl (cI, 6, .inl op)), (cs2, .inl (cI, 6, .inl od)), (cs3, .inl (cI, 6, .inl ow))] H := hP
    have hD : va_D A [(cr, .inr (1, [.ref cr0, .ref cr1, .ref cr2, .ref cr3, .int (nI nq)])), (cr0, .inl (cI, 6, .inl (upd (gM i ok sk) i (ok i)))), (cr1, .inl (cI, 6, .inl (upd (gM i op pl) i (op i)))), (cr2, .inl (cI, 6, .inl (upd (gM i od du) i (od i)))), (cr3, .inl (cI, 6, .inl (upd (gM i ow wo) i (ow i)))), (cs, .inr (1, [.ref cs0, .ref cs1, .ref cs2, .ref cs3, .int (nI nq)])), (cs0, .inl (cI, 6, .inl ok)), (cs1, .inl (cI, 6, .inl op)), (cs2, .inl (cI, 6, .inl od)), (cs3, .inl (cI, 6, .inl ow))] := hD
    refine lv_iinc (v := nI (i + 1)) (lv' := [(2, .int (nI (i + 1))), (0, .ref cr), (1, .ref cs)]) hx hb dX1_copyFrom_66 hl (k := 0) rfl (nI_add i 1) (by decide) rfl (fun ls hl => ?_)
    refine lv_goto (tgt := 10) hx hb dX1_copyFrom_69 (by decide) ?_
    have hw0 : upd (gM i ok sk) i (ok i) = gM (i + 1) ok sk := gM_s rfl
    have hw1 : upd (gM i op pl) i (op i) = gM (i + 1) op pl := gM_s rfl
    have hw2 : upd (gM i od du) i (od i) = gM (i + 1) od du := gM_s rfl
    have hw3 : upd (gM i ow wo) i (ow i) = gM (i + 1) ow wo := gM_s rfl
    rw [hw0, hw1, hw2, hw3] at hP hD
    exact ih10 (k, i + 1) H locs ls (by dsimp only; omega) ⟨hP, hD, hS, lv_sub hl [0, 1, 2] rfl, (by omega)⟩

theorem wc_X4_copyFrom_X4 : ∀ w ∈ u_ws RX4 TX4 7, w ∈ wsX4_copyFrom := by decide +kernel
theorem wd_X4_copyFrom_1 : (.fieldLink RX4 31 "GritWheels$Wheels" "number" "I" : Cond) ∈ wsX4_copyFrom := by decide +kernel
theorem wd_X4_copyFrom_2 : (.fieldLink RX4 9 "GritWheels$Wheels" "source" "[I" : Cond) ∈ wsX4_copyFrom := by decide +kernel
theorem wd_X4_copyFrom_3 : (.fieldLink RX4 15 "GritWheels$Wheels" "grit" "[I" : Cond) ∈ wsX4_copyFrom := by decide +kernel
theorem wd_X4_copyFrom_4 : (.fieldLink RX4 18 "GritWheels$Wheels" "size" "[I" : Cond) ∈ wsX4_copyFrom := by decide +kernel
theorem wd_X4_copyFrom_5 : (.fieldLink RX4 21 "GritWheels$Wheels" "cracked" "[Z" : Cond) ∈ wsX4_copyFrom := by decide +kernel
theorem wd_X4_copyFrom_6 : (.fieldLink RX4 25 "GritWheels$Wheels" "state" "[I" : Cond) ∈ wsX4_copyFrom := by decide +kernel
theorem wd_X4_copyFrom_7 : (.fieldLink RX4 28 "GritWheels$Wheels" "carrier" "[I" : Cond) ∈ wsX4_copyFrom := by decide +kernel
set_option maxHeartbeats 4000000 in
set_option maxRecDepth 100000 in
theorem met_X4_copyFrom (l : Launch) (D : va_G) (cI cZ cL : ClassId) (wh : Nat) (wh0 : Nat) (wh1 : Nat) (wh2 : Nat) (wh3 : Nat) (wh4 : Nat) (wh5 : Nat) (wi : Nat) (wi0 : Nat) (wi1 : Nat) (wi2 : Nat) (wi3 : Nat) (wi4 : Nat) (wi5 : Nat) (mn : Int32) (nw : Nat) (f0 : Nat → Int32) (f1 : Nat → Int32) (f2 : Nat → Int32) (f3 : Nat → Int32) (f4 : Nat → Int32) (f5 : Nat → Int32) (o0 : Nat → Int32) (o1 : Nat → Int32) (o2 : Nat → Int32) (o3 : Nat → Int32) (o4 : Nat → Int32) (o5 : Nat → Int32) (hnw : nw ≤ 60) (hz : ∀ j, o3 j = 0 ∨ o3 j = 1) : Met l yX4_copyFrom wsX4_copyFrom ({ frames := 0, cells := 0, slots := 0, locals := 0 }) (gPw [.ref wh, .ref wi] D [(wh, .inr (4, [.ref wh0, .ref wh1, .ref wh2, .ref wh3, .ref wh4, .ref wh5, .int mn])), (wh0, .inl (cI, 60, .inl f0)), (wh1, .inl (cI, 60, .inl f1)), (wh2, .inl (cI, 60, .inl f2)), (wh3, .inl (cZ, 60, .inl f3)), (wh4, .inl (cI, 60, .inl f4)), (wh5, .inl (cI, 60, .inl f5)), (wi, .inr (4, [.ref wi0, .ref wi1, .ref wi2, .ref wi3, .ref wi4, .ref wi5, .int (nI nw)])), (wi0, .inl (cI, 60, .inl o0)), (wi1, .inl (cI, 60, .inl o1)), (wi2, .inl (cI, 60, .inl o2)), (wi3, .inl (cZ, 60, .inl o3)), (wi4, .inl (cI, 60, .inl o4)), (wi5, .inl (cI, 60, .inl o5))] (gT cI cZ cL)) (va_Qv (fun (_ : Unit) => True) (fun _ t => va_P D vwCl [(wh, .inr (4, [.ref wh0, .ref wh1, .ref wh2, .ref wh3, .ref wh4, .ref wh5, .int (nI nw)])), (wh0, .inl (cI, 60, .inl (gM nw o0 f0))), (wh1, .inl (cI, 60, .inl (gM nw o1 f1))), (wh2, .inl (cI, 60, .inl (gM nw o2 f2))), (wh3, .inl (cZ, 60, .inl (gM nw o3 f3))), (wh4, .inl (cI, 60, .inl (gM nw o4 f4))), (wh5, .inl (cI, 60, .inl (gM nw o5 f5))), (wi, .inr (4, [.ref wi0, .ref wi1, .ref wi2, .ref wi3, .ref wi4, .ref wi5, .int (nI nw)])), (wi0, .inl (cI, 60, .inl o0)), (wi1, .inl (cI, 60, .inl o1)), (wi2, .inl (cI, 60, .inl o2)), (wi3, .inl (cZ, 60, .inl o3)), (wi4, .inl (cI, 60, .inl o4)), (wi5, .inl (cI, 60, .inl o5))] t.heap) (gA (gL [(wh, .inr (4, [.ref wh0, .ref wh1, .ref wh2, .ref wh3, .ref wh4, .ref wh5, .int mn])), (wh0, .inl (cI, 60, .inl f0)), (wh1, .inl (cI, 60, .inl f1)), (wh2, .inl (cI, 60, .inl f2)), (wh3, .inl (cZ, 60, .inl f3)), (wh4, .inl (cI, 60, .inl f4)), (wh5, .inl (cI, 60, .inl f5)), (wi, .inr (4, [.ref wi0, .ref wi1, .ref wi2, .ref wi3, .ref wi4, .ref wi5, .int (nI nw)])), (wi0, .inl (cI, 60, .inl o0)), (wi1, .inl (cI, 60, .inl o1)), (wi2, .inl (cI, 60, .inl o2)), (wi3, .inl (cZ, 60, .inl o3)), (wi4, .inl (cI, 60, .inl o4)), (wi5, .inl (cI, 60, .inl o5))]))) 0 0 (gA (gL [(wh, .inr (4, [.ref wh0, .ref wh1, .ref wh2, .ref wh3, .ref wh4, .ref wh5, .int mn])), (wh0, .inl (cI, 60, .inl f0)), (wh1, .inl (cI, 60, .inl f1)), (wh2, .inl (cI, 60, .inl f2)), (wh3, .inl (cZ, 60, .inl f3)), (wh4, .inl (cI, 60, .inl f4)), (wh5, .inl (cI, 60, .inl f5)), (wi, .inr (4, [.ref wi0, .ref wi1, .ref wi2, .ref wi3, .ref wi4, .ref wi5, .int (nI nw)])), (wi0, .inl (cI, 60, .inl o0)), (wi1, .inl (cI, 60, .inl o1)), (wi2, .inl (cI, 60, .inl o2)), (wi3, .inl (cZ, 60, .inl o3)), (wi4, .inl (cI, 60, .inl o4)), (wi5, .inl (cI, 60, .inl o5))])) := by
  refine Met.ofW (cc := cX4_copyFrom) (maxL := 3) (ret := none) (by decide) rfl ?_
  intro p e s m args below meth c s₁ B hml hv
  obtain ⟨rfl, hP, hK, hD0⟩ := hv
  have hx := B.exec
  have hb := B.bytes
  have hr := B.returns
  have hts := atoms_spec (ws := wsX4_copyFrom) B.pre
  have hown : s.vm.findClass RX4 = some m.cls := findClass_of_methodNamed B.named
  have hlocks := B.notSynchronized
  have hD := gw_self hD0
  generalize hAe : gA (gL [(wh, .inr (4, [.ref wh0, .ref wh1, .ref wh2, .ref wh3, .ref wh4, .ref wh5, .int mn])), (wh0, .inl (cI, 60, .inl f0)), (wh1, .inl (cI, 60, .inl f1)), (wh2, .inl (cI, 60, .inl f2)), (wh3, .inl (cZ, 60, .inl f3)), (wh4, .inl (cI, 60, .inl f4)), (wh5, .inl (cI, 60, .inl f5)), (wi, .inr (4, [.ref wi0, .ref wi1, .ref wi2, .ref wi3, .ref wi4, .ref wi5, .int (nI nw)])), (wi0, .inl (cI, 60, .inl o0)), (wi1, .inl (cI, 60, .inl o1)), (wi2, .inl (cI, 60, .inl o2)), (wi3, .inl (cZ, 60, .inl o3)), (wi4, .inl (cI, 60, .inl o4)), (wi5, .inl (cI, 60, .inl o5))]) = A at hD ⊢
  have hS : va_S A s.heap s.heap [] := va_S.rf
  have hP : va_P D vwCl [(wh, .inr (4, [.ref wh0, .ref wh1, .ref wh2, .ref wh3, .ref wh4, .ref wh5, .int mn])), (wh0, .inl (cI, 60, .inl f0)), (wh1, .inl (cI, 60, .inl f1)), (wh2, .inl (cI, 60, .inl f2)), (wh3, .inl (cZ, 60, .inl f3)), (wh4, .inl (cI, 60, .inl f4)), (wh5, .inl (cI, 60, .inl f5)), (wi, .inr (4, [.ref wi0, .ref wi1, .ref wi2, .ref wi3, .ref wi4, .ref wi5, .int (nI nw)])), (wi0, .inl (cI, 60, .inl o0)), (wi1, .inl (cI, 60, .inl o1)), (wi2, .inl (cI, 60, .inl o2)), (wi3, .inl (cZ, 60, .inl o3)), (wi4, .inl (cI, 60, .inl o4)), (wi5, .inl (cI, 60, .inl o5))] s.heap := hP
  have hl := lv_entry ([.ref wh, .ref wi]) (n := 3) (Nat.le_of_ble_eq_true rfl)
  rw [lg_entry_eq]
  generalize (lg_sl ([.ref wh, .ref wi]) ++ List.replicate (3 - (lg_sl ([.ref wh, .ref wi])).length) Slot.unset).toArray = ls at hl ⊢
  have hl : lv_has ls 3 [(0, .ref wh), (1, .ref wi)] := hl
  refine lv_aload_n hx hb dX4_copyFrom_0 rfl (lv_at hl 0 rfl) ?_
  refine lv_aload_n hx hb dX4_copyFrom_1 rfl (lv_at hl 1 rfl) ?_
  refine va_get (D := D) (ci := 4) (v := .int (nI nw)) (C := RX4) (T := TX4) (N := 7) hx hb hts wc_X4_copyFrom_X4 hown hK hP 7 rfl rfl 6 (by decide) (hts _ wd_X4_copyFrom_1) (fun _ h9 => h9) rfl dX4_copyFrom_2 ?_
  refine va_put (D := D) (ci := 4) (v := .int (nI nw)) (ty := .int) (C := RX4) (T := TX4) (N := 7) hx hb hts wc_X4_copyFrom_X4 tyX4 tyX4_ok nmX4 hown hK hP hD hS 0 rfl rfl 6 (by decide) (hts _ wd_X4_copyFrom_1) (fun _ h9 => h9) rfl (by decide +kernel) rfl rfl (Nat.le_of_ble_eq_true rfl) dX4_copyFrom_5 (fun H locs hP hD hS => ?_)
  have hP : va_P D vwCl [(wh, .inr (4, [.ref wh0, .ref wh1, .ref wh2, .ref wh3, .ref wh4, .ref wh5, .int (nI nw)])), (wh0, .inl (cI, 60, .inl f0)), (wh1, .inl (cI, 60, .inl f1)), (wh2, .inl (cI, 60, .inl f2)), (wh3, .inl (cZ, 60, .inl f3)), (wh4, .inl (cI, 60, .inl f4)), (wh5, .inl (cI, 60, .inl f5)), (wi, .inr (4, [.ref wi0, .ref wi1, .ref wi2, .ref wi3, .ref wi4, .ref wi5, .int (nI nw)])), (wi0, .inl (cI, 60, .inl o0)), (wi1, .inl (cI, 60, .inl o1)), (wi2, .inl (cI, 60, .inl o2)), (wi3, .inl (cZ, 60, .inl o3)), (wi4, .inl (cI, 60, .inl o4)), (wi5, .inl (cI, 60, .inl o5))] H := hP
  have hD : va_D A [(wh, .inr (4, [.ref wh0, .ref wh1, .ref wh2, .ref wh3, .ref wh4, .ref wh5, .int (nI nw)])), (wh0, .inl (cI, 60, .inl f0)), (wh1, .inl (cI, 60, .inl f1)), (wh2, .inl (cI, 60, .inl f2)), (wh3, .inl (cZ, 60, .inl f3)), (wh4, .inl (cI, 60, .inl f4)), (wh5, .inl (cI, 60, .inl f5)), (wi, .inr (4, [.ref wi0, .ref wi1, .ref wi2, .ref wi3, .ref wi4, .ref wi5, .int (nI nw)])), (wi0, .inl (cI, 60, .inl o0)), (wi1, .inl (cI, 60, .inl o1)), (wi2, .inl (cI, 60, .inl o2)), (wi3, .inl (cZ, 60, .inl o3)), (wi4, .inl (cI, 60, .inl o4)), (wi5, .inl (cI, 60, .inl o5))] := hD
  refine lv_iconst (v := 0) hx hb dX4_copyFrom_8 (by decide) ?_
  refine lv_istore_n (lv' := [(2, .int 0), (0, .ref wh), (1, .ref wi)]) hx hb dX4_copyFrom_9 rfl hl (by decide) rfl (fun ls hl => ?_)
  have hP : va_P D vwCl [(wh, .inr (4, [.ref wh0, .ref wh1, .ref wh2, .ref wh3, .ref wh4, .ref wh5, .int (nI nw)])), (wh0, .inl (cI, 60, .inl (gM 0 o0 f0))), (wh1, .inl (cI, 60, .inl (gM 0 o1 f1))), (wh2, .inl (cI, 60, .inl (gM 0 o2 f2))), (wh3, .inl (cZ, 60, .inl (gM 0 o3 f3))), (wh4, .inl (cI, 60, .inl (gM 0 o4 f4))), (wh5, .inl (cI, 60, .inl (gM 0 o5 f5))), (wi, .inr (4, [.ref wi0, .ref wi1, .ref wi2, .ref wi3, .ref wi4, .ref wi5, .int (nI nw)])), (wi0, .inl (cI, 60, .inl o0)), (wi1, .inl (cI, 60, .inl o1)), (wi2, .inl (cI, 60, .inl o2)), (wi3, .inl (cZ, 60, .inl o3)), (wi4, .inl (cI, 60, .inl o4)), (wi5, .inl (cI, 60, .inl o5))] H := by simp only [gM_0]; exact hP
  have hD : va_D A [(wh, .inr (4, [.ref wh0, .ref wh1, .ref wh2, .ref wh3, .ref wh4, .ref wh5, .int (nI nw)])), (wh0, .inl (cI, 60, .inl (gM 0 o0 f0))), (wh1, .inl (cI, 60, .inl (gM 0 o1 f1))), (wh2, .inl (cI, 60, .inl (gM 0 o2 f2))), (wh3, .inl (cZ, 60, .inl (gM 0 o3 f3))), (wh4, .inl (cI, 60, .inl (gM 0 o4 f4))), (wh5, .inl (cI, 60, .inl (gM 0 o5 f5))), (wi, .inr (4, [.ref wi0, .ref wi1, .ref wi2, .ref wi3, .ref wi4, .ref wi5, .int (nI nw)])), (wi0, .inl (cI, 60, .inl o0)), (wi1, .inl (cI, 60, .inl o1)), (wi2, .inl (cI, 60, .inl o2)), (wi3, .inl (cZ, 60, .inl o3)), (wi4, .inl (cI, 60, .inl o4)), (wi5, .inl (cI, 60, .inl o5))] := by simp only [gM_0]; exact hD
  refine gw_loop (fun (zz : Nat × Nat) H locs ls => match zz with | (k, i) => va_P D vwCl [(wh, .inr (4, [.ref wh0, .ref wh1, .ref wh2, .ref wh3, .ref wh4, .ref wh5, .int (nI nw)])), (wh0, .inl (cI, 60, .inl (gM i o0 f0))), (wh1, .inl (cI, 60, .inl (gM i o1 f1))), (wh2, .inl (cI, 60, .inl (gM i o2 f2))), (wh3, .inl (cZ, 60, .inl (gM i o3 f3))), (wh4, .inl (cI, 60, .inl (gM i o4 f4))), (wh5, .inl (cI, 60, .inl (gM i o5 f5))), (wi, .inr (4, [.ref wi0, .ref wi1, .ref wi2, .ref wi3, .ref wi4, .ref wi5, .int (nI nw)])), (wi0, .inl (cI, 60, .inl o0)), (wi1, .inl (cI, 60, .inl o1)), (wi2, .inl (cI, 60, .inl o2)), (wi3, .inl (cZ, 60, .inl o3)), (wi4, .inl (cI, 60, .inl o4)), (wi5, .inl (cI, 60, .inl o5))] H ∧ va_D A [(wh, .inr (4, [.ref wh0, .ref wh1, .ref wh2, .ref wh3, .ref wh4, .ref wh5, .int (nI nw)])), (wh0, .inl (cI, 60, .inl (gM i o0 f0))), (wh1, .inl (cI, 60, .inl (gM i o1 f1))), (wh2, .inl (cI, 60, .inl (gM i o2 f2))), (wh3, .inl (cZ, 60, .inl (gM i o3 f3))), (wh4, .inl (cI, 60, .inl (gM i o4 f4))), (wh5, .inl (cI, 60, .inl (gM i o5 f5))), (wi, .inr (4, [.ref wi0, .ref wi1, .ref wi2, .ref wi3, .ref wi4, .ref wi5, .int (nI nw)])), (wi0, .inl (cI, 60, .inl o0)), (wi1, .inl (cI, 60, .inl o1)), (wi2, .inl (cI, 60, .inl o2)), (wi3, .inl (cZ, 60, .inl o3)), (wi4, .inl (cI, 60, .inl o4)), (wi5, .inl (cI, 60, .inl o5))] ∧ va_S A s.heap H locs ∧ lv_has ls 3 [(2, .int (nI i)), (0, .ref wh), (1, .ref wi)] ∧ (i + k = nw)) (fun (zz : Nat × Nat) => match zz with | (k, i) => k) (nw, 0) ⟨hP, hD, hS, lv_sub hl [0, 1, 2] rfl, (by omega)⟩ ?_
  rintro ⟨k, i⟩ ih H locs ls ⟨hP, hD, hS, hl, hin⟩
  have hP : va_P D vwCl [(wh, .inr (4, [.ref wh0, .ref wh1, .ref wh2, .ref wh3, .ref wh4, .ref wh5, .int (nI nw)])), (wh0, .inl (cI, 60, .inl (gM i o0 f0))), (wh1, .inl (cI, 60, .inl (gM i o1 f1))), (wh2, .inl (cI, 60, .inl (gM i o2 f2))), (wh3, .inl (cZ, 60, .inl (gM i o3 f3))), (wh4, .inl (cI, 60, .inl (gM i o4 f4))), (wh5, .inl (cI, 60, .inl (gM i o5 f5))), (wi, .inr (4, [.ref wi0, .ref wi1, .ref wi2, .ref wi3, .ref wi4, .ref wi5, .int (nI nw)])), (wi0, .inl (cI, 60, .inl o0)), (wi1, .inl (cI, 60, .inl o1)), (wi2, .inl (cI, 60, .inl o2)), (wi3, .inl (cZ, 60, .inl o3)), (wi4, .inl (cI, 60, .inl o4)), (wi5, .inl (cI, 60, .inl o5))] H := hP
  have hD : va_D A [(wh, .inr (4, [.ref wh0, .ref wh1, .ref wh2, .ref wh3, .ref wh4, .ref wh5, .int (nI nw)])), (wh0, .inl (cI, 60, .inl (gM i o0 f0))), (wh1, .inl (cI, 60, .inl (gM i o1 f1))), (wh2, .inl (cI, 60, .inl (gM i o2 f2))), (wh3, .inl (cZ, 60, .inl (gM i o3 f3))), (wh4, .inl (cI, 60, .inl (gM i o4 f4))), (wh5, .inl (cI, 60, .inl (gM i o5 f5))), (wi, .inr (4, [.ref wi0, .ref wi1, .ref wi2, .ref wi3, .ref wi4, .ref wi5, .int (nI nw)])), (wi0, .inl (cI, 60, .inl o0)), (wi1, .inl (cI, 60, .inl o1)), (wi2, .inl (cI, 60, .inl o2)), (wi3, .inl (cZ, 60, .inl o3)), (wi4, .inl (cI, 60, .inl o4)), (wi5, .inl (cI, 60, .inl o5))] := hD
  have hl : lv_has ls 3 [(2, .int (nI i)), (0, .ref wh), (1, .ref wi)] := hl
  have hin : i + k = nw := hin
  have ih10 := ih
  refine lv_iload_n hx hb dX4_copyFrom_10 rfl (lv_at hl 0 rfl) ?_
  refine lv_aload_n hx hb dX4_copyFrom_11 rfl (lv_at hl 1 rfl) ?_
  refine va_get (D := D) (ci := 4) (v := .int (nI nw)) (C := RX4) (T := TX4) (N := 7) hx hb hts wc_X4_copyFrom_X4 hown hK hP 0 rfl rfl 6 (by decide) (hts _ wd_X4_copyFrom_1) (fun _ h9 => h9) rfl dX4_copyFrom_12 ?_
  refine lv_icmp_ge (tgt := 96) hx hb dX4_copyFrom_15 (by decide) (fun c => ?_) (fun c => ?_)
  · skip
    have hk0 : k = 0 := by have := gw_ge (by omega) (by omega) c; omega
    subst hk0
    obtain rfl : i = nw := by omega
    subst hAe
    exact W.vret hx hb hr (fun t ht hW => ⟨⟨(), rfl, trivial, gw_hh ht hP⟩, hS.F ht⟩) hS.2.2 dX4_copyFrom_96
  · skip
    have hi : i < nw := gw_lt (by omega) (by omega) c
    obtain ⟨k, rfl⟩ : ∃ k2, k = k2 + 1 := ⟨k - 1, by omega⟩
    refine lv_aload_n hx hb dX4_copyFrom_18 rfl (lv_at hl 1 rfl) ?_
    refine va_get (D := D) (ci := 4) (v := .ref wh0) (C := RX4) (T := TX4) (N := 7) hx hb hts wc_X4_copyFrom_X4 hown hK hP 0 rfl rfl 0 (by decide) (hts _ wd_X4_copyFrom_2) (fun _ h9 => h9) rfl dX4_copyFrom_19 ?_
    refine lv_iload_n hx hb dX4_copyFrom_22 rfl (lv_at hl 0 rfl) ?_
    refine lv_aload_n hx hb dX4_copyFrom_23 rfl (lv_at hl 2 rfl) ?_
    refine va_get (D := D) (ci := 4) (v := .ref wi0) (C := RX4) (T := TX4) (N := 7) hx hb hts wc_X4_copyFrom_X4 hown hK hP 7 rfl rfl 0 (by decide) (hts _ wd_X4_copyFrom_2) (fun _ h9 => h9) rfl dX4_copyFrom_24 ?_
    refine lv_iload_n hx hb dX4_copyFrom_27 rfl (lv_at hl 0 rfl) ?_
    refine gw_iald hx hb hK hP 8 0 (k := i) rfl rfl (by omega) (by decide) dX4_copyFrom_28 ?_
    refine gw_iast hx hb hK hP hD hS 1 0 (k := i) rfl rfl (by omega) (by decide) dX4_copyFrom_29 (fun H locs hP hD hS => ?_)
    have hP : va_P D vwCl [(wh, .inr (4, [.ref wh0, .ref wh1, .ref wh2, .ref wh3, .ref wh4, .ref wh5, .int (nI nw)])), (wh0, .inl (cI, 60, .inl (upd (gM i o0 f0) i (o0 i)))), (wh1, .inl (cI, 60, .inl (gM i o1 f1))), (wh2, .inl (cI, 60, .inl (gM i o2 f2))), (wh3, .inl (cZ, 60, .inl (gM i o3 f3))), (wh4, .inl (cI, 60, .inl (gM i o4 f4))), (wh5, .inl (cI, 60, .inl (gM i o5 f5))), (wi, .inr (4, [.ref wi0, .ref wi1, .ref wi2, .ref wi3, .ref wi4, .ref wi5, .int (nI nw)])), (wi0, .inl (cI, 60, .inl o0)), (wi1, .inl (cI, 60, .inl o1)), (wi2, .inl (cI, 60, .inl o2)), (wi3, .inl (cZ, 60, .inl o3)), (wi4, .inl (cI, 60, .inl o4)), (wi5, .inl (cI, 60, .inl o5))] H := hP
    have hD : va_D A [(wh, .inr (4, [.ref wh0, .ref wh1, .ref wh2, .ref wh3, .ref wh4, .ref wh5, .int (nI nw)])), (wh0, .inl (cI, 60, .inl (upd (gM i o0 f0) i (o0 i)))), (wh1, .inl (cI, 60, .inl (gM i o1 f1))), (wh2, .inl (cI, 60, .inl (gM i o2 f2))), (wh3, .inl (cZ, 60, .inl (gM i o3 f3))), (wh4, .inl (cI, 60, .inl (gM i o4 f4))), (wh5, .inl (cI, 60, .inl (gM i o5 f5))), (wi, .inr (4, [.ref wi0, .ref wi1, .ref wi2, .ref wi3, .ref wi4, .ref wi5, .int (nI nw)])), (wi0, .inl (cI, 60, .inl o0)), (wi1, .inl (cI, 60, .inl o1)), (wi2, .inl (cI, 60, .inl o2)), (wi3, .inl (cZ, 60, .inl o3)), (wi4, .inl (cI, 60, .inl o4)), (wi5, .inl (cI, 60, .inl o5))] := hD
    refine lv_aload_n hx hb dX4_copyFrom_30 rfl (lv_at hl 1 rfl) ?_
    refine va_get (D := D) (ci := 4) (v := .ref wh1) (C := RX4) (T := TX4) (N := 7) hx hb hts wc_X4_copyFrom_X4 hown hK hP 0 rfl rfl 1 (by decide) (hts _ wd_X4_copyFrom_3) (fun _ h9 => h9) rfl dX4_copyFrom_31 ?_
    refine lv_iload_n hx hb dX4_copyFrom_34 rfl (lv_at hl 0 rfl) ?_
    refine lv_aload_n hx hb dX4_copyFrom_35 rfl (lv_at hl 2 rfl) ?_
    refine va_get (D := D) (ci := 4) (v := .ref wi1) (C := RX4) (T := TX4) (N := 7) hx hb hts wc_X4_copyFrom_X4 hown hK hP 7 rfl rfl 1 (by decide) (hts _ wd_X4_copyFrom_3) (fun _ h9 => h9) rfl dX4_copyFrom_36 ?_
    refine lv_iload_n hx hb dX4_copyFrom_39 rfl (lv_at hl 0 rfl) ?_
    refine gw_iald hx hb hK hP 9 0 (k := i) rfl rfl (by omega) (by decide) dX4_copyFrom_40 ?_
    refine gw_iast hx hb hK hP hD hS 2 0 (k := i) rfl rfl (by omega) (by decide) dX4_copyFrom_41 (fun H locs hP hD hS => ?_)
    have hP : va_P D vwCl [(wh, .inr (4, [.ref wh0, .ref wh1, .ref wh2, .ref wh3, .ref wh4, .ref wh5, .int (nI nw)])), (wh0, .inl (cI, 60, .inl (upd (gM i o0 f0) i (o0 i)))), (wh1, .inl (cI, 60, .inl (upd (gM i o1 f1) i (o1 i)))), (wh2, .inl (cI, 60, .inl (gM i o2 f2))), (wh3, .inl (cZ, 60, .inl (gM i o3 f3))), (wh4, .inl (cI, 60, .inl (gM i o4 f4))), (wh5, .inl (cI, 60, .inl (gM i o5 f5))), (wi, .inr (4, [.ref wi0, .ref wi1, .ref wi2, .ref wi3, .ref wi4, .ref wi5, .int (nI nw)])), (wi0, .inl (cI, 60, .inl o0)), (wi1, .inl (cI, 60, .inl o1)), (wi2, .inl (cI, 60, .inl o2)), (wi3, .inl (cZ, 60, .inl o3)), (wi4, .inl (cI, 60, .inl o4)), (wi5, .inl (cI, 60, .inl o5))] H := hP
    have hD : va_D A [(wh, .inr (4, [.ref wh0, .ref wh1, .ref wh2, .ref wh3, .ref wh4, .ref wh5, .int (nI nw)])), (wh0, .inl (cI, 60, .inl (upd (gM i o0 f0) i (o0 i)))), (wh1, .inl (cI, 60, .inl (upd (gM i o1 f1) i (o1 i)))), (wh2, .inl (cI, 60, .inl (gM i o2 f2))), (wh3, .inl (cZ, 60, .inl (gM i o3 f3))), (wh4, .inl (cI, 60, .inl (gM i o4 f4))), (wh5, .inl (cI, 60, .inl (gM i o5 f5))), (wi, .inr (4, [.ref wi0, .ref wi1, .ref wi2, .ref wi3, .ref wi4, .ref wi5, .int (nI nw)])), (wi0, .inl (cI, 60, .inl o0)), (wi1, .inl (cI, 60, .inl o1)), (wi2, .inl (cI, 60, .inl o2)), (wi3, .inl (cZ, 60, .inl o3)), (wi4, .inl (cI, 60, .inl o4)), (wi5, .inl (cI, 60, .inl o5))] := hD
    refine lv_aload_n hx hb dX4_copyFrom_42 rfl (lv_at hl 1 rfl) ?_
    refine va_get (D := D) (ci := 4) (v := .ref wh2) (C := RX4) (T := TX4) (N := 7) hx hb hts wc_X4_copyFrom_X4 hown hK hP 0 rfl rfl 2 (by decide) (hts _ wd_X4_copyFrom_4) (fun _ h9 => h9) rfl dX4_copyFrom_43 ?_
    refine lv_iload_n hx hb dX4_copyFrom_46 rfl (lv_at hl 0 rfl) ?_
    refine lv_aload_n hx hb dX4_copyFrom_47 rfl (lv_at hl 2 rfl) ?_
    refine va_get (D := D) (ci := 4) (v := .ref wi2) (C := RX4) (T := TX4) (N := 7) hx hb hts wc_X4_copyFrom_X4 hown hK hP 7 rfl rfl 2 (by decide) (hts _ wd_X4_copyFrom_4) (fun _ h9 => h9) rfl dX4_copyFrom_48 ?_
    refine lv_iload_n hx hb dX4_copyFrom_51 rfl (lv_at hl 0 rfl) ?_
    refine gw_iald hx hb hK hP 10 0 (k := i) rfl rfl (by omega) (by decide) dX4_copyFrom_52 ?_
    refine gw_iast hx hb hK hP hD hS 3 0 (k := i) rfl rfl (by omega) (by decide) dX4_copyFrom_53 (fun H locs hP hD hS => ?_)
    have hP : va_P D vwCl [(wh, .inr (4, [.ref wh0, .ref wh1, .ref wh2, .ref wh3, .ref wh4, .ref wh5, .int (nI nw)])), (wh0, .inl (cI, 60, .inl (upd (gM i o0 f0) i (o0 i)))), (wh1, .inl (cI, 60, .inl (upd (gM i o1 f1) i (o1 i)))), (wh2, .inl (cI, 60, .inl (upd (gM i o2 f2) i (o2 i)))), (wh3, .inl (cZ, 60, .inl (gM i o3 f3))), (wh4, .inl (cI, 60, .inl (gM i o4 f4))), (wh5, .inl (cI, 60, .inl (gM i o5 f5))), (wi, .inr (4, [.ref wi0, .ref wi1, .ref wi2, .ref wi3, .ref wi4, .ref wi5, .int (nI nw)])), (wi0, .inl (cI, 60, .inl o0)), (wi1, .inl (cI, 60, .inl o1)), (wi2, .inl (cI, 60, .inl o2)), (wi3, .inl (cZ, 60, .inl o3)), (wi4, .inl (cI, 60, .inl o4)), (wi5, .inl (cI, 60, .inl o5))] H := hP
    have hD : va_D A [(wh, .inr (4, [.ref wh0, .ref wh1, .ref wh2, .ref wh3, .ref wh4, .ref wh5, .int (nI nw)])), (wh0, .inl (cI, 60, .inl (upd (gM i o0 f0) i (o0 i)))), (wh1, .inl (cI, 60, .inl (upd (gM i o1 f1) i (o1 i)))), (wh2, .inl (cI, 60, .inl (upd (gM i o2 f2) i (o2 i)))), (wh3, .inl (cZ, 60, .inl (gM i o3 f3))), (wh4, .inl (cI, 60, .inl (gM i o4 f4))), (wh5, .inl (cI, 60, .inl (gM i o5 f5))), (wi, .inr (4, [.ref wi0, .ref wi1, .ref wi2, .ref wi3, .ref wi4, .ref wi5, .int (nI nw)])), (wi0, .inl (cI, 60, .inl o0)), (wi1, .inl (cI, 60, .inl o1)), (wi2, .inl (cI, 60, .inl o2)), (wi3, .inl (cZ, 60, .inl o3)), (wi4, .inl (cI, 60, .inl o4)), (wi5, .inl (cI, 60, .inl o5))] := hD
    refine lv_aload_n hx hb dX4_copyFrom_54 rfl (lv_at hl 1 rfl) ?_
    refine va_get (D := D) (ci := 4) (v := .ref wh3) (C := RX4) (T := TX4) (N := 7) hx hb hts wc_X4_copyFrom_X4 hown hK hP 0 rfl rfl 3 (by decide) (hts _ wd_X4_copyFrom_5) (fun _ h9 => h9) rfl dX4_copyFrom_55 ?_
    refine lv_iload_n hx hb dX4_copyFrom_58 rfl (lv_at hl 0 rfl) ?_
    refine lv_aload_n hx hb dX4_copyFrom_59 rfl (lv_at hl 2 rfl) ?_
    refine va_get (D := D) (ci := 4) (v := .ref wi3) (C := RX4) (T := TX4) (N := 7) hx hb hts wc_X4_copyFrom_X4 hown hK hP 7 rfl rfl 3 (by decide) (hts _ wd_X4_copyFrom_5) (fun _ h9 => h9) rfl dX4_copyFrom_60 ?_
    refine lv_iload_n hx hb dX4_copyFrom_63 rfl (lv_at hl 0 rfl) ?_
    refine gw_zald hx hb hK hP 11 1 (k := i) rfl rfl (by omega) (by decide) dX4_copyFrom_64 ?_
    refine gw_zast hx hb hK hP hD hS 4 1 (k := i) rfl rfl (hz i) (by omega) (by decide) dX4_copyFrom_65 (fun H locs hP hD hS => ?_)
    have hP : va_P D vwCl [(wh, .inr (4, [.ref wh0, .ref wh1, .ref wh2, .ref wh3, .ref wh4, .ref wh5, .int (nI nw)])), (wh0, .inl (cI, 60, .inl (upd (gM i o0 f0) i (o0 i)))), (wh1, .inl (cI, 60, .inl (upd (gM i o1 f1) i (o1 i)))), (wh2, .inl (cI, 60, .inl (upd (gM i o2 f2) i (o2 i)))), (wh3, .inl (cZ, 60, .inl (upd (gM i o3 f3) i (o3 i)))), (wh4, .inl (cI, 60, .inl (gM i o4 f4))), (wh5, .inl (cI, 60, .inl (gM i o5 f5))), (wi, .inr (4, [.ref wi0, .ref wi1, .ref wi2, .ref wi3, .ref wi4, .ref wi5, .int (nI nw)])), (wi0, .inl (cI, 60, .inl o0)), (wi1, .inl (cI, 60, .inl o1)), (wi2, .inl (cI, 60, .inl o2)), (wi3, .inl (cZ, 60, .inl o3)), (wi4, .inl (cI, 60, .inl o4)), (wi5, .inl (cI, 60, .inl o5))] H := hP
    have hD : va_D A [(wh, .inr (4, [.ref wh0, .ref wh1, .ref wh2, .ref wh3, .ref wh4, .ref wh5, .int (nI nw)])), (wh0, .inl (cI, 60, .inl (upd (gM i o0 f0) i (o0 i)))), (wh1, .inl (cI, 60, .inl (upd (gM i o1 f1) i (o1 i)))), (wh2, .inl (cI, 60, .inl (upd (gM i o2 f2) i (o2 i)))), (wh3, .inl (cZ, 60, .inl (upd (gM i o3 f3) i (o3 i)))), (wh4, .inl (cI, 60, .inl (gM i o4 f4))), (wh5, .inl (cI, 60, .inl (gM i o5 f5))), (wi, .inr (4, [.ref wi0, .ref wi1, .ref wi2, .ref wi3, .ref wi4, .ref wi5, .int (nI nw)])), (wi0, .inl (cI, 60, .inl o0)), (wi1, .inl (cI, 60, .inl o1)), (wi2, .inl (cI, 60, .inl o2)), (wi3, .inl (cZ, 60, .inl o3)), (wi4, .inl (cI, 60, .inl o4)), (wi5, .inl (cI, 60, .inl o5))] := hD
    refine lv_aload_n hx hb dX4_copyFrom_66 rfl (lv_at hl 1 rfl) ?_
    refine va_get (D := D) (ci := 4) (v := .ref wh4) (C := RX4) (T := TX4) (N := 7) hx hb hts wc_X4_copyFrom_X4 hown hK hP 0 rfl rfl 4 (by decide) (hts _ wd_X4_copyFrom_6) (fun _ h9 => h9) rfl dX4_copyFrom_67 ?_
    refine lv_iload_n hx hb dX4_copyFrom_70 rfl (lv_at hl 0 rfl) ?_
    refine lv_aload_n hx hb dX4_copyFrom_71 rfl (lv_at hl 2 rfl) ?_
    refine va_get (D := D) (ci := 4) (v := .ref wi4) (C := RX4) (T := TX4) (N := 7) hx hb hts wc_X4_copyFrom_X4 hown hK hP 7 rfl rfl 4 (by decide) (hts _ wd_X4_copyFrom_6) (fun _ h9 => h9) rfl dX4_copyFrom_72 ?_
    refine lv_iload_n hx hb dX4_copyFrom_75 rfl (lv_at hl 0 rfl) ?_
    refine gw_iald hx hb hK hP 12 0 (k := i) rfl rfl (by omega) (by decide) dX4_copyFrom_76 ?_
    refine gw_iast hx hb hK hP hD hS 5 0 (k := i) rfl rfl (by omega) (by decide) dX4_copyFrom_77 (fun H locs hP hD hS => ?_)
    have hP : va_P D vwCl [(wh, .inr (4, [.ref wh0, .ref wh1, .ref wh2, .ref wh3, .ref wh4, .ref wh5, .int (nI nw)])), (wh0, .inl (cI, 60, .inl (upd (gM i o0 f0) i (o0 i)))), (wh1, .inl (cI, 60, .inl (upd (gM i o1 f1) i (o1 i)))), (wh2, .inl (cI, 60, .inl (upd (gM i o2 f2) i (o2 i)))), (wh3, .inl (cZ, 60, .inl (upd (gM i o3 f3) i (o3 i)))), (wh4, .inl (cI, 60, .inl (upd (gM i o4 f4) i (o4 i)))), (wh5, .inl (cI, 60, .inl (gM i o5 f5))), (wi, .inr (4, [.ref wi0, .ref wi1, .ref wi2, .ref wi3, .ref wi4, .ref wi5, .int (nI nw)])), (wi0, .inl (cI, 60, .inl o0)), (wi1, .inl (cI, 60, .inl o1)), (wi2, .inl (cI, 60, .inl o2)), (wi3, .inl (cZ, 60, .inl o3)), (wi4, .inl (cI, 60, .inl o4)), (wi5, .inl (cI, 60, .inl o5))] H := hP
    have hD : va_D A [(wh, .inr (4, [.ref wh0, .ref wh1, .ref wh2, .ref wh3, .ref wh4, .ref wh5, .int (nI nw)])), (wh0, .inl (cI, 60, .inl (upd (gM i o0 f0) i (o0 i)))), (wh1, .inl (cI, 60, .inl (upd (gM i o1 f1) i (o1 i)))), (wh2, .inl (cI, 60, .inl (upd (gM i o2 f2) i (o2 i)))), (wh3, .inl (cZ, 60, .inl (upd (gM i o3 f3) i (o3 i)))), (wh4, .inl (cI, 60, .inl (upd (gM i o4 f4) i (o4 i)))), (wh5, .inl (cI, 60, .inl (gM i o5 f5))), (wi, .inr (4, [.ref wi0, .ref wi1, .ref wi2, .ref wi3, .ref wi4, .ref wi5, .int (nI nw)])), (wi0, .inl (cI, 60, .inl o0)), (wi1, .inl (cI, 60, .inl o1)), (wi2, .inl (cI, 60, .inl o2)), (wi3, .inl (cZ, 60, .inl o3)), (wi4, .inl (cI, 60, .inl o4)), (wi5, .inl (cI, 60, .inl o5))] := hD
    refine lv_aload_n hx hb dX4_copyFrom_78 rfl (lv_at hl 1 rfl) ?_
    refine va_get (D := D) (ci := 4) (v := .ref wh5) (C := RX4) (T := TX4) (N := 7) hx hb hts wc_X4_copyFrom_X4 hown hK hP 0 rfl rfl 5 (by decide) (hts _ wd_X4_copyFrom_7) (fun _ h9 => h9) rfl dX4_copyFrom_79 ?_
    refine lv_iload_n hx hb dX4_copyFrom_82 rfl (lv_at hl 0 rfl) ?_
    refine lv_aload_n hx hb dX4_copyFrom_83 rfl (lv_at hl 2 rfl) ?_
    refine va_get (D := D) (ci := 4) (v := .ref wi5) (C := RX4) (T := TX4) (N := 7) hx hb hts wc_X4_copyFrom_X4 hown hK hP 7 rfl rfl 5 (by decide) (hts _ wd_X4_copyFrom_7) (fun _ h9 => h9) rfl dX4_copyFrom_84 ?_
    refine lv_iload_n hx hb dX4_copyFrom_87 rfl (lv_at hl 0 rfl) ?_
    refine gw_iald hx hb hK hP 13 0 (k := i) rfl rfl (by omega) (by decide) dX4_copyFrom_88 ?_
    refine gw_iast hx hb hK hP hD hS 6 0 (k := i) rfl rfl (by omega) (by decide) dX4_copyFrom_89 (fun H locs hP hD hS => ?_)
    have hP : va_P D vwCl [(wh, .inr (4, [.ref wh0, .ref wh1, .ref wh2, .ref wh3, .ref wh4, .ref wh5, .int (nI nw)])), (wh0, .inl (cI, 60, .inl (upd (gM i o0 f0) i (o0 i)))), (wh1, .inl (cI, 60, .inl (upd (gM i o1 f1) i (o1 i)))), (wh2, .inl (cI, 60, .inl (upd (gM i o2 f2) i (o2 i)))), (wh3, .inl (cZ, 60, .inl (upd (gM i o3 f3) i (o3 i)))), (wh4, .inl (cI, 60, .inl (upd (gM i o4 f4) i (o4 i)))), (wh5, .inl (cI, 60, .inl (upd (gM i o5 f5) i (o5 i)))), (wi, .inr (4, [.ref wi0, .ref wi1, .ref wi2, .ref wi3, .ref wi4, .ref wi5, .int (nI nw)])), (wi0, .inl (cI, 60, .inl o0)), (wi1, .inl (cI, 60, .inl o1)), (wi2, .inl (cI, 60, .inl o2)), (wi3, .inl (cZ, 60, .inl o3)), (wi4, .inl (cI, 60, .inl o4)), (wi5, .inl (cI, 60, .inl o5))] H := hP
    have hD : va_D A [(wh, .inr (4, [.ref wh0, .ref wh1, .ref wh2, .ref wh3, .ref wh4, .ref wh5, .int (nI nw)])), (wh0, .inl (cI, 60, .inl (upd (gM i o0 f0) i (o0 i)))), (wh1, .inl (cI, 60, .inl (upd (gM i o1 f1) i (o1 i)))), (wh2, .inl (cI, 60, .inl (upd (gM i o2 f2) i (o2 i)))), (wh3, .inl (cZ, 60, .inl (upd (gM i o3 f3) i (o3 i)))), (wh4, .inl (cI, 60, .inl (upd (gM i o4 f4) i (o4 i)))), (wh5, .inl (cI, 60, .inl (upd (gM i o5 f5) i (o5 i)))), (wi, .inr (4, [.ref wi0, .ref wi1, .ref wi2, .ref wi3, .ref wi4, .ref wi5, .int (nI nw)])), (wi0, .inl (cI, 60, .inl o0)), (wi1, .inl (cI, 60, .inl o1)), (wi2, .inl (cI, 60, .inl o2)), (wi3, .inl (cZ, 60, .inl o3)), (wi4, .inl (cI, 60, .inl o4)), (wi5, .inl (cI, 60, .inl o5))] := hD
    refine lv_iinc (v := nI (i + 1)) (lv' := [(2, .int (nI (i + 1))), (0, .ref wh), (1, .ref wi)]) hx hb dX4_copyFrom_90 hl (k := 0) rfl (nI_add i 1) (by decide) rfl (fun ls hl => ?_)
    refine lv_goto (tgt := 10) hx hb dX4_copyFrom_93 (by decide) ?_
    have hw0 : upd (gM i o0 f0) i (o0 i) = gM (i + 1) o0 f0 := gM_s rfl
    have hw1 : upd (gM i o1 f1) i (o1 i) = gM (i + 1) o1 f1 := gM_s rfl
    have hw2 : upd (gM i o2 f2) i (o2 i) = gM (i + 1) o2 f2 := gM_s rfl
    have hw3 : upd (gM i o3 f3) i (o3 i) = gM (i + 1) o3 f3 := gM_s rfl
    have hw4 : upd (gM i o4 f4) i (o4 i) = gM (i + 1) o4 f4 := gM_s rfl
    have hw5 : upd (gM i o5 f5) i (o5 i) = gM (i + 1) o5 f5 := gM_s rfl
    rw [hw0, hw1, hw2, hw3, hw4, hw5] at hP hD
    exact ih10 (k, i + 1) H locs ls (by dsimp only; omega) ⟨hP, hD, hS, lv_sub hl [0, 1, 2] rfl, (by omega)⟩
