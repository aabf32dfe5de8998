theorem wc_X2_daysUntilTired_X2 : ∀ w ∈ u_ws RX2 TX2 5, w ∈ wsX2_daysUntilTired := by decide +kernel
theorem wd_X2_daysUntilTired_1 : (.fieldLink RX2 31 "GritWheels$Quarry" "crew" "LGritWheels$Crew;" : Cond) ∈ wsX2_daysUntilTired := by decide +kernel
theorem wc_X2_daysUntilTired_X1 : ∀ w ∈ u_ws RX1 TX1 5, w ∈ wsX2_daysUntilTired := by decide +kernel
theorem wd_X2_daysUntilTired_3 : (.fieldLink RX2 86 "GritWheels$Crew" "place" "[I" : Cond) ∈ wsX2_daysUntilTired := by decide +kernel
theorem wd_X2_daysUntilTired_4 : (.fieldLink RX2 24 "GritWheels$Quarry" "beds" "LGritWheels$Beds;" : Cond) ∈ wsX2_daysUntilTired := by decide +kernel
theorem wd_X2_daysUntilTired_5 : (.fieldLink RX2 135 "GritWheels$Crew" "dust" "[I" : Cond) ∈ wsX2_daysUntilTired := by decide +kernel
set_option maxHeartbeats 4000000 in
set_option maxRecDepth 100000 in
theorem met_X2_daysUntilTired (l : Launch) (D : va_G) (cI cZ cL : ClassId) (qu : Nat) (qf : Nat) (bd : Nat) (cr : Nat) (wh : Nat) (bd0 : Nat) (bd1 : Nat) (bd2 : Nat) (bd3 : Nat) (cr0 : Nat) (cr1 : Nat) (cr2 : Nat) (cr3 : Nat) (Q : Nat → Nat → Int32) (nb : Nat) (nq : Nat) (day : Nat) (k : Nat) (hk : k < nq) (hnq : nq ≤ 6) (hnb : nb ≤ 5) (hpl : gPl Q nb nq) : Met l yX2_daysUntilTired wsX2_daysUntilTired ({ frames := 1, cells := 0, slots := 0, locals := 21 }) (gPr [.ref qu, .int (nI k)] D [(qu, .inr (2, [.ref qf, .ref bd, .ref cr, .ref wh, .int (nI day)])), (bd, .inr (0, [.ref bd0, .ref bd1, .ref bd2, .ref bd3, .int (nI nb)])), (bd0, .inl (cI, 5, .inl (Q 1))), (cr, .inr (1, [.ref cr0, .ref cr1, .ref cr2, .ref cr3, .int (nI nq)])), (cr1, .inl (cI, 6, .inl (Q 6))), (cr2, .inl (cI, 6, .inl (Q 7)))] (gT cI cZ cL)) (va_Qi (fun (r : Int32) (_ : Unit) => r = gTired (Q 6 k) (Q 7 k) (Q 1 (Q 6 k).toNatClampNeg)) (fun _ _ => True) gN) 0 0 gN := by
  refine Met.ofW (cc := cX2_daysUntilTired) (maxL := 5) (ret := (some .int)) (by decide +kernel) rfl ?_
  intro p e s m args below meth c s₁ B hml hv
  obtain ⟨rfl, hP, hK⟩ := hv
  have hx := B.exec
  have hb := B.bytes
  have hr := B.returns
  have hts := atoms_spec (ws := wsX2_daysUntilTired) B.pre
  have hown : s.vm.findClass RX2 = some m.cls := findClass_of_methodNamed B.named
  have hlocks := B.notSynchronized
  have hS : va_S gN s.heap s.heap [] := va_S.rf
  have hP : va_P D vwCl [(qu, .inr (2, [.ref qf, .ref bd, .ref cr, .ref wh, .int (nI day)])), (bd, .inr (0, [.ref bd0, .ref bd1, .ref bd2, .ref bd3, .int (nI nb)])), (bd0, .inl (cI, 5, .inl (Q 1))), (cr, .inr (1, [.ref cr0, .ref cr1, .ref cr2, .ref cr3, .int (nI nq)])), (cr1, .inl (cI, 6, .inl (Q 6))), (cr2, .inl (cI, 6, .inl (Q 7)))] s.heap := hP
  have hl := lv_entry ([.ref qu, .int (nI k)]) (n := 5) (Nat.le_of_ble_eq_true rfl)
  rw [lg_entry_eq]
  generalize (lg_sl ([.ref qu, .int (nI k)]) ++ List.replicate (5 - (lg_sl ([.ref qu, .int (nI k)])).length) Slot.unset).toArray = ls at hl ⊢
  have hl : lv_has ls 5 [(0, .ref qu), (1, .int (nI k))] := hl
  refine lv_aload_n hx hb dX2_daysUntilTired_0 rfl (lv_at hl 0 rfl) ?_
  refine va_get (D := D) (ci := 2) (v := .ref cr) (C := RX2) (T := TX2) (N := 5) hx hb hts wc_X2_daysUntilTired_X2 hown hK hP 0 rfl rfl 2 (by decide) (hts _ wd_X2_daysUntilTired_1) (fun _ h9 => h9) rfl dX2_daysUntilTired_1 ?_
  refine va_get (D := D) (ci := 1) (v := .ref cr1) (C := RX1) (T := TX1) (N := 5) hx hb hts wc_X2_daysUntilTired_X1 hown hK hP 3 rfl rfl 1 (by decide) (hts _ wd_X2_daysUntilTired_3) (fun _ h9 => h9) rfl dX2_daysUntilTired_4 ?_
  refine lv_iload_n hx hb dX2_daysUntilTired_7 rfl (lv_at hl 1 rfl) ?_
  refine gw_iald hx hb hK hP 4 0 (k := k) rfl rfl (by omega) (by decide) dX2_daysUntilTired_8 ?_
  refine lv_istore_n (lv' := [(2, .int (Q 6 k)), (0, .ref qu), (1, .int (nI k))]) hx hb dX2_daysUntilTired_9 rfl hl (by decide) rfl (fun ls hl => ?_)
  refine lv_aload_n hx hb dX2_daysUntilTired_10 rfl (lv_at hl 1 rfl) ?_
  refine va_get (D := D) (ci := 2) (v := .ref bd) (C := RX2) (T := TX2) (N := 5) hx hb hts wc_X2_daysUntilTired_X2 hown hK hP 0 rfl rfl 1 (by decide) (hts _ wd_X2_daysUntilTired_4) (fun _ h9 => h9) rfl dX2_daysUntilTired_11 ?_
  refine lv_iload_n hx hb dX2_daysUntilTired_14 rfl (lv_at hl 0 rfl) ?_
  refine va_calli (va_runV (As := [.int (Q 6 k)]) (rest := []) ⟨hx, hb, hml, hown, hts⟩ (met_X0_has l D cI cZ cL bd bd0 bd1 bd2 bd3 nb (Q 6 k) (by first | assumption | omega)) (cwV 1 hts gX2_daysUntilTired_X0_has rfl rfl rfl (by decide +kernel) ⟨Nat.le_of_ble_eq_true rfl, Nat.le_of_ble_eq_true rfl⟩) (gw_pvr hK hP (wc := [(bd, .inr (0, [.ref bd0, .ref bd1, .ref bd2, .ref bd3, .int (nI nb)]))]) [1] rfl 0 rfl rfl rfl) rfl rfl hl.1 rfl (lv_room (Nat.le_of_ble_eq_true rfl)) dX2_daysUntilTired_15 ⟨Nat.zero_le _, Nat.zero_le _⟩) hS (fun _ _ z => z.elim) (fun _ z => z.elim) (fun r_2 _ t H1 locs ht hvm hw hB hz1 hk1 hS => ?_)
  have hP := gw_ro hP hk1
  generalize H1 = H at hP hS ⊢
  rcases hw with ⟨rfl, hc⟩ | ⟨rfl, hc⟩
  · skip
    obtain ⟨b, hb2, hbe⟩ := hc
    rw [hbe] at hl
    have hne : ¬ Q 6 k = -1 := by rw [hbe]; exact gw_nIm1 (by omega)
    have hcl : (Q 6 k).toNatClampNeg = b := by rw [hbe]; exact nI_clamp (by omega)
    refine lv_if_ne (tgt := 23) hx hb dX2_daysUntilTired_18 (by decide) (fun _ => ?_) (fun c_4 => False.elim (by revert c_4; decide))
    refine lv_bipush (v := 60) hx hb dX2_daysUntilTired_23 (by decide) ?_
    refine lv_aload_n hx hb dX2_daysUntilTired_25 rfl (lv_at hl 1 rfl) ?_
    refine va_get (D := D) (ci := 2) (v := .ref cr) (C := RX2) (T := TX2) (N := 5) hx hb hts wc_X2_daysUntilTired_X2 hown hK hP 0 rfl rfl 2 (by decide) (hts _ wd_X2_daysUntilTired_1) (fun _ h9 => h9) rfl dX2_daysUntilTired_26 ?_
    refine va_get (D := D) (ci := 1) (v := .ref cr2) (C := RX1) (T := TX1) (N := 5) hx hb hts wc_X2_daysUntilTired_X1 hown hK hP 3 rfl rfl 2 (by decide) (hts _ wd_X2_daysUntilTired_5) (fun _ h9 => h9) rfl dX2_daysUntilTired_29 ?_
    refine lv_iload_n hx hb dX2_daysUntilTired_32 rfl (lv_at hl 2 rfl) ?_
    refine gw_iald hx hb hK hP 5 0 (k := k) rfl rfl (by omega) (by decide) dX2_daysUntilTired_33 ?_
    refine lv_isub hx hb dX2_daysUntilTired_34 ?_
    refine lv_istore_n (lv' := [(3, .int (60 - (Q 7 k))), (2, .int (nI b)), (0, .ref qu), (1, .int (nI k))]) hx hb dX2_daysUntilTired_35 rfl hl (by decide) rfl (fun ls hl => ?_)
    refine lv_aload_n hx hb dX2_daysUntilTired_36 rfl (lv_at hl 2 rfl) ?_
    refine va_get (D := D) (ci := 2) (v := .ref bd) (C := RX2) (T := TX2) (N := 5) hx hb hts wc_X2_daysUntilTired_X2 hown hK hP 0 rfl rfl 1 (by decide) (hts _ wd_X2_daysUntilTired_4) (fun _ h9 => h9) rfl dX2_daysUntilTired_37 ?_
    refine lv_iload_n hx hb dX2_daysUntilTired_40 rfl (lv_at hl 1 rfl) ?_
    refine va_calli (va_runV (As := [.int (nI b)]) (rest := []) ⟨hx, hb, hml, hown, hts⟩ (met_X0_dustOfADay l D cI cZ cL bd bd0 bd1 bd2 bd3 nb (Q 1) b (by first | assumption | omega)) (cwV 1 hts gX2_daysUntilTired_X0_dustOfADay rfl rfl rfl (by decide +kernel) ⟨Nat.le_of_ble_eq_true rfl, Nat.le_of_ble_eq_true rfl⟩) (gw_pvr hK hP (wc := [(bd, .inr (0, [.ref bd0, .ref bd1, .ref bd2, .ref bd3, .int (nI nb)])), (bd0, .inl (cI, 5, .inl (Q 1)))]) [1, 2] rfl 0 rfl rfl rfl) rfl rfl hl.1 rfl (lv_room (Nat.le_of_ble_eq_true rfl)) dX2_daysUntilTired_41 ⟨Nat.zero_le _, Nat.zero_le _⟩) hS (fun _ _ z => z.elim) (fun _ z => z.elim) (fun r_6 _ t H1 locs ht hvm hw hB hz1 hk1 hS => ?_)
    have hP := gw_ro hP hk1
    generalize H1 = H at hP hS ⊢
    subst hw
    refine lv_istore (lv' := [(4, .int ((Q 1) b + 1)), (3, .int (60 - (Q 7 k))), (2, .int (nI b)), (0, .ref qu), (1, .int (nI k))]) hx hb dX2_daysUntilTired_44 hl (by decide) rfl (fun ls hl => ?_)
    refine lv_iload_n hx hb dX2_daysUntilTired_46 rfl (lv_at hl 1 rfl) ?_
    refine lv_if_le (tgt := 55) hx hb dX2_daysUntilTired_47 (by decide) (fun c1 => ?_) (fun c1 => ?_)
    · skip
      refine lv_iconst (v := 0) hx hb dX2_daysUntilTired_55 (by decide) ?_
      exact W.iret (v := 0) hx hb hr (fun t ht hW => ⟨⟨_, (), rfl, (by rw [hcl]; unfold gTired; rw [if_neg hne]; first | rw [if_pos c1] | rw [if_neg c1, if_pos (Int32.not_lt.mp c2)]), trivial⟩, hS.F ht⟩) hS.2.2 dX2_daysUntilTired_56
    · skip
      refine lv_iload hx hb dX2_daysUntilTired_50 (lv_at hl 0 rfl) ?_
      refine lv_if_gt (tgt := 57) hx hb dX2_daysUntilTired_52 (by decide) (fun c2 => ?_) (fun c2 => ?_)
      · skip
        refine lv_iload_n hx hb dX2_daysUntilTired_57 rfl (lv_at hl 1 rfl) ?_
        refine lv_iload hx hb dX2_daysUntilTired_58 (lv_at hl 0 rfl) ?_
        refine lv_iadd hx hb dX2_daysUntilTired_60 ?_
        refine lv_iconst (v := 1) hx hb dX2_daysUntilTired_61 (by decide) ?_
        refine lv_isub hx hb dX2_daysUntilTired_62 ?_
        refine lv_iload hx hb dX2_daysUntilTired_63 (lv_at hl 0 rfl) ?_
        refine lv_idiv hx hb dX2_daysUntilTired_65 (by intro h0; rw [h0] at c2; exact absurd c2 (by decide)) ?_
        exact W.iret (v := (((60 - (Q 7 k)) + ((Q 1) b + 1)) - 1) / ((Q 1) b + 1)) hx hb hr (fun t ht hW => ⟨⟨_, (), rfl, (by rw [hcl]; unfold gTired; rw [if_neg hne, if_neg c1, if_neg (Int32.not_le.mpr c2)]), trivial⟩, hS.F ht⟩) hS.2.2 dX2_daysUntilTired_66
      · skip
        refine lv_iconst (v := 0) hx hb dX2_daysUntilTired_55 (by decide) ?_
        exact W.iret (v := 0) hx hb hr (fun t ht hW => ⟨⟨_, (), rfl, (by rw [hcl]; unfold gTired; rw [if_neg hne]; first | rw [if_pos c1] | rw [if_neg c1, if_pos (Int32.not_lt.mp c2)]), trivial⟩, hS.F ht⟩) hS.2.2 dX2_daysUntilTired_56
  · skip
    have hm1 : Q 6 k = -1 := (hpl k hk).resolve_right hc
    refine lv_if_ne (tgt := 23) hx hb dX2_daysUntilTired_18 (by decide) (fun c_9 => False.elim (by revert c_9; decide)) (fun _ => ?_)
    refine lv_iconst (v := (-1)) hx hb dX2_daysUntilTired_21 (by decide) ?_
    exact W.iret (v := (-1)) hx hb hr (fun t ht hW => ⟨⟨_, (), rfl, (by simp [gTired, hm1]), trivial⟩, hS.F ht⟩) hS.2.2 dX2_daysUntilTired_22

theorem wc_X2_bedFact_X2 : ∀ w ∈ u_ws RX2 TX2 5, w ∈ wsX2_bedFact := by decide +kernel
theorem wd_X2_bedFact_1 : (.fieldLink RX2 24 "GritWheels$Quarry" "beds" "LGritWheels$Beds;" : Cond) ∈ wsX2_bedFact := by decide +kernel
theorem wc_X2_bedFact_X0 : ∀ w ∈ u_ws RX0 TX0 5, w ∈ wsX2_bedFact := by decide +kernel
theorem wd_X2_bedFact_3 : (.fieldLink RX2 125 "GritWheels$Beds" "grit" "[I" : Cond) ∈ wsX2_bedFact := by decide +kernel
theorem wd_X2_bedFact_4 : (.fieldLink RX2 122 "GritWheels$Beds" "flaw" "[I" : Cond) ∈ wsX2_bedFact := by decide +kernel
theorem wd_X2_bedFact_5 : (.fieldLink RX2 113 "GritWheels$Beds" "stone" "[I" : Cond) ∈ wsX2_bedFact := by decide +kernel
theorem wd_X2_bedFact_6 : (.fieldLink RX2 31 "GritWheels$Quarry" "crew" "LGritWheels$Crew;" : Cond) ∈ wsX2_bedFact := by decide +kernel
theorem wd_X2_bedFact_7 : (.fieldLink RX2 119 "GritWheels$Beds" "cut" "[I" : Cond) ∈ wsX2_bedFact := by decide +kernel
theorem wd_X2_bedFact_8 : (.fieldLink RX2 38 "GritWheels$Quarry" "wheels" "LGritWheels$Wheels;" : Cond) ∈ wsX2_bedFact := by decide +kernel
set_option maxHeartbeats 4000000 in
set_option maxRecDepth 100000 in
theorem met_X2_bedFact (l : Launch) (D : va_G) (cI cZ cL : ClassId) (qu : Nat) (qf : Nat) (bd : Nat) (cr : Nat) (wh : Nat) (bd0 : Nat) (bd1 : Nat) (bd2 : Nat) (bd3 : Nat) (cr0 : Nat) (cr1 : Nat) (cr2 : Nat) (cr3 : Nat) (wh0 : Nat) (wh1 : Nat) (wh2 : Nat) (wh3 : Nat) (wh4 : Nat) (wh5 : Nat) (Q : Nat → Nat → Int32) (nb : Nat) (nq : Nat) (nw : Nat) (day : Nat) (k : Nat) (v : Nat) (hk : k < 5) (hv6 : v < 6) (hnq : nq ≤ 6) (hnw : nw ≤ 60) : Met l yX2_bedFact wsX2_bedFact ({ frames := 1, cells := 0, slots := 0, locals := 23 }) (gPr [.ref qu, .int (nI k), .int (nI v)] D [(qu, .inr (2, [.ref qf, .ref bd, .ref cr, .ref wh, .int (nI day)])), (bd, .inr (0, [.ref bd0, .ref bd1, .ref bd2, .ref bd3, .int (nI nb)])), (bd0, .inl (cI, 5, .inl (Q 1))), (bd1, .inl (cI, 5, .inl (Q 2))), (bd2, .inl (cI, 5, .inl (Q 3))), (bd3, .inl (cI, 5, .inl (Q 4))), (cr, .inr (1, [.ref cr0, .ref cr1, .ref cr2, .ref cr3, .int (nI nq)])), (cr1, .inl (cI, 6, .inl (Q 6))), (wh, .inr (4, [.ref wh0, .ref wh1, .ref wh2, .ref wh3, .ref wh4, .ref wh5, .int (nI nw)])), (wh0, .inl (cI, 60, .inl (Q 9))), (wh3, .inl (cZ, 60, .inl (Q 12)))] (gT cI cZ cL)) (va_Qi (fun (r : Int32) (_ : Unit) => r = gBed Q nq nw v k) (fun _ _ => True) gN) 0 0 gN := by
  refine Met.ofW (cc := cX2_bedFact) (maxL := 3) (ret := (some .int)) (by decide +kernel) rfl ?_
  intro p e s m args below meth c s₁ B hml hv
  obtain ⟨rfl, hP, hK⟩ := hv
  have hx := B.exec
  have hb := B.bytes
  have hr := B.returns
  have hts := atoms_spec (ws := wsX2_bedFact) B.pre
  have hown : s.vm.findClass RX2 = some m.cls := findClass_of_methodNamed B.named
  have hlocks := B.notSynchronized
  have hS : va_S gN s.heap s.heap [] := va_S.rf
  have hP : va_P D vwCl [(qu, .inr (2, [.ref qf, .ref bd, .ref cr, .ref wh, .int (nI day)])), (bd, .inr (0, [.ref bd0, .ref bd1, .ref bd2, .ref bd3, .int (nI nb)])), (bd0, .inl (cI, 5, .inl (Q 1))), (bd1, .inl (cI, 5, .inl (Q 2))), (bd2, .inl (cI, 5, .inl (Q 3))), (bd3, .inl (cI, 5, .inl (Q 4))), (cr, .inr (1, [.ref cr0, .ref cr1, .ref cr2, .ref cr3, .int (nI nq)])), (cr1, .inl (cI, 6, .inl (Q 6))), (wh, .inr (4, [.ref wh0, .ref wh1, .ref wh2, .ref wh3, .ref wh4, .ref wh5, .int (nI nw)])), (wh0, .inl (cI, 60, .inl (Q 9))), (wh3, .inl (cZ, 60, .inl (Q 12)))] s.heap := hP
  have hl := lv_entry ([.ref qu, .int (nI k), .int (nI v)]) (n := 3) (Nat.le_of_ble_eq_true rfl)
  rw [lg_entry_eq]
  generalize (lg_sl ([.ref qu, .int (nI k), .int (nI v)]) ++ List.replicate (3 - (lg_sl ([.ref qu, .int (nI k), .int (nI v)])).length) Slot.unset).toArray = ls at hl ⊢
  have hl : lv_has ls 3 [(0, .ref qu), (1, .int (nI k)), (2, .int (nI v))] := hl
  refine lv_iload_n hx hb dX2_bedFact_0 rfl (lv_at hl 2 rfl) ?_
  rcases (show v = 0 ∨ v = 1 ∨ v = 2 ∨ v = 3 ∨ v = 4 ∨ v = 5 by omega) with rfl | rfl | rfl | rfl | rfl | rfl
  · skip
    refine lv_tableIn (off := 35) (tgt := 36) hx hb dX2_bedFact_1 (by decide) (by decide) rfl (by decide) ?_
    refine lv_aload_n hx hb dX2_bedFact_36 rfl (lv_at hl 0 rfl) ?_
    refine va_get (D := D) (ci := 2) (v := .ref bd) (C := RX2) (T := TX2) (N := 5) hx hb hts wc_X2_bedFact_X2 hown hK hP 0 rfl rfl 1 (by decide) (hts _ wd_X2_bedFact_1) (fun _ h9 => h9) rfl dX2_bedFact_37 ?_
    refine va_get (D := D) (ci := 0) (v := .ref bd0) (C := RX0) (T := TX0) (N := 5) hx hb hts wc_X2_bedFact_X0 hown hK hP 1 rfl rfl 0 (by decide) (hts _ wd_X2_bedFact_3) (fun _ h9 => h9) rfl dX2_bedFact_40 ?_
    refine lv_iload_n hx hb dX2_bedFact_43 rfl (lv_at hl 1 rfl) ?_
    refine gw_iald hx hb hK hP 2 0 (k := k) rfl rfl (by omega) (by decide) dX2_bedFact_44 ?_
    exact W.iret (v := Q 1 k) hx hb hr (fun t ht hW => ⟨⟨_, (), rfl, rfl, trivial⟩, hS.F ht⟩) hS.2.2 dX2_bedFact_45
  · skip
    refine lv_tableIn (off := 45) (tgt := 46) hx hb dX2_bedFact_1 (by decide) (by decide) rfl (by decide) ?_
    refine lv_aload_n hx hb dX2_bedFact_46 rfl (lv_at hl 0 rfl) ?_
    refine va_get (D := D) (ci := 2) (v := .ref bd) (C := RX2) (T := TX2) (N := 5) hx hb hts wc_X2_bedFact_X2 hown hK hP 0 rfl rfl 1 (by decide) (hts _ wd_X2_bedFact_1) (fun _ h9 => h9) rfl dX2_bedFact_47 ?_
    refine va_get (D := D) (ci := 0) (v := .ref bd1) (C := RX0) (T := TX0) (N := 5) hx hb hts wc_X2_bedFact_X0 hown hK hP 1 rfl rfl 1 (by decide) (hts _ wd_X2_bedFact_4) (fun _ h9 => h9) rfl dX2_bedFact_50 ?_
    refine lv_iload_n hx hb dX2_bedFact_53 rfl (lv_at hl 1 rfl) ?_
    refine gw_iald hx hb hK hP 3 0 (k := k) rfl rfl (by omega) (by decide) dX2_bedFact_54 ?_
    exact W.iret (v := Q 2 k) hx hb hr (fun t ht hW => ⟨⟨_, (), rfl, rfl, trivial⟩, hS.F ht⟩) hS.2.2 dX2_bedFact_55
  · skip
    refine lv_tableIn (off := 55) (tgt := 56) hx hb dX2_bedFact_1 (by decide) (by decide) rfl (by decide) ?_
    refine lv_aload_n hx hb dX2_bedFact_56 rfl (lv_at hl 0 rfl) ?_
    refine va_get (D := D) (ci := 2) (v := .ref bd) (C := RX2) (T := TX2) (N := 5) hx hb hts wc_X2_bedFact_X2 hown hK hP 0 rfl rfl 1 (by decide) (hts _ wd_X2_bedFact_1) (fun _ h9 => h9) rfl dX2_bedFact_57 ?_
    refine va_get (D := D) (ci := 0) (v := .ref bd2) (C := RX0) (T := TX0) (N := 5) hx hb hts wc_X2_bedFact_X0 hown hK hP 1 rfl rfl 2 (by decide) (hts _ wd_X2_bedFact_5) (fun _ h9 => h9) rfl dX2_bedFact_60 ?_
    refine lv_iload_n hx hb dX2_bedFact_63 rfl (lv_at hl 1 rfl) ?_
    refine gw_iald hx hb hK hP 4 0 (k := k) rfl rfl (by omega) (by decide) dX2_bedFact_64 ?_
    exact W.iret (v := Q 3 k) hx hb hr (fun t ht hW => ⟨⟨_, (), rfl, rfl, trivial⟩, hS.F ht⟩) hS.2.2 dX2_bedFact_65
  · skip
    refine lv_tableIn (off := 65) (tgt := 66) hx hb dX2_bedFact_1 (by decide) (by decide) rfl (by decide) ?_
    refine lv_aload_n hx hb dX2_bedFact_66 rfl (lv_at hl 0 rfl) ?_
    refine va_get (D := D) (ci := 2) (v := .ref cr) (C := RX2) (T := TX2) (N := 5) hx hb hts wc_X2_bedFact_X2 hown hK hP 0 rfl rfl 2 (by decide) (hts _ wd_X2_bedFact_6) (fun _ h9 => h9) rfl dX2_bedFact_67 ?_
    refine lv_iload_n hx hb dX2_bedFact_70 rfl (lv_at hl 1 rfl) ?_
    refine va_calli (va_runV (As := [.int (nI k)]) (rest := []) ⟨hx, hb, hml, hown, hts⟩ (met_X1_numberAt l D cI cZ cL cr cr0 cr1 cr2 cr3 nq (Q 6) (nI k) (by first | assumption | omega)) (cwV 1 hts gX2_bedFact_X1_numberAt rfl rfl rfl (by decide +kernel) ⟨Nat.le_of_ble_eq_true rfl, Nat.le_of_ble_eq_true rfl⟩) (gw_pvr hK hP (wc := [(cr, .inr (1, [.ref cr0, .ref cr1, .ref cr2, .ref cr3, .int (nI nq)])), (cr1, .inl (cI, 6, .inl (Q 6)))]) [6, 7] rfl 1 rfl rfl rfl) rfl rfl hl.1 rfl (lv_room (Nat.le_of_ble_eq_true rfl)) dX2_bedFact_71 ⟨Nat.zero_le _, Nat.zero_le _⟩) hS (fun _ _ z => z.elim) (fun _ z => z.elim) (fun r_2 _ t H1 locs ht hvm hw hB hz1 hk1 hS => ?_)
    have hP := gw_ro hP hk1
    generalize H1 = H at hP hS ⊢
    subst hw
    exact W.iret (v := gS (fun j => if (Q 6) j = (nI k) then 1 else 0) nq 0 0) hx hb hr (fun t ht hW => ⟨⟨_, (), rfl, rfl, trivial⟩, hS.F ht⟩) hS.2.2 dX2_bedFact_74
  · skip
    refine lv_tableIn (off := 74) (tgt := 75) hx hb dX2_bedFact_1 (by decide) (by decide) rfl (by decide) ?_
    refine lv_aload_n hx hb dX2_bedFact_75 rfl (lv_at hl 0 rfl) ?_
    refine va_get (D := D) (ci := 2) (v := .ref bd) (C := RX2) (T := TX2) (N := 5) hx hb hts wc_X2_bedFact_X2 hown hK hP 0 rfl rfl 1 (by decide) (hts _ wd_X2_bedFact_1) (fun _ h9 => h9) rfl dX2_bedFact_76 ?_
    refine va_get (D := D) (ci := 0) (v := .ref bd3) (C := RX0) (T := TX0) (N := 5) hx hb hts wc_X2_bedFact_X0 hown hK hP 1 rfl rfl 3 (by decide) (hts _ wd_X2_bedFact_7) (fun _ h9 => h9) rfl dX2_bedFact_79 ?_
    refine lv_iload_n hx hb dX2_bedFact_82 rfl (lv_at hl 1 rfl) ?_
    refine gw_iald hx hb hK hP 5 0 (k := k) rfl rfl (by omega) (by decide) dX2_bedFact_83 ?_
    exact W.iret (v := Q 4 k) hx hb hr (fun t ht hW => ⟨⟨_, (), rfl, rfl, trivial⟩, hS.F ht⟩) hS.2.2 dX2_bedFact_84
  · skip
    refine lv_tableOut (tgt := 85) hx hb dX2_bedFact_1 (by decide) (by decide) ?_
    refine lv_aload_n hx hb dX2_bedFact_85 rfl (lv_at hl 0 rfl) ?_
    refine va_get (D := D) (ci := 2) (v := .ref wh) (C := RX2) (T := TX2) (N := 5) hx hb hts wc_X2_bedFact_X2 hown hK hP 0 rfl rfl 3 (by decide) (hts _ wd_X2_bedFact_8) (fun _ h9 => h9) rfl dX2_bedFact_86 ?_
    refine lv_iload_n hx hb dX2_bedFact_89 rfl (lv_at hl 1 rfl) ?_
    refine va_calli (va_runV (As := [.int (nI k)]) (rest := []) ⟨hx, hb, hml, hown, hts⟩ (met_X4_numberSoundOf l D cI cZ cL wh wh0 wh1 wh2 wh3 wh4 wh5 nw (Q 9) (Q 12) (nI k) (by first | assumption | omega)) (cwV 1 hts gX2_bedFact_X4_numberSoundOf rfl rfl rfl (by decide +kernel) ⟨Nat.le_of_ble_eq_true rfl, Nat.le_of_ble_eq_true rfl⟩) (gw_pvr hK hP (wc := [(wh, .inr (4, [.ref wh0, .ref wh1, .ref wh2, .ref wh3, .ref wh4, .ref wh5, .int (nI nw)])), (wh0, .inl (cI, 60, .inl (Q 9))), (wh3, .inl (cZ, 60, .inl (Q 12)))]) [8, 9, 10] rfl 4 rfl rfl rfl) rfl rfl hl.1 rfl (lv_room (Nat.le_of_ble_eq_true rfl)) dX2_bedFact_90 ⟨Nat.zero_le _, Nat.zero_le _⟩) hS (fun _ _ z => z.elim) (fun _ z => z.elim) (fun r_4 _ t H1 locs ht hvm hw hB hz1 hk1 hS => ?_)
    have hP := gw_ro hP hk1
    generalize H1 = H at hP hS ⊢
    subst hw
    exact W.iret (v := gS (fun j => if (Q 9) j = (nI k) then (if (Q 12) j = 0 then 1 else 0) else 0) nw 0 0) hx hb hr (fun t ht hW => ⟨⟨_, (), rfl, rfl, trivial⟩, hS.F ht⟩) hS.2.2 dX2_bedFact_93

theorem wc_X2_quarrierFact_X2 : ∀ w ∈ u_ws RX2 TX2 5, w ∈ wsX2_quarrierFact := by decide +kernel
theorem wd_X2_quarrierFact_1 : (.fieldLink RX2 31 "GritWheels$Quarry" "crew" "LGritWheels$Crew;" : Cond) ∈ wsX2_quarrierFact := by decide +kernel
theorem wc_X2_quarrierFact_X1 : ∀ w ∈ u_ws RX1 TX1 5, w ∈ wsX2_quarrierFact := by decide +kernel
theorem wd_X2_quarrierFact_3 : (.fieldLink RX2 104 "GritWheels$Crew" "skill" "[I" : Cond) ∈ wsX2_quarrierFact := by decide +kernel
theorem wd_X2_quarrierFact_4 : (.fieldLink RX2 86 "GritWheels$Crew" "place" "[I" : Cond) ∈ wsX2_quarrierFact := by decide +kernel
theorem wd_X2_quarrierFact_5 : (.fieldLink RX2 135 "GritWheels$Crew" "dust" "[I" : Cond) ∈ wsX2_quarrierFact := by decide +kernel
theorem wd_X2_quarrierFact_6 : (.fieldLink RX2 111 "GritWheels$Crew" "work" "[I" : Cond) ∈ wsX2_quarrierFact := by decide +kernel
set_option maxHeartbeats 4000000 in
set_option maxRecDepth 100000 in
theorem met_X2_quarrierFact (l : Launch) (D : va_G) (cI cZ cL : ClassId) (qu : Nat) (qf : Nat) (bd : Nat) (cr : Nat) (wh : Nat) (bd0 : Nat) (bd1 : Nat) (bd2 : Nat) (bd3 : Nat) (cr0 : Nat) (cr1 : Nat) (cr2 : Nat) (cr3 : Nat) (Q : Nat → Nat → Int32) (nb : Nat) (nq : Nat) (day : Nat) (k : Nat) (v : Nat) (hk : k < nq) (hv5 : v < 5) (hnq : nq ≤ 6) (hnb : nb ≤ 5) (hpl : gPl Q nb nq) : Met l yX2_quarrierFact wsX2_quarrierFact ({ frames := 2, cells := 0, slots := 0, locals := 45 }) (gPr [.ref qu, .int (nI k), .int (nI v)] D [(qu, .inr (2, [.ref qf, .ref bd, .ref cr, .ref wh, .int (nI day)])), (bd, .inr (0, [.ref bd0, .ref bd1, .ref bd2, .ref bd3, .int (nI nb)])), (bd0, .inl (cI, 5, .inl (Q 1))), (cr, .inr (1, [.ref cr0, .ref cr1, .ref cr2, .ref cr3, .int (nI nq)])), (cr0, .inl (cI, 6, .inl (Q 5))), (cr1, .inl (cI, 6, .inl (Q 6))), (cr2, .inl (cI, 6, .inl (Q 7))), (cr3, .inl (cI, 6, .inl (Q 8)))] (gT cI cZ cL)) (va_Qi (fun (r : Int32) (_ : Unit) => r = gQua Q v k) (fun _ _ => True) gN) 0 0 gN := by
  refine Met.ofW (cc := cX2_quarrierFact) (maxL := 3) (ret := (some .int)) (by decide +kernel) rfl ?_
  intro p e s m args below meth c s₁ B hml hv
  obtain ⟨rfl, hP, hK⟩ := hv
  have hx := B.exec
  have hb := B.bytes
  have hr := B.returns
  have hts := atoms_spec (ws := wsX2_quarrierFact) B.pre
  have hown : s.vm.findClass RX2 = some m.cls := findClass_of_methodNamed B.named
  have hlocks := B.notSynchronized
  have hS : va_S gN s.heap s.heap [] := va_S.rf
  have hP : va_P D vwCl [(qu, .inr (2, [.ref qf, .ref bd, .ref cr, .ref wh, .int (nI day)])), (bd, .inr (0, [.ref bd0, .ref bd1, .ref bd2, .ref bd3, .int (nI nb)])), (bd0, .inl (cI, 5, .inl (Q 1))), (cr, .inr (1, [.ref cr0, .ref cr1, .ref cr2, .ref cr3, .int (nI nq)])), (cr0, .inl (cI, 6, .inl (Q 5))), (cr1, .inl (cI, 6, .inl (Q 6))), (cr2, .inl (cI, 6, .inl (Q 7))), (cr3, .inl (cI, 6, .inl (Q 8)))] s.heap := hP
  have hl := lv_entry ([.ref qu, .int (nI k), .int (nI v)]) (n := 3) (Nat.le_of_ble_eq_true rfl)
  rw [lg_entry_eq]
  generalize (lg_sl ([.ref qu, .int (nI k), .int (nI v)]) ++ List.replicate (3 - (lg_sl ([.ref qu, .int (nI k), .int (nI v)])).length) Slot.unset).toArray = ls at hl ⊢
  have hl : lv_has ls 3 [(0, .ref qu), (1, .int (nI k)), (2, .int (nI v))] := hl
  refine lv_iload_n hx hb dX2_quarrierFact_0 rfl (lv_at hl 2 rfl) ?_
  rcases (show v = 0 ∨ v = 1 ∨ v = 2 ∨ v = 3 ∨ v = 4 by omega) with rfl | rfl | rfl | rfl | rfl
  · skip
    refine lv_tableIn (off := 31) (tgt := 32) hx hb dX2_quarrierFact_1 (by decide) (by decide) rfl (by decide) ?_
    refine lv_aload_n hx hb dX2_quarrierFact_32 rfl (lv_at hl 0 rfl) ?_
    refine va_get (D := D) (ci := 2) (v := .ref cr) (C := RX2) (T := TX2) (N := 5) hx hb hts wc_X2_quarrierFact_X2 hown hK hP 0 rfl rfl 2 (by decide) (hts _ wd_X2_quarrierFact_1) (fun _ h9 => h9) rfl dX2_quarrierFact_33 ?_
    refine va_get (D := D) (ci := 1) (v := .ref cr0) (C := RX1) (T := TX1) (N := 5) hx hb hts wc_X2_quarrierFact_X1 hown hK hP 3 rfl rfl 0 (by decide) (hts _ wd_X2_quarrierFact_3) (fun _ h9 => h9) rfl dX2_quarrierFact_36 ?_
    refine lv_iload_n hx hb dX2_quarrierFact_39 rfl (lv_at hl 1 rfl) ?_
    refine gw_iald hx hb hK hP 4 0 (k := k) rfl rfl (by omega) (by decide) dX2_quarrierFact_40 ?_
    exact W.iret (v := Q 5 k) hx hb hr (fun t ht hW => ⟨⟨_, (), rfl, rfl, trivial⟩, hS.F ht⟩) hS.2.2 dX2_quarrierFact_41
  · skip
    refine lv_tableIn (off := 41) (tgt := 42) hx hb dX2_quarrierFact_1 (by decide) (by decide) rfl (by decide) ?_
    refine lv_aload_n hx hb dX2_quarrierFact_42 rfl (lv_at hl 0 rfl) ?_
    refine va_get (D := D) (ci := 2) (v := .ref cr) (C := RX2) (T := TX2) (N := 5) hx hb hts wc_X2_quarrierFact_X2 hown hK hP 0 rfl rfl 2 (by decide) (hts _ wd_X2_quarrierFact_1) (fun _ h9 => h9) rfl dX2_quarrierFact_43 ?_
    refine va_get (D := D) (ci := 1) (v := .ref cr1) (C := RX1) (T := TX1) (N := 5) hx hb hts wc_X2_quarrierFact_X1 hown hK hP 3 rfl rfl 1 (by decide) (hts _ wd_X2_quarrierFact_4) (fun _ h9 => h9) rfl dX2_quarrierFact_46 ?_
    refine lv_iload_n hx hb dX2_quarrierFact_49 rfl (lv_at hl 1 rfl) ?_
    refine gw_iald hx hb hK hP 5 0 (k := k) rfl rfl (by omega) (by decide) dX2_quarrierFact_50 ?_
    exact W.iret (v := Q 6 k) hx hb hr (fun t ht hW => ⟨⟨_, (), rfl, rfl, trivial⟩, hS.F ht⟩) hS.2.2 dX2_quarrierFact_51
  · skip
    refine lv_tableIn (off := 51) (tgt := 52) hx hb dX2_quarrierFact_1 (by decide) (by decide) rfl (by decide) ?_
    refine lv_aload_n hx hb dX2_quarrierFact_52 rfl (lv_at hl 0 rfl) ?_
    refine va_get (D := D) (ci := 2) (v := .ref cr) (C := RX2) (T := TX2) (N := 5) hx hb hts wc_X2_quarrierFact_X2 hown hK hP 0 rfl rfl 2 (by decide) (hts _ wd_X2_quarrierFact_1) (fun _ h9 => h9) rfl dX2_quarrierFact_53 ?_
    refine va_get (D := D) (ci := 1) (v := .ref cr2) (C := RX1) (T := TX1) (N := 5) hx hb hts wc_X2_quarrierFact_X1 hown hK hP 3 rfl rfl 2 (by decide) (hts _ wd_X2_quarrierFact_5) (fun _ h9 => h9) rfl dX2_quarrierFact_56 ?_
    refine lv_iload_n hx hb dX2_quarrierFact_59 rfl (lv_at hl 1 rfl) ?_
    refine gw_iald hx hb hK hP 6 0 (k := k) rfl rfl (by omega) (by decide) dX2_quarrierFact_60 ?_
    exact W.iret (v := Q 7 k) hx hb hr (fun t ht hW => ⟨⟨_, (), rfl, rfl, trivial⟩, hS.F ht⟩) hS.2.2 dX2_quarrierFact_61
  · skip
    refine lv_tableIn (off := 61) (tgt := 62) hx hb dX2_quarrierFact_1 (by decide) (by decide) rfl (by decide) ?_
    refine lv_aload_n hx hb dX2_quarrierFact_62 rfl (lv_at hl 0 rfl) ?_
    refine va_get (D := D) (ci := 2) (v := .ref cr) (C := RX2) (T := TX2) (N := 5) hx hb hts wc_X2_quarrierFact_X2 hown hK hP 0 rfl rfl 2 (by decide) (hts _ wd_X2_quarrierFact_1) (fun _ h9 => h9) rfl dX2_quarrierFact_63 ?_
    refine va_get (D := D) (ci := 1) (v := .ref cr3) (C := RX1) (T := TX1) (N := 5) hx hb hts wc_X2_quarrierFact_X1 hown hK hP 3 rfl rfl 3 (by decide) (hts _ wd_X2_quarrierFact_6) (fun _ h9 => h9) rfl dX2_quarrierFact_66 ?_
    refine lv_iload_n hx hb dX2_quarrierFact_69 rfl (lv_at hl 1 rfl) ?_
    refine gw_iald hx hb hK hP 7 0 (k := k) rfl rfl (by omega) (by decide) dX2_quarrierFact_70 ?_
    exact W.iret (v := Q 8 k) hx hb hr (fun t ht hW => ⟨⟨_, (), rfl, rfl, trivial⟩, hS.F ht⟩) hS.2.2 dX2_quarrierFact_71
  · skip
    refine lv_tableOut (tgt := 72) hx hb dX2_quarrierFact_1 (by decide) (by decide) ?_
    refine lv_aload_n hx hb dX2_quarrierFact_72 rfl (lv_at hl 0 rfl) ?_
    refine lv_iload_n hx hb dX2_quarrierFact_73 rfl (lv_at hl 1 rfl) ?_
    refine va_calli (va_runV (As := [.int (nI k)]) (rest := []) ⟨hx, hb, hml, hown, hts⟩ (met_X2_daysUntilTired l D cI cZ cL qu qf bd cr wh bd0 bd1 bd2 bd3 cr0 cr1 cr2 cr3 Q nb nq day k (by first | assumption | omega) (by first | assumption | omega) (by first | assumption | omega) (by first | assumption | omega)) (cwV 1 hts gX2_quarrierFact_X2_daysUntilTired rfl rfl rfl (by decide +kernel) ⟨Nat.le_of_ble_eq_true rfl, Nat.le_of_ble_eq_true rfl⟩) (gw_pvr hK hP (wc := [(qu, .inr (2, [.ref qf, .ref bd, .ref cr, .ref wh, .int (nI day)])), (bd, .inr (0, [.ref bd0, .ref bd1, .ref bd2, .ref bd3, .int (nI nb)])), (bd0, .inl (cI, 5, .inl (Q 1))), (cr, .inr (1, [.ref cr0, .ref cr1, .ref cr2, .ref cr3, .int (nI nq)])), (cr1, .inl (cI, 6, .inl (Q 6))), (cr2, .inl (cI, 6, .inl (Q 7)))]) [0, 1, 2, 3, 5, 6] rfl 2 rfl rfl rfl) rfl rfl hl.1 rfl (lv_room (Nat.le_of_ble_eq_true rfl)) dX2_quarrierFact_74 ⟨Nat.zero_le _, Nat.zero_le _⟩) hS (fun _ _ z => z.elim) (fun _ z => z.elim) (fun r_2 _ t H1 locs ht hvm hw hB hz1 hk1 hS => ?_)
    have hP := gw_ro hP hk1
    generalize H1 = H at hP hS ⊢
    subst hw
    exact W.iret (v := gTired (Q 6 k) (Q 7 k) (Q 1 (Q 6 k).toNatClampNeg)) hx hb hr (fun t ht hW => ⟨⟨_, (), rfl, rfl, trivial⟩, hS.F ht⟩) hS.2.2 dX2_quarrierFact_77

theorem wc_X2_countOf_X2 : ∀ w ∈ u_ws RX2 TX2 5, w ∈ wsX2_countOf := by decide +kernel
theorem wd_X2_countOf_1 : (.fieldLink RX2 42 "GritWheels$Quarry" "day" "I" : Cond) ∈ wsX2_countOf := by decide +kernel
theorem wd_X2_countOf_2 : (.fieldLink RX2 38 "GritWheels$Quarry" "wheels" "LGritWheels$Wheels;" : Cond) ∈ wsX2_countOf := by decide +kernel
theorem wc_X2_countOf_X4 : ∀ w ∈ u_ws RX4 TX4 7, w ∈ wsX2_countOf := by decide +kernel
theorem wd_X2_countOf_4 : (.fieldLink RX2 110 "GritWheels$Wheels" "number" "I" : Cond) ∈ wsX2_countOf := by decide +kernel
theorem wd_X2_countOf_5 : (.fieldLink RX2 31 "GritWheels$Quarry" "crew" "LGritWheels$Crew;" : Cond) ∈ wsX2_countOf := by decide +kernel
set_option maxHeartbeats 4000000 in
set_option maxRecDepth 100000 in
theorem met_X2_countOf (l : Launch) (D : va_G) (cI cZ cL : ClassId) (qu : Nat) (qf : Nat) (bd : Nat) (cr : Nat) (wh : Nat) (cr0 : Nat) (cr1 : Nat) (cr2 : Nat) (cr3 : Nat) (wh0 : Nat) (wh1 : Nat) (wh2 : Nat) (wh3 : Nat) (wh4 : Nat) (wh5 : Nat) (Q : Nat → Nat → Int32) (nq : Nat) (nw : Nat) (day : Nat) (v : Nat) (hv9 : v < 10) (hnq : nq ≤ 6) (hnw : nw ≤ 60) (hd : day < 2 ^ 31) : Met l yX2_countOf wsX2_countOf ({ frames := 3, cells := 0, slots := 0, locals := 62 }) (gPr [.ref qu, .int (nI v)] D [(qu, .inr (2, [.ref qf, .ref bd, .ref cr, .ref wh, .int (nI day)])), (qf, .inl (cI, 9, .inl (Q 0))), (cr, .inr (1, [.ref cr0, .ref cr1, .ref cr2, .ref cr3, .int (nI nq)])), (cr2, .inl (cI, 6, .inl (Q 7))), (wh, .inr (4, [.ref wh0, .ref wh1, .ref wh2, .ref wh3, .ref wh4, .ref wh5, .int (nI nw)])), (wh4, .inl (cI, 60, .inl (Q 13)))] (gT cI cZ cL)) (va_Qi (fun (r : Int32) (_ : Unit) => r = gCnt Q nq nw day v) (fun _ _ => True) gN) 0 0 gN := by
  refine Met.ofW (cc := cX2_countOf) (maxL := 2) (ret := (some .int)) (by decide +kernel) rfl ?_
  intro p e s m args below meth c s₁ B hml hv
  obtain ⟨rfl, hP, hK⟩ := hv
  have hx := B.exec
  have hb := B.bytes
  have hr := B.returns
  have hts := atoms_spec (ws := wsX2_countOf) B.pre
  have hown : s.vm.findClass RX2 = some m.cls := findClass_of_methodNamed B.named
  have hlocks := B.notSynchronized
  have hS : va_S gN s.heap s.heap [] := va_S.rf
  have hP : va_P D vwCl [(qu, .inr (2, [.ref qf, .ref bd, .ref cr, .ref wh, .int (nI day)])), (qf, .inl (cI, 9, .inl (Q 0))), (cr, .inr (1, [.ref cr0, .ref cr1, .ref cr2, .ref cr3, .int (nI nq)])), (cr2, .inl (cI, 6, .inl (Q 7))), (wh, .inr (4, [.ref wh0, .ref wh1, .ref wh2, .ref wh3, .ref wh4, .ref wh5, .int (nI nw)])), (wh4, .inl (cI, 60, .inl (Q 13)))] s.heap := hP
  have hl := lv_entry ([.ref qu, .int (nI v)]) (n := 2) (Nat.le_of_ble_eq_true rfl)
  rw [lg_entry_eq]
  generalize (lg_sl ([.ref qu, .int (nI v)]) ++ List.replicate (2 - (lg_sl ([.ref qu, .int (nI v)])).length) Slot.unset).toArray = ls at hl ⊢
  have hl : lv_has ls 2 [(0, .ref qu), (1, .int (nI v))] := hl
  refine lv_iload_n hx hb dX2_countOf_0 rfl (lv_at hl 1 rfl) ?_
  rcases (show v = 0 ∨ v = 1 ∨ v = 2 ∨ v = 3 ∨ v = 4 ∨ v = 5 ∨ v = 6 ∨ v = 7 ∨ v = 8 ∨ v = 9 by omega) with rfl | rfl | rfl | rfl | rfl | rfl | rfl | rfl | rfl | rfl
  · skip
    refine lv_tableIn (off := 47) (tgt := 48) hx hb dX2_countOf_1 (by decide) (by decide) rfl (by decide) ?_
    refine lv_aload_n hx hb dX2_countOf_48 rfl (lv_at hl 0 rfl) ?_
    refine va_get (D := D) (ci := 2) (v := .int (nI day)) (C := RX2) (T := TX2) (N := 5) hx hb hts wc_X2_countOf_X2 hown hK hP 0 rfl rfl 4 (by decide) (hts _ wd_X2_countOf_1) (fun _ h9 => h9) rfl dX2_countOf_49 ?_
    exact W.iret (v := nI day) hx hb hr (fun t ht hW => ⟨⟨_, (), rfl, rfl, trivial⟩, hS.F ht⟩) hS.2.2 dX2_countOf_52
  · skip
    refine lv_tableIn (off := 52) (tgt := 53) hx hb dX2_countOf_1 (by decide) (by decide) rfl (by decide) ?_
    refine lv_aload_n hx hb dX2_countOf_53 rfl (lv_at hl 0 rfl) ?_
    refine va_calli (va_runV (As := []) (rest := []) ⟨hx, hb, hml, hown, hts⟩ (met_X2_water l D cI cZ cL qu qf bd cr wh Q day (by first | assumption | omega)) (cwV 0 hts gX2_countOf_X2_water rfl rfl rfl (by decide +kernel) ⟨Nat.le_of_ble_eq_true rfl, Nat.le_of_ble_eq_true rfl⟩) (gw_pvr hK hP (wc := [(qu, .inr (2, [.ref qf, .ref bd, .ref cr, .ref wh, .int (nI day)])), (qf, .inl (cI, 9, .inl (Q 0)))]) [0, 1] rfl 2 rfl rfl rfl) rfl rfl hl.1 rfl (lv_room (Nat.le_of_ble_eq_true rfl)) dX2_countOf_54 ⟨Nat.zero_le _, Nat.zero_le _⟩) hS (fun _ _ z => z.elim) (fun _ z => z.elim) (fun r_2 _ t H1 locs ht hvm hw hB hz1 hk1 hS => ?_)
    have hP := gw_ro hP hk1
    generalize H1 = H at hP hS ⊢
    subst hw
    exact W.iret (v := Q 0 (day % 9)) hx hb hr (fun t ht hW => ⟨⟨_, (), rfl, rfl, trivial⟩, hS.F ht⟩) hS.2.2 dX2_countOf_57
  · skip
    refine lv_tableIn (off := 57) (tgt := 58) hx hb dX2_countOf_1 (by decide) (by decide) rfl (by decide) ?_
    refine lv_aload_n hx hb dX2_countOf_58 rfl (lv_at hl 0 rfl) ?_
    refine va_calli (va_runV (As := []) (rest := []) ⟨hx, hb, hml, hown, hts⟩ (met_X2_millRuns l D cI cZ cL qu qf bd cr wh Q day (by first | assumption | omega)) (cwV 0 hts gX2_countOf_X2_millRuns rfl rfl rfl (by decide +kernel) ⟨Nat.le_of_ble_eq_true rfl, Nat.le_of_ble_eq_true rfl⟩) (gw_pvr hK hP (wc := [(qu, .inr (2, [.ref qf, .ref bd, .ref cr, .ref wh, .int (nI day)])), (qf, .inl (cI, 9, .inl (Q 0)))]) [0, 1] rfl 2 rfl rfl rfl) rfl rfl hl.1 rfl (lv_room (Nat.le_of_ble_eq_true rfl)) dX2_countOf_59 ⟨Nat.zero_le _, Nat.zero_le _⟩) hS (fun _ _ z => z.elim) (fun _ z => z.elim) (fun r_4 _ t H1 locs ht hvm hw hB hz1 hk1 hS => ?_)
    have hP := gw_ro hP hk1
    generalize H1 = H at hP hS ⊢
    rcases hw with ⟨rfl, hc⟩ | ⟨rfl, hc⟩
    · skip
      refine lv_if_eq (tgt := 69) hx hb dX2_countOf_62 (by decide) (fun c_6 => False.elim (by revert c_6; decide)) (fun _ => ?_)
      refine lv_iconst (v := 1) hx hb dX2_countOf_65 (by decide) ?_
      refine lv_goto (tgt := 70) hx hb dX2_countOf_66 (by decide) ?_
      exact W.iret (v := 1) hx hb hr (fun t ht hW => ⟨⟨_, (), rfl, (by simp [gCnt, hc]), trivial⟩, hS.F ht⟩) hS.2.2 dX2_countOf_70
    · skip
      refine lv_if_eq (tgt := 69) hx hb dX2_countOf_62 (by decide) (fun _ => ?_) (fun c_7 => False.elim (by revert c_7; decide))
      refine lv_iconst (v := 0) hx hb dX2_countOf_69 (by decide) ?_
      exact W.iret (v := 0) hx hb hr (fun t ht hW => ⟨⟨_, (), rfl, (by simp [gCnt, hc]), trivial⟩, hS.F ht⟩) hS.2.2 dX2_countOf_70
  · skip
    refine lv_tableIn (off := 70) (tgt := 71) hx hb dX2_countOf_1 (by decide) (by decide) rfl (by decide) ?_
    refine lv_aload_n hx hb dX2_countOf_71 rfl (lv_at hl 0 rfl) ?_
    refine va_get (D := D) (ci := 2) (v := .ref wh) (C := RX2) (T := TX2) (N := 5) hx hb hts wc_X2_countOf_X2 hown hK hP 0 rfl rfl 3 (by decide) (hts _ wd_X2_countOf_2) (fun _ h9 => h9) rfl dX2_countOf_72 ?_
    refine va_get (D := D) (ci := 4) (v := .int (nI nw)) (C := RX4) (T := TX4) (N := 7) hx hb hts wc_X2_countOf_X4 hown hK hP 4 rfl rfl 6 (by decide) (hts _ wd_X2_countOf_4) (fun _ h9 => h9) rfl dX2_countOf_75 ?_
    exact W.iret (v := nI nw) hx hb hr (fun t ht hW => ⟨⟨_, (), rfl, rfl, trivial⟩, hS.F ht⟩) hS.2.2 dX2_countOf_78
  · skip
    refine lv_tableIn (off := 78) (tgt := 79) hx hb dX2_countOf_1 (by decide) (by decide) rfl (by decide) ?_
    refine lv_aload_n hx hb dX2_countOf_79 rfl (lv_at hl 0 rfl) ?_
    refine va_get (D := D) (ci := 2) (v := .ref wh) (C := RX2) (T := TX2) (N := 5) hx hb hts wc_X2_countOf_X2 hown hK hP 0 rfl rfl 3 (by decide) (hts _ wd_X2_countOf_2) (fun _ h9 => h9) rfl dX2_countOf_80 ?_
    refine lv_iconst (v := 0) hx hb dX2_countOf_83 (by decide) ?_
    refine va_calli (va_runV (As := [.int 0]) (rest := []) ⟨hx, hb, hml, hown, hts⟩ (met_X4_numberThatAre l D cI cZ cL wh wh0 wh1 wh2 wh3 wh4 wh5 nw (Q 13) 0 (by first | assumption | omega)) (cwV 1 hts gX2_countOf_X4_numberThatAre rfl rfl rfl (by decide +kernel) ⟨Nat.le_of_ble_eq_true rfl, Nat.le_of_ble_eq_true rfl⟩) (gw_pvr hK hP (wc := [(wh, .inr (4, [.ref wh0, .ref wh1, .ref wh2, .ref wh3, .ref wh4, .ref wh5, .int (nI nw)])), (wh4, .inl (cI, 60, .inl (Q 13)))]) [4, 5] rfl 4 rfl rfl rfl) rfl rfl hl.1 rfl (lv_room (Nat.le_of_ble_eq_true rfl)) dX2_countOf_84 ⟨Nat.zero_le _, Nat.zero_le _⟩) hS (fun _ _ z => z.elim) (fun _ z => z.elim) (fun r_9 _ t H1 locs ht hvm hw hB hz1 hk1 hS => ?_)
    have hP := gw_ro hP hk1
    generalize H1 = H at hP hS ⊢
    subst hw
    exact W.iret (v := gS (fun j => if (Q 13) j = 0 then 1 else 0) nw 0 0) hx hb hr (fun t ht hW => ⟨⟨_, (), rfl, rfl, trivial⟩, hS.F ht⟩) hS.2.2 dX2_countOf_87
  · skip
    refine lv_tableIn (off := 87) (tgt := 88) hx hb dX2_countOf_1 (by decide) (by decide) rfl (by decide) ?_
    refine lv_aload_n hx hb dX2_countOf_88 rfl (lv_at hl 0 rfl) ?_
    refine va_get (D := D) (ci := 2) (v := .ref wh) (C := RX2) (T := TX2) (N := 5) hx hb hts wc_X2_countOf_X2 hown hK hP 0 rfl rfl 3 (by decide) (hts _ wd_X2_countOf_2) (fun _ h9 => h9) rfl dX2_countOf_89 ?_
    refine lv_iconst (v := 1) hx hb dX2_countOf_92 (by decide) ?_
    refine va_calli (va_runV (As := [.int 1]) (rest := []) ⟨hx, hb, hml, hown, hts⟩ (met_X4_numberThatAre l D cI cZ cL wh wh0 wh1 wh2 wh3 wh4 wh5 nw (Q 13) 1 (by first | assumption | omega)) (cwV 1 hts gX2_countOf_X4_numberThatAre rfl rfl rfl (by decide +kernel) ⟨Nat.le_of_ble_eq_true rfl, Nat.le_of_ble_eq_true rfl⟩) (gw_pvr hK hP (wc := [(wh, .inr (4, [.ref wh0, .ref wh1, .ref wh2, .ref wh3, .ref wh4, .ref wh5, .int (nI nw)])), (wh4, .inl (cI, 60, .inl (Q 13)))]) [4, 5] rfl 4 rfl rfl rfl) rfl rfl hl.1 rfl (lv_room (Nat.le_of_ble_eq_true rfl)) dX2_countOf_93 ⟨Nat.zero_le _, Nat.zero_le _⟩) hS (fun _ _ z => z.elim) (fun _ z => z.elim) (fun r_11 _ t H1 locs ht hvm hw hB hz1 hk1 hS => ?_)
    have hP := gw_ro hP hk1
    generalize H1 = H at hP hS ⊢
    subst hw
    exact W.iret (v := gS (fun j => if (Q 13) j = 1 then 1 else 0) nw 0 0) hx hb hr (fun t ht hW => ⟨⟨_, (), rfl, rfl, trivial⟩, hS.F ht⟩) hS.2.2 dX2_countOf_96
  · skip
    refine lv_tableIn (off := 96) (tgt := 97) hx hb dX2_countOf_1 (by decide) (by decide) rfl (by decide) ?_
    refine lv_aload_n hx hb dX2_countOf_97 rfl (lv_at hl 0 rfl) ?_
    refine va_get (D := D) (ci := 2) (v := .ref wh) (C := RX2) (T := TX2) (N := 5) hx hb hts wc_X2_countOf_X2 hown hK hP 0 rfl rfl 3 (by decide) (hts _ wd_X2_countOf_2) (fun _ h9 => h9) rfl dX2_countOf_98 ?_
    refine lv_iconst (v := 2) hx hb dX2_countOf_101 (by decide) ?_
    refine va_calli (va_runV (As := [.int 2]) (rest := []) ⟨hx, hb, hml, hown, hts⟩ (met_X4_numberThatAre l D cI cZ cL wh wh0 wh1 wh2 wh3 wh4 wh5 nw (Q 13) 2 (by first | assumption | omega)) (cwV 1 hts gX2_countOf_X4_numberThatAre rfl rfl rfl (by decide +kernel) ⟨Nat.le_of_ble_eq_true rfl, Nat.le_of_ble_eq_true rfl⟩) (gw_pvr hK hP (wc := [(wh, .inr (4, [.ref wh0, .ref wh1, .ref wh2, .ref wh3, .ref wh4, .ref wh5, .int (nI nw)])), (wh4, .inl (cI, 60, .inl (Q 13)))]) [4, 5] rfl 4 rfl rfl rfl) rfl rfl hl.1 rfl (lv_room (Nat.le_of_ble_eq_true rfl)) dX2_countOf_102 ⟨Nat.zero_le _, Nat.zero_le _⟩) hS (fun _ _ z => z.elim) (fun _ z => z.elim) (fun r_13 _ t H1 locs ht hvm hw hB hz1 hk1 hS => ?_)
    have hP := gw_ro hP hk1
    generalize H1 = H at hP hS ⊢
    subst hw
    exact W.iret (v := gS (fun j => if (Q 13) j = 2 then 1 else 0) nw 0 0) hx hb hr (fun t ht hW => ⟨⟨_, (), rfl, rfl, trivial⟩, hS.F ht⟩) hS.2.2 dX2_countOf_105
  · skip
    refine lv_tableIn (off := 105) (tgt := 106) hx hb dX2_countOf_1 (by decide) (by decide) rfl (by decide) ?_
    refine lv_aload_n hx hb dX2_countOf_106 rfl (lv_at hl 0 rfl) ?_
    refine va_get (D := D) (ci := 2) (v := .ref wh) (C := RX2) (T := TX2) (N := 5) hx hb hts wc_X2_countOf_X2 hown hK hP 0 rfl rfl 3 (by decide) (hts _ wd_X2_countOf_2) (fun _ h9 => h9) rfl dX2_countOf_107 ?_
    refine lv_iconst (v := 3) hx hb dX2_countOf_110 (by decide) ?_
    refine va_calli (va_runV (As := [.int 3]) (rest := []) ⟨hx, hb, hml, hown, hts⟩ (met_X4_numberThatAre l D cI cZ cL wh wh0 wh1 wh2 wh3 wh4 wh5 nw (Q 13) 3 (by first | assumption | omega)) (cwV 1 hts gX2_countOf_X4_numberThatAre rfl rfl rfl (by decide +kernel) ⟨Nat.le_of_ble_eq_true rfl, Nat.le_of_ble_eq_true rfl⟩) (gw_pvr hK hP (wc := [(wh, .inr (4, [.ref wh0, .ref wh1, .ref wh2, .ref wh3, .ref wh4, .ref wh5, .int (nI nw)])), (wh4, .inl (cI, 60, .inl (Q 13)))]) [4, 5] rfl 4 rfl rfl rfl) rfl rfl hl.1 rfl (lv_room (Nat.le_of_ble_eq_true rfl)) dX2_countOf_111 ⟨Nat.zero_le _, Nat.zero_le _⟩) hS (fun _ _ z => z.elim) (fun _ z => z.elim) (fun r_15 _ t H1 locs ht hvm hw hB hz1 hk1 hS => ?_)
    have hP := gw_ro hP hk1
    generalize H1 = H at hP hS ⊢
    subst hw
    exact W.iret (v := gS (fun j => if (Q 13) j = 3 then 1 else 0) nw 0 0) hx hb hr (fun t ht hW => ⟨⟨_, (), rfl, rfl, trivial⟩, hS.F ht⟩) hS.2.2 dX2_countOf_114
  · skip
    refine lv_tableOut (tgt := 115) hx hb dX2_countOf_1 (by decide) (by decide) ?_
    refine lv_aload_n hx hb dX2_countOf_115 rfl (lv_at hl 0 rfl) ?_
    refine va_get (D := D) (ci := 2) (v := .ref cr) (C := RX2) (T := TX2) (N := 5) hx hb hts wc_X2_countOf_X2 hown hK hP 0 rfl rfl 2 (by decide) (hts _ wd_X2_countOf_5) (fun _ h9 => h9) rfl dX2_countOf_116 ?_
    refine va_calli (va_runV (As := []) (rest := []) ⟨hx, hb, hml, hown, hts⟩ (met_X1_dustInAll l D cI cZ cL cr cr0 cr1 cr2 cr3 nq (Q 7) (by first | assumption | omega)) (cwV 0 hts gX2_countOf_X1_dustInAll rfl rfl rfl (by decide +kernel) ⟨Nat.le_of_ble_eq_true rfl, Nat.le_of_ble_eq_true rfl⟩) (gw_pvr hK hP (wc := [(cr, .inr (1, [.ref cr0, .ref cr1, .ref cr2, .ref cr3, .int (nI nq)])), (cr2, .inl (cI, 6, .inl (Q 7)))]) [2, 3] rfl 1 rfl rfl rfl) rfl rfl hl.1 rfl (lv_room (Nat.le_of_ble_eq_true rfl)) dX2_countOf_119 ⟨Nat.zero_le _, Nat.zero_le _⟩) hS (fun _ _ z => z.elim) (fun _ z => z.elim) (fun r_17 _ t H1 locs ht hvm hw hB hz1 hk1 hS => ?_)
    have hP := gw_ro hP hk1
    generalize H1 = H at hP hS ⊢
    subst hw
    exact W.iret (v := gS (Q 7) nq 0 0) hx hb hr (fun t ht hW => ⟨⟨_, (), rfl, rfl, trivial⟩, hS.F ht⟩) hS.2.2 dX2_countOf_122
  · skip
    refine lv_tableOut (tgt := 115) hx hb dX2_countOf_1 (by decide) (by decide) ?_
    refine lv_aload_n hx hb dX2_countOf_115 rfl (lv_at hl 0 rfl) ?_
    refine va_get (D := D) (ci := 2) (v := .ref cr) (C := RX2) (T := TX2) (N := 5) hx hb hts wc_X2_countOf_X2 hown hK hP 0 rfl rfl 2 (by decide) (hts _ wd_X2_countOf_5) (fun _ h9 => h9) rfl dX2_countOf_116 ?_
    refine va_calli (va_runV (As := []) (rest := []) ⟨hx, hb, hml, hown, hts⟩ (met_X1_dustInAll l D cI cZ cL cr cr0 cr1 cr2 cr3 nq (Q 7) (by first | assumption | omega)) (cwV 0 hts gX2_countOf_X1_dustInAll rfl rfl rfl (by decide +kernel) ⟨Nat.le_of_ble_eq_true rfl, Nat.le_of_ble_eq_true rfl⟩) (gw_pvr hK hP (wc := [(cr, .inr (1, [.ref cr0, .ref cr1, .ref cr2, .ref cr3, .int (nI nq)])), (cr2, .inl (cI, 6, .inl (Q 7)))]) [2, 3] rfl 1 rfl rfl rfl) rfl rfl hl.1 rfl (lv_room (Nat.le_of_ble_eq_true rfl)) dX2_countOf_119 ⟨Nat.zero_le _, Nat.zero_le _⟩) hS (fun _ _ z => z.elim) (fun _ z => z.elim) (fun r_19 _ t H1 locs ht hvm hw hB hz1 hk1 hS => ?_)
    have hP := gw_ro hP hk1
    generalize H1 = H at hP hS ⊢
    subst hw
    exact W.iret (v := gS (Q 7) nq 0 0) hx hb hr (fun t ht hW => ⟨⟨_, (), rfl, rfl, trivial⟩, hS.F ht⟩) hS.2.2 dX2_countOf_122
