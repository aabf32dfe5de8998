theorem wc_X2_cutWheel_X2 : ∀ w ∈ u_ws RX2 TX2 5, w ∈ wsX2_cutWheel := by decide +kernel
theorem wd_X2_cutWheel_1 : (.fieldLink RX2 24 "GritWheels$Quarry" "beds" "LGritWheels$Beds;" : Cond) ∈ wsX2_cutWheel := by decide +kernel
theorem wc_X2_cutWheel_X0 : ∀ w ∈ u_ws RX0 TX0 5, w ∈ wsX2_cutWheel := by decide +kernel
theorem wd_X2_cutWheel_3 : (.fieldLink RX2 119 "GritWheels$Beds" "cut" "[I" : Cond) ∈ wsX2_cutWheel := by decide +kernel
theorem wd_X2_cutWheel_4 : (.fieldLink RX2 122 "GritWheels$Beds" "flaw" "[I" : Cond) ∈ wsX2_cutWheel := by decide +kernel
theorem wd_X2_cutWheel_5 : (.fieldLink RX2 38 "GritWheels$Quarry" "wheels" "LGritWheels$Wheels;" : Cond) ∈ wsX2_cutWheel := by decide +kernel
theorem wd_X2_cutWheel_6 : (.fieldLink RX2 125 "GritWheels$Beds" "grit" "[I" : Cond) ∈ wsX2_cutWheel := by decide +kernel
theorem wd_X2_cutWheel_7 : (.fieldLink RX2 113 "GritWheels$Beds" "stone" "[I" : Cond) ∈ wsX2_cutWheel := by decide +kernel
theorem wd_X2_cutWheel_8 : (.methodLink RX2 132 Lib.Math.max.name : Cond) ∈ wsX2_cutWheel := by decide +kernel
theorem wd_X2_cutWheel_9 : (.static Lib.Math.max.name : Cond) ∈ wsX2_cutWheel := by decide +kernel
theorem wd_X2_cutWheel_10 : (.initialized "java/lang/Math" : Cond) ∈ wsX2_cutWheel := by decide +kernel
theorem wd_X2_cutWheel_11 : (.code Lib.Math.max.name Lib.Math.max.code 2 (some .int) : Cond) ∈ wsX2_cutWheel := by decide +kernel
set_option maxHeartbeats 4000000 in
set_option maxRecDepth 100000 in
theorem met_X2_cutWheel (l : Launch) (D : va_G) (cI cZ cL : ClassId) (qu : Nat) (qf : Nat) (bd : Nat) (cr : Nat) (wh : Nat) (bd0 : Nat) (bd1 : Nat) (bd2 : Nat) (bd3 : Nat) (wh0 : Nat) (wh1 : Nat) (wh2 : Nat) (wh3 : Nat) (wh4 : Nat) (wh5 : Nat) (Q : Nat → Nat → Int32) (nw : Nat) (nb : Nat) (day : Nat) (k : Nat) (y : Int32) (hk : k < 5) (hnw : nw < 60) : Met l yX2_cutWheel wsX2_cutWheel ({ frames := 1, cells := 0, slots := 0, locals := 24 }) (gPw [.ref qu, .int (nI k), .int y] D [(qu, .inr (2, [.ref qf, .ref bd, .ref cr, .ref wh, .int (nI day)])), (bd, .inr (0, [.ref bd0, .ref bd1, .ref bd2, .ref bd3, .int (nI nb)])), (bd0, .inl (cI, 5, .inl (Q 1))), (bd1, .inl (cI, 5, .inl (Q 2))), (bd2, .inl (cI, 5, .inl (Q 3))), (bd3, .inl (cI, 5, .inl (Q 4))), (wh, .inr (4, [.ref wh0, .ref wh1, .ref wh2, .ref wh3, .ref wh4, .ref wh5, .int (nI nw)])), (wh0, .inl (cI, 60, .inl (Q 9))), (wh1, .inl (cI, 60, .inl (Q 10))), (wh2, .inl (cI, 60, .inl (Q 11))), (wh3, .inl (cZ, 60, .inl (Q 12))), (wh4, .inl (cI, 60, .inl (Q 13))), (wh5, .inl (cI, 60, .inl (Q 14)))] (gT cI cZ cL)) (va_Qv (fun (_ : Unit) => True) (fun _ t => va_P D vwCl [(qu, .inr (2, [.ref qf, .ref bd, .ref cr, .ref wh, .int (nI day)])), (bd, .inr (0, [.ref bd0, .ref bd1, .ref bd2, .ref bd3, .int (nI nb)])), (bd0, .inl (cI, 5, .inl (Q 1))), (bd1, .inl (cI, 5, .inl (Q 2))), (bd2, .inl (cI, 5, .inl (gCut Q nw k y 3))), (bd3, .inl (cI, 5, .inl (gCut Q nw k y 4))), (wh, .inr (4, [.ref wh0, .ref wh1, .ref wh2, .ref wh3, .ref wh4, .ref wh5, .int (nI (nw + 1))])), (wh0, .inl (cI, 60, .inl (gCut Q nw k y 9))), (wh1, .inl (cI, 60, .inl (gCut Q nw k y 10))), (wh2, .inl (cI, 60, .inl (gCut Q nw k y 11))), (wh3, .inl (cZ, 60, .inl (gCut Q nw k y 12))), (wh4, .inl (cI, 60, .inl (gCut Q nw k y 13))), (wh5, .inl (cI, 60, .inl (gCut Q nw k y 14)))] t.heap) (gA (gL [(qu, .inr (2, [.ref qf, .ref bd, .ref cr, .ref wh, .int (nI day)])), (bd, .inr (0, [.ref bd0, .ref bd1, .ref bd2, .ref bd3, .int (nI nb)])), (bd0, .inl (cI, 5, .inl (Q 1))), (bd1, .inl (cI, 5, .inl (Q 2))), (bd2, .inl (cI, 5, .inl (Q 3))), (bd3, .inl (cI, 5, .inl (Q 4))), (wh, .inr (4, [.ref wh0, .ref wh1, .ref wh2, .ref wh3, .ref wh4, .ref wh5, .int (nI nw)])), (wh0, .inl (cI, 60, .inl (Q 9))), (wh1, .inl (cI, 60, .inl (Q 10))), (wh2, .inl (cI, 60, .inl (Q 11))), (wh3, .inl (cZ, 60, .inl (Q 12))), (wh4, .inl (cI, 60, .inl (Q 13))), (wh5, .inl (cI, 60, .inl (Q 14)))]))) 0 0 (gA (gL [(qu, .inr (2, [.ref qf, .ref bd, .ref cr, .ref wh, .int (nI day)])), (bd, .inr (0, [.ref bd0, .ref bd1, .ref bd2, .ref bd3, .int (nI nb)])), (bd0, .inl (cI, 5, .inl (Q 1))), (bd1, .inl (cI, 5, .inl (Q 2))), (bd2, .inl (cI, 5, .inl (Q 3))), (bd3, .inl (cI, 5, .inl (Q 4))), (wh, .inr (4, [.ref wh0, .ref wh1, .ref wh2, .ref wh3, .ref wh4, .ref wh5, .int (nI nw)])), (wh0, .inl (cI, 60, .inl (Q 9))), (wh1, .inl (cI, 60, .inl (Q 10))), (wh2, .inl (cI, 60, .inl (Q 11))), (wh3, .inl (cZ, 60, .inl (Q 12))), (wh4, .inl (cI, 60, .inl (Q 13))), (wh5, .inl (cI, 60, .inl (Q 14)))])) := by
  refine Met.ofW (cc := cX2_cutWheel) (maxL := 4) (ret := none) (by decide +kernel) rfl ?_
  intro p e s m args below meth c s₁ B hml hv
  obtain ⟨rfl, hP, hK, hD0⟩ := hv
  have hx := B.exec
  have hb := B.bytes
  have hr := B.returns
  have hts := atoms_spec (ws := wsX2_cutWheel) B.pre
  have hown : s.vm.findClass RX2 = some m.cls := findClass_of_methodNamed B.named
  have hlocks := B.notSynchronized
  have hD := gw_self hD0
  generalize hAe : gA (gL [(qu, .inr (2, [.ref qf, .ref bd, .ref cr, .ref wh, .int (nI day)])), (bd, .inr (0, [.ref bd0, .ref bd1, .ref bd2, .ref bd3, .int (nI nb)])), (bd0, .inl (cI, 5, .inl (Q 1))), (bd1, .inl (cI, 5, .inl (Q 2))), (bd2, .inl (cI, 5, .inl (Q 3))), (bd3, .inl (cI, 5, .inl (Q 4))), (wh, .inr (4, [.ref wh0, .ref wh1, .ref wh2, .ref wh3, .ref wh4, .ref wh5, .int (nI nw)])), (wh0, .inl (cI, 60, .inl (Q 9))), (wh1, .inl (cI, 60, .inl (Q 10))), (wh2, .inl (cI, 60, .inl (Q 11))), (wh3, .inl (cZ, 60, .inl (Q 12))), (wh4, .inl (cI, 60, .inl (Q 13))), (wh5, .inl (cI, 60, .inl (Q 14)))]) = A at hD ⊢
  have hS : va_S A s.heap s.heap [] := va_S.rf
  have hP : va_P D vwCl [(qu, .inr (2, [.ref qf, .ref bd, .ref cr, .ref wh, .int (nI day)])), (bd, .inr (0, [.ref bd0, .ref bd1, .ref bd2, .ref bd3, .int (nI nb)])), (bd0, .inl (cI, 5, .inl (Q 1))), (bd1, .inl (cI, 5, .inl (Q 2))), (bd2, .inl (cI, 5, .inl (Q 3))), (bd3, .inl (cI, 5, .inl (Q 4))), (wh, .inr (4, [.ref wh0, .ref wh1, .ref wh2, .ref wh3, .ref wh4, .ref wh5, .int (nI nw)])), (wh0, .inl (cI, 60, .inl (Q 9))), (wh1, .inl (cI, 60, .inl (Q 10))), (wh2, .inl (cI, 60, .inl (Q 11))), (wh3, .inl (cZ, 60, .inl (Q 12))), (wh4, .inl (cI, 60, .inl (Q 13))), (wh5, .inl (cI, 60, .inl (Q 14)))] s.heap := hP
  have hl := lv_entry ([.ref qu, .int (nI k), .int y]) (n := 4) (Nat.le_of_ble_eq_true rfl)
  rw [lg_entry_eq]
  generalize (lg_sl ([.ref qu, .int (nI k), .int y]) ++ List.replicate (4 - (lg_sl ([.ref qu, .int (nI k), .int y])).length) Slot.unset).toArray = ls at hl ⊢
  have hl : lv_has ls 4 [(0, .ref qu), (1, .int (nI k)), (2, .int y)] := hl
  refine lv_bipush (v := 7) hx hb dX2_cutWheel_0 (by decide) ?_
  refine lv_aload_n hx hb dX2_cutWheel_2 rfl (lv_at hl 0 rfl) ?_
  refine va_get (D := D) (ci := 2) (v := .ref bd) (C := RX2) (T := TX2) (N := 5) hx hb hts wc_X2_cutWheel_X2 hown hK hP 0 rfl rfl 1 (by decide) (hts _ wd_X2_cutWheel_1) (fun _ h9 => h9) rfl dX2_cutWheel_3 ?_
  refine va_get (D := D) (ci := 0) (v := .ref bd3) (C := RX0) (T := TX0) (N := 5) hx hb hts wc_X2_cutWheel_X0 hown hK hP 1 rfl rfl 3 (by decide) (hts _ wd_X2_cutWheel_3) (fun _ h9 => h9) rfl dX2_cutWheel_6 ?_
  refine lv_iload_n hx hb dX2_cutWheel_9 rfl (lv_at hl 1 rfl) ?_
  refine gw_iald hx hb hK hP 5 0 (k := k) rfl rfl (by omega) (by decide) dX2_cutWheel_10 ?_
  refine lv_imul hx hb dX2_cutWheel_11 ?_
  refine lv_iconst (v := 3) hx hb dX2_cutWheel_12 (by decide) ?_
  refine lv_iload_n hx hb dX2_cutWheel_13 rfl (lv_at hl 2 rfl) ?_
  refine lv_imul hx hb dX2_cutWheel_14 ?_
  refine lv_iadd hx hb dX2_cutWheel_15 ?_
  refine lv_bipush (v := 10) hx hb dX2_cutWheel_16 (by decide) ?_
  refine lv_irem hx hb dX2_cutWheel_18 (by decide) ?_
  refine lv_aload_n hx hb dX2_cutWheel_19 rfl (lv_at hl 0 rfl) ?_
  refine va_get (D := D) (ci := 2) (v := .ref bd) (C := RX2) (T := TX2) (N := 5) hx hb hts wc_X2_cutWheel_X2 hown hK hP 0 rfl rfl 1 (by decide) (hts _ wd_X2_cutWheel_1) (fun _ h9 => h9) rfl dX2_cutWheel_20 ?_
  refine va_get (D := D) (ci := 0) (v := .ref bd1) (C := RX0) (T := TX0) (N := 5) hx hb hts wc_X2_cutWheel_X0 hown hK hP 1 rfl rfl 1 (by decide) (hts _ wd_X2_cutWheel_4) (fun _ h9 => h9) rfl dX2_cutWheel_23 ?_
  refine lv_iload_n hx hb dX2_cutWheel_26 rfl (lv_at hl 1 rfl) ?_
  refine gw_iald hx hb hK hP 3 0 (k := k) rfl rfl (by omega) (by decide) dX2_cutWheel_27 ?_
  refine lv_icmp_ge (tgt := 35) hx hb dX2_cutWheel_28 (by decide) (fun h1 => ?_) (fun h1 => ?_)
  · skip
    have hcr : gCr Q k y = 0 := by simp only [gCr]; exact if_neg (Int32.not_lt.mpr h1)
    have h12 : gCut Q nw k y 12 = upd (Q 12) nw 0 := by show upd (Q 12) nw (gCr Q k y) = _; rw [hcr]
    refine lv_iconst (v := 0) hx hb dX2_cutWheel_35 (by decide) ?_
    refine lv_istore_n (lv' := [(3, .int 0), (0, .ref qu), (1, .int (nI k)), (2, .int y)]) hx hb dX2_cutWheel_36 rfl hl (by decide) rfl (fun ls hl => ?_)
    refine lv_aload_n hx hb dX2_cutWheel_37 rfl (lv_at hl 1 rfl) ?_
    refine va_get (D := D) (ci := 2) (v := .ref wh) (C := RX2) (T := TX2) (N := 5) hx hb hts wc_X2_cutWheel_X2 hown hK hP 0 rfl rfl 3 (by decide) (hts _ wd_X2_cutWheel_5) (fun _ h9 => h9) rfl dX2_cutWheel_38 ?_
    refine lv_iload_n hx hb dX2_cutWheel_41 rfl (lv_at hl 2 rfl) ?_
    refine lv_aload_n hx hb dX2_cutWheel_42 rfl (lv_at hl 1 rfl) ?_
    refine va_get (D := D) (ci := 2) (v := .ref bd) (C := RX2) (T := TX2) (N := 5) hx hb hts wc_X2_cutWheel_X2 hown hK hP 0 rfl rfl 1 (by decide) (hts _ wd_X2_cutWheel_1) (fun _ h9 => h9) rfl dX2_cutWheel_43 ?_
    refine va_get (D := D) (ci := 0) (v := .ref bd0) (C := RX0) (T := TX0) (N := 5) hx hb hts wc_X2_cutWheel_X0 hown hK hP 1 rfl rfl 0 (by decide) (hts _ wd_X2_cutWheel_6) (fun _ h9 => h9) rfl dX2_cutWheel_46 ?_
    refine lv_iload_n hx hb dX2_cutWheel_49 rfl (lv_at hl 2 rfl) ?_
    refine gw_iald hx hb hK hP 2 0 (k := k) rfl rfl (by omega) (by decide) dX2_cutWheel_50 ?_
    refine lv_iload_n hx hb dX2_cutWheel_51 rfl (lv_at hl 3 rfl) ?_
    refine lv_iload_n hx hb dX2_cutWheel_52 rfl (lv_at hl 0 rfl) ?_
    have hFc := gw_free (wc := [(wh, .inr (4, [.ref wh0, .ref wh1, .ref wh2, .ref wh3, .ref wh4, .ref wh5, .int (nI nw)])), (wh0, .inl (cI, 60, .inl (Q 9))), (wh1, .inl (cI, 60, .inl (Q 10))), (wh2, .inl (cI, 60, .inl (Q 11))), (wh3, .inl (cZ, 60, .inl (Q 12))), (wh4, .inl (cI, 60, .inl (Q 13))), (wh5, .inl (cI, 60, .inl (Q 14)))]) hD [6, 7, 8, 9, 10, 11, 12] rfl
    refine va_callv (va_runV (As := [.int (nI k), .int (Q 1 k), .int y, .int 0]) (rest := []) ⟨hx, hb, hml, hown, hts⟩ (met_X4_add l D cI cZ cL wh wh0 wh1 wh2 wh3 wh4 wh5 nw (Q 9) (Q 10) (Q 11) (Q 12) (Q 13) (Q 14) (nI k) (Q 1 k) y 0 (by first | assumption | omega) (by first | exact Or.inl rfl | exact Or.inr rfl)) (cwV 4 hts gX2_cutWheel_X4_add rfl rfl rfl (by decide +kernel) ⟨Nat.le_of_ble_eq_true rfl, Nat.le_of_ble_eq_true rfl⟩) (gw_pvw hK hP hD (wc := [(wh, .inr (4, [.ref wh0, .ref wh1, .ref wh2, .ref wh3, .ref wh4, .ref wh5, .int (nI nw)])), (wh0, .inl (cI, 60, .inl (Q 9))), (wh1, .inl (cI, 60, .inl (Q 10))), (wh2, .inl (cI, 60, .inl (Q 11))), (wh3, .inl (cZ, 60, .inl (Q 12))), (wh4, .inl (cI, 60, .inl (Q 13))), (wh5, .inl (cI, 60, .inl (Q 14)))]) [6, 7, 8, 9, 10, 11, 12] (by decide) rfl rfl 4 rfl rfl rfl) rfl rfl hl.1 rfl (lv_room (Nat.le_of_ble_eq_true rfl)) dX2_cutWheel_53 ⟨Nat.zero_le _, Nat.zero_le _⟩) hS (fun q _ h => hFc q h) hFc (fun _ t H1 locs ht hvm hw hB hz1 hk1 hS => ?_)
    rw [ht] at hB
    obtain ⟨hP, hD⟩ := gw_upd (wc := [(wh, .inr (4, [.ref wh0, .ref wh1, .ref wh2, .ref wh3, .ref wh4, .ref wh5, .int (nI nw)])), (wh0, .inl (cI, 60, .inl (Q 9))), (wh1, .inl (cI, 60, .inl (Q 10))), (wh2, .inl (cI, 60, .inl (Q 11))), (wh3, .inl (cZ, 60, .inl (Q 12))), (wh4, .inl (cI, 60, .inl (Q 13))), (wh5, .inl (cI, 60, .inl (Q 14)))]) (w1 := [(wh, .inr (4, [.ref wh0, .ref wh1, .ref wh2, .ref wh3, .ref wh4, .ref wh5, .int (nI (nw + 1))])), (wh0, .inl (cI, 60, .inl (upd (Q 9) nw (nI k)))), (wh1, .inl (cI, 60, .inl (upd (Q 10) nw (Q 1 k)))), (wh2, .inl (cI, 60, .inl (upd (Q 11) nw y))), (wh3, .inl (cZ, 60, .inl (upd (Q 12) nw 0))), (wh4, .inl (cI, 60, .inl (upd (Q 13) nw 0))), (wh5, .inl (cI, 60, .inl (upd (Q 14) nw (-1))))]) (ws' := [(qu, .inr (2, [.ref qf, .ref bd, .ref cr, .ref wh, .int (nI day)])), (bd, .inr (0, [.ref bd0, .ref bd1, .ref bd2, .ref bd3, .int (nI nb)])), (bd0, .inl (cI, 5, .inl (Q 1))), (bd1, .inl (cI, 5, .inl (Q 2))), (bd2, .inl (cI, 5, .inl (Q 3))), (bd3, .inl (cI, 5, .inl (Q 4))), (wh, .inr (4, [.ref wh0, .ref wh1, .ref wh2, .ref wh3, .ref wh4, .ref wh5, .int (nI (nw + 1))])), (wh0, .inl (cI, 60, .inl (upd (Q 9) nw (nI k)))), (wh1, .inl (cI, 60, .inl (upd (Q 10) nw (Q 1 k)))), (wh2, .inl (cI, 60, .inl (upd (Q 11) nw y))), (wh3, .inl (cZ, 60, .inl (upd (Q 12) nw 0))), (wh4, .inl (cI, 60, .inl (upd (Q 13) nw 0))), (wh5, .inl (cI, 60, .inl (upd (Q 14) nw (-1))))]) hP hD [6, 7, 8, 9, 10, 11, 12] rfl rfl hk1 hB rfl
    generalize H1 = H at hP hS ⊢
    refine lv_aload_n hx hb dX2_cutWheel_56 rfl (lv_at hl 1 rfl) ?_
    refine va_get (D := D) (ci := 2) (v := .ref bd) (C := RX2) (T := TX2) (N := 5) hx hb hts wc_X2_cutWheel_X2 hown hK hP 0 rfl rfl 1 (by decide) (hts _ wd_X2_cutWheel_1) (fun _ h9 => h9) rfl dX2_cutWheel_57 ?_
    refine va_get (D := D) (ci := 0) (v := .ref bd3) (C := RX0) (T := TX0) (N := 5) hx hb hts wc_X2_cutWheel_X0 hown hK hP 1 rfl rfl 3 (by decide) (hts _ wd_X2_cutWheel_3) (fun _ h9 => h9) rfl dX2_cutWheel_60 ?_
    refine lv_iload_n hx hb dX2_cutWheel_63 rfl (lv_at hl 2 rfl) ?_
    refine lv_dup2_11 hx hb dX2_cutWheel_64 rfl rfl ?_
    refine gw_iald hx hb hK hP 5 0 (k := k) rfl rfl (by omega) (by decide) dX2_cutWheel_65 ?_
    refine lv_iconst (v := 1) hx hb dX2_cutWheel_66 (by decide) ?_
    refine lv_iadd hx hb dX2_cutWheel_67 ?_
    refine gw_iast hx hb hK hP hD hS 5 0 (k := k) rfl rfl (by omega) (by decide) dX2_cutWheel_68 (fun H locs hP hD hS => ?_)
    have hP : va_P D vwCl [(qu, .inr (2, [.ref qf, .ref bd, .ref cr, .ref wh, .int (nI day)])), (bd, .inr (0, [.ref bd0, .ref bd1, .ref bd2, .ref bd3, .int (nI nb)])), (bd0, .inl (cI, 5, .inl (Q 1))), (bd1, .inl (cI, 5, .inl (Q 2))), (bd2, .inl (cI, 5, .inl (Q 3))), (bd3, .inl (cI, 5, .inl (upd (Q 4) k ((Q 4 k) + 1)))), (wh, .inr (4, [.ref wh0, .ref wh1, .ref wh2, .ref wh3, .ref wh4, .ref wh5, .int (nI (nw + 1))])), (wh0, .inl (cI, 60, .inl (upd (Q 9) nw (nI k)))), (wh1, .inl (cI, 60, .inl (upd (Q 10) nw (Q 1 k)))), (wh2, .inl (cI, 60, .inl (upd (Q 11) nw y))), (wh3, .inl (cZ, 60, .inl (upd (Q 12) nw 0))), (wh4, .inl (cI, 60, .inl (upd (Q 13) nw 0))), (wh5, .inl (cI, 60, .inl (upd (Q 14) nw (-1))))] H := hP
    have hD : va_D A [(qu, .inr (2, [.ref qf, .ref bd, .ref cr, .ref wh, .int (nI day)])), (bd, .inr (0, [.ref bd0, .ref bd1, .ref bd2, .ref bd3, .int (nI nb)])), (bd0, .inl (cI, 5, .inl (Q 1))), (bd1, .inl (cI, 5, .inl (Q 2))), (bd2, .inl (cI, 5, .inl (Q 3))), (bd3, .inl (cI, 5, .inl (upd (Q 4) k ((Q 4 k) + 1)))), (wh, .inr (4, [.ref wh0, .ref wh1, .ref wh2, .ref wh3, .ref wh4, .ref wh5, .int (nI (nw + 1))])), (wh0, .inl (cI, 60, .inl (upd (Q 9) nw (nI k)))), (wh1, .inl (cI, 60, .inl (upd (Q 10) nw (Q 1 k)))), (wh2, .inl (cI, 60, .inl (upd (Q 11) nw y))), (wh3, .inl (cZ, 60, .inl (upd (Q 12) nw 0))), (wh4, .inl (cI, 60, .inl (upd (Q 13) nw 0))), (wh5, .inl (cI, 60, .inl (upd (Q 14) nw (-1))))] := hD
    refine lv_aload_n hx hb dX2_cutWheel_69 rfl (lv_at hl 1 rfl) ?_
    refine va_get (D := D) (ci := 2) (v := .ref bd) (C := RX2) (T := TX2) (N := 5) hx hb hts wc_X2_cutWheel_X2 hown hK hP 0 rfl rfl 1 (by decide) (hts _ wd_X2_cutWheel_1) (fun _ h9 => h9) rfl dX2_cutWheel_70 ?_
    refine va_get (D := D) (ci := 0) (v := .ref bd2) (C := RX0) (T := TX0) (N := 5) hx hb hts wc_X2_cutWheel_X0 hown hK hP 1 rfl rfl 2 (by decide) (hts _ wd_X2_cutWheel_7) (fun _ h9 => h9) rfl dX2_cutWheel_73 ?_
    refine lv_iload_n hx hb dX2_cutWheel_76 rfl (lv_at hl 2 rfl) ?_
    refine lv_iconst (v := 0) hx hb dX2_cutWheel_77 (by decide) ?_
    refine lv_aload_n hx hb dX2_cutWheel_78 rfl (lv_at hl 1 rfl) ?_
    refine va_get (D := D) (ci := 2) (v := .ref bd) (C := RX2) (T := TX2) (N := 5) hx hb hts wc_X2_cutWheel_X2 hown hK hP 0 rfl rfl 1 (by decide) (hts _ wd_X2_cutWheel_1) (fun _ h9 => h9) rfl dX2_cutWheel_79 ?_
    refine va_get (D := D) (ci := 0) (v := .ref bd2) (C := RX0) (T := TX0) (N := 5) hx hb hts wc_X2_cutWheel_X0 hown hK hP 1 rfl rfl 2 (by decide) (hts _ wd_X2_cutWheel_7) (fun _ h9 => h9) rfl dX2_cutWheel_82 ?_
    refine lv_iload_n hx hb dX2_cutWheel_85 rfl (lv_at hl 2 rfl) ?_
    refine gw_iald hx hb hK hP 4 0 (k := k) rfl rfl (by omega) (by decide) dX2_cutWheel_86 ?_
    refine lv_iload_n hx hb dX2_cutWheel_87 rfl (lv_at hl 3 rfl) ?_
    refine lv_isub hx hb dX2_cutWheel_88 ?_
    refine va_mmax (own := RX2) hx hb (by rw [hml]; exact hl.1.symm) hown (hts _ wd_X2_cutWheel_8) (hts _ wd_X2_cutWheel_9) (hts _ wd_X2_cutWheel_10) (hts _ wd_X2_cutWheel_11) (Nat.le_of_ble_eq_true rfl) (Nat.le_of_ble_eq_true rfl) (Nat.zero_le _) (Nat.zero_le _) dX2_cutWheel_89 ?_
    refine gw_iast hx hb hK hP hD hS 4 0 (k := k) rfl rfl (by omega) (by decide) dX2_cutWheel_92 (fun H locs hP hD hS => ?_)
    have hP : va_P D vwCl [(qu, .inr (2, [.ref qf, .ref bd, .ref cr, .ref wh, .int (nI day)])), (bd, .inr (0, [.ref bd0, .ref bd1, .ref bd2, .ref bd3, .int (nI nb)])), (bd0, .inl (cI, 5, .inl (Q 1))), (bd1, .inl (cI, 5, .inl (Q 2))), (bd2, .inl (cI, 5, .inl (upd (Q 3) k (if 0 < ((Q 3 k) - y) then ((Q 3 k) - y) else 0)))), (bd3, .inl (cI, 5, .inl (upd (Q 4) k ((Q 4 k) + 1)))), (wh, .inr (4, [.ref wh0, .ref wh1, .ref wh2, .ref wh3, .ref wh4, .ref wh5, .int (nI (nw + 1))])), (wh0, .inl (cI, 60, .inl (upd (Q 9) nw (nI k)))), (wh1, .inl (cI, 60, .inl (upd (Q 10) nw (Q 1 k)))), (wh2, .inl (cI, 60, .inl (upd (Q 11) nw y))), (wh3, .inl (cZ, 60, .inl (upd (Q 12) nw 0))), (wh4, .inl (cI, 60, .inl (upd (Q 13) nw 0))), (wh5, .inl (cI, 60, .inl (upd (Q 14) nw (-1))))] H := hP
    have hD : va_D A [(qu, .inr (2, [.ref qf, .ref bd, .ref cr, .ref wh, .int (nI day)])), (bd, .inr (0, [.ref bd0, .ref bd1, .ref bd2, .ref bd3, .int (nI nb)])), (bd0, .inl (cI, 5, .inl (Q 1))), (bd1, .inl (cI, 5, .inl (Q 2))), (bd2, .inl (cI, 5, .inl (upd (Q 3) k (if 0 < ((Q 3 k) - y) then ((Q 3 k) - y) else 0)))), (bd3, .inl (cI, 5, .inl (upd (Q 4) k ((Q 4 k) + 1)))), (wh, .inr (4, [.ref wh0, .ref wh1, .ref wh2, .ref wh3, .ref wh4, .ref wh5, .int (nI (nw + 1))])), (wh0, .inl (cI, 60, .inl (upd (Q 9) nw (nI k)))), (wh1, .inl (cI, 60, .inl (upd (Q 10) nw (Q 1 k)))), (wh2, .inl (cI, 60, .inl (upd (Q 11) nw y))), (wh3, .inl (cZ, 60, .inl (upd (Q 12) nw 0))), (wh4, .inl (cI, 60, .inl (upd (Q 13) nw 0))), (wh5, .inl (cI, 60, .inl (upd (Q 14) nw (-1))))] := hD
    subst hAe
    exact W.vret hx hb hr (fun t ht hW => ⟨⟨(), rfl, trivial, (by rw [h12]; exact gw_hh ht hP)⟩, hS.F ht⟩) hS.2.2 dX2_cutWheel_93
  · skip
    have hcr : gCr Q k y = 1 := by simp only [gCr]; exact if_pos (Int32.not_le.mp h1)
    have h12 : gCut Q nw k y 12 = upd (Q 12) nw 1 := by show upd (Q 12) nw (gCr Q k y) = _; rw [hcr]
    refine lv_iconst (v := 1) hx hb dX2_cutWheel_31 (by decide) ?_
    refine lv_goto (tgt := 36) hx hb dX2_cutWheel_32 (by decide) ?_
    refine lv_istore_n (lv' := [(3, .int 1), (0, .ref qu), (1, .int (nI k)), (2, .int y)]) hx hb dX2_cutWheel_36 rfl hl (by decide) rfl (fun ls hl => ?_)
    refine lv_aload_n hx hb dX2_cutWheel_37 rfl (lv_at hl 1 rfl) ?_
    refine va_get (D := D) (ci := 2) (v := .ref wh) (C := RX2) (T := TX2) (N := 5) hx hb hts wc_X2_cutWheel_X2 hown hK hP 0 rfl rfl 3 (by decide) (hts _ wd_X2_cutWheel_5) (fun _ h9 => h9) rfl dX2_cutWheel_38 ?_
    refine lv_iload_n hx hb dX2_cutWheel_41 rfl (lv_at hl 2 rfl) ?_
    refine lv_aload_n hx hb dX2_cutWheel_42 rfl (lv_at hl 1 rfl) ?_
    refine va_get (D := D) (ci := 2) (v := .ref bd) (C := RX2) (T := TX2) (N := 5) hx hb hts wc_X2_cutWheel_X2 hown hK hP 0 rfl rfl 1 (by decide) (hts _ wd_X2_cutWheel_1) (fun _ h9 => h9) rfl dX2_cutWheel_43 ?_
    refine va_get (D := D) (ci := 0) (v := .ref bd0) (C := RX0) (T := TX0) (N := 5) hx hb hts wc_X2_cutWheel_X0 hown hK hP 1 rfl rfl 0 (by decide) (hts _ wd_X2_cutWheel_6) (fun _ h9 => h9) rfl dX2_cutWheel_46 ?_
    refine lv_iload_n hx hb dX2_cutWheel_49 rfl (lv_at hl 2 rfl) ?_
    refine gw_iald hx hb hK hP 2 0 (k := k) rfl rfl (by omega) (by decide) dX2_cutWheel_50 ?_
    refine lv_iload_n hx hb dX2_cutWheel_51 rfl (lv_at hl 3 rfl) ?_
    refine lv_iload_n hx hb dX2_cutWheel_52 rfl (lv_at hl 0 rfl) ?_
    have hFc := gw_free (wc := [(wh, .inr (4, [.ref wh0, .ref wh1, .ref wh2, .ref wh3, .ref wh4, .ref wh5, .int (nI nw)])), (wh0, .inl (cI, 60, .inl (Q 9))), (wh1, .inl (cI, 60, .inl (Q 10))), (wh2, .inl (cI, 60, .inl (Q 11))), (wh3, .inl (cZ, 60, .inl (Q 12))), (wh4, .inl (cI, 60, .inl (Q 13))), (wh5, .inl (cI, 60, .inl (Q 14)))]) hD [6, 7, 8, 9, 10, 11, 12] rfl
    refine va_callv (va_runV (As := [.int (nI k), .int (Q 1 k), .int y, .int 1]) (rest := []) ⟨hx, hb, hml, hown, hts⟩ (met_X4_add l D cI cZ cL wh wh0 wh1 wh2 wh3 wh4 wh5 nw (Q 9) (Q 10) (Q 11) (Q 12) (Q 13) (Q 14) (nI k) (Q 1 k) y 1 (by first | assumption | omega) (by first | exact Or.inl rfl | exact Or.inr rfl)) (cwV 4 hts gX2_cutWheel_X4_add rfl rfl rfl (by decide +kernel) ⟨Nat.le_of_ble_eq_true rfl, Nat.le_of_ble_eq_true rfl⟩) (gw_pvw hK hP hD (wc := [(wh, .inr (4, [.ref wh0, .ref wh1, .ref wh2, .ref wh3, .ref wh4, .ref wh5, .int (nI nw)])), (wh0, .inl (cI, 60, .inl (Q 9))), (wh1, .inl (cI, 60, .inl (Q 10))), (wh2, .inl (cI, 60, .inl (Q 11))), (wh3, .inl (cZ, 60, .inl (Q 12))), (wh4, .inl (cI, 60, .inl (Q 13))), (wh5, .inl (cI, 60, .inl (Q 14)))]) [6, 7, 8, 9, 10, 11, 12] (by decide) rfl rfl 4 rfl rfl rfl) rfl rfl hl.1 rfl (lv_room (Nat.le_of_ble_eq_true rfl)) dX2_cutWheel_53 ⟨Nat.zero_le _, Nat.zero_le _⟩) hS (fun q _ h => hFc q h) hFc (fun _ t H1 locs ht hvm hw hB hz1 hk1 hS => ?_)
    rw [ht] at hB
    obtain ⟨hP, hD⟩ := gw_upd (wc := [(wh, .inr (4, [.ref wh0, .ref wh1, .ref wh2, .ref wh3, .ref wh4, .ref wh5, .int (nI nw)])), (wh0, .inl (cI, 60, .inl (Q 9))), (wh1, .inl (cI, 60, .inl (Q 10))), (wh2, .inl (cI, 60, .inl (Q 11))), (wh3, .inl (cZ, 60, .inl (Q 12))), (wh4, .inl (cI, 60, .inl (Q 13))), (wh5, .inl (cI, 60, .inl (Q 14)))]) (w1 := [(wh, .inr (4, [.ref wh0, .ref wh1, .ref wh2, .ref wh3, .ref wh4, .ref wh5, .int (nI (nw + 1))])), (wh0, .inl (cI, 60, .inl (upd (Q 9) nw (nI k)))), (wh1, .inl (cI, 60, .inl (upd (Q 10) nw (Q 1 k)))), (wh2, .inl (cI, 60, .inl (upd (Q 11) nw y))), (wh3, .inl (cZ, 60, .inl (upd (Q 12) nw 1))), (wh4, .inl (cI, 60, .inl (upd (Q 13) nw 0))), (wh5, .inl (cI, 60, .inl (upd (Q 14) nw (-1))))]) (ws' := [(qu, .inr (2, [.ref qf, .ref bd, .ref cr, .ref wh, .int (nI day)])), (bd, .inr (0, [.ref bd0, .ref bd1, .ref bd2, .ref bd3, .int (nI nb)])), (bd0, .inl (cI, 5, .inl (Q 1))), (bd1, .inl (cI, 5, .inl (Q 2))), (bd2, .inl (cI, 5, .inl (Q 3))), (bd3, .inl (cI, 5, .inl (Q 4))), (wh, .inr (4, [.ref wh0, .ref wh1, .ref wh2, .ref wh3, .ref wh4, .ref wh5, .int (nI (nw + 1))])), (wh0, .inl (cI, 60, .inl (upd (Q 9) nw (nI k)))), (wh1, .inl (cI, 60, .inl (upd (Q 10) nw (Q 1 k)))), (wh2, .inl (cI, 60, .inl (upd (Q 11) nw y))), (wh3, .inl (cZ, 60, .inl (upd (Q 12) nw 1))), (wh4, .inl (cI, 60, .inl (upd (Q 13) nw 0))), (wh5, .inl (cI, 60, .inl (upd (Q 14) nw (-1))))]) hP hD [6, 7, 8, 9, 10, 11, 12] rfl rfl hk1 hB rfl
    generalize H1 = H at hP hS ⊢
    refine lv_aload_n hx hb dX2_cutWheel_56 rfl (lv_at hl 1 rfl) ?_
    refine va_get (D := D) (ci := 2) (v := .ref bd) (C := RX2) (T := TX2) (N := 5) hx hb hts wc_X2_cutWheel_X2 hown hK hP 0 rfl rfl 1 (by decide) (hts _ wd_X2_cutWheel_1) (fun _ h9 => h9) rfl dX2_cutWheel_57 ?_
    refine va_get (D := D) (ci := 0) (v := .ref bd3) (C := RX0) (T := TX0) (N := 5) hx hb hts wc_X2_cutWheel_X0 hown hK hP 1 rfl rfl 3 (by decide) (hts _ wd_X2_cutWheel_3) (fun _ h9 => h9) rfl dX2_cutWheel_60 ?_
    refine lv_iload_n hx hb dX2_cutWheel_63 rfl (lv_at hl 2 rfl) ?_
    refine lv_dup2_11 hx hb dX2_cutWheel_64 rfl rfl ?_
    refine gw_iald hx hb hK hP 5 0 (k := k) rfl rfl (by omega) (by decide) dX2_cutWheel_65 ?_
    refine lv_iconst (v := 1) hx hb dX2_cutWheel_66 (by decide) ?_
    refine lv_iadd hx hb dX2_cutWheel_67 ?_
    refine gw_iast hx hb hK hP hD hS 5 0 (k := k) rfl rfl (by omega) (by decide) dX2_cutWheel_68 (fun H locs hP hD hS => ?_)
    have hP : va_P D vwCl [(qu, .inr (2, [.ref qf, .ref bd, .ref cr, .ref wh, .int (nI day)])), (bd, .inr (0, [.ref bd0, .ref bd1, .ref bd2, .ref bd3, .int (nI nb)])), (bd0, .inl (cI, 5, .inl (Q 1))), (bd1, .inl (cI, 5, .inl (Q 2))), (bd2, .inl (cI, 5, .inl (Q 3))), (bd3, .inl (cI, 5, .inl (upd (Q 4) k ((Q 4 k) + 1)))), (wh, .inr (4, [.ref wh0, .ref wh1, .ref wh2, .ref wh3, .ref wh4, .ref wh5, .int (nI (nw + 1))])), (wh0, .inl (cI, 60, .inl (upd (Q 9) nw (nI k)))), (wh1, .inl (cI, 60, .inl (upd (Q 10) nw (Q 1 k)))), (wh2, .inl (cI, 60, .inl (upd (Q 11) nw y))), (wh3, .inl (cZ, 60, .inl (upd (Q 12) nw 1))), (wh4, .inl (cI, 60, .inl (upd (Q 13) nw 0))), (wh5, .inl (cI, 60, .inl (upd (Q 14) nw (-1))))] H := hP
    have hD : va_D A [(qu, .inr (2, [.ref qf, .ref bd, .ref cr, .ref wh, .int (nI day)])), (bd, .inr (0, [.ref bd0, .ref bd1, .ref bd2, .ref bd3, .int (nI nb)])), (bd0, .inl (cI, 5, .inl (Q 1))), (bd1, .inl (cI, 5, .inl (Q 2))), (bd2, .inl (cI, 5, .inl (Q 3))), (bd3, .inl (cI, 5, .inl (upd (Q 4) k ((Q 4 k) + 1)))), (wh, .inr (4, [.ref wh0, .ref wh1, .ref wh2, .ref wh3, .ref wh4, .ref wh5, .int (nI (nw + 1))])), (wh0, .inl (cI, 60, .inl (upd (Q 9) nw (nI k)))), (wh1, .inl (cI, 60, .inl (upd (Q 10) nw (Q 1 k)))), (wh2, .inl (cI, 60, .inl (upd (Q 11) nw y))), (wh3, .inl (cZ, 60, .inl (upd (Q 12) nw 1))), (wh4, .inl (cI, 60, .inl (upd (Q 13) nw 0))), (wh5, .inl (cI, 60, .inl (upd (Q 14) nw (-1))))] := hD
    refine lv_aload_n hx hb dX2_cutWheel_69 rfl (lv_at hl 1 rfl) ?_
    refine va_get (D := D) (ci := 2) (v := .ref bd) (C := RX2) (T := TX2) (N := 5) hx hb hts wc_X2_cutWheel_X2 hown hK hP 0 rfl rfl 1 (by decide) (hts _ wd_X2_cutWheel_1) (fun _ h9 => h9) rfl dX2_cutWheel_70 ?_
    refine va_get (D := D) (ci := 0) (v := .ref bd2) (C := RX0) (T := TX0) (N := 5) hx hb hts wc_X2_cutWheel_X0 hown hK hP 1 rfl rfl 2 (by decide) (hts _ wd_X2_cutWheel_7) (fun _ h9 => h9) rfl dX2_cutWheel_73 ?_
    refine lv_iload_n hx hb dX2_cutWheel_76 rfl (lv_at hl 2 rfl) ?_
    refine lv_iconst (v := 0) hx hb dX2_cutWheel_77 (by decide) ?_
    refine lv_aload_n hx hb dX2_cutWheel_78 rfl (lv_at hl 1 rfl) ?_
    refine va_get (D := D) (ci := 2) (v := .ref bd) (C := RX2) (T := TX2) (N := 5) hx hb hts wc_X2_cutWheel_X2 hown hK hP 0 rfl rfl 1 (by decide) (hts _ wd_X2_cutWheel_1) (fun _ h9 => h9) rfl dX2_cutWheel_79 ?_
    refine va_get (D := D) (ci := 0) (v := .ref bd2) (C := RX0) (T := TX0) (N := 5) hx hb hts wc_X2_cutWheel_X0 hown hK hP 1 rfl rfl 2 (by decide) (hts _ wd_X2_cutWheel_7) (fun _ h9 => h9) rfl dX2_cutWheel_82 ?_
    refine lv_iload_n hx hb dX2_cutWheel_85 rfl (lv_at hl 2 rfl) ?_
    refine gw_iald hx hb hK hP 4 0 (k := k) rfl rfl (by omega) (by decide) dX2_cutWheel_86 ?_
    refine lv_iload_n hx hb dX2_cutWheel_87 rfl (lv_at hl 3 rfl) ?_
    refine lv_isub hx hb dX2_cutWheel_88 ?_
    refine va_mmax (own := RX2) hx hb (by rw [hml]; exact hl.1.symm) hown (hts _ wd_X2_cutWheel_8) (hts _ wd_X2_cutWheel_9) (hts _ wd_X2_cutWheel_10) (hts _ wd_X2_cutWheel_11) (Nat.le_of_ble_eq_true rfl) (Nat.le_of_ble_eq_true rfl) (Nat.zero_le _) (Nat.zero_le _) dX2_cutWheel_89 ?_
    refine gw_iast hx hb hK hP hD hS 4 0 (k := k) rfl rfl (by omega) (by decide) dX2_cutWheel_92 (fun H locs hP hD hS => ?_)
    have hP : va_P D vwCl [(qu, .inr (2, [.ref qf, .ref bd, .ref cr, .ref wh, .int (nI day)])), (bd, .inr (0, [.ref bd0, .ref bd1, .ref bd2, .ref bd3, .int (nI nb)])), (bd0, .inl (cI, 5, .inl (Q 1))), (bd1, .inl (cI, 5, .inl (Q 2))), (bd2, .inl (cI, 5, .inl (upd (Q 3) k (if 0 < ((Q 3 k) - y) then ((Q 3 k) - y) else 0)))), (bd3, .inl (cI, 5, .inl (upd (Q 4) k ((Q 4 k) + 1)))), (wh, .inr (4, [.ref wh0, .ref wh1, .ref wh2, .ref wh3, .ref wh4, .ref wh5, .int (nI (nw + 1))])), (wh0, .inl (cI, 60, .inl (upd (Q 9) nw (nI k)))), (wh1, .inl (cI, 60, .inl (upd (Q 10) nw (Q 1 k)))), (wh2, .inl (cI, 60, .inl (upd (Q 11) nw y))), (wh3, .inl (cZ, 60, .inl (upd (Q 12) nw 1))), (wh4, .inl (cI, 60, .inl (upd (Q 13) nw 0))), (wh5, .inl (cI, 60, .inl (upd (Q 14) nw (-1))))] H := hP
    have hD : va_D A [(qu, .inr (2, [.ref qf, .ref bd, .ref cr, .ref wh, .int (nI day)])), (bd, .inr (0, [.ref bd0, .ref bd1, .ref bd2, .ref bd3, .int (nI nb)])), (bd0, .inl (cI, 5, .inl (Q 1))), (bd1, .inl (cI, 5, .inl (Q 2))), (bd2, .inl (cI, 5, .inl (upd (Q 3) k (if 0 < ((Q 3 k) - y) then ((Q 3 k) - y) else 0)))), (bd3, .inl (cI, 5, .inl (upd (Q 4) k ((Q 4 k) + 1)))), (wh, .inr (4, [.ref wh0, .ref wh1, .ref wh2, .ref wh3, .ref wh4, .ref wh5, .int (nI (nw + 1))])), (wh0, .inl (cI, 60, .inl (upd (Q 9) nw (nI k)))), (wh1, .inl (cI, 60, .inl (upd (Q 10) nw (Q 1 k)))), (wh2, .inl (cI, 60, .inl (upd (Q 11) nw y))), (wh3, .inl (cZ, 60, .inl (upd (Q 12) nw 1))), (wh4, .inl (cI, 60, .inl (upd (Q 13) nw 0))), (wh5, .inl (cI, 60, .inl (upd (Q 14) nw (-1))))] := hD
    subst hAe
    exact W.vret hx hb hr (fun t ht hW => ⟨⟨(), rfl, trivial, (by rw [h12]; exact gw_hh ht hP)⟩, hS.F ht⟩) hS.2.2 dX2_cutWheel_93

theorem wc_X2_work_X2 : ∀ w ∈ u_ws RX2 TX2 5, w ∈ wsX2_work := by decide +kernel
theorem wd_X2_work_1 : (.fieldLink RX2 31 "GritWheels$Quarry" "crew" "LGritWheels$Crew;" : Cond) ∈ wsX2_work := by decide +kernel
theorem wc_X2_work_X1 : ∀ w ∈ u_ws RX1 TX1 5, w ∈ wsX2_work := by decide +kernel
theorem wd_X2_work_3 : (.fieldLink RX2 86 "GritWheels$Crew" "place" "[I" : Cond) ∈ wsX2_work := by decide +kernel
theorem wd_X2_work_4 : (.fieldLink RX2 24 "GritWheels$Quarry" "beds" "LGritWheels$Beds;" : Cond) ∈ wsX2_work := by decide +kernel
theorem wd_X2_work_5 : (.fieldLink RX2 104 "GritWheels$Crew" "skill" "[I" : Cond) ∈ wsX2_work := by decide +kernel
theorem wd_X2_work_6 : (.fieldLink RX2 38 "GritWheels$Quarry" "wheels" "LGritWheels$Wheels;" : Cond) ∈ wsX2_work := by decide +kernel
theorem wc_X2_work_X4 : ∀ w ∈ u_ws RX4 TX4 7, w ∈ wsX2_work := by decide +kernel
theorem wd_X2_work_8 : (.fieldLink RX2 110 "GritWheels$Wheels" "number" "I" : Cond) ∈ wsX2_work := by decide +kernel
theorem wd_X2_work_9 : (.fieldLink RX2 111 "GritWheels$Crew" "work" "[I" : Cond) ∈ wsX2_work := by decide +kernel
theorem wc_X2_work_X0 : ∀ w ∈ u_ws RX0 TX0 5, w ∈ wsX2_work := by decide +kernel
theorem wd_X2_work_11 : (.fieldLink RX2 113 "GritWheels$Beds" "stone" "[I" : Cond) ∈ wsX2_work := by decide +kernel
set_option maxHeartbeats 4000000 in
set_option maxRecDepth 100000 in
theorem met_X2_work (l : Launch) (D : va_G) (cI cZ cL : ClassId) (qu : Nat) (qf : Nat) (bd : Nat) (cr : Nat) (wh : Nat) (bd0 : Nat) (bd1 : Nat) (bd2 : Nat) (bd3 : Nat) (cr0 : Nat) (cr1 : Nat) (cr2 : Nat) (cr3 : Nat) (wh0 : Nat) (wh1 : Nat) (wh2 : Nat) (wh3 : Nat) (wh4 : Nat) (wh5 : Nat) (Q : Nat → Nat → Int32) (nb : Nat) (nq : Nat) (nw : Nat) (day : Nat) (k : Nat) (hk : k < nq) (hnq : nq ≤ 6) (hnb : nb ≤ 5) (hnw : nw ≤ 60) (hpl : gPl Q nb nq) : Met l yX2_work wsX2_work ({ frames := 2, cells := 0, slots := 0, locals := 47 }) (gPw [.ref qu, .int (nI k)] D [(qu, .inr (2, [.ref qf, .ref bd, .ref cr, .ref wh, .int (nI day)])), (bd, .inr (0, [.ref bd0, .ref bd1, .ref bd2, .ref bd3, .int (nI nb)])), (bd0, .inl (cI, 5, .inl (Q 1))), (bd1, .inl (cI, 5, .inl (Q 2))), (bd2, .inl (cI, 5, .inl (Q 3))), (bd3, .inl (cI, 5, .inl (Q 4))), (cr, .inr (1, [.ref cr0, .ref cr1, .ref cr2, .ref cr3, .int (nI nq)])), (cr0, .inl (cI, 6, .inl (Q 5))), (cr1, .inl (cI, 6, .inl (Q 6))), (cr2, .inl (cI, 6, .inl (Q 7))), (cr3, .inl (cI, 6, .inl (Q 8))), (wh, .inr (4, [.ref wh0, .ref wh1, .ref wh2, .ref wh3, .ref wh4, .ref wh5, .int (nI nw)])), (wh0, .inl (cI, 60, .inl (Q 9))), (wh1, .inl (cI, 60, .inl (Q 10))), (wh2, .inl (cI, 60, .inl (Q 11))), (wh3, .inl (cZ, 60, .inl (Q 12))), (wh4, .inl (cI, 60, .inl (Q 13))), (wh5, .inl (cI, 60, .inl (Q 14)))] (gT cI cZ cL)) (va_Qv (fun (_ : Unit) => True) (fun _ t => va_P D vwCl [(qu, .inr (2, [.ref qf, .ref bd, .ref cr, .ref wh, .int (nI day)])), (bd, .inr (0, [.ref bd0, .ref bd1, .ref bd2, .ref bd3, .int (nI nb)])), (bd0, .inl (cI, 5, .inl ((gWork Q nw day k).1 1))), (bd1, .inl (cI, 5, .inl ((gWork Q nw day k).1 2))), (bd2, .inl (cI, 5, .inl ((gWork Q nw day k).1 3))), (bd3, .inl (cI, 5, .inl ((gWork Q nw day k).1 4))), (cr, .inr (1, [.ref cr0, .ref cr1, .ref cr2, .ref cr3, .int (nI nq)])), (cr0, .inl (cI, 6, .inl ((gWork Q nw day k).1 5))), (cr1, .inl (cI, 6, .inl ((gWork Q nw day k).1 6))), (cr2, .inl (cI, 6, .inl ((gWork Q nw day k).1 7))), (cr3, .inl (cI, 6, .inl ((gWork Q nw day k).1 8))), (wh, .inr (4, [.ref wh0, .ref wh1, .ref wh2, .ref wh3, .ref wh4, .ref wh5, .int (nI ((gWork Q nw day k).2))])), (wh0, .inl (cI, 60, .inl ((gWork Q nw day k).1 9))), (wh1, .inl (cI, 60, .inl ((gWork Q nw day k).1 10))), (wh2, .inl (cI, 60, .inl ((gWork Q nw day k).1 11))), (wh3, .inl (cZ, 60, .inl ((gWork Q nw day k).1 12))), (wh4, .inl (cI, 60, .inl ((gWork Q nw day k).1 13))), (wh5, .inl (cI, 60, .inl ((gWork Q nw day k).1 14)))] t.heap) (gA (gL [(qu, .inr (2, [.ref qf, .ref bd, .ref cr, .ref wh, .int (nI day)])), (bd, .inr (0, [.ref bd0, .ref bd1, .ref bd2, .ref bd3, .int (nI nb)])), (bd0, .inl (cI, 5, .inl (Q 1))), (bd1, .inl (cI, 5, .inl (Q 2))), (bd2, .inl (cI, 5, .inl (Q 3))), (bd3, .inl (cI, 5, .inl (Q 4))), (cr, .inr (1, [.ref cr0, .ref cr1, .ref cr2, .ref cr3, .int (nI nq)])), (cr0, .inl (cI, 6, .inl (Q 5))), (cr1, .inl (cI, 6, .inl (Q 6))), (cr2, .inl (cI, 6, .inl (Q 7))), (cr3, .inl (cI, 6, .inl (Q 8))), (wh, .inr (4, [.ref wh0, .ref wh1, .ref wh2, .ref wh3, .ref wh4, .ref wh5, .int (nI nw)])), (wh0, .inl (cI, 60, .inl (Q 9))), (wh1, .inl (cI, 60, .inl (Q 10))), (wh2, .inl (cI, 60, .inl (Q 11))), (wh3, .inl (cZ, 60, .inl (Q 12))), (wh4, .inl (cI, 60, .inl (Q 13))), (wh5, .inl (cI, 60, .inl (Q 14)))]))) 0 0 (gA (gL [(qu, .inr (2, [.ref qf, .ref bd, .ref cr, .ref wh, .int (nI day)])), (bd, .inr (0, [.ref bd0, .ref bd1, .ref bd2, .ref bd3, .int (nI nb)])), (bd0, .inl (cI, 5, .inl (Q 1))), (bd1, .inl (cI, 5, .inl (Q 2))), (bd2, .inl (cI, 5, .inl (Q 3))), (bd3, .inl (cI, 5, .inl (Q 4))), (cr, .inr (1, [.ref cr0, .ref cr1, .ref cr2, .ref cr3, .int (nI nq)])), (cr0, .inl (cI, 6, .inl (Q 5))), (cr1, .inl (cI, 6, .inl (Q 6))), (cr2, .inl (cI, 6, .inl (Q 7))), (cr3, .inl (cI, 6, .inl (Q 8))), (wh, .inr (4, [.ref wh0, .ref wh1, .ref wh2, .ref wh3, .ref wh4, .ref wh5, .int (nI nw)])), (wh0, .inl (cI, 60, .inl (Q 9))), (wh1, .inl (cI, 60, .inl (Q 10))), (wh2, .inl (cI, 60, .inl (Q 11))), (wh3, .inl (cZ, 60, .inl (Q 12))), (wh4, .inl (cI, 60, .inl (Q 13))), (wh5, .inl (cI, 60, .inl (Q 14)))])) := by
  refine Met.ofW (cc := cX2_work) (maxL := 5) (ret := none) (by decide +kernel) rfl ?_
  intro p e s m args below meth c s₁ B hml hv
  obtain ⟨rfl, hP, hK, hD0⟩ := hv
  have hx := B.exec
  have hb := B.bytes
  have hr := B.returns
  have hts := atoms_spec (ws := wsX2_work) B.pre
  have hown : s.vm.findClass RX2 = some m.cls := findClass_of_methodNamed B.named
  have hlocks := B.notSynchronized
  have hD := gw_self hD0
  generalize hAe : gA (gL [(qu, .inr (2, [.ref qf, .ref bd, .ref cr, .ref wh, .int (nI day)])), (bd, .inr (0, [.ref bd0, .ref bd1, .ref bd2, .ref bd3, .int (nI nb)])), (bd0, .inl (cI, 5, .inl (Q 1))), (bd1, .inl (cI, 5, .inl (Q 2))), (bd2, .inl (cI, 5, .inl (Q 3))), (bd3, .inl (cI, 5, .inl (Q 4))), (cr, .inr (1, [.ref cr0, .ref cr1, .ref cr2, .ref cr3, .int (nI nq)])), (cr0, .inl (cI, 6, .inl (Q 5))), (cr1, .inl (cI, 6, .inl (Q 6))), (cr2, .inl (cI, 6, .inl (Q 7))), (cr3, .inl (cI, 6, .inl (Q 8))), (wh, .inr (4, [.ref wh0, .ref wh1, .ref wh2, .ref wh3, .ref wh4, .ref wh5, .int (nI nw)])), (wh0, .inl (cI, 60, .inl (Q 9))), (wh1, .inl (cI, 60, .inl (Q 10))), (wh2, .inl (cI, 60, .inl (Q 11))), (wh3, .inl (cZ, 60, .inl (Q 12))), (wh4, .inl (cI, 60, .inl (Q 13))), (wh5, .inl (cI, 60, .inl (Q 14)))]) = A at hD ⊢
  have hS : va_S A s.heap s.heap [] := va_S.rf
  have hP : va_P D vwCl [(qu, .inr (2, [.ref qf, .ref bd, .ref cr, .ref wh, .int (nI day)])), (bd, .inr (0, [.ref bd0, .ref bd1, .ref bd2, .ref bd3, .int (nI nb)])), (bd0, .inl (cI, 5, .inl (Q 1))), (bd1, .inl (cI, 5, .inl (Q 2))), (bd2, .inl (cI, 5, .inl (Q 3))), (bd3, .inl (cI, 5, .inl (Q 4))), (cr, .inr (1, [.ref cr0, .ref cr1, .ref cr2, .ref cr3, .int (nI nq)])), (cr0, .inl (cI, 6, .inl (Q 5))), (cr1, .inl (cI, 6, .inl (Q 6))), (cr2, .inl (cI, 6, .inl (Q 7))), (cr3, .inl (cI, 6, .inl (Q 8))), (wh, .inr (4, [.ref wh0, .ref wh1, .ref wh2, .ref wh3, .ref wh4, .ref wh5, .int (nI nw)])), (wh0, .inl (cI, 60, .inl (Q 9))), (wh1, .inl (cI, 60, .inl (Q 10))), (wh2, .inl (cI, 60, .inl (Q 11))), (wh3, .inl (cZ, 60, .inl (Q 12))), (wh4, .inl (cI, 60, .inl (Q 13))), (wh5, .inl (cI, 60, .inl (Q 14)))] s.heap := hP
  have hl := lv_entry ([.ref qu, .int (nI k)]) (n := 5) (Nat.le_of_ble_eq_true rfl)
  rw [lg_entry_eq]
  generalize (lg_sl ([.ref qu, .int (nI k)]) ++ List.replicate (5 - (lg_sl ([.ref qu, .int (nI k)])).length) Slot.unset).toArray = ls at hl ⊢
  have hl : lv_has ls 5 [(0, .ref qu), (1, .int (nI k))] := hl
  refine lv_aload_n hx hb dX2_work_0 rfl (lv_at hl 0 rfl) ?_
  refine va_get (D := D) (ci := 2) (v := .ref cr) (C := RX2) (T := TX2) (N := 5) hx hb hts wc_X2_work_X2 hown hK hP 0 rfl rfl 2 (by decide) (hts _ wd_X2_work_1) (fun _ h9 => h9) rfl dX2_work_1 ?_
  refine va_get (D := D) (ci := 1) (v := .ref cr1) (C := RX1) (T := TX1) (N := 5) hx hb hts wc_X2_work_X1 hown hK hP 6 rfl rfl 1 (by decide) (hts _ wd_X2_work_3) (fun _ h9 => h9) rfl dX2_work_4 ?_
  refine lv_iload_n hx hb dX2_work_7 rfl (lv_at hl 1 rfl) ?_
  refine gw_iald hx hb hK hP 8 0 (k := k) rfl rfl (by omega) (by decide) dX2_work_8 ?_
  refine lv_istore_n (lv' := [(2, .int (Q 6 k)), (0, .ref qu), (1, .int (nI k))]) hx hb dX2_work_9 rfl hl (by decide) rfl (fun ls hl => ?_)
  refine lv_aload_n hx hb dX2_work_10 rfl (lv_at hl 1 rfl) ?_
  refine va_get (D := D) (ci := 2) (v := .ref bd) (C := RX2) (T := TX2) (N := 5) hx hb hts wc_X2_work_X2 hown hK hP 0 rfl rfl 1 (by decide) (hts _ wd_X2_work_4) (fun _ h9 => h9) rfl dX2_work_11 ?_
  refine lv_iload_n hx hb dX2_work_14 rfl (lv_at hl 0 rfl) ?_
  refine va_calli (va_runV (As := [.int (Q 6 k)]) (rest := []) ⟨hx, hb, hml, hown, hts⟩ (met_X0_has l D cI cZ cL bd bd0 bd1 bd2 bd3 nb (Q 6 k) (by first | assumption | omega)) (cwV 1 hts gX2_work_X0_has rfl rfl rfl (by decide +kernel) ⟨Nat.le_of_ble_eq_true rfl, Nat.le_of_ble_eq_true rfl⟩) (gw_pvr hK hP (wc := [(bd, .inr (0, [.ref bd0, .ref bd1, .ref bd2, .ref bd3, .int (nI nb)]))]) [1] rfl 0 rfl rfl rfl) rfl rfl hl.1 rfl (lv_room (Nat.le_of_ble_eq_true rfl)) dX2_work_15 ⟨Nat.zero_le _, Nat.zero_le _⟩) hS (fun _ _ z => z.elim) (fun _ z => z.elim) (fun r_2 _ t H1 locs ht hvm hw hB hz1 hk1 hS => ?_)
  have hP := gw_ro hP hk1
  generalize H1 = H at hP hS ⊢
  rcases hw with ⟨rfl, hc⟩ | ⟨rfl, hc⟩
  · skip
    obtain ⟨b, hb2, hbe⟩ := hc
    rw [hbe] at hl
    have hne : ¬ Q 6 k = -1 := by rw [hbe]; exact gw_nIm1 (by omega)
    refine lv_if_eq (tgt := 32) hx hb dX2_work_18 (by decide) (fun c_4 => False.elim (by revert c_4; decide)) (fun _ => ?_)
    refine lv_aload_n hx hb dX2_work_21 rfl (lv_at hl 1 rfl) ?_
    refine va_get (D := D) (ci := 2) (v := .ref cr) (C := RX2) (T := TX2) (N := 5) hx hb hts wc_X2_work_X2 hown hK hP 0 rfl rfl 2 (by decide) (hts _ wd_X2_work_1) (fun _ h9 => h9) rfl dX2_work_22 ?_
    refine lv_iload_n hx hb dX2_work_25 rfl (lv_at hl 2 rfl) ?_
    refine va_calli (va_runV (As := [.int (nI k)]) (rest := []) ⟨hx, hb, hml, hown, hts⟩ (met_X1_isTired l D cI cZ cL cr cr0 cr1 cr2 cr3 nq (Q 7) k (by first | assumption | omega)) (cwV 1 hts gX2_work_X1_isTired rfl rfl rfl (by decide +kernel) ⟨Nat.le_of_ble_eq_true rfl, Nat.le_of_ble_eq_true rfl⟩) (gw_pvr hK hP (wc := [(cr, .inr (1, [.ref cr0, .ref cr1, .ref cr2, .ref cr3, .int (nI nq)])), (cr2, .inl (cI, 6, .inl (Q 7)))]) [6, 9] rfl 1 rfl rfl rfl) rfl rfl hl.1 rfl (lv_room (Nat.le_of_ble_eq_true rfl)) dX2_work_26 ⟨Nat.zero_le _, Nat.zero_le _⟩) hS (fun _ _ z => z.elim) (fun _ z => z.elim) (fun r_6 _ t H1 locs ht hvm hw hB hz1 hk1 hS => ?_)
    have hP := gw_ro hP hk1
    generalize H1 = H at hP hS ⊢
    rcases hw with ⟨rfl, hc2⟩ | ⟨rfl, hc2⟩
    · skip
      have hE : gWork Q nw day k = (Q, nw) := by unfold gWork; rw [if_neg hne, if_pos hc2]
      refine lv_if_eq (tgt := 33) hx hb dX2_work_29 (by decide) (fun c_8 => False.elim (by revert c_8; decide)) (fun _ => ?_)
      subst hAe
      exact W.vret hx hb hr (fun t ht hW => ⟨⟨(), rfl, trivial, (by rw [hE]; exact gw_hh ht hP)⟩, hS.F ht⟩) hS.2.2 dX2_work_32
    · skip
      refine lv_if_eq (tgt := 33) hx hb dX2_work_29 (by decide) (fun _ => ?_) (fun c_9 => False.elim (by revert c_9; decide))
      refine lv_aload_n hx hb dX2_work_33 rfl (lv_at hl 1 rfl) ?_
      refine va_get (D := D) (ci := 2) (v := .ref cr) (C := RX2) (T := TX2) (N := 5) hx hb hts wc_X2_work_X2 hown hK hP 0 rfl rfl 2 (by decide) (hts _ wd_X2_work_1) (fun _ h9 => h9) rfl dX2_work_34 ?_
      refine lv_iload_n hx hb dX2_work_37 rfl (lv_at hl 2 rfl) ?_
      refine lv_aload_n hx hb dX2_work_38 rfl (lv_at hl 1 rfl) ?_
      refine va_get (D := D) (ci := 2) (v := .ref bd) (C := RX2) (T := TX2) (N := 5) hx hb hts wc_X2_work_X2 hown hK hP 0 rfl rfl 1 (by decide) (hts _ wd_X2_work_4) (fun _ h9 => h9) rfl dX2_work_39 ?_
      refine lv_iload_n hx hb dX2_work_42 rfl (lv_at hl 0 rfl) ?_
      refine va_calli (va_runV (As := [.int (nI b)]) (rest := [.int (nI k), .ref cr]) ⟨hx, hb, hml, hown, hts⟩ (met_X0_dustOfADay l D cI cZ cL bd bd0 bd1 bd2 bd3 nb (Q 1) b (by first | assumption | omega)) (cwV 1 hts gX2_work_X0_dustOfADay rfl rfl rfl (by decide +kernel) ⟨Nat.le_of_ble_eq_true rfl, Nat.le_of_ble_eq_true rfl⟩) (gw_pvr hK hP (wc := [(bd, .inr (0, [.ref bd0, .ref bd1, .ref bd2, .ref bd3, .int (nI nb)])), (bd0, .inl (cI, 5, .inl (Q 1)))]) [1, 2] rfl 0 rfl rfl rfl) rfl rfl hl.1 rfl (lv_room (Nat.le_of_ble_eq_true rfl)) dX2_work_43 ⟨Nat.zero_le _, Nat.zero_le _⟩) hS (fun _ _ z => z.elim) (fun _ z => z.elim) (fun r_11 _ t H1 locs ht hvm hw hB hz1 hk1 hS => ?_)
      have hP := gw_ro hP hk1
      generalize H1 = H at hP hS ⊢
      subst hw
      have hFc := gw_free (wc := [(cr, .inr (1, [.ref cr0, .ref cr1, .ref cr2, .ref cr3, .int (nI nq)])), (cr0, .inl (cI, 6, .inl (Q 5))), (cr2, .inl (cI, 6, .inl (Q 7))), (cr3, .inl (cI, 6, .inl (Q 8)))]) hD [6, 7, 9, 10] rfl
      refine va_callv (va_runV (As := [.int (nI k), .int ((Q 1) b + 1)]) (rest := []) ⟨hx, hb, hml, hown, hts⟩ (met_X1_toil l D cI cZ cL cr cr0 cr1 cr2 cr3 nq (Q 5) (Q 7) (Q 8) k ((Q 1) b + 1) (by first | assumption | omega)) (cwV 2 hts gX2_work_X1_toil rfl rfl rfl (by decide +kernel) ⟨Nat.le_of_ble_eq_true rfl, Nat.le_of_ble_eq_true rfl⟩) (gw_pvw hK hP hD (wc := [(cr, .inr (1, [.ref cr0, .ref cr1, .ref cr2, .ref cr3, .int (nI nq)])), (cr0, .inl (cI, 6, .inl (Q 5))), (cr2, .inl (cI, 6, .inl (Q 7))), (cr3, .inl (cI, 6, .inl (Q 8)))]) [6, 7, 9, 10] (by decide) rfl rfl 1 rfl rfl rfl) rfl rfl hl.1 rfl (lv_room (Nat.le_of_ble_eq_true rfl)) dX2_work_46 ⟨Nat.zero_le _, Nat.zero_le _⟩) hS (fun q _ h => hFc q h) hFc (fun _ t H1 locs ht hvm hw hB hz1 hk1 hS => ?_)
      rw [ht] at hB
      obtain ⟨hP, hD⟩ := gw_upd (wc := [(cr, .inr (1, [.ref cr0, .ref cr1, .ref cr2, .ref cr3, .int (nI nq)])), (cr0, .inl (cI, 6, .inl (Q 5))), (cr2, .inl (cI, 6, .inl (Q 7))), (cr3, .inl (cI, 6, .inl (Q 8)))]) (w1 := [(cr, .inr (1, [.ref cr0, .ref cr1, .ref cr2, .ref cr3, .int (nI nq)])), (cr0, .inl (cI, 6, .inl (Q 5))), (cr2, .inl (cI, 6, .inl (upd (Q 7) k (if (Q 7) k + ((Q 1) b + 1) < 100 then (Q 7) k + ((Q 1) b + 1) else 100)))), (cr3, .inl (cI, 6, .inl (upd (Q 8) k ((Q 8) k + (Q 5) k))))]) (ws' := [(qu, .inr (2, [.ref qf, .ref bd, .ref cr, .ref wh, .int (nI day)])), (bd, .inr (0, [.ref bd0, .ref bd1, .ref bd2, .ref bd3, .int (nI nb)])), (bd0, .inl (cI, 5, .inl (Q 1))), (bd1, .inl (cI, 5, .inl (Q 2))), (bd2, .inl (cI, 5, .inl (Q 3))), (bd3, .inl (cI, 5, .inl (Q 4))), (cr, .inr (1, [.ref cr0, .ref cr1, .ref cr2, .ref cr3, .int (nI nq)])), (cr0, .inl (cI, 6, .inl (Q 5))), (cr1, .inl (cI, 6, .inl (Q 6))), (cr2, .inl (cI, 6, .inl (upd (Q 7) k (if (Q 7) k + ((Q 1) b + 1) < 100 then (Q 7) k + ((Q 1) b + 1) else 100)))), (cr3, .inl (cI, 6, .inl (upd (Q 8) k ((Q 8) k + (Q 5) k)))), (wh, .inr (4, [.ref wh0, .ref wh1, .ref wh2, .ref wh3, .ref wh4, .ref wh5, .int (nI nw)])), (wh0, .inl (cI, 60, .inl (Q 9))), (wh1, .inl (cI, 60, .inl (Q 10))), (wh2, .inl (cI, 60, .inl (Q 11))), (wh3, .inl (cZ, 60, .inl (Q 12))), (wh4, .inl (cI, 60, .inl (Q 13))), (wh5, .inl (cI, 60, .inl (Q 14)))]) hP hD [6, 7, 9, 10] rfl rfl hk1 hB rfl
      generalize H1 = H at hP hS ⊢
      refine lv_aload_n hx hb dX2_work_49 rfl (lv_at hl 1 rfl) ?_
      refine lv_aload_n hx hb dX2_work_50 rfl (lv_at hl 1 rfl) ?_
      refine va_get (D := D) (ci := 2) (v := .ref cr) (C := RX2) (T := TX2) (N := 5) hx hb hts wc_X2_work_X2 hown hK hP 0 rfl rfl 2 (by decide) (hts _ wd_X2_work_1) (fun _ h9 => h9) rfl dX2_work_51 ?_
      refine va_get (D := D) (ci := 1) (v := .ref cr0) (C := RX1) (T := TX1) (N := 5) hx hb hts wc_X2_work_X1 hown hK hP 6 rfl rfl 0 (by decide) (hts _ wd_X2_work_5) (fun _ h9 => h9) rfl dX2_work_54 ?_
      refine lv_iload_n hx hb dX2_work_57 rfl (lv_at hl 2 rfl) ?_
      refine gw_iald hx hb hK hP 7 0 (k := k) rfl rfl (by omega) (by decide) dX2_work_58 ?_
      refine va_calli (va_runV (As := [.int ((Q 5) k)]) (rest := []) ⟨hx, hb, hml, hown, hts⟩ (met_X2_sizeToday l D cI cZ cL qu qf bd cr wh day ((Q 5) k)) (cwV 1 hts gX2_work_X2_sizeToday rfl rfl rfl (by decide +kernel) ⟨Nat.le_of_ble_eq_true rfl, Nat.le_of_ble_eq_true rfl⟩) (gw_pvr hK hP (wc := [(qu, .inr (2, [.ref qf, .ref bd, .ref cr, .ref wh, .int (nI day)]))]) [0] rfl 2 rfl rfl rfl) rfl rfl hl.1 rfl (lv_room (Nat.le_of_ble_eq_true rfl)) dX2_work_59 ⟨Nat.zero_le _, Nat.zero_le _⟩) hS (fun _ _ z => z.elim) (fun _ z => z.elim) (fun r_15 _ t H1 locs ht hvm hw hB hz1 hk1 hS => ?_)
      have hP := gw_ro hP hk1
      generalize H1 = H at hP hS ⊢
      subst hw
      refine lv_istore_n (lv' := [(3, .int (gSize ((Q 5) k) day)), (2, .int (nI b)), (0, .ref qu), (1, .int (nI k))]) hx hb dX2_work_62 rfl hl (by decide) rfl (fun ls hl => ?_)
      refine lv_bipush (v := 60) hx hb dX2_work_63 (by decide) ?_
      refine lv_aload_n hx hb dX2_work_65 rfl (lv_at hl 2 rfl) ?_
      refine va_get (D := D) (ci := 2) (v := .ref wh) (C := RX2) (T := TX2) (N := 5) hx hb hts wc_X2_work_X2 hown hK hP 0 rfl rfl 3 (by decide) (hts _ wd_X2_work_6) (fun _ h9 => h9) rfl dX2_work_66 ?_
      refine va_get (D := D) (ci := 4) (v := .int (nI nw)) (C := RX4) (T := TX4) (N := 7) hx hb hts wc_X2_work_X4 hown hK hP 11 rfl rfl 6 (by decide) (hts _ wd_X2_work_8) (fun _ h9 => h9) rfl dX2_work_69 ?_
      refine lv_isub hx hb dX2_work_72 ?_
      refine gw_top (y := nI (60 - nw)) (nI_sub hnw) ?_
      refine lv_istore (lv' := [(4, .int (nI (60 - nw))), (3, .int (gSize ((Q 5) k) day)), (2, .int (nI b)), (0, .ref qu), (1, .int (nI k))]) hx hb dX2_work_73 hl (by decide) rfl (fun ls hl => ?_)
      refine gw_loop (fun (zz : Nat × (Nat → Nat → Int32) × Nat) H locs ls => match zz with | (kq, Q2, nw2) => va_P D vwCl [(qu, .inr (2, [.ref qf, .ref bd, .ref cr, .ref wh, .int (nI day)])), (bd, .inr (0, [.ref bd0, .ref bd1, .ref bd2, .ref bd3, .int (nI nb)])), (bd0, .inl (cI, 5, .inl (Q2 1))), (bd1, .inl (cI, 5, .inl (Q2 2))), (bd2, .inl (cI, 5, .inl (Q2 3))), (bd3, .inl (cI, 5, .inl (Q2 4))), (cr, .inr (1, [.ref cr0, .ref cr1, .ref cr2, .ref cr3, .int (nI nq)])), (cr0, .inl (cI, 6, .inl (Q2 5))), (cr1, .inl (cI, 6, .inl (Q2 6))), (cr2, .inl (cI, 6, .inl (Q2 7))), (cr3, .inl (cI, 6, .inl (Q2 8))), (wh, .inr (4, [.ref wh0, .ref wh1, .ref wh2, .ref wh3, .ref wh4, .ref wh5, .int (nI nw2)])), (wh0, .inl (cI, 60, .inl (Q2 9))), (wh1, .inl (cI, 60, .inl (Q2 10))), (wh2, .inl (cI, 60, .inl (Q2 11))), (wh3, .inl (cZ, 60, .inl (Q2 12))), (wh4, .inl (cI, 60, .inl (Q2 13))), (wh5, .inl (cI, 60, .inl (Q2 14)))] H ∧ va_D A [(qu, .inr (2, [.ref qf, .ref bd, .ref cr, .ref wh, .int (nI day)])), (bd, .inr (0, [.ref bd0, .ref bd1, .ref bd2, .ref bd3, .int (nI nb)])), (bd0, .inl (cI, 5, .inl (Q2 1))), (bd1, .inl (cI, 5, .inl (Q2 2))), (bd2, .inl (cI, 5, .inl (Q2 3))), (bd3, .inl (cI, 5, .inl (Q2 4))), (cr, .inr (1, [.ref cr0, .ref cr1, .ref cr2, .ref cr3, .int (nI nq)])), (cr0, .inl (cI, 6, .inl (Q2 5))), (cr1, .inl (cI, 6, .inl (Q2 6))), (cr2, .inl (cI, 6, .inl (Q2 7))), (cr3, .inl (cI, 6, .inl (Q2 8))), (wh, .inr (4, [.ref wh0, .ref wh1, .ref wh2, .ref wh3, .ref wh4, .ref wh5, .int (nI nw2)])), (wh0, .inl (cI, 60, .inl (Q2 9))), (wh1, .inl (cI, 60, .inl (Q2 10))), (wh2, .inl (cI, 60, .inl (Q2 11))), (wh3, .inl (cZ, 60, .inl (Q2 12))), (wh4, .inl (cI, 60, .inl (Q2 13))), (wh5, .inl (cI, 60, .inl (Q2 14)))] ∧ va_S A s.heap H locs ∧ lv_has ls 5 [(4, .int (nI kq)), (3, .int (gSize ((Q 5) k) day)), (2, .int (nI b)), (0, .ref qu), (1, .int (nI k))] ∧ (nw2 + kq = 60) ∧ (gWk k b (gSize (Q 5 k) day) kq Q2 nw2 = gWork Q nw day k)) (fun (zz : Nat × (Nat → Nat → Int32) × Nat) => match zz with | (kq, Q2, nw2) => kq) (60 - nw, gToil Q k b, nw) ⟨hP, hD, hS, lv_sub hl [0, 1, 2, 3, 4] rfl, (by omega), (by unfold gWork; rw [if_neg hne, if_neg hc2, hbe, nI_clamp (by omega)])⟩ ?_
      rintro ⟨kq, Q2, nw2⟩ ih H locs ls ⟨hP, hD, hS, hl, hin, hF⟩
      have hP : va_P D vwCl [(qu, .inr (2, [.ref qf, .ref bd, .ref cr, .ref wh, .int (nI day)])), (bd, .inr (0, [.ref bd0, .ref bd1, .ref bd2, .ref bd3, .int (nI nb)])), (bd0, .inl (cI, 5, .inl (Q2 1))), (bd1, .inl (cI, 5, .inl (Q2 2))), (bd2, .inl (cI, 5, .inl (Q2 3))), (bd3, .inl (cI, 5, .inl (Q2 4))), (cr, .inr (1, [.ref cr0, .ref cr1, .ref cr2, .ref cr3, .int (nI nq)])), (cr0, .inl (cI, 6, .inl (Q2 5))), (cr1, .inl (cI, 6, .inl (Q2 6))), (cr2, .inl (cI, 6, .inl (Q2 7))), (cr3, .inl (cI, 6, .inl (Q2 8))), (wh, .inr (4, [.ref wh0, .ref wh1, .ref wh2, .ref wh3, .ref wh4, .ref wh5, .int (nI nw2)])), (wh0, .inl (cI, 60, .inl (Q2 9))), (wh1, .inl (cI, 60, .inl (Q2 10))), (wh2, .inl (cI, 60, .inl (Q2 11))), (wh3, .inl (cZ, 60, .inl (Q2 12))), (wh4, .inl (cI, 60, .inl (Q2 13))), (wh5, .inl (cI, 60, .inl (Q2 14)))] H := hP
      have hD : va_D A [(qu, .inr (2, [.ref qf, .ref bd, .ref cr, .ref wh, .int (nI day)])), (bd, .inr (0, [.ref bd0, .ref bd1, .ref bd2, .ref bd3, .int (nI nb)])), (bd0, .inl (cI, 5, .inl (Q2 1))), (bd1, .inl (cI, 5, .inl (Q2 2))), (bd2, .inl (cI, 5, .inl (Q2 3))), (bd3, .inl (cI, 5, .inl (Q2 4))), (cr, .inr (1, [.ref cr0, .ref cr1, .ref cr2, .ref cr3, .int (nI nq)])), (cr0, .inl (cI, 6, .inl (Q2 5))), (cr1, .inl (cI, 6, .inl (Q2 6))), (cr2, .inl (cI, 6, .inl (Q2 7))), (cr3, .inl (cI, 6, .inl (Q2 8))), (wh, .inr (4, [.ref wh0, .ref wh1, .ref wh2, .ref wh3, .ref wh4, .ref wh5, .int (nI nw2)])), (wh0, .inl (cI, 60, .inl (Q2 9))), (wh1, .inl (cI, 60, .inl (Q2 10))), (wh2, .inl (cI, 60, .inl (Q2 11))), (wh3, .inl (cZ, 60, .inl (Q2 12))), (wh4, .inl (cI, 60, .inl (Q2 13))), (wh5, .inl (cI, 60, .inl (Q2 14)))] := hD
      have hl : lv_has ls 5 [(4, .int (nI kq)), (3, .int (gSize ((Q 5) k) day)), (2, .int (nI b)), (0, .ref qu), (1, .int (nI k))] := hl
      have hin : nw2 + kq = 60 := hin
      have hF : gWk k b (gSize (Q 5 k) day) kq Q2 nw2 = gWork Q nw day k := hF
      have ih75 := ih
      refine lv_iload hx hb dX2_work_75 (lv_at hl 0 rfl) ?_
      refine lv_if_le (tgt := 133) hx hb dX2_work_77 (by decide) (fun c1 => ?_) (fun c1 => ?_)
      · skip
        have hk0 : kq = 0 := by rcases Nat.eq_zero_or_pos kq with h | h; exact h; exact absurd c1 (nI_nle h (by omega))
        subst hk0
        have hE : gWork Q nw day k = (Q2, nw2) := by rw [← hF]; rfl
        subst hAe
        exact W.vret hx hb hr (fun t ht hW => ⟨⟨(), rfl, trivial, (by rw [hE]; exact gw_hh ht hP)⟩, hS.F ht⟩) hS.2.2 dX2_work_133
      · skip
        obtain ⟨kq, rfl⟩ : ∃ k2, kq = k2 + 1 := ⟨kq - 1, by rcases Nat.eq_zero_or_pos kq with h | h; exact absurd (by rw [h]; decide) c1; omega⟩
        refine lv_aload_n hx hb dX2_work_80 rfl (lv_at hl 3 rfl) ?_
        refine va_get (D := D) (ci := 2) (v := .ref cr) (C := RX2) (T := TX2) (N := 5) hx hb hts wc_X2_work_X2 hown hK hP 0 rfl rfl 2 (by decide) (hts _ wd_X2_work_1) (fun _ h9 => h9) rfl dX2_work_81 ?_
        refine va_get (D := D) (ci := 1) (v := .ref cr3) (C := RX1) (T := TX1) (N := 5) hx hb hts wc_X2_work_X1 hown hK hP 6 rfl rfl 3 (by decide) (hts _ wd_X2_work_9) (fun _ h9 => h9) rfl dX2_work_84 ?_
        refine lv_iload_n hx hb dX2_work_87 rfl (lv_at hl 4 rfl) ?_
        refine gw_iald hx hb hK hP 10 0 (k := k) rfl rfl (by omega) (by decide) dX2_work_88 ?_
        refine lv_bipush (v := 10) hx hb dX2_work_89 (by decide) ?_
        refine lv_icmp_lt (tgt := 106) hx hb dX2_work_91 (by decide) (fun c2 => ?_) (fun c2 => ?_)
        · skip
          have hE : gWork Q nw day k = (Q2, nw2) := by rw [← hF]; simp [gWk, c2]
          subst hAe
          exact W.vret hx hb hr (fun t ht hW => ⟨⟨(), rfl, trivial, (by rw [hE]; exact gw_hh ht hP)⟩, hS.F ht⟩) hS.2.2 dX2_work_106
        · skip
          refine lv_aload_n hx hb dX2_work_94 rfl (lv_at hl 3 rfl) ?_
          refine va_get (D := D) (ci := 2) (v := .ref bd) (C := RX2) (T := TX2) (N := 5) hx hb hts wc_X2_work_X2 hown hK hP 0 rfl rfl 1 (by decide) (hts _ wd_X2_work_4) (fun _ h9 => h9) rfl dX2_work_95 ?_
          refine va_get (D := D) (ci := 0) (v := .ref bd2) (C := RX0) (T := TX0) (N := 5) hx hb hts wc_X2_work_X0 hown hK hP 1 rfl rfl 2 (by decide) (hts _ wd_X2_work_11) (fun _ h9 => h9) rfl dX2_work_98 ?_
          refine lv_iload_n hx hb dX2_work_101 rfl (lv_at hl 2 rfl) ?_
          refine gw_iald hx hb hK hP 4 0 (k := b) rfl rfl (by omega) (by decide) dX2_work_102 ?_
          refine lv_if_gt (tgt := 107) hx hb dX2_work_103 (by decide) (fun c3 => ?_) (fun c3 => ?_)
          · skip
            refine lv_aload_n hx hb dX2_work_107 rfl (lv_at hl 3 rfl) ?_
            refine va_get (D := D) (ci := 2) (v := .ref cr) (C := RX2) (T := TX2) (N := 5) hx hb hts wc_X2_work_X2 hown hK hP 0 rfl rfl 2 (by decide) (hts _ wd_X2_work_1) (fun _ h9 => h9) rfl dX2_work_108 ?_
            refine va_get (D := D) (ci := 1) (v := .ref cr3) (C := RX1) (T := TX1) (N := 5) hx hb hts wc_X2_work_X1 hown hK hP 6 rfl rfl 3 (by decide) (hts _ wd_X2_work_9) (fun _ h9 => h9) rfl dX2_work_111 ?_
            refine lv_iload_n hx hb dX2_work_114 rfl (lv_at hl 4 rfl) ?_
            refine lv_dup2_11 hx hb dX2_work_115 rfl rfl ?_
            refine gw_iald hx hb hK hP 10 0 (k := k) rfl rfl (by omega) (by decide) dX2_work_116 ?_
            refine lv_bipush (v := 10) hx hb dX2_work_117 (by decide) ?_
            refine lv_isub hx hb dX2_work_119 ?_
            refine gw_iast hx hb hK hP hD hS 10 0 (k := k) rfl rfl (by omega) (by decide) dX2_work_120 (fun H locs hP hD hS => ?_)
            have hP : va_P D vwCl [(qu, .inr (2, [.ref qf, .ref bd, .ref cr, .ref wh, .int (nI day)])), (bd, .inr (0, [.ref bd0, .ref bd1, .ref bd2, .ref bd3, .int (nI nb)])), (bd0, .inl (cI, 5, .inl (Q2 1))), (bd1, .inl (cI, 5, .inl (Q2 2))), (bd2, .inl (cI, 5, .inl (Q2 3))), (bd3, .inl (cI, 5, .inl (Q2 4))), (cr, .inr (1, [.ref cr0, .ref cr1, .ref cr2, .ref cr3, .int (nI nq)])), (cr0, .inl (cI, 6, .inl (Q2 5))), (cr1, .inl (cI, 6, .inl (Q2 6))), (cr2, .inl (cI, 6, .inl (Q2 7))), (cr3, .inl (cI, 6, .inl (upd (Q2 8) k ((Q2 8 k) - 10)))), (wh, .inr (4, [.ref wh0, .ref wh1, .ref wh2, .ref wh3, .ref wh4, .ref wh5, .int (nI nw2)])), (wh0, .inl (cI, 60, .inl (Q2 9))), (wh1, .inl (cI, 60, .inl (Q2 10))), (wh2, .inl (cI, 60, .inl (Q2 11))), (wh3, .inl (cZ, 60, .inl (Q2 12))), (wh4, .inl (cI, 60, .inl (Q2 13))), (wh5, .inl (cI, 60, .inl (Q2 14)))] H := hP
            have hD : va_D A [(qu, .inr (2, [.ref qf, .ref bd, .ref cr, .ref wh, .int (nI day)])), (bd, .inr (0, [.ref bd0, .ref bd1, .ref bd2, .ref bd3, .int (nI nb)])), (bd0, .inl (cI, 5, .inl (Q2 1))), (bd1, .inl (cI, 5, .inl (Q2 2))), (bd2, .inl (cI, 5, .inl (Q2 3))), (bd3, .inl (cI, 5, .inl (Q2 4))), (cr, .inr (1, [.ref cr0, .ref cr1, .ref cr2, .ref cr3, .int (nI nq)])), (cr0, .inl (cI, 6, .inl (Q2 5))), (cr1, .inl (cI, 6, .inl (Q2 6))), (cr2, .inl (cI, 6, .inl (Q2 7))), (cr3, .inl (cI, 6, .inl (upd (Q2 8) k ((Q2 8 k) - 10)))), (wh, .inr (4, [.ref wh0, .ref wh1, .ref wh2, .ref wh3, .ref wh4, .ref wh5, .int (nI nw2)])), (wh0, .inl (cI, 60, .inl (Q2 9))), (wh1, .inl (cI, 60, .inl (Q2 10))), (wh2, .inl (cI, 60, .inl (Q2 11))), (wh3, .inl (cZ, 60, .inl (Q2 12))), (wh4, .inl (cI, 60, .inl (Q2 13))), (wh5, .inl (cI, 60, .inl (Q2 14)))] := hD
            refine lv_aload_n hx hb dX2_work_121 rfl (lv_at hl 3 rfl) ?_
            refine lv_iload_n hx hb dX2_work_122 rfl (lv_at hl 2 rfl) ?_
            refine lv_iload_n hx hb dX2_work_123 rfl (lv_at hl 1 rfl) ?_
            have hFc := gw_free (wc := [(qu, .inr (2, [.ref qf, .ref bd, .ref cr, .ref wh, .int (nI day)])), (bd, .inr (0, [.ref bd0, .ref bd1, .ref bd2, .ref bd3, .int (nI nb)])), (bd0, .inl (cI, 5, .inl (Q2 1))), (bd1, .inl (cI, 5, .inl (Q2 2))), (bd2, .inl (cI, 5, .inl (Q2 3))), (bd3, .inl (cI, 5, .inl (Q2 4))), (wh, .inr (4, [.ref wh0, .ref wh1, .ref wh2, .ref wh3, .ref wh4, .ref wh5, .int (nI nw2)])), (wh0, .inl (cI, 60, .inl (Q2 9))), (wh1, .inl (cI, 60, .inl (Q2 10))), (wh2, .inl (cI, 60, .inl (Q2 11))), (wh3, .inl (cZ, 60, .inl (Q2 12))), (wh4, .inl (cI, 60, .inl (Q2 13))), (wh5, .inl (cI, 60, .inl (Q2 14)))]) hD [0, 1, 2, 3, 4, 5, 11, 12, 13, 14, 15, 16, 17] rfl
            refine va_callv (va_runV (As := [.int (nI b), .int (gSize ((Q 5) k) day)]) (rest := []) ⟨hx, hb, hml, hown, hts⟩ (met_X2_cutWheel l D cI cZ cL qu qf bd cr wh bd0 bd1 bd2 bd3 wh0 wh1 wh2 wh3 wh4 wh5 Q2 nw2 nb day b (gSize ((Q 5) k) day) (by first | assumption | omega) (by first | assumption | omega)) (cwV 2 hts gX2_work_X2_cutWheel rfl rfl rfl (by decide +kernel) ⟨Nat.le_of_ble_eq_true rfl, Nat.le_of_ble_eq_true rfl⟩) (gw_pvw hK hP hD (wc := [(qu, .inr (2, [.ref qf, .ref bd, .ref cr, .ref wh, .int (nI day)])), (bd, .inr (0, [.ref bd0, .ref bd1, .ref bd2, .ref bd3, .int (nI nb)])), (bd0, .inl (cI, 5, .inl (Q2 1))), (bd1, .inl (cI, 5, .inl (Q2 2))), (bd2, .inl (cI, 5, .inl (Q2 3))), (bd3, .inl (cI, 5, .inl (Q2 4))), (wh, .inr (4, [.ref wh0, .ref wh1, .ref wh2, .ref wh3, .ref wh4, .ref wh5, .int (nI nw2)])), (wh0, .inl (cI, 60, .inl (Q2 9))), (wh1, .inl (cI, 60, .inl (Q2 10))), (wh2, .inl (cI, 60, .inl (Q2 11))), (wh3, .inl (cZ, 60, .inl (Q2 12))), (wh4, .inl (cI, 60, .inl (Q2 13))), (wh5, .inl (cI, 60, .inl (Q2 14)))]) [0, 1, 2, 3, 4, 5, 11, 12, 13, 14, 15, 16, 17] (by decide) rfl rfl 2 rfl rfl rfl) rfl rfl hl.1 rfl (lv_room (Nat.le_of_ble_eq_true rfl)) dX2_work_124 ⟨Nat.zero_le _, Nat.zero_le _⟩) hS (fun q _ h => hFc q h) hFc (fun _ t H1 locs ht hvm hw hB hz1 hk1 hS => ?_)
            rw [ht] at hB
            obtain ⟨hP, hD⟩ := gw_upd (wc := [(qu, .inr (2, [.ref qf, .ref bd, .ref cr, .ref wh, .int (nI day)])), (bd, .inr (0, [.ref bd0, .ref bd1, .ref bd2, .ref bd3, .int (nI nb)])), (bd0, .inl (cI, 5, .inl (Q2 1))), (bd1, .inl (cI, 5, .inl (Q2 2))), (bd2, .inl (cI, 5, .inl (Q2 3))), (bd3, .inl (cI, 5, .inl (Q2 4))), (wh, .inr (4, [.ref wh0, .ref wh1, .ref wh2, .ref wh3, .ref wh4, .ref wh5, .int (nI nw2)])), (wh0, .inl (cI, 60, .inl (Q2 9))), (wh1, .inl (cI, 60, .inl (Q2 10))), (wh2, .inl (cI, 60, .inl (Q2 11))), (wh3, .inl (cZ, 60, .inl (Q2 12))), (wh4, .inl (cI, 60, .inl (Q2 13))), (wh5, .inl (cI, 60, .inl (Q2 14)))]) (w1 := [(qu, .inr (2, [.ref qf, .ref bd, .ref cr, .ref wh, .int (nI day)])), (bd, .inr (0, [.ref bd0, .ref bd1, .ref bd2, .ref bd3, .int (nI nb)])), (bd0, .inl (cI, 5, .inl (Q2 1))), (bd1, .inl (cI, 5, .inl (Q2 2))), (bd2, .inl (cI, 5, .inl (gCut Q2 nw2 b (gSize ((Q 5) k) day) 3))), (bd3, .inl (cI, 5, .inl (gCut Q2 nw2 b (gSize ((Q 5) k) day) 4))), (wh, .inr (4, [.ref wh0, .ref wh1, .ref wh2, .ref wh3, .ref wh4, .ref wh5, .int (nI (nw2 + 1))])), (wh0, .inl (cI, 60, .inl (gCut Q2 nw2 b (gSize ((Q 5) k) day) 9))), (wh1, .inl (cI, 60, .inl (gCut Q2 nw2 b (gSize ((Q 5) k) day) 10))), (wh2, .inl (cI, 60, .inl (gCut Q2 nw2 b (gSize ((Q 5) k) day) 11))), (wh3, .inl (cZ, 60, .inl (gCut Q2 nw2 b (gSize ((Q 5) k) day) 12))), (wh4, .inl (cI, 60, .inl (gCut Q2 nw2 b (gSize ((Q 5) k) day) 13))), (wh5, .inl (cI, 60, .inl (gCut Q2 nw2 b (gSize ((Q 5) k) day) 14)))]) (ws' := [(qu, .inr (2, [.ref qf, .ref bd, .ref cr, .ref wh, .int (nI day)])), (bd, .inr (0, [.ref bd0, .ref bd1, .ref bd2, .ref bd3, .int (nI nb)])), (bd0, .inl (cI, 5, .inl (Q2 1))), (bd1, .inl (cI, 5, .inl (Q2 2))), (bd2, .inl (cI, 5, .inl (gCut Q2 nw2 b (gSize ((Q 5) k) day) 3))), (bd3, .inl (cI, 5, .inl (gCut Q2 nw2 b (gSize ((Q 5) k) day) 4))), (cr, .inr (1, [.ref cr0, .ref cr1, .ref cr2, .ref cr3, .int (nI nq)])), (cr0, .inl (cI, 6, .inl (Q2 5))), (cr1, .inl (cI, 6, .inl (Q2 6))), (cr2, .inl (cI, 6, .inl (Q2 7))), (cr3, .inl (cI, 6, .inl (upd (Q2 8) k ((Q2 8 k) - 10)))), (wh, .inr (4, [.ref wh0, .ref wh1, .ref wh2, .ref wh3, .ref wh4, .ref wh5, .int (nI (nw2 + 1))])), (wh0, .inl (cI, 60, .inl (gCut Q2 nw2 b (gSize ((Q 5) k) day) 9))), (wh1, .inl (cI, 60, .inl (gCut Q2 nw2 b (gSize ((Q 5) k) day) 10))), (wh2, .inl (cI, 60, .inl (gCut Q2 nw2 b (gSize ((Q 5) k) day) 11))), (wh3, .inl (cZ, 60, .inl (gCut Q2 nw2 b (gSize ((Q 5) k) day) 12))), (wh4, .inl (cI, 60, .inl (gCut Q2 nw2 b (gSize ((Q 5) k) day) 13))), (wh5, .inl (cI, 60, .inl (gCut Q2 nw2 b (gSize ((Q 5) k) day) 14)))]) hP hD [0, 1, 2, 3, 4, 5, 11, 12, 13, 14, 15, 16, 17] rfl rfl hk1 hB rfl
            generalize H1 = H at hP hS ⊢
            refine lv_iinc (v := nI kq) (lv' := [(4, .int (nI kq)), (3, .int (gSize ((Q 5) k) day)), (2, .int (nI b)), (0, .ref qu), (1, .int (nI k))]) hx hb dX2_work_127 hl (k := 0) rfl (pk_m1 kq) (by decide) rfl (fun ls hl => ?_)
            refine lv_goto (tgt := 75) hx hb dX2_work_130 (by decide) ?_
            exact ih75 (kq, gCutW Q2 nw2 k b (gSize (Q 5 k) day), nw2 + 1) H locs ls (by dsimp only; omega) ⟨hP, hD, hS, lv_sub hl [0, 1, 2, 3, 4] rfl, (by omega), (by rw [← hF]; simp [gWk, c2, Int32.not_le.mpr c3])⟩
          · skip
            have hE : gWork Q nw day k = (Q2, nw2) := by rw [← hF]; simp [gWk, Int32.not_lt.mp c3]
            subst hAe
            exact W.vret hx hb hr (fun t ht hW => ⟨⟨(), rfl, trivial, (by rw [hE]; exact gw_hh ht hP)⟩, hS.F ht⟩) hS.2.2 dX2_work_106
  · skip
    have hm1 : Q 6 k = -1 := (hpl k hk).resolve_right hc
    have hE : gWork Q nw day k = (Q, nw) := by unfold gWork; rw [if_pos hm1]
    refine lv_if_eq (tgt := 32) hx hb dX2_work_18 (by decide) (fun _ => ?_) (fun c_21 => False.elim (by revert c_21; decide))
    subst hAe
    exact W.vret hx hb hr (fun t ht hW => ⟨⟨(), rfl, trivial, (by rw [hE]; exact gw_hh ht hP)⟩, hS.F ht⟩) hS.2.2 dX2_work_32
