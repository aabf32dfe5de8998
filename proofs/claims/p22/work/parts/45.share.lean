theorem wc_X5_share_ok_X5 : ∀ w ∈ u_ws RX5 TX5 4, w ∈ wsX5_share := by decide +kernel
theorem wd_X5_share_ok_1 : (.fieldLink RX5 10 "GritWheels" "now" "LGritWheels$Quarry;" : Cond) ∈ wsX5_share := by decide +kernel
theorem wc_X5_share_ok_X2 : ∀ w ∈ u_ws RX2 TX2 5, w ∈ wsX5_share := by decide +kernel
theorem wd_X5_share_ok_3 : (.fieldLink RX5 93 "GritWheels$Quarry" "wheels" "LGritWheels$Wheels;" : Cond) ∈ wsX5_share := by decide +kernel
theorem wc_X5_share_ok_X4 : ∀ w ∈ u_ws RX4 TX4 7, w ∈ wsX5_share := by decide +kernel
theorem wd_X5_share_ok_5 : (.fieldLink RX5 201 "GritWheels$Wheels" "number" "I" : Cond) ∈ wsX5_share := by decide +kernel
set_option maxHeartbeats 4000000 in
set_option maxRecDepth 100000 in
theorem met_X5_share_ok (l : Launch) (D : va_G) (cI cZ cL : ClassId) (gx : Nat) (qu : Nat) (qt : Nat) (rf : Nat) (qf : Nat) (bd : Nat) (cr : Nat) (wh : Nat) (wh0 : Nat) (wh1 : Nat) (wh2 : Nat) (wh3 : Nat) (wh4 : Nat) (wh5 : Nat) (co : Int32) (Q : Nat → Nat → Int32) (nw : Nat) (day : Nat) (hnw : nw ≤ 60) : Met l yX5_share wsX5_share ({ frames := 1, cells := 0, slots := 0, locals := 22 }) (gPr [.ref gx] D [(gx, .inr (5, [.ref qu, .ref qt, .ref rf, .int co])), (qu, .inr (2, [.ref qf, .ref bd, .ref cr, .ref wh, .int (nI day)])), (wh, .inr (4, [.ref wh0, .ref wh1, .ref wh2, .ref wh3, .ref wh4, .ref wh5, .int (nI nw)])), (wh3, .inl (cZ, 60, .inl (Q 12)))] (gT cI cZ cL)) (va_Qd (fun (zr : UInt64) (_ : Unit) => zr = gShare Q nw) (fun _ _ => True) gN) 0 0 gN := by
  refine Met.ofW (cc := cX5_share) (maxL := 2) (ret := (some .double)) (by decide +kernel) rfl ?_
  intro p e s m args below meth c s₁ B hml hv
  obtain ⟨rfl, hP, hK⟩ := hv
  have hx := B.exec
  have hb := B.bytes
  have hr := B.returns
  have hts := atoms_spec (ws := wsX5_share) B.pre
  have hown : s.vm.findClass RX5 = some m.cls := findClass_of_methodNamed B.named
  have hlocks := B.notSynchronized
  have hS : va_S gN s.heap s.heap [] := va_S.rf
  have hP : va_P D vwCl [(gx, .inr (5, [.ref qu, .ref qt, .ref rf, .int co])), (qu, .inr (2, [.ref qf, .ref bd, .ref cr, .ref wh, .int (nI day)])), (wh, .inr (4, [.ref wh0, .ref wh1, .ref wh2, .ref wh3, .ref wh4, .ref wh5, .int (nI nw)])), (wh3, .inl (cZ, 60, .inl (Q 12)))] s.heap := hP
  have hl := lv_entry ([.ref gx]) (n := 2) (Nat.le_of_ble_eq_true rfl)
  rw [lg_entry_eq]
  generalize (lg_sl ([.ref gx]) ++ List.replicate (2 - (lg_sl ([.ref gx])).length) Slot.unset).toArray = ls at hl ⊢
  have hl : lv_has ls 2 [(0, .ref gx)] := hl
  refine lv_aload_n hx hb dX5_share_0 rfl (lv_at hl 0 rfl) ?_
  refine va_get (D := D) (ci := 5) (v := .ref qu) (C := RX5) (T := TX5) (N := 4) hx hb hts wc_X5_share_ok_X5 hown hK hP 0 rfl rfl 0 (by decide) (hts _ wd_X5_share_ok_1) (fun _ h9 => h9) rfl dX5_share_1 ?_
  refine va_get (D := D) (ci := 2) (v := .ref wh) (C := RX2) (T := TX2) (N := 5) hx hb hts wc_X5_share_ok_X2 hown hK hP 1 rfl rfl 3 (by decide) (hts _ wd_X5_share_ok_3) (fun _ h9 => h9) rfl dX5_share_4 ?_
  refine va_get (D := D) (ci := 4) (v := .int (nI nw)) (C := RX4) (T := TX4) (N := 7) hx hb hts wc_X5_share_ok_X4 hown hK hP 2 rfl rfl 6 (by decide) (hts _ wd_X5_share_ok_5) (fun _ h9 => h9) rfl dX5_share_7 ?_
  refine lv_istore_n (lv' := [(1, .int (nI nw)), (0, .ref gx)]) hx hb dX5_share_10 rfl hl (by decide) rfl (fun ls hl => ?_)
  refine lv_iload_n hx hb dX5_share_11 rfl (lv_at hl 0 rfl) ?_
  refine lv_if_ne (tgt := 19) hx hb dX5_share_12 (by decide) (fun c => ?_) (fun c => ?_)
  · skip
    have hn0 : ¬ nw = 0 := fun h => c (by rw [h]; rfl)
    refine lv_aload_n hx hb dX5_share_19 rfl (lv_at hl 1 rfl) ?_
    refine va_get (D := D) (ci := 5) (v := .ref qu) (C := RX5) (T := TX5) (N := 4) hx hb hts wc_X5_share_ok_X5 hown hK hP 0 rfl rfl 0 (by decide) (hts _ wd_X5_share_ok_1) (fun _ h9 => h9) rfl dX5_share_20 ?_
    refine va_get (D := D) (ci := 2) (v := .ref wh) (C := RX2) (T := TX2) (N := 5) hx hb hts wc_X5_share_ok_X2 hown hK hP 1 rfl rfl 3 (by decide) (hts _ wd_X5_share_ok_3) (fun _ h9 => h9) rfl dX5_share_23 ?_
    refine va_calli (va_runV (As := []) (rest := []) ⟨hx, hb, hml, hown, hts⟩ (met_X4_numberSound l D cI cZ cL wh wh0 wh1 wh2 wh3 wh4 wh5 nw (Q 12) (by first | assumption | omega)) (cwV 0 hts gX5_share_X4_numberSound rfl rfl rfl (by decide +kernel) ⟨Nat.le_of_ble_eq_true rfl, Nat.le_of_ble_eq_true rfl⟩) (gw_pvr hK hP (wc := [(wh, .inr (4, [.ref wh0, .ref wh1, .ref wh2, .ref wh3, .ref wh4, .ref wh5, .int (nI nw)])), (wh3, .inl (cZ, 60, .inl (Q 12)))]) [2, 3] rfl 4 rfl rfl rfl) rfl rfl hl.1 rfl (lv_room (Nat.le_of_ble_eq_true rfl)) dX5_share_26 ⟨Nat.zero_le _, Nat.zero_le _⟩) hS (fun _ _ z => z.elim) (fun _ z => z.elim) (fun r_3 _ t H1 locs ht hvm hw hB hz1 hk1 hS => ?_)
    have hP := gw_ro hP hk1
    generalize H1 = H at hP hS ⊢
    subst hw
    refine lv_i2d hx hb dX5_share_29 ?_
    refine lv_iload_n hx hb dX5_share_30 rfl (lv_at hl 0 rfl) ?_
    refine lv_i2d hx hb dX5_share_31 ?_
    refine lv_ddiv hx hb dX5_share_32 (gShare_nn hnw hn0) ?_
    exact W.dret (v := FP.ddiv (FP.i2d (gS (fun j => if (Q 12) j = 0 then 1 else 0) nw 0 0)) (FP.i2d (nI nw))) hx hb hr (fun t ht hW => ⟨⟨_, (), rfl, (by unfold gShare; first | rw [if_pos hn0] | rw [if_neg hn0]), trivial⟩, hS.F ht⟩) hS.2.2 dX5_share_33
  · skip
    have hn0 : nw = 0 := (nI_eq (by omega) (by decide)).mp (show nI nw = nI 0 from c)
    refine lv_dconst0 hx hb dX5_share_15 ?_
    refine lv_goto (tgt := 33) hx hb dX5_share_16 (by decide) ?_
    exact W.dret (v := 0) hx hb hr (fun t ht hW => ⟨⟨_, (), rfl, (by unfold gShare; first | rw [if_pos hn0] | rw [if_neg hn0]), trivial⟩, hS.F ht⟩) hS.2.2 dX5_share_33
