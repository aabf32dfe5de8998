theorem wd_X5_digest_ok_0 : (.constantLong RX5 221 (1237) : Cond) ∈ wsX5_digest := by decide +kernel
theorem wc_X5_digest_ok_X5 : ∀ w ∈ u_ws RX5 TX5 4, w ∈ wsX5_digest := by decide +kernel
theorem wd_X5_digest_ok_2 : (.fieldLink RX5 10 "GritWheels" "now" "LGritWheels$Quarry;" : Cond) ∈ wsX5_digest := by decide +kernel
theorem wc_X5_digest_ok_X2 : ∀ w ∈ u_ws RX2 TX2 5, w ∈ wsX5_digest := by decide +kernel
theorem wd_X5_digest_ok_4 : (.fieldLink RX5 48 "GritWheels$Quarry" "beds" "LGritWheels$Beds;" : Cond) ∈ wsX5_digest := by decide +kernel
theorem wc_X5_digest_ok_X0 : ∀ w ∈ u_ws RX0 TX0 5, w ∈ wsX5_digest := by decide +kernel
theorem wd_X5_digest_ok_6 : (.fieldLink RX5 52 "GritWheels$Beds" "number" "I" : Cond) ∈ wsX5_digest := by decide +kernel
theorem wd_X5_digest_ok_7 : (.fieldLink RX5 69 "GritWheels$Quarry" "crew" "LGritWheels$Crew;" : Cond) ∈ wsX5_digest := by decide +kernel
theorem wc_X5_digest_ok_X1 : ∀ w ∈ u_ws RX1 TX1 5, w ∈ wsX5_digest := by decide +kernel
theorem wd_X5_digest_ok_9 : (.fieldLink RX5 73 "GritWheels$Crew" "number" "I" : Cond) ∈ wsX5_digest := by decide +kernel
theorem wd_X5_digest_ok_10 : (.fieldLink RX5 93 "GritWheels$Quarry" "wheels" "LGritWheels$Wheels;" : Cond) ∈ wsX5_digest := by decide +kernel
theorem wc_X5_digest_ok_X4 : ∀ w ∈ u_ws RX4 TX4 7, w ∈ wsX5_digest := by decide +kernel
theorem wd_X5_digest_ok_12 : (.fieldLink RX5 201 "GritWheels$Wheels" "number" "I" : Cond) ∈ wsX5_digest := by decide +kernel
theorem wd_X5_digest_ok_13 : (.fieldLink RX5 22 "GritWheels" "rafts" "LGritWheels$Rafts;" : Cond) ∈ wsX5_digest := by decide +kernel
theorem wc_X5_digest_ok_X3 : ∀ w ∈ u_ws RX3 TX3 3, w ∈ wsX5_digest := by decide +kernel
theorem wd_X5_digest_ok_15 : (.fieldLink RX5 124 "GritWheels$Rafts" "number" "I" : Cond) ∈ wsX5_digest := by decide +kernel
theorem wd_X5_digest_ok_16 : (.fieldLink RX5 42 "GritWheels$Quarry" "fall" "[I" : Cond) ∈ wsX5_digest := by decide +kernel
set_option maxHeartbeats 4000000 in
set_option maxRecDepth 100000 in
theorem met_X5_digest_ok (l : Launch) (D : va_G) (cI cZ cL : ClassId) (gx : Nat) (qu : Nat) (qt : Nat) (rf : Nat) (qf : Nat) (bd : Nat) (cr : Nat) (wh : Nat) (bd0 : Nat) (bd1 : Nat) (bd2 : Nat) (bd3 : Nat) (cr0 : Nat) (cr1 : Nat) (cr2 : Nat) (cr3 : Nat) (wh0 : Nat) (wh1 : Nat) (wh2 : Nat) (wh3 : Nat) (wh4 : Nat) (wh5 : Nat) (rf0 : Nat) (rf1 : Nat) (co : Int32) (Q : Nat → Nat → Int32) (nb : Nat) (nq : Nat) (nw : Nat) (day : Nat) (nr : Nat) (ca : Nat → Int32) (bo : Nat → Int32) (hnq : nq ≤ 6) (hnb : nb ≤ 5) (hnw : nw ≤ 60) (hnr : nr ≤ 3) (hd : day < 2 ^ 31) (hpl : gPl Q nb nq) : Met l yX5_digest wsX5_digest ({ frames := 5, cells := 0, slots := 0, locals := 104 }) (gPr [.ref gx] D [(gx, .inr (5, [.ref qu, .ref qt, .ref rf, .int co])), (qu, .inr (2, [.ref qf, .ref bd, .ref cr, .ref wh, .int (nI day)])), (qf, .inl (cI, 9, .inl (Q 0))), (bd, .inr (0, [.ref bd0, .ref bd1, .ref bd2, .ref bd3, .int (nI nb)])), (bd0, .inl (cI, 5, .inl (Q 1))), (bd1, .inl (cI, 5, .inl (Q 2))), (bd2, .inl (cI, 5, .inl (Q 3))), (bd3, .inl (cI, 5, .inl (Q 4))), (cr, .inr (1, [.ref cr0, .ref cr1, .ref cr2, .ref cr3, .int (nI nq)])), (cr0, .inl (cI, 6, .inl (Q 5))), (cr1, .inl (cI, 6, .inl (Q 6))), (cr2, .inl (cI, 6, .inl (Q 7))), (cr3, .inl (cI, 6, .inl (Q 8))), (wh, .inr (4, [.ref wh0, .ref wh1, .ref wh2, .ref wh3, .ref wh4, .ref wh5, .int (nI nw)])), (wh0, .inl (cI, 60, .inl (Q 9))), (wh1, .inl (cI, 60, .inl (Q 10))), (wh2, .inl (cI, 60, .inl (Q 11))), (wh3, .inl (cZ, 60, .inl (Q 12))), (wh4, .inl (cI, 60, .inl (Q 13))), (wh5, .inl (cI, 60, .inl (Q 14))), (rf, .inr (3, [.ref rf0, .ref rf1, .int (nI nr)])), (rf0, .inl (cI, 3, .inl ca)), (rf1, .inl (cI, 3, .inl bo))] (gT cI cZ cL)) (va_Ql (fun (zr : Int64) (_ : Unit) => zr = gDD 4 (fun r v => gRaft Q nw day ca bo v r) nr 0 (gDD 6 (fun w v => gFact v (Q 9 w) (Q 11 w) (Q 10 w) (Q 13 w) (Q 12 w) (Q 14 w)) nw 0 (gDD 5 (fun q v => gQua Q v q) nq 0 (gDD 6 (fun b v => gBed Q nq nw v b) nb 0 (gD (Q 0) 9 0 (gD (gCntC Q nq nw day co) 10 0 1237)))))) (fun _ _ => True) gN) 0 0 gN := by
  refine Met.ofW (cc := cX5_digest) (maxL := 5) (ret := (some .long)) (by decide +kernel) rfl ?_
  intro p e s m args below meth c s₁ B hml hv
  obtain ⟨rfl, hP, hK⟩ := hv
  have hx := B.exec
  have hb := B.bytes
  have hr := B.returns
  have hts := atoms_spec (ws := wsX5_digest) B.pre
  have hown : s.vm.findClass RX5 = some m.cls := findClass_of_methodNamed B.named
  have hlocks := B.notSynchronized
  have hS : va_S gN s.heap s.heap [] := va_S.rf
  have hP : va_P D vwCl [(gx, .inr (5, [.ref qu, .ref qt, .ref rf, .int co])), (qu, .inr (2, [.ref qf, .ref bd, .ref cr, .ref wh, .int (nI day)])), (qf, .inl (cI, 9, .inl (Q 0))), (bd, .inr (0, [.ref bd0, .ref bd1, .ref bd2, .ref bd3, .int (nI nb)])), (bd0, .inl (cI, 5, .inl (Q 1))), (bd1, .inl (cI, 5, .inl (Q 2))), (bd2, .inl (cI, 5, .inl (Q 3))), (bd3, .inl (cI, 5, .inl (Q 4))), (cr, .inr (1, [.ref cr0, .ref cr1, .ref cr2, .ref cr3, .int (nI nq)])), (cr0, .inl (cI, 6, .inl (Q 5))), (cr1, .inl (cI, 6, .inl (Q 6))), (cr2, .inl (cI, 6, .inl (Q 7))), (cr3, .inl (cI, 6, .inl (Q 8))), (wh, .inr (4, [.ref wh0, .ref wh1, .ref wh2, .ref wh3, .ref wh4, .ref wh5, .int (nI nw)])), (wh0, .inl (cI, 60, .inl (Q 9))), (wh1, .inl (cI, 60, .inl (Q 10))), (wh2, .inl (cI, 60, .inl (Q 11))), (wh3, .inl (cZ, 60, .inl (Q 12))), (wh4, .inl (cI, 60, .inl (Q 13))), (wh5, .inl (cI, 60, .inl (Q 14))), (rf, .inr (3, [.ref rf0, .ref rf1, .int (nI nr)])), (rf0, .inl (cI, 3, .inl ca)), (rf1, .inl (cI, 3, .inl bo))] s.heap := hP
  have hl := lv_entry ([.ref gx]) (n := 5) (Nat.le_of_ble_eq_true rfl)
  rw [lg_entry_eq]
  generalize (lg_sl ([.ref gx]) ++ List.replicate (5 - (lg_sl ([.ref gx])).length) Slot.unset).toArray = ls at hl ⊢
  have hl : lv_has ls 5 [(0, .ref gx)] := hl
  refine lv_ldc2 (v := 1237) hx hb hown (hts _ wd_X5_digest_ok_0) dX5_digest_0 ?_
  refine lv_lstore_n (lv' := [(1, .long 1237), (0, .ref gx)]) hx hb dX5_digest_3 rfl hl (by decide) rfl (fun ls hl => ?_)
  refine lv_iconst (v := 0) hx hb dX5_digest_4 (by decide) ?_
  refine lv_istore_n (lv' := [(3, .int 0), (1, .long 1237), (0, .ref gx)]) hx hb dX5_digest_5 rfl hl (by decide) rfl (fun ls hl => ?_)
  refine gw_loop (fun (zz : Nat × Nat × Int64) H locs ls => match zz with | (k, i, d) => va_P D vwCl [(gx, .inr (5, [.ref qu, .ref qt, .ref rf, .int co])), (qu, .inr (2, [.ref qf, .ref bd, .ref cr, .ref wh, .int (nI day)])), (qf, .inl (cI, 9, .inl (Q 0))), (bd, .inr (0, [.ref bd0, .ref bd1, .ref bd2, .ref bd3, .int (nI nb)])), (bd0, .inl (cI, 5, .inl (Q 1))), (bd1, .inl (cI, 5, .inl (Q 2))), (bd2, .inl (cI, 5, .inl (Q 3))), (bd3, .inl (cI, 5, .inl (Q 4))), (cr, .inr (1, [.ref cr0, .ref cr1, .ref cr2, .ref cr3, .int (nI nq)])), (cr0, .inl (cI, 6, .inl (Q 5))), (cr1, .inl (cI, 6, .inl (Q 6))), (cr2, .inl (cI, 6, .inl (Q 7))), (cr3, .inl (cI, 6, .inl (Q 8))), (wh, .inr (4, [.ref wh0, .ref wh1, .ref wh2, .ref wh3, .ref wh4, .ref wh5, .int (nI nw)])), (wh0, .inl (cI, 60, .inl (Q 9))), (wh1, .inl (cI, 60, .inl (Q 10))), (wh2, .inl (cI, 60, .inl (Q 11))), (wh3, .inl (cZ, 60, .inl (Q 12))), (wh4, .inl (cI, 60, .inl (Q 13))), (wh5, .inl (cI, 60, .inl (Q 14))), (rf, .inr (3, [.ref rf0, .ref rf1, .int (nI nr)])), (rf0, .inl (cI, 3, .inl ca)), (rf1, .inl (cI, 3, .inl bo))] H ∧ va_S gN s.heap H locs ∧ lv_has ls 5 [(3, .int (nI i)), (1, .long d), (0, .ref gx)] ∧ (i + k = 10) ∧ (gD (gCntC Q nq nw day co) k i d = gD (gCntC Q nq nw day co) 10 0 (1237))) (fun (zz : Nat × Nat × Int64) => match zz with | (k, i, d) => k) (10, 0, 1237) ⟨hP, hS, lv_sub hl [0, 1, 2] rfl, (by omega), rfl⟩ ?_
  rintro ⟨k, i, d⟩ ih H locs ls ⟨hP, hS, hl, hin, hF⟩
  have hP : va_P D vwCl [(gx, .inr (5, [.ref qu, .ref qt, .ref rf, .int co])), (qu, .inr (2, [.ref qf, .ref bd, .ref cr, .ref wh, .int (nI day)])), (qf, .inl (cI, 9, .inl (Q 0))), (bd, .inr (0, [.ref bd0, .ref bd1, .ref bd2, .ref bd3, .int (nI nb)])), (bd0, .inl (cI, 5, .inl (Q 1))), (bd1, .inl (cI, 5, .inl (Q 2))), (bd2, .inl (cI, 5, .inl (Q 3))), (bd3, .inl (cI, 5, .inl (Q 4))), (cr, .inr (1, [.ref cr0, .ref cr1, .ref cr2, .ref cr3, .int (nI nq)])), (cr0, .inl (cI, 6, .inl (Q 5))), (cr1, .inl (cI, 6, .inl (Q 6))), (cr2, .inl (cI, 6, .inl (Q 7))), (cr3, .inl (cI, 6, .inl (Q 8))), (wh, .inr (4, [.ref wh0, .ref wh1, .ref wh2, .ref wh3, .ref wh4, .ref wh5, .int (nI nw)])), (wh0, .inl (cI, 60, .inl (Q 9))), (wh1, .inl (cI, 60, .inl (Q 10))), (wh2, .inl (cI, 60, .inl (Q 11))), (wh3, .inl (cZ, 60, .inl (Q 12))), (wh4, .inl (cI, 60, .inl (Q 13))), (wh5, .inl (cI, 60, .inl (Q 14))), (rf, .inr (3, [.ref rf0, .ref rf1, .int (nI nr)])), (rf0, .inl (cI, 3, .inl ca)), (rf1, .inl (cI, 3, .inl bo))] H := hP
  have hl : lv_has ls 5 [(3, .int (nI i)), (1, .long d), (0, .ref gx)] := hl
  have hin : i + k = 10 := hin
  have hF : gD (gCntC Q nq nw day co) k i d = gD (gCntC Q nq nw day co) 10 0 (1237) := hF
  have ih6 := ih
  refine lv_iload_n hx hb dX5_digest_6 rfl (lv_at hl 0 rfl) ?_
  refine lv_bipush (v := 10) hx hb dX5_digest_7 (by decide) ?_
  refine lv_icmp_ge (tgt := 28) hx hb dX5_digest_9 (by decide) (fun c => ?_) (fun c => ?_)
  · skip
    have hk0 : k = 0 := by have := gw_ge (n := 10) (by omega) (by omega) c; omega
    subst hk0
    have hq : d = gD (gCntC Q nq nw day co) 10 0 (1237) := hF
    subst hq
    refine lv_iconst (v := 0) hx hb dX5_digest_28 (by decide) ?_
    refine lv_istore_n (lv' := [(3, .int 0), (1, .long (gD (gCntC Q nq nw day co) 10 0 (1237))), (0, .ref gx)]) hx hb dX5_digest_29 rfl hl (by decide) rfl (fun ls hl => ?_)
    refine gw_loop (fun (zz : Nat × Nat × Int64) H locs ls => match zz with | (k, i, d) => va_P D vwCl [(gx, .inr (5, [.ref qu, .ref qt, .ref rf, .int co])), (qu, .inr (2, [.ref qf, .ref bd, .ref cr, .ref wh, .int (nI day)])), (qf, .inl (cI, 9, .inl (Q 0))), (bd, .inr (0, [.ref bd0, .ref bd1, .ref bd2, .ref bd3, .int (nI nb)])), (bd0, .inl (cI, 5, .inl (Q 1))), (bd1, .inl (cI, 5, .inl (Q 2))), (bd2, .inl (cI, 5, .inl (Q 3))), (bd3, .inl (cI, 5, .inl (Q 4))), (cr, .inr (1, [.ref cr0, .ref cr1, .ref cr2, .ref cr3, .int (nI nq)])), (cr0, .inl (cI, 6, .inl (Q 5))), (cr1, .inl (cI, 6, .inl (Q 6))), (cr2, .inl (cI, 6, .inl (Q 7))), (cr3, .inl (cI, 6, .inl (Q 8))), (wh, .inr (4, [.ref wh0, .ref wh1, .ref wh2, .ref wh3, .ref wh4, .ref wh5, .int (nI nw)])), (wh0, .inl (cI, 60, .inl (Q 9))), (wh1, .inl (cI, 60, .inl (Q 10))), (wh2, .inl (cI, 60, .inl (Q 11))), (wh3, .inl (cZ, 60, .inl (Q 12))), (wh4, .inl (cI, 60, .inl (Q 13))), (wh5, .inl (cI, 60, .inl (Q 14))), (rf, .inr (3, [.ref rf0, .ref rf1, .int (nI nr)])), (rf0, .inl (cI, 3, .inl ca)), (rf1, .inl (cI, 3, .inl bo))] H ∧ va_S gN s.heap H locs ∧ lv_has ls 5 [(3, .int (nI i)), (1, .long d), (0, .ref gx)] ∧ (i + k = 9) ∧ (gD (Q 0) k i d = gD (Q 0) 9 0 (gD (gCntC Q nq nw day co) 10 0 1237))) (fun (zz : Nat × Nat × Int64) => match zz with | (k, i, d) => k) (9, 0, gD (gCntC Q nq nw day co) 10 0 1237) ⟨hP, hS, lv_sub hl [0, 1, 2] rfl, (by omega), rfl⟩ ?_
    rintro ⟨k, i, d⟩ ih H locs ls ⟨hP, hS, hl, hin, hF⟩
    have hP : va_P D vwCl [(gx, .inr (5, [.ref qu, .ref qt, .ref rf, .int co])), (qu, .inr (2, [.ref qf, .ref bd, .ref cr, .ref wh, .int (nI day)])), (qf, .inl (cI, 9, .inl (Q 0))), (bd, .inr (0, [.ref bd0, .ref bd1, .ref bd2, .ref bd3, .int (nI nb)])), (bd0, .inl (cI, 5, .inl (Q 1))), (bd1, .inl (cI, 5, .inl (Q 2))), (bd2, .inl (cI, 5, .inl (Q 3))), (bd3, .inl (cI, 5, .inl (Q 4))), (cr, .inr (1, [.ref cr0, .ref cr1, .ref cr2, .ref cr3, .int (nI nq)])), (cr0, .inl (cI, 6, .inl (Q 5))), (cr1, .inl (cI, 6, .inl (Q 6))), (cr2, .inl (cI, 6, .inl (Q 7))), (cr3, .inl (cI, 6, .inl (Q 8))), (wh, .inr (4, [.ref wh0, .ref wh1, .ref wh2, .ref wh3, .ref wh4, .ref wh5, .int (nI nw)])), (wh0, .inl (cI, 60, .inl (Q 9))), (wh1, .inl (cI, 60, .inl (Q 10))), (wh2, .inl (cI, 60, .inl (Q 11))), (wh3, .inl (cZ, 60, .inl (Q 12))), (wh4, .inl (cI, 60, .inl (Q 13))), (wh5, .inl (cI, 60, .inl (Q 14))), (rf, .inr (3, [.ref rf0, .ref rf1, .int (nI nr)])), (rf0, .inl (cI, 3, .inl ca)), (rf1, .inl (cI, 3, .inl bo))] H := hP
    have hl : lv_has ls 5 [(3, .int (nI i)), (1, .long d), (0, .ref gx)] := hl
    have hin : i + k = 9 := hin
    have hF : gD (Q 0) k i d = gD (Q 0) 9 0 (gD (gCntC Q nq nw day co) 10 0 1237) := hF
    have ih30 := ih
    refine lv_iload_n hx hb dX5_digest_30 rfl (lv_at hl 0 rfl) ?_
    refine lv_bipush (v := 9) hx hb dX5_digest_31 (by decide) ?_
    refine lv_icmp_ge (tgt := 56) hx hb dX5_digest_33 (by decide) (fun c => ?_) (fun c => ?_)
    · skip
      have hk0 : k = 0 := by have := gw_ge (n := 9) (by omega) (by omega) c; omega
      subst hk0
      have hq : d = gD (Q 0) 9 0 (gD (gCntC Q nq nw day co) 10 0 1237) := hF
      subst hq
      refine lv_iconst (v := 0) hx hb dX5_digest_56 (by decide) ?_
      refine lv_istore_n (lv' := [(3, .int 0), (1, .long (gD (Q 0) 9 0 (gD (gCntC Q nq nw day co) 10 0 1237))), (0, .ref gx)]) hx hb dX5_digest_57 rfl hl (by decide) rfl (fun ls hl => ?_)
      refine gw_loop (fun (zz : Nat × Nat × Int64) H locs ls => match zz with | (k, i, d) => va_P D vwCl [(gx, .inr (5, [.ref qu, .ref qt, .ref rf, .int co])), (qu, .inr (2, [.ref qf, .ref bd, .ref cr, .ref wh, .int (nI day)])), (qf, .inl (cI, 9, .inl (Q 0))), (bd, .inr (0, [.ref bd0, .ref bd1, .ref bd2, .ref bd3, .int (nI nb)])), (bd0, .inl (cI, 5, .inl (Q 1))), (bd1, .inl (cI, 5, .inl (Q 2))), (bd2, .inl (cI, 5, .inl (Q 3))), (bd3, .inl (cI, 5, .inl (Q 4))), (cr, .inr (1, [.ref cr0, .ref cr1, .ref cr2, .ref cr3, .int (nI nq)])), (cr0, .inl (cI, 6, .inl (Q 5))), (cr1, .inl (cI, 6, .inl (Q 6))), (cr2, .inl (cI, 6, .inl (Q 7))), (cr3, .inl (cI, 6, .inl (Q 8))), (wh, .inr (4, [.ref wh0, .ref wh1, .ref wh2, .ref wh3, .ref wh4, .ref wh5, .int (nI nw)])), (wh0, .inl (cI, 60, .inl (Q 9))), (wh1, .inl (cI, 60, .inl (Q 10))), (wh2, .inl (cI, 60, .inl (Q 11))), (wh3, .inl (cZ, 60, .inl (Q 12))), (wh4, .inl (cI, 60, .inl (Q 13))), (wh5, .inl (cI, 60, .inl (Q 14))), (rf, .inr (3, [.ref rf0, .ref rf1, .int (nI nr)])), (rf0, .inl (cI, 3, .inl ca)), (rf1, .inl (cI, 3, .inl bo))] H ∧ va_S gN s.heap H locs ∧ lv_has ls 5 [(3, .int (nI i)), (1, .long d), (0, .ref gx)] ∧ (i + k = nb) ∧ (gDD 6 (fun b v => gBed Q nq nw v b) k i d = gDD 6 (fun b v => gBed Q nq nw v b) nb 0 (gD (Q 0) 9 0 (gD (gCntC Q nq nw day co) 10 0 1237)))) (fun (zz : Nat × Nat × Int64) => match zz with | (k, i, d) => k) (nb, 0, gD (Q 0) 9 0 (gD (gCntC Q nq nw day co) 10 0 1237)) ⟨hP, hS, lv_sub hl [0, 1, 2] rfl, (by omega), rfl⟩ ?_
      rintro ⟨k, i, d⟩ ih H locs ls ⟨hP, hS, hl, hin, hF⟩
      have hP : va_P D vwCl [(gx, .inr (5, [.ref qu, .ref qt, .ref rf, .int co])), (qu, .inr (2, [.ref qf, .ref bd, .ref cr, .ref wh, .int (nI day)])), (qf, .inl (cI, 9, .inl (Q 0))), (bd, .inr (0, [.ref bd0, .ref bd1, .ref bd2, .ref bd3, .int (nI nb)])), (bd0, .inl (cI, 5, .inl (Q 1))), (bd1, .inl (cI, 5, .inl (Q 2))), (bd2, .inl (cI, 5, .inl (Q 3))), (bd3, .inl (cI, 5, .inl (Q 4))), (cr, .inr (1, [.ref cr0, .ref cr1, .ref cr2, .ref cr3, .int (nI nq)])), (cr0, .inl (cI, 6, .inl (Q 5))), (cr1, .inl (cI, 6, .inl (Q 6))), (cr2, .inl (cI, 6, .inl (Q 7))), (cr3, .inl (cI, 6, .inl (Q 8))), (wh, .inr (4, [.ref wh0, .ref wh1, .ref wh2, .ref wh3, .ref wh4, .ref wh5, .int (nI nw)])), (wh0, .inl (cI, 60, .inl (Q 9))), (wh1, .inl (cI, 60, .inl (Q 10))), (wh2, .inl (cI, 60, .inl (Q 11))), (wh3, .inl (cZ, 60, .inl (Q 12))), (wh4, .inl (cI, 60, .inl (Q 13))), (wh5, .inl (cI, 60, .inl (Q 14))), (rf, .inr (3, [.ref rf0, .ref rf1, .int (nI nr)])), (rf0, .inl (cI, 3, .inl ca)), (rf1, .inl (cI, 3, .inl bo))] H := hP
      have hl : lv_has ls 5 [(3, .int (nI i)), (1, .long d), (0, .ref gx)] := hl
      have hin : i + k = nb := hin
      have hF : gDD 6 (fun b v => gBed Q nq nw v b) k i d = gDD 6 (fun b v => gBed Q nq nw v b) nb 0 (gD (Q 0) 9 0 (gD (gCntC Q nq nw day co) 10 0 1237)) := hF
      have ih58 := ih
      refine lv_iload_n hx hb dX5_digest_58 rfl (lv_at hl 0 rfl) ?_
      refine lv_aload_n hx hb dX5_digest_59 rfl (lv_at hl 2 rfl) ?_
      refine va_get (D := D) (ci := 5) (v := .ref qu) (C := RX5) (T := TX5) (N := 4) hx hb hts wc_X5_digest_ok_X5 hown hK hP 0 rfl rfl 0 (by decide) (hts _ wd_X5_digest_ok_2) (fun _ h9 => h9) rfl dX5_digest_60 ?_
      refine va_get (D := D) (ci := 2) (v := .ref bd) (C := RX2) (T := TX2) (N := 5) hx hb hts wc_X5_digest_ok_X2 hown hK hP 1 rfl rfl 1 (by decide) (hts _ wd_X5_digest_ok_4) (fun _ h9 => h9) rfl dX5_digest_63 ?_
      refine va_get (D := D) (ci := 0) (v := .int (nI nb)) (C := RX0) (T := TX0) (N := 5) hx hb hts wc_X5_digest_ok_X0 hown hK hP 3 rfl rfl 4 (by decide) (hts _ wd_X5_digest_ok_6) (fun _ h9 => h9) rfl dX5_digest_66 ?_
      refine lv_icmp_ge (tgt := 109) hx hb dX5_digest_69 (by decide) (fun c => ?_) (fun c => ?_)
      · skip
        have hk0 : k = 0 := by have := gw_ge (by omega) (by omega) c; omega
        subst hk0
        have hq : d = gDD 6 (fun b v => gBed Q nq nw v b) nb 0 (gD (Q 0) 9 0 (gD (gCntC Q nq nw day co) 10 0 1237)) := hF
        subst hq
        refine lv_iconst (v := 0) hx hb dX5_digest_109 (by decide) ?_
        refine lv_istore_n (lv' := [(3, .int 0), (1, .long (gDD 6 (fun b v => gBed Q nq nw v b) nb 0 (gD (Q 0) 9 0 (gD (gCntC Q nq nw day co) 10 0 1237)))), (0, .ref gx)]) hx hb dX5_digest_110 rfl hl (by decide) rfl (fun ls hl => ?_)
        refine gw_loop (fun (zz : Nat × Nat × Int64) H locs ls => match zz with | (k, i, d) => va_P D vwCl [(gx, .inr (5, [.ref qu, .ref qt, .ref rf, .int co])), (qu, .inr (2, [.ref qf, .ref bd, .ref cr, .ref wh, .int (nI day)])), (qf, .inl (cI, 9, .inl (Q 0))), (bd, .inr (0, [.ref bd0, .ref bd1, .ref bd2, .ref bd3, .int (nI nb)])), (bd0, .inl (cI, 5, .inl (Q 1))), (bd1, .inl (cI, 5, .inl (Q 2))), (bd2, .inl (cI, 5, .inl (Q 3))), (bd3, .inl (cI, 5, .inl (Q 4))), (cr, .inr (1, [.ref cr0, .ref cr1, .ref cr2, .ref cr3, .int (nI nq)])), (cr0, .inl (cI, 6, .inl (Q 5))), (cr1, .inl (cI, 6, .inl (Q 6))), (cr2, .inl (cI, 6, .inl (Q 7))), (cr3, .inl (cI, 6, .inl (Q 8))), (wh, .inr (4, [.ref wh0, .ref wh1, .ref wh2, .ref wh3, .ref wh4, .ref wh5, .int (nI nw)])), (wh0, .inl (cI, 60, .inl (Q 9))), (wh1, .inl (cI, 60, .inl (Q 10))), (wh2, .inl (cI, 60, .inl (Q 11))), (wh3, .inl (cZ, 60, .inl (Q 12))), (wh4, .inl (cI, 60, .inl (Q 13))), (wh5, .inl (cI, 60, .inl (Q 14))), (rf, .inr (3, [.ref rf0, .ref rf1, .int (nI nr)])), (rf0, .inl (cI, 3, .inl ca)), (rf1, .inl (cI, 3, .inl bo))] H ∧ va_S gN s.heap H locs ∧ lv_has ls 5 [(3, .int (nI i)), (1, .long d), (0, .ref gx)] ∧ (i + k = nq) ∧ (gDD 5 (fun q v => gQua Q v q) k i d = gDD 5 (fun q v => gQua Q v q) nq 0 (gDD 6 (fun b v => gBed Q nq nw v b) nb 0 (gD (Q 0) 9 0 (gD (gCntC Q nq nw day co) 10 0 1237))))) (fun (zz : Nat × Nat × Int64) => match zz with | (k, i, d) => k) (nq, 0, gDD 6 (fun b v => gBed Q nq nw v b) nb 0 (gD (Q 0) 9 0 (gD (gCntC Q nq nw day co) 10 0 1237))) ⟨hP, hS, lv_sub hl [0, 1, 2] rfl, (by omega), rfl⟩ ?_
        rintro ⟨k, i, d⟩ ih H locs ls ⟨hP, hS, hl, hin, hF⟩
        have hP : va_P D vwCl [(gx, .inr (5, [.ref qu, .ref qt, .ref rf, .int co])), (qu, .inr (2, [.ref qf, .ref bd, .ref cr, .ref wh, .int (nI day)])), (qf, .inl (cI, 9, .inl (Q 0))), (bd, .inr (0, [.ref bd0, .ref bd1, .ref bd2, .ref bd3, .int (nI nb)])), (bd0, .inl (cI, 5, .inl (Q 1))), (bd1, .inl (cI, 5, .inl (Q 2))), (bd2, .inl (cI, 5, .inl (Q 3))), (bd3, .inl (cI, 5, .inl (Q 4))), (cr, .inr (1, [.ref cr0, .ref cr1, .ref cr2, .ref cr3, .int (nI nq)])), (cr0, .inl (cI, 6, .inl (Q 5))), (cr1, .inl (cI, 6, .inl (Q 6))), (cr2, .inl (cI, 6, .inl (Q 7))), (cr3, .inl (cI, 6, .inl (Q 8))), (wh, .inr (4, [.ref wh0, .ref wh1, .ref wh2, .ref wh3, .ref wh4, .ref wh5, .int (nI nw)])), (wh0, .inl (cI, 60, .inl (Q 9))), (wh1, .inl (cI, 60, .inl (Q 10))), (wh2, .inl (cI, 60, .inl (Q 11))), (wh3, .inl (cZ, 60, .inl (Q 12))), (wh4, .inl (cI, 60, .inl (Q 13))), (wh5, .inl (cI, 60, .inl (Q 14))), (rf, .inr (3, [.ref rf0, .ref rf1, .int (nI nr)])), (rf0, .inl (cI, 3, .inl ca)), (rf1, .inl (cI, 3, .inl bo))] H := hP
        have hl : lv_has ls 5 [(3, .int (nI i)), (1, .long d), (0, .ref gx)] := hl
        have hin : i + k = nq := hin
        have hF : gDD 5 (fun q v => gQua Q v q) k i d = gDD 5 (fun q v => gQua Q v q) nq 0 (gDD 6 (fun b v => gBed Q nq nw v b) nb 0 (gD (Q 0) 9 0 (gD (gCntC Q nq nw day co) 10 0 1237))) := hF
        have ih111 := ih
        refine lv_iload_n hx hb dX5_digest_111 rfl (lv_at hl 0 rfl) ?_
        refine lv_aload_n hx hb dX5_digest_112 rfl (lv_at hl 2 rfl) ?_
        refine va_get (D := D) (ci := 5) (v := .ref qu) (C := RX5) (T := TX5) (N := 4) hx hb hts wc_X5_digest_ok_X5 hown hK hP 0 rfl rfl 0 (by decide) (hts _ wd_X5_digest_ok_2) (fun _ h9 => h9) rfl dX5_digest_113 ?_
        refine va_get (D := D) (ci := 2) (v := .ref cr) (C := RX2) (T := TX2) (N := 5) hx hb hts wc_X5_digest_ok_X2 hown hK hP 1 rfl rfl 2 (by decide) (hts _ wd_X5_digest_ok_7) (fun _ h9 => h9) rfl dX5_digest_116 ?_
        refine va_get (D := D) (ci := 1) (v := .int (nI nq)) (C := RX1) (T := TX1) (N := 5) hx hb hts wc_X5_digest_ok_X1 hown hK hP 8 rfl rfl 4 (by decide) (hts _ wd_X5_digest_ok_9) (fun _ h9 => h9) rfl dX5_digest_119 ?_
        refine lv_icmp_ge (tgt := 161) hx hb dX5_digest_122 (by decide) (fun c => ?_) (fun c => ?_)
        · skip
          have hk0 : k = 0 := by have := gw_ge (by omega) (by omega) c; omega
          subst hk0
          have hq : d = gDD 5 (fun q v => gQua Q v q) nq 0 (gDD 6 (fun b v => gBed Q nq nw v b) nb 0 (gD (Q 0) 9 0 (gD (gCntC Q nq nw day co) 10 0 1237))) := hF
          subst hq
          refine lv_iconst (v := 0) hx hb dX5_digest_161 (by decide) ?_
          refine lv_istore_n (lv' := [(3, .int 0), (1, .long (gDD 5 (fun q v => gQua Q v q) nq 0 (gDD 6 (fun b v => gBed Q nq nw v b) nb 0 (gD (Q 0) 9 0 (gD (gCntC Q nq nw day co) 10 0 1237))))), (0, .ref gx)]) hx hb dX5_digest_162 rfl hl (by decide) rfl (fun ls hl => ?_)
          refine gw_loop (fun (zz : Nat × Nat × Int64) H locs ls => match zz with | (k, i, d) => va_P D vwCl [(gx, .inr (5, [.ref qu, .ref qt, .ref rf, .int co])), (qu, .inr (2, [.ref qf, .ref bd, .ref cr, .ref wh, .int (nI day)])), (qf, .inl (cI, 9, .inl (Q 0))), (bd, .inr (0, [.ref bd0, .ref bd1, .ref bd2, .ref bd3, .int (nI nb)])), (bd0, .inl (cI, 5, .inl (Q 1))), (bd1, .inl (cI, 5, .inl (Q 2))), (bd2, .inl (cI, 5, .inl (Q 3))), (bd3, .inl (cI, 5, .inl (Q 4))), (cr, .inr (1, [.ref cr0, .ref cr1, .ref cr2, .ref cr3, .int (nI nq)])), (cr0, .inl (cI, 6, .inl (Q 5))), (cr1, .inl (cI, 6, .inl (Q 6))), (cr2, .inl (cI, 6, .inl (Q 7))), (cr3, .inl (cI, 6, .inl (Q 8))), (wh, .inr (4, [.ref wh0, .ref wh1, .ref wh2, .ref wh3, .ref wh4, .ref wh5, .int (nI nw)])), (wh0, .inl (cI, 60, .inl (Q 9))), (wh1, .inl (cI, 60, .inl (Q 10))), (wh2, .inl (cI, 60, .inl (Q 11))), (wh3, .inl (cZ, 60, .inl (Q 12))), (wh4, .inl (cI, 60, .inl (Q 13))), (wh5, .inl (cI, 60, .inl (Q 14))), (rf, .inr (3, [.ref rf0, .ref rf1, .int (nI nr)])), (rf0, .inl (cI, 3, .inl ca)), (rf1, .inl (cI, 3, .inl bo))] H ∧ va_S gN s.heap H locs ∧ lv_has ls 5 [(3, .int (nI i)), (1, .long d), (0, .ref gx)] ∧ (i + k = nw) ∧ (gDD 6 (fun w v => gFact v (Q 9 w) (Q 11 w) (Q 10 w) (Q 13 w) (Q 12 w) (Q 14 w)) k i d = gDD 6 (fun w v => gFact v (Q 9 w) (Q 11 w) (Q 10 w) (Q 13 w) (Q 12 w) (Q 14 w)) nw 0 (gDD 5 (fun q v => gQua Q v q) nq 0 (gDD 6 (fun b v => gBed Q nq nw v b) nb 0 (gD (Q 0) 9 0 (gD (gCntC Q nq nw day co) 10 0 1237)))))) (fun (zz : Nat × Nat × Int64) => match zz with | (k, i, d) => k) (nw, 0, gDD 5 (fun q v => gQua Q v q) nq 0 (gDD 6 (fun b v => gBed Q nq nw v b) nb 0 (gD (Q 0) 9 0 (gD (gCntC Q nq nw day co) 10 0 1237)))) ⟨hP, hS, lv_sub hl [0, 1, 2] rfl, (by omega), rfl⟩ ?_
          rintro ⟨k, i, d⟩ ih H locs ls ⟨hP, hS, hl, hin, hF⟩
          have hP : va_P D vwCl [(gx, .inr (5, [.ref qu, .ref qt, .ref rf, .int co])), (qu, .inr (2, [.ref qf, .ref bd, .ref cr, .ref wh, .int (nI day)])), (qf, .inl (cI, 9, .inl (Q 0))), (bd, .inr (0, [.ref bd0, .ref bd1, .ref bd2, .ref bd3, .int (nI nb)])), (bd0, .inl (cI, 5, .inl (Q 1))), (bd1, .inl (cI, 5, .inl (Q 2))), (bd2, .inl (cI, 5, .inl (Q 3))), (bd3, .inl (cI, 5, .inl (Q 4))), (cr, .inr (1, [.ref cr0, .ref cr1, .ref cr2, .ref cr3, .int (nI nq)])), (cr0, .inl (cI, 6, .inl (Q 5))), (cr1, .inl (cI, 6, .inl (Q 6))), (cr2, .inl (cI, 6, .inl (Q 7))), (cr3, .inl (cI, 6, .inl (Q 8))), (wh, .inr (4, [.ref wh0, .ref wh1, .ref wh2, .ref wh3, .ref wh4, .ref wh5, .int (nI nw)])), (wh0, .inl (cI, 60, .inl (Q 9))), (wh1, .inl (cI, 60, .inl (Q 10))), (wh2, .inl (cI, 60, .inl (Q 11))), (wh3, .inl (cZ, 60, .inl (Q 12))), (wh4, .inl (cI, 60, .inl (Q 13))), (wh5, .inl (cI, 60, .inl (Q 14))), (rf, .inr (3, [.ref rf0, .ref rf1, .int (nI nr)])), (rf0, .inl (cI, 3, .inl ca)), (rf1, .inl (cI, 3, .inl bo))] H := hP
          have hl : lv_has ls 5 [(3, .int (nI i)), (1, .long d), (0, .ref gx)] := hl
          have hin : i + k = nw := hin
          have hF : gDD 6 (fun w v => gFact v (Q 9 w) (Q 11 w) (Q 10 w) (Q 13 w) (Q 12 w) (Q 14 w)) k i d = gDD 6 (fun w v => gFact v (Q 9 w) (Q 11 w) (Q 10 w) (Q 13 w) (Q 12 w) (Q 14 w)) nw 0 (gDD 5 (fun q v => gQua Q v q) nq 0 (gDD 6 (fun b v => gBed Q nq nw v b) nb 0 (gD (Q 0) 9 0 (gD (gCntC Q nq nw day co) 10 0 1237)))) := hF
          have ih163 := ih
          refine lv_iload_n hx hb dX5_digest_163 rfl (lv_at hl 0 rfl) ?_
          refine lv_aload_n hx hb dX5_digest_164 rfl (lv_at hl 2 rfl) ?_
          refine va_get (D := D) (ci := 5) (v := .ref qu) (C := RX5) (T := TX5) (N := 4) hx hb hts wc_X5_digest_ok_X5 hown hK hP 0 rfl rfl 0 (by decide) (hts _ wd_X5_digest_ok_2) (fun _ h9 => h9) rfl dX5_digest_165 ?_
          refine va_get (D := D) (ci := 2) (v := .ref wh) (C := RX2) (T := TX2) (N := 5) hx hb hts wc_X5_digest_ok_X2 hown hK hP 1 rfl rfl 3 (by decide) (hts _ wd_X5_digest_ok_10) (fun _ h9 => h9) rfl dX5_digest_168 ?_
          refine va_get (D := D) (ci := 4) (v := .int (nI nw)) (C := RX4) (T := TX4) (N := 7) hx hb hts wc_X5_digest_ok_X4 hown hK hP 13 rfl rfl 6 (by decide) (hts _ wd_X5_digest_ok_12) (fun _ h9 => h9) rfl dX5_digest_171 ?_
          refine lv_icmp_ge (tgt := 217) hx hb dX5_digest_174 (by decide) (fun c => ?_) (fun c => ?_)
          · skip
            have hk0 : k = 0 := by have := gw_ge (by omega) (by omega) c; omega
            subst hk0
            have hq : d = gDD 6 (fun w v => gFact v (Q 9 w) (Q 11 w) (Q 10 w) (Q 13 w) (Q 12 w) (Q 14 w)) nw 0 (gDD 5 (fun q v => gQua Q v q) nq 0 (gDD 6 (fun b v => gBed Q nq nw v b) nb 0 (gD (Q 0) 9 0 (gD (gCntC Q nq nw day co) 10 0 1237)))) := hF
            subst hq
            refine lv_iconst (v := 0) hx hb dX5_digest_217 (by decide) ?_
            refine lv_istore_n (lv' := [(3, .int 0), (1, .long (gDD 6 (fun w v => gFact v (Q 9 w) (Q 11 w) (Q 10 w) (Q 13 w) (Q 12 w) (Q 14 w)) nw 0 (gDD 5 (fun q v => gQua Q v q) nq 0 (gDD 6 (fun b v => gBed Q nq nw v b) nb 0 (gD (Q 0) 9 0 (gD (gCntC Q nq nw day co) 10 0 1237)))))), (0, .ref gx)]) hx hb dX5_digest_218 rfl hl (by decide) rfl (fun ls hl => ?_)
            refine gw_loop (fun (zz : Nat × Nat × Int64) H locs ls => match zz with | (k, i, d) => va_P D vwCl [(gx, .inr (5, [.ref qu, .ref qt, .ref rf, .int co])), (qu, .inr (2, [.ref qf, .ref bd, .ref cr, .ref wh, .int (nI day)])), (qf, .inl (cI, 9, .inl (Q 0))), (bd, .inr (0, [.ref bd0, .ref bd1, .ref bd2, .ref bd3, .int (nI nb)])), (bd0, .inl (cI, 5, .inl (Q 1))), (bd1, .inl (cI, 5, .inl (Q 2))), (bd2, .inl (cI, 5, .inl (Q 3))), (bd3, .inl (cI, 5, .inl (Q 4))), (cr, .inr (1, [.ref cr0, .ref cr1, .ref cr2, .ref cr3, .int (nI nq)])), (cr0, .inl (cI, 6, .inl (Q 5))), (cr1, .inl (cI, 6, .inl (Q 6))), (cr2, .inl (cI, 6, .inl (Q 7))), (cr3, .inl (cI, 6, .inl (Q 8))), (wh, .inr (4, [.ref wh0, .ref wh1, .ref wh2, .ref wh3, .ref wh4, .ref wh5, .int (nI nw)])), (wh0, .inl (cI, 60, .inl (Q 9))), (wh1, .inl (cI, 60, .inl (Q 10))), (wh2, .inl (cI, 60, .inl (Q 11))), (wh3, .inl (cZ, 60, .inl (Q 12))), (wh4, .inl (cI, 60, .inl (Q 13))), (wh5, .inl (cI, 60, .inl (Q 14))), (rf, .inr (3, [.ref rf0, .ref rf1, .int (nI nr)])), (rf0, .inl (cI, 3, .inl ca)), (rf1, .inl (cI, 3, .inl bo))] H ∧ va_S gN s.heap H locs ∧ lv_has ls 5 [(3, .int (nI i)), (1, .long d), (0, .ref gx)] ∧ (i + k = nr) ∧ (gDD 4 (fun r v => gRaft Q nw day ca bo v r) k i d = gDD 4 (fun r v => gRaft Q nw day ca bo v r) nr 0 (gDD 6 (fun w v => gFact v (Q 9 w) (Q 11 w) (Q 10 w) (Q 13 w) (Q 12 w) (Q 14 w)) nw 0 (gDD 5 (fun q v => gQua Q v q) nq 0 (gDD 6 (fun b v => gBed Q nq nw v b) nb 0 (gD (Q 0) 9 0 (gD (gCntC Q nq nw day co) 10 0 1237))))))) (fun (zz : Nat × Nat × Int64) => match zz with | (k, i, d) => k) (nr, 0, gDD 6 (fun w v => gFact v (Q 9 w) (Q 11 w) (Q 10 w) (Q 13 w) (Q 12 w) (Q 14 w)) nw 0 (gDD 5 (fun q v => gQua Q v q) nq 0 (gDD 6 (fun b v => gBed Q nq nw v b) nb 0 (gD (Q 0) 9 0 (gD (gCntC Q nq nw day co) 10 0 1237))))) ⟨hP, hS, lv_sub hl [0, 1, 2] rfl, (by omega), rfl⟩ ?_
            rintro ⟨k, i, d⟩ ih H locs ls ⟨hP, hS, hl, hin, hF⟩
            have hP : va_P D vwCl [(gx, .inr (5, [.ref qu, .ref qt, .ref rf, .int co])), (qu, .inr (2, [.ref qf, .ref bd, .ref cr, .ref wh, .int (nI day)])), (qf, .inl (cI, 9, .inl (Q 0))), (bd, .inr (0, [.ref bd0, .ref bd1, .ref bd2, .ref bd3, .int (nI nb)])), (bd0, .inl (cI, 5, .inl (Q 1))), (bd1, .inl (cI, 5, .inl (Q 2))), (bd2, .inl (cI, 5, .inl (Q 3))), (bd3, .inl (cI, 5, .inl (Q 4))), (cr, .inr (1, [.ref cr0, .ref cr1, .ref cr2, .ref cr3, .int (nI nq)])), (cr0, .inl (cI, 6, .inl (Q 5))), (cr1, .inl (cI, 6, .inl (Q 6))), (cr2, .inl (cI, 6, .inl (Q 7))), (cr3, .inl (cI, 6, .inl (Q 8))), (wh, .inr (4, [.ref wh0, .ref wh1, .ref wh2, .ref wh3, .ref wh4, .ref wh5, .int (nI nw)])), (wh0, .inl (cI, 60, .inl (Q 9))), (wh1, .inl (cI, 60, .inl (Q 10))), (wh2, .inl (cI, 60, .inl (Q 11))), (wh3, .inl (cZ, 60, .inl (Q 12))), (wh4, .inl (cI, 60, .inl (Q 13))), (wh5, .inl (cI, 60, .inl (Q 14))), (rf, .inr (3, [.ref rf0, .ref rf1, .int (nI nr)])), (rf0, .inl (cI, 3, .inl ca)), (rf1, .inl (cI, 3, .inl bo))] H := hP
            have hl : lv_has ls 5 [(3, .int (nI i)), (1, .long d), (0, .ref gx)] := hl
            have hin : i + k = nr := hin
            have hF : gDD 4 (fun r v => gRaft Q nw day ca bo v r) k i d = gDD 4 (fun r v => gRaft Q nw day ca bo v r) nr 0 (gDD 6 (fun w v => gFact v (Q 9 w) (Q 11 w) (Q 10 w) (Q 13 w) (Q 12 w) (Q 14 w)) nw 0 (gDD 5 (fun q v => gQua Q v q) nq 0 (gDD 6 (fun b v => gBed Q nq nw v b) nb 0 (gD (Q 0) 9 0 (gD (gCntC Q nq nw day co) 10 0 1237))))) := hF
            have ih219 := ih
            refine lv_iload_n hx hb dX5_digest_219 rfl (lv_at hl 0 rfl) ?_
            refine lv_aload_n hx hb dX5_digest_220 rfl (lv_at hl 2 rfl) ?_
            refine va_get (D := D) (ci := 5) (v := .ref rf) (C := RX5) (T := TX5) (N := 4) hx hb hts wc_X5_digest_ok_X5 hown hK hP 0 rfl rfl 2 (by decide) (hts _ wd_X5_digest_ok_13) (fun _ h9 => h9) rfl dX5_digest_221 ?_
            refine va_get (D := D) (ci := 3) (v := .int (nI nr)) (C := RX3) (T := TX3) (N := 3) hx hb hts wc_X5_digest_ok_X3 hown hK hP 20 rfl rfl 2 (by decide) (hts _ wd_X5_digest_ok_15) (fun _ h9 => h9) rfl dX5_digest_224 ?_
            refine lv_icmp_ge (tgt := 263) hx hb dX5_digest_227 (by decide) (fun c => ?_) (fun c => ?_)
            · skip
              have hk0 : k = 0 := by have := gw_ge (by omega) (by omega) c; omega
              subst hk0
              have hq : d = gDD 4 (fun r v => gRaft Q nw day ca bo v r) nr 0 (gDD 6 (fun w v => gFact v (Q 9 w) (Q 11 w) (Q 10 w) (Q 13 w) (Q 12 w) (Q 14 w)) nw 0 (gDD 5 (fun q v => gQua Q v q) nq 0 (gDD 6 (fun b v => gBed Q nq nw v b) nb 0 (gD (Q 0) 9 0 (gD (gCntC Q nq nw day co) 10 0 1237))))) := hF
              subst hq
              refine lv_lload_n hx hb dX5_digest_263 rfl (lv_at hl 1 rfl) ?_
              exact W.lret (v := gDD 4 (fun r v => gRaft Q nw day ca bo v r) nr 0 (gDD 6 (fun w v => gFact v (Q 9 w) (Q 11 w) (Q 10 w) (Q 13 w) (Q 12 w) (Q 14 w)) nw 0 (gDD 5 (fun q v => gQua Q v q) nq 0 (gDD 6 (fun b v => gBed Q nq nw v b) nb 0 (gD (Q 0) 9 0 (gD (gCntC Q nq nw day co) 10 0 1237)))))) hx hb hr (fun t ht hW => ⟨⟨_, (), rfl, rfl, trivial⟩, hS.F ht⟩) hS.2.2 dX5_digest_264
            · skip
              have hi : i < nr := gw_lt (by omega) (by omega) c
              obtain ⟨k, rfl⟩ : ∃ k2, k = k2 + 1 := ⟨k - 1, by omega⟩
              refine lv_iconst (v := 0) hx hb dX5_digest_230 (by decide) ?_
              refine lv_istore (lv' := [(4, .int 0), (3, .int (nI i)), (1, .long d), (0, .ref gx)]) hx hb dX5_digest_231 hl (by decide) rfl (fun ls hl => ?_)
              refine gw_loop (fun (zz : Nat × Nat × Int64) H locs ls => match zz with | (kv, v, d2) => va_P D vwCl [(gx, .inr (5, [.ref qu, .ref qt, .ref rf, .int co])), (qu, .inr (2, [.ref qf, .ref bd, .ref cr, .ref wh, .int (nI day)])), (qf, .inl (cI, 9, .inl (Q 0))), (bd, .inr (0, [.ref bd0, .ref bd1, .ref bd2, .ref bd3, .int (nI nb)])), (bd0, .inl (cI, 5, .inl (Q 1))), (bd1, .inl (cI, 5, .inl (Q 2))), (bd2, .inl (cI, 5, .inl (Q 3))), (bd3, .inl (cI, 5, .inl (Q 4))), (cr, .inr (1, [.ref cr0, .ref cr1, .ref cr2, .ref cr3, .int (nI nq)])), (cr0, .inl (cI, 6, .inl (Q 5))), (cr1, .inl (cI, 6, .inl (Q 6))), (cr2, .inl (cI, 6, .inl (Q 7))), (cr3, .inl (cI, 6, .inl (Q 8))), (wh, .inr (4, [.ref wh0, .ref wh1, .ref wh2, .ref wh3, .ref wh4, .ref wh5, .int (nI nw)])), (wh0, .inl (cI, 60, .inl (Q 9))), (wh1, .inl (cI, 60, .inl (Q 10))), (wh2, .inl (cI, 60, .inl (Q 11))), (wh3, .inl (cZ, 60, .inl (Q 12))), (wh4, .inl (cI, 60, .inl (Q 13))), (wh5, .inl (cI, 60, .inl (Q 14))), (rf, .inr (3, [.ref rf0, .ref rf1, .int (nI nr)])), (rf0, .inl (cI, 3, .inl ca)), (rf1, .inl (cI, 3, .inl bo))] H ∧ va_S gN s.heap H locs ∧ lv_has ls 5 [(4, .int (nI v)), (3, .int (nI i)), (1, .long d2), (0, .ref gx)] ∧ (v + kv = 4) ∧ (gD ((fun r v => gRaft Q nw day ca bo v r) i) kv v d2 = gD ((fun r v => gRaft Q nw day ca bo v r) i) 4 0 d)) (fun (zz : Nat × Nat × Int64) => match zz with | (kv, v, d2) => kv) (4, 0, d) ⟨hP, hS, lv_sub hl [0, 1, 2, 3] rfl, (by omega), rfl⟩ ?_
              rintro ⟨kv, v, d2⟩ ih H locs ls ⟨hP, hS, hl, hinv, hF2⟩
              have hP : va_P D vwCl [(gx, .inr (5, [.ref qu, .ref qt, .ref rf, .int co])), (qu, .inr (2, [.ref qf, .ref bd, .ref cr, .ref wh, .int (nI day)])), (qf, .inl (cI, 9, .inl (Q 0))), (bd, .inr (0, [.ref bd0, .ref bd1, .ref bd2, .ref bd3, .int (nI nb)])), (bd0, .inl (cI, 5, .inl (Q 1))), (bd1, .inl (cI, 5, .inl (Q 2))), (bd2, .inl (cI, 5, .inl (Q 3))), (bd3, .inl (cI, 5, .inl (Q 4))), (cr, .inr (1, [.ref cr0, .ref cr1, .ref cr2, .ref cr3, .int (nI nq)])), (cr0, .inl (cI, 6, .inl (Q 5))), (cr1, .inl (cI, 6, .inl (Q 6))), (cr2, .inl (cI, 6, .inl (Q 7))), (cr3, .inl (cI, 6, .inl (Q 8))), (wh, .inr (4, [.ref wh0, .ref wh1, .ref wh2, .ref wh3, .ref wh4, .ref wh5, .int (nI nw)])), (wh0, .inl (cI, 60, .inl (Q 9))), (wh1, .inl (cI, 60, .inl (Q 10))), (wh2, .inl (cI, 60, .inl (Q 11))), (wh3, .inl (cZ, 60, .inl (Q 12))), (wh4, .inl (cI, 60, .inl (Q 13))), (wh5, .inl (cI, 60, .inl (Q 14))), (rf, .inr (3, [.ref rf0, .ref rf1, .int (nI nr)])), (rf0, .inl (cI, 3, .inl ca)), (rf1, .inl (cI, 3, .inl bo))] H := hP
              have hl : lv_has ls 5 [(4, .int (nI v)), (3, .int (nI i)), (1, .long d2), (0, .ref gx)] := hl
              have hinv : v + kv = 4 := hinv
              have hF2 : gD ((fun r v => gRaft Q nw day ca bo v r) i) kv v d2 = gD ((fun r v => gRaft Q nw day ca bo v r) i) 4 0 d := hF2
              have ih233 := ih
              refine lv_iload hx hb dX5_digest_233 (lv_at hl 0 rfl) ?_
              refine lv_iconst (v := 4) hx hb dX5_digest_235 (by decide) ?_
              refine lv_icmp_ge (tgt := 257) hx hb dX5_digest_236 (by decide) (fun c7 => ?_) (fun c7 => ?_)
              · skip
                have hk1 : kv = 0 := by have := gw_ge (n := 4) (by omega) (by omega) c7; omega
                subst hk1
                have hq2 : d2 = gD ((fun r v => gRaft Q nw day ca bo v r) i) 4 0 d := hF2
                subst hq2
                refine lv_iinc (v := nI (i + 1)) (lv' := [(3, .int (nI (i + 1))), (4, .int (nI v)), (1, .long (gD ((fun r v => gRaft Q nw day ca bo v r) i) 4 0 d)), (0, .ref gx)]) hx hb dX5_digest_257 hl (k := 1) rfl (nI_add i 1) (by decide) rfl (fun ls hl => ?_)
                refine lv_goto (tgt := 219) hx hb dX5_digest_260 (by decide) ?_
                exact ih219 (k, i + 1, gD ((fun r v => gRaft Q nw day ca bo v r) i) 4 0 d) H locs ls (by dsimp only; omega) ⟨hP, hS, lv_sub hl [0, 2, 3] rfl, (by omega), hF⟩
              · skip
                have hv : v < 4 := gw_lt (n := 4) (by omega) (by omega) c7
                obtain ⟨kv, rfl⟩ : ∃ k2, kv = k2 + 1 := ⟨kv - 1, by omega⟩
                refine lv_lload_n hx hb dX5_digest_239 rfl (lv_at hl 2 rfl) ?_
                refine lv_aload_n hx hb dX5_digest_240 rfl (lv_at hl 3 rfl) ?_
                refine lv_iload_n hx hb dX5_digest_241 rfl (lv_at hl 1 rfl) ?_
                refine lv_iload hx hb dX5_digest_242 (lv_at hl 0 rfl) ?_
                refine va_calli (va_runV (As := [.int (nI i), .int (nI v)]) (rest := [.long d2]) ⟨hx, hb, hml, hown, hts⟩ (met_X5_raftFact l D cI cZ cL gx qu qt rf qf bd cr wh wh0 wh1 wh2 wh3 wh4 wh5 rf0 rf1 co Q nw day nr ca bo i v (by first | assumption | omega) (by first | assumption | omega) (by first | assumption | omega)) (cwV 2 hts gX5_digest_X5_raftFact rfl rfl rfl (by decide +kernel) ⟨Nat.le_of_ble_eq_true rfl, Nat.le_of_ble_eq_true rfl⟩) (gw_pvr hK hP (wc := [(gx, .inr (5, [.ref qu, .ref qt, .ref rf, .int co])), (qu, .inr (2, [.ref qf, .ref bd, .ref cr, .ref wh, .int (nI day)])), (wh, .inr (4, [.ref wh0, .ref wh1, .ref wh2, .ref wh3, .ref wh4, .ref wh5, .int (nI nw)])), (wh2, .inl (cI, 60, .inl (Q 11))), (wh5, .inl (cI, 60, .inl (Q 14))), (rf, .inr (3, [.ref rf0, .ref rf1, .int (nI nr)])), (rf0, .inl (cI, 3, .inl ca)), (rf1, .inl (cI, 3, .inl bo))]) [0, 1, 13, 16, 19, 20, 21, 22] rfl 5 rfl rfl rfl) rfl rfl hl.1 rfl (lv_room (Nat.le_of_ble_eq_true rfl)) dX5_digest_244 ⟨Nat.zero_le _, Nat.zero_le _⟩) hS (fun _ _ z => z.elim) (fun _ z => z.elim) (fun r_9 _ t H1 locs ht hvm hw hB hz1 hk1 hS => ?_)
                have hP := gw_ro hP hk1
                generalize H1 = H at hP hS ⊢
                subst hw
                refine va_calll (va_runS (As := [.long d2, .int (gRaft Q nw day ca bo v i)]) (rest := []) ⟨hx, hb, hml, hown, hts⟩ (met_X5_joined l D cI cZ cL d2 (gRaft Q nw day ca bo v i)) (va_cwS 2 hts gX5_digest_X5_joined rfl rfl rfl (by decide +kernel) ⟨Nat.le_of_ble_eq_true rfl, Nat.le_of_ble_eq_true rfl⟩) (gw_psr hK hP (wc := []) [] rfl) rfl rfl hl.1 rfl (lv_room (Nat.le_of_ble_eq_true rfl)) dX5_digest_247 ⟨Nat.zero_le _, Nat.zero_le _⟩) hS (fun _ _ z => z.elim) (fun _ z => z.elim) (fun r_11 _ t H1 locs ht hvm hw hB hz1 hk1 hS => ?_)
                have hP := gw_ro hP hk1
                generalize H1 = H at hP hS ⊢
                subst hw
                refine lv_lstore_n (lv' := [(1, .long (gJ d2 (gRaft Q nw day ca bo v i))), (4, .int (nI v)), (3, .int (nI i)), (0, .ref gx)]) hx hb dX5_digest_250 rfl hl (by decide) rfl (fun ls hl => ?_)
                refine lv_iinc (v := nI (v + 1)) (lv' := [(4, .int (nI (v + 1))), (1, .long (gJ d2 (gRaft Q nw day ca bo v i))), (3, .int (nI i)), (0, .ref gx)]) hx hb dX5_digest_251 hl (k := 1) rfl (nI_add v 1) (by decide) rfl (fun ls hl => ?_)
                refine lv_goto (tgt := 233) hx hb dX5_digest_254 (by decide) ?_
                exact ih233 (kv, v + 1, gJ d2 (gRaft Q nw day ca bo v i)) H locs ls (by dsimp only; omega) ⟨hP, hS, lv_sub hl [0, 2, 1, 3] rfl, (by omega), hF2⟩
          · skip
            have hi : i < nw := gw_lt (by omega) (by omega) c
            obtain ⟨k, rfl⟩ : ∃ k2, k = k2 + 1 := ⟨k - 1, by omega⟩
            refine lv_iconst (v := 0) hx hb dX5_digest_177 (by decide) ?_
            refine lv_istore (lv' := [(4, .int 0), (3, .int (nI i)), (1, .long d), (0, .ref gx)]) hx hb dX5_digest_178 hl (by decide) rfl (fun ls hl => ?_)
            refine gw_loop (fun (zz : Nat × Nat × Int64) H locs ls => match zz with | (kv, v, d2) => va_P D vwCl [(gx, .inr (5, [.ref qu, .ref qt, .ref rf, .int co])), (qu, .inr (2, [.ref qf, .ref bd, .ref cr, .ref wh, .int (nI day)])), (qf, .inl (cI, 9, .inl (Q 0))), (bd, .inr (0, [.ref bd0, .ref bd1, .ref bd2, .ref bd3, .int (nI nb)])), (bd0, .inl (cI, 5, .inl (Q 1))), (bd1, .inl (cI, 5, .inl (Q 2))), (bd2, .inl (cI, 5, .inl (Q 3))), (bd3, .inl (cI, 5, .inl (Q 4))), (cr, .inr (1, [.ref cr0, .ref cr1, .ref cr2, .ref cr3, .int (nI nq)])), (cr0, .inl (cI, 6, .inl (Q 5))), (cr1, .inl (cI, 6, .inl (Q 6))), (cr2, .inl (cI, 6, .inl (Q 7))), (cr3, .inl (cI, 6, .inl (Q 8))), (wh, .inr (4, [.ref wh0, .ref wh1, .ref wh2, .ref wh3, .ref wh4, .ref wh5, .int (nI nw)])), (wh0, .inl (cI, 60, .inl (Q 9))), (wh1, .inl (cI, 60, .inl (Q 10))), (wh2, .inl (cI, 60, .inl (Q 11))), (wh3, .inl (cZ, 60, .inl (Q 12))), (wh4, .inl (cI, 60, .inl (Q 13))), (wh5, .inl (cI, 60, .inl (Q 14))), (rf, .inr (3, [.ref rf0, .ref rf1, .int (nI nr)])), (rf0, .inl (cI, 3, .inl ca)), (rf1, .inl (cI, 3, .inl bo))] H ∧ va_S gN s.heap H locs ∧ lv_has ls 5 [(4, .int (nI v)), (3, .int (nI i)), (1, .long d2), (0, .ref gx)] ∧ (v + kv = 6) ∧ (gD ((fun w v => gFact v (Q 9 w) (Q 11 w) (Q 10 w) (Q 13 w) (Q 12 w) (Q 14 w)) i) kv v d2 = gD ((fun w v => gFact v (Q 9 w) (Q 11 w) (Q 10 w) (Q 13 w) (Q 12 w) (Q 14 w)) i) 6 0 d)) (fun (zz : Nat × Nat × Int64) => match zz with | (kv, v, d2) => kv) (6, 0, d) ⟨hP, hS, lv_sub hl [0, 1, 2, 3] rfl, (by omega), rfl⟩ ?_
            rintro ⟨kv, v, d2⟩ ih H locs ls ⟨hP, hS, hl, hinv, hF2⟩
            have hP : va_P D vwCl [(gx, .inr (5, [.ref qu, .ref qt, .ref rf, .int co])), (qu, .inr (2, [.ref qf, .ref bd, .ref cr, .ref wh, .int (nI day)])), (qf, .inl (cI, 9, .inl (Q 0))), (bd, .inr (0, [.ref bd0, .ref bd1, .ref bd2, .ref bd3, .int (nI nb)])), (bd0, .inl (cI, 5, .inl (Q 1))), (bd1, .inl (cI, 5, .inl (Q 2))), (bd2, .inl (cI, 5, .inl (Q 3))), (bd3, .inl (cI, 5, .inl (Q 4))), (cr, .inr (1, [.ref cr0, .ref cr1, .ref cr2, .ref cr3, .int (nI nq)])), (cr0, .inl (cI, 6, .inl (Q 5))), (cr1, .inl (cI, 6, .inl (Q 6))), (cr2, .inl (cI, 6, .inl (Q 7))), (cr3, .inl (cI, 6, .inl (Q 8))), (wh, .inr (4, [.ref wh0, .ref wh1, .ref wh2, .ref wh3, .ref wh4, .ref wh5, .int (nI nw)])), (wh0, .inl (cI, 60, .inl (Q 9))), (wh1, .inl (cI, 60, .inl (Q 10))), (wh2, .inl (cI, 60, .inl (Q 11))), (wh3, .inl (cZ, 60, .inl (Q 12))), (wh4, .inl (cI, 60, .inl (Q 13))), (wh5, .inl (cI, 60, .inl (Q 14))), (rf, .inr (3, [.ref rf0, .ref rf1, .int (nI nr)])), (rf0, .inl (cI, 3, .inl ca)), (rf1, .inl (cI, 3, .inl bo))] H := hP
            have hl : lv_has ls 5 [(4, .int (nI v)), (3, .int (nI i)), (1, .long d2), (0, .ref gx)] := hl
            have hinv : v + kv = 6 := hinv
            have hF2 : gD ((fun w v => gFact v (Q 9 w) (Q 11 w) (Q 10 w) (Q 13 w) (Q 12 w) (Q 14 w)) i) kv v d2 = gD ((fun w v => gFact v (Q 9 w) (Q 11 w) (Q 10 w) (Q 13 w) (Q 12 w) (Q 14 w)) i) 6 0 d := hF2
            have ih180 := ih
            refine lv_iload hx hb dX5_digest_180 (lv_at hl 0 rfl) ?_
            refine lv_bipush (v := 6) hx hb dX5_digest_182 (by decide) ?_
            refine lv_icmp_ge (tgt := 211) hx hb dX5_digest_184 (by decide) (fun c7 => ?_) (fun c7 => ?_)
            · skip
              have hk1 : kv = 0 := by have := gw_ge (n := 6) (by omega) (by omega) c7; omega
              subst hk1
              have hq2 : d2 = gD ((fun w v => gFact v (Q 9 w) (Q 11 w) (Q 10 w) (Q 13 w) (Q 12 w) (Q 14 w)) i) 6 0 d := hF2
              subst hq2
              refine lv_iinc (v := nI (i + 1)) (lv' := [(3, .int (nI (i + 1))), (4, .int (nI v)), (1, .long (gD ((fun w v => gFact v (Q 9 w) (Q 11 w) (Q 10 w) (Q 13 w) (Q 12 w) (Q 14 w)) i) 6 0 d)), (0, .ref gx)]) hx hb dX5_digest_211 hl (k := 1) rfl (nI_add i 1) (by decide) rfl (fun ls hl => ?_)
              refine lv_goto (tgt := 163) hx hb dX5_digest_214 (by decide) ?_
              exact ih163 (k, i + 1, gD ((fun w v => gFact v (Q 9 w) (Q 11 w) (Q 10 w) (Q 13 w) (Q 12 w) (Q 14 w)) i) 6 0 d) H locs ls (by dsimp only; omega) ⟨hP, hS, lv_sub hl [0, 2, 3] rfl, (by omega), hF⟩
            · skip
              have hv : v < 6 := gw_lt (n := 6) (by omega) (by omega) c7
              obtain ⟨kv, rfl⟩ : ∃ k2, kv = k2 + 1 := ⟨kv - 1, by omega⟩
              refine lv_lload_n hx hb dX5_digest_187 rfl (lv_at hl 2 rfl) ?_
              refine lv_aload_n hx hb dX5_digest_188 rfl (lv_at hl 3 rfl) ?_
              refine va_get (D := D) (ci := 5) (v := .ref qu) (C := RX5) (T := TX5) (N := 4) hx hb hts wc_X5_digest_ok_X5 hown hK hP 0 rfl rfl 0 (by decide) (hts _ wd_X5_digest_ok_2) (fun _ h9 => h9) rfl dX5_digest_189 ?_
              refine va_get (D := D) (ci := 2) (v := .ref wh) (C := RX2) (T := TX2) (N := 5) hx hb hts wc_X5_digest_ok_X2 hown hK hP 1 rfl rfl 3 (by decide) (hts _ wd_X5_digest_ok_10) (fun _ h9 => h9) rfl dX5_digest_192 ?_
              refine lv_iload_n hx hb dX5_digest_195 rfl (lv_at hl 1 rfl) ?_
              refine lv_iload hx hb dX5_digest_196 (lv_at hl 0 rfl) ?_
              refine va_calli (va_runV (As := [.int (nI i), .int (nI v)]) (rest := [.long d2]) ⟨hx, hb, hml, hown, hts⟩ (met_X4_fact l D cI cZ cL wh wh0 wh1 wh2 wh3 wh4 wh5 nw (Q 9) (Q 10) (Q 11) (Q 12) (Q 13) (Q 14) i v (by first | assumption | omega) (by first | assumption | omega)) (cwV 2 hts gX5_digest_X4_fact rfl rfl rfl (by decide +kernel) ⟨Nat.le_of_ble_eq_true rfl, Nat.le_of_ble_eq_true rfl⟩) (gw_pvr hK hP (wc := [(wh, .inr (4, [.ref wh0, .ref wh1, .ref wh2, .ref wh3, .ref wh4, .ref wh5, .int (nI nw)])), (wh0, .inl (cI, 60, .inl (Q 9))), (wh1, .inl (cI, 60, .inl (Q 10))), (wh2, .inl (cI, 60, .inl (Q 11))), (wh3, .inl (cZ, 60, .inl (Q 12))), (wh4, .inl (cI, 60, .inl (Q 13))), (wh5, .inl (cI, 60, .inl (Q 14)))]) [13, 14, 15, 16, 17, 18, 19] rfl 4 rfl rfl rfl) rfl rfl hl.1 rfl (lv_room (Nat.le_of_ble_eq_true rfl)) dX5_digest_198 ⟨Nat.zero_le _, Nat.zero_le _⟩) hS (fun _ _ z => z.elim) (fun _ z => z.elim) (fun r_14 _ t H1 locs ht hvm hw hB hz1 hk1 hS => ?_)
              have hP := gw_ro hP hk1
              generalize H1 = H at hP hS ⊢
              subst hw
              refine va_calll (va_runS (As := [.long d2, .int (gFact v ((Q 9) i) ((Q 11) i) ((Q 10) i) ((Q 13) i) ((Q 12) i) ((Q 14) i))]) (rest := []) ⟨hx, hb, hml, hown, hts⟩ (met_X5_joined l D cI cZ cL d2 (gFact v ((Q 9) i) ((Q 11) i) ((Q 10) i) ((Q 13) i) ((Q 12) i) ((Q 14) i))) (va_cwS 2 hts gX5_digest_X5_joined rfl rfl rfl (by decide +kernel) ⟨Nat.le_of_ble_eq_true rfl, Nat.le_of_ble_eq_true rfl⟩) (gw_psr hK hP (wc := []) [] rfl) rfl rfl hl.1 rfl (lv_room (Nat.le_of_ble_eq_true rfl)) dX5_digest_201 ⟨Nat.zero_le _, Nat.zero_le _⟩) hS (fun _ _ z => z.elim) (fun _ z => z.elim) (fun r_16 _ t H1 locs ht hvm hw hB hz1 hk1 hS => ?_)
              have hP := gw_ro hP hk1
              generalize H1 = H at hP hS ⊢
              subst hw
              refine lv_lstore_n (lv' := [(1, .long (gJ d2 (gFact v ((Q 9) i) ((Q 11) i) ((Q 10) i) ((Q 13) i) ((Q 12) i) ((Q 14) i)))), (4, .int (nI v)), (3, .int (nI i)), (0, .ref gx)]) hx hb dX5_digest_204 rfl hl (by decide) rfl (fun ls hl => ?_)
              refine lv_iinc (v := nI (v + 1)) (lv' := [(4, .int (nI (v + 1))), (1, .long (gJ d2 (gFact v ((Q 9) i) ((Q 11) i) ((Q 10) i) ((Q 13) i) ((Q 12) i) ((Q 14) i)))), (3, .int (nI i)), (0, .ref gx)]) hx hb dX5_digest_205 hl (k := 1) rfl (nI_add v 1) (by decide) rfl (fun ls hl => ?_)
              refine lv_goto (tgt := 180) hx hb dX5_digest_208 (by decide) ?_
              exact ih180 (kv, v + 1, gJ d2 (gFact v ((Q 9) i) ((Q 11) i) ((Q 10) i) ((Q 13) i) ((Q 12) i) ((Q 14) i))) H locs ls (by dsimp only; omega) ⟨hP, hS, lv_sub hl [0, 2, 1, 3] rfl, (by omega), hF2⟩
        · skip
          have hi : i < nq := gw_lt (by omega) (by omega) c
          obtain ⟨k, rfl⟩ : ∃ k2, k = k2 + 1 := ⟨k - 1, by omega⟩
          refine lv_iconst (v := 0) hx hb dX5_digest_125 (by decide) ?_
          refine lv_istore (lv' := [(4, .int 0), (3, .int (nI i)), (1, .long d), (0, .ref gx)]) hx hb dX5_digest_126 hl (by decide) rfl (fun ls hl => ?_)
          refine gw_loop (fun (zz : Nat × Nat × Int64) H locs ls => match zz with | (kv, v, d2) => va_P D vwCl [(gx, .inr (5, [.ref qu, .ref qt, .ref rf, .int co])), (qu, .inr (2, [.ref qf, .ref bd, .ref cr, .ref wh, .int (nI day)])), (qf, .inl (cI, 9, .inl (Q 0))), (bd, .inr (0, [.ref bd0, .ref bd1, .ref bd2, .ref bd3, .int (nI nb)])), (bd0, .inl (cI, 5, .inl (Q 1))), (bd1, .inl (cI, 5, .inl (Q 2))), (bd2, .inl (cI, 5, .inl (Q 3))), (bd3, .inl (cI, 5, .inl (Q 4))), (cr, .inr (1, [.ref cr0, .ref cr1, .ref cr2, .ref cr3, .int (nI nq)])), (cr0, .inl (cI, 6, .inl (Q 5))), (cr1, .inl (cI, 6, .inl (Q 6))), (cr2, .inl (cI, 6, .inl (Q 7))), (cr3, .inl (cI, 6, .inl (Q 8))), (wh, .inr (4, [.ref wh0, .ref wh1, .ref wh2, .ref wh3, .ref wh4, .ref wh5, .int (nI nw)])), (wh0, .inl (cI, 60, .inl (Q 9))), (wh1, .inl (cI, 60, .inl (Q 10))), (wh2, .inl (cI, 60, .inl (Q 11))), (wh3, .inl (cZ, 60, .inl (Q 12))), (wh4, .inl (cI, 60, .inl (Q 13))), (wh5, .inl (cI, 60, .inl (Q 14))), (rf, .inr (3, [.ref rf0, .ref rf1, .int (nI nr)])), (rf0, .inl (cI, 3, .inl ca)), (rf1, .inl (cI, 3, .inl bo))] H ∧ va_S gN s.heap H locs ∧ lv_has ls 5 [(4, .int (nI v)), (3, .int (nI i)), (1, .long d2), (0, .ref gx)] ∧ (v + kv = 5) ∧ (gD ((fun q v => gQua Q v q) i) kv v d2 = gD ((fun q v => gQua Q v q) i) 5 0 d)) (fun (zz : Nat × Nat × Int64) => match zz with | (kv, v, d2) => kv) (5, 0, d) ⟨hP, hS, lv_sub hl [0, 1, 2, 3] rfl, (by omega), rfl⟩ ?_
          rintro ⟨kv, v, d2⟩ ih H locs ls ⟨hP, hS, hl, hinv, hF2⟩
          have hP : va_P D vwCl [(gx, .inr (5, [.ref qu, .ref qt, .ref rf, .int co])), (qu, .inr (2, [.ref qf, .ref bd, .ref cr, .ref wh, .int (nI day)])), (qf, .inl (cI, 9, .inl (Q 0))), (bd, .inr (0, [.ref bd0, .ref bd1, .ref bd2, .ref bd3, .int (nI nb)])), (bd0, .inl (cI, 5, .inl (Q 1))), (bd1, .inl (cI, 5, .inl (Q 2))), (bd2, .inl (cI, 5, .inl (Q 3))), (bd3, .inl (cI, 5, .inl (Q 4))), (cr, .inr (1, [.ref cr0, .ref cr1, .ref cr2, .ref cr3, .int (nI nq)])), (cr0, .inl (cI, 6, .inl (Q 5))), (cr1, .inl (cI, 6, .inl (Q 6))), (cr2, .inl (cI, 6, .inl (Q 7))), (cr3, .inl (cI, 6, .inl (Q 8))), (wh, .inr (4, [.ref wh0, .ref wh1, .ref wh2, .ref wh3, .ref wh4, .ref wh5, .int (nI nw)])), (wh0, .inl (cI, 60, .inl (Q 9))), (wh1, .inl (cI, 60, .inl (Q 10))), (wh2, .inl (cI, 60, .inl (Q 11))), (wh3, .inl (cZ, 60, .inl (Q 12))), (wh4, .inl (cI, 60, .inl (Q 13))), (wh5, .inl (cI, 60, .inl (Q 14))), (rf, .inr (3, [.ref rf0, .ref rf1, .int (nI nr)])), (rf0, .inl (cI, 3, .inl ca)), (rf1, .inl (cI, 3, .inl bo))] H := hP
          have hl : lv_has ls 5 [(4, .int (nI v)), (3, .int (nI i)), (1, .long d2), (0, .ref gx)] := hl
          have hinv : v + kv = 5 := hinv
          have hF2 : gD ((fun q v => gQua Q v q) i) kv v d2 = gD ((fun q v => gQua Q v q) i) 5 0 d := hF2
          have ih128 := ih
          refine lv_iload hx hb dX5_digest_128 (lv_at hl 0 rfl) ?_
          refine lv_iconst (v := 5) hx hb dX5_digest_130 (by decide) ?_
          refine lv_icmp_ge (tgt := 155) hx hb dX5_digest_131 (by decide) (fun c7 => ?_) (fun c7 => ?_)
          · skip
            have hk1 : kv = 0 := by have := gw_ge (n := 5) (by omega) (by omega) c7; omega
            subst hk1
            have hq2 : d2 = gD ((fun q v => gQua Q v q) i) 5 0 d := hF2
            subst hq2
            refine lv_iinc (v := nI (i + 1)) (lv' := [(3, .int (nI (i + 1))), (4, .int (nI v)), (1, .long (gD ((fun q v => gQua Q v q) i) 5 0 d)), (0, .ref gx)]) hx hb dX5_digest_155 hl (k := 1) rfl (nI_add i 1) (by decide) rfl (fun ls hl => ?_)
            refine lv_goto (tgt := 111) hx hb dX5_digest_158 (by decide) ?_
            exact ih111 (k, i + 1, gD ((fun q v => gQua Q v q) i) 5 0 d) H locs ls (by dsimp only; omega) ⟨hP, hS, lv_sub hl [0, 2, 3] rfl, (by omega), hF⟩
          · skip
            have hv : v < 5 := gw_lt (n := 5) (by omega) (by omega) c7
            obtain ⟨kv, rfl⟩ : ∃ k2, kv = k2 + 1 := ⟨kv - 1, by omega⟩
            refine lv_lload_n hx hb dX5_digest_134 rfl (lv_at hl 2 rfl) ?_
            refine lv_aload_n hx hb dX5_digest_135 rfl (lv_at hl 3 rfl) ?_
            refine va_get (D := D) (ci := 5) (v := .ref qu) (C := RX5) (T := TX5) (N := 4) hx hb hts wc_X5_digest_ok_X5 hown hK hP 0 rfl rfl 0 (by decide) (hts _ wd_X5_digest_ok_2) (fun _ h9 => h9) rfl dX5_digest_136 ?_
            refine lv_iload_n hx hb dX5_digest_139 rfl (lv_at hl 1 rfl) ?_
            refine lv_iload hx hb dX5_digest_140 (lv_at hl 0 rfl) ?_
            refine va_calli (va_runV (As := [.int (nI i), .int (nI v)]) (rest := [.long d2]) ⟨hx, hb, hml, hown, hts⟩ (met_X2_quarrierFact l D cI cZ cL qu qf bd cr wh bd0 bd1 bd2 bd3 cr0 cr1 cr2 cr3 Q nb nq day i v (by first | assumption | omega) (by first | assumption | omega) (by first | assumption | omega) (by first | assumption | omega) (by first | assumption | omega)) (cwV 2 hts gX5_digest_X2_quarrierFact rfl rfl rfl (by decide +kernel) ⟨Nat.le_of_ble_eq_true rfl, Nat.le_of_ble_eq_true rfl⟩) (gw_pvr hK hP (wc := [(qu, .inr (2, [.ref qf, .ref bd, .ref cr, .ref wh, .int (nI day)])), (bd, .inr (0, [.ref bd0, .ref bd1, .ref bd2, .ref bd3, .int (nI nb)])), (bd0, .inl (cI, 5, .inl (Q 1))), (cr, .inr (1, [.ref cr0, .ref cr1, .ref cr2, .ref cr3, .int (nI nq)])), (cr0, .inl (cI, 6, .inl (Q 5))), (cr1, .inl (cI, 6, .inl (Q 6))), (cr2, .inl (cI, 6, .inl (Q 7))), (cr3, .inl (cI, 6, .inl (Q 8)))]) [1, 3, 4, 8, 9, 10, 11, 12] rfl 2 rfl rfl rfl) rfl rfl hl.1 rfl (lv_room (Nat.le_of_ble_eq_true rfl)) dX5_digest_142 ⟨Nat.zero_le _, Nat.zero_le _⟩) hS (fun _ _ z => z.elim) (fun _ z => z.elim) (fun r_19 _ t H1 locs ht hvm hw hB hz1 hk1 hS => ?_)
            have hP := gw_ro hP hk1
            generalize H1 = H at hP hS ⊢
            subst hw
            refine va_calll (va_runS (As := [.long d2, .int (gQua Q v i)]) (rest := []) ⟨hx, hb, hml, hown, hts⟩ (met_X5_joined l D cI cZ cL d2 (gQua Q v i)) (va_cwS 2 hts gX5_digest_X5_joined rfl rfl rfl (by decide +kernel) ⟨Nat.le_of_ble_eq_true rfl, Nat.le_of_ble_eq_true rfl⟩) (gw_psr hK hP (wc := []) [] rfl) rfl rfl hl.1 rfl (lv_room (Nat.le_of_ble_eq_true rfl)) dX5_digest_145 ⟨Nat.zero_le _, Nat.zero_le _⟩) hS (fun _ _ z => z.elim) (fun _ z => z.elim) (fun r_21 _ t H1 locs ht hvm hw hB hz1 hk1 hS => ?_)
            have hP := gw_ro hP hk1
            generalize H1 = H at hP hS ⊢
            subst hw
            refine lv_lstore_n (lv' := [(1, .long (gJ d2 (gQua Q v i))), (4, .int (nI v)), (3, .int (nI i)), (0, .ref gx)]) hx hb dX5_digest_148 rfl hl (by decide) rfl (fun ls hl => ?_)
            refine lv_iinc (v := nI (v + 1)) (lv' := [(4, .int (nI (v + 1))), (1, .long (gJ d2 (gQua Q v i))), (3, .int (nI i)), (0, .ref gx)]) hx hb dX5_digest_149 hl (k := 1) rfl (nI_add v 1) (by decide) rfl (fun ls hl => ?_)
            refine lv_goto (tgt := 128) hx hb dX5_digest_152 (by decide) ?_
            exact ih128 (kv, v + 1, gJ d2 (gQua Q v i)) H locs ls (by dsimp only; omega) ⟨hP, hS, lv_sub hl [0, 2, 1, 3] rfl, (by omega), hF2⟩
      · skip
        have hi : i < nb := gw_lt (by omega) (by omega) c
        obtain ⟨k, rfl⟩ : ∃ k2, k = k2 + 1 := ⟨k - 1, by omega⟩
        refine lv_iconst (v := 0) hx hb dX5_digest_72 (by decide) ?_
        refine lv_istore (lv' := [(4, .int 0), (3, .int (nI i)), (1, .long d), (0, .ref gx)]) hx hb dX5_digest_73 hl (by decide) rfl (fun ls hl => ?_)
        refine gw_loop (fun (zz : Nat × Nat × Int64) H locs ls => match zz with | (kv, v, d2) => va_P D vwCl [(gx, .inr (5, [.ref qu, .ref qt, .ref rf, .int co])), (qu, .inr (2, [.ref qf, .ref bd, .ref cr, .ref wh, .int (nI day)])), (qf, .inl (cI, 9, .inl (Q 0))), (bd, .inr (0, [.ref bd0, .ref bd1, .ref bd2, .ref bd3, .int (nI nb)])), (bd0, .inl (cI, 5, .inl (Q 1))), (bd1, .inl (cI, 5, .inl (Q 2))), (bd2, .inl (cI, 5, .inl (Q 3))), (bd3, .inl (cI, 5, .inl (Q 4))), (cr, .inr (1, [.ref cr0, .ref cr1, .ref cr2, .ref cr3, .int (nI nq)])), (cr0, .inl (cI, 6, .inl (Q 5))), (cr1, .inl (cI, 6, .inl (Q 6))), (cr2, .inl (cI, 6, .inl (Q 7))), (cr3, .inl (cI, 6, .inl (Q 8))), (wh, .inr (4, [.ref wh0, .ref wh1, .ref wh2, .ref wh3, .ref wh4, .ref wh5, .int (nI nw)])), (wh0, .inl (cI, 60, .inl (Q 9))), (wh1, .inl (cI, 60, .inl (Q 10))), (wh2, .inl (cI, 60, .inl (Q 11))), (wh3, .inl (cZ, 60, .inl (Q 12))), (wh4, .inl (cI, 60, .inl (Q 13))), (wh5, .inl (cI, 60, .inl (Q 14))), (rf, .inr (3, [.ref rf0, .ref rf1, .int (nI nr)])), (rf0, .inl (cI, 3, .inl ca)), (rf1, .inl (cI, 3, .inl bo))] H ∧ va_S gN s.heap H locs ∧ lv_has ls 5 [(4, .int (nI v)), (3, .int (nI i)), (1, .long d2), (0, .ref gx)] ∧ (v + kv = 6) ∧ (gD ((fun b v => gBed Q nq nw v b) i) kv v d2 = gD ((fun b v => gBed Q nq nw v b) i) 6 0 d)) (fun (zz : Nat × Nat × Int64) => match zz with | (kv, v, d2) => kv) (6, 0, d) ⟨hP, hS, lv_sub hl [0, 1, 2, 3] rfl, (by omega), rfl⟩ ?_
        rintro ⟨kv, v, d2⟩ ih H locs ls ⟨hP, hS, hl, hinv, hF2⟩
        have hP : va_P D vwCl [(gx, .inr (5, [.ref qu, .ref qt, .ref rf, .int co])), (qu, .inr (2, [.ref qf, .ref bd, .ref cr, .ref wh, .int (nI day)])), (qf, .inl (cI, 9, .inl (Q 0))), (bd, .inr (0, [.ref bd0, .ref bd1, .ref bd2, .ref bd3, .int (nI nb)])), (bd0, .inl (cI, 5, .inl (Q 1))), (bd1, .inl (cI, 5, .inl (Q 2))), (bd2, .inl (cI, 5, .inl (Q 3))), (bd3, .inl (cI, 5, .inl (Q 4))), (cr, .inr (1, [.ref cr0, .ref cr1, .ref cr2, .ref cr3, .int (nI nq)])), (cr0, .inl (cI, 6, .inl (Q 5))), (cr1, .inl (cI, 6, .inl (Q 6))), (cr2, .inl (cI, 6, .inl (Q 7))), (cr3, .inl (cI, 6, .inl (Q 8))), (wh, .inr (4, [.ref wh0, .ref wh1, .ref wh2, .ref wh3, .ref wh4, .ref wh5, .int (nI nw)])), (wh0, .inl (cI, 60, .inl (Q 9))), (wh1, .inl (cI, 60, .inl (Q 10))), (wh2, .inl (cI, 60, .inl (Q 11))), (wh3, .inl (cZ, 60, .inl (Q 12))), (wh4, .inl (cI, 60, .inl (Q 13))), (wh5, .inl (cI, 60, .inl (Q 14))), (rf, .inr (3, [.ref rf0, .ref rf1, .int (nI nr)])), (rf0, .inl (cI, 3, .inl ca)), (rf1, .inl (cI, 3, .inl bo))] H := hP
        have hl : lv_has ls 5 [(4, .int (nI v)), (3, .int (nI i)), (1, .long d2), (0, .ref gx)] := hl
        have hinv : v + kv = 6 := hinv
        have hF2 : gD ((fun b v => gBed Q nq nw v b) i) kv v d2 = gD ((fun b v => gBed Q nq nw v b) i) 6 0 d := hF2
        have ih75 := ih
        refine lv_iload hx hb dX5_digest_75 (lv_at hl 0 rfl) ?_
        refine lv_bipush (v := 6) hx hb dX5_digest_77 (by decide) ?_
        refine lv_icmp_ge (tgt := 103) hx hb dX5_digest_79 (by decide) (fun c7 => ?_) (fun c7 => ?_)
        · skip
          have hk1 : kv = 0 := by have := gw_ge (n := 6) (by omega) (by omega) c7; omega
          subst hk1
          have hq2 : d2 = gD ((fun b v => gBed Q nq nw v b) i) 6 0 d := hF2
          subst hq2
          refine lv_iinc (v := nI (i + 1)) (lv' := [(3, .int (nI (i + 1))), (4, .int (nI v)), (1, .long (gD ((fun b v => gBed Q nq nw v b) i) 6 0 d)), (0, .ref gx)]) hx hb dX5_digest_103 hl (k := 1) rfl (nI_add i 1) (by decide) rfl (fun ls hl => ?_)
          refine lv_goto (tgt := 58) hx hb dX5_digest_106 (by decide) ?_
          exact ih58 (k, i + 1, gD ((fun b v => gBed Q nq nw v b) i) 6 0 d) H locs ls (by dsimp only; omega) ⟨hP, hS, lv_sub hl [0, 2, 3] rfl, (by omega), hF⟩
        · skip
          have hv : v < 6 := gw_lt (n := 6) (by omega) (by omega) c7
          obtain ⟨kv, rfl⟩ : ∃ k2, kv = k2 + 1 := ⟨kv - 1, by omega⟩
          refine lv_lload_n hx hb dX5_digest_82 rfl (lv_at hl 2 rfl) ?_
          refine lv_aload_n hx hb dX5_digest_83 rfl (lv_at hl 3 rfl) ?_
          refine va_get (D := D) (ci := 5) (v := .ref qu) (C := RX5) (T := TX5) (N := 4) hx hb hts wc_X5_digest_ok_X5 hown hK hP 0 rfl rfl 0 (by decide) (hts _ wd_X5_digest_ok_2) (fun _ h9 => h9) rfl dX5_digest_84 ?_
          refine lv_iload_n hx hb dX5_digest_87 rfl (lv_at hl 1 rfl) ?_
          refine lv_iload hx hb dX5_digest_88 (lv_at hl 0 rfl) ?_
          refine va_calli (va_runV (As := [.int (nI i), .int (nI v)]) (rest := [.long d2]) ⟨hx, hb, hml, hown, hts⟩ (met_X2_bedFact l D cI cZ cL qu qf bd cr wh bd0 bd1 bd2 bd3 cr0 cr1 cr2 cr3 wh0 wh1 wh2 wh3 wh4 wh5 Q nb nq nw day i v (by first | assumption | omega) (by first | assumption | omega) (by first | assumption | omega) (by first | assumption | omega)) (cwV 2 hts gX5_digest_X2_bedFact rfl rfl rfl (by decide +kernel) ⟨Nat.le_of_ble_eq_true rfl, Nat.le_of_ble_eq_true rfl⟩) (gw_pvr hK hP (wc := [(qu, .inr (2, [.ref qf, .ref bd, .ref cr, .ref wh, .int (nI day)])), (bd, .inr (0, [.ref bd0, .ref bd1, .ref bd2, .ref bd3, .int (nI nb)])), (bd0, .inl (cI, 5, .inl (Q 1))), (bd1, .inl (cI, 5, .inl (Q 2))), (bd2, .inl (cI, 5, .inl (Q 3))), (bd3, .inl (cI, 5, .inl (Q 4))), (cr, .inr (1, [.ref cr0, .ref cr1, .ref cr2, .ref cr3, .int (nI nq)])), (cr1, .inl (cI, 6, .inl (Q 6))), (wh, .inr (4, [.ref wh0, .ref wh1, .ref wh2, .ref wh3, .ref wh4, .ref wh5, .int (nI nw)])), (wh0, .inl (cI, 60, .inl (Q 9))), (wh3, .inl (cZ, 60, .inl (Q 12)))]) [1, 3, 4, 5, 6, 7, 8, 10, 13, 14, 17] rfl 2 rfl rfl rfl) rfl rfl hl.1 rfl (lv_room (Nat.le_of_ble_eq_true rfl)) dX5_digest_90 ⟨Nat.zero_le _, Nat.zero_le _⟩) hS (fun _ _ z => z.elim) (fun _ z => z.elim) (fun r_24 _ t H1 locs ht hvm hw hB hz1 hk1 hS => ?_)
          have hP := gw_ro hP hk1
          generalize H1 = H at hP hS ⊢
          subst hw
          refine va_calll (va_runS (As := [.long d2, .int (gBed Q nq nw v i)]) (rest := []) ⟨hx, hb, hml, hown, hts⟩ (met_X5_joined l D cI cZ cL d2 (gBed Q nq nw v i)) (va_cwS 2 hts gX5_digest_X5_joined rfl rfl rfl (by decide +kernel) ⟨Nat.le_of_ble_eq_true rfl, Nat.le_of_ble_eq_true rfl⟩) (gw_psr hK hP (wc := []) [] rfl) rfl rfl hl.1 rfl (lv_room (Nat.le_of_ble_eq_true rfl)) dX5_digest_93 ⟨Nat.zero_le _, Nat.zero_le _⟩) hS (fun _ _ z => z.elim) (fun _ z => z.elim) (fun r_26 _ t H1 locs ht hvm hw hB hz1 hk1 hS => ?_)
          have hP := gw_ro hP hk1
          generalize H1 = H at hP hS ⊢
          subst hw
          refine lv_lstore_n (lv' := [(1, .long (gJ d2 (gBed Q nq nw v i))), (4, .int (nI v)), (3, .int (nI i)), (0, .ref gx)]) hx hb dX5_digest_96 rfl hl (by decide) rfl (fun ls hl => ?_)
          refine lv_iinc (v := nI (v + 1)) (lv' := [(4, .int (nI (v + 1))), (1, .long (gJ d2 (gBed Q nq nw v i))), (3, .int (nI i)), (0, .ref gx)]) hx hb dX5_digest_97 hl (k := 1) rfl (nI_add v 1) (by decide) rfl (fun ls hl => ?_)
          refine lv_goto (tgt := 75) hx hb dX5_digest_100 (by decide) ?_
          exact ih75 (kv, v + 1, gJ d2 (gBed Q nq nw v i)) H locs ls (by dsimp only; omega) ⟨hP, hS, lv_sub hl [0, 2, 1, 3] rfl, (by omega), hF2⟩
    · skip
      have hi : i < 9 := gw_lt (n := 9) (by omega) (by omega) c
      obtain ⟨k, rfl⟩ : ∃ k2, k = k2 + 1 := ⟨k - 1, by omega⟩
      refine lv_lload_n hx hb dX5_digest_36 rfl (lv_at hl 1 rfl) ?_
      refine lv_aload_n hx hb dX5_digest_37 rfl (lv_at hl 2 rfl) ?_
      refine va_get (D := D) (ci := 5) (v := .ref qu) (C := RX5) (T := TX5) (N := 4) hx hb hts wc_X5_digest_ok_X5 hown hK hP 0 rfl rfl 0 (by decide) (hts _ wd_X5_digest_ok_2) (fun _ h9 => h9) rfl dX5_digest_38 ?_
      refine va_get (D := D) (ci := 2) (v := .ref qf) (C := RX2) (T := TX2) (N := 5) hx hb hts wc_X5_digest_ok_X2 hown hK hP 1 rfl rfl 0 (by decide) (hts _ wd_X5_digest_ok_16) (fun _ h9 => h9) rfl dX5_digest_41 ?_
      refine lv_iload_n hx hb dX5_digest_44 rfl (lv_at hl 0 rfl) ?_
      refine gw_iald hx hb hK hP 2 0 (k := i) rfl rfl (by omega) (by decide) dX5_digest_45 ?_
      refine va_calll (va_runS (As := [.long d, .int (Q 0 i)]) (rest := []) ⟨hx, hb, hml, hown, hts⟩ (met_X5_joined l D cI cZ cL d (Q 0 i)) (va_cwS 2 hts gX5_digest_X5_joined rfl rfl rfl (by decide +kernel) ⟨Nat.le_of_ble_eq_true rfl, Nat.le_of_ble_eq_true rfl⟩) (gw_psr hK hP (wc := []) [] rfl) rfl rfl hl.1 rfl (lv_room (Nat.le_of_ble_eq_true rfl)) dX5_digest_46 ⟨Nat.zero_le _, Nat.zero_le _⟩) hS (fun _ _ z => z.elim) (fun _ z => z.elim) (fun r_28 _ t H1 locs ht hvm hw hB hz1 hk1 hS => ?_)
      have hP := gw_ro hP hk1
      generalize H1 = H at hP hS ⊢
      subst hw
      refine lv_lstore_n (lv' := [(1, .long (gJ d (Q 0 i))), (3, .int (nI i)), (0, .ref gx)]) hx hb dX5_digest_49 rfl hl (by decide) rfl (fun ls hl => ?_)
      refine lv_iinc (v := nI (i + 1)) (lv' := [(3, .int (nI (i + 1))), (1, .long (gJ d (Q 0 i))), (0, .ref gx)]) hx hb dX5_digest_50 hl (k := 1) rfl (nI_add i 1) (by decide) rfl (fun ls hl => ?_)
      refine lv_goto (tgt := 30) hx hb dX5_digest_53 (by decide) ?_
      exact ih30 (k, i + 1, gJ d (Q 0 i)) H locs ls (by dsimp only; omega) ⟨hP, hS, lv_sub hl [0, 1, 2] rfl, (by omega), hF⟩
  · skip
    have hi : i < 10 := gw_lt (n := 10) (by omega) (by omega) c
    obtain ⟨k, rfl⟩ : ∃ k2, k = k2 + 1 := ⟨k - 1, by omega⟩
    refine lv_lload_n hx hb dX5_digest_12 rfl (lv_at hl 1 rfl) ?_
    refine lv_aload_n hx hb dX5_digest_13 rfl (lv_at hl 2 rfl) ?_
    refine lv_iload_n hx hb dX5_digest_14 rfl (lv_at hl 0 rfl) ?_
    refine va_calli (va_runV (As := [.int (nI i)]) (rest := [.long d]) ⟨hx, hb, hml, hown, hts⟩ (met_X5_countOf l D cI cZ cL gx qu qt rf qf bd cr wh cr0 cr1 cr2 cr3 wh0 wh1 wh2 wh3 wh4 wh5 co Q nq nw day i (by first | assumption | omega) (by first | assumption | omega) (by first | assumption | omega) (by first | assumption | omega)) (cwV 1 hts gX5_digest_X5_countOf rfl rfl rfl (by decide +kernel) ⟨Nat.le_of_ble_eq_true rfl, Nat.le_of_ble_eq_true rfl⟩) (gw_pvr hK hP (wc := [(gx, .inr (5, [.ref qu, .ref qt, .ref rf, .int co])), (qu, .inr (2, [.ref qf, .ref bd, .ref cr, .ref wh, .int (nI day)])), (qf, .inl (cI, 9, .inl (Q 0))), (cr, .inr (1, [.ref cr0, .ref cr1, .ref cr2, .ref cr3, .int (nI nq)])), (cr2, .inl (cI, 6, .inl (Q 7))), (wh, .inr (4, [.ref wh0, .ref wh1, .ref wh2, .ref wh3, .ref wh4, .ref wh5, .int (nI nw)])), (wh4, .inl (cI, 60, .inl (Q 13)))]) [0, 1, 2, 8, 11, 13, 18] rfl 5 rfl rfl rfl) rfl rfl hl.1 rfl (lv_room (Nat.le_of_ble_eq_true rfl)) dX5_digest_15 ⟨Nat.zero_le _, Nat.zero_le _⟩) hS (fun _ _ z => z.elim) (fun _ z => z.elim) (fun r_30 _ t H1 locs ht hvm hw hB hz1 hk1 hS => ?_)
    have hP := gw_ro hP hk1
    generalize H1 = H at hP hS ⊢
    subst hw
    refine va_calll (va_runS (As := [.long d, .int (gCntC Q nq nw day co i)]) (rest := []) ⟨hx, hb, hml, hown, hts⟩ (met_X5_joined l D cI cZ cL d (gCntC Q nq nw day co i)) (va_cwS 2 hts gX5_digest_X5_joined rfl rfl rfl (by decide +kernel) ⟨Nat.le_of_ble_eq_true rfl, Nat.le_of_ble_eq_true rfl⟩) (gw_psr hK hP (wc := []) [] rfl) rfl rfl hl.1 rfl (lv_room (Nat.le_of_ble_eq_true rfl)) dX5_digest_18 ⟨Nat.zero_le _, Nat.zero_le _⟩) hS (fun _ _ z => z.elim) (fun _ z => z.elim) (fun r_32 _ t H1 locs ht hvm hw hB hz1 hk1 hS => ?_)
    have hP := gw_ro hP hk1
    generalize H1 = H at hP hS ⊢
    subst hw
    refine lv_lstore_n (lv' := [(1, .long (gJ d (gCntC Q nq nw day co i))), (3, .int (nI i)), (0, .ref gx)]) hx hb dX5_digest_21 rfl hl (by decide) rfl (fun ls hl => ?_)
    refine lv_iinc (v := nI (i + 1)) (lv' := [(3, .int (nI (i + 1))), (1, .long (gJ d (gCntC Q nq nw day co i))), (0, .ref gx)]) hx hb dX5_digest_22 hl (k := 1) rfl (nI_add i 1) (by decide) rfl (fun ls hl => ?_)
    refine lv_goto (tgt := 6) hx hb dX5_digest_25 (by decide) ?_
    exact ih6 (k, i + 1, gJ d (gCntC Q nq nw day co i)) H locs ls (by dsimp only; omega) ⟨hP, hS, lv_sub hl [0, 1, 2] rfl, (by omega), hF⟩
