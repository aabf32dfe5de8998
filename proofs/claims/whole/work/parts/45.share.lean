theorem wc_X6_share_ok_X6 : ∀ w ∈ u_ws RX6 TX6 10, w ∈ wsX6_share := by decide +kernel
theorem wd_X6_share_ok_1 : (.fieldLink RX6 28 "GritWheelsModel" "thrown" "I" : Cond) ∈ wsX6_share := by decide +kernel
theorem wd_X6_share_ok_2 : (.fieldLink RX6 25 "GritWheelsModel" "numbers" "[I" : Cond) ∈ wsX6_share := by decide +kernel
set_option maxHeartbeats 4000000 in
set_option maxRecDepth 100000 in
theorem met_X6_share_ok (l : Launch) (D : va_G) (cI cZ cL : ClassId) (mo : Nat) (m4 : Nat) (m5 : Nat) (m6 : Nat) (m7 : Nat) (m8 : Nat) (m9 : Nat) (th : Int32) (nb : Nat) (nq : Nat) (nr : Nat) (Q : Nat → Nat → Int32) (day : Nat) (co : Int32) (nw : Nat) (hnw : nw ≤ 60) (hz : ∀ j, Q 12 j = 0 ∨ Q 12 j = 1) : Met l yX6_share wsX6_share ({ frames := 1, cells := 0, slots := 0, locals := 22 }) (gPw [.ref mo] D [(mo, .inr (6, [.int th, .int (nI nb), .int (nI nq), .int (nI nr), .ref m4, .ref m5, .ref m6, .ref m7, .ref m8, .ref m9])), (m7, .inl (cI, 300, .inl (enS Q))), (m9, .inl (cI, 3, .inl (enN day co nw)))] (gT cI cZ cL)) (va_Qd (fun (zr : UInt64) (_ : Unit) => zr = gShare Q nw) (fun _ t => va_P D vwCl [(mo, .inr (6, [.int 0, .int (nI nb), .int (nI nq), .int (nI nr), .ref m4, .ref m5, .ref m6, .ref m7, .ref m8, .ref m9])), (m7, .inl (cI, 300, .inl (enS Q))), (m9, .inl (cI, 3, .inl (enN day co nw)))] t.heap) (gA (gL [(mo, .inr (6, [.int th, .int (nI nb), .int (nI nq), .int (nI nr), .ref m4, .ref m5, .ref m6, .ref m7, .ref m8, .ref m9])), (m7, .inl (cI, 300, .inl (enS Q))), (m9, .inl (cI, 3, .inl (enN day co nw)))]))) 0 0 (gA (gL [(mo, .inr (6, [.int th, .int (nI nb), .int (nI nq), .int (nI nr), .ref m4, .ref m5, .ref m6, .ref m7, .ref m8, .ref m9])), (m7, .inl (cI, 300, .inl (enS Q))), (m9, .inl (cI, 3, .inl (enN day co nw)))])) := by
  refine Met.ofW (cc := cX6_share) (maxL := 3) (ret := (some .double)) (by decide +kernel) rfl ?_
  intro p e s m args below meth c s₁ B hml hv
  obtain ⟨rfl, hP, hK, hD0⟩ := hv
  have hx := B.exec
  have hb := B.bytes
  have hr := B.returns
  have hts := atoms_spec (ws := wsX6_share) B.pre
  have hown : s.vm.findClass RX6 = some m.cls := findClass_of_methodNamed B.named
  have hlocks := B.notSynchronized
  have hD := gw_self hD0
  generalize hAe : gA (gL [(mo, .inr (6, [.int th, .int (nI nb), .int (nI nq), .int (nI nr), .ref m4, .ref m5, .ref m6, .ref m7, .ref m8, .ref m9])), (m7, .inl (cI, 300, .inl (enS Q))), (m9, .inl (cI, 3, .inl (enN day co nw)))]) = A at hD ⊢
  have hS : va_S A s.heap s.heap [] := va_S.rf
  have hP : va_P D vwCl [(mo, .inr (6, [.int th, .int (nI nb), .int (nI nq), .int (nI nr), .ref m4, .ref m5, .ref m6, .ref m7, .ref m8, .ref m9])), (m7, .inl (cI, 300, .inl (enS Q))), (m9, .inl (cI, 3, .inl (enN day co nw)))] s.heap := hP
  have hl := lv_entry ([.ref mo]) (n := 3) (Nat.le_of_ble_eq_true rfl)
  rw [lg_entry_eq]
  generalize (lg_sl ([.ref mo]) ++ List.replicate (3 - (lg_sl ([.ref mo])).length) Slot.unset).toArray = ls at hl ⊢
  have hl : lv_has ls 3 [(0, .ref mo)] := hl
  refine lv_aload_n hx hb dX6_share_0 rfl (lv_at hl 0 rfl) ?_
  refine lv_iconst (v := 0) hx hb dX6_share_1 (by decide) ?_
  refine va_put (D := D) (ci := 6) (v := .int 0) (ty := .int) (C := RX6) (T := TX6) (N := 10) hx hb hts wc_X6_share_ok_X6 tyX6 tyX6_ok nmX6 hown hK hP hD hS 0 rfl rfl 0 (by decide) (hts _ wd_X6_share_ok_1) (fun _ h9 => h9) rfl (by decide +kernel) rfl rfl (Nat.le_of_ble_eq_true rfl) dX6_share_2 (fun H locs hP hD hS => ?_)
  have hP : va_P D vwCl [(mo, .inr (6, [.int 0, .int (nI nb), .int (nI nq), .int (nI nr), .ref m4, .ref m5, .ref m6, .ref m7, .ref m8, .ref m9])), (m7, .inl (cI, 300, .inl (enS Q))), (m9, .inl (cI, 3, .inl (enN day co nw)))] H := hP
  have hD : va_D A [(mo, .inr (6, [.int 0, .int (nI nb), .int (nI nq), .int (nI nr), .ref m4, .ref m5, .ref m6, .ref m7, .ref m8, .ref m9])), (m7, .inl (cI, 300, .inl (enS Q))), (m9, .inl (cI, 3, .inl (enN day co nw)))] := hD
  refine lv_iconst (v := 0) hx hb dX6_share_5 (by decide) ?_
  refine lv_istore_n (lv' := [(1, .int 0), (0, .ref mo)]) hx hb dX6_share_6 rfl hl (by decide) rfl (fun ls hl => ?_)
  refine lv_iconst (v := 0) hx hb dX6_share_7 (by decide) ?_
  refine lv_istore_n (lv' := [(2, .int 0), (1, .int 0), (0, .ref mo)]) hx hb dX6_share_8 rfl hl (by decide) rfl (fun ls hl => ?_)
  refine gw_loop (fun (zz : Nat × Nat × Int32) H locs ls => match zz with | (k, i, acc) => va_P D vwCl [(mo, .inr (6, [.int 0, .int (nI nb), .int (nI nq), .int (nI nr), .ref m4, .ref m5, .ref m6, .ref m7, .ref m8, .ref m9])), (m7, .inl (cI, 300, .inl (enS Q))), (m9, .inl (cI, 3, .inl (enN day co nw)))] H ∧ va_D A [(mo, .inr (6, [.int 0, .int (nI nb), .int (nI nq), .int (nI nr), .ref m4, .ref m5, .ref m6, .ref m7, .ref m8, .ref m9])), (m7, .inl (cI, 300, .inl (enS Q))), (m9, .inl (cI, 3, .inl (enN day co nw)))] ∧ va_S A s.heap H locs ∧ lv_has ls 3 [(2, .int (nI i)), (1, .int acc), (0, .ref mo)] ∧ (i + k = nw) ∧ (gS (fun j => if Q 12 j = 0 then 1 else 0) k i acc = gS (fun j => if Q 12 j = 0 then 1 else 0) nw 0 0)) (fun (zz : Nat × Nat × Int32) => match zz with | (k, i, acc) => k) (nw, 0, 0) ⟨hP, hD, hS, lv_sub hl [0, 1, 2] rfl, (by omega), rfl⟩ ?_
  rintro ⟨k, i, acc⟩ ih H locs ls ⟨hP, hD, hS, hl, hin, hF⟩
  have hP : va_P D vwCl [(mo, .inr (6, [.int 0, .int (nI nb), .int (nI nq), .int (nI nr), .ref m4, .ref m5, .ref m6, .ref m7, .ref m8, .ref m9])), (m7, .inl (cI, 300, .inl (enS Q))), (m9, .inl (cI, 3, .inl (enN day co nw)))] H := hP
  have hD : va_D A [(mo, .inr (6, [.int 0, .int (nI nb), .int (nI nq), .int (nI nr), .ref m4, .ref m5, .ref m6, .ref m7, .ref m8, .ref m9])), (m7, .inl (cI, 300, .inl (enS Q))), (m9, .inl (cI, 3, .inl (enN day co nw)))] := hD
  have hl : lv_has ls 3 [(2, .int (nI i)), (1, .int acc), (0, .ref mo)] := hl
  have hin : i + k = nw := hin
  have hF : gS (fun j => if Q 12 j = 0 then 1 else 0) k i acc = gS (fun j => if Q 12 j = 0 then 1 else 0) nw 0 0 := hF
  have ih9 := ih
  refine lv_iload_n hx hb dX6_share_9 rfl (lv_at hl 0 rfl) ?_
  refine lv_aload_n hx hb dX6_share_10 rfl (lv_at hl 2 rfl) ?_
  refine va_get (D := D) (ci := 6) (v := .ref m9) (C := RX6) (T := TX6) (N := 10) hx hb hts wc_X6_share_ok_X6 hown hK hP 0 rfl rfl 9 (by decide) (hts _ wd_X6_share_ok_2) (fun _ h9 => h9) rfl dX6_share_11 ?_
  refine lv_iconst (v := 2) hx hb dX6_share_14 (by decide) ?_
  refine gw_top (y := nI 2) rfl ?_
  refine gw_iald hx hb hK hP 2 0 (k := 2) rfl rfl (by omega) (by decide) dX6_share_15 ?_
  refine gw_top (y := nI nw) rfl ?_
  refine lv_icmp_ge (tgt := 36) hx hb dX6_share_16 (by decide) (fun c => ?_) (fun c => ?_)
  · skip
    have hk0 : k = 0 := by have := gw_ge (by omega) (by omega) c; omega
    subst hk0
    have hacc : acc = gS (fun j => if Q 12 j = 0 then 1 else 0) nw 0 0 := hF
    refine lv_aload_n hx hb dX6_share_36 rfl (lv_at hl 2 rfl) ?_
    refine va_get (D := D) (ci := 6) (v := .ref m9) (C := RX6) (T := TX6) (N := 10) hx hb hts wc_X6_share_ok_X6 hown hK hP 0 rfl rfl 9 (by decide) (hts _ wd_X6_share_ok_2) (fun _ h9 => h9) rfl dX6_share_37 ?_
    refine lv_iconst (v := 2) hx hb dX6_share_40 (by decide) ?_
    refine gw_top (y := nI 2) rfl ?_
    refine gw_iald hx hb hK hP 2 0 (k := 2) rfl rfl (by omega) (by decide) dX6_share_41 ?_
    refine gw_top (y := nI nw) rfl ?_
    refine lv_if_ne (tgt := 49) hx hb dX6_share_42 (by decide) (fun c9 => ?_) (fun c9 => ?_)
    · skip
      have hn0 : ¬ nw = 0 := fun h => c9 (by rw [h]; rfl)
      refine lv_iload_n hx hb dX6_share_49 rfl (lv_at hl 1 rfl) ?_
      refine gw_top (y := gS (fun j => if Q 12 j = 0 then 1 else 0) nw 0 0) hacc ?_
      refine lv_i2d hx hb dX6_share_50 ?_
      refine lv_aload_n hx hb dX6_share_51 rfl (lv_at hl 2 rfl) ?_
      refine va_get (D := D) (ci := 6) (v := .ref m9) (C := RX6) (T := TX6) (N := 10) hx hb hts wc_X6_share_ok_X6 hown hK hP 0 rfl rfl 9 (by decide) (hts _ wd_X6_share_ok_2) (fun _ h9 => h9) rfl dX6_share_52 ?_
      refine lv_iconst (v := 2) hx hb dX6_share_55 (by decide) ?_
      refine gw_top (y := nI 2) rfl ?_
      refine gw_iald hx hb hK hP 2 0 (k := 2) rfl rfl (by omega) (by decide) dX6_share_56 ?_
      refine gw_top (y := nI nw) rfl ?_
      refine lv_i2d hx hb dX6_share_57 ?_
      refine lv_ddiv hx hb dX6_share_58 (gShare_nn hnw hn0) ?_
      exact W.dret (v := FP.ddiv (FP.i2d (gS (fun j => if Q 12 j = 0 then 1 else 0) nw 0 0)) (FP.i2d (nI nw))) hx hb hr (fun t ht hW => ⟨⟨_, (), rfl, (by unfold gShare; first | rw [if_pos hn0] | rw [if_neg hn0]), gw_hh ht hP⟩, hS.F ht⟩) hS.2.2 dX6_share_59
    · skip
      have hn0 : nw = 0 := (nI_eq (by omega) (by decide)).mp (show nI nw = nI 0 from c9)
      refine lv_dconst0 hx hb dX6_share_45 ?_
      refine lv_goto (tgt := 59) hx hb dX6_share_46 (by decide) ?_
      exact W.dret (v := 0) hx hb hr (fun t ht hW => ⟨⟨_, (), rfl, (by unfold gShare; first | rw [if_pos hn0] | rw [if_neg hn0]), gw_hh ht hP⟩, hS.F ht⟩) hS.2.2 dX6_share_59
  · skip
    have hi : i < nw := gw_lt (by omega) (by omega) c
    obtain ⟨k, rfl⟩ : ∃ k2, k = k2 + 1 := ⟨k - 1, by omega⟩
    refine lv_iload_n hx hb dX6_share_19 rfl (lv_at hl 1 rfl) ?_
    refine lv_iconst (v := 1) hx hb dX6_share_20 (by decide) ?_
    refine lv_aload_n hx hb dX6_share_21 rfl (lv_at hl 2 rfl) ?_
    refine lv_iload_n hx hb dX6_share_22 rfl (lv_at hl 0 rfl) ?_
    refine lv_iconst (v := 4) hx hb dX6_share_23 (by decide) ?_
    refine va_calli (va_runV (As := [.int (nI i), .int 4]) (rest := [.int 1, .int acc]) ⟨hx, hb, hml, hown, hts⟩ (met_X6_st l D cI cZ cL mo m4 m5 m6 m7 m8 m9 0 nb nq nr (enS Q) i 4 (by first | assumption | omega) (by first | assumption | omega)) (cwV 2 hts gX6_share_X6_st rfl rfl rfl (by decide +kernel) ⟨Nat.le_of_ble_eq_true rfl, Nat.le_of_ble_eq_true rfl⟩) (gw_pvr hK hP (wc := [(mo, .inr (6, [.int 0, .int (nI nb), .int (nI nq), .int (nI nr), .ref m4, .ref m5, .ref m6, .ref m7, .ref m8, .ref m9])), (m7, .inl (cI, 300, .inl (enS Q)))]) [0, 1] rfl 6 rfl rfl rfl) rfl rfl hl.1 rfl (lv_room (Nat.le_of_ble_eq_true rfl)) dX6_share_24 ⟨Nat.zero_le _, Nat.zero_le _⟩) hS (fun _ _ z => z.elim) (fun _ z => z.elim) (fun r_4 _ t H1 locs ht hvm hw hB hz1 hk1 hS => ?_)
    have hP := gw_ro hP hk1
    generalize H1 = H at hP hS ⊢
    subst hw
    refine gw_top (y := Q 12 i) (enS_4 Q i) ?_
    refine lv_isub hx hb dX6_share_27 ?_
    refine gw_top (y := if Q 12 i = 0 then 1 else 0) (gCk (hz i)) ?_
    refine lv_iadd hx hb dX6_share_28 ?_
    refine lv_istore_n (lv' := [(1, .int (acc + (if Q 12 i = 0 then 1 else 0))), (2, .int (nI i)), (0, .ref mo)]) hx hb dX6_share_29 rfl hl (by decide) rfl (fun ls hl => ?_)
    refine lv_iinc (v := nI (i + 1)) (lv' := [(2, .int (nI (i + 1))), (1, .int (acc + (if Q 12 i = 0 then 1 else 0))), (0, .ref mo)]) hx hb dX6_share_30 hl (k := 1) rfl (nI_add i 1) (by decide) rfl (fun ls hl => ?_)
    refine lv_goto (tgt := 9) hx hb dX6_share_33 (by decide) ?_
    exact ih9 (k, i + 1, acc + (if Q 12 i = 0 then 1 else 0)) H locs ls (by dsimp only; omega) ⟨hP, hD, hS, lv_sub hl [0, 1, 2] rfl, (by omega), (by first | exact hF | (rw [← hF]; simp [gS, hcc]) | (rw [← hF]; simp [gS, *]))⟩

theorem wc_X5_share_ok_X5 : ∀ w ∈ u_ws RX5 TX5 4, w ∈ wsX5_share := by decide +kernel
theorem wd_X5_share_ok_1 : (.fieldLink RX5 10 "GritWheels" "now" "LGritWheels$Quarry;" : Cond) ∈ wsX5_share := by decide +kernel
theorem wc_X5_share_ok_X2 : ∀ w ∈ u_ws RX2 TX2 5, w ∈ wsX5_share := by decide +kernel
theorem wd_X5_share_ok_3 : (.fieldLink RX5 93 "GritWheels$Quarry" "wheels" "LGritWheels$Wheels;" : Cond) ∈ wsX5_share := by decide +kernel
theorem wc_X5_share_ok_X4 : ∀ w ∈ u_ws RX4 TX4 7, w ∈ wsX5_share := by decide +kernel
theorem wd_X5_share_ok_5 : (.fieldLink RX5 201 "GritWheels$Wheels" "number" "I" : Cond) ∈ wsX5_share := by decide +kernel
set_option maxHeartbeats 4000000 in
set_option maxRecDepth 100000 in
theorem met_X5_share_ok (l : Launch) (D : va_G) (cI cZ cL : ClassId) (gx : Nat) (qu : Nat) (qt : Nat) (rf : Nat) (qf : Nat) (bd : Nat) (cr : Nat) (wh : Nat) (wh0 : Nat) (wh1 : Nat) (wh2 : Nat) (wh3 : Nat) (wh4 : Nat) (wh5 : Nat) (co : Int32) (Q : Nat → Nat → Int32) (nw : Nat) (day : Nat) (hnw : nw ≤ 60) : Met l yX5_share wsX5_share ({ frames := 1, cells := 0, slots := 0, locals := 22 }) (gPr [.ref gx] D [(gx, .inr (5, [.ref qu, .ref qt, .ref rf, .int co])), (qu, .inr (2, [.ref qf, .ref bd, .ref cr, .ref wh, .int (nI day)])), (wh, .inr (4, [.ref wh0, .ref wh1, .ref wh2, .ref wh3, .ref wh4, .ref wh5, .int (nI nw)])), (wh3, .inl (cZ, 60, .inl (Q 12)))] (gT cI cZ cL)) (va_Qd (fun (zr : UInt64) (_ : Unit) => zr = gShare Q nw) (fun _ _ => True) gN) 0 0 gN := by
  refine Met.ofW (cc := cX5_share) (maxL := 2) (ret := (some .double)) (by decide +kernel) rfl ?_
  intro p e s m args below meth c s₁ B hml hv
  obtain ⟨rfl, hP, hK⟩ := hv
  have hx := B.exec
  have hb := B.bytes
  have hr := B.returns
  have hts := atoms_spec (ws := wsX5_share) B.pre
  have hown : s.vm.findClass RX5 = some m.cls := findClass_of_methodNamed B.named
  have hlocks := B.notSynchronized
  have hS : va_S gN s.heap s.heap [] := va_S.rf
  have hP : va_P D vwCl [(gx, .inr (5, [.ref qu, .ref qt, .ref rf, .int co])), (qu, .inr (2, [.ref qf, .ref bd, .ref cr, .ref wh, .int (nI day)])), (wh, .inr (4, [.ref wh0, .ref wh1, .ref wh2, .ref wh3, .ref wh4, .ref wh5, .int (nI nw)])), (wh3, .inl (cZ, 60, .inl (Q 12)))] s.heap := hP
  have hl := lv_entry ([.ref gx]) (n := 2) (Nat.le_of_ble_eq_true rfl)
  rw [lg_entry_eq]
  generalize (lg_sl ([.ref gx]) ++ List.replicate (2 - (lg_sl ([.ref gx])).length) Slot.unset).toArray = ls at hl ⊢
  have hl : lv_has ls 2 [(0, .ref gx)] := hl
  refine lv_aload_n hx hb dX5_share_0 rfl (lv_at hl 0 rfl) ?_
  refine va_get (D := D) (ci := 5) (v := .ref qu) (C := RX5) (T := TX5) (N := 4) hx hb hts wc_X5_share_ok_X5 hown hK hP 0 rfl rfl 0 (by decide) (hts _ wd_X5_share_ok_1) (fun _ h9 => h9) rfl dX5_share_1 ?_
  refine va_get (D := D) (ci := 2) (v := .ref wh) (C := RX2) (T := TX2) (N := 5) hx hb hts wc_X5_share_ok_X2 hown hK hP 1 rfl rfl 3 (by decide) (hts _ wd_X5_share_ok_3) (fun _ h9 => h9) rfl dX5_share_4 ?_
  refine va_get (D := D) (ci := 4) (v := .int (nI nw)) (C := RX4) (T := TX4) (N := 7) hx hb hts wc_X5_share_ok_X4 hown hK hP 2 rfl rfl 6 (by decide) (hts _ wd_X5_share_ok_5) (fun _ h9 => h9) rfl dX5_share_7 ?_
  refine lv_istore_n (lv' := [(1, .int (nI nw)), (0, .ref gx)]) hx hb dX5_share_10 rfl hl (by decide) rfl (fun ls hl => ?_)
  refine lv_iload_n hx hb dX5_share_11 rfl (lv_at hl 0 rfl) ?_
  refine lv_if_ne (tgt := 19) hx hb dX5_share_12 (by decide) (fun c => ?_) (fun c => ?_)
  · skip
    have hn0 : ¬ nw = 0 := fun h => c (by rw [h]; rfl)
    refine lv_aload_n hx hb dX5_share_19 rfl (lv_at hl 1 rfl) ?_
    refine va_get (D := D) (ci := 5) (v := .ref qu) (C := RX5) (T := TX5) (N := 4) hx hb hts wc_X5_share_ok_X5 hown hK hP 0 rfl rfl 0 (by decide) (hts _ wd_X5_share_ok_1) (fun _ h9 => h9) rfl dX5_share_20 ?_
    refine va_get (D := D) (ci := 2) (v := .ref wh) (C := RX2) (T := TX2) (N := 5) hx hb hts wc_X5_share_ok_X2 hown hK hP 1 rfl rfl 3 (by decide) (hts _ wd_X5_share_ok_3) (fun _ h9 => h9) rfl dX5_share_23 ?_
    refine va_calli (va_runV (As := []) (rest := []) ⟨hx, hb, hml, hown, hts⟩ (met_X4_numberSound l D cI cZ cL wh wh0 wh1 wh2 wh3 wh4 wh5 nw (Q 12) (by first | assumption | omega)) (cwV 0 hts gX5_share_X4_numberSound rfl rfl rfl (by decide +kernel) ⟨Nat.le_of_ble_eq_true rfl, Nat.le_of_ble_eq_true rfl⟩) (gw_pvr hK hP (wc := [(wh, .inr (4, [.ref wh0, .ref wh1, .ref wh2, .ref wh3, .ref wh4, .ref wh5, .int (nI nw)])), (wh3, .inl (cZ, 60, .inl (Q 12)))]) [2, 3] rfl 4 rfl rfl rfl) rfl rfl hl.1 rfl (lv_room (Nat.le_of_ble_eq_true rfl)) dX5_share_26 ⟨Nat.zero_le _, Nat.zero_le _⟩) hS (fun _ _ z => z.elim) (fun _ z => z.elim) (fun r_3 _ t H1 locs ht hvm hw hB hz1 hk1 hS => ?_)
    have hP := gw_ro hP hk1
    generalize H1 = H at hP hS ⊢
    subst hw
    refine lv_i2d hx hb dX5_share_29 ?_
    refine lv_iload_n hx hb dX5_share_30 rfl (lv_at hl 0 rfl) ?_
    refine lv_i2d hx hb dX5_share_31 ?_
    refine lv_ddiv hx hb dX5_share_32 (gShare_nn hnw hn0) ?_
    exact W.dret (v := FP.ddiv (FP.i2d (gS (fun j => if (Q 12) j = 0 then 1 else 0) nw 0 0)) (FP.i2d (nI nw))) hx hb hr (fun t ht hW => ⟨⟨_, (), rfl, (by unfold gShare; first | rw [if_pos hn0] | rw [if_neg hn0]), trivial⟩, hS.F ht⟩) hS.2.2 dX5_share_33
  · skip
    have hn0 : nw = 0 := (nI_eq (by omega) (by decide)).mp (show nI nw = nI 0 from c)
    refine lv_dconst0 hx hb dX5_share_15 ?_
    refine lv_goto (tgt := 33) hx hb dX5_share_16 (by decide) ?_
    exact W.dret (v := 0) hx hb hr (fun t ht hW => ⟨⟨_, (), rfl, (by unfold gShare; first | rw [if_pos hn0] | rw [if_neg hn0]), trivial⟩, hS.F ht⟩) hS.2.2 dX5_share_33
