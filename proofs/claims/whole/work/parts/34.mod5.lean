theorem wc_X6_daysOn_X6 : ∀ w ∈ u_ws RX6 TX6 10, w ∈ wsX6_daysOn := by decide +kernel
theorem wd_X6_daysOn_1 : (.fieldLink RX6 25 "GritWheelsModel" "numbers" "[I" : Cond) ∈ wsX6_daysOn := by decide +kernel
set_option maxHeartbeats 4000000 in
set_option maxRecDepth 100000 in
theorem met_X6_daysOn (l : Launch) (D : va_G) (cI cZ cL : ClassId) (mo : Nat) (m4 : Nat) (m5 : Nat) (m6 : Nat) (m7 : Nat) (m8 : Nat) (m9 : Nat) (th : Int32) (nb : Nat) (nq : Nat) (nr : Nat) (Q : Nat → Nat → Int32) (day : Nat) (co : Int32) (nw : Nat) (ca : Nat → Int32) (we : Nat → Int32) (dd : Nat) (hnq : nq ≤ 6) (hnb : nb ≤ 5) (hnw : nw ≤ 60) (hnr : nr ≤ 3) (hpl : gPl Q nb nq) (hdu : gDu Q) (hgr : gGr Q nb) (hd : day + dd < 2 ^ 30) : Met l yX6_daysOn wsX6_daysOn ({ frames := 4, cells := 0, slots := 0, locals := 91 }) (gPw [.ref mo, .int (nI dd)] D [(mo, .inr (6, [.int th, .int (nI nb), .int (nI nq), .int (nI nr), .ref m4, .ref m5, .ref m6, .ref m7, .ref m8, .ref m9])), (m4, .inl (cI, 9, .inl (Q 0))), (m5, .inl (cI, 20, .inl (enR Q))), (m6, .inl (cI, 24, .inl (enP Q))), (m7, .inl (cI, 300, .inl (enS Q))), (m8, .inl (cI, 6, .inl (enB ca we))), (m9, .inl (cI, 3, .inl (enN day co nw)))] (gT cI cZ cL)) (va_Qi (fun (zr : Int32) (_ : Unit) => zr = nI (gGo nq dd Q nw day).2 - nI nw) (fun _ t => va_P D vwCl [(mo, .inr (6, [.int th, .int (nI nb), .int (nI nq), .int (nI nr), .ref m4, .ref m5, .ref m6, .ref m7, .ref m8, .ref m9])), (m4, .inl (cI, 9, .inl ((gGo nq dd Q nw day).1 0))), (m5, .inl (cI, 20, .inl (enR ((gGo nq dd Q nw day).1)))), (m6, .inl (cI, 24, .inl (enP ((gGo nq dd Q nw day).1)))), (m7, .inl (cI, 300, .inl (enS ((gGo nq dd Q nw day).1)))), (m8, .inl (cI, 6, .inl (enB ca (gBg nr dd day we)))), (m9, .inl (cI, 3, .inl (enN (day + dd) co ((gGo nq dd Q nw day).2))))] t.heap) (gA (gL [(mo, .inr (6, [.int th, .int (nI nb), .int (nI nq), .int (nI nr), .ref m4, .ref m5, .ref m6, .ref m7, .ref m8, .ref m9])), (m4, .inl (cI, 9, .inl (Q 0))), (m5, .inl (cI, 20, .inl (enR Q))), (m6, .inl (cI, 24, .inl (enP Q))), (m7, .inl (cI, 300, .inl (enS Q))), (m8, .inl (cI, 6, .inl (enB ca we))), (m9, .inl (cI, 3, .inl (enN day co nw)))]))) 0 0 (gA (gL [(mo, .inr (6, [.int th, .int (nI nb), .int (nI nq), .int (nI nr), .ref m4, .ref m5, .ref m6, .ref m7, .ref m8, .ref m9])), (m4, .inl (cI, 9, .inl (Q 0))), (m5, .inl (cI, 20, .inl (enR Q))), (m6, .inl (cI, 24, .inl (enP Q))), (m7, .inl (cI, 300, .inl (enS Q))), (m8, .inl (cI, 6, .inl (enB ca we))), (m9, .inl (cI, 3, .inl (enN day co nw)))])) := by
  refine Met.ofW (cc := cX6_daysOn) (maxL := 4) (ret := (some .int)) (by decide +kernel) rfl ?_
  intro p e s m args below meth c s₁ B hml hv
  obtain ⟨rfl, hP, hK, hD0⟩ := hv
  have hx := B.exec
  have hb := B.bytes
  have hr := B.returns
  have hts := atoms_spec (ws := wsX6_daysOn) B.pre
  have hown : s.vm.findClass RX6 = some m.cls := findClass_of_methodNamed B.named
  have hlocks := B.notSynchronized
  have hD := gw_self hD0
  generalize hAe : gA (gL [(mo, .inr (6, [.int th, .int (nI nb), .int (nI nq), .int (nI nr), .ref m4, .ref m5, .ref m6, .ref m7, .ref m8, .ref m9])), (m4, .inl (cI, 9, .inl (Q 0))), (m5, .inl (cI, 20, .inl (enR Q))), (m6, .inl (cI, 24, .inl (enP Q))), (m7, .inl (cI, 300, .inl (enS Q))), (m8, .inl (cI, 6, .inl (enB ca we))), (m9, .inl (cI, 3, .inl (enN day co nw)))]) = A at hD ⊢
  have hS : va_S A s.heap s.heap [] := va_S.rf
  have hP : va_P D vwCl [(mo, .inr (6, [.int th, .int (nI nb), .int (nI nq), .int (nI nr), .ref m4, .ref m5, .ref m6, .ref m7, .ref m8, .ref m9])), (m4, .inl (cI, 9, .inl (Q 0))), (m5, .inl (cI, 20, .inl (enR Q))), (m6, .inl (cI, 24, .inl (enP Q))), (m7, .inl (cI, 300, .inl (enS Q))), (m8, .inl (cI, 6, .inl (enB ca we))), (m9, .inl (cI, 3, .inl (enN day co nw)))] s.heap := hP
  have hl := lv_entry ([.ref mo, .int (nI dd)]) (n := 4) (Nat.le_of_ble_eq_true rfl)
  rw [lg_entry_eq]
  generalize (lg_sl ([.ref mo, .int (nI dd)]) ++ List.replicate (4 - (lg_sl ([.ref mo, .int (nI dd)])).length) Slot.unset).toArray = ls at hl ⊢
  have hl : lv_has ls 4 [(0, .ref mo), (1, .int (nI dd))] := hl
  refine lv_aload_n hx hb dX6_daysOn_0 rfl (lv_at hl 0 rfl) ?_
  refine va_get (D := D) (ci := 6) (v := .ref m9) (C := RX6) (T := TX6) (N := 10) hx hb hts wc_X6_daysOn_X6 hown hK hP 0 rfl rfl 9 (by decide) (hts _ wd_X6_daysOn_1) (fun _ h9 => h9) rfl dX6_daysOn_1 ?_
  refine lv_iconst (v := 2) hx hb dX6_daysOn_4 (by decide) ?_
  refine gw_top (y := nI 2) rfl ?_
  refine gw_iald hx hb hK hP 6 0 (k := 2) rfl rfl (by omega) (by decide) dX6_daysOn_5 ?_
  refine gw_top (y := nI nw) rfl ?_
  refine lv_istore_n (lv' := [(2, .int (nI nw)), (0, .ref mo), (1, .int (nI dd))]) hx hb dX6_daysOn_6 rfl hl (by decide) rfl (fun ls hl => ?_)
  refine lv_iconst (v := 0) hx hb dX6_daysOn_7 (by decide) ?_
  refine lv_istore_n (lv' := [(3, .int 0), (2, .int (nI nw)), (0, .ref mo), (1, .int (nI dd))]) hx hb dX6_daysOn_8 rfl hl (by decide) rfl (fun ls hl => ?_)
  refine gw_loop (fun (zz : Nat × Nat × (Nat → Nat → Int32) × Nat × (Nat → Int32)) H locs ls => match zz with | (kq, i, Q2, nw2, we2) => va_P D vwCl [(mo, .inr (6, [.int th, .int (nI nb), .int (nI nq), .int (nI nr), .ref m4, .ref m5, .ref m6, .ref m7, .ref m8, .ref m9])), (m4, .inl (cI, 9, .inl (Q2 0))), (m5, .inl (cI, 20, .inl (enR Q2))), (m6, .inl (cI, 24, .inl (enP Q2))), (m7, .inl (cI, 300, .inl (enS Q2))), (m8, .inl (cI, 6, .inl (enB ca we2))), (m9, .inl (cI, 3, .inl (enN (day + i) co nw2)))] H ∧ va_D A [(mo, .inr (6, [.int th, .int (nI nb), .int (nI nq), .int (nI nr), .ref m4, .ref m5, .ref m6, .ref m7, .ref m8, .ref m9])), (m4, .inl (cI, 9, .inl (Q2 0))), (m5, .inl (cI, 20, .inl (enR Q2))), (m6, .inl (cI, 24, .inl (enP Q2))), (m7, .inl (cI, 300, .inl (enS Q2))), (m8, .inl (cI, 6, .inl (enB ca we2))), (m9, .inl (cI, 3, .inl (enN (day + i) co nw2)))] ∧ va_S A s.heap H locs ∧ lv_has ls 4 [(3, .int (nI i)), (2, .int (nI nw)), (0, .ref mo), (1, .int (nI dd))] ∧ (i + kq = dd) ∧ (gGo nq kq Q2 nw2 (day + i) = gGo nq dd Q nw day) ∧ (gBg nr kq (day + i) we2 = gBg nr dd day we) ∧ (nw2 ≤ 60) ∧ (gPl Q2 nb nq) ∧ (gDu Q2) ∧ (gGr Q2 nb)) (fun (zz : Nat × Nat × (Nat → Nat → Int32) × Nat × (Nat → Int32)) => match zz with | (kq, i, Q2, nw2, we2) => kq) (dd, 0, Q, nw, we) ⟨hP, hD, hS, lv_sub hl [0, 1, 2, 3] rfl, (by omega), rfl, rfl, hnw, hpl, hdu, hgr⟩ ?_
  rintro ⟨kq, i, Q2, nw2, we2⟩ ih H locs ls ⟨hP, hD, hS, hl, hin, hF, hG, hnw2, hpl2, hdu2, hgr2⟩
  have hP : va_P D vwCl [(mo, .inr (6, [.int th, .int (nI nb), .int (nI nq), .int (nI nr), .ref m4, .ref m5, .ref m6, .ref m7, .ref m8, .ref m9])), (m4, .inl (cI, 9, .inl (Q2 0))), (m5, .inl (cI, 20, .inl (enR Q2))), (m6, .inl (cI, 24, .inl (enP Q2))), (m7, .inl (cI, 300, .inl (enS Q2))), (m8, .inl (cI, 6, .inl (enB ca we2))), (m9, .inl (cI, 3, .inl (enN (day + i) co nw2)))] H := hP
  have hD : va_D A [(mo, .inr (6, [.int th, .int (nI nb), .int (nI nq), .int (nI nr), .ref m4, .ref m5, .ref m6, .ref m7, .ref m8, .ref m9])), (m4, .inl (cI, 9, .inl (Q2 0))), (m5, .inl (cI, 20, .inl (enR Q2))), (m6, .inl (cI, 24, .inl (enP Q2))), (m7, .inl (cI, 300, .inl (enS Q2))), (m8, .inl (cI, 6, .inl (enB ca we2))), (m9, .inl (cI, 3, .inl (enN (day + i) co nw2)))] := hD
  have hl : lv_has ls 4 [(3, .int (nI i)), (2, .int (nI nw)), (0, .ref mo), (1, .int (nI dd))] := hl
  have hin : i + kq = dd := hin
  have hF : gGo nq kq Q2 nw2 (day + i) = gGo nq dd Q nw day := hF
  have hG : gBg nr kq (day + i) we2 = gBg nr dd day we := hG
  have hnw2 : nw2 ≤ 60 := hnw2
  have hpl2 : gPl Q2 nb nq := hpl2
  have hdu2 : gDu Q2 := hdu2
  have hgr2 : gGr Q2 nb := hgr2
  have ih9 := ih
  refine lv_iload_n hx hb dX6_daysOn_9 rfl (lv_at hl 0 rfl) ?_
  refine lv_iload_n hx hb dX6_daysOn_10 rfl (lv_at hl 3 rfl) ?_
  refine lv_icmp_ge (tgt := 24) hx hb dX6_daysOn_11 (by decide) (fun c => ?_) (fun c => ?_)
  · skip
    have hk0 : kq = 0 := by have := gw_ge (by omega) (by omega) c; omega
    subst hk0
    have hie : i = dd := by omega
    have hE : gGo nq dd Q nw day = (Q2, nw2) := by rw [← hF]; rfl
    have hG2 : gBg nr dd day we = we2 := hG.symm
    rw [hie] at hP hD
    refine lv_aload_n hx hb dX6_daysOn_24 rfl (lv_at hl 2 rfl) ?_
    refine va_get (D := D) (ci := 6) (v := .ref m9) (C := RX6) (T := TX6) (N := 10) hx hb hts wc_X6_daysOn_X6 hown hK hP 0 rfl rfl 9 (by decide) (hts _ wd_X6_daysOn_1) (fun _ h9 => h9) rfl dX6_daysOn_25 ?_
    refine lv_iconst (v := 2) hx hb dX6_daysOn_28 (by decide) ?_
    refine gw_top (y := nI 2) rfl ?_
    refine gw_iald hx hb hK hP 6 0 (k := 2) rfl rfl (by omega) (by decide) dX6_daysOn_29 ?_
    refine gw_top (y := nI nw2) rfl ?_
    refine lv_iload_n hx hb dX6_daysOn_30 rfl (lv_at hl 1 rfl) ?_
    refine lv_isub hx hb dX6_daysOn_31 ?_
    subst hAe
    exact W.iret (v := (nI nw2) - (nI nw)) hx hb hr (fun t ht hW => ⟨⟨_, (), rfl, (by rw [hE]), (by rw [hE, hG2]; exact gw_hh ht hP)⟩, hS.F ht⟩) hS.2.2 dX6_daysOn_32
  · skip
    have hi : i < dd := gw_lt (by omega) (by omega) c
    obtain ⟨kq, rfl⟩ : ∃ k2, kq = k2 + 1 := ⟨kq - 1, by omega⟩
    refine lv_aload_n hx hb dX6_daysOn_14 rfl (lv_at hl 2 rfl) ?_
    have hFc := gw_free (wc := [(mo, .inr (6, [.int th, .int (nI nb), .int (nI nq), .int (nI nr), .ref m4, .ref m5, .ref m6, .ref m7, .ref m8, .ref m9])), (m4, .inl (cI, 9, .inl (Q2 0))), (m5, .inl (cI, 20, .inl (enR Q2))), (m6, .inl (cI, 24, .inl (enP Q2))), (m7, .inl (cI, 300, .inl (enS Q2))), (m8, .inl (cI, 6, .inl (enB ca we2))), (m9, .inl (cI, 3, .inl (enN (day + i) co nw2)))]) hD [0, 1, 2, 3, 4, 5, 6] rfl
    refine va_callv (va_runV (As := []) (rest := []) ⟨hx, hb, hml, hown, hts⟩ (met_X6_dayOn l D cI cZ cL mo m4 m5 m6 m7 m8 m9 th nb nq nr Q2 (day + i) co nw2 ca we2 (by first | assumption | omega) (by first | assumption | omega) hnw2 (by first | assumption | omega) (by first | assumption | omega) hpl2 hdu2 hgr2) (cwV 0 hts gX6_daysOn_X6_dayOn rfl rfl rfl (by decide +kernel) ⟨Nat.le_of_ble_eq_true rfl, Nat.le_of_ble_eq_true rfl⟩) (gw_pvw hK hP hD (wc := [(mo, .inr (6, [.int th, .int (nI nb), .int (nI nq), .int (nI nr), .ref m4, .ref m5, .ref m6, .ref m7, .ref m8, .ref m9])), (m4, .inl (cI, 9, .inl (Q2 0))), (m5, .inl (cI, 20, .inl (enR Q2))), (m6, .inl (cI, 24, .inl (enP Q2))), (m7, .inl (cI, 300, .inl (enS Q2))), (m8, .inl (cI, 6, .inl (enB ca we2))), (m9, .inl (cI, 3, .inl (enN (day + i) co nw2)))]) [0, 1, 2, 3, 4, 5, 6] (by decide) rfl rfl 6 rfl rfl rfl) rfl rfl hl.1 rfl (lv_room (Nat.le_of_ble_eq_true rfl)) dX6_daysOn_15 ⟨Nat.zero_le _, Nat.zero_le _⟩) hS (fun q _ h => hFc q h) hFc (fun _ t H1 locs ht hvm hw hB hz1 hk1 hS => ?_)
    rw [ht] at hB
    obtain ⟨hP, hD⟩ := gw_upd (wc := [(mo, .inr (6, [.int th, .int (nI nb), .int (nI nq), .int (nI nr), .ref m4, .ref m5, .ref m6, .ref m7, .ref m8, .ref m9])), (m4, .inl (cI, 9, .inl (Q2 0))), (m5, .inl (cI, 20, .inl (enR Q2))), (m6, .inl (cI, 24, .inl (enP Q2))), (m7, .inl (cI, 300, .inl (enS Q2))), (m8, .inl (cI, 6, .inl (enB ca we2))), (m9, .inl (cI, 3, .inl (enN (day + i) co nw2)))]) (w1 := [(mo, .inr (6, [.int th, .int (nI nb), .int (nI nq), .int (nI nr), .ref m4, .ref m5, .ref m6, .ref m7, .ref m8, .ref m9])), (m4, .inl (cI, 9, .inl ((gDay Q2 nq nw2 (day + i)).1 0))), (m5, .inl (cI, 20, .inl (enR ((gDay Q2 nq nw2 (day + i)).1)))), (m6, .inl (cI, 24, .inl (enP ((gDay Q2 nq nw2 (day + i)).1)))), (m7, .inl (cI, 300, .inl (enS ((gDay Q2 nq nw2 (day + i)).1)))), (m8, .inl (cI, 6, .inl (enB ca (gM nr (gBo (day + i) we2) we2)))), (m9, .inl (cI, 3, .inl (enN ((day + i) + 1) co ((gDay Q2 nq nw2 (day + i)).2))))]) (ws' := [(mo, .inr (6, [.int th, .int (nI nb), .int (nI nq), .int (nI nr), .ref m4, .ref m5, .ref m6, .ref m7, .ref m8, .ref m9])), (m4, .inl (cI, 9, .inl ((gDay Q2 nq nw2 (day + i)).1 0))), (m5, .inl (cI, 20, .inl (enR ((gDay Q2 nq nw2 (day + i)).1)))), (m6, .inl (cI, 24, .inl (enP ((gDay Q2 nq nw2 (day + i)).1)))), (m7, .inl (cI, 300, .inl (enS ((gDay Q2 nq nw2 (day + i)).1)))), (m8, .inl (cI, 6, .inl (enB ca (gM nr (gBo (day + i) we2) we2)))), (m9, .inl (cI, 3, .inl (enN ((day + i) + 1) co ((gDay Q2 nq nw2 (day + i)).2))))]) hP hD [0, 1, 2, 3, 4, 5, 6] rfl rfl hk1 hB rfl
    generalize H1 = H at hP hS ⊢
    refine lv_iinc (v := nI (i + 1)) (lv' := [(3, .int (nI (i + 1))), (2, .int (nI nw)), (0, .ref mo), (1, .int (nI dd))]) hx hb dX6_daysOn_18 hl (k := 0) rfl (nI_add i 1) (by decide) rfl (fun ls hl => ?_)
    refine lv_goto (tgt := 9) hx hb dX6_daysOn_21 (by decide) ?_
    exact ih9 (kq, i + 1, (gDay Q2 nq nw2 (day + i)).1, (gDay Q2 nq nw2 (day + i)).2, gM nr (gBo (day + i) we2) we2) H locs ls (by dsimp only; omega) ⟨hP, hD, hS, lv_sub hl [0, 1, 2, 3] rfl, (by omega), hF, hG, (gDay_nw hnw2), (hpl2.of (gDay_6 _ _ _ _ 6 (by decide))), (gDay_du hdu2 hgr2 hnb hpl2), (hgr2.of (gDay_6 _ _ _ _ 1 (by decide)))⟩

theorem wc_X6_pass_ok_X6 : ∀ w ∈ u_ws RX6 TX6 10, w ∈ wsX6_pass := by decide +kernel
theorem wd_X6_pass_ok_1 : (.fieldLink RX6 28 "GritWheelsModel" "thrown" "I" : Cond) ∈ wsX6_pass := by decide +kernel
set_option maxHeartbeats 4000000 in
set_option maxRecDepth 100000 in
theorem met_X6_pass_ok (l : Launch) (D : va_G) (cI cZ cL : ClassId) (mo : Nat) (m4 : Nat) (m5 : Nat) (m6 : Nat) (m7 : Nat) (m8 : Nat) (m9 : Nat) (th : Int32) (nb : Nat) (nq : Nat) (nr : Nat) (Q : Nat → Nat → Int32) (day : Nat) (co : Int32) (nw : Nat) (ca : Nat → Int32) (we : Nat → Int32) (dd : Nat) (hnq : nq ≤ 6) (hnb : nb ≤ 5) (hnw : nw ≤ 60) (hnr : nr ≤ 3) (hpl : gPl Q nb nq) (hdu : gDu Q) (hgr : gGr Q nb) (hd : day + dd < 2 ^ 30) (hd1 : 1 ≤ dd) (hdn : dd ≤ 40) : Met l yX6_pass wsX6_pass ({ frames := 5, cells := 0, slots := 0, locals := 114 }) (gPw [.ref mo, .int (nI dd)] D [(mo, .inr (6, [.int th, .int (nI nb), .int (nI nq), .int (nI nr), .ref m4, .ref m5, .ref m6, .ref m7, .ref m8, .ref m9])), (m4, .inl (cI, 9, .inl (Q 0))), (m5, .inl (cI, 20, .inl (enR Q))), (m6, .inl (cI, 24, .inl (enP Q))), (m7, .inl (cI, 300, .inl (enS Q))), (m8, .inl (cI, 6, .inl (enB ca we))), (m9, .inl (cI, 3, .inl (enN day co nw)))] (gT cI cZ cL)) (va_Qi (fun (zr : Int32) (_ : Unit) => zr = nI (gGo nq dd Q nw day).2 - nI nw) (fun _ t => va_P D vwCl [(mo, .inr (6, [.int 0, .int (nI nb), .int (nI nq), .int (nI nr), .ref m4, .ref m5, .ref m6, .ref m7, .ref m8, .ref m9])), (m4, .inl (cI, 9, .inl ((gGo nq dd Q nw day).1 0))), (m5, .inl (cI, 20, .inl (enR ((gGo nq dd Q nw day).1)))), (m6, .inl (cI, 24, .inl (enP ((gGo nq dd Q nw day).1)))), (m7, .inl (cI, 300, .inl (enS ((gGo nq dd Q nw day).1)))), (m8, .inl (cI, 6, .inl (enB ca (gBg nr dd day we)))), (m9, .inl (cI, 3, .inl (enN (day + dd) co ((gGo nq dd Q nw day).2))))] t.heap) (gA (gL [(mo, .inr (6, [.int th, .int (nI nb), .int (nI nq), .int (nI nr), .ref m4, .ref m5, .ref m6, .ref m7, .ref m8, .ref m9])), (m4, .inl (cI, 9, .inl (Q 0))), (m5, .inl (cI, 20, .inl (enR Q))), (m6, .inl (cI, 24, .inl (enP Q))), (m7, .inl (cI, 300, .inl (enS Q))), (m8, .inl (cI, 6, .inl (enB ca we))), (m9, .inl (cI, 3, .inl (enN day co nw)))]))) 0 0 (gA (gL [(mo, .inr (6, [.int th, .int (nI nb), .int (nI nq), .int (nI nr), .ref m4, .ref m5, .ref m6, .ref m7, .ref m8, .ref m9])), (m4, .inl (cI, 9, .inl (Q 0))), (m5, .inl (cI, 20, .inl (enR Q))), (m6, .inl (cI, 24, .inl (enP Q))), (m7, .inl (cI, 300, .inl (enS Q))), (m8, .inl (cI, 6, .inl (enB ca we))), (m9, .inl (cI, 3, .inl (enN day co nw)))])) := by
  refine Met.ofW (cc := cX6_pass) (maxL := 2) (ret := (some .int)) (by decide +kernel) rfl ?_
  intro p e s m args below meth c s₁ B hml hv
  obtain ⟨rfl, hP, hK, hD0⟩ := hv
  have hx := B.exec
  have hb := B.bytes
  have hr := B.returns
  have hts := atoms_spec (ws := wsX6_pass) B.pre
  have hown : s.vm.findClass RX6 = some m.cls := findClass_of_methodNamed B.named
  have hlocks := B.notSynchronized
  have hD := gw_self hD0
  generalize hAe : gA (gL [(mo, .inr (6, [.int th, .int (nI nb), .int (nI nq), .int (nI nr), .ref m4, .ref m5, .ref m6, .ref m7, .ref m8, .ref m9])), (m4, .inl (cI, 9, .inl (Q 0))), (m5, .inl (cI, 20, .inl (enR Q))), (m6, .inl (cI, 24, .inl (enP Q))), (m7, .inl (cI, 300, .inl (enS Q))), (m8, .inl (cI, 6, .inl (enB ca we))), (m9, .inl (cI, 3, .inl (enN day co nw)))]) = A at hD ⊢
  have hS : va_S A s.heap s.heap [] := va_S.rf
  have hP : va_P D vwCl [(mo, .inr (6, [.int th, .int (nI nb), .int (nI nq), .int (nI nr), .ref m4, .ref m5, .ref m6, .ref m7, .ref m8, .ref m9])), (m4, .inl (cI, 9, .inl (Q 0))), (m5, .inl (cI, 20, .inl (enR Q))), (m6, .inl (cI, 24, .inl (enP Q))), (m7, .inl (cI, 300, .inl (enS Q))), (m8, .inl (cI, 6, .inl (enB ca we))), (m9, .inl (cI, 3, .inl (enN day co nw)))] s.heap := hP
  have hl := lv_entry ([.ref mo, .int (nI dd)]) (n := 2) (Nat.le_of_ble_eq_true rfl)
  rw [lg_entry_eq]
  generalize (lg_sl ([.ref mo, .int (nI dd)]) ++ List.replicate (2 - (lg_sl ([.ref mo, .int (nI dd)])).length) Slot.unset).toArray = ls at hl ⊢
  have hl : lv_has ls 2 [(0, .ref mo), (1, .int (nI dd))] := hl
  refine lv_aload_n hx hb dX6_pass_0 rfl (lv_at hl 0 rfl) ?_
  refine lv_iconst (v := 0) hx hb dX6_pass_1 (by decide) ?_
  refine va_put (D := D) (ci := 6) (v := .int 0) (ty := .int) (C := RX6) (T := TX6) (N := 10) hx hb hts wc_X6_pass_ok_X6 tyX6 tyX6_ok nmX6 hown hK hP hD hS 0 rfl rfl 0 (by decide) (hts _ wd_X6_pass_ok_1) (fun _ h9 => h9) rfl (by decide +kernel) rfl rfl (Nat.le_of_ble_eq_true rfl) dX6_pass_2 (fun H locs hP hD hS => ?_)
  have hP : va_P D vwCl [(mo, .inr (6, [.int 0, .int (nI nb), .int (nI nq), .int (nI nr), .ref m4, .ref m5, .ref m6, .ref m7, .ref m8, .ref m9])), (m4, .inl (cI, 9, .inl (Q 0))), (m5, .inl (cI, 20, .inl (enR Q))), (m6, .inl (cI, 24, .inl (enP Q))), (m7, .inl (cI, 300, .inl (enS Q))), (m8, .inl (cI, 6, .inl (enB ca we))), (m9, .inl (cI, 3, .inl (enN day co nw)))] H := hP
  have hD : va_D A [(mo, .inr (6, [.int 0, .int (nI nb), .int (nI nq), .int (nI nr), .ref m4, .ref m5, .ref m6, .ref m7, .ref m8, .ref m9])), (m4, .inl (cI, 9, .inl (Q 0))), (m5, .inl (cI, 20, .inl (enR Q))), (m6, .inl (cI, 24, .inl (enP Q))), (m7, .inl (cI, 300, .inl (enS Q))), (m8, .inl (cI, 6, .inl (enB ca we))), (m9, .inl (cI, 3, .inl (enN day co nw)))] := hD
  refine lv_iload_n hx hb dX6_pass_5 rfl (lv_at hl 1 rfl) ?_
  refine lv_iconst (v := 1) hx hb dX6_pass_6 (by decide) ?_
  refine lv_bipush (v := 40) hx hb dX6_pass_7 (by decide) ?_
  refine va_calli (va_runS (As := [.int (nI dd), .int 1, .int 40]) (rest := []) ⟨hx, hb, hml, hown, hts⟩ (met_X6_isIn l D cI cZ cL (nI dd) 1 40) (va_cwS 3 hts gX6_pass_X6_isIn rfl rfl rfl (by decide +kernel) ⟨Nat.le_of_ble_eq_true rfl, Nat.le_of_ble_eq_true rfl⟩) (gw_psr hK hP (wc := []) [] rfl) rfl rfl hl.1 rfl (lv_room (Nat.le_of_ble_eq_true rfl)) dX6_pass_9 ⟨Nat.zero_le _, Nat.zero_le _⟩) hS (fun _ _ z => z.elim) (fun _ z => z.elim) (fun r_2 _ t H1 locs ht hvm hw hB hz1 hk1 hS => ?_)
  have hP := gw_ro hP hk1
  generalize H1 = H at hP hS ⊢
  rcases hw with ⟨rfl, hc⟩ | ⟨rfl, hc⟩
  · skip
    refine lv_if_eq (tgt := 23) hx hb dX6_pass_12 (by decide) (fun c_4 => False.elim (by revert c_4; decide)) (fun _ => ?_)
    refine lv_aload_n hx hb dX6_pass_15 rfl (lv_at hl 0 rfl) ?_
    refine lv_iload_n hx hb dX6_pass_16 rfl (lv_at hl 1 rfl) ?_
    have hFc := gw_free (wc := [(mo, .inr (6, [.int 0, .int (nI nb), .int (nI nq), .int (nI nr), .ref m4, .ref m5, .ref m6, .ref m7, .ref m8, .ref m9])), (m4, .inl (cI, 9, .inl (Q 0))), (m5, .inl (cI, 20, .inl (enR Q))), (m6, .inl (cI, 24, .inl (enP Q))), (m7, .inl (cI, 300, .inl (enS Q))), (m8, .inl (cI, 6, .inl (enB ca we))), (m9, .inl (cI, 3, .inl (enN day co nw)))]) hD [0, 1, 2, 3, 4, 5, 6] rfl
    refine va_calli (va_runV (As := [.int (nI dd)]) (rest := []) ⟨hx, hb, hml, hown, hts⟩ (met_X6_daysOn l D cI cZ cL mo m4 m5 m6 m7 m8 m9 0 nb nq nr Q day co nw ca we dd (by first | assumption | omega) (by first | assumption | omega) (by first | assumption | omega) (by first | assumption | omega) (by first | assumption | omega) (by first | assumption | omega) (by first | assumption | omega) (by first | assumption | omega)) (cwV 1 hts gX6_pass_X6_daysOn rfl rfl rfl (by decide +kernel) ⟨Nat.le_of_ble_eq_true rfl, Nat.le_of_ble_eq_true rfl⟩) (gw_pvw hK hP hD (wc := [(mo, .inr (6, [.int 0, .int (nI nb), .int (nI nq), .int (nI nr), .ref m4, .ref m5, .ref m6, .ref m7, .ref m8, .ref m9])), (m4, .inl (cI, 9, .inl (Q 0))), (m5, .inl (cI, 20, .inl (enR Q))), (m6, .inl (cI, 24, .inl (enP Q))), (m7, .inl (cI, 300, .inl (enS Q))), (m8, .inl (cI, 6, .inl (enB ca we))), (m9, .inl (cI, 3, .inl (enN day co nw)))]) [0, 1, 2, 3, 4, 5, 6] (by decide) rfl rfl 6 rfl rfl rfl) rfl rfl hl.1 rfl (lv_room (Nat.le_of_ble_eq_true rfl)) dX6_pass_17 ⟨Nat.zero_le _, Nat.zero_le _⟩) hS (fun q _ h => hFc q h) hFc (fun r_6 _ t H1 locs ht hvm hw hB hz1 hk1 hS => ?_)
    rw [ht] at hB
    obtain ⟨hP, hD⟩ := gw_upd (wc := [(mo, .inr (6, [.int 0, .int (nI nb), .int (nI nq), .int (nI nr), .ref m4, .ref m5, .ref m6, .ref m7, .ref m8, .ref m9])), (m4, .inl (cI, 9, .inl (Q 0))), (m5, .inl (cI, 20, .inl (enR Q))), (m6, .inl (cI, 24, .inl (enP Q))), (m7, .inl (cI, 300, .inl (enS Q))), (m8, .inl (cI, 6, .inl (enB ca we))), (m9, .inl (cI, 3, .inl (enN day co nw)))]) (w1 := [(mo, .inr (6, [.int 0, .int (nI nb), .int (nI nq), .int (nI nr), .ref m4, .ref m5, .ref m6, .ref m7, .ref m8, .ref m9])), (m4, .inl (cI, 9, .inl ((gGo nq dd Q nw day).1 0))), (m5, .inl (cI, 20, .inl (enR ((gGo nq dd Q nw day).1)))), (m6, .inl (cI, 24, .inl (enP ((gGo nq dd Q nw day).1)))), (m7, .inl (cI, 300, .inl (enS ((gGo nq dd Q nw day).1)))), (m8, .inl (cI, 6, .inl (enB ca (gBg nr dd day we)))), (m9, .inl (cI, 3, .inl (enN (day + dd) co ((gGo nq dd Q nw day).2))))]) (ws' := [(mo, .inr (6, [.int 0, .int (nI nb), .int (nI nq), .int (nI nr), .ref m4, .ref m5, .ref m6, .ref m7, .ref m8, .ref m9])), (m4, .inl (cI, 9, .inl ((gGo nq dd Q nw day).1 0))), (m5, .inl (cI, 20, .inl (enR ((gGo nq dd Q nw day).1)))), (m6, .inl (cI, 24, .inl (enP ((gGo nq dd Q nw day).1)))), (m7, .inl (cI, 300, .inl (enS ((gGo nq dd Q nw day).1)))), (m8, .inl (cI, 6, .inl (enB ca (gBg nr dd day we)))), (m9, .inl (cI, 3, .inl (enN (day + dd) co ((gGo nq dd Q nw day).2))))]) hP hD [0, 1, 2, 3, 4, 5, 6] rfl rfl hk1 hB rfl
    generalize H1 = H at hP hS ⊢
    subst hw
    refine lv_goto (tgt := 28) hx hb dX6_pass_20 (by decide) ?_
    subst hAe
    exact W.iret (v := nI (gGo nq dd Q nw day).2 - nI nw) hx hb hr (fun t ht hW => ⟨⟨_, (), rfl, rfl, gw_hh ht hP⟩, hS.F ht⟩) hS.2.2 dX6_pass_28
  · skip
    exact absurd (gw_in1 (n := 40) hd1 hdn (by decide)) hc
