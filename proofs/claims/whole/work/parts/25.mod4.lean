theorem wc_X6_dayOn_X6 : ∀ w ∈ u_ws RX6 TX6 10, w ∈ wsX6_dayOn := by decide +kernel
theorem wd_X6_dayOn_1 : (.fieldLink RX6 39 "GritWheelsModel" "quarriers" "I" : Cond) ∈ wsX6_dayOn := by decide +kernel
theorem wd_X6_dayOn_2 : (.fieldLink RX6 25 "GritWheelsModel" "numbers" "[I" : Cond) ∈ wsX6_dayOn := by decide +kernel
theorem wd_X6_dayOn_3 : (.fieldLink RX6 42 "GritWheelsModel" "rafts" "I" : Cond) ∈ wsX6_dayOn := by decide +kernel
theorem wd_X6_dayOn_4 : (.fieldLink RX6 22 "GritWheelsModel" "boats" "[I" : Cond) ∈ wsX6_dayOn := by decide +kernel
theorem wd_X6_dayOn_5 : (.fieldLink RX6 19 "GritWheelsModel" "stones" "[I" : Cond) ∈ wsX6_dayOn := by decide +kernel
set_option maxHeartbeats 4000000 in
set_option maxRecDepth 100000 in
theorem met_X6_dayOn (l : Launch) (D : va_G) (cI cZ cL : ClassId) (mo : Nat) (m4 : Nat) (m5 : Nat) (m6 : Nat) (m7 : Nat) (m8 : Nat) (m9 : Nat) (th : Int32) (nb : Nat) (nq : Nat) (nr : Nat) (Q : Nat → Nat → Int32) (day : Nat) (co : Int32) (nw : Nat) (ca : Nat → Int32) (we : Nat → Int32) (hnq : nq ≤ 6) (hnb : nb ≤ 5) (hnw : nw ≤ 60) (hnr : nr ≤ 3) (hd : day < 2 ^ 30) (hpl : gPl Q nb nq) (hdu : gDu Q) (hgr : gGr Q nb) : Met l yX6_dayOn wsX6_dayOn ({ frames := 3, cells := 0, slots := 0, locals := 69 }) (gPw [.ref mo] D [(mo, .inr (6, [.int th, .int (nI nb), .int (nI nq), .int (nI nr), .ref m4, .ref m5, .ref m6, .ref m7, .ref m8, .ref m9])), (m4, .inl (cI, 9, .inl (Q 0))), (m5, .inl (cI, 20, .inl (enR Q))), (m6, .inl (cI, 24, .inl (enP Q))), (m7, .inl (cI, 300, .inl (enS Q))), (m8, .inl (cI, 6, .inl (enB ca we))), (m9, .inl (cI, 3, .inl (enN day co nw)))] (gT cI cZ cL)) (va_Qv (fun (_ : Unit) => True) (fun _ t => va_P D vwCl [(mo, .inr (6, [.int th, .int (nI nb), .int (nI nq), .int (nI nr), .ref m4, .ref m5, .ref m6, .ref m7, .ref m8, .ref m9])), (m4, .inl (cI, 9, .inl ((gDay Q nq nw day).1 0))), (m5, .inl (cI, 20, .inl (enR ((gDay Q nq nw day).1)))), (m6, .inl (cI, 24, .inl (enP ((gDay Q nq nw day).1)))), (m7, .inl (cI, 300, .inl (enS ((gDay Q nq nw day).1)))), (m8, .inl (cI, 6, .inl (enB ca (gM nr (gBo day we) we)))), (m9, .inl (cI, 3, .inl (enN (day + 1) co ((gDay Q nq nw day).2))))] t.heap) (gA (gL [(mo, .inr (6, [.int th, .int (nI nb), .int (nI nq), .int (nI nr), .ref m4, .ref m5, .ref m6, .ref m7, .ref m8, .ref m9])), (m4, .inl (cI, 9, .inl (Q 0))), (m5, .inl (cI, 20, .inl (enR Q))), (m6, .inl (cI, 24, .inl (enP Q))), (m7, .inl (cI, 300, .inl (enS Q))), (m8, .inl (cI, 6, .inl (enB ca we))), (m9, .inl (cI, 3, .inl (enN day co nw)))]))) 0 0 (gA (gL [(mo, .inr (6, [.int th, .int (nI nb), .int (nI nq), .int (nI nr), .ref m4, .ref m5, .ref m6, .ref m7, .ref m8, .ref m9])), (m4, .inl (cI, 9, .inl (Q 0))), (m5, .inl (cI, 20, .inl (enR Q))), (m6, .inl (cI, 24, .inl (enP Q))), (m7, .inl (cI, 300, .inl (enS Q))), (m8, .inl (cI, 6, .inl (enB ca we))), (m9, .inl (cI, 3, .inl (enN day co nw)))])) := by
  refine Met.ofW (cc := cX6_dayOn) (maxL := 3) (ret := none) (by decide +kernel) rfl ?_
  intro p e s m args below meth c s₁ B hml hv
  obtain ⟨rfl, hP, hK, hD0⟩ := hv
  have hx := B.exec
  have hb := B.bytes
  have hr := B.returns
  have hts := atoms_spec (ws := wsX6_dayOn) B.pre
  have hown : s.vm.findClass RX6 = some m.cls := findClass_of_methodNamed B.named
  have hlocks := B.notSynchronized
  have hD := gw_self hD0
  generalize hAe : gA (gL [(mo, .inr (6, [.int th, .int (nI nb), .int (nI nq), .int (nI nr), .ref m4, .ref m5, .ref m6, .ref m7, .ref m8, .ref m9])), (m4, .inl (cI, 9, .inl (Q 0))), (m5, .inl (cI, 20, .inl (enR Q))), (m6, .inl (cI, 24, .inl (enP Q))), (m7, .inl (cI, 300, .inl (enS Q))), (m8, .inl (cI, 6, .inl (enB ca we))), (m9, .inl (cI, 3, .inl (enN day co nw)))]) = A at hD ⊢
  have hS : va_S A s.heap s.heap [] := va_S.rf
  have hP : va_P D vwCl [(mo, .inr (6, [.int th, .int (nI nb), .int (nI nq), .int (nI nr), .ref m4, .ref m5, .ref m6, .ref m7, .ref m8, .ref m9])), (m4, .inl (cI, 9, .inl (Q 0))), (m5, .inl (cI, 20, .inl (enR Q))), (m6, .inl (cI, 24, .inl (enP Q))), (m7, .inl (cI, 300, .inl (enS Q))), (m8, .inl (cI, 6, .inl (enB ca we))), (m9, .inl (cI, 3, .inl (enN day co nw)))] s.heap := hP
  have hl := lv_entry ([.ref mo]) (n := 3) (Nat.le_of_ble_eq_true rfl)
  rw [lg_entry_eq]
  generalize (lg_sl ([.ref mo]) ++ List.replicate (3 - (lg_sl ([.ref mo])).length) Slot.unset).toArray = ls at hl ⊢
  have hl : lv_has ls 3 [(0, .ref mo)] := hl
  refine lv_iconst (v := 0) hx hb dX6_dayOn_0 (by decide) ?_
  refine lv_istore_n (lv' := [(1, .int 0), (0, .ref mo)]) hx hb dX6_dayOn_1 rfl hl (by decide) rfl (fun ls hl => ?_)
  refine gw_loop (fun (zz : Nat × Nat × (Nat → Nat → Int32) × Nat) H locs ls => match zz with | (kq, i, Q2, nw2) => va_P D vwCl [(mo, .inr (6, [.int th, .int (nI nb), .int (nI nq), .int (nI nr), .ref m4, .ref m5, .ref m6, .ref m7, .ref m8, .ref m9])), (m4, .inl (cI, 9, .inl (Q 0))), (m5, .inl (cI, 20, .inl (enR Q2))), (m6, .inl (cI, 24, .inl (enP Q2))), (m7, .inl (cI, 300, .inl (enS Q2))), (m8, .inl (cI, 6, .inl (enB ca we))), (m9, .inl (cI, 3, .inl (enN day co nw2)))] H ∧ va_D A [(mo, .inr (6, [.int th, .int (nI nb), .int (nI nq), .int (nI nr), .ref m4, .ref m5, .ref m6, .ref m7, .ref m8, .ref m9])), (m4, .inl (cI, 9, .inl (Q 0))), (m5, .inl (cI, 20, .inl (enR Q2))), (m6, .inl (cI, 24, .inl (enP Q2))), (m7, .inl (cI, 300, .inl (enS Q2))), (m8, .inl (cI, 6, .inl (enB ca we))), (m9, .inl (cI, 3, .inl (enN day co nw2)))] ∧ va_S A s.heap H locs ∧ lv_has ls 3 [(1, .int (nI i)), (0, .ref mo)] ∧ (i + kq = nq) ∧ (gCrew day kq i Q2 nw2 = gCrew day nq 0 Q nw) ∧ (nw2 ≤ 60) ∧ (gPl Q2 nb nq) ∧ (gDu Q2) ∧ (gGr Q2 nb)) (fun (zz : Nat × Nat × (Nat → Nat → Int32) × Nat) => match zz with | (kq, i, Q2, nw2) => kq) (nq, 0, Q, nw) ⟨hP, hD, hS, lv_sub hl [0, 1] rfl, (by omega), rfl, hnw, hpl, hdu, hgr⟩ ?_
  rintro ⟨kq, i, Q2, nw2⟩ ih H locs ls ⟨hP, hD, hS, hl, hin, hF, hnw2, hpl2, hdu2, hgr2⟩
  have hP : va_P D vwCl [(mo, .inr (6, [.int th, .int (nI nb), .int (nI nq), .int (nI nr), .ref m4, .ref m5, .ref m6, .ref m7, .ref m8, .ref m9])), (m4, .inl (cI, 9, .inl (Q 0))), (m5, .inl (cI, 20, .inl (enR Q2))), (m6, .inl (cI, 24, .inl (enP Q2))), (m7, .inl (cI, 300, .inl (enS Q2))), (m8, .inl (cI, 6, .inl (enB ca we))), (m9, .inl (cI, 3, .inl (enN day co nw2)))] H := hP
  have hD : va_D A [(mo, .inr (6, [.int th, .int (nI nb), .int (nI nq), .int (nI nr), .ref m4, .ref m5, .ref m6, .ref m7, .ref m8, .ref m9])), (m4, .inl (cI, 9, .inl (Q 0))), (m5, .inl (cI, 20, .inl (enR Q2))), (m6, .inl (cI, 24, .inl (enP Q2))), (m7, .inl (cI, 300, .inl (enS Q2))), (m8, .inl (cI, 6, .inl (enB ca we))), (m9, .inl (cI, 3, .inl (enN day co nw2)))] := hD
  have hl : lv_has ls 3 [(1, .int (nI i)), (0, .ref mo)] := hl
  have hin : i + kq = nq := hin
  have hF : gCrew day kq i Q2 nw2 = gCrew day nq 0 Q nw := hF
  have hnw2 : nw2 ≤ 60 := hnw2
  have hpl2 : gPl Q2 nb nq := hpl2
  have hdu2 : gDu Q2 := hdu2
  have hgr2 : gGr Q2 nb := hgr2
  have ih2 := ih
  refine lv_iload_n hx hb dX6_dayOn_2 rfl (lv_at hl 0 rfl) ?_
  refine lv_aload_n hx hb dX6_dayOn_3 rfl (lv_at hl 1 rfl) ?_
  refine va_get (D := D) (ci := 6) (v := .int (nI nq)) (C := RX6) (T := TX6) (N := 10) hx hb hts wc_X6_dayOn_X6 hown hK hP 0 rfl rfl 2 (by decide) (hts _ wd_X6_dayOn_1) (fun _ h9 => h9) rfl dX6_dayOn_4 ?_
  refine lv_icmp_ge (tgt := 21) hx hb dX6_dayOn_7 (by decide) (fun c => ?_) (fun c => ?_)
  · skip
    have hk0 : kq = 0 := by have := gw_ge (by omega) (by omega) c; omega
    subst hk0
    have hE : gCrew day nq 0 Q nw = (Q2, nw2) := hF.symm
    have h0 : Q2 0 = Q 0 := by have := gCrew_6 day nq 0 Q nw 0 (by decide); rw [hE] at this; exact this
    refine lv_iconst (v := 0) hx hb dX6_dayOn_21 (by decide) ?_
    refine lv_istore_n (lv' := [(1, .int 0), (0, .ref mo)]) hx hb dX6_dayOn_22 rfl hl (by decide) rfl (fun ls hl => ?_)
    have hw_2 : enP Q2 = enP (pk Q2 7 (gM 0 (fun j => gLose (Q2 6 j) (Q2 7 j)) (Q2 7))) := (enP_ext rfl rfl (gM_0 (F := fun j => gLose (Q2 6 j) (Q2 7 j))).symm rfl)
    rw [hw_2] at hP hD
    refine gw_loop (fun (zz : Nat × Nat) H locs ls => match zz with | (kq, i) => va_P D vwCl [(mo, .inr (6, [.int th, .int (nI nb), .int (nI nq), .int (nI nr), .ref m4, .ref m5, .ref m6, .ref m7, .ref m8, .ref m9])), (m4, .inl (cI, 9, .inl (Q 0))), (m5, .inl (cI, 20, .inl (enR Q2))), (m6, .inl (cI, 24, .inl (enP (pk Q2 7 (gM i (fun j => gLose (Q2 6 j) (Q2 7 j)) (Q2 7)))))), (m7, .inl (cI, 300, .inl (enS Q2))), (m8, .inl (cI, 6, .inl (enB ca we))), (m9, .inl (cI, 3, .inl (enN day co nw2)))] H ∧ va_D A [(mo, .inr (6, [.int th, .int (nI nb), .int (nI nq), .int (nI nr), .ref m4, .ref m5, .ref m6, .ref m7, .ref m8, .ref m9])), (m4, .inl (cI, 9, .inl (Q 0))), (m5, .inl (cI, 20, .inl (enR Q2))), (m6, .inl (cI, 24, .inl (enP (pk Q2 7 (gM i (fun j => gLose (Q2 6 j) (Q2 7 j)) (Q2 7)))))), (m7, .inl (cI, 300, .inl (enS Q2))), (m8, .inl (cI, 6, .inl (enB ca we))), (m9, .inl (cI, 3, .inl (enN day co nw2)))] ∧ va_S A s.heap H locs ∧ lv_has ls 3 [(1, .int (nI i)), (0, .ref mo)] ∧ (i + kq = nq)) (fun (zz : Nat × Nat) => match zz with | (kq, i) => kq) (nq, 0) ⟨hP, hD, hS, lv_sub hl [0, 1] rfl, (by omega)⟩ ?_
    rintro ⟨kq, i⟩ ih H locs ls ⟨hP, hD, hS, hl, hin⟩
    have hP : va_P D vwCl [(mo, .inr (6, [.int th, .int (nI nb), .int (nI nq), .int (nI nr), .ref m4, .ref m5, .ref m6, .ref m7, .ref m8, .ref m9])), (m4, .inl (cI, 9, .inl (Q 0))), (m5, .inl (cI, 20, .inl (enR Q2))), (m6, .inl (cI, 24, .inl (enP (pk Q2 7 (gM i (fun j => gLose (Q2 6 j) (Q2 7 j)) (Q2 7)))))), (m7, .inl (cI, 300, .inl (enS Q2))), (m8, .inl (cI, 6, .inl (enB ca we))), (m9, .inl (cI, 3, .inl (enN day co nw2)))] H := hP
    have hD : va_D A [(mo, .inr (6, [.int th, .int (nI nb), .int (nI nq), .int (nI nr), .ref m4, .ref m5, .ref m6, .ref m7, .ref m8, .ref m9])), (m4, .inl (cI, 9, .inl (Q 0))), (m5, .inl (cI, 20, .inl (enR Q2))), (m6, .inl (cI, 24, .inl (enP (pk Q2 7 (gM i (fun j => gLose (Q2 6 j) (Q2 7 j)) (Q2 7)))))), (m7, .inl (cI, 300, .inl (enS Q2))), (m8, .inl (cI, 6, .inl (enB ca we))), (m9, .inl (cI, 3, .inl (enN day co nw2)))] := hD
    have hl : lv_has ls 3 [(1, .int (nI i)), (0, .ref mo)] := hl
    have hin : i + kq = nq := hin
    have ih23 := ih
    refine lv_iload_n hx hb dX6_dayOn_23 rfl (lv_at hl 0 rfl) ?_
    refine lv_aload_n hx hb dX6_dayOn_24 rfl (lv_at hl 1 rfl) ?_
    refine va_get (D := D) (ci := 6) (v := .int (nI nq)) (C := RX6) (T := TX6) (N := 10) hx hb hts wc_X6_dayOn_X6 hown hK hP 0 rfl rfl 2 (by decide) (hts _ wd_X6_dayOn_1) (fun _ h9 => h9) rfl dX6_dayOn_25 ?_
    refine lv_icmp_ge (tgt := 42) hx hb dX6_dayOn_28 (by decide) (fun c => ?_) (fun c => ?_)
    · skip
      have hk0 : kq = 0 := by have := gw_ge (by omega) (by omega) c; omega
      subst hk0
      have hiq : i = nq := by omega
      rw [hiq] at hP hD
      refine lv_aload_n hx hb dX6_dayOn_42 rfl (lv_at hl 1 rfl) ?_
      refine va_calli (va_runV (As := []) (rest := []) ⟨hx, hb, hml, hown, hts⟩ (met_X6_water l D cI cZ cL mo m4 m5 m6 m7 m8 m9 th nb nq nr Q day co nw2 (by first | assumption | omega)) (cwV 0 hts gX6_dayOn_X6_water rfl rfl rfl (by decide +kernel) ⟨Nat.le_of_ble_eq_true rfl, Nat.le_of_ble_eq_true rfl⟩) (gw_pvr hK hP (wc := [(mo, .inr (6, [.int th, .int (nI nb), .int (nI nq), .int (nI nr), .ref m4, .ref m5, .ref m6, .ref m7, .ref m8, .ref m9])), (m4, .inl (cI, 9, .inl (Q 0))), (m9, .inl (cI, 3, .inl (enN day co nw2)))]) [0, 1, 6] rfl 6 rfl rfl rfl) rfl rfl hl.1 rfl (lv_room (Nat.le_of_ble_eq_true rfl)) dX6_dayOn_43 ⟨Nat.zero_le _, Nat.zero_le _⟩) hS (fun _ _ z => z.elim) (fun _ z => z.elim) (fun r_5 _ t H1 locs ht hvm hw hB hz1 hk1 hS => ?_)
      have hP := gw_ro hP hk1
      generalize H1 = H at hP hS ⊢
      subst hw
      refine lv_iconst (v := 2) hx hb dX6_dayOn_46 (by decide) ?_
      refine lv_icmp_le (tgt := 59) hx hb dX6_dayOn_47 (by decide) (fun cw => ?_) (fun cw => ?_)
      · skip
        refine lv_iconst (v := 0) hx hb dX6_dayOn_59 (by decide) ?_
        refine gw_top (y := gDr (Q 0 (day % 9))) (by unfold gDr; first | (rw [if_pos (gw_23.mp cw)]; done) | (rw [if_neg (fun h => gw_23.mpr h cw)]; done)) ?_
        refine lv_istore_n (lv' := [(1, .int (gDr (Q 0 (day % 9)))), (0, .ref mo)]) hx hb dX6_dayOn_60 rfl hl (by decide) rfl (fun ls hl => ?_)
        refine lv_iconst (v := 0) hx hb dX6_dayOn_61 (by decide) ?_
        refine lv_istore_n (lv' := [(2, .int 0), (1, .int (gDr (Q 0 (day % 9)))), (0, .ref mo)]) hx hb dX6_dayOn_62 rfl hl (by decide) rfl (fun ls hl => ?_)
        have hw_7 : enS Q2 = enS (pk Q2 13 (Q2 13)) := (enS_ext rfl rfl rfl rfl rfl)
        rw [hw_7] at hP hD
        refine gw_loop (fun (zz : Nat × Nat × Int32 × (Nat → Int32)) H locs ls => match zz with | (kw, i, lf, st) => va_P D vwCl [(mo, .inr (6, [.int th, .int (nI nb), .int (nI nq), .int (nI nr), .ref m4, .ref m5, .ref m6, .ref m7, .ref m8, .ref m9])), (m4, .inl (cI, 9, .inl (Q 0))), (m5, .inl (cI, 20, .inl (enR Q2))), (m6, .inl (cI, 24, .inl (enP (pk Q2 7 (gM nq (fun j => gLose (Q2 6 j) (Q2 7 j)) (Q2 7)))))), (m7, .inl (cI, 300, .inl (enS (pk Q2 13 st)))), (m8, .inl (cI, 6, .inl (enB ca we))), (m9, .inl (cI, 3, .inl (enN day co nw2)))] H ∧ va_D A [(mo, .inr (6, [.int th, .int (nI nb), .int (nI nq), .int (nI nr), .ref m4, .ref m5, .ref m6, .ref m7, .ref m8, .ref m9])), (m4, .inl (cI, 9, .inl (Q 0))), (m5, .inl (cI, 20, .inl (enR Q2))), (m6, .inl (cI, 24, .inl (enP (pk Q2 7 (gM nq (fun j => gLose (Q2 6 j) (Q2 7 j)) (Q2 7)))))), (m7, .inl (cI, 300, .inl (enS (pk Q2 13 st)))), (m8, .inl (cI, 6, .inl (enB ca we))), (m9, .inl (cI, 3, .inl (enN day co nw2)))] ∧ va_S A s.heap H locs ∧ lv_has ls 3 [(2, .int (nI i)), (1, .int lf), (0, .ref mo)] ∧ (i + kw = nw2) ∧ (gDress kw i lf st = gDress nw2 0 (gDr (Q 0 (day % 9))) (Q2 13))) (fun (zz : Nat × Nat × Int32 × (Nat → Int32)) => match zz with | (kw, i, lf, st) => kw) (nw2, 0, gDr (Q 0 (day % 9)), Q2 13) ⟨hP, hD, hS, lv_sub hl [0, 1, 2] rfl, (by omega), rfl⟩ ?_
        rintro ⟨kw, i, lf, st⟩ ih H locs ls ⟨hP, hD, hS, hl, hin, hG⟩
        have hP : va_P D vwCl [(mo, .inr (6, [.int th, .int (nI nb), .int (nI nq), .int (nI nr), .ref m4, .ref m5, .ref m6, .ref m7, .ref m8, .ref m9])), (m4, .inl (cI, 9, .inl (Q 0))), (m5, .inl (cI, 20, .inl (enR Q2))), (m6, .inl (cI, 24, .inl (enP (pk Q2 7 (gM nq (fun j => gLose (Q2 6 j) (Q2 7 j)) (Q2 7)))))), (m7, .inl (cI, 300, .inl (enS (pk Q2 13 st)))), (m8, .inl (cI, 6, .inl (enB ca we))), (m9, .inl (cI, 3, .inl (enN day co nw2)))] H := hP
        have hD : va_D A [(mo, .inr (6, [.int th, .int (nI nb), .int (nI nq), .int (nI nr), .ref m4, .ref m5, .ref m6, .ref m7, .ref m8, .ref m9])), (m4, .inl (cI, 9, .inl (Q 0))), (m5, .inl (cI, 20, .inl (enR Q2))), (m6, .inl (cI, 24, .inl (enP (pk Q2 7 (gM nq (fun j => gLose (Q2 6 j) (Q2 7 j)) (Q2 7)))))), (m7, .inl (cI, 300, .inl (enS (pk Q2 13 st)))), (m8, .inl (cI, 6, .inl (enB ca we))), (m9, .inl (cI, 3, .inl (enN day co nw2)))] := hD
        have hl : lv_has ls 3 [(2, .int (nI i)), (1, .int lf), (0, .ref mo)] := hl
        have hin : i + kw = nw2 := hin
        have hG : gDress kw i lf st = gDress nw2 0 (gDr (Q 0 (day % 9))) (Q2 13) := hG
        have ih63 := ih
        refine lv_iload_n hx hb dX6_dayOn_63 rfl (lv_at hl 0 rfl) ?_
        refine lv_aload_n hx hb dX6_dayOn_64 rfl (lv_at hl 2 rfl) ?_
        refine va_get (D := D) (ci := 6) (v := .ref m9) (C := RX6) (T := TX6) (N := 10) hx hb hts wc_X6_dayOn_X6 hown hK hP 0 rfl rfl 9 (by decide) (hts _ wd_X6_dayOn_2) (fun _ h9 => h9) rfl dX6_dayOn_65 ?_
        refine lv_iconst (v := 2) hx hb dX6_dayOn_68 (by decide) ?_
        refine gw_top (y := nI 2) rfl ?_
        refine gw_iald hx hb hK hP 6 0 (k := 2) rfl rfl (by omega) (by decide) dX6_dayOn_69 ?_
        refine gw_top (y := nI nw2) rfl ?_
        refine lv_icmp_ge (tgt := 109) hx hb dX6_dayOn_70 (by decide) (fun c => ?_) (fun c => ?_)
        · skip
          have hk0 : kw = 0 := by have := gw_ge (by omega) (by omega) c; omega
          subst hk0
          have hst : st = gDress nw2 0 (gDr (Q 0 (day % 9))) (Q2 13) := hG
          refine lv_iconst (v := 0) hx hb dX6_dayOn_109 (by decide) ?_
          refine lv_istore_n (lv' := [(2, .int 0), (1, .int lf), (0, .ref mo)]) hx hb dX6_dayOn_110 rfl hl (by decide) rfl (fun ls hl => ?_)
          have hw_9 : enB ca we = enB ca (gM 0 (gBo day we) we) := (by rw [gM_0])
          rw [hw_9] at hP hD
          refine gw_loop (fun (zz : Nat × Nat) H locs ls => match zz with | (kr, i) => va_P D vwCl [(mo, .inr (6, [.int th, .int (nI nb), .int (nI nq), .int (nI nr), .ref m4, .ref m5, .ref m6, .ref m7, .ref m8, .ref m9])), (m4, .inl (cI, 9, .inl (Q 0))), (m5, .inl (cI, 20, .inl (enR Q2))), (m6, .inl (cI, 24, .inl (enP (pk Q2 7 (gM nq (fun j => gLose (Q2 6 j) (Q2 7 j)) (Q2 7)))))), (m7, .inl (cI, 300, .inl (enS (pk Q2 13 st)))), (m8, .inl (cI, 6, .inl (enB ca (gM i (gBo day we) we)))), (m9, .inl (cI, 3, .inl (enN day co nw2)))] H ∧ va_D A [(mo, .inr (6, [.int th, .int (nI nb), .int (nI nq), .int (nI nr), .ref m4, .ref m5, .ref m6, .ref m7, .ref m8, .ref m9])), (m4, .inl (cI, 9, .inl (Q 0))), (m5, .inl (cI, 20, .inl (enR Q2))), (m6, .inl (cI, 24, .inl (enP (pk Q2 7 (gM nq (fun j => gLose (Q2 6 j) (Q2 7 j)) (Q2 7)))))), (m7, .inl (cI, 300, .inl (enS (pk Q2 13 st)))), (m8, .inl (cI, 6, .inl (enB ca (gM i (gBo day we) we)))), (m9, .inl (cI, 3, .inl (enN day co nw2)))] ∧ va_S A s.heap H locs ∧ lv_has ls 3 [(2, .int (nI i)), (1, .int lf), (0, .ref mo)] ∧ (i + kr = nr)) (fun (zz : Nat × Nat) => match zz with | (kr, i) => kr) (nr, 0) ⟨hP, hD, hS, lv_sub hl [0, 1, 2] rfl, (by omega)⟩ ?_
          rintro ⟨kr, i⟩ ih H locs ls ⟨hP, hD, hS, hl, hin⟩
          have hP : va_P D vwCl [(mo, .inr (6, [.int th, .int (nI nb), .int (nI nq), .int (nI nr), .ref m4, .ref m5, .ref m6, .ref m7, .ref m8, .ref m9])), (m4, .inl (cI, 9, .inl (Q 0))), (m5, .inl (cI, 20, .inl (enR Q2))), (m6, .inl (cI, 24, .inl (enP (pk Q2 7 (gM nq (fun j => gLose (Q2 6 j) (Q2 7 j)) (Q2 7)))))), (m7, .inl (cI, 300, .inl (enS (pk Q2 13 st)))), (m8, .inl (cI, 6, .inl (enB ca (gM i (gBo day we) we)))), (m9, .inl (cI, 3, .inl (enN day co nw2)))] H := hP
          have hD : va_D A [(mo, .inr (6, [.int th, .int (nI nb), .int (nI nq), .int (nI nr), .ref m4, .ref m5, .ref m6, .ref m7, .ref m8, .ref m9])), (m4, .inl (cI, 9, .inl (Q 0))), (m5, .inl (cI, 20, .inl (enR Q2))), (m6, .inl (cI, 24, .inl (enP (pk Q2 7 (gM nq (fun j => gLose (Q2 6 j) (Q2 7 j)) (Q2 7)))))), (m7, .inl (cI, 300, .inl (enS (pk Q2 13 st)))), (m8, .inl (cI, 6, .inl (enB ca (gM i (gBo day we) we)))), (m9, .inl (cI, 3, .inl (enN day co nw2)))] := hD
          have hl : lv_has ls 3 [(2, .int (nI i)), (1, .int lf), (0, .ref mo)] := hl
          have hin : i + kr = nr := hin
          have ih111 := ih
          refine lv_iload_n hx hb dX6_dayOn_111 rfl (lv_at hl 0 rfl) ?_
          refine lv_aload_n hx hb dX6_dayOn_112 rfl (lv_at hl 2 rfl) ?_
          refine va_get (D := D) (ci := 6) (v := .int (nI nr)) (C := RX6) (T := TX6) (N := 10) hx hb hts wc_X6_dayOn_X6 hown hK hP 0 rfl rfl 3 (by decide) (hts _ wd_X6_dayOn_3) (fun _ h9 => h9) rfl dX6_dayOn_113 ?_
          refine lv_icmp_ge (tgt := 165) hx hb dX6_dayOn_116 (by decide) (fun c => ?_) (fun c => ?_)
          · skip
            have hk0 : kr = 0 := by have := gw_ge (by omega) (by omega) c; omega
            subst hk0
            have hir : i = nr := by omega
            rw [hir] at hP hD
            refine lv_aload_n hx hb dX6_dayOn_165 rfl (lv_at hl 2 rfl) ?_
            refine va_get (D := D) (ci := 6) (v := .ref m9) (C := RX6) (T := TX6) (N := 10) hx hb hts wc_X6_dayOn_X6 hown hK hP 0 rfl rfl 9 (by decide) (hts _ wd_X6_dayOn_2) (fun _ h9 => h9) rfl dX6_dayOn_166 ?_
            refine lv_iconst (v := 0) hx hb dX6_dayOn_169 (by decide) ?_
            refine lv_dup2_11 hx hb dX6_dayOn_170 rfl rfl ?_
            refine gw_top (y := nI 0) rfl ?_
            refine gw_iald hx hb hK hP 6 0 (k := 0) rfl rfl (by omega) (by decide) dX6_dayOn_171 ?_
            refine gw_top (y := nI day) rfl ?_
            refine lv_iconst (v := 1) hx hb dX6_dayOn_172 (by decide) ?_
            refine lv_iadd hx hb dX6_dayOn_173 ?_
            refine gw_top (y := nI (day + 1)) (nI_add day 1) ?_
            refine gw_top2 (y := nI 0) rfl ?_
            refine gw_iast hx hb hK hP hD hS 6 0 (k := 0) rfl rfl (by omega) (by decide) dX6_dayOn_174 (fun H locs hP hD hS => ?_)
            have hP : va_P D vwCl [(mo, .inr (6, [.int th, .int (nI nb), .int (nI nq), .int (nI nr), .ref m4, .ref m5, .ref m6, .ref m7, .ref m8, .ref m9])), (m4, .inl (cI, 9, .inl (Q 0))), (m5, .inl (cI, 20, .inl (enR Q2))), (m6, .inl (cI, 24, .inl (enP (pk Q2 7 (gM nq (fun j => gLose (Q2 6 j) (Q2 7 j)) (Q2 7)))))), (m7, .inl (cI, 300, .inl (enS (pk Q2 13 st)))), (m8, .inl (cI, 6, .inl (enB ca (gM nr (gBo day we) we)))), (m9, .inl (cI, 3, .inl (upd (enN day co nw2) 0 (nI (day + 1)))))] H := hP
            have hD : va_D A [(mo, .inr (6, [.int th, .int (nI nb), .int (nI nq), .int (nI nr), .ref m4, .ref m5, .ref m6, .ref m7, .ref m8, .ref m9])), (m4, .inl (cI, 9, .inl (Q 0))), (m5, .inl (cI, 20, .inl (enR Q2))), (m6, .inl (cI, 24, .inl (enP (pk Q2 7 (gM nq (fun j => gLose (Q2 6 j) (Q2 7 j)) (Q2 7)))))), (m7, .inl (cI, 300, .inl (enS (pk Q2 13 st)))), (m8, .inl (cI, 6, .inl (enB ca (gM nr (gBo day we) we)))), (m9, .inl (cI, 3, .inl (upd (enN day co nw2) 0 (nI (day + 1)))))] := hD
            have hw_11 : upd (enN day co nw2) 0 (nI (day + 1)) = enN (day + 1) co nw2 := (enN_0 _ _ _ _)
            rw [hw_11] at hP hD
            subst hAe
            exact W.vret hx hb hr (fun t ht hW => ⟨⟨(), rfl, trivial, (by rw [show gDay Q nq nw day = (gEve Q2 nq nw2 day, nw2) by unfold gDay; rw [hE]]; have hP : va_P D vwCl [(mo, .inr (6, [.int th, .int (nI nb), .int (nI nq), .int (nI nr), .ref m4, .ref m5, .ref m6, .ref m7, .ref m8, .ref m9])), (m4, .inl (cI, 9, .inl (gEve Q2 nq nw2 day 0))), (m5, .inl (cI, 20, .inl (enR (gEve Q2 nq nw2 day)))), (m6, .inl (cI, 24, .inl (enP (gEve Q2 nq nw2 day)))), (m7, .inl (cI, 300, .inl (enS (gEve Q2 nq nw2 day)))), (m8, .inl (cI, 6, .inl (enB ca (gM nr (gBo day we) we)))), (m9, .inl (cI, 3, .inl (enN (day + 1) co nw2)))] H := (by rw [show gEve Q2 nq nw2 day 0 = Q 0 from h0, ← enR_ext (Q := Q2) (Q' := gEve Q2 nq nw2 day) rfl rfl rfl rfl, ← enP_ext (Q := pk Q2 7 (gM nq (fun j => gLose (Q2 6 j) (Q2 7 j)) (Q2 7))) (Q' := gEve Q2 nq nw2 day) rfl rfl rfl rfl, ← enS_ext (Q := pk Q2 13 st) (Q' := gEve Q2 nq nw2 day) rfl rfl (gEve_13 h0 hst) rfl rfl]; exact hP); exact gw_hh ht hP)⟩, hS.F ht⟩) hS.2.2 dX6_dayOn_175
          · skip
            have hi : i < nr := gw_lt (by omega) (by omega) c
            obtain ⟨kr, rfl⟩ : ∃ k2, kr = k2 + 1 := ⟨kr - 1, by omega⟩
            refine lv_aload_n hx hb dX6_dayOn_119 rfl (lv_at hl 2 rfl) ?_
            refine lv_iload_n hx hb dX6_dayOn_120 rfl (lv_at hl 0 rfl) ?_
            refine va_calli (va_runV (As := [.int (nI i)]) (rest := []) ⟨hx, hb, hml, hown, hts⟩ (met_X6_isAway l D cI cZ cL mo m4 m5 m6 m7 m8 m9 th nb nq nr ca (gM i (gBo day we) we) i (by first | assumption | omega)) (cwV 1 hts gX6_dayOn_X6_isAway rfl rfl rfl (by decide +kernel) ⟨Nat.le_of_ble_eq_true rfl, Nat.le_of_ble_eq_true rfl⟩) (gw_pvr hK hP (wc := [(mo, .inr (6, [.int th, .int (nI nb), .int (nI nq), .int (nI nr), .ref m4, .ref m5, .ref m6, .ref m7, .ref m8, .ref m9])), (m8, .inl (cI, 6, .inl (enB ca (gM i (gBo day we) we))))]) [0, 5] rfl 6 rfl rfl rfl) rfl rfl hl.1 rfl (lv_room (Nat.le_of_ble_eq_true rfl)) dX6_dayOn_121 ⟨Nat.zero_le _, Nat.zero_le _⟩) hS (fun _ _ z => z.elim) (fun _ z => z.elim) (fun r_13 _ t H1 locs ht hvm hw hB hz1 hk1 hS => ?_)
            have hP := gw_ro hP hk1
            generalize H1 = H at hP hS ⊢
            rcases hw with ⟨rfl, hcc⟩ | ⟨rfl, hcc⟩
            · skip
              rw [gM_at (Nat.le_refl i)] at hcc
              refine lv_if_eq (tgt := 159) hx hb dX6_dayOn_124 (by decide) (fun c_15 => False.elim (by revert c_15; decide)) (fun _ => ?_)
              refine lv_aload_n hx hb dX6_dayOn_127 rfl (lv_at hl 2 rfl) ?_
              refine va_get (D := D) (ci := 6) (v := .ref m8) (C := RX6) (T := TX6) (N := 10) hx hb hts wc_X6_dayOn_X6 hown hK hP 0 rfl rfl 8 (by decide) (hts _ wd_X6_dayOn_4) (fun _ h9 => h9) rfl dX6_dayOn_128 ?_
              refine lv_iconst (v := 2) hx hb dX6_dayOn_131 (by decide) ?_
              refine lv_iload_n hx hb dX6_dayOn_132 rfl (lv_at hl 0 rfl) ?_
              refine lv_imul hx hb dX6_dayOn_133 ?_
              refine gw_top (y := nI (2 * i)) (nI_mul 2 i) ?_
              refine lv_iconst (v := 1) hx hb dX6_dayOn_134 (by decide) ?_
              refine lv_iadd hx hb dX6_dayOn_135 ?_
              refine gw_top (y := nI ((2 * i) + 1)) (nI_add (2 * i) 1) ?_
              refine gw_iald hx hb hK hP 5 0 (k := (2 * i) + 1) rfl rfl (by omega) (by decide) dX6_dayOn_136 ?_
              refine gw_top (y := we i) ((enB_1 _ _ i).trans (gM_at (Nat.le_refl i))) ?_
              refine lv_aload_n hx hb dX6_dayOn_137 rfl (lv_at hl 2 rfl) ?_
              refine va_get (D := D) (ci := 6) (v := .ref m9) (C := RX6) (T := TX6) (N := 10) hx hb hts wc_X6_dayOn_X6 hown hK hP 0 rfl rfl 9 (by decide) (hts _ wd_X6_dayOn_2) (fun _ h9 => h9) rfl dX6_dayOn_138 ?_
              refine lv_iconst (v := 0) hx hb dX6_dayOn_141 (by decide) ?_
              refine gw_top (y := nI 0) rfl ?_
              refine gw_iald hx hb hK hP 6 0 (k := 0) rfl rfl (by omega) (by decide) dX6_dayOn_142 ?_
              refine gw_top (y := nI day) rfl ?_
              refine lv_iconst (v := 3) hx hb dX6_dayOn_143 (by decide) ?_
              refine lv_isub hx hb dX6_dayOn_144 ?_
              refine lv_icmp_ne (tgt := 159) hx hb dX6_dayOn_145 (by decide) (fun c5 => ?_) (fun c5 => ?_)
              · skip
                refine lv_iinc (v := nI (i + 1)) (lv' := [(2, .int (nI (i + 1))), (1, .int lf), (0, .ref mo)]) hx hb dX6_dayOn_159 hl (k := 0) rfl (nI_add i 1) (by decide) rfl (fun ls hl => ?_)
                refine lv_goto (tgt := 111) hx hb dX6_dayOn_162 (by decide) ?_
                have hw : enB ca (gM i (gBo day we) we) = enB ca (gM (i + 1) (gBo day we) we) := congrArg (enB ca) (gM_k (by unfold gBo; first | (rw [if_pos hcc]; done) | (rw [if_neg hcc, if_neg c5]; done)))
                rw [hw] at hP hD
                exact ih111 (kr, i + 1) H locs ls (by dsimp only; omega) ⟨hP, hD, hS, lv_sub hl [0, 1, 2] rfl, (by omega)⟩
              · skip
                refine lv_aload_n hx hb dX6_dayOn_148 rfl (lv_at hl 2 rfl) ?_
                refine va_get (D := D) (ci := 6) (v := .ref m8) (C := RX6) (T := TX6) (N := 10) hx hb hts wc_X6_dayOn_X6 hown hK hP 0 rfl rfl 8 (by decide) (hts _ wd_X6_dayOn_4) (fun _ h9 => h9) rfl dX6_dayOn_149 ?_
                refine lv_iconst (v := 2) hx hb dX6_dayOn_152 (by decide) ?_
                refine lv_iload_n hx hb dX6_dayOn_153 rfl (lv_at hl 0 rfl) ?_
                refine lv_imul hx hb dX6_dayOn_154 ?_
                refine gw_top (y := nI (2 * i)) (nI_mul 2 i) ?_
                refine lv_iconst (v := 1) hx hb dX6_dayOn_155 (by decide) ?_
                refine lv_iadd hx hb dX6_dayOn_156 ?_
                refine gw_top (y := nI ((2 * i) + 1)) (nI_add (2 * i) 1) ?_
                refine lv_iconst (v := (-1)) hx hb dX6_dayOn_157 (by decide) ?_
                refine gw_iast hx hb hK hP hD hS 5 0 (k := (2 * i) + 1) rfl rfl (by omega) (by decide) dX6_dayOn_158 (fun H locs hP hD hS => ?_)
                have hP : va_P D vwCl [(mo, .inr (6, [.int th, .int (nI nb), .int (nI nq), .int (nI nr), .ref m4, .ref m5, .ref m6, .ref m7, .ref m8, .ref m9])), (m4, .inl (cI, 9, .inl (Q 0))), (m5, .inl (cI, 20, .inl (enR Q2))), (m6, .inl (cI, 24, .inl (enP (pk Q2 7 (gM nq (fun j => gLose (Q2 6 j) (Q2 7 j)) (Q2 7)))))), (m7, .inl (cI, 300, .inl (enS (pk Q2 13 st)))), (m8, .inl (cI, 6, .inl (upd (enB ca (gM i (gBo day we) we)) ((2 * i) + 1) (-1)))), (m9, .inl (cI, 3, .inl (enN day co nw2)))] H := hP
                have hD : va_D A [(mo, .inr (6, [.int th, .int (nI nb), .int (nI nq), .int (nI nr), .ref m4, .ref m5, .ref m6, .ref m7, .ref m8, .ref m9])), (m4, .inl (cI, 9, .inl (Q 0))), (m5, .inl (cI, 20, .inl (enR Q2))), (m6, .inl (cI, 24, .inl (enP (pk Q2 7 (gM nq (fun j => gLose (Q2 6 j) (Q2 7 j)) (Q2 7)))))), (m7, .inl (cI, 300, .inl (enS (pk Q2 13 st)))), (m8, .inl (cI, 6, .inl (upd (enB ca (gM i (gBo day we) we)) ((2 * i) + 1) (-1)))), (m9, .inl (cI, 3, .inl (enN day co nw2)))] := hD
                refine lv_iinc (v := nI (i + 1)) (lv' := [(2, .int (nI (i + 1))), (1, .int lf), (0, .ref mo)]) hx hb dX6_dayOn_159 hl (k := 0) rfl (nI_add i 1) (by decide) rfl (fun ls hl => ?_)
                refine lv_goto (tgt := 111) hx hb dX6_dayOn_162 (by decide) ?_
                have hw : upd (enB ca (gM i (gBo day we) we)) ((2 * i) + 1) (-1) = enB ca (gM (i + 1) (gBo day we) we) := (enB_p1 _ _ i _).trans (congrArg (enB ca) (gM_s (by unfold gBo; rw [if_neg hcc, if_pos c5])))
                rw [hw] at hP hD
                exact ih111 (kr, i + 1) H locs ls (by dsimp only; omega) ⟨hP, hD, hS, lv_sub hl [0, 1, 2] rfl, (by omega)⟩
            · skip
              rw [gM_at (Nat.le_refl i)] at hcc
              have hcc := Decidable.not_not.mp hcc
              refine lv_if_eq (tgt := 159) hx hb dX6_dayOn_124 (by decide) (fun _ => ?_) (fun c_17 => False.elim (by revert c_17; decide))
              refine lv_iinc (v := nI (i + 1)) (lv' := [(2, .int (nI (i + 1))), (1, .int lf), (0, .ref mo)]) hx hb dX6_dayOn_159 hl (k := 0) rfl (nI_add i 1) (by decide) rfl (fun ls hl => ?_)
              refine lv_goto (tgt := 111) hx hb dX6_dayOn_162 (by decide) ?_
              have hw : enB ca (gM i (gBo day we) we) = enB ca (gM (i + 1) (gBo day we) we) := congrArg (enB ca) (gM_k (by unfold gBo; first | (rw [if_pos hcc]; done) | (rw [if_neg hcc, if_neg c5]; done)))
              rw [hw] at hP hD
              exact ih111 (kr, i + 1) H locs ls (by dsimp only; omega) ⟨hP, hD, hS, lv_sub hl [0, 1, 2] rfl, (by omega)⟩
        · skip
          have hi : i < nw2 := gw_lt (by omega) (by omega) c
          obtain ⟨kw, rfl⟩ : ∃ k2, kw = k2 + 1 := ⟨kw - 1, by omega⟩
          refine lv_iload_n hx hb dX6_dayOn_73 rfl (lv_at hl 1 rfl) ?_
          refine lv_if_le (tgt := 109) hx hb dX6_dayOn_74 (by decide) (fun c2 => ?_) (fun c2 => ?_)
          · skip
            have hst : st = gDress nw2 0 (gDr (Q 0 (day % 9))) (Q2 13) := by rw [← hG]; simp [gDress, c2]
            refine lv_iconst (v := 0) hx hb dX6_dayOn_109 (by decide) ?_
            refine lv_istore_n (lv' := [(2, .int 0), (1, .int lf), (0, .ref mo)]) hx hb dX6_dayOn_110 rfl hl (by decide) rfl (fun ls hl => ?_)
            have hw_19 : enB ca we = enB ca (gM 0 (gBo day we) we) := (by rw [gM_0])
            rw [hw_19] at hP hD
            refine gw_loop (fun (zz : Nat × Nat) H locs ls => match zz with | (kr, i) => va_P D vwCl [(mo, .inr (6, [.int th, .int (nI nb), .int (nI nq), .int (nI nr), .ref m4, .ref m5, .ref m6, .ref m7, .ref m8, .ref m9])), (m4, .inl (cI, 9, .inl (Q 0))), (m5, .inl (cI, 20, .inl (enR Q2))), (m6, .inl (cI, 24, .inl (enP (pk Q2 7 (gM nq (fun j => gLose (Q2 6 j) (Q2 7 j)) (Q2 7)))))), (m7, .inl (cI, 300, .inl (enS (pk Q2 13 st)))), (m8, .inl (cI, 6, .inl (enB ca (gM i (gBo day we) we)))), (m9, .inl (cI, 3, .inl (enN day co nw2)))] H ∧ va_D A [(mo, .inr (6, [.int th, .int (nI nb), .int (nI nq), .int (nI nr), .ref m4, .ref m5, .ref m6, .ref m7, .ref m8, .ref m9])), (m4, .inl (cI, 9, .inl (Q 0))), (m5, .inl (cI, 20, .inl (enR Q2))), (m6, .inl (cI, 24, .inl (enP (pk Q2 7 (gM nq (fun j => gLose (Q2 6 j) (Q2 7 j)) (Q2 7)))))), (m7, .inl (cI, 300, .inl (enS (pk Q2 13 st)))), (m8, .inl (cI, 6, .inl (enB ca (gM i (gBo day we) we)))), (m9, .inl (cI, 3, .inl (enN day co nw2)))] ∧ va_S A s.heap H locs ∧ lv_has ls 3 [(2, .int (nI i)), (1, .int lf), (0, .ref mo)] ∧ (i + kr = nr)) (fun (zz : Nat × Nat) => match zz with | (kr, i) => kr) (nr, 0) ⟨hP, hD, hS, lv_sub hl [0, 1, 2] rfl, (by omega)⟩ ?_
            rintro ⟨kr, i⟩ ih H locs ls ⟨hP, hD, hS, hl, hin⟩
            have hP : va_P D vwCl [(mo, .inr (6, [.int th, .int (nI nb), .int (nI nq), .int (nI nr), .ref m4, .ref m5, .ref m6, .ref m7, .ref m8, .ref m9])), (m4, .inl (cI, 9, .inl (Q 0))), (m5, .inl (cI, 20, .inl (enR Q2))), (m6, .inl (cI, 24, .inl (enP (pk Q2 7 (gM nq (fun j => gLose (Q2 6 j) (Q2 7 j)) (Q2 7)))))), (m7, .inl (cI, 300, .inl (enS (pk Q2 13 st)))), (m8, .inl (cI, 6, .inl (enB ca (gM i (gBo day we) we)))), (m9, .inl (cI, 3, .inl (enN day co nw2)))] H := hP
            have hD : va_D A [(mo, .inr (6, [.int th, .int (nI nb), .int (nI nq), .int (nI nr), .ref m4, .ref m5, .ref m6, .ref m7, .ref m8, .ref m9])), (m4, .inl (cI, 9, .inl (Q 0))), (m5, .inl (cI, 20, .inl (enR Q2))), (m6, .inl (cI, 24, .inl (enP (pk Q2 7 (gM nq (fun j => gLose (Q2 6 j) (Q2 7 j)) (Q2 7)))))), (m7, .inl (cI, 300, .inl (enS (pk Q2 13 st)))), (m8, .inl (cI, 6, .inl (enB ca (gM i (gBo day we) we)))), (m9, .inl (cI, 3, .inl (enN day co nw2)))] := hD
            have hl : lv_has ls 3 [(2, .int (nI i)), (1, .int lf), (0, .ref mo)] := hl
            have hin : i + kr = nr := hin
            have ih111 := ih
            refine lv_iload_n hx hb dX6_dayOn_111 rfl (lv_at hl 0 rfl) ?_
            refine lv_aload_n hx hb dX6_dayOn_112 rfl (lv_at hl 2 rfl) ?_
            refine va_get (D := D) (ci := 6) (v := .int (nI nr)) (C := RX6) (T := TX6) (N := 10) hx hb hts wc_X6_dayOn_X6 hown hK hP 0 rfl rfl 3 (by decide) (hts _ wd_X6_dayOn_3) (fun _ h9 => h9) rfl dX6_dayOn_113 ?_
            refine lv_icmp_ge (tgt := 165) hx hb dX6_dayOn_116 (by decide) (fun c => ?_) (fun c => ?_)
            · skip
              have hk0 : kr = 0 := by have := gw_ge (by omega) (by omega) c; omega
              subst hk0
              have hir : i = nr := by omega
              rw [hir] at hP hD
              refine lv_aload_n hx hb dX6_dayOn_165 rfl (lv_at hl 2 rfl) ?_
              refine va_get (D := D) (ci := 6) (v := .ref m9) (C := RX6) (T := TX6) (N := 10) hx hb hts wc_X6_dayOn_X6 hown hK hP 0 rfl rfl 9 (by decide) (hts _ wd_X6_dayOn_2) (fun _ h9 => h9) rfl dX6_dayOn_166 ?_
              refine lv_iconst (v := 0) hx hb dX6_dayOn_169 (by decide) ?_
              refine lv_dup2_11 hx hb dX6_dayOn_170 rfl rfl ?_
              refine gw_top (y := nI 0) rfl ?_
              refine gw_iald hx hb hK hP 6 0 (k := 0) rfl rfl (by omega) (by decide) dX6_dayOn_171 ?_
              refine gw_top (y := nI day) rfl ?_
              refine lv_iconst (v := 1) hx hb dX6_dayOn_172 (by decide) ?_
              refine lv_iadd hx hb dX6_dayOn_173 ?_
              refine gw_top (y := nI (day + 1)) (nI_add day 1) ?_
              refine gw_top2 (y := nI 0) rfl ?_
              refine gw_iast hx hb hK hP hD hS 6 0 (k := 0) rfl rfl (by omega) (by decide) dX6_dayOn_174 (fun H locs hP hD hS => ?_)
              have hP : va_P D vwCl [(mo, .inr (6, [.int th, .int (nI nb), .int (nI nq), .int (nI nr), .ref m4, .ref m5, .ref m6, .ref m7, .ref m8, .ref m9])), (m4, .inl (cI, 9, .inl (Q 0))), (m5, .inl (cI, 20, .inl (enR Q2))), (m6, .inl (cI, 24, .inl (enP (pk Q2 7 (gM nq (fun j => gLose (Q2 6 j) (Q2 7 j)) (Q2 7)))))), (m7, .inl (cI, 300, .inl (enS (pk Q2 13 st)))), (m8, .inl (cI, 6, .inl (enB ca (gM nr (gBo day we) we)))), (m9, .inl (cI, 3, .inl (upd (enN day co nw2) 0 (nI (day + 1)))))] H := hP
              have hD : va_D A [(mo, .inr (6, [.int th, .int (nI nb), .int (nI nq), .int (nI nr), .ref m4, .ref m5, .ref m6, .ref m7, .ref m8, .ref m9])), (m4, .inl (cI, 9, .inl (Q 0))), (m5, .inl (cI, 20, .inl (enR Q2))), (m6, .inl (cI, 24, .inl (enP (pk Q2 7 (gM nq (fun j => gLose (Q2 6 j) (Q2 7 j)) (Q2 7)))))), (m7, .inl (cI, 300, .inl (enS (pk Q2 13 st)))), (m8, .inl (cI, 6, .inl (enB ca (gM nr (gBo day we) we)))), (m9, .inl (cI, 3, .inl (upd (enN day co nw2) 0 (nI (day + 1)))))] := hD
              have hw_21 : upd (enN day co nw2) 0 (nI (day + 1)) = enN (day + 1) co nw2 := (enN_0 _ _ _ _)
              rw [hw_21] at hP hD
              subst hAe
              exact W.vret hx hb hr (fun t ht hW => ⟨⟨(), rfl, trivial, (by rw [show gDay Q nq nw day = (gEve Q2 nq nw2 day, nw2) by unfold gDay; rw [hE]]; have hP : va_P D vwCl [(mo, .inr (6, [.int th, .int (nI nb), .int (nI nq), .int (nI nr), .ref m4, .ref m5, .ref m6, .ref m7, .ref m8, .ref m9])), (m4, .inl (cI, 9, .inl (gEve Q2 nq nw2 day 0))), (m5, .inl (cI, 20, .inl (enR (gEve Q2 nq nw2 day)))), (m6, .inl (cI, 24, .inl (enP (gEve Q2 nq nw2 day)))), (m7, .inl (cI, 300, .inl (enS (gEve Q2 nq nw2 day)))), (m8, .inl (cI, 6, .inl (enB ca (gM nr (gBo day we) we)))), (m9, .inl (cI, 3, .inl (enN (day + 1) co nw2)))] H := (by rw [show gEve Q2 nq nw2 day 0 = Q 0 from h0, ← enR_ext (Q := Q2) (Q' := gEve Q2 nq nw2 day) rfl rfl rfl rfl, ← enP_ext (Q := pk Q2 7 (gM nq (fun j => gLose (Q2 6 j) (Q2 7 j)) (Q2 7))) (Q' := gEve Q2 nq nw2 day) rfl rfl rfl rfl, ← enS_ext (Q := pk Q2 13 st) (Q' := gEve Q2 nq nw2 day) rfl rfl (gEve_13 h0 hst) rfl rfl]; exact hP); exact gw_hh ht hP)⟩, hS.F ht⟩) hS.2.2 dX6_dayOn_175
            · skip
              have hi : i < nr := gw_lt (by omega) (by omega) c
              obtain ⟨kr, rfl⟩ : ∃ k2, kr = k2 + 1 := ⟨kr - 1, by omega⟩
              refine lv_aload_n hx hb dX6_dayOn_119 rfl (lv_at hl 2 rfl) ?_
              refine lv_iload_n hx hb dX6_dayOn_120 rfl (lv_at hl 0 rfl) ?_
              refine va_calli (va_runV (As := [.int (nI i)]) (rest := []) ⟨hx, hb, hml, hown, hts⟩ (met_X6_isAway l D cI cZ cL mo m4 m5 m6 m7 m8 m9 th nb nq nr ca (gM i (gBo day we) we) i (by first | assumption | omega)) (cwV 1 hts gX6_dayOn_X6_isAway rfl rfl rfl (by decide +kernel) ⟨Nat.le_of_ble_eq_true rfl, Nat.le_of_ble_eq_true rfl⟩) (gw_pvr hK hP (wc := [(mo, .inr (6, [.int th, .int (nI nb), .int (nI nq), .int (nI nr), .ref m4, .ref m5, .ref m6, .ref m7, .ref m8, .ref m9])), (m8, .inl (cI, 6, .inl (enB ca (gM i (gBo day we) we))))]) [0, 5] rfl 6 rfl rfl rfl) rfl rfl hl.1 rfl (lv_room (Nat.le_of_ble_eq_true rfl)) dX6_dayOn_121 ⟨Nat.zero_le _, Nat.zero_le _⟩) hS (fun _ _ z => z.elim) (fun _ z => z.elim) (fun r_23 _ t H1 locs ht hvm hw hB hz1 hk1 hS => ?_)
              have hP := gw_ro hP hk1
              generalize H1 = H at hP hS ⊢
              rcases hw with ⟨rfl, hcc⟩ | ⟨rfl, hcc⟩
              · skip
                rw [gM_at (Nat.le_refl i)] at hcc
                refine lv_if_eq (tgt := 159) hx hb dX6_dayOn_124 (by decide) (fun c_25 => False.elim (by revert c_25; decide)) (fun _ => ?_)
                refine lv_aload_n hx hb dX6_dayOn_127 rfl (lv_at hl 2 rfl) ?_
                refine va_get (D := D) (ci := 6) (v := .ref m8) (C := RX6) (T := TX6) (N := 10) hx hb hts wc_X6_dayOn_X6 hown hK hP 0 rfl rfl 8 (by decide) (hts _ wd_X6_dayOn_4) (fun _ h9 => h9) rfl dX6_dayOn_128 ?_
                refine lv_iconst (v := 2) hx hb dX6_dayOn_131 (by decide) ?_
                refine lv_iload_n hx hb dX6_dayOn_132 rfl (lv_at hl 0 rfl) ?_
                refine lv_imul hx hb dX6_dayOn_133 ?_
                refine gw_top (y := nI (2 * i)) (nI_mul 2 i) ?_
                refine lv_iconst (v := 1) hx hb dX6_dayOn_134 (by decide) ?_
                refine lv_iadd hx hb dX6_dayOn_135 ?_
                refine gw_top (y := nI ((2 * i) + 1)) (nI_add (2 * i) 1) ?_
                refine gw_iald hx hb hK hP 5 0 (k := (2 * i) + 1) rfl rfl (by omega) (by decide) dX6_dayOn_136 ?_
                refine gw_top (y := we i) ((enB_1 _ _ i).trans (gM_at (Nat.le_refl i))) ?_
                refine lv_aload_n hx hb dX6_dayOn_137 rfl (lv_at hl 2 rfl) ?_
                refine va_get (D := D) (ci := 6) (v := .ref m9) (C := RX6) (T := TX6) (N := 10) hx hb hts wc_X6_dayOn_X6 hown hK hP 0 rfl rfl 9 (by decide) (hts _ wd_X6_dayOn_2) (fun _ h9 => h9) rfl dX6_dayOn_138 ?_
                refine lv_iconst (v := 0) hx hb dX6_dayOn_141 (by decide) ?_
                refine gw_top (y := nI 0) rfl ?_
                refine gw_iald hx hb hK hP 6 0 (k := 0) rfl rfl (by omega) (by decide) dX6_dayOn_142 ?_
                refine gw_top (y := nI day) rfl ?_
                refine lv_iconst (v := 3) hx hb dX6_dayOn_143 (by decide) ?_
                refine lv_isub hx hb dX6_dayOn_144 ?_
                refine lv_icmp_ne (tgt := 159) hx hb dX6_dayOn_145 (by decide) (fun c5 => ?_) (fun c5 => ?_)
                · skip
                  refine lv_iinc (v := nI (i + 1)) (lv' := [(2, .int (nI (i + 1))), (1, .int lf), (0, .ref mo)]) hx hb dX6_dayOn_159 hl (k := 0) rfl (nI_add i 1) (by decide) rfl (fun ls hl => ?_)
                  refine lv_goto (tgt := 111) hx hb dX6_dayOn_162 (by decide) ?_
                  have hw : enB ca (gM i (gBo day we) we) = enB ca (gM (i + 1) (gBo day we) we) := congrArg (enB ca) (gM_k (by unfold gBo; first | (rw [if_pos hcc]; done) | (rw [if_neg hcc, if_neg c5]; done)))
                  rw [hw] at hP hD
                  exact ih111 (kr, i + 1) H locs ls (by dsimp only; omega) ⟨hP, hD, hS, lv_sub hl [0, 1, 2] rfl, (by omega)⟩
                · skip
                  refine lv_aload_n hx hb dX6_dayOn_148 rfl (lv_at hl 2 rfl) ?_
                  refine va_get (D := D) (ci := 6) (v := .ref m8) (C := RX6) (T := TX6) (N := 10) hx hb hts wc_X6_dayOn_X6 hown hK hP 0 rfl rfl 8 (by decide) (hts _ wd_X6_dayOn_4) (fun _ h9 => h9) rfl dX6_dayOn_149 ?_
                  refine lv_iconst (v := 2) hx hb dX6_dayOn_152 (by decide) ?_
                  refine lv_iload_n hx hb dX6_dayOn_153 rfl (lv_at hl 0 rfl) ?_
                  refine lv_imul hx hb dX6_dayOn_154 ?_
                  refine gw_top (y := nI (2 * i)) (nI_mul 2 i) ?_
                  refine lv_iconst (v := 1) hx hb dX6_dayOn_155 (by decide) ?_
                  refine lv_iadd hx hb dX6_dayOn_156 ?_
                  refine gw_top (y := nI ((2 * i) + 1)) (nI_add (2 * i) 1) ?_
                  refine lv_iconst (v := (-1)) hx hb dX6_dayOn_157 (by decide) ?_
                  refine gw_iast hx hb hK hP hD hS 5 0 (k := (2 * i) + 1) rfl rfl (by omega) (by decide) dX6_dayOn_158 (fun H locs hP hD hS => ?_)
                  have hP : va_P D vwCl [(mo, .inr (6, [.int th, .int (nI nb), .int (nI nq), .int (nI nr), .ref m4, .ref m5, .ref m6, .ref m7, .ref m8, .ref m9])), (m4, .inl (cI, 9, .inl (Q 0))), (m5, .inl (cI, 20, .inl (enR Q2))), (m6, .inl (cI, 24, .inl (enP (pk Q2 7 (gM nq (fun j => gLose (Q2 6 j) (Q2 7 j)) (Q2 7)))))), (m7, .inl (cI, 300, .inl (enS (pk Q2 13 st)))), (m8, .inl (cI, 6, .inl (upd (enB ca (gM i (gBo day we) we)) ((2 * i) + 1) (-1)))), (m9, .inl (cI, 3, .inl (enN day co nw2)))] H := hP
                  have hD : va_D A [(mo, .inr (6, [.int th, .int (nI nb), .int (nI nq), .int (nI nr), .ref m4, .ref m5, .ref m6, .ref m7, .ref m8, .ref m9])), (m4, .inl (cI, 9, .inl (Q 0))), (m5, .inl (cI, 20, .inl (enR Q2))), (m6, .inl (cI, 24, .inl (enP (pk Q2 7 (gM nq (fun j => gLose (Q2 6 j) (Q2 7 j)) (Q2 7)))))), (m7, .inl (cI, 300, .inl (enS (pk Q2 13 st)))), (m8, .inl (cI, 6, .inl (upd (enB ca (gM i (gBo day we) we)) ((2 * i) + 1) (-1)))), (m9, .inl (cI, 3, .inl (enN day co nw2)))] := hD
                  refine lv_iinc (v := nI (i + 1)) (lv' := [(2, .int (nI (i + 1))), (1, .int lf), (0, .ref mo)]) hx hb dX6_dayOn_159 hl (k := 0) rfl (nI_add i 1) (by decide) rfl (fun ls hl => ?_)
                  refine lv_goto (tgt := 111) hx hb dX6_dayOn_162 (by decide) ?_
                  have hw : upd (enB ca (gM i (gBo day we) we)) ((2 * i) + 1) (-1) = enB ca (gM (i + 1) (gBo day we) we) := (enB_p1 _ _ i _).trans (congrArg (enB ca) (gM_s (by unfold gBo; rw [if_neg hcc, if_pos c5])))
                  rw [hw] at hP hD
                  exact ih111 (kr, i + 1) H locs ls (by dsimp only; omega) ⟨hP, hD, hS, lv_sub hl [0, 1, 2] rfl, (by omega)⟩
              · skip
                rw [gM_at (Nat.le_refl i)] at hcc
                have hcc := Decidable.not_not.mp hcc
                refine lv_if_eq (tgt := 159) hx hb dX6_dayOn_124 (by decide) (fun _ => ?_) (fun c_27 => False.elim (by revert c_27; decide))
                refine lv_iinc (v := nI (i + 1)) (lv' := [(2, .int (nI (i + 1))), (1, .int lf), (0, .ref mo)]) hx hb dX6_dayOn_159 hl (k := 0) rfl (nI_add i 1) (by decide) rfl (fun ls hl => ?_)
                refine lv_goto (tgt := 111) hx hb dX6_dayOn_162 (by decide) ?_
                have hw : enB ca (gM i (gBo day we) we) = enB ca (gM (i + 1) (gBo day we) we) := congrArg (enB ca) (gM_k (by unfold gBo; first | (rw [if_pos hcc]; done) | (rw [if_neg hcc, if_neg c5]; done)))
                rw [hw] at hP hD
                exact ih111 (kr, i + 1) H locs ls (by dsimp only; omega) ⟨hP, hD, hS, lv_sub hl [0, 1, 2] rfl, (by omega)⟩
          · skip
            refine lv_aload_n hx hb dX6_dayOn_77 rfl (lv_at hl 2 rfl) ?_
            refine lv_iload_n hx hb dX6_dayOn_78 rfl (lv_at hl 0 rfl) ?_
            refine lv_iconst (v := 2) hx hb dX6_dayOn_79 (by decide) ?_
            refine va_calli (va_runV (As := [.int (nI i), .int 2]) (rest := []) ⟨hx, hb, hml, hown, hts⟩ (met_X6_st l D cI cZ cL mo m4 m5 m6 m7 m8 m9 th nb nq nr (enS (pk Q2 13 st)) i 2 (by first | assumption | omega) (by first | assumption | omega)) (cwV 2 hts gX6_dayOn_X6_st rfl rfl rfl (by decide +kernel) ⟨Nat.le_of_ble_eq_true rfl, Nat.le_of_ble_eq_true rfl⟩) (gw_pvr hK hP (wc := [(mo, .inr (6, [.int th, .int (nI nb), .int (nI nq), .int (nI nr), .ref m4, .ref m5, .ref m6, .ref m7, .ref m8, .ref m9])), (m7, .inl (cI, 300, .inl (enS (pk Q2 13 st))))]) [0, 4] rfl 6 rfl rfl rfl) rfl rfl hl.1 rfl (lv_room (Nat.le_of_ble_eq_true rfl)) dX6_dayOn_80 ⟨Nat.zero_le _, Nat.zero_le _⟩) hS (fun _ _ z => z.elim) (fun _ z => z.elim) (fun r_29 _ t H1 locs ht hvm hw hB hz1 hk1 hS => ?_)
            have hP := gw_ro hP hk1
            generalize H1 = H at hP hS ⊢
            subst hw
            refine gw_top (y := (pk Q2 13 st) 13 i) (enS_2 (pk Q2 13 st) i) ?_
            refine lv_if_eq (tgt := 89) hx hb dX6_dayOn_83 (by decide) (fun c3 => ?_) (fun c3 => ?_)
            · skip
              have c3 : st i = 0 := c3
              refine lv_aload_n hx hb dX6_dayOn_89 rfl (lv_at hl 2 rfl) ?_
              refine va_get (D := D) (ci := 6) (v := .ref m7) (C := RX6) (T := TX6) (N := 10) hx hb hts wc_X6_dayOn_X6 hown hK hP 0 rfl rfl 7 (by decide) (hts _ wd_X6_dayOn_5) (fun _ h9 => h9) rfl dX6_dayOn_90 ?_
              refine lv_iconst (v := 5) hx hb dX6_dayOn_93 (by decide) ?_
              refine lv_iload_n hx hb dX6_dayOn_94 rfl (lv_at hl 0 rfl) ?_
              refine lv_imul hx hb dX6_dayOn_95 ?_
              refine gw_top (y := nI (5 * i)) (nI_mul 5 i) ?_
              refine lv_iconst (v := 2) hx hb dX6_dayOn_96 (by decide) ?_
              refine lv_iadd hx hb dX6_dayOn_97 ?_
              refine gw_top (y := nI ((5 * i) + 2)) (nI_add (5 * i) 2) ?_
              refine lv_iconst (v := 1) hx hb dX6_dayOn_98 (by decide) ?_
              refine gw_iast hx hb hK hP hD hS 4 0 (k := (5 * i) + 2) rfl rfl (by omega) (by decide) dX6_dayOn_99 (fun H locs hP hD hS => ?_)
              have hP : va_P D vwCl [(mo, .inr (6, [.int th, .int (nI nb), .int (nI nq), .int (nI nr), .ref m4, .ref m5, .ref m6, .ref m7, .ref m8, .ref m9])), (m4, .inl (cI, 9, .inl (Q 0))), (m5, .inl (cI, 20, .inl (enR Q2))), (m6, .inl (cI, 24, .inl (enP (pk Q2 7 (gM nq (fun j => gLose (Q2 6 j) (Q2 7 j)) (Q2 7)))))), (m7, .inl (cI, 300, .inl (upd (enS (pk Q2 13 st)) ((5 * i) + 2) 1))), (m8, .inl (cI, 6, .inl (enB ca we))), (m9, .inl (cI, 3, .inl (enN day co nw2)))] H := hP
              have hD : va_D A [(mo, .inr (6, [.int th, .int (nI nb), .int (nI nq), .int (nI nr), .ref m4, .ref m5, .ref m6, .ref m7, .ref m8, .ref m9])), (m4, .inl (cI, 9, .inl (Q 0))), (m5, .inl (cI, 20, .inl (enR Q2))), (m6, .inl (cI, 24, .inl (enP (pk Q2 7 (gM nq (fun j => gLose (Q2 6 j) (Q2 7 j)) (Q2 7)))))), (m7, .inl (cI, 300, .inl (upd (enS (pk Q2 13 st)) ((5 * i) + 2) 1))), (m8, .inl (cI, 6, .inl (enB ca we))), (m9, .inl (cI, 3, .inl (enN day co nw2)))] := hD
              refine lv_iinc (v := lf - 1) (lv' := [(1, .int (lf - 1)), (2, .int (nI i)), (0, .ref mo)]) hx hb dX6_dayOn_100 hl (k := 1) rfl (by rw [Int32.sub_eq_add_neg]; rfl) (by decide) rfl (fun ls hl => ?_)
              refine lv_iinc (v := nI (i + 1)) (lv' := [(2, .int (nI (i + 1))), (1, .int (lf - 1)), (0, .ref mo)]) hx hb dX6_dayOn_103 hl (k := 1) rfl (nI_add i 1) (by decide) rfl (fun ls hl => ?_)
              refine lv_goto (tgt := 63) hx hb dX6_dayOn_106 (by decide) ?_
              have hw : upd (enS (pk Q2 13 st)) ((5 * i) + 2) 1 = enS (pk Q2 13 (upd st i 1)) := (enS_p _ i 2 _ (by decide)).trans (enS_ext rfl rfl rfl rfl rfl)
              rw [hw] at hP hD
              exact ih63 (kw, i + 1, lf - 1, upd st i 1) H locs ls (by dsimp only; omega) ⟨hP, hD, hS, lv_sub hl [0, 1, 2] rfl, (by omega), (by rw [← hG]; simp [gDress, c2, c3])⟩
            · skip
              have c3 : ¬ st i = 0 := c3
              refine lv_goto (tgt := 103) hx hb dX6_dayOn_86 (by decide) ?_
              refine lv_iinc (v := nI (i + 1)) (lv' := [(2, .int (nI (i + 1))), (1, .int lf), (0, .ref mo)]) hx hb dX6_dayOn_103 hl (k := 0) rfl (nI_add i 1) (by decide) rfl (fun ls hl => ?_)
              refine lv_goto (tgt := 63) hx hb dX6_dayOn_106 (by decide) ?_
              exact ih63 (kw, i + 1, lf, st) H locs ls (by dsimp only; omega) ⟨hP, hD, hS, lv_sub hl [0, 1, 2] rfl, (by omega), (by rw [← hG]; simp [gDress, c2, c3])⟩
      · skip
        refine lv_aload_n hx hb dX6_dayOn_50 rfl (lv_at hl 1 rfl) ?_
        refine va_calli (va_runV (As := []) (rest := []) ⟨hx, hb, hml, hown, hts⟩ (met_X6_water l D cI cZ cL mo m4 m5 m6 m7 m8 m9 th nb nq nr Q day co nw2 (by first | assumption | omega)) (cwV 0 hts gX6_dayOn_X6_water rfl rfl rfl (by decide +kernel) ⟨Nat.le_of_ble_eq_true rfl, Nat.le_of_ble_eq_true rfl⟩) (gw_pvr hK hP (wc := [(mo, .inr (6, [.int th, .int (nI nb), .int (nI nq), .int (nI nr), .ref m4, .ref m5, .ref m6, .ref m7, .ref m8, .ref m9])), (m4, .inl (cI, 9, .inl (Q 0))), (m9, .inl (cI, 3, .inl (enN day co nw2)))]) [0, 1, 6] rfl 6 rfl rfl rfl) rfl rfl hl.1 rfl (lv_room (Nat.le_of_ble_eq_true rfl)) dX6_dayOn_51 ⟨Nat.zero_le _, Nat.zero_le _⟩) hS (fun _ _ z => z.elim) (fun _ z => z.elim) (fun r_32 _ t H1 locs ht hvm hw hB hz1 hk1 hS => ?_)
        have hP := gw_ro hP hk1
        generalize H1 = H at hP hS ⊢
        subst hw
        refine lv_iconst (v := 2) hx hb dX6_dayOn_54 (by decide) ?_
        refine lv_idiv hx hb dX6_dayOn_55 (by decide) ?_
        refine lv_goto (tgt := 60) hx hb dX6_dayOn_56 (by decide) ?_
        refine gw_top (y := gDr (Q 0 (day % 9))) (by unfold gDr; first | (rw [if_pos (gw_23.mp cw)]; done) | (rw [if_neg (fun h => gw_23.mpr h cw)]; done)) ?_
        refine lv_istore_n (lv' := [(1, .int (gDr (Q 0 (day % 9)))), (0, .ref mo)]) hx hb dX6_dayOn_60 rfl hl (by decide) rfl (fun ls hl => ?_)
        refine lv_iconst (v := 0) hx hb dX6_dayOn_61 (by decide) ?_
        refine lv_istore_n (lv' := [(2, .int 0), (1, .int (gDr (Q 0 (day % 9)))), (0, .ref mo)]) hx hb dX6_dayOn_62 rfl hl (by decide) rfl (fun ls hl => ?_)
        have hw_33 : enS Q2 = enS (pk Q2 13 (Q2 13)) := (enS_ext rfl rfl rfl rfl rfl)
        rw [hw_33] at hP hD
        refine gw_loop (fun (zz : Nat × Nat × Int32 × (Nat → Int32)) H locs ls => match zz with | (kw, i, lf, st) => va_P D vwCl [(mo, .inr (6, [.int th, .int (nI nb), .int (nI nq), .int (nI nr), .ref m4, .ref m5, .ref m6, .ref m7, .ref m8, .ref m9])), (m4, .inl (cI, 9, .inl (Q 0))), (m5, .inl (cI, 20, .inl (enR Q2))), (m6, .inl (cI, 24, .inl (enP (pk Q2 7 (gM nq (fun j => gLose (Q2 6 j) (Q2 7 j)) (Q2 7)))))), (m7, .inl (cI, 300, .inl (enS (pk Q2 13 st)))), (m8, .inl (cI, 6, .inl (enB ca we))), (m9, .inl (cI, 3, .inl (enN day co nw2)))] H ∧ va_D A [(mo, .inr (6, [.int th, .int (nI nb), .int (nI nq), .int (nI nr), .ref m4, .ref m5, .ref m6, .ref m7, .ref m8, .ref m9])), (m4, .inl (cI, 9, .inl (Q 0))), (m5, .inl (cI, 20, .inl (enR Q2))), (m6, .inl (cI, 24, .inl (enP (pk Q2 7 (gM nq (fun j => gLose (Q2 6 j) (Q2 7 j)) (Q2 7)))))), (m7, .inl (cI, 300, .inl (enS (pk Q2 13 st)))), (m8, .inl (cI, 6, .inl (enB ca we))), (m9, .inl (cI, 3, .inl (enN day co nw2)))] ∧ va_S A s.heap H locs ∧ lv_has ls 3 [(2, .int (nI i)), (1, .int lf), (0, .ref mo)] ∧ (i + kw = nw2) ∧ (gDress kw i lf st = gDress nw2 0 (gDr (Q 0 (day % 9))) (Q2 13))) (fun (zz : Nat × Nat × Int32 × (Nat → Int32)) => match zz with | (kw, i, lf, st) => kw) (nw2, 0, gDr (Q 0 (day % 9)), Q2 13) ⟨hP, hD, hS, lv_sub hl [0, 1, 2] rfl, (by omega), rfl⟩ ?_
        rintro ⟨kw, i, lf, st⟩ ih H locs ls ⟨hP, hD, hS, hl, hin, hG⟩
        have hP : va_P D vwCl [(mo, .inr (6, [.int th, .int (nI nb), .int (nI nq), .int (nI nr), .ref m4, .ref m5, .ref m6, .ref m7, .ref m8, .ref m9])), (m4, .inl (cI, 9, .inl (Q 0))), (m5, .inl (cI, 20, .inl (enR Q2))), (m6, .inl (cI, 24, .inl (enP (pk Q2 7 (gM nq (fun j => gLose (Q2 6 j) (Q2 7 j)) (Q2 7)))))), (m7, .inl (cI, 300, .inl (enS (pk Q2 13 st)))), (m8, .inl (cI, 6, .inl (enB ca we))), (m9, .inl (cI, 3, .inl (enN day co nw2)))] H := hP
        have hD : va_D A [(mo, .inr (6, [.int th, .int (nI nb), .int (nI nq), .int (nI nr), .ref m4, .ref m5, .ref m6, .ref m7, .ref m8, .ref m9])), (m4, .inl (cI, 9, .inl (Q 0))), (m5, .inl (cI, 20, .inl (enR Q2))), (m6, .inl (cI, 24, .inl (enP (pk Q2 7 (gM nq (fun j => gLose (Q2 6 j) (Q2 7 j)) (Q2 7)))))), (m7, .inl (cI, 300, .inl (enS (pk Q2 13 st)))), (m8, .inl (cI, 6, .inl (enB ca we))), (m9, .inl (cI, 3, .inl (enN day co nw2)))] := hD
        have hl : lv_has ls 3 [(2, .int (nI i)), (1, .int lf), (0, .ref mo)] := hl
        have hin : i + kw = nw2 := hin
        have hG : gDress kw i lf st = gDress nw2 0 (gDr (Q 0 (day % 9))) (Q2 13) := hG
        have ih63 := ih
        refine lv_iload_n hx hb dX6_dayOn_63 rfl (lv_at hl 0 rfl) ?_
        refine lv_aload_n hx hb dX6_dayOn_64 rfl (lv_at hl 2 rfl) ?_
        refine va_get (D := D) (ci := 6) (v := .ref m9) (C := RX6) (T := TX6) (N := 10) hx hb hts wc_X6_dayOn_X6 hown hK hP 0 rfl rfl 9 (by decide) (hts _ wd_X6_dayOn_2) (fun _ h9 => h9) rfl dX6_dayOn_65 ?_
        refine lv_iconst (v := 2) hx hb dX6_dayOn_68 (by decide) ?_
        refine gw_top (y := nI 2) rfl ?_
        refine gw_iald hx hb hK hP 6 0 (k := 2) rfl rfl (by omega) (by decide) dX6_dayOn_69 ?_
        refine gw_top (y := nI nw2) rfl ?_
        refine lv_icmp_ge (tgt := 109) hx hb dX6_dayOn_70 (by decide) (fun c => ?_) (fun c => ?_)
        · skip
          have hk0 : kw = 0 := by have := gw_ge (by omega) (by omega) c; omega
          subst hk0
          have hst : st = gDress nw2 0 (gDr (Q 0 (day % 9))) (Q2 13) := hG
          refine lv_iconst (v := 0) hx hb dX6_dayOn_109 (by decide) ?_
          refine lv_istore_n (lv' := [(2, .int 0), (1, .int lf), (0, .ref mo)]) hx hb dX6_dayOn_110 rfl hl (by decide) rfl (fun ls hl => ?_)
          have hw_35 : enB ca we = enB ca (gM 0 (gBo day we) we) := (by rw [gM_0])
          rw [hw_35] at hP hD
          refine gw_loop (fun (zz : Nat × Nat) H locs ls => match zz with | (kr, i) => va_P D vwCl [(mo, .inr (6, [.int th, .int (nI nb), .int (nI nq), .int (nI nr), .ref m4, .ref m5, .ref m6, .ref m7, .ref m8, .ref m9])), (m4, .inl (cI, 9, .inl (Q 0))), (m5, .inl (cI, 20, .inl (enR Q2))), (m6, .inl (cI, 24, .inl (enP (pk Q2 7 (gM nq (fun j => gLose (Q2 6 j) (Q2 7 j)) (Q2 7)))))), (m7, .inl (cI, 300, .inl (enS (pk Q2 13 st)))), (m8, .inl (cI, 6, .inl (enB ca (gM i (gBo day we) we)))), (m9, .inl (cI, 3, .inl (enN day co nw2)))] H ∧ va_D A [(mo, .inr (6, [.int th, .int (nI nb), .int (nI nq), .int (nI nr), .ref m4, .ref m5, .ref m6, .ref m7, .ref m8, .ref m9])), (m4, .inl (cI, 9, .inl (Q 0))), (m5, .inl (cI, 20, .inl (enR Q2))), (m6, .inl (cI, 24, .inl (enP (pk Q2 7 (gM nq (fun j => gLose (Q2 6 j) (Q2 7 j)) (Q2 7)))))), (m7, .inl (cI, 300, .inl (enS (pk Q2 13 st)))), (m8, .inl (cI, 6, .inl (enB ca (gM i (gBo day we) we)))), (m9, .inl (cI, 3, .inl (enN day co nw2)))] ∧ va_S A s.heap H locs ∧ lv_has ls 3 [(2, .int (nI i)), (1, .int lf), (0, .ref mo)] ∧ (i + kr = nr)) (fun (zz : Nat × Nat) => match zz with | (kr, i) => kr) (nr, 0) ⟨hP, hD, hS, lv_sub hl [0, 1, 2] rfl, (by omega)⟩ ?_
          rintro ⟨kr, i⟩ ih H locs ls ⟨hP, hD, hS, hl, hin⟩
          have hP : va_P D vwCl [(mo, .inr (6, [.int th, .int (nI nb), .int (nI nq), .int (nI nr), .ref m4, .ref m5, .ref m6, .ref m7, .ref m8, .ref m9])), (m4, .inl (cI, 9, .inl (Q 0))), (m5, .inl (cI, 20, .inl (enR Q2))), (m6, .inl (cI, 24, .inl (enP (pk Q2 7 (gM nq (fun j => gLose (Q2 6 j) (Q2 7 j)) (Q2 7)))))), (m7, .inl (cI, 300, .inl (enS (pk Q2 13 st)))), (m8, .inl (cI, 6, .inl (enB ca (gM i (gBo day we) we)))), (m9, .inl (cI, 3, .inl (enN day co nw2)))] H := hP
          have hD : va_D A [(mo, .inr (6, [.int th, .int (nI nb), .int (nI nq), .int (nI nr), .ref m4, .ref m5, .ref m6, .ref m7, .ref m8, .ref m9])), (m4, .inl (cI, 9, .inl (Q 0))), (m5, .inl (cI, 20, .inl (enR Q2))), (m6, .inl (cI, 24, .inl (enP (pk Q2 7 (gM nq (fun j => gLose (Q2 6 j) (Q2 7 j)) (Q2 7)))))), (m7, .inl (cI, 300, .inl (enS (pk Q2 13 st)))), (m8, .inl (cI, 6, .inl (enB ca (gM i (gBo day we) we)))), (m9, .inl (cI, 3, .inl (enN day co nw2)))] := hD
          have hl : lv_has ls 3 [(2, .int (nI i)), (1, .int lf), (0, .ref mo)] := hl
          have hin : i + kr = nr := hin
          have ih111 := ih
          refine lv_iload_n hx hb dX6_dayOn_111 rfl (lv_at hl 0 rfl) ?_
          refine lv_aload_n hx hb dX6_dayOn_112 rfl (lv_at hl 2 rfl) ?_
          refine va_get (D := D) (ci := 6) (v := .int (nI nr)) (C := RX6) (T := TX6) (N := 10) hx hb hts wc_X6_dayOn_X6 hown hK hP 0 rfl rfl 3 (by decide) (hts _ wd_X6_dayOn_3) (fun _ h9 => h9) rfl dX6_dayOn_113 ?_
          refine lv_icmp_ge (tgt := 165) hx hb dX6_dayOn_116 (by decide) (fun c => ?_) (fun c => ?_)
          · skip
            have hk0 : kr = 0 := by have := gw_ge (by omega) (by omega) c; omega
            subst hk0
            have hir : i = nr := by omega
            rw [hir] at hP hD
            refine lv_aload_n hx hb dX6_dayOn_165 rfl (lv_at hl 2 rfl) ?_
            refine va_get (D := D) (ci := 6) (v := .ref m9) (C := RX6) (T := TX6) (N := 10) hx hb hts wc_X6_dayOn_X6 hown hK hP 0 rfl rfl 9 (by decide) (hts _ wd_X6_dayOn_2) (fun _ h9 => h9) rfl dX6_dayOn_166 ?_
            refine lv_iconst (v := 0) hx hb dX6_dayOn_169 (by decide) ?_
            refine lv_dup2_11 hx hb dX6_dayOn_170 rfl rfl ?_
            refine gw_top (y := nI 0) rfl ?_
            refine gw_iald hx hb hK hP 6 0 (k := 0) rfl rfl (by omega) (by decide) dX6_dayOn_171 ?_
            refine gw_top (y := nI day) rfl ?_
            refine lv_iconst (v := 1) hx hb dX6_dayOn_172 (by decide) ?_
            refine lv_iadd hx hb dX6_dayOn_173 ?_
            refine gw_top (y := nI (day + 1)) (nI_add day 1) ?_
            refine gw_top2 (y := nI 0) rfl ?_
            refine gw_iast hx hb hK hP hD hS 6 0 (k := 0) rfl rfl (by omega) (by decide) dX6_dayOn_174 (fun H locs hP hD hS => ?_)
            have hP : va_P D vwCl [(mo, .inr (6, [.int th, .int (nI nb), .int (nI nq), .int (nI nr), .ref m4, .ref m5, .ref m6, .ref m7, .ref m8, .ref m9])), (m4, .inl (cI, 9, .inl (Q 0))), (m5, .inl (cI, 20, .inl (enR Q2))), (m6, .inl (cI, 24, .inl (enP (pk Q2 7 (gM nq (fun j => gLose (Q2 6 j) (Q2 7 j)) (Q2 7)))))), (m7, .inl (cI, 300, .inl (enS (pk Q2 13 st)))), (m8, .inl (cI, 6, .inl (enB ca (gM nr (gBo day we) we)))), (m9, .inl (cI, 3, .inl (upd (enN day co nw2) 0 (nI (day + 1)))))] H := hP
            have hD : va_D A [(mo, .inr (6, [.int th, .int (nI nb), .int (nI nq), .int (nI nr), .ref m4, .ref m5, .ref m6, .ref m7, .ref m8, .ref m9])), (m4, .inl (cI, 9, .inl (Q 0))), (m5, .inl (cI, 20, .inl (enR Q2))), (m6, .inl (cI, 24, .inl (enP (pk Q2 7 (gM nq (fun j => gLose (Q2 6 j) (Q2 7 j)) (Q2 7)))))), (m7, .inl (cI, 300, .inl (enS (pk Q2 13 st)))), (m8, .inl (cI, 6, .inl (enB ca (gM nr (gBo day we) we)))), (m9, .inl (cI, 3, .inl (upd (enN day co nw2) 0 (nI (day + 1)))))] := hD
            have hw_37 : upd (enN day co nw2) 0 (nI (day + 1)) = enN (day + 1) co nw2 := (enN_0 _ _ _ _)
            rw [hw_37] at hP hD
            subst hAe
            exact W.vret hx hb hr (fun t ht hW => ⟨⟨(), rfl, trivial, (by rw [show gDay Q nq nw day = (gEve Q2 nq nw2 day, nw2) by unfold gDay; rw [hE]]; have hP : va_P D vwCl [(mo, .inr (6, [.int th, .int (nI nb), .int (nI nq), .int (nI nr), .ref m4, .ref m5, .ref m6, .ref m7, .ref m8, .ref m9])), (m4, .inl (cI, 9, .inl (gEve Q2 nq nw2 day 0))), (m5, .inl (cI, 20, .inl (enR (gEve Q2 nq nw2 day)))), (m6, .inl (cI, 24, .inl (enP (gEve Q2 nq nw2 day)))), (m7, .inl (cI, 300, .inl (enS (gEve Q2 nq nw2 day)))), (m8, .inl (cI, 6, .inl (enB ca (gM nr (gBo day we) we)))), (m9, .inl (cI, 3, .inl (enN (day + 1) co nw2)))] H := (by rw [show gEve Q2 nq nw2 day 0 = Q 0 from h0, ← enR_ext (Q := Q2) (Q' := gEve Q2 nq nw2 day) rfl rfl rfl rfl, ← enP_ext (Q := pk Q2 7 (gM nq (fun j => gLose (Q2 6 j) (Q2 7 j)) (Q2 7))) (Q' := gEve Q2 nq nw2 day) rfl rfl rfl rfl, ← enS_ext (Q := pk Q2 13 st) (Q' := gEve Q2 nq nw2 day) rfl rfl (gEve_13 h0 hst) rfl rfl]; exact hP); exact gw_hh ht hP)⟩, hS.F ht⟩) hS.2.2 dX6_dayOn_175
          · skip
            have hi : i < nr := gw_lt (by omega) (by omega) c
            obtain ⟨kr, rfl⟩ : ∃ k2, kr = k2 + 1 := ⟨kr - 1, by omega⟩
            refine lv_aload_n hx hb dX6_dayOn_119 rfl (lv_at hl 2 rfl) ?_
            refine lv_iload_n hx hb dX6_dayOn_120 rfl (lv_at hl 0 rfl) ?_
            refine va_calli (va_runV (As := [.int (nI i)]) (rest := []) ⟨hx, hb, hml, hown, hts⟩ (met_X6_isAway l D cI cZ cL mo m4 m5 m6 m7 m8 m9 th nb nq nr ca (gM i (gBo day we) we) i (by first | assumption | omega)) (cwV 1 hts gX6_dayOn_X6_isAway rfl rfl rfl (by decide +kernel) ⟨Nat.le_of_ble_eq_true rfl, Nat.le_of_ble_eq_true rfl⟩) (gw_pvr hK hP (wc := [(mo, .inr (6, [.int th, .int (nI nb), .int (nI nq), .int (nI nr), .ref m4, .ref m5, .ref m6, .ref m7, .ref m8, .ref m9])), (m8, .inl (cI, 6, .inl (enB ca (gM i (gBo day we) we))))]) [0, 5] rfl 6 rfl rfl rfl) rfl rfl hl.1 rfl (lv_room (Nat.le_of_ble_eq_true rfl)) dX6_dayOn_121 ⟨Nat.zero_le _, Nat.zero_le _⟩) hS (fun _ _ z => z.elim) (fun _ z => z.elim) (fun r_39 _ t H1 locs ht hvm hw hB hz1 hk1 hS => ?_)
            have hP := gw_ro hP hk1
            generalize H1 = H at hP hS ⊢
            rcases hw with ⟨rfl, hcc⟩ | ⟨rfl, hcc⟩
            · skip
              rw [gM_at (Nat.le_refl i)] at hcc
              refine lv_if_eq (tgt := 159) hx hb dX6_dayOn_124 (by decide) (fun c_41 => False.elim (by revert c_41; decide)) (fun _ => ?_)
              refine lv_aload_n hx hb dX6_dayOn_127 rfl (lv_at hl 2 rfl) ?_
              refine va_get (D := D) (ci := 6) (v := .ref m8) (C := RX6) (T := TX6) (N := 10) hx hb hts wc_X6_dayOn_X6 hown hK hP 0 rfl rfl 8 (by decide) (hts _ wd_X6_dayOn_4) (fun _ h9 => h9) rfl dX6_dayOn_128 ?_
              refine lv_iconst (v := 2) hx hb dX6_dayOn_131 (by decide) ?_
              refine lv_iload_n hx hb dX6_dayOn_132 rfl (lv_at hl 0 rfl) ?_
              refine lv_imul hx hb dX6_dayOn_133 ?_
              refine gw_top (y := nI (2 * i)) (nI_mul 2 i) ?_
              refine lv_iconst (v := 1) hx hb dX6_dayOn_134 (by decide) ?_
              refine lv_iadd hx hb dX6_dayOn_135 ?_
              refine gw_top (y := nI ((2 * i) + 1)) (nI_add (2 * i) 1) ?_
              refine gw_iald hx hb hK hP 5 0 (k := (2 * i) + 1) rfl rfl (by omega) (by decide) dX6_dayOn_136 ?_
              refine gw_top (y := we i) ((enB_1 _ _ i).trans (gM_at (Nat.le_refl i))) ?_
              refine lv_aload_n hx hb dX6_dayOn_137 rfl (lv_at hl 2 rfl) ?_
              refine va_get (D := D) (ci := 6) (v := .ref m9) (C := RX6) (T := TX6) (N := 10) hx hb hts wc_X6_dayOn_X6 hown hK hP 0 rfl rfl 9 (by decide) (hts _ wd_X6_dayOn_2) (fun _ h9 => h9) rfl dX6_dayOn_138 ?_
              refine lv_iconst (v := 0) hx hb dX6_dayOn_141 (by decide) ?_
              refine gw_top (y := nI 0) rfl ?_
              refine gw_iald hx hb hK hP 6 0 (k := 0) rfl rfl (by omega) (by decide) dX6_dayOn_142 ?_
              refine gw_top (y := nI day) rfl ?_
              refine lv_iconst (v := 3) hx hb dX6_dayOn_143 (by decide) ?_
              refine lv_isub hx hb dX6_dayOn_144 ?_
              refine lv_icmp_ne (tgt := 159) hx hb dX6_dayOn_145 (by decide) (fun c5 => ?_) (fun c5 => ?_)
              · skip
                refine lv_iinc (v := nI (i + 1)) (lv' := [(2, .int (nI (i + 1))), (1, .int lf), (0, .ref mo)]) hx hb dX6_dayOn_159 hl (k := 0) rfl (nI_add i 1) (by decide) rfl (fun ls hl => ?_)
                refine lv_goto (tgt := 111) hx hb dX6_dayOn_162 (by decide) ?_
                have hw : enB ca (gM i (gBo day we) we) = enB ca (gM (i + 1) (gBo day we) we) := congrArg (enB ca) (gM_k (by unfold gBo; first | (rw [if_pos hcc]; done) | (rw [if_neg hcc, if_neg c5]; done)))
                rw [hw] at hP hD
                exact ih111 (kr, i + 1) H locs ls (by dsimp only; omega) ⟨hP, hD, hS, lv_sub hl [0, 1, 2] rfl, (by omega)⟩
              · skip
                refine lv_aload_n hx hb dX6_dayOn_148 rfl (lv_at hl 2 rfl) ?_
                refine va_get (D := D) (ci := 6) (v := .ref m8) (C := RX6) (T := TX6) (N := 10) hx hb hts wc_X6_dayOn_X6 hown hK hP 0 rfl rfl 8 (by decide) (hts _ wd_X6_dayOn_4) (fun _ h9 => h9) rfl dX6_dayOn_149 ?_
                refine lv_iconst (v := 2) hx hb dX6_dayOn_152 (by decide) ?_
                refine lv_iload_n hx hb dX6_dayOn_153 rfl (lv_at hl 0 rfl) ?_
                refine lv_imul hx hb dX6_dayOn_154 ?_
                refine gw_top (y := nI (2 * i)) (nI_mul 2 i) ?_
                refine lv_iconst (v := 1) hx hb dX6_dayOn_155 (by decide) ?_
                refine lv_iadd hx hb dX6_dayOn_156 ?_
                refine gw_top (y := nI ((2 * i) + 1)) (nI_add (2 * i) 1) ?_
                refine lv_iconst (v := (-1)) hx hb dX6_dayOn_157 (by decide) ?_
                refine gw_iast hx hb hK hP hD hS 5 0 (k := (2 * i) + 1) rfl rfl (by omega) (by decide) dX6_dayOn_158 (fun H locs hP hD hS => ?_)
                have hP : va_P D vwCl [(mo, .inr (6, [.int th, .int (nI nb), .int (nI nq), .int (nI nr), .ref m4, .ref m5, .ref m6, .ref m7, .ref m8, .ref m9])), (m4, .inl (cI, 9, .inl (Q 0))), (m5, .inl (cI, 20, .inl (enR Q2))), (m6, .inl (cI, 24, .inl (enP (pk Q2 7 (gM nq (fun j => gLose (Q2 6 j) (Q2 7 j)) (Q2 7)))))), (m7, .inl (cI, 300, .inl (enS (pk Q2 13 st)))), (m8, .inl (cI, 6, .inl (upd (enB ca (gM i (gBo day we) we)) ((2 * i) + 1) (-1)))), (m9, .inl (cI, 3, .inl (enN day co nw2)))] H := hP
                have hD : va_D A [(mo, .inr (6, [.int th, .int (nI nb), .int (nI nq), .int (nI nr), .ref m4, .ref m5, .ref m6, .ref m7, .ref m8, .ref m9])), (m4, .inl (cI, 9, .inl (Q 0))), (m5, .inl (cI, 20, .inl (enR Q2))), (m6, .inl (cI, 24, .inl (enP (pk Q2 7 (gM nq (fun j => gLose (Q2 6 j) (Q2 7 j)) (Q2 7)))))), (m7, .inl (cI, 300, .inl (enS (pk Q2 13 st)))), (m8, .inl (cI, 6, .inl (upd (enB ca (gM i (gBo day we) we)) ((2 * i) + 1) (-1)))), (m9, .inl (cI, 3, .inl (enN day co nw2)))] := hD
                refine lv_iinc (v := nI (i + 1)) (lv' := [(2, .int (nI (i + 1))), (1, .int lf), (0, .ref mo)]) hx hb dX6_dayOn_159 hl (k := 0) rfl (nI_add i 1) (by decide) rfl (fun ls hl => ?_)
                refine lv_goto (tgt := 111) hx hb dX6_dayOn_162 (by decide) ?_
                have hw : upd (enB ca (gM i (gBo day we) we)) ((2 * i) + 1) (-1) = enB ca (gM (i + 1) (gBo day we) we) := (enB_p1 _ _ i _).trans (congrArg (enB ca) (gM_s (by unfold gBo; rw [if_neg hcc, if_pos c5])))
                rw [hw] at hP hD
                exact ih111 (kr, i + 1) H locs ls (by dsimp only; omega) ⟨hP, hD, hS, lv_sub hl [0, 1, 2] rfl, (by omega)⟩
            · skip
              rw [gM_at (Nat.le_refl i)] at hcc
              have hcc := Decidable.not_not.mp hcc
              refine lv_if_eq (tgt := 159) hx hb dX6_dayOn_124 (by decide) (fun _ => ?_) (fun c_43 => False.elim (by revert c_43; decide))
              refine lv_iinc (v := nI (i + 1)) (lv' := [(2, .int (nI (i + 1))), (1, .int lf), (0, .ref mo)]) hx hb dX6_dayOn_159 hl (k := 0) rfl (nI_add i 1) (by decide) rfl (fun ls hl => ?_)
              refine lv_goto (tgt := 111) hx hb dX6_dayOn_162 (by decide) ?_
              have hw : enB ca (gM i (gBo day we) we) = enB ca (gM (i + 1) (gBo day we) we) := congrArg (enB ca) (gM_k (by unfold gBo; first | (rw [if_pos hcc]; done) | (rw [if_neg hcc, if_neg c5]; done)))
              rw [hw] at hP hD
              exact ih111 (kr, i + 1) H locs ls (by dsimp only; omega) ⟨hP, hD, hS, lv_sub hl [0, 1, 2] rfl, (by omega)⟩
        · skip
          have hi : i < nw2 := gw_lt (by omega) (by omega) c
          obtain ⟨kw, rfl⟩ : ∃ k2, kw = k2 + 1 := ⟨kw - 1, by omega⟩
          refine lv_iload_n hx hb dX6_dayOn_73 rfl (lv_at hl 1 rfl) ?_
          refine lv_if_le (tgt := 109) hx hb dX6_dayOn_74 (by decide) (fun c2 => ?_) (fun c2 => ?_)
          · skip
            have hst : st = gDress nw2 0 (gDr (Q 0 (day % 9))) (Q2 13) := by rw [← hG]; simp [gDress, c2]
            refine lv_iconst (v := 0) hx hb dX6_dayOn_109 (by decide) ?_
            refine lv_istore_n (lv' := [(2, .int 0), (1, .int lf), (0, .ref mo)]) hx hb dX6_dayOn_110 rfl hl (by decide) rfl (fun ls hl => ?_)
            have hw_45 : enB ca we = enB ca (gM 0 (gBo day we) we) := (by rw [gM_0])
            rw [hw_45] at hP hD
            refine gw_loop (fun (zz : Nat × Nat) H locs ls => match zz with | (kr, i) => va_P D vwCl [(mo, .inr (6, [.int th, .int (nI nb), .int (nI nq), .int (nI nr), .ref m4, .ref m5, .ref m6, .ref m7, .ref m8, .ref m9])), (m4, .inl (cI, 9, .inl (Q 0))), (m5, .inl (cI, 20, .inl (enR Q2))), (m6, .inl (cI, 24, .inl (enP (pk Q2 7 (gM nq (fun j => gLose (Q2 6 j) (Q2 7 j)) (Q2 7)))))), (m7, .inl (cI, 300, .inl (enS (pk Q2 13 st)))), (m8, .inl (cI, 6, .inl (enB ca (gM i (gBo day we) we)))), (m9, .inl (cI, 3, .inl (enN day co nw2)))] H ∧ va_D A [(mo, .inr (6, [.int th, .int (nI nb), .int (nI nq), .int (nI nr), .ref m4, .ref m5, .ref m6, .ref m7, .ref m8, .ref m9])), (m4, .inl (cI, 9, .inl (Q 0))), (m5, .inl (cI, 20, .inl (enR Q2))), (m6, .inl (cI, 24, .inl (enP (pk Q2 7 (gM nq (fun j => gLose (Q2 6 j) (Q2 7 j)) (Q2 7)))))), (m7, .inl (cI, 300, .inl (enS (pk Q2 13 st)))), (m8, .inl (cI, 6, .inl (enB ca (gM i (gBo day we) we)))), (m9, .inl (cI, 3, .inl (enN day co nw2)))] ∧ va_S A s.heap H locs ∧ lv_has ls 3 [(2, .int (nI i)), (1, .int lf), (0, .ref mo)] ∧ (i + kr = nr)) (fun (zz : Nat × Nat) => match zz with | (kr, i) => kr) (nr, 0) ⟨hP, hD, hS, lv_sub hl [0, 1, 2] rfl, (by omega)⟩ ?_
            rintro ⟨kr, i⟩ ih H locs ls ⟨hP, hD, hS, hl, hin⟩
            have hP : va_P D vwCl [(mo, .inr (6, [.int th, .int (nI nb), .int (nI nq), .int (nI nr), .ref m4, .ref m5, .ref m6, .ref m7, .ref m8, .ref m9])), (m4, .inl (cI, 9, .inl (Q 0))), (m5, .inl (cI, 20, .inl (enR Q2))), (m6, .inl (cI, 24, .inl (enP (pk Q2 7 (gM nq (fun j => gLose (Q2 6 j) (Q2 7 j)) (Q2 7)))))), (m7, .inl (cI, 300, .inl (enS (pk Q2 13 st)))), (m8, .inl (cI, 6, .inl (enB ca (gM i (gBo day we) we)))), (m9, .inl (cI, 3, .inl (enN day co nw2)))] H := hP
            have hD : va_D A [(mo, .inr (6, [.int th, .int (nI nb), .int (nI nq), .int (nI nr), .ref m4, .ref m5, .ref m6, .ref m7, .ref m8, .ref m9])), (m4, .inl (cI, 9, .inl (Q 0))), (m5, .inl (cI, 20, .inl (enR Q2))), (m6, .inl (cI, 24, .inl (enP (pk Q2 7 (gM nq (fun j => gLose (Q2 6 j) (Q2 7 j)) (Q2 7)))))), (m7, .inl (cI, 300, .inl (enS (pk Q2 13 st)))), (m8, .inl (cI, 6, .inl (enB ca (gM i (gBo day we) we)))), (m9, .inl (cI, 3, .inl (enN day co nw2)))] := hD
            have hl : lv_has ls 3 [(2, .int (nI i)), (1, .int lf), (0, .ref mo)] := hl
            have hin : i + kr = nr := hin
            have ih111 := ih
            refine lv_iload_n hx hb dX6_dayOn_111 rfl (lv_at hl 0 rfl) ?_
            refine lv_aload_n hx hb dX6_dayOn_112 rfl (lv_at hl 2 rfl) ?_
            refine va_get (D := D) (ci := 6) (v := .int (nI nr)) (C := RX6) (T := TX6) (N := 10) hx hb hts wc_X6_dayOn_X6 hown hK hP 0 rfl rfl 3 (by decide) (hts _ wd_X6_dayOn_3) (fun _ h9 => h9) rfl dX6_dayOn_113 ?_
            refine lv_icmp_ge (tgt := 165) hx hb dX6_dayOn_116 (by decide) (fun c => ?_) (fun c => ?_)
            · skip
              have hk0 : kr = 0 := by have := gw_ge (by omega) (by omega) c; omega
              subst hk0
              have hir : i = nr := by omega
              rw [hir] at hP hD
              refine lv_aload_n hx hb dX6_dayOn_165 rfl (lv_at hl 2 rfl) ?_
              refine va_get (D := D) (ci := 6) (v := .ref m9) (C := RX6) (T := TX6) (N := 10) hx hb hts wc_X6_dayOn_X6 hown hK hP 0 rfl rfl 9 (by decide) (hts _ wd_X6_dayOn_2) (fun _ h9 => h9) rfl dX6_dayOn_166 ?_
              refine lv_iconst (v := 0) hx hb dX6_dayOn_169 (by decide) ?_
              refine lv_dup2_11 hx hb dX6_dayOn_170 rfl rfl ?_
              refine gw_top (y := nI 0) rfl ?_
              refine gw_iald hx hb hK hP 6 0 (k := 0) rfl rfl (by omega) (by decide) dX6_dayOn_171 ?_
              refine gw_top (y := nI day) rfl ?_
              refine lv_iconst (v := 1) hx hb dX6_dayOn_172 (by decide) ?_
              refine lv_iadd hx hb dX6_dayOn_173 ?_
              refine gw_top (y := nI (day + 1)) (nI_add day 1) ?_
              refine gw_top2 (y := nI 0) rfl ?_
              refine gw_iast hx hb hK hP hD hS 6 0 (k := 0) rfl rfl (by omega) (by decide) dX6_dayOn_174 (fun H locs hP hD hS => ?_)
              have hP : va_P D vwCl [(mo, .inr (6, [.int th, .int (nI nb), .int (nI nq), .int (nI nr), .ref m4, .ref m5, .ref m6, .ref m7, .ref m8, .ref m9])), (m4, .inl (cI, 9, .inl (Q 0))), (m5, .inl (cI, 20, .inl (enR Q2))), (m6, .inl (cI, 24, .inl (enP (pk Q2 7 (gM nq (fun j => gLose (Q2 6 j) (Q2 7 j)) (Q2 7)))))), (m7, .inl (cI, 300, .inl (enS (pk Q2 13 st)))), (m8, .inl (cI, 6, .inl (enB ca (gM nr (gBo day we) we)))), (m9, .inl (cI, 3, .inl (upd (enN day co nw2) 0 (nI (day + 1)))))] H := hP
              have hD : va_D A [(mo, .inr (6, [.int th, .int (nI nb), .int (nI nq), .int (nI nr), .ref m4, .ref m5, .ref m6, .ref m7, .ref m8, .ref m9])), (m4, .inl (cI, 9, .inl (Q 0))), (m5, .inl (cI, 20, .inl (enR Q2))), (m6, .inl (cI, 24, .inl (enP (pk Q2 7 (gM nq (fun j => gLose (Q2 6 j) (Q2 7 j)) (Q2 7)))))), (m7, .inl (cI, 300, .inl (enS (pk Q2 13 st)))), (m8, .inl (cI, 6, .inl (enB ca (gM nr (gBo day we) we)))), (m9, .inl (cI, 3, .inl (upd (enN day co nw2) 0 (nI (day + 1)))))] := hD
              have hw_47 : upd (enN day co nw2) 0 (nI (day + 1)) = enN (day + 1) co nw2 := (enN_0 _ _ _ _)
              rw [hw_47] at hP hD
              subst hAe
              exact W.vret hx hb hr (fun t ht hW => ⟨⟨(), rfl, trivial, (by rw [show gDay Q nq nw day = (gEve Q2 nq nw2 day, nw2) by unfold gDay; rw [hE]]; have hP : va_P D vwCl [(mo, .inr (6, [.int th, .int (nI nb), .int (nI nq), .int (nI nr), .ref m4, .ref m5, .ref m6, .ref m7, .ref m8, .ref m9])), (m4, .inl (cI, 9, .inl (gEve Q2 nq nw2 day 0))), (m5, .inl (cI, 20, .inl (enR (gEve Q2 nq nw2 day)))), (m6, .inl (cI, 24, .inl (enP (gEve Q2 nq nw2 day)))), (m7, .inl (cI, 300, .inl (enS (gEve Q2 nq nw2 day)))), (m8, .inl (cI, 6, .inl (enB ca (gM nr (gBo day we) we)))), (m9, .inl (cI, 3, .inl (enN (day + 1) co nw2)))] H := (by rw [show gEve Q2 nq nw2 day 0 = Q 0 from h0, ← enR_ext (Q := Q2) (Q' := gEve Q2 nq nw2 day) rfl rfl rfl rfl, ← enP_ext (Q := pk Q2 7 (gM nq (fun j => gLose (Q2 6 j) (Q2 7 j)) (Q2 7))) (Q' := gEve Q2 nq nw2 day) rfl rfl rfl rfl, ← enS_ext (Q := pk Q2 13 st) (Q' := gEve Q2 nq nw2 day) rfl rfl (gEve_13 h0 hst) rfl rfl]; exact hP); exact gw_hh ht hP)⟩, hS.F ht⟩) hS.2.2 dX6_dayOn_175
            · skip
              have hi : i < nr := gw_lt (by omega) (by omega) c
              obtain ⟨kr, rfl⟩ : ∃ k2, kr = k2 + 1 := ⟨kr - 1, by omega⟩
              refine lv_aload_n hx hb dX6_dayOn_119 rfl (lv_at hl 2 rfl) ?_
              refine lv_iload_n hx hb dX6_dayOn_120 rfl (lv_at hl 0 rfl) ?_
              refine va_calli (va_runV (As := [.int (nI i)]) (rest := []) ⟨hx, hb, hml, hown, hts⟩ (met_X6_isAway l D cI cZ cL mo m4 m5 m6 m7 m8 m9 th nb nq nr ca (gM i (gBo day we) we) i (by first | assumption | omega)) (cwV 1 hts gX6_dayOn_X6_isAway rfl rfl rfl (by decide +kernel) ⟨Nat.le_of_ble_eq_true rfl, Nat.le_of_ble_eq_true rfl⟩) (gw_pvr hK hP (wc := [(mo, .inr (6, [.int th, .int (nI nb), .int (nI nq), .int (nI nr), .ref m4, .ref m5, .ref m6, .ref m7, .ref m8, .ref m9])), (m8, .inl (cI, 6, .inl (enB ca (gM i (gBo day we) we))))]) [0, 5] rfl 6 rfl rfl rfl) rfl rfl hl.1 rfl (lv_room (Nat.le_of_ble_eq_true rfl)) dX6_dayOn_121 ⟨Nat.zero_le _, Nat.zero_le _⟩) hS (fun _ _ z => z.elim) (fun _ z => z.elim) (fun r_49 _ t H1 locs ht hvm hw hB hz1 hk1 hS => ?_)
              have hP := gw_ro hP hk1
              generalize H1 = H at hP hS ⊢
              rcases hw with ⟨rfl, hcc⟩ | ⟨rfl, hcc⟩
              · skip
                rw [gM_at (Nat.le_refl i)] at hcc
                refine lv_if_eq (tgt := 159) hx hb dX6_dayOn_124 (by decide) (fun c_51 => False.elim (by revert c_51; decide)) (fun _ => ?_)
                refine lv_aload_n hx hb dX6_dayOn_127 rfl (lv_at hl 2 rfl) ?_
                refine va_get (D := D) (ci := 6) (v := .ref m8) (C := RX6) (T := TX6) (N := 10) hx hb hts wc_X6_dayOn_X6 hown hK hP 0 rfl rfl 8 (by decide) (hts _ wd_X6_dayOn_4) (fun _ h9 => h9) rfl dX6_dayOn_128 ?_
                refine lv_iconst (v := 2) hx hb dX6_dayOn_131 (by decide) ?_
                refine lv_iload_n hx hb dX6_dayOn_132 rfl (lv_at hl 0 rfl) ?_
                refine lv_imul hx hb dX6_dayOn_133 ?_
                refine gw_top (y := nI (2 * i)) (nI_mul 2 i) ?_
                refine lv_iconst (v := 1) hx hb dX6_dayOn_134 (by decide) ?_
                refine lv_iadd hx hb dX6_dayOn_135 ?_
                refine gw_top (y := nI ((2 * i) + 1)) (nI_add (2 * i) 1) ?_
                refine gw_iald hx hb hK hP 5 0 (k := (2 * i) + 1) rfl rfl (by omega) (by decide) dX6_dayOn_136 ?_
                refine gw_top (y := we i) ((enB_1 _ _ i).trans (gM_at (Nat.le_refl i))) ?_
                refine lv_aload_n hx hb dX6_dayOn_137 rfl (lv_at hl 2 rfl) ?_
                refine va_get (D := D) (ci := 6) (v := .ref m9) (C := RX6) (T := TX6) (N := 10) hx hb hts wc_X6_dayOn_X6 hown hK hP 0 rfl rfl 9 (by decide) (hts _ wd_X6_dayOn_2) (fun _ h9 => h9) rfl dX6_dayOn_138 ?_
                refine lv_iconst (v := 0) hx hb dX6_dayOn_141 (by decide) ?_
                refine gw_top (y := nI 0) rfl ?_
                refine gw_iald hx hb hK hP 6 0 (k := 0) rfl rfl (by omega) (by decide) dX6_dayOn_142 ?_
                refine gw_top (y := nI day) rfl ?_
                refine lv_iconst (v := 3) hx hb dX6_dayOn_143 (by decide) ?_
                refine lv_isub hx hb dX6_dayOn_144 ?_
                refine lv_icmp_ne (tgt := 159) hx hb dX6_dayOn_145 (by decide) (fun c5 => ?_) (fun c5 => ?_)
                · skip
                  refine lv_iinc (v := nI (i + 1)) (lv' := [(2, .int (nI (i + 1))), (1, .int lf), (0, .ref mo)]) hx hb dX6_dayOn_159 hl (k := 0) rfl (nI_add i 1) (by decide) rfl (fun ls hl => ?_)
                  refine lv_goto (tgt := 111) hx hb dX6_dayOn_162 (by decide) ?_
                  have hw : enB ca (gM i (gBo day we) we) = enB ca (gM (i + 1) (gBo day we) we) := congrArg (enB ca) (gM_k (by unfold gBo; first | (rw [if_pos hcc]; done) | (rw [if_neg hcc, if_neg c5]; done)))
                  rw [hw] at hP hD
                  exact ih111 (kr, i + 1) H locs ls (by dsimp only; omega) ⟨hP, hD, hS, lv_sub hl [0, 1, 2] rfl, (by omega)⟩
                · skip
                  refine lv_aload_n hx hb dX6_dayOn_148 rfl (lv_at hl 2 rfl) ?_
                  refine va_get (D := D) (ci := 6) (v := .ref m8) (C := RX6) (T := TX6) (N := 10) hx hb hts wc_X6_dayOn_X6 hown hK hP 0 rfl rfl 8 (by decide) (hts _ wd_X6_dayOn_4) (fun _ h9 => h9) rfl dX6_dayOn_149 ?_
                  refine lv_iconst (v := 2) hx hb dX6_dayOn_152 (by decide) ?_
                  refine lv_iload_n hx hb dX6_dayOn_153 rfl (lv_at hl 0 rfl) ?_
                  refine lv_imul hx hb dX6_dayOn_154 ?_
                  refine gw_top (y := nI (2 * i)) (nI_mul 2 i) ?_
                  refine lv_iconst (v := 1) hx hb dX6_dayOn_155 (by decide) ?_
                  refine lv_iadd hx hb dX6_dayOn_156 ?_
                  refine gw_top (y := nI ((2 * i) + 1)) (nI_add (2 * i) 1) ?_
                  refine lv_iconst (v := (-1)) hx hb dX6_dayOn_157 (by decide) ?_
                  refine gw_iast hx hb hK hP hD hS 5 0 (k := (2 * i) + 1) rfl rfl (by omega) (by decide) dX6_dayOn_158 (fun H locs hP hD hS => ?_)
                  have hP : va_P D vwCl [(mo, .inr (6, [.int th, .int (nI nb), .int (nI nq), .int (nI nr), .ref m4, .ref m5, .ref m6, .ref m7, .ref m8, .ref m9])), (m4, .inl (cI, 9, .inl (Q 0))), (m5, .inl (cI, 20, .inl (enR Q2))), (m6, .inl (cI, 24, .inl (enP (pk Q2 7 (gM nq (fun j => gLose (Q2 6 j) (Q2 7 j)) (Q2 7)))))), (m7, .inl (cI, 300, .inl (enS (pk Q2 13 st)))), (m8, .inl (cI, 6, .inl (upd (enB ca (gM i (gBo day we) we)) ((2 * i) + 1) (-1)))), (m9, .inl (cI, 3, .inl (enN day co nw2)))] H := hP
                  have hD : va_D A [(mo, .inr (6, [.int th, .int (nI nb), .int (nI nq), .int (nI nr), .ref m4, .ref m5, .ref m6, .ref m7, .ref m8, .ref m9])), (m4, .inl (cI, 9, .inl (Q 0))), (m5, .inl (cI, 20, .inl (enR Q2))), (m6, .inl (cI, 24, .inl (enP (pk Q2 7 (gM nq (fun j => gLose (Q2 6 j) (Q2 7 j)) (Q2 7)))))), (m7, .inl (cI, 300, .inl (enS (pk Q2 13 st)))), (m8, .inl (cI, 6, .inl (upd (enB ca (gM i (gBo day we) we)) ((2 * i) + 1) (-1)))), (m9, .inl (cI, 3, .inl (enN day co nw2)))] := hD
                  refine lv_iinc (v := nI (i + 1)) (lv' := [(2, .int (nI (i + 1))), (1, .int lf), (0, .ref mo)]) hx hb dX6_dayOn_159 hl (k := 0) rfl (nI_add i 1) (by decide) rfl (fun ls hl => ?_)
                  refine lv_goto (tgt := 111) hx hb dX6_dayOn_162 (by decide) ?_
                  have hw : upd (enB ca (gM i (gBo day we) we)) ((2 * i) + 1) (-1) = enB ca (gM (i + 1) (gBo day we) we) := (enB_p1 _ _ i _).trans (congrArg (enB ca) (gM_s (by unfold gBo; rw [if_neg hcc, if_pos c5])))
                  rw [hw] at hP hD
                  exact ih111 (kr, i + 1) H locs ls (by dsimp only; omega) ⟨hP, hD, hS, lv_sub hl [0, 1, 2] rfl, (by omega)⟩
              · skip
                rw [gM_at (Nat.le_refl i)] at hcc
                have hcc := Decidable.not_not.mp hcc
                refine lv_if_eq (tgt := 159) hx hb dX6_dayOn_124 (by decide) (fun _ => ?_) (fun c_53 => False.elim (by revert c_53; decide))
                refine lv_iinc (v := nI (i + 1)) (lv' := [(2, .int (nI (i + 1))), (1, .int lf), (0, .ref mo)]) hx hb dX6_dayOn_159 hl (k := 0) rfl (nI_add i 1) (by decide) rfl (fun ls hl => ?_)
                refine lv_goto (tgt := 111) hx hb dX6_dayOn_162 (by decide) ?_
                have hw : enB ca (gM i (gBo day we) we) = enB ca (gM (i + 1) (gBo day we) we) := congrArg (enB ca) (gM_k (by unfold gBo; first | (rw [if_pos hcc]; done) | (rw [if_neg hcc, if_neg c5]; done)))
                rw [hw] at hP hD
                exact ih111 (kr, i + 1) H locs ls (by dsimp only; omega) ⟨hP, hD, hS, lv_sub hl [0, 1, 2] rfl, (by omega)⟩
          · skip
            refine lv_aload_n hx hb dX6_dayOn_77 rfl (lv_at hl 2 rfl) ?_
            refine lv_iload_n hx hb dX6_dayOn_78 rfl (lv_at hl 0 rfl) ?_
            refine lv_iconst (v := 2) hx hb dX6_dayOn_79 (by decide) ?_
            refine va_calli (va_runV (As := [.int (nI i), .int 2]) (rest := []) ⟨hx, hb, hml, hown, hts⟩ (met_X6_st l D cI cZ cL mo m4 m5 m6 m7 m8 m9 th nb nq nr (enS (pk Q2 13 st)) i 2 (by first | assumption | omega) (by first | assumption | omega)) (cwV 2 hts gX6_dayOn_X6_st rfl rfl rfl (by decide +kernel) ⟨Nat.le_of_ble_eq_true rfl, Nat.le_of_ble_eq_true rfl⟩) (gw_pvr hK hP (wc := [(mo, .inr (6, [.int th, .int (nI nb), .int (nI nq), .int (nI nr), .ref m4, .ref m5, .ref m6, .ref m7, .ref m8, .ref m9])), (m7, .inl (cI, 300, .inl (enS (pk Q2 13 st))))]) [0, 4] rfl 6 rfl rfl rfl) rfl rfl hl.1 rfl (lv_room (Nat.le_of_ble_eq_true rfl)) dX6_dayOn_80 ⟨Nat.zero_le _, Nat.zero_le _⟩) hS (fun _ _ z => z.elim) (fun _ z => z.elim) (fun r_55 _ t H1 locs ht hvm hw hB hz1 hk1 hS => ?_)
            have hP := gw_ro hP hk1
            generalize H1 = H at hP hS ⊢
            subst hw
            refine gw_top (y := (pk Q2 13 st) 13 i) (enS_2 (pk Q2 13 st) i) ?_
            refine lv_if_eq (tgt := 89) hx hb dX6_dayOn_83 (by decide) (fun c3 => ?_) (fun c3 => ?_)
            · skip
              have c3 : st i = 0 := c3
              refine lv_aload_n hx hb dX6_dayOn_89 rfl (lv_at hl 2 rfl) ?_
              refine va_get (D := D) (ci := 6) (v := .ref m7) (C := RX6) (T := TX6) (N := 10) hx hb hts wc_X6_dayOn_X6 hown hK hP 0 rfl rfl 7 (by decide) (hts _ wd_X6_dayOn_5) (fun _ h9 => h9) rfl dX6_dayOn_90 ?_
              refine lv_iconst (v := 5) hx hb dX6_dayOn_93 (by decide) ?_
              refine lv_iload_n hx hb dX6_dayOn_94 rfl (lv_at hl 0 rfl) ?_
              refine lv_imul hx hb dX6_dayOn_95 ?_
              refine gw_top (y := nI (5 * i)) (nI_mul 5 i) ?_
              refine lv_iconst (v := 2) hx hb dX6_dayOn_96 (by decide) ?_
              refine lv_iadd hx hb dX6_dayOn_97 ?_
              refine gw_top (y := nI ((5 * i) + 2)) (nI_add (5 * i) 2) ?_
              refine lv_iconst (v := 1) hx hb dX6_dayOn_98 (by decide) ?_
              refine gw_iast hx hb hK hP hD hS 4 0 (k := (5 * i) + 2) rfl rfl (by omega) (by decide) dX6_dayOn_99 (fun H locs hP hD hS => ?_)
              have hP : va_P D vwCl [(mo, .inr (6, [.int th, .int (nI nb), .int (nI nq), .int (nI nr), .ref m4, .ref m5, .ref m6, .ref m7, .ref m8, .ref m9])), (m4, .inl (cI, 9, .inl (Q 0))), (m5, .inl (cI, 20, .inl (enR Q2))), (m6, .inl (cI, 24, .inl (enP (pk Q2 7 (gM nq (fun j => gLose (Q2 6 j) (Q2 7 j)) (Q2 7)))))), (m7, .inl (cI, 300, .inl (upd (enS (pk Q2 13 st)) ((5 * i) + 2) 1))), (m8, .inl (cI, 6, .inl (enB ca we))), (m9, .inl (cI, 3, .inl (enN day co nw2)))] H := hP
              have hD : va_D A [(mo, .inr (6, [.int th, .int (nI nb), .int (nI nq), .int (nI nr), .ref m4, .ref m5, .ref m6, .ref m7, .ref m8, .ref m9])), (m4, .inl (cI, 9, .inl (Q 0))), (m5, .inl (cI, 20, .inl (enR Q2))), (m6, .inl (cI, 24, .inl (enP (pk Q2 7 (gM nq (fun j => gLose (Q2 6 j) (Q2 7 j)) (Q2 7)))))), (m7, .inl (cI, 300, .inl (upd (enS (pk Q2 13 st)) ((5 * i) + 2) 1))), (m8, .inl (cI, 6, .inl (enB ca we))), (m9, .inl (cI, 3, .inl (enN day co nw2)))] := hD
              refine lv_iinc (v := lf - 1) (lv' := [(1, .int (lf - 1)), (2, .int (nI i)), (0, .ref mo)]) hx hb dX6_dayOn_100 hl (k := 1) rfl (by rw [Int32.sub_eq_add_neg]; rfl) (by decide) rfl (fun ls hl => ?_)
              refine lv_iinc (v := nI (i + 1)) (lv' := [(2, .int (nI (i + 1))), (1, .int (lf - 1)), (0, .ref mo)]) hx hb dX6_dayOn_103 hl (k := 1) rfl (nI_add i 1) (by decide) rfl (fun ls hl => ?_)
              refine lv_goto (tgt := 63) hx hb dX6_dayOn_106 (by decide) ?_
              have hw : upd (enS (pk Q2 13 st)) ((5 * i) + 2) 1 = enS (pk Q2 13 (upd st i 1)) := (enS_p _ i 2 _ (by decide)).trans (enS_ext rfl rfl rfl rfl rfl)
              rw [hw] at hP hD
              exact ih63 (kw, i + 1, lf - 1, upd st i 1) H locs ls (by dsimp only; omega) ⟨hP, hD, hS, lv_sub hl [0, 1, 2] rfl, (by omega), (by rw [← hG]; simp [gDress, c2, c3])⟩
            · skip
              have c3 : ¬ st i = 0 := c3
              refine lv_goto (tgt := 103) hx hb dX6_dayOn_86 (by decide) ?_
              refine lv_iinc (v := nI (i + 1)) (lv' := [(2, .int (nI (i + 1))), (1, .int lf), (0, .ref mo)]) hx hb dX6_dayOn_103 hl (k := 0) rfl (nI_add i 1) (by decide) rfl (fun ls hl => ?_)
              refine lv_goto (tgt := 63) hx hb dX6_dayOn_106 (by decide) ?_
              exact ih63 (kw, i + 1, lf, st) H locs ls (by dsimp only; omega) ⟨hP, hD, hS, lv_sub hl [0, 1, 2] rfl, (by omega), (by rw [← hG]; simp [gDress, c2, c3])⟩
    · skip
      have hi : i < nq := gw_lt (by omega) (by omega) c
      obtain ⟨kq, rfl⟩ : ∃ k2, kq = k2 + 1 := ⟨kq - 1, by omega⟩
      refine lv_aload_n hx hb dX6_dayOn_31 rfl (lv_at hl 1 rfl) ?_
      refine lv_iload_n hx hb dX6_dayOn_32 rfl (lv_at hl 0 rfl) ?_
      have hFc := gw_free (wc := [(mo, .inr (6, [.int th, .int (nI nb), .int (nI nq), .int (nI nr), .ref m4, .ref m5, .ref m6, .ref m7, .ref m8, .ref m9])), (m6, .inl (cI, 24, .inl (enP (pk Q2 7 (gM i (fun j => gLose (Q2 6 j) (Q2 7 j)) (Q2 7))))))]) hD [0, 3] rfl
      refine va_callv (va_runV (As := [.int (nI i)]) (rest := []) ⟨hx, hb, hml, hown, hts⟩ (met_X6_breathe l D cI cZ cL mo m4 m5 m6 m7 m8 m9 th nb nq nr (pk Q2 7 (gM i (fun j => gLose (Q2 6 j) (Q2 7 j)) (Q2 7))) i (by first | assumption | omega) (by show (0 : Int32) ≤ gM i (fun j => gLose (Q2 6 j) (Q2 7 j)) (Q2 7) i ∧ gM i (fun j => gLose (Q2 6 j) (Q2 7 j)) (Q2 7) i ≤ 100; rw [gM_at (Nat.le_refl i)]; exact hdu2 i)) (cwV 1 hts gX6_dayOn_X6_breathe rfl rfl rfl (by decide +kernel) ⟨Nat.le_of_ble_eq_true rfl, Nat.le_of_ble_eq_true rfl⟩) (gw_pvw hK hP hD (wc := [(mo, .inr (6, [.int th, .int (nI nb), .int (nI nq), .int (nI nr), .ref m4, .ref m5, .ref m6, .ref m7, .ref m8, .ref m9])), (m6, .inl (cI, 24, .inl (enP (pk Q2 7 (gM i (fun j => gLose (Q2 6 j) (Q2 7 j)) (Q2 7))))))]) [0, 3] (by decide) rfl rfl 6 rfl rfl rfl) rfl rfl hl.1 rfl (lv_room (Nat.le_of_ble_eq_true rfl)) dX6_dayOn_33 ⟨Nat.zero_le _, Nat.zero_le _⟩) hS (fun q _ h => hFc q h) hFc (fun _ t H1 locs ht hvm hw hB hz1 hk1 hS => ?_)
      rw [ht] at hB
      obtain ⟨hP, hD⟩ := gw_upd (wc := [(mo, .inr (6, [.int th, .int (nI nb), .int (nI nq), .int (nI nr), .ref m4, .ref m5, .ref m6, .ref m7, .ref m8, .ref m9])), (m6, .inl (cI, 24, .inl (enP (pk Q2 7 (gM i (fun j => gLose (Q2 6 j) (Q2 7 j)) (Q2 7))))))]) (w1 := [(mo, .inr (6, [.int th, .int (nI nb), .int (nI nq), .int (nI nr), .ref m4, .ref m5, .ref m6, .ref m7, .ref m8, .ref m9])), (m6, .inl (cI, 24, .inl (enP (pk (pk Q2 7 (gM i (fun j => gLose (Q2 6 j) (Q2 7 j)) (Q2 7))) 7 (upd ((pk Q2 7 (gM i (fun j => gLose (Q2 6 j) (Q2 7 j)) (Q2 7))) 7) i (gLose ((pk Q2 7 (gM i (fun j => gLose (Q2 6 j) (Q2 7 j)) (Q2 7))) 6 i) ((pk Q2 7 (gM i (fun j => gLose (Q2 6 j) (Q2 7 j)) (Q2 7))) 7 i)))))))]) (ws' := [(mo, .inr (6, [.int th, .int (nI nb), .int (nI nq), .int (nI nr), .ref m4, .ref m5, .ref m6, .ref m7, .ref m8, .ref m9])), (m4, .inl (cI, 9, .inl (Q 0))), (m5, .inl (cI, 20, .inl (enR Q2))), (m6, .inl (cI, 24, .inl (enP (pk (pk Q2 7 (gM i (fun j => gLose (Q2 6 j) (Q2 7 j)) (Q2 7))) 7 (upd ((pk Q2 7 (gM i (fun j => gLose (Q2 6 j) (Q2 7 j)) (Q2 7))) 7) i (gLose ((pk Q2 7 (gM i (fun j => gLose (Q2 6 j) (Q2 7 j)) (Q2 7))) 6 i) ((pk Q2 7 (gM i (fun j => gLose (Q2 6 j) (Q2 7 j)) (Q2 7))) 7 i))))))), (m7, .inl (cI, 300, .inl (enS Q2))), (m8, .inl (cI, 6, .inl (enB ca we))), (m9, .inl (cI, 3, .inl (enN day co nw2)))]) hP hD [0, 3] rfl rfl hk1 hB rfl
      generalize H1 = H at hP hS ⊢
      refine lv_iinc (v := nI (i + 1)) (lv' := [(1, .int (nI (i + 1))), (0, .ref mo)]) hx hb dX6_dayOn_36 hl (k := 0) rfl (nI_add i 1) (by decide) rfl (fun ls hl => ?_)
      refine lv_goto (tgt := 23) hx hb dX6_dayOn_39 (by decide) ?_
      have hw : enP (pk (pk Q2 7 (gM i (fun j => gLose (Q2 6 j) (Q2 7 j)) (Q2 7))) 7 (upd ((pk Q2 7 (gM i (fun j => gLose (Q2 6 j) (Q2 7 j)) (Q2 7))) 7) i (gLose ((pk Q2 7 (gM i (fun j => gLose (Q2 6 j) (Q2 7 j)) (Q2 7))) 6 i) ((pk Q2 7 (gM i (fun j => gLose (Q2 6 j) (Q2 7 j)) (Q2 7))) 7 i)))) = enP (pk Q2 7 (gM (i + 1) (fun j => gLose (Q2 6 j) (Q2 7 j)) (Q2 7))) := enP_ext rfl rfl (by show upd (gM i (fun j => gLose (Q2 6 j) (Q2 7 j)) (Q2 7)) i (gLose (Q2 6 i) (gM i (fun j => gLose (Q2 6 j) (Q2 7 j)) (Q2 7) i)) = gM (i + 1) (fun j => gLose (Q2 6 j) (Q2 7 j)) (Q2 7); rw [gM_at (Nat.le_refl i)]; exact gM_s rfl) rfl
      rw [hw] at hP hD
      exact ih23 (kq, i + 1) H locs ls (by dsimp only; omega) ⟨hP, hD, hS, lv_sub hl [0, 1] rfl, (by omega)⟩
  · skip
    have hi : i < nq := gw_lt (by omega) (by omega) c
    obtain ⟨kq, rfl⟩ : ∃ k2, kq = k2 + 1 := ⟨kq - 1, by omega⟩
    refine lv_aload_n hx hb dX6_dayOn_10 rfl (lv_at hl 1 rfl) ?_
    refine lv_iload_n hx hb dX6_dayOn_11 rfl (lv_at hl 0 rfl) ?_
    have hFc := gw_free (wc := [(mo, .inr (6, [.int th, .int (nI nb), .int (nI nq), .int (nI nr), .ref m4, .ref m5, .ref m6, .ref m7, .ref m8, .ref m9])), (m5, .inl (cI, 20, .inl (enR Q2))), (m6, .inl (cI, 24, .inl (enP Q2))), (m7, .inl (cI, 300, .inl (enS Q2))), (m9, .inl (cI, 3, .inl (enN day co nw2)))]) hD [0, 2, 3, 4, 6] rfl
    refine va_callv (va_runV (As := [.int (nI i)]) (rest := []) ⟨hx, hb, hml, hown, hts⟩ (met_X6_toil l D cI cZ cL mo m4 m5 m6 m7 m8 m9 th nb nq nr Q2 day co nw2 i (by first | assumption | omega) (by first | assumption | omega) (by first | assumption | omega) (by first | assumption | omega) hpl2) (cwV 1 hts gX6_dayOn_X6_toil rfl rfl rfl (by decide +kernel) ⟨Nat.le_of_ble_eq_true rfl, Nat.le_of_ble_eq_true rfl⟩) (gw_pvw hK hP hD (wc := [(mo, .inr (6, [.int th, .int (nI nb), .int (nI nq), .int (nI nr), .ref m4, .ref m5, .ref m6, .ref m7, .ref m8, .ref m9])), (m5, .inl (cI, 20, .inl (enR Q2))), (m6, .inl (cI, 24, .inl (enP Q2))), (m7, .inl (cI, 300, .inl (enS Q2))), (m9, .inl (cI, 3, .inl (enN day co nw2)))]) [0, 2, 3, 4, 6] (by decide) rfl rfl 6 rfl rfl rfl) rfl rfl hl.1 rfl (lv_room (Nat.le_of_ble_eq_true rfl)) dX6_dayOn_12 ⟨Nat.zero_le _, Nat.zero_le _⟩) hS (fun q _ h => hFc q h) hFc (fun _ t H1 locs ht hvm hw hB hz1 hk1 hS => ?_)
    rw [ht] at hB
    obtain ⟨hP, hD⟩ := gw_upd (wc := [(mo, .inr (6, [.int th, .int (nI nb), .int (nI nq), .int (nI nr), .ref m4, .ref m5, .ref m6, .ref m7, .ref m8, .ref m9])), (m5, .inl (cI, 20, .inl (enR Q2))), (m6, .inl (cI, 24, .inl (enP Q2))), (m7, .inl (cI, 300, .inl (enS Q2))), (m9, .inl (cI, 3, .inl (enN day co nw2)))]) (w1 := [(mo, .inr (6, [.int th, .int (nI nb), .int (nI nq), .int (nI nr), .ref m4, .ref m5, .ref m6, .ref m7, .ref m8, .ref m9])), (m5, .inl (cI, 20, .inl (enR ((gWork Q2 nw2 day i).1)))), (m6, .inl (cI, 24, .inl (enP ((gWork Q2 nw2 day i).1)))), (m7, .inl (cI, 300, .inl (enS ((gWork Q2 nw2 day i).1)))), (m9, .inl (cI, 3, .inl (enN day co ((gWork Q2 nw2 day i).2))))]) (ws' := [(mo, .inr (6, [.int th, .int (nI nb), .int (nI nq), .int (nI nr), .ref m4, .ref m5, .ref m6, .ref m7, .ref m8, .ref m9])), (m4, .inl (cI, 9, .inl (Q 0))), (m5, .inl (cI, 20, .inl (enR ((gWork Q2 nw2 day i).1)))), (m6, .inl (cI, 24, .inl (enP ((gWork Q2 nw2 day i).1)))), (m7, .inl (cI, 300, .inl (enS ((gWork Q2 nw2 day i).1)))), (m8, .inl (cI, 6, .inl (enB ca we))), (m9, .inl (cI, 3, .inl (enN day co ((gWork Q2 nw2 day i).2))))]) hP hD [0, 2, 3, 4, 6] rfl rfl hk1 hB rfl
    generalize H1 = H at hP hS ⊢
    refine lv_iinc (v := nI (i + 1)) (lv' := [(1, .int (nI (i + 1))), (0, .ref mo)]) hx hb dX6_dayOn_15 hl (k := 0) rfl (nI_add i 1) (by decide) rfl (fun ls hl => ?_)
    refine lv_goto (tgt := 2) hx hb dX6_dayOn_18 (by decide) ?_
    exact ih2 (kq, i + 1, (gWork Q2 nw2 day i).1, (gWork Q2 nw2 day i).2) H locs ls (by dsimp only; omega) ⟨hP, hD, hS, lv_sub hl [0, 1] rfl, (by omega), hF, (gWork_nw hnw2), (hpl2.of (gWork_6 _ _ _ _ 6 (by decide))), (gWork_du hdu2 hgr2 hnb hpl2 hi), (hgr2.of (gWork_6 _ _ _ _ 1 (by decide)))⟩
