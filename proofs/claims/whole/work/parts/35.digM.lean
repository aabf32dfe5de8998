theorem wc_X6_digest_ok_X6 : ∀ w ∈ u_ws RX6 TX6 10, w ∈ wsX6_digest := by decide +kernel
theorem wd_X6_digest_ok_1 : (.fieldLink RX6 28 "GritWheelsModel" "thrown" "I" : Cond) ∈ wsX6_digest := by decide +kernel
theorem wd_X6_digest_ok_2 : (.constantLong RX6 161 (1237) : Cond) ∈ wsX6_digest := by decide +kernel
theorem wd_X6_digest_ok_3 : (.fieldLink RX6 7 "GritWheelsModel" "fall" "[I" : Cond) ∈ wsX6_digest := by decide +kernel
theorem wd_X6_digest_ok_4 : (.fieldLink RX6 32 "GritWheelsModel" "beds" "I" : Cond) ∈ wsX6_digest := by decide +kernel
theorem wd_X6_digest_ok_5 : (.fieldLink RX6 39 "GritWheelsModel" "quarriers" "I" : Cond) ∈ wsX6_digest := by decide +kernel
theorem wd_X6_digest_ok_6 : (.fieldLink RX6 25 "GritWheelsModel" "numbers" "[I" : Cond) ∈ wsX6_digest := by decide +kernel
theorem wd_X6_digest_ok_7 : (.fieldLink RX6 42 "GritWheelsModel" "rafts" "I" : Cond) ∈ wsX6_digest := by decide +kernel
theorem wd_X6_digest_ok_8 : (.constantLong RX6 163 (31) : Cond) ∈ wsX6_digest := by decide +kernel
set_option maxHeartbeats 4000000 in
set_option maxRecDepth 100000 in
theorem met_X6_digest_ok (l : Launch) (D : va_G) (cI cZ cL : ClassId) (mo : Nat) (m4 : Nat) (m5 : Nat) (m6 : Nat) (m7 : Nat) (m8 : Nat) (m9 : Nat) (th : Int32) (nb : Nat) (nq : Nat) (nr : Nat) (Q : Nat → Nat → Int32) (day : Nat) (co : Int32) (nw : Nat) (ca : Nat → Int32) (we : Nat → Int32) (bo : Nat → Int32) (hnw : nw ≤ 60) (hnb : nb ≤ 5) (hof : gOf Q nb nw) (hz : ∀ j, Q 12 j = 0 ∨ Q 12 j = 1) (hnq : nq ≤ 6) (hnr : nr ≤ 3) (hd : day < 2 ^ 31) (hpl : gPl Q nb nq) (hgr : gGr Q nb) (hcar : ∀ w, w < nw → Q 14 w = -1 ∨ Q 13 w = 2) (hrw : ∀ r, r < nr → (we r = -1 ↔ ¬ nI day < bo r)) : Met l yX6_digest wsX6_digest ({ frames := 4, cells := 0, slots := 0, locals := 89 }) (gPw [.ref mo] D [(mo, .inr (6, [.int th, .int (nI nb), .int (nI nq), .int (nI nr), .ref m4, .ref m5, .ref m6, .ref m7, .ref m8, .ref m9])), (m4, .inl (cI, 9, .inl (Q 0))), (m5, .inl (cI, 20, .inl (enR Q))), (m6, .inl (cI, 24, .inl (enP Q))), (m7, .inl (cI, 300, .inl (enS Q))), (m8, .inl (cI, 6, .inl (enB ca we))), (m9, .inl (cI, 3, .inl (enN day co nw)))] (gT cI cZ cL)) (va_Ql (fun (zr : Int64) (_ : Unit) => zr = gDD 4 (fun r v => gRaft Q nw day ca bo v r) nr 0 (gDD 6 (fun w v => gFact v (Q 9 w) (Q 11 w) (Q 10 w) (Q 13 w) (Q 12 w) (Q 14 w)) nw 0 (gDD 5 (fun q v => gQua Q v q) nq 0 (gDD 6 (fun b v => gBed Q nq nw v b) nb 0 (gD (Q 0) 9 0 (gD (gCntC Q nq nw day co) 10 0 1237)))))) (fun _ t => va_P D vwCl [(mo, .inr (6, [.int 0, .int (nI nb), .int (nI nq), .int (nI nr), .ref m4, .ref m5, .ref m6, .ref m7, .ref m8, .ref m9])), (m4, .inl (cI, 9, .inl (Q 0))), (m5, .inl (cI, 20, .inl (enR Q))), (m6, .inl (cI, 24, .inl (enP Q))), (m7, .inl (cI, 300, .inl (enS Q))), (m8, .inl (cI, 6, .inl (enB ca we))), (m9, .inl (cI, 3, .inl (enN day co nw)))] t.heap) (gA (gL [(mo, .inr (6, [.int th, .int (nI nb), .int (nI nq), .int (nI nr), .ref m4, .ref m5, .ref m6, .ref m7, .ref m8, .ref m9])), (m4, .inl (cI, 9, .inl (Q 0))), (m5, .inl (cI, 20, .inl (enR Q))), (m6, .inl (cI, 24, .inl (enP Q))), (m7, .inl (cI, 300, .inl (enS Q))), (m8, .inl (cI, 6, .inl (enB ca we))), (m9, .inl (cI, 3, .inl (enN day co nw)))]))) 0 0 (gA (gL [(mo, .inr (6, [.int th, .int (nI nb), .int (nI nq), .int (nI nr), .ref m4, .ref m5, .ref m6, .ref m7, .ref m8, .ref m9])), (m4, .inl (cI, 9, .inl (Q 0))), (m5, .inl (cI, 20, .inl (enR Q))), (m6, .inl (cI, 24, .inl (enP Q))), (m7, .inl (cI, 300, .inl (enS Q))), (m8, .inl (cI, 6, .inl (enB ca we))), (m9, .inl (cI, 3, .inl (enN day co nw)))])) := by
  refine Met.ofW (cc := cX6_digest) (maxL := 7) (ret := (some .long)) (by decide +kernel) rfl ?_
  intro p e s m args below meth c s₁ B hml hv
  obtain ⟨rfl, hP, hK, hD0⟩ := hv
  have hx := B.exec
  have hb := B.bytes
  have hr := B.returns
  have hts := atoms_spec (ws := wsX6_digest) B.pre
  have hown : s.vm.findClass RX6 = some m.cls := findClass_of_methodNamed B.named
  have hlocks := B.notSynchronized
  have hD := gw_self hD0
  generalize hAe : gA (gL [(mo, .inr (6, [.int th, .int (nI nb), .int (nI nq), .int (nI nr), .ref m4, .ref m5, .ref m6, .ref m7, .ref m8, .ref m9])), (m4, .inl (cI, 9, .inl (Q 0))), (m5, .inl (cI, 20, .inl (enR Q))), (m6, .inl (cI, 24, .inl (enP Q))), (m7, .inl (cI, 300, .inl (enS Q))), (m8, .inl (cI, 6, .inl (enB ca we))), (m9, .inl (cI, 3, .inl (enN day co nw)))]) = A at hD ⊢
  have hS : va_S A s.heap s.heap [] := va_S.rf
  have hP : va_P D vwCl [(mo, .inr (6, [.int th, .int (nI nb), .int (nI nq), .int (nI nr), .ref m4, .ref m5, .ref m6, .ref m7, .ref m8, .ref m9])), (m4, .inl (cI, 9, .inl (Q 0))), (m5, .inl (cI, 20, .inl (enR Q))), (m6, .inl (cI, 24, .inl (enP Q))), (m7, .inl (cI, 300, .inl (enS Q))), (m8, .inl (cI, 6, .inl (enB ca we))), (m9, .inl (cI, 3, .inl (enN day co nw)))] s.heap := hP
  have hl := lv_entry ([.ref mo]) (n := 7) (Nat.le_of_ble_eq_true rfl)
  rw [lg_entry_eq]
  generalize (lg_sl ([.ref mo]) ++ List.replicate (7 - (lg_sl ([.ref mo])).length) Slot.unset).toArray = ls at hl ⊢
  have hl : lv_has ls 7 [(0, .ref mo)] := hl
  refine lv_aload_n hx hb dX6_digest_0 rfl (lv_at hl 0 rfl) ?_
  refine lv_iconst (v := 0) hx hb dX6_digest_1 (by decide) ?_
  refine va_put (D := D) (ci := 6) (v := .int 0) (ty := .int) (C := RX6) (T := TX6) (N := 10) hx hb hts wc_X6_digest_ok_X6 tyX6 tyX6_ok nmX6 hown hK hP hD hS 0 rfl rfl 0 (by decide) (hts _ wd_X6_digest_ok_1) (fun _ h9 => h9) rfl (by decide +kernel) rfl rfl (Nat.le_of_ble_eq_true rfl) dX6_digest_2 (fun H locs hP hD hS => ?_)
  have hP : va_P D vwCl [(mo, .inr (6, [.int 0, .int (nI nb), .int (nI nq), .int (nI nr), .ref m4, .ref m5, .ref m6, .ref m7, .ref m8, .ref m9])), (m4, .inl (cI, 9, .inl (Q 0))), (m5, .inl (cI, 20, .inl (enR Q))), (m6, .inl (cI, 24, .inl (enP Q))), (m7, .inl (cI, 300, .inl (enS Q))), (m8, .inl (cI, 6, .inl (enB ca we))), (m9, .inl (cI, 3, .inl (enN day co nw)))] H := hP
  have hD : va_D A [(mo, .inr (6, [.int 0, .int (nI nb), .int (nI nq), .int (nI nr), .ref m4, .ref m5, .ref m6, .ref m7, .ref m8, .ref m9])), (m4, .inl (cI, 9, .inl (Q 0))), (m5, .inl (cI, 20, .inl (enR Q))), (m6, .inl (cI, 24, .inl (enP Q))), (m7, .inl (cI, 300, .inl (enS Q))), (m8, .inl (cI, 6, .inl (enB ca we))), (m9, .inl (cI, 3, .inl (enN day co nw)))] := hD
  refine lv_ldc2 (v := 1237) hx hb hown (hts _ wd_X6_digest_ok_2) dX6_digest_5 ?_
  refine lv_lstore_n (lv' := [(1, .long 1237), (0, .ref mo)]) hx hb dX6_digest_8 rfl hl (by decide) rfl (fun ls hl => ?_)
  refine lv_iconst (v := 0) hx hb dX6_digest_9 (by decide) ?_
  refine lv_istore_n (lv' := [(3, .int 0), (1, .long 1237), (0, .ref mo)]) hx hb dX6_digest_10 rfl hl (by decide) rfl (fun ls hl => ?_)
  refine gw_loop (fun (zz : Nat × Nat × Int64) H locs ls => match zz with | (k, i, d) => va_P D vwCl [(mo, .inr (6, [.int 0, .int (nI nb), .int (nI nq), .int (nI nr), .ref m4, .ref m5, .ref m6, .ref m7, .ref m8, .ref m9])), (m4, .inl (cI, 9, .inl (Q 0))), (m5, .inl (cI, 20, .inl (enR Q))), (m6, .inl (cI, 24, .inl (enP Q))), (m7, .inl (cI, 300, .inl (enS Q))), (m8, .inl (cI, 6, .inl (enB ca we))), (m9, .inl (cI, 3, .inl (enN day co nw)))] H ∧ va_D A [(mo, .inr (6, [.int 0, .int (nI nb), .int (nI nq), .int (nI nr), .ref m4, .ref m5, .ref m6, .ref m7, .ref m8, .ref m9])), (m4, .inl (cI, 9, .inl (Q 0))), (m5, .inl (cI, 20, .inl (enR Q))), (m6, .inl (cI, 24, .inl (enP Q))), (m7, .inl (cI, 300, .inl (enS Q))), (m8, .inl (cI, 6, .inl (enB ca we))), (m9, .inl (cI, 3, .inl (enN day co nw)))] ∧ va_S A s.heap H locs ∧ lv_has ls 7 [(3, .int (nI i)), (1, .long d), (0, .ref mo)] ∧ (i + k = 10) ∧ (gD (gCntC Q nq nw day co) k i d = gD (gCntC Q nq nw day co) 10 0 (1237))) (fun (zz : Nat × Nat × Int64) => match zz with | (k, i, d) => k) (10, 0, 1237) ⟨hP, hD, hS, lv_sub hl [0, 1, 2] rfl, (by omega), rfl⟩ ?_
  rintro ⟨k, i, d⟩ ih H locs ls ⟨hP, hD, hS, hl, hin, hF⟩
  have hP : va_P D vwCl [(mo, .inr (6, [.int 0, .int (nI nb), .int (nI nq), .int (nI nr), .ref m4, .ref m5, .ref m6, .ref m7, .ref m8, .ref m9])), (m4, .inl (cI, 9, .inl (Q 0))), (m5, .inl (cI, 20, .inl (enR Q))), (m6, .inl (cI, 24, .inl (enP Q))), (m7, .inl (cI, 300, .inl (enS Q))), (m8, .inl (cI, 6, .inl (enB ca we))), (m9, .inl (cI, 3, .inl (enN day co nw)))] H := hP
  have hD : va_D A [(mo, .inr (6, [.int 0, .int (nI nb), .int (nI nq), .int (nI nr), .ref m4, .ref m5, .ref m6, .ref m7, .ref m8, .ref m9])), (m4, .inl (cI, 9, .inl (Q 0))), (m5, .inl (cI, 20, .inl (enR Q))), (m6, .inl (cI, 24, .inl (enP Q))), (m7, .inl (cI, 300, .inl (enS Q))), (m8, .inl (cI, 6, .inl (enB ca we))), (m9, .inl (cI, 3, .inl (enN day co nw)))] := hD
  have hl : lv_has ls 7 [(3, .int (nI i)), (1, .long d), (0, .ref mo)] := hl
  have hin : i + k = 10 := hin
  have hF : gD (gCntC Q nq nw day co) k i d = gD (gCntC Q nq nw day co) 10 0 (1237) := hF
  have ih11 := ih
  refine lv_iload_n hx hb dX6_digest_11 rfl (lv_at hl 0 rfl) ?_
  refine lv_bipush (v := 10) hx hb dX6_digest_12 (by decide) ?_
  refine lv_icmp_ge (tgt := 36) hx hb dX6_digest_14 (by decide) (fun c => ?_) (fun c => ?_)
  · skip
    have hk0 : k = 0 := by have := gw_ge (n := 10) (by omega) (by omega) c; omega
    subst hk0
    have hq : d = gD (gCntC Q nq nw day co) 10 0 (1237) := hF
    subst hq
    refine lv_aload_n hx hb dX6_digest_36 rfl (lv_at hl 2 rfl) ?_
    refine va_get (D := D) (ci := 6) (v := .ref m4) (C := RX6) (T := TX6) (N := 10) hx hb hts wc_X6_digest_ok_X6 hown hK hP 0 rfl rfl 4 (by decide) (hts _ wd_X6_digest_ok_3) (fun _ h9 => h9) rfl dX6_digest_37 ?_
    refine lv_astore_n (lv' := [(3, .ref m4), (1, .long (gD (gCntC Q nq nw day co) 10 0 (1237))), (0, .ref mo)]) hx hb dX6_digest_40 rfl hl (by decide) rfl (fun ls hl => ?_)
    refine lv_aload_n hx hb dX6_digest_41 rfl (lv_at hl 0 rfl) ?_
    refine va_alen (v := nI 9) hx hb hK hP 1 0 rfl rfl rfl dX6_digest_42 ?_
    refine lv_istore (lv' := [(4, .int (nI 9)), (3, .ref m4), (1, .long (gD (gCntC Q nq nw day co) 10 0 (1237))), (0, .ref mo)]) hx hb dX6_digest_43 hl (by decide) rfl (fun ls hl => ?_)
    refine lv_iconst (v := 0) hx hb dX6_digest_45 (by decide) ?_
    refine lv_istore (lv' := [(5, .int 0), (4, .int (nI 9)), (3, .ref m4), (1, .long (gD (gCntC Q nq nw day co) 10 0 (1237))), (0, .ref mo)]) hx hb dX6_digest_46 hl (by decide) rfl (fun ls hl => ?_)
    refine gw_loop (fun (zz : Nat × Nat × Int64) H locs ls => match zz with | (k, i, d) => va_P D vwCl [(mo, .inr (6, [.int 0, .int (nI nb), .int (nI nq), .int (nI nr), .ref m4, .ref m5, .ref m6, .ref m7, .ref m8, .ref m9])), (m4, .inl (cI, 9, .inl (Q 0))), (m5, .inl (cI, 20, .inl (enR Q))), (m6, .inl (cI, 24, .inl (enP Q))), (m7, .inl (cI, 300, .inl (enS Q))), (m8, .inl (cI, 6, .inl (enB ca we))), (m9, .inl (cI, 3, .inl (enN day co nw)))] H ∧ va_D A [(mo, .inr (6, [.int 0, .int (nI nb), .int (nI nq), .int (nI nr), .ref m4, .ref m5, .ref m6, .ref m7, .ref m8, .ref m9])), (m4, .inl (cI, 9, .inl (Q 0))), (m5, .inl (cI, 20, .inl (enR Q))), (m6, .inl (cI, 24, .inl (enP Q))), (m7, .inl (cI, 300, .inl (enS Q))), (m8, .inl (cI, 6, .inl (enB ca we))), (m9, .inl (cI, 3, .inl (enN day co nw)))] ∧ va_S A s.heap H locs ∧ lv_has ls 7 [(5, .int (nI i)), (4, .int (nI 9)), (3, .ref m4), (1, .long d), (0, .ref mo)] ∧ (i + k = 9) ∧ (gD (Q 0) k i d = gD (Q 0) 9 0 (gD (gCntC Q nq nw day co) 10 0 1237))) (fun (zz : Nat × Nat × Int64) => match zz with | (k, i, d) => k) (9, 0, gD (gCntC Q nq nw day co) 10 0 1237) ⟨hP, hD, hS, lv_sub hl [0, 1, 2, 3, 4] rfl, (by omega), rfl⟩ ?_
    rintro ⟨k, i, d⟩ ih H locs ls ⟨hP, hD, hS, hl, hin, hF⟩
    have hP : va_P D vwCl [(mo, .inr (6, [.int 0, .int (nI nb), .int (nI nq), .int (nI nr), .ref m4, .ref m5, .ref m6, .ref m7, .ref m8, .ref m9])), (m4, .inl (cI, 9, .inl (Q 0))), (m5, .inl (cI, 20, .inl (enR Q))), (m6, .inl (cI, 24, .inl (enP Q))), (m7, .inl (cI, 300, .inl (enS Q))), (m8, .inl (cI, 6, .inl (enB ca we))), (m9, .inl (cI, 3, .inl (enN day co nw)))] H := hP
    have hD : va_D A [(mo, .inr (6, [.int 0, .int (nI nb), .int (nI nq), .int (nI nr), .ref m4, .ref m5, .ref m6, .ref m7, .ref m8, .ref m9])), (m4, .inl (cI, 9, .inl (Q 0))), (m5, .inl (cI, 20, .inl (enR Q))), (m6, .inl (cI, 24, .inl (enP Q))), (m7, .inl (cI, 300, .inl (enS Q))), (m8, .inl (cI, 6, .inl (enB ca we))), (m9, .inl (cI, 3, .inl (enN day co nw)))] := hD
    have hl : lv_has ls 7 [(5, .int (nI i)), (4, .int (nI 9)), (3, .ref m4), (1, .long d), (0, .ref mo)] := hl
    have hin : i + k = 9 := hin
    have hF : gD (Q 0) k i d = gD (Q 0) 9 0 (gD (gCntC Q nq nw day co) 10 0 1237) := hF
    have ih48 := ih
    refine lv_iload hx hb dX6_digest_48 (lv_at hl 0 rfl) ?_
    refine lv_iload hx hb dX6_digest_50 (lv_at hl 1 rfl) ?_
    refine lv_icmp_ge (tgt := 77) hx hb dX6_digest_52 (by decide) (fun c => ?_) (fun c => ?_)
    · skip
      have hk0 : k = 0 := by have := gw_ge (n := 9) (by omega) (by omega) c; omega
      subst hk0
      have hq : d = gD (Q 0) 9 0 (gD (gCntC Q nq nw day co) 10 0 1237) := hF
      subst hq
      refine lv_iconst (v := 0) hx hb dX6_digest_77 (by decide) ?_
      refine lv_istore_n (lv' := [(3, .int 0), (5, .int (nI i)), (4, .int (nI 9)), (1, .long (gD (Q 0) 9 0 (gD (gCntC Q nq nw day co) 10 0 1237))), (0, .ref mo)]) hx hb dX6_digest_78 rfl hl (by decide) rfl (fun ls hl => ?_)
      refine gw_loop (fun (zz : Nat × Nat × Int64) H locs ls => match zz with | (k, i, d) => va_P D vwCl [(mo, .inr (6, [.int 0, .int (nI nb), .int (nI nq), .int (nI nr), .ref m4, .ref m5, .ref m6, .ref m7, .ref m8, .ref m9])), (m4, .inl (cI, 9, .inl (Q 0))), (m5, .inl (cI, 20, .inl (enR Q))), (m6, .inl (cI, 24, .inl (enP Q))), (m7, .inl (cI, 300, .inl (enS Q))), (m8, .inl (cI, 6, .inl (enB ca we))), (m9, .inl (cI, 3, .inl (enN day co nw)))] H ∧ va_D A [(mo, .inr (6, [.int 0, .int (nI nb), .int (nI nq), .int (nI nr), .ref m4, .ref m5, .ref m6, .ref m7, .ref m8, .ref m9])), (m4, .inl (cI, 9, .inl (Q 0))), (m5, .inl (cI, 20, .inl (enR Q))), (m6, .inl (cI, 24, .inl (enP Q))), (m7, .inl (cI, 300, .inl (enS Q))), (m8, .inl (cI, 6, .inl (enB ca we))), (m9, .inl (cI, 3, .inl (enN day co nw)))] ∧ va_S A s.heap H locs ∧ lv_has ls 7 [(3, .int (nI i)), (1, .long d), (0, .ref mo)] ∧ (i + k = nb) ∧ (gDD 6 (fun b v => gBed Q nq nw v b) k i d = gDD 6 (fun b v => gBed Q nq nw v b) nb 0 (gD (Q 0) 9 0 (gD (gCntC Q nq nw day co) 10 0 1237)))) (fun (zz : Nat × Nat × Int64) => match zz with | (k, i, d) => k) (nb, 0, gD (Q 0) 9 0 (gD (gCntC Q nq nw day co) 10 0 1237)) ⟨hP, hD, hS, lv_sub hl [0, 3, 4] rfl, (by omega), rfl⟩ ?_
      rintro ⟨k, i, d⟩ ih H locs ls ⟨hP, hD, hS, hl, hin, hF⟩
      have hP : va_P D vwCl [(mo, .inr (6, [.int 0, .int (nI nb), .int (nI nq), .int (nI nr), .ref m4, .ref m5, .ref m6, .ref m7, .ref m8, .ref m9])), (m4, .inl (cI, 9, .inl (Q 0))), (m5, .inl (cI, 20, .inl (enR Q))), (m6, .inl (cI, 24, .inl (enP Q))), (m7, .inl (cI, 300, .inl (enS Q))), (m8, .inl (cI, 6, .inl (enB ca we))), (m9, .inl (cI, 3, .inl (enN day co nw)))] H := hP
      have hD : va_D A [(mo, .inr (6, [.int 0, .int (nI nb), .int (nI nq), .int (nI nr), .ref m4, .ref m5, .ref m6, .ref m7, .ref m8, .ref m9])), (m4, .inl (cI, 9, .inl (Q 0))), (m5, .inl (cI, 20, .inl (enR Q))), (m6, .inl (cI, 24, .inl (enP Q))), (m7, .inl (cI, 300, .inl (enS Q))), (m8, .inl (cI, 6, .inl (enB ca we))), (m9, .inl (cI, 3, .inl (enN day co nw)))] := hD
      have hl : lv_has ls 7 [(3, .int (nI i)), (1, .long d), (0, .ref mo)] := hl
      have hin : i + k = nb := hin
      have hF : gDD 6 (fun b v => gBed Q nq nw v b) k i d = gDD 6 (fun b v => gBed Q nq nw v b) nb 0 (gD (Q 0) 9 0 (gD (gCntC Q nq nw day co) 10 0 1237)) := hF
      have ih79 := ih
      refine lv_iload_n hx hb dX6_digest_79 rfl (lv_at hl 0 rfl) ?_
      refine lv_aload_n hx hb dX6_digest_80 rfl (lv_at hl 2 rfl) ?_
      refine va_get (D := D) (ci := 6) (v := .int (nI nb)) (C := RX6) (T := TX6) (N := 10) hx hb hts wc_X6_digest_ok_X6 hown hK hP 0 rfl rfl 1 (by decide) (hts _ wd_X6_digest_ok_4) (fun _ h9 => h9) rfl dX6_digest_81 ?_
      refine lv_icmp_ge (tgt := 124) hx hb dX6_digest_84 (by decide) (fun c => ?_) (fun c => ?_)
      · skip
        have hk0 : k = 0 := by have := gw_ge (by omega) (by omega) c; omega
        subst hk0
        have hq : d = gDD 6 (fun b v => gBed Q nq nw v b) nb 0 (gD (Q 0) 9 0 (gD (gCntC Q nq nw day co) 10 0 1237)) := hF
        subst hq
        refine lv_iconst (v := 0) hx hb dX6_digest_124 (by decide) ?_
        refine lv_istore_n (lv' := [(3, .int 0), (1, .long (gDD 6 (fun b v => gBed Q nq nw v b) nb 0 (gD (Q 0) 9 0 (gD (gCntC Q nq nw day co) 10 0 1237)))), (0, .ref mo)]) hx hb dX6_digest_125 rfl hl (by decide) rfl (fun ls hl => ?_)
        refine gw_loop (fun (zz : Nat × Nat × Int64) H locs ls => match zz with | (k, i, d) => va_P D vwCl [(mo, .inr (6, [.int 0, .int (nI nb), .int (nI nq), .int (nI nr), .ref m4, .ref m5, .ref m6, .ref m7, .ref m8, .ref m9])), (m4, .inl (cI, 9, .inl (Q 0))), (m5, .inl (cI, 20, .inl (enR Q))), (m6, .inl (cI, 24, .inl (enP Q))), (m7, .inl (cI, 300, .inl (enS Q))), (m8, .inl (cI, 6, .inl (enB ca we))), (m9, .inl (cI, 3, .inl (enN day co nw)))] H ∧ va_D A [(mo, .inr (6, [.int 0, .int (nI nb), .int (nI nq), .int (nI nr), .ref m4, .ref m5, .ref m6, .ref m7, .ref m8, .ref m9])), (m4, .inl (cI, 9, .inl (Q 0))), (m5, .inl (cI, 20, .inl (enR Q))), (m6, .inl (cI, 24, .inl (enP Q))), (m7, .inl (cI, 300, .inl (enS Q))), (m8, .inl (cI, 6, .inl (enB ca we))), (m9, .inl (cI, 3, .inl (enN day co nw)))] ∧ va_S A s.heap H locs ∧ lv_has ls 7 [(3, .int (nI i)), (1, .long d), (0, .ref mo)] ∧ (i + k = nq) ∧ (gDD 5 (fun q v => gQua Q v q) k i d = gDD 5 (fun q v => gQua Q v q) nq 0 (gDD 6 (fun b v => gBed Q nq nw v b) nb 0 (gD (Q 0) 9 0 (gD (gCntC Q nq nw day co) 10 0 1237))))) (fun (zz : Nat × Nat × Int64) => match zz with | (k, i, d) => k) (nq, 0, gDD 6 (fun b v => gBed Q nq nw v b) nb 0 (gD (Q 0) 9 0 (gD (gCntC Q nq nw day co) 10 0 1237))) ⟨hP, hD, hS, lv_sub hl [0, 1, 2] rfl, (by omega), rfl⟩ ?_
        rintro ⟨k, i, d⟩ ih H locs ls ⟨hP, hD, hS, hl, hin, hF⟩
        have hP : va_P D vwCl [(mo, .inr (6, [.int 0, .int (nI nb), .int (nI nq), .int (nI nr), .ref m4, .ref m5, .ref m6, .ref m7, .ref m8, .ref m9])), (m4, .inl (cI, 9, .inl (Q 0))), (m5, .inl (cI, 20, .inl (enR Q))), (m6, .inl (cI, 24, .inl (enP Q))), (m7, .inl (cI, 300, .inl (enS Q))), (m8, .inl (cI, 6, .inl (enB ca we))), (m9, .inl (cI, 3, .inl (enN day co nw)))] H := hP
        have hD : va_D A [(mo, .inr (6, [.int 0, .int (nI nb), .int (nI nq), .int (nI nr), .ref m4, .ref m5, .ref m6, .ref m7, .ref m8, .ref m9])), (m4, .inl (cI, 9, .inl (Q 0))), (m5, .inl (cI, 20, .inl (enR Q))), (m6, .inl (cI, 24, .inl (enP Q))), (m7, .inl (cI, 300, .inl (enS Q))), (m8, .inl (cI, 6, .inl (enB ca we))), (m9, .inl (cI, 3, .inl (enN day co nw)))] := hD
        have hl : lv_has ls 7 [(3, .int (nI i)), (1, .long d), (0, .ref mo)] := hl
        have hin : i + k = nq := hin
        have hF : gDD 5 (fun q v => gQua Q v q) k i d = gDD 5 (fun q v => gQua Q v q) nq 0 (gDD 6 (fun b v => gBed Q nq nw v b) nb 0 (gD (Q 0) 9 0 (gD (gCntC Q nq nw day co) 10 0 1237))) := hF
        have ih126 := ih
        refine lv_iload_n hx hb dX6_digest_126 rfl (lv_at hl 0 rfl) ?_
        refine lv_aload_n hx hb dX6_digest_127 rfl (lv_at hl 2 rfl) ?_
        refine va_get (D := D) (ci := 6) (v := .int (nI nq)) (C := RX6) (T := TX6) (N := 10) hx hb hts wc_X6_digest_ok_X6 hown hK hP 0 rfl rfl 2 (by decide) (hts _ wd_X6_digest_ok_5) (fun _ h9 => h9) rfl dX6_digest_128 ?_
        refine lv_icmp_ge (tgt := 170) hx hb dX6_digest_131 (by decide) (fun c => ?_) (fun c => ?_)
        · skip
          have hk0 : k = 0 := by have := gw_ge (by omega) (by omega) c; omega
          subst hk0
          have hq : d = gDD 5 (fun q v => gQua Q v q) nq 0 (gDD 6 (fun b v => gBed Q nq nw v b) nb 0 (gD (Q 0) 9 0 (gD (gCntC Q nq nw day co) 10 0 1237))) := hF
          subst hq
          refine lv_iconst (v := 0) hx hb dX6_digest_170 (by decide) ?_
          refine lv_istore_n (lv' := [(3, .int 0), (1, .long (gDD 5 (fun q v => gQua Q v q) nq 0 (gDD 6 (fun b v => gBed Q nq nw v b) nb 0 (gD (Q 0) 9 0 (gD (gCntC Q nq nw day co) 10 0 1237))))), (0, .ref mo)]) hx hb dX6_digest_171 rfl hl (by decide) rfl (fun ls hl => ?_)
          refine gw_loop (fun (zz : Nat × Nat × Int64) H locs ls => match zz with | (k, i, d) => va_P D vwCl [(mo, .inr (6, [.int 0, .int (nI nb), .int (nI nq), .int (nI nr), .ref m4, .ref m5, .ref m6, .ref m7, .ref m8, .ref m9])), (m4, .inl (cI, 9, .inl (Q 0))), (m5, .inl (cI, 20, .inl (enR Q))), (m6, .inl (cI, 24, .inl (enP Q))), (m7, .inl (cI, 300, .inl (enS Q))), (m8, .inl (cI, 6, .inl (enB ca we))), (m9, .inl (cI, 3, .inl (enN day co nw)))] H ∧ va_D A [(mo, .inr (6, [.int 0, .int (nI nb), .int (nI nq), .int (nI nr), .ref m4, .ref m5, .ref m6, .ref m7, .ref m8, .ref m9])), (m4, .inl (cI, 9, .inl (Q 0))), (m5, .inl (cI, 20, .inl (enR Q))), (m6, .inl (cI, 24, .inl (enP Q))), (m7, .inl (cI, 300, .inl (enS Q))), (m8, .inl (cI, 6, .inl (enB ca we))), (m9, .inl (cI, 3, .inl (enN day co nw)))] ∧ va_S A s.heap H locs ∧ lv_has ls 7 [(3, .int (nI i)), (1, .long d), (0, .ref mo)] ∧ (i + k = nw) ∧ (gDD 6 (fun w v => gFact v (Q 9 w) (Q 11 w) (Q 10 w) (Q 13 w) (Q 12 w) (Q 14 w)) k i d = gDD 6 (fun w v => gFact v (Q 9 w) (Q 11 w) (Q 10 w) (Q 13 w) (Q 12 w) (Q 14 w)) nw 0 (gDD 5 (fun q v => gQua Q v q) nq 0 (gDD 6 (fun b v => gBed Q nq nw v b) nb 0 (gD (Q 0) 9 0 (gD (gCntC Q nq nw day co) 10 0 1237)))))) (fun (zz : Nat × Nat × Int64) => match zz with | (k, i, d) => k) (nw, 0, gDD 5 (fun q v => gQua Q v q) nq 0 (gDD 6 (fun b v => gBed Q nq nw v b) nb 0 (gD (Q 0) 9 0 (gD (gCntC Q nq nw day co) 10 0 1237)))) ⟨hP, hD, hS, lv_sub hl [0, 1, 2] rfl, (by omega), rfl⟩ ?_
          rintro ⟨k, i, d⟩ ih H locs ls ⟨hP, hD, hS, hl, hin, hF⟩
          have hP : va_P D vwCl [(mo, .inr (6, [.int 0, .int (nI nb), .int (nI nq), .int (nI nr), .ref m4, .ref m5, .ref m6, .ref m7, .ref m8, .ref m9])), (m4, .inl (cI, 9, .inl (Q 0))), (m5, .inl (cI, 20, .inl (enR Q))), (m6, .inl (cI, 24, .inl (enP Q))), (m7, .inl (cI, 300, .inl (enS Q))), (m8, .inl (cI, 6, .inl (enB ca we))), (m9, .inl (cI, 3, .inl (enN day co nw)))] H := hP
          have hD : va_D A [(mo, .inr (6, [.int 0, .int (nI nb), .int (nI nq), .int (nI nr), .ref m4, .ref m5, .ref m6, .ref m7, .ref m8, .ref m9])), (m4, .inl (cI, 9, .inl (Q 0))), (m5, .inl (cI, 20, .inl (enR Q))), (m6, .inl (cI, 24, .inl (enP Q))), (m7, .inl (cI, 300, .inl (enS Q))), (m8, .inl (cI, 6, .inl (enB ca we))), (m9, .inl (cI, 3, .inl (enN day co nw)))] := hD
          have hl : lv_has ls 7 [(3, .int (nI i)), (1, .long d), (0, .ref mo)] := hl
          have hin : i + k = nw := hin
          have hF : gDD 6 (fun w v => gFact v (Q 9 w) (Q 11 w) (Q 10 w) (Q 13 w) (Q 12 w) (Q 14 w)) k i d = gDD 6 (fun w v => gFact v (Q 9 w) (Q 11 w) (Q 10 w) (Q 13 w) (Q 12 w) (Q 14 w)) nw 0 (gDD 5 (fun q v => gQua Q v q) nq 0 (gDD 6 (fun b v => gBed Q nq nw v b) nb 0 (gD (Q 0) 9 0 (gD (gCntC Q nq nw day co) 10 0 1237)))) := hF
          have ih172 := ih
          refine lv_iload_n hx hb dX6_digest_172 rfl (lv_at hl 0 rfl) ?_
          refine lv_aload_n hx hb dX6_digest_173 rfl (lv_at hl 2 rfl) ?_
          refine va_get (D := D) (ci := 6) (v := .ref m9) (C := RX6) (T := TX6) (N := 10) hx hb hts wc_X6_digest_ok_X6 hown hK hP 0 rfl rfl 9 (by decide) (hts _ wd_X6_digest_ok_6) (fun _ h9 => h9) rfl dX6_digest_174 ?_
          refine lv_iconst (v := 2) hx hb dX6_digest_177 (by decide) ?_
          refine gw_top (y := nI 2) rfl ?_
          refine gw_iald hx hb hK hP 6 0 (k := 2) rfl rfl (by omega) (by decide) dX6_digest_178 ?_
          refine gw_top (y := nI nw) rfl ?_
          refine lv_icmp_ge (tgt := 219) hx hb dX6_digest_179 (by decide) (fun c => ?_) (fun c => ?_)
          · skip
            have hk0 : k = 0 := by have := gw_ge (by omega) (by omega) c; omega
            subst hk0
            have hq : d = gDD 6 (fun w v => gFact v (Q 9 w) (Q 11 w) (Q 10 w) (Q 13 w) (Q 12 w) (Q 14 w)) nw 0 (gDD 5 (fun q v => gQua Q v q) nq 0 (gDD 6 (fun b v => gBed Q nq nw v b) nb 0 (gD (Q 0) 9 0 (gD (gCntC Q nq nw day co) 10 0 1237)))) := hF
            subst hq
            refine lv_iconst (v := 0) hx hb dX6_digest_219 (by decide) ?_
            refine lv_istore_n (lv' := [(3, .int 0), (1, .long (gDD 6 (fun w v => gFact v (Q 9 w) (Q 11 w) (Q 10 w) (Q 13 w) (Q 12 w) (Q 14 w)) nw 0 (gDD 5 (fun q v => gQua Q v q) nq 0 (gDD 6 (fun b v => gBed Q nq nw v b) nb 0 (gD (Q 0) 9 0 (gD (gCntC Q nq nw day co) 10 0 1237)))))), (0, .ref mo)]) hx hb dX6_digest_220 rfl hl (by decide) rfl (fun ls hl => ?_)
            refine gw_loop (fun (zz : Nat × Nat × Int64) H locs ls => match zz with | (k, i, d) => va_P D vwCl [(mo, .inr (6, [.int 0, .int (nI nb), .int (nI nq), .int (nI nr), .ref m4, .ref m5, .ref m6, .ref m7, .ref m8, .ref m9])), (m4, .inl (cI, 9, .inl (Q 0))), (m5, .inl (cI, 20, .inl (enR Q))), (m6, .inl (cI, 24, .inl (enP Q))), (m7, .inl (cI, 300, .inl (enS Q))), (m8, .inl (cI, 6, .inl (enB ca we))), (m9, .inl (cI, 3, .inl (enN day co nw)))] H ∧ va_D A [(mo, .inr (6, [.int 0, .int (nI nb), .int (nI nq), .int (nI nr), .ref m4, .ref m5, .ref m6, .ref m7, .ref m8, .ref m9])), (m4, .inl (cI, 9, .inl (Q 0))), (m5, .inl (cI, 20, .inl (enR Q))), (m6, .inl (cI, 24, .inl (enP Q))), (m7, .inl (cI, 300, .inl (enS Q))), (m8, .inl (cI, 6, .inl (enB ca we))), (m9, .inl (cI, 3, .inl (enN day co nw)))] ∧ va_S A s.heap H locs ∧ lv_has ls 7 [(3, .int (nI i)), (1, .long d), (0, .ref mo)] ∧ (i + k = nr) ∧ (gDD 4 (fun r v => gRaft Q nw day ca bo v r) k i d = gDD 4 (fun r v => gRaft Q nw day ca bo v r) nr 0 (gDD 6 (fun w v => gFact v (Q 9 w) (Q 11 w) (Q 10 w) (Q 13 w) (Q 12 w) (Q 14 w)) nw 0 (gDD 5 (fun q v => gQua Q v q) nq 0 (gDD 6 (fun b v => gBed Q nq nw v b) nb 0 (gD (Q 0) 9 0 (gD (gCntC Q nq nw day co) 10 0 1237))))))) (fun (zz : Nat × Nat × Int64) => match zz with | (k, i, d) => k) (nr, 0, gDD 6 (fun w v => gFact v (Q 9 w) (Q 11 w) (Q 10 w) (Q 13 w) (Q 12 w) (Q 14 w)) nw 0 (gDD 5 (fun q v => gQua Q v q) nq 0 (gDD 6 (fun b v => gBed Q nq nw v b) nb 0 (gD (Q 0) 9 0 (gD (gCntC Q nq nw day co) 10 0 1237))))) ⟨hP, hD, hS, lv_sub hl [0, 1, 2] rfl, (by omega), rfl⟩ ?_
            rintro ⟨k, i, d⟩ ih H locs ls ⟨hP, hD, hS, hl, hin, hF⟩
            have hP : va_P D vwCl [(mo, .inr (6, [.int 0, .int (nI nb), .int (nI nq), .int (nI nr), .ref m4, .ref m5, .ref m6, .ref m7, .ref m8, .ref m9])), (m4, .inl (cI, 9, .inl (Q 0))), (m5, .inl (cI, 20, .inl (enR Q))), (m6, .inl (cI, 24, .inl (enP Q))), (m7, .inl (cI, 300, .inl (enS Q))), (m8, .inl (cI, 6, .inl (enB ca we))), (m9, .inl (cI, 3, .inl (enN day co nw)))] H := hP
            have hD : va_D A [(mo, .inr (6, [.int 0, .int (nI nb), .int (nI nq), .int (nI nr), .ref m4, .ref m5, .ref m6, .ref m7, .ref m8, .ref m9])), (m4, .inl (cI, 9, .inl (Q 0))), (m5, .inl (cI, 20, .inl (enR Q))), (m6, .inl (cI, 24, .inl (enP Q))), (m7, .inl (cI, 300, .inl (enS Q))), (m8, .inl (cI, 6, .inl (enB ca we))), (m9, .inl (cI, 3, .inl (enN day co nw)))] := hD
            have hl : lv_has ls 7 [(3, .int (nI i)), (1, .long d), (0, .ref mo)] := hl
            have hin : i + k = nr := hin
            have hF : gDD 4 (fun r v => gRaft Q nw day ca bo v r) k i d = gDD 4 (fun r v => gRaft Q nw day ca bo v r) nr 0 (gDD 6 (fun w v => gFact v (Q 9 w) (Q 11 w) (Q 10 w) (Q 13 w) (Q 12 w) (Q 14 w)) nw 0 (gDD 5 (fun q v => gQua Q v q) nq 0 (gDD 6 (fun b v => gBed Q nq nw v b) nb 0 (gD (Q 0) 9 0 (gD (gCntC Q nq nw day co) 10 0 1237))))) := hF
            have ih221 := ih
            refine lv_iload_n hx hb dX6_digest_221 rfl (lv_at hl 0 rfl) ?_
            refine lv_aload_n hx hb dX6_digest_222 rfl (lv_at hl 2 rfl) ?_
            refine va_get (D := D) (ci := 6) (v := .int (nI nr)) (C := RX6) (T := TX6) (N := 10) hx hb hts wc_X6_digest_ok_X6 hown hK hP 0 rfl rfl 3 (by decide) (hts _ wd_X6_digest_ok_7) (fun _ h9 => h9) rfl dX6_digest_223 ?_
            refine lv_icmp_ge (tgt := 265) hx hb dX6_digest_226 (by decide) (fun c => ?_) (fun c => ?_)
            · skip
              have hk0 : k = 0 := by have := gw_ge (by omega) (by omega) c; omega
              subst hk0
              have hq : d = gDD 4 (fun r v => gRaft Q nw day ca bo v r) nr 0 (gDD 6 (fun w v => gFact v (Q 9 w) (Q 11 w) (Q 10 w) (Q 13 w) (Q 12 w) (Q 14 w)) nw 0 (gDD 5 (fun q v => gQua Q v q) nq 0 (gDD 6 (fun b v => gBed Q nq nw v b) nb 0 (gD (Q 0) 9 0 (gD (gCntC Q nq nw day co) 10 0 1237))))) := hF
              subst hq
              refine lv_lload_n hx hb dX6_digest_265 rfl (lv_at hl 1 rfl) ?_
              subst hAe
              exact W.lret (v := gDD 4 (fun r v => gRaft Q nw day ca bo v r) nr 0 (gDD 6 (fun w v => gFact v (Q 9 w) (Q 11 w) (Q 10 w) (Q 13 w) (Q 12 w) (Q 14 w)) nw 0 (gDD 5 (fun q v => gQua Q v q) nq 0 (gDD 6 (fun b v => gBed Q nq nw v b) nb 0 (gD (Q 0) 9 0 (gD (gCntC Q nq nw day co) 10 0 1237)))))) hx hb hr (fun t ht hW => ⟨⟨_, (), rfl, rfl, gw_hh ht hP⟩, hS.F ht⟩) hS.2.2 dX6_digest_266
            · skip
              have hi : i < nr := gw_lt (by omega) (by omega) c
              obtain ⟨k, rfl⟩ : ∃ k2, k = k2 + 1 := ⟨k - 1, by omega⟩
              refine lv_iconst (v := 0) hx hb dX6_digest_229 (by decide) ?_
              refine lv_istore (lv' := [(4, .int 0), (3, .int (nI i)), (1, .long d), (0, .ref mo)]) hx hb dX6_digest_230 hl (by decide) rfl (fun ls hl => ?_)
              refine gw_loop (fun (zz : Nat × Nat × Int64) H locs ls => match zz with | (kv, v, d2) => va_P D vwCl [(mo, .inr (6, [.int 0, .int (nI nb), .int (nI nq), .int (nI nr), .ref m4, .ref m5, .ref m6, .ref m7, .ref m8, .ref m9])), (m4, .inl (cI, 9, .inl (Q 0))), (m5, .inl (cI, 20, .inl (enR Q))), (m6, .inl (cI, 24, .inl (enP Q))), (m7, .inl (cI, 300, .inl (enS Q))), (m8, .inl (cI, 6, .inl (enB ca we))), (m9, .inl (cI, 3, .inl (enN day co nw)))] H ∧ va_D A [(mo, .inr (6, [.int 0, .int (nI nb), .int (nI nq), .int (nI nr), .ref m4, .ref m5, .ref m6, .ref m7, .ref m8, .ref m9])), (m4, .inl (cI, 9, .inl (Q 0))), (m5, .inl (cI, 20, .inl (enR Q))), (m6, .inl (cI, 24, .inl (enP Q))), (m7, .inl (cI, 300, .inl (enS Q))), (m8, .inl (cI, 6, .inl (enB ca we))), (m9, .inl (cI, 3, .inl (enN day co nw)))] ∧ va_S A s.heap H locs ∧ lv_has ls 7 [(4, .int (nI v)), (3, .int (nI i)), (1, .long d2), (0, .ref mo)] ∧ (v + kv = 4) ∧ (gD ((fun r v => gRaft Q nw day ca bo v r) i) kv v d2 = gD ((fun r v => gRaft Q nw day ca bo v r) i) 4 0 d)) (fun (zz : Nat × Nat × Int64) => match zz with | (kv, v, d2) => kv) (4, 0, d) ⟨hP, hD, hS, lv_sub hl [0, 1, 2, 3] rfl, (by omega), rfl⟩ ?_
              rintro ⟨kv, v, d2⟩ ih H locs ls ⟨hP, hD, hS, hl, hinv, hF2⟩
              have hP : va_P D vwCl [(mo, .inr (6, [.int 0, .int (nI nb), .int (nI nq), .int (nI nr), .ref m4, .ref m5, .ref m6, .ref m7, .ref m8, .ref m9])), (m4, .inl (cI, 9, .inl (Q 0))), (m5, .inl (cI, 20, .inl (enR Q))), (m6, .inl (cI, 24, .inl (enP Q))), (m7, .inl (cI, 300, .inl (enS Q))), (m8, .inl (cI, 6, .inl (enB ca we))), (m9, .inl (cI, 3, .inl (enN day co nw)))] H := hP
              have hD : va_D A [(mo, .inr (6, [.int 0, .int (nI nb), .int (nI nq), .int (nI nr), .ref m4, .ref m5, .ref m6, .ref m7, .ref m8, .ref m9])), (m4, .inl (cI, 9, .inl (Q 0))), (m5, .inl (cI, 20, .inl (enR Q))), (m6, .inl (cI, 24, .inl (enP Q))), (m7, .inl (cI, 300, .inl (enS Q))), (m8, .inl (cI, 6, .inl (enB ca we))), (m9, .inl (cI, 3, .inl (enN day co nw)))] := hD
              have hl : lv_has ls 7 [(4, .int (nI v)), (3, .int (nI i)), (1, .long d2), (0, .ref mo)] := hl
              have hinv : v + kv = 4 := hinv
              have hF2 : gD ((fun r v => gRaft Q nw day ca bo v r) i) kv v d2 = gD ((fun r v => gRaft Q nw day ca bo v r) i) 4 0 d := hF2
              have ih232 := ih
              refine lv_iload hx hb dX6_digest_232 (lv_at hl 0 rfl) ?_
              refine lv_iconst (v := 4) hx hb dX6_digest_234 (by decide) ?_
              refine lv_icmp_ge (tgt := 259) hx hb dX6_digest_235 (by decide) (fun c7 => ?_) (fun c7 => ?_)
              · skip
                have hk1 : kv = 0 := by have := gw_ge (n := 4) (by omega) (by omega) c7; omega
                subst hk1
                have hq2 : d2 = gD ((fun r v => gRaft Q nw day ca bo v r) i) 4 0 d := hF2
                subst hq2
                refine lv_iinc (v := nI (i + 1)) (lv' := [(3, .int (nI (i + 1))), (4, .int (nI v)), (1, .long (gD ((fun r v => gRaft Q nw day ca bo v r) i) 4 0 d)), (0, .ref mo)]) hx hb dX6_digest_259 hl (k := 1) rfl (nI_add i 1) (by decide) rfl (fun ls hl => ?_)
                refine lv_goto (tgt := 221) hx hb dX6_digest_262 (by decide) ?_
                exact ih221 (k, i + 1, gD ((fun r v => gRaft Q nw day ca bo v r) i) 4 0 d) H locs ls (by dsimp only; omega) ⟨hP, hD, hS, lv_sub hl [0, 2, 3] rfl, (by omega), hF⟩
              · skip
                have hv : v < 4 := gw_lt (n := 4) (by omega) (by omega) c7
                obtain ⟨kv, rfl⟩ : ∃ k2, kv = k2 + 1 := ⟨kv - 1, by omega⟩
                refine lv_lload_n hx hb dX6_digest_238 rfl (lv_at hl 2 rfl) ?_
                refine lv_ldc2 (v := 31) hx hb hown (hts _ wd_X6_digest_ok_8) dX6_digest_239 ?_
                refine lv_lmul hx hb dX6_digest_242 ?_
                refine lv_aload_n hx hb dX6_digest_243 rfl (lv_at hl 3 rfl) ?_
                refine lv_iload_n hx hb dX6_digest_244 rfl (lv_at hl 1 rfl) ?_
                refine lv_iload hx hb dX6_digest_245 (lv_at hl 0 rfl) ?_
                refine va_calli (va_runV (As := [.int (nI i), .int (nI v)]) (rest := [.long (d2 * 31)]) ⟨hx, hb, hml, hown, hts⟩ (met_X6_raftTold l D cI cZ cL mo m4 m5 m6 m7 m8 m9 0 nb nq nr Q day co nw ca we bo i v (by first | assumption | omega) (by first | assumption | omega) (by first | assumption | omega) (by first | assumption | omega) (hrw i (by omega))) (cwV 2 hts gX6_digest_X6_raftTold rfl rfl rfl (by decide +kernel) ⟨Nat.le_of_ble_eq_true rfl, Nat.le_of_ble_eq_true rfl⟩) (gw_pvr hK hP (wc := [(mo, .inr (6, [.int 0, .int (nI nb), .int (nI nq), .int (nI nr), .ref m4, .ref m5, .ref m6, .ref m7, .ref m8, .ref m9])), (m7, .inl (cI, 300, .inl (enS Q))), (m8, .inl (cI, 6, .inl (enB ca we))), (m9, .inl (cI, 3, .inl (enN day co nw)))]) [0, 4, 5, 6] rfl 6 rfl rfl rfl) rfl rfl hl.1 rfl (lv_room (Nat.le_of_ble_eq_true rfl)) dX6_digest_247 ⟨Nat.zero_le _, Nat.zero_le _⟩) hS (fun _ _ z => z.elim) (fun _ z => z.elim) (fun r_9 _ t H1 locs ht hvm hw hB hz1 hk1 hS => ?_)
                have hP := gw_ro hP hk1
                generalize H1 = H at hP hS ⊢
                subst hw
                refine lv_i2l (v := (gRaft Q nw day ca bo v i).toInt64) hx hb dX6_digest_250 rfl ?_
                refine lv_ladd hx hb dX6_digest_251 ?_
                refine lv_lstore_n (lv' := [(1, .long ((d2 * 31) + ((gRaft Q nw day ca bo v i).toInt64))), (4, .int (nI v)), (3, .int (nI i)), (0, .ref mo)]) hx hb dX6_digest_252 rfl hl (by decide) rfl (fun ls hl => ?_)
                refine lv_iinc (v := nI (v + 1)) (lv' := [(4, .int (nI (v + 1))), (1, .long ((d2 * 31) + ((gRaft Q nw day ca bo v i).toInt64))), (3, .int (nI i)), (0, .ref mo)]) hx hb dX6_digest_253 hl (k := 1) rfl (nI_add v 1) (by decide) rfl (fun ls hl => ?_)
                refine lv_goto (tgt := 232) hx hb dX6_digest_256 (by decide) ?_
                exact ih232 (kv, v + 1, (d2 * 31) + ((gRaft Q nw day ca bo v i).toInt64)) H locs ls (by dsimp only; omega) ⟨hP, hD, hS, lv_sub hl [0, 2, 1, 3] rfl, (by omega), hF2⟩
          · skip
            have hi : i < nw := gw_lt (by omega) (by omega) c
            obtain ⟨k, rfl⟩ : ∃ k2, k = k2 + 1 := ⟨k - 1, by omega⟩
            refine lv_iconst (v := 0) hx hb dX6_digest_182 (by decide) ?_
            refine lv_istore (lv' := [(4, .int 0), (3, .int (nI i)), (1, .long d), (0, .ref mo)]) hx hb dX6_digest_183 hl (by decide) rfl (fun ls hl => ?_)
            refine gw_loop (fun (zz : Nat × Nat × Int64) H locs ls => match zz with | (kv, v, d2) => va_P D vwCl [(mo, .inr (6, [.int 0, .int (nI nb), .int (nI nq), .int (nI nr), .ref m4, .ref m5, .ref m6, .ref m7, .ref m8, .ref m9])), (m4, .inl (cI, 9, .inl (Q 0))), (m5, .inl (cI, 20, .inl (enR Q))), (m6, .inl (cI, 24, .inl (enP Q))), (m7, .inl (cI, 300, .inl (enS Q))), (m8, .inl (cI, 6, .inl (enB ca we))), (m9, .inl (cI, 3, .inl (enN day co nw)))] H ∧ va_D A [(mo, .inr (6, [.int 0, .int (nI nb), .int (nI nq), .int (nI nr), .ref m4, .ref m5, .ref m6, .ref m7, .ref m8, .ref m9])), (m4, .inl (cI, 9, .inl (Q 0))), (m5, .inl (cI, 20, .inl (enR Q))), (m6, .inl (cI, 24, .inl (enP Q))), (m7, .inl (cI, 300, .inl (enS Q))), (m8, .inl (cI, 6, .inl (enB ca we))), (m9, .inl (cI, 3, .inl (enN day co nw)))] ∧ va_S A s.heap H locs ∧ lv_has ls 7 [(4, .int (nI v)), (3, .int (nI i)), (1, .long d2), (0, .ref mo)] ∧ (v + kv = 6) ∧ (gD ((fun w v => gFact v (Q 9 w) (Q 11 w) (Q 10 w) (Q 13 w) (Q 12 w) (Q 14 w)) i) kv v d2 = gD ((fun w v => gFact v (Q 9 w) (Q 11 w) (Q 10 w) (Q 13 w) (Q 12 w) (Q 14 w)) i) 6 0 d)) (fun (zz : Nat × Nat × Int64) => match zz with | (kv, v, d2) => kv) (6, 0, d) ⟨hP, hD, hS, lv_sub hl [0, 1, 2, 3] rfl, (by omega), rfl⟩ ?_
            rintro ⟨kv, v, d2⟩ ih H locs ls ⟨hP, hD, hS, hl, hinv, hF2⟩
            have hP : va_P D vwCl [(mo, .inr (6, [.int 0, .int (nI nb), .int (nI nq), .int (nI nr), .ref m4, .ref m5, .ref m6, .ref m7, .ref m8, .ref m9])), (m4, .inl (cI, 9, .inl (Q 0))), (m5, .inl (cI, 20, .inl (enR Q))), (m6, .inl (cI, 24, .inl (enP Q))), (m7, .inl (cI, 300, .inl (enS Q))), (m8, .inl (cI, 6, .inl (enB ca we))), (m9, .inl (cI, 3, .inl (enN day co nw)))] H := hP
            have hD : va_D A [(mo, .inr (6, [.int 0, .int (nI nb), .int (nI nq), .int (nI nr), .ref m4, .ref m5, .ref m6, .ref m7, .ref m8, .ref m9])), (m4, .inl (cI, 9, .inl (Q 0))), (m5, .inl (cI, 20, .inl (enR Q))), (m6, .inl (cI, 24, .inl (enP Q))), (m7, .inl (cI, 300, .inl (enS Q))), (m8, .inl (cI, 6, .inl (enB ca we))), (m9, .inl (cI, 3, .inl (enN day co nw)))] := hD
            have hl : lv_has ls 7 [(4, .int (nI v)), (3, .int (nI i)), (1, .long d2), (0, .ref mo)] := hl
            have hinv : v + kv = 6 := hinv
            have hF2 : gD ((fun w v => gFact v (Q 9 w) (Q 11 w) (Q 10 w) (Q 13 w) (Q 12 w) (Q 14 w)) i) kv v d2 = gD ((fun w v => gFact v (Q 9 w) (Q 11 w) (Q 10 w) (Q 13 w) (Q 12 w) (Q 14 w)) i) 6 0 d := hF2
            have ih185 := ih
            refine lv_iload hx hb dX6_digest_185 (lv_at hl 0 rfl) ?_
            refine lv_bipush (v := 6) hx hb dX6_digest_187 (by decide) ?_
            refine lv_icmp_ge (tgt := 213) hx hb dX6_digest_189 (by decide) (fun c7 => ?_) (fun c7 => ?_)
            · skip
              have hk1 : kv = 0 := by have := gw_ge (n := 6) (by omega) (by omega) c7; omega
              subst hk1
              have hq2 : d2 = gD ((fun w v => gFact v (Q 9 w) (Q 11 w) (Q 10 w) (Q 13 w) (Q 12 w) (Q 14 w)) i) 6 0 d := hF2
              subst hq2
              refine lv_iinc (v := nI (i + 1)) (lv' := [(3, .int (nI (i + 1))), (4, .int (nI v)), (1, .long (gD ((fun w v => gFact v (Q 9 w) (Q 11 w) (Q 10 w) (Q 13 w) (Q 12 w) (Q 14 w)) i) 6 0 d)), (0, .ref mo)]) hx hb dX6_digest_213 hl (k := 1) rfl (nI_add i 1) (by decide) rfl (fun ls hl => ?_)
              refine lv_goto (tgt := 172) hx hb dX6_digest_216 (by decide) ?_
              exact ih172 (k, i + 1, gD ((fun w v => gFact v (Q 9 w) (Q 11 w) (Q 10 w) (Q 13 w) (Q 12 w) (Q 14 w)) i) 6 0 d) H locs ls (by dsimp only; omega) ⟨hP, hD, hS, lv_sub hl [0, 2, 3] rfl, (by omega), hF⟩
            · skip
              have hv : v < 6 := gw_lt (n := 6) (by omega) (by omega) c7
              obtain ⟨kv, rfl⟩ : ∃ k2, kv = k2 + 1 := ⟨kv - 1, by omega⟩
              refine lv_lload_n hx hb dX6_digest_192 rfl (lv_at hl 2 rfl) ?_
              refine lv_ldc2 (v := 31) hx hb hown (hts _ wd_X6_digest_ok_8) dX6_digest_193 ?_
              refine lv_lmul hx hb dX6_digest_196 ?_
              refine lv_aload_n hx hb dX6_digest_197 rfl (lv_at hl 3 rfl) ?_
              refine lv_iload_n hx hb dX6_digest_198 rfl (lv_at hl 1 rfl) ?_
              refine lv_iload hx hb dX6_digest_199 (lv_at hl 0 rfl) ?_
              refine va_calli (va_runV (As := [.int (nI i), .int (nI v)]) (rest := [.long (d2 * 31)]) ⟨hx, hb, hml, hown, hts⟩ (met_X6_wheelTold l D cI cZ cL mo m4 m5 m6 m7 m8 m9 0 nb nq nr Q day co nw i v (by first | assumption | omega) (by first | assumption | omega) (by first | assumption | omega) (by first | assumption | omega) (by first | assumption | omega) (by first | assumption | omega)) (cwV 2 hts gX6_digest_X6_wheelTold rfl rfl rfl (by decide +kernel) ⟨Nat.le_of_ble_eq_true rfl, Nat.le_of_ble_eq_true rfl⟩) (gw_pvr hK hP (wc := [(mo, .inr (6, [.int 0, .int (nI nb), .int (nI nq), .int (nI nr), .ref m4, .ref m5, .ref m6, .ref m7, .ref m8, .ref m9])), (m5, .inl (cI, 20, .inl (enR Q))), (m7, .inl (cI, 300, .inl (enS Q)))]) [0, 2, 4] rfl 6 rfl rfl rfl) rfl rfl hl.1 rfl (lv_room (Nat.le_of_ble_eq_true rfl)) dX6_digest_201 ⟨Nat.zero_le _, Nat.zero_le _⟩) hS (fun _ _ z => z.elim) (fun _ z => z.elim) (fun r_12 _ t H1 locs ht hvm hw hB hz1 hk1 hS => ?_)
              have hP := gw_ro hP hk1
              generalize H1 = H at hP hS ⊢
              subst hw
              refine lv_i2l (v := (gFact v (Q 9 i) (Q 11 i) (Q 10 i) (Q 13 i) (Q 12 i) (Q 14 i)).toInt64) hx hb dX6_digest_204 rfl ?_
              refine lv_ladd hx hb dX6_digest_205 ?_
              refine lv_lstore_n (lv' := [(1, .long ((d2 * 31) + ((gFact v (Q 9 i) (Q 11 i) (Q 10 i) (Q 13 i) (Q 12 i) (Q 14 i)).toInt64))), (4, .int (nI v)), (3, .int (nI i)), (0, .ref mo)]) hx hb dX6_digest_206 rfl hl (by decide) rfl (fun ls hl => ?_)
              refine lv_iinc (v := nI (v + 1)) (lv' := [(4, .int (nI (v + 1))), (1, .long ((d2 * 31) + ((gFact v (Q 9 i) (Q 11 i) (Q 10 i) (Q 13 i) (Q 12 i) (Q 14 i)).toInt64))), (3, .int (nI i)), (0, .ref mo)]) hx hb dX6_digest_207 hl (k := 1) rfl (nI_add v 1) (by decide) rfl (fun ls hl => ?_)
              refine lv_goto (tgt := 185) hx hb dX6_digest_210 (by decide) ?_
              exact ih185 (kv, v + 1, (d2 * 31) + ((gFact v (Q 9 i) (Q 11 i) (Q 10 i) (Q 13 i) (Q 12 i) (Q 14 i)).toInt64)) H locs ls (by dsimp only; omega) ⟨hP, hD, hS, lv_sub hl [0, 2, 1, 3] rfl, (by omega), hF2⟩
        · skip
          have hi : i < nq := gw_lt (by omega) (by omega) c
          obtain ⟨k, rfl⟩ : ∃ k2, k = k2 + 1 := ⟨k - 1, by omega⟩
          refine lv_iconst (v := 0) hx hb dX6_digest_134 (by decide) ?_
          refine lv_istore (lv' := [(4, .int 0), (3, .int (nI i)), (1, .long d), (0, .ref mo)]) hx hb dX6_digest_135 hl (by decide) rfl (fun ls hl => ?_)
          refine gw_loop (fun (zz : Nat × Nat × Int64) H locs ls => match zz with | (kv, v, d2) => va_P D vwCl [(mo, .inr (6, [.int 0, .int (nI nb), .int (nI nq), .int (nI nr), .ref m4, .ref m5, .ref m6, .ref m7, .ref m8, .ref m9])), (m4, .inl (cI, 9, .inl (Q 0))), (m5, .inl (cI, 20, .inl (enR Q))), (m6, .inl (cI, 24, .inl (enP Q))), (m7, .inl (cI, 300, .inl (enS Q))), (m8, .inl (cI, 6, .inl (enB ca we))), (m9, .inl (cI, 3, .inl (enN day co nw)))] H ∧ va_D A [(mo, .inr (6, [.int 0, .int (nI nb), .int (nI nq), .int (nI nr), .ref m4, .ref m5, .ref m6, .ref m7, .ref m8, .ref m9])), (m4, .inl (cI, 9, .inl (Q 0))), (m5, .inl (cI, 20, .inl (enR Q))), (m6, .inl (cI, 24, .inl (enP Q))), (m7, .inl (cI, 300, .inl (enS Q))), (m8, .inl (cI, 6, .inl (enB ca we))), (m9, .inl (cI, 3, .inl (enN day co nw)))] ∧ va_S A s.heap H locs ∧ lv_has ls 7 [(4, .int (nI v)), (3, .int (nI i)), (1, .long d2), (0, .ref mo)] ∧ (v + kv = 5) ∧ (gD ((fun q v => gQua Q v q) i) kv v d2 = gD ((fun q v => gQua Q v q) i) 5 0 d)) (fun (zz : Nat × Nat × Int64) => match zz with | (kv, v, d2) => kv) (5, 0, d) ⟨hP, hD, hS, lv_sub hl [0, 1, 2, 3] rfl, (by omega), rfl⟩ ?_
          rintro ⟨kv, v, d2⟩ ih H locs ls ⟨hP, hD, hS, hl, hinv, hF2⟩
          have hP : va_P D vwCl [(mo, .inr (6, [.int 0, .int (nI nb), .int (nI nq), .int (nI nr), .ref m4, .ref m5, .ref m6, .ref m7, .ref m8, .ref m9])), (m4, .inl (cI, 9, .inl (Q 0))), (m5, .inl (cI, 20, .inl (enR Q))), (m6, .inl (cI, 24, .inl (enP Q))), (m7, .inl (cI, 300, .inl (enS Q))), (m8, .inl (cI, 6, .inl (enB ca we))), (m9, .inl (cI, 3, .inl (enN day co nw)))] H := hP
          have hD : va_D A [(mo, .inr (6, [.int 0, .int (nI nb), .int (nI nq), .int (nI nr), .ref m4, .ref m5, .ref m6, .ref m7, .ref m8, .ref m9])), (m4, .inl (cI, 9, .inl (Q 0))), (m5, .inl (cI, 20, .inl (enR Q))), (m6, .inl (cI, 24, .inl (enP Q))), (m7, .inl (cI, 300, .inl (enS Q))), (m8, .inl (cI, 6, .inl (enB ca we))), (m9, .inl (cI, 3, .inl (enN day co nw)))] := hD
          have hl : lv_has ls 7 [(4, .int (nI v)), (3, .int (nI i)), (1, .long d2), (0, .ref mo)] := hl
          have hinv : v + kv = 5 := hinv
          have hF2 : gD ((fun q v => gQua Q v q) i) kv v d2 = gD ((fun q v => gQua Q v q) i) 5 0 d := hF2
          have ih137 := ih
          refine lv_iload hx hb dX6_digest_137 (lv_at hl 0 rfl) ?_
          refine lv_iconst (v := 5) hx hb dX6_digest_139 (by decide) ?_
          refine lv_icmp_ge (tgt := 164) hx hb dX6_digest_140 (by decide) (fun c7 => ?_) (fun c7 => ?_)
          · skip
            have hk1 : kv = 0 := by have := gw_ge (n := 5) (by omega) (by omega) c7; omega
            subst hk1
            have hq2 : d2 = gD ((fun q v => gQua Q v q) i) 5 0 d := hF2
            subst hq2
            refine lv_iinc (v := nI (i + 1)) (lv' := [(3, .int (nI (i + 1))), (4, .int (nI v)), (1, .long (gD ((fun q v => gQua Q v q) i) 5 0 d)), (0, .ref mo)]) hx hb dX6_digest_164 hl (k := 1) rfl (nI_add i 1) (by decide) rfl (fun ls hl => ?_)
            refine lv_goto (tgt := 126) hx hb dX6_digest_167 (by decide) ?_
            exact ih126 (k, i + 1, gD ((fun q v => gQua Q v q) i) 5 0 d) H locs ls (by dsimp only; omega) ⟨hP, hD, hS, lv_sub hl [0, 2, 3] rfl, (by omega), hF⟩
          · skip
            have hv : v < 5 := gw_lt (n := 5) (by omega) (by omega) c7
            obtain ⟨kv, rfl⟩ : ∃ k2, kv = k2 + 1 := ⟨kv - 1, by omega⟩
            refine lv_lload_n hx hb dX6_digest_143 rfl (lv_at hl 2 rfl) ?_
            refine lv_ldc2 (v := 31) hx hb hown (hts _ wd_X6_digest_ok_8) dX6_digest_144 ?_
            refine lv_lmul hx hb dX6_digest_147 ?_
            refine lv_aload_n hx hb dX6_digest_148 rfl (lv_at hl 3 rfl) ?_
            refine lv_iload_n hx hb dX6_digest_149 rfl (lv_at hl 1 rfl) ?_
            refine lv_iload hx hb dX6_digest_150 (lv_at hl 0 rfl) ?_
            refine va_calli (va_runV (As := [.int (nI i), .int (nI v)]) (rest := [.long (d2 * 31)]) ⟨hx, hb, hml, hown, hts⟩ (met_X6_quarrierTold l D cI cZ cL mo m4 m5 m6 m7 m8 m9 0 nb nq nr Q day co nw i v (by first | assumption | omega) (by first | assumption | omega) (by first | assumption | omega) (by first | assumption | omega) (by first | assumption | omega) (by first | assumption | omega)) (cwV 2 hts gX6_digest_X6_quarrierTold rfl rfl rfl (by decide +kernel) ⟨Nat.le_of_ble_eq_true rfl, Nat.le_of_ble_eq_true rfl⟩) (gw_pvr hK hP (wc := [(mo, .inr (6, [.int 0, .int (nI nb), .int (nI nq), .int (nI nr), .ref m4, .ref m5, .ref m6, .ref m7, .ref m8, .ref m9])), (m5, .inl (cI, 20, .inl (enR Q))), (m6, .inl (cI, 24, .inl (enP Q)))]) [0, 2, 3] rfl 6 rfl rfl rfl) rfl rfl hl.1 rfl (lv_room (Nat.le_of_ble_eq_true rfl)) dX6_digest_152 ⟨Nat.zero_le _, Nat.zero_le _⟩) hS (fun _ _ z => z.elim) (fun _ z => z.elim) (fun r_15 _ t H1 locs ht hvm hw hB hz1 hk1 hS => ?_)
            have hP := gw_ro hP hk1
            generalize H1 = H at hP hS ⊢
            subst hw
            refine lv_i2l (v := (gQua Q v i).toInt64) hx hb dX6_digest_155 rfl ?_
            refine lv_ladd hx hb dX6_digest_156 ?_
            refine lv_lstore_n (lv' := [(1, .long ((d2 * 31) + ((gQua Q v i).toInt64))), (4, .int (nI v)), (3, .int (nI i)), (0, .ref mo)]) hx hb dX6_digest_157 rfl hl (by decide) rfl (fun ls hl => ?_)
            refine lv_iinc (v := nI (v + 1)) (lv' := [(4, .int (nI (v + 1))), (1, .long ((d2 * 31) + ((gQua Q v i).toInt64))), (3, .int (nI i)), (0, .ref mo)]) hx hb dX6_digest_158 hl (k := 1) rfl (nI_add v 1) (by decide) rfl (fun ls hl => ?_)
            refine lv_goto (tgt := 137) hx hb dX6_digest_161 (by decide) ?_
            exact ih137 (kv, v + 1, (d2 * 31) + ((gQua Q v i).toInt64)) H locs ls (by dsimp only; omega) ⟨hP, hD, hS, lv_sub hl [0, 2, 1, 3] rfl, (by omega), hF2⟩
      · skip
        have hi : i < nb := gw_lt (by omega) (by omega) c
        obtain ⟨k, rfl⟩ : ∃ k2, k = k2 + 1 := ⟨k - 1, by omega⟩
        refine lv_iconst (v := 0) hx hb dX6_digest_87 (by decide) ?_
        refine lv_istore (lv' := [(4, .int 0), (3, .int (nI i)), (1, .long d), (0, .ref mo)]) hx hb dX6_digest_88 hl (by decide) rfl (fun ls hl => ?_)
        refine gw_loop (fun (zz : Nat × Nat × Int64) H locs ls => match zz with | (kv, v, d2) => va_P D vwCl [(mo, .inr (6, [.int 0, .int (nI nb), .int (nI nq), .int (nI nr), .ref m4, .ref m5, .ref m6, .ref m7, .ref m8, .ref m9])), (m4, .inl (cI, 9, .inl (Q 0))), (m5, .inl (cI, 20, .inl (enR Q))), (m6, .inl (cI, 24, .inl (enP Q))), (m7, .inl (cI, 300, .inl (enS Q))), (m8, .inl (cI, 6, .inl (enB ca we))), (m9, .inl (cI, 3, .inl (enN day co nw)))] H ∧ va_D A [(mo, .inr (6, [.int 0, .int (nI nb), .int (nI nq), .int (nI nr), .ref m4, .ref m5, .ref m6, .ref m7, .ref m8, .ref m9])), (m4, .inl (cI, 9, .inl (Q 0))), (m5, .inl (cI, 20, .inl (enR Q))), (m6, .inl (cI, 24, .inl (enP Q))), (m7, .inl (cI, 300, .inl (enS Q))), (m8, .inl (cI, 6, .inl (enB ca we))), (m9, .inl (cI, 3, .inl (enN day co nw)))] ∧ va_S A s.heap H locs ∧ lv_has ls 7 [(4, .int (nI v)), (3, .int (nI i)), (1, .long d2), (0, .ref mo)] ∧ (v + kv = 6) ∧ (gD ((fun b v => gBed Q nq nw v b) i) kv v d2 = gD ((fun b v => gBed Q nq nw v b) i) 6 0 d)) (fun (zz : Nat × Nat × Int64) => match zz with | (kv, v, d2) => kv) (6, 0, d) ⟨hP, hD, hS, lv_sub hl [0, 1, 2, 3] rfl, (by omega), rfl⟩ ?_
        rintro ⟨kv, v, d2⟩ ih H locs ls ⟨hP, hD, hS, hl, hinv, hF2⟩
        have hP : va_P D vwCl [(mo, .inr (6, [.int 0, .int (nI nb), .int (nI nq), .int (nI nr), .ref m4, .ref m5, .ref m6, .ref m7, .ref m8, .ref m9])), (m4, .inl (cI, 9, .inl (Q 0))), (m5, .inl (cI, 20, .inl (enR Q))), (m6, .inl (cI, 24, .inl (enP Q))), (m7, .inl (cI, 300, .inl (enS Q))), (m8, .inl (cI, 6, .inl (enB ca we))), (m9, .inl (cI, 3, .inl (enN day co nw)))] H := hP
        have hD : va_D A [(mo, .inr (6, [.int 0, .int (nI nb), .int (nI nq), .int (nI nr), .ref m4, .ref m5, .ref m6, .ref m7, .ref m8, .ref m9])), (m4, .inl (cI, 9, .inl (Q 0))), (m5, .inl (cI, 20, .inl (enR Q))), (m6, .inl (cI, 24, .inl (enP Q))), (m7, .inl (cI, 300, .inl (enS Q))), (m8, .inl (cI, 6, .inl (enB ca we))), (m9, .inl (cI, 3, .inl (enN day co nw)))] := hD
        have hl : lv_has ls 7 [(4, .int (nI v)), (3, .int (nI i)), (1, .long d2), (0, .ref mo)] := hl
        have hinv : v + kv = 6 := hinv
        have hF2 : gD ((fun b v => gBed Q nq nw v b) i) kv v d2 = gD ((fun b v => gBed Q nq nw v b) i) 6 0 d := hF2
        have ih90 := ih
        refine lv_iload hx hb dX6_digest_90 (lv_at hl 0 rfl) ?_
        refine lv_bipush (v := 6) hx hb dX6_digest_92 (by decide) ?_
        refine lv_icmp_ge (tgt := 118) hx hb dX6_digest_94 (by decide) (fun c7 => ?_) (fun c7 => ?_)
        · skip
          have hk1 : kv = 0 := by have := gw_ge (n := 6) (by omega) (by omega) c7; omega
          subst hk1
          have hq2 : d2 = gD ((fun b v => gBed Q nq nw v b) i) 6 0 d := hF2
          subst hq2
          refine lv_iinc (v := nI (i + 1)) (lv' := [(3, .int (nI (i + 1))), (4, .int (nI v)), (1, .long (gD ((fun b v => gBed Q nq nw v b) i) 6 0 d)), (0, .ref mo)]) hx hb dX6_digest_118 hl (k := 1) rfl (nI_add i 1) (by decide) rfl (fun ls hl => ?_)
          refine lv_goto (tgt := 79) hx hb dX6_digest_121 (by decide) ?_
          exact ih79 (k, i + 1, gD ((fun b v => gBed Q nq nw v b) i) 6 0 d) H locs ls (by dsimp only; omega) ⟨hP, hD, hS, lv_sub hl [0, 2, 3] rfl, (by omega), hF⟩
        · skip
          have hv : v < 6 := gw_lt (n := 6) (by omega) (by omega) c7
          obtain ⟨kv, rfl⟩ : ∃ k2, kv = k2 + 1 := ⟨kv - 1, by omega⟩
          refine lv_lload_n hx hb dX6_digest_97 rfl (lv_at hl 2 rfl) ?_
          refine lv_ldc2 (v := 31) hx hb hown (hts _ wd_X6_digest_ok_8) dX6_digest_98 ?_
          refine lv_lmul hx hb dX6_digest_101 ?_
          refine lv_aload_n hx hb dX6_digest_102 rfl (lv_at hl 3 rfl) ?_
          refine lv_iload_n hx hb dX6_digest_103 rfl (lv_at hl 1 rfl) ?_
          refine lv_iload hx hb dX6_digest_104 (lv_at hl 0 rfl) ?_
          refine va_calli (va_runV (As := [.int (nI i), .int (nI v)]) (rest := [.long (d2 * 31)]) ⟨hx, hb, hml, hown, hts⟩ (met_X6_bedTold l D cI cZ cL mo m4 m5 m6 m7 m8 m9 0 nb nq nr Q day co nw i v (by first | assumption | omega) (by first | assumption | omega) (by first | assumption | omega) (by first | assumption | omega) (by first | assumption | omega)) (cwV 2 hts gX6_digest_X6_bedTold rfl rfl rfl (by decide +kernel) ⟨Nat.le_of_ble_eq_true rfl, Nat.le_of_ble_eq_true rfl⟩) (gw_pvr hK hP (wc := [(mo, .inr (6, [.int 0, .int (nI nb), .int (nI nq), .int (nI nr), .ref m4, .ref m5, .ref m6, .ref m7, .ref m8, .ref m9])), (m5, .inl (cI, 20, .inl (enR Q))), (m6, .inl (cI, 24, .inl (enP Q))), (m7, .inl (cI, 300, .inl (enS Q))), (m9, .inl (cI, 3, .inl (enN day co nw)))]) [0, 2, 3, 4, 6] rfl 6 rfl rfl rfl) rfl rfl hl.1 rfl (lv_room (Nat.le_of_ble_eq_true rfl)) dX6_digest_106 ⟨Nat.zero_le _, Nat.zero_le _⟩) hS (fun _ _ z => z.elim) (fun _ z => z.elim) (fun r_18 _ t H1 locs ht hvm hw hB hz1 hk1 hS => ?_)
          have hP := gw_ro hP hk1
          generalize H1 = H at hP hS ⊢
          subst hw
          refine lv_i2l (v := (gBed Q nq nw v i).toInt64) hx hb dX6_digest_109 rfl ?_
          refine lv_ladd hx hb dX6_digest_110 ?_
          refine lv_lstore_n (lv' := [(1, .long ((d2 * 31) + ((gBed Q nq nw v i).toInt64))), (4, .int (nI v)), (3, .int (nI i)), (0, .ref mo)]) hx hb dX6_digest_111 rfl hl (by decide) rfl (fun ls hl => ?_)
          refine lv_iinc (v := nI (v + 1)) (lv' := [(4, .int (nI (v + 1))), (1, .long ((d2 * 31) + ((gBed Q nq nw v i).toInt64))), (3, .int (nI i)), (0, .ref mo)]) hx hb dX6_digest_112 hl (k := 1) rfl (nI_add v 1) (by decide) rfl (fun ls hl => ?_)
          refine lv_goto (tgt := 90) hx hb dX6_digest_115 (by decide) ?_
          exact ih90 (kv, v + 1, (d2 * 31) + ((gBed Q nq nw v i).toInt64)) H locs ls (by dsimp only; omega) ⟨hP, hD, hS, lv_sub hl [0, 2, 1, 3] rfl, (by omega), hF2⟩
    · skip
      have hi : i < 9 := gw_lt (n := 9) (by omega) (by omega) c
      obtain ⟨k, rfl⟩ : ∃ k2, k = k2 + 1 := ⟨k - 1, by omega⟩
      refine lv_aload_n hx hb dX6_digest_55 rfl (lv_at hl 2 rfl) ?_
      refine lv_iload hx hb dX6_digest_56 (lv_at hl 0 rfl) ?_
      refine gw_iald hx hb hK hP 1 0 (k := i) rfl rfl (by omega) (by decide) dX6_digest_58 ?_
      refine lv_istore (lv' := [(6, .int (Q 0 i)), (5, .int (nI i)), (4, .int (nI 9)), (3, .ref m4), (1, .long d), (0, .ref mo)]) hx hb dX6_digest_59 hl (by decide) rfl (fun ls hl => ?_)
      refine lv_lload_n hx hb dX6_digest_61 rfl (lv_at hl 4 rfl) ?_
      refine lv_ldc2 (v := 31) hx hb hown (hts _ wd_X6_digest_ok_8) dX6_digest_62 ?_
      refine lv_lmul hx hb dX6_digest_65 ?_
      refine lv_iload hx hb dX6_digest_66 (lv_at hl 0 rfl) ?_
      refine lv_i2l (v := (Q 0 i).toInt64) hx hb dX6_digest_68 rfl ?_
      refine lv_ladd hx hb dX6_digest_69 ?_
      refine lv_lstore_n (lv' := [(1, .long ((d * 31) + ((Q 0 i).toInt64))), (6, .int (Q 0 i)), (5, .int (nI i)), (4, .int (nI 9)), (3, .ref m4), (0, .ref mo)]) hx hb dX6_digest_70 rfl hl (by decide) rfl (fun ls hl => ?_)
      refine lv_iinc (v := nI (i + 1)) (lv' := [(5, .int (nI (i + 1))), (1, .long ((d * 31) + ((Q 0 i).toInt64))), (6, .int (Q 0 i)), (4, .int (nI 9)), (3, .ref m4), (0, .ref mo)]) hx hb dX6_digest_71 hl (k := 2) rfl (nI_add i 1) (by decide) rfl (fun ls hl => ?_)
      refine lv_goto (tgt := 48) hx hb dX6_digest_74 (by decide) ?_
      exact ih48 (k, i + 1, (d * 31) + ((Q 0 i).toInt64)) H locs ls (by dsimp only; omega) ⟨hP, hD, hS, lv_sub hl [0, 3, 4, 1, 5] rfl, (by omega), hF⟩
  · skip
    have hi : i < 10 := gw_lt (n := 10) (by omega) (by omega) c
    obtain ⟨k, rfl⟩ : ∃ k2, k = k2 + 1 := ⟨k - 1, by omega⟩
    refine lv_lload_n hx hb dX6_digest_17 rfl (lv_at hl 1 rfl) ?_
    refine lv_ldc2 (v := 31) hx hb hown (hts _ wd_X6_digest_ok_8) dX6_digest_18 ?_
    refine lv_lmul hx hb dX6_digest_21 ?_
    refine lv_aload_n hx hb dX6_digest_22 rfl (lv_at hl 2 rfl) ?_
    refine lv_iload_n hx hb dX6_digest_23 rfl (lv_at hl 0 rfl) ?_
    refine va_calli (va_runV (As := [.int (nI i)]) (rest := [.long (d * 31)]) ⟨hx, hb, hml, hown, hts⟩ (met_X6_counted l D cI cZ cL mo m4 m5 m6 m7 m8 m9 0 nb nq nr Q day co nw i (by first | assumption | omega) (by first | assumption | omega) (by first | assumption | omega) (by first | assumption | omega)) (cwV 1 hts gX6_digest_X6_counted rfl rfl rfl (by decide +kernel) ⟨Nat.le_of_ble_eq_true rfl, Nat.le_of_ble_eq_true rfl⟩) (gw_pvr hK hP (wc := [(mo, .inr (6, [.int 0, .int (nI nb), .int (nI nq), .int (nI nr), .ref m4, .ref m5, .ref m6, .ref m7, .ref m8, .ref m9])), (m4, .inl (cI, 9, .inl (Q 0))), (m6, .inl (cI, 24, .inl (enP Q))), (m7, .inl (cI, 300, .inl (enS Q))), (m9, .inl (cI, 3, .inl (enN day co nw)))]) [0, 1, 3, 4, 6] rfl 6 rfl rfl rfl) rfl rfl hl.1 rfl (lv_room (Nat.le_of_ble_eq_true rfl)) dX6_digest_24 ⟨Nat.zero_le _, Nat.zero_le _⟩) hS (fun _ _ z => z.elim) (fun _ z => z.elim) (fun r_20 _ t H1 locs ht hvm hw hB hz1 hk1 hS => ?_)
    have hP := gw_ro hP hk1
    generalize H1 = H at hP hS ⊢
    subst hw
    refine lv_i2l (v := (gCntC Q nq nw day co i).toInt64) hx hb dX6_digest_27 rfl ?_
    refine lv_ladd hx hb dX6_digest_28 ?_
    refine lv_lstore_n (lv' := [(1, .long ((d * 31) + ((gCntC Q nq nw day co i).toInt64))), (3, .int (nI i)), (0, .ref mo)]) hx hb dX6_digest_29 rfl hl (by decide) rfl (fun ls hl => ?_)
    refine lv_iinc (v := nI (i + 1)) (lv' := [(3, .int (nI (i + 1))), (1, .long ((d * 31) + ((gCntC Q nq nw day co i).toInt64))), (0, .ref mo)]) hx hb dX6_digest_30 hl (k := 1) rfl (nI_add i 1) (by decide) rfl (fun ls hl => ?_)
    refine lv_goto (tgt := 11) hx hb dX6_digest_33 (by decide) ?_
    exact ih11 (k, i + 1, (d * 31) + ((gCntC Q nq nw day co i).toInt64)) H locs ls (by dsimp only; omega) ⟨hP, hD, hS, lv_sub hl [0, 1, 2] rfl, (by omega), hF⟩
