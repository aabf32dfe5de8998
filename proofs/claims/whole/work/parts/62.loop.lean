set_option maxHeartbeats 4000000 in
theorem law_turn {p : Program} {l : Launch} {e : Env} {s : State} {m : MethodId} {args : Array Value} {below : List Frame} {meth : Method} {c : Code} {Qe : State → Prop} {scr L : Nat} {xs : Nat → Int32} {D : va_G} {cI cZ cL cO : ClassId} {A : Nat → Prop} {H : Heap} {locs : List Loc} {ls : Array Slot} {cz sz : Nat} {j : Nat} (hfl : l.stackTraces = false) (C0 : gLC p s m c args scr L xs D cI cZ cL cO A) {gx qu qf bd bd0 bd1 bd2 bd3 cr cr0 cr1 cr2 cr3 wh wh0 wh1 wh2 wh3 wh4 wh5 qt qft bdt bdt0 bdt1 bdt2 bdt3 crt crt0 crt1 crt2 crt3 wht wht0 wht1 wht2 wht3 wht4 wht5 rf rf0 rf1 ou mo m4 m5 m6 m7 m8 m9 : Nat} {co : Int32} {Q : Nat → Nat → Int32} {nb : Nat} {nq : Nat} {nw : Nat} {day : Nat} {T : Nat → Nat → Int32} {nbt : Nat} {nqt : Nat} {nwt : Nat} {dayt : Nat} {nr : Nat} {ca : Nat → Int32} {bo : Nat → Int32} {lo : Nat → Int64} {th : Int32} {we : Nat → Int32} {i : Nat} (I : gInv i Q nb nq nw day nr bo we) (hP : va_P D vwCl (gWld gx qu qf bd bd0 bd1 bd2 bd3 cr cr0 cr1 cr2 cr3 wh wh0 wh1 wh2 wh3 wh4 wh5 qt qft bdt bdt0 bdt1 bdt2 bdt3 crt crt0 crt1 crt2 crt3 wht wht0 wht1 wht2 wht3 wht4 wht5 rf rf0 rf1 ou mo m4 m5 m6 m7 m8 m9 cI cZ cL co (nI day) (Q 0) (nI nb) (Q 1) (Q 2) (Q 3) (Q 4) (nI nq) (Q 5) (Q 6) (Q 7) (Q 8) (nI nw) (Q 9) (Q 10) (Q 11) (Q 12) (Q 13) (Q 14) (nI dayt) (T 0) (nI nbt) (T 1) (T 2) (T 3) (T 4) (nI nqt) (T 5) (T 6) (T 7) (T 8) (nI nwt) (T 9) (T 10) (T 11) (T 12) (T 13) (T 14) (nI nr) ca bo lo th (nI nb) (nI nq) (nI nr) (Q 0) (enR Q) (enP Q) (enS Q) (enB ca we) (enN day co nw)) H) (hD : va_D A (gWld gx qu qf bd bd0 bd1 bd2 bd3 cr cr0 cr1 cr2 cr3 wh wh0 wh1 wh2 wh3 wh4 wh5 qt qft bdt bdt0 bdt1 bdt2 bdt3 crt crt0 crt1 crt2 crt3 wht wht0 wht1 wht2 wht3 wht4 wht5 rf rf0 rf1 ou mo m4 m5 m6 m7 m8 m9 cI cZ cL co (nI day) (Q 0) (nI nb) (Q 1) (Q 2) (Q 3) (Q 4) (nI nq) (Q 5) (Q 6) (Q 7) (Q 8) (nI nw) (Q 9) (Q 10) (Q 11) (Q 12) (Q 13) (Q 14) (nI dayt) (T 0) (nI nbt) (T 1) (T 2) (T 3) (T 4) (nI nqt) (T 5) (T 6) (T 7) (T 8) (nI nwt) (T 9) (T 10) (T 11) (T 12) (T 13) (T 14) (nI nr) ca bo lo th (nI nb) (nI nq) (nI nr) (Q 0) (enR Q) (enP Q) (enS Q) (enB ca we) (enN day co nw))) (hS : va_S A s.heap H locs) (hl : lv_has ls 9 [(0, .ref scr), (1, .ref gx), (2, .ref mo), (3, .ref ou), (4, .int (nI i))]) (hj9 : j < 32) (hi : i + 4 ≤ L) (hcz : cz + 12 ≤ 601024) (hsz : sz + 400 ≤ 7293034) (K : ∀ (co1 : Int32) (Q1 : Nat → Nat → Int32) (nb1 : Nat) (nq1 : Nat) (nw1 : Nat) (day1 : Nat) (T1 : Nat → Nat → Int32) (nbt1 : Nat) (nqt1 : Nat) (nwt1 : Nat) (dayt1 : Nat) (nr1 : Nat) (ca1 : Nat → Int32) (bo1 : Nat → Int32) (lo1 : Nat → Int64) (th1 : Int32) (we1 : Nat → Int32) (R1 P1 S1 : Nat → Int32) (H1 : Heap) (locs1 : List Loc) (ls1 : Array Slot), gInv (i + 4) Q1 nb1 nq1 nw1 day1 nr1 bo1 we1 → enR Q1 = R1 → enP Q1 = P1 → enS Q1 = S1 → va_P D vwCl (gWld gx qu qf bd bd0 bd1 bd2 bd3 cr cr0 cr1 cr2 cr3 wh wh0 wh1 wh2 wh3 wh4 wh5 qt qft bdt bdt0 bdt1 bdt2 bdt3 crt crt0 crt1 crt2 crt3 wht wht0 wht1 wht2 wht3 wht4 wht5 rf rf0 rf1 ou mo m4 m5 m6 m7 m8 m9 cI cZ cL co1 (nI day1) (Q1 0) (nI nb1) (Q1 1) (Q1 2) (Q1 3) (Q1 4) (nI nq1) (Q1 5) (Q1 6) (Q1 7) (Q1 8) (nI nw1) (Q1 9) (Q1 10) (Q1 11) (Q1 12) (Q1 13) (Q1 14) (nI dayt1) (T1 0) (nI nbt1) (T1 1) (T1 2) (T1 3) (T1 4) (nI nqt1) (T1 5) (T1 6) (T1 7) (T1 8) (nI nwt1) (T1 9) (T1 10) (T1 11) (T1 12) (T1 13) (T1 14) (nI nr1) ca1 bo1 lo1 th1 (nI nb1) (nI nq1) (nI nr1) (Q1 0) R1 P1 S1 (enB ca1 we1) (enN day1 co1 nw1)) H1 → va_D A (gWld gx qu qf bd bd0 bd1 bd2 bd3 cr cr0 cr1 cr2 cr3 wh wh0 wh1 wh2 wh3 wh4 wh5 qt qft bdt bdt0 bdt1 bdt2 bdt3 crt crt0 crt1 crt2 crt3 wht wht0 wht1 wht2 wht3 wht4 wht5 rf rf0 rf1 ou mo m4 m5 m6 m7 m8 m9 cI cZ cL co1 (nI day1) (Q1 0) (nI nb1) (Q1 1) (Q1 2) (Q1 3) (Q1 4) (nI nq1) (Q1 5) (Q1 6) (Q1 7) (Q1 8) (nI nw1) (Q1 9) (Q1 10) (Q1 11) (Q1 12) (Q1 13) (Q1 14) (nI dayt1) (T1 0) (nI nbt1) (T1 1) (T1 2) (T1 3) (T1 4) (nI nqt1) (T1 5) (T1 6) (T1 7) (T1 8) (nI nwt1) (T1 9) (T1 10) (T1 11) (T1 12) (T1 13) (T1 14) (nI nr1) ca1 bo1 lo1 th1 (nI nb1) (nI nq1) (nI nr1) (Q1 0) R1 P1 S1 (enB ca1 we1) (enN day1 co1 nw1)) → va_S A s.heap H1 locs1 → lv_has ls1 9 [(0, .ref scr), (1, .ref gx), (2, .ref mo), (3, .ref ou), (4, .int (nI i))] → W p l e room_1 s m args below meth c H1 locs1 (cz + 12) (sz + 400) Qe (F0 m 1267 ls1 [])) : W p l e room_1 s m args below meth c H locs cz sz Qe (F0 m 39 ls [.int (nI j)]) := by
  have hL2 := C0.le
  have h9 : i + 4 ≤ 3000 := by omega
  obtain ⟨hx, hb, -⟩ := id C0
  by_cases hj : j ≤ 18
  · rcases (show j = 0 ∨ j = 1 ∨ j = 2 ∨ j = 3 ∨ j = 4 ∨ j = 5 ∨ j = 6 ∨ j = 7 ∨ j = 8 ∨ j = 9 ∨ j = 10 ∨ j = 11 ∨ j = 12 ∨ j = 13 ∨ j = 14 ∨ j = 15 ∨ j = 16 ∨ j = 17 ∨ j = 18 by omega) with rfl | rfl | rfl | rfl | rfl | rfl | rfl | rfl | rfl | rfl | rfl | rfl | rfl | rfl | rfl | rfl | rfl | rfl | rfl
    · refine lv_tableIn (off := 89) (tgt := 128) hx hb dL_law_39 (by decide) (by decide) (by decide) (by decide) ?_
      exact case_setFall hfl C0 I hP hD hS hl hi hcz hsz K
    · refine lv_tableIn (off := 157) (tgt := 196) hx hb dL_law_39 (by decide) (by decide) (by decide) (by decide) ?_
      exact case_open hfl C0 I hP hD hS hl hi hcz hsz K
    · refine lv_tableIn (off := 237) (tgt := 276) hx hb dL_law_39 (by decide) (by decide) (by decide) (by decide) ?_
      exact case_hire hfl C0 I hP hD hS hl hi hcz hsz K
    · refine lv_tableIn (off := 293) (tgt := 332) hx hb dL_law_39 (by decide) (by decide) (by decide) (by decide) ?_
      exact case_send hfl C0 I hP hD hS hl hi hcz hsz K
    · refine lv_tableIn (off := 361) (tgt := 400) hx hb dL_law_39 (by decide) (by decide) (by decide) (by decide) ?_
      exact case_ring hfl C0 I hP hD hS hl hi hcz hsz K
    · refine lv_tableIn (off := 417) (tgt := 456) hx hb dL_law_39 (by decide) (by decide) (by decide) (by decide) ?_
      exact case_smash hfl C0 I hP hD hS hl hi hcz hsz K
    · refine lv_tableIn (off := 473) (tgt := 512) hx hb dL_law_39 (by decide) (by decide) (by decide) (by decide) ?_
      exact case_build hfl C0 I hP hD hS hl hi hcz hsz K
    · refine lv_tableIn (off := 529) (tgt := 568) hx hb dL_law_39 (by decide) (by decide) (by decide) (by decide) ?_
      exact case_load hfl C0 I hP hD hS hl hi hcz hsz K
    · refine lv_tableIn (off := 597) (tgt := 636) hx hb dL_law_39 (by decide) (by decide) (by decide) (by decide) ?_
      exact case_ship hfl C0 I hP hD hS hl hi hcz hsz K
    · refine lv_tableIn (off := 653) (tgt := 692) hx hb dL_law_39 (by decide) (by decide) (by decide) (by decide) ?_
      exact case_bed hfl C0 I hP hD hS hl hi hcz hsz K
    · refine lv_tableIn (off := 721) (tgt := 760) hx hb dL_law_39 (by decide) (by decide) (by decide) (by decide) ?_
      exact case_quarrier hfl C0 I hP hD hS hl hi hcz hsz K
    · refine lv_tableIn (off := 789) (tgt := 828) hx hb dL_law_39 (by decide) (by decide) (by decide) (by decide) ?_
      exact case_wheel hfl C0 I hP hD hS hl hi hcz hsz K
    · refine lv_tableIn (off := 857) (tgt := 896) hx hb dL_law_39 (by decide) (by decide) (by decide) (by decide) ?_
      exact case_raft hfl C0 I hP hD hS hl hi hcz hsz K
    · refine lv_tableIn (off := 925) (tgt := 964) hx hb dL_law_39 (by decide) (by decide) (by decide) (by decide) ?_
      exact case_count hfl C0 I hP hD hS hl hi hcz hsz K
    · refine lv_tableIn (off := 981) (tgt := 1020) hx hb dL_law_39 (by decide) (by decide) (by decide) (by decide) ?_
      exact case_pass hfl C0 I hP hD hS hl hi hcz hsz K
    · refine lv_tableIn (off := 1037) (tgt := 1076) hx hb dL_law_39 (by decide) (by decide) (by decide) (by decide) ?_
      exact case_foresee hfl C0 I hP hD hS hl hi hcz hsz K
    · refine lv_tableIn (off := 1105) (tgt := 1144) hx hb dL_law_39 (by decide) (by decide) (by decide) (by decide) ?_
      exact case_advise hfl C0 I hP hD hS hl hi hcz hsz K
    · refine lv_tableIn (off := 1173) (tgt := 1212) hx hb dL_law_39 (by decide) (by decide) (by decide) (by decide) ?_
      exact case_share hfl C0 I hP hD hS hl hi hcz hsz K
    · refine lv_tableIn (off := 1214) (tgt := 1253) hx hb dL_law_39 (by decide) (by decide) (by decide) (by decide) ?_
      exact case_digest hfl C0 I hP hD hS hl hi hcz hsz K
  · refine lv_tableOut (tgt := 1267) hx hb dL_law_39 (Or.inr ?_) (by decide) ?_
    · rw [nI_toInt (by omega)]; omega
    · refine W.widen (k := cz + 12) (n := sz + 400) (by omega) (by omega) ?_
      exact K co Q nb nq nw day T nbt nqt nwt dayt nr ca bo lo th we _ _ _ H locs ls (I.next h9) rfl rfl rfl hP hD hS hl
theorem gw_turns {i L : Nat} (hi : i < 2 ^ 30) (hL : L < 2 ^ 30) : ¬ (nI L - 4 < nI i) → i + 4 ≤ L := by
  intro h
  rcases Nat.lt_or_ge L 4 with h4 | h4
  · exact absurd (show nI L - 4 < nI i from Int32.lt_of_lt_of_le (by rcases (show L = 0 ∨ L = 1 ∨ L = 2 ∨ L = 3 by omega) with e | e | e | e <;> subst e <;> decide) (nI_pos' (by omega))) h
  · rw [show (4 : Int32) = nI 4 from rfl, nI_sub h4] at h
    have h2 : ¬ L - 4 < i := fun z => h (nI_lt z (by omega))
    omega
set_option maxHeartbeats 4000000 in
theorem law_loop {p : Program} {l : Launch} {e : Env} {s : State} {m : MethodId} {args : Array Value} {below : List Frame} {meth : Method} {c : Code} {Qe : State → Prop} {scr L : Nat} {xs : Nat → Int32} {D : va_G} {cI cZ cL cO : ClassId} {A : Nat → Prop} {H : Heap} {locs : List Loc} {ls : Array Slot} {cz sz : Nat} (hfl : l.stackTraces = false) (C0 : gLC p s m c args scr L xs D cI cZ cL cO A) {gx qu qf bd bd0 bd1 bd2 bd3 cr cr0 cr1 cr2 cr3 wh wh0 wh1 wh2 wh3 wh4 wh5 qt qft bdt bdt0 bdt1 bdt2 bdt3 crt crt0 crt1 crt2 crt3 wht wht0 wht1 wht2 wht3 wht4 wht5 rf rf0 rf1 ou mo m4 m5 m6 m7 m8 m9 : Nat} {co : Int32} {Q : Nat → Nat → Int32} {nb : Nat} {nq : Nat} {nw : Nat} {day : Nat} {T : Nat → Nat → Int32} {nbt : Nat} {nqt : Nat} {nwt : Nat} {dayt : Nat} {nr : Nat} {ca : Nat → Int32} {bo : Nat → Int32} {lo : Nat → Int64} {th : Int32} {we : Nat → Int32} {i : Nat} (I : gInv i Q nb nq nw day nr bo we) (hP : va_P D vwCl (gWld gx qu qf bd bd0 bd1 bd2 bd3 cr cr0 cr1 cr2 cr3 wh wh0 wh1 wh2 wh3 wh4 wh5 qt qft bdt bdt0 bdt1 bdt2 bdt3 crt crt0 crt1 crt2 crt3 wht wht0 wht1 wht2 wht3 wht4 wht5 rf rf0 rf1 ou mo m4 m5 m6 m7 m8 m9 cI cZ cL co (nI day) (Q 0) (nI nb) (Q 1) (Q 2) (Q 3) (Q 4) (nI nq) (Q 5) (Q 6) (Q 7) (Q 8) (nI nw) (Q 9) (Q 10) (Q 11) (Q 12) (Q 13) (Q 14) (nI dayt) (T 0) (nI nbt) (T 1) (T 2) (T 3) (T 4) (nI nqt) (T 5) (T 6) (T 7) (T 8) (nI nwt) (T 9) (T 10) (T 11) (T 12) (T 13) (T 14) (nI nr) ca bo lo th (nI nb) (nI nq) (nI nr) (Q 0) (enR Q) (enP Q) (enS Q) (enB ca we) (enN day co nw)) H) (hD : va_D A (gWld gx qu qf bd bd0 bd1 bd2 bd3 cr cr0 cr1 cr2 cr3 wh wh0 wh1 wh2 wh3 wh4 wh5 qt qft bdt bdt0 bdt1 bdt2 bdt3 crt crt0 crt1 crt2 crt3 wht wht0 wht1 wht2 wht3 wht4 wht5 rf rf0 rf1 ou mo m4 m5 m6 m7 m8 m9 cI cZ cL co (nI day) (Q 0) (nI nb) (Q 1) (Q 2) (Q 3) (Q 4) (nI nq) (Q 5) (Q 6) (Q 7) (Q 8) (nI nw) (Q 9) (Q 10) (Q 11) (Q 12) (Q 13) (Q 14) (nI dayt) (T 0) (nI nbt) (T 1) (T 2) (T 3) (T 4) (nI nqt) (T 5) (T 6) (T 7) (T 8) (nI nwt) (T 9) (T 10) (T 11) (T 12) (T 13) (T 14) (nI nr) ca bo lo th (nI nb) (nI nq) (nI nr) (Q 0) (enR Q) (enP Q) (enS Q) (enB ca we) (enN day co nw))) (hS : va_S A s.heap H locs) (hl : lv_has ls 9 [(0, .ref scr), (1, .ref gx), (2, .ref mo), (3, .ref ou), (4, .int (nI i))]) (hcz : cz ≤ 3 * i + 1000) (hsz : sz ≤ 100 * i + 10000) (K : ∀ (H1 : Heap) (locs1 : List Loc) (ls1 : Array Slot), va_S A s.heap H1 locs1 → W p l e room_1 s m args below meth c H1 locs1 601024 7293034 Qe (F0 m 1273 ls1 [])) : W p l e room_1 s m args below meth c H locs cz sz Qe (F0 m 23 ls []) := by
  refine gw_loopc (fun (zz : Nat × Int32 × (Nat → Nat → Int32) × Nat × Nat × Nat × Nat × (Nat → Nat → Int32) × Nat × Nat × Nat × Nat × Nat × (Nat → Int32) × (Nat → Int32) × (Nat → Int64) × Int32 × (Nat → Int32)) H locs ls => match zz with | (i, co, Q, nb, nq, nw, day, T, nbt, nqt, nwt, dayt, nr, ca, bo, lo, th, we) => gInv i Q nb nq nw day nr bo we ∧ va_P D vwCl (gWld gx qu qf bd bd0 bd1 bd2 bd3 cr cr0 cr1 cr2 cr3 wh wh0 wh1 wh2 wh3 wh4 wh5 qt qft bdt bdt0 bdt1 bdt2 bdt3 crt crt0 crt1 crt2 crt3 wht wht0 wht1 wht2 wht3 wht4 wht5 rf rf0 rf1 ou mo m4 m5 m6 m7 m8 m9 cI cZ cL co (nI day) (Q 0) (nI nb) (Q 1) (Q 2) (Q 3) (Q 4) (nI nq) (Q 5) (Q 6) (Q 7) (Q 8) (nI nw) (Q 9) (Q 10) (Q 11) (Q 12) (Q 13) (Q 14) (nI dayt) (T 0) (nI nbt) (T 1) (T 2) (T 3) (T 4) (nI nqt) (T 5) (T 6) (T 7) (T 8) (nI nwt) (T 9) (T 10) (T 11) (T 12) (T 13) (T 14) (nI nr) ca bo lo th (nI nb) (nI nq) (nI nr) (Q 0) (enR Q) (enP Q) (enS Q) (enB ca we) (enN day co nw)) H ∧ va_D A (gWld gx qu qf bd bd0 bd1 bd2 bd3 cr cr0 cr1 cr2 cr3 wh wh0 wh1 wh2 wh3 wh4 wh5 qt qft bdt bdt0 bdt1 bdt2 bdt3 crt crt0 crt1 crt2 crt3 wht wht0 wht1 wht2 wht3 wht4 wht5 rf rf0 rf1 ou mo m4 m5 m6 m7 m8 m9 cI cZ cL co (nI day) (Q 0) (nI nb) (Q 1) (Q 2) (Q 3) (Q 4) (nI nq) (Q 5) (Q 6) (Q 7) (Q 8) (nI nw) (Q 9) (Q 10) (Q 11) (Q 12) (Q 13) (Q 14) (nI dayt) (T 0) (nI nbt) (T 1) (T 2) (T 3) (T 4) (nI nqt) (T 5) (T 6) (T 7) (T 8) (nI nwt) (T 9) (T 10) (T 11) (T 12) (T 13) (T 14) (nI nr) ca bo lo th (nI nb) (nI nq) (nI nr) (Q 0) (enR Q) (enP Q) (enS Q) (enB ca we) (enN day co nw)) ∧ va_S A s.heap H locs ∧ lv_has ls 9 [(0, .ref scr), (1, .ref gx), (2, .ref mo), (3, .ref ou), (4, .int (nI i))]) (fun (zz : Nat × Int32 × (Nat → Nat → Int32) × Nat × Nat × Nat × Nat × (Nat → Nat → Int32) × Nat × Nat × Nat × Nat × Nat × (Nat → Int32) × (Nat → Int32) × (Nat → Int64) × Int32 × (Nat → Int32)) => match zz with | (i, co, Q, nb, nq, nw, day, T, nbt, nqt, nwt, dayt, nr, ca, bo, lo, th, we) => 3000 - i) (fun (zz : Nat × Int32 × (Nat → Nat → Int32) × Nat × Nat × Nat × Nat × (Nat → Nat → Int32) × Nat × Nat × Nat × Nat × Nat × (Nat → Int32) × (Nat → Int32) × (Nat → Int64) × Int32 × (Nat → Int32)) => match zz with | (i, co, Q, nb, nq, nw, day, T, nbt, nqt, nwt, dayt, nr, ca, bo, lo, th, we) => 3 * i + 1000) (fun (zz : Nat × Int32 × (Nat → Nat → Int32) × Nat × Nat × Nat × Nat × (Nat → Nat → Int32) × Nat × Nat × Nat × Nat × Nat × (Nat → Int32) × (Nat → Int32) × (Nat → Int64) × Int32 × (Nat → Int32)) => match zz with | (i, co, Q, nb, nq, nw, day, T, nbt, nqt, nwt, dayt, nr, ca, bo, lo, th, we) => 100 * i + 10000) (i, co, Q, nb, nq, nw, day, T, nbt, nqt, nwt, dayt, nr, ca, bo, lo, th, we) hcz hsz ⟨I, hP, hD, hS, hl⟩ ?_
  clear I hP hD hS hl hcz hsz
  rintro ⟨i, co, Q, nb, nq, nw, day, T, nbt, nqt, nwt, dayt, nr, ca, bo, lo, th, we⟩ ih H locs ls ⟨I, hP, hD, hS, hl⟩
  refine W.widen (k := 3 * i + 1000) (n := 100 * i + 10000) (Nat.le_refl _) (Nat.le_refl _) ?_
  have hL2 := C0.le
  have hi3 : i ≤ 3000 := I.hi
  obtain ⟨hx, hb, hml, hown, hts, htb, hK4, hR, hXv, hbl, hbA, -⟩ := id C0
  refine lv_iload hx hb dL_law_23 (lv_at hl 4 rfl) ?_
  refine lv_aload_n hx hb dL_law_25 rfl (lv_at hl 0 rfl) ?_
  refine va_slen hx hb hXv hbl hbA hS dL_law_26 ?_
  refine lv_iconst (v := 4) hx hb dL_law_27 (by decide) ?_
  refine lv_isub hx hb dL_law_28 ?_
  refine lv_icmp_gt (tgt := 1273) hx hb dL_law_29 (by decide) (fun _ => ?_) (fun h1 => ?_)
  · refine W.widen (k := 601024) (n := 7293034) (by omega) (by omega) ?_
    exact K _ _ _ hS
  have hi : i + 4 ≤ L := gw_turns (by omega) (by omega) h1
  refine lv_aload_n hx hb dL_law_32 rfl (lv_at hl 0 rfl) ?_
  refine lv_iload hx hb dL_law_33 (lv_at hl 4 rfl) ?_
  refine gw_sld hx hb hXv hbl hbA hS (k := i) (by omega) (by omega) dL_law_35 ?_
  refine lv_bipush (v := 31) hx hb dL_law_36 (by decide) ?_
  refine lv_iand hx hb dL_law_38 ?_
  obtain ⟨j, hj, he⟩ := pk_andE (xs i) (m := 31) 5 (by decide)
  refine gw_top he ?_
  refine law_turn hfl C0 I hP hD hS hl hj hi (by omega) (by omega) ?_
  intro co1 Q1 nb1 nq1 nw1 day1 T1 nbt1 nqt1 nwt1 dayt1 nr1 ca1 bo1 lo1 th1 we1 R1 P1 S1 H1 locs1 ls1 I1 e1 e2 e3 hP hD hS hl
  subst e1 e2 e3
  refine lv_iinc (lv' := [(4, .int (nI (i + 4))), (0, .ref scr), (1, .ref gx), (2, .ref mo), (3, .ref ou)]) hx hb dL_law_1267 hl (k := 4) (v := nI (i + 4)) rfl (by rw [show (Int32.ofInt 4) = nI 4 by decide, nI_add]) (by decide) rfl (fun ls hl => ?_)
  refine lv_goto (tgt := 23) hx hb dL_law_1270 (by decide) ?_
  refine W.widen (k := 3 * (i + 4) + 1000) (n := 100 * (i + 4) + 10000) (by omega) (by omega) ?_
  exact ih (i + 4, co1, Q1, nb1, nq1, nw1, day1, T1, nbt1, nqt1, nwt1, dayt1, nr1, ca1, bo1, lo1, th1, we1) _ _ _ (by show 3000 - (i + 4) < 3000 - i; omega) ⟨I1, hP, hD, hS, lv_sub hl [1, 2, 3, 4, 0] rfl⟩
