set_option maxHeartbeats 4000000 in
set_option maxRecDepth 100000 in
theorem law_open_f1 {p : Program} {l : Launch} {e : Env} {s : State} {m : MethodId} {args : Array Value} {below : List Frame} {meth : Method} {c : Code} {Qe : State → Prop} {scr L : Nat} {xs : Nat → Int32} {D : va_G} {cI cZ cL cO : ClassId} {A : Nat → Prop} {H : Heap} {locs : List Loc} {ls : Array Slot} {cz sz : Nat} (hfl : l.stackTraces = false) (C0 : gLC p s m c args scr L xs D cI cZ cL cO A) {gx qu qf bd bd0 bd1 bd2 bd3 cr cr0 cr1 cr2 cr3 wh wh0 wh1 wh2 wh3 wh4 wh5 qt qft bdt bdt0 bdt1 bdt2 bdt3 crt crt0 crt1 crt2 crt3 wht wht0 wht1 wht2 wht3 wht4 wht5 rf rf0 rf1 ou mo m4 m5 m6 m7 m8 m9 : Nat} {co : Int32} {Q : Nat → Nat → Int32} {nb : Nat} {nq : Nat} {nw : Nat} {day : Nat} {T : Nat → Nat → Int32} {nbt : Nat} {nqt : Nat} {nwt : Nat} {dayt : Nat} {nr : Nat} {ca : Nat → Int32} {bo : Nat → Int32} {lo : Nat → Int64} {th : Int32} {we : Nat → Int32} {i : Nat} {y1 : Int32} {y2 : Int32} {y3 : Int32} (hP : va_P D vwCl (gWld gx qu qf bd bd0 bd1 bd2 bd3 cr cr0 cr1 cr2 cr3 wh wh0 wh1 wh2 wh3 wh4 wh5 qt qft bdt bdt0 bdt1 bdt2 bdt3 crt crt0 crt1 crt2 crt3 wht wht0 wht1 wht2 wht3 wht4 wht5 rf rf0 rf1 ou mo m4 m5 m6 m7 m8 m9 cI cZ cL co (nI day) (Q 0) (nI nb) (Q 1) (Q 2) (Q 3) (Q 4) (nI nq) (Q 5) (Q 6) (Q 7) (Q 8) (nI nw) (Q 9) (Q 10) (Q 11) (Q 12) (Q 13) (Q 14) (nI dayt) (T 0) (nI nbt) (T 1) (T 2) (T 3) (T 4) (nI nqt) (T 5) (T 6) (T 7) (T 8) (nI nwt) (T 9) (T 10) (T 11) (T 12) (T 13) (T 14) (nI nr) ca bo lo th (nI nb) (nI nq) (nI nr) (Q 0) (enR Q) (enP Q) (enS Q) (enB ca we) (enN day co nw)) H) (hD : va_D A (gWld gx qu qf bd bd0 bd1 bd2 bd3 cr cr0 cr1 cr2 cr3 wh wh0 wh1 wh2 wh3 wh4 wh5 qt qft bdt bdt0 bdt1 bdt2 bdt3 crt crt0 crt1 crt2 crt3 wht wht0 wht1 wht2 wht3 wht4 wht5 rf rf0 rf1 ou mo m4 m5 m6 m7 m8 m9 cI cZ cL co (nI day) (Q 0) (nI nb) (Q 1) (Q 2) (Q 3) (Q 4) (nI nq) (Q 5) (Q 6) (Q 7) (Q 8) (nI nw) (Q 9) (Q 10) (Q 11) (Q 12) (Q 13) (Q 14) (nI dayt) (T 0) (nI nbt) (T 1) (T 2) (T 3) (T 4) (nI nqt) (T 5) (T 6) (T 7) (T 8) (nI nwt) (T 9) (T 10) (T 11) (T 12) (T 13) (T 14) (nI nr) ca bo lo th (nI nb) (nI nq) (nI nr) (Q 0) (enR Q) (enP Q) (enS Q) (enB ca we) (enN day co nw))) (hS : va_S A s.heap H locs) (hl : lv_has ls 9 [(0, .ref scr), (1, .ref gx), (2, .ref mo), (3, .ref ou), (4, .int (nI i))]) (hi : i + 4 ≤ L) (hcz : cz + 12 ≤ 601024) (hsz : sz + 400 ≤ 7293034) (hp1 : xs (i + 1) = y1) (hp2 : xs (i + 2) = y2) (hp3 : xs (i + 3) = y3) (hy : ¬ ((1 ≤ y1 ∧ y1 ≤ 9) ∧ (0 ≤ y2 ∧ y2 ≤ 9) ∧ (0 ≤ y3 ∧ y3 ≤ 200))) (K : ∀ (H1 : Heap) (locs1 : List Loc) (ls1 : Array Slot), va_P D vwCl (gWld gx qu qf bd bd0 bd1 bd2 bd3 cr cr0 cr1 cr2 cr3 wh wh0 wh1 wh2 wh3 wh4 wh5 qt qft bdt bdt0 bdt1 bdt2 bdt3 crt crt0 crt1 crt2 crt3 wht wht0 wht1 wht2 wht3 wht4 wht5 rf rf0 rf1 ou mo m4 m5 m6 m7 m8 m9 cI cZ cL co (nI day) (Q 0) (nI nb) (Q 1) (Q 2) (Q 3) (Q 4) (nI nq) (Q 5) (Q 6) (Q 7) (Q 8) (nI nw) (Q 9) (Q 10) (Q 11) (Q 12) (Q 13) (Q 14) (nI dayt) (T 0) (nI nbt) (T 1) (T 2) (T 3) (T 4) (nI nqt) (T 5) (T 6) (T 7) (T 8) (nI nwt) (T 9) (T 10) (T 11) (T 12) (T 13) (T 14) (nI nr) ca bo lo 1 (nI nb) (nI nq) (nI nr) (Q 0) (enR Q) (enP Q) (enS Q) (enB ca we) (enN day co nw)) H1 → va_D A (gWld gx qu qf bd bd0 bd1 bd2 bd3 cr cr0 cr1 cr2 cr3 wh wh0 wh1 wh2 wh3 wh4 wh5 qt qft bdt bdt0 bdt1 bdt2 bdt3 crt crt0 crt1 crt2 crt3 wht wht0 wht1 wht2 wht3 wht4 wht5 rf rf0 rf1 ou mo m4 m5 m6 m7 m8 m9 cI cZ cL co (nI day) (Q 0) (nI nb) (Q 1) (Q 2) (Q 3) (Q 4) (nI nq) (Q 5) (Q 6) (Q 7) (Q 8) (nI nw) (Q 9) (Q 10) (Q 11) (Q 12) (Q 13) (Q 14) (nI dayt) (T 0) (nI nbt) (T 1) (T 2) (T 3) (T 4) (nI nqt) (T 5) (T 6) (T 7) (T 8) (nI nwt) (T 9) (T 10) (T 11) (T 12) (T 13) (T 14) (nI nr) ca bo lo 1 (nI nb) (nI nq) (nI nr) (Q 0) (enR Q) (enP Q) (enS Q) (enB ca we) (enN day co nw)) → va_S A s.heap H1 locs1 → lv_has ls1 9 [(0, .ref scr), (1, .ref gx), (2, .ref mo), (3, .ref ou), (4, .int (nI i))] → W p l e room_1 s m args below meth c H1 locs1 (cz + 12) (sz + 400) Qe (F0 m 1267 ls1 [])) : W p l e room_1 s m args below meth c H locs cz sz Qe (F0 m 196 ls []) := by
  obtain ⟨hx, hb, hml, hown, hts, htb, hK4, hR, hXv, hbl, hbA, hXA, hC, hA, hL2⟩ := C0
  have hK : va_K D vwCl (gT cI cZ cL) s := hK4.sub [0, 1, 2] rfl
  refine lv_aload_n hx hb dL_law_196 rfl (lv_at hl 1 rfl) ?_
  refine lv_aload_n hx hb dL_law_197 rfl (lv_at hl 0 rfl) ?_
  refine lv_iload hx hb dL_law_198 (lv_at hl 4 rfl) ?_
  refine lv_iconst (v := 1) hx hb dL_law_200 (by decide) ?_
  refine lv_iadd hx hb dL_law_201 ?_
  refine gw_top (y := nI (i + 1)) (nI_add i 1) ?_
  refine gw_sld hx hb hXv hbl hbA hS (k := i + 1) (by omega) (by omega) dL_law_202 ?_
  refine gw_top (y := y1) hp1 ?_
  refine lv_aload_n hx hb dL_law_203 rfl (lv_at hl 0 rfl) ?_
  refine lv_iload hx hb dL_law_204 (lv_at hl 4 rfl) ?_
  refine lv_iconst (v := 2) hx hb dL_law_206 (by decide) ?_
  refine lv_iadd hx hb dL_law_207 ?_
  refine gw_top (y := nI (i + 2)) (nI_add i 2) ?_
  refine gw_sld hx hb hXv hbl hbA hS (k := i + 2) (by omega) (by omega) dL_law_208 ?_
  refine gw_top (y := y2) hp2 ?_
  refine lv_aload_n hx hb dL_law_209 rfl (lv_at hl 0 rfl) ?_
  refine lv_iload hx hb dL_law_210 (lv_at hl 4 rfl) ?_
  refine lv_iconst (v := 3) hx hb dL_law_212 (by decide) ?_
  refine lv_iadd hx hb dL_law_213 ?_
  refine gw_top (y := nI (i + 3)) (nI_add i 3) ?_
  refine gw_sld hx hb hXv hbl hbA hS (k := i + 3) (by omega) (by omega) dL_law_214 ?_
  refine gw_top (y := y3) hp3 ?_
  refine lv_aload_n hx hb dL_law_215 rfl (lv_at hl 3 rfl) ?_
  refine va_calli (vx_runSW (As := [.ref gx, .int y1, .int y2, .int y3, .ref ou]) (rest := []) ⟨hx, hb, hml, hown, hts⟩ (met_L_open_f1 l hfl D cI cZ cL gx qu qt rf co y1 y2 y3 ou (by first | assumption | omega)) (vx_cwSW 5 hts gL_law_L_open rfl rfl rfl (by decide +kernel) ⟨Nat.le_of_ble_eq_true rfl, Nat.le_of_ble_eq_true rfl⟩) (gw_psy hK hP hXA hC hS (wc := [(gx, .inr (5, [.ref qu, .ref qt, .ref rf, .int co]))]) [0] rfl) rfl rfl hl.1 rfl (lv_room (Nat.le_of_ble_eq_true rfl)) dL_law_216 ⟨(by show _ ≤ 601024; omega), (by show _ ≤ 7293034; omega)⟩) hS (fun _ _ z => z.elim) (fun _ z => z.elim) (fun r_1 _ t H1 locs ht hvm hw hB hz1 hk1 hS => ?_)
  have hP := gw_ro hP hk1
  generalize H1 = H at hP hS ⊢
  refine W.widen (k := cz + 1) (n := sz + 6) (by omega) (by omega) ?_
  subst hw
  refine lv_istore (lv' := [(5, .int 1), (0, .ref scr), (1, .ref gx), (2, .ref mo), (3, .ref ou), (4, .int (nI i))]) hx hb dL_law_219 hl (by decide) rfl (fun ls hl => ?_)
  refine lv_aload_n hx hb dL_law_221 rfl (lv_at hl 3 rfl) ?_
  refine lv_aload_n hx hb dL_law_222 rfl (lv_at hl 1 rfl) ?_
  refine lv_iload hx hb dL_law_223 (lv_at hl 5 rfl) ?_
  refine lv_iconst (v := 1) hx hb dL_law_225 (by decide) ?_
  refine lv_iadd hx hb dL_law_226 ?_
  refine gw_top (y := nI (i + 1)) (nI_add i 1) ?_
  refine gw_sld hx hb hXv hbl hbA hS (k := i + 1) (by omega) (by omega) dL_law_227 ?_
  refine gw_top (y := y1) hp1 ?_
  refine lv_aload_n hx hb dL_law_228 rfl (lv_at hl 1 rfl) ?_
  refine lv_iload hx hb dL_law_229 (lv_at hl 5 rfl) ?_
  refine lv_iconst (v := 2) hx hb dL_law_231 (by decide) ?_
  refine lv_iadd hx hb dL_law_232 ?_
  refine gw_top (y := nI (i + 2)) (nI_add i 2) ?_
  refine gw_sld hx hb hXv hbl hbA hS (k := i + 2) (by omega) (by omega) dL_law_233 ?_
  refine gw_top (y := y2) hp2 ?_
  refine lv_aload_n hx hb dL_law_234 rfl (lv_at hl 1 rfl) ?_
  refine lv_iload hx hb dL_law_235 (lv_at hl 5 rfl) ?_
  refine lv_iconst (v := 3) hx hb dL_law_237 (by decide) ?_
  refine lv_iadd hx hb dL_law_238 ?_
  refine gw_top (y := nI (i + 3)) (nI_add i 3) ?_
  refine gw_sld hx hb hXv hbl hbA hS (k := i + 3) (by omega) (by omega) dL_law_239 ?_
  refine gw_top (y := y3) hp3 ?_
  have hFc := gw_free (wc := [(mo, .inr (6, [.int th, .int (nI nb), .int (nI nq), .int (nI nr), .ref m4, .ref m5, .ref m6, .ref m7, .ref m8, .ref m9]))]) hD [43] rfl
  refine va_calli (va_runV (As := [.int y1, .int y2, .int y3]) (rest := []) ⟨hx, hb, hml, hown, hts⟩ (met_X6_open_f1 l D cI cZ cL mo m4 m5 m6 m7 m8 m9 th nb nq nr y1 y2 y3 (by first | assumption | omega)) (cwV 3 hts gL_law_X6_open rfl rfl rfl (by decide +kernel) ⟨Nat.le_of_ble_eq_true rfl, Nat.le_of_ble_eq_true rfl⟩) (gw_pvw hK hP hD (wc := [(mo, .inr (6, [.int th, .int (nI nb), .int (nI nq), .int (nI nr), .ref m4, .ref m5, .ref m6, .ref m7, .ref m8, .ref m9]))]) [43] (by decide +kernel) rfl rfl 6 rfl rfl rfl) rfl rfl hl.1 rfl (lv_room (Nat.le_of_ble_eq_true rfl)) dL_law_240 ⟨(by show _ ≤ 601024; omega), (by show _ ≤ 7293034; omega)⟩) hS (fun q _ h => hFc q h) hFc (fun r_3 _ t H1 locs ht hvm hw hB hz1 hk1 hS => ?_)
  rw [ht] at hB
  obtain ⟨hP, hD⟩ := gw_upd (wc := [(mo, .inr (6, [.int th, .int (nI nb), .int (nI nq), .int (nI nr), .ref m4, .ref m5, .ref m6, .ref m7, .ref m8, .ref m9]))]) (w1 := [(mo, .inr (6, [.int 1, .int (nI nb), .int (nI nq), .int (nI nr), .ref m4, .ref m5, .ref m6, .ref m7, .ref m8, .ref m9]))]) (ws' := (gWld gx qu qf bd bd0 bd1 bd2 bd3 cr cr0 cr1 cr2 cr3 wh wh0 wh1 wh2 wh3 wh4 wh5 qt qft bdt bdt0 bdt1 bdt2 bdt3 crt crt0 crt1 crt2 crt3 wht wht0 wht1 wht2 wht3 wht4 wht5 rf rf0 rf1 ou mo m4 m5 m6 m7 m8 m9 cI cZ cL co (nI day) (Q 0) (nI nb) (Q 1) (Q 2) (Q 3) (Q 4) (nI nq) (Q 5) (Q 6) (Q 7) (Q 8) (nI nw) (Q 9) (Q 10) (Q 11) (Q 12) (Q 13) (Q 14) (nI dayt) (T 0) (nI nbt) (T 1) (T 2) (T 3) (T 4) (nI nqt) (T 5) (T 6) (T 7) (T 8) (nI nwt) (T 9) (T 10) (T 11) (T 12) (T 13) (T 14) (nI nr) ca bo lo 1 (nI nb) (nI nq) (nI nr) (Q 0) (enR Q) (enP Q) (enS Q) (enB ca we) (enN day co nw))) hP hD [43] rfl rfl hk1 hB rfl
  generalize H1 = H at hP hS ⊢
  subst hw
  refine lv_istore (lv' := [(6, .int 0), (5, .int 1), (0, .ref scr), (1, .ref gx), (2, .ref mo), (3, .ref ou), (4, .int (nI i))]) hx hb dL_law_243 hl (by decide) rfl (fun ls hl => ?_)
  refine lv_aload_n hx hb dL_law_245 rfl (lv_at hl 4 rfl) ?_
  refine va_calli (va_runV (As := []) (rest := []) ⟨hx, hb, hml, hown, hts⟩ (met_X6_thrown l D cI cZ cL mo m4 m5 m6 m7 m8 m9 1 nb nq nr) (cwV 0 hts gL_law_X6_thrown rfl rfl rfl (by decide +kernel) ⟨Nat.le_of_ble_eq_true rfl, Nat.le_of_ble_eq_true rfl⟩) (gw_pvr hK hP (wc := [(mo, .inr (6, [.int 1, .int (nI nb), .int (nI nq), .int (nI nr), .ref m4, .ref m5, .ref m6, .ref m7, .ref m8, .ref m9]))]) [43] rfl 6 rfl rfl rfl) rfl rfl hl.1 rfl (lv_room (Nat.le_of_ble_eq_true rfl)) dL_law_246 ⟨(by show _ ≤ 601024; omega), (by show _ ≤ 7293034; omega)⟩) hS (fun _ _ z => z.elim) (fun _ z => z.elim) (fun r_5 _ t H1 locs ht hvm hw hB hz1 hk1 hS => ?_)
  have hP := gw_ro hP hk1
  generalize H1 = H at hP hS ⊢
  subst hw
  refine lv_iload hx hb dL_law_249 (lv_at hl 1 rfl) ?_
  refine lv_icmp_eq (tgt := 256) hx hb dL_law_251 (by decide) (fun _ => ?_) (fun c_6 => False.elim (by revert c_6; decide))
  refine lv_iload hx hb dL_law_256 (lv_at hl 1 rfl) ?_
  refine lv_if_ne (tgt := 273) hx hb dL_law_258 (by decide) (fun _ => ?_) (fun c_7 => False.elim (by revert c_7; decide))
  refine lv_goto (tgt := 1267) hx hb dL_law_273 (by decide) ?_
  refine W.widen (k := cz + 12) (n := sz + 400) (by omega) (by omega) ?_
  exact K  _ _ _ hP hD hS (lv_sub hl [2, 3, 4, 5, 6] rfl)

set_option maxHeartbeats 4000000 in
set_option maxRecDepth 100000 in
theorem law_open_f2 {p : Program} {l : Launch} {e : Env} {s : State} {m : MethodId} {args : Array Value} {below : List Frame} {meth : Method} {c : Code} {Qe : State → Prop} {scr L : Nat} {xs : Nat → Int32} {D : va_G} {cI cZ cL cO : ClassId} {A : Nat → Prop} {H : Heap} {locs : List Loc} {ls : Array Slot} {cz sz : Nat} (hfl : l.stackTraces = false) (C0 : gLC p s m c args scr L xs D cI cZ cL cO A) {gx qu qf bd bd0 bd1 bd2 bd3 cr cr0 cr1 cr2 cr3 wh wh0 wh1 wh2 wh3 wh4 wh5 qt qft bdt bdt0 bdt1 bdt2 bdt3 crt crt0 crt1 crt2 crt3 wht wht0 wht1 wht2 wht3 wht4 wht5 rf rf0 rf1 ou mo m4 m5 m6 m7 m8 m9 : Nat} {co : Int32} {Q : Nat → Nat → Int32} {nb : Nat} {nq : Nat} {nw : Nat} {day : Nat} {T : Nat → Nat → Int32} {nbt : Nat} {nqt : Nat} {nwt : Nat} {dayt : Nat} {nr : Nat} {ca : Nat → Int32} {bo : Nat → Int32} {lo : Nat → Int64} {th : Int32} {we : Nat → Int32} {i : Nat} {y1 : Int32} {y2 : Int32} {y3 : Int32} (hP : va_P D vwCl (gWld gx qu qf bd bd0 bd1 bd2 bd3 cr cr0 cr1 cr2 cr3 wh wh0 wh1 wh2 wh3 wh4 wh5 qt qft bdt bdt0 bdt1 bdt2 bdt3 crt crt0 crt1 crt2 crt3 wht wht0 wht1 wht2 wht3 wht4 wht5 rf rf0 rf1 ou mo m4 m5 m6 m7 m8 m9 cI cZ cL co (nI day) (Q 0) (nI nb) (Q 1) (Q 2) (Q 3) (Q 4) (nI nq) (Q 5) (Q 6) (Q 7) (Q 8) (nI nw) (Q 9) (Q 10) (Q 11) (Q 12) (Q 13) (Q 14) (nI dayt) (T 0) (nI nbt) (T 1) (T 2) (T 3) (T 4) (nI nqt) (T 5) (T 6) (T 7) (T 8) (nI nwt) (T 9) (T 10) (T 11) (T 12) (T 13) (T 14) (nI nr) ca bo lo th (nI nb) (nI nq) (nI nr) (Q 0) (enR Q) (enP Q) (enS Q) (enB ca we) (enN day co nw)) H) (hD : va_D A (gWld gx qu qf bd bd0 bd1 bd2 bd3 cr cr0 cr1 cr2 cr3 wh wh0 wh1 wh2 wh3 wh4 wh5 qt qft bdt bdt0 bdt1 bdt2 bdt3 crt crt0 crt1 crt2 crt3 wht wht0 wht1 wht2 wht3 wht4 wht5 rf rf0 rf1 ou mo m4 m5 m6 m7 m8 m9 cI cZ cL co (nI day) (Q 0) (nI nb) (Q 1) (Q 2) (Q 3) (Q 4) (nI nq) (Q 5) (Q 6) (Q 7) (Q 8) (nI nw) (Q 9) (Q 10) (Q 11) (Q 12) (Q 13) (Q 14) (nI dayt) (T 0) (nI nbt) (T 1) (T 2) (T 3) (T 4) (nI nqt) (T 5) (T 6) (T 7) (T 8) (nI nwt) (T 9) (T 10) (T 11) (T 12) (T 13) (T 14) (nI nr) ca bo lo th (nI nb) (nI nq) (nI nr) (Q 0) (enR Q) (enP Q) (enS Q) (enB ca we) (enN day co nw))) (hS : va_S A s.heap H locs) (hl : lv_has ls 9 [(0, .ref scr), (1, .ref gx), (2, .ref mo), (3, .ref ou), (4, .int (nI i))]) (hi : i + 4 ≤ L) (hcz : cz + 12 ≤ 601024) (hsz : sz + 400 ≤ 7293034) (hp1 : xs (i + 1) = y1) (hp2 : xs (i + 2) = y2) (hp3 : xs (i + 3) = y3) (hy1 : 1 ≤ y1 ∧ y1 ≤ 9) (hy2 : 0 ≤ y2 ∧ y2 ≤ 9) (hy3 : 0 ≤ y3 ∧ y3 ≤ 200) (hnb : nb = 5) (K : ∀ (H1 : Heap) (locs1 : List Loc) (ls1 : Array Slot), va_P D vwCl (gWld gx qu qf bd bd0 bd1 bd2 bd3 cr cr0 cr1 cr2 cr3 wh wh0 wh1 wh2 wh3 wh4 wh5 qt qft bdt bdt0 bdt1 bdt2 bdt3 crt crt0 crt1 crt2 crt3 wht wht0 wht1 wht2 wht3 wht4 wht5 rf rf0 rf1 ou mo m4 m5 m6 m7 m8 m9 cI cZ cL co (nI day) (Q 0) (nI nb) (Q 1) (Q 2) (Q 3) (Q 4) (nI nq) (Q 5) (Q 6) (Q 7) (Q 8) (nI nw) (Q 9) (Q 10) (Q 11) (Q 12) (Q 13) (Q 14) (nI dayt) (T 0) (nI nbt) (T 1) (T 2) (T 3) (T 4) (nI nqt) (T 5) (T 6) (T 7) (T 8) (nI nwt) (T 9) (T 10) (T 11) (T 12) (T 13) (T 14) (nI nr) ca bo lo 2 (nI nb) (nI nq) (nI nr) (Q 0) (enR Q) (enP Q) (enS Q) (enB ca we) (enN day co nw)) H1 → va_D A (gWld gx qu qf bd bd0 bd1 bd2 bd3 cr cr0 cr1 cr2 cr3 wh wh0 wh1 wh2 wh3 wh4 wh5 qt qft bdt bdt0 bdt1 bdt2 bdt3 crt crt0 crt1 crt2 crt3 wht wht0 wht1 wht2 wht3 wht4 wht5 rf rf0 rf1 ou mo m4 m5 m6 m7 m8 m9 cI cZ cL co (nI day) (Q 0) (nI nb) (Q 1) (Q 2) (Q 3) (Q 4) (nI nq) (Q 5) (Q 6) (Q 7) (Q 8) (nI nw) (Q 9) (Q 10) (Q 11) (Q 12) (Q 13) (Q 14) (nI dayt) (T 0) (nI nbt) (T 1) (T 2) (T 3) (T 4) (nI nqt) (T 5) (T 6) (T 7) (T 8) (nI nwt) (T 9) (T 10) (T 11) (T 12) (T 13) (T 14) (nI nr) ca bo lo 2 (nI nb) (nI nq) (nI nr) (Q 0) (enR Q) (enP Q) (enS Q) (enB ca we) (enN day co nw)) → va_S A s.heap H1 locs1 → lv_has ls1 9 [(0, .ref scr), (1, .ref gx), (2, .ref mo), (3, .ref ou), (4, .int (nI i))] → W p l e room_1 s m args below meth c H1 locs1 (cz + 12) (sz + 400) Qe (F0 m 1267 ls1 [])) : W p l e room_1 s m args below meth c H locs cz sz Qe (F0 m 196 ls []) := by
  obtain ⟨hx, hb, hml, hown, hts, htb, hK4, hR, hXv, hbl, hbA, hXA, hC, hA, hL2⟩ := C0
  have hK : va_K D vwCl (gT cI cZ cL) s := hK4.sub [0, 1, 2] rfl
  refine lv_aload_n hx hb dL_law_196 rfl (lv_at hl 1 rfl) ?_
  refine lv_aload_n hx hb dL_law_197 rfl (lv_at hl 0 rfl) ?_
  refine lv_iload hx hb dL_law_198 (lv_at hl 4 rfl) ?_
  refine lv_iconst (v := 1) hx hb dL_law_200 (by decide) ?_
  refine lv_iadd hx hb dL_law_201 ?_
  refine gw_top (y := nI (i + 1)) (nI_add i 1) ?_
  refine gw_sld hx hb hXv hbl hbA hS (k := i + 1) (by omega) (by omega) dL_law_202 ?_
  refine gw_top (y := y1) hp1 ?_
  refine lv_aload_n hx hb dL_law_203 rfl (lv_at hl 0 rfl) ?_
  refine lv_iload hx hb dL_law_204 (lv_at hl 4 rfl) ?_
  refine lv_iconst (v := 2) hx hb dL_law_206 (by decide) ?_
  refine lv_iadd hx hb dL_law_207 ?_
  refine gw_top (y := nI (i + 2)) (nI_add i 2) ?_
  refine gw_sld hx hb hXv hbl hbA hS (k := i + 2) (by omega) (by omega) dL_law_208 ?_
  refine gw_top (y := y2) hp2 ?_
  refine lv_aload_n hx hb dL_law_209 rfl (lv_at hl 0 rfl) ?_
  refine lv_iload hx hb dL_law_210 (lv_at hl 4 rfl) ?_
  refine lv_iconst (v := 3) hx hb dL_law_212 (by decide) ?_
  refine lv_iadd hx hb dL_law_213 ?_
  refine gw_top (y := nI (i + 3)) (nI_add i 3) ?_
  refine gw_sld hx hb hXv hbl hbA hS (k := i + 3) (by omega) (by omega) dL_law_214 ?_
  refine gw_top (y := y3) hp3 ?_
  refine lv_aload_n hx hb dL_law_215 rfl (lv_at hl 3 rfl) ?_
  refine va_calli (vx_runSW (As := [.ref gx, .int y1, .int y2, .int y3, .ref ou]) (rest := []) ⟨hx, hb, hml, hown, hts⟩ (met_L_open_f2 l hfl D cI cZ cL gx qu qt rf qf bd cr wh bd0 bd1 bd2 bd3 co nb day y1 y2 y3 ou (by first | assumption | omega) (by first | assumption | omega) (by first | assumption | omega) (by first | assumption | omega)) (vx_cwSW 5 hts gL_law_L_open rfl rfl rfl (by decide +kernel) ⟨Nat.le_of_ble_eq_true rfl, Nat.le_of_ble_eq_true rfl⟩) (gw_psy hK hP hXA hC hS (wc := [(gx, .inr (5, [.ref qu, .ref qt, .ref rf, .int co])), (qu, .inr (2, [.ref qf, .ref bd, .ref cr, .ref wh, .int (nI day)])), (bd, .inr (0, [.ref bd0, .ref bd1, .ref bd2, .ref bd3, .int (nI nb)]))]) [0, 1, 3] rfl) rfl rfl hl.1 rfl (lv_room (Nat.le_of_ble_eq_true rfl)) dL_law_216 ⟨(by show _ ≤ 601024; omega), (by show _ ≤ 7293034; omega)⟩) hS (fun _ _ z => z.elim) (fun _ z => z.elim) (fun r_1 _ t H1 locs ht hvm hw hB hz1 hk1 hS => ?_)
  have hP := gw_ro hP hk1
  generalize H1 = H at hP hS ⊢
  refine W.widen (k := cz + 1) (n := sz + 6) (by omega) (by omega) ?_
  subst hw
  refine lv_istore (lv' := [(5, .int 2), (0, .ref scr), (1, .ref gx), (2, .ref mo), (3, .ref ou), (4, .int (nI i))]) hx hb dL_law_219 hl (by decide) rfl (fun ls hl => ?_)
  refine lv_aload_n hx hb dL_law_221 rfl (lv_at hl 3 rfl) ?_
  refine lv_aload_n hx hb dL_law_222 rfl (lv_at hl 1 rfl) ?_
  refine lv_iload hx hb dL_law_223 (lv_at hl 5 rfl) ?_
  refine lv_iconst (v := 1) hx hb dL_law_225 (by decide) ?_
  refine lv_iadd hx hb dL_law_226 ?_
  refine gw_top (y := nI (i + 1)) (nI_add i 1) ?_
  refine gw_sld hx hb hXv hbl hbA hS (k := i + 1) (by omega) (by omega) dL_law_227 ?_
  refine gw_top (y := y1) hp1 ?_
  refine lv_aload_n hx hb dL_law_228 rfl (lv_at hl 1 rfl) ?_
  refine lv_iload hx hb dL_law_229 (lv_at hl 5 rfl) ?_
  refine lv_iconst (v := 2) hx hb dL_law_231 (by decide) ?_
  refine lv_iadd hx hb dL_law_232 ?_
  refine gw_top (y := nI (i + 2)) (nI_add i 2) ?_
  refine gw_sld hx hb hXv hbl hbA hS (k := i + 2) (by omega) (by omega) dL_law_233 ?_
  refine gw_top (y := y2) hp2 ?_
  refine lv_aload_n hx hb dL_law_234 rfl (lv_at hl 1 rfl) ?_
  refine lv_iload hx hb dL_law_235 (lv_at hl 5 rfl) ?_
  refine lv_iconst (v := 3) hx hb dL_law_237 (by decide) ?_
  refine lv_iadd hx hb dL_law_238 ?_
  refine gw_top (y := nI (i + 3)) (nI_add i 3) ?_
  refine gw_sld hx hb hXv hbl hbA hS (k := i + 3) (by omega) (by omega) dL_law_239 ?_
  refine gw_top (y := y3) hp3 ?_
  have hFc := gw_free (wc := [(mo, .inr (6, [.int th, .int (nI nb), .int (nI nq), .int (nI nr), .ref m4, .ref m5, .ref m6, .ref m7, .ref m8, .ref m9]))]) hD [43] rfl
  refine va_calli (va_runV (As := [.int y1, .int y2, .int y3]) (rest := []) ⟨hx, hb, hml, hown, hts⟩ (met_X6_open_f2 l D cI cZ cL mo m4 m5 m6 m7 m8 m9 th nb nq nr y1 y2 y3 (by first | assumption | omega) (by first | assumption | omega) (by first | assumption | omega) (by first | assumption | omega)) (cwV 3 hts gL_law_X6_open rfl rfl rfl (by decide +kernel) ⟨Nat.le_of_ble_eq_true rfl, Nat.le_of_ble_eq_true rfl⟩) (gw_pvw hK hP hD (wc := [(mo, .inr (6, [.int th, .int (nI nb), .int (nI nq), .int (nI nr), .ref m4, .ref m5, .ref m6, .ref m7, .ref m8, .ref m9]))]) [43] (by decide +kernel) rfl rfl 6 rfl rfl rfl) rfl rfl hl.1 rfl (lv_room (Nat.le_of_ble_eq_true rfl)) dL_law_240 ⟨(by show _ ≤ 601024; omega), (by show _ ≤ 7293034; omega)⟩) hS (fun q _ h => hFc q h) hFc (fun r_3 _ t H1 locs ht hvm hw hB hz1 hk1 hS => ?_)
  rw [ht] at hB
  obtain ⟨hP, hD⟩ := gw_upd (wc := [(mo, .inr (6, [.int th, .int (nI nb), .int (nI nq), .int (nI nr), .ref m4, .ref m5, .ref m6, .ref m7, .ref m8, .ref m9]))]) (w1 := [(mo, .inr (6, [.int 2, .int (nI nb), .int (nI nq), .int (nI nr), .ref m4, .ref m5, .ref m6, .ref m7, .ref m8, .ref m9]))]) (ws' := (gWld gx qu qf bd bd0 bd1 bd2 bd3 cr cr0 cr1 cr2 cr3 wh wh0 wh1 wh2 wh3 wh4 wh5 qt qft bdt bdt0 bdt1 bdt2 bdt3 crt crt0 crt1 crt2 crt3 wht wht0 wht1 wht2 wht3 wht4 wht5 rf rf0 rf1 ou mo m4 m5 m6 m7 m8 m9 cI cZ cL co (nI day) (Q 0) (nI nb) (Q 1) (Q 2) (Q 3) (Q 4) (nI nq) (Q 5) (Q 6) (Q 7) (Q 8) (nI nw) (Q 9) (Q 10) (Q 11) (Q 12) (Q 13) (Q 14) (nI dayt) (T 0) (nI nbt) (T 1) (T 2) (T 3) (T 4) (nI nqt) (T 5) (T 6) (T 7) (T 8) (nI nwt) (T 9) (T 10) (T 11) (T 12) (T 13) (T 14) (nI nr) ca bo lo 2 (nI nb) (nI nq) (nI nr) (Q 0) (enR Q) (enP Q) (enS Q) (enB ca we) (enN day co nw))) hP hD [43] rfl rfl hk1 hB rfl
  generalize H1 = H at hP hS ⊢
  subst hw
  refine lv_istore (lv' := [(6, .int 0), (5, .int 2), (0, .ref scr), (1, .ref gx), (2, .ref mo), (3, .ref ou), (4, .int (nI i))]) hx hb dL_law_243 hl (by decide) rfl (fun ls hl => ?_)
  refine lv_aload_n hx hb dL_law_245 rfl (lv_at hl 4 rfl) ?_
  refine va_calli (va_runV (As := []) (rest := []) ⟨hx, hb, hml, hown, hts⟩ (met_X6_thrown l D cI cZ cL mo m4 m5 m6 m7 m8 m9 2 nb nq nr) (cwV 0 hts gL_law_X6_thrown rfl rfl rfl (by decide +kernel) ⟨Nat.le_of_ble_eq_true rfl, Nat.le_of_ble_eq_true rfl⟩) (gw_pvr hK hP (wc := [(mo, .inr (6, [.int 2, .int (nI nb), .int (nI nq), .int (nI nr), .ref m4, .ref m5, .ref m6, .ref m7, .ref m8, .ref m9]))]) [43] rfl 6 rfl rfl rfl) rfl rfl hl.1 rfl (lv_room (Nat.le_of_ble_eq_true rfl)) dL_law_246 ⟨(by show _ ≤ 601024; omega), (by show _ ≤ 7293034; omega)⟩) hS (fun _ _ z => z.elim) (fun _ z => z.elim) (fun r_5 _ t H1 locs ht hvm hw hB hz1 hk1 hS => ?_)
  have hP := gw_ro hP hk1
  generalize H1 = H at hP hS ⊢
  subst hw
  refine lv_iload hx hb dL_law_249 (lv_at hl 1 rfl) ?_
  refine lv_icmp_eq (tgt := 256) hx hb dL_law_251 (by decide) (fun _ => ?_) (fun c_6 => False.elim (by revert c_6; decide))
  refine lv_iload hx hb dL_law_256 (lv_at hl 1 rfl) ?_
  refine lv_if_ne (tgt := 273) hx hb dL_law_258 (by decide) (fun _ => ?_) (fun c_7 => False.elim (by revert c_7; decide))
  refine lv_goto (tgt := 1267) hx hb dL_law_273 (by decide) ?_
  refine W.widen (k := cz + 12) (n := sz + 400) (by omega) (by omega) ?_
  exact K  _ _ _ hP hD hS (lv_sub hl [2, 3, 4, 5, 6] rfl)

set_option maxHeartbeats 4000000 in
set_option maxRecDepth 100000 in
theorem law_open_ok {p : Program} {l : Launch} {e : Env} {s : State} {m : MethodId} {args : Array Value} {below : List Frame} {meth : Method} {c : Code} {Qe : State → Prop} {scr L : Nat} {xs : Nat → Int32} {D : va_G} {cI cZ cL cO : ClassId} {A : Nat → Prop} {H : Heap} {locs : List Loc} {ls : Array Slot} {cz sz : Nat} (hfl : l.stackTraces = false) (C0 : gLC p s m c args scr L xs D cI cZ cL cO A) {gx qu qf bd bd0 bd1 bd2 bd3 cr cr0 cr1 cr2 cr3 wh wh0 wh1 wh2 wh3 wh4 wh5 qt qft bdt bdt0 bdt1 bdt2 bdt3 crt crt0 crt1 crt2 crt3 wht wht0 wht1 wht2 wht3 wht4 wht5 rf rf0 rf1 ou mo m4 m5 m6 m7 m8 m9 : Nat} {co : Int32} {Q : Nat → Nat → Int32} {nb : Nat} {nq : Nat} {nw : Nat} {day : Nat} {T : Nat → Nat → Int32} {nbt : Nat} {nqt : Nat} {nwt : Nat} {dayt : Nat} {nr : Nat} {ca : Nat → Int32} {bo : Nat → Int32} {lo : Nat → Int64} {th : Int32} {we : Nat → Int32} {i : Nat} {y1 : Int32} {y2 : Int32} {y3 : Int32} (hP : va_P D vwCl (gWld gx qu qf bd bd0 bd1 bd2 bd3 cr cr0 cr1 cr2 cr3 wh wh0 wh1 wh2 wh3 wh4 wh5 qt qft bdt bdt0 bdt1 bdt2 bdt3 crt crt0 crt1 crt2 crt3 wht wht0 wht1 wht2 wht3 wht4 wht5 rf rf0 rf1 ou mo m4 m5 m6 m7 m8 m9 cI cZ cL co (nI day) (Q 0) (nI nb) (Q 1) (Q 2) (Q 3) (Q 4) (nI nq) (Q 5) (Q 6) (Q 7) (Q 8) (nI nw) (Q 9) (Q 10) (Q 11) (Q 12) (Q 13) (Q 14) (nI dayt) (T 0) (nI nbt) (T 1) (T 2) (T 3) (T 4) (nI nqt) (T 5) (T 6) (T 7) (T 8) (nI nwt) (T 9) (T 10) (T 11) (T 12) (T 13) (T 14) (nI nr) ca bo lo th (nI nb) (nI nq) (nI nr) (Q 0) (enR Q) (enP Q) (enS Q) (enB ca we) (enN day co nw)) H) (hD : va_D A (gWld gx qu qf bd bd0 bd1 bd2 bd3 cr cr0 cr1 cr2 cr3 wh wh0 wh1 wh2 wh3 wh4 wh5 qt qft bdt bdt0 bdt1 bdt2 bdt3 crt crt0 crt1 crt2 crt3 wht wht0 wht1 wht2 wht3 wht4 wht5 rf rf0 rf1 ou mo m4 m5 m6 m7 m8 m9 cI cZ cL co (nI day) (Q 0) (nI nb) (Q 1) (Q 2) (Q 3) (Q 4) (nI nq) (Q 5) (Q 6) (Q 7) (Q 8) (nI nw) (Q 9) (Q 10) (Q 11) (Q 12) (Q 13) (Q 14) (nI dayt) (T 0) (nI nbt) (T 1) (T 2) (T 3) (T 4) (nI nqt) (T 5) (T 6) (T 7) (T 8) (nI nwt) (T 9) (T 10) (T 11) (T 12) (T 13) (T 14) (nI nr) ca bo lo th (nI nb) (nI nq) (nI nr) (Q 0) (enR Q) (enP Q) (enS Q) (enB ca we) (enN day co nw))) (hS : va_S A s.heap H locs) (hl : lv_has ls 9 [(0, .ref scr), (1, .ref gx), (2, .ref mo), (3, .ref ou), (4, .int (nI i))]) (hi : i + 4 ≤ L) (hcz : cz + 12 ≤ 601024) (hsz : sz + 400 ≤ 7293034) (hp1 : xs (i + 1) = y1) (hp2 : xs (i + 2) = y2) (hp3 : xs (i + 3) = y3) (hy1 : 1 ≤ y1 ∧ y1 ≤ 9) (hy2 : 0 ≤ y2 ∧ y2 ≤ 9) (hy3 : 0 ≤ y3 ∧ y3 ≤ 200) (hnb : nb < 5) (K : ∀ (H1 : Heap) (locs1 : List Loc) (ls1 : Array Slot), va_P D vwCl (gWld gx qu qf bd bd0 bd1 bd2 bd3 cr cr0 cr1 cr2 cr3 wh wh0 wh1 wh2 wh3 wh4 wh5 qt qft bdt bdt0 bdt1 bdt2 bdt3 crt crt0 crt1 crt2 crt3 wht wht0 wht1 wht2 wht3 wht4 wht5 rf rf0 rf1 ou mo m4 m5 m6 m7 m8 m9 cI cZ cL co (nI day) (Q 0) (nI (nb + 1)) (upd (Q 1) nb y1) (upd (Q 2) nb y2) (upd (Q 3) nb y3) (Q 4) (nI nq) (Q 5) (Q 6) (Q 7) (Q 8) (nI nw) (Q 9) (Q 10) (Q 11) (Q 12) (Q 13) (Q 14) (nI dayt) (T 0) (nI nbt) (T 1) (T 2) (T 3) (T 4) (nI nqt) (T 5) (T 6) (T 7) (T 8) (nI nwt) (T 9) (T 10) (T 11) (T 12) (T 13) (T 14) (nI nr) ca bo (vp_updL lo 0 (nI nb).toInt64) 0 (nI (nb + 1)) (nI nq) (nI nr) (Q 0) (enR (gOpen Q nb y1 y2 y3)) (enP Q) (enS Q) (enB ca we) (enN day co nw)) H1 → va_D A (gWld gx qu qf bd bd0 bd1 bd2 bd3 cr cr0 cr1 cr2 cr3 wh wh0 wh1 wh2 wh3 wh4 wh5 qt qft bdt bdt0 bdt1 bdt2 bdt3 crt crt0 crt1 crt2 crt3 wht wht0 wht1 wht2 wht3 wht4 wht5 rf rf0 rf1 ou mo m4 m5 m6 m7 m8 m9 cI cZ cL co (nI day) (Q 0) (nI (nb + 1)) (upd (Q 1) nb y1) (upd (Q 2) nb y2) (upd (Q 3) nb y3) (Q 4) (nI nq) (Q 5) (Q 6) (Q 7) (Q 8) (nI nw) (Q 9) (Q 10) (Q 11) (Q 12) (Q 13) (Q 14) (nI dayt) (T 0) (nI nbt) (T 1) (T 2) (T 3) (T 4) (nI nqt) (T 5) (T 6) (T 7) (T 8) (nI nwt) (T 9) (T 10) (T 11) (T 12) (T 13) (T 14) (nI nr) ca bo (vp_updL lo 0 (nI nb).toInt64) 0 (nI (nb + 1)) (nI nq) (nI nr) (Q 0) (enR (gOpen Q nb y1 y2 y3)) (enP Q) (enS Q) (enB ca we) (enN day co nw)) → va_S A s.heap H1 locs1 → lv_has ls1 9 [(0, .ref scr), (1, .ref gx), (2, .ref mo), (3, .ref ou), (4, .int (nI i))] → W p l e room_1 s m args below meth c H1 locs1 (cz + 12) (sz + 400) Qe (F0 m 1267 ls1 [])) : W p l e room_1 s m args below meth c H locs cz sz Qe (F0 m 196 ls []) := by
  obtain ⟨hx, hb, hml, hown, hts, htb, hK4, hR, hXv, hbl, hbA, hXA, hC, hA, hL2⟩ := C0
  have hK : va_K D vwCl (gT cI cZ cL) s := hK4.sub [0, 1, 2] rfl
  refine lv_aload_n hx hb dL_law_196 rfl (lv_at hl 1 rfl) ?_
  refine lv_aload_n hx hb dL_law_197 rfl (lv_at hl 0 rfl) ?_
  refine lv_iload hx hb dL_law_198 (lv_at hl 4 rfl) ?_
  refine lv_iconst (v := 1) hx hb dL_law_200 (by decide) ?_
  refine lv_iadd hx hb dL_law_201 ?_
  refine gw_top (y := nI (i + 1)) (nI_add i 1) ?_
  refine gw_sld hx hb hXv hbl hbA hS (k := i + 1) (by omega) (by omega) dL_law_202 ?_
  refine gw_top (y := y1) hp1 ?_
  refine lv_aload_n hx hb dL_law_203 rfl (lv_at hl 0 rfl) ?_
  refine lv_iload hx hb dL_law_204 (lv_at hl 4 rfl) ?_
  refine lv_iconst (v := 2) hx hb dL_law_206 (by decide) ?_
  refine lv_iadd hx hb dL_law_207 ?_
  refine gw_top (y := nI (i + 2)) (nI_add i 2) ?_
  refine gw_sld hx hb hXv hbl hbA hS (k := i + 2) (by omega) (by omega) dL_law_208 ?_
  refine gw_top (y := y2) hp2 ?_
  refine lv_aload_n hx hb dL_law_209 rfl (lv_at hl 0 rfl) ?_
  refine lv_iload hx hb dL_law_210 (lv_at hl 4 rfl) ?_
  refine lv_iconst (v := 3) hx hb dL_law_212 (by decide) ?_
  refine lv_iadd hx hb dL_law_213 ?_
  refine gw_top (y := nI (i + 3)) (nI_add i 3) ?_
  refine gw_sld hx hb hXv hbl hbA hS (k := i + 3) (by omega) (by omega) dL_law_214 ?_
  refine gw_top (y := y3) hp3 ?_
  refine lv_aload_n hx hb dL_law_215 rfl (lv_at hl 3 rfl) ?_
  have hFc := gw_free (wc := [(gx, .inr (5, [.ref qu, .ref qt, .ref rf, .int co])), (qu, .inr (2, [.ref qf, .ref bd, .ref cr, .ref wh, .int (nI day)])), (bd, .inr (0, [.ref bd0, .ref bd1, .ref bd2, .ref bd3, .int (nI nb)])), (bd0, .inl (cI, 5, .inl (Q 1))), (bd1, .inl (cI, 5, .inl (Q 2))), (bd2, .inl (cI, 5, .inl (Q 3))), (ou, .inl (cL, 1, .inr (.inl lo)))]) hD [0, 1, 3, 4, 5, 6, 42] rfl
  refine va_calli (vx_runSW (As := [.ref gx, .int y1, .int y2, .int y3, .ref ou]) (rest := []) ⟨hx, hb, hml, hown, hts⟩ (met_L_open_ok l D cI cZ cL gx qu qt rf qf bd cr wh bd0 bd1 bd2 bd3 co Q nb day y1 y2 y3 ou lo (by first | assumption | omega) (by first | assumption | omega) (by first | assumption | omega) (by first | assumption | omega)) (vx_cwSW 5 hts gL_law_L_open rfl rfl rfl (by decide +kernel) ⟨Nat.le_of_ble_eq_true rfl, Nat.le_of_ble_eq_true rfl⟩) (gw_psw hK hP hD (wc := [(gx, .inr (5, [.ref qu, .ref qt, .ref rf, .int co])), (qu, .inr (2, [.ref qf, .ref bd, .ref cr, .ref wh, .int (nI day)])), (bd, .inr (0, [.ref bd0, .ref bd1, .ref bd2, .ref bd3, .int (nI nb)])), (bd0, .inl (cI, 5, .inl (Q 1))), (bd1, .inl (cI, 5, .inl (Q 2))), (bd2, .inl (cI, 5, .inl (Q 3))), (ou, .inl (cL, 1, .inr (.inl lo)))]) [0, 1, 3, 4, 5, 6, 42] (by decide +kernel) rfl rfl) rfl rfl hl.1 rfl (lv_room (Nat.le_of_ble_eq_true rfl)) dL_law_216 ⟨(by show _ ≤ 601024; omega), (by show _ ≤ 7293034; omega)⟩) hS (fun q _ h => hFc q h) hFc (fun r_1 _ t H1 locs ht hvm hw hB hz1 hk1 hS => ?_)
  rw [ht] at hB
  obtain ⟨hP, hD⟩ := gw_upd2 (wc := [(gx, .inr (5, [.ref qu, .ref qt, .ref rf, .int co])), (qu, .inr (2, [.ref qf, .ref bd, .ref cr, .ref wh, .int (nI day)])), (bd, .inr (0, [.ref bd0, .ref bd1, .ref bd2, .ref bd3, .int (nI nb)])), (bd0, .inl (cI, 5, .inl (Q 1))), (bd1, .inl (cI, 5, .inl (Q 2))), (bd2, .inl (cI, 5, .inl (Q 3))), (ou, .inl (cL, 1, .inr (.inl lo)))]) (w1 := [(gx, .inr (5, [.ref qu, .ref qt, .ref rf, .int co])), (qu, .inr (2, [.ref qf, .ref bd, .ref cr, .ref wh, .int (nI day)])), (bd, .inr (0, [.ref bd0, .ref bd1, .ref bd2, .ref bd3, .int (nI (nb + 1))])), (bd0, .inl (cI, 5, .inl (upd (Q 1) nb y1))), (bd1, .inl (cI, 5, .inl (upd (Q 2) nb y2))), (bd2, .inl (cI, 5, .inl (upd (Q 3) nb y3))), (ou, .inl (cL, 1, .inr (.inl (vp_updL lo 0 (nI nb).toInt64))))]) (ws' := (gWld gx qu qf bd bd0 bd1 bd2 bd3 cr cr0 cr1 cr2 cr3 wh wh0 wh1 wh2 wh3 wh4 wh5 qt qft bdt bdt0 bdt1 bdt2 bdt3 crt crt0 crt1 crt2 crt3 wht wht0 wht1 wht2 wht3 wht4 wht5 rf rf0 rf1 ou mo m4 m5 m6 m7 m8 m9 cI cZ cL co (nI day) (Q 0) (nI (nb + 1)) (upd (Q 1) nb y1) (upd (Q 2) nb y2) (upd (Q 3) nb y3) (Q 4) (nI nq) (Q 5) (Q 6) (Q 7) (Q 8) (nI nw) (Q 9) (Q 10) (Q 11) (Q 12) (Q 13) (Q 14) (nI dayt) (T 0) (nI nbt) (T 1) (T 2) (T 3) (T 4) (nI nqt) (T 5) (T 6) (T 7) (T 8) (nI nwt) (T 9) (T 10) (T 11) (T 12) (T 13) (T 14) (nI nr) ca bo (vp_updL lo 0 (nI nb).toInt64) th (nI nb) (nI nq) (nI nr) (Q 0) (enR Q) (enP Q) (enS Q) (enB ca we) (enN day co nw))) hP hD [0, 1, 3, 4, 5, 6, 42] rfl rfl hk1 hB [some 0, some 1, none, some 2, some 3, some 4, some 5, none, none, none, none, none, none, none, none, none, none, none, none, none, none, none, none, none, none, none, none, none, none, none, none, none, none, none, none, none, none, none, none, none, none, none, some 6, none, none, none, none, none, none, none] (by decide +kernel) rfl
  generalize H1 = H at hP hS ⊢
  refine W.widen (k := cz + 0) (n := sz + 0) (by omega) (by omega) ?_
  subst hw
  refine lv_istore (lv' := [(5, .int 0), (0, .ref scr), (1, .ref gx), (2, .ref mo), (3, .ref ou), (4, .int (nI i))]) hx hb dL_law_219 hl (by decide) rfl (fun ls hl => ?_)
  refine lv_aload_n hx hb dL_law_221 rfl (lv_at hl 3 rfl) ?_
  refine lv_aload_n hx hb dL_law_222 rfl (lv_at hl 1 rfl) ?_
  refine lv_iload hx hb dL_law_223 (lv_at hl 5 rfl) ?_
  refine lv_iconst (v := 1) hx hb dL_law_225 (by decide) ?_
  refine lv_iadd hx hb dL_law_226 ?_
  refine gw_top (y := nI (i + 1)) (nI_add i 1) ?_
  refine gw_sld hx hb hXv hbl hbA hS (k := i + 1) (by omega) (by omega) dL_law_227 ?_
  refine gw_top (y := y1) hp1 ?_
  refine lv_aload_n hx hb dL_law_228 rfl (lv_at hl 1 rfl) ?_
  refine lv_iload hx hb dL_law_229 (lv_at hl 5 rfl) ?_
  refine lv_iconst (v := 2) hx hb dL_law_231 (by decide) ?_
  refine lv_iadd hx hb dL_law_232 ?_
  refine gw_top (y := nI (i + 2)) (nI_add i 2) ?_
  refine gw_sld hx hb hXv hbl hbA hS (k := i + 2) (by omega) (by omega) dL_law_233 ?_
  refine gw_top (y := y2) hp2 ?_
  refine lv_aload_n hx hb dL_law_234 rfl (lv_at hl 1 rfl) ?_
  refine lv_iload hx hb dL_law_235 (lv_at hl 5 rfl) ?_
  refine lv_iconst (v := 3) hx hb dL_law_237 (by decide) ?_
  refine lv_iadd hx hb dL_law_238 ?_
  refine gw_top (y := nI (i + 3)) (nI_add i 3) ?_
  refine gw_sld hx hb hXv hbl hbA hS (k := i + 3) (by omega) (by omega) dL_law_239 ?_
  refine gw_top (y := y3) hp3 ?_
  have hFc := gw_free (wc := [(mo, .inr (6, [.int th, .int (nI nb), .int (nI nq), .int (nI nr), .ref m4, .ref m5, .ref m6, .ref m7, .ref m8, .ref m9])), (m5, .inl (cI, 20, .inl (enR Q)))]) hD [43, 45] rfl
  refine va_calli (va_runV (As := [.int y1, .int y2, .int y3]) (rest := []) ⟨hx, hb, hml, hown, hts⟩ (met_X6_open_ok l D cI cZ cL mo m4 m5 m6 m7 m8 m9 th nb nq nr Q y1 y2 y3 (by first | assumption | omega) (by first | assumption | omega) (by first | assumption | omega) (by first | assumption | omega)) (cwV 3 hts gL_law_X6_open rfl rfl rfl (by decide +kernel) ⟨Nat.le_of_ble_eq_true rfl, Nat.le_of_ble_eq_true rfl⟩) (gw_pvw hK hP hD (wc := [(mo, .inr (6, [.int th, .int (nI nb), .int (nI nq), .int (nI nr), .ref m4, .ref m5, .ref m6, .ref m7, .ref m8, .ref m9])), (m5, .inl (cI, 20, .inl (enR Q)))]) [43, 45] (by decide +kernel) rfl rfl 6 rfl rfl rfl) rfl rfl hl.1 rfl (lv_room (Nat.le_of_ble_eq_true rfl)) dL_law_240 ⟨(by show _ ≤ 601024; omega), (by show _ ≤ 7293034; omega)⟩) hS (fun q _ h => hFc q h) hFc (fun r_3 _ t H1 locs ht hvm hw hB hz1 hk1 hS => ?_)
  rw [ht] at hB
  obtain ⟨hP, hD⟩ := gw_upd (wc := [(mo, .inr (6, [.int th, .int (nI nb), .int (nI nq), .int (nI nr), .ref m4, .ref m5, .ref m6, .ref m7, .ref m8, .ref m9])), (m5, .inl (cI, 20, .inl (enR Q)))]) (w1 := [(mo, .inr (6, [.int 0, .int (nI (nb + 1)), .int (nI nq), .int (nI nr), .ref m4, .ref m5, .ref m6, .ref m7, .ref m8, .ref m9])), (m5, .inl (cI, 20, .inl (enR (gOpen Q nb y1 y2 y3))))]) (ws' := (gWld gx qu qf bd bd0 bd1 bd2 bd3 cr cr0 cr1 cr2 cr3 wh wh0 wh1 wh2 wh3 wh4 wh5 qt qft bdt bdt0 bdt1 bdt2 bdt3 crt crt0 crt1 crt2 crt3 wht wht0 wht1 wht2 wht3 wht4 wht5 rf rf0 rf1 ou mo m4 m5 m6 m7 m8 m9 cI cZ cL co (nI day) (Q 0) (nI (nb + 1)) (upd (Q 1) nb y1) (upd (Q 2) nb y2) (upd (Q 3) nb y3) (Q 4) (nI nq) (Q 5) (Q 6) (Q 7) (Q 8) (nI nw) (Q 9) (Q 10) (Q 11) (Q 12) (Q 13) (Q 14) (nI dayt) (T 0) (nI nbt) (T 1) (T 2) (T 3) (T 4) (nI nqt) (T 5) (T 6) (T 7) (T 8) (nI nwt) (T 9) (T 10) (T 11) (T 12) (T 13) (T 14) (nI nr) ca bo (vp_updL lo 0 (nI nb).toInt64) 0 (nI (nb + 1)) (nI nq) (nI nr) (Q 0) (enR (gOpen Q nb y1 y2 y3)) (enP Q) (enS Q) (enB ca we) (enN day co nw))) hP hD [43, 45] rfl rfl hk1 hB rfl
  generalize H1 = H at hP hS ⊢
  subst hw
  refine lv_istore (lv' := [(6, .int (nI nb)), (5, .int 0), (0, .ref scr), (1, .ref gx), (2, .ref mo), (3, .ref ou), (4, .int (nI i))]) hx hb dL_law_243 hl (by decide) rfl (fun ls hl => ?_)
  refine lv_aload_n hx hb dL_law_245 rfl (lv_at hl 4 rfl) ?_
  refine va_calli (va_runV (As := []) (rest := []) ⟨hx, hb, hml, hown, hts⟩ (met_X6_thrown l D cI cZ cL mo m4 m5 m6 m7 m8 m9 0 (nb + 1) nq nr) (cwV 0 hts gL_law_X6_thrown rfl rfl rfl (by decide +kernel) ⟨Nat.le_of_ble_eq_true rfl, Nat.le_of_ble_eq_true rfl⟩) (gw_pvr hK hP (wc := [(mo, .inr (6, [.int 0, .int (nI (nb + 1)), .int (nI nq), .int (nI nr), .ref m4, .ref m5, .ref m6, .ref m7, .ref m8, .ref m9]))]) [43] rfl 6 rfl rfl rfl) rfl rfl hl.1 rfl (lv_room (Nat.le_of_ble_eq_true rfl)) dL_law_246 ⟨(by show _ ≤ 601024; omega), (by show _ ≤ 7293034; omega)⟩) hS (fun _ _ z => z.elim) (fun _ z => z.elim) (fun r_5 _ t H1 locs ht hvm hw hB hz1 hk1 hS => ?_)
  have hP := gw_ro hP hk1
  generalize H1 = H at hP hS ⊢
  subst hw
  refine lv_iload hx hb dL_law_249 (lv_at hl 1 rfl) ?_
  refine lv_icmp_eq (tgt := 256) hx hb dL_law_251 (by decide) (fun _ => ?_) (fun c_6 => False.elim (by revert c_6; decide))
  refine lv_iload hx hb dL_law_256 (lv_at hl 1 rfl) ?_
  refine lv_if_ne (tgt := 273) hx hb dL_law_258 (by decide) (fun c_7 => False.elim (by revert c_7; decide)) (fun _ => ?_)
  refine lv_aload_n hx hb dL_law_261 rfl (lv_at hl 5 rfl) ?_
  refine lv_iconst (v := 0) hx hb dL_law_262 (by decide) ?_
  refine gw_out hx hb hK hP 42 2 (x := (nI nb).toInt64) rfl rfl (by decide) (by decide) dL_law_263 ?_
  refine lv_iload hx hb dL_law_264 (lv_at hl 0 rfl) ?_
  refine lv_i2l (v := (nI nb).toInt64) hx hb dL_law_266 rfl ?_
  refine gw_lcmp hx hb (x := (nI nb).toInt64) dL_law_267 ?_
  refine lv_if_eq (tgt := 273) hx hb dL_law_268 (by decide) (fun _ => ?_) (fun c_8 => False.elim (by revert c_8; decide))
  refine lv_goto (tgt := 1267) hx hb dL_law_273 (by decide) ?_
  refine W.widen (k := cz + 12) (n := sz + 400) (by omega) (by omega) ?_
  exact K  _ _ _ hP hD hS (lv_sub hl [2, 3, 4, 5, 6] rfl)
