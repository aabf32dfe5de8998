set_option maxHeartbeats 4000000 in
set_option maxRecDepth 100000 in
theorem law_raft_f1 {p : Program} {l : Launch} {e : Env} {s : State} {m : MethodId} {args : Array Value} {below : List Frame} {meth : Method} {c : Code} {Qe : State → Prop} {scr L : Nat} {xs : Nat → Int32} {D : va_G} {cI cZ cL cO : ClassId} {A : Nat → Prop} {H : Heap} {locs : List Loc} {ls : Array Slot} {cz sz : Nat} (hfl : l.stackTraces = false) (C0 : gLC p s m c args scr L xs D cI cZ cL cO A) {gx qu qf bd bd0 bd1 bd2 bd3 cr cr0 cr1 cr2 cr3 wh wh0 wh1 wh2 wh3 wh4 wh5 qt qft bdt bdt0 bdt1 bdt2 bdt3 crt crt0 crt1 crt2 crt3 wht wht0 wht1 wht2 wht3 wht4 wht5 rf rf0 rf1 ou mo m4 m5 m6 m7 m8 m9 : Nat} {co : Int32} {Q : Nat → Nat → Int32} {nb : Nat} {nq : Nat} {nw : Nat} {day : Nat} {T : Nat → Nat → Int32} {nbt : Nat} {nqt : Nat} {nwt : Nat} {dayt : Nat} {nr : Nat} {ca : Nat → Int32} {bo : Nat → Int32} {lo : Nat → Int64} {th : Int32} {we : Nat → Int32} {i : Nat} {x : Int32} {y : Int32} (hP : va_P D vwCl (gWld gx qu qf bd bd0 bd1 bd2 bd3 cr cr0 cr1 cr2 cr3 wh wh0 wh1 wh2 wh3 wh4 wh5 qt qft bdt bdt0 bdt1 bdt2 bdt3 crt crt0 crt1 crt2 crt3 wht wht0 wht1 wht2 wht3 wht4 wht5 rf rf0 rf1 ou mo m4 m5 m6 m7 m8 m9 cI cZ cL co (nI day) (Q 0) (nI nb) (Q 1) (Q 2) (Q 3) (Q 4) (nI nq) (Q 5) (Q 6) (Q 7) (Q 8) (nI nw) (Q 9) (Q 10) (Q 11) (Q 12) (Q 13) (Q 14) (nI dayt) (T 0) (nI nbt) (T 1) (T 2) (T 3) (T 4) (nI nqt) (T 5) (T 6) (T 7) (T 8) (nI nwt) (T 9) (T 10) (T 11) (T 12) (T 13) (T 14) (nI nr) ca bo lo th (nI nb) (nI nq) (nI nr) (Q 0) (enR Q) (enP Q) (enS Q) (enB ca we) (enN day co nw)) H) (hD : va_D A (gWld gx qu qf bd bd0 bd1 bd2 bd3 cr cr0 cr1 cr2 cr3 wh wh0 wh1 wh2 wh3 wh4 wh5 qt qft bdt bdt0 bdt1 bdt2 bdt3 crt crt0 crt1 crt2 crt3 wht wht0 wht1 wht2 wht3 wht4 wht5 rf rf0 rf1 ou mo m4 m5 m6 m7 m8 m9 cI cZ cL co (nI day) (Q 0) (nI nb) (Q 1) (Q 2) (Q 3) (Q 4) (nI nq) (Q 5) (Q 6) (Q 7) (Q 8) (nI nw) (Q 9) (Q 10) (Q 11) (Q 12) (Q 13) (Q 14) (nI dayt) (T 0) (nI nbt) (T 1) (T 2) (T 3) (T 4) (nI nqt) (T 5) (T 6) (T 7) (T 8) (nI nwt) (T 9) (T 10) (T 11) (T 12) (T 13) (T 14) (nI nr) ca bo lo th (nI nb) (nI nq) (nI nr) (Q 0) (enR Q) (enP Q) (enS Q) (enB ca we) (enN day co nw))) (hS : va_S A s.heap H locs) (hl : lv_has ls 9 [(0, .ref scr), (1, .ref gx), (2, .ref mo), (3, .ref ou), (4, .int (nI i))]) (hi : i + 4 ≤ L) (hcz : cz + 12 ≤ 601024) (hsz : sz + 400 ≤ 7293034) (hp1 : xs (i + 1) = x) (hp2 : xs (i + 2) = y) (hnr : nr ≤ 3) (hxy : ¬ ((∃ kk, kk < nr ∧ x = nI kk) ∧ ((0 : Int32) ≤ y ∧ y ≤ 3))) (K : ∀ (H1 : Heap) (locs1 : List Loc) (ls1 : Array Slot), va_P D vwCl (gWld gx qu qf bd bd0 bd1 bd2 bd3 cr cr0 cr1 cr2 cr3 wh wh0 wh1 wh2 wh3 wh4 wh5 qt qft bdt bdt0 bdt1 bdt2 bdt3 crt crt0 crt1 crt2 crt3 wht wht0 wht1 wht2 wht3 wht4 wht5 rf rf0 rf1 ou mo m4 m5 m6 m7 m8 m9 cI cZ cL co (nI day) (Q 0) (nI nb) (Q 1) (Q 2) (Q 3) (Q 4) (nI nq) (Q 5) (Q 6) (Q 7) (Q 8) (nI nw) (Q 9) (Q 10) (Q 11) (Q 12) (Q 13) (Q 14) (nI dayt) (T 0) (nI nbt) (T 1) (T 2) (T 3) (T 4) (nI nqt) (T 5) (T 6) (T 7) (T 8) (nI nwt) (T 9) (T 10) (T 11) (T 12) (T 13) (T 14) (nI nr) ca bo lo 1 (nI nb) (nI nq) (nI nr) (Q 0) (enR Q) (enP Q) (enS Q) (enB ca we) (enN day co nw)) H1 → va_D A (gWld gx qu qf bd bd0 bd1 bd2 bd3 cr cr0 cr1 cr2 cr3 wh wh0 wh1 wh2 wh3 wh4 wh5 qt qft bdt bdt0 bdt1 bdt2 bdt3 crt crt0 crt1 crt2 crt3 wht wht0 wht1 wht2 wht3 wht4 wht5 rf rf0 rf1 ou mo m4 m5 m6 m7 m8 m9 cI cZ cL co (nI day) (Q 0) (nI nb) (Q 1) (Q 2) (Q 3) (Q 4) (nI nq) (Q 5) (Q 6) (Q 7) (Q 8) (nI nw) (Q 9) (Q 10) (Q 11) (Q 12) (Q 13) (Q 14) (nI dayt) (T 0) (nI nbt) (T 1) (T 2) (T 3) (T 4) (nI nqt) (T 5) (T 6) (T 7) (T 8) (nI nwt) (T 9) (T 10) (T 11) (T 12) (T 13) (T 14) (nI nr) ca bo lo 1 (nI nb) (nI nq) (nI nr) (Q 0) (enR Q) (enP Q) (enS Q) (enB ca we) (enN day co nw)) → va_S A s.heap H1 locs1 → lv_has ls1 9 [(0, .ref scr), (1, .ref gx), (2, .ref mo), (3, .ref ou), (4, .int (nI i))] → W p l e room_1 s m args below meth c H1 locs1 (cz + 12) (sz + 400) Qe (F0 m 1267 ls1 [])) : W p l e room_1 s m args below meth c H locs cz sz Qe (F0 m 896 ls []) := by
  obtain ⟨hx, hb, hml, hown, hts, htb, hK4, hR, hXv, hbl, hbA, hXA, hC, hA, hL2⟩ := C0
  have hK : va_K D vwCl (gT cI cZ cL) s := hK4.sub [0, 1, 2] rfl
  refine lv_aload_n hx hb dL_law_896 rfl (lv_at hl 1 rfl) ?_
  refine lv_aload_n hx hb dL_law_897 rfl (lv_at hl 0 rfl) ?_
  refine lv_iload hx hb dL_law_898 (lv_at hl 4 rfl) ?_
  refine lv_iconst (v := 1) hx hb dL_law_900 (by decide) ?_
  refine lv_iadd hx hb dL_law_901 ?_
  refine gw_top (y := nI (i + 1)) (nI_add i 1) ?_
  refine gw_sld hx hb hXv hbl hbA hS (k := i + 1) (by omega) (by omega) dL_law_902 ?_
  refine gw_top (y := x) hp1 ?_
  refine lv_aload_n hx hb dL_law_903 rfl (lv_at hl 0 rfl) ?_
  refine lv_iload hx hb dL_law_904 (lv_at hl 4 rfl) ?_
  refine lv_iconst (v := 2) hx hb dL_law_906 (by decide) ?_
  refine lv_iadd hx hb dL_law_907 ?_
  refine gw_top (y := nI (i + 2)) (nI_add i 2) ?_
  refine gw_sld hx hb hXv hbl hbA hS (k := i + 2) (by omega) (by omega) dL_law_908 ?_
  refine gw_top (y := y) hp2 ?_
  refine lv_aload_n hx hb dL_law_909 rfl (lv_at hl 3 rfl) ?_
  refine va_calli (vx_runSW (As := [.ref gx, .int x, .int y, .ref ou]) (rest := []) ⟨hx, hb, hml, hown, hts⟩ (met_L_raft_f1 l hfl D cI cZ cL gx qu qt rf rf0 rf1 co nr x y ou (by first | assumption | omega) (by first | assumption | omega)) (vx_cwSW 4 hts gL_law_L_raft rfl rfl rfl (by decide +kernel) ⟨Nat.le_of_ble_eq_true rfl, Nat.le_of_ble_eq_true rfl⟩) (gw_psy hK hP hXA hC hS (wc := [(gx, .inr (5, [.ref qu, .ref qt, .ref rf, .int co])), (rf, .inr (3, [.ref rf0, .ref rf1, .int (nI nr)]))]) [0, 39] rfl) rfl rfl hl.1 rfl (lv_room (Nat.le_of_ble_eq_true rfl)) dL_law_910 ⟨(by show _ ≤ 601024; omega), (by show _ ≤ 7293034; omega)⟩) hS (fun _ _ z => z.elim) (fun _ z => z.elim) (fun r_1 _ t H1 locs ht hvm hw hB hz1 hk1 hS => ?_)
  have hP := gw_ro hP hk1
  generalize H1 = H at hP hS ⊢
  refine W.widen (k := cz + 1) (n := sz + 6) (by omega) (by omega) ?_
  subst hw
  refine lv_istore (lv' := [(5, .int 1), (0, .ref scr), (1, .ref gx), (2, .ref mo), (3, .ref ou), (4, .int (nI i))]) hx hb dL_law_913 hl (by decide) rfl (fun ls hl => ?_)
  refine lv_aload_n hx hb dL_law_915 rfl (lv_at hl 3 rfl) ?_
  refine lv_aload_n hx hb dL_law_916 rfl (lv_at hl 1 rfl) ?_
  refine lv_iload hx hb dL_law_917 (lv_at hl 5 rfl) ?_
  refine lv_iconst (v := 1) hx hb dL_law_919 (by decide) ?_
  refine lv_iadd hx hb dL_law_920 ?_
  refine gw_top (y := nI (i + 1)) (nI_add i 1) ?_
  refine gw_sld hx hb hXv hbl hbA hS (k := i + 1) (by omega) (by omega) dL_law_921 ?_
  refine gw_top (y := x) hp1 ?_
  refine lv_aload_n hx hb dL_law_922 rfl (lv_at hl 1 rfl) ?_
  refine lv_iload hx hb dL_law_923 (lv_at hl 5 rfl) ?_
  refine lv_iconst (v := 2) hx hb dL_law_925 (by decide) ?_
  refine lv_iadd hx hb dL_law_926 ?_
  refine gw_top (y := nI (i + 2)) (nI_add i 2) ?_
  refine gw_sld hx hb hXv hbl hbA hS (k := i + 2) (by omega) (by omega) dL_law_927 ?_
  refine gw_top (y := y) hp2 ?_
  have hFc := gw_free (wc := [(mo, .inr (6, [.int th, .int (nI nb), .int (nI nq), .int (nI nr), .ref m4, .ref m5, .ref m6, .ref m7, .ref m8, .ref m9]))]) hD [43] rfl
  refine va_calli (va_runV (As := [.int x, .int y]) (rest := []) ⟨hx, hb, hml, hown, hts⟩ (met_X6_raft_f1 l D cI cZ cL mo m4 m5 m6 m7 m8 m9 th nb nq nr x y (by first | assumption | omega) (by first | assumption | omega)) (cwV 2 hts gL_law_X6_raft rfl rfl rfl (by decide +kernel) ⟨Nat.le_of_ble_eq_true rfl, Nat.le_of_ble_eq_true rfl⟩) (gw_pvw hK hP hD (wc := [(mo, .inr (6, [.int th, .int (nI nb), .int (nI nq), .int (nI nr), .ref m4, .ref m5, .ref m6, .ref m7, .ref m8, .ref m9]))]) [43] (by decide +kernel) rfl rfl 6 rfl rfl rfl) rfl rfl hl.1 rfl (lv_room (Nat.le_of_ble_eq_true rfl)) dL_law_928 ⟨(by show _ ≤ 601024; omega), (by show _ ≤ 7293034; omega)⟩) hS (fun q _ h => hFc q h) hFc (fun r_3 _ t H1 locs ht hvm hw hB hz1 hk1 hS => ?_)
  rw [ht] at hB
  obtain ⟨hP, hD⟩ := gw_upd (wc := [(mo, .inr (6, [.int th, .int (nI nb), .int (nI nq), .int (nI nr), .ref m4, .ref m5, .ref m6, .ref m7, .ref m8, .ref m9]))]) (w1 := [(mo, .inr (6, [.int 1, .int (nI nb), .int (nI nq), .int (nI nr), .ref m4, .ref m5, .ref m6, .ref m7, .ref m8, .ref m9]))]) (ws' := (gWld gx qu qf bd bd0 bd1 bd2 bd3 cr cr0 cr1 cr2 cr3 wh wh0 wh1 wh2 wh3 wh4 wh5 qt qft bdt bdt0 bdt1 bdt2 bdt3 crt crt0 crt1 crt2 crt3 wht wht0 wht1 wht2 wht3 wht4 wht5 rf rf0 rf1 ou mo m4 m5 m6 m7 m8 m9 cI cZ cL co (nI day) (Q 0) (nI nb) (Q 1) (Q 2) (Q 3) (Q 4) (nI nq) (Q 5) (Q 6) (Q 7) (Q 8) (nI nw) (Q 9) (Q 10) (Q 11) (Q 12) (Q 13) (Q 14) (nI dayt) (T 0) (nI nbt) (T 1) (T 2) (T 3) (T 4) (nI nqt) (T 5) (T 6) (T 7) (T 8) (nI nwt) (T 9) (T 10) (T 11) (T 12) (T 13) (T 14) (nI nr) ca bo lo 1 (nI nb) (nI nq) (nI nr) (Q 0) (enR Q) (enP Q) (enS Q) (enB ca we) (enN day co nw))) hP hD [43] rfl rfl hk1 hB rfl
  generalize H1 = H at hP hS ⊢
  subst hw
  refine lv_istore (lv' := [(6, .int 0), (5, .int 1), (0, .ref scr), (1, .ref gx), (2, .ref mo), (3, .ref ou), (4, .int (nI i))]) hx hb dL_law_931 hl (by decide) rfl (fun ls hl => ?_)
  refine lv_aload_n hx hb dL_law_933 rfl (lv_at hl 4 rfl) ?_
  refine va_calli (va_runV (As := []) (rest := []) ⟨hx, hb, hml, hown, hts⟩ (met_X6_thrown l D cI cZ cL mo m4 m5 m6 m7 m8 m9 1 nb nq nr) (cwV 0 hts gL_law_X6_thrown rfl rfl rfl (by decide +kernel) ⟨Nat.le_of_ble_eq_true rfl, Nat.le_of_ble_eq_true rfl⟩) (gw_pvr hK hP (wc := [(mo, .inr (6, [.int 1, .int (nI nb), .int (nI nq), .int (nI nr), .ref m4, .ref m5, .ref m6, .ref m7, .ref m8, .ref m9]))]) [43] rfl 6 rfl rfl rfl) rfl rfl hl.1 rfl (lv_room (Nat.le_of_ble_eq_true rfl)) dL_law_934 ⟨(by show _ ≤ 601024; omega), (by show _ ≤ 7293034; omega)⟩) hS (fun _ _ z => z.elim) (fun _ z => z.elim) (fun r_5 _ t H1 locs ht hvm hw hB hz1 hk1 hS => ?_)
  have hP := gw_ro hP hk1
  generalize H1 = H at hP hS ⊢
  subst hw
  refine lv_iload hx hb dL_law_937 (lv_at hl 1 rfl) ?_
  refine lv_icmp_eq (tgt := 944) hx hb dL_law_939 (by decide) (fun _ => ?_) (fun c_6 => False.elim (by revert c_6; decide))
  refine lv_iload hx hb dL_law_944 (lv_at hl 1 rfl) ?_
  refine lv_if_ne (tgt := 961) hx hb dL_law_946 (by decide) (fun _ => ?_) (fun c_7 => False.elim (by revert c_7; decide))
  refine lv_goto (tgt := 1267) hx hb dL_law_961 (by decide) ?_
  refine W.widen (k := cz + 12) (n := sz + 400) (by omega) (by omega) ?_
  exact K  _ _ _ hP hD hS (lv_sub hl [2, 3, 4, 5, 6] rfl)

set_option maxHeartbeats 4000000 in
set_option maxRecDepth 100000 in
theorem law_raft_ok {p : Program} {l : Launch} {e : Env} {s : State} {m : MethodId} {args : Array Value} {below : List Frame} {meth : Method} {c : Code} {Qe : State → Prop} {scr L : Nat} {xs : Nat → Int32} {D : va_G} {cI cZ cL cO : ClassId} {A : Nat → Prop} {H : Heap} {locs : List Loc} {ls : Array Slot} {cz sz : Nat} (hfl : l.stackTraces = false) (C0 : gLC p s m c args scr L xs D cI cZ cL cO A) {gx qu qf bd bd0 bd1 bd2 bd3 cr cr0 cr1 cr2 cr3 wh wh0 wh1 wh2 wh3 wh4 wh5 qt qft bdt bdt0 bdt1 bdt2 bdt3 crt crt0 crt1 crt2 crt3 wht wht0 wht1 wht2 wht3 wht4 wht5 rf rf0 rf1 ou mo m4 m5 m6 m7 m8 m9 : Nat} {co : Int32} {Q : Nat → Nat → Int32} {nb : Nat} {nq : Nat} {nw : Nat} {day : Nat} {T : Nat → Nat → Int32} {nbt : Nat} {nqt : Nat} {nwt : Nat} {dayt : Nat} {nr : Nat} {ca : Nat → Int32} {bo : Nat → Int32} {lo : Nat → Int64} {th : Int32} {we : Nat → Int32} {i : Nat} {k : Nat} {v : Nat} (hP : va_P D vwCl (gWld gx qu qf bd bd0 bd1 bd2 bd3 cr cr0 cr1 cr2 cr3 wh wh0 wh1 wh2 wh3 wh4 wh5 qt qft bdt bdt0 bdt1 bdt2 bdt3 crt crt0 crt1 crt2 crt3 wht wht0 wht1 wht2 wht3 wht4 wht5 rf rf0 rf1 ou mo m4 m5 m6 m7 m8 m9 cI cZ cL co (nI day) (Q 0) (nI nb) (Q 1) (Q 2) (Q 3) (Q 4) (nI nq) (Q 5) (Q 6) (Q 7) (Q 8) (nI nw) (Q 9) (Q 10) (Q 11) (Q 12) (Q 13) (Q 14) (nI dayt) (T 0) (nI nbt) (T 1) (T 2) (T 3) (T 4) (nI nqt) (T 5) (T 6) (T 7) (T 8) (nI nwt) (T 9) (T 10) (T 11) (T 12) (T 13) (T 14) (nI nr) ca bo lo th (nI nb) (nI nq) (nI nr) (Q 0) (enR Q) (enP Q) (enS Q) (enB ca we) (enN day co nw)) H) (hD : va_D A (gWld gx qu qf bd bd0 bd1 bd2 bd3 cr cr0 cr1 cr2 cr3 wh wh0 wh1 wh2 wh3 wh4 wh5 qt qft bdt bdt0 bdt1 bdt2 bdt3 crt crt0 crt1 crt2 crt3 wht wht0 wht1 wht2 wht3 wht4 wht5 rf rf0 rf1 ou mo m4 m5 m6 m7 m8 m9 cI cZ cL co (nI day) (Q 0) (nI nb) (Q 1) (Q 2) (Q 3) (Q 4) (nI nq) (Q 5) (Q 6) (Q 7) (Q 8) (nI nw) (Q 9) (Q 10) (Q 11) (Q 12) (Q 13) (Q 14) (nI dayt) (T 0) (nI nbt) (T 1) (T 2) (T 3) (T 4) (nI nqt) (T 5) (T 6) (T 7) (T 8) (nI nwt) (T 9) (T 10) (T 11) (T 12) (T 13) (T 14) (nI nr) ca bo lo th (nI nb) (nI nq) (nI nr) (Q 0) (enR Q) (enP Q) (enS Q) (enB ca we) (enN day co nw))) (hS : va_S A s.heap H locs) (hl : lv_has ls 9 [(0, .ref scr), (1, .ref gx), (2, .ref mo), (3, .ref ou), (4, .int (nI i))]) (hi : i + 4 ≤ L) (hcz : cz + 12 ≤ 601024) (hsz : sz + 400 ≤ 7293034) (hp1 : xs (i + 1) = nI k) (hp2 : xs (i + 2) = nI v) (hk : k < nr) (hnr : nr ≤ 3) (hv4 : v < 4) (hnw : nw ≤ 60) (hcar : ∀ w, w < nw → Q 14 w = -1 ∨ Q 13 w = 2) (hrw : we k = -1 ↔ ¬ nI day < bo k) (K : ∀ (H1 : Heap) (locs1 : List Loc) (ls1 : Array Slot), va_P D vwCl (gWld gx qu qf bd bd0 bd1 bd2 bd3 cr cr0 cr1 cr2 cr3 wh wh0 wh1 wh2 wh3 wh4 wh5 qt qft bdt bdt0 bdt1 bdt2 bdt3 crt crt0 crt1 crt2 crt3 wht wht0 wht1 wht2 wht3 wht4 wht5 rf rf0 rf1 ou mo m4 m5 m6 m7 m8 m9 cI cZ cL co (nI day) (Q 0) (nI nb) (Q 1) (Q 2) (Q 3) (Q 4) (nI nq) (Q 5) (Q 6) (Q 7) (Q 8) (nI nw) (Q 9) (Q 10) (Q 11) (Q 12) (Q 13) (Q 14) (nI dayt) (T 0) (nI nbt) (T 1) (T 2) (T 3) (T 4) (nI nqt) (T 5) (T 6) (T 7) (T 8) (nI nwt) (T 9) (T 10) (T 11) (T 12) (T 13) (T 14) (nI nr) ca bo (vp_updL lo 0 (gRaft Q nw day ca bo v k).toInt64) 0 (nI nb) (nI nq) (nI nr) (Q 0) (enR Q) (enP Q) (enS Q) (enB ca we) (enN day co nw)) H1 → va_D A (gWld gx qu qf bd bd0 bd1 bd2 bd3 cr cr0 cr1 cr2 cr3 wh wh0 wh1 wh2 wh3 wh4 wh5 qt qft bdt bdt0 bdt1 bdt2 bdt3 crt crt0 crt1 crt2 crt3 wht wht0 wht1 wht2 wht3 wht4 wht5 rf rf0 rf1 ou mo m4 m5 m6 m7 m8 m9 cI cZ cL co (nI day) (Q 0) (nI nb) (Q 1) (Q 2) (Q 3) (Q 4) (nI nq) (Q 5) (Q 6) (Q 7) (Q 8) (nI nw) (Q 9) (Q 10) (Q 11) (Q 12) (Q 13) (Q 14) (nI dayt) (T 0) (nI nbt) (T 1) (T 2) (T 3) (T 4) (nI nqt) (T 5) (T 6) (T 7) (T 8) (nI nwt) (T 9) (T 10) (T 11) (T 12) (T 13) (T 14) (nI nr) ca bo (vp_updL lo 0 (gRaft Q nw day ca bo v k).toInt64) 0 (nI nb) (nI nq) (nI nr) (Q 0) (enR Q) (enP Q) (enS Q) (enB ca we) (enN day co nw)) → va_S A s.heap H1 locs1 → lv_has ls1 9 [(0, .ref scr), (1, .ref gx), (2, .ref mo), (3, .ref ou), (4, .int (nI i))] → W p l e room_1 s m args below meth c H1 locs1 (cz + 12) (sz + 400) Qe (F0 m 1267 ls1 [])) : W p l e room_1 s m args below meth c H locs cz sz Qe (F0 m 896 ls []) := by
  obtain ⟨hx, hb, hml, hown, hts, htb, hK4, hR, hXv, hbl, hbA, hXA, hC, hA, hL2⟩ := C0
  have hK : va_K D vwCl (gT cI cZ cL) s := hK4.sub [0, 1, 2] rfl
  refine lv_aload_n hx hb dL_law_896 rfl (lv_at hl 1 rfl) ?_
  refine lv_aload_n hx hb dL_law_897 rfl (lv_at hl 0 rfl) ?_
  refine lv_iload hx hb dL_law_898 (lv_at hl 4 rfl) ?_
  refine lv_iconst (v := 1) hx hb dL_law_900 (by decide) ?_
  refine lv_iadd hx hb dL_law_901 ?_
  refine gw_top (y := nI (i + 1)) (nI_add i 1) ?_
  refine gw_sld hx hb hXv hbl hbA hS (k := i + 1) (by omega) (by omega) dL_law_902 ?_
  refine gw_top (y := nI k) hp1 ?_
  refine lv_aload_n hx hb dL_law_903 rfl (lv_at hl 0 rfl) ?_
  refine lv_iload hx hb dL_law_904 (lv_at hl 4 rfl) ?_
  refine lv_iconst (v := 2) hx hb dL_law_906 (by decide) ?_
  refine lv_iadd hx hb dL_law_907 ?_
  refine gw_top (y := nI (i + 2)) (nI_add i 2) ?_
  refine gw_sld hx hb hXv hbl hbA hS (k := i + 2) (by omega) (by omega) dL_law_908 ?_
  refine gw_top (y := nI v) hp2 ?_
  refine lv_aload_n hx hb dL_law_909 rfl (lv_at hl 3 rfl) ?_
  have hFc := gw_free (wc := [(gx, .inr (5, [.ref qu, .ref qt, .ref rf, .int co])), (qu, .inr (2, [.ref qf, .ref bd, .ref cr, .ref wh, .int (nI day)])), (wh, .inr (4, [.ref wh0, .ref wh1, .ref wh2, .ref wh3, .ref wh4, .ref wh5, .int (nI nw)])), (wh2, .inl (cI, 60, .inl (Q 11))), (wh5, .inl (cI, 60, .inl (Q 14))), (rf, .inr (3, [.ref rf0, .ref rf1, .int (nI nr)])), (rf0, .inl (cI, 3, .inl ca)), (rf1, .inl (cI, 3, .inl bo)), (ou, .inl (cL, 1, .inr (.inl lo)))]) hD [0, 1, 13, 16, 19, 39, 40, 41, 42] rfl
  refine va_calli (vx_runSW (As := [.ref gx, .int (nI k), .int (nI v), .ref ou]) (rest := []) ⟨hx, hb, hml, hown, hts⟩ (met_L_raft_ok l D cI cZ cL gx qu qt rf qf bd cr wh wh0 wh1 wh2 wh3 wh4 wh5 rf0 rf1 co Q nw day nr ca bo k v ou lo (by first | assumption | omega) (by first | assumption | omega) (by first | assumption | omega) (by first | assumption | omega)) (vx_cwSW 4 hts gL_law_L_raft rfl rfl rfl (by decide +kernel) ⟨Nat.le_of_ble_eq_true rfl, Nat.le_of_ble_eq_true rfl⟩) (gw_psw hK hP hD (wc := [(gx, .inr (5, [.ref qu, .ref qt, .ref rf, .int co])), (qu, .inr (2, [.ref qf, .ref bd, .ref cr, .ref wh, .int (nI day)])), (wh, .inr (4, [.ref wh0, .ref wh1, .ref wh2, .ref wh3, .ref wh4, .ref wh5, .int (nI nw)])), (wh2, .inl (cI, 60, .inl (Q 11))), (wh5, .inl (cI, 60, .inl (Q 14))), (rf, .inr (3, [.ref rf0, .ref rf1, .int (nI nr)])), (rf0, .inl (cI, 3, .inl ca)), (rf1, .inl (cI, 3, .inl bo)), (ou, .inl (cL, 1, .inr (.inl lo)))]) [0, 1, 13, 16, 19, 39, 40, 41, 42] (by decide +kernel) rfl rfl) rfl rfl hl.1 rfl (lv_room (Nat.le_of_ble_eq_true rfl)) dL_law_910 ⟨(by show _ ≤ 601024; omega), (by show _ ≤ 7293034; omega)⟩) hS (fun q _ h => hFc q h) hFc (fun r_1 _ t H1 locs ht hvm hw hB hz1 hk1 hS => ?_)
  rw [ht] at hB
  obtain ⟨hP, hD⟩ := gw_upd2 (wc := [(gx, .inr (5, [.ref qu, .ref qt, .ref rf, .int co])), (qu, .inr (2, [.ref qf, .ref bd, .ref cr, .ref wh, .int (nI day)])), (wh, .inr (4, [.ref wh0, .ref wh1, .ref wh2, .ref wh3, .ref wh4, .ref wh5, .int (nI nw)])), (wh2, .inl (cI, 60, .inl (Q 11))), (wh5, .inl (cI, 60, .inl (Q 14))), (rf, .inr (3, [.ref rf0, .ref rf1, .int (nI nr)])), (rf0, .inl (cI, 3, .inl ca)), (rf1, .inl (cI, 3, .inl bo)), (ou, .inl (cL, 1, .inr (.inl lo)))]) (w1 := [(gx, .inr (5, [.ref qu, .ref qt, .ref rf, .int co])), (qu, .inr (2, [.ref qf, .ref bd, .ref cr, .ref wh, .int (nI day)])), (wh, .inr (4, [.ref wh0, .ref wh1, .ref wh2, .ref wh3, .ref wh4, .ref wh5, .int (nI nw)])), (wh2, .inl (cI, 60, .inl (Q 11))), (wh5, .inl (cI, 60, .inl (Q 14))), (rf, .inr (3, [.ref rf0, .ref rf1, .int (nI nr)])), (rf0, .inl (cI, 3, .inl ca)), (rf1, .inl (cI, 3, .inl bo)), (ou, .inl (cL, 1, .inr (.inl (vp_updL lo 0 (gRaft Q nw day ca bo v k).toInt64))))]) (ws' := (gWld gx qu qf bd bd0 bd1 bd2 bd3 cr cr0 cr1 cr2 cr3 wh wh0 wh1 wh2 wh3 wh4 wh5 qt qft bdt bdt0 bdt1 bdt2 bdt3 crt crt0 crt1 crt2 crt3 wht wht0 wht1 wht2 wht3 wht4 wht5 rf rf0 rf1 ou mo m4 m5 m6 m7 m8 m9 cI cZ cL co (nI day) (Q 0) (nI nb) (Q 1) (Q 2) (Q 3) (Q 4) (nI nq) (Q 5) (Q 6) (Q 7) (Q 8) (nI nw) (Q 9) (Q 10) (Q 11) (Q 12) (Q 13) (Q 14) (nI dayt) (T 0) (nI nbt) (T 1) (T 2) (T 3) (T 4) (nI nqt) (T 5) (T 6) (T 7) (T 8) (nI nwt) (T 9) (T 10) (T 11) (T 12) (T 13) (T 14) (nI nr) ca bo (vp_updL lo 0 (gRaft Q nw day ca bo v k).toInt64) th (nI nb) (nI nq) (nI nr) (Q 0) (enR Q) (enP Q) (enS Q) (enB ca we) (enN day co nw))) hP hD [0, 1, 13, 16, 19, 39, 40, 41, 42] rfl rfl hk1 hB [some 0, some 1, none, none, none, none, none, none, none, none, none, none, none, some 2, none, none, some 3, none, none, some 4, none, none, none, none, none, none, none, none, none, none, none, none, none, none, none, none, none, none, none, some 5, some 6, some 7, some 8, none, none, none, none, none, none, none] (by decide +kernel) rfl
  generalize H1 = H at hP hS ⊢
  refine W.widen (k := cz + 0) (n := sz + 0) (by omega) (by omega) ?_
  subst hw
  refine lv_istore (lv' := [(5, .int 0), (0, .ref scr), (1, .ref gx), (2, .ref mo), (3, .ref ou), (4, .int (nI i))]) hx hb dL_law_913 hl (by decide) rfl (fun ls hl => ?_)
  refine lv_aload_n hx hb dL_law_915 rfl (lv_at hl 3 rfl) ?_
  refine lv_aload_n hx hb dL_law_916 rfl (lv_at hl 1 rfl) ?_
  refine lv_iload hx hb dL_law_917 (lv_at hl 5 rfl) ?_
  refine lv_iconst (v := 1) hx hb dL_law_919 (by decide) ?_
  refine lv_iadd hx hb dL_law_920 ?_
  refine gw_top (y := nI (i + 1)) (nI_add i 1) ?_
  refine gw_sld hx hb hXv hbl hbA hS (k := i + 1) (by omega) (by omega) dL_law_921 ?_
  refine gw_top (y := nI k) hp1 ?_
  refine lv_aload_n hx hb dL_law_922 rfl (lv_at hl 1 rfl) ?_
  refine lv_iload hx hb dL_law_923 (lv_at hl 5 rfl) ?_
  refine lv_iconst (v := 2) hx hb dL_law_925 (by decide) ?_
  refine lv_iadd hx hb dL_law_926 ?_
  refine gw_top (y := nI (i + 2)) (nI_add i 2) ?_
  refine gw_sld hx hb hXv hbl hbA hS (k := i + 2) (by omega) (by omega) dL_law_927 ?_
  refine gw_top (y := nI v) hp2 ?_
  have hFc := gw_free (wc := [(mo, .inr (6, [.int th, .int (nI nb), .int (nI nq), .int (nI nr), .ref m4, .ref m5, .ref m6, .ref m7, .ref m8, .ref m9])), (m7, .inl (cI, 300, .inl (enS Q))), (m8, .inl (cI, 6, .inl (enB ca we))), (m9, .inl (cI, 3, .inl (enN day co nw)))]) hD [43, 47, 48, 49] rfl
  refine va_calli (va_runV (As := [.int (nI k), .int (nI v)]) (rest := []) ⟨hx, hb, hml, hown, hts⟩ (met_X6_raft_ok l D cI cZ cL mo m4 m5 m6 m7 m8 m9 th nb nq nr Q day co nw ca we bo k v (by first | assumption | omega) (by first | assumption | omega) (by first | assumption | omega) (by first | assumption | omega) (by first | assumption | omega) (by first | assumption | omega)) (cwV 2 hts gL_law_X6_raft rfl rfl rfl (by decide +kernel) ⟨Nat.le_of_ble_eq_true rfl, Nat.le_of_ble_eq_true rfl⟩) (gw_pvw hK hP hD (wc := [(mo, .inr (6, [.int th, .int (nI nb), .int (nI nq), .int (nI nr), .ref m4, .ref m5, .ref m6, .ref m7, .ref m8, .ref m9])), (m7, .inl (cI, 300, .inl (enS Q))), (m8, .inl (cI, 6, .inl (enB ca we))), (m9, .inl (cI, 3, .inl (enN day co nw)))]) [43, 47, 48, 49] (by decide +kernel) rfl rfl 6 rfl rfl rfl) rfl rfl hl.1 rfl (lv_room (Nat.le_of_ble_eq_true rfl)) dL_law_928 ⟨(by show _ ≤ 601024; omega), (by show _ ≤ 7293034; omega)⟩) hS (fun q _ h => hFc q h) hFc (fun r_3 _ t H1 locs ht hvm hw hB hz1 hk1 hS => ?_)
  rw [ht] at hB
  obtain ⟨hP, hD⟩ := gw_upd (wc := [(mo, .inr (6, [.int th, .int (nI nb), .int (nI nq), .int (nI nr), .ref m4, .ref m5, .ref m6, .ref m7, .ref m8, .ref m9])), (m7, .inl (cI, 300, .inl (enS Q))), (m8, .inl (cI, 6, .inl (enB ca we))), (m9, .inl (cI, 3, .inl (enN day co nw)))]) (w1 := [(mo, .inr (6, [.int 0, .int (nI nb), .int (nI nq), .int (nI nr), .ref m4, .ref m5, .ref m6, .ref m7, .ref m8, .ref m9])), (m7, .inl (cI, 300, .inl (enS Q))), (m8, .inl (cI, 6, .inl (enB ca we))), (m9, .inl (cI, 3, .inl (enN day co nw)))]) (ws' := (gWld gx qu qf bd bd0 bd1 bd2 bd3 cr cr0 cr1 cr2 cr3 wh wh0 wh1 wh2 wh3 wh4 wh5 qt qft bdt bdt0 bdt1 bdt2 bdt3 crt crt0 crt1 crt2 crt3 wht wht0 wht1 wht2 wht3 wht4 wht5 rf rf0 rf1 ou mo m4 m5 m6 m7 m8 m9 cI cZ cL co (nI day) (Q 0) (nI nb) (Q 1) (Q 2) (Q 3) (Q 4) (nI nq) (Q 5) (Q 6) (Q 7) (Q 8) (nI nw) (Q 9) (Q 10) (Q 11) (Q 12) (Q 13) (Q 14) (nI dayt) (T 0) (nI nbt) (T 1) (T 2) (T 3) (T 4) (nI nqt) (T 5) (T 6) (T 7) (T 8) (nI nwt) (T 9) (T 10) (T 11) (T 12) (T 13) (T 14) (nI nr) ca bo (vp_updL lo 0 (gRaft Q nw day ca bo v k).toInt64) 0 (nI nb) (nI nq) (nI nr) (Q 0) (enR Q) (enP Q) (enS Q) (enB ca we) (enN day co nw))) hP hD [43, 47, 48, 49] rfl rfl hk1 hB rfl
  generalize H1 = H at hP hS ⊢
  subst hw
  refine lv_istore (lv' := [(6, .int (gRaft Q nw day ca bo v k)), (5, .int 0), (0, .ref scr), (1, .ref gx), (2, .ref mo), (3, .ref ou), (4, .int (nI i))]) hx hb dL_law_931 hl (by decide) rfl (fun ls hl => ?_)
  refine lv_aload_n hx hb dL_law_933 rfl (lv_at hl 4 rfl) ?_
  refine va_calli (va_runV (As := []) (rest := []) ⟨hx, hb, hml, hown, hts⟩ (met_X6_thrown l D cI cZ cL mo m4 m5 m6 m7 m8 m9 0 nb nq nr) (cwV 0 hts gL_law_X6_thrown rfl rfl rfl (by decide +kernel) ⟨Nat.le_of_ble_eq_true rfl, Nat.le_of_ble_eq_true rfl⟩) (gw_pvr hK hP (wc := [(mo, .inr (6, [.int 0, .int (nI nb), .int (nI nq), .int (nI nr), .ref m4, .ref m5, .ref m6, .ref m7, .ref m8, .ref m9]))]) [43] rfl 6 rfl rfl rfl) rfl rfl hl.1 rfl (lv_room (Nat.le_of_ble_eq_true rfl)) dL_law_934 ⟨(by show _ ≤ 601024; omega), (by show _ ≤ 7293034; omega)⟩) hS (fun _ _ z => z.elim) (fun _ z => z.elim) (fun r_5 _ t H1 locs ht hvm hw hB hz1 hk1 hS => ?_)
  have hP := gw_ro hP hk1
  generalize H1 = H at hP hS ⊢
  subst hw
  refine lv_iload hx hb dL_law_937 (lv_at hl 1 rfl) ?_
  refine lv_icmp_eq (tgt := 944) hx hb dL_law_939 (by decide) (fun _ => ?_) (fun c_6 => False.elim (by revert c_6; decide))
  refine lv_iload hx hb dL_law_944 (lv_at hl 1 rfl) ?_
  refine lv_if_ne (tgt := 961) hx hb dL_law_946 (by decide) (fun c_7 => False.elim (by revert c_7; decide)) (fun _ => ?_)
  refine lv_aload_n hx hb dL_law_949 rfl (lv_at hl 5 rfl) ?_
  refine lv_iconst (v := 0) hx hb dL_law_950 (by decide) ?_
  refine gw_out hx hb hK hP 42 2 (x := (gRaft Q nw day ca bo v k).toInt64) rfl rfl (by decide) (by decide) dL_law_951 ?_
  refine lv_iload hx hb dL_law_952 (lv_at hl 0 rfl) ?_
  refine lv_i2l (v := (gRaft Q nw day ca bo v k).toInt64) hx hb dL_law_954 rfl ?_
  refine gw_lcmp hx hb (x := (gRaft Q nw day ca bo v k).toInt64) dL_law_955 ?_
  refine lv_if_eq (tgt := 961) hx hb dL_law_956 (by decide) (fun _ => ?_) (fun c_8 => False.elim (by revert c_8; decide))
  refine lv_goto (tgt := 1267) hx hb dL_law_961 (by decide) ?_
  refine W.widen (k := cz + 12) (n := sz + 400) (by omega) (by omega) ?_
  exact K  _ _ _ hP hD hS (lv_sub hl [2, 3, 4, 5, 6] rfl)
