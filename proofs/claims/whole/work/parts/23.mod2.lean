theorem wc_X6_cut_X6 : ∀ w ∈ u_ws RX6 TX6 10, w ∈ wsX6_cut := by decide +kernel
theorem wd_X6_cut_1 : (.fieldLink RX6 25 "GritWheelsModel" "numbers" "[I" : Cond) ∈ wsX6_cut := by decide +kernel
theorem wd_X6_cut_2 : (.fieldLink RX6 19 "GritWheelsModel" "stones" "[I" : Cond) ∈ wsX6_cut := by decide +kernel
theorem wd_X6_cut_3 : (.fieldLink RX6 13 "GritWheelsModel" "rock" "[I" : Cond) ∈ wsX6_cut := by decide +kernel
theorem wd_X6_cut_4 : (.methodLink RX6 119 Lib.Math.max.name : Cond) ∈ wsX6_cut := by decide +kernel
theorem wd_X6_cut_5 : (.static Lib.Math.max.name : Cond) ∈ wsX6_cut := by decide +kernel
theorem wd_X6_cut_6 : (.initialized "java/lang/Math" : Cond) ∈ wsX6_cut := by decide +kernel
theorem wd_X6_cut_7 : (.code Lib.Math.max.name Lib.Math.max.code 2 (some .int) : Cond) ∈ wsX6_cut := by decide +kernel
set_option maxHeartbeats 4000000 in
set_option maxRecDepth 100000 in
theorem met_X6_cut (l : Launch) (D : va_G) (cI cZ cL : ClassId) (mo : Nat) (m4 : Nat) (m5 : Nat) (m6 : Nat) (m7 : Nat) (m8 : Nat) (m9 : Nat) (th : Int32) (nb : Nat) (nq : Nat) (nr : Nat) (Q : Nat → Nat → Int32) (day : Nat) (co : Int32) (nw : Nat) (k : Nat) (b : Nat) (hk : k < 6) (hb2 : b < 5) (hnw : nw < 60) : Met l yX6_cut wsX6_cut ({ frames := 1, cells := 0, slots := 0, locals := 23 }) (gPw [.ref mo, .int (nI k), .int (nI b)] D [(mo, .inr (6, [.int th, .int (nI nb), .int (nI nq), .int (nI nr), .ref m4, .ref m5, .ref m6, .ref m7, .ref m8, .ref m9])), (m5, .inl (cI, 20, .inl (enR Q))), (m6, .inl (cI, 24, .inl (enP Q))), (m7, .inl (cI, 300, .inl (enS Q))), (m9, .inl (cI, 3, .inl (enN day co nw)))] (gT cI cZ cL)) (va_Qv (fun (_ : Unit) => True) (fun _ t => va_P D vwCl [(mo, .inr (6, [.int th, .int (nI nb), .int (nI nq), .int (nI nr), .ref m4, .ref m5, .ref m6, .ref m7, .ref m8, .ref m9])), (m5, .inl (cI, 20, .inl (enR (gCutW Q nw k b (gSize (Q 5 k) day))))), (m6, .inl (cI, 24, .inl (enP (gCutW Q nw k b (gSize (Q 5 k) day))))), (m7, .inl (cI, 300, .inl (enS (gCutW Q nw k b (gSize (Q 5 k) day))))), (m9, .inl (cI, 3, .inl (enN day co (nw + 1))))] t.heap) (gA (gL [(mo, .inr (6, [.int th, .int (nI nb), .int (nI nq), .int (nI nr), .ref m4, .ref m5, .ref m6, .ref m7, .ref m8, .ref m9])), (m5, .inl (cI, 20, .inl (enR Q))), (m6, .inl (cI, 24, .inl (enP Q))), (m7, .inl (cI, 300, .inl (enS Q))), (m9, .inl (cI, 3, .inl (enN day co nw)))]))) 0 0 (gA (gL [(mo, .inr (6, [.int th, .int (nI nb), .int (nI nq), .int (nI nr), .ref m4, .ref m5, .ref m6, .ref m7, .ref m8, .ref m9])), (m5, .inl (cI, 20, .inl (enR Q))), (m6, .inl (cI, 24, .inl (enP Q))), (m7, .inl (cI, 300, .inl (enS Q))), (m9, .inl (cI, 3, .inl (enN day co nw)))])) := by
  refine Met.ofW (cc := cX6_cut) (maxL := 5) (ret := none) (by decide +kernel) rfl ?_
  intro p e s m args below meth c s₁ B hml hv
  obtain ⟨rfl, hP, hK, hD0⟩ := hv
  have hx := B.exec
  have hb := B.bytes
  have hr := B.returns
  have hts := atoms_spec (ws := wsX6_cut) B.pre
  have hown : s.vm.findClass RX6 = some m.cls := findClass_of_methodNamed B.named
  have hlocks := B.notSynchronized
  have hD := gw_self hD0
  generalize hAe : gA (gL [(mo, .inr (6, [.int th, .int (nI nb), .int (nI nq), .int (nI nr), .ref m4, .ref m5, .ref m6, .ref m7, .ref m8, .ref m9])), (m5, .inl (cI, 20, .inl (enR Q))), (m6, .inl (cI, 24, .inl (enP Q))), (m7, .inl (cI, 300, .inl (enS Q))), (m9, .inl (cI, 3, .inl (enN day co nw)))]) = A at hD ⊢
  have hS : va_S A s.heap s.heap [] := va_S.rf
  have hP : va_P D vwCl [(mo, .inr (6, [.int th, .int (nI nb), .int (nI nq), .int (nI nr), .ref m4, .ref m5, .ref m6, .ref m7, .ref m8, .ref m9])), (m5, .inl (cI, 20, .inl (enR Q))), (m6, .inl (cI, 24, .inl (enP Q))), (m7, .inl (cI, 300, .inl (enS Q))), (m9, .inl (cI, 3, .inl (enN day co nw)))] s.heap := hP
  have hl := lv_entry ([.ref mo, .int (nI k), .int (nI b)]) (n := 5) (Nat.le_of_ble_eq_true rfl)
  rw [lg_entry_eq]
  generalize (lg_sl ([.ref mo, .int (nI k), .int (nI b)]) ++ List.replicate (5 - (lg_sl ([.ref mo, .int (nI k), .int (nI b)])).length) Slot.unset).toArray = ls at hl ⊢
  have hl : lv_has ls 5 [(0, .ref mo), (1, .int (nI k)), (2, .int (nI b))] := hl
  refine lv_iconst (v := 1) hx hb dX6_cut_0 (by decide) ?_
  refine lv_aload_n hx hb dX6_cut_1 rfl (lv_at hl 0 rfl) ?_
  refine lv_iload_n hx hb dX6_cut_2 rfl (lv_at hl 1 rfl) ?_
  refine lv_iconst (v := 0) hx hb dX6_cut_3 (by decide) ?_
  refine va_calli (va_runV (As := [.int (nI k), .int 0]) (rest := [.int 1]) ⟨hx, hb, hml, hown, hts⟩ (met_X6_pe l D cI cZ cL mo m4 m5 m6 m7 m8 m9 th nb nq nr (enP Q) k 0 (by first | assumption | omega) (by first | assumption | omega)) (cwV 2 hts gX6_cut_X6_pe rfl rfl rfl (by decide +kernel) ⟨Nat.le_of_ble_eq_true rfl, Nat.le_of_ble_eq_true rfl⟩) (gw_pvr hK hP (wc := [(mo, .inr (6, [.int th, .int (nI nb), .int (nI nq), .int (nI nr), .ref m4, .ref m5, .ref m6, .ref m7, .ref m8, .ref m9])), (m6, .inl (cI, 24, .inl (enP Q)))]) [0, 2] rfl 6 rfl rfl rfl) rfl rfl hl.1 rfl (lv_room (Nat.le_of_ble_eq_true rfl)) dX6_cut_4 ⟨Nat.zero_le _, Nat.zero_le _⟩) hS (fun _ _ z => z.elim) (fun _ z => z.elim) (fun r_2 _ t H1 locs ht hvm hw hB hz1 hk1 hS => ?_)
  have hP := gw_ro hP hk1
  generalize H1 = H at hP hS ⊢
  subst hw
  refine gw_top (y := Q 5 k) (enP_0 Q k) ?_
  refine lv_iconst (v := 2) hx hb dX6_cut_7 (by decide) ?_
  refine lv_idiv hx hb dX6_cut_8 (by decide) ?_
  refine lv_iadd hx hb dX6_cut_9 ?_
  refine lv_aload_n hx hb dX6_cut_10 rfl (lv_at hl 0 rfl) ?_
  refine va_get (D := D) (ci := 6) (v := .ref m9) (C := RX6) (T := TX6) (N := 10) hx hb hts wc_X6_cut_X6 hown hK hP 0 rfl rfl 9 (by decide) (hts _ wd_X6_cut_1) (fun _ h9 => h9) rfl dX6_cut_11 ?_
  refine lv_iconst (v := 0) hx hb dX6_cut_14 (by decide) ?_
  refine gw_top (y := nI 0) rfl ?_
  refine gw_iald hx hb hK hP 4 0 (k := 0) rfl rfl (by omega) (by decide) dX6_cut_15 ?_
  refine gw_top (y := nI day) rfl ?_
  refine lv_iconst (v := 3) hx hb dX6_cut_16 (by decide) ?_
  refine lv_irem hx hb dX6_cut_17 (by decide) ?_
  refine lv_if_ne (tgt := 25) hx hb dX6_cut_18 (by decide) (fun h1 => ?_) (fun h1 => ?_)
  · skip
    refine lv_iconst (v := 0) hx hb dX6_cut_25 (by decide) ?_
    refine lv_iadd hx hb dX6_cut_26 ?_
    refine gw_top (y := gSize (Q 5 k) day) (by simp [gSize, h1]) ?_
    refine lv_istore_n (lv' := [(3, .int (gSize (Q 5 k) day)), (0, .ref mo), (1, .int (nI k)), (2, .int (nI b))]) hx hb dX6_cut_27 rfl hl (by decide) rfl (fun ls hl => ?_)
    refine lv_iconst (v := 5) hx hb dX6_cut_28 (by decide) ?_
    refine lv_aload_n hx hb dX6_cut_29 rfl (lv_at hl 1 rfl) ?_
    refine va_get (D := D) (ci := 6) (v := .ref m9) (C := RX6) (T := TX6) (N := 10) hx hb hts wc_X6_cut_X6 hown hK hP 0 rfl rfl 9 (by decide) (hts _ wd_X6_cut_1) (fun _ h9 => h9) rfl dX6_cut_30 ?_
    refine lv_iconst (v := 2) hx hb dX6_cut_33 (by decide) ?_
    refine gw_top (y := nI 2) rfl ?_
    refine gw_iald hx hb hK hP 4 0 (k := 2) rfl rfl (by omega) (by decide) dX6_cut_34 ?_
    refine gw_top (y := nI nw) rfl ?_
    refine lv_imul hx hb dX6_cut_35 ?_
    refine gw_top (y := nI (5 * nw)) (nI_mul 5 nw) ?_
    refine lv_istore (lv' := [(4, .int (nI (5 * nw))), (3, .int (gSize (Q 5 k) day)), (0, .ref mo), (1, .int (nI k)), (2, .int (nI b))]) hx hb dX6_cut_36 hl (by decide) rfl (fun ls hl => ?_)
    refine lv_aload_n hx hb dX6_cut_38 rfl (lv_at hl 2 rfl) ?_
    refine va_get (D := D) (ci := 6) (v := .ref m7) (C := RX6) (T := TX6) (N := 10) hx hb hts wc_X6_cut_X6 hown hK hP 0 rfl rfl 7 (by decide) (hts _ wd_X6_cut_2) (fun _ h9 => h9) rfl dX6_cut_39 ?_
    refine lv_iload hx hb dX6_cut_42 (lv_at hl 0 rfl) ?_
    refine lv_iconst (v := 0) hx hb dX6_cut_44 (by decide) ?_
    refine lv_iadd hx hb dX6_cut_45 ?_
    refine gw_top (y := nI ((5 * nw) + 0)) (nI_add (5 * nw) 0) ?_
    refine lv_iload_n hx hb dX6_cut_46 rfl (lv_at hl 4 rfl) ?_
    refine gw_iast hx hb hK hP hD hS 3 0 (k := (5 * nw) + 0) rfl rfl (by omega) (by decide) dX6_cut_47 (fun H locs hP hD hS => ?_)
    have hP : va_P D vwCl [(mo, .inr (6, [.int th, .int (nI nb), .int (nI nq), .int (nI nr), .ref m4, .ref m5, .ref m6, .ref m7, .ref m8, .ref m9])), (m5, .inl (cI, 20, .inl (enR Q))), (m6, .inl (cI, 24, .inl (enP Q))), (m7, .inl (cI, 300, .inl (upd (enS Q) ((5 * nw) + 0) (nI b)))), (m9, .inl (cI, 3, .inl (enN day co nw)))] H := hP
    have hD : va_D A [(mo, .inr (6, [.int th, .int (nI nb), .int (nI nq), .int (nI nr), .ref m4, .ref m5, .ref m6, .ref m7, .ref m8, .ref m9])), (m5, .inl (cI, 20, .inl (enR Q))), (m6, .inl (cI, 24, .inl (enP Q))), (m7, .inl (cI, 300, .inl (upd (enS Q) ((5 * nw) + 0) (nI b)))), (m9, .inl (cI, 3, .inl (enN day co nw)))] := hD
    refine lv_aload_n hx hb dX6_cut_48 rfl (lv_at hl 2 rfl) ?_
    refine va_get (D := D) (ci := 6) (v := .ref m7) (C := RX6) (T := TX6) (N := 10) hx hb hts wc_X6_cut_X6 hown hK hP 0 rfl rfl 7 (by decide) (hts _ wd_X6_cut_2) (fun _ h9 => h9) rfl dX6_cut_49 ?_
    refine lv_iload hx hb dX6_cut_52 (lv_at hl 0 rfl) ?_
    refine lv_iconst (v := 1) hx hb dX6_cut_54 (by decide) ?_
    refine lv_iadd hx hb dX6_cut_55 ?_
    refine gw_top (y := nI ((5 * nw) + 1)) (nI_add (5 * nw) 1) ?_
    refine lv_iload_n hx hb dX6_cut_56 rfl (lv_at hl 1 rfl) ?_
    refine gw_iast hx hb hK hP hD hS 3 0 (k := (5 * nw) + 1) rfl rfl (by omega) (by decide) dX6_cut_57 (fun H locs hP hD hS => ?_)
    have hP : va_P D vwCl [(mo, .inr (6, [.int th, .int (nI nb), .int (nI nq), .int (nI nr), .ref m4, .ref m5, .ref m6, .ref m7, .ref m8, .ref m9])), (m5, .inl (cI, 20, .inl (enR Q))), (m6, .inl (cI, 24, .inl (enP Q))), (m7, .inl (cI, 300, .inl (upd (upd (enS Q) ((5 * nw) + 0) (nI b)) ((5 * nw) + 1) (gSize (Q 5 k) day)))), (m9, .inl (cI, 3, .inl (enN day co nw)))] H := hP
    have hD : va_D A [(mo, .inr (6, [.int th, .int (nI nb), .int (nI nq), .int (nI nr), .ref m4, .ref m5, .ref m6, .ref m7, .ref m8, .ref m9])), (m5, .inl (cI, 20, .inl (enR Q))), (m6, .inl (cI, 24, .inl (enP Q))), (m7, .inl (cI, 300, .inl (upd (upd (enS Q) ((5 * nw) + 0) (nI b)) ((5 * nw) + 1) (gSize (Q 5 k) day)))), (m9, .inl (cI, 3, .inl (enN day co nw)))] := hD
    refine lv_aload_n hx hb dX6_cut_58 rfl (lv_at hl 2 rfl) ?_
    refine va_get (D := D) (ci := 6) (v := .ref m7) (C := RX6) (T := TX6) (N := 10) hx hb hts wc_X6_cut_X6 hown hK hP 0 rfl rfl 7 (by decide) (hts _ wd_X6_cut_2) (fun _ h9 => h9) rfl dX6_cut_59 ?_
    refine lv_iload hx hb dX6_cut_62 (lv_at hl 0 rfl) ?_
    refine lv_iconst (v := 2) hx hb dX6_cut_64 (by decide) ?_
    refine lv_iadd hx hb dX6_cut_65 ?_
    refine gw_top (y := nI ((5 * nw) + 2)) (nI_add (5 * nw) 2) ?_
    refine lv_iconst (v := 0) hx hb dX6_cut_66 (by decide) ?_
    refine gw_iast hx hb hK hP hD hS 3 0 (k := (5 * nw) + 2) rfl rfl (by omega) (by decide) dX6_cut_67 (fun H locs hP hD hS => ?_)
    have hP : va_P D vwCl [(mo, .inr (6, [.int th, .int (nI nb), .int (nI nq), .int (nI nr), .ref m4, .ref m5, .ref m6, .ref m7, .ref m8, .ref m9])), (m5, .inl (cI, 20, .inl (enR Q))), (m6, .inl (cI, 24, .inl (enP Q))), (m7, .inl (cI, 300, .inl (upd (upd (upd (enS Q) ((5 * nw) + 0) (nI b)) ((5 * nw) + 1) (gSize (Q 5 k) day)) ((5 * nw) + 2) 0))), (m9, .inl (cI, 3, .inl (enN day co nw)))] H := hP
    have hD : va_D A [(mo, .inr (6, [.int th, .int (nI nb), .int (nI nq), .int (nI nr), .ref m4, .ref m5, .ref m6, .ref m7, .ref m8, .ref m9])), (m5, .inl (cI, 20, .inl (enR Q))), (m6, .inl (cI, 24, .inl (enP Q))), (m7, .inl (cI, 300, .inl (upd (upd (upd (enS Q) ((5 * nw) + 0) (nI b)) ((5 * nw) + 1) (gSize (Q 5 k) day)) ((5 * nw) + 2) 0))), (m9, .inl (cI, 3, .inl (enN day co nw)))] := hD
    refine lv_aload_n hx hb dX6_cut_68 rfl (lv_at hl 2 rfl) ?_
    refine va_get (D := D) (ci := 6) (v := .ref m7) (C := RX6) (T := TX6) (N := 10) hx hb hts wc_X6_cut_X6 hown hK hP 0 rfl rfl 7 (by decide) (hts _ wd_X6_cut_2) (fun _ h9 => h9) rfl dX6_cut_69 ?_
    refine lv_iload hx hb dX6_cut_72 (lv_at hl 0 rfl) ?_
    refine lv_iconst (v := 3) hx hb dX6_cut_74 (by decide) ?_
    refine lv_iadd hx hb dX6_cut_75 ?_
    refine gw_top (y := nI ((5 * nw) + 3)) (nI_add (5 * nw) 3) ?_
    refine lv_iconst (v := (-1)) hx hb dX6_cut_76 (by decide) ?_
    refine gw_iast hx hb hK hP hD hS 3 0 (k := (5 * nw) + 3) rfl rfl (by omega) (by decide) dX6_cut_77 (fun H locs hP hD hS => ?_)
    have hP : va_P D vwCl [(mo, .inr (6, [.int th, .int (nI nb), .int (nI nq), .int (nI nr), .ref m4, .ref m5, .ref m6, .ref m7, .ref m8, .ref m9])), (m5, .inl (cI, 20, .inl (enR Q))), (m6, .inl (cI, 24, .inl (enP Q))), (m7, .inl (cI, 300, .inl (upd (upd (upd (upd (enS Q) ((5 * nw) + 0) (nI b)) ((5 * nw) + 1) (gSize (Q 5 k) day)) ((5 * nw) + 2) 0) ((5 * nw) + 3) (-1)))), (m9, .inl (cI, 3, .inl (enN day co nw)))] H := hP
    have hD : va_D A [(mo, .inr (6, [.int th, .int (nI nb), .int (nI nq), .int (nI nr), .ref m4, .ref m5, .ref m6, .ref m7, .ref m8, .ref m9])), (m5, .inl (cI, 20, .inl (enR Q))), (m6, .inl (cI, 24, .inl (enP Q))), (m7, .inl (cI, 300, .inl (upd (upd (upd (upd (enS Q) ((5 * nw) + 0) (nI b)) ((5 * nw) + 1) (gSize (Q 5 k) day)) ((5 * nw) + 2) 0) ((5 * nw) + 3) (-1)))), (m9, .inl (cI, 3, .inl (enN day co nw)))] := hD
    refine lv_aload_n hx hb dX6_cut_78 rfl (lv_at hl 2 rfl) ?_
    refine va_get (D := D) (ci := 6) (v := .ref m7) (C := RX6) (T := TX6) (N := 10) hx hb hts wc_X6_cut_X6 hown hK hP 0 rfl rfl 7 (by decide) (hts _ wd_X6_cut_2) (fun _ h9 => h9) rfl dX6_cut_79 ?_
    refine lv_iload hx hb dX6_cut_82 (lv_at hl 0 rfl) ?_
    refine lv_iconst (v := 4) hx hb dX6_cut_84 (by decide) ?_
    refine lv_iadd hx hb dX6_cut_85 ?_
    refine gw_top (y := nI ((5 * nw) + 4)) (nI_add (5 * nw) 4) ?_
    refine lv_bipush (v := 7) hx hb dX6_cut_86 (by decide) ?_
    refine lv_aload_n hx hb dX6_cut_88 rfl (lv_at hl 2 rfl) ?_
    refine lv_iload_n hx hb dX6_cut_89 rfl (lv_at hl 4 rfl) ?_
    refine lv_iconst (v := 3) hx hb dX6_cut_90 (by decide) ?_
    refine va_calli (va_runV (As := [.int (nI b), .int 3]) (rest := [.int 7, .int (nI ((5 * nw) + 4)), .ref m7]) ⟨hx, hb, hml, hown, hts⟩ (met_X6_ro l D cI cZ cL mo m4 m5 m6 m7 m8 m9 th nb nq nr (enR Q) b 3 (by first | assumption | omega) (by first | assumption | omega)) (cwV 2 hts gX6_cut_X6_ro rfl rfl rfl (by decide +kernel) ⟨Nat.le_of_ble_eq_true rfl, Nat.le_of_ble_eq_true rfl⟩) (gw_pvr hK hP (wc := [(mo, .inr (6, [.int th, .int (nI nb), .int (nI nq), .int (nI nr), .ref m4, .ref m5, .ref m6, .ref m7, .ref m8, .ref m9])), (m5, .inl (cI, 20, .inl (enR Q)))]) [0, 1] rfl 6 rfl rfl rfl) rfl rfl hl.1 rfl (lv_room (Nat.le_of_ble_eq_true rfl)) dX6_cut_91 ⟨Nat.zero_le _, Nat.zero_le _⟩) hS (fun _ _ z => z.elim) (fun _ z => z.elim) (fun r_5 _ t H1 locs ht hvm hw hB hz1 hk1 hS => ?_)
    have hP := gw_ro hP hk1
    generalize H1 = H at hP hS ⊢
    subst hw
    refine gw_top (y := Q 4 b) (enR_3 Q b) ?_
    refine lv_imul hx hb dX6_cut_94 ?_
    refine lv_iconst (v := 3) hx hb dX6_cut_95 (by decide) ?_
    refine lv_iload_n hx hb dX6_cut_96 rfl (lv_at hl 1 rfl) ?_
    refine lv_imul hx hb dX6_cut_97 ?_
    refine lv_iadd hx hb dX6_cut_98 ?_
    refine lv_bipush (v := 10) hx hb dX6_cut_99 (by decide) ?_
    refine lv_irem hx hb dX6_cut_101 (by decide) ?_
    refine lv_aload_n hx hb dX6_cut_102 rfl (lv_at hl 2 rfl) ?_
    refine lv_iload_n hx hb dX6_cut_103 rfl (lv_at hl 4 rfl) ?_
    refine lv_iconst (v := 1) hx hb dX6_cut_104 (by decide) ?_
    refine va_calli (va_runV (As := [.int (nI b), .int 1]) (rest := [.int (((7 * (Q 4 b)) + (3 * (gSize (Q 5 k) day))) - ((7 * (Q 4 b)) + (3 * (gSize (Q 5 k) day))) / 10 * 10), .int (nI ((5 * nw) + 4)), .ref m7]) ⟨hx, hb, hml, hown, hts⟩ (met_X6_ro l D cI cZ cL mo m4 m5 m6 m7 m8 m9 th nb nq nr (enR Q) b 1 (by first | assumption | omega) (by first | assumption | omega)) (cwV 2 hts gX6_cut_X6_ro rfl rfl rfl (by decide +kernel) ⟨Nat.le_of_ble_eq_true rfl, Nat.le_of_ble_eq_true rfl⟩) (gw_pvr hK hP (wc := [(mo, .inr (6, [.int th, .int (nI nb), .int (nI nq), .int (nI nr), .ref m4, .ref m5, .ref m6, .ref m7, .ref m8, .ref m9])), (m5, .inl (cI, 20, .inl (enR Q)))]) [0, 1] rfl 6 rfl rfl rfl) rfl rfl hl.1 rfl (lv_room (Nat.le_of_ble_eq_true rfl)) dX6_cut_105 ⟨Nat.zero_le _, Nat.zero_le _⟩) hS (fun _ _ z => z.elim) (fun _ z => z.elim) (fun r_7 _ t H1 locs ht hvm hw hB hz1 hk1 hS => ?_)
    have hP := gw_ro hP hk1
    generalize H1 = H at hP hS ⊢
    subst hw
    refine gw_top (y := Q 2 b) (enR_1 Q b) ?_
    refine lv_icmp_ge (tgt := 115) hx hb dX6_cut_108 (by decide) (fun h2 => ?_) (fun h2 => ?_)
    · skip
      have hcr : gCr Q b (gSize (Q 5 k) day) = 0 := by unfold gCr; exact if_neg (Int32.not_lt.mpr h2)
      refine lv_iconst (v := 0) hx hb dX6_cut_115 (by decide) ?_
      refine gw_iast hx hb hK hP hD hS 3 0 (k := (5 * nw) + 4) rfl rfl (by omega) (by decide) dX6_cut_116 (fun H locs hP hD hS => ?_)
      have hP : va_P D vwCl [(mo, .inr (6, [.int th, .int (nI nb), .int (nI nq), .int (nI nr), .ref m4, .ref m5, .ref m6, .ref m7, .ref m8, .ref m9])), (m5, .inl (cI, 20, .inl (enR Q))), (m6, .inl (cI, 24, .inl (enP Q))), (m7, .inl (cI, 300, .inl (upd (upd (upd (upd (upd (enS Q) ((5 * nw) + 0) (nI b)) ((5 * nw) + 1) (gSize (Q 5 k) day)) ((5 * nw) + 2) 0) ((5 * nw) + 3) (-1)) ((5 * nw) + 4) 0))), (m9, .inl (cI, 3, .inl (enN day co nw)))] H := hP
      have hD : va_D A [(mo, .inr (6, [.int th, .int (nI nb), .int (nI nq), .int (nI nr), .ref m4, .ref m5, .ref m6, .ref m7, .ref m8, .ref m9])), (m5, .inl (cI, 20, .inl (enR Q))), (m6, .inl (cI, 24, .inl (enP Q))), (m7, .inl (cI, 300, .inl (upd (upd (upd (upd (upd (enS Q) ((5 * nw) + 0) (nI b)) ((5 * nw) + 1) (gSize (Q 5 k) day)) ((5 * nw) + 2) 0) ((5 * nw) + 3) (-1)) ((5 * nw) + 4) 0))), (m9, .inl (cI, 3, .inl (enN day co nw)))] := hD
      have hw_9 : upd (upd (upd (upd (upd (enS Q) ((5 * nw) + 0) (nI b)) ((5 * nw) + 1) (gSize (Q 5 k) day)) ((5 * nw) + 2) 0) ((5 * nw) + 3) (-1)) ((5 * nw) + 4) 0 = enS (gCutW Q nw k b (gSize (Q 5 k) day)) := (enS_cut (k := k) hcr)
      rw [hw_9] at hP hD
      refine lv_aload_n hx hb dX6_cut_117 rfl (lv_at hl 2 rfl) ?_
      refine va_get (D := D) (ci := 6) (v := .ref m9) (C := RX6) (T := TX6) (N := 10) hx hb hts wc_X6_cut_X6 hown hK hP 0 rfl rfl 9 (by decide) (hts _ wd_X6_cut_1) (fun _ h9 => h9) rfl dX6_cut_118 ?_
      refine lv_iconst (v := 2) hx hb dX6_cut_121 (by decide) ?_
      refine lv_dup2_11 hx hb dX6_cut_122 rfl rfl ?_
      refine gw_top (y := nI 2) rfl ?_
      refine gw_iald hx hb hK hP 4 0 (k := 2) rfl rfl (by omega) (by decide) dX6_cut_123 ?_
      refine gw_top (y := nI nw) rfl ?_
      refine lv_iconst (v := 1) hx hb dX6_cut_124 (by decide) ?_
      refine lv_iadd hx hb dX6_cut_125 ?_
      refine gw_top (y := nI (nw + 1)) (nI_add nw 1) ?_
      refine gw_top2 (y := nI 2) rfl ?_
      refine gw_iast hx hb hK hP hD hS 4 0 (k := 2) rfl rfl (by omega) (by decide) dX6_cut_126 (fun H locs hP hD hS => ?_)
      have hP : va_P D vwCl [(mo, .inr (6, [.int th, .int (nI nb), .int (nI nq), .int (nI nr), .ref m4, .ref m5, .ref m6, .ref m7, .ref m8, .ref m9])), (m5, .inl (cI, 20, .inl (enR Q))), (m6, .inl (cI, 24, .inl (enP Q))), (m7, .inl (cI, 300, .inl (enS (gCutW Q nw k b (gSize (Q 5 k) day))))), (m9, .inl (cI, 3, .inl (upd (enN day co nw) 2 (nI (nw + 1)))))] H := hP
      have hD : va_D A [(mo, .inr (6, [.int th, .int (nI nb), .int (nI nq), .int (nI nr), .ref m4, .ref m5, .ref m6, .ref m7, .ref m8, .ref m9])), (m5, .inl (cI, 20, .inl (enR Q))), (m6, .inl (cI, 24, .inl (enP Q))), (m7, .inl (cI, 300, .inl (enS (gCutW Q nw k b (gSize (Q 5 k) day))))), (m9, .inl (cI, 3, .inl (upd (enN day co nw) 2 (nI (nw + 1)))))] := hD
      have hw_10 : upd (enN day co nw) 2 (nI (nw + 1)) = enN day co (nw + 1) := (enN_2 _ _ _ _)
      rw [hw_10] at hP hD
      refine lv_aload_n hx hb dX6_cut_127 rfl (lv_at hl 2 rfl) ?_
      refine va_get (D := D) (ci := 6) (v := .ref m5) (C := RX6) (T := TX6) (N := 10) hx hb hts wc_X6_cut_X6 hown hK hP 0 rfl rfl 5 (by decide) (hts _ wd_X6_cut_3) (fun _ h9 => h9) rfl dX6_cut_128 ?_
      refine lv_iconst (v := 4) hx hb dX6_cut_131 (by decide) ?_
      refine lv_iload_n hx hb dX6_cut_132 rfl (lv_at hl 4 rfl) ?_
      refine lv_imul hx hb dX6_cut_133 ?_
      refine gw_top (y := nI (4 * b)) (nI_mul 4 b) ?_
      refine lv_iconst (v := 3) hx hb dX6_cut_134 (by decide) ?_
      refine lv_iadd hx hb dX6_cut_135 ?_
      refine gw_top (y := nI ((4 * b) + 3)) (nI_add (4 * b) 3) ?_
      refine lv_dup2_11 hx hb dX6_cut_136 rfl rfl ?_
      refine gw_iald hx hb hK hP 1 0 (k := (4 * b) + 3) rfl rfl (by omega) (by decide) dX6_cut_137 ?_
      refine gw_top (y := Q 4 b) (enR_3 Q b) ?_
      refine lv_iconst (v := 1) hx hb dX6_cut_138 (by decide) ?_
      refine lv_iadd hx hb dX6_cut_139 ?_
      refine gw_iast hx hb hK hP hD hS 1 0 (k := (4 * b) + 3) rfl rfl (by omega) (by decide) dX6_cut_140 (fun H locs hP hD hS => ?_)
      have hP : va_P D vwCl [(mo, .inr (6, [.int th, .int (nI nb), .int (nI nq), .int (nI nr), .ref m4, .ref m5, .ref m6, .ref m7, .ref m8, .ref m9])), (m5, .inl (cI, 20, .inl (upd (enR Q) ((4 * b) + 3) ((Q 4 b) + 1)))), (m6, .inl (cI, 24, .inl (enP Q))), (m7, .inl (cI, 300, .inl (enS (gCutW Q nw k b (gSize (Q 5 k) day))))), (m9, .inl (cI, 3, .inl (enN day co (nw + 1))))] H := hP
      have hD : va_D A [(mo, .inr (6, [.int th, .int (nI nb), .int (nI nq), .int (nI nr), .ref m4, .ref m5, .ref m6, .ref m7, .ref m8, .ref m9])), (m5, .inl (cI, 20, .inl (upd (enR Q) ((4 * b) + 3) ((Q 4 b) + 1)))), (m6, .inl (cI, 24, .inl (enP Q))), (m7, .inl (cI, 300, .inl (enS (gCutW Q nw k b (gSize (Q 5 k) day))))), (m9, .inl (cI, 3, .inl (enN day co (nw + 1))))] := hD
      have hw_11 : upd (enR Q) ((4 * b) + 3) ((Q 4 b) + 1) = enR (pk Q 4 (upd (Q 4) b (Q 4 b + 1))) := (enR_p Q b 3 _ (by decide))
      rw [hw_11] at hP hD
      refine lv_aload_n hx hb dX6_cut_141 rfl (lv_at hl 2 rfl) ?_
      refine va_get (D := D) (ci := 6) (v := .ref m5) (C := RX6) (T := TX6) (N := 10) hx hb hts wc_X6_cut_X6 hown hK hP 0 rfl rfl 5 (by decide) (hts _ wd_X6_cut_3) (fun _ h9 => h9) rfl dX6_cut_142 ?_
      refine lv_iconst (v := 4) hx hb dX6_cut_145 (by decide) ?_
      refine lv_iload_n hx hb dX6_cut_146 rfl (lv_at hl 4 rfl) ?_
      refine lv_imul hx hb dX6_cut_147 ?_
      refine gw_top (y := nI (4 * b)) (nI_mul 4 b) ?_
      refine lv_iconst (v := 2) hx hb dX6_cut_148 (by decide) ?_
      refine lv_iadd hx hb dX6_cut_149 ?_
      refine gw_top (y := nI ((4 * b) + 2)) (nI_add (4 * b) 2) ?_
      refine lv_iconst (v := 0) hx hb dX6_cut_150 (by decide) ?_
      refine lv_aload_n hx hb dX6_cut_151 rfl (lv_at hl 2 rfl) ?_
      refine lv_iload_n hx hb dX6_cut_152 rfl (lv_at hl 4 rfl) ?_
      refine lv_iconst (v := 2) hx hb dX6_cut_153 (by decide) ?_
      refine va_calli (va_runV (As := [.int (nI b), .int 2]) (rest := [.int 0, .int (nI ((4 * b) + 2)), .ref m5]) ⟨hx, hb, hml, hown, hts⟩ (met_X6_ro l D cI cZ cL mo m4 m5 m6 m7 m8 m9 th nb nq nr (enR (pk Q 4 (upd (Q 4) b (Q 4 b + 1)))) b 2 (by first | assumption | omega) (by first | assumption | omega)) (cwV 2 hts gX6_cut_X6_ro rfl rfl rfl (by decide +kernel) ⟨Nat.le_of_ble_eq_true rfl, Nat.le_of_ble_eq_true rfl⟩) (gw_pvr hK hP (wc := [(mo, .inr (6, [.int th, .int (nI nb), .int (nI nq), .int (nI nr), .ref m4, .ref m5, .ref m6, .ref m7, .ref m8, .ref m9])), (m5, .inl (cI, 20, .inl (enR (pk Q 4 (upd (Q 4) b (Q 4 b + 1))))))]) [0, 1] rfl 6 rfl rfl rfl) rfl rfl hl.1 rfl (lv_room (Nat.le_of_ble_eq_true rfl)) dX6_cut_154 ⟨Nat.zero_le _, Nat.zero_le _⟩) hS (fun _ _ z => z.elim) (fun _ z => z.elim) (fun r_13 _ t H1 locs ht hvm hw hB hz1 hk1 hS => ?_)
      have hP := gw_ro hP hk1
      generalize H1 = H at hP hS ⊢
      subst hw
      refine gw_top (y := (pk Q 4 (upd (Q 4) b (Q 4 b + 1))) 3 b) (enR_2 (pk Q 4 (upd (Q 4) b (Q 4 b + 1))) b) ?_
      refine gw_top (y := Q 3 b) rfl ?_
      refine lv_iload_n hx hb dX6_cut_157 rfl (lv_at hl 1 rfl) ?_
      refine lv_isub hx hb dX6_cut_158 ?_
      refine va_mmax (own := RX6) hx hb (by rw [hml]; exact hl.1.symm) hown (hts _ wd_X6_cut_4) (hts _ wd_X6_cut_5) (hts _ wd_X6_cut_6) (hts _ wd_X6_cut_7) (Nat.le_of_ble_eq_true rfl) (Nat.le_of_ble_eq_true rfl) (Nat.zero_le _) (Nat.zero_le _) dX6_cut_159 ?_
      refine gw_iast hx hb hK hP hD hS 1 0 (k := (4 * b) + 2) rfl rfl (by omega) (by decide) dX6_cut_162 (fun H locs hP hD hS => ?_)
      have hP : va_P D vwCl [(mo, .inr (6, [.int th, .int (nI nb), .int (nI nq), .int (nI nr), .ref m4, .ref m5, .ref m6, .ref m7, .ref m8, .ref m9])), (m5, .inl (cI, 20, .inl (upd (enR (pk Q 4 (upd (Q 4) b (Q 4 b + 1)))) ((4 * b) + 2) (if 0 < ((Q 3 b) - (gSize (Q 5 k) day)) then ((Q 3 b) - (gSize (Q 5 k) day)) else 0)))), (m6, .inl (cI, 24, .inl (enP Q))), (m7, .inl (cI, 300, .inl (enS (gCutW Q nw k b (gSize (Q 5 k) day))))), (m9, .inl (cI, 3, .inl (enN day co (nw + 1))))] H := hP
      have hD : va_D A [(mo, .inr (6, [.int th, .int (nI nb), .int (nI nq), .int (nI nr), .ref m4, .ref m5, .ref m6, .ref m7, .ref m8, .ref m9])), (m5, .inl (cI, 20, .inl (upd (enR (pk Q 4 (upd (Q 4) b (Q 4 b + 1)))) ((4 * b) + 2) (if 0 < ((Q 3 b) - (gSize (Q 5 k) day)) then ((Q 3 b) - (gSize (Q 5 k) day)) else 0)))), (m6, .inl (cI, 24, .inl (enP Q))), (m7, .inl (cI, 300, .inl (enS (gCutW Q nw k b (gSize (Q 5 k) day))))), (m9, .inl (cI, 3, .inl (enN day co (nw + 1))))] := hD
      have hw_14 : upd (enR (pk Q 4 (upd (Q 4) b (Q 4 b + 1)))) ((4 * b) + 2) (if 0 < ((Q 3 b) - (gSize (Q 5 k) day)) then ((Q 3 b) - (gSize (Q 5 k) day)) else 0) = enR (gCutW Q nw k b (gSize (Q 5 k) day)) := ((enR_p _ b 2 _ (by decide)).trans (enR_ext rfl rfl rfl rfl))
      rw [hw_14] at hP hD
      refine lv_aload_n hx hb dX6_cut_163 rfl (lv_at hl 2 rfl) ?_
      refine lv_iload_n hx hb dX6_cut_164 rfl (lv_at hl 3 rfl) ?_
      refine lv_iconst (v := 3) hx hb dX6_cut_165 (by decide) ?_
      refine lv_aload_n hx hb dX6_cut_166 rfl (lv_at hl 2 rfl) ?_
      refine lv_iload_n hx hb dX6_cut_167 rfl (lv_at hl 3 rfl) ?_
      refine lv_iconst (v := 3) hx hb dX6_cut_168 (by decide) ?_
      refine va_calli (va_runV (As := [.int (nI k), .int 3]) (rest := [.int 3, .int (nI k), .ref mo]) ⟨hx, hb, hml, hown, hts⟩ (met_X6_pe l D cI cZ cL mo m4 m5 m6 m7 m8 m9 th nb nq nr (enP Q) k 3 (by first | assumption | omega) (by first | assumption | omega)) (cwV 2 hts gX6_cut_X6_pe rfl rfl rfl (by decide +kernel) ⟨Nat.le_of_ble_eq_true rfl, Nat.le_of_ble_eq_true rfl⟩) (gw_pvr hK hP (wc := [(mo, .inr (6, [.int th, .int (nI nb), .int (nI nq), .int (nI nr), .ref m4, .ref m5, .ref m6, .ref m7, .ref m8, .ref m9])), (m6, .inl (cI, 24, .inl (enP Q)))]) [0, 2] rfl 6 rfl rfl rfl) rfl rfl hl.1 rfl (lv_room (Nat.le_of_ble_eq_true rfl)) dX6_cut_169 ⟨Nat.zero_le _, Nat.zero_le _⟩) hS (fun _ _ z => z.elim) (fun _ z => z.elim) (fun r_16 _ t H1 locs ht hvm hw hB hz1 hk1 hS => ?_)
      have hP := gw_ro hP hk1
      generalize H1 = H at hP hS ⊢
      subst hw
      refine gw_top (y := Q 8 k) (enP_3 Q k) ?_
      refine lv_bipush (v := 10) hx hb dX6_cut_172 (by decide) ?_
      refine lv_isub hx hb dX6_cut_174 ?_
      have hFc := gw_free (wc := [(mo, .inr (6, [.int th, .int (nI nb), .int (nI nq), .int (nI nr), .ref m4, .ref m5, .ref m6, .ref m7, .ref m8, .ref m9])), (m6, .inl (cI, 24, .inl (enP Q)))]) hD [0, 2] rfl
      refine va_callv (va_runV (As := [.int (nI k), .int 3, .int ((Q 8 k) - 10)]) (rest := []) ⟨hx, hb, hml, hown, hts⟩ (met_X6_put l D cI cZ cL mo m4 m5 m6 m7 m8 m9 th nb nq nr (enP Q) k 3 ((Q 8 k) - 10) (by first | assumption | omega) (by first | assumption | omega)) (cwV 3 hts gX6_cut_X6_put rfl rfl rfl (by decide +kernel) ⟨Nat.le_of_ble_eq_true rfl, Nat.le_of_ble_eq_true rfl⟩) (gw_pvw hK hP hD (wc := [(mo, .inr (6, [.int th, .int (nI nb), .int (nI nq), .int (nI nr), .ref m4, .ref m5, .ref m6, .ref m7, .ref m8, .ref m9])), (m6, .inl (cI, 24, .inl (enP Q)))]) [0, 2] (by decide) rfl rfl 6 rfl rfl rfl) rfl rfl hl.1 rfl (lv_room (Nat.le_of_ble_eq_true rfl)) dX6_cut_175 ⟨Nat.zero_le _, Nat.zero_le _⟩) hS (fun q _ h => hFc q h) hFc (fun _ t H1 locs ht hvm hw hB hz1 hk1 hS => ?_)
      rw [ht] at hB
      obtain ⟨hP, hD⟩ := gw_upd (wc := [(mo, .inr (6, [.int th, .int (nI nb), .int (nI nq), .int (nI nr), .ref m4, .ref m5, .ref m6, .ref m7, .ref m8, .ref m9])), (m6, .inl (cI, 24, .inl (enP Q)))]) (w1 := [(mo, .inr (6, [.int th, .int (nI nb), .int (nI nq), .int (nI nr), .ref m4, .ref m5, .ref m6, .ref m7, .ref m8, .ref m9])), (m6, .inl (cI, 24, .inl (upd (enP Q) (4 * k + 3) ((Q 8 k) - 10))))]) (ws' := [(mo, .inr (6, [.int th, .int (nI nb), .int (nI nq), .int (nI nr), .ref m4, .ref m5, .ref m6, .ref m7, .ref m8, .ref m9])), (m5, .inl (cI, 20, .inl (enR (gCutW Q nw k b (gSize (Q 5 k) day))))), (m6, .inl (cI, 24, .inl (upd (enP Q) (4 * k + 3) ((Q 8 k) - 10)))), (m7, .inl (cI, 300, .inl (enS (gCutW Q nw k b (gSize (Q 5 k) day))))), (m9, .inl (cI, 3, .inl (enN day co (nw + 1))))]) hP hD [0, 2] rfl rfl hk1 hB rfl
      generalize H1 = H at hP hS ⊢
      have hw_19 : upd (enP Q) (4 * k + 3) ((Q 8 k) - 10) = enP (gCutW Q nw k b (gSize (Q 5 k) day)) := ((enP_p Q k 3 _ (by decide)).trans (enP_ext rfl rfl rfl rfl))
      rw [hw_19] at hP hD
      subst hAe
      exact W.vret hx hb hr (fun t ht hW => ⟨⟨(), rfl, trivial, gw_hh ht hP⟩, hS.F ht⟩) hS.2.2 dX6_cut_178
    · skip
      have hcr : gCr Q b (gSize (Q 5 k) day) = 1 := by unfold gCr; exact if_pos (Int32.not_le.mp h2)
      refine lv_iconst (v := 1) hx hb dX6_cut_111 (by decide) ?_
      refine lv_goto (tgt := 116) hx hb dX6_cut_112 (by decide) ?_
      refine gw_iast hx hb hK hP hD hS 3 0 (k := (5 * nw) + 4) rfl rfl (by omega) (by decide) dX6_cut_116 (fun H locs hP hD hS => ?_)
      have hP : va_P D vwCl [(mo, .inr (6, [.int th, .int (nI nb), .int (nI nq), .int (nI nr), .ref m4, .ref m5, .ref m6, .ref m7, .ref m8, .ref m9])), (m5, .inl (cI, 20, .inl (enR Q))), (m6, .inl (cI, 24, .inl (enP Q))), (m7, .inl (cI, 300, .inl (upd (upd (upd (upd (upd (enS Q) ((5 * nw) + 0) (nI b)) ((5 * nw) + 1) (gSize (Q 5 k) day)) ((5 * nw) + 2) 0) ((5 * nw) + 3) (-1)) ((5 * nw) + 4) 1))), (m9, .inl (cI, 3, .inl (enN day co nw)))] H := hP
      have hD : va_D A [(mo, .inr (6, [.int th, .int (nI nb), .int (nI nq), .int (nI nr), .ref m4, .ref m5, .ref m6, .ref m7, .ref m8, .ref m9])), (m5, .inl (cI, 20, .inl (enR Q))), (m6, .inl (cI, 24, .inl (enP Q))), (m7, .inl (cI, 300, .inl (upd (upd (upd (upd (upd (enS Q) ((5 * nw) + 0) (nI b)) ((5 * nw) + 1) (gSize (Q 5 k) day)) ((5 * nw) + 2) 0) ((5 * nw) + 3) (-1)) ((5 * nw) + 4) 1))), (m9, .inl (cI, 3, .inl (enN day co nw)))] := hD
      have hw_20 : upd (upd (upd (upd (upd (enS Q) ((5 * nw) + 0) (nI b)) ((5 * nw) + 1) (gSize (Q 5 k) day)) ((5 * nw) + 2) 0) ((5 * nw) + 3) (-1)) ((5 * nw) + 4) 1 = enS (gCutW Q nw k b (gSize (Q 5 k) day)) := (enS_cut (k := k) hcr)
      rw [hw_20] at hP hD
      refine lv_aload_n hx hb dX6_cut_117 rfl (lv_at hl 2 rfl) ?_
      refine va_get (D := D) (ci := 6) (v := .ref m9) (C := RX6) (T := TX6) (N := 10) hx hb hts wc_X6_cut_X6 hown hK hP 0 rfl rfl 9 (by decide) (hts _ wd_X6_cut_1) (fun _ h9 => h9) rfl dX6_cut_118 ?_
      refine lv_iconst (v := 2) hx hb dX6_cut_121 (by decide) ?_
      refine lv_dup2_11 hx hb dX6_cut_122 rfl rfl ?_
      refine gw_top (y := nI 2) rfl ?_
      refine gw_iald hx hb hK hP 4 0 (k := 2) rfl rfl (by omega) (by decide) dX6_cut_123 ?_
      refine gw_top (y := nI nw) rfl ?_
      refine lv_iconst (v := 1) hx hb dX6_cut_124 (by decide) ?_
      refine lv_iadd hx hb dX6_cut_125 ?_
      refine gw_top (y := nI (nw + 1)) (nI_add nw 1) ?_
      refine gw_top2 (y := nI 2) rfl ?_
      refine gw_iast hx hb hK hP hD hS 4 0 (k := 2) rfl rfl (by omega) (by decide) dX6_cut_126 (fun H locs hP hD hS => ?_)
      have hP : va_P D vwCl [(mo, .inr (6, [.int th, .int (nI nb), .int (nI nq), .int (nI nr), .ref m4, .ref m5, .ref m6, .ref m7, .ref m8, .ref m9])), (m5, .inl (cI, 20, .inl (enR Q))), (m6, .inl (cI, 24, .inl (enP Q))), (m7, .inl (cI, 300, .inl (enS (gCutW Q nw k b (gSize (Q 5 k) day))))), (m9, .inl (cI, 3, .inl (upd (enN day co nw) 2 (nI (nw + 1)))))] H := hP
      have hD : va_D A [(mo, .inr (6, [.int th, .int (nI nb), .int (nI nq), .int (nI nr), .ref m4, .ref m5, .ref m6, .ref m7, .ref m8, .ref m9])), (m5, .inl (cI, 20, .inl (enR Q))), (m6, .inl (cI, 24, .inl (enP Q))), (m7, .inl (cI, 300, .inl (enS (gCutW Q nw k b (gSize (Q 5 k) day))))), (m9, .inl (cI, 3, .inl (upd (enN day co nw) 2 (nI (nw + 1)))))] := hD
      have hw_21 : upd (enN day co nw) 2 (nI (nw + 1)) = enN day co (nw + 1) := (enN_2 _ _ _ _)
      rw [hw_21] at hP hD
      refine lv_aload_n hx hb dX6_cut_127 rfl (lv_at hl 2 rfl) ?_
      refine va_get (D := D) (ci := 6) (v := .ref m5) (C := RX6) (T := TX6) (N := 10) hx hb hts wc_X6_cut_X6 hown hK hP 0 rfl rfl 5 (by decide) (hts _ wd_X6_cut_3) (fun _ h9 => h9) rfl dX6_cut_128 ?_
      refine lv_iconst (v := 4) hx hb dX6_cut_131 (by decide) ?_
      refine lv_iload_n hx hb dX6_cut_132 rfl (lv_at hl 4 rfl) ?_
      refine lv_imul hx hb dX6_cut_133 ?_
      refine gw_top (y := nI (4 * b)) (nI_mul 4 b) ?_
      refine lv_iconst (v := 3) hx hb dX6_cut_134 (by decide) ?_
      refine lv_iadd hx hb dX6_cut_135 ?_
      refine gw_top (y := nI ((4 * b) + 3)) (nI_add (4 * b) 3) ?_
      refine lv_dup2_11 hx hb dX6_cut_136 rfl rfl ?_
      refine gw_iald hx hb hK hP 1 0 (k := (4 * b) + 3) rfl rfl (by omega) (by decide) dX6_cut_137 ?_
      refine gw_top (y := Q 4 b) (enR_3 Q b) ?_
      refine lv_iconst (v := 1) hx hb dX6_cut_138 (by decide) ?_
      refine lv_iadd hx hb dX6_cut_139 ?_
      refine gw_iast hx hb hK hP hD hS 1 0 (k := (4 * b) + 3) rfl rfl (by omega) (by decide) dX6_cut_140 (fun H locs hP hD hS => ?_)
      have hP : va_P D vwCl [(mo, .inr (6, [.int th, .int (nI nb), .int (nI nq), .int (nI nr), .ref m4, .ref m5, .ref m6, .ref m7, .ref m8, .ref m9])), (m5, .inl (cI, 20, .inl (upd (enR Q) ((4 * b) + 3) ((Q 4 b) + 1)))), (m6, .inl (cI, 24, .inl (enP Q))), (m7, .inl (cI, 300, .inl (enS (gCutW Q nw k b (gSize (Q 5 k) day))))), (m9, .inl (cI, 3, .inl (enN day co (nw + 1))))] H := hP
      have hD : va_D A [(mo, .inr (6, [.int th, .int (nI nb), .int (nI nq), .int (nI nr), .ref m4, .ref m5, .ref m6, .ref m7, .ref m8, .ref m9])), (m5, .inl (cI, 20, .inl (upd (enR Q) ((4 * b) + 3) ((Q 4 b) + 1)))), (m6, .inl (cI, 24, .inl (enP Q))), (m7, .inl (cI, 300, .inl (enS (gCutW Q nw k b (gSize (Q 5 k) day))))), (m9, .inl (cI, 3, .inl (enN day co (nw + 1))))] := hD
      have hw_22 : upd (enR Q) ((4 * b) + 3) ((Q 4 b) + 1) = enR (pk Q 4 (upd (Q 4) b (Q 4 b + 1))) := (enR_p Q b 3 _ (by decide))
      rw [hw_22] at hP hD
      refine lv_aload_n hx hb dX6_cut_141 rfl (lv_at hl 2 rfl) ?_
      refine va_get (D := D) (ci := 6) (v := .ref m5) (C := RX6) (T := TX6) (N := 10) hx hb hts wc_X6_cut_X6 hown hK hP 0 rfl rfl 5 (by decide) (hts _ wd_X6_cut_3) (fun _ h9 => h9) rfl dX6_cut_142 ?_
      refine lv_iconst (v := 4) hx hb dX6_cut_145 (by decide) ?_
      refine lv_iload_n hx hb dX6_cut_146 rfl (lv_at hl 4 rfl) ?_
      refine lv_imul hx hb dX6_cut_147 ?_
      refine gw_top (y := nI (4 * b)) (nI_mul 4 b) ?_
      refine lv_iconst (v := 2) hx hb dX6_cut_148 (by decide) ?_
      refine lv_iadd hx hb dX6_cut_149 ?_
      refine gw_top (y := nI ((4 * b) + 2)) (nI_add (4 * b) 2) ?_
      refine lv_iconst (v := 0) hx hb dX6_cut_150 (by decide) ?_
      refine lv_aload_n hx hb dX6_cut_151 rfl (lv_at hl 2 rfl) ?_
      refine lv_iload_n hx hb dX6_cut_152 rfl (lv_at hl 4 rfl) ?_
      refine lv_iconst (v := 2) hx hb dX6_cut_153 (by decide) ?_
      refine va_calli (va_runV (As := [.int (nI b), .int 2]) (rest := [.int 0, .int (nI ((4 * b) + 2)), .ref m5]) ⟨hx, hb, hml, hown, hts⟩ (met_X6_ro l D cI cZ cL mo m4 m5 m6 m7 m8 m9 th nb nq nr (enR (pk Q 4 (upd (Q 4) b (Q 4 b + 1)))) b 2 (by first | assumption | omega) (by first | assumption | omega)) (cwV 2 hts gX6_cut_X6_ro rfl rfl rfl (by decide +kernel) ⟨Nat.le_of_ble_eq_true rfl, Nat.le_of_ble_eq_true rfl⟩) (gw_pvr hK hP (wc := [(mo, .inr (6, [.int th, .int (nI nb), .int (nI nq), .int (nI nr), .ref m4, .ref m5, .ref m6, .ref m7, .ref m8, .ref m9])), (m5, .inl (cI, 20, .inl (enR (pk Q 4 (upd (Q 4) b (Q 4 b + 1))))))]) [0, 1] rfl 6 rfl rfl rfl) rfl rfl hl.1 rfl (lv_room (Nat.le_of_ble_eq_true rfl)) dX6_cut_154 ⟨Nat.zero_le _, Nat.zero_le _⟩) hS (fun _ _ z => z.elim) (fun _ z => z.elim) (fun r_24 _ t H1 locs ht hvm hw hB hz1 hk1 hS => ?_)
      have hP := gw_ro hP hk1
      generalize H1 = H at hP hS ⊢
      subst hw
      refine gw_top (y := (pk Q 4 (upd (Q 4) b (Q 4 b + 1))) 3 b) (enR_2 (pk Q 4 (upd (Q 4) b (Q 4 b + 1))) b) ?_
      refine gw_top (y := Q 3 b) rfl ?_
      refine lv_iload_n hx hb dX6_cut_157 rfl (lv_at hl 1 rfl) ?_
      refine lv_isub hx hb dX6_cut_158 ?_
      refine va_mmax (own := RX6) hx hb (by rw [hml]; exact hl.1.symm) hown (hts _ wd_X6_cut_4) (hts _ wd_X6_cut_5) (hts _ wd_X6_cut_6) (hts _ wd_X6_cut_7) (Nat.le_of_ble_eq_true rfl) (Nat.le_of_ble_eq_true rfl) (Nat.zero_le _) (Nat.zero_le _) dX6_cut_159 ?_
      refine gw_iast hx hb hK hP hD hS 1 0 (k := (4 * b) + 2) rfl rfl (by omega) (by decide) dX6_cut_162 (fun H locs hP hD hS => ?_)
      have hP : va_P D vwCl [(mo, .inr (6, [.int th, .int (nI nb), .int (nI nq), .int (nI nr), .ref m4, .ref m5, .ref m6, .ref m7, .ref m8, .ref m9])), (m5, .inl (cI, 20, .inl (upd (enR (pk Q 4 (upd (Q 4) b (Q 4 b + 1)))) ((4 * b) + 2) (if 0 < ((Q 3 b) - (gSize (Q 5 k) day)) then ((Q 3 b) - (gSize (Q 5 k) day)) else 0)))), (m6, .inl (cI, 24, .inl (enP Q))), (m7, .inl (cI, 300, .inl (enS (gCutW Q nw k b (gSize (Q 5 k) day))))), (m9, .inl (cI, 3, .inl (enN day co (nw + 1))))] H := hP
      have hD : va_D A [(mo, .inr (6, [.int th, .int (nI nb), .int (nI nq), .int (nI nr), .ref m4, .ref m5, .ref m6, .ref m7, .ref m8, .ref m9])), (m5, .inl (cI, 20, .inl (upd (enR (pk Q 4 (upd (Q 4) b (Q 4 b + 1)))) ((4 * b) + 2) (if 0 < ((Q 3 b) - (gSize (Q 5 k) day)) then ((Q 3 b) - (gSize (Q 5 k) day)) else 0)))), (m6, .inl (cI, 24, .inl (enP Q))), (m7, .inl (cI, 300, .inl (enS (gCutW Q nw k b (gSize (Q 5 k) day))))), (m9, .inl (cI, 3, .inl (enN day co (nw + 1))))] := hD
      have hw_25 : upd (enR (pk Q 4 (upd (Q 4) b (Q 4 b + 1)))) ((4 * b) + 2) (if 0 < ((Q 3 b) - (gSize (Q 5 k) day)) then ((Q 3 b) - (gSize (Q 5 k) day)) else 0) = enR (gCutW Q nw k b (gSize (Q 5 k) day)) := ((enR_p _ b 2 _ (by decide)).trans (enR_ext rfl rfl rfl rfl))
      rw [hw_25] at hP hD
      refine lv_aload_n hx hb dX6_cut_163 rfl (lv_at hl 2 rfl) ?_
      refine lv_iload_n hx hb dX6_cut_164 rfl (lv_at hl 3 rfl) ?_
      refine lv_iconst (v := 3) hx hb dX6_cut_165 (by decide) ?_
      refine lv_aload_n hx hb dX6_cut_166 rfl (lv_at hl 2 rfl) ?_
      refine lv_iload_n hx hb dX6_cut_167 rfl (lv_at hl 3 rfl) ?_
      refine lv_iconst (v := 3) hx hb dX6_cut_168 (by decide) ?_
      refine va_calli (va_runV (As := [.int (nI k), .int 3]) (rest := [.int 3, .int (nI k), .ref mo]) ⟨hx, hb, hml, hown, hts⟩ (met_X6_pe l D cI cZ cL mo m4 m5 m6 m7 m8 m9 th nb nq nr (enP Q) k 3 (by first | assumption | omega) (by first | assumption | omega)) (cwV 2 hts gX6_cut_X6_pe rfl rfl rfl (by decide +kernel) ⟨Nat.le_of_ble_eq_true rfl, Nat.le_of_ble_eq_true rfl⟩) (gw_pvr hK hP (wc := [(mo, .inr (6, [.int th, .int (nI nb), .int (nI nq), .int (nI nr), .ref m4, .ref m5, .ref m6, .ref m7, .ref m8, .ref m9])), (m6, .inl (cI, 24, .inl (enP Q)))]) [0, 2] rfl 6 rfl rfl rfl) rfl rfl hl.1 rfl (lv_room (Nat.le_of_ble_eq_true rfl)) dX6_cut_169 ⟨Nat.zero_le _, Nat.zero_le _⟩) hS (fun _ _ z => z.elim) (fun _ z => z.elim) (fun r_27 _ t H1 locs ht hvm hw hB hz1 hk1 hS => ?_)
      have hP := gw_ro hP hk1
      generalize H1 = H at hP hS ⊢
      subst hw
      refine gw_top (y := Q 8 k) (enP_3 Q k) ?_
      refine lv_bipush (v := 10) hx hb dX6_cut_172 (by decide) ?_
      refine lv_isub hx hb dX6_cut_174 ?_
      have hFc := gw_free (wc := [(mo, .inr (6, [.int th, .int (nI nb), .int (nI nq), .int (nI nr), .ref m4, .ref m5, .ref m6, .ref m7, .ref m8, .ref m9])), (m6, .inl (cI, 24, .inl (enP Q)))]) hD [0, 2] rfl
      refine va_callv (va_runV (As := [.int (nI k), .int 3, .int ((Q 8 k) - 10)]) (rest := []) ⟨hx, hb, hml, hown, hts⟩ (met_X6_put l D cI cZ cL mo m4 m5 m6 m7 m8 m9 th nb nq nr (enP Q) k 3 ((Q 8 k) - 10) (by first | assumption | omega) (by first | assumption | omega)) (cwV 3 hts gX6_cut_X6_put rfl rfl rfl (by decide +kernel) ⟨Nat.le_of_ble_eq_true rfl, Nat.le_of_ble_eq_true rfl⟩) (gw_pvw hK hP hD (wc := [(mo, .inr (6, [.int th, .int (nI nb), .int (nI nq), .int (nI nr), .ref m4, .ref m5, .ref m6, .ref m7, .ref m8, .ref m9])), (m6, .inl (cI, 24, .inl (enP Q)))]) [0, 2] (by decide) rfl rfl 6 rfl rfl rfl) rfl rfl hl.1 rfl (lv_room (Nat.le_of_ble_eq_true rfl)) dX6_cut_175 ⟨Nat.zero_le _, Nat.zero_le _⟩) hS (fun q _ h => hFc q h) hFc (fun _ t H1 locs ht hvm hw hB hz1 hk1 hS => ?_)
      rw [ht] at hB
      obtain ⟨hP, hD⟩ := gw_upd (wc := [(mo, .inr (6, [.int th, .int (nI nb), .int (nI nq), .int (nI nr), .ref m4, .ref m5, .ref m6, .ref m7, .ref m8, .ref m9])), (m6, .inl (cI, 24, .inl (enP Q)))]) (w1 := [(mo, .inr (6, [.int th, .int (nI nb), .int (nI nq), .int (nI nr), .ref m4, .ref m5, .ref m6, .ref m7, .ref m8, .ref m9])), (m6, .inl (cI, 24, .inl (upd (enP Q) (4 * k + 3) ((Q 8 k) - 10))))]) (ws' := [(mo, .inr (6, [.int th, .int (nI nb), .int (nI nq), .int (nI nr), .ref m4, .ref m5, .ref m6, .ref m7, .ref m8, .ref m9])), (m5, .inl (cI, 20, .inl (enR (gCutW Q nw k b (gSize (Q 5 k) day))))), (m6, .inl (cI, 24, .inl (upd (enP Q) (4 * k + 3) ((Q 8 k) - 10)))), (m7, .inl (cI, 300, .inl (enS (gCutW Q nw k b (gSize (Q 5 k) day))))), (m9, .inl (cI, 3, .inl (enN day co (nw + 1))))]) hP hD [0, 2] rfl rfl hk1 hB rfl
      generalize H1 = H at hP hS ⊢
      have hw_30 : upd (enP Q) (4 * k + 3) ((Q 8 k) - 10) = enP (gCutW Q nw k b (gSize (Q 5 k) day)) := ((enP_p Q k 3 _ (by decide)).trans (enP_ext rfl rfl rfl rfl))
      rw [hw_30] at hP hD
      subst hAe
      exact W.vret hx hb hr (fun t ht hW => ⟨⟨(), rfl, trivial, gw_hh ht hP⟩, hS.F ht⟩) hS.2.2 dX6_cut_178
  · skip
    refine lv_iconst (v := 1) hx hb dX6_cut_21 (by decide) ?_
    refine lv_goto (tgt := 26) hx hb dX6_cut_22 (by decide) ?_
    refine lv_iadd hx hb dX6_cut_26 ?_
    refine gw_top (y := gSize (Q 5 k) day) (by simp [gSize, h1]) ?_
    refine lv_istore_n (lv' := [(3, .int (gSize (Q 5 k) day)), (0, .ref mo), (1, .int (nI k)), (2, .int (nI b))]) hx hb dX6_cut_27 rfl hl (by decide) rfl (fun ls hl => ?_)
    refine lv_iconst (v := 5) hx hb dX6_cut_28 (by decide) ?_
    refine lv_aload_n hx hb dX6_cut_29 rfl (lv_at hl 1 rfl) ?_
    refine va_get (D := D) (ci := 6) (v := .ref m9) (C := RX6) (T := TX6) (N := 10) hx hb hts wc_X6_cut_X6 hown hK hP 0 rfl rfl 9 (by decide) (hts _ wd_X6_cut_1) (fun _ h9 => h9) rfl dX6_cut_30 ?_
    refine lv_iconst (v := 2) hx hb dX6_cut_33 (by decide) ?_
    refine gw_top (y := nI 2) rfl ?_
    refine gw_iald hx hb hK hP 4 0 (k := 2) rfl rfl (by omega) (by decide) dX6_cut_34 ?_
    refine gw_top (y := nI nw) rfl ?_
    refine lv_imul hx hb dX6_cut_35 ?_
    refine gw_top (y := nI (5 * nw)) (nI_mul 5 nw) ?_
    refine lv_istore (lv' := [(4, .int (nI (5 * nw))), (3, .int (gSize (Q 5 k) day)), (0, .ref mo), (1, .int (nI k)), (2, .int (nI b))]) hx hb dX6_cut_36 hl (by decide) rfl (fun ls hl => ?_)
    refine lv_aload_n hx hb dX6_cut_38 rfl (lv_at hl 2 rfl) ?_
    refine va_get (D := D) (ci := 6) (v := .ref m7) (C := RX6) (T := TX6) (N := 10) hx hb hts wc_X6_cut_X6 hown hK hP 0 rfl rfl 7 (by decide) (hts _ wd_X6_cut_2) (fun _ h9 => h9) rfl dX6_cut_39 ?_
    refine lv_iload hx hb dX6_cut_42 (lv_at hl 0 rfl) ?_
    refine lv_iconst (v := 0) hx hb dX6_cut_44 (by decide) ?_
    refine lv_iadd hx hb dX6_cut_45 ?_
    refine gw_top (y := nI ((5 * nw) + 0)) (nI_add (5 * nw) 0) ?_
    refine lv_iload_n hx hb dX6_cut_46 rfl (lv_at hl 4 rfl) ?_
    refine gw_iast hx hb hK hP hD hS 3 0 (k := (5 * nw) + 0) rfl rfl (by omega) (by decide) dX6_cut_47 (fun H locs hP hD hS => ?_)
    have hP : va_P D vwCl [(mo, .inr (6, [.int th, .int (nI nb), .int (nI nq), .int (nI nr), .ref m4, .ref m5, .ref m6, .ref m7, .ref m8, .ref m9])), (m5, .inl (cI, 20, .inl (enR Q))), (m6, .inl (cI, 24, .inl (enP Q))), (m7, .inl (cI, 300, .inl (upd (enS Q) ((5 * nw) + 0) (nI b)))), (m9, .inl (cI, 3, .inl (enN day co nw)))] H := hP
    have hD : va_D A [(mo, .inr (6, [.int th, .int (nI nb), .int (nI nq), .int (nI nr), .ref m4, .ref m5, .ref m6, .ref m7, .ref m8, .ref m9])), (m5, .inl (cI, 20, .inl (enR Q))), (m6, .inl (cI, 24, .inl (enP Q))), (m7, .inl (cI, 300, .inl (upd (enS Q) ((5 * nw) + 0) (nI b)))), (m9, .inl (cI, 3, .inl (enN day co nw)))] := hD
    refine lv_aload_n hx hb dX6_cut_48 rfl (lv_at hl 2 rfl) ?_
    refine va_get (D := D) (ci := 6) (v := .ref m7) (C := RX6) (T := TX6) (N := 10) hx hb hts wc_X6_cut_X6 hown hK hP 0 rfl rfl 7 (by decide) (hts _ wd_X6_cut_2) (fun _ h9 => h9) rfl dX6_cut_49 ?_
    refine lv_iload hx hb dX6_cut_52 (lv_at hl 0 rfl) ?_
    refine lv_iconst (v := 1) hx hb dX6_cut_54 (by decide) ?_
    refine lv_iadd hx hb dX6_cut_55 ?_
    refine gw_top (y := nI ((5 * nw) + 1)) (nI_add (5 * nw) 1) ?_
    refine lv_iload_n hx hb dX6_cut_56 rfl (lv_at hl 1 rfl) ?_
    refine gw_iast hx hb hK hP hD hS 3 0 (k := (5 * nw) + 1) rfl rfl (by omega) (by decide) dX6_cut_57 (fun H locs hP hD hS => ?_)
    have hP : va_P D vwCl [(mo, .inr (6, [.int th, .int (nI nb), .int (nI nq), .int (nI nr), .ref m4, .ref m5, .ref m6, .ref m7, .ref m8, .ref m9])), (m5, .inl (cI, 20, .inl (enR Q))), (m6, .inl (cI, 24, .inl (enP Q))), (m7, .inl (cI, 300, .inl (upd (upd (enS Q) ((5 * nw) + 0) (nI b)) ((5 * nw) + 1) (gSize (Q 5 k) day)))), (m9, .inl (cI, 3, .inl (enN day co nw)))] H := hP
    have hD : va_D A [(mo, .inr (6, [.int th, .int (nI nb), .int (nI nq), .int (nI nr), .ref m4, .ref m5, .ref m6, .ref m7, .ref m8, .ref m9])), (m5, .inl (cI, 20, .inl (enR Q))), (m6, .inl (cI, 24, .inl (enP Q))), (m7, .inl (cI, 300, .inl (upd (upd (enS Q) ((5 * nw) + 0) (nI b)) ((5 * nw) + 1) (gSize (Q 5 k) day)))), (m9, .inl (cI, 3, .inl (enN day co nw)))] := hD
    refine lv_aload_n hx hb dX6_cut_58 rfl (lv_at hl 2 rfl) ?_
    refine va_get (D := D) (ci := 6) (v := .ref m7) (C := RX6) (T := TX6) (N := 10) hx hb hts wc_X6_cut_X6 hown hK hP 0 rfl rfl 7 (by decide) (hts _ wd_X6_cut_2) (fun _ h9 => h9) rfl dX6_cut_59 ?_
    refine lv_iload hx hb dX6_cut_62 (lv_at hl 0 rfl) ?_
    refine lv_iconst (v := 2) hx hb dX6_cut_64 (by decide) ?_
    refine lv_iadd hx hb dX6_cut_65 ?_
    refine gw_top (y := nI ((5 * nw) + 2)) (nI_add (5 * nw) 2) ?_
    refine lv_iconst (v := 0) hx hb dX6_cut_66 (by decide) ?_
    refine gw_iast hx hb hK hP hD hS 3 0 (k := (5 * nw) + 2) rfl rfl (by omega) (by decide) dX6_cut_67 (fun H locs hP hD hS => ?_)
    have hP : va_P D vwCl [(mo, .inr (6, [.int th, .int (nI nb), .int (nI nq), .int (nI nr), .ref m4, .ref m5, .ref m6, .ref m7, .ref m8, .ref m9])), (m5, .inl (cI, 20, .inl (enR Q))), (m6, .inl (cI, 24, .inl (enP Q))), (m7, .inl (cI, 300, .inl (upd (upd (upd (enS Q) ((5 * nw) + 0) (nI b)) ((5 * nw) + 1) (gSize (Q 5 k) day)) ((5 * nw) + 2) 0))), (m9, .inl (cI, 3, .inl (enN day co nw)))] H := hP
    have hD : va_D A [(mo, .inr (6, [.int th, .int (nI nb), .int (nI nq), .int (nI nr), .ref m4, .ref m5, .ref m6, .ref m7, .ref m8, .ref m9])), (m5, .inl (cI, 20, .inl (enR Q))), (m6, .inl (cI, 24, .inl (enP Q))), (m7, .inl (cI, 300, .inl (upd (upd (upd (enS Q) ((5 * nw) + 0) (nI b)) ((5 * nw) + 1) (gSize (Q 5 k) day)) ((5 * nw) + 2) 0))), (m9, .inl (cI, 3, .inl (enN day co nw)))] := hD
    refine lv_aload_n hx hb dX6_cut_68 rfl (lv_at hl 2 rfl) ?_
    refine va_get (D := D) (ci := 6) (v := .ref m7) (C := RX6) (T := TX6) (N := 10) hx hb hts wc_X6_cut_X6 hown hK hP 0 rfl rfl 7 (by decide) (hts _ wd_X6_cut_2) (fun _ h9 => h9) rfl dX6_cut_69 ?_
    refine lv_iload hx hb dX6_cut_72 (lv_at hl 0 rfl) ?_
    refine lv_iconst (v := 3) hx hb dX6_cut_74 (by decide) ?_
    refine lv_iadd hx hb dX6_cut_75 ?_
    refine gw_top (y := nI ((5 * nw) + 3)) (nI_add (5 * nw) 3) ?_
    refine lv_iconst (v := (-1)) hx hb dX6_cut_76 (by decide) ?_
    refine gw_iast hx hb hK hP hD hS 3 0 (k := (5 * nw) + 3) rfl rfl (by omega) (by decide) dX6_cut_77 (fun H locs hP hD hS => ?_)
    have hP : va_P D vwCl [(mo, .inr (6, [.int th, .int (nI nb), .int (nI nq), .int (nI nr), .ref m4, .ref m5, .ref m6, .ref m7, .ref m8, .ref m9])), (m5, .inl (cI, 20, .inl (enR Q))), (m6, .inl (cI, 24, .inl (enP Q))), (m7, .inl (cI, 300, .inl (upd (upd (upd (upd (enS Q) ((5 * nw) + 0) (nI b)) ((5 * nw) + 1) (gSize (Q 5 k) day)) ((5 * nw) + 2) 0) ((5 * nw) + 3) (-1)))), (m9, .inl (cI, 3, .inl (enN day co nw)))] H := hP
    have hD : va_D A [(mo, .inr (6, [.int th, .int (nI nb), .int (nI nq), .int (nI nr), .ref m4, .ref m5, .ref m6, .ref m7, .ref m8, .ref m9])), (m5, .inl (cI, 20, .inl (enR Q))), (m6, .inl (cI, 24, .inl (enP Q))), (m7, .inl (cI, 300, .inl (upd (upd (upd (upd (enS Q) ((5 * nw) + 0) (nI b)) ((5 * nw) + 1) (gSize (Q 5 k) day)) ((5 * nw) + 2) 0) ((5 * nw) + 3) (-1)))), (m9, .inl (cI, 3, .inl (enN day co nw)))] := hD
    refine lv_aload_n hx hb dX6_cut_78 rfl (lv_at hl 2 rfl) ?_
    refine va_get (D := D) (ci := 6) (v := .ref m7) (C := RX6) (T := TX6) (N := 10) hx hb hts wc_X6_cut_X6 hown hK hP 0 rfl rfl 7 (by decide) (hts _ wd_X6_cut_2) (fun _ h9 => h9) rfl dX6_cut_79 ?_
    refine lv_iload hx hb dX6_cut_82 (lv_at hl 0 rfl) ?_
    refine lv_iconst (v := 4) hx hb dX6_cut_84 (by decide) ?_
    refine lv_iadd hx hb dX6_cut_85 ?_
    refine gw_top (y := nI ((5 * nw) + 4)) (nI_add (5 * nw) 4) ?_
    refine lv_bipush (v := 7) hx hb dX6_cut_86 (by decide) ?_
    refine lv_aload_n hx hb dX6_cut_88 rfl (lv_at hl 2 rfl) ?_
    refine lv_iload_n hx hb dX6_cut_89 rfl (lv_at hl 4 rfl) ?_
    refine lv_iconst (v := 3) hx hb dX6_cut_90 (by decide) ?_
    refine va_calli (va_runV (As := [.int (nI b), .int 3]) (rest := [.int 7, .int (nI ((5 * nw) + 4)), .ref m7]) ⟨hx, hb, hml, hown, hts⟩ (met_X6_ro l D cI cZ cL mo m4 m5 m6 m7 m8 m9 th nb nq nr (enR Q) b 3 (by first | assumption | omega) (by first | assumption | omega)) (cwV 2 hts gX6_cut_X6_ro rfl rfl rfl (by decide +kernel) ⟨Nat.le_of_ble_eq_true rfl, Nat.le_of_ble_eq_true rfl⟩) (gw_pvr hK hP (wc := [(mo, .inr (6, [.int th, .int (nI nb), .int (nI nq), .int (nI nr), .ref m4, .ref m5, .ref m6, .ref m7, .ref m8, .ref m9])), (m5, .inl (cI, 20, .inl (enR Q)))]) [0, 1] rfl 6 rfl rfl rfl) rfl rfl hl.1 rfl (lv_room (Nat.le_of_ble_eq_true rfl)) dX6_cut_91 ⟨Nat.zero_le _, Nat.zero_le _⟩) hS (fun _ _ z => z.elim) (fun _ z => z.elim) (fun r_32 _ t H1 locs ht hvm hw hB hz1 hk1 hS => ?_)
    have hP := gw_ro hP hk1
    generalize H1 = H at hP hS ⊢
    subst hw
    refine gw_top (y := Q 4 b) (enR_3 Q b) ?_
    refine lv_imul hx hb dX6_cut_94 ?_
    refine lv_iconst (v := 3) hx hb dX6_cut_95 (by decide) ?_
    refine lv_iload_n hx hb dX6_cut_96 rfl (lv_at hl 1 rfl) ?_
    refine lv_imul hx hb dX6_cut_97 ?_
    refine lv_iadd hx hb dX6_cut_98 ?_
    refine lv_bipush (v := 10) hx hb dX6_cut_99 (by decide) ?_
    refine lv_irem hx hb dX6_cut_101 (by decide) ?_
    refine lv_aload_n hx hb dX6_cut_102 rfl (lv_at hl 2 rfl) ?_
    refine lv_iload_n hx hb dX6_cut_103 rfl (lv_at hl 4 rfl) ?_
    refine lv_iconst (v := 1) hx hb dX6_cut_104 (by decide) ?_
    refine va_calli (va_runV (As := [.int (nI b), .int 1]) (rest := [.int (((7 * (Q 4 b)) + (3 * (gSize (Q 5 k) day))) - ((7 * (Q 4 b)) + (3 * (gSize (Q 5 k) day))) / 10 * 10), .int (nI ((5 * nw) + 4)), .ref m7]) ⟨hx, hb, hml, hown, hts⟩ (met_X6_ro l D cI cZ cL mo m4 m5 m6 m7 m8 m9 th nb nq nr (enR Q) b 1 (by first | assumption | omega) (by first | assumption | omega)) (cwV 2 hts gX6_cut_X6_ro rfl rfl rfl (by decide +kernel) ⟨Nat.le_of_ble_eq_true rfl, Nat.le_of_ble_eq_true rfl⟩) (gw_pvr hK hP (wc := [(mo, .inr (6, [.int th, .int (nI nb), .int (nI nq), .int (nI nr), .ref m4, .ref m5, .ref m6, .ref m7, .ref m8, .ref m9])), (m5, .inl (cI, 20, .inl (enR Q)))]) [0, 1] rfl 6 rfl rfl rfl) rfl rfl hl.1 rfl (lv_room (Nat.le_of_ble_eq_true rfl)) dX6_cut_105 ⟨Nat.zero_le _, Nat.zero_le _⟩) hS (fun _ _ z => z.elim) (fun _ z => z.elim) (fun r_34 _ t H1 locs ht hvm hw hB hz1 hk1 hS => ?_)
    have hP := gw_ro hP hk1
    generalize H1 = H at hP hS ⊢
    subst hw
    refine gw_top (y := Q 2 b) (enR_1 Q b) ?_
    refine lv_icmp_ge (tgt := 115) hx hb dX6_cut_108 (by decide) (fun h2 => ?_) (fun h2 => ?_)
    · skip
      have hcr : gCr Q b (gSize (Q 5 k) day) = 0 := by unfold gCr; exact if_neg (Int32.not_lt.mpr h2)
      refine lv_iconst (v := 0) hx hb dX6_cut_115 (by decide) ?_
      refine gw_iast hx hb hK hP hD hS 3 0 (k := (5 * nw) + 4) rfl rfl (by omega) (by decide) dX6_cut_116 (fun H locs hP hD hS => ?_)
      have hP : va_P D vwCl [(mo, .inr (6, [.int th, .int (nI nb), .int (nI nq), .int (nI nr), .ref m4, .ref m5, .ref m6, .ref m7, .ref m8, .ref m9])), (m5, .inl (cI, 20, .inl (enR Q))), (m6, .inl (cI, 24, .inl (enP Q))), (m7, .inl (cI, 300, .inl (upd (upd (upd (upd (upd (enS Q) ((5 * nw) + 0) (nI b)) ((5 * nw) + 1) (gSize (Q 5 k) day)) ((5 * nw) + 2) 0) ((5 * nw) + 3) (-1)) ((5 * nw) + 4) 0))), (m9, .inl (cI, 3, .inl (enN day co nw)))] H := hP
      have hD : va_D A [(mo, .inr (6, [.int th, .int (nI nb), .int (nI nq), .int (nI nr), .ref m4, .ref m5, .ref m6, .ref m7, .ref m8, .ref m9])), (m5, .inl (cI, 20, .inl (enR Q))), (m6, .inl (cI, 24, .inl (enP Q))), (m7, .inl (cI, 300, .inl (upd (upd (upd (upd (upd (enS Q) ((5 * nw) + 0) (nI b)) ((5 * nw) + 1) (gSize (Q 5 k) day)) ((5 * nw) + 2) 0) ((5 * nw) + 3) (-1)) ((5 * nw) + 4) 0))), (m9, .inl (cI, 3, .inl (enN day co nw)))] := hD
      have hw_36 : upd (upd (upd (upd (upd (enS Q) ((5 * nw) + 0) (nI b)) ((5 * nw) + 1) (gSize (Q 5 k) day)) ((5 * nw) + 2) 0) ((5 * nw) + 3) (-1)) ((5 * nw) + 4) 0 = enS (gCutW Q nw k b (gSize (Q 5 k) day)) := (enS_cut (k := k) hcr)
      rw [hw_36] at hP hD
      refine lv_aload_n hx hb dX6_cut_117 rfl (lv_at hl 2 rfl) ?_
      refine va_get (D := D) (ci := 6) (v := .ref m9) (C := RX6) (T := TX6) (N := 10) hx hb hts wc_X6_cut_X6 hown hK hP 0 rfl rfl 9 (by decide) (hts _ wd_X6_cut_1) (fun _ h9 => h9) rfl dX6_cut_118 ?_
      refine lv_iconst (v := 2) hx hb dX6_cut_121 (by decide) ?_
      refine lv_dup2_11 hx hb dX6_cut_122 rfl rfl ?_
      refine gw_top (y := nI 2) rfl ?_
      refine gw_iald hx hb hK hP 4 0 (k := 2) rfl rfl (by omega) (by decide) dX6_cut_123 ?_
      refine gw_top (y := nI nw) rfl ?_
      refine lv_iconst (v := 1) hx hb dX6_cut_124 (by decide) ?_
      refine lv_iadd hx hb dX6_cut_125 ?_
      refine gw_top (y := nI (nw + 1)) (nI_add nw 1) ?_
      refine gw_top2 (y := nI 2) rfl ?_
      refine gw_iast hx hb hK hP hD hS 4 0 (k := 2) rfl rfl (by omega) (by decide) dX6_cut_126 (fun H locs hP hD hS => ?_)
      have hP : va_P D vwCl [(mo, .inr (6, [.int th, .int (nI nb), .int (nI nq), .int (nI nr), .ref m4, .ref m5, .ref m6, .ref m7, .ref m8, .ref m9])), (m5, .inl (cI, 20, .inl (enR Q))), (m6, .inl (cI, 24, .inl (enP Q))), (m7, .inl (cI, 300, .inl (enS (gCutW Q nw k b (gSize (Q 5 k) day))))), (m9, .inl (cI, 3, .inl (upd (enN day co nw) 2 (nI (nw + 1)))))] H := hP
      have hD : va_D A [(mo, .inr (6, [.int th, .int (nI nb), .int (nI nq), .int (nI nr), .ref m4, .ref m5, .ref m6, .ref m7, .ref m8, .ref m9])), (m5, .inl (cI, 20, .inl (enR Q))), (m6, .inl (cI, 24, .inl (enP Q))), (m7, .inl (cI, 300, .inl (enS (gCutW Q nw k b (gSize (Q 5 k) day))))), (m9, .inl (cI, 3, .inl (upd (enN day co nw) 2 (nI (nw + 1)))))] := hD
      have hw_37 : upd (enN day co nw) 2 (nI (nw + 1)) = enN day co (nw + 1) := (enN_2 _ _ _ _)
      rw [hw_37] at hP hD
      refine lv_aload_n hx hb dX6_cut_127 rfl (lv_at hl 2 rfl) ?_
      refine va_get (D := D) (ci := 6) (v := .ref m5) (C := RX6) (T := TX6) (N := 10) hx hb hts wc_X6_cut_X6 hown hK hP 0 rfl rfl 5 (by decide) (hts _ wd_X6_cut_3) (fun _ h9 => h9) rfl dX6_cut_128 ?_
      refine lv_iconst (v := 4) hx hb dX6_cut_131 (by decide) ?_
      refine lv_iload_n hx hb dX6_cut_132 rfl (lv_at hl 4 rfl) ?_
      refine lv_imul hx hb dX6_cut_133 ?_
      refine gw_top (y := nI (4 * b)) (nI_mul 4 b) ?_
      refine lv_iconst (v := 3) hx hb dX6_cut_134 (by decide) ?_
      refine lv_iadd hx hb dX6_cut_135 ?_
      refine gw_top (y := nI ((4 * b) + 3)) (nI_add (4 * b) 3) ?_
      refine lv_dup2_11 hx hb dX6_cut_136 rfl rfl ?_
      refine gw_iald hx hb hK hP 1 0 (k := (4 * b) + 3) rfl rfl (by omega) (by decide) dX6_cut_137 ?_
      refine gw_top (y := Q 4 b) (enR_3 Q b) ?_
      refine lv_iconst (v := 1) hx hb dX6_cut_138 (by decide) ?_
      refine lv_iadd hx hb dX6_cut_139 ?_
      refine gw_iast hx hb hK hP hD hS 1 0 (k := (4 * b) + 3) rfl rfl (by omega) (by decide) dX6_cut_140 (fun H locs hP hD hS => ?_)
      have hP : va_P D vwCl [(mo, .inr (6, [.int th, .int (nI nb), .int (nI nq), .int (nI nr), .ref m4, .ref m5, .ref m6, .ref m7, .ref m8, .ref m9])), (m5, .inl (cI, 20, .inl (upd (enR Q) ((4 * b) + 3) ((Q 4 b) + 1)))), (m6, .inl (cI, 24, .inl (enP Q))), (m7, .inl (cI, 300, .inl (enS (gCutW Q nw k b (gSize (Q 5 k) day))))), (m9, .inl (cI, 3, .inl (enN day co (nw + 1))))] H := hP
      have hD : va_D A [(mo, .inr (6, [.int th, .int (nI nb), .int (nI nq), .int (nI nr), .ref m4, .ref m5, .ref m6, .ref m7, .ref m8, .ref m9])), (m5, .inl (cI, 20, .inl (upd (enR Q) ((4 * b) + 3) ((Q 4 b) + 1)))), (m6, .inl (cI, 24, .inl (enP Q))), (m7, .inl (cI, 300, .inl (enS (gCutW Q nw k b (gSize (Q 5 k) day))))), (m9, .inl (cI, 3, .inl (enN day co (nw + 1))))] := hD
      have hw_38 : upd (enR Q) ((4 * b) + 3) ((Q 4 b) + 1) = enR (pk Q 4 (upd (Q 4) b (Q 4 b + 1))) := (enR_p Q b 3 _ (by decide))
      rw [hw_38] at hP hD
      refine lv_aload_n hx hb dX6_cut_141 rfl (lv_at hl 2 rfl) ?_
      refine va_get (D := D) (ci := 6) (v := .ref m5) (C := RX6) (T := TX6) (N := 10) hx hb hts wc_X6_cut_X6 hown hK hP 0 rfl rfl 5 (by decide) (hts _ wd_X6_cut_3) (fun _ h9 => h9) rfl dX6_cut_142 ?_
      refine lv_iconst (v := 4) hx hb dX6_cut_145 (by decide) ?_
      refine lv_iload_n hx hb dX6_cut_146 rfl (lv_at hl 4 rfl) ?_
      refine lv_imul hx hb dX6_cut_147 ?_
      refine gw_top (y := nI (4 * b)) (nI_mul 4 b) ?_
      refine lv_iconst (v := 2) hx hb dX6_cut_148 (by decide) ?_
      refine lv_iadd hx hb dX6_cut_149 ?_
      refine gw_top (y := nI ((4 * b) + 2)) (nI_add (4 * b) 2) ?_
      refine lv_iconst (v := 0) hx hb dX6_cut_150 (by decide) ?_
      refine lv_aload_n hx hb dX6_cut_151 rfl (lv_at hl 2 rfl) ?_
      refine lv_iload_n hx hb dX6_cut_152 rfl (lv_at hl 4 rfl) ?_
      refine lv_iconst (v := 2) hx hb dX6_cut_153 (by decide) ?_
      refine va_calli (va_runV (As := [.int (nI b), .int 2]) (rest := [.int 0, .int (nI ((4 * b) + 2)), .ref m5]) ⟨hx, hb, hml, hown, hts⟩ (met_X6_ro l D cI cZ cL mo m4 m5 m6 m7 m8 m9 th nb nq nr (enR (pk Q 4 (upd (Q 4) b (Q 4 b + 1)))) b 2 (by first | assumption | omega) (by first | assumption | omega)) (cwV 2 hts gX6_cut_X6_ro rfl rfl rfl (by decide +kernel) ⟨Nat.le_of_ble_eq_true rfl, Nat.le_of_ble_eq_true rfl⟩) (gw_pvr hK hP (wc := [(mo, .inr (6, [.int th, .int (nI nb), .int (nI nq), .int (nI nr), .ref m4, .ref m5, .ref m6, .ref m7, .ref m8, .ref m9])), (m5, .inl (cI, 20, .inl (enR (pk Q 4 (upd (Q 4) b (Q 4 b + 1))))))]) [0, 1] rfl 6 rfl rfl rfl) rfl rfl hl.1 rfl (lv_room (Nat.le_of_ble_eq_true rfl)) dX6_cut_154 ⟨Nat.zero_le _, Nat.zero_le _⟩) hS (fun _ _ z => z.elim) (fun _ z => z.elim) (fun r_40 _ t H1 locs ht hvm hw hB hz1 hk1 hS => ?_)
      have hP := gw_ro hP hk1
      generalize H1 = H at hP hS ⊢
      subst hw
      refine gw_top (y := (pk Q 4 (upd (Q 4) b (Q 4 b + 1))) 3 b) (enR_2 (pk Q 4 (upd (Q 4) b (Q 4 b + 1))) b) ?_
      refine gw_top (y := Q 3 b) rfl ?_
      refine lv_iload_n hx hb dX6_cut_157 rfl (lv_at hl 1 rfl) ?_
      refine lv_isub hx hb dX6_cut_158 ?_
      refine va_mmax (own := RX6) hx hb (by rw [hml]; exact hl.1.symm) hown (hts _ wd_X6_cut_4) (hts _ wd_X6_cut_5) (hts _ wd_X6_cut_6) (hts _ wd_X6_cut_7) (Nat.le_of_ble_eq_true rfl) (Nat.le_of_ble_eq_true rfl) (Nat.zero_le _) (Nat.zero_le _) dX6_cut_159 ?_
      refine gw_iast hx hb hK hP hD hS 1 0 (k := (4 * b) + 2) rfl rfl (by omega) (by decide) dX6_cut_162 (fun H locs hP hD hS => ?_)
      have hP : va_P D vwCl [(mo, .inr (6, [.int th, .int (nI nb), .int (nI nq), .int (nI nr), .ref m4, .ref m5, .ref m6, .ref m7, .ref m8, .ref m9])), (m5, .inl (cI, 20, .inl (upd (enR (pk Q 4 (upd (Q 4) b (Q 4 b + 1)))) ((4 * b) + 2) (if 0 < ((Q 3 b) - (gSize (Q 5 k) day)) then ((Q 3 b) - (gSize (Q 5 k) day)) else 0)))), (m6, .inl (cI, 24, .inl (enP Q))), (m7, .inl (cI, 300, .inl (enS (gCutW Q nw k b (gSize (Q 5 k) day))))), (m9, .inl (cI, 3, .inl (enN day co (nw + 1))))] H := hP
      have hD : va_D A [(mo, .inr (6, [.int th, .int (nI nb), .int (nI nq), .int (nI nr), .ref m4, .ref m5, .ref m6, .ref m7, .ref m8, .ref m9])), (m5, .inl (cI, 20, .inl (upd (enR (pk Q 4 (upd (Q 4) b (Q 4 b + 1)))) ((4 * b) + 2) (if 0 < ((Q 3 b) - (gSize (Q 5 k) day)) then ((Q 3 b) - (gSize (Q 5 k) day)) else 0)))), (m6, .inl (cI, 24, .inl (enP Q))), (m7, .inl (cI, 300, .inl (enS (gCutW Q nw k b (gSize (Q 5 k) day))))), (m9, .inl (cI, 3, .inl (enN day co (nw + 1))))] := hD
      have hw_41 : upd (enR (pk Q 4 (upd (Q 4) b (Q 4 b + 1)))) ((4 * b) + 2) (if 0 < ((Q 3 b) - (gSize (Q 5 k) day)) then ((Q 3 b) - (gSize (Q 5 k) day)) else 0) = enR (gCutW Q nw k b (gSize (Q 5 k) day)) := ((enR_p _ b 2 _ (by decide)).trans (enR_ext rfl rfl rfl rfl))
      rw [hw_41] at hP hD
      refine lv_aload_n hx hb dX6_cut_163 rfl (lv_at hl 2 rfl) ?_
      refine lv_iload_n hx hb dX6_cut_164 rfl (lv_at hl 3 rfl) ?_
      refine lv_iconst (v := 3) hx hb dX6_cut_165 (by decide) ?_
      refine lv_aload_n hx hb dX6_cut_166 rfl (lv_at hl 2 rfl) ?_
      refine lv_iload_n hx hb dX6_cut_167 rfl (lv_at hl 3 rfl) ?_
      refine lv_iconst (v := 3) hx hb dX6_cut_168 (by decide) ?_
      refine va_calli (va_runV (As := [.int (nI k), .int 3]) (rest := [.int 3, .int (nI k), .ref mo]) ⟨hx, hb, hml, hown, hts⟩ (met_X6_pe l D cI cZ cL mo m4 m5 m6 m7 m8 m9 th nb nq nr (enP Q) k 3 (by first | assumption | omega) (by first | assumption | omega)) (cwV 2 hts gX6_cut_X6_pe rfl rfl rfl (by decide +kernel) ⟨Nat.le_of_ble_eq_true rfl, Nat.le_of_ble_eq_true rfl⟩) (gw_pvr hK hP (wc := [(mo, .inr (6, [.int th, .int (nI nb), .int (nI nq), .int (nI nr), .ref m4, .ref m5, .ref m6, .ref m7, .ref m8, .ref m9])), (m6, .inl (cI, 24, .inl (enP Q)))]) [0, 2] rfl 6 rfl rfl rfl) rfl rfl hl.1 rfl (lv_room (Nat.le_of_ble_eq_true rfl)) dX6_cut_169 ⟨Nat.zero_le _, Nat.zero_le _⟩) hS (fun _ _ z => z.elim) (fun _ z => z.elim) (fun r_43 _ t H1 locs ht hvm hw hB hz1 hk1 hS => ?_)
      have hP := gw_ro hP hk1
      generalize H1 = H at hP hS ⊢
      subst hw
      refine gw_top (y := Q 8 k) (enP_3 Q k) ?_
      refine lv_bipush (v := 10) hx hb dX6_cut_172 (by decide) ?_
      refine lv_isub hx hb dX6_cut_174 ?_
      have hFc := gw_free (wc := [(mo, .inr (6, [.int th, .int (nI nb), .int (nI nq), .int (nI nr), .ref m4, .ref m5, .ref m6, .ref m7, .ref m8, .ref m9])), (m6, .inl (cI, 24, .inl (enP Q)))]) hD [0, 2] rfl
      refine va_callv (va_runV (As := [.int (nI k), .int 3, .int ((Q 8 k) - 10)]) (rest := []) ⟨hx, hb, hml, hown, hts⟩ (met_X6_put l D cI cZ cL mo m4 m5 m6 m7 m8 m9 th nb nq nr (enP Q) k 3 ((Q 8 k) - 10) (by first | assumption | omega) (by first | assumption | omega)) (cwV 3 hts gX6_cut_X6_put rfl rfl rfl (by decide +kernel) ⟨Nat.le_of_ble_eq_true rfl, Nat.le_of_ble_eq_true rfl⟩) (gw_pvw hK hP hD (wc := [(mo, .inr (6, [.int th, .int (nI nb), .int (nI nq), .int (nI nr), .ref m4, .ref m5, .ref m6, .ref m7, .ref m8, .ref m9])), (m6, .inl (cI, 24, .inl (enP Q)))]) [0, 2] (by decide) rfl rfl 6 rfl rfl rfl) rfl rfl hl.1 rfl (lv_room (Nat.le_of_ble_eq_true rfl)) dX6_cut_175 ⟨Nat.zero_le _, Nat.zero_le _⟩) hS (fun q _ h => hFc q h) hFc (fun _ t H1 locs ht hvm hw hB hz1 hk1 hS => ?_)
      rw [ht] at hB
      obtain ⟨hP, hD⟩ := gw_upd (wc := [(mo, .inr (6, [.int th, .int (nI nb), .int (nI nq), .int (nI nr), .ref m4, .ref m5, .ref m6, .ref m7, .ref m8, .ref m9])), (m6, .inl (cI, 24, .inl (enP Q)))]) (w1 := [(mo, .inr (6, [.int th, .int (nI nb), .int (nI nq), .int (nI nr), .ref m4, .ref m5, .ref m6, .ref m7, .ref m8, .ref m9])), (m6, .inl (cI, 24, .inl (upd (enP Q) (4 * k + 3) ((Q 8 k) - 10))))]) (ws' := [(mo, .inr (6, [.int th, .int (nI nb), .int (nI nq), .int (nI nr), .ref m4, .ref m5, .ref m6, .ref m7, .ref m8, .ref m9])), (m5, .inl (cI, 20, .inl (enR (gCutW Q nw k b (gSize (Q 5 k) day))))), (m6, .inl (cI, 24, .inl (upd (enP Q) (4 * k + 3) ((Q 8 k) - 10)))), (m7, .inl (cI, 300, .inl (enS (gCutW Q nw k b (gSize (Q 5 k) day))))), (m9, .inl (cI, 3, .inl (enN day co (nw + 1))))]) hP hD [0, 2] rfl rfl hk1 hB rfl
      generalize H1 = H at hP hS ⊢
      have hw_46 : upd (enP Q) (4 * k + 3) ((Q 8 k) - 10) = enP (gCutW Q nw k b (gSize (Q 5 k) day)) := ((enP_p Q k 3 _ (by decide)).trans (enP_ext rfl rfl rfl rfl))
      rw [hw_46] at hP hD
      subst hAe
      exact W.vret hx hb hr (fun t ht hW => ⟨⟨(), rfl, trivial, gw_hh ht hP⟩, hS.F ht⟩) hS.2.2 dX6_cut_178
    · skip
      have hcr : gCr Q b (gSize (Q 5 k) day) = 1 := by unfold gCr; exact if_pos (Int32.not_le.mp h2)
      refine lv_iconst (v := 1) hx hb dX6_cut_111 (by decide) ?_
      refine lv_goto (tgt := 116) hx hb dX6_cut_112 (by decide) ?_
      refine gw_iast hx hb hK hP hD hS 3 0 (k := (5 * nw) + 4) rfl rfl (by omega) (by decide) dX6_cut_116 (fun H locs hP hD hS => ?_)
      have hP : va_P D vwCl [(mo, .inr (6, [.int th, .int (nI nb), .int (nI nq), .int (nI nr), .ref m4, .ref m5, .ref m6, .ref m7, .ref m8, .ref m9])), (m5, .inl (cI, 20, .inl (enR Q))), (m6, .inl (cI, 24, .inl (enP Q))), (m7, .inl (cI, 300, .inl (upd (upd (upd (upd (upd (enS Q) ((5 * nw) + 0) (nI b)) ((5 * nw) + 1) (gSize (Q 5 k) day)) ((5 * nw) + 2) 0) ((5 * nw) + 3) (-1)) ((5 * nw) + 4) 1))), (m9, .inl (cI, 3, .inl (enN day co nw)))] H := hP
      have hD : va_D A [(mo, .inr (6, [.int th, .int (nI nb), .int (nI nq), .int (nI nr), .ref m4, .ref m5, .ref m6, .ref m7, .ref m8, .ref m9])), (m5, .inl (cI, 20, .inl (enR Q))), (m6, .inl (cI, 24, .inl (enP Q))), (m7, .inl (cI, 300, .inl (upd (upd (upd (upd (upd (enS Q) ((5 * nw) + 0) (nI b)) ((5 * nw) + 1) (gSize (Q 5 k) day)) ((5 * nw) + 2) 0) ((5 * nw) + 3) (-1)) ((5 * nw) + 4) 1))), (m9, .inl (cI, 3, .inl (enN day co nw)))] := hD
      have hw_47 : upd (upd (upd (upd (upd (enS Q) ((5 * nw) + 0) (nI b)) ((5 * nw) + 1) (gSize (Q 5 k) day)) ((5 * nw) + 2) 0) ((5 * nw) + 3) (-1)) ((5 * nw) + 4) 1 = enS (gCutW Q nw k b (gSize (Q 5 k) day)) := (enS_cut (k := k) hcr)
      rw [hw_47] at hP hD
      refine lv_aload_n hx hb dX6_cut_117 rfl (lv_at hl 2 rfl) ?_
      refine va_get (D := D) (ci := 6) (v := .ref m9) (C := RX6) (T := TX6) (N := 10) hx hb hts wc_X6_cut_X6 hown hK hP 0 rfl rfl 9 (by decide) (hts _ wd_X6_cut_1) (fun _ h9 => h9) rfl dX6_cut_118 ?_
      refine lv_iconst (v := 2) hx hb dX6_cut_121 (by decide) ?_
      refine lv_dup2_11 hx hb dX6_cut_122 rfl rfl ?_
      refine gw_top (y := nI 2) rfl ?_
      refine gw_iald hx hb hK hP 4 0 (k := 2) rfl rfl (by omega) (by decide) dX6_cut_123 ?_
      refine gw_top (y := nI nw) rfl ?_
      refine lv_iconst (v := 1) hx hb dX6_cut_124 (by decide) ?_
      refine lv_iadd hx hb dX6_cut_125 ?_
      refine gw_top (y := nI (nw + 1)) (nI_add nw 1) ?_
      refine gw_top2 (y := nI 2) rfl ?_
      refine gw_iast hx hb hK hP hD hS 4 0 (k := 2) rfl rfl (by omega) (by decide) dX6_cut_126 (fun H locs hP hD hS => ?_)
      have hP : va_P D vwCl [(mo, .inr (6, [.int th, .int (nI nb), .int (nI nq), .int (nI nr), .ref m4, .ref m5, .ref m6, .ref m7, .ref m8, .ref m9])), (m5, .inl (cI, 20, .inl (enR Q))), (m6, .inl (cI, 24, .inl (enP Q))), (m7, .inl (cI, 300, .inl (enS (gCutW Q nw k b (gSize (Q 5 k) day))))), (m9, .inl (cI, 3, .inl (upd (enN day co nw) 2 (nI (nw + 1)))))] H := hP
      have hD : va_D A [(mo, .inr (6, [.int th, .int (nI nb), .int (nI nq), .int (nI nr), .ref m4, .ref m5, .ref m6, .ref m7, .ref m8, .ref m9])), (m5, .inl (cI, 20, .inl (enR Q))), (m6, .inl (cI, 24, .inl (enP Q))), (m7, .inl (cI, 300, .inl (enS (gCutW Q nw k b (gSize (Q 5 k) day))))), (m9, .inl (cI, 3, .inl (upd (enN day co nw) 2 (nI (nw + 1)))))] := hD
      have hw_48 : upd (enN day co nw) 2 (nI (nw + 1)) = enN day co (nw + 1) := (enN_2 _ _ _ _)
      rw [hw_48] at hP hD
      refine lv_aload_n hx hb dX6_cut_127 rfl (lv_at hl 2 rfl) ?_
      refine va_get (D := D) (ci := 6) (v := .ref m5) (C := RX6) (T := TX6) (N := 10) hx hb hts wc_X6_cut_X6 hown hK hP 0 rfl rfl 5 (by decide) (hts _ wd_X6_cut_3) (fun _ h9 => h9) rfl dX6_cut_128 ?_
      refine lv_iconst (v := 4) hx hb dX6_cut_131 (by decide) ?_
      refine lv_iload_n hx hb dX6_cut_132 rfl (lv_at hl 4 rfl) ?_
      refine lv_imul hx hb dX6_cut_133 ?_
      refine gw_top (y := nI (4 * b)) (nI_mul 4 b) ?_
      refine lv_iconst (v := 3) hx hb dX6_cut_134 (by decide) ?_
      refine lv_iadd hx hb dX6_cut_135 ?_
      refine gw_top (y := nI ((4 * b) + 3)) (nI_add (4 * b) 3) ?_
      refine lv_dup2_11 hx hb dX6_cut_136 rfl rfl ?_
      refine gw_iald hx hb hK hP 1 0 (k := (4 * b) + 3) rfl rfl (by omega) (by decide) dX6_cut_137 ?_
      refine gw_top (y := Q 4 b) (enR_3 Q b) ?_
      refine lv_iconst (v := 1) hx hb dX6_cut_138 (by decide) ?_
      refine lv_iadd hx hb dX6_cut_139 ?_
      refine gw_iast hx hb hK hP hD hS 1 0 (k := (4 * b) + 3) rfl rfl (by omega) (by decide) dX6_cut_140 (fun H locs hP hD hS => ?_)
      have hP : va_P D vwCl [(mo, .inr (6, [.int th, .int (nI nb), .int (nI nq), .int (nI nr), .ref m4, .ref m5, .ref m6, .ref m7, .ref m8, .ref m9])), (m5, .inl (cI, 20, .inl (upd (enR Q) ((4 * b) + 3) ((Q 4 b) + 1)))), (m6, .inl (cI, 24, .inl (enP Q))), (m7, .inl (cI, 300, .inl (enS (gCutW Q nw k b (gSize (Q 5 k) day))))), (m9, .inl (cI, 3, .inl (enN day co (nw + 1))))] H := hP
      have hD : va_D A [(mo, .inr (6, [.int th, .int (nI nb), .int (nI nq), .int (nI nr), .ref m4, .ref m5, .ref m6, .ref m7, .ref m8, .ref m9])), (m5, .inl (cI, 20, .inl (upd (enR Q) ((4 * b) + 3) ((Q 4 b) + 1)))), (m6, .inl (cI, 24, .inl (enP Q))), (m7, .inl (cI, 300, .inl (enS (gCutW Q nw k b (gSize (Q 5 k) day))))), (m9, .inl (cI, 3, .inl (enN day co (nw + 1))))] := hD
      have hw_49 : upd (enR Q) ((4 * b) + 3) ((Q 4 b) + 1) = enR (pk Q 4 (upd (Q 4) b (Q 4 b + 1))) := (enR_p Q b 3 _ (by decide))
      rw [hw_49] at hP hD
      refine lv_aload_n hx hb dX6_cut_141 rfl (lv_at hl 2 rfl) ?_
      refine va_get (D := D) (ci := 6) (v := .ref m5) (C := RX6) (T := TX6) (N := 10) hx hb hts wc_X6_cut_X6 hown hK hP 0 rfl rfl 5 (by decide) (hts _ wd_X6_cut_3) (fun _ h9 => h9) rfl dX6_cut_142 ?_
      refine lv_iconst (v := 4) hx hb dX6_cut_145 (by decide) ?_
      refine lv_iload_n hx hb dX6_cut_146 rfl (lv_at hl 4 rfl) ?_
      refine lv_imul hx hb dX6_cut_147 ?_
      refine gw_top (y := nI (4 * b)) (nI_mul 4 b) ?_
      refine lv_iconst (v := 2) hx hb dX6_cut_148 (by decide) ?_
      refine lv_iadd hx hb dX6_cut_149 ?_
      refine gw_top (y := nI ((4 * b) + 2)) (nI_add (4 * b) 2) ?_
      refine lv_iconst (v := 0) hx hb dX6_cut_150 (by decide) ?_
      refine lv_aload_n hx hb dX6_cut_151 rfl (lv_at hl 2 rfl) ?_
      refine lv_iload_n hx hb dX6_cut_152 rfl (lv_at hl 4 rfl) ?_
      refine lv_iconst (v := 2) hx hb dX6_cut_153 (by decide) ?_
      refine va_calli (va_runV (As := [.int (nI b), .int 2]) (rest := [.int 0, .int (nI ((4 * b) + 2)), .ref m5]) ⟨hx, hb, hml, hown, hts⟩ (met_X6_ro l D cI cZ cL mo m4 m5 m6 m7 m8 m9 th nb nq nr (enR (pk Q 4 (upd (Q 4) b (Q 4 b + 1)))) b 2 (by first | assumption | omega) (by first | assumption | omega)) (cwV 2 hts gX6_cut_X6_ro rfl rfl rfl (by decide +kernel) ⟨Nat.le_of_ble_eq_true rfl, Nat.le_of_ble_eq_true rfl⟩) (gw_pvr hK hP (wc := [(mo, .inr (6, [.int th, .int (nI nb), .int (nI nq), .int (nI nr), .ref m4, .ref m5, .ref m6, .ref m7, .ref m8, .ref m9])), (m5, .inl (cI, 20, .inl (enR (pk Q 4 (upd (Q 4) b (Q 4 b + 1))))))]) [0, 1] rfl 6 rfl rfl rfl) rfl rfl hl.1 rfl (lv_room (Nat.le_of_ble_eq_true rfl)) dX6_cut_154 ⟨Nat.zero_le _, Nat.zero_le _⟩) hS (fun _ _ z => z.elim) (fun _ z => z.elim) (fun r_51 _ t H1 locs ht hvm hw hB hz1 hk1 hS => ?_)
      have hP := gw_ro hP hk1
      generalize H1 = H at hP hS ⊢
      subst hw
      refine gw_top (y := (pk Q 4 (upd (Q 4) b (Q 4 b + 1))) 3 b) (enR_2 (pk Q 4 (upd (Q 4) b (Q 4 b + 1))) b) ?_
      refine gw_top (y := Q 3 b) rfl ?_
      refine lv_iload_n hx hb dX6_cut_157 rfl (lv_at hl 1 rfl) ?_
      refine lv_isub hx hb dX6_cut_158 ?_
      refine va_mmax (own := RX6) hx hb (by rw [hml]; exact hl.1.symm) hown (hts _ wd_X6_cut_4) (hts _ wd_X6_cut_5) (hts _ wd_X6_cut_6) (hts _ wd_X6_cut_7) (Nat.le_of_ble_eq_true rfl) (Nat.le_of_ble_eq_true rfl) (Nat.zero_le _) (Nat.zero_le _) dX6_cut_159 ?_
      refine gw_iast hx hb hK hP hD hS 1 0 (k := (4 * b) + 2) rfl rfl (by omega) (by decide) dX6_cut_162 (fun H locs hP hD hS => ?_)
      have hP : va_P D vwCl [(mo, .inr (6, [.int th, .int (nI nb), .int (nI nq), .int (nI nr), .ref m4, .ref m5, .ref m6, .ref m7, .ref m8, .ref m9])), (m5, .inl (cI, 20, .inl (upd (enR (pk Q 4 (upd (Q 4) b (Q 4 b + 1)))) ((4 * b) + 2) (if 0 < ((Q 3 b) - (gSize (Q 5 k) day)) then ((Q 3 b) - (gSize (Q 5 k) day)) else 0)))), (m6, .inl (cI, 24, .inl (enP Q))), (m7, .inl (cI, 300, .inl (enS (gCutW Q nw k b (gSize (Q 5 k) day))))), (m9, .inl (cI, 3, .inl (enN day co (nw + 1))))] H := hP
      have hD : va_D A [(mo, .inr (6, [.int th, .int (nI nb), .int (nI nq), .int (nI nr), .ref m4, .ref m5, .ref m6, .ref m7, .ref m8, .ref m9])), (m5, .inl (cI, 20, .inl (upd (enR (pk Q 4 (upd (Q 4) b (Q 4 b + 1)))) ((4 * b) + 2) (if 0 < ((Q 3 b) - (gSize (Q 5 k) day)) then ((Q 3 b) - (gSize (Q 5 k) day)) else 0)))), (m6, .inl (cI, 24, .inl (enP Q))), (m7, .inl (cI, 300, .inl (enS (gCutW Q nw k b (gSize (Q 5 k) day))))), (m9, .inl (cI, 3, .inl (enN day co (nw + 1))))] := hD
      have hw_52 : upd (enR (pk Q 4 (upd (Q 4) b (Q 4 b + 1)))) ((4 * b) + 2) (if 0 < ((Q 3 b) - (gSize (Q 5 k) day)) then ((Q 3 b) - (gSize (Q 5 k) day)) else 0) = enR (gCutW Q nw k b (gSize (Q 5 k) day)) := ((enR_p _ b 2 _ (by decide)).trans (enR_ext rfl rfl rfl rfl))
      rw [hw_52] at hP hD
      refine lv_aload_n hx hb dX6_cut_163 rfl (lv_at hl 2 rfl) ?_
      refine lv_iload_n hx hb dX6_cut_164 rfl (lv_at hl 3 rfl) ?_
      refine lv_iconst (v := 3) hx hb dX6_cut_165 (by decide) ?_
      refine lv_aload_n hx hb dX6_cut_166 rfl (lv_at hl 2 rfl) ?_
      refine lv_iload_n hx hb dX6_cut_167 rfl (lv_at hl 3 rfl) ?_
      refine lv_iconst (v := 3) hx hb dX6_cut_168 (by decide) ?_
      refine va_calli (va_runV (As := [.int (nI k), .int 3]) (rest := [.int 3, .int (nI k), .ref mo]) ⟨hx, hb, hml, hown, hts⟩ (met_X6_pe l D cI cZ cL mo m4 m5 m6 m7 m8 m9 th nb nq nr (enP Q) k 3 (by first | assumption | omega) (by first | assumption | omega)) (cwV 2 hts gX6_cut_X6_pe rfl rfl rfl (by decide +kernel) ⟨Nat.le_of_ble_eq_true rfl, Nat.le_of_ble_eq_true rfl⟩) (gw_pvr hK hP (wc := [(mo, .inr (6, [.int th, .int (nI nb), .int (nI nq), .int (nI nr), .ref m4, .ref m5, .ref m6, .ref m7, .ref m8, .ref m9])), (m6, .inl (cI, 24, .inl (enP Q)))]) [0, 2] rfl 6 rfl rfl rfl) rfl rfl hl.1 rfl (lv_room (Nat.le_of_ble_eq_true rfl)) dX6_cut_169 ⟨Nat.zero_le _, Nat.zero_le _⟩) hS (fun _ _ z => z.elim) (fun _ z => z.elim) (fun r_54 _ t H1 locs ht hvm hw hB hz1 hk1 hS => ?_)
      have hP := gw_ro hP hk1
      generalize H1 = H at hP hS ⊢
      subst hw
      refine gw_top (y := Q 8 k) (enP_3 Q k) ?_
      refine lv_bipush (v := 10) hx hb dX6_cut_172 (by decide) ?_
      refine lv_isub hx hb dX6_cut_174 ?_
      have hFc := gw_free (wc := [(mo, .inr (6, [.int th, .int (nI nb), .int (nI nq), .int (nI nr), .ref m4, .ref m5, .ref m6, .ref m7, .ref m8, .ref m9])), (m6, .inl (cI, 24, .inl (enP Q)))]) hD [0, 2] rfl
      refine va_callv (va_runV (As := [.int (nI k), .int 3, .int ((Q 8 k) - 10)]) (rest := []) ⟨hx, hb, hml, hown, hts⟩ (met_X6_put l D cI cZ cL mo m4 m5 m6 m7 m8 m9 th nb nq nr (enP Q) k 3 ((Q 8 k) - 10) (by first | assumption | omega) (by first | assumption | omega)) (cwV 3 hts gX6_cut_X6_put rfl rfl rfl (by decide +kernel) ⟨Nat.le_of_ble_eq_true rfl, Nat.le_of_ble_eq_true rfl⟩) (gw_pvw hK hP hD (wc := [(mo, .inr (6, [.int th, .int (nI nb), .int (nI nq), .int (nI nr), .ref m4, .ref m5, .ref m6, .ref m7, .ref m8, .ref m9])), (m6, .inl (cI, 24, .inl (enP Q)))]) [0, 2] (by decide) rfl rfl 6 rfl rfl rfl) rfl rfl hl.1 rfl (lv_room (Nat.le_of_ble_eq_true rfl)) dX6_cut_175 ⟨Nat.zero_le _, Nat.zero_le _⟩) hS (fun q _ h => hFc q h) hFc (fun _ t H1 locs ht hvm hw hB hz1 hk1 hS => ?_)
      rw [ht] at hB
      obtain ⟨hP, hD⟩ := gw_upd (wc := [(mo, .inr (6, [.int th, .int (nI nb), .int (nI nq), .int (nI nr), .ref m4, .ref m5, .ref m6, .ref m7, .ref m8, .ref m9])), (m6, .inl (cI, 24, .inl (enP Q)))]) (w1 := [(mo, .inr (6, [.int th, .int (nI nb), .int (nI nq), .int (nI nr), .ref m4, .ref m5, .ref m6, .ref m7, .ref m8, .ref m9])), (m6, .inl (cI, 24, .inl (upd (enP Q) (4 * k + 3) ((Q 8 k) - 10))))]) (ws' := [(mo, .inr (6, [.int th, .int (nI nb), .int (nI nq), .int (nI nr), .ref m4, .ref m5, .ref m6, .ref m7, .ref m8, .ref m9])), (m5, .inl (cI, 20, .inl (enR (gCutW Q nw k b (gSize (Q 5 k) day))))), (m6, .inl (cI, 24, .inl (upd (enP Q) (4 * k + 3) ((Q 8 k) - 10)))), (m7, .inl (cI, 300, .inl (enS (gCutW Q nw k b (gSize (Q 5 k) day))))), (m9, .inl (cI, 3, .inl (enN day co (nw + 1))))]) hP hD [0, 2] rfl rfl hk1 hB rfl
      generalize H1 = H at hP hS ⊢
      have hw_57 : upd (enP Q) (4 * k + 3) ((Q 8 k) - 10) = enP (gCutW Q nw k b (gSize (Q 5 k) day)) := ((enP_p Q k 3 _ (by decide)).trans (enP_ext rfl rfl rfl rfl))
      rw [hw_57] at hP hD
      subst hAe
      exact W.vret hx hb hr (fun t ht hW => ⟨⟨(), rfl, trivial, gw_hh ht hP⟩, hS.F ht⟩) hS.2.2 dX6_cut_178

theorem wd_X6_toil_0 : (.methodLink RX6 73 Lib.Math.min.name : Cond) ∈ wsX6_toil := by decide +kernel
theorem wd_X6_toil_1 : (.static Lib.Math.min.name : Cond) ∈ wsX6_toil := by decide +kernel
theorem wd_X6_toil_2 : (.initialized "java/lang/Math" : Cond) ∈ wsX6_toil := by decide +kernel
theorem wd_X6_toil_3 : (.code Lib.Math.min.name Lib.Math.min.code 2 (some .int) : Cond) ∈ wsX6_toil := by decide +kernel
theorem wc_X6_toil_X6 : ∀ w ∈ u_ws RX6 TX6 10, w ∈ wsX6_toil := by decide +kernel
theorem wd_X6_toil_5 : (.fieldLink RX6 25 "GritWheelsModel" "numbers" "[I" : Cond) ∈ wsX6_toil := by decide +kernel
set_option maxHeartbeats 4000000 in
set_option maxRecDepth 100000 in
theorem met_X6_toil (l : Launch) (D : va_G) (cI cZ cL : ClassId) (mo : Nat) (m4 : Nat) (m5 : Nat) (m6 : Nat) (m7 : Nat) (m8 : Nat) (m9 : Nat) (th : Int32) (nb : Nat) (nq : Nat) (nr : Nat) (Q : Nat → Nat → Int32) (day : Nat) (co : Int32) (nw : Nat) (k : Nat) (hk : k < nq) (hnq : nq ≤ 6) (hnb : nb ≤ 5) (hnw : nw ≤ 60) (hpl : gPl Q nb nq) : Met l yX6_toil wsX6_toil ({ frames := 2, cells := 0, slots := 0, locals := 47 }) (gPw [.ref mo, .int (nI k)] D [(mo, .inr (6, [.int th, .int (nI nb), .int (nI nq), .int (nI nr), .ref m4, .ref m5, .ref m6, .ref m7, .ref m8, .ref m9])), (m5, .inl (cI, 20, .inl (enR Q))), (m6, .inl (cI, 24, .inl (enP Q))), (m7, .inl (cI, 300, .inl (enS Q))), (m9, .inl (cI, 3, .inl (enN day co nw)))] (gT cI cZ cL)) (va_Qv (fun (_ : Unit) => True) (fun _ t => va_P D vwCl [(mo, .inr (6, [.int th, .int (nI nb), .int (nI nq), .int (nI nr), .ref m4, .ref m5, .ref m6, .ref m7, .ref m8, .ref m9])), (m5, .inl (cI, 20, .inl (enR ((gWork Q nw day k).1)))), (m6, .inl (cI, 24, .inl (enP ((gWork Q nw day k).1)))), (m7, .inl (cI, 300, .inl (enS ((gWork Q nw day k).1)))), (m9, .inl (cI, 3, .inl (enN day co ((gWork Q nw day k).2))))] t.heap) (gA (gL [(mo, .inr (6, [.int th, .int (nI nb), .int (nI nq), .int (nI nr), .ref m4, .ref m5, .ref m6, .ref m7, .ref m8, .ref m9])), (m5, .inl (cI, 20, .inl (enR Q))), (m6, .inl (cI, 24, .inl (enP Q))), (m7, .inl (cI, 300, .inl (enS Q))), (m9, .inl (cI, 3, .inl (enN day co nw)))]))) 0 0 (gA (gL [(mo, .inr (6, [.int th, .int (nI nb), .int (nI nq), .int (nI nr), .ref m4, .ref m5, .ref m6, .ref m7, .ref m8, .ref m9])), (m5, .inl (cI, 20, .inl (enR Q))), (m6, .inl (cI, 24, .inl (enP Q))), (m7, .inl (cI, 300, .inl (enS Q))), (m9, .inl (cI, 3, .inl (enN day co nw)))])) := by
  refine Met.ofW (cc := cX6_toil) (maxL := 3) (ret := none) (by decide +kernel) rfl ?_
  intro p e s m args below meth c s₁ B hml hv
  obtain ⟨rfl, hP, hK, hD0⟩ := hv
  have hx := B.exec
  have hb := B.bytes
  have hr := B.returns
  have hts := atoms_spec (ws := wsX6_toil) B.pre
  have hown : s.vm.findClass RX6 = some m.cls := findClass_of_methodNamed B.named
  have hlocks := B.notSynchronized
  have hD := gw_self hD0
  generalize hAe : gA (gL [(mo, .inr (6, [.int th, .int (nI nb), .int (nI nq), .int (nI nr), .ref m4, .ref m5, .ref m6, .ref m7, .ref m8, .ref m9])), (m5, .inl (cI, 20, .inl (enR Q))), (m6, .inl (cI, 24, .inl (enP Q))), (m7, .inl (cI, 300, .inl (enS Q))), (m9, .inl (cI, 3, .inl (enN day co nw)))]) = A at hD ⊢
  have hS : va_S A s.heap s.heap [] := va_S.rf
  have hP : va_P D vwCl [(mo, .inr (6, [.int th, .int (nI nb), .int (nI nq), .int (nI nr), .ref m4, .ref m5, .ref m6, .ref m7, .ref m8, .ref m9])), (m5, .inl (cI, 20, .inl (enR Q))), (m6, .inl (cI, 24, .inl (enP Q))), (m7, .inl (cI, 300, .inl (enS Q))), (m9, .inl (cI, 3, .inl (enN day co nw)))] s.heap := hP
  have hl := lv_entry ([.ref mo, .int (nI k)]) (n := 3) (Nat.le_of_ble_eq_true rfl)
  rw [lg_entry_eq]
  generalize (lg_sl ([.ref mo, .int (nI k)]) ++ List.replicate (3 - (lg_sl ([.ref mo, .int (nI k)])).length) Slot.unset).toArray = ls at hl ⊢
  have hl : lv_has ls 3 [(0, .ref mo), (1, .int (nI k))] := hl
  refine lv_aload_n hx hb dX6_toil_0 rfl (lv_at hl 0 rfl) ?_
  refine lv_iload_n hx hb dX6_toil_1 rfl (lv_at hl 1 rfl) ?_
  refine lv_iconst (v := 1) hx hb dX6_toil_2 (by decide) ?_
  refine va_calli (va_runV (As := [.int (nI k), .int 1]) (rest := []) ⟨hx, hb, hml, hown, hts⟩ (met_X6_pe l D cI cZ cL mo m4 m5 m6 m7 m8 m9 th nb nq nr (enP Q) k 1 (by first | assumption | omega) (by first | assumption | omega)) (cwV 2 hts gX6_toil_X6_pe rfl rfl rfl (by decide +kernel) ⟨Nat.le_of_ble_eq_true rfl, Nat.le_of_ble_eq_true rfl⟩) (gw_pvr hK hP (wc := [(mo, .inr (6, [.int th, .int (nI nb), .int (nI nq), .int (nI nr), .ref m4, .ref m5, .ref m6, .ref m7, .ref m8, .ref m9])), (m6, .inl (cI, 24, .inl (enP Q)))]) [0, 2] rfl 6 rfl rfl rfl) rfl rfl hl.1 rfl (lv_room (Nat.le_of_ble_eq_true rfl)) dX6_toil_3 ⟨Nat.zero_le _, Nat.zero_le _⟩) hS (fun _ _ z => z.elim) (fun _ z => z.elim) (fun r_2 _ t H1 locs ht hvm hw hB hz1 hk1 hS => ?_)
  have hP := gw_ro hP hk1
  generalize H1 = H at hP hS ⊢
  subst hw
  refine gw_top (y := Q 6 k) (enP_1 Q k) ?_
  refine lv_istore_n (lv' := [(2, .int (Q 6 k)), (0, .ref mo), (1, .int (nI k))]) hx hb dX6_toil_6 rfl hl (by decide) rfl (fun ls hl => ?_)
  refine lv_iload_n hx hb dX6_toil_7 rfl (lv_at hl 0 rfl) ?_
  refine lv_iconst (v := (-1)) hx hb dX6_toil_8 (by decide) ?_
  refine lv_icmp_eq (tgt := 23) hx hb dX6_toil_9 (by decide) (fun c1 => ?_) (fun c1 => ?_)
  · skip
    have hE : gWork Q nw day k = (Q, nw) := by unfold gWork; rw [if_pos c1]
    subst hAe
    exact W.vret hx hb hr (fun t ht hW => ⟨⟨(), rfl, trivial, (by rw [hE]; exact gw_hh ht hP)⟩, hS.F ht⟩) hS.2.2 dX6_toil_23
  · skip
    obtain ⟨b, hb2, hbe⟩ := (hpl k hk).resolve_left c1
    rw [hbe] at hl
    refine lv_aload_n hx hb dX6_toil_12 rfl (lv_at hl 1 rfl) ?_
    refine lv_iload_n hx hb dX6_toil_13 rfl (lv_at hl 2 rfl) ?_
    refine lv_iconst (v := 2) hx hb dX6_toil_14 (by decide) ?_
    refine va_calli (va_runV (As := [.int (nI k), .int 2]) (rest := []) ⟨hx, hb, hml, hown, hts⟩ (met_X6_pe l D cI cZ cL mo m4 m5 m6 m7 m8 m9 th nb nq nr (enP Q) k 2 (by first | assumption | omega) (by first | assumption | omega)) (cwV 2 hts gX6_toil_X6_pe rfl rfl rfl (by decide +kernel) ⟨Nat.le_of_ble_eq_true rfl, Nat.le_of_ble_eq_true rfl⟩) (gw_pvr hK hP (wc := [(mo, .inr (6, [.int th, .int (nI nb), .int (nI nq), .int (nI nr), .ref m4, .ref m5, .ref m6, .ref m7, .ref m8, .ref m9])), (m6, .inl (cI, 24, .inl (enP Q)))]) [0, 2] rfl 6 rfl rfl rfl) rfl rfl hl.1 rfl (lv_room (Nat.le_of_ble_eq_true rfl)) dX6_toil_15 ⟨Nat.zero_le _, Nat.zero_le _⟩) hS (fun _ _ z => z.elim) (fun _ z => z.elim) (fun r_5 _ t H1 locs ht hvm hw hB hz1 hk1 hS => ?_)
    have hP := gw_ro hP hk1
    generalize H1 = H at hP hS ⊢
    subst hw
    refine gw_top (y := Q 7 k) (enP_2 Q k) ?_
    refine lv_bipush (v := 60) hx hb dX6_toil_18 (by decide) ?_
    refine lv_icmp_lt (tgt := 24) hx hb dX6_toil_20 (by decide) (fun c2 => ?_) (fun c2 => ?_)
    · skip
      refine lv_aload_n hx hb dX6_toil_24 rfl (lv_at hl 1 rfl) ?_
      refine lv_iload_n hx hb dX6_toil_25 rfl (lv_at hl 2 rfl) ?_
      refine lv_iconst (v := 3) hx hb dX6_toil_26 (by decide) ?_
      refine lv_aload_n hx hb dX6_toil_27 rfl (lv_at hl 1 rfl) ?_
      refine lv_iload_n hx hb dX6_toil_28 rfl (lv_at hl 2 rfl) ?_
      refine lv_iconst (v := 3) hx hb dX6_toil_29 (by decide) ?_
      refine va_calli (va_runV (As := [.int (nI k), .int 3]) (rest := [.int 3, .int (nI k), .ref mo]) ⟨hx, hb, hml, hown, hts⟩ (met_X6_pe l D cI cZ cL mo m4 m5 m6 m7 m8 m9 th nb nq nr (enP Q) k 3 (by first | assumption | omega) (by first | assumption | omega)) (cwV 2 hts gX6_toil_X6_pe rfl rfl rfl (by decide +kernel) ⟨Nat.le_of_ble_eq_true rfl, Nat.le_of_ble_eq_true rfl⟩) (gw_pvr hK hP (wc := [(mo, .inr (6, [.int th, .int (nI nb), .int (nI nq), .int (nI nr), .ref m4, .ref m5, .ref m6, .ref m7, .ref m8, .ref m9])), (m6, .inl (cI, 24, .inl (enP Q)))]) [0, 2] rfl 6 rfl rfl rfl) rfl rfl hl.1 rfl (lv_room (Nat.le_of_ble_eq_true rfl)) dX6_toil_30 ⟨Nat.zero_le _, Nat.zero_le _⟩) hS (fun _ _ z => z.elim) (fun _ z => z.elim) (fun r_8 _ t H1 locs ht hvm hw hB hz1 hk1 hS => ?_)
      have hP := gw_ro hP hk1
      generalize H1 = H at hP hS ⊢
      subst hw
      refine gw_top (y := Q 8 k) (enP_3 Q k) ?_
      refine lv_aload_n hx hb dX6_toil_33 rfl (lv_at hl 1 rfl) ?_
      refine lv_iload_n hx hb dX6_toil_34 rfl (lv_at hl 2 rfl) ?_
      refine lv_iconst (v := 0) hx hb dX6_toil_35 (by decide) ?_
      refine va_calli (va_runV (As := [.int (nI k), .int 0]) (rest := [.int (Q 8 k), .int 3, .int (nI k), .ref mo]) ⟨hx, hb, hml, hown, hts⟩ (met_X6_pe l D cI cZ cL mo m4 m5 m6 m7 m8 m9 th nb nq nr (enP Q) k 0 (by first | assumption | omega) (by first | assumption | omega)) (cwV 2 hts gX6_toil_X6_pe rfl rfl rfl (by decide +kernel) ⟨Nat.le_of_ble_eq_true rfl, Nat.le_of_ble_eq_true rfl⟩) (gw_pvr hK hP (wc := [(mo, .inr (6, [.int th, .int (nI nb), .int (nI nq), .int (nI nr), .ref m4, .ref m5, .ref m6, .ref m7, .ref m8, .ref m9])), (m6, .inl (cI, 24, .inl (enP Q)))]) [0, 2] rfl 6 rfl rfl rfl) rfl rfl hl.1 rfl (lv_room (Nat.le_of_ble_eq_true rfl)) dX6_toil_36 ⟨Nat.zero_le _, Nat.zero_le _⟩) hS (fun _ _ z => z.elim) (fun _ z => z.elim) (fun r_10 _ t H1 locs ht hvm hw hB hz1 hk1 hS => ?_)
      have hP := gw_ro hP hk1
      generalize H1 = H at hP hS ⊢
      subst hw
      refine gw_top (y := Q 5 k) (enP_0 Q k) ?_
      refine lv_iadd hx hb dX6_toil_39 ?_
      have hFc := gw_free (wc := [(mo, .inr (6, [.int th, .int (nI nb), .int (nI nq), .int (nI nr), .ref m4, .ref m5, .ref m6, .ref m7, .ref m8, .ref m9])), (m6, .inl (cI, 24, .inl (enP Q)))]) hD [0, 2] rfl
      refine va_callv (va_runV (As := [.int (nI k), .int 3, .int ((Q 8 k) + (Q 5 k))]) (rest := []) ⟨hx, hb, hml, hown, hts⟩ (met_X6_put l D cI cZ cL mo m4 m5 m6 m7 m8 m9 th nb nq nr (enP Q) k 3 ((Q 8 k) + (Q 5 k)) (by first | assumption | omega) (by first | assumption | omega)) (cwV 3 hts gX6_toil_X6_put rfl rfl rfl (by decide +kernel) ⟨Nat.le_of_ble_eq_true rfl, Nat.le_of_ble_eq_true rfl⟩) (gw_pvw hK hP hD (wc := [(mo, .inr (6, [.int th, .int (nI nb), .int (nI nq), .int (nI nr), .ref m4, .ref m5, .ref m6, .ref m7, .ref m8, .ref m9])), (m6, .inl (cI, 24, .inl (enP Q)))]) [0, 2] (by decide) rfl rfl 6 rfl rfl rfl) rfl rfl hl.1 rfl (lv_room (Nat.le_of_ble_eq_true rfl)) dX6_toil_40 ⟨Nat.zero_le _, Nat.zero_le _⟩) hS (fun q _ h => hFc q h) hFc (fun _ t H1 locs ht hvm hw hB hz1 hk1 hS => ?_)
      rw [ht] at hB
      obtain ⟨hP, hD⟩ := gw_upd (wc := [(mo, .inr (6, [.int th, .int (nI nb), .int (nI nq), .int (nI nr), .ref m4, .ref m5, .ref m6, .ref m7, .ref m8, .ref m9])), (m6, .inl (cI, 24, .inl (enP Q)))]) (w1 := [(mo, .inr (6, [.int th, .int (nI nb), .int (nI nq), .int (nI nr), .ref m4, .ref m5, .ref m6, .ref m7, .ref m8, .ref m9])), (m6, .inl (cI, 24, .inl (upd (enP Q) (4 * k + 3) ((Q 8 k) + (Q 5 k)))))]) (ws' := [(mo, .inr (6, [.int th, .int (nI nb), .int (nI nq), .int (nI nr), .ref m4, .ref m5, .ref m6, .ref m7, .ref m8, .ref m9])), (m5, .inl (cI, 20, .inl (enR Q))), (m6, .inl (cI, 24, .inl (upd (enP Q) (4 * k + 3) ((Q 8 k) + (Q 5 k))))), (m7, .inl (cI, 300, .inl (enS Q))), (m9, .inl (cI, 3, .inl (enN day co nw)))]) hP hD [0, 2] rfl rfl hk1 hB rfl
      generalize H1 = H at hP hS ⊢
      have hw_13 : upd (enP Q) (4 * k + 3) ((Q 8 k) + (Q 5 k)) = enP (pk Q 8 (upd (Q 8) k (Q 8 k + Q 5 k))) := (enP_p Q k 3 _ (by decide))
      rw [hw_13] at hP hD
      refine lv_aload_n hx hb dX6_toil_43 rfl (lv_at hl 1 rfl) ?_
      refine lv_iload_n hx hb dX6_toil_44 rfl (lv_at hl 2 rfl) ?_
      refine lv_iconst (v := 2) hx hb dX6_toil_45 (by decide) ?_
      refine lv_bipush (v := 100) hx hb dX6_toil_46 (by decide) ?_
      refine lv_aload_n hx hb dX6_toil_48 rfl (lv_at hl 1 rfl) ?_
      refine lv_iload_n hx hb dX6_toil_49 rfl (lv_at hl 2 rfl) ?_
      refine lv_iconst (v := 2) hx hb dX6_toil_50 (by decide) ?_
      refine va_calli (va_runV (As := [.int (nI k), .int 2]) (rest := [.int 100, .int 2, .int (nI k), .ref mo]) ⟨hx, hb, hml, hown, hts⟩ (met_X6_pe l D cI cZ cL mo m4 m5 m6 m7 m8 m9 th nb nq nr (enP (pk Q 8 (upd (Q 8) k (Q 8 k + Q 5 k)))) k 2 (by first | assumption | omega) (by first | assumption | omega)) (cwV 2 hts gX6_toil_X6_pe rfl rfl rfl (by decide +kernel) ⟨Nat.le_of_ble_eq_true rfl, Nat.le_of_ble_eq_true rfl⟩) (gw_pvr hK hP (wc := [(mo, .inr (6, [.int th, .int (nI nb), .int (nI nq), .int (nI nr), .ref m4, .ref m5, .ref m6, .ref m7, .ref m8, .ref m9])), (m6, .inl (cI, 24, .inl (enP (pk Q 8 (upd (Q 8) k (Q 8 k + Q 5 k))))))]) [0, 2] rfl 6 rfl rfl rfl) rfl rfl hl.1 rfl (lv_room (Nat.le_of_ble_eq_true rfl)) dX6_toil_51 ⟨Nat.zero_le _, Nat.zero_le _⟩) hS (fun _ _ z => z.elim) (fun _ z => z.elim) (fun r_15 _ t H1 locs ht hvm hw hB hz1 hk1 hS => ?_)
      have hP := gw_ro hP hk1
      generalize H1 = H at hP hS ⊢
      subst hw
      refine gw_top (y := (pk Q 8 (upd (Q 8) k (Q 8 k + Q 5 k))) 7 k) (enP_2 (pk Q 8 (upd (Q 8) k (Q 8 k + Q 5 k))) k) ?_
      refine gw_top (y := Q 7 k) rfl ?_
      refine lv_aload_n hx hb dX6_toil_54 rfl (lv_at hl 1 rfl) ?_
      refine lv_iload_n hx hb dX6_toil_55 rfl (lv_at hl 0 rfl) ?_
      refine lv_iconst (v := 0) hx hb dX6_toil_56 (by decide) ?_
      refine va_calli (va_runV (As := [.int (nI b), .int 0]) (rest := [.int (Q 7 k), .int 100, .int 2, .int (nI k), .ref mo]) ⟨hx, hb, hml, hown, hts⟩ (met_X6_ro l D cI cZ cL mo m4 m5 m6 m7 m8 m9 th nb nq nr (enR Q) b 0 (by first | assumption | omega) (by first | assumption | omega)) (cwV 2 hts gX6_toil_X6_ro rfl rfl rfl (by decide +kernel) ⟨Nat.le_of_ble_eq_true rfl, Nat.le_of_ble_eq_true rfl⟩) (gw_pvr hK hP (wc := [(mo, .inr (6, [.int th, .int (nI nb), .int (nI nq), .int (nI nr), .ref m4, .ref m5, .ref m6, .ref m7, .ref m8, .ref m9])), (m5, .inl (cI, 20, .inl (enR Q)))]) [0, 1] rfl 6 rfl rfl rfl) rfl rfl hl.1 rfl (lv_room (Nat.le_of_ble_eq_true rfl)) dX6_toil_57 ⟨Nat.zero_le _, Nat.zero_le _⟩) hS (fun _ _ z => z.elim) (fun _ z => z.elim) (fun r_17 _ t H1 locs ht hvm hw hB hz1 hk1 hS => ?_)
      have hP := gw_ro hP hk1
      generalize H1 = H at hP hS ⊢
      subst hw
      refine gw_top (y := Q 1 b) (enR_0 Q b) ?_
      refine lv_iadd hx hb dX6_toil_60 ?_
      refine lv_iconst (v := 1) hx hb dX6_toil_61 (by decide) ?_
      refine lv_iadd hx hb dX6_toil_62 ?_
      refine va_mmin (own := RX6) hx hb (by rw [hml]; exact hl.1.symm) hown (hts _ wd_X6_toil_0) (hts _ wd_X6_toil_1) (hts _ wd_X6_toil_2) (hts _ wd_X6_toil_3) (Nat.le_of_ble_eq_true rfl) (Nat.le_of_ble_eq_true rfl) (Nat.zero_le _) (Nat.zero_le _) dX6_toil_63 ?_
      have hFc := gw_free (wc := [(mo, .inr (6, [.int th, .int (nI nb), .int (nI nq), .int (nI nr), .ref m4, .ref m5, .ref m6, .ref m7, .ref m8, .ref m9])), (m6, .inl (cI, 24, .inl (enP (pk Q 8 (upd (Q 8) k (Q 8 k + Q 5 k))))))]) hD [0, 2] rfl
      refine va_callv (va_runV (As := [.int (nI k), .int 2, .int (if (((Q 7 k) + (Q 1 b)) + 1) < 100 then (((Q 7 k) + (Q 1 b)) + 1) else 100)]) (rest := []) ⟨hx, hb, hml, hown, hts⟩ (met_X6_put l D cI cZ cL mo m4 m5 m6 m7 m8 m9 th nb nq nr (enP (pk Q 8 (upd (Q 8) k (Q 8 k + Q 5 k)))) k 2 (if (((Q 7 k) + (Q 1 b)) + 1) < 100 then (((Q 7 k) + (Q 1 b)) + 1) else 100) (by first | assumption | omega) (by first | assumption | omega)) (cwV 3 hts gX6_toil_X6_put rfl rfl rfl (by decide +kernel) ⟨Nat.le_of_ble_eq_true rfl, Nat.le_of_ble_eq_true rfl⟩) (gw_pvw hK hP hD (wc := [(mo, .inr (6, [.int th, .int (nI nb), .int (nI nq), .int (nI nr), .ref m4, .ref m5, .ref m6, .ref m7, .ref m8, .ref m9])), (m6, .inl (cI, 24, .inl (enP (pk Q 8 (upd (Q 8) k (Q 8 k + Q 5 k))))))]) [0, 2] (by decide) rfl rfl 6 rfl rfl rfl) rfl rfl hl.1 rfl (lv_room (Nat.le_of_ble_eq_true rfl)) dX6_toil_66 ⟨Nat.zero_le _, Nat.zero_le _⟩) hS (fun q _ h => hFc q h) hFc (fun _ t H1 locs ht hvm hw hB hz1 hk1 hS => ?_)
      rw [ht] at hB
      obtain ⟨hP, hD⟩ := gw_upd (wc := [(mo, .inr (6, [.int th, .int (nI nb), .int (nI nq), .int (nI nr), .ref m4, .ref m5, .ref m6, .ref m7, .ref m8, .ref m9])), (m6, .inl (cI, 24, .inl (enP (pk Q 8 (upd (Q 8) k (Q 8 k + Q 5 k))))))]) (w1 := [(mo, .inr (6, [.int th, .int (nI nb), .int (nI nq), .int (nI nr), .ref m4, .ref m5, .ref m6, .ref m7, .ref m8, .ref m9])), (m6, .inl (cI, 24, .inl (upd (enP (pk Q 8 (upd (Q 8) k (Q 8 k + Q 5 k)))) (4 * k + 2) (if (((Q 7 k) + (Q 1 b)) + 1) < 100 then (((Q 7 k) + (Q 1 b)) + 1) else 100))))]) (ws' := [(mo, .inr (6, [.int th, .int (nI nb), .int (nI nq), .int (nI nr), .ref m4, .ref m5, .ref m6, .ref m7, .ref m8, .ref m9])), (m5, .inl (cI, 20, .inl (enR Q))), (m6, .inl (cI, 24, .inl (upd (enP (pk Q 8 (upd (Q 8) k (Q 8 k + Q 5 k)))) (4 * k + 2) (if (((Q 7 k) + (Q 1 b)) + 1) < 100 then (((Q 7 k) + (Q 1 b)) + 1) else 100)))), (m7, .inl (cI, 300, .inl (enS Q))), (m9, .inl (cI, 3, .inl (enN day co nw)))]) hP hD [0, 2] rfl rfl hk1 hB rfl
      generalize H1 = H at hP hS ⊢
      have hw_20 : upd (enP (pk Q 8 (upd (Q 8) k (Q 8 k + Q 5 k)))) (4 * k + 2) (if (((Q 7 k) + (Q 1 b)) + 1) < 100 then (((Q 7 k) + (Q 1 b)) + 1) else 100) = enP (gToil Q k b) := ((enP_p _ k 2 _ (by decide)).trans (enP_ext rfl rfl (by show upd (Q 7) k _ = upd (Q 7) k _; rw [Int32.add_assoc]) rfl))
      rw [hw_20] at hP hD
      have hw_21 : enR Q = enR (gToil Q k b) := (enR_ext rfl rfl rfl rfl)
      rw [hw_21] at hP hD
      have hw_22 : enS Q = enS (gToil Q k b) := (enS_ext rfl rfl rfl rfl rfl)
      rw [hw_22] at hP hD
      refine gw_loop (fun (zz : Nat × (Nat → Nat → Int32) × Nat) H locs ls => match zz with | (kq, Q2, nw2) => va_P D vwCl [(mo, .inr (6, [.int th, .int (nI nb), .int (nI nq), .int (nI nr), .ref m4, .ref m5, .ref m6, .ref m7, .ref m8, .ref m9])), (m5, .inl (cI, 20, .inl (enR Q2))), (m6, .inl (cI, 24, .inl (enP Q2))), (m7, .inl (cI, 300, .inl (enS Q2))), (m9, .inl (cI, 3, .inl (enN day co nw2)))] H ∧ va_D A [(mo, .inr (6, [.int th, .int (nI nb), .int (nI nq), .int (nI nr), .ref m4, .ref m5, .ref m6, .ref m7, .ref m8, .ref m9])), (m5, .inl (cI, 20, .inl (enR Q2))), (m6, .inl (cI, 24, .inl (enP Q2))), (m7, .inl (cI, 300, .inl (enS Q2))), (m9, .inl (cI, 3, .inl (enN day co nw2)))] ∧ va_S A s.heap H locs ∧ lv_has ls 3 [(2, .int (nI b)), (0, .ref mo), (1, .int (nI k))] ∧ (nw2 + kq = 60) ∧ (gWk k b (gSize (Q 5 k) day) kq Q2 nw2 = gWork Q nw day k) ∧ (Q2 5 k = Q 5 k)) (fun (zz : Nat × (Nat → Nat → Int32) × Nat) => match zz with | (kq, Q2, nw2) => kq) (60 - nw, gToil Q k b, nw) ⟨hP, hD, hS, lv_sub hl [0, 1, 2] rfl, (by omega), (by unfold gWork; rw [if_neg c1, if_neg (Int32.not_le.mpr c2), hbe, nI_clamp (by omega)]), rfl⟩ ?_
      rintro ⟨kq, Q2, nw2⟩ ih H locs ls ⟨hP, hD, hS, hl, hin, hF, h5⟩
      have hP : va_P D vwCl [(mo, .inr (6, [.int th, .int (nI nb), .int (nI nq), .int (nI nr), .ref m4, .ref m5, .ref m6, .ref m7, .ref m8, .ref m9])), (m5, .inl (cI, 20, .inl (enR Q2))), (m6, .inl (cI, 24, .inl (enP Q2))), (m7, .inl (cI, 300, .inl (enS Q2))), (m9, .inl (cI, 3, .inl (enN day co nw2)))] H := hP
      have hD : va_D A [(mo, .inr (6, [.int th, .int (nI nb), .int (nI nq), .int (nI nr), .ref m4, .ref m5, .ref m6, .ref m7, .ref m8, .ref m9])), (m5, .inl (cI, 20, .inl (enR Q2))), (m6, .inl (cI, 24, .inl (enP Q2))), (m7, .inl (cI, 300, .inl (enS Q2))), (m9, .inl (cI, 3, .inl (enN day co nw2)))] := hD
      have hl : lv_has ls 3 [(2, .int (nI b)), (0, .ref mo), (1, .int (nI k))] := hl
      have hin : nw2 + kq = 60 := hin
      have hF : gWk k b (gSize (Q 5 k) day) kq Q2 nw2 = gWork Q nw day k := hF
      have h5 : Q2 5 k = Q 5 k := h5
      have ih69 := ih
      refine lv_aload_n hx hb dX6_toil_69 rfl (lv_at hl 1 rfl) ?_
      refine lv_iload_n hx hb dX6_toil_70 rfl (lv_at hl 2 rfl) ?_
      refine lv_iconst (v := 3) hx hb dX6_toil_71 (by decide) ?_
      refine va_calli (va_runV (As := [.int (nI k), .int 3]) (rest := []) ⟨hx, hb, hml, hown, hts⟩ (met_X6_pe l D cI cZ cL mo m4 m5 m6 m7 m8 m9 th nb nq nr (enP Q2) k 3 (by first | assumption | omega) (by first | assumption | omega)) (cwV 2 hts gX6_toil_X6_pe rfl rfl rfl (by decide +kernel) ⟨Nat.le_of_ble_eq_true rfl, Nat.le_of_ble_eq_true rfl⟩) (gw_pvr hK hP (wc := [(mo, .inr (6, [.int th, .int (nI nb), .int (nI nq), .int (nI nr), .ref m4, .ref m5, .ref m6, .ref m7, .ref m8, .ref m9])), (m6, .inl (cI, 24, .inl (enP Q2)))]) [0, 2] rfl 6 rfl rfl rfl) rfl rfl hl.1 rfl (lv_room (Nat.le_of_ble_eq_true rfl)) dX6_toil_72 ⟨Nat.zero_le _, Nat.zero_le _⟩) hS (fun _ _ z => z.elim) (fun _ z => z.elim) (fun r_24 _ t H1 locs ht hvm hw hB hz1 hk1 hS => ?_)
      have hP := gw_ro hP hk1
      generalize H1 = H at hP hS ⊢
      subst hw
      refine gw_top (y := Q2 8 k) (enP_3 Q2 k) ?_
      refine lv_bipush (v := 10) hx hb dX6_toil_75 (by decide) ?_
      refine lv_icmp_lt (tgt := 109) hx hb dX6_toil_77 (by decide) (fun c3 => ?_) (fun c3 => ?_)
      · skip
        have hE : gWork Q nw day k = (Q2, nw2) := by rw [← hF]; cases kq <;> simp [gWk, c3]
        subst hAe
        exact W.vret hx hb hr (fun t ht hW => ⟨⟨(), rfl, trivial, (by rw [hE]; exact gw_hh ht hP)⟩, hS.F ht⟩) hS.2.2 dX6_toil_109
      · skip
        refine lv_aload_n hx hb dX6_toil_80 rfl (lv_at hl 1 rfl) ?_
        refine lv_iload_n hx hb dX6_toil_81 rfl (lv_at hl 0 rfl) ?_
        refine lv_iconst (v := 2) hx hb dX6_toil_82 (by decide) ?_
        refine va_calli (va_runV (As := [.int (nI b), .int 2]) (rest := []) ⟨hx, hb, hml, hown, hts⟩ (met_X6_ro l D cI cZ cL mo m4 m5 m6 m7 m8 m9 th nb nq nr (enR Q2) b 2 (by first | assumption | omega) (by first | assumption | omega)) (cwV 2 hts gX6_toil_X6_ro rfl rfl rfl (by decide +kernel) ⟨Nat.le_of_ble_eq_true rfl, Nat.le_of_ble_eq_true rfl⟩) (gw_pvr hK hP (wc := [(mo, .inr (6, [.int th, .int (nI nb), .int (nI nq), .int (nI nr), .ref m4, .ref m5, .ref m6, .ref m7, .ref m8, .ref m9])), (m5, .inl (cI, 20, .inl (enR Q2)))]) [0, 1] rfl 6 rfl rfl rfl) rfl rfl hl.1 rfl (lv_room (Nat.le_of_ble_eq_true rfl)) dX6_toil_83 ⟨Nat.zero_le _, Nat.zero_le _⟩) hS (fun _ _ z => z.elim) (fun _ z => z.elim) (fun r_27 _ t H1 locs ht hvm hw hB hz1 hk1 hS => ?_)
        have hP := gw_ro hP hk1
        generalize H1 = H at hP hS ⊢
        subst hw
        refine gw_top (y := Q2 3 b) (enR_2 Q2 b) ?_
        refine lv_if_le (tgt := 109) hx hb dX6_toil_86 (by decide) (fun c4 => ?_) (fun c4 => ?_)
        · skip
          have hE : gWork Q nw day k = (Q2, nw2) := by rw [← hF]; cases kq <;> simp [gWk, c3, c4]
          subst hAe
          exact W.vret hx hb hr (fun t ht hW => ⟨⟨(), rfl, trivial, (by rw [hE]; exact gw_hh ht hP)⟩, hS.F ht⟩) hS.2.2 dX6_toil_109
        · skip
          refine lv_aload_n hx hb dX6_toil_89 rfl (lv_at hl 1 rfl) ?_
          refine va_get (D := D) (ci := 6) (v := .ref m9) (C := RX6) (T := TX6) (N := 10) hx hb hts wc_X6_toil_X6 hown hK hP 0 rfl rfl 9 (by decide) (hts _ wd_X6_toil_5) (fun _ h9 => h9) rfl dX6_toil_90 ?_
          refine lv_iconst (v := 2) hx hb dX6_toil_93 (by decide) ?_
          refine gw_top (y := nI 2) rfl ?_
          refine gw_iald hx hb hK hP 4 0 (k := 2) rfl rfl (by omega) (by decide) dX6_toil_94 ?_
          refine gw_top (y := nI nw2) rfl ?_
          refine lv_bipush (v := 60) hx hb dX6_toil_95 (by decide) ?_
          refine lv_icmp_ge (tgt := 109) hx hb dX6_toil_97 (by decide) (fun c5 => ?_) (fun c5 => ?_)
          · skip
            have hk0 : kq = 0 := by have := (nI_leI (a := 60) (by decide) (by omega)).mp c5; omega
            have hE : gWork Q nw day k = (Q2, nw2) := by rw [← hF, hk0]; rfl
            subst hAe
            exact W.vret hx hb hr (fun t ht hW => ⟨⟨(), rfl, trivial, (by rw [hE]; exact gw_hh ht hP)⟩, hS.F ht⟩) hS.2.2 dX6_toil_109
          · skip
            obtain ⟨kq, rfl⟩ : ∃ k2, kq = k2 + 1 := ⟨kq - 1, by have h60 : ¬ 60 ≤ nw2 := (fun h => c5 (nI_le (a := 60) h (by omega))); omega⟩
            refine lv_aload_n hx hb dX6_toil_100 rfl (lv_at hl 1 rfl) ?_
            refine lv_iload_n hx hb dX6_toil_101 rfl (lv_at hl 2 rfl) ?_
            refine lv_iload_n hx hb dX6_toil_102 rfl (lv_at hl 0 rfl) ?_
            have hFc := gw_free (wc := [(mo, .inr (6, [.int th, .int (nI nb), .int (nI nq), .int (nI nr), .ref m4, .ref m5, .ref m6, .ref m7, .ref m8, .ref m9])), (m5, .inl (cI, 20, .inl (enR Q2))), (m6, .inl (cI, 24, .inl (enP Q2))), (m7, .inl (cI, 300, .inl (enS Q2))), (m9, .inl (cI, 3, .inl (enN day co nw2)))]) hD [0, 1, 2, 3, 4] rfl
            refine va_callv (va_runV (As := [.int (nI k), .int (nI b)]) (rest := []) ⟨hx, hb, hml, hown, hts⟩ (met_X6_cut l D cI cZ cL mo m4 m5 m6 m7 m8 m9 th nb nq nr Q2 day co nw2 k b (by first | assumption | omega) (by first | assumption | omega) (by first | assumption | omega)) (cwV 2 hts gX6_toil_X6_cut rfl rfl rfl (by decide +kernel) ⟨Nat.le_of_ble_eq_true rfl, Nat.le_of_ble_eq_true rfl⟩) (gw_pvw hK hP hD (wc := [(mo, .inr (6, [.int th, .int (nI nb), .int (nI nq), .int (nI nr), .ref m4, .ref m5, .ref m6, .ref m7, .ref m8, .ref m9])), (m5, .inl (cI, 20, .inl (enR Q2))), (m6, .inl (cI, 24, .inl (enP Q2))), (m7, .inl (cI, 300, .inl (enS Q2))), (m9, .inl (cI, 3, .inl (enN day co nw2)))]) [0, 1, 2, 3, 4] (by decide) rfl rfl 6 rfl rfl rfl) rfl rfl hl.1 rfl (lv_room (Nat.le_of_ble_eq_true rfl)) dX6_toil_103 ⟨Nat.zero_le _, Nat.zero_le _⟩) hS (fun q _ h => hFc q h) hFc (fun _ t H1 locs ht hvm hw hB hz1 hk1 hS => ?_)
            rw [ht] at hB
            obtain ⟨hP, hD⟩ := gw_upd (wc := [(mo, .inr (6, [.int th, .int (nI nb), .int (nI nq), .int (nI nr), .ref m4, .ref m5, .ref m6, .ref m7, .ref m8, .ref m9])), (m5, .inl (cI, 20, .inl (enR Q2))), (m6, .inl (cI, 24, .inl (enP Q2))), (m7, .inl (cI, 300, .inl (enS Q2))), (m9, .inl (cI, 3, .inl (enN day co nw2)))]) (w1 := [(mo, .inr (6, [.int th, .int (nI nb), .int (nI nq), .int (nI nr), .ref m4, .ref m5, .ref m6, .ref m7, .ref m8, .ref m9])), (m5, .inl (cI, 20, .inl (enR (gCutW Q2 nw2 k b (gSize (Q2 5 k) day))))), (m6, .inl (cI, 24, .inl (enP (gCutW Q2 nw2 k b (gSize (Q2 5 k) day))))), (m7, .inl (cI, 300, .inl (enS (gCutW Q2 nw2 k b (gSize (Q2 5 k) day))))), (m9, .inl (cI, 3, .inl (enN day co (nw2 + 1))))]) (ws' := [(mo, .inr (6, [.int th, .int (nI nb), .int (nI nq), .int (nI nr), .ref m4, .ref m5, .ref m6, .ref m7, .ref m8, .ref m9])), (m5, .inl (cI, 20, .inl (enR (gCutW Q2 nw2 k b (gSize (Q2 5 k) day))))), (m6, .inl (cI, 24, .inl (enP (gCutW Q2 nw2 k b (gSize (Q2 5 k) day))))), (m7, .inl (cI, 300, .inl (enS (gCutW Q2 nw2 k b (gSize (Q2 5 k) day))))), (m9, .inl (cI, 3, .inl (enN day co (nw2 + 1))))]) hP hD [0, 1, 2, 3, 4] rfl rfl hk1 hB rfl
            generalize H1 = H at hP hS ⊢
            refine lv_goto (tgt := 69) hx hb dX6_toil_106 (by decide) ?_
            rw [h5] at hP hD
            exact ih69 (kq, gCutW Q2 nw2 k b (gSize (Q 5 k) day), nw2 + 1) H locs ls (by dsimp only; omega) ⟨hP, hD, hS, lv_sub hl [0, 1, 2] rfl, (by omega), (by rw [← hF]; simp [gWk, c3, c4]), h5⟩
    · skip
      have hE : gWork Q nw day k = (Q, nw) := by unfold gWork; rw [if_neg c1, if_pos (Int32.not_lt.mp c2)]
      subst hAe
      exact W.vret hx hb hr (fun t ht hW => ⟨⟨(), rfl, trivial, (by rw [hE]; exact gw_hh ht hP)⟩, hS.F ht⟩) hS.2.2 dX6_toil_23

theorem wd_X6_breathe_0 : (.methodLink RX6 119 Lib.Math.max.name : Cond) ∈ wsX6_breathe := by decide +kernel
theorem wd_X6_breathe_1 : (.static Lib.Math.max.name : Cond) ∈ wsX6_breathe := by decide +kernel
theorem wd_X6_breathe_2 : (.initialized "java/lang/Math" : Cond) ∈ wsX6_breathe := by decide +kernel
theorem wd_X6_breathe_3 : (.code Lib.Math.max.name Lib.Math.max.code 2 (some .int) : Cond) ∈ wsX6_breathe := by decide +kernel
set_option maxHeartbeats 4000000 in
set_option maxRecDepth 100000 in
theorem met_X6_breathe (l : Launch) (D : va_G) (cI cZ cL : ClassId) (mo : Nat) (m4 : Nat) (m5 : Nat) (m6 : Nat) (m7 : Nat) (m8 : Nat) (m9 : Nat) (th : Int32) (nb : Nat) (nq : Nat) (nr : Nat) (Q : Nat → Nat → Int32) (k : Nat) (hk : k < 6) (hdu : 0 ≤ Q 7 k ∧ Q 7 k ≤ 100) : Met l yX6_breathe wsX6_breathe ({ frames := 1, cells := 0, slots := 0, locals := 23 }) (gPw [.ref mo, .int (nI k)] D [(mo, .inr (6, [.int th, .int (nI nb), .int (nI nq), .int (nI nr), .ref m4, .ref m5, .ref m6, .ref m7, .ref m8, .ref m9])), (m6, .inl (cI, 24, .inl (enP Q)))] (gT cI cZ cL)) (va_Qv (fun (_ : Unit) => True) (fun _ t => va_P D vwCl [(mo, .inr (6, [.int th, .int (nI nb), .int (nI nq), .int (nI nr), .ref m4, .ref m5, .ref m6, .ref m7, .ref m8, .ref m9])), (m6, .inl (cI, 24, .inl (enP (pk Q 7 (upd (Q 7) k (gLose (Q 6 k) (Q 7 k)))))))] t.heap) (gA (gL [(mo, .inr (6, [.int th, .int (nI nb), .int (nI nq), .int (nI nr), .ref m4, .ref m5, .ref m6, .ref m7, .ref m8, .ref m9])), (m6, .inl (cI, 24, .inl (enP Q)))]))) 0 0 (gA (gL [(mo, .inr (6, [.int th, .int (nI nb), .int (nI nq), .int (nI nr), .ref m4, .ref m5, .ref m6, .ref m7, .ref m8, .ref m9])), (m6, .inl (cI, 24, .inl (enP Q)))])) := by
  refine Met.ofW (cc := cX6_breathe) (maxL := 3) (ret := none) (by decide +kernel) rfl ?_
  intro p e s m args below meth c s₁ B hml hv
  obtain ⟨rfl, hP, hK, hD0⟩ := hv
  have hx := B.exec
  have hb := B.bytes
  have hr := B.returns
  have hts := atoms_spec (ws := wsX6_breathe) B.pre
  have hown : s.vm.findClass RX6 = some m.cls := findClass_of_methodNamed B.named
  have hlocks := B.notSynchronized
  have hD := gw_self hD0
  generalize hAe : gA (gL [(mo, .inr (6, [.int th, .int (nI nb), .int (nI nq), .int (nI nr), .ref m4, .ref m5, .ref m6, .ref m7, .ref m8, .ref m9])), (m6, .inl (cI, 24, .inl (enP Q)))]) = A at hD ⊢
  have hS : va_S A s.heap s.heap [] := va_S.rf
  have hP : va_P D vwCl [(mo, .inr (6, [.int th, .int (nI nb), .int (nI nq), .int (nI nr), .ref m4, .ref m5, .ref m6, .ref m7, .ref m8, .ref m9])), (m6, .inl (cI, 24, .inl (enP Q)))] s.heap := hP
  have hl := lv_entry ([.ref mo, .int (nI k)]) (n := 3) (Nat.le_of_ble_eq_true rfl)
  rw [lg_entry_eq]
  generalize (lg_sl ([.ref mo, .int (nI k)]) ++ List.replicate (3 - (lg_sl ([.ref mo, .int (nI k)])).length) Slot.unset).toArray = ls at hl ⊢
  have hl : lv_has ls 3 [(0, .ref mo), (1, .int (nI k))] := hl
  refine lv_aload_n hx hb dX6_breathe_0 rfl (lv_at hl 0 rfl) ?_
  refine lv_iload_n hx hb dX6_breathe_1 rfl (lv_at hl 1 rfl) ?_
  refine lv_iconst (v := 1) hx hb dX6_breathe_2 (by decide) ?_
  refine va_calli (va_runV (As := [.int (nI k), .int 1]) (rest := []) ⟨hx, hb, hml, hown, hts⟩ (met_X6_pe l D cI cZ cL mo m4 m5 m6 m7 m8 m9 th nb nq nr (enP Q) k 1 (by first | assumption | omega) (by first | assumption | omega)) (cwV 2 hts gX6_breathe_X6_pe rfl rfl rfl (by decide +kernel) ⟨Nat.le_of_ble_eq_true rfl, Nat.le_of_ble_eq_true rfl⟩) (gw_pvr hK hP (wc := [(mo, .inr (6, [.int th, .int (nI nb), .int (nI nq), .int (nI nr), .ref m4, .ref m5, .ref m6, .ref m7, .ref m8, .ref m9])), (m6, .inl (cI, 24, .inl (enP Q)))]) [0, 1] rfl 6 rfl rfl rfl) rfl rfl hl.1 rfl (lv_room (Nat.le_of_ble_eq_true rfl)) dX6_breathe_3 ⟨Nat.zero_le _, Nat.zero_le _⟩) hS (fun _ _ z => z.elim) (fun _ z => z.elim) (fun r_2 _ t H1 locs ht hvm hw hB hz1 hk1 hS => ?_)
  have hP := gw_ro hP hk1
  generalize H1 = H at hP hS ⊢
  subst hw
  refine gw_top (y := Q 6 k) (enP_1 Q k) ?_
  refine lv_iconst (v := (-1)) hx hb dX6_breathe_6 (by decide) ?_
  refine lv_icmp_ne (tgt := 15) hx hb dX6_breathe_7 (by decide) (fun c1 => ?_) (fun c1 => ?_)
  · skip
    refine lv_aload_n hx hb dX6_breathe_15 rfl (lv_at hl 0 rfl) ?_
    refine lv_iload_n hx hb dX6_breathe_16 rfl (lv_at hl 1 rfl) ?_
    refine lv_iconst (v := 2) hx hb dX6_breathe_17 (by decide) ?_
    refine va_calli (va_runV (As := [.int (nI k), .int 2]) (rest := []) ⟨hx, hb, hml, hown, hts⟩ (met_X6_pe l D cI cZ cL mo m4 m5 m6 m7 m8 m9 th nb nq nr (enP Q) k 2 (by first | assumption | omega) (by first | assumption | omega)) (cwV 2 hts gX6_breathe_X6_pe rfl rfl rfl (by decide +kernel) ⟨Nat.le_of_ble_eq_true rfl, Nat.le_of_ble_eq_true rfl⟩) (gw_pvr hK hP (wc := [(mo, .inr (6, [.int th, .int (nI nb), .int (nI nq), .int (nI nr), .ref m4, .ref m5, .ref m6, .ref m7, .ref m8, .ref m9])), (m6, .inl (cI, 24, .inl (enP Q)))]) [0, 1] rfl 6 rfl rfl rfl) rfl rfl hl.1 rfl (lv_room (Nat.le_of_ble_eq_true rfl)) dX6_breathe_18 ⟨Nat.zero_le _, Nat.zero_le _⟩) hS (fun _ _ z => z.elim) (fun _ z => z.elim) (fun r_5 _ t H1 locs ht hvm hw hB hz1 hk1 hS => ?_)
    have hP := gw_ro hP hk1
    generalize H1 = H at hP hS ⊢
    subst hw
    refine gw_top (y := Q 7 k) (enP_2 Q k) ?_
    refine lv_bipush (v := 60) hx hb dX6_breathe_21 (by decide) ?_
    refine lv_icmp_lt (tgt := 30) hx hb dX6_breathe_23 (by decide) (fun c2 => ?_) (fun c2 => ?_)
    · skip
      refine lv_iconst (v := 0) hx hb dX6_breathe_30 (by decide) ?_
      refine lv_istore_n (lv' := [(2, .int 0), (0, .ref mo), (1, .int (nI k))]) hx hb dX6_breathe_31 rfl hl (by decide) rfl (fun ls hl => ?_)
      refine lv_aload_n hx hb dX6_breathe_32 rfl (lv_at hl 1 rfl) ?_
      refine lv_iload_n hx hb dX6_breathe_33 rfl (lv_at hl 2 rfl) ?_
      refine lv_iconst (v := 2) hx hb dX6_breathe_34 (by decide) ?_
      refine lv_iconst (v := 0) hx hb dX6_breathe_35 (by decide) ?_
      refine lv_aload_n hx hb dX6_breathe_36 rfl (lv_at hl 1 rfl) ?_
      refine lv_iload_n hx hb dX6_breathe_37 rfl (lv_at hl 2 rfl) ?_
      refine lv_iconst (v := 2) hx hb dX6_breathe_38 (by decide) ?_
      refine va_calli (va_runV (As := [.int (nI k), .int 2]) (rest := [.int 0, .int 2, .int (nI k), .ref mo]) ⟨hx, hb, hml, hown, hts⟩ (met_X6_pe l D cI cZ cL mo m4 m5 m6 m7 m8 m9 th nb nq nr (enP Q) k 2 (by first | assumption | omega) (by first | assumption | omega)) (cwV 2 hts gX6_breathe_X6_pe rfl rfl rfl (by decide +kernel) ⟨Nat.le_of_ble_eq_true rfl, Nat.le_of_ble_eq_true rfl⟩) (gw_pvr hK hP (wc := [(mo, .inr (6, [.int th, .int (nI nb), .int (nI nq), .int (nI nr), .ref m4, .ref m5, .ref m6, .ref m7, .ref m8, .ref m9])), (m6, .inl (cI, 24, .inl (enP Q)))]) [0, 1] rfl 6 rfl rfl rfl) rfl rfl hl.1 rfl (lv_room (Nat.le_of_ble_eq_true rfl)) dX6_breathe_39 ⟨Nat.zero_le _, Nat.zero_le _⟩) hS (fun _ _ z => z.elim) (fun _ z => z.elim) (fun r_8 _ t H1 locs ht hvm hw hB hz1 hk1 hS => ?_)
      have hP := gw_ro hP hk1
      generalize H1 = H at hP hS ⊢
      subst hw
      refine gw_top (y := Q 7 k) (enP_2 Q k) ?_
      refine lv_iload_n hx hb dX6_breathe_42 rfl (lv_at hl 0 rfl) ?_
      refine lv_isub hx hb dX6_breathe_43 ?_
      refine va_mmax (own := RX6) hx hb (by rw [hml]; exact hl.1.symm) hown (hts _ wd_X6_breathe_0) (hts _ wd_X6_breathe_1) (hts _ wd_X6_breathe_2) (hts _ wd_X6_breathe_3) (Nat.le_of_ble_eq_true rfl) (Nat.le_of_ble_eq_true rfl) (Nat.zero_le _) (Nat.zero_le _) dX6_breathe_44 ?_
      have hFc := gw_free (wc := [(mo, .inr (6, [.int th, .int (nI nb), .int (nI nq), .int (nI nr), .ref m4, .ref m5, .ref m6, .ref m7, .ref m8, .ref m9])), (m6, .inl (cI, 24, .inl (enP Q)))]) hD [0, 1] rfl
      refine va_callv (va_runV (As := [.int (nI k), .int 2, .int (if 0 < ((Q 7 k) - 0) then ((Q 7 k) - 0) else 0)]) (rest := []) ⟨hx, hb, hml, hown, hts⟩ (met_X6_put l D cI cZ cL mo m4 m5 m6 m7 m8 m9 th nb nq nr (enP Q) k 2 (if 0 < ((Q 7 k) - 0) then ((Q 7 k) - 0) else 0) (by first | assumption | omega) (by first | assumption | omega)) (cwV 3 hts gX6_breathe_X6_put rfl rfl rfl (by decide +kernel) ⟨Nat.le_of_ble_eq_true rfl, Nat.le_of_ble_eq_true rfl⟩) (gw_pvw hK hP hD (wc := [(mo, .inr (6, [.int th, .int (nI nb), .int (nI nq), .int (nI nr), .ref m4, .ref m5, .ref m6, .ref m7, .ref m8, .ref m9])), (m6, .inl (cI, 24, .inl (enP Q)))]) [0, 1] (by decide) rfl rfl 6 rfl rfl rfl) rfl rfl hl.1 rfl (lv_room (Nat.le_of_ble_eq_true rfl)) dX6_breathe_47 ⟨Nat.zero_le _, Nat.zero_le _⟩) hS (fun q _ h => hFc q h) hFc (fun _ t H1 locs ht hvm hw hB hz1 hk1 hS => ?_)
      rw [ht] at hB
      obtain ⟨hP, hD⟩ := gw_upd (wc := [(mo, .inr (6, [.int th, .int (nI nb), .int (nI nq), .int (nI nr), .ref m4, .ref m5, .ref m6, .ref m7, .ref m8, .ref m9])), (m6, .inl (cI, 24, .inl (enP Q)))]) (w1 := [(mo, .inr (6, [.int th, .int (nI nb), .int (nI nq), .int (nI nr), .ref m4, .ref m5, .ref m6, .ref m7, .ref m8, .ref m9])), (m6, .inl (cI, 24, .inl (upd (enP Q) (4 * k + 2) (if 0 < ((Q 7 k) - 0) then ((Q 7 k) - 0) else 0))))]) (ws' := [(mo, .inr (6, [.int th, .int (nI nb), .int (nI nq), .int (nI nr), .ref m4, .ref m5, .ref m6, .ref m7, .ref m8, .ref m9])), (m6, .inl (cI, 24, .inl (upd (enP Q) (4 * k + 2) (if 0 < ((Q 7 k) - 0) then ((Q 7 k) - 0) else 0))))]) hP hD [0, 1] rfl rfl hk1 hB rfl
      generalize H1 = H at hP hS ⊢
      have hw_11 : upd (enP Q) (4 * k + 2) (if 0 < ((Q 7 k) - 0) then ((Q 7 k) - 0) else 0) = enP (pk Q 7 (upd (Q 7) k (gLose (Q 6 k) (Q 7 k)))) := ((enP_p Q k 2 _ (by decide)).trans (enP_ext rfl rfl (by show upd (Q 7) k _ = upd (Q 7) k _; congr 1; unfold gLose; first | (rw [if_pos c1]; done) | (rw [if_neg c1, if_pos (Int32.not_lt.mp c2)]; exact gLose_4 hdu (Int32.not_lt.mp c2)) | (rw [if_neg c1, if_neg (Int32.not_le.mpr c2)]; exact gLose_0 hdu)) rfl))
      rw [hw_11] at hP hD
      subst hAe
      exact W.vret hx hb hr (fun t ht hW => ⟨⟨(), rfl, trivial, gw_hh ht hP⟩, hS.F ht⟩) hS.2.2 dX6_breathe_50
    · skip
      refine lv_iconst (v := 4) hx hb dX6_breathe_26 (by decide) ?_
      refine lv_goto (tgt := 31) hx hb dX6_breathe_27 (by decide) ?_
      refine lv_istore_n (lv' := [(2, .int 4), (0, .ref mo), (1, .int (nI k))]) hx hb dX6_breathe_31 rfl hl (by decide) rfl (fun ls hl => ?_)
      refine lv_aload_n hx hb dX6_breathe_32 rfl (lv_at hl 1 rfl) ?_
      refine lv_iload_n hx hb dX6_breathe_33 rfl (lv_at hl 2 rfl) ?_
      refine lv_iconst (v := 2) hx hb dX6_breathe_34 (by decide) ?_
      refine lv_iconst (v := 0) hx hb dX6_breathe_35 (by decide) ?_
      refine lv_aload_n hx hb dX6_breathe_36 rfl (lv_at hl 1 rfl) ?_
      refine lv_iload_n hx hb dX6_breathe_37 rfl (lv_at hl 2 rfl) ?_
      refine lv_iconst (v := 2) hx hb dX6_breathe_38 (by decide) ?_
      refine va_calli (va_runV (As := [.int (nI k), .int 2]) (rest := [.int 0, .int 2, .int (nI k), .ref mo]) ⟨hx, hb, hml, hown, hts⟩ (met_X6_pe l D cI cZ cL mo m4 m5 m6 m7 m8 m9 th nb nq nr (enP Q) k 2 (by first | assumption | omega) (by first | assumption | omega)) (cwV 2 hts gX6_breathe_X6_pe rfl rfl rfl (by decide +kernel) ⟨Nat.le_of_ble_eq_true rfl, Nat.le_of_ble_eq_true rfl⟩) (gw_pvr hK hP (wc := [(mo, .inr (6, [.int th, .int (nI nb), .int (nI nq), .int (nI nr), .ref m4, .ref m5, .ref m6, .ref m7, .ref m8, .ref m9])), (m6, .inl (cI, 24, .inl (enP Q)))]) [0, 1] rfl 6 rfl rfl rfl) rfl rfl hl.1 rfl (lv_room (Nat.le_of_ble_eq_true rfl)) dX6_breathe_39 ⟨Nat.zero_le _, Nat.zero_le _⟩) hS (fun _ _ z => z.elim) (fun _ z => z.elim) (fun r_13 _ t H1 locs ht hvm hw hB hz1 hk1 hS => ?_)
      have hP := gw_ro hP hk1
      generalize H1 = H at hP hS ⊢
      subst hw
      refine gw_top (y := Q 7 k) (enP_2 Q k) ?_
      refine lv_iload_n hx hb dX6_breathe_42 rfl (lv_at hl 0 rfl) ?_
      refine lv_isub hx hb dX6_breathe_43 ?_
      refine va_mmax (own := RX6) hx hb (by rw [hml]; exact hl.1.symm) hown (hts _ wd_X6_breathe_0) (hts _ wd_X6_breathe_1) (hts _ wd_X6_breathe_2) (hts _ wd_X6_breathe_3) (Nat.le_of_ble_eq_true rfl) (Nat.le_of_ble_eq_true rfl) (Nat.zero_le _) (Nat.zero_le _) dX6_breathe_44 ?_
      have hFc := gw_free (wc := [(mo, .inr (6, [.int th, .int (nI nb), .int (nI nq), .int (nI nr), .ref m4, .ref m5, .ref m6, .ref m7, .ref m8, .ref m9])), (m6, .inl (cI, 24, .inl (enP Q)))]) hD [0, 1] rfl
      refine va_callv (va_runV (As := [.int (nI k), .int 2, .int (if 0 < ((Q 7 k) - 4) then ((Q 7 k) - 4) else 0)]) (rest := []) ⟨hx, hb, hml, hown, hts⟩ (met_X6_put l D cI cZ cL mo m4 m5 m6 m7 m8 m9 th nb nq nr (enP Q) k 2 (if 0 < ((Q 7 k) - 4) then ((Q 7 k) - 4) else 0) (by first | assumption | omega) (by first | assumption | omega)) (cwV 3 hts gX6_breathe_X6_put rfl rfl rfl (by decide +kernel) ⟨Nat.le_of_ble_eq_true rfl, Nat.le_of_ble_eq_true rfl⟩) (gw_pvw hK hP hD (wc := [(mo, .inr (6, [.int th, .int (nI nb), .int (nI nq), .int (nI nr), .ref m4, .ref m5, .ref m6, .ref m7, .ref m8, .ref m9])), (m6, .inl (cI, 24, .inl (enP Q)))]) [0, 1] (by decide) rfl rfl 6 rfl rfl rfl) rfl rfl hl.1 rfl (lv_room (Nat.le_of_ble_eq_true rfl)) dX6_breathe_47 ⟨Nat.zero_le _, Nat.zero_le _⟩) hS (fun q _ h => hFc q h) hFc (fun _ t H1 locs ht hvm hw hB hz1 hk1 hS => ?_)
      rw [ht] at hB
      obtain ⟨hP, hD⟩ := gw_upd (wc := [(mo, .inr (6, [.int th, .int (nI nb), .int (nI nq), .int (nI nr), .ref m4, .ref m5, .ref m6, .ref m7, .ref m8, .ref m9])), (m6, .inl (cI, 24, .inl (enP Q)))]) (w1 := [(mo, .inr (6, [.int th, .int (nI nb), .int (nI nq), .int (nI nr), .ref m4, .ref m5, .ref m6, .ref m7, .ref m8, .ref m9])), (m6, .inl (cI, 24, .inl (upd (enP Q) (4 * k + 2) (if 0 < ((Q 7 k) - 4) then ((Q 7 k) - 4) else 0))))]) (ws' := [(mo, .inr (6, [.int th, .int (nI nb), .int (nI nq), .int (nI nr), .ref m4, .ref m5, .ref m6, .ref m7, .ref m8, .ref m9])), (m6, .inl (cI, 24, .inl (upd (enP Q) (4 * k + 2) (if 0 < ((Q 7 k) - 4) then ((Q 7 k) - 4) else 0))))]) hP hD [0, 1] rfl rfl hk1 hB rfl
      generalize H1 = H at hP hS ⊢
      have hw_16 : upd (enP Q) (4 * k + 2) (if 0 < ((Q 7 k) - 4) then ((Q 7 k) - 4) else 0) = enP (pk Q 7 (upd (Q 7) k (gLose (Q 6 k) (Q 7 k)))) := ((enP_p Q k 2 _ (by decide)).trans (enP_ext rfl rfl (by show upd (Q 7) k _ = upd (Q 7) k _; congr 1; unfold gLose; first | (rw [if_pos c1]; done) | (rw [if_neg c1, if_pos (Int32.not_lt.mp c2)]; exact gLose_4 hdu (Int32.not_lt.mp c2)) | (rw [if_neg c1, if_neg (Int32.not_le.mpr c2)]; exact gLose_0 hdu)) rfl))
      rw [hw_16] at hP hD
      subst hAe
      exact W.vret hx hb hr (fun t ht hW => ⟨⟨(), rfl, trivial, gw_hh ht hP⟩, hS.F ht⟩) hS.2.2 dX6_breathe_50
  · skip
    refine lv_bipush (v := 7) hx hb dX6_breathe_10 (by decide) ?_
    refine lv_goto (tgt := 31) hx hb dX6_breathe_12 (by decide) ?_
    refine lv_istore_n (lv' := [(2, .int 7), (0, .ref mo), (1, .int (nI k))]) hx hb dX6_breathe_31 rfl hl (by decide) rfl (fun ls hl => ?_)
    refine lv_aload_n hx hb dX6_breathe_32 rfl (lv_at hl 1 rfl) ?_
    refine lv_iload_n hx hb dX6_breathe_33 rfl (lv_at hl 2 rfl) ?_
    refine lv_iconst (v := 2) hx hb dX6_breathe_34 (by decide) ?_
    refine lv_iconst (v := 0) hx hb dX6_breathe_35 (by decide) ?_
    refine lv_aload_n hx hb dX6_breathe_36 rfl (lv_at hl 1 rfl) ?_
    refine lv_iload_n hx hb dX6_breathe_37 rfl (lv_at hl 2 rfl) ?_
    refine lv_iconst (v := 2) hx hb dX6_breathe_38 (by decide) ?_
    refine va_calli (va_runV (As := [.int (nI k), .int 2]) (rest := [.int 0, .int 2, .int (nI k), .ref mo]) ⟨hx, hb, hml, hown, hts⟩ (met_X6_pe l D cI cZ cL mo m4 m5 m6 m7 m8 m9 th nb nq nr (enP Q) k 2 (by first | assumption | omega) (by first | assumption | omega)) (cwV 2 hts gX6_breathe_X6_pe rfl rfl rfl (by decide +kernel) ⟨Nat.le_of_ble_eq_true rfl, Nat.le_of_ble_eq_true rfl⟩) (gw_pvr hK hP (wc := [(mo, .inr (6, [.int th, .int (nI nb), .int (nI nq), .int (nI nr), .ref m4, .ref m5, .ref m6, .ref m7, .ref m8, .ref m9])), (m6, .inl (cI, 24, .inl (enP Q)))]) [0, 1] rfl 6 rfl rfl rfl) rfl rfl hl.1 rfl (lv_room (Nat.le_of_ble_eq_true rfl)) dX6_breathe_39 ⟨Nat.zero_le _, Nat.zero_le _⟩) hS (fun _ _ z => z.elim) (fun _ z => z.elim) (fun r_18 _ t H1 locs ht hvm hw hB hz1 hk1 hS => ?_)
    have hP := gw_ro hP hk1
    generalize H1 = H at hP hS ⊢
    subst hw
    refine gw_top (y := Q 7 k) (enP_2 Q k) ?_
    refine lv_iload_n hx hb dX6_breathe_42 rfl (lv_at hl 0 rfl) ?_
    refine lv_isub hx hb dX6_breathe_43 ?_
    refine va_mmax (own := RX6) hx hb (by rw [hml]; exact hl.1.symm) hown (hts _ wd_X6_breathe_0) (hts _ wd_X6_breathe_1) (hts _ wd_X6_breathe_2) (hts _ wd_X6_breathe_3) (Nat.le_of_ble_eq_true rfl) (Nat.le_of_ble_eq_true rfl) (Nat.zero_le _) (Nat.zero_le _) dX6_breathe_44 ?_
    have hFc := gw_free (wc := [(mo, .inr (6, [.int th, .int (nI nb), .int (nI nq), .int (nI nr), .ref m4, .ref m5, .ref m6, .ref m7, .ref m8, .ref m9])), (m6, .inl (cI, 24, .inl (enP Q)))]) hD [0, 1] rfl
    refine va_callv (va_runV (As := [.int (nI k), .int 2, .int (if 0 < ((Q 7 k) - 7) then ((Q 7 k) - 7) else 0)]) (rest := []) ⟨hx, hb, hml, hown, hts⟩ (met_X6_put l D cI cZ cL mo m4 m5 m6 m7 m8 m9 th nb nq nr (enP Q) k 2 (if 0 < ((Q 7 k) - 7) then ((Q 7 k) - 7) else 0) (by first | assumption | omega) (by first | assumption | omega)) (cwV 3 hts gX6_breathe_X6_put rfl rfl rfl (by decide +kernel) ⟨Nat.le_of_ble_eq_true rfl, Nat.le_of_ble_eq_true rfl⟩) (gw_pvw hK hP hD (wc := [(mo, .inr (6, [.int th, .int (nI nb), .int (nI nq), .int (nI nr), .ref m4, .ref m5, .ref m6, .ref m7, .ref m8, .ref m9])), (m6, .inl (cI, 24, .inl (enP Q)))]) [0, 1] (by decide) rfl rfl 6 rfl rfl rfl) rfl rfl hl.1 rfl (lv_room (Nat.le_of_ble_eq_true rfl)) dX6_breathe_47 ⟨Nat.zero_le _, Nat.zero_le _⟩) hS (fun q _ h => hFc q h) hFc (fun _ t H1 locs ht hvm hw hB hz1 hk1 hS => ?_)
    rw [ht] at hB
    obtain ⟨hP, hD⟩ := gw_upd (wc := [(mo, .inr (6, [.int th, .int (nI nb), .int (nI nq), .int (nI nr), .ref m4, .ref m5, .ref m6, .ref m7, .ref m8, .ref m9])), (m6, .inl (cI, 24, .inl (enP Q)))]) (w1 := [(mo, .inr (6, [.int th, .int (nI nb), .int (nI nq), .int (nI nr), .ref m4, .ref m5, .ref m6, .ref m7, .ref m8, .ref m9])), (m6, .inl (cI, 24, .inl (upd (enP Q) (4 * k + 2) (if 0 < ((Q 7 k) - 7) then ((Q 7 k) - 7) else 0))))]) (ws' := [(mo, .inr (6, [.int th, .int (nI nb), .int (nI nq), .int (nI nr), .ref m4, .ref m5, .ref m6, .ref m7, .ref m8, .ref m9])), (m6, .inl (cI, 24, .inl (upd (enP Q) (4 * k + 2) (if 0 < ((Q 7 k) - 7) then ((Q 7 k) - 7) else 0))))]) hP hD [0, 1] rfl rfl hk1 hB rfl
    generalize H1 = H at hP hS ⊢
    have hw_21 : upd (enP Q) (4 * k + 2) (if 0 < ((Q 7 k) - 7) then ((Q 7 k) - 7) else 0) = enP (pk Q 7 (upd (Q 7) k (gLose (Q 6 k) (Q 7 k)))) := ((enP_p Q k 2 _ (by decide)).trans (enP_ext rfl rfl (by show upd (Q 7) k _ = upd (Q 7) k _; congr 1; unfold gLose; first | (rw [if_pos c1]; done) | (rw [if_neg c1, if_pos (Int32.not_lt.mp c2)]; exact gLose_4 hdu (Int32.not_lt.mp c2)) | (rw [if_neg c1, if_neg (Int32.not_le.mpr c2)]; exact gLose_0 hdu)) rfl))
    rw [hw_21] at hP hD
    subst hAe
    exact W.vret hx hb hr (fun t ht hW => ⟨⟨(), rfl, trivial, gw_hh ht hP⟩, hS.F ht⟩) hS.2.2 dX6_breathe_50
