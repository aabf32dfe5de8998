theorem wc_X6_counted_X6 : ∀ w ∈ u_ws RX6 TX6 10, w ∈ wsX6_counted := by decide +kernel
theorem wd_X6_counted_1 : (.fieldLink RX6 25 "GritWheelsModel" "numbers" "[I" : Cond) ∈ wsX6_counted := by decide +kernel
theorem wd_X6_counted_2 : (.fieldLink RX6 39 "GritWheelsModel" "quarriers" "I" : Cond) ∈ wsX6_counted := by decide +kernel
set_option maxHeartbeats 4000000 in
set_option maxRecDepth 100000 in
theorem met_X6_counted (l : Launch) (D : va_G) (cI cZ cL : ClassId) (mo : Nat) (m4 : Nat) (m5 : Nat) (m6 : Nat) (m7 : Nat) (m8 : Nat) (m9 : Nat) (th : Int32) (nb : Nat) (nq : Nat) (nr : Nat) (Q : Nat → Nat → Int32) (day : Nat) (co : Int32) (nw : Nat) (v : Nat) (hv9 : v < 10) (hnq : nq ≤ 6) (hnw : nw ≤ 60) (hd : day < 2 ^ 31) : Met l yX6_counted wsX6_counted ({ frames := 1, cells := 0, slots := 0, locals := 22 }) (gPr [.ref mo, .int (nI v)] D [(mo, .inr (6, [.int th, .int (nI nb), .int (nI nq), .int (nI nr), .ref m4, .ref m5, .ref m6, .ref m7, .ref m8, .ref m9])), (m4, .inl (cI, 9, .inl (Q 0))), (m6, .inl (cI, 24, .inl (enP Q))), (m7, .inl (cI, 300, .inl (enS Q))), (m9, .inl (cI, 3, .inl (enN day co nw)))] (gT cI cZ cL)) (va_Qi (fun (zr : Int32) (_ : Unit) => zr = gCntC Q nq nw day co v) (fun _ _ => True) gN) 0 0 gN := by
  refine Met.ofW (cc := cX6_counted) (maxL := 4) (ret := (some .int)) (by decide +kernel) rfl ?_
  intro p e s m args below meth c s₁ B hml hv
  obtain ⟨rfl, hP, hK⟩ := hv
  have hx := B.exec
  have hb := B.bytes
  have hr := B.returns
  have hts := atoms_spec (ws := wsX6_counted) B.pre
  have hown : s.vm.findClass RX6 = some m.cls := findClass_of_methodNamed B.named
  have hlocks := B.notSynchronized
  have hS : va_S gN s.heap s.heap [] := va_S.rf
  have hP : va_P D vwCl [(mo, .inr (6, [.int th, .int (nI nb), .int (nI nq), .int (nI nr), .ref m4, .ref m5, .ref m6, .ref m7, .ref m8, .ref m9])), (m4, .inl (cI, 9, .inl (Q 0))), (m6, .inl (cI, 24, .inl (enP Q))), (m7, .inl (cI, 300, .inl (enS Q))), (m9, .inl (cI, 3, .inl (enN day co nw)))] s.heap := hP
  have hl := lv_entry ([.ref mo, .int (nI v)]) (n := 4) (Nat.le_of_ble_eq_true rfl)
  rw [lg_entry_eq]
  generalize (lg_sl ([.ref mo, .int (nI v)]) ++ List.replicate (4 - (lg_sl ([.ref mo, .int (nI v)])).length) Slot.unset).toArray = ls at hl ⊢
  have hl : lv_has ls 4 [(0, .ref mo), (1, .int (nI v))] := hl
  refine lv_iconst (v := 0) hx hb dX6_counted_0 (by decide) ?_
  refine lv_istore_n (lv' := [(2, .int 0), (0, .ref mo), (1, .int (nI v))]) hx hb dX6_counted_1 rfl hl (by decide) rfl (fun ls hl => ?_)
  refine lv_iload_n hx hb dX6_counted_2 rfl (lv_at hl 2 rfl) ?_
  rcases (show v = 0 ∨ v = 1 ∨ v = 2 ∨ v = 3 ∨ v = 4 ∨ v = 5 ∨ v = 6 ∨ v = 7 ∨ v = 8 ∨ v = 9 by omega) with rfl | rfl | rfl | rfl | rfl | rfl | rfl | rfl | rfl | rfl
  · skip
    refine lv_tableIn (off := 53) (tgt := 56) hx hb dX6_counted_3 (by decide) (by decide) rfl (by decide) ?_
    refine lv_aload_n hx hb dX6_counted_56 rfl (lv_at hl 1 rfl) ?_
    refine va_get (D := D) (ci := 6) (v := .ref m9) (C := RX6) (T := TX6) (N := 10) hx hb hts wc_X6_counted_X6 hown hK hP 0 rfl rfl 9 (by decide) (hts _ wd_X6_counted_1) (fun _ h9 => h9) rfl dX6_counted_57 ?_
    refine lv_iconst (v := 0) hx hb dX6_counted_60 (by decide) ?_
    refine gw_top (y := nI 0) rfl ?_
    refine gw_iald hx hb hK hP 4 0 (k := 0) rfl rfl (by omega) (by decide) dX6_counted_61 ?_
    refine gw_top (y := nI day) rfl ?_
    exact W.iret (v := nI day) hx hb hr (fun t ht hW => ⟨⟨_, (), rfl, rfl, trivial⟩, hS.F ht⟩) hS.2.2 dX6_counted_62
  · skip
    refine lv_tableIn (off := 60) (tgt := 63) hx hb dX6_counted_3 (by decide) (by decide) rfl (by decide) ?_
    refine lv_aload_n hx hb dX6_counted_63 rfl (lv_at hl 1 rfl) ?_
    refine va_calli (va_runV (As := []) (rest := []) ⟨hx, hb, hml, hown, hts⟩ (met_X6_water l D cI cZ cL mo m4 m5 m6 m7 m8 m9 th nb nq nr Q day co nw (by first | assumption | omega)) (cwV 0 hts gX6_counted_X6_water rfl rfl rfl (by decide +kernel) ⟨Nat.le_of_ble_eq_true rfl, Nat.le_of_ble_eq_true rfl⟩) (gw_pvr hK hP (wc := [(mo, .inr (6, [.int th, .int (nI nb), .int (nI nq), .int (nI nr), .ref m4, .ref m5, .ref m6, .ref m7, .ref m8, .ref m9])), (m4, .inl (cI, 9, .inl (Q 0))), (m9, .inl (cI, 3, .inl (enN day co nw)))]) [0, 1, 4] rfl 6 rfl rfl rfl) rfl rfl hl.1 rfl (lv_room (Nat.le_of_ble_eq_true rfl)) dX6_counted_64 ⟨Nat.zero_le _, Nat.zero_le _⟩) hS (fun _ _ z => z.elim) (fun _ z => z.elim) (fun r_2 _ t H1 locs ht hvm hw hB hz1 hk1 hS => ?_)
    have hP := gw_ro hP hk1
    generalize H1 = H at hP hS ⊢
    subst hw
    exact W.iret (v := Q 0 (day % 9)) hx hb hr (fun t ht hW => ⟨⟨_, (), rfl, rfl, trivial⟩, hS.F ht⟩) hS.2.2 dX6_counted_67
  · skip
    refine lv_tableIn (off := 65) (tgt := 68) hx hb dX6_counted_3 (by decide) (by decide) rfl (by decide) ?_
    refine lv_aload_n hx hb dX6_counted_68 rfl (lv_at hl 1 rfl) ?_
    refine va_calli (va_runV (As := []) (rest := []) ⟨hx, hb, hml, hown, hts⟩ (met_X6_water l D cI cZ cL mo m4 m5 m6 m7 m8 m9 th nb nq nr Q day co nw (by first | assumption | omega)) (cwV 0 hts gX6_counted_X6_water rfl rfl rfl (by decide +kernel) ⟨Nat.le_of_ble_eq_true rfl, Nat.le_of_ble_eq_true rfl⟩) (gw_pvr hK hP (wc := [(mo, .inr (6, [.int th, .int (nI nb), .int (nI nq), .int (nI nr), .ref m4, .ref m5, .ref m6, .ref m7, .ref m8, .ref m9])), (m4, .inl (cI, 9, .inl (Q 0))), (m9, .inl (cI, 3, .inl (enN day co nw)))]) [0, 1, 4] rfl 6 rfl rfl rfl) rfl rfl hl.1 rfl (lv_room (Nat.le_of_ble_eq_true rfl)) dX6_counted_69 ⟨Nat.zero_le _, Nat.zero_le _⟩) hS (fun _ _ z => z.elim) (fun _ z => z.elim) (fun r_4 _ t H1 locs ht hvm hw hB hz1 hk1 hS => ?_)
    have hP := gw_ro hP hk1
    generalize H1 = H at hP hS ⊢
    subst hw
    refine lv_iconst (v := 2) hx hb dX6_counted_72 (by decide) ?_
    refine lv_icmp_le (tgt := 80) hx hb dX6_counted_73 (by decide) (fun h1 => ?_) (fun h1 => ?_)
    · skip
      refine lv_iconst (v := 0) hx hb dX6_counted_80 (by decide) ?_
      exact W.iret (v := 0) hx hb hr (fun t ht hW => ⟨⟨_, (), rfl, (by show _ = (if (3 : Int32) ≤ Q 0 (day % 9) then 1 else 0); first | rw [if_neg (fun h => gw_23.mpr h h1)] | rw [if_pos (gw_23.mp h1)]), trivial⟩, hS.F ht⟩) hS.2.2 dX6_counted_81
    · skip
      refine lv_iconst (v := 1) hx hb dX6_counted_76 (by decide) ?_
      refine lv_goto (tgt := 81) hx hb dX6_counted_77 (by decide) ?_
      exact W.iret (v := 1) hx hb hr (fun t ht hW => ⟨⟨_, (), rfl, (by show _ = (if (3 : Int32) ≤ Q 0 (day % 9) then 1 else 0); first | rw [if_neg (fun h => gw_23.mpr h h1)] | rw [if_pos (gw_23.mp h1)]), trivial⟩, hS.F ht⟩) hS.2.2 dX6_counted_81
  · skip
    refine lv_tableIn (off := 79) (tgt := 82) hx hb dX6_counted_3 (by decide) (by decide) rfl (by decide) ?_
    refine lv_aload_n hx hb dX6_counted_82 rfl (lv_at hl 1 rfl) ?_
    refine va_get (D := D) (ci := 6) (v := .ref m9) (C := RX6) (T := TX6) (N := 10) hx hb hts wc_X6_counted_X6 hown hK hP 0 rfl rfl 9 (by decide) (hts _ wd_X6_counted_1) (fun _ h9 => h9) rfl dX6_counted_83 ?_
    refine lv_iconst (v := 2) hx hb dX6_counted_86 (by decide) ?_
    refine gw_top (y := nI 2) rfl ?_
    refine gw_iald hx hb hK hP 4 0 (k := 2) rfl rfl (by omega) (by decide) dX6_counted_87 ?_
    refine gw_top (y := nI nw) rfl ?_
    exact W.iret (v := nI nw) hx hb hr (fun t ht hW => ⟨⟨_, (), rfl, rfl, trivial⟩, hS.F ht⟩) hS.2.2 dX6_counted_88
  · skip
    refine lv_tableIn (off := 120) (tgt := 123) hx hb dX6_counted_3 (by decide) (by decide) rfl (by decide) ?_
    refine lv_iconst (v := 0) hx hb dX6_counted_123 (by decide) ?_
    refine lv_istore_n (lv' := [(3, .int 0), (2, .int 0), (0, .ref mo), (1, .int (nI 4))]) hx hb dX6_counted_124 rfl hl (by decide) rfl (fun ls hl => ?_)
    refine gw_loop (fun (zz : Nat × Nat × Int32) H locs ls => match zz with | (k, i, acc) => va_P D vwCl [(mo, .inr (6, [.int th, .int (nI nb), .int (nI nq), .int (nI nr), .ref m4, .ref m5, .ref m6, .ref m7, .ref m8, .ref m9])), (m4, .inl (cI, 9, .inl (Q 0))), (m6, .inl (cI, 24, .inl (enP Q))), (m7, .inl (cI, 300, .inl (enS Q))), (m9, .inl (cI, 3, .inl (enN day co nw)))] H ∧ va_S gN s.heap H locs ∧ lv_has ls 4 [(3, .int (nI i)), (2, .int acc), (0, .ref mo), (1, .int (nI 4))] ∧ (i + k = nw) ∧ (gS (fun j => if Q 13 j = 0 then 1 else 0) k i acc = gS (fun j => if Q 13 j = 0 then 1 else 0) nw 0 0)) (fun (zz : Nat × Nat × Int32) => match zz with | (k, i, acc) => k) (nw, 0, 0) ⟨hP, hS, lv_sub hl [0, 1, 2, 3] rfl, (by omega), rfl⟩ ?_
    rintro ⟨k, i, acc⟩ ih H locs ls ⟨hP, hS, hl, hin, hF⟩
    have hP : va_P D vwCl [(mo, .inr (6, [.int th, .int (nI nb), .int (nI nq), .int (nI nr), .ref m4, .ref m5, .ref m6, .ref m7, .ref m8, .ref m9])), (m4, .inl (cI, 9, .inl (Q 0))), (m6, .inl (cI, 24, .inl (enP Q))), (m7, .inl (cI, 300, .inl (enS Q))), (m9, .inl (cI, 3, .inl (enN day co nw)))] H := hP
    have hl : lv_has ls 4 [(3, .int (nI i)), (2, .int acc), (0, .ref mo), (1, .int (nI 4))] := hl
    have hin : i + k = nw := hin
    have hF : gS (fun j => if Q 13 j = 0 then 1 else 0) k i acc = gS (fun j => if Q 13 j = 0 then 1 else 0) nw 0 0 := hF
    have ih125 := ih
    refine lv_iload_n hx hb dX6_counted_125 rfl (lv_at hl 0 rfl) ?_
    refine lv_aload_n hx hb dX6_counted_126 rfl (lv_at hl 2 rfl) ?_
    refine va_get (D := D) (ci := 6) (v := .ref m9) (C := RX6) (T := TX6) (N := 10) hx hb hts wc_X6_counted_X6 hown hK hP 0 rfl rfl 9 (by decide) (hts _ wd_X6_counted_1) (fun _ h9 => h9) rfl dX6_counted_127 ?_
    refine lv_iconst (v := 2) hx hb dX6_counted_130 (by decide) ?_
    refine gw_top (y := nI 2) rfl ?_
    refine gw_iald hx hb hK hP 4 0 (k := 2) rfl rfl (by omega) (by decide) dX6_counted_131 ?_
    refine gw_top (y := nI nw) rfl ?_
    refine lv_icmp_ge (tgt := 161) hx hb dX6_counted_132 (by decide) (fun c => ?_) (fun c => ?_)
    · skip
      have hk0 : k = 0 := by have := gw_ge (by omega) (by omega) c; omega
      subst hk0
      refine lv_iload_n hx hb dX6_counted_161 rfl (lv_at hl 1 rfl) ?_
      exact W.iret (v := acc) hx hb hr (fun t ht hW => ⟨⟨_, (), rfl, (hF.trans rfl), trivial⟩, hS.F ht⟩) hS.2.2 dX6_counted_162
    · skip
      have hi : i < nw := gw_lt (by omega) (by omega) c
      obtain ⟨k, rfl⟩ : ∃ k2, k = k2 + 1 := ⟨k - 1, by omega⟩
      refine lv_iload_n hx hb dX6_counted_135 rfl (lv_at hl 1 rfl) ?_
      refine lv_aload_n hx hb dX6_counted_136 rfl (lv_at hl 2 rfl) ?_
      refine lv_iload_n hx hb dX6_counted_137 rfl (lv_at hl 0 rfl) ?_
      refine lv_iconst (v := 2) hx hb dX6_counted_138 (by decide) ?_
      refine va_calli (va_runV (As := [.int (nI i), .int 2]) (rest := [.int acc]) ⟨hx, hb, hml, hown, hts⟩ (met_X6_st l D cI cZ cL mo m4 m5 m6 m7 m8 m9 th nb nq nr (enS Q) i 2 (by first | assumption | omega) (by first | assumption | omega)) (cwV 2 hts gX6_counted_X6_st rfl rfl rfl (by decide +kernel) ⟨Nat.le_of_ble_eq_true rfl, Nat.le_of_ble_eq_true rfl⟩) (gw_pvr hK hP (wc := [(mo, .inr (6, [.int th, .int (nI nb), .int (nI nq), .int (nI nr), .ref m4, .ref m5, .ref m6, .ref m7, .ref m8, .ref m9])), (m7, .inl (cI, 300, .inl (enS Q)))]) [0, 3] rfl 6 rfl rfl rfl) rfl rfl hl.1 rfl (lv_room (Nat.le_of_ble_eq_true rfl)) dX6_counted_139 ⟨Nat.zero_le _, Nat.zero_le _⟩) hS (fun _ _ z => z.elim) (fun _ z => z.elim) (fun r_8 _ t H1 locs ht hvm hw hB hz1 hk1 hS => ?_)
      have hP := gw_ro hP hk1
      generalize H1 = H at hP hS ⊢
      subst hw
      refine gw_top (y := Q 13 i) (enS_2 Q i) ?_
      refine lv_iload_n hx hb dX6_counted_142 rfl (lv_at hl 3 rfl) ?_
      refine lv_iconst (v := 4) hx hb dX6_counted_143 (by decide) ?_
      refine lv_isub hx hb dX6_counted_144 ?_
      refine gw_top (y := 0) (by decide) ?_
      refine lv_icmp_ne (tgt := 152) hx hb dX6_counted_145 (by decide) (fun c2 => ?_) (fun c2 => ?_)
      · skip
        refine lv_iconst (v := 0) hx hb dX6_counted_152 (by decide) ?_
        refine lv_iadd hx hb dX6_counted_153 ?_
        refine lv_istore_n (lv' := [(2, .int (acc + 0)), (3, .int (nI i)), (0, .ref mo), (1, .int (nI 4))]) hx hb dX6_counted_154 rfl hl (by decide) rfl (fun ls hl => ?_)
        refine lv_iinc (v := nI (i + 1)) (lv' := [(3, .int (nI (i + 1))), (2, .int (acc + 0)), (0, .ref mo), (1, .int (nI 4))]) hx hb dX6_counted_155 hl (k := 1) rfl (nI_add i 1) (by decide) rfl (fun ls hl => ?_)
        refine lv_goto (tgt := 125) hx hb dX6_counted_158 (by decide) ?_
        exact ih125 (k, i + 1, acc + 0) H locs ls (by dsimp only; omega) ⟨hP, hS, lv_sub hl [0, 1, 2, 3] rfl, (by omega), (by first | exact hF | (rw [← hF]; simp [gS, hcc]) | (rw [← hF]; simp [gS, *]))⟩
      · skip
        refine lv_iconst (v := 1) hx hb dX6_counted_148 (by decide) ?_
        refine lv_goto (tgt := 153) hx hb dX6_counted_149 (by decide) ?_
        refine lv_iadd hx hb dX6_counted_153 ?_
        refine lv_istore_n (lv' := [(2, .int (acc + 1)), (3, .int (nI i)), (0, .ref mo), (1, .int (nI 4))]) hx hb dX6_counted_154 rfl hl (by decide) rfl (fun ls hl => ?_)
        refine lv_iinc (v := nI (i + 1)) (lv' := [(3, .int (nI (i + 1))), (2, .int (acc + 1)), (0, .ref mo), (1, .int (nI 4))]) hx hb dX6_counted_155 hl (k := 1) rfl (nI_add i 1) (by decide) rfl (fun ls hl => ?_)
        refine lv_goto (tgt := 125) hx hb dX6_counted_158 (by decide) ?_
        exact ih125 (k, i + 1, acc + 1) H locs ls (by dsimp only; omega) ⟨hP, hS, lv_sub hl [0, 1, 2, 3] rfl, (by omega), (by first | exact hF | (rw [← hF]; simp [gS, hcc]) | (rw [← hF]; simp [gS, *]))⟩
  · skip
    refine lv_tableIn (off := 120) (tgt := 123) hx hb dX6_counted_3 (by decide) (by decide) rfl (by decide) ?_
    refine lv_iconst (v := 0) hx hb dX6_counted_123 (by decide) ?_
    refine lv_istore_n (lv' := [(3, .int 0), (2, .int 0), (0, .ref mo), (1, .int (nI 5))]) hx hb dX6_counted_124 rfl hl (by decide) rfl (fun ls hl => ?_)
    refine gw_loop (fun (zz : Nat × Nat × Int32) H locs ls => match zz with | (k, i, acc) => va_P D vwCl [(mo, .inr (6, [.int th, .int (nI nb), .int (nI nq), .int (nI nr), .ref m4, .ref m5, .ref m6, .ref m7, .ref m8, .ref m9])), (m4, .inl (cI, 9, .inl (Q 0))), (m6, .inl (cI, 24, .inl (enP Q))), (m7, .inl (cI, 300, .inl (enS Q))), (m9, .inl (cI, 3, .inl (enN day co nw)))] H ∧ va_S gN s.heap H locs ∧ lv_has ls 4 [(3, .int (nI i)), (2, .int acc), (0, .ref mo), (1, .int (nI 5))] ∧ (i + k = nw) ∧ (gS (fun j => if Q 13 j = 1 then 1 else 0) k i acc = gS (fun j => if Q 13 j = 1 then 1 else 0) nw 0 0)) (fun (zz : Nat × Nat × Int32) => match zz with | (k, i, acc) => k) (nw, 0, 0) ⟨hP, hS, lv_sub hl [0, 1, 2, 3] rfl, (by omega), rfl⟩ ?_
    rintro ⟨k, i, acc⟩ ih H locs ls ⟨hP, hS, hl, hin, hF⟩
    have hP : va_P D vwCl [(mo, .inr (6, [.int th, .int (nI nb), .int (nI nq), .int (nI nr), .ref m4, .ref m5, .ref m6, .ref m7, .ref m8, .ref m9])), (m4, .inl (cI, 9, .inl (Q 0))), (m6, .inl (cI, 24, .inl (enP Q))), (m7, .inl (cI, 300, .inl (enS Q))), (m9, .inl (cI, 3, .inl (enN day co nw)))] H := hP
    have hl : lv_has ls 4 [(3, .int (nI i)), (2, .int acc), (0, .ref mo), (1, .int (nI 5))] := hl
    have hin : i + k = nw := hin
    have hF : gS (fun j => if Q 13 j = 1 then 1 else 0) k i acc = gS (fun j => if Q 13 j = 1 then 1 else 0) nw 0 0 := hF
    have ih125 := ih
    refine lv_iload_n hx hb dX6_counted_125 rfl (lv_at hl 0 rfl) ?_
    refine lv_aload_n hx hb dX6_counted_126 rfl (lv_at hl 2 rfl) ?_
    refine va_get (D := D) (ci := 6) (v := .ref m9) (C := RX6) (T := TX6) (N := 10) hx hb hts wc_X6_counted_X6 hown hK hP 0 rfl rfl 9 (by decide) (hts _ wd_X6_counted_1) (fun _ h9 => h9) rfl dX6_counted_127 ?_
    refine lv_iconst (v := 2) hx hb dX6_counted_130 (by decide) ?_
    refine gw_top (y := nI 2) rfl ?_
    refine gw_iald hx hb hK hP 4 0 (k := 2) rfl rfl (by omega) (by decide) dX6_counted_131 ?_
    refine gw_top (y := nI nw) rfl ?_
    refine lv_icmp_ge (tgt := 161) hx hb dX6_counted_132 (by decide) (fun c => ?_) (fun c => ?_)
    · skip
      have hk0 : k = 0 := by have := gw_ge (by omega) (by omega) c; omega
      subst hk0
      refine lv_iload_n hx hb dX6_counted_161 rfl (lv_at hl 1 rfl) ?_
      exact W.iret (v := acc) hx hb hr (fun t ht hW => ⟨⟨_, (), rfl, (hF.trans rfl), trivial⟩, hS.F ht⟩) hS.2.2 dX6_counted_162
    · skip
      have hi : i < nw := gw_lt (by omega) (by omega) c
      obtain ⟨k, rfl⟩ : ∃ k2, k = k2 + 1 := ⟨k - 1, by omega⟩
      refine lv_iload_n hx hb dX6_counted_135 rfl (lv_at hl 1 rfl) ?_
      refine lv_aload_n hx hb dX6_counted_136 rfl (lv_at hl 2 rfl) ?_
      refine lv_iload_n hx hb dX6_counted_137 rfl (lv_at hl 0 rfl) ?_
      refine lv_iconst (v := 2) hx hb dX6_counted_138 (by decide) ?_
      refine va_calli (va_runV (As := [.int (nI i), .int 2]) (rest := [.int acc]) ⟨hx, hb, hml, hown, hts⟩ (met_X6_st l D cI cZ cL mo m4 m5 m6 m7 m8 m9 th nb nq nr (enS Q) i 2 (by first | assumption | omega) (by first | assumption | omega)) (cwV 2 hts gX6_counted_X6_st rfl rfl rfl (by decide +kernel) ⟨Nat.le_of_ble_eq_true rfl, Nat.le_of_ble_eq_true rfl⟩) (gw_pvr hK hP (wc := [(mo, .inr (6, [.int th, .int (nI nb), .int (nI nq), .int (nI nr), .ref m4, .ref m5, .ref m6, .ref m7, .ref m8, .ref m9])), (m7, .inl (cI, 300, .inl (enS Q)))]) [0, 3] rfl 6 rfl rfl rfl) rfl rfl hl.1 rfl (lv_room (Nat.le_of_ble_eq_true rfl)) dX6_counted_139 ⟨Nat.zero_le _, Nat.zero_le _⟩) hS (fun _ _ z => z.elim) (fun _ z => z.elim) (fun r_12 _ t H1 locs ht hvm hw hB hz1 hk1 hS => ?_)
      have hP := gw_ro hP hk1
      generalize H1 = H at hP hS ⊢
      subst hw
      refine gw_top (y := Q 13 i) (enS_2 Q i) ?_
      refine lv_iload_n hx hb dX6_counted_142 rfl (lv_at hl 3 rfl) ?_
      refine lv_iconst (v := 4) hx hb dX6_counted_143 (by decide) ?_
      refine lv_isub hx hb dX6_counted_144 ?_
      refine gw_top (y := 1) (by decide) ?_
      refine lv_icmp_ne (tgt := 152) hx hb dX6_counted_145 (by decide) (fun c2 => ?_) (fun c2 => ?_)
      · skip
        refine lv_iconst (v := 0) hx hb dX6_counted_152 (by decide) ?_
        refine lv_iadd hx hb dX6_counted_153 ?_
        refine lv_istore_n (lv' := [(2, .int (acc + 0)), (3, .int (nI i)), (0, .ref mo), (1, .int (nI 5))]) hx hb dX6_counted_154 rfl hl (by decide) rfl (fun ls hl => ?_)
        refine lv_iinc (v := nI (i + 1)) (lv' := [(3, .int (nI (i + 1))), (2, .int (acc + 0)), (0, .ref mo), (1, .int (nI 5))]) hx hb dX6_counted_155 hl (k := 1) rfl (nI_add i 1) (by decide) rfl (fun ls hl => ?_)
        refine lv_goto (tgt := 125) hx hb dX6_counted_158 (by decide) ?_
        exact ih125 (k, i + 1, acc + 0) H locs ls (by dsimp only; omega) ⟨hP, hS, lv_sub hl [0, 1, 2, 3] rfl, (by omega), (by first | exact hF | (rw [← hF]; simp [gS, hcc]) | (rw [← hF]; simp [gS, *]))⟩
      · skip
        refine lv_iconst (v := 1) hx hb dX6_counted_148 (by decide) ?_
        refine lv_goto (tgt := 153) hx hb dX6_counted_149 (by decide) ?_
        refine lv_iadd hx hb dX6_counted_153 ?_
        refine lv_istore_n (lv' := [(2, .int (acc + 1)), (3, .int (nI i)), (0, .ref mo), (1, .int (nI 5))]) hx hb dX6_counted_154 rfl hl (by decide) rfl (fun ls hl => ?_)
        refine lv_iinc (v := nI (i + 1)) (lv' := [(3, .int (nI (i + 1))), (2, .int (acc + 1)), (0, .ref mo), (1, .int (nI 5))]) hx hb dX6_counted_155 hl (k := 1) rfl (nI_add i 1) (by decide) rfl (fun ls hl => ?_)
        refine lv_goto (tgt := 125) hx hb dX6_counted_158 (by decide) ?_
        exact ih125 (k, i + 1, acc + 1) H locs ls (by dsimp only; omega) ⟨hP, hS, lv_sub hl [0, 1, 2, 3] rfl, (by omega), (by first | exact hF | (rw [← hF]; simp [gS, hcc]) | (rw [← hF]; simp [gS, *]))⟩
  · skip
    refine lv_tableIn (off := 120) (tgt := 123) hx hb dX6_counted_3 (by decide) (by decide) rfl (by decide) ?_
    refine lv_iconst (v := 0) hx hb dX6_counted_123 (by decide) ?_
    refine lv_istore_n (lv' := [(3, .int 0), (2, .int 0), (0, .ref mo), (1, .int (nI 6))]) hx hb dX6_counted_124 rfl hl (by decide) rfl (fun ls hl => ?_)
    refine gw_loop (fun (zz : Nat × Nat × Int32) H locs ls => match zz with | (k, i, acc) => va_P D vwCl [(mo, .inr (6, [.int th, .int (nI nb), .int (nI nq), .int (nI nr), .ref m4, .ref m5, .ref m6, .ref m7, .ref m8, .ref m9])), (m4, .inl (cI, 9, .inl (Q 0))), (m6, .inl (cI, 24, .inl (enP Q))), (m7, .inl (cI, 300, .inl (enS Q))), (m9, .inl (cI, 3, .inl (enN day co nw)))] H ∧ va_S gN s.heap H locs ∧ lv_has ls 4 [(3, .int (nI i)), (2, .int acc), (0, .ref mo), (1, .int (nI 6))] ∧ (i + k = nw) ∧ (gS (fun j => if Q 13 j = 2 then 1 else 0) k i acc = gS (fun j => if Q 13 j = 2 then 1 else 0) nw 0 0)) (fun (zz : Nat × Nat × Int32) => match zz with | (k, i, acc) => k) (nw, 0, 0) ⟨hP, hS, lv_sub hl [0, 1, 2, 3] rfl, (by omega), rfl⟩ ?_
    rintro ⟨k, i, acc⟩ ih H locs ls ⟨hP, hS, hl, hin, hF⟩
    have hP : va_P D vwCl [(mo, .inr (6, [.int th, .int (nI nb), .int (nI nq), .int (nI nr), .ref m4, .ref m5, .ref m6, .ref m7, .ref m8, .ref m9])), (m4, .inl (cI, 9, .inl (Q 0))), (m6, .inl (cI, 24, .inl (enP Q))), (m7, .inl (cI, 300, .inl (enS Q))), (m9, .inl (cI, 3, .inl (enN day co nw)))] H := hP
    have hl : lv_has ls 4 [(3, .int (nI i)), (2, .int acc), (0, .ref mo), (1, .int (nI 6))] := hl
    have hin : i + k = nw := hin
    have hF : gS (fun j => if Q 13 j = 2 then 1 else 0) k i acc = gS (fun j => if Q 13 j = 2 then 1 else 0) nw 0 0 := hF
    have ih125 := ih
    refine lv_iload_n hx hb dX6_counted_125 rfl (lv_at hl 0 rfl) ?_
    refine lv_aload_n hx hb dX6_counted_126 rfl (lv_at hl 2 rfl) ?_
    refine va_get (D := D) (ci := 6) (v := .ref m9) (C := RX6) (T := TX6) (N := 10) hx hb hts wc_X6_counted_X6 hown hK hP 0 rfl rfl 9 (by decide) (hts _ wd_X6_counted_1) (fun _ h9 => h9) rfl dX6_counted_127 ?_
    refine lv_iconst (v := 2) hx hb dX6_counted_130 (by decide) ?_
    refine gw_top (y := nI 2) rfl ?_
    refine gw_iald hx hb hK hP 4 0 (k := 2) rfl rfl (by omega) (by decide) dX6_counted_131 ?_
    refine gw_top (y := nI nw) rfl ?_
    refine lv_icmp_ge (tgt := 161) hx hb dX6_counted_132 (by decide) (fun c => ?_) (fun c => ?_)
    · skip
      have hk0 : k = 0 := by have := gw_ge (by omega) (by omega) c; omega
      subst hk0
      refine lv_iload_n hx hb dX6_counted_161 rfl (lv_at hl 1 rfl) ?_
      exact W.iret (v := acc) hx hb hr (fun t ht hW => ⟨⟨_, (), rfl, (hF.trans rfl), trivial⟩, hS.F ht⟩) hS.2.2 dX6_counted_162
    · skip
      have hi : i < nw := gw_lt (by omega) (by omega) c
      obtain ⟨k, rfl⟩ : ∃ k2, k = k2 + 1 := ⟨k - 1, by omega⟩
      refine lv_iload_n hx hb dX6_counted_135 rfl (lv_at hl 1 rfl) ?_
      refine lv_aload_n hx hb dX6_counted_136 rfl (lv_at hl 2 rfl) ?_
      refine lv_iload_n hx hb dX6_counted_137 rfl (lv_at hl 0 rfl) ?_
      refine lv_iconst (v := 2) hx hb dX6_counted_138 (by decide) ?_
      refine va_calli (va_runV (As := [.int (nI i), .int 2]) (rest := [.int acc]) ⟨hx, hb, hml, hown, hts⟩ (met_X6_st l D cI cZ cL mo m4 m5 m6 m7 m8 m9 th nb nq nr (enS Q) i 2 (by first | assumption | omega) (by first | assumption | omega)) (cwV 2 hts gX6_counted_X6_st rfl rfl rfl (by decide +kernel) ⟨Nat.le_of_ble_eq_true rfl, Nat.le_of_ble_eq_true rfl⟩) (gw_pvr hK hP (wc := [(mo, .inr (6, [.int th, .int (nI nb), .int (nI nq), .int (nI nr), .ref m4, .ref m5, .ref m6, .ref m7, .ref m8, .ref m9])), (m7, .inl (cI, 300, .inl (enS Q)))]) [0, 3] rfl 6 rfl rfl rfl) rfl rfl hl.1 rfl (lv_room (Nat.le_of_ble_eq_true rfl)) dX6_counted_139 ⟨Nat.zero_le _, Nat.zero_le _⟩) hS (fun _ _ z => z.elim) (fun _ z => z.elim) (fun r_16 _ t H1 locs ht hvm hw hB hz1 hk1 hS => ?_)
      have hP := gw_ro hP hk1
      generalize H1 = H at hP hS ⊢
      subst hw
      refine gw_top (y := Q 13 i) (enS_2 Q i) ?_
      refine lv_iload_n hx hb dX6_counted_142 rfl (lv_at hl 3 rfl) ?_
      refine lv_iconst (v := 4) hx hb dX6_counted_143 (by decide) ?_
      refine lv_isub hx hb dX6_counted_144 ?_
      refine gw_top (y := 2) (by decide) ?_
      refine lv_icmp_ne (tgt := 152) hx hb dX6_counted_145 (by decide) (fun c2 => ?_) (fun c2 => ?_)
      · skip
        refine lv_iconst (v := 0) hx hb dX6_counted_152 (by decide) ?_
        refine lv_iadd hx hb dX6_counted_153 ?_
        refine lv_istore_n (lv' := [(2, .int (acc + 0)), (3, .int (nI i)), (0, .ref mo), (1, .int (nI 6))]) hx hb dX6_counted_154 rfl hl (by decide) rfl (fun ls hl => ?_)
        refine lv_iinc (v := nI (i + 1)) (lv' := [(3, .int (nI (i + 1))), (2, .int (acc + 0)), (0, .ref mo), (1, .int (nI 6))]) hx hb dX6_counted_155 hl (k := 1) rfl (nI_add i 1) (by decide) rfl (fun ls hl => ?_)
        refine lv_goto (tgt := 125) hx hb dX6_counted_158 (by decide) ?_
        exact ih125 (k, i + 1, acc + 0) H locs ls (by dsimp only; omega) ⟨hP, hS, lv_sub hl [0, 1, 2, 3] rfl, (by omega), (by first | exact hF | (rw [← hF]; simp [gS, hcc]) | (rw [← hF]; simp [gS, *]))⟩
      · skip
        refine lv_iconst (v := 1) hx hb dX6_counted_148 (by decide) ?_
        refine lv_goto (tgt := 153) hx hb dX6_counted_149 (by decide) ?_
        refine lv_iadd hx hb dX6_counted_153 ?_
        refine lv_istore_n (lv' := [(2, .int (acc + 1)), (3, .int (nI i)), (0, .ref mo), (1, .int (nI 6))]) hx hb dX6_counted_154 rfl hl (by decide) rfl (fun ls hl => ?_)
        refine lv_iinc (v := nI (i + 1)) (lv' := [(3, .int (nI (i + 1))), (2, .int (acc + 1)), (0, .ref mo), (1, .int (nI 6))]) hx hb dX6_counted_155 hl (k := 1) rfl (nI_add i 1) (by decide) rfl (fun ls hl => ?_)
        refine lv_goto (tgt := 125) hx hb dX6_counted_158 (by decide) ?_
        exact ih125 (k, i + 1, acc + 1) H locs ls (by dsimp only; omega) ⟨hP, hS, lv_sub hl [0, 1, 2, 3] rfl, (by omega), (by first | exact hF | (rw [← hF]; simp [gS, hcc]) | (rw [← hF]; simp [gS, *]))⟩
  · skip
    refine lv_tableIn (off := 120) (tgt := 123) hx hb dX6_counted_3 (by decide) (by decide) rfl (by decide) ?_
    refine lv_iconst (v := 0) hx hb dX6_counted_123 (by decide) ?_
    refine lv_istore_n (lv' := [(3, .int 0), (2, .int 0), (0, .ref mo), (1, .int (nI 7))]) hx hb dX6_counted_124 rfl hl (by decide) rfl (fun ls hl => ?_)
    refine gw_loop (fun (zz : Nat × Nat × Int32) H locs ls => match zz with | (k, i, acc) => va_P D vwCl [(mo, .inr (6, [.int th, .int (nI nb), .int (nI nq), .int (nI nr), .ref m4, .ref m5, .ref m6, .ref m7, .ref m8, .ref m9])), (m4, .inl (cI, 9, .inl (Q 0))), (m6, .inl (cI, 24, .inl (enP Q))), (m7, .inl (cI, 300, .inl (enS Q))), (m9, .inl (cI, 3, .inl (enN day co nw)))] H ∧ va_S gN s.heap H locs ∧ lv_has ls 4 [(3, .int (nI i)), (2, .int acc), (0, .ref mo), (1, .int (nI 7))] ∧ (i + k = nw) ∧ (gS (fun j => if Q 13 j = 3 then 1 else 0) k i acc = gS (fun j => if Q 13 j = 3 then 1 else 0) nw 0 0)) (fun (zz : Nat × Nat × Int32) => match zz with | (k, i, acc) => k) (nw, 0, 0) ⟨hP, hS, lv_sub hl [0, 1, 2, 3] rfl, (by omega), rfl⟩ ?_
    rintro ⟨k, i, acc⟩ ih H locs ls ⟨hP, hS, hl, hin, hF⟩
    have hP : va_P D vwCl [(mo, .inr (6, [.int th, .int (nI nb), .int (nI nq), .int (nI nr), .ref m4, .ref m5, .ref m6, .ref m7, .ref m8, .ref m9])), (m4, .inl (cI, 9, .inl (Q 0))), (m6, .inl (cI, 24, .inl (enP Q))), (m7, .inl (cI, 300, .inl (enS Q))), (m9, .inl (cI, 3, .inl (enN day co nw)))] H := hP
    have hl : lv_has ls 4 [(3, .int (nI i)), (2, .int acc), (0, .ref mo), (1, .int (nI 7))] := hl
    have hin : i + k = nw := hin
    have hF : gS (fun j => if Q 13 j = 3 then 1 else 0) k i acc = gS (fun j => if Q 13 j = 3 then 1 else 0) nw 0 0 := hF
    have ih125 := ih
    refine lv_iload_n hx hb dX6_counted_125 rfl (lv_at hl 0 rfl) ?_
    refine lv_aload_n hx hb dX6_counted_126 rfl (lv_at hl 2 rfl) ?_
    refine va_get (D := D) (ci := 6) (v := .ref m9) (C := RX6) (T := TX6) (N := 10) hx hb hts wc_X6_counted_X6 hown hK hP 0 rfl rfl 9 (by decide) (hts _ wd_X6_counted_1) (fun _ h9 => h9) rfl dX6_counted_127 ?_
    refine lv_iconst (v := 2) hx hb dX6_counted_130 (by decide) ?_
    refine gw_top (y := nI 2) rfl ?_
    refine gw_iald hx hb hK hP 4 0 (k := 2) rfl rfl (by omega) (by decide) dX6_counted_131 ?_
    refine gw_top (y := nI nw) rfl ?_
    refine lv_icmp_ge (tgt := 161) hx hb dX6_counted_132 (by decide) (fun c => ?_) (fun c => ?_)
    · skip
      have hk0 : k = 0 := by have := gw_ge (by omega) (by omega) c; omega
      subst hk0
      refine lv_iload_n hx hb dX6_counted_161 rfl (lv_at hl 1 rfl) ?_
      exact W.iret (v := acc) hx hb hr (fun t ht hW => ⟨⟨_, (), rfl, (hF.trans rfl), trivial⟩, hS.F ht⟩) hS.2.2 dX6_counted_162
    · skip
      have hi : i < nw := gw_lt (by omega) (by omega) c
      obtain ⟨k, rfl⟩ : ∃ k2, k = k2 + 1 := ⟨k - 1, by omega⟩
      refine lv_iload_n hx hb dX6_counted_135 rfl (lv_at hl 1 rfl) ?_
      refine lv_aload_n hx hb dX6_counted_136 rfl (lv_at hl 2 rfl) ?_
      refine lv_iload_n hx hb dX6_counted_137 rfl (lv_at hl 0 rfl) ?_
      refine lv_iconst (v := 2) hx hb dX6_counted_138 (by decide) ?_
      refine va_calli (va_runV (As := [.int (nI i), .int 2]) (rest := [.int acc]) ⟨hx, hb, hml, hown, hts⟩ (met_X6_st l D cI cZ cL mo m4 m5 m6 m7 m8 m9 th nb nq nr (enS Q) i 2 (by first | assumption | omega) (by first | assumption | omega)) (cwV 2 hts gX6_counted_X6_st rfl rfl rfl (by decide +kernel) ⟨Nat.le_of_ble_eq_true rfl, Nat.le_of_ble_eq_true rfl⟩) (gw_pvr hK hP (wc := [(mo, .inr (6, [.int th, .int (nI nb), .int (nI nq), .int (nI nr), .ref m4, .ref m5, .ref m6, .ref m7, .ref m8, .ref m9])), (m7, .inl (cI, 300, .inl (enS Q)))]) [0, 3] rfl 6 rfl rfl rfl) rfl rfl hl.1 rfl (lv_room (Nat.le_of_ble_eq_true rfl)) dX6_counted_139 ⟨Nat.zero_le _, Nat.zero_le _⟩) hS (fun _ _ z => z.elim) (fun _ z => z.elim) (fun r_20 _ t H1 locs ht hvm hw hB hz1 hk1 hS => ?_)
      have hP := gw_ro hP hk1
      generalize H1 = H at hP hS ⊢
      subst hw
      refine gw_top (y := Q 13 i) (enS_2 Q i) ?_
      refine lv_iload_n hx hb dX6_counted_142 rfl (lv_at hl 3 rfl) ?_
      refine lv_iconst (v := 4) hx hb dX6_counted_143 (by decide) ?_
      refine lv_isub hx hb dX6_counted_144 ?_
      refine gw_top (y := 3) (by decide) ?_
      refine lv_icmp_ne (tgt := 152) hx hb dX6_counted_145 (by decide) (fun c2 => ?_) (fun c2 => ?_)
      · skip
        refine lv_iconst (v := 0) hx hb dX6_counted_152 (by decide) ?_
        refine lv_iadd hx hb dX6_counted_153 ?_
        refine lv_istore_n (lv' := [(2, .int (acc + 0)), (3, .int (nI i)), (0, .ref mo), (1, .int (nI 7))]) hx hb dX6_counted_154 rfl hl (by decide) rfl (fun ls hl => ?_)
        refine lv_iinc (v := nI (i + 1)) (lv' := [(3, .int (nI (i + 1))), (2, .int (acc + 0)), (0, .ref mo), (1, .int (nI 7))]) hx hb dX6_counted_155 hl (k := 1) rfl (nI_add i 1) (by decide) rfl (fun ls hl => ?_)
        refine lv_goto (tgt := 125) hx hb dX6_counted_158 (by decide) ?_
        exact ih125 (k, i + 1, acc + 0) H locs ls (by dsimp only; omega) ⟨hP, hS, lv_sub hl [0, 1, 2, 3] rfl, (by omega), (by first | exact hF | (rw [← hF]; simp [gS, hcc]) | (rw [← hF]; simp [gS, *]))⟩
      · skip
        refine lv_iconst (v := 1) hx hb dX6_counted_148 (by decide) ?_
        refine lv_goto (tgt := 153) hx hb dX6_counted_149 (by decide) ?_
        refine lv_iadd hx hb dX6_counted_153 ?_
        refine lv_istore_n (lv' := [(2, .int (acc + 1)), (3, .int (nI i)), (0, .ref mo), (1, .int (nI 7))]) hx hb dX6_counted_154 rfl hl (by decide) rfl (fun ls hl => ?_)
        refine lv_iinc (v := nI (i + 1)) (lv' := [(3, .int (nI (i + 1))), (2, .int (acc + 1)), (0, .ref mo), (1, .int (nI 7))]) hx hb dX6_counted_155 hl (k := 1) rfl (nI_add i 1) (by decide) rfl (fun ls hl => ?_)
        refine lv_goto (tgt := 125) hx hb dX6_counted_158 (by decide) ?_
        exact ih125 (k, i + 1, acc + 1) H locs ls (by dsimp only; omega) ⟨hP, hS, lv_sub hl [0, 1, 2, 3] rfl, (by omega), (by first | exact hF | (rw [← hF]; simp [gS, hcc]) | (rw [← hF]; simp [gS, *]))⟩
  · skip
    refine lv_tableIn (off := 86) (tgt := 89) hx hb dX6_counted_3 (by decide) (by decide) rfl (by decide) ?_
    refine lv_aload_n hx hb dX6_counted_89 rfl (lv_at hl 1 rfl) ?_
    refine va_get (D := D) (ci := 6) (v := .ref m9) (C := RX6) (T := TX6) (N := 10) hx hb hts wc_X6_counted_X6 hown hK hP 0 rfl rfl 9 (by decide) (hts _ wd_X6_counted_1) (fun _ h9 => h9) rfl dX6_counted_90 ?_
    refine lv_iconst (v := 1) hx hb dX6_counted_93 (by decide) ?_
    refine gw_top (y := nI 1) rfl ?_
    refine gw_iald hx hb hK hP 4 0 (k := 1) rfl rfl (by omega) (by decide) dX6_counted_94 ?_
    refine gw_top (y := co) rfl ?_
    exact W.iret (v := co) hx hb hr (fun t ht hW => ⟨⟨_, (), rfl, rfl, trivial⟩, hS.F ht⟩) hS.2.2 dX6_counted_95
  · skip
    refine lv_tableIn (off := 93) (tgt := 96) hx hb dX6_counted_3 (by decide) (by decide) rfl (by decide) ?_
    refine lv_iconst (v := 0) hx hb dX6_counted_96 (by decide) ?_
    refine lv_istore_n (lv' := [(3, .int 0), (2, .int 0), (0, .ref mo), (1, .int (nI 9))]) hx hb dX6_counted_97 rfl hl (by decide) rfl (fun ls hl => ?_)
    refine gw_loop (fun (zz : Nat × Nat × Int32) H locs ls => match zz with | (k, i, acc) => va_P D vwCl [(mo, .inr (6, [.int th, .int (nI nb), .int (nI nq), .int (nI nr), .ref m4, .ref m5, .ref m6, .ref m7, .ref m8, .ref m9])), (m4, .inl (cI, 9, .inl (Q 0))), (m6, .inl (cI, 24, .inl (enP Q))), (m7, .inl (cI, 300, .inl (enS Q))), (m9, .inl (cI, 3, .inl (enN day co nw)))] H ∧ va_S gN s.heap H locs ∧ lv_has ls 4 [(3, .int (nI i)), (2, .int acc), (0, .ref mo), (1, .int (nI 9))] ∧ (i + k = nq) ∧ (gS (Q 7) k i acc = gS (Q 7) nq 0 0)) (fun (zz : Nat × Nat × Int32) => match zz with | (k, i, acc) => k) (nq, 0, 0) ⟨hP, hS, lv_sub hl [0, 1, 2, 3] rfl, (by omega), rfl⟩ ?_
    rintro ⟨k, i, acc⟩ ih H locs ls ⟨hP, hS, hl, hin, hF⟩
    have hP : va_P D vwCl [(mo, .inr (6, [.int th, .int (nI nb), .int (nI nq), .int (nI nr), .ref m4, .ref m5, .ref m6, .ref m7, .ref m8, .ref m9])), (m4, .inl (cI, 9, .inl (Q 0))), (m6, .inl (cI, 24, .inl (enP Q))), (m7, .inl (cI, 300, .inl (enS Q))), (m9, .inl (cI, 3, .inl (enN day co nw)))] H := hP
    have hl : lv_has ls 4 [(3, .int (nI i)), (2, .int acc), (0, .ref mo), (1, .int (nI 9))] := hl
    have hin : i + k = nq := hin
    have hF : gS (Q 7) k i acc = gS (Q 7) nq 0 0 := hF
    have ih98 := ih
    refine lv_iload_n hx hb dX6_counted_98 rfl (lv_at hl 0 rfl) ?_
    refine lv_aload_n hx hb dX6_counted_99 rfl (lv_at hl 2 rfl) ?_
    refine va_get (D := D) (ci := 6) (v := .int (nI nq)) (C := RX6) (T := TX6) (N := 10) hx hb hts wc_X6_counted_X6 hown hK hP 0 rfl rfl 2 (by decide) (hts _ wd_X6_counted_2) (fun _ h9 => h9) rfl dX6_counted_100 ?_
    refine lv_icmp_ge (tgt := 121) hx hb dX6_counted_103 (by decide) (fun c => ?_) (fun c => ?_)
    · skip
      have hk0 : k = 0 := by have := gw_ge (by omega) (by omega) c; omega
      subst hk0
      refine lv_iload_n hx hb dX6_counted_121 rfl (lv_at hl 1 rfl) ?_
      exact W.iret (v := acc) hx hb hr (fun t ht hW => ⟨⟨_, (), rfl, (hF.trans rfl), trivial⟩, hS.F ht⟩) hS.2.2 dX6_counted_122
    · skip
      have hi : i < nq := gw_lt (by omega) (by omega) c
      obtain ⟨k, rfl⟩ : ∃ k2, k = k2 + 1 := ⟨k - 1, by omega⟩
      refine lv_iload_n hx hb dX6_counted_106 rfl (lv_at hl 1 rfl) ?_
      refine lv_aload_n hx hb dX6_counted_107 rfl (lv_at hl 2 rfl) ?_
      refine lv_iload_n hx hb dX6_counted_108 rfl (lv_at hl 0 rfl) ?_
      refine lv_iconst (v := 2) hx hb dX6_counted_109 (by decide) ?_
      refine va_calli (va_runV (As := [.int (nI i), .int 2]) (rest := [.int acc]) ⟨hx, hb, hml, hown, hts⟩ (met_X6_pe l D cI cZ cL mo m4 m5 m6 m7 m8 m9 th nb nq nr (enP Q) i 2 (by first | assumption | omega) (by first | assumption | omega)) (cwV 2 hts gX6_counted_X6_pe rfl rfl rfl (by decide +kernel) ⟨Nat.le_of_ble_eq_true rfl, Nat.le_of_ble_eq_true rfl⟩) (gw_pvr hK hP (wc := [(mo, .inr (6, [.int th, .int (nI nb), .int (nI nq), .int (nI nr), .ref m4, .ref m5, .ref m6, .ref m7, .ref m8, .ref m9])), (m6, .inl (cI, 24, .inl (enP Q)))]) [0, 2] rfl 6 rfl rfl rfl) rfl rfl hl.1 rfl (lv_room (Nat.le_of_ble_eq_true rfl)) dX6_counted_110 ⟨Nat.zero_le _, Nat.zero_le _⟩) hS (fun _ _ z => z.elim) (fun _ z => z.elim) (fun r_24 _ t H1 locs ht hvm hw hB hz1 hk1 hS => ?_)
      have hP := gw_ro hP hk1
      generalize H1 = H at hP hS ⊢
      subst hw
      refine gw_top (y := Q 7 i) (enP_2 Q i) ?_
      refine lv_iadd hx hb dX6_counted_113 ?_
      refine lv_istore_n (lv' := [(2, .int (acc + (Q 7 i))), (3, .int (nI i)), (0, .ref mo), (1, .int (nI 9))]) hx hb dX6_counted_114 rfl hl (by decide) rfl (fun ls hl => ?_)
      refine lv_iinc (v := nI (i + 1)) (lv' := [(3, .int (nI (i + 1))), (2, .int (acc + (Q 7 i))), (0, .ref mo), (1, .int (nI 9))]) hx hb dX6_counted_115 hl (k := 1) rfl (nI_add i 1) (by decide) rfl (fun ls hl => ?_)
      refine lv_goto (tgt := 98) hx hb dX6_counted_118 (by decide) ?_
      exact ih98 (k, i + 1, acc + (Q 7 i)) H locs ls (by dsimp only; omega) ⟨hP, hS, lv_sub hl [0, 1, 2, 3] rfl, (by omega), (by first | exact hF | (rw [← hF]; simp [gS, hcc]) | (rw [← hF]; simp [gS, *]))⟩

theorem wc_X6_bedTold_X6 : ∀ w ∈ u_ws RX6 TX6 10, w ∈ wsX6_bedTold := by decide +kernel
theorem wd_X6_bedTold_1 : (.fieldLink RX6 39 "GritWheelsModel" "quarriers" "I" : Cond) ∈ wsX6_bedTold := by decide +kernel
theorem wd_X6_bedTold_2 : (.fieldLink RX6 25 "GritWheelsModel" "numbers" "[I" : Cond) ∈ wsX6_bedTold := by decide +kernel
set_option maxHeartbeats 4000000 in
set_option maxRecDepth 100000 in
theorem met_X6_bedTold (l : Launch) (D : va_G) (cI cZ cL : ClassId) (mo : Nat) (m4 : Nat) (m5 : Nat) (m6 : Nat) (m7 : Nat) (m8 : Nat) (m9 : Nat) (th : Int32) (nb : Nat) (nq : Nat) (nr : Nat) (Q : Nat → Nat → Int32) (day : Nat) (co : Int32) (nw : Nat) (k : Nat) (v : Nat) (hk : k < 5) (hv6 : v < 6) (hnq : nq ≤ 6) (hnw : nw ≤ 60) (hz : ∀ j, Q 12 j = 0 ∨ Q 12 j = 1) : Met l yX6_bedTold wsX6_bedTold ({ frames := 1, cells := 0, slots := 0, locals := 22 }) (gPr [.ref mo, .int (nI k), .int (nI v)] D [(mo, .inr (6, [.int th, .int (nI nb), .int (nI nq), .int (nI nr), .ref m4, .ref m5, .ref m6, .ref m7, .ref m8, .ref m9])), (m5, .inl (cI, 20, .inl (enR Q))), (m6, .inl (cI, 24, .inl (enP Q))), (m7, .inl (cI, 300, .inl (enS Q))), (m9, .inl (cI, 3, .inl (enN day co nw)))] (gT cI cZ cL)) (va_Qi (fun (zr : Int32) (_ : Unit) => zr = gBed Q nq nw v k) (fun _ _ => True) gN) 0 0 gN := by
  refine Met.ofW (cc := cX6_bedTold) (maxL := 5) (ret := (some .int)) (by decide +kernel) rfl ?_
  intro p e s m args below meth c s₁ B hml hv
  obtain ⟨rfl, hP, hK⟩ := hv
  have hx := B.exec
  have hb := B.bytes
  have hr := B.returns
  have hts := atoms_spec (ws := wsX6_bedTold) B.pre
  have hown : s.vm.findClass RX6 = some m.cls := findClass_of_methodNamed B.named
  have hlocks := B.notSynchronized
  have hS : va_S gN s.heap s.heap [] := va_S.rf
  have hP : va_P D vwCl [(mo, .inr (6, [.int th, .int (nI nb), .int (nI nq), .int (nI nr), .ref m4, .ref m5, .ref m6, .ref m7, .ref m8, .ref m9])), (m5, .inl (cI, 20, .inl (enR Q))), (m6, .inl (cI, 24, .inl (enP Q))), (m7, .inl (cI, 300, .inl (enS Q))), (m9, .inl (cI, 3, .inl (enN day co nw)))] s.heap := hP
  have hl := lv_entry ([.ref mo, .int (nI k), .int (nI v)]) (n := 5) (Nat.le_of_ble_eq_true rfl)
  rw [lg_entry_eq]
  generalize (lg_sl ([.ref mo, .int (nI k), .int (nI v)]) ++ List.replicate (5 - (lg_sl ([.ref mo, .int (nI k), .int (nI v)])).length) Slot.unset).toArray = ls at hl ⊢
  have hl : lv_has ls 5 [(0, .ref mo), (1, .int (nI k)), (2, .int (nI v))] := hl
  refine lv_iconst (v := 0) hx hb dX6_bedTold_0 (by decide) ?_
  refine lv_istore_n (lv' := [(3, .int 0), (0, .ref mo), (1, .int (nI k)), (2, .int (nI v))]) hx hb dX6_bedTold_1 rfl hl (by decide) rfl (fun ls hl => ?_)
  refine lv_iload_n hx hb dX6_bedTold_2 rfl (lv_at hl 3 rfl) ?_
  rcases (show v = 0 ∨ v = 1 ∨ v = 2 ∨ v = 3 ∨ v = 4 ∨ v = 5 by omega) with rfl | rfl | rfl | rfl | rfl | rfl
  · skip
    refine lv_tableOut (tgt := 123) hx hb dX6_bedTold_3 (by decide) (by decide) ?_
    refine lv_aload_n hx hb dX6_bedTold_123 rfl (lv_at hl 1 rfl) ?_
    refine lv_iload_n hx hb dX6_bedTold_124 rfl (lv_at hl 2 rfl) ?_
    refine lv_iload_n hx hb dX6_bedTold_125 rfl (lv_at hl 3 rfl) ?_
    refine va_calli (va_runV (As := [.int (nI k), .int (nI 0)]) (rest := []) ⟨hx, hb, hml, hown, hts⟩ (met_X6_ro l D cI cZ cL mo m4 m5 m6 m7 m8 m9 th nb nq nr (enR Q) k 0 (by first | assumption | omega) (by first | assumption | omega)) (cwV 2 hts gX6_bedTold_X6_ro rfl rfl rfl (by decide +kernel) ⟨Nat.le_of_ble_eq_true rfl, Nat.le_of_ble_eq_true rfl⟩) (gw_pvr hK hP (wc := [(mo, .inr (6, [.int th, .int (nI nb), .int (nI nq), .int (nI nr), .ref m4, .ref m5, .ref m6, .ref m7, .ref m8, .ref m9])), (m5, .inl (cI, 20, .inl (enR Q)))]) [0, 1] rfl 6 rfl rfl rfl) rfl rfl hl.1 rfl (lv_room (Nat.le_of_ble_eq_true rfl)) dX6_bedTold_126 ⟨Nat.zero_le _, Nat.zero_le _⟩) hS (fun _ _ z => z.elim) (fun _ z => z.elim) (fun r_2 _ t H1 locs ht hvm hw hB hz1 hk1 hS => ?_)
    have hP := gw_ro hP hk1
    generalize H1 = H at hP hS ⊢
    subst hw
    refine gw_top (y := Q 1 k) (enR_0 Q k) ?_
    exact W.iret (v := Q 1 k) hx hb hr (fun t ht hW => ⟨⟨_, (), rfl, rfl, trivial⟩, hS.F ht⟩) hS.2.2 dX6_bedTold_129
  · skip
    refine lv_tableOut (tgt := 123) hx hb dX6_bedTold_3 (by decide) (by decide) ?_
    refine lv_aload_n hx hb dX6_bedTold_123 rfl (lv_at hl 1 rfl) ?_
    refine lv_iload_n hx hb dX6_bedTold_124 rfl (lv_at hl 2 rfl) ?_
    refine lv_iload_n hx hb dX6_bedTold_125 rfl (lv_at hl 3 rfl) ?_
    refine va_calli (va_runV (As := [.int (nI k), .int (nI 1)]) (rest := []) ⟨hx, hb, hml, hown, hts⟩ (met_X6_ro l D cI cZ cL mo m4 m5 m6 m7 m8 m9 th nb nq nr (enR Q) k 1 (by first | assumption | omega) (by first | assumption | omega)) (cwV 2 hts gX6_bedTold_X6_ro rfl rfl rfl (by decide +kernel) ⟨Nat.le_of_ble_eq_true rfl, Nat.le_of_ble_eq_true rfl⟩) (gw_pvr hK hP (wc := [(mo, .inr (6, [.int th, .int (nI nb), .int (nI nq), .int (nI nr), .ref m4, .ref m5, .ref m6, .ref m7, .ref m8, .ref m9])), (m5, .inl (cI, 20, .inl (enR Q)))]) [0, 1] rfl 6 rfl rfl rfl) rfl rfl hl.1 rfl (lv_room (Nat.le_of_ble_eq_true rfl)) dX6_bedTold_126 ⟨Nat.zero_le _, Nat.zero_le _⟩) hS (fun _ _ z => z.elim) (fun _ z => z.elim) (fun r_4 _ t H1 locs ht hvm hw hB hz1 hk1 hS => ?_)
    have hP := gw_ro hP hk1
    generalize H1 = H at hP hS ⊢
    subst hw
    refine gw_top (y := Q 2 k) (enR_1 Q k) ?_
    exact W.iret (v := Q 2 k) hx hb hr (fun t ht hW => ⟨⟨_, (), rfl, rfl, trivial⟩, hS.F ht⟩) hS.2.2 dX6_bedTold_129
  · skip
    refine lv_tableOut (tgt := 123) hx hb dX6_bedTold_3 (by decide) (by decide) ?_
    refine lv_aload_n hx hb dX6_bedTold_123 rfl (lv_at hl 1 rfl) ?_
    refine lv_iload_n hx hb dX6_bedTold_124 rfl (lv_at hl 2 rfl) ?_
    refine lv_iload_n hx hb dX6_bedTold_125 rfl (lv_at hl 3 rfl) ?_
    refine va_calli (va_runV (As := [.int (nI k), .int (nI 2)]) (rest := []) ⟨hx, hb, hml, hown, hts⟩ (met_X6_ro l D cI cZ cL mo m4 m5 m6 m7 m8 m9 th nb nq nr (enR Q) k 2 (by first | assumption | omega) (by first | assumption | omega)) (cwV 2 hts gX6_bedTold_X6_ro rfl rfl rfl (by decide +kernel) ⟨Nat.le_of_ble_eq_true rfl, Nat.le_of_ble_eq_true rfl⟩) (gw_pvr hK hP (wc := [(mo, .inr (6, [.int th, .int (nI nb), .int (nI nq), .int (nI nr), .ref m4, .ref m5, .ref m6, .ref m7, .ref m8, .ref m9])), (m5, .inl (cI, 20, .inl (enR Q)))]) [0, 1] rfl 6 rfl rfl rfl) rfl rfl hl.1 rfl (lv_room (Nat.le_of_ble_eq_true rfl)) dX6_bedTold_126 ⟨Nat.zero_le _, Nat.zero_le _⟩) hS (fun _ _ z => z.elim) (fun _ z => z.elim) (fun r_6 _ t H1 locs ht hvm hw hB hz1 hk1 hS => ?_)
    have hP := gw_ro hP hk1
    generalize H1 = H at hP hS ⊢
    subst hw
    refine gw_top (y := Q 3 k) (enR_2 Q k) ?_
    exact W.iret (v := Q 3 k) hx hb hr (fun t ht hW => ⟨⟨_, (), rfl, rfl, trivial⟩, hS.F ht⟩) hS.2.2 dX6_bedTold_129
  · skip
    refine lv_tableIn (off := 25) (tgt := 28) hx hb dX6_bedTold_3 (by decide) (by decide) rfl (by decide) ?_
    refine lv_iconst (v := 0) hx hb dX6_bedTold_28 (by decide) ?_
    refine lv_istore (lv' := [(4, .int 0), (3, .int 0), (0, .ref mo), (1, .int (nI k)), (2, .int (nI 3))]) hx hb dX6_bedTold_29 hl (by decide) rfl (fun ls hl => ?_)
    refine gw_loop (fun (zz : Nat × Nat × Int32) H locs ls => match zz with | (kf, i, acc) => va_P D vwCl [(mo, .inr (6, [.int th, .int (nI nb), .int (nI nq), .int (nI nr), .ref m4, .ref m5, .ref m6, .ref m7, .ref m8, .ref m9])), (m5, .inl (cI, 20, .inl (enR Q))), (m6, .inl (cI, 24, .inl (enP Q))), (m7, .inl (cI, 300, .inl (enS Q))), (m9, .inl (cI, 3, .inl (enN day co nw)))] H ∧ va_S gN s.heap H locs ∧ lv_has ls 5 [(4, .int (nI i)), (3, .int acc), (0, .ref mo), (1, .int (nI k)), (2, .int (nI 3))] ∧ (i + kf = nq) ∧ (gS (fun j => if Q 6 j = nI k then 1 else 0) kf i acc = gS (fun j => if Q 6 j = nI k then 1 else 0) nq 0 0)) (fun (zz : Nat × Nat × Int32) => match zz with | (kf, i, acc) => kf) (nq, 0, 0) ⟨hP, hS, lv_sub hl [0, 1, 2, 3, 4] rfl, (by omega), rfl⟩ ?_
    rintro ⟨kf, i, acc⟩ ih H locs ls ⟨hP, hS, hl, hin, hF⟩
    have hP : va_P D vwCl [(mo, .inr (6, [.int th, .int (nI nb), .int (nI nq), .int (nI nr), .ref m4, .ref m5, .ref m6, .ref m7, .ref m8, .ref m9])), (m5, .inl (cI, 20, .inl (enR Q))), (m6, .inl (cI, 24, .inl (enP Q))), (m7, .inl (cI, 300, .inl (enS Q))), (m9, .inl (cI, 3, .inl (enN day co nw)))] H := hP
    have hl : lv_has ls 5 [(4, .int (nI i)), (3, .int acc), (0, .ref mo), (1, .int (nI k)), (2, .int (nI 3))] := hl
    have hin : i + kf = nq := hin
    have hF : gS (fun j => if Q 6 j = nI k then 1 else 0) kf i acc = gS (fun j => if Q 6 j = nI k then 1 else 0) nq 0 0 := hF
    have ih31 := ih
    refine lv_iload hx hb dX6_bedTold_31 (lv_at hl 0 rfl) ?_
    refine lv_aload_n hx hb dX6_bedTold_33 rfl (lv_at hl 2 rfl) ?_
    refine va_get (D := D) (ci := 6) (v := .int (nI nq)) (C := RX6) (T := TX6) (N := 10) hx hb hts wc_X6_bedTold_X6 hown hK hP 0 rfl rfl 2 (by decide) (hts _ wd_X6_bedTold_1) (fun _ h9 => h9) rfl dX6_bedTold_34 ?_
    refine lv_icmp_ge (tgt := 65) hx hb dX6_bedTold_37 (by decide) (fun c => ?_) (fun c => ?_)
    · skip
      have hk0 : kf = 0 := by have := gw_ge (by omega) (by omega) c; omega
      subst hk0
      refine lv_iload_n hx hb dX6_bedTold_65 rfl (lv_at hl 1 rfl) ?_
      exact W.iret (v := acc) hx hb hr (fun t ht hW => ⟨⟨_, (), rfl, (hF.trans rfl), trivial⟩, hS.F ht⟩) hS.2.2 dX6_bedTold_66
    · skip
      have hi : i < nq := gw_lt (by omega) (by omega) c
      obtain ⟨kf, rfl⟩ : ∃ k2, kf = k2 + 1 := ⟨kf - 1, by omega⟩
      refine lv_iload_n hx hb dX6_bedTold_40 rfl (lv_at hl 1 rfl) ?_
      refine lv_aload_n hx hb dX6_bedTold_41 rfl (lv_at hl 2 rfl) ?_
      refine lv_iload hx hb dX6_bedTold_42 (lv_at hl 0 rfl) ?_
      refine lv_iconst (v := 1) hx hb dX6_bedTold_44 (by decide) ?_
      refine va_calli (va_runV (As := [.int (nI i), .int 1]) (rest := [.int acc]) ⟨hx, hb, hml, hown, hts⟩ (met_X6_pe l D cI cZ cL mo m4 m5 m6 m7 m8 m9 th nb nq nr (enP Q) i 1 (by first | assumption | omega) (by first | assumption | omega)) (cwV 2 hts gX6_bedTold_X6_pe rfl rfl rfl (by decide +kernel) ⟨Nat.le_of_ble_eq_true rfl, Nat.le_of_ble_eq_true rfl⟩) (gw_pvr hK hP (wc := [(mo, .inr (6, [.int th, .int (nI nb), .int (nI nq), .int (nI nr), .ref m4, .ref m5, .ref m6, .ref m7, .ref m8, .ref m9])), (m6, .inl (cI, 24, .inl (enP Q)))]) [0, 2] rfl 6 rfl rfl rfl) rfl rfl hl.1 rfl (lv_room (Nat.le_of_ble_eq_true rfl)) dX6_bedTold_45 ⟨Nat.zero_le _, Nat.zero_le _⟩) hS (fun _ _ z => z.elim) (fun _ z => z.elim) (fun r_9 _ t H1 locs ht hvm hw hB hz1 hk1 hS => ?_)
      have hP := gw_ro hP hk1
      generalize H1 = H at hP hS ⊢
      subst hw
      refine gw_top (y := Q 6 i) (enP_1 Q i) ?_
      refine lv_iload_n hx hb dX6_bedTold_48 rfl (lv_at hl 3 rfl) ?_
      refine lv_icmp_ne (tgt := 56) hx hb dX6_bedTold_49 (by decide) (fun c2 => ?_) (fun c2 => ?_)
      · skip
        refine lv_iconst (v := 0) hx hb dX6_bedTold_56 (by decide) ?_
        refine lv_iadd hx hb dX6_bedTold_57 ?_
        refine lv_istore_n (lv' := [(3, .int (acc + 0)), (4, .int (nI i)), (0, .ref mo), (1, .int (nI k)), (2, .int (nI 3))]) hx hb dX6_bedTold_58 rfl hl (by decide) rfl (fun ls hl => ?_)
        refine lv_iinc (v := nI (i + 1)) (lv' := [(4, .int (nI (i + 1))), (3, .int (acc + 0)), (0, .ref mo), (1, .int (nI k)), (2, .int (nI 3))]) hx hb dX6_bedTold_59 hl (k := 1) rfl (nI_add i 1) (by decide) rfl (fun ls hl => ?_)
        refine lv_goto (tgt := 31) hx hb dX6_bedTold_62 (by decide) ?_
        exact ih31 (kf, i + 1, acc + 0) H locs ls (by dsimp only; omega) ⟨hP, hS, lv_sub hl [0, 1, 2, 3, 4] rfl, (by omega), (by first | exact hF | (rw [← hF]; simp [gS, hcc]) | (rw [← hF]; simp [gS, *]))⟩
      · skip
        refine lv_iconst (v := 1) hx hb dX6_bedTold_52 (by decide) ?_
        refine lv_goto (tgt := 57) hx hb dX6_bedTold_53 (by decide) ?_
        refine lv_iadd hx hb dX6_bedTold_57 ?_
        refine lv_istore_n (lv' := [(3, .int (acc + 1)), (4, .int (nI i)), (0, .ref mo), (1, .int (nI k)), (2, .int (nI 3))]) hx hb dX6_bedTold_58 rfl hl (by decide) rfl (fun ls hl => ?_)
        refine lv_iinc (v := nI (i + 1)) (lv' := [(4, .int (nI (i + 1))), (3, .int (acc + 1)), (0, .ref mo), (1, .int (nI k)), (2, .int (nI 3))]) hx hb dX6_bedTold_59 hl (k := 1) rfl (nI_add i 1) (by decide) rfl (fun ls hl => ?_)
        refine lv_goto (tgt := 31) hx hb dX6_bedTold_62 (by decide) ?_
        exact ih31 (kf, i + 1, acc + 1) H locs ls (by dsimp only; omega) ⟨hP, hS, lv_sub hl [0, 1, 2, 3, 4] rfl, (by omega), (by first | exact hF | (rw [← hF]; simp [gS, hcc]) | (rw [← hF]; simp [gS, *]))⟩
  · skip
    refine lv_tableIn (off := 64) (tgt := 67) hx hb dX6_bedTold_3 (by decide) (by decide) rfl (by decide) ?_
    refine lv_aload_n hx hb dX6_bedTold_67 rfl (lv_at hl 1 rfl) ?_
    refine lv_iload_n hx hb dX6_bedTold_68 rfl (lv_at hl 2 rfl) ?_
    refine lv_iconst (v := 3) hx hb dX6_bedTold_69 (by decide) ?_
    refine va_calli (va_runV (As := [.int (nI k), .int 3]) (rest := []) ⟨hx, hb, hml, hown, hts⟩ (met_X6_ro l D cI cZ cL mo m4 m5 m6 m7 m8 m9 th nb nq nr (enR Q) k 3 (by first | assumption | omega) (by first | assumption | omega)) (cwV 2 hts gX6_bedTold_X6_ro rfl rfl rfl (by decide +kernel) ⟨Nat.le_of_ble_eq_true rfl, Nat.le_of_ble_eq_true rfl⟩) (gw_pvr hK hP (wc := [(mo, .inr (6, [.int th, .int (nI nb), .int (nI nq), .int (nI nr), .ref m4, .ref m5, .ref m6, .ref m7, .ref m8, .ref m9])), (m5, .inl (cI, 20, .inl (enR Q)))]) [0, 1] rfl 6 rfl rfl rfl) rfl rfl hl.1 rfl (lv_room (Nat.le_of_ble_eq_true rfl)) dX6_bedTold_70 ⟨Nat.zero_le _, Nat.zero_le _⟩) hS (fun _ _ z => z.elim) (fun _ z => z.elim) (fun r_12 _ t H1 locs ht hvm hw hB hz1 hk1 hS => ?_)
    have hP := gw_ro hP hk1
    generalize H1 = H at hP hS ⊢
    subst hw
    refine gw_top (y := Q 4 k) (enR_3 Q k) ?_
    exact W.iret (v := Q 4 k) hx hb hr (fun t ht hW => ⟨⟨_, (), rfl, rfl, trivial⟩, hS.F ht⟩) hS.2.2 dX6_bedTold_73
  · skip
    refine lv_tableIn (off := 71) (tgt := 74) hx hb dX6_bedTold_3 (by decide) (by decide) rfl (by decide) ?_
    refine lv_iconst (v := 0) hx hb dX6_bedTold_74 (by decide) ?_
    refine lv_istore (lv' := [(4, .int 0), (3, .int 0), (0, .ref mo), (1, .int (nI k)), (2, .int (nI 5))]) hx hb dX6_bedTold_75 hl (by decide) rfl (fun ls hl => ?_)
    refine gw_loop (fun (zz : Nat × Nat × Int32) H locs ls => match zz with | (kf, i, acc) => va_P D vwCl [(mo, .inr (6, [.int th, .int (nI nb), .int (nI nq), .int (nI nr), .ref m4, .ref m5, .ref m6, .ref m7, .ref m8, .ref m9])), (m5, .inl (cI, 20, .inl (enR Q))), (m6, .inl (cI, 24, .inl (enP Q))), (m7, .inl (cI, 300, .inl (enS Q))), (m9, .inl (cI, 3, .inl (enN day co nw)))] H ∧ va_S gN s.heap H locs ∧ lv_has ls 5 [(4, .int (nI i)), (3, .int acc), (0, .ref mo), (1, .int (nI k)), (2, .int (nI 5))] ∧ (i + kf = nw) ∧ (gS (fun j => if Q 9 j = nI k then (if Q 12 j = 0 then 1 else 0) else 0) kf i acc = gS (fun j => if Q 9 j = nI k then (if Q 12 j = 0 then 1 else 0) else 0) nw 0 0)) (fun (zz : Nat × Nat × Int32) => match zz with | (kf, i, acc) => kf) (nw, 0, 0) ⟨hP, hS, lv_sub hl [0, 1, 2, 3, 4] rfl, (by omega), rfl⟩ ?_
    rintro ⟨kf, i, acc⟩ ih H locs ls ⟨hP, hS, hl, hin, hF⟩
    have hP : va_P D vwCl [(mo, .inr (6, [.int th, .int (nI nb), .int (nI nq), .int (nI nr), .ref m4, .ref m5, .ref m6, .ref m7, .ref m8, .ref m9])), (m5, .inl (cI, 20, .inl (enR Q))), (m6, .inl (cI, 24, .inl (enP Q))), (m7, .inl (cI, 300, .inl (enS Q))), (m9, .inl (cI, 3, .inl (enN day co nw)))] H := hP
    have hl : lv_has ls 5 [(4, .int (nI i)), (3, .int acc), (0, .ref mo), (1, .int (nI k)), (2, .int (nI 5))] := hl
    have hin : i + kf = nw := hin
    have hF : gS (fun j => if Q 9 j = nI k then (if Q 12 j = 0 then 1 else 0) else 0) kf i acc = gS (fun j => if Q 9 j = nI k then (if Q 12 j = 0 then 1 else 0) else 0) nw 0 0 := hF
    have ih77 := ih
    refine lv_iload hx hb dX6_bedTold_77 (lv_at hl 0 rfl) ?_
    refine lv_aload_n hx hb dX6_bedTold_79 rfl (lv_at hl 2 rfl) ?_
    refine va_get (D := D) (ci := 6) (v := .ref m9) (C := RX6) (T := TX6) (N := 10) hx hb hts wc_X6_bedTold_X6 hown hK hP 0 rfl rfl 9 (by decide) (hts _ wd_X6_bedTold_2) (fun _ h9 => h9) rfl dX6_bedTold_80 ?_
    refine lv_iconst (v := 2) hx hb dX6_bedTold_83 (by decide) ?_
    refine gw_top (y := nI 2) rfl ?_
    refine gw_iald hx hb hK hP 4 0 (k := 2) rfl rfl (by omega) (by decide) dX6_bedTold_84 ?_
    refine gw_top (y := nI nw) rfl ?_
    refine lv_icmp_ge (tgt := 121) hx hb dX6_bedTold_85 (by decide) (fun c => ?_) (fun c => ?_)
    · skip
      have hk0 : kf = 0 := by have := gw_ge (by omega) (by omega) c; omega
      subst hk0
      refine lv_iload_n hx hb dX6_bedTold_121 rfl (lv_at hl 1 rfl) ?_
      exact W.iret (v := acc) hx hb hr (fun t ht hW => ⟨⟨_, (), rfl, (hF.trans rfl), trivial⟩, hS.F ht⟩) hS.2.2 dX6_bedTold_122
    · skip
      have hi : i < nw := gw_lt (by omega) (by omega) c
      obtain ⟨kf, rfl⟩ : ∃ k2, kf = k2 + 1 := ⟨kf - 1, by omega⟩
      refine lv_iload_n hx hb dX6_bedTold_88 rfl (lv_at hl 1 rfl) ?_
      refine lv_aload_n hx hb dX6_bedTold_89 rfl (lv_at hl 2 rfl) ?_
      refine lv_iload hx hb dX6_bedTold_90 (lv_at hl 0 rfl) ?_
      refine lv_iconst (v := 0) hx hb dX6_bedTold_92 (by decide) ?_
      refine va_calli (va_runV (As := [.int (nI i), .int 0]) (rest := [.int acc]) ⟨hx, hb, hml, hown, hts⟩ (met_X6_st l D cI cZ cL mo m4 m5 m6 m7 m8 m9 th nb nq nr (enS Q) i 0 (by first | assumption | omega) (by first | assumption | omega)) (cwV 2 hts gX6_bedTold_X6_st rfl rfl rfl (by decide +kernel) ⟨Nat.le_of_ble_eq_true rfl, Nat.le_of_ble_eq_true rfl⟩) (gw_pvr hK hP (wc := [(mo, .inr (6, [.int th, .int (nI nb), .int (nI nq), .int (nI nr), .ref m4, .ref m5, .ref m6, .ref m7, .ref m8, .ref m9])), (m7, .inl (cI, 300, .inl (enS Q)))]) [0, 3] rfl 6 rfl rfl rfl) rfl rfl hl.1 rfl (lv_room (Nat.le_of_ble_eq_true rfl)) dX6_bedTold_93 ⟨Nat.zero_le _, Nat.zero_le _⟩) hS (fun _ _ z => z.elim) (fun _ z => z.elim) (fun r_15 _ t H1 locs ht hvm hw hB hz1 hk1 hS => ?_)
      have hP := gw_ro hP hk1
      generalize H1 = H at hP hS ⊢
      subst hw
      refine gw_top (y := Q 9 i) (enS_0 Q i) ?_
      refine lv_iload_n hx hb dX6_bedTold_96 rfl (lv_at hl 3 rfl) ?_
      refine lv_icmp_ne (tgt := 112) hx hb dX6_bedTold_97 (by decide) (fun c2 => ?_) (fun c2 => ?_)
      · skip
        refine lv_iconst (v := 0) hx hb dX6_bedTold_112 (by decide) ?_
        refine lv_iadd hx hb dX6_bedTold_113 ?_
        refine lv_istore_n (lv' := [(3, .int (acc + 0)), (4, .int (nI i)), (0, .ref mo), (1, .int (nI k)), (2, .int (nI 5))]) hx hb dX6_bedTold_114 rfl hl (by decide) rfl (fun ls hl => ?_)
        refine lv_iinc (v := nI (i + 1)) (lv' := [(4, .int (nI (i + 1))), (3, .int (acc + 0)), (0, .ref mo), (1, .int (nI k)), (2, .int (nI 5))]) hx hb dX6_bedTold_115 hl (k := 1) rfl (nI_add i 1) (by decide) rfl (fun ls hl => ?_)
        refine lv_goto (tgt := 77) hx hb dX6_bedTold_118 (by decide) ?_
        exact ih77 (kf, i + 1, acc + 0) H locs ls (by dsimp only; omega) ⟨hP, hS, lv_sub hl [0, 1, 2, 3, 4] rfl, (by omega), (by first | exact hF | (rw [← hF]; simp [gS, hcc]) | (rw [← hF]; simp [gS, *]))⟩
      · skip
        refine lv_iconst (v := 1) hx hb dX6_bedTold_100 (by decide) ?_
        refine lv_aload_n hx hb dX6_bedTold_101 rfl (lv_at hl 2 rfl) ?_
        refine lv_iload hx hb dX6_bedTold_102 (lv_at hl 0 rfl) ?_
        refine lv_iconst (v := 4) hx hb dX6_bedTold_104 (by decide) ?_
        refine va_calli (va_runV (As := [.int (nI i), .int 4]) (rest := [.int 1, .int acc]) ⟨hx, hb, hml, hown, hts⟩ (met_X6_st l D cI cZ cL mo m4 m5 m6 m7 m8 m9 th nb nq nr (enS Q) i 4 (by first | assumption | omega) (by first | assumption | omega)) (cwV 2 hts gX6_bedTold_X6_st rfl rfl rfl (by decide +kernel) ⟨Nat.le_of_ble_eq_true rfl, Nat.le_of_ble_eq_true rfl⟩) (gw_pvr hK hP (wc := [(mo, .inr (6, [.int th, .int (nI nb), .int (nI nq), .int (nI nr), .ref m4, .ref m5, .ref m6, .ref m7, .ref m8, .ref m9])), (m7, .inl (cI, 300, .inl (enS Q)))]) [0, 3] rfl 6 rfl rfl rfl) rfl rfl hl.1 rfl (lv_room (Nat.le_of_ble_eq_true rfl)) dX6_bedTold_105 ⟨Nat.zero_le _, Nat.zero_le _⟩) hS (fun _ _ z => z.elim) (fun _ z => z.elim) (fun r_18 _ t H1 locs ht hvm hw hB hz1 hk1 hS => ?_)
        have hP := gw_ro hP hk1
        generalize H1 = H at hP hS ⊢
        subst hw
        refine gw_top (y := Q 12 i) (enS_4 Q i) ?_
        refine lv_isub hx hb dX6_bedTold_108 ?_
        refine gw_top (y := if Q 12 i = 0 then 1 else 0) (gCk (hz i)) ?_
        refine lv_goto (tgt := 113) hx hb dX6_bedTold_109 (by decide) ?_
        refine lv_iadd hx hb dX6_bedTold_113 ?_
        refine lv_istore_n (lv' := [(3, .int (acc + (if Q 12 i = 0 then 1 else 0))), (4, .int (nI i)), (0, .ref mo), (1, .int (nI k)), (2, .int (nI 5))]) hx hb dX6_bedTold_114 rfl hl (by decide) rfl (fun ls hl => ?_)
        refine lv_iinc (v := nI (i + 1)) (lv' := [(4, .int (nI (i + 1))), (3, .int (acc + (if Q 12 i = 0 then 1 else 0))), (0, .ref mo), (1, .int (nI k)), (2, .int (nI 5))]) hx hb dX6_bedTold_115 hl (k := 1) rfl (nI_add i 1) (by decide) rfl (fun ls hl => ?_)
        refine lv_goto (tgt := 77) hx hb dX6_bedTold_118 (by decide) ?_
        exact ih77 (kf, i + 1, acc + (if Q 12 i = 0 then 1 else 0)) H locs ls (by dsimp only; omega) ⟨hP, hS, lv_sub hl [0, 1, 2, 3, 4] rfl, (by omega), (by first | exact hF | (rw [← hF]; simp [gS, hcc]) | (rw [← hF]; simp [gS, *]))⟩

set_option maxHeartbeats 4000000 in
set_option maxRecDepth 100000 in
theorem met_X6_quarrierTold (l : Launch) (D : va_G) (cI cZ cL : ClassId) (mo : Nat) (m4 : Nat) (m5 : Nat) (m6 : Nat) (m7 : Nat) (m8 : Nat) (m9 : Nat) (th : Int32) (nb : Nat) (nq : Nat) (nr : Nat) (Q : Nat → Nat → Int32) (day : Nat) (co : Int32) (nw : Nat) (k : Nat) (v : Nat) (hk : k < nq) (hv5 : v < 5) (hnq : nq ≤ 6) (hnb : nb ≤ 5) (hpl : gPl Q nb nq) (hgr : gGr Q nb) : Met l yX6_quarrierTold wsX6_quarrierTold ({ frames := 1, cells := 0, slots := 0, locals := 22 }) (gPr [.ref mo, .int (nI k), .int (nI v)] D [(mo, .inr (6, [.int th, .int (nI nb), .int (nI nq), .int (nI nr), .ref m4, .ref m5, .ref m6, .ref m7, .ref m8, .ref m9])), (m5, .inl (cI, 20, .inl (enR Q))), (m6, .inl (cI, 24, .inl (enP Q)))] (gT cI cZ cL)) (va_Qi (fun (zr : Int32) (_ : Unit) => zr = gQua Q v k) (fun _ _ => True) gN) 0 0 gN := by
  refine Met.ofW (cc := cX6_quarrierTold) (maxL := 5) (ret := (some .int)) (by decide +kernel) rfl ?_
  intro p e s m args below meth c s₁ B hml hv
  obtain ⟨rfl, hP, hK⟩ := hv
  have hx := B.exec
  have hb := B.bytes
  have hr := B.returns
  have hts := atoms_spec (ws := wsX6_quarrierTold) B.pre
  have hown : s.vm.findClass RX6 = some m.cls := findClass_of_methodNamed B.named
  have hlocks := B.notSynchronized
  have hS : va_S gN s.heap s.heap [] := va_S.rf
  have hP : va_P D vwCl [(mo, .inr (6, [.int th, .int (nI nb), .int (nI nq), .int (nI nr), .ref m4, .ref m5, .ref m6, .ref m7, .ref m8, .ref m9])), (m5, .inl (cI, 20, .inl (enR Q))), (m6, .inl (cI, 24, .inl (enP Q)))] s.heap := hP
  have hl := lv_entry ([.ref mo, .int (nI k), .int (nI v)]) (n := 5) (Nat.le_of_ble_eq_true rfl)
  rw [lg_entry_eq]
  generalize (lg_sl ([.ref mo, .int (nI k), .int (nI v)]) ++ List.replicate (5 - (lg_sl ([.ref mo, .int (nI k), .int (nI v)])).length) Slot.unset).toArray = ls at hl ⊢
  have hl : lv_has ls 5 [(0, .ref mo), (1, .int (nI k)), (2, .int (nI v))] := hl
  rcases (show v = 0 ∨ v = 1 ∨ v = 2 ∨ v = 3 ∨ v = 4 by omega) with rfl | rfl | rfl | rfl | rfl
  · skip
    refine lv_iload_n hx hb dX6_quarrierTold_0 rfl (lv_at hl 2 rfl) ?_
    refine lv_iconst (v := 4) hx hb dX6_quarrierTold_1 (by decide) ?_
    refine lv_icmp_ge (tgt := 12) hx hb dX6_quarrierTold_2 (by decide) (fun c_1 => False.elim (by revert c_1; decide)) (fun _ => ?_)
    refine lv_aload_n hx hb dX6_quarrierTold_5 rfl (lv_at hl 0 rfl) ?_
    refine lv_iload_n hx hb dX6_quarrierTold_6 rfl (lv_at hl 1 rfl) ?_
    refine lv_iload_n hx hb dX6_quarrierTold_7 rfl (lv_at hl 2 rfl) ?_
    refine va_calli (va_runV (As := [.int (nI k), .int (nI 0)]) (rest := []) ⟨hx, hb, hml, hown, hts⟩ (met_X6_pe l D cI cZ cL mo m4 m5 m6 m7 m8 m9 th nb nq nr (enP Q) k 0 (by first | assumption | omega) (by first | assumption | omega)) (cwV 2 hts gX6_quarrierTold_X6_pe rfl rfl rfl (by decide +kernel) ⟨Nat.le_of_ble_eq_true rfl, Nat.le_of_ble_eq_true rfl⟩) (gw_pvr hK hP (wc := [(mo, .inr (6, [.int th, .int (nI nb), .int (nI nq), .int (nI nr), .ref m4, .ref m5, .ref m6, .ref m7, .ref m8, .ref m9])), (m6, .inl (cI, 24, .inl (enP Q)))]) [0, 2] rfl 6 rfl rfl rfl) rfl rfl hl.1 rfl (lv_room (Nat.le_of_ble_eq_true rfl)) dX6_quarrierTold_8 ⟨Nat.zero_le _, Nat.zero_le _⟩) hS (fun _ _ z => z.elim) (fun _ z => z.elim) (fun r_3 _ t H1 locs ht hvm hw hB hz1 hk1 hS => ?_)
    have hP := gw_ro hP hk1
    generalize H1 = H at hP hS ⊢
    subst hw
    refine gw_top (y := Q 5 k) (enP_0 Q k) ?_
    exact W.iret (v := Q 5 k) hx hb hr (fun t ht hW => ⟨⟨_, (), rfl, rfl, trivial⟩, hS.F ht⟩) hS.2.2 dX6_quarrierTold_11
  · skip
    refine lv_iload_n hx hb dX6_quarrierTold_0 rfl (lv_at hl 2 rfl) ?_
    refine lv_iconst (v := 4) hx hb dX6_quarrierTold_1 (by decide) ?_
    refine lv_icmp_ge (tgt := 12) hx hb dX6_quarrierTold_2 (by decide) (fun c_4 => False.elim (by revert c_4; decide)) (fun _ => ?_)
    refine lv_aload_n hx hb dX6_quarrierTold_5 rfl (lv_at hl 0 rfl) ?_
    refine lv_iload_n hx hb dX6_quarrierTold_6 rfl (lv_at hl 1 rfl) ?_
    refine lv_iload_n hx hb dX6_quarrierTold_7 rfl (lv_at hl 2 rfl) ?_
    refine va_calli (va_runV (As := [.int (nI k), .int (nI 1)]) (rest := []) ⟨hx, hb, hml, hown, hts⟩ (met_X6_pe l D cI cZ cL mo m4 m5 m6 m7 m8 m9 th nb nq nr (enP Q) k 1 (by first | assumption | omega) (by first | assumption | omega)) (cwV 2 hts gX6_quarrierTold_X6_pe rfl rfl rfl (by decide +kernel) ⟨Nat.le_of_ble_eq_true rfl, Nat.le_of_ble_eq_true rfl⟩) (gw_pvr hK hP (wc := [(mo, .inr (6, [.int th, .int (nI nb), .int (nI nq), .int (nI nr), .ref m4, .ref m5, .ref m6, .ref m7, .ref m8, .ref m9])), (m6, .inl (cI, 24, .inl (enP Q)))]) [0, 2] rfl 6 rfl rfl rfl) rfl rfl hl.1 rfl (lv_room (Nat.le_of_ble_eq_true rfl)) dX6_quarrierTold_8 ⟨Nat.zero_le _, Nat.zero_le _⟩) hS (fun _ _ z => z.elim) (fun _ z => z.elim) (fun r_6 _ t H1 locs ht hvm hw hB hz1 hk1 hS => ?_)
    have hP := gw_ro hP hk1
    generalize H1 = H at hP hS ⊢
    subst hw
    refine gw_top (y := Q 6 k) (enP_1 Q k) ?_
    exact W.iret (v := Q 6 k) hx hb hr (fun t ht hW => ⟨⟨_, (), rfl, rfl, trivial⟩, hS.F ht⟩) hS.2.2 dX6_quarrierTold_11
  · skip
    refine lv_iload_n hx hb dX6_quarrierTold_0 rfl (lv_at hl 2 rfl) ?_
    refine lv_iconst (v := 4) hx hb dX6_quarrierTold_1 (by decide) ?_
    refine lv_icmp_ge (tgt := 12) hx hb dX6_quarrierTold_2 (by decide) (fun c_7 => False.elim (by revert c_7; decide)) (fun _ => ?_)
    refine lv_aload_n hx hb dX6_quarrierTold_5 rfl (lv_at hl 0 rfl) ?_
    refine lv_iload_n hx hb dX6_quarrierTold_6 rfl (lv_at hl 1 rfl) ?_
    refine lv_iload_n hx hb dX6_quarrierTold_7 rfl (lv_at hl 2 rfl) ?_
    refine va_calli (va_runV (As := [.int (nI k), .int (nI 2)]) (rest := []) ⟨hx, hb, hml, hown, hts⟩ (met_X6_pe l D cI cZ cL mo m4 m5 m6 m7 m8 m9 th nb nq nr (enP Q) k 2 (by first | assumption | omega) (by first | assumption | omega)) (cwV 2 hts gX6_quarrierTold_X6_pe rfl rfl rfl (by decide +kernel) ⟨Nat.le_of_ble_eq_true rfl, Nat.le_of_ble_eq_true rfl⟩) (gw_pvr hK hP (wc := [(mo, .inr (6, [.int th, .int (nI nb), .int (nI nq), .int (nI nr), .ref m4, .ref m5, .ref m6, .ref m7, .ref m8, .ref m9])), (m6, .inl (cI, 24, .inl (enP Q)))]) [0, 2] rfl 6 rfl rfl rfl) rfl rfl hl.1 rfl (lv_room (Nat.le_of_ble_eq_true rfl)) dX6_quarrierTold_8 ⟨Nat.zero_le _, Nat.zero_le _⟩) hS (fun _ _ z => z.elim) (fun _ z => z.elim) (fun r_9 _ t H1 locs ht hvm hw hB hz1 hk1 hS => ?_)
    have hP := gw_ro hP hk1
    generalize H1 = H at hP hS ⊢
    subst hw
    refine gw_top (y := Q 7 k) (enP_2 Q k) ?_
    exact W.iret (v := Q 7 k) hx hb hr (fun t ht hW => ⟨⟨_, (), rfl, rfl, trivial⟩, hS.F ht⟩) hS.2.2 dX6_quarrierTold_11
  · skip
    refine lv_iload_n hx hb dX6_quarrierTold_0 rfl (lv_at hl 2 rfl) ?_
    refine lv_iconst (v := 4) hx hb dX6_quarrierTold_1 (by decide) ?_
    refine lv_icmp_ge (tgt := 12) hx hb dX6_quarrierTold_2 (by decide) (fun c_10 => False.elim (by revert c_10; decide)) (fun _ => ?_)
    refine lv_aload_n hx hb dX6_quarrierTold_5 rfl (lv_at hl 0 rfl) ?_
    refine lv_iload_n hx hb dX6_quarrierTold_6 rfl (lv_at hl 1 rfl) ?_
    refine lv_iload_n hx hb dX6_quarrierTold_7 rfl (lv_at hl 2 rfl) ?_
    refine va_calli (va_runV (As := [.int (nI k), .int (nI 3)]) (rest := []) ⟨hx, hb, hml, hown, hts⟩ (met_X6_pe l D cI cZ cL mo m4 m5 m6 m7 m8 m9 th nb nq nr (enP Q) k 3 (by first | assumption | omega) (by first | assumption | omega)) (cwV 2 hts gX6_quarrierTold_X6_pe rfl rfl rfl (by decide +kernel) ⟨Nat.le_of_ble_eq_true rfl, Nat.le_of_ble_eq_true rfl⟩) (gw_pvr hK hP (wc := [(mo, .inr (6, [.int th, .int (nI nb), .int (nI nq), .int (nI nr), .ref m4, .ref m5, .ref m6, .ref m7, .ref m8, .ref m9])), (m6, .inl (cI, 24, .inl (enP Q)))]) [0, 2] rfl 6 rfl rfl rfl) rfl rfl hl.1 rfl (lv_room (Nat.le_of_ble_eq_true rfl)) dX6_quarrierTold_8 ⟨Nat.zero_le _, Nat.zero_le _⟩) hS (fun _ _ z => z.elim) (fun _ z => z.elim) (fun r_12 _ t H1 locs ht hvm hw hB hz1 hk1 hS => ?_)
    have hP := gw_ro hP hk1
    generalize H1 = H at hP hS ⊢
    subst hw
    refine gw_top (y := Q 8 k) (enP_3 Q k) ?_
    exact W.iret (v := Q 8 k) hx hb hr (fun t ht hW => ⟨⟨_, (), rfl, rfl, trivial⟩, hS.F ht⟩) hS.2.2 dX6_quarrierTold_11
  · skip
    refine lv_iload_n hx hb dX6_quarrierTold_0 rfl (lv_at hl 2 rfl) ?_
    refine lv_iconst (v := 4) hx hb dX6_quarrierTold_1 (by decide) ?_
    refine lv_icmp_ge (tgt := 12) hx hb dX6_quarrierTold_2 (by decide) (fun _ => ?_) (fun c_13 => False.elim (by revert c_13; decide))
    refine lv_aload_n hx hb dX6_quarrierTold_12 rfl (lv_at hl 0 rfl) ?_
    refine lv_iload_n hx hb dX6_quarrierTold_13 rfl (lv_at hl 1 rfl) ?_
    refine lv_iconst (v := 1) hx hb dX6_quarrierTold_14 (by decide) ?_
    refine va_calli (va_runV (As := [.int (nI k), .int 1]) (rest := []) ⟨hx, hb, hml, hown, hts⟩ (met_X6_pe l D cI cZ cL mo m4 m5 m6 m7 m8 m9 th nb nq nr (enP Q) k 1 (by first | assumption | omega) (by first | assumption | omega)) (cwV 2 hts gX6_quarrierTold_X6_pe rfl rfl rfl (by decide +kernel) ⟨Nat.le_of_ble_eq_true rfl, Nat.le_of_ble_eq_true rfl⟩) (gw_pvr hK hP (wc := [(mo, .inr (6, [.int th, .int (nI nb), .int (nI nq), .int (nI nr), .ref m4, .ref m5, .ref m6, .ref m7, .ref m8, .ref m9])), (m6, .inl (cI, 24, .inl (enP Q)))]) [0, 2] rfl 6 rfl rfl rfl) rfl rfl hl.1 rfl (lv_room (Nat.le_of_ble_eq_true rfl)) dX6_quarrierTold_15 ⟨Nat.zero_le _, Nat.zero_le _⟩) hS (fun _ _ z => z.elim) (fun _ z => z.elim) (fun r_15 _ t H1 locs ht hvm hw hB hz1 hk1 hS => ?_)
    have hP := gw_ro hP hk1
    generalize H1 = H at hP hS ⊢
    subst hw
    refine gw_top (y := Q 6 k) (enP_1 Q k) ?_
    refine lv_iconst (v := (-1)) hx hb dX6_quarrierTold_18 (by decide) ?_
    refine lv_icmp_ne (tgt := 24) hx hb dX6_quarrierTold_19 (by decide) (fun c1 => ?_) (fun c1 => ?_)
    · skip
      obtain ⟨b, hb2, hbe⟩ := (hpl k hk).resolve_left c1
      have hcl : (Q 6 k).toNatClampNeg = b := by rw [hbe]; exact nI_clamp (by omega)
      refine lv_bipush (v := 60) hx hb dX6_quarrierTold_24 (by decide) ?_
      refine lv_aload_n hx hb dX6_quarrierTold_26 rfl (lv_at hl 0 rfl) ?_
      refine lv_iload_n hx hb dX6_quarrierTold_27 rfl (lv_at hl 1 rfl) ?_
      refine lv_iconst (v := 2) hx hb dX6_quarrierTold_28 (by decide) ?_
      refine va_calli (va_runV (As := [.int (nI k), .int 2]) (rest := [.int 60]) ⟨hx, hb, hml, hown, hts⟩ (met_X6_pe l D cI cZ cL mo m4 m5 m6 m7 m8 m9 th nb nq nr (enP Q) k 2 (by first | assumption | omega) (by first | assumption | omega)) (cwV 2 hts gX6_quarrierTold_X6_pe rfl rfl rfl (by decide +kernel) ⟨Nat.le_of_ble_eq_true rfl, Nat.le_of_ble_eq_true rfl⟩) (gw_pvr hK hP (wc := [(mo, .inr (6, [.int th, .int (nI nb), .int (nI nq), .int (nI nr), .ref m4, .ref m5, .ref m6, .ref m7, .ref m8, .ref m9])), (m6, .inl (cI, 24, .inl (enP Q)))]) [0, 2] rfl 6 rfl rfl rfl) rfl rfl hl.1 rfl (lv_room (Nat.le_of_ble_eq_true rfl)) dX6_quarrierTold_29 ⟨Nat.zero_le _, Nat.zero_le _⟩) hS (fun _ _ z => z.elim) (fun _ z => z.elim) (fun r_18 _ t H1 locs ht hvm hw hB hz1 hk1 hS => ?_)
      have hP := gw_ro hP hk1
      generalize H1 = H at hP hS ⊢
      subst hw
      refine gw_top (y := Q 7 k) (enP_2 Q k) ?_
      refine lv_isub hx hb dX6_quarrierTold_32 ?_
      refine lv_istore_n (lv' := [(3, .int (60 - (Q 7 k))), (0, .ref mo), (1, .int (nI k)), (2, .int (nI 4))]) hx hb dX6_quarrierTold_33 rfl hl (by decide) rfl (fun ls hl => ?_)
      refine lv_aload_n hx hb dX6_quarrierTold_34 rfl (lv_at hl 1 rfl) ?_
      refine lv_aload_n hx hb dX6_quarrierTold_35 rfl (lv_at hl 1 rfl) ?_
      refine lv_iload_n hx hb dX6_quarrierTold_36 rfl (lv_at hl 2 rfl) ?_
      refine lv_iconst (v := 1) hx hb dX6_quarrierTold_37 (by decide) ?_
      refine va_calli (va_runV (As := [.int (nI k), .int 1]) (rest := [.ref mo]) ⟨hx, hb, hml, hown, hts⟩ (met_X6_pe l D cI cZ cL mo m4 m5 m6 m7 m8 m9 th nb nq nr (enP Q) k 1 (by first | assumption | omega) (by first | assumption | omega)) (cwV 2 hts gX6_quarrierTold_X6_pe rfl rfl rfl (by decide +kernel) ⟨Nat.le_of_ble_eq_true rfl, Nat.le_of_ble_eq_true rfl⟩) (gw_pvr hK hP (wc := [(mo, .inr (6, [.int th, .int (nI nb), .int (nI nq), .int (nI nr), .ref m4, .ref m5, .ref m6, .ref m7, .ref m8, .ref m9])), (m6, .inl (cI, 24, .inl (enP Q)))]) [0, 2] rfl 6 rfl rfl rfl) rfl rfl hl.1 rfl (lv_room (Nat.le_of_ble_eq_true rfl)) dX6_quarrierTold_38 ⟨Nat.zero_le _, Nat.zero_le _⟩) hS (fun _ _ z => z.elim) (fun _ z => z.elim) (fun r_20 _ t H1 locs ht hvm hw hB hz1 hk1 hS => ?_)
      have hP := gw_ro hP hk1
      generalize H1 = H at hP hS ⊢
      subst hw
      refine gw_top (y := Q 6 k) (enP_1 Q k) ?_
      refine gw_top (y := nI b) hbe ?_
      refine lv_iconst (v := 0) hx hb dX6_quarrierTold_41 (by decide) ?_
      refine va_calli (va_runV (As := [.int (nI b), .int 0]) (rest := []) ⟨hx, hb, hml, hown, hts⟩ (met_X6_ro l D cI cZ cL mo m4 m5 m6 m7 m8 m9 th nb nq nr (enR Q) b 0 (by first | assumption | omega) (by first | assumption | omega)) (cwV 2 hts gX6_quarrierTold_X6_ro rfl rfl rfl (by decide +kernel) ⟨Nat.le_of_ble_eq_true rfl, Nat.le_of_ble_eq_true rfl⟩) (gw_pvr hK hP (wc := [(mo, .inr (6, [.int th, .int (nI nb), .int (nI nq), .int (nI nr), .ref m4, .ref m5, .ref m6, .ref m7, .ref m8, .ref m9])), (m5, .inl (cI, 20, .inl (enR Q)))]) [0, 1] rfl 6 rfl rfl rfl) rfl rfl hl.1 rfl (lv_room (Nat.le_of_ble_eq_true rfl)) dX6_quarrierTold_42 ⟨Nat.zero_le _, Nat.zero_le _⟩) hS (fun _ _ z => z.elim) (fun _ z => z.elim) (fun r_22 _ t H1 locs ht hvm hw hB hz1 hk1 hS => ?_)
      have hP := gw_ro hP hk1
      generalize H1 = H at hP hS ⊢
      subst hw
      refine gw_top (y := Q 1 b) (enR_0 Q b) ?_
      refine lv_iconst (v := 1) hx hb dX6_quarrierTold_45 (by decide) ?_
      refine lv_iadd hx hb dX6_quarrierTold_46 ?_
      refine lv_istore (lv' := [(4, .int ((Q 1 b) + 1)), (3, .int (60 - (Q 7 k))), (0, .ref mo), (1, .int (nI k)), (2, .int (nI 4))]) hx hb dX6_quarrierTold_47 hl (by decide) rfl (fun ls hl => ?_)
      refine lv_iload_n hx hb dX6_quarrierTold_49 rfl (lv_at hl 1 rfl) ?_
      refine lv_if_gt (tgt := 57) hx hb dX6_quarrierTold_50 (by decide) (fun c2 => ?_) (fun c2 => ?_)
      · skip
        refine lv_iload_n hx hb dX6_quarrierTold_57 rfl (lv_at hl 1 rfl) ?_
        refine lv_iload hx hb dX6_quarrierTold_58 (lv_at hl 0 rfl) ?_
        refine lv_iadd hx hb dX6_quarrierTold_60 ?_
        refine lv_iconst (v := 1) hx hb dX6_quarrierTold_61 (by decide) ?_
        refine lv_isub hx hb dX6_quarrierTold_62 ?_
        refine lv_iload hx hb dX6_quarrierTold_63 (lv_at hl 0 rfl) ?_
        refine lv_idiv hx hb dX6_quarrierTold_65 (gGr_ne (hgr b hb2)) ?_
        exact W.iret (v := (((60 - (Q 7 k)) + ((Q 1 b) + 1)) - 1) / ((Q 1 b) + 1)) hx hb hr (fun t ht hW => ⟨⟨_, (), rfl, (by show _ = gTired _ _ _; rw [hcl]; unfold gTired; rw [if_neg c1]; first | rw [if_pos (Int32.not_lt.mp c2)] | rw [if_neg (Int32.not_le.mpr c2), if_neg (gGr_nle (hgr b hb2))]), trivial⟩, hS.F ht⟩) hS.2.2 dX6_quarrierTold_66
      · skip
        refine lv_iconst (v := 0) hx hb dX6_quarrierTold_53 (by decide) ?_
        refine lv_goto (tgt := 66) hx hb dX6_quarrierTold_54 (by decide) ?_
        exact W.iret (v := 0) hx hb hr (fun t ht hW => ⟨⟨_, (), rfl, (by show _ = gTired _ _ _; rw [hcl]; unfold gTired; rw [if_neg c1]; first | rw [if_pos (Int32.not_lt.mp c2)] | rw [if_neg (Int32.not_le.mpr c2), if_neg (gGr_nle (hgr b hb2))]), trivial⟩, hS.F ht⟩) hS.2.2 dX6_quarrierTold_66
    · skip
      have hm1 : Q 6 k = -1 := c1
      refine lv_iconst (v := (-1)) hx hb dX6_quarrierTold_22 (by decide) ?_
      exact W.iret (v := (-1)) hx hb hr (fun t ht hW => ⟨⟨_, (), rfl, (by show _ = gTired _ _ _; unfold gTired; rw [if_pos hm1]), trivial⟩, hS.F ht⟩) hS.2.2 dX6_quarrierTold_23

set_option maxHeartbeats 4000000 in
set_option maxRecDepth 100000 in
theorem met_X6_wheelTold (l : Launch) (D : va_G) (cI cZ cL : ClassId) (mo : Nat) (m4 : Nat) (m5 : Nat) (m6 : Nat) (m7 : Nat) (m8 : Nat) (m9 : Nat) (th : Int32) (nb : Nat) (nq : Nat) (nr : Nat) (Q : Nat → Nat → Int32) (day : Nat) (co : Int32) (nw : Nat) (k : Nat) (v : Nat) (hk : k < nw) (hv6 : v < 6) (hnb : nb ≤ 5) (hnw : nw ≤ 60) (hof : gOf Q nb nw) (hz : ∀ j, Q 12 j = 0 ∨ Q 12 j = 1) : Met l yX6_wheelTold wsX6_wheelTold ({ frames := 2, cells := 0, slots := 0, locals := 44 }) (gPr [.ref mo, .int (nI k), .int (nI v)] D [(mo, .inr (6, [.int th, .int (nI nb), .int (nI nq), .int (nI nr), .ref m4, .ref m5, .ref m6, .ref m7, .ref m8, .ref m9])), (m5, .inl (cI, 20, .inl (enR Q))), (m7, .inl (cI, 300, .inl (enS Q)))] (gT cI cZ cL)) (va_Qi (fun (zr : Int32) (_ : Unit) => zr = gFact v (Q 9 k) (Q 11 k) (Q 10 k) (Q 13 k) (Q 12 k) (Q 14 k)) (fun _ _ => True) gN) 0 0 gN := by
  refine Met.ofW (cc := cX6_wheelTold) (maxL := 3) (ret := (some .int)) (by decide +kernel) rfl ?_
  intro p e s m args below meth c s₁ B hml hv
  obtain ⟨rfl, hP, hK⟩ := hv
  have hx := B.exec
  have hb := B.bytes
  have hr := B.returns
  have hts := atoms_spec (ws := wsX6_wheelTold) B.pre
  have hown : s.vm.findClass RX6 = some m.cls := findClass_of_methodNamed B.named
  have hlocks := B.notSynchronized
  have hS : va_S gN s.heap s.heap [] := va_S.rf
  have hP : va_P D vwCl [(mo, .inr (6, [.int th, .int (nI nb), .int (nI nq), .int (nI nr), .ref m4, .ref m5, .ref m6, .ref m7, .ref m8, .ref m9])), (m5, .inl (cI, 20, .inl (enR Q))), (m7, .inl (cI, 300, .inl (enS Q)))] s.heap := hP
  have hl := lv_entry ([.ref mo, .int (nI k), .int (nI v)]) (n := 3) (Nat.le_of_ble_eq_true rfl)
  rw [lg_entry_eq]
  generalize (lg_sl ([.ref mo, .int (nI k), .int (nI v)]) ++ List.replicate (3 - (lg_sl ([.ref mo, .int (nI k), .int (nI v)])).length) Slot.unset).toArray = ls at hl ⊢
  have hl : lv_has ls 3 [(0, .ref mo), (1, .int (nI k)), (2, .int (nI v))] := hl
  refine lv_iload_n hx hb dX6_wheelTold_0 rfl (lv_at hl 2 rfl) ?_
  rcases (show v = 0 ∨ v = 1 ∨ v = 2 ∨ v = 3 ∨ v = 4 ∨ v = 5 by omega) with rfl | rfl | rfl | rfl | rfl | rfl
  · skip
    refine lv_tableIn (off := 35) (tgt := 36) hx hb dX6_wheelTold_1 (by decide) (by decide) rfl (by decide) ?_
    refine lv_aload_n hx hb dX6_wheelTold_36 rfl (lv_at hl 0 rfl) ?_
    refine lv_iload_n hx hb dX6_wheelTold_37 rfl (lv_at hl 1 rfl) ?_
    refine lv_iconst (v := 0) hx hb dX6_wheelTold_38 (by decide) ?_
    refine va_calli (va_runV (As := [.int (nI k), .int 0]) (rest := []) ⟨hx, hb, hml, hown, hts⟩ (met_X6_st l D cI cZ cL mo m4 m5 m6 m7 m8 m9 th nb nq nr (enS Q) k 0 (by first | assumption | omega) (by first | assumption | omega)) (cwV 2 hts gX6_wheelTold_X6_st rfl rfl rfl (by decide +kernel) ⟨Nat.le_of_ble_eq_true rfl, Nat.le_of_ble_eq_true rfl⟩) (gw_pvr hK hP (wc := [(mo, .inr (6, [.int th, .int (nI nb), .int (nI nq), .int (nI nr), .ref m4, .ref m5, .ref m6, .ref m7, .ref m8, .ref m9])), (m7, .inl (cI, 300, .inl (enS Q)))]) [0, 2] rfl 6 rfl rfl rfl) rfl rfl hl.1 rfl (lv_room (Nat.le_of_ble_eq_true rfl)) dX6_wheelTold_39 ⟨Nat.zero_le _, Nat.zero_le _⟩) hS (fun _ _ z => z.elim) (fun _ z => z.elim) (fun r_2 _ t H1 locs ht hvm hw hB hz1 hk1 hS => ?_)
    have hP := gw_ro hP hk1
    generalize H1 = H at hP hS ⊢
    subst hw
    refine gw_top (y := Q 9 k) (enS_0 Q k) ?_
    exact W.iret (v := Q 9 k) hx hb hr (fun t ht hW => ⟨⟨_, (), rfl, rfl, trivial⟩, hS.F ht⟩) hS.2.2 dX6_wheelTold_42
  · skip
    refine lv_tableIn (off := 42) (tgt := 43) hx hb dX6_wheelTold_1 (by decide) (by decide) rfl (by decide) ?_
    refine lv_aload_n hx hb dX6_wheelTold_43 rfl (lv_at hl 0 rfl) ?_
    refine lv_iload_n hx hb dX6_wheelTold_44 rfl (lv_at hl 1 rfl) ?_
    refine lv_iconst (v := 1) hx hb dX6_wheelTold_45 (by decide) ?_
    refine va_calli (va_runV (As := [.int (nI k), .int 1]) (rest := []) ⟨hx, hb, hml, hown, hts⟩ (met_X6_st l D cI cZ cL mo m4 m5 m6 m7 m8 m9 th nb nq nr (enS Q) k 1 (by first | assumption | omega) (by first | assumption | omega)) (cwV 2 hts gX6_wheelTold_X6_st rfl rfl rfl (by decide +kernel) ⟨Nat.le_of_ble_eq_true rfl, Nat.le_of_ble_eq_true rfl⟩) (gw_pvr hK hP (wc := [(mo, .inr (6, [.int th, .int (nI nb), .int (nI nq), .int (nI nr), .ref m4, .ref m5, .ref m6, .ref m7, .ref m8, .ref m9])), (m7, .inl (cI, 300, .inl (enS Q)))]) [0, 2] rfl 6 rfl rfl rfl) rfl rfl hl.1 rfl (lv_room (Nat.le_of_ble_eq_true rfl)) dX6_wheelTold_46 ⟨Nat.zero_le _, Nat.zero_le _⟩) hS (fun _ _ z => z.elim) (fun _ z => z.elim) (fun r_4 _ t H1 locs ht hvm hw hB hz1 hk1 hS => ?_)
    have hP := gw_ro hP hk1
    generalize H1 = H at hP hS ⊢
    subst hw
    refine gw_top (y := Q 11 k) (enS_1 Q k) ?_
    exact W.iret (v := Q 11 k) hx hb hr (fun t ht hW => ⟨⟨_, (), rfl, rfl, trivial⟩, hS.F ht⟩) hS.2.2 dX6_wheelTold_49
  · skip
    refine lv_tableIn (off := 49) (tgt := 50) hx hb dX6_wheelTold_1 (by decide) (by decide) rfl (by decide) ?_
    refine lv_aload_n hx hb dX6_wheelTold_50 rfl (lv_at hl 0 rfl) ?_
    refine lv_iload_n hx hb dX6_wheelTold_51 rfl (lv_at hl 1 rfl) ?_
    refine va_calli (va_runV (As := [.int (nI k)]) (rest := []) ⟨hx, hb, hml, hown, hts⟩ (met_X6_weight l D cI cZ cL mo m4 m5 m6 m7 m8 m9 th nb nq nr Q k (by first | assumption | omega)) (cwV 1 hts gX6_wheelTold_X6_weight rfl rfl rfl (by decide +kernel) ⟨Nat.le_of_ble_eq_true rfl, Nat.le_of_ble_eq_true rfl⟩) (gw_pvr hK hP (wc := [(mo, .inr (6, [.int th, .int (nI nb), .int (nI nq), .int (nI nr), .ref m4, .ref m5, .ref m6, .ref m7, .ref m8, .ref m9])), (m7, .inl (cI, 300, .inl (enS Q)))]) [0, 2] rfl 6 rfl rfl rfl) rfl rfl hl.1 rfl (lv_room (Nat.le_of_ble_eq_true rfl)) dX6_wheelTold_52 ⟨Nat.zero_le _, Nat.zero_le _⟩) hS (fun _ _ z => z.elim) (fun _ z => z.elim) (fun r_6 _ t H1 locs ht hvm hw hB hz1 hk1 hS => ?_)
    have hP := gw_ro hP hk1
    generalize H1 = H at hP hS ⊢
    subst hw
    exact W.iret (v := 2 * Q 11 k * Q 11 k) hx hb hr (fun t ht hW => ⟨⟨_, (), rfl, rfl, trivial⟩, hS.F ht⟩) hS.2.2 dX6_wheelTold_55
  · skip
    refine lv_tableIn (off := 55) (tgt := 56) hx hb dX6_wheelTold_1 (by decide) (by decide) rfl (by decide) ?_
    refine lv_aload_n hx hb dX6_wheelTold_56 rfl (lv_at hl 0 rfl) ?_
    refine lv_iload_n hx hb dX6_wheelTold_57 rfl (lv_at hl 1 rfl) ?_
    refine lv_iconst (v := 2) hx hb dX6_wheelTold_58 (by decide) ?_
    refine va_calli (va_runV (As := [.int (nI k), .int 2]) (rest := []) ⟨hx, hb, hml, hown, hts⟩ (met_X6_st l D cI cZ cL mo m4 m5 m6 m7 m8 m9 th nb nq nr (enS Q) k 2 (by first | assumption | omega) (by first | assumption | omega)) (cwV 2 hts gX6_wheelTold_X6_st rfl rfl rfl (by decide +kernel) ⟨Nat.le_of_ble_eq_true rfl, Nat.le_of_ble_eq_true rfl⟩) (gw_pvr hK hP (wc := [(mo, .inr (6, [.int th, .int (nI nb), .int (nI nq), .int (nI nr), .ref m4, .ref m5, .ref m6, .ref m7, .ref m8, .ref m9])), (m7, .inl (cI, 300, .inl (enS Q)))]) [0, 2] rfl 6 rfl rfl rfl) rfl rfl hl.1 rfl (lv_room (Nat.le_of_ble_eq_true rfl)) dX6_wheelTold_59 ⟨Nat.zero_le _, Nat.zero_le _⟩) hS (fun _ _ z => z.elim) (fun _ z => z.elim) (fun r_8 _ t H1 locs ht hvm hw hB hz1 hk1 hS => ?_)
    have hP := gw_ro hP hk1
    generalize H1 = H at hP hS ⊢
    subst hw
    refine gw_top (y := Q 13 k) (enS_2 Q k) ?_
    exact W.iret (v := Q 13 k) hx hb hr (fun t ht hW => ⟨⟨_, (), rfl, rfl, trivial⟩, hS.F ht⟩) hS.2.2 dX6_wheelTold_62
  · skip
    refine lv_tableIn (off := 62) (tgt := 63) hx hb dX6_wheelTold_1 (by decide) (by decide) rfl (by decide) ?_
    refine lv_aload_n hx hb dX6_wheelTold_63 rfl (lv_at hl 0 rfl) ?_
    refine lv_iload_n hx hb dX6_wheelTold_64 rfl (lv_at hl 1 rfl) ?_
    refine va_calli (va_runV (As := [.int (nI k)]) (rest := []) ⟨hx, hb, hml, hown, hts⟩ (met_X6_worth l D cI cZ cL mo m4 m5 m6 m7 m8 m9 th nb nq nr Q nw k (by first | assumption | omega) (by first | assumption | omega) (by first | assumption | omega) (by first | assumption | omega) (by first | assumption | omega)) (cwV 1 hts gX6_wheelTold_X6_worth rfl rfl rfl (by decide +kernel) ⟨Nat.le_of_ble_eq_true rfl, Nat.le_of_ble_eq_true rfl⟩) (gw_pvr hK hP (wc := [(mo, .inr (6, [.int th, .int (nI nb), .int (nI nq), .int (nI nr), .ref m4, .ref m5, .ref m6, .ref m7, .ref m8, .ref m9])), (m5, .inl (cI, 20, .inl (enR Q))), (m7, .inl (cI, 300, .inl (enS Q)))]) [0, 1, 2] rfl 6 rfl rfl rfl) rfl rfl hl.1 rfl (lv_room (Nat.le_of_ble_eq_true rfl)) dX6_wheelTold_65 ⟨Nat.zero_le _, Nat.zero_le _⟩) hS (fun _ _ z => z.elim) (fun _ z => z.elim) (fun r_10 _ t H1 locs ht hvm hw hB hz1 hk1 hS => ?_)
    have hP := gw_ro hP hk1
    generalize H1 = H at hP hS ⊢
    subst hw
    exact W.iret (v := gWorth (Q 11 k) (Q 10 k) (Q 13 k) (Q 12 k)) hx hb hr (fun t ht hW => ⟨⟨_, (), rfl, rfl, trivial⟩, hS.F ht⟩) hS.2.2 dX6_wheelTold_68
  · skip
    refine lv_tableOut (tgt := 69) hx hb dX6_wheelTold_1 (by decide) (by decide) ?_
    refine lv_aload_n hx hb dX6_wheelTold_69 rfl (lv_at hl 0 rfl) ?_
    refine lv_iload_n hx hb dX6_wheelTold_70 rfl (lv_at hl 1 rfl) ?_
    refine lv_iconst (v := 3) hx hb dX6_wheelTold_71 (by decide) ?_
    refine va_calli (va_runV (As := [.int (nI k), .int 3]) (rest := []) ⟨hx, hb, hml, hown, hts⟩ (met_X6_st l D cI cZ cL mo m4 m5 m6 m7 m8 m9 th nb nq nr (enS Q) k 3 (by first | assumption | omega) (by first | assumption | omega)) (cwV 2 hts gX6_wheelTold_X6_st rfl rfl rfl (by decide +kernel) ⟨Nat.le_of_ble_eq_true rfl, Nat.le_of_ble_eq_true rfl⟩) (gw_pvr hK hP (wc := [(mo, .inr (6, [.int th, .int (nI nb), .int (nI nq), .int (nI nr), .ref m4, .ref m5, .ref m6, .ref m7, .ref m8, .ref m9])), (m7, .inl (cI, 300, .inl (enS Q)))]) [0, 2] rfl 6 rfl rfl rfl) rfl rfl hl.1 rfl (lv_room (Nat.le_of_ble_eq_true rfl)) dX6_wheelTold_72 ⟨Nat.zero_le _, Nat.zero_le _⟩) hS (fun _ _ z => z.elim) (fun _ z => z.elim) (fun r_12 _ t H1 locs ht hvm hw hB hz1 hk1 hS => ?_)
    have hP := gw_ro hP hk1
    generalize H1 = H at hP hS ⊢
    subst hw
    refine gw_top (y := Q 14 k) (enS_3 Q k) ?_
    exact W.iret (v := Q 14 k) hx hb hr (fun t ht hW => ⟨⟨_, (), rfl, rfl, trivial⟩, hS.F ht⟩) hS.2.2 dX6_wheelTold_75

theorem wc_X6_raftTold_X6 : ∀ w ∈ u_ws RX6 TX6 10, w ∈ wsX6_raftTold := by decide +kernel
theorem wd_X6_raftTold_1 : (.fieldLink RX6 22 "GritWheelsModel" "boats" "[I" : Cond) ∈ wsX6_raftTold := by decide +kernel
set_option maxHeartbeats 4000000 in
set_option maxRecDepth 100000 in
theorem met_X6_raftTold (l : Launch) (D : va_G) (cI cZ cL : ClassId) (mo : Nat) (m4 : Nat) (m5 : Nat) (m6 : Nat) (m7 : Nat) (m8 : Nat) (m9 : Nat) (th : Int32) (nb : Nat) (nq : Nat) (nr : Nat) (Q : Nat → Nat → Int32) (day : Nat) (co : Int32) (nw : Nat) (ca : Nat → Int32) (we : Nat → Int32) (bo : Nat → Int32) (k : Nat) (v : Nat) (hk : k < 3) (hv4 : v < 4) (hnw : nw ≤ 60) (hcar : ∀ w, w < nw → Q 14 w = -1 ∨ Q 13 w = 2) (hrw : we k = -1 ↔ ¬ nI day < bo k) : Met l yX6_raftTold wsX6_raftTold ({ frames := 3, cells := 0, slots := 0, locals := 67 }) (gPr [.ref mo, .int (nI k), .int (nI v)] D [(mo, .inr (6, [.int th, .int (nI nb), .int (nI nq), .int (nI nr), .ref m4, .ref m5, .ref m6, .ref m7, .ref m8, .ref m9])), (m7, .inl (cI, 300, .inl (enS Q))), (m8, .inl (cI, 6, .inl (enB ca we))), (m9, .inl (cI, 3, .inl (enN day co nw)))] (gT cI cZ cL)) (va_Qi (fun (zr : Int32) (_ : Unit) => zr = gRaft Q nw day ca bo v k) (fun _ _ => True) gN) 0 0 gN := by
  refine Met.ofW (cc := cX6_raftTold) (maxL := 3) (ret := (some .int)) (by decide +kernel) rfl ?_
  intro p e s m args below meth c s₁ B hml hv
  obtain ⟨rfl, hP, hK⟩ := hv
  have hx := B.exec
  have hb := B.bytes
  have hr := B.returns
  have hts := atoms_spec (ws := wsX6_raftTold) B.pre
  have hown : s.vm.findClass RX6 = some m.cls := findClass_of_methodNamed B.named
  have hlocks := B.notSynchronized
  have hS : va_S gN s.heap s.heap [] := va_S.rf
  have hP : va_P D vwCl [(mo, .inr (6, [.int th, .int (nI nb), .int (nI nq), .int (nI nr), .ref m4, .ref m5, .ref m6, .ref m7, .ref m8, .ref m9])), (m7, .inl (cI, 300, .inl (enS Q))), (m8, .inl (cI, 6, .inl (enB ca we))), (m9, .inl (cI, 3, .inl (enN day co nw)))] s.heap := hP
  have hl := lv_entry ([.ref mo, .int (nI k), .int (nI v)]) (n := 3) (Nat.le_of_ble_eq_true rfl)
  rw [lg_entry_eq]
  generalize (lg_sl ([.ref mo, .int (nI k), .int (nI v)]) ++ List.replicate (3 - (lg_sl ([.ref mo, .int (nI k), .int (nI v)])).length) Slot.unset).toArray = ls at hl ⊢
  have hl : lv_has ls 3 [(0, .ref mo), (1, .int (nI k)), (2, .int (nI v))] := hl
  rcases (show v = 0 ∨ v = 1 ∨ v = 2 ∨ v = 3 by omega) with rfl | rfl | rfl | rfl
  · skip
    refine lv_iload_n hx hb dX6_raftTold_0 rfl (lv_at hl 2 rfl) ?_
    refine lv_if_ne (tgt := 17) hx hb dX6_raftTold_1 (by decide) (fun c_1 => False.elim (by revert c_1; decide)) (fun _ => ?_)
    refine lv_aload_n hx hb dX6_raftTold_4 rfl (lv_at hl 0 rfl) ?_
    refine va_get (D := D) (ci := 6) (v := .ref m8) (C := RX6) (T := TX6) (N := 10) hx hb hts wc_X6_raftTold_X6 hown hK hP 0 rfl rfl 8 (by decide) (hts _ wd_X6_raftTold_1) (fun _ h9 => h9) rfl dX6_raftTold_5 ?_
    refine lv_iconst (v := 2) hx hb dX6_raftTold_8 (by decide) ?_
    refine lv_iload_n hx hb dX6_raftTold_9 rfl (lv_at hl 1 rfl) ?_
    refine lv_imul hx hb dX6_raftTold_10 ?_
    refine gw_top (y := nI (2 * k)) (nI_mul 2 k) ?_
    refine lv_iconst (v := 0) hx hb dX6_raftTold_11 (by decide) ?_
    refine lv_iadd hx hb dX6_raftTold_12 ?_
    refine gw_top (y := nI ((2 * k) + 0)) (nI_add (2 * k) 0) ?_
    refine gw_iald hx hb hK hP 2 0 (k := (2 * k) + 0) rfl rfl (by omega) (by decide) dX6_raftTold_13 ?_
    refine gw_top (y := ca k) (enB_0 ca we k) ?_
    refine lv_goto (tgt := 56) hx hb dX6_raftTold_14 (by decide) ?_
    exact W.iret (v := ca k) hx hb hr (fun t ht hW => ⟨⟨_, (), rfl, (by first | rfl | (show _ = (if nI day < bo k then (1 : Int32) else 0); first | rw [if_pos (Decidable.not_not.mp (fun h => hc (hrw.mpr h)))] | rw [if_neg (hrw.mp (Decidable.not_not.mp hc))])), trivial⟩, hS.F ht⟩) hS.2.2 dX6_raftTold_56
  · skip
    refine lv_iload_n hx hb dX6_raftTold_0 rfl (lv_at hl 2 rfl) ?_
    refine lv_if_ne (tgt := 17) hx hb dX6_raftTold_1 (by decide) (fun _ => ?_) (fun c_2 => False.elim (by revert c_2; decide))
    refine lv_iload_n hx hb dX6_raftTold_17 rfl (lv_at hl 2 rfl) ?_
    refine lv_iconst (v := 1) hx hb dX6_raftTold_18 (by decide) ?_
    refine lv_icmp_ne (tgt := 30) hx hb dX6_raftTold_19 (by decide) (fun c_3 => False.elim (by revert c_3; decide)) (fun _ => ?_)
    refine lv_aload_n hx hb dX6_raftTold_22 rfl (lv_at hl 0 rfl) ?_
    refine lv_iload_n hx hb dX6_raftTold_23 rfl (lv_at hl 1 rfl) ?_
    refine va_calli (va_runV (As := [.int (nI k)]) (rest := []) ⟨hx, hb, hml, hown, hts⟩ (met_X6_left l D cI cZ cL mo m4 m5 m6 m7 m8 m9 th nb nq nr Q day co nw ca we k (by first | assumption | omega) (by first | assumption | omega) (by first | assumption | omega)) (cwV 1 hts gX6_raftTold_X6_left rfl rfl rfl (by decide +kernel) ⟨Nat.le_of_ble_eq_true rfl, Nat.le_of_ble_eq_true rfl⟩) (gw_pvr hK hP (wc := [(mo, .inr (6, [.int th, .int (nI nb), .int (nI nq), .int (nI nr), .ref m4, .ref m5, .ref m6, .ref m7, .ref m8, .ref m9])), (m7, .inl (cI, 300, .inl (enS Q))), (m8, .inl (cI, 6, .inl (enB ca we))), (m9, .inl (cI, 3, .inl (enN day co nw)))]) [0, 1, 2, 3] rfl 6 rfl rfl rfl) rfl rfl hl.1 rfl (lv_room (Nat.le_of_ble_eq_true rfl)) dX6_raftTold_24 ⟨Nat.zero_le _, Nat.zero_le _⟩) hS (fun _ _ z => z.elim) (fun _ z => z.elim) (fun r_5 _ t H1 locs ht hvm hw hB hz1 hk1 hS => ?_)
    have hP := gw_ro hP hk1
    generalize H1 = H at hP hS ⊢
    subst hw
    refine lv_goto (tgt := 56) hx hb dX6_raftTold_27 (by decide) ?_
    exact W.iret (v := gStill Q nw ca k) hx hb hr (fun t ht hW => ⟨⟨_, (), rfl, (by first | rfl | (show _ = (if nI day < bo k then (1 : Int32) else 0); first | rw [if_pos (Decidable.not_not.mp (fun h => hc (hrw.mpr h)))] | rw [if_neg (hrw.mp (Decidable.not_not.mp hc))])), trivial⟩, hS.F ht⟩) hS.2.2 dX6_raftTold_56
  · skip
    refine lv_iload_n hx hb dX6_raftTold_0 rfl (lv_at hl 2 rfl) ?_
    refine lv_if_ne (tgt := 17) hx hb dX6_raftTold_1 (by decide) (fun _ => ?_) (fun c_6 => False.elim (by revert c_6; decide))
    refine lv_iload_n hx hb dX6_raftTold_17 rfl (lv_at hl 2 rfl) ?_
    refine lv_iconst (v := 1) hx hb dX6_raftTold_18 (by decide) ?_
    refine lv_icmp_ne (tgt := 30) hx hb dX6_raftTold_19 (by decide) (fun _ => ?_) (fun c_7 => False.elim (by revert c_7; decide))
    refine lv_iload_n hx hb dX6_raftTold_30 rfl (lv_at hl 2 rfl) ?_
    refine lv_iconst (v := 2) hx hb dX6_raftTold_31 (by decide) ?_
    refine lv_icmp_ne (tgt := 43) hx hb dX6_raftTold_32 (by decide) (fun c_8 => False.elim (by revert c_8; decide)) (fun _ => ?_)
    refine lv_aload_n hx hb dX6_raftTold_35 rfl (lv_at hl 0 rfl) ?_
    refine lv_iload_n hx hb dX6_raftTold_36 rfl (lv_at hl 1 rfl) ?_
    refine va_calli (va_runV (As := [.int (nI k)]) (rest := []) ⟨hx, hb, hml, hown, hts⟩ (met_X6_upon l D cI cZ cL mo m4 m5 m6 m7 m8 m9 th nb nq nr Q day co nw k (by first | assumption | omega) (by first | assumption | omega) (by first | assumption | omega)) (cwV 1 hts gX6_raftTold_X6_upon rfl rfl rfl (by decide +kernel) ⟨Nat.le_of_ble_eq_true rfl, Nat.le_of_ble_eq_true rfl⟩) (gw_pvr hK hP (wc := [(mo, .inr (6, [.int th, .int (nI nb), .int (nI nq), .int (nI nr), .ref m4, .ref m5, .ref m6, .ref m7, .ref m8, .ref m9])), (m7, .inl (cI, 300, .inl (enS Q))), (m9, .inl (cI, 3, .inl (enN day co nw)))]) [0, 1, 3] rfl 6 rfl rfl rfl) rfl rfl hl.1 rfl (lv_room (Nat.le_of_ble_eq_true rfl)) dX6_raftTold_37 ⟨Nat.zero_le _, Nat.zero_le _⟩) hS (fun _ _ z => z.elim) (fun _ z => z.elim) (fun r_10 _ t H1 locs ht hvm hw hB hz1 hk1 hS => ?_)
    have hP := gw_ro hP hk1
    generalize H1 = H at hP hS ⊢
    subst hw
    refine lv_goto (tgt := 56) hx hb dX6_raftTold_40 (by decide) ?_
    exact W.iret (v := gS (fun j => if Q 14 j = nI k then 1 else 0) nw 0 0) hx hb hr (fun t ht hW => ⟨⟨_, (), rfl, (by first | rfl | (show _ = (if nI day < bo k then (1 : Int32) else 0); first | rw [if_pos (Decidable.not_not.mp (fun h => hc (hrw.mpr h)))] | rw [if_neg (hrw.mp (Decidable.not_not.mp hc))])), trivial⟩, hS.F ht⟩) hS.2.2 dX6_raftTold_56
  · skip
    refine lv_iload_n hx hb dX6_raftTold_0 rfl (lv_at hl 2 rfl) ?_
    refine lv_if_ne (tgt := 17) hx hb dX6_raftTold_1 (by decide) (fun _ => ?_) (fun c_11 => False.elim (by revert c_11; decide))
    refine lv_iload_n hx hb dX6_raftTold_17 rfl (lv_at hl 2 rfl) ?_
    refine lv_iconst (v := 1) hx hb dX6_raftTold_18 (by decide) ?_
    refine lv_icmp_ne (tgt := 30) hx hb dX6_raftTold_19 (by decide) (fun _ => ?_) (fun c_12 => False.elim (by revert c_12; decide))
    refine lv_iload_n hx hb dX6_raftTold_30 rfl (lv_at hl 2 rfl) ?_
    refine lv_iconst (v := 2) hx hb dX6_raftTold_31 (by decide) ?_
    refine lv_icmp_ne (tgt := 43) hx hb dX6_raftTold_32 (by decide) (fun _ => ?_) (fun c_13 => False.elim (by revert c_13; decide))
    refine lv_aload_n hx hb dX6_raftTold_43 rfl (lv_at hl 0 rfl) ?_
    refine lv_iload_n hx hb dX6_raftTold_44 rfl (lv_at hl 1 rfl) ?_
    refine va_calli (va_runV (As := [.int (nI k)]) (rest := []) ⟨hx, hb, hml, hown, hts⟩ (met_X6_isAway l D cI cZ cL mo m4 m5 m6 m7 m8 m9 th nb nq nr ca we k (by first | assumption | omega)) (cwV 1 hts gX6_raftTold_X6_isAway rfl rfl rfl (by decide +kernel) ⟨Nat.le_of_ble_eq_true rfl, Nat.le_of_ble_eq_true rfl⟩) (gw_pvr hK hP (wc := [(mo, .inr (6, [.int th, .int (nI nb), .int (nI nq), .int (nI nr), .ref m4, .ref m5, .ref m6, .ref m7, .ref m8, .ref m9])), (m8, .inl (cI, 6, .inl (enB ca we)))]) [0, 2] rfl 6 rfl rfl rfl) rfl rfl hl.1 rfl (lv_room (Nat.le_of_ble_eq_true rfl)) dX6_raftTold_45 ⟨Nat.zero_le _, Nat.zero_le _⟩) hS (fun _ _ z => z.elim) (fun _ z => z.elim) (fun r_15 _ t H1 locs ht hvm hw hB hz1 hk1 hS => ?_)
    have hP := gw_ro hP hk1
    generalize H1 = H at hP hS ⊢
    rcases hw with ⟨rfl, hc⟩ | ⟨rfl, hc⟩
    · skip
      refine lv_if_eq (tgt := 55) hx hb dX6_raftTold_48 (by decide) (fun c_17 => False.elim (by revert c_17; decide)) (fun _ => ?_)
      refine lv_iconst (v := 1) hx hb dX6_raftTold_51 (by decide) ?_
      refine lv_goto (tgt := 56) hx hb dX6_raftTold_52 (by decide) ?_
      exact W.iret (v := 1) hx hb hr (fun t ht hW => ⟨⟨_, (), rfl, (by first | rfl | (show _ = (if nI day < bo k then (1 : Int32) else 0); first | rw [if_pos (Decidable.not_not.mp (fun h => hc (hrw.mpr h)))] | rw [if_neg (hrw.mp (Decidable.not_not.mp hc))])), trivial⟩, hS.F ht⟩) hS.2.2 dX6_raftTold_56
    · skip
      refine lv_if_eq (tgt := 55) hx hb dX6_raftTold_48 (by decide) (fun _ => ?_) (fun c_18 => False.elim (by revert c_18; decide))
      refine lv_iconst (v := 0) hx hb dX6_raftTold_55 (by decide) ?_
      exact W.iret (v := 0) hx hb hr (fun t ht hW => ⟨⟨_, (), rfl, (by first | rfl | (show _ = (if nI day < bo k then (1 : Int32) else 0); first | rw [if_pos (Decidable.not_not.mp (fun h => hc (hrw.mpr h)))] | rw [if_neg (hrw.mp (Decidable.not_not.mp hc))])), trivial⟩, hS.F ht⟩) hS.2.2 dX6_raftTold_56
